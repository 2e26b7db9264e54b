/-- a new item's numbers -/
def newI (u : St) (ln c n : Nat) : St := fun f i => if i = u 30 0 + 1 then (if f = 21 then ln else if f = 22 then c else if f = 23 ∨ f = 24 ∨ f = 25 ∨ f = 26 ∨ f = 27 then 0 else if f = 31 then n else u f i) else if f = 30 ∧ i = 0 then u 30 0 + 1 else u f i
theorem rI_aup {al : Ad} {m q x : Nat} (h : x ≠ m) : rI (aup al 9 m q) x = rI al x := by
  unfold rI
  by_cases h0 : x = 0
  · simp [h0]
  · simp [h0, aup, h]
theorem newI_k {u : St} {ln c n f i : Nat} (h : f ≠ 21 ∧ f ≠ 22 ∧ f ≠ 23 ∧ f ≠ 24 ∧ f ≠ 25 ∧ f ≠ 26 ∧ f ≠ 27 ∧ f ≠ 31 ∧ f ≠ 30) : newI u ln c n f i = u f i := by
  unfold newI
  by_cases hi : i = u 30 0 + 1 <;> simp [hi, h]
theorem newI_i {u : St} {ln c n f i : Nat} (h : i ≠ u 30 0 + 1) (h2 : f ≠ 30) : newI u ln c n f i = u f i := by
  unfold newI; simp [h, h2]
theorem new_item {Z : Wo} {ta : Nat → ClassId} {pl : Nat → Nat} {al : Ad} {u : St} {ln c n q : Nat} (hI : Iv u) : wup (mC Z ta pl al u) 9 (u 30 0 + 1) (.inr (3, [.int (nI (u 30 0 + 1)), .int (nI ln), .int (nI c), .ref (pl 0), .int (nI 0), .int (nI 0), .int (nI 0), .int (nI 0)])) = mC Z ta pl (aup al 9 (u 30 0 + 1) q) (newI u ln c n) := by
  obtain ⟨⟨h1, h2, h7, hN, h30, -, -⟩, -, hI3, -, hI5, hI6, hI7⟩ := hI
  funext k i
  by_cases hk : k = 9 ∧ i = u 30 0 + 1
  · obtain ⟨rfl, rfl⟩ := hk
    rw [wup_self]
    simp [mC, cC, newI]
  · rw [wup_ne hk]
    rcases (show k = 0 ∨ k = 1 ∨ k = 2 ∨ k = 3 ∨ k = 4 ∨ k = 5 ∨ k = 6 ∨ k = 7 ∨ k = 8 ∨ k = 9 ∨ 10 ≤ k by omega) with rfl | rfl | rfl | rfl | rfl | rfl | rfl | rfl | rfl | rfl | h10
    · simp [mC, cC, aup, newI_k]
    · have : ∀ j, rI (aup al 9 (u 30 0 + 1) q) (u 8 j) = rI al (u 8 j) := fun j => rI_aup (by have := (hI3 j).1; omega)
      simp [mC, cC, newI_k, this]
    · simp [mC, cC, aup]
    · simp [mC, cC, aup, newI_k]
    · by_cases h4 : 1 ≤ i ∧ i ≤ 4
      · have : ∀ j, rI (aup al 9 (u 30 0 + 1) q) (u (40 + i) j) = rI al (u (40 + i) j) := fun j => rI_aup (by have := (hI5 i h4.1 h4.2).2.1 j; omega)
        have e : ∀ j, newI u ln c n (40 + i) j = u (40 + i) j := fun j => newI_k (by omega)
        simp [mC, cC, h4, this, e]
      · simp [mC, cC, h4]
    · simp [mC, cC, aup]
    · simp [mC, cC, newI_k]
    · have : ∀ j, rI (aup al 9 (u 30 0 + 1) q) (u 9 j) = rI al (u 9 j) := fun j => rI_aup (by have := (hI6 j).1; omega)
      simp [mC, cC, newI_k, this]
    · have : ∀ j, rI (aup al 9 (u 30 0 + 1) q) (u 10 j) = rI al (u 10 j) := fun j => rI_aup (by have := (hI7 j).1; omega)
      simp [mC, cC, newI_k, this]
    · have hi : i ≠ u 30 0 + 1 := fun z => hk ⟨rfl, z⟩
      have e30 : newI u ln c n 30 0 = u 30 0 + 1 := by simp [newI]
      by_cases hd : 1 ≤ i ∧ i ≤ u 30 0
      · have hd2 : 1 ≤ i ∧ i ≤ u 30 0 + 1 := ⟨hd.1, by omega⟩
        simp [mC, cC, e30, hd, hd2, newI_i hi]
      · have hd2 : ¬ (1 ≤ i ∧ i ≤ u 30 0 + 1) := by omega
        simp only [mC, cC, e30, hd, hd2, if_false]
    · simp [mC, show ¬ k < 10 by omega]
def finI (u : St) (j i : Nat) : St := addL (st (st u 9 (u 2 0) i) 2 0 (st u 9 (u 2 0) i 2 0 + 1)) (j + 1) i
set_option maxRecDepth 100000 in
set_option maxHeartbeats 4000000 in
/-- induct from 72 on: the item has been made -/
theorem l_induct2 {l : Launch} {D : va_G} {ta : Nat → ClassId} {pl : Nat → Nat} {bs : Nat} {al : Ad} {Z : Wo} {p : Program} {e : Env} {s : State} {m : MethodId} {args : Array Value} {below : List Frame} {meth : Method} {c : Code} {u : St} {post : Option Value → Ad → Wo → Prop} (X : Cx D ta pl bs 5 p s m args meth c cX4_induct wsX4_induct RX4 (some .int)) (j i ln c0 : Nat) (hj : j < 4) (hi : 1 ≤ i ∧ i ≤ u 30 0) (hN : u 2 0 < 400) (h12 : u 12 (j + 1) < 8) (hp : post (some (.int (nI i))) al (mC Z ta pl al (finI u j i))) : WW D bs 5 p l e { frames := 2, cells := 1, slots := 8, locals := 41 } s m args below meth c (QQ D bs below args s 1 8 post) al (mC Z ta pl al u) 1 8 72 [(0, .ref (al 0 0)), (1, .int (nI j)), (2, .int (nI ln)), (3, .int (nI c0))] [.ref (al 9 i)] := by
  have hiX2 : ∀ w ∈ u_ws RX2 TX2 8, w ∈ wsX4_induct := by decide +kernel
  have hiX4 : ∀ w ∈ u_ws RX4 TX4 13, w ∈ wsX4_induct := by decide +kernel
  refine g_astore X [(4, .ref (al 9 i)), (0, .ref (al 0 0)), (1, .int (nI j)), (2, .int (nI ln)), (3, .int (nI c0))] dX4_induct_72 (by decide) rfl ?_
  refine g_aload_n X 1 dX4_induct_74 rfl rfl ?_
  refine g_get X 0 0 cx0 rfl 5 (by decide) hiX4 (by decide +kernel) rfl rfl dX4_induct_75 ?_
  refine g_aload_n X 1 dX4_induct_78 rfl rfl ?_
  refine g_get X 0 0 cx0 rfl 7 (by decide) hiX4 (by decide +kernel) rfl rfl dX4_induct_79 ?_
  refine g_aload X 0 dX4_induct_82 rfl ?_
  refine g_aast0 X 7 0 9 i cx7 (cx9 ⟨by omega, by omega⟩) (u 2 0) (by omega) (by omega) _ (upr (by omega) (up_items )) dX4_induct_84 ?_
  generalize hu_1 : st u 9 (u 2 0) i = u_1
  have k0u_1 : u_1 0 0 = u 0 0 := by rw [← hu_1]; first | rfl | exact st_nf (by omega)
  have k30u_1 : u_1 30 0 = u 30 0 := by rw [← hu_1]; first | rfl | exact st_nf (by omega)
  have k12u_1 : u_1 12 (j + 1) = u 12 (j + 1) := by rw [← hu_1]; first | rfl | exact st_nf (by omega)
  refine g_aload_n X 1 dX4_induct_85 rfl rfl ?_
  refine g_dup X dX4_induct_86 rfl ?_
  refine g_get X 0 0 cx0 rfl 7 (by decide) hiX4 (by decide +kernel) rfl rfl dX4_induct_87 ?_
  refine g_iconst X (v := nI 1) dX4_induct_90 (by decide) ?_
  refine g_iadd X dX4_induct_91 (nI_add _ _) ?_
  refine g_put X tyX4 tyX4_ok nmX4 0 0 cx0 rfl 7 (by decide) hiX4 (by decide +kernel) rfl rfl (ty := .int) (by decide +kernel) rfl rfl (Nat.le_of_ble_eq_true rfl) _ up_itemCount dX4_induct_92 ?_
  generalize hu_2 : st u_1 2 0 ((u_1 2 0) + 1) = u_2
  have k0u_2 : u_2 0 0 = u_1 0 0 := by rw [← hu_2]; first | rfl | exact st_nf (by omega)
  have k30u_2 : u_2 30 0 = u_1 30 0 := by rw [← hu_2]; first | rfl | exact st_nf (by omega)
  have k12u_2 : u_2 12 (j + 1) = u_1 12 (j + 1) := by rw [← hu_2]; first | rfl | exact st_nf (by omega)
  refine g_aload_n X 1 dX4_induct_95 rfl rfl ?_
  refine g_get X 0 0 cx0 rfl 3 (by decide) hiX4 (by decide +kernel) rfl rfl dX4_induct_96 ?_
  refine g_iload_n X 2 dX4_induct_99 rfl rfl ?_
  refine g_aald1 X 2 0 cx2 j (by omega) (by omega) (ar2 (by omega)) dX4_induct_100 ?_
  refine g_aload X 0 dX4_induct_101 rfl ?_
  refine g_callDV0 (n := 1) X 3 (j + 1) [.ref (al 9 i)] (cx3 ⟨by omega, by omega⟩) rfl (c_addLast (j + 1) i ⟨by omega, by omega⟩ (by omega) ⟨by omega, by omega⟩) gX4_induct_X1_addLast rfl ⟨rfl, rfl⟩ (by decide +kernel) ⟨by decide, by decide⟩ rfl (Nat.le_of_ble_eq_true rfl) dX4_induct_103 ⟨by decide, by decide⟩ _ rfl ?_
  generalize hu_3 : addL u_2 (j + 1) i = u_3
  have k0u_3 : u_3 0 0 = u_2 0 0 := by rw [← hu_3]; exact addL_k (by decide) (by omega)
  have k30u_3 : u_3 30 0 = u_2 30 0 := by rw [← hu_3]; exact addL_k (by decide) (by omega)
  refine g_aload X 0 dX4_induct_106 rfl ?_
  refine g_get X 9 i (cx9 ⟨by omega, by omega⟩) rfl 0 (by decide) hiX2 (by decide +kernel) rfl rfl dX4_induct_108 ?_
  exact g_iret X rfl dX4_induct_111 (by subst hu_1; subst hu_2; subst hu_3; exact hp)
set_option maxRecDepth 100000 in
set_option maxHeartbeats 4000000 in
/-- induct: an item is made -/
theorem c_induct_1 {l : Launch} {D : va_G} {ta : Nat → ClassId} {pl : Nat → Nat} {bs : Nat} {al : Ad} {Z : Wo} {u : St} (j ln c0 : Nat) (hI : Iv u) (hj : j < 4) (hl : 1 ≤ ln ∧ ln ≤ 2) (hc : c0 < 16) (hr : u 2 0 < 400) (h12 : u 12 (j + 1) < 8) : GM l D ta pl bs yX4_induct wsX4_induct { frames := 2, cells := 1, slots := 8, locals := 41 } 1 8 [.ref (al 0 0), .int (nI j), .int (nI ln), .int (nI c0)] al (mC Z ta pl al u) (fun r al' C' => r = some (.int (nI (u 2 0 + 1))) ∧ ∃ q, al' = aup al 9 (u 30 0 + 1) q ∧ C' = mC Z ta pl al' (finI (newI u ln c0 (j + 1)) j (u 30 0 + 1))) := by
  refine GM.of (by decide) rfl (Nat.le_of_ble_eq_true rfl) ?_
  intro p e s m args below meth c X hnm
  have hiX2 : ∀ w ∈ u_ws RX2 TX2 8, w ∈ wsX4_induct := by decide +kernel
  have hiX4 : ∀ w ∈ u_ws RX4 TX4 13, w ∈ wsX4_induct := by decide +kernel
  obtain ⟨⟨h1, h2, h7, hN, h30, -, -⟩, -⟩ := id hI
  refine g_lv (lv' := [(0, .ref (al 0 0)), (1, .int (nI j)), (2, .int (nI ln)), (3, .int (nI c0))]) [0, 1, 2, 3] rfl ?_
  refine g_iload_n X 1 dX4_induct_0 rfl rfl ?_
  refine g_callDS1 (n := 1) X [.int (nI j)] (c_isInduct ((nI j))) gX4_induct_X4_isInduct rfl ⟨rfl, rfl⟩ (by decide +kernel) ⟨by decide, by decide⟩ rfl (Nat.le_of_ble_eq_true rfl) dX4_induct_1 ⟨by decide, by decide⟩ _ rfl ?_
  refine g_if_eq X 14 dX4_induct_4 (by decide) (bN_eq0) (fun c_1 => ?_) (fun c_1 => ?_)
  · exact absurd (inR_nI hj (by decide)) c_1
  · have c_1 := Decidable.of_not_not c_1
    refine g_iload_n X 3 dX4_induct_7 rfl rfl ?_
    refine g_callDS1 (n := 1) X [.int (nI c0)] (c_isChute ((nI c0))) gX4_induct_X4_isChute rfl ⟨rfl, rfl⟩ (by decide +kernel) ⟨by decide, by decide⟩ rfl (Nat.le_of_ble_eq_true rfl) dX4_induct_8 ⟨by decide, by decide⟩ _ rfl ?_
    refine g_if_ne X 17 dX4_induct_11 (by decide) (bN_eq0) (fun c_2 => ?_) (fun c_2 => ?_)
    · have c_2 := Decidable.of_not_not c_2
      refine g_iload_n X 2 dX4_induct_17 rfl rfl ?_
      refine g_iconst X (v := nI 1) dX4_induct_18 (by decide) ?_
      refine g_icmp_lt X 27 dX4_induct_19 (by decide) (nI_ltI (by omega) (by omega)) (fun c_3 => ?_) (fun c_3 => ?_)
      · exact absurd c_3 (by omega)
      · refine g_iload_n X 2 dX4_induct_22 rfl rfl ?_
        refine g_iconst X (v := nI 2) dX4_induct_23 (by decide) ?_
        refine g_icmp_le X 30 dX4_induct_24 (by decide) (nI_leI (by omega) (by omega)) (fun c_4 => ?_) (fun c_4 => ?_)
        · refine g_aload_n X 0 dX4_induct_30 rfl rfl ?_
          refine g_get X 0 0 cx0 rfl 7 (by decide) hiX4 (by decide +kernel) rfl rfl dX4_induct_31 ?_
          refine g_sipush X (v := nI 400) dX4_induct_34 (by decide) ?_
          refine g_icmp_lt X 43 dX4_induct_37 (by decide) (nI_ltI (by omega) (by omega)) (fun c_5 => ?_) (fun c_5 => ?_)
          · refine g_aload_n X 0 dX4_induct_43 rfl rfl ?_
            refine g_get X 0 0 cx0 rfl 3 (by decide) hiX4 (by decide +kernel) rfl rfl dX4_induct_44 ?_
            refine g_iload_n X 1 dX4_induct_47 rfl rfl ?_
            refine g_aald1 X 2 0 cx2 j (by omega) (by omega) (ar2 (by omega)) dX4_induct_48 ?_
            refine g_callDV1 (n := 0) X 3 (j + 1) [] (cx3 ⟨by omega, by omega⟩) rfl (c_isRowFull (j + 1) ⟨by omega, by omega⟩ (by omega)) gX4_induct_X1_isRowFull rfl ⟨rfl, rfl⟩ (by decide +kernel) ⟨by decide, by decide⟩ rfl (Nat.le_of_ble_eq_true rfl) dX4_induct_49 ⟨by decide, by decide⟩ _ rfl ?_
            refine g_if_eq X 57 dX4_induct_52 (by decide) (bN_eq0) (fun c_6 => ?_) (fun c_6 => ?_)
            · refine g_new (N := 8) (ci := 3) X 9 (u 30 0 + 1) (by show (if 1 ≤ u 30 0 + 1 ∧ u 30 0 + 1 ≤ u 30 0 then some _ else none) = none; rw [if_neg (by omega)]) tyX2 tyX2_ok rfl hiX2 (by decide +kernel) (by decide +kernel) (by decide +kernel) [.int (nI 0), .int (nI 0), .int (nI 0), .null, .int (nI 0), .int (nI 0), .int (nI 0), .int (nI 0)] (fun j hj => by rcases (show j = 0 ∨ j = 1 ∨ j = 2 ∨ j = 3 ∨ j = 4 ∨ j = 5 ∨ j = 6 ∨ j = 7 by omega) with rfl | rfl | rfl | rfl | rfl | rfl | rfl | rfl <;> rfl) (by decide) (by decide) dX4_induct_57 (fun q => ?_)
              refine g_dup X dX4_induct_60 rfl ?_
              refine g_aload_n X 0 dX4_induct_61 rfl rfl ?_
              refine g_get X 0 0 (by rw [wup_ne (by omega)]; exact cx0) rfl 7 (by decide) hiX4 (by decide +kernel) rfl rfl dX4_induct_62 ?_
              refine g_iconst X (v := nI 1) dX4_induct_65 (by decide) ?_
              refine g_iadd X dX4_induct_66 (nI_add _ _) ?_
              refine g_iload_n X 2 dX4_induct_67 rfl rfl ?_
              refine g_iload_n X 3 dX4_induct_68 rfl rfl ?_
              refine g_callI (n := 3) X (aup al 9 (u 30 0 + 1) q 9 (u 30 0 + 1)) [.int (nI (u 2 0 + 1)), .int (nI ln), .int (nI c0)] (c_Item 9 (u 30 0 + 1) _ _ _ wup_self) ggX4_induct_X2_init rfl rfl rfl (by decide +kernel) (by decide +kernel) (by decide +kernel) rfl (by decide +kernel) ⟨by decide, by decide⟩ rfl (Nat.le_of_ble_eq_true rfl) dX4_induct_69 ⟨by decide, by decide⟩ _ rfl (fun rv al2 C2 h9 => ?_)
              obtain ⟨rfl, rfl, rfl⟩ := h9
              refine g_wo (C1 := mC Z ta pl (aup al 9 (u 30 0 + 1) q) (newI u ln c0 (j + 1))) (by rw [wup_wup, ← h30]; exact new_item (ln := ln) (c := c0) (n := j + 1) (q := q) hI) ?_
              refine g_lv (lv' := [(0, .ref (aup al 9 (u 30 0 + 1) q 0 0)), (1, .int (nI j)), (2, .int (nI ln)), (3, .int (nI c0))]) [0, 1, 2, 3] rfl ?_
              have e30 : newI u ln c0 (j + 1) 30 0 = u 30 0 + 1 := by simp [newI]
              have e2 : newI u ln c0 (j + 1) 2 0 = u 2 0 := newI_k (by omega)
              have e12 : newI u ln c0 (j + 1) 12 (j + 1) = u 12 (j + 1) := newI_k (by omega)
              exact l_induct2 (u := newI u ln c0 (j + 1)) X j (u 30 0 + 1) ln c0 hj ⟨by omega, by omega⟩ (by omega) (by omega) ⟨by rw [h30], q, rfl, rfl⟩
            · have c_6 := Decidable.of_not_not c_6
              exact absurd c_6 (by omega)
          · exact absurd (by omega) c_5
        · exact absurd (by omega) c_4
    · exact absurd (inR_nI hc (by decide)) c_2
