set_option maxRecDepth 100000 in
set_option maxHeartbeats 4000000 in
/-- the loop of nextInTurn -/
theorem l_nextInTurn {l : Launch} {D : va_G} {ta : Nat → ClassId} {pl : Nat → Nat} {bs : Nat} {al : Ad} {Z : Wo} {p : Program} {e : Env} {s : State} {m : MethodId} {args : Array Value} {below : List Frame} {meth : Method} {c : Code} {u : St} (X : Cx D ta pl bs 4 p s m args meth c cX4_nextInTurn wsX4_nextInTurn RX4 (some (.object "LoopSorter$Induct"))) : ∀ (n9 i : Nat), i ≤ 4 → 4 + 1 ≤ i + n9 → WW D bs 4 p l e (rmF 0 0) s m args below meth c (QQ D bs below args s 0 0 (fun r al' C' => r = some (rN al (nxT u 4)) ∧ al' = al ∧ C' = mC Z ta pl al u)) al (mC Z ta pl al u) 0 0 4 [(2, .int (nI i)), (1, rN al (nxT u i)), (0, .ref (al 0 0))] [] := by
  have hiX1 : ∀ w ∈ u_ws RX1 TX1 5, w ∈ wsX4_nextInTurn := by decide +kernel
  have hiX4 : ∀ w ∈ u_ws RX4 TX4 13, w ∈ wsX4_nextInTurn := by decide +kernel
  intro n9
  induction n9 with
  | zero => intro i h8 h9; exact absurd h9 (by omega)
  | succ n9 ih =>
    intro i h8 h9
    have hn9 := nxT_le (u := u) i
    by_cases hz : nxT u i = 0
    · rw [rN_0 hz]
      refine g_iload_n X 0 dX4_nextInTurn_4 rfl rfl ?_
      refine g_iconst X (v := nI 4) dX4_nextInTurn_5 (by decide) ?_
      refine g_icmp_ge X 47 dX4_nextInTurn_6 (by decide) (nI_leI (by omega) (by omega)) (fun c_1 => ?_) (fun c_1 => ?_)
      · refine g_aload_nN X 1 dX4_nextInTurn_47 rfl rfl ?_
        exact g_aret X rfl ⟨_, rfl⟩ (Or.inl rfl) dX4_nextInTurn_48 ⟨by have e9 : i = 4 := (by omega); rw [← e9, rN_0 hz], rfl, rfl⟩
      · refine g_aload_n X 2 dX4_nextInTurn_9 rfl rfl ?_
        refine g_get X 0 0 cx0 rfl 3 (by decide) hiX4 (by decide +kernel) rfl rfl dX4_nextInTurn_10 ?_
        refine g_iload_n X 0 dX4_nextInTurn_13 rfl rfl ?_
        refine g_aald1 X 2 0 cx2 i (by omega) (by omega) (ar2 (by omega)) dX4_nextInTurn_14 ?_
        refine g_astore_n X [(3, .ref (al 3 (i + 1))), (2, .int (nI i)), (1, .null), (0, .ref (al 0 0))] dX4_nextInTurn_15 rfl (by decide) rfl ?_
        refine g_aload_n X 0 dX4_nextInTurn_16 rfl rfl ?_
        refine g_get X 3 (i + 1) (cx3 ⟨by omega, by omega⟩) rfl 4 (by decide) hiX1 (by decide +kernel) rfl rfl dX4_nextInTurn_17 ?_
        refine g_if_ne X 41 dX4_nextInTurn_20 (by decide) (Iff.rfl) (fun c_2 => ?_) (fun c_2 => ?_)
        · refine g_iinc X 1 [(2, .int (nI (i + 1))), (3, .ref (al 3 (i + 1))), (1, .null), (0, .ref (al 0 0))] dX4_nextInTurn_41 rfl (nI_inc (by decide)) (by decide) rfl ?_
          refine g_goto X 4 dX4_nextInTurn_44 (by decide) ?_
          refine g_lv [0, 2, 3] rfl ?_
          have e9 : rN al (nxT u (i + 1)) = .null := by rw [nxT, if_neg (fun z => c_2 z.1)]; exact rN_0 hz
          have q9 := ih (i + 1) (by omega) (by omega)
          rw [e9] at q9
          exact q9
        · refine g_aload_nN X 2 dX4_nextInTurn_23 rfl rfl ?_
          refine g_ifnull_n X 39 dX4_nextInTurn_24 (by decide) ?_
          refine g_aload_n X 0 dX4_nextInTurn_39 rfl rfl ?_
          refine g_astore_n X [(1, .ref (al 3 (i + 1))), (3, .ref (al 3 (i + 1))), (2, .int (nI i)), (0, .ref (al 0 0))] dX4_nextInTurn_40 rfl (by decide) rfl ?_
          refine g_iinc X 2 [(2, .int (nI (i + 1))), (1, .ref (al 3 (i + 1))), (3, .ref (al 3 (i + 1))), (0, .ref (al 0 0))] dX4_nextInTurn_41 rfl (nI_inc (by decide)) (by decide) rfl ?_
          refine g_goto X 4 dX4_nextInTurn_44 (by decide) ?_
          refine g_lv [0, 1, 3] rfl ?_
          have e9 : rN al (nxT u (i + 1)) = .ref (al 3 (i + 1)) := by rw [nxT, if_pos ⟨c_2, Or.inl hz⟩]; exact rN_p (by omega)
          have q9 := ih (i + 1) (by omega) (by omega)
          rw [e9] at q9
          exact q9
    · rw [rN_p hz]
      refine g_iload_n X 0 dX4_nextInTurn_4 rfl rfl ?_
      refine g_iconst X (v := nI 4) dX4_nextInTurn_5 (by decide) ?_
      refine g_icmp_ge X 47 dX4_nextInTurn_6 (by decide) (nI_leI (by omega) (by omega)) (fun c_1 => ?_) (fun c_1 => ?_)
      · refine g_aload_n X 1 dX4_nextInTurn_47 rfl rfl ?_
        exact g_aret X rfl ⟨_, rfl⟩ (Or.inr ⟨_, rfl⟩) dX4_nextInTurn_48 ⟨by have e9 : i = 4 := (by omega); rw [← e9, rN_p hz], rfl, rfl⟩
      · refine g_aload_n X 2 dX4_nextInTurn_9 rfl rfl ?_
        refine g_get X 0 0 cx0 rfl 3 (by decide) hiX4 (by decide +kernel) rfl rfl dX4_nextInTurn_10 ?_
        refine g_iload_n X 0 dX4_nextInTurn_13 rfl rfl ?_
        refine g_aald1 X 2 0 cx2 i (by omega) (by omega) (ar2 (by omega)) dX4_nextInTurn_14 ?_
        refine g_astore_n X [(3, .ref (al 3 (i + 1))), (2, .int (nI i)), (1, .ref (al 3 (nxT u i))), (0, .ref (al 0 0))] dX4_nextInTurn_15 rfl (by decide) rfl ?_
        refine g_aload_n X 0 dX4_nextInTurn_16 rfl rfl ?_
        refine g_get X 3 (i + 1) (cx3 ⟨by omega, by omega⟩) rfl 4 (by decide) hiX1 (by decide +kernel) rfl rfl dX4_nextInTurn_17 ?_
        refine g_if_ne X 41 dX4_nextInTurn_20 (by decide) (Iff.rfl) (fun c_2 => ?_) (fun c_2 => ?_)
        · refine g_iinc X 1 [(2, .int (nI (i + 1))), (3, .ref (al 3 (i + 1))), (1, .ref (al 3 (nxT u i))), (0, .ref (al 0 0))] dX4_nextInTurn_41 rfl (nI_inc (by decide)) (by decide) rfl ?_
          refine g_goto X 4 dX4_nextInTurn_44 (by decide) ?_
          refine g_lv [0, 2, 3] rfl ?_
          have e9 : rN al (nxT u (i + 1)) = .ref (al 3 (nxT u i)) := by rw [nxT, if_neg (fun z => c_2 z.1)]; exact rN_p hz
          have q9 := ih (i + 1) (by omega) (by omega)
          rw [e9] at q9
          exact q9
        · refine g_aload_n X 2 dX4_nextInTurn_23 rfl rfl ?_
          refine g_ifnull_r X dX4_nextInTurn_24 ?_
          refine g_aload_n X 0 dX4_nextInTurn_27 rfl rfl ?_
          refine g_get X 3 (i + 1) (cx3 ⟨by omega, by omega⟩) rfl 3 (by decide) hiX1 (by decide +kernel) rfl rfl dX4_nextInTurn_28 ?_
          refine g_aload_n X 2 dX4_nextInTurn_31 rfl rfl ?_
          refine g_get X 3 (nxT u i) (cx3 ⟨by omega, by omega⟩) rfl 3 (by decide) hiX1 (by decide +kernel) rfl rfl dX4_nextInTurn_32 ?_
          refine g_lcmp X dX4_nextInTurn_35 ?_
          refine g_if_ge X 41 dX4_nextInTurn_36 (by decide) (lg_ge) (fun c_3 => ?_) (fun c_3 => ?_)
          · refine g_iinc X 1 [(2, .int (nI (i + 1))), (3, .ref (al 3 (i + 1))), (1, .ref (al 3 (nxT u i))), (0, .ref (al 0 0))] dX4_nextInTurn_41 rfl (nI_inc (by decide)) (by decide) rfl ?_
            refine g_goto X 4 dX4_nextInTurn_44 (by decide) ?_
            refine g_lv [0, 2, 3] rfl ?_
            have e9 : rN al (nxT u (i + 1)) = .ref (al 3 (nxT u i)) := by rw [nxT, if_neg (fun z => z.2.elim hz c_3)]; exact rN_p hz
            have q9 := ih (i + 1) (by omega) (by omega)
            rw [e9] at q9
            exact q9
          · refine g_aload_n X 0 dX4_nextInTurn_39 rfl rfl ?_
            refine g_astore_n X [(1, .ref (al 3 (i + 1))), (3, .ref (al 3 (i + 1))), (2, .int (nI i)), (0, .ref (al 0 0))] dX4_nextInTurn_40 rfl (by decide) rfl ?_
            refine g_iinc X 2 [(2, .int (nI (i + 1))), (1, .ref (al 3 (i + 1))), (3, .ref (al 3 (i + 1))), (0, .ref (al 0 0))] dX4_nextInTurn_41 rfl (nI_inc (by decide)) (by decide) rfl ?_
            refine g_goto X 4 dX4_nextInTurn_44 (by decide) ?_
            refine g_lv [0, 1, 3] rfl ?_
            have e9 : rN al (nxT u (i + 1)) = .ref (al 3 (i + 1)) := by rw [nxT, if_pos ⟨c_2, Or.inr (Decidable.of_not_not c_3)⟩]; exact rN_p (by omega)
            have q9 := ih (i + 1) (by omega) (by omega)
            rw [e9] at q9
            exact q9

set_option maxRecDepth 100000 in
set_option maxHeartbeats 4000000 in
/-- nextInTurn -/
theorem c_nextInTurn {l : Launch} {D : va_G} {ta : Nat → ClassId} {pl : Nat → Nat} {bs : Nat} {al : Ad} {Z : Wo} {u : St}   : GD l D ta pl bs yX4_nextInTurn wsX4_nextInTurn (rmF 0 0) [.ref (al 0 0)] al (mC Z ta pl al u) (some (rN al (nxT u 4))) (mC Z ta pl al u) := by
  refine GM.of (by decide) rfl (Nat.le_of_ble_eq_true rfl) ?_
  intro p e s m args below meth c X hnm
  refine g_lv (lv' := [(0, .ref (al 0 0))]) [0] rfl ?_
  refine g_null X dX4_nextInTurn_0 ?_
  refine g_astore_nN X [(1, .null), (0, .ref (al 0 0))] dX4_nextInTurn_1 rfl (by decide) rfl ?_
  refine g_iconst X (v := nI 0) dX4_nextInTurn_2 (by decide) ?_
  refine g_istore_n X [(2, .int (nI 0)), (1, .null), (0, .ref (al 0 0))] dX4_nextInTurn_3 rfl (by decide) rfl ?_
  refine g_lv [0, 1, 2] rfl ?_
  exact l_nextInTurn X 5 0 (Nat.zero_le _) (Nat.le_refl _)

set_option maxRecDepth 100000 in
set_option maxHeartbeats 4000000 in
/-- putFirstOn -/
theorem c_putFirstOn {l : Launch} {D : va_G} {ta : Nat → ClassId} {pl : Nat → Nat} {bs : Nat} {al : Ad} {Z : Wo} {u : St} (n : Nat) (h0 : 1 ≤ n ∧ n ≤ 4) (hI : Iv u) : GD l D ta pl bs yX4_putFirstOn wsX4_putFirstOn (rmF 3 64) [.ref (al 0 0), .ref (al 3 n)] al (mC Z ta pl al u) none (mC Z ta pl al (putF u n)) := by
  refine GM.of (by decide) rfl (Nat.le_of_ble_eq_true rfl) ?_
  intro p e s m args below meth c X hnm
  have hiX1 : ∀ w ∈ u_ws RX1 TX1 5, w ∈ wsX4_putFirstOn := by decide +kernel
  have hiX2 : ∀ w ∈ u_ws RX2 TX2 8, w ∈ wsX4_putFirstOn := by decide +kernel
  have hiX4 : ∀ w ∈ u_ws RX4 TX4 13, w ∈ wsX4_putFirstOn := by decide +kernel
  obtain ⟨⟨h1, h2, h7, hN, h30, -, -⟩, hI2, hI3, -, hI5, -⟩ := id hI
  obtain ⟨hr1, hr2, hr3, hr4, -⟩ := hI5 n h0.1 h0.2
  have hr9 : ∀ j, j < u 12 n → u (40 + n) j ≠ 0 ∧ u (40 + n) j ≤ u 30 0 := fun j hj => ⟨(hr3 j hj).1, by have := hr2 j; omega⟩
  have hr8 := hr2 0
  have hp9 := pos3_lt (n := n) (T := u 0 0) h0 h1 h2
  refine g_lv (lv' := [(0, .ref (al 0 0)), (1, .ref (al 3 n))]) [0, 1] rfl ?_
  refine g_aload_n X 1 dX4_putFirstOn_0 rfl rfl ?_
  by_cases hz : u 12 n = 0
  · skip
    refine g_callDV1 (n := 0) X 3 n [] (cx3 ⟨by omega, by omega⟩) rfl (c_first_0 n ⟨by omega, by omega⟩ hz) gX4_putFirstOn_X1_first rfl ⟨rfl, rfl⟩ (by decide +kernel) ⟨by decide, by decide⟩ rfl (Nat.le_of_ble_eq_true rfl) dX4_putFirstOn_1 ⟨Nat.zero_le _, Nat.zero_le _⟩ _ rfl ?_
    refine g_astore_nN X [(2, .null), (0, .ref (al 0 0)), (1, .ref (al 3 n))] dX4_putFirstOn_4 rfl (by decide) rfl ?_
    refine g_aload_n X 1 dX4_putFirstOn_5 rfl rfl ?_
    refine g_aload_n X 2 dX4_putFirstOn_6 rfl rfl ?_
    refine g_get X 3 n (cx3 ⟨by omega, by omega⟩) rfl 0 (by decide) hiX1 (by decide +kernel) rfl rfl dX4_putFirstOn_7 ?_
    have hq_1 : tA u ((n - 1) * u 0 0 / 4) < u 0 0 := tA_lt (by omega) (by omega)
    refine g_callDV1 (n := 1) X 0 0 [.int (nI ((n - 1) * u 0 0 / 4))] cx0 rfl (c_trayAt ((n - 1) * u 0 0 / 4) (by omega) (by omega) (by omega) (by omega)) gX4_putFirstOn_X4_trayAt rfl ⟨rfl, rfl⟩ (by decide +kernel) ⟨by decide, by decide⟩ rfl (Nat.le_of_ble_eq_true rfl) dX4_putFirstOn_10 ⟨Nat.zero_le _, Nat.zero_le _⟩ _ rfl ?_
    refine g_istore_n X [(3, .int (nI (tA u ((n - 1) * u 0 0 / 4)))), (2, .null), (0, .ref (al 0 0)), (1, .ref (al 3 n))] dX4_putFirstOn_13 rfl (by decide) rfl ?_
    refine g_aload_nN X 1 dX4_putFirstOn_14 rfl rfl ?_
    refine g_ifnull_n X 27 dX4_putFirstOn_15 (by decide) ?_
    exact g_vret X rfl dX4_putFirstOn_27 ⟨rfl, rfl, congrArg _ (by rw [putF, if_pos hz])⟩
  · skip
    have hr7 := (hr3 0 (by omega)).1
    refine g_callDV1 (n := 0) X 3 n [] (cx3 ⟨by omega, by omega⟩) rfl (c_first_1 n ⟨by omega, by omega⟩ (by omega) (by omega) (hr3 0 (by omega)).1) gX4_putFirstOn_X1_first rfl ⟨rfl, rfl⟩ (by decide +kernel) ⟨by decide, by decide⟩ rfl (Nat.le_of_ble_eq_true rfl) dX4_putFirstOn_1 ⟨Nat.zero_le _, Nat.zero_le _⟩ _ rfl ?_
    refine g_astore_n X [(2, .ref (al 9 (u (40 + n) 0))), (0, .ref (al 0 0)), (1, .ref (al 3 n))] dX4_putFirstOn_4 rfl (by decide) rfl ?_
    refine g_aload_n X 1 dX4_putFirstOn_5 rfl rfl ?_
    refine g_aload_n X 2 dX4_putFirstOn_6 rfl rfl ?_
    refine g_get X 3 n (cx3 ⟨by omega, by omega⟩) rfl 0 (by decide) hiX1 (by decide +kernel) rfl rfl dX4_putFirstOn_7 ?_
    have hq_2 : tA u ((n - 1) * u 0 0 / 4) < u 0 0 := tA_lt (by omega) (by omega)
    refine g_callDV1 (n := 1) X 0 0 [.int (nI ((n - 1) * u 0 0 / 4))] cx0 rfl (c_trayAt ((n - 1) * u 0 0 / 4) (by omega) (by omega) (by omega) (by omega)) gX4_putFirstOn_X4_trayAt rfl ⟨rfl, rfl⟩ (by decide +kernel) ⟨by decide, by decide⟩ rfl (Nat.le_of_ble_eq_true rfl) dX4_putFirstOn_10 ⟨Nat.zero_le _, Nat.zero_le _⟩ _ rfl ?_
    refine g_istore_n X [(3, .int (nI (tA u ((n - 1) * u 0 0 / 4)))), (2, .ref (al 9 (u (40 + n) 0))), (0, .ref (al 0 0)), (1, .ref (al 3 n))] dX4_putFirstOn_13 rfl (by decide) rfl ?_
    refine g_aload_n X 1 dX4_putFirstOn_14 rfl rfl ?_
    refine g_ifnull_r X dX4_putFirstOn_15 ?_
    refine g_aload_n X 2 dX4_putFirstOn_18 rfl rfl ?_
    refine g_aload_n X 1 dX4_putFirstOn_19 rfl rfl ?_
    refine g_iload_n X 0 dX4_putFirstOn_20 rfl rfl ?_
    refine g_callDV1 (n := 2) X 0 0 [.ref (al 9 (u (40 + n) 0)), .int (nI (tA u ((n - 1) * u 0 0 / 4)))] cx0 rfl (c_isFreeFor (u (40 + n) 0) (tA u ((n - 1) * u 0 0 / 4)) (by omega) (by omega) ⟨by omega, by omega⟩ (by omega)) gX4_putFirstOn_X4_isFreeFor rfl ⟨rfl, rfl⟩ (by decide +kernel) ⟨by decide, by decide⟩ rfl (Nat.le_of_ble_eq_true rfl) dX4_putFirstOn_21 ⟨Nat.zero_le _, Nat.zero_le _⟩ _ rfl ?_
    refine g_if_ne X 28 dX4_putFirstOn_24 (by decide) (bN_eq0) (fun c_3 => ?_) (fun c_3 => ?_)
    · have c_3 := Decidable.of_not_not c_3
      refine g_aload_n X 3 dX4_putFirstOn_28 rfl rfl ?_
      refine g_callDV0 (n := 0) X 3 n [] (cx3 ⟨by omega, by omega⟩) rfl (c_removeFirst n ⟨by omega, by omega⟩ (by omega) (by omega) (by assumption)) gX4_putFirstOn_X1_removeFirst rfl ⟨rfl, rfl⟩ (by decide +kernel) ⟨by decide, by decide⟩ rfl (Nat.le_of_ble_eq_true rfl) dX4_putFirstOn_29 ⟨Nat.zero_le _, Nat.zero_le _⟩ _ rfl ?_
      generalize hu_4 : remF u n = u_4
      have k0u_4 : u_4 0 0 = u 0 0 := by rw [← hu_4]; exact remF_k (by omega) (by omega)
      have k30u_4 : u_4 30 0 = u 30 0 := by rw [← hu_4]; exact remF_k (by omega) (by omega)
      refine g_aload_n X 3 dX4_putFirstOn_32 rfl rfl ?_
      refine g_dup X dX4_putFirstOn_33 rfl ?_
      refine g_get X 3 n (cx3 ⟨by omega, by omega⟩) rfl 3 (by decide) hiX1 (by decide +kernel) rfl rfl dX4_putFirstOn_34 ?_
      refine g_lconst X (v := lN 1) dX4_putFirstOn_37 (by decide) ?_
      refine g_ladd X dX4_putFirstOn_38 (lN_add _ _) ?_
      refine g_put X tyX1 tyX1_ok nmX1 3 n (cx3 ⟨by omega, by omega⟩) rfl 3 (by decide) hiX1 (by decide +kernel) rfl rfl (ty := .long) (by decide +kernel) rfl rfl (Nat.le_of_ble_eq_true rfl) _ (up_putOnCount ⟨by omega, by omega⟩) dX4_putFirstOn_39 ?_
      generalize hu_5 : st u_4 13 n ((u_4 13 n) + 1) = u_5
      have k0u_5 : u_5 0 0 = u_4 0 0 := by rw [← hu_5]; first | rfl | exact st_nf (by omega)
      have k30u_5 : u_5 30 0 = u_4 30 0 := by rw [← hu_5]; first | rfl | exact st_nf (by omega)
      refine g_aload_n X 1 dX4_putFirstOn_42 rfl rfl ?_
      refine g_iload_n X 0 dX4_putFirstOn_43 rfl rfl ?_
      refine g_put X tyX2 tyX2_ok nmX2 9 (u (40 + n) 0) (cx9 ⟨by omega, by omega⟩) rfl 4 (by decide) hiX2 (by decide +kernel) rfl rfl (ty := .int) (by decide +kernel) rfl rfl (Nat.le_of_ble_eq_true rfl) _ (up_ownTray ⟨by omega, by omega⟩) dX4_putFirstOn_44 ?_
      generalize hu_6 : st u_5 24 (u (40 + n) 0) (tA u ((n - 1) * u 0 0 / 4)) = u_6
      have k0u_6 : u_6 0 0 = u_5 0 0 := by rw [← hu_6]; first | rfl | exact st_nf (by omega)
      have k30u_6 : u_6 30 0 = u_5 30 0 := by rw [← hu_6]; first | rfl | exact st_nf (by omega)
      refine g_aload_n X 1 dX4_putFirstOn_47 rfl rfl ?_
      refine g_place X 1 (by decide) "CARRIED" rfl (by decide +kernel) dX4_putFirstOn_48 ?_
      refine g_put X tyX2 tyX2_ok nmX2 9 (u (40 + n) 0) (cx9 ⟨by omega, by omega⟩) rfl 3 (by decide) hiX2 (by decide +kernel) rfl rfl (ty := .object "LoopSorter$Place") (by decide +kernel) rfl rfl (Nat.le_of_ble_eq_true rfl) _ (up_place ⟨by omega, by omega⟩) dX4_putFirstOn_51 ?_
      generalize hu_7 : st u_6 23 (u (40 + n) 0) 1 = u_7
      have k0u_7 : u_7 0 0 = u_6 0 0 := by rw [← hu_7]; first | rfl | exact st_nf (by omega)
      have k30u_7 : u_7 30 0 = u_6 30 0 := by rw [← hu_7]; first | rfl | exact st_nf (by omega)
      refine g_aload_n X 2 dX4_putFirstOn_54 rfl rfl ?_
      refine g_aload_n X 1 dX4_putFirstOn_55 rfl rfl ?_
      refine g_aload_n X 1 dX4_putFirstOn_56 rfl rfl ?_
      have k24 : u_7 24 (u (40 + n) 0) = tA u ((n - 1) * u 0 0 / 4) := by rw [← hu_7, st_nf (by decide), ← hu_6, st_self]
      refine g_callDV0 (n := 2) X 0 0 [.ref (al 9 (u (40 + n) 0)), .ref (al 9 (u (40 + n) 0))] cx0 rfl (c_setTr_1 (u (40 + n) 0) (by omega) (by omega) ⟨by omega, by omega⟩ (by omega)) gX4_putFirstOn_X4_setTraysOf rfl ⟨rfl, rfl⟩ (by decide +kernel) ⟨by decide, by decide⟩ rfl (Nat.le_of_ble_eq_true rfl) dX4_putFirstOn_57 ⟨Nat.zero_le _, Nat.zero_le _⟩ _ rfl ?_
      generalize hu_8 : setTr u_7 (u (40 + n) 0) (u (40 + n) 0) = u_8
      have k0u_8 : u_8 0 0 = u_7 0 0 := by rw [← hu_8]; exact setTr_ne (by decide)
      have k30u_8 : u_8 30 0 = u_7 30 0 := by rw [← hu_8]; exact setTr_ne (by decide)
      refine g_aload_n X 2 dX4_putFirstOn_60 rfl rfl ?_
      refine g_dup X dX4_putFirstOn_61 rfl ?_
      refine g_get X 0 0 cx0 rfl 9 (by decide) hiX4 (by decide +kernel) rfl rfl dX4_putFirstOn_62 ?_
      refine g_iconst X (v := nI 1) dX4_putFirstOn_65 (by decide) ?_
      refine g_iadd X dX4_putFirstOn_66 (nI_add _ _) ?_
      refine g_put X tyX4 tyX4_ok nmX4 0 0 cx0 rfl 9 (by decide) hiX4 (by decide +kernel) rfl rfl (ty := .int) (by decide +kernel) rfl rfl (Nat.le_of_ble_eq_true rfl) _ up_carriedCount dX4_putFirstOn_67 ?_
      generalize hu_9 : st u_8 4 0 ((u_8 4 0) + 1) = u_9
      have k0u_9 : u_9 0 0 = u_8 0 0 := by rw [← hu_9]; first | rfl | exact st_nf (by omega)
      have k30u_9 : u_9 30 0 = u_8 30 0 := by rw [← hu_9]; first | rfl | exact st_nf (by omega)
      exact g_vret X rfl dX4_putFirstOn_70 ⟨rfl, rfl, congrArg _ (by subst hu_4; subst hu_5; subst hu_6; subst hu_7; subst hu_8; subst hu_9; rw [putF, if_neg hz, if_pos c_3])⟩
    · exact g_vret X rfl dX4_putFirstOn_27 ⟨rfl, rfl, congrArg _ (by rw [putF, if_neg hz, if_neg c_3])⟩

set_option maxRecDepth 100000 in
set_option maxHeartbeats 4000000 in
/-- the loop of takeTurns at 25:  -/
theorem l_takeTurns2 {l : Launch} {D : va_G} {ta : Nat → ClassId} {pl : Nat → Nat} {bs : Nat} {al : Ad} {Z : Wo} {p : Program} {e : Env} {s : State} {m : MethodId} {args : Array Value} {below : List Frame} {meth : Method} {c : Code} {u : St} (X : Cx D ta pl bs 3 p s m args meth c cX4_takeTurns wsX4_takeTurns RX4 none)  (h0 : Iv u) : ∀ (n9 i : Nat), i ≤ 4 → 4 + 1 ≤ i + n9 → WW D bs 3 p l e (rmF 4 87) s m args below meth c (QQ D bs below args s 0 0 (fun r al' C' => r = none ∧ al' = al ∧ C' = mC Z ta pl al (turnN 4 u))) al (mC Z ta pl al (turnN i u)) 0 0 25 [(1, .int (nI i)), (0, .ref (al 0 0))] [] := by
  have hiX1 : ∀ w ∈ u_ws RX1 TX1 5, w ∈ wsX4_takeTurns := by decide +kernel
  intro n9
  induction n9 with
  | zero => intro i h8 h9; exact absurd h9 (by omega)
  | succ n9 ih =>
    intro i h8 h9
    have hI := Iv_turnN h0 i
    generalize hw : turnN i u = w at *
    have hn9 := nxT_le (u := w) 4
    refine g_iload_n X 0 dX4_takeTurns_25 rfl rfl ?_
    refine g_iconst X (v := nI 4) dX4_takeTurns_26 (by decide) ?_
    refine g_icmp_ge X 55 dX4_takeTurns_27 (by decide) (nI_leI (by omega) (by omega)) (fun c_1 => ?_) (fun c_1 => ?_)
    · exact g_vret X rfl dX4_takeTurns_55 ⟨rfl, rfl, by subst hw; have e9 : i = 4 := (by omega); rw [e9]⟩
    · refine g_aload_n X 1 dX4_takeTurns_30 rfl rfl ?_
      by_cases hz : nxT w 4 = 0
      · skip
        refine g_callDV1 (n := 0) X 0 0 [] cx0 rfl (by have q9 := c_nextInTurn (l := l) (D := D) (ta := ta) (pl := pl) (bs := bs) (al := al) (Z := Z) (u := w); rw [rN_0 hz] at q9; exact q9) gX4_takeTurns_X4_nextInTurn rfl ⟨rfl, rfl⟩ (by decide +kernel) ⟨by decide, by decide⟩ rfl (Nat.le_of_ble_eq_true rfl) dX4_takeTurns_31 ⟨Nat.zero_le _, Nat.zero_le _⟩ _ rfl ?_
        refine g_astore_nN X [(2, .null), (1, .int (nI i)), (0, .ref (al 0 0))] dX4_takeTurns_34 rfl (by decide) rfl ?_
        refine g_aload_nN X 0 dX4_takeTurns_35 rfl rfl ?_
        refine g_ifnull_n X 49 dX4_takeTurns_36 (by decide) ?_
        refine g_iinc X 1 [(1, .int (nI (i + 1))), (2, .null), (0, .ref (al 0 0))] dX4_takeTurns_49 rfl (nI_inc (by decide)) (by decide) rfl ?_
        refine g_goto X 25 dX4_takeTurns_52 (by decide) ?_
        refine g_lv [0, 2] rfl ?_
        have e9 : turnN (i + 1) u = w := by show turnOne (turnN i u) = _; rw [hw, turnOne, if_pos hz]
        have q9 := ih (i + 1) (by omega) (by omega)
        rw [e9] at q9
        exact q9
      · skip
        refine g_callDV1 (n := 0) X 0 0 [] cx0 rfl (by have q9 := c_nextInTurn (l := l) (D := D) (ta := ta) (pl := pl) (bs := bs) (al := al) (Z := Z) (u := w); rw [rN_p hz] at q9; exact q9) gX4_takeTurns_X4_nextInTurn rfl ⟨rfl, rfl⟩ (by decide +kernel) ⟨by decide, by decide⟩ rfl (Nat.le_of_ble_eq_true rfl) dX4_takeTurns_31 ⟨Nat.zero_le _, Nat.zero_le _⟩ _ rfl ?_
        refine g_astore_n X [(2, .ref (al 3 (nxT w 4))), (1, .int (nI i)), (0, .ref (al 0 0))] dX4_takeTurns_34 rfl (by decide) rfl ?_
        refine g_aload_n X 0 dX4_takeTurns_35 rfl rfl ?_
        refine g_ifnull_r X dX4_takeTurns_36 ?_
        refine g_aload_n X 0 dX4_takeTurns_39 rfl rfl ?_
        refine g_iconst X (v := nI 1) dX4_takeTurns_40 (by decide) ?_
        refine g_put X tyX1 tyX1_ok nmX1 3 (nxT w 4) (cx3 ⟨by omega, by omega⟩) rfl 4 (by decide) hiX1 (by decide +kernel) rfl rfl (ty := .boolean) (by decide +kernel) (by decide) (by decide) (Nat.le_of_ble_eq_true rfl) _ (up_hadTurn ⟨by omega, by omega⟩) dX4_takeTurns_41 ?_
        generalize hu_2 : st w 14 (nxT w 4) 1 = u_2
        refine g_aload_n X 2 dX4_takeTurns_44 rfl rfl ?_
        refine g_aload_n X 0 dX4_takeTurns_45 rfl rfl ?_
        refine g_callDV0 (n := 1) X 0 0 [.ref (al 3 (nxT w 4))] cx0 rfl (c_putFirstOn (nxT w 4) ⟨by omega, by omega⟩ (by rw [← hu_2]; exact Iv_had hI)) gX4_takeTurns_X4_putFirstOn rfl ⟨rfl, rfl⟩ (by decide +kernel) ⟨by decide, by decide⟩ rfl (Nat.le_of_ble_eq_true rfl) dX4_takeTurns_46 ⟨Nat.zero_le _, Nat.zero_le _⟩ _ rfl ?_
        generalize hu_3 : putF u_2 (nxT w 4) = u_3
        refine g_iinc X 1 [(1, .int (nI (i + 1))), (2, .ref (al 3 (nxT w 4))), (0, .ref (al 0 0))] dX4_takeTurns_49 rfl (nI_inc (by decide)) (by decide) rfl ?_
        refine g_goto X 25 dX4_takeTurns_52 (by decide) ?_
        refine g_lv [0, 2] rfl ?_
        have e9 : turnN (i + 1) u = u_3 := by show turnOne (turnN i u) = _; rw [hw, turnOne, if_neg hz, hu_2]; exact hu_3
        have q9 := ih (i + 1) (by omega) (by omega)
        rw [e9] at q9
        exact q9

set_option maxRecDepth 100000 in
set_option maxHeartbeats 4000000 in
/-- the loop of takeTurns at 2:  -/
theorem l_takeTurns1 {l : Launch} {D : va_G} {ta : Nat → ClassId} {pl : Nat → Nat} {bs : Nat} {al : Ad} {Z : Wo} {p : Program} {e : Env} {s : State} {m : MethodId} {args : Array Value} {below : List Frame} {meth : Method} {c : Code} {u : St} (X : Cx D ta pl bs 3 p s m args meth c cX4_takeTurns wsX4_takeTurns RX4 none)  (h0 : Iv u) : ∀ (n9 i : Nat), i ≤ 4 → 4 + 1 ≤ i + n9 → WW D bs 3 p l e (rmF 4 87) s m args below meth c (QQ D bs below args s 0 0 (fun r al' C' => r = none ∧ al' = al ∧ C' = mC Z ta pl al (takeT u))) al (mC Z ta pl al (clrN i u)) 0 0 2 [(1, .int (nI i)), (0, .ref (al 0 0))] [] := by
  have hiX1 : ∀ w ∈ u_ws RX1 TX1 5, w ∈ wsX4_takeTurns := by decide +kernel
  have hiX4 : ∀ w ∈ u_ws RX4 TX4 13, w ∈ wsX4_takeTurns := by decide +kernel
  intro n9
  induction n9 with
  | zero => intro i h8 h9; exact absurd h9 (by omega)
  | succ n9 ih =>
    intro i h8 h9
    generalize hw : clrN i u = w at *
    refine g_iload_n X 0 dX4_takeTurns_2 rfl rfl ?_
    refine g_iconst X (v := nI 4) dX4_takeTurns_3 (by decide) ?_
    refine g_icmp_ge X 23 dX4_takeTurns_4 (by decide) (nI_leI (by omega) (by omega)) (fun c_1 => ?_) (fun c_1 => ?_)
    · refine g_iconst X (v := nI 0) dX4_takeTurns_23 (by decide) ?_
      refine g_istore_n X [(1, .int (nI 0)), (0, .ref (al 0 0))] dX4_takeTurns_24 rfl (by decide) rfl ?_
      refine g_lv [0, 1] rfl ?_
      have e9 : i = 4 := by omega
      subst e9
      subst hw
      exact l_takeTurns2 X (Iv_clrN h0 4) 5 0 (Nat.zero_le _) (Nat.le_refl _)
    · refine g_aload_n X 1 dX4_takeTurns_7 rfl rfl ?_
      refine g_get X 0 0 cx0 rfl 3 (by decide) hiX4 (by decide +kernel) rfl rfl dX4_takeTurns_8 ?_
      refine g_iload_n X 0 dX4_takeTurns_11 rfl rfl ?_
      refine g_aald1 X 2 0 cx2 i (by omega) (by omega) (ar2 (by omega)) dX4_takeTurns_12 ?_
      refine g_iconst X (v := nI 0) dX4_takeTurns_13 (by decide) ?_
      refine g_put X tyX1 tyX1_ok nmX1 3 (i + 1) (cx3 ⟨by omega, by omega⟩) rfl 4 (by decide) hiX1 (by decide +kernel) rfl rfl (ty := .boolean) (by decide +kernel) (by decide) (by decide) (Nat.le_of_ble_eq_true rfl) _ (up_hadTurn ⟨by omega, by omega⟩) dX4_takeTurns_14 ?_
      generalize hu_2 : st w 14 (i + 1) 0 = u_2
      refine g_iinc X 0 [(1, .int (nI (i + 1))), (0, .ref (al 0 0))] dX4_takeTurns_17 rfl (nI_inc (by decide)) (by decide) rfl ?_
      refine g_goto X 2 dX4_takeTurns_20 (by decide) ?_
      refine g_lv [0, 1] rfl ?_
      subst hu_2
      subst hw
      exact ih (i + 1) (by omega) (by omega)

set_option maxRecDepth 100000 in
set_option maxHeartbeats 4000000 in
/-- takeTurns -/
theorem c_takeTurns {l : Launch} {D : va_G} {ta : Nat → ClassId} {pl : Nat → Nat} {bs : Nat} {al : Ad} {Z : Wo} {u : St}  (h0 : Iv u) : GD l D ta pl bs yX4_takeTurns wsX4_takeTurns (rmF 4 87) [.ref (al 0 0)] al (mC Z ta pl al u) none (mC Z ta pl al (takeT u)) := by
  refine GM.of (by decide) rfl (Nat.le_of_ble_eq_true rfl) ?_
  intro p e s m args below meth c X hnm
  refine g_lv (lv' := [(0, .ref (al 0 0))]) [0] rfl ?_
  refine g_iconst X (v := nI 0) dX4_takeTurns_0 (by decide) ?_
  refine g_istore_n X [(1, .int (nI 0)), (0, .ref (al 0 0))] dX4_takeTurns_1 rfl (by decide) rfl ?_
  refine g_lv [0, 1] rfl ?_
  exact l_takeTurns1 X h0 5 0 (Nat.zero_le _) (Nat.le_refl _)

set_option maxRecDepth 100000 in
set_option maxHeartbeats 4000000 in
/-- the loop of runOneStep at 2:  -/
theorem l_runOneStep {l : Launch} {D : va_G} {ta : Nat → ClassId} {pl : Nat → Nat} {bs : Nat} {al : Ad} {Z : Wo} {p : Program} {e : Env} {s : State} {m : MethodId} {args : Array Value} {below : List Frame} {meth : Method} {c : Code} {u : St} (X : Cx D ta pl bs 2 p s m args meth c cX4_runOneStep wsX4_runOneStep RX4 none)  (h0 : Iv u) : ∀ (n9 i : Nat), i ≤ u 5 0 → u 5 0 + 1 ≤ i + n9 → WW D bs 2 p l e (rmF 5 113) s m args below meth c (QQ D bs below args s 0 0 (fun r al' C' => r = none ∧ al' = al ∧ C' = mC Z ta pl al (runOne u))) al (mC Z ta pl al (moveN i u)) 0 0 2 [(1, .int (nI i)), (0, .ref (al 0 0))] [] := by
  have hiX4 : ∀ w ∈ u_ws RX4 TX4 13, w ∈ wsX4_runOneStep := by decide +kernel
  intro n9
  induction n9 with
  | zero => intro i h8 h9; exact absurd h9 (by omega)
  | succ n9 ih =>
    intro i h8 h9
    have hI := Iv_moveN h0 i
    have k5 : moveN i u 5 0 = u 5 0 := moveN_k (by omega)
    generalize hw : moveN i u = w at *
    obtain ⟨⟨h1, h2, h7, hN, h30, h51, h52⟩, -⟩ := id hI
    refine g_iload_n X 0 dX4_runOneStep_2 rfl rfl ?_
    refine g_aload_n X 1 dX4_runOneStep_3 rfl rfl ?_
    refine g_get X 0 0 cx0 rfl 10 (by decide) hiX4 (by decide +kernel) rfl rfl dX4_runOneStep_4 ?_
    refine g_icmp_ge X 54 dX4_runOneStep_7 (by decide) (nI_leI (by omega) (by omega)) (fun c_1 => ?_) (fun c_1 => ?_)
    · refine g_aload_n X 1 dX4_runOneStep_54 rfl rfl ?_
      refine g_dup X dX4_runOneStep_55 rfl ?_
      refine g_get X 0 0 cx0 rfl 11 (by decide) hiX4 (by decide +kernel) rfl rfl dX4_runOneStep_56 ?_
      refine g_iconst X (v := nI 1) dX4_runOneStep_59 (by decide) ?_
      refine g_iadd X dX4_runOneStep_60 (nI_add _ _) ?_
      refine g_put X tyX4 tyX4_ok nmX4 0 0 cx0 rfl 11 (by decide) hiX4 (by decide +kernel) rfl rfl (ty := .int) (by decide +kernel) rfl rfl (Nat.le_of_ble_eq_true rfl) _ up_time dX4_runOneStep_61 ?_
      generalize hu_2 : st w 6 0 ((w 6 0) + 1) = u_2
      refine g_aload_n X 1 dX4_runOneStep_64 rfl rfl ?_
      refine g_callDV0 (n := 0) X 0 0 [] cx0 rfl (c_takeTurns (by rw [← hu_2]; exact Iv_time hI)) gX4_runOneStep_X4_takeTurns rfl ⟨rfl, rfl⟩ (by decide +kernel) ⟨by decide, by decide⟩ rfl (Nat.le_of_ble_eq_true rfl) dX4_runOneStep_65 ⟨Nat.zero_le _, Nat.zero_le _⟩ _ rfl ?_
      generalize hu_3 : takeT u_2 = u_3
      exact g_vret X rfl dX4_runOneStep_68 ⟨rfl, rfl, congrArg _ (by subst hu_2; subst hu_3; subst hw; have e9 : i = u 5 0 := (by omega); rw [e9]; rfl)⟩
    · refine g_aload_n X 1 dX4_runOneStep_10 rfl rfl ?_
      refine g_aload_n X 1 dX4_runOneStep_11 rfl rfl ?_
      refine g_get X 0 0 cx0 rfl 12 (by decide) hiX4 (by decide +kernel) rfl rfl dX4_runOneStep_12 ?_
      refine g_iconst X (v := nI 1) dX4_runOneStep_15 (by decide) ?_
      refine g_iadd X dX4_runOneStep_16 (nI_add _ _) ?_
      refine g_aload_n X 1 dX4_runOneStep_17 rfl rfl ?_
      refine g_get X 0 0 cx0 rfl 0 (by decide) hiX4 (by decide +kernel) rfl rfl dX4_runOneStep_18 ?_
      refine g_icmp_ge X 33 dX4_runOneStep_21 (by decide) (nI_leI (by omega) (by omega)) (fun c_4 => ?_) (fun c_4 => ?_)
      · refine g_iconst X (v := nI 0) dX4_runOneStep_33 (by decide) ?_
        refine g_put X tyX4 tyX4_ok nmX4 0 0 cx0 rfl 12 (by decide) hiX4 (by decide +kernel) rfl rfl (ty := .int) (by decide +kernel) rfl rfl (Nat.le_of_ble_eq_true rfl) _ up_shift dX4_runOneStep_34 ?_
        generalize hu_5 : st w 7 0 0 = u_5
        have es : shf w = u_5 := by rw [shf, if_neg (by omega)]; exact hu_5
        have hs9 : Iv u_5 := by rw [← es]; exact Iv_shift hI
        have h49 := hs9.le4
        refine g_aload_n X 1 dX4_runOneStep_37 rfl rfl ?_
        refine g_get X 0 0 cx0 rfl 9 (by decide) hiX4 (by decide +kernel) rfl rfl dX4_runOneStep_38 ?_
        refine g_if_le X 48 dX4_runOneStep_41 (by decide) (n0_le (by omega)) (fun c_6 => ?_) (fun c_6 => ?_)
        · refine g_iinc X 0 [(1, .int (nI (i + 1))), (0, .ref (al 0 0))] dX4_runOneStep_48 rfl (nI_inc (by decide)) (by decide) rfl ?_
          refine g_goto X 2 dX4_runOneStep_51 (by decide) ?_
          refine g_lv [0, 1] rfl ?_
          have e9 : moveN (i + 1) u = u_5 := by show moveOne (moveN i u) = _; rw [hw, moveOne, es, if_neg (by omega)]
          have q9 := ih (i + 1) (by omega) (by omega)
          rw [e9] at q9
          exact q9
        · refine g_aload_n X 1 dX4_runOneStep_44 rfl rfl ?_
          refine g_callDV0 (n := 0) X 0 0 [] cx0 rfl (c_passChutes (by assumption)) gX4_runOneStep_X4_passChutes rfl ⟨rfl, rfl⟩ (by decide +kernel) ⟨by decide, by decide⟩ rfl (Nat.le_of_ble_eq_true rfl) dX4_runOneStep_45 ⟨Nat.zero_le _, Nat.zero_le _⟩ _ rfl ?_
          generalize hu_7 : passN 16 u_5 = u_7
          refine g_iinc X 0 [(1, .int (nI (i + 1))), (0, .ref (al 0 0))] dX4_runOneStep_48 rfl (nI_inc (by decide)) (by decide) rfl ?_
          refine g_goto X 2 dX4_runOneStep_51 (by decide) ?_
          refine g_lv [0, 1] rfl ?_
          have e9 : moveN (i + 1) u = u_7 := by show moveOne (moveN i u) = _; rw [hw, moveOne, es, if_pos (by omega)]; exact hu_7
          have q9 := ih (i + 1) (by omega) (by omega)
          rw [e9] at q9
          exact q9
      · refine g_aload_n X 1 dX4_runOneStep_24 rfl rfl ?_
        refine g_get X 0 0 cx0 rfl 12 (by decide) hiX4 (by decide +kernel) rfl rfl dX4_runOneStep_25 ?_
        refine g_iconst X (v := nI 1) dX4_runOneStep_28 (by decide) ?_
        refine g_iadd X dX4_runOneStep_29 (nI_add _ _) ?_
        refine g_goto X 34 dX4_runOneStep_30 (by decide) ?_
        refine g_put X tyX4 tyX4_ok nmX4 0 0 cx0 rfl 12 (by decide) hiX4 (by decide +kernel) rfl rfl (ty := .int) (by decide +kernel) rfl rfl (Nat.le_of_ble_eq_true rfl) _ up_shift dX4_runOneStep_34 ?_
        generalize hu_8 : st w 7 0 ((w 7 0) + 1) = u_8
        have es : shf w = u_8 := by rw [shf, if_pos (by omega)]; exact hu_8
        have hs9 : Iv u_8 := by rw [← es]; exact Iv_shift hI
        have h49 := hs9.le4
        refine g_aload_n X 1 dX4_runOneStep_37 rfl rfl ?_
        refine g_get X 0 0 cx0 rfl 9 (by decide) hiX4 (by decide +kernel) rfl rfl dX4_runOneStep_38 ?_
        refine g_if_le X 48 dX4_runOneStep_41 (by decide) (n0_le (by omega)) (fun c_9 => ?_) (fun c_9 => ?_)
        · refine g_iinc X 0 [(1, .int (nI (i + 1))), (0, .ref (al 0 0))] dX4_runOneStep_48 rfl (nI_inc (by decide)) (by decide) rfl ?_
          refine g_goto X 2 dX4_runOneStep_51 (by decide) ?_
          refine g_lv [0, 1] rfl ?_
          have e9 : moveN (i + 1) u = u_8 := by show moveOne (moveN i u) = _; rw [hw, moveOne, es, if_neg (by omega)]
          have q9 := ih (i + 1) (by omega) (by omega)
          rw [e9] at q9
          exact q9
        · refine g_aload_n X 1 dX4_runOneStep_44 rfl rfl ?_
          refine g_callDV0 (n := 0) X 0 0 [] cx0 rfl (c_passChutes (by assumption)) gX4_runOneStep_X4_passChutes rfl ⟨rfl, rfl⟩ (by decide +kernel) ⟨by decide, by decide⟩ rfl (Nat.le_of_ble_eq_true rfl) dX4_runOneStep_45 ⟨Nat.zero_le _, Nat.zero_le _⟩ _ rfl ?_
          generalize hu_10 : passN 16 u_8 = u_10
          refine g_iinc X 0 [(1, .int (nI (i + 1))), (0, .ref (al 0 0))] dX4_runOneStep_48 rfl (nI_inc (by decide)) (by decide) rfl ?_
          refine g_goto X 2 dX4_runOneStep_51 (by decide) ?_
          refine g_lv [0, 1] rfl ?_
          have e9 : moveN (i + 1) u = u_10 := by show moveOne (moveN i u) = _; rw [hw, moveOne, es, if_pos (by omega)]; exact hu_10
          have q9 := ih (i + 1) (by omega) (by omega)
          rw [e9] at q9
          exact q9

set_option maxRecDepth 100000 in
set_option maxHeartbeats 4000000 in
/-- runOneStep -/
theorem c_runOneStep {l : Launch} {D : va_G} {ta : Nat → ClassId} {pl : Nat → Nat} {bs : Nat} {al : Ad} {Z : Wo} {u : St}  (h0 : Iv u) : GD l D ta pl bs yX4_runOneStep wsX4_runOneStep (rmF 5 113) [.ref (al 0 0)] al (mC Z ta pl al u) none (mC Z ta pl al (runOne u)) := by
  refine GM.of (by decide) rfl (Nat.le_of_ble_eq_true rfl) ?_
  intro p e s m args below meth c X hnm
  refine g_lv (lv' := [(0, .ref (al 0 0))]) [0] rfl ?_
  refine g_iconst X (v := nI 0) dX4_runOneStep_0 (by decide) ?_
  refine g_istore_n X [(1, .int (nI 0)), (0, .ref (al 0 0))] dX4_runOneStep_1 rfl (by decide) rfl ?_
  refine g_lv [0, 1] rfl ?_
  exact l_runOneStep X h0 (u 5 0 + 1) 0 (Nat.zero_le _) (by omega)

set_option maxRecDepth 100000 in
set_option maxHeartbeats 4000000 in
/-- the loop of step at 21:  -/
theorem l_step {l : Launch} {D : va_G} {ta : Nat → ClassId} {pl : Nat → Nat} {bs : Nat} {al : Ad} {Z : Wo} {p : Program} {e : Env} {s : State} {m : MethodId} {args : Array Value} {below : List Frame} {meth : Method} {c : Code} {u : St} (X : Cx D ta pl bs 4 p s m args meth c cX4_step wsX4_step RX4 (some .int)) (n : Nat) (h0 : Iv u) (hn : n ≤ 1000) : ∀ (n9 i : Nat), i ≤ n → n + 1 ≤ i + n9 → WW D bs 4 p l e (rmF 6 134) s m args below meth c (QQ D bs below args s 0 0 (fun r al' C' => r = some (.int (nI (runN n u 3 0) - nI (u 3 0))) ∧ al' = al ∧ C' = mC Z ta pl al (runN n u))) al (mC Z ta pl al (runN i u)) 0 0 21 [(3, .int (nI i)), (2, .int (nI (u 3 0))), (1, .int (nI n)), (0, .ref (al 0 0))] [] := by
  have hiX4 : ∀ w ∈ u_ws RX4 TX4 13, w ∈ wsX4_step := by decide +kernel
  intro n9
  induction n9 with
  | zero => intro i h8 h9; exact absurd h9 (by omega)
  | succ n9 ih =>
    intro i h8 h9
    have hI := Iv_runN h0 i
    generalize hw : runN i u = w at *
    refine g_iload_n X 0 dX4_step_21 rfl rfl ?_
    refine g_iload_n X 2 dX4_step_22 rfl rfl ?_
    refine g_icmp_ge X 36 dX4_step_23 (by decide) (nI_leI (by omega) (by omega)) (fun c_1 => ?_) (fun c_1 => ?_)
    · refine g_aload_n X 3 dX4_step_36 rfl rfl ?_
      refine g_get X 0 0 cx0 rfl 8 (by decide) hiX4 (by decide +kernel) rfl rfl dX4_step_37 ?_
      refine g_iload_n X 1 dX4_step_40 rfl rfl ?_
      refine g_isub X dX4_step_41 rfl ?_
      exact g_iret X rfl dX4_step_42 ⟨by subst hw; have e9 : i = n := (by omega); rw [e9], rfl, by subst hw; have e9 : i = n := (by omega); rw [e9]⟩
    · refine g_aload_n X 3 dX4_step_26 rfl rfl ?_
      refine g_callDV0 (n := 0) X 0 0 [] cx0 rfl (c_runOneStep hI) gX4_step_X4_runOneStep rfl ⟨rfl, rfl⟩ (by decide +kernel) ⟨by decide, by decide⟩ rfl (Nat.le_of_ble_eq_true rfl) dX4_step_27 ⟨Nat.zero_le _, Nat.zero_le _⟩ _ rfl ?_
      generalize hu_2 : runOne w = u_2
      refine g_iinc X 0 [(3, .int (nI (i + 1))), (2, .int (nI (u 3 0))), (1, .int (nI n)), (0, .ref (al 0 0))] dX4_step_30 rfl (nI_inc (by decide)) (by decide) rfl ?_
      refine g_goto X 21 dX4_step_33 (by decide) ?_
      refine g_lv [0, 1, 2, 3] rfl ?_
      have e9 : runN (i + 1) u = u_2 := by show runOne (runN i u) = _; rw [hw]; exact hu_2
      have q9 := ih (i + 1) (by omega) (by omega)
      rw [e9] at q9
      exact q9

set_option maxRecDepth 100000 in
set_option maxHeartbeats 4000000 in
/-- step -/
theorem c_step {l : Launch} {D : va_G} {ta : Nat → ClassId} {pl : Nat → Nat} {bs : Nat} {al : Ad} {Z : Wo} {u : St} (n : Nat) (h0 : Iv u) (hn : n ≤ 1000) : GD l D ta pl bs yX4_step wsX4_step (rmF 6 134) [.ref (al 0 0), .int (nI n)] al (mC Z ta pl al u) (some (.int (nI (runN n u 3 0) - nI (u 3 0)))) (mC Z ta pl al (runN n u)) := by
  refine GM.of (by decide) rfl (Nat.le_of_ble_eq_true rfl) ?_
  intro p e s m args below meth c X hnm
  have hiX4 : ∀ w ∈ u_ws RX4 TX4 13, w ∈ wsX4_step := by decide +kernel
  refine g_lv (lv' := [(0, .ref (al 0 0)), (1, .int (nI n))]) [0, 1] rfl ?_
  refine g_iload_n X 1 dX4_step_0 rfl rfl ?_
  refine g_if_lt X 11 dX4_step_1 (by decide) (n0_lt (by omega)) (fun c_1 => ?_) (fun c_1 => ?_)
  · exact absurd c_1 (fun z => z)
  · refine g_iload_n X 1 dX4_step_4 rfl rfl ?_
    refine g_sipush X (v := nI 1000) dX4_step_5 (by decide) ?_
    refine g_icmp_le X 14 dX4_step_8 (by decide) (nI_leI (by omega) (by omega)) (fun c_2 => ?_) (fun c_2 => ?_)
    · refine g_aload_n X 0 dX4_step_14 rfl rfl ?_
      refine g_get X 0 0 cx0 rfl 8 (by decide) hiX4 (by decide +kernel) rfl rfl dX4_step_15 ?_
      refine g_istore_n X [(2, .int (nI (u 3 0))), (0, .ref (al 0 0)), (1, .int (nI n))] dX4_step_18 rfl (by decide) rfl ?_
      refine g_iconst X (v := nI 0) dX4_step_19 (by decide) ?_
      refine g_istore_n X [(3, .int (nI 0)), (2, .int (nI (u 3 0))), (0, .ref (al 0 0)), (1, .int (nI n))] dX4_step_20 rfl (by decide) rfl ?_
      refine g_lv [0, 1, 3, 2] rfl ?_
      exact l_step X n h0 hn (n + 1) 0 (Nat.zero_le _) (by omega)
    · exact absurd hn c_2
