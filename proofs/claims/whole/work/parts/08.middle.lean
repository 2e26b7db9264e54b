set_option maxRecDepth 100000 in
set_option maxHeartbeats 4000000 in
/-- the loop of removeFirst at 19:  -/
theorem l_removeFirst {l : Launch} {D : va_G} {ta : Nat → ClassId} {pl : Nat → Nat} {bs : Nat} {al : Ad} {Z : Wo} {p : Program} {e : Env} {s : State} {m : MethodId} {args : Array Value} {below : List Frame} {meth : Method} {c : Code} {u : St} (X : Cx D ta pl bs 2 p s m args meth c cX1_removeFirst wsX1_removeFirst RX1 none) (n : Nat) (h0 : 1 ≤ n ∧ n ≤ 4) (h1 : u 12 n ≤ 7) (h2 : ∀ j, j ≤ u 12 n → u (40 + n) j ≠ 0 ∧ u (40 + n) j ≤ u 30 0) : ∀ (n9 i : Nat), i ≤ u 12 n → u 12 n + 1 ≤ i + n9 → WW D bs 2 p l e (rmF 0 0) s m args below meth c (QQ D bs below args s 0 0 (fun r al' C' => r = none ∧ al' = al ∧ C' = mC Z ta pl al (st (rowUp n (u 12 n) u) (40 + n) (u 12 n) 0))) al (mC Z ta pl al (rowUp n i u)) 0 0 19 [(1, .int (nI i)), (0, .ref (al 3 n))] [] := by
  have hiX1 : ∀ w ∈ u_ws RX1 TX1 5, w ∈ wsX1_removeFirst := by decide +kernel
  intro n9
  induction n9 with
  | zero => intro i h8 h9; exact absurd h9 (by omega)
  | succ n9 ih =>
    intro i h8 h9
    have k12 : rowUp n i u 12 n = u 12 n := rowUp_k (by omega)
    have k30 : rowUp n i u 30 0 = u 30 0 := rowUp_k (by omega)
    have kr : rowUp n i u (40 + n) (i + 1) = u (40 + n) (i + 1) := rowUp_hi (by omega)
    generalize hw : rowUp n i u = w at *
    refine g_iload_n X 0 dX1_removeFirst_19 rfl rfl ?_
    refine g_aload_n X 1 dX1_removeFirst_20 rfl rfl ?_
    refine g_get X 3 n (cx3 ⟨by omega, by omega⟩) rfl 2 (by decide) hiX1 (by decide +kernel) rfl rfl dX1_removeFirst_21 ?_
    refine g_icmp_ge X 47 dX1_removeFirst_24 (by decide) (nI_leI (by omega) (by omega)) (fun c_1 => ?_) (fun c_1 => ?_)
    · refine g_aload_n X 1 dX1_removeFirst_47 rfl rfl ?_
      refine g_get X 3 n (cx3 ⟨by omega, by omega⟩) rfl 1 (by decide) hiX1 (by decide +kernel) rfl rfl dX1_removeFirst_48 ?_
      refine g_aload_n X 1 dX1_removeFirst_51 rfl rfl ?_
      refine g_get X 3 n (cx3 ⟨by omega, by omega⟩) rfl 2 (by decide) hiX1 (by decide +kernel) rfl rfl dX1_removeFirst_52 ?_
      refine g_null X dX1_removeFirst_55 ?_
      refine g_aastN X 4 n (cx4 ⟨by omega, by omega⟩) (w 12 n) (by omega) (by omega) _ (up0 (up_row ⟨by omega, by omega⟩)) dX1_removeFirst_56 ?_
      generalize hu_2 : st w (40 + n) (w 12 n) 0 = u_2
      have k30u_2 : u_2 30 0 = w 30 0 := by rw [← hu_2]; first | rfl | exact st_nf (by omega)
      exact g_vret X rfl dX1_removeFirst_57 ⟨rfl, rfl, by subst hu_2; subst hw; rw [rowUp_k (by omega)]; have e9 : i = u 12 n := (by omega); rw [e9]⟩
    · refine g_aload_n X 1 dX1_removeFirst_27 rfl rfl ?_
      refine g_get X 3 n (cx3 ⟨by omega, by omega⟩) rfl 1 (by decide) hiX1 (by decide +kernel) rfl rfl dX1_removeFirst_28 ?_
      refine g_iload_n X 0 dX1_removeFirst_31 rfl rfl ?_
      refine g_aload_n X 1 dX1_removeFirst_32 rfl rfl ?_
      refine g_get X 3 n (cx3 ⟨by omega, by omega⟩) rfl 1 (by decide) hiX1 (by decide +kernel) rfl rfl dX1_removeFirst_33 ?_
      refine g_iload_n X 0 dX1_removeFirst_36 rfl rfl ?_
      refine g_iconst X (v := nI 1) dX1_removeFirst_37 (by decide) ?_
      refine g_iadd X dX1_removeFirst_38 (nI_add _ _) ?_
      have hr9 := (h2 (i + 1) (by omega)).2
      have b_3 : w (40 + n) (i + 1) ≠ 0 := by rw [kr]; exact (h2 _ (by omega)).1
      refine g_aald0 X 4 n (cx4 ⟨by omega, by omega⟩) (i + 1) (by omega) (by omega) (rI_vp b_3) dX1_removeFirst_39 ?_
      refine g_aast0 X 4 n 9 (w (40 + n) (i + 1)) (cx4 ⟨by omega, by omega⟩) (cx9 ⟨by omega, by omega⟩) i (by omega) (by omega) _ (upr (by omega) (up_row ⟨by omega, by omega⟩)) dX1_removeFirst_40 ?_
      generalize hu_4 : st w (40 + n) i (w (40 + n) (i + 1)) = u_4
      have k30u_4 : u_4 30 0 = w 30 0 := by rw [← hu_4]; first | rfl | exact st_nf (by omega)
      refine g_iinc X 0 [(1, .int (nI (i + 1))), (0, .ref (al 3 n))] dX1_removeFirst_41 rfl (nI_inc (by decide)) (by decide) rfl ?_
      refine g_goto X 19 dX1_removeFirst_44 (by decide) ?_
      refine g_lv [0, 1] rfl ?_
      subst hu_4
      subst hw
      exact ih (i + 1) (by omega) (by omega)

set_option maxRecDepth 100000 in
set_option maxHeartbeats 4000000 in
/-- removeFirst -/
theorem c_removeFirst {l : Launch} {D : va_G} {ta : Nat → ClassId} {pl : Nat → Nat} {bs : Nat} {al : Ad} {Z : Wo} {u : St} (n : Nat) (h0 : 1 ≤ n ∧ n ≤ 4) (h1 : 1 ≤ u 12 n) (h3 : u 12 n ≤ 8) (h2 : ∀ j, j < u 12 n → u (40 + n) j ≠ 0 ∧ u (40 + n) j ≤ u 30 0) : GD l D ta pl bs yX1_removeFirst wsX1_removeFirst (rmF 0 0) [.ref (al 3 n)] al (mC Z ta pl al u) none (mC Z ta pl al (remF u n)) := by
  refine GM.of (by decide) rfl (Nat.le_of_ble_eq_true rfl) ?_
  intro p e s m args below meth c X hnm
  have hiX1 : ∀ w ∈ u_ws RX1 TX1 5, w ∈ wsX1_removeFirst := by decide +kernel
  refine g_lv (lv' := [(0, .ref (al 3 n))]) [0] rfl ?_
  refine g_aload_n X 0 dX1_removeFirst_0 rfl rfl ?_
  refine g_get X 3 n (cx3 ⟨by omega, by omega⟩) rfl 2 (by decide) hiX1 (by decide +kernel) rfl rfl dX1_removeFirst_1 ?_
  refine g_if_le X 57 dX1_removeFirst_4 (by decide) (n0_le (by omega)) (fun c_1 => ?_) (fun c_1 => ?_)
  · exact absurd c_1 (by omega)
  · refine g_aload_n X 0 dX1_removeFirst_7 rfl rfl ?_
    refine g_dup X dX1_removeFirst_8 rfl ?_
    refine g_get X 3 n (cx3 ⟨by omega, by omega⟩) rfl 2 (by decide) hiX1 (by decide +kernel) rfl rfl dX1_removeFirst_9 ?_
    refine g_iconst X (v := nI 1) dX1_removeFirst_12 (by decide) ?_
    refine g_isub X dX1_removeFirst_13 (pk_sub (by omega)) ?_
    refine g_put X tyX1 tyX1_ok nmX1 3 n (cx3 ⟨by omega, by omega⟩) rfl 2 (by decide) hiX1 (by decide +kernel) rfl rfl (ty := .int) (by decide +kernel) rfl rfl (Nat.le_of_ble_eq_true rfl) _ (up_waiting ⟨by omega, by omega⟩) dX1_removeFirst_14 ?_
    generalize hu_2 : st u 12 n ((u 12 n) - 1) = u_2
    have k0u_2 : u_2 0 0 = u 0 0 := by rw [← hu_2]; first | rfl | exact st_nf (by omega)
    have k30u_2 : u_2 30 0 = u 30 0 := by rw [← hu_2]; first | rfl | exact st_nf (by omega)
    refine g_iconst X (v := nI 0) dX1_removeFirst_17 (by decide) ?_
    refine g_istore_n X [(1, .int (nI 0)), (0, .ref (al 3 n))] dX1_removeFirst_18 rfl (by decide) rfl ?_
    refine g_lv [0, 1] rfl ?_
    have e9 : u_2 12 n = u 12 n - 1 := by rw [← hu_2, st_self]
    have h29 : ∀ j, j ≤ u_2 12 n → u_2 (40 + n) j ≠ 0 ∧ u_2 (40 + n) j ≤ u_2 30 0 := by
      intro j hj
      rw [k30u_2, ← hu_2, st_nf (by omega)]
      exact h2 j (by omega)
    have q9 := l_removeFirst (u := u_2) (al := al) (Z := Z) (below := below) (l := l) (e := e) X n h0 (by omega) h29 (u_2 12 n + 1) 0 (Nat.zero_le _) (by omega)
    subst hu_2
    exact q9

set_option maxRecDepth 100000 in
set_option maxHeartbeats 4000000 in
/-- letOut -/
theorem c_letOut {l : Launch} {D : va_G} {ta : Nat → ClassId} {pl : Nat → Nat} {bs : Nat} {al : Ad} {Z : Wo} {u : St} (i c0 : Nat) (h1 : 1 ≤ u 0 0) (h2 : u 0 0 ≤ 200) (h3 : 1 ≤ i ∧ i ≤ u 30 0) (h4 : u 24 i < u 0 0) (h5 : c0 < 16) (h6 : 1 ≤ u 4 0) (h7 : u 3 0 < 400) : GD l D ta pl bs yX4_letOut wsX4_letOut (rmF 2 44) [.ref (al 0 0), .ref (al 9 i), .int (nI c0)] al (mC Z ta pl al u) none (mC Z ta pl al (letOut u i c0)) := by
  refine GM.of (by decide) rfl (Nat.le_of_ble_eq_true rfl) ?_
  intro p e s m args below meth c X hnm
  have hiX0 : ∀ w ∈ u_ws RX0 TX0 4, w ∈ wsX4_letOut := by decide +kernel
  have hiX2 : ∀ w ∈ u_ws RX2 TX2 8, w ∈ wsX4_letOut := by decide +kernel
  have hiX4 : ∀ w ∈ u_ws RX4 TX4 13, w ∈ wsX4_letOut := by decide +kernel
  refine g_lv (lv' := [(0, .ref (al 0 0)), (1, .ref (al 9 i)), (2, .int (nI c0))]) [0, 1, 2] rfl ?_
  refine g_aload_n X 0 dX4_letOut_0 rfl rfl ?_
  refine g_aload_n X 1 dX4_letOut_1 rfl rfl ?_
  refine g_null X dX4_letOut_2 ?_
  refine g_callDV0 (n := 2) X 0 0 [.ref (al 9 i), .null] cx0 rfl (c_setTr_0 i (by omega) (by omega) ⟨by omega, by omega⟩ (by omega)) gX4_letOut_X4_setTraysOf rfl ⟨rfl, rfl⟩ (by decide +kernel) ⟨by decide, by decide⟩ rfl (Nat.le_of_ble_eq_true rfl) dX4_letOut_3 ⟨Nat.zero_le _, Nat.zero_le _⟩ _ rfl ?_
  generalize hu_1 : setTr u i 0 = u_1
  have k0u_1 : u_1 0 0 = u 0 0 := by rw [← hu_1]; exact setTr_ne (by decide)
  have k30u_1 : u_1 30 0 = u 30 0 := by rw [← hu_1]; exact setTr_ne (by decide)
  have k3u_1 : u_1 3 0 = u 3 0 := by rw [← hu_1]; exact setTr_ne (by decide)
  refine g_aload_n X 0 dX4_letOut_6 rfl rfl ?_
  refine g_dup X dX4_letOut_7 rfl ?_
  refine g_get X 0 0 cx0 rfl 9 (by decide) hiX4 (by decide +kernel) rfl rfl dX4_letOut_8 ?_
  refine g_iconst X (v := nI 1) dX4_letOut_11 (by decide) ?_
  have k4u_1 : u_1 4 0 = u 4 0 := by rw [← hu_1]; exact setTr_ne (by decide)
  refine g_isub X dX4_letOut_12 (pk_sub (by omega)) ?_
  refine g_put X tyX4 tyX4_ok nmX4 0 0 cx0 rfl 9 (by decide) hiX4 (by decide +kernel) rfl rfl (ty := .int) (by decide +kernel) rfl rfl (Nat.le_of_ble_eq_true rfl) _ up_carriedCount dX4_letOut_13 ?_
  generalize hu_2 : st u_1 4 0 ((u_1 4 0) - 1) = u_2
  have k0u_2 : u_2 0 0 = u_1 0 0 := by rw [← hu_2]; first | rfl | exact st_nf (by omega)
  have k30u_2 : u_2 30 0 = u_1 30 0 := by rw [← hu_2]; first | rfl | exact st_nf (by omega)
  have k3u_2 : u_2 3 0 = u_1 3 0 := by rw [← hu_2]; first | rfl | exact st_nf (by omega)
  refine g_aload_n X 0 dX4_letOut_16 rfl rfl ?_
  refine g_get X 0 0 cx0 rfl 4 (by decide) hiX4 (by decide +kernel) rfl rfl dX4_letOut_17 ?_
  refine g_iload_n X 2 dX4_letOut_20 rfl rfl ?_
  refine g_aald2 X 5 0 cx5 c0 (by omega) (by omega) (ar5 (by omega)) dX4_letOut_21 ?_
  refine g_dup X dX4_letOut_22 rfl ?_
  refine g_get X 6 c0 (cx6 (by omega)) rfl 2 (by decide) hiX0 (by decide +kernel) rfl rfl dX4_letOut_23 ?_
  refine g_iconst X (v := nI 1) dX4_letOut_26 (by decide) ?_
  refine g_iadd X dX4_letOut_27 (nI_add _ _) ?_
  refine g_put X tyX0 tyX0_ok nmX0 6 c0 (cx6 (by omega)) rfl 2 (by decide) hiX0 (by decide +kernel) rfl rfl (ty := .int) (by decide +kernel) rfl rfl (Nat.le_of_ble_eq_true rfl) _ (up_lying (by omega)) dX4_letOut_28 ?_
  generalize hu_3 : st u_2 18 c0 ((u_2 18 c0) + 1) = u_3
  have k0u_3 : u_3 0 0 = u_2 0 0 := by rw [← hu_3]; first | rfl | exact st_nf (by omega)
  have k30u_3 : u_3 30 0 = u_2 30 0 := by rw [← hu_3]; first | rfl | exact st_nf (by omega)
  have k3u_3 : u_3 3 0 = u_2 3 0 := by rw [← hu_3]; first | rfl | exact st_nf (by omega)
  refine g_aload_n X 1 dX4_letOut_31 rfl rfl ?_
  refine g_place X 3 (by decide) "OUT" rfl (by decide +kernel) dX4_letOut_32 ?_
  refine g_put X tyX2 tyX2_ok nmX2 9 i (cx9 ⟨by omega, by omega⟩) rfl 3 (by decide) hiX2 (by decide +kernel) rfl rfl (ty := .object "LoopSorter$Place") (by decide +kernel) rfl rfl (Nat.le_of_ble_eq_true rfl) _ (up_place ⟨by omega, by omega⟩) dX4_letOut_35 ?_
  generalize hu_4 : st u_3 23 i 3 = u_4
  have k0u_4 : u_4 0 0 = u_3 0 0 := by rw [← hu_4]; first | rfl | exact st_nf (by omega)
  have k30u_4 : u_4 30 0 = u_3 30 0 := by rw [← hu_4]; first | rfl | exact st_nf (by omega)
  have k3u_4 : u_4 3 0 = u_3 3 0 := by rw [← hu_4]; first | rfl | exact st_nf (by omega)
  refine g_aload_n X 1 dX4_letOut_38 rfl rfl ?_
  refine g_iload_n X 2 dX4_letOut_39 rfl rfl ?_
  refine g_put X tyX2 tyX2_ok nmX2 9 i (cx9 ⟨by omega, by omega⟩) rfl 6 (by decide) hiX2 (by decide +kernel) rfl rfl (ty := .int) (by decide +kernel) rfl rfl (Nat.le_of_ble_eq_true rfl) _ (up_outChute ⟨by omega, by omega⟩) dX4_letOut_40 ?_
  generalize hu_5 : st u_4 26 i c0 = u_5
  have k0u_5 : u_5 0 0 = u_4 0 0 := by rw [← hu_5]; first | rfl | exact st_nf (by omega)
  have k30u_5 : u_5 30 0 = u_4 30 0 := by rw [← hu_5]; first | rfl | exact st_nf (by omega)
  have k3u_5 : u_5 3 0 = u_4 3 0 := by rw [← hu_5]; first | rfl | exact st_nf (by omega)
  refine g_aload_n X 1 dX4_letOut_43 rfl rfl ?_
  refine g_aload_n X 0 dX4_letOut_44 rfl rfl ?_
  refine g_get X 0 0 cx0 rfl 11 (by decide) hiX4 (by decide +kernel) rfl rfl dX4_letOut_45 ?_
  refine g_put X tyX2 tyX2_ok nmX2 9 i (cx9 ⟨by omega, by omega⟩) rfl 7 (by decide) hiX2 (by decide +kernel) rfl rfl (ty := .int) (by decide +kernel) rfl rfl (Nat.le_of_ble_eq_true rfl) _ (up_outTime ⟨by omega, by omega⟩) dX4_letOut_48 ?_
  generalize hu_6 : st u_5 27 i (u_5 6 0) = u_6
  have k0u_6 : u_6 0 0 = u_5 0 0 := by rw [← hu_6]; first | rfl | exact st_nf (by omega)
  have k30u_6 : u_6 30 0 = u_5 30 0 := by rw [← hu_6]; first | rfl | exact st_nf (by omega)
  have k3u_6 : u_6 3 0 = u_5 3 0 := by rw [← hu_6]; first | rfl | exact st_nf (by omega)
  refine g_aload_n X 0 dX4_letOut_51 rfl rfl ?_
  refine g_get X 0 0 cx0 rfl 8 (by decide) hiX4 (by decide +kernel) rfl rfl dX4_letOut_52 ?_
  refine g_sipush X (v := nI 400) dX4_letOut_55 (by decide) ?_
  refine g_icmp_ge X 81 dX4_letOut_58 (by decide) (nI_leI (by omega) (by omega)) (fun c_7 => ?_) (fun c_7 => ?_)
  · exact absurd c_7 (by omega)
  · refine g_aload_n X 0 dX4_letOut_61 rfl rfl ?_
    refine g_get X 0 0 cx0 rfl 6 (by decide) hiX4 (by decide +kernel) rfl rfl dX4_letOut_62 ?_
    refine g_aload_n X 0 dX4_letOut_65 rfl rfl ?_
    refine g_get X 0 0 cx0 rfl 8 (by decide) hiX4 (by decide +kernel) rfl rfl dX4_letOut_66 ?_
    refine g_aload_n X 1 dX4_letOut_69 rfl rfl ?_
    refine g_aast0 X 8 0 9 i cx8 (cx9 ⟨by omega, by omega⟩) (u_6 3 0) (by omega) (by omega) _ (upr (by omega) (up_gone )) dX4_letOut_70 ?_
    generalize hu_8 : st u_6 10 (u_6 3 0) i = u_8
    have k0u_8 : u_8 0 0 = u_6 0 0 := by rw [← hu_8]; first | rfl | exact st_nf (by omega)
    have k30u_8 : u_8 30 0 = u_6 30 0 := by rw [← hu_8]; first | rfl | exact st_nf (by omega)
    have k3u_8 : u_8 3 0 = u_6 3 0 := by rw [← hu_8]; first | rfl | exact st_nf (by omega)
    refine g_aload_n X 0 dX4_letOut_71 rfl rfl ?_
    refine g_dup X dX4_letOut_72 rfl ?_
    refine g_get X 0 0 cx0 rfl 8 (by decide) hiX4 (by decide +kernel) rfl rfl dX4_letOut_73 ?_
    refine g_iconst X (v := nI 1) dX4_letOut_76 (by decide) ?_
    refine g_iadd X dX4_letOut_77 (nI_add _ _) ?_
    refine g_put X tyX4 tyX4_ok nmX4 0 0 cx0 rfl 8 (by decide) hiX4 (by decide +kernel) rfl rfl (ty := .int) (by decide +kernel) rfl rfl (Nat.le_of_ble_eq_true rfl) _ up_goneCount dX4_letOut_78 ?_
    generalize hu_9 : st u_8 3 0 ((u_8 3 0) + 1) = u_9
    have k0u_9 : u_9 0 0 = u_8 0 0 := by rw [← hu_9]; first | rfl | exact st_nf (by omega)
    have k30u_9 : u_9 30 0 = u_8 30 0 := by rw [← hu_9]; first | rfl | exact st_nf (by omega)
    exact g_vret X rfl dX4_letOut_81 ⟨rfl, rfl, by subst hu_1; subst hu_2; subst hu_3; subst hu_4; subst hu_5; subst hu_6; subst hu_8; subst hu_9; rfl⟩

set_option maxRecDepth 100000 in
set_option maxHeartbeats 4000000 in
/-- passChute -/
theorem c_passChute {l : Launch} {D : va_G} {ta : Nat → ClassId} {pl : Nat → Nat} {bs : Nat} {al : Ad} {Z : Wo} {u : St} (i c0 : Nat) (h1 : 1 ≤ u 0 0) (h2 : u 0 0 ≤ 200) (h3 : 1 ≤ i ∧ i ≤ u 30 0) (h4 : u 24 i < u 0 0) (h5 : c0 < 16) (h6 : 1 ≤ u 4 0) (h7 : u 3 0 < 400) : GD l D ta pl bs yX4_passChute wsX4_passChute (rmF 3 66) [.ref (al 0 0), .ref (al 9 i), .int (nI c0)] al (mC Z ta pl al u) none (mC Z ta pl al (passC u i c0)) := by
  refine GM.of (by decide) rfl (Nat.le_of_ble_eq_true rfl) ?_
  intro p e s m args below meth c X hnm
  have hiX2 : ∀ w ∈ u_ws RX2 TX2 8, w ∈ wsX4_passChute := by decide +kernel
  have hiX4 : ∀ w ∈ u_ws RX4 TX4 13, w ∈ wsX4_passChute := by decide +kernel
  refine g_lv (lv' := [(0, .ref (al 0 0)), (1, .ref (al 9 i)), (2, .int (nI c0))]) [0, 1, 2] rfl ?_
  refine g_aload_n X 1 dX4_passChute_0 rfl rfl ?_
  refine g_get X 9 i (cx9 ⟨by omega, by omega⟩) rfl 2 (by decide) hiX2 (by decide +kernel) rfl rfl dX4_passChute_1 ?_
  refine g_iload_n X 2 dX4_passChute_4 rfl rfl ?_
  refine g_icmp_ne X 12 dX4_passChute_5 (by decide) (Iff.rfl) (fun c_1 => ?_) (fun c_1 => ?_)
  · refine g_iconst X (v := nI 0) dX4_passChute_12 (by decide) ?_
    refine g_istore_n X [(3, .int (nI 0)), (0, .ref (al 0 0)), (1, .ref (al 9 i)), (2, .int (nI c0))] dX4_passChute_13 rfl (by decide) rfl ?_
    refine g_iload_n X 3 dX4_passChute_14 rfl rfl ?_
    refine g_bipush X (v := nI 15) dX4_passChute_15 (by decide) ?_
    refine g_icmp_ne X 35 dX4_passChute_17 (by decide) (nI_eq (by omega) (by omega)) (fun c_2 => ?_) (fun c_2 => ?_)
    · refine g_iconst X (v := nI 0) dX4_passChute_35 (by decide) ?_
      refine g_istore X [(4, .int (nI 0)), (3, .int (nI 0)), (0, .ref (al 0 0)), (1, .ref (al 9 i)), (2, .int (nI c0))] dX4_passChute_36 (by decide) rfl ?_
      refine g_iload_n X 1 dX4_passChute_38 rfl rfl ?_
      refine g_if_ne X 48 dX4_passChute_39 (by decide) (n0_eq (by omega)) (fun c_3 => ?_) (fun c_3 => ?_)
      · exact absurd c_3 (by decide)
      · refine g_iload X 0 dX4_passChute_42 rfl ?_
        refine g_if_ne X 48 dX4_passChute_44 (by decide) (n0_eq (by omega)) (fun c_4 => ?_) (fun c_4 => ?_)
        · exact absurd c_4 (by decide)
        · exact g_vret X rfl dX4_passChute_47 ⟨rfl, rfl, congrArg _ (by  first | exact passC_b (by assumption) (by assumption) | exact passC_e (by assumption) (by assumption) (by assumption) | exact passC_c (by assumption) (by assumption) | exact passC_d (by assumption) (by assumption) | exact passC_a (by assumption) (fun z => by first | exact absurd z.1 (by assumption) | exact z.2 (by assumption)))⟩
    · refine g_aload_n X 2 dX4_passChute_20 rfl rfl ?_
      refine g_get X 9 i (cx9 ⟨by omega, by omega⟩) rfl 5 (by decide) hiX2 (by decide +kernel) rfl rfl dX4_passChute_21 ?_
      refine g_aload_n X 1 dX4_passChute_24 rfl rfl ?_
      refine g_get X 0 0 cx0 rfl 1 (by decide) hiX4 (by decide +kernel) rfl rfl dX4_passChute_25 ?_
      refine g_icmp_lt X 35 dX4_passChute_28 (by decide) (Iff.rfl) (fun c_5 => ?_) (fun c_5 => ?_)
      · refine g_iconst X (v := nI 0) dX4_passChute_35 (by decide) ?_
        refine g_istore X [(4, .int (nI 0)), (3, .int (nI 0)), (0, .ref (al 0 0)), (1, .ref (al 9 i)), (2, .int (nI c0))] dX4_passChute_36 (by decide) rfl ?_
        refine g_iload_n X 1 dX4_passChute_38 rfl rfl ?_
        refine g_if_ne X 48 dX4_passChute_39 (by decide) (n0_eq (by omega)) (fun c_6 => ?_) (fun c_6 => ?_)
        · exact absurd c_6 (by decide)
        · refine g_iload X 0 dX4_passChute_42 rfl ?_
          refine g_if_ne X 48 dX4_passChute_44 (by decide) (n0_eq (by omega)) (fun c_7 => ?_) (fun c_7 => ?_)
          · exact absurd c_7 (by decide)
          · exact g_vret X rfl dX4_passChute_47 ⟨rfl, rfl, congrArg _ (by  first | exact passC_b (by assumption) (by assumption) | exact passC_e (by assumption) (by assumption) (by assumption) | exact passC_c (by assumption) (by assumption) | exact passC_d (by assumption) (by assumption) | exact passC_a (by assumption) (fun z => by first | exact absurd z.1 (by assumption) | exact z.2 (by assumption)))⟩
      · refine g_iconst X (v := nI 1) dX4_passChute_31 (by decide) ?_
        refine g_goto X 36 dX4_passChute_32 (by decide) ?_
        refine g_istore X [(4, .int (nI 1)), (3, .int (nI 0)), (0, .ref (al 0 0)), (1, .ref (al 9 i)), (2, .int (nI c0))] dX4_passChute_36 (by decide) rfl ?_
        refine g_iload_n X 1 dX4_passChute_38 rfl rfl ?_
        refine g_if_ne X 48 dX4_passChute_39 (by decide) (n0_eq (by omega)) (fun c_8 => ?_) (fun c_8 => ?_)
        · exact absurd c_8 (by decide)
        · refine g_iload X 0 dX4_passChute_42 rfl ?_
          refine g_if_ne X 48 dX4_passChute_44 (by decide) (n0_eq (by omega)) (fun c_9 => ?_) (fun c_9 => ?_)
          · refine g_aload_n X 2 dX4_passChute_48 rfl rfl ?_
            refine g_get X 0 0 cx0 rfl 4 (by decide) hiX4 (by decide +kernel) rfl rfl dX4_passChute_49 ?_
            refine g_iload_n X 4 dX4_passChute_52 rfl rfl ?_
            refine g_aald2 X 5 0 cx5 c0 (by omega) (by omega) (ar5 (by omega)) dX4_passChute_53 ?_
            refine g_callDV1 (n := 0) X 6 c0 [] (cx6 (by omega)) rfl (c_hasRoom c0 (by omega)) gX4_passChute_X0_hasRoom rfl ⟨rfl, rfl⟩ (by decide +kernel) ⟨by decide, by decide⟩ rfl (Nat.le_of_ble_eq_true rfl) dX4_passChute_54 ⟨Nat.zero_le _, Nat.zero_le _⟩ _ rfl ?_
            refine g_if_eq X 69 dX4_passChute_57 (by decide) (bN_eq0) (fun c_10 => ?_) (fun c_10 => ?_)
            · refine g_iload_n X 1 dX4_passChute_69 rfl rfl ?_
              refine g_if_eq X 83 dX4_passChute_70 (by decide) (n0_eq (by omega)) (fun c_11 => ?_) (fun c_11 => ?_)
              · exact g_vret X rfl dX4_passChute_83 ⟨rfl, rfl, congrArg _ (by  first | exact passC_b (by assumption) (by assumption) | exact passC_e (by assumption) (by assumption) (by assumption) | exact passC_c (by assumption) (by assumption) | exact passC_d (by assumption) (by assumption) | exact passC_a (by assumption) (fun z => by first | exact absurd z.1 (by assumption) | exact z.2 (by assumption)))⟩
              · exact absurd c_11 (by decide)
            · have c_10 := Decidable.of_not_not c_10
              refine g_aload_n X 2 dX4_passChute_60 rfl rfl ?_
              refine g_aload_n X 3 dX4_passChute_61 rfl rfl ?_
              refine g_iload_n X 4 dX4_passChute_62 rfl rfl ?_
              refine g_callDV0 (n := 2) X 0 0 [.ref (al 9 i), .int (nI c0)] cx0 rfl (c_letOut i c0 (by omega) (by omega) ⟨by omega, by omega⟩ (by omega) (by omega) (by omega) (by omega)) gX4_passChute_X4_letOut rfl ⟨rfl, rfl⟩ (by decide +kernel) ⟨by decide, by decide⟩ rfl (Nat.le_of_ble_eq_true rfl) dX4_passChute_63 ⟨Nat.zero_le _, Nat.zero_le _⟩ _ rfl ?_
              generalize hu_12 : letOut u i c0 = u_12
              have k0u_12 : u_12 0 0 = u 0 0 := by rw [← hu_12]; exact letOut_k (by omega)
              have k30u_12 : u_12 30 0 = u 30 0 := by rw [← hu_12]; exact letOut_k (by omega)
              refine g_goto X 83 dX4_passChute_66 (by decide) ?_
              exact g_vret X rfl dX4_passChute_83 ⟨rfl, rfl, congrArg _ (by subst hu_12; first | exact passC_b (by assumption) (by assumption) | exact passC_e (by assumption) (by assumption) (by assumption) | exact passC_c (by assumption) (by assumption) | exact passC_d (by assumption) (by assumption) | exact passC_a (by assumption) (fun z => by first | exact absurd z.1 (by assumption) | exact z.2 (by assumption)))⟩
          · exact absurd c_9 (by decide)
  · refine g_iconst X (v := nI 1) dX4_passChute_8 (by decide) ?_
    refine g_goto X 13 dX4_passChute_9 (by decide) ?_
    refine g_istore_n X [(3, .int (nI 1)), (0, .ref (al 0 0)), (1, .ref (al 9 i)), (2, .int (nI c0))] dX4_passChute_13 rfl (by decide) rfl ?_
    refine g_iload_n X 3 dX4_passChute_14 rfl rfl ?_
    refine g_bipush X (v := nI 15) dX4_passChute_15 (by decide) ?_
    refine g_icmp_ne X 35 dX4_passChute_17 (by decide) (nI_eq (by omega) (by omega)) (fun c_13 => ?_) (fun c_13 => ?_)
    · refine g_iconst X (v := nI 0) dX4_passChute_35 (by decide) ?_
      refine g_istore X [(4, .int (nI 0)), (3, .int (nI 1)), (0, .ref (al 0 0)), (1, .ref (al 9 i)), (2, .int (nI c0))] dX4_passChute_36 (by decide) rfl ?_
      refine g_iload_n X 1 dX4_passChute_38 rfl rfl ?_
      refine g_if_ne X 48 dX4_passChute_39 (by decide) (n0_eq (by omega)) (fun c_14 => ?_) (fun c_14 => ?_)
      · refine g_aload_n X 2 dX4_passChute_48 rfl rfl ?_
        refine g_get X 0 0 cx0 rfl 4 (by decide) hiX4 (by decide +kernel) rfl rfl dX4_passChute_49 ?_
        refine g_iload_n X 4 dX4_passChute_52 rfl rfl ?_
        refine g_aald2 X 5 0 cx5 c0 (by omega) (by omega) (ar5 (by omega)) dX4_passChute_53 ?_
        refine g_callDV1 (n := 0) X 6 c0 [] (cx6 (by omega)) rfl (c_hasRoom c0 (by omega)) gX4_passChute_X0_hasRoom rfl ⟨rfl, rfl⟩ (by decide +kernel) ⟨by decide, by decide⟩ rfl (Nat.le_of_ble_eq_true rfl) dX4_passChute_54 ⟨Nat.zero_le _, Nat.zero_le _⟩ _ rfl ?_
        refine g_if_eq X 69 dX4_passChute_57 (by decide) (bN_eq0) (fun c_15 => ?_) (fun c_15 => ?_)
        · refine g_iload_n X 1 dX4_passChute_69 rfl rfl ?_
          refine g_if_eq X 83 dX4_passChute_70 (by decide) (n0_eq (by omega)) (fun c_16 => ?_) (fun c_16 => ?_)
          · exact absurd c_16 (by decide)
          · refine g_aload_n X 3 dX4_passChute_73 rfl rfl ?_
            refine g_dup X dX4_passChute_74 rfl ?_
            refine g_get X 9 i (cx9 ⟨by omega, by omega⟩) rfl 5 (by decide) hiX2 (by decide +kernel) rfl rfl dX4_passChute_75 ?_
            refine g_iconst X (v := nI 1) dX4_passChute_78 (by decide) ?_
            refine g_iadd X dX4_passChute_79 (nI_add _ _) ?_
            refine g_put X tyX2 tyX2_ok nmX2 9 i (cx9 ⟨by omega, by omega⟩) rfl 5 (by decide) hiX2 (by decide +kernel) rfl rfl (ty := .int) (by decide +kernel) rfl rfl (Nat.le_of_ble_eq_true rfl) _ (up_rounds ⟨by omega, by omega⟩) dX4_passChute_80 ?_
            generalize hu_17 : st u 25 i ((u 25 i) + 1) = u_17
            have k0u_17 : u_17 0 0 = u 0 0 := by rw [← hu_17]; first | rfl | exact st_nf (by omega)
            have k30u_17 : u_17 30 0 = u 30 0 := by rw [← hu_17]; first | rfl | exact st_nf (by omega)
            exact g_vret X rfl dX4_passChute_83 ⟨rfl, rfl, congrArg _ (by subst hu_17; first | exact passC_b (by assumption) (by assumption) | exact passC_e (by assumption) (by assumption) (by assumption) | exact passC_c (by assumption) (by assumption) | exact passC_d (by assumption) (by assumption) | exact passC_a (by assumption) (fun z => by first | exact absurd z.1 (by assumption) | exact z.2 (by assumption)))⟩
        · have c_15 := Decidable.of_not_not c_15
          refine g_aload_n X 2 dX4_passChute_60 rfl rfl ?_
          refine g_aload_n X 3 dX4_passChute_61 rfl rfl ?_
          refine g_iload_n X 4 dX4_passChute_62 rfl rfl ?_
          refine g_callDV0 (n := 2) X 0 0 [.ref (al 9 i), .int (nI c0)] cx0 rfl (c_letOut i c0 (by omega) (by omega) ⟨by omega, by omega⟩ (by omega) (by omega) (by omega) (by omega)) gX4_passChute_X4_letOut rfl ⟨rfl, rfl⟩ (by decide +kernel) ⟨by decide, by decide⟩ rfl (Nat.le_of_ble_eq_true rfl) dX4_passChute_63 ⟨Nat.zero_le _, Nat.zero_le _⟩ _ rfl ?_
          generalize hu_18 : letOut u i c0 = u_18
          have k0u_18 : u_18 0 0 = u 0 0 := by rw [← hu_18]; exact letOut_k (by omega)
          have k30u_18 : u_18 30 0 = u 30 0 := by rw [← hu_18]; exact letOut_k (by omega)
          refine g_goto X 83 dX4_passChute_66 (by decide) ?_
          exact g_vret X rfl dX4_passChute_83 ⟨rfl, rfl, congrArg _ (by subst hu_18; first | exact passC_b (by assumption) (by assumption) | exact passC_e (by assumption) (by assumption) (by assumption) | exact passC_c (by assumption) (by assumption) | exact passC_d (by assumption) (by assumption) | exact passC_a (by assumption) (fun z => by first | exact absurd z.1 (by assumption) | exact z.2 (by assumption)))⟩
      · exact absurd c_14 (by decide)
    · refine g_aload_n X 2 dX4_passChute_20 rfl rfl ?_
      refine g_get X 9 i (cx9 ⟨by omega, by omega⟩) rfl 5 (by decide) hiX2 (by decide +kernel) rfl rfl dX4_passChute_21 ?_
      refine g_aload_n X 1 dX4_passChute_24 rfl rfl ?_
      refine g_get X 0 0 cx0 rfl 1 (by decide) hiX4 (by decide +kernel) rfl rfl dX4_passChute_25 ?_
      refine g_icmp_lt X 35 dX4_passChute_28 (by decide) (Iff.rfl) (fun c_19 => ?_) (fun c_19 => ?_)
      · refine g_iconst X (v := nI 0) dX4_passChute_35 (by decide) ?_
        refine g_istore X [(4, .int (nI 0)), (3, .int (nI 1)), (0, .ref (al 0 0)), (1, .ref (al 9 i)), (2, .int (nI c0))] dX4_passChute_36 (by decide) rfl ?_
        refine g_iload_n X 1 dX4_passChute_38 rfl rfl ?_
        refine g_if_ne X 48 dX4_passChute_39 (by decide) (n0_eq (by omega)) (fun c_20 => ?_) (fun c_20 => ?_)
        · refine g_aload_n X 2 dX4_passChute_48 rfl rfl ?_
          refine g_get X 0 0 cx0 rfl 4 (by decide) hiX4 (by decide +kernel) rfl rfl dX4_passChute_49 ?_
          refine g_iload_n X 4 dX4_passChute_52 rfl rfl ?_
          refine g_aald2 X 5 0 cx5 c0 (by omega) (by omega) (ar5 (by omega)) dX4_passChute_53 ?_
          refine g_callDV1 (n := 0) X 6 c0 [] (cx6 (by omega)) rfl (c_hasRoom c0 (by omega)) gX4_passChute_X0_hasRoom rfl ⟨rfl, rfl⟩ (by decide +kernel) ⟨by decide, by decide⟩ rfl (Nat.le_of_ble_eq_true rfl) dX4_passChute_54 ⟨Nat.zero_le _, Nat.zero_le _⟩ _ rfl ?_
          refine g_if_eq X 69 dX4_passChute_57 (by decide) (bN_eq0) (fun c_21 => ?_) (fun c_21 => ?_)
          · refine g_iload_n X 1 dX4_passChute_69 rfl rfl ?_
            refine g_if_eq X 83 dX4_passChute_70 (by decide) (n0_eq (by omega)) (fun c_22 => ?_) (fun c_22 => ?_)
            · exact absurd c_22 (by decide)
            · refine g_aload_n X 3 dX4_passChute_73 rfl rfl ?_
              refine g_dup X dX4_passChute_74 rfl ?_
              refine g_get X 9 i (cx9 ⟨by omega, by omega⟩) rfl 5 (by decide) hiX2 (by decide +kernel) rfl rfl dX4_passChute_75 ?_
              refine g_iconst X (v := nI 1) dX4_passChute_78 (by decide) ?_
              refine g_iadd X dX4_passChute_79 (nI_add _ _) ?_
              refine g_put X tyX2 tyX2_ok nmX2 9 i (cx9 ⟨by omega, by omega⟩) rfl 5 (by decide) hiX2 (by decide +kernel) rfl rfl (ty := .int) (by decide +kernel) rfl rfl (Nat.le_of_ble_eq_true rfl) _ (up_rounds ⟨by omega, by omega⟩) dX4_passChute_80 ?_
              generalize hu_23 : st u 25 i ((u 25 i) + 1) = u_23
              have k0u_23 : u_23 0 0 = u 0 0 := by rw [← hu_23]; first | rfl | exact st_nf (by omega)
              have k30u_23 : u_23 30 0 = u 30 0 := by rw [← hu_23]; first | rfl | exact st_nf (by omega)
              exact g_vret X rfl dX4_passChute_83 ⟨rfl, rfl, congrArg _ (by subst hu_23; first | exact passC_b (by assumption) (by assumption) | exact passC_e (by assumption) (by assumption) (by assumption) | exact passC_c (by assumption) (by assumption) | exact passC_d (by assumption) (by assumption) | exact passC_a (by assumption) (fun z => by first | exact absurd z.1 (by assumption) | exact z.2 (by assumption)))⟩
          · have c_21 := Decidable.of_not_not c_21
            refine g_aload_n X 2 dX4_passChute_60 rfl rfl ?_
            refine g_aload_n X 3 dX4_passChute_61 rfl rfl ?_
            refine g_iload_n X 4 dX4_passChute_62 rfl rfl ?_
            refine g_callDV0 (n := 2) X 0 0 [.ref (al 9 i), .int (nI c0)] cx0 rfl (c_letOut i c0 (by omega) (by omega) ⟨by omega, by omega⟩ (by omega) (by omega) (by omega) (by omega)) gX4_passChute_X4_letOut rfl ⟨rfl, rfl⟩ (by decide +kernel) ⟨by decide, by decide⟩ rfl (Nat.le_of_ble_eq_true rfl) dX4_passChute_63 ⟨Nat.zero_le _, Nat.zero_le _⟩ _ rfl ?_
            generalize hu_24 : letOut u i c0 = u_24
            have k0u_24 : u_24 0 0 = u 0 0 := by rw [← hu_24]; exact letOut_k (by omega)
            have k30u_24 : u_24 30 0 = u 30 0 := by rw [← hu_24]; exact letOut_k (by omega)
            refine g_goto X 83 dX4_passChute_66 (by decide) ?_
            exact g_vret X rfl dX4_passChute_83 ⟨rfl, rfl, congrArg _ (by subst hu_24; first | exact passC_b (by assumption) (by assumption) | exact passC_e (by assumption) (by assumption) (by assumption) | exact passC_c (by assumption) (by assumption) | exact passC_d (by assumption) (by assumption) | exact passC_a (by assumption) (fun z => by first | exact absurd z.1 (by assumption) | exact z.2 (by assumption)))⟩
        · exact absurd c_20 (by decide)
      · refine g_iconst X (v := nI 1) dX4_passChute_31 (by decide) ?_
        refine g_goto X 36 dX4_passChute_32 (by decide) ?_
        refine g_istore X [(4, .int (nI 1)), (3, .int (nI 1)), (0, .ref (al 0 0)), (1, .ref (al 9 i)), (2, .int (nI c0))] dX4_passChute_36 (by decide) rfl ?_
        refine g_iload_n X 1 dX4_passChute_38 rfl rfl ?_
        refine g_if_ne X 48 dX4_passChute_39 (by decide) (n0_eq (by omega)) (fun c_25 => ?_) (fun c_25 => ?_)
        · refine g_aload_n X 2 dX4_passChute_48 rfl rfl ?_
          refine g_get X 0 0 cx0 rfl 4 (by decide) hiX4 (by decide +kernel) rfl rfl dX4_passChute_49 ?_
          refine g_iload_n X 4 dX4_passChute_52 rfl rfl ?_
          refine g_aald2 X 5 0 cx5 c0 (by omega) (by omega) (ar5 (by omega)) dX4_passChute_53 ?_
          refine g_callDV1 (n := 0) X 6 c0 [] (cx6 (by omega)) rfl (c_hasRoom c0 (by omega)) gX4_passChute_X0_hasRoom rfl ⟨rfl, rfl⟩ (by decide +kernel) ⟨by decide, by decide⟩ rfl (Nat.le_of_ble_eq_true rfl) dX4_passChute_54 ⟨Nat.zero_le _, Nat.zero_le _⟩ _ rfl ?_
          refine g_if_eq X 69 dX4_passChute_57 (by decide) (bN_eq0) (fun c_26 => ?_) (fun c_26 => ?_)
          · refine g_iload_n X 1 dX4_passChute_69 rfl rfl ?_
            refine g_if_eq X 83 dX4_passChute_70 (by decide) (n0_eq (by omega)) (fun c_27 => ?_) (fun c_27 => ?_)
            · exact absurd c_27 (by decide)
            · refine g_aload_n X 3 dX4_passChute_73 rfl rfl ?_
              refine g_dup X dX4_passChute_74 rfl ?_
              refine g_get X 9 i (cx9 ⟨by omega, by omega⟩) rfl 5 (by decide) hiX2 (by decide +kernel) rfl rfl dX4_passChute_75 ?_
              refine g_iconst X (v := nI 1) dX4_passChute_78 (by decide) ?_
              refine g_iadd X dX4_passChute_79 (nI_add _ _) ?_
              refine g_put X tyX2 tyX2_ok nmX2 9 i (cx9 ⟨by omega, by omega⟩) rfl 5 (by decide) hiX2 (by decide +kernel) rfl rfl (ty := .int) (by decide +kernel) rfl rfl (Nat.le_of_ble_eq_true rfl) _ (up_rounds ⟨by omega, by omega⟩) dX4_passChute_80 ?_
              generalize hu_28 : st u 25 i ((u 25 i) + 1) = u_28
              have k0u_28 : u_28 0 0 = u 0 0 := by rw [← hu_28]; first | rfl | exact st_nf (by omega)
              have k30u_28 : u_28 30 0 = u 30 0 := by rw [← hu_28]; first | rfl | exact st_nf (by omega)
              exact g_vret X rfl dX4_passChute_83 ⟨rfl, rfl, congrArg _ (by subst hu_28; first | exact passC_b (by assumption) (by assumption) | exact passC_e (by assumption) (by assumption) (by assumption) | exact passC_c (by assumption) (by assumption) | exact passC_d (by assumption) (by assumption) | exact passC_a (by assumption) (fun z => by first | exact absurd z.1 (by assumption) | exact z.2 (by assumption)))⟩
          · have c_26 := Decidable.of_not_not c_26
            refine g_aload_n X 2 dX4_passChute_60 rfl rfl ?_
            refine g_aload_n X 3 dX4_passChute_61 rfl rfl ?_
            refine g_iload_n X 4 dX4_passChute_62 rfl rfl ?_
            refine g_callDV0 (n := 2) X 0 0 [.ref (al 9 i), .int (nI c0)] cx0 rfl (c_letOut i c0 (by omega) (by omega) ⟨by omega, by omega⟩ (by omega) (by omega) (by omega) (by omega)) gX4_passChute_X4_letOut rfl ⟨rfl, rfl⟩ (by decide +kernel) ⟨by decide, by decide⟩ rfl (Nat.le_of_ble_eq_true rfl) dX4_passChute_63 ⟨Nat.zero_le _, Nat.zero_le _⟩ _ rfl ?_
            generalize hu_29 : letOut u i c0 = u_29
            have k0u_29 : u_29 0 0 = u 0 0 := by rw [← hu_29]; exact letOut_k (by omega)
            have k30u_29 : u_29 30 0 = u 30 0 := by rw [← hu_29]; exact letOut_k (by omega)
            refine g_goto X 83 dX4_passChute_66 (by decide) ?_
            exact g_vret X rfl dX4_passChute_83 ⟨rfl, rfl, congrArg _ (by subst hu_29; first | exact passC_b (by assumption) (by assumption) | exact passC_e (by assumption) (by assumption) (by assumption) | exact passC_c (by assumption) (by assumption) | exact passC_d (by assumption) (by assumption) | exact passC_a (by assumption) (fun z => by first | exact absurd z.1 (by assumption) | exact z.2 (by assumption)))⟩
        · exact absurd c_25 (by decide)

set_option maxRecDepth 100000 in
set_option maxHeartbeats 4000000 in
/-- the loop of passChutes at 2:  -/
theorem l_passChutes {l : Launch} {D : va_G} {ta : Nat → ClassId} {pl : Nat → Nat} {bs : Nat} {al : Ad} {Z : Wo} {p : Program} {e : Env} {s : State} {m : MethodId} {args : Array Value} {below : List Frame} {meth : Method} {c : Code} {u : St} (X : Cx D ta pl bs 4 p s m args meth c cX4_passChutes wsX4_passChutes RX4 none)  (h0 : Iv u) : ∀ (n9 i : Nat), i ≤ 16 → 16 + 1 ≤ i + n9 → WW D bs 4 p l e (rmF 4 90) s m args below meth c (QQ D bs below args s 0 0 (fun r al' C' => r = none ∧ al' = al ∧ C' = mC Z ta pl al (passN 16 u))) al (mC Z ta pl al (passN i u)) 0 0 2 [(1, .int (nI i)), (0, .ref (al 0 0))] [] := by
  have hiX0 : ∀ w ∈ u_ws RX0 TX0 4, w ∈ wsX4_passChutes := by decide +kernel
  have hiX2 : ∀ w ∈ u_ws RX2 TX2 8, w ∈ wsX4_passChutes := by decide +kernel
  have hiX4 : ∀ w ∈ u_ws RX4 TX4 13, w ∈ wsX4_passChutes := by decide +kernel
  intro n9
  induction n9 with
  | zero => intro i h8 h9; exact absurd h9 (by omega)
  | succ n9 ih =>
    intro i h8 h9
    have hI := Iv_passN h0 i h8
    generalize hw : passN i u = w at *
    obtain ⟨⟨h1, h2, h7, hN, h30, -, -⟩, hI2, hI3, -⟩ := id hI
    refine g_iload_n X 0 dX4_passChutes_2 rfl rfl ?_
    refine g_bipush X (v := nI 16) dX4_passChutes_3 (by decide) ?_
    refine g_icmp_ge X 62 dX4_passChutes_5 (by decide) (nI_leI (by omega) (by omega)) (fun c_1 => ?_) (fun c_1 => ?_)
    · exact g_vret X rfl dX4_passChutes_62 ⟨rfl, rfl, by subst hw; have e9 : i = 16 := (by omega); rw [e9]⟩
    · refine g_aload_n X 1 dX4_passChutes_8 rfl rfl ?_
      refine g_aload_n X 1 dX4_passChutes_9 rfl rfl ?_
      refine g_get X 0 0 cx0 rfl 4 (by decide) hiX4 (by decide +kernel) rfl rfl dX4_passChutes_10 ?_
      refine g_iload_n X 0 dX4_passChutes_13 rfl rfl ?_
      refine g_aald2 X 5 0 cx5 i (by omega) (by omega) (ar5 (by omega)) dX4_passChutes_14 ?_
      refine g_get X 6 i (cx6 (by omega)) rfl 0 (by decide) hiX0 (by decide +kernel) rfl rfl dX4_passChutes_15 ?_
      have hp9 := pos6_lt (c := i) (T := w 0 0) (by omega) (by omega) (by omega)
      have hq_2 : tA w ((i * w 0 0 + w 0 0 / 2) / 16) < w 0 0 := tA_lt (by omega) (by omega)
      refine g_callDV1 (n := 1) X 0 0 [.int (nI ((i * w 0 0 + w 0 0 / 2) / 16))] cx0 rfl (c_trayAt ((i * w 0 0 + w 0 0 / 2) / 16) (by omega) (by omega) (by omega) (by omega)) gX4_passChutes_X4_trayAt rfl ⟨rfl, rfl⟩ (by decide +kernel) ⟨by decide, by decide⟩ rfl (Nat.le_of_ble_eq_true rfl) dX4_passChutes_18 ⟨Nat.zero_le _, Nat.zero_le _⟩ _ rfl ?_
      refine g_istore_n X [(2, .int (nI (tA w ((i * w 0 0 + w 0 0 / 2) / 16)))), (1, .int (nI i)), (0, .ref (al 0 0))] dX4_passChutes_21 rfl (by decide) rfl ?_
      refine g_aload_n X 2 dX4_passChutes_22 rfl rfl ?_
      refine g_iload_n X 0 dX4_passChutes_23 rfl rfl ?_
      by_cases b_3 : w 8 (tA w ((i * w 0 0 + w 0 0 / 2) / 16)) = 0
      · skip
        refine g_callDV1 (n := 1) X 0 0 [.int (nI (tA w ((i * w 0 0 + w 0 0 / 2) / 16)))] cx0 rfl (c_itemOn_0 (tA w ((i * w 0 0 + w 0 0 / 2) / 16)) (by omega) (by omega) b_3) gX4_passChutes_X4_itemOn rfl ⟨rfl, rfl⟩ (by decide +kernel) ⟨by decide, by decide⟩ rfl (Nat.le_of_ble_eq_true rfl) dX4_passChutes_24 ⟨Nat.zero_le _, Nat.zero_le _⟩ _ rfl ?_
        refine g_astore_nN X [(3, .null), (2, .int (nI (tA w ((i * w 0 0 + w 0 0 / 2) / 16)))), (1, .int (nI i)), (0, .ref (al 0 0))] dX4_passChutes_27 rfl (by decide) rfl ?_
        refine g_aload_nN X 0 dX4_passChutes_28 rfl rfl ?_
        refine g_ifnull_n X 56 dX4_passChutes_29 (by decide) ?_
        refine g_iinc X 2 [(1, .int (nI (i + 1))), (3, .null), (2, .int (nI (tA w ((i * w 0 0 + w 0 0 / 2) / 16)))), (0, .ref (al 0 0))] dX4_passChutes_56 rfl (nI_inc (by decide)) (by decide) rfl ?_
        refine g_goto X 2 dX4_passChutes_59 (by decide) ?_
        refine g_lv [0, 3] rfl ?_
        have e9 : passN (i + 1) u = w := by show passOne (passN i u) i = _; rw [hw, passOne, if_neg (fun z => z.1 b_3)]
        have q9 := ih (i + 1) (by omega) (by omega)
        rw [e9] at q9
        exact q9
      · skip
        refine g_callDV1 (n := 1) X 0 0 [.int (nI (tA w ((i * w 0 0 + w 0 0 / 2) / 16)))] cx0 rfl (c_itemOn_1 (tA w ((i * w 0 0 + w 0 0 / 2) / 16)) (by omega) (by omega) b_3) gX4_passChutes_X4_itemOn rfl ⟨rfl, rfl⟩ (by decide +kernel) ⟨by decide, by decide⟩ rfl (Nat.le_of_ble_eq_true rfl) dX4_passChutes_24 ⟨Nat.zero_le _, Nat.zero_le _⟩ _ rfl ?_
        have hv9 := (hI3 ((tA w ((i * w 0 0 + w 0 0 / 2) / 16)))).1
        obtain ⟨hp1, hp2, hp3, hp4, hp5, -⟩ := hI2 (w 8 (tA w ((i * w 0 0 + w 0 0 / 2) / 16))) (by omega) (by omega)
        refine g_astore_n X [(3, .ref (al 9 (w 8 (tA w ((i * w 0 0 + w 0 0 / 2) / 16))))), (2, .int (nI (tA w ((i * w 0 0 + w 0 0 / 2) / 16)))), (1, .int (nI i)), (0, .ref (al 0 0))] dX4_passChutes_27 rfl (by decide) rfl ?_
        refine g_aload_n X 0 dX4_passChutes_28 rfl rfl ?_
        refine g_ifnull_r X dX4_passChutes_29 ?_
        refine g_aload_n X 0 dX4_passChutes_32 rfl rfl ?_
        refine g_get X 9 (w 8 (tA w ((i * w 0 0 + w 0 0 / 2) / 16))) (cx9 ⟨by omega, by omega⟩) rfl 4 (by decide) hiX2 (by decide +kernel) rfl rfl dX4_passChutes_33 ?_
        refine g_iload_n X 1 dX4_passChutes_36 rfl rfl ?_
        refine g_icmp_ne X 56 dX4_passChutes_37 (by decide) (nI_eq (by omega) (by omega)) (fun c_4 => ?_) (fun c_4 => ?_)
        · refine g_iinc X 2 [(1, .int (nI (i + 1))), (3, .ref (al 9 (w 8 (tA w ((i * w 0 0 + w 0 0 / 2) / 16))))), (2, .int (nI (tA w ((i * w 0 0 + w 0 0 / 2) / 16)))), (0, .ref (al 0 0))] dX4_passChutes_56 rfl (nI_inc (by decide)) (by decide) rfl ?_
          refine g_goto X 2 dX4_passChutes_59 (by decide) ?_
          refine g_lv [0, 3] rfl ?_
          have e9 : passN (i + 1) u = w := by show passOne (passN i u) i = _; rw [hw, passOne, if_neg (fun z => c_4 z.2.1)]
          have q9 := ih (i + 1) (by omega) (by omega)
          rw [e9] at q9
          exact q9
        · refine g_aload_n X 0 dX4_passChutes_40 rfl rfl ?_
          refine g_get X 9 (w 8 (tA w ((i * w 0 0 + w 0 0 / 2) / 16))) (cx9 ⟨by omega, by omega⟩) rfl 3 (by decide) hiX2 (by decide +kernel) rfl rfl dX4_passChutes_41 ?_
          refine g_place X 1 (by decide) "CARRIED" rfl (by decide +kernel) dX4_passChutes_44 ?_
          refine g_acmp_ne X 56 dX4_passChutes_47 (by decide) (plI X.2.2.2 (by omega) (by omega)) (fun c_5 => ?_) (fun c_5 => ?_)
          · refine g_iinc X 2 [(1, .int (nI (i + 1))), (3, .ref (al 9 (w 8 (tA w ((i * w 0 0 + w 0 0 / 2) / 16))))), (2, .int (nI (tA w ((i * w 0 0 + w 0 0 / 2) / 16)))), (0, .ref (al 0 0))] dX4_passChutes_56 rfl (nI_inc (by decide)) (by decide) rfl ?_
            refine g_goto X 2 dX4_passChutes_59 (by decide) ?_
            refine g_lv [0, 3] rfl ?_
            have e9 : passN (i + 1) u = w := by show passOne (passN i u) i = _; rw [hw, passOne, if_neg (fun z => c_5 z.2.2)]
            have q9 := ih (i + 1) (by omega) (by omega)
            rw [e9] at q9
            exact q9
          · obtain ⟨hc1, hc2, -⟩ := hI.carry (by omega) (by omega) c_5
            refine g_aload_n X 3 dX4_passChutes_50 rfl rfl ?_
            refine g_aload_n X 0 dX4_passChutes_51 rfl rfl ?_
            refine g_iload_n X 2 dX4_passChutes_52 rfl rfl ?_
            refine g_callDV0 (n := 2) X 0 0 [.ref (al 9 (w 8 (tA w ((i * w 0 0 + w 0 0 / 2) / 16)))), .int (nI i)] cx0 rfl (c_passChute (w 8 (tA w ((i * w 0 0 + w 0 0 / 2) / 16))) i (by omega) (by omega) ⟨by omega, by omega⟩ (by omega) (by omega) (by omega) (by omega)) gX4_passChutes_X4_passChute rfl ⟨rfl, rfl⟩ (by decide +kernel) ⟨by decide, by decide⟩ rfl (Nat.le_of_ble_eq_true rfl) dX4_passChutes_53 ⟨Nat.zero_le _, Nat.zero_le _⟩ _ rfl ?_
            generalize hu_6 : passC w (w 8 (tA w ((i * w 0 0 + w 0 0 / 2) / 16))) i = u_6
            have k0u_6 : u_6 0 0 = w 0 0 := by rw [← hu_6]; exact passC_k (by omega)
            have k30u_6 : u_6 30 0 = w 30 0 := by rw [← hu_6]; exact passC_k (by omega)
            refine g_iinc X 2 [(1, .int (nI (i + 1))), (3, .ref (al 9 (w 8 (tA w ((i * w 0 0 + w 0 0 / 2) / 16))))), (2, .int (nI (tA w ((i * w 0 0 + w 0 0 / 2) / 16)))), (0, .ref (al 0 0))] dX4_passChutes_56 rfl (nI_inc (by decide)) (by decide) rfl ?_
            refine g_goto X 2 dX4_passChutes_59 (by decide) ?_
            refine g_lv [0, 3] rfl ?_
            have e9 : passN (i + 1) u = u_6 := by show passOne (passN i u) i = _; rw [hw, passOne, if_pos ⟨b_3, c_4, c_5⟩]; exact hu_6
            have q9 := ih (i + 1) (by omega) (by omega)
            rw [e9] at q9
            exact q9

set_option maxRecDepth 100000 in
set_option maxHeartbeats 4000000 in
/-- passChutes -/
theorem c_passChutes {l : Launch} {D : va_G} {ta : Nat → ClassId} {pl : Nat → Nat} {bs : Nat} {al : Ad} {Z : Wo} {u : St}  (h0 : Iv u) : GD l D ta pl bs yX4_passChutes wsX4_passChutes (rmF 4 90) [.ref (al 0 0)] al (mC Z ta pl al u) none (mC Z ta pl al (passN 16 u)) := by
  refine GM.of (by decide) rfl (Nat.le_of_ble_eq_true rfl) ?_
  intro p e s m args below meth c X hnm
  refine g_lv (lv' := [(0, .ref (al 0 0))]) [0] rfl ?_
  refine g_iconst X (v := nI 0) dX4_passChutes_0 (by decide) ?_
  refine g_istore_n X [(1, .int (nI 0)), (0, .ref (al 0 0))] dX4_passChutes_1 rfl (by decide) rfl ?_
  refine g_lv [0, 1] rfl ?_
  exact l_passChutes X h0 17 0 (Nat.zero_le _) (Nat.le_refl _)
