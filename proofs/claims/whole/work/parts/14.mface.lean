set_option maxRecDepth 100000 in
set_option maxHeartbeats 4000000 in
/-- thrown -/
theorem m_thrown {l : Launch} {D : va_G} {ta : Nat → ClassId} {pl : Nat → Nat} {bs : Nat} {al : Ad} {Z : Wo} {u : St}   : GD l D ta pl bs yX5_thrown wsX5_thrown (rmF 0 0) [.ref (al 10 0)] al (mM Z ta al u) (some (.int (nI (u 0 0)))) (mM Z ta al u) := by
  refine GM.of (by decide) rfl (Nat.le_of_ble_eq_true rfl) ?_
  intro p e s m args below meth c X hnm
  have hiX5 : ∀ w ∈ u_ws RX5 TX5 22, w ∈ wsX5_thrown := by decide +kernel
  refine g_lv (lv' := [(0, .ref (al 10 0))]) [0] rfl ?_
  refine g_aload_n X 0 dX5_thrown_0 rfl rfl ?_
  refine g_get X 10 0 cm10 rfl 0 (by decide) hiX5 (by decide +kernel) rfl rfl dX5_thrown_1 ?_
  exact g_iret X rfl dX5_thrown_4 ⟨rfl, rfl, rfl⟩

set_option maxRecDepth 100000 in
set_option maxHeartbeats 4000000 in
/-- isItem -/
theorem m_isItem {l : Launch} {D : va_G} {ta : Nat → ClassId} {pl : Nat → Nat} {bs : Nat} {al : Ad} {Z : Wo} {u : St} (x : Int32)  : GD l D ta pl bs yX5_isItem wsX5_isItem (rmF 1 22) [.ref (al 10 0), .int x] al (mM Z ta al u) (some (.int (nI (bN (inB x 1 (u 5 0)))))) (mM Z ta al u) := by
  refine GM.of (by decide) rfl (Nat.le_of_ble_eq_true rfl) ?_
  intro p e s m args below meth c X hnm
  have hiX5 : ∀ w ∈ u_ws RX5 TX5 22, w ∈ wsX5_isItem := by decide +kernel
  refine g_lv (lv' := [(0, .ref (al 10 0)), (1, .int x)]) [0, 1] rfl ?_
  refine g_iload_n X 1 dX5_isItem_0 rfl rfl ?_
  refine g_iconst X (v := nI 1) dX5_isItem_1 (by decide) ?_
  refine g_aload_n X 0 dX5_isItem_2 rfl rfl ?_
  refine g_get X 10 0 cm10 rfl 7 (by decide) hiX5 (by decide +kernel) rfl rfl dX5_isItem_3 ?_
  refine g_callDS1 (n := 3) X [.int x, .int (nI 1), .int (nI (u 5 0))] (m_in x ((nI 1)) ((nI (u 5 0)))) gX5_isItem_X5_in rfl ⟨rfl, rfl⟩ (by decide +kernel) ⟨by decide, by decide⟩ rfl (Nat.le_of_ble_eq_true rfl) dX5_isItem_6 ⟨Nat.zero_le _, Nat.zero_le _⟩ _ rfl ?_
  exact g_zret X rfl dX5_isItem_9 bN_nar ⟨rfl, rfl, rfl⟩

set_option maxRecDepth 100000 in
set_option maxHeartbeats 4000000 in
/-- speed -/
theorem m_speed_u {l : Launch} {D : va_G} {ta : Nat → ClassId} {pl : Nat → Nat} {bs : Nat} {al : Ad} {Z : Wo} {u : St} (x : Int32) (h : ¬ inB x 1 5) : GD l D ta pl bs yX5_speed wsX5_speed (rmF 1 22) [.ref (al 10 0), .int x] al (mM Z ta al u) (some (.int (-12))) (mM Z ta al (st u 0 0 0)) := by
  refine GM.of (by decide) rfl (Nat.le_of_ble_eq_true rfl) ?_
  intro p e s m args below meth c X hnm
  have hiX5 : ∀ w ∈ u_ws RX5 TX5 22, w ∈ wsX5_speed := by decide +kernel
  refine g_lv (lv' := [(0, .ref (al 10 0)), (1, .int x)]) [0, 1] rfl ?_
  refine g_aload_n X 0 dX5_speed_0 rfl rfl ?_
  refine g_iconst X (v := nI 0) dX5_speed_1 (by decide) ?_
  refine g_put X tyX5 tyX5_ok nmX5 10 0 cm10 rfl 0 (by decide) hiX5 (by decide +kernel) rfl rfl (ty := .int) (by decide +kernel) rfl rfl (Nat.le_of_ble_eq_true rfl) _ um_thrown dX5_speed_2 ?_
  generalize hu_1 : st u 0 0 0 = u_1
  have k1u_1 : u_1 1 0 = u 1 0 := by rw [← hu_1]; first | rfl | exact st_nf (by omega)
  have k5u_1 : u_1 5 0 = u 5 0 := by rw [← hu_1]; first | rfl | exact st_nf (by omega)
  refine g_iload_n X 1 dX5_speed_5 rfl rfl ?_
  refine g_iconst X (v := nI 1) dX5_speed_6 (by decide) ?_
  refine g_iconst X (v := nI 5) dX5_speed_7 (by decide) ?_
  refine g_callDS1 (n := 3) X [.int x, .int (nI 1), .int (nI 5)] (m_in x ((nI 1)) ((nI 5))) gX5_speed_X5_in rfl ⟨rfl, rfl⟩ (by decide +kernel) ⟨by decide, by decide⟩ rfl (Nat.le_of_ble_eq_true rfl) dX5_speed_8 ⟨Nat.zero_le _, Nat.zero_le _⟩ _ rfl ?_
  refine g_if_ne X 17 dX5_speed_11 (by decide) (bN_eq0) (fun c_2 => ?_) (fun c_2 => ?_)
  · have c_2 := Decidable.of_not_not c_2
    exact absurd c_2 h
  · refine g_bipush X (v := -12) dX5_speed_14 (by decide) ?_
    exact g_iret X rfl dX5_speed_16 ⟨rfl, rfl, by subst hu_1; rfl⟩

set_option maxRecDepth 100000 in
set_option maxHeartbeats 4000000 in
/-- speed -/
theorem m_speed_1 {l : Launch} {D : va_G} {ta : Nat → ClassId} {pl : Nat → Nat} {bs : Nat} {al : Ad} {Z : Wo} {u : St} (n : Nat) (h1 : 1 ≤ n) (h2 : n ≤ 5) : GD l D ta pl bs yX5_speed wsX5_speed (rmF 1 22) [.ref (al 10 0), .int (nI n)] al (mM Z ta al u) (some (.int (nI (u 3 0)))) (mM Z ta al (st (st u 0 0 0) 3 0 n)) := by
  refine GM.of (by decide) rfl (Nat.le_of_ble_eq_true rfl) ?_
  intro p e s m args below meth c X hnm
  have hiX5 : ∀ w ∈ u_ws RX5 TX5 22, w ∈ wsX5_speed := by decide +kernel
  refine g_lv (lv' := [(0, .ref (al 10 0)), (1, .int (nI n))]) [0, 1] rfl ?_
  refine g_aload_n X 0 dX5_speed_0 rfl rfl ?_
  refine g_iconst X (v := nI 0) dX5_speed_1 (by decide) ?_
  refine g_put X tyX5 tyX5_ok nmX5 10 0 cm10 rfl 0 (by decide) hiX5 (by decide +kernel) rfl rfl (ty := .int) (by decide +kernel) rfl rfl (Nat.le_of_ble_eq_true rfl) _ um_thrown dX5_speed_2 ?_
  generalize hu_1 : st u 0 0 0 = u_1
  have k3u_1 : u_1 3 0 = u 3 0 := by rw [← hu_1]; first | rfl | exact st_nf (by omega)
  refine g_iload_n X 1 dX5_speed_5 rfl rfl ?_
  refine g_iconst X (v := nI 1) dX5_speed_6 (by decide) ?_
  refine g_iconst X (v := nI 5) dX5_speed_7 (by decide) ?_
  refine g_callDS1 (n := 3) X [.int (nI n), .int (nI 1), .int (nI 5)] (m_in ((nI n)) ((nI 1)) ((nI 5))) gX5_speed_X5_in rfl ⟨rfl, rfl⟩ (by decide +kernel) ⟨by decide, by decide⟩ rfl (Nat.le_of_ble_eq_true rfl) dX5_speed_8 ⟨Nat.zero_le _, Nat.zero_le _⟩ _ rfl ?_
  refine g_if_ne X 17 dX5_speed_11 (by decide) (bN_eq0) (fun c_2 => ?_) (fun c_2 => ?_)
  · have c_2 := Decidable.of_not_not c_2
    refine g_aload_n X 0 dX5_speed_17 rfl rfl ?_
    refine g_get X 10 0 cm10 rfl 5 (by decide) hiX5 (by decide +kernel) rfl rfl dX5_speed_18 ?_
    refine g_istore_n X [(2, .int (nI (u_1 3 0))), (0, .ref (al 10 0)), (1, .int (nI n))] dX5_speed_21 rfl (by decide) rfl ?_
    refine g_aload_n X 1 dX5_speed_22 rfl rfl ?_
    refine g_iload_n X 2 dX5_speed_23 rfl rfl ?_
    refine g_put X tyX5 tyX5_ok nmX5 10 0 cm10 rfl 5 (by decide) hiX5 (by decide +kernel) rfl rfl (ty := .int) (by decide +kernel) rfl rfl (Nat.le_of_ble_eq_true rfl) _ um_speed dX5_speed_24 ?_
    generalize hu_3 : st u_1 3 0 n = u_3
    refine g_iload_n X 0 dX5_speed_27 rfl rfl ?_
    exact g_iret X rfl dX5_speed_28 ⟨by rw [k3u_1], rfl, by subst hu_3; subst hu_1; rfl⟩
  · exact absurd (inB_nI h1 h2 (by decide)) c_2

set_option maxRecDepth 100000 in
set_option maxHeartbeats 4000000 in
/-- share -/
theorem m_share_u {l : Launch} {D : va_G} {ta : Nat → ClassId} {pl : Nat → Nat} {bs : Nat} {al : Ad} {Z : Wo} {u : St} (x : Int32) (h : ¬ inB x 0 3) : GD l D ta pl bs yX5_share wsX5_share (rmF 1 22) [.ref (al 10 0), .int x] al (mM Z ta al u) (some (.long (-11))) (mM Z ta al (st u 0 0 0)) := by
  refine GM.of (by decide) rfl (Nat.le_of_ble_eq_true rfl) ?_
  intro p e s m args below meth c X hnm
  have hiX5 : ∀ w ∈ u_ws RX5 TX5 22, w ∈ wsX5_share := by decide +kernel
  refine g_lv (lv' := [(0, .ref (al 10 0)), (1, .int x)]) [0, 1] rfl ?_
  refine g_aload_n X 0 dX5_share_0 rfl rfl ?_
  refine g_iconst X (v := nI 0) dX5_share_1 (by decide) ?_
  refine g_put X tyX5 tyX5_ok nmX5 10 0 cm10 rfl 0 (by decide) hiX5 (by decide +kernel) rfl rfl (ty := .int) (by decide +kernel) rfl rfl (Nat.le_of_ble_eq_true rfl) _ um_thrown dX5_share_2 ?_
  generalize hu_1 : st u 0 0 0 = u_1
  have k1u_1 : u_1 1 0 = u 1 0 := by rw [← hu_1]; first | rfl | exact st_nf (by omega)
  have k5u_1 : u_1 5 0 = u 5 0 := by rw [← hu_1]; first | rfl | exact st_nf (by omega)
  refine g_iload_n X 1 dX5_share_5 rfl rfl ?_
  refine g_iconst X (v := nI 0) dX5_share_6 (by decide) ?_
  refine g_iconst X (v := nI 3) dX5_share_7 (by decide) ?_
  refine g_callDS1 (n := 3) X [.int x, .int (nI 0), .int (nI 3)] (m_in x ((nI 0)) ((nI 3))) gX5_share_X5_in rfl ⟨rfl, rfl⟩ (by decide +kernel) ⟨by decide, by decide⟩ rfl (Nat.le_of_ble_eq_true rfl) dX5_share_8 ⟨Nat.zero_le _, Nat.zero_le _⟩ _ rfl ?_
  refine g_if_eq X 23 dX5_share_11 (by decide) (bN_eq0) (fun c_2 => ?_) (fun c_2 => ?_)
  · refine g_ldc2 X (v := -11) dX5_share_23 (by decide +kernel) ?_
    exact g_lret X rfl dX5_share_26 ⟨rfl, rfl, by subst hu_1; rfl⟩
  · have c_2 := Decidable.of_not_not c_2
    exact absurd c_2 h

set_option maxRecDepth 100000 in
set_option maxHeartbeats 4000000 in
/-- share -/
theorem m_share_1 {l : Launch} {D : va_G} {ta : Nat → ClassId} {pl : Nat → Nat} {bs : Nat} {al : Ad} {Z : Wo} {u : St} (j : Nat) (h : j < 4) : GD l D ta pl bs yX5_share wsX5_share (rmF 1 22) [.ref (al 10 0), .int (nI j)] al (mM Z ta al u) (some (.long (lN (u 19 j)))) (mM Z ta al (st u 0 0 0)) := by
  refine GM.of (by decide) rfl (Nat.le_of_ble_eq_true rfl) ?_
  intro p e s m args below meth c X hnm
  have hiX5 : ∀ w ∈ u_ws RX5 TX5 22, w ∈ wsX5_share := by decide +kernel
  refine g_lv (lv' := [(0, .ref (al 10 0)), (1, .int (nI j))]) [0, 1] rfl ?_
  refine g_aload_n X 0 dX5_share_0 rfl rfl ?_
  refine g_iconst X (v := nI 0) dX5_share_1 (by decide) ?_
  refine g_put X tyX5 tyX5_ok nmX5 10 0 cm10 rfl 0 (by decide) hiX5 (by decide +kernel) rfl rfl (ty := .int) (by decide +kernel) rfl rfl (Nat.le_of_ble_eq_true rfl) _ um_thrown dX5_share_2 ?_
  generalize hu_1 : st u 0 0 0 = u_1
  have k19u_1 : u_1 19 j = u 19 j := by rw [← hu_1]; first | rfl | exact st_nf (by omega)
  refine g_iload_n X 1 dX5_share_5 rfl rfl ?_
  refine g_iconst X (v := nI 0) dX5_share_6 (by decide) ?_
  refine g_iconst X (v := nI 3) dX5_share_7 (by decide) ?_
  refine g_callDS1 (n := 3) X [.int (nI j), .int (nI 0), .int (nI 3)] (m_in ((nI j)) ((nI 0)) ((nI 3))) gX5_share_X5_in rfl ⟨rfl, rfl⟩ (by decide +kernel) ⟨by decide, by decide⟩ rfl (Nat.le_of_ble_eq_true rfl) dX5_share_8 ⟨Nat.zero_le _, Nat.zero_le _⟩ _ rfl ?_
  refine g_if_eq X 23 dX5_share_11 (by decide) (bN_eq0) (fun c_2 => ?_) (fun c_2 => ?_)
  · exact absurd (inB_nI (by omega) (by omega) (by decide)) c_2
  · have c_2 := Decidable.of_not_not c_2
    refine g_aload_n X 0 dX5_share_14 rfl rfl ?_
    refine g_get X 10 0 cm10 rfl 14 (by decide) hiX5 (by decide +kernel) rfl rfl dX5_share_15 ?_
    refine g_iload_n X 1 dX5_share_18 rfl rfl ?_
    refine g_lald X 19 0 cm19 j (by omega) (by decide) rfl dX5_share_19 ?_
    refine g_goto X 26 dX5_share_20 (by decide) ?_
    exact g_lret X rfl dX5_share_26 ⟨by rw [k19u_1], rfl, by subst hu_1; rfl⟩

set_option maxRecDepth 100000 in
set_option maxHeartbeats 4000000 in
/-- round -/
theorem m_round_u {l : Launch} {D : va_G} {ta : Nat → ClassId} {pl : Nat → Nat} {bs : Nat} {al : Ad} {Z : Wo} {u : St} (x : Int32) (h : ¬ inB x 1 (u 5 0)) : GD l D ta pl bs yX5_round wsX5_round (rmF 2 43) [.ref (al 10 0), .int x] al (mM Z ta al u) (some (.int (-11))) (mM Z ta al (st u 0 0 0)) := by
  refine GM.of (by decide) rfl (Nat.le_of_ble_eq_true rfl) ?_
  intro p e s m args below meth c X hnm
  have hiX5 : ∀ w ∈ u_ws RX5 TX5 22, w ∈ wsX5_round := by decide +kernel
  refine g_lv (lv' := [(0, .ref (al 10 0)), (1, .int x)]) [0, 1] rfl ?_
  refine g_aload_n X 0 dX5_round_0 rfl rfl ?_
  refine g_iconst X (v := nI 0) dX5_round_1 (by decide) ?_
  refine g_put X tyX5 tyX5_ok nmX5 10 0 cm10 rfl 0 (by decide) hiX5 (by decide +kernel) rfl rfl (ty := .int) (by decide +kernel) rfl rfl (Nat.le_of_ble_eq_true rfl) _ um_thrown dX5_round_2 ?_
  generalize hu_1 : st u 0 0 0 = u_1
  have k5u_1 : u_1 5 0 = u 5 0 := by rw [← hu_1]; first | rfl | exact st_nf (by omega)
  refine g_aload_n X 0 dX5_round_5 rfl rfl ?_
  refine g_iload_n X 1 dX5_round_6 rfl rfl ?_
  refine g_callDV1 (n := 1) X 10 0 [.int x] cm10 rfl (m_isItem x) gX5_round_X5_isItem rfl ⟨rfl, rfl⟩ (by decide +kernel) ⟨by decide, by decide⟩ rfl (Nat.le_of_ble_eq_true rfl) dX5_round_7 ⟨Nat.zero_le _, Nat.zero_le _⟩ _ rfl ?_
  refine g_if_eq X 22 dX5_round_10 (by decide) (bN_eq0) (fun c_2 => ?_) (fun c_2 => ?_)
  · refine g_bipush X (v := -11) dX5_round_22 (by decide) ?_
    exact g_iret X rfl dX5_round_24 ⟨rfl, rfl, by subst hu_1; rfl⟩
  · have c_2 := Decidable.of_not_not c_2
    rw [k5u_1] at c_2
    exact absurd c_2 h

set_option maxRecDepth 100000 in
set_option maxHeartbeats 4000000 in
/-- round -/
theorem m_round_1 {l : Launch} {D : va_G} {ta : Nat → ClassId} {pl : Nat → Nat} {bs : Nat} {al : Ad} {Z : Wo} {u : St} (i : Nat) (hi1 : 1 ≤ i) (hi2 : i ≤ u 5 0) (h5 : u 5 0 ≤ 400) : GD l D ta pl bs yX5_round wsX5_round (rmF 2 43) [.ref (al 10 0), .int (nI i)] al (mM Z ta al u) (some (.int (nI (u 17 i)))) (mM Z ta al (st u 0 0 0)) := by
  refine GM.of (by decide) rfl (Nat.le_of_ble_eq_true rfl) ?_
  intro p e s m args below meth c X hnm
  have hiX5 : ∀ w ∈ u_ws RX5 TX5 22, w ∈ wsX5_round := by decide +kernel
  refine g_lv (lv' := [(0, .ref (al 10 0)), (1, .int (nI i))]) [0, 1] rfl ?_
  refine g_aload_n X 0 dX5_round_0 rfl rfl ?_
  refine g_iconst X (v := nI 0) dX5_round_1 (by decide) ?_
  refine g_put X tyX5 tyX5_ok nmX5 10 0 cm10 rfl 0 (by decide) hiX5 (by decide +kernel) rfl rfl (ty := .int) (by decide +kernel) rfl rfl (Nat.le_of_ble_eq_true rfl) _ um_thrown dX5_round_2 ?_
  generalize hu_1 : st u 0 0 0 = u_1
  have k5u_1 : u_1 5 0 = u 5 0 := by rw [← hu_1]; first | rfl | exact st_nf (by omega)
  have k17u_1 : u_1 17 i = u 17 i := by rw [← hu_1]; first | rfl | exact st_nf (by omega)
  refine g_aload_n X 0 dX5_round_5 rfl rfl ?_
  refine g_iload_n X 1 dX5_round_6 rfl rfl ?_
  refine g_callDV1 (n := 1) X 10 0 [.int (nI i)] cm10 rfl (m_isItem ((nI i))) gX5_round_X5_isItem rfl ⟨rfl, rfl⟩ (by decide +kernel) ⟨by decide, by decide⟩ rfl (Nat.le_of_ble_eq_true rfl) dX5_round_7 ⟨Nat.zero_le _, Nat.zero_le _⟩ _ rfl ?_
  refine g_if_eq X 22 dX5_round_10 (by decide) (bN_eq0) (fun c_2 => ?_) (fun c_2 => ?_)
  · rw [k5u_1] at c_2
    exact absurd (inB_nI hi1 hi2 (by omega)) c_2
  · have c_2 := Decidable.of_not_not c_2
    refine g_aload_n X 0 dX5_round_13 rfl rfl ?_
    refine g_get X 10 0 cm10 rfl 12 (by decide) hiX5 (by decide +kernel) rfl rfl dX5_round_14 ?_
    refine g_iload_n X 1 dX5_round_17 rfl rfl ?_
    refine g_iald X 17 0 cm17 i (by omega) (by decide) rfl dX5_round_18 ?_
    refine g_goto X 24 dX5_round_19 (by decide) ?_
    exact g_iret X rfl dX5_round_24 ⟨by rw [k17u_1], rfl, by subst hu_1; rfl⟩

set_option maxRecDepth 100000 in
set_option maxHeartbeats 4000000 in
/-- missed -/
theorem m_missed_u {l : Launch} {D : va_G} {ta : Nat → ClassId} {pl : Nat → Nat} {bs : Nat} {al : Ad} {Z : Wo} {u : St} (x : Int32) (h : ¬ inB x 1 (u 5 0)) : GD l D ta pl bs yX5_missed wsX5_missed (rmF 2 43) [.ref (al 10 0), .int x] al (mM Z ta al u) (some (.int (-11))) (mM Z ta al (st u 0 0 0)) := by
  refine GM.of (by decide) rfl (Nat.le_of_ble_eq_true rfl) ?_
  intro p e s m args below meth c X hnm
  have hiX5 : ∀ w ∈ u_ws RX5 TX5 22, w ∈ wsX5_missed := by decide +kernel
  refine g_lv (lv' := [(0, .ref (al 10 0)), (1, .int x)]) [0, 1] rfl ?_
  refine g_aload_n X 0 dX5_missed_0 rfl rfl ?_
  refine g_iconst X (v := nI 0) dX5_missed_1 (by decide) ?_
  refine g_put X tyX5 tyX5_ok nmX5 10 0 cm10 rfl 0 (by decide) hiX5 (by decide +kernel) rfl rfl (ty := .int) (by decide +kernel) rfl rfl (Nat.le_of_ble_eq_true rfl) _ um_thrown dX5_missed_2 ?_
  generalize hu_1 : st u 0 0 0 = u_1
  have k5u_1 : u_1 5 0 = u 5 0 := by rw [← hu_1]; first | rfl | exact st_nf (by omega)
  refine g_aload_n X 0 dX5_missed_5 rfl rfl ?_
  refine g_iload_n X 1 dX5_missed_6 rfl rfl ?_
  refine g_callDV1 (n := 1) X 10 0 [.int x] cm10 rfl (m_isItem x) gX5_missed_X5_isItem rfl ⟨rfl, rfl⟩ (by decide +kernel) ⟨by decide, by decide⟩ rfl (Nat.le_of_ble_eq_true rfl) dX5_missed_7 ⟨Nat.zero_le _, Nat.zero_le _⟩ _ rfl ?_
  refine g_if_ne X 16 dX5_missed_10 (by decide) (bN_eq0) (fun c_2 => ?_) (fun c_2 => ?_)
  · have c_2 := Decidable.of_not_not c_2
    rw [k5u_1] at c_2
    exact absurd c_2 h
  · refine g_bipush X (v := -11) dX5_missed_13 (by decide) ?_
    exact g_iret X rfl dX5_missed_15 ⟨rfl, rfl, by subst hu_1; rfl⟩

set_option maxRecDepth 100000 in
set_option maxHeartbeats 4000000 in
/-- missed -/
theorem m_missed_s {l : Launch} {D : va_G} {ta : Nat → ClassId} {pl : Nat → Nat} {bs : Nat} {al : Ad} {Z : Wo} {u : St} (i : Nat) (hi1 : 1 ≤ i) (hi2 : i ≤ u 5 0) (h5 : u 5 0 ≤ 400) (hp : ¬ nI (u 15 i) = nI 1) : GD l D ta pl bs yX5_missed wsX5_missed (rmF 2 43) [.ref (al 10 0), .int (nI i)] al (mM Z ta al u) (some (.int (-13))) (mM Z ta al (st u 0 0 0)) := by
  refine GM.of (by decide) rfl (Nat.le_of_ble_eq_true rfl) ?_
  intro p e s m args below meth c X hnm
  have hiX5 : ∀ w ∈ u_ws RX5 TX5 22, w ∈ wsX5_missed := by decide +kernel
  refine g_lv (lv' := [(0, .ref (al 10 0)), (1, .int (nI i))]) [0, 1] rfl ?_
  refine g_aload_n X 0 dX5_missed_0 rfl rfl ?_
  refine g_iconst X (v := nI 0) dX5_missed_1 (by decide) ?_
  refine g_put X tyX5 tyX5_ok nmX5 10 0 cm10 rfl 0 (by decide) hiX5 (by decide +kernel) rfl rfl (ty := .int) (by decide +kernel) rfl rfl (Nat.le_of_ble_eq_true rfl) _ um_thrown dX5_missed_2 ?_
  generalize hu_1 : st u 0 0 0 = u_1
  have k5u_1 : u_1 5 0 = u 5 0 := by rw [← hu_1]; first | rfl | exact st_nf (by omega)
  have k15u_1 : u_1 15 i = u 15 i := by rw [← hu_1]; first | rfl | exact st_nf (by omega)
  refine g_aload_n X 0 dX5_missed_5 rfl rfl ?_
  refine g_iload_n X 1 dX5_missed_6 rfl rfl ?_
  refine g_callDV1 (n := 1) X 10 0 [.int (nI i)] cm10 rfl (m_isItem ((nI i))) gX5_missed_X5_isItem rfl ⟨rfl, rfl⟩ (by decide +kernel) ⟨by decide, by decide⟩ rfl (Nat.le_of_ble_eq_true rfl) dX5_missed_7 ⟨Nat.zero_le _, Nat.zero_le _⟩ _ rfl ?_
  refine g_if_ne X 16 dX5_missed_10 (by decide) (bN_eq0) (fun c_2 => ?_) (fun c_2 => ?_)
  · have c_2 := Decidable.of_not_not c_2
    refine g_aload_n X 0 dX5_missed_16 rfl rfl ?_
    refine g_get X 10 0 cm10 rfl 10 (by decide) hiX5 (by decide +kernel) rfl rfl dX5_missed_17 ?_
    refine g_iload_n X 1 dX5_missed_20 rfl rfl ?_
    refine g_iald X 15 0 cm15 i (by omega) (by decide) rfl dX5_missed_21 ?_
    refine g_iconst X (v := nI 1) dX5_missed_22 (by decide) ?_
    refine g_icmp_eq X 29 dX5_missed_23 (by decide) (Iff.rfl) (fun c_3 => ?_) (fun c_3 => ?_)
    · rw [k15u_1] at c_3
      exact absurd c_3 hp
    · refine g_bipush X (v := -13) dX5_missed_26 (by decide) ?_
      exact g_iret X rfl dX5_missed_28 ⟨rfl, rfl, by subst hu_1; rfl⟩
  · rw [k5u_1] at c_2
    exact absurd (inB_nI hi1 hi2 (by omega)) c_2

set_option maxRecDepth 100000 in
set_option maxHeartbeats 4000000 in
/-- missed -/
theorem m_missed_1 {l : Launch} {D : va_G} {ta : Nat → ClassId} {pl : Nat → Nat} {bs : Nat} {al : Ad} {Z : Wo} {u : St} (i : Nat) (hi1 : 1 ≤ i) (hi2 : i ≤ u 5 0) (h5 : u 5 0 ≤ 400) (hp : nI (u 15 i) = nI 1) : GD l D ta pl bs yX5_missed wsX5_missed (rmF 2 43) [.ref (al 10 0), .int (nI i)] al (mM Z ta al u) (some (.int (nI (u 16 i)))) (mM Z ta al (st (st u 0 0 0) 15 i 2)) := by
  refine GM.of (by decide) rfl (Nat.le_of_ble_eq_true rfl) ?_
  intro p e s m args below meth c X hnm
  have hiX5 : ∀ w ∈ u_ws RX5 TX5 22, w ∈ wsX5_missed := by decide +kernel
  refine g_lv (lv' := [(0, .ref (al 10 0)), (1, .int (nI i))]) [0, 1] rfl ?_
  refine g_aload_n X 0 dX5_missed_0 rfl rfl ?_
  refine g_iconst X (v := nI 0) dX5_missed_1 (by decide) ?_
  refine g_put X tyX5 tyX5_ok nmX5 10 0 cm10 rfl 0 (by decide) hiX5 (by decide +kernel) rfl rfl (ty := .int) (by decide +kernel) rfl rfl (Nat.le_of_ble_eq_true rfl) _ um_thrown dX5_missed_2 ?_
  generalize hu_1 : st u 0 0 0 = u_1
  have k5u_1 : u_1 5 0 = u 5 0 := by rw [← hu_1]; first | rfl | exact st_nf (by omega)
  have k15u_1 : u_1 15 i = u 15 i := by rw [← hu_1]; first | rfl | exact st_nf (by omega)
  have k16u_1 : u_1 16 i = u 16 i := by rw [← hu_1]; first | rfl | exact st_nf (by omega)
  refine g_aload_n X 0 dX5_missed_5 rfl rfl ?_
  refine g_iload_n X 1 dX5_missed_6 rfl rfl ?_
  refine g_callDV1 (n := 1) X 10 0 [.int (nI i)] cm10 rfl (m_isItem ((nI i))) gX5_missed_X5_isItem rfl ⟨rfl, rfl⟩ (by decide +kernel) ⟨by decide, by decide⟩ rfl (Nat.le_of_ble_eq_true rfl) dX5_missed_7 ⟨Nat.zero_le _, Nat.zero_le _⟩ _ rfl ?_
  refine g_if_ne X 16 dX5_missed_10 (by decide) (bN_eq0) (fun c_2 => ?_) (fun c_2 => ?_)
  · have c_2 := Decidable.of_not_not c_2
    refine g_aload_n X 0 dX5_missed_16 rfl rfl ?_
    refine g_get X 10 0 cm10 rfl 10 (by decide) hiX5 (by decide +kernel) rfl rfl dX5_missed_17 ?_
    refine g_iload_n X 1 dX5_missed_20 rfl rfl ?_
    refine g_iald X 15 0 cm15 i (by omega) (by decide) rfl dX5_missed_21 ?_
    refine g_iconst X (v := nI 1) dX5_missed_22 (by decide) ?_
    refine g_icmp_eq X 29 dX5_missed_23 (by decide) (Iff.rfl) (fun c_3 => ?_) (fun c_3 => ?_)
    · refine g_aload_n X 0 dX5_missed_29 rfl rfl ?_
      refine g_get X 10 0 cm10 rfl 10 (by decide) hiX5 (by decide +kernel) rfl rfl dX5_missed_30 ?_
      refine g_iload_n X 1 dX5_missed_33 rfl rfl ?_
      refine g_iconst X (v := nI 2) dX5_missed_34 (by decide) ?_
      refine g_iast X 15 0 cm15 i (by omega) (by decide) _ um_a15 dX5_missed_35 ?_
      generalize hu_4 : st u_1 15 i 2 = u_4
      have k5u_4 : u_4 5 0 = u_1 5 0 := by rw [← hu_4]; first | rfl | exact st_nf (by omega)
      have k16u_4 : u_4 16 i = u_1 16 i := by rw [← hu_4]; first | rfl | exact st_nf (by omega)
      refine g_aload_n X 0 dX5_missed_36 rfl rfl ?_
      refine g_get X 10 0 cm10 rfl 11 (by decide) hiX5 (by decide +kernel) rfl rfl dX5_missed_37 ?_
      refine g_iload_n X 1 dX5_missed_40 rfl rfl ?_
      refine g_iald X 16 0 cm16 i (by omega) (by decide) rfl dX5_missed_41 ?_
      exact g_iret X rfl dX5_missed_42 ⟨by rw [k16u_4, k16u_1], rfl, by subst hu_4; subst hu_1; rfl⟩
    · rw [k15u_1] at c_3
      exact absurd hp c_3
  · rw [k5u_1] at c_2
    exact absurd (inB_nI hi1 hi2 (by omega)) c_2

set_option maxRecDepth 100000 in
set_option maxHeartbeats 4000000 in
/-- found -/
theorem m_found_u {l : Launch} {D : va_G} {ta : Nat → ClassId} {pl : Nat → Nat} {bs : Nat} {al : Ad} {Z : Wo} {u : St} (x y : Int32) (h : ¬ inB x 1 (u 5 0)) : GD l D ta pl bs yX5_found wsX5_found (rmF 2 43) [.ref (al 10 0), .int x, .int y] al (mM Z ta al u) (some (.int (-11))) (mM Z ta al (st u 0 0 0)) := by
  refine GM.of (by decide) rfl (Nat.le_of_ble_eq_true rfl) ?_
  intro p e s m args below meth c X hnm
  have hiX5 : ∀ w ∈ u_ws RX5 TX5 22, w ∈ wsX5_found := by decide +kernel
  refine g_lv (lv' := [(0, .ref (al 10 0)), (1, .int x), (2, .int y)]) [0, 1, 2] rfl ?_
  refine g_aload_n X 0 dX5_found_0 rfl rfl ?_
  refine g_iconst X (v := nI 0) dX5_found_1 (by decide) ?_
  refine g_put X tyX5 tyX5_ok nmX5 10 0 cm10 rfl 0 (by decide) hiX5 (by decide +kernel) rfl rfl (ty := .int) (by decide +kernel) rfl rfl (Nat.le_of_ble_eq_true rfl) _ um_thrown dX5_found_2 ?_
  generalize hu_1 : st u 0 0 0 = u_1
  have k5u_1 : u_1 5 0 = u 5 0 := by rw [← hu_1]; first | rfl | exact st_nf (by omega)
  refine g_aload_n X 0 dX5_found_5 rfl rfl ?_
  refine g_iload_n X 1 dX5_found_6 rfl rfl ?_
  refine g_callDV1 (n := 1) X 10 0 [.int x] cm10 rfl (m_isItem x) gX5_found_X5_isItem rfl ⟨rfl, rfl⟩ (by decide +kernel) ⟨by decide, by decide⟩ rfl (Nat.le_of_ble_eq_true rfl) dX5_found_7 ⟨Nat.zero_le _, Nat.zero_le _⟩ _ rfl ?_
  refine g_if_ne X 16 dX5_found_10 (by decide) (bN_eq0) (fun c_2 => ?_) (fun c_2 => ?_)
  · have c_2 := Decidable.of_not_not c_2
    rw [k5u_1] at c_2
    exact absurd c_2 h
  · refine g_bipush X (v := -11) dX5_found_13 (by decide) ?_
    exact g_iret X rfl dX5_found_15 ⟨rfl, rfl, by subst hu_1; rfl⟩

set_option maxRecDepth 100000 in
set_option maxHeartbeats 4000000 in
/-- found -/
theorem m_found_s {l : Launch} {D : va_G} {ta : Nat → ClassId} {pl : Nat → Nat} {bs : Nat} {al : Ad} {Z : Wo} {u : St} (i : Nat) (y : Int32) (hi1 : 1 ≤ i) (hi2 : i ≤ u 5 0) (h5 : u 5 0 ≤ 400) (hp : ¬ nI (u 15 i) = nI 2) : GD l D ta pl bs yX5_found wsX5_found (rmF 2 43) [.ref (al 10 0), .int (nI i), .int y] al (mM Z ta al u) (some (.int (-13))) (mM Z ta al (st u 0 0 0)) := by
  refine GM.of (by decide) rfl (Nat.le_of_ble_eq_true rfl) ?_
  intro p e s m args below meth c X hnm
  have hiX5 : ∀ w ∈ u_ws RX5 TX5 22, w ∈ wsX5_found := by decide +kernel
  refine g_lv (lv' := [(0, .ref (al 10 0)), (1, .int (nI i)), (2, .int y)]) [0, 1, 2] rfl ?_
  refine g_aload_n X 0 dX5_found_0 rfl rfl ?_
  refine g_iconst X (v := nI 0) dX5_found_1 (by decide) ?_
  refine g_put X tyX5 tyX5_ok nmX5 10 0 cm10 rfl 0 (by decide) hiX5 (by decide +kernel) rfl rfl (ty := .int) (by decide +kernel) rfl rfl (Nat.le_of_ble_eq_true rfl) _ um_thrown dX5_found_2 ?_
  generalize hu_1 : st u 0 0 0 = u_1
  have k5u_1 : u_1 5 0 = u 5 0 := by rw [← hu_1]; first | rfl | exact st_nf (by omega)
  have k15u_1 : u_1 15 i = u 15 i := by rw [← hu_1]; first | rfl | exact st_nf (by omega)
  refine g_aload_n X 0 dX5_found_5 rfl rfl ?_
  refine g_iload_n X 1 dX5_found_6 rfl rfl ?_
  refine g_callDV1 (n := 1) X 10 0 [.int (nI i)] cm10 rfl (m_isItem ((nI i))) gX5_found_X5_isItem rfl ⟨rfl, rfl⟩ (by decide +kernel) ⟨by decide, by decide⟩ rfl (Nat.le_of_ble_eq_true rfl) dX5_found_7 ⟨Nat.zero_le _, Nat.zero_le _⟩ _ rfl ?_
  refine g_if_ne X 16 dX5_found_10 (by decide) (bN_eq0) (fun c_2 => ?_) (fun c_2 => ?_)
  · have c_2 := Decidable.of_not_not c_2
    refine g_aload_n X 0 dX5_found_16 rfl rfl ?_
    refine g_get X 10 0 cm10 rfl 10 (by decide) hiX5 (by decide +kernel) rfl rfl dX5_found_17 ?_
    refine g_iload_n X 1 dX5_found_20 rfl rfl ?_
    refine g_iald X 15 0 cm15 i (by omega) (by decide) rfl dX5_found_21 ?_
    refine g_iconst X (v := nI 2) dX5_found_22 (by decide) ?_
    refine g_icmp_eq X 29 dX5_found_23 (by decide) (Iff.rfl) (fun c_3 => ?_) (fun c_3 => ?_)
    · rw [k15u_1] at c_3
      exact absurd c_3 hp
    · refine g_bipush X (v := -13) dX5_found_26 (by decide) ?_
      exact g_iret X rfl dX5_found_28 ⟨rfl, rfl, by subst hu_1; rfl⟩
  · rw [k5u_1] at c_2
    exact absurd (inB_nI hi1 hi2 (by omega)) c_2

set_option maxRecDepth 100000 in
set_option maxHeartbeats 4000000 in
/-- found -/
theorem m_found_t {l : Launch} {D : va_G} {ta : Nat → ClassId} {pl : Nat → Nat} {bs : Nat} {al : Ad} {Z : Wo} {u : St} (i : Nat) (y : Int32) (hi1 : 1 ≤ i) (hi2 : i ≤ u 5 0) (h5 : u 5 0 ≤ 400) (h1 : 1 ≤ u 1 0) (h2 : u 1 0 ≤ 200) (hp : nI (u 15 i) = nI 2) (hy : ¬ inB y 0 (u 1 0 - 1)) : GD l D ta pl bs yX5_found wsX5_found (rmF 2 43) [.ref (al 10 0), .int (nI i), .int y] al (mM Z ta al u) (some (.int (nI 0))) (mM Z ta al (st (st u 0 0 0) 0 0 1)) := by
  refine GM.of (by decide) rfl (Nat.le_of_ble_eq_true rfl) ?_
  intro p e s m args below meth c X hnm
  have hiX5 : ∀ w ∈ u_ws RX5 TX5 22, w ∈ wsX5_found := by decide +kernel
  refine g_lv (lv' := [(0, .ref (al 10 0)), (1, .int (nI i)), (2, .int y)]) [0, 1, 2] rfl ?_
  refine g_aload_n X 0 dX5_found_0 rfl rfl ?_
  refine g_iconst X (v := nI 0) dX5_found_1 (by decide) ?_
  refine g_put X tyX5 tyX5_ok nmX5 10 0 cm10 rfl 0 (by decide) hiX5 (by decide +kernel) rfl rfl (ty := .int) (by decide +kernel) rfl rfl (Nat.le_of_ble_eq_true rfl) _ um_thrown dX5_found_2 ?_
  generalize hu_1 : st u 0 0 0 = u_1
  have k5u_1 : u_1 5 0 = u 5 0 := by rw [← hu_1]; first | rfl | exact st_nf (by omega)
  have k15u_1 : u_1 15 i = u 15 i := by rw [← hu_1]; first | rfl | exact st_nf (by omega)
  have k16u_1 : u_1 16 i = u 16 i := by rw [← hu_1]; first | rfl | exact st_nf (by omega)
  have k1u_1 : u_1 1 0 = u 1 0 := by rw [← hu_1]; first | rfl | exact st_nf (by omega)
  refine g_aload_n X 0 dX5_found_5 rfl rfl ?_
  refine g_iload_n X 1 dX5_found_6 rfl rfl ?_
  refine g_callDV1 (n := 1) X 10 0 [.int (nI i)] cm10 rfl (m_isItem ((nI i))) gX5_found_X5_isItem rfl ⟨rfl, rfl⟩ (by decide +kernel) ⟨by decide, by decide⟩ rfl (Nat.le_of_ble_eq_true rfl) dX5_found_7 ⟨Nat.zero_le _, Nat.zero_le _⟩ _ rfl ?_
  refine g_if_ne X 16 dX5_found_10 (by decide) (bN_eq0) (fun c_2 => ?_) (fun c_2 => ?_)
  · have c_2 := Decidable.of_not_not c_2
    refine g_aload_n X 0 dX5_found_16 rfl rfl ?_
    refine g_get X 10 0 cm10 rfl 10 (by decide) hiX5 (by decide +kernel) rfl rfl dX5_found_17 ?_
    refine g_iload_n X 1 dX5_found_20 rfl rfl ?_
    refine g_iald X 15 0 cm15 i (by omega) (by decide) rfl dX5_found_21 ?_
    refine g_iconst X (v := nI 2) dX5_found_22 (by decide) ?_
    refine g_icmp_eq X 29 dX5_found_23 (by decide) (Iff.rfl) (fun c_3 => ?_) (fun c_3 => ?_)
    · refine g_aload_n X 0 dX5_found_29 rfl rfl ?_
      refine g_iload_n X 2 dX5_found_30 rfl rfl ?_
      refine g_iconst X (v := nI 0) dX5_found_31 (by decide) ?_
      refine g_aload_n X 0 dX5_found_32 rfl rfl ?_
      refine g_get X 10 0 cm10 rfl 1 (by decide) hiX5 (by decide +kernel) rfl rfl dX5_found_33 ?_
      refine g_iconst X (v := nI 1) dX5_found_36 (by decide) ?_
      refine g_isub X dX5_found_37 (pk_sub (by omega)) ?_
      refine g_callDS1 (n := 3) X [.int y, .int (nI 0), .int (nI ((u_1 1 0) - 1))] (m_in y ((nI 0)) ((nI ((u_1 1 0) - 1)))) gX5_found_X5_in rfl ⟨rfl, rfl⟩ (by decide +kernel) ⟨by decide, by decide⟩ rfl (Nat.le_of_ble_eq_true rfl) dX5_found_38 ⟨Nat.zero_le _, Nat.zero_le _⟩ _ rfl ?_
      refine g_if_eq X 48 dX5_found_41 (by decide) (bN_eq0) (fun c_4 => ?_) (fun c_4 => ?_)
      · refine g_iconst X (v := nI 1) dX5_found_48 (by decide) ?_
        refine g_put X tyX5 tyX5_ok nmX5 10 0 cm10 rfl 0 (by decide) hiX5 (by decide +kernel) rfl rfl (ty := .int) (by decide +kernel) rfl rfl (Nat.le_of_ble_eq_true rfl) _ um_thrown dX5_found_49 ?_
        generalize hu_5 : st u_1 0 0 1 = u_5
        have k5u_5 : u_5 5 0 = u_1 5 0 := by rw [← hu_5]; first | rfl | exact st_nf (by omega)
        have k15u_5 : u_5 15 i = u_1 15 i := by rw [← hu_5]; first | rfl | exact st_nf (by omega)
        have k16u_5 : u_5 16 i = u_1 16 i := by rw [← hu_5]; first | rfl | exact st_nf (by omega)
        have k1u_5 : u_5 1 0 = u_1 1 0 := by rw [← hu_5]; first | rfl | exact st_nf (by omega)
        refine g_aload_n X 0 dX5_found_52 rfl rfl ?_
        refine g_get X 10 0 cm10 rfl 0 (by decide) hiX5 (by decide +kernel) rfl rfl dX5_found_53 ?_
        have kt9 : u_5 0 0 = 1 := by rw [← hu_5]; rfl
        refine g_if_gt X 69 dX5_found_56 (by decide) (n0_gt (by omega)) (fun c_6 => ?_) (fun c_6 => ?_)
        · refine g_iconst X (v := nI 0) dX5_found_69 (by decide) ?_
          exact g_iret X rfl dX5_found_70 ⟨rfl, rfl, by subst hu_5; subst hu_1; rfl⟩
        · exact absurd (by omega) c_6
      · have c_4 := Decidable.of_not_not c_4
        rw [k1u_1] at c_4
        exact absurd c_4 hy
    · rw [k15u_1] at c_3
      exact absurd hp c_3
  · rw [k5u_1] at c_2
    exact absurd (inB_nI hi1 hi2 (by omega)) c_2

set_option maxRecDepth 100000 in
set_option maxHeartbeats 4000000 in
/-- found -/
theorem m_found_0 {l : Launch} {D : va_G} {ta : Nat → ClassId} {pl : Nat → Nat} {bs : Nat} {al : Ad} {Z : Wo} {u : St} (i t : Nat) (hi1 : 1 ≤ i) (hi2 : i ≤ u 5 0) (h5 : u 5 0 ≤ 400) (h1 : 1 ≤ u 1 0) (h2 : u 1 0 ≤ 200) (hp : nI (u 15 i) = nI 2)(ht : t < u 1 0) (ho : ¬ nI (u 16 i) = nI t) : GD l D ta pl bs yX5_found wsX5_found (rmF 2 43) [.ref (al 10 0), .int (nI i), .int (nI t)] al (mM Z ta al u) (some (.int (nI 0))) (mM Z ta al (st (st u 0 0 0) 0 0 0)) := by
  refine GM.of (by decide) rfl (Nat.le_of_ble_eq_true rfl) ?_
  intro p e s m args below meth c X hnm
  have hiX5 : ∀ w ∈ u_ws RX5 TX5 22, w ∈ wsX5_found := by decide +kernel
  refine g_lv (lv' := [(0, .ref (al 10 0)), (1, .int (nI i)), (2, .int (nI t))]) [0, 1, 2] rfl ?_
  refine g_aload_n X 0 dX5_found_0 rfl rfl ?_
  refine g_iconst X (v := nI 0) dX5_found_1 (by decide) ?_
  refine g_put X tyX5 tyX5_ok nmX5 10 0 cm10 rfl 0 (by decide) hiX5 (by decide +kernel) rfl rfl (ty := .int) (by decide +kernel) rfl rfl (Nat.le_of_ble_eq_true rfl) _ um_thrown dX5_found_2 ?_
  generalize hu_1 : st u 0 0 0 = u_1
  have k5u_1 : u_1 5 0 = u 5 0 := by rw [← hu_1]; first | rfl | exact st_nf (by omega)
  have k15u_1 : u_1 15 i = u 15 i := by rw [← hu_1]; first | rfl | exact st_nf (by omega)
  have k16u_1 : u_1 16 i = u 16 i := by rw [← hu_1]; first | rfl | exact st_nf (by omega)
  have k1u_1 : u_1 1 0 = u 1 0 := by rw [← hu_1]; first | rfl | exact st_nf (by omega)
  refine g_aload_n X 0 dX5_found_5 rfl rfl ?_
  refine g_iload_n X 1 dX5_found_6 rfl rfl ?_
  refine g_callDV1 (n := 1) X 10 0 [.int (nI i)] cm10 rfl (m_isItem ((nI i))) gX5_found_X5_isItem rfl ⟨rfl, rfl⟩ (by decide +kernel) ⟨by decide, by decide⟩ rfl (Nat.le_of_ble_eq_true rfl) dX5_found_7 ⟨Nat.zero_le _, Nat.zero_le _⟩ _ rfl ?_
  refine g_if_ne X 16 dX5_found_10 (by decide) (bN_eq0) (fun c_2 => ?_) (fun c_2 => ?_)
  · have c_2 := Decidable.of_not_not c_2
    refine g_aload_n X 0 dX5_found_16 rfl rfl ?_
    refine g_get X 10 0 cm10 rfl 10 (by decide) hiX5 (by decide +kernel) rfl rfl dX5_found_17 ?_
    refine g_iload_n X 1 dX5_found_20 rfl rfl ?_
    refine g_iald X 15 0 cm15 i (by omega) (by decide) rfl dX5_found_21 ?_
    refine g_iconst X (v := nI 2) dX5_found_22 (by decide) ?_
    refine g_icmp_eq X 29 dX5_found_23 (by decide) (Iff.rfl) (fun c_3 => ?_) (fun c_3 => ?_)
    · refine g_aload_n X 0 dX5_found_29 rfl rfl ?_
      refine g_iload_n X 2 dX5_found_30 rfl rfl ?_
      refine g_iconst X (v := nI 0) dX5_found_31 (by decide) ?_
      refine g_aload_n X 0 dX5_found_32 rfl rfl ?_
      refine g_get X 10 0 cm10 rfl 1 (by decide) hiX5 (by decide +kernel) rfl rfl dX5_found_33 ?_
      refine g_iconst X (v := nI 1) dX5_found_36 (by decide) ?_
      refine g_isub X dX5_found_37 (pk_sub (by omega)) ?_
      refine g_callDS1 (n := 3) X [.int (nI t), .int (nI 0), .int (nI ((u_1 1 0) - 1))] (m_in ((nI t)) ((nI 0)) ((nI ((u_1 1 0) - 1)))) gX5_found_X5_in rfl ⟨rfl, rfl⟩ (by decide +kernel) ⟨by decide, by decide⟩ rfl (Nat.le_of_ble_eq_true rfl) dX5_found_38 ⟨Nat.zero_le _, Nat.zero_le _⟩ _ rfl ?_
      refine g_if_eq X 48 dX5_found_41 (by decide) (bN_eq0) (fun c_4 => ?_) (fun c_4 => ?_)
      · rw [k1u_1] at c_4
        exact absurd (inB_nI (by omega) (by omega) (by omega)) c_4
      · have c_4 := Decidable.of_not_not c_4
        refine g_iconst X (v := nI 0) dX5_found_44 (by decide) ?_
        refine g_goto X 49 dX5_found_45 (by decide) ?_
        refine g_put X tyX5 tyX5_ok nmX5 10 0 cm10 rfl 0 (by decide) hiX5 (by decide +kernel) rfl rfl (ty := .int) (by decide +kernel) rfl rfl (Nat.le_of_ble_eq_true rfl) _ um_thrown dX5_found_49 ?_
        generalize hu_5 : st u_1 0 0 0 = u_5
        have k5u_5 : u_5 5 0 = u_1 5 0 := by rw [← hu_5]; first | rfl | exact st_nf (by omega)
        have k15u_5 : u_5 15 i = u_1 15 i := by rw [← hu_5]; first | rfl | exact st_nf (by omega)
        have k16u_5 : u_5 16 i = u_1 16 i := by rw [← hu_5]; first | rfl | exact st_nf (by omega)
        have k1u_5 : u_5 1 0 = u_1 1 0 := by rw [← hu_5]; first | rfl | exact st_nf (by omega)
        refine g_aload_n X 0 dX5_found_52 rfl rfl ?_
        refine g_get X 10 0 cm10 rfl 0 (by decide) hiX5 (by decide +kernel) rfl rfl dX5_found_53 ?_
        have kt9 : u_5 0 0 = 0 := by rw [← hu_5]; rfl
        refine g_if_gt X 69 dX5_found_56 (by decide) (n0_gt (by omega)) (fun c_6 => ?_) (fun c_6 => ?_)
        · exact absurd c_6 (by omega)
        · refine g_aload_n X 0 dX5_found_59 rfl rfl ?_
          refine g_get X 10 0 cm10 rfl 11 (by decide) hiX5 (by decide +kernel) rfl rfl dX5_found_60 ?_
          refine g_iload_n X 1 dX5_found_63 rfl rfl ?_
          refine g_iald X 16 0 cm16 i (by omega) (by decide) rfl dX5_found_64 ?_
          refine g_iload_n X 2 dX5_found_65 rfl rfl ?_
          refine g_icmp_eq X 71 dX5_found_66 (by decide) (Iff.rfl) (fun c_7 => ?_) (fun c_7 => ?_)
          · rw [k16u_5, k16u_1] at c_7
            exact absurd c_7 ho
          · refine g_iconst X (v := nI 0) dX5_found_69 (by decide) ?_
            exact g_iret X rfl dX5_found_70 ⟨rfl, rfl, by subst hu_5; subst hu_1; rfl⟩
    · rw [k15u_1] at c_3
      exact absurd hp c_3
  · rw [k5u_1] at c_2
    exact absurd (inB_nI hi1 hi2 (by omega)) c_2

set_option maxRecDepth 100000 in
set_option maxHeartbeats 4000000 in
/-- found -/
theorem m_found_1 {l : Launch} {D : va_G} {ta : Nat → ClassId} {pl : Nat → Nat} {bs : Nat} {al : Ad} {Z : Wo} {u : St} (i t : Nat) (hi1 : 1 ≤ i) (hi2 : i ≤ u 5 0) (h5 : u 5 0 ≤ 400) (h1 : 1 ≤ u 1 0) (h2 : u 1 0 ≤ 200) (hp : nI (u 15 i) = nI 2)(ht : t < u 1 0) (ho : nI (u 16 i) = nI t) : GD l D ta pl bs yX5_found wsX5_found (rmF 2 43) [.ref (al 10 0), .int (nI i), .int (nI t)] al (mM Z ta al u) (some (.int (nI 1))) (mM Z ta al (st (st (st u 0 0 0) 0 0 0) 15 i 1)) := by
  refine GM.of (by decide) rfl (Nat.le_of_ble_eq_true rfl) ?_
  intro p e s m args below meth c X hnm
  have hiX5 : ∀ w ∈ u_ws RX5 TX5 22, w ∈ wsX5_found := by decide +kernel
  refine g_lv (lv' := [(0, .ref (al 10 0)), (1, .int (nI i)), (2, .int (nI t))]) [0, 1, 2] rfl ?_
  refine g_aload_n X 0 dX5_found_0 rfl rfl ?_
  refine g_iconst X (v := nI 0) dX5_found_1 (by decide) ?_
  refine g_put X tyX5 tyX5_ok nmX5 10 0 cm10 rfl 0 (by decide) hiX5 (by decide +kernel) rfl rfl (ty := .int) (by decide +kernel) rfl rfl (Nat.le_of_ble_eq_true rfl) _ um_thrown dX5_found_2 ?_
  generalize hu_1 : st u 0 0 0 = u_1
  have k5u_1 : u_1 5 0 = u 5 0 := by rw [← hu_1]; first | rfl | exact st_nf (by omega)
  have k15u_1 : u_1 15 i = u 15 i := by rw [← hu_1]; first | rfl | exact st_nf (by omega)
  have k16u_1 : u_1 16 i = u 16 i := by rw [← hu_1]; first | rfl | exact st_nf (by omega)
  have k1u_1 : u_1 1 0 = u 1 0 := by rw [← hu_1]; first | rfl | exact st_nf (by omega)
  refine g_aload_n X 0 dX5_found_5 rfl rfl ?_
  refine g_iload_n X 1 dX5_found_6 rfl rfl ?_
  refine g_callDV1 (n := 1) X 10 0 [.int (nI i)] cm10 rfl (m_isItem ((nI i))) gX5_found_X5_isItem rfl ⟨rfl, rfl⟩ (by decide +kernel) ⟨by decide, by decide⟩ rfl (Nat.le_of_ble_eq_true rfl) dX5_found_7 ⟨Nat.zero_le _, Nat.zero_le _⟩ _ rfl ?_
  refine g_if_ne X 16 dX5_found_10 (by decide) (bN_eq0) (fun c_2 => ?_) (fun c_2 => ?_)
  · have c_2 := Decidable.of_not_not c_2
    refine g_aload_n X 0 dX5_found_16 rfl rfl ?_
    refine g_get X 10 0 cm10 rfl 10 (by decide) hiX5 (by decide +kernel) rfl rfl dX5_found_17 ?_
    refine g_iload_n X 1 dX5_found_20 rfl rfl ?_
    refine g_iald X 15 0 cm15 i (by omega) (by decide) rfl dX5_found_21 ?_
    refine g_iconst X (v := nI 2) dX5_found_22 (by decide) ?_
    refine g_icmp_eq X 29 dX5_found_23 (by decide) (Iff.rfl) (fun c_3 => ?_) (fun c_3 => ?_)
    · refine g_aload_n X 0 dX5_found_29 rfl rfl ?_
      refine g_iload_n X 2 dX5_found_30 rfl rfl ?_
      refine g_iconst X (v := nI 0) dX5_found_31 (by decide) ?_
      refine g_aload_n X 0 dX5_found_32 rfl rfl ?_
      refine g_get X 10 0 cm10 rfl 1 (by decide) hiX5 (by decide +kernel) rfl rfl dX5_found_33 ?_
      refine g_iconst X (v := nI 1) dX5_found_36 (by decide) ?_
      refine g_isub X dX5_found_37 (pk_sub (by omega)) ?_
      refine g_callDS1 (n := 3) X [.int (nI t), .int (nI 0), .int (nI ((u_1 1 0) - 1))] (m_in ((nI t)) ((nI 0)) ((nI ((u_1 1 0) - 1)))) gX5_found_X5_in rfl ⟨rfl, rfl⟩ (by decide +kernel) ⟨by decide, by decide⟩ rfl (Nat.le_of_ble_eq_true rfl) dX5_found_38 ⟨Nat.zero_le _, Nat.zero_le _⟩ _ rfl ?_
      refine g_if_eq X 48 dX5_found_41 (by decide) (bN_eq0) (fun c_4 => ?_) (fun c_4 => ?_)
      · rw [k1u_1] at c_4
        exact absurd (inB_nI (by omega) (by omega) (by omega)) c_4
      · have c_4 := Decidable.of_not_not c_4
        refine g_iconst X (v := nI 0) dX5_found_44 (by decide) ?_
        refine g_goto X 49 dX5_found_45 (by decide) ?_
        refine g_put X tyX5 tyX5_ok nmX5 10 0 cm10 rfl 0 (by decide) hiX5 (by decide +kernel) rfl rfl (ty := .int) (by decide +kernel) rfl rfl (Nat.le_of_ble_eq_true rfl) _ um_thrown dX5_found_49 ?_
        generalize hu_5 : st u_1 0 0 0 = u_5
        have k5u_5 : u_5 5 0 = u_1 5 0 := by rw [← hu_5]; first | rfl | exact st_nf (by omega)
        have k15u_5 : u_5 15 i = u_1 15 i := by rw [← hu_5]; first | rfl | exact st_nf (by omega)
        have k16u_5 : u_5 16 i = u_1 16 i := by rw [← hu_5]; first | rfl | exact st_nf (by omega)
        have k1u_5 : u_5 1 0 = u_1 1 0 := by rw [← hu_5]; first | rfl | exact st_nf (by omega)
        refine g_aload_n X 0 dX5_found_52 rfl rfl ?_
        refine g_get X 10 0 cm10 rfl 0 (by decide) hiX5 (by decide +kernel) rfl rfl dX5_found_53 ?_
        have kt9 : u_5 0 0 = 0 := by rw [← hu_5]; rfl
        refine g_if_gt X 69 dX5_found_56 (by decide) (n0_gt (by omega)) (fun c_6 => ?_) (fun c_6 => ?_)
        · exact absurd c_6 (by omega)
        · refine g_aload_n X 0 dX5_found_59 rfl rfl ?_
          refine g_get X 10 0 cm10 rfl 11 (by decide) hiX5 (by decide +kernel) rfl rfl dX5_found_60 ?_
          refine g_iload_n X 1 dX5_found_63 rfl rfl ?_
          refine g_iald X 16 0 cm16 i (by omega) (by decide) rfl dX5_found_64 ?_
          refine g_iload_n X 2 dX5_found_65 rfl rfl ?_
          refine g_icmp_eq X 71 dX5_found_66 (by decide) (Iff.rfl) (fun c_7 => ?_) (fun c_7 => ?_)
          · refine g_aload_n X 0 dX5_found_71 rfl rfl ?_
            refine g_get X 10 0 cm10 rfl 10 (by decide) hiX5 (by decide +kernel) rfl rfl dX5_found_72 ?_
            refine g_iload_n X 1 dX5_found_75 rfl rfl ?_
            refine g_iconst X (v := nI 1) dX5_found_76 (by decide) ?_
            refine g_iast X 15 0 cm15 i (by omega) (by decide) _ um_a15 dX5_found_77 ?_
            generalize hu_8 : st u_5 15 i 1 = u_8
            have k5u_8 : u_8 5 0 = u_5 5 0 := by rw [← hu_8]; first | rfl | exact st_nf (by omega)
            have k16u_8 : u_8 16 i = u_5 16 i := by rw [← hu_8]; first | rfl | exact st_nf (by omega)
            have k1u_8 : u_8 1 0 = u_5 1 0 := by rw [← hu_8]; first | rfl | exact st_nf (by omega)
            refine g_iconst X (v := nI 1) dX5_found_78 (by decide) ?_
            exact g_iret X rfl dX5_found_79 ⟨rfl, rfl, by subst hu_8; subst hu_5; subst hu_1; rfl⟩
          · rw [k16u_5, k16u_1] at c_7
            exact absurd ho c_7
    · rw [k15u_1] at c_3
      exact absurd hp c_3
  · rw [k5u_1] at c_2
    exact absurd (inB_nI hi1 hi2 (by omega)) c_2

set_option maxRecDepth 100000 in
set_option maxHeartbeats 4000000 in
/-- the loop of itemOn at 4 -/
theorem l_itemOn {l : Launch} {D : va_G} {ta : Nat → ClassId} {pl : Nat → Nat} {bs : Nat} {al : Ad} {Z : Wo} {p : Program} {e : Env} {s : State} {m : MethodId} {args : Array Value} {below : List Frame} {meth : Method} {c : Code} {u : St} (X : Cx D ta pl bs 4 p s m args meth c cX5_itemOn wsX5_itemOn RX5 (some .int)) (t : Nat) (h1 : 1 ≤ u 1 0) (h2 : u 1 0 ≤ 200) : ∀ (n9 i : Nat), i ≤ u 1 0 → u 1 0 + 1 ≤ i + n9 → WW D bs 4 p l e (rmF 0 0) s m args below meth c (QQ D bs below args s 0 0 (fun r al' C' => r = some (.int (nI (mI u t (u 1 0)))) ∧ al' = al ∧ C' = mM Z ta al u)) al (mM Z ta al u) 0 0 4 [(3, .int (nI i)), (2, .int (nI (mI u t i))), (1, .int (nI t)), (0, .ref (al 10 0))] [] := by
  have hiX5 : ∀ w ∈ u_ws RX5 TX5 22, w ∈ wsX5_itemOn := by decide +kernel
  intro n9
  induction n9 with
  | zero => intro i h8 h9; exact absurd h9 (by omega)
  | succ n9 ih =>
    intro i h8 h9
    refine g_iload_n X 0 dX5_itemOn_4 rfl rfl ?_
    refine g_aload_n X 3 dX5_itemOn_5 rfl rfl ?_
    refine g_get X 10 0 cm10 rfl 1 (by decide) hiX5 (by decide +kernel) rfl rfl dX5_itemOn_6 ?_
    refine g_icmp_ge X 39 dX5_itemOn_9 (by decide) (nI_leI (by omega) (by omega)) (fun c_1 => ?_) (fun c_1 => ?_)
    · refine g_iload_n X 1 dX5_itemOn_39 rfl rfl ?_
      exact g_iret X rfl dX5_itemOn_40 ⟨by have e9 : i = u 1 0 := (by omega); rw [e9], rfl, rfl⟩
    · refine g_aload_n X 3 dX5_itemOn_12 rfl rfl ?_
      refine g_get X 10 0 cm10 rfl 3 (by decide) hiX5 (by decide +kernel) rfl rfl dX5_itemOn_13 ?_
      refine g_iload_n X 0 dX5_itemOn_16 rfl rfl ?_
      refine g_iald X 11 0 cm11 i (by omega) (by decide) rfl dX5_itemOn_17 ?_
      refine g_iload_n X 2 dX5_itemOn_18 rfl rfl ?_
      refine g_icmp_ne X 31 dX5_itemOn_19 (by decide) (Iff.rfl) (fun c_2 => ?_) (fun c_2 => ?_)
      · refine g_iload_n X 1 dX5_itemOn_31 rfl rfl ?_
        refine g_istore_n X [(2, .int (nI (mI u t i))), (3, .int (nI i)), (1, .int (nI t)), (0, .ref (al 10 0))] dX5_itemOn_32 rfl (by decide) rfl ?_
        refine g_iinc X 1 [(3, .int (nI (i + 1))), (2, .int (nI (mI u t i))), (1, .int (nI t)), (0, .ref (al 10 0))] dX5_itemOn_33 rfl (nI_inc (by decide)) (by decide) rfl ?_
        refine g_goto X 4 dX5_itemOn_36 (by decide) ?_
        refine g_lv [0, 1, 2, 3] rfl ?_
        have q9 := ih (i + 1) (by omega) (by omega)
        rw [show mI u t (i + 1) = mI u t i from by rw [mI, if_neg c_2]] at q9
        exact q9
      · refine g_aload_n X 3 dX5_itemOn_22 rfl rfl ?_
        refine g_get X 10 0 cm10 rfl 4 (by decide) hiX5 (by decide +kernel) rfl rfl dX5_itemOn_23 ?_
        refine g_iload_n X 0 dX5_itemOn_26 rfl rfl ?_
        refine g_iald X 12 0 cm12 i (by omega) (by decide) rfl dX5_itemOn_27 ?_
        refine g_goto X 32 dX5_itemOn_28 (by decide) ?_
        refine g_istore_n X [(2, .int (nI (u 12 i))), (3, .int (nI i)), (1, .int (nI t)), (0, .ref (al 10 0))] dX5_itemOn_32 rfl (by decide) rfl ?_
        refine g_iinc X 1 [(3, .int (nI (i + 1))), (2, .int (nI (u 12 i))), (1, .int (nI t)), (0, .ref (al 10 0))] dX5_itemOn_33 rfl (nI_inc (by decide)) (by decide) rfl ?_
        refine g_goto X 4 dX5_itemOn_36 (by decide) ?_
        refine g_lv [0, 1, 2, 3] rfl ?_
        have q9 := ih (i + 1) (by omega) (by omega)
        rw [show mI u t (i + 1) = u 12 i from by rw [mI, if_pos c_2]] at q9
        exact q9

set_option maxRecDepth 100000 in
set_option maxHeartbeats 4000000 in
/-- itemOn -/
theorem m_itemOn {l : Launch} {D : va_G} {ta : Nat → ClassId} {pl : Nat → Nat} {bs : Nat} {al : Ad} {Z : Wo} {u : St} (t : Nat) (h1 : 1 ≤ u 1 0) (h2 : u 1 0 ≤ 200) : GD l D ta pl bs yX5_itemOn wsX5_itemOn (rmF 0 0) [.ref (al 10 0), .int (nI t)] al (mM Z ta al u) (some (.int (nI (mI u t (u 1 0))))) (mM Z ta al u) := by
  refine GM.of (by decide) rfl (Nat.le_of_ble_eq_true rfl) ?_
  intro p e s m args below meth c X hnm
  refine g_lv (lv' := [(0, .ref (al 10 0)), (1, .int (nI t))]) [0, 1] rfl ?_
  refine g_iconst X (v := nI 0) dX5_itemOn_0 (by decide) ?_
  refine g_istore_n X [(2, .int (nI 0)), (0, .ref (al 10 0)), (1, .int (nI t))] dX5_itemOn_1 rfl (by decide) rfl ?_
  refine g_iconst X (v := nI 0) dX5_itemOn_2 (by decide) ?_
  refine g_istore_n X [(3, .int (nI 0)), (2, .int (nI 0)), (0, .ref (al 10 0)), (1, .int (nI t))] dX5_itemOn_3 rfl (by decide) rfl ?_
  refine g_lv [0, 1, 3, 2] rfl ?_
  exact l_itemOn X t h1 h2 (u 1 0 + 1) 0 (Nat.zero_le _) (by omega)

set_option maxRecDepth 100000 in
set_option maxHeartbeats 4000000 in
/-- tray -/
theorem m_tray_1 {l : Launch} {D : va_G} {ta : Nat → ClassId} {pl : Nat → Nat} {bs : Nat} {al : Ad} {Z : Wo} {u : St} (t : Nat) (h1 : 1 ≤ u 1 0) (h2 : u 1 0 ≤ 200) (ht : t < u 1 0) : GD l D ta pl bs yX5_tray wsX5_tray (rmF 1 23) [.ref (al 10 0), .int (nI t)] al (mM Z ta al u) (some (.int (nI (mI (st u 0 0 0) t (st u 0 0 0 1 0))))) (mM Z ta al (st u 0 0 0)) := by
  refine GM.of (by decide) rfl (Nat.le_of_ble_eq_true rfl) ?_
  intro p e s m args below meth c X hnm
  have hiX5 : ∀ w ∈ u_ws RX5 TX5 22, w ∈ wsX5_tray := by decide +kernel
  refine g_lv (lv' := [(0, .ref (al 10 0)), (1, .int (nI t))]) [0, 1] rfl ?_
  refine g_aload_n X 0 dX5_tray_0 rfl rfl ?_
  refine g_iload_n X 1 dX5_tray_1 rfl rfl ?_
  refine g_iconst X (v := nI 0) dX5_tray_2 (by decide) ?_
  refine g_aload_n X 0 dX5_tray_3 rfl rfl ?_
  refine g_get X 10 0 cm10 rfl 1 (by decide) hiX5 (by decide +kernel) rfl rfl dX5_tray_4 ?_
  refine g_iconst X (v := nI 1) dX5_tray_7 (by decide) ?_
  refine g_isub X dX5_tray_8 (pk_sub (by omega)) ?_
  refine g_callDS1 (n := 3) X [.int (nI t), .int (nI 0), .int (nI ((u 1 0) - 1))] (m_in ((nI t)) ((nI 0)) ((nI ((u 1 0) - 1)))) gX5_tray_X5_in rfl ⟨rfl, rfl⟩ (by decide +kernel) ⟨by decide, by decide⟩ rfl (Nat.le_of_ble_eq_true rfl) dX5_tray_9 ⟨Nat.zero_le _, Nat.zero_le _⟩ _ rfl ?_
  refine g_if_eq X 19 dX5_tray_12 (by decide) (bN_eq0) (fun c_1 => ?_) (fun c_1 => ?_)
  · exact absurd (inB_nI (by omega) (by omega) (by omega)) c_1
  · have c_1 := Decidable.of_not_not c_1
    refine g_iconst X (v := nI 0) dX5_tray_15 (by decide) ?_
    refine g_goto X 20 dX5_tray_16 (by decide) ?_
    refine g_put X tyX5 tyX5_ok nmX5 10 0 cm10 rfl 0 (by decide) hiX5 (by decide +kernel) rfl rfl (ty := .int) (by decide +kernel) rfl rfl (Nat.le_of_ble_eq_true rfl) _ um_thrown dX5_tray_20 ?_
    generalize hu_2 : st u 0 0 0 = u_2
    have k1u_2 : u_2 1 0 = u 1 0 := by rw [← hu_2]; first | rfl | exact st_nf (by omega)
    refine g_aload_n X 0 dX5_tray_23 rfl rfl ?_
    refine g_get X 10 0 cm10 rfl 0 (by decide) hiX5 (by decide +kernel) rfl rfl dX5_tray_24 ?_
    have kt9 : u_2 0 0 = 0 := by rw [← hu_2]; rfl
    refine g_if_le X 34 dX5_tray_27 (by decide) (n0_le (by omega)) (fun c_3 => ?_) (fun c_3 => ?_)
    · refine g_aload_n X 0 dX5_tray_34 rfl rfl ?_
      refine g_iload_n X 1 dX5_tray_35 rfl rfl ?_
      refine g_callDV1 (n := 1) X 10 0 [.int (nI t)] cm10 rfl (m_itemOn t (by omega) (by omega)) gX5_tray_X5_itemOn rfl ⟨rfl, rfl⟩ (by decide +kernel) ⟨by decide, by decide⟩ rfl (Nat.le_of_ble_eq_true rfl) dX5_tray_36 ⟨Nat.zero_le _, Nat.zero_le _⟩ _ rfl ?_
      exact g_iret X rfl dX5_tray_39 ⟨by subst hu_2; rfl, rfl, by subst hu_2; rfl⟩
    · exact absurd (by omega) c_3

set_option maxRecDepth 100000 in
set_option maxHeartbeats 4000000 in
/-- tray -/
theorem m_tray_t {l : Launch} {D : va_G} {ta : Nat → ClassId} {pl : Nat → Nat} {bs : Nat} {al : Ad} {Z : Wo} {u : St} (y : Int32) (h1 : 1 ≤ u 1 0) (h2 : u 1 0 ≤ 200) (hy : ¬ inB y 0 (u 1 0 - 1)) : GD l D ta pl bs yX5_tray wsX5_tray (rmF 1 22) [.ref (al 10 0), .int y] al (mM Z ta al u) (some (.int (nI 0))) (mM Z ta al (st u 0 0 1)) := by
  refine GM.of (by decide) rfl (Nat.le_of_ble_eq_true rfl) ?_
  intro p e s m args below meth c X hnm
  have hiX5 : ∀ w ∈ u_ws RX5 TX5 22, w ∈ wsX5_tray := by decide +kernel
  refine g_lv (lv' := [(0, .ref (al 10 0)), (1, .int y)]) [0, 1] rfl ?_
  refine g_aload_n X 0 dX5_tray_0 rfl rfl ?_
  refine g_iload_n X 1 dX5_tray_1 rfl rfl ?_
  refine g_iconst X (v := nI 0) dX5_tray_2 (by decide) ?_
  refine g_aload_n X 0 dX5_tray_3 rfl rfl ?_
  refine g_get X 10 0 cm10 rfl 1 (by decide) hiX5 (by decide +kernel) rfl rfl dX5_tray_4 ?_
  refine g_iconst X (v := nI 1) dX5_tray_7 (by decide) ?_
  refine g_isub X dX5_tray_8 (pk_sub (by omega)) ?_
  refine g_callDS1 (n := 3) X [.int y, .int (nI 0), .int (nI ((u 1 0) - 1))] (m_in y ((nI 0)) ((nI ((u 1 0) - 1)))) gX5_tray_X5_in rfl ⟨rfl, rfl⟩ (by decide +kernel) ⟨by decide, by decide⟩ rfl (Nat.le_of_ble_eq_true rfl) dX5_tray_9 ⟨Nat.zero_le _, Nat.zero_le _⟩ _ rfl ?_
  refine g_if_eq X 19 dX5_tray_12 (by decide) (bN_eq0) (fun c_1 => ?_) (fun c_1 => ?_)
  · refine g_iconst X (v := nI 1) dX5_tray_19 (by decide) ?_
    refine g_put X tyX5 tyX5_ok nmX5 10 0 cm10 rfl 0 (by decide) hiX5 (by decide +kernel) rfl rfl (ty := .int) (by decide +kernel) rfl rfl (Nat.le_of_ble_eq_true rfl) _ um_thrown dX5_tray_20 ?_
    generalize hu_2 : st u 0 0 1 = u_2
    have k1u_2 : u_2 1 0 = u 1 0 := by rw [← hu_2]; first | rfl | exact st_nf (by omega)
    refine g_aload_n X 0 dX5_tray_23 rfl rfl ?_
    refine g_get X 10 0 cm10 rfl 0 (by decide) hiX5 (by decide +kernel) rfl rfl dX5_tray_24 ?_
    have kt9 : u_2 0 0 = 1 := by rw [← hu_2]; rfl
    refine g_if_le X 34 dX5_tray_27 (by decide) (n0_le (by omega)) (fun c_3 => ?_) (fun c_3 => ?_)
    · exact absurd c_3 (by omega)
    · refine g_iconst X (v := nI 0) dX5_tray_30 (by decide) ?_
      refine g_goto X 39 dX5_tray_31 (by decide) ?_
      exact g_iret X rfl dX5_tray_39 ⟨rfl, rfl, by subst hu_2; rfl⟩
  · have c_1 := Decidable.of_not_not c_1
    exact absurd c_1 hy

set_option maxRecDepth 100000 in
set_option maxHeartbeats 4000000 in
/-- full -/
theorem m_full_u {l : Launch} {D : va_G} {ta : Nat → ClassId} {pl : Nat → Nat} {bs : Nat} {al : Ad} {Z : Wo} {u : St} (x y : Int32) (h : ¬ inB x 0 15) : GD l D ta pl bs yX5_full wsX5_full (rmF 1 22) [.ref (al 10 0), .int x, .int y] al (mM Z ta al u) (some (.int (-11))) (mM Z ta al (st u 0 0 0)) := by
  refine GM.of (by decide) rfl (Nat.le_of_ble_eq_true rfl) ?_
  intro p e s m args below meth c X hnm
  have hiX5 : ∀ w ∈ u_ws RX5 TX5 22, w ∈ wsX5_full := by decide +kernel
  refine g_lv (lv' := [(0, .ref (al 10 0)), (1, .int x), (2, .int y)]) [0, 1, 2] rfl ?_
  refine g_aload_n X 0 dX5_full_0 rfl rfl ?_
  refine g_iconst X (v := nI 0) dX5_full_1 (by decide) ?_
  refine g_put X tyX5 tyX5_ok nmX5 10 0 cm10 rfl 0 (by decide) hiX5 (by decide +kernel) rfl rfl (ty := .int) (by decide +kernel) rfl rfl (Nat.le_of_ble_eq_true rfl) _ um_thrown dX5_full_2 ?_
  generalize hu_1 : st u 0 0 0 = u_1
  have k1u_1 : u_1 1 0 = u 1 0 := by rw [← hu_1]; first | rfl | exact st_nf (by omega)
  have k5u_1 : u_1 5 0 = u 5 0 := by rw [← hu_1]; first | rfl | exact st_nf (by omega)
  refine g_iload_n X 1 dX5_full_5 rfl rfl ?_
  refine g_iconst X (v := nI 0) dX5_full_6 (by decide) ?_
  refine g_bipush X (v := nI 15) dX5_full_7 (by decide) ?_
  refine g_callDS1 (n := 3) X [.int x, .int (nI 0), .int (nI 15)] (m_in x ((nI 0)) ((nI 15))) gX5_full_X5_in rfl ⟨rfl, rfl⟩ (by decide +kernel) ⟨by decide, by decide⟩ rfl (Nat.le_of_ble_eq_true rfl) dX5_full_9 ⟨Nat.zero_le _, Nat.zero_le _⟩ _ rfl ?_
  refine g_if_ne X 18 dX5_full_12 (by decide) (bN_eq0) (fun c_2 => ?_) (fun c_2 => ?_)
  · have c_2 := Decidable.of_not_not c_2
    exact absurd c_2 h
  · refine g_bipush X (v := -11) dX5_full_15 (by decide) ?_
    exact g_iret X rfl dX5_full_17 ⟨rfl, rfl, by subst hu_1; rfl⟩

set_option maxRecDepth 100000 in
set_option maxHeartbeats 4000000 in
/-- full -/
theorem m_full_s {l : Launch} {D : va_G} {ta : Nat → ClassId} {pl : Nat → Nat} {bs : Nat} {al : Ad} {Z : Wo} {u : St}   : GD l D ta pl bs yX5_full wsX5_full (rmF 1 22) [.ref (al 10 0), .int (nI 15), .int (nI 1)] al (mM Z ta al u) (some (.int (-13))) (mM Z ta al (st u 0 0 0)) := by
  refine GM.of (by decide) rfl (Nat.le_of_ble_eq_true rfl) ?_
  intro p e s m args below meth c X hnm
  have hiX5 : ∀ w ∈ u_ws RX5 TX5 22, w ∈ wsX5_full := by decide +kernel
  refine g_lv (lv' := [(0, .ref (al 10 0)), (1, .int (nI 15)), (2, .int (nI 1))]) [0, 1, 2] rfl ?_
  refine g_aload_n X 0 dX5_full_0 rfl rfl ?_
  refine g_iconst X (v := nI 0) dX5_full_1 (by decide) ?_
  refine g_put X tyX5 tyX5_ok nmX5 10 0 cm10 rfl 0 (by decide) hiX5 (by decide +kernel) rfl rfl (ty := .int) (by decide +kernel) rfl rfl (Nat.le_of_ble_eq_true rfl) _ um_thrown dX5_full_2 ?_
  generalize hu_1 : st u 0 0 0 = u_1
  have k1u_1 : u_1 1 0 = u 1 0 := by rw [← hu_1]; first | rfl | exact st_nf (by omega)
  have k5u_1 : u_1 5 0 = u 5 0 := by rw [← hu_1]; first | rfl | exact st_nf (by omega)
  refine g_iload_n X 1 dX5_full_5 rfl rfl ?_
  refine g_iconst X (v := nI 0) dX5_full_6 (by decide) ?_
  refine g_bipush X (v := nI 15) dX5_full_7 (by decide) ?_
  refine g_callDS1 (n := 3) X [.int (nI 15), .int (nI 0), .int (nI 15)] (m_in ((nI 15)) ((nI 0)) ((nI 15))) gX5_full_X5_in rfl ⟨rfl, rfl⟩ (by decide +kernel) ⟨by decide, by decide⟩ rfl (Nat.le_of_ble_eq_true rfl) dX5_full_9 ⟨Nat.zero_le _, Nat.zero_le _⟩ _ rfl ?_
  refine g_if_ne X 18 dX5_full_12 (by decide) (bN_eq0) (fun c_2 => ?_) (fun c_2 => ?_)
  · have c_2 := Decidable.of_not_not c_2
    refine g_iload_n X 2 dX5_full_18 rfl rfl ?_
    refine g_if_eq X 31 dX5_full_19 (by decide) (n0_eq (by omega)) (fun c_3 => ?_) (fun c_3 => ?_)
    · exact absurd c_3 (by decide)
    · refine g_iload_n X 1 dX5_full_22 rfl rfl ?_
      refine g_bipush X (v := nI 15) dX5_full_23 (by decide) ?_
      refine g_icmp_ne X 31 dX5_full_25 (by decide) (nI_eq (by omega) (by omega)) (fun c_4 => ?_) (fun c_4 => ?_)
      · exact absurd c_4 (by decide)
      · refine g_bipush X (v := -13) dX5_full_28 (by decide) ?_
        exact g_iret X rfl dX5_full_30 ⟨rfl, rfl, by subst hu_1; rfl⟩
  · exact absurd (inB_nI (by decide) (by decide) (by decide)) c_2

set_option maxRecDepth 100000 in
set_option maxHeartbeats 4000000 in
/-- full -/
theorem m_full_1 {l : Launch} {D : va_G} {ta : Nat → ClassId} {pl : Nat → Nat} {bs : Nat} {al : Ad} {Z : Wo} {u : St} (c0 : Nat) (h : c0 < 15) : GD l D ta pl bs yX5_full wsX5_full (rmF 1 22) [.ref (al 10 0), .int (nI c0), .int (nI 1)] al (mM Z ta al u) (some (.int (nI (u 20 c0)))) (mM Z ta al (st (st (st u 0 0 0) 21 c0 1) 20 c0 (st u 0 0 0 20 c0))) := by
  refine GM.of (by decide) rfl (Nat.le_of_ble_eq_true rfl) ?_
  intro p e s m args below meth c X hnm
  have hiX5 : ∀ w ∈ u_ws RX5 TX5 22, w ∈ wsX5_full := by decide +kernel
  refine g_lv (lv' := [(0, .ref (al 10 0)), (1, .int (nI c0)), (2, .int (nI 1))]) [0, 1, 2] rfl ?_
  refine g_aload_n X 0 dX5_full_0 rfl rfl ?_
  refine g_iconst X (v := nI 0) dX5_full_1 (by decide) ?_
  refine g_put X tyX5 tyX5_ok nmX5 10 0 cm10 rfl 0 (by decide) hiX5 (by decide +kernel) rfl rfl (ty := .int) (by decide +kernel) rfl rfl (Nat.le_of_ble_eq_true rfl) _ um_thrown dX5_full_2 ?_
  generalize hu_1 : st u 0 0 0 = u_1
  have k20u_1 : u_1 20 c0 = u 20 c0 := by rw [← hu_1]; first | rfl | exact st_nf (by omega)
  refine g_iload_n X 1 dX5_full_5 rfl rfl ?_
  refine g_iconst X (v := nI 0) dX5_full_6 (by decide) ?_
  refine g_bipush X (v := nI 15) dX5_full_7 (by decide) ?_
  refine g_callDS1 (n := 3) X [.int (nI c0), .int (nI 0), .int (nI 15)] (m_in ((nI c0)) ((nI 0)) ((nI 15))) gX5_full_X5_in rfl ⟨rfl, rfl⟩ (by decide +kernel) ⟨by decide, by decide⟩ rfl (Nat.le_of_ble_eq_true rfl) dX5_full_9 ⟨Nat.zero_le _, Nat.zero_le _⟩ _ rfl ?_
  refine g_if_ne X 18 dX5_full_12 (by decide) (bN_eq0) (fun c_2 => ?_) (fun c_2 => ?_)
  · have c_2 := Decidable.of_not_not c_2
    refine g_iload_n X 2 dX5_full_18 rfl rfl ?_
    refine g_if_eq X 31 dX5_full_19 (by decide) (n0_eq (by omega)) (fun c_3 => ?_) (fun c_3 => ?_)
    · exact absurd c_3 (by decide)
    · refine g_iload_n X 1 dX5_full_22 rfl rfl ?_
      refine g_bipush X (v := nI 15) dX5_full_23 (by decide) ?_
      refine g_icmp_ne X 31 dX5_full_25 (by decide) (nI_eq (by omega) (by omega)) (fun c_4 => ?_) (fun c_4 => ?_)
      · refine g_aload_n X 0 dX5_full_31 rfl rfl ?_
        refine g_get X 10 0 cm10 rfl 15 (by decide) hiX5 (by decide +kernel) rfl rfl dX5_full_32 ?_
        refine g_iload_n X 1 dX5_full_35 rfl rfl ?_
        refine g_iald X 20 0 cm20 c0 (by omega) (by decide) rfl dX5_full_36 ?_
        refine g_istore_n X [(3, .int (nI (u_1 20 c0))), (0, .ref (al 10 0)), (1, .int (nI c0)), (2, .int (nI 1))] dX5_full_37 rfl (by decide) rfl ?_
        refine g_aload_n X 1 dX5_full_38 rfl rfl ?_
        refine g_get X 10 0 cm10 rfl 16 (by decide) hiX5 (by decide +kernel) rfl rfl dX5_full_39 ?_
        refine g_iload_n X 2 dX5_full_42 rfl rfl ?_
        refine g_iload_n X 3 dX5_full_43 rfl rfl ?_
        refine g_zast X 21 0 cm21 c0 (by omega) (by decide) (by decide) _ um_a21 dX5_full_44 ?_
        generalize hu_5 : st u_1 21 c0 1 = u_5
        have k20u_5 : u_5 20 c0 = u_1 20 c0 := by rw [← hu_5]; first | rfl | exact st_nf (by omega)
        refine g_aload_n X 1 dX5_full_45 rfl rfl ?_
        refine g_get X 10 0 cm10 rfl 15 (by decide) hiX5 (by decide +kernel) rfl rfl dX5_full_46 ?_
        refine g_iload_n X 2 dX5_full_49 rfl rfl ?_
        refine g_iload_n X 3 dX5_full_50 rfl rfl ?_
        refine g_if_eq X 58 dX5_full_51 (by decide) (n0_eq (by omega)) (fun c_6 => ?_) (fun c_6 => ?_)
        · exact absurd c_6 (by decide)
        · refine g_iload_n X 0 dX5_full_54 rfl rfl ?_
          refine g_goto X 59 dX5_full_55 (by decide) ?_
          refine g_iast X 20 0 cm20 c0 (by omega) (by decide) _ um_a20 dX5_full_59 ?_
          generalize hu_7 : st u_5 20 c0 (u_1 20 c0) = u_7
          refine g_iload_n X 0 dX5_full_60 rfl rfl ?_
          exact g_iret X rfl dX5_full_61 ⟨by rw [k20u_1], rfl, by subst hu_7; subst hu_5; subst hu_1; rfl⟩
      · exact absurd c_4 (by omega)
  · exact absurd (inB_nI (by omega) (by omega) (by decide)) c_2

set_option maxRecDepth 100000 in
set_option maxHeartbeats 4000000 in
/-- full -/
theorem m_full_0 {l : Launch} {D : va_G} {ta : Nat → ClassId} {pl : Nat → Nat} {bs : Nat} {al : Ad} {Z : Wo} {u : St} (c0 : Nat) (h : c0 < 16) : GD l D ta pl bs yX5_full wsX5_full (rmF 1 22) [.ref (al 10 0), .int (nI c0), .int (nI 0)] al (mM Z ta al u) (some (.int (nI (u 20 c0)))) (mM Z ta al (st (st (st u 0 0 0) 21 c0 0) 20 c0 0)) := by
  refine GM.of (by decide) rfl (Nat.le_of_ble_eq_true rfl) ?_
  intro p e s m args below meth c X hnm
  have hiX5 : ∀ w ∈ u_ws RX5 TX5 22, w ∈ wsX5_full := by decide +kernel
  refine g_lv (lv' := [(0, .ref (al 10 0)), (1, .int (nI c0)), (2, .int (nI 0))]) [0, 1, 2] rfl ?_
  refine g_aload_n X 0 dX5_full_0 rfl rfl ?_
  refine g_iconst X (v := nI 0) dX5_full_1 (by decide) ?_
  refine g_put X tyX5 tyX5_ok nmX5 10 0 cm10 rfl 0 (by decide) hiX5 (by decide +kernel) rfl rfl (ty := .int) (by decide +kernel) rfl rfl (Nat.le_of_ble_eq_true rfl) _ um_thrown dX5_full_2 ?_
  generalize hu_1 : st u 0 0 0 = u_1
  have k20u_1 : u_1 20 c0 = u 20 c0 := by rw [← hu_1]; first | rfl | exact st_nf (by omega)
  refine g_iload_n X 1 dX5_full_5 rfl rfl ?_
  refine g_iconst X (v := nI 0) dX5_full_6 (by decide) ?_
  refine g_bipush X (v := nI 15) dX5_full_7 (by decide) ?_
  refine g_callDS1 (n := 3) X [.int (nI c0), .int (nI 0), .int (nI 15)] (m_in ((nI c0)) ((nI 0)) ((nI 15))) gX5_full_X5_in rfl ⟨rfl, rfl⟩ (by decide +kernel) ⟨by decide, by decide⟩ rfl (Nat.le_of_ble_eq_true rfl) dX5_full_9 ⟨Nat.zero_le _, Nat.zero_le _⟩ _ rfl ?_
  refine g_if_ne X 18 dX5_full_12 (by decide) (bN_eq0) (fun c_2 => ?_) (fun c_2 => ?_)
  · have c_2 := Decidable.of_not_not c_2
    refine g_iload_n X 2 dX5_full_18 rfl rfl ?_
    refine g_if_eq X 31 dX5_full_19 (by decide) (n0_eq (by omega)) (fun c_3 => ?_) (fun c_3 => ?_)
    · refine g_aload_n X 0 dX5_full_31 rfl rfl ?_
      refine g_get X 10 0 cm10 rfl 15 (by decide) hiX5 (by decide +kernel) rfl rfl dX5_full_32 ?_
      refine g_iload_n X 1 dX5_full_35 rfl rfl ?_
      refine g_iald X 20 0 cm20 c0 (by omega) (by decide) rfl dX5_full_36 ?_
      refine g_istore_n X [(3, .int (nI (u_1 20 c0))), (0, .ref (al 10 0)), (1, .int (nI c0)), (2, .int (nI 0))] dX5_full_37 rfl (by decide) rfl ?_
      refine g_aload_n X 1 dX5_full_38 rfl rfl ?_
      refine g_get X 10 0 cm10 rfl 16 (by decide) hiX5 (by decide +kernel) rfl rfl dX5_full_39 ?_
      refine g_iload_n X 2 dX5_full_42 rfl rfl ?_
      refine g_iload_n X 3 dX5_full_43 rfl rfl ?_
      refine g_zast X 21 0 cm21 c0 (by omega) (by decide) (by decide) _ um_a21 dX5_full_44 ?_
      generalize hu_4 : st u_1 21 c0 0 = u_4
      have k20u_4 : u_4 20 c0 = u_1 20 c0 := by rw [← hu_4]; first | rfl | exact st_nf (by omega)
      refine g_aload_n X 1 dX5_full_45 rfl rfl ?_
      refine g_get X 10 0 cm10 rfl 15 (by decide) hiX5 (by decide +kernel) rfl rfl dX5_full_46 ?_
      refine g_iload_n X 2 dX5_full_49 rfl rfl ?_
      refine g_iload_n X 3 dX5_full_50 rfl rfl ?_
      refine g_if_eq X 58 dX5_full_51 (by decide) (n0_eq (by omega)) (fun c_5 => ?_) (fun c_5 => ?_)
      · refine g_iconst X (v := nI 0) dX5_full_58 (by decide) ?_
        refine g_iast X 20 0 cm20 c0 (by omega) (by decide) _ um_a20 dX5_full_59 ?_
        generalize hu_6 : st u_4 20 c0 0 = u_6
        refine g_iload_n X 0 dX5_full_60 rfl rfl ?_
        exact g_iret X rfl dX5_full_61 ⟨by rw [k20u_1], rfl, by subst hu_6; subst hu_4; subst hu_1; rfl⟩
      · exact absurd c_5 (by decide)
    · exact absurd c_3 (by decide)
  · exact absurd (inB_nI (by omega) (by omega) (by decide)) c_2

set_option maxRecDepth 100000 in
set_option maxHeartbeats 4000000 in
/-- step -/
theorem m_step_u {l : Launch} {D : va_G} {ta : Nat → ClassId} {pl : Nat → Nat} {bs : Nat} {al : Ad} {Z : Wo} {u : St} (x : Int32) (h : ¬ inB x 0 1000) : GD l D ta pl bs yX5_step wsX5_step (rmF 1 22) [.ref (al 10 0), .int x] al (mM Z ta al u) (some (.int (-12))) (mM Z ta al (st u 0 0 0)) := by
  refine GM.of (by decide) rfl (Nat.le_of_ble_eq_true rfl) ?_
  intro p e s m args below meth c X hnm
  have hiX5 : ∀ w ∈ u_ws RX5 TX5 22, w ∈ wsX5_step := by decide +kernel
  refine g_lv (lv' := [(0, .ref (al 10 0)), (1, .int x)]) [0, 1] rfl ?_
  refine g_aload_n X 0 dX5_step_0 rfl rfl ?_
  refine g_iconst X (v := nI 0) dX5_step_1 (by decide) ?_
  refine g_put X tyX5 tyX5_ok nmX5 10 0 cm10 rfl 0 (by decide) hiX5 (by decide +kernel) rfl rfl (ty := .int) (by decide +kernel) rfl rfl (Nat.le_of_ble_eq_true rfl) _ um_thrown dX5_step_2 ?_
  generalize hu_1 : st u 0 0 0 = u_1
  have k1u_1 : u_1 1 0 = u 1 0 := by rw [← hu_1]; first | rfl | exact st_nf (by omega)
  have k5u_1 : u_1 5 0 = u 5 0 := by rw [← hu_1]; first | rfl | exact st_nf (by omega)
  refine g_iload_n X 1 dX5_step_5 rfl rfl ?_
  refine g_iconst X (v := nI 0) dX5_step_6 (by decide) ?_
  refine g_sipush X (v := nI 1000) dX5_step_7 (by decide) ?_
  refine g_callDS1 (n := 3) X [.int x, .int (nI 0), .int (nI 1000)] (m_in x ((nI 0)) ((nI 1000))) gX5_step_X5_in rfl ⟨rfl, rfl⟩ (by decide +kernel) ⟨by decide, by decide⟩ rfl (Nat.le_of_ble_eq_true rfl) dX5_step_10 ⟨Nat.zero_le _, Nat.zero_le _⟩ _ rfl ?_
  refine g_if_ne X 19 dX5_step_13 (by decide) (bN_eq0) (fun c_2 => ?_) (fun c_2 => ?_)
  · have c_2 := Decidable.of_not_not c_2
    exact absurd c_2 h
  · refine g_bipush X (v := -12) dX5_step_16 (by decide) ?_
    exact g_iret X rfl dX5_step_18 ⟨rfl, rfl, by subst hu_1; rfl⟩

set_option maxRecDepth 100000 in
set_option maxHeartbeats 4000000 in
/-- out -/
theorem m_out_u {l : Launch} {D : va_G} {ta : Nat → ClassId} {pl : Nat → Nat} {bs : Nat} {al : Ad} {Z : Wo} {u : St} (x y : Int32) (h : x < 0 ∨ ¬ x < nI (u 6 0)) : GD l D ta pl bs yX5_out wsX5_out (rmF 0 0) [.ref (al 10 0), .int x, .int y] al (mM Z ta al u) (some (.int (-11))) (mM Z ta al (st u 0 0 0)) := by
  refine GM.of (by decide) rfl (Nat.le_of_ble_eq_true rfl) ?_
  intro p e s m args below meth c X hnm
  have hiX5 : ∀ w ∈ u_ws RX5 TX5 22, w ∈ wsX5_out := by decide +kernel
  refine g_lv (lv' := [(0, .ref (al 10 0)), (1, .int x), (2, .int y)]) [0, 1, 2] rfl ?_
  refine g_aload_n X 0 dX5_out_0 rfl rfl ?_
  refine g_iconst X (v := nI 0) dX5_out_1 (by decide) ?_
  refine g_put X tyX5 tyX5_ok nmX5 10 0 cm10 rfl 0 (by decide) hiX5 (by decide +kernel) rfl rfl (ty := .int) (by decide +kernel) rfl rfl (Nat.le_of_ble_eq_true rfl) _ um_thrown dX5_out_2 ?_
  generalize hu_1 : st u 0 0 0 = u_1
  have k6u_1 : u_1 6 0 = u 6 0 := by rw [← hu_1]; first | rfl | exact st_nf (by omega)
  refine g_iload_n X 1 dX5_out_5 rfl rfl ?_
  refine g_if_lt X 17 dX5_out_6 (by decide) (Iff.rfl) (fun c_2 => ?_) (fun c_2 => ?_)
  · refine g_bipush X (v := -11) dX5_out_17 (by decide) ?_
    exact g_iret X rfl dX5_out_19 ⟨rfl, rfl, by subst hu_1; rfl⟩
  · refine g_iload_n X 1 dX5_out_9 rfl rfl ?_
    refine g_aload_n X 0 dX5_out_10 rfl rfl ?_
    refine g_get X 10 0 cm10 rfl 17 (by decide) hiX5 (by decide +kernel) rfl rfl dX5_out_11 ?_
    refine g_icmp_lt X 20 dX5_out_14 (by decide) (Iff.rfl) (fun c_3 => ?_) (fun c_3 => ?_)
    · rw [k6u_1] at c_3
      exact h.elim (fun z => absurd z c_2) (fun z => absurd c_3 z)
    · refine g_bipush X (v := -11) dX5_out_17 (by decide) ?_
      exact g_iret X rfl dX5_out_19 ⟨rfl, rfl, by subst hu_1; rfl⟩

set_option maxRecDepth 100000 in
set_option maxHeartbeats 4000000 in
/-- out -/
theorem m_out_0 {l : Launch} {D : va_G} {ta : Nat → ClassId} {pl : Nat → Nat} {bs : Nat} {al : Ad} {Z : Wo} {u : St} (j : Nat) (h : j < u 6 0) (h6 : u 6 0 ≤ 400) (hg : u 22 j ≤ 400) : GD l D ta pl bs yX5_out wsX5_out (rmF 1 22) [.ref (al 10 0), .int (nI j), .int (nI 0)] al (mM Z ta al u) (some (.int (nI (u 22 j)))) (mM Z ta al (st u 0 0 0)) := by
  refine GM.of (by decide) rfl (Nat.le_of_ble_eq_true rfl) ?_
  intro p e s m args below meth c X hnm
  have hiX5 : ∀ w ∈ u_ws RX5 TX5 22, w ∈ wsX5_out := by decide +kernel
  refine g_lv (lv' := [(0, .ref (al 10 0)), (1, .int (nI j)), (2, .int (nI 0))]) [0, 1, 2] rfl ?_
  refine g_aload_n X 0 dX5_out_0 rfl rfl ?_
  refine g_iconst X (v := nI 0) dX5_out_1 (by decide) ?_
  refine g_put X tyX5 tyX5_ok nmX5 10 0 cm10 rfl 0 (by decide) hiX5 (by decide +kernel) rfl rfl (ty := .int) (by decide +kernel) rfl rfl (Nat.le_of_ble_eq_true rfl) _ um_thrown dX5_out_2 ?_
  generalize hu_1 : st u 0 0 0 = u_1
  have k6u_1 : u_1 6 0 = u 6 0 := by rw [← hu_1]; first | rfl | exact st_nf (by omega)
  have k22u_1 : u_1 22 j = u 22 j := by rw [← hu_1]; first | rfl | exact st_nf (by omega)
  have k23u_1 : u_1 23 j = u 23 j := by rw [← hu_1]; first | rfl | exact st_nf (by omega)
  have k24u_1 : u_1 24 j = u 24 j := by rw [← hu_1]; first | rfl | exact st_nf (by omega)
  have k5u_1 : u_1 5 0 = u 5 0 := by rw [← hu_1]; first | rfl | exact st_nf (by omega)
  refine g_iload_n X 1 dX5_out_5 rfl rfl ?_
  refine g_if_lt X 17 dX5_out_6 (by decide) (n0_lt (by omega)) (fun c_2 => ?_) (fun c_2 => ?_)
  · exact absurd c_2 (fun z => z)
  · refine g_iload_n X 1 dX5_out_9 rfl rfl ?_
    refine g_aload_n X 0 dX5_out_10 rfl rfl ?_
    refine g_get X 10 0 cm10 rfl 17 (by decide) hiX5 (by decide +kernel) rfl rfl dX5_out_11 ?_
    refine g_icmp_lt X 20 dX5_out_14 (by decide) (nI_ltI (by omega) (by omega)) (fun c_3 => ?_) (fun c_3 => ?_)
    · refine g_iload_n X 2 dX5_out_20 rfl rfl ?_
      refine g_iconst X (v := nI 0) dX5_out_21 (by decide) ?_
      refine g_iconst X (v := nI 3) dX5_out_22 (by decide) ?_
      refine g_callDS1 (n := 3) X [.int (nI 0), .int (nI 0), .int (nI 3)] (m_in ((nI 0)) ((nI 0)) ((nI 3))) gX5_out_X5_in rfl ⟨rfl, rfl⟩ (by decide +kernel) ⟨by decide, by decide⟩ rfl (Nat.le_of_ble_eq_true rfl) dX5_out_23 ⟨Nat.zero_le _, Nat.zero_le _⟩ _ rfl ?_
      refine g_if_ne X 32 dX5_out_26 (by decide) (bN_eq0) (fun c_4 => ?_) (fun c_4 => ?_)
      · have c_4 := Decidable.of_not_not c_4
        refine g_iload_n X 2 dX5_out_32 rfl rfl ?_
        refine g_if_ne X 45 dX5_out_33 (by decide) (n0_eq (by omega)) (fun c_5 => ?_) (fun c_5 => ?_)
        · exact absurd c_5 (by decide)
        · refine g_aload_n X 0 dX5_out_36 rfl rfl ?_
          refine g_get X 10 0 cm10 rfl 18 (by decide) hiX5 (by decide +kernel) rfl rfl dX5_out_37 ?_
          refine g_iload_n X 1 dX5_out_40 rfl rfl ?_
          refine g_iald X 22 0 cm22 j (by omega) (by decide) rfl dX5_out_41 ?_
          refine g_goto X 84 dX5_out_42 (by decide) ?_
          exact g_iret X rfl dX5_out_84 ⟨by rw [k22u_1], rfl, by subst hu_1; rfl⟩
      · exact absurd (inB_nI (by decide) (by decide) (by decide)) c_4
    · exact absurd c_3 (by omega)

set_option maxRecDepth 100000 in
set_option maxHeartbeats 4000000 in
/-- out -/
theorem m_out_1 {l : Launch} {D : va_G} {ta : Nat → ClassId} {pl : Nat → Nat} {bs : Nat} {al : Ad} {Z : Wo} {u : St} (j : Nat) (h : j < u 6 0) (h6 : u 6 0 ≤ 400) (hg : u 22 j ≤ 400) : GD l D ta pl bs yX5_out wsX5_out (rmF 1 22) [.ref (al 10 0), .int (nI j), .int (nI 1)] al (mM Z ta al u) (some (.int (nI (u 23 j)))) (mM Z ta al (st u 0 0 0)) := by
  refine GM.of (by decide) rfl (Nat.le_of_ble_eq_true rfl) ?_
  intro p e s m args below meth c X hnm
  have hiX5 : ∀ w ∈ u_ws RX5 TX5 22, w ∈ wsX5_out := by decide +kernel
  refine g_lv (lv' := [(0, .ref (al 10 0)), (1, .int (nI j)), (2, .int (nI 1))]) [0, 1, 2] rfl ?_
  refine g_aload_n X 0 dX5_out_0 rfl rfl ?_
  refine g_iconst X (v := nI 0) dX5_out_1 (by decide) ?_
  refine g_put X tyX5 tyX5_ok nmX5 10 0 cm10 rfl 0 (by decide) hiX5 (by decide +kernel) rfl rfl (ty := .int) (by decide +kernel) rfl rfl (Nat.le_of_ble_eq_true rfl) _ um_thrown dX5_out_2 ?_
  generalize hu_1 : st u 0 0 0 = u_1
  have k6u_1 : u_1 6 0 = u 6 0 := by rw [← hu_1]; first | rfl | exact st_nf (by omega)
  have k22u_1 : u_1 22 j = u 22 j := by rw [← hu_1]; first | rfl | exact st_nf (by omega)
  have k23u_1 : u_1 23 j = u 23 j := by rw [← hu_1]; first | rfl | exact st_nf (by omega)
  have k24u_1 : u_1 24 j = u 24 j := by rw [← hu_1]; first | rfl | exact st_nf (by omega)
  have k5u_1 : u_1 5 0 = u 5 0 := by rw [← hu_1]; first | rfl | exact st_nf (by omega)
  refine g_iload_n X 1 dX5_out_5 rfl rfl ?_
  refine g_if_lt X 17 dX5_out_6 (by decide) (n0_lt (by omega)) (fun c_2 => ?_) (fun c_2 => ?_)
  · exact absurd c_2 (fun z => z)
  · refine g_iload_n X 1 dX5_out_9 rfl rfl ?_
    refine g_aload_n X 0 dX5_out_10 rfl rfl ?_
    refine g_get X 10 0 cm10 rfl 17 (by decide) hiX5 (by decide +kernel) rfl rfl dX5_out_11 ?_
    refine g_icmp_lt X 20 dX5_out_14 (by decide) (nI_ltI (by omega) (by omega)) (fun c_3 => ?_) (fun c_3 => ?_)
    · refine g_iload_n X 2 dX5_out_20 rfl rfl ?_
      refine g_iconst X (v := nI 0) dX5_out_21 (by decide) ?_
      refine g_iconst X (v := nI 3) dX5_out_22 (by decide) ?_
      refine g_callDS1 (n := 3) X [.int (nI 1), .int (nI 0), .int (nI 3)] (m_in ((nI 1)) ((nI 0)) ((nI 3))) gX5_out_X5_in rfl ⟨rfl, rfl⟩ (by decide +kernel) ⟨by decide, by decide⟩ rfl (Nat.le_of_ble_eq_true rfl) dX5_out_23 ⟨Nat.zero_le _, Nat.zero_le _⟩ _ rfl ?_
      refine g_if_ne X 32 dX5_out_26 (by decide) (bN_eq0) (fun c_4 => ?_) (fun c_4 => ?_)
      · have c_4 := Decidable.of_not_not c_4
        refine g_iload_n X 2 dX5_out_32 rfl rfl ?_
        refine g_if_ne X 45 dX5_out_33 (by decide) (n0_eq (by omega)) (fun c_5 => ?_) (fun c_5 => ?_)
        · refine g_iload_n X 2 dX5_out_45 rfl rfl ?_
          refine g_iconst X (v := nI 1) dX5_out_46 (by decide) ?_
          refine g_icmp_ne X 59 dX5_out_47 (by decide) (nI_eq (by omega) (by omega)) (fun c_6 => ?_) (fun c_6 => ?_)
          · exact absurd c_6 (by decide)
          · refine g_aload_n X 0 dX5_out_50 rfl rfl ?_
            refine g_get X 10 0 cm10 rfl 19 (by decide) hiX5 (by decide +kernel) rfl rfl dX5_out_51 ?_
            refine g_iload_n X 1 dX5_out_54 rfl rfl ?_
            refine g_iald X 23 0 cm23 j (by omega) (by decide) rfl dX5_out_55 ?_
            refine g_goto X 84 dX5_out_56 (by decide) ?_
            exact g_iret X rfl dX5_out_84 ⟨by rw [k23u_1], rfl, by subst hu_1; rfl⟩
        · exact absurd c_5 (by decide)
      · exact absurd (inB_nI (by decide) (by decide) (by decide)) c_4
    · exact absurd c_3 (by omega)

set_option maxRecDepth 100000 in
set_option maxHeartbeats 4000000 in
/-- out -/
theorem m_out_2 {l : Launch} {D : va_G} {ta : Nat → ClassId} {pl : Nat → Nat} {bs : Nat} {al : Ad} {Z : Wo} {u : St} (j : Nat) (h : j < u 6 0) (h6 : u 6 0 ≤ 400) (hg : u 22 j ≤ 400) : GD l D ta pl bs yX5_out wsX5_out (rmF 1 22) [.ref (al 10 0), .int (nI j), .int (nI 2)] al (mM Z ta al u) (some (.int (nI (u 24 j)))) (mM Z ta al (st u 0 0 0)) := by
  refine GM.of (by decide) rfl (Nat.le_of_ble_eq_true rfl) ?_
  intro p e s m args below meth c X hnm
  have hiX5 : ∀ w ∈ u_ws RX5 TX5 22, w ∈ wsX5_out := by decide +kernel
  refine g_lv (lv' := [(0, .ref (al 10 0)), (1, .int (nI j)), (2, .int (nI 2))]) [0, 1, 2] rfl ?_
  refine g_aload_n X 0 dX5_out_0 rfl rfl ?_
  refine g_iconst X (v := nI 0) dX5_out_1 (by decide) ?_
  refine g_put X tyX5 tyX5_ok nmX5 10 0 cm10 rfl 0 (by decide) hiX5 (by decide +kernel) rfl rfl (ty := .int) (by decide +kernel) rfl rfl (Nat.le_of_ble_eq_true rfl) _ um_thrown dX5_out_2 ?_
  generalize hu_1 : st u 0 0 0 = u_1
  have k6u_1 : u_1 6 0 = u 6 0 := by rw [← hu_1]; first | rfl | exact st_nf (by omega)
  have k22u_1 : u_1 22 j = u 22 j := by rw [← hu_1]; first | rfl | exact st_nf (by omega)
  have k23u_1 : u_1 23 j = u 23 j := by rw [← hu_1]; first | rfl | exact st_nf (by omega)
  have k24u_1 : u_1 24 j = u 24 j := by rw [← hu_1]; first | rfl | exact st_nf (by omega)
  have k5u_1 : u_1 5 0 = u 5 0 := by rw [← hu_1]; first | rfl | exact st_nf (by omega)
  refine g_iload_n X 1 dX5_out_5 rfl rfl ?_
  refine g_if_lt X 17 dX5_out_6 (by decide) (n0_lt (by omega)) (fun c_2 => ?_) (fun c_2 => ?_)
  · exact absurd c_2 (fun z => z)
  · refine g_iload_n X 1 dX5_out_9 rfl rfl ?_
    refine g_aload_n X 0 dX5_out_10 rfl rfl ?_
    refine g_get X 10 0 cm10 rfl 17 (by decide) hiX5 (by decide +kernel) rfl rfl dX5_out_11 ?_
    refine g_icmp_lt X 20 dX5_out_14 (by decide) (nI_ltI (by omega) (by omega)) (fun c_3 => ?_) (fun c_3 => ?_)
    · refine g_iload_n X 2 dX5_out_20 rfl rfl ?_
      refine g_iconst X (v := nI 0) dX5_out_21 (by decide) ?_
      refine g_iconst X (v := nI 3) dX5_out_22 (by decide) ?_
      refine g_callDS1 (n := 3) X [.int (nI 2), .int (nI 0), .int (nI 3)] (m_in ((nI 2)) ((nI 0)) ((nI 3))) gX5_out_X5_in rfl ⟨rfl, rfl⟩ (by decide +kernel) ⟨by decide, by decide⟩ rfl (Nat.le_of_ble_eq_true rfl) dX5_out_23 ⟨Nat.zero_le _, Nat.zero_le _⟩ _ rfl ?_
      refine g_if_ne X 32 dX5_out_26 (by decide) (bN_eq0) (fun c_4 => ?_) (fun c_4 => ?_)
      · have c_4 := Decidable.of_not_not c_4
        refine g_iload_n X 2 dX5_out_32 rfl rfl ?_
        refine g_if_ne X 45 dX5_out_33 (by decide) (n0_eq (by omega)) (fun c_5 => ?_) (fun c_5 => ?_)
        · refine g_iload_n X 2 dX5_out_45 rfl rfl ?_
          refine g_iconst X (v := nI 1) dX5_out_46 (by decide) ?_
          refine g_icmp_ne X 59 dX5_out_47 (by decide) (nI_eq (by omega) (by omega)) (fun c_6 => ?_) (fun c_6 => ?_)
          · refine g_iload_n X 2 dX5_out_59 rfl rfl ?_
            refine g_iconst X (v := nI 2) dX5_out_60 (by decide) ?_
            refine g_icmp_ne X 73 dX5_out_61 (by decide) (nI_eq (by omega) (by omega)) (fun c_7 => ?_) (fun c_7 => ?_)
            · exact absurd c_7 (by decide)
            · refine g_aload_n X 0 dX5_out_64 rfl rfl ?_
              refine g_get X 10 0 cm10 rfl 20 (by decide) hiX5 (by decide +kernel) rfl rfl dX5_out_65 ?_
              refine g_iload_n X 1 dX5_out_68 rfl rfl ?_
              refine g_iald X 24 0 cm24 j (by omega) (by decide) rfl dX5_out_69 ?_
              refine g_goto X 84 dX5_out_70 (by decide) ?_
              exact g_iret X rfl dX5_out_84 ⟨by rw [k24u_1], rfl, by subst hu_1; rfl⟩
          · exact absurd c_6 (by decide)
        · exact absurd c_5 (by decide)
      · exact absurd (inB_nI (by decide) (by decide) (by decide)) c_4
    · exact absurd c_3 (by omega)

set_option maxRecDepth 100000 in
set_option maxHeartbeats 4000000 in
/-- out -/
theorem m_out_3 {l : Launch} {D : va_G} {ta : Nat → ClassId} {pl : Nat → Nat} {bs : Nat} {al : Ad} {Z : Wo} {u : St} (j : Nat) (h : j < u 6 0) (h6 : u 6 0 ≤ 400) (hg : u 22 j ≤ 400) : GD l D ta pl bs yX5_out wsX5_out (rmF 1 22) [.ref (al 10 0), .int (nI j), .int (nI 3)] al (mM Z ta al u) (some (.int (nI (u 17 (u 22 j))))) (mM Z ta al (st u 0 0 0)) := by
  refine GM.of (by decide) rfl (Nat.le_of_ble_eq_true rfl) ?_
  intro p e s m args below meth c X hnm
  have hiX5 : ∀ w ∈ u_ws RX5 TX5 22, w ∈ wsX5_out := by decide +kernel
  refine g_lv (lv' := [(0, .ref (al 10 0)), (1, .int (nI j)), (2, .int (nI 3))]) [0, 1, 2] rfl ?_
  refine g_aload_n X 0 dX5_out_0 rfl rfl ?_
  refine g_iconst X (v := nI 0) dX5_out_1 (by decide) ?_
  refine g_put X tyX5 tyX5_ok nmX5 10 0 cm10 rfl 0 (by decide) hiX5 (by decide +kernel) rfl rfl (ty := .int) (by decide +kernel) rfl rfl (Nat.le_of_ble_eq_true rfl) _ um_thrown dX5_out_2 ?_
  generalize hu_1 : st u 0 0 0 = u_1
  have k6u_1 : u_1 6 0 = u 6 0 := by rw [← hu_1]; first | rfl | exact st_nf (by omega)
  have k22u_1 : u_1 22 j = u 22 j := by rw [← hu_1]; first | rfl | exact st_nf (by omega)
  have k23u_1 : u_1 23 j = u 23 j := by rw [← hu_1]; first | rfl | exact st_nf (by omega)
  have k24u_1 : u_1 24 j = u 24 j := by rw [← hu_1]; first | rfl | exact st_nf (by omega)
  have k5u_1 : u_1 5 0 = u 5 0 := by rw [← hu_1]; first | rfl | exact st_nf (by omega)
  refine g_iload_n X 1 dX5_out_5 rfl rfl ?_
  refine g_if_lt X 17 dX5_out_6 (by decide) (n0_lt (by omega)) (fun c_2 => ?_) (fun c_2 => ?_)
  · exact absurd c_2 (fun z => z)
  · refine g_iload_n X 1 dX5_out_9 rfl rfl ?_
    refine g_aload_n X 0 dX5_out_10 rfl rfl ?_
    refine g_get X 10 0 cm10 rfl 17 (by decide) hiX5 (by decide +kernel) rfl rfl dX5_out_11 ?_
    refine g_icmp_lt X 20 dX5_out_14 (by decide) (nI_ltI (by omega) (by omega)) (fun c_3 => ?_) (fun c_3 => ?_)
    · refine g_iload_n X 2 dX5_out_20 rfl rfl ?_
      refine g_iconst X (v := nI 0) dX5_out_21 (by decide) ?_
      refine g_iconst X (v := nI 3) dX5_out_22 (by decide) ?_
      refine g_callDS1 (n := 3) X [.int (nI 3), .int (nI 0), .int (nI 3)] (m_in ((nI 3)) ((nI 0)) ((nI 3))) gX5_out_X5_in rfl ⟨rfl, rfl⟩ (by decide +kernel) ⟨by decide, by decide⟩ rfl (Nat.le_of_ble_eq_true rfl) dX5_out_23 ⟨Nat.zero_le _, Nat.zero_le _⟩ _ rfl ?_
      refine g_if_ne X 32 dX5_out_26 (by decide) (bN_eq0) (fun c_4 => ?_) (fun c_4 => ?_)
      · have c_4 := Decidable.of_not_not c_4
        refine g_iload_n X 2 dX5_out_32 rfl rfl ?_
        refine g_if_ne X 45 dX5_out_33 (by decide) (n0_eq (by omega)) (fun c_5 => ?_) (fun c_5 => ?_)
        · refine g_iload_n X 2 dX5_out_45 rfl rfl ?_
          refine g_iconst X (v := nI 1) dX5_out_46 (by decide) ?_
          refine g_icmp_ne X 59 dX5_out_47 (by decide) (nI_eq (by omega) (by omega)) (fun c_6 => ?_) (fun c_6 => ?_)
          · refine g_iload_n X 2 dX5_out_59 rfl rfl ?_
            refine g_iconst X (v := nI 2) dX5_out_60 (by decide) ?_
            refine g_icmp_ne X 73 dX5_out_61 (by decide) (nI_eq (by omega) (by omega)) (fun c_7 => ?_) (fun c_7 => ?_)
            · refine g_aload_n X 0 dX5_out_73 rfl rfl ?_
              refine g_get X 10 0 cm10 rfl 12 (by decide) hiX5 (by decide +kernel) rfl rfl dX5_out_74 ?_
              refine g_aload_n X 0 dX5_out_77 rfl rfl ?_
              refine g_get X 10 0 cm10 rfl 18 (by decide) hiX5 (by decide +kernel) rfl rfl dX5_out_78 ?_
              refine g_iload_n X 1 dX5_out_81 rfl rfl ?_
              refine g_iald X 22 0 cm22 j (by omega) (by decide) rfl dX5_out_82 ?_
              refine g_iald X 17 0 cm17 (u_1 22 j) (by omega) (by decide) rfl dX5_out_83 ?_
              exact g_iret X rfl dX5_out_84 ⟨by subst hu_1; rfl, rfl, by subst hu_1; rfl⟩
            · exact absurd c_7 (by decide)
          · exact absurd c_6 (by decide)
        · exact absurd c_5 (by decide)
      · exact absurd (inB_nI (by decide) (by decide) (by decide)) c_4
    · exact absurd c_3 (by omega)

set_option maxRecDepth 100000 in
set_option maxHeartbeats 4000000 in
/-- out -/
theorem m_out_o {l : Launch} {D : va_G} {ta : Nat → ClassId} {pl : Nat → Nat} {bs : Nat} {al : Ad} {Z : Wo} {u : St} (j : Nat) (y : Int32) (h : j < u 6 0) (h6 : u 6 0 ≤ 400) (hy : ¬ inB y 0 3) : GD l D ta pl bs yX5_out wsX5_out (rmF 1 22) [.ref (al 10 0), .int (nI j), .int y] al (mM Z ta al u) (some (.int (-12))) (mM Z ta al (st u 0 0 0)) := by
  refine GM.of (by decide) rfl (Nat.le_of_ble_eq_true rfl) ?_
  intro p e s m args below meth c X hnm
  have hiX5 : ∀ w ∈ u_ws RX5 TX5 22, w ∈ wsX5_out := by decide +kernel
  refine g_lv (lv' := [(0, .ref (al 10 0)), (1, .int (nI j)), (2, .int y)]) [0, 1, 2] rfl ?_
  refine g_aload_n X 0 dX5_out_0 rfl rfl ?_
  refine g_iconst X (v := nI 0) dX5_out_1 (by decide) ?_
  refine g_put X tyX5 tyX5_ok nmX5 10 0 cm10 rfl 0 (by decide) hiX5 (by decide +kernel) rfl rfl (ty := .int) (by decide +kernel) rfl rfl (Nat.le_of_ble_eq_true rfl) _ um_thrown dX5_out_2 ?_
  generalize hu_1 : st u 0 0 0 = u_1
  have k6u_1 : u_1 6 0 = u 6 0 := by rw [← hu_1]; first | rfl | exact st_nf (by omega)
  have k22u_1 : u_1 22 j = u 22 j := by rw [← hu_1]; first | rfl | exact st_nf (by omega)
  have k23u_1 : u_1 23 j = u 23 j := by rw [← hu_1]; first | rfl | exact st_nf (by omega)
  have k24u_1 : u_1 24 j = u 24 j := by rw [← hu_1]; first | rfl | exact st_nf (by omega)
  have k5u_1 : u_1 5 0 = u 5 0 := by rw [← hu_1]; first | rfl | exact st_nf (by omega)
  refine g_iload_n X 1 dX5_out_5 rfl rfl ?_
  refine g_if_lt X 17 dX5_out_6 (by decide) (n0_lt (by omega)) (fun c_2 => ?_) (fun c_2 => ?_)
  · exact absurd c_2 (fun z => z)
  · refine g_iload_n X 1 dX5_out_9 rfl rfl ?_
    refine g_aload_n X 0 dX5_out_10 rfl rfl ?_
    refine g_get X 10 0 cm10 rfl 17 (by decide) hiX5 (by decide +kernel) rfl rfl dX5_out_11 ?_
    refine g_icmp_lt X 20 dX5_out_14 (by decide) (nI_ltI (by omega) (by omega)) (fun c_3 => ?_) (fun c_3 => ?_)
    · refine g_iload_n X 2 dX5_out_20 rfl rfl ?_
      refine g_iconst X (v := nI 0) dX5_out_21 (by decide) ?_
      refine g_iconst X (v := nI 3) dX5_out_22 (by decide) ?_
      refine g_callDS1 (n := 3) X [.int y, .int (nI 0), .int (nI 3)] (m_in y ((nI 0)) ((nI 3))) gX5_out_X5_in rfl ⟨rfl, rfl⟩ (by decide +kernel) ⟨by decide, by decide⟩ rfl (Nat.le_of_ble_eq_true rfl) dX5_out_23 ⟨Nat.zero_le _, Nat.zero_le _⟩ _ rfl ?_
      refine g_if_ne X 32 dX5_out_26 (by decide) (bN_eq0) (fun c_4 => ?_) (fun c_4 => ?_)
      · have c_4 := Decidable.of_not_not c_4
        exact absurd c_4 hy
      · refine g_bipush X (v := -12) dX5_out_29 (by decide) ?_
        exact g_iret X rfl dX5_out_31 ⟨rfl, rfl, by subst hu_1; rfl⟩
    · exact absurd c_3 (by omega)

set_option maxRecDepth 100000 in
set_option maxHeartbeats 4000000 in
/-- induct -/
theorem m_induct_u {l : Launch} {D : va_G} {ta : Nat → ClassId} {pl : Nat → Nat} {bs : Nat} {al : Ad} {Z : Wo} {u : St} (x y z : Int32) (h : ¬ (inB x 0 3 ∧ inB z 0 15)) : GD l D ta pl bs yX5_induct wsX5_induct (rmF 1 22) [.ref (al 10 0), .int x, .int y, .int z] al (mM Z ta al u) (some (.int (-11))) (mM Z ta al (st u 0 0 0)) := by
  refine GM.of (by decide) rfl (Nat.le_of_ble_eq_true rfl) ?_
  intro p e s m args below meth c X hnm
  have hiX5 : ∀ w ∈ u_ws RX5 TX5 22, w ∈ wsX5_induct := by decide +kernel
  refine g_lv (lv' := [(0, .ref (al 10 0)), (1, .int x), (2, .int y), (3, .int z)]) [0, 1, 2, 3] rfl ?_
  refine g_aload_n X 0 dX5_induct_0 rfl rfl ?_
  refine g_iconst X (v := nI 0) dX5_induct_1 (by decide) ?_
  refine g_put X tyX5 tyX5_ok nmX5 10 0 cm10 rfl 0 (by decide) hiX5 (by decide +kernel) rfl rfl (ty := .int) (by decide +kernel) rfl rfl (Nat.le_of_ble_eq_true rfl) _ um_thrown dX5_induct_2 ?_
  generalize hu_1 : st u 0 0 0 = u_1
  have k1u_1 : u_1 1 0 = u 1 0 := by rw [← hu_1]; first | rfl | exact st_nf (by omega)
  have k5u_1 : u_1 5 0 = u 5 0 := by rw [← hu_1]; first | rfl | exact st_nf (by omega)
  refine g_iload_n X 1 dX5_induct_5 rfl rfl ?_
  refine g_iconst X (v := nI 0) dX5_induct_6 (by decide) ?_
  refine g_iconst X (v := nI 3) dX5_induct_7 (by decide) ?_
  refine g_callDS1 (n := 3) X [.int x, .int (nI 0), .int (nI 3)] (m_in x ((nI 0)) ((nI 3))) gX5_induct_X5_in rfl ⟨rfl, rfl⟩ (by decide +kernel) ⟨by decide, by decide⟩ rfl (Nat.le_of_ble_eq_true rfl) dX5_induct_8 ⟨Nat.zero_le _, Nat.zero_le _⟩ _ rfl ?_
  refine g_if_eq X 24 dX5_induct_11 (by decide) (bN_eq0) (fun c_2 => ?_) (fun c_2 => ?_)
  · refine g_bipush X (v := -11) dX5_induct_24 (by decide) ?_
    exact g_iret X rfl dX5_induct_26 ⟨rfl, rfl, by subst hu_1; rfl⟩
  · have c_2 := Decidable.of_not_not c_2
    refine g_iload_n X 3 dX5_induct_14 rfl rfl ?_
    refine g_iconst X (v := nI 0) dX5_induct_15 (by decide) ?_
    refine g_bipush X (v := nI 15) dX5_induct_16 (by decide) ?_
    refine g_callDS1 (n := 3) X [.int z, .int (nI 0), .int (nI 15)] (m_in z ((nI 0)) ((nI 15))) gX5_induct_X5_in rfl ⟨rfl, rfl⟩ (by decide +kernel) ⟨by decide, by decide⟩ rfl (Nat.le_of_ble_eq_true rfl) dX5_induct_18 ⟨Nat.zero_le _, Nat.zero_le _⟩ _ rfl ?_
    refine g_if_ne X 27 dX5_induct_21 (by decide) (bN_eq0) (fun c_3 => ?_) (fun c_3 => ?_)
    · have c_3 := Decidable.of_not_not c_3
      exact absurd ⟨c_2, c_3⟩ h
    · refine g_bipush X (v := -11) dX5_induct_24 (by decide) ?_
      exact g_iret X rfl dX5_induct_26 ⟨rfl, rfl, by subst hu_1; rfl⟩

set_option maxRecDepth 100000 in
set_option maxHeartbeats 4000000 in
/-- induct -/
theorem m_induct_o {l : Launch} {D : va_G} {ta : Nat → ClassId} {pl : Nat → Nat} {bs : Nat} {al : Ad} {Z : Wo} {u : St} (x y z : Int32) (h : inB x 0 3 ∧ inB z 0 15) (hy : ¬ inB y 1 2) : GD l D ta pl bs yX5_induct wsX5_induct (rmF 1 22) [.ref (al 10 0), .int x, .int y, .int z] al (mM Z ta al u) (some (.int (-12))) (mM Z ta al (st u 0 0 0)) := by
  refine GM.of (by decide) rfl (Nat.le_of_ble_eq_true rfl) ?_
  intro p e s m args below meth c X hnm
  have hiX5 : ∀ w ∈ u_ws RX5 TX5 22, w ∈ wsX5_induct := by decide +kernel
  refine g_lv (lv' := [(0, .ref (al 10 0)), (1, .int x), (2, .int y), (3, .int z)]) [0, 1, 2, 3] rfl ?_
  refine g_aload_n X 0 dX5_induct_0 rfl rfl ?_
  refine g_iconst X (v := nI 0) dX5_induct_1 (by decide) ?_
  refine g_put X tyX5 tyX5_ok nmX5 10 0 cm10 rfl 0 (by decide) hiX5 (by decide +kernel) rfl rfl (ty := .int) (by decide +kernel) rfl rfl (Nat.le_of_ble_eq_true rfl) _ um_thrown dX5_induct_2 ?_
  generalize hu_1 : st u 0 0 0 = u_1
  have k1u_1 : u_1 1 0 = u 1 0 := by rw [← hu_1]; first | rfl | exact st_nf (by omega)
  have k5u_1 : u_1 5 0 = u 5 0 := by rw [← hu_1]; first | rfl | exact st_nf (by omega)
  refine g_iload_n X 1 dX5_induct_5 rfl rfl ?_
  refine g_iconst X (v := nI 0) dX5_induct_6 (by decide) ?_
  refine g_iconst X (v := nI 3) dX5_induct_7 (by decide) ?_
  refine g_callDS1 (n := 3) X [.int x, .int (nI 0), .int (nI 3)] (m_in x ((nI 0)) ((nI 3))) gX5_induct_X5_in rfl ⟨rfl, rfl⟩ (by decide +kernel) ⟨by decide, by decide⟩ rfl (Nat.le_of_ble_eq_true rfl) dX5_induct_8 ⟨Nat.zero_le _, Nat.zero_le _⟩ _ rfl ?_
  refine g_if_eq X 24 dX5_induct_11 (by decide) (bN_eq0) (fun c_2 => ?_) (fun c_2 => ?_)
  · exact absurd h.1 c_2
  · have c_2 := Decidable.of_not_not c_2
    refine g_iload_n X 3 dX5_induct_14 rfl rfl ?_
    refine g_iconst X (v := nI 0) dX5_induct_15 (by decide) ?_
    refine g_bipush X (v := nI 15) dX5_induct_16 (by decide) ?_
    refine g_callDS1 (n := 3) X [.int z, .int (nI 0), .int (nI 15)] (m_in z ((nI 0)) ((nI 15))) gX5_induct_X5_in rfl ⟨rfl, rfl⟩ (by decide +kernel) ⟨by decide, by decide⟩ rfl (Nat.le_of_ble_eq_true rfl) dX5_induct_18 ⟨Nat.zero_le _, Nat.zero_le _⟩ _ rfl ?_
    refine g_if_ne X 27 dX5_induct_21 (by decide) (bN_eq0) (fun c_3 => ?_) (fun c_3 => ?_)
    · have c_3 := Decidable.of_not_not c_3
      refine g_iload_n X 2 dX5_induct_27 rfl rfl ?_
      refine g_iconst X (v := nI 1) dX5_induct_28 (by decide) ?_
      refine g_iconst X (v := nI 2) dX5_induct_29 (by decide) ?_
      refine g_callDS1 (n := 3) X [.int y, .int (nI 1), .int (nI 2)] (m_in y ((nI 1)) ((nI 2))) gX5_induct_X5_in rfl ⟨rfl, rfl⟩ (by decide +kernel) ⟨by decide, by decide⟩ rfl (Nat.le_of_ble_eq_true rfl) dX5_induct_30 ⟨Nat.zero_le _, Nat.zero_le _⟩ _ rfl ?_
      refine g_if_ne X 39 dX5_induct_33 (by decide) (bN_eq0) (fun c_4 => ?_) (fun c_4 => ?_)
      · have c_4 := Decidable.of_not_not c_4
        exact absurd c_4 hy
      · refine g_bipush X (v := -12) dX5_induct_36 (by decide) ?_
        exact g_iret X rfl dX5_induct_38 ⟨rfl, rfl, by subst hu_1; rfl⟩
    · exact absurd h.2 c_3

set_option maxRecDepth 100000 in
set_option maxHeartbeats 4000000 in
/-- induct -/
theorem m_induct_r {l : Launch} {D : va_G} {ta : Nat → ClassId} {pl : Nat → Nat} {bs : Nat} {al : Ad} {Z : Wo} {u : St} (x y z : Int32) (h : inB x 0 3 ∧ inB z 0 15) (hy : inB y 1 2) (hr : u 5 0 = 400) : GD l D ta pl bs yX5_induct wsX5_induct (rmF 1 22) [.ref (al 10 0), .int x, .int y, .int z] al (mM Z ta al u) (some (.int (-14))) (mM Z ta al (st u 0 0 0)) := by
  refine GM.of (by decide) rfl (Nat.le_of_ble_eq_true rfl) ?_
  intro p e s m args below meth c X hnm
  have hiX5 : ∀ w ∈ u_ws RX5 TX5 22, w ∈ wsX5_induct := by decide +kernel
  refine g_lv (lv' := [(0, .ref (al 10 0)), (1, .int x), (2, .int y), (3, .int z)]) [0, 1, 2, 3] rfl ?_
  refine g_aload_n X 0 dX5_induct_0 rfl rfl ?_
  refine g_iconst X (v := nI 0) dX5_induct_1 (by decide) ?_
  refine g_put X tyX5 tyX5_ok nmX5 10 0 cm10 rfl 0 (by decide) hiX5 (by decide +kernel) rfl rfl (ty := .int) (by decide +kernel) rfl rfl (Nat.le_of_ble_eq_true rfl) _ um_thrown dX5_induct_2 ?_
  generalize hu_1 : st u 0 0 0 = u_1
  have k5u_1 : u_1 5 0 = u 5 0 := by rw [← hu_1]; first | rfl | exact st_nf (by omega)
  refine g_iload_n X 1 dX5_induct_5 rfl rfl ?_
  refine g_iconst X (v := nI 0) dX5_induct_6 (by decide) ?_
  refine g_iconst X (v := nI 3) dX5_induct_7 (by decide) ?_
  refine g_callDS1 (n := 3) X [.int x, .int (nI 0), .int (nI 3)] (m_in x ((nI 0)) ((nI 3))) gX5_induct_X5_in rfl ⟨rfl, rfl⟩ (by decide +kernel) ⟨by decide, by decide⟩ rfl (Nat.le_of_ble_eq_true rfl) dX5_induct_8 ⟨Nat.zero_le _, Nat.zero_le _⟩ _ rfl ?_
  refine g_if_eq X 24 dX5_induct_11 (by decide) (bN_eq0) (fun c_2 => ?_) (fun c_2 => ?_)
  · exact absurd h.1 c_2
  · have c_2 := Decidable.of_not_not c_2
    refine g_iload_n X 3 dX5_induct_14 rfl rfl ?_
    refine g_iconst X (v := nI 0) dX5_induct_15 (by decide) ?_
    refine g_bipush X (v := nI 15) dX5_induct_16 (by decide) ?_
    refine g_callDS1 (n := 3) X [.int z, .int (nI 0), .int (nI 15)] (m_in z ((nI 0)) ((nI 15))) gX5_induct_X5_in rfl ⟨rfl, rfl⟩ (by decide +kernel) ⟨by decide, by decide⟩ rfl (Nat.le_of_ble_eq_true rfl) dX5_induct_18 ⟨Nat.zero_le _, Nat.zero_le _⟩ _ rfl ?_
    refine g_if_ne X 27 dX5_induct_21 (by decide) (bN_eq0) (fun c_3 => ?_) (fun c_3 => ?_)
    · have c_3 := Decidable.of_not_not c_3
      refine g_iload_n X 2 dX5_induct_27 rfl rfl ?_
      refine g_iconst X (v := nI 1) dX5_induct_28 (by decide) ?_
      refine g_iconst X (v := nI 2) dX5_induct_29 (by decide) ?_
      refine g_callDS1 (n := 3) X [.int y, .int (nI 1), .int (nI 2)] (m_in y ((nI 1)) ((nI 2))) gX5_induct_X5_in rfl ⟨rfl, rfl⟩ (by decide +kernel) ⟨by decide, by decide⟩ rfl (Nat.le_of_ble_eq_true rfl) dX5_induct_30 ⟨Nat.zero_le _, Nat.zero_le _⟩ _ rfl ?_
      refine g_if_ne X 39 dX5_induct_33 (by decide) (bN_eq0) (fun c_4 => ?_) (fun c_4 => ?_)
      · have c_4 := Decidable.of_not_not c_4
        refine g_aload_n X 0 dX5_induct_39 rfl rfl ?_
        refine g_get X 10 0 cm10 rfl 7 (by decide) hiX5 (by decide +kernel) rfl rfl dX5_induct_40 ?_
        refine g_sipush X (v := nI 400) dX5_induct_43 (by decide) ?_
        refine g_icmp_ne X 52 dX5_induct_46 (by decide) (nI_eq (by omega) (by omega)) (fun c_5 => ?_) (fun c_5 => ?_)
        · exact absurd (by omega) c_5
        · refine g_bipush X (v := -14) dX5_induct_49 (by decide) ?_
          exact g_iret X rfl dX5_induct_51 ⟨rfl, rfl, by subst hu_1; rfl⟩
      · exact absurd hy c_4
    · exact absurd h.2 c_3

set_option maxRecDepth 100000 in
set_option maxHeartbeats 4000000 in
/-- induct -/
theorem m_induct_0 {l : Launch} {D : va_G} {ta : Nat → ClassId} {pl : Nat → Nat} {bs : Nat} {al : Ad} {Z : Wo} {u : St} (j : Nat) (y z : Int32) (h : inB (nI j) 0 3 ∧ inB z 0 15) (hy : inB y 1 2) (hr : u 5 0 < 400) (hw : mW (st u 0 0 0) j (st u 0 0 0 5 0) = 8) : GD l D ta pl bs yX5_induct wsX5_induct (rmF 1 23) [.ref (al 10 0), .int (nI j), .int y, .int z] al (mM Z ta al u) (some (.int (nI 0))) (mM Z ta al (st u 0 0 0)) := by
  refine GM.of (by decide) rfl (Nat.le_of_ble_eq_true rfl) ?_
  intro p e s m args below meth c X hnm
  have hiX5 : ∀ w ∈ u_ws RX5 TX5 22, w ∈ wsX5_induct := by decide +kernel
  refine g_lv (lv' := [(0, .ref (al 10 0)), (1, .int (nI j)), (2, .int y), (3, .int z)]) [0, 1, 2, 3] rfl ?_
  refine g_aload_n X 0 dX5_induct_0 rfl rfl ?_
  refine g_iconst X (v := nI 0) dX5_induct_1 (by decide) ?_
  refine g_put X tyX5 tyX5_ok nmX5 10 0 cm10 rfl 0 (by decide) hiX5 (by decide +kernel) rfl rfl (ty := .int) (by decide +kernel) rfl rfl (Nat.le_of_ble_eq_true rfl) _ um_thrown dX5_induct_2 ?_
  generalize hu_1 : st u 0 0 0 = u_1
  have k5u_1 : u_1 5 0 = u 5 0 := by rw [← hu_1]; first | rfl | exact st_nf (by omega)
  refine g_iload_n X 1 dX5_induct_5 rfl rfl ?_
  refine g_iconst X (v := nI 0) dX5_induct_6 (by decide) ?_
  refine g_iconst X (v := nI 3) dX5_induct_7 (by decide) ?_
  refine g_callDS1 (n := 3) X [.int (nI j), .int (nI 0), .int (nI 3)] (m_in ((nI j)) ((nI 0)) ((nI 3))) gX5_induct_X5_in rfl ⟨rfl, rfl⟩ (by decide +kernel) ⟨by decide, by decide⟩ rfl (Nat.le_of_ble_eq_true rfl) dX5_induct_8 ⟨Nat.zero_le _, Nat.zero_le _⟩ _ rfl ?_
  refine g_if_eq X 24 dX5_induct_11 (by decide) (bN_eq0) (fun c_2 => ?_) (fun c_2 => ?_)
  · exact absurd h.1 c_2
  · have c_2 := Decidable.of_not_not c_2
    refine g_iload_n X 3 dX5_induct_14 rfl rfl ?_
    refine g_iconst X (v := nI 0) dX5_induct_15 (by decide) ?_
    refine g_bipush X (v := nI 15) dX5_induct_16 (by decide) ?_
    refine g_callDS1 (n := 3) X [.int z, .int (nI 0), .int (nI 15)] (m_in z ((nI 0)) ((nI 15))) gX5_induct_X5_in rfl ⟨rfl, rfl⟩ (by decide +kernel) ⟨by decide, by decide⟩ rfl (Nat.le_of_ble_eq_true rfl) dX5_induct_18 ⟨Nat.zero_le _, Nat.zero_le _⟩ _ rfl ?_
    refine g_if_ne X 27 dX5_induct_21 (by decide) (bN_eq0) (fun c_3 => ?_) (fun c_3 => ?_)
    · have c_3 := Decidable.of_not_not c_3
      refine g_iload_n X 2 dX5_induct_27 rfl rfl ?_
      refine g_iconst X (v := nI 1) dX5_induct_28 (by decide) ?_
      refine g_iconst X (v := nI 2) dX5_induct_29 (by decide) ?_
      refine g_callDS1 (n := 3) X [.int y, .int (nI 1), .int (nI 2)] (m_in y ((nI 1)) ((nI 2))) gX5_induct_X5_in rfl ⟨rfl, rfl⟩ (by decide +kernel) ⟨by decide, by decide⟩ rfl (Nat.le_of_ble_eq_true rfl) dX5_induct_30 ⟨Nat.zero_le _, Nat.zero_le _⟩ _ rfl ?_
      refine g_if_ne X 39 dX5_induct_33 (by decide) (bN_eq0) (fun c_4 => ?_) (fun c_4 => ?_)
      · have c_4 := Decidable.of_not_not c_4
        refine g_aload_n X 0 dX5_induct_39 rfl rfl ?_
        refine g_get X 10 0 cm10 rfl 7 (by decide) hiX5 (by decide +kernel) rfl rfl dX5_induct_40 ?_
        refine g_sipush X (v := nI 400) dX5_induct_43 (by decide) ?_
        refine g_icmp_ne X 52 dX5_induct_46 (by decide) (nI_eq (by omega) (by omega)) (fun c_5 => ?_) (fun c_5 => ?_)
        · refine g_aload_n X 0 dX5_induct_52 rfl rfl ?_
          refine g_iload_n X 1 dX5_induct_53 rfl rfl ?_
          refine g_callDV1 (n := 1) X 10 0 [.int (nI j)] cm10 rfl (m_waiting j (by omega)) gX5_induct_X5_waiting rfl ⟨rfl, rfl⟩ (by decide +kernel) ⟨by decide, by decide⟩ rfl (Nat.le_of_ble_eq_true rfl) dX5_induct_54 ⟨Nat.zero_le _, Nat.zero_le _⟩ _ rfl ?_
          refine g_bipush X (v := nI 8) dX5_induct_57 (by decide) ?_
          have hm9 := mW_le (v := u_1) (k := j) (u_1 5 0)
          refine g_icmp_ne X 64 dX5_induct_59 (by decide) (nI_eq (by omega) (by omega)) (fun c_6 => ?_) (fun c_6 => ?_)
          · subst hu_1
            exact absurd hw c_6
          · refine g_iconst X (v := nI 0) dX5_induct_62 (by decide) ?_
            exact g_iret X rfl dX5_induct_63 ⟨rfl, rfl, by subst hu_1; rfl⟩
        · exact absurd c_5 (by omega)
      · exact absurd hy c_4
    · exact absurd h.2 c_3

set_option maxRecDepth 100000 in
set_option maxHeartbeats 4000000 in
/-- induct -/
theorem m_induct_1 {l : Launch} {D : va_G} {ta : Nat → ClassId} {pl : Nat → Nat} {bs : Nat} {al : Ad} {Z : Wo} {u : St} (j y z : Nat) (h : inB (nI j) 0 3 ∧ inB (nI z) 0 15) (hy : inB (nI y) 1 2) (hr : u 5 0 < 400) (hw : mW (st u 0 0 0) j (st u 0 0 0 5 0) ≠ 8) : GD l D ta pl bs yX5_induct wsX5_induct (rmF 1 23) [.ref (al 10 0), .int (nI j), .int (nI y), .int (nI z)] al (mM Z ta al u) (some (.int (nI (u 5 0 + 1)))) (mM Z ta al (mAdd (st u 0 0 0) j y z)) := by
  refine GM.of (by decide) rfl (Nat.le_of_ble_eq_true rfl) ?_
  intro p e s m args below meth c X hnm
  have hiX5 : ∀ w ∈ u_ws RX5 TX5 22, w ∈ wsX5_induct := by decide +kernel
  refine g_lv (lv' := [(0, .ref (al 10 0)), (1, .int (nI j)), (2, .int (nI y)), (3, .int (nI z))]) [0, 1, 2, 3] rfl ?_
  refine g_aload_n X 0 dX5_induct_0 rfl rfl ?_
  refine g_iconst X (v := nI 0) dX5_induct_1 (by decide) ?_
  refine g_put X tyX5 tyX5_ok nmX5 10 0 cm10 rfl 0 (by decide) hiX5 (by decide +kernel) rfl rfl (ty := .int) (by decide +kernel) rfl rfl (Nat.le_of_ble_eq_true rfl) _ um_thrown dX5_induct_2 ?_
  generalize hu_1 : st u 0 0 0 = u_1
  have k5u_1 : u_1 5 0 = u 5 0 := by rw [← hu_1]; first | rfl | exact st_nf (by omega)
  refine g_iload_n X 1 dX5_induct_5 rfl rfl ?_
  refine g_iconst X (v := nI 0) dX5_induct_6 (by decide) ?_
  refine g_iconst X (v := nI 3) dX5_induct_7 (by decide) ?_
  refine g_callDS1 (n := 3) X [.int (nI j), .int (nI 0), .int (nI 3)] (m_in ((nI j)) ((nI 0)) ((nI 3))) gX5_induct_X5_in rfl ⟨rfl, rfl⟩ (by decide +kernel) ⟨by decide, by decide⟩ rfl (Nat.le_of_ble_eq_true rfl) dX5_induct_8 ⟨Nat.zero_le _, Nat.zero_le _⟩ _ rfl ?_
  refine g_if_eq X 24 dX5_induct_11 (by decide) (bN_eq0) (fun c_2 => ?_) (fun c_2 => ?_)
  · exact absurd h.1 c_2
  · have c_2 := Decidable.of_not_not c_2
    refine g_iload_n X 3 dX5_induct_14 rfl rfl ?_
    refine g_iconst X (v := nI 0) dX5_induct_15 (by decide) ?_
    refine g_bipush X (v := nI 15) dX5_induct_16 (by decide) ?_
    refine g_callDS1 (n := 3) X [.int (nI z), .int (nI 0), .int (nI 15)] (m_in ((nI z)) ((nI 0)) ((nI 15))) gX5_induct_X5_in rfl ⟨rfl, rfl⟩ (by decide +kernel) ⟨by decide, by decide⟩ rfl (Nat.le_of_ble_eq_true rfl) dX5_induct_18 ⟨Nat.zero_le _, Nat.zero_le _⟩ _ rfl ?_
    refine g_if_ne X 27 dX5_induct_21 (by decide) (bN_eq0) (fun c_3 => ?_) (fun c_3 => ?_)
    · have c_3 := Decidable.of_not_not c_3
      refine g_iload_n X 2 dX5_induct_27 rfl rfl ?_
      refine g_iconst X (v := nI 1) dX5_induct_28 (by decide) ?_
      refine g_iconst X (v := nI 2) dX5_induct_29 (by decide) ?_
      refine g_callDS1 (n := 3) X [.int (nI y), .int (nI 1), .int (nI 2)] (m_in ((nI y)) ((nI 1)) ((nI 2))) gX5_induct_X5_in rfl ⟨rfl, rfl⟩ (by decide +kernel) ⟨by decide, by decide⟩ rfl (Nat.le_of_ble_eq_true rfl) dX5_induct_30 ⟨Nat.zero_le _, Nat.zero_le _⟩ _ rfl ?_
      refine g_if_ne X 39 dX5_induct_33 (by decide) (bN_eq0) (fun c_4 => ?_) (fun c_4 => ?_)
      · have c_4 := Decidable.of_not_not c_4
        refine g_aload_n X 0 dX5_induct_39 rfl rfl ?_
        refine g_get X 10 0 cm10 rfl 7 (by decide) hiX5 (by decide +kernel) rfl rfl dX5_induct_40 ?_
        refine g_sipush X (v := nI 400) dX5_induct_43 (by decide) ?_
        refine g_icmp_ne X 52 dX5_induct_46 (by decide) (nI_eq (by omega) (by omega)) (fun c_5 => ?_) (fun c_5 => ?_)
        · refine g_aload_n X 0 dX5_induct_52 rfl rfl ?_
          refine g_iload_n X 1 dX5_induct_53 rfl rfl ?_
          refine g_callDV1 (n := 1) X 10 0 [.int (nI j)] cm10 rfl (m_waiting j (by omega)) gX5_induct_X5_waiting rfl ⟨rfl, rfl⟩ (by decide +kernel) ⟨by decide, by decide⟩ rfl (Nat.le_of_ble_eq_true rfl) dX5_induct_54 ⟨Nat.zero_le _, Nat.zero_le _⟩ _ rfl ?_
          refine g_bipush X (v := nI 8) dX5_induct_57 (by decide) ?_
          have hm9 := mW_le (v := u_1) (k := j) (u_1 5 0)
          refine g_icmp_ne X 64 dX5_induct_59 (by decide) (nI_eq (by omega) (by omega)) (fun c_6 => ?_) (fun c_6 => ?_)
          · refine g_aload_n X 0 dX5_induct_64 rfl rfl ?_
            refine g_dup X dX5_induct_65 rfl ?_
            refine g_get X 10 0 cm10 rfl 7 (by decide) hiX5 (by decide +kernel) rfl rfl dX5_induct_66 ?_
            refine g_iconst X (v := nI 1) dX5_induct_69 (by decide) ?_
            refine g_iadd X dX5_induct_70 (nI_add _ _) ?_
            refine g_put X tyX5 tyX5_ok nmX5 10 0 cm10 rfl 7 (by decide) hiX5 (by decide +kernel) rfl rfl (ty := .int) (by decide +kernel) rfl rfl (Nat.le_of_ble_eq_true rfl) _ um_items dX5_induct_71 ?_
            generalize hu_7 : st u_1 5 0 ((u_1 5 0) + 1) = u_7
            have k5u_7 : u_7 5 0 = u 5 0 + 1 := by rw [← hu_7, ← hu_1]; rfl
            refine g_aload_n X 0 dX5_induct_74 rfl rfl ?_
            refine g_get X 10 0 cm10 rfl 13 (by decide) hiX5 (by decide +kernel) rfl rfl dX5_induct_75 ?_
            refine g_aload_n X 0 dX5_induct_78 rfl rfl ?_
            refine g_get X 10 0 cm10 rfl 7 (by decide) hiX5 (by decide +kernel) rfl rfl dX5_induct_79 ?_
            refine g_iload_n X 1 dX5_induct_82 rfl rfl ?_
            refine g_iast X 18 0 cm18 (u_7 5 0) (by omega) (by decide) _ um_a18 dX5_induct_83 ?_
            generalize hu_8 : st u_7 18 (u_7 5 0) j = u_8
            have k5u_8 : u_8 5 0 = u_7 5 0 := by rw [← hu_8]; first | rfl | exact st_nf (by omega)
            refine g_aload_n X 0 dX5_induct_84 rfl rfl ?_
            refine g_get X 10 0 cm10 rfl 8 (by decide) hiX5 (by decide +kernel) rfl rfl dX5_induct_85 ?_
            refine g_aload_n X 0 dX5_induct_88 rfl rfl ?_
            refine g_get X 10 0 cm10 rfl 7 (by decide) hiX5 (by decide +kernel) rfl rfl dX5_induct_89 ?_
            refine g_iload_n X 2 dX5_induct_92 rfl rfl ?_
            refine g_iast X 13 0 cm13 (u_8 5 0) (by omega) (by decide) _ um_a13 dX5_induct_93 ?_
            generalize hu_9 : st u_8 13 (u_8 5 0) y = u_9
            have k5u_9 : u_9 5 0 = u_8 5 0 := by rw [← hu_9]; first | rfl | exact st_nf (by omega)
            refine g_aload_n X 0 dX5_induct_94 rfl rfl ?_
            refine g_get X 10 0 cm10 rfl 9 (by decide) hiX5 (by decide +kernel) rfl rfl dX5_induct_95 ?_
            refine g_aload_n X 0 dX5_induct_98 rfl rfl ?_
            refine g_get X 10 0 cm10 rfl 7 (by decide) hiX5 (by decide +kernel) rfl rfl dX5_induct_99 ?_
            refine g_iload_n X 3 dX5_induct_102 rfl rfl ?_
            refine g_iast X 14 0 cm14 (u_9 5 0) (by omega) (by decide) _ um_a14 dX5_induct_103 ?_
            generalize hu_10 : st u_9 14 (u_9 5 0) z = u_10
            have k5u_10 : u_10 5 0 = u_9 5 0 := by rw [← hu_10]; first | rfl | exact st_nf (by omega)
            refine g_aload_n X 0 dX5_induct_104 rfl rfl ?_
            refine g_get X 10 0 cm10 rfl 7 (by decide) hiX5 (by decide +kernel) rfl rfl dX5_induct_105 ?_
            exact g_iret X rfl dX5_induct_108 ⟨by rw [k5u_10, k5u_9, k5u_8, k5u_7], rfl, congrArg _ (by subst hu_10; subst hu_9; subst hu_8; subst hu_7; subst hu_1; rfl)⟩
          · subst hu_1
            exact absurd c_6 hw
        · exact absurd c_5 (by omega)
      · exact absurd hy c_4
    · exact absurd h.2 c_3
