set_option maxRecDepth 100000 in
set_option maxHeartbeats 4000000 in
/-- itemNumbered -/
theorem c_itemNumbered_0 {l : Launch} {D : va_G} {ta : Nat → ClassId} {pl : Nat → Nat} {bs : Nat} {al : Ad} {Z : Wo} {u : St} (x : Int32) (h : x < nI 1 ∨ ¬ x ≤ nI (u 2 0)) : GD l D ta pl bs yX4_itemNumbered wsX4_itemNumbered (rmF 0 0) [.ref (al 0 0), .int x] al (mC Z ta pl al u) (some (.null)) (mC Z ta pl al u) := by
  refine GM.of (by decide) rfl (Nat.le_of_ble_eq_true rfl) ?_
  intro p e s m args below meth c X hnm
  have hiX4 : ∀ w ∈ u_ws RX4 TX4 13, w ∈ wsX4_itemNumbered := by decide +kernel
  refine g_lv (lv' := [(0, .ref (al 0 0)), (1, .int x)]) [0, 1] rfl ?_
  refine g_iload_n X 1 dX4_itemNumbered_0 rfl rfl ?_
  refine g_iconst X (v := nI 1) dX4_itemNumbered_1 (by decide) ?_
  refine g_icmp_lt X 13 dX4_itemNumbered_2 (by decide) (Iff.rfl) (fun c_1 => ?_) (fun c_1 => ?_)
  · refine g_null X dX4_itemNumbered_13 ?_
    refine g_goto X 25 dX4_itemNumbered_14 (by decide) ?_
    exact g_aret X rfl ⟨_, rfl⟩ (Or.inl rfl) dX4_itemNumbered_25 ⟨rfl, rfl, rfl⟩
  · refine g_iload_n X 1 dX4_itemNumbered_5 rfl rfl ?_
    refine g_aload_n X 0 dX4_itemNumbered_6 rfl rfl ?_
    refine g_get X 0 0 cx0 rfl 7 (by decide) hiX4 (by decide +kernel) rfl rfl dX4_itemNumbered_7 ?_
    refine g_icmp_le X 17 dX4_itemNumbered_10 (by decide) (Iff.rfl) (fun c_2 => ?_) (fun c_2 => ?_)
    · exact h.elim (fun z => absurd z c_1) (fun z => absurd c_2 z)
    · refine g_null X dX4_itemNumbered_13 ?_
      refine g_goto X 25 dX4_itemNumbered_14 (by decide) ?_
      exact g_aret X rfl ⟨_, rfl⟩ (Or.inl rfl) dX4_itemNumbered_25 ⟨rfl, rfl, rfl⟩

set_option maxRecDepth 100000 in
set_option maxHeartbeats 4000000 in
/-- itemNumbered -/
theorem c_itemNumbered_1 {l : Launch} {D : va_G} {ta : Nat → ClassId} {pl : Nat → Nat} {bs : Nat} {al : Ad} {Z : Wo} {u : St} (i : Nat) (h1 : 1 ≤ i) (h2 : i ≤ u 2 0) (h3 : u 2 0 ≤ 400) (h4 : u 9 (i - 1) = i) : GD l D ta pl bs yX4_itemNumbered wsX4_itemNumbered (rmF 0 0) [.ref (al 0 0), .int (nI i)] al (mC Z ta pl al u) (some (.ref (al 9 i))) (mC Z ta pl al u) := by
  refine GM.of (by decide) rfl (Nat.le_of_ble_eq_true rfl) ?_
  intro p e s m args below meth c X hnm
  have hiX4 : ∀ w ∈ u_ws RX4 TX4 13, w ∈ wsX4_itemNumbered := by decide +kernel
  refine g_lv (lv' := [(0, .ref (al 0 0)), (1, .int (nI i))]) [0, 1] rfl ?_
  refine g_iload_n X 1 dX4_itemNumbered_0 rfl rfl ?_
  refine g_iconst X (v := nI 1) dX4_itemNumbered_1 (by decide) ?_
  refine g_icmp_lt X 13 dX4_itemNumbered_2 (by decide) (nI_ltI (by omega) (by omega)) (fun c_1 => ?_) (fun c_1 => ?_)
  · exact absurd c_1 (by omega)
  · refine g_iload_n X 1 dX4_itemNumbered_5 rfl rfl ?_
    refine g_aload_n X 0 dX4_itemNumbered_6 rfl rfl ?_
    refine g_get X 0 0 cx0 rfl 7 (by decide) hiX4 (by decide +kernel) rfl rfl dX4_itemNumbered_7 ?_
    refine g_icmp_le X 17 dX4_itemNumbered_10 (by decide) (nI_leI (by omega) (by omega)) (fun c_2 => ?_) (fun c_2 => ?_)
    · refine g_aload_n X 0 dX4_itemNumbered_17 rfl rfl ?_
      refine g_get X 0 0 cx0 rfl 5 (by decide) hiX4 (by decide +kernel) rfl rfl dX4_itemNumbered_18 ?_
      refine g_iload_n X 1 dX4_itemNumbered_21 rfl rfl ?_
      refine g_iconst X (v := nI 1) dX4_itemNumbered_22 (by decide) ?_
      refine g_isub X dX4_itemNumbered_23 (pk_sub (by omega)) ?_
      have b_3 : u 9 (i - 1) ≠ 0 := by omega
      refine g_aald0 X 7 0 cx7 (i - 1) (by omega) (by omega) (rI_vp b_3) dX4_itemNumbered_24 ?_
      exact g_aret X rfl ⟨_, rfl⟩ (Or.inr ⟨_, rfl⟩) dX4_itemNumbered_25 ⟨by rw [h4], rfl, rfl⟩
    · exact absurd h2 c_2

set_option maxRecDepth 100000 in
set_option maxHeartbeats 4000000 in
/-- missed -/
theorem c_missed_u {l : Launch} {D : va_G} {ta : Nat → ClassId} {pl : Nat → Nat} {bs : Nat} {al : Ad} {Z : Wo} {u : St} (x : Int32) (h : x < nI 1 ∨ ¬ x ≤ nI (u 2 0)) : GD l D ta pl bs yX4_missed wsX4_missed (rmF 1 21) [.ref (al 0 0), .int x] al (mC Z ta pl al u) (some (.int (-11))) (mC Z ta pl al u) := by
  refine GM.of (by decide) rfl (Nat.le_of_ble_eq_true rfl) ?_
  intro p e s m args below meth c X hnm
  refine g_lv (lv' := [(0, .ref (al 0 0)), (1, .int x)]) [0, 1] rfl ?_
  refine g_aload_n X 0 dX4_missed_0 rfl rfl ?_
  refine g_iload_n X 1 dX4_missed_1 rfl rfl ?_
  refine g_callDV1 (n := 1) X 0 0 [.int x] cx0 rfl (c_itemNumbered_0 x h) gX4_missed_X4_itemNumbered rfl ⟨rfl, rfl⟩ (by decide +kernel) ⟨by decide, by decide⟩ rfl (Nat.le_of_ble_eq_true rfl) dX4_missed_2 ⟨Nat.zero_le _, Nat.zero_le _⟩ _ rfl ?_
  refine g_astore_nN X [(2, .null), (0, .ref (al 0 0)), (1, .int x)] dX4_missed_5 rfl (by decide) rfl ?_
  refine g_aload_nN X 0 dX4_missed_6 rfl rfl ?_
  refine g_ifnonnull_n X dX4_missed_7 ?_
  refine g_bipush X (v := -11) dX4_missed_10 (by decide) ?_
  exact g_iret X rfl dX4_missed_12 ⟨rfl, rfl, rfl⟩

set_option maxRecDepth 100000 in
set_option maxHeartbeats 4000000 in
/-- missed -/
theorem c_missed_s {l : Launch} {D : va_G} {ta : Nat → ClassId} {pl : Nat → Nat} {bs : Nat} {al : Ad} {Z : Wo} {u : St} (i : Nat) (hI : Iv u)(hi1 : 1 ≤ i) (hi2 : i ≤ u 2 0)(hp : u 23 i ≠ 1) : GD l D ta pl bs yX4_missed wsX4_missed (rmF 1 21) [.ref (al 0 0), .int (nI i)] al (mC Z ta pl al u) (some (.int (-13))) (mC Z ta pl al u) := by
  refine GM.of (by decide) rfl (Nat.le_of_ble_eq_true rfl) ?_
  intro p e s m args below meth c X hnm
  have hiX2 : ∀ w ∈ u_ws RX2 TX2 8, w ∈ wsX4_missed := by decide +kernel
  obtain ⟨⟨h1, h2, h7, hN, h30, h51, h52⟩, hI2, hI3, -, hI5, hI6, hI7⟩ := id hI
  obtain ⟨hp1, hp2, hp3, hp4, hp5, -⟩ := hI2 i hi1 hi2
  refine g_lv (lv' := [(0, .ref (al 0 0)), (1, .int (nI i))]) [0, 1] rfl ?_
  refine g_aload_n X 0 dX4_missed_0 rfl rfl ?_
  refine g_iload_n X 1 dX4_missed_1 rfl rfl ?_
  refine g_callDV1 (n := 1) X 0 0 [.int (nI i)] cx0 rfl (c_itemNumbered_1 i (by omega) (by omega) (by omega) (by have := (hI6 (i - 1)).2 (by omega); omega)) gX4_missed_X4_itemNumbered rfl ⟨rfl, rfl⟩ (by decide +kernel) ⟨by decide, by decide⟩ rfl (Nat.le_of_ble_eq_true rfl) dX4_missed_2 ⟨Nat.zero_le _, Nat.zero_le _⟩ _ rfl ?_
  refine g_astore_n X [(2, .ref (al 9 i)), (0, .ref (al 0 0)), (1, .int (nI i))] dX4_missed_5 rfl (by decide) rfl ?_
  refine g_aload_n X 0 dX4_missed_6 rfl rfl ?_
  refine g_ifnonnull_r X 13 dX4_missed_7 (by decide) ?_
  refine g_aload_n X 0 dX4_missed_13 rfl rfl ?_
  refine g_get X 9 i (cx9 ⟨by omega, by omega⟩) rfl 3 (by decide) hiX2 (by decide +kernel) rfl rfl dX4_missed_14 ?_
  refine g_place X 1 (by decide) "CARRIED" rfl (by decide +kernel) dX4_missed_17 ?_
  refine g_acmp_eq X 26 dX4_missed_20 (by decide) (plI X.2.2.2 (by omega) (by omega)) (fun c_1 => ?_) (fun c_1 => ?_)
  · exact absurd c_1 hp
  · refine g_bipush X (v := -13) dX4_missed_23 (by decide) ?_
    exact g_iret X rfl dX4_missed_25 ⟨rfl, rfl, rfl⟩

set_option maxRecDepth 100000 in
set_option maxHeartbeats 4000000 in
/-- missed -/
theorem c_missed_1 {l : Launch} {D : va_G} {ta : Nat → ClassId} {pl : Nat → Nat} {bs : Nat} {al : Ad} {Z : Wo} {u : St} (i : Nat) (hI : Iv u)(hi1 : 1 ≤ i) (hi2 : i ≤ u 2 0)(hp : u 23 i = 1) : GD l D ta pl bs yX4_missed wsX4_missed (rmF 1 21) [.ref (al 0 0), .int (nI i)] al (mC Z ta pl al u) (some (.int (nI (u 24 i)))) (mC Z ta pl al (st u 23 i 2)) := by
  refine GM.of (by decide) rfl (Nat.le_of_ble_eq_true rfl) ?_
  intro p e s m args below meth c X hnm
  have hiX2 : ∀ w ∈ u_ws RX2 TX2 8, w ∈ wsX4_missed := by decide +kernel
  obtain ⟨⟨h1, h2, h7, hN, h30, h51, h52⟩, hI2, hI3, -, hI5, hI6, hI7⟩ := id hI
  obtain ⟨hp1, hp2, hp3, hp4, hp5, -⟩ := hI2 i hi1 hi2
  refine g_lv (lv' := [(0, .ref (al 0 0)), (1, .int (nI i))]) [0, 1] rfl ?_
  refine g_aload_n X 0 dX4_missed_0 rfl rfl ?_
  refine g_iload_n X 1 dX4_missed_1 rfl rfl ?_
  refine g_callDV1 (n := 1) X 0 0 [.int (nI i)] cx0 rfl (c_itemNumbered_1 i (by omega) (by omega) (by omega) (by have := (hI6 (i - 1)).2 (by omega); omega)) gX4_missed_X4_itemNumbered rfl ⟨rfl, rfl⟩ (by decide +kernel) ⟨by decide, by decide⟩ rfl (Nat.le_of_ble_eq_true rfl) dX4_missed_2 ⟨Nat.zero_le _, Nat.zero_le _⟩ _ rfl ?_
  refine g_astore_n X [(2, .ref (al 9 i)), (0, .ref (al 0 0)), (1, .int (nI i))] dX4_missed_5 rfl (by decide) rfl ?_
  refine g_aload_n X 0 dX4_missed_6 rfl rfl ?_
  refine g_ifnonnull_r X 13 dX4_missed_7 (by decide) ?_
  refine g_aload_n X 0 dX4_missed_13 rfl rfl ?_
  refine g_get X 9 i (cx9 ⟨by omega, by omega⟩) rfl 3 (by decide) hiX2 (by decide +kernel) rfl rfl dX4_missed_14 ?_
  refine g_place X 1 (by decide) "CARRIED" rfl (by decide +kernel) dX4_missed_17 ?_
  refine g_acmp_eq X 26 dX4_missed_20 (by decide) (plI X.2.2.2 (by omega) (by omega)) (fun c_1 => ?_) (fun c_1 => ?_)
  · refine g_aload_n X 0 dX4_missed_26 rfl rfl ?_
    refine g_place X 2 (by decide) "MISSED" rfl (by decide +kernel) dX4_missed_27 ?_
    refine g_put X tyX2 tyX2_ok nmX2 9 i (cx9 ⟨by omega, by omega⟩) rfl 3 (by decide) hiX2 (by decide +kernel) rfl rfl (ty := .object "LoopSorter$Place") (by decide +kernel) rfl rfl (Nat.le_of_ble_eq_true rfl) _ (up_place ⟨by omega, by omega⟩) dX4_missed_30 ?_
    generalize hu_2 : st u 23 i 2 = u_2
    have k0u_2 : u_2 0 0 = u 0 0 := by rw [← hu_2]; first | rfl | exact st_nf (by omega)
    have k30u_2 : u_2 30 0 = u 30 0 := by rw [← hu_2]; first | rfl | exact st_nf (by omega)
    have k24u_2 : u_2 24 i = u 24 i := by rw [← hu_2]; first | rfl | exact st_nf (by omega)
    refine g_aload_n X 0 dX4_missed_33 rfl rfl ?_
    refine g_get X 9 i (cx9 ⟨by omega, by omega⟩) rfl 4 (by decide) hiX2 (by decide +kernel) rfl rfl dX4_missed_34 ?_
    exact g_iret X rfl dX4_missed_37 ⟨by rw [k24u_2], rfl, by subst hu_2; rfl⟩
  · exact absurd hp c_1

set_option maxRecDepth 100000 in
set_option maxHeartbeats 4000000 in
/-- round -/
theorem c_round_u {l : Launch} {D : va_G} {ta : Nat → ClassId} {pl : Nat → Nat} {bs : Nat} {al : Ad} {Z : Wo} {u : St} (x : Int32) (h : x < nI 1 ∨ ¬ x ≤ nI (u 2 0)) : GD l D ta pl bs yX4_round wsX4_round (rmF 1 21) [.ref (al 0 0), .int x] al (mC Z ta pl al u) (some (.int (-11))) (mC Z ta pl al u) := by
  refine GM.of (by decide) rfl (Nat.le_of_ble_eq_true rfl) ?_
  intro p e s m args below meth c X hnm
  refine g_lv (lv' := [(0, .ref (al 0 0)), (1, .int x)]) [0, 1] rfl ?_
  refine g_aload_n X 0 dX4_round_0 rfl rfl ?_
  refine g_iload_n X 1 dX4_round_1 rfl rfl ?_
  refine g_callDV1 (n := 1) X 0 0 [.int x] cx0 rfl (c_itemNumbered_0 x h) gX4_round_X4_itemNumbered rfl ⟨rfl, rfl⟩ (by decide +kernel) ⟨by decide, by decide⟩ rfl (Nat.le_of_ble_eq_true rfl) dX4_round_2 ⟨Nat.zero_le _, Nat.zero_le _⟩ _ rfl ?_
  refine g_astore_nN X [(2, .null), (0, .ref (al 0 0)), (1, .int x)] dX4_round_5 rfl (by decide) rfl ?_
  refine g_aload_nN X 0 dX4_round_6 rfl rfl ?_
  refine g_ifnonnull_n X dX4_round_7 ?_
  refine g_bipush X (v := -11) dX4_round_10 (by decide) ?_
  refine g_goto X 19 dX4_round_12 (by decide) ?_
  exact g_iret X rfl dX4_round_19 ⟨rfl, rfl, rfl⟩

set_option maxRecDepth 100000 in
set_option maxHeartbeats 4000000 in
/-- round -/
theorem c_round_1 {l : Launch} {D : va_G} {ta : Nat → ClassId} {pl : Nat → Nat} {bs : Nat} {al : Ad} {Z : Wo} {u : St} (i : Nat) (hI : Iv u)(hi1 : 1 ≤ i) (hi2 : i ≤ u 2 0) : GD l D ta pl bs yX4_round wsX4_round (rmF 1 21) [.ref (al 0 0), .int (nI i)] al (mC Z ta pl al u) (some (.int (nI (u 25 i)))) (mC Z ta pl al u) := by
  refine GM.of (by decide) rfl (Nat.le_of_ble_eq_true rfl) ?_
  intro p e s m args below meth c X hnm
  have hiX2 : ∀ w ∈ u_ws RX2 TX2 8, w ∈ wsX4_round := by decide +kernel
  obtain ⟨⟨h1, h2, h7, hN, h30, h51, h52⟩, hI2, hI3, -, hI5, hI6, hI7⟩ := id hI
  obtain ⟨hp1, hp2, hp3, hp4, hp5, -⟩ := hI2 i hi1 hi2
  refine g_lv (lv' := [(0, .ref (al 0 0)), (1, .int (nI i))]) [0, 1] rfl ?_
  refine g_aload_n X 0 dX4_round_0 rfl rfl ?_
  refine g_iload_n X 1 dX4_round_1 rfl rfl ?_
  refine g_callDV1 (n := 1) X 0 0 [.int (nI i)] cx0 rfl (c_itemNumbered_1 i (by omega) (by omega) (by omega) (by have := (hI6 (i - 1)).2 (by omega); omega)) gX4_round_X4_itemNumbered rfl ⟨rfl, rfl⟩ (by decide +kernel) ⟨by decide, by decide⟩ rfl (Nat.le_of_ble_eq_true rfl) dX4_round_2 ⟨Nat.zero_le _, Nat.zero_le _⟩ _ rfl ?_
  refine g_astore_n X [(2, .ref (al 9 i)), (0, .ref (al 0 0)), (1, .int (nI i))] dX4_round_5 rfl (by decide) rfl ?_
  refine g_aload_n X 0 dX4_round_6 rfl rfl ?_
  refine g_ifnonnull_r X 15 dX4_round_7 (by decide) ?_
  refine g_aload_n X 0 dX4_round_15 rfl rfl ?_
  refine g_get X 9 i (cx9 ⟨by omega, by omega⟩) rfl 5 (by decide) hiX2 (by decide +kernel) rfl rfl dX4_round_16 ?_
  exact g_iret X rfl dX4_round_19 ⟨rfl, rfl, rfl⟩

set_option maxRecDepth 100000 in
set_option maxHeartbeats 4000000 in
/-- speed -/
theorem c_speed_u {l : Launch} {D : va_G} {ta : Nat → ClassId} {pl : Nat → Nat} {bs : Nat} {al : Ad} {Z : Wo} {u : St} (x : Int32) (h : x < nI 1 ∨ ¬ x ≤ nI 5) : GD l D ta pl bs yX4_speed wsX4_speed (rmF 0 0) [.ref (al 0 0), .int x] al (mC Z ta pl al u) (some (.int (-12))) (mC Z ta pl al u) := by
  refine GM.of (by decide) rfl (Nat.le_of_ble_eq_true rfl) ?_
  intro p e s m args below meth c X hnm
  refine g_lv (lv' := [(0, .ref (al 0 0)), (1, .int x)]) [0, 1] rfl ?_
  refine g_iload_n X 1 dX4_speed_0 rfl rfl ?_
  refine g_iconst X (v := nI 1) dX4_speed_1 (by decide) ?_
  refine g_icmp_lt X 10 dX4_speed_2 (by decide) (Iff.rfl) (fun c_1 => ?_) (fun c_1 => ?_)
  · refine g_bipush X (v := -12) dX4_speed_10 (by decide) ?_
    exact g_iret X rfl dX4_speed_12 ⟨rfl, rfl, rfl⟩
  · refine g_iload_n X 1 dX4_speed_5 rfl rfl ?_
    refine g_iconst X (v := nI 5) dX4_speed_6 (by decide) ?_
    refine g_icmp_le X 13 dX4_speed_7 (by decide) (Iff.rfl) (fun c_2 => ?_) (fun c_2 => ?_)
    · exact h.elim (fun z => absurd z c_1) (fun z => absurd c_2 z)
    · refine g_bipush X (v := -12) dX4_speed_10 (by decide) ?_
      exact g_iret X rfl dX4_speed_12 ⟨rfl, rfl, rfl⟩

set_option maxRecDepth 100000 in
set_option maxHeartbeats 4000000 in
/-- speed -/
theorem c_speed_1 {l : Launch} {D : va_G} {ta : Nat → ClassId} {pl : Nat → Nat} {bs : Nat} {al : Ad} {Z : Wo} {u : St} (n : Nat) (h1 : 1 ≤ n) (h2 : n ≤ 5) : GD l D ta pl bs yX4_speed wsX4_speed (rmF 0 0) [.ref (al 0 0), .int (nI n)] al (mC Z ta pl al u) (some (.int (nI (u 5 0)))) (mC Z ta pl al (st u 5 0 n)) := by
  refine GM.of (by decide) rfl (Nat.le_of_ble_eq_true rfl) ?_
  intro p e s m args below meth c X hnm
  have hiX4 : ∀ w ∈ u_ws RX4 TX4 13, w ∈ wsX4_speed := by decide +kernel
  refine g_lv (lv' := [(0, .ref (al 0 0)), (1, .int (nI n))]) [0, 1] rfl ?_
  refine g_iload_n X 1 dX4_speed_0 rfl rfl ?_
  refine g_iconst X (v := nI 1) dX4_speed_1 (by decide) ?_
  refine g_icmp_lt X 10 dX4_speed_2 (by decide) (nI_ltI (by omega) (by omega)) (fun c_1 => ?_) (fun c_1 => ?_)
  · exact absurd c_1 (by omega)
  · refine g_iload_n X 1 dX4_speed_5 rfl rfl ?_
    refine g_iconst X (v := nI 5) dX4_speed_6 (by decide) ?_
    refine g_icmp_le X 13 dX4_speed_7 (by decide) (nI_leI (by omega) (by omega)) (fun c_2 => ?_) (fun c_2 => ?_)
    · refine g_aload_n X 0 dX4_speed_13 rfl rfl ?_
      refine g_get X 0 0 cx0 rfl 10 (by decide) hiX4 (by decide +kernel) rfl rfl dX4_speed_14 ?_
      refine g_istore_n X [(2, .int (nI (u 5 0))), (0, .ref (al 0 0)), (1, .int (nI n))] dX4_speed_17 rfl (by decide) rfl ?_
      refine g_aload_n X 1 dX4_speed_18 rfl rfl ?_
      refine g_iload_n X 2 dX4_speed_19 rfl rfl ?_
      refine g_put X tyX4 tyX4_ok nmX4 0 0 cx0 rfl 10 (by decide) hiX4 (by decide +kernel) rfl rfl (ty := .int) (by decide +kernel) rfl rfl (Nat.le_of_ble_eq_true rfl) _ up_movesPerStep dX4_speed_20 ?_
      generalize hu_3 : st u 5 0 n = u_3
      have k0u_3 : u_3 0 0 = u 0 0 := by rw [← hu_3]; first | rfl | exact st_nf (by omega)
      have k30u_3 : u_3 30 0 = u 30 0 := by rw [← hu_3]; first | rfl | exact st_nf (by omega)
      refine g_iload_n X 0 dX4_speed_23 rfl rfl ?_
      exact g_iret X rfl dX4_speed_24 ⟨rfl, rfl, by subst hu_3; rfl⟩
    · exact absurd h2 c_2

set_option maxRecDepth 100000 in
set_option maxHeartbeats 4000000 in
/-- share -/
theorem c_share_u {l : Launch} {D : va_G} {ta : Nat → ClassId} {pl : Nat → Nat} {bs : Nat} {al : Ad} {Z : Wo} {u : St} (x : Int32) (h : ¬ inR x 4) : GD l D ta pl bs yX4_share wsX4_share (rmF 1 20) [.ref (al 0 0), .int x] al (mC Z ta pl al u) (some (.long (-11))) (mC Z ta pl al u) := by
  refine GM.of (by decide) rfl (Nat.le_of_ble_eq_true rfl) ?_
  intro p e s m args below meth c X hnm
  refine g_lv (lv' := [(0, .ref (al 0 0)), (1, .int x)]) [0, 1] rfl ?_
  refine g_iload_n X 1 dX4_share_0 rfl rfl ?_
  refine g_callDS1 (n := 1) X [.int x] (c_isInduct x) gX4_share_X4_isInduct rfl ⟨rfl, rfl⟩ (by decide +kernel) ⟨by decide, by decide⟩ rfl (Nat.le_of_ble_eq_true rfl) dX4_share_1 ⟨Nat.zero_le _, Nat.zero_le _⟩ _ rfl ?_
  refine g_if_eq X 19 dX4_share_4 (by decide) (bN_eq0) (fun c_1 => ?_) (fun c_1 => ?_)
  · refine g_ldc2 X (v := -11) dX4_share_19 (by decide +kernel) ?_
    exact g_lret X rfl dX4_share_22 ⟨rfl, rfl, rfl⟩
  · have c_1 := Decidable.of_not_not c_1
    exact absurd c_1 h

set_option maxRecDepth 100000 in
set_option maxHeartbeats 4000000 in
/-- share -/
theorem c_share_1 {l : Launch} {D : va_G} {ta : Nat → ClassId} {pl : Nat → Nat} {bs : Nat} {al : Ad} {Z : Wo} {u : St} (j : Nat) (h : j < 4) : GD l D ta pl bs yX4_share wsX4_share (rmF 1 20) [.ref (al 0 0), .int (nI j)] al (mC Z ta pl al u) (some (.long (lN (u 13 (j + 1))))) (mC Z ta pl al u) := by
  refine GM.of (by decide) rfl (Nat.le_of_ble_eq_true rfl) ?_
  intro p e s m args below meth c X hnm
  have hiX1 : ∀ w ∈ u_ws RX1 TX1 5, w ∈ wsX4_share := by decide +kernel
  have hiX4 : ∀ w ∈ u_ws RX4 TX4 13, w ∈ wsX4_share := by decide +kernel
  refine g_lv (lv' := [(0, .ref (al 0 0)), (1, .int (nI j))]) [0, 1] rfl ?_
  refine g_iload_n X 1 dX4_share_0 rfl rfl ?_
  refine g_callDS1 (n := 1) X [.int (nI j)] (c_isInduct ((nI j))) gX4_share_X4_isInduct rfl ⟨rfl, rfl⟩ (by decide +kernel) ⟨by decide, by decide⟩ rfl (Nat.le_of_ble_eq_true rfl) dX4_share_1 ⟨Nat.zero_le _, Nat.zero_le _⟩ _ rfl ?_
  refine g_if_eq X 19 dX4_share_4 (by decide) (bN_eq0) (fun c_1 => ?_) (fun c_1 => ?_)
  · exact absurd (inR_nI h (by decide)) c_1
  · have c_1 := Decidable.of_not_not c_1
    refine g_aload_n X 0 dX4_share_7 rfl rfl ?_
    refine g_get X 0 0 cx0 rfl 3 (by decide) hiX4 (by decide +kernel) rfl rfl dX4_share_8 ?_
    refine g_iload_n X 1 dX4_share_11 rfl rfl ?_
    refine g_aald1 X 2 0 cx2 j (by omega) (by omega) (ar2 (by omega)) dX4_share_12 ?_
    refine g_get X 3 (j + 1) (cx3 ⟨by omega, by omega⟩) rfl 3 (by decide) hiX1 (by decide +kernel) rfl rfl dX4_share_13 ?_
    refine g_goto X 22 dX4_share_16 (by decide) ?_
    exact g_lret X rfl dX4_share_22 ⟨rfl, rfl, rfl⟩

set_option maxRecDepth 100000 in
set_option maxHeartbeats 4000000 in
/-- step -/
theorem c_step_u {l : Launch} {D : va_G} {ta : Nat → ClassId} {pl : Nat → Nat} {bs : Nat} {al : Ad} {Z : Wo} {u : St} (x : Int32) (h : x < 0 ∨ ¬ x ≤ nI 1000) : GD l D ta pl bs yX4_step wsX4_step (rmF 0 0) [.ref (al 0 0), .int x] al (mC Z ta pl al u) (some (.int (-12))) (mC Z ta pl al u) := by
  refine GM.of (by decide) rfl (Nat.le_of_ble_eq_true rfl) ?_
  intro p e s m args below meth c X hnm
  refine g_lv (lv' := [(0, .ref (al 0 0)), (1, .int x)]) [0, 1] rfl ?_
  refine g_iload_n X 1 dX4_step_0 rfl rfl ?_
  refine g_if_lt X 11 dX4_step_1 (by decide) (Iff.rfl) (fun c_1 => ?_) (fun c_1 => ?_)
  · refine g_bipush X (v := -12) dX4_step_11 (by decide) ?_
    exact g_iret X rfl dX4_step_13 ⟨rfl, rfl, rfl⟩
  · refine g_iload_n X 1 dX4_step_4 rfl rfl ?_
    refine g_sipush X (v := nI 1000) dX4_step_5 (by decide) ?_
    refine g_icmp_le X 14 dX4_step_8 (by decide) (Iff.rfl) (fun c_2 => ?_) (fun c_2 => ?_)
    · exact h.elim (fun z => absurd z c_1) (fun z => absurd c_2 z)
    · refine g_bipush X (v := -12) dX4_step_11 (by decide) ?_
      exact g_iret X rfl dX4_step_13 ⟨rfl, rfl, rfl⟩

set_option maxRecDepth 100000 in
set_option maxHeartbeats 4000000 in
/-- itemGoneAs -/
theorem c_itemGoneAs_0 {l : Launch} {D : va_G} {ta : Nat → ClassId} {pl : Nat → Nat} {bs : Nat} {al : Ad} {Z : Wo} {u : St} (x : Int32) (h : x < 0 ∨ ¬ x < nI (u 3 0)) : GD l D ta pl bs yX4_itemGoneAs wsX4_itemGoneAs (rmF 0 0) [.ref (al 0 0), .int x] al (mC Z ta pl al u) (some (.null)) (mC Z ta pl al u) := by
  refine GM.of (by decide) rfl (Nat.le_of_ble_eq_true rfl) ?_
  intro p e s m args below meth c X hnm
  have hiX4 : ∀ w ∈ u_ws RX4 TX4 13, w ∈ wsX4_itemGoneAs := by decide +kernel
  refine g_lv (lv' := [(0, .ref (al 0 0)), (1, .int x)]) [0, 1] rfl ?_
  refine g_iload_n X 1 dX4_itemGoneAs_0 rfl rfl ?_
  refine g_if_lt X 12 dX4_itemGoneAs_1 (by decide) (Iff.rfl) (fun c_1 => ?_) (fun c_1 => ?_)
  · refine g_null X dX4_itemGoneAs_12 ?_
    refine g_goto X 22 dX4_itemGoneAs_13 (by decide) ?_
    exact g_aret X rfl ⟨_, rfl⟩ (Or.inl rfl) dX4_itemGoneAs_22 ⟨rfl, rfl, rfl⟩
  · refine g_iload_n X 1 dX4_itemGoneAs_4 rfl rfl ?_
    refine g_aload_n X 0 dX4_itemGoneAs_5 rfl rfl ?_
    refine g_get X 0 0 cx0 rfl 8 (by decide) hiX4 (by decide +kernel) rfl rfl dX4_itemGoneAs_6 ?_
    refine g_icmp_lt X 16 dX4_itemGoneAs_9 (by decide) (Iff.rfl) (fun c_2 => ?_) (fun c_2 => ?_)
    · exact h.elim (fun z => absurd z c_1) (fun z => absurd c_2 z)
    · refine g_null X dX4_itemGoneAs_12 ?_
      refine g_goto X 22 dX4_itemGoneAs_13 (by decide) ?_
      exact g_aret X rfl ⟨_, rfl⟩ (Or.inl rfl) dX4_itemGoneAs_22 ⟨rfl, rfl, rfl⟩

set_option maxRecDepth 100000 in
set_option maxHeartbeats 4000000 in
/-- itemGoneAs -/
theorem c_itemGoneAs_1 {l : Launch} {D : va_G} {ta : Nat → ClassId} {pl : Nat → Nat} {bs : Nat} {al : Ad} {Z : Wo} {u : St} (j : Nat) (h : j < u 3 0) (hg : u 3 0 ≤ 400) (hj : 1 ≤ u 10 j) : GD l D ta pl bs yX4_itemGoneAs wsX4_itemGoneAs (rmF 0 0) [.ref (al 0 0), .int (nI j)] al (mC Z ta pl al u) (some (.ref (al 9 (u 10 j)))) (mC Z ta pl al u) := by
  refine GM.of (by decide) rfl (Nat.le_of_ble_eq_true rfl) ?_
  intro p e s m args below meth c X hnm
  have hiX4 : ∀ w ∈ u_ws RX4 TX4 13, w ∈ wsX4_itemGoneAs := by decide +kernel
  refine g_lv (lv' := [(0, .ref (al 0 0)), (1, .int (nI j))]) [0, 1] rfl ?_
  refine g_iload_n X 1 dX4_itemGoneAs_0 rfl rfl ?_
  refine g_if_lt X 12 dX4_itemGoneAs_1 (by decide) (n0_lt (by omega)) (fun c_1 => ?_) (fun c_1 => ?_)
  · exact absurd c_1 (fun z => z)
  · refine g_iload_n X 1 dX4_itemGoneAs_4 rfl rfl ?_
    refine g_aload_n X 0 dX4_itemGoneAs_5 rfl rfl ?_
    refine g_get X 0 0 cx0 rfl 8 (by decide) hiX4 (by decide +kernel) rfl rfl dX4_itemGoneAs_6 ?_
    refine g_icmp_lt X 16 dX4_itemGoneAs_9 (by decide) (nI_ltI (by omega) (by omega)) (fun c_2 => ?_) (fun c_2 => ?_)
    · refine g_aload_n X 0 dX4_itemGoneAs_16 rfl rfl ?_
      refine g_get X 0 0 cx0 rfl 6 (by decide) hiX4 (by decide +kernel) rfl rfl dX4_itemGoneAs_17 ?_
      refine g_iload_n X 1 dX4_itemGoneAs_20 rfl rfl ?_
      have b_3 : u 10 j ≠ 0 := by omega
      refine g_aald0 X 8 0 cx8 j (by omega) (by omega) (rI_vp b_3) dX4_itemGoneAs_21 ?_
      exact g_aret X rfl ⟨_, rfl⟩ (Or.inr ⟨_, rfl⟩) dX4_itemGoneAs_22 ⟨rfl, rfl, rfl⟩
    · exact absurd h c_2

set_option maxRecDepth 100000 in
set_option maxHeartbeats 4000000 in
/-- out -/
theorem c_out_u {l : Launch} {D : va_G} {ta : Nat → ClassId} {pl : Nat → Nat} {bs : Nat} {al : Ad} {Z : Wo} {u : St} (x y : Int32) (h : x < 0 ∨ ¬ x < nI (u 3 0)) : GD l D ta pl bs yX4_out wsX4_out (rmF 1 21) [.ref (al 0 0), .int x, .int y] al (mC Z ta pl al u) (some (.int (-11))) (mC Z ta pl al u) := by
  refine GM.of (by decide) rfl (Nat.le_of_ble_eq_true rfl) ?_
  intro p e s m args below meth c X hnm
  refine g_lv (lv' := [(0, .ref (al 0 0)), (1, .int x), (2, .int y)]) [0, 1, 2] rfl ?_
  refine g_aload_n X 0 dX4_out_0 rfl rfl ?_
  refine g_iload_n X 1 dX4_out_1 rfl rfl ?_
  refine g_callDV1 (n := 1) X 0 0 [.int x] cx0 rfl (c_itemGoneAs_0 x h) gX4_out_X4_itemGoneAs rfl ⟨rfl, rfl⟩ (by decide +kernel) ⟨by decide, by decide⟩ rfl (Nat.le_of_ble_eq_true rfl) dX4_out_2 ⟨Nat.zero_le _, Nat.zero_le _⟩ _ rfl ?_
  refine g_astore_nN X [(3, .null), (0, .ref (al 0 0)), (1, .int x), (2, .int y)] dX4_out_5 rfl (by decide) rfl ?_
  refine g_aload_nN X 0 dX4_out_6 rfl rfl ?_
  refine g_ifnonnull_n X dX4_out_7 ?_
  refine g_bipush X (v := -11) dX4_out_10 (by decide) ?_
  exact g_iret X rfl dX4_out_12 ⟨rfl, rfl, rfl⟩

set_option maxRecDepth 100000 in
set_option maxHeartbeats 4000000 in
/-- out -/
theorem c_out_0 {l : Launch} {D : va_G} {ta : Nat → ClassId} {pl : Nat → Nat} {bs : Nat} {al : Ad} {Z : Wo} {u : St} (j : Nat) (hI : Iv u)(h : j < u 3 0) : GD l D ta pl bs yX4_out wsX4_out (rmF 1 21) [.ref (al 0 0), .int (nI j), .int (nI 0)] al (mC Z ta pl al u) (some (.int (nI (u 10 j)))) (mC Z ta pl al u) := by
  refine GM.of (by decide) rfl (Nat.le_of_ble_eq_true rfl) ?_
  intro p e s m args below meth c X hnm
  have hiX2 : ∀ w ∈ u_ws RX2 TX2 8, w ∈ wsX4_out := by decide +kernel
  obtain ⟨⟨h1, h2, h7, hN, h30, h51, h52⟩, hI2, hI3, -, hI5, hI6, hI7⟩ := id hI
  have hg := hI.le3
  have hj := hI7 j
  have hj2 := hj.2 h
  refine g_lv (lv' := [(0, .ref (al 0 0)), (1, .int (nI j)), (2, .int (nI 0))]) [0, 1, 2] rfl ?_
  refine g_aload_n X 0 dX4_out_0 rfl rfl ?_
  refine g_iload_n X 1 dX4_out_1 rfl rfl ?_
  refine g_callDV1 (n := 1) X 0 0 [.int (nI j)] cx0 rfl (c_itemGoneAs_1 j (by omega) (by omega) (by omega)) gX4_out_X4_itemGoneAs rfl ⟨rfl, rfl⟩ (by decide +kernel) ⟨by decide, by decide⟩ rfl (Nat.le_of_ble_eq_true rfl) dX4_out_2 ⟨Nat.zero_le _, Nat.zero_le _⟩ _ rfl ?_
  refine g_astore_n X [(3, .ref (al 9 (u 10 j))), (0, .ref (al 0 0)), (1, .int (nI j)), (2, .int (nI 0))] dX4_out_5 rfl (by decide) rfl ?_
  refine g_aload_n X 0 dX4_out_6 rfl rfl ?_
  refine g_ifnonnull_r X 13 dX4_out_7 (by decide) ?_
  refine g_iload_n X 3 dX4_out_13 rfl rfl ?_
  refine g_tableIn X (off := 30) 44 dX4_out_14 (by decide) (by decide) (by decide) (by decide) ?_
  refine g_aload_n X 0 dX4_out_44 rfl rfl ?_
  refine g_get X 9 (u 10 j) (cx9 ⟨by omega, by omega⟩) rfl 0 (by decide) hiX2 (by decide +kernel) rfl rfl dX4_out_45 ?_
  exact g_iret X rfl dX4_out_48 ⟨rfl, rfl, rfl⟩

set_option maxRecDepth 100000 in
set_option maxHeartbeats 4000000 in
/-- out -/
theorem c_out_1 {l : Launch} {D : va_G} {ta : Nat → ClassId} {pl : Nat → Nat} {bs : Nat} {al : Ad} {Z : Wo} {u : St} (j : Nat) (hI : Iv u)(h : j < u 3 0) : GD l D ta pl bs yX4_out wsX4_out (rmF 1 21) [.ref (al 0 0), .int (nI j), .int (nI 1)] al (mC Z ta pl al u) (some (.int (nI (u 26 (u 10 j))))) (mC Z ta pl al u) := by
  refine GM.of (by decide) rfl (Nat.le_of_ble_eq_true rfl) ?_
  intro p e s m args below meth c X hnm
  have hiX2 : ∀ w ∈ u_ws RX2 TX2 8, w ∈ wsX4_out := by decide +kernel
  obtain ⟨⟨h1, h2, h7, hN, h30, h51, h52⟩, hI2, hI3, -, hI5, hI6, hI7⟩ := id hI
  have hg := hI.le3
  have hj := hI7 j
  have hj2 := hj.2 h
  refine g_lv (lv' := [(0, .ref (al 0 0)), (1, .int (nI j)), (2, .int (nI 1))]) [0, 1, 2] rfl ?_
  refine g_aload_n X 0 dX4_out_0 rfl rfl ?_
  refine g_iload_n X 1 dX4_out_1 rfl rfl ?_
  refine g_callDV1 (n := 1) X 0 0 [.int (nI j)] cx0 rfl (c_itemGoneAs_1 j (by omega) (by omega) (by omega)) gX4_out_X4_itemGoneAs rfl ⟨rfl, rfl⟩ (by decide +kernel) ⟨by decide, by decide⟩ rfl (Nat.le_of_ble_eq_true rfl) dX4_out_2 ⟨Nat.zero_le _, Nat.zero_le _⟩ _ rfl ?_
  refine g_astore_n X [(3, .ref (al 9 (u 10 j))), (0, .ref (al 0 0)), (1, .int (nI j)), (2, .int (nI 1))] dX4_out_5 rfl (by decide) rfl ?_
  refine g_aload_n X 0 dX4_out_6 rfl rfl ?_
  refine g_ifnonnull_r X 13 dX4_out_7 (by decide) ?_
  refine g_iload_n X 3 dX4_out_13 rfl rfl ?_
  refine g_tableIn X (off := 35) 49 dX4_out_14 (by decide) (by decide) (by decide) (by decide) ?_
  refine g_aload_n X 0 dX4_out_49 rfl rfl ?_
  refine g_get X 9 (u 10 j) (cx9 ⟨by omega, by omega⟩) rfl 6 (by decide) hiX2 (by decide +kernel) rfl rfl dX4_out_50 ?_
  exact g_iret X rfl dX4_out_53 ⟨rfl, rfl, rfl⟩

set_option maxRecDepth 100000 in
set_option maxHeartbeats 4000000 in
/-- out -/
theorem c_out_2 {l : Launch} {D : va_G} {ta : Nat → ClassId} {pl : Nat → Nat} {bs : Nat} {al : Ad} {Z : Wo} {u : St} (j : Nat) (hI : Iv u)(h : j < u 3 0) : GD l D ta pl bs yX4_out wsX4_out (rmF 1 21) [.ref (al 0 0), .int (nI j), .int (nI 2)] al (mC Z ta pl al u) (some (.int (nI (u 27 (u 10 j))))) (mC Z ta pl al u) := by
  refine GM.of (by decide) rfl (Nat.le_of_ble_eq_true rfl) ?_
  intro p e s m args below meth c X hnm
  have hiX2 : ∀ w ∈ u_ws RX2 TX2 8, w ∈ wsX4_out := by decide +kernel
  obtain ⟨⟨h1, h2, h7, hN, h30, h51, h52⟩, hI2, hI3, -, hI5, hI6, hI7⟩ := id hI
  have hg := hI.le3
  have hj := hI7 j
  have hj2 := hj.2 h
  refine g_lv (lv' := [(0, .ref (al 0 0)), (1, .int (nI j)), (2, .int (nI 2))]) [0, 1, 2] rfl ?_
  refine g_aload_n X 0 dX4_out_0 rfl rfl ?_
  refine g_iload_n X 1 dX4_out_1 rfl rfl ?_
  refine g_callDV1 (n := 1) X 0 0 [.int (nI j)] cx0 rfl (c_itemGoneAs_1 j (by omega) (by omega) (by omega)) gX4_out_X4_itemGoneAs rfl ⟨rfl, rfl⟩ (by decide +kernel) ⟨by decide, by decide⟩ rfl (Nat.le_of_ble_eq_true rfl) dX4_out_2 ⟨Nat.zero_le _, Nat.zero_le _⟩ _ rfl ?_
  refine g_astore_n X [(3, .ref (al 9 (u 10 j))), (0, .ref (al 0 0)), (1, .int (nI j)), (2, .int (nI 2))] dX4_out_5 rfl (by decide) rfl ?_
  refine g_aload_n X 0 dX4_out_6 rfl rfl ?_
  refine g_ifnonnull_r X 13 dX4_out_7 (by decide) ?_
  refine g_iload_n X 3 dX4_out_13 rfl rfl ?_
  refine g_tableIn X (off := 40) 54 dX4_out_14 (by decide) (by decide) (by decide) (by decide) ?_
  refine g_aload_n X 0 dX4_out_54 rfl rfl ?_
  refine g_get X 9 (u 10 j) (cx9 ⟨by omega, by omega⟩) rfl 7 (by decide) hiX2 (by decide +kernel) rfl rfl dX4_out_55 ?_
  exact g_iret X rfl dX4_out_58 ⟨rfl, rfl, rfl⟩

set_option maxRecDepth 100000 in
set_option maxHeartbeats 4000000 in
/-- out -/
theorem c_out_3 {l : Launch} {D : va_G} {ta : Nat → ClassId} {pl : Nat → Nat} {bs : Nat} {al : Ad} {Z : Wo} {u : St} (j : Nat) (hI : Iv u)(h : j < u 3 0) : GD l D ta pl bs yX4_out wsX4_out (rmF 1 21) [.ref (al 0 0), .int (nI j), .int (nI 3)] al (mC Z ta pl al u) (some (.int (nI (u 25 (u 10 j))))) (mC Z ta pl al u) := by
  refine GM.of (by decide) rfl (Nat.le_of_ble_eq_true rfl) ?_
  intro p e s m args below meth c X hnm
  have hiX2 : ∀ w ∈ u_ws RX2 TX2 8, w ∈ wsX4_out := by decide +kernel
  obtain ⟨⟨h1, h2, h7, hN, h30, h51, h52⟩, hI2, hI3, -, hI5, hI6, hI7⟩ := id hI
  have hg := hI.le3
  have hj := hI7 j
  have hj2 := hj.2 h
  refine g_lv (lv' := [(0, .ref (al 0 0)), (1, .int (nI j)), (2, .int (nI 3))]) [0, 1, 2] rfl ?_
  refine g_aload_n X 0 dX4_out_0 rfl rfl ?_
  refine g_iload_n X 1 dX4_out_1 rfl rfl ?_
  refine g_callDV1 (n := 1) X 0 0 [.int (nI j)] cx0 rfl (c_itemGoneAs_1 j (by omega) (by omega) (by omega)) gX4_out_X4_itemGoneAs rfl ⟨rfl, rfl⟩ (by decide +kernel) ⟨by decide, by decide⟩ rfl (Nat.le_of_ble_eq_true rfl) dX4_out_2 ⟨Nat.zero_le _, Nat.zero_le _⟩ _ rfl ?_
  refine g_astore_n X [(3, .ref (al 9 (u 10 j))), (0, .ref (al 0 0)), (1, .int (nI j)), (2, .int (nI 3))] dX4_out_5 rfl (by decide) rfl ?_
  refine g_aload_n X 0 dX4_out_6 rfl rfl ?_
  refine g_ifnonnull_r X 13 dX4_out_7 (by decide) ?_
  refine g_iload_n X 3 dX4_out_13 rfl rfl ?_
  refine g_tableIn X (off := 45) 59 dX4_out_14 (by decide) (by decide) (by decide) (by decide) ?_
  refine g_aload_n X 0 dX4_out_59 rfl rfl ?_
  refine g_get X 9 (u 10 j) (cx9 ⟨by omega, by omega⟩) rfl 5 (by decide) hiX2 (by decide +kernel) rfl rfl dX4_out_60 ?_
  exact g_iret X rfl dX4_out_63 ⟨rfl, rfl, rfl⟩

set_option maxRecDepth 100000 in
set_option maxHeartbeats 4000000 in
/-- out -/
theorem c_out_o {l : Launch} {D : va_G} {ta : Nat → ClassId} {pl : Nat → Nat} {bs : Nat} {al : Ad} {Z : Wo} {u : St} (j : Nat) (y : Int32) (hI : Iv u)(h : j < u 3 0) (hy : y.toInt < 0 ∨ 3 < y.toInt) : GD l D ta pl bs yX4_out wsX4_out (rmF 1 21) [.ref (al 0 0), .int (nI j), .int y] al (mC Z ta pl al u) (some (.int (-12))) (mC Z ta pl al u) := by
  refine GM.of (by decide) rfl (Nat.le_of_ble_eq_true rfl) ?_
  intro p e s m args below meth c X hnm
  obtain ⟨⟨h1, h2, h7, hN, h30, h51, h52⟩, hI2, hI3, -, hI5, hI6, hI7⟩ := id hI
  have hg := hI.le3
  have hj := hI7 j
  have hj2 := hj.2 h
  refine g_lv (lv' := [(0, .ref (al 0 0)), (1, .int (nI j)), (2, .int y)]) [0, 1, 2] rfl ?_
  refine g_aload_n X 0 dX4_out_0 rfl rfl ?_
  refine g_iload_n X 1 dX4_out_1 rfl rfl ?_
  refine g_callDV1 (n := 1) X 0 0 [.int (nI j)] cx0 rfl (c_itemGoneAs_1 j (by omega) (by omega) (by omega)) gX4_out_X4_itemGoneAs rfl ⟨rfl, rfl⟩ (by decide +kernel) ⟨by decide, by decide⟩ rfl (Nat.le_of_ble_eq_true rfl) dX4_out_2 ⟨Nat.zero_le _, Nat.zero_le _⟩ _ rfl ?_
  refine g_astore_n X [(3, .ref (al 9 (u 10 j))), (0, .ref (al 0 0)), (1, .int (nI j)), (2, .int y)] dX4_out_5 rfl (by decide) rfl ?_
  refine g_aload_n X 0 dX4_out_6 rfl rfl ?_
  refine g_ifnonnull_r X 13 dX4_out_7 (by decide) ?_
  refine g_iload_n X 3 dX4_out_13 rfl rfl ?_
  refine g_tableOut X 64 dX4_out_14 hy (by decide) ?_
  refine g_bipush X (v := -12) dX4_out_64 (by decide) ?_
  exact g_iret X rfl dX4_out_66 ⟨rfl, rfl, rfl⟩

set_option maxRecDepth 100000 in
set_option maxHeartbeats 4000000 in
/-- full -/
theorem c_full_u {l : Launch} {D : va_G} {ta : Nat → ClassId} {pl : Nat → Nat} {bs : Nat} {al : Ad} {Z : Wo} {u : St} (x y : Int32) (h : ¬ inR x 16) : GD l D ta pl bs yX4_full wsX4_full (rmF 1 20) [.ref (al 0 0), .int x, .int y] al (mC Z ta pl al u) (some (.int (-11))) (mC Z ta pl al u) := by
  refine GM.of (by decide) rfl (Nat.le_of_ble_eq_true rfl) ?_
  intro p e s m args below meth c X hnm
  refine g_lv (lv' := [(0, .ref (al 0 0)), (1, .int x), (2, .int y)]) [0, 1, 2] rfl ?_
  refine g_iload_n X 1 dX4_full_0 rfl rfl ?_
  refine g_callDS1 (n := 1) X [.int x] (c_isChute x) gX4_full_X4_isChute rfl ⟨rfl, rfl⟩ (by decide +kernel) ⟨by decide, by decide⟩ rfl (Nat.le_of_ble_eq_true rfl) dX4_full_1 ⟨Nat.zero_le _, Nat.zero_le _⟩ _ rfl ?_
  refine g_if_ne X 10 dX4_full_4 (by decide) (bN_eq0) (fun c_1 => ?_) (fun c_1 => ?_)
  · have c_1 := Decidable.of_not_not c_1
    exact absurd c_1 h
  · refine g_bipush X (v := -11) dX4_full_7 (by decide) ?_
    exact g_iret X rfl dX4_full_9 ⟨rfl, rfl, rfl⟩

set_option maxRecDepth 100000 in
set_option maxHeartbeats 4000000 in
/-- full -/
theorem c_full_s {l : Launch} {D : va_G} {ta : Nat → ClassId} {pl : Nat → Nat} {bs : Nat} {al : Ad} {Z : Wo} {u : St}   : GD l D ta pl bs yX4_full wsX4_full (rmF 1 20) [.ref (al 0 0), .int (nI 15), .int (nI 1)] al (mC Z ta pl al u) (some (.int (-13))) (mC Z ta pl al u) := by
  refine GM.of (by decide) rfl (Nat.le_of_ble_eq_true rfl) ?_
  intro p e s m args below meth c X hnm
  refine g_lv (lv' := [(0, .ref (al 0 0)), (1, .int (nI 15)), (2, .int (nI 1))]) [0, 1, 2] rfl ?_
  refine g_iload_n X 1 dX4_full_0 rfl rfl ?_
  refine g_callDS1 (n := 1) X [.int (nI 15)] (c_isChute ((nI 15))) gX4_full_X4_isChute rfl ⟨rfl, rfl⟩ (by decide +kernel) ⟨by decide, by decide⟩ rfl (Nat.le_of_ble_eq_true rfl) dX4_full_1 ⟨Nat.zero_le _, Nat.zero_le _⟩ _ rfl ?_
  refine g_if_ne X 10 dX4_full_4 (by decide) (bN_eq0) (fun c_1 => ?_) (fun c_1 => ?_)
  · have c_1 := Decidable.of_not_not c_1
    refine g_iload_n X 2 dX4_full_10 rfl rfl ?_
    refine g_if_eq X 23 dX4_full_11 (by decide) (n0_eq (by omega)) (fun c_2 => ?_) (fun c_2 => ?_)
    · exact absurd c_2 (by decide)
    · refine g_iload_n X 1 dX4_full_14 rfl rfl ?_
      refine g_bipush X (v := nI 15) dX4_full_15 (by decide) ?_
      refine g_icmp_ne X 23 dX4_full_17 (by decide) (nI_eq (by omega) (by omega)) (fun c_3 => ?_) (fun c_3 => ?_)
      · exact absurd c_3 (by decide)
      · refine g_bipush X (v := -13) dX4_full_20 (by decide) ?_
        exact g_iret X rfl dX4_full_22 ⟨rfl, rfl, rfl⟩
  · exact absurd (inR_nI (by decide) (by decide)) c_1

set_option maxRecDepth 100000 in
set_option maxHeartbeats 4000000 in
/-- full -/
theorem c_full_1 {l : Launch} {D : va_G} {ta : Nat → ClassId} {pl : Nat → Nat} {bs : Nat} {al : Ad} {Z : Wo} {u : St} (c0 : Nat) (h : c0 < 15) : GD l D ta pl bs yX4_full wsX4_full (rmF 1 20) [.ref (al 0 0), .int (nI c0), .int (nI 1)] al (mC Z ta pl al u) (some (.int (nI (u 18 c0)))) (mC Z ta pl al (st u 19 c0 1)) := by
  refine GM.of (by decide) rfl (Nat.le_of_ble_eq_true rfl) ?_
  intro p e s m args below meth c X hnm
  have hiX0 : ∀ w ∈ u_ws RX0 TX0 4, w ∈ wsX4_full := by decide +kernel
  have hiX4 : ∀ w ∈ u_ws RX4 TX4 13, w ∈ wsX4_full := by decide +kernel
  refine g_lv (lv' := [(0, .ref (al 0 0)), (1, .int (nI c0)), (2, .int (nI 1))]) [0, 1, 2] rfl ?_
  refine g_iload_n X 1 dX4_full_0 rfl rfl ?_
  refine g_callDS1 (n := 1) X [.int (nI c0)] (c_isChute ((nI c0))) gX4_full_X4_isChute rfl ⟨rfl, rfl⟩ (by decide +kernel) ⟨by decide, by decide⟩ rfl (Nat.le_of_ble_eq_true rfl) dX4_full_1 ⟨Nat.zero_le _, Nat.zero_le _⟩ _ rfl ?_
  refine g_if_ne X 10 dX4_full_4 (by decide) (bN_eq0) (fun c_1 => ?_) (fun c_1 => ?_)
  · have c_1 := Decidable.of_not_not c_1
    refine g_iload_n X 2 dX4_full_10 rfl rfl ?_
    refine g_if_eq X 23 dX4_full_11 (by decide) (n0_eq (by omega)) (fun c_2 => ?_) (fun c_2 => ?_)
    · exact absurd c_2 (by decide)
    · refine g_iload_n X 1 dX4_full_14 rfl rfl ?_
      refine g_bipush X (v := nI 15) dX4_full_15 (by decide) ?_
      refine g_icmp_ne X 23 dX4_full_17 (by decide) (nI_eq (by omega) (by omega)) (fun c_3 => ?_) (fun c_3 => ?_)
      · refine g_aload_n X 0 dX4_full_23 rfl rfl ?_
        refine g_get X 0 0 cx0 rfl 4 (by decide) hiX4 (by decide +kernel) rfl rfl dX4_full_24 ?_
        refine g_iload_n X 1 dX4_full_27 rfl rfl ?_
        refine g_aald2 X 5 0 cx5 c0 (by omega) (by omega) (ar5 (by omega)) dX4_full_28 ?_
        refine g_get X 6 c0 (cx6 (by omega)) rfl 2 (by decide) hiX0 (by decide +kernel) rfl rfl dX4_full_29 ?_
        refine g_istore_n X [(3, .int (nI (u 18 c0))), (0, .ref (al 0 0)), (1, .int (nI c0)), (2, .int (nI 1))] dX4_full_32 rfl (by decide) rfl ?_
        refine g_iload_n X 3 dX4_full_33 rfl rfl ?_
        refine g_if_eq X 49 dX4_full_34 (by decide) (n0_eq (by omega)) (fun c_4 => ?_) (fun c_4 => ?_)
        · exact absurd c_4 (by decide)
        · refine g_aload_n X 1 dX4_full_37 rfl rfl ?_
          refine g_get X 0 0 cx0 rfl 4 (by decide) hiX4 (by decide +kernel) rfl rfl dX4_full_38 ?_
          refine g_iload_n X 2 dX4_full_41 rfl rfl ?_
          refine g_aald2 X 5 0 cx5 c0 (by omega) (by omega) (ar5 (by omega)) dX4_full_42 ?_
          refine g_callDV0 (n := 0) X 6 c0 [] (cx6 (by omega)) rfl (c_holdShut c0 (by omega)) gX4_full_X0_holdShut rfl ⟨rfl, rfl⟩ (by decide +kernel) ⟨by decide, by decide⟩ rfl (Nat.le_of_ble_eq_true rfl) dX4_full_43 ⟨Nat.zero_le _, Nat.zero_le _⟩ _ rfl ?_
          generalize hu_5 : st u 19 c0 1 = u_5
          have k0u_5 : u_5 0 0 = u 0 0 := by rw [← hu_5]; first | rfl | exact st_nf (by omega)
          have k30u_5 : u_5 30 0 = u 30 0 := by rw [← hu_5]; first | rfl | exact st_nf (by omega)
          refine g_goto X 58 dX4_full_46 (by decide) ?_
          refine g_iload_n X 0 dX4_full_58 rfl rfl ?_
          exact g_iret X rfl dX4_full_59 ⟨rfl, rfl, by subst hu_5; rfl⟩
      · exact absurd c_3 (by omega)
  · exact absurd (inR_nI (by omega) (by decide)) c_1

set_option maxRecDepth 100000 in
set_option maxHeartbeats 4000000 in
/-- full -/
theorem c_full_0 {l : Launch} {D : va_G} {ta : Nat → ClassId} {pl : Nat → Nat} {bs : Nat} {al : Ad} {Z : Wo} {u : St} (c0 : Nat) (h : c0 < 16) : GD l D ta pl bs yX4_full wsX4_full (rmF 1 20) [.ref (al 0 0), .int (nI c0), .int (nI 0)] al (mC Z ta pl al u) (some (.int (nI (u 18 c0)))) (mC Z ta pl al (st (st u 19 c0 0) 18 c0 0)) := by
  refine GM.of (by decide) rfl (Nat.le_of_ble_eq_true rfl) ?_
  intro p e s m args below meth c X hnm
  have hiX0 : ∀ w ∈ u_ws RX0 TX0 4, w ∈ wsX4_full := by decide +kernel
  have hiX4 : ∀ w ∈ u_ws RX4 TX4 13, w ∈ wsX4_full := by decide +kernel
  refine g_lv (lv' := [(0, .ref (al 0 0)), (1, .int (nI c0)), (2, .int (nI 0))]) [0, 1, 2] rfl ?_
  refine g_iload_n X 1 dX4_full_0 rfl rfl ?_
  refine g_callDS1 (n := 1) X [.int (nI c0)] (c_isChute ((nI c0))) gX4_full_X4_isChute rfl ⟨rfl, rfl⟩ (by decide +kernel) ⟨by decide, by decide⟩ rfl (Nat.le_of_ble_eq_true rfl) dX4_full_1 ⟨Nat.zero_le _, Nat.zero_le _⟩ _ rfl ?_
  refine g_if_ne X 10 dX4_full_4 (by decide) (bN_eq0) (fun c_1 => ?_) (fun c_1 => ?_)
  · have c_1 := Decidable.of_not_not c_1
    refine g_iload_n X 2 dX4_full_10 rfl rfl ?_
    refine g_if_eq X 23 dX4_full_11 (by decide) (n0_eq (by omega)) (fun c_2 => ?_) (fun c_2 => ?_)
    · refine g_aload_n X 0 dX4_full_23 rfl rfl ?_
      refine g_get X 0 0 cx0 rfl 4 (by decide) hiX4 (by decide +kernel) rfl rfl dX4_full_24 ?_
      refine g_iload_n X 1 dX4_full_27 rfl rfl ?_
      refine g_aald2 X 5 0 cx5 c0 (by omega) (by omega) (ar5 (by omega)) dX4_full_28 ?_
      refine g_get X 6 c0 (cx6 (by omega)) rfl 2 (by decide) hiX0 (by decide +kernel) rfl rfl dX4_full_29 ?_
      refine g_istore_n X [(3, .int (nI (u 18 c0))), (0, .ref (al 0 0)), (1, .int (nI c0)), (2, .int (nI 0))] dX4_full_32 rfl (by decide) rfl ?_
      refine g_iload_n X 3 dX4_full_33 rfl rfl ?_
      refine g_if_eq X 49 dX4_full_34 (by decide) (n0_eq (by omega)) (fun c_3 => ?_) (fun c_3 => ?_)
      · refine g_aload_n X 1 dX4_full_49 rfl rfl ?_
        refine g_get X 0 0 cx0 rfl 4 (by decide) hiX4 (by decide +kernel) rfl rfl dX4_full_50 ?_
        refine g_iload_n X 2 dX4_full_53 rfl rfl ?_
        refine g_aald2 X 5 0 cx5 c0 (by omega) (by omega) (ar5 (by omega)) dX4_full_54 ?_
        refine g_callDV0 (n := 0) X 6 c0 [] (cx6 (by omega)) rfl (c_empty c0 (by omega)) gX4_full_X0_empty rfl ⟨rfl, rfl⟩ (by decide +kernel) ⟨by decide, by decide⟩ rfl (Nat.le_of_ble_eq_true rfl) dX4_full_55 ⟨Nat.zero_le _, Nat.zero_le _⟩ _ rfl ?_
        generalize hu_4 : st (st u 19 c0 0) 18 c0 0 = u_4
        have k0u_4 : u_4 0 0 = u 0 0 := by rw [← hu_4]; first | rfl | exact st_nf (by omega)
        have k30u_4 : u_4 30 0 = u 30 0 := by rw [← hu_4]; first | rfl | exact st_nf (by omega)
        refine g_iload_n X 0 dX4_full_58 rfl rfl ?_
        exact g_iret X rfl dX4_full_59 ⟨rfl, rfl, by subst hu_4; rfl⟩
      · exact absurd c_3 (by decide)
    · exact absurd c_2 (by decide)
  · exact absurd (inR_nI (by omega) (by decide)) c_1

set_option maxRecDepth 100000 in
set_option maxHeartbeats 4000000 in
/-- found -/
theorem c_found_u {l : Launch} {D : va_G} {ta : Nat → ClassId} {pl : Nat → Nat} {bs : Nat} {al : Ad} {Z : Wo} {u : St} (x y : Int32) (h : x < nI 1 ∨ ¬ x ≤ nI (u 2 0)) : GD l D ta pl bs yX4_found wsX4_found (rmF 1 21) [.ref (al 0 0), .int x, .int y] al (mC Z ta pl al u) (some (.int (-11))) (mC Z ta pl al u) := by
  refine GM.of (by decide) rfl (Nat.le_of_ble_eq_true rfl) ?_
  intro p e s m args below meth c X hnm
  refine g_lv (lv' := [(0, .ref (al 0 0)), (1, .int x), (2, .int y)]) [0, 1, 2] rfl ?_
  refine g_aload_n X 0 dX4_found_0 rfl rfl ?_
  refine g_iload_n X 1 dX4_found_1 rfl rfl ?_
  refine g_callDV1 (n := 1) X 0 0 [.int x] cx0 rfl (c_itemNumbered_0 x h) gX4_found_X4_itemNumbered rfl ⟨rfl, rfl⟩ (by decide +kernel) ⟨by decide, by decide⟩ rfl (Nat.le_of_ble_eq_true rfl) dX4_found_2 ⟨Nat.zero_le _, Nat.zero_le _⟩ _ rfl ?_
  refine g_astore_nN X [(3, .null), (0, .ref (al 0 0)), (1, .int x), (2, .int y)] dX4_found_5 rfl (by decide) rfl ?_
  refine g_aload_nN X 0 dX4_found_6 rfl rfl ?_
  refine g_ifnonnull_n X dX4_found_7 ?_
  refine g_bipush X (v := -11) dX4_found_10 (by decide) ?_
  exact g_iret X rfl dX4_found_12 ⟨rfl, rfl, rfl⟩

set_option maxRecDepth 100000 in
set_option maxHeartbeats 4000000 in
/-- found -/
theorem c_found_s {l : Launch} {D : va_G} {ta : Nat → ClassId} {pl : Nat → Nat} {bs : Nat} {al : Ad} {Z : Wo} {u : St} (i : Nat) (y : Int32) (hI : Iv u)(hi1 : 1 ≤ i) (hi2 : i ≤ u 2 0)(hp : u 23 i ≠ 2) : GD l D ta pl bs yX4_found wsX4_found (rmF 1 21) [.ref (al 0 0), .int (nI i), .int y] al (mC Z ta pl al u) (some (.int (-13))) (mC Z ta pl al u) := by
  refine GM.of (by decide) rfl (Nat.le_of_ble_eq_true rfl) ?_
  intro p e s m args below meth c X hnm
  have hiX2 : ∀ w ∈ u_ws RX2 TX2 8, w ∈ wsX4_found := by decide +kernel
  obtain ⟨⟨h1, h2, h7, hN, h30, h51, h52⟩, hI2, hI3, -, hI5, hI6, hI7⟩ := id hI
  obtain ⟨hp1, hp2, hp3, hp4, hp5, -⟩ := hI2 i hi1 hi2
  refine g_lv (lv' := [(0, .ref (al 0 0)), (1, .int (nI i)), (2, .int y)]) [0, 1, 2] rfl ?_
  refine g_aload_n X 0 dX4_found_0 rfl rfl ?_
  refine g_iload_n X 1 dX4_found_1 rfl rfl ?_
  refine g_callDV1 (n := 1) X 0 0 [.int (nI i)] cx0 rfl (c_itemNumbered_1 i (by omega) (by omega) (by omega) (by have := (hI6 (i - 1)).2 (by omega); omega)) gX4_found_X4_itemNumbered rfl ⟨rfl, rfl⟩ (by decide +kernel) ⟨by decide, by decide⟩ rfl (Nat.le_of_ble_eq_true rfl) dX4_found_2 ⟨Nat.zero_le _, Nat.zero_le _⟩ _ rfl ?_
  refine g_astore_n X [(3, .ref (al 9 i)), (0, .ref (al 0 0)), (1, .int (nI i)), (2, .int y)] dX4_found_5 rfl (by decide) rfl ?_
  refine g_aload_n X 0 dX4_found_6 rfl rfl ?_
  refine g_ifnonnull_r X 13 dX4_found_7 (by decide) ?_
  refine g_aload_n X 0 dX4_found_13 rfl rfl ?_
  refine g_get X 9 i (cx9 ⟨by omega, by omega⟩) rfl 3 (by decide) hiX2 (by decide +kernel) rfl rfl dX4_found_14 ?_
  refine g_place X 2 (by decide) "MISSED" rfl (by decide +kernel) dX4_found_17 ?_
  refine g_acmp_eq X 26 dX4_found_20 (by decide) (plI X.2.2.2 (by omega) (by omega)) (fun c_1 => ?_) (fun c_1 => ?_)
  · exact absurd c_1 hp
  · refine g_bipush X (v := -13) dX4_found_23 (by decide) ?_
    exact g_iret X rfl dX4_found_25 ⟨rfl, rfl, rfl⟩

set_option maxRecDepth 100000 in
set_option maxHeartbeats 4000000 in
/-- found -/
theorem c_found_0 {l : Launch} {D : va_G} {ta : Nat → ClassId} {pl : Nat → Nat} {bs : Nat} {al : Ad} {Z : Wo} {u : St} (i t : Nat) (hI : Iv u)(hi1 : 1 ≤ i) (hi2 : i ≤ u 2 0)(hp : u 23 i = 2) (ht : t < u 0 0) (ho : u 24 i ≠ t) : GD l D ta pl bs yX4_found wsX4_found (rmF 1 21) [.ref (al 0 0), .int (nI i), .int (nI t)] al (mC Z ta pl al u) (some (.int (nI 0))) (mC Z ta pl al u) := by
  refine GM.of (by decide) rfl (Nat.le_of_ble_eq_true rfl) ?_
  intro p e s m args below meth c X hnm
  have hiX2 : ∀ w ∈ u_ws RX2 TX2 8, w ∈ wsX4_found := by decide +kernel
  obtain ⟨⟨h1, h2, h7, hN, h30, h51, h52⟩, hI2, hI3, -, hI5, hI6, hI7⟩ := id hI
  obtain ⟨hp1, hp2, hp3, hp4, hp5, -⟩ := hI2 i hi1 hi2
  refine g_lv (lv' := [(0, .ref (al 0 0)), (1, .int (nI i)), (2, .int (nI t))]) [0, 1, 2] rfl ?_
  refine g_aload_n X 0 dX4_found_0 rfl rfl ?_
  refine g_iload_n X 1 dX4_found_1 rfl rfl ?_
  refine g_callDV1 (n := 1) X 0 0 [.int (nI i)] cx0 rfl (c_itemNumbered_1 i (by omega) (by omega) (by omega) (by have := (hI6 (i - 1)).2 (by omega); omega)) gX4_found_X4_itemNumbered rfl ⟨rfl, rfl⟩ (by decide +kernel) ⟨by decide, by decide⟩ rfl (Nat.le_of_ble_eq_true rfl) dX4_found_2 ⟨Nat.zero_le _, Nat.zero_le _⟩ _ rfl ?_
  refine g_astore_n X [(3, .ref (al 9 i)), (0, .ref (al 0 0)), (1, .int (nI i)), (2, .int (nI t))] dX4_found_5 rfl (by decide) rfl ?_
  refine g_aload_n X 0 dX4_found_6 rfl rfl ?_
  refine g_ifnonnull_r X 13 dX4_found_7 (by decide) ?_
  refine g_aload_n X 0 dX4_found_13 rfl rfl ?_
  refine g_get X 9 i (cx9 ⟨by omega, by omega⟩) rfl 3 (by decide) hiX2 (by decide +kernel) rfl rfl dX4_found_14 ?_
  refine g_place X 2 (by decide) "MISSED" rfl (by decide +kernel) dX4_found_17 ?_
  refine g_acmp_eq X 26 dX4_found_20 (by decide) (plI X.2.2.2 (by omega) (by omega)) (fun c_1 => ?_) (fun c_1 => ?_)
  · refine g_aload_n X 1 dX4_found_26 rfl rfl ?_
    refine g_iload_n X 3 dX4_found_27 rfl rfl ?_
    refine g_callDV1 (n := 1) X 0 0 [.int (nI t)] cx0 rfl (c_isTray ((nI t))) gX4_found_X4_isTray rfl ⟨rfl, rfl⟩ (by decide +kernel) ⟨by decide, by decide⟩ rfl (Nat.le_of_ble_eq_true rfl) dX4_found_28 ⟨Nat.zero_le _, Nat.zero_le _⟩ _ rfl ?_
    refine g_if_ne X 44 dX4_found_31 (by decide) (bN_eq0) (fun c_2 => ?_) (fun c_2 => ?_)
    · have c_2 := Decidable.of_not_not c_2
      refine g_aload_n X 0 dX4_found_44 rfl rfl ?_
      refine g_get X 9 i (cx9 ⟨by omega, by omega⟩) rfl 4 (by decide) hiX2 (by decide +kernel) rfl rfl dX4_found_45 ?_
      refine g_iload_n X 3 dX4_found_48 rfl rfl ?_
      refine g_icmp_eq X 54 dX4_found_49 (by decide) (nI_eq (by omega) (by omega)) (fun c_3 => ?_) (fun c_3 => ?_)
      · exact absurd c_3 ho
      · refine g_iconst X (v := nI 0) dX4_found_52 (by decide) ?_
        exact g_iret X rfl dX4_found_53 ⟨rfl, rfl, rfl⟩
    · exact absurd (inR_nI ht (by omega)) c_2
  · exact absurd hp c_1

set_option maxRecDepth 100000 in
set_option maxHeartbeats 4000000 in
/-- found -/
theorem c_found_1 {l : Launch} {D : va_G} {ta : Nat → ClassId} {pl : Nat → Nat} {bs : Nat} {al : Ad} {Z : Wo} {u : St} (i t : Nat) (hI : Iv u)(hi1 : 1 ≤ i) (hi2 : i ≤ u 2 0)(hp : u 23 i = 2) (ht : t < u 0 0) (ho : u 24 i = t) : GD l D ta pl bs yX4_found wsX4_found (rmF 1 21) [.ref (al 0 0), .int (nI i), .int (nI t)] al (mC Z ta pl al u) (some (.int (nI 1))) (mC Z ta pl al (st u 23 i 1)) := by
  refine GM.of (by decide) rfl (Nat.le_of_ble_eq_true rfl) ?_
  intro p e s m args below meth c X hnm
  have hiX2 : ∀ w ∈ u_ws RX2 TX2 8, w ∈ wsX4_found := by decide +kernel
  obtain ⟨⟨h1, h2, h7, hN, h30, h51, h52⟩, hI2, hI3, -, hI5, hI6, hI7⟩ := id hI
  obtain ⟨hp1, hp2, hp3, hp4, hp5, -⟩ := hI2 i hi1 hi2
  refine g_lv (lv' := [(0, .ref (al 0 0)), (1, .int (nI i)), (2, .int (nI t))]) [0, 1, 2] rfl ?_
  refine g_aload_n X 0 dX4_found_0 rfl rfl ?_
  refine g_iload_n X 1 dX4_found_1 rfl rfl ?_
  refine g_callDV1 (n := 1) X 0 0 [.int (nI i)] cx0 rfl (c_itemNumbered_1 i (by omega) (by omega) (by omega) (by have := (hI6 (i - 1)).2 (by omega); omega)) gX4_found_X4_itemNumbered rfl ⟨rfl, rfl⟩ (by decide +kernel) ⟨by decide, by decide⟩ rfl (Nat.le_of_ble_eq_true rfl) dX4_found_2 ⟨Nat.zero_le _, Nat.zero_le _⟩ _ rfl ?_
  refine g_astore_n X [(3, .ref (al 9 i)), (0, .ref (al 0 0)), (1, .int (nI i)), (2, .int (nI t))] dX4_found_5 rfl (by decide) rfl ?_
  refine g_aload_n X 0 dX4_found_6 rfl rfl ?_
  refine g_ifnonnull_r X 13 dX4_found_7 (by decide) ?_
  refine g_aload_n X 0 dX4_found_13 rfl rfl ?_
  refine g_get X 9 i (cx9 ⟨by omega, by omega⟩) rfl 3 (by decide) hiX2 (by decide +kernel) rfl rfl dX4_found_14 ?_
  refine g_place X 2 (by decide) "MISSED" rfl (by decide +kernel) dX4_found_17 ?_
  refine g_acmp_eq X 26 dX4_found_20 (by decide) (plI X.2.2.2 (by omega) (by omega)) (fun c_1 => ?_) (fun c_1 => ?_)
  · refine g_aload_n X 1 dX4_found_26 rfl rfl ?_
    refine g_iload_n X 3 dX4_found_27 rfl rfl ?_
    refine g_callDV1 (n := 1) X 0 0 [.int (nI t)] cx0 rfl (c_isTray ((nI t))) gX4_found_X4_isTray rfl ⟨rfl, rfl⟩ (by decide +kernel) ⟨by decide, by decide⟩ rfl (Nat.le_of_ble_eq_true rfl) dX4_found_28 ⟨Nat.zero_le _, Nat.zero_le _⟩ _ rfl ?_
    refine g_if_ne X 44 dX4_found_31 (by decide) (bN_eq0) (fun c_2 => ?_) (fun c_2 => ?_)
    · have c_2 := Decidable.of_not_not c_2
      refine g_aload_n X 0 dX4_found_44 rfl rfl ?_
      refine g_get X 9 i (cx9 ⟨by omega, by omega⟩) rfl 4 (by decide) hiX2 (by decide +kernel) rfl rfl dX4_found_45 ?_
      refine g_iload_n X 3 dX4_found_48 rfl rfl ?_
      refine g_icmp_eq X 54 dX4_found_49 (by decide) (nI_eq (by omega) (by omega)) (fun c_3 => ?_) (fun c_3 => ?_)
      · refine g_aload_n X 0 dX4_found_54 rfl rfl ?_
        refine g_place X 1 (by decide) "CARRIED" rfl (by decide +kernel) dX4_found_55 ?_
        refine g_put X tyX2 tyX2_ok nmX2 9 i (cx9 ⟨by omega, by omega⟩) rfl 3 (by decide) hiX2 (by decide +kernel) rfl rfl (ty := .object "LoopSorter$Place") (by decide +kernel) rfl rfl (Nat.le_of_ble_eq_true rfl) _ (up_place ⟨by omega, by omega⟩) dX4_found_58 ?_
        generalize hu_4 : st u 23 i 1 = u_4
        have k0u_4 : u_4 0 0 = u 0 0 := by rw [← hu_4]; first | rfl | exact st_nf (by omega)
        have k30u_4 : u_4 30 0 = u 30 0 := by rw [← hu_4]; first | rfl | exact st_nf (by omega)
        refine g_iconst X (v := nI 1) dX4_found_61 (by decide) ?_
        exact g_iret X rfl dX4_found_62 ⟨rfl, rfl, by subst hu_4; rfl⟩
      · exact absurd ho c_3
    · exact absurd (inR_nI ht (by omega)) c_2
  · exact absurd hp c_1

set_option maxRecDepth 100000 in
set_option maxHeartbeats 4000000 in
/-- tray -/
theorem c_tray_1 {l : Launch} {D : va_G} {ta : Nat → ClassId} {pl : Nat → Nat} {bs : Nat} {al : Ad} {Z : Wo} {u : St} (t : Nat) (hI : Iv u)(ht : t < u 0 0) : GD l D ta pl bs yX4_tray wsX4_tray (rmF 2 42) [.ref (al 0 0), .int (nI t)] al (mC Z ta pl al u) (some (.int (nI (u 8 t)))) (mC Z ta pl al u) := by
  refine GM.of (by decide) rfl (Nat.le_of_ble_eq_true rfl) ?_
  intro p e s m args below meth c X hnm
  have hiX2 : ∀ w ∈ u_ws RX2 TX2 8, w ∈ wsX4_tray := by decide +kernel
  obtain ⟨⟨h1, h2, h7, hN, h30, h51, h52⟩, hI2, hI3, -, hI5, hI6, hI7⟩ := id hI
  have ht3 := (hI3 t).1
  refine g_lv (lv' := [(0, .ref (al 0 0)), (1, .int (nI t))]) [0, 1] rfl ?_
  refine g_aload_n X 0 dX4_tray_0 rfl rfl ?_
  refine g_iload_n X 1 dX4_tray_1 rfl rfl ?_
  refine g_callDV1 (n := 1) X 0 0 [.int (nI t)] cx0 rfl (c_isTray ((nI t))) gX4_tray_X4_isTray rfl ⟨rfl, rfl⟩ (by decide +kernel) ⟨by decide, by decide⟩ rfl (Nat.le_of_ble_eq_true rfl) dX4_tray_2 ⟨Nat.zero_le _, Nat.zero_le _⟩ _ rfl ?_
  refine g_if_ne X 18 dX4_tray_5 (by decide) (bN_eq0) (fun c_1 => ?_) (fun c_1 => ?_)
  · have c_1 := Decidable.of_not_not c_1
    refine g_aload_n X 0 dX4_tray_18 rfl rfl ?_
    refine g_iload_n X 1 dX4_tray_19 rfl rfl ?_
    by_cases b_2 : u 8 t = 0
    · skip
      refine g_callDV1 (n := 1) X 0 0 [.int (nI t)] cx0 rfl (c_itemOn_0 t (by omega) (by omega) b_2) gX4_tray_X4_itemOn rfl ⟨rfl, rfl⟩ (by decide +kernel) ⟨by decide, by decide⟩ rfl (Nat.le_of_ble_eq_true rfl) dX4_tray_20 ⟨Nat.zero_le _, Nat.zero_le _⟩ _ rfl ?_
      refine g_astore_nN X [(2, .null), (0, .ref (al 0 0)), (1, .int (nI t))] dX4_tray_23 rfl (by decide) rfl ?_
      refine g_aload_nN X 0 dX4_tray_24 rfl rfl ?_
      refine g_ifnonnull_n X dX4_tray_25 ?_
      refine g_iconst X (v := nI 0) dX4_tray_28 (by decide) ?_
      refine g_goto X 36 dX4_tray_29 (by decide) ?_
      exact g_iret X rfl dX4_tray_36 ⟨by rw [b_2], rfl, rfl⟩
    · skip
      refine g_callDV1 (n := 1) X 0 0 [.int (nI t)] cx0 rfl (c_itemOn_1 t (by omega) (by omega) b_2) gX4_tray_X4_itemOn rfl ⟨rfl, rfl⟩ (by decide +kernel) ⟨by decide, by decide⟩ rfl (Nat.le_of_ble_eq_true rfl) dX4_tray_20 ⟨Nat.zero_le _, Nat.zero_le _⟩ _ rfl ?_
      refine g_astore_n X [(2, .ref (al 9 (u 8 t))), (0, .ref (al 0 0)), (1, .int (nI t))] dX4_tray_23 rfl (by decide) rfl ?_
      refine g_aload_n X 0 dX4_tray_24 rfl rfl ?_
      refine g_ifnonnull_r X 32 dX4_tray_25 (by decide) ?_
      refine g_aload_n X 0 dX4_tray_32 rfl rfl ?_
      refine g_get X 9 (u 8 t) (cx9 ⟨by omega, by omega⟩) rfl 0 (by decide) hiX2 (by decide +kernel) rfl rfl dX4_tray_33 ?_
      exact g_iret X rfl dX4_tray_36 ⟨rfl, rfl, rfl⟩
  · exact absurd (inR_nI ht (by omega)) c_1

set_option maxRecDepth 100000 in
set_option maxHeartbeats 4000000 in
/-- induct -/
theorem c_induct_u {l : Launch} {D : va_G} {ta : Nat → ClassId} {pl : Nat → Nat} {bs : Nat} {al : Ad} {Z : Wo} {u : St} (x y z : Int32) (h : ¬ (inR x 4 ∧ inR z 16)) : GD l D ta pl bs yX4_induct wsX4_induct (rmF 1 20) [.ref (al 0 0), .int x, .int y, .int z] al (mC Z ta pl al u) (some (.int (-11))) (mC Z ta pl al u) := by
  refine GM.of (by decide) rfl (Nat.le_of_ble_eq_true rfl) ?_
  intro p e s m args below meth c X hnm
  refine g_lv (lv' := [(0, .ref (al 0 0)), (1, .int x), (2, .int y), (3, .int z)]) [0, 1, 2, 3] rfl ?_
  refine g_iload_n X 1 dX4_induct_0 rfl rfl ?_
  refine g_callDS1 (n := 1) X [.int x] (c_isInduct x) gX4_induct_X4_isInduct rfl ⟨rfl, rfl⟩ (by decide +kernel) ⟨by decide, by decide⟩ rfl (Nat.le_of_ble_eq_true rfl) dX4_induct_1 ⟨Nat.zero_le _, Nat.zero_le _⟩ _ rfl ?_
  refine g_if_eq X 14 dX4_induct_4 (by decide) (bN_eq0) (fun c_1 => ?_) (fun c_1 => ?_)
  · refine g_bipush X (v := -11) dX4_induct_14 (by decide) ?_
    exact g_iret X rfl dX4_induct_16 ⟨rfl, rfl, rfl⟩
  · have c_1 := Decidable.of_not_not c_1
    refine g_iload_n X 3 dX4_induct_7 rfl rfl ?_
    refine g_callDS1 (n := 1) X [.int z] (c_isChute z) gX4_induct_X4_isChute rfl ⟨rfl, rfl⟩ (by decide +kernel) ⟨by decide, by decide⟩ rfl (Nat.le_of_ble_eq_true rfl) dX4_induct_8 ⟨Nat.zero_le _, Nat.zero_le _⟩ _ rfl ?_
    refine g_if_ne X 17 dX4_induct_11 (by decide) (bN_eq0) (fun c_2 => ?_) (fun c_2 => ?_)
    · have c_2 := Decidable.of_not_not c_2
      exact absurd ⟨c_1, c_2⟩ h
    · refine g_bipush X (v := -11) dX4_induct_14 (by decide) ?_
      exact g_iret X rfl dX4_induct_16 ⟨rfl, rfl, rfl⟩

set_option maxRecDepth 100000 in
set_option maxHeartbeats 4000000 in
/-- induct -/
theorem c_induct_o {l : Launch} {D : va_G} {ta : Nat → ClassId} {pl : Nat → Nat} {bs : Nat} {al : Ad} {Z : Wo} {u : St} (x y z : Int32) (h : inR x 4 ∧ inR z 16) (hy : y < nI 1 ∨ ¬ y ≤ nI 2) : GD l D ta pl bs yX4_induct wsX4_induct (rmF 1 20) [.ref (al 0 0), .int x, .int y, .int z] al (mC Z ta pl al u) (some (.int (-12))) (mC Z ta pl al u) := by
  refine GM.of (by decide) rfl (Nat.le_of_ble_eq_true rfl) ?_
  intro p e s m args below meth c X hnm
  refine g_lv (lv' := [(0, .ref (al 0 0)), (1, .int x), (2, .int y), (3, .int z)]) [0, 1, 2, 3] rfl ?_
  refine g_iload_n X 1 dX4_induct_0 rfl rfl ?_
  refine g_callDS1 (n := 1) X [.int x] (c_isInduct x) gX4_induct_X4_isInduct rfl ⟨rfl, rfl⟩ (by decide +kernel) ⟨by decide, by decide⟩ rfl (Nat.le_of_ble_eq_true rfl) dX4_induct_1 ⟨Nat.zero_le _, Nat.zero_le _⟩ _ rfl ?_
  refine g_if_eq X 14 dX4_induct_4 (by decide) (bN_eq0) (fun c_1 => ?_) (fun c_1 => ?_)
  · exact absurd h.1 c_1
  · have c_1 := Decidable.of_not_not c_1
    refine g_iload_n X 3 dX4_induct_7 rfl rfl ?_
    refine g_callDS1 (n := 1) X [.int z] (c_isChute z) gX4_induct_X4_isChute rfl ⟨rfl, rfl⟩ (by decide +kernel) ⟨by decide, by decide⟩ rfl (Nat.le_of_ble_eq_true rfl) dX4_induct_8 ⟨Nat.zero_le _, Nat.zero_le _⟩ _ rfl ?_
    refine g_if_ne X 17 dX4_induct_11 (by decide) (bN_eq0) (fun c_2 => ?_) (fun c_2 => ?_)
    · have c_2 := Decidable.of_not_not c_2
      refine g_iload_n X 2 dX4_induct_17 rfl rfl ?_
      refine g_iconst X (v := nI 1) dX4_induct_18 (by decide) ?_
      refine g_icmp_lt X 27 dX4_induct_19 (by decide) (Iff.rfl) (fun c_3 => ?_) (fun c_3 => ?_)
      · refine g_bipush X (v := -12) dX4_induct_27 (by decide) ?_
        exact g_iret X rfl dX4_induct_29 ⟨rfl, rfl, rfl⟩
      · refine g_iload_n X 2 dX4_induct_22 rfl rfl ?_
        refine g_iconst X (v := nI 2) dX4_induct_23 (by decide) ?_
        refine g_icmp_le X 30 dX4_induct_24 (by decide) (Iff.rfl) (fun c_4 => ?_) (fun c_4 => ?_)
        · exact hy.elim (fun q => absurd q c_3) (fun q => absurd c_4 q)
        · refine g_bipush X (v := -12) dX4_induct_27 (by decide) ?_
          exact g_iret X rfl dX4_induct_29 ⟨rfl, rfl, rfl⟩
    · exact absurd h.2 c_2

set_option maxRecDepth 100000 in
set_option maxHeartbeats 4000000 in
/-- induct -/
theorem c_induct_r {l : Launch} {D : va_G} {ta : Nat → ClassId} {pl : Nat → Nat} {bs : Nat} {al : Ad} {Z : Wo} {u : St} (x y z : Int32) (h : inR x 4 ∧ inR z 16) (hy : ¬ y < nI 1 ∧ y ≤ nI 2) (hr : 400 ≤ u 2 0) (hr2 : u 2 0 ≤ 400) : GD l D ta pl bs yX4_induct wsX4_induct (rmF 1 20) [.ref (al 0 0), .int x, .int y, .int z] al (mC Z ta pl al u) (some (.int (-14))) (mC Z ta pl al u) := by
  refine GM.of (by decide) rfl (Nat.le_of_ble_eq_true rfl) ?_
  intro p e s m args below meth c X hnm
  have hiX4 : ∀ w ∈ u_ws RX4 TX4 13, w ∈ wsX4_induct := by decide +kernel
  refine g_lv (lv' := [(0, .ref (al 0 0)), (1, .int x), (2, .int y), (3, .int z)]) [0, 1, 2, 3] rfl ?_
  refine g_iload_n X 1 dX4_induct_0 rfl rfl ?_
  refine g_callDS1 (n := 1) X [.int x] (c_isInduct x) gX4_induct_X4_isInduct rfl ⟨rfl, rfl⟩ (by decide +kernel) ⟨by decide, by decide⟩ rfl (Nat.le_of_ble_eq_true rfl) dX4_induct_1 ⟨Nat.zero_le _, Nat.zero_le _⟩ _ rfl ?_
  refine g_if_eq X 14 dX4_induct_4 (by decide) (bN_eq0) (fun c_1 => ?_) (fun c_1 => ?_)
  · exact absurd h.1 c_1
  · have c_1 := Decidable.of_not_not c_1
    refine g_iload_n X 3 dX4_induct_7 rfl rfl ?_
    refine g_callDS1 (n := 1) X [.int z] (c_isChute z) gX4_induct_X4_isChute rfl ⟨rfl, rfl⟩ (by decide +kernel) ⟨by decide, by decide⟩ rfl (Nat.le_of_ble_eq_true rfl) dX4_induct_8 ⟨Nat.zero_le _, Nat.zero_le _⟩ _ rfl ?_
    refine g_if_ne X 17 dX4_induct_11 (by decide) (bN_eq0) (fun c_2 => ?_) (fun c_2 => ?_)
    · have c_2 := Decidable.of_not_not c_2
      refine g_iload_n X 2 dX4_induct_17 rfl rfl ?_
      refine g_iconst X (v := nI 1) dX4_induct_18 (by decide) ?_
      refine g_icmp_lt X 27 dX4_induct_19 (by decide) (Iff.rfl) (fun c_3 => ?_) (fun c_3 => ?_)
      · exact absurd c_3 hy.1
      · refine g_iload_n X 2 dX4_induct_22 rfl rfl ?_
        refine g_iconst X (v := nI 2) dX4_induct_23 (by decide) ?_
        refine g_icmp_le X 30 dX4_induct_24 (by decide) (Iff.rfl) (fun c_4 => ?_) (fun c_4 => ?_)
        · refine g_aload_n X 0 dX4_induct_30 rfl rfl ?_
          refine g_get X 0 0 cx0 rfl 7 (by decide) hiX4 (by decide +kernel) rfl rfl dX4_induct_31 ?_
          refine g_sipush X (v := nI 400) dX4_induct_34 (by decide) ?_
          refine g_icmp_lt X 43 dX4_induct_37 (by decide) (nI_ltI (by omega) (by omega)) (fun c_5 => ?_) (fun c_5 => ?_)
          · exact absurd c_5 (by omega)
          · refine g_bipush X (v := -14) dX4_induct_40 (by decide) ?_
            exact g_iret X rfl dX4_induct_42 ⟨rfl, rfl, rfl⟩
        · exact absurd hy.2 c_4
    · exact absurd h.2 c_2

set_option maxRecDepth 100000 in
set_option maxHeartbeats 4000000 in
/-- induct -/
theorem c_induct_0 {l : Launch} {D : va_G} {ta : Nat → ClassId} {pl : Nat → Nat} {bs : Nat} {al : Ad} {Z : Wo} {u : St} (j : Nat) (y z : Int32) (h : inR (nI j) 4 ∧ inR z 16) (hj : j < 4) (hy : ¬ y < nI 1 ∧ y ≤ nI 2) (hr : u 2 0 < 400) (hw : u 12 (j + 1) = 8) : GD l D ta pl bs yX4_induct wsX4_induct (rmF 1 20) [.ref (al 0 0), .int (nI j), .int y, .int z] al (mC Z ta pl al u) (some (.int (nI 0))) (mC Z ta pl al u) := by
  refine GM.of (by decide) rfl (Nat.le_of_ble_eq_true rfl) ?_
  intro p e s m args below meth c X hnm
  have hiX4 : ∀ w ∈ u_ws RX4 TX4 13, w ∈ wsX4_induct := by decide +kernel
  refine g_lv (lv' := [(0, .ref (al 0 0)), (1, .int (nI j)), (2, .int y), (3, .int z)]) [0, 1, 2, 3] rfl ?_
  refine g_iload_n X 1 dX4_induct_0 rfl rfl ?_
  refine g_callDS1 (n := 1) X [.int (nI j)] (c_isInduct ((nI j))) gX4_induct_X4_isInduct rfl ⟨rfl, rfl⟩ (by decide +kernel) ⟨by decide, by decide⟩ rfl (Nat.le_of_ble_eq_true rfl) dX4_induct_1 ⟨Nat.zero_le _, Nat.zero_le _⟩ _ rfl ?_
  refine g_if_eq X 14 dX4_induct_4 (by decide) (bN_eq0) (fun c_1 => ?_) (fun c_1 => ?_)
  · exact absurd h.1 c_1
  · have c_1 := Decidable.of_not_not c_1
    refine g_iload_n X 3 dX4_induct_7 rfl rfl ?_
    refine g_callDS1 (n := 1) X [.int z] (c_isChute z) gX4_induct_X4_isChute rfl ⟨rfl, rfl⟩ (by decide +kernel) ⟨by decide, by decide⟩ rfl (Nat.le_of_ble_eq_true rfl) dX4_induct_8 ⟨Nat.zero_le _, Nat.zero_le _⟩ _ rfl ?_
    refine g_if_ne X 17 dX4_induct_11 (by decide) (bN_eq0) (fun c_2 => ?_) (fun c_2 => ?_)
    · have c_2 := Decidable.of_not_not c_2
      refine g_iload_n X 2 dX4_induct_17 rfl rfl ?_
      refine g_iconst X (v := nI 1) dX4_induct_18 (by decide) ?_
      refine g_icmp_lt X 27 dX4_induct_19 (by decide) (Iff.rfl) (fun c_3 => ?_) (fun c_3 => ?_)
      · exact absurd c_3 hy.1
      · refine g_iload_n X 2 dX4_induct_22 rfl rfl ?_
        refine g_iconst X (v := nI 2) dX4_induct_23 (by decide) ?_
        refine g_icmp_le X 30 dX4_induct_24 (by decide) (Iff.rfl) (fun c_4 => ?_) (fun c_4 => ?_)
        · refine g_aload_n X 0 dX4_induct_30 rfl rfl ?_
          refine g_get X 0 0 cx0 rfl 7 (by decide) hiX4 (by decide +kernel) rfl rfl dX4_induct_31 ?_
          refine g_sipush X (v := nI 400) dX4_induct_34 (by decide) ?_
          refine g_icmp_lt X 43 dX4_induct_37 (by decide) (nI_ltI (by omega) (by omega)) (fun c_5 => ?_) (fun c_5 => ?_)
          · refine g_aload_n X 0 dX4_induct_43 rfl rfl ?_
            refine g_get X 0 0 cx0 rfl 3 (by decide) hiX4 (by decide +kernel) rfl rfl dX4_induct_44 ?_
            refine g_iload_n X 1 dX4_induct_47 rfl rfl ?_
            refine g_aald1 X 2 0 cx2 j (by omega) (by omega) (ar2 (by omega)) dX4_induct_48 ?_
            refine g_callDV1 (n := 0) X 3 (j + 1) [] (cx3 ⟨by omega, by omega⟩) rfl (c_isRowFull (j + 1) ⟨by omega, by omega⟩ (by omega)) gX4_induct_X1_isRowFull rfl ⟨rfl, rfl⟩ (by decide +kernel) ⟨by decide, by decide⟩ rfl (Nat.le_of_ble_eq_true rfl) dX4_induct_49 ⟨Nat.zero_le _, Nat.zero_le _⟩ _ rfl ?_
            refine g_if_eq X 57 dX4_induct_52 (by decide) (bN_eq0) (fun c_6 => ?_) (fun c_6 => ?_)
            · exact absurd (by omega) c_6
            · have c_6 := Decidable.of_not_not c_6
              refine g_iconst X (v := nI 0) dX4_induct_55 (by decide) ?_
              exact g_iret X rfl dX4_induct_56 ⟨rfl, rfl, rfl⟩
          · exact absurd hr c_5
        · exact absurd hy.2 c_4
    · exact absurd h.2 c_2
