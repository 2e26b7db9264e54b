set_option maxRecDepth 100000 in
set_option maxHeartbeats 4000000 in
/-- isInduct -/
theorem c_isInduct {l : Launch} {D : va_G} {ta : Nat → ClassId} {pl : Nat → Nat} {bs : Nat} {al : Ad} {Z : Wo} {u : St} (x : Int32)  : GD l D ta pl bs yX4_isInduct wsX4_isInduct (rmF 0 0) [.int x] al (mC Z ta pl al u) (some (.int (nI (bN (inR x 4))))) (mC Z ta pl al u) := by
  refine GM.of (by decide) rfl (Nat.le_of_ble_eq_true rfl) ?_
  intro p e s m args below meth c X hnm
  refine g_lv (lv' := [(0, .int x)]) [0] rfl ?_
  refine g_iload_n X 0 dX4_isInduct_0 rfl rfl ?_
  refine g_if_lt X 13 dX4_isInduct_1 (by decide) (Iff.rfl) (fun c_1 => ?_) (fun c_1 => ?_)
  · refine g_iconst X (v := nI 0) dX4_isInduct_13 (by decide) ?_
    exact g_zret X rfl dX4_isInduct_14 (by decide) ⟨congrArg (fun n => some (Value.int (nI n))) (bN_0 (by first | omega | simp [inR, c_1])), rfl, rfl⟩
  · refine g_iload_n X 0 dX4_isInduct_4 rfl rfl ?_
    refine g_iconst X (v := nI 4) dX4_isInduct_5 (by decide) ?_
    refine g_icmp_ge X 13 dX4_isInduct_6 (by decide) (Iff.rfl) (fun c_2 => ?_) (fun c_2 => ?_)
    · refine g_iconst X (v := nI 0) dX4_isInduct_13 (by decide) ?_
      exact g_zret X rfl dX4_isInduct_14 (by decide) ⟨congrArg (fun n => some (Value.int (nI n))) (bN_0 (by first | omega | simp [inR, c_1, c_2])), rfl, rfl⟩
    · refine g_iconst X (v := nI 1) dX4_isInduct_9 (by decide) ?_
      refine g_goto X 14 dX4_isInduct_10 (by decide) ?_
      exact g_zret X rfl dX4_isInduct_14 (by decide) ⟨congrArg (fun n => some (Value.int (nI n))) (bN_1 (by first | omega | simp [inR, c_1, c_2])), rfl, rfl⟩

set_option maxRecDepth 100000 in
set_option maxHeartbeats 4000000 in
/-- isChute -/
theorem c_isChute {l : Launch} {D : va_G} {ta : Nat → ClassId} {pl : Nat → Nat} {bs : Nat} {al : Ad} {Z : Wo} {u : St} (x : Int32)  : GD l D ta pl bs yX4_isChute wsX4_isChute (rmF 0 0) [.int x] al (mC Z ta pl al u) (some (.int (nI (bN (inR x 16))))) (mC Z ta pl al u) := by
  refine GM.of (by decide) rfl (Nat.le_of_ble_eq_true rfl) ?_
  intro p e s m args below meth c X hnm
  refine g_lv (lv' := [(0, .int x)]) [0] rfl ?_
  refine g_iload_n X 0 dX4_isChute_0 rfl rfl ?_
  refine g_if_lt X 14 dX4_isChute_1 (by decide) (Iff.rfl) (fun c_1 => ?_) (fun c_1 => ?_)
  · refine g_iconst X (v := nI 0) dX4_isChute_14 (by decide) ?_
    exact g_zret X rfl dX4_isChute_15 (by decide) ⟨congrArg (fun n => some (Value.int (nI n))) (bN_0 (by first | omega | simp [inR, c_1])), rfl, rfl⟩
  · refine g_iload_n X 0 dX4_isChute_4 rfl rfl ?_
    refine g_bipush X (v := nI 16) dX4_isChute_5 (by decide) ?_
    refine g_icmp_ge X 14 dX4_isChute_7 (by decide) (Iff.rfl) (fun c_2 => ?_) (fun c_2 => ?_)
    · refine g_iconst X (v := nI 0) dX4_isChute_14 (by decide) ?_
      exact g_zret X rfl dX4_isChute_15 (by decide) ⟨congrArg (fun n => some (Value.int (nI n))) (bN_0 (by first | omega | simp [inR, c_1, c_2])), rfl, rfl⟩
    · refine g_iconst X (v := nI 1) dX4_isChute_10 (by decide) ?_
      refine g_goto X 15 dX4_isChute_11 (by decide) ?_
      exact g_zret X rfl dX4_isChute_15 (by decide) ⟨congrArg (fun n => some (Value.int (nI n))) (bN_1 (by first | omega | simp [inR, c_1, c_2])), rfl, rfl⟩

set_option maxRecDepth 100000 in
set_option maxHeartbeats 4000000 in
/-- isTray -/
theorem c_isTray {l : Launch} {D : va_G} {ta : Nat → ClassId} {pl : Nat → Nat} {bs : Nat} {al : Ad} {Z : Wo} {u : St} (x : Int32)  : GD l D ta pl bs yX4_isTray wsX4_isTray (rmF 0 0) [.ref (al 0 0), .int x] al (mC Z ta pl al u) (some (.int (nI (bN (inR x (u 0 0)))))) (mC Z ta pl al u) := by
  refine GM.of (by decide) rfl (Nat.le_of_ble_eq_true rfl) ?_
  intro p e s m args below meth c X hnm
  have hiX4 : ∀ w ∈ u_ws RX4 TX4 13, w ∈ wsX4_isTray := by decide +kernel
  refine g_lv (lv' := [(0, .ref (al 0 0)), (1, .int x)]) [0, 1] rfl ?_
  refine g_iload_n X 1 dX4_isTray_0 rfl rfl ?_
  refine g_if_lt X 16 dX4_isTray_1 (by decide) (Iff.rfl) (fun c_1 => ?_) (fun c_1 => ?_)
  · refine g_iconst X (v := nI 0) dX4_isTray_16 (by decide) ?_
    exact g_zret X rfl dX4_isTray_17 (by decide) ⟨congrArg (fun n => some (Value.int (nI n))) (bN_0 (by first | omega | simp [inR, c_1])), rfl, rfl⟩
  · refine g_iload_n X 1 dX4_isTray_4 rfl rfl ?_
    refine g_aload_n X 0 dX4_isTray_5 rfl rfl ?_
    refine g_get X 0 0 cx0 rfl 0 (by decide) hiX4 (by decide +kernel) rfl rfl dX4_isTray_6 ?_
    refine g_icmp_ge X 16 dX4_isTray_9 (by decide) (Iff.rfl) (fun c_2 => ?_) (fun c_2 => ?_)
    · refine g_iconst X (v := nI 0) dX4_isTray_16 (by decide) ?_
      exact g_zret X rfl dX4_isTray_17 (by decide) ⟨congrArg (fun n => some (Value.int (nI n))) (bN_0 (by first | omega | simp [inR, c_1, c_2])), rfl, rfl⟩
    · refine g_iconst X (v := nI 1) dX4_isTray_12 (by decide) ?_
      refine g_goto X 17 dX4_isTray_13 (by decide) ?_
      exact g_zret X rfl dX4_isTray_17 (by decide) ⟨congrArg (fun n => some (Value.int (nI n))) (bN_1 (by first | omega | simp [inR, c_1, c_2])), rfl, rfl⟩

set_option maxRecDepth 100000 in
set_option maxHeartbeats 4000000 in
/-- trayAt -/
theorem c_trayAt {l : Launch} {D : va_G} {ta : Nat → ClassId} {pl : Nat → Nat} {bs : Nat} {al : Ad} {Z : Wo} {u : St} (q : Nat) (h1 : 1 ≤ u 0 0) (h2 : u 0 0 ≤ 200) (h3 : u 7 0 < u 0 0) (h4 : q < u 0 0) : GD l D ta pl bs yX4_trayAt wsX4_trayAt (rmF 0 0) [.ref (al 0 0), .int (nI q)] al (mC Z ta pl al u) (some (.int (nI (tA u q)))) (mC Z ta pl al u) := by
  refine GM.of (by decide) rfl (Nat.le_of_ble_eq_true rfl) ?_
  intro p e s m args below meth c X hnm
  have hiX4 : ∀ w ∈ u_ws RX4 TX4 13, w ∈ wsX4_trayAt := by decide +kernel
  refine g_lv (lv' := [(0, .ref (al 0 0)), (1, .int (nI q))]) [0, 1] rfl ?_
  refine g_iload_n X 1 dX4_trayAt_0 rfl rfl ?_
  refine g_aload_n X 0 dX4_trayAt_1 rfl rfl ?_
  refine g_get X 0 0 cx0 rfl 12 (by decide) hiX4 (by decide +kernel) rfl rfl dX4_trayAt_2 ?_
  by_cases hq : u 7 0 ≤ q
  · refine g_isub X dX4_trayAt_5 (pk_sub (by omega)) ?_
    refine g_istore_n X [(2, .int (nI (q - (u 7 0)))), (0, .ref (al 0 0)), (1, .int (nI q))] dX4_trayAt_6 rfl (by decide) rfl ?_
    refine g_iload_n X 0 dX4_trayAt_7 rfl rfl ?_
    refine g_if_ge X 20 dX4_trayAt_8 (by decide) (n0_ge (by omega)) (fun c_1 => ?_) (fun c_1 => ?_)
    · refine g_iload_n X 0 dX4_trayAt_20 rfl rfl ?_
      exact g_iret X rfl dX4_trayAt_21 ⟨by rw [tA, if_neg (by omega)], rfl, rfl⟩
    · exact absurd trivial c_1
  · refine g_isub X dX4_trayAt_5 rfl ?_
    refine g_istore_n X [(2, .int (nI q - nI (u 7 0))), (0, .ref (al 0 0)), (1, .int (nI q))] dX4_trayAt_6 rfl (by decide) rfl ?_
    refine g_iload_n X 0 dX4_trayAt_7 rfl rfl ?_
    refine g_if_ge X 20 dX4_trayAt_8 (by decide) (Iff.rfl) (fun c_2 => ?_) (fun c_2 => ?_)
    · exact absurd c_2 (fun z => by have := pk_sneg (a := q) (b := u 7 0) (by omega) (by omega); rw [Int32.le_iff_toInt_le] at z; rw [Int32.lt_iff_toInt_lt] at this; omega)
    · refine g_iload_n X 0 dX4_trayAt_11 rfl rfl ?_
      refine g_aload_n X 1 dX4_trayAt_12 rfl rfl ?_
      refine g_get X 0 0 cx0 rfl 0 (by decide) hiX4 (by decide +kernel) rfl rfl dX4_trayAt_13 ?_
      refine g_iadd X dX4_trayAt_16 rfl ?_
      refine g_goto X 21 dX4_trayAt_17 (by decide) ?_
      exact g_iret X rfl dX4_trayAt_21 ⟨by rw [tA, if_pos (by omega), wrapT (by omega) (by omega)], rfl, rfl⟩

set_option maxRecDepth 100000 in
set_option maxHeartbeats 4000000 in
/-- trayBehind -/
theorem c_trayBehind {l : Launch} {D : va_G} {ta : Nat → ClassId} {pl : Nat → Nat} {bs : Nat} {al : Ad} {Z : Wo} {u : St} (t : Nat) (h1 : 1 ≤ u 0 0) (h2 : u 0 0 ≤ 200) (h4 : t < u 0 0) : GD l D ta pl bs yX4_trayBehind wsX4_trayBehind (rmF 0 0) [.ref (al 0 0), .int (nI t)] al (mC Z ta pl al u) (some (.int (nI (tB u t)))) (mC Z ta pl al u) := by
  refine GM.of (by decide) rfl (Nat.le_of_ble_eq_true rfl) ?_
  intro p e s m args below meth c X hnm
  have hiX4 : ∀ w ∈ u_ws RX4 TX4 13, w ∈ wsX4_trayBehind := by decide +kernel
  refine g_lv (lv' := [(0, .ref (al 0 0)), (1, .int (nI t))]) [0, 1] rfl ?_
  refine g_iload_n X 1 dX4_trayBehind_0 rfl rfl ?_
  refine g_if_le X 10 dX4_trayBehind_1 (by decide) (n0_le (by omega)) (fun c_1 => ?_) (fun c_1 => ?_)
  · refine g_aload_n X 0 dX4_trayBehind_10 rfl rfl ?_
    refine g_get X 0 0 cx0 rfl 0 (by decide) hiX4 (by decide +kernel) rfl rfl dX4_trayBehind_11 ?_
    refine g_iconst X (v := nI 1) dX4_trayBehind_14 (by decide) ?_
    refine g_isub X dX4_trayBehind_15 (pk_sub (by omega)) ?_
    exact g_iret X rfl dX4_trayBehind_16 ⟨by rw [tB, if_neg (by omega)], rfl, rfl⟩
  · refine g_iload_n X 1 dX4_trayBehind_4 rfl rfl ?_
    refine g_iconst X (v := nI 1) dX4_trayBehind_5 (by decide) ?_
    refine g_isub X dX4_trayBehind_6 (pk_sub (by omega)) ?_
    refine g_goto X 16 dX4_trayBehind_7 (by decide) ?_
    exact g_iret X rfl dX4_trayBehind_16 ⟨by rw [tB, if_pos (by omega)], rfl, rfl⟩

set_option maxRecDepth 100000 in
set_option maxHeartbeats 4000000 in
/-- hasRoom -/
theorem c_hasRoom {l : Launch} {D : va_G} {ta : Nat → ClassId} {pl : Nat → Nat} {bs : Nat} {al : Ad} {Z : Wo} {u : St} (c0 : Nat) (h1 : c0 < 16) : GD l D ta pl bs yX0_hasRoom wsX0_hasRoom (rmF 0 0) [.ref (al 6 c0)] al (mC Z ta pl al u) (some (.int (nI (bN (roomy u c0))))) (mC Z ta pl al u) := by
  refine GM.of (by decide) rfl (Nat.le_of_ble_eq_true rfl) ?_
  intro p e s m args below meth c X hnm
  have hiX0 : ∀ w ∈ u_ws RX0 TX0 4, w ∈ wsX0_hasRoom := by decide +kernel
  refine g_lv (lv' := [(0, .ref (al 6 c0))]) [0] rfl ?_
  refine g_aload_n X 0 dX0_hasRoom_0 rfl rfl ?_
  refine g_get X 6 c0 (cx6 (by omega)) rfl 1 (by decide) hiX0 (by decide +kernel) rfl rfl dX0_hasRoom_1 ?_
  refine g_if_ne X 23 dX0_hasRoom_4 (by decide) (bN_eq0) (fun c_1 => ?_) (fun c_1 => ?_)
  · have c_1 := Decidable.of_not_not c_1
    refine g_iconst X (v := nI 1) dX0_hasRoom_23 (by decide) ?_
    refine g_goto X 28 dX0_hasRoom_24 (by decide) ?_
    exact g_zret X rfl dX0_hasRoom_28 (by decide) ⟨congrArg (fun n => some (Value.int (nI n))) (bN_1 (by first | omega | simp [roomy, c_1])), rfl, rfl⟩
  · refine g_aload_n X 0 dX0_hasRoom_7 rfl rfl ?_
    refine g_get X 6 c0 (cx6 (by omega)) rfl 3 (by decide) hiX0 (by decide +kernel) rfl rfl dX0_hasRoom_8 ?_
    refine g_if_ne X 27 dX0_hasRoom_11 (by decide) (Iff.rfl) (fun c_2 => ?_) (fun c_2 => ?_)
    · refine g_iconst X (v := nI 0) dX0_hasRoom_27 (by decide) ?_
      exact g_zret X rfl dX0_hasRoom_28 (by decide) ⟨congrArg (fun n => some (Value.int (nI n))) (bN_0 (by first | omega | simp [roomy, c_1, c_2])), rfl, rfl⟩
    · refine g_aload_n X 0 dX0_hasRoom_14 rfl rfl ?_
      refine g_get X 6 c0 (cx6 (by omega)) rfl 2 (by decide) hiX0 (by decide +kernel) rfl rfl dX0_hasRoom_15 ?_
      refine g_bipush X (v := nI 10) dX0_hasRoom_18 (by decide) ?_
      refine g_icmp_ge X 27 dX0_hasRoom_20 (by decide) (Iff.rfl) (fun c_3 => ?_) (fun c_3 => ?_)
      · refine g_iconst X (v := nI 0) dX0_hasRoom_27 (by decide) ?_
        exact g_zret X rfl dX0_hasRoom_28 (by decide) ⟨congrArg (fun n => some (Value.int (nI n))) (bN_0 (by first | omega | simp [roomy, c_1, c_2, c_3])), rfl, rfl⟩
      · refine g_iconst X (v := nI 1) dX0_hasRoom_23 (by decide) ?_
        refine g_goto X 28 dX0_hasRoom_24 (by decide) ?_
        exact g_zret X rfl dX0_hasRoom_28 (by decide) ⟨congrArg (fun n => some (Value.int (nI n))) (bN_1 (by first | omega | simp [roomy, c_1, c_2, c_3])), rfl, rfl⟩

set_option maxRecDepth 100000 in
set_option maxHeartbeats 4000000 in
/-- holdShut -/
theorem c_holdShut {l : Launch} {D : va_G} {ta : Nat → ClassId} {pl : Nat → Nat} {bs : Nat} {al : Ad} {Z : Wo} {u : St} (c0 : Nat) (h1 : c0 < 16) : GD l D ta pl bs yX0_holdShut wsX0_holdShut (rmF 0 0) [.ref (al 6 c0)] al (mC Z ta pl al u) none (mC Z ta pl al (st u 19 c0 1)) := by
  refine GM.of (by decide) rfl (Nat.le_of_ble_eq_true rfl) ?_
  intro p e s m args below meth c X hnm
  have hiX0 : ∀ w ∈ u_ws RX0 TX0 4, w ∈ wsX0_holdShut := by decide +kernel
  refine g_lv (lv' := [(0, .ref (al 6 c0))]) [0] rfl ?_
  refine g_aload_n X 0 dX0_holdShut_0 rfl rfl ?_
  refine g_iconst X (v := nI 1) dX0_holdShut_1 (by decide) ?_
  refine g_put X tyX0 tyX0_ok nmX0 6 c0 (cx6 (by omega)) rfl 3 (by decide) hiX0 (by decide +kernel) rfl rfl (ty := .boolean) (by decide +kernel) (by decide) (by decide) (Nat.le_of_ble_eq_true rfl) _ (up_heldShut (by omega)) dX0_holdShut_2 ?_
  generalize hu_1 : st u 19 c0 1 = u_1
  have k0u_1 : u_1 0 0 = u 0 0 := by rw [← hu_1]; first | rfl | exact st_nf (by omega)
  have k30u_1 : u_1 30 0 = u 30 0 := by rw [← hu_1]; first | rfl | exact st_nf (by omega)
  exact g_vret X rfl dX0_holdShut_5 ⟨rfl, rfl, by subst hu_1; rfl⟩

set_option maxRecDepth 100000 in
set_option maxHeartbeats 4000000 in
/-- empty -/
theorem c_empty {l : Launch} {D : va_G} {ta : Nat → ClassId} {pl : Nat → Nat} {bs : Nat} {al : Ad} {Z : Wo} {u : St} (c0 : Nat) (h1 : c0 < 16) : GD l D ta pl bs yX0_empty wsX0_empty (rmF 0 0) [.ref (al 6 c0)] al (mC Z ta pl al u) none (mC Z ta pl al (st (st u 19 c0 0) 18 c0 0)) := by
  refine GM.of (by decide) rfl (Nat.le_of_ble_eq_true rfl) ?_
  intro p e s m args below meth c X hnm
  have hiX0 : ∀ w ∈ u_ws RX0 TX0 4, w ∈ wsX0_empty := by decide +kernel
  refine g_lv (lv' := [(0, .ref (al 6 c0))]) [0] rfl ?_
  refine g_aload_n X 0 dX0_empty_0 rfl rfl ?_
  refine g_iconst X (v := nI 0) dX0_empty_1 (by decide) ?_
  refine g_put X tyX0 tyX0_ok nmX0 6 c0 (cx6 (by omega)) rfl 3 (by decide) hiX0 (by decide +kernel) rfl rfl (ty := .boolean) (by decide +kernel) (by decide) (by decide) (Nat.le_of_ble_eq_true rfl) _ (up_heldShut (by omega)) dX0_empty_2 ?_
  generalize hu_1 : st u 19 c0 0 = u_1
  have k0u_1 : u_1 0 0 = u 0 0 := by rw [← hu_1]; first | rfl | exact st_nf (by omega)
  have k30u_1 : u_1 30 0 = u 30 0 := by rw [← hu_1]; first | rfl | exact st_nf (by omega)
  refine g_aload_n X 0 dX0_empty_5 rfl rfl ?_
  refine g_iconst X (v := nI 0) dX0_empty_6 (by decide) ?_
  refine g_put X tyX0 tyX0_ok nmX0 6 c0 (cx6 (by omega)) rfl 2 (by decide) hiX0 (by decide +kernel) rfl rfl (ty := .int) (by decide +kernel) rfl rfl (Nat.le_of_ble_eq_true rfl) _ (up_lying (by omega)) dX0_empty_7 ?_
  generalize hu_2 : st u_1 18 c0 0 = u_2
  have k0u_2 : u_2 0 0 = u_1 0 0 := by rw [← hu_2]; first | rfl | exact st_nf (by omega)
  have k30u_2 : u_2 30 0 = u_1 30 0 := by rw [← hu_2]; first | rfl | exact st_nf (by omega)
  exact g_vret X rfl dX0_empty_10 ⟨rfl, rfl, by subst hu_1; subst hu_2; rfl⟩

set_option maxRecDepth 100000 in
set_option maxHeartbeats 4000000 in
/-- isRowFull -/
theorem c_isRowFull {l : Launch} {D : va_G} {ta : Nat → ClassId} {pl : Nat → Nat} {bs : Nat} {al : Ad} {Z : Wo} {u : St} (n : Nat) (h0 : 1 ≤ n ∧ n ≤ 4) (h1 : u 12 n ≤ 8) : GD l D ta pl bs yX1_isRowFull wsX1_isRowFull (rmF 0 0) [.ref (al 3 n)] al (mC Z ta pl al u) (some (.int (nI (bN (8 ≤ u 12 n))))) (mC Z ta pl al u) := by
  refine GM.of (by decide) rfl (Nat.le_of_ble_eq_true rfl) ?_
  intro p e s m args below meth c X hnm
  have hiX1 : ∀ w ∈ u_ws RX1 TX1 5, w ∈ wsX1_isRowFull := by decide +kernel
  refine g_lv (lv' := [(0, .ref (al 3 n))]) [0] rfl ?_
  refine g_aload_n X 0 dX1_isRowFull_0 rfl rfl ?_
  refine g_get X 3 n (cx3 ⟨by omega, by omega⟩) rfl 2 (by decide) hiX1 (by decide +kernel) rfl rfl dX1_isRowFull_1 ?_
  refine g_bipush X (v := nI 8) dX1_isRowFull_4 (by decide) ?_
  refine g_icmp_lt X 13 dX1_isRowFull_6 (by decide) (nI_ltI (by omega) (by omega)) (fun c_1 => ?_) (fun c_1 => ?_)
  · refine g_iconst X (v := nI 0) dX1_isRowFull_13 (by decide) ?_
    exact g_zret X rfl dX1_isRowFull_14 (by decide) ⟨congrArg (fun n => some (Value.int (nI n))) (bN_0 (by first | omega | simp [c_1])), rfl, rfl⟩
  · refine g_iconst X (v := nI 1) dX1_isRowFull_9 (by decide) ?_
    refine g_goto X 14 dX1_isRowFull_10 (by decide) ?_
    exact g_zret X rfl dX1_isRowFull_14 (by decide) ⟨congrArg (fun n => some (Value.int (nI n))) (bN_1 (by first | omega | simp [c_1])), rfl, rfl⟩

set_option maxRecDepth 100000 in
set_option maxHeartbeats 4000000 in
/-- addLast -/
theorem c_addLast {l : Launch} {D : va_G} {ta : Nat → ClassId} {pl : Nat → Nat} {bs : Nat} {al : Ad} {Z : Wo} {u : St} (n i : Nat) (h0 : 1 ≤ n ∧ n ≤ 4) (h1 : u 12 n < 8) (h2 : 1 ≤ i ∧ i ≤ u 30 0) : GD l D ta pl bs yX1_addLast wsX1_addLast (rmF 1 20) [.ref (al 3 n), .ref (al 9 i)] al (mC Z ta pl al u) none (mC Z ta pl al (addL u n i)) := by
  refine GM.of (by decide) rfl (Nat.le_of_ble_eq_true rfl) ?_
  intro p e s m args below meth c X hnm
  have hiX1 : ∀ w ∈ u_ws RX1 TX1 5, w ∈ wsX1_addLast := by decide +kernel
  refine g_lv (lv' := [(0, .ref (al 3 n)), (1, .ref (al 9 i))]) [0, 1] rfl ?_
  refine g_aload_n X 0 dX1_addLast_0 rfl rfl ?_
  refine g_callDV1 (n := 0) X 3 n [] (cx3 ⟨by omega, by omega⟩) rfl (c_isRowFull n ⟨by omega, by omega⟩ (by omega)) gX1_addLast_X1_isRowFull rfl ⟨rfl, rfl⟩ (by decide +kernel) ⟨by decide, by decide⟩ rfl (Nat.le_of_ble_eq_true rfl) dX1_addLast_1 ⟨Nat.zero_le _, Nat.zero_le _⟩ _ rfl ?_
  refine g_if_ne X 27 dX1_addLast_4 (by decide) (bN_eq0) (fun c_1 => ?_) (fun c_1 => ?_)
  · have c_1 := Decidable.of_not_not c_1
    exact absurd c_1 (by omega)
  · refine g_aload_n X 0 dX1_addLast_7 rfl rfl ?_
    refine g_get X 3 n (cx3 ⟨by omega, by omega⟩) rfl 1 (by decide) hiX1 (by decide +kernel) rfl rfl dX1_addLast_8 ?_
    refine g_aload_n X 0 dX1_addLast_11 rfl rfl ?_
    refine g_get X 3 n (cx3 ⟨by omega, by omega⟩) rfl 2 (by decide) hiX1 (by decide +kernel) rfl rfl dX1_addLast_12 ?_
    refine g_aload_n X 1 dX1_addLast_15 rfl rfl ?_
    refine g_aast0 X 4 n 9 i (cx4 ⟨by omega, by omega⟩) (cx9 ⟨by omega, by omega⟩) (u 12 n) (by omega) (by omega) _ (upr (by omega) (up_row ⟨by omega, by omega⟩)) dX1_addLast_16 ?_
    generalize hu_2 : st u (40 + n) (u 12 n) i = u_2
    have k0u_2 : u_2 0 0 = u 0 0 := by rw [← hu_2]; first | rfl | exact st_nf (by omega)
    have k30u_2 : u_2 30 0 = u 30 0 := by rw [← hu_2]; first | rfl | exact st_nf (by omega)
    refine g_aload_n X 0 dX1_addLast_17 rfl rfl ?_
    refine g_dup X dX1_addLast_18 rfl ?_
    refine g_get X 3 n (cx3 ⟨by omega, by omega⟩) rfl 2 (by decide) hiX1 (by decide +kernel) rfl rfl dX1_addLast_19 ?_
    refine g_iconst X (v := nI 1) dX1_addLast_22 (by decide) ?_
    refine g_iadd X dX1_addLast_23 (nI_add _ _) ?_
    refine g_put X tyX1 tyX1_ok nmX1 3 n (cx3 ⟨by omega, by omega⟩) rfl 2 (by decide) hiX1 (by decide +kernel) rfl rfl (ty := .int) (by decide +kernel) rfl rfl (Nat.le_of_ble_eq_true rfl) _ (up_waiting ⟨by omega, by omega⟩) dX1_addLast_24 ?_
    generalize hu_3 : st u_2 12 n ((u_2 12 n) + 1) = u_3
    have k0u_3 : u_3 0 0 = u_2 0 0 := by rw [← hu_3]; first | rfl | exact st_nf (by omega)
    have k30u_3 : u_3 30 0 = u_2 30 0 := by rw [← hu_3]; first | rfl | exact st_nf (by omega)
    exact g_vret X rfl dX1_addLast_27 ⟨rfl, rfl, by subst hu_2; subst hu_3; rfl⟩

set_option maxRecDepth 100000 in
set_option maxHeartbeats 4000000 in
/-- first -/
theorem c_first_0 {l : Launch} {D : va_G} {ta : Nat → ClassId} {pl : Nat → Nat} {bs : Nat} {al : Ad} {Z : Wo} {u : St} (n : Nat) (h0 : 1 ≤ n ∧ n ≤ 4) (h1 : u 12 n = 0) : GD l D ta pl bs yX1_first wsX1_first (rmF 0 0) [.ref (al 3 n)] al (mC Z ta pl al u) (some (.null)) (mC Z ta pl al u) := by
  refine GM.of (by decide) rfl (Nat.le_of_ble_eq_true rfl) ?_
  intro p e s m args below meth c X hnm
  have hiX1 : ∀ w ∈ u_ws RX1 TX1 5, w ∈ wsX1_first := by decide +kernel
  refine g_lv (lv' := [(0, .ref (al 3 n))]) [0] rfl ?_
  refine g_aload_n X 0 dX1_first_0 rfl rfl ?_
  refine g_get X 3 n (cx3 ⟨by omega, by omega⟩) rfl 2 (by decide) hiX1 (by decide +kernel) rfl rfl dX1_first_1 ?_
  refine g_if_le X 16 dX1_first_4 (by decide) (n0_le (by omega)) (fun c_1 => ?_) (fun c_1 => ?_)
  · refine g_null X dX1_first_16 ?_
    exact g_aret X rfl ⟨_, rfl⟩ (Or.inl rfl) dX1_first_17 ⟨rfl, rfl, rfl⟩
  · exact absurd h1 c_1

set_option maxRecDepth 100000 in
set_option maxHeartbeats 4000000 in
/-- first -/
theorem c_first_1 {l : Launch} {D : va_G} {ta : Nat → ClassId} {pl : Nat → Nat} {bs : Nat} {al : Ad} {Z : Wo} {u : St} (n : Nat) (h0 : 1 ≤ n ∧ n ≤ 4) (h1 : 1 ≤ u 12 n) (h2 : u 12 n ≤ 8) (h3 : u (40 + n) 0 ≠ 0) : GD l D ta pl bs yX1_first wsX1_first (rmF 0 0) [.ref (al 3 n)] al (mC Z ta pl al u) (some (.ref (al 9 (u (40 + n) 0)))) (mC Z ta pl al u) := by
  refine GM.of (by decide) rfl (Nat.le_of_ble_eq_true rfl) ?_
  intro p e s m args below meth c X hnm
  have hiX1 : ∀ w ∈ u_ws RX1 TX1 5, w ∈ wsX1_first := by decide +kernel
  refine g_lv (lv' := [(0, .ref (al 3 n))]) [0] rfl ?_
  refine g_aload_n X 0 dX1_first_0 rfl rfl ?_
  refine g_get X 3 n (cx3 ⟨by omega, by omega⟩) rfl 2 (by decide) hiX1 (by decide +kernel) rfl rfl dX1_first_1 ?_
  refine g_if_le X 16 dX1_first_4 (by decide) (n0_le (by omega)) (fun c_1 => ?_) (fun c_1 => ?_)
  · exact absurd c_1 (by omega)
  · refine g_aload_n X 0 dX1_first_7 rfl rfl ?_
    refine g_get X 3 n (cx3 ⟨by omega, by omega⟩) rfl 1 (by decide) hiX1 (by decide +kernel) rfl rfl dX1_first_8 ?_
    refine g_iconst X (v := nI 0) dX1_first_11 (by decide) ?_
    have b_2 : u (40 + n) 0 ≠ 0 := h3
    refine g_aald0 X 4 n (cx4 ⟨by omega, by omega⟩) 0 (by omega) (by omega) (rI_vp b_2) dX1_first_12 ?_
    refine g_goto X 17 dX1_first_13 (by decide) ?_
    exact g_aret X rfl ⟨_, rfl⟩ (Or.inr ⟨_, rfl⟩) dX1_first_17 ⟨rfl, rfl, rfl⟩

set_option maxRecDepth 100000 in
set_option maxHeartbeats 4000000 in
/-- itemOn -/
theorem c_itemOn_0 {l : Launch} {D : va_G} {ta : Nat → ClassId} {pl : Nat → Nat} {bs : Nat} {al : Ad} {Z : Wo} {u : St} (t : Nat) (h1 : t < u 0 0) (h2 : u 0 0 ≤ 200) (hz : u 8 t = 0) : GD l D ta pl bs yX4_itemOn wsX4_itemOn (rmF 1 21) [.ref (al 0 0), .int (nI t)] al (mC Z ta pl al u) (some (.null)) (mC Z ta pl al u) := by
  refine GM.of (by decide) rfl (Nat.le_of_ble_eq_true rfl) ?_
  intro p e s m args below meth c X hnm
  have hiX4 : ∀ w ∈ u_ws RX4 TX4 13, w ∈ wsX4_itemOn := by decide +kernel
  refine g_lv (lv' := [(0, .ref (al 0 0)), (1, .int (nI t))]) [0, 1] rfl ?_
  refine g_aload_n X 0 dX4_itemOn_0 rfl rfl ?_
  refine g_iload_n X 1 dX4_itemOn_1 rfl rfl ?_
  refine g_callDV1 (n := 1) X 0 0 [.int (nI t)] cx0 rfl (c_isTray ((nI t))) gX4_itemOn_X4_isTray rfl ⟨rfl, rfl⟩ (by decide +kernel) ⟨by decide, by decide⟩ rfl (Nat.le_of_ble_eq_true rfl) dX4_itemOn_2 ⟨Nat.zero_le _, Nat.zero_le _⟩ _ rfl ?_
  refine g_if_eq X 17 dX4_itemOn_5 (by decide) (bN_eq0) (fun c_1 => ?_) (fun c_1 => ?_)
  · exact absurd (inR_nI h1 (by omega)) c_1
  · have c_1 := Decidable.of_not_not c_1
    refine g_aload_n X 0 dX4_itemOn_8 rfl rfl ?_
    refine g_get X 0 0 cx0 rfl 2 (by decide) hiX4 (by decide +kernel) rfl rfl dX4_itemOn_9 ?_
    refine g_iload_n X 1 dX4_itemOn_12 rfl rfl ?_
    by_cases b_2 : u 8 t = 0
    · refine g_aald0 X 1 0 cx1 t (by omega) (by omega) (rI_v0 b_2) dX4_itemOn_13 ?_
      refine g_goto X 18 dX4_itemOn_14 (by decide) ?_
      exact g_aret X rfl ⟨_, rfl⟩ (Or.inl rfl) dX4_itemOn_18 ⟨rfl, rfl, rfl⟩
    · refine g_aald0 X 1 0 cx1 t (by omega) (by omega) (rI_vp b_2) dX4_itemOn_13 ?_
      exact absurd hz b_2

set_option maxRecDepth 100000 in
set_option maxHeartbeats 4000000 in
/-- itemOn -/
theorem c_itemOn_1 {l : Launch} {D : va_G} {ta : Nat → ClassId} {pl : Nat → Nat} {bs : Nat} {al : Ad} {Z : Wo} {u : St} (t : Nat) (h1 : t < u 0 0) (h2 : u 0 0 ≤ 200) (hz : ¬ u 8 t = 0) : GD l D ta pl bs yX4_itemOn wsX4_itemOn (rmF 1 21) [.ref (al 0 0), .int (nI t)] al (mC Z ta pl al u) (some (.ref (al 9 (u 8 t)))) (mC Z ta pl al u) := by
  refine GM.of (by decide) rfl (Nat.le_of_ble_eq_true rfl) ?_
  intro p e s m args below meth c X hnm
  have hiX4 : ∀ w ∈ u_ws RX4 TX4 13, w ∈ wsX4_itemOn := by decide +kernel
  refine g_lv (lv' := [(0, .ref (al 0 0)), (1, .int (nI t))]) [0, 1] rfl ?_
  refine g_aload_n X 0 dX4_itemOn_0 rfl rfl ?_
  refine g_iload_n X 1 dX4_itemOn_1 rfl rfl ?_
  refine g_callDV1 (n := 1) X 0 0 [.int (nI t)] cx0 rfl (c_isTray ((nI t))) gX4_itemOn_X4_isTray rfl ⟨rfl, rfl⟩ (by decide +kernel) ⟨by decide, by decide⟩ rfl (Nat.le_of_ble_eq_true rfl) dX4_itemOn_2 ⟨Nat.zero_le _, Nat.zero_le _⟩ _ rfl ?_
  refine g_if_eq X 17 dX4_itemOn_5 (by decide) (bN_eq0) (fun c_1 => ?_) (fun c_1 => ?_)
  · exact absurd (inR_nI h1 (by omega)) c_1
  · have c_1 := Decidable.of_not_not c_1
    refine g_aload_n X 0 dX4_itemOn_8 rfl rfl ?_
    refine g_get X 0 0 cx0 rfl 2 (by decide) hiX4 (by decide +kernel) rfl rfl dX4_itemOn_9 ?_
    refine g_iload_n X 1 dX4_itemOn_12 rfl rfl ?_
    have b_2 : u 8 t ≠ 0 := hz
    refine g_aald0 X 1 0 cx1 t (by omega) (by omega) (rI_vp b_2) dX4_itemOn_13 ?_
    refine g_goto X 18 dX4_itemOn_14 (by decide) ?_
    exact g_aret X rfl ⟨_, rfl⟩ (Or.inr ⟨_, rfl⟩) dX4_itemOn_18 ⟨rfl, rfl, rfl⟩

set_option maxRecDepth 100000 in
set_option maxHeartbeats 4000000 in
/-- setTray -/
theorem c_setTray_0 {l : Launch} {D : va_G} {ta : Nat → ClassId} {pl : Nat → Nat} {bs : Nat} {al : Ad} {Z : Wo} {u : St} (t : Nat) (h1 : t < u 0 0) (h2 : u 0 0 ≤ 200) : GD l D ta pl bs yX4_setTray wsX4_setTray (rmF 0 0) [.ref (al 0 0), .int (nI t), .null] al (mC Z ta pl al u) none (mC Z ta pl al (st u 8 t 0)) := by
  refine GM.of (by decide) rfl (Nat.le_of_ble_eq_true rfl) ?_
  intro p e s m args below meth c X hnm
  have hiX4 : ∀ w ∈ u_ws RX4 TX4 13, w ∈ wsX4_setTray := by decide +kernel
  refine g_lv (lv' := [(0, .ref (al 0 0)), (1, .int (nI t)), (2, .null)]) [0, 1, 2] rfl ?_
  refine g_iload_n X 1 dX4_setTray_0 rfl rfl ?_
  refine g_if_lt X 19 dX4_setTray_1 (by decide) (n0_lt (by omega)) (fun c_1 => ?_) (fun c_1 => ?_)
  · exact absurd c_1 (fun z => z)
  · refine g_iload_n X 1 dX4_setTray_4 rfl rfl ?_
    refine g_aload_n X 0 dX4_setTray_5 rfl rfl ?_
    refine g_get X 0 0 cx0 rfl 0 (by decide) hiX4 (by decide +kernel) rfl rfl dX4_setTray_6 ?_
    refine g_icmp_ge X 19 dX4_setTray_9 (by decide) (nI_leI (by omega) (by omega)) (fun c_2 => ?_) (fun c_2 => ?_)
    · exact absurd c_2 (by omega)
    · refine g_aload_n X 0 dX4_setTray_12 rfl rfl ?_
      refine g_get X 0 0 cx0 rfl 2 (by decide) hiX4 (by decide +kernel) rfl rfl dX4_setTray_13 ?_
      refine g_iload_n X 1 dX4_setTray_16 rfl rfl ?_
      refine g_aload_nN X 2 dX4_setTray_17 rfl rfl ?_
      refine g_aastN X 1 0 cx1 t (by omega) (by omega) _ (up0 (up_carriedBy )) dX4_setTray_18 ?_
      generalize hu_3 : st u 8 t 0 = u_3
      have k0u_3 : u_3 0 0 = u 0 0 := by rw [← hu_3]; first | rfl | exact st_nf (by omega)
      have k30u_3 : u_3 30 0 = u 30 0 := by rw [← hu_3]; first | rfl | exact st_nf (by omega)
      exact g_vret X rfl dX4_setTray_19 ⟨rfl, rfl, by subst hu_3; rfl⟩

set_option maxRecDepth 100000 in
set_option maxHeartbeats 4000000 in
/-- setTray -/
theorem c_setTray_1 {l : Launch} {D : va_G} {ta : Nat → ClassId} {pl : Nat → Nat} {bs : Nat} {al : Ad} {Z : Wo} {u : St} (t i : Nat) (h1 : t < u 0 0) (h2 : u 0 0 ≤ 200) (h3 : 1 ≤ i ∧ i ≤ u 30 0) : GD l D ta pl bs yX4_setTray wsX4_setTray (rmF 0 0) [.ref (al 0 0), .int (nI t), .ref (al 9 i)] al (mC Z ta pl al u) none (mC Z ta pl al (st u 8 t i)) := by
  refine GM.of (by decide) rfl (Nat.le_of_ble_eq_true rfl) ?_
  intro p e s m args below meth c X hnm
  have hiX4 : ∀ w ∈ u_ws RX4 TX4 13, w ∈ wsX4_setTray := by decide +kernel
  refine g_lv (lv' := [(0, .ref (al 0 0)), (1, .int (nI t)), (2, .ref (al 9 i))]) [0, 1, 2] rfl ?_
  refine g_iload_n X 1 dX4_setTray_0 rfl rfl ?_
  refine g_if_lt X 19 dX4_setTray_1 (by decide) (n0_lt (by omega)) (fun c_1 => ?_) (fun c_1 => ?_)
  · exact absurd c_1 (fun z => z)
  · refine g_iload_n X 1 dX4_setTray_4 rfl rfl ?_
    refine g_aload_n X 0 dX4_setTray_5 rfl rfl ?_
    refine g_get X 0 0 cx0 rfl 0 (by decide) hiX4 (by decide +kernel) rfl rfl dX4_setTray_6 ?_
    refine g_icmp_ge X 19 dX4_setTray_9 (by decide) (nI_leI (by omega) (by omega)) (fun c_2 => ?_) (fun c_2 => ?_)
    · exact absurd c_2 (by omega)
    · refine g_aload_n X 0 dX4_setTray_12 rfl rfl ?_
      refine g_get X 0 0 cx0 rfl 2 (by decide) hiX4 (by decide +kernel) rfl rfl dX4_setTray_13 ?_
      refine g_iload_n X 1 dX4_setTray_16 rfl rfl ?_
      refine g_aload_n X 2 dX4_setTray_17 rfl rfl ?_
      refine g_aast0 X 1 0 9 i cx1 (cx9 ⟨by omega, by omega⟩) t (by omega) (by omega) _ (upr (by omega) (up_carriedBy )) dX4_setTray_18 ?_
      generalize hu_3 : st u 8 t i = u_3
      have k0u_3 : u_3 0 0 = u 0 0 := by rw [← hu_3]; first | rfl | exact st_nf (by omega)
      have k30u_3 : u_3 30 0 = u 30 0 := by rw [← hu_3]; first | rfl | exact st_nf (by omega)
      exact g_vret X rfl dX4_setTray_19 ⟨rfl, rfl, by subst hu_3; rfl⟩

set_option maxRecDepth 100000 in
set_option maxHeartbeats 4000000 in
/-- setTraysOf -/
theorem c_setTr_0 {l : Launch} {D : va_G} {ta : Nat → ClassId} {pl : Nat → Nat} {bs : Nat} {al : Ad} {Z : Wo} {u : St} (i : Nat) (h1 : 1 ≤ u 0 0) (h2 : u 0 0 ≤ 200) (h3 : 1 ≤ i ∧ i ≤ u 30 0) (h4 : u 24 i < u 0 0) : GD l D ta pl bs yX4_setTraysOf wsX4_setTraysOf (rmF 1 22) [.ref (al 0 0), .ref (al 9 i), .null] al (mC Z ta pl al u) none (mC Z ta pl al (setTr u i 0)) := by
  refine GM.of (by decide) rfl (Nat.le_of_ble_eq_true rfl) ?_
  intro p e s m args below meth c X hnm
  have hiX2 : ∀ w ∈ u_ws RX2 TX2 8, w ∈ wsX4_setTraysOf := by decide +kernel
  refine g_lv (lv' := [(0, .ref (al 0 0)), (1, .ref (al 9 i)), (2, .null)]) [0, 1, 2] rfl ?_
  refine g_aload_n X 0 dX4_setTraysOf_0 rfl rfl ?_
  refine g_aload_n X 1 dX4_setTraysOf_1 rfl rfl ?_
  refine g_get X 9 i (cx9 ⟨by omega, by omega⟩) rfl 4 (by decide) hiX2 (by decide +kernel) rfl rfl dX4_setTraysOf_2 ?_
  refine g_aload_nN X 2 dX4_setTraysOf_5 rfl rfl ?_
  refine g_callDV0 (n := 2) X 0 0 [.int (nI (u 24 i)), .null] cx0 rfl (c_setTray_0 (u 24 i) (by omega) (by omega)) gX4_setTraysOf_X4_setTray rfl ⟨rfl, rfl⟩ (by decide +kernel) ⟨by decide, by decide⟩ rfl (Nat.le_of_ble_eq_true rfl) dX4_setTraysOf_6 ⟨Nat.zero_le _, Nat.zero_le _⟩ _ rfl ?_
  generalize hu_1 : st u 8 (u 24 i) 0 = u_1
  have k0u_1 : u_1 0 0 = u 0 0 := by rw [← hu_1]; exact st_nf (by decide)
  have k30u_1 : u_1 30 0 = u 30 0 := by rw [← hu_1]; exact st_nf (by decide)
  have k24u_1 : u_1 24 i = u 24 i := by rw [← hu_1]; exact st_nf (by decide)
  refine g_aload_n X 1 dX4_setTraysOf_9 rfl rfl ?_
  refine g_get X 9 i (cx9 ⟨by omega, by omega⟩) rfl 1 (by decide) hiX2 (by decide +kernel) rfl rfl dX4_setTraysOf_10 ?_
  refine g_iconst X (v := nI 2) dX4_setTraysOf_13 (by decide) ?_
  refine g_icmp_ne X 30 dX4_setTraysOf_14 (by decide) (Iff.rfl) (fun c_2 => ?_) (fun c_2 => ?_)
  · exact g_vret X rfl dX4_setTraysOf_30 ⟨rfl, rfl, by subst hu_1; simp only [setTr, c_2, if_true, if_false]⟩
  · refine g_aload_n X 0 dX4_setTraysOf_17 rfl rfl ?_
    refine g_aload_n X 0 dX4_setTraysOf_18 rfl rfl ?_
    refine g_aload_n X 1 dX4_setTraysOf_19 rfl rfl ?_
    refine g_get X 9 i (cx9 ⟨by omega, by omega⟩) rfl 4 (by decide) hiX2 (by decide +kernel) rfl rfl dX4_setTraysOf_20 ?_
    have hq_3 : tB u_1 (u_1 24 i) < u_1 0 0 := tB_lt (by omega)
    refine g_callDV1 (n := 1) X 0 0 [.int (nI (u_1 24 i))] cx0 rfl (c_trayBehind (u_1 24 i) (by omega) (by omega) (by omega)) gX4_setTraysOf_X4_trayBehind rfl ⟨rfl, rfl⟩ (by decide +kernel) ⟨by decide, by decide⟩ rfl (Nat.le_of_ble_eq_true rfl) dX4_setTraysOf_23 ⟨Nat.zero_le _, Nat.zero_le _⟩ _ rfl ?_
    refine g_aload_nN X 2 dX4_setTraysOf_26 rfl rfl ?_
    refine g_callDV0 (n := 2) X 0 0 [.int (nI (tB u_1 (u_1 24 i))), .null] cx0 rfl (c_setTray_0 (tB u_1 (u_1 24 i)) (by omega) (by omega)) gX4_setTraysOf_X4_setTray rfl ⟨rfl, rfl⟩ (by decide +kernel) ⟨by decide, by decide⟩ rfl (Nat.le_of_ble_eq_true rfl) dX4_setTraysOf_27 ⟨Nat.zero_le _, Nat.zero_le _⟩ _ rfl ?_
    generalize hu_4 : st u_1 8 (tB u_1 (u_1 24 i)) 0 = u_4
    have k0u_4 : u_4 0 0 = u_1 0 0 := by rw [← hu_4]; exact st_nf (by decide)
    have k30u_4 : u_4 30 0 = u_1 30 0 := by rw [← hu_4]; exact st_nf (by decide)
    have k24u_4 : u_4 24 i = u_1 24 i := by rw [← hu_4]; exact st_nf (by decide)
    exact g_vret X rfl dX4_setTraysOf_30 ⟨rfl, rfl, by subst hu_1; subst hu_4; simp only [setTr, c_2, if_true, if_false]⟩

set_option maxRecDepth 100000 in
set_option maxHeartbeats 4000000 in
/-- setTraysOf -/
theorem c_setTr_1 {l : Launch} {D : va_G} {ta : Nat → ClassId} {pl : Nat → Nat} {bs : Nat} {al : Ad} {Z : Wo} {u : St} (i : Nat) (h1 : 1 ≤ u 0 0) (h2 : u 0 0 ≤ 200) (h3 : 1 ≤ i ∧ i ≤ u 30 0) (h4 : u 24 i < u 0 0) : GD l D ta pl bs yX4_setTraysOf wsX4_setTraysOf (rmF 1 22) [.ref (al 0 0), .ref (al 9 i), .ref (al 9 i)] al (mC Z ta pl al u) none (mC Z ta pl al (setTr u i i)) := by
  refine GM.of (by decide) rfl (Nat.le_of_ble_eq_true rfl) ?_
  intro p e s m args below meth c X hnm
  have hiX2 : ∀ w ∈ u_ws RX2 TX2 8, w ∈ wsX4_setTraysOf := by decide +kernel
  refine g_lv (lv' := [(0, .ref (al 0 0)), (1, .ref (al 9 i)), (2, .ref (al 9 i))]) [0, 1, 2] rfl ?_
  refine g_aload_n X 0 dX4_setTraysOf_0 rfl rfl ?_
  refine g_aload_n X 1 dX4_setTraysOf_1 rfl rfl ?_
  refine g_get X 9 i (cx9 ⟨by omega, by omega⟩) rfl 4 (by decide) hiX2 (by decide +kernel) rfl rfl dX4_setTraysOf_2 ?_
  refine g_aload_n X 2 dX4_setTraysOf_5 rfl rfl ?_
  refine g_callDV0 (n := 2) X 0 0 [.int (nI (u 24 i)), .ref (al 9 i)] cx0 rfl (c_setTray_1 (u 24 i) i (by omega) (by omega) ⟨by omega, by omega⟩) gX4_setTraysOf_X4_setTray rfl ⟨rfl, rfl⟩ (by decide +kernel) ⟨by decide, by decide⟩ rfl (Nat.le_of_ble_eq_true rfl) dX4_setTraysOf_6 ⟨Nat.zero_le _, Nat.zero_le _⟩ _ rfl ?_
  generalize hu_1 : st u 8 (u 24 i) i = u_1
  have k0u_1 : u_1 0 0 = u 0 0 := by rw [← hu_1]; exact st_nf (by decide)
  have k30u_1 : u_1 30 0 = u 30 0 := by rw [← hu_1]; exact st_nf (by decide)
  have k24u_1 : u_1 24 i = u 24 i := by rw [← hu_1]; exact st_nf (by decide)
  refine g_aload_n X 1 dX4_setTraysOf_9 rfl rfl ?_
  refine g_get X 9 i (cx9 ⟨by omega, by omega⟩) rfl 1 (by decide) hiX2 (by decide +kernel) rfl rfl dX4_setTraysOf_10 ?_
  refine g_iconst X (v := nI 2) dX4_setTraysOf_13 (by decide) ?_
  refine g_icmp_ne X 30 dX4_setTraysOf_14 (by decide) (Iff.rfl) (fun c_2 => ?_) (fun c_2 => ?_)
  · exact g_vret X rfl dX4_setTraysOf_30 ⟨rfl, rfl, by subst hu_1; simp only [setTr, c_2, if_true, if_false]⟩
  · refine g_aload_n X 0 dX4_setTraysOf_17 rfl rfl ?_
    refine g_aload_n X 0 dX4_setTraysOf_18 rfl rfl ?_
    refine g_aload_n X 1 dX4_setTraysOf_19 rfl rfl ?_
    refine g_get X 9 i (cx9 ⟨by omega, by omega⟩) rfl 4 (by decide) hiX2 (by decide +kernel) rfl rfl dX4_setTraysOf_20 ?_
    have hq_3 : tB u_1 (u_1 24 i) < u_1 0 0 := tB_lt (by omega)
    refine g_callDV1 (n := 1) X 0 0 [.int (nI (u_1 24 i))] cx0 rfl (c_trayBehind (u_1 24 i) (by omega) (by omega) (by omega)) gX4_setTraysOf_X4_trayBehind rfl ⟨rfl, rfl⟩ (by decide +kernel) ⟨by decide, by decide⟩ rfl (Nat.le_of_ble_eq_true rfl) dX4_setTraysOf_23 ⟨Nat.zero_le _, Nat.zero_le _⟩ _ rfl ?_
    refine g_aload_n X 2 dX4_setTraysOf_26 rfl rfl ?_
    refine g_callDV0 (n := 2) X 0 0 [.int (nI (tB u_1 (u_1 24 i))), .ref (al 9 i)] cx0 rfl (c_setTray_1 (tB u_1 (u_1 24 i)) i (by omega) (by omega) ⟨by omega, by omega⟩) gX4_setTraysOf_X4_setTray rfl ⟨rfl, rfl⟩ (by decide +kernel) ⟨by decide, by decide⟩ rfl (Nat.le_of_ble_eq_true rfl) dX4_setTraysOf_27 ⟨Nat.zero_le _, Nat.zero_le _⟩ _ rfl ?_
    generalize hu_4 : st u_1 8 (tB u_1 (u_1 24 i)) i = u_4
    have k0u_4 : u_4 0 0 = u_1 0 0 := by rw [← hu_4]; exact st_nf (by decide)
    have k30u_4 : u_4 30 0 = u_1 30 0 := by rw [← hu_4]; exact st_nf (by decide)
    have k24u_4 : u_4 24 i = u_1 24 i := by rw [← hu_4]; exact st_nf (by decide)
    exact g_vret X rfl dX4_setTraysOf_30 ⟨rfl, rfl, by subst hu_1; subst hu_4; simp only [setTr, c_2, if_true, if_false]⟩

set_option maxRecDepth 100000 in
set_option maxHeartbeats 4000000 in
/-- isFreeFor -/
theorem c_isFreeFor {l : Launch} {D : va_G} {ta : Nat → ClassId} {pl : Nat → Nat} {bs : Nat} {al : Ad} {Z : Wo} {u : St} (i t : Nat) (h1 : 1 ≤ u 0 0) (h2 : u 0 0 ≤ 200) (h3 : 1 ≤ i ∧ i ≤ u 30 0) (h4 : t < u 0 0) : GD l D ta pl bs yX4_isFreeFor wsX4_isFreeFor (rmF 2 42) [.ref (al 0 0), .ref (al 9 i), .int (nI t)] al (mC Z ta pl al u) (some (.int (nI (bN (freeFor u i t))))) (mC Z ta pl al u) := by
  refine GM.of (by decide) rfl (Nat.le_of_ble_eq_true rfl) ?_
  intro p e s m args below meth c X hnm
  have hiX2 : ∀ w ∈ u_ws RX2 TX2 8, w ∈ wsX4_isFreeFor := by decide +kernel
  have hiX4 : ∀ w ∈ u_ws RX4 TX4 13, w ∈ wsX4_isFreeFor := by decide +kernel
  refine g_lv (lv' := [(0, .ref (al 0 0)), (1, .ref (al 9 i)), (2, .int (nI t))]) [0, 1, 2] rfl ?_
  refine g_aload_n X 0 dX4_isFreeFor_0 rfl rfl ?_
  refine g_iload_n X 2 dX4_isFreeFor_1 rfl rfl ?_
  by_cases b_1 : u 8 t = 0
  · skip
    refine g_callDV1 (n := 1) X 0 0 [.int (nI t)] cx0 rfl (c_itemOn_0 t (by omega) (by omega) b_1) gX4_isFreeFor_X4_itemOn rfl ⟨rfl, rfl⟩ (by decide +kernel) ⟨by decide, by decide⟩ rfl (Nat.le_of_ble_eq_true rfl) dX4_isFreeFor_2 ⟨Nat.zero_le _, Nat.zero_le _⟩ _ rfl ?_
    refine g_ifnull_n X 10 dX4_isFreeFor_5 (by decide) ?_
    refine g_aload_n X 1 dX4_isFreeFor_10 rfl rfl ?_
    refine g_get X 9 i (cx9 ⟨by omega, by omega⟩) rfl 1 (by decide) hiX2 (by decide +kernel) rfl rfl dX4_isFreeFor_11 ?_
    refine g_iconst X (v := nI 2) dX4_isFreeFor_14 (by decide) ?_
    refine g_icmp_lt X 38 dX4_isFreeFor_15 (by decide) (Iff.rfl) (fun c_2 => ?_) (fun c_2 => ?_)
    · refine g_iconst X (v := nI 1) dX4_isFreeFor_38 (by decide) ?_
      refine g_goto X 43 dX4_isFreeFor_39 (by decide) ?_
      exact g_zret X rfl dX4_isFreeFor_43 (by decide) ⟨congrArg (fun n => some (Value.int (nI n))) (bN_1 (by first | omega | simp [freeFor, b_1, c_2])), rfl, rfl⟩
    · refine g_aload_n X 0 dX4_isFreeFor_18 rfl rfl ?_
      refine g_get X 0 0 cx0 rfl 0 (by decide) hiX4 (by decide +kernel) rfl rfl dX4_isFreeFor_19 ?_
      refine g_iconst X (v := nI 1) dX4_isFreeFor_22 (by decide) ?_
      refine g_icmp_le X 42 dX4_isFreeFor_23 (by decide) (Iff.rfl) (fun c_3 => ?_) (fun c_3 => ?_)
      · refine g_iconst X (v := nI 0) dX4_isFreeFor_42 (by decide) ?_
        exact g_zret X rfl dX4_isFreeFor_43 (by decide) ⟨congrArg (fun n => some (Value.int (nI n))) (bN_0 (by first | omega | simp [freeFor, b_1, c_2, c_3])), rfl, rfl⟩
      · refine g_aload_n X 0 dX4_isFreeFor_26 rfl rfl ?_
        refine g_aload_n X 0 dX4_isFreeFor_27 rfl rfl ?_
        refine g_iload_n X 2 dX4_isFreeFor_28 rfl rfl ?_
        have hq_4 : tB u t < u 0 0 := tB_lt (by omega)
        refine g_callDV1 (n := 1) X 0 0 [.int (nI t)] cx0 rfl (c_trayBehind t (by omega) (by omega) (by omega)) gX4_isFreeFor_X4_trayBehind rfl ⟨rfl, rfl⟩ (by decide +kernel) ⟨by decide, by decide⟩ rfl (Nat.le_of_ble_eq_true rfl) dX4_isFreeFor_29 ⟨Nat.zero_le _, Nat.zero_le _⟩ _ rfl ?_
        by_cases b_5 : u 8 (tB u t) = 0
        · skip
          refine g_callDV1 (n := 1) X 0 0 [.int (nI (tB u t))] cx0 rfl (c_itemOn_0 (tB u t) (by omega) (by omega) b_5) gX4_isFreeFor_X4_itemOn rfl ⟨rfl, rfl⟩ (by decide +kernel) ⟨by decide, by decide⟩ rfl (Nat.le_of_ble_eq_true rfl) dX4_isFreeFor_32 ⟨Nat.zero_le _, Nat.zero_le _⟩ _ rfl ?_
          refine g_ifnonnull_n X dX4_isFreeFor_35 ?_
          refine g_iconst X (v := nI 1) dX4_isFreeFor_38 (by decide) ?_
          refine g_goto X 43 dX4_isFreeFor_39 (by decide) ?_
          exact g_zret X rfl dX4_isFreeFor_43 (by decide) ⟨congrArg (fun n => some (Value.int (nI n))) (bN_1 (by first | omega | simp [freeFor, b_1, c_2, c_3, b_5])), rfl, rfl⟩
        · skip
          refine g_callDV1 (n := 1) X 0 0 [.int (nI (tB u t))] cx0 rfl (c_itemOn_1 (tB u t) (by omega) (by omega) b_5) gX4_isFreeFor_X4_itemOn rfl ⟨rfl, rfl⟩ (by decide +kernel) ⟨by decide, by decide⟩ rfl (Nat.le_of_ble_eq_true rfl) dX4_isFreeFor_32 ⟨Nat.zero_le _, Nat.zero_le _⟩ _ rfl ?_
          refine g_ifnonnull_r X 42 dX4_isFreeFor_35 (by decide) ?_
          refine g_iconst X (v := nI 0) dX4_isFreeFor_42 (by decide) ?_
          exact g_zret X rfl dX4_isFreeFor_43 (by decide) ⟨congrArg (fun n => some (Value.int (nI n))) (bN_0 (by first | omega | simp [freeFor, b_1, c_2, c_3, b_5])), rfl, rfl⟩
  · skip
    refine g_callDV1 (n := 1) X 0 0 [.int (nI t)] cx0 rfl (c_itemOn_1 t (by omega) (by omega) b_1) gX4_isFreeFor_X4_itemOn rfl ⟨rfl, rfl⟩ (by decide +kernel) ⟨by decide, by decide⟩ rfl (Nat.le_of_ble_eq_true rfl) dX4_isFreeFor_2 ⟨Nat.zero_le _, Nat.zero_le _⟩ _ rfl ?_
    refine g_ifnull_r X dX4_isFreeFor_5 ?_
    refine g_iconst X (v := nI 0) dX4_isFreeFor_8 (by decide) ?_
    exact g_zret X rfl dX4_isFreeFor_9 (by decide) ⟨congrArg (fun n => some (Value.int (nI n))) (bN_0 (by first | omega | simp [freeFor, b_1])), rfl, rfl⟩
