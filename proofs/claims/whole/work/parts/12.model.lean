set_option maxRecDepth 100000 in
set_option maxHeartbeats 4000000 in
/-- in -/
theorem m_in {l : Launch} {D : va_G} {ta : Nat → ClassId} {pl : Nat → Nat} {bs : Nat} {al : Ad} {Z : Wo} {u : St} (x a b : Int32)  : GD l D ta pl bs yX5_in wsX5_in (rmF 0 0) [.int x, .int a, .int b] al (mM Z ta al u) (some (.int (nI (bN (¬ x < a ∧ ¬ b < x))))) (mM Z ta al u) := by
  refine GM.of (by decide) rfl (Nat.le_of_ble_eq_true rfl) ?_
  intro p e s m args below meth c X hnm
  refine g_lv (lv' := [(0, .int x), (1, .int a), (2, .int b)]) [0, 1, 2] rfl ?_
  refine g_iload_n X 0 dX5_in_0 rfl rfl ?_
  refine g_iload_n X 1 dX5_in_1 rfl rfl ?_
  refine g_icmp_lt X 14 dX5_in_2 (by decide) (Iff.rfl) (fun c_1 => ?_) (fun c_1 => ?_)
  · refine g_iconst X (v := nI 0) dX5_in_14 (by decide) ?_
    exact g_zret X rfl dX5_in_15 (by decide) ⟨congrArg (fun n => some (Value.int (nI n))) (bN_0 (by first | omega | simp [c_1])), rfl, rfl⟩
  · refine g_iload_n X 0 dX5_in_5 rfl rfl ?_
    refine g_iload_n X 2 dX5_in_6 rfl rfl ?_
    refine g_icmp_gt X 14 dX5_in_7 (by decide) (Iff.rfl) (fun c_2 => ?_) (fun c_2 => ?_)
    · refine g_iconst X (v := nI 0) dX5_in_14 (by decide) ?_
      exact g_zret X rfl dX5_in_15 (by decide) ⟨congrArg (fun n => some (Value.int (nI n))) (bN_0 (by first | omega | simp [c_1, c_2])), rfl, rfl⟩
    · refine g_iconst X (v := nI 1) dX5_in_10 (by decide) ?_
      refine g_goto X 15 dX5_in_11 (by decide) ?_
      exact g_zret X rfl dX5_in_15 (by decide) ⟨congrArg (fun n => some (Value.int (nI n))) (bN_1 (by first | omega | simp [c_1, c_2])), rfl, rfl⟩

set_option maxRecDepth 100000 in
set_option maxHeartbeats 4000000 in
/-- the loop of waiting at 4 -/
theorem l_waiting {l : Launch} {D : va_G} {ta : Nat → ClassId} {pl : Nat → Nat} {bs : Nat} {al : Ad} {Z : Wo} {p : Program} {e : Env} {s : State} {m : MethodId} {args : Array Value} {below : List Frame} {meth : Method} {c : Code} {u : St} (X : Cx D ta pl bs 4 p s m args meth c cX5_waiting wsX5_waiting RX5 (some .int)) (k : Nat) (h5 : u 5 0 ≤ 400) : ∀ (n9 i : Nat), i ≤ u 5 0 → u 5 0 + 1 ≤ i + n9 → WW D bs 4 p l e (rmF 0 0) s m args below meth c (QQ D bs below args s 0 0 (fun r al' C' => r = some (.int (nI (mW u k (u 5 0)))) ∧ al' = al ∧ C' = mM Z ta al u)) al (mM Z ta al u) 0 0 4 [(3, .int (nI (i + 1))), (2, .int (nI (mW u k i))), (1, .int (nI k)), (0, .ref (al 10 0))] [] := by
  have hiX5 : ∀ w ∈ u_ws RX5 TX5 22, w ∈ wsX5_waiting := by decide +kernel
  intro n9
  induction n9 with
  | zero => intro i h8 h9; exact absurd h9 (by omega)
  | succ n9 ih =>
    intro i h8 h9
    refine g_iload_n X 0 dX5_waiting_4 rfl rfl ?_
    refine g_aload_n X 3 dX5_waiting_5 rfl rfl ?_
    refine g_get X 10 0 cm10 rfl 7 (by decide) hiX5 (by decide +kernel) rfl rfl dX5_waiting_6 ?_
    refine g_icmp_gt X 45 dX5_waiting_9 (by decide) (nI_ltI (by omega) (by omega)) (fun c_1 => ?_) (fun c_1 => ?_)
    · refine g_iload_n X 1 dX5_waiting_45 rfl rfl ?_
      exact g_iret X rfl dX5_waiting_46 ⟨by have e9 : i = u 5 0 := (by omega); rw [e9], rfl, rfl⟩
    · refine g_aload_n X 3 dX5_waiting_12 rfl rfl ?_
      refine g_get X 10 0 cm10 rfl 10 (by decide) hiX5 (by decide +kernel) rfl rfl dX5_waiting_13 ?_
      refine g_iload_n X 0 dX5_waiting_16 rfl rfl ?_
      refine g_iald X 15 0 cm15 (i + 1) (by omega) (by decide) rfl dX5_waiting_17 ?_
      refine g_if_ne X 37 dX5_waiting_18 (by decide) (Iff.rfl) (fun c_2 => ?_) (fun c_2 => ?_)
      · refine g_iload_n X 1 dX5_waiting_37 rfl rfl ?_
        refine g_istore_n X [(2, .int (nI (mW u k i))), (3, .int (nI (i + 1))), (1, .int (nI k)), (0, .ref (al 10 0))] dX5_waiting_38 rfl (by decide) rfl ?_
        refine g_iinc X 1 [(3, .int (nI (i + 1 + 1))), (2, .int (nI (mW u k i))), (1, .int (nI k)), (0, .ref (al 10 0))] dX5_waiting_39 rfl (nI_inc (by decide)) (by decide) rfl ?_
        refine g_goto X 4 dX5_waiting_42 (by decide) ?_
        refine g_lv [0, 1, 2, 3] rfl ?_
        have q9 := ih (i + 1) (by omega) (by omega)
        rw [show mW u k (i + 1) = mW u k i from by rw [mW, if_neg (fun z => c_2 z.1)]] at q9
        exact q9
      · refine g_aload_n X 3 dX5_waiting_21 rfl rfl ?_
        refine g_get X 10 0 cm10 rfl 13 (by decide) hiX5 (by decide +kernel) rfl rfl dX5_waiting_22 ?_
        refine g_iload_n X 0 dX5_waiting_25 rfl rfl ?_
        refine g_iald X 18 0 cm18 (i + 1) (by omega) (by decide) rfl dX5_waiting_26 ?_
        refine g_iload_n X 2 dX5_waiting_27 rfl rfl ?_
        refine g_icmp_ne X 37 dX5_waiting_28 (by decide) (Iff.rfl) (fun c_3 => ?_) (fun c_3 => ?_)
        · refine g_iload_n X 1 dX5_waiting_37 rfl rfl ?_
          refine g_istore_n X [(2, .int (nI (mW u k i))), (3, .int (nI (i + 1))), (1, .int (nI k)), (0, .ref (al 10 0))] dX5_waiting_38 rfl (by decide) rfl ?_
          refine g_iinc X 1 [(3, .int (nI (i + 1 + 1))), (2, .int (nI (mW u k i))), (1, .int (nI k)), (0, .ref (al 10 0))] dX5_waiting_39 rfl (nI_inc (by decide)) (by decide) rfl ?_
          refine g_goto X 4 dX5_waiting_42 (by decide) ?_
          refine g_lv [0, 1, 2, 3] rfl ?_
          have q9 := ih (i + 1) (by omega) (by omega)
          rw [show mW u k (i + 1) = mW u k i from by rw [mW, if_neg (fun z => c_3 z.2)]] at q9
          exact q9
        · refine g_iload_n X 1 dX5_waiting_31 rfl rfl ?_
          refine g_iconst X (v := nI 1) dX5_waiting_32 (by decide) ?_
          refine g_iadd X dX5_waiting_33 (nI_add _ _) ?_
          refine g_goto X 38 dX5_waiting_34 (by decide) ?_
          refine g_istore_n X [(2, .int (nI ((mW u k i) + 1))), (3, .int (nI (i + 1))), (1, .int (nI k)), (0, .ref (al 10 0))] dX5_waiting_38 rfl (by decide) rfl ?_
          refine g_iinc X 1 [(3, .int (nI (i + 1 + 1))), (2, .int (nI ((mW u k i) + 1))), (1, .int (nI k)), (0, .ref (al 10 0))] dX5_waiting_39 rfl (nI_inc (by decide)) (by decide) rfl ?_
          refine g_goto X 4 dX5_waiting_42 (by decide) ?_
          refine g_lv [0, 1, 2, 3] rfl ?_
          have q9 := ih (i + 1) (by omega) (by omega)
          rw [show mW u k (i + 1) = (mW u k i) + 1 from by rw [mW, if_pos ⟨c_2, c_3⟩]] at q9
          exact q9

set_option maxRecDepth 100000 in
set_option maxHeartbeats 4000000 in
/-- waiting -/
theorem m_waiting {l : Launch} {D : va_G} {ta : Nat → ClassId} {pl : Nat → Nat} {bs : Nat} {al : Ad} {Z : Wo} {u : St} (k : Nat) (h5 : u 5 0 ≤ 400) : GD l D ta pl bs yX5_waiting wsX5_waiting (rmF 0 0) [.ref (al 10 0), .int (nI k)] al (mM Z ta al u) (some (.int (nI (mW u k (u 5 0))))) (mM Z ta al u) := by
  refine GM.of (by decide) rfl (Nat.le_of_ble_eq_true rfl) ?_
  intro p e s m args below meth c X hnm
  refine g_lv (lv' := [(0, .ref (al 10 0)), (1, .int (nI k))]) [0, 1] rfl ?_
  refine g_iconst X (v := nI 0) dX5_waiting_0 (by decide) ?_
  refine g_istore_n X [(2, .int (nI 0)), (0, .ref (al 10 0)), (1, .int (nI k))] dX5_waiting_1 rfl (by decide) rfl ?_
  refine g_iconst X (v := nI 1) dX5_waiting_2 (by decide) ?_
  refine g_istore_n X [(3, .int (nI 1)), (2, .int (nI 0)), (0, .ref (al 10 0)), (1, .int (nI k))] dX5_waiting_3 rfl (by decide) rfl ?_
  refine g_lv [0, 1, 3, 2] rfl ?_
  exact l_waiting X k h5 (u 5 0 + 1) 0 (Nat.zero_le _) (by omega)

set_option maxRecDepth 100000 in
set_option maxHeartbeats 4000000 in
/-- the loop of firstWaiting at 7 -/
theorem l_firstWaiting {l : Launch} {D : va_G} {ta : Nat → ClassId} {pl : Nat → Nat} {bs : Nat} {al : Ad} {Z : Wo} {p : Program} {e : Env} {s : State} {m : MethodId} {args : Array Value} {below : List Frame} {meth : Method} {c : Code} {u : St} (X : Cx D ta pl bs 4 p s m args meth c cX5_firstWaiting wsX5_firstWaiting RX5 (some .int)) (k : Nat) (h5 : u 5 0 ≤ 400) : ∀ (n9 i : Nat), i ≤ u 5 0 → u 5 0 + 1 ≤ i + n9 → WW D bs 4 p l e (rmF 0 0) s m args below meth c (QQ D bs below args s 0 0 (fun r al' C' => r = some (.int (nI (mF u k (u 5 0)))) ∧ al' = al ∧ C' = mM Z ta al u)) al (mM Z ta al u) 0 0 7 [(3, .int (nI (u 5 0 - i))), (2, .int (nI (mF u k i))), (1, .int (nI k)), (0, .ref (al 10 0))] [] := by
  have hiX5 : ∀ w ∈ u_ws RX5 TX5 22, w ∈ wsX5_firstWaiting := by decide +kernel
  intro n9
  induction n9 with
  | zero => intro i h8 h9; exact absurd h9 (by omega)
  | succ n9 ih =>
    intro i h8 h9
    refine g_iload_n X 0 dX5_firstWaiting_7 rfl rfl ?_
    refine g_if_le X 42 dX5_firstWaiting_8 (by decide) (n0_le (by omega)) (fun c_1 => ?_) (fun c_1 => ?_)
    · refine g_iload_n X 1 dX5_firstWaiting_42 rfl rfl ?_
      exact g_iret X rfl dX5_firstWaiting_43 ⟨by have e9 : i = u 5 0 := (by omega); rw [e9], rfl, rfl⟩
    · refine g_aload_n X 3 dX5_firstWaiting_11 rfl rfl ?_
      refine g_get X 10 0 cm10 rfl 10 (by decide) hiX5 (by decide +kernel) rfl rfl dX5_firstWaiting_12 ?_
      refine g_iload_n X 0 dX5_firstWaiting_15 rfl rfl ?_
      refine g_iald X 15 0 cm15 (u 5 0 - i) (by omega) (by decide) rfl dX5_firstWaiting_16 ?_
      refine g_if_ne X 34 dX5_firstWaiting_17 (by decide) (Iff.rfl) (fun c_2 => ?_) (fun c_2 => ?_)
      · refine g_iload_n X 1 dX5_firstWaiting_34 rfl rfl ?_
        refine g_istore_n X [(2, .int (nI (mF u k i))), (3, .int (nI (u 5 0 - i))), (1, .int (nI k)), (0, .ref (al 10 0))] dX5_firstWaiting_35 rfl (by decide) rfl ?_
        refine g_iinc X 1 [(3, .int (nI (u 5 0 - i - 1))), (2, .int (nI (mF u k i))), (1, .int (nI k)), (0, .ref (al 10 0))] dX5_firstWaiting_36 rfl (nI_m1 (by omega)) (by decide) rfl ?_
        refine g_goto X 7 dX5_firstWaiting_39 (by decide) ?_
        refine g_lv [0, 1, 2, 3] rfl ?_
        have q9 := ih (i + 1) (by omega) (by omega)
        rw [show mF u k (i + 1) = mF u k i from by rw [mF, if_neg (fun z => c_2 z.1)]] at q9
        exact q9
      · refine g_aload_n X 3 dX5_firstWaiting_20 rfl rfl ?_
        refine g_get X 10 0 cm10 rfl 13 (by decide) hiX5 (by decide +kernel) rfl rfl dX5_firstWaiting_21 ?_
        refine g_iload_n X 0 dX5_firstWaiting_24 rfl rfl ?_
        refine g_iald X 18 0 cm18 (u 5 0 - i) (by omega) (by decide) rfl dX5_firstWaiting_25 ?_
        refine g_iload_n X 2 dX5_firstWaiting_26 rfl rfl ?_
        refine g_icmp_ne X 34 dX5_firstWaiting_27 (by decide) (Iff.rfl) (fun c_3 => ?_) (fun c_3 => ?_)
        · refine g_iload_n X 1 dX5_firstWaiting_34 rfl rfl ?_
          refine g_istore_n X [(2, .int (nI (mF u k i))), (3, .int (nI (u 5 0 - i))), (1, .int (nI k)), (0, .ref (al 10 0))] dX5_firstWaiting_35 rfl (by decide) rfl ?_
          refine g_iinc X 1 [(3, .int (nI (u 5 0 - i - 1))), (2, .int (nI (mF u k i))), (1, .int (nI k)), (0, .ref (al 10 0))] dX5_firstWaiting_36 rfl (nI_m1 (by omega)) (by decide) rfl ?_
          refine g_goto X 7 dX5_firstWaiting_39 (by decide) ?_
          refine g_lv [0, 1, 2, 3] rfl ?_
          have q9 := ih (i + 1) (by omega) (by omega)
          rw [show mF u k (i + 1) = mF u k i from by rw [mF, if_neg (fun z => c_3 z.2)]] at q9
          exact q9
        · refine g_iload_n X 0 dX5_firstWaiting_30 rfl rfl ?_
          refine g_goto X 35 dX5_firstWaiting_31 (by decide) ?_
          refine g_istore_n X [(2, .int (nI (u 5 0 - i))), (3, .int (nI (u 5 0 - i))), (1, .int (nI k)), (0, .ref (al 10 0))] dX5_firstWaiting_35 rfl (by decide) rfl ?_
          refine g_iinc X 1 [(3, .int (nI (u 5 0 - i - 1))), (2, .int (nI (u 5 0 - i))), (1, .int (nI k)), (0, .ref (al 10 0))] dX5_firstWaiting_36 rfl (nI_m1 (by omega)) (by decide) rfl ?_
          refine g_goto X 7 dX5_firstWaiting_39 (by decide) ?_
          refine g_lv [0, 1, 2, 3] rfl ?_
          have q9 := ih (i + 1) (by omega) (by omega)
          rw [show mF u k (i + 1) = u 5 0 - i from by rw [mF, if_pos ⟨c_2, c_3⟩]] at q9
          exact q9

set_option maxRecDepth 100000 in
set_option maxHeartbeats 4000000 in
/-- firstWaiting -/
theorem m_firstWaiting {l : Launch} {D : va_G} {ta : Nat → ClassId} {pl : Nat → Nat} {bs : Nat} {al : Ad} {Z : Wo} {u : St} (k : Nat) (h5 : u 5 0 ≤ 400) : GD l D ta pl bs yX5_firstWaiting wsX5_firstWaiting (rmF 0 0) [.ref (al 10 0), .int (nI k)] al (mM Z ta al u) (some (.int (nI (mF u k (u 5 0))))) (mM Z ta al u) := by
  refine GM.of (by decide) rfl (Nat.le_of_ble_eq_true rfl) ?_
  intro p e s m args below meth c X hnm
  have hiX5 : ∀ w ∈ u_ws RX5 TX5 22, w ∈ wsX5_firstWaiting := by decide +kernel
  refine g_lv (lv' := [(0, .ref (al 10 0)), (1, .int (nI k))]) [0, 1] rfl ?_
  refine g_iconst X (v := nI 0) dX5_firstWaiting_0 (by decide) ?_
  refine g_istore_n X [(2, .int (nI 0)), (0, .ref (al 10 0)), (1, .int (nI k))] dX5_firstWaiting_1 rfl (by decide) rfl ?_
  refine g_aload_n X 1 dX5_firstWaiting_2 rfl rfl ?_
  refine g_get X 10 0 cm10 rfl 7 (by decide) hiX5 (by decide +kernel) rfl rfl dX5_firstWaiting_3 ?_
  refine g_istore_n X [(3, .int (nI (u 5 0))), (2, .int (nI 0)), (0, .ref (al 10 0)), (1, .int (nI k))] dX5_firstWaiting_6 rfl (by decide) rfl ?_
  refine g_lv [0, 1, 3, 2] rfl ?_
  exact l_firstWaiting X k h5 (u 5 0 + 1) 0 (Nat.zero_le _) (by omega)

set_option maxRecDepth 100000 in
set_option maxHeartbeats 4000000 in
/-- the loop of move at 31 -/
theorem l_move {l : Launch} {D : va_G} {ta : Nat → ClassId} {pl : Nat → Nat} {bs : Nat} {al : Ad} {Z : Wo} {p : Program} {e : Env} {s : State} {m : MethodId} {args : Array Value} {below : List Frame} {meth : Method} {c : Code} {u : St} (X : Cx D ta pl bs 4 p s m args meth c cX5_move wsX5_move RX5 none)  (h1 : 1 ≤ u 1 0) (h2 : u 1 0 ≤ 200) : ∀ (n9 i : Nat), i ≤ u 1 0 - 1 → u 1 0 - 1 + 1 ≤ i + n9 → WW D bs 4 p l e (rmF 0 0) s m args below meth c (QQ D bs below args s 0 0 (fun r al' C' => r = none ∧ al' = al ∧ C' = mM Z ta al (mvA u))) al (mM Z ta al (mvD u i)) 0 0 31 [(3, .int (nI (u 1 0 - 1 - i))), (2, .int (nI (u 12 (u 1 0 - 1)))), (1, .int (nI (u 11 (u 1 0 - 1)))), (0, .ref (al 10 0))] [] := by
  have hiX5 : ∀ w ∈ u_ws RX5 TX5 22, w ∈ wsX5_move := by decide +kernel
  intro n9
  induction n9 with
  | zero => intro i h8 h9; exact absurd h9 (by omega)
  | succ n9 ih =>
    intro i h8 h9
    have k1 : mvD u i 1 0 = u 1 0 := mvD_k (by decide) (by decide) i
    generalize hw : mvD u i = w at *
    refine g_iload_n X 0 dX5_move_31 rfl rfl ?_
    refine g_if_le X 69 dX5_move_32 (by decide) (n0_le (by omega)) (fun c_1 => ?_) (fun c_1 => ?_)
    · refine g_aload_n X 3 dX5_move_69 rfl rfl ?_
      refine g_get X 10 0 cm10 rfl 3 (by decide) hiX5 (by decide +kernel) rfl rfl dX5_move_70 ?_
      refine g_iconst X (v := nI 0) dX5_move_73 (by decide) ?_
      refine g_iload_n X 2 dX5_move_74 rfl rfl ?_
      refine g_iast X 11 0 cm11 0 (by omega) (by decide) _ um_a11 dX5_move_75 ?_
      generalize hu_2 : st w 11 0 (u 11 (u 1 0 - 1)) = u_2
      refine g_aload_n X 3 dX5_move_76 rfl rfl ?_
      refine g_get X 10 0 cm10 rfl 4 (by decide) hiX5 (by decide +kernel) rfl rfl dX5_move_77 ?_
      refine g_iconst X (v := nI 0) dX5_move_80 (by decide) ?_
      refine g_iload_n X 1 dX5_move_81 rfl rfl ?_
      refine g_iast X 12 0 cm12 0 (by omega) (by decide) _ um_a12 dX5_move_82 ?_
      generalize hu_3 : st u_2 12 0 (u 12 (u 1 0 - 1)) = u_3
      exact g_vret X rfl dX5_move_83 ⟨rfl, rfl, congrArg _ (by subst hu_2; subst hu_3; subst hw; have e9 : i = u 1 0 - 1 := (by omega); rw [e9]; rfl)⟩
    · refine g_aload_n X 3 dX5_move_35 rfl rfl ?_
      refine g_get X 10 0 cm10 rfl 3 (by decide) hiX5 (by decide +kernel) rfl rfl dX5_move_36 ?_
      refine g_iload_n X 0 dX5_move_39 rfl rfl ?_
      refine g_aload_n X 3 dX5_move_40 rfl rfl ?_
      refine g_get X 10 0 cm10 rfl 3 (by decide) hiX5 (by decide +kernel) rfl rfl dX5_move_41 ?_
      refine g_iload_n X 0 dX5_move_44 rfl rfl ?_
      refine g_iconst X (v := nI 1) dX5_move_45 (by decide) ?_
      refine g_isub X dX5_move_46 (pk_sub (by omega)) ?_
      refine g_iald X 11 0 cm11 ((u 1 0 - 1 - i) - 1) (by omega) (by decide) rfl dX5_move_47 ?_
      refine g_iast X 11 0 cm11 (u 1 0 - 1 - i) (by omega) (by decide) _ um_a11 dX5_move_48 ?_
      generalize hu_4 : st w 11 (u 1 0 - 1 - i) (w 11 ((u 1 0 - 1 - i) - 1)) = u_4
      refine g_aload_n X 3 dX5_move_49 rfl rfl ?_
      refine g_get X 10 0 cm10 rfl 4 (by decide) hiX5 (by decide +kernel) rfl rfl dX5_move_50 ?_
      refine g_iload_n X 0 dX5_move_53 rfl rfl ?_
      refine g_aload_n X 3 dX5_move_54 rfl rfl ?_
      refine g_get X 10 0 cm10 rfl 4 (by decide) hiX5 (by decide +kernel) rfl rfl dX5_move_55 ?_
      refine g_iload_n X 0 dX5_move_58 rfl rfl ?_
      refine g_iconst X (v := nI 1) dX5_move_59 (by decide) ?_
      refine g_isub X dX5_move_60 (pk_sub (by omega)) ?_
      refine g_iald X 12 0 cm12 ((u 1 0 - 1 - i) - 1) (by omega) (by decide) rfl dX5_move_61 ?_
      refine g_iast X 12 0 cm12 (u 1 0 - 1 - i) (by omega) (by decide) _ um_a12 dX5_move_62 ?_
      generalize hu_5 : st u_4 12 (u 1 0 - 1 - i) (u_4 12 ((u 1 0 - 1 - i) - 1)) = u_5
      refine g_iinc X 0 [(3, .int (nI (u 1 0 - 1 - i - 1))), (2, .int (nI (u 12 (u 1 0 - 1)))), (1, .int (nI (u 11 (u 1 0 - 1)))), (0, .ref (al 10 0))] dX5_move_63 rfl (nI_m1 (by omega)) (by decide) rfl ?_
      refine g_goto X 31 dX5_move_66 (by decide) ?_
      refine g_lv [0, 1, 2, 3] rfl ?_
      subst hu_4
      subst hu_5
      subst hw
      exact ih (i + 1) (by omega) (by omega)

set_option maxRecDepth 100000 in
set_option maxHeartbeats 4000000 in
/-- move -/
theorem m_move {l : Launch} {D : va_G} {ta : Nat → ClassId} {pl : Nat → Nat} {bs : Nat} {al : Ad} {Z : Wo} {u : St}  (h1 : 1 ≤ u 1 0) (h2 : u 1 0 ≤ 200) : GD l D ta pl bs yX5_move wsX5_move (rmF 0 0) [.ref (al 10 0)] al (mM Z ta al u) none (mM Z ta al (mvA u)) := by
  refine GM.of (by decide) rfl (Nat.le_of_ble_eq_true rfl) ?_
  intro p e s m args below meth c X hnm
  have hiX5 : ∀ w ∈ u_ws RX5 TX5 22, w ∈ wsX5_move := by decide +kernel
  refine g_lv (lv' := [(0, .ref (al 10 0))]) [0] rfl ?_
  refine g_aload_n X 0 dX5_move_0 rfl rfl ?_
  refine g_get X 10 0 cm10 rfl 3 (by decide) hiX5 (by decide +kernel) rfl rfl dX5_move_1 ?_
  refine g_aload_n X 0 dX5_move_4 rfl rfl ?_
  refine g_get X 10 0 cm10 rfl 1 (by decide) hiX5 (by decide +kernel) rfl rfl dX5_move_5 ?_
  refine g_iconst X (v := nI 1) dX5_move_8 (by decide) ?_
  refine g_isub X dX5_move_9 (pk_sub (by omega)) ?_
  refine g_iald X 11 0 cm11 ((u 1 0) - 1) (by omega) (by decide) rfl dX5_move_10 ?_
  refine g_istore_n X [(1, .int (nI (u 11 ((u 1 0) - 1)))), (0, .ref (al 10 0))] dX5_move_11 rfl (by decide) rfl ?_
  refine g_aload_n X 1 dX5_move_12 rfl rfl ?_
  refine g_get X 10 0 cm10 rfl 4 (by decide) hiX5 (by decide +kernel) rfl rfl dX5_move_13 ?_
  refine g_aload_n X 1 dX5_move_16 rfl rfl ?_
  refine g_get X 10 0 cm10 rfl 1 (by decide) hiX5 (by decide +kernel) rfl rfl dX5_move_17 ?_
  refine g_iconst X (v := nI 1) dX5_move_20 (by decide) ?_
  refine g_isub X dX5_move_21 (pk_sub (by omega)) ?_
  refine g_iald X 12 0 cm12 ((u 1 0) - 1) (by omega) (by decide) rfl dX5_move_22 ?_
  refine g_istore_n X [(2, .int (nI (u 12 ((u 1 0) - 1)))), (1, .int (nI (u 11 ((u 1 0) - 1)))), (0, .ref (al 10 0))] dX5_move_23 rfl (by decide) rfl ?_
  refine g_aload_n X 2 dX5_move_24 rfl rfl ?_
  refine g_get X 10 0 cm10 rfl 1 (by decide) hiX5 (by decide +kernel) rfl rfl dX5_move_25 ?_
  refine g_iconst X (v := nI 1) dX5_move_28 (by decide) ?_
  refine g_isub X dX5_move_29 (pk_sub (by omega)) ?_
  refine g_istore_n X [(3, .int (nI ((u 1 0) - 1))), (2, .int (nI (u 12 ((u 1 0) - 1)))), (1, .int (nI (u 11 ((u 1 0) - 1)))), (0, .ref (al 10 0))] dX5_move_30 rfl (by decide) rfl ?_
  refine g_lv [0, 1, 2, 3] rfl ?_
  exact l_move X h1 h2 (u 1 0) 0 (Nat.zero_le _) (by omega)

set_option maxRecDepth 100000 in
set_option maxHeartbeats 4000000 in
/-- before -/
theorem m_before {l : Launch} {D : va_G} {ta : Nat → ClassId} {pl : Nat → Nat} {bs : Nat} {al : Ad} {Z : Wo} {u : St} (q : Nat) (h1 : 1 ≤ u 1 0) (h2 : u 1 0 ≤ 200) (h3 : q < u 1 0) : GD l D ta pl bs yX5_before wsX5_before (rmF 0 0) [.ref (al 10 0), .int (nI q)] al (mM Z ta al u) (some (.int (nI (mB u q)))) (mM Z ta al u) := by
  refine GM.of (by decide) rfl (Nat.le_of_ble_eq_true rfl) ?_
  intro p e s m args below meth c X hnm
  have hiX5 : ∀ w ∈ u_ws RX5 TX5 22, w ∈ wsX5_before := by decide +kernel
  refine g_lv (lv' := [(0, .ref (al 10 0)), (1, .int (nI q))]) [0, 1] rfl ?_
  refine g_iload_n X 1 dX5_before_0 rfl rfl ?_
  refine g_if_ne X 13 dX5_before_1 (by decide) (n0_eq (by omega)) (fun c_1 => ?_) (fun c_1 => ?_)
  · refine g_iload_n X 1 dX5_before_13 rfl rfl ?_
    refine g_iconst X (v := nI 1) dX5_before_14 (by decide) ?_
    refine g_isub X dX5_before_15 (pk_sub (by omega)) ?_
    exact g_iret X rfl dX5_before_16 ⟨by rw [mB, if_neg c_1], rfl, rfl⟩
  · refine g_aload_n X 0 dX5_before_4 rfl rfl ?_
    refine g_get X 10 0 cm10 rfl 1 (by decide) hiX5 (by decide +kernel) rfl rfl dX5_before_5 ?_
    refine g_iconst X (v := nI 1) dX5_before_8 (by decide) ?_
    refine g_isub X dX5_before_9 (pk_sub (by omega)) ?_
    refine g_goto X 16 dX5_before_10 (by decide) ?_
    exact g_iret X rfl dX5_before_16 ⟨by rw [mB, if_pos c_1], rfl, rfl⟩

set_option maxRecDepth 100000 in
set_option maxHeartbeats 4000000 in
/-- hasRoom -/
theorem m_hasRoom {l : Launch} {D : va_G} {ta : Nat → ClassId} {pl : Nat → Nat} {bs : Nat} {al : Ad} {Z : Wo} {u : St} (c0 : Nat) (h : c0 < 16) : GD l D ta pl bs yX5_hasRoom wsX5_hasRoom (rmF 0 0) [.ref (al 10 0), .int (nI c0)] al (mM Z ta al u) (some (.int (nI (bN (mRoom u c0))))) (mM Z ta al u) := by
  refine GM.of (by decide) rfl (Nat.le_of_ble_eq_true rfl) ?_
  intro p e s m args below meth c X hnm
  have hiX5 : ∀ w ∈ u_ws RX5 TX5 22, w ∈ wsX5_hasRoom := by decide +kernel
  refine g_lv (lv' := [(0, .ref (al 10 0)), (1, .int (nI c0))]) [0, 1] rfl ?_
  refine g_iload_n X 1 dX5_hasRoom_0 rfl rfl ?_
  refine g_bipush X (v := nI 15) dX5_hasRoom_1 (by decide) ?_
  refine g_icmp_eq X 26 dX5_hasRoom_3 (by decide) (nI_eq (by omega) (by omega)) (fun c_1 => ?_) (fun c_1 => ?_)
  · refine g_iconst X (v := nI 1) dX5_hasRoom_26 (by decide) ?_
    refine g_goto X 31 dX5_hasRoom_27 (by decide) ?_
    exact g_zret X rfl dX5_hasRoom_31 (by decide) ⟨congrArg (fun n => some (Value.int (nI n))) (bN_1 (by first | omega | simp [mRoom, c_1])), rfl, rfl⟩
  · refine g_aload_n X 0 dX5_hasRoom_6 rfl rfl ?_
    refine g_get X 10 0 cm10 rfl 16 (by decide) hiX5 (by decide +kernel) rfl rfl dX5_hasRoom_7 ?_
    refine g_iload_n X 1 dX5_hasRoom_10 rfl rfl ?_
    refine g_zald X 21 0 cm21 c0 (by omega) (by decide) rfl dX5_hasRoom_11 ?_
    refine g_if_ne X 30 dX5_hasRoom_12 (by decide) (Iff.rfl) (fun c_2 => ?_) (fun c_2 => ?_)
    · refine g_iconst X (v := nI 0) dX5_hasRoom_30 (by decide) ?_
      exact g_zret X rfl dX5_hasRoom_31 (by decide) ⟨congrArg (fun n => some (Value.int (nI n))) (bN_0 (by first | omega | simp [mRoom, c_1, c_2])), rfl, rfl⟩
    · refine g_aload_n X 0 dX5_hasRoom_15 rfl rfl ?_
      refine g_get X 10 0 cm10 rfl 15 (by decide) hiX5 (by decide +kernel) rfl rfl dX5_hasRoom_16 ?_
      refine g_iload_n X 1 dX5_hasRoom_19 rfl rfl ?_
      refine g_iald X 20 0 cm20 c0 (by omega) (by decide) rfl dX5_hasRoom_20 ?_
      refine g_bipush X (v := nI 10) dX5_hasRoom_21 (by decide) ?_
      refine g_icmp_ge X 30 dX5_hasRoom_23 (by decide) (Iff.rfl) (fun c_3 => ?_) (fun c_3 => ?_)
      · refine g_iconst X (v := nI 0) dX5_hasRoom_30 (by decide) ?_
        exact g_zret X rfl dX5_hasRoom_31 (by decide) ⟨congrArg (fun n => some (Value.int (nI n))) (bN_0 (by first | omega | simp [mRoom, c_1, c_2, c_3])), rfl, rfl⟩
      · refine g_iconst X (v := nI 1) dX5_hasRoom_26 (by decide) ?_
        refine g_goto X 31 dX5_hasRoom_27 (by decide) ?_
        exact g_zret X rfl dX5_hasRoom_31 (by decide) ⟨congrArg (fun n => some (Value.int (nI n))) (bN_1 (by first | omega | simp [mRoom, c_1, c_2, c_3])), rfl, rfl⟩

set_option maxRecDepth 100000 in
set_option maxHeartbeats 4000000 in
/-- goOut -/
theorem m_goOut {l : Launch} {D : va_G} {ta : Nat → ClassId} {pl : Nat → Nat} {bs : Nat} {al : Ad} {Z : Wo} {u : St} (i q c0 : Nat) (h1 : 1 ≤ u 1 0) (h2 : u 1 0 ≤ 200) (h3 : q < u 1 0) (h4 : i ≤ 400) (h5 : c0 < 16) (h6 : u 6 0 < 400) : GD l D ta pl bs yX5_goOut wsX5_goOut (rmF 1 21) [.ref (al 10 0), .int (nI i), .int (nI q), .int (nI c0)] al (mM Z ta al u) none (mM Z ta al (mOut u i q c0)) := by
  refine GM.of (by decide) rfl (Nat.le_of_ble_eq_true rfl) ?_
  intro p e s m args below meth c X hnm
  have hiX5 : ∀ w ∈ u_ws RX5 TX5 22, w ∈ wsX5_goOut := by decide +kernel
  refine g_lv (lv' := [(0, .ref (al 10 0)), (1, .int (nI i)), (2, .int (nI q)), (3, .int (nI c0))]) [0, 1, 2, 3] rfl ?_
  refine g_aload_n X 0 dX5_goOut_0 rfl rfl ?_
  refine g_get X 10 0 cm10 rfl 4 (by decide) hiX5 (by decide +kernel) rfl rfl dX5_goOut_1 ?_
  refine g_iload_n X 2 dX5_goOut_4 rfl rfl ?_
  refine g_iconst X (v := nI 0) dX5_goOut_5 (by decide) ?_
  refine g_iast X 12 0 cm12 q (by omega) (by decide) _ um_a12 dX5_goOut_6 ?_
  generalize hu_1 : st u 12 q 0 = u_1
  have k1u_1 : u_1 1 0 = u 1 0 := by rw [← hu_1]; first | rfl | exact st_nf (by omega)
  have k6u_1 : u_1 6 0 = u 6 0 := by rw [← hu_1]; first | rfl | exact st_nf (by omega)
  refine g_aload_n X 0 dX5_goOut_7 rfl rfl ?_
  refine g_get X 10 0 cm10 rfl 8 (by decide) hiX5 (by decide +kernel) rfl rfl dX5_goOut_8 ?_
  refine g_iload_n X 1 dX5_goOut_11 rfl rfl ?_
  refine g_iald X 13 0 cm13 i (by omega) (by decide) rfl dX5_goOut_12 ?_
  refine g_iconst X (v := nI 2) dX5_goOut_13 (by decide) ?_
  refine g_icmp_ne X 28 dX5_goOut_14 (by decide) (Iff.rfl) (fun c_2 => ?_) (fun c_2 => ?_)
  · refine g_aload_n X 0 dX5_goOut_28 rfl rfl ?_
    refine g_get X 10 0 cm10 rfl 10 (by decide) hiX5 (by decide +kernel) rfl rfl dX5_goOut_29 ?_
    refine g_iload_n X 1 dX5_goOut_32 rfl rfl ?_
    refine g_iconst X (v := nI 3) dX5_goOut_33 (by decide) ?_
    refine g_iast X 15 0 cm15 i (by omega) (by decide) _ um_a15 dX5_goOut_34 ?_
    generalize hu_3 : st u_1 15 i 3 = u_3
    have k1u_3 : u_3 1 0 = u_1 1 0 := by rw [← hu_3]; first | rfl | exact st_nf (by omega)
    have k6u_3 : u_3 6 0 = u_1 6 0 := by rw [← hu_3]; first | rfl | exact st_nf (by omega)
    refine g_aload_n X 0 dX5_goOut_35 rfl rfl ?_
    refine g_get X 10 0 cm10 rfl 15 (by decide) hiX5 (by decide +kernel) rfl rfl dX5_goOut_36 ?_
    refine g_iload_n X 3 dX5_goOut_39 rfl rfl ?_
    refine g_dup2 X dX5_goOut_40 rfl rfl ?_
    refine g_iald X 20 0 cm20 c0 (by omega) (by decide) rfl dX5_goOut_41 ?_
    refine g_iconst X (v := nI 1) dX5_goOut_42 (by decide) ?_
    refine g_iadd X dX5_goOut_43 (nI_add _ _) ?_
    refine g_iast X 20 0 cm20 c0 (by omega) (by decide) _ um_a20 dX5_goOut_44 ?_
    generalize hu_4 : st u_3 20 c0 ((u_3 20 c0) + 1) = u_4
    have k1u_4 : u_4 1 0 = u_3 1 0 := by rw [← hu_4]; first | rfl | exact st_nf (by omega)
    have k6u_4 : u_4 6 0 = u_3 6 0 := by rw [← hu_4]; first | rfl | exact st_nf (by omega)
    refine g_aload_n X 0 dX5_goOut_45 rfl rfl ?_
    refine g_get X 10 0 cm10 rfl 18 (by decide) hiX5 (by decide +kernel) rfl rfl dX5_goOut_46 ?_
    refine g_aload_n X 0 dX5_goOut_49 rfl rfl ?_
    refine g_get X 10 0 cm10 rfl 17 (by decide) hiX5 (by decide +kernel) rfl rfl dX5_goOut_50 ?_
    refine g_iload_n X 1 dX5_goOut_53 rfl rfl ?_
    refine g_iast X 22 0 cm22 (u_4 6 0) (by omega) (by decide) _ um_a22 dX5_goOut_54 ?_
    generalize hu_5 : st u_4 22 (u_4 6 0) i = u_5
    have k1u_5 : u_5 1 0 = u_4 1 0 := by rw [← hu_5]; first | rfl | exact st_nf (by omega)
    have k6u_5 : u_5 6 0 = u_4 6 0 := by rw [← hu_5]; first | rfl | exact st_nf (by omega)
    refine g_aload_n X 0 dX5_goOut_55 rfl rfl ?_
    refine g_get X 10 0 cm10 rfl 19 (by decide) hiX5 (by decide +kernel) rfl rfl dX5_goOut_56 ?_
    refine g_aload_n X 0 dX5_goOut_59 rfl rfl ?_
    refine g_get X 10 0 cm10 rfl 17 (by decide) hiX5 (by decide +kernel) rfl rfl dX5_goOut_60 ?_
    refine g_iload_n X 3 dX5_goOut_63 rfl rfl ?_
    refine g_iast X 23 0 cm23 (u_5 6 0) (by omega) (by decide) _ um_a23 dX5_goOut_64 ?_
    generalize hu_6 : st u_5 23 (u_5 6 0) c0 = u_6
    have k1u_6 : u_6 1 0 = u_5 1 0 := by rw [← hu_6]; first | rfl | exact st_nf (by omega)
    have k6u_6 : u_6 6 0 = u_5 6 0 := by rw [← hu_6]; first | rfl | exact st_nf (by omega)
    refine g_aload_n X 0 dX5_goOut_65 rfl rfl ?_
    refine g_get X 10 0 cm10 rfl 20 (by decide) hiX5 (by decide +kernel) rfl rfl dX5_goOut_66 ?_
    refine g_aload_n X 0 dX5_goOut_69 rfl rfl ?_
    refine g_get X 10 0 cm10 rfl 17 (by decide) hiX5 (by decide +kernel) rfl rfl dX5_goOut_70 ?_
    refine g_aload_n X 0 dX5_goOut_73 rfl rfl ?_
    refine g_get X 10 0 cm10 rfl 6 (by decide) hiX5 (by decide +kernel) rfl rfl dX5_goOut_74 ?_
    refine g_iast X 24 0 cm24 (u_6 6 0) (by omega) (by decide) _ um_a24 dX5_goOut_77 ?_
    generalize hu_7 : st u_6 24 (u_6 6 0) (u_6 4 0) = u_7
    have k1u_7 : u_7 1 0 = u_6 1 0 := by rw [← hu_7]; first | rfl | exact st_nf (by omega)
    have k6u_7 : u_7 6 0 = u_6 6 0 := by rw [← hu_7]; first | rfl | exact st_nf (by omega)
    refine g_aload_n X 0 dX5_goOut_78 rfl rfl ?_
    refine g_dup X dX5_goOut_79 rfl ?_
    refine g_get X 10 0 cm10 rfl 17 (by decide) hiX5 (by decide +kernel) rfl rfl dX5_goOut_80 ?_
    refine g_iconst X (v := nI 1) dX5_goOut_83 (by decide) ?_
    refine g_iadd X dX5_goOut_84 (nI_add _ _) ?_
    refine g_put X tyX5 tyX5_ok nmX5 10 0 cm10 rfl 17 (by decide) hiX5 (by decide +kernel) rfl rfl (ty := .int) (by decide +kernel) rfl rfl (Nat.le_of_ble_eq_true rfl) _ um_gone dX5_goOut_85 ?_
    generalize hu_8 : st u_7 6 0 ((u_7 6 0) + 1) = u_8
    have k1u_8 : u_8 1 0 = u_7 1 0 := by rw [← hu_8]; first | rfl | exact st_nf (by omega)
    exact g_vret X rfl dX5_goOut_88 ⟨rfl, rfl, congrArg _ (by subst hu_1; subst hu_3; subst hu_4; subst hu_5; subst hu_6; subst hu_7; subst hu_8; simp only [mOut, setLd, c_2, if_true, if_false])⟩
  · refine g_aload_n X 0 dX5_goOut_17 rfl rfl ?_
    refine g_get X 10 0 cm10 rfl 4 (by decide) hiX5 (by decide +kernel) rfl rfl dX5_goOut_18 ?_
    refine g_aload_n X 0 dX5_goOut_21 rfl rfl ?_
    refine g_iload_n X 2 dX5_goOut_22 rfl rfl ?_
    have hq_9 : mB u_1 q < u_1 1 0 := mB_lt (by omega) (by omega)
    refine g_callDV1 (n := 1) X 10 0 [.int (nI q)] cm10 rfl (m_before q (by omega) (by omega) (by omega)) gX5_goOut_X5_before rfl ⟨rfl, rfl⟩ (by decide +kernel) ⟨by decide, by decide⟩ rfl (Nat.le_of_ble_eq_true rfl) dX5_goOut_23 ⟨Nat.zero_le _, Nat.zero_le _⟩ _ rfl ?_
    refine g_iconst X (v := nI 0) dX5_goOut_26 (by decide) ?_
    refine g_iast X 12 0 cm12 (mB u_1 q) (by omega) (by decide) _ um_a12 dX5_goOut_27 ?_
    generalize hu_10 : st u_1 12 (mB u_1 q) 0 = u_10
    have k1u_10 : u_10 1 0 = u_1 1 0 := by rw [← hu_10]; first | rfl | exact st_nf (by omega)
    have k6u_10 : u_10 6 0 = u_1 6 0 := by rw [← hu_10]; first | rfl | exact st_nf (by omega)
    refine g_aload_n X 0 dX5_goOut_28 rfl rfl ?_
    refine g_get X 10 0 cm10 rfl 10 (by decide) hiX5 (by decide +kernel) rfl rfl dX5_goOut_29 ?_
    refine g_iload_n X 1 dX5_goOut_32 rfl rfl ?_
    refine g_iconst X (v := nI 3) dX5_goOut_33 (by decide) ?_
    refine g_iast X 15 0 cm15 i (by omega) (by decide) _ um_a15 dX5_goOut_34 ?_
    generalize hu_11 : st u_10 15 i 3 = u_11
    have k1u_11 : u_11 1 0 = u_10 1 0 := by rw [← hu_11]; first | rfl | exact st_nf (by omega)
    have k6u_11 : u_11 6 0 = u_10 6 0 := by rw [← hu_11]; first | rfl | exact st_nf (by omega)
    refine g_aload_n X 0 dX5_goOut_35 rfl rfl ?_
    refine g_get X 10 0 cm10 rfl 15 (by decide) hiX5 (by decide +kernel) rfl rfl dX5_goOut_36 ?_
    refine g_iload_n X 3 dX5_goOut_39 rfl rfl ?_
    refine g_dup2 X dX5_goOut_40 rfl rfl ?_
    refine g_iald X 20 0 cm20 c0 (by omega) (by decide) rfl dX5_goOut_41 ?_
    refine g_iconst X (v := nI 1) dX5_goOut_42 (by decide) ?_
    refine g_iadd X dX5_goOut_43 (nI_add _ _) ?_
    refine g_iast X 20 0 cm20 c0 (by omega) (by decide) _ um_a20 dX5_goOut_44 ?_
    generalize hu_12 : st u_11 20 c0 ((u_11 20 c0) + 1) = u_12
    have k1u_12 : u_12 1 0 = u_11 1 0 := by rw [← hu_12]; first | rfl | exact st_nf (by omega)
    have k6u_12 : u_12 6 0 = u_11 6 0 := by rw [← hu_12]; first | rfl | exact st_nf (by omega)
    refine g_aload_n X 0 dX5_goOut_45 rfl rfl ?_
    refine g_get X 10 0 cm10 rfl 18 (by decide) hiX5 (by decide +kernel) rfl rfl dX5_goOut_46 ?_
    refine g_aload_n X 0 dX5_goOut_49 rfl rfl ?_
    refine g_get X 10 0 cm10 rfl 17 (by decide) hiX5 (by decide +kernel) rfl rfl dX5_goOut_50 ?_
    refine g_iload_n X 1 dX5_goOut_53 rfl rfl ?_
    refine g_iast X 22 0 cm22 (u_12 6 0) (by omega) (by decide) _ um_a22 dX5_goOut_54 ?_
    generalize hu_13 : st u_12 22 (u_12 6 0) i = u_13
    have k1u_13 : u_13 1 0 = u_12 1 0 := by rw [← hu_13]; first | rfl | exact st_nf (by omega)
    have k6u_13 : u_13 6 0 = u_12 6 0 := by rw [← hu_13]; first | rfl | exact st_nf (by omega)
    refine g_aload_n X 0 dX5_goOut_55 rfl rfl ?_
    refine g_get X 10 0 cm10 rfl 19 (by decide) hiX5 (by decide +kernel) rfl rfl dX5_goOut_56 ?_
    refine g_aload_n X 0 dX5_goOut_59 rfl rfl ?_
    refine g_get X 10 0 cm10 rfl 17 (by decide) hiX5 (by decide +kernel) rfl rfl dX5_goOut_60 ?_
    refine g_iload_n X 3 dX5_goOut_63 rfl rfl ?_
    refine g_iast X 23 0 cm23 (u_13 6 0) (by omega) (by decide) _ um_a23 dX5_goOut_64 ?_
    generalize hu_14 : st u_13 23 (u_13 6 0) c0 = u_14
    have k1u_14 : u_14 1 0 = u_13 1 0 := by rw [← hu_14]; first | rfl | exact st_nf (by omega)
    have k6u_14 : u_14 6 0 = u_13 6 0 := by rw [← hu_14]; first | rfl | exact st_nf (by omega)
    refine g_aload_n X 0 dX5_goOut_65 rfl rfl ?_
    refine g_get X 10 0 cm10 rfl 20 (by decide) hiX5 (by decide +kernel) rfl rfl dX5_goOut_66 ?_
    refine g_aload_n X 0 dX5_goOut_69 rfl rfl ?_
    refine g_get X 10 0 cm10 rfl 17 (by decide) hiX5 (by decide +kernel) rfl rfl dX5_goOut_70 ?_
    refine g_aload_n X 0 dX5_goOut_73 rfl rfl ?_
    refine g_get X 10 0 cm10 rfl 6 (by decide) hiX5 (by decide +kernel) rfl rfl dX5_goOut_74 ?_
    refine g_iast X 24 0 cm24 (u_14 6 0) (by omega) (by decide) _ um_a24 dX5_goOut_77 ?_
    generalize hu_15 : st u_14 24 (u_14 6 0) (u_14 4 0) = u_15
    have k1u_15 : u_15 1 0 = u_14 1 0 := by rw [← hu_15]; first | rfl | exact st_nf (by omega)
    have k6u_15 : u_15 6 0 = u_14 6 0 := by rw [← hu_15]; first | rfl | exact st_nf (by omega)
    refine g_aload_n X 0 dX5_goOut_78 rfl rfl ?_
    refine g_dup X dX5_goOut_79 rfl ?_
    refine g_get X 10 0 cm10 rfl 17 (by decide) hiX5 (by decide +kernel) rfl rfl dX5_goOut_80 ?_
    refine g_iconst X (v := nI 1) dX5_goOut_83 (by decide) ?_
    refine g_iadd X dX5_goOut_84 (nI_add _ _) ?_
    refine g_put X tyX5 tyX5_ok nmX5 10 0 cm10 rfl 17 (by decide) hiX5 (by decide +kernel) rfl rfl (ty := .int) (by decide +kernel) rfl rfl (Nat.le_of_ble_eq_true rfl) _ um_gone dX5_goOut_85 ?_
    generalize hu_16 : st u_15 6 0 ((u_15 6 0) + 1) = u_16
    have k1u_16 : u_16 1 0 = u_15 1 0 := by rw [← hu_16]; first | rfl | exact st_nf (by omega)
    exact g_vret X rfl dX5_goOut_88 ⟨rfl, rfl, congrArg _ (by subst hu_1; subst hu_10; subst hu_11; subst hu_12; subst hu_13; subst hu_14; subst hu_15; subst hu_16; simp only [mOut, setLd, c_2, if_true, if_false])⟩

set_option maxRecDepth 100000 in
set_option maxHeartbeats 4000000 in
/-- passChute -/
theorem m_passChute {l : Launch} {D : va_G} {ta : Nat → ClassId} {pl : Nat → Nat} {bs : Nat} {al : Ad} {Z : Wo} {u : St} (c0 : Nat) (hJ : Jv u) (h : c0 < 16) : GD l D ta pl bs yX5_passChute wsX5_passChute (rmF 2 44) [.ref (al 10 0), .int (nI c0)] al (mM Z ta al u) none (mM Z ta al (mPass u c0)) := by
  refine GM.of (by decide) rfl (Nat.le_of_ble_eq_true rfl) ?_
  intro p e s m args below meth c X hnm
  have hiX5 : ∀ w ∈ u_ws RX5 TX5 22, w ∈ wsX5_passChute := by decide +kernel
  obtain ⟨h1, h2, h5, h31, h32, hJ6, h6⟩ := id hJ.w
  have hm9 : c0 * u 1 0 ≤ 15 * u 1 0 := Nat.mul_le_mul_right _ (by omega)
  refine g_lv (lv' := [(0, .ref (al 10 0)), (1, .int (nI c0))]) [0, 1] rfl ?_
  refine g_iload_n X 1 dX5_passChute_0 rfl rfl ?_
  refine g_aload_n X 0 dX5_passChute_1 rfl rfl ?_
  refine g_get X 10 0 cm10 rfl 1 (by decide) hiX5 (by decide +kernel) rfl rfl dX5_passChute_2 ?_
  refine g_imul X dX5_passChute_5 (pk_mul _ _) ?_
  refine g_aload_n X 0 dX5_passChute_6 rfl rfl ?_
  refine g_get X 10 0 cm10 rfl 1 (by decide) hiX5 (by decide +kernel) rfl rfl dX5_passChute_7 ?_
  refine g_iconst X (v := nI 2) dX5_passChute_10 (by decide) ?_
  refine g_idiv X dX5_passChute_11 (nI_ne0 (by omega) (by omega)) (pk_div (by omega) (by omega) (by omega)) ?_
  refine g_iadd X dX5_passChute_12 (nI_add _ _) ?_
  refine g_bipush X (v := nI 16) dX5_passChute_13 (by decide) ?_
  refine g_idiv X dX5_passChute_15 (nI_ne0 (by omega) (by omega)) (pk_div (by omega) (by omega) (by omega)) ?_
  refine g_istore_n X [(2, .int (nI (((c0 * (u 1 0)) + ((u 1 0) / 2)) / 16))), (0, .ref (al 10 0)), (1, .int (nI c0))] dX5_passChute_16 rfl (by decide) rfl ?_
  have hp9 := pos6_lt (c := c0) (T := u 1 0) (by omega) (by omega) (by omega)
  have hv9 := hJ6 ((c0 * u 1 0 + u 1 0 / 2) / 16)
  refine g_aload_n X 1 dX5_passChute_17 rfl rfl ?_
  refine g_get X 10 0 cm10 rfl 4 (by decide) hiX5 (by decide +kernel) rfl rfl dX5_passChute_18 ?_
  refine g_iload_n X 0 dX5_passChute_21 rfl rfl ?_
  refine g_iald X 12 0 cm12 (((c0 * (u 1 0)) + ((u 1 0) / 2)) / 16) (by omega) (by decide) rfl dX5_passChute_22 ?_
  refine g_istore_n X [(3, .int (nI (u 12 (((c0 * (u 1 0)) + ((u 1 0) / 2)) / 16)))), (2, .int (nI (((c0 * (u 1 0)) + ((u 1 0) / 2)) / 16))), (0, .ref (al 10 0)), (1, .int (nI c0))] dX5_passChute_23 rfl (by decide) rfl ?_
  refine g_iload_n X 0 dX5_passChute_24 rfl rfl ?_
  refine g_if_eq X 53 dX5_passChute_25 (by decide) (n0_eq (by omega)) (fun c_1 => ?_) (fun c_1 => ?_)
  · exact g_vret X rfl dX5_passChute_53 ⟨rfl, rfl, congrArg _ (by  first | contradiction | exact mPass_1 ⟨(by assumption), (by assumption), (by assumption)⟩ (Or.inl (by assumption)) (by assumption) | exact mPass_1 ⟨(by assumption), (by assumption), (by assumption)⟩ (Or.inr ⟨(by assumption), (by assumption)⟩) (by assumption) | exact mPass_2 ⟨(by assumption), (by assumption), (by assumption)⟩ (fun z => absurd z.2 (by assumption)) (by assumption) | exact mPass_3 ⟨(by assumption), (by assumption), (by assumption)⟩ (fun z => absurd z.2 (by assumption)) (by assumption) | exact mPass_3 ⟨(by assumption), (by assumption), (by assumption)⟩ (fun z => z.1.elim (by assumption) (fun y => by first | exact absurd y.1 (by assumption) | exact y.2 (by assumption))) (by assumption) | exact mPass_0 (fun z => by first | exact z.1 (by assumption) | exact absurd z.2.1 (by assumption) | exact absurd z.2.2 (by assumption)))⟩
  · refine g_aload_n X 2 dX5_passChute_28 rfl rfl ?_
    refine g_get X 10 0 cm10 rfl 11 (by decide) hiX5 (by decide +kernel) rfl rfl dX5_passChute_29 ?_
    refine g_iload_n X 0 dX5_passChute_32 rfl rfl ?_
    refine g_iald X 16 0 cm16 (u 12 (((c0 * (u 1 0)) + ((u 1 0) / 2)) / 16)) (by omega) (by decide) rfl dX5_passChute_33 ?_
    refine g_aload_n X 2 dX5_passChute_34 rfl rfl ?_
    refine g_get X 10 0 cm10 rfl 3 (by decide) hiX5 (by decide +kernel) rfl rfl dX5_passChute_35 ?_
    refine g_iload_n X 1 dX5_passChute_38 rfl rfl ?_
    refine g_iald X 11 0 cm11 (((c0 * (u 1 0)) + ((u 1 0) / 2)) / 16) (by omega) (by decide) rfl dX5_passChute_39 ?_
    refine g_icmp_ne X 53 dX5_passChute_40 (by decide) (Iff.rfl) (fun c_2 => ?_) (fun c_2 => ?_)
    · exact g_vret X rfl dX5_passChute_53 ⟨rfl, rfl, congrArg _ (by  first | contradiction | exact mPass_1 ⟨(by assumption), (by assumption), (by assumption)⟩ (Or.inl (by assumption)) (by assumption) | exact mPass_1 ⟨(by assumption), (by assumption), (by assumption)⟩ (Or.inr ⟨(by assumption), (by assumption)⟩) (by assumption) | exact mPass_2 ⟨(by assumption), (by assumption), (by assumption)⟩ (fun z => absurd z.2 (by assumption)) (by assumption) | exact mPass_3 ⟨(by assumption), (by assumption), (by assumption)⟩ (fun z => absurd z.2 (by assumption)) (by assumption) | exact mPass_3 ⟨(by assumption), (by assumption), (by assumption)⟩ (fun z => z.1.elim (by assumption) (fun y => by first | exact absurd y.1 (by assumption) | exact y.2 (by assumption))) (by assumption) | exact mPass_0 (fun z => by first | exact z.1 (by assumption) | exact absurd z.2.1 (by assumption) | exact absurd z.2.2 (by assumption)))⟩
    · refine g_aload_n X 2 dX5_passChute_43 rfl rfl ?_
      refine g_get X 10 0 cm10 rfl 10 (by decide) hiX5 (by decide +kernel) rfl rfl dX5_passChute_44 ?_
      refine g_iload_n X 0 dX5_passChute_47 rfl rfl ?_
      refine g_iald X 15 0 cm15 (u 12 (((c0 * (u 1 0)) + ((u 1 0) / 2)) / 16)) (by omega) (by decide) rfl dX5_passChute_48 ?_
      refine g_iconst X (v := nI 1) dX5_passChute_49 (by decide) ?_
      refine g_icmp_eq X 54 dX5_passChute_50 (by decide) (Iff.rfl) (fun c_3 => ?_) (fun c_3 => ?_)
      · refine g_aload_n X 2 dX5_passChute_54 rfl rfl ?_
        refine g_get X 10 0 cm10 rfl 9 (by decide) hiX5 (by decide +kernel) rfl rfl dX5_passChute_55 ?_
        refine g_iload_n X 0 dX5_passChute_58 rfl rfl ?_
        refine g_iald X 14 0 cm14 (u 12 (((c0 * (u 1 0)) + ((u 1 0) / 2)) / 16)) (by omega) (by decide) rfl dX5_passChute_59 ?_
        refine g_iload_n X 3 dX5_passChute_60 rfl rfl ?_
        refine g_icmp_eq X 83 dX5_passChute_61 (by decide) (Iff.rfl) (fun c_4 => ?_) (fun c_4 => ?_)
        · refine g_iconst X (v := nI 1) dX5_passChute_83 (by decide) ?_
          refine g_goto X 88 dX5_passChute_84 (by decide) ?_
          refine g_istore X [(4, .int (nI 1)), (3, .int (nI (u 12 (((c0 * (u 1 0)) + ((u 1 0) / 2)) / 16)))), (2, .int (nI (((c0 * (u 1 0)) + ((u 1 0) / 2)) / 16))), (0, .ref (al 10 0)), (1, .int (nI c0))] dX5_passChute_88 (by decide) rfl ?_
          refine g_iload X 0 dX5_passChute_90 rfl ?_
          refine g_if_eq X 113 dX5_passChute_92 (by decide) (n0_eq (by omega)) (fun c_5 => ?_) (fun c_5 => ?_)
          · exact absurd c_5 (by decide)
          · refine g_aload_n X 3 dX5_passChute_95 rfl rfl ?_
            refine g_iload_n X 4 dX5_passChute_96 rfl rfl ?_
            refine g_callDV1 (n := 1) X 10 0 [.int (nI c0)] cm10 rfl (m_hasRoom c0 (by omega)) gX5_passChute_X5_hasRoom rfl ⟨rfl, rfl⟩ (by decide +kernel) ⟨by decide, by decide⟩ rfl (Nat.le_of_ble_eq_true rfl) dX5_passChute_97 ⟨Nat.zero_le _, Nat.zero_le _⟩ _ rfl ?_
            refine g_if_eq X 113 dX5_passChute_100 (by decide) (bN_eq0) (fun c_6 => ?_) (fun c_6 => ?_)
            · refine g_aload_n X 3 dX5_passChute_113 rfl rfl ?_
              refine g_get X 10 0 cm10 rfl 9 (by decide) hiX5 (by decide +kernel) rfl rfl dX5_passChute_114 ?_
              refine g_iload_n X 1 dX5_passChute_117 rfl rfl ?_
              refine g_iald X 14 0 cm14 (u 12 (((c0 * (u 1 0)) + ((u 1 0) / 2)) / 16)) (by omega) (by decide) rfl dX5_passChute_118 ?_
              refine g_iload_n X 4 dX5_passChute_119 rfl rfl ?_
              refine g_icmp_ne X 133 dX5_passChute_120 (by decide) (Iff.rfl) (fun c_7 => ?_) (fun c_7 => ?_)
              · exact g_vret X rfl dX5_passChute_133 ⟨rfl, rfl, congrArg _ (by  first | contradiction | exact mPass_1 ⟨(by assumption), (by assumption), (by assumption)⟩ (Or.inl (by assumption)) (by assumption) | exact mPass_1 ⟨(by assumption), (by assumption), (by assumption)⟩ (Or.inr ⟨(by assumption), (by assumption)⟩) (by assumption) | exact mPass_2 ⟨(by assumption), (by assumption), (by assumption)⟩ (fun z => absurd z.2 (by assumption)) (by assumption) | exact mPass_3 ⟨(by assumption), (by assumption), (by assumption)⟩ (fun z => absurd z.2 (by assumption)) (by assumption) | exact mPass_3 ⟨(by assumption), (by assumption), (by assumption)⟩ (fun z => z.1.elim (by assumption) (fun y => by first | exact absurd y.1 (by assumption) | exact y.2 (by assumption))) (by assumption) | exact mPass_0 (fun z => by first | exact z.1 (by assumption) | exact absurd z.2.1 (by assumption) | exact absurd z.2.2 (by assumption)))⟩
              · refine g_aload_n X 3 dX5_passChute_123 rfl rfl ?_
                refine g_get X 10 0 cm10 rfl 12 (by decide) hiX5 (by decide +kernel) rfl rfl dX5_passChute_124 ?_
                refine g_iload_n X 1 dX5_passChute_127 rfl rfl ?_
                refine g_dup2 X dX5_passChute_128 rfl rfl ?_
                refine g_iald X 17 0 cm17 (u 12 (((c0 * (u 1 0)) + ((u 1 0) / 2)) / 16)) (by omega) (by decide) rfl dX5_passChute_129 ?_
                refine g_iconst X (v := nI 1) dX5_passChute_130 (by decide) ?_
                refine g_iadd X dX5_passChute_131 (nI_add _ _) ?_
                refine g_iast X 17 0 cm17 (u 12 (((c0 * (u 1 0)) + ((u 1 0) / 2)) / 16)) (by omega) (by decide) _ um_a17 dX5_passChute_132 ?_
                generalize hu_8 : st u 17 (u 12 (((c0 * (u 1 0)) + ((u 1 0) / 2)) / 16)) ((u 17 (u 12 (((c0 * (u 1 0)) + ((u 1 0) / 2)) / 16))) + 1) = u_8
                exact g_vret X rfl dX5_passChute_133 ⟨rfl, rfl, congrArg _ (by subst hu_8; first | contradiction | exact mPass_1 ⟨(by assumption), (by assumption), (by assumption)⟩ (Or.inl (by assumption)) (by assumption) | exact mPass_1 ⟨(by assumption), (by assumption), (by assumption)⟩ (Or.inr ⟨(by assumption), (by assumption)⟩) (by assumption) | exact mPass_2 ⟨(by assumption), (by assumption), (by assumption)⟩ (fun z => absurd z.2 (by assumption)) (by assumption) | exact mPass_3 ⟨(by assumption), (by assumption), (by assumption)⟩ (fun z => absurd z.2 (by assumption)) (by assumption) | exact mPass_3 ⟨(by assumption), (by assumption), (by assumption)⟩ (fun z => z.1.elim (by assumption) (fun y => by first | exact absurd y.1 (by assumption) | exact y.2 (by assumption))) (by assumption) | exact mPass_0 (fun z => by first | exact z.1 (by assumption) | exact absurd z.2.1 (by assumption) | exact absurd z.2.2 (by assumption)))⟩
            · have c_6 := Decidable.of_not_not c_6
              have hg9 := hJ.go (i := u 12 ((c0 * u 1 0 + u 1 0 / 2) / 16)) (by assumption) (by omega) (by assumption)
              refine g_aload_n X 3 dX5_passChute_103 rfl rfl ?_
              refine g_iload_n X 1 dX5_passChute_104 rfl rfl ?_
              refine g_iload_n X 2 dX5_passChute_105 rfl rfl ?_
              refine g_iload_n X 4 dX5_passChute_106 rfl rfl ?_
              refine g_callDV0 (n := 3) X 10 0 [.int (nI (u 12 (((c0 * (u 1 0)) + ((u 1 0) / 2)) / 16))), .int (nI (((c0 * (u 1 0)) + ((u 1 0) / 2)) / 16)), .int (nI c0)] cm10 rfl (m_goOut (u 12 (((c0 * (u 1 0)) + ((u 1 0) / 2)) / 16)) (((c0 * (u 1 0)) + ((u 1 0) / 2)) / 16) c0 (by omega) (by omega) (by omega) (by omega) (by omega) (by omega)) gX5_passChute_X5_goOut rfl ⟨rfl, rfl⟩ (by decide +kernel) ⟨by decide, by decide⟩ rfl (Nat.le_of_ble_eq_true rfl) dX5_passChute_107 ⟨Nat.zero_le _, Nat.zero_le _⟩ _ rfl ?_
              generalize hu_9 : mOut u (u 12 (((c0 * (u 1 0)) + ((u 1 0) / 2)) / 16)) (((c0 * (u 1 0)) + ((u 1 0) / 2)) / 16) c0 = u_9
              refine g_goto X 133 dX5_passChute_110 (by decide) ?_
              exact g_vret X rfl dX5_passChute_133 ⟨rfl, rfl, congrArg _ (by subst hu_9; first | contradiction | exact mPass_1 ⟨(by assumption), (by assumption), (by assumption)⟩ (Or.inl (by assumption)) (by assumption) | exact mPass_1 ⟨(by assumption), (by assumption), (by assumption)⟩ (Or.inr ⟨(by assumption), (by assumption)⟩) (by assumption) | exact mPass_2 ⟨(by assumption), (by assumption), (by assumption)⟩ (fun z => absurd z.2 (by assumption)) (by assumption) | exact mPass_3 ⟨(by assumption), (by assumption), (by assumption)⟩ (fun z => absurd z.2 (by assumption)) (by assumption) | exact mPass_3 ⟨(by assumption), (by assumption), (by assumption)⟩ (fun z => z.1.elim (by assumption) (fun y => by first | exact absurd y.1 (by assumption) | exact y.2 (by assumption))) (by assumption) | exact mPass_0 (fun z => by first | exact z.1 (by assumption) | exact absurd z.2.1 (by assumption) | exact absurd z.2.2 (by assumption)))⟩
        · refine g_iload_n X 3 dX5_passChute_64 rfl rfl ?_
          refine g_bipush X (v := nI 15) dX5_passChute_65 (by decide) ?_
          refine g_icmp_ne X 87 dX5_passChute_67 (by decide) (nI_eq (by omega) (by omega)) (fun c_10 => ?_) (fun c_10 => ?_)
          · refine g_iconst X (v := nI 0) dX5_passChute_87 (by decide) ?_
            refine g_istore X [(4, .int (nI 0)), (3, .int (nI (u 12 (((c0 * (u 1 0)) + ((u 1 0) / 2)) / 16)))), (2, .int (nI (((c0 * (u 1 0)) + ((u 1 0) / 2)) / 16))), (0, .ref (al 10 0)), (1, .int (nI c0))] dX5_passChute_88 (by decide) rfl ?_
            refine g_iload X 0 dX5_passChute_90 rfl ?_
            refine g_if_eq X 113 dX5_passChute_92 (by decide) (n0_eq (by omega)) (fun c_11 => ?_) (fun c_11 => ?_)
            · refine g_aload_n X 3 dX5_passChute_113 rfl rfl ?_
              refine g_get X 10 0 cm10 rfl 9 (by decide) hiX5 (by decide +kernel) rfl rfl dX5_passChute_114 ?_
              refine g_iload_n X 1 dX5_passChute_117 rfl rfl ?_
              refine g_iald X 14 0 cm14 (u 12 (((c0 * (u 1 0)) + ((u 1 0) / 2)) / 16)) (by omega) (by decide) rfl dX5_passChute_118 ?_
              refine g_iload_n X 4 dX5_passChute_119 rfl rfl ?_
              refine g_icmp_ne X 133 dX5_passChute_120 (by decide) (Iff.rfl) (fun c_12 => ?_) (fun c_12 => ?_)
              · exact g_vret X rfl dX5_passChute_133 ⟨rfl, rfl, congrArg _ (by  first | contradiction | exact mPass_1 ⟨(by assumption), (by assumption), (by assumption)⟩ (Or.inl (by assumption)) (by assumption) | exact mPass_1 ⟨(by assumption), (by assumption), (by assumption)⟩ (Or.inr ⟨(by assumption), (by assumption)⟩) (by assumption) | exact mPass_2 ⟨(by assumption), (by assumption), (by assumption)⟩ (fun z => absurd z.2 (by assumption)) (by assumption) | exact mPass_3 ⟨(by assumption), (by assumption), (by assumption)⟩ (fun z => absurd z.2 (by assumption)) (by assumption) | exact mPass_3 ⟨(by assumption), (by assumption), (by assumption)⟩ (fun z => z.1.elim (by assumption) (fun y => by first | exact absurd y.1 (by assumption) | exact y.2 (by assumption))) (by assumption) | exact mPass_0 (fun z => by first | exact z.1 (by assumption) | exact absurd z.2.1 (by assumption) | exact absurd z.2.2 (by assumption)))⟩
              · refine g_aload_n X 3 dX5_passChute_123 rfl rfl ?_
                refine g_get X 10 0 cm10 rfl 12 (by decide) hiX5 (by decide +kernel) rfl rfl dX5_passChute_124 ?_
                refine g_iload_n X 1 dX5_passChute_127 rfl rfl ?_
                refine g_dup2 X dX5_passChute_128 rfl rfl ?_
                refine g_iald X 17 0 cm17 (u 12 (((c0 * (u 1 0)) + ((u 1 0) / 2)) / 16)) (by omega) (by decide) rfl dX5_passChute_129 ?_
                refine g_iconst X (v := nI 1) dX5_passChute_130 (by decide) ?_
                refine g_iadd X dX5_passChute_131 (nI_add _ _) ?_
                refine g_iast X 17 0 cm17 (u 12 (((c0 * (u 1 0)) + ((u 1 0) / 2)) / 16)) (by omega) (by decide) _ um_a17 dX5_passChute_132 ?_
                generalize hu_13 : st u 17 (u 12 (((c0 * (u 1 0)) + ((u 1 0) / 2)) / 16)) ((u 17 (u 12 (((c0 * (u 1 0)) + ((u 1 0) / 2)) / 16))) + 1) = u_13
                exact g_vret X rfl dX5_passChute_133 ⟨rfl, rfl, congrArg _ (by subst hu_13; first | contradiction | exact mPass_1 ⟨(by assumption), (by assumption), (by assumption)⟩ (Or.inl (by assumption)) (by assumption) | exact mPass_1 ⟨(by assumption), (by assumption), (by assumption)⟩ (Or.inr ⟨(by assumption), (by assumption)⟩) (by assumption) | exact mPass_2 ⟨(by assumption), (by assumption), (by assumption)⟩ (fun z => absurd z.2 (by assumption)) (by assumption) | exact mPass_3 ⟨(by assumption), (by assumption), (by assumption)⟩ (fun z => absurd z.2 (by assumption)) (by assumption) | exact mPass_3 ⟨(by assumption), (by assumption), (by assumption)⟩ (fun z => z.1.elim (by assumption) (fun y => by first | exact absurd y.1 (by assumption) | exact y.2 (by assumption))) (by assumption) | exact mPass_0 (fun z => by first | exact z.1 (by assumption) | exact absurd z.2.1 (by assumption) | exact absurd z.2.2 (by assumption)))⟩
            · exact absurd c_11 (by decide)
          · refine g_aload_n X 2 dX5_passChute_70 rfl rfl ?_
            refine g_get X 10 0 cm10 rfl 12 (by decide) hiX5 (by decide +kernel) rfl rfl dX5_passChute_71 ?_
            refine g_iload_n X 0 dX5_passChute_74 rfl rfl ?_
            refine g_iald X 17 0 cm17 (u 12 (((c0 * (u 1 0)) + ((u 1 0) / 2)) / 16)) (by omega) (by decide) rfl dX5_passChute_75 ?_
            refine g_aload_n X 2 dX5_passChute_76 rfl rfl ?_
            refine g_get X 10 0 cm10 rfl 2 (by decide) hiX5 (by decide +kernel) rfl rfl dX5_passChute_77 ?_
            refine g_icmp_lt X 87 dX5_passChute_80 (by decide) (Iff.rfl) (fun c_14 => ?_) (fun c_14 => ?_)
            · refine g_iconst X (v := nI 0) dX5_passChute_87 (by decide) ?_
              refine g_istore X [(4, .int (nI 0)), (3, .int (nI (u 12 (((c0 * (u 1 0)) + ((u 1 0) / 2)) / 16)))), (2, .int (nI (((c0 * (u 1 0)) + ((u 1 0) / 2)) / 16))), (0, .ref (al 10 0)), (1, .int (nI c0))] dX5_passChute_88 (by decide) rfl ?_
              refine g_iload X 0 dX5_passChute_90 rfl ?_
              refine g_if_eq X 113 dX5_passChute_92 (by decide) (n0_eq (by omega)) (fun c_15 => ?_) (fun c_15 => ?_)
              · refine g_aload_n X 3 dX5_passChute_113 rfl rfl ?_
                refine g_get X 10 0 cm10 rfl 9 (by decide) hiX5 (by decide +kernel) rfl rfl dX5_passChute_114 ?_
                refine g_iload_n X 1 dX5_passChute_117 rfl rfl ?_
                refine g_iald X 14 0 cm14 (u 12 (((c0 * (u 1 0)) + ((u 1 0) / 2)) / 16)) (by omega) (by decide) rfl dX5_passChute_118 ?_
                refine g_iload_n X 4 dX5_passChute_119 rfl rfl ?_
                refine g_icmp_ne X 133 dX5_passChute_120 (by decide) (Iff.rfl) (fun c_16 => ?_) (fun c_16 => ?_)
                · exact g_vret X rfl dX5_passChute_133 ⟨rfl, rfl, congrArg _ (by  first | contradiction | exact mPass_1 ⟨(by assumption), (by assumption), (by assumption)⟩ (Or.inl (by assumption)) (by assumption) | exact mPass_1 ⟨(by assumption), (by assumption), (by assumption)⟩ (Or.inr ⟨(by assumption), (by assumption)⟩) (by assumption) | exact mPass_2 ⟨(by assumption), (by assumption), (by assumption)⟩ (fun z => absurd z.2 (by assumption)) (by assumption) | exact mPass_3 ⟨(by assumption), (by assumption), (by assumption)⟩ (fun z => absurd z.2 (by assumption)) (by assumption) | exact mPass_3 ⟨(by assumption), (by assumption), (by assumption)⟩ (fun z => z.1.elim (by assumption) (fun y => by first | exact absurd y.1 (by assumption) | exact y.2 (by assumption))) (by assumption) | exact mPass_0 (fun z => by first | exact z.1 (by assumption) | exact absurd z.2.1 (by assumption) | exact absurd z.2.2 (by assumption)))⟩
                · refine g_aload_n X 3 dX5_passChute_123 rfl rfl ?_
                  refine g_get X 10 0 cm10 rfl 12 (by decide) hiX5 (by decide +kernel) rfl rfl dX5_passChute_124 ?_
                  refine g_iload_n X 1 dX5_passChute_127 rfl rfl ?_
                  refine g_dup2 X dX5_passChute_128 rfl rfl ?_
                  refine g_iald X 17 0 cm17 (u 12 (((c0 * (u 1 0)) + ((u 1 0) / 2)) / 16)) (by omega) (by decide) rfl dX5_passChute_129 ?_
                  refine g_iconst X (v := nI 1) dX5_passChute_130 (by decide) ?_
                  refine g_iadd X dX5_passChute_131 (nI_add _ _) ?_
                  refine g_iast X 17 0 cm17 (u 12 (((c0 * (u 1 0)) + ((u 1 0) / 2)) / 16)) (by omega) (by decide) _ um_a17 dX5_passChute_132 ?_
                  generalize hu_17 : st u 17 (u 12 (((c0 * (u 1 0)) + ((u 1 0) / 2)) / 16)) ((u 17 (u 12 (((c0 * (u 1 0)) + ((u 1 0) / 2)) / 16))) + 1) = u_17
                  exact g_vret X rfl dX5_passChute_133 ⟨rfl, rfl, congrArg _ (by subst hu_17; first | contradiction | exact mPass_1 ⟨(by assumption), (by assumption), (by assumption)⟩ (Or.inl (by assumption)) (by assumption) | exact mPass_1 ⟨(by assumption), (by assumption), (by assumption)⟩ (Or.inr ⟨(by assumption), (by assumption)⟩) (by assumption) | exact mPass_2 ⟨(by assumption), (by assumption), (by assumption)⟩ (fun z => absurd z.2 (by assumption)) (by assumption) | exact mPass_3 ⟨(by assumption), (by assumption), (by assumption)⟩ (fun z => absurd z.2 (by assumption)) (by assumption) | exact mPass_3 ⟨(by assumption), (by assumption), (by assumption)⟩ (fun z => z.1.elim (by assumption) (fun y => by first | exact absurd y.1 (by assumption) | exact y.2 (by assumption))) (by assumption) | exact mPass_0 (fun z => by first | exact z.1 (by assumption) | exact absurd z.2.1 (by assumption) | exact absurd z.2.2 (by assumption)))⟩
              · exact absurd c_15 (by decide)
            · refine g_iconst X (v := nI 1) dX5_passChute_83 (by decide) ?_
              refine g_goto X 88 dX5_passChute_84 (by decide) ?_
              refine g_istore X [(4, .int (nI 1)), (3, .int (nI (u 12 (((c0 * (u 1 0)) + ((u 1 0) / 2)) / 16)))), (2, .int (nI (((c0 * (u 1 0)) + ((u 1 0) / 2)) / 16))), (0, .ref (al 10 0)), (1, .int (nI c0))] dX5_passChute_88 (by decide) rfl ?_
              refine g_iload X 0 dX5_passChute_90 rfl ?_
              refine g_if_eq X 113 dX5_passChute_92 (by decide) (n0_eq (by omega)) (fun c_18 => ?_) (fun c_18 => ?_)
              · exact absurd c_18 (by decide)
              · refine g_aload_n X 3 dX5_passChute_95 rfl rfl ?_
                refine g_iload_n X 4 dX5_passChute_96 rfl rfl ?_
                refine g_callDV1 (n := 1) X 10 0 [.int (nI c0)] cm10 rfl (m_hasRoom c0 (by omega)) gX5_passChute_X5_hasRoom rfl ⟨rfl, rfl⟩ (by decide +kernel) ⟨by decide, by decide⟩ rfl (Nat.le_of_ble_eq_true rfl) dX5_passChute_97 ⟨Nat.zero_le _, Nat.zero_le _⟩ _ rfl ?_
                refine g_if_eq X 113 dX5_passChute_100 (by decide) (bN_eq0) (fun c_19 => ?_) (fun c_19 => ?_)
                · refine g_aload_n X 3 dX5_passChute_113 rfl rfl ?_
                  refine g_get X 10 0 cm10 rfl 9 (by decide) hiX5 (by decide +kernel) rfl rfl dX5_passChute_114 ?_
                  refine g_iload_n X 1 dX5_passChute_117 rfl rfl ?_
                  refine g_iald X 14 0 cm14 (u 12 (((c0 * (u 1 0)) + ((u 1 0) / 2)) / 16)) (by omega) (by decide) rfl dX5_passChute_118 ?_
                  refine g_iload_n X 4 dX5_passChute_119 rfl rfl ?_
                  refine g_icmp_ne X 133 dX5_passChute_120 (by decide) (Iff.rfl) (fun c_20 => ?_) (fun c_20 => ?_)
                  · exact g_vret X rfl dX5_passChute_133 ⟨rfl, rfl, congrArg _ (by  first | contradiction | exact mPass_1 ⟨(by assumption), (by assumption), (by assumption)⟩ (Or.inl (by assumption)) (by assumption) | exact mPass_1 ⟨(by assumption), (by assumption), (by assumption)⟩ (Or.inr ⟨(by assumption), (by assumption)⟩) (by assumption) | exact mPass_2 ⟨(by assumption), (by assumption), (by assumption)⟩ (fun z => absurd z.2 (by assumption)) (by assumption) | exact mPass_3 ⟨(by assumption), (by assumption), (by assumption)⟩ (fun z => absurd z.2 (by assumption)) (by assumption) | exact mPass_3 ⟨(by assumption), (by assumption), (by assumption)⟩ (fun z => z.1.elim (by assumption) (fun y => by first | exact absurd y.1 (by assumption) | exact y.2 (by assumption))) (by assumption) | exact mPass_0 (fun z => by first | exact z.1 (by assumption) | exact absurd z.2.1 (by assumption) | exact absurd z.2.2 (by assumption)))⟩
                  · refine g_aload_n X 3 dX5_passChute_123 rfl rfl ?_
                    refine g_get X 10 0 cm10 rfl 12 (by decide) hiX5 (by decide +kernel) rfl rfl dX5_passChute_124 ?_
                    refine g_iload_n X 1 dX5_passChute_127 rfl rfl ?_
                    refine g_dup2 X dX5_passChute_128 rfl rfl ?_
                    refine g_iald X 17 0 cm17 (u 12 (((c0 * (u 1 0)) + ((u 1 0) / 2)) / 16)) (by omega) (by decide) rfl dX5_passChute_129 ?_
                    refine g_iconst X (v := nI 1) dX5_passChute_130 (by decide) ?_
                    refine g_iadd X dX5_passChute_131 (nI_add _ _) ?_
                    refine g_iast X 17 0 cm17 (u 12 (((c0 * (u 1 0)) + ((u 1 0) / 2)) / 16)) (by omega) (by decide) _ um_a17 dX5_passChute_132 ?_
                    generalize hu_21 : st u 17 (u 12 (((c0 * (u 1 0)) + ((u 1 0) / 2)) / 16)) ((u 17 (u 12 (((c0 * (u 1 0)) + ((u 1 0) / 2)) / 16))) + 1) = u_21
                    exact g_vret X rfl dX5_passChute_133 ⟨rfl, rfl, congrArg _ (by subst hu_21; first | contradiction | exact mPass_1 ⟨(by assumption), (by assumption), (by assumption)⟩ (Or.inl (by assumption)) (by assumption) | exact mPass_1 ⟨(by assumption), (by assumption), (by assumption)⟩ (Or.inr ⟨(by assumption), (by assumption)⟩) (by assumption) | exact mPass_2 ⟨(by assumption), (by assumption), (by assumption)⟩ (fun z => absurd z.2 (by assumption)) (by assumption) | exact mPass_3 ⟨(by assumption), (by assumption), (by assumption)⟩ (fun z => absurd z.2 (by assumption)) (by assumption) | exact mPass_3 ⟨(by assumption), (by assumption), (by assumption)⟩ (fun z => z.1.elim (by assumption) (fun y => by first | exact absurd y.1 (by assumption) | exact y.2 (by assumption))) (by assumption) | exact mPass_0 (fun z => by first | exact z.1 (by assumption) | exact absurd z.2.1 (by assumption) | exact absurd z.2.2 (by assumption)))⟩
                · have c_19 := Decidable.of_not_not c_19
                  have hg9 := hJ.go (i := u 12 ((c0 * u 1 0 + u 1 0 / 2) / 16)) (by assumption) (by omega) (by assumption)
                  refine g_aload_n X 3 dX5_passChute_103 rfl rfl ?_
                  refine g_iload_n X 1 dX5_passChute_104 rfl rfl ?_
                  refine g_iload_n X 2 dX5_passChute_105 rfl rfl ?_
                  refine g_iload_n X 4 dX5_passChute_106 rfl rfl ?_
                  refine g_callDV0 (n := 3) X 10 0 [.int (nI (u 12 (((c0 * (u 1 0)) + ((u 1 0) / 2)) / 16))), .int (nI (((c0 * (u 1 0)) + ((u 1 0) / 2)) / 16)), .int (nI c0)] cm10 rfl (m_goOut (u 12 (((c0 * (u 1 0)) + ((u 1 0) / 2)) / 16)) (((c0 * (u 1 0)) + ((u 1 0) / 2)) / 16) c0 (by omega) (by omega) (by omega) (by omega) (by omega) (by omega)) gX5_passChute_X5_goOut rfl ⟨rfl, rfl⟩ (by decide +kernel) ⟨by decide, by decide⟩ rfl (Nat.le_of_ble_eq_true rfl) dX5_passChute_107 ⟨Nat.zero_le _, Nat.zero_le _⟩ _ rfl ?_
                  generalize hu_22 : mOut u (u 12 (((c0 * (u 1 0)) + ((u 1 0) / 2)) / 16)) (((c0 * (u 1 0)) + ((u 1 0) / 2)) / 16) c0 = u_22
                  refine g_goto X 133 dX5_passChute_110 (by decide) ?_
                  exact g_vret X rfl dX5_passChute_133 ⟨rfl, rfl, congrArg _ (by subst hu_22; first | contradiction | exact mPass_1 ⟨(by assumption), (by assumption), (by assumption)⟩ (Or.inl (by assumption)) (by assumption) | exact mPass_1 ⟨(by assumption), (by assumption), (by assumption)⟩ (Or.inr ⟨(by assumption), (by assumption)⟩) (by assumption) | exact mPass_2 ⟨(by assumption), (by assumption), (by assumption)⟩ (fun z => absurd z.2 (by assumption)) (by assumption) | exact mPass_3 ⟨(by assumption), (by assumption), (by assumption)⟩ (fun z => absurd z.2 (by assumption)) (by assumption) | exact mPass_3 ⟨(by assumption), (by assumption), (by assumption)⟩ (fun z => z.1.elim (by assumption) (fun y => by first | exact absurd y.1 (by assumption) | exact y.2 (by assumption))) (by assumption) | exact mPass_0 (fun z => by first | exact z.1 (by assumption) | exact absurd z.2.1 (by assumption) | exact absurd z.2.2 (by assumption)))⟩
      · exact g_vret X rfl dX5_passChute_53 ⟨rfl, rfl, congrArg _ (by  first | contradiction | exact mPass_1 ⟨(by assumption), (by assumption), (by assumption)⟩ (Or.inl (by assumption)) (by assumption) | exact mPass_1 ⟨(by assumption), (by assumption), (by assumption)⟩ (Or.inr ⟨(by assumption), (by assumption)⟩) (by assumption) | exact mPass_2 ⟨(by assumption), (by assumption), (by assumption)⟩ (fun z => absurd z.2 (by assumption)) (by assumption) | exact mPass_3 ⟨(by assumption), (by assumption), (by assumption)⟩ (fun z => absurd z.2 (by assumption)) (by assumption) | exact mPass_3 ⟨(by assumption), (by assumption), (by assumption)⟩ (fun z => z.1.elim (by assumption) (fun y => by first | exact absurd y.1 (by assumption) | exact y.2 (by assumption))) (by assumption) | exact mPass_0 (fun z => by first | exact z.1 (by assumption) | exact absurd z.2.1 (by assumption) | exact absurd z.2.2 (by assumption)))⟩

set_option maxRecDepth 100000 in
set_option maxHeartbeats 4000000 in
/-- putOn -/
theorem m_putOn {l : Launch} {D : va_G} {ta : Nat → ClassId} {pl : Nat → Nat} {bs : Nat} {al : Ad} {Z : Wo} {u : St} (k : Nat) (hJ : Jv u) (h : k < 4) : GD l D ta pl bs yX5_putOn wsX5_putOn (rmF 1 23) [.ref (al 10 0), .int (nI k)] al (mM Z ta al u) none (mM Z ta al (mPut u k)) := by
  refine GM.of (by decide) rfl (Nat.le_of_ble_eq_true rfl) ?_
  intro p e s m args below meth c X hnm
  have hiX5 : ∀ w ∈ u_ws RX5 TX5 22, w ∈ wsX5_putOn := by decide +kernel
  obtain ⟨h1, h2, h5, h31, h32, hJ6, h6⟩ := id hJ.w
  refine g_lv (lv' := [(0, .ref (al 10 0)), (1, .int (nI k))]) [0, 1] rfl ?_
  refine g_aload_n X 0 dX5_putOn_0 rfl rfl ?_
  refine g_iload_n X 1 dX5_putOn_1 rfl rfl ?_
  refine g_callDV1 (n := 1) X 10 0 [.int (nI k)] cm10 rfl (m_firstWaiting k (by omega)) gX5_putOn_X5_firstWaiting rfl ⟨rfl, rfl⟩ (by decide +kernel) ⟨by decide, by decide⟩ rfl (Nat.le_of_ble_eq_true rfl) dX5_putOn_2 ⟨Nat.zero_le _, Nat.zero_le _⟩ _ rfl ?_
  have hf9 := mF_le (v := u) (k := k) (u 5 0)
  have hm9 : k * u 1 0 ≤ 3 * u 1 0 := Nat.mul_le_mul_right _ (by omega)
  have hv9 := hJ6 (k * u 1 0 / 4)
  refine g_istore_n X [(2, .int (nI (mF u k (u 5 0)))), (0, .ref (al 10 0)), (1, .int (nI k))] dX5_putOn_5 rfl (by decide) rfl ?_
  refine g_iload_n X 2 dX5_putOn_6 rfl rfl ?_
  refine g_aload_n X 1 dX5_putOn_7 rfl rfl ?_
  refine g_get X 10 0 cm10 rfl 1 (by decide) hiX5 (by decide +kernel) rfl rfl dX5_putOn_8 ?_
  refine g_imul X dX5_putOn_11 (pk_mul _ _) ?_
  refine g_iconst X (v := nI 4) dX5_putOn_12 (by decide) ?_
  refine g_idiv X dX5_putOn_13 (nI_ne0 (by omega) (by omega)) (pk_div (by omega) (by omega) (by omega)) ?_
  refine g_istore_n X [(3, .int (nI ((k * (u 1 0)) / 4))), (2, .int (nI (mF u k (u 5 0)))), (0, .ref (al 10 0)), (1, .int (nI k))] dX5_putOn_14 rfl (by decide) rfl ?_
  refine g_iload_n X 1 dX5_putOn_15 rfl rfl ?_
  refine g_if_eq X 28 dX5_putOn_16 (by decide) (n0_eq (by omega)) (fun c_1 => ?_) (fun c_1 => ?_)
  · exact g_vret X rfl dX5_putOn_28 ⟨rfl, rfl, congrArg _ (by rw [mPut, if_neg (fun z => by first | exact z.1 (by assumption) | exact absurd z.2.1 (by assumption) | exact z.2.2 ⟨(by assumption), Or.inl (by assumption)⟩ | exact z.2.2 ⟨(by assumption), Or.inr (by assumption)⟩)])⟩
  · refine g_aload_n X 2 dX5_putOn_19 rfl rfl ?_
    refine g_get X 10 0 cm10 rfl 4 (by decide) hiX5 (by decide +kernel) rfl rfl dX5_putOn_20 ?_
    refine g_iload_n X 0 dX5_putOn_23 rfl rfl ?_
    refine g_iald X 12 0 cm12 ((k * (u 1 0)) / 4) (by omega) (by decide) rfl dX5_putOn_24 ?_
    refine g_if_eq X 29 dX5_putOn_25 (by decide) (n0_eq (by omega)) (fun c_2 => ?_) (fun c_2 => ?_)
    · refine g_aload_n X 2 dX5_putOn_29 rfl rfl ?_
      refine g_get X 10 0 cm10 rfl 8 (by decide) hiX5 (by decide +kernel) rfl rfl dX5_putOn_30 ?_
      refine g_iload_n X 1 dX5_putOn_33 rfl rfl ?_
      refine g_iald X 13 0 cm13 (mF u k (u 5 0)) (by omega) (by decide) rfl dX5_putOn_34 ?_
      refine g_iconst X (v := nI 2) dX5_putOn_35 (by decide) ?_
      refine g_icmp_ne X 61 dX5_putOn_36 (by decide) (Iff.rfl) (fun c_3 => ?_) (fun c_3 => ?_)
      · refine g_aload_n X 2 dX5_putOn_61 rfl rfl ?_
        refine g_get X 10 0 cm10 rfl 4 (by decide) hiX5 (by decide +kernel) rfl rfl dX5_putOn_62 ?_
        refine g_iload_n X 0 dX5_putOn_65 rfl rfl ?_
        refine g_iload_n X 1 dX5_putOn_66 rfl rfl ?_
        refine g_iast X 12 0 cm12 ((k * (u 1 0)) / 4) (by omega) (by decide) _ um_a12 dX5_putOn_67 ?_
        generalize hu_4 : st u 12 ((k * (u 1 0)) / 4) (mF u k (u 5 0)) = u_4
        have k1u_4 : u_4 1 0 = u 1 0 := by rw [← hu_4]; first | rfl | exact st_nf (by omega)
        refine g_aload_n X 2 dX5_putOn_68 rfl rfl ?_
        refine g_get X 10 0 cm10 rfl 8 (by decide) hiX5 (by decide +kernel) rfl rfl dX5_putOn_69 ?_
        refine g_iload_n X 1 dX5_putOn_72 rfl rfl ?_
        refine g_iald X 13 0 cm13 (mF u k (u 5 0)) (by omega) (by decide) rfl dX5_putOn_73 ?_
        refine g_iconst X (v := nI 2) dX5_putOn_74 (by decide) ?_
        refine g_icmp_ne X 89 dX5_putOn_75 (by decide) (Iff.rfl) (fun c_5 => ?_) (fun c_5 => ?_)
        · refine g_aload_n X 2 dX5_putOn_89 rfl rfl ?_
          refine g_get X 10 0 cm10 rfl 11 (by decide) hiX5 (by decide +kernel) rfl rfl dX5_putOn_90 ?_
          refine g_iload_n X 1 dX5_putOn_93 rfl rfl ?_
          refine g_aload_n X 2 dX5_putOn_94 rfl rfl ?_
          refine g_get X 10 0 cm10 rfl 3 (by decide) hiX5 (by decide +kernel) rfl rfl dX5_putOn_95 ?_
          refine g_iload_n X 0 dX5_putOn_98 rfl rfl ?_
          refine g_iald X 11 0 cm11 ((k * (u 1 0)) / 4) (by omega) (by decide) rfl dX5_putOn_99 ?_
          refine g_iast X 16 0 cm16 (mF u k (u 5 0)) (by omega) (by decide) _ um_a16 dX5_putOn_100 ?_
          generalize hu_6 : st u_4 16 (mF u k (u 5 0)) (u_4 11 ((k * (u 1 0)) / 4)) = u_6
          have k1u_6 : u_6 1 0 = u_4 1 0 := by rw [← hu_6]; first | rfl | exact st_nf (by omega)
          refine g_aload_n X 2 dX5_putOn_101 rfl rfl ?_
          refine g_get X 10 0 cm10 rfl 10 (by decide) hiX5 (by decide +kernel) rfl rfl dX5_putOn_102 ?_
          refine g_iload_n X 1 dX5_putOn_105 rfl rfl ?_
          refine g_iconst X (v := nI 1) dX5_putOn_106 (by decide) ?_
          refine g_iast X 15 0 cm15 (mF u k (u 5 0)) (by omega) (by decide) _ um_a15 dX5_putOn_107 ?_
          generalize hu_7 : st u_6 15 (mF u k (u 5 0)) 1 = u_7
          have k1u_7 : u_7 1 0 = u_6 1 0 := by rw [← hu_7]; first | rfl | exact st_nf (by omega)
          refine g_aload_n X 2 dX5_putOn_108 rfl rfl ?_
          refine g_get X 10 0 cm10 rfl 14 (by decide) hiX5 (by decide +kernel) rfl rfl dX5_putOn_109 ?_
          refine g_iload_n X 3 dX5_putOn_112 rfl rfl ?_
          refine g_dup2 X dX5_putOn_113 rfl rfl ?_
          refine g_lald X 19 0 cm19 k (by omega) (by decide) rfl dX5_putOn_114 ?_
          refine g_lconst X (v := lN 1) dX5_putOn_115 (by decide) ?_
          refine g_ladd X dX5_putOn_116 (lN_add _ _) ?_
          refine g_last X 19 0 cm19 k (by omega) (by decide) _ um_a19 dX5_putOn_117 ?_
          generalize hu_8 : st u_7 19 k ((u_7 19 k) + 1) = u_8
          have k1u_8 : u_8 1 0 = u_7 1 0 := by rw [← hu_8]; first | rfl | exact st_nf (by omega)
          exact g_vret X rfl dX5_putOn_118 ⟨rfl, rfl, congrArg _ (by subst hu_4; subst hu_6; subst hu_7; subst hu_8; rw [mPut, if_pos ⟨(by assumption), (by assumption), fun z => by first | exact absurd z.1 (by assumption) | exact z.2.elim (by assumption) (fun y => y (by assumption))⟩]; simp only [setLd, c_5, if_true, if_false])⟩
        · refine g_aload_n X 2 dX5_putOn_78 rfl rfl ?_
          refine g_get X 10 0 cm10 rfl 4 (by decide) hiX5 (by decide +kernel) rfl rfl dX5_putOn_79 ?_
          refine g_aload_n X 2 dX5_putOn_82 rfl rfl ?_
          refine g_iload_n X 0 dX5_putOn_83 rfl rfl ?_
          have hq_9 : mB u_4 ((k * (u 1 0)) / 4) < u_4 1 0 := mB_lt (by omega) (by omega)
          refine g_callDV1 (n := 1) X 10 0 [.int (nI ((k * (u 1 0)) / 4))] cm10 rfl (m_before ((k * (u 1 0)) / 4) (by omega) (by omega) (by omega)) gX5_putOn_X5_before rfl ⟨rfl, rfl⟩ (by decide +kernel) ⟨by decide, by decide⟩ rfl (Nat.le_of_ble_eq_true rfl) dX5_putOn_84 ⟨Nat.zero_le _, Nat.zero_le _⟩ _ rfl ?_
          refine g_iload_n X 1 dX5_putOn_87 rfl rfl ?_
          refine g_iast X 12 0 cm12 (mB u_4 ((k * (u 1 0)) / 4)) (by omega) (by decide) _ um_a12 dX5_putOn_88 ?_
          generalize hu_10 : st u_4 12 (mB u_4 ((k * (u 1 0)) / 4)) (mF u k (u 5 0)) = u_10
          have k1u_10 : u_10 1 0 = u_4 1 0 := by rw [← hu_10]; first | rfl | exact st_nf (by omega)
          refine g_aload_n X 2 dX5_putOn_89 rfl rfl ?_
          refine g_get X 10 0 cm10 rfl 11 (by decide) hiX5 (by decide +kernel) rfl rfl dX5_putOn_90 ?_
          refine g_iload_n X 1 dX5_putOn_93 rfl rfl ?_
          refine g_aload_n X 2 dX5_putOn_94 rfl rfl ?_
          refine g_get X 10 0 cm10 rfl 3 (by decide) hiX5 (by decide +kernel) rfl rfl dX5_putOn_95 ?_
          refine g_iload_n X 0 dX5_putOn_98 rfl rfl ?_
          refine g_iald X 11 0 cm11 ((k * (u 1 0)) / 4) (by omega) (by decide) rfl dX5_putOn_99 ?_
          refine g_iast X 16 0 cm16 (mF u k (u 5 0)) (by omega) (by decide) _ um_a16 dX5_putOn_100 ?_
          generalize hu_11 : st u_10 16 (mF u k (u 5 0)) (u_10 11 ((k * (u 1 0)) / 4)) = u_11
          have k1u_11 : u_11 1 0 = u_10 1 0 := by rw [← hu_11]; first | rfl | exact st_nf (by omega)
          refine g_aload_n X 2 dX5_putOn_101 rfl rfl ?_
          refine g_get X 10 0 cm10 rfl 10 (by decide) hiX5 (by decide +kernel) rfl rfl dX5_putOn_102 ?_
          refine g_iload_n X 1 dX5_putOn_105 rfl rfl ?_
          refine g_iconst X (v := nI 1) dX5_putOn_106 (by decide) ?_
          refine g_iast X 15 0 cm15 (mF u k (u 5 0)) (by omega) (by decide) _ um_a15 dX5_putOn_107 ?_
          generalize hu_12 : st u_11 15 (mF u k (u 5 0)) 1 = u_12
          have k1u_12 : u_12 1 0 = u_11 1 0 := by rw [← hu_12]; first | rfl | exact st_nf (by omega)
          refine g_aload_n X 2 dX5_putOn_108 rfl rfl ?_
          refine g_get X 10 0 cm10 rfl 14 (by decide) hiX5 (by decide +kernel) rfl rfl dX5_putOn_109 ?_
          refine g_iload_n X 3 dX5_putOn_112 rfl rfl ?_
          refine g_dup2 X dX5_putOn_113 rfl rfl ?_
          refine g_lald X 19 0 cm19 k (by omega) (by decide) rfl dX5_putOn_114 ?_
          refine g_lconst X (v := lN 1) dX5_putOn_115 (by decide) ?_
          refine g_ladd X dX5_putOn_116 (lN_add _ _) ?_
          refine g_last X 19 0 cm19 k (by omega) (by decide) _ um_a19 dX5_putOn_117 ?_
          generalize hu_13 : st u_12 19 k ((u_12 19 k) + 1) = u_13
          have k1u_13 : u_13 1 0 = u_12 1 0 := by rw [← hu_13]; first | rfl | exact st_nf (by omega)
          exact g_vret X rfl dX5_putOn_118 ⟨rfl, rfl, congrArg _ (by subst hu_4; subst hu_10; subst hu_11; subst hu_12; subst hu_13; rw [mPut, if_pos ⟨(by assumption), (by assumption), fun z => by first | exact absurd z.1 (by assumption) | exact z.2.elim (by assumption) (fun y => y (by assumption))⟩]; simp only [setLd, c_5, if_true, if_false])⟩
      · refine g_aload_n X 2 dX5_putOn_39 rfl rfl ?_
        refine g_get X 10 0 cm10 rfl 1 (by decide) hiX5 (by decide +kernel) rfl rfl dX5_putOn_40 ?_
        refine g_iconst X (v := nI 1) dX5_putOn_43 (by decide) ?_
        refine g_icmp_eq X 60 dX5_putOn_44 (by decide) (nI_eq (by omega) (by omega)) (fun c_14 => ?_) (fun c_14 => ?_)
        · exact g_vret X rfl dX5_putOn_60 ⟨rfl, rfl, congrArg _ (by rw [mPut, if_neg (fun z => by first | exact z.1 (by assumption) | exact absurd z.2.1 (by assumption) | exact z.2.2 ⟨(by assumption), Or.inl (by assumption)⟩ | exact z.2.2 ⟨(by assumption), Or.inr (by assumption)⟩)])⟩
        · refine g_aload_n X 2 dX5_putOn_47 rfl rfl ?_
          refine g_get X 10 0 cm10 rfl 4 (by decide) hiX5 (by decide +kernel) rfl rfl dX5_putOn_48 ?_
          refine g_aload_n X 2 dX5_putOn_51 rfl rfl ?_
          refine g_iload_n X 0 dX5_putOn_52 rfl rfl ?_
          have hq_15 : mB u ((k * (u 1 0)) / 4) < u 1 0 := mB_lt (by omega) (by omega)
          refine g_callDV1 (n := 1) X 10 0 [.int (nI ((k * (u 1 0)) / 4))] cm10 rfl (m_before ((k * (u 1 0)) / 4) (by omega) (by omega) (by omega)) gX5_putOn_X5_before rfl ⟨rfl, rfl⟩ (by decide +kernel) ⟨by decide, by decide⟩ rfl (Nat.le_of_ble_eq_true rfl) dX5_putOn_53 ⟨Nat.zero_le _, Nat.zero_le _⟩ _ rfl ?_
          refine g_iald X 12 0 cm12 (mB u ((k * (u 1 0)) / 4)) (by omega) (by decide) rfl dX5_putOn_56 ?_
          have hv8 := hJ6 (mB u (k * u 1 0 / 4))
          refine g_if_eq X 61 dX5_putOn_57 (by decide) (n0_eq (by omega)) (fun c_16 => ?_) (fun c_16 => ?_)
          · refine g_aload_n X 2 dX5_putOn_61 rfl rfl ?_
            refine g_get X 10 0 cm10 rfl 4 (by decide) hiX5 (by decide +kernel) rfl rfl dX5_putOn_62 ?_
            refine g_iload_n X 0 dX5_putOn_65 rfl rfl ?_
            refine g_iload_n X 1 dX5_putOn_66 rfl rfl ?_
            refine g_iast X 12 0 cm12 ((k * (u 1 0)) / 4) (by omega) (by decide) _ um_a12 dX5_putOn_67 ?_
            generalize hu_17 : st u 12 ((k * (u 1 0)) / 4) (mF u k (u 5 0)) = u_17
            have k1u_17 : u_17 1 0 = u 1 0 := by rw [← hu_17]; first | rfl | exact st_nf (by omega)
            refine g_aload_n X 2 dX5_putOn_68 rfl rfl ?_
            refine g_get X 10 0 cm10 rfl 8 (by decide) hiX5 (by decide +kernel) rfl rfl dX5_putOn_69 ?_
            refine g_iload_n X 1 dX5_putOn_72 rfl rfl ?_
            refine g_iald X 13 0 cm13 (mF u k (u 5 0)) (by omega) (by decide) rfl dX5_putOn_73 ?_
            refine g_iconst X (v := nI 2) dX5_putOn_74 (by decide) ?_
            refine g_icmp_ne X 89 dX5_putOn_75 (by decide) (Iff.rfl) (fun c_18 => ?_) (fun c_18 => ?_)
            · refine g_aload_n X 2 dX5_putOn_89 rfl rfl ?_
              refine g_get X 10 0 cm10 rfl 11 (by decide) hiX5 (by decide +kernel) rfl rfl dX5_putOn_90 ?_
              refine g_iload_n X 1 dX5_putOn_93 rfl rfl ?_
              refine g_aload_n X 2 dX5_putOn_94 rfl rfl ?_
              refine g_get X 10 0 cm10 rfl 3 (by decide) hiX5 (by decide +kernel) rfl rfl dX5_putOn_95 ?_
              refine g_iload_n X 0 dX5_putOn_98 rfl rfl ?_
              refine g_iald X 11 0 cm11 ((k * (u 1 0)) / 4) (by omega) (by decide) rfl dX5_putOn_99 ?_
              refine g_iast X 16 0 cm16 (mF u k (u 5 0)) (by omega) (by decide) _ um_a16 dX5_putOn_100 ?_
              generalize hu_19 : st u_17 16 (mF u k (u 5 0)) (u_17 11 ((k * (u 1 0)) / 4)) = u_19
              have k1u_19 : u_19 1 0 = u_17 1 0 := by rw [← hu_19]; first | rfl | exact st_nf (by omega)
              refine g_aload_n X 2 dX5_putOn_101 rfl rfl ?_
              refine g_get X 10 0 cm10 rfl 10 (by decide) hiX5 (by decide +kernel) rfl rfl dX5_putOn_102 ?_
              refine g_iload_n X 1 dX5_putOn_105 rfl rfl ?_
              refine g_iconst X (v := nI 1) dX5_putOn_106 (by decide) ?_
              refine g_iast X 15 0 cm15 (mF u k (u 5 0)) (by omega) (by decide) _ um_a15 dX5_putOn_107 ?_
              generalize hu_20 : st u_19 15 (mF u k (u 5 0)) 1 = u_20
              have k1u_20 : u_20 1 0 = u_19 1 0 := by rw [← hu_20]; first | rfl | exact st_nf (by omega)
              refine g_aload_n X 2 dX5_putOn_108 rfl rfl ?_
              refine g_get X 10 0 cm10 rfl 14 (by decide) hiX5 (by decide +kernel) rfl rfl dX5_putOn_109 ?_
              refine g_iload_n X 3 dX5_putOn_112 rfl rfl ?_
              refine g_dup2 X dX5_putOn_113 rfl rfl ?_
              refine g_lald X 19 0 cm19 k (by omega) (by decide) rfl dX5_putOn_114 ?_
              refine g_lconst X (v := lN 1) dX5_putOn_115 (by decide) ?_
              refine g_ladd X dX5_putOn_116 (lN_add _ _) ?_
              refine g_last X 19 0 cm19 k (by omega) (by decide) _ um_a19 dX5_putOn_117 ?_
              generalize hu_21 : st u_20 19 k ((u_20 19 k) + 1) = u_21
              have k1u_21 : u_21 1 0 = u_20 1 0 := by rw [← hu_21]; first | rfl | exact st_nf (by omega)
              exact g_vret X rfl dX5_putOn_118 ⟨rfl, rfl, congrArg _ (by subst hu_17; subst hu_19; subst hu_20; subst hu_21; rw [mPut, if_pos ⟨(by assumption), (by assumption), fun z => by first | exact absurd z.1 (by assumption) | exact z.2.elim (by assumption) (fun y => y (by assumption))⟩]; simp only [setLd, c_18, if_true, if_false])⟩
            · refine g_aload_n X 2 dX5_putOn_78 rfl rfl ?_
              refine g_get X 10 0 cm10 rfl 4 (by decide) hiX5 (by decide +kernel) rfl rfl dX5_putOn_79 ?_
              refine g_aload_n X 2 dX5_putOn_82 rfl rfl ?_
              refine g_iload_n X 0 dX5_putOn_83 rfl rfl ?_
              have hq_22 : mB u_17 ((k * (u 1 0)) / 4) < u_17 1 0 := mB_lt (by omega) (by omega)
              refine g_callDV1 (n := 1) X 10 0 [.int (nI ((k * (u 1 0)) / 4))] cm10 rfl (m_before ((k * (u 1 0)) / 4) (by omega) (by omega) (by omega)) gX5_putOn_X5_before rfl ⟨rfl, rfl⟩ (by decide +kernel) ⟨by decide, by decide⟩ rfl (Nat.le_of_ble_eq_true rfl) dX5_putOn_84 ⟨Nat.zero_le _, Nat.zero_le _⟩ _ rfl ?_
              refine g_iload_n X 1 dX5_putOn_87 rfl rfl ?_
              refine g_iast X 12 0 cm12 (mB u_17 ((k * (u 1 0)) / 4)) (by omega) (by decide) _ um_a12 dX5_putOn_88 ?_
              generalize hu_23 : st u_17 12 (mB u_17 ((k * (u 1 0)) / 4)) (mF u k (u 5 0)) = u_23
              have k1u_23 : u_23 1 0 = u_17 1 0 := by rw [← hu_23]; first | rfl | exact st_nf (by omega)
              refine g_aload_n X 2 dX5_putOn_89 rfl rfl ?_
              refine g_get X 10 0 cm10 rfl 11 (by decide) hiX5 (by decide +kernel) rfl rfl dX5_putOn_90 ?_
              refine g_iload_n X 1 dX5_putOn_93 rfl rfl ?_
              refine g_aload_n X 2 dX5_putOn_94 rfl rfl ?_
              refine g_get X 10 0 cm10 rfl 3 (by decide) hiX5 (by decide +kernel) rfl rfl dX5_putOn_95 ?_
              refine g_iload_n X 0 dX5_putOn_98 rfl rfl ?_
              refine g_iald X 11 0 cm11 ((k * (u 1 0)) / 4) (by omega) (by decide) rfl dX5_putOn_99 ?_
              refine g_iast X 16 0 cm16 (mF u k (u 5 0)) (by omega) (by decide) _ um_a16 dX5_putOn_100 ?_
              generalize hu_24 : st u_23 16 (mF u k (u 5 0)) (u_23 11 ((k * (u 1 0)) / 4)) = u_24
              have k1u_24 : u_24 1 0 = u_23 1 0 := by rw [← hu_24]; first | rfl | exact st_nf (by omega)
              refine g_aload_n X 2 dX5_putOn_101 rfl rfl ?_
              refine g_get X 10 0 cm10 rfl 10 (by decide) hiX5 (by decide +kernel) rfl rfl dX5_putOn_102 ?_
              refine g_iload_n X 1 dX5_putOn_105 rfl rfl ?_
              refine g_iconst X (v := nI 1) dX5_putOn_106 (by decide) ?_
              refine g_iast X 15 0 cm15 (mF u k (u 5 0)) (by omega) (by decide) _ um_a15 dX5_putOn_107 ?_
              generalize hu_25 : st u_24 15 (mF u k (u 5 0)) 1 = u_25
              have k1u_25 : u_25 1 0 = u_24 1 0 := by rw [← hu_25]; first | rfl | exact st_nf (by omega)
              refine g_aload_n X 2 dX5_putOn_108 rfl rfl ?_
              refine g_get X 10 0 cm10 rfl 14 (by decide) hiX5 (by decide +kernel) rfl rfl dX5_putOn_109 ?_
              refine g_iload_n X 3 dX5_putOn_112 rfl rfl ?_
              refine g_dup2 X dX5_putOn_113 rfl rfl ?_
              refine g_lald X 19 0 cm19 k (by omega) (by decide) rfl dX5_putOn_114 ?_
              refine g_lconst X (v := lN 1) dX5_putOn_115 (by decide) ?_
              refine g_ladd X dX5_putOn_116 (lN_add _ _) ?_
              refine g_last X 19 0 cm19 k (by omega) (by decide) _ um_a19 dX5_putOn_117 ?_
              generalize hu_26 : st u_25 19 k ((u_25 19 k) + 1) = u_26
              have k1u_26 : u_26 1 0 = u_25 1 0 := by rw [← hu_26]; first | rfl | exact st_nf (by omega)
              exact g_vret X rfl dX5_putOn_118 ⟨rfl, rfl, congrArg _ (by subst hu_17; subst hu_23; subst hu_24; subst hu_25; subst hu_26; rw [mPut, if_pos ⟨(by assumption), (by assumption), fun z => by first | exact absurd z.1 (by assumption) | exact z.2.elim (by assumption) (fun y => y (by assumption))⟩]; simp only [setLd, c_18, if_true, if_false])⟩
          · exact g_vret X rfl dX5_putOn_60 ⟨rfl, rfl, congrArg _ (by rw [mPut, if_neg (fun z => by first | exact z.1 (by assumption) | exact absurd z.2.1 (by assumption) | exact z.2.2 ⟨(by assumption), Or.inl (by assumption)⟩ | exact z.2.2 ⟨(by assumption), Or.inr (by assumption)⟩)])⟩
    · exact g_vret X rfl dX5_putOn_28 ⟨rfl, rfl, congrArg _ (by rw [mPut, if_neg (fun z => by first | exact z.1 (by assumption) | exact absurd z.2.1 (by assumption) | exact z.2.2 ⟨(by assumption), Or.inl (by assumption)⟩ | exact z.2.2 ⟨(by assumption), Or.inr (by assumption)⟩)])⟩
