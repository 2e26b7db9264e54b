set_option maxRecDepth 100000 in
set_option maxHeartbeats 4000000 in
/-- the loop of turns at 31 -/
theorem l_turns3 {l : Launch} {D : va_G} {ta : Nat → ClassId} {pl : Nat → Nat} {bs : Nat} {al : Ad} {Z : Wo} {p : Program} {e : Env} {s : State} {m : MethodId} {args : Array Value} {below : List Frame} {meth : Method} {c : Code} {Q : State → Prop} {u : St} (X : Cx D ta pl bs 4 p s m args meth c cX5_turns wsX5_turns RX5 none) (t : Nat) (hnz : mNx u 4 ≠ 0) (K9 : WW D bs 4 p l e (rmF 2 46) s m args below meth c Q al (mM Z ta al u) 0 0 73 [(3, .int (nI 4)), (2, .int (nI (mNx u 4 - 1))), (1, .int (nI t)), (0, .ref (al 10 0))] []) : ∀ (n9 i : Nat), i ≤ 4 → 4 + 1 ≤ i + n9 → WW D bs 4 p l e (rmF 2 46) s m args below meth c Q al (mM Z ta al u) 0 0 31 [(3, .int (nI i)), (2, .int (rM (mNx u i))), (1, .int (nI t)), (0, .ref (al 10 0))] [] := by
  have hiX5 : ∀ w ∈ u_ws RX5 TX5 22, w ∈ wsX5_turns := by decide +kernel
  intro n9
  induction n9 with
  | zero => intro i h8 h9; exact absurd h9 (by omega)
  | succ n9 ih =>
    intro i h8 h9
    have hn9 := mNx_le (v := u) i
    by_cases hz : mNx u i = 0
    · rw [rM_0 hz]
      refine g_iload_n X 0 dX5_turns_31 rfl rfl ?_
      refine g_iconst X (v := nI 4) dX5_turns_32 (by decide) ?_
      refine g_icmp_ge X 73 dX5_turns_33 (by decide) (nI_leI (by omega) (by omega)) (fun c_1 => ?_) (fun c_1 => ?_)
      · have e9 : i = 4 := by omega
        subst e9
        exact absurd hz hnz
      · refine g_aload_n X 3 dX5_turns_36 rfl rfl ?_
        refine g_get X 10 0 cm10 rfl 21 (by decide) hiX5 (by decide +kernel) rfl rfl dX5_turns_37 ?_
        refine g_iload_n X 0 dX5_turns_40 rfl rfl ?_
        refine g_zald X 25 0 cm25 i (by omega) (by decide) rfl dX5_turns_41 ?_
        refine g_if_ne X 67 dX5_turns_42 (by decide) (Iff.rfl) (fun c_2 => ?_) (fun c_2 => ?_)
        · refine g_iinc X 0 [(3, .int (nI (i + 1))), (2, .int (-1)), (1, .int (nI t)), (0, .ref (al 10 0))] dX5_turns_67 rfl (nI_inc (by decide)) (by decide) rfl ?_
          refine g_goto X 31 dX5_turns_70 (by decide) ?_
          refine g_lv [0, 1, 2, 3] rfl ?_
          have e9 : rM (mNx u (i + 1)) = (-1) := by rw [mNx, if_neg (fun z => c_2 z.1)]; exact rM_0 hz
          have q9 := ih (i + 1) (by omega) (by omega)
          rw [e9] at q9
          exact q9
        · refine g_iload_n X 1 dX5_turns_45 rfl rfl ?_
          refine g_if_lt X 65 dX5_turns_46 (by decide) (Iff.rfl) (fun c_3 => ?_) (fun c_3 => ?_)
          · refine g_iload_n X 0 dX5_turns_65 rfl rfl ?_
            refine g_istore_n X [(2, .int (nI i)), (3, .int (nI i)), (1, .int (nI t)), (0, .ref (al 10 0))] dX5_turns_66 rfl (by decide) rfl ?_
            refine g_iinc X 1 [(3, .int (nI (i + 1))), (2, .int (nI i)), (1, .int (nI t)), (0, .ref (al 10 0))] dX5_turns_67 rfl (nI_inc (by decide)) (by decide) rfl ?_
            refine g_goto X 31 dX5_turns_70 (by decide) ?_
            refine g_lv [0, 1, 2, 3] rfl ?_
            have e9 : rM (mNx u (i + 1)) = (nI i) := by rw [mNx, if_pos ⟨c_2, Or.inl hz⟩]; exact rM_p (by omega)
            have q9 := ih (i + 1) (by omega) (by omega)
            rw [e9] at q9
            exact q9
          · exact absurd (by decide) c_3
    · rw [rM_p hz]
      refine g_iload_n X 0 dX5_turns_31 rfl rfl ?_
      refine g_iconst X (v := nI 4) dX5_turns_32 (by decide) ?_
      refine g_icmp_ge X 73 dX5_turns_33 (by decide) (nI_leI (by omega) (by omega)) (fun c_1 => ?_) (fun c_1 => ?_)
      · have e9 : i = 4 := by omega
        subst e9
        refine g_lv [0, 1, 2, 3] rfl ?_
        exact K9
      · refine g_aload_n X 3 dX5_turns_36 rfl rfl ?_
        refine g_get X 10 0 cm10 rfl 21 (by decide) hiX5 (by decide +kernel) rfl rfl dX5_turns_37 ?_
        refine g_iload_n X 0 dX5_turns_40 rfl rfl ?_
        refine g_zald X 25 0 cm25 i (by omega) (by decide) rfl dX5_turns_41 ?_
        refine g_if_ne X 67 dX5_turns_42 (by decide) (Iff.rfl) (fun c_2 => ?_) (fun c_2 => ?_)
        · refine g_iinc X 0 [(3, .int (nI (i + 1))), (2, .int (nI (mNx u i - 1))), (1, .int (nI t)), (0, .ref (al 10 0))] dX5_turns_67 rfl (nI_inc (by decide)) (by decide) rfl ?_
          refine g_goto X 31 dX5_turns_70 (by decide) ?_
          refine g_lv [0, 1, 2, 3] rfl ?_
          have e9 : rM (mNx u (i + 1)) = (nI (mNx u i - 1)) := by rw [mNx, if_neg (fun z => c_2 z.1)]; exact rM_p hz
          have q9 := ih (i + 1) (by omega) (by omega)
          rw [e9] at q9
          exact q9
        · refine g_iload_n X 1 dX5_turns_45 rfl rfl ?_
          refine g_if_lt X 65 dX5_turns_46 (by decide) (n0_lt (by omega)) (fun c_3 => ?_) (fun c_3 => ?_)
          · exact absurd c_3 (fun z => z)
          · refine g_aload_n X 3 dX5_turns_49 rfl rfl ?_
            refine g_get X 10 0 cm10 rfl 14 (by decide) hiX5 (by decide +kernel) rfl rfl dX5_turns_50 ?_
            refine g_iload_n X 0 dX5_turns_53 rfl rfl ?_
            refine g_lald X 19 0 cm19 i (by omega) (by decide) rfl dX5_turns_54 ?_
            refine g_aload_n X 3 dX5_turns_55 rfl rfl ?_
            refine g_get X 10 0 cm10 rfl 14 (by decide) hiX5 (by decide +kernel) rfl rfl dX5_turns_56 ?_
            refine g_iload_n X 1 dX5_turns_59 rfl rfl ?_
            refine g_lald X 19 0 cm19 (mNx u i - 1) (by omega) (by decide) rfl dX5_turns_60 ?_
            refine g_lcmp X dX5_turns_61 ?_
            refine g_if_ge X 67 dX5_turns_62 (by decide) (lg_ge) (fun c_4 => ?_) (fun c_4 => ?_)
            · refine g_iinc X 0 [(3, .int (nI (i + 1))), (2, .int (nI (mNx u i - 1))), (1, .int (nI t)), (0, .ref (al 10 0))] dX5_turns_67 rfl (nI_inc (by decide)) (by decide) rfl ?_
              refine g_goto X 31 dX5_turns_70 (by decide) ?_
              refine g_lv [0, 1, 2, 3] rfl ?_
              have e9 : rM (mNx u (i + 1)) = (nI (mNx u i - 1)) := by rw [mNx, if_neg (fun z => z.2.elim hz c_4)]; exact rM_p hz
              have q9 := ih (i + 1) (by omega) (by omega)
              rw [e9] at q9
              exact q9
            · refine g_iload_n X 0 dX5_turns_65 rfl rfl ?_
              refine g_istore_n X [(2, .int (nI i)), (3, .int (nI i)), (1, .int (nI t)), (0, .ref (al 10 0))] dX5_turns_66 rfl (by decide) rfl ?_
              refine g_iinc X 1 [(3, .int (nI (i + 1))), (2, .int (nI i)), (1, .int (nI t)), (0, .ref (al 10 0))] dX5_turns_67 rfl (nI_inc (by decide)) (by decide) rfl ?_
              refine g_goto X 31 dX5_turns_70 (by decide) ?_
              refine g_lv [0, 1, 2, 3] rfl ?_
              have e9 : rM (mNx u (i + 1)) = (nI i) := by rw [mNx, if_pos ⟨c_2, Or.inr (Decidable.of_not_not c_4)⟩]; exact rM_p (by omega)
              have q9 := ih (i + 1) (by omega) (by omega)
              rw [e9] at q9
              exact q9

set_option maxRecDepth 100000 in
set_option maxHeartbeats 4000000 in
/-- the loop of turns at 22 -/
theorem l_turns2 {l : Launch} {D : va_G} {ta : Nat → ClassId} {pl : Nat → Nat} {bs : Nat} {al : Ad} {Z : Wo} {p : Program} {e : Env} {s : State} {m : MethodId} {args : Array Value} {below : List Frame} {meth : Method} {c : Code} {u : St} (X : Cx D ta pl bs 4 p s m args meth c cX5_turns wsX5_turns RX5 none)  (h0 : Jv u) : ∀ (n9 i : Nat), i ≤ 4 → 4 + 1 ≤ i + n9 → WW D bs 4 p l e (rmF 2 46) s m args below meth c (QQ D bs below args s 0 0 (fun r al' C' => r = none ∧ al' = al ∧ C' = mM Z ta al (mTake u))) al (mM Z ta al (mTuN i (mClr 4 u))) 0 0 22 [(1, .int (nI i)), (0, .ref (al 10 0))] [] := by
  have hiX5 : ∀ w ∈ u_ws RX5 TX5 22, w ∈ wsX5_turns := by decide +kernel
  intro n9
  induction n9 with
  | zero => intro i h8 h9; exact absurd h9 (by omega)
  | succ n9 ih =>
    intro i h8 h9
    have hI := Jv_TuN h0 i h8
    have hnz : i < 4 → mNx (mTuN i (mClr 4 u)) 4 ≠ 0 := fun h => mNx_ok h
    generalize hw : mTuN i (mClr 4 u) = w at *
    have hn9 := mNx_le (v := w) 4
    refine g_iload_n X 0 dX5_turns_22 rfl rfl ?_
    refine g_iconst X (v := nI 4) dX5_turns_23 (by decide) ?_
    refine g_icmp_ge X 91 dX5_turns_24 (by decide) (nI_leI (by omega) (by omega)) (fun c_1 => ?_) (fun c_1 => ?_)
    · exact g_vret X rfl dX5_turns_91 ⟨rfl, rfl, by subst hw; have e9 : i = 4 := (by omega); rw [e9]; rfl⟩
    · refine g_iconst X (v := -1) dX5_turns_27 (by decide) ?_
      refine g_istore_n X [(2, .int (-1)), (1, .int (nI i)), (0, .ref (al 10 0))] dX5_turns_28 rfl (by decide) rfl ?_
      refine g_iconst X (v := nI 0) dX5_turns_29 (by decide) ?_
      refine g_istore_n X [(3, .int (nI 0)), (2, .int (-1)), (1, .int (nI i)), (0, .ref (al 10 0))] dX5_turns_30 rfl (by decide) rfl ?_
      refine g_lv (lv' := [(3, .int (nI 0)), (2, .int (-1)), (1, .int (nI i)), (0, .ref (al 10 0))]) [0, 1, 2, 3] rfl ?_
      refine l_turns3 X i (hnz (by omega)) ?_ 5 0 (Nat.zero_le _) (Nat.le_refl _)
      refine g_aload_n X 3 dX5_turns_73 rfl rfl ?_
      refine g_get X 10 0 cm10 rfl 21 (by decide) hiX5 (by decide +kernel) rfl rfl dX5_turns_74 ?_
      refine g_iload_n X 1 dX5_turns_77 rfl rfl ?_
      refine g_iconst X (v := nI 1) dX5_turns_78 (by decide) ?_
      refine g_zast X 25 0 cm25 (mNx w 4 - 1) (by omega) (by decide) (by decide) _ um_a25 dX5_turns_79 ?_
      generalize hu_2 : st w 25 (mNx w 4 - 1) 1 = u_2
      refine g_aload_n X 3 dX5_turns_80 rfl rfl ?_
      refine g_iload_n X 1 dX5_turns_81 rfl rfl ?_
      refine g_callDV0 (n := 1) X 10 0 [.int (nI (mNx w 4 - 1))] cm10 rfl (m_putOn (mNx w 4 - 1) (by rw [← hu_2]; exact Jv_had hI) (by omega)) gX5_turns_X5_putOn rfl ⟨rfl, rfl⟩ (by decide +kernel) ⟨by decide, by decide⟩ rfl (Nat.le_of_ble_eq_true rfl) dX5_turns_82 ⟨Nat.zero_le _, Nat.zero_le _⟩ _ rfl ?_
      generalize hu_3 : mPut u_2 (mNx w 4 - 1) = u_3
      refine g_iinc X 2 [(1, .int (nI (i + 1))), (3, .int (nI 4)), (2, .int (nI (mNx w 4 - 1))), (0, .ref (al 10 0))] dX5_turns_85 rfl (nI_inc (by decide)) (by decide) rfl ?_
      refine g_goto X 22 dX5_turns_88 (by decide) ?_
      refine g_lv [0, 3] rfl ?_
      have e9 : mTuN (i + 1) (mClr 4 u) = u_3 := by show mTurn (mTuN i (mClr 4 u)) = _; rw [hw, mTurn, hu_2]; exact hu_3
      have q9 := ih (i + 1) (by omega) (by omega)
      rw [e9] at q9
      exact q9

set_option maxRecDepth 100000 in
set_option maxHeartbeats 4000000 in
/-- the loop of turns at 2 -/
theorem l_turns1 {l : Launch} {D : va_G} {ta : Nat → ClassId} {pl : Nat → Nat} {bs : Nat} {al : Ad} {Z : Wo} {p : Program} {e : Env} {s : State} {m : MethodId} {args : Array Value} {below : List Frame} {meth : Method} {c : Code} {u : St} (X : Cx D ta pl bs 4 p s m args meth c cX5_turns wsX5_turns RX5 none)  (h0 : Jv u) : ∀ (n9 i : Nat), i ≤ 4 → 4 + 1 ≤ i + n9 → WW D bs 4 p l e (rmF 2 46) s m args below meth c (QQ D bs below args s 0 0 (fun r al' C' => r = none ∧ al' = al ∧ C' = mM Z ta al (mTake u))) al (mM Z ta al (mClr i u)) 0 0 2 [(1, .int (nI i)), (0, .ref (al 10 0))] [] := by
  have hiX5 : ∀ w ∈ u_ws RX5 TX5 22, w ∈ wsX5_turns := by decide +kernel
  intro n9
  induction n9 with
  | zero => intro i h8 h9; exact absurd h9 (by omega)
  | succ n9 ih =>
    intro i h8 h9
    generalize hw : mClr i u = w at *
    refine g_iload_n X 0 dX5_turns_2 rfl rfl ?_
    refine g_iconst X (v := nI 4) dX5_turns_3 (by decide) ?_
    refine g_icmp_ge X 20 dX5_turns_4 (by decide) (nI_leI (by omega) (by omega)) (fun c_1 => ?_) (fun c_1 => ?_)
    · refine g_iconst X (v := nI 0) dX5_turns_20 (by decide) ?_
      refine g_istore_n X [(1, .int (nI 0)), (0, .ref (al 10 0))] dX5_turns_21 rfl (by decide) rfl ?_
      refine g_lv [0, 1] rfl ?_
      have e9 : i = 4 := by omega
      subst e9
      subst hw
      exact l_turns2 X h0 5 0 (Nat.zero_le _) (Nat.le_refl _)
    · refine g_aload_n X 1 dX5_turns_7 rfl rfl ?_
      refine g_get X 10 0 cm10 rfl 21 (by decide) hiX5 (by decide +kernel) rfl rfl dX5_turns_8 ?_
      refine g_iload_n X 0 dX5_turns_11 rfl rfl ?_
      refine g_iconst X (v := nI 0) dX5_turns_12 (by decide) ?_
      refine g_zast X 25 0 cm25 i (by omega) (by decide) (by decide) _ um_a25 dX5_turns_13 ?_
      generalize hu_2 : st w 25 i 0 = u_2
      refine g_iinc X 0 [(1, .int (nI (i + 1))), (0, .ref (al 10 0))] dX5_turns_14 rfl (nI_inc (by decide)) (by decide) rfl ?_
      refine g_goto X 2 dX5_turns_17 (by decide) ?_
      refine g_lv [0, 1] rfl ?_
      subst hu_2
      subst hw
      exact ih (i + 1) (by omega) (by omega)

set_option maxRecDepth 100000 in
set_option maxHeartbeats 4000000 in
/-- turns -/
theorem m_turns {l : Launch} {D : va_G} {ta : Nat → ClassId} {pl : Nat → Nat} {bs : Nat} {al : Ad} {Z : Wo} {u : St}  (h0 : Jv u) : GD l D ta pl bs yX5_turns wsX5_turns (rmF 2 46) [.ref (al 10 0)] al (mM Z ta al u) none (mM Z ta al (mTake u)) := by
  refine GM.of (by decide) rfl (Nat.le_of_ble_eq_true rfl) ?_
  intro p e s m args below meth c X hnm
  refine g_lv (lv' := [(0, .ref (al 10 0))]) [0] rfl ?_
  refine g_iconst X (v := nI 0) dX5_turns_0 (by decide) ?_
  refine g_istore_n X [(1, .int (nI 0)), (0, .ref (al 10 0))] dX5_turns_1 rfl (by decide) rfl ?_
  refine g_lv [0, 1] rfl ?_
  exact l_turns1 X h0 5 0 (Nat.zero_le _) (Nat.le_refl _)

set_option maxRecDepth 100000 in
set_option maxHeartbeats 4000000 in
/-- the loop of step at 50 -/
theorem l_step3 {l : Launch} {D : va_G} {ta : Nat → ClassId} {pl : Nat → Nat} {bs : Nat} {al : Ad} {Z : Wo} {p : Program} {e : Env} {s : State} {m : MethodId} {args : Array Value} {below : List Frame} {meth : Method} {c : Code} {Q : State → Prop} {u : St} (X : Cx D ta pl bs 6 p s m args meth c cX5_step wsX5_step RX5 (some .int)) (a b g n : Nat) (h0 : Jv u) (K9 : WW D bs 6 p l e (rmF 3 69) s m args below meth c Q al (mM Z ta al (mPN 16 u)) 0 0 69 [(5, .int (nI 16)), (4, .int (nI a)), (3, .int (nI b)), (2, .int (nI g)), (1, .int (nI n)), (0, .ref (al 10 0))] []) : ∀ (n9 i : Nat), i ≤ 16 → 16 + 1 ≤ i + n9 → WW D bs 6 p l e (rmF 3 69) s m args below meth c Q al (mM Z ta al (mPN i u)) 0 0 50 [(5, .int (nI i)), (4, .int (nI a)), (3, .int (nI b)), (2, .int (nI g)), (1, .int (nI n)), (0, .ref (al 10 0))] [] := by
  intro n9
  induction n9 with
  | zero => intro i h8 h9; exact absurd h9 (by omega)
  | succ n9 ih =>
    intro i h8 h9
    have hJ := Jv_PN h0 i h8
    generalize hw : mPN i u = w at *
    refine g_iload X 0 dX5_step_50 rfl ?_
    refine g_bipush X (v := nI 16) dX5_step_52 (by decide) ?_
    refine g_icmp_ge X 69 dX5_step_54 (by decide) (nI_leI (by omega) (by omega)) (fun c_1 => ?_) (fun c_1 => ?_)
    · have e9 : i = 16 := by omega
      subst e9
      subst hw
      refine g_lv [0, 1, 2, 3, 4, 5] rfl ?_
      exact K9
    · refine g_aload_n X 5 dX5_step_57 rfl rfl ?_
      refine g_iload X 0 dX5_step_58 rfl ?_
      refine g_callDV0 (n := 1) X 10 0 [.int (nI i)] cm10 rfl (m_passChute i hJ (by omega)) gX5_step_X5_passChute rfl ⟨rfl, rfl⟩ (by decide +kernel) ⟨by decide, by decide⟩ rfl (Nat.le_of_ble_eq_true rfl) dX5_step_60 ⟨Nat.zero_le _, Nat.zero_le _⟩ _ rfl ?_
      generalize hu_2 : mPass w i = u_2
      refine g_iinc X 0 [(5, .int (nI (i + 1))), (4, .int (nI a)), (3, .int (nI b)), (2, .int (nI g)), (1, .int (nI n)), (0, .ref (al 10 0))] dX5_step_63 rfl (nI_inc (by decide)) (by decide) rfl ?_
      refine g_goto X 50 dX5_step_66 (by decide) ?_
      refine g_lv [0, 1, 2, 3, 4, 5] rfl ?_
      have e9 : mPN (i + 1) u = u_2 := by show mPass (mPN i u) i = _; rw [hw]; exact hu_2
      have q9 := ih (i + 1) (by omega) (by omega)
      rw [e9] at q9
      exact q9

set_option maxRecDepth 100000 in
set_option maxHeartbeats 4000000 in
/-- the loop of step at 34 -/
theorem l_step2 {l : Launch} {D : va_G} {ta : Nat → ClassId} {pl : Nat → Nat} {bs : Nat} {al : Ad} {Z : Wo} {p : Program} {e : Env} {s : State} {m : MethodId} {args : Array Value} {below : List Frame} {meth : Method} {c : Code} {Q : State → Prop} {u : St} (X : Cx D ta pl bs 6 p s m args meth c cX5_step wsX5_step RX5 (some .int)) (b g n : Nat) (h0 : Jv u) (K9 : WW D bs 6 p l e (rmF 3 69) s m args below meth c Q al (mM Z ta al (mMvN (u 3 0) u)) 0 0 75 [(4, .int (nI (u 3 0))), (3, .int (nI b)), (2, .int (nI g)), (1, .int (nI n)), (0, .ref (al 10 0))] []) : ∀ (n9 i : Nat), i ≤ u 3 0 → u 3 0 + 1 ≤ i + n9 → WW D bs 6 p l e (rmF 3 69) s m args below meth c Q al (mM Z ta al (mMvN i u)) 0 0 34 [(4, .int (nI i)), (3, .int (nI b)), (2, .int (nI g)), (1, .int (nI n)), (0, .ref (al 10 0))] [] := by
  have hiX5 : ∀ w ∈ u_ws RX5 TX5 22, w ∈ wsX5_step := by decide +kernel
  intro n9
  induction n9 with
  | zero => intro i h8 h9; exact absurd h9 (by omega)
  | succ n9 ih =>
    intro i h8 h9
    have hI := Jv_MvN h0 i
    have k3 : mMvN i u 3 0 = u 3 0 := mMvN_k (by omega)
    generalize hw : mMvN i u = w at *
    obtain ⟨h1, h2, h5, h31, h32, hJ6, h6⟩ := id hI.w
    refine g_iload X 0 dX5_step_34 rfl ?_
    refine g_aload_n X 4 dX5_step_36 rfl rfl ?_
    refine g_get X 10 0 cm10 rfl 5 (by decide) hiX5 (by decide +kernel) rfl rfl dX5_step_37 ?_
    refine g_icmp_ge X 75 dX5_step_40 (by decide) (nI_leI (by omega) (by omega)) (fun c_1 => ?_) (fun c_1 => ?_)
    · have e9 : i = u 3 0 := by omega
      subst hw
      refine g_lv [0, 1, 2, 3, 4] rfl ?_
      rw [e9]
      exact K9
    · refine g_aload_n X 4 dX5_step_43 rfl rfl ?_
      refine g_callDV0 (n := 0) X 10 0 [] cm10 rfl (m_move (by omega) (by omega)) gX5_step_X5_move rfl ⟨rfl, rfl⟩ (by decide +kernel) ⟨by decide, by decide⟩ rfl (Nat.le_of_ble_eq_true rfl) dX5_step_44 ⟨Nat.zero_le _, Nat.zero_le _⟩ _ rfl ?_
      generalize hu_2 : mvA w = u_2
      refine g_iconst X (v := nI 0) dX5_step_47 (by decide) ?_
      refine g_istore X [(5, .int (nI 0)), (4, .int (nI i)), (3, .int (nI b)), (2, .int (nI g)), (1, .int (nI n)), (0, .ref (al 10 0))] dX5_step_48 (by decide) rfl ?_
      refine g_lv [0, 1, 2, 3, 4, 5] rfl ?_
      refine l_step3 X _ _ _ _ (by rw [← hu_2]; exact Jv_move hI) ?_ 17 0 (Nat.zero_le _) (Nat.le_refl _)
      generalize hu_3 : mPN 16 u_2 = u_3
      refine g_iinc X 1 [(4, .int (nI (i + 1))), (5, .int (nI 16)), (3, .int (nI b)), (2, .int (nI g)), (1, .int (nI n)), (0, .ref (al 10 0))] dX5_step_69 rfl (nI_inc (by decide)) (by decide) rfl ?_
      refine g_goto X 34 dX5_step_72 (by decide) ?_
      refine g_lv [0, 2, 3, 4, 5] rfl ?_
      have e9 : mMvN (i + 1) u = u_3 := by show mMove (mMvN i u) = _; rw [hw, mMove, hu_2]; exact hu_3
      have q9 := ih (i + 1) (by omega) (by omega)
      rw [e9] at q9
      exact q9

set_option maxRecDepth 100000 in
set_option maxHeartbeats 4000000 in
/-- the loop of step at 26 -/
theorem l_step1 {l : Launch} {D : va_G} {ta : Nat → ClassId} {pl : Nat → Nat} {bs : Nat} {al : Ad} {Z : Wo} {p : Program} {e : Env} {s : State} {m : MethodId} {args : Array Value} {below : List Frame} {meth : Method} {c : Code} {u : St} (X : Cx D ta pl bs 6 p s m args meth c cX5_step wsX5_step RX5 (some .int)) (n : Nat) (h0 : Jv u) (hn : n ≤ 1000) : ∀ (n9 i : Nat), i ≤ n → n + 1 ≤ i + n9 → WW D bs 6 p l e (rmF 3 69) s m args below meth c (QQ D bs below args s 0 0 (fun r al' C' => r = some (.int (nI (mRuN n u 6 0) - nI (u 6 0))) ∧ al' = al ∧ C' = mM Z ta al (mRuN n u))) al (mM Z ta al (mRuN i u)) 0 0 26 [(3, .int (nI i)), (2, .int (nI (u 6 0))), (1, .int (nI n)), (0, .ref (al 10 0))] [] := by
  have hiX5 : ∀ w ∈ u_ws RX5 TX5 22, w ∈ wsX5_step := by decide +kernel
  intro n9
  induction n9 with
  | zero => intro i h8 h9; exact absurd h9 (by omega)
  | succ n9 ih =>
    intro i h8 h9
    have hI := Jv_ruN h0 i
    generalize hw : mRuN i u = w at *
    refine g_iload_n X 0 dX5_step_26 rfl rfl ?_
    refine g_iload_n X 2 dX5_step_27 rfl rfl ?_
    refine g_icmp_ge X 95 dX5_step_28 (by decide) (nI_leI (by omega) (by omega)) (fun c_1 => ?_) (fun c_1 => ?_)
    · refine g_aload_n X 3 dX5_step_95 rfl rfl ?_
      refine g_get X 10 0 cm10 rfl 17 (by decide) hiX5 (by decide +kernel) rfl rfl dX5_step_96 ?_
      refine g_iload_n X 1 dX5_step_99 rfl rfl ?_
      refine g_isub X dX5_step_100 rfl ?_
      exact g_iret X rfl dX5_step_101 ⟨by subst hw; have e9 : i = n := (by omega); rw [e9], rfl, by subst hw; have e9 : i = n := (by omega); rw [e9]⟩
    · refine g_iconst X (v := nI 0) dX5_step_31 (by decide) ?_
      refine g_istore X [(4, .int (nI 0)), (3, .int (nI i)), (2, .int (nI (u 6 0))), (1, .int (nI n)), (0, .ref (al 10 0))] dX5_step_32 (by decide) rfl ?_
      refine g_lv [0, 1, 2, 3, 4] rfl ?_
      refine l_step2 X _ _ _ hI ?_ (w 3 0 + 1) 0 (Nat.zero_le _) (by omega)
      generalize hu_2 : mMvN (w 3 0) w = u_2
      refine g_aload_n X 4 dX5_step_75 rfl rfl ?_
      refine g_dup X dX5_step_76 rfl ?_
      refine g_get X 10 0 cm10 rfl 6 (by decide) hiX5 (by decide +kernel) rfl rfl dX5_step_77 ?_
      refine g_iconst X (v := nI 1) dX5_step_80 (by decide) ?_
      refine g_iadd X dX5_step_81 (nI_add _ _) ?_
      refine g_put X tyX5 tyX5_ok nmX5 10 0 cm10 rfl 6 (by decide) hiX5 (by decide +kernel) rfl rfl (ty := .int) (by decide +kernel) rfl rfl (Nat.le_of_ble_eq_true rfl) _ um_time dX5_step_82 ?_
      generalize hu_3 : st u_2 4 0 ((u_2 4 0) + 1) = u_3
      refine g_aload_n X 4 dX5_step_85 rfl rfl ?_
      refine g_callDV0 (n := 0) X 10 0 [] cm10 rfl (m_turns (by rw [← hu_3, ← hu_2]; exact Jv_time (Jv_MvN hI _))) gX5_step_X5_turns rfl ⟨rfl, rfl⟩ (by decide +kernel) ⟨by decide, by decide⟩ rfl (Nat.le_of_ble_eq_true rfl) dX5_step_86 ⟨Nat.zero_le _, Nat.zero_le _⟩ _ rfl ?_
      generalize hu_4 : mTake u_3 = u_4
      refine g_iinc X 1 [(3, .int (nI (i + 1))), (4, .int (nI (w 3 0))), (2, .int (nI (u 6 0))), (1, .int (nI n)), (0, .ref (al 10 0))] dX5_step_89 rfl (nI_inc (by decide)) (by decide) rfl ?_
      refine g_goto X 26 dX5_step_92 (by decide) ?_
      refine g_lv [0, 2, 3, 4] rfl ?_
      have e9 : mRuN (i + 1) u = u_4 := by show mRun (mRuN i u) = _; rw [hw, mRun, hu_2, hu_3]; exact hu_4
      have q9 := ih (i + 1) (by omega) (by omega)
      rw [e9] at q9
      exact q9

set_option maxRecDepth 100000 in
set_option maxHeartbeats 4000000 in
/-- step -/
theorem m_step {l : Launch} {D : va_G} {ta : Nat → ClassId} {pl : Nat → Nat} {bs : Nat} {al : Ad} {Z : Wo} {u : St} (n : Nat) (h0 : Jv u) (hn : n ≤ 1000) : GD l D ta pl bs yX5_step wsX5_step (rmF 3 69) [.ref (al 10 0), .int (nI n)] al (mM Z ta al u) (some (.int (nI (mRuN n (st u 0 0 0) 6 0) - nI (st u 0 0 0 6 0)))) (mM Z ta al (mRuN n (st u 0 0 0))) := by
  refine GM.of (by decide) rfl (Nat.le_of_ble_eq_true rfl) ?_
  intro p e s m args below meth c X hnm
  have hiX5 : ∀ w ∈ u_ws RX5 TX5 22, w ∈ wsX5_step := by decide +kernel
  refine g_lv (lv' := [(0, .ref (al 10 0)), (1, .int (nI n))]) [0, 1] rfl ?_
  refine g_aload_n X 0 dX5_step_0 rfl rfl ?_
  refine g_iconst X (v := nI 0) dX5_step_1 (by decide) ?_
  refine g_put X tyX5 tyX5_ok nmX5 10 0 cm10 rfl 0 (by decide) hiX5 (by decide +kernel) rfl rfl (ty := .int) (by decide +kernel) rfl rfl (Nat.le_of_ble_eq_true rfl) _ um_thrown dX5_step_2 ?_
  generalize hu_1 : st u 0 0 0 = u_1
  refine g_iload_n X 1 dX5_step_5 rfl rfl ?_
  refine g_iconst X (v := nI 0) dX5_step_6 (by decide) ?_
  refine g_sipush X (v := nI 1000) dX5_step_7 (by decide) ?_
  refine g_callDS1 (n := 3) X [.int (nI n), .int (nI 0), .int (nI 1000)] (m_in ((nI n)) ((nI 0)) ((nI 1000))) gX5_step_X5_in rfl ⟨rfl, rfl⟩ (by decide +kernel) ⟨by decide, by decide⟩ rfl (Nat.le_of_ble_eq_true rfl) dX5_step_10 ⟨Nat.zero_le _, Nat.zero_le _⟩ _ rfl ?_
  refine g_if_ne X 19 dX5_step_13 (by decide) (bN_eq0) (fun c_2 => ?_) (fun c_2 => ?_)
  · have c_2 := Decidable.of_not_not c_2
    refine g_aload_n X 0 dX5_step_19 rfl rfl ?_
    refine g_get X 10 0 cm10 rfl 17 (by decide) hiX5 (by decide +kernel) rfl rfl dX5_step_20 ?_
    refine g_istore_n X [(2, .int (nI (u_1 6 0))), (0, .ref (al 10 0)), (1, .int (nI n))] dX5_step_23 rfl (by decide) rfl ?_
    refine g_iconst X (v := nI 0) dX5_step_24 (by decide) ?_
    refine g_istore_n X [(3, .int (nI 0)), (2, .int (nI (u_1 6 0))), (0, .ref (al 10 0)), (1, .int (nI n))] dX5_step_25 rfl (by decide) rfl ?_
    refine g_lv [0, 1, 3, 2] rfl ?_
    have q9 := l_step1 (u := u_1) (al := al) (Z := Z) (below := below) (l := l) (e := e) X n (by rw [← hu_1]; exact Jv_thrown h0) hn (n + 1) 0 (Nat.zero_le _) (by omega)
    subst hu_1
    exact q9
  · exact absurd ⟨nI_nlt (by omega) (by omega), nI_nlt (by omega) (by omega)⟩ c_2
