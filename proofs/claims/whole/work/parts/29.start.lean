/-! from the law's entry to its loop -/
theorem mC_al {Z : Wo} {ta : Nat → ClassId} {pl : Nat → Nat} {al al' : Ad} {u : St} (h : ∀ k i, k < 10 → al' k i = al k i) : mC Z ta pl al u = mC Z ta pl al' u := by
  have hr : ∀ n, rI al' n = rI al n := fun n => by unfold rI; rw [h 9 n (by decide)]
  funext k i
  by_cases hk : k < 10
  · unfold mC
    rw [if_pos hk, if_pos hk]
    unfold cC
    simp only [h 1 0 (by decide), h 2 0 (by decide), h 5 0 (by decide), h 7 0 (by decide), h 8 0 (by decide), hr, h 4 i (by decide), h 3 _ (by decide), h 6 _ (by decide)]
  · unfold mC
    rw [if_neg hk, if_neg hk]
theorem mM_al2 {Z : Wo} {ta : Nat → ClassId} {al al' : Ad} {v : St} (h : ∀ k i, 10 < k → k < 26 → al' k i = al k i) : mM Z ta al v = mM Z ta al' v := by
  funext k i
  unfold mM cM
  simp only [h 11 0 (by decide) (by decide), h 12 0 (by decide) (by decide), h 13 0 (by decide) (by decide), h 14 0 (by decide) (by decide), h 15 0 (by decide) (by decide), h 16 0 (by decide) (by decide), h 17 0 (by decide) (by decide), h 18 0 (by decide) (by decide), h 19 0 (by decide) (by decide), h 20 0 (by decide) (by decide), h 21 0 (by decide) (by decide), h 22 0 (by decide) (by decide), h 23 0 (by decide) (by decide), h 24 0 (by decide) (by decide), h 25 0 (by decide) (by decide)]
section START
variable {p : Program} {l : Launch} {e : Env} {s : State} {m : MethodId} {below : List Frame} {meth : Method} {c : Code}
variable {D : va_G} {ta : Nat → ClassId} {pl : Nat → Nat} {bs : Nat} {al : Ad} {b L : Nat} {xs : Nat → Int32}
set_option maxRecDepth 100000 in
set_option maxHeartbeats 4000000 in
theorem law_start (X : Cx D ta pl bs 7 p s m #[Value.ref b] meth c cL_law wsLL RL ret) (hX : ScE b L xs bs s) (hT : ThE bs s) (hfl : l.flags = flags0) (hL : L ≤ 2050) (hbs : s.heap.size ≤ bs) :
    WW D bs 7 p l e room_1 s m #[Value.ref b] below meth c (lw_Z below #[Value.ref b] s) al (fun _ _ => none) 0 0 0 [(0, .ref b)] [] := by
  have hi4 : ∀ w ∈ u_ws RX4 TX4 13, w ∈ wsLL := fun w hw => List.mem_append_left _ (inlX4 w hw)
  have hi5 : ∀ w ∈ u_ws RX5 TX5 22, w ∈ wsLL := fun w hw => List.mem_append_left _ (inlX5 w hw)
  refine g_new (N := 13) (ci := 4) X 0 0 rfl tyX4 tyX4_ok rfl hi4 (List.mem_append_left _ (by decide +kernel)) (List.mem_append_left _ (by decide +kernel)) (List.mem_append_left _ (by decide +kernel)) [.int (nI 0), .int (nI 0), .null, .null, .null, .null, .null, .int (nI 0), .int (nI 0), .int (nI 0), .int (nI 0), .int (nI 0), .int (nI 0)] (fun j hj => by rcases (show j = 0 ∨ j = 1 ∨ j = 2 ∨ j = 3 ∨ j = 4 ∨ j = 5 ∨ j = 6 ∨ j = 7 ∨ j = 8 ∨ j = 9 ∨ j = 10 ∨ j = 11 ∨ j = 12 by omega) with rfl | rfl | rfl | rfl | rfl | rfl | rfl | rfl | rfl | rfl | rfl | rfl | rfl <;> rfl) (by decide) (by decide) dL_law_0 (fun q => ?_)
  refine g_dup X dL_law_3 rfl ?_
  refine g_aload_n X 0 dL_law_4 rfl rfl ?_
  refine g_iconst X (v := nI 0) dL_law_5 (by decide) ?_
  refine g_callSE (n := 2) X ScE.est hX [.ref b, .int (nI 0)] (l_cell hL 0 (by decide)) (gi_l gL_law_L_cell) rfl rfl rfl (by decide +kernel) ⟨by decide, by decide⟩ rfl (Nat.le_of_ble_eq_true rfl) dL_law_6 ⟨by decide, by decide⟩ _ rfl ?_
  intro rv al' C' hp
  obtain ⟨rfl, rfl, rfl⟩ := hp
  refine g_aload_n X 0 dL_law_9 rfl rfl ?_
  refine g_iconst X (v := nI 1) dL_law_10 (by decide) ?_
  refine g_callSE (n := 2) X ScE.est hX [.ref b, .int (nI 1)] (l_cell hL 1 (by decide)) (gi_l gL_law_L_cell) rfl rfl rfl (by decide +kernel) ⟨by decide, by decide⟩ rfl (Nat.le_of_ble_eq_true rfl) dL_law_11 ⟨by decide, by decide⟩ _ rfl ?_
  intro rv al' C' hp
  obtain ⟨rfl, rfl, rfl⟩ := hp
  refine g_callI (n := 2) X (aup al 0 0 q 0 0) [.int (sc L xs 0), .int (sc L xs 1)] (c_LoopSorter (sc L xs 0) (sc L xs 1) wup_self (fun k i _ h2 => wup_ne h2)) (gi_l gL_law_X4_init) rfl rfl rfl (List.mem_append_left _ (by decide +kernel)) (List.mem_append_left _ (by decide +kernel)) (List.mem_append_left _ (by decide +kernel)) rfl (by decide +kernel) ⟨by decide, by decide⟩ rfl (Nat.le_of_ble_eq_true rfl) dL_law_14 ⟨by decide, by decide⟩ _ rfl (fun rv al2 C2 h7 => ?_)
  obtain ⟨rfl, h8, -, rfl⟩ := h7
  refine g_astore_n X [(1, .ref (aup al 0 0 q 0 0)), (0, .ref b)] dL_law_17 rfl (by decide) rfl ?_
  rw [← h8]
  generalize hax : al2 0 0 = ax
  obtain ⟨hT1, hT2⟩ := cl_in (sc L xs 0) (n := 200) (by decide) (by decide)
  refine g_new (N := 22) (ci := 5) X 10 0 rfl tyX5 tyX5_ok rfl hi5 (List.mem_append_left _ (by decide +kernel)) (List.mem_append_left _ (by decide +kernel)) (List.mem_append_left _ (by decide +kernel)) [.int (nI 0), .int (nI 0), .int (nI 0), .null, .null, .int (nI 0), .int (nI 0), .int (nI 0), .null, .null, .null, .null, .null, .null, .null, .null, .null, .int (nI 0), .null, .null, .null, .null] (fun j hj => by rcases (show j = 0 ∨ j = 1 ∨ j = 2 ∨ j = 3 ∨ j = 4 ∨ j = 5 ∨ j = 6 ∨ j = 7 ∨ j = 8 ∨ j = 9 ∨ j = 10 ∨ j = 11 ∨ j = 12 ∨ j = 13 ∨ j = 14 ∨ j = 15 ∨ j = 16 ∨ j = 17 ∨ j = 18 ∨ j = 19 ∨ j = 20 ∨ j = 21 by omega) with rfl | rfl | rfl | rfl | rfl | rfl | rfl | rfl | rfl | rfl | rfl | rfl | rfl | rfl | rfl | rfl | rfl | rfl | rfl | rfl | rfl | rfl <;> rfl) (by decide) (by decide) dL_law_18 (fun q2 => ?_)
  refine g_dup X dL_law_21 rfl ?_
  refine g_aload_n X 1 dL_law_22 rfl rfl ?_
  refine g_iconst X (v := nI 0) dL_law_23 (by decide) ?_
  refine g_callSE (n := 2) X ScE.est hX [.ref b, .int (nI 0)] (l_cell hL 0 (by decide)) (gi_l gL_law_L_cell) rfl rfl rfl (by decide +kernel) ⟨by decide, by decide⟩ rfl (Nat.le_of_ble_eq_true rfl) dL_law_24 ⟨by decide, by decide⟩ _ rfl ?_
  intro rv al' C' hp
  obtain ⟨rfl, rfl, rfl⟩ := hp
  refine g_aload_n X 1 dL_law_27 rfl rfl ?_
  refine g_iconst X (v := nI 1) dL_law_28 (by decide) ?_
  refine g_callSE (n := 2) X ScE.est hX [.ref b, .int (nI 1)] (l_cell hL 1 (by decide)) (gi_l gL_law_L_cell) rfl rfl rfl (by decide +kernel) ⟨by decide, by decide⟩ rfl (Nat.le_of_ble_eq_true rfl) dL_law_29 ⟨by decide, by decide⟩ _ rfl ?_
  intro rv al' C' hp
  obtain ⟨rfl, rfl, rfl⟩ := hp
  refine g_callI (n := 2) X (aup al2 10 0 q2 10 0) [.int (sc L xs 0), .int (sc L xs 1)] (m_Model (sc L xs 0) (sc L xs 1) wup_self (fun k i h1 h2 h3 => by
      rw [wup_ne h3]
      show (if k < 10 then _ else wup _ 0 0 _ k i) = none
      rw [if_neg (by omega), wup_ne (by omega)])) (gi_l gL_law_X5_init) rfl rfl rfl (List.mem_append_left _ (by decide +kernel)) (List.mem_append_left _ (by decide +kernel)) (List.mem_append_left _ (by decide +kernel)) rfl (by decide +kernel) ⟨by decide, by decide⟩ rfl (Nat.le_of_ble_eq_true rfl) dL_law_32 ⟨by decide, by decide⟩ _ rfl (fun rv al3 C3 h7 => ?_)
  obtain ⟨rfl, h9, rfl⟩ := h7
  have hax3 : al3 0 0 = ax := (h9 0 0 (by omega)).trans ((aup_ne (by omega)).trans hax)
  refine g_astore_n X [(2, .ref (aup al2 10 0 q2 10 0)), (1, .ref ax), (0, .ref b)] dL_law_35 rfl (by decide) rfl ?_
  rw [← h9 10 0 (by omega)]
  generalize ham : al3 10 0 = am
  refine g_wo (C1 := mC (mM (fun _ _ => none) ta al3 (v0 (cl (sc L xs 0) 200) (cl (sc L xs 1) 20) 200)) ta pl al3 (u0 (cl (sc L xs 0) 200) (cl (sc L xs 1) 20))) ?_ ?_
  · rw [← mC_al (al := al2) (al' := al3) (fun k i hk => (h9 k i (by omega)).trans (aup_ne (by omega)))]
    funext k i
    unfold mM
    by_cases h1 : k < 10
    · rw [if_neg (by omega), wup_ne (by omega)]
      simp only [mC, if_pos h1]
    · by_cases h2 : 10 ≤ k ∧ k < 26
      · rw [if_pos h2]
        simp only [mC, if_neg h1, if_pos h2]
      · rw [if_neg h2, wup_ne (by omega)]
        simp only [mC, if_neg h1, if_neg h2]
        exact wup_ne (by omega)
  refine g_iconst X (v := nI 1) dL_law_36 (by decide) ?_
  refine g_newl X 26 0 rfl (List.mem_append_left _ (by decide +kernel)) 1 (by decide) (by decide) (by decide) dL_law_37 (fun q3 => ?_)
  refine g_wo (C1 := LW ta pl (aup al3 26 0 q3) (fun _ => 0) (u0 (cl (sc L xs 0) 200) (cl (sc L xs 1) 20)) (v0 (cl (sc L xs 0) 200) (cl (sc L xs 1) 20) 200)) ?_ ?_
  · unfold LW
    rw [← mC_al (al := al3) (al' := aup al3 26 0 q3) (fun k i hk => aup_ne (by omega)), ← mM_al2 (al := al3) (al' := aup al3 26 0 q3) (fun k i hk hk2 => aup_ne (by omega))]
    funext k i
    by_cases h : k = 26 ∧ i = 0
    · obtain ⟨rfl, rfl⟩ := h
      rw [wup_self]; rfl
    · rw [wup_ne h]
      by_cases h1 : k < 10
      · simp only [mC, if_pos h1]
      · by_cases h2 : 10 ≤ k ∧ k < 26
        · simp only [mC, mM, if_neg h1, if_pos h2]
        · simp only [mC, mM, ZL, if_neg h1, if_neg h2, if_neg h]
  refine g_astore_n X [(3, .ref (aup al3 26 0 q3 26 0)), (2, .ref am), (1, .ref ax), (0, .ref b)] dL_law_39 rfl (by decide) rfl ?_
  refine g_iconst X (v := nI 2) dL_law_40 (by decide) ?_
  refine g_istore X [(4, .int (nI 2)), (3, .ref (aup al3 26 0 q3 26 0)), (2, .ref am), (1, .ref ax), (0, .ref b)] dL_law_41 (by decide) rfl ?_
  refine g_lv (lv' := lvL b ax am (aup al3 26 0 q3 26 0) 2) [4, 3, 2, 1, 0] rfl ?_
  exact law_loop X hX hT hfl hL hbs 512 2 _ _ _ _ _ _ (by omega) (by decide) (by decide) (by decide) ((aup_ne (by omega)).trans hax3) ((aup_ne (by omega)).trans ham) rfl (Iv_u0 hT1 hT2) (Sim_0v hT1 hT2)
end START
