def v0 (T M n : Nat) : St := fun f j => if f = 11 then (if j < n then j else 0) else if j = 0 then (if f = 1 then T else if f = 2 then M else if f = 3 then 1 else 0) else 0
theorem v0_s {T M n : Nat} : st (v0 T M n) 11 n n = v0 T M (n + 1) := by
  funext f j
  by_cases hf : f = 11
  · subst hf
    by_cases hj : j = n
    · subst hj; simp [st, v0]
    · by_cases hl : j < n
      · simp [st, v0, hj, hl, show j < n + 1 by omega]
      · simp [st, v0, hj, hl, show ¬ j < n + 1 by omega]
  · simp [st, v0, hf]
set_option maxRecDepth 100000 in
set_option maxHeartbeats 4000000 in
theorem l_minit {l : Launch} {D : va_G} {ta : Nat → ClassId} {pl : Nat → Nat} {bs : Nat} {C : Wo} {al ak : Ad} {T M : Nat} {p : Program} {e : Env} {s : State} {m : MethodId} {args : Array Value} {below : List Frame} {meth : Method} {c : Code} (X : Cx D ta pl bs 4 p s m args meth c cX5_init wsX5_init RX5 none) (hak : ∀ k i, ¬ (11 ≤ k ∧ k ≤ 25) → al k i = ak k i) : ∀ (n9 i : Nat), i ≤ 200 → 200 + 1 ≤ i + n9 → WW D bs 4 p l e { frames := 1, cells := 15, slots := 4046, locals := 14 } s m args below meth c (QQ D bs below args s 15 4046 (fun r al' C' => r = none ∧ (∀ k i, ¬ (11 ≤ k ∧ k ≤ 25) → al' k i = ak k i) ∧ C' = mM C ta al' (v0 T M 200))) al (mM C ta al (v0 T M i)) 15 4046 192 [(3, .int (nI i)), (0, .ref (al 10 0))] [] := by
  have hiX5 : ∀ w ∈ u_ws RX5 TX5 22, w ∈ wsX5_init := by decide +kernel
  intro n9
  induction n9 with
  | zero => intro i h8 h9; exact absurd h9 (by omega)
  | succ n9 ih =>
    intro i h8 h9
    refine g_iload_n X 0 dX5_init_192 rfl rfl ?_
    refine g_sipush X (v := nI 200) dX5_init_193 (by decide) ?_
    refine g_icmp_ge X 212 dX5_init_196 (by decide) (nI_leI (by omega) (by omega)) (fun c_1 => ?_) (fun c_1 => ?_)
    · have e9 : i = 200 := by omega
      subst e9
      exact g_vret X rfl dX5_init_212 ⟨rfl, hak, rfl⟩
    · refine g_aload_n X 1 dX5_init_199 rfl rfl ?_
      refine g_get X 10 0 (ci := 5) cm10 rfl 3 (by decide) hiX5 (by decide +kernel) rfl rfl dX5_init_200 ?_
      refine g_iload_n X 0 dX5_init_203 rfl rfl ?_
      refine g_iload_n X 0 dX5_init_204 rfl rfl ?_
      refine g_iast X 11 0 cm11 i (by omega) (by decide) _ um_a11 dX5_init_205 ?_
      refine g_iinc X 0 [(3, .int (nI (i + 1))), (0, .ref (al 10 0))] dX5_init_206 rfl (nI_inc (by decide)) (by decide) rfl ?_
      refine g_goto X 192 dX5_init_209 (by decide) ?_
      rw [v0_s]
      exact ih (i + 1) (by omega) (by omega)
theorem um_trays {Z : Wo} {ta : Nat → ClassId} {al : Ad} {v : St} {x : Nat} : wup (mM Z ta al v) 10 0 (.inr (5, [.int (nI (v 0 0)), .int (nI x), .int (nI (v 2 0)), .ref (al 11 0), .ref (al 12 0), .int (nI (v 3 0)), .int (nI (v 4 0)), .int (nI (v 5 0)), .ref (al 13 0), .ref (al 14 0), .ref (al 15 0), .ref (al 16 0), .ref (al 17 0), .ref (al 18 0), .ref (al 19 0), .ref (al 20 0), .ref (al 21 0), .int (nI (v 6 0)), .ref (al 22 0), .ref (al 23 0), .ref (al 24 0), .ref (al 25 0)])) = mM Z ta al (st v 1 0 x) := by
  funext k' i'
  by_cases hk : k' = 10 ∧ i' = 0
  · obtain ⟨rfl, rfl⟩ := hk
    rw [wup_self]
    simp [mM, cM, st]
  · rw [wup_ne hk]
    rcases (show k' = 10 ∨ k' = 11 ∨ k' = 12 ∨ k' = 13 ∨ k' = 14 ∨ k' = 15 ∨ k' = 16 ∨ k' = 17 ∨ k' = 18 ∨ k' = 19 ∨ k' = 20 ∨ k' = 21 ∨ k' = 22 ∨ k' = 23 ∨ k' = 24 ∨ k' = 25 ∨ ¬ (10 ≤ k' ∧ k' < 26) by omega) with rfl | rfl | rfl | rfl | rfl | rfl | rfl | rfl | rfl | rfl | rfl | rfl | rfl | rfl | rfl | rfl | h10
    · have hi : i' ≠ 0 := fun z => hk ⟨rfl, z⟩
      simp [mM, cM, hi]
    · simp [mM, cM, st]
    · simp [mM, cM, st]
    · simp [mM, cM, st]
    · simp [mM, cM, st]
    · simp [mM, cM, st]
    · simp [mM, cM, st]
    · simp [mM, cM, st]
    · simp [mM, cM, st]
    · simp [mM, cM, st]
    · simp [mM, cM, st]
    · simp [mM, cM, st]
    · simp [mM, cM, st]
    · simp [mM, cM, st]
    · simp [mM, cM, st]
    · simp [mM, cM, st]
    · simp [mM, h10]
theorem um_most {Z : Wo} {ta : Nat → ClassId} {al : Ad} {v : St} {x : Nat} : wup (mM Z ta al v) 10 0 (.inr (5, [.int (nI (v 0 0)), .int (nI (v 1 0)), .int (nI x), .ref (al 11 0), .ref (al 12 0), .int (nI (v 3 0)), .int (nI (v 4 0)), .int (nI (v 5 0)), .ref (al 13 0), .ref (al 14 0), .ref (al 15 0), .ref (al 16 0), .ref (al 17 0), .ref (al 18 0), .ref (al 19 0), .ref (al 20 0), .ref (al 21 0), .int (nI (v 6 0)), .ref (al 22 0), .ref (al 23 0), .ref (al 24 0), .ref (al 25 0)])) = mM Z ta al (st v 2 0 x) := by
  funext k' i'
  by_cases hk : k' = 10 ∧ i' = 0
  · obtain ⟨rfl, rfl⟩ := hk
    rw [wup_self]
    simp [mM, cM, st]
  · rw [wup_ne hk]
    rcases (show k' = 10 ∨ k' = 11 ∨ k' = 12 ∨ k' = 13 ∨ k' = 14 ∨ k' = 15 ∨ k' = 16 ∨ k' = 17 ∨ k' = 18 ∨ k' = 19 ∨ k' = 20 ∨ k' = 21 ∨ k' = 22 ∨ k' = 23 ∨ k' = 24 ∨ k' = 25 ∨ ¬ (10 ≤ k' ∧ k' < 26) by omega) with rfl | rfl | rfl | rfl | rfl | rfl | rfl | rfl | rfl | rfl | rfl | rfl | rfl | rfl | rfl | rfl | h10
    · have hi : i' ≠ 0 := fun z => hk ⟨rfl, z⟩
      simp [mM, cM, hi]
    · simp [mM, cM, st]
    · simp [mM, cM, st]
    · simp [mM, cM, st]
    · simp [mM, cM, st]
    · simp [mM, cM, st]
    · simp [mM, cM, st]
    · simp [mM, cM, st]
    · simp [mM, cM, st]
    · simp [mM, cM, st]
    · simp [mM, cM, st]
    · simp [mM, cM, st]
    · simp [mM, cM, st]
    · simp [mM, cM, st]
    · simp [mM, cM, st]
    · simp [mM, cM, st]
    · simp [mM, h10]
theorem v0_T {T M : Nat} : st (st (v0 0 0 0) 1 0 T) 2 0 M = v0 T M 0 := by
  funext f j
  by_cases h2 : f = 2 ∧ j = 0
  · obtain ⟨rfl, rfl⟩ := h2; simp [st, v0]
  · by_cases h1 : f = 1 ∧ j = 0
    · obtain ⟨rfl, rfl⟩ := h1; simp [st, v0]
    · by_cases hf : f = 11
      · subst hf; simp [st, v0]
      · by_cases hj : j = 0
        · subst hj
          have a2 : f ≠ 2 := fun z => h2 ⟨z, rfl⟩
          have a1 : f ≠ 1 := fun z => h1 ⟨z, rfl⟩
          simp [st, v0, hf, a1, a2]
        · simp [st, v0, hf, hj]
set_option maxRecDepth 100000 in
set_option maxHeartbeats 4000000 in
theorem l_minit0 {l : Launch} {D : va_G} {ta : Nat → ClassId} {pl : Nat → Nat} {bs : Nat} {C : Wo} {al ak : Ad} {T M : Nat} {p : Program} {e : Env} {s : State} {m : MethodId} {args : Array Value} {below : List Frame} {meth : Method} {c : Code} (X : Cx D ta pl bs 4 p s m args meth c cX5_init wsX5_init RX5 none) (hnm : meth.name = "<init>") (hak : ∀ k i, ¬ (11 ≤ k ∧ k ≤ 25) → al k i = ak k i) (x y : Int32) (hx : (x < nI 1 ∧ T = 1) ∨ (¬ x < nI 1 ∧ nI 200 < x ∧ T = 200) ∨ (x = nI T ∧ ¬ x < nI 1 ∧ ¬ nI 200 < x ∧ 1 ≤ T ∧ T ≤ 200)) (hy : (y < nI 1 ∧ M = 1) ∨ (¬ y < nI 1 ∧ nI 20 < y ∧ M = 20) ∨ (y = nI M ∧ ¬ y < nI 1 ∧ ¬ nI 20 < y ∧ 1 ≤ M ∧ M ≤ 20)) : WW D bs 4 p l e { frames := 1, cells := 15, slots := 4046, locals := 14 } s m args below meth c (QQ D bs below args s 15 4046 (fun r al' C' => r = none ∧ (∀ k i, ¬ (11 ≤ k ∧ k ≤ 25) → al' k i = ak k i) ∧ C' = mM C ta al' (v0 T M 200))) al (mM C ta al (v0 0 0 0)) 15 4046 138 [(0, .ref (al 10 0)), (1, .int x), (2, .int y)] [] := by
  have hiX5 : ∀ w ∈ u_ws RX5 TX5 22, w ∈ wsX5_init := by decide +kernel
  rcases hx with ⟨hxa, rfl⟩ | ⟨hxa, hxb, rfl⟩ | ⟨rfl, hxa, hxb, hx1, hx2⟩
  · refine g_aload_n X 0 dX5_init_138 rfl rfl ?_
    refine g_iload_n X 1 dX5_init_139 rfl rfl ?_
    refine g_iconst X (v := nI 1) dX5_init_140 (by decide) ?_
    refine g_icmp_ge X 148 dX5_init_141 (by decide) Iff.rfl (fun c_1 => absurd hxa (Int32.not_lt.mpr c_1)) (fun c_1 => ?_)
    refine g_iconst X (v := nI 1) dX5_init_144 (by decide) ?_
    refine g_goto X 162 dX5_init_145 (by decide) ?_
    refine g_putF X tyX5 tyX5_ok nmX5 10 0 cm10 rfl 1 (by decide) hiX5 (by decide +kernel) rfl rfl hnm rfl (ty := .int) (by decide +kernel) rfl rfl (Nat.le_of_ble_eq_true rfl) _ um_trays dX5_init_162 ?_
    rcases hy with ⟨hya, rfl⟩ | ⟨hya, hyb, rfl⟩ | ⟨rfl, hya, hyb, hy1, hy2⟩
    · refine g_aload_n X 0 dX5_init_165 rfl rfl ?_
      refine g_iload_n X 2 dX5_init_166 rfl rfl ?_
      refine g_iconst X (v := nI 1) dX5_init_167 (by decide) ?_
      refine g_icmp_ge X 175 dX5_init_168 (by decide) Iff.rfl (fun c_1 => absurd hya (Int32.not_lt.mpr c_1)) (fun c_1 => ?_)
      refine g_iconst X (v := nI 1) dX5_init_171 (by decide) ?_
      refine g_goto X 187 dX5_init_172 (by decide) ?_
      refine g_putF X tyX5 tyX5_ok nmX5 10 0 cm10 rfl 2 (by decide) hiX5 (by decide +kernel) rfl rfl hnm rfl (ty := .int) (by decide +kernel) rfl rfl (Nat.le_of_ble_eq_true rfl) _ um_most dX5_init_187 ?_
      refine g_iconst X (v := nI 0) dX5_init_190 (by decide) ?_
      refine g_istore_n X [(3, .int (nI 0)), (0, .ref (al 10 0)), (1, _), (2, _)] dX5_init_191 rfl (by decide) rfl ?_
      refine g_lv (lv' := [(3, .int (nI 0)), (0, .ref (al 10 0))]) [0, 1] rfl ?_
      rw [v0_T]
      exact l_minit X hak 201 0 (Nat.zero_le _) (Nat.le_refl _)
    · refine g_aload_n X 0 dX5_init_165 rfl rfl ?_
      refine g_iload_n X 2 dX5_init_166 rfl rfl ?_
      refine g_iconst X (v := nI 1) dX5_init_167 (by decide) ?_
      refine g_icmp_ge X 175 dX5_init_168 (by decide) Iff.rfl (fun c_1 => ?_) (fun c_1 => absurd (Int32.not_lt.mp hya) c_1)
      refine g_iload_n X 2 dX5_init_175 rfl rfl ?_
      refine g_bipush X (v := nI 20) dX5_init_176 (by decide) ?_
      refine g_icmp_le X 186 dX5_init_178 (by decide) Iff.rfl (fun c_2 => absurd hyb (Int32.not_lt.mpr c_2)) (fun c_2 => ?_)
      refine g_bipush X (v := nI 20) dX5_init_181 (by decide) ?_
      refine g_goto X 187 dX5_init_183 (by decide) ?_
      refine g_putF X tyX5 tyX5_ok nmX5 10 0 cm10 rfl 2 (by decide) hiX5 (by decide +kernel) rfl rfl hnm rfl (ty := .int) (by decide +kernel) rfl rfl (Nat.le_of_ble_eq_true rfl) _ um_most dX5_init_187 ?_
      refine g_iconst X (v := nI 0) dX5_init_190 (by decide) ?_
      refine g_istore_n X [(3, .int (nI 0)), (0, .ref (al 10 0)), (1, _), (2, _)] dX5_init_191 rfl (by decide) rfl ?_
      refine g_lv (lv' := [(3, .int (nI 0)), (0, .ref (al 10 0))]) [0, 1] rfl ?_
      rw [v0_T]
      exact l_minit X hak 201 0 (Nat.zero_le _) (Nat.le_refl _)
    · refine g_aload_n X 0 dX5_init_165 rfl rfl ?_
      refine g_iload_n X 2 dX5_init_166 rfl rfl ?_
      refine g_iconst X (v := nI 1) dX5_init_167 (by decide) ?_
      refine g_icmp_ge X 175 dX5_init_168 (by decide) Iff.rfl (fun c_1 => ?_) (fun c_1 => absurd (Int32.not_lt.mp hya) c_1)
      refine g_iload_n X 2 dX5_init_175 rfl rfl ?_
      refine g_bipush X (v := nI 20) dX5_init_176 (by decide) ?_
      refine g_icmp_le X 186 dX5_init_178 (by decide) Iff.rfl (fun c_2 => ?_) (fun c_2 => absurd (Int32.not_lt.mp hyb) c_2)
      refine g_iload_n X 2 dX5_init_186 rfl rfl ?_
      refine g_putF X tyX5 tyX5_ok nmX5 10 0 cm10 rfl 2 (by decide) hiX5 (by decide +kernel) rfl rfl hnm rfl (ty := .int) (by decide +kernel) rfl rfl (Nat.le_of_ble_eq_true rfl) _ um_most dX5_init_187 ?_
      refine g_iconst X (v := nI 0) dX5_init_190 (by decide) ?_
      refine g_istore_n X [(3, .int (nI 0)), (0, .ref (al 10 0)), (1, _), (2, _)] dX5_init_191 rfl (by decide) rfl ?_
      refine g_lv (lv' := [(3, .int (nI 0)), (0, .ref (al 10 0))]) [0, 1] rfl ?_
      rw [v0_T]
      exact l_minit X hak 201 0 (Nat.zero_le _) (Nat.le_refl _)
  · refine g_aload_n X 0 dX5_init_138 rfl rfl ?_
    refine g_iload_n X 1 dX5_init_139 rfl rfl ?_
    refine g_iconst X (v := nI 1) dX5_init_140 (by decide) ?_
    refine g_icmp_ge X 148 dX5_init_141 (by decide) Iff.rfl (fun c_1 => ?_) (fun c_1 => absurd (Int32.not_lt.mp hxa) c_1)
    refine g_iload_n X 1 dX5_init_148 rfl rfl ?_
    refine g_sipush X (v := nI 200) dX5_init_149 (by decide) ?_
    refine g_icmp_le X 161 dX5_init_152 (by decide) Iff.rfl (fun c_2 => absurd hxb (Int32.not_lt.mpr c_2)) (fun c_2 => ?_)
    refine g_sipush X (v := nI 200) dX5_init_155 (by decide) ?_
    refine g_goto X 162 dX5_init_158 (by decide) ?_
    refine g_putF X tyX5 tyX5_ok nmX5 10 0 cm10 rfl 1 (by decide) hiX5 (by decide +kernel) rfl rfl hnm rfl (ty := .int) (by decide +kernel) rfl rfl (Nat.le_of_ble_eq_true rfl) _ um_trays dX5_init_162 ?_
    rcases hy with ⟨hya, rfl⟩ | ⟨hya, hyb, rfl⟩ | ⟨rfl, hya, hyb, hy1, hy2⟩
    · refine g_aload_n X 0 dX5_init_165 rfl rfl ?_
      refine g_iload_n X 2 dX5_init_166 rfl rfl ?_
      refine g_iconst X (v := nI 1) dX5_init_167 (by decide) ?_
      refine g_icmp_ge X 175 dX5_init_168 (by decide) Iff.rfl (fun c_1 => absurd hya (Int32.not_lt.mpr c_1)) (fun c_1 => ?_)
      refine g_iconst X (v := nI 1) dX5_init_171 (by decide) ?_
      refine g_goto X 187 dX5_init_172 (by decide) ?_
      refine g_putF X tyX5 tyX5_ok nmX5 10 0 cm10 rfl 2 (by decide) hiX5 (by decide +kernel) rfl rfl hnm rfl (ty := .int) (by decide +kernel) rfl rfl (Nat.le_of_ble_eq_true rfl) _ um_most dX5_init_187 ?_
      refine g_iconst X (v := nI 0) dX5_init_190 (by decide) ?_
      refine g_istore_n X [(3, .int (nI 0)), (0, .ref (al 10 0)), (1, _), (2, _)] dX5_init_191 rfl (by decide) rfl ?_
      refine g_lv (lv' := [(3, .int (nI 0)), (0, .ref (al 10 0))]) [0, 1] rfl ?_
      rw [v0_T]
      exact l_minit X hak 201 0 (Nat.zero_le _) (Nat.le_refl _)
    · refine g_aload_n X 0 dX5_init_165 rfl rfl ?_
      refine g_iload_n X 2 dX5_init_166 rfl rfl ?_
      refine g_iconst X (v := nI 1) dX5_init_167 (by decide) ?_
      refine g_icmp_ge X 175 dX5_init_168 (by decide) Iff.rfl (fun c_1 => ?_) (fun c_1 => absurd (Int32.not_lt.mp hya) c_1)
      refine g_iload_n X 2 dX5_init_175 rfl rfl ?_
      refine g_bipush X (v := nI 20) dX5_init_176 (by decide) ?_
      refine g_icmp_le X 186 dX5_init_178 (by decide) Iff.rfl (fun c_2 => absurd hyb (Int32.not_lt.mpr c_2)) (fun c_2 => ?_)
      refine g_bipush X (v := nI 20) dX5_init_181 (by decide) ?_
      refine g_goto X 187 dX5_init_183 (by decide) ?_
      refine g_putF X tyX5 tyX5_ok nmX5 10 0 cm10 rfl 2 (by decide) hiX5 (by decide +kernel) rfl rfl hnm rfl (ty := .int) (by decide +kernel) rfl rfl (Nat.le_of_ble_eq_true rfl) _ um_most dX5_init_187 ?_
      refine g_iconst X (v := nI 0) dX5_init_190 (by decide) ?_
      refine g_istore_n X [(3, .int (nI 0)), (0, .ref (al 10 0)), (1, _), (2, _)] dX5_init_191 rfl (by decide) rfl ?_
      refine g_lv (lv' := [(3, .int (nI 0)), (0, .ref (al 10 0))]) [0, 1] rfl ?_
      rw [v0_T]
      exact l_minit X hak 201 0 (Nat.zero_le _) (Nat.le_refl _)
    · refine g_aload_n X 0 dX5_init_165 rfl rfl ?_
      refine g_iload_n X 2 dX5_init_166 rfl rfl ?_
      refine g_iconst X (v := nI 1) dX5_init_167 (by decide) ?_
      refine g_icmp_ge X 175 dX5_init_168 (by decide) Iff.rfl (fun c_1 => ?_) (fun c_1 => absurd (Int32.not_lt.mp hya) c_1)
      refine g_iload_n X 2 dX5_init_175 rfl rfl ?_
      refine g_bipush X (v := nI 20) dX5_init_176 (by decide) ?_
      refine g_icmp_le X 186 dX5_init_178 (by decide) Iff.rfl (fun c_2 => ?_) (fun c_2 => absurd (Int32.not_lt.mp hyb) c_2)
      refine g_iload_n X 2 dX5_init_186 rfl rfl ?_
      refine g_putF X tyX5 tyX5_ok nmX5 10 0 cm10 rfl 2 (by decide) hiX5 (by decide +kernel) rfl rfl hnm rfl (ty := .int) (by decide +kernel) rfl rfl (Nat.le_of_ble_eq_true rfl) _ um_most dX5_init_187 ?_
      refine g_iconst X (v := nI 0) dX5_init_190 (by decide) ?_
      refine g_istore_n X [(3, .int (nI 0)), (0, .ref (al 10 0)), (1, _), (2, _)] dX5_init_191 rfl (by decide) rfl ?_
      refine g_lv (lv' := [(3, .int (nI 0)), (0, .ref (al 10 0))]) [0, 1] rfl ?_
      rw [v0_T]
      exact l_minit X hak 201 0 (Nat.zero_le _) (Nat.le_refl _)
  · refine g_aload_n X 0 dX5_init_138 rfl rfl ?_
    refine g_iload_n X 1 dX5_init_139 rfl rfl ?_
    refine g_iconst X (v := nI 1) dX5_init_140 (by decide) ?_
    refine g_icmp_ge X 148 dX5_init_141 (by decide) Iff.rfl (fun c_1 => ?_) (fun c_1 => absurd (Int32.not_lt.mp hxa) c_1)
    refine g_iload_n X 1 dX5_init_148 rfl rfl ?_
    refine g_sipush X (v := nI 200) dX5_init_149 (by decide) ?_
    refine g_icmp_le X 161 dX5_init_152 (by decide) Iff.rfl (fun c_2 => ?_) (fun c_2 => absurd (Int32.not_lt.mp hxb) c_2)
    refine g_iload_n X 1 dX5_init_161 rfl rfl ?_
    refine g_putF X tyX5 tyX5_ok nmX5 10 0 cm10 rfl 1 (by decide) hiX5 (by decide +kernel) rfl rfl hnm rfl (ty := .int) (by decide +kernel) rfl rfl (Nat.le_of_ble_eq_true rfl) _ um_trays dX5_init_162 ?_
    rcases hy with ⟨hya, rfl⟩ | ⟨hya, hyb, rfl⟩ | ⟨rfl, hya, hyb, hy1, hy2⟩
    · refine g_aload_n X 0 dX5_init_165 rfl rfl ?_
      refine g_iload_n X 2 dX5_init_166 rfl rfl ?_
      refine g_iconst X (v := nI 1) dX5_init_167 (by decide) ?_
      refine g_icmp_ge X 175 dX5_init_168 (by decide) Iff.rfl (fun c_1 => absurd hya (Int32.not_lt.mpr c_1)) (fun c_1 => ?_)
      refine g_iconst X (v := nI 1) dX5_init_171 (by decide) ?_
      refine g_goto X 187 dX5_init_172 (by decide) ?_
      refine g_putF X tyX5 tyX5_ok nmX5 10 0 cm10 rfl 2 (by decide) hiX5 (by decide +kernel) rfl rfl hnm rfl (ty := .int) (by decide +kernel) rfl rfl (Nat.le_of_ble_eq_true rfl) _ um_most dX5_init_187 ?_
      refine g_iconst X (v := nI 0) dX5_init_190 (by decide) ?_
      refine g_istore_n X [(3, .int (nI 0)), (0, .ref (al 10 0)), (1, _), (2, _)] dX5_init_191 rfl (by decide) rfl ?_
      refine g_lv (lv' := [(3, .int (nI 0)), (0, .ref (al 10 0))]) [0, 1] rfl ?_
      rw [v0_T]
      exact l_minit X hak 201 0 (Nat.zero_le _) (Nat.le_refl _)
    · refine g_aload_n X 0 dX5_init_165 rfl rfl ?_
      refine g_iload_n X 2 dX5_init_166 rfl rfl ?_
      refine g_iconst X (v := nI 1) dX5_init_167 (by decide) ?_
      refine g_icmp_ge X 175 dX5_init_168 (by decide) Iff.rfl (fun c_1 => ?_) (fun c_1 => absurd (Int32.not_lt.mp hya) c_1)
      refine g_iload_n X 2 dX5_init_175 rfl rfl ?_
      refine g_bipush X (v := nI 20) dX5_init_176 (by decide) ?_
      refine g_icmp_le X 186 dX5_init_178 (by decide) Iff.rfl (fun c_2 => absurd hyb (Int32.not_lt.mpr c_2)) (fun c_2 => ?_)
      refine g_bipush X (v := nI 20) dX5_init_181 (by decide) ?_
      refine g_goto X 187 dX5_init_183 (by decide) ?_
      refine g_putF X tyX5 tyX5_ok nmX5 10 0 cm10 rfl 2 (by decide) hiX5 (by decide +kernel) rfl rfl hnm rfl (ty := .int) (by decide +kernel) rfl rfl (Nat.le_of_ble_eq_true rfl) _ um_most dX5_init_187 ?_
      refine g_iconst X (v := nI 0) dX5_init_190 (by decide) ?_
      refine g_istore_n X [(3, .int (nI 0)), (0, .ref (al 10 0)), (1, _), (2, _)] dX5_init_191 rfl (by decide) rfl ?_
      refine g_lv (lv' := [(3, .int (nI 0)), (0, .ref (al 10 0))]) [0, 1] rfl ?_
      rw [v0_T]
      exact l_minit X hak 201 0 (Nat.zero_le _) (Nat.le_refl _)
    · refine g_aload_n X 0 dX5_init_165 rfl rfl ?_
      refine g_iload_n X 2 dX5_init_166 rfl rfl ?_
      refine g_iconst X (v := nI 1) dX5_init_167 (by decide) ?_
      refine g_icmp_ge X 175 dX5_init_168 (by decide) Iff.rfl (fun c_1 => ?_) (fun c_1 => absurd (Int32.not_lt.mp hya) c_1)
      refine g_iload_n X 2 dX5_init_175 rfl rfl ?_
      refine g_bipush X (v := nI 20) dX5_init_176 (by decide) ?_
      refine g_icmp_le X 186 dX5_init_178 (by decide) Iff.rfl (fun c_2 => ?_) (fun c_2 => absurd (Int32.not_lt.mp hyb) c_2)
      refine g_iload_n X 2 dX5_init_186 rfl rfl ?_
      refine g_putF X tyX5 tyX5_ok nmX5 10 0 cm10 rfl 2 (by decide) hiX5 (by decide +kernel) rfl rfl hnm rfl (ty := .int) (by decide +kernel) rfl rfl (Nat.le_of_ble_eq_true rfl) _ um_most dX5_init_187 ?_
      refine g_iconst X (v := nI 0) dX5_init_190 (by decide) ?_
      refine g_istore_n X [(3, .int (nI 0)), (0, .ref (al 10 0)), (1, _), (2, _)] dX5_init_191 rfl (by decide) rfl ?_
      refine g_lv (lv' := [(3, .int (nI 0)), (0, .ref (al 10 0))]) [0, 1] rfl ?_
      rw [v0_T]
      exact l_minit X hak 201 0 (Nat.zero_le _) (Nat.le_refl _)
theorem mini {C : Wo} {ta : Nat → ClassId} {al : Ad} (hC : ∀ k i, 10 ≤ k → k ≤ 25 → ¬ (k = 10 ∧ i = 0) → C k i = none) : wup (wup (wup (wup (wup (wup (wup (wup (wup (wup (wup (wup (wup (wup (wup (wup C 11 0 (.inl (ta 3, 200, .inl (fun _ => 0)))) 12 0 (.inl (ta 3, 200, .inl (fun _ => 0)))) 13 0 (.inl (ta 3, 401, .inl (fun _ => 0)))) 14 0 (.inl (ta 3, 401, .inl (fun _ => 0)))) 15 0 (.inl (ta 3, 401, .inl (fun _ => 0)))) 16 0 (.inl (ta 3, 401, .inl (fun _ => 0)))) 17 0 (.inl (ta 3, 401, .inl (fun _ => 0)))) 18 0 (.inl (ta 3, 401, .inl (fun _ => 0)))) 19 0 (.inl (ta 4, 4, .inr (.inl (fun _ => 0))))) 20 0 (.inl (ta 3, 16, .inl (fun _ => 0)))) 21 0 (.inl (ta 5, 16, .inl (fun _ => 0)))) 22 0 (.inl (ta 3, 400, .inl (fun _ => 0)))) 23 0 (.inl (ta 3, 400, .inl (fun _ => 0)))) 24 0 (.inl (ta 3, 400, .inl (fun _ => 0)))) 25 0 (.inl (ta 5, 4, .inl (fun _ => 0)))) 10 0 (.inr (5, [.int (nI 0), .int (nI 0), .int (nI 0), .ref (al 11 0), .ref (al 12 0), .int (nI 1), .int (nI 0), .int (nI 0), .ref (al 13 0), .ref (al 14 0), .ref (al 15 0), .ref (al 16 0), .ref (al 17 0), .ref (al 18 0), .ref (al 19 0), .ref (al 20 0), .ref (al 21 0), .int (nI 0), .ref (al 22 0), .ref (al 23 0), .ref (al 24 0), .ref (al 25 0)])) = mM C ta al (v0 0 0 0) := by
  have e0 : (fun _ : Nat => (0 : Int32)) = fun _ => nI 0 := rfl
  have e1 : (fun _ : Nat => (0 : Int64)) = fun _ => lN 0 := rfl
  funext k i
  by_cases h : 10 ≤ k ∧ k < 26
  · by_cases hi : i = 0
    · subst hi
      rcases (show k = 10 ∨ k = 11 ∨ k = 12 ∨ k = 13 ∨ k = 14 ∨ k = 15 ∨ k = 16 ∨ k = 17 ∨ k = 18 ∨ k = 19 ∨ k = 20 ∨ k = 21 ∨ k = 22 ∨ k = 23 ∨ k = 24 ∨ k = 25 by omega) with rfl | rfl | rfl | rfl | rfl | rfl | rfl | rfl | rfl | rfl | rfl | rfl | rfl | rfl | rfl | rfl <;> simp [wup, mM, cM, v0, e0, e1]
    · have hc : C k i = none := hC k i h.1 (by omega) (fun z => hi z.2)
      simp only [wup, hi, and_false, if_false, hc]
      rcases (show k = 10 ∨ k = 11 ∨ k = 12 ∨ k = 13 ∨ k = 14 ∨ k = 15 ∨ k = 16 ∨ k = 17 ∨ k = 18 ∨ k = 19 ∨ k = 20 ∨ k = 21 ∨ k = 22 ∨ k = 23 ∨ k = 24 ∨ k = 25 by omega) with rfl | rfl | rfl | rfl | rfl | rfl | rfl | rfl | rfl | rfl | rfl | rfl | rfl | rfl | rfl | rfl <;> simp [mM, cM, hi]
  · have e : ∀ j, 10 ≤ j → j < 26 → ¬ k = j := fun j h1 h2 z => h (by omega)
    simp [mM, h, wup, e]
set_option maxRecDepth 100000 in
set_option maxHeartbeats 4000000 in
/-- LoopSorterModel(x, y) -/
theorem m_Model {l : Launch} {D : va_G} {ta : Nat → ClassId} {pl : Nat → Nat} {bs : Nat} {C : Wo} {al : Ad} (x y : Int32) (h0 : C 10 0 = some (.inr (5, [.int (nI 0), .int (nI 0), .int (nI 0), .null, .null, .int (nI 0), .int (nI 0), .int (nI 0), .null, .null, .null, .null, .null, .null, .null, .null, .null, .int (nI 0), .null, .null, .null, .null]))) (hC : ∀ k i, 10 ≤ k → k ≤ 25 → ¬ (k = 10 ∧ i = 0) → C k i = none) : GM l D ta pl bs yX5_init wsX5_init { frames := 1, cells := 15, slots := 4046, locals := 14 } 15 4046 [.ref (al 10 0), .int x, .int y] al C (fun r al' C' => r = none ∧ (∀ k i, ¬ (11 ≤ k ∧ k ≤ 25) → al' k i = al k i) ∧ C' = mM C ta al' (v0 (cl x 200) (cl y 20) 200)) := by
  have hx := cl_cases x (n := 200) (by decide) (by decide)
  have hy := cl_cases y (n := 20) (by decide) (by decide)
  generalize cl x 200 = T at hx ⊢
  generalize cl y 20 = M at hy ⊢
  refine GM.of (by decide) rfl (Nat.le_of_ble_eq_true rfl) ?_
  intro p e s m args below meth c X hnm
  have hiX5 : ∀ w ∈ u_ws RX5 TX5 22, w ∈ wsX5_init := by decide +kernel
  refine g_lv (lv' := [(0, .ref (al 10 0)), (1, .int x), (2, .int y)]) [0, 1, 2] rfl ?_
  refine g_aload_n X 0 dX5_init_0 rfl rfl ?_
  refine g_objInit X (by decide +kernel) (by decide +kernel) (by decide +kernel) dX5_init_1 (by decide) (Nat.le_of_ble_eq_true rfl) ?_
  refine g_aload_n X 0 dX5_init_4 rfl rfl ?_
  refine g_sipush X (v := nI 200) dX5_init_5 (by decide) ?_
  refine g_newi X 11 0 (hC 11 0 (by decide) (by decide) (by omega)) (by decide +kernel) 200 (by decide) (by decide) (by decide) dX5_init_8 (fun q11 => ?_)
  generalize hal1 : aup al 11 0 q11 = al1
  have e1_10 : al 10 0 = al1 10 0 := by rw [← hal1]; rfl
  have hak1 : ∀ k i, ¬ (11 ≤ k ∧ k ≤ 25) → al1 k i = al k i := fun k i hk => by rw [← hal1, aup_ne (by omega)]
  rw [e1_10]
  refine g_putF X tyX5 tyX5_ok nmX5 10 0 (by rw [wup_ne (by omega)]; exact h0) rfl 3 (by decide) hiX5 (by decide +kernel) rfl rfl hnm rfl (ty := .array .int) (by decide +kernel) rfl rfl (Nat.le_of_ble_eq_true rfl) _ rfl dX5_init_10 ?_
  refine g_aload_n X 0 dX5_init_13 rfl rfl ?_
  refine g_sipush X (v := nI 200) dX5_init_14 (by decide) ?_
  refine g_newi X 12 0 (by rw [wup_ne (by omega), wup_ne (by omega)]; exact hC 12 0 (by decide) (by decide) (by omega)) (by decide +kernel) 200 (by decide) (by decide) (by decide) dX5_init_17 (fun q12 => ?_)
  generalize hal2 : aup al1 12 0 q12 = al2
  have e2_10 : al1 10 0 = al2 10 0 := by rw [← hal2]; rfl
  have e2_11 : al1 11 0 = al2 11 0 := by rw [← hal2]; rfl
  have hak2 : ∀ k i, ¬ (11 ≤ k ∧ k ≤ 25) → al2 k i = al k i := fun k i hk => by rw [← hal2, aup_ne (by omega)]; exact hak1 k i hk
  rw [e2_10, e2_11]
  refine g_putF X tyX5 tyX5_ok nmX5 10 0 (by rw [wup_ne (by omega), wup_self]) rfl 4 (by decide) hiX5 (by decide +kernel) rfl rfl hnm rfl (ty := .array .int) (by decide +kernel) rfl rfl (Nat.le_of_ble_eq_true rfl) _ (wup_3 (by decide)) dX5_init_19 ?_
  refine g_aload_n X 0 dX5_init_22 rfl rfl ?_
  refine g_iconst X (v := nI 1) dX5_init_23 (by decide) ?_
  refine g_put X tyX5 tyX5_ok nmX5 10 0 wup_self rfl 5 (by decide) hiX5 (by decide +kernel) rfl rfl (ty := .int) (by decide +kernel) rfl rfl (Nat.le_of_ble_eq_true rfl) _ wup_wup dX5_init_24 ?_
  refine g_aload_n X 0 dX5_init_27 rfl rfl ?_
  refine g_sipush X (v := nI 401) dX5_init_28 (by decide) ?_
  refine g_newi X 13 0 (by rw [wup_ne (by omega), wup_ne (by omega), wup_ne (by omega)]; exact hC 13 0 (by decide) (by decide) (by omega)) (by decide +kernel) 401 (by decide) (by decide) (by decide) dX5_init_31 (fun q13 => ?_)
  generalize hal3 : aup al2 13 0 q13 = al3
  have e3_10 : al2 10 0 = al3 10 0 := by rw [← hal3]; rfl
  have e3_11 : al2 11 0 = al3 11 0 := by rw [← hal3]; rfl
  have e3_12 : al2 12 0 = al3 12 0 := by rw [← hal3]; rfl
  have hak3 : ∀ k i, ¬ (11 ≤ k ∧ k ≤ 25) → al3 k i = al k i := fun k i hk => by rw [← hal3, aup_ne (by omega)]; exact hak2 k i hk
  rw [e3_10, e3_11, e3_12]
  refine g_putF X tyX5 tyX5_ok nmX5 10 0 (by rw [wup_ne (by omega), wup_self]) rfl 8 (by decide) hiX5 (by decide +kernel) rfl rfl hnm rfl (ty := .array .int) (by decide +kernel) rfl rfl (Nat.le_of_ble_eq_true rfl) _ (wup_3 (by decide)) dX5_init_33 ?_
  refine g_aload_n X 0 dX5_init_36 rfl rfl ?_
  refine g_sipush X (v := nI 401) dX5_init_37 (by decide) ?_
  refine g_newi X 14 0 (by rw [wup_ne (by omega), wup_ne (by omega), wup_ne (by omega), wup_ne (by omega)]; exact hC 14 0 (by decide) (by decide) (by omega)) (by decide +kernel) 401 (by decide) (by decide) (by decide) dX5_init_40 (fun q14 => ?_)
  generalize hal4 : aup al3 14 0 q14 = al4
  have e4_10 : al3 10 0 = al4 10 0 := by rw [← hal4]; rfl
  have e4_11 : al3 11 0 = al4 11 0 := by rw [← hal4]; rfl
  have e4_12 : al3 12 0 = al4 12 0 := by rw [← hal4]; rfl
  have e4_13 : al3 13 0 = al4 13 0 := by rw [← hal4]; rfl
  have hak4 : ∀ k i, ¬ (11 ≤ k ∧ k ≤ 25) → al4 k i = al k i := fun k i hk => by rw [← hal4, aup_ne (by omega)]; exact hak3 k i hk
  rw [e4_10, e4_11, e4_12, e4_13]
  refine g_putF X tyX5 tyX5_ok nmX5 10 0 (by rw [wup_ne (by omega), wup_self]) rfl 9 (by decide) hiX5 (by decide +kernel) rfl rfl hnm rfl (ty := .array .int) (by decide +kernel) rfl rfl (Nat.le_of_ble_eq_true rfl) _ (wup_3 (by decide)) dX5_init_42 ?_
  refine g_aload_n X 0 dX5_init_45 rfl rfl ?_
  refine g_sipush X (v := nI 401) dX5_init_46 (by decide) ?_
  refine g_newi X 15 0 (by rw [wup_ne (by omega), wup_ne (by omega), wup_ne (by omega), wup_ne (by omega), wup_ne (by omega)]; exact hC 15 0 (by decide) (by decide) (by omega)) (by decide +kernel) 401 (by decide) (by decide) (by decide) dX5_init_49 (fun q15 => ?_)
  generalize hal5 : aup al4 15 0 q15 = al5
  have e5_10 : al4 10 0 = al5 10 0 := by rw [← hal5]; rfl
  have e5_11 : al4 11 0 = al5 11 0 := by rw [← hal5]; rfl
  have e5_12 : al4 12 0 = al5 12 0 := by rw [← hal5]; rfl
  have e5_13 : al4 13 0 = al5 13 0 := by rw [← hal5]; rfl
  have e5_14 : al4 14 0 = al5 14 0 := by rw [← hal5]; rfl
  have hak5 : ∀ k i, ¬ (11 ≤ k ∧ k ≤ 25) → al5 k i = al k i := fun k i hk => by rw [← hal5, aup_ne (by omega)]; exact hak4 k i hk
  rw [e5_10, e5_11, e5_12, e5_13, e5_14]
  refine g_putF X tyX5 tyX5_ok nmX5 10 0 (by rw [wup_ne (by omega), wup_self]) rfl 10 (by decide) hiX5 (by decide +kernel) rfl rfl hnm rfl (ty := .array .int) (by decide +kernel) rfl rfl (Nat.le_of_ble_eq_true rfl) _ (wup_3 (by decide)) dX5_init_51 ?_
  refine g_aload_n X 0 dX5_init_54 rfl rfl ?_
  refine g_sipush X (v := nI 401) dX5_init_55 (by decide) ?_
  refine g_newi X 16 0 (by rw [wup_ne (by omega), wup_ne (by omega), wup_ne (by omega), wup_ne (by omega), wup_ne (by omega), wup_ne (by omega)]; exact hC 16 0 (by decide) (by decide) (by omega)) (by decide +kernel) 401 (by decide) (by decide) (by decide) dX5_init_58 (fun q16 => ?_)
  generalize hal6 : aup al5 16 0 q16 = al6
  have e6_10 : al5 10 0 = al6 10 0 := by rw [← hal6]; rfl
  have e6_11 : al5 11 0 = al6 11 0 := by rw [← hal6]; rfl
  have e6_12 : al5 12 0 = al6 12 0 := by rw [← hal6]; rfl
  have e6_13 : al5 13 0 = al6 13 0 := by rw [← hal6]; rfl
  have e6_14 : al5 14 0 = al6 14 0 := by rw [← hal6]; rfl
  have e6_15 : al5 15 0 = al6 15 0 := by rw [← hal6]; rfl
  have hak6 : ∀ k i, ¬ (11 ≤ k ∧ k ≤ 25) → al6 k i = al k i := fun k i hk => by rw [← hal6, aup_ne (by omega)]; exact hak5 k i hk
  rw [e6_10, e6_11, e6_12, e6_13, e6_14, e6_15]
  refine g_putF X tyX5 tyX5_ok nmX5 10 0 (by rw [wup_ne (by omega), wup_self]) rfl 11 (by decide) hiX5 (by decide +kernel) rfl rfl hnm rfl (ty := .array .int) (by decide +kernel) rfl rfl (Nat.le_of_ble_eq_true rfl) _ (wup_3 (by decide)) dX5_init_60 ?_
  refine g_aload_n X 0 dX5_init_63 rfl rfl ?_
  refine g_sipush X (v := nI 401) dX5_init_64 (by decide) ?_
  refine g_newi X 17 0 (by rw [wup_ne (by omega), wup_ne (by omega), wup_ne (by omega), wup_ne (by omega), wup_ne (by omega), wup_ne (by omega), wup_ne (by omega)]; exact hC 17 0 (by decide) (by decide) (by omega)) (by decide +kernel) 401 (by decide) (by decide) (by decide) dX5_init_67 (fun q17 => ?_)
  generalize hal7 : aup al6 17 0 q17 = al7
  have e7_10 : al6 10 0 = al7 10 0 := by rw [← hal7]; rfl
  have e7_11 : al6 11 0 = al7 11 0 := by rw [← hal7]; rfl
  have e7_12 : al6 12 0 = al7 12 0 := by rw [← hal7]; rfl
  have e7_13 : al6 13 0 = al7 13 0 := by rw [← hal7]; rfl
  have e7_14 : al6 14 0 = al7 14 0 := by rw [← hal7]; rfl
  have e7_15 : al6 15 0 = al7 15 0 := by rw [← hal7]; rfl
  have e7_16 : al6 16 0 = al7 16 0 := by rw [← hal7]; rfl
  have hak7 : ∀ k i, ¬ (11 ≤ k ∧ k ≤ 25) → al7 k i = al k i := fun k i hk => by rw [← hal7, aup_ne (by omega)]; exact hak6 k i hk
  rw [e7_10, e7_11, e7_12, e7_13, e7_14, e7_15, e7_16]
  refine g_putF X tyX5 tyX5_ok nmX5 10 0 (by rw [wup_ne (by omega), wup_self]) rfl 12 (by decide) hiX5 (by decide +kernel) rfl rfl hnm rfl (ty := .array .int) (by decide +kernel) rfl rfl (Nat.le_of_ble_eq_true rfl) _ (wup_3 (by decide)) dX5_init_69 ?_
  refine g_aload_n X 0 dX5_init_72 rfl rfl ?_
  refine g_sipush X (v := nI 401) dX5_init_73 (by decide) ?_
  refine g_newi X 18 0 (by rw [wup_ne (by omega), wup_ne (by omega), wup_ne (by omega), wup_ne (by omega), wup_ne (by omega), wup_ne (by omega), wup_ne (by omega), wup_ne (by omega)]; exact hC 18 0 (by decide) (by decide) (by omega)) (by decide +kernel) 401 (by decide) (by decide) (by decide) dX5_init_76 (fun q18 => ?_)
  generalize hal8 : aup al7 18 0 q18 = al8
  have e8_10 : al7 10 0 = al8 10 0 := by rw [← hal8]; rfl
  have e8_11 : al7 11 0 = al8 11 0 := by rw [← hal8]; rfl
  have e8_12 : al7 12 0 = al8 12 0 := by rw [← hal8]; rfl
  have e8_13 : al7 13 0 = al8 13 0 := by rw [← hal8]; rfl
  have e8_14 : al7 14 0 = al8 14 0 := by rw [← hal8]; rfl
  have e8_15 : al7 15 0 = al8 15 0 := by rw [← hal8]; rfl
  have e8_16 : al7 16 0 = al8 16 0 := by rw [← hal8]; rfl
  have e8_17 : al7 17 0 = al8 17 0 := by rw [← hal8]; rfl
  have hak8 : ∀ k i, ¬ (11 ≤ k ∧ k ≤ 25) → al8 k i = al k i := fun k i hk => by rw [← hal8, aup_ne (by omega)]; exact hak7 k i hk
  rw [e8_10, e8_11, e8_12, e8_13, e8_14, e8_15, e8_16, e8_17]
  refine g_putF X tyX5 tyX5_ok nmX5 10 0 (by rw [wup_ne (by omega), wup_self]) rfl 13 (by decide) hiX5 (by decide +kernel) rfl rfl hnm rfl (ty := .array .int) (by decide +kernel) rfl rfl (Nat.le_of_ble_eq_true rfl) _ (wup_3 (by decide)) dX5_init_78 ?_
  refine g_aload_n X 0 dX5_init_81 rfl rfl ?_
  refine g_iconst X (v := nI 4) dX5_init_82 (by decide) ?_
  refine g_newl X 19 0 (by rw [wup_ne (by omega), wup_ne (by omega), wup_ne (by omega), wup_ne (by omega), wup_ne (by omega), wup_ne (by omega), wup_ne (by omega), wup_ne (by omega), wup_ne (by omega)]; exact hC 19 0 (by decide) (by decide) (by omega)) (by decide +kernel) 4 (by decide) (by decide) (by decide) dX5_init_83 (fun q19 => ?_)
  generalize hal9 : aup al8 19 0 q19 = al9
  have e9_10 : al8 10 0 = al9 10 0 := by rw [← hal9]; rfl
  have e9_11 : al8 11 0 = al9 11 0 := by rw [← hal9]; rfl
  have e9_12 : al8 12 0 = al9 12 0 := by rw [← hal9]; rfl
  have e9_13 : al8 13 0 = al9 13 0 := by rw [← hal9]; rfl
  have e9_14 : al8 14 0 = al9 14 0 := by rw [← hal9]; rfl
  have e9_15 : al8 15 0 = al9 15 0 := by rw [← hal9]; rfl
  have e9_16 : al8 16 0 = al9 16 0 := by rw [← hal9]; rfl
  have e9_17 : al8 17 0 = al9 17 0 := by rw [← hal9]; rfl
  have e9_18 : al8 18 0 = al9 18 0 := by rw [← hal9]; rfl
  have hak9 : ∀ k i, ¬ (11 ≤ k ∧ k ≤ 25) → al9 k i = al k i := fun k i hk => by rw [← hal9, aup_ne (by omega)]; exact hak8 k i hk
  rw [e9_10, e9_11, e9_12, e9_13, e9_14, e9_15, e9_16, e9_17, e9_18]
  refine g_putF X tyX5 tyX5_ok nmX5 10 0 (by rw [wup_ne (by omega), wup_self]) rfl 14 (by decide) hiX5 (by decide +kernel) rfl rfl hnm rfl (ty := .array .long) (by decide +kernel) rfl rfl (Nat.le_of_ble_eq_true rfl) _ (wup_3 (by decide)) dX5_init_85 ?_
  refine g_aload_n X 0 dX5_init_88 rfl rfl ?_
  refine g_bipush X (v := nI 16) dX5_init_89 (by decide) ?_
  refine g_newi X 20 0 (by rw [wup_ne (by omega), wup_ne (by omega), wup_ne (by omega), wup_ne (by omega), wup_ne (by omega), wup_ne (by omega), wup_ne (by omega), wup_ne (by omega), wup_ne (by omega), wup_ne (by omega)]; exact hC 20 0 (by decide) (by decide) (by omega)) (by decide +kernel) 16 (by decide) (by decide) (by decide) dX5_init_91 (fun q20 => ?_)
  generalize hal10 : aup al9 20 0 q20 = al10
  have e10_10 : al9 10 0 = al10 10 0 := by rw [← hal10]; rfl
  have e10_11 : al9 11 0 = al10 11 0 := by rw [← hal10]; rfl
  have e10_12 : al9 12 0 = al10 12 0 := by rw [← hal10]; rfl
  have e10_13 : al9 13 0 = al10 13 0 := by rw [← hal10]; rfl
  have e10_14 : al9 14 0 = al10 14 0 := by rw [← hal10]; rfl
  have e10_15 : al9 15 0 = al10 15 0 := by rw [← hal10]; rfl
  have e10_16 : al9 16 0 = al10 16 0 := by rw [← hal10]; rfl
  have e10_17 : al9 17 0 = al10 17 0 := by rw [← hal10]; rfl
  have e10_18 : al9 18 0 = al10 18 0 := by rw [← hal10]; rfl
  have e10_19 : al9 19 0 = al10 19 0 := by rw [← hal10]; rfl
  have hak10 : ∀ k i, ¬ (11 ≤ k ∧ k ≤ 25) → al10 k i = al k i := fun k i hk => by rw [← hal10, aup_ne (by omega)]; exact hak9 k i hk
  rw [e10_10, e10_11, e10_12, e10_13, e10_14, e10_15, e10_16, e10_17, e10_18, e10_19]
  refine g_putF X tyX5 tyX5_ok nmX5 10 0 (by rw [wup_ne (by omega), wup_self]) rfl 15 (by decide) hiX5 (by decide +kernel) rfl rfl hnm rfl (ty := .array .int) (by decide +kernel) rfl rfl (Nat.le_of_ble_eq_true rfl) _ (wup_3 (by decide)) dX5_init_93 ?_
  refine g_aload_n X 0 dX5_init_96 rfl rfl ?_
  refine g_bipush X (v := nI 16) dX5_init_97 (by decide) ?_
  refine g_newz X 21 0 (by rw [wup_ne (by omega), wup_ne (by omega), wup_ne (by omega), wup_ne (by omega), wup_ne (by omega), wup_ne (by omega), wup_ne (by omega), wup_ne (by omega), wup_ne (by omega), wup_ne (by omega), wup_ne (by omega)]; exact hC 21 0 (by decide) (by decide) (by omega)) (by decide +kernel) 16 (by decide) (by decide) (by decide) dX5_init_99 (fun q21 => ?_)
  generalize hal11 : aup al10 21 0 q21 = al11
  have e11_10 : al10 10 0 = al11 10 0 := by rw [← hal11]; rfl
  have e11_11 : al10 11 0 = al11 11 0 := by rw [← hal11]; rfl
  have e11_12 : al10 12 0 = al11 12 0 := by rw [← hal11]; rfl
  have e11_13 : al10 13 0 = al11 13 0 := by rw [← hal11]; rfl
  have e11_14 : al10 14 0 = al11 14 0 := by rw [← hal11]; rfl
  have e11_15 : al10 15 0 = al11 15 0 := by rw [← hal11]; rfl
  have e11_16 : al10 16 0 = al11 16 0 := by rw [← hal11]; rfl
  have e11_17 : al10 17 0 = al11 17 0 := by rw [← hal11]; rfl
  have e11_18 : al10 18 0 = al11 18 0 := by rw [← hal11]; rfl
  have e11_19 : al10 19 0 = al11 19 0 := by rw [← hal11]; rfl
  have e11_20 : al10 20 0 = al11 20 0 := by rw [← hal11]; rfl
  have hak11 : ∀ k i, ¬ (11 ≤ k ∧ k ≤ 25) → al11 k i = al k i := fun k i hk => by rw [← hal11, aup_ne (by omega)]; exact hak10 k i hk
  rw [e11_10, e11_11, e11_12, e11_13, e11_14, e11_15, e11_16, e11_17, e11_18, e11_19, e11_20]
  refine g_putF X tyX5 tyX5_ok nmX5 10 0 (by rw [wup_ne (by omega), wup_self]) rfl 16 (by decide) hiX5 (by decide +kernel) rfl rfl hnm rfl (ty := .array .boolean) (by decide +kernel) rfl rfl (Nat.le_of_ble_eq_true rfl) _ (wup_3 (by decide)) dX5_init_101 ?_
  refine g_aload_n X 0 dX5_init_104 rfl rfl ?_
  refine g_sipush X (v := nI 400) dX5_init_105 (by decide) ?_
  refine g_newi X 22 0 (by rw [wup_ne (by omega), wup_ne (by omega), wup_ne (by omega), wup_ne (by omega), wup_ne (by omega), wup_ne (by omega), wup_ne (by omega), wup_ne (by omega), wup_ne (by omega), wup_ne (by omega), wup_ne (by omega), wup_ne (by omega)]; exact hC 22 0 (by decide) (by decide) (by omega)) (by decide +kernel) 400 (by decide) (by decide) (by decide) dX5_init_108 (fun q22 => ?_)
  generalize hal12 : aup al11 22 0 q22 = al12
  have e12_10 : al11 10 0 = al12 10 0 := by rw [← hal12]; rfl
  have e12_11 : al11 11 0 = al12 11 0 := by rw [← hal12]; rfl
  have e12_12 : al11 12 0 = al12 12 0 := by rw [← hal12]; rfl
  have e12_13 : al11 13 0 = al12 13 0 := by rw [← hal12]; rfl
  have e12_14 : al11 14 0 = al12 14 0 := by rw [← hal12]; rfl
  have e12_15 : al11 15 0 = al12 15 0 := by rw [← hal12]; rfl
  have e12_16 : al11 16 0 = al12 16 0 := by rw [← hal12]; rfl
  have e12_17 : al11 17 0 = al12 17 0 := by rw [← hal12]; rfl
  have e12_18 : al11 18 0 = al12 18 0 := by rw [← hal12]; rfl
  have e12_19 : al11 19 0 = al12 19 0 := by rw [← hal12]; rfl
  have e12_20 : al11 20 0 = al12 20 0 := by rw [← hal12]; rfl
  have e12_21 : al11 21 0 = al12 21 0 := by rw [← hal12]; rfl
  have hak12 : ∀ k i, ¬ (11 ≤ k ∧ k ≤ 25) → al12 k i = al k i := fun k i hk => by rw [← hal12, aup_ne (by omega)]; exact hak11 k i hk
  rw [e12_10, e12_11, e12_12, e12_13, e12_14, e12_15, e12_16, e12_17, e12_18, e12_19, e12_20, e12_21]
  refine g_putF X tyX5 tyX5_ok nmX5 10 0 (by rw [wup_ne (by omega), wup_self]) rfl 18 (by decide) hiX5 (by decide +kernel) rfl rfl hnm rfl (ty := .array .int) (by decide +kernel) rfl rfl (Nat.le_of_ble_eq_true rfl) _ (wup_3 (by decide)) dX5_init_110 ?_
  refine g_aload_n X 0 dX5_init_113 rfl rfl ?_
  refine g_sipush X (v := nI 400) dX5_init_114 (by decide) ?_
  refine g_newi X 23 0 (by rw [wup_ne (by omega), wup_ne (by omega), wup_ne (by omega), wup_ne (by omega), wup_ne (by omega), wup_ne (by omega), wup_ne (by omega), wup_ne (by omega), wup_ne (by omega), wup_ne (by omega), wup_ne (by omega), wup_ne (by omega), wup_ne (by omega)]; exact hC 23 0 (by decide) (by decide) (by omega)) (by decide +kernel) 400 (by decide) (by decide) (by decide) dX5_init_117 (fun q23 => ?_)
  generalize hal13 : aup al12 23 0 q23 = al13
  have e13_10 : al12 10 0 = al13 10 0 := by rw [← hal13]; rfl
  have e13_11 : al12 11 0 = al13 11 0 := by rw [← hal13]; rfl
  have e13_12 : al12 12 0 = al13 12 0 := by rw [← hal13]; rfl
  have e13_13 : al12 13 0 = al13 13 0 := by rw [← hal13]; rfl
  have e13_14 : al12 14 0 = al13 14 0 := by rw [← hal13]; rfl
  have e13_15 : al12 15 0 = al13 15 0 := by rw [← hal13]; rfl
  have e13_16 : al12 16 0 = al13 16 0 := by rw [← hal13]; rfl
  have e13_17 : al12 17 0 = al13 17 0 := by rw [← hal13]; rfl
  have e13_18 : al12 18 0 = al13 18 0 := by rw [← hal13]; rfl
  have e13_19 : al12 19 0 = al13 19 0 := by rw [← hal13]; rfl
  have e13_20 : al12 20 0 = al13 20 0 := by rw [← hal13]; rfl
  have e13_21 : al12 21 0 = al13 21 0 := by rw [← hal13]; rfl
  have e13_22 : al12 22 0 = al13 22 0 := by rw [← hal13]; rfl
  have hak13 : ∀ k i, ¬ (11 ≤ k ∧ k ≤ 25) → al13 k i = al k i := fun k i hk => by rw [← hal13, aup_ne (by omega)]; exact hak12 k i hk
  rw [e13_10, e13_11, e13_12, e13_13, e13_14, e13_15, e13_16, e13_17, e13_18, e13_19, e13_20, e13_21, e13_22]
  refine g_putF X tyX5 tyX5_ok nmX5 10 0 (by rw [wup_ne (by omega), wup_self]) rfl 19 (by decide) hiX5 (by decide +kernel) rfl rfl hnm rfl (ty := .array .int) (by decide +kernel) rfl rfl (Nat.le_of_ble_eq_true rfl) _ (wup_3 (by decide)) dX5_init_119 ?_
  refine g_aload_n X 0 dX5_init_122 rfl rfl ?_
  refine g_sipush X (v := nI 400) dX5_init_123 (by decide) ?_
  refine g_newi X 24 0 (by rw [wup_ne (by omega), wup_ne (by omega), wup_ne (by omega), wup_ne (by omega), wup_ne (by omega), wup_ne (by omega), wup_ne (by omega), wup_ne (by omega), wup_ne (by omega), wup_ne (by omega), wup_ne (by omega), wup_ne (by omega), wup_ne (by omega), wup_ne (by omega)]; exact hC 24 0 (by decide) (by decide) (by omega)) (by decide +kernel) 400 (by decide) (by decide) (by decide) dX5_init_126 (fun q24 => ?_)
  generalize hal14 : aup al13 24 0 q24 = al14
  have e14_10 : al13 10 0 = al14 10 0 := by rw [← hal14]; rfl
  have e14_11 : al13 11 0 = al14 11 0 := by rw [← hal14]; rfl
  have e14_12 : al13 12 0 = al14 12 0 := by rw [← hal14]; rfl
  have e14_13 : al13 13 0 = al14 13 0 := by rw [← hal14]; rfl
  have e14_14 : al13 14 0 = al14 14 0 := by rw [← hal14]; rfl
  have e14_15 : al13 15 0 = al14 15 0 := by rw [← hal14]; rfl
  have e14_16 : al13 16 0 = al14 16 0 := by rw [← hal14]; rfl
  have e14_17 : al13 17 0 = al14 17 0 := by rw [← hal14]; rfl
  have e14_18 : al13 18 0 = al14 18 0 := by rw [← hal14]; rfl
  have e14_19 : al13 19 0 = al14 19 0 := by rw [← hal14]; rfl
  have e14_20 : al13 20 0 = al14 20 0 := by rw [← hal14]; rfl
  have e14_21 : al13 21 0 = al14 21 0 := by rw [← hal14]; rfl
  have e14_22 : al13 22 0 = al14 22 0 := by rw [← hal14]; rfl
  have e14_23 : al13 23 0 = al14 23 0 := by rw [← hal14]; rfl
  have hak14 : ∀ k i, ¬ (11 ≤ k ∧ k ≤ 25) → al14 k i = al k i := fun k i hk => by rw [← hal14, aup_ne (by omega)]; exact hak13 k i hk
  rw [e14_10, e14_11, e14_12, e14_13, e14_14, e14_15, e14_16, e14_17, e14_18, e14_19, e14_20, e14_21, e14_22, e14_23]
  refine g_putF X tyX5 tyX5_ok nmX5 10 0 (by rw [wup_ne (by omega), wup_self]) rfl 20 (by decide) hiX5 (by decide +kernel) rfl rfl hnm rfl (ty := .array .int) (by decide +kernel) rfl rfl (Nat.le_of_ble_eq_true rfl) _ (wup_3 (by decide)) dX5_init_128 ?_
  refine g_aload_n X 0 dX5_init_131 rfl rfl ?_
  refine g_iconst X (v := nI 4) dX5_init_132 (by decide) ?_
  refine g_newz X 25 0 (by rw [wup_ne (by omega), wup_ne (by omega), wup_ne (by omega), wup_ne (by omega), wup_ne (by omega), wup_ne (by omega), wup_ne (by omega), wup_ne (by omega), wup_ne (by omega), wup_ne (by omega), wup_ne (by omega), wup_ne (by omega), wup_ne (by omega), wup_ne (by omega), wup_ne (by omega)]; exact hC 25 0 (by decide) (by decide) (by omega)) (by decide +kernel) 4 (by decide) (by decide) (by decide) dX5_init_133 (fun q25 => ?_)
  generalize hal15 : aup al14 25 0 q25 = al15
  have e15_10 : al14 10 0 = al15 10 0 := by rw [← hal15]; rfl
  have e15_11 : al14 11 0 = al15 11 0 := by rw [← hal15]; rfl
  have e15_12 : al14 12 0 = al15 12 0 := by rw [← hal15]; rfl
  have e15_13 : al14 13 0 = al15 13 0 := by rw [← hal15]; rfl
  have e15_14 : al14 14 0 = al15 14 0 := by rw [← hal15]; rfl
  have e15_15 : al14 15 0 = al15 15 0 := by rw [← hal15]; rfl
  have e15_16 : al14 16 0 = al15 16 0 := by rw [← hal15]; rfl
  have e15_17 : al14 17 0 = al15 17 0 := by rw [← hal15]; rfl
  have e15_18 : al14 18 0 = al15 18 0 := by rw [← hal15]; rfl
  have e15_19 : al14 19 0 = al15 19 0 := by rw [← hal15]; rfl
  have e15_20 : al14 20 0 = al15 20 0 := by rw [← hal15]; rfl
  have e15_21 : al14 21 0 = al15 21 0 := by rw [← hal15]; rfl
  have e15_22 : al14 22 0 = al15 22 0 := by rw [← hal15]; rfl
  have e15_23 : al14 23 0 = al15 23 0 := by rw [← hal15]; rfl
  have e15_24 : al14 24 0 = al15 24 0 := by rw [← hal15]; rfl
  have hak15 : ∀ k i, ¬ (11 ≤ k ∧ k ≤ 25) → al15 k i = al k i := fun k i hk => by rw [← hal15, aup_ne (by omega)]; exact hak14 k i hk
  rw [e15_10, e15_11, e15_12, e15_13, e15_14, e15_15, e15_16, e15_17, e15_18, e15_19, e15_20, e15_21, e15_22, e15_23, e15_24]
  refine g_putF X tyX5 tyX5_ok nmX5 10 0 (by rw [wup_ne (by omega), wup_self]) rfl 21 (by decide) hiX5 (by decide +kernel) rfl rfl hnm rfl (ty := .array .boolean) (by decide +kernel) rfl rfl (Nat.le_of_ble_eq_true rfl) _ (wup_3 (by decide)) dX5_init_135 ?_
  refine g_wo (mini hC) ?_
  exact l_minit0 X hnm hak15 x y hx hy
