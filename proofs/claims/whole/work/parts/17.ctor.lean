def u0 (T M : Nat) : St := fun f i => if i = 0 then (if f = 0 then T else if f = 1 then M else if f = 5 then 1 else 0) else 0
/-- the class' cells while its constructor runs: ni inducts and nc chutes have been made -/
def bW (C : Wo) (ta : Nat → ClassId) (al : Ad) (T M ni nc : Nat) (hc : Bool) : Wo := fun k i =>
  if k = 0 ∧ i = 0 then some (.inr (4, [.int (nI T), .int (nI M), .ref (al 1 0), .ref (al 2 0), (if hc = true then .ref (al 5 0) else .null), .ref (al 7 0), .ref (al 8 0), .int (nI 0), .int (nI 0), .int (nI 0), .int (nI 1), .int (nI 0), .int (nI 0)]))
  else if k = 1 ∧ i = 0 then some (.inl (ta 0, T, .inr (.inr (.inr (.inr (fun _ => none))))))
  else if k = 7 ∧ i = 0 then some (.inl (ta 0, 400, .inr (.inr (.inr (.inr (fun _ => none))))))
  else if k = 8 ∧ i = 0 then some (.inl (ta 0, 400, .inr (.inr (.inr (.inr (fun _ => none))))))
  else if k = 2 ∧ i = 0 then some (.inl (ta 1, 4, .inr (.inr (.inr (.inr (fun j => if j < ni then some (al 3 (j + 1)) else none))))))
  else if k = 3 ∧ 1 ≤ i ∧ i ≤ ni then some (.inr (2, [.int (nI ((i - 1) * T / 4)), .ref (al 4 i), .int (nI 0), .long (lN 0), .int (nI 0)]))
  else if k = 4 ∧ 1 ≤ i ∧ i ≤ ni then some (.inl (ta 0, 8, .inr (.inr (.inr (.inr (fun _ => none))))))
  else if k = 5 ∧ i = 0 ∧ hc = true then some (.inl (ta 2, 16, .inr (.inr (.inr (.inr (fun j => if j < nc then some (al 6 j) else none))))))
  else if k = 6 ∧ i < nc then some (.inr (1, [.int (nI ((i * T + T / 2) / 16)), .int (nI (bN (i = 15))), .int (nI 0), .int (nI 0)]))
  else C k i
theorem bW_end {C : Wo} {ta : Nat → ClassId} {pl : Nat → Nat} {al : Ad} {T M : Nat} (hC : ∀ k i, k < 10 → ¬ (k = 0 ∧ i = 0) → C k i = none) : bW C ta al T M 4 16 true = mC C ta pl al (u0 T M) := by
  funext k i
  rcases (show k = 0 ∨ k = 1 ∨ k = 2 ∨ k = 3 ∨ k = 4 ∨ k = 5 ∨ k = 6 ∨ k = 7 ∨ k = 8 ∨ k = 9 ∨ 10 ≤ k by omega) with rfl | rfl | rfl | rfl | rfl | rfl | rfl | rfl | rfl | rfl | h10
  · by_cases h : i = 0
    · simp [bW, mC, cC, u0, h]
    · simp [bW, mC, cC, h, hC 0 i (by decide) (fun z => h z.2)]
  · by_cases h : i = 0
    · simp [bW, mC, cC, u0, rI, h]
    · simp [bW, mC, cC, h, hC 1 i (by decide) (by omega)]
  · by_cases h : i = 0
    · simp [bW, mC, cC, h]
    · simp [bW, mC, cC, h, hC 2 i (by decide) (by omega)]
  · by_cases h : 1 ≤ i ∧ i ≤ 4
    · simp [bW, mC, cC, u0, h, show ¬ i = 0 by omega]
    · simp [bW, mC, cC, h, hC 3 i (by decide) (by omega)]
  · by_cases h : 1 ≤ i ∧ i ≤ 4
    · simp [bW, mC, cC, u0, rI, h, show ¬ 40 + i = 0 by omega, show ¬ 40 + i = 1 by omega, show ¬ 40 + i = 5 by omega]
    · simp [bW, mC, cC, h, hC 4 i (by decide) (by omega)]
  · by_cases h : i = 0
    · simp [bW, mC, cC, h]
    · simp [bW, mC, cC, h, hC 5 i (by decide) (by omega)]
  · by_cases h : i < 16
    · simp [bW, mC, cC, u0, h]
    · simp [bW, mC, cC, h, hC 6 i (by decide) (by omega)]
  · by_cases h : i = 0
    · simp [bW, mC, cC, u0, rI, h]
    · simp [bW, mC, cC, h, hC 7 i (by decide) (by omega)]
  · by_cases h : i = 0
    · simp [bW, mC, cC, u0, rI, h]
    · simp [bW, mC, cC, h, hC 8 i (by decide) (by omega)]
  · have h : ¬ (1 ≤ i ∧ i ≤ u0 T M 30 0) := by simp [u0]; omega
    simp only [mC, cC, h, if_false]
    simp [bW, hC 9 i (by decide) (by omega)]
  · simp [bW, mC, show ¬ k < 10 by omega, show ¬ k = 0 by omega, show ¬ k = 1 by omega, show ¬ k = 2 by omega, show ¬ k = 3 by omega, show ¬ k = 4 by omega, show ¬ k = 5 by omega, show ¬ k = 6 by omega, show ¬ k = 7 by omega, show ¬ k = 8 by omega]
theorem bW_ind {C : Wo} {ta : Nat → ClassId} {al : Ad} {T M n q1 q2 : Nat} {e0 : va_E} :
    wup (wup (wup (wup (bW C ta al T M n 0 false) 3 (n + 1) e0) 4 (n + 1) (.inl (ta 0, 8, .inr (.inr (.inr (.inr (fun _ => none))))))) 3 (n + 1) (.inr (2, [.int (nI (n * T / 4)), .ref (aup (aup al 3 (n + 1) q1) 4 (n + 1) q2 4 (n + 1)), .int (nI 0), .long (lN 0), .int (nI 0)]))) 2 0 (.inl (ta 1, 4, .inr (.inr (.inr (.inr (va_up (fun j => if j < n then some (al 3 (j + 1)) else none) n (some (aup (aup al 3 (n + 1) q1) 4 (n + 1) q2 3 (n + 1))))))))) = bW C ta (aup (aup al 3 (n + 1) q1) 4 (n + 1) q2) T M (n + 1) 0 false := by
  funext k i
  by_cases h2 : k = 2 ∧ i = 0
  · obtain ⟨rfl, rfl⟩ := h2
    rw [wup_self]
    simp only [bW]
    simp only [show ¬ (2 = 0 ∧ 0 = 0) by omega, show ¬ (2 = 1 ∧ 0 = 0) by omega, show ¬ (2 = 7 ∧ 0 = 0) by omega, show ¬ (2 = 8 ∧ 0 = 0) by omega, if_false, and_self, if_true]
    congr 8
    funext j
    by_cases hj : j = n
    · subst hj; simp [va_up]
    · by_cases hl : j < n
      · simp [va_up, hj, hl, show j < n + 1 by omega, aup]
      · simp [va_up, hj, hl, show ¬ j < n + 1 by omega]
  · rw [wup_ne h2]
    by_cases h3 : k = 3 ∧ i = n + 1
    · obtain ⟨rfl, rfl⟩ := h3
      rw [wup_self]
      simp [bW]
    · rw [wup_ne h3]
      by_cases h4 : k = 4 ∧ i = n + 1
      · obtain ⟨rfl, rfl⟩ := h4
        rw [wup_self]
        simp [bW]
      · rw [wup_ne h4, wup_ne h3]
        unfold bW
        by_cases k0 : k = 0 ∧ i = 0
        · simp [k0, aup]
        · by_cases k3 : k = 3
          · subst k3
            have e1 : (1 ≤ i ∧ i ≤ n + 1) ↔ (1 ≤ i ∧ i ≤ n) := by omega
            simp only [e1]
            by_cases hr : 1 ≤ i ∧ i ≤ n
            · simp [hr, aup, show ¬ i = n + 1 by omega]
            · simp [hr]
          · by_cases k4 : k = 4
            · subst k4
              have e1 : (1 ≤ i ∧ i ≤ n + 1) ↔ (1 ≤ i ∧ i ≤ n) := by omega
              simp only [e1]
              by_cases hr : 1 ≤ i ∧ i ≤ n <;> simp [hr]
            · simp [k0, k3, k4, h2]
theorem bW_chu {C : Wo} {ta : Nat → ClassId} {al : Ad} {T M n q1 : Nat} {e0 : va_E} :
    wup (wup (wup (bW C ta al T M 4 n true) 6 n e0) 6 n (.inr (1, [.int (nI ((n * T + T / 2) / 16)), .int (nI (bN (n = 15))), .int (nI 0), .int (nI 0)]))) 5 0 (.inl (ta 2, 16, .inr (.inr (.inr (.inr (va_up (fun j => if j < n then some (al 6 j) else none) n (some (aup al 6 n q1 6 n)))))))) = bW C ta (aup al 6 n q1) T M 4 (n + 1) true := by
  funext k i
  by_cases h2 : k = 5 ∧ i = 0
  · obtain ⟨rfl, rfl⟩ := h2
    rw [wup_self]
    simp only [bW]
    simp only [show ¬ (5 = 0 ∧ 0 = 0) by omega, show ¬ (5 = 1 ∧ 0 = 0) by omega, show ¬ (5 = 7 ∧ 0 = 0) by omega, show ¬ (5 = 8 ∧ 0 = 0) by omega, show ¬ (5 = 2 ∧ 0 = 0) by omega, show ¬ (5 = 3 ∧ 1 ≤ 0 ∧ 0 ≤ 4) by omega, show ¬ (5 = 4 ∧ 1 ≤ 0 ∧ 0 ≤ 4) by omega, if_false, and_self, if_true]
    congr 8
    funext j
    by_cases hj : j = n
    · subst hj; simp [va_up]
    · by_cases hl : j < n
      · simp [va_up, hj, hl, show j < n + 1 by omega, aup]
      · simp [va_up, hj, hl, show ¬ j < n + 1 by omega]
  · rw [wup_ne h2, wup_wup]
    by_cases h3 : k = 6 ∧ i = n
    · obtain ⟨rfl, rfl⟩ := h3
      rw [wup_self]
      simp [bW]
    · rw [wup_ne h3]
      unfold bW
      by_cases k0 : k = 0 ∧ i = 0
      · simp [k0, aup]
      · by_cases k6 : k = 6
        · subst k6
          have e1 : i < n + 1 ↔ i < n := by omega
          simp [e1]
        · by_cases k5 : k = 5
          · subst k5
            have : ¬ i = 0 := fun z => h2 ⟨rfl, z⟩
            simp [this]
          · simp [k0, k6, k5, aup]
set_option maxRecDepth 100000 in
set_option maxHeartbeats 4000000 in
theorem l_init2 {l : Launch} {D : va_G} {ta : Nat → ClassId} {pl : Nat → Nat} {bs : Nat} {C : Wo} {p : Program} {e : Env} {s : State} {m : MethodId} {args : Array Value} {below : List Frame} {meth : Method} {c : Code} (X : Cx D ta pl bs 4 p s m args meth c cX4_init wsX4_init RX4 none) {T M a0 : Nat} {ak : Ad} (hT : 1 ≤ T) (hT2 : T ≤ 200) (hC : ∀ k i, k < 10 → ¬ (k = 0 ∧ i = 0) → C k i = none) : ∀ (n9 i : Nat) (al : Ad), i ≤ 16 → 16 + 1 ≤ i + n9 → al 0 0 = a0 → (∀ k j, 10 ≤ k → al k j = ak k j) → WW D bs 4 p l e { frames := 2, cells := 29, slots := 1136, locals := 40 } s m args below meth c (QQ D bs below args s 29 1136 (fun r al' C' => r = none ∧ al' 0 0 = a0 ∧ (∀ k i, 10 ≤ k → al' k i = ak k i) ∧ C' = mC C ta pl al' (u0 T M))) al (bW C ta al T M 4 i true) (13 + i) (1072 + 4 * i) 114 [(3, .int (nI i)), (0, .ref (al 0 0))] [] := by
  have hiX4 : ∀ w ∈ u_ws RX4 TX4 13, w ∈ wsX4_init := by decide +kernel
  have hiX0 : ∀ w ∈ u_ws RX0 TX0 4, w ∈ wsX4_init := by decide +kernel
  intro n9
  induction n9 with
  | zero => intro i al h8 h9; exact absurd h9 (by omega)
  | succ n9 ih =>
    intro i al h8 h9 h00 hak
    refine g_iload_n X 0 dX4_init_114 rfl rfl ?_
    refine g_bipush X (v := nI 16) dX4_init_115 (by decide) ?_
    refine g_icmp_ge X 166 dX4_init_117 (by decide) (nI_leI (by omega) (by omega)) (fun c_1 => ?_) (fun c_1 => ?_)
    · have e9 : i = 16 := by omega
      subst e9
      refine g_wo (bW_end (pl := pl) hC) ?_
      exact g_vret X rfl dX4_init_166 ⟨rfl, h00, hak, rfl⟩
    · have hm9 : i * T ≤ 15 * T := Nat.mul_le_mul_right _ (by omega)
      refine g_aload_n X 1 dX4_init_120 rfl rfl ?_
      refine g_get X 0 0 (ci := 4) rfl rfl 4 (by decide) hiX4 (by decide +kernel) rfl rfl dX4_init_121 ?_
      refine g_iload_n X 0 dX4_init_124 rfl rfl ?_
      refine g_new (N := 4) (ci := 1) X 6 i (by simp [bW, hC 6 i (by decide) (by omega)]) tyX0 tyX0_ok rfl hiX0 (by decide +kernel) (by decide +kernel) (by decide +kernel) [.int (nI 0), .int (nI 0), .int (nI 0), .int (nI 0)] (fun j hj => by rcases (show j = 0 ∨ j = 1 ∨ j = 2 ∨ j = 3 by omega) with rfl | rfl | rfl | rfl <;> rfl) (by show _ ≤ 29; omega) (by show _ ≤ 1136; omega) dX4_init_125 (fun q => ?_)
      refine g_dup X dX4_init_128 rfl ?_
      refine g_iload_n X 0 dX4_init_129 rfl rfl ?_
      refine g_aload_n X 1 dX4_init_130 rfl rfl ?_
      refine g_get X 0 0 (ci := 4) (by rw [wup_ne (by omega)]; rfl) rfl 0 (by decide) hiX4 (by decide +kernel) rfl rfl dX4_init_131 ?_
      refine g_imul X dX4_init_134 (pk_mul _ _) ?_
      refine g_aload_n X 1 dX4_init_135 rfl rfl ?_
      refine g_get X 0 0 (ci := 4) (by rw [wup_ne (by omega)]; rfl) rfl 0 (by decide) hiX4 (by decide +kernel) rfl rfl dX4_init_136 ?_
      refine g_iconst X (v := nI 2) dX4_init_139 (by decide) ?_
      refine g_idiv X dX4_init_140 (nI_ne0 (by omega) (by omega)) (pk_div (by omega) (by omega) (by omega)) ?_
      refine g_iadd X dX4_init_141 (nI_add _ _) ?_
      refine g_bipush X (v := nI 16) dX4_init_142 (by decide) ?_
      refine g_idiv X dX4_init_144 (nI_ne0 (by omega) (by omega)) (pk_div (by omega) (by omega) (by omega)) ?_
      refine g_iload_n X 0 dX4_init_145 rfl rfl ?_
      refine g_bipush X (v := nI 15) dX4_init_146 (by decide) ?_
      have key : WW D bs 4 p l e { frames := 2, cells := 29, slots := 1136, locals := 40 } s m args below meth c (QQ D bs below args s 29 1136 (fun r al' C' => r = none ∧ al' 0 0 = a0 ∧ (∀ k i, 10 ≤ k → al' k i = ak k i) ∧ C' = mC C ta pl al' (u0 T M))) (aup al 6 i q) (wup (bW C ta al T M 4 i true) 6 i (.inr (1, [.int (nI 0), .int (nI 0), .int (nI 0), .int (nI 0)]))) (13 + i + 1) (1072 + 4 * i + 4) 156 [(3, .int (nI i)), (0, .ref (al 0 0))] [.int (nI (bN (i = 15))), .int (nI ((i * T + T / 2) / 16)), .ref (aup al 6 i q 6 i), .ref (aup al 6 i q 6 i), .int (nI i), .ref (al 5 0)] := by
        refine g_callI (n := 2) X (aup al 6 i q 6 i) [.int (nI ((i * T + T / 2) / 16)), .int (nI (bN (i = 15)))] (c_Chute 6 i _ _ (by unfold bN; split <;> omega) wup_self) ggX4_init_X0_init rfl rfl rfl (by decide +kernel) (by decide +kernel) (by decide +kernel) rfl (by decide +kernel) ⟨by decide, by decide⟩ rfl (Nat.le_of_ble_eq_true rfl) dX4_init_156 ⟨by show _ ≤ 29; omega, by show _ ≤ 1136; omega⟩ _ rfl (fun rv al2 C2 h7 => ?_)
        obtain ⟨rfl, rfl, rfl⟩ := h7
        refine g_aast2 X 5 0 6 i (f := fun j => if j < i then some (al 6 j) else none) (by rw [wup_ne (by omega), wup_ne (by omega)]; rfl) wup_self i (by omega) (by decide) _ bW_chu dX4_init_159 ?_
        refine g_iinc X 0 [(3, .int (nI (i + 1))), (0, .ref (al 0 0))] dX4_init_160 rfl (nI_inc (by decide)) (by decide) rfl ?_
        refine g_goto X 114 dX4_init_163 (by decide) ?_
        refine g_widen (k := 13 + (i + 1)) (n := 1072 + 4 * (i + 1)) (by omega) (by omega) ?_
        exact ih (i + 1) (aup al 6 i q) (by omega) (by omega) h00 (fun k j hk => by rw [aup_ne (by omega)]; exact hak k j hk)
      refine g_icmp_ne X 155 dX4_init_148 (by decide) (nI_eq (by omega) (by omega)) (fun c_2 => ?_) (fun c_2 => ?_)
      · refine g_iconst X (v := nI 0) dX4_init_155 (by decide) ?_
        have e8 : bN (i = 15) = 0 := by simp [bN, c_2]
        rw [e8] at key
        exact key
      · refine g_iconst X (v := nI 1) dX4_init_151 (by decide) ?_
        refine g_goto X 156 dX4_init_152 (by decide) ?_
        have e8 : bN (i = 15) = 1 := by simp [bN, c_2]
        rw [e8] at key
        exact key
set_option maxRecDepth 100000 in
set_option maxHeartbeats 4000000 in
theorem l_init1 {l : Launch} {D : va_G} {ta : Nat → ClassId} {pl : Nat → Nat} {bs : Nat} {C : Wo} {p : Program} {e : Env} {s : State} {m : MethodId} {args : Array Value} {below : List Frame} {meth : Method} {c : Code} (X : Cx D ta pl bs 4 p s m args meth c cX4_init wsX4_init RX4 none) (hnm : meth.name = "<init>") {T M a0 : Nat} {ak : Ad} (hT : 1 ≤ T) (hT2 : T ≤ 200) (hC : ∀ k i, k < 10 → ¬ (k = 0 ∧ i = 0) → C k i = none) : ∀ (n9 i : Nat) (al : Ad), i ≤ 4 → 4 + 1 ≤ i + n9 → al 0 0 = a0 → (∀ k j, 10 ≤ k → al k j = ak k j) → WW D bs 4 p l e { frames := 2, cells := 29, slots := 1136, locals := 40 } s m args below meth c (QQ D bs below args s 29 1136 (fun r al' C' => r = none ∧ al' 0 0 = a0 ∧ (∀ k i, 10 ≤ k → al' k i = ak k i) ∧ C' = mC C ta pl al' (u0 T M))) al (bW C ta al T M i 0 false) (4 + 2 * i) (1004 + 13 * i) 71 [(3, .int (nI i)), (0, .ref (al 0 0))] [] := by
  have hiX4 : ∀ w ∈ u_ws RX4 TX4 13, w ∈ wsX4_init := by decide +kernel
  have hiX1 : ∀ w ∈ u_ws RX1 TX1 5, w ∈ wsX4_init := by decide +kernel
  intro n9
  induction n9 with
  | zero => intro i al h8 h9; exact absurd h9 (by omega)
  | succ n9 ih =>
    intro i al h8 h9 h00 hak
    refine g_iload_n X 0 dX4_init_71 rfl rfl ?_
    refine g_iconst X (v := nI 4) dX4_init_72 (by decide) ?_
    refine g_icmp_ge X 103 dX4_init_73 (by decide) (nI_leI (by omega) (by omega)) (fun c_1 => ?_) (fun c_1 => ?_)
    · have e9 : i = 4 := by omega
      subst e9
      refine g_aload_n X 1 dX4_init_103 rfl rfl ?_
      refine g_bipush X (v := nI 16) dX4_init_104 (by decide) ?_
      refine g_newq2 X 5 0 (by simp [bW, hC 5 0 (by decide) (by omega)]) (by decide +kernel) 16 (by decide) (by decide) (by decide) dX4_init_106 (fun q => ?_)
      refine g_putF X tyX4 tyX4_ok nmX4 0 0 (by rw [wup_ne (by omega)]; rfl) rfl 4 (by decide) hiX4 (by decide +kernel) rfl rfl hnm rfl (ty := .array (.object "LoopSorter$Chute")) (by decide +kernel) rfl rfl (Nat.le_of_ble_eq_true rfl) (bW C ta (aup al 5 0 q) T M 4 0 true) ?_ dX4_init_109 ?_
      · funext k j
        by_cases k0 : k = 0 ∧ j = 0
        · obtain ⟨rfl, rfl⟩ := k0
          rw [wup_self]; simp [bW, aup]
        · rw [wup_ne k0]
          by_cases k5 : k = 5 ∧ j = 0
          · obtain ⟨rfl, rfl⟩ := k5
            rw [wup_self]; simp [bW]
          · rw [wup_ne k5]
            unfold bW
            by_cases k55 : k = 5
            · subst k55
              have : ¬ j = 0 := fun z => k5 ⟨rfl, z⟩
              simp [this]
            · simp [k0, k55, aup]
      refine g_iconst X (v := nI 0) dX4_init_112 (by decide) ?_
      refine g_istore_n X [(3, .int (nI 0)), (0, .ref (al 0 0))] dX4_init_113 rfl (by decide) rfl ?_
      exact l_init2 X hT hT2 hC 17 0 (aup al 5 0 q) (Nat.zero_le _) (Nat.le_refl _) h00 (fun k j hk => by rw [aup_ne (by omega)]; exact hak k j hk)
    · have hm9 : i * T ≤ 3 * T := Nat.mul_le_mul_right _ (by omega)
      refine g_aload_n X 1 dX4_init_76 rfl rfl ?_
      refine g_get X 0 0 (ci := 4) rfl rfl 3 (by decide) hiX4 (by decide +kernel) rfl rfl dX4_init_77 ?_
      refine g_iload_n X 0 dX4_init_80 rfl rfl ?_
      refine g_new (N := 5) (ci := 2) X 3 (i + 1) (by simp [bW, hC 3 (i + 1) (by decide) (by omega)]) tyX1 tyX1_ok rfl hiX1 (by decide +kernel) (by decide +kernel) (by decide +kernel) [.int (nI 0), .null, .int (nI 0), .long (lN 0), .int (nI 0)] (fun j hj => by rcases (show j = 0 ∨ j = 1 ∨ j = 2 ∨ j = 3 ∨ j = 4 by omega) with rfl | rfl | rfl | rfl | rfl <;> rfl) (by show _ ≤ 29; omega) (by show _ ≤ 1136; omega) dX4_init_81 (fun q => ?_)
      refine g_dup X dX4_init_84 rfl ?_
      refine g_iload_n X 0 dX4_init_85 rfl rfl ?_
      refine g_aload_n X 1 dX4_init_86 rfl rfl ?_
      refine g_get X 0 0 (ci := 4) (by rw [wup_ne (by omega)]; rfl) rfl 0 (by decide) hiX4 (by decide +kernel) rfl rfl dX4_init_87 ?_
      refine g_imul X dX4_init_90 (pk_mul _ _) ?_
      refine g_iconst X (v := nI 4) dX4_init_91 (by decide) ?_
      refine g_idiv X dX4_init_92 (nI_ne0 (by omega) (by omega)) (pk_div (by omega) (by omega) (by omega)) ?_
      refine g_callI (n := 1) X (aup al 3 (i + 1) q 3 (i + 1)) [.int (nI (i * T / 4))] (c_Induct (i + 1) _ (by rw [wup_ne (by omega)]; simp [bW, hC 4 (i + 1) (by decide) (by omega)]) wup_self) ggX4_init_X1_init rfl rfl rfl (by decide +kernel) (by decide +kernel) (by decide +kernel) rfl (by decide +kernel) ⟨by decide, by decide⟩ rfl (Nat.le_of_ble_eq_true rfl) dX4_init_93 ⟨by show _ ≤ 29; omega, by show _ ≤ 1136; omega⟩ _ rfl (fun rv al2 C2 h7 => ?_)
      obtain ⟨rfl, q2, rfl, rfl⟩ := h7
      refine g_aast1 X 2 0 3 (i + 1) (f := fun j => if j < i then some (al 3 (j + 1)) else none) (by rw [wup_ne (by omega), wup_ne (by omega), wup_ne (by omega)]; rfl) wup_self i (by omega) (by decide) _ bW_ind dX4_init_96 ?_
      refine g_iinc X 0 [(3, .int (nI (i + 1))), (0, .ref (al 0 0))] dX4_init_97 rfl (nI_inc (by decide)) (by decide) rfl ?_
      refine g_goto X 71 dX4_init_100 (by decide) ?_
      refine g_widen (k := 4 + 2 * (i + 1)) (n := 1004 + 13 * (i + 1)) (by omega) (by omega) ?_
      exact ih (i + 1) (aup (aup al 3 (i + 1) q) 4 (i + 1) q2) (by omega) (by omega) h00 (fun k j hk => by rw [aup_ne (by omega), aup_ne (by omega)]; exact hak k j hk)
set_option maxRecDepth 100000 in
set_option maxHeartbeats 4000000 in
/-- LoopSorter(x, y) -/
theorem c_LoopSorter {l : Launch} {D : va_G} {ta : Nat → ClassId} {pl : Nat → Nat} {bs : Nat} {C : Wo} {al : Ad} (x y : Int32) (h0 : C 0 0 = some (.inr (4, [.int (nI 0), .int (nI 0), .null, .null, .null, .null, .null, .int (nI 0), .int (nI 0), .int (nI 0), .int (nI 0), .int (nI 0), .int (nI 0)]))) (hC : ∀ k i, k < 10 → ¬ (k = 0 ∧ i = 0) → C k i = none) : GM l D ta pl bs yX4_init wsX4_init { frames := 2, cells := 29, slots := 1136, locals := 40 } 29 1136 [.ref (al 0 0), .int x, .int y] al C (fun r al' C' => r = none ∧ al' 0 0 = al 0 0 ∧ (∀ k i, 10 ≤ k → al' k i = al k i) ∧ C' = mC C ta pl al' (u0 (cl x 200) (cl y 20))) := by
  refine GM.of (by decide) rfl (Nat.le_of_ble_eq_true rfl) ?_
  intro p e s m args below meth c X hnm
  have hiX4 : ∀ w ∈ u_ws RX4 TX4 13, w ∈ wsX4_init := by decide +kernel
  obtain ⟨hT, hT2⟩ := cl_in x (n := 200) (by decide) (by decide)
  obtain ⟨hM, hM2⟩ := cl_in y (n := 20) (by decide) (by decide)
  refine g_lv (lv' := [(0, .ref (al 0 0)), (1, .int x), (2, .int y)]) [0, 1, 2] rfl ?_
  refine g_aload_n X 0 dX4_init_0 rfl rfl ?_
  refine g_objInit X (by decide +kernel) (by decide +kernel) (by decide +kernel) dX4_init_1 (by decide) (Nat.le_of_ble_eq_true rfl) ?_
  refine g_aload_n X 0 dX4_init_4 rfl rfl ?_
  refine g_iload_n X 1 dX4_init_5 rfl rfl ?_
  refine g_sipush X (v := nI 200) dX4_init_6 (by decide) ?_
  refine g_callDS1 (n := 2) X [.int x, .int (nI 200)] (c_bring x 200 (by decide) (by decide)) gX4_init_X4_bringWithin rfl ⟨rfl, rfl⟩ (by decide +kernel) ⟨by decide, by decide⟩ rfl (Nat.le_of_ble_eq_true rfl) dX4_init_9 ⟨by decide, by decide⟩ _ rfl ?_
  refine g_putF X tyX4 tyX4_ok nmX4 0 0 h0 rfl 0 (by decide) hiX4 (by decide +kernel) rfl rfl hnm rfl (ty := .int) (by decide +kernel) rfl rfl (Nat.le_of_ble_eq_true rfl) _ rfl dX4_init_12 ?_
  refine g_aload_n X 0 dX4_init_15 rfl rfl ?_
  refine g_iload_n X 2 dX4_init_16 rfl rfl ?_
  refine g_bipush X (v := nI 20) dX4_init_17 (by decide) ?_
  refine g_callDS1 (n := 2) X [.int y, .int (nI 20)] (c_bring y 20 (by decide) (by decide)) gX4_init_X4_bringWithin rfl ⟨rfl, rfl⟩ (by decide +kernel) ⟨by decide, by decide⟩ rfl (Nat.le_of_ble_eq_true rfl) dX4_init_19 ⟨by decide, by decide⟩ _ rfl ?_
  refine g_putF X tyX4 tyX4_ok nmX4 0 0 wup_self rfl 1 (by decide) hiX4 (by decide +kernel) rfl rfl hnm rfl (ty := .int) (by decide +kernel) rfl rfl (Nat.le_of_ble_eq_true rfl) _ wup_wup dX4_init_22 ?_
  refine g_aload_n X 0 dX4_init_25 rfl rfl ?_
  refine g_aload_n X 0 dX4_init_26 rfl rfl ?_
  refine g_get X 0 0 (ci := 4) wup_self rfl 0 (by decide) hiX4 (by decide +kernel) rfl rfl dX4_init_27 ?_
  refine g_newq0 X 1 0 (by rw [wup_ne (by omega)]; exact hC 1 0 (by decide) (by omega)) (by decide +kernel) (cl x 200) (by omega) (by decide) (by show _ ≤ 1136; omega) dX4_init_30 (fun q1 => ?_)
  refine g_putF X tyX4 tyX4_ok nmX4 0 0 (by rw [wup_ne (by omega), wup_self]) rfl 2 (by decide) hiX4 (by decide +kernel) rfl rfl hnm rfl (ty := .array (.object "LoopSorter$Item")) (by decide +kernel) rfl rfl (Nat.le_of_ble_eq_true rfl) _ (wup_3 (by decide)) dX4_init_33 ?_
  refine g_aload_n X 0 dX4_init_36 rfl rfl ?_
  refine g_sipush X (v := nI 400) dX4_init_37 (by decide) ?_
  refine g_newq0 X 7 0 (by rw [wup_ne (by omega), wup_ne (by omega)]; exact hC 7 0 (by decide) (by omega)) (by decide +kernel) 400 (by decide) (by decide) (by show _ ≤ 1136; omega) dX4_init_40 (fun q2 => ?_)
  refine g_putF X tyX4 tyX4_ok nmX4 0 0 (by rw [wup_ne (by omega), wup_self]) rfl 5 (by decide) hiX4 (by decide +kernel) rfl rfl hnm rfl (ty := .array (.object "LoopSorter$Item")) (by decide +kernel) rfl rfl (Nat.le_of_ble_eq_true rfl) _ (wup_3 (by decide)) dX4_init_43 ?_
  refine g_aload_n X 0 dX4_init_46 rfl rfl ?_
  refine g_sipush X (v := nI 400) dX4_init_47 (by decide) ?_
  refine g_newq0 X 8 0 (by rw [wup_ne (by omega), wup_ne (by omega), wup_ne (by omega)]; exact hC 8 0 (by decide) (by omega)) (by decide +kernel) 400 (by decide) (by decide) (by show _ ≤ 1136; omega) dX4_init_50 (fun q3 => ?_)
  refine g_putF X tyX4 tyX4_ok nmX4 0 0 (by rw [wup_ne (by omega), wup_self]) rfl 6 (by decide) hiX4 (by decide +kernel) rfl rfl hnm rfl (ty := .array (.object "LoopSorter$Item")) (by decide +kernel) rfl rfl (Nat.le_of_ble_eq_true rfl) _ (wup_3 (by decide)) dX4_init_53 ?_
  refine g_aload_n X 0 dX4_init_56 rfl rfl ?_
  refine g_iconst X (v := nI 1) dX4_init_57 (by decide) ?_
  refine g_put X tyX4 tyX4_ok nmX4 0 0 wup_self rfl 10 (by decide) hiX4 (by decide +kernel) rfl rfl (ty := .int) (by decide +kernel) rfl rfl (Nat.le_of_ble_eq_true rfl) _ wup_wup dX4_init_58 ?_
  refine g_aload_n X 0 dX4_init_61 rfl rfl ?_
  refine g_iconst X (v := nI 4) dX4_init_62 (by decide) ?_
  refine g_newq1 X 2 0 (by rw [wup_ne (by omega), wup_ne (by omega), wup_ne (by omega), wup_ne (by omega)]; exact hC 2 0 (by decide) (by omega)) (by decide +kernel) 4 (by decide) (by decide) (by show _ ≤ 1136; omega) dX4_init_63 (fun q4 => ?_)
  refine g_putF X tyX4 tyX4_ok nmX4 0 0 (by rw [wup_ne (by omega), wup_self]) rfl 3 (by decide) hiX4 (by decide +kernel) rfl rfl hnm rfl (ty := .array (.object "LoopSorter$Induct")) (by decide +kernel) rfl rfl (Nat.le_of_ble_eq_true rfl) _ (wup_3 (by decide)) dX4_init_66 ?_
  refine g_iconst X (v := nI 0) dX4_init_69 (by decide) ?_
  refine g_istore_n X [(3, .int (nI 0)), (0, .ref (al 0 0)), (1, .int x), (2, .int y)] dX4_init_70 rfl (by decide) rfl ?_
  refine g_wo (C1 := bW C ta (aup (aup (aup (aup al 1 0 q1) 7 0 q2) 8 0 q3) 2 0 q4) (cl x 200) (cl y 20) 0 0 false) ?_ ?_
  · funext k i
    by_cases k0 : k = 0 ∧ i = 0
    · obtain ⟨rfl, rfl⟩ := k0
      simp [wup, bW, aup]
    · by_cases k1 : k = 1 ∧ i = 0
      · obtain ⟨rfl, rfl⟩ := k1
        simp [wup, bW]
      · by_cases k7 : k = 7 ∧ i = 0
        · obtain ⟨rfl, rfl⟩ := k7
          simp [wup, bW]
        · by_cases k8 : k = 8 ∧ i = 0
          · obtain ⟨rfl, rfl⟩ := k8
            simp [wup, bW]
          · by_cases k2 : k = 2 ∧ i = 0
            · obtain ⟨rfl, rfl⟩ := k2
              simp [wup, bW]
            · simp [wup, bW, k0, k1, k2, k7, k8, show ¬ (1 ≤ i ∧ i = 0) by omega]
  refine g_lv (lv' := [(3, .int (nI 0)), (0, .ref ((aup (aup (aup (aup al 1 0 q1) 7 0 q2) 8 0 q3) 2 0 q4) 0 0))]) [0, 1] rfl ?_
  refine g_widen (k := 4 + 2 * 0) (n := 1004 + 13 * 0) (by omega) (by omega) ?_
  exact l_init1 X hnm hT hT2 hC 5 0 _ (Nat.zero_le _) (Nat.le_refl _) rfl (fun k j hk => by rw [aup_ne (by omega), aup_ne (by omega), aup_ne (by omega), aup_ne (by omega)])
