theorem mvD_at {v : St} (g : Nat) (hg : g = 11 ∨ g = 12) (q : Nat) : ∀ j, j ≤ v 1 0 - 1 → mvD v j g q = if v 1 0 - 1 < q + j ∧ q ≤ v 1 0 - 1 then v g (q - 1) else v g q := by
  intro j
  induction j generalizing q with
  | zero => intro _; rw [if_neg (by omega)]; rfl
  | succ j ih =>
    intro hj
    show st (st (mvD v j) 11 (v 1 0 - 1 - j) (mvD v j 11 (v 1 0 - 1 - j - 1))) 12 (v 1 0 - 1 - j) (st (mvD v j) 11 (v 1 0 - 1 - j) (mvD v j 11 (v 1 0 - 1 - j - 1)) 12 (v 1 0 - 1 - j - 1)) g q = _
    rcases hg with rfl | rfl
    · rw [st_nf (by decide)]
      by_cases hq : q = v 1 0 - 1 - j
      · rw [hq, st_self, ih _ (by omega), if_neg (by omega), if_pos (by omega)]
      · rw [st_ni hq, ih _ (by omega)]
        by_cases h1 : v 1 0 - 1 < q + j ∧ q ≤ v 1 0 - 1
        · rw [if_pos h1, if_pos (by omega)]
        · rw [if_neg h1, if_neg (by omega)]
    · by_cases hq : q = v 1 0 - 1 - j
      · rw [hq, st_self, st_nf (by decide), ih _ (by omega), if_neg (by omega), if_pos (by omega)]
      · rw [st_ni hq, st_nf (by decide), ih _ (by omega)]
        by_cases h1 : v 1 0 - 1 < q + j ∧ q ≤ v 1 0 - 1
        · rw [if_pos h1, if_pos (by omega)]
        · rw [if_neg h1, if_neg (by omega)]
theorem mvA_at {v : St} (g : Nat) (hg : g = 11 ∨ g = 12) (q : Nat) : mvA v g q = if q = 0 then v g (v 1 0 - 1) else if q ≤ v 1 0 - 1 then v g (q - 1) else v g q := by
  unfold mvA
  rcases hg with rfl | rfl
  · rw [st_nf (by decide)]
    by_cases hq : q = 0
    · rw [hq, st_self, if_pos rfl]
    · rw [st_ni hq, if_neg hq, mvD_at 11 (Or.inl rfl) q _ (Nat.le_refl _)]
      by_cases h1 : q ≤ v 1 0 - 1
      · rw [if_pos (by omega), if_pos h1]
      · rw [if_neg (by omega), if_neg h1]
  · by_cases hq : q = 0
    · rw [hq, st_self, if_pos rfl]
    · rw [st_ni hq, st_nf (by decide), if_neg hq, mvD_at 12 (Or.inr rfl) q _ (Nat.le_refl _)]
      by_cases h1 : q ≤ v 1 0 - 1
      · rw [if_pos (by omega), if_pos h1]
      · rw [if_neg (by omega), if_neg h1]
theorem Sim_move {u v : St} (hI : Iv u) (h : Sim u v) : Sim (shf u) (mvA v) := by
  obtain ⟨⟨e1, e2, e3, e4, e5, e6⟩, ⟨m1, m2⟩, m3, m4, m5⟩ := h
  obtain ⟨a1, a2, a3, -⟩ := hI.1
  have k : ∀ f j, f ≠ 7 → shf u f j = u f j := fun f j hf => st_nf hf
  have k7 : shf u 7 0 = if u 7 0 + 1 < u 0 0 then u 7 0 + 1 else 0 := st_self
  have kv : ∀ f j, f ≠ 11 → f ≠ 12 → mvA v f j = v f j := fun f j h1 h2 => mvA_k h1 h2
  refine ⟨?_, ⟨fun q hq => ?_, fun q => ?_⟩, ?_, ?_, ?_⟩
  · unfold Sm1
    simp (disch := decide) only [k, kv]
    exact ⟨e1, e2, e3, e4, e5, e6⟩
  · rw [k 0 0 (by decide)] at hq
    have key : ∀ r, tA (shf u) q = tA u r → r < u 0 0 → mvA v 11 q = v 11 r → mvA v 12 q = v 12 r → mvA v 11 q = tA (shf u) q ∧ mvA v 12 q = shf u 8 (tA (shf u) q) := by
      intro r h1 h2 h3 h4
      obtain ⟨n1, n2⟩ := m1 r h2
      rw [h3, h4, h1, k 8 _ (by decide)]
      exact ⟨n1, n2⟩
    by_cases h0 : q = 0
    · refine key (u 0 0 - 1) ?_ (by omega) (by rw [mvA_at 11 (Or.inl rfl), if_pos h0, e1]) (by rw [mvA_at 12 (Or.inr rfl), if_pos h0, e1])
      unfold tA
      rw [k7, k 0 0 (by decide)]
      by_cases hs : u 7 0 + 1 < u 0 0
      · rw [if_pos hs, if_pos (by omega), if_neg (by omega)]; omega
      · rw [if_neg hs, if_neg (by omega), if_neg (by omega)]; omega
    · refine key (q - 1) ?_ (by omega) (by rw [mvA_at 11 (Or.inl rfl), if_neg h0, if_pos (by omega)]) (by rw [mvA_at 12 (Or.inr rfl), if_neg h0, if_pos (by omega)])
      unfold tA
      rw [k7, k 0 0 (by decide)]
      by_cases hs : u 7 0 + 1 < u 0 0
      · rw [if_pos hs]
        by_cases hl : q - 1 < u 7 0
        · rw [if_pos (by omega), if_pos hl]; omega
        · rw [if_neg (by omega), if_neg hl]; omega
      · rw [if_neg hs, if_neg (by omega), if_pos (by omega)]; omega
  · rw [k 2 0 (by decide), mvA_at 12 (Or.inr rfl)]
    split
    · exact m2 _
    · split <;> exact m2 _
  · unfold Sm3 at *; simp (disch := decide) only [k, kv]; exact m3
  · unfold Sm4 at *; simp (disch := decide) only [k, kv]; exact m4
  · unfold Sm5 at *; simp (disch := decide) only [k, kv]; exact m5
theorem tA_inj {u : St} {p q : Nat} (hp : p < u 0 0) (hq : q < u 0 0) (h7 : u 7 0 < u 0 0) (h : tA u p = tA u q) : p = q := by
  unfold tA at h
  by_cases h1 : p < u 7 0
  · rw [if_pos h1] at h
    by_cases h2 : q < u 7 0
    · rw [if_pos h2] at h; omega
    · rw [if_neg h2] at h; omega
  · rw [if_neg h1] at h
    by_cases h2 : q < u 7 0
    · rw [if_pos h2] at h; omega
    · rw [if_neg h2] at h; omega
theorem tA_B {u v : St} {p : Nat} (e : v 1 0 = u 0 0) (hp : p < u 0 0) (h7 : u 7 0 < u 0 0) : tA u (mB v p) = tB u (tA u p) := by
  unfold mB tB tA
  rw [e]
  by_cases h0 : p = 0
  · rw [if_pos h0]
    by_cases h1 : u 0 0 - 1 < u 7 0
    · omega
    · rw [if_neg h1]
      by_cases h2 : p < u 7 0
      · rw [if_pos h2, if_pos (by omega)]; omega
      · rw [if_neg h2, if_neg (by omega)]; omega
  · rw [if_neg h0]
    by_cases h1 : p - 1 < u 7 0
    · rw [if_pos h1]
      by_cases h2 : p < u 7 0
      · rw [if_pos h2, if_pos (by omega)]; omega
      · rw [if_neg h2, if_neg (by omega)]; omega
    · rw [if_neg h1, if_neg (show ¬ p < u 7 0 by omega), if_pos (by omega)]; omega
theorem setLd_12 {v : St} {i p x q : Nat} (hl : v 13 i ≤ 2) : setLd v i p x 12 q = if q = p ∨ (v 13 i = 2 ∧ q = mB v p) then x else v 12 q := by
  unfold setLd
  have e1 : st v 12 p x 13 i = v 13 i := st_nf (by decide)
  have e3 : mB (st v 12 p x) p = mB v p := by simp [mB, st]
  rw [e1, e3]
  have hq : nI (v 13 i) = nI 2 ↔ v 13 i = 2 := nI_eq (by omega) (by decide)
  by_cases h : v 13 i = 2
  · rw [if_pos (hq.mpr h)]
    by_cases ha : q = mB v p
    · rw [ha, st_self]; simp [h]
    · rw [st_ni ha]
      by_cases hb : q = p
      · rw [hb, st_self]; simp
      · rw [st_ni hb]; simp [ha, hb]
  · rw [if_neg (fun z => h (hq.mp z))]
    by_cases hb : q = p
    · rw [hb, st_self]; simp
    · rw [st_ni hb]; simp [h, hb]
theorem mo_12 {v : St} {i p c q : Nat} : mOut v i p c 12 q = setLd v i p 0 12 q := by simp [mOut, st]
theorem mo_15 {v : St} {i p c j : Nat} : mOut v i p c 15 j = if j = i then 3 else v 15 j := by simp [mOut, st, setLd_k]
theorem mo_20 {v : St} {i p c j : Nat} : mOut v i p c 20 j = if j = c then v 20 c + 1 else v 20 j := by simp [mOut, st, setLd_k]
theorem mo_22 {v : St} {i p c j : Nat} : mOut v i p c 22 j = if j = v 6 0 then i else v 22 j := by simp [mOut, st, setLd_k]
theorem mo_23 {v : St} {i p c j : Nat} : mOut v i p c 23 j = if j = v 6 0 then c else v 23 j := by simp [mOut, st, setLd_k]
theorem mo_24 {v : St} {i p c j : Nat} : mOut v i p c 24 j = if j = v 6 0 then v 4 0 else v 24 j := by simp [mOut, st, setLd_k]
theorem mo_6 {v : St} {i p c : Nat} : mOut v i p c 6 0 = v 6 0 + 1 := by simp [mOut, st, setLd_k]
theorem mo_k {v : St} {i p c f j : Nat} (h : f ≠ 12 ∧ f ≠ 15 ∧ f ≠ 20 ∧ f ≠ 22 ∧ f ≠ 23 ∧ f ≠ 24 ∧ f ≠ 6) : mOut v i p c f j = v f j := by simp [mOut, st, setLd_k, h]
theorem Sim_out {u v : St} (hI : Iv u) (h : Sim u v) {i p c : Nat} (hp : p < u 0 0) (h1 : 1 ≤ i) (h2 : i ≤ u 2 0) (h3 : u 23 i = 1) (h4 : u 24 i = tA u p) : Sim (letOut u i c) (mOut v i p c) := by
  obtain ⟨⟨e1, e2, e3, e4, e5, e6⟩, ⟨m1, m2⟩, ⟨m3, m3'⟩, ⟨m4, m4'⟩, m5⟩ := h
  obtain ⟨a1, a2, a3, -⟩ := hI.1
  have hl := (hI.2.1 i h1 h2).2.2.2.1
  have i7 := hI.2.2.2.1.2.2
  have ku : ∀ f j, (f = 0 ∨ f = 1 ∨ f = 2 ∨ f = 5 ∨ f = 6 ∨ f = 7 ∨ f = 13 ∨ f = 19 ∨ f = 21 ∨ f = 22 ∨ f = 24 ∨ f = 25 ∨ f = 31) → letOut u i c f j = u f j := fun f j hf => lo_k (by omega)
  have kv : ∀ f j, (f = 1 ∨ f = 2 ∨ f = 3 ∨ f = 4 ∨ f = 5 ∨ f = 11 ∨ f = 13 ∨ f = 14 ∨ f = 16 ∨ f = 17 ∨ f = 18 ∨ f = 19 ∨ f = 21) → mOut v i p c f j = v f j := fun f j hf => mo_k (by omega)
  have et : ∀ q, tA (letOut u i c) q = tA u q := fun q => by simp [tA, ku]
  have e13 : v 13 i = u 21 i := (m3 i h1 h2).1
  refine ⟨?_, ⟨fun q hq => ?_, fun q => ?_⟩, ⟨fun j ja jb => ?_, fun j ja => ?_⟩, ⟨fun k hk => ?_, fun k hk => ?_⟩, fun j hj => ?_⟩
  · unfold Sm1
    rw [kv 1 0 (by omega), kv 2 0 (by omega), kv 5 0 (by omega), kv 3 0 (by omega), kv 4 0 (by omega), mo_6, lo_3, ku 0 0 (by omega), ku 1 0 (by omega), ku 2 0 (by omega), ku 5 0 (by omega), ku 6 0 (by omega)]
    exact ⟨e1, e2, e3, by omega, e5, e6⟩
  · rw [ku 0 0 (by omega)] at hq
    rw [kv 11 q (by omega), et, mo_12, setLd_12 (by omega), lo_8, setTr_8 hl, h4]
    obtain ⟨n1, n2⟩ := m1 q hq
    refine ⟨n1, ?_⟩
    have c1 : q = p ↔ tA u q = tA u p := ⟨fun z => by rw [z], fun z => tA_inj hq hp a3 z⟩
    have c2 : q = mB v p ↔ tA u q = tB u (tA u p) := by
      rw [← tA_B e1 hp a3]
      exact ⟨fun z => by rw [z], fun z => tA_inj hq (by have := mB_lt (v := v) (p := p) (by omega) (by omega); omega) a3 z⟩
    rw [e13]
    by_cases hc : q = p ∨ (u 21 i = 2 ∧ q = mB v p)
    · rw [if_pos hc, if_pos (by rw [← c1, ← c2]; exact hc)]
    · rw [if_neg hc, if_neg (by rw [← c1, ← c2]; exact hc)]; exact n2
  · rw [mo_12, setLd_12 (by omega), ku 2 0 (by omega)]
    split
    · exact Nat.zero_le _
    · exact m2 q
  · rw [ku 2 0 (by omega)] at jb
    rw [kv 13 j (by omega), kv 14 j (by omega), mo_15, kv 16 j (by omega), kv 17 j (by omega), kv 18 j (by omega), ku 21 j (by omega), ku 22 j (by omega), lo_23, ku 24 j (by omega), ku 25 j (by omega), ku 31 j (by omega)]
    obtain ⟨b1, b2, b3, b4⟩ := m3 j ja jb
    exact ⟨b1, b2, by rw [b3], b4⟩
  · rw [ku 2 0 (by omega)] at ja
    rw [mo_15, kv 16 j (by omega), kv 17 j (by omega), if_neg (by omega)]
    exact m3' j ja
  · rw [kv 19 k (by omega), ku 13 _ (by omega)]; exact m4 k hk
  · rw [mo_20, kv 21 k (by omega), lo_18, ku 19 k (by omega)]
    obtain ⟨b1, b2⟩ := m4' k hk
    refine ⟨?_, b2⟩
    by_cases hkc : k = c
    · rw [if_pos hkc, if_pos hkc, ← hkc, b1]
    · rw [if_neg hkc, if_neg hkc, b1]
  · rw [lo_3] at hj
    rw [mo_22, mo_23, mo_24, lo_10, lo_26, lo_27, e4]
    by_cases hg : j = u 3 0
    · rw [if_pos hg, if_pos hg, if_pos hg, if_pos hg, if_pos rfl, if_pos rfl]; exact ⟨rfl, rfl, e6⟩
    · rw [if_neg hg, if_neg hg, if_neg hg, if_neg hg]
      have := i7 j (by omega)
      rw [if_neg (fun z => by rw [z] at this; omega), if_neg (fun z => by rw [z] at this; omega)]
      exact m5 j (by omega)
theorem Sim_rnd {u v : St} (h : Sim u v) {i : Nat} (h1 : 1 ≤ i) (h2 : i ≤ u 2 0) : Sim (st u 25 i (u 25 i + 1)) (st v 17 i (v 17 i + 1)) := by
  obtain ⟨m0, m1, ⟨m3, m3'⟩, m4, m5⟩ := h
  have ku : ∀ f j, f ≠ 25 → st u 25 i (u 25 i + 1) f j = u f j := fun f j hf => st_nf hf
  have kv : ∀ f j, f ≠ 17 → st v 17 i (v 17 i + 1) f j = v f j := fun f j hf => st_nf hf
  have et : ∀ q, tA (st u 25 i (u 25 i + 1)) q = tA u q := fun q => by simp [tA, ku]
  refine ⟨?_, ?_, ⟨fun j ja jb => ?_, fun j ja => ?_⟩, ?_, ?_⟩
  · unfold Sm1 at *; simp (disch := decide) only [ku, kv]; exact m0
  · unfold Sm2 at *; simp (disch := decide) only [ku, kv, et]; exact m1
  · rw [ku 2 0 (by decide)] at jb
    simp (disch := decide) only [ku, kv]
    obtain ⟨b1, b2, b3, b4, b5, b6⟩ := m3 j ja jb
    refine ⟨b1, b2, b3, b4, ?_, b6⟩
    by_cases hj : j = i
    · subst hj; rw [st_self, st_self, b5]
    · rw [st_ni hj, st_ni hj]; exact b5
  · rw [ku 2 0 (by decide)] at ja
    simp (disch := decide) only [kv]
    rw [st_ni (by omega)]
    exact m3' j ja
  · unfold Sm4 at *; simp (disch := decide) only [ku, kv]; exact m4
  · unfold Sm5 at *; simp (disch := decide) only [ku, kv]; exact m5
theorem Sim_pass {u v : St} (hI : Iv u) (h : Sim u v) {c : Nat} (hc : c < 16) : Sim (passOne u c) (mPass v c) := by
  have h' := h
  obtain ⟨⟨e1, e2, e3, e4, e5, e6⟩, ⟨m1, m2⟩, ⟨m3, m3'⟩, ⟨m4, m4'⟩, m5⟩ := h'
  obtain ⟨a1, a2, a3, -⟩ := hI.1
  have hp : pos6 u c < u 0 0 := pos6_lt hc a1 a2
  have ep : mPos v c = pos6 u c := by show (c * v 1 0 + v 1 0 / 2) / 16 = _; rw [e1]
  obtain ⟨n1, n2⟩ := m1 _ hp
  have hb := (hI.2.2.1 (tA u (pos6 u c))).1
  unfold passOne mPass
  simp only [mHere, mWants, ep, n1, n2]
  generalize hi : u 8 (tA u (pos6 u c)) = i at *
  by_cases h0 : i = 0
  · rw [if_neg (fun z => z.1 h0), if_neg (fun z => z.1 h0)]; exact h
  · obtain ⟨b1, b2, b3, b4, b5, b6⟩ := m3 i (by omega) hb
    obtain ⟨c1, c2, c3, c4, c5, -⟩ := hI.2.1 i (by omega) hb
    have ht := tA_lt hp a3
    have q1 : nI (v 16 i) = nI (tA u (pos6 u c)) ↔ u 24 i = tA u (pos6 u c) := by rw [b4]; exact nI_eq (by omega) (by omega)
    have q2 : nI (v 15 i) = nI 1 ↔ u 23 i = 1 := by rw [b3]; exact nI_eq (by omega) (by decide)
    by_cases hh : u 24 i = tA u (pos6 u c) ∧ u 23 i = 1
    · rw [if_pos ⟨h0, hh⟩, if_pos ⟨h0, q1.mpr hh.1, q2.mpr hh.2⟩]
      have eR : roomy u c ↔ mRoom v c := by unfold roomy mRoom; rw [(m4' c hc).1, (m4' c hc).2]
      have eC : nI (v 14 i) = nI c ↔ nI (u 22 i) = nI c := by rw [b2]
      have eW : (nI (v 14 i) = nI c ∨ (c = 15 ∧ ¬ nI (v 17 i) < nI (v 2 0))) ↔ ¬ stays u i c := by
        rw [b2, b5, e2]; unfold stays
        by_cases x1 : nI (u 22 i) = nI c
        · simp [x1]
        · simp [x1]
      unfold passC
      by_cases hs : stays u i c
      · rw [if_pos hs, if_neg (fun z => eW.mp z.1 hs), if_neg (fun z => hs.1 (eC.mp z))]; exact h
      · rw [if_neg hs]
        by_cases hr : roomy u c
        · rw [if_pos hr, if_pos ⟨eW.mpr hs, eR.mp hr⟩]
          exact Sim_out hI h hp (by omega) hb hh.2 hh.1
        · have hw : ¬ ((nI (v 14 i) = nI c ∨ (c = 15 ∧ ¬ nI (v 17 i) < nI (v 2 0))) ∧ mRoom v c) := fun z => hr (eR.mpr z.2)
          rw [if_neg hr, if_neg hw]
          by_cases hx : nI (u 22 i) = nI c
          · rw [if_pos hx, if_pos (eC.mpr hx)]; exact Sim_rnd h (by omega) hb
          · rw [if_neg hx, if_neg (fun z => hx (eC.mp z))]; exact h
    · rw [if_neg (fun z => hh z.2), if_neg (fun z => hh ⟨q1.mp z.2.1, q2.mp z.2.2⟩)]; exact h
