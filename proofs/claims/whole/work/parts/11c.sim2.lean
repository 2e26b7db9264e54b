theorem waits_iff {u v : St} (hI : Iv u) (h : Sim u v) {k i : Nat} (hk : k < 4) (h1 : 1 ≤ i) (h2 : i ≤ u 2 0) : waitsAt v k i ↔ (u 23 i = 0 ∧ u 31 i = k + 1) := by
  obtain ⟨-, -, ⟨m3, -⟩, -⟩ := h
  obtain ⟨b1, b2, b3, b4, b5, b6⟩ := m3 i h1 h2
  obtain ⟨c1, c2, c3, c4, c5, c6, c7⟩ := hI.2.1 i h1 h2
  unfold waitsAt
  rw [b3, n0_eq (by omega), nI_eq (by omega) (by omega)]
  omega
theorem mF_spec {v : St} {k : Nat} : ∀ j, j ≤ v 5 0 → (mF v k j = 0 ∧ ∀ i, v 5 0 - j < i → i ≤ v 5 0 → ¬ waitsAt v k i) ∨ (v 5 0 - j < mF v k j ∧ mF v k j ≤ v 5 0 ∧ waitsAt v k (mF v k j) ∧ ∀ i, v 5 0 - j < i → i < mF v k j → ¬ waitsAt v k i) := by
  intro j
  induction j with
  | zero => intro _; left; exact ⟨rfl, fun i h1 h2 => by omega⟩
  | succ j ih =>
    intro hj
    by_cases hw : waitsAt v k (v 5 0 - j)
    · right
      have e : mF v k (j + 1) = v 5 0 - j := by rw [mF, if_pos hw]
      rw [e]
      exact ⟨by omega, by omega, hw, fun i h1 h2 => by omega⟩
    · have e : mF v k (j + 1) = mF v k j := by rw [mF, if_neg hw]
      rw [e]
      rcases ih (by omega) with ⟨a, b⟩ | ⟨a, b, c, d⟩
      · left
        refine ⟨a, fun i h1 h2 => ?_⟩
        by_cases hi : i = v 5 0 - j
        · rw [hi]; exact hw
        · exact b i (by omega) h2
      · right
        refine ⟨by omega, b, c, fun i h1 h2 => ?_⟩
        by_cases hi : i = v 5 0 - j
        · rw [hi]; exact hw
        · exact d i (by omega) h2
/-- the model's first waiting item is the row's first -/
theorem mFst_eq {u v : St} (hI : Iv u) (h : Sim u v) {k : Nat} (hk : k < 4) : mFst v k = if u 12 (k + 1) = 0 then 0 else u (40 + (k + 1)) 0 := by
  have hw := fun i h1 h2 => waits_iff hI h (k := k) (i := i) hk h1 h2
  obtain ⟨⟨e1, e2, e3, e4, e5, e6⟩, -⟩ := h
  obtain ⟨r1, r2, r3, r4, r5⟩ := hI.2.2.2.2.1 (k + 1) (by omega) (by omega)
  have hlt := row_lt r4
  unfold mFst
  have hs := mF_spec (v := v) (k := k) (v 5 0) (Nat.le_refl _)
  rw [Nat.sub_self] at hs
  by_cases h0 : u 12 (k + 1) = 0
  · rw [if_pos h0]
    rcases hs with ⟨a, -⟩ | ⟨a, b, c, -⟩
    · exact a
    · have b : mF v k (v 5 0) ≤ u 2 0 := by omega
      have c' := (hw _ (by omega) b).mp c
      obtain ⟨j, j1, -⟩ := r5 _ (by omega) b c'.1 c'.2
      omega
  · rw [if_neg h0]
    obtain ⟨s1, s2, s3⟩ := r3 0 (by omega)
    have sb := r2 0
    have w0 : waitsAt v k (u (40 + (k + 1)) 0) := (hw _ (by omega) sb).mpr ⟨s2, s3⟩
    rcases hs with ⟨a, b⟩ | ⟨a, b, c, d⟩
    · exact absurd w0 (b _ (by omega) (by omega))
    · have b' : mF v k (v 5 0) ≤ u 2 0 := by omega
      have c' := (hw _ (by omega) b').mp c
      obtain ⟨j, j1, j2⟩ := r5 _ (by omega) b' c'.1 c'.2
      by_cases hj : j = 0
      · rw [← j2, hj]
      · have := hlt j 0 (by omega) j1
        exact absurd w0 (d _ (by omega) (by omega))
/-- as many wait for the model as stand in the row -/
theorem mW_eq {u v : St} (hI : Iv u) (h : Sim u v) {k : Nat} (hk : k < 4) : mW v k (v 5 0) = u 12 (k + 1) := by
  have hw := fun i h1 h2 => waits_iff hI h (k := k) (i := i) hk h1 h2
  obtain ⟨⟨e1, e2, e3, e4, e5, e6⟩, -⟩ := h
  obtain ⟨r1, r2, r3, r4, r5⟩ := hI.2.2.2.2.1 (k + 1) (by omega) (by omega)
  have hlt := row_lt r4
  have key : ∀ m, m ≤ u 2 0 → mW v k m ≤ u 12 (k + 1) ∧ (∀ j, j < mW v k m → u (40 + (k + 1)) j ≤ m) ∧ (∀ j, mW v k m ≤ j → j < u 12 (k + 1) → m < u (40 + (k + 1)) j) := by
    intro m
    induction m with
    | zero =>
      intro _
      refine ⟨Nat.zero_le _, fun j hj => absurd hj (Nat.not_lt_zero _), fun j _ hj => ?_⟩
      have := (r3 j hj).1
      omega
    | succ m ih =>
      intro hm
      obtain ⟨a, b, c⟩ := ih (by omega)
      by_cases hq : waitsAt v k (m + 1)
      · have e : mW v k (m + 1) = mW v k m + 1 := by rw [mW, if_pos hq]
        have q := (hw _ (by omega) hm).mp hq
        obtain ⟨j, j1, j2⟩ := r5 _ (by omega) hm q.1 q.2
        have hj : j = mW v k m := by
          rcases Nat.lt_trichotomy j (mW v k m) with hl | hl | hl
          · have := b j hl; omega
          · exact hl
          · have h1 := hlt j _ hl j1
            have h2 := c (mW v k m) (Nat.le_refl _) (by omega)
            omega
        rw [e]
        refine ⟨by omega, fun i hi => ?_, fun i h1 h2 => ?_⟩
        · by_cases hij : i = j
          · rw [hij]; omega
          · have := b i (by omega); omega
        · have := hlt i j (by omega) h2; omega
      · have e : mW v k (m + 1) = mW v k m := by rw [mW, if_neg hq]
        rw [e]
        refine ⟨a, fun i hi => by have := b i hi; omega, fun i h1 h2 => ?_⟩
        have h3 := c i h1 h2
        have h4 : u (40 + (k + 1)) i ≠ m + 1 := fun z => by
          obtain ⟨s1, s2, s3⟩ := r3 i h2
          rw [z] at s2 s3
          exact hq ((hw _ (by omega) hm).mpr ⟨s2, s3⟩)
        omega
  rw [e3]
  obtain ⟨a, b, c⟩ := key (u 2 0) (Nat.le_refl _)
  by_cases hq : mW v k (u 2 0) < u 12 (k + 1)
  · have h1 := c _ (Nat.le_refl _) hq
    have h2 := r2 (mW v k (u 2 0))
    omega
  · omega
theorem Sim_pG {u v : St} (hI : Iv u) (h : Sim u v) {k : Nat} (hk : k < 4) (hw : u 12 (k + 1) ≠ 0) : Sim (pG u (k + 1)) (
    let w2 := setLd v (u (40 + (k + 1)) 0) (pos3 u (k + 1)) (u (40 + (k + 1)) 0)
    let w3 := st w2 16 (u (40 + (k + 1)) 0) (w2 11 (pos3 u (k + 1)))
    let w4 := st w3 15 (u (40 + (k + 1)) 0) 1
    st w4 19 k (w4 19 k + 1)) := by
  obtain ⟨⟨e1, e2, e3, e4, e5, e6⟩, ⟨m1, m2⟩, ⟨m3, m3'⟩, ⟨m4, m4'⟩, m5⟩ := h
  obtain ⟨a1, a2, a3, -⟩ := hI.1
  obtain ⟨r1, r2, r3, r4, r5⟩ := hI.2.2.2.2.1 (k + 1) (by omega) (by omega)
  obtain ⟨s1, s2, s3⟩ := r3 0 (by omega)
  have sb := r2 0
  have hp : pos3 u (k + 1) < u 0 0 := pos3_lt (by omega) a1 a2
  obtain ⟨n1, n2⟩ := m1 _ hp
  have hl := (hI.2.1 _ (by omega) sb).2.2.2.1
  have k8 := fun t => pG_8 (u := u) (n := k + 1) (t := t) hl
  have k23 := fun j => pG_23 (u := u) (n := k + 1) (j := j)
  have k24 := fun j => pG_24 (u := u) (n := k + 1) (j := j)
  have i7 := hI.2.2.2.1.2.2
  generalize hi : u (40 + (k + 1)) 0 = i at *
  generalize hpp : pos3 u (k + 1) = p at *
  simp only []
  generalize hy : st (st (st (setLd v i p i) 16 i (setLd v i p i 11 p)) 15 i 1) 19 k (st (st (setLd v i p i) 16 i (setLd v i p i 11 p)) 15 i 1 19 k + 1) = y
  have e13 : v 13 i = u 21 i := (m3 i (by omega) sb).1
  have y12 : ∀ q, y 12 q = if q = p ∨ (v 13 i = 2 ∧ q = mB v p) then i else v 12 q := fun q => by rw [← hy, st_nf (by decide), st_nf (by decide), st_nf (by decide), setLd_12 (by omega)]
  have y16 : ∀ j, y 16 j = if j = i then tA u p else v 16 j := fun j => by
    rw [← hy, st_nf (by decide), st_nf (by decide)]
    by_cases hj : j = i
    · rw [hj, st_self, if_pos rfl, setLd_k (by decide), n1]
    · rw [st_ni hj, if_neg hj, setLd_k (by decide)]
  have y15 : ∀ j, y 15 j = if j = i then 1 else v 15 j := fun j => by
    rw [← hy, st_nf (by decide)]
    by_cases hj : j = i
    · rw [hj, st_self, if_pos rfl]
    · rw [st_ni hj, if_neg hj, st_nf (by decide), setLd_k (by decide)]
  have y19 : ∀ j, y 19 j = if j = k then v 19 k + 1 else v 19 j := fun j => by
    rw [← hy]
    by_cases hj : j = k
    · rw [hj, st_self, if_pos rfl, st_nf (by decide), st_nf (by decide), setLd_k (by decide)]
    · rw [st_ni hj, if_neg hj, st_nf (by decide), st_nf (by decide), setLd_k (by decide)]
  have yk : ∀ f j, f ≠ 12 → f ≠ 15 → f ≠ 16 → f ≠ 19 → y f j = v f j := fun f j h1 h2 h3 h4 => by rw [← hy, st_nf h4, st_nf h2, st_nf h3, setLd_k h1]
  have ku : ∀ f j, (f = 0 ∨ f = 1 ∨ f = 2 ∨ f = 3 ∨ f = 5 ∨ f = 6 ∨ f = 7 ∨ f = 10 ∨ f = 18 ∨ f = 19 ∨ f = 21 ∨ f = 22 ∨ f = 25 ∨ f = 26 ∨ f = 27 ∨ f = 31) → pG u (k + 1) f j = u f j := fun f j hf => pG_k (by omega)
  have kv : ∀ f j, (f = 1 ∨ f = 2 ∨ f = 3 ∨ f = 4 ∨ f = 5 ∨ f = 6 ∨ f = 11 ∨ f = 13 ∨ f = 14 ∨ f = 17 ∨ f = 18 ∨ f = 20 ∨ f = 21 ∨ f = 22 ∨ f = 23 ∨ f = 24) → y f j = v f j := fun f j hf => yk f j (by omega) (by omega) (by omega) (by omega)
  have et : ∀ q, tA (pG u (k + 1)) q = tA u q := fun q => by simp [tA, ku]
  refine ⟨?_, ⟨fun q hq => ?_, fun q => ?_⟩, ⟨fun j ja jb => ?_, fun j ja => ?_⟩, ⟨fun j hj => ?_, fun c hc => ?_⟩, fun j hj => ?_⟩
  · unfold Sm1
    rw [kv 1 0 (by omega), kv 2 0 (by omega), kv 5 0 (by omega), kv 6 0 (by omega), kv 3 0 (by omega), kv 4 0 (by omega), ku 0 0 (by omega), ku 1 0 (by omega), ku 2 0 (by omega), ku 3 0 (by omega), ku 5 0 (by omega), ku 6 0 (by omega)]
    exact ⟨e1, e2, e3, e4, e5, e6⟩
  · rw [ku 0 0 (by omega)] at hq
    rw [kv 11 q (by omega), et, y12, k8]
    obtain ⟨o1, o2⟩ := m1 q hq
    refine ⟨o1, ?_⟩
    have c1 : q = p ↔ tA u q = tA u p := ⟨fun z => by rw [z], fun z => tA_inj hq hp a3 z⟩
    have c2 : q = mB v p ↔ tA u q = tB u (tA u p) := by
      rw [← tA_B e1 hp a3]
      exact ⟨fun z => by rw [z], fun z => tA_inj hq (by have := mB_lt (v := v) (p := p) (by omega) (by omega); omega) a3 z⟩
    rw [e13]
    by_cases hc : q = p ∨ (u 21 i = 2 ∧ q = mB v p)
    · rw [if_pos hc, if_pos (by rw [← c1, ← c2]; exact hc)]
    · rw [if_neg hc, if_neg (by rw [← c1, ← c2]; exact hc)]; exact o2
  · rw [y12, ku 2 0 (by omega)]
    split
    · exact sb
    · exact m2 q
  · rw [ku 2 0 (by omega)] at jb
    rw [kv 13 j (by omega), kv 14 j (by omega), y15, y16, kv 17 j (by omega), kv 18 j (by omega), ku 21 j (by omega), ku 22 j (by omega), k23, k24, ku 25 j (by omega), ku 31 j (by omega)]
    obtain ⟨b1, b2, b3, b4, b5, b6⟩ := m3 j ja jb
    exact ⟨b1, b2, by rw [b3], by rw [b4], b5, b6⟩
  · rw [ku 2 0 (by omega)] at ja
    rw [y15, y16, kv 17 j (by omega), if_neg (by omega), if_neg (by omega)]
    exact m3' j ja
  · rw [y19, pG_13]
    by_cases hjk : j = k
    · rw [if_pos hjk, if_pos (by omega), m4 k hk]
    · rw [if_neg hjk, if_neg (by omega)]; exact m4 j hj
  · rw [kv 20 c (by omega), kv 21 c (by omega), ku 18 c (by omega), ku 19 c (by omega)]; exact m4' c hc
  · rw [ku 3 0 (by omega)] at hj
    rw [kv 22 j (by omega), kv 23 j (by omega), kv 24 j (by omega), ku 10 j (by omega), ku 26 _ (by omega), ku 27 _ (by omega)]; exact m5 j hj
theorem Sim_put {u v : St} (hI : Iv u) (h : Sim u v) {k : Nat} (hk : k < 4) : Sim (putF u (k + 1)) (mPut v k) := by
  have hf := mFst_eq hI h hk
  have h' := h
  obtain ⟨⟨e1, e2, e3, e4, e5, e6⟩, ⟨m1, m2⟩, ⟨m3, m3'⟩, -⟩ := h'
  obtain ⟨a1, a2, a3, -⟩ := hI.1
  have hp : pos3 u (k + 1) < u 0 0 := pos3_lt (by omega) a1 a2
  have ep : mPosI v k = pos3 u (k + 1) := by show k * v 1 0 / 4 = (k + 1 - 1) * u 0 0 / 4; rw [e1, Nat.add_sub_cancel]
  obtain ⟨n1, n2⟩ := m1 _ hp
  by_cases h0 : u 12 (k + 1) = 0
  · rw [if_pos h0] at hf
    rw [putF, if_pos h0, mPut, if_neg (fun z => z.1 hf)]
    exact h
  · rw [if_neg h0] at hf
    obtain ⟨r1, r2, r3, r4, r5⟩ := hI.2.2.2.2.1 (k + 1) (by omega) (by omega)
    obtain ⟨s1, s2, s3⟩ := r3 0 (by omega)
    have sb := r2 0
    obtain ⟨c1, c2, c3, c4, c5, -⟩ := hI.2.1 _ (by omega) sb
    have e13 : v 13 (u (40 + (k + 1)) 0) = u 21 (u (40 + (k + 1)) 0) := (m3 _ (by omega) sb).1
    have hB : mB v (pos3 u (k + 1)) < u 0 0 := by have := mB_lt (v := v) (p := pos3 u (k + 1)) (by omega) (by omega); omega
    have n3 : v 12 (mB v (pos3 u (k + 1))) = u 8 (tB u (tA u (pos3 u (k + 1)))) := by rw [(m1 _ hB).2, tA_B e1 hp a3]
    have hcan : mCan v k ↔ freeFor u (u (40 + (k + 1)) 0) (tA u (pos3 u (k + 1))) := by
      unfold mCan freeFor
      rw [hf, ep, n2, n3, e13, e1, nI_eq (by omega) (by decide), nI_ltI (by omega) (by decide), nI_leI (by omega) (by decide)]
      constructor
      · intro z
        refine ⟨z.2.1, ?_⟩
        by_cases q : u 21 (u (40 + (k + 1)) 0) = 2
        · right
          refine ⟨fun y => z.2.2 ⟨q, Or.inl (by omega)⟩, ?_⟩
          by_cases q2 : u 8 (tB u (tA u (pos3 u (k + 1)))) = 0
          · exact q2
          · exact absurd ⟨q, Or.inr q2⟩ z.2.2
        · left; omega
      · intro z
        refine ⟨s1, z.1, fun y => ?_⟩
        rcases z.2 with q | ⟨q, q2⟩
        · omega
        · rcases y.2 with x | x
          · omega
          · exact x q2
    by_cases hc : freeFor u (u (40 + (k + 1)) 0) (tA u (pos3 u (k + 1)))
    · rw [putF_c h0 hc, mPut, if_pos (hcan.mpr hc), hf, ep]
      exact Sim_pG hI h hk h0
    · rw [putF, if_neg h0, if_neg hc, mPut, if_neg (fun z => hc (hcan.mp z))]
      exact h
