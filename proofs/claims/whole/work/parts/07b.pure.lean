theorem Iv_of {u u' : St} (h : Iv u) (e : ∀ f j, f ≠ 1 → f ≠ 6 → f ≠ 13 → f ≠ 14 → f ≠ 18 → f ≠ 19 → f ≠ 25 → f ≠ 26 → f ≠ 27 → u' f j = u f j) : Iv u' := by
  have e' : ∀ f j, (f = 0 ∨ f = 2 ∨ f = 3 ∨ f = 4 ∨ f = 5 ∨ f = 7 ∨ f = 8 ∨ f = 9 ∨ f = 10 ∨ f = 12 ∨ f = 21 ∨ f = 22 ∨ f = 23 ∨ f = 24 ∨ 30 ≤ f) → u' f j = u f j := fun f j hf => e f j (by omega) (by omega) (by omega) (by omega) (by omega) (by omega) (by omega) (by omega) (by omega)
  have e0 : ∀ j, u' 0 j = u 0 j := fun j => e' 0 j (by omega)
  have e2 : ∀ j, u' 2 j = u 2 j := fun j => e' 2 j (by omega)
  have e3 : ∀ j, u' 3 j = u 3 j := fun j => e' 3 j (by omega)
  have e4 : ∀ j, u' 4 j = u 4 j := fun j => e' 4 j (by omega)
  have e5 : ∀ j, u' 5 j = u 5 j := fun j => e' 5 j (by omega)
  have e7 : ∀ j, u' 7 j = u 7 j := fun j => e' 7 j (by omega)
  have e8 : ∀ j, u' 8 j = u 8 j := fun j => e' 8 j (by omega)
  have e9 : ∀ j, u' 9 j = u 9 j := fun j => e' 9 j (by omega)
  have e10 : ∀ j, u' 10 j = u 10 j := fun j => e' 10 j (by omega)
  have e12 : ∀ j, u' 12 j = u 12 j := fun j => e' 12 j (by omega)
  have e21 : ∀ j, u' 21 j = u 21 j := fun j => e' 21 j (by omega)
  have e22 : ∀ j, u' 22 j = u 22 j := fun j => e' 22 j (by omega)
  have e23 : ∀ j, u' 23 j = u 23 j := fun j => e' 23 j (by omega)
  have e24 : ∀ j, u' 24 j = u 24 j := fun j => e' 24 j (by omega)
  have e30 : ∀ j, u' 30 j = u 30 j := fun j => e' 30 j (by omega)
  have e31 : ∀ j, u' 31 j = u 31 j := fun j => e' 31 j (by omega)
  have e40 : ∀ n j, u' (40 + n) j = u (40 + n) j := fun n j => e' (40 + n) j (by omega)
  have eo : onL u' = onL u := by funext i; simp [onL, e23]
  have ei : isOut u' = isOut u := by funext i; simp [isOut, e23]
  have eb : ∀ t, tB u' t = tB u t := fun t => by simp [tB, e0]
  obtain ⟨h1, h2, h3, h4, h5, h6⟩ := h
  refine ⟨?_, ?_, ?_, ?_, ?_, ?_⟩
  · unfold Iv1 at *; simp only [e0, e7, e2, e30, e5]; exact h1
  · unfold Iv2 at *; simp only [e0, e2, e21, e22, e23, e24, e31]; exact h2
  · unfold Iv3 at *; simp only [e8, e2, e23, e24, e21, eb]; exact h3
  · unfold Iv4 at *; simp only [e4, e3, e2, eo, ei, e23, e10]; exact h4
  · unfold Iv5 at *; simp only [e12, e40, e2, e23, e31]; exact h5
  · unfold Iv6 at *; simp only [e9, e2, e10, e3]; exact h6
theorem Iv_had {u : St} (h : Iv u) {n x : Nat} : Iv (st u 14 n x) := Iv_of h (fun f j _ _ _ h14 _ _ _ _ _ => st_nf h14)
theorem Iv_time {u : St} (h : Iv u) {x : Nat} : Iv (st u 6 0 x) := Iv_of h (fun f j _ h6 _ _ _ _ _ _ _ => st_nf h6)
theorem Iv_rnd {u : St} (h : Iv u) {i x : Nat} : Iv (st u 25 i x) := Iv_of h (fun f j _ _ _ _ _ _ h25 _ _ => st_nf h25)
theorem Iv_shift {u : St} (h : Iv u) : Iv (shf u) := by
  have e : ∀ f j, f ≠ 7 → shf u f j = u f j := fun f j hf => st_nf hf
  have e7 : shf u 7 0 = if u 7 0 + 1 < u 0 0 then u 7 0 + 1 else 0 := st_self
  have eo : onL (shf u) = onL u := by funext i; simp [onL, e]
  have ei : isOut (shf u) = isOut u := by funext i; simp [isOut, e]
  have eb : ∀ t, tB (shf u) t = tB u t := fun t => by simp [tB, e]
  obtain ⟨h1, h2, h3, h4, h5, h6⟩ := h
  refine ⟨?_, ?_, ?_, ?_, ?_, ?_⟩
  · unfold Iv1 at *
    rw [e7, e 0 0 (by decide), e 2 0 (by decide), e 30 0 (by decide), e 5 0 (by decide)]
    obtain ⟨a, b, c, d⟩ := h1
    refine ⟨a, b, ?_, d⟩
    split <;> omega
  · unfold Iv2 at *; simp (disch := decide) only [e]; exact h2
  · unfold Iv3 at *; simp (disch := decide) only [e, eb]; exact h3
  · unfold Iv4 at *; simp (disch := decide) only [e, eo, ei]; exact h4
  · unfold Iv5 at *; simp (disch := omega) only [e]; exact h5
  · unfold Iv6 at *; simp (disch := decide) only [e]; exact h6
theorem cnt_upd {f g : Nat → Nat} {i : Nat} (h : ∀ j, j ≠ i → g j = f j) : ∀ n, 1 ≤ i → i ≤ n → cnt g n + f i = cnt f n + g i := by
  have low : ∀ n, n < i → cnt g n = cnt f n := by
    intro n
    induction n with
    | zero => intro _; rfl
    | succ n ih => intro hn; show cnt g n + g (n + 1) = cnt f n + f (n + 1); rw [ih (by omega), h _ (by omega)]
  intro n
  induction n with
  | zero => intro h1 h2; omega
  | succ n ih =>
    intro h1 h2
    show cnt g n + g (n + 1) + f i = cnt f n + f (n + 1) + g i
    by_cases hq : i = n + 1
    · subst hq; rw [low n (by omega)]; omega
    · have := ih h1 (by omega); rw [h (n + 1) (fun z => hq z.symm)]; omega
theorem cnt_same {f g : Nat → Nat} (h : ∀ j, g j = f j) (n : Nat) : cnt g n = cnt f n := by rw [show g = f from funext h]
/-- the trays behind setTr -/
theorem setTr_8 {u : St} {i x t : Nat} (hl : u 21 i ≤ 2) : setTr u i x 8 t = if t = u 24 i ∨ (u 21 i = 2 ∧ t = tB u (u 24 i)) then x else u 8 t := by
  unfold setTr
  have e1 : st u 8 (u 24 i) x 21 i = u 21 i := st_nf (by decide)
  have e2 : st u 8 (u 24 i) x 24 i = u 24 i := st_nf (by decide)
  have e3 : ∀ t, tB (st u 8 (u 24 i) x) t = tB u t := fun t => by simp [tB, st]
  rw [e1, e2, e3]
  have hq : nI (u 21 i) = nI 2 ↔ u 21 i = 2 := nI_eq (by omega) (by decide)
  by_cases h : u 21 i = 2
  · rw [if_pos (hq.mpr h)]
    by_cases ha : t = tB u (u 24 i)
    · rw [ha, st_self]; simp [h]
    · rw [st_ni ha]
      by_cases hb : t = u 24 i
      · rw [hb, st_self]; simp
      · rw [st_ni hb]; simp [ha, hb]
  · rw [if_neg (fun z => h (hq.mp z))]
    by_cases hb : t = u 24 i
    · rw [hb, st_self]; simp
    · rw [st_ni hb]; simp [h, hb]
theorem lo_8 {u : St} {i c t : Nat} : letOut u i c 8 t = setTr u i 0 8 t := by simp [letOut, st]
theorem lo_4 {u : St} {i c : Nat} : letOut u i c 4 0 = u 4 0 - 1 := by simp [letOut, st, setTr_ne]
theorem lo_3 {u : St} {i c : Nat} : letOut u i c 3 0 = u 3 0 + 1 := by simp [letOut, st, setTr_ne]
theorem lo_23 {u : St} {i c j : Nat} : letOut u i c 23 j = if j = i then 3 else u 23 j := by simp [letOut, st, setTr_ne]
theorem lo_10 {u : St} {i c j : Nat} : letOut u i c 10 j = if j = u 3 0 then i else u 10 j := by simp [letOut, st, setTr_ne]
theorem lo_18 {u : St} {i c j : Nat} : letOut u i c 18 j = if j = c then u 18 c + 1 else u 18 j := by simp [letOut, st, setTr_ne]
theorem lo_26 {u : St} {i c j : Nat} : letOut u i c 26 j = if j = i then c else u 26 j := by simp [letOut, st, setTr_ne]
theorem lo_27 {u : St} {i c j : Nat} : letOut u i c 27 j = if j = i then u 6 0 else u 27 j := by simp [letOut, st, setTr_ne]
theorem lo_k {u : St} {i c f j : Nat} (h : f ≠ 8 ∧ f ≠ 4 ∧ f ≠ 3 ∧ f ≠ 23 ∧ f ≠ 10 ∧ f ≠ 18 ∧ f ≠ 26 ∧ f ≠ 27) : letOut u i c f j = u f j := by
  simp [letOut, st, setTr_ne, h]
theorem Iv_letOut {u : St} (h : Iv u) {i c : Nat} (h1 : 1 ≤ i) (h2 : i ≤ u 2 0) (h3 : u 23 i = 1) : Iv (letOut u i c) := by
  have hc := h.carry h1 h2 h3
  obtain ⟨i1, i2, i3, ⟨i4, i4', i7⟩, i5, i6⟩ := h
  have k : ∀ f j, (f = 0 ∨ f = 2 ∨ f = 5 ∨ f = 7 ∨ f = 9 ∨ f = 12 ∨ f = 21 ∨ f = 22 ∨ f = 24 ∨ 30 ≤ f) → letOut u i c f j = u f j := fun f j hf => lo_k (by omega)
  have hl := (i2 i h1 h2).2.2.2.1
  have eb : ∀ t, tB (letOut u i c) t = tB u t := fun t => by simp [tB, k]
  refine ⟨?_, ?_, ?_, ⟨?_, ?_, ?_⟩, ?_, ?_⟩
  · unfold Iv1 at *
    rw [k 0 0 (by omega), k 2 0 (by omega), k 30 0 (by omega), k 5 0 (by omega), k 7 0 (by omega)]; exact i1
  · intro j a b
    rw [k 2 0 (by omega)] at b
    rw [lo_23, k 22 j (by omega), k 21 j (by omega), k 24 j (by omega), k 0 0 (by omega), k 31 j (by omega)]
    have := i2 j a b
    refine ⟨?_, this.2⟩
    split
    · omega
    · exact this.1
  · intro t
    rw [lo_8, setTr_8 hl, k 2 0 (by omega)]
    obtain ⟨a, b⟩ := i3 t
    split
    · exact ⟨Nat.zero_le _, fun z => absurd rfl z⟩
    · rename_i hn
      refine ⟨a, fun z => ?_⟩
      obtain ⟨b1, b2⟩ := b z
      have hne : u 8 t ≠ i := fun y => by rw [y] at b2; exact hn b2
      rw [lo_23, if_neg hne, k 24 _ (by omega), k 21 _ (by omega), eb]
      exact ⟨b1, b2⟩
  · rw [lo_4, k 2 0 (by omega)]
    have := cnt_upd (f := onL u) (g := onL (letOut u i c)) (i := i) (fun j hj => by unfold onL; rw [lo_23, if_neg hj]) (u 2 0) h1 h2
    have a1 : onL u i = 1 := by unfold onL; rw [if_pos (Or.inl h3)]
    have a2 : onL (letOut u i c) i = 0 := by unfold onL; rw [lo_23, if_pos rfl]; rfl
    rw [a1, a2] at this
    omega
  · rw [lo_3, k 2 0 (by omega)]
    have := cnt_upd (f := isOut u) (g := isOut (letOut u i c)) (i := i) (fun j hj => by unfold isOut; rw [lo_23, if_neg hj]) (u 2 0) h1 h2
    have a1 : isOut u i = 0 := by unfold isOut; rw [if_neg (by omega)]
    have a2 : isOut (letOut u i c) i = 1 := by unfold isOut; rw [lo_23, if_pos rfl]; rfl
    rw [a1, a2] at this
    omega
  · intro j hj
    rw [lo_3] at hj
    rw [lo_10, lo_23]
    by_cases hg : j = u 3 0
    · rw [if_pos hg, if_pos rfl]
    · rw [if_neg hg]
      split
      · rfl
      · exact i7 j (by omega)
  · intro n a b
    have e40 : ∀ j, letOut u i c (40 + n) j = u (40 + n) j := fun j => k (40 + n) j (by omega)
    obtain ⟨r1, r2, r3, r4, r5⟩ := i5 n a b
    rw [k 12 n (by omega)]
    simp only [e40]
    refine ⟨r1, fun j => by rw [k 2 0 (by omega)]; exact r2 j, fun j hj => ?_, r4, fun j ja jb jc jd => ?_⟩
    · obtain ⟨s1, s2, s3⟩ := r3 j hj
      have hne : u (40 + n) j ≠ i := fun y => by rw [y] at s2; omega
      rw [lo_23, if_neg hne, k 31 _ (by omega)]
      exact ⟨s1, s2, s3⟩
    · rw [k 2 0 (by omega)] at jb
      rw [lo_23] at jc
      rw [k 31 j (by omega)] at jd
      by_cases hj : j = i
      · rw [if_pos hj] at jc; omega
      · rw [if_neg hj] at jc; exact r5 j ja jb jc jd
  · refine ⟨fun j => by rw [k 9 j (by omega), k 2 0 (by omega)]; exact i6.1 j, fun j => ?_⟩
    rw [lo_10, lo_3, k 2 0 (by omega)]
    split
    · exact ⟨h2, fun _ => h1⟩
    · exact ⟨(i6.2 j).1, fun hj => (i6.2 j).2 (by omega)⟩
theorem Iv_passOne {u : St} (h : Iv u) {c : Nat} : Iv (passOne u c) := by
  unfold passOne
  split
  · rename_i hp
    obtain ⟨p1, p2, p3⟩ := hp
    have hb := (h.2.2.1 (tA u (pos6 u c))).1
    unfold passC
    split
    · exact h
    · split
      · exact Iv_letOut h (by omega) hb p3
      · split
        · exact Iv_rnd h
        · exact h
  · exact h
theorem rowUp_lo {n k : Nat} {u : St} {j : Nat} (h : j < k) : rowUp n k u (40 + n) j = u (40 + n) (j + 1) := by
  induction k with
  | zero => omega
  | succ k ih =>
    show st _ _ _ _ _ j = _
    by_cases hj : j = k
    · subst hj; rw [st_self, rowUp_hi (by omega)]
    · rw [st_ni hj, ih (by omega)]
theorem rm_12 {u : St} {n m : Nat} : remF u n 12 m = if m = n then u 12 n - 1 else u 12 m := by
  show st _ _ _ _ 12 m = _
  rw [st_nf (by omega), rowUp_k (by omega)]
  by_cases h : m = n
  · subst h; rw [st_self, if_pos rfl]
  · rw [st_ni h, if_neg h]
theorem rm_row {u : St} {n j : Nat} : remF u n (40 + n) j = if j < u 12 n - 1 then u (40 + n) (j + 1) else if j = u 12 n - 1 then 0 else u (40 + n) j := by
  show st (rowUp n (st u 12 n (u 12 n - 1) 12 n) (st u 12 n (u 12 n - 1))) (40 + n) (st u 12 n (u 12 n - 1) 12 n) 0 (40 + n) j = _
  rw [st_self]
  by_cases h : j = u 12 n - 1
  · rw [h, st_self]; simp
  · rw [st_ni h]
    by_cases hl : j < u 12 n - 1
    · rw [if_pos hl, rowUp_lo hl, st_nf (by omega)]
    · rw [if_neg hl, if_neg h, rowUp_hi (by omega), st_nf (by omega)]
/-- putF where it puts -/
def pG (u : St) (n : Nat) : St :=
  let i := u (40 + n) 0
  let t := tA u (pos3 u n)
  let u1 := remF u n
  let u2 := st u1 13 n (u1 13 n + 1)
  let u3 := st u2 24 i t
  let u4 := st u3 23 i 1
  let u5 := setTr u4 i i
  st u5 4 0 (u5 4 0 + 1)
theorem putF_c {u : St} {n : Nat} (h1 : u 12 n ≠ 0) (h2 : freeFor u (u (40 + n) 0) (tA u (pos3 u n))) : putF u n = pG u n := by
  rw [putF, if_neg h1, if_pos h2]; rfl
theorem pG_eq {u : St} {n : Nat} : pG u n = st (setTr (st (st (st (remF u n) 13 n (remF u n 13 n + 1)) 24 (u (40 + n) 0) (tA u (pos3 u n))) 23 (u (40 + n) 0) 1) (u (40 + n) 0) (u (40 + n) 0)) 4 0 (setTr (st (st (st (remF u n) 13 n (remF u n 13 n + 1)) 24 (u (40 + n) 0) (tA u (pos3 u n))) 23 (u (40 + n) 0) 1) (u (40 + n) 0) (u (40 + n) 0) 4 0 + 1) := rfl
theorem pG_k {u : St} {n f j : Nat} (h : f ≠ 8 ∧ f ≠ 4 ∧ f ≠ 23 ∧ f ≠ 24 ∧ f ≠ 13 ∧ f ≠ 12 ∧ f ≠ 40 + n) : pG u n f j = u f j := by
  rw [pG_eq]
  rw [st_nf h.2.1, setTr_ne h.1, st_nf h.2.2.1, st_nf h.2.2.2.1, st_nf h.2.2.2.2.1, remF_k h.2.2.2.2.2.2 h.2.2.2.2.2.1]
theorem pG_12 {u : St} {n m : Nat} : pG u n 12 m = if m = n then u 12 n - 1 else u 12 m := by
  rw [pG_eq]
  rw [st_nf (by decide), setTr_ne (by decide), st_nf (by decide), st_nf (by decide), st_nf (by decide), rm_12]
theorem pG_row {u : St} {n j : Nat} : pG u n (40 + n) j = if j < u 12 n - 1 then u (40 + n) (j + 1) else if j = u 12 n - 1 then 0 else u (40 + n) j := by
  rw [pG_eq]
  rw [st_nf (by omega), setTr_ne (by omega), st_nf (by omega), st_nf (by omega), st_nf (by omega), rm_row]
theorem pG_4 {u : St} {n : Nat} : pG u n 4 0 = u 4 0 + 1 := by
  rw [pG_eq]
  rw [st_self, setTr_ne (by decide), st_nf (by decide), st_nf (by decide), st_nf (by decide), remF_k (by omega) (by decide)]
theorem pG_23 {u : St} {n j : Nat} : pG u n 23 j = if j = u (40 + n) 0 then 1 else u 23 j := by
  rw [pG_eq]
  rw [st_nf (by decide), setTr_ne (by decide)]
  by_cases h : j = u (40 + n) 0
  · rw [h, st_self, if_pos rfl]
  · rw [st_ni h, if_neg h, st_nf (by decide), st_nf (by decide), remF_k (by omega) (by decide)]
theorem pG_24 {u : St} {n j : Nat} : pG u n 24 j = if j = u (40 + n) 0 then tA u (pos3 u n) else u 24 j := by
  rw [pG_eq]
  rw [st_nf (by decide), setTr_ne (by decide), st_nf (by decide)]
  by_cases h : j = u (40 + n) 0
  · rw [h, st_self, if_pos rfl]
  · rw [st_ni h, if_neg h, st_nf (by decide), remF_k (by omega) (by decide)]
theorem pG_13 {u : St} {n m : Nat} : pG u n 13 m = if m = n then u 13 n + 1 else u 13 m := by
  rw [pG_eq]
  rw [st_nf (by decide), setTr_ne (by decide), st_nf (by decide), st_nf (by decide)]
  by_cases h : m = n
  · subst h; rw [st_self, if_pos rfl, remF_k (by omega) (by decide)]
  · rw [st_ni h, if_neg h, remF_k (by omega) (by decide)]
theorem pG_8 {u : St} {n t : Nat} (hl : u 21 (u (40 + n) 0) ≤ 2) : pG u n 8 t = if t = tA u (pos3 u n) ∨ (u 21 (u (40 + n) 0) = 2 ∧ t = tB u (tA u (pos3 u n))) then u (40 + n) 0 else u 8 t := by
  rw [pG_eq]
  rw [st_nf (by decide)]
  generalize hu : st (st (st (remF u n) 13 n (remF u n 13 n + 1)) 24 (u (40 + n) 0) (tA u (pos3 u n))) 23 (u (40 + n) 0) 1 = w
  have e21 : w 21 (u (40 + n) 0) = u 21 (u (40 + n) 0) := by rw [← hu, st_nf (by decide), st_nf (by decide), st_nf (by decide), remF_k (by omega) (by decide)]
  have e24 : w 24 (u (40 + n) 0) = tA u (pos3 u n) := by rw [← hu, st_nf (by decide), st_self]
  have e0 : w 0 0 = u 0 0 := by rw [← hu, st_nf (by decide), st_nf (by decide), st_nf (by decide), remF_k (by omega) (by decide)]
  have e8 : w 8 t = u 8 t := by rw [← hu, st_nf (by decide), st_nf (by decide), st_nf (by decide), remF_k (by omega) (by decide)]
  have eb : ∀ q, tB w q = tB u q := fun q => by simp [tB, e0]
  rw [setTr_8 (by rw [e21]; exact hl), e21, e24, eb, e8]
theorem row_lt {u : St} {n w : Nat} (h : ∀ j, j + 1 < w → u (40 + n) j < u (40 + n) (j + 1)) : ∀ b a, a < b → b < w → u (40 + n) a < u (40 + n) b := by
  intro b
  induction b with
  | zero => intro a h1; omega
  | succ b ih =>
    intro a h1 h2
    have h3 := h b h2
    by_cases hq : a = b
    · subst hq; exact h3
    · exact Nat.lt_trans (ih a (by omega) (by omega)) h3
theorem Iv_pG {u : St} (h : Iv u) {n : Nat} (hn : 1 ≤ n ∧ n ≤ 4) (hw : u 12 n ≠ 0) : Iv (pG u n) := by
  obtain ⟨i1, i2, i3, ⟨i4, i4', i7⟩, i5, i6⟩ := h
  obtain ⟨r1, r2, r3, r4, r5⟩ := i5 n hn.1 hn.2
  obtain ⟨s1, s2, s3⟩ := r3 0 (by omega)
  have sb := r2 0
  obtain ⟨a1, a2, a3, a4, a5, a6, a7⟩ := i1
  have hlt := row_lt r4
  generalize hi : u (40 + n) 0 = i at *
  have k : ∀ f j, (f = 0 ∨ f = 2 ∨ f = 3 ∨ f = 5 ∨ f = 7 ∨ f = 9 ∨ f = 10 ∨ f = 21 ∨ f = 22 ∨ f = 30 ∨ f = 31) → pG u n f j = u f j := fun f j hf => pG_k (by omega)
  have k23 : ∀ j, pG u n 23 j = if j = i then 1 else u 23 j := fun j => by rw [pG_23, hi]
  have k24 : ∀ j, pG u n 24 j = if j = i then tA u (pos3 u n) else u 24 j := fun j => by rw [pG_24, hi]
  obtain ⟨b1, b2, b3, b4, b5, b6, b7⟩ := i2 i (by omega) sb
  have k8 : ∀ t, pG u n 8 t = if t = tA u (pos3 u n) ∨ (u 21 i = 2 ∧ t = tB u (tA u (pos3 u n))) then i else u 8 t := fun t => by rw [pG_8 (by rw [hi]; exact b4), hi]
  have ht : tA u (pos3 u n) < u 0 0 := tA_lt (pos3_lt hn a1 a2) a3
  have eb : ∀ t, tB (pG u n) t = tB u t := fun t => by simp [tB, k]
  refine ⟨?_, ?_, ?_, ⟨?_, ?_, ?_⟩, ?_, ?_⟩
  · unfold Iv1
    rw [k 0 0 (by omega), k 2 0 (by omega), k 30 0 (by omega), k 5 0 (by omega), k 7 0 (by omega)]; exact ⟨a1, a2, a3, a4, a5, a6, a7⟩
  · intro j ja jb
    rw [k 2 0 (by omega)] at jb
    rw [k23, k 22 j (by omega), k 21 j (by omega), k24, k 0 0 (by omega), k 31 j (by omega)]
    obtain ⟨c1, c2, c3, c4, c5, c6⟩ := i2 j ja jb
    refine ⟨?_, c2, c3, c4, ?_, c6⟩
    · split <;> omega
    · split
      · exact ht
      · exact c5
  · intro t
    rw [k8, k 2 0 (by omega)]
    split
    · rename_i hp
      refine ⟨sb, fun _ => ⟨Or.inl (by rw [k23, if_pos rfl]), ?_⟩⟩
      rw [k24, if_pos rfl, k 21 _ (by omega), eb]
      exact hp
    · obtain ⟨c1, c2⟩ := i3 t
      refine ⟨c1, fun z => ?_⟩
      obtain ⟨d1, d2⟩ := c2 z
      have hne : u 8 t ≠ i := fun y => by rw [y] at d1; omega
      rw [k23, if_neg hne, k24, if_neg hne, k 21 _ (by omega), eb]
      exact ⟨d1, d2⟩
  · rw [pG_4, k 2 0 (by omega)]
    have := cnt_upd (f := onL u) (g := onL (pG u n)) (i := i) (fun j hj => by unfold onL; rw [k23, if_neg hj]) (u 2 0) (by omega) sb
    have e1 : onL u i = 0 := by unfold onL; rw [if_neg (by omega)]
    have e2 : onL (pG u n) i = 1 := by unfold onL; rw [k23, if_pos rfl]; rfl
    rw [e1, e2] at this
    omega
  · rw [k 3 0 (by omega), k 2 0 (by omega), i4']
    refine (cnt_same (fun j => ?_) _).symm
    unfold isOut
    rw [k23]
    by_cases hj : j = i
    · subst hj; rw [if_pos rfl, s2]; rfl
    · rw [if_neg hj]
  · intro j hj
    rw [k 3 0 (by omega)] at hj
    rw [k 10 j (by omega), k23]
    have := i7 j hj
    rw [if_neg (fun z => by rw [z] at this; omega)]
    exact this
  · intro m ma mb
    rw [k 2 0 (by omega)]
    by_cases hm : m = n
    · subst hm
      rw [pG_12, if_pos rfl]
      have kr : ∀ j, j < u 12 m - 1 → pG u m (40 + m) j = u (40 + m) (j + 1) := fun j hj => by rw [pG_row, if_pos hj]
      refine ⟨by omega, fun j => ?_, fun j hj => ?_, fun j hj => ?_, fun j ja jb jc jd => ?_⟩
      · rw [pG_row]
        split
        · exact r2 _
        · split
          · exact Nat.zero_le _
          · exact r2 _
      · rw [kr j hj, k23, k 31 _ (by omega)]
        obtain ⟨c1, c2, c3⟩ := r3 (j + 1) (by omega)
        have := hlt (j + 1) 0 (by omega) (by omega)
        rw [if_neg (by omega)]
        exact ⟨c1, c2, c3⟩
      · rw [kr j (by omega), kr (j + 1) (by omega)]
        exact r4 (j + 1) (by omega)
      · rw [k23] at jc
        rw [k 31 j (by omega)] at jd
        by_cases hj : j = i
        · rw [if_pos hj] at jc; omega
        · rw [if_neg hj] at jc
          obtain ⟨q, q1, q2⟩ := r5 j ja jb jc jd
          have q0 : q ≠ 0 := fun z => by rw [z, hi] at q2; exact hj q2.symm
          refine ⟨q - 1, by omega, ?_⟩
          rw [kr (q - 1) (by omega), show q - 1 + 1 = q by omega]
          exact q2
    · have e40 : ∀ j, pG u n (40 + m) j = u (40 + m) j := fun j => pG_k (by omega)
      obtain ⟨c1, c2, c3, c4, c5⟩ := i5 m ma mb
      rw [pG_12, if_neg hm]
      simp only [e40]
      refine ⟨c1, c2, fun j hj => ?_, c4, fun j ja jb jc jd => ?_⟩
      · obtain ⟨d1, d2, d3⟩ := c3 j hj
        have hne : u (40 + m) j ≠ i := fun y => by rw [y] at d3; omega
        rw [k23, if_neg hne, k 31 _ (by omega)]
        exact ⟨d1, d2, d3⟩
      · rw [k23] at jc
        rw [k 31 j (by omega)] at jd
        by_cases hj : j = i
        · rw [if_pos hj] at jc; omega
        · rw [if_neg hj] at jc; exact c5 j ja jb jc jd
  · refine ⟨fun j => by rw [k 9 j (by omega), k 2 0 (by omega)]; exact i6.1 j, fun j => by rw [k 10 j (by omega), k 3 0 (by omega), k 2 0 (by omega)]; exact i6.2 j⟩
theorem Iv_putF {u : St} (h : Iv u) {n : Nat} (hn : 1 ≤ n ∧ n ≤ 4) : Iv (putF u n) := by
  by_cases h1 : u 12 n = 0
  · rw [putF, if_pos h1]; exact h
  · by_cases h2 : freeFor u (u (40 + n) 0) (tA u (pos3 u n))
    · rw [putF_c h1 h2]; exact Iv_pG h hn h1
    · rw [putF, if_neg h1, if_neg h2]; exact h
