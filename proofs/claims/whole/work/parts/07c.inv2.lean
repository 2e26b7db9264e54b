theorem Iv_passN {u : St} (h : Iv u) : ∀ n, n ≤ 16 → Iv (passN n u) := by
  intro n
  induction n with
  | zero => intro _; exact h
  | succ n ih => intro hn; exact Iv_passOne (ih (by omega))
theorem Iv_moveOne {u : St} (h : Iv u) : Iv (moveOne u) := by
  unfold moveOne
  split
  · exact Iv_passN (Iv_shift h) 16 (Nat.le_refl _)
  · exact Iv_shift h
theorem Iv_moveN {u : St} (h : Iv u) : ∀ n, Iv (moveN n u) := by
  intro n
  induction n with
  | zero => exact h
  | succ n ih => exact Iv_moveOne ih
theorem Iv_clrN {u : St} (h : Iv u) : ∀ n, Iv (clrN n u) := by
  intro n
  induction n with
  | zero => exact h
  | succ n ih => exact Iv_had ih
theorem nxT_le {u : St} : ∀ k, nxT u k ≤ k := by
  intro k
  induction k with
  | zero => exact Nat.le_refl _
  | succ k ih => unfold nxT; split <;> omega
theorem Iv_turnOne {u : St} (h : Iv u) : Iv (turnOne u) := by
  unfold turnOne
  split
  · exact h
  · have := nxT_le (u := u) 4; exact Iv_putF (Iv_had h) ⟨by omega, this⟩
theorem Iv_turnN {u : St} (h : Iv u) : ∀ n, Iv (turnN n u) := by
  intro n
  induction n with
  | zero => exact h
  | succ n ih => exact Iv_turnOne ih
theorem Iv_takeT {u : St} (h : Iv u) : Iv (takeT u) := Iv_turnN (Iv_clrN h 4) 4
theorem Iv_runOne {u : St} (h : Iv u) : Iv (runOne u) := Iv_takeT (Iv_time (Iv_moveN h _))
theorem Iv_runN {u : St} (h : Iv u) : ∀ n, Iv (runN n u) := by
  intro n
  induction n with
  | zero => exact h
  | succ n ih => exact Iv_runOne ih
theorem moveOne_k {u : St} {f j : Nat} (h : f = 0 ∨ f = 30 ∨ f = 1 ∨ f = 5) : moveOne u f j = u f j := by
  have h7 : f ≠ 7 := by omega
  unfold moveOne
  split
  · rw [passN_k (by omega)]; exact st_nf h7
  · exact st_nf h7
theorem moveN_k {n : Nat} {u : St} {f j : Nat} (h : f = 0 ∨ f = 30 ∨ f = 1 ∨ f = 5) : moveN n u f j = u f j := by
  induction n with
  | zero => rfl
  | succ n ih => show moveOne (moveN n u) f j = _; rw [moveOne_k h, ih]
