/-! THE CLASS' INVARIANT. u 31 i: the induct at which item i came (a number that no cell holds) -/
def cnt (f : Nat → Nat) : Nat → Nat
  | 0 => 0
  | n + 1 => cnt f n + f (n + 1)
def onL (u : St) (i : Nat) : Nat := if u 23 i = 1 ∨ u 23 i = 2 then 1 else 0
def isOut (u : St) (i : Nat) : Nat := if u 23 i = 3 then 1 else 0
/-- sizes -/
def Iv1 (u : St) : Prop := 1 ≤ u 0 0 ∧ u 0 0 ≤ 200 ∧ u 7 0 < u 0 0 ∧ u 2 0 ≤ 400 ∧ u 30 0 = u 2 0 ∧ 1 ≤ u 5 0 ∧ u 5 0 ≤ 5
/-- items -/
def Iv2 (u : St) : Prop := ∀ i, 1 ≤ i → i ≤ u 2 0 → u 23 i < 4 ∧ u 22 i < 16 ∧ 1 ≤ u 21 i ∧ u 21 i ≤ 2 ∧ u 24 i < u 0 0 ∧ 1 ≤ u 31 i ∧ u 31 i ≤ 4
/-- trays -/
def Iv3 (u : St) : Prop := ∀ t, u 8 t ≤ u 2 0 ∧ (u 8 t ≠ 0 → (u 23 (u 8 t) = 1 ∨ u 23 (u 8 t) = 2) ∧ (t = u 24 (u 8 t) ∨ (u 21 (u 8 t) = 2 ∧ t = tB u (u 24 (u 8 t)))))
/-- counts -/
def Iv4 (u : St) : Prop := u 4 0 = cnt (onL u) (u 2 0) ∧ u 3 0 = cnt (isOut u) (u 2 0) ∧ ∀ j, j < u 3 0 → u 23 (u 10 j) = 3
/-- rows -/
def Iv5 (u : St) : Prop := ∀ n, 1 ≤ n → n ≤ 4 → u 12 n ≤ 8 ∧ (∀ j, u (40 + n) j ≤ u 2 0) ∧ (∀ j, j < u 12 n → u (40 + n) j ≠ 0 ∧ u 23 (u (40 + n) j) = 0 ∧ u 31 (u (40 + n) j) = n) ∧ (∀ j, j + 1 < u 12 n → u (40 + n) j < u (40 + n) (j + 1)) ∧ ∀ i, 1 ≤ i → i ≤ u 2 0 → u 23 i = 0 → u 31 i = n → ∃ j, j < u 12 n ∧ u (40 + n) j = i
/-- the lists of items and of those gone -/
def Iv6 (u : St) : Prop := (∀ j, u 9 j ≤ u 2 0 ∧ (j < u 2 0 → u 9 j = j + 1)) ∧ ∀ j, u 10 j ≤ u 2 0 ∧ (j < u 3 0 → 1 ≤ u 10 j)
def Iv (u : St) : Prop := Iv1 u ∧ Iv2 u ∧ Iv3 u ∧ Iv4 u ∧ Iv5 u ∧ Iv6 u
theorem cnt_le {f : Nat → Nat} (h : ∀ i, f i ≤ 1) (n : Nat) : cnt f n ≤ n := by
  induction n with
  | zero => exact Nat.le_refl _
  | succ n ih => show cnt f n + f (n + 1) ≤ n + 1; have := h (n + 1); omega
theorem cnt_pos {f : Nat → Nat} {i : Nat} (hi : f i = 1) : ∀ (n : Nat), 1 ≤ i → i ≤ n → 1 ≤ cnt f n := by
  intro n
  induction n with
  | zero => intro h1 h2; omega
  | succ n ih =>
    intro h1 h2
    show 1 ≤ cnt f n + f (n + 1)
    by_cases hq : i = n + 1
    · subst hq; omega
    · have := ih h1 (by omega); omega
theorem cnt_lt {f : Nat → Nat} (h : ∀ i, f i ≤ 1) {i : Nat} (hi : f i = 0) : ∀ (n : Nat), 1 ≤ i → i ≤ n → cnt f n < n := by
  intro n
  induction n with
  | zero => intro h1 h2; omega
  | succ n ih =>
    intro h1 h2
    show cnt f n + f (n + 1) < n + 1
    by_cases hq : i = n + 1
    · subst hq; have := cnt_le h n; omega
    · have := ih h1 (by omega); have := h (n + 1); omega
theorem onL_le {u : St} (i : Nat) : onL u i ≤ 1 := by unfold onL; split <;> omega
theorem isOut_le {u : St} (i : Nat) : isOut u i ≤ 1 := by unfold isOut; split <;> omega
/-- an item on the loop: there is one carried, and room among the gone -/
theorem Iv.carry {u : St} (h : Iv u) {i : Nat} (h1 : 1 ≤ i) (h2 : i ≤ u 2 0) (h3 : u 23 i = 1) : 1 ≤ u 4 0 ∧ u 3 0 < 400 ∧ u 4 0 ≤ 400 := by
  obtain ⟨⟨-, -, -, hN, -⟩, -, -, ⟨h4, h5, -⟩, -⟩ := h
  refine ⟨?_, ?_, ?_⟩
  · rw [h4]; exact cnt_pos (by unfold onL; rw [if_pos (Or.inl h3)]) _ h1 h2
  · rw [h5]; have := cnt_lt (f := isOut u) isOut_le (i := i) (by unfold isOut; rw [if_neg (by omega)]) _ h1 h2; omega
  · rw [h4]; have := cnt_le (f := onL u) onL_le (u 2 0); omega
theorem Iv.le4 {u : St} (h : Iv u) : u 4 0 ≤ 400 := by
  obtain ⟨⟨-, -, -, hN, -⟩, -, -, ⟨h4, h5, -⟩, -⟩ := h
  rw [h4]; have := cnt_le (f := onL u) onL_le (u 2 0); omega
theorem Iv.le3 {u : St} (h : Iv u) : u 3 0 ≤ 400 := by
  obtain ⟨⟨-, -, -, hN, -⟩, -, -, ⟨h4, h5, -⟩, -⟩ := h
  rw [h5]; have := cnt_le (f := isOut u) isOut_le (u 2 0); omega
