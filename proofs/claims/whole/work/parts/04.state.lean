/-! THE STATE: u f i is a number; the class' cells (kinds 0 .. 9) are read off u, the model's (kinds 10 .. 25) off v -/
abbrev St : Type := Nat → Nat → Nat
def st (u : St) (f i x : Nat) : St := fun f' i' => if f' = f ∧ i' = i then x else u f' i'
theorem st_self {u : St} {f i x : Nat} : st u f i x f i = x := by simp [st]
theorem st_nf {u : St} {f i x f' i' : Nat} (h : f' ≠ f) : st u f i x f' i' = u f' i' := by simp [st, h]
theorem st_ni {u : St} {f i x i' : Nat} (h : i' ≠ i) : st u f i x f i' = u f i' := by simp [st, h]
def rI (al : Ad) (n : Nat) : Option Nat := if n = 0 then none else some (al 9 n)
theorem rI_0 {al : Ad} : rI al 0 = none := rfl
theorem rI_pos {al : Ad} {n : Nat} (h : n ≠ 0) : rI al n = some (al 9 n) := if_neg h
theorem rI_v0 {al : Ad} {n : Nat} (h : n = 0) : va_rf (rI al n) = .null := by subst h; rfl
theorem rI_vp {al : Ad} {n : Nat} (h : n ≠ 0) : va_rf (rI al n) = .ref (al 9 n) := by rw [rI_pos h]; rfl
def cC (ta : Nat → ClassId) (pl : Nat → Nat) (al : Ad) (u : St) : Wo := fun k i => match k with
  | 0 => if i = 0 then some (.inr (4, [.int (nI (u 0 0)), .int (nI (u 1 0)), .ref (al 1 0), .ref (al 2 0), .ref (al 5 0), .ref (al 7 0), .ref (al 8 0), .int (nI (u 2 0)), .int (nI (u 3 0)), .int (nI (u 4 0)), .int (nI (u 5 0)), .int (nI (u 6 0)), .int (nI (u 7 0))])) else none
  | 1 => if i = 0 then some (.inl (ta 0, u 0 0, .inr (.inr (.inr (.inr (fun j => rI al (u 8 j))))))) else none
  | 2 => if i = 0 then some (.inl (ta 1, 4, .inr (.inr (.inr (.inr (fun j => if j < 4 then some (al 3 (j + 1)) else none)))))) else none
  | 3 => if 1 ≤ i ∧ i ≤ 4 then some (.inr (2, [.int (nI ((i - 1) * u 0 0 / 4)), .ref (al 4 i), .int (nI (u 12 i)), .long (lN (u 13 i)), .int (nI (u 14 i))])) else none
  | 4 => if 1 ≤ i ∧ i ≤ 4 then some (.inl (ta 0, 8, .inr (.inr (.inr (.inr (fun j => rI al (u (40 + i) j))))))) else none
  | 5 => if i = 0 then some (.inl (ta 2, 16, .inr (.inr (.inr (.inr (fun j => if j < 16 then some (al 6 j) else none)))))) else none
  | 6 => if i < 16 then some (.inr (1, [.int (nI ((i * u 0 0 + u 0 0 / 2) / 16)), .int (nI (bN (i = 15))), .int (nI (u 18 i)), .int (nI (u 19 i))])) else none
  | 7 => if i = 0 then some (.inl (ta 0, 400, .inr (.inr (.inr (.inr (fun j => rI al (u 9 j))))))) else none
  | 8 => if i = 0 then some (.inl (ta 0, 400, .inr (.inr (.inr (.inr (fun j => rI al (u 10 j))))))) else none
  | 9 => if 1 ≤ i ∧ i ≤ u 30 0 then some (.inr (3, [.int (nI i), .int (nI (u 21 i)), .int (nI (u 22 i)), .ref (pl (u 23 i)), .int (nI (u 24 i)), .int (nI (u 25 i)), .int (nI (u 26 i)), .int (nI (u 27 i))])) else none
  | _ => none
def cM (ta : Nat → ClassId) (al : Ad) (v : St) : Wo := fun k i => match k with
  | 10 => if i = 0 then some (.inr (5, [.int (nI (v 0 0)), .int (nI (v 1 0)), .int (nI (v 2 0)), .ref (al 11 0), .ref (al 12 0), .int (nI (v 3 0)), .int (nI (v 4 0)), .int (nI (v 5 0)), .ref (al 13 0), .ref (al 14 0), .ref (al 15 0), .ref (al 16 0), .ref (al 17 0), .ref (al 18 0), .ref (al 19 0), .ref (al 20 0), .ref (al 21 0), .int (nI (v 6 0)), .ref (al 22 0), .ref (al 23 0), .ref (al 24 0), .ref (al 25 0)])) else none
  | 11 => if i = 0 then some (.inl (ta 3, 200, .inl (fun j => nI (v 11 j)))) else none
  | 12 => if i = 0 then some (.inl (ta 3, 200, .inl (fun j => nI (v 12 j)))) else none
  | 13 => if i = 0 then some (.inl (ta 3, 401, .inl (fun j => nI (v 13 j)))) else none
  | 14 => if i = 0 then some (.inl (ta 3, 401, .inl (fun j => nI (v 14 j)))) else none
  | 15 => if i = 0 then some (.inl (ta 3, 401, .inl (fun j => nI (v 15 j)))) else none
  | 16 => if i = 0 then some (.inl (ta 3, 401, .inl (fun j => nI (v 16 j)))) else none
  | 17 => if i = 0 then some (.inl (ta 3, 401, .inl (fun j => nI (v 17 j)))) else none
  | 18 => if i = 0 then some (.inl (ta 3, 401, .inl (fun j => nI (v 18 j)))) else none
  | 19 => if i = 0 then some (.inl (ta 4, 4, .inr (.inl (fun j => lN (v 19 j))))) else none
  | 20 => if i = 0 then some (.inl (ta 3, 16, .inl (fun j => nI (v 20 j)))) else none
  | 21 => if i = 0 then some (.inl (ta 5, 16, .inl (fun j => nI (v 21 j)))) else none
  | 22 => if i = 0 then some (.inl (ta 3, 400, .inl (fun j => nI (v 22 j)))) else none
  | 23 => if i = 0 then some (.inl (ta 3, 400, .inl (fun j => nI (v 23 j)))) else none
  | 24 => if i = 0 then some (.inl (ta 3, 400, .inl (fun j => nI (v 24 j)))) else none
  | 25 => if i = 0 then some (.inl (ta 5, 4, .inl (fun j => nI (v 25 j)))) else none
  | _ => none
/-- the class' cells, and Z beside them -/
def mC (Z : Wo) (ta : Nat → ClassId) (pl : Nat → Nat) (al : Ad) (u : St) : Wo := fun k i => if k < 10 then cC ta pl al u k i else Z k i
/-- the model's cells, and Z beside them -/
def mM (Z : Wo) (ta : Nat → ClassId) (al : Ad) (v : St) : Wo := fun k i => if 10 ≤ k ∧ k < 26 then cM ta al v k i else Z k i
section GS
variable {Z : Wo} {ta : Nat → ClassId} {pl : Nat → Nat} {al : Ad} {u v : St}
theorem cx0 : mC Z ta pl al u 0 0 = some (.inr (4, [.int (nI (u 0 0)), .int (nI (u 1 0)), .ref (al 1 0), .ref (al 2 0), .ref (al 5 0), .ref (al 7 0), .ref (al 8 0), .int (nI (u 2 0)), .int (nI (u 3 0)), .int (nI (u 4 0)), .int (nI (u 5 0)), .int (nI (u 6 0)), .int (nI (u 7 0))])) := rfl
theorem cx1 : mC Z ta pl al u 1 0 = some (.inl (ta 0, u 0 0, .inr (.inr (.inr (.inr (fun j => rI al (u 8 j))))))) := rfl
theorem cx2 : mC Z ta pl al u 2 0 = some (.inl (ta 1, 4, .inr (.inr (.inr (.inr (fun j => if j < 4 then some (al 3 (j + 1)) else none)))))) := rfl
theorem cx3 {i : Nat} (h : 1 ≤ i ∧ i ≤ 4) : mC Z ta pl al u 3 i = some (.inr (2, [.int (nI ((i - 1) * u 0 0 / 4)), .ref (al 4 i), .int (nI (u 12 i)), .long (lN (u 13 i)), .int (nI (u 14 i))])) := by
  show (if 1 ≤ i ∧ i ≤ 4 then some _ else none) = _
  rw [if_pos h]
theorem cx4 {i : Nat} (h : 1 ≤ i ∧ i ≤ 4) : mC Z ta pl al u 4 i = some (.inl (ta 0, 8, .inr (.inr (.inr (.inr (fun j => rI al (u (40 + i) j))))))) := by
  show (if 1 ≤ i ∧ i ≤ 4 then some _ else none) = _
  rw [if_pos h]
theorem cx5 : mC Z ta pl al u 5 0 = some (.inl (ta 2, 16, .inr (.inr (.inr (.inr (fun j => if j < 16 then some (al 6 j) else none)))))) := rfl
theorem cx6 {i : Nat} (h : i < 16) : mC Z ta pl al u 6 i = some (.inr (1, [.int (nI ((i * u 0 0 + u 0 0 / 2) / 16)), .int (nI (bN (i = 15))), .int (nI (u 18 i)), .int (nI (u 19 i))])) := by
  show (if i < 16 then some _ else none) = _
  rw [if_pos h]
theorem cx7 : mC Z ta pl al u 7 0 = some (.inl (ta 0, 400, .inr (.inr (.inr (.inr (fun j => rI al (u 9 j))))))) := rfl
theorem cx8 : mC Z ta pl al u 8 0 = some (.inl (ta 0, 400, .inr (.inr (.inr (.inr (fun j => rI al (u 10 j))))))) := rfl
theorem cx9 {i : Nat} (h : 1 ≤ i ∧ i ≤ u 30 0) : mC Z ta pl al u 9 i = some (.inr (3, [.int (nI i), .int (nI (u 21 i)), .int (nI (u 22 i)), .ref (pl (u 23 i)), .int (nI (u 24 i)), .int (nI (u 25 i)), .int (nI (u 26 i)), .int (nI (u 27 i))])) := by
  show (if 1 ≤ i ∧ i ≤ u 30 0 then some _ else none) = _
  rw [if_pos h]
theorem cm10 : mM Z ta al v 10 0 = some (.inr (5, [.int (nI (v 0 0)), .int (nI (v 1 0)), .int (nI (v 2 0)), .ref (al 11 0), .ref (al 12 0), .int (nI (v 3 0)), .int (nI (v 4 0)), .int (nI (v 5 0)), .ref (al 13 0), .ref (al 14 0), .ref (al 15 0), .ref (al 16 0), .ref (al 17 0), .ref (al 18 0), .ref (al 19 0), .ref (al 20 0), .ref (al 21 0), .int (nI (v 6 0)), .ref (al 22 0), .ref (al 23 0), .ref (al 24 0), .ref (al 25 0)])) := rfl
theorem cm11 : mM Z ta al v 11 0 = some (.inl (ta 3, 200, .inl (fun j => nI (v 11 j)))) := rfl
theorem cm12 : mM Z ta al v 12 0 = some (.inl (ta 3, 200, .inl (fun j => nI (v 12 j)))) := rfl
theorem cm13 : mM Z ta al v 13 0 = some (.inl (ta 3, 401, .inl (fun j => nI (v 13 j)))) := rfl
theorem cm14 : mM Z ta al v 14 0 = some (.inl (ta 3, 401, .inl (fun j => nI (v 14 j)))) := rfl
theorem cm15 : mM Z ta al v 15 0 = some (.inl (ta 3, 401, .inl (fun j => nI (v 15 j)))) := rfl
theorem cm16 : mM Z ta al v 16 0 = some (.inl (ta 3, 401, .inl (fun j => nI (v 16 j)))) := rfl
theorem cm17 : mM Z ta al v 17 0 = some (.inl (ta 3, 401, .inl (fun j => nI (v 17 j)))) := rfl
theorem cm18 : mM Z ta al v 18 0 = some (.inl (ta 3, 401, .inl (fun j => nI (v 18 j)))) := rfl
theorem cm19 : mM Z ta al v 19 0 = some (.inl (ta 4, 4, .inr (.inl (fun j => lN (v 19 j))))) := rfl
theorem cm20 : mM Z ta al v 20 0 = some (.inl (ta 3, 16, .inl (fun j => nI (v 20 j)))) := rfl
theorem cm21 : mM Z ta al v 21 0 = some (.inl (ta 5, 16, .inl (fun j => nI (v 21 j)))) := rfl
theorem cm22 : mM Z ta al v 22 0 = some (.inl (ta 3, 400, .inl (fun j => nI (v 22 j)))) := rfl
theorem cm23 : mM Z ta al v 23 0 = some (.inl (ta 3, 400, .inl (fun j => nI (v 23 j)))) := rfl
theorem cm24 : mM Z ta al v 24 0 = some (.inl (ta 3, 400, .inl (fun j => nI (v 24 j)))) := rfl
theorem cm25 : mM Z ta al v 25 0 = some (.inl (ta 5, 4, .inl (fun j => nI (v 25 j)))) := rfl
theorem up_itemCount {x : Nat} : wup (mC Z ta pl al u) 0 0 (.inr (4, [.int (nI (u 0 0)), .int (nI (u 1 0)), .ref (al 1 0), .ref (al 2 0), .ref (al 5 0), .ref (al 7 0), .ref (al 8 0), .int (nI x), .int (nI (u 3 0)), .int (nI (u 4 0)), .int (nI (u 5 0)), .int (nI (u 6 0)), .int (nI (u 7 0))])) = mC Z ta pl al (st u 2 0 x) := by
  funext k' i'
  by_cases hk : k' = 0 ∧ i' = 0
  · obtain ⟨rfl, rfl⟩ := hk
    rw [wup_self]
    simp_all [mC, cC, st]
  · rw [wup_ne hk]
    rcases (show k' = 0 ∨ k' = 1 ∨ k' = 2 ∨ k' = 3 ∨ k' = 4 ∨ k' = 5 ∨ k' = 6 ∨ k' = 7 ∨ k' = 8 ∨ k' = 9 ∨ 10 ≤ k' by omega) with rfl | rfl | rfl | rfl | rfl | rfl | rfl | rfl | rfl | rfl | h10
    · have hi : i' ≠ 0 := fun z => hk ⟨rfl, z⟩
      simp [mC, cC, hi]
    · simp [mC, cC, st]
    · simp [mC, cC, st]
    · simp [mC, cC, st]
    · simp [mC, cC, st, show ¬ 40 + i' = 2 by omega]
    · simp [mC, cC, st]
    · simp [mC, cC, st]
    · simp [mC, cC, st]
    · simp [mC, cC, st]
    · simp [mC, cC, st]
    · simp [mC, show ¬ k' < 10 by omega]
theorem up_goneCount {x : Nat} : wup (mC Z ta pl al u) 0 0 (.inr (4, [.int (nI (u 0 0)), .int (nI (u 1 0)), .ref (al 1 0), .ref (al 2 0), .ref (al 5 0), .ref (al 7 0), .ref (al 8 0), .int (nI (u 2 0)), .int (nI x), .int (nI (u 4 0)), .int (nI (u 5 0)), .int (nI (u 6 0)), .int (nI (u 7 0))])) = mC Z ta pl al (st u 3 0 x) := by
  funext k' i'
  by_cases hk : k' = 0 ∧ i' = 0
  · obtain ⟨rfl, rfl⟩ := hk
    rw [wup_self]
    simp_all [mC, cC, st]
  · rw [wup_ne hk]
    rcases (show k' = 0 ∨ k' = 1 ∨ k' = 2 ∨ k' = 3 ∨ k' = 4 ∨ k' = 5 ∨ k' = 6 ∨ k' = 7 ∨ k' = 8 ∨ k' = 9 ∨ 10 ≤ k' by omega) with rfl | rfl | rfl | rfl | rfl | rfl | rfl | rfl | rfl | rfl | h10
    · have hi : i' ≠ 0 := fun z => hk ⟨rfl, z⟩
      simp [mC, cC, hi]
    · simp [mC, cC, st]
    · simp [mC, cC, st]
    · simp [mC, cC, st]
    · simp [mC, cC, st, show ¬ 40 + i' = 3 by omega]
    · simp [mC, cC, st]
    · simp [mC, cC, st]
    · simp [mC, cC, st]
    · simp [mC, cC, st]
    · simp [mC, cC, st]
    · simp [mC, show ¬ k' < 10 by omega]
theorem up_carriedCount {x : Nat} : wup (mC Z ta pl al u) 0 0 (.inr (4, [.int (nI (u 0 0)), .int (nI (u 1 0)), .ref (al 1 0), .ref (al 2 0), .ref (al 5 0), .ref (al 7 0), .ref (al 8 0), .int (nI (u 2 0)), .int (nI (u 3 0)), .int (nI x), .int (nI (u 5 0)), .int (nI (u 6 0)), .int (nI (u 7 0))])) = mC Z ta pl al (st u 4 0 x) := by
  funext k' i'
  by_cases hk : k' = 0 ∧ i' = 0
  · obtain ⟨rfl, rfl⟩ := hk
    rw [wup_self]
    simp_all [mC, cC, st]
  · rw [wup_ne hk]
    rcases (show k' = 0 ∨ k' = 1 ∨ k' = 2 ∨ k' = 3 ∨ k' = 4 ∨ k' = 5 ∨ k' = 6 ∨ k' = 7 ∨ k' = 8 ∨ k' = 9 ∨ 10 ≤ k' by omega) with rfl | rfl | rfl | rfl | rfl | rfl | rfl | rfl | rfl | rfl | h10
    · have hi : i' ≠ 0 := fun z => hk ⟨rfl, z⟩
      simp [mC, cC, hi]
    · simp [mC, cC, st]
    · simp [mC, cC, st]
    · simp [mC, cC, st]
    · simp [mC, cC, st, show ¬ 40 + i' = 4 by omega]
    · simp [mC, cC, st]
    · simp [mC, cC, st]
    · simp [mC, cC, st]
    · simp [mC, cC, st]
    · simp [mC, cC, st]
    · simp [mC, show ¬ k' < 10 by omega]
theorem up_movesPerStep {x : Nat} : wup (mC Z ta pl al u) 0 0 (.inr (4, [.int (nI (u 0 0)), .int (nI (u 1 0)), .ref (al 1 0), .ref (al 2 0), .ref (al 5 0), .ref (al 7 0), .ref (al 8 0), .int (nI (u 2 0)), .int (nI (u 3 0)), .int (nI (u 4 0)), .int (nI x), .int (nI (u 6 0)), .int (nI (u 7 0))])) = mC Z ta pl al (st u 5 0 x) := by
  funext k' i'
  by_cases hk : k' = 0 ∧ i' = 0
  · obtain ⟨rfl, rfl⟩ := hk
    rw [wup_self]
    simp_all [mC, cC, st]
  · rw [wup_ne hk]
    rcases (show k' = 0 ∨ k' = 1 ∨ k' = 2 ∨ k' = 3 ∨ k' = 4 ∨ k' = 5 ∨ k' = 6 ∨ k' = 7 ∨ k' = 8 ∨ k' = 9 ∨ 10 ≤ k' by omega) with rfl | rfl | rfl | rfl | rfl | rfl | rfl | rfl | rfl | rfl | h10
    · have hi : i' ≠ 0 := fun z => hk ⟨rfl, z⟩
      simp [mC, cC, hi]
    · simp [mC, cC, st]
    · simp [mC, cC, st]
    · simp [mC, cC, st]
    · simp [mC, cC, st, show ¬ 40 + i' = 5 by omega]
    · simp [mC, cC, st]
    · simp [mC, cC, st]
    · simp [mC, cC, st]
    · simp [mC, cC, st]
    · simp [mC, cC, st]
    · simp [mC, show ¬ k' < 10 by omega]
theorem up_time {x : Nat} : wup (mC Z ta pl al u) 0 0 (.inr (4, [.int (nI (u 0 0)), .int (nI (u 1 0)), .ref (al 1 0), .ref (al 2 0), .ref (al 5 0), .ref (al 7 0), .ref (al 8 0), .int (nI (u 2 0)), .int (nI (u 3 0)), .int (nI (u 4 0)), .int (nI (u 5 0)), .int (nI x), .int (nI (u 7 0))])) = mC Z ta pl al (st u 6 0 x) := by
  funext k' i'
  by_cases hk : k' = 0 ∧ i' = 0
  · obtain ⟨rfl, rfl⟩ := hk
    rw [wup_self]
    simp_all [mC, cC, st]
  · rw [wup_ne hk]
    rcases (show k' = 0 ∨ k' = 1 ∨ k' = 2 ∨ k' = 3 ∨ k' = 4 ∨ k' = 5 ∨ k' = 6 ∨ k' = 7 ∨ k' = 8 ∨ k' = 9 ∨ 10 ≤ k' by omega) with rfl | rfl | rfl | rfl | rfl | rfl | rfl | rfl | rfl | rfl | h10
    · have hi : i' ≠ 0 := fun z => hk ⟨rfl, z⟩
      simp [mC, cC, hi]
    · simp [mC, cC, st]
    · simp [mC, cC, st]
    · simp [mC, cC, st]
    · simp [mC, cC, st, show ¬ 40 + i' = 6 by omega]
    · simp [mC, cC, st]
    · simp [mC, cC, st]
    · simp [mC, cC, st]
    · simp [mC, cC, st]
    · simp [mC, cC, st]
    · simp [mC, show ¬ k' < 10 by omega]
theorem up_shift {x : Nat} : wup (mC Z ta pl al u) 0 0 (.inr (4, [.int (nI (u 0 0)), .int (nI (u 1 0)), .ref (al 1 0), .ref (al 2 0), .ref (al 5 0), .ref (al 7 0), .ref (al 8 0), .int (nI (u 2 0)), .int (nI (u 3 0)), .int (nI (u 4 0)), .int (nI (u 5 0)), .int (nI (u 6 0)), .int (nI x)])) = mC Z ta pl al (st u 7 0 x) := by
  funext k' i'
  by_cases hk : k' = 0 ∧ i' = 0
  · obtain ⟨rfl, rfl⟩ := hk
    rw [wup_self]
    simp_all [mC, cC, st]
  · rw [wup_ne hk]
    rcases (show k' = 0 ∨ k' = 1 ∨ k' = 2 ∨ k' = 3 ∨ k' = 4 ∨ k' = 5 ∨ k' = 6 ∨ k' = 7 ∨ k' = 8 ∨ k' = 9 ∨ 10 ≤ k' by omega) with rfl | rfl | rfl | rfl | rfl | rfl | rfl | rfl | rfl | rfl | h10
    · have hi : i' ≠ 0 := fun z => hk ⟨rfl, z⟩
      simp [mC, cC, hi]
    · simp [mC, cC, st]
    · simp [mC, cC, st]
    · simp [mC, cC, st]
    · simp [mC, cC, st, show ¬ 40 + i' = 7 by omega]
    · simp [mC, cC, st]
    · simp [mC, cC, st]
    · simp [mC, cC, st]
    · simp [mC, cC, st]
    · simp [mC, cC, st]
    · simp [mC, show ¬ k' < 10 by omega]
theorem up_waiting {n x : Nat} (h : 1 ≤ n ∧ n ≤ 4) : wup (mC Z ta pl al u) 3 n (.inr (2, [.int (nI ((n - 1) * u 0 0 / 4)), .ref (al 4 n), .int (nI x), .long (lN (u 13 n)), .int (nI (u 14 n))])) = mC Z ta pl al (st u 12 n x) := by
  funext k' i'
  by_cases hk : k' = 3 ∧ i' = n
  · obtain ⟨rfl, rfl⟩ := hk
    rw [wup_self]
    simp_all [mC, cC, st]
  · rw [wup_ne hk]
    rcases (show k' = 0 ∨ k' = 1 ∨ k' = 2 ∨ k' = 3 ∨ k' = 4 ∨ k' = 5 ∨ k' = 6 ∨ k' = 7 ∨ k' = 8 ∨ k' = 9 ∨ 10 ≤ k' by omega) with rfl | rfl | rfl | rfl | rfl | rfl | rfl | rfl | rfl | rfl | h10
    · simp [mC, cC, st]
    · simp [mC, cC, st]
    · simp [mC, cC, st]
    · have hi : i' ≠ n := fun z => hk ⟨rfl, z⟩
      simp [mC, cC, st, hi]
    · simp [mC, cC, st, show ¬ 40 + i' = 12 by omega]
    · simp [mC, cC, st]
    · simp [mC, cC, st]
    · simp [mC, cC, st]
    · simp [mC, cC, st]
    · simp [mC, cC, st]
    · simp [mC, show ¬ k' < 10 by omega]
theorem up_putOnCount {n x : Nat} (h : 1 ≤ n ∧ n ≤ 4) : wup (mC Z ta pl al u) 3 n (.inr (2, [.int (nI ((n - 1) * u 0 0 / 4)), .ref (al 4 n), .int (nI (u 12 n)), .long (lN x), .int (nI (u 14 n))])) = mC Z ta pl al (st u 13 n x) := by
  funext k' i'
  by_cases hk : k' = 3 ∧ i' = n
  · obtain ⟨rfl, rfl⟩ := hk
    rw [wup_self]
    simp_all [mC, cC, st]
  · rw [wup_ne hk]
    rcases (show k' = 0 ∨ k' = 1 ∨ k' = 2 ∨ k' = 3 ∨ k' = 4 ∨ k' = 5 ∨ k' = 6 ∨ k' = 7 ∨ k' = 8 ∨ k' = 9 ∨ 10 ≤ k' by omega) with rfl | rfl | rfl | rfl | rfl | rfl | rfl | rfl | rfl | rfl | h10
    · simp [mC, cC, st]
    · simp [mC, cC, st]
    · simp [mC, cC, st]
    · have hi : i' ≠ n := fun z => hk ⟨rfl, z⟩
      simp [mC, cC, st, hi]
    · simp [mC, cC, st, show ¬ 40 + i' = 13 by omega]
    · simp [mC, cC, st]
    · simp [mC, cC, st]
    · simp [mC, cC, st]
    · simp [mC, cC, st]
    · simp [mC, cC, st]
    · simp [mC, show ¬ k' < 10 by omega]
theorem up_hadTurn {n x : Nat} (h : 1 ≤ n ∧ n ≤ 4) : wup (mC Z ta pl al u) 3 n (.inr (2, [.int (nI ((n - 1) * u 0 0 / 4)), .ref (al 4 n), .int (nI (u 12 n)), .long (lN (u 13 n)), .int (nI x)])) = mC Z ta pl al (st u 14 n x) := by
  funext k' i'
  by_cases hk : k' = 3 ∧ i' = n
  · obtain ⟨rfl, rfl⟩ := hk
    rw [wup_self]
    simp_all [mC, cC, st]
  · rw [wup_ne hk]
    rcases (show k' = 0 ∨ k' = 1 ∨ k' = 2 ∨ k' = 3 ∨ k' = 4 ∨ k' = 5 ∨ k' = 6 ∨ k' = 7 ∨ k' = 8 ∨ k' = 9 ∨ 10 ≤ k' by omega) with rfl | rfl | rfl | rfl | rfl | rfl | rfl | rfl | rfl | rfl | h10
    · simp [mC, cC, st]
    · simp [mC, cC, st]
    · simp [mC, cC, st]
    · have hi : i' ≠ n := fun z => hk ⟨rfl, z⟩
      simp [mC, cC, st, hi]
    · simp [mC, cC, st, show ¬ 40 + i' = 14 by omega]
    · simp [mC, cC, st]
    · simp [mC, cC, st]
    · simp [mC, cC, st]
    · simp [mC, cC, st]
    · simp [mC, cC, st]
    · simp [mC, show ¬ k' < 10 by omega]
theorem up_lying {n x : Nat} (h : n < 16) : wup (mC Z ta pl al u) 6 n (.inr (1, [.int (nI ((n * u 0 0 + u 0 0 / 2) / 16)), .int (nI (bN (n = 15))), .int (nI x), .int (nI (u 19 n))])) = mC Z ta pl al (st u 18 n x) := by
  funext k' i'
  by_cases hk : k' = 6 ∧ i' = n
  · obtain ⟨rfl, rfl⟩ := hk
    rw [wup_self]
    simp_all [mC, cC, st]
  · rw [wup_ne hk]
    rcases (show k' = 0 ∨ k' = 1 ∨ k' = 2 ∨ k' = 3 ∨ k' = 4 ∨ k' = 5 ∨ k' = 6 ∨ k' = 7 ∨ k' = 8 ∨ k' = 9 ∨ 10 ≤ k' by omega) with rfl | rfl | rfl | rfl | rfl | rfl | rfl | rfl | rfl | rfl | h10
    · simp [mC, cC, st]
    · simp [mC, cC, st]
    · simp [mC, cC, st]
    · simp [mC, cC, st]
    · simp [mC, cC, st, show ¬ 40 + i' = 18 by omega]
    · simp [mC, cC, st]
    · have hi : i' ≠ n := fun z => hk ⟨rfl, z⟩
      simp [mC, cC, st, hi]
    · simp [mC, cC, st]
    · simp [mC, cC, st]
    · simp [mC, cC, st]
    · simp [mC, show ¬ k' < 10 by omega]
theorem up_heldShut {n x : Nat} (h : n < 16) : wup (mC Z ta pl al u) 6 n (.inr (1, [.int (nI ((n * u 0 0 + u 0 0 / 2) / 16)), .int (nI (bN (n = 15))), .int (nI (u 18 n)), .int (nI x)])) = mC Z ta pl al (st u 19 n x) := by
  funext k' i'
  by_cases hk : k' = 6 ∧ i' = n
  · obtain ⟨rfl, rfl⟩ := hk
    rw [wup_self]
    simp_all [mC, cC, st]
  · rw [wup_ne hk]
    rcases (show k' = 0 ∨ k' = 1 ∨ k' = 2 ∨ k' = 3 ∨ k' = 4 ∨ k' = 5 ∨ k' = 6 ∨ k' = 7 ∨ k' = 8 ∨ k' = 9 ∨ 10 ≤ k' by omega) with rfl | rfl | rfl | rfl | rfl | rfl | rfl | rfl | rfl | rfl | h10
    · simp [mC, cC, st]
    · simp [mC, cC, st]
    · simp [mC, cC, st]
    · simp [mC, cC, st]
    · simp [mC, cC, st, show ¬ 40 + i' = 19 by omega]
    · simp [mC, cC, st]
    · have hi : i' ≠ n := fun z => hk ⟨rfl, z⟩
      simp [mC, cC, st, hi]
    · simp [mC, cC, st]
    · simp [mC, cC, st]
    · simp [mC, cC, st]
    · simp [mC, show ¬ k' < 10 by omega]
theorem up_place {n x : Nat} (h : 1 ≤ n ∧ n ≤ u 30 0) : wup (mC Z ta pl al u) 9 n (.inr (3, [.int (nI n), .int (nI (u 21 n)), .int (nI (u 22 n)), .ref (pl x), .int (nI (u 24 n)), .int (nI (u 25 n)), .int (nI (u 26 n)), .int (nI (u 27 n))])) = mC Z ta pl al (st u 23 n x) := by
  funext k' i'
  by_cases hk : k' = 9 ∧ i' = n
  · obtain ⟨rfl, rfl⟩ := hk
    rw [wup_self]
    simp_all [mC, cC, st]
  · rw [wup_ne hk]
    rcases (show k' = 0 ∨ k' = 1 ∨ k' = 2 ∨ k' = 3 ∨ k' = 4 ∨ k' = 5 ∨ k' = 6 ∨ k' = 7 ∨ k' = 8 ∨ k' = 9 ∨ 10 ≤ k' by omega) with rfl | rfl | rfl | rfl | rfl | rfl | rfl | rfl | rfl | rfl | h10
    · simp [mC, cC, st]
    · simp [mC, cC, st]
    · simp [mC, cC, st]
    · simp [mC, cC, st]
    · simp [mC, cC, st, show ¬ 40 + i' = 23 by omega]
    · simp [mC, cC, st]
    · simp [mC, cC, st]
    · simp [mC, cC, st]
    · simp [mC, cC, st]
    · have hi : i' ≠ n := fun z => hk ⟨rfl, z⟩
      simp [mC, cC, st, hi]
    · simp [mC, show ¬ k' < 10 by omega]
theorem up_ownTray {n x : Nat} (h : 1 ≤ n ∧ n ≤ u 30 0) : wup (mC Z ta pl al u) 9 n (.inr (3, [.int (nI n), .int (nI (u 21 n)), .int (nI (u 22 n)), .ref (pl (u 23 n)), .int (nI x), .int (nI (u 25 n)), .int (nI (u 26 n)), .int (nI (u 27 n))])) = mC Z ta pl al (st u 24 n x) := by
  funext k' i'
  by_cases hk : k' = 9 ∧ i' = n
  · obtain ⟨rfl, rfl⟩ := hk
    rw [wup_self]
    simp_all [mC, cC, st]
  · rw [wup_ne hk]
    rcases (show k' = 0 ∨ k' = 1 ∨ k' = 2 ∨ k' = 3 ∨ k' = 4 ∨ k' = 5 ∨ k' = 6 ∨ k' = 7 ∨ k' = 8 ∨ k' = 9 ∨ 10 ≤ k' by omega) with rfl | rfl | rfl | rfl | rfl | rfl | rfl | rfl | rfl | rfl | h10
    · simp [mC, cC, st]
    · simp [mC, cC, st]
    · simp [mC, cC, st]
    · simp [mC, cC, st]
    · simp [mC, cC, st, show ¬ 40 + i' = 24 by omega]
    · simp [mC, cC, st]
    · simp [mC, cC, st]
    · simp [mC, cC, st]
    · simp [mC, cC, st]
    · have hi : i' ≠ n := fun z => hk ⟨rfl, z⟩
      simp [mC, cC, st, hi]
    · simp [mC, show ¬ k' < 10 by omega]
theorem up_rounds {n x : Nat} (h : 1 ≤ n ∧ n ≤ u 30 0) : wup (mC Z ta pl al u) 9 n (.inr (3, [.int (nI n), .int (nI (u 21 n)), .int (nI (u 22 n)), .ref (pl (u 23 n)), .int (nI (u 24 n)), .int (nI x), .int (nI (u 26 n)), .int (nI (u 27 n))])) = mC Z ta pl al (st u 25 n x) := by
  funext k' i'
  by_cases hk : k' = 9 ∧ i' = n
  · obtain ⟨rfl, rfl⟩ := hk
    rw [wup_self]
    simp_all [mC, cC, st]
  · rw [wup_ne hk]
    rcases (show k' = 0 ∨ k' = 1 ∨ k' = 2 ∨ k' = 3 ∨ k' = 4 ∨ k' = 5 ∨ k' = 6 ∨ k' = 7 ∨ k' = 8 ∨ k' = 9 ∨ 10 ≤ k' by omega) with rfl | rfl | rfl | rfl | rfl | rfl | rfl | rfl | rfl | rfl | h10
    · simp [mC, cC, st]
    · simp [mC, cC, st]
    · simp [mC, cC, st]
    · simp [mC, cC, st]
    · simp [mC, cC, st, show ¬ 40 + i' = 25 by omega]
    · simp [mC, cC, st]
    · simp [mC, cC, st]
    · simp [mC, cC, st]
    · simp [mC, cC, st]
    · have hi : i' ≠ n := fun z => hk ⟨rfl, z⟩
      simp [mC, cC, st, hi]
    · simp [mC, show ¬ k' < 10 by omega]
theorem up_outChute {n x : Nat} (h : 1 ≤ n ∧ n ≤ u 30 0) : wup (mC Z ta pl al u) 9 n (.inr (3, [.int (nI n), .int (nI (u 21 n)), .int (nI (u 22 n)), .ref (pl (u 23 n)), .int (nI (u 24 n)), .int (nI (u 25 n)), .int (nI x), .int (nI (u 27 n))])) = mC Z ta pl al (st u 26 n x) := by
  funext k' i'
  by_cases hk : k' = 9 ∧ i' = n
  · obtain ⟨rfl, rfl⟩ := hk
    rw [wup_self]
    simp_all [mC, cC, st]
  · rw [wup_ne hk]
    rcases (show k' = 0 ∨ k' = 1 ∨ k' = 2 ∨ k' = 3 ∨ k' = 4 ∨ k' = 5 ∨ k' = 6 ∨ k' = 7 ∨ k' = 8 ∨ k' = 9 ∨ 10 ≤ k' by omega) with rfl | rfl | rfl | rfl | rfl | rfl | rfl | rfl | rfl | rfl | h10
    · simp [mC, cC, st]
    · simp [mC, cC, st]
    · simp [mC, cC, st]
    · simp [mC, cC, st]
    · simp [mC, cC, st, show ¬ 40 + i' = 26 by omega]
    · simp [mC, cC, st]
    · simp [mC, cC, st]
    · simp [mC, cC, st]
    · simp [mC, cC, st]
    · have hi : i' ≠ n := fun z => hk ⟨rfl, z⟩
      simp [mC, cC, st, hi]
    · simp [mC, show ¬ k' < 10 by omega]
theorem up_outTime {n x : Nat} (h : 1 ≤ n ∧ n ≤ u 30 0) : wup (mC Z ta pl al u) 9 n (.inr (3, [.int (nI n), .int (nI (u 21 n)), .int (nI (u 22 n)), .ref (pl (u 23 n)), .int (nI (u 24 n)), .int (nI (u 25 n)), .int (nI (u 26 n)), .int (nI x)])) = mC Z ta pl al (st u 27 n x) := by
  funext k' i'
  by_cases hk : k' = 9 ∧ i' = n
  · obtain ⟨rfl, rfl⟩ := hk
    rw [wup_self]
    simp_all [mC, cC, st]
  · rw [wup_ne hk]
    rcases (show k' = 0 ∨ k' = 1 ∨ k' = 2 ∨ k' = 3 ∨ k' = 4 ∨ k' = 5 ∨ k' = 6 ∨ k' = 7 ∨ k' = 8 ∨ k' = 9 ∨ 10 ≤ k' by omega) with rfl | rfl | rfl | rfl | rfl | rfl | rfl | rfl | rfl | rfl | h10
    · simp [mC, cC, st]
    · simp [mC, cC, st]
    · simp [mC, cC, st]
    · simp [mC, cC, st]
    · simp [mC, cC, st, show ¬ 40 + i' = 27 by omega]
    · simp [mC, cC, st]
    · simp [mC, cC, st]
    · simp [mC, cC, st]
    · simp [mC, cC, st]
    · have hi : i' ≠ n := fun z => hk ⟨rfl, z⟩
      simp [mC, cC, st, hi]
    · simp [mC, show ¬ k' < 10 by omega]
theorem rI_up {g : Nat → Nat} {j x : Nat} : va_up (fun j => rI al (g j)) j (rI al x) = fun j' => rI al (if j' = j then x else g j') := by
  funext j'
  by_cases h : j' = j
  · simp [va_up, h]
  · simp [va_up, h]
theorem up_carriedBy {j x : Nat} : wup (mC Z ta pl al u) 1 0 (.inl (ta 0, u 0 0, .inr (.inr (.inr (.inr (va_up (fun j => rI al (u 8 j)) j (rI al x))))))) = mC Z ta pl al (st u 8 j x) := by
  funext k' i'
  by_cases hk : k' = 1 ∧ i' = 0
  · obtain ⟨rfl, rfl⟩ := hk
    rw [wup_self]
    simp only [mC, cC, rI_up]
    simp [st]
  · rw [wup_ne hk]
    rcases (show k' = 0 ∨ k' = 1 ∨ k' = 2 ∨ k' = 3 ∨ k' = 4 ∨ k' = 5 ∨ k' = 6 ∨ k' = 7 ∨ k' = 8 ∨ k' = 9 ∨ 10 ≤ k' by omega) with rfl | rfl | rfl | rfl | rfl | rfl | rfl | rfl | rfl | rfl | h10
    · simp [mC, cC, st]
    · have hi : i' ≠ 0 := fun z => hk ⟨rfl, z⟩
      simp [mC, cC, st, hi]
    · simp [mC, cC, st]
    · simp [mC, cC, st]
    · simp [mC, cC, st, show ¬ 40 + i' = 8 by omega]
    · simp [mC, cC, st]
    · simp [mC, cC, st]
    · simp [mC, cC, st]
    · simp [mC, cC, st]
    · simp [mC, cC, st]
    · simp [mC, show ¬ k' < 10 by omega]
theorem up_items {j x : Nat} : wup (mC Z ta pl al u) 7 0 (.inl (ta 0, 400, .inr (.inr (.inr (.inr (va_up (fun j => rI al (u 9 j)) j (rI al x))))))) = mC Z ta pl al (st u 9 j x) := by
  funext k' i'
  by_cases hk : k' = 7 ∧ i' = 0
  · obtain ⟨rfl, rfl⟩ := hk
    rw [wup_self]
    simp only [mC, cC, rI_up]
    simp [st]
  · rw [wup_ne hk]
    rcases (show k' = 0 ∨ k' = 1 ∨ k' = 2 ∨ k' = 3 ∨ k' = 4 ∨ k' = 5 ∨ k' = 6 ∨ k' = 7 ∨ k' = 8 ∨ k' = 9 ∨ 10 ≤ k' by omega) with rfl | rfl | rfl | rfl | rfl | rfl | rfl | rfl | rfl | rfl | h10
    · simp [mC, cC, st]
    · simp [mC, cC, st]
    · simp [mC, cC, st]
    · simp [mC, cC, st]
    · simp [mC, cC, st, show ¬ 40 + i' = 9 by omega]
    · simp [mC, cC, st]
    · simp [mC, cC, st]
    · have hi : i' ≠ 0 := fun z => hk ⟨rfl, z⟩
      simp [mC, cC, st, hi]
    · simp [mC, cC, st]
    · simp [mC, cC, st]
    · simp [mC, show ¬ k' < 10 by omega]
theorem up_gone {j x : Nat} : wup (mC Z ta pl al u) 8 0 (.inl (ta 0, 400, .inr (.inr (.inr (.inr (va_up (fun j => rI al (u 10 j)) j (rI al x))))))) = mC Z ta pl al (st u 10 j x) := by
  funext k' i'
  by_cases hk : k' = 8 ∧ i' = 0
  · obtain ⟨rfl, rfl⟩ := hk
    rw [wup_self]
    simp only [mC, cC, rI_up]
    simp [st]
  · rw [wup_ne hk]
    rcases (show k' = 0 ∨ k' = 1 ∨ k' = 2 ∨ k' = 3 ∨ k' = 4 ∨ k' = 5 ∨ k' = 6 ∨ k' = 7 ∨ k' = 8 ∨ k' = 9 ∨ 10 ≤ k' by omega) with rfl | rfl | rfl | rfl | rfl | rfl | rfl | rfl | rfl | rfl | h10
    · simp [mC, cC, st]
    · simp [mC, cC, st]
    · simp [mC, cC, st]
    · simp [mC, cC, st]
    · simp [mC, cC, st, show ¬ 40 + i' = 10 by omega]
    · simp [mC, cC, st]
    · simp [mC, cC, st]
    · simp [mC, cC, st]
    · have hi : i' ≠ 0 := fun z => hk ⟨rfl, z⟩
      simp [mC, cC, st, hi]
    · simp [mC, cC, st]
    · simp [mC, show ¬ k' < 10 by omega]
theorem up_row {n j x : Nat} (h : 1 ≤ n ∧ n ≤ 4) : wup (mC Z ta pl al u) 4 n (.inl (ta 0, 8, .inr (.inr (.inr (.inr (va_up (fun j => rI al (u (40 + n) j)) j (rI al x))))))) = mC Z ta pl al (st u (40 + n) j x) := by
  have h40 : ∀ a, a < 40 → (a = 40 + n ↔ False) := fun a ha => ⟨fun z => by omega, False.elim⟩
  funext k' i'
  by_cases hk : k' = 4 ∧ i' = n
  · obtain ⟨rfl, rfl⟩ := hk
    rw [wup_self]
    simp only [mC, cC, rI_up]
    simp [st, h]
  · rw [wup_ne hk]
    rcases (show k' = 0 ∨ k' = 1 ∨ k' = 2 ∨ k' = 3 ∨ k' = 4 ∨ k' = 5 ∨ k' = 6 ∨ k' = 7 ∨ k' = 8 ∨ k' = 9 ∨ 10 ≤ k' by omega) with rfl | rfl | rfl | rfl | rfl | rfl | rfl | rfl | rfl | rfl | h10
    · simp [mC, cC, st, h40]
    · simp [mC, cC, st, h40]
    · simp [mC, cC, st, h40]
    · simp [mC, cC, st, h40]
    · have hi : i' ≠ n := fun z => hk ⟨rfl, z⟩
      simp [mC, cC, st, hi]
    · simp [mC, cC, st, h40]
    · simp [mC, cC, st, h40]
    · simp [mC, cC, st, h40]
    · simp [mC, cC, st, h40]
    · simp [mC, cC, st, h40]
    · simp [mC, show ¬ k' < 10 by omega]
theorem um_thrown {x : Nat} : wup (mM Z ta al v) 10 0 (.inr (5, [.int (nI x), .int (nI (v 1 0)), .int (nI (v 2 0)), .ref (al 11 0), .ref (al 12 0), .int (nI (v 3 0)), .int (nI (v 4 0)), .int (nI (v 5 0)), .ref (al 13 0), .ref (al 14 0), .ref (al 15 0), .ref (al 16 0), .ref (al 17 0), .ref (al 18 0), .ref (al 19 0), .ref (al 20 0), .ref (al 21 0), .int (nI (v 6 0)), .ref (al 22 0), .ref (al 23 0), .ref (al 24 0), .ref (al 25 0)])) = mM Z ta al (st v 0 0 x) := by
  funext k' i'
  by_cases hk : k' = 10 ∧ i' = 0
  · obtain ⟨rfl, rfl⟩ := hk
    rw [wup_self]
    simp [mM, cM, st]
  · rw [wup_ne hk]
    rcases (show k' = 10 ∨ k' = 11 ∨ k' = 12 ∨ k' = 13 ∨ k' = 14 ∨ k' = 15 ∨ k' = 16 ∨ k' = 17 ∨ k' = 18 ∨ k' = 19 ∨ k' = 20 ∨ k' = 21 ∨ k' = 22 ∨ k' = 23 ∨ k' = 24 ∨ k' = 25 ∨ ¬ (10 ≤ k' ∧ k' < 26) by omega) with rfl | rfl | rfl | rfl | rfl | rfl | rfl | rfl | rfl | rfl | rfl | rfl | rfl | rfl | rfl | rfl | h10
    · have hi : i' ≠ 0 := fun z => hk ⟨rfl, z⟩
      simp [mM, cM, hi]
    · simp [mM, cM, st]
    · simp [mM, cM, st]
    · simp [mM, cM, st]
    · simp [mM, cM, st]
    · simp [mM, cM, st]
    · simp [mM, cM, st]
    · simp [mM, cM, st]
    · simp [mM, cM, st]
    · simp [mM, cM, st]
    · simp [mM, cM, st]
    · simp [mM, cM, st]
    · simp [mM, cM, st]
    · simp [mM, cM, st]
    · simp [mM, cM, st]
    · simp [mM, cM, st]
    · simp [mM, h10]
theorem um_speed {x : Nat} : wup (mM Z ta al v) 10 0 (.inr (5, [.int (nI (v 0 0)), .int (nI (v 1 0)), .int (nI (v 2 0)), .ref (al 11 0), .ref (al 12 0), .int (nI x), .int (nI (v 4 0)), .int (nI (v 5 0)), .ref (al 13 0), .ref (al 14 0), .ref (al 15 0), .ref (al 16 0), .ref (al 17 0), .ref (al 18 0), .ref (al 19 0), .ref (al 20 0), .ref (al 21 0), .int (nI (v 6 0)), .ref (al 22 0), .ref (al 23 0), .ref (al 24 0), .ref (al 25 0)])) = mM Z ta al (st v 3 0 x) := by
  funext k' i'
  by_cases hk : k' = 10 ∧ i' = 0
  · obtain ⟨rfl, rfl⟩ := hk
    rw [wup_self]
    simp [mM, cM, st]
  · rw [wup_ne hk]
    rcases (show k' = 10 ∨ k' = 11 ∨ k' = 12 ∨ k' = 13 ∨ k' = 14 ∨ k' = 15 ∨ k' = 16 ∨ k' = 17 ∨ k' = 18 ∨ k' = 19 ∨ k' = 20 ∨ k' = 21 ∨ k' = 22 ∨ k' = 23 ∨ k' = 24 ∨ k' = 25 ∨ ¬ (10 ≤ k' ∧ k' < 26) by omega) with rfl | rfl | rfl | rfl | rfl | rfl | rfl | rfl | rfl | rfl | rfl | rfl | rfl | rfl | rfl | rfl | h10
    · have hi : i' ≠ 0 := fun z => hk ⟨rfl, z⟩
      simp [mM, cM, hi]
    · simp [mM, cM, st]
    · simp [mM, cM, st]
    · simp [mM, cM, st]
    · simp [mM, cM, st]
    · simp [mM, cM, st]
    · simp [mM, cM, st]
    · simp [mM, cM, st]
    · simp [mM, cM, st]
    · simp [mM, cM, st]
    · simp [mM, cM, st]
    · simp [mM, cM, st]
    · simp [mM, cM, st]
    · simp [mM, cM, st]
    · simp [mM, cM, st]
    · simp [mM, cM, st]
    · simp [mM, h10]
theorem um_time {x : Nat} : wup (mM Z ta al v) 10 0 (.inr (5, [.int (nI (v 0 0)), .int (nI (v 1 0)), .int (nI (v 2 0)), .ref (al 11 0), .ref (al 12 0), .int (nI (v 3 0)), .int (nI x), .int (nI (v 5 0)), .ref (al 13 0), .ref (al 14 0), .ref (al 15 0), .ref (al 16 0), .ref (al 17 0), .ref (al 18 0), .ref (al 19 0), .ref (al 20 0), .ref (al 21 0), .int (nI (v 6 0)), .ref (al 22 0), .ref (al 23 0), .ref (al 24 0), .ref (al 25 0)])) = mM Z ta al (st v 4 0 x) := by
  funext k' i'
  by_cases hk : k' = 10 ∧ i' = 0
  · obtain ⟨rfl, rfl⟩ := hk
    rw [wup_self]
    simp [mM, cM, st]
  · rw [wup_ne hk]
    rcases (show k' = 10 ∨ k' = 11 ∨ k' = 12 ∨ k' = 13 ∨ k' = 14 ∨ k' = 15 ∨ k' = 16 ∨ k' = 17 ∨ k' = 18 ∨ k' = 19 ∨ k' = 20 ∨ k' = 21 ∨ k' = 22 ∨ k' = 23 ∨ k' = 24 ∨ k' = 25 ∨ ¬ (10 ≤ k' ∧ k' < 26) by omega) with rfl | rfl | rfl | rfl | rfl | rfl | rfl | rfl | rfl | rfl | rfl | rfl | rfl | rfl | rfl | rfl | h10
    · have hi : i' ≠ 0 := fun z => hk ⟨rfl, z⟩
      simp [mM, cM, hi]
    · simp [mM, cM, st]
    · simp [mM, cM, st]
    · simp [mM, cM, st]
    · simp [mM, cM, st]
    · simp [mM, cM, st]
    · simp [mM, cM, st]
    · simp [mM, cM, st]
    · simp [mM, cM, st]
    · simp [mM, cM, st]
    · simp [mM, cM, st]
    · simp [mM, cM, st]
    · simp [mM, cM, st]
    · simp [mM, cM, st]
    · simp [mM, cM, st]
    · simp [mM, cM, st]
    · simp [mM, h10]
theorem um_items {x : Nat} : wup (mM Z ta al v) 10 0 (.inr (5, [.int (nI (v 0 0)), .int (nI (v 1 0)), .int (nI (v 2 0)), .ref (al 11 0), .ref (al 12 0), .int (nI (v 3 0)), .int (nI (v 4 0)), .int (nI x), .ref (al 13 0), .ref (al 14 0), .ref (al 15 0), .ref (al 16 0), .ref (al 17 0), .ref (al 18 0), .ref (al 19 0), .ref (al 20 0), .ref (al 21 0), .int (nI (v 6 0)), .ref (al 22 0), .ref (al 23 0), .ref (al 24 0), .ref (al 25 0)])) = mM Z ta al (st v 5 0 x) := by
  funext k' i'
  by_cases hk : k' = 10 ∧ i' = 0
  · obtain ⟨rfl, rfl⟩ := hk
    rw [wup_self]
    simp [mM, cM, st]
  · rw [wup_ne hk]
    rcases (show k' = 10 ∨ k' = 11 ∨ k' = 12 ∨ k' = 13 ∨ k' = 14 ∨ k' = 15 ∨ k' = 16 ∨ k' = 17 ∨ k' = 18 ∨ k' = 19 ∨ k' = 20 ∨ k' = 21 ∨ k' = 22 ∨ k' = 23 ∨ k' = 24 ∨ k' = 25 ∨ ¬ (10 ≤ k' ∧ k' < 26) by omega) with rfl | rfl | rfl | rfl | rfl | rfl | rfl | rfl | rfl | rfl | rfl | rfl | rfl | rfl | rfl | rfl | h10
    · have hi : i' ≠ 0 := fun z => hk ⟨rfl, z⟩
      simp [mM, cM, hi]
    · simp [mM, cM, st]
    · simp [mM, cM, st]
    · simp [mM, cM, st]
    · simp [mM, cM, st]
    · simp [mM, cM, st]
    · simp [mM, cM, st]
    · simp [mM, cM, st]
    · simp [mM, cM, st]
    · simp [mM, cM, st]
    · simp [mM, cM, st]
    · simp [mM, cM, st]
    · simp [mM, cM, st]
    · simp [mM, cM, st]
    · simp [mM, cM, st]
    · simp [mM, cM, st]
    · simp [mM, h10]
theorem um_gone {x : Nat} : wup (mM Z ta al v) 10 0 (.inr (5, [.int (nI (v 0 0)), .int (nI (v 1 0)), .int (nI (v 2 0)), .ref (al 11 0), .ref (al 12 0), .int (nI (v 3 0)), .int (nI (v 4 0)), .int (nI (v 5 0)), .ref (al 13 0), .ref (al 14 0), .ref (al 15 0), .ref (al 16 0), .ref (al 17 0), .ref (al 18 0), .ref (al 19 0), .ref (al 20 0), .ref (al 21 0), .int (nI x), .ref (al 22 0), .ref (al 23 0), .ref (al 24 0), .ref (al 25 0)])) = mM Z ta al (st v 6 0 x) := by
  funext k' i'
  by_cases hk : k' = 10 ∧ i' = 0
  · obtain ⟨rfl, rfl⟩ := hk
    rw [wup_self]
    simp [mM, cM, st]
  · rw [wup_ne hk]
    rcases (show k' = 10 ∨ k' = 11 ∨ k' = 12 ∨ k' = 13 ∨ k' = 14 ∨ k' = 15 ∨ k' = 16 ∨ k' = 17 ∨ k' = 18 ∨ k' = 19 ∨ k' = 20 ∨ k' = 21 ∨ k' = 22 ∨ k' = 23 ∨ k' = 24 ∨ k' = 25 ∨ ¬ (10 ≤ k' ∧ k' < 26) by omega) with rfl | rfl | rfl | rfl | rfl | rfl | rfl | rfl | rfl | rfl | rfl | rfl | rfl | rfl | rfl | rfl | h10
    · have hi : i' ≠ 0 := fun z => hk ⟨rfl, z⟩
      simp [mM, cM, hi]
    · simp [mM, cM, st]
    · simp [mM, cM, st]
    · simp [mM, cM, st]
    · simp [mM, cM, st]
    · simp [mM, cM, st]
    · simp [mM, cM, st]
    · simp [mM, cM, st]
    · simp [mM, cM, st]
    · simp [mM, cM, st]
    · simp [mM, cM, st]
    · simp [mM, cM, st]
    · simp [mM, cM, st]
    · simp [mM, cM, st]
    · simp [mM, cM, st]
    · simp [mM, cM, st]
    · simp [mM, h10]
theorem nI_up {g : Nat → Nat} {j x : Nat} : upd (fun j => nI (g j)) j (nI x) = fun j' => nI (if j' = j then x else g j') := by
  funext j'
  by_cases h : j' = j
  · simp [upd, h]
  · simp [upd, h]
theorem lN_up {g : Nat → Nat} {j x : Nat} : vp_updL (fun j => lN (g j)) j (lN x) = fun j' => lN (if j' = j then x else g j') := by
  funext j'
  by_cases h : j' = j
  · simp [vp_updL, h]
  · simp [vp_updL, h]
theorem um_a11 {j x : Nat} : wup (mM Z ta al v) 11 0 (.inl (ta 3, 200, .inl (upd (fun j => nI (v 11 j)) j (nI x)))) = mM Z ta al (st v 11 j x) := by
  funext k' i'
  by_cases hk : k' = 11 ∧ i' = 0
  · obtain ⟨rfl, rfl⟩ := hk
    rw [wup_self]
    simp only [mM, cM, nI_up]
    simp [st]
  · rw [wup_ne hk]
    rcases (show k' = 10 ∨ k' = 11 ∨ k' = 12 ∨ k' = 13 ∨ k' = 14 ∨ k' = 15 ∨ k' = 16 ∨ k' = 17 ∨ k' = 18 ∨ k' = 19 ∨ k' = 20 ∨ k' = 21 ∨ k' = 22 ∨ k' = 23 ∨ k' = 24 ∨ k' = 25 ∨ ¬ (10 ≤ k' ∧ k' < 26) by omega) with rfl | rfl | rfl | rfl | rfl | rfl | rfl | rfl | rfl | rfl | rfl | rfl | rfl | rfl | rfl | rfl | h10
    · simp [mM, cM, st]
    · have hi : i' ≠ 0 := fun z => hk ⟨rfl, z⟩
      simp [mM, cM, hi]
    · simp [mM, cM, st]
    · simp [mM, cM, st]
    · simp [mM, cM, st]
    · simp [mM, cM, st]
    · simp [mM, cM, st]
    · simp [mM, cM, st]
    · simp [mM, cM, st]
    · simp [mM, cM, st]
    · simp [mM, cM, st]
    · simp [mM, cM, st]
    · simp [mM, cM, st]
    · simp [mM, cM, st]
    · simp [mM, cM, st]
    · simp [mM, cM, st]
    · simp [mM, h10]
theorem um_a12 {j x : Nat} : wup (mM Z ta al v) 12 0 (.inl (ta 3, 200, .inl (upd (fun j => nI (v 12 j)) j (nI x)))) = mM Z ta al (st v 12 j x) := by
  funext k' i'
  by_cases hk : k' = 12 ∧ i' = 0
  · obtain ⟨rfl, rfl⟩ := hk
    rw [wup_self]
    simp only [mM, cM, nI_up]
    simp [st]
  · rw [wup_ne hk]
    rcases (show k' = 10 ∨ k' = 11 ∨ k' = 12 ∨ k' = 13 ∨ k' = 14 ∨ k' = 15 ∨ k' = 16 ∨ k' = 17 ∨ k' = 18 ∨ k' = 19 ∨ k' = 20 ∨ k' = 21 ∨ k' = 22 ∨ k' = 23 ∨ k' = 24 ∨ k' = 25 ∨ ¬ (10 ≤ k' ∧ k' < 26) by omega) with rfl | rfl | rfl | rfl | rfl | rfl | rfl | rfl | rfl | rfl | rfl | rfl | rfl | rfl | rfl | rfl | h10
    · simp [mM, cM, st]
    · simp [mM, cM, st]
    · have hi : i' ≠ 0 := fun z => hk ⟨rfl, z⟩
      simp [mM, cM, hi]
    · simp [mM, cM, st]
    · simp [mM, cM, st]
    · simp [mM, cM, st]
    · simp [mM, cM, st]
    · simp [mM, cM, st]
    · simp [mM, cM, st]
    · simp [mM, cM, st]
    · simp [mM, cM, st]
    · simp [mM, cM, st]
    · simp [mM, cM, st]
    · simp [mM, cM, st]
    · simp [mM, cM, st]
    · simp [mM, cM, st]
    · simp [mM, h10]
theorem um_a13 {j x : Nat} : wup (mM Z ta al v) 13 0 (.inl (ta 3, 401, .inl (upd (fun j => nI (v 13 j)) j (nI x)))) = mM Z ta al (st v 13 j x) := by
  funext k' i'
  by_cases hk : k' = 13 ∧ i' = 0
  · obtain ⟨rfl, rfl⟩ := hk
    rw [wup_self]
    simp only [mM, cM, nI_up]
    simp [st]
  · rw [wup_ne hk]
    rcases (show k' = 10 ∨ k' = 11 ∨ k' = 12 ∨ k' = 13 ∨ k' = 14 ∨ k' = 15 ∨ k' = 16 ∨ k' = 17 ∨ k' = 18 ∨ k' = 19 ∨ k' = 20 ∨ k' = 21 ∨ k' = 22 ∨ k' = 23 ∨ k' = 24 ∨ k' = 25 ∨ ¬ (10 ≤ k' ∧ k' < 26) by omega) with rfl | rfl | rfl | rfl | rfl | rfl | rfl | rfl | rfl | rfl | rfl | rfl | rfl | rfl | rfl | rfl | h10
    · simp [mM, cM, st]
    · simp [mM, cM, st]
    · simp [mM, cM, st]
    · have hi : i' ≠ 0 := fun z => hk ⟨rfl, z⟩
      simp [mM, cM, hi]
    · simp [mM, cM, st]
    · simp [mM, cM, st]
    · simp [mM, cM, st]
    · simp [mM, cM, st]
    · simp [mM, cM, st]
    · simp [mM, cM, st]
    · simp [mM, cM, st]
    · simp [mM, cM, st]
    · simp [mM, cM, st]
    · simp [mM, cM, st]
    · simp [mM, cM, st]
    · simp [mM, cM, st]
    · simp [mM, h10]
theorem um_a14 {j x : Nat} : wup (mM Z ta al v) 14 0 (.inl (ta 3, 401, .inl (upd (fun j => nI (v 14 j)) j (nI x)))) = mM Z ta al (st v 14 j x) := by
  funext k' i'
  by_cases hk : k' = 14 ∧ i' = 0
  · obtain ⟨rfl, rfl⟩ := hk
    rw [wup_self]
    simp only [mM, cM, nI_up]
    simp [st]
  · rw [wup_ne hk]
    rcases (show k' = 10 ∨ k' = 11 ∨ k' = 12 ∨ k' = 13 ∨ k' = 14 ∨ k' = 15 ∨ k' = 16 ∨ k' = 17 ∨ k' = 18 ∨ k' = 19 ∨ k' = 20 ∨ k' = 21 ∨ k' = 22 ∨ k' = 23 ∨ k' = 24 ∨ k' = 25 ∨ ¬ (10 ≤ k' ∧ k' < 26) by omega) with rfl | rfl | rfl | rfl | rfl | rfl | rfl | rfl | rfl | rfl | rfl | rfl | rfl | rfl | rfl | rfl | h10
    · simp [mM, cM, st]
    · simp [mM, cM, st]
    · simp [mM, cM, st]
    · simp [mM, cM, st]
    · have hi : i' ≠ 0 := fun z => hk ⟨rfl, z⟩
      simp [mM, cM, hi]
    · simp [mM, cM, st]
    · simp [mM, cM, st]
    · simp [mM, cM, st]
    · simp [mM, cM, st]
    · simp [mM, cM, st]
    · simp [mM, cM, st]
    · simp [mM, cM, st]
    · simp [mM, cM, st]
    · simp [mM, cM, st]
    · simp [mM, cM, st]
    · simp [mM, cM, st]
    · simp [mM, h10]
theorem um_a15 {j x : Nat} : wup (mM Z ta al v) 15 0 (.inl (ta 3, 401, .inl (upd (fun j => nI (v 15 j)) j (nI x)))) = mM Z ta al (st v 15 j x) := by
  funext k' i'
  by_cases hk : k' = 15 ∧ i' = 0
  · obtain ⟨rfl, rfl⟩ := hk
    rw [wup_self]
    simp only [mM, cM, nI_up]
    simp [st]
  · rw [wup_ne hk]
    rcases (show k' = 10 ∨ k' = 11 ∨ k' = 12 ∨ k' = 13 ∨ k' = 14 ∨ k' = 15 ∨ k' = 16 ∨ k' = 17 ∨ k' = 18 ∨ k' = 19 ∨ k' = 20 ∨ k' = 21 ∨ k' = 22 ∨ k' = 23 ∨ k' = 24 ∨ k' = 25 ∨ ¬ (10 ≤ k' ∧ k' < 26) by omega) with rfl | rfl | rfl | rfl | rfl | rfl | rfl | rfl | rfl | rfl | rfl | rfl | rfl | rfl | rfl | rfl | h10
    · simp [mM, cM, st]
    · simp [mM, cM, st]
    · simp [mM, cM, st]
    · simp [mM, cM, st]
    · simp [mM, cM, st]
    · have hi : i' ≠ 0 := fun z => hk ⟨rfl, z⟩
      simp [mM, cM, hi]
    · simp [mM, cM, st]
    · simp [mM, cM, st]
    · simp [mM, cM, st]
    · simp [mM, cM, st]
    · simp [mM, cM, st]
    · simp [mM, cM, st]
    · simp [mM, cM, st]
    · simp [mM, cM, st]
    · simp [mM, cM, st]
    · simp [mM, cM, st]
    · simp [mM, h10]
theorem um_a16 {j x : Nat} : wup (mM Z ta al v) 16 0 (.inl (ta 3, 401, .inl (upd (fun j => nI (v 16 j)) j (nI x)))) = mM Z ta al (st v 16 j x) := by
  funext k' i'
  by_cases hk : k' = 16 ∧ i' = 0
  · obtain ⟨rfl, rfl⟩ := hk
    rw [wup_self]
    simp only [mM, cM, nI_up]
    simp [st]
  · rw [wup_ne hk]
    rcases (show k' = 10 ∨ k' = 11 ∨ k' = 12 ∨ k' = 13 ∨ k' = 14 ∨ k' = 15 ∨ k' = 16 ∨ k' = 17 ∨ k' = 18 ∨ k' = 19 ∨ k' = 20 ∨ k' = 21 ∨ k' = 22 ∨ k' = 23 ∨ k' = 24 ∨ k' = 25 ∨ ¬ (10 ≤ k' ∧ k' < 26) by omega) with rfl | rfl | rfl | rfl | rfl | rfl | rfl | rfl | rfl | rfl | rfl | rfl | rfl | rfl | rfl | rfl | h10
    · simp [mM, cM, st]
    · simp [mM, cM, st]
    · simp [mM, cM, st]
    · simp [mM, cM, st]
    · simp [mM, cM, st]
    · simp [mM, cM, st]
    · have hi : i' ≠ 0 := fun z => hk ⟨rfl, z⟩
      simp [mM, cM, hi]
    · simp [mM, cM, st]
    · simp [mM, cM, st]
    · simp [mM, cM, st]
    · simp [mM, cM, st]
    · simp [mM, cM, st]
    · simp [mM, cM, st]
    · simp [mM, cM, st]
    · simp [mM, cM, st]
    · simp [mM, cM, st]
    · simp [mM, h10]
theorem um_a17 {j x : Nat} : wup (mM Z ta al v) 17 0 (.inl (ta 3, 401, .inl (upd (fun j => nI (v 17 j)) j (nI x)))) = mM Z ta al (st v 17 j x) := by
  funext k' i'
  by_cases hk : k' = 17 ∧ i' = 0
  · obtain ⟨rfl, rfl⟩ := hk
    rw [wup_self]
    simp only [mM, cM, nI_up]
    simp [st]
  · rw [wup_ne hk]
    rcases (show k' = 10 ∨ k' = 11 ∨ k' = 12 ∨ k' = 13 ∨ k' = 14 ∨ k' = 15 ∨ k' = 16 ∨ k' = 17 ∨ k' = 18 ∨ k' = 19 ∨ k' = 20 ∨ k' = 21 ∨ k' = 22 ∨ k' = 23 ∨ k' = 24 ∨ k' = 25 ∨ ¬ (10 ≤ k' ∧ k' < 26) by omega) with rfl | rfl | rfl | rfl | rfl | rfl | rfl | rfl | rfl | rfl | rfl | rfl | rfl | rfl | rfl | rfl | h10
    · simp [mM, cM, st]
    · simp [mM, cM, st]
    · simp [mM, cM, st]
    · simp [mM, cM, st]
    · simp [mM, cM, st]
    · simp [mM, cM, st]
    · simp [mM, cM, st]
    · have hi : i' ≠ 0 := fun z => hk ⟨rfl, z⟩
      simp [mM, cM, hi]
    · simp [mM, cM, st]
    · simp [mM, cM, st]
    · simp [mM, cM, st]
    · simp [mM, cM, st]
    · simp [mM, cM, st]
    · simp [mM, cM, st]
    · simp [mM, cM, st]
    · simp [mM, cM, st]
    · simp [mM, h10]
theorem um_a18 {j x : Nat} : wup (mM Z ta al v) 18 0 (.inl (ta 3, 401, .inl (upd (fun j => nI (v 18 j)) j (nI x)))) = mM Z ta al (st v 18 j x) := by
  funext k' i'
  by_cases hk : k' = 18 ∧ i' = 0
  · obtain ⟨rfl, rfl⟩ := hk
    rw [wup_self]
    simp only [mM, cM, nI_up]
    simp [st]
  · rw [wup_ne hk]
    rcases (show k' = 10 ∨ k' = 11 ∨ k' = 12 ∨ k' = 13 ∨ k' = 14 ∨ k' = 15 ∨ k' = 16 ∨ k' = 17 ∨ k' = 18 ∨ k' = 19 ∨ k' = 20 ∨ k' = 21 ∨ k' = 22 ∨ k' = 23 ∨ k' = 24 ∨ k' = 25 ∨ ¬ (10 ≤ k' ∧ k' < 26) by omega) with rfl | rfl | rfl | rfl | rfl | rfl | rfl | rfl | rfl | rfl | rfl | rfl | rfl | rfl | rfl | rfl | h10
    · simp [mM, cM, st]
    · simp [mM, cM, st]
    · simp [mM, cM, st]
    · simp [mM, cM, st]
    · simp [mM, cM, st]
    · simp [mM, cM, st]
    · simp [mM, cM, st]
    · simp [mM, cM, st]
    · have hi : i' ≠ 0 := fun z => hk ⟨rfl, z⟩
      simp [mM, cM, hi]
    · simp [mM, cM, st]
    · simp [mM, cM, st]
    · simp [mM, cM, st]
    · simp [mM, cM, st]
    · simp [mM, cM, st]
    · simp [mM, cM, st]
    · simp [mM, cM, st]
    · simp [mM, h10]
theorem um_a19 {j x : Nat} : wup (mM Z ta al v) 19 0 (.inl (ta 4, 4, .inr (.inl (vp_updL (fun j => lN (v 19 j)) j (lN x))))) = mM Z ta al (st v 19 j x) := by
  funext k' i'
  by_cases hk : k' = 19 ∧ i' = 0
  · obtain ⟨rfl, rfl⟩ := hk
    rw [wup_self]
    simp only [mM, cM, lN_up]
    simp [st]
  · rw [wup_ne hk]
    rcases (show k' = 10 ∨ k' = 11 ∨ k' = 12 ∨ k' = 13 ∨ k' = 14 ∨ k' = 15 ∨ k' = 16 ∨ k' = 17 ∨ k' = 18 ∨ k' = 19 ∨ k' = 20 ∨ k' = 21 ∨ k' = 22 ∨ k' = 23 ∨ k' = 24 ∨ k' = 25 ∨ ¬ (10 ≤ k' ∧ k' < 26) by omega) with rfl | rfl | rfl | rfl | rfl | rfl | rfl | rfl | rfl | rfl | rfl | rfl | rfl | rfl | rfl | rfl | h10
    · simp [mM, cM, st]
    · simp [mM, cM, st]
    · simp [mM, cM, st]
    · simp [mM, cM, st]
    · simp [mM, cM, st]
    · simp [mM, cM, st]
    · simp [mM, cM, st]
    · simp [mM, cM, st]
    · simp [mM, cM, st]
    · have hi : i' ≠ 0 := fun z => hk ⟨rfl, z⟩
      simp [mM, cM, hi]
    · simp [mM, cM, st]
    · simp [mM, cM, st]
    · simp [mM, cM, st]
    · simp [mM, cM, st]
    · simp [mM, cM, st]
    · simp [mM, cM, st]
    · simp [mM, h10]
theorem um_a20 {j x : Nat} : wup (mM Z ta al v) 20 0 (.inl (ta 3, 16, .inl (upd (fun j => nI (v 20 j)) j (nI x)))) = mM Z ta al (st v 20 j x) := by
  funext k' i'
  by_cases hk : k' = 20 ∧ i' = 0
  · obtain ⟨rfl, rfl⟩ := hk
    rw [wup_self]
    simp only [mM, cM, nI_up]
    simp [st]
  · rw [wup_ne hk]
    rcases (show k' = 10 ∨ k' = 11 ∨ k' = 12 ∨ k' = 13 ∨ k' = 14 ∨ k' = 15 ∨ k' = 16 ∨ k' = 17 ∨ k' = 18 ∨ k' = 19 ∨ k' = 20 ∨ k' = 21 ∨ k' = 22 ∨ k' = 23 ∨ k' = 24 ∨ k' = 25 ∨ ¬ (10 ≤ k' ∧ k' < 26) by omega) with rfl | rfl | rfl | rfl | rfl | rfl | rfl | rfl | rfl | rfl | rfl | rfl | rfl | rfl | rfl | rfl | h10
    · simp [mM, cM, st]
    · simp [mM, cM, st]
    · simp [mM, cM, st]
    · simp [mM, cM, st]
    · simp [mM, cM, st]
    · simp [mM, cM, st]
    · simp [mM, cM, st]
    · simp [mM, cM, st]
    · simp [mM, cM, st]
    · simp [mM, cM, st]
    · have hi : i' ≠ 0 := fun z => hk ⟨rfl, z⟩
      simp [mM, cM, hi]
    · simp [mM, cM, st]
    · simp [mM, cM, st]
    · simp [mM, cM, st]
    · simp [mM, cM, st]
    · simp [mM, cM, st]
    · simp [mM, h10]
theorem um_a21 {j x : Nat} : wup (mM Z ta al v) 21 0 (.inl (ta 5, 16, .inl (upd (fun j => nI (v 21 j)) j (nI x)))) = mM Z ta al (st v 21 j x) := by
  funext k' i'
  by_cases hk : k' = 21 ∧ i' = 0
  · obtain ⟨rfl, rfl⟩ := hk
    rw [wup_self]
    simp only [mM, cM, nI_up]
    simp [st]
  · rw [wup_ne hk]
    rcases (show k' = 10 ∨ k' = 11 ∨ k' = 12 ∨ k' = 13 ∨ k' = 14 ∨ k' = 15 ∨ k' = 16 ∨ k' = 17 ∨ k' = 18 ∨ k' = 19 ∨ k' = 20 ∨ k' = 21 ∨ k' = 22 ∨ k' = 23 ∨ k' = 24 ∨ k' = 25 ∨ ¬ (10 ≤ k' ∧ k' < 26) by omega) with rfl | rfl | rfl | rfl | rfl | rfl | rfl | rfl | rfl | rfl | rfl | rfl | rfl | rfl | rfl | rfl | h10
    · simp [mM, cM, st]
    · simp [mM, cM, st]
    · simp [mM, cM, st]
    · simp [mM, cM, st]
    · simp [mM, cM, st]
    · simp [mM, cM, st]
    · simp [mM, cM, st]
    · simp [mM, cM, st]
    · simp [mM, cM, st]
    · simp [mM, cM, st]
    · simp [mM, cM, st]
    · have hi : i' ≠ 0 := fun z => hk ⟨rfl, z⟩
      simp [mM, cM, hi]
    · simp [mM, cM, st]
    · simp [mM, cM, st]
    · simp [mM, cM, st]
    · simp [mM, cM, st]
    · simp [mM, h10]
theorem um_a22 {j x : Nat} : wup (mM Z ta al v) 22 0 (.inl (ta 3, 400, .inl (upd (fun j => nI (v 22 j)) j (nI x)))) = mM Z ta al (st v 22 j x) := by
  funext k' i'
  by_cases hk : k' = 22 ∧ i' = 0
  · obtain ⟨rfl, rfl⟩ := hk
    rw [wup_self]
    simp only [mM, cM, nI_up]
    simp [st]
  · rw [wup_ne hk]
    rcases (show k' = 10 ∨ k' = 11 ∨ k' = 12 ∨ k' = 13 ∨ k' = 14 ∨ k' = 15 ∨ k' = 16 ∨ k' = 17 ∨ k' = 18 ∨ k' = 19 ∨ k' = 20 ∨ k' = 21 ∨ k' = 22 ∨ k' = 23 ∨ k' = 24 ∨ k' = 25 ∨ ¬ (10 ≤ k' ∧ k' < 26) by omega) with rfl | rfl | rfl | rfl | rfl | rfl | rfl | rfl | rfl | rfl | rfl | rfl | rfl | rfl | rfl | rfl | h10
    · simp [mM, cM, st]
    · simp [mM, cM, st]
    · simp [mM, cM, st]
    · simp [mM, cM, st]
    · simp [mM, cM, st]
    · simp [mM, cM, st]
    · simp [mM, cM, st]
    · simp [mM, cM, st]
    · simp [mM, cM, st]
    · simp [mM, cM, st]
    · simp [mM, cM, st]
    · simp [mM, cM, st]
    · have hi : i' ≠ 0 := fun z => hk ⟨rfl, z⟩
      simp [mM, cM, hi]
    · simp [mM, cM, st]
    · simp [mM, cM, st]
    · simp [mM, cM, st]
    · simp [mM, h10]
theorem um_a23 {j x : Nat} : wup (mM Z ta al v) 23 0 (.inl (ta 3, 400, .inl (upd (fun j => nI (v 23 j)) j (nI x)))) = mM Z ta al (st v 23 j x) := by
  funext k' i'
  by_cases hk : k' = 23 ∧ i' = 0
  · obtain ⟨rfl, rfl⟩ := hk
    rw [wup_self]
    simp only [mM, cM, nI_up]
    simp [st]
  · rw [wup_ne hk]
    rcases (show k' = 10 ∨ k' = 11 ∨ k' = 12 ∨ k' = 13 ∨ k' = 14 ∨ k' = 15 ∨ k' = 16 ∨ k' = 17 ∨ k' = 18 ∨ k' = 19 ∨ k' = 20 ∨ k' = 21 ∨ k' = 22 ∨ k' = 23 ∨ k' = 24 ∨ k' = 25 ∨ ¬ (10 ≤ k' ∧ k' < 26) by omega) with rfl | rfl | rfl | rfl | rfl | rfl | rfl | rfl | rfl | rfl | rfl | rfl | rfl | rfl | rfl | rfl | h10
    · simp [mM, cM, st]
    · simp [mM, cM, st]
    · simp [mM, cM, st]
    · simp [mM, cM, st]
    · simp [mM, cM, st]
    · simp [mM, cM, st]
    · simp [mM, cM, st]
    · simp [mM, cM, st]
    · simp [mM, cM, st]
    · simp [mM, cM, st]
    · simp [mM, cM, st]
    · simp [mM, cM, st]
    · simp [mM, cM, st]
    · have hi : i' ≠ 0 := fun z => hk ⟨rfl, z⟩
      simp [mM, cM, hi]
    · simp [mM, cM, st]
    · simp [mM, cM, st]
    · simp [mM, h10]
theorem um_a24 {j x : Nat} : wup (mM Z ta al v) 24 0 (.inl (ta 3, 400, .inl (upd (fun j => nI (v 24 j)) j (nI x)))) = mM Z ta al (st v 24 j x) := by
  funext k' i'
  by_cases hk : k' = 24 ∧ i' = 0
  · obtain ⟨rfl, rfl⟩ := hk
    rw [wup_self]
    simp only [mM, cM, nI_up]
    simp [st]
  · rw [wup_ne hk]
    rcases (show k' = 10 ∨ k' = 11 ∨ k' = 12 ∨ k' = 13 ∨ k' = 14 ∨ k' = 15 ∨ k' = 16 ∨ k' = 17 ∨ k' = 18 ∨ k' = 19 ∨ k' = 20 ∨ k' = 21 ∨ k' = 22 ∨ k' = 23 ∨ k' = 24 ∨ k' = 25 ∨ ¬ (10 ≤ k' ∧ k' < 26) by omega) with rfl | rfl | rfl | rfl | rfl | rfl | rfl | rfl | rfl | rfl | rfl | rfl | rfl | rfl | rfl | rfl | h10
    · simp [mM, cM, st]
    · simp [mM, cM, st]
    · simp [mM, cM, st]
    · simp [mM, cM, st]
    · simp [mM, cM, st]
    · simp [mM, cM, st]
    · simp [mM, cM, st]
    · simp [mM, cM, st]
    · simp [mM, cM, st]
    · simp [mM, cM, st]
    · simp [mM, cM, st]
    · simp [mM, cM, st]
    · simp [mM, cM, st]
    · simp [mM, cM, st]
    · have hi : i' ≠ 0 := fun z => hk ⟨rfl, z⟩
      simp [mM, cM, hi]
    · simp [mM, cM, st]
    · simp [mM, h10]
theorem um_a25 {j x : Nat} : wup (mM Z ta al v) 25 0 (.inl (ta 5, 4, .inl (upd (fun j => nI (v 25 j)) j (nI x)))) = mM Z ta al (st v 25 j x) := by
  funext k' i'
  by_cases hk : k' = 25 ∧ i' = 0
  · obtain ⟨rfl, rfl⟩ := hk
    rw [wup_self]
    simp only [mM, cM, nI_up]
    simp [st]
  · rw [wup_ne hk]
    rcases (show k' = 10 ∨ k' = 11 ∨ k' = 12 ∨ k' = 13 ∨ k' = 14 ∨ k' = 15 ∨ k' = 16 ∨ k' = 17 ∨ k' = 18 ∨ k' = 19 ∨ k' = 20 ∨ k' = 21 ∨ k' = 22 ∨ k' = 23 ∨ k' = 24 ∨ k' = 25 ∨ ¬ (10 ≤ k' ∧ k' < 26) by omega) with rfl | rfl | rfl | rfl | rfl | rfl | rfl | rfl | rfl | rfl | rfl | rfl | rfl | rfl | rfl | rfl | h10
    · simp [mM, cM, st]
    · simp [mM, cM, st]
    · simp [mM, cM, st]
    · simp [mM, cM, st]
    · simp [mM, cM, st]
    · simp [mM, cM, st]
    · simp [mM, cM, st]
    · simp [mM, cM, st]
    · simp [mM, cM, st]
    · simp [mM, cM, st]
    · simp [mM, cM, st]
    · simp [mM, cM, st]
    · simp [mM, cM, st]
    · simp [mM, cM, st]
    · simp [mM, cM, st]
    · have hi : i' ≠ 0 := fun z => hk ⟨rfl, z⟩
      simp [mM, cM, hi]
    · simp [mM, h10]
end GS
theorem mC_mM {Z : Wo} {ta : Nat → ClassId} {pl : Nat → Nat} {al : Ad} {u v : St} : mC (mM Z ta al v) ta pl al u = mM (mC Z ta pl al u) ta al v := by
  funext k i
  by_cases h : k < 10
  · simp [mC, mM, h, show ¬ 10 ≤ k by omega]
  · simp [mC, mM, h]
