/-! helpers of the walk -/
theorem nI_inc {a k : Nat} {n : Int} (h : Int32.ofInt n = nI k) : nI a + Int32.ofInt n = nI (a + k) := by rw [h, nI_add]
theorem nI_m1 {a : Nat} (h : 1 ≤ a) : nI a + Int32.ofInt (-1) = nI (a - 1) := by
  obtain ⟨b, rfl⟩ : ∃ b, a = b + 1 := ⟨a - 1, by omega⟩
  rw [show Int32.ofInt (-1) = (-1 : Int32) by decide, pk_m1, Nat.add_sub_cancel]
theorem bN_fit {P : Prop} [Decidable P] : fits .boolean (.int (nI (bN P))) = true := by
  unfold bN; by_cases h : P
  · simp only [h, if_true]; decide
  · simp only [h, if_false]; decide
theorem plI {D : va_G} {ta : Nat → ClassId} {pl : Nat → Nat} {bs : Nat} {s : State} (h : En D ta pl bs s) {a b : Nat} (ha : a < 4) (hb : b < 4) : pl a = pl b ↔ a = b := ⟨h.2.2.2.1 a b ha hb, fun z => by rw [z]⟩
theorem ar2 {al : Ad} {j : Nat} (h : j < 4) : va_rf ((fun j => if j < 4 then some (al 3 (j + 1)) else none) j) = .ref (al 3 (j + 1)) := by
  show va_rf (if j < 4 then some (al 3 (j + 1)) else none) = _
  rw [if_pos h]; rfl
theorem ar5 {al : Ad} {j : Nat} (h : j < 16) : va_rf ((fun j => if j < 16 then some (al 6 j) else none) j) = .ref (al 6 j) := by
  show va_rf (if j < 16 then some (al 6 j) else none) = _
  rw [if_pos h]; rfl
theorem upr {al : Ad} {C C1 : Wo} {k i n j x : Nat} {cA : ClassId} {f : Nat → Option Nat} (hx : x ≠ 0) (h : wup C k i (.inl (cA, n, .inr (.inr (.inr (.inr (va_up f j (rI al x))))))) = C1) : wup C k i (.inl (cA, n, .inr (.inr (.inr (.inr (va_up f j (some (al 9 x)))))))) = C1 := by
  rw [rI_pos hx] at h; exact h
theorem up0 {al : Ad} {C C1 : Wo} {k i n j : Nat} {cA : ClassId} {f : Nat → Option Nat} (h : wup C k i (.inl (cA, n, .inr (.inr (.inr (.inr (va_up f j (rI al 0))))))) = C1) : wup C k i (.inl (cA, n, .inr (.inr (.inr (.inr (va_up f j none)))))) = C1 := h
theorem lg_ge {x y : Int64} : 0 ≤ lg_cmp x y ↔ ¬ x < y := by
  unfold lg_cmp
  by_cases h : y < x
  · have : ¬ x < y := fun z => by
      rw [Int64.lt_iff_toInt_lt] at h z; omega
    simp [h, this]
  · by_cases h2 : x < y
    · have : ¬ x = y := fun z => by rw [z, Int64.lt_iff_toInt_lt] at h2; omega
      simp [h, h2, this]
    · have : x = y := by
        rw [Int64.lt_iff_toInt_lt] at h h2
        exact Int64.toInt_inj.mp (by omega)
      simp [this]
/-! THE CLASS, as functions of its state. u 0 trays, 1 rounds allowed, 2 items, 3 gone, 4 carried, 5 moves a step, 6 time, 7 shift; 8 carriedBy, 9 items, 10 gone; 12 waiting, 13 putOn, 14 hadTurn (inducts 1 .. 4), 40 + n the row of induct n; 18 lying, 19 heldShut; 21 length, 22 chute, 23 place, 24 ownTray, 25 rounds, 26 outChute, 27 outTime; 30 how many items have been made -/
def tA (u : St) (q : Nat) : Nat := if q < u 7 0 then q + u 0 0 - u 7 0 else q - u 7 0
def tB (u : St) (t : Nat) : Nat := if 0 < t then t - 1 else u 0 0 - 1
def setTr (u : St) (i x : Nat) : St := if nI (st u 8 (u 24 i) x 21 i) = nI 2 then st (st u 8 (u 24 i) x) 8 (tB (st u 8 (u 24 i) x) (st u 8 (u 24 i) x 24 i)) x else st u 8 (u 24 i) x
theorem setTr_ne {u : St} {i x f j : Nat} (h : f ≠ 8) : setTr u i x f j = u f j := by
  unfold setTr
  split
  · rw [st_nf h, st_nf h]
  · rw [st_nf h]
def letOut (u : St) (i c : Nat) : St :=
  let u1 := setTr u i 0
  let u2 := st u1 4 0 (u1 4 0 - 1)
  let u3 := st u2 18 c (u2 18 c + 1)
  let u4 := st u3 23 i 3
  let u5 := st u4 26 i c
  let u6 := st u5 27 i (u5 6 0)
  let u7 := st u6 10 (u6 3 0) i
  st u7 3 0 (u7 3 0 + 1)
theorem letOut_k {u : St} {i c f j : Nat} (h : f = 0 ∨ f = 30 ∨ f = 1 ∨ f = 5 ∨ f = 7) : letOut u i c f j = u f j := by
  unfold letOut
  rcases h with rfl | rfl | rfl | rfl | rfl <;> simp [st, setTr_ne]
abbrev roomy (u : St) (c : Nat) : Prop := c = 15 ∨ (nI (u 19 c) = 0 ∧ ¬ nI 10 ≤ nI (u 18 c))
abbrev stays (u : St) (i c : Nat) : Prop := ¬ nI (u 22 i) = nI c ∧ ¬ (c = 15 ∧ ¬ nI (u 25 i) < nI (u 1 0))
def passC (u : St) (i c : Nat) : St := if stays u i c then u else if roomy u c then letOut u i c else if nI (u 22 i) = nI c then st u 25 i (u 25 i + 1) else u
theorem passC_k {u : St} {i c f j : Nat} (h : f = 0 ∨ f = 30 ∨ f = 1 ∨ f = 5 ∨ f = 7) : passC u i c f j = u f j := by
  unfold passC
  split
  · rfl
  · split
    · exact letOut_k h
    · split
      · rcases h with rfl | rfl | rfl | rfl | rfl <;> simp [st]
      · rfl
abbrev pos6 (u : St) (c : Nat) : Nat := (c * u 0 0 + u 0 0 / 2) / 16
def passOne (u : St) (c : Nat) : St := if u 8 (tA u (pos6 u c)) ≠ 0 ∧ u 24 (u 8 (tA u (pos6 u c))) = tA u (pos6 u c) ∧ u 23 (u 8 (tA u (pos6 u c))) = 1 then passC u (u 8 (tA u (pos6 u c))) c else u
theorem passOne_k {u : St} {c f j : Nat} (h : f = 0 ∨ f = 30 ∨ f = 1 ∨ f = 5 ∨ f = 7) : passOne u c f j = u f j := by
  unfold passOne
  split
  · exact passC_k h
  · rfl
def passN : Nat → St → St
  | 0, u => u
  | n + 1, u => passOne (passN n u) n
theorem passN_k {n : Nat} {u : St} {f j : Nat} (h : f = 0 ∨ f = 30 ∨ f = 1 ∨ f = 5 ∨ f = 7) : passN n u f j = u f j := by
  induction n with
  | zero => rfl
  | succ n ih => show passOne (passN n u) n f j = _; rw [passOne_k h, ih]
def shf (u : St) : St := st u 7 0 (if u 7 0 + 1 < u 0 0 then u 7 0 + 1 else 0)
def moveOne (u : St) : St := if 0 < shf u 4 0 then passN 16 (shf u) else shf u
def moveN : Nat → St → St
  | 0, u => u
  | n + 1, u => moveOne (moveN n u)
/-- the row of induct n, the first k places moved up -/
def rowUp (n : Nat) : Nat → St → St
  | 0, u => u
  | k + 1, u => st (rowUp n k u) (40 + n) k (rowUp n k u (40 + n) (k + 1))
def remF (u : St) (n : Nat) : St :=
  let u1 := st u 12 n (u 12 n - 1)
  st (rowUp n (u1 12 n) u1) (40 + n) (u1 12 n) 0
abbrev freeFor (u : St) (i t : Nat) : Prop := u 8 t = 0 ∧ (nI (u 21 i) < nI 2 ∨ (¬ nI (u 0 0) ≤ nI 1 ∧ u 8 (tB u t) = 0))
abbrev pos3 (u : St) (n : Nat) : Nat := (n - 1) * u 0 0 / 4
def putF (u : St) (n : Nat) : St :=
  if u 12 n = 0 then u else if freeFor u (u (40 + n) 0) (tA u (pos3 u n)) then
    let i := u (40 + n) 0
    let t := tA u (pos3 u n)
    let u1 := remF u n
    let u2 := st u1 13 n (u1 13 n + 1)
    let u3 := st u2 24 i t
    let u4 := st u3 23 i 1
    let u5 := setTr u4 i i
    st u5 4 0 (u5 4 0 + 1)
  else u
/-- which induct is next (0: none), of the first k -/
def nxT (u : St) : Nat → Nat
  | 0 => 0
  | k + 1 => if nI (u 14 (k + 1)) = 0 ∧ (nxT u k = 0 ∨ lN (u 13 (k + 1)) < lN (u 13 (nxT u k))) then k + 1 else nxT u k
def clrN : Nat → St → St
  | 0, u => u
  | k + 1, u => st (clrN k u) 14 (k + 1) 0
def turnOne (u : St) : St := if nxT u 4 = 0 then u else putF (st u 14 (nxT u 4) 1) (nxT u 4)
def turnN : Nat → St → St
  | 0, u => u
  | k + 1, u => turnOne (turnN k u)
def takeT (u : St) : St := turnN 4 (clrN 4 u)
def runOne (u : St) : St := takeT (st (moveN (u 5 0) u) 6 0 (moveN (u 5 0) u 6 0 + 1))
def runN : Nat → St → St
  | 0, u => u
  | n + 1, u => runOne (runN n u)
theorem bN_1 {P : Prop} [Decidable P] (h : P) : 1 = bN P := by simp [bN, h]
theorem bN_0 {P : Prop} [Decidable P] (h : ¬ P) : 0 = bN P := by simp [bN, h]
abbrev inR (x : Int32) (n : Nat) : Prop := ¬ x < 0 ∧ ¬ nI n ≤ x
theorem wrapT {q s T : Nat} (h : q < s) (h2 : s ≤ q + T) : nI q - nI s + nI T = nI (q + T - s) := by
  obtain ⟨d, hd⟩ : ∃ d, q + T = d + s := ⟨q + T - s, by omega⟩
  rw [hd, Nat.add_sub_cancel]
  have : nI q + nI T = nI d + nI s := by rw [nI_add, nI_add, hd]
  have h3 : nI q - nI s + nI T = nI q + nI T - nI s := by
    rw [Int32.sub_eq_add_neg, Int32.sub_eq_add_neg, Int32.add_assoc, Int32.add_assoc, Int32.add_comm (-nI s)]
  rw [h3, this, Int32.add_sub_cancel]
theorem rowUp_k {n k : Nat} {u : St} {f j : Nat} (h : f ≠ 40 + n) : rowUp n k u f j = u f j := by
  induction k with
  | zero => rfl
  | succ k ih => show st _ _ _ _ f j = _; rw [st_nf h, ih]
theorem rowUp_hi {n k : Nat} {u : St} {j : Nat} (h : k ≤ j) : rowUp n k u (40 + n) j = u (40 + n) j := by
  induction k with
  | zero => rfl
  | succ k ih => show st _ _ _ _ _ j = _; rw [st_ni (by omega), ih (by omega)]
theorem remF_k {u : St} {n f j : Nat} (h : f ≠ 40 + n) (h2 : f ≠ 12) : remF u n f j = u f j := by
  show st _ _ _ _ f j = _
  rw [st_nf h, rowUp_k h, st_nf h2]
theorem tB_lt {u : St} {t : Nat} (h : t < u 0 0) : tB u t < u 0 0 := by unfold tB; split <;> omega
theorem tA_lt {u : St} {q : Nat} (h : q < u 0 0) (h2 : u 7 0 < u 0 0) : tA u q < u 0 0 := by unfold tA; split <;> omega
theorem pos6_lt {c T : Nat} (hc : c < 16) (h1 : 1 ≤ T) (h2 : T ≤ 200) : (c * T + T / 2) / 16 < T := by
  have : c * T ≤ 15 * T := Nat.mul_le_mul_right T (by omega)
  omega
theorem pos3_lt {n T : Nat} (h : 1 ≤ n ∧ n ≤ 4) (h1 : 1 ≤ T) (h2 : T ≤ 200) : (n - 1) * T / 4 < T := by
  have : (n - 1) * T ≤ 3 * T := Nat.mul_le_mul_right T (by omega)
  omega
def addL (u : St) (n i : Nat) : St := st (st u (40 + n) (u 12 n) i) 12 n (st u (40 + n) (u 12 n) i 12 n + 1)
theorem passC_a {u : St} {i c : Nat} (h1 : ¬ nI (u 22 i) = nI c) (h2 : ¬ (c = 15 ∧ ¬ nI (u 25 i) < nI (u 1 0))) : u = passC u i c := by unfold passC; rw [if_pos ⟨h1, h2⟩]
theorem passC_b {u : St} {i c : Nat} (h1 : nI (u 22 i) = nI c) (h2 : roomy u c) : letOut u i c = passC u i c := by unfold passC; rw [if_neg (fun z => z.1 h1), if_pos h2]
theorem passC_e {u : St} {i c : Nat} (h0 : c = 15) (h1 : ¬ nI (u 25 i) < nI (u 1 0)) (h2 : roomy u c) : letOut u i c = passC u i c := by unfold passC; rw [if_neg (fun z => z.2 ⟨h0, h1⟩), if_pos h2]
theorem passC_c {u : St} {i c : Nat} (h1 : nI (u 22 i) = nI c) (h2 : ¬ roomy u c) : st u 25 i (u 25 i + 1) = passC u i c := by unfold passC; rw [if_neg (fun z => z.1 h1), if_neg h2, if_pos h1]
theorem passC_d {u : St} {i c : Nat} (h1 : ¬ nI (u 22 i) = nI c) (h2 : ¬ roomy u c) : u = passC u i c := by unfold passC; rw [if_neg h2, if_neg h1]; split <;> rfl
def rN (al : Ad) (n : Nat) : Value := if n = 0 then .null else .ref (al 3 n)
theorem rN_0 {al : Ad} {n : Nat} (h : n = 0) : rN al n = .null := if_pos h
theorem rN_p {al : Ad} {n : Nat} (h : n ≠ 0) : rN al n = .ref (al 3 n) := if_neg h
theorem inR_nI {j n : Nat} (h : j < n) (hn : n < 2 ^ 31) : inR (nI j) n := ⟨nI_pos (by omega), nI_ge h hn⟩
theorem addL_k {u : St} {n i f j : Nat} (h : f ≠ 12) (h2 : f ≠ 40 + n) : addL u n i f j = u f j := by
  unfold addL; rw [st_nf h, st_nf h2]
