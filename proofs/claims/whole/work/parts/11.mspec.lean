/-! THE MODEL, as functions of its state. v 0 thrown, 1 trays, 2 most, 3 speed, 4 time, 5 items, 6 gone; 11 number, 12 load, 13 length, 14 chute, 15 where, 16 own, 17 rounds, 18 at, 19 shares, 20 lying, 21 shut, 22 goneItem, 23 goneChute, 24 goneTime, 25 had -/
abbrev waitsAt (v : St) (k i : Nat) : Prop := nI (v 15 i) = 0 ∧ nI (v 18 i) = nI k
def mW (v : St) (k : Nat) : Nat → Nat
  | 0 => 0
  | n + 1 => if waitsAt v k (n + 1) then mW v k n + 1 else mW v k n
theorem mW_le {v : St} {k : Nat} : ∀ n, mW v k n ≤ n := by
  intro n
  induction n with
  | zero => exact Nat.le_refl _
  | succ n ih => unfold mW; split <;> omega
def mF (v : St) (k : Nat) : Nat → Nat
  | 0 => 0
  | j + 1 => if waitsAt v k (v 5 0 - j) then v 5 0 - j else mF v k j
theorem mF_le {v : St} {k : Nat} : ∀ j, mF v k j ≤ v 5 0 := by
  intro j
  induction j with
  | zero => exact Nat.zero_le _
  | succ j ih => unfold mF; split <;> omega
def mvD (v : St) : Nat → St
  | 0 => v
  | j + 1 => st (st (mvD v j) 11 (v 1 0 - 1 - j) (mvD v j 11 (v 1 0 - 1 - j - 1))) 12 (v 1 0 - 1 - j) (st (mvD v j) 11 (v 1 0 - 1 - j) (mvD v j 11 (v 1 0 - 1 - j - 1)) 12 (v 1 0 - 1 - j - 1))
theorem mvD_k {v : St} {f i : Nat} (h1 : f ≠ 11) (h2 : f ≠ 12) : ∀ j, mvD v j f i = v f i := by
  intro j
  induction j with
  | zero => rfl
  | succ j ih => show st _ _ _ _ f i = _; rw [st_nf h2, st_nf h1, ih]
def mvA (v : St) : St := st (st (mvD v (v 1 0 - 1)) 11 0 (v 11 (v 1 0 - 1))) 12 0 (v 12 (v 1 0 - 1))
theorem mvA_k {v : St} {f i : Nat} (h1 : f ≠ 11) (h2 : f ≠ 12) : mvA v f i = v f i := by
  unfold mvA; rw [st_nf h2, st_nf h1, mvD_k h1 h2]
def mB (v : St) (p : Nat) : Nat := if p = 0 then v 1 0 - 1 else p - 1
theorem mB_lt {v : St} {p : Nat} (h1 : 1 ≤ v 1 0) (h : p < v 1 0) : mB v p < v 1 0 := by unfold mB; split <;> omega
abbrev mRoom (v : St) (c : Nat) : Prop := c = 15 ∨ (nI (v 21 c) = 0 ∧ ¬ nI 10 ≤ nI (v 20 c))
def setLd (v : St) (i p x : Nat) : St := if nI (st v 12 p x 13 i) = nI 2 then st (st v 12 p x) 12 (mB (st v 12 p x) p) x else st v 12 p x
theorem setLd_k {v : St} {i p x f j : Nat} (h : f ≠ 12) : setLd v i p x f j = v f j := by
  unfold setLd; split
  · rw [st_nf h, st_nf h]
  · rw [st_nf h]
def mOut (v : St) (i p c : Nat) : St :=
  let w2 := setLd v i p 0
  let w3 := st w2 15 i 3
  let w4 := st w3 20 c (w3 20 c + 1)
  let w5 := st w4 22 (w4 6 0) i
  let w6 := st w5 23 (w5 6 0) c
  let w7 := st w6 24 (w6 6 0) (w6 4 0)
  st w7 6 0 (w7 6 0 + 1)
theorem mOut_k {v : St} {i p c f j : Nat} (h : f = 0 ∨ f = 1 ∨ f = 2 ∨ f = 3 ∨ f = 4 ∨ f = 5) : mOut v i p c f j = v f j := by
  unfold mOut
  rcases h with rfl | rfl | rfl | rfl | rfl | rfl <;> simp [st, setLd_k]
abbrev mPos (v : St) (c : Nat) : Nat := (c * v 1 0 + v 1 0 / 2) / 16
abbrev mHere (v : St) (c : Nat) : Prop := v 12 (mPos v c) ≠ 0 ∧ nI (v 16 (v 12 (mPos v c))) = nI (v 11 (mPos v c)) ∧ nI (v 15 (v 12 (mPos v c))) = nI 1
abbrev mWants (v : St) (c : Nat) : Prop := nI (v 14 (v 12 (mPos v c))) = nI c ∨ (c = 15 ∧ ¬ nI (v 17 (v 12 (mPos v c))) < nI (v 2 0))
def mPass (v : St) (c : Nat) : St :=
  if mHere v c then (if mWants v c ∧ mRoom v c then mOut v (v 12 (mPos v c)) (mPos v c) c else if nI (v 14 (v 12 (mPos v c))) = nI c then st v 17 (v 12 (mPos v c)) (v 17 (v 12 (mPos v c)) + 1) else v) else v
theorem mPass_0 {v : St} {c : Nat} (h : ¬ mHere v c) : v = mPass v c := by unfold mPass; rw [if_neg h]
theorem mPass_1 {v : St} {c : Nat} (h : mHere v c) (h1 : mWants v c) (h2 : mRoom v c) : mOut v (v 12 (mPos v c)) (mPos v c) c = mPass v c := by unfold mPass; rw [if_pos h, if_pos ⟨h1, h2⟩]
theorem mPass_2 {v : St} {c : Nat} (h : mHere v c) (h1 : ¬ (mWants v c ∧ mRoom v c)) (h2 : nI (v 14 (v 12 (mPos v c))) = nI c) : st v 17 (v 12 (mPos v c)) (v 17 (v 12 (mPos v c)) + 1) = mPass v c := by unfold mPass; rw [if_pos h, if_neg h1, if_pos h2]
theorem mPass_3 {v : St} {c : Nat} (h : mHere v c) (h1 : ¬ (mWants v c ∧ mRoom v c)) (h2 : ¬ nI (v 14 (v 12 (mPos v c))) = nI c) : v = mPass v c := by unfold mPass; rw [if_pos h, if_neg h1, if_neg h2]
theorem mPass_k {v : St} {c f j : Nat} (h : f = 0 ∨ f = 1 ∨ f = 2 ∨ f = 3 ∨ f = 4 ∨ f = 5) : mPass v c f j = v f j := by
  unfold mPass
  split
  · split
    · exact mOut_k h
    · split
      · exact st_nf (by omega)
      · rfl
  · rfl
def mPN : Nat → St → St
  | 0, v => v
  | n + 1, v => mPass (mPN n v) n
theorem mPN_k {n : Nat} {v : St} {f j : Nat} (h : f = 0 ∨ f = 1 ∨ f = 2 ∨ f = 3 ∨ f = 4 ∨ f = 5) : mPN n v f j = v f j := by
  induction n with
  | zero => rfl
  | succ n ih => show mPass (mPN n v) n f j = _; rw [mPass_k h, ih]
def mMove (v : St) : St := mPN 16 (mvA v)
theorem mMove_k {v : St} {f j : Nat} (h : f = 0 ∨ f = 1 ∨ f = 2 ∨ f = 3 ∨ f = 4 ∨ f = 5) : mMove v f j = v f j := by
  unfold mMove; rw [mPN_k h, mvA_k (by omega) (by omega)]
def mMvN : Nat → St → St
  | 0, v => v
  | n + 1, v => mMove (mMvN n v)
theorem mMvN_k {n : Nat} {v : St} {f j : Nat} (h : f = 0 ∨ f = 1 ∨ f = 2 ∨ f = 3 ∨ f = 4 ∨ f = 5) : mMvN n v f j = v f j := by
  induction n with
  | zero => rfl
  | succ n ih => show mMove (mMvN n v) f j = _; rw [mMove_k h, ih]
abbrev mPosI (v : St) (k : Nat) : Nat := k * v 1 0 / 4
abbrev mFst (v : St) (k : Nat) : Nat := mF v k (v 5 0)
abbrev mCan (v : St) (k : Nat) : Prop := mFst v k ≠ 0 ∧ v 12 (mPosI v k) = 0 ∧ ¬ (nI (v 13 (mFst v k)) = nI 2 ∧ (v 1 0 = 1 ∨ v 12 (mB v (mPosI v k)) ≠ 0))
def mPut (v : St) (k : Nat) : St :=
  if mCan v k then
    let w2 := setLd v (mFst v k) (mPosI v k) (mFst v k)
    let w3 := st w2 16 (mFst v k) (w2 11 (mPosI v k))
    let w4 := st w3 15 (mFst v k) 1
    st w4 19 k (w4 19 k + 1)
  else v
theorem mPut_k {v : St} {k f j : Nat} (h : f = 0 ∨ f = 1 ∨ f = 2 ∨ f = 3 ∨ f = 4 ∨ f = 5 ∨ f = 25) : mPut v k f j = v f j := by
  unfold mPut
  split
  · rcases h with rfl | rfl | rfl | rfl | rfl | rfl | rfl <;> simp [st, setLd_k]
  · rfl
def mNx (v : St) : Nat → Nat
  | 0 => 0
  | j + 1 => if nI (v 25 j) = 0 ∧ (mNx v j = 0 ∨ lN (v 19 j) < lN (v 19 (mNx v j - 1))) then j + 1 else mNx v j
theorem mNx_le {v : St} : ∀ k, mNx v k ≤ k := by
  intro k
  induction k with
  | zero => exact Nat.le_refl _
  | succ k ih => unfold mNx; split <;> omega
def rM (n : Nat) : Int32 := if n = 0 then -1 else nI (n - 1)
theorem rM_0 {n : Nat} (h : n = 0) : rM n = -1 := if_pos h
theorem rM_p {n : Nat} (h : n ≠ 0) : rM n = nI (n - 1) := if_neg h
def mClr : Nat → St → St
  | 0, v => v
  | k + 1, v => st (mClr k v) 25 k 0
def mTurn (v : St) : St := mPut (st v 25 (mNx v 4 - 1) 1) (mNx v 4 - 1)
def mTuN : Nat → St → St
  | 0, v => v
  | k + 1, v => mTurn (mTuN k v)
def mTake (v : St) : St := mTuN 4 (mClr 4 v)
def mRun (v : St) : St := mTake (st (mMvN (v 3 0) v) 4 0 (mMvN (v 3 0) v 4 0 + 1))
def mRuN : Nat → St → St
  | 0, v => v
  | n + 1, v => mRun (mRuN n v)
/-! CLASS AND MODEL SIDE BY SIDE -/
def Sm1 (u v : St) : Prop := v 1 0 = u 0 0 ∧ v 2 0 = u 1 0 ∧ v 5 0 = u 2 0 ∧ v 6 0 = u 3 0 ∧ v 3 0 = u 5 0 ∧ v 4 0 = u 6 0
def Sm2 (u v : St) : Prop := (∀ p, p < u 0 0 → v 11 p = tA u p ∧ v 12 p = u 8 (tA u p)) ∧ ∀ p, v 12 p ≤ u 2 0
def Sm3 (u v : St) : Prop := (∀ i, 1 ≤ i → i ≤ u 2 0 → v 13 i = u 21 i ∧ v 14 i = u 22 i ∧ v 15 i = u 23 i ∧ v 16 i = u 24 i ∧ v 17 i = u 25 i ∧ v 18 i + 1 = u 31 i) ∧ ∀ i, u 2 0 < i → v 15 i = 0 ∧ v 16 i = 0 ∧ v 17 i = 0
def Sm4 (u v : St) : Prop := (∀ k, k < 4 → v 19 k = u 13 (k + 1)) ∧ ∀ c, c < 16 → v 20 c = u 18 c ∧ v 21 c = u 19 c
def Sm5 (u v : St) : Prop := ∀ j, j < u 3 0 → v 22 j = u 10 j ∧ v 23 j = u 26 (u 10 j) ∧ v 24 j = u 27 (u 10 j)
def Sim (u v : St) : Prop := Sm1 u v ∧ Sm2 u v ∧ Sm3 u v ∧ Sm4 u v ∧ Sm5 u v
def Jv (v : St) : Prop := ∃ u, Iv u ∧ Sim u v
/-- what the walk of the model needs -/
theorem Jv.w {v : St} (h : Jv v) : 1 ≤ v 1 0 ∧ v 1 0 ≤ 200 ∧ v 5 0 ≤ 400 ∧ 1 ≤ v 3 0 ∧ v 3 0 ≤ 5 ∧ (∀ p, v 12 p ≤ v 5 0) ∧ v 6 0 ≤ 400 := by
  obtain ⟨u, hI, ⟨e1, e2, e3, e4, e5, e6⟩, ⟨-, h2⟩, -⟩ := h
  have h3 := hI.le3
  obtain ⟨⟨a1, a2, a3, a4, a5, a6, a7⟩, -⟩ := hI
  rw [e1, e3, e5, e4]
  exact ⟨a1, a2, a4, a6, a7, h2, h3⟩
theorem Jv.go {v : St} (h : Jv v) {i : Nat} (h1 : i ≠ 0) (h2 : i ≤ v 5 0) (h3 : nI (v 15 i) = nI 1) : v 6 0 < 400 := by
  obtain ⟨u, hI, ⟨e1, e2, e3, e4, e5, e6⟩, -, ⟨h5, -⟩, -⟩ := h
  have e := (h5 i (by omega) (by omega)).2.2.1
  have hlt := (hI.2.1 i (by omega) (by omega)).1
  rw [e, nI_eq (by omega) (by decide)] at h3
  rw [e4]
  exact (hI.carry (by omega) (by omega) h3).2.1
def mI (v : St) (t : Nat) : Nat → Nat
  | 0 => 0
  | q + 1 => if nI (v 11 q) = nI t then v 12 q else mI v t q
abbrev inB (x : Int32) (a b : Nat) : Prop := ¬ x < nI a ∧ ¬ nI b < x
theorem inB_nI {j a b : Nat} (h1 : a ≤ j) (h2 : j ≤ b) (hb : b < 2 ^ 31) : inB (nI j) a b := ⟨nI_nlt h1 (by omega), nI_nlt h2 hb⟩
def mAdd (v : St) (k y z : Nat) : St :=
  let w1 := st v 5 0 (v 5 0 + 1)
  let w2 := st w1 18 (w1 5 0) k
  let w3 := st w2 13 (w2 5 0) y
  st w3 14 (w3 5 0) z
