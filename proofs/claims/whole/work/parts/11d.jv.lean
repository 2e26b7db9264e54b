theorem Sim_v {u v v' : St} (h : Sim u v) (e : ∀ f j, f ≠ 0 → f ≠ 25 → v' f j = v f j) : Sim u v' := by
  obtain ⟨m0, m1, m3, m4, m5⟩ := h
  refine ⟨?_, ?_, ?_, ?_, ?_⟩
  · unfold Sm1 at *; simp (disch := decide) only [e]; exact m0
  · unfold Sm2 at *; simp (disch := decide) only [e]; exact m1
  · unfold Sm3 at *; simp (disch := decide) only [e]; exact m3
  · unfold Sm4 at *; simp (disch := decide) only [e]; exact m4
  · unfold Sm5 at *; simp (disch := decide) only [e]; exact m5
theorem Sim_u14 {u v : St} (h : Sim u v) {n x : Nat} : Sim (st u 14 n x) v := by
  obtain ⟨m0, m1, m3, m4, m5⟩ := h
  have e : ∀ f j, f ≠ 14 → st u 14 n x f j = u f j := fun f j hf => st_nf hf
  have et : ∀ q, tA (st u 14 n x) q = tA u q := fun q => by simp [tA, e]
  refine ⟨?_, ?_, ?_, ?_, ?_⟩
  · unfold Sm1 at *; simp (disch := decide) only [e]; exact m0
  · unfold Sm2 at *; simp (disch := decide) only [e, et]; exact m1
  · unfold Sm3 at *; simp (disch := decide) only [e]; exact m3
  · unfold Sm4 at *; simp (disch := decide) only [e]; exact m4
  · unfold Sm5 at *; simp (disch := decide) only [e]; exact m5
theorem Sim_time {u v : St} (h : Sim u v) {x : Nat} : Sim (st u 6 0 x) (st v 4 0 x) := by
  obtain ⟨m0, m1, m3, m4, m5⟩ := h
  have e : ∀ f j, f ≠ 6 → st u 6 0 x f j = u f j := fun f j hf => st_nf hf
  have ev : ∀ f j, f ≠ 4 → st v 4 0 x f j = v f j := fun f j hf => st_nf hf
  have et : ∀ q, tA (st u 6 0 x) q = tA u q := fun q => by simp [tA, e]
  refine ⟨?_, ?_, ?_, ?_, ?_⟩
  · unfold Sm1 at *
    simp (disch := decide) only [e, ev]
    rw [st_self, st_self]
    obtain ⟨a, b, c, d, f, -⟩ := m0
    exact ⟨a, b, c, d, f, rfl⟩
  · unfold Sm2 at *; simp (disch := decide) only [e, ev, et]; exact m1
  · unfold Sm3 at *; simp (disch := decide) only [e, ev]; exact m3
  · unfold Sm4 at *; simp (disch := decide) only [e, ev]; exact m4
  · unfold Sm5 at *; simp (disch := decide) only [e, ev]; exact m5
theorem Jv_move {v : St} (h : Jv v) : Jv (mvA v) := by
  obtain ⟨u, a, b⟩ := h; exact ⟨shf u, Iv_shift a, Sim_move a b⟩
theorem Jv_pass {v : St} (h : Jv v) {c : Nat} (hc : c < 16) : Jv (mPass v c) := by
  obtain ⟨u, a, b⟩ := h; exact ⟨passOne u c, Iv_passOne a, Sim_pass a b hc⟩
theorem Jv_put {v : St} (h : Jv v) {k : Nat} (hk : k < 4) : Jv (mPut v k) := by
  obtain ⟨u, a, b⟩ := h; exact ⟨putF u (k + 1), Iv_putF a (by omega), Sim_put a b hk⟩
theorem Jv_had {v : St} (h : Jv v) {k x : Nat} : Jv (st v 25 k x) := by
  obtain ⟨u, a, b⟩ := h; exact ⟨u, a, Sim_v b (fun f j _ h25 => st_nf h25)⟩
theorem Jv_time {v : St} (h : Jv v) {x : Nat} : Jv (st v 4 0 x) := by
  obtain ⟨u, a, b⟩ := h; exact ⟨st u 6 0 x, Iv_time a, Sim_time b⟩
theorem Jv_thrown {v : St} (h : Jv v) {x : Nat} : Jv (st v 0 0 x) := by
  obtain ⟨u, a, b⟩ := h; exact ⟨u, a, Sim_v b (fun f j h0 _ => st_nf h0)⟩
theorem Jv_PN {v : St} (h : Jv v) : ∀ n, n ≤ 16 → Jv (mPN n v) := by
  intro n
  induction n with
  | zero => intro _; exact h
  | succ n ih => intro hn; exact Jv_pass (ih (by omega)) (by omega)
theorem Jv_mMove {v : St} (h : Jv v) : Jv (mMove v) := Jv_PN (Jv_move h) 16 (Nat.le_refl _)
theorem Jv_MvN {v : St} (h : Jv v) : ∀ n, Jv (mMvN n v) := by
  intro n
  induction n with
  | zero => exact h
  | succ n ih => exact Jv_mMove ih
theorem Jv_Clr {v : St} (h : Jv v) : ∀ n, Jv (mClr n v) := by
  intro n
  induction n with
  | zero => exact h
  | succ n ih => exact Jv_had ih
def bz (v : St) (k : Nat) : Nat := if nI (v 25 k) = 0 then 1 else 0
def zc (v : St) : Nat := bz v 0 + bz v 1 + bz v 2 + bz v 3
theorem mNx_pos {v : St} : ∀ j k, k < j → nI (v 25 k) = 0 → mNx v j ≠ 0 := by
  intro j
  induction j with
  | zero => intro k h; omega
  | succ j ih =>
    intro k hk h0
    by_cases hz : mNx v j = 0
    · by_cases hj : k = j
      · subst hj; rw [mNx, if_pos ⟨h0, Or.inl hz⟩]; omega
      · exact absurd hz (ih k (by omega) h0)
    · rw [mNx]
      split <;> omega
theorem zc_pos {v : St} (h : 1 ≤ zc v) : mNx v 4 ≠ 0 := by
  unfold zc bz at h
  by_cases h0 : nI (v 25 0) = 0
  · exact mNx_pos 4 0 (by decide) h0
  · by_cases h1 : nI (v 25 1) = 0
    · exact mNx_pos 4 1 (by decide) h1
    · by_cases h2 : nI (v 25 2) = 0
      · exact mNx_pos 4 2 (by decide) h2
      · by_cases h3 : nI (v 25 3) = 0
        · exact mNx_pos 4 3 (by decide) h3
        · simp [h0, h1, h2, h3] at h
theorem bz_ne {v : St} {m j : Nat} (h : j ≠ m) : bz (mPut (st v 25 m 1) m) j = bz v j := by
  unfold bz; rw [mPut_k (by omega), st_ni h]
theorem bz_le {v : St} {j : Nat} : bz v j ≤ 1 := by unfold bz; split <;> omega
theorem zc_turn {v : St} : zc v ≤ zc (mTurn v) + 1 := by
  unfold mTurn
  generalize mNx v 4 - 1 = m
  have b0 := bz_le (v := v) (j := 0)
  have b1 := bz_le (v := v) (j := 1)
  have b2 := bz_le (v := v) (j := 2)
  have b3 := bz_le (v := v) (j := 3)
  unfold zc
  by_cases h0 : 0 = m
  · rw [bz_ne (j := 1) (by omega), bz_ne (j := 2) (by omega), bz_ne (j := 3) (by omega)]; omega
  · by_cases h1 : 1 = m
    · rw [bz_ne (j := 0) (by omega), bz_ne (j := 2) (by omega), bz_ne (j := 3) (by omega)]; omega
    · by_cases h2 : 2 = m
      · rw [bz_ne (j := 0) (by omega), bz_ne (j := 1) (by omega), bz_ne (j := 3) (by omega)]; omega
      · rw [bz_ne (j := 0) (by omega), bz_ne (j := 1) (by omega), bz_ne (j := 2) (by omega)]; omega
theorem mClr_25 {v : St} : ∀ n k, k < n → mClr n v 25 k = 0 := by
  intro n
  induction n with
  | zero => intro k h; omega
  | succ n ih =>
    intro k hk
    show st (mClr n v) 25 n 0 25 k = 0
    by_cases h : k = n
    · rw [h, st_self]
    · rw [st_ni h]; exact ih k (by omega)
theorem zc_clr {v : St} : zc (mClr 4 v) = 4 := by
  unfold zc bz
  rw [mClr_25 4 0 (by decide), mClr_25 4 1 (by decide), mClr_25 4 2 (by decide), mClr_25 4 3 (by decide)]
  rfl
theorem zc_TuN {v : St} : ∀ t, 4 ≤ zc (mTuN t (mClr 4 v)) + t := by
  intro t
  induction t with
  | zero => rw [show mTuN 0 (mClr 4 v) = mClr 4 v from rfl, zc_clr]; omega
  | succ t ih => have := zc_turn (v := mTuN t (mClr 4 v)); show 4 ≤ zc (mTurn (mTuN t (mClr 4 v))) + (t + 1); omega
theorem mNx_ok {v : St} {t : Nat} (ht : t < 4) : mNx (mTuN t (mClr 4 v)) 4 ≠ 0 := zc_pos (by have := zc_TuN (v := v) t; omega)
theorem Jv_TuN {v : St} (h : Jv v) : ∀ n, n ≤ 4 → Jv (mTuN n (mClr 4 v)) := by
  intro n
  induction n with
  | zero => intro _; exact Jv_Clr h 4
  | succ n ih =>
    intro hn
    have h1 := mNx_ok (v := v) (t := n) (by omega)
    have h2 := mNx_le (v := mTuN n (mClr 4 v)) 4
    exact Jv_put (Jv_had (ih (by omega))) (by omega)
theorem Jv_take {v : St} (h : Jv v) : Jv (mTake v) := Jv_TuN h 4 (Nat.le_refl _)
theorem Jv_run {v : St} (h : Jv v) : Jv (mRun v) := Jv_take (Jv_time (Jv_MvN h _))
theorem Jv_ruN {v : St} (h : Jv v) : ∀ n, Jv (mRuN n v) := by
  intro n
  induction n with
  | zero => exact h
  | succ n ih => exact Jv_run ih
