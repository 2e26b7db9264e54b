/-! class and model take the same steps -/
def Had (u v : St) : Prop := ∀ k, k < 4 → v 25 k = u 14 (k + 1)
theorem nx_eq {u v : St} (h : Sim u v) (hh : Had u v) : ∀ j, j ≤ 4 → mNx v j = nxT u j := by
  obtain ⟨-, -, -, ⟨m4, -⟩, -⟩ := h
  intro j
  induction j with
  | zero => intro _; rfl
  | succ j ih =>
    intro hj
    have e := ih (by omega)
    have hle := nxT_le (u := u) j
    have c : (nI (v 25 j) = 0 ∧ (mNx v j = 0 ∨ lN (v 19 j) < lN (v 19 (mNx v j - 1)))) ↔ (nI (u 14 (j + 1)) = 0 ∧ (nxT u j = 0 ∨ lN (u 13 (j + 1)) < lN (u 13 (nxT u j)))) := by
      rw [e, hh j (by omega), m4 j (by omega)]
      by_cases hz : nxT u j = 0
      · simp [hz]
      · rw [m4 (nxT u j - 1) (by omega), show nxT u j - 1 + 1 = nxT u j by omega]
    rw [mNx, nxT]
    by_cases hc : nI (u 14 (j + 1)) = 0 ∧ (nxT u j = 0 ∨ lN (u 13 (j + 1)) < lN (u 13 (nxT u j)))
    · rw [if_pos hc, if_pos (c.mpr hc)]
    · rw [if_neg hc, if_neg (fun z => hc (c.mp z)), e]
theorem putF_14 {u : St} {n j : Nat} : putF u n 14 j = u 14 j := by
  by_cases h1 : u 12 n = 0
  · rw [putF, if_pos h1]
  · by_cases h2 : freeFor u (u (40 + n) 0) (tA u (pos3 u n))
    · rw [putF_c h1 h2, pG_k (by omega)]
    · rw [putF, if_neg h1, if_neg h2]
theorem Sim_turn {u v : St} (hI : Iv u) (h : Sim u v) (hh : Had u v) (hn : mNx v 4 ≠ 0) : Sim (turnOne u) (mTurn v) ∧ Had (turnOne u) (mTurn v) := by
  have e := nx_eq h hh 4 (Nat.le_refl _)
  have hle := nxT_le (u := u) 4
  unfold turnOne mTurn
  rw [e] at hn ⊢
  rw [if_neg hn]
  generalize nxT u 4 = n at *
  obtain ⟨k, rfl⟩ : ∃ k, n = k + 1 := ⟨n - 1, by omega⟩
  rw [Nat.add_sub_cancel]
  have h1 : Sim (st u 14 (k + 1) 1) (st v 25 k 1) := Sim_v (Sim_u14 h) (fun f j _ h25 => st_nf h25)
  refine ⟨Sim_put (Iv_had hI) h1 (by omega), fun j hj => ?_⟩
  rw [putF_14, mPut_k (by omega)]
  by_cases hjk : j = k
  · rw [hjk, st_self, st_self]
  · rw [st_ni hjk, st_ni (by omega)]; exact hh j hj
theorem clr_had {u v : St} : ∀ n, (∀ k, k < n → mClr n v 25 k = clrN n u 14 (k + 1)) := by
  intro n
  induction n with
  | zero => intro k h; omega
  | succ n ih =>
    intro k hk
    show st (mClr n v) 25 n 0 25 k = st (clrN n u) 14 (n + 1) 0 14 (k + 1)
    by_cases h : k = n
    · rw [h, st_self, st_self]
    · rw [st_ni h, st_ni (by omega)]; exact ih k (by omega)
theorem Sim_clr {u v : St} (h : Sim u v) : ∀ n, Sim (clrN n u) (mClr n v) := by
  intro n
  induction n with
  | zero => exact h
  | succ n ih => exact Sim_v (Sim_u14 ih) (fun f j _ h25 => st_nf h25)
theorem Sim_take {u v : St} (hI : Iv u) (h : Sim u v) : Sim (takeT u) (mTake v) := by
  have key : ∀ t, t ≤ 4 → Sim (turnN t (clrN 4 u)) (mTuN t (mClr 4 v)) ∧ Had (turnN t (clrN 4 u)) (mTuN t (mClr 4 v)) := by
    intro t
    induction t with
    | zero => intro _; exact ⟨Sim_clr h 4, fun k hk => clr_had 4 k hk⟩
    | succ t ih =>
      intro ht
      obtain ⟨a, b⟩ := ih (by omega)
      exact Sim_turn (Iv_turnN (Iv_clrN hI 4) t) a b (mNx_ok (by omega))
  exact (key 4 (Nat.le_refl _)).1
theorem free_all {u : St} (hI : Iv u) (h : u 4 0 = 0) : ∀ t, u 8 t = 0 := by
  intro t
  obtain ⟨-, -, i3, ⟨i4, -⟩, -⟩ := hI
  obtain ⟨a, b⟩ := i3 t
  by_cases hz : u 8 t = 0
  · exact hz
  · have := cnt_pos (f := onL u) (i := u 8 t) (by unfold onL; rw [if_pos (b hz).1]) (u 2 0) (by omega) a
    omega
theorem passN_free {u : St} (h : ∀ t, u 8 t = 0) : ∀ n, passN n u = u := by
  intro n
  induction n with
  | zero => rfl
  | succ n ih => show passOne (passN n u) n = u; rw [ih, passOne, if_neg (fun z => z.1 (h _))]
theorem Sim_passN {u v : St} (hI : Iv u) (h : Sim u v) : ∀ n, n ≤ 16 → Sim (passN n u) (mPN n v) := by
  intro n
  induction n with
  | zero => intro _; exact h
  | succ n ih => intro hn; exact Sim_pass (Iv_passN hI n (by omega)) (ih (by omega)) (by omega)
theorem Sim_moveOne {u v : St} (hI : Iv u) (h : Sim u v) : Sim (moveOne u) (mMove v) := by
  have h1 := Sim_passN (Iv_shift hI) (Sim_move hI h) 16 (Nat.le_refl _)
  unfold moveOne
  by_cases hc : 0 < shf u 4 0
  · rw [if_pos hc]; exact h1
  · rw [if_neg hc]
    rw [passN_free (free_all (Iv_shift hI) (by omega))] at h1
    exact h1
theorem Sim_moveN {u v : St} (hI : Iv u) (h : Sim u v) : ∀ n, Sim (moveN n u) (mMvN n v) := by
  intro n
  induction n with
  | zero => exact h
  | succ n ih => exact Sim_moveOne (Iv_moveN hI n) ih
theorem Sim_run {u v : St} (hI : Iv u) (h : Sim u v) : Sim (runOne u) (mRun v) := by
  have e5 : v 3 0 = u 5 0 := h.1.2.2.2.2.1
  have hm := Sim_moveN hI h (u 5 0)
  have e6 : mMvN (u 5 0) v 4 0 = moveN (u 5 0) u 6 0 := hm.1.2.2.2.2.2
  unfold runOne mRun
  rw [e5, e6]
  exact Sim_take (Iv_time (Iv_moveN hI _)) (Sim_time hm)
theorem Sim_runN {u v : St} (hI : Iv u) (h : Sim u v) : ∀ n, Sim (runN n u) (mRuN n v) := by
  intro n
  induction n with
  | zero => exact h
  | succ n ih => exact Sim_run (Iv_runN hI n) ih
