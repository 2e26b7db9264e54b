theorem inR_inB {x : Int32} {n : Nat} (hn : n + 1 < 2 ^ 31) : inR x (n + 1) ↔ inB x 0 n := by
  unfold inR inB
  rw [Int32.lt_iff_toInt_lt, Int32.lt_iff_toInt_lt, Int32.le_iff_toInt_le, Int32.lt_iff_toInt_lt, nI_toInt hn, nI_toInt (by omega), nI_toInt (by omega), Int32.toInt_zero]
  omega
theorem inR_of {x : Int32} {n : Nat} (hn : n < 2 ^ 31) (h : inR x n) : ∃ j, j < n ∧ x = nI j := by
  rcases i32_cases x n hn with q | q
  · exact q.elim (fun z => absurd z h.1) (fun z => absurd z h.2)
  · exact q
theorem Sim_chute {u v u' v' : St} (h : Sim u v) (eu : ∀ f j, f ≠ 18 → f ≠ 19 → u' f j = u f j) (ev : ∀ f j, f ≠ 20 → f ≠ 21 → f ≠ 0 → v' f j = v f j) (hc : ∀ c, c < 16 → v' 20 c = u' 18 c ∧ v' 21 c = u' 19 c) : Sim u' v' := by
  have et : ∀ q, tA u' q = tA u q := fun q => by simp [tA, eu]
  obtain ⟨m0, m1, m3, ⟨m4, -⟩, m5⟩ := h
  refine ⟨?_, ?_, ?_, ⟨?_, hc⟩, ?_⟩
  · unfold Sm1 at *; simp (disch := decide) only [eu, ev]; exact m0
  · unfold Sm2 at *; simp (disch := decide) only [eu, ev, et]; exact m1
  · unfold Sm3 at *; simp (disch := decide) only [eu, ev]; exact m3
  · simp (disch := decide) only [eu, ev]; exact m4
  · unfold Sm5 at *; simp (disch := decide) only [eu, ev]; exact m5
section OPS2
variable {l : Launch} {D : va_G} {ta : Nat → ClassId} {pl : Nat → Nat} {bs : Nat} {u v : St}
theorem op_full (hI : Iv u) (hS : Sim u v) (a : Int32) (b : Nat) (hb : b = 0 ∨ b = 1) : ∃ (r : Int32) (u' v' : St), Iv u' ∧ Sim u' v' ∧ XR l D ta pl bs yX4_full wsX4_full [.int a, .int (nI b)] u (.int r) u' ∧ MR l D ta pl bs yX5_full wsX5_full [.int a, .int (nI b)] v (.int r) v' := by
  by_cases h : inR a 16
  · obtain ⟨j, hj, rfl⟩ := inR_of (by decide) h
    have hc := hS.2.2.2.1.2
    rcases hb with rfl | rfl
    · refine ⟨nI (u 18 j), st (st u 19 j 0) 18 j 0, st (st (st v 0 0 0) 21 j 0) 20 j 0, Iv_of hI (fun f k _ _ _ _ h1 h2 _ _ _ => by rw [st_nf h1, st_nf h2]), Sim_chute hS (fun f k h1 h2 => by rw [st_nf h1, st_nf h2]) (fun f k h1 h2 h3 => by rw [st_nf h1, st_nf h2, st_nf h3]) (fun c h1 => ?_), XR.of (fun Z al => c_full_0 j hj) (by decide) (by decide), MR.ofe (by rw [(hc j hj).1]) (fun Z al => m_full_0 j hj) (by decide) (by decide)⟩
      by_cases hcj : c = j
      · subst hcj
        refine ⟨by rw [st_self, st_self], ?_⟩
        rw [st_nf (by decide), st_self, st_nf (by decide), st_self]
      · refine ⟨?_, ?_⟩
        · rw [st_ni hcj, st_nf (by decide), st_nf (by decide), st_ni hcj, st_nf (by decide)]; exact (hc c h1).1
        · rw [st_nf (by decide), st_ni hcj, st_nf (by decide), st_nf (by decide), st_ni hcj]; exact (hc c h1).2
    · by_cases h15 : j = 15
      · subst h15
        exact ⟨-13, u, st v 0 0 0, hI, Sim_0 hS, XR.of (fun Z al => c_full_s) (by decide) (by decide), MR.of (fun Z al => m_full_s) (by decide) (by decide)⟩
      · refine ⟨nI (u 18 j), st u 19 j 1, st (st (st v 0 0 0) 21 j 1) 20 j (st v 0 0 0 20 j), Iv_of hI (fun f k _ _ _ _ _ h2 _ _ _ => st_nf h2), Sim_chute hS (fun f k h1 h2 => st_nf h2) (fun f k h1 h2 h3 => by rw [st_nf h1, st_nf h2, st_nf h3]) (fun c h1 => ?_), XR.of (fun Z al => c_full_1 j (by omega)) (by decide) (by decide), MR.ofe (by rw [(hc j hj).1]) (fun Z al => m_full_1 j (by omega)) (by decide) (by decide)⟩
        by_cases hcj : c = j
        · subst hcj
          refine ⟨by rw [st_self, st_nf (by decide), st_nf (by decide)]; exact (hc c h1).1, ?_⟩
          rw [st_nf (by decide), st_self, st_self]
        · refine ⟨?_, ?_⟩
          · rw [st_ni hcj, st_nf (by decide), st_nf (by decide), st_nf (by decide)]; exact (hc c h1).1
          · rw [st_nf (by decide), st_ni hcj, st_nf (by decide), st_ni hcj]; exact (hc c h1).2
  · exact ⟨-11, u, st v 0 0 0, hI, Sim_0 hS, XR.of (fun Z al => c_full_u a (nI b) h) (by decide) (by decide), MR.of (fun Z al => m_full_u a (nI b) (fun z => h ((inR_inB (n := 15) (by decide)).mpr z))) (by decide) (by decide)⟩
theorem mI_eq (hI : Iv u) (hS : Sim u v) {t : Nat} (ht : t < u 0 0) : mI v t (v 1 0) = u 8 t := by
  obtain ⟨a1, a2, a3, -⟩ := hI.1
  obtain ⟨e1, -⟩ := hS.1
  have m1 := hS.2.1.1
  rw [e1]
  have hq : ∀ q, q < u 0 0 → (nI (v 11 q) = nI t ↔ tA u q = t) := fun q h => by
    have := tA_lt h a3
    rw [(m1 q h).1]; exact nI_eq (by omega) (by omega)
  have key : ∀ n, n ≤ u 0 0 → (∃ q, q < n ∧ tA u q = t) → mI v t n = u 8 t := by
    intro n
    induction n with
    | zero => intro _ h; obtain ⟨q, h, -⟩ := h; omega
    | succ n ih =>
      intro hn h
      by_cases hc : tA u n = t
      · rw [mI, if_pos ((hq n (by omega)).mpr hc), (m1 n (by omega)).2, hc]
      · rw [mI, if_neg (fun z => hc ((hq n (by omega)).mp z))]
        obtain ⟨q, h1, h2⟩ := h
        refine ih (by omega) ⟨q, ?_, h2⟩
        by_cases hqn : q = n
        · subst hqn; exact absurd h2 hc
        · omega
  refine key (u 0 0) (Nat.le_refl _) ?_
  by_cases hs : t + u 7 0 < u 0 0
  · refine ⟨t + u 7 0, hs, ?_⟩
    unfold tA; rw [if_neg (by omega)]; omega
  · refine ⟨t + u 7 0 - u 0 0, by omega, ?_⟩
    unfold tA; rw [if_pos (by omega)]; omega
/-- a tray that there is -/
theorem op_tray (hI : Iv u) (hS : Sim u v) {t : Nat} (ht : t < u 0 0) : XR l D ta pl bs yX4_tray wsX4_tray [.int (nI t)] u (.int (nI (u 8 t))) u ∧ MR l D ta pl bs yX5_tray wsX5_tray [.int (nI t)] v (.int (nI (u 8 t))) (st v 0 0 0) := by
  have e1 := hS.1.1
  obtain ⟨a1, a2, a3, -⟩ := hI.1
  exact ⟨XR.of (fun Z al => c_tray_1 t hI ht) (by decide) (by decide), MR.ofe (by rw [mI_eq hI (Sim_0 hS) ht]) (fun Z al => m_tray_1 t (by omega) (by omega) (by omega)) (by decide) (by decide)⟩
/-- no such tray: the model's side -/
theorem op_tray_t (hI : Iv u) (hS : Sim u v) {a : Int32} (h : ¬ inR a (u 0 0)) : MR l D ta pl bs yX5_tray wsX5_tray [.int a] v (.int (nI 0)) (st v 0 0 1) := by
  have e1 := hS.1.1
  obtain ⟨a1, a2, a3, -⟩ := hI.1
  refine MR.of (fun Z al => m_tray_t a (by omega) (by omega) (fun z => h ?_)) (by decide) (by decide)
  rw [e1] at z
  have := (inR_inB (x := a) (n := u 0 0 - 1) (by omega)).mpr z
  rw [show u 0 0 - 1 + 1 = u 0 0 by omega] at this
  exact this
/-- found, where it doesn't throw; or the item is missed and there is no such tray -/
theorem op_found (hI : Iv u) (hS : Sim u v) (a b : Int32) : (∃ (r : Int32) (u' v' : St), Iv u' ∧ Sim u' v' ∧ v' 0 0 = 0 ∧ XR l D ta pl bs yX4_found wsX4_found [.int a, .int b] u (.int r) u' ∧ MR l D ta pl bs yX5_found wsX5_found [.int a, .int b] v (.int r) v') ∨
    ((∃ i, 1 ≤ i ∧ i ≤ u 2 0 ∧ u 23 i = 2 ∧ a = nI i) ∧ ¬ inR b (u 0 0) ∧ MR l D ta pl bs yX5_found wsX5_found [.int a, .int b] v (.int (nI 0)) (st (st v 0 0 0) 0 0 1)) := by
  have hN : u 2 0 ≤ 400 := hI.1.2.2.2.1
  have e3 : v 5 0 = u 2 0 := hS.1.2.2.1
  have e1 := hS.1.1
  obtain ⟨a1, a2, a3, -⟩ := hI.1
  rcases item_cases hI hS a with ⟨h1, h2⟩ | ⟨i, h1, h2, rfl⟩
  · exact Or.inl ⟨-11, u, st v 0 0 0, hI, Sim_0 hS, rfl, XR.of (fun Z al => c_found_u a b h1) (by decide) (by decide), MR.of (fun Z al => m_found_u a b h2) (by decide) (by decide)⟩
  · obtain ⟨b1, b2, b3, b4, -⟩ := hS.2.2.1.1 i h1 h2
    have hlt := (hI.2.1 i h1 h2).1
    have hlt2 := (hI.2.1 i h1 h2).2.2.2.2.1
    have hq : nI (v 15 i) = nI 2 ↔ u 23 i = 2 := by rw [b3]; exact nI_eq (by omega) (by decide)
    by_cases hp : u 23 i = 2
    · by_cases ht : inR b (u 0 0)
      · obtain ⟨t, h3, rfl⟩ := inR_of (by omega) ht
        have ho : nI (v 16 i) = nI t ↔ u 24 i = t := by rw [b4]; exact nI_eq (by omega) (by omega)
        by_cases hx : u 24 i = t
        · refine Or.inl ⟨nI 1, st u 23 i 1, st (st (st v 0 0 0) 0 0 0) 15 i 1, Iv_place hI h1 h2 (Or.inr hp) (Or.inl rfl), Sim_place (Sim_0 (Sim_0 hS)) h2, ?_, XR.of (fun Z al => c_found_1 i t hI h1 h2 hp h3 hx) (by decide) (by decide), MR.of (fun Z al => m_found_1 i t h1 (by omega) (by omega) (by omega) (by omega) (hq.mpr hp) (by omega) (ho.mpr hx)) (by decide) (by decide)⟩
          rw [st_nf (by decide), st_self]
        · exact Or.inl ⟨nI 0, u, st (st v 0 0 0) 0 0 0, hI, Sim_0 (Sim_0 hS), st_self, XR.of (fun Z al => c_found_0 i t hI h1 h2 hp h3 hx) (by decide) (by decide), MR.of (fun Z al => m_found_0 i t h1 (by omega) (by omega) (by omega) (by omega) (hq.mpr hp) (by omega) (fun z => hx (ho.mp z))) (by decide) (by decide)⟩
      · refine Or.inr ⟨⟨i, h1, h2, hp, rfl⟩, ht, MR.of (fun Z al => m_found_t i b h1 (by omega) (by omega) (by omega) (by omega) (hq.mpr hp) (fun z => ht ?_)) (by decide) (by decide)⟩
        rw [e1] at z
        have := (inR_inB (x := b) (n := u 0 0 - 1) (by omega)).mpr z
        rw [show u 0 0 - 1 + 1 = u 0 0 by omega] at this
        exact this
    · exact Or.inl ⟨-13, u, st v 0 0 0, hI, Sim_0 hS, rfl, XR.of (fun Z al => c_found_s i b hI h1 h2 hp) (by decide) (by decide), MR.of (fun Z al => m_found_s i b h1 (by omega) (by omega) (fun z => hp (hq.mp z))) (by decide) (by decide)⟩
end OPS2
theorem cnt_congr {f g : Nat → Nat} : ∀ n, (∀ j, 1 ≤ j → j ≤ n → g j = f j) → cnt g n = cnt f n := by
  intro n
  induction n with
  | zero => intro _; rfl
  | succ n ih => intro h; show cnt g n + g (n + 1) = cnt f n + f (n + 1); rw [ih (fun j a b => h j a (by omega)), h (n + 1) (by omega) (by omega)]
/-- the state behind an induct -/
def adI (u : St) (j ln c : Nat) : St := finI (newI u ln c (j + 1)) j (u 30 0 + 1)
section ADI
variable {u : St} {j ln c : Nat}
theorem ad_k {f i : Nat} (h : f ≠ 12 ∧ f ≠ 2 ∧ f ≠ 9 ∧ f ≠ 40 + (j + 1)) : adI u j ln c f i = newI u ln c (j + 1) f i := by
  unfold adI finI
  rw [addL_k h.1 h.2.2.2, st_nf h.2.1, st_nf h.2.2.1]
theorem ad_o {f i : Nat} (h : f ≠ 12 ∧ f ≠ 2 ∧ f ≠ 9 ∧ f ≠ 40 + (j + 1)) (h2 : f ≠ 21 ∧ f ≠ 22 ∧ f ≠ 23 ∧ f ≠ 24 ∧ f ≠ 25 ∧ f ≠ 26 ∧ f ≠ 27 ∧ f ≠ 31 ∧ f ≠ 30) : adI u j ln c f i = u f i := by rw [ad_k h, newI_k h2]
theorem ad_i {f i : Nat} (h : f ≠ 12 ∧ f ≠ 2 ∧ f ≠ 9 ∧ f ≠ 40 + (j + 1)) (hi : i ≠ u 30 0 + 1) (h2 : f ≠ 30) : adI u j ln c f i = u f i := by rw [ad_k h, newI_i hi h2]
theorem ad_30 : adI u j ln c 30 0 = u 30 0 + 1 := by rw [ad_k (by omega)]; simp [newI]
theorem ad_2 : adI u j ln c 2 0 = u 2 0 + 1 := by
  unfold adI finI
  rw [addL_k (by decide) (by omega), st_self, st_nf (by decide), newI_k (by omega)]
theorem ad_9 {i : Nat} : adI u j ln c 9 i = if i = u 2 0 then u 30 0 + 1 else u 9 i := by
  unfold adI finI
  rw [addL_k (by decide) (by omega), st_nf (by decide), newI_k (by omega : (2 : Nat) ≠ 21 ∧ _)]
  by_cases h : i = u 2 0
  · rw [h, st_self, if_pos rfl]
  · rw [st_ni h, if_neg h, newI_k (by omega)]
theorem ad_12 {m : Nat} : adI u j ln c 12 m = if m = j + 1 then u 12 (j + 1) + 1 else u 12 m := by
  unfold adI finI addL
  by_cases h : m = j + 1
  · rw [h, st_self, if_pos rfl, st_nf (by omega), st_nf (by decide), st_nf (by decide), newI_k (by omega)]
  · rw [st_ni h, if_neg h, st_nf (by omega), st_nf (by decide), st_nf (by decide), newI_k (by omega)]
theorem ad_row {q : Nat} : adI u j ln c (40 + (j + 1)) q = if q = u 12 (j + 1) then u 30 0 + 1 else u (40 + (j + 1)) q := by
  unfold adI finI addL
  rw [st_nf (by omega)]
  have e : st (st (newI u ln c (j + 1)) 9 (newI u ln c (j + 1) 2 0) (u 30 0 + 1)) 2 0 (st (newI u ln c (j + 1)) 9 (newI u ln c (j + 1) 2 0) (u 30 0 + 1) 2 0 + 1) 12 (j + 1) = u 12 (j + 1) := by
    rw [st_nf (by decide), st_nf (by decide), newI_k (by omega)]
  rw [e]
  by_cases h : q = u 12 (j + 1)
  · rw [h, st_self, if_pos rfl]
  · rw [st_ni h, if_neg h, st_nf (by omega), st_nf (by omega), newI_k (by omega)]
theorem ad_n {f : Nat} (h : f ≠ 12 ∧ f ≠ 2 ∧ f ≠ 9 ∧ f ≠ 40 + (j + 1)) : adI u j ln c f (u 30 0 + 1) = if f = 21 then ln else if f = 22 then c else if f = 23 ∨ f = 24 ∨ f = 25 ∨ f = 26 ∨ f = 27 then 0 else if f = 31 then j + 1 else u f (u 30 0 + 1) := by
  rw [ad_k h]; simp [newI]
end ADI
theorem Iv_ad {u : St} (hI : Iv u) {j ln c : Nat} (hj : j < 4) (hl : 1 ≤ ln ∧ ln ≤ 2) (hc : c < 16) (hr : u 2 0 < 400) (hw : u 12 (j + 1) < 8) : Iv (adI u j ln c) := by
  obtain ⟨⟨a1, a2, a3, a4, a5, a6, a7⟩, i2, i3, ⟨i4, i4', i7⟩, i5, i6⟩ := hI
  have ko : ∀ f i, (f = 0 ∨ f = 3 ∨ f = 4 ∨ f = 5 ∨ f = 7 ∨ f = 8 ∨ f = 10) → adI u j ln c f i = u f i := fun f i h => ad_o (by omega) (by omega)
  have ki : ∀ f i, (f = 21 ∨ f = 22 ∨ f = 23 ∨ f = 24 ∨ f = 31) → i ≠ u 2 0 + 1 → adI u j ln c f i = u f i := fun f i h hi => ad_i (by omega) (by omega) (by omega)
  have n23 : adI u j ln c 23 (u 2 0 + 1) = 0 := by rw [← a5, ad_n (by omega)]; rfl
  have n31 : adI u j ln c 31 (u 2 0 + 1) = j + 1 := by rw [← a5, ad_n (by omega)]; rfl
  have eb : ∀ t, tB (adI u j ln c) t = tB u t := fun t => by simp [tB, ko]
  refine ⟨?_, ?_, ?_, ⟨?_, ?_, ?_⟩, ?_, ?_⟩
  · unfold Iv1
    rw [ad_2, ad_30, ko 0 0 (by omega), ko 7 0 (by omega), ko 5 0 (by omega)]
    exact ⟨a1, a2, a3, by omega, by omega, a6, a7⟩
  · intro i ia ib
    rw [ad_2] at ib
    by_cases hi : i = u 2 0 + 1
    · have e : ∀ f, (f = 21 ∨ f = 22 ∨ f = 24) → adI u j ln c f i = if f = 21 then ln else if f = 22 then c else if f = 23 ∨ f = 24 ∨ f = 25 ∨ f = 26 ∨ f = 27 then 0 else if f = 31 then j + 1 else u f (u 30 0 + 1) := fun f hf => by rw [hi, ← a5, ad_n (by omega)]
      rw [e 22 (by omega), e 21 (by omega), e 24 (by omega), hi, n23, n31, ko 0 0 (by omega)]
      exact ⟨by decide, by simpa using hc, by simpa using hl.1, by simpa using hl.2, by simpa using (by omega : 0 < u 0 0), by omega, by omega⟩
    · rw [ki 23 i (by omega) hi, ki 22 i (by omega) hi, ki 21 i (by omega) hi, ki 24 i (by omega) hi, ki 31 i (by omega) hi, ko 0 0 (by omega)]
      exact i2 i ia (by omega)
  · intro t
    obtain ⟨c1, c2⟩ := i3 t
    rw [ko 8 t (by omega), ad_2]
    refine ⟨by omega, fun z => ?_⟩
    rw [ki 23 _ (by omega) (by omega), ki 24 _ (by omega) (by omega), ki 21 _ (by omega) (by omega), eb]
    exact c2 z
  · rw [ko 4 0 (by omega), ad_2, i4]
    show _ = cnt (onL (adI u j ln c)) (u 2 0) + onL (adI u j ln c) (u 2 0 + 1)
    rw [cnt_congr (f := onL u) (g := onL (adI u j ln c)) _ (fun i ia ib => by unfold onL; rw [ki 23 i (by omega) (by omega)])]
    have : onL (adI u j ln c) (u 2 0 + 1) = 0 := by unfold onL; rw [n23]; rfl
    omega
  · rw [ko 3 0 (by omega), ad_2, i4']
    show _ = cnt (isOut (adI u j ln c)) (u 2 0) + isOut (adI u j ln c) (u 2 0 + 1)
    rw [cnt_congr (f := isOut u) (g := isOut (adI u j ln c)) _ (fun i ia ib => by unfold isOut; rw [ki 23 i (by omega) (by omega)])]
    have : isOut (adI u j ln c) (u 2 0 + 1) = 0 := by unfold isOut; rw [n23]; rfl
    omega
  · intro i hi
    rw [ko 3 0 (by omega)] at hi
    have := (i6.2 i).1
    rw [ko 10 i (by omega), ki 23 _ (by omega) (by omega)]
    exact i7 i hi
  · intro n na nb
    rw [ad_2]
    obtain ⟨r1, r2, r3, r4, r5⟩ := i5 n na nb
    by_cases hn : n = j + 1
    · subst hn
      have kr : ∀ q, q ≠ u 12 (j + 1) → adI u j ln c (40 + (j + 1)) q = u (40 + (j + 1)) q := fun q hq => by rw [ad_row, if_neg hq]
      have kw : adI u j ln c (40 + (j + 1)) (u 12 (j + 1)) = u 2 0 + 1 := by rw [ad_row, if_pos rfl, a5]
      rw [ad_12, if_pos rfl]
      refine ⟨by omega, fun q => ?_, fun q hq => ?_, fun q hq => ?_, fun i ia ib ic id => ?_⟩
      · by_cases hqw : q = u 12 (j + 1)
        · rw [hqw, kw]; omega
        · rw [kr q hqw]; have := r2 q; omega
      · by_cases hqw : q = u 12 (j + 1)
        · rw [hqw, kw, n23, n31]; exact ⟨by omega, rfl, rfl⟩
        · obtain ⟨c1, c2, c3⟩ := r3 q (by omega)
          have := r2 q
          rw [kr q hqw, ki 23 _ (by omega) (by omega), ki 31 _ (by omega) (by omega)]
          exact ⟨c1, c2, c3⟩
      · by_cases hqw : q + 1 = u 12 (j + 1)
        · have := r2 q
          rw [kr q (by omega), hqw, kw]; omega
        · rw [kr q (by omega), kr (q + 1) hqw]; exact r4 q (by omega)
      · by_cases hi : i = u 2 0 + 1
        · exact ⟨u 12 (j + 1), by omega, by rw [kw, hi]⟩
        · rw [ki 23 i (by omega) hi] at ic
          rw [ki 31 i (by omega) hi] at id
          obtain ⟨q, q1, q2⟩ := r5 i ia (by omega) ic id
          exact ⟨q, by omega, by rw [kr q (by omega)]; exact q2⟩
    · have e40 : ∀ q, adI u j ln c (40 + n) q = u (40 + n) q := fun q => ad_o (by omega) (by omega)
      rw [ad_12, if_neg hn]
      simp only [e40]
      refine ⟨r1, fun q => by have := r2 q; omega, fun q hq => ?_, r4, fun i ia ib ic id => ?_⟩
      · obtain ⟨c1, c2, c3⟩ := r3 q hq
        have := r2 q
        rw [ki 23 _ (by omega) (by omega), ki 31 _ (by omega) (by omega)]
        exact ⟨c1, c2, c3⟩
      · by_cases hi : i = u 2 0 + 1
        · rw [hi, n31] at id; omega
        · rw [ki 23 i (by omega) hi] at ic
          rw [ki 31 i (by omega) hi] at id
          exact r5 i ia (by omega) ic id
  · refine ⟨fun q => ?_, fun q => ?_⟩
    · rw [ad_9, ad_2]
      by_cases hq : q = u 2 0
      · rw [if_pos hq]; omega
      · rw [if_neg hq]; have := i6.1 q; exact ⟨by omega, fun h => this.2 (by omega)⟩
    · rw [ko 10 q (by omega), ko 3 0 (by omega), ad_2]
      have := i6.2 q
      exact ⟨by omega, this.2⟩
