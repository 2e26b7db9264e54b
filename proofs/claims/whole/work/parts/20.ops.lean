/-! each call: its answers and its states, class beside model -/
theorem room_up {s : State} {pl : Platform} {r r' : Room} (hf : r.frames ≤ r'.frames) (hl : r.locals ≤ r'.locals) (hc : r.cells ≤ r'.cells) (hs : r.slots ≤ r'.slots) (h : s.hasRoom pl r' = true) : s.hasRoom pl r = true := by
  unfold State.hasRoom at *
  simp only [Bool.and_eq_true, decide_eq_true_eq] at *
  obtain ⟨⟨⟨⟨a, b1, b2, b3, b4, b5⟩, c⟩, d⟩, e⟩ := h
  exact ⟨⟨⟨⟨by omega, by omega, by omega, by omega, by omega, b5⟩, by omega⟩, by omega⟩, e⟩
theorem Met.up {l : Launch} {y : MethodName} {ws : List Cond} {rm rm' : Room} {Pc : Array Value → State → Prop} {Qc : Array Value → State → Outcome → State → Prop} {mc ms mc' ms' : Nat} {free : Addr → Prop} (h : Met l y ws rm Pc Qc mc ms free)
    (hf : rm.frames ≤ rm'.frames) (hl : rm.locals ≤ rm'.locals) (hc : rm.cells ≤ rm'.cells) (hs : rm.slots ≤ rm'.slots) (hm : mc ≤ mc') (hn : ms ≤ ms') : Met l y ws rm' Pc Qc mc' ms' free := by
  intro p e ha hcas hclk s m args below hfr happ hP hK
  have happ' : (headSpec ws rm).appliesLoose y e.platform s = true := by
    unfold Spec.appliesLoose at happ ⊢
    rw [hfr] at happ ⊢
    simp only [Bool.and_eq_true] at happ ⊢
    exact ⟨⟨happ.1.1, room_up hf hl hc hs happ.1.2⟩, happ.2⟩
  obtain ⟨n, o, h1, h2, h3, hq, L, ⟨f1, f2, f3⟩, hL⟩ := h p e ha hcas hclk s m args below hfr happ' hP hK
  exact ⟨n, o, h1, h2, h3, hq, L, ⟨f1, f2, f3.mono hm hn⟩, hL⟩
/-- the class' side of a call -/
def XR (l : Launch) (D : va_G) (ta : Nat → ClassId) (pl : Nat → Nat) (bs : Nat) (y : MethodName) (ws : List Cond) (av : List Value) (u : St) (rv : Value) (u' : St) : Prop :=
  ∀ (Z : Wo) (al : Ad), GM l D ta pl bs y ws { frames := 8, cells := 1, slots := 8, locals := 240 } 1 8 (.ref (al 0 0) :: av) al (mC Z ta pl al u) (fun r al' C' => r = some rv ∧ (∀ k i, k ≠ 9 → al' k i = al k i) ∧ C' = mC Z ta pl al' u')
/-- the model's side -/
def MR (l : Launch) (D : va_G) (ta : Nat → ClassId) (pl : Nat → Nat) (bs : Nat) (y : MethodName) (ws : List Cond) (av : List Value) (v : St) (rv : Value) (v' : St) : Prop :=
  ∀ (Z : Wo) (al : Ad), GD l D ta pl bs y ws (rmF 8 240) (.ref (al 10 0) :: av) al (mM Z ta al v) (some rv) (mM Z ta al v')
theorem XR.of {l : Launch} {D : va_G} {ta : Nat → ClassId} {pl : Nat → Nat} {bs : Nat} {y : MethodName} {ws : List Cond} {f lo : Nat} {av : List Value} {u : St} {rv : Value} {u' : St} (h : ∀ (Z : Wo) (al : Ad), GD l D ta pl bs y ws (rmF f lo) (.ref (al 0 0) :: av) al (mC Z ta pl al u) (some rv) (mC Z ta pl al u')) (hf : f ≤ 8) (hl : lo ≤ 240) : XR l D ta pl bs y ws av u rv u' := by
  intro Z al
  have h1 := Met.up (rm' := { frames := 8, cells := 1, slots := 8, locals := 240 }) (mc' := 1) (ms' := 8) (h Z al) hf hl (Nat.zero_le _) (Nat.zero_le _) (Nat.zero_le _) (Nat.zero_le _)
  intro p e ha hcas hclk s m args below hfr happ hP hK
  obtain ⟨n, o, a1, a2, a3, ⟨⟨rv', al', C', b1, ⟨rfl, rfl, rfl⟩, b3⟩, b4⟩, b5⟩ := h1 p e ha hcas hclk s m args below hfr happ hP hK
  exact ⟨n, o, a1, a2, a3, ⟨⟨_, _, _, b1, ⟨rfl, fun _ _ _ => rfl, rfl⟩, b3⟩, b4⟩, b5⟩
theorem MR.of {l : Launch} {D : va_G} {ta : Nat → ClassId} {pl : Nat → Nat} {bs : Nat} {y : MethodName} {ws : List Cond} {f lo : Nat} {av : List Value} {v : St} {rv : Value} {v' : St} (h : ∀ (Z : Wo) (al : Ad), GD l D ta pl bs y ws (rmF f lo) (.ref (al 10 0) :: av) al (mM Z ta al v) (some rv) (mM Z ta al v')) (hf : f ≤ 8) (hl : lo ≤ 240) : MR l D ta pl bs y ws av v rv v' :=
  fun Z al => Met.up (h Z al) hf hl (Nat.zero_le _) (Nat.zero_le _) (Nat.zero_le _) (Nat.zero_le _)
theorem MR.ofe {l : Launch} {D : va_G} {ta : Nat → ClassId} {pl : Nat → Nat} {bs : Nat} {y : MethodName} {ws : List Cond} {f lo : Nat} {av : List Value} {v : St} {rv rv0 : Value} {v' : St} (e : rv0 = rv) (h : ∀ (Z : Wo) (al : Ad), GD l D ta pl bs y ws (rmF f lo) (.ref (al 10 0) :: av) al (mM Z ta al v) (some rv0) (mM Z ta al v')) (hf : f ≤ 8) (hl : lo ≤ 240) : MR l D ta pl bs y ws av v rv v' := by
  subst e; exact MR.of h hf hl
theorem Sim_0 {u v : St} (h : Sim u v) {x : Nat} : Sim u (st v 0 0 x) := Sim_v h (fun f j h0 _ => st_nf h0)
theorem Sim.j {u v : St} (hI : Iv u) (h : Sim u v) : Jv v := ⟨u, hI, h⟩
theorem i32_cases (x : Int32) (n : Nat) (hn : n < 2 ^ 31) : (x < 0 ∨ nI n ≤ x) ∨ ∃ j, j < n ∧ x = nI j := by
  rcases pk_ix x hn with h | h | h
  · exact Or.inl (Or.inl h)
  · exact Or.inl (Or.inr h)
  · exact Or.inr h
section OPS
variable {l : Launch} {D : va_G} {ta : Nat → ClassId} {pl : Nat → Nat} {bs : Nat} {u v : St}
theorem op_step (hI : Iv u) (hS : Sim u v) (a : Int32) : ∃ (r : Int32) (u' v' : St), Iv u' ∧ Sim u' v' ∧ XR l D ta pl bs yX4_step wsX4_step [.int a] u (.int r) u' ∧ MR l D ta pl bs yX5_step wsX5_step [.int a] v (.int r) v' := by
  rcases i32_cases a 1001 (by decide) with h | ⟨n, hn, rfl⟩
  · refine ⟨-12, u, st v 0 0 0, hI, Sim_0 hS, XR.of (fun Z al => c_step_u a ?_) (by decide) (by decide), MR.of (fun Z al => m_step_u a ?_) (by decide) (by decide)⟩
    · rcases h with h | h
      · exact Or.inl h
      · refine Or.inr (fun z => ?_)
        rw [Int32.le_iff_toInt_le, nI_toInt (by decide)] at h z; omega
    · intro z
      rcases h with h | h
      · exact z.1 h
      · refine z.2 ?_
        rw [Int32.le_iff_toInt_le, nI_toInt (by decide)] at h
        rw [Int32.lt_iff_toInt_lt, nI_toInt (by decide)]; omega
  · have h0 := Sim_0 (x := 0) hS
    have h1 := Sim_runN hI h0 n
    refine ⟨nI (runN n u 3 0) - nI (u 3 0), runN n u, mRuN n (st v 0 0 0), Iv_runN hI n, h1, XR.of (fun Z al => c_step n hI (by omega)) (by decide) (by decide), MR.ofe (by rw [h1.1.2.2.2.1, h0.1.2.2.2.1]) (fun Z al => m_step n (Sim.j hI hS) (by omega)) (by decide) (by decide)⟩
theorem op_speed (hI : Iv u) (hS : Sim u v) (a : Int32) : ∃ (r : Int32) (u' v' : St), Iv u' ∧ Sim u' v' ∧ XR l D ta pl bs yX4_speed wsX4_speed [.int a] u (.int r) u' ∧ MR l D ta pl bs yX5_speed wsX5_speed [.int a] v (.int r) v' := by
  by_cases h : inB a 1 5
  · have h1 := h.1; have h2 := h.2
    rw [Int32.lt_iff_toInt_lt, nI_toInt (by decide)] at h1 h2
    obtain ⟨n, hn, rfl⟩ := nI_of (x := a) (by rw [Int32.lt_iff_toInt_lt, Int32.toInt_zero]; omega)
    rw [nI_toInt hn] at h1 h2
    refine ⟨nI (u 5 0), st u 5 0 n, st (st v 0 0 0) 3 0 n, ?_, ?_, XR.of (fun Z al => c_speed_1 n (by omega) (by omega)) (by decide) (by decide), MR.ofe (by rw [hS.1.2.2.2.2.1]) (fun Z al => m_speed_1 n (by omega) (by omega)) (by decide) (by decide)⟩
    · have e : ∀ f j, f ≠ 5 → st u 5 0 n f j = u f j := fun f j hf => st_nf hf
      have eo : onL (st u 5 0 n) = onL u := by funext i; simp [onL, e]
      have ei : isOut (st u 5 0 n) = isOut u := by funext i; simp [isOut, e]
      have eb : ∀ t, tB (st u 5 0 n) t = tB u t := fun t => by simp [tB, e]
      obtain ⟨i1, i2, i3, i4, i5, i6⟩ := hI
      refine ⟨?_, ?_, ?_, ?_, ?_, ?_⟩
      · unfold Iv1 at *
        rw [st_self, e 0 0 (by decide), e 7 0 (by decide), e 2 0 (by decide), e 30 0 (by decide)]
        obtain ⟨a1, a2, a3, a4, a5, -⟩ := i1
        exact ⟨a1, a2, a3, a4, a5, by omega, by omega⟩
      · unfold Iv2 at *; simp (disch := decide) only [e]; exact i2
      · unfold Iv3 at *; simp (disch := decide) only [e, eb]; exact i3
      · unfold Iv4 at *; simp (disch := decide) only [e, eo, ei]; exact i4
      · unfold Iv5 at *; simp (disch := omega) only [e]; exact i5
      · unfold Iv6 at *; simp (disch := decide) only [e]; exact i6
    · have e : ∀ f j, f ≠ 5 → st u 5 0 n f j = u f j := fun f j hf => st_nf hf
      have ev : ∀ f j, f ≠ 3 → f ≠ 0 → st (st v 0 0 0) 3 0 n f j = v f j := fun f j h1 h2 => by rw [st_nf h1, st_nf h2]
      have et : ∀ q, tA (st u 5 0 n) q = tA u q := fun q => by simp [tA, e]
      obtain ⟨m0, m1, m3, m4, m5⟩ := hS
      refine ⟨?_, ?_, ?_, ?_, ?_⟩
      · unfold Sm1 at *
        simp (disch := decide) only [e, ev]
        rw [st_self, st_self]
        obtain ⟨a1, a2, a3, a4, -, a6⟩ := m0
        exact ⟨a1, a2, a3, a4, rfl, a6⟩
      · unfold Sm2 at *; simp (disch := decide) only [e, ev, et]; exact m1
      · unfold Sm3 at *; simp (disch := decide) only [e, ev]; exact m3
      · unfold Sm4 at *; simp (disch := decide) only [e, ev]; exact m4
      · unfold Sm5 at *; simp (disch := decide) only [e, ev]; exact m5
  · refine ⟨-12, u, st v 0 0 0, hI, Sim_0 hS, XR.of (fun Z al => c_speed_u a ?_) (by decide) (by decide), MR.of (fun Z al => m_speed_u a h) (by decide) (by decide)⟩
    by_cases h1 : a < nI 1
    · exact Or.inl h1
    · refine Or.inr (fun z => h ⟨h1, ?_⟩)
      rw [Int32.le_iff_toInt_le] at z
      rw [Int32.lt_iff_toInt_lt]; omega
theorem op_share (hI : Iv u) (hS : Sim u v) (a : Int32) : ∃ (r : Int64) (u' v' : St), Iv u' ∧ Sim u' v' ∧ XR l D ta pl bs yX4_share wsX4_share [.int a] u (.long r) u' ∧ MR l D ta pl bs yX5_share wsX5_share [.int a] v (.long r) v' := by
  rcases i32_cases a 4 (by decide) with h | ⟨j, hj, rfl⟩
  · refine ⟨-11, u, st v 0 0 0, hI, Sim_0 hS, XR.of (fun Z al => c_share_u a ?_) (by decide) (by decide), MR.of (fun Z al => m_share_u a ?_) (by decide) (by decide)⟩
    · exact fun z => h.elim z.1 z.2
    · intro z
      rcases h with h | h
      · exact z.1 h
      · refine z.2 ?_
        rw [Int32.le_iff_toInt_le, nI_toInt (by decide)] at h
        rw [Int32.lt_iff_toInt_lt, nI_toInt (by decide)]; omega
  · refine ⟨lN (u 13 (j + 1)), u, st v 0 0 0, hI, Sim_0 hS, XR.of (fun Z al => c_share_1 j hj) (by decide) (by decide), MR.ofe (by rw [hS.2.2.2.1.1 j hj]) (fun Z al => m_share_1 j hj) (by decide) (by decide)⟩
/-- an item's number, or none such -/
theorem item_cases (hI : Iv u) (hS : Sim u v) (a : Int32) : ((a < nI 1 ∨ ¬ a ≤ nI (u 2 0)) ∧ ¬ inB a 1 (v 5 0)) ∨ ∃ i, 1 ≤ i ∧ i ≤ u 2 0 ∧ a = nI i := by
  have hN : u 2 0 ≤ 400 := hI.1.2.2.2.1
  have e3 : v 5 0 = u 2 0 := hS.1.2.2.1
  by_cases h1 : a < nI 1
  · exact Or.inl ⟨Or.inl h1, fun z => z.1 h1⟩
  · by_cases h2 : nI (u 2 0) < a
    · refine Or.inl ⟨Or.inr (fun z => ?_), fun z => z.2 (by rw [e3]; exact h2)⟩
      rw [Int32.le_iff_toInt_le] at z; rw [Int32.lt_iff_toInt_lt] at h2; omega
    · rw [Int32.lt_iff_toInt_lt, nI_toInt (by decide)] at h1
      obtain ⟨n, hn, rfl⟩ := nI_of (x := a) (by rw [Int32.lt_iff_toInt_lt, Int32.toInt_zero]; omega)
      rw [Int32.lt_iff_toInt_lt, nI_toInt hn, nI_toInt (by omega)] at h2
      rw [nI_toInt hn] at h1
      exact Or.inr ⟨n, by omega, by omega, rfl⟩
theorem op_round (hI : Iv u) (hS : Sim u v) (a : Int32) : ∃ (r : Int32) (u' v' : St), Iv u' ∧ Sim u' v' ∧ XR l D ta pl bs yX4_round wsX4_round [.int a] u (.int r) u' ∧ MR l D ta pl bs yX5_round wsX5_round [.int a] v (.int r) v' := by
  have hN : u 2 0 ≤ 400 := hI.1.2.2.2.1
  have e3 : v 5 0 = u 2 0 := hS.1.2.2.1
  rcases item_cases hI hS a with ⟨h1, h2⟩ | ⟨i, h1, h2, rfl⟩
  · exact ⟨-11, u, st v 0 0 0, hI, Sim_0 hS, XR.of (fun Z al => c_round_u a h1) (by decide) (by decide), MR.of (fun Z al => m_round_u a h2) (by decide) (by decide)⟩
  · refine ⟨nI (u 25 i), u, st v 0 0 0, hI, Sim_0 hS, XR.of (fun Z al => c_round_1 i hI h1 h2) (by decide) (by decide), MR.ofe (by rw [(hS.2.2.1.1 i h1 h2).2.2.2.2.1]) (fun Z al => m_round_1 i h1 (by omega) (by omega)) (by decide) (by decide)⟩
theorem Iv_place (hI : Iv u) {i x : Nat} (h1 : 1 ≤ i) (h2 : i ≤ u 2 0) (h3 : u 23 i = 1 ∨ u 23 i = 2) (hx : x = 1 ∨ x = 2) : Iv (st u 23 i x) := by
  have e : ∀ f j, f ≠ 23 → st u 23 i x f j = u f j := fun f j hf => st_nf hf
  have e23 : ∀ j, st u 23 i x 23 j = if j = i then x else u 23 j := fun j => by
    by_cases hj : j = i
    · rw [hj, st_self, if_pos rfl]
    · rw [st_ni hj, if_neg hj]
  have eo : onL (st u 23 i x) = onL u := by
    funext j; unfold onL; rw [e23]
    by_cases hj : j = i
    · subst hj; rw [if_pos rfl, if_pos hx, if_pos h3]
    · rw [if_neg hj]
  have ei : isOut (st u 23 i x) = isOut u := by
    funext j; unfold isOut; rw [e23]
    by_cases hj : j = i
    · subst hj; rw [if_pos rfl, if_neg (by omega), if_neg (by omega)]
    · rw [if_neg hj]
  have eb : ∀ t, tB (st u 23 i x) t = tB u t := fun t => by simp [tB, e]
  obtain ⟨i1, i2, i3, ⟨i4, i4', i7⟩, i5, i6⟩ := hI
  refine ⟨?_, ?_, ?_, ⟨?_, ?_, ?_⟩, ?_, ?_⟩
  · unfold Iv1 at *; simp (disch := decide) only [e]; exact i1
  · intro j ja jb
    rw [e 2 0 (by decide)] at jb
    simp (disch := decide) only [e]
    obtain ⟨c1, c2⟩ := i2 j ja jb
    refine ⟨?_, c2⟩
    rw [e23]; split <;> omega
  · intro t
    simp (disch := decide) only [e, eb]
    obtain ⟨c1, c2⟩ := i3 t
    refine ⟨c1, fun z => ⟨?_, (c2 z).2⟩⟩
    rw [e23]
    split
    · exact hx
    · exact (c2 z).1
  · rw [e 4 0 (by decide), e 2 0 (by decide), eo]; exact i4
  · rw [e 3 0 (by decide), e 2 0 (by decide), ei]; exact i4'
  · intro j hj
    rw [e 3 0 (by decide)] at hj
    have := i7 j hj
    rw [e 10 j (by decide), e23, if_neg (fun z => by rw [z] at this; omega)]; exact this
  · intro n na nb
    obtain ⟨r1, r2, r3, r4, r5⟩ := i5 n na nb
    simp (disch := omega) only [e]
    refine ⟨r1, r2, fun j hj => ?_, r4, fun j ja jb jc jd => ?_⟩
    · obtain ⟨c1, c2, c3⟩ := r3 j hj
      rw [e23, if_neg (fun z => by rw [z] at c2; omega)]
      exact ⟨c1, c2, c3⟩
    · rw [e23] at jc
      by_cases hj : j = i
      · rw [if_pos hj] at jc; omega
      · rw [if_neg hj] at jc; exact r5 j ja jb jc jd
  · unfold Iv6 at *; simp (disch := decide) only [e]; exact i6
theorem Sim_place (hS : Sim u v) {i x : Nat} (h2 : i ≤ u 2 0) : Sim (st u 23 i x) (st v 15 i x) := by
  have e : ∀ f j, f ≠ 23 → st u 23 i x f j = u f j := fun f j hf => st_nf hf
  have ev : ∀ f j, f ≠ 15 → st v 15 i x f j = v f j := fun f j hf => st_nf hf
  have et : ∀ q, tA (st u 23 i x) q = tA u q := fun q => by simp [tA, e]
  obtain ⟨m0, m1, ⟨m3, m3'⟩, m4, m5⟩ := hS
  refine ⟨?_, ?_, ⟨fun j ja jb => ?_, fun j ja => ?_⟩, ?_, ?_⟩
  · unfold Sm1 at *; simp (disch := decide) only [e, ev]; exact m0
  · unfold Sm2 at *; simp (disch := decide) only [e, ev, et]; exact m1
  · rw [e 2 0 (by decide)] at jb
    simp (disch := decide) only [e, ev]
    obtain ⟨b1, b2, b3, b4⟩ := m3 j ja jb
    refine ⟨b1, b2, ?_, b4⟩
    by_cases hj : j = i
    · rw [hj, st_self, st_self]
    · rw [st_ni hj, st_ni hj]; exact b3
  · rw [e 2 0 (by decide)] at ja
    simp (disch := decide) only [ev]
    rw [st_ni (by omega)]
    exact m3' j ja
  · unfold Sm4 at *; simp (disch := decide) only [e, ev]; exact m4
  · unfold Sm5 at *; simp (disch := decide) only [e, ev]; exact m5
theorem op_missed (hI : Iv u) (hS : Sim u v) (a : Int32) : ∃ (r : Int32) (u' v' : St), Iv u' ∧ Sim u' v' ∧ XR l D ta pl bs yX4_missed wsX4_missed [.int a] u (.int r) u' ∧ MR l D ta pl bs yX5_missed wsX5_missed [.int a] v (.int r) v' := by
  have hN : u 2 0 ≤ 400 := hI.1.2.2.2.1
  have e3 : v 5 0 = u 2 0 := hS.1.2.2.1
  rcases item_cases hI hS a with ⟨h1, h2⟩ | ⟨i, h1, h2, rfl⟩
  · exact ⟨-11, u, st v 0 0 0, hI, Sim_0 hS, XR.of (fun Z al => c_missed_u a h1) (by decide) (by decide), MR.of (fun Z al => m_missed_u a h2) (by decide) (by decide)⟩
  · obtain ⟨b1, b2, b3, b4, -⟩ := hS.2.2.1.1 i h1 h2
    have hlt := (hI.2.1 i h1 h2).1
    have hq : nI (v 15 i) = nI 1 ↔ u 23 i = 1 := by rw [b3]; exact nI_eq (by omega) (by decide)
    by_cases hp : u 23 i = 1
    · refine ⟨nI (u 24 i), st u 23 i 2, st (st v 0 0 0) 15 i 2, Iv_place hI h1 h2 (Or.inl hp) (Or.inr rfl), Sim_place (Sim_0 hS) h2, XR.of (fun Z al => c_missed_1 i hI h1 h2 hp) (by decide) (by decide), MR.ofe (by rw [b4]) (fun Z al => m_missed_1 i h1 (by omega) (by omega) (hq.mpr hp)) (by decide) (by decide)⟩
    · exact ⟨-13, u, st v 0 0 0, hI, Sim_0 hS, XR.of (fun Z al => c_missed_s i hI h1 h2 hp) (by decide) (by decide), MR.of (fun Z al => m_missed_s i h1 (by omega) (by omega) (fun z => hp (hq.mp z))) (by decide) (by decide)⟩
theorem op_out (hI : Iv u) (hS : Sim u v) (a b : Int32) : ∃ (r : Int32) (u' v' : St), Iv u' ∧ Sim u' v' ∧ XR l D ta pl bs yX4_out wsX4_out [.int a, .int b] u (.int r) u' ∧ MR l D ta pl bs yX5_out wsX5_out [.int a, .int b] v (.int r) v' := by
  have hg := hI.le3
  have hN : u 2 0 ≤ 400 := hI.1.2.2.2.1
  have e4 : v 6 0 = u 3 0 := hS.1.2.2.2.1
  by_cases h : a < 0 ∨ ¬ a < nI (u 3 0)
  · exact ⟨-11, u, st v 0 0 0, hI, Sim_0 hS, XR.of (fun Z al => c_out_u a b h) (by decide) (by decide), MR.of (fun Z al => m_out_u a b (by rw [e4]; exact h)) (by decide) (by decide)⟩
  · have h0 : ¬ a < 0 := fun z => h (Or.inl z)
    have h1 : a < nI (u 3 0) := by
      by_cases q : a < nI (u 3 0)
      · exact q
      · exact absurd (Or.inr q) h
    obtain ⟨j, hj, rfl⟩ := nI_of h0
    rw [nI_ltI hj (by omega)] at h1
    obtain ⟨s1, s2, s3⟩ := hS.2.2.2.2 j h1
    have hb := hI.2.2.2.2.2.2 j
    have hb1 := hb.2 h1
    have s4 := (hS.2.2.1.1 (u 10 j) hb1 hb.1).2.2.2.2.1
    by_cases hy : inB b 0 3
    · have y1 := hy.1; have y2 := hy.2
      rw [Int32.lt_iff_toInt_lt, nI_toInt (by decide)] at y1 y2
      obtain ⟨k, hk, rfl⟩ := nI_of (x := b) (by rw [Int32.lt_iff_toInt_lt, Int32.toInt_zero]; omega)
      rw [nI_toInt hk] at y1 y2
      rcases (show k = 0 ∨ k = 1 ∨ k = 2 ∨ k = 3 by omega) with rfl | rfl | rfl | rfl
      · refine ⟨_, u, st v 0 0 0, hI, Sim_0 hS, XR.of (fun Z al => c_out_0 j hI h1) (by decide) (by decide), MR.ofe (by rw [s1]) (fun Z al => m_out_0 j (by omega) (by omega) (by omega)) (by decide) (by decide)⟩
      · refine ⟨_, u, st v 0 0 0, hI, Sim_0 hS, XR.of (fun Z al => c_out_1 j hI h1) (by decide) (by decide), MR.ofe (by rw [s2]) (fun Z al => m_out_1 j (by omega) (by omega) (by omega)) (by decide) (by decide)⟩
      · refine ⟨_, u, st v 0 0 0, hI, Sim_0 hS, XR.of (fun Z al => c_out_2 j hI h1) (by decide) (by decide), MR.ofe (by rw [s3]) (fun Z al => m_out_2 j (by omega) (by omega) (by omega)) (by decide) (by decide)⟩
      · refine ⟨_, u, st v 0 0 0, hI, Sim_0 hS, XR.of (fun Z al => c_out_3 j hI h1) (by decide) (by decide), MR.ofe (by rw [s1, s4]) (fun Z al => m_out_3 j (by omega) (by omega) (by omega)) (by decide) (by decide)⟩
    · refine ⟨-12, u, st v 0 0 0, hI, Sim_0 hS, XR.of (fun Z al => c_out_o j b hI h1 ?_) (by decide) (by decide), MR.of (fun Z al => m_out_o j b (by omega) (by omega) hy) (by decide) (by decide)⟩
      by_cases q : b.toInt < 0
      · exact Or.inl q
      · by_cases q2 : 3 < b.toInt
        · exact Or.inr q2
        · refine absurd ⟨?_, ?_⟩ hy
          · rw [Int32.lt_iff_toInt_lt, nI_toInt (by decide)]; exact q
          · rw [Int32.lt_iff_toInt_lt, nI_toInt (by decide)]; exact q2
end OPS
