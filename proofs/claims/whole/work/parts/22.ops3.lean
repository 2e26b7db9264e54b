section MAD
variable {v : St} {k y z : Nat}
theorem md_5 : mAdd v k y z 5 0 = v 5 0 + 1 := by simp [mAdd, st]
theorem md_k {f i : Nat} (h : f ≠ 5 ∧ f ≠ 18 ∧ f ≠ 13 ∧ f ≠ 14) : mAdd v k y z f i = v f i := by simp [mAdd, st, h]
theorem md_i {f i : Nat} (h : i ≠ v 5 0 + 1) (h2 : f ≠ 5) : mAdd v k y z f i = v f i := by
  have e1 : ¬ i = v 5 0 + 1 := h
  simp [mAdd, st, e1, h2]
theorem md_18 : mAdd v k y z 18 (v 5 0 + 1) = k := by simp [mAdd, st]
theorem md_13 : mAdd v k y z 13 (v 5 0 + 1) = y := by simp [mAdd, st]
theorem md_14 : mAdd v k y z 14 (v 5 0 + 1) = z := by simp [mAdd, st]
end MAD
theorem Sim_ad {u v : St} (hI : Iv u) (hS : Sim u v) {j ln c : Nat} : Sim (adI u j ln c) (mAdd v j ln c) := by
  obtain ⟨⟨e1, e2, e3, e4, e5, e6⟩, ⟨m1, m2⟩, ⟨m3, m3'⟩, ⟨m4, m4'⟩, m5⟩ := hS
  obtain ⟨⟨a1, a2, a3, a4, a5, a6, a7⟩, i2, i3, ⟨i4, i4', i7⟩, i5, i6⟩ := hI
  have ko : ∀ f i, (f = 0 ∨ f = 1 ∨ f = 3 ∨ f = 5 ∨ f = 6 ∨ f = 7 ∨ f = 8 ∨ f = 10 ∨ f = 13 ∨ f = 18 ∨ f = 19) → adI u j ln c f i = u f i := fun f i h => ad_o (by omega) (by omega)
  have ki : ∀ f i, (f = 21 ∨ f = 22 ∨ f = 23 ∨ f = 24 ∨ f = 25 ∨ f = 26 ∨ f = 27 ∨ f = 31) → i ≠ u 2 0 + 1 → adI u j ln c f i = u f i := fun f i h hi => ad_i (by omega) (by omega) (by omega)
  have kv : ∀ f i, (f = 1 ∨ f = 2 ∨ f = 3 ∨ f = 4 ∨ f = 6 ∨ f = 11 ∨ f = 12 ∨ f = 15 ∨ f = 16 ∨ f = 17 ∨ f = 19 ∨ f = 20 ∨ f = 21 ∨ f = 22 ∨ f = 23 ∨ f = 24) → mAdd v j ln c f i = v f i := fun f i h => md_k (by omega)
  have et : ∀ q, tA (adI u j ln c) q = tA u q := fun q => by simp [tA, ko]
  refine ⟨?_, ⟨fun q hq => ?_, fun q => ?_⟩, ⟨fun i ia ib => ?_, fun i ia => ?_⟩, ⟨fun k hk => ?_, fun k hk => ?_⟩, fun i hi => ?_⟩
  · unfold Sm1
    rw [kv 1 0 (by omega), kv 2 0 (by omega), md_5, kv 6 0 (by omega), kv 3 0 (by omega), kv 4 0 (by omega), ad_2, ko 0 0 (by omega), ko 1 0 (by omega), ko 3 0 (by omega), ko 5 0 (by omega), ko 6 0 (by omega)]
    exact ⟨e1, e2, by omega, e4, e5, e6⟩
  · rw [ko 0 0 (by omega)] at hq
    rw [kv 11 q (by omega), kv 12 q (by omega), et, ko 8 _ (by omega)]; exact m1 q hq
  · rw [kv 12 q (by omega), ad_2]; have := m2 q; omega
  · rw [ad_2] at ib
    by_cases hi : i = u 2 0 + 1
    · have hv : i = v 5 0 + 1 := by omega
      have hu : i = u 30 0 + 1 := by omega
      have n : ∀ f, (f = 21 ∨ f = 22 ∨ f = 23 ∨ f = 24 ∨ f = 25 ∨ f = 31) → adI u j ln c f i = if f = 21 then ln else if f = 22 then c else if f = 23 ∨ f = 24 ∨ f = 25 ∨ f = 26 ∨ f = 27 then 0 else if f = 31 then j + 1 else u f (u 30 0 + 1) := fun f hf => by rw [hu, ad_n (by omega)]
      obtain ⟨z1, z2, z3⟩ := m3' i (by omega)
      rw [n 21 (by omega), n 22 (by omega), n 23 (by omega), n 24 (by omega), n 25 (by omega), n 31 (by omega), kv 15 i (by omega), kv 16 i (by omega), kv 17 i (by omega), z1, z2, z3, hv, md_13, md_14, md_18]
      simp
    · have hv : i ≠ v 5 0 + 1 := by omega
      rw [md_i hv (by decide), md_i hv (by decide), md_i hv (by decide), md_i hv (by decide), md_i hv (by decide), md_i hv (by decide), ki 21 i (by omega) hi, ki 22 i (by omega) hi, ki 23 i (by omega) hi, ki 24 i (by omega) hi, ki 25 i (by omega) hi, ki 31 i (by omega) hi]
      exact m3 i ia (by omega)
  · rw [ad_2] at ia
    rw [kv 15 i (by omega), kv 16 i (by omega), kv 17 i (by omega)]
    exact m3' i (by omega)
  · rw [kv 19 k (by omega), ko 13 _ (by omega)]; exact m4 k hk
  · rw [kv 20 k (by omega), kv 21 k (by omega), ko 18 k (by omega), ko 19 k (by omega)]; exact m4' k hk
  · rw [ko 3 0 (by omega)] at hi
    have := (i6.2 i).1
    rw [kv 22 i (by omega), kv 23 i (by omega), kv 24 i (by omega), ko 10 i (by omega), ki 26 _ (by omega) (by omega), ki 27 _ (by omega) (by omega)]
    exact m5 i hi
theorem op_induct {l : Launch} {D : va_G} {ta : Nat → ClassId} {pl : Nat → Nat} {bs : Nat} {u v : St} (hI : Iv u) (hS : Sim u v) (a b c : Int32) : ∃ (r : Int32) (u' v' : St), Iv u' ∧ Sim u' v' ∧ XR l D ta pl bs yX4_induct wsX4_induct [.int a, .int b, .int c] u (.int r) u' ∧ MR l D ta pl bs yX5_induct wsX5_induct [.int a, .int b, .int c] v (.int r) v' := by
  have hN : u 2 0 ≤ 400 := hI.1.2.2.2.1
  have h30 : u 30 0 = u 2 0 := hI.1.2.2.2.2.1
  have e3 : v 5 0 = u 2 0 := hS.1.2.2.1
  by_cases h : inR a 4 ∧ inR c 16
  · have hB : inB a 0 3 ∧ inB c 0 15 := ⟨(inR_inB (n := 3) (by decide)).mp h.1, (inR_inB (n := 15) (by decide)).mp h.2⟩
    by_cases hy : inB b 1 2
    · have hy2 : ¬ b < nI 1 ∧ b ≤ nI 2 := ⟨hy.1, by have := hy.2; rw [Int32.lt_iff_toInt_lt] at this; rw [Int32.le_iff_toInt_le]; omega⟩
      by_cases hr : u 2 0 < 400
      · obtain ⟨j, hj, rfl⟩ := inR_of (by decide) h.1
        have hr5 := (hI.2.2.2.2.1 (j + 1) (by omega) (by omega)).1
        have hw := mW_eq hI (Sim_0 (x := 0) hS) hj
        by_cases h8 : u 12 (j + 1) = 8
        · exact ⟨nI 0, u, st v 0 0 0, hI, Sim_0 hS, XR.of (fun Z al => c_induct_0 j b c h hj hy2 hr h8) (by decide) (by decide), MR.of (fun Z al => m_induct_0 j b c hB hy (by omega) (by rw [hw]; exact h8)) (by decide) (by decide)⟩
        · obtain ⟨k, hk, rfl⟩ := inR_of (by decide) h.2
          have y1 := hy.1; have y2 := hy.2
          rw [Int32.lt_iff_toInt_lt, nI_toInt (by decide)] at y1 y2
          obtain ⟨ln, hln, rfl⟩ := nI_of (x := b) (by rw [Int32.lt_iff_toInt_lt, Int32.toInt_zero]; omega)
          rw [nI_toInt hln] at y1 y2
          refine ⟨nI (u 2 0 + 1), adI u j ln k, mAdd (st v 0 0 0) j ln k, Iv_ad hI hj (by omega) hk hr (by omega), Sim_ad hI (Sim_0 hS), ?_, MR.ofe (by rw [e3]) (fun Z al => m_induct_1 j ln k hB hy (by omega) (by rw [hw]; exact h8)) (by decide) (by decide)⟩
          intro Z al
          have h1 := Met.up (rm' := { frames := 8, cells := 1, slots := 8, locals := 240 }) (mc' := 1) (ms' := 8) (c_induct_1 (l := l) (D := D) (ta := ta) (pl := pl) (bs := bs) (al := al) (Z := Z) j ln k hI hj (by omega) hk hr (by omega)) (by decide) (by decide) (by decide) (by decide) (by decide) (by decide)
          intro p e ha hcas hclk s m args below hfr happ hP hK
          obtain ⟨n, o, a1, a2, a3, ⟨⟨rv', al', C', b1, ⟨rfl, q, rfl, rfl⟩, b3⟩, b4⟩, b5⟩ := h1 p e ha hcas hclk s m args below hfr happ hP hK
          exact ⟨n, o, a1, a2, a3, ⟨⟨_, _, _, b1, ⟨rfl, fun k i hk => aup_ne (by omega), rfl⟩, b3⟩, b4⟩, b5⟩
      · exact ⟨-14, u, st v 0 0 0, hI, Sim_0 hS, XR.of (fun Z al => c_induct_r a b c h hy2 (by omega) hN) (by decide) (by decide), MR.of (fun Z al => m_induct_r a b c hB hy (by omega)) (by decide) (by decide)⟩
    · refine ⟨-12, u, st v 0 0 0, hI, Sim_0 hS, XR.of (fun Z al => c_induct_o a b c h ?_) (by decide) (by decide), MR.of (fun Z al => m_induct_o a b c hB hy) (by decide) (by decide)⟩
      by_cases h1 : b < nI 1
      · exact Or.inl h1
      · refine Or.inr (fun z => hy ⟨h1, ?_⟩)
        rw [Int32.le_iff_toInt_le] at z
        rw [Int32.lt_iff_toInt_lt]; omega
  · exact ⟨-11, u, st v 0 0 0, hI, Sim_0 hS, XR.of (fun Z al => c_induct_u a b c h) (by decide) (by decide), MR.of (fun Z al => m_induct_u a b c (fun z => h ⟨(inR_inB (n := 3) (by decide)).mpr z.1, (inR_inB (n := 15) (by decide)).mpr z.2⟩)) (by decide) (by decide)⟩
theorem Iv_u0 {T M : Nat} (h1 : 1 ≤ T) (h2 : T ≤ 200) : Iv (u0 T M) := by
  have e : ∀ f i, f ≠ 0 → f ≠ 1 → f ≠ 5 → u0 T M f i = 0 := fun f i a b c => by simp [u0, a, b, c]
  have e0 : u0 T M 0 0 = T := by simp [u0]
  have e5 : u0 T M 5 0 = 1 := by simp [u0]
  refine ⟨?_, ?_, ?_, ⟨?_, ?_, ?_⟩, ?_, ?_⟩
  · unfold Iv1
    rw [e0, e5, e 7 0 (by decide) (by decide) (by decide), e 2 0 (by decide) (by decide) (by decide), e 30 0 (by decide) (by decide) (by decide)]
    exact ⟨h1, h2, h1, by omega, rfl, by omega, by omega⟩
  · intro i a b; rw [e 2 0 (by decide) (by decide) (by decide)] at b; omega
  · intro t
    rw [e 8 t (by decide) (by decide) (by decide)]
    exact ⟨Nat.zero_le _, fun z => absurd rfl z⟩
  · rw [e 4 0 (by decide) (by decide) (by decide), e 2 0 (by decide) (by decide) (by decide)]; rfl
  · rw [e 3 0 (by decide) (by decide) (by decide), e 2 0 (by decide) (by decide) (by decide)]; rfl
  · intro j hj; rw [e 3 0 (by decide) (by decide) (by decide)] at hj; omega
  · intro n a b
    rw [e 12 n (by decide) (by decide) (by decide), e 2 0 (by decide) (by decide) (by decide)]
    refine ⟨by omega, fun j => by rw [e (40 + n) j (by omega) (by omega) (by omega)]; exact Nat.le_refl _, fun j hj => by omega, fun j hj => by omega, fun i ia ib => by omega⟩
  · refine ⟨fun j => ?_, fun j => ?_⟩
    · rw [e 9 j (by decide) (by decide) (by decide), e 2 0 (by decide) (by decide) (by decide)]; exact ⟨Nat.le_refl _, fun h => by omega⟩
    · rw [e 10 j (by decide) (by decide) (by decide), e 2 0 (by decide) (by decide) (by decide), e 3 0 (by decide) (by decide) (by decide)]; exact ⟨Nat.le_refl _, fun h => by omega⟩
theorem Sim_0v {T M : Nat} (h1 : 1 ≤ T) (h2 : T ≤ 200) : Sim (u0 T M) (v0 T M 200) := by
  have e : ∀ f i, f ≠ 0 → f ≠ 1 → f ≠ 5 → u0 T M f i = 0 := fun f i a b c => by simp [u0, a, b, c]
  have ev : ∀ f i, f ≠ 11 → f ≠ 1 → f ≠ 2 → f ≠ 3 → v0 T M 200 f i = 0 := fun f i a b c d => by simp [v0, a, b, c, d]
  have e0 : u0 T M 0 0 = T := by simp [u0]
  have e7 : u0 T M 7 0 = 0 := e 7 0 (by decide) (by decide) (by decide)
  have et : ∀ q, tA (u0 T M) q = q := fun q => by unfold tA; rw [e7, if_neg (by omega)]; omega
  refine ⟨?_, ⟨fun q hq => ?_, fun q => ?_⟩, ⟨fun i ia ib => ?_, fun i ia => ?_⟩, ⟨fun k hk => ?_, fun k hk => ?_⟩, fun i hi => ?_⟩
  · unfold Sm1; simp [u0, v0]
  · rw [e0] at hq
    rw [et, ev 12 q (by decide) (by decide) (by decide) (by decide), e 8 q (by decide) (by decide) (by decide)]
    refine ⟨?_, rfl⟩
    simp [v0, show q < 200 by omega]
  · rw [ev 12 q (by decide) (by decide) (by decide) (by decide)]; exact Nat.zero_le _
  · rw [e 2 0 (by decide) (by decide) (by decide)] at ib; omega
  · rw [ev 15 i (by decide) (by decide) (by decide) (by decide), ev 16 i (by decide) (by decide) (by decide) (by decide), ev 17 i (by decide) (by decide) (by decide) (by decide)]; exact ⟨rfl, rfl, rfl⟩
  · rw [ev 19 k (by decide) (by decide) (by decide) (by decide), e 13 _ (by decide) (by decide) (by decide)]
  · rw [ev 20 k (by decide) (by decide) (by decide) (by decide), ev 21 k (by decide) (by decide) (by decide) (by decide), e 18 k (by decide) (by decide) (by decide), e 19 k (by decide) (by decide) (by decide)]; exact ⟨rfl, rfl⟩
  · rw [e 3 0 (by decide) (by decide) (by decide)] at hi; omega
