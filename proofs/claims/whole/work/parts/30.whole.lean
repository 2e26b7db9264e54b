/-! what holds at the law's entry; the claim (its last rows are the kit's skeleton, the launch's flags handed on) -/
def thC : Cond → Bool
  | .code .. => true
  | .codeSync .. => true
  | _ => false
theorem th_code : thW.filter thC = [340, 331, 21, 361, 349, 352, 355, 358].filterMap (fun i => tables_1[i]?) := rfl
theorem th_rest : (thW.filter (fun w => !thC w)).all (fun w => decide (w ∈ tables_1) || w == .isRef (.static Bundle.tN "UNASSIGNED_STACK" Bundle.steD) || w == .isRef (.static Bundle.tN "SUPPRESSED_SENTINEL" Bundle.listD)) = true := by decide +kernel
theorem th_in : ∀ w ∈ thW, w ∈ tables_1 ∨ w = .isRef (.static Bundle.tN "UNASSIGNED_STACK" Bundle.steD) ∨ w = .isRef (.static Bundle.tN "SUPPRESSED_SENTINEL" Bundle.listD) := by
  intro w hw
  by_cases hc : thC w = true
  · have h1 : w ∈ thW.filter thC := List.mem_filter.mpr ⟨hw, hc⟩
    rw [th_code] at h1
    obtain ⟨i, -, hi⟩ := List.mem_filterMap.mp h1
    exact Or.inl (List.mem_of_getElem? hi)
  · have h1 := List.all_eq_true.mp th_rest w (List.mem_filter.mpr ⟨hw, by simpa using hc⟩)
    simp only [Bool.or_eq_true, decide_eq_true_eq, beq_iff_eq] at h1
    rcases h1 with (h1 | h1) | h1
    · exact Or.inl h1
    · exact Or.inr (Or.inl h1)
    · exact Or.inr (Or.inr h1)
theorem st_arrP {s : State} {args : Array Value} {ty : FieldType} (hp : ty = .int ∨ ty = .long ∨ ty = .boolean) (h : (Cond.arrayClass ty).before args s = true) : ∃ cA : ClassId, ArrOfT s cA ty ∧ va_RA s cA ty := by
  obtain ⟨c, k, comp, h1, h2, h3⟩ := Cond.arrayClass_spec h
  refine ⟨c, fun n z => ⟨(fun k h => by cases h), k, h2, comp, h3⟩, ?_⟩
  rcases hp with rfl | rfl | rfl <;> exact h1
theorem st_arrO {s : State} {args : Array Value} {C : String} (h : (Cond.arrayOver (.object C)).before args s = true) : ∃ cA : ClassId, ArrOfT s cA (.object C) ∧ va_RA s cA (.object C) := by
  obtain ⟨comp, c, k, h1, h2, h3, h4, h5⟩ := Cond.arrayOver_spec h
  exact ⟨c, fun n z => ⟨(fun k h => by cases h), k, h3, comp, h4⟩, k, comp, h3, h4, h1, h5⟩
theorem st_place {s : State} {args : Array Value} {nm : String} (hl : (Cond.laysStatic RX3 nm "LLoopSorter$Place;").before args s = true) (hi : (Cond.initialized RX3).before args s = true) (he : (Cond.exactly (.static RX3 nm "LLoopSorter$Place;") RX3).before args s = true) : ∃ a : Nat, (Term.static RX3 nm "LLoopSorter$Place;").eval args s none [] s = some (.ref a) ∧ va_Z RX3 nm "LLoopSorter$Place;" (.ref a) (fr s.heap.size) s s.heap := by
  obtain ⟨a, c, cA, kA, q1, -⟩ := Cond.exactly_spec (args := args) (first := s) (o := none) (s := s) (idx := []) he
  exact ⟨a, q1, va_Zof hl hi q1 (fun q h z => absurd h (Nat.not_lt.mpr z))⟩
section WHOLE
variable {p : Program} {e : Env} {s : State} {m : MethodId} {below : List Frame} {meth : Method} {c : Code} {b L : Nat} {xs : Nat → Int32}
set_option maxRecDepth 100000 in
set_option maxHeartbeats 4000000 in
theorem st_En (C0 : lw_At p s m meth c b L xs) : ∃ (D : va_G) (ta : Nat → ClassId) (pl : Nat → Nat), En D ta pl s.heap.size s := by
  obtain ⟨hx, hb, hr, hml, hown, hts, hX, hbl, hlocks, hgv⟩ := id C0
  have hs := flat_of_before _ hgv
  obtain ⟨c0, i0, k0⟩ := u_known (C := RJx00060) (T := TJx00060) (N := 6) (n := 6) hts inJx00060 (hts (.instantiable RJx00060 6) (by decide +kernel))
  obtain ⟨c1, i1, k1⟩ := u_known (C := RX0) (T := TX0) (N := 4) (n := 4) hts inX0 (hts (.instantiable RX0 4) (by decide +kernel))
  obtain ⟨c2, i2, k2⟩ := u_known (C := RX1) (T := TX1) (N := 5) (n := 5) hts inX1 (hts (.instantiable RX1 5) (by decide +kernel))
  obtain ⟨c3, i3, k3⟩ := u_known (C := RX2) (T := TX2) (N := 8) (n := 8) hts inX2 (hts (.instantiable RX2 8) (by decide +kernel))
  obtain ⟨c4, i4, k4⟩ := u_known (C := RX4) (T := TX4) (N := 13) (n := 13) hts inX4 (hts (.instantiable RX4 13) (by decide +kernel))
  obtain ⟨c5, i5, k5⟩ := u_known (C := RX5) (T := TX5) (N := 22) (n := 22) hts inX5 (hts (.instantiable RX5 22) (by decide +kernel))
  obtain ⟨a0, x0, y0⟩ := st_arrO (C := RX2) (hts (.arrayOver (.object RX2)) (by decide +kernel))
  obtain ⟨a1, x1, y1⟩ := st_arrO (C := RX1) (hts (.arrayOver (.object RX1)) (by decide +kernel))
  obtain ⟨a2, x2, y2⟩ := st_arrO (C := RX0) (hts (.arrayOver (.object RX0)) (by decide +kernel))
  obtain ⟨a3, x3, y3⟩ := st_arrP (ty := .int) (Or.inl rfl) (hts (.arrayClass .int) (by decide +kernel))
  obtain ⟨a4, x4, y4⟩ := st_arrP (ty := .long) (Or.inr (Or.inl rfl)) (hts (.arrayClass .long) (by decide +kernel))
  obtain ⟨a5, x5, y5⟩ := st_arrP (ty := .boolean) (Or.inr (Or.inr rfl)) (hts (.arrayClass .boolean) (by decide +kernel))
  have hini := hts (.initialized RX3) (by decide +kernel)
  obtain ⟨p0, e0, z0⟩ := st_place (nm := "WAITING") (hts _ (by decide +kernel)) hini (hs _ (by decide +kernel))
  obtain ⟨p1, e1, z1⟩ := st_place (nm := "CARRIED") (hts _ (by decide +kernel)) hini (hs _ (by decide +kernel))
  obtain ⟨p2, e2, z2⟩ := st_place (nm := "MISSED") (hts _ (by decide +kernel)) hini (hs _ (by decide +kernel))
  obtain ⟨p3, e3, z3⟩ := st_place (nm := "OUT") (hts _ (by decide +kernel)) hini (hs _ (by decide +kernel))
  have n01 : p0 ≠ p1 := va_neR (hs _ (by decide +kernel)) e0 e1
  have n02 : p0 ≠ p2 := va_neR (hs _ (by decide +kernel)) e0 e2
  have n03 : p0 ≠ p3 := va_neR (hs _ (by decide +kernel)) e0 e3
  have n12 : p1 ≠ p2 := va_neR (hs _ (by decide +kernel)) e1 e2
  have n13 : p1 ≠ p3 := va_neR (hs _ (by decide +kernel)) e1 e3
  have n32 : p3 ≠ p2 := va_neR (hs _ (by decide +kernel)) e3 e2
  refine ⟨(fun k => match k with | 0 => c0 | 1 => c1 | 2 => c2 | 3 => c3 | 4 => c4 | _ => c5, fun k => match k with | 0 => i0 | 1 => i1 | 2 => i2 | 3 => i3 | 4 => i4 | _ => i5), fun k => match k with | 0 => a0 | 1 => a1 | 2 => a2 | 3 => a3 | 4 => a4 | _ => a5, fun k => match k with | 0 => p0 | 1 => p1 | 2 => p2 | _ => p3, ⟨?_, ?_⟩, Nat.le_refl _, ?_, ?_, va_AO.of (hts (.arrayOver (.object RX2)) (by decide +kernel)), va_AO.of (hts (.arrayOver (.object RX1)) (by decide +kernel)), va_AO.of (hts (.arrayOver (.object RX0)) (by decide +kernel))⟩
  · intro k q hq
    match k, hq with
    | 0, hq => cases hq; exact k0
    | 1, hq => cases hq; exact k1
    | 2, hq => cases hq; exact k2
    | 3, hq => cases hq; exact k3
    | 4, hq => cases hq; exact k4
    | 5, hq => cases hq; exact k5
    | k + 6, hq => simp at hq
  · intro k q hq
    match k, hq with
    | 0, hq => cases hq; exact ⟨x0, y0⟩
    | 1, hq => cases hq; exact ⟨x1, y1⟩
    | 2, hq => cases hq; exact ⟨x2, y2⟩
    | 3, hq => cases hq; exact ⟨x3, y3⟩
    | 4, hq => cases hq; exact ⟨x4, y4⟩
    | 5, hq => cases hq; exact ⟨x5, y5⟩
    | k + 6, hq => simp at hq
  · intro j hj
    rcases (show j = 0 ∨ j = 1 ∨ j = 2 ∨ j = 3 by omega) with rfl | rfl | rfl | rfl
    · exact z0
    · exact z1
    · exact z2
    · exact z3
  · intro i j hi hj h
    rcases (show i = 0 ∨ i = 1 ∨ i = 2 ∨ i = 3 by omega) with rfl | rfl | rfl | rfl <;> rcases (show j = 0 ∨ j = 1 ∨ j = 2 ∨ j = 3 by omega) with rfl | rfl | rfl | rfl <;> first | rfl | exact absurd h n01 | exact absurd h n02 | exact absurd h n03 | exact absurd h n12 | exact absurd h n13 | exact absurd h n32 | exact absurd h.symm n01 | exact absurd h.symm n02 | exact absurd h.symm n03 | exact absurd h.symm n12 | exact absurd h.symm n13 | exact absurd h.symm n32
set_option maxRecDepth 100000 in
set_option maxHeartbeats 4000000 in
theorem st_ThE (C0 : lw_At p s m meth c b L xs) : ThE s.heap.size s := by
  obtain ⟨hx, hb, hr, hml, hown, hts, hX, hbl, hlocks, hgv⟩ := id C0
  have hs := flat_of_before _ hgv
  have htb : ∀ w ∈ tables_1, w.before #[Value.ref b] s = true := fun w hw => hts w (List.mem_append_right _ hw)
  have hini := htb (.initialized Bundle.tN) (by decide +kernel)
  have i1 : (Cond.isRef (.static Bundle.tN "UNASSIGNED_STACK" Bundle.steD)).before #[Value.ref b] s = true := hs _ (by decide +kernel)
  have i2 : (Cond.isRef (.static Bundle.tN "SUPPRESSED_SENTINEL" Bundle.listD)).before #[Value.ref b] s = true := hs _ (by decide +kernel)
  have z1 : va_Zq Bundle.tN "UNASSIGNED_STACK" Bundle.steD (fr s.heap.size) s s.heap := va_Zqof (htb _ (by decide +kernel)) hini i1 (fun q h z => absurd h (Nat.not_lt.mpr z))
  have z2 : va_Zq Bundle.tN "SUPPRESSED_SENTINEL" Bundle.listD (fr s.heap.size) s s.heap := va_Zqof (htb _ (by decide +kernel)) hini i2 (fun q h z => absurd h (Nat.not_lt.mpr z))
  refine ⟨th_words (A := #[Value.ref b]) (locs := []) (State.WarmedH.refl _) va_S.rf z1 z2 ?_, z1, z2, ?_⟩
  · intro w hw
    rcases th_in w hw with h | rfl | rfl
    · exact htb w h
    · exact i1
    · exact i2
  · have hstr := htb (.stringRef RX4 101 "no such tray") (by decide +kernel)
    have hex : (Cond.exactly (.string RX4 101) "java/lang/String").before #[Value.ref b] s = true := hs _ (by decide +kernel)
    obtain ⟨a, c', cA, kA, q1, -⟩ := Cond.exactly_spec (args := #[Value.ref b]) (first := s) (o := none) (s := s) (idx := []) hex
    exact ⟨a, vk_R.of hstr q1⟩
end WHOLE
theorem whole_start {p : Program} {e : Env} {s : State} {m : MethodId} {below : List Frame} {meth : Method} {c : Code} (l : Launch) (hfl : l.flags = flags0) {b L : Nat} {xs : Nat → Int32} (hL : L ≤ 2050) (C0 : lw_At p s m meth c b L xs) : W p l e room_1 s m #[Value.ref b] below meth c s.heap [] 0 0 (lw_Z below #[Value.ref b] s) (entryFrame m ([Value.ref b] : List Value).toArray 7) := by
  obtain ⟨hx, hb, hr, hml, hown, hts, hX, hbl, hlocks, hgv⟩ := id C0
  obtain ⟨D, ta, pl, hE⟩ := st_En C0
  have hwords : ∀ w ∈ wsLL, w.before #[Value.ref b] s = true := fun w hw => by
    rcases List.mem_append.mp hw with h | h
    · exact hts w (wsL_law_in w h)
    · simp only [wCt, List.mem_singleton] at h
      subst h
      exact hts _ (by decide +kernel)
  have X : Cx D ta pl s.heap.size 7 p s m #[Value.ref b] meth c cL_law wsLL RL ret := ⟨⟨hx, hb, hml, hown, hwords⟩, hr, hlocks, hE⟩
  rw [lg_entry_eq]
  exact law_start (al := fun _ _ => 0) X ⟨hX, hbl⟩ (st_ThE C0) hfl hL (Nat.le_refl _) s.heap [] _ ⟨(fun k i e h => by cases h), (fun k i k' i' e e' h => by cases h)⟩ va_S.rf (lv_entry [.ref b] (Nat.le_of_ble_eq_true rfl))
set_option maxHeartbeats 4000000 in
theorem lw_walk (l : Launch) (hfl : l.flags = flags0) (b : Addr) (xs : List Int32) : MetFree l x (headSpec (Jvm.Cond.code x code maxLocals ret :: tables_1) room_1) (lw_P b xs) (fun _ _ _ _ _ => True) lw_Q := by
  refine MetFree.of_bodyS (code := code) (maxLocals := maxLocals) (ret := ret) (by decide) ?_ ?_
  · intro args s m h hn
    obtain ⟨meth, c, h1, h2, h3, h4, h5, h6, -, -⟩ := Cond.code_spec hn (atoms_spec (ws := Jvm.Cond.code x code maxLocals ret :: tables_1) h _ List.mem_cons_self)
    exact ⟨meth, c, h1, h2, h3, h4, h5, h6⟩
  · intro p e s m args below meth c s₁ B hml0 hP _
    obtain ⟨rfl, hx, hbd, hgv⟩ := hP
    obtain ⟨scr, harrAt, hlist, hof, hsmall⟩ := hx
    obtain ⟨hcb, hkn, -, -⟩ := State.arrayAt?_spec harrAt
    have hown : s.vm.findClass R_law = some m.cls := findClass_of_methodNamed B.named
    have hts0 : ∀ c ∈ (Jvm.Cond.code x code maxLocals ret :: tables_1), c.before #[Value.ref b] s = true := atoms_spec (ws := Jvm.Cond.code x code maxLocals ret :: tables_1) B.pre
    have hts : ∀ w ∈ lw_tbl, w.before #[Value.ref b] s = true := k2_hts_sels lw_privs (fun w hw => hts0 w (List.mem_cons_of_mem _ hw)) lw_privs_ok
    have hml : c.maxLocals = 7 := B.maxLocals_eq (hts0 _ List.mem_cons_self)
    have X₀ : Stand p l e room_1 s m #[Value.ref b] below meth c s₁ [] 0 0 := Stand.of_body B
    have hh0 : s₁.heap = s.heap := by rw [B.state]; rfl
    have hsz : scr.slots.size = xs.length := by rw [← Array.length_toList, hlist, List.length_map]
    have hval : ∀ j : Nat, j < xs.length → scr.slots[j]? = some (.int (xs.getD j 0)) := fun j hj => by
      rw [← Array.getElem?_toList, hlist]
      simp [hj]
    have hbl : b < s.heap.size := (Array.getElem?_eq_some_iff.mp hcb).1
    have hX : va_X b xs.length (fun j => xs.getD j 0) s s.heap := ⟨scr, hcb, hof, hkn, hsz, hval⟩
    have K : W p l e room_1 s m #[Value.ref b] below meth c s₁.heap [] 0 0 (lw_Z below #[Value.ref b] s) (entryFrame m ([Value.ref b] : List Value).toArray 7) := by
      rw [hh0]
      exact whole_start l hfl hbd ⟨B.exec, B.bytes, B.returns, hml, hown, hts, hX, hbl, B.notSynchronized, hgv⟩
    obtain ⟨t, a1, o, b1, b2, b3⟩ := K s₁ rfl X₀
    exact ⟨t, o, a1, b1, b2, b3⟩
theorem lw_pre_spec {args : Array Value} {s : State} (h : (Jvm.Cond.and given_1 narrow_1).before args s = true) (hr : rest_1_c.before args s = true) : ∃ (b : Addr) (xs : List Int32), lw_P b xs args s := by
  have hs := flat_of_before _ h
  have hq := flat_of_before _ hr
  have hc : (Cond.count 1).before args s = true := hs _ (by decide +kernel)
  have harr : (Cond.arrayOf (.arg 0) .int).before args s = true := hs _ (by decide +kernel)
  have hle : (Cond.le (.length (.arg 0)) (.int 2050)).before args s = true := hs _ (by decide +kernel)
  have hlen : (Cond.isInt (.length (.arg 0))).before args s = true := hq _ (by decide +kernel)
  have hall : (Cond.all (.arg 0) (.isInt (.elem (.arg 0) (.index 0)))).before args s = true := hq _ (by decide +kernel)
  obtain ⟨b, xs, hb, hx⟩ := State.ints_of_pre rfl harr hlen hall
  have hsm : xs.length < 2 ^ 31 := hx.choose_spec.2.2.2
  have hev : (Term.length (.arg 0)).eval args s none [] s = some (.int xs.length.toInt32) := hx.length_eval hb
  have hv := Cond.le_ints hev (show (Term.int 2050).eval args s none [] s = some (.int 2050) from rfl)
  have hd : xs.length.toInt32 ≤ 2050 := by
    simpa [Cond.before, Cond.holds, hv] using hle
  have hN : xs.length ≤ 2050 := (Int32.ofNat_le_ofNat hsm (by decide)).mp (show Int32.ofNat xs.length ≤ Int32.ofNat 2050 from hd)
  exact ⟨b, xs, Cond.one_arg hc (show args[0]? = some (.ref b) from hb), hx, hN, h⟩
theorem lw_comes (l : Launch) (hfl : l.flags = flags0) : Comes l x (Jvm.Cond.code x code maxLocals ret :: tables_1) room_1 (fun tb e args s => Calls_1 tb e args s ∧ rest_1 tb e args s ∧ Pre_1 tb e args s)
    (fun _ _ args s o t => lw_Q args s o t) := by
  intro p e ha hc hk s m args below hf hfit hheap happ hpre
  obtain ⟨b, xs, hP⟩ := lw_pre_spec hpre.2.2 hpre.2.1
  obtain ⟨k, o, h1, h2, h3, hQ⟩ := lw_walk l hfl b xs p e ha hc hk s m args below hf ((Spec.applies_iff_loose hf).mp happ).1 hP trivial
  exact ⟨k, o, h1, h2, h3, hQ⟩
theorem lw_frame {s t : State} {o : Outcome} {args : Array Value} (h : Framed s o t [] 601024 7293000) :
    Framed s o t (fieldLocs frame_1_writes args s ++ arrayLocs frame_1_arrays args s ++ staticLocs frame_1_statics s) 601024 7293000 := h
theorem lw_limb (L : Cond) (hL : ∀ (args : Array Value) (s t : State), L.after args s (.returned (some (.int 1))) t = true) :
    ArmFor flags0 classFile x code maxLocals ret World_1 tables_1 room_1 Calls_1 rest_1 Pre_1
      (fun tb e a s o t => postC L tb e a s o t ∧ Framed s o t (fieldLocs frame_1_writes a s ++ arrayLocs frame_1_arrays a s ++ staticLocs frame_1_statics s) 601024 7293000) := by
  intro l hfl _ _ p e ha hc hk s m args below hf hfit hheap happ hpre
  obtain ⟨k, o, h1, h2, h3, rfl, hF⟩ := lw_comes l hfl p e ha hc hk s m args below hf hfit hheap happ hpre
  exact ⟨k, _, h1, h2, h3, hL args s _, lw_frame hF⟩
theorem i_vc : Claimed_1_1 ∧ Claimed_1_2 := ⟨lw_limb limb_1_1 (fun args s t => by simp [limb_1_1, Cond.after, Cond.holds, Cond.value]), lw_limb limb_1_2 (fun args s t => Cond.after_iff.mpr (by
  first | (rw [show limb_1_2 = Cond.eq .result (.int 1) from rfl, Cond.eq_ints (x := 1) (y := 1) rfl rfl]; simp; done) | (simp [limb_1_2, Cond.value, Term.eval]; done)))⟩
