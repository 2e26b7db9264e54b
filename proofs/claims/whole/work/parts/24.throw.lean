/-! throws: what a throw of ArrayIndexOutOfBoundsException with a message stands on, and its contract -/
def thW : List Cond := Bundle.ownAtoms RX4 103 RJx00060 ["java/lang/IndexOutOfBoundsException", "java/lang/RuntimeException", "java/lang/Exception"]
/-- a word on the tables alone, that stays while they warm -/
def thOk (w : Cond) : Bool := w.onTables && w.keepsFace
/-- the four words on Throwable's two statics -/
def thSt (w : Cond) : Bool := w == .laysStatic Bundle.tN "UNASSIGNED_STACK" Bundle.steD || w == .laysStatic Bundle.tN "SUPPRESSED_SENTINEL" Bundle.listD || w == .isRef (.static Bundle.tN "UNASSIGNED_STACK" Bundle.steD) || w == .isRef (.static Bundle.tN "SUPPRESSED_SENTINEL" Bundle.listD)
theorem th_kinds : ∀ w ∈ thW, thOk w = true ∨ thSt w = true := by decide +kernel
def ThE (bs : Nat) (U : State) : Prop :=
  (∀ w ∈ thW, w.before #[] U = true) ∧ va_Zq Bundle.tN "UNASSIGNED_STACK" Bundle.steD (fr bs) U U.heap ∧ va_Zq Bundle.tN "SUPPRESSED_SENTINEL" Bundle.listD (fr bs) U U.heap ∧ ∃ q, vk_R RX4 101 "no such tray" q U
theorem th_tab {w : Cond} (hw : thOk w = true) {A A' : Array Value} {u U : State} (hW : u.WarmedH U.vm) (h : w.before A u = true) : w.before A' U = true := by
  simp only [thOk, Bool.and_eq_true] at hw
  have h1 : w.before A (u.setVm U.vm) = true := Cond.before_shiftedFace (State.Shifted.of_warmed hW) w hw.2 h
  have e := Cond.onTables_vm (A := A) (A' := A') (U := u) (U' := U) U.vm w hw.1
  have hU : U.setVm U.vm = U := rfl
  rw [hU] at e
  rw [← e]
  exact h1
theorem th_lays {n d : String} {A A' : Array Value} {u U : State} {bs : Nat} {locs : List Loc} (hvm : u.vm.Alike U.vm) (hS : va_S (fr bs) u.heap U.heap locs) (hz : va_Zq Bundle.tN n d (fr bs) u u.heap) (h : (Cond.laysStatic Bundle.tN n d).before A u = true) : (Cond.laysStatic Bundle.tN n d).before A' U = true := by
  obtain ⟨c, k, i, f, a, cell, hc, hi, hst, ha, hcell, hs, hcls, hlt, hty⟩ := Cond.laysStatic_spec h
  have hb : ¬ fr bs a := by
    rcases hz with hz | ⟨t, hz⟩
    · obtain ⟨cf, kf, fi, f', a', cell', h1, h2, h3, h4, h5, h6, h7, h8⟩ := hz
      cases hi.symm.trans h1
      cases ha.symm.trans h4
      exact h8
    · obtain ⟨cf, kf, fi, f', a', cell', h1, h2, h3, h4, h5, h6, h7, h8⟩ := hz
      cases hi.symm.trans h1
      cases ha.symm.trans h4
      exact h8
  obtain ⟨k', hi', he⟩ := State.fieldFound?_setVm hvm hi
  have hi2 : U.fieldFound? Bundle.tN n d = some (c, k', i, f) := hi'
  have hc' : U.vm.findClass Bundle.tN = some c := by rw [hvm.findClass]; exact hc
  have ha' : k'.statics = some a := by rw [he]; exact ha
  have hty' : k'.staticTypes[f.slot]? = some f.type := by rw [he]; exact hty
  have hcell' : U.heap[a]? = some cell := (hS.2.1 a (Array.getElem?_eq_some_iff.mp hcell).1 hb).trans hcell
  simp [Cond.before, Cond.holds, Cond.value, hc', hi2, hst, ha', hcell', hs, hcls, hlt, hty']
theorem th_isRef {n d : String} {A : Array Value} {bs : Nat} {U : State} (hz : va_Zq Bundle.tN n d (fr bs) U U.heap) : (Cond.isRef (.static Bundle.tN n d)).before A U = true := by
  rcases hz with hz | ⟨t, hz⟩
  · obtain ⟨cf, kf, fi, f', a', cell', h1, h2, h3, h4, h5, h6, h7, h8⟩ := hz
    have he : (Term.static Bundle.tN n d).eval A U none [] U = some .null := by simp [Term.eval, State.fieldNamed?, h1, h2, h4, h5, h6, h7]
    simp [Cond.before, Cond.holds, Cond.value, he]
  · obtain ⟨cf, kf, fi, f', a', cell', h1, h2, h3, h4, h5, h6, h7, h8⟩ := hz
    have he : (Term.static Bundle.tN n d).eval A U none [] U = some (.ref t) := by simp [Term.eval, State.fieldNamed?, h1, h2, h4, h5, h6, h7]
    simp [Cond.before, Cond.holds, Cond.value, he]
theorem th_words {A A' : Array Value} {u U : State} {bs : Nat} {locs : List Loc} (hW : u.WarmedH U.vm) (hS : va_S (fr bs) u.heap U.heap locs) (h1 : va_Zq Bundle.tN "UNASSIGNED_STACK" Bundle.steD (fr bs) u u.heap) (h2 : va_Zq Bundle.tN "SUPPRESSED_SENTINEL" Bundle.listD (fr bs) u u.heap) (h : ∀ w ∈ thW, w.before A u = true) : ∀ w ∈ thW, w.before A' U = true := by
  intro w hw
  rcases th_kinds w hw with hk | hk
  · exact th_tab hk hW (h w hw)
  · simp only [thSt, Bool.or_eq_true, beq_iff_eq] at hk
    rcases hk with ((rfl | rfl) | rfl) | rfl
    · exact th_lays hW.alike hS h1 (h _ hw)
    · exact th_lays hW.alike hS h2 (h _ hw)
    · exact th_isRef ((h1.moved hW.alike).kept hS.2.1)
    · exact th_isRef ((h2.moved hW.alike).kept hS.2.1)
theorem ThE.moved {bs : Nat} {u U : State} {locs : List Loc} (h : ThE bs u) (hW : u.WarmedH U.vm) (hS : va_S (fr bs) u.heap U.heap locs) : ThE bs U := by
  obtain ⟨h1, h2, h3, q, h4⟩ := h
  exact ⟨th_words hW hS h2 h3 h1, (h2.moved hW.alike).kept hS.2.1, (h3.moved hW.alike).kept hS.2.1, q, h4.warm hW⟩
theorem ThE.at {bs : Nat} {u U : State} (h : ThE bs u) (hv : U.vm = u.vm) (hh : U.heap = u.heap) : ThE bs U :=
  h.moved (locs := []) (by rw [hv]; exact State.WarmedH.refl _) (by rw [hh]; exact va_S.rf)
theorem ThE.words {bs : Nat} {u : State} (h : ThE bs u) (A : Array Value) : ∀ w ∈ thW, w.before A u = true :=
  th_words (locs := []) (State.WarmedH.refl _) va_S.rf h.2.1 h.2.2.1 h.1
/-- nothing old is changed -/
theorem same_nil {s t : State} {k n : Nat} (h : s.sameButNew t [] k n) {q : Nat} (hq : q < s.heap.size) : t.heap[q]? = s.heap[q]? := by
  obtain ⟨c, hc⟩ : ∃ c, s.heap[q]? = some c := ⟨_, Array.getElem?_eq_getElem hq⟩
  obtain ⟨c', h1, h2, h3, h4⟩ := h.2.2.2.2.2 q c hc
  have e : c'.slots = c.slots := Array.ext_getElem? (fun i => h4 i (by simp))
  rw [h1, hc, h2, e]
/-- the end of a method that throws: the exception's cell is new, nothing else has changed -/
def TQ (D : va_G) (bs : Nat) (al : Ad) (C : Wo) (st : State) (x : Addr) (t : State) : Prop :=
  wd D bs al C t.heap ∧ va_F (fr bs) st t ∧ (∃ ce : Cell, t.heap[x]? = some ce ∧ ce.vm.isStatics = false ∧ st.vm.findClass RJx00060 = some ce.cls ∧ st.vm.assignable ce.cls ce.cls = true) ∧ st.WarmedH t.vm ∧ st.sameButNew ({ t with vm := st.vm } : State) [] 1 6
def QT (D : va_G) (bs : Nat) (below : List Frame) (al : Ad) (C : Wo) (s : State) : State → Prop := fun t => ∃ x, t.status = .running ∧ Ended t below (.threw x) ∧ TQ D bs al C s x t
def MT (l : Launch) (D : va_G) (ta : Nat → ClassId) (pl : Nat → Nat) (bs : Nat) (y : MethodName) (ws : List Cond) (rm : Room) (av : List Value) (al : Ad) (C : Wo) : Prop :=
  MetFree l y (headSpec ws rm) (va_Pc av (fun U => (wd D bs al C U.heap ∧ En D ta pl bs U) ∧ ThE bs U)) (fun _ _ _ _ _ => True) (fun _ st o t => ∃ x, o = .threw x ∧ TQ D bs al C st x t)
theorem MT.of {l : Launch} {D : va_G} {ta : Nat → ClassId} {pl : Nat → Nat} {bs : Nat} {y : MethodName} {ws ws' : List Cond} {rm : Room} {av : List Value} {al : Ad} {C : Wo} {cc : ByteArray} {maxL : Nat} {rt : Option FieldType}
    (hy : plainName y.cls = true) (hw : ws = Cond.code y cc maxL rt :: ws') (hlen : (lg_sl av).length ≤ maxL)
    (body : ∀ (p : Program) (e : Env) (s : State) (m : MethodId) (args : Array Value) (below : List Frame) (meth : Method) (c : Code), Cx D ta pl bs maxL p s m args meth c cc ws y.cls rt → ThE bs s → c.exceptionTable.isEmpty = true →
      WP D bs maxL p l e rm s m args below meth c (QT D bs below al C s) al C 0 0 0 (lv_args 0 av) []) : MT l D ta pl bs y ws rm av al C := by
  refine MetFree.of_bodyS (code := cc) (maxLocals := maxL) (ret := rt) hy ?_ ?_
  · intro args s m h hn
    obtain ⟨meth, c, h1, h2, h3, h4, h5, h6, -, -⟩ := Cond.code_spec hn (atoms_spec (ws := ws) h _ (by rw [hw]; exact List.mem_cons_self))
    exact ⟨meth, c, h1, h2, h3, h4, h5, h6⟩
  · intro p e s m args below meth c s₁ B hml hP _
    obtain ⟨rfl, ⟨hwd, hE⟩, hT⟩ := hP
    have hh0 : s₁.heap = s.heap := by rw [B.state]; rfl
    have X₀ := Stand.of_body B
    have hex : c.exceptionTable.isEmpty = true := by
      obtain ⟨meth', c', h1, h2, -, -, -, -, h7, -⟩ := Cond.code_spec B.named (atoms_spec (ws := ws) B.pre _ (by rw [hw]; exact List.mem_cons_self))
      cases h1.symm.trans X₀.method
      cases h2.symm.trans X₀.code
      exact h7
    have hK := body p e s m _ below meth c ⟨⟨B.exec, B.bytes, hml, findClass_of_methodNamed B.named, atoms_spec (ws := ws) B.pre⟩, B.returns, B.notSynchronized, hE⟩ hT hex
    rw [lg_entry_eq]
    obtain ⟨t, a1, x, b1, b2, b3⟩ := hK s.heap [] _ hwd ⟨va_S.rf, rfl, rfl⟩ (lv_entry av hlen) s₁ hh0 X₀
    exact ⟨t, .threw x, a1, b1, b2, x, rfl, b3⟩
section GT
variable {p : Program} {l : Launch} {e : Env} {R : Room} {s : State} {m : MethodId} {args : Array Value} {below : List Frame} {meth : Method} {c : Code} {Q : State → Prop}
variable {D : va_G} {ta : Nat → ClassId} {pl : Nat → Nat} {bs nL : Nat} {cc : ByteArray} {Ts : List Cond} {own : String} {rt : Option FieldType}
variable {al : Ad} {C : Wo} {cells slots pc : Nat} {lv : List (Nat × Value)} {st : List Value}
theorem q_throw (X : Cx D ta pl bs nL p s m args meth c cc Ts RX4 rt) (hT : ThE bs s) (hfl : l.flags = flags0) (hex : c.exceptionTable.isEmpty = true)
    (h1 : Cond.classLink RX4 99 RJx00060 ∈ Ts) (h2 : Cond.instantiable RJx00060 6 ∈ Ts) (h3 : Cond.initialized RJx00060 ∈ Ts)
    (d1 : decode cc pc = .ok (.new 99, 3)) (d2 : decode cc (pc + 3) = .ok (.dup, 1)) (d3 : decode cc (pc + 4) = .ok (.ldc 101, 2)) (d4 : decode cc (pc + 6) = .ok (.invokespecial 103, 3)) (d5 : decode cc (pc + 9) = .ok (.athrow, 1))
    (hc : 1 ≤ R.cells) (hs : 6 ≤ R.slots) (hRf : 6 < R.frames) (hRl : 96 ≤ R.locals) : WP D bs nL p l e R s m args below meth c (QT D bs below al C s) al C 0 0 pc lv [] := by
  intro H locs ls hw hS hl
  obtain ⟨hS, rfl, rfl⟩ := hS
  obtain ⟨q, hq⟩ := hT.2.2.2
  refine W.newc (g := F0 m pc ls []) X.1.1 X.1.2.1 X.1.2.2.2.1 (X.1.2.2.2.2 _ h1) (X.1.2.2.2.2 _ h2) (X.1.2.2.2.2 _ h3) rfl d1 (by omega) (by omega) ?_
  intro cC kC f1 f2 f3 f4
  refine lv_dup (pc := pc + 3) X.1.1 X.1.2.1 d2 rfl ?_
  refine va_ldcS (pc := pc + 3 + 1) X.1.1 X.1.2.1 X.1.2.2.2.1 hq d3 ?_
  intro T hTh XT
  have hcell : T.heap[s.heap.size]? = some (freshCell cC kC) := by rw [hTh]; exact Array.getElem?_push_size
  have hex' : c.exceptionTable.toList = [] := by
    have := Array.isEmpty_iff.mp hex
    rw [this]
  obtain ⟨U, a1, a2, a3, a4, a5, ce, a6, a7⟩ := XT.ctorThrowS X.1.1 (Launch.traces_off hfl XT.admits) (own := RX4) (cls := RJx00060) (names := ["java/lang/IndexOutOfBoundsException", "java/lang/RuntimeException", "java/lang/Exception"]) (ic := 103) X.1.2.2.2.1 (by decide) (by decide) (hT.words args) (fun x hx => by cases hx) f1 f2 hcell (Nat.le_refl _) (msg := .ref q) rfl
    (g := F0 m (pc + 6) ls [.ref q, .ref s.heap.size, .ref s.heap.size]) rfl (by rw [X.1.2.2.1]; exact hl.1) rfl rfl (rest := []) rfl (by rw [X.1.2.1]; exact d4) (by rw [X.1.2.1]; exact d5) (fun x hx => by rw [hex'] at hx; cases hx) hRf (Nat.le_trans (Nat.le_of_ble_eq_true rfl : 2 * 0 + 1 + (13 * 4 + 42) ≤ 96) hRl) X.2.2.1
  have hk : ∀ q, q < s.heap.size → U.heap[q]? = s.heap[q]? := fun q hq => same_nil a5 hq
  refine ⟨U, a1, s.heap.size, a2, a3, hw.kept hk, ⟨a5.2.1, fun q hq _ => hk q hq⟩, ⟨ce, a6, ?_, a7.cls, ?_⟩, a4, a5⟩
  · rw [a7.vm]; rfl
  · exact a7.self
end GT
abbrev rmT : Room := { frames := 7, cells := 1, slots := 6, locals := 100 }
set_option maxRecDepth 100000 in
set_option maxHeartbeats 4000000 in
/-- tray, of no tray -/
theorem t_tray {l : Launch} (hfl : l.flags = flags0) {D : va_G} {ta : Nat → ClassId} {pl : Nat → Nat} {bs : Nat} {al : Ad} {Z : Wo} {u : St} (x : Int32) (h : ¬ inR x (u 0 0)) : MT l D ta pl bs yX4_tray wsX4_tray rmT [.ref (al 0 0), .int x] al (mC Z ta pl al u) := by
  refine MT.of (by decide) rfl (Nat.le_of_ble_eq_true rfl) ?_
  intro p e s m args below meth c X hT hex
  refine q_lv (lv' := [(0, .ref (al 0 0)), (1, .int x)]) [0, 1] rfl ?_
  refine q_aload_n X 0 dX4_tray_0 rfl rfl ?_
  refine q_iload_n X 1 dX4_tray_1 rfl rfl ?_
  refine q_callV (n := 1) X 0 0 [.int x] cx0 rfl (q_isTray x) gX4_tray_X4_isTray rfl ⟨rfl, rfl⟩ (by decide +kernel) ⟨by decide, by decide⟩ rfl (Nat.le_of_ble_eq_true rfl) dX4_tray_2 ⟨Nat.zero_le _, Nat.zero_le _⟩ _ rfl ?_
  refine q_if_ne X 18 dX4_tray_5 (by decide) (bN_eq0) (fun c_1 => ?_) (fun c_1 => ?_)
  · exact absurd h c_1
  · exact q_throw X hT hfl hex (by decide +kernel) (by decide +kernel) (by decide +kernel) dX4_tray_8 dX4_tray_11 dX4_tray_12 dX4_tray_14 dX4_tray_17 (by decide) (by decide) (by decide) (by decide)
set_option maxRecDepth 100000 in
set_option maxHeartbeats 4000000 in
/-- found, of a missed item and no tray -/
theorem t_found {l : Launch} (hfl : l.flags = flags0) {D : va_G} {ta : Nat → ClassId} {pl : Nat → Nat} {bs : Nat} {al : Ad} {Z : Wo} {u : St} (i : Nat) (y : Int32) (hI : Iv u) (hi1 : 1 ≤ i) (hi2 : i ≤ u 2 0) (hp : u 23 i = 2) (h : ¬ inR y (u 0 0)) : MT l D ta pl bs yX4_found wsX4_found rmT [.ref (al 0 0), .int (nI i), .int y] al (mC Z ta pl al u) := by
  refine MT.of (by decide) rfl (Nat.le_of_ble_eq_true rfl) ?_
  intro p e s m args below meth c X hT hex
  have hiX2 : ∀ w ∈ u_ws RX2 TX2 8, w ∈ wsX4_found := by decide +kernel
  obtain ⟨⟨h1, h2, h7, hN, h30, h51, h52⟩, hI2, hI3, -, hI5, hI6, hI7⟩ := id hI
  obtain ⟨hp1, hp2, hp3, hp4, hp5, -⟩ := hI2 i hi1 hi2
  refine q_lv (lv' := [(0, .ref (al 0 0)), (1, .int (nI i)), (2, .int y)]) [0, 1, 2] rfl ?_
  refine q_aload_n X 0 dX4_found_0 rfl rfl ?_
  refine q_iload_n X 1 dX4_found_1 rfl rfl ?_
  refine q_callV (n := 1) X 0 0 [.int (nI i)] cx0 rfl (q_itemNumbered i (by omega) (by omega) (by omega) (by have := (hI6 (i - 1)).2 (by omega); omega)) gX4_found_X4_itemNumbered rfl ⟨rfl, rfl⟩ (by decide +kernel) ⟨by decide, by decide⟩ rfl (Nat.le_of_ble_eq_true rfl) dX4_found_2 ⟨Nat.zero_le _, Nat.zero_le _⟩ _ rfl ?_
  refine q_astore_n X [(3, .ref (al 9 i)), (0, .ref (al 0 0)), (1, .int (nI i)), (2, .int y)] dX4_found_5 rfl (by decide) rfl ?_
  refine q_aload_n X 0 dX4_found_6 rfl rfl ?_
  refine q_ifnonnull_r X 13 dX4_found_7 (by decide) ?_
  refine q_aload_n X 0 dX4_found_13 rfl rfl ?_
  refine q_get X 9 i (cx9 ⟨by omega, by omega⟩) rfl 3 (by decide) hiX2 (by decide +kernel) rfl rfl dX4_found_14 ?_
  refine q_place X 2 (by decide) "MISSED" rfl (by decide +kernel) dX4_found_17 ?_
  refine q_acmp_eq X 26 dX4_found_20 (by decide) (plI X.2.2.2 (by omega) (by omega)) (fun c_1 => ?_) (fun c_1 => ?_)
  · refine q_aload_n X 1 dX4_found_26 rfl rfl ?_
    refine q_iload_n X 3 dX4_found_27 rfl rfl ?_
    refine q_callV (n := 1) X 0 0 [.int y] cx0 rfl (q_isTray y) gX4_found_X4_isTray rfl ⟨rfl, rfl⟩ (by decide +kernel) ⟨by decide, by decide⟩ rfl (Nat.le_of_ble_eq_true rfl) dX4_found_28 ⟨Nat.zero_le _, Nat.zero_le _⟩ _ rfl ?_
    refine q_if_ne X 44 dX4_found_31 (by decide) (bN_eq0) (fun c_2 => ?_) (fun c_2 => ?_)
    · exact absurd h c_2
    · exact q_throw X hT hfl hex (by decide +kernel) (by decide +kernel) (by decide +kernel) dX4_found_34 dX4_found_37 dX4_found_38 dX4_found_40 dX4_found_43 (by decide) (by decide) (by decide) (by decide)
  · exact absurd hp c_1
