/-! the law's own methods: cell, tray, found -/
/-- what stays while the tables warm and nothing below bs is written -/
def Est (bs : Nat) (E : State → Prop) : Prop := ∀ (u U : State) (locs : List Loc), E u → u.WarmedH U.vm → va_S (fr bs) u.heap U.heap locs → E U
theorem ThE.est {bs : Nat} : Est bs (ThE bs) := fun _ _ _ h hW hS => h.moved hW hS
def ScE (b L : Nat) (xs : Nat → Int32) (bs : Nat) (U : State) : Prop := va_X b L xs U U.heap ∧ b < bs
theorem ScE.est {b L : Nat} {xs : Nat → Int32} {bs : Nat} : Est bs (ScE b L xs bs) := fun u U locs h hW hS => by
  obtain ⟨scr, h1, -⟩ := id h.1
  exact ⟨(h.1.moved hW.alike).kept (hS.2.1 b (Array.getElem?_eq_some_iff.mp h1).1 (fun z => absurd h.2 (Nat.not_lt.mpr z))), h.2⟩
/-- a contract that asks E beside the world -/
def GE (E : State → Prop) (l : Launch) (D : va_G) (ta : Nat → ClassId) (pl : Nat → Nat) (bs : Nat) (y : MethodName) (ws : List Cond) (rm : Room) (mc ms : Nat) (av : List Value) (al : Ad) (C : Wo) (post : Option Value → Ad → Wo → Prop) : Prop :=
  Met l y ws rm (va_Pc av (fun U => (wd D bs al C U.heap ∧ En D ta pl bs U) ∧ E U)) (fun _ s0 oc t => (∃ (rv : Option Value) (al' : Ad) (C' : Wo), oc = .returned rv ∧ post rv al' C' ∧ wd D bs al' C' t.heap) ∧ va_F (fr bs) s0 t) mc ms (fr bs)
theorem GE.of {E : State → Prop} {l : Launch} {D : va_G} {ta : Nat → ClassId} {pl : Nat → Nat} {bs : Nat} {y : MethodName} {ws ws' : List Cond} {rm : Room} {mc ms : Nat} {av : List Value} {al : Ad} {C : Wo} {post : Option Value → Ad → Wo → Prop} {cc : ByteArray} {maxL : Nat} {rt : Option FieldType}
    (hy : plainName y.cls = true) (hw : ws = Cond.code y cc maxL rt :: ws') (hlen : (lg_sl av).length ≤ maxL)
    (body : ∀ (p : Program) (e : Env) (s : State) (m : MethodId) (args : Array Value) (below : List Frame) (meth : Method) (c : Code), Cx D ta pl bs maxL p s m args meth c cc ws y.cls rt → E s →
      WW D bs maxL p l e rm s m args below meth c (QQ D bs below args s mc ms post) al C 0 0 0 (lv_args 0 av) []) : GE E l D ta pl bs y ws rm mc ms av al C post := by
  refine Met.ofW hy hw ?_
  intro p e s m args below meth c s₁ B hml hv
  obtain ⟨rfl, ⟨hwd, hE⟩, hEs⟩ := hv
  have hK := body p e s m _ below meth c ⟨⟨B.exec, B.bytes, hml, findClass_of_methodNamed B.named, atoms_spec (ws := ws) B.pre⟩, B.returns, B.notSynchronized, hE⟩ hEs
  rw [lg_entry_eq]
  exact hK s.heap [] _ hwd va_S.rf (lv_entry av hlen)
theorem GE.ofW {E : State → Prop} {l : Launch} {D : va_G} {ta : Nat → ClassId} {pl : Nat → Nat} {bs : Nat} {y : MethodName} {ws ws' : List Cond} {rm : Room} {mc ms : Nat} {av : List Value} {al : Ad} {C : Wo} {post : Option Value → Ad → Wo → Prop} {cc : ByteArray} {maxL : Nat} {rt : Option FieldType} {q1 q2 q3 q4 : Nat}
    (hy : plainName y.cls = true) (hw : ws = Cond.codeWith y cc maxL rt [(q1, q2, q3, q4)] :: ws') (hlen : (lg_sl av).length ≤ maxL)
    (body : ∀ (p : Program) (e : Env) (s : State) (m : MethodId) (args : Array Value) (below : List Frame) (meth : Method) (c : Code), Cx D ta pl bs maxL p s m args meth c cc ws y.cls rt → E s → (∃ x0 : ExceptionTableEntry, c.exceptionTable.toList = [x0] ∧ x0.startPc = q1 ∧ x0.endPc = q2 ∧ x0.handlerPc = q3 ∧ x0.catchType = q4) →
      WW D bs maxL p l e rm s m args below meth c (QQ D bs below args s mc ms post) al C 0 0 0 (lv_args 0 av) []) : GE E l D ta pl bs y ws rm mc ms av al C post := by
  refine va_MetW hy hw ?_
  intro p e s m args below meth c s₁ B hml hv
  obtain ⟨rfl, ⟨hwd, hE⟩, hEs⟩ := hv
  have X₀ := Stand.of_body B
  have hex : ∃ x0 : ExceptionTableEntry, c.exceptionTable.toList = [x0] ∧ x0.startPc = q1 ∧ x0.endPc = q2 ∧ x0.handlerPc = q3 ∧ x0.catchType = q4 := by
    obtain ⟨m9, meth', c', hn9, h1, h2, -, -, h3, -⟩ := Cond.codeWith_spec (atoms_spec (ws := ws) B.pre _ (by rw [hw]; exact List.mem_cons_self))
    cases B.named.symm.trans hn9
    cases h1.symm.trans X₀.method
    cases h2.symm.trans X₀.code
    cases hq : c.exceptionTable.toList with
    | nil => rw [hq] at h3; cases h3
    | cons x0 r =>
      cases r with
      | nil =>
        rw [hq] at h3
        simp only [List.map_cons, List.map_nil, List.cons.injEq, Prod.mk.injEq, and_true] at h3
        exact ⟨x0, rfl, h3.1, h3.2.1, h3.2.2.1, h3.2.2.2⟩
      | cons _ _ => rw [hq] at h3; simp at h3
  have hK := body p e s m _ below meth c ⟨⟨B.exec, B.bytes, hml, findClass_of_methodNamed B.named, atoms_spec (ws := ws) B.pre⟩, B.returns, B.notSynchronized, hE⟩ hEs hex
  rw [lg_entry_eq]
  exact hK s.heap [] _ hwd va_S.rf (lv_entry av hlen)
section GL
variable {p : Program} {l : Launch} {e : Env} {R : Room} {s : State} {m : MethodId} {args : Array Value} {below : List Frame} {meth : Method} {c : Code} {Q : State → Prop}
variable {D : va_G} {ta : Nat → ClassId} {pl : Nat → Nat} {bs nL : Nat} {cc : ByteArray} {Ts : List Cond} {own : String} {rt : Option FieldType}
variable {al : Ad} {C : Wo} {cells slots pc : Nat} {lv : List (Nat × Value)} {st : List Value} {E : State → Prop}
theorem e_blind {av : List Value} (hst : Est bs E) : FrameBlind (va_Pc av (fun U => (wd D bs al C U.heap ∧ En D ta pl bs U) ∧ E U)) := fun a U g mk q => by
  obtain ⟨q0, ⟨qw, qE⟩, qq⟩ := q
  exact ⟨q0, ⟨qw, qE.moved (U := U.calling g mk a) (Vm.Alike.refl U.vm) va_S.rf⟩, hst U (U.calling g mk a) [] qq (State.WarmedH.refl _) va_S.rf⟩
theorem g_callSE (X : Cx D ta pl bs nL p s m args meth c cc Ts own rt) (hst : Est bs E) (hEs : E s) {index : Nat} {y : MethodName} {bytes : ByteArray} {maxL n : Nat} {rt' : Option FieldType} {ws ws' : List Cond} {rm : Room} {mc ms : Nat} {post : Option Value → Ad → Wo → Prop} (As : List Value) (hM : GE E l D ta pl bs y ws rm mc ms As al C post) (hG : GoodIn Ts (va_wsS own index y ws)) (hw0 : ws = Cond.code y bytes maxL rt' :: ws') (hrc : rm.cells = mc) (hrs : rm.slots = ms) (hy : y.cls ≠ "java/lang/invoke/MethodHandle" ∧ y.cls ≠ "java/lang/invoke/VarHandle" ∧ (parseMethodDescriptor y.desc).map (fun d => d.parameters.length) = some n) (hR : rm.frames + 1 ≤ R.frames ∧ 8 + (maxL + 11) + rm.locals ≤ R.locals) (hn : As.length = n) (hro : (st.map fun v => v.category).sum ≤ 8) (hd : decode cc pc = .ok (.invokestatic index, 3)) (hf : cells + mc ≤ R.cells ∧ slots + ms ≤ R.slots) (stk : List Value) (hstk : stk = As.reverse ++ st)
    (K : ∀ (rv : Option Value) (al' : Ad) (C' : Wo), post rv al' C' → WW D bs nL p l e R s m args below meth c Q al' C' (cells + mc) (slots + ms) (pc + 3) lv (rv.toList ++ st)) : WW D bs nL p l e R s m args below meth c Q al C cells slots pc lv stk := by
  intro H locs ls hw hS hl
  subst hstk
  refine g_run (y := y) (ws := ws) (rm := rm) (av := As) X.2.2.2 (va_runS (As := As) (rest := st) X.1 hM (va_cwS n X.1.2.2.2.2 hG hw0 hrc hrs hy hR) ⟨e_blind hst, fun U hU hW => ⟨rfl, ⟨by rw [hU]; exact hw, X.2.2.2.moved hW.alike (by rw [hU]; exact hS)⟩, hst s U locs hEs hW (by rw [hU]; exact hS)⟩⟩ rfl hn hl.1 rfl (lv_room hro) hd hf) hS hl K
theorem g_callSW (X : Cx D ta pl bs nL p s m args meth c cc Ts own rt) (hst : Est bs E) (hEs : E s) {index : Nat} {y : MethodName} {bytes : ByteArray} {maxL n : Nat} {rt' : Option FieldType} {hh : List (Nat × Nat × Nat × Nat)} {ws ws' : List Cond} {rm : Room} {mc ms : Nat} {post : Option Value → Ad → Wo → Prop} (As : List Value) (hM : GE E l D ta pl bs y ws rm mc ms As al C post) (hG : GoodIn Ts (va_wsS own index y ws)) (hw0 : ws = Cond.codeWith y bytes maxL rt' hh :: ws') (hrc : rm.cells = mc) (hrs : rm.slots = ms) (hy : y.cls ≠ "java/lang/invoke/MethodHandle" ∧ y.cls ≠ "java/lang/invoke/VarHandle" ∧ (parseMethodDescriptor y.desc).map (fun d => d.parameters.length) = some n) (hR : rm.frames + 1 ≤ R.frames ∧ 8 + (maxL + 11) + rm.locals ≤ R.locals) (hn : As.length = n) (hro : (st.map fun v => v.category).sum ≤ 8) (hd : decode cc pc = .ok (.invokestatic index, 3)) (hf : cells + mc ≤ R.cells ∧ slots + ms ≤ R.slots) (stk : List Value) (hstk : stk = As.reverse ++ st)
    (K : ∀ (rv : Option Value) (al' : Ad) (C' : Wo), post rv al' C' → WW D bs nL p l e R s m args below meth c Q al' C' (cells + mc) (slots + ms) (pc + 3) lv (rv.toList ++ st)) : WW D bs nL p l e R s m args below meth c Q al C cells slots pc lv stk := by
  intro H locs ls hw hS hl
  subst hstk
  have ok : ∀ w ∈ va_wsS own index y ws, w.before args s = true := fun w h => X.1.2.2.2.2 w (hG w h).1
  have hGw : GoodIn Ts ws := fun w h => hG w (by unfold va_wsS; exact List.mem_append_right _ h)
  have hcw : Cond.codeWith y bytes maxL rt' hh ∈ ws := by rw [hw0]; exact List.mem_cons_self
  have hini : (Cond.initialized y.cls).before args s = true := ok _ (by simp [va_wsS])
  have hK : Back l R p e below s args y 3 8 (PreOf R mc ms _) (PostOf _ mc ms (fr bs)) := va_backW (hh := hh) (bytes := bytes) (maxL := maxL) (ret := rt') hM (e_blind hst) hrc hrs hR.1 hR.2 (pay_in X.1.2.2.2.2 hGw) hcw (fun a' U hW => word_at hW (Or.inl (by first | rfl | simp [Cond.onTables, Cond.keeps, Cond.steady])) hini)
  obtain ⟨mk, methM, cM, hnamed, hmethM, -, -, -, -, -, -, hsigM⟩ := Cond.codeWith_spec (X.1.2.2.2.2 _ (hGw _ hcw).1)
  have hstatic : methM.isStatic = true := Cond.static_spec hnamed hmethM (ok (.static y) (by simp [va_wsS]))
  obtain ⟨kP, hkP, -⟩ := className_of_methodNamed hnamed
  have hinitP : kP.init = .initialized := Cond.initialized_spec (findClass_of_methodNamed hnamed) hkP hini
  have hlenA : As.length = methM.sig.parameters.length := by
    have h2 := hy.2.2
    rw [hsigM] at h2
    exact hn.trans (Option.some.inj h2).symm
  refine g_run (y := y) (ws := ws) (rm := rm) (av := As) (mc := mc) (ms := ms) (rest := st) (post := post) X.2.2.2 ?_ hS hl K
  intro T hT XT
  obtain ⟨vm₁, X₁, hstep₁⟩ := XT.invokestatic X.1.1 X.1.2.2.2.1 (ok (.methodLink own index y) (by simp [va_wsS])) hnamed hmethM hstatic hkP hinitP ⟨hy.1, hy.2.1⟩ (g := F0 m pc ls (As.reverse ++ st)) rfl (argsL := As) (rest := st) hlenA rfl (by rw [X.1.2.1]; exact hd)
  obtain ⟨v, ⟨U', l2, c2, s2⟩, X', ⟨g', mk', t, L, e1, e2, hq, h1, hL, h2, h3⟩, hsteps⟩ := hK m meth c ⟨T.setVm vm₁, locs, cells, slots⟩ (F0 m pc ls st) (.invokestatic index) mk As.toArray X₁ rfl (by rw [X.1.2.2.1]; exact hl.1) (by rw [X.1.2.1]; exact hd) (lv_room hro) (X₁.named hnamed)
    ⟨hf.1, hf.2, rfl, ⟨by show wd D bs al C T.heap; rw [hT]; exact hw, X.2.2.2.moved (U := T.setVm vm₁) X₁.warmed.alike (by show va_S (fr bs) s.heap T.heap locs; rw [hT]; exact hS)⟩, hst s (T.setVm vm₁) locs hEs X₁.warmed (by show va_S (fr bs) s.heap T.heap locs; rw [hT]; exact hS)⟩
  dsimp only [Pt.U, Pt.locs, Pt.cells, Pt.slots] at X' e1 e2 h1 h2 h3 hsteps
  subst h1; subst h2; subst h3
  exact ⟨v, (T.setVm vm₁).calling g' mk' As.toArray, t, U', L, hT, X', hL, e1, e2, hq, fun target h => hstep₁ _ fun acts => by rw [doInvoke_state]; exact hsteps.trans h⟩
theorem g_sld (X : Cx D ta pl bs nL p s m args meth c cc Ts own rt) {b L : Nat} {xs : Nat → Int32} (hX : ScE b L xs bs s) (j : Nat) (hj : j < L) (hL : L < 2 ^ 31) (hd : decode cc pc = .ok (.iaload, 1)) (K : WW D bs nL p l e R s m args below meth c Q al C cells slots (pc + 1) lv (.int (xs j) :: st)) : WW D bs nL p l e R s m args below meth c Q al C cells slots pc lv (.int (nI j) :: .ref b :: st) := fun H locs ls hw hS hl => by
  obtain ⟨scr, h1, -⟩ := id hX.1
  exact va_sld X.1.1 X.1.2.1 hX.1 (Array.getElem?_eq_some_iff.mp h1).1 (fun z => absurd hX.2 (Nat.not_lt.mpr z)) hS (vp_in_nI hj hL) hd (by rw [nI_clamp (Nat.lt_trans hj hL)]; exact K H locs ls hw hS hl)
theorem g_slen (X : Cx D ta pl bs nL p s m args meth c cc Ts own rt) {b L : Nat} {xs : Nat → Int32} (hX : ScE b L xs bs s) (hd : decode cc pc = .ok (.arraylength, 1)) (K : WW D bs nL p l e R s m args below meth c Q al C cells slots (pc + 1) lv (.int (nI L) :: st)) : WW D bs nL p l e R s m args below meth c Q al C cells slots pc lv (.ref b :: st) := fun H locs ls hw hS hl => by
  obtain ⟨scr, h1, -⟩ := id hX.1
  exact va_slen X.1.1 X.1.2.1 hX.1 (Array.getElem?_eq_some_iff.mp h1).1 (fun z => absurd hX.2 (Nat.not_lt.mpr z)) hS hd (K H locs ls hw hS hl)
end GL
def sc (L : Nat) (xs : Nat → Int32) (k : Nat) : Int32 := if k < L then xs k else 0
set_option maxRecDepth 100000 in
set_option maxHeartbeats 4000000 in
theorem l_cell {l : Launch} {D : va_G} {ta : Nat → ClassId} {pl : Nat → Nat} {bs : Nat} {al : Ad} {C : Wo} {b L : Nat} {xs : Nat → Int32} (hL : L ≤ 2050) (k : Nat) (hk : k < 2 ^ 31) : GE (ScE b L xs bs) l D ta pl bs yL_cell wsL_cell (rmF 0 0) 0 0 [.ref b, .int (nI k)] al C (fun r al' C' => r = some (.int (sc L xs k)) ∧ al' = al ∧ C' = C) := by
  refine GE.of (by decide) rfl (Nat.le_of_ble_eq_true rfl) ?_
  intro p e s m args below meth c X hX
  refine g_lv (lv' := [(0, .ref b), (1, .int (nI k))]) [0, 1] rfl ?_
  refine g_iload_n X 1 dL_cell_0 rfl rfl ?_
  refine g_aload_n X 0 dL_cell_1 rfl rfl ?_
  refine g_slen X hX dL_cell_2 ?_
  refine g_icmp_ge X 12 dL_cell_3 (by decide) (nI_leI (by omega) (by omega)) (fun c_1 => ?_) (fun c_1 => ?_)
  · refine g_iconst X (v := 0) dL_cell_12 (by decide) ?_
    exact g_iret X rfl dL_cell_13 ⟨by rw [sc, if_neg (by omega)], rfl, rfl⟩
  · refine g_aload_n X 0 dL_cell_6 rfl rfl ?_
    refine g_iload_n X 1 dL_cell_7 rfl rfl ?_
    refine g_sld X hX k (by omega) (by omega) dL_cell_8 ?_
    refine g_goto X 13 dL_cell_9 (by decide) ?_
    exact g_iret X rfl dL_cell_13 ⟨by rw [sc, if_pos (by omega)], rfl, rfl⟩
/-- the law's long[1] beside nothing -/
def ZL (ta : Nat → ClassId) (f : Nat → Int64) : Wo := fun k i => if k = 26 ∧ i = 0 then some (.inl (ta 4, 1, .inr (.inl f))) else none
/-- the law's world: the class' cells, the model's, the long[1] -/
def LW (ta : Nat → ClassId) (pl : Nat → Nat) (al : Ad) (f : Nat → Int64) (u v : St) : Wo := mC (mM (ZL ta f) ta al v) ta pl al u
theorem mM_al {Z : Wo} {ta : Nat → ClassId} {al al' : Ad} {v : St} (h : ∀ k i, k ≠ 9 → al' k i = al k i) : mM Z ta al v = mM Z ta al' v := by
  funext k i
  unfold mM cM
  simp only [h _ _ (show (11 : Nat) ≠ 9 by decide), h _ _ (show (12 : Nat) ≠ 9 by decide), h _ _ (show (13 : Nat) ≠ 9 by decide), h _ _ (show (14 : Nat) ≠ 9 by decide), h _ _ (show (15 : Nat) ≠ 9 by decide), h _ _ (show (16 : Nat) ≠ 9 by decide), h _ _ (show (17 : Nat) ≠ 9 by decide), h _ _ (show (18 : Nat) ≠ 9 by decide), h _ _ (show (19 : Nat) ≠ 9 by decide), h _ _ (show (20 : Nat) ≠ 9 by decide), h _ _ (show (21 : Nat) ≠ 9 by decide), h _ _ (show (22 : Nat) ≠ 9 by decide), h _ _ (show (23 : Nat) ≠ 9 by decide), h _ _ (show (24 : Nat) ≠ 9 by decide), h _ _ (show (25 : Nat) ≠ 9 by decide)]
theorem LW_26 {ta : Nat → ClassId} {pl : Nat → Nat} {al : Ad} {f : Nat → Int64} {u v : St} : LW ta pl al f u v 26 0 = some (.inl (ta 4, 1, .inr (.inl f))) := rfl
theorem LW_up {ta : Nat → ClassId} {pl : Nat → Nat} {al : Ad} {f g : Nat → Int64} {u v : St} : wup (LW ta pl al f u v) 26 0 (.inl (ta 4, 1, .inr (.inl g))) = LW ta pl al g u v := by
  funext k i
  by_cases h : k = 26 ∧ i = 0
  · obtain ⟨rfl, rfl⟩ := h
    rw [wup_self]; rfl
  · rw [wup_ne h]
    unfold LW mC mM ZL
    by_cases h1 : k < 10
    · simp [h1]
    · by_cases h2 : 10 ≤ k ∧ k < 26
      · simp [h1, h2]
      · simp [h1, h2, h]
theorem gi_l {big more ws : List Cond} (h : GoodIn big ws) : GoodIn (big ++ more) ws := fun w hw => ⟨List.mem_append_left _ (h w hw).1, (h w hw).2⟩
/-- the words of the law's tray and found, the class of the catch clause with them -/
def wCt : List Cond := [Cond.classLink RL 13 RJx00060]
def wsLt : List Cond := wsL_tray ++ wCt
def wsLf : List Cond := wsL_found ++ wCt
abbrev rmL : Room := { frames := 9, cells := 1, slots := 8, locals := 270 }
set_option maxRecDepth 100000 in
set_option maxHeartbeats 4000000 in
theorem l_tray {l : Launch} {D : va_G} {ta : Nat → ClassId} {pl : Nat → Nat} {bs : Nat} {al : Ad} {f : Nat → Int64} {u u' v : St} {a r : Int32} (hX : XR l D ta pl bs yX4_tray wsX4_tray [.int a] u (.int r) u') :
    GE (ThE bs) l D ta pl bs yL_tray wsLt rmL 1 8 [.ref (al 0 0), .int a, .ref (al 26 0)] al (LW ta pl al f u v) (fun rv al' C' => rv = some (.int 0) ∧ (∀ k i, k ≠ 9 → al' k i = al k i) ∧ ∃ f' : Nat → Int64, f' 0 = r.toInt64 ∧ C' = LW ta pl al' f' u' v) := by
  refine GE.ofW (by decide) rfl (Nat.le_of_ble_eq_true rfl) ?_
  intro p e s m args below meth c X hT hex
  refine g_lv (lv' := [(0, .ref (al 0 0)), (1, .int a), (2, .ref (al 26 0))]) [0, 1, 2] rfl ?_
  refine g_aload_n X 2 dL_tray_0 rfl rfl ?_
  refine g_iconst X (v := nI 0) dL_tray_1 (by decide) ?_
  refine g_aload_n X 0 dL_tray_2 rfl rfl ?_
  refine g_iload_n X 1 dL_tray_3 rfl rfl ?_
  refine g_callV (n := 1) X 0 0 [.int a] cx0 rfl (hX (mM (ZL ta f) ta al v) al) (gi_l gL_tray_X4_tray) rfl rfl rfl (by decide +kernel) ⟨by decide, by decide⟩ rfl (Nat.le_of_ble_eq_true rfl) dL_tray_4 ⟨by decide, by decide⟩ _ rfl ?_
  intro rv al' C' hp
  obtain ⟨rfl, ha, rfl⟩ := hp
  rw [mM_al ha]
  have h26 := ha 26 0 (by decide)
  refine g_i2l X (v := r.toInt64) dL_tray_7 rfl ?_
  rw [← h26]
  refine g_last X 26 0 LW_26 0 (by decide) (by decide) _ LW_up dL_tray_8 ?_
  refine g_goto X 15 dL_tray_9 (by decide) ?_
  refine g_iconst X (v := 0) dL_tray_15 (by decide) ?_
  exact g_iret X rfl dL_tray_16 ⟨rfl, ha, _, by simp [vp_updL], rfl⟩
set_option maxRecDepth 100000 in
set_option maxHeartbeats 4000000 in
theorem l_tray_t {l : Launch} (hfl : l.flags = flags0) {D : va_G} {ta : Nat → ClassId} {pl : Nat → Nat} {bs : Nat} {al : Ad} {f : Nat → Int64} {u v : St} {a : Int32} (h : ¬ inR a (u 0 0)) :
    GE (ThE bs) l D ta pl bs yL_tray wsLt rmL 1 8 [.ref (al 0 0), .int a, .ref (al 26 0)] al (LW ta pl al f u v) (fun rv al' C' => rv = some (.int 1) ∧ al' = al ∧ C' = LW ta pl al f u v) := by
  refine GE.ofW (by decide) rfl (Nat.le_of_ble_eq_true rfl) ?_
  intro p e s m args below meth c X hT hex
  obtain ⟨x0, hx, hx1, hx2, hx3, hx4⟩ := hex
  refine g_lv (lv' := [(0, .ref (al 0 0)), (1, .int a), (2, .ref (al 26 0))]) [0, 1, 2] rfl ?_
  refine g_aload_n X 2 dL_tray_0 rfl rfl ?_
  refine g_iconst X (v := nI 0) dL_tray_1 (by decide) ?_
  refine g_aload_n X 0 dL_tray_2 rfl rfl ?_
  refine g_iload_n X 1 dL_tray_3 rfl rfl ?_
  refine g_callVT (n := 1) X 0 0 [.int a] cx0 rfl (t_tray hfl a h) (gi_l gL_tray_X4_tray) rfl rfl rfl (by decide +kernel) ⟨by decide, by decide⟩ rfl (Nat.le_of_ble_eq_true rfl) dL_tray_4 ⟨by decide, by decide⟩ _ rfl hT hx (by omega) (by omega) (by omega) (by rw [hx4]; exact List.mem_append_right _ List.mem_cons_self) ?_
  intro x
  rw [hx3]
  refine g_widen (k := 1) (n := 8) (by decide) (by decide) ?_
  refine g_astore_n X [(3, .ref x), (0, .ref (al 0 0)), (1, .int a), (2, .ref (al 26 0))] dL_tray_12 rfl (by decide) rfl ?_
  refine g_iconst X (v := 1) dL_tray_13 (by decide) ?_
  exact g_iret X rfl dL_tray_14 ⟨rfl, rfl, rfl⟩
set_option maxRecDepth 100000 in
set_option maxHeartbeats 4000000 in
theorem l_found {l : Launch} {D : va_G} {ta : Nat → ClassId} {pl : Nat → Nat} {bs : Nat} {al : Ad} {f : Nat → Int64} {u u' v : St} {a b r : Int32} (hX : XR l D ta pl bs yX4_found wsX4_found [.int a, .int b] u (.int r) u') :
    GE (ThE bs) l D ta pl bs yL_found wsLf rmL 1 8 [.ref (al 0 0), .int a, .int b, .ref (al 26 0)] al (LW ta pl al f u v) (fun rv al' C' => rv = some (.int 0) ∧ (∀ k i, k ≠ 9 → al' k i = al k i) ∧ ∃ f' : Nat → Int64, f' 0 = r.toInt64 ∧ C' = LW ta pl al' f' u' v) := by
  refine GE.ofW (by decide) rfl (Nat.le_of_ble_eq_true rfl) ?_
  intro p e s m args below meth c X hT hex
  refine g_lv (lv' := [(0, .ref (al 0 0)), (1, .int a), (2, .int b), (3, .ref (al 26 0))]) [0, 1, 2, 3] rfl ?_
  refine g_aload_n X 3 dL_found_0 rfl rfl ?_
  refine g_iconst X (v := nI 0) dL_found_1 (by decide) ?_
  refine g_aload_n X 0 dL_found_2 rfl rfl ?_
  refine g_iload_n X 1 dL_found_3 rfl rfl ?_
  refine g_iload_n X 2 dL_found_4 rfl rfl ?_
  refine g_callV (n := 2) X 0 0 [.int a, .int b] cx0 rfl (hX (mM (ZL ta f) ta al v) al) (gi_l gL_found_X4_found) rfl rfl rfl (by decide +kernel) ⟨by decide, by decide⟩ rfl (Nat.le_of_ble_eq_true rfl) dL_found_5 ⟨by decide, by decide⟩ _ rfl ?_
  intro rv al' C' hp
  obtain ⟨rfl, ha, rfl⟩ := hp
  rw [mM_al ha]
  have h26 := ha 26 0 (by decide)
  refine g_i2l X (v := r.toInt64) dL_found_8 rfl ?_
  rw [← h26]
  refine g_last X 26 0 LW_26 0 (by decide) (by decide) _ LW_up dL_found_9 ?_
  refine g_goto X 17 dL_found_10 (by decide) ?_
  refine g_iconst X (v := 0) dL_found_17 (by decide) ?_
  exact g_iret X rfl dL_found_18 ⟨rfl, ha, _, by simp [vp_updL], rfl⟩
set_option maxRecDepth 100000 in
set_option maxHeartbeats 4000000 in
theorem l_found_t {l : Launch} (hfl : l.flags = flags0) {D : va_G} {ta : Nat → ClassId} {pl : Nat → Nat} {bs : Nat} {al : Ad} {f : Nat → Int64} {u v : St} (i : Nat) {b : Int32} (hI : Iv u) (hi1 : 1 ≤ i) (hi2 : i ≤ u 2 0) (hp : u 23 i = 2) (h : ¬ inR b (u 0 0)) :
    GE (ThE bs) l D ta pl bs yL_found wsLf rmL 1 8 [.ref (al 0 0), .int (nI i), .int b, .ref (al 26 0)] al (LW ta pl al f u v) (fun rv al' C' => rv = some (.int 1) ∧ al' = al ∧ C' = LW ta pl al f u v) := by
  refine GE.ofW (by decide) rfl (Nat.le_of_ble_eq_true rfl) ?_
  intro p e s m args below meth c X hT hex
  obtain ⟨x0, hx, hx1, hx2, hx3, hx4⟩ := hex
  refine g_lv (lv' := [(0, .ref (al 0 0)), (1, .int (nI i)), (2, .int b), (3, .ref (al 26 0))]) [0, 1, 2, 3] rfl ?_
  refine g_aload_n X 3 dL_found_0 rfl rfl ?_
  refine g_iconst X (v := nI 0) dL_found_1 (by decide) ?_
  refine g_aload_n X 0 dL_found_2 rfl rfl ?_
  refine g_iload_n X 1 dL_found_3 rfl rfl ?_
  refine g_iload_n X 2 dL_found_4 rfl rfl ?_
  refine g_callVT (n := 2) X 0 0 [.int (nI i), .int b] cx0 rfl (t_found hfl i b hI hi1 hi2 hp h) (gi_l gL_found_X4_found) rfl rfl rfl (by decide +kernel) ⟨by decide, by decide⟩ rfl (Nat.le_of_ble_eq_true rfl) dL_found_5 ⟨by decide, by decide⟩ _ rfl hT hx (by omega) (by omega) (by omega) (by rw [hx4]; exact List.mem_append_right _ List.mem_cons_self) ?_
  intro x
  rw [hx3]
  refine g_widen (k := 1) (n := 8) (by decide) (by decide) ?_
  refine g_astore X [(4, .ref x), (0, .ref (al 0 0)), (1, .int (nI i)), (2, .int b), (3, .ref (al 26 0))] dL_found_13 (by decide) rfl ?_
  refine g_iconst X (v := 1) dL_found_15 (by decide) ?_
  exact g_iret X rfl dL_found_16 ⟨rfl, rfl, rfl⟩
