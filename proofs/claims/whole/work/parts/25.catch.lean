/-! a throw out of a callee, caught here: the catch clause's class may still be unresolved -/
theorem ct_find {e : Env} {s : State} {f : JFrame} {a : Addr} {meth : Method} {code : Code} {x : ExceptionTableEntry} {c : ClassId} {cell : Cell} (hm : s.vm.method? f.method = some meth) (hc : meth.code = some code) (hs : code.exceptionTable.toList = [x]) (h1 : x.startPc ≤ f.pc) (h2 : f.pc < x.endPc) (h0 : x.catchType ≠ 0)
    (hl : s.vm.ClassLinks e.platform f.method.cls x.catchType c) (hcell : s.heap[a]? = some cell) (hobj : ∀ k, cell.vm ≠ .statics k) (hk : ∃ k, s.vm.classes[cell.cls]? = some k) (hcl : ∃ k, s.vm.classes[c]? = some k) (hfit : s.vm.assignable cell.cls c = true) (Q : Handler → Jvm.Pre) (E : Jvm.CtlPost) (d : Bool) (acts : List Action) :
    Sem.wp (findHandler f a) Q E e d acts s ↔ Q (.found x.handlerPc) d acts (s.setVm (s.vm.noted f.method.cls x.catchType (.cls c))) := by
  obtain ⟨r1, r2⟩ := (resolveClass_links e.toSetting hl).op (op := VmOp.resolveClass f.method.cls x.catchType) rfl
  have al := (Vm.Alike.refl s.vm).noted f.method.cls x.catchType (.cls c)
  obtain ⟨k1, e1⟩ := hk
  obtain ⟨k2, e2⟩ := hcl
  obtain ⟨k3, e3, -⟩ := al.2.2 _ _ e1
  obtain ⟨k4, e4, -⟩ := al.2.2 _ _ e2
  have e5 : (s.vm.noted f.method.cls x.catchType (.cls c)).assignable cell.cls c = true := (al.assignable _ _).trans hfit
  rw [W.findHandler_eq hm hc, hs]
  simp [findHandler.go, h1, h2, h0, r1, r2, hcell, hobj, e3, e4, e5, VmOp.dirties, VmOp.acts]
theorem ct_step {tb : Tables} {e : Env} {s target : State} {g : JFrame} {c : Code} {below : List Frame} {a : Addr} (h : At s g.method c below) {tgt : Nat} {vm' : Vm}
    (hf : ∀ (Q : Handler → Jvm.Pre) (E : Jvm.CtlPost) (d : Bool) (acts : List Action), Sem.wp (findHandler g a) Q E e d acts ((s.setTop g).pushFrame (.throwing a)) ↔ Q (.found tgt) d acts (((s.setTop g).pushFrame (.throwing a)).setVm vm'))
    (hr : Steps tb e below ((s.setVm vm').setTop { g with pc := tgt, stack := [.ref a] }) target) : Steps tb e below ((s.setTop g).pushFrame (.throwing a)) target := by
  obtain ⟨hgo, hw⟩ := h.throwing a
  obtain ⟨g₀, hg⟩ := Option.isSome_iff_exists.mp h.top
  obtain ⟨r, hfs⟩ := State.topJava?_eq_some.mp hg
  have hfs' : (s.setVm vm').frames = .java g₀ :: r := hfs
  have key : ∀ rr, (stepThrowing e ((s.setTop g).pushFrame (.throwing a)) a (.java g :: rr)).1 = (((s.setTop g).pushFrame (.throwing a)).setVm vm').setFrames (.java { g with pc := tgt, stack := [.ref a] } :: rr) := by
    intro rr
    simp only [stepThrowing, searchFrame, vmDo]
    generalize hres : Sem.go _ e false [] _ = res
    obtain ⟨as, rfl, -⟩ := Sem.eq_ok_of hres (a := Handler.found tgt) (s' := ((s.setTop g).pushFrame (.throwing a)).setVm vm') (acts' := []) (by simp [hf _ _ _ _])
    rfl
  refine Steps.head hgo hw ?_
  rw [stepThread_throwing (frames_entered h.top _), key, hfs, List.tail_cons]
  rw [State.setTop_of_frames _ hfs'] at hr
  have e1 : ∀ (u : State) (F G : List Frame), ((u.setFrames F).setVm vm').setFrames G = (u.setVm vm').setFrames G := fun u F G => by
    have : (u.setFrames F).setVm vm' = (u.setVm vm').setFrames F := rfl
    rw [this, State.setFrames_setFrames]
  rw [State.pushFrame, e1, State.setTop_of_frames _ hfs, e1]
  exact hr
section GC
variable {p : Program} {l : Launch} {e : Env} {R : Room} {s : State} {m : MethodId} {args : Array Value} {below : List Frame} {meth : Method} {c : Code} {Q : State → Prop}
variable {D : va_G} {ta : Nat → ClassId} {pl : Nat → Nat} {bs nL : Nat} {cc : ByteArray} {Ts : List Cond} {own : String} {rt : Option FieldType}
variable {al : Ad} {C : Wo} {cells slots pc : Nat} {lv : List (Nat × Value)} {st : List Value}
set_option maxHeartbeats 1000000 in
theorem g_callVT (X : Cx D ta pl bs nL p s m args meth c cc Ts own rt) {Cn : String} {T : u_T} {N ci index : Nat} {y : MethodName} {bytes : ByteArray} {maxL n : Nat} {rt' : Option FieldType} {ws ws' : List Cond} {rm : Room} (k i : Nat) {fs : List Value} (As : List Value) (he : C k i = some (.inr (ci, fs))) (hc : vwCl[ci]? = some (Cn, T, N)) (hM : MT l D ta pl bs y ws rm (.ref (al k i) :: As) al C) (hG : GoodIn Ts (wsV own index Cn y ws)) (hw0 : ws = Cond.code y bytes maxL rt' :: ws') (hrc : rm.cells = 1) (hrs : rm.slots = 6) (hy : y.cls = Cn ∧ y.cls ≠ "java/lang/invoke/MethodHandle" ∧ y.cls ≠ "java/lang/invoke/VarHandle" ∧ (parseMethodDescriptor y.desc).map (fun d => d.parameters.length) = some n) (hR : rm.frames + 1 ≤ R.frames ∧ 8 + (maxL + 11) + rm.locals ≤ R.locals) (hn : As.length = n) (hro : (st.map fun v => v.category).sum ≤ 8) (hd : decode cc pc = .ok (.invokevirtual index, 3)) (hf : cells + 1 ≤ R.cells ∧ slots + 6 ≤ R.slots) (stk : List Value) (hstk : stk = As.reverse ++ .ref (al k i) :: st)
    (hE : ThE bs s) {x0 : ExceptionTableEntry} (hx : c.exceptionTable.toList = [x0]) (hx1 : x0.startPc ≤ pc) (hx2 : pc < x0.endPc) (h0 : x0.catchType ≠ 0) (hlk : Cond.classLink own x0.catchType RJx00060 ∈ Ts)
    (K : ∀ x : Nat, WW D bs nL p l e R s m args below meth c Q al C (cells + 1) (slots + 6) x0.handlerPc lv [.ref x]) : WW D bs nL p l e R s m args below meth c Q al C cells slots pc lv stk := by
  intro H locs ls hw hS hl
  subst hstk
  obtain ⟨⟨-, -, hfr, hlo, hws, hcw, hcode, hini, hyn, hlen, hlk'⟩, hin, hse⟩ : CallW R s args own Cn index y bytes maxL rt' ws rm 1 6 n := cwV n X.1.2.2.2.2 hG hw0 hrc hrs hy hR
  obtain ⟨cellB, hcB, hoB, hclB⟩ := va_recv (q0 := 0) X.2.2.2.1 (va_P1 (hw.1 k i _ he).2) hc rfl
  intro T0 hT XT
  obtain ⟨mk, methM, hnamed, hmethM, hstM, habM⟩ := Cond.instanceMethod_spec hin
  obtain ⟨methM', cM, hmethM', -, -, -, -, -, -, hsigM⟩ := Cond.code_spec hnamed hcode
  cases hmethM.symm.trans hmethM'
  obtain ⟨c2, r2, m2, q1, q2, q3, q4, kP, hkP, hkPi⟩ := Cond.selects_spec hse
  cases hclB.symm.trans q1
  cases (State.methodFound?_of_named hnamed hyn).symm.trans q2
  cases hnamed.symm.trans q3
  have hselP : selectMethod e.platform s.vm cellB.cls mk = .method mk := by rw [Launch.admits_selectMethod XT.admits]; exact q4
  obtain ⟨vm₁, X₁, hstep₁⟩ := XT.invokevirtual X.1.1 X.1.2.2.2.1 hlk' hnamed hmethM hstM hkP hkPi hyn (a := al k i) (cell := cellB) (by rw [hT]; exact hcB)
    (fun z h => by rw [h] at hoB; cases hoB) hselP hmethM habM hkP hkPi (g := F0 m pc ls (As.reverse ++ .ref (al k i) :: st)) rfl (argsL := As) (rest := st) (hn.trans (hlen _ hsigM)) rfl (by rw [X.1.2.1]; exact hd)
  have hn1 : (T0.setVm vm₁).methodNamed? y = some mk := X₁.named hnamed
  obtain ⟨methY, cY, hmY, hcY, -, hlY, -, -, -, -⟩ := Cond.code_spec (args := #[]) (first := T0.setVm vm₁) (o := none) (idx := []) hn1 (hws _ hcw #[] _ X₁.warmed)
  obtain ⟨kY, hkY, -⟩ := className_of_methodNamed hn1
  have hini1 : (Cond.initialized y.cls).before (#[] : Array Value) (T0.setVm vm₁) = true := word_at X₁.warmed (Or.inl (by first | rfl | simp [Cond.onTables, Cond.keeps, Cond.steady])) hini
  have hinitY : kY.init = .initialized := Cond.initialized_spec (findClass_of_methodNamed hn1) hkY hini1
  have hro' : 2 * (F0 m pc ls st).monitorRoom + ((F0 m pc ls st).stack.map fun v => v.category).sum ≤ 8 := lv_room hro
  have happ : (headSpec ws rm).appliesLoose y e.platform ((T0.setVm vm₁).calling (F0 m pc ls st) mk (Value.ref (al k i) :: As).toArray) = true :=
    Spec.appliesLoose_calling (g := F0 m pc ls st) X₁.here (by rw [X.1.2.1]; exact hd) hn1 hkY hinitY
      (X₁.room_calling (g := F0 m pc ls st) (R' := rm) (by rw [X.1.2.2.1]; exact hl.1) hmY hcY hfr (by rw [hlY]; omega) (by rw [hrc]; exact hf.1) (by rw [hrs]; exact hf.2)) (atoms_intro fun w hw => hws w hw _ _ X₁.warmed)
  obtain ⟨mid, hmid⟩ := X₁.here.above
  have hfrs : ((T0.setVm vm₁).setTop (F0 m pc ls st)).frames = (.java (F0 m pc ls st) :: mid) ++ below := by rw [State.frames_setTop' _ X₁.here.top, hmid]; rfl
  obtain ⟨o, s₂, hsteps, -, hend, x, ho, hwd, hFr, ⟨ce, hce, hcev, hcec, hcea⟩, hW2, hsame⟩ := Steps.callFree hM p X₁.admits X₁.cas X₁.clock (acts := []) (m := mk) hfrs happ
    ⟨rfl, ⟨by show wd D bs al C T0.heap; rw [hT]; exact hw, X.2.2.2.moved (U := (T0.setVm vm₁).calling (F0 m pc ls st) mk (Value.ref (al k i) :: As).toArray) X₁.warmed.alike (by show va_S (fr bs) s.heap T0.heap locs; rw [hT]; exact hS)⟩,
      hE.moved (U := (T0.setVm vm₁).calling (F0 m pc ls st) mk (Value.ref (al k i) :: As).toArray) X₁.warmed (by show va_S (fr bs) s.heap T0.heap locs; rw [hT]; exact hS)⟩ trivial
  subst ho
  rw [State.frames_setTop' _ X₁.here.top, X₁.tail] at hend
  obtain ⟨T', X', hWT, hsT, rfl⟩ := X₁.outOfThrown (g := F0 m pc ls st) rfl hend hW2 hsame
  have hheap : (((T'.setTop (F0 m pc ls st)).pushFrame (.throwing x)) : State).heap = T'.heap := Stand.throwing_heap _ _ _
  rw [hheap] at hwd hce
  have hpl : e.platform.magicAccessors = ({} : Platform).magicAccessors := by rw [XT.admits.platform]
  obtain ⟨c', hc', hcl⟩ := Cond.classLink_spec X.1.2.2.2.1 (X.1.2.2.2.2 _ hlk) e.platform hpl
  have hcc : ce.cls = c' := by
    have h1 : (T0.setVm vm₁).vm.findClass RJx00060 = some ce.cls := hcec
    rw [X₁.warmed.alike.findClass] at h1
    exact Option.some.inj (h1.symm.trans hc')
  subst hcc
  obtain ⟨dk, _, _, kt, hd1, _, _, _, _, hkt, _, hopen⟩ := hcl.here
  have hW' : s.WarmedH (T'.vm.noted m.cls x0.catchType (.cls ce.cls)) := X'.warmed.noted hd1 hopen (State.rightAt_cls hcl)
  obtain ⟨kt', hkt', -⟩ := X'.warmed.alike.2.2 _ _ hkt
  have hfit : T'.vm.assignable ce.cls ce.cls = true := by
    have h1 : (T0.setVm vm₁).vm.assignable ce.cls ce.cls = true := hcea
    rw [X₁.warmed.alike.assignable] at h1
    rw [X'.warmed.alike.assignable]; exact h1
  obtain ⟨t2, b1, b2⟩ := K x T'.heap (locs ++ []) ls hwd
    (by
      have h5 : H.size ≤ T'.heap.size := by rw [← hheap, ← hT]; exact hFr.1
      have h6 : ∀ q : Nat, q < H.size → ¬ fr bs q → T'.heap[q]? = H[q]? := fun q h1 h2 => by
        rw [← hheap, ← hT]
        exact hFr.2 q (by show q < T0.heap.size; rw [hT]; exact h1) h2
      rw [List.append_nil]
      exact ⟨Nat.le_trans hS.1 h5, fun q h1 h2 => (h6 q (Nat.lt_of_lt_of_le h1 hS.1) h2).trans (hS.2.1 q h1 h2), hS.2.2⟩) hl (T'.setVm (T'.vm.noted m.cls x0.catchType (.cls ce.cls))) rfl (X'.noted hW')
  refine ⟨t2, hstep₁ _ (fun acts => ?_), b2⟩
  rw [doInvoke_state]
  refine hsteps.trans (ct_step (tgt := x0.handlerPc) (vm' := T'.vm.noted m.cls x0.catchType (.cls ce.cls)) X'.here ?_ b1)
  intro Q E d acts
  have hvm : (((T'.setTop (F0 m pc ls st)).pushFrame (.throwing x)) : State).vm = T'.vm := Stand.throwing_vm _ _ _
  have := ct_find (e := e) (s := (T'.setTop (F0 m pc ls st)).pushFrame (.throwing x)) (f := F0 m pc ls st) (a := x) (c := ce.cls) (cell := ce) (by rw [hvm]; exact X'.method') X'.code hx hx1 hx2 h0 (by rw [hvm]; exact X'.warmed.classLinks hcl) (by rw [hheap]; exact hce) (VmData.ne_statics_of hcev) (by rw [hvm]; exact ⟨kt', hkt'⟩) (by rw [hvm]; exact ⟨kt', hkt'⟩) (by rw [hvm]; exact hfit) Q E d acts
  rw [hvm] at this
  exact this
end GC
