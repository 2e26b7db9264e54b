/-! methods that write nothing and make nothing: the walk over one heap (rows by wip/whole/tools/gen_pure.py out of 03.base) -/
def WP (D : va_G) (bs nL : Nat) (p : Program) (l : Launch) (e : Env) (R : Room) (s : State) (m : MethodId) (args : Array Value) (below : List Frame) (meth : Method) (c : Code) (Q : State → Prop) (al : Ad) (C : Wo) (cells slots pc : Nat) (lv : List (Nat × Value)) (st : List Value) : Prop :=
  ∀ (H : Heap) (locs : List Loc) (ls : Array Slot), wd D bs al C H → (va_S (fr bs) s.heap H locs ∧ H = s.heap ∧ locs = []) → lv_has ls nL lv → W p l e R s m args below meth c H locs cells slots Q (F0 m pc ls st)
/-- a contract of such a method -/
def GP (l : Launch) (D : va_G) (ta : Nat → ClassId) (pl : Nat → Nat) (bs : Nat) (y : MethodName) (ws : List Cond) (rm : Room) (av : List Value) (al : Ad) (C : Wo) (rv : Option Value) : Prop :=
  Met l y ws rm (va_Pc av (fun U => wd D bs al C U.heap ∧ En D ta pl bs U)) (fun _ s0 oc t => oc = .returned rv ∧ t.heap = s0.heap) 0 0 (fun _ => False)
def QP (below : List Frame) (args : Array Value) (s : State) (rv : Option Value) : State → Prop :=
  MQ below (fun _ s0 oc t => oc = .returned rv ∧ t.heap = s0.heap) args s 0 0 (fun _ => False)
theorem GP.of {l : Launch} {D : va_G} {ta : Nat → ClassId} {pl : Nat → Nat} {bs : Nat} {y : MethodName} {ws ws' : List Cond} {rm : Room} {av : List Value} {al : Ad} {C : Wo} {rv : Option Value} {cc : ByteArray} {maxL : Nat} {rt : Option FieldType}
    (hy : plainName y.cls = true) (hw : ws = Cond.code y cc maxL rt :: ws') (hlen : (lg_sl av).length ≤ maxL)
    (body : ∀ (p : Program) (e : Env) (s : State) (m : MethodId) (args : Array Value) (below : List Frame) (meth : Method) (c : Code), Cx D ta pl bs maxL p s m args meth c cc ws y.cls rt →
      WP D bs maxL p l e rm s m args below meth c (QP below args s rv) al C 0 0 0 (lv_args 0 av) []) : GP l D ta pl bs y ws rm av al C rv := by
  refine Met.ofW hy hw ?_
  intro p e s m args below meth c s₁ B hml hv
  obtain ⟨rfl, hwd, hE⟩ := hv
  have hK := body p e s m _ below meth c ⟨⟨B.exec, B.bytes, hml, findClass_of_methodNamed B.named, atoms_spec (ws := ws) B.pre⟩, B.returns, B.notSynchronized, hE⟩
  rw [lg_entry_eq]
  exact hK s.heap [] _ hwd ⟨va_S.rf, rfl, rfl⟩ (lv_entry av hlen)
section GQ
variable {p : Program} {l : Launch} {e : Env} {R : Room} {s : State} {m : MethodId} {args : Array Value} {below : List Frame} {meth : Method} {c : Code} {Q : State → Prop}
variable {D : va_G} {ta : Nat → ClassId} {pl : Nat → Nat} {bs nL : Nat} {cc : ByteArray} {Ts : List Cond} {own : String} {rt : Option FieldType}
variable {al : Ad} {C : Wo} {cells slots pc : Nat} {lv : List (Nat × Value)} {st : List Value}
theorem q_iload_n (X : Cx D ta pl bs nL p s m args meth c cc Ts own rt) {k : Fin 4} {i : Nat} {x : Int32} (j : Nat) (hd : decode cc pc = .ok (.iload_n k, 1)) (hi : (k : Nat) = i) (hv : lv[j]? = some (i, .int x)) (K : WP D bs nL p l e R s m args below meth c Q al C cells slots (pc + 1) lv (.int x :: st)) : WP D bs nL p l e R s m args below meth c Q al C cells slots pc lv st := fun H locs ls hw hS hl => lv_iload_n X.1.1 X.1.2.1 hd hi (lv_at hl j hv) (K H locs ls hw hS hl)
theorem q_aload_n (X : Cx D ta pl bs nL p s m args meth c cc Ts own rt) {k : Fin 4} {i : Nat} {x : Nat} (j : Nat) (hd : decode cc pc = .ok (.aload_n k, 1)) (hi : (k : Nat) = i) (hv : lv[j]? = some (i, .ref x)) (K : WP D bs nL p l e R s m args below meth c Q al C cells slots (pc + 1) lv (.ref x :: st)) : WP D bs nL p l e R s m args below meth c Q al C cells slots pc lv st := fun H locs ls hw hS hl => lv_aload_n X.1.1 X.1.2.1 hd hi (lv_at hl j hv) (K H locs ls hw hS hl)
theorem q_iconst (X : Cx D ta pl bs nL p s m args meth c cc Ts own rt) {n : Int} {v : Int32} (hd : decode cc pc = .ok (.iconst n, 1)) (hv : Int32.ofInt n = v) (K : WP D bs nL p l e R s m args below meth c Q al C cells slots (pc + 1) lv (.int v :: st)) : WP D bs nL p l e R s m args below meth c Q al C cells slots pc lv st := fun H locs ls hw hS hl => lv_iconst X.1.1 X.1.2.1 hd hv (K H locs ls hw hS hl)
theorem q_isub (X : Cx D ta pl bs nL p s m args meth c cc Ts own rt) {x y v : Int32} (hd : decode cc pc = .ok (.isub, 1)) (hv : x - y = v) (K : WP D bs nL p l e R s m args below meth c Q al C cells slots (pc + 1) lv (.int v :: st)) : WP D bs nL p l e R s m args below meth c Q al C cells slots pc lv (.int y :: .int x :: st) := fun H locs ls hw hS hl => lv_isub X.1.1 X.1.2.1 hd (by rw [hv]; exact K H locs ls hw hS hl)
theorem q_null (X : Cx D ta pl bs nL p s m args meth c cc Ts own rt) (hd : decode cc pc = .ok (.aconst_null, 1)) (K : WP D bs nL p l e R s m args below meth c Q al C cells slots (pc + 1) lv (.null :: st)) : WP D bs nL p l e R s m args below meth c Q al C cells slots pc lv st := fun H locs ls hw hS hl => lv_null X.1.1 X.1.2.1 hd (K H locs ls hw hS hl)
theorem q_goto (X : Cx D ta pl bs nL p s m args meth c cc Ts own rt) {off : Int} (tgt : Nat) (hd : decode cc pc = .ok (.goto off, 3)) (ht : (pc : Int) + off = (tgt : Int)) (K : WP D bs nL p l e R s m args below meth c Q al C cells slots tgt lv st) : WP D bs nL p l e R s m args below meth c Q al C cells slots pc lv st := fun H locs ls hw hS hl => lv_goto X.1.1 X.1.2.1 hd ht (K H locs ls hw hS hl)
theorem q_icmp_lt (X : Cx D ta pl bs nL p s m args meth c cc Ts own rt) {x y : Int32} {off : Int} {P : Prop} (tgt : Nat) (hd : decode cc pc = .ok (.if_icmp .lt off, 3)) (ht : (pc : Int) + off = (tgt : Int)) (hP : (x < y) ↔ P) (kt : P → WP D bs nL p l e R s m args below meth c Q al C cells slots tgt lv st) (kf : ¬ P → WP D bs nL p l e R s m args below meth c Q al C cells slots (pc + 3) lv st) : WP D bs nL p l e R s m args below meth c Q al C cells slots pc lv (.int y :: .int x :: st) := fun H locs ls hw hS hl => lv_icmp_lt X.1.1 X.1.2.1 hd ht (fun h => kt (hP.mp h) H locs ls hw hS hl) (fun h => kf (fun z => h (hP.mpr z)) H locs ls hw hS hl)
theorem q_icmp_le (X : Cx D ta pl bs nL p s m args meth c cc Ts own rt) {x y : Int32} {off : Int} {P : Prop} (tgt : Nat) (hd : decode cc pc = .ok (.if_icmp .le off, 3)) (ht : (pc : Int) + off = (tgt : Int)) (hP : (x ≤ y) ↔ P) (kt : P → WP D bs nL p l e R s m args below meth c Q al C cells slots tgt lv st) (kf : ¬ P → WP D bs nL p l e R s m args below meth c Q al C cells slots (pc + 3) lv st) : WP D bs nL p l e R s m args below meth c Q al C cells slots pc lv (.int y :: .int x :: st) := fun H locs ls hw hS hl => lv_icmp_le X.1.1 X.1.2.1 hd ht (fun h => kt (hP.mp h) H locs ls hw hS hl) (fun h => kf (fun z => h (hP.mpr z)) H locs ls hw hS hl)
theorem q_icmp_ge (X : Cx D ta pl bs nL p s m args meth c cc Ts own rt) {x y : Int32} {off : Int} {P : Prop} (tgt : Nat) (hd : decode cc pc = .ok (.if_icmp .ge off, 3)) (ht : (pc : Int) + off = (tgt : Int)) (hP : (y ≤ x) ↔ P) (kt : P → WP D bs nL p l e R s m args below meth c Q al C cells slots tgt lv st) (kf : ¬ P → WP D bs nL p l e R s m args below meth c Q al C cells slots (pc + 3) lv st) : WP D bs nL p l e R s m args below meth c Q al C cells slots pc lv (.int y :: .int x :: st) := fun H locs ls hw hS hl => lv_icmp_ge X.1.1 X.1.2.1 hd ht (fun h => kt (hP.mp h) H locs ls hw hS hl) (fun h => kf (fun z => h (hP.mpr z)) H locs ls hw hS hl)
theorem q_if_lt (X : Cx D ta pl bs nL p s m args meth c cc Ts own rt) {x : Int32} {off : Int} {P : Prop} (tgt : Nat) (hd : decode cc pc = .ok (.ifCond .lt off, 3)) (ht : (pc : Int) + off = (tgt : Int)) (hP : (x < 0) ↔ P) (kt : P → WP D bs nL p l e R s m args below meth c Q al C cells slots tgt lv st) (kf : ¬ P → WP D bs nL p l e R s m args below meth c Q al C cells slots (pc + 3) lv st) : WP D bs nL p l e R s m args below meth c Q al C cells slots pc lv (.int x :: st) := fun H locs ls hw hS hl => lv_if_lt X.1.1 X.1.2.1 hd ht (fun h => kt (hP.mp h) H locs ls hw hS hl) (fun h => kf (fun z => h (hP.mpr z)) H locs ls hw hS hl)
theorem q_if_ne (X : Cx D ta pl bs nL p s m args meth c cc Ts own rt) {x : Int32} {off : Int} {P : Prop} (tgt : Nat) (hd : decode cc pc = .ok (.ifCond .ne off, 3)) (ht : (pc : Int) + off = (tgt : Int)) (hP : (x = 0) ↔ P) (kt : ¬ P → WP D bs nL p l e R s m args below meth c Q al C cells slots tgt lv st) (kf : P → WP D bs nL p l e R s m args below meth c Q al C cells slots (pc + 3) lv st) : WP D bs nL p l e R s m args below meth c Q al C cells slots pc lv (.int x :: st) := fun H locs ls hw hS hl => lv_if_ne X.1.1 X.1.2.1 hd ht (fun h => kt (fun z => h (hP.mpr z)) H locs ls hw hS hl) (fun h => kf (hP.mp h) H locs ls hw hS hl)
theorem q_astore_n (X : Cx D ta pl bs nL p s m args meth c cc Ts own rt) {k : Fin 4} {i : Nat} {x : Nat} (lv' : List (Nat × Value)) (hd : decode cc pc = .ok (.astore_n k, 1)) (hi : (k : Nat) = i) (hn : i < nL) (hl' : (i, Value.ref x) :: lv.filter (fun q => !(q.1 == i) && !(q.1 + 1 == i && q.2.category == 2)) = lv') (K : WP D bs nL p l e R s m args below meth c Q al C cells slots (pc + 1) lv' st) : WP D bs nL p l e R s m args below meth c Q al C cells slots pc lv (.ref x :: st) := fun H locs ls hw hS hl => lv_astore_n X.1.1 X.1.2.1 hd hi hl hn hl' (fun ls hl => K H locs ls hw hS hl)
theorem q_ifnonnull_r (X : Cx D ta pl bs nL p s m args meth c cc Ts own rt) {x : Nat} {off : Int} (tgt : Nat) (hd : decode cc pc = .ok (.ifnonnull off, 3)) (ht : (pc : Int) + off = (tgt : Int)) (K : WP D bs nL p l e R s m args below meth c Q al C cells slots tgt lv st) : WP D bs nL p l e R s m args below meth c Q al C cells slots pc lv (.ref x :: st) := fun H locs ls hw hS hl => lv_ifnonnull X.1.1 X.1.2.1 hd ht (K H locs ls hw hS hl)
theorem q_acmp_eq (X : Cx D ta pl bs nL p s m args meth c cc Ts own rt) {x y : Nat} {off : Int} {P : Prop} (tgt : Nat) (hd : decode cc pc = .ok (.if_acmp .eq off, 3)) (ht : (pc : Int) + off = (tgt : Int)) (hP : (x = y) ↔ P) (kt : P → WP D bs nL p l e R s m args below meth c Q al C cells slots tgt lv st) (kf : ¬ P → WP D bs nL p l e R s m args below meth c Q al C cells slots (pc + 3) lv st) : WP D bs nL p l e R s m args below meth c Q al C cells slots pc lv (.ref y :: .ref x :: st) := fun H locs ls hw hS hl => lv_acmp_eq (rx := some x) (ry := some y) X.1.1 X.1.2.1 hd ht (fun h => kt (hP.mp (Option.some.inj h)) H locs ls hw hS hl) (fun h => kf (fun z => h (congrArg some (hP.mpr z))) H locs ls hw hS hl)
theorem q_get (X : Cx D ta pl bs nL p s m args meth c cc Ts own rt) {ref Cn : String} {T : u_T} {N ci index : Nat} (k i : Nat) {fs : List Value} (he : C k i = some (.inr (ci, fs))) (hc : vwCl[ci]? = some (Cn, T, N)) (f : Nat) (hf : f < N) (hin : ∀ w ∈ u_ws Cn T N, w ∈ Ts) (hlink : Cond.fieldLink own index ref (T f).2.1 (T f).2.2.1 ∈ Ts) (href : (T f).1 = ref) {v : Value} (hv : fs[f]? = some v) (hd : decode cc pc = .ok (.getfield index, 3)) (K : WP D bs nL p l e R s m args below meth c Q al C cells slots (pc + 3) lv (v :: st)) : WP D bs nL p l e R s m args below meth c Q al C cells slots pc lv (.ref (al k i) :: st) := fun H locs ls hw hS hl => va_get (D := D) (ci := ci) (ws := [(al k i, .inr (ci, fs))]) X.1.1 X.1.2.1 X.1.2.2.2.2 hin X.1.2.2.2.1 X.2.2.2.1 (va_P1 (hw.1 k i _ he).2) 0 rfl hc f hf (X.1.2.2.2.2 _ hlink) (fun x h => href ▸ h) hv hd (K H locs ls hw hS hl)
theorem q_aald0 (X : Cx D ta pl bs nL p s m args meth c cc Ts own rt) (k i : Nat) {n : Nat} {f : Nat → Option Nat} (he : C k i = some (.inl (ta 0, n, .inr (.inr (.inr (.inr f)))))) (j : Nat) (hj : j < n) (hn : n < 2 ^ 31) {v : Value} (hv : va_rf (f j) = v) (hd : decode cc pc = .ok (.aaload, 1)) (K : WP D bs nL p l e R s m args below meth c Q al C cells slots (pc + 1) lv (v :: st)) : WP D bs nL p l e R s m args below meth c Q al C cells slots pc lv (.int (nI j) :: .ref (al k i) :: st) := fun H locs ls hw hS hl => va_aldq (D := D) (C := RX2) (ws := [(al k i, .inl (ta 0, n, .inr (.inr (.inr (.inr f)))))]) X.1.1 X.1.2.1 X.2.2.2.1 (va_P1 (hw.1 k i _ he).2) 0 0 rfl rfl (vp_in_nI hj hn) hd (by rw [nI_clamp (Nat.lt_trans hj hn), hv]; exact K H locs ls hw hS hl)
theorem q_place (X : Cx D ta pl bs nL p s m args meth c cc Ts own rt) {index : Nat} (j : Nat) (hj : j < 4) (nm : String) (hnm : plN j = nm) (hlink : Cond.fieldLink own index RX3 nm "LLoopSorter$Place;" ∈ Ts) (hd : decode cc pc = .ok (.getstatic index, 3)) (K : WP D bs nL p l e R s m args below meth c Q al C cells slots (pc + 3) lv (.ref (pl j) :: st)) : WP D bs nL p l e R s m args below meth c Q al C cells slots pc lv st := fun H locs ls hw hS hl => va_gets X.1.1 X.1.2.1 (X.2.2.2.2.2.1 j hj) hS.1 X.1.2.2.2.1 (by rw [hnm]; exact X.1.2.2.2.2 _ hlink) (fun _ h => h) hd (K H locs ls hw hS hl)
theorem q_lv {lv' : List (Nat × Value)} (ks : List Nat) (h : lv_pick lv ks = lv') (K : WP D bs nL p l e R s m args below meth c Q al C cells slots pc lv' st) : WP D bs nL p l e R s m args below meth c Q al C cells slots pc lv st := fun H locs ls hw hS hl => K H locs ls hw hS (lv_sub hl ks h)
theorem q_zret (X : Cx D ta pl bs nL p s m args meth c cc Ts own rt) {v : Int32} {rv : Option Value} (hr : rt = some .boolean) (hd : decode cc pc = .ok (.ireturn, 1)) (hn : narrow .boolean (.int v) = .int v) (hp : some (.int v) = rv) : WP D bs nL p l e R s m args below meth c (QP below args s rv) al C 0 0 pc lv [.int v] :=
  fun H locs ls hw hS hl => W.zret X.1.1 X.1.2.1 (X.2.1.trans hr) hn (fun t ht _ => ⟨congrArg _ hp, ht.trans hS.2.1⟩) (fun q hq => by rw [hS.2.2] at hq; cases hq) hd X.2.2.1
theorem q_aret (X : Cx D ta pl bs nL p s m args meth c cc Ts own rt) {v : Value} {ty : FieldType} {rv : Option Value} (hr : rt = some ty) (hrt : ∃ n, ty = .object n) (hv : v = .null ∨ ∃ a, v = .ref a) (hd : decode cc pc = .ok (.areturn, 1)) (hp : some v = rv) : WP D bs nL p l e R s m args below meth c (QP below args s rv) al C 0 0 pc lv [v] :=
  fun H locs ls hw hS hl => W.aret X.1.1 X.1.2.1 (X.2.1.trans hr) (Or.inl hrt) hv (fun t ht _ => ⟨congrArg _ hp, ht.trans hS.2.1⟩) (fun q hq => by rw [hS.2.2] at hq; cases hq) hd X.2.2.1
theorem q_callV (X : Cx D ta pl bs nL p s m args meth c cc Ts own rt) {Cn : String} {T : u_T} {N ci index : Nat} {y : MethodName} {bytes : ByteArray} {maxL n : Nat} {rt' : Option FieldType} {ws ws' : List Cond} {rm : Room} {v : Value} (k i : Nat) {fs : List Value} (As : List Value) (he : C k i = some (.inr (ci, fs))) (hc : vwCl[ci]? = some (Cn, T, N)) (hM : GP l D ta pl bs y ws rm (.ref (al k i) :: As) al C (some v)) (hG : GoodIn Ts (wsV own index Cn y ws)) (hw0 : ws = Cond.code y bytes maxL rt' :: ws') (hrm : rm.cells = 0 ∧ rm.slots = 0) (hy : y.cls = Cn ∧ y.cls ≠ "java/lang/invoke/MethodHandle" ∧ y.cls ≠ "java/lang/invoke/VarHandle" ∧ (parseMethodDescriptor y.desc).map (fun d => d.parameters.length) = some n) (hR : rm.frames + 1 ≤ R.frames ∧ 8 + (maxL + 11) + rm.locals ≤ R.locals) (hn : As.length = n) (hro : (st.map fun v => v.category).sum ≤ 8) (hd : decode cc pc = .ok (.invokevirtual index, 3)) (hf : cells ≤ R.cells ∧ slots ≤ R.slots) (stk : List Value) (hstk : stk = As.reverse ++ .ref (al k i) :: st)
    (K : WP D bs nL p l e R s m args below meth c Q al C cells slots (pc + 3) lv (v :: st)) : WP D bs nL p l e R s m args below meth c Q al C cells slots pc lv stk := by
  intro H locs ls hw hS hl
  subst hstk
  have hr : va_Run p l e R s m args below meth c H locs cells slots 0 0 (F0 m pc ls (As.reverse ++ .ref (al k i) :: st)) st _ (fun _ => False) := va_runV (As := As) (rest := st) X.1 hM (cwV n X.1.2.2.2.2 hG hw0 hrm.1 hrm.2 hy hR) ⟨g_blind, va_recv (q0 := 0) X.2.2.2.1 (va_P1 (hw.1 k i _ he).2) hc rfl, fun U hU hW => ⟨rfl, by rw [hU]; exact hw, X.2.2.2.moved hW.alike (by rw [hU]; exact hS.1)⟩⟩ rfl hn hl.1 rfl (lv_room hro) hd hf
  intro T hT XT
  obtain ⟨v', st₀, t, T', L, h0, X', hL, e1, e2, ⟨hv, hz⟩, stp⟩ := hr T hT XT
  cases hv
  have hL0 : L = [] := by
    cases L with
    | nil => rfl
    | cons q _ => exact absurd (hL q List.mem_cons_self) id
  subst hL0
  rw [List.append_nil] at X'
  obtain ⟨t2, a1, b1⟩ := K H locs ls hw hS hl T' (by rw [e1, hz, h0]) X'
  exact ⟨t2, stp t2 a1, b1⟩
end GQ
set_option maxRecDepth 100000 in
set_option maxHeartbeats 4000000 in
theorem q_isTray {l : Launch} {D : va_G} {ta : Nat → ClassId} {pl : Nat → Nat} {bs : Nat} {al : Ad} {Z : Wo} {u : St} (x : Int32)  : GP l D ta pl bs yX4_isTray wsX4_isTray (rmF 0 0) [.ref (al 0 0), .int x] al (mC Z ta pl al u) (some (.int (nI (bN (inR x (u 0 0)))))) := by
  refine GP.of (by decide) rfl (Nat.le_of_ble_eq_true rfl) ?_
  intro p e s m args below meth c X
  have hiX4 : ∀ w ∈ u_ws RX4 TX4 13, w ∈ wsX4_isTray := by decide +kernel
  refine q_lv (lv' := [(0, .ref (al 0 0)), (1, .int x)]) [0, 1] rfl ?_
  refine q_iload_n X 1 dX4_isTray_0 rfl rfl ?_
  refine q_if_lt X 16 dX4_isTray_1 (by decide) (Iff.rfl) (fun c_1 => ?_) (fun c_1 => ?_)
  · refine q_iconst X (v := nI 0) dX4_isTray_16 (by decide) ?_
    exact q_zret X rfl dX4_isTray_17 (by decide) (congrArg (fun n => some (Value.int (nI n))) (bN_0 (by first | omega | simp [inR, c_1])))
  · refine q_iload_n X 1 dX4_isTray_4 rfl rfl ?_
    refine q_aload_n X 0 dX4_isTray_5 rfl rfl ?_
    refine q_get X 0 0 cx0 rfl 0 (by decide) hiX4 (by decide +kernel) rfl rfl dX4_isTray_6 ?_
    refine q_icmp_ge X 16 dX4_isTray_9 (by decide) (Iff.rfl) (fun c_2 => ?_) (fun c_2 => ?_)
    · refine q_iconst X (v := nI 0) dX4_isTray_16 (by decide) ?_
      exact q_zret X rfl dX4_isTray_17 (by decide) (congrArg (fun n => some (Value.int (nI n))) (bN_0 (by first | omega | simp [inR, c_1, c_2])))
    · refine q_iconst X (v := nI 1) dX4_isTray_12 (by decide) ?_
      refine q_goto X 17 dX4_isTray_13 (by decide) ?_
      exact q_zret X rfl dX4_isTray_17 (by decide) (congrArg (fun n => some (Value.int (nI n))) (bN_1 (by first | omega | simp [inR, c_1, c_2])))
set_option maxRecDepth 100000 in
set_option maxHeartbeats 4000000 in
theorem q_itemNumbered {l : Launch} {D : va_G} {ta : Nat → ClassId} {pl : Nat → Nat} {bs : Nat} {al : Ad} {Z : Wo} {u : St} (i : Nat) (h1 : 1 ≤ i) (h2 : i ≤ u 2 0) (h3 : u 2 0 ≤ 400) (h4 : u 9 (i - 1) = i) : GP l D ta pl bs yX4_itemNumbered wsX4_itemNumbered (rmF 0 0) [.ref (al 0 0), .int (nI i)] al (mC Z ta pl al u) (some (.ref (al 9 i))) := by
  refine GP.of (by decide) rfl (Nat.le_of_ble_eq_true rfl) ?_
  intro p e s m args below meth c X
  have hiX4 : ∀ w ∈ u_ws RX4 TX4 13, w ∈ wsX4_itemNumbered := by decide +kernel
  refine q_lv (lv' := [(0, .ref (al 0 0)), (1, .int (nI i))]) [0, 1] rfl ?_
  refine q_iload_n X 1 dX4_itemNumbered_0 rfl rfl ?_
  refine q_iconst X (v := nI 1) dX4_itemNumbered_1 (by decide) ?_
  refine q_icmp_lt X 13 dX4_itemNumbered_2 (by decide) (nI_ltI (by omega) (by omega)) (fun c_1 => ?_) (fun c_1 => ?_)
  · exact absurd c_1 (by omega)
  · refine q_iload_n X 1 dX4_itemNumbered_5 rfl rfl ?_
    refine q_aload_n X 0 dX4_itemNumbered_6 rfl rfl ?_
    refine q_get X 0 0 cx0 rfl 7 (by decide) hiX4 (by decide +kernel) rfl rfl dX4_itemNumbered_7 ?_
    refine q_icmp_le X 17 dX4_itemNumbered_10 (by decide) (nI_leI (by omega) (by omega)) (fun c_2 => ?_) (fun c_2 => ?_)
    · refine q_aload_n X 0 dX4_itemNumbered_17 rfl rfl ?_
      refine q_get X 0 0 cx0 rfl 5 (by decide) hiX4 (by decide +kernel) rfl rfl dX4_itemNumbered_18 ?_
      refine q_iload_n X 1 dX4_itemNumbered_21 rfl rfl ?_
      refine q_iconst X (v := nI 1) dX4_itemNumbered_22 (by decide) ?_
      refine q_isub X dX4_itemNumbered_23 (pk_sub (by omega)) ?_
      have b_3 : u 9 (i - 1) ≠ 0 := by omega
      refine q_aald0 X 7 0 cx7 (i - 1) (by omega) (by omega) (rI_vp b_3) dX4_itemNumbered_24 ?_
      exact q_aret X rfl ⟨_, rfl⟩ (Or.inr ⟨_, rfl⟩) dX4_itemNumbered_25 (by rw [h4])
    · exact absurd h2 c_2
