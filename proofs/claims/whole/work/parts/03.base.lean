/-! MY OWN ROWS: worlds by names. A world C says of a name (k, i) which cell it is; al says where it lies; everything that the law makes lies from bs on. -/
abbrev Wo : Type := Nat → Nat → Option va_E
abbrev Ad : Type := Nat → Nat → Nat
def wup (C : Wo) (k i : Nat) (e : va_E) : Wo := fun k' i' => if k' = k ∧ i' = i then some e else C k' i'
def aup (al : Ad) (k i q : Nat) : Ad := fun k' i' => if k' = k ∧ i' = i then q else al k' i'
theorem wup_self {C : Wo} {k i : Nat} {e : va_E} : wup C k i e k i = some e := by simp [wup]
theorem wup_ne {C : Wo} {k i k' i' : Nat} {e : va_E} (h : ¬ (k' = k ∧ i' = i)) : wup C k i e k' i' = C k' i' := by simp [wup, h]
theorem aup_self {al : Ad} {k i q : Nat} : aup al k i q k i = q := by simp [aup]
theorem aup_ne {al : Ad} {k i k' i' q : Nat} (h : ¬ (k' = k ∧ i' = i)) : aup al k i q k' i' = al k' i' := by simp [aup, h]
def fr (bs : Nat) : Nat → Prop := fun q => bs ≤ q
def wd (D : va_G) (bs : Nat) (al : Ad) (C : Wo) (H : Heap) : Prop :=
  (∀ (k i : Nat) (e : va_E), C k i = some e → bs ≤ al k i ∧ va_at D vwCl (al k i, e) H) ∧ ∀ (k i k' i' : Nat) (e e' : va_E), C k i = some e → C k' i' = some e' → al k i = al k' i' → k = k' ∧ i = i'
theorem wd.set {D : va_G} {bs : Nat} {al : Ad} {C : Wo} {H H1 : Heap} (h : wd D bs al C H) {k i : Nat} {e0 e : va_E} (h0 : C k i = some e0) (he : va_at D vwCl (al k i, e) H1) (oq : ∀ q : Nat, q ≠ al k i → H1[q]? = H[q]?) : wd D bs al (wup C k i e) H1 := by
  have key : ∀ k' i' e', wup C k i e k' i' = some e' → (k' = k ∧ i' = i ∧ e' = e) ∨ (¬ (k' = k ∧ i' = i) ∧ C k' i' = some e') := by
    intro k' i' e' hh
    by_cases hq : k' = k ∧ i' = i
    · obtain ⟨rfl, rfl⟩ := hq
      rw [wup_self] at hh
      exact Or.inl ⟨rfl, rfl, (Option.some.inj hh).symm⟩
    · rw [wup_ne hq] at hh
      exact Or.inr ⟨hq, hh⟩
  have dom : ∀ k' i' e', wup C k i e k' i' = some e' → ∃ e2, C k' i' = some e2 := by
    intro k' i' e' hh
    rcases key k' i' e' hh with ⟨rfl, rfl, -⟩ | ⟨-, hh⟩
    · exact ⟨_, h0⟩
    · exact ⟨_, hh⟩
  refine ⟨fun k' i' e' hh => ?_, fun k1 i1 k2 i2 e1 e2 h1 h2 hal => ?_⟩
  · rcases key k' i' e' hh with ⟨rfl, rfl, rfl⟩ | ⟨hq, hh⟩
    · exact ⟨(h.1 _ _ _ h0).1, he⟩
    · refine ⟨(h.1 _ _ _ hh).1, (h.1 _ _ _ hh).2.kept (oq _ (fun z => hq ?_))⟩
      exact h.2 _ _ _ _ _ _ hh h0 z
  · obtain ⟨_, h1⟩ := dom _ _ _ h1
    obtain ⟨_, h2⟩ := dom _ _ _ h2
    exact h.2 _ _ _ _ _ _ h1 h2 hal
theorem wd.lt {D : va_G} {bs : Nat} {al : Ad} {C : Wo} {H : Heap} (h : wd D bs al C H) {k i : Nat} {e : va_E} (h0 : C k i = some e) : al k i < H.size := (h.1 k i e h0).2.lt
theorem wd.kept {D : va_G} {bs : Nat} {al : Ad} {C : Wo} {H H1 : Heap} (h : wd D bs al C H) (o1 : ∀ q : Nat, q < H.size → H1[q]? = H[q]?) : wd D bs al C H1 :=
  ⟨fun k i e hh => ⟨(h.1 k i e hh).1, (h.1 k i e hh).2.kept (o1 _ (h.lt hh))⟩, h.2⟩
theorem wd.new {D : va_G} {bs : Nat} {al : Ad} {C : Wo} {H H1 : Heap} (h : wd D bs al C H) (hb : bs ≤ H.size) {k i : Nat} {e : va_E} (hn : C k i = none) (he : va_at D vwCl (H.size, e) H1) (o1 : ∀ q : Nat, q < H.size → H1[q]? = H[q]?) : wd D bs (aup al k i H.size) (wup C k i e) H1 := by
  have key : ∀ k' i' e', wup C k i e k' i' = some e' → (k' = k ∧ i' = i ∧ e' = e ∧ aup al k i H.size k' i' = H.size) ∨ (¬ (k' = k ∧ i' = i) ∧ C k' i' = some e' ∧ aup al k i H.size k' i' = al k' i' ∧ al k' i' < H.size) := by
    intro k' i' e' hh
    by_cases hq : k' = k ∧ i' = i
    · obtain ⟨rfl, rfl⟩ := hq
      rw [wup_self] at hh
      exact Or.inl ⟨rfl, rfl, (Option.some.inj hh).symm, aup_self⟩
    · rw [wup_ne hq] at hh
      exact Or.inr ⟨hq, hh, aup_ne hq, h.lt hh⟩
  refine ⟨fun k' i' e' hh => ?_, fun k1 i1 k2 i2 e1 e2 h1 h2 hal => ?_⟩
  · rcases key k' i' e' hh with ⟨rfl, rfl, rfl, q⟩ | ⟨hq, hh, q, q2⟩
    · rw [q]; exact ⟨hb, he⟩
    · rw [q]; exact ⟨(h.1 _ _ _ hh).1, (h.1 _ _ _ hh).2.kept (o1 _ q2)⟩
  · rcases key _ _ _ h1 with ⟨rfl, rfl, rfl, q⟩ | ⟨hq, h1, q, q2⟩ <;> rcases key _ _ _ h2 with ⟨rfl, rfl, rfl, r⟩ | ⟨hr, h2, r, r2⟩
    · exact ⟨rfl, rfl⟩
    · rw [q, r] at hal; omega
    · rw [q, r] at hal; omega
    · rw [q, r] at hal
      exact h.2 _ _ _ _ _ _ h1 h2 hal
theorem va_P1 {D : va_G} {cl : List vw_C} {q : Nat × va_E} {H : Heap} (h : va_at D cl q H) : va_P D cl [q] H := by
  intro k r hk
  have := List.mem_of_getElem? hk
  rw [List.mem_singleton] at this
  rw [this]
  exact h
/-- the array classes: 0 Item[], 1 Induct[], 2 Chute[], 3 int[], 4 long[], 5 boolean[] -/
abbrev tyT (ta : Nat → ClassId) : List (ClassId × FieldType) := [(ta 0, .object RX2), (ta 1, .object RX1), (ta 2, .object RX0), (ta 3, .int), (ta 4, .long), (ta 5, .boolean)]
def plN (j : Nat) : String := if j = 0 then "WAITING" else if j = 1 then "CARRIED" else if j = 2 then "MISSED" else "OUT"
/-- what stays as it is: the classes, the array classes, the enum's constants -/
def En (D : va_G) (ta : Nat → ClassId) (pl : Nat → Nat) (bs : Nat) (U : State) : Prop := va_K D vwCl (tyT ta) U ∧ bs ≤ U.heap.size ∧ (∀ j, j < 4 → va_Z RX3 (plN j) "LLoopSorter$Place;" (.ref (pl j)) (fr bs) U U.heap) ∧ (∀ i j, i < 4 → j < 4 → pl i = pl j → i = j) ∧ va_AO RX2 U ∧ va_AO RX1 U ∧ va_AO RX0 U
theorem En.moved {D : va_G} {ta : Nat → ClassId} {pl : Nat → Nat} {bs : Nat} {u U : State} {locs : List Loc} (h : En D ta pl bs u) (hvm : u.vm.Alike U.vm) (hS : va_S (fr bs) u.heap U.heap locs) : En D ta pl bs U :=
  ⟨va_K.moved hvm h.1, Nat.le_trans h.2.1 hS.1, fun j hj => (va_Z.moved hvm (h.2.2.1 j hj)).kept hS.2.1, h.2.2.2.1, va_AO.moved hvm h.2.2.2.2.1, va_AO.moved hvm h.2.2.2.2.2.1, va_AO.moved hvm h.2.2.2.2.2.2⟩
/-- what holds all through a method's walk -/
def Cx (D : va_G) (ta : Nat → ClassId) (pl : Nat → Nat) (bs nL : Nat) (p : Program) (s : State) (m : MethodId) (args : Array Value) (meth : Method) (c : Code) (cc : ByteArray) (Ts : List Cond) (own : String) (rt : Option FieldType) : Prop :=
  CallFix p m c cc nL s args Ts own ∧ meth.sig.returnType = rt ∧ meth.locks = false ∧ En D ta pl bs s
/-- the machine at pc, with these locals, this stack, this world -/
def WW (D : va_G) (bs nL : Nat) (p : Program) (l : Launch) (e : Env) (R : Room) (s : State) (m : MethodId) (args : Array Value) (below : List Frame) (meth : Method) (c : Code) (Q : State → Prop) (al : Ad) (C : Wo) (cells slots pc : Nat) (lv : List (Nat × Value)) (st : List Value) : Prop :=
  ∀ (H : Heap) (locs : List Loc) (ls : Array Slot), wd D bs al C H → va_S (fr bs) s.heap H locs → lv_has ls nL lv → W p l e R s m args below meth c H locs cells slots Q (F0 m pc ls st)
/-- a contract: the arguments, the world before; 'post' of the answer, the places and the world behind -/
def GM (l : Launch) (D : va_G) (ta : Nat → ClassId) (pl : Nat → Nat) (bs : Nat) (y : MethodName) (ws : List Cond) (rm : Room) (mc ms : Nat) (av : List Value) (al : Ad) (C : Wo) (post : Option Value → Ad → Wo → Prop) : Prop :=
  Met l y ws rm (va_Pc av (fun U => wd D bs al C U.heap ∧ En D ta pl bs U)) (fun _ s0 oc t => (∃ (rv : Option Value) (al' : Ad) (C' : Wo), oc = .returned rv ∧ post rv al' C' ∧ wd D bs al' C' t.heap) ∧ va_F (fr bs) s0 t) mc ms (fr bs)
/-- the one answer, the same places, the one world behind -/
abbrev GD (l : Launch) (D : va_G) (ta : Nat → ClassId) (pl : Nat → Nat) (bs : Nat) (y : MethodName) (ws : List Cond) (rm : Room) (av : List Value) (al : Ad) (C : Wo) (rv : Option Value) (C1 : Wo) : Prop :=
  GM l D ta pl bs y ws rm 0 0 av al C (fun r al' C' => r = rv ∧ al' = al ∧ C' = C1)
/-- room for f frames, lo words of locals -/
abbrev rmF (f lo : Nat) : Room := { frames := f, cells := 0, slots := 0, locals := lo }
/-- the end of a method: what its answer must be -/
def QQ (D : va_G) (bs : Nat) (below : List Frame) (args : Array Value) (s : State) (mc ms : Nat) (post : Option Value → Ad → Wo → Prop) : State → Prop :=
  MQ below (fun _ s0 oc t => (∃ (rv : Option Value) (al' : Ad) (C' : Wo), oc = .returned rv ∧ post rv al' C' ∧ wd D bs al' C' t.heap) ∧ va_F (fr bs) s0 t) args s mc ms (fr bs)
theorem GM.of {l : Launch} {D : va_G} {ta : Nat → ClassId} {pl : Nat → Nat} {bs : Nat} {y : MethodName} {ws ws' : List Cond} {rm : Room} {mc ms : Nat} {av : List Value} {al : Ad} {C : Wo} {post : Option Value → Ad → Wo → Prop} {cc : ByteArray} {maxL : Nat} {rt : Option FieldType}
    (hy : plainName y.cls = true) (hw : ws = Cond.code y cc maxL rt :: ws') (hlen : (lg_sl av).length ≤ maxL)
    (body : ∀ (p : Program) (e : Env) (s : State) (m : MethodId) (args : Array Value) (below : List Frame) (meth : Method) (c : Code), Cx D ta pl bs maxL p s m args meth c cc ws y.cls rt → meth.name = y.name →
      WW D bs maxL p l e rm s m args below meth c (QQ D bs below args s mc ms post) al C 0 0 0 (lv_args 0 av) []) : GM l D ta pl bs y ws rm mc ms av al C post := by
  refine Met.ofW hy hw ?_
  intro p e s m args below meth c s₁ B hml hv
  obtain ⟨rfl, hwd, hE⟩ := hv
  have hK := body p e s m _ below meth c ⟨⟨B.exec, B.bytes, hml, findClass_of_methodNamed B.named, atoms_spec (ws := ws) B.pre⟩, B.returns, B.notSynchronized, hE⟩ (name_of_methodNamed B.named B.method).1
  rw [lg_entry_eq]
  exact hK s.heap [] _ hwd va_S.rf (lv_entry av hlen)
section GB
variable {p : Program} {l : Launch} {e : Env} {R : Room} {s : State} {m : MethodId} {args : Array Value} {below : List Frame} {meth : Method} {c : Code} {Q : State → Prop}
variable {D : va_G} {ta : Nat → ClassId} {pl : Nat → Nat} {bs nL : Nat} {cc : ByteArray} {Ts : List Cond} {own : String} {rt : Option FieldType}
variable {al : Ad} {C : Wo} {cells slots pc : Nat} {lv : List (Nat × Value)} {st : List Value}
theorem g_iload_n (X : Cx D ta pl bs nL p s m args meth c cc Ts own rt) {k : Fin 4} {i : Nat} {x : Int32} (j : Nat) (hd : decode cc pc = .ok (.iload_n k, 1)) (hi : (k : Nat) = i) (hv : lv[j]? = some (i, .int x)) (K : WW D bs nL p l e R s m args below meth c Q al C cells slots (pc + 1) lv (.int x :: st)) : WW D bs nL p l e R s m args below meth c Q al C cells slots pc lv st := fun H locs ls hw hS hl => lv_iload_n X.1.1 X.1.2.1 hd hi (lv_at hl j hv) (K H locs ls hw hS hl)
theorem g_aload_n (X : Cx D ta pl bs nL p s m args meth c cc Ts own rt) {k : Fin 4} {i : Nat} {x : Nat} (j : Nat) (hd : decode cc pc = .ok (.aload_n k, 1)) (hi : (k : Nat) = i) (hv : lv[j]? = some (i, .ref x)) (K : WW D bs nL p l e R s m args below meth c Q al C cells slots (pc + 1) lv (.ref x :: st)) : WW D bs nL p l e R s m args below meth c Q al C cells slots pc lv st := fun H locs ls hw hS hl => lv_aload_n X.1.1 X.1.2.1 hd hi (lv_at hl j hv) (K H locs ls hw hS hl)
theorem g_aload_nN (X : Cx D ta pl bs nL p s m args meth c cc Ts own rt) {k : Fin 4} {i : Nat} (j : Nat) (hd : decode cc pc = .ok (.aload_n k, 1)) (hi : (k : Nat) = i) (hv : lv[j]? = some (i, .null)) (K : WW D bs nL p l e R s m args below meth c Q al C cells slots (pc + 1) lv (.null :: st)) : WW D bs nL p l e R s m args below meth c Q al C cells slots pc lv st := fun H locs ls hw hS hl => lv_aload_nN X.1.1 X.1.2.1 hd hi (lv_at hl j hv) (K H locs ls hw hS hl)
theorem g_iload (X : Cx D ta pl bs nL p s m args meth c cc Ts own rt) {i : Nat} {x : Int32} (j : Nat) (hd : decode cc pc = .ok (.iload i, 2)) (hv : lv[j]? = some (i, .int x)) (K : WW D bs nL p l e R s m args below meth c Q al C cells slots (pc + 2) lv (.int x :: st)) : WW D bs nL p l e R s m args below meth c Q al C cells slots pc lv st := fun H locs ls hw hS hl => lv_iload X.1.1 X.1.2.1 hd (lv_at hl j hv) (K H locs ls hw hS hl)
theorem g_aload (X : Cx D ta pl bs nL p s m args meth c cc Ts own rt) {i : Nat} {x : Nat} (j : Nat) (hd : decode cc pc = .ok (.aload i, 2)) (hv : lv[j]? = some (i, .ref x)) (K : WW D bs nL p l e R s m args below meth c Q al C cells slots (pc + 2) lv (.ref x :: st)) : WW D bs nL p l e R s m args below meth c Q al C cells slots pc lv st := fun H locs ls hw hS hl => lv_aload X.1.1 X.1.2.1 hd (lv_at hl j hv) (K H locs ls hw hS hl)
theorem g_aloadN (X : Cx D ta pl bs nL p s m args meth c cc Ts own rt) {i : Nat}  (j : Nat) (hd : decode cc pc = .ok (.aload i, 2)) (hv : lv[j]? = some (i, .null)) (K : WW D bs nL p l e R s m args below meth c Q al C cells slots (pc + 2) lv (.null :: st)) : WW D bs nL p l e R s m args below meth c Q al C cells slots pc lv st := fun H locs ls hw hS hl => lv_aloadN X.1.1 X.1.2.1 hd (lv_at hl j hv) (K H locs ls hw hS hl)
theorem g_istore_n (X : Cx D ta pl bs nL p s m args meth c cc Ts own rt) {k : Fin 4} {i : Nat} {x : Int32} (lv' : List (Nat × Value)) (hd : decode cc pc = .ok (.istore_n k, 1)) (hi : (k : Nat) = i) (hn : i < nL) (hl' : (i, Value.int x) :: lv.filter (fun q => !(q.1 == i) && !(q.1 + 1 == i && q.2.category == 2)) = lv') (K : WW D bs nL p l e R s m args below meth c Q al C cells slots (pc + 1) lv' st) : WW D bs nL p l e R s m args below meth c Q al C cells slots pc lv (.int x :: st) := fun H locs ls hw hS hl => lv_istore_n X.1.1 X.1.2.1 hd hi hl hn hl' (fun ls hl => K H locs ls hw hS hl)
theorem g_astore_n (X : Cx D ta pl bs nL p s m args meth c cc Ts own rt) {k : Fin 4} {i : Nat} {x : Nat} (lv' : List (Nat × Value)) (hd : decode cc pc = .ok (.astore_n k, 1)) (hi : (k : Nat) = i) (hn : i < nL) (hl' : (i, Value.ref x) :: lv.filter (fun q => !(q.1 == i) && !(q.1 + 1 == i && q.2.category == 2)) = lv') (K : WW D bs nL p l e R s m args below meth c Q al C cells slots (pc + 1) lv' st) : WW D bs nL p l e R s m args below meth c Q al C cells slots pc lv (.ref x :: st) := fun H locs ls hw hS hl => lv_astore_n X.1.1 X.1.2.1 hd hi hl hn hl' (fun ls hl => K H locs ls hw hS hl)
theorem g_astore_nN (X : Cx D ta pl bs nL p s m args meth c cc Ts own rt) {k : Fin 4} {i : Nat}  (lv' : List (Nat × Value)) (hd : decode cc pc = .ok (.astore_n k, 1)) (hi : (k : Nat) = i) (hn : i < nL) (hl' : (i, Value.null) :: lv.filter (fun q => !(q.1 == i) && !(q.1 + 1 == i && q.2.category == 2)) = lv') (K : WW D bs nL p l e R s m args below meth c Q al C cells slots (pc + 1) lv' st) : WW D bs nL p l e R s m args below meth c Q al C cells slots pc lv (.null :: st) := fun H locs ls hw hS hl => lv_astore_nN X.1.1 X.1.2.1 hd hi hl hn hl' (fun ls hl => K H locs ls hw hS hl)
theorem g_istore (X : Cx D ta pl bs nL p s m args meth c cc Ts own rt) {i : Nat} {x : Int32} (lv' : List (Nat × Value)) (hd : decode cc pc = .ok (.istore i, 2)) (hn : i < nL) (hl' : (i, Value.int x) :: lv.filter (fun q => !(q.1 == i) && !(q.1 + 1 == i && q.2.category == 2)) = lv') (K : WW D bs nL p l e R s m args below meth c Q al C cells slots (pc + 2) lv' st) : WW D bs nL p l e R s m args below meth c Q al C cells slots pc lv (.int x :: st) := fun H locs ls hw hS hl => lv_istore X.1.1 X.1.2.1 hd hl hn hl' (fun ls hl => K H locs ls hw hS hl)
theorem g_astore (X : Cx D ta pl bs nL p s m args meth c cc Ts own rt) {i : Nat} {x : Nat} (lv' : List (Nat × Value)) (hd : decode cc pc = .ok (.astore i, 2)) (hn : i < nL) (hl' : (i, Value.ref x) :: lv.filter (fun q => !(q.1 == i) && !(q.1 + 1 == i && q.2.category == 2)) = lv') (K : WW D bs nL p l e R s m args below meth c Q al C cells slots (pc + 2) lv' st) : WW D bs nL p l e R s m args below meth c Q al C cells slots pc lv (.ref x :: st) := fun H locs ls hw hS hl => lv_astore X.1.1 X.1.2.1 hd hl hn hl' (fun ls hl => K H locs ls hw hS hl)
theorem g_astoreN (X : Cx D ta pl bs nL p s m args meth c cc Ts own rt) {i : Nat}  (lv' : List (Nat × Value)) (hd : decode cc pc = .ok (.astore i, 2)) (hn : i < nL) (hl' : (i, Value.null) :: lv.filter (fun q => !(q.1 == i) && !(q.1 + 1 == i && q.2.category == 2)) = lv') (K : WW D bs nL p l e R s m args below meth c Q al C cells slots (pc + 2) lv' st) : WW D bs nL p l e R s m args below meth c Q al C cells slots pc lv (.null :: st) := fun H locs ls hw hS hl => lv_astoreN X.1.1 X.1.2.1 hd hl hn hl' (fun ls hl => K H locs ls hw hS hl)
theorem g_iinc (X : Cx D ta pl bs nL p s m args meth c cc Ts own rt) {i : Nat} {n : Int} {x v : Int32} (j : Nat) (lv' : List (Nat × Value)) (hd : decode cc pc = .ok (.iinc i n, 3)) (hj : lv[j]? = some (i, .int x)) (hv : x + Int32.ofInt n = v) (hn : i < nL) (hl' : (i, Value.int v) :: lv.filter (fun q => !(q.1 == i) && !(q.1 + 1 == i && q.2.category == 2)) = lv') (K : WW D bs nL p l e R s m args below meth c Q al C cells slots (pc + 3) lv' st) : WW D bs nL p l e R s m args below meth c Q al C cells slots pc lv st := fun H locs ls hw hS hl => lv_iinc X.1.1 X.1.2.1 hd hl hj hv hn hl' (fun ls hl => K H locs ls hw hS hl)
theorem g_iconst (X : Cx D ta pl bs nL p s m args meth c cc Ts own rt) {n : Int} {v : Int32} (hd : decode cc pc = .ok (.iconst n, 1)) (hv : Int32.ofInt n = v) (K : WW D bs nL p l e R s m args below meth c Q al C cells slots (pc + 1) lv (.int v :: st)) : WW D bs nL p l e R s m args below meth c Q al C cells slots pc lv st := fun H locs ls hw hS hl => lv_iconst X.1.1 X.1.2.1 hd hv (K H locs ls hw hS hl)
theorem g_bipush (X : Cx D ta pl bs nL p s m args meth c cc Ts own rt) {n : Int} {v : Int32} (hd : decode cc pc = .ok (.bipush n, 2)) (hv : (Int8.ofInt n).toInt32 = v) (K : WW D bs nL p l e R s m args below meth c Q al C cells slots (pc + 2) lv (.int v :: st)) : WW D bs nL p l e R s m args below meth c Q al C cells slots pc lv st := fun H locs ls hw hS hl => lv_bipush X.1.1 X.1.2.1 hd hv (K H locs ls hw hS hl)
theorem g_sipush (X : Cx D ta pl bs nL p s m args meth c cc Ts own rt) {n : Int} {v : Int32} (hd : decode cc pc = .ok (.sipush n, 3)) (hv : (Int16.ofInt n).toInt32 = v) (K : WW D bs nL p l e R s m args below meth c Q al C cells slots (pc + 3) lv (.int v :: st)) : WW D bs nL p l e R s m args below meth c Q al C cells slots pc lv st := fun H locs ls hw hS hl => lv_sipush X.1.1 X.1.2.1 hd hv (K H locs ls hw hS hl)
theorem g_lconst (X : Cx D ta pl bs nL p s m args meth c cc Ts own rt) {n : Fin 2} {v : Int64} (hd : decode cc pc = .ok (.lconst n, 1)) (hv : Int64.ofNat (n : Nat) = v) (K : WW D bs nL p l e R s m args below meth c Q al C cells slots (pc + 1) lv (.long v :: st)) : WW D bs nL p l e R s m args below meth c Q al C cells slots pc lv st := fun H locs ls hw hS hl => lv_lconst X.1.1 X.1.2.1 hd hv (K H locs ls hw hS hl)
theorem g_ldc2 (X : Cx D ta pl bs nL p s m args meth c cc Ts own rt) {index : Nat} {v : Int64} (hd : decode cc pc = .ok (.ldc2_w index, 3)) (hw0 : Jvm.Cond.constantLong own index v ∈ Ts) (K : WW D bs nL p l e R s m args below meth c Q al C cells slots (pc + 3) lv (.long v :: st)) : WW D bs nL p l e R s m args below meth c Q al C cells slots pc lv st := fun H locs ls hw hS hl => lv_ldc2 X.1.1 X.1.2.1 X.1.2.2.2.1 (X.1.2.2.2.2 _ hw0) hd (K H locs ls hw hS hl)
theorem g_null (X : Cx D ta pl bs nL p s m args meth c cc Ts own rt) (hd : decode cc pc = .ok (.aconst_null, 1)) (K : WW D bs nL p l e R s m args below meth c Q al C cells slots (pc + 1) lv (.null :: st)) : WW D bs nL p l e R s m args below meth c Q al C cells slots pc lv st := fun H locs ls hw hS hl => lv_null X.1.1 X.1.2.1 hd (K H locs ls hw hS hl)
theorem g_iadd (X : Cx D ta pl bs nL p s m args meth c cc Ts own rt) {x y v : Int32} (hd : decode cc pc = .ok (.iadd, 1)) (hv : x + y = v) (K : WW D bs nL p l e R s m args below meth c Q al C cells slots (pc + 1) lv (.int v :: st)) : WW D bs nL p l e R s m args below meth c Q al C cells slots pc lv (.int y :: .int x :: st) := fun H locs ls hw hS hl => lv_iadd X.1.1 X.1.2.1 hd (by rw [hv]; exact K H locs ls hw hS hl)
theorem g_isub (X : Cx D ta pl bs nL p s m args meth c cc Ts own rt) {x y v : Int32} (hd : decode cc pc = .ok (.isub, 1)) (hv : x - y = v) (K : WW D bs nL p l e R s m args below meth c Q al C cells slots (pc + 1) lv (.int v :: st)) : WW D bs nL p l e R s m args below meth c Q al C cells slots pc lv (.int y :: .int x :: st) := fun H locs ls hw hS hl => lv_isub X.1.1 X.1.2.1 hd (by rw [hv]; exact K H locs ls hw hS hl)
theorem g_imul (X : Cx D ta pl bs nL p s m args meth c cc Ts own rt) {x y v : Int32} (hd : decode cc pc = .ok (.imul, 1)) (hv : x * y = v) (K : WW D bs nL p l e R s m args below meth c Q al C cells slots (pc + 1) lv (.int v :: st)) : WW D bs nL p l e R s m args below meth c Q al C cells slots pc lv (.int y :: .int x :: st) := fun H locs ls hw hS hl => lv_imul X.1.1 X.1.2.1 hd (by rw [hv]; exact K H locs ls hw hS hl)
theorem g_ladd (X : Cx D ta pl bs nL p s m args meth c cc Ts own rt) {x y v : Int64} (hd : decode cc pc = .ok (.ladd, 1)) (hv : x + y = v) (K : WW D bs nL p l e R s m args below meth c Q al C cells slots (pc + 1) lv (.long v :: st)) : WW D bs nL p l e R s m args below meth c Q al C cells slots pc lv (.long y :: .long x :: st) := fun H locs ls hw hS hl => lv_ladd X.1.1 X.1.2.1 hd (by rw [hv]; exact K H locs ls hw hS hl)
theorem g_iand (X : Cx D ta pl bs nL p s m args meth c cc Ts own rt) {x y v : Int32} (hd : decode cc pc = .ok (.iand, 1)) (hv : x &&& y = v) (K : WW D bs nL p l e R s m args below meth c Q al C cells slots (pc + 1) lv (.int v :: st)) : WW D bs nL p l e R s m args below meth c Q al C cells slots pc lv (.int y :: .int x :: st) := fun H locs ls hw hS hl => lv_iand X.1.1 X.1.2.1 hd (by rw [hv]; exact K H locs ls hw hS hl)
theorem g_idiv (X : Cx D ta pl bs nL p s m args meth c cc Ts own rt) {x y v : Int32} (hd : decode cc pc = .ok (.idiv, 1)) (hne : ¬ y = 0) (hv : x / y = v) (K : WW D bs nL p l e R s m args below meth c Q al C cells slots (pc + 1) lv (.int v :: st)) : WW D bs nL p l e R s m args below meth c Q al C cells slots pc lv (.int y :: .int x :: st) := fun H locs ls hw hS hl => lv_idiv X.1.1 X.1.2.1 hd hne (by rw [hv]; exact K H locs ls hw hS hl)
theorem g_i2l (X : Cx D ta pl bs nL p s m args meth c cc Ts own rt) {x : Int32} {v : Int64} (hd : decode cc pc = .ok (.i2l, 1)) (hv : x.toInt64 = v) (K : WW D bs nL p l e R s m args below meth c Q al C cells slots (pc + 1) lv (.long v :: st)) : WW D bs nL p l e R s m args below meth c Q al C cells slots pc lv (.int x :: st) := fun H locs ls hw hS hl => lv_i2l X.1.1 X.1.2.1 hd hv (K H locs ls hw hS hl)
theorem g_lcmp (X : Cx D ta pl bs nL p s m args meth c cc Ts own rt) {x y : Int64} (hd : decode cc pc = .ok (.lcmp, 1)) (K : WW D bs nL p l e R s m args below meth c Q al C cells slots (pc + 1) lv (.int (lg_cmp x y) :: st)) : WW D bs nL p l e R s m args below meth c Q al C cells slots pc lv (.long y :: .long x :: st) := fun H locs ls hw hS hl => W.lcmp X.1.1 X.1.2.1 hd (K H locs ls hw hS hl)
theorem g_dup (X : Cx D ta pl bs nL p s m args meth c cc Ts own rt) {v : Value} (hd : decode cc pc = .ok (.dup, 1)) (hc : v.category = 1) (K : WW D bs nL p l e R s m args below meth c Q al C cells slots (pc + 1) lv (v :: v :: st)) : WW D bs nL p l e R s m args below meth c Q al C cells slots pc lv (v :: st) := fun H locs ls hw hS hl => lv_dup X.1.1 X.1.2.1 hd hc (K H locs ls hw hS hl)
theorem g_dup2 (X : Cx D ta pl bs nL p s m args meth c cc Ts own rt) {v w : Value} (hd : decode cc pc = .ok (.dup2, 1)) (hc : v.category = 1) (hc2 : w.category = 1) (K : WW D bs nL p l e R s m args below meth c Q al C cells slots (pc + 1) lv (v :: w :: v :: w :: st)) : WW D bs nL p l e R s m args below meth c Q al C cells slots pc lv (v :: w :: st) := fun H locs ls hw hS hl => lv_dup2_11 X.1.1 X.1.2.1 hd hc hc2 (K H locs ls hw hS hl)
theorem g_pop (X : Cx D ta pl bs nL p s m args meth c cc Ts own rt) {v : Value} (hd : decode cc pc = .ok (.pop, 1)) (hc : v.category = 1) (K : WW D bs nL p l e R s m args below meth c Q al C cells slots (pc + 1) lv st) : WW D bs nL p l e R s m args below meth c Q al C cells slots pc lv (v :: st) := fun H locs ls hw hS hl => lv_pop X.1.1 X.1.2.1 hd hc (K H locs ls hw hS hl)
theorem g_goto (X : Cx D ta pl bs nL p s m args meth c cc Ts own rt) {off : Int} (tgt : Nat) (hd : decode cc pc = .ok (.goto off, 3)) (ht : (pc : Int) + off = (tgt : Int)) (K : WW D bs nL p l e R s m args below meth c Q al C cells slots tgt lv st) : WW D bs nL p l e R s m args below meth c Q al C cells slots pc lv st := fun H locs ls hw hS hl => lv_goto X.1.1 X.1.2.1 hd ht (K H locs ls hw hS hl)
theorem g_icmp_eq (X : Cx D ta pl bs nL p s m args meth c cc Ts own rt) {x y : Int32} {off : Int} {P : Prop} (tgt : Nat) (hd : decode cc pc = .ok (.if_icmp .eq off, 3)) (ht : (pc : Int) + off = (tgt : Int)) (hP : (x = y) ↔ P) (kt : P → WW D bs nL p l e R s m args below meth c Q al C cells slots tgt lv st) (kf : ¬ P → WW D bs nL p l e R s m args below meth c Q al C cells slots (pc + 3) lv st) : WW D bs nL p l e R s m args below meth c Q al C cells slots pc lv (.int y :: .int x :: st) := fun H locs ls hw hS hl => lv_icmp_eq X.1.1 X.1.2.1 hd ht (fun h => kt (hP.mp h) H locs ls hw hS hl) (fun h => kf (fun z => h (hP.mpr z)) H locs ls hw hS hl)
theorem g_icmp_ne (X : Cx D ta pl bs nL p s m args meth c cc Ts own rt) {x y : Int32} {off : Int} {P : Prop} (tgt : Nat) (hd : decode cc pc = .ok (.if_icmp .ne off, 3)) (ht : (pc : Int) + off = (tgt : Int)) (hP : (x = y) ↔ P) (kt : ¬ P → WW D bs nL p l e R s m args below meth c Q al C cells slots tgt lv st) (kf : P → WW D bs nL p l e R s m args below meth c Q al C cells slots (pc + 3) lv st) : WW D bs nL p l e R s m args below meth c Q al C cells slots pc lv (.int y :: .int x :: st) := fun H locs ls hw hS hl => lv_icmp_ne X.1.1 X.1.2.1 hd ht (fun h => kt (fun z => h (hP.mpr z)) H locs ls hw hS hl) (fun h => kf (hP.mp h) H locs ls hw hS hl)
theorem g_icmp_lt (X : Cx D ta pl bs nL p s m args meth c cc Ts own rt) {x y : Int32} {off : Int} {P : Prop} (tgt : Nat) (hd : decode cc pc = .ok (.if_icmp .lt off, 3)) (ht : (pc : Int) + off = (tgt : Int)) (hP : (x < y) ↔ P) (kt : P → WW D bs nL p l e R s m args below meth c Q al C cells slots tgt lv st) (kf : ¬ P → WW D bs nL p l e R s m args below meth c Q al C cells slots (pc + 3) lv st) : WW D bs nL p l e R s m args below meth c Q al C cells slots pc lv (.int y :: .int x :: st) := fun H locs ls hw hS hl => lv_icmp_lt X.1.1 X.1.2.1 hd ht (fun h => kt (hP.mp h) H locs ls hw hS hl) (fun h => kf (fun z => h (hP.mpr z)) H locs ls hw hS hl)
theorem g_icmp_ge (X : Cx D ta pl bs nL p s m args meth c cc Ts own rt) {x y : Int32} {off : Int} {P : Prop} (tgt : Nat) (hd : decode cc pc = .ok (.if_icmp .ge off, 3)) (ht : (pc : Int) + off = (tgt : Int)) (hP : (y ≤ x) ↔ P) (kt : P → WW D bs nL p l e R s m args below meth c Q al C cells slots tgt lv st) (kf : ¬ P → WW D bs nL p l e R s m args below meth c Q al C cells slots (pc + 3) lv st) : WW D bs nL p l e R s m args below meth c Q al C cells slots pc lv (.int y :: .int x :: st) := fun H locs ls hw hS hl => lv_icmp_ge X.1.1 X.1.2.1 hd ht (fun h => kt (hP.mp h) H locs ls hw hS hl) (fun h => kf (fun z => h (hP.mpr z)) H locs ls hw hS hl)
theorem g_icmp_gt (X : Cx D ta pl bs nL p s m args meth c cc Ts own rt) {x y : Int32} {off : Int} {P : Prop} (tgt : Nat) (hd : decode cc pc = .ok (.if_icmp .gt off, 3)) (ht : (pc : Int) + off = (tgt : Int)) (hP : (y < x) ↔ P) (kt : P → WW D bs nL p l e R s m args below meth c Q al C cells slots tgt lv st) (kf : ¬ P → WW D bs nL p l e R s m args below meth c Q al C cells slots (pc + 3) lv st) : WW D bs nL p l e R s m args below meth c Q al C cells slots pc lv (.int y :: .int x :: st) := fun H locs ls hw hS hl => lv_icmp_gt X.1.1 X.1.2.1 hd ht (fun h => kt (hP.mp h) H locs ls hw hS hl) (fun h => kf (fun z => h (hP.mpr z)) H locs ls hw hS hl)
theorem g_icmp_le (X : Cx D ta pl bs nL p s m args meth c cc Ts own rt) {x y : Int32} {off : Int} {P : Prop} (tgt : Nat) (hd : decode cc pc = .ok (.if_icmp .le off, 3)) (ht : (pc : Int) + off = (tgt : Int)) (hP : (x ≤ y) ↔ P) (kt : P → WW D bs nL p l e R s m args below meth c Q al C cells slots tgt lv st) (kf : ¬ P → WW D bs nL p l e R s m args below meth c Q al C cells slots (pc + 3) lv st) : WW D bs nL p l e R s m args below meth c Q al C cells slots pc lv (.int y :: .int x :: st) := fun H locs ls hw hS hl => lv_icmp_le X.1.1 X.1.2.1 hd ht (fun h => kt (hP.mp h) H locs ls hw hS hl) (fun h => kf (fun z => h (hP.mpr z)) H locs ls hw hS hl)
theorem g_if_eq (X : Cx D ta pl bs nL p s m args meth c cc Ts own rt) {x : Int32} {off : Int} {P : Prop} (tgt : Nat) (hd : decode cc pc = .ok (.ifCond .eq off, 3)) (ht : (pc : Int) + off = (tgt : Int)) (hP : (x = 0) ↔ P) (kt : P → WW D bs nL p l e R s m args below meth c Q al C cells slots tgt lv st) (kf : ¬ P → WW D bs nL p l e R s m args below meth c Q al C cells slots (pc + 3) lv st) : WW D bs nL p l e R s m args below meth c Q al C cells slots pc lv (.int x :: st) := fun H locs ls hw hS hl => lv_if_eq X.1.1 X.1.2.1 hd ht (fun h => kt (hP.mp h) H locs ls hw hS hl) (fun h => kf (fun z => h (hP.mpr z)) H locs ls hw hS hl)
theorem g_if_ne (X : Cx D ta pl bs nL p s m args meth c cc Ts own rt) {x : Int32} {off : Int} {P : Prop} (tgt : Nat) (hd : decode cc pc = .ok (.ifCond .ne off, 3)) (ht : (pc : Int) + off = (tgt : Int)) (hP : (x = 0) ↔ P) (kt : ¬ P → WW D bs nL p l e R s m args below meth c Q al C cells slots tgt lv st) (kf : P → WW D bs nL p l e R s m args below meth c Q al C cells slots (pc + 3) lv st) : WW D bs nL p l e R s m args below meth c Q al C cells slots pc lv (.int x :: st) := fun H locs ls hw hS hl => lv_if_ne X.1.1 X.1.2.1 hd ht (fun h => kt (fun z => h (hP.mpr z)) H locs ls hw hS hl) (fun h => kf (hP.mp h) H locs ls hw hS hl)
theorem g_if_lt (X : Cx D ta pl bs nL p s m args meth c cc Ts own rt) {x : Int32} {off : Int} {P : Prop} (tgt : Nat) (hd : decode cc pc = .ok (.ifCond .lt off, 3)) (ht : (pc : Int) + off = (tgt : Int)) (hP : (x < 0) ↔ P) (kt : P → WW D bs nL p l e R s m args below meth c Q al C cells slots tgt lv st) (kf : ¬ P → WW D bs nL p l e R s m args below meth c Q al C cells slots (pc + 3) lv st) : WW D bs nL p l e R s m args below meth c Q al C cells slots pc lv (.int x :: st) := fun H locs ls hw hS hl => lv_if_lt X.1.1 X.1.2.1 hd ht (fun h => kt (hP.mp h) H locs ls hw hS hl) (fun h => kf (fun z => h (hP.mpr z)) H locs ls hw hS hl)
theorem g_if_ge (X : Cx D ta pl bs nL p s m args meth c cc Ts own rt) {x : Int32} {off : Int} {P : Prop} (tgt : Nat) (hd : decode cc pc = .ok (.ifCond .ge off, 3)) (ht : (pc : Int) + off = (tgt : Int)) (hP : (0 ≤ x) ↔ P) (kt : P → WW D bs nL p l e R s m args below meth c Q al C cells slots tgt lv st) (kf : ¬ P → WW D bs nL p l e R s m args below meth c Q al C cells slots (pc + 3) lv st) : WW D bs nL p l e R s m args below meth c Q al C cells slots pc lv (.int x :: st) := fun H locs ls hw hS hl => lv_if_ge X.1.1 X.1.2.1 hd ht (fun h => kt (hP.mp h) H locs ls hw hS hl) (fun h => kf (fun z => h (hP.mpr z)) H locs ls hw hS hl)
theorem g_if_gt (X : Cx D ta pl bs nL p s m args meth c cc Ts own rt) {x : Int32} {off : Int} {P : Prop} (tgt : Nat) (hd : decode cc pc = .ok (.ifCond .gt off, 3)) (ht : (pc : Int) + off = (tgt : Int)) (hP : (0 < x) ↔ P) (kt : P → WW D bs nL p l e R s m args below meth c Q al C cells slots tgt lv st) (kf : ¬ P → WW D bs nL p l e R s m args below meth c Q al C cells slots (pc + 3) lv st) : WW D bs nL p l e R s m args below meth c Q al C cells slots pc lv (.int x :: st) := fun H locs ls hw hS hl => lv_if_gt X.1.1 X.1.2.1 hd ht (fun h => kt (hP.mp h) H locs ls hw hS hl) (fun h => kf (fun z => h (hP.mpr z)) H locs ls hw hS hl)
theorem g_if_le (X : Cx D ta pl bs nL p s m args meth c cc Ts own rt) {x : Int32} {off : Int} {P : Prop} (tgt : Nat) (hd : decode cc pc = .ok (.ifCond .le off, 3)) (ht : (pc : Int) + off = (tgt : Int)) (hP : (x ≤ 0) ↔ P) (kt : P → WW D bs nL p l e R s m args below meth c Q al C cells slots tgt lv st) (kf : ¬ P → WW D bs nL p l e R s m args below meth c Q al C cells slots (pc + 3) lv st) : WW D bs nL p l e R s m args below meth c Q al C cells slots pc lv (.int x :: st) := fun H locs ls hw hS hl => lv_if_le X.1.1 X.1.2.1 hd ht (fun h => kt (hP.mp h) H locs ls hw hS hl) (fun h => kf (fun z => h (hP.mpr z)) H locs ls hw hS hl)
theorem g_ifnull_r (X : Cx D ta pl bs nL p s m args meth c cc Ts own rt) {x : Nat} {off : Int} (hd : decode cc pc = .ok (.ifnull off, 3)) (K : WW D bs nL p l e R s m args below meth c Q al C cells slots (pc + 3) lv st) : WW D bs nL p l e R s m args below meth c Q al C cells slots pc lv (.ref x :: st) := fun H locs ls hw hS hl => lv_ifnull X.1.1 X.1.2.1 hd (K H locs ls hw hS hl)
theorem g_ifnull_n (X : Cx D ta pl bs nL p s m args meth c cc Ts own rt) {off : Int} (tgt : Nat) (hd : decode cc pc = .ok (.ifnull off, 3)) (ht : (pc : Int) + off = (tgt : Int)) (K : WW D bs nL p l e R s m args below meth c Q al C cells slots tgt lv st) : WW D bs nL p l e R s m args below meth c Q al C cells slots pc lv (.null :: st) := fun H locs ls hw hS hl => lv_ifnullN X.1.1 X.1.2.1 hd ht (K H locs ls hw hS hl)
theorem g_ifnonnull_r (X : Cx D ta pl bs nL p s m args meth c cc Ts own rt) {x : Nat} {off : Int} (tgt : Nat) (hd : decode cc pc = .ok (.ifnonnull off, 3)) (ht : (pc : Int) + off = (tgt : Int)) (K : WW D bs nL p l e R s m args below meth c Q al C cells slots tgt lv st) : WW D bs nL p l e R s m args below meth c Q al C cells slots pc lv (.ref x :: st) := fun H locs ls hw hS hl => lv_ifnonnull X.1.1 X.1.2.1 hd ht (K H locs ls hw hS hl)
theorem g_ifnonnull_n (X : Cx D ta pl bs nL p s m args meth c cc Ts own rt) {off : Int} (hd : decode cc pc = .ok (.ifnonnull off, 3)) (K : WW D bs nL p l e R s m args below meth c Q al C cells slots (pc + 3) lv st) : WW D bs nL p l e R s m args below meth c Q al C cells slots pc lv (.null :: st) := fun H locs ls hw hS hl => lv_ifnonnullN X.1.1 X.1.2.1 hd (K H locs ls hw hS hl)
theorem g_acmp_eq (X : Cx D ta pl bs nL p s m args meth c cc Ts own rt) {x y : Nat} {off : Int} {P : Prop} (tgt : Nat) (hd : decode cc pc = .ok (.if_acmp .eq off, 3)) (ht : (pc : Int) + off = (tgt : Int)) (hP : (x = y) ↔ P) (kt : P → WW D bs nL p l e R s m args below meth c Q al C cells slots tgt lv st) (kf : ¬ P → WW D bs nL p l e R s m args below meth c Q al C cells slots (pc + 3) lv st) : WW D bs nL p l e R s m args below meth c Q al C cells slots pc lv (.ref y :: .ref x :: st) := fun H locs ls hw hS hl => lv_acmp_eq (rx := some x) (ry := some y) X.1.1 X.1.2.1 hd ht (fun h => kt (hP.mp (Option.some.inj h)) H locs ls hw hS hl) (fun h => kf (fun z => h (congrArg some (hP.mpr z))) H locs ls hw hS hl)
theorem g_acmp_ne (X : Cx D ta pl bs nL p s m args meth c cc Ts own rt) {x y : Nat} {off : Int} {P : Prop} (tgt : Nat) (hd : decode cc pc = .ok (.if_acmp .ne off, 3)) (ht : (pc : Int) + off = (tgt : Int)) (hP : (x = y) ↔ P) (kt : ¬ P → WW D bs nL p l e R s m args below meth c Q al C cells slots tgt lv st) (kf : P → WW D bs nL p l e R s m args below meth c Q al C cells slots (pc + 3) lv st) : WW D bs nL p l e R s m args below meth c Q al C cells slots pc lv (.ref y :: .ref x :: st) := fun H locs ls hw hS hl => lv_acmp_ne (rx := some x) (ry := some y) X.1.1 X.1.2.1 hd ht (fun h => kt (fun z => h (congrArg some (hP.mpr z))) H locs ls hw hS hl) (fun h => kf (hP.mp (Option.some.inj h)) H locs ls hw hS hl)
theorem g_tableOut (X : Cx D ta pl bs nL p s m args meth c cc Ts own rt) {dflt lo hi : Int} {offs : Array Int} {len : Nat} {x : Int32} (tgt : Nat) (hd : decode cc pc = .ok (.tableswitch dflt lo hi offs, len)) (h : x.toInt < lo ∨ hi < x.toInt) (ht : (pc : Int) + dflt = (tgt : Int)) (K : WW D bs nL p l e R s m args below meth c Q al C cells slots tgt lv st) : WW D bs nL p l e R s m args below meth c Q al C cells slots pc lv (.int x :: st) := fun H locs ls hw hS hl => lv_tableOut X.1.1 X.1.2.1 hd h ht (K H locs ls hw hS hl)
theorem g_tableIn (X : Cx D ta pl bs nL p s m args meth c cc Ts own rt) {dflt lo hi : Int} {offs : Array Int} {len : Nat} {x : Int32} {off : Int} (tgt : Nat) (hd : decode cc pc = .ok (.tableswitch dflt lo hi offs, len)) (h1 : ¬ x.toInt < lo) (h2 : ¬ hi < x.toInt) (ho : offs[(x.toInt - lo).toNat]? = some off) (ht : (pc : Int) + off = (tgt : Int)) (K : WW D bs nL p l e R s m args below meth c Q al C cells slots tgt lv st) : WW D bs nL p l e R s m args below meth c Q al C cells slots pc lv (.int x :: st) := fun H locs ls hw hS hl => lv_tableIn X.1.1 X.1.2.1 hd h1 h2 ho ht (K H locs ls hw hS hl)
theorem g_get (X : Cx D ta pl bs nL p s m args meth c cc Ts own rt) {ref Cn : String} {T : u_T} {N ci index : Nat} (k i : Nat) {fs : List Value} (he : C k i = some (.inr (ci, fs))) (hc : vwCl[ci]? = some (Cn, T, N)) (f : Nat) (hf : f < N) (hin : ∀ w ∈ u_ws Cn T N, w ∈ Ts) (hlink : Cond.fieldLink own index ref (T f).2.1 (T f).2.2.1 ∈ Ts) (href : (T f).1 = ref) {v : Value} (hv : fs[f]? = some v) (hd : decode cc pc = .ok (.getfield index, 3)) (K : WW D bs nL p l e R s m args below meth c Q al C cells slots (pc + 3) lv (v :: st)) : WW D bs nL p l e R s m args below meth c Q al C cells slots pc lv (.ref (al k i) :: st) := fun H locs ls hw hS hl => va_get (D := D) (ci := ci) (ws := [(al k i, .inr (ci, fs))]) X.1.1 X.1.2.1 X.1.2.2.2.2 hin X.1.2.2.2.1 X.2.2.2.1 (va_P1 (hw.1 k i _ he).2) 0 rfl hc f hf (X.1.2.2.2.2 _ hlink) (fun x h => href ▸ h) hv hd (K H locs ls hw hS hl)
theorem g_put (X : Cx D ta pl bs nL p s m args meth c cc Ts own rt) {ref Cn : String} {T : u_T} {N ci index : Nat} (ty0 : Nat → FieldType) (hty : ∀ k, k < N → parseFieldDescriptor (T k).2.2.1 = some (ty0 k)) (hnm : ∀ a, a < N → ∀ b, b < N → a ≠ b → (T a).2.1 ≠ (T b).2.1) (k i : Nat) {fs : List Value} (he : C k i = some (.inr (ci, fs))) (hc : vwCl[ci]? = some (Cn, T, N)) (f : Nat) (hf : f < N) (hin : ∀ w ∈ u_ws Cn T N, w ∈ Ts) (hlink : Cond.fieldLink own index ref (T f).2.1 (T f).2.2.1 ∈ Ts) (href : (T f).1 = ref) (hfin : (T f).2.2.2 = false) {ty : FieldType} {v : Value} (hdsc : parseFieldDescriptor (T f).2.2.1 = some ty) (hn : narrow ty v = v) (hfit : fits ty v = true) (hl0 : f < fs.length) (C1 : Wo) (hC1 : wup C k i (.inr (ci, fs.set f v)) = C1) (hd : decode cc pc = .ok (.putfield index, 3)) (K : WW D bs nL p l e R s m args below meth c Q al C1 cells slots (pc + 3) lv st) : WW D bs nL p l e R s m args below meth c Q al C cells slots pc lv (v :: .ref (al k i) :: st) := by
  intro H locs ls hw hS hl
  obtain ⟨⟨hx, hb, hml, hown, hts⟩, hr, hlk, hK, hE⟩ := X
  have hap := va_apart (own := own) hts hin ty0 hty hnm hK hc
  obtain ⟨r, h1, cell, q1, q2, q3, q4⟩ := (hw.1 k i _ he).2
  have hr' : r = (Cn, T, N) := Option.some.inj (h1.symm.trans hc)
  subst hr'
  obtain ⟨hSl, hfc, kC, hkC, hkind⟩ := hK.1 ci _ hc
  obtain ⟨cf, kf, fi, f', hi, hsl⟩ := hSl f hf
  have hlay := hts _ (hin _ (u_in_lay hf))
  unfold u_lay at hlay
  rw [if_neg (by rw [hfin]; decide)] at hlay
  have hst := (u_facts hfc hkC (u_lays hts hin hf) hi).1
  have h6 := u_store hfc hkC hkind hlay hi hdsc hn hfit
  refine W.putK hx hb (f := f') ⟨hown, hts _ hlink, ⟨_, _, _, href ▸ hi⟩, hst⟩ (by rw [q2]; exact h6) q1 q3 (by rw [hsl]; exact k2_hasslot (q4 f hf)) rfl rfl hd fun H' e1 e2 e3 => ?_
  rw [hsl] at e1 ⊢
  subst hC1
  exact K H' _ ls (hw.set he ⟨_, hc, t_OB.to (V := updV (vp_V fs) f v) ⟨_, e1, q2, q3, t_set q4 hap hf v⟩ (fun j _ => vp_updV_set hl0 v j)⟩ e3) (hS.put e2 e3 (hw.1 k i _ he).1) hl
theorem g_putF (X : Cx D ta pl bs nL p s m args meth c cc Ts own rt) {ref Cn : String} {T : u_T} {N ci index : Nat} (ty0 : Nat → FieldType) (hty : ∀ k, k < N → parseFieldDescriptor (T k).2.2.1 = some (ty0 k)) (hnm : ∀ a, a < N → ∀ b, b < N → a ≠ b → (T a).2.1 ≠ (T b).2.1) (k i : Nat) {fs : List Value} (he : C k i = some (.inr (ci, fs))) (hc : vwCl[ci]? = some (Cn, T, N)) (f : Nat) (hf : f < N) (hin : ∀ w ∈ u_ws Cn T N, w ∈ Ts) (hlink : Cond.fieldLink own index ref (T f).2.1 (T f).2.2.1 ∈ Ts) (href : (T f).1 = ref) (hfin : (T f).2.2.2 = true) (hini : meth.name = "<init>") (hdecl : (T f).1 = own) {ty : FieldType} {v : Value} (hdsc : parseFieldDescriptor (T f).2.2.1 = some ty) (hn : narrow ty v = v) (hfit : fits ty v = true) (hl0 : f < fs.length) (C1 : Wo) (hC1 : wup C k i (.inr (ci, fs.set f v)) = C1) (hd : decode cc pc = .ok (.putfield index, 3)) (K : WW D bs nL p l e R s m args below meth c Q al C1 cells slots (pc + 3) lv st) : WW D bs nL p l e R s m args below meth c Q al C cells slots pc lv (v :: .ref (al k i) :: st) := by
  intro H locs ls hw hS hl
  obtain ⟨⟨hx, hb, hml, hown, hts⟩, hr, hlk, hK, hE⟩ := X
  have hap := va_apart (own := own) hts hin ty0 hty hnm hK hc
  obtain ⟨r, h1, cell, q1, q2, q3, q4⟩ := (hw.1 k i _ he).2
  have hr' : r = (Cn, T, N) := Option.some.inj (h1.symm.trans hc)
  subst hr'
  obtain ⟨hSl, hfc, kC, hkC, hkind⟩ := hK.1 ci _ hc
  obtain ⟨cf, kf, fi, f', hi, hsl⟩ := hSl f hf
  have hlay := hts _ (hin _ (u_in_lay hf))
  unfold u_lay at hlay
  rw [if_pos hfin] at hlay
  have hst := (u_facts hfc hkC (u_lays hts hin hf) hi).1
  have hcf : m.cls = cf := by
    obtain ⟨_, _, c', _, _, _, -, -, hf', -, -, -, hown2, -⟩ := Cond.laysFinal_spec hlay
    have e1 : c' = cf := by have := hi.symm.trans hf'; simp at this; exact this.1.symm
    rw [hdecl] at hown2
    rw [← e1]; exact Option.some.inj (hown.symm.trans hown2)
  have h6 := u_fits hfc hkC hkind (Or.inr hlay) hi hdsc hn hfit
  refine W.putFinK hx hb hown (hts _ hlink) (href ▸ hi) hst hcf hini (by rw [q2]; exact h6) q1 q3 (by rw [hsl]; exact k2_hasslot (q4 f hf)) rfl rfl hd fun H' e1 e2 e3 => ?_
  rw [hsl] at e1 ⊢
  subst hC1
  exact K H' _ ls (hw.set he ⟨_, hc, t_OB.to (V := updV (vp_V fs) f v) ⟨_, e1, q2, q3, t_set q4 hap hf v⟩ (fun j _ => vp_updV_set hl0 v j)⟩ e3) (hS.put e2 e3 (hw.1 k i _ he).1) hl
theorem g_iald (X : Cx D ta pl bs nL p s m args meth c cc Ts own rt) (k i : Nat) {n : Nat} {f : Nat → Int32} (he : C k i = some (.inl (ta 3, n, .inl f))) (j : Nat) (hj : j < n) (hn : n < 2 ^ 31) {v : Int32} (hv : f j = v) (hd : decode cc pc = .ok (.iaload, 1)) (K : WW D bs nL p l e R s m args below meth c Q al C cells slots (pc + 1) lv (.int v :: st)) : WW D bs nL p l e R s m args below meth c Q al C cells slots pc lv (.int (nI j) :: .ref (al k i) :: st) := fun H locs ls hw hS hl => va_iald (D := D) (ws := [(al k i, .inl (ta 3, n, .inl f))]) X.1.1 X.1.2.1 X.2.2.2.1 (va_P1 (hw.1 k i _ he).2) 0 3 rfl rfl (vp_in_nI hj hn) hd (by rw [nI_clamp (Nat.lt_trans hj hn), hv]; exact K H locs ls hw hS hl)
theorem g_zald (X : Cx D ta pl bs nL p s m args meth c cc Ts own rt) (k i : Nat) {n : Nat} {f : Nat → Int32} (he : C k i = some (.inl (ta 5, n, .inl f))) (j : Nat) (hj : j < n) (hn : n < 2 ^ 31) {v : Int32} (hv : f j = v) (hd : decode cc pc = .ok (.baload, 1)) (K : WW D bs nL p l e R s m args below meth c Q al C cells slots (pc + 1) lv (.int v :: st)) : WW D bs nL p l e R s m args below meth c Q al C cells slots pc lv (.int (nI j) :: .ref (al k i) :: st) := fun H locs ls hw hS hl => va_zald (D := D) (ws := [(al k i, .inl (ta 5, n, .inl f))]) X.1.1 X.1.2.1 X.2.2.2.1 (va_P1 (hw.1 k i _ he).2) 0 5 rfl rfl (vp_in_nI hj hn) hd (by rw [nI_clamp (Nat.lt_trans hj hn), hv]; exact K H locs ls hw hS hl)
theorem g_lald (X : Cx D ta pl bs nL p s m args meth c cc Ts own rt) (k i : Nat) {n : Nat} {f : Nat → Int64} (he : C k i = some (.inl (ta 4, n, .inr (.inl f)))) (j : Nat) (hj : j < n) (hn : n < 2 ^ 31) {v : Int64} (hv : f j = v) (hd : decode cc pc = .ok (.laload, 1)) (K : WW D bs nL p l e R s m args below meth c Q al C cells slots (pc + 1) lv (.long v :: st)) : WW D bs nL p l e R s m args below meth c Q al C cells slots pc lv (.int (nI j) :: .ref (al k i) :: st) := fun H locs ls hw hS hl => va_lald (D := D) (ws := [(al k i, .inl (ta 4, n, .inr (.inl f)))]) X.1.1 X.1.2.1 X.2.2.2.1 (va_P1 (hw.1 k i _ he).2) 0 4 rfl rfl (vp_in_nI hj hn) hd (by rw [nI_clamp (Nat.lt_trans hj hn), hv]; exact K H locs ls hw hS hl)
theorem g_aald0 (X : Cx D ta pl bs nL p s m args meth c cc Ts own rt) (k i : Nat) {n : Nat} {f : Nat → Option Nat} (he : C k i = some (.inl (ta 0, n, .inr (.inr (.inr (.inr f)))))) (j : Nat) (hj : j < n) (hn : n < 2 ^ 31) {v : Value} (hv : va_rf (f j) = v) (hd : decode cc pc = .ok (.aaload, 1)) (K : WW D bs nL p l e R s m args below meth c Q al C cells slots (pc + 1) lv (v :: st)) : WW D bs nL p l e R s m args below meth c Q al C cells slots pc lv (.int (nI j) :: .ref (al k i) :: st) := fun H locs ls hw hS hl => va_aldq (D := D) (C := RX2) (ws := [(al k i, .inl (ta 0, n, .inr (.inr (.inr (.inr f)))))]) X.1.1 X.1.2.1 X.2.2.2.1 (va_P1 (hw.1 k i _ he).2) 0 0 rfl rfl (vp_in_nI hj hn) hd (by rw [nI_clamp (Nat.lt_trans hj hn), hv]; exact K H locs ls hw hS hl)
theorem g_aald1 (X : Cx D ta pl bs nL p s m args meth c cc Ts own rt) (k i : Nat) {n : Nat} {f : Nat → Option Nat} (he : C k i = some (.inl (ta 1, n, .inr (.inr (.inr (.inr f)))))) (j : Nat) (hj : j < n) (hn : n < 2 ^ 31) {v : Value} (hv : va_rf (f j) = v) (hd : decode cc pc = .ok (.aaload, 1)) (K : WW D bs nL p l e R s m args below meth c Q al C cells slots (pc + 1) lv (v :: st)) : WW D bs nL p l e R s m args below meth c Q al C cells slots pc lv (.int (nI j) :: .ref (al k i) :: st) := fun H locs ls hw hS hl => va_aldq (D := D) (C := RX1) (ws := [(al k i, .inl (ta 1, n, .inr (.inr (.inr (.inr f)))))]) X.1.1 X.1.2.1 X.2.2.2.1 (va_P1 (hw.1 k i _ he).2) 0 1 rfl rfl (vp_in_nI hj hn) hd (by rw [nI_clamp (Nat.lt_trans hj hn), hv]; exact K H locs ls hw hS hl)
theorem g_aald2 (X : Cx D ta pl bs nL p s m args meth c cc Ts own rt) (k i : Nat) {n : Nat} {f : Nat → Option Nat} (he : C k i = some (.inl (ta 2, n, .inr (.inr (.inr (.inr f)))))) (j : Nat) (hj : j < n) (hn : n < 2 ^ 31) {v : Value} (hv : va_rf (f j) = v) (hd : decode cc pc = .ok (.aaload, 1)) (K : WW D bs nL p l e R s m args below meth c Q al C cells slots (pc + 1) lv (v :: st)) : WW D bs nL p l e R s m args below meth c Q al C cells slots pc lv (.int (nI j) :: .ref (al k i) :: st) := fun H locs ls hw hS hl => va_aldq (D := D) (C := RX0) (ws := [(al k i, .inl (ta 2, n, .inr (.inr (.inr (.inr f)))))]) X.1.1 X.1.2.1 X.2.2.2.1 (va_P1 (hw.1 k i _ he).2) 0 2 rfl rfl (vp_in_nI hj hn) hd (by rw [nI_clamp (Nat.lt_trans hj hn), hv]; exact K H locs ls hw hS hl)
theorem g_iast (X : Cx D ta pl bs nL p s m args meth c cc Ts own rt) (k i : Nat) {n : Nat} {f : Nat → Int32} {x : Int32} (he : C k i = some (.inl (ta 3, n, (.inl f)))) (j : Nat) (hj : j < n) (hn : n < 2 ^ 31) (C1 : Wo) (hC1 : wup C k i (.inl (ta 3, n, (.inl (upd f j x)))) = C1) (hd : decode cc pc = .ok (.iastore, 1)) (K : WW D bs nL p l e R s m args below meth c Q al C1 cells slots (pc + 1) lv st) : WW D bs nL p l e R s m args below meth c Q al C cells slots pc lv (.int x :: .int (nI j) :: .ref (al k i) :: st) := by
  intro H locs ls hw hS hl
  obtain ⟨⟨hx, hb, hml, hown, hts⟩, hr, hlk, hK, hE⟩ := X
  have hin := vp_in_nI hj hn
  refine W.iast hx hb (hw.1 k i _ he).2 ((hK.2 3 _ rfl).1 n (fun j => .int (f j))) (fun q => by cases q) (by show ¬ (nI j < 0 ∨ (arrV _ _ _).slots.size ≤ _); rw [arrV_size]; exact hin) rfl rfl hd fun H1 e z oq => ?_
  subst hC1
  refine K H1 _ ls (hw.set he ?_ oq) (hS.put z oq (hw.1 k i _ he).1) hl
  show H1[al k i]? = some (vp_cell _ _)
  rw [e, nI_clamp (Nat.lt_trans hj hn)]
  rw [vp_cell_i, vp_cell_i, arrV_store]
  congr 2
  funext q
  by_cases hq : q = j
  · subst hq
    simp [updV, upd]
  · simp [updV, upd, hq]
theorem g_last (X : Cx D ta pl bs nL p s m args meth c cc Ts own rt) (k i : Nat) {n : Nat} {f : Nat → Int64} {x : Int64} (he : C k i = some (.inl (ta 4, n, (.inr (.inl f))))) (j : Nat) (hj : j < n) (hn : n < 2 ^ 31) (C1 : Wo) (hC1 : wup C k i (.inl (ta 4, n, (.inr (.inl (vp_updL f j x))))) = C1) (hd : decode cc pc = .ok (.lastore, 1)) (K : WW D bs nL p l e R s m args below meth c Q al C1 cells slots (pc + 1) lv st) : WW D bs nL p l e R s m args below meth c Q al C cells slots pc lv (.long x :: .int (nI j) :: .ref (al k i) :: st) := by
  intro H locs ls hw hS hl
  obtain ⟨⟨hx, hb, hml, hown, hts⟩, hr, hlk, hK, hE⟩ := X
  have hin := vp_in_nI hj hn
  refine W.last hx hb (hw.1 k i _ he).2 ((hK.2 4 _ rfl).1 n (fun j => .long (f j))) (fun q => by cases q) (by show ¬ (nI j < 0 ∨ (arrV _ _ _).slots.size ≤ _); rw [arrV_size]; exact hin) rfl rfl hd fun H1 e z oq => ?_
  subst hC1
  refine K H1 _ ls (hw.set he ?_ oq) (hS.put z oq (hw.1 k i _ he).1) hl
  show H1[al k i]? = some (vp_cell _ _)
  rw [e, nI_clamp (Nat.lt_trans hj hn)]
  rw [vp_cell_l, vp_cell_l, arrV_store]
  congr 2
  funext q
  by_cases hq : q = j
  · subst hq
    simp [updV, vp_updL]
  · simp [updV, vp_updL, hq]
theorem g_zast (X : Cx D ta pl bs nL p s m args meth c cc Ts own rt) (k i : Nat) {n : Nat} {f : Nat → Int32} {x : Int32} (he : C k i = some (.inl (ta 5, n, .inl f))) (j : Nat) (hj : j < n) (hn : n < 2 ^ 31) (hx1 : narrow .boolean (.int x) = .int x) (C1 : Wo) (hC1 : wup C k i (.inl (ta 5, n, .inl (upd f j x))) = C1) (hd : decode cc pc = .ok (.bastore, 1)) (K : WW D bs nL p l e R s m args below meth c Q al C1 cells slots (pc + 1) lv st) : WW D bs nL p l e R s m args below meth c Q al C cells slots pc lv (.int x :: .int (nI j) :: .ref (al k i) :: st) := by
  intro H locs ls hw hS hl
  obtain ⟨⟨hx, hb, hml, hown, hts⟩, hr, hlk, hK, hE⟩ := X
  have hin := vp_in_nI hj hn
  refine W.zast hx hb (hw.1 k i _ he).2 ((hK.2 5 _ rfl).1 n (fun j => .int (f j))) (fun q => by cases q) (by show ¬ (nI j < 0 ∨ (arrV _ _ _).slots.size ≤ _); rw [arrV_size]; exact hin) rfl rfl hd fun H1 e z oq => ?_
  subst hC1
  refine K H1 _ ls (hw.set he ?_ oq) (hS.put z oq (hw.1 k i _ he).1) hl
  show H1[al k i]? = some (vp_cell _ _)
  rw [e, nI_clamp (Nat.lt_trans hj hn)]
  rw [vp_cell_i, vp_cell_i, arrV_store]
  congr 2
  funext q
  by_cases hq : q = j
  · subst hq
    simp [updV, upd]
    exact hx1
  · simp [updV, upd, hq]
theorem g_aast0 (X : Cx D ta pl bs nL p s m args meth c cc Ts own rt) (k i k2 i2 : Nat) {n : Nat} {f : Nat → Option Nat} {vs : List Value} (he : C k i = some (.inl (ta 0, n, .inr (.inr (.inr (.inr f)))))) (hv : C k2 i2 = some (.inr (3, vs))) (j : Nat) (hj : j < n) (hn : n < 2 ^ 31) (C1 : Wo) (hC1 : wup C k i (.inl (ta 0, n, .inr (.inr (.inr (.inr (va_up f j (some (al k2 i2)))))))) = C1) (hd : decode cc pc = .ok (.aastore, 1)) (K : WW D bs nL p l e R s m args below meth c Q al C1 cells slots (pc + 1) lv st) : WW D bs nL p l e R s m args below meth c Q al C cells slots pc lv (.ref (al k2 i2) :: .int (nI j) :: .ref (al k i) :: st) := by
  intro H locs ls hw hS hl
  obtain ⟨⟨hx, hb, hml, hown, hts⟩, hr, hlk, hK, hE⟩ := X
  have hin := vp_in_nI hj hn
  have hlt : (nI j).toNatClampNeg < n := by rw [nI_clamp (Nat.lt_trans hj hn)]; exact hj
  have h0 : ¬ nI j < 0 := fun q => hin (Or.inl q)
  obtain ⟨r', hr', cellV, g1, g2, g3, -⟩ := (hw.1 k2 i2 _ hv).2
  have hcls := (hK.1 3 (RX2, TX2, 8) rfl).2
  obtain ⟨kA, comp, k1, k2', k3, -⟩ := (hK.2 0 (ta 0, .object RX2) rfl).2
  have hcomp : comp = D.1 3 := Option.some.inj (k3.symm.trans hcls.1)
  subst hcomp
  obtain ⟨kC, hkC, -⟩ := hcls.2
  refine W.aast hx hb (hw.1 k i _ he).2 (fun q h => by cases h) (fun h => by cases h) k1 k2' rfl hkC ⟨h0, by show _ < (arrV _ _ _).slots.size; rw [arrV_size]; exact hlt⟩ g1 (fun q h => by rw [g3] at h; cases h) (by rw [g2]; exact hkC) (by rw [g2]; exact va_assign hcls) rfl rfl hd fun H1 e z oq => ?_
  subst hC1
  refine K H1 _ ls (hw.set he ?_ oq) (hS.put z oq (hw.1 k i _ he).1) hl
  show H1[al k i]? = some (vp_cell _ _)
  rw [e, nI_clamp (Nat.lt_trans hj hn)]
  rw [vp_cell_q, vp_cell_q, arrV_store]
  congr 2
  funext q
  by_cases hq : q = j
  · subst hq
    simp [updV, va_up, va_rf]
  · simp [updV, va_up, hq]
theorem g_aast1 (X : Cx D ta pl bs nL p s m args meth c cc Ts own rt) (k i k2 i2 : Nat) {n : Nat} {f : Nat → Option Nat} {vs : List Value} (he : C k i = some (.inl (ta 1, n, .inr (.inr (.inr (.inr f)))))) (hv : C k2 i2 = some (.inr (2, vs))) (j : Nat) (hj : j < n) (hn : n < 2 ^ 31) (C1 : Wo) (hC1 : wup C k i (.inl (ta 1, n, .inr (.inr (.inr (.inr (va_up f j (some (al k2 i2)))))))) = C1) (hd : decode cc pc = .ok (.aastore, 1)) (K : WW D bs nL p l e R s m args below meth c Q al C1 cells slots (pc + 1) lv st) : WW D bs nL p l e R s m args below meth c Q al C cells slots pc lv (.ref (al k2 i2) :: .int (nI j) :: .ref (al k i) :: st) := by
  intro H locs ls hw hS hl
  obtain ⟨⟨hx, hb, hml, hown, hts⟩, hr, hlk, hK, hE⟩ := X
  have hin := vp_in_nI hj hn
  have hlt : (nI j).toNatClampNeg < n := by rw [nI_clamp (Nat.lt_trans hj hn)]; exact hj
  have h0 : ¬ nI j < 0 := fun q => hin (Or.inl q)
  obtain ⟨r', hr', cellV, g1, g2, g3, -⟩ := (hw.1 k2 i2 _ hv).2
  have hcls := (hK.1 2 (RX1, TX1, 5) rfl).2
  obtain ⟨kA, comp, k1, k2', k3, -⟩ := (hK.2 1 (ta 1, .object RX1) rfl).2
  have hcomp : comp = D.1 2 := Option.some.inj (k3.symm.trans hcls.1)
  subst hcomp
  obtain ⟨kC, hkC, -⟩ := hcls.2
  refine W.aast hx hb (hw.1 k i _ he).2 (fun q h => by cases h) (fun h => by cases h) k1 k2' rfl hkC ⟨h0, by show _ < (arrV _ _ _).slots.size; rw [arrV_size]; exact hlt⟩ g1 (fun q h => by rw [g3] at h; cases h) (by rw [g2]; exact hkC) (by rw [g2]; exact va_assign hcls) rfl rfl hd fun H1 e z oq => ?_
  subst hC1
  refine K H1 _ ls (hw.set he ?_ oq) (hS.put z oq (hw.1 k i _ he).1) hl
  show H1[al k i]? = some (vp_cell _ _)
  rw [e, nI_clamp (Nat.lt_trans hj hn)]
  rw [vp_cell_q, vp_cell_q, arrV_store]
  congr 2
  funext q
  by_cases hq : q = j
  · subst hq
    simp [updV, va_up, va_rf]
  · simp [updV, va_up, hq]
theorem g_aast2 (X : Cx D ta pl bs nL p s m args meth c cc Ts own rt) (k i k2 i2 : Nat) {n : Nat} {f : Nat → Option Nat} {vs : List Value} (he : C k i = some (.inl (ta 2, n, .inr (.inr (.inr (.inr f)))))) (hv : C k2 i2 = some (.inr (1, vs))) (j : Nat) (hj : j < n) (hn : n < 2 ^ 31) (C1 : Wo) (hC1 : wup C k i (.inl (ta 2, n, .inr (.inr (.inr (.inr (va_up f j (some (al k2 i2)))))))) = C1) (hd : decode cc pc = .ok (.aastore, 1)) (K : WW D bs nL p l e R s m args below meth c Q al C1 cells slots (pc + 1) lv st) : WW D bs nL p l e R s m args below meth c Q al C cells slots pc lv (.ref (al k2 i2) :: .int (nI j) :: .ref (al k i) :: st) := by
  intro H locs ls hw hS hl
  obtain ⟨⟨hx, hb, hml, hown, hts⟩, hr, hlk, hK, hE⟩ := X
  have hin := vp_in_nI hj hn
  have hlt : (nI j).toNatClampNeg < n := by rw [nI_clamp (Nat.lt_trans hj hn)]; exact hj
  have h0 : ¬ nI j < 0 := fun q => hin (Or.inl q)
  obtain ⟨r', hr', cellV, g1, g2, g3, -⟩ := (hw.1 k2 i2 _ hv).2
  have hcls := (hK.1 1 (RX0, TX0, 4) rfl).2
  obtain ⟨kA, comp, k1, k2', k3, -⟩ := (hK.2 2 (ta 2, .object RX0) rfl).2
  have hcomp : comp = D.1 1 := Option.some.inj (k3.symm.trans hcls.1)
  subst hcomp
  obtain ⟨kC, hkC, -⟩ := hcls.2
  refine W.aast hx hb (hw.1 k i _ he).2 (fun q h => by cases h) (fun h => by cases h) k1 k2' rfl hkC ⟨h0, by show _ < (arrV _ _ _).slots.size; rw [arrV_size]; exact hlt⟩ g1 (fun q h => by rw [g3] at h; cases h) (by rw [g2]; exact hkC) (by rw [g2]; exact va_assign hcls) rfl rfl hd fun H1 e z oq => ?_
  subst hC1
  refine K H1 _ ls (hw.set he ?_ oq) (hS.put z oq (hw.1 k i _ he).1) hl
  show H1[al k i]? = some (vp_cell _ _)
  rw [e, nI_clamp (Nat.lt_trans hj hn)]
  rw [vp_cell_q, vp_cell_q, arrV_store]
  congr 2
  funext q
  by_cases hq : q = j
  · subst hq
    simp [updV, va_up, va_rf]
  · simp [updV, va_up, hq]
theorem g_aastN (X : Cx D ta pl bs nL p s m args meth c cc Ts own rt) (k i : Nat) {n : Nat} {f : Nat → Option Nat} (he : C k i = some (.inl (ta 0, n, .inr (.inr (.inr (.inr f)))))) (j : Nat) (hj : j < n) (hn : n < 2 ^ 31) (C1 : Wo) (hC1 : wup C k i (.inl (ta 0, n, .inr (.inr (.inr (.inr (va_up f j none)))))) = C1) (hd : decode cc pc = .ok (.aastore, 1)) (K : WW D bs nL p l e R s m args below meth c Q al C1 cells slots (pc + 1) lv st) : WW D bs nL p l e R s m args below meth c Q al C cells slots pc lv (.null :: .int (nI j) :: .ref (al k i) :: st) := by
  intro H locs ls hw hS hl
  obtain ⟨⟨hx, hb, hml, hown, hts⟩, hr, hlk, hK, hE⟩ := X
  have hin := vp_in_nI hj hn
  refine va_WaastN (C := RX2) hx hb (hw.1 k i _ he).2 ((hK.2 0 _ rfl).1 n (fun j => va_rf (f j))) (fun h => by cases h) (by show ¬ (nI j < 0 ∨ (arrV _ _ _).slots.size ≤ _); rw [arrV_size]; exact hin) rfl rfl hd fun H1 e z oq => ?_
  subst hC1
  refine K H1 _ ls (hw.set he ?_ oq) (hS.put z oq (hw.1 k i _ he).1) hl
  show H1[al k i]? = some (vp_cell _ _)
  rw [e, nI_clamp (Nat.lt_trans hj hn)]
  rw [vp_cell_q, vp_cell_q, arrV_store]
  congr 2
  funext q
  by_cases hq : q = j
  · subst hq
    simp [updV, va_up, va_rf]
  · simp [updV, va_up, hq]
theorem g_new (X : Cx D ta pl bs nL p s m args meth c cc Ts own rt) {Cn : String} {T : u_T} {N ci index : Nat} (k i : Nat) (hno : C k i = none) (ty : Nat → FieldType) (hty : ∀ k, k < N → parseFieldDescriptor (T k).2.2.1 = some (ty k)) (hc : vwCl[ci]? = some (Cn, T, N)) (hin : ∀ w ∈ u_ws Cn T N, w ∈ Ts) (hcl : Cond.classLink own index Cn ∈ Ts) (hinst : Cond.instantiable Cn N ∈ Ts) (hini : Cond.initialized Cn ∈ Ts) (fs : List Value) (hfs : ∀ j, j < N → defaultValue (ty j) = vp_V fs j) (hcells : cells + 1 ≤ R.cells) (hslots : slots + N ≤ R.slots) (hd : decode cc pc = .ok (.new index, 3)) (K : ∀ q : Nat, WW D bs nL p l e R s m args below meth c Q (aup al k i q) (wup C k i (.inr (ci, fs))) (cells + 1) (slots + N) (pc + 3) lv (.ref (aup al k i q k i) :: st)) : WW D bs nL p l e R s m args below meth c Q al C cells slots pc lv st := by
  intro H locs ls hw hS hl
  obtain ⟨⟨hx, hb, hml, hown, hts⟩, hr, hlk, hK, hE⟩ := X
  have hKn := hK.1 ci _ hc
  refine W.newcK hx hb hown (hts _ hcl) (hts _ hinst) (hts _ hini) rfl hd hcells hslots hKn.2.1 rfl fun H1 kC hkC e1 z1 o1 => ?_
  have K1 := K H.size
  rw [aup_self] at K1
  refine K1 H1 locs ls (hw.new (Nat.le_trans hE.1 hS.1) hno ⟨_, hc, (u_born ty hts hin hKn hkC e1 hty).to hfs⟩ o1) ⟨Nat.le_trans hS.1 (by omega), fun x h1 h2 => (o1 x (Nat.lt_of_lt_of_le h1 hS.1)).trans (hS.2.1 x h1 h2), hS.2.2⟩ hl
theorem g_newi (X : Cx D ta pl bs nL p s m args meth c cc Ts own rt) (k i : Nat) (hno : C k i = none) (harr : Cond.arrayClass .int ∈ Ts) (n : Nat) (hn : n < 65536) (hcells : cells + 1 ≤ R.cells) (hslots : slots + n ≤ R.slots) (hd : decode cc pc = .ok (.newarray .int, 2)) (K : ∀ q : Nat, WW D bs nL p l e R s m args below meth c Q (aup al k i q) (wup C k i (.inl (ta 3, n, .inl (fun _ => 0)))) (cells + 1) (slots + n) (pc + 2) lv (.ref (aup al k i q k i) :: st)) : WW D bs nL p l e R s m args below meth c Q al C cells slots pc lv (.int (nI n) :: st) := by
  intro H locs ls hw hS hl
  obtain ⟨⟨hx, hb, hml, hown, hts⟩, hr, hlk, hK, hE⟩ := X
  have hn31 : n < 2 ^ 31 := by omega
  refine va_newaK (atype := .int) (N := n) hx hb (hts _ harr) rfl hd rfl (nI_pos hn31) (nI_clamp hn31) (by show n * _ ≤ _; first | (show n * 4 ≤ _; omega) | (show n * 8 ≤ _; omega) | (show n * 1 ≤ _; omega)) hcells hslots rfl fun H1 cA e1 z1 o1 hAr hNm => ?_
  have hcA : cA = ta 3 := Option.some.inj (hNm.symm.trans (hK.2 3 (ta 3, .int) rfl).2)
  subst hcA
  have K1 := K H.size
  rw [aup_self] at K1
  refine K1 H1 locs ls (hw.new (Nat.le_trans hE.1 hS.1) hno ?_ o1) ⟨Nat.le_trans hS.1 (by omega), fun x h1 h2 => (o1 x (Nat.lt_of_lt_of_le h1 hS.1)).trans (hS.2.1 x h1 h2), hS.2.2⟩ hl
  show H1[H.size]? = some (vp_cell _ _)
  rw [vp_cell_i]
  exact e1
theorem g_newl (X : Cx D ta pl bs nL p s m args meth c cc Ts own rt) (k i : Nat) (hno : C k i = none) (harr : Cond.arrayClass .long ∈ Ts) (n : Nat) (hn : n < 65536) (hcells : cells + 1 ≤ R.cells) (hslots : slots + n ≤ R.slots) (hd : decode cc pc = .ok (.newarray .long, 2)) (K : ∀ q : Nat, WW D bs nL p l e R s m args below meth c Q (aup al k i q) (wup C k i (.inl (ta 4, n, .inr (.inl (fun _ => 0))))) (cells + 1) (slots + n) (pc + 2) lv (.ref (aup al k i q k i) :: st)) : WW D bs nL p l e R s m args below meth c Q al C cells slots pc lv (.int (nI n) :: st) := by
  intro H locs ls hw hS hl
  obtain ⟨⟨hx, hb, hml, hown, hts⟩, hr, hlk, hK, hE⟩ := X
  have hn31 : n < 2 ^ 31 := by omega
  refine va_newaK (atype := .long) (N := n) hx hb (hts _ harr) rfl hd rfl (nI_pos hn31) (nI_clamp hn31) (by show n * _ ≤ _; first | (show n * 4 ≤ _; omega) | (show n * 8 ≤ _; omega) | (show n * 1 ≤ _; omega)) hcells hslots rfl fun H1 cA e1 z1 o1 hAr hNm => ?_
  have hcA : cA = ta 4 := Option.some.inj (hNm.symm.trans (hK.2 4 (ta 4, .long) rfl).2)
  subst hcA
  have K1 := K H.size
  rw [aup_self] at K1
  refine K1 H1 locs ls (hw.new (Nat.le_trans hE.1 hS.1) hno ?_ o1) ⟨Nat.le_trans hS.1 (by omega), fun x h1 h2 => (o1 x (Nat.lt_of_lt_of_le h1 hS.1)).trans (hS.2.1 x h1 h2), hS.2.2⟩ hl
  show H1[H.size]? = some (vp_cell _ _)
  rw [vp_cell_l]
  exact e1
theorem g_newz (X : Cx D ta pl bs nL p s m args meth c cc Ts own rt) (k i : Nat) (hno : C k i = none) (harr : Cond.arrayClass .boolean ∈ Ts) (n : Nat) (hn : n < 65536) (hcells : cells + 1 ≤ R.cells) (hslots : slots + n ≤ R.slots) (hd : decode cc pc = .ok (.newarray .boolean, 2)) (K : ∀ q : Nat, WW D bs nL p l e R s m args below meth c Q (aup al k i q) (wup C k i (.inl (ta 5, n, .inl (fun _ => 0)))) (cells + 1) (slots + n) (pc + 2) lv (.ref (aup al k i q k i) :: st)) : WW D bs nL p l e R s m args below meth c Q al C cells slots pc lv (.int (nI n) :: st) := by
  intro H locs ls hw hS hl
  obtain ⟨⟨hx, hb, hml, hown, hts⟩, hr, hlk, hK, hE⟩ := X
  have hn31 : n < 2 ^ 31 := by omega
  refine va_newaK (atype := .boolean) (N := n) hx hb (hts _ harr) rfl hd rfl (nI_pos hn31) (nI_clamp hn31) (by show n * _ ≤ _; first | (show n * 4 ≤ _; omega) | (show n * 8 ≤ _; omega) | (show n * 1 ≤ _; omega)) hcells hslots rfl fun H1 cA e1 z1 o1 hAr hNm => ?_
  have hcA : cA = ta 5 := Option.some.inj (hNm.symm.trans (hK.2 5 (ta 5, .boolean) rfl).2)
  subst hcA
  have K1 := K H.size
  rw [aup_self] at K1
  refine K1 H1 locs ls (hw.new (Nat.le_trans hE.1 hS.1) hno ?_ o1) ⟨Nat.le_trans hS.1 (by omega), fun x h1 h2 => (o1 x (Nat.lt_of_lt_of_le h1 hS.1)).trans (hS.2.1 x h1 h2), hS.2.2⟩ hl
  show H1[H.size]? = some (vp_cell _ _)
  rw [vp_cell_i]
  exact e1
theorem g_newq0 (X : Cx D ta pl bs nL p s m args meth c cc Ts own rt) {index : Nat} (k i : Nat) (hno : C k i = none) (hcl : Cond.classLink own index RX2 ∈ Ts) (n : Nat) (hn : n < 65536) (hcells : cells + 1 ≤ R.cells) (hslots : slots + n ≤ R.slots) (hd : decode cc pc = .ok (.anewarray index, 3)) (K : ∀ q : Nat, WW D bs nL p l e R s m args below meth c Q (aup al k i q) (wup C k i (.inl (ta 0, n, .inr (.inr (.inr (.inr (fun _ => none))))))) (cells + 1) (slots + n) (pc + 3) lv (.ref (aup al k i q k i) :: st)) : WW D bs nL p l e R s m args below meth c Q al C cells slots pc lv (.int (nI n) :: st) := by
  intro H locs ls hw hS hl
  obtain ⟨⟨hx, hb, hml, hown, hts⟩, hr, hlk, hK, hE⟩ := X
  have hn31 : n < 2 ^ 31 := by omega
  have hcl31 : (nI n).toNatClampNeg = n := nI_clamp hn31
  refine W.anew hx hb hown (hts _ hcl) (va_AO.use hE.2.2.2.1) rfl hd rfl (nI_pos hn31) (by rw [hcl31]; omega) hcells (by rw [hcl31]; exact hslots) fun cA kA comp f1 f2 f3 f4 => ?_
  rw [hcl31]
  have hcA : cA = ta 0 := by
    obtain ⟨_, _, _, _, _, h4⟩ := (hK.2 0 (ta 0, .object RX2) rfl).2
    exact Option.some.inj (f1.symm.trans h4)
  subst hcA
  generalize hH1 : H.push ({ cls := ta 0, slots := Array.replicate n .null, vm := .none } : Cell) = H1
  have z1 : H1.size = H.size + 1 := by rw [← hH1, Array.size_push]
  have e1 : H1[H.size]? = some (arrV (ta 0) n (fun _ => .null)) := by rw [← hH1, Array.getElem?_push_size, ← arrV_new]
  have o1 : ∀ q : Nat, q < H.size → H1[q]? = H[q]? := fun q hq => by rw [← hH1, Array.getElem?_push, if_neg (Nat.ne_of_lt hq)]
  have K1 := K H.size
  rw [aup_self] at K1
  refine K1 H1 locs ls (hw.new (Nat.le_trans hE.1 hS.1) hno ?_ o1) ⟨Nat.le_trans hS.1 (by omega), fun x h1 h2 => (o1 x (Nat.lt_of_lt_of_le h1 hS.1)).trans (hS.2.1 x h1 h2), hS.2.2⟩ hl
  show H1[H.size]? = some (vp_cell _ _)
  rw [vp_cell_q]
  exact e1
theorem g_newq1 (X : Cx D ta pl bs nL p s m args meth c cc Ts own rt) {index : Nat} (k i : Nat) (hno : C k i = none) (hcl : Cond.classLink own index RX1 ∈ Ts) (n : Nat) (hn : n < 65536) (hcells : cells + 1 ≤ R.cells) (hslots : slots + n ≤ R.slots) (hd : decode cc pc = .ok (.anewarray index, 3)) (K : ∀ q : Nat, WW D bs nL p l e R s m args below meth c Q (aup al k i q) (wup C k i (.inl (ta 1, n, .inr (.inr (.inr (.inr (fun _ => none))))))) (cells + 1) (slots + n) (pc + 3) lv (.ref (aup al k i q k i) :: st)) : WW D bs nL p l e R s m args below meth c Q al C cells slots pc lv (.int (nI n) :: st) := by
  intro H locs ls hw hS hl
  obtain ⟨⟨hx, hb, hml, hown, hts⟩, hr, hlk, hK, hE⟩ := X
  have hn31 : n < 2 ^ 31 := by omega
  have hcl31 : (nI n).toNatClampNeg = n := nI_clamp hn31
  refine W.anew hx hb hown (hts _ hcl) (va_AO.use hE.2.2.2.2.1) rfl hd rfl (nI_pos hn31) (by rw [hcl31]; omega) hcells (by rw [hcl31]; exact hslots) fun cA kA comp f1 f2 f3 f4 => ?_
  rw [hcl31]
  have hcA : cA = ta 1 := by
    obtain ⟨_, _, _, _, _, h4⟩ := (hK.2 1 (ta 1, .object RX1) rfl).2
    exact Option.some.inj (f1.symm.trans h4)
  subst hcA
  generalize hH1 : H.push ({ cls := ta 1, slots := Array.replicate n .null, vm := .none } : Cell) = H1
  have z1 : H1.size = H.size + 1 := by rw [← hH1, Array.size_push]
  have e1 : H1[H.size]? = some (arrV (ta 1) n (fun _ => .null)) := by rw [← hH1, Array.getElem?_push_size, ← arrV_new]
  have o1 : ∀ q : Nat, q < H.size → H1[q]? = H[q]? := fun q hq => by rw [← hH1, Array.getElem?_push, if_neg (Nat.ne_of_lt hq)]
  have K1 := K H.size
  rw [aup_self] at K1
  refine K1 H1 locs ls (hw.new (Nat.le_trans hE.1 hS.1) hno ?_ o1) ⟨Nat.le_trans hS.1 (by omega), fun x h1 h2 => (o1 x (Nat.lt_of_lt_of_le h1 hS.1)).trans (hS.2.1 x h1 h2), hS.2.2⟩ hl
  show H1[H.size]? = some (vp_cell _ _)
  rw [vp_cell_q]
  exact e1
theorem g_newq2 (X : Cx D ta pl bs nL p s m args meth c cc Ts own rt) {index : Nat} (k i : Nat) (hno : C k i = none) (hcl : Cond.classLink own index RX0 ∈ Ts) (n : Nat) (hn : n < 65536) (hcells : cells + 1 ≤ R.cells) (hslots : slots + n ≤ R.slots) (hd : decode cc pc = .ok (.anewarray index, 3)) (K : ∀ q : Nat, WW D bs nL p l e R s m args below meth c Q (aup al k i q) (wup C k i (.inl (ta 2, n, .inr (.inr (.inr (.inr (fun _ => none))))))) (cells + 1) (slots + n) (pc + 3) lv (.ref (aup al k i q k i) :: st)) : WW D bs nL p l e R s m args below meth c Q al C cells slots pc lv (.int (nI n) :: st) := by
  intro H locs ls hw hS hl
  obtain ⟨⟨hx, hb, hml, hown, hts⟩, hr, hlk, hK, hE⟩ := X
  have hn31 : n < 2 ^ 31 := by omega
  have hcl31 : (nI n).toNatClampNeg = n := nI_clamp hn31
  refine W.anew hx hb hown (hts _ hcl) (va_AO.use hE.2.2.2.2.2) rfl hd rfl (nI_pos hn31) (by rw [hcl31]; omega) hcells (by rw [hcl31]; exact hslots) fun cA kA comp f1 f2 f3 f4 => ?_
  rw [hcl31]
  have hcA : cA = ta 2 := by
    obtain ⟨_, _, _, _, _, h4⟩ := (hK.2 2 (ta 2, .object RX0) rfl).2
    exact Option.some.inj (f1.symm.trans h4)
  subst hcA
  generalize hH1 : H.push ({ cls := ta 2, slots := Array.replicate n .null, vm := .none } : Cell) = H1
  have z1 : H1.size = H.size + 1 := by rw [← hH1, Array.size_push]
  have e1 : H1[H.size]? = some (arrV (ta 2) n (fun _ => .null)) := by rw [← hH1, Array.getElem?_push_size, ← arrV_new]
  have o1 : ∀ q : Nat, q < H.size → H1[q]? = H[q]? := fun q hq => by rw [← hH1, Array.getElem?_push, if_neg (Nat.ne_of_lt hq)]
  have K1 := K H.size
  rw [aup_self] at K1
  refine K1 H1 locs ls (hw.new (Nat.le_trans hE.1 hS.1) hno ?_ o1) ⟨Nat.le_trans hS.1 (by omega), fun x h1 h2 => (o1 x (Nat.lt_of_lt_of_le h1 hS.1)).trans (hS.2.1 x h1 h2), hS.2.2⟩ hl
  show H1[H.size]? = some (vp_cell _ _)
  rw [vp_cell_q]
  exact e1
theorem g_place (X : Cx D ta pl bs nL p s m args meth c cc Ts own rt) {index : Nat} (j : Nat) (hj : j < 4) (nm : String) (hnm : plN j = nm) (hlink : Cond.fieldLink own index RX3 nm "LLoopSorter$Place;" ∈ Ts) (hd : decode cc pc = .ok (.getstatic index, 3)) (K : WW D bs nL p l e R s m args below meth c Q al C cells slots (pc + 3) lv (.ref (pl j) :: st)) : WW D bs nL p l e R s m args below meth c Q al C cells slots pc lv st := fun H locs ls hw hS hl => va_gets X.1.1 X.1.2.1 (X.2.2.2.2.2.1 j hj) hS X.1.2.2.2.1 (by rw [hnm]; exact X.1.2.2.2.2 _ hlink) (fun _ h => h) hd (K H locs ls hw hS hl)
theorem g_objInit (X : Cx D ta pl bs nL p s m args meth c cc Ts own rt) {idx : Nat} {a : Nat} (h1 : Cond.methodLink own idx Lib.objectInit ∈ Ts) (h2 : Cond.instanceMethod Lib.objectInit ∈ Ts) (h3 : Cond.code Lib.objectInit ⟨#[0xb1]⟩ 1 none ∈ Ts) (hd : decode cc pc = .ok (.invokespecial idx, 3)) (hf : 1 ≤ R.frames) (hlo : (st.map fun v => v.category).sum + 12 ≤ R.locals) (K : WW D bs nL p l e R s m args below meth c Q al C cells slots (pc + 3) lv st) : WW D bs nL p l e R s m args below meth c Q al C cells slots pc lv (.ref a :: st) := fun H locs ls hw hS hl => W.objInit (g := F0 m pc ls (.ref a :: st)) X.1.1 X.1.2.1 X.1.2.2.2.1 (X.1.2.2.2.2 _ h1) (X.1.2.2.2.2 _ h2) (X.1.2.2.2.2 _ h3) rfl (by rw [X.1.2.2.1]; exact hl.1) rfl hd hf (by show 2 * 0 + _ + 12 ≤ _; omega) (K H locs ls hw hS hl)
/-- behind a call -/
theorem g_run {y : MethodName} {ws : List Cond} {rm : Room} {mc ms : Nat} {av : List Value} {post : Option Value → Ad → Wo → Prop} {H : Heap} {locs : List Loc} {ls : Array Slot} {st0 rest : List Value} (hE : En D ta pl bs s)
    (hr : va_Run p l e R s m args below meth c H locs cells slots mc ms (F0 m pc ls st0) rest (fun s0 oc t => (∃ (rv : Option Value) (al' : Ad) (C' : Wo), oc = .returned rv ∧ post rv al' C' ∧ wd D bs al' C' t.heap) ∧ va_F (fr bs) s0 t) (fr bs)) (hS : va_S (fr bs) s.heap H locs) (hl : lv_has ls nL lv)
    (K : ∀ (rv : Option Value) (al' : Ad) (C' : Wo), post rv al' C' → WW D bs nL p l e R s m args below meth c Q al' C' (cells + mc) (slots + ms) (pc + 3) lv (rv.toList ++ rest)) : W p l e R s m args below meth c H locs cells slots Q (F0 m pc ls st0) := by
  intro T hT X
  obtain ⟨v, st₀, t, T', L, h0, X', hL, e1, e2, ⟨⟨rv, al', C', hv, hp, hwd⟩, hz, hk⟩, st⟩ := hr T hT X
  cases hv
  rw [h0] at hz hk
  obtain ⟨t2, a1, b1⟩ := K v al' C' hp T'.heap (locs ++ L) ls (by rw [e1]; exact hwd)
    ⟨Nat.le_trans hS.1 (by rw [e1]; exact hz), fun q h1 h2 => by rw [e1, hk q (Nat.lt_of_lt_of_le h1 hS.1) h2]; exact hS.2.1 q h1 h2, fun q hq => by
      rcases List.mem_append.mp hq with h | h
      · exact hS.2.2 q h
      · exact hL q h⟩ hl T' rfl X'
  exact ⟨t2, st t2 a1, b1⟩
theorem g_blind {av : List Value} : FrameBlind (va_Pc av (fun U => wd D bs al C U.heap ∧ En D ta pl bs U)) := fun a U g mk q => by
  obtain ⟨q0, qw, qE⟩ := q
  exact ⟨q0, qw, qE.moved (U := U.calling g mk a) (Vm.Alike.refl U.vm) va_S.rf⟩
theorem g_callV (X : Cx D ta pl bs nL p s m args meth c cc Ts own rt) {Cn : String} {T : u_T} {N ci index : Nat} {y : MethodName} {bytes : ByteArray} {maxL n : Nat} {rt' : Option FieldType} {ws ws' : List Cond} {rm : Room} {mc ms : Nat} {post : Option Value → Ad → Wo → Prop} (k i : Nat) {fs : List Value} (As : List Value) (he : C k i = some (.inr (ci, fs))) (hc : vwCl[ci]? = some (Cn, T, N)) (hM : GM l D ta pl bs y ws rm mc ms (.ref (al k i) :: As) al C post) (hG : GoodIn Ts (wsV own index Cn y ws)) (hw0 : ws = Cond.code y bytes maxL rt' :: ws') (hrc : rm.cells = mc) (hrs : rm.slots = ms) (hy : y.cls = Cn ∧ y.cls ≠ "java/lang/invoke/MethodHandle" ∧ y.cls ≠ "java/lang/invoke/VarHandle" ∧ (parseMethodDescriptor y.desc).map (fun d => d.parameters.length) = some n) (hR : rm.frames + 1 ≤ R.frames ∧ 8 + (maxL + 11) + rm.locals ≤ R.locals) (hn : As.length = n) (hro : (st.map fun v => v.category).sum ≤ 8) (hd : decode cc pc = .ok (.invokevirtual index, 3)) (hf : cells + mc ≤ R.cells ∧ slots + ms ≤ R.slots) (stk : List Value) (hstk : stk = As.reverse ++ .ref (al k i) :: st)
    (K : ∀ (rv : Option Value) (al' : Ad) (C' : Wo), post rv al' C' → WW D bs nL p l e R s m args below meth c Q al' C' (cells + mc) (slots + ms) (pc + 3) lv (rv.toList ++ st)) : WW D bs nL p l e R s m args below meth c Q al C cells slots pc lv stk := by
  intro H locs ls hw hS hl
  subst hstk
  refine g_run (y := y) (ws := ws) (rm := rm) (av := .ref (al k i) :: As) X.2.2.2 (va_runV (As := As) (rest := st) X.1 hM (cwV n X.1.2.2.2.2 hG hw0 hrc hrs hy hR) ⟨g_blind, va_recv (q0 := 0) X.2.2.2.1 (va_P1 (hw.1 k i _ he).2) hc rfl, fun U hU hW => ⟨rfl, by rw [hU]; exact hw, X.2.2.2.moved hW.alike (by rw [hU]; exact hS)⟩⟩ rfl hn hl.1 rfl (lv_room hro) hd hf) hS hl K
theorem g_callS (X : Cx D ta pl bs nL p s m args meth c cc Ts own rt) {index : Nat} {y : MethodName} {bytes : ByteArray} {maxL n : Nat} {rt' : Option FieldType} {ws ws' : List Cond} {rm : Room} {mc ms : Nat} {post : Option Value → Ad → Wo → Prop} (As : List Value) (hM : GM l D ta pl bs y ws rm mc ms As al C post) (hG : GoodIn Ts (wsS own index y ws)) (hw0 : ws = Cond.code y bytes maxL rt' :: ws') (hrc : rm.cells = mc) (hrs : rm.slots = ms) (hy : y.cls = own ∧ y.cls ≠ "java/lang/invoke/MethodHandle" ∧ y.cls ≠ "java/lang/invoke/VarHandle" ∧ (parseMethodDescriptor y.desc).map (fun d => d.parameters.length) = some n) (hR : rm.frames + 1 ≤ R.frames ∧ 8 + (maxL + 11) + rm.locals ≤ R.locals) (hn : As.length = n) (hro : (st.map fun v => v.category).sum ≤ 8) (hd : decode cc pc = .ok (.invokestatic index, 3)) (hf : cells + mc ≤ R.cells ∧ slots + ms ≤ R.slots) (stk : List Value) (hstk : stk = As.reverse ++ st)
    (K : ∀ (rv : Option Value) (al' : Ad) (C' : Wo), post rv al' C' → WW D bs nL p l e R s m args below meth c Q al' C' (cells + mc) (slots + ms) (pc + 3) lv (rv.toList ++ st)) : WW D bs nL p l e R s m args below meth c Q al C cells slots pc lv stk := by
  intro H locs ls hw hS hl
  subst hstk
  refine g_run (y := y) (ws := ws) (rm := rm) (av := As) X.2.2.2 (va_runS (As := As) (rest := st) X.1 hM (cwS n X.1.2.2.2.2 hG hw0 hrc hrs hy hR) ⟨g_blind, fun U hU hW => ⟨rfl, by rw [hU]; exact hw, X.2.2.2.moved hW.alike (by rw [hU]; exact hS)⟩⟩ rfl hn hl.1 rfl (lv_room hro) hd hf) hS hl K
theorem g_callI (X : Cx D ta pl bs nL p s m args meth c cc Ts own rt) {index : Nat} {y : MethodName} {bytes : ByteArray} {maxL n : Nat} {ws ws' : List Cond} {rm : Room} {mc ms : Nat} {post : Option Value → Ad → Wo → Prop} (a : Nat) (As : List Value) (hM : GM l D ta pl bs y ws rm mc ms (.ref a :: As) al C post) (hG : GoodIn Ts ws) (hw0 : ws = Cond.code y bytes maxL none :: ws') (hrc : rm.cells = mc) (hrs : rm.slots = ms) (hini : Cond.initialized y.cls ∈ Ts) (hlk : Cond.methodLink own index y ∈ Ts) (hin : Cond.instanceMethod y ∈ Ts) (hy1 : y.name = "<init>") (hy : y.cls ≠ "java/lang/invoke/MethodHandle" ∧ y.cls ≠ "java/lang/invoke/VarHandle" ∧ (parseMethodDescriptor y.desc).map (fun d => d.parameters.length) = some n) (hR : rm.frames + 1 ≤ R.frames ∧ 8 + (maxL + 11) + rm.locals ≤ R.locals) (hn : As.length = n) (hro : (st.map fun v => v.category).sum ≤ 8) (hd : decode cc pc = .ok (.invokespecial index, 3)) (hf : cells + mc ≤ R.cells ∧ slots + ms ≤ R.slots) (stk : List Value) (hstk : stk = As.reverse ++ .ref a :: st)
    (K : ∀ (rv : Option Value) (al' : Ad) (C' : Wo), post rv al' C' → WW D bs nL p l e R s m args below meth c Q al' C' (cells + mc) (slots + ms) (pc + 3) lv (rv.toList ++ st)) : WW D bs nL p l e R s m args below meth c Q al C cells slots pc lv stk := by
  intro H locs ls hw hS hl
  subst hstk
  refine g_run (y := y) (ws := ws) (rm := rm) (av := .ref a :: As) X.2.2.2 (va_runI (As := As) (rest := st) X.1 hM (cwI n X.1.2.2.2.2 hG hw0 hrc hrs (X.1.2.2.2.2 _ hini) (X.1.2.2.2.2 _ hlk) (X.1.2.2.2.2 _ hin) hy1 hy hR) ⟨g_blind, fun U hU hW => ⟨rfl, by rw [hU]; exact hw, X.2.2.2.moved hW.alike (by rw [hU]; exact hS)⟩⟩ rfl hn hl.1 rfl (lv_room hro) hd hf) hS hl K
theorem g_callDV (X : Cx D ta pl bs nL p s m args meth c cc Ts own rt) {Cn : String} {T : u_T} {N ci index : Nat} {y : MethodName} {bytes : ByteArray} {maxL n : Nat} {rt' : Option FieldType} {ws ws' : List Cond} {rm : Room} {rv : Option Value} {C1 : Wo} (k i : Nat) {fs : List Value} (As : List Value) (he : C k i = some (.inr (ci, fs))) (hc : vwCl[ci]? = some (Cn, T, N)) (hM : GD l D ta pl bs y ws rm (.ref (al k i) :: As) al C rv C1) (hG : GoodIn Ts (wsV own index Cn y ws)) (hw0 : ws = Cond.code y bytes maxL rt' :: ws') (hrm : rm.cells = 0 ∧ rm.slots = 0) (hy : y.cls = Cn ∧ y.cls ≠ "java/lang/invoke/MethodHandle" ∧ y.cls ≠ "java/lang/invoke/VarHandle" ∧ (parseMethodDescriptor y.desc).map (fun d => d.parameters.length) = some n) (hR : rm.frames + 1 ≤ R.frames ∧ 8 + (maxL + 11) + rm.locals ≤ R.locals) (hn : As.length = n) (hro : (st.map fun v => v.category).sum ≤ 8) (hd : decode cc pc = .ok (.invokevirtual index, 3)) (hf : cells ≤ R.cells ∧ slots ≤ R.slots) (stk : List Value) (hstk : stk = As.reverse ++ .ref (al k i) :: st) (K : WW D bs nL p l e R s m args below meth c Q al C1 cells slots (pc + 3) lv (rv.toList ++ st)) : WW D bs nL p l e R s m args below meth c Q al C cells slots pc lv stk :=
  g_callV X k i As he hc hM hG hw0 hrm.1 hrm.2 hy hR hn hro hd hf stk hstk (fun r al' C' h => by obtain ⟨rfl, rfl, rfl⟩ := h; exact K)
theorem g_callDS (X : Cx D ta pl bs nL p s m args meth c cc Ts own rt) {index : Nat} {y : MethodName} {bytes : ByteArray} {maxL n : Nat} {rt' : Option FieldType} {ws ws' : List Cond} {rm : Room} {rv : Option Value} {C1 : Wo} (As : List Value) (hM : GD l D ta pl bs y ws rm As al C rv C1) (hG : GoodIn Ts (wsS own index y ws)) (hw0 : ws = Cond.code y bytes maxL rt' :: ws') (hrm : rm.cells = 0 ∧ rm.slots = 0) (hy : y.cls = own ∧ y.cls ≠ "java/lang/invoke/MethodHandle" ∧ y.cls ≠ "java/lang/invoke/VarHandle" ∧ (parseMethodDescriptor y.desc).map (fun d => d.parameters.length) = some n) (hR : rm.frames + 1 ≤ R.frames ∧ 8 + (maxL + 11) + rm.locals ≤ R.locals) (hn : As.length = n) (hro : (st.map fun v => v.category).sum ≤ 8) (hd : decode cc pc = .ok (.invokestatic index, 3)) (hf : cells ≤ R.cells ∧ slots ≤ R.slots) (stk : List Value) (hstk : stk = As.reverse ++ st) (K : WW D bs nL p l e R s m args below meth c Q al C1 cells slots (pc + 3) lv (rv.toList ++ st)) : WW D bs nL p l e R s m args below meth c Q al C cells slots pc lv stk :=
  g_callS X As hM hG hw0 hrm.1 hrm.2 hy hR hn hro hd hf stk hstk (fun r al' C' h => by obtain ⟨rfl, rfl, rfl⟩ := h; exact K)
theorem g_callDV1 (X : Cx D ta pl bs nL p s m args meth c cc Ts own rt) {Cn : String} {T : u_T} {N ci index : Nat} {y : MethodName} {bytes : ByteArray} {maxL n : Nat} {rt' : Option FieldType} {ws ws' : List Cond} {rm : Room} {v : Value} {C1 : Wo} (k i : Nat) {fs : List Value} (As : List Value) (he : C k i = some (.inr (ci, fs))) (hc : vwCl[ci]? = some (Cn, T, N)) (hM : GD l D ta pl bs y ws rm (.ref (al k i) :: As) al C (some v) C1) (hG : GoodIn Ts (wsV own index Cn y ws)) (hw0 : ws = Cond.code y bytes maxL rt' :: ws') (hrm : rm.cells = 0 ∧ rm.slots = 0) (hy : y.cls = Cn ∧ y.cls ≠ "java/lang/invoke/MethodHandle" ∧ y.cls ≠ "java/lang/invoke/VarHandle" ∧ (parseMethodDescriptor y.desc).map (fun d => d.parameters.length) = some n) (hR : rm.frames + 1 ≤ R.frames ∧ 8 + (maxL + 11) + rm.locals ≤ R.locals) (hn : As.length = n) (hro : (st.map fun v => v.category).sum ≤ 8) (hd : decode cc pc = .ok (.invokevirtual index, 3)) (hf : cells ≤ R.cells ∧ slots ≤ R.slots) (stk : List Value) (hstk : stk = As.reverse ++ .ref (al k i) :: st) (K : WW D bs nL p l e R s m args below meth c Q al C1 cells slots (pc + 3) lv (v :: st)) : WW D bs nL p l e R s m args below meth c Q al C cells slots pc lv stk :=
  g_callDV X k i As he hc hM hG hw0 hrm hy hR hn hro hd hf stk hstk K
theorem g_callDV0 (X : Cx D ta pl bs nL p s m args meth c cc Ts own rt) {Cn : String} {T : u_T} {N ci index : Nat} {y : MethodName} {bytes : ByteArray} {maxL n : Nat} {rt' : Option FieldType} {ws ws' : List Cond} {rm : Room} {C1 : Wo} (k i : Nat) {fs : List Value} (As : List Value) (he : C k i = some (.inr (ci, fs))) (hc : vwCl[ci]? = some (Cn, T, N)) (hM : GD l D ta pl bs y ws rm (.ref (al k i) :: As) al C none C1) (hG : GoodIn Ts (wsV own index Cn y ws)) (hw0 : ws = Cond.code y bytes maxL rt' :: ws') (hrm : rm.cells = 0 ∧ rm.slots = 0) (hy : y.cls = Cn ∧ y.cls ≠ "java/lang/invoke/MethodHandle" ∧ y.cls ≠ "java/lang/invoke/VarHandle" ∧ (parseMethodDescriptor y.desc).map (fun d => d.parameters.length) = some n) (hR : rm.frames + 1 ≤ R.frames ∧ 8 + (maxL + 11) + rm.locals ≤ R.locals) (hn : As.length = n) (hro : (st.map fun v => v.category).sum ≤ 8) (hd : decode cc pc = .ok (.invokevirtual index, 3)) (hf : cells ≤ R.cells ∧ slots ≤ R.slots) (stk : List Value) (hstk : stk = As.reverse ++ .ref (al k i) :: st) (K : WW D bs nL p l e R s m args below meth c Q al C1 cells slots (pc + 3) lv st) : WW D bs nL p l e R s m args below meth c Q al C cells slots pc lv stk :=
  g_callDV X k i As he hc hM hG hw0 hrm hy hR hn hro hd hf stk hstk K
theorem g_callDS1 (X : Cx D ta pl bs nL p s m args meth c cc Ts own rt) {index : Nat} {y : MethodName} {bytes : ByteArray} {maxL n : Nat} {rt' : Option FieldType} {ws ws' : List Cond} {rm : Room} {v : Value} {C1 : Wo} (As : List Value) (hM : GD l D ta pl bs y ws rm As al C (some v) C1) (hG : GoodIn Ts (wsS own index y ws)) (hw0 : ws = Cond.code y bytes maxL rt' :: ws') (hrm : rm.cells = 0 ∧ rm.slots = 0) (hy : y.cls = own ∧ y.cls ≠ "java/lang/invoke/MethodHandle" ∧ y.cls ≠ "java/lang/invoke/VarHandle" ∧ (parseMethodDescriptor y.desc).map (fun d => d.parameters.length) = some n) (hR : rm.frames + 1 ≤ R.frames ∧ 8 + (maxL + 11) + rm.locals ≤ R.locals) (hn : As.length = n) (hro : (st.map fun v => v.category).sum ≤ 8) (hd : decode cc pc = .ok (.invokestatic index, 3)) (hf : cells ≤ R.cells ∧ slots ≤ R.slots) (stk : List Value) (hstk : stk = As.reverse ++ st) (K : WW D bs nL p l e R s m args below meth c Q al C1 cells slots (pc + 3) lv (v :: st)) : WW D bs nL p l e R s m args below meth c Q al C cells slots pc lv stk :=
  g_callDS X As hM hG hw0 hrm hy hR hn hro hd hf stk hstk K
theorem g_callDS0 (X : Cx D ta pl bs nL p s m args meth c cc Ts own rt) {index : Nat} {y : MethodName} {bytes : ByteArray} {maxL n : Nat} {rt' : Option FieldType} {ws ws' : List Cond} {rm : Room} {C1 : Wo} (As : List Value) (hM : GD l D ta pl bs y ws rm As al C none C1) (hG : GoodIn Ts (wsS own index y ws)) (hw0 : ws = Cond.code y bytes maxL rt' :: ws') (hrm : rm.cells = 0 ∧ rm.slots = 0) (hy : y.cls = own ∧ y.cls ≠ "java/lang/invoke/MethodHandle" ∧ y.cls ≠ "java/lang/invoke/VarHandle" ∧ (parseMethodDescriptor y.desc).map (fun d => d.parameters.length) = some n) (hR : rm.frames + 1 ≤ R.frames ∧ 8 + (maxL + 11) + rm.locals ≤ R.locals) (hn : As.length = n) (hro : (st.map fun v => v.category).sum ≤ 8) (hd : decode cc pc = .ok (.invokestatic index, 3)) (hf : cells ≤ R.cells ∧ slots ≤ R.slots) (stk : List Value) (hstk : stk = As.reverse ++ st) (K : WW D bs nL p l e R s m args below meth c Q al C1 cells slots (pc + 3) lv st) : WW D bs nL p l e R s m args below meth c Q al C cells slots pc lv stk :=
  g_callDS X As hM hG hw0 hrm hy hR hn hro hd hf stk hstk K
theorem g_iret (X : Cx D ta pl bs nL p s m args meth c cc Ts own rt) {v : Int32} {post : Option Value → Ad → Wo → Prop} (hr : rt = some .int) (hd : decode cc pc = .ok (.ireturn, 1)) (hp : post (some (.int v)) al C) : WW D bs nL p l e R s m args below meth c (QQ D bs below args s cells slots post) al C cells slots pc lv [.int v] :=
  fun H locs ls hw hS hl => W.iret X.1.1 X.1.2.1 (X.2.1.trans hr) (fun t ht _ => ⟨⟨_, al, C, rfl, hp, by rw [ht]; exact hw⟩, hS.F ht⟩) hS.2.2 hd X.2.2.1
theorem g_lret (X : Cx D ta pl bs nL p s m args meth c cc Ts own rt) {v : Int64} {post : Option Value → Ad → Wo → Prop} (hr : rt = some .long) (hd : decode cc pc = .ok (.lreturn, 1)) (hp : post (some (.long v)) al C) : WW D bs nL p l e R s m args below meth c (QQ D bs below args s cells slots post) al C cells slots pc lv [.long v] :=
  fun H locs ls hw hS hl => W.lret X.1.1 X.1.2.1 (X.2.1.trans hr) (fun t ht _ => ⟨⟨_, al, C, rfl, hp, by rw [ht]; exact hw⟩, hS.F ht⟩) hS.2.2 hd X.2.2.1
theorem g_zret (X : Cx D ta pl bs nL p s m args meth c cc Ts own rt) {v : Int32} {post : Option Value → Ad → Wo → Prop} (hr : rt = some .boolean) (hd : decode cc pc = .ok (.ireturn, 1)) (hn : narrow .boolean (.int v) = .int v) (hp : post (some (.int v)) al C) : WW D bs nL p l e R s m args below meth c (QQ D bs below args s cells slots post) al C cells slots pc lv [.int v] :=
  fun H locs ls hw hS hl => W.zret X.1.1 X.1.2.1 (X.2.1.trans hr) hn (fun t ht _ => ⟨⟨_, al, C, rfl, hp, by rw [ht]; exact hw⟩, hS.F ht⟩) hS.2.2 hd X.2.2.1
theorem g_vret (X : Cx D ta pl bs nL p s m args meth c cc Ts own rt) {post : Option Value → Ad → Wo → Prop} (hr : rt = none) (hd : decode cc pc = .ok (.return_, 1)) (hp : post none al C) : WW D bs nL p l e R s m args below meth c (QQ D bs below args s cells slots post) al C cells slots pc lv [] :=
  fun H locs ls hw hS hl => W.vret X.1.1 X.1.2.1 (X.2.1.trans hr) (fun t ht _ => ⟨⟨_, al, C, rfl, hp, by rw [ht]; exact hw⟩, hS.F ht⟩) hS.2.2 hd X.2.2.1
theorem g_aret (X : Cx D ta pl bs nL p s m args meth c cc Ts own rt) {v : Value} {ty : FieldType} {post : Option Value → Ad → Wo → Prop} (hr : rt = some ty) (hrt : ∃ n, ty = .object n) (hv : v = .null ∨ ∃ a, v = .ref a) (hd : decode cc pc = .ok (.areturn, 1)) (hp : post (some v) al C) : WW D bs nL p l e R s m args below meth c (QQ D bs below args s cells slots post) al C cells slots pc lv [v] :=
  fun H locs ls hw hS hl => W.aret X.1.1 X.1.2.1 (X.2.1.trans hr) (Or.inl hrt) hv (fun t ht _ => ⟨⟨_, al, C, rfl, hp, by rw [ht]; exact hw⟩, hS.F ht⟩) hS.2.2 hd X.2.2.1
theorem g_widen {k n : Nat} (h1 : cells ≤ k) (h2 : slots ≤ n) (K : WW D bs nL p l e R s m args below meth c Q al C k n pc lv st) : WW D bs nL p l e R s m args below meth c Q al C cells slots pc lv st := fun H locs ls hw hS hl => W.widen h1 h2 (K H locs ls hw hS hl)
theorem g_lv {lv' : List (Nat × Value)} (ks : List Nat) (h : lv_pick lv ks = lv') (K : WW D bs nL p l e R s m args below meth c Q al C cells slots pc lv' st) : WW D bs nL p l e R s m args below meth c Q al C cells slots pc lv st := fun H locs ls hw hS hl => K H locs ls hw hS (lv_sub hl ks h)
theorem g_wo {C1 : Wo} (h : C = C1) (K : WW D bs nL p l e R s m args below meth c Q al C1 cells slots pc lv st) : WW D bs nL p l e R s m args below meth c Q al C cells slots pc lv st := h ▸ K
end GB
def bN (P : Prop) [Decidable P] : Nat := if P then 1 else 0
theorem bN_eq0 {P : Prop} [Decidable P] : nI (bN P) = 0 ↔ ¬ P := by
  unfold bN; by_cases h : P
  · simp [h, show ¬ nI 1 = 0 by decide]
  · simp [h, show nI 0 = 0 by decide]
theorem bN_nar {P : Prop} [Decidable P] : narrow .boolean (.int (nI (bN P))) = .int (nI (bN P)) := by
  unfold bN; by_cases h : P
  · simp only [h, if_true]; decide
  · simp only [h, if_false]; decide
theorem n0_eq {a : Nat} (h : a < 2 ^ 31) : nI a = 0 ↔ a = 0 := by
  rw [← nI_0, nI_eq h (by decide)]
theorem n0_lt {a : Nat} (h : a < 2 ^ 31) : nI a < 0 ↔ False := ⟨fun q => nI_pos h q, False.elim⟩
theorem n0_ge {a : Nat} (h : a < 2 ^ 31) : 0 ≤ nI a ↔ True := ⟨fun _ => trivial, fun _ => nI_pos' h⟩
theorem n0_le {a : Nat} (h : a < 2 ^ 31) : nI a ≤ 0 ↔ a = 0 := by
  rw [← nI_0, nI_leI h (by decide)]; omega
theorem n0_gt {a : Nat} (h : a < 2 ^ 31) : 0 < nI a ↔ 0 < a := by
  rw [← nI_0, nI_ltI (by decide) h]
