section GMa
variable {p : Program} {l : Launch} {e : Env} {R : Room} {s : State} {m : MethodId} {args : Array Value} {below : List Frame} {meth : Method} {c : Code} {Q : State → Prop}
variable {D : va_G} {ta : Nat → ClassId} {pl : Nat → Nat} {bs nL : Nat} {cc : ByteArray} {Ts : List Cond} {own : String} {rt : Option FieldType}
variable {al : Ad} {C : Wo} {cells slots pc : Nat} {lv : List (Nat × Value)} {st : List Value}
theorem g_mmax (X : Cx D ta pl bs nL p s m args meth c cc Ts own rt) {index : Nat} {x y v : Int32} (h1 : Cond.methodLink own index Lib.Math.max.name ∈ Ts) (h2 : Cond.static Lib.Math.max.name ∈ Ts) (h3 : Cond.initialized "java/lang/Math" ∈ Ts) (h4 : Cond.code Lib.Math.max.name Lib.Math.max.code 2 (some .int) ∈ Ts) (hf : 1 ≤ R.frames) (hlo : (st.map fun v => v.category).sum + 13 ≤ R.locals) (hc : cells ≤ R.cells ∧ slots ≤ R.slots) (hd : decode cc pc = .ok (.invokestatic index, 3)) (hv : (if x < y then y else x) = v) (K : WW D bs nL p l e R s m args below meth c Q al C cells slots (pc + 3) lv (.int v :: st)) : WW D bs nL p l e R s m args below meth c Q al C cells slots pc lv (.int y :: .int x :: st) :=
  fun H locs ls hw hS hl => va_mmax X.1.1 X.1.2.1 (X.1.2.2.1.trans hl.1.symm) X.1.2.2.2.1 (X.1.2.2.2.2 _ h1) (X.1.2.2.2.2 _ h2) (X.1.2.2.2.2 _ h3) (X.1.2.2.2.2 _ h4) hf hlo hc.1 hc.2 hd (by rw [hv]; exact K H locs ls hw hS hl)
theorem g_mmin (X : Cx D ta pl bs nL p s m args meth c cc Ts own rt) {index : Nat} {x y v : Int32} (h1 : Cond.methodLink own index Lib.Math.min.name ∈ Ts) (h2 : Cond.static Lib.Math.min.name ∈ Ts) (h3 : Cond.initialized "java/lang/Math" ∈ Ts) (h4 : Cond.code Lib.Math.min.name Lib.Math.min.code 2 (some .int) ∈ Ts) (hf : 1 ≤ R.frames) (hlo : (st.map fun v => v.category).sum + 13 ≤ R.locals) (hc : cells ≤ R.cells ∧ slots ≤ R.slots) (hd : decode cc pc = .ok (.invokestatic index, 3)) (hv : (if y < x then y else x) = v) (K : WW D bs nL p l e R s m args below meth c Q al C cells slots (pc + 3) lv (.int v :: st)) : WW D bs nL p l e R s m args below meth c Q al C cells slots pc lv (.int y :: .int x :: st) :=
  fun H locs ls hw hS hl => va_mmin X.1.1 X.1.2.1 (X.1.2.2.1.trans hl.1.symm) X.1.2.2.2.1 (X.1.2.2.2.2 _ h1) (X.1.2.2.2.2 _ h2) (X.1.2.2.2.2 _ h3) (X.1.2.2.2.2 _ h4) hf hlo hc.1 hc.2 hd (by rw [hv]; exact K H locs ls hw hS hl)
end GMa
theorem wup_wup {C : Wo} {k i : Nat} {e e2 : va_E} : wup (wup C k i e) k i e2 = wup C k i e2 := by
  funext k' i'; by_cases h : k' = k ∧ i' = i <;> simp [wup, h]
theorem wup_3 {C : Wo} {k i k2 i2 : Nat} {e e2 x : va_E} (hk : k2 ≠ k) : wup (wup (wup C k i e) k2 i2 x) k i e2 = wup (wup C k2 i2 x) k i e2 := by
  funext k' i'; by_cases h : k' = k ∧ i' = i
  · simp [wup, h]
  · by_cases h2 : k' = k2 ∧ i' = i2 <;> simp [wup, h, h2]
def cl (x : Int32) (n : Nat) : Nat := if x < nI 1 then 1 else if nI n < x then n else x.toNatClampNeg
theorem cl_cases (x : Int32) {n : Nat} (h1 : 1 ≤ n) (h2 : n ≤ 200) : (x < nI 1 ∧ cl x n = 1) ∨ (¬ x < nI 1 ∧ nI n < x ∧ cl x n = n) ∨ (x = nI (cl x n) ∧ ¬ x < nI 1 ∧ ¬ nI n < x ∧ 1 ≤ cl x n ∧ cl x n ≤ n) := by
  by_cases a : x < nI 1
  · left; exact ⟨a, if_pos a⟩
  · by_cases b : nI n < x
    · right; left; exact ⟨a, b, by rw [cl, if_neg a, if_pos b]⟩
    · right; right
      have e1 : cl x n = x.toNatClampNeg := by rw [cl, if_neg a, if_neg b]
      have a' := a; have b' := b
      rw [Int32.lt_iff_toInt_lt, nI_toInt (by decide)] at a'
      rw [Int32.lt_iff_toInt_lt, nI_toInt (by omega)] at b'
      obtain ⟨j, hj, rfl⟩ := nI_of (x := x) (by rw [Int32.lt_iff_toInt_lt, Int32.toInt_zero]; omega)
      rw [nI_toInt hj] at a' b'
      rw [e1, nI_clamp hj]
      exact ⟨rfl, a, b, by omega, by omega⟩
theorem cl_in (x : Int32) {n : Nat} (h1 : 1 ≤ n) (h2 : n ≤ 200) : 1 ≤ cl x n ∧ cl x n ≤ n := by
  rcases cl_cases x h1 h2 with ⟨-, h⟩ | ⟨-, -, h⟩ | ⟨-, -, -, h, h'⟩ <;> omega
theorem cl_mm (x : Int32) {n : Nat} (h1 : 1 ≤ n) (h2 : n ≤ 200) : (if nI 1 < (if x < nI n then x else nI n) then (if x < nI n then x else nI n) else nI 1) = nI (cl x n) := by
  have hn : (nI n).toInt = n := nI_toInt (by omega)
  have h1' : (nI 1).toInt = 1 := nI_toInt (by decide)
  rcases cl_cases x h1 h2 with ⟨a, h⟩ | ⟨a, b, h⟩ | ⟨e, a, b, h, h'⟩
  · rw [h]
    have : ¬ nI 1 < (if x < nI n then x else nI n) := by
      rw [Int32.lt_iff_toInt_lt] at a ⊢
      split
      · omega
      · rename_i q; rw [Int32.lt_iff_toInt_lt] at q; omega
    rw [if_neg this]
  · rw [h]
    have e1 : (if x < nI n then x else nI n) = nI n := if_neg (by rw [Int32.lt_iff_toInt_lt] at b ⊢; omega)
    rw [e1]
    split
    · rfl
    · rename_i q; rw [nI_ltI (by decide) (by omega)] at q; rw [show n = 1 by omega]
  · have e1 : (if x < nI n then x else nI n) = x := by
      split
      · rfl
      · rename_i q
        rw [Int32.lt_iff_toInt_lt] at q b
        exact (Int32.toInt_inj.mp (by omega)).symm
    rw [e1]
    split
    · exact e
    · rename_i q
      rw [Int32.lt_iff_toInt_lt] at q a
      have : x = nI 1 := Int32.toInt_inj.mp (by omega)
      rw [← this]; exact e
set_option maxRecDepth 100000 in
set_option maxHeartbeats 4000000 in
theorem c_bring {l : Launch} {D : va_G} {ta : Nat → ClassId} {pl : Nat → Nat} {bs : Nat} {al : Ad} {C : Wo} (x : Int32) (n : Nat) (h1 : 1 ≤ n) (h2 : n ≤ 200) : GD l D ta pl bs yX4_bringWithin wsX4_bringWithin (rmF 1 16) [.int x, .int (nI n)] al C (some (.int (nI (cl x n)))) C := by
  refine GM.of (by decide) rfl (Nat.le_of_ble_eq_true rfl) ?_
  intro p e s m args below meth c X hnm
  refine g_lv (lv' := [(0, .int x), (1, .int (nI n))]) [0, 1] rfl ?_
  refine g_iconst X (v := nI 1) dX4_bringWithin_0 (by decide) ?_
  refine g_iload_n X 1 dX4_bringWithin_1 rfl rfl ?_
  refine g_iload_n X 0 dX4_bringWithin_2 rfl rfl ?_
  refine g_mmin X (by decide +kernel) (by decide +kernel) (by decide +kernel) (by decide +kernel) (by decide) (Nat.le_of_ble_eq_true rfl) ⟨Nat.zero_le _, Nat.zero_le _⟩ dX4_bringWithin_3 rfl ?_
  refine g_mmax X (by decide +kernel) (by decide +kernel) (by decide +kernel) (by decide +kernel) (by decide) (Nat.le_of_ble_eq_true rfl) ⟨Nat.zero_le _, Nat.zero_le _⟩ dX4_bringWithin_6 (cl_mm x h1 h2) ?_
  exact g_iret X rfl dX4_bringWithin_9 ⟨rfl, rfl, rfl⟩
set_option maxRecDepth 100000 in
set_option maxHeartbeats 4000000 in
theorem c_Item {l : Launch} {D : va_G} {ta : Nat → ClassId} {pl : Nat → Nat} {bs : Nat} {al : Ad} {C : Wo} (k i : Nat) (a b d : Int32) (he : C k i = some (.inr (3, [.int (nI 0), .int (nI 0), .int (nI 0), .null, .int (nI 0), .int (nI 0), .int (nI 0), .int (nI 0)]))) : GD l D ta pl bs yX2_init wsX2_init (rmF 1 12) [.ref (al k i), .int a, .int b, .int d] al C none (wup C k i (.inr (3, [.int a, .int b, .int d, .ref (pl 0), .int (nI 0), .int (nI 0), .int (nI 0), .int (nI 0)]))) := by
  refine GM.of (by decide) rfl (Nat.le_of_ble_eq_true rfl) ?_
  intro p e s m args below meth c X hnm
  have hiX2 : ∀ w ∈ u_ws RX2 TX2 8, w ∈ wsX2_init := by decide +kernel
  refine g_lv (lv' := [(0, .ref (al k i)), (1, .int a), (2, .int b), (3, .int d)]) [0, 1, 2, 3] rfl ?_
  refine g_aload_n X 0 dX2_init_0 rfl rfl ?_
  refine g_objInit X (by decide +kernel) (by decide +kernel) (by decide +kernel) dX2_init_1 (by decide) (Nat.le_of_ble_eq_true rfl) ?_
  refine g_aload_n X 0 dX2_init_4 rfl rfl ?_
  refine g_iload_n X 1 dX2_init_5 rfl rfl ?_
  refine g_putF X tyX2 tyX2_ok nmX2 k i he rfl 0 (by decide) hiX2 (by decide +kernel) rfl rfl hnm rfl (ty := .int) (by decide +kernel) rfl rfl (Nat.le_of_ble_eq_true rfl) _ rfl dX2_init_6 ?_
  refine g_aload_n X 0 dX2_init_9 rfl rfl ?_
  refine g_iload_n X 2 dX2_init_10 rfl rfl ?_
  refine g_putF X tyX2 tyX2_ok nmX2 k i wup_self rfl 1 (by decide) hiX2 (by decide +kernel) rfl rfl hnm rfl (ty := .int) (by decide +kernel) rfl rfl (Nat.le_of_ble_eq_true rfl) _ wup_wup dX2_init_11 ?_
  refine g_aload_n X 0 dX2_init_14 rfl rfl ?_
  refine g_iload_n X 3 dX2_init_15 rfl rfl ?_
  refine g_putF X tyX2 tyX2_ok nmX2 k i wup_self rfl 2 (by decide) hiX2 (by decide +kernel) rfl rfl hnm rfl (ty := .int) (by decide +kernel) rfl rfl (Nat.le_of_ble_eq_true rfl) _ wup_wup dX2_init_16 ?_
  refine g_aload_n X 0 dX2_init_19 rfl rfl ?_
  refine g_place X 0 (by decide) "WAITING" rfl (by decide +kernel) dX2_init_20 ?_
  refine g_put X tyX2 tyX2_ok nmX2 k i wup_self rfl 3 (by decide) hiX2 (by decide +kernel) rfl rfl (ty := .object "LoopSorter$Place") (by decide +kernel) rfl rfl (Nat.le_of_ble_eq_true rfl) _ wup_wup dX2_init_23 ?_
  exact g_vret X rfl dX2_init_26 ⟨rfl, rfl, rfl⟩
set_option maxRecDepth 100000 in
set_option maxHeartbeats 4000000 in
theorem c_Chute {l : Launch} {D : va_G} {ta : Nat → ClassId} {pl : Nat → Nat} {bs : Nat} {al : Ad} {C : Wo} (k i : Nat) (a : Int32) (b : Nat) (hb : b = 0 ∨ b = 1) (he : C k i = some (.inr (1, [.int (nI 0), .int (nI 0), .int (nI 0), .int (nI 0)]))) : GD l D ta pl bs yX0_init wsX0_init (rmF 1 12) [.ref (al k i), .int a, .int (nI b)] al C none (wup C k i (.inr (1, [.int a, .int (nI b), .int (nI 0), .int (nI 0)]))) := by
  refine GM.of (by decide) rfl (Nat.le_of_ble_eq_true rfl) ?_
  intro p e s m args below meth c X hnm
  have hiX0 : ∀ w ∈ u_ws RX0 TX0 4, w ∈ wsX0_init := by decide +kernel
  refine g_lv (lv' := [(0, .ref (al k i)), (1, .int a), (2, .int (nI b))]) [0, 1, 2] rfl ?_
  refine g_aload_n X 0 dX0_init_0 rfl rfl ?_
  refine g_objInit X (by decide +kernel) (by decide +kernel) (by decide +kernel) dX0_init_1 (by decide) (Nat.le_of_ble_eq_true rfl) ?_
  refine g_aload_n X 0 dX0_init_4 rfl rfl ?_
  refine g_iload_n X 1 dX0_init_5 rfl rfl ?_
  refine g_putF X tyX0 tyX0_ok nmX0 k i he rfl 0 (by decide) hiX0 (by decide +kernel) rfl rfl hnm rfl (ty := .int) (by decide +kernel) rfl rfl (Nat.le_of_ble_eq_true rfl) _ rfl dX0_init_6 ?_
  refine g_aload_n X 0 dX0_init_9 rfl rfl ?_
  refine g_iload_n X 2 dX0_init_10 rfl rfl ?_
  refine g_putF X tyX0 tyX0_ok nmX0 k i wup_self rfl 1 (by decide) hiX0 (by decide +kernel) rfl rfl hnm rfl (ty := .boolean) (by decide +kernel) (by rcases hb with rfl | rfl <;> decide) (by rcases hb with rfl | rfl <;> decide) (Nat.le_of_ble_eq_true rfl) _ wup_wup dX0_init_11 ?_
  exact g_vret X rfl dX0_init_14 ⟨rfl, rfl, rfl⟩
set_option maxRecDepth 100000 in
set_option maxHeartbeats 4000000 in
theorem c_Induct {l : Launch} {D : va_G} {ta : Nat → ClassId} {pl : Nat → Nat} {bs : Nat} {al : Ad} {C : Wo} (i : Nat) (a : Int32) (hno : C 4 i = none) (he : C 3 i = some (.inr (2, [.int (nI 0), .null, .int (nI 0), .long (lN 0), .int (nI 0)]))) : GM l D ta pl bs yX1_init wsX1_init { frames := 1, cells := 1, slots := 8, locals := 12 } 1 8 [.ref (al 3 i), .int a] al C (fun r al' C' => r = none ∧ ∃ q, al' = aup al 4 i q ∧ C' = wup (wup C 4 i (.inl (ta 0, 8, .inr (.inr (.inr (.inr (fun _ => none))))))) 3 i (.inr (2, [.int a, .ref (aup al 4 i q 4 i), .int (nI 0), .long (lN 0), .int (nI 0)]))) := by
  refine GM.of (by decide) rfl (Nat.le_of_ble_eq_true rfl) ?_
  intro p e s m args below meth c X hnm
  have hiX1 : ∀ w ∈ u_ws RX1 TX1 5, w ∈ wsX1_init := by decide +kernel
  refine g_lv (lv' := [(0, .ref (al 3 i)), (1, .int a)]) [0, 1] rfl ?_
  refine g_aload_n X 0 dX1_init_0 rfl rfl ?_
  refine g_objInit X (by decide +kernel) (by decide +kernel) (by decide +kernel) dX1_init_1 (by decide) (Nat.le_of_ble_eq_true rfl) ?_
  refine g_aload_n X 0 dX1_init_4 rfl rfl ?_
  refine g_iload_n X 1 dX1_init_5 rfl rfl ?_
  refine g_putF X tyX1 tyX1_ok nmX1 3 i he rfl 0 (by decide) hiX1 (by decide +kernel) rfl rfl hnm rfl (ty := .int) (by decide +kernel) rfl rfl (Nat.le_of_ble_eq_true rfl) _ rfl dX1_init_6 ?_
  refine g_aload_n X 0 dX1_init_9 rfl rfl ?_
  refine g_bipush X (v := nI 8) dX1_init_10 (by decide) ?_
  refine g_newq0 X 4 i (by rw [wup_ne (by omega)]; exact hno) (by decide +kernel) 8 (by decide) (by decide) (by decide) dX1_init_12 (fun q => ?_)
  refine g_putF X tyX1 tyX1_ok nmX1 3 i (fs := [.int a, .null, .int (nI 0), .long (lN 0), .int (nI 0)]) (by rw [wup_ne (by omega), wup_self]; rfl) rfl 1 (by decide) hiX1 (by decide +kernel) rfl rfl hnm rfl (ty := .array (.object "LoopSorter$Item")) (by decide +kernel) rfl rfl (Nat.le_of_ble_eq_true rfl) _ (wup_3 (by decide)) dX1_init_15 ?_
  exact g_vret X rfl dX1_init_18 ⟨rfl, q, rfl, rfl⟩
