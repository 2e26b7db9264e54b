/-! the law's loop (the first rows are the kit's skeleton) -/
def R_law : String := "LoopSorterLaw"
def lw_P (b : Addr) (xs : List Int32) (args : Array Value) (s : State) : Prop := args = #[.ref b] ∧ s.IntsAt b xs ∧ xs.length ≤ 2050 ∧ (Jvm.Cond.and given_1 narrow_1).before args s = true
def lw_Q (_ : Array Value) (s : State) (o : Outcome) (t : State) : Prop := o = .returned (some (.int 1)) ∧ Framed s o t [] 601024 7293000
def lw_Z (below : List Frame) (a : Array Value) (s : State) : State → Prop := fun t => ∃ o, t.status = .running ∧ Ended t below o ∧ lw_Q a s o t
/-- the law's own end, with 1 on the stack, nothing written that was there before, its room as the claim has it -/
theorem lw_ret {p : Program} {l : Launch} {e : Env} {s : State} {m : MethodId} {below : List Frame} {meth : Method} {c : Code} {b : Nat} (hx : p.tables.exec = Jvm.exec) (hb : c.code = code) (hr : meth.sig.returnType = ret) (hlocks : meth.locks = false) {pc : Nat} {H : Heap} {ls : Array Slot} (hdg : decode code pc = .ok (.ireturn, 1)) : W p l e room_1 s m #[Value.ref b] below meth c H [] 601024 7293000 (lw_Z below #[Value.ref b] s) (F0 m pc ls [.int 1]) := by
  intro T hT X
  obtain ⟨fs, hret, hrun, hended, hW, hframe⟩ := X.leave (v := some (.int 1)) (hlocks := hlocks) (fun h => by rw [hr] at h; cases h)
  have hmeth' : T.vm.method? m = some meth := X.method'
  refine ⟨T.setFrames fs, ?_, .returned (some (.int 1)), hrun, hended, rfl, ⟨_, rfl⟩, hW, hframe⟩
  jvm_step X.here [X.here.top, hx, hb, hdg, hmeth', hr, ret, narrow_b1]
  (try refine ⟨rfl, ?_⟩); (try refine ⟨rfl, ?_⟩)
  first | (intro acts; rw [hret _ acts rfl rfl rfl]) | rw [hret _ _ rfl rfl rfl]
  exact Steps.refl _
/-- what holds at the law's entry: the machine, the code, the tables' words (any of lw_tbl by 'hts w (by decide +kernel)'), the script of L ints xs at the cell b, what the Statement gives of the start (any of its parts by flat_of_before) -/
def lw_At (p : Program) (s : State) (m : MethodId) (meth : Method) (c : Code) (b L : Nat) (xs : Nat → Int32) : Prop :=
  p.tables.exec = Jvm.exec ∧ c.code = code ∧ meth.sig.returnType = ret ∧ c.maxLocals = 7 ∧ s.vm.findClass R_law = some m.cls ∧ (∀ w ∈ lw_tbl, w.before #[Value.ref b] s = true) ∧ va_X b L xs s s.heap ∧ b < s.heap.size ∧ meth.locks = false ∧ (Jvm.Cond.and given_1 narrow_1).before #[Value.ref b] s = true

theorem and15 (x : Int32) : ∃ j, j < 16 ∧ x &&& nI 15 = nI j := by
  refine ⟨(x &&& nI 15).toBitVec.toNat, ?_, ?_⟩
  · have h1 : (x &&& nI 15).toBitVec = x.toBitVec &&& 15#32 := rfl
    rw [h1, BitVec.toNat_and]
    exact Nat.lt_of_le_of_lt Nat.and_le_right (by decide)
  · refine Int32.toBitVec_inj.mp ?_
    show _ = (Int32.ofNat _).toBitVec
    rw [Int32.toBitVec_ofNat']
    refine BitVec.eq_of_toNat_eq ?_
    rw [BitVec.toNat_ofNat]
    exact (Nat.mod_eq_of_lt (BitVec.isLt _)).symm
section LOOP
variable {p : Program} {l : Launch} {e : Env} {s : State} {m : MethodId} {args : Array Value} {below : List Frame} {meth : Method} {c : Code} {Q : State → Prop}
variable {D : va_G} {ta : Nat → ClassId} {pl : Nat → Nat} {bs : Nat} {rt : Option FieldType}
variable {al : Ad} {C : Wo} {cells slots pc : Nat} {lv : List (Nat × Value)} {st0 : List Value}
variable {b L ax am ao i : Nat} {xs : Nat → Int32} {f : Nat → Int64} {u v : St}
set_option maxRecDepth 100000 in
set_option maxHeartbeats 4000000 in
theorem law_body (X : Cx D ta pl bs 7 p s m args meth c cL_law wsLL RL rt) (hX : ScE b L xs bs s) (hT : ThE bs s) (hfl : l.flags = flags0) (hI : Iv u) (hS : Sim u v) (h0 : al 0 0 = ax) (h10 : al 10 0 = am) (h26 : al 26 0 = ao) (hi : i + 4 ≤ L) (hL : L ≤ 2050) (hc : cells + 1 ≤ 601024) (hs : slots + 8 ≤ 7293000) (K : LK D ta pl bs p l e s m args below meth c Q b ax am ao i (cells + 1) (slots + 8)) : WW D bs 7 p l e room_1 s m args below meth c Q al (LW ta pl al f u v) cells slots 52 (lvL b ax am ao i) [] := by
  refine g_aload_n X 0 dL_law_52 rfl rfl ?_
  refine g_iload X 4 dL_law_53 rfl ?_
  refine g_sld X hX i (by omega) (by omega) dL_law_55 ?_
  refine g_bipush X (v := nI 15) dL_law_56 (by decide) ?_
  obtain ⟨j, hj, hw⟩ := and15 (xs i)
  refine g_iand X (v := nI j) dL_law_58 hw ?_
  have hu : u 0 0 ≤ 200 := hI.1.2.1
  by_cases h9 : 9 < j
  · refine g_tableOut X 501 dL_law_59 (Or.inr (by rw [nI_toInt (by omega)]; omega)) (by decide) ?_
    exact g_widen (by omega) (by omega) (K al f u v h0 h10 h26 hI hS)
  · rcases (show j = 0 ∨ j = 1 ∨ j = 2 ∨ j = 3 ∨ j = 4 ∨ j = 5 ∨ j = 6 ∨ j = 7 ∨ j = 8 ∨ j = 9 by omega) with rfl | rfl | rfl | rfl | rfl | rfl | rfl | rfl | rfl | rfl
    · refine g_tableIn X (off := 53) 112 dL_law_59 (by decide) (by decide) (by decide) (by decide) ?_
      exact law_induct X hX hT hfl hI hS h0 h10 h26 hi hL hc hs K
    · refine g_tableIn X (off := 102) 161 dL_law_59 (by decide) (by decide) (by decide) (by decide) ?_
      exact law_step X hX hT hfl hI hS h0 h10 h26 hi hL hc hs K
    · refine g_tableIn X (off := 127) 186 dL_law_59 (by decide) (by decide) (by decide) (by decide) ?_
      exact law_out X hX hT hfl hI hS h0 h10 h26 hi hL hc hs K
    · refine g_tableIn X (off := 164) 223 dL_law_59 (by decide) (by decide) (by decide) (by decide) ?_
      by_cases h : inR (xs (i + 1)) (u 0 0)
      · obtain ⟨t, ht, he⟩ := inR_of (by omega) h
        obtain ⟨hx, hm⟩ := op_tray (l := l) (D := D) (ta := ta) (pl := pl) (bs := bs) hI hS ht
        exact law_tray_n X hX hT hfl hI hS h0 h10 h26 hi hL hc hs K (u' := u) (v' := st v 0 0 0) hI (Sim_0 hS) st_self (by rw [he]; exact hx) (by rw [he]; exact hm)
      · exact law_tray_t X hX hT hfl hI hS h0 h10 h26 hi hL hc hs K (v' := st v 0 0 1) hI (Sim_0 hS) st_self h (op_tray_t hI hS h)
    · refine g_tableIn X (off := 220) 279 dL_law_59 (by decide) (by decide) (by decide) (by decide) ?_
      by_cases hz : xs (i + 2) = 0
      · exact law_full0 X hX hT hfl hI hS h0 h10 h26 hi hL hc hs K hz
      · exact law_full1 X hX hT hfl hI hS h0 h10 h26 hi hL hc hs K hz
    · refine g_tableIn X (off := 273) 332 dL_law_59 (by decide) (by decide) (by decide) (by decide) ?_
      exact law_missed X hX hT hfl hI hS h0 h10 h26 hi hL hc hs K
    · refine g_tableIn X (off := 298) 357 dL_law_59 (by decide) (by decide) (by decide) (by decide) ?_
      rcases op_found (l := l) (D := D) (ta := ta) (pl := pl) (bs := bs) hI hS (xs (i + 1)) (xs (i + 2)) with ⟨r, u', v', hI', hS', hv0, hx, hm⟩ | ⟨⟨n, hn1, hn2, hn3, hn⟩, hx, hm⟩
      · exact law_found_n X hX hT hfl hI hS h0 h10 h26 hi hL hc hs K hI' hS' hv0 hx hm
      · exact law_found_t X hX hT hfl hI hS h0 h10 h26 hi hL hc hs K hI (Sim_0 (Sim_0 hS)) st_self n hn hn1 hn2 hn3 hx hm
    · refine g_tableIn X (off := 366) 425 dL_law_59 (by decide) (by decide) (by decide) (by decide) ?_
      exact law_speed X hX hT hfl hI hS h0 h10 h26 hi hL hc hs K
    · refine g_tableIn X (off := 391) 450 dL_law_59 (by decide) (by decide) (by decide) (by decide) ?_
      exact law_share X hX hT hfl hI hS h0 h10 h26 hi hL hc hs K
    · refine g_tableIn X (off := 417) 476 dL_law_59 (by decide) (by decide) (by decide) (by decide) ?_
      exact law_round X hX hT hfl hI hS h0 h10 h26 hi hL hc hs K
theorem law_end (X : Cx D ta pl bs 7 p s m #[Value.ref b] meth c cL_law wsLL RL ret) (hbs : s.heap.size ≤ bs) (hc : cells ≤ 601024) (hs : slots ≤ 7293000) : WW D bs 7 p l e room_1 s m #[Value.ref b] below meth c (lw_Z below #[Value.ref b] s) al C cells slots 507 lv [] := by
  refine g_widen hc hs ?_
  refine g_iconst X (v := 1) dL_law_507 (by decide) ?_
  intro H locs ls hw hS hl
  exact va_forget (fun q hq => Nat.le_trans hbs (hS.2.2 q hq)) (lw_ret X.1.1 X.1.2.1 X.2.1 X.2.2.1 dL_law_508)
theorem law_head (X : Cx D ta pl bs 7 p s m #[Value.ref b] meth c cL_law wsLL RL ret) (hX : ScE b L xs bs s) (hL : L ≤ 2050) (hi : i ≤ 4000) (hbs : s.heap.size ≤ bs) (hc : cells ≤ 601024) (hs : slots ≤ 7293000)
    (K : i + 4 ≤ L → WW D bs 7 p l e room_1 s m #[Value.ref b] below meth c (lw_Z below #[Value.ref b] s) al C cells slots 52 (lvL b ax am ao i) []) : WW D bs 7 p l e room_1 s m #[Value.ref b] below meth c (lw_Z below #[Value.ref b] s) al C cells slots 43 (lvL b ax am ao i) [] := by
  refine g_iload X 4 dL_law_43 rfl ?_
  refine g_aload_n X 0 dL_law_45 rfl rfl ?_
  refine g_slen X hX dL_law_46 ?_
  refine g_iconst X (v := nI 4) dL_law_47 (by decide) ?_
  refine g_isub X dL_law_48 rfl ?_
  refine g_icmp_gt X 507 dL_law_49 (by decide) (P := L < i + 4) (by rw [Int32.lt_iff_toInt_lt, pk_sub_toInt (by omega) (by omega), nI_toInt (by omega)]; omega) (fun c_1 => ?_) (fun c_1 => ?_)
  · exact law_end X hbs hc hs
  · exact K (by omega)
theorem law_loop (X : Cx D ta pl bs 7 p s m #[Value.ref b] meth c cL_law wsLL RL ret) (hX : ScE b L xs bs s) (hT : ThE bs s) (hfl : l.flags = flags0) (hL : L ≤ 2050) (hbs : s.heap.size ≤ bs) : ∀ (n i cells slots : Nat) (al : Ad) (f : Nat → Int64) (u v : St), L ≤ i + 4 * n + 3 → i ≤ 2054 → cells + n ≤ 601024 → slots + 8 * n ≤ 7293000 → al 0 0 = ax → al 10 0 = am → al 26 0 = ao → Iv u → Sim u v →
    WW D bs 7 p l e room_1 s m #[Value.ref b] below meth c (lw_Z below #[Value.ref b] s) al (LW ta pl al f u v) cells slots 43 (lvL b ax am ao i) [] := by
  intro n
  induction n with
  | zero =>
    intro i cells slots al f u v h1 h2 h3 h4 h0 h10 h26 hI hS
    exact law_head X hX hL (by omega) hbs (by omega) (by omega) (fun z => by omega)
  | succ n ih =>
    intro i cells slots al f u v h1 h2 h3 h4 h0 h10 h26 hI hS
    refine law_head X hX hL (by omega) hbs (by omega) (by omega) (fun z => ?_)
    refine law_body X hX hT hfl hI hS h0 h10 h26 z hL (by omega) (by omega) ?_
    intro al' f' u' v' h0' h10' h26' hI' hS'
    refine g_iinc X (v := nI (i + 4)) 4 [(4, .int (nI (i + 4))), (0, .ref b), (1, .ref ax), (2, .ref am), (3, .ref ao)] dL_law_501 rfl (nI_add i 4) (by decide) rfl ?_
    refine g_goto X 43 dL_law_504 (by decide) ?_
    refine g_lv (lv' := lvL b ax am ao (i + 4)) [1, 2, 3, 4, 0] rfl ?_
    exact ih (i + 4) (cells + 1) (slots + 8) al' f' u' v' (by omega) (by omega) (by omega) (by omega) h0' h10' h26' hI' hS'
end LOOP
