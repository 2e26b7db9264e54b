/-! the law's loop, call by call (by wip/whole/tools/law1.py) -/
abbrev lvL (b ax am ao i : Nat) : List (Nat × Value) := [(0, .ref b), (1, .ref ax), (2, .ref am), (3, .ref ao), (4, .int (nI i))]
abbrev wsLL : List Cond := wsL_law ++ wCt
theorem lg_cmp_self (x : Int64) : lg_cmp x x = 0 := by simp [lg_cmp]
section LAW
variable {p : Program} {l : Launch} {e : Env} {s : State} {m : MethodId} {args : Array Value} {below : List Frame} {meth : Method} {c : Code} {Q : State → Prop}
variable {D : va_G} {ta : Nat → ClassId} {pl : Nat → Nat} {bs : Nat} {rt : Option FieldType}
variable {al : Ad} {C : Wo} {cells slots pc : Nat} {lv : List (Nat × Value)} {st0 : List Value}
variable {b L ax am ao i : Nat} {xs : Nat → Int32} {f : Nat → Int64} {u v : St}
/-- script[i + k] onto the stack -/
theorem g_arg (X : Cx D ta pl bs 7 p s m args meth c cL_law wsLL RL rt) (hX : ScE b L xs bs s) (j0 j4 : Nat) (e0 : lv[j0]? = some (0, .ref b)) (e4 : lv[j4]? = some (4, .int (nI i))) (k : Nat) (hk : i + k < L) (hL : L ≤ 2050) {kk : Int}
    (d1 : decode cL_law pc = .ok (.aload_n 0, 1)) (d2 : decode cL_law (pc + 1) = .ok (.iload 4, 2)) (d3 : decode cL_law (pc + 3) = .ok (.iconst kk, 1)) (hkk : Int32.ofInt kk = nI k) (d4 : decode cL_law (pc + 4) = .ok (.iadd, 1)) (d5 : decode cL_law (pc + 5) = .ok (.iaload, 1))
    (K : WW D bs 7 p l e room_1 s m args below meth c Q al C cells slots (pc + 6) lv (.int (xs (i + k)) :: st0)) : WW D bs 7 p l e room_1 s m args below meth c Q al C cells slots pc lv st0 := by
  refine g_aload_n X j0 d1 rfl e0 ?_
  refine g_iload X j4 d2 e4 ?_
  refine g_iconst X (v := nI k) d3 hkk ?_
  refine g_iadd X (v := nI (i + k)) d4 (nI_add i k) ?_
  exact g_sld X hX (i + k) hk (by omega) d5 K
/-- behind a call of the loop -/
def LK (D : va_G) (ta : Nat → ClassId) (pl : Nat → Nat) (bs : Nat) (p : Program) (l : Launch) (e : Env) (s : State) (m : MethodId) (args : Array Value) (below : List Frame) (meth : Method) (c : Code) (Q : State → Prop) (b ax am ao i cells slots : Nat) : Prop :=
  ∀ (al : Ad) (f : Nat → Int64) (u v : St), al 0 0 = ax → al 10 0 = am → al 26 0 = ao → Iv u → Sim u v → WW D bs 7 p l e room_1 s m args below meth c Q al (LW ta pl al f u v) cells slots 501 (lvL b ax am ao i) []
set_option maxRecDepth 100000 in
set_option maxHeartbeats 4000000 in
theorem law_step (X : Cx D ta pl bs 7 p s m args meth c cL_law wsLL RL rt) (hX : ScE b L xs bs s) (hT : ThE bs s) (hfl : l.flags = flags0) (hI : Iv u) (hS : Sim u v) (h0 : al 0 0 = ax) (h10 : al 10 0 = am) (h26 : al 26 0 = ao) (hi : i + 4 ≤ L) (hL : L ≤ 2050) (hc : cells + 1 ≤ 601024) (hs : slots + 8 ≤ 7293000) (K : LK D ta pl bs p l e s m args below meth c Q b ax am ao i (cells + 1) (slots + 8)) : WW D bs 7 p l e room_1 s m args below meth c Q al (LW ta pl al f u v) cells slots 161 (lvL b ax am ao i) [] := by
  obtain ⟨r, u', v', hI', hS', hx, hm⟩ := op_step (l := l) (D := D) (ta := ta) (pl := pl) (bs := bs) hI hS (xs (i + 1))
  refine g_aload_n X 1 dL_law_161 rfl rfl ?_
  refine g_arg X hX 0 4 rfl rfl 1 (by omega) hL dL_law_162 dL_law_163 dL_law_165 (by decide) dL_law_166 dL_law_167 ?_
  refine g_callV (n := 1) X 0 0 [.int (xs (i + 1))] cx0 rfl (hx (mM (ZL ta f) ta al v) al) (gi_l gL_law_X4_step) rfl rfl rfl (by decide +kernel) ⟨by decide, by decide⟩ rfl (Nat.le_of_ble_eq_true rfl) dL_law_168 ⟨hc, hs⟩ _ (by rw [h0]; rfl) ?_
  intro rv al' C' hp
  obtain ⟨rfl, ha, rfl⟩ := hp
  have h10' := (ha 10 0 (by decide)).trans h10
  have h26' := (ha 26 0 (by decide)).trans h26
  rw [mM_al ha]
  refine g_aload_n X 2 dL_law_171 rfl rfl ?_
  refine g_arg X hX 0 4 rfl rfl 1 (by omega) hL dL_law_172 dL_law_173 dL_law_175 (by decide) dL_law_176 dL_law_177 ?_
  refine g_wo (C1 := mM (mC (ZL ta f) ta pl al' u') ta al' v) mC_mM ?_
  refine g_callDV1 (n := 1) X 10 0 [.int (xs (i + 1))] cm10 rfl (hm (mC (ZL ta f) ta pl al' u') al') (gi_l gL_law_X5_step) rfl ⟨rfl, rfl⟩ (by decide +kernel) ⟨by decide, by decide⟩ rfl (Nat.le_of_ble_eq_true rfl) dL_law_178 ⟨hc, hs⟩ _ (by rw [h10']; rfl) ?_
  refine g_wo (C1 := LW ta pl al' f u' v') mC_mM.symm ?_
  refine g_icmp_eq X 501 dL_law_181 (by decide) (P := True) ⟨fun _ => trivial, fun _ => rfl⟩ (fun _ => ?_) (fun c => absurd trivial c)
  exact K al' f u' v' ((ha 0 0 (by decide)).trans h0) h10' h26' hI' hS'
set_option maxRecDepth 100000 in
set_option maxHeartbeats 4000000 in
theorem law_missed (X : Cx D ta pl bs 7 p s m args meth c cL_law wsLL RL rt) (hX : ScE b L xs bs s) (hT : ThE bs s) (hfl : l.flags = flags0) (hI : Iv u) (hS : Sim u v) (h0 : al 0 0 = ax) (h10 : al 10 0 = am) (h26 : al 26 0 = ao) (hi : i + 4 ≤ L) (hL : L ≤ 2050) (hc : cells + 1 ≤ 601024) (hs : slots + 8 ≤ 7293000) (K : LK D ta pl bs p l e s m args below meth c Q b ax am ao i (cells + 1) (slots + 8)) : WW D bs 7 p l e room_1 s m args below meth c Q al (LW ta pl al f u v) cells slots 332 (lvL b ax am ao i) [] := by
  obtain ⟨r, u', v', hI', hS', hx, hm⟩ := op_missed (l := l) (D := D) (ta := ta) (pl := pl) (bs := bs) hI hS (xs (i + 1))
  refine g_aload_n X 1 dL_law_332 rfl rfl ?_
  refine g_arg X hX 0 4 rfl rfl 1 (by omega) hL dL_law_333 dL_law_334 dL_law_336 (by decide) dL_law_337 dL_law_338 ?_
  refine g_callV (n := 1) X 0 0 [.int (xs (i + 1))] cx0 rfl (hx (mM (ZL ta f) ta al v) al) (gi_l gL_law_X4_missed) rfl rfl rfl (by decide +kernel) ⟨by decide, by decide⟩ rfl (Nat.le_of_ble_eq_true rfl) dL_law_339 ⟨hc, hs⟩ _ (by rw [h0]; rfl) ?_
  intro rv al' C' hp
  obtain ⟨rfl, ha, rfl⟩ := hp
  have h10' := (ha 10 0 (by decide)).trans h10
  have h26' := (ha 26 0 (by decide)).trans h26
  rw [mM_al ha]
  refine g_aload_n X 2 dL_law_342 rfl rfl ?_
  refine g_arg X hX 0 4 rfl rfl 1 (by omega) hL dL_law_343 dL_law_344 dL_law_346 (by decide) dL_law_347 dL_law_348 ?_
  refine g_wo (C1 := mM (mC (ZL ta f) ta pl al' u') ta al' v) mC_mM ?_
  refine g_callDV1 (n := 1) X 10 0 [.int (xs (i + 1))] cm10 rfl (hm (mC (ZL ta f) ta pl al' u') al') (gi_l gL_law_X5_missed) rfl ⟨rfl, rfl⟩ (by decide +kernel) ⟨by decide, by decide⟩ rfl (Nat.le_of_ble_eq_true rfl) dL_law_349 ⟨hc, hs⟩ _ (by rw [h10']; rfl) ?_
  refine g_wo (C1 := LW ta pl al' f u' v') mC_mM.symm ?_
  refine g_icmp_eq X 501 dL_law_352 (by decide) (P := True) ⟨fun _ => trivial, fun _ => rfl⟩ (fun _ => ?_) (fun c => absurd trivial c)
  exact K al' f u' v' ((ha 0 0 (by decide)).trans h0) h10' h26' hI' hS'
set_option maxRecDepth 100000 in
set_option maxHeartbeats 4000000 in
theorem law_speed (X : Cx D ta pl bs 7 p s m args meth c cL_law wsLL RL rt) (hX : ScE b L xs bs s) (hT : ThE bs s) (hfl : l.flags = flags0) (hI : Iv u) (hS : Sim u v) (h0 : al 0 0 = ax) (h10 : al 10 0 = am) (h26 : al 26 0 = ao) (hi : i + 4 ≤ L) (hL : L ≤ 2050) (hc : cells + 1 ≤ 601024) (hs : slots + 8 ≤ 7293000) (K : LK D ta pl bs p l e s m args below meth c Q b ax am ao i (cells + 1) (slots + 8)) : WW D bs 7 p l e room_1 s m args below meth c Q al (LW ta pl al f u v) cells slots 425 (lvL b ax am ao i) [] := by
  obtain ⟨r, u', v', hI', hS', hx, hm⟩ := op_speed (l := l) (D := D) (ta := ta) (pl := pl) (bs := bs) hI hS (xs (i + 1))
  refine g_aload_n X 1 dL_law_425 rfl rfl ?_
  refine g_arg X hX 0 4 rfl rfl 1 (by omega) hL dL_law_426 dL_law_427 dL_law_429 (by decide) dL_law_430 dL_law_431 ?_
  refine g_callV (n := 1) X 0 0 [.int (xs (i + 1))] cx0 rfl (hx (mM (ZL ta f) ta al v) al) (gi_l gL_law_X4_speed) rfl rfl rfl (by decide +kernel) ⟨by decide, by decide⟩ rfl (Nat.le_of_ble_eq_true rfl) dL_law_432 ⟨hc, hs⟩ _ (by rw [h0]; rfl) ?_
  intro rv al' C' hp
  obtain ⟨rfl, ha, rfl⟩ := hp
  have h10' := (ha 10 0 (by decide)).trans h10
  have h26' := (ha 26 0 (by decide)).trans h26
  rw [mM_al ha]
  refine g_aload_n X 2 dL_law_435 rfl rfl ?_
  refine g_arg X hX 0 4 rfl rfl 1 (by omega) hL dL_law_436 dL_law_437 dL_law_439 (by decide) dL_law_440 dL_law_441 ?_
  refine g_wo (C1 := mM (mC (ZL ta f) ta pl al' u') ta al' v) mC_mM ?_
  refine g_callDV1 (n := 1) X 10 0 [.int (xs (i + 1))] cm10 rfl (hm (mC (ZL ta f) ta pl al' u') al') (gi_l gL_law_X5_speed) rfl ⟨rfl, rfl⟩ (by decide +kernel) ⟨by decide, by decide⟩ rfl (Nat.le_of_ble_eq_true rfl) dL_law_442 ⟨hc, hs⟩ _ (by rw [h10']; rfl) ?_
  refine g_wo (C1 := LW ta pl al' f u' v') mC_mM.symm ?_
  refine g_icmp_eq X 501 dL_law_445 (by decide) (P := True) ⟨fun _ => trivial, fun _ => rfl⟩ (fun _ => ?_) (fun c => absurd trivial c)
  exact K al' f u' v' ((ha 0 0 (by decide)).trans h0) h10' h26' hI' hS'
set_option maxRecDepth 100000 in
set_option maxHeartbeats 4000000 in
theorem law_round (X : Cx D ta pl bs 7 p s m args meth c cL_law wsLL RL rt) (hX : ScE b L xs bs s) (hT : ThE bs s) (hfl : l.flags = flags0) (hI : Iv u) (hS : Sim u v) (h0 : al 0 0 = ax) (h10 : al 10 0 = am) (h26 : al 26 0 = ao) (hi : i + 4 ≤ L) (hL : L ≤ 2050) (hc : cells + 1 ≤ 601024) (hs : slots + 8 ≤ 7293000) (K : LK D ta pl bs p l e s m args below meth c Q b ax am ao i (cells + 1) (slots + 8)) : WW D bs 7 p l e room_1 s m args below meth c Q al (LW ta pl al f u v) cells slots 476 (lvL b ax am ao i) [] := by
  obtain ⟨r, u', v', hI', hS', hx, hm⟩ := op_round (l := l) (D := D) (ta := ta) (pl := pl) (bs := bs) hI hS (xs (i + 1))
  refine g_aload_n X 1 dL_law_476 rfl rfl ?_
  refine g_arg X hX 0 4 rfl rfl 1 (by omega) hL dL_law_477 dL_law_478 dL_law_480 (by decide) dL_law_481 dL_law_482 ?_
  refine g_callV (n := 1) X 0 0 [.int (xs (i + 1))] cx0 rfl (hx (mM (ZL ta f) ta al v) al) (gi_l gL_law_X4_round) rfl rfl rfl (by decide +kernel) ⟨by decide, by decide⟩ rfl (Nat.le_of_ble_eq_true rfl) dL_law_483 ⟨hc, hs⟩ _ (by rw [h0]; rfl) ?_
  intro rv al' C' hp
  obtain ⟨rfl, ha, rfl⟩ := hp
  have h10' := (ha 10 0 (by decide)).trans h10
  have h26' := (ha 26 0 (by decide)).trans h26
  rw [mM_al ha]
  refine g_aload_n X 2 dL_law_486 rfl rfl ?_
  refine g_arg X hX 0 4 rfl rfl 1 (by omega) hL dL_law_487 dL_law_488 dL_law_490 (by decide) dL_law_491 dL_law_492 ?_
  refine g_wo (C1 := mM (mC (ZL ta f) ta pl al' u') ta al' v) mC_mM ?_
  refine g_callDV1 (n := 1) X 10 0 [.int (xs (i + 1))] cm10 rfl (hm (mC (ZL ta f) ta pl al' u') al') (gi_l gL_law_X5_round) rfl ⟨rfl, rfl⟩ (by decide +kernel) ⟨by decide, by decide⟩ rfl (Nat.le_of_ble_eq_true rfl) dL_law_493 ⟨hc, hs⟩ _ (by rw [h10']; rfl) ?_
  refine g_wo (C1 := LW ta pl al' f u' v') mC_mM.symm ?_
  refine g_icmp_eq X 501 dL_law_496 (by decide) (P := True) ⟨fun _ => trivial, fun _ => rfl⟩ (fun _ => ?_) (fun c => absurd trivial c)
  exact K al' f u' v' ((ha 0 0 (by decide)).trans h0) h10' h26' hI' hS'
set_option maxRecDepth 100000 in
set_option maxHeartbeats 4000000 in
theorem law_share (X : Cx D ta pl bs 7 p s m args meth c cL_law wsLL RL rt) (hX : ScE b L xs bs s) (hT : ThE bs s) (hfl : l.flags = flags0) (hI : Iv u) (hS : Sim u v) (h0 : al 0 0 = ax) (h10 : al 10 0 = am) (h26 : al 26 0 = ao) (hi : i + 4 ≤ L) (hL : L ≤ 2050) (hc : cells + 1 ≤ 601024) (hs : slots + 8 ≤ 7293000) (K : LK D ta pl bs p l e s m args below meth c Q b ax am ao i (cells + 1) (slots + 8)) : WW D bs 7 p l e room_1 s m args below meth c Q al (LW ta pl al f u v) cells slots 450 (lvL b ax am ao i) [] := by
  obtain ⟨r, u', v', hI', hS', hx, hm⟩ := op_share (l := l) (D := D) (ta := ta) (pl := pl) (bs := bs) hI hS (xs (i + 1))
  refine g_aload_n X 1 dL_law_450 rfl rfl ?_
  refine g_arg X hX 0 4 rfl rfl 1 (by omega) hL dL_law_451 dL_law_452 dL_law_454 (by decide) dL_law_455 dL_law_456 ?_
  refine g_callV (n := 1) X 0 0 [.int (xs (i + 1))] cx0 rfl (hx (mM (ZL ta f) ta al v) al) (gi_l gL_law_X4_share) rfl rfl rfl (by decide +kernel) ⟨by decide, by decide⟩ rfl (Nat.le_of_ble_eq_true rfl) dL_law_457 ⟨hc, hs⟩ _ (by rw [h0]; rfl) ?_
  intro rv al' C' hp
  obtain ⟨rfl, ha, rfl⟩ := hp
  have h10' := (ha 10 0 (by decide)).trans h10
  have h26' := (ha 26 0 (by decide)).trans h26
  rw [mM_al ha]
  refine g_aload_n X 2 dL_law_460 rfl rfl ?_
  refine g_arg X hX 0 4 rfl rfl 1 (by omega) hL dL_law_461 dL_law_462 dL_law_464 (by decide) dL_law_465 dL_law_466 ?_
  refine g_wo (C1 := mM (mC (ZL ta f) ta pl al' u') ta al' v) mC_mM ?_
  refine g_callDV1 (n := 1) X 10 0 [.int (xs (i + 1))] cm10 rfl (hm (mC (ZL ta f) ta pl al' u') al') (gi_l gL_law_X5_share) rfl ⟨rfl, rfl⟩ (by decide +kernel) ⟨by decide, by decide⟩ rfl (Nat.le_of_ble_eq_true rfl) dL_law_467 ⟨hc, hs⟩ _ (by rw [h10']; rfl) ?_
  refine g_wo (C1 := LW ta pl al' f u' v') mC_mM.symm ?_
  refine g_lcmp X dL_law_470 ?_
  rw [lg_cmp_self]
  refine g_if_eq X 501 dL_law_471 (by decide) (P := True) ⟨fun _ => trivial, fun _ => rfl⟩ (fun _ => ?_) (fun c => absurd trivial c)
  exact K al' f u' v' ((ha 0 0 (by decide)).trans h0) h10' h26' hI' hS'
set_option maxRecDepth 100000 in
set_option maxHeartbeats 4000000 in
theorem law_out (X : Cx D ta pl bs 7 p s m args meth c cL_law wsLL RL rt) (hX : ScE b L xs bs s) (hT : ThE bs s) (hfl : l.flags = flags0) (hI : Iv u) (hS : Sim u v) (h0 : al 0 0 = ax) (h10 : al 10 0 = am) (h26 : al 26 0 = ao) (hi : i + 4 ≤ L) (hL : L ≤ 2050) (hc : cells + 1 ≤ 601024) (hs : slots + 8 ≤ 7293000) (K : LK D ta pl bs p l e s m args below meth c Q b ax am ao i (cells + 1) (slots + 8)) : WW D bs 7 p l e room_1 s m args below meth c Q al (LW ta pl al f u v) cells slots 186 (lvL b ax am ao i) [] := by
  obtain ⟨r, u', v', hI', hS', hx, hm⟩ := op_out (l := l) (D := D) (ta := ta) (pl := pl) (bs := bs) hI hS (xs (i + 1)) (xs (i + 2))
  refine g_aload_n X 1 dL_law_186 rfl rfl ?_
  refine g_arg X hX 0 4 rfl rfl 1 (by omega) hL dL_law_187 dL_law_188 dL_law_190 (by decide) dL_law_191 dL_law_192 ?_
  refine g_arg X hX 0 4 rfl rfl 2 (by omega) hL dL_law_193 dL_law_194 dL_law_196 (by decide) dL_law_197 dL_law_198 ?_
  refine g_callV (n := 2) X 0 0 [.int (xs (i + 1)), .int (xs (i + 2))] cx0 rfl (hx (mM (ZL ta f) ta al v) al) (gi_l gL_law_X4_out) rfl rfl rfl (by decide +kernel) ⟨by decide, by decide⟩ rfl (Nat.le_of_ble_eq_true rfl) dL_law_199 ⟨hc, hs⟩ _ (by rw [h0]; rfl) ?_
  intro rv al' C' hp
  obtain ⟨rfl, ha, rfl⟩ := hp
  have h10' := (ha 10 0 (by decide)).trans h10
  have h26' := (ha 26 0 (by decide)).trans h26
  rw [mM_al ha]
  refine g_aload_n X 2 dL_law_202 rfl rfl ?_
  refine g_arg X hX 0 4 rfl rfl 1 (by omega) hL dL_law_203 dL_law_204 dL_law_206 (by decide) dL_law_207 dL_law_208 ?_
  refine g_arg X hX 0 4 rfl rfl 2 (by omega) hL dL_law_209 dL_law_210 dL_law_212 (by decide) dL_law_213 dL_law_214 ?_
  refine g_wo (C1 := mM (mC (ZL ta f) ta pl al' u') ta al' v) mC_mM ?_
  refine g_callDV1 (n := 2) X 10 0 [.int (xs (i + 1)), .int (xs (i + 2))] cm10 rfl (hm (mC (ZL ta f) ta pl al' u') al') (gi_l gL_law_X5_out) rfl ⟨rfl, rfl⟩ (by decide +kernel) ⟨by decide, by decide⟩ rfl (Nat.le_of_ble_eq_true rfl) dL_law_215 ⟨hc, hs⟩ _ (by rw [h10']; rfl) ?_
  refine g_wo (C1 := LW ta pl al' f u' v') mC_mM.symm ?_
  refine g_icmp_eq X 501 dL_law_218 (by decide) (P := True) ⟨fun _ => trivial, fun _ => rfl⟩ (fun _ => ?_) (fun c => absurd trivial c)
  exact K al' f u' v' ((ha 0 0 (by decide)).trans h0) h10' h26' hI' hS'
set_option maxRecDepth 100000 in
set_option maxHeartbeats 4000000 in
theorem law_induct (X : Cx D ta pl bs 7 p s m args meth c cL_law wsLL RL rt) (hX : ScE b L xs bs s) (hT : ThE bs s) (hfl : l.flags = flags0) (hI : Iv u) (hS : Sim u v) (h0 : al 0 0 = ax) (h10 : al 10 0 = am) (h26 : al 26 0 = ao) (hi : i + 4 ≤ L) (hL : L ≤ 2050) (hc : cells + 1 ≤ 601024) (hs : slots + 8 ≤ 7293000) (K : LK D ta pl bs p l e s m args below meth c Q b ax am ao i (cells + 1) (slots + 8)) : WW D bs 7 p l e room_1 s m args below meth c Q al (LW ta pl al f u v) cells slots 112 (lvL b ax am ao i) [] := by
  obtain ⟨r, u', v', hI', hS', hx, hm⟩ := op_induct (l := l) (D := D) (ta := ta) (pl := pl) (bs := bs) hI hS (xs (i + 1)) (xs (i + 2)) (xs (i + 3))
  refine g_aload_n X 1 dL_law_112 rfl rfl ?_
  refine g_arg X hX 0 4 rfl rfl 1 (by omega) hL dL_law_113 dL_law_114 dL_law_116 (by decide) dL_law_117 dL_law_118 ?_
  refine g_arg X hX 0 4 rfl rfl 2 (by omega) hL dL_law_119 dL_law_120 dL_law_122 (by decide) dL_law_123 dL_law_124 ?_
  refine g_arg X hX 0 4 rfl rfl 3 (by omega) hL dL_law_125 dL_law_126 dL_law_128 (by decide) dL_law_129 dL_law_130 ?_
  refine g_callV (n := 3) X 0 0 [.int (xs (i + 1)), .int (xs (i + 2)), .int (xs (i + 3))] cx0 rfl (hx (mM (ZL ta f) ta al v) al) (gi_l gL_law_X4_induct) rfl rfl rfl (by decide +kernel) ⟨by decide, by decide⟩ rfl (Nat.le_of_ble_eq_true rfl) dL_law_131 ⟨hc, hs⟩ _ (by rw [h0]; rfl) ?_
  intro rv al' C' hp
  obtain ⟨rfl, ha, rfl⟩ := hp
  have h10' := (ha 10 0 (by decide)).trans h10
  have h26' := (ha 26 0 (by decide)).trans h26
  rw [mM_al ha]
  refine g_aload_n X 2 dL_law_134 rfl rfl ?_
  refine g_arg X hX 0 4 rfl rfl 1 (by omega) hL dL_law_135 dL_law_136 dL_law_138 (by decide) dL_law_139 dL_law_140 ?_
  refine g_arg X hX 0 4 rfl rfl 2 (by omega) hL dL_law_141 dL_law_142 dL_law_144 (by decide) dL_law_145 dL_law_146 ?_
  refine g_arg X hX 0 4 rfl rfl 3 (by omega) hL dL_law_147 dL_law_148 dL_law_150 (by decide) dL_law_151 dL_law_152 ?_
  refine g_wo (C1 := mM (mC (ZL ta f) ta pl al' u') ta al' v) mC_mM ?_
  refine g_callDV1 (n := 3) X 10 0 [.int (xs (i + 1)), .int (xs (i + 2)), .int (xs (i + 3))] cm10 rfl (hm (mC (ZL ta f) ta pl al' u') al') (gi_l gL_law_X5_induct) rfl ⟨rfl, rfl⟩ (by decide +kernel) ⟨by decide, by decide⟩ rfl (Nat.le_of_ble_eq_true rfl) dL_law_153 ⟨hc, hs⟩ _ (by rw [h10']; rfl) ?_
  refine g_wo (C1 := LW ta pl al' f u' v') mC_mM.symm ?_
  refine g_icmp_eq X 501 dL_law_156 (by decide) (P := True) ⟨fun _ => trivial, fun _ => rfl⟩ (fun _ => ?_) (fun c => absurd trivial c)
  exact K al' f u' v' ((ha 0 0 (by decide)).trans h0) h10' h26' hI' hS'
set_option maxRecDepth 100000 in
set_option maxHeartbeats 4000000 in
theorem law_full0 (X : Cx D ta pl bs 7 p s m args meth c cL_law wsLL RL rt) (hX : ScE b L xs bs s) (hT : ThE bs s) (hfl : l.flags = flags0) (hI : Iv u) (hS : Sim u v) (h0 : al 0 0 = ax) (h10 : al 10 0 = am) (h26 : al 26 0 = ao) (hi : i + 4 ≤ L) (hL : L ≤ 2050) (hc : cells + 1 ≤ 601024) (hs : slots + 8 ≤ 7293000) (K : LK D ta pl bs p l e s m args below meth c Q b ax am ao i (cells + 1) (slots + 8)) (hz : xs (i + 2) = 0) : WW D bs 7 p l e room_1 s m args below meth c Q al (LW ta pl al f u v) cells slots 279 (lvL b ax am ao i) [] := by
  obtain ⟨r, u', v', hI', hS', hx, hm⟩ := op_full (l := l) (D := D) (ta := ta) (pl := pl) (bs := bs) hI hS (xs (i + 1)) 0 (by omega)
  refine g_aload_n X 1 dL_law_279 rfl rfl ?_
  refine g_arg X hX 0 4 rfl rfl 1 (by omega) hL dL_law_280 dL_law_281 dL_law_283 (by decide) dL_law_284 dL_law_285 ?_
  refine g_arg X hX 0 4 rfl rfl 2 (by omega) hL dL_law_286 dL_law_287 dL_law_289 (by decide) dL_law_290 dL_law_291 ?_
  refine g_if_eq X 299 dL_law_292 (by decide) (P := True) ⟨fun _ => trivial, fun _ => hz⟩ (fun _ => ?_) (fun c => absurd trivial c)
  refine g_iconst X (v := nI 0) dL_law_299 (by decide) ?_
  refine g_callV (n := 2) X 0 0 [.int (xs (i + 1)), .int (nI 0)] cx0 rfl (hx (mM (ZL ta f) ta al v) al) (gi_l gL_law_X4_full) rfl rfl rfl (by decide +kernel) ⟨by decide, by decide⟩ rfl (Nat.le_of_ble_eq_true rfl) dL_law_300 ⟨hc, hs⟩ _ (by rw [h0]; rfl) ?_
  intro rv al' C' hp
  obtain ⟨rfl, ha, rfl⟩ := hp
  have h10' := (ha 10 0 (by decide)).trans h10
  have h26' := (ha 26 0 (by decide)).trans h26
  rw [mM_al ha]
  refine g_aload_n X 2 dL_law_303 rfl rfl ?_
  refine g_arg X hX 0 4 rfl rfl 1 (by omega) hL dL_law_304 dL_law_305 dL_law_307 (by decide) dL_law_308 dL_law_309 ?_
  refine g_arg X hX 0 4 rfl rfl 2 (by omega) hL dL_law_310 dL_law_311 dL_law_313 (by decide) dL_law_314 dL_law_315 ?_
  refine g_if_eq X 323 dL_law_316 (by decide) (P := True) ⟨fun _ => trivial, fun _ => hz⟩ (fun _ => ?_) (fun c => absurd trivial c)
  refine g_iconst X (v := nI 0) dL_law_323 (by decide) ?_
  refine g_wo (C1 := mM (mC (ZL ta f) ta pl al' u') ta al' v) mC_mM ?_
  refine g_callDV1 (n := 2) X 10 0 [.int (xs (i + 1)), .int (nI 0)] cm10 rfl (hm (mC (ZL ta f) ta pl al' u') al') (gi_l gL_law_X5_full) rfl ⟨rfl, rfl⟩ (by decide +kernel) ⟨by decide, by decide⟩ rfl (Nat.le_of_ble_eq_true rfl) dL_law_324 ⟨hc, hs⟩ _ (by rw [h10']; rfl) ?_
  refine g_wo (C1 := LW ta pl al' f u' v') mC_mM.symm ?_
  refine g_icmp_eq X 501 dL_law_327 (by decide) (P := True) ⟨fun _ => trivial, fun _ => rfl⟩ (fun _ => ?_) (fun c => absurd trivial c)
  exact K al' f u' v' ((ha 0 0 (by decide)).trans h0) h10' h26' hI' hS'
set_option maxRecDepth 100000 in
set_option maxHeartbeats 4000000 in
theorem law_full1 (X : Cx D ta pl bs 7 p s m args meth c cL_law wsLL RL rt) (hX : ScE b L xs bs s) (hT : ThE bs s) (hfl : l.flags = flags0) (hI : Iv u) (hS : Sim u v) (h0 : al 0 0 = ax) (h10 : al 10 0 = am) (h26 : al 26 0 = ao) (hi : i + 4 ≤ L) (hL : L ≤ 2050) (hc : cells + 1 ≤ 601024) (hs : slots + 8 ≤ 7293000) (K : LK D ta pl bs p l e s m args below meth c Q b ax am ao i (cells + 1) (slots + 8)) (hz : ¬ xs (i + 2) = 0) : WW D bs 7 p l e room_1 s m args below meth c Q al (LW ta pl al f u v) cells slots 279 (lvL b ax am ao i) [] := by
  obtain ⟨r, u', v', hI', hS', hx, hm⟩ := op_full (l := l) (D := D) (ta := ta) (pl := pl) (bs := bs) hI hS (xs (i + 1)) 1 (by omega)
  refine g_aload_n X 1 dL_law_279 rfl rfl ?_
  refine g_arg X hX 0 4 rfl rfl 1 (by omega) hL dL_law_280 dL_law_281 dL_law_283 (by decide) dL_law_284 dL_law_285 ?_
  refine g_arg X hX 0 4 rfl rfl 2 (by omega) hL dL_law_286 dL_law_287 dL_law_289 (by decide) dL_law_290 dL_law_291 ?_
  refine g_if_eq X 299 dL_law_292 (by decide) (P := False) ⟨hz, False.elim⟩ (fun c => c.elim) (fun _ => ?_)
  refine g_iconst X (v := nI 1) dL_law_295 (by decide) ?_
  refine g_goto X 300 dL_law_296 (by decide) ?_
  refine g_callV (n := 2) X 0 0 [.int (xs (i + 1)), .int (nI 1)] cx0 rfl (hx (mM (ZL ta f) ta al v) al) (gi_l gL_law_X4_full) rfl rfl rfl (by decide +kernel) ⟨by decide, by decide⟩ rfl (Nat.le_of_ble_eq_true rfl) dL_law_300 ⟨hc, hs⟩ _ (by rw [h0]; rfl) ?_
  intro rv al' C' hp
  obtain ⟨rfl, ha, rfl⟩ := hp
  have h10' := (ha 10 0 (by decide)).trans h10
  have h26' := (ha 26 0 (by decide)).trans h26
  rw [mM_al ha]
  refine g_aload_n X 2 dL_law_303 rfl rfl ?_
  refine g_arg X hX 0 4 rfl rfl 1 (by omega) hL dL_law_304 dL_law_305 dL_law_307 (by decide) dL_law_308 dL_law_309 ?_
  refine g_arg X hX 0 4 rfl rfl 2 (by omega) hL dL_law_310 dL_law_311 dL_law_313 (by decide) dL_law_314 dL_law_315 ?_
  refine g_if_eq X 323 dL_law_316 (by decide) (P := False) ⟨hz, False.elim⟩ (fun c => c.elim) (fun _ => ?_)
  refine g_iconst X (v := nI 1) dL_law_319 (by decide) ?_
  refine g_goto X 324 dL_law_320 (by decide) ?_
  refine g_wo (C1 := mM (mC (ZL ta f) ta pl al' u') ta al' v) mC_mM ?_
  refine g_callDV1 (n := 2) X 10 0 [.int (xs (i + 1)), .int (nI 1)] cm10 rfl (hm (mC (ZL ta f) ta pl al' u') al') (gi_l gL_law_X5_full) rfl ⟨rfl, rfl⟩ (by decide +kernel) ⟨by decide, by decide⟩ rfl (Nat.le_of_ble_eq_true rfl) dL_law_324 ⟨hc, hs⟩ _ (by rw [h10']; rfl) ?_
  refine g_wo (C1 := LW ta pl al' f u' v') mC_mM.symm ?_
  refine g_icmp_eq X 501 dL_law_327 (by decide) (P := True) ⟨fun _ => trivial, fun _ => rfl⟩ (fun _ => ?_) (fun c => absurd trivial c)
  exact K al' f u' v' ((ha 0 0 (by decide)).trans h0) h10' h26' hI' hS'
theorem giCt : GoodIn wsLL wCt := fun w hw => ⟨List.mem_append_right _ hw, Or.inl (by simp only [wCt, List.mem_singleton] at hw; subst hw; rfl)⟩
set_option maxRecDepth 100000 in
set_option maxHeartbeats 4000000 in
theorem law_tray_n (X : Cx D ta pl bs 7 p s m args meth c cL_law wsLL RL rt) (hX : ScE b L xs bs s) (hT : ThE bs s) (hfl : l.flags = flags0) (hI : Iv u) (hS : Sim u v) (h0 : al 0 0 = ax) (h10 : al 10 0 = am) (h26 : al 26 0 = ao) (hi : i + 4 ≤ L) (hL : L ≤ 2050) (hc : cells + 1 ≤ 601024) (hs : slots + 8 ≤ 7293000) (K : LK D ta pl bs p l e s m args below meth c Q b ax am ao i (cells + 1) (slots + 8)) {u' v' : St} {rm : Int32} (hI' : Iv u') (hS' : Sim u' v') (hv0 : v' 0 0 = 0) (hx : XR l D ta pl bs yX4_tray wsX4_tray [.int (xs (i + 1))] u (.int rm) u') (hm : MR l D ta pl bs yX5_tray wsX5_tray [.int (xs (i + 1))] v (.int rm) v') : WW D bs 7 p l e room_1 s m args below meth c Q al (LW ta pl al f u v) cells slots 223 (lvL b ax am ao i) [] := by
  refine g_aload_n X 1 dL_law_223 rfl rfl ?_
  refine g_arg X hX 0 4 rfl rfl 1 (by omega) hL dL_law_224 dL_law_225 dL_law_227 (by decide) dL_law_228 dL_law_229 ?_
  refine g_aload_n X 3 dL_law_230 rfl rfl ?_
  refine g_callSW (n := 3) X ThE.est hT [.ref ax, .int (xs (i + 1)), .ref ao] (by rw [← h0, ← h26]; exact l_tray hx) (goodIn_app (gi_l (fun w hw => gL_law_L_tray w (List.mem_append_left _ hw))) (goodIn_app (gi_l ggL_law_L_tray) giCt)) rfl rfl rfl (by decide +kernel) ⟨by decide, by decide⟩ rfl (Nat.le_of_ble_eq_true rfl) dL_law_231 ⟨hc, hs⟩ _ rfl ?_
  intro rv al' C' hp
  obtain ⟨rfl, ha, f', hf', rfl⟩ := hp
  have h10' := (ha 10 0 (by decide)).trans h10
  have h26' := (ha 26 0 (by decide)).trans h26
  refine g_istore X [(5, .int 0), (0, .ref b), (1, .ref ax), (2, .ref am), (3, .ref ao), (4, .int (nI i))] dL_law_234 (by decide) rfl ?_
  refine g_aload_n X 3 dL_law_236 rfl rfl ?_
  refine g_arg X hX 1 5 rfl rfl 1 (by omega) hL dL_law_237 dL_law_238 dL_law_240 (by decide) dL_law_241 dL_law_242 ?_
  refine g_wo (C1 := mM (mC (ZL ta f') ta pl al' u') ta al' v) mC_mM ?_
  refine g_callDV1 (n := 1) X 10 0 [.int (xs (i + 1))] cm10 rfl (hm (mC (ZL ta f') ta pl al' u') al') (gi_l gL_law_X5_tray) rfl ⟨rfl, rfl⟩ (by decide +kernel) ⟨by decide, by decide⟩ rfl (Nat.le_of_ble_eq_true rfl) dL_law_243 ⟨hc, hs⟩ _ (by rw [h10']; rfl) ?_
  refine g_wo (C1 := LW ta pl al' f' u' v') mC_mM.symm ?_
  refine g_istore X [(6, .int rm), (5, .int 0), (0, .ref b), (1, .ref ax), (2, .ref am), (3, .ref ao), (4, .int (nI i))] dL_law_246 (by decide) rfl ?_
  refine g_aload_n X 4 dL_law_248 rfl rfl ?_
  refine g_wo (C1 := mM (mC (ZL ta f') ta pl al' u') ta al' v') mC_mM ?_
  refine g_callDV1 (n := 0) X 10 0 [] cm10 rfl (m_thrown (Z := mC (ZL ta f') ta pl al' u') (al := al')) (gi_l gL_law_X5_thrown) rfl ⟨rfl, rfl⟩ (by decide +kernel) ⟨by decide, by decide⟩ rfl (Nat.le_of_ble_eq_true rfl) dL_law_249 ⟨hc, hs⟩ _ (by rw [h10']; rfl) ?_
  refine g_wo (C1 := LW ta pl al' f' u' v') mC_mM.symm ?_
  refine g_iload X 1 dL_law_252 rfl ?_
  refine g_icmp_eq X 259 dL_law_254 (by decide) (P := True) ⟨fun _ => trivial, fun _ => by rw [hv0]; rfl⟩ (fun _ => ?_) (fun c => absurd trivial c)
  refine g_iload X 1 dL_law_259 rfl ?_
  refine g_if_ne X 276 dL_law_261 (by decide) (P := True) ⟨fun _ => trivial, fun _ => rfl⟩ (fun c => absurd trivial c) (fun _ => ?_)
  refine g_aload_n X 5 dL_law_264 rfl rfl ?_
  refine g_iconst X (v := nI 0) dL_law_265 (by decide) ?_
  rw [← h26']
  refine g_lald X 26 0 LW_26 0 (by decide) (by decide) hf' dL_law_266 ?_
  refine g_iload X 0 dL_law_267 rfl ?_
  refine g_i2l X (v := rm.toInt64) dL_law_269 rfl ?_
  refine g_lcmp X dL_law_270 ?_
  rw [lg_cmp_self]
  refine g_if_eq X 276 dL_law_271 (by decide) (P := True) ⟨fun _ => trivial, fun _ => rfl⟩ (fun _ => ?_) (fun c => absurd trivial c)
  rw [h26']
  refine g_goto X 501 dL_law_276 (by decide) ?_
  refine g_lv (lv' := lvL b ax am ao i) [2, 3, 4, 5, 6] rfl ?_
  exact K al' f' u' v' ((ha 0 0 (by decide)).trans h0) h10' h26' hI' hS'
set_option maxRecDepth 100000 in
set_option maxHeartbeats 4000000 in
theorem law_tray_t (X : Cx D ta pl bs 7 p s m args meth c cL_law wsLL RL rt) (hX : ScE b L xs bs s) (hT : ThE bs s) (hfl : l.flags = flags0) (hI : Iv u) (hS : Sim u v) (h0 : al 0 0 = ax) (h10 : al 10 0 = am) (h26 : al 26 0 = ao) (hi : i + 4 ≤ L) (hL : L ≤ 2050) (hc : cells + 1 ≤ 601024) (hs : slots + 8 ≤ 7293000) (K : LK D ta pl bs p l e s m args below meth c Q b ax am ao i (cells + 1) (slots + 8)) {v' : St} {rm : Int32} (hI' : Iv u) (hS' : Sim u v') (hv0 : v' 0 0 = 1) (hx : ¬ inR (xs (i + 1)) (u 0 0)) (hm : MR l D ta pl bs yX5_tray wsX5_tray [.int (xs (i + 1))] v (.int rm) v') : WW D bs 7 p l e room_1 s m args below meth c Q al (LW ta pl al f u v) cells slots 223 (lvL b ax am ao i) [] := by
  refine g_aload_n X 1 dL_law_223 rfl rfl ?_
  refine g_arg X hX 0 4 rfl rfl 1 (by omega) hL dL_law_224 dL_law_225 dL_law_227 (by decide) dL_law_228 dL_law_229 ?_
  refine g_aload_n X 3 dL_law_230 rfl rfl ?_
  refine g_callSW (n := 3) X ThE.est hT [.ref ax, .int (xs (i + 1)), .ref ao] (by rw [← h0, ← h26]; exact l_tray_t hfl hx) (goodIn_app (gi_l (fun w hw => gL_law_L_tray w (List.mem_append_left _ hw))) (goodIn_app (gi_l ggL_law_L_tray) giCt)) rfl rfl rfl (by decide +kernel) ⟨by decide, by decide⟩ rfl (Nat.le_of_ble_eq_true rfl) dL_law_231 ⟨hc, hs⟩ _ rfl ?_
  intro rv al' C' hp
  obtain ⟨rfl, rfl, rfl⟩ := hp
  have ha : ∀ k i, k ≠ 9 → al' k i = al' k i := fun _ _ _ => rfl
  have h10' := (ha 10 0 (by decide)).trans h10
  have h26' := (ha 26 0 (by decide)).trans h26
  refine g_istore X [(5, .int 1), (0, .ref b), (1, .ref ax), (2, .ref am), (3, .ref ao), (4, .int (nI i))] dL_law_234 (by decide) rfl ?_
  refine g_aload_n X 3 dL_law_236 rfl rfl ?_
  refine g_arg X hX 1 5 rfl rfl 1 (by omega) hL dL_law_237 dL_law_238 dL_law_240 (by decide) dL_law_241 dL_law_242 ?_
  refine g_wo (C1 := mM (mC (ZL ta f) ta pl al' u) ta al' v) mC_mM ?_
  refine g_callDV1 (n := 1) X 10 0 [.int (xs (i + 1))] cm10 rfl (hm (mC (ZL ta f) ta pl al' u) al') (gi_l gL_law_X5_tray) rfl ⟨rfl, rfl⟩ (by decide +kernel) ⟨by decide, by decide⟩ rfl (Nat.le_of_ble_eq_true rfl) dL_law_243 ⟨hc, hs⟩ _ (by rw [h10']; rfl) ?_
  refine g_wo (C1 := LW ta pl al' f u v') mC_mM.symm ?_
  refine g_istore X [(6, .int rm), (5, .int 1), (0, .ref b), (1, .ref ax), (2, .ref am), (3, .ref ao), (4, .int (nI i))] dL_law_246 (by decide) rfl ?_
  refine g_aload_n X 4 dL_law_248 rfl rfl ?_
  refine g_wo (C1 := mM (mC (ZL ta f) ta pl al' u) ta al' v') mC_mM ?_
  refine g_callDV1 (n := 0) X 10 0 [] cm10 rfl (m_thrown (Z := mC (ZL ta f) ta pl al' u) (al := al')) (gi_l gL_law_X5_thrown) rfl ⟨rfl, rfl⟩ (by decide +kernel) ⟨by decide, by decide⟩ rfl (Nat.le_of_ble_eq_true rfl) dL_law_249 ⟨hc, hs⟩ _ (by rw [h10']; rfl) ?_
  refine g_wo (C1 := LW ta pl al' f u v') mC_mM.symm ?_
  refine g_iload X 1 dL_law_252 rfl ?_
  refine g_icmp_eq X 259 dL_law_254 (by decide) (P := True) ⟨fun _ => trivial, fun _ => by rw [hv0]; rfl⟩ (fun _ => ?_) (fun c => absurd trivial c)
  refine g_iload X 1 dL_law_259 rfl ?_
  refine g_if_ne X 276 dL_law_261 (by decide) (P := False) ⟨fun z => absurd z (by decide), False.elim⟩ (fun _ => ?_) (fun c => c.elim)
  refine g_goto X 501 dL_law_276 (by decide) ?_
  refine g_lv (lv' := lvL b ax am ao i) [2, 3, 4, 5, 6] rfl ?_
  exact K al' f u v' ((ha 0 0 (by decide)).trans h0) h10' h26' hI' hS'
set_option maxRecDepth 100000 in
set_option maxHeartbeats 4000000 in
theorem law_found_n (X : Cx D ta pl bs 7 p s m args meth c cL_law wsLL RL rt) (hX : ScE b L xs bs s) (hT : ThE bs s) (hfl : l.flags = flags0) (hI : Iv u) (hS : Sim u v) (h0 : al 0 0 = ax) (h10 : al 10 0 = am) (h26 : al 26 0 = ao) (hi : i + 4 ≤ L) (hL : L ≤ 2050) (hc : cells + 1 ≤ 601024) (hs : slots + 8 ≤ 7293000) (K : LK D ta pl bs p l e s m args below meth c Q b ax am ao i (cells + 1) (slots + 8)) {u' v' : St} {rm : Int32} (hI' : Iv u') (hS' : Sim u' v') (hv0 : v' 0 0 = 0) (hx : XR l D ta pl bs yX4_found wsX4_found [.int (xs (i + 1)), .int (xs (i + 2))] u (.int rm) u') (hm : MR l D ta pl bs yX5_found wsX5_found [.int (xs (i + 1)), .int (xs (i + 2))] v (.int rm) v') : WW D bs 7 p l e room_1 s m args below meth c Q al (LW ta pl al f u v) cells slots 357 (lvL b ax am ao i) [] := by
  refine g_aload_n X 1 dL_law_357 rfl rfl ?_
  refine g_arg X hX 0 4 rfl rfl 1 (by omega) hL dL_law_358 dL_law_359 dL_law_361 (by decide) dL_law_362 dL_law_363 ?_
  refine g_arg X hX 0 4 rfl rfl 2 (by omega) hL dL_law_364 dL_law_365 dL_law_367 (by decide) dL_law_368 dL_law_369 ?_
  refine g_aload_n X 3 dL_law_370 rfl rfl ?_
  refine g_callSW (n := 4) X ThE.est hT [.ref ax, .int (xs (i + 1)), .int (xs (i + 2)), .ref ao] (by rw [← h0, ← h26]; exact l_found hx) (goodIn_app (gi_l (fun w hw => gL_law_L_found w (List.mem_append_left _ hw))) (goodIn_app (gi_l ggL_law_L_found) giCt)) rfl rfl rfl (by decide +kernel) ⟨by decide, by decide⟩ rfl (Nat.le_of_ble_eq_true rfl) dL_law_371 ⟨hc, hs⟩ _ rfl ?_
  intro rv al' C' hp
  obtain ⟨rfl, ha, f', hf', rfl⟩ := hp
  have h10' := (ha 10 0 (by decide)).trans h10
  have h26' := (ha 26 0 (by decide)).trans h26
  refine g_istore X [(5, .int 0), (0, .ref b), (1, .ref ax), (2, .ref am), (3, .ref ao), (4, .int (nI i))] dL_law_374 (by decide) rfl ?_
  refine g_aload_n X 3 dL_law_376 rfl rfl ?_
  refine g_arg X hX 1 5 rfl rfl 1 (by omega) hL dL_law_377 dL_law_378 dL_law_380 (by decide) dL_law_381 dL_law_382 ?_
  refine g_arg X hX 1 5 rfl rfl 2 (by omega) hL dL_law_383 dL_law_384 dL_law_386 (by decide) dL_law_387 dL_law_388 ?_
  refine g_wo (C1 := mM (mC (ZL ta f') ta pl al' u') ta al' v) mC_mM ?_
  refine g_callDV1 (n := 2) X 10 0 [.int (xs (i + 1)), .int (xs (i + 2))] cm10 rfl (hm (mC (ZL ta f') ta pl al' u') al') (gi_l gL_law_X5_found) rfl ⟨rfl, rfl⟩ (by decide +kernel) ⟨by decide, by decide⟩ rfl (Nat.le_of_ble_eq_true rfl) dL_law_389 ⟨hc, hs⟩ _ (by rw [h10']; rfl) ?_
  refine g_wo (C1 := LW ta pl al' f' u' v') mC_mM.symm ?_
  refine g_istore X [(6, .int rm), (5, .int 0), (0, .ref b), (1, .ref ax), (2, .ref am), (3, .ref ao), (4, .int (nI i))] dL_law_392 (by decide) rfl ?_
  refine g_aload_n X 4 dL_law_394 rfl rfl ?_
  refine g_wo (C1 := mM (mC (ZL ta f') ta pl al' u') ta al' v') mC_mM ?_
  refine g_callDV1 (n := 0) X 10 0 [] cm10 rfl (m_thrown (Z := mC (ZL ta f') ta pl al' u') (al := al')) (gi_l gL_law_X5_thrown) rfl ⟨rfl, rfl⟩ (by decide +kernel) ⟨by decide, by decide⟩ rfl (Nat.le_of_ble_eq_true rfl) dL_law_395 ⟨hc, hs⟩ _ (by rw [h10']; rfl) ?_
  refine g_wo (C1 := LW ta pl al' f' u' v') mC_mM.symm ?_
  refine g_iload X 1 dL_law_398 rfl ?_
  refine g_icmp_eq X 405 dL_law_400 (by decide) (P := True) ⟨fun _ => trivial, fun _ => by rw [hv0]; rfl⟩ (fun _ => ?_) (fun c => absurd trivial c)
  refine g_iload X 1 dL_law_405 rfl ?_
  refine g_if_ne X 422 dL_law_407 (by decide) (P := True) ⟨fun _ => trivial, fun _ => rfl⟩ (fun c => absurd trivial c) (fun _ => ?_)
  refine g_aload_n X 5 dL_law_410 rfl rfl ?_
  refine g_iconst X (v := nI 0) dL_law_411 (by decide) ?_
  rw [← h26']
  refine g_lald X 26 0 LW_26 0 (by decide) (by decide) hf' dL_law_412 ?_
  refine g_iload X 0 dL_law_413 rfl ?_
  refine g_i2l X (v := rm.toInt64) dL_law_415 rfl ?_
  refine g_lcmp X dL_law_416 ?_
  rw [lg_cmp_self]
  refine g_if_eq X 422 dL_law_417 (by decide) (P := True) ⟨fun _ => trivial, fun _ => rfl⟩ (fun _ => ?_) (fun c => absurd trivial c)
  rw [h26']
  refine g_goto X 501 dL_law_422 (by decide) ?_
  refine g_lv (lv' := lvL b ax am ao i) [2, 3, 4, 5, 6] rfl ?_
  exact K al' f' u' v' ((ha 0 0 (by decide)).trans h0) h10' h26' hI' hS'
set_option maxRecDepth 100000 in
set_option maxHeartbeats 4000000 in
theorem law_found_t (X : Cx D ta pl bs 7 p s m args meth c cL_law wsLL RL rt) (hX : ScE b L xs bs s) (hT : ThE bs s) (hfl : l.flags = flags0) (hI : Iv u) (hS : Sim u v) (h0 : al 0 0 = ax) (h10 : al 10 0 = am) (h26 : al 26 0 = ao) (hi : i + 4 ≤ L) (hL : L ≤ 2050) (hc : cells + 1 ≤ 601024) (hs : slots + 8 ≤ 7293000) (K : LK D ta pl bs p l e s m args below meth c Q b ax am ao i (cells + 1) (slots + 8)) {v' : St} {rm : Int32} (hI' : Iv u) (hS' : Sim u v') (hv0 : v' 0 0 = 1) (n : Nat) (hn : xs (i + 1) = nI n) (hn1 : 1 ≤ n) (hn2 : n ≤ u 2 0) (hn3 : u 23 n = 2) (hx : ¬ inR (xs (i + 2)) (u 0 0)) (hm : MR l D ta pl bs yX5_found wsX5_found [.int (xs (i + 1)), .int (xs (i + 2))] v (.int rm) v') : WW D bs 7 p l e room_1 s m args below meth c Q al (LW ta pl al f u v) cells slots 357 (lvL b ax am ao i) [] := by
  refine g_aload_n X 1 dL_law_357 rfl rfl ?_
  refine g_arg X hX 0 4 rfl rfl 1 (by omega) hL dL_law_358 dL_law_359 dL_law_361 (by decide) dL_law_362 dL_law_363 ?_
  refine g_arg X hX 0 4 rfl rfl 2 (by omega) hL dL_law_364 dL_law_365 dL_law_367 (by decide) dL_law_368 dL_law_369 ?_
  refine g_aload_n X 3 dL_law_370 rfl rfl ?_
  refine g_callSW (n := 4) X ThE.est hT [.ref ax, .int (xs (i + 1)), .int (xs (i + 2)), .ref ao] (by rw [← h0, ← h26]; exact (by rw [hn]; exact l_found_t hfl n hI hn1 hn2 hn3 hx)) (goodIn_app (gi_l (fun w hw => gL_law_L_found w (List.mem_append_left _ hw))) (goodIn_app (gi_l ggL_law_L_found) giCt)) rfl rfl rfl (by decide +kernel) ⟨by decide, by decide⟩ rfl (Nat.le_of_ble_eq_true rfl) dL_law_371 ⟨hc, hs⟩ _ rfl ?_
  intro rv al' C' hp
  obtain ⟨rfl, rfl, rfl⟩ := hp
  have ha : ∀ k i, k ≠ 9 → al' k i = al' k i := fun _ _ _ => rfl
  have h10' := (ha 10 0 (by decide)).trans h10
  have h26' := (ha 26 0 (by decide)).trans h26
  refine g_istore X [(5, .int 1), (0, .ref b), (1, .ref ax), (2, .ref am), (3, .ref ao), (4, .int (nI i))] dL_law_374 (by decide) rfl ?_
  refine g_aload_n X 3 dL_law_376 rfl rfl ?_
  refine g_arg X hX 1 5 rfl rfl 1 (by omega) hL dL_law_377 dL_law_378 dL_law_380 (by decide) dL_law_381 dL_law_382 ?_
  refine g_arg X hX 1 5 rfl rfl 2 (by omega) hL dL_law_383 dL_law_384 dL_law_386 (by decide) dL_law_387 dL_law_388 ?_
  refine g_wo (C1 := mM (mC (ZL ta f) ta pl al' u) ta al' v) mC_mM ?_
  refine g_callDV1 (n := 2) X 10 0 [.int (xs (i + 1)), .int (xs (i + 2))] cm10 rfl (hm (mC (ZL ta f) ta pl al' u) al') (gi_l gL_law_X5_found) rfl ⟨rfl, rfl⟩ (by decide +kernel) ⟨by decide, by decide⟩ rfl (Nat.le_of_ble_eq_true rfl) dL_law_389 ⟨hc, hs⟩ _ (by rw [h10']; rfl) ?_
  refine g_wo (C1 := LW ta pl al' f u v') mC_mM.symm ?_
  refine g_istore X [(6, .int rm), (5, .int 1), (0, .ref b), (1, .ref ax), (2, .ref am), (3, .ref ao), (4, .int (nI i))] dL_law_392 (by decide) rfl ?_
  refine g_aload_n X 4 dL_law_394 rfl rfl ?_
  refine g_wo (C1 := mM (mC (ZL ta f) ta pl al' u) ta al' v') mC_mM ?_
  refine g_callDV1 (n := 0) X 10 0 [] cm10 rfl (m_thrown (Z := mC (ZL ta f) ta pl al' u) (al := al')) (gi_l gL_law_X5_thrown) rfl ⟨rfl, rfl⟩ (by decide +kernel) ⟨by decide, by decide⟩ rfl (Nat.le_of_ble_eq_true rfl) dL_law_395 ⟨hc, hs⟩ _ (by rw [h10']; rfl) ?_
  refine g_wo (C1 := LW ta pl al' f u v') mC_mM.symm ?_
  refine g_iload X 1 dL_law_398 rfl ?_
  refine g_icmp_eq X 405 dL_law_400 (by decide) (P := True) ⟨fun _ => trivial, fun _ => by rw [hv0]; rfl⟩ (fun _ => ?_) (fun c => absurd trivial c)
  refine g_iload X 1 dL_law_405 rfl ?_
  refine g_if_ne X 422 dL_law_407 (by decide) (P := False) ⟨fun z => absurd z (by decide), False.elim⟩ (fun _ => ?_) (fun c => c.elim)
  refine g_goto X 501 dL_law_422 (by decide) ?_
  refine g_lv (lv' := lvL b ax am ao i) [2, 3, 4, 5, 6] rfl ?_
  exact K al' f u v' ((ha 0 0 (by decide)).trans h0) h10' h26' hI' hS'
end LAW
