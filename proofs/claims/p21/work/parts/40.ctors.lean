/-! THE CONSTRUCTORS: each from a new object to an object with what it owns -/
def mRC (d C S : Nat) : Room := { frames := d, cells := C, slots := S, locals := 38 * d }
theorem cblind (G : mG) (as : List Value) (ws : va_W) (sz : Nat) : FrameBlind (va_Pc as (fun U => U.heap.size = sz ∧ va_P G.1 vwCl ws U.heap ∧ va_K G.1 vwCl (mtys G) U ∧ va_D (fun _ => True) ws ∧ ∀ q ∈ mnest, va_Nw q U)) := by
  intro a U g mk h
  obtain ⟨h1, h2, h3, h4, h5, h6⟩ := h
  exact ⟨h1, h2, h3, va_K.moved (u := U) (U := U.calling g mk a) (Vm.Alike.refl U.vm) h4, h5, fun q hq => mnest_same hq (s := U) (U := U.calling g mk a) rfl (h6 q hq)⟩
theorem va_D_fst {A : Nat → Prop} {ws ws' : va_W} (hD : va_D A ws) (h : ws.map Prod.fst = ws'.map Prod.fst) : va_D A ws' := by
  have key : ∀ (k : Nat) (q : Nat × va_E), ws'[k]? = some q → ∃ p, ws[k]? = some p ∧ p.1 = q.1 := by
    intro k q hk
    have e : (ws.map Prod.fst)[k]? = (ws'.map Prod.fst)[k]? := by rw [h]
    rw [List.getElem?_map, List.getElem?_map, hk] at e
    cases hw : ws[k]? with
    | none => rw [hw] at e; cases e
    | some p => rw [hw] at e; exact ⟨p, rfl, Option.some.inj e⟩
  refine ⟨fun i j p q hi hj hpq => ?_, fun k q hk => ?_⟩
  · obtain ⟨p', h1, h2⟩ := key i p hi
    obtain ⟨q', h3, h4⟩ := key j q hj
    exact hD.1 i j p' q' h1 h3 (by rw [h2, h4]; exact hpq)
  · obtain ⟨p', h1, h2⟩ := key k q hk
    rw [← h2]; exact hD.2 k p' h1
/-- a call over the two cells of a plan, from a frame that knows more -/
theorem call_two {p : Program} {l : Launch} {e : Env} {R : Room} {s : State} {m : MethodId} {args : Array Value} {below : List Frame} {meth : Method} {c : Code} {H0 H : Heap} {locs : List Loc} {cells slots : Nat} {Q : State → Prop} {G : mG} {Q1 : Option mV → mW → Prop} {a : Array Value} {A0 : Nat → Prop} {pc : Nat} {ls : Array Slot} {st0 rest : List Value}
    (hr : va_Run p l e R s m args below meth c H locs cells slots 0 0 (F0 m pc ls st0) rest (mQq G Q1 a) (mAq G)) (hS : va_S A0 H0 H locs) (hA : ∀ q, mAq G q → A0 q)
    (next : ∀ v w', Q1 v w' → ∀ (H1 : Heap) (locs1 : List Loc), va_P G.1 vwCl (mwsq G w') H1 → va_S A0 H0 H1 locs1 → W p l e R s m args below meth c H1 locs1 cells slots Q (F0 m (pc + 3) ls ((v.map (mtr G)).toList ++ rest))) : W p l e R s m args below meth c H locs cells slots Q (F0 m pc ls st0) := by
  intro T hT X
  obtain ⟨v, st₀, t, T', LL, h0, X', hL, e1, e2, ⟨⟨v', w', hv, hq, hb⟩, hz, hk⟩, stp⟩ := hr T hT X
  cases hv
  rw [h0] at hz hk
  have hS' : va_S A0 H0 T'.heap (locs ++ LL) := by
    refine ⟨Nat.le_trans hS.1 (by rw [e1]; exact hz), fun q h1 h2 => ?_, fun q hq => ?_⟩
    · rw [e1, hk q (Nat.lt_of_lt_of_le h1 hS.1) (fun h => h2 (hA q h))]; exact hS.2.1 q h1 h2
    · rcases List.mem_append.mp hq with h | h
      · exact hS.2.2 q h
      · exact hA _ (hL q h)
  obtain ⟨t2, a1, b1⟩ := next v' w' hq T'.heap (locs ++ LL) (by rw [e1]; exact hb) hS' T' rfl X'
  exact ⟨t2, stp t2 a1, b1⟩
abbrev zI (G : mG) (t n q : Nat) : Nat × va_E := (q, .inl (mCid G t, n, .inl fun _ : Nat => mI 0))
abbrev zJ (G : mG) (n q : Nat) : Nat × va_E := (q, .inl (mCid G 3, n, .inr (.inl fun _ : Nat => mJ 0)))
abbrev zP (G : mG) (q : Nat) : Nat × va_E := (q, .inl (mCid G 0, 56, .inl fun k : Nat => mI (pclr (fun _ _ => 0) 0 56 1 (k : Int))))
theorem uiX0 : ∀ w ∈ u_ws RX0 TX0 2, w ∈ mgood := fun w h => mgood_in (inX0 w h) (List.all_eq_true.mp (show (u_ws RX0 TX0 2).all goodWord = true by decide +kernel) w h)
theorem uiX1 : ∀ w ∈ u_ws RX1 TX1 1, w ∈ mgood := fun w h => mgood_in (inX1 w h) (List.all_eq_true.mp (show (u_ws RX1 TX1 1).all goodWord = true by decide +kernel) w h)
theorem uiX3 : ∀ w ∈ u_ws RX3 TX3 1, w ∈ mgood := fun w h => mgood_in (inX3 w h) (List.all_eq_true.mp (show (u_ws RX3 TX3 1).all goodWord = true by decide +kernel) w h)
theorem uiX4 : ∀ w ∈ u_ws RX4 TX4 7, w ∈ mgood := fun w h => mgood_in (inX4 w h) (List.all_eq_true.mp (show (u_ws RX4 TX4 7).all goodWord = true by decide +kernel) w h)
theorem uiX5 : ∀ w ∈ u_ws RX5 TX5 4, w ∈ mgood := fun w h => mgood_in (inX5 w h) (List.all_eq_true.mp (show (u_ws RX5 TX5 4).all goodWord = true by decide +kernel) w h)
theorem uiX6 : ∀ w ∈ u_ws RX6 TX6 8, w ∈ mgood := fun w h => mgood_in (inX6 w h) (List.all_eq_true.mp (show (u_ws RX6 TX6 8).all goodWord = true by decide +kernel) w h)
theorem uiX7 : ∀ w ∈ u_ws RX7 TX7 8, w ∈ mgood := fun w h => mgood_in (inX7 w h) (List.all_eq_true.mp (show (u_ws RX7 TX7 8).all goodWord = true by decide +kernel) w h)
theorem uiX8 : ∀ w ∈ u_ws RX8 TX8 9, w ∈ mgood := fun w h => mgood_in (inX8 w h) (List.all_eq_true.mp (show (u_ws RX8 TX8 9).all goodWord = true by decide +kernel) w h)
theorem wi_40 : Cond.methodLink RX3 3 objectInit ∈ mgood := mgood_in (w := Cond.methodLink RX3 3 objectInit) (List.mem_of_getElem? (i := 40) (by decide +kernel)) rfl
theorem wi_33 : Cond.instanceMethod objectInit ∈ mgood := mgood_in (w := Cond.instanceMethod objectInit) (List.mem_of_getElem? (i := 33) (by decide +kernel)) rfl
theorem wi_34 : Cond.code objectInit ⟨#[0xb1]⟩ 1 none ∈ mgood := mgood_in (w := Cond.code objectInit ⟨#[0xb1]⟩ 1 none) (List.mem_of_getElem? (i := 34) (by decide +kernel)) rfl
theorem wi_63 : Cond.arrayClass .int ∈ mgood := mgood_in (w := Cond.arrayClass .int) (List.mem_of_getElem? (i := 63) (by decide +kernel)) rfl
theorem wi_59 : Cond.fieldLink RX3 11 "MirroredTalks$Plan" "cells" "[I" ∈ mgood := mgood_in (w := Cond.fieldLink RX3 11 "MirroredTalks$Plan" "cells" "[I") (List.mem_of_getElem? (i := 59) (by decide +kernel)) rfl
set_option maxHeartbeats 4000000 in
set_option maxRecDepth 100000 in
theorem c_X3_init (l : Launch) (G : mG) (h0 sz : Nat) : Met l yX3_init (Cond.code yX3_init cX3_init 1 none :: mgood) (mRC 3 1 56) (va_Pc [.ref h0] (fun U => U.heap.size = sz ∧ va_P G.1 vwCl [(h0, .inr (2, [.null]))] U.heap ∧ va_K G.1 vwCl (mtys G) U ∧ va_D (fun _ => True) [(h0, .inr (2, [.null]))] ∧ ∀ q ∈ mnest, va_Nw q U)) (va_Qv (fun _ : Unit => True) (fun _ t => ∃ (q1 : Nat), va_P G.1 vwCl [(h0, .inr (2, [.ref q1])), zP G q1] t.heap ∧ va_D (va_A [(h0, .inr (2, [.null]))] sz) [(h0, .inr (2, [.ref q1])), zP G q1]) (va_A [(h0, .inr (2, [.null]))] sz)) 1 56 (va_A [(h0, .inr (2, [.null]))] sz) := by
  refine Met.ofW (cc := cX3_init) (maxL := 1) (ret := none) (by decide) rfl ?_
  intro p e s m args below meth c s₁ B hml hv
  obtain ⟨rfl, hsz, hP, hK, hD0, hN⟩ := hv
  have hx := B.exec
  have hb := B.bytes
  have hr := B.returns
  have hts := atoms_spec (ws := Cond.code yX3_init cX3_init 1 none :: mgood) B.pre
  have ht := fun w hw => hts w (List.mem_cons_of_mem _ hw)
  have hown : s.vm.findClass RX3 = some m.cls := findClass_of_methodNamed B.named
  have hlocks := B.notSynchronized
  have hin : meth.name = "<init>" := (name_of_methodNamed B.named B.method).1
  subst hsz
  have hD := hD0.self (sz := s.heap.size)
  generalize hAe : va_A [(h0, .inr (2, [.null]))] s.heap.size = A at hD ⊢
  have hA : ∀ q : Nat, s.heap.size ≤ q → A q := fun q h => by rw [← hAe]; exact Or.inr h
  have hS : va_S A s.heap s.heap [] := va_S.rf
  have hP : va_P G.1 vwCl [(h0, .inr (2, [.null]))] s.heap := hP
  have hl := lv_entry ([.ref h0]) (n := 1) (Nat.le_of_ble_eq_true rfl)
  rw [lg_entry_eq]
  generalize (lg_sl ([.ref h0]) ++ List.replicate (1 - (lg_sl ([.ref h0])).length) Slot.unset).toArray = ls at hl ⊢
  have hl : lv_has ls 1 [(0, .ref h0)] := hl
  refine lv_aload_n hx hb dX3_init_0 rfl (lv_at hl 0 rfl) ?_
  refine W.objInit hx hb hown (ht _ wi_40) (ht _ wi_33) (ht _ wi_34) rfl (by rw [hml]; exact hl.1) rfl dX3_init_1 (Nat.le_of_ble_eq_true rfl) (Nat.le_of_ble_eq_true rfl) ?_
  refine W.eq (g2 := F0 m 4 ls []) rfl ?_
  refine lv_aload_n hx hb dX3_init_4 rfl (lv_at hl 0 rfl) ?_
  refine lv_bipush (v := mI 56) hx hb dX3_init_5 (by decide) ?_
  refine va_newa (atype := .int) (ty := .int) (N' := 56) (a0 := (56, .inl fun _ : Nat => mI 0)) hx hb (ht _ wi_63) rfl hK hP hD hS hA (fun _ => rfl) (by decide) rfl (by decide) (Nat.le_of_ble_eq_true rfl) (Nat.le_of_ble_eq_true rfl) dX3_init_7 (fun q1 cA H hK9 hP hD hS => ?_)
  obtain rfl : cA = mCid G 0 := Option.some.inj ((hK9.2 4 _ rfl).2.symm.trans (hK.2 0 _ rfl).2)
  have hP : va_P G.1 vwCl [(h0, .inr (2, [.null])), zI G 0 56 q1] H := hP
  have hD : va_D A [(h0, .inr (2, [.null])), zI G 0 56 q1] := hD
  refine va_putF (D := G.1) (ci := 2) (v := .ref q1) (ty := (tyX3 0)) (C := RX3) (T := TX3) (N := 1) hx hb ht uiX3 tyX3 tyX3_ok nmX3 hown hK hP hD hS 0 rfl rfl 0 (by decide) (ht _ wi_59) (fun _ h9 => h9) rfl hin rfl (by decide +kernel) rfl rfl (Nat.le_of_ble_eq_true rfl) dX3_init_9 (fun H locs hP hD hS => ?_)
  have hP : va_P G.1 vwCl [(h0, .inr (2, [.ref q1])), zI G 0 56 q1] H := hP
  have hD : va_D A [(h0, .inr (2, [.ref q1])), zI G 0 56 q1] := hD
  refine lv_aload_n hx hb dX3_init_12 rfl (lv_at hl 0 rfl) ?_
  obtain ⟨G2, hG2⟩ : ∃ G2 : mG, G2 = (G.1, (fun i => if i = 0 then h0 else q1), G.2.2.1, G.2.2.2.1, G.2.2.2.2.1, G.2.2.2.2.2.1, []) := ⟨_, rfl⟩
  have hM := s_X3_clearq (l := l) (G := G2) (w := fun _ _ => 0) planIxq0
  subst hG2
  obtain ⟨k1, k2, k3, k4, k5⟩ := cv_X3_15
  have cb := callB_of (R := mRC 3 1 56) (own := RX3) (index := 15) (y := yX3_clear) (bytes := cX3_clear) (maxL := 3) (ret := none) (rm := mR 2) (mc := 0) (ms := 0) 0 ht (mgoodIn _ _ _ _ kc_X3_clear) rfl rfl rfl (ht _ k4) (ht _ k1) k5 ⟨Nat.le_of_ble_eq_true rfl, Nat.le_of_ble_eq_true rfl⟩
  refine call_two (va_runV (C := RX3) (b := h0) (As := []) (rest := []) ⟨hx, hb, hml, hown, ht⟩ hM ⟨cb, ht _ k2, ht _ k3⟩ ⟨mblindq [mvR 0], va_recv hK hP (ci := 2) (q0 := 0) rfl rfl, fun U hU hW => ⟨rfl, by rw [hU]; exact hP, va_K.moved hW.alike hK, hD.weaken (fun _ _ _ _ => trivial), fun q hq => mnest_warm hq hW (hN q hq)⟩⟩ rfl rfl hl.1 rfl (lv_room (Nat.le_of_ble_eq_true rfl)) dX3_init_13 ⟨Nat.le_of_ble_eq_true rfl, Nat.le_of_ble_eq_true rfl⟩) hS (fun z hz => ?_) (fun v w2 hv H locs hP hS => ?_)
  · obtain ⟨i, hi, rfl⟩ := hz
    have hi : i < 2 := hi
    rcases (show i = 0 ∨ i = 1 by omega) with rfl | rfl
    · exact hD.2 0 _ rfl
    · exact hD.2 1 _ rfl
  obtain ⟨rfl, rfl⟩ := hv
  have hP : va_P G.1 vwCl [(h0, .inr (2, [.ref q1])), zP G q1] H := hP
  have hD : va_D A [(h0, .inr (2, [.ref q1])), zP G q1] := va_D_fst hD rfl
  refine W.widen (k := 1) (n := 56) (Nat.le_of_ble_eq_true rfl) (Nat.le_of_ble_eq_true rfl) ?_
  exact W.vret hx hb hr (fun t ht9 hW => ⟨⟨(), rfl, trivial, q1, by rw [ht9]; exact hP, hD⟩, hS.F ht9⟩) hS.2.2 dX3_init_16
theorem wi_69 : Cond.methodLink RX0 3 objectInit ∈ mgood := mgood_in (w := Cond.methodLink RX0 3 objectInit) (List.mem_of_getElem? (i := 69) (by decide +kernel)) rfl
theorem wi_70 : Cond.fieldLink RX0 11 "MirroredTalks$History" "entries" "[I" ∈ mgood := mgood_in (w := Cond.fieldLink RX0 11 "MirroredTalks$History" "entries" "[I") (List.mem_of_getElem? (i := 70) (by decide +kernel)) rfl
set_option maxHeartbeats 4000000 in
set_option maxRecDepth 100000 in
theorem c_X0_init (l : Launch) (G : mG) (h0 sz : Nat) : Met l yX0_init (Cond.code yX0_init cX0_init 1 none :: mgood) (mRC 1 1 672) (va_Pc [.ref h0] (fun U => U.heap.size = sz ∧ va_P G.1 vwCl [(h0, .inr (0, [.null, .int 0]))] U.heap ∧ va_K G.1 vwCl (mtys G) U ∧ va_D (fun _ => True) [(h0, .inr (0, [.null, .int 0]))] ∧ ∀ q ∈ mnest, va_Nw q U)) (va_Qv (fun _ : Unit => True) (fun _ t => ∃ (q1 : Nat), va_P G.1 vwCl [(h0, .inr (0, [.ref q1, .int 0])), zI G 0 672 q1] t.heap ∧ va_D (va_A [(h0, .inr (0, [.null, .int 0]))] sz) [(h0, .inr (0, [.ref q1, .int 0])), zI G 0 672 q1]) (va_A [(h0, .inr (0, [.null, .int 0]))] sz)) 1 672 (va_A [(h0, .inr (0, [.null, .int 0]))] sz) := by
  refine Met.ofW (cc := cX0_init) (maxL := 1) (ret := none) (by decide) rfl ?_
  intro p e s m args below meth c s₁ B hml hv
  obtain ⟨rfl, hsz, hP, hK, hD0, hN⟩ := hv
  have hx := B.exec
  have hb := B.bytes
  have hr := B.returns
  have hts := atoms_spec (ws := Cond.code yX0_init cX0_init 1 none :: mgood) B.pre
  have ht := fun w hw => hts w (List.mem_cons_of_mem _ hw)
  have hown : s.vm.findClass RX0 = some m.cls := findClass_of_methodNamed B.named
  have hlocks := B.notSynchronized
  have hin : meth.name = "<init>" := (name_of_methodNamed B.named B.method).1
  subst hsz
  have hD := hD0.self (sz := s.heap.size)
  generalize hAe : va_A [(h0, .inr (0, [.null, .int 0]))] s.heap.size = A at hD ⊢
  have hA : ∀ q : Nat, s.heap.size ≤ q → A q := fun q h => by rw [← hAe]; exact Or.inr h
  have hS : va_S A s.heap s.heap [] := va_S.rf
  have hP : va_P G.1 vwCl [(h0, .inr (0, [.null, .int 0]))] s.heap := hP
  have hl := lv_entry ([.ref h0]) (n := 1) (Nat.le_of_ble_eq_true rfl)
  rw [lg_entry_eq]
  generalize (lg_sl ([.ref h0]) ++ List.replicate (1 - (lg_sl ([.ref h0])).length) Slot.unset).toArray = ls at hl ⊢
  have hl : lv_has ls 1 [(0, .ref h0)] := hl
  refine lv_aload_n hx hb dX0_init_0 rfl (lv_at hl 0 rfl) ?_
  refine W.objInit hx hb hown (ht _ wi_69) (ht _ wi_33) (ht _ wi_34) rfl (by rw [hml]; exact hl.1) rfl dX0_init_1 (Nat.le_of_ble_eq_true rfl) (Nat.le_of_ble_eq_true rfl) ?_
  refine W.eq (g2 := F0 m 4 ls []) rfl ?_
  refine lv_aload_n hx hb dX0_init_4 rfl (lv_at hl 0 rfl) ?_
  refine lv_sipush (v := mI 672) hx hb dX0_init_5 (by decide) ?_
  refine va_newa (atype := .int) (ty := .int) (N' := 672) (a0 := (672, .inl fun _ : Nat => mI 0)) hx hb (ht _ wi_63) rfl hK hP hD hS hA (fun _ => rfl) (by decide) rfl (by decide) (Nat.le_of_ble_eq_true rfl) (Nat.le_of_ble_eq_true rfl) dX0_init_8 (fun q1 cA H hK9 hP hD hS => ?_)
  obtain rfl : cA = mCid G 0 := Option.some.inj ((hK9.2 4 _ rfl).2.symm.trans (hK.2 0 _ rfl).2)
  have hP : va_P G.1 vwCl [(h0, .inr (0, [.null, .int 0])), zI G 0 672 q1] H := hP
  have hD : va_D A [(h0, .inr (0, [.null, .int 0])), zI G 0 672 q1] := hD
  refine va_putF (D := G.1) (ci := 0) (v := .ref q1) (ty := (tyX0 0)) (C := RX0) (T := TX0) (N := 2) hx hb ht uiX0 tyX0 tyX0_ok nmX0 hown hK hP hD hS 0 rfl rfl 0 (by decide) (ht _ wi_70) (fun _ h9 => h9) rfl hin rfl (by decide +kernel) rfl rfl (Nat.le_of_ble_eq_true rfl) dX0_init_10 (fun H locs hP hD hS => ?_)
  have hP : va_P G.1 vwCl [(h0, .inr (0, [.ref q1, .int 0])), zI G 0 672 q1] H := hP
  have hD : va_D A [(h0, .inr (0, [.ref q1, .int 0])), zI G 0 672 q1] := hD
  refine W.widen (k := 1) (n := 672) (Nat.le_of_ble_eq_true rfl) (Nat.le_of_ble_eq_true rfl) ?_
  exact W.vret hx hb hr (fun t ht9 hW => ⟨⟨(), rfl, trivial, q1, by rw [ht9]; exact hP, hD⟩, hS.F ht9⟩) hS.2.2 dX0_init_13
theorem wi_112 : Cond.methodLink RX1 3 objectInit ∈ mgood := mgood_in (w := Cond.methodLink RX1 3 objectInit) (List.mem_of_getElem? (i := 112) (by decide +kernel)) rfl
theorem wi_117 : Cond.arrayClass .boolean ∈ mgood := mgood_in (w := Cond.arrayClass .boolean) (List.mem_of_getElem? (i := 117) (by decide +kernel)) rfl
theorem wi_113 : Cond.fieldLink RX1 9 "MirroredTalks$Likeness" "alike" "[Z" ∈ mgood := mgood_in (w := Cond.fieldLink RX1 9 "MirroredTalks$Likeness" "alike" "[Z") (List.mem_of_getElem? (i := 113) (by decide +kernel)) rfl
set_option maxHeartbeats 4000000 in
set_option maxRecDepth 100000 in
theorem c_X1_init (l : Launch) (G : mG) (h0 sz : Nat) : Met l yX1_init (Cond.code yX1_init cX1_init 1 none :: mgood) (mRC 1 1 64) (va_Pc [.ref h0] (fun U => U.heap.size = sz ∧ va_P G.1 vwCl [(h0, .inr (1, [.null]))] U.heap ∧ va_K G.1 vwCl (mtys G) U ∧ va_D (fun _ => True) [(h0, .inr (1, [.null]))] ∧ ∀ q ∈ mnest, va_Nw q U)) (va_Qv (fun _ : Unit => True) (fun _ t => ∃ (q1 : Nat), va_P G.1 vwCl [(h0, .inr (1, [.ref q1])), zI G 1 64 q1] t.heap ∧ va_D (va_A [(h0, .inr (1, [.null]))] sz) [(h0, .inr (1, [.ref q1])), zI G 1 64 q1]) (va_A [(h0, .inr (1, [.null]))] sz)) 1 64 (va_A [(h0, .inr (1, [.null]))] sz) := by
  refine Met.ofW (cc := cX1_init) (maxL := 1) (ret := none) (by decide) rfl ?_
  intro p e s m args below meth c s₁ B hml hv
  obtain ⟨rfl, hsz, hP, hK, hD0, hN⟩ := hv
  have hx := B.exec
  have hb := B.bytes
  have hr := B.returns
  have hts := atoms_spec (ws := Cond.code yX1_init cX1_init 1 none :: mgood) B.pre
  have ht := fun w hw => hts w (List.mem_cons_of_mem _ hw)
  have hown : s.vm.findClass RX1 = some m.cls := findClass_of_methodNamed B.named
  have hlocks := B.notSynchronized
  have hin : meth.name = "<init>" := (name_of_methodNamed B.named B.method).1
  subst hsz
  have hD := hD0.self (sz := s.heap.size)
  generalize hAe : va_A [(h0, .inr (1, [.null]))] s.heap.size = A at hD ⊢
  have hA : ∀ q : Nat, s.heap.size ≤ q → A q := fun q h => by rw [← hAe]; exact Or.inr h
  have hS : va_S A s.heap s.heap [] := va_S.rf
  have hP : va_P G.1 vwCl [(h0, .inr (1, [.null]))] s.heap := hP
  have hl := lv_entry ([.ref h0]) (n := 1) (Nat.le_of_ble_eq_true rfl)
  rw [lg_entry_eq]
  generalize (lg_sl ([.ref h0]) ++ List.replicate (1 - (lg_sl ([.ref h0])).length) Slot.unset).toArray = ls at hl ⊢
  have hl : lv_has ls 1 [(0, .ref h0)] := hl
  refine lv_aload_n hx hb dX1_init_0 rfl (lv_at hl 0 rfl) ?_
  refine W.objInit hx hb hown (ht _ wi_112) (ht _ wi_33) (ht _ wi_34) rfl (by rw [hml]; exact hl.1) rfl dX1_init_1 (Nat.le_of_ble_eq_true rfl) (Nat.le_of_ble_eq_true rfl) ?_
  refine W.eq (g2 := F0 m 4 ls []) rfl ?_
  refine lv_aload_n hx hb dX1_init_4 rfl (lv_at hl 0 rfl) ?_
  refine lv_bipush (v := mI 64) hx hb dX1_init_5 (by decide) ?_
  refine va_newa (atype := .boolean) (ty := .boolean) (N' := 64) (a0 := (64, .inl fun _ : Nat => mI 0)) hx hb (ht _ wi_117) rfl hK hP hD hS hA (fun _ => rfl) (by decide) rfl (by decide) (Nat.le_of_ble_eq_true rfl) (Nat.le_of_ble_eq_true rfl) dX1_init_7 (fun q1 cA H hK9 hP hD hS => ?_)
  obtain rfl : cA = mCid G 1 := Option.some.inj ((hK9.2 4 _ rfl).2.symm.trans (hK.2 1 _ rfl).2)
  have hP : va_P G.1 vwCl [(h0, .inr (1, [.null])), zI G 1 64 q1] H := hP
  have hD : va_D A [(h0, .inr (1, [.null])), zI G 1 64 q1] := hD
  refine va_putF (D := G.1) (ci := 1) (v := .ref q1) (ty := (tyX1 0)) (C := RX1) (T := TX1) (N := 1) hx hb ht uiX1 tyX1 tyX1_ok nmX1 hown hK hP hD hS 0 rfl rfl 0 (by decide) (ht _ wi_113) (fun _ h9 => h9) rfl hin rfl (by decide +kernel) rfl rfl (Nat.le_of_ble_eq_true rfl) dX1_init_9 (fun H locs hP hD hS => ?_)
  have hP : va_P G.1 vwCl [(h0, .inr (1, [.ref q1])), zI G 1 64 q1] H := hP
  have hD : va_D A [(h0, .inr (1, [.ref q1])), zI G 1 64 q1] := hD
  refine W.widen (k := 1) (n := 64) (Nat.le_of_ble_eq_true rfl) (Nat.le_of_ble_eq_true rfl) ?_
  exact W.vret hx hb hr (fun t ht9 hW => ⟨⟨(), rfl, trivial, q1, by rw [ht9]; exact hP, hD⟩, hS.F ht9⟩) hS.2.2 dX1_init_12
theorem wi_157 : Cond.methodLink RX5 3 objectInit ∈ mgood := mgood_in (w := Cond.methodLink RX5 3 objectInit) (List.mem_of_getElem? (i := 157) (by decide +kernel)) rfl
theorem wi_158 : Cond.fieldLink RX5 9 "MirroredTalks$RowCount" "openWays" "[I" ∈ mgood := mgood_in (w := Cond.fieldLink RX5 9 "MirroredTalks$RowCount" "openWays" "[I") (List.mem_of_getElem? (i := 158) (by decide +kernel)) rfl
theorem wi_171 : Cond.arrayClass .long ∈ mgood := mgood_in (w := Cond.arrayClass .long) (List.mem_of_getElem? (i := 171) (by decide +kernel)) rfl
theorem wi_159 : Cond.fieldLink RX5 15 "MirroredTalks$RowCount" "rows" "[J" ∈ mgood := mgood_in (w := Cond.fieldLink RX5 15 "MirroredTalks$RowCount" "rows" "[J") (List.mem_of_getElem? (i := 159) (by decide +kernel)) rfl
theorem wi_160 : Cond.fieldLink RX5 19 "MirroredTalks$RowCount" "ready" "[I" ∈ mgood := mgood_in (w := Cond.fieldLink RX5 19 "MirroredTalks$RowCount" "ready" "[I") (List.mem_of_getElem? (i := 160) (by decide +kernel)) rfl
set_option maxHeartbeats 4000000 in
set_option maxRecDepth 100000 in
theorem c_X5_init (l : Launch) (G : mG) (h0 sz : Nat) : Met l yX5_init (Cond.code yX5_init cX5_init 1 none :: mgood) (mRC 1 3 192) (va_Pc [.ref h0] (fun U => U.heap.size = sz ∧ va_P G.1 vwCl [(h0, .inr (4, [.null, .null, .null, .int 0]))] U.heap ∧ va_K G.1 vwCl (mtys G) U ∧ va_D (fun _ => True) [(h0, .inr (4, [.null, .null, .null, .int 0]))] ∧ ∀ q ∈ mnest, va_Nw q U)) (va_Qv (fun _ : Unit => True) (fun _ t => ∃ (q1 q2 q3 : Nat), va_P G.1 vwCl [(h0, .inr (4, [.ref q1, .ref q2, .ref q3, .int 0])), zI G 0 64 q1, zJ G 64 q2, zI G 0 64 q3] t.heap ∧ va_D (va_A [(h0, .inr (4, [.null, .null, .null, .int 0]))] sz) [(h0, .inr (4, [.ref q1, .ref q2, .ref q3, .int 0])), zI G 0 64 q1, zJ G 64 q2, zI G 0 64 q3]) (va_A [(h0, .inr (4, [.null, .null, .null, .int 0]))] sz)) 3 192 (va_A [(h0, .inr (4, [.null, .null, .null, .int 0]))] sz) := by
  refine Met.ofW (cc := cX5_init) (maxL := 1) (ret := none) (by decide) rfl ?_
  intro p e s m args below meth c s₁ B hml hv
  obtain ⟨rfl, hsz, hP, hK, hD0, hN⟩ := hv
  have hx := B.exec
  have hb := B.bytes
  have hr := B.returns
  have hts := atoms_spec (ws := Cond.code yX5_init cX5_init 1 none :: mgood) B.pre
  have ht := fun w hw => hts w (List.mem_cons_of_mem _ hw)
  have hown : s.vm.findClass RX5 = some m.cls := findClass_of_methodNamed B.named
  have hlocks := B.notSynchronized
  have hin : meth.name = "<init>" := (name_of_methodNamed B.named B.method).1
  subst hsz
  have hD := hD0.self (sz := s.heap.size)
  generalize hAe : va_A [(h0, .inr (4, [.null, .null, .null, .int 0]))] s.heap.size = A at hD ⊢
  have hA : ∀ q : Nat, s.heap.size ≤ q → A q := fun q h => by rw [← hAe]; exact Or.inr h
  have hS : va_S A s.heap s.heap [] := va_S.rf
  have hP : va_P G.1 vwCl [(h0, .inr (4, [.null, .null, .null, .int 0]))] s.heap := hP
  have hl := lv_entry ([.ref h0]) (n := 1) (Nat.le_of_ble_eq_true rfl)
  rw [lg_entry_eq]
  generalize (lg_sl ([.ref h0]) ++ List.replicate (1 - (lg_sl ([.ref h0])).length) Slot.unset).toArray = ls at hl ⊢
  have hl : lv_has ls 1 [(0, .ref h0)] := hl
  refine lv_aload_n hx hb dX5_init_0 rfl (lv_at hl 0 rfl) ?_
  refine W.objInit hx hb hown (ht _ wi_157) (ht _ wi_33) (ht _ wi_34) rfl (by rw [hml]; exact hl.1) rfl dX5_init_1 (Nat.le_of_ble_eq_true rfl) (Nat.le_of_ble_eq_true rfl) ?_
  refine W.eq (g2 := F0 m 4 ls []) rfl ?_
  refine lv_aload_n hx hb dX5_init_4 rfl (lv_at hl 0 rfl) ?_
  refine lv_bipush (v := mI 64) hx hb dX5_init_5 (by decide) ?_
  refine va_newa (atype := .int) (ty := .int) (N' := 64) (a0 := (64, .inl fun _ : Nat => mI 0)) hx hb (ht _ wi_63) rfl hK hP hD hS hA (fun _ => rfl) (by decide) rfl (by decide) (Nat.le_of_ble_eq_true rfl) (Nat.le_of_ble_eq_true rfl) dX5_init_7 (fun q1 cA H hK9 hP hD hS => ?_)
  obtain rfl : cA = mCid G 0 := Option.some.inj ((hK9.2 4 _ rfl).2.symm.trans (hK.2 0 _ rfl).2)
  have hP : va_P G.1 vwCl [(h0, .inr (4, [.null, .null, .null, .int 0])), zI G 0 64 q1] H := hP
  have hD : va_D A [(h0, .inr (4, [.null, .null, .null, .int 0])), zI G 0 64 q1] := hD
  refine va_putF (D := G.1) (ci := 4) (v := .ref q1) (ty := (tyX5 0)) (C := RX5) (T := TX5) (N := 4) hx hb ht uiX5 tyX5 tyX5_ok nmX5 hown hK hP hD hS 0 rfl rfl 0 (by decide) (ht _ wi_158) (fun _ h9 => h9) rfl hin rfl (by decide +kernel) rfl rfl (Nat.le_of_ble_eq_true rfl) dX5_init_9 (fun H locs hP hD hS => ?_)
  have hP : va_P G.1 vwCl [(h0, .inr (4, [.ref q1, .null, .null, .int 0])), zI G 0 64 q1] H := hP
  have hD : va_D A [(h0, .inr (4, [.ref q1, .null, .null, .int 0])), zI G 0 64 q1] := hD
  refine lv_aload_n hx hb dX5_init_12 rfl (lv_at hl 0 rfl) ?_
  refine lv_bipush (v := mI 64) hx hb dX5_init_13 (by decide) ?_
  refine va_newa (atype := .long) (ty := .long) (N' := 64) (a0 := (64, .inr (.inl fun _ : Nat => mJ 0))) hx hb (ht _ wi_171) rfl hK hP hD hS hA (fun _ => rfl) (by decide) rfl (by decide) (Nat.le_of_ble_eq_true rfl) (Nat.le_of_ble_eq_true rfl) dX5_init_15 (fun q2 cA H hK9 hP hD hS => ?_)
  obtain rfl : cA = mCid G 3 := Option.some.inj ((hK9.2 4 _ rfl).2.symm.trans (hK.2 3 _ rfl).2)
  have hP : va_P G.1 vwCl [(h0, .inr (4, [.ref q1, .null, .null, .int 0])), zI G 0 64 q1, zJ G 64 q2] H := hP
  have hD : va_D A [(h0, .inr (4, [.ref q1, .null, .null, .int 0])), zI G 0 64 q1, zJ G 64 q2] := hD
  refine va_putF (D := G.1) (ci := 4) (v := .ref q2) (ty := (tyX5 1)) (C := RX5) (T := TX5) (N := 4) hx hb ht uiX5 tyX5 tyX5_ok nmX5 hown hK hP hD hS 0 rfl rfl 1 (by decide) (ht _ wi_159) (fun _ h9 => h9) rfl hin rfl (by decide +kernel) rfl rfl (Nat.le_of_ble_eq_true rfl) dX5_init_17 (fun H locs hP hD hS => ?_)
  have hP : va_P G.1 vwCl [(h0, .inr (4, [.ref q1, .ref q2, .null, .int 0])), zI G 0 64 q1, zJ G 64 q2] H := hP
  have hD : va_D A [(h0, .inr (4, [.ref q1, .ref q2, .null, .int 0])), zI G 0 64 q1, zJ G 64 q2] := hD
  refine lv_aload_n hx hb dX5_init_20 rfl (lv_at hl 0 rfl) ?_
  refine lv_bipush (v := mI 64) hx hb dX5_init_21 (by decide) ?_
  refine va_newa (atype := .int) (ty := .int) (N' := 64) (a0 := (64, .inl fun _ : Nat => mI 0)) hx hb (ht _ wi_63) rfl hK hP hD hS hA (fun _ => rfl) (by decide) rfl (by decide) (Nat.le_of_ble_eq_true rfl) (Nat.le_of_ble_eq_true rfl) dX5_init_23 (fun q3 cA H hK9 hP hD hS => ?_)
  obtain rfl : cA = mCid G 0 := Option.some.inj ((hK9.2 4 _ rfl).2.symm.trans (hK.2 0 _ rfl).2)
  have hP : va_P G.1 vwCl [(h0, .inr (4, [.ref q1, .ref q2, .null, .int 0])), zI G 0 64 q1, zJ G 64 q2, zI G 0 64 q3] H := hP
  have hD : va_D A [(h0, .inr (4, [.ref q1, .ref q2, .null, .int 0])), zI G 0 64 q1, zJ G 64 q2, zI G 0 64 q3] := hD
  refine va_putF (D := G.1) (ci := 4) (v := .ref q3) (ty := (tyX5 2)) (C := RX5) (T := TX5) (N := 4) hx hb ht uiX5 tyX5 tyX5_ok nmX5 hown hK hP hD hS 0 rfl rfl 2 (by decide) (ht _ wi_160) (fun _ h9 => h9) rfl hin rfl (by decide +kernel) rfl rfl (Nat.le_of_ble_eq_true rfl) dX5_init_25 (fun H locs hP hD hS => ?_)
  have hP : va_P G.1 vwCl [(h0, .inr (4, [.ref q1, .ref q2, .ref q3, .int 0])), zI G 0 64 q1, zJ G 64 q2, zI G 0 64 q3] H := hP
  have hD : va_D A [(h0, .inr (4, [.ref q1, .ref q2, .ref q3, .int 0])), zI G 0 64 q1, zJ G 64 q2, zI G 0 64 q3] := hD
  refine W.widen (k := 3) (n := 192) (Nat.le_of_ble_eq_true rfl) (Nat.le_of_ble_eq_true rfl) ?_
  exact W.vret hx hb hr (fun t ht9 hW => ⟨⟨(), rfl, trivial, q1, q2, q3, by rw [ht9]; exact hP, hD⟩, hS.F ht9⟩) hS.2.2 dX5_init_28
theorem wi_126 : Cond.methodLink RX2 3 objectInit ∈ mgood := mgood_in (w := Cond.methodLink RX2 3 objectInit) (List.mem_of_getElem? (i := 126) (by decide +kernel)) rfl
theorem wi_127 : Cond.fieldLink RX2 9 "MirroredTalks$Pairs" "pairs" "[I" ∈ mgood := mgood_in (w := Cond.fieldLink RX2 9 "MirroredTalks$Pairs" "pairs" "[I") (List.mem_of_getElem? (i := 127) (by decide +kernel)) rfl
theorem wi_128 : Cond.fieldLink RX2 15 "MirroredTalks$Pairs" "positions" "[I" ∈ mgood := mgood_in (w := Cond.fieldLink RX2 15 "MirroredTalks$Pairs" "positions" "[I") (List.mem_of_getElem? (i := 128) (by decide +kernel)) rfl
theorem wi_129 : Cond.fieldLink RX2 18 "MirroredTalks$Pairs" "lengths" "[I" ∈ mgood := mgood_in (w := Cond.fieldLink RX2 18 "MirroredTalks$Pairs" "lengths" "[I") (List.mem_of_getElem? (i := 129) (by decide +kernel)) rfl
theorem wi_130 : Cond.fieldLink RX2 21 "MirroredTalks$Pairs" "origins" "[I" ∈ mgood := mgood_in (w := Cond.fieldLink RX2 21 "MirroredTalks$Pairs" "origins" "[I") (List.mem_of_getElem? (i := 130) (by decide +kernel)) rfl
theorem wi_131 : Cond.fieldLink RX2 24 "MirroredTalks$Pairs" "lastWords" "[I" ∈ mgood := mgood_in (w := Cond.fieldLink RX2 24 "MirroredTalks$Pairs" "lastWords" "[I") (List.mem_of_getElem? (i := 131) (by decide +kernel)) rfl
theorem wi_132 : Cond.fieldLink RX2 27 "MirroredTalks$Pairs" "one" "LMirroredTalks$Plan;" ∈ mgood := mgood_in (w := Cond.fieldLink RX2 27 "MirroredTalks$Pairs" "one" "LMirroredTalks$Plan;") (List.mem_of_getElem? (i := 132) (by decide +kernel)) rfl
theorem wi_133 : Cond.fieldLink RX2 31 "MirroredTalks$Pairs" "other" "LMirroredTalks$Plan;" ∈ mgood := mgood_in (w := Cond.fieldLink RX2 31 "MirroredTalks$Pairs" "other" "LMirroredTalks$Plan;") (List.mem_of_getElem? (i := 133) (by decide +kernel)) rfl
set_option maxHeartbeats 4000000 in
set_option maxRecDepth 100000 in
theorem c_X2_init_X7 (l : Launch) (G : mG) (h0 a0 sz : Nat) : Met l yX2_init (Cond.code yX2_init cX2_init 2 none :: mgood) (mRC 1 5 320) (va_Pc [.ref h0, .ref a0] (fun U => U.heap.size = sz ∧ va_P G.1 vwCl [(h0, .inr (6, [.null, .null, .null, .null, .null, .null, .null, .int 0]))] U.heap ∧ va_K G.1 vwCl (mtys G) U ∧ va_D (fun _ => True) [(h0, .inr (6, [.null, .null, .null, .null, .null, .null, .null, .int 0]))] ∧ ∀ q ∈ mnest, va_Nw q U)) (va_Qv (fun _ : Unit => True) (fun _ t => ∃ (q1 q2 q3 q4 q5 : Nat), va_P G.1 vwCl [(h0, .inr (6, [.ref q1, .ref q2, .ref q3, .ref q4, .ref q5, .ref a0, .ref a0, .int 0])), zI G 0 64 q1, zI G 0 64 q2, zI G 0 64 q3, zI G 0 64 q4, zI G 0 64 q5] t.heap ∧ va_D (va_A [(h0, .inr (6, [.null, .null, .null, .null, .null, .null, .null, .int 0]))] sz) [(h0, .inr (6, [.ref q1, .ref q2, .ref q3, .ref q4, .ref q5, .ref a0, .ref a0, .int 0])), zI G 0 64 q1, zI G 0 64 q2, zI G 0 64 q3, zI G 0 64 q4, zI G 0 64 q5]) (va_A [(h0, .inr (6, [.null, .null, .null, .null, .null, .null, .null, .int 0]))] sz)) 5 320 (va_A [(h0, .inr (6, [.null, .null, .null, .null, .null, .null, .null, .int 0]))] sz) := by
  refine Met.ofW (cc := cX2_init) (maxL := 2) (ret := none) (by decide) rfl ?_
  intro p e s m args below meth c s₁ B hml hv
  obtain ⟨rfl, hsz, hP, hK, hD0, hN⟩ := hv
  have hx := B.exec
  have hb := B.bytes
  have hr := B.returns
  have hts := atoms_spec (ws := Cond.code yX2_init cX2_init 2 none :: mgood) B.pre
  have ht := fun w hw => hts w (List.mem_cons_of_mem _ hw)
  have hown : s.vm.findClass RX2 = some m.cls := findClass_of_methodNamed B.named
  have hlocks := B.notSynchronized
  have hin : meth.name = "<init>" := (name_of_methodNamed B.named B.method).1
  subst hsz
  have hD := hD0.self (sz := s.heap.size)
  generalize hAe : va_A [(h0, .inr (6, [.null, .null, .null, .null, .null, .null, .null, .int 0]))] s.heap.size = A at hD ⊢
  have hA : ∀ q : Nat, s.heap.size ≤ q → A q := fun q h => by rw [← hAe]; exact Or.inr h
  have hS : va_S A s.heap s.heap [] := va_S.rf
  have hP : va_P G.1 vwCl [(h0, .inr (6, [.null, .null, .null, .null, .null, .null, .null, .int 0]))] s.heap := hP
  have hl := lv_entry ([.ref h0, .ref a0]) (n := 2) (Nat.le_of_ble_eq_true rfl)
  rw [lg_entry_eq]
  generalize (lg_sl ([.ref h0, .ref a0]) ++ List.replicate (2 - (lg_sl ([.ref h0, .ref a0])).length) Slot.unset).toArray = ls at hl ⊢
  have hl : lv_has ls 2 [(0, .ref h0), (1, .ref a0)] := hl
  refine lv_aload_n hx hb dX2_init_0 rfl (lv_at hl 0 rfl) ?_
  refine W.objInit hx hb hown (ht _ wi_126) (ht _ wi_33) (ht _ wi_34) rfl (by rw [hml]; exact hl.1) rfl dX2_init_1 (Nat.le_of_ble_eq_true rfl) (Nat.le_of_ble_eq_true rfl) ?_
  refine W.eq (g2 := F0 m 4 ls []) rfl ?_
  refine lv_aload_n hx hb dX2_init_4 rfl (lv_at hl 0 rfl) ?_
  refine lv_bipush (v := mI 64) hx hb dX2_init_5 (by decide) ?_
  refine va_newa (atype := .int) (ty := .int) (N' := 64) (a0 := (64, .inl fun _ : Nat => mI 0)) hx hb (ht _ wi_63) rfl hK hP hD hS hA (fun _ => rfl) (by decide) rfl (by decide) (Nat.le_of_ble_eq_true rfl) (Nat.le_of_ble_eq_true rfl) dX2_init_7 (fun q1 cA H hK9 hP hD hS => ?_)
  obtain rfl : cA = mCid G 0 := Option.some.inj ((hK9.2 4 _ rfl).2.symm.trans (hK.2 0 _ rfl).2)
  have hP : va_P G.1 vwCl [(h0, .inr (6, [.null, .null, .null, .null, .null, .null, .null, .int 0])), zI G 0 64 q1] H := hP
  have hD : va_D A [(h0, .inr (6, [.null, .null, .null, .null, .null, .null, .null, .int 0])), zI G 0 64 q1] := hD
  refine va_putF (D := G.1) (ci := 6) (v := .ref q1) (ty := (tyX7 0)) (C := RX7) (T := TX7) (N := 8) hx hb ht uiX7 tyX7 tyX7_ok nmX7 hown hK hP hD hS 0 rfl rfl 0 (by decide) (ht _ wi_127) (fun _ h9 => h9) rfl hin rfl (by decide +kernel) rfl rfl (Nat.le_of_ble_eq_true rfl) dX2_init_9 (fun H locs hP hD hS => ?_)
  have hP : va_P G.1 vwCl [(h0, .inr (6, [.ref q1, .null, .null, .null, .null, .null, .null, .int 0])), zI G 0 64 q1] H := hP
  have hD : va_D A [(h0, .inr (6, [.ref q1, .null, .null, .null, .null, .null, .null, .int 0])), zI G 0 64 q1] := hD
  refine lv_aload_n hx hb dX2_init_12 rfl (lv_at hl 0 rfl) ?_
  refine lv_bipush (v := mI 64) hx hb dX2_init_13 (by decide) ?_
  refine va_newa (atype := .int) (ty := .int) (N' := 64) (a0 := (64, .inl fun _ : Nat => mI 0)) hx hb (ht _ wi_63) rfl hK hP hD hS hA (fun _ => rfl) (by decide) rfl (by decide) (Nat.le_of_ble_eq_true rfl) (Nat.le_of_ble_eq_true rfl) dX2_init_15 (fun q2 cA H hK9 hP hD hS => ?_)
  obtain rfl : cA = mCid G 0 := Option.some.inj ((hK9.2 4 _ rfl).2.symm.trans (hK.2 0 _ rfl).2)
  have hP : va_P G.1 vwCl [(h0, .inr (6, [.ref q1, .null, .null, .null, .null, .null, .null, .int 0])), zI G 0 64 q1, zI G 0 64 q2] H := hP
  have hD : va_D A [(h0, .inr (6, [.ref q1, .null, .null, .null, .null, .null, .null, .int 0])), zI G 0 64 q1, zI G 0 64 q2] := hD
  refine va_putF (D := G.1) (ci := 6) (v := .ref q2) (ty := (tyX7 1)) (C := RX7) (T := TX7) (N := 8) hx hb ht uiX7 tyX7 tyX7_ok nmX7 hown hK hP hD hS 0 rfl rfl 1 (by decide) (ht _ wi_128) (fun _ h9 => h9) rfl hin rfl (by decide +kernel) rfl rfl (Nat.le_of_ble_eq_true rfl) dX2_init_17 (fun H locs hP hD hS => ?_)
  have hP : va_P G.1 vwCl [(h0, .inr (6, [.ref q1, .ref q2, .null, .null, .null, .null, .null, .int 0])), zI G 0 64 q1, zI G 0 64 q2] H := hP
  have hD : va_D A [(h0, .inr (6, [.ref q1, .ref q2, .null, .null, .null, .null, .null, .int 0])), zI G 0 64 q1, zI G 0 64 q2] := hD
  refine lv_aload_n hx hb dX2_init_20 rfl (lv_at hl 0 rfl) ?_
  refine lv_bipush (v := mI 64) hx hb dX2_init_21 (by decide) ?_
  refine va_newa (atype := .int) (ty := .int) (N' := 64) (a0 := (64, .inl fun _ : Nat => mI 0)) hx hb (ht _ wi_63) rfl hK hP hD hS hA (fun _ => rfl) (by decide) rfl (by decide) (Nat.le_of_ble_eq_true rfl) (Nat.le_of_ble_eq_true rfl) dX2_init_23 (fun q3 cA H hK9 hP hD hS => ?_)
  obtain rfl : cA = mCid G 0 := Option.some.inj ((hK9.2 4 _ rfl).2.symm.trans (hK.2 0 _ rfl).2)
  have hP : va_P G.1 vwCl [(h0, .inr (6, [.ref q1, .ref q2, .null, .null, .null, .null, .null, .int 0])), zI G 0 64 q1, zI G 0 64 q2, zI G 0 64 q3] H := hP
  have hD : va_D A [(h0, .inr (6, [.ref q1, .ref q2, .null, .null, .null, .null, .null, .int 0])), zI G 0 64 q1, zI G 0 64 q2, zI G 0 64 q3] := hD
  refine va_putF (D := G.1) (ci := 6) (v := .ref q3) (ty := (tyX7 2)) (C := RX7) (T := TX7) (N := 8) hx hb ht uiX7 tyX7 tyX7_ok nmX7 hown hK hP hD hS 0 rfl rfl 2 (by decide) (ht _ wi_129) (fun _ h9 => h9) rfl hin rfl (by decide +kernel) rfl rfl (Nat.le_of_ble_eq_true rfl) dX2_init_25 (fun H locs hP hD hS => ?_)
  have hP : va_P G.1 vwCl [(h0, .inr (6, [.ref q1, .ref q2, .ref q3, .null, .null, .null, .null, .int 0])), zI G 0 64 q1, zI G 0 64 q2, zI G 0 64 q3] H := hP
  have hD : va_D A [(h0, .inr (6, [.ref q1, .ref q2, .ref q3, .null, .null, .null, .null, .int 0])), zI G 0 64 q1, zI G 0 64 q2, zI G 0 64 q3] := hD
  refine lv_aload_n hx hb dX2_init_28 rfl (lv_at hl 0 rfl) ?_
  refine lv_bipush (v := mI 64) hx hb dX2_init_29 (by decide) ?_
  refine va_newa (atype := .int) (ty := .int) (N' := 64) (a0 := (64, .inl fun _ : Nat => mI 0)) hx hb (ht _ wi_63) rfl hK hP hD hS hA (fun _ => rfl) (by decide) rfl (by decide) (Nat.le_of_ble_eq_true rfl) (Nat.le_of_ble_eq_true rfl) dX2_init_31 (fun q4 cA H hK9 hP hD hS => ?_)
  obtain rfl : cA = mCid G 0 := Option.some.inj ((hK9.2 4 _ rfl).2.symm.trans (hK.2 0 _ rfl).2)
  have hP : va_P G.1 vwCl [(h0, .inr (6, [.ref q1, .ref q2, .ref q3, .null, .null, .null, .null, .int 0])), zI G 0 64 q1, zI G 0 64 q2, zI G 0 64 q3, zI G 0 64 q4] H := hP
  have hD : va_D A [(h0, .inr (6, [.ref q1, .ref q2, .ref q3, .null, .null, .null, .null, .int 0])), zI G 0 64 q1, zI G 0 64 q2, zI G 0 64 q3, zI G 0 64 q4] := hD
  refine va_putF (D := G.1) (ci := 6) (v := .ref q4) (ty := (tyX7 3)) (C := RX7) (T := TX7) (N := 8) hx hb ht uiX7 tyX7 tyX7_ok nmX7 hown hK hP hD hS 0 rfl rfl 3 (by decide) (ht _ wi_130) (fun _ h9 => h9) rfl hin rfl (by decide +kernel) rfl rfl (Nat.le_of_ble_eq_true rfl) dX2_init_33 (fun H locs hP hD hS => ?_)
  have hP : va_P G.1 vwCl [(h0, .inr (6, [.ref q1, .ref q2, .ref q3, .ref q4, .null, .null, .null, .int 0])), zI G 0 64 q1, zI G 0 64 q2, zI G 0 64 q3, zI G 0 64 q4] H := hP
  have hD : va_D A [(h0, .inr (6, [.ref q1, .ref q2, .ref q3, .ref q4, .null, .null, .null, .int 0])), zI G 0 64 q1, zI G 0 64 q2, zI G 0 64 q3, zI G 0 64 q4] := hD
  refine lv_aload_n hx hb dX2_init_36 rfl (lv_at hl 0 rfl) ?_
  refine lv_bipush (v := mI 64) hx hb dX2_init_37 (by decide) ?_
  refine va_newa (atype := .int) (ty := .int) (N' := 64) (a0 := (64, .inl fun _ : Nat => mI 0)) hx hb (ht _ wi_63) rfl hK hP hD hS hA (fun _ => rfl) (by decide) rfl (by decide) (Nat.le_of_ble_eq_true rfl) (Nat.le_of_ble_eq_true rfl) dX2_init_39 (fun q5 cA H hK9 hP hD hS => ?_)
  obtain rfl : cA = mCid G 0 := Option.some.inj ((hK9.2 4 _ rfl).2.symm.trans (hK.2 0 _ rfl).2)
  have hP : va_P G.1 vwCl [(h0, .inr (6, [.ref q1, .ref q2, .ref q3, .ref q4, .null, .null, .null, .int 0])), zI G 0 64 q1, zI G 0 64 q2, zI G 0 64 q3, zI G 0 64 q4, zI G 0 64 q5] H := hP
  have hD : va_D A [(h0, .inr (6, [.ref q1, .ref q2, .ref q3, .ref q4, .null, .null, .null, .int 0])), zI G 0 64 q1, zI G 0 64 q2, zI G 0 64 q3, zI G 0 64 q4, zI G 0 64 q5] := hD
  refine va_putF (D := G.1) (ci := 6) (v := .ref q5) (ty := (tyX7 4)) (C := RX7) (T := TX7) (N := 8) hx hb ht uiX7 tyX7 tyX7_ok nmX7 hown hK hP hD hS 0 rfl rfl 4 (by decide) (ht _ wi_131) (fun _ h9 => h9) rfl hin rfl (by decide +kernel) rfl rfl (Nat.le_of_ble_eq_true rfl) dX2_init_41 (fun H locs hP hD hS => ?_)
  have hP : va_P G.1 vwCl [(h0, .inr (6, [.ref q1, .ref q2, .ref q3, .ref q4, .ref q5, .null, .null, .int 0])), zI G 0 64 q1, zI G 0 64 q2, zI G 0 64 q3, zI G 0 64 q4, zI G 0 64 q5] H := hP
  have hD : va_D A [(h0, .inr (6, [.ref q1, .ref q2, .ref q3, .ref q4, .ref q5, .null, .null, .int 0])), zI G 0 64 q1, zI G 0 64 q2, zI G 0 64 q3, zI G 0 64 q4, zI G 0 64 q5] := hD
  refine lv_aload_n hx hb dX2_init_44 rfl (lv_at hl 0 rfl) ?_
  refine lv_aload_n hx hb dX2_init_45 rfl (lv_at hl 1 rfl) ?_
  refine va_put (D := G.1) (ci := 6) (v := .ref a0) (ty := (tyX7 5)) (C := RX7) (T := TX7) (N := 8) hx hb ht uiX7 tyX7 tyX7_ok nmX7 hown hK hP hD hS 0 rfl rfl 5 (by decide) (ht _ wi_132) (fun _ h9 => h9) rfl (by decide +kernel) rfl rfl (Nat.le_of_ble_eq_true rfl) dX2_init_46 (fun H locs hP hD hS => ?_)
  have hP : va_P G.1 vwCl [(h0, .inr (6, [.ref q1, .ref q2, .ref q3, .ref q4, .ref q5, .ref a0, .null, .int 0])), zI G 0 64 q1, zI G 0 64 q2, zI G 0 64 q3, zI G 0 64 q4, zI G 0 64 q5] H := hP
  have hD : va_D A [(h0, .inr (6, [.ref q1, .ref q2, .ref q3, .ref q4, .ref q5, .ref a0, .null, .int 0])), zI G 0 64 q1, zI G 0 64 q2, zI G 0 64 q3, zI G 0 64 q4, zI G 0 64 q5] := hD
  refine lv_aload_n hx hb dX2_init_49 rfl (lv_at hl 0 rfl) ?_
  refine lv_aload_n hx hb dX2_init_50 rfl (lv_at hl 1 rfl) ?_
  refine va_put (D := G.1) (ci := 6) (v := .ref a0) (ty := (tyX7 6)) (C := RX7) (T := TX7) (N := 8) hx hb ht uiX7 tyX7 tyX7_ok nmX7 hown hK hP hD hS 0 rfl rfl 6 (by decide) (ht _ wi_133) (fun _ h9 => h9) rfl (by decide +kernel) rfl rfl (Nat.le_of_ble_eq_true rfl) dX2_init_51 (fun H locs hP hD hS => ?_)
  have hP : va_P G.1 vwCl [(h0, .inr (6, [.ref q1, .ref q2, .ref q3, .ref q4, .ref q5, .ref a0, .ref a0, .int 0])), zI G 0 64 q1, zI G 0 64 q2, zI G 0 64 q3, zI G 0 64 q4, zI G 0 64 q5] H := hP
  have hD : va_D A [(h0, .inr (6, [.ref q1, .ref q2, .ref q3, .ref q4, .ref q5, .ref a0, .ref a0, .int 0])), zI G 0 64 q1, zI G 0 64 q2, zI G 0 64 q3, zI G 0 64 q4, zI G 0 64 q5] := hD
  refine W.widen (k := 5) (n := 320) (Nat.le_of_ble_eq_true rfl) (Nat.le_of_ble_eq_true rfl) ?_
  exact W.vret hx hb hr (fun t ht9 hW => ⟨⟨(), rfl, trivial, q1, q2, q3, q4, q5, by rw [ht9]; exact hP, hD⟩, hS.F ht9⟩) hS.2.2 dX2_init_54
set_option maxHeartbeats 4000000 in
set_option maxRecDepth 100000 in
theorem c_X2_init_X6 (l : Launch) (G : mG) (h0 a0 sz : Nat) : Met l yX2_init (Cond.code yX2_init cX2_init 2 none :: mgood) (mRC 1 5 320) (va_Pc [.ref h0, .ref a0] (fun U => U.heap.size = sz ∧ va_P G.1 vwCl [(h0, .inr (5, [.null, .null, .null, .null, .null, .null, .null, .int 0]))] U.heap ∧ va_K G.1 vwCl (mtys G) U ∧ va_D (fun _ => True) [(h0, .inr (5, [.null, .null, .null, .null, .null, .null, .null, .int 0]))] ∧ ∀ q ∈ mnest, va_Nw q U)) (va_Qv (fun _ : Unit => True) (fun _ t => ∃ (q1 q2 q3 q4 q5 : Nat), va_P G.1 vwCl [(h0, .inr (5, [.ref q1, .ref q2, .ref q3, .ref q4, .ref q5, .ref a0, .ref a0, .int 0])), zI G 0 64 q1, zI G 0 64 q2, zI G 0 64 q3, zI G 0 64 q4, zI G 0 64 q5] t.heap ∧ va_D (va_A [(h0, .inr (5, [.null, .null, .null, .null, .null, .null, .null, .int 0]))] sz) [(h0, .inr (5, [.ref q1, .ref q2, .ref q3, .ref q4, .ref q5, .ref a0, .ref a0, .int 0])), zI G 0 64 q1, zI G 0 64 q2, zI G 0 64 q3, zI G 0 64 q4, zI G 0 64 q5]) (va_A [(h0, .inr (5, [.null, .null, .null, .null, .null, .null, .null, .int 0]))] sz)) 5 320 (va_A [(h0, .inr (5, [.null, .null, .null, .null, .null, .null, .null, .int 0]))] sz) := by
  refine Met.ofW (cc := cX2_init) (maxL := 2) (ret := none) (by decide) rfl ?_
  intro p e s m args below meth c s₁ B hml hv
  obtain ⟨rfl, hsz, hP, hK, hD0, hN⟩ := hv
  have hx := B.exec
  have hb := B.bytes
  have hr := B.returns
  have hts := atoms_spec (ws := Cond.code yX2_init cX2_init 2 none :: mgood) B.pre
  have ht := fun w hw => hts w (List.mem_cons_of_mem _ hw)
  have hown : s.vm.findClass RX2 = some m.cls := findClass_of_methodNamed B.named
  have hlocks := B.notSynchronized
  have hin : meth.name = "<init>" := (name_of_methodNamed B.named B.method).1
  subst hsz
  have hD := hD0.self (sz := s.heap.size)
  generalize hAe : va_A [(h0, .inr (5, [.null, .null, .null, .null, .null, .null, .null, .int 0]))] s.heap.size = A at hD ⊢
  have hA : ∀ q : Nat, s.heap.size ≤ q → A q := fun q h => by rw [← hAe]; exact Or.inr h
  have hS : va_S A s.heap s.heap [] := va_S.rf
  have hP : va_P G.1 vwCl [(h0, .inr (5, [.null, .null, .null, .null, .null, .null, .null, .int 0]))] s.heap := hP
  have hl := lv_entry ([.ref h0, .ref a0]) (n := 2) (Nat.le_of_ble_eq_true rfl)
  rw [lg_entry_eq]
  generalize (lg_sl ([.ref h0, .ref a0]) ++ List.replicate (2 - (lg_sl ([.ref h0, .ref a0])).length) Slot.unset).toArray = ls at hl ⊢
  have hl : lv_has ls 2 [(0, .ref h0), (1, .ref a0)] := hl
  refine lv_aload_n hx hb dX2_init_0 rfl (lv_at hl 0 rfl) ?_
  refine W.objInit hx hb hown (ht _ wi_126) (ht _ wi_33) (ht _ wi_34) rfl (by rw [hml]; exact hl.1) rfl dX2_init_1 (Nat.le_of_ble_eq_true rfl) (Nat.le_of_ble_eq_true rfl) ?_
  refine W.eq (g2 := F0 m 4 ls []) rfl ?_
  refine lv_aload_n hx hb dX2_init_4 rfl (lv_at hl 0 rfl) ?_
  refine lv_bipush (v := mI 64) hx hb dX2_init_5 (by decide) ?_
  refine va_newa (atype := .int) (ty := .int) (N' := 64) (a0 := (64, .inl fun _ : Nat => mI 0)) hx hb (ht _ wi_63) rfl hK hP hD hS hA (fun _ => rfl) (by decide) rfl (by decide) (Nat.le_of_ble_eq_true rfl) (Nat.le_of_ble_eq_true rfl) dX2_init_7 (fun q1 cA H hK9 hP hD hS => ?_)
  obtain rfl : cA = mCid G 0 := Option.some.inj ((hK9.2 4 _ rfl).2.symm.trans (hK.2 0 _ rfl).2)
  have hP : va_P G.1 vwCl [(h0, .inr (5, [.null, .null, .null, .null, .null, .null, .null, .int 0])), zI G 0 64 q1] H := hP
  have hD : va_D A [(h0, .inr (5, [.null, .null, .null, .null, .null, .null, .null, .int 0])), zI G 0 64 q1] := hD
  refine va_putF (D := G.1) (ci := 5) (v := .ref q1) (ty := (tyX6 0)) (C := RX6) (T := TX6) (N := 8) hx hb ht uiX6 tyX6 tyX6_ok nmX6 hown hK hP hD hS 0 rfl rfl 0 (by decide) (ht _ wi_127) (fun _ h9 => h9) rfl hin rfl (by decide +kernel) rfl rfl (Nat.le_of_ble_eq_true rfl) dX2_init_9 (fun H locs hP hD hS => ?_)
  have hP : va_P G.1 vwCl [(h0, .inr (5, [.ref q1, .null, .null, .null, .null, .null, .null, .int 0])), zI G 0 64 q1] H := hP
  have hD : va_D A [(h0, .inr (5, [.ref q1, .null, .null, .null, .null, .null, .null, .int 0])), zI G 0 64 q1] := hD
  refine lv_aload_n hx hb dX2_init_12 rfl (lv_at hl 0 rfl) ?_
  refine lv_bipush (v := mI 64) hx hb dX2_init_13 (by decide) ?_
  refine va_newa (atype := .int) (ty := .int) (N' := 64) (a0 := (64, .inl fun _ : Nat => mI 0)) hx hb (ht _ wi_63) rfl hK hP hD hS hA (fun _ => rfl) (by decide) rfl (by decide) (Nat.le_of_ble_eq_true rfl) (Nat.le_of_ble_eq_true rfl) dX2_init_15 (fun q2 cA H hK9 hP hD hS => ?_)
  obtain rfl : cA = mCid G 0 := Option.some.inj ((hK9.2 4 _ rfl).2.symm.trans (hK.2 0 _ rfl).2)
  have hP : va_P G.1 vwCl [(h0, .inr (5, [.ref q1, .null, .null, .null, .null, .null, .null, .int 0])), zI G 0 64 q1, zI G 0 64 q2] H := hP
  have hD : va_D A [(h0, .inr (5, [.ref q1, .null, .null, .null, .null, .null, .null, .int 0])), zI G 0 64 q1, zI G 0 64 q2] := hD
  refine va_putF (D := G.1) (ci := 5) (v := .ref q2) (ty := (tyX6 1)) (C := RX6) (T := TX6) (N := 8) hx hb ht uiX6 tyX6 tyX6_ok nmX6 hown hK hP hD hS 0 rfl rfl 1 (by decide) (ht _ wi_128) (fun _ h9 => h9) rfl hin rfl (by decide +kernel) rfl rfl (Nat.le_of_ble_eq_true rfl) dX2_init_17 (fun H locs hP hD hS => ?_)
  have hP : va_P G.1 vwCl [(h0, .inr (5, [.ref q1, .ref q2, .null, .null, .null, .null, .null, .int 0])), zI G 0 64 q1, zI G 0 64 q2] H := hP
  have hD : va_D A [(h0, .inr (5, [.ref q1, .ref q2, .null, .null, .null, .null, .null, .int 0])), zI G 0 64 q1, zI G 0 64 q2] := hD
  refine lv_aload_n hx hb dX2_init_20 rfl (lv_at hl 0 rfl) ?_
  refine lv_bipush (v := mI 64) hx hb dX2_init_21 (by decide) ?_
  refine va_newa (atype := .int) (ty := .int) (N' := 64) (a0 := (64, .inl fun _ : Nat => mI 0)) hx hb (ht _ wi_63) rfl hK hP hD hS hA (fun _ => rfl) (by decide) rfl (by decide) (Nat.le_of_ble_eq_true rfl) (Nat.le_of_ble_eq_true rfl) dX2_init_23 (fun q3 cA H hK9 hP hD hS => ?_)
  obtain rfl : cA = mCid G 0 := Option.some.inj ((hK9.2 4 _ rfl).2.symm.trans (hK.2 0 _ rfl).2)
  have hP : va_P G.1 vwCl [(h0, .inr (5, [.ref q1, .ref q2, .null, .null, .null, .null, .null, .int 0])), zI G 0 64 q1, zI G 0 64 q2, zI G 0 64 q3] H := hP
  have hD : va_D A [(h0, .inr (5, [.ref q1, .ref q2, .null, .null, .null, .null, .null, .int 0])), zI G 0 64 q1, zI G 0 64 q2, zI G 0 64 q3] := hD
  refine va_putF (D := G.1) (ci := 5) (v := .ref q3) (ty := (tyX6 2)) (C := RX6) (T := TX6) (N := 8) hx hb ht uiX6 tyX6 tyX6_ok nmX6 hown hK hP hD hS 0 rfl rfl 2 (by decide) (ht _ wi_129) (fun _ h9 => h9) rfl hin rfl (by decide +kernel) rfl rfl (Nat.le_of_ble_eq_true rfl) dX2_init_25 (fun H locs hP hD hS => ?_)
  have hP : va_P G.1 vwCl [(h0, .inr (5, [.ref q1, .ref q2, .ref q3, .null, .null, .null, .null, .int 0])), zI G 0 64 q1, zI G 0 64 q2, zI G 0 64 q3] H := hP
  have hD : va_D A [(h0, .inr (5, [.ref q1, .ref q2, .ref q3, .null, .null, .null, .null, .int 0])), zI G 0 64 q1, zI G 0 64 q2, zI G 0 64 q3] := hD
  refine lv_aload_n hx hb dX2_init_28 rfl (lv_at hl 0 rfl) ?_
  refine lv_bipush (v := mI 64) hx hb dX2_init_29 (by decide) ?_
  refine va_newa (atype := .int) (ty := .int) (N' := 64) (a0 := (64, .inl fun _ : Nat => mI 0)) hx hb (ht _ wi_63) rfl hK hP hD hS hA (fun _ => rfl) (by decide) rfl (by decide) (Nat.le_of_ble_eq_true rfl) (Nat.le_of_ble_eq_true rfl) dX2_init_31 (fun q4 cA H hK9 hP hD hS => ?_)
  obtain rfl : cA = mCid G 0 := Option.some.inj ((hK9.2 4 _ rfl).2.symm.trans (hK.2 0 _ rfl).2)
  have hP : va_P G.1 vwCl [(h0, .inr (5, [.ref q1, .ref q2, .ref q3, .null, .null, .null, .null, .int 0])), zI G 0 64 q1, zI G 0 64 q2, zI G 0 64 q3, zI G 0 64 q4] H := hP
  have hD : va_D A [(h0, .inr (5, [.ref q1, .ref q2, .ref q3, .null, .null, .null, .null, .int 0])), zI G 0 64 q1, zI G 0 64 q2, zI G 0 64 q3, zI G 0 64 q4] := hD
  refine va_putF (D := G.1) (ci := 5) (v := .ref q4) (ty := (tyX6 3)) (C := RX6) (T := TX6) (N := 8) hx hb ht uiX6 tyX6 tyX6_ok nmX6 hown hK hP hD hS 0 rfl rfl 3 (by decide) (ht _ wi_130) (fun _ h9 => h9) rfl hin rfl (by decide +kernel) rfl rfl (Nat.le_of_ble_eq_true rfl) dX2_init_33 (fun H locs hP hD hS => ?_)
  have hP : va_P G.1 vwCl [(h0, .inr (5, [.ref q1, .ref q2, .ref q3, .ref q4, .null, .null, .null, .int 0])), zI G 0 64 q1, zI G 0 64 q2, zI G 0 64 q3, zI G 0 64 q4] H := hP
  have hD : va_D A [(h0, .inr (5, [.ref q1, .ref q2, .ref q3, .ref q4, .null, .null, .null, .int 0])), zI G 0 64 q1, zI G 0 64 q2, zI G 0 64 q3, zI G 0 64 q4] := hD
  refine lv_aload_n hx hb dX2_init_36 rfl (lv_at hl 0 rfl) ?_
  refine lv_bipush (v := mI 64) hx hb dX2_init_37 (by decide) ?_
  refine va_newa (atype := .int) (ty := .int) (N' := 64) (a0 := (64, .inl fun _ : Nat => mI 0)) hx hb (ht _ wi_63) rfl hK hP hD hS hA (fun _ => rfl) (by decide) rfl (by decide) (Nat.le_of_ble_eq_true rfl) (Nat.le_of_ble_eq_true rfl) dX2_init_39 (fun q5 cA H hK9 hP hD hS => ?_)
  obtain rfl : cA = mCid G 0 := Option.some.inj ((hK9.2 4 _ rfl).2.symm.trans (hK.2 0 _ rfl).2)
  have hP : va_P G.1 vwCl [(h0, .inr (5, [.ref q1, .ref q2, .ref q3, .ref q4, .null, .null, .null, .int 0])), zI G 0 64 q1, zI G 0 64 q2, zI G 0 64 q3, zI G 0 64 q4, zI G 0 64 q5] H := hP
  have hD : va_D A [(h0, .inr (5, [.ref q1, .ref q2, .ref q3, .ref q4, .null, .null, .null, .int 0])), zI G 0 64 q1, zI G 0 64 q2, zI G 0 64 q3, zI G 0 64 q4, zI G 0 64 q5] := hD
  refine va_putF (D := G.1) (ci := 5) (v := .ref q5) (ty := (tyX6 4)) (C := RX6) (T := TX6) (N := 8) hx hb ht uiX6 tyX6 tyX6_ok nmX6 hown hK hP hD hS 0 rfl rfl 4 (by decide) (ht _ wi_131) (fun _ h9 => h9) rfl hin rfl (by decide +kernel) rfl rfl (Nat.le_of_ble_eq_true rfl) dX2_init_41 (fun H locs hP hD hS => ?_)
  have hP : va_P G.1 vwCl [(h0, .inr (5, [.ref q1, .ref q2, .ref q3, .ref q4, .ref q5, .null, .null, .int 0])), zI G 0 64 q1, zI G 0 64 q2, zI G 0 64 q3, zI G 0 64 q4, zI G 0 64 q5] H := hP
  have hD : va_D A [(h0, .inr (5, [.ref q1, .ref q2, .ref q3, .ref q4, .ref q5, .null, .null, .int 0])), zI G 0 64 q1, zI G 0 64 q2, zI G 0 64 q3, zI G 0 64 q4, zI G 0 64 q5] := hD
  refine lv_aload_n hx hb dX2_init_44 rfl (lv_at hl 0 rfl) ?_
  refine lv_aload_n hx hb dX2_init_45 rfl (lv_at hl 1 rfl) ?_
  refine va_put (D := G.1) (ci := 5) (v := .ref a0) (ty := (tyX6 5)) (C := RX6) (T := TX6) (N := 8) hx hb ht uiX6 tyX6 tyX6_ok nmX6 hown hK hP hD hS 0 rfl rfl 5 (by decide) (ht _ wi_132) (fun _ h9 => h9) rfl (by decide +kernel) rfl rfl (Nat.le_of_ble_eq_true rfl) dX2_init_46 (fun H locs hP hD hS => ?_)
  have hP : va_P G.1 vwCl [(h0, .inr (5, [.ref q1, .ref q2, .ref q3, .ref q4, .ref q5, .ref a0, .null, .int 0])), zI G 0 64 q1, zI G 0 64 q2, zI G 0 64 q3, zI G 0 64 q4, zI G 0 64 q5] H := hP
  have hD : va_D A [(h0, .inr (5, [.ref q1, .ref q2, .ref q3, .ref q4, .ref q5, .ref a0, .null, .int 0])), zI G 0 64 q1, zI G 0 64 q2, zI G 0 64 q3, zI G 0 64 q4, zI G 0 64 q5] := hD
  refine lv_aload_n hx hb dX2_init_49 rfl (lv_at hl 0 rfl) ?_
  refine lv_aload_n hx hb dX2_init_50 rfl (lv_at hl 1 rfl) ?_
  refine va_put (D := G.1) (ci := 5) (v := .ref a0) (ty := (tyX6 6)) (C := RX6) (T := TX6) (N := 8) hx hb ht uiX6 tyX6 tyX6_ok nmX6 hown hK hP hD hS 0 rfl rfl 6 (by decide) (ht _ wi_133) (fun _ h9 => h9) rfl (by decide +kernel) rfl rfl (Nat.le_of_ble_eq_true rfl) dX2_init_51 (fun H locs hP hD hS => ?_)
  have hP : va_P G.1 vwCl [(h0, .inr (5, [.ref q1, .ref q2, .ref q3, .ref q4, .ref q5, .ref a0, .ref a0, .int 0])), zI G 0 64 q1, zI G 0 64 q2, zI G 0 64 q3, zI G 0 64 q4, zI G 0 64 q5] H := hP
  have hD : va_D A [(h0, .inr (5, [.ref q1, .ref q2, .ref q3, .ref q4, .ref q5, .ref a0, .ref a0, .int 0])), zI G 0 64 q1, zI G 0 64 q2, zI G 0 64 q3, zI G 0 64 q4, zI G 0 64 q5] := hD
  refine W.widen (k := 5) (n := 320) (Nat.le_of_ble_eq_true rfl) (Nat.le_of_ble_eq_true rfl) ?_
  exact W.vret hx hb hr (fun t ht9 hW => ⟨⟨(), rfl, trivial, q1, q2, q3, q4, q5, by rw [ht9]; exact hP, hD⟩, hS.F ht9⟩) hS.2.2 dX2_init_54
theorem wi_82 : Cond.methodLink RX4 3 objectInit ∈ mgood := mgood_in (w := Cond.methodLink RX4 3 objectInit) (List.mem_of_getElem? (i := 82) (by decide +kernel)) rfl
theorem wi_85 : Cond.fieldLink RX4 11 "MirroredTalks$PlanText" "characters" "[I" ∈ mgood := mgood_in (w := Cond.fieldLink RX4 11 "MirroredTalks$PlanText" "characters" "[I") (List.mem_of_getElem? (i := 85) (by decide +kernel)) rfl
theorem wi_83 : Cond.classLink RX4 15 RX3 ∈ mgood := mgood_in (w := Cond.classLink RX4 15 RX3) (List.mem_of_getElem? (i := 83) (by decide +kernel)) rfl
theorem wi_36 : Cond.instantiable RX3 1 ∈ mgood := mgood_in (w := Cond.instantiable RX3 1) (List.mem_of_getElem? (i := 36) (by decide +kernel)) rfl
theorem wi_15 : Cond.initialized RX3 ∈ mgood := mgood_in (w := Cond.initialized RX3) (List.mem_of_getElem? (i := 15) (by decide +kernel)) rfl
theorem wi_38 : Cond.instanceMethod yX3_init ∈ mgood := mgood_in (w := Cond.instanceMethod yX3_init) (List.mem_of_getElem? (i := 38) (by decide +kernel)) rfl
theorem wi_84 : Cond.methodLink RX4 17 yX3_init ∈ mgood := mgood_in (w := Cond.methodLink RX4 17 yX3_init) (List.mem_of_getElem? (i := 84) (by decide +kernel)) rfl
theorem wi_87 : Cond.fieldLink RX4 18 "MirroredTalks$PlanText" "draft" "LMirroredTalks$Plan;" ∈ mgood := mgood_in (w := Cond.fieldLink RX4 18 "MirroredTalks$PlanText" "draft" "LMirroredTalks$Plan;") (List.mem_of_getElem? (i := 87) (by decide +kernel)) rfl
set_option maxHeartbeats 4000000 in
set_option maxRecDepth 100000 in
theorem c_X4_init (l : Launch) (G : mG) (h0 sz : Nat) : Met l yX4_init (Cond.code yX4_init cX4_init 1 none :: mgood) (mRC 4 3 137) (va_Pc [.ref h0] (fun U => U.heap.size = sz ∧ va_P G.1 vwCl [(h0, .inr (3, [.null, .int 0, .null, .int 0, .int 0, .int 0, .int 0]))] U.heap ∧ va_K G.1 vwCl (mtys G) U ∧ va_D (fun _ => True) [(h0, .inr (3, [.null, .int 0, .null, .int 0, .int 0, .int 0, .int 0]))] ∧ ∀ q ∈ mnest, va_Nw q U)) (va_Qv (fun _ : Unit => True) (fun _ t => ∃ (q1 q2 q3 : Nat), va_P G.1 vwCl [(h0, .inr (3, [.ref q1, .int 0, .ref q2, .int 0, .int 0, .int 0, .int 0])), zI G 0 80 q1, (q2, .inr (2, [.ref q3])), zP G q3] t.heap ∧ va_D (va_A [(h0, .inr (3, [.null, .int 0, .null, .int 0, .int 0, .int 0, .int 0]))] sz) [(h0, .inr (3, [.ref q1, .int 0, .ref q2, .int 0, .int 0, .int 0, .int 0])), zI G 0 80 q1, (q2, .inr (2, [.ref q3])), zP G q3]) (va_A [(h0, .inr (3, [.null, .int 0, .null, .int 0, .int 0, .int 0, .int 0]))] sz)) 3 137 (va_A [(h0, .inr (3, [.null, .int 0, .null, .int 0, .int 0, .int 0, .int 0]))] sz) := by
  refine Met.ofW (cc := cX4_init) (maxL := 1) (ret := none) (by decide) rfl ?_
  intro p e s m args below meth c s₁ B hml hv
  obtain ⟨rfl, hsz, hP, hK, hD0, hN⟩ := hv
  have hx := B.exec
  have hb := B.bytes
  have hr := B.returns
  have hts := atoms_spec (ws := Cond.code yX4_init cX4_init 1 none :: mgood) B.pre
  have ht := fun w hw => hts w (List.mem_cons_of_mem _ hw)
  have hown : s.vm.findClass RX4 = some m.cls := findClass_of_methodNamed B.named
  have hlocks := B.notSynchronized
  have hin : meth.name = "<init>" := (name_of_methodNamed B.named B.method).1
  subst hsz
  have hD := hD0.self (sz := s.heap.size)
  generalize hAe : va_A [(h0, .inr (3, [.null, .int 0, .null, .int 0, .int 0, .int 0, .int 0]))] s.heap.size = A at hD ⊢
  have hA : ∀ q : Nat, s.heap.size ≤ q → A q := fun q h => by rw [← hAe]; exact Or.inr h
  have hS : va_S A s.heap s.heap [] := va_S.rf
  have hP : va_P G.1 vwCl [(h0, .inr (3, [.null, .int 0, .null, .int 0, .int 0, .int 0, .int 0]))] s.heap := hP
  have hl := lv_entry ([.ref h0]) (n := 1) (Nat.le_of_ble_eq_true rfl)
  rw [lg_entry_eq]
  generalize (lg_sl ([.ref h0]) ++ List.replicate (1 - (lg_sl ([.ref h0])).length) Slot.unset).toArray = ls at hl ⊢
  have hl : lv_has ls 1 [(0, .ref h0)] := hl
  refine lv_aload_n hx hb dX4_init_0 rfl (lv_at hl 0 rfl) ?_
  refine W.objInit hx hb hown (ht _ wi_82) (ht _ wi_33) (ht _ wi_34) rfl (by rw [hml]; exact hl.1) rfl dX4_init_1 (Nat.le_of_ble_eq_true rfl) (Nat.le_of_ble_eq_true rfl) ?_
  refine W.eq (g2 := F0 m 4 ls []) rfl ?_
  refine lv_aload_n hx hb dX4_init_4 rfl (lv_at hl 0 rfl) ?_
  refine lv_bipush (v := mI 80) hx hb dX4_init_5 (by decide) ?_
  refine va_newa (atype := .int) (ty := .int) (N' := 80) (a0 := (80, .inl fun _ : Nat => mI 0)) hx hb (ht _ wi_63) rfl hK hP hD hS hA (fun _ => rfl) (by decide) rfl (by decide) (Nat.le_of_ble_eq_true rfl) (Nat.le_of_ble_eq_true rfl) dX4_init_7 (fun q1 cA H hK9 hP hD hS => ?_)
  obtain rfl : cA = mCid G 0 := Option.some.inj ((hK9.2 4 _ rfl).2.symm.trans (hK.2 0 _ rfl).2)
  have hP : va_P G.1 vwCl [(h0, .inr (3, [.null, .int 0, .null, .int 0, .int 0, .int 0, .int 0])), zI G 0 80 q1] H := hP
  have hD : va_D A [(h0, .inr (3, [.null, .int 0, .null, .int 0, .int 0, .int 0, .int 0])), zI G 0 80 q1] := hD
  refine va_putF (D := G.1) (ci := 3) (v := .ref q1) (ty := (tyX4 0)) (C := RX4) (T := TX4) (N := 7) hx hb ht uiX4 tyX4 tyX4_ok nmX4 hown hK hP hD hS 0 rfl rfl 0 (by decide) (ht _ wi_85) (fun _ h9 => h9) rfl hin rfl (by decide +kernel) rfl rfl (Nat.le_of_ble_eq_true rfl) dX4_init_9 (fun H locs hP hD hS => ?_)
  have hP : va_P G.1 vwCl [(h0, .inr (3, [.ref q1, .int 0, .null, .int 0, .int 0, .int 0, .int 0])), zI G 0 80 q1] H := hP
  have hD : va_D A [(h0, .inr (3, [.ref q1, .int 0, .null, .int 0, .int 0, .int 0, .int 0])), zI G 0 80 q1] := hD
  refine lv_aload_n hx hb dX4_init_12 rfl (lv_at hl 0 rfl) ?_
  refine va_new (ci := 2) (fs := [.null]) (C := RX3) (T := TX3) (N := 1) hx hb ht uiX3 tyX3 tyX3_ok hown (ht _ wi_83) (ht _ wi_36) (ht _ wi_15) hK hP hD hS hA rfl (fun j hj => by (obtain rfl : j = 0 := by omega); rfl) (Nat.le_of_ble_eq_true rfl) (Nat.le_of_ble_eq_true rfl) dX4_init_13 (fun q2 H hP hD hS => ?_)
  have hP : va_P G.1 vwCl [(h0, .inr (3, [.ref q1, .int 0, .null, .int 0, .int 0, .int 0, .int 0])), zI G 0 80 q1, (q2, .inr (2, [.null]))] H := hP
  have hD : va_D A [(h0, .inr (3, [.ref q1, .int 0, .null, .int 0, .int 0, .int 0, .int 0])), zI G 0 80 q1, (q2, .inr (2, [.null]))] := hD
  refine lv_dup hx hb dX4_init_16 rfl ?_
  have hPc := hP.sub (ws' := [(q2, .inr (2, [.null]))]) [2] rfl
  have hDc := hD.sub (ws' := [(q2, .inr (2, [.null]))]) [2] (by decide) rfl
  have hFc := va_free (wc := [(q2, .inr (2, [.null]))]) hD hS hA [2] rfl
  refine va_callv (va_runI (As := []) (rest := [.ref q2, .ref h0]) ⟨hx, hb, hml, hown, ht⟩ (c_X3_init l G q2 H.size) (cwI 0 ht (mgoodIn _ _ _ _ kc_X3_init) rfl rfl rfl (ht _ wi_15) (ht _ wi_84) (ht _ wi_38) rfl (by decide +kernel) ⟨Nat.le_of_ble_eq_true rfl, Nat.le_of_ble_eq_true rfl⟩) ⟨cblind G _ _ _, fun U hU hW => ⟨rfl, by rw [hU], by rw [hU]; exact hPc, va_K.moved hW.alike hK, hDc.weaken (fun _ _ _ _ => trivial), fun q hq => mnest_warm hq hW (hN q hq)⟩⟩ rfl rfl hl.1 rfl (lv_room (Nat.le_of_ble_eq_true rfl)) dX4_init_17 ⟨Nat.le_of_ble_eq_true rfl, Nat.le_of_ble_eq_true rfl⟩) hS (fun q _ h => hFc q h) hFc (fun u t H1 locs ht1 hvm hw hB hz1 hk1 hS => ?_)
  obtain ⟨q3, hP1, hD1⟩ := hB
  rw [ht1] at hP1
  obtain ⟨hP, hD⟩ := va_join (wr := [(h0, .inr (3, [.ref q1, .int 0, .null, .int 0, .int 0, .int 0, .int 0])), zI G 0 80 q1]) (w1 := [(q2, .inr (2, [.ref q3])), zP G q3]) hP hD [2] [0, 1] rfl rfl (by decide) (by decide) hk1 hFc hP1 hD1
  generalize H1 = H at hP hS ⊢
  have hP : va_P G.1 vwCl [(h0, .inr (3, [.ref q1, .int 0, .null, .int 0, .int 0, .int 0, .int 0])), zI G 0 80 q1, (q2, .inr (2, [.ref q3])), zP G q3] H := hP
  have hD : va_D A [(h0, .inr (3, [.ref q1, .int 0, .null, .int 0, .int 0, .int 0, .int 0])), zI G 0 80 q1, (q2, .inr (2, [.ref q3])), zP G q3] := hD
  refine va_putF (D := G.1) (ci := 3) (v := .ref q2) (ty := (tyX4 2)) (C := RX4) (T := TX4) (N := 7) hx hb ht uiX4 tyX4 tyX4_ok nmX4 hown hK hP hD hS 0 rfl rfl 2 (by decide) (ht _ wi_87) (fun _ h9 => h9) rfl hin rfl (by decide +kernel) rfl rfl (Nat.le_of_ble_eq_true rfl) dX4_init_20 (fun H locs hP hD hS => ?_)
  have hP : va_P G.1 vwCl [(h0, .inr (3, [.ref q1, .int 0, .ref q2, .int 0, .int 0, .int 0, .int 0])), zI G 0 80 q1, (q2, .inr (2, [.ref q3])), zP G q3] H := hP
  have hD : va_D A [(h0, .inr (3, [.ref q1, .int 0, .ref q2, .int 0, .int 0, .int 0, .int 0])), zI G 0 80 q1, (q2, .inr (2, [.ref q3])), zP G q3] := hD
  refine W.widen (k := 3) (n := 137) (Nat.le_of_ble_eq_true rfl) (Nat.le_of_ble_eq_true rfl) ?_
  exact W.vret hx hb hr (fun t ht9 hW => ⟨⟨(), rfl, trivial, q1, q2, q3, by rw [ht9]; exact hP, hD⟩, hS.F ht9⟩) hS.2.2 dX4_init_23
theorem wi_19 : Cond.initialized RX2 ∈ mgood := mgood_in (w := Cond.initialized RX2) (List.mem_of_getElem? (i := 19) (by decide +kernel)) rfl
theorem wi_124 : Cond.instanceMethod yX2_init ∈ mgood := mgood_in (w := Cond.instanceMethod yX2_init) (List.mem_of_getElem? (i := 124) (by decide +kernel)) rfl
theorem wi_123 : Cond.methodLink RX7 3 yX2_init ∈ mgood := mgood_in (w := Cond.methodLink RX7 3 yX2_init) (List.mem_of_getElem? (i := 123) (by decide +kernel)) rfl
set_option maxHeartbeats 4000000 in
set_option maxRecDepth 100000 in
theorem c_X7_init (l : Launch) (G : mG) (h0 a0 sz : Nat) : Met l yX7_init (Cond.code yX7_init cX7_init 2 none :: mgood) (mRC 2 5 320) (va_Pc [.ref h0, .ref a0] (fun U => U.heap.size = sz ∧ va_P G.1 vwCl [(h0, .inr (6, [.null, .null, .null, .null, .null, .null, .null, .int 0]))] U.heap ∧ va_K G.1 vwCl (mtys G) U ∧ va_D (fun _ => True) [(h0, .inr (6, [.null, .null, .null, .null, .null, .null, .null, .int 0]))] ∧ ∀ q ∈ mnest, va_Nw q U)) (va_Qv (fun _ : Unit => True) (fun _ t => ∃ (q1 q2 q3 q4 q5 : Nat), va_P G.1 vwCl [(h0, .inr (6, [.ref q1, .ref q2, .ref q3, .ref q4, .ref q5, .ref a0, .ref a0, .int 0])), zI G 0 64 q1, zI G 0 64 q2, zI G 0 64 q3, zI G 0 64 q4, zI G 0 64 q5] t.heap ∧ va_D (va_A [(h0, .inr (6, [.null, .null, .null, .null, .null, .null, .null, .int 0]))] sz) [(h0, .inr (6, [.ref q1, .ref q2, .ref q3, .ref q4, .ref q5, .ref a0, .ref a0, .int 0])), zI G 0 64 q1, zI G 0 64 q2, zI G 0 64 q3, zI G 0 64 q4, zI G 0 64 q5]) (va_A [(h0, .inr (6, [.null, .null, .null, .null, .null, .null, .null, .int 0]))] sz)) 5 320 (va_A [(h0, .inr (6, [.null, .null, .null, .null, .null, .null, .null, .int 0]))] sz) := by
  refine Met.ofW (cc := cX7_init) (maxL := 2) (ret := none) (by decide) rfl ?_
  intro p e s m args below meth c s₁ B hml hv
  obtain ⟨rfl, hsz, hP, hK, hD0, hN⟩ := hv
  have hx := B.exec
  have hb := B.bytes
  have hr := B.returns
  have hts := atoms_spec (ws := Cond.code yX7_init cX7_init 2 none :: mgood) B.pre
  have ht := fun w hw => hts w (List.mem_cons_of_mem _ hw)
  have hown : s.vm.findClass RX7 = some m.cls := findClass_of_methodNamed B.named
  have hlocks := B.notSynchronized
  have hin : meth.name = "<init>" := (name_of_methodNamed B.named B.method).1
  subst hsz
  have hD := hD0.self (sz := s.heap.size)
  generalize hAe : va_A [(h0, .inr (6, [.null, .null, .null, .null, .null, .null, .null, .int 0]))] s.heap.size = A at hD ⊢
  have hA : ∀ q : Nat, s.heap.size ≤ q → A q := fun q h => by rw [← hAe]; exact Or.inr h
  have hS : va_S A s.heap s.heap [] := va_S.rf
  have hP : va_P G.1 vwCl [(h0, .inr (6, [.null, .null, .null, .null, .null, .null, .null, .int 0]))] s.heap := hP
  have hl := lv_entry ([.ref h0, .ref a0]) (n := 2) (Nat.le_of_ble_eq_true rfl)
  rw [lg_entry_eq]
  generalize (lg_sl ([.ref h0, .ref a0]) ++ List.replicate (2 - (lg_sl ([.ref h0, .ref a0])).length) Slot.unset).toArray = ls at hl ⊢
  have hl : lv_has ls 2 [(0, .ref h0), (1, .ref a0)] := hl
  refine lv_aload_n hx hb dX7_init_0 rfl (lv_at hl 0 rfl) ?_
  refine lv_aload_n hx hb dX7_init_1 rfl (lv_at hl 1 rfl) ?_
  have hPc := hP.sub (ws' := [(h0, .inr (6, [.null, .null, .null, .null, .null, .null, .null, .int 0]))]) [0] rfl
  have hDc := hD.sub (ws' := [(h0, .inr (6, [.null, .null, .null, .null, .null, .null, .null, .int 0]))]) [0] (by decide) rfl
  have hFc := va_free (wc := [(h0, .inr (6, [.null, .null, .null, .null, .null, .null, .null, .int 0]))]) hD hS hA [0] rfl
  refine va_callv (va_runI (As := [.ref a0]) (rest := []) ⟨hx, hb, hml, hown, ht⟩ (c_X2_init_X7 l G h0 a0 s.heap.size) (cwI 1 ht (mgoodIn _ _ _ _ kc_X2_init) rfl rfl rfl (ht _ wi_19) (ht _ wi_123) (ht _ wi_124) rfl (by decide +kernel) ⟨Nat.le_of_ble_eq_true rfl, Nat.le_of_ble_eq_true rfl⟩) ⟨cblind G _ _ _, fun U hU hW => ⟨rfl, by rw [hU], by rw [hU]; exact hPc, va_K.moved hW.alike hK, hDc.weaken (fun _ _ _ _ => trivial), fun q hq => mnest_warm hq hW (hN q hq)⟩⟩ rfl rfl hl.1 rfl (lv_room (Nat.le_of_ble_eq_true rfl)) dX7_init_2 ⟨Nat.le_of_ble_eq_true rfl, Nat.le_of_ble_eq_true rfl⟩) hS (fun q _ h => hFc q h) hFc (fun u t H1 locs ht1 hvm hw hB hz1 hk1 hS => ?_)
  obtain ⟨q1, q2, q3, q4, q5, hP1, hD1⟩ := hB
  rw [ht1] at hP1
  obtain ⟨hP, hD⟩ := va_join (wr := []) (w1 := [(h0, .inr (6, [.ref q1, .ref q2, .ref q3, .ref q4, .ref q5, .ref a0, .ref a0, .int 0])), zI G 0 64 q1, zI G 0 64 q2, zI G 0 64 q3, zI G 0 64 q4, zI G 0 64 q5]) hP hD [0] [] rfl rfl (by decide) (by decide) hk1 hFc hP1 hD1
  generalize H1 = H at hP hS ⊢
  have hP : va_P G.1 vwCl [(h0, .inr (6, [.ref q1, .ref q2, .ref q3, .ref q4, .ref q5, .ref a0, .ref a0, .int 0])), zI G 0 64 q1, zI G 0 64 q2, zI G 0 64 q3, zI G 0 64 q4, zI G 0 64 q5] H := hP
  have hD : va_D A [(h0, .inr (6, [.ref q1, .ref q2, .ref q3, .ref q4, .ref q5, .ref a0, .ref a0, .int 0])), zI G 0 64 q1, zI G 0 64 q2, zI G 0 64 q3, zI G 0 64 q4, zI G 0 64 q5] := hD
  refine W.widen (k := 5) (n := 320) (Nat.le_of_ble_eq_true rfl) (Nat.le_of_ble_eq_true rfl) ?_
  exact W.vret hx hb hr (fun t ht9 hW => ⟨⟨(), rfl, trivial, q1, q2, q3, q4, q5, by rw [ht9]; exact hP, hD⟩, hS.F ht9⟩) hS.2.2 dX7_init_5
theorem wi_177 : Cond.methodLink RX6 3 yX2_init ∈ mgood := mgood_in (w := Cond.methodLink RX6 3 yX2_init) (List.mem_of_getElem? (i := 177) (by decide +kernel)) rfl
set_option maxHeartbeats 4000000 in
set_option maxRecDepth 100000 in
theorem c_X6_init (l : Launch) (G : mG) (h0 a0 sz : Nat) : Met l yX6_init (Cond.code yX6_init cX6_init 2 none :: mgood) (mRC 2 5 320) (va_Pc [.ref h0, .ref a0] (fun U => U.heap.size = sz ∧ va_P G.1 vwCl [(h0, .inr (5, [.null, .null, .null, .null, .null, .null, .null, .int 0]))] U.heap ∧ va_K G.1 vwCl (mtys G) U ∧ va_D (fun _ => True) [(h0, .inr (5, [.null, .null, .null, .null, .null, .null, .null, .int 0]))] ∧ ∀ q ∈ mnest, va_Nw q U)) (va_Qv (fun _ : Unit => True) (fun _ t => ∃ (q1 q2 q3 q4 q5 : Nat), va_P G.1 vwCl [(h0, .inr (5, [.ref q1, .ref q2, .ref q3, .ref q4, .ref q5, .ref a0, .ref a0, .int 0])), zI G 0 64 q1, zI G 0 64 q2, zI G 0 64 q3, zI G 0 64 q4, zI G 0 64 q5] t.heap ∧ va_D (va_A [(h0, .inr (5, [.null, .null, .null, .null, .null, .null, .null, .int 0]))] sz) [(h0, .inr (5, [.ref q1, .ref q2, .ref q3, .ref q4, .ref q5, .ref a0, .ref a0, .int 0])), zI G 0 64 q1, zI G 0 64 q2, zI G 0 64 q3, zI G 0 64 q4, zI G 0 64 q5]) (va_A [(h0, .inr (5, [.null, .null, .null, .null, .null, .null, .null, .int 0]))] sz)) 5 320 (va_A [(h0, .inr (5, [.null, .null, .null, .null, .null, .null, .null, .int 0]))] sz) := by
  refine Met.ofW (cc := cX6_init) (maxL := 2) (ret := none) (by decide) rfl ?_
  intro p e s m args below meth c s₁ B hml hv
  obtain ⟨rfl, hsz, hP, hK, hD0, hN⟩ := hv
  have hx := B.exec
  have hb := B.bytes
  have hr := B.returns
  have hts := atoms_spec (ws := Cond.code yX6_init cX6_init 2 none :: mgood) B.pre
  have ht := fun w hw => hts w (List.mem_cons_of_mem _ hw)
  have hown : s.vm.findClass RX6 = some m.cls := findClass_of_methodNamed B.named
  have hlocks := B.notSynchronized
  have hin : meth.name = "<init>" := (name_of_methodNamed B.named B.method).1
  subst hsz
  have hD := hD0.self (sz := s.heap.size)
  generalize hAe : va_A [(h0, .inr (5, [.null, .null, .null, .null, .null, .null, .null, .int 0]))] s.heap.size = A at hD ⊢
  have hA : ∀ q : Nat, s.heap.size ≤ q → A q := fun q h => by rw [← hAe]; exact Or.inr h
  have hS : va_S A s.heap s.heap [] := va_S.rf
  have hP : va_P G.1 vwCl [(h0, .inr (5, [.null, .null, .null, .null, .null, .null, .null, .int 0]))] s.heap := hP
  have hl := lv_entry ([.ref h0, .ref a0]) (n := 2) (Nat.le_of_ble_eq_true rfl)
  rw [lg_entry_eq]
  generalize (lg_sl ([.ref h0, .ref a0]) ++ List.replicate (2 - (lg_sl ([.ref h0, .ref a0])).length) Slot.unset).toArray = ls at hl ⊢
  have hl : lv_has ls 2 [(0, .ref h0), (1, .ref a0)] := hl
  refine lv_aload_n hx hb dX6_init_0 rfl (lv_at hl 0 rfl) ?_
  refine lv_aload_n hx hb dX6_init_1 rfl (lv_at hl 1 rfl) ?_
  have hPc := hP.sub (ws' := [(h0, .inr (5, [.null, .null, .null, .null, .null, .null, .null, .int 0]))]) [0] rfl
  have hDc := hD.sub (ws' := [(h0, .inr (5, [.null, .null, .null, .null, .null, .null, .null, .int 0]))]) [0] (by decide) rfl
  have hFc := va_free (wc := [(h0, .inr (5, [.null, .null, .null, .null, .null, .null, .null, .int 0]))]) hD hS hA [0] rfl
  refine va_callv (va_runI (As := [.ref a0]) (rest := []) ⟨hx, hb, hml, hown, ht⟩ (c_X2_init_X6 l G h0 a0 s.heap.size) (cwI 1 ht (mgoodIn _ _ _ _ kc_X2_init) rfl rfl rfl (ht _ wi_19) (ht _ wi_177) (ht _ wi_124) rfl (by decide +kernel) ⟨Nat.le_of_ble_eq_true rfl, Nat.le_of_ble_eq_true rfl⟩) ⟨cblind G _ _ _, fun U hU hW => ⟨rfl, by rw [hU], by rw [hU]; exact hPc, va_K.moved hW.alike hK, hDc.weaken (fun _ _ _ _ => trivial), fun q hq => mnest_warm hq hW (hN q hq)⟩⟩ rfl rfl hl.1 rfl (lv_room (Nat.le_of_ble_eq_true rfl)) dX6_init_2 ⟨Nat.le_of_ble_eq_true rfl, Nat.le_of_ble_eq_true rfl⟩) hS (fun q _ h => hFc q h) hFc (fun u t H1 locs ht1 hvm hw hB hz1 hk1 hS => ?_)
  obtain ⟨q1, q2, q3, q4, q5, hP1, hD1⟩ := hB
  rw [ht1] at hP1
  obtain ⟨hP, hD⟩ := va_join (wr := []) (w1 := [(h0, .inr (5, [.ref q1, .ref q2, .ref q3, .ref q4, .ref q5, .ref a0, .ref a0, .int 0])), zI G 0 64 q1, zI G 0 64 q2, zI G 0 64 q3, zI G 0 64 q4, zI G 0 64 q5]) hP hD [0] [] rfl rfl (by decide) (by decide) hk1 hFc hP1 hD1
  generalize H1 = H at hP hS ⊢
  have hP : va_P G.1 vwCl [(h0, .inr (5, [.ref q1, .ref q2, .ref q3, .ref q4, .ref q5, .ref a0, .ref a0, .int 0])), zI G 0 64 q1, zI G 0 64 q2, zI G 0 64 q3, zI G 0 64 q4, zI G 0 64 q5] H := hP
  have hD : va_D A [(h0, .inr (5, [.ref q1, .ref q2, .ref q3, .ref q4, .ref q5, .ref a0, .ref a0, .int 0])), zI G 0 64 q1, zI G 0 64 q2, zI G 0 64 q3, zI G 0 64 q4, zI G 0 64 q5] := hD
  refine W.widen (k := 5) (n := 320) (Nat.le_of_ble_eq_true rfl) (Nat.le_of_ble_eq_true rfl) ?_
  exact W.vret hx hb hr (fun t ht9 hW => ⟨⟨(), rfl, trivial, q1, q2, q3, q4, q5, by rw [ht9]; exact hP, hD⟩, hS.F ht9⟩) hS.2.2 dX6_init_5
theorem wi_32 : Cond.methodLink RX8 1 objectInit ∈ mgood := mgood_in (w := Cond.methodLink RX8 1 objectInit) (List.mem_of_getElem? (i := 32) (by decide +kernel)) rfl
theorem wi_35 : Cond.classLink RX8 7 RX3 ∈ mgood := mgood_in (w := Cond.classLink RX8 7 RX3) (List.mem_of_getElem? (i := 35) (by decide +kernel)) rfl
theorem wi_37 : Cond.methodLink RX8 9 yX3_init ∈ mgood := mgood_in (w := Cond.methodLink RX8 9 yX3_init) (List.mem_of_getElem? (i := 37) (by decide +kernel)) rfl
theorem wi_187 : Cond.fieldLink RX8 10 "MirroredTalks" "first" "LMirroredTalks$Plan;" ∈ mgood := mgood_in (w := Cond.fieldLink RX8 10 "MirroredTalks" "first" "LMirroredTalks$Plan;") (List.mem_of_getElem? (i := 187) (by decide +kernel)) rfl
theorem wi_188 : Cond.fieldLink RX8 16 "MirroredTalks" "second" "LMirroredTalks$Plan;" ∈ mgood := mgood_in (w := Cond.fieldLink RX8 16 "MirroredTalks" "second" "LMirroredTalks$Plan;") (List.mem_of_getElem? (i := 188) (by decide +kernel)) rfl
theorem wi_189 : Cond.fieldLink RX8 19 "MirroredTalks" "third" "LMirroredTalks$Plan;" ∈ mgood := mgood_in (w := Cond.fieldLink RX8 19 "MirroredTalks" "third" "LMirroredTalks$Plan;") (List.mem_of_getElem? (i := 189) (by decide +kernel)) rfl
theorem wi_64 : Cond.classLink RX8 22 RX0 ∈ mgood := mgood_in (w := Cond.classLink RX8 22 RX0) (List.mem_of_getElem? (i := 64) (by decide +kernel)) rfl
theorem wi_65 : Cond.instantiable RX0 2 ∈ mgood := mgood_in (w := Cond.instantiable RX0 2) (List.mem_of_getElem? (i := 65) (by decide +kernel)) rfl
theorem wi_16 : Cond.initialized RX0 ∈ mgood := mgood_in (w := Cond.initialized RX0) (List.mem_of_getElem? (i := 16) (by decide +kernel)) rfl
theorem wi_67 : Cond.instanceMethod yX0_init ∈ mgood := mgood_in (w := Cond.instanceMethod yX0_init) (List.mem_of_getElem? (i := 67) (by decide +kernel)) rfl
theorem wi_66 : Cond.methodLinkNest RX8 24 yX0_init "MirroredTalks" ∈ mnest := mnest_in (w := Cond.methodLinkNest RX8 24 yX0_init "MirroredTalks") (List.mem_of_getElem? (i := 66) (by decide +kernel)) rfl
theorem wi_190 : Cond.fieldLink RX8 25 "MirroredTalks" "history" "LMirroredTalks$History;" ∈ mgood := mgood_in (w := Cond.fieldLink RX8 25 "MirroredTalks" "history" "LMirroredTalks$History;") (List.mem_of_getElem? (i := 190) (by decide +kernel)) rfl
theorem wi_77 : Cond.classLink RX8 29 RX4 ∈ mgood := mgood_in (w := Cond.classLink RX8 29 RX4) (List.mem_of_getElem? (i := 77) (by decide +kernel)) rfl
theorem wi_78 : Cond.instantiable RX4 7 ∈ mgood := mgood_in (w := Cond.instantiable RX4 7) (List.mem_of_getElem? (i := 78) (by decide +kernel)) rfl
theorem wi_17 : Cond.initialized RX4 ∈ mgood := mgood_in (w := Cond.initialized RX4) (List.mem_of_getElem? (i := 17) (by decide +kernel)) rfl
theorem wi_80 : Cond.instanceMethod yX4_init ∈ mgood := mgood_in (w := Cond.instanceMethod yX4_init) (List.mem_of_getElem? (i := 80) (by decide +kernel)) rfl
theorem wi_79 : Cond.methodLinkNest RX8 31 yX4_init "MirroredTalks" ∈ mnest := mnest_in (w := Cond.methodLinkNest RX8 31 yX4_init "MirroredTalks") (List.mem_of_getElem? (i := 79) (by decide +kernel)) rfl
theorem wi_191 : Cond.fieldLink RX8 32 "MirroredTalks" "text" "LMirroredTalks$PlanText;" ∈ mgood := mgood_in (w := Cond.fieldLink RX8 32 "MirroredTalks" "text" "LMirroredTalks$PlanText;") (List.mem_of_getElem? (i := 191) (by decide +kernel)) rfl
theorem wi_107 : Cond.classLink RX8 36 RX1 ∈ mgood := mgood_in (w := Cond.classLink RX8 36 RX1) (List.mem_of_getElem? (i := 107) (by decide +kernel)) rfl
theorem wi_108 : Cond.instantiable RX1 1 ∈ mgood := mgood_in (w := Cond.instantiable RX1 1) (List.mem_of_getElem? (i := 108) (by decide +kernel)) rfl
theorem wi_18 : Cond.initialized RX1 ∈ mgood := mgood_in (w := Cond.initialized RX1) (List.mem_of_getElem? (i := 18) (by decide +kernel)) rfl
theorem wi_110 : Cond.instanceMethod yX1_init ∈ mgood := mgood_in (w := Cond.instanceMethod yX1_init) (List.mem_of_getElem? (i := 110) (by decide +kernel)) rfl
theorem wi_109 : Cond.methodLinkNest RX8 38 yX1_init "MirroredTalks" ∈ mnest := mnest_in (w := Cond.methodLinkNest RX8 38 yX1_init "MirroredTalks") (List.mem_of_getElem? (i := 109) (by decide +kernel)) rfl
theorem wi_192 : Cond.fieldLink RX8 39 "MirroredTalks" "likeness" "LMirroredTalks$Likeness;" ∈ mgood := mgood_in (w := Cond.fieldLink RX8 39 "MirroredTalks" "likeness" "LMirroredTalks$Likeness;") (List.mem_of_getElem? (i := 192) (by decide +kernel)) rfl
theorem wi_118 : Cond.classLink RX8 43 RX7 ∈ mgood := mgood_in (w := Cond.classLink RX8 43 RX7) (List.mem_of_getElem? (i := 118) (by decide +kernel)) rfl
theorem wi_119 : Cond.instantiable RX7 8 ∈ mgood := mgood_in (w := Cond.instantiable RX7 8) (List.mem_of_getElem? (i := 119) (by decide +kernel)) rfl
theorem wi_20 : Cond.initialized RX7 ∈ mgood := mgood_in (w := Cond.initialized RX7) (List.mem_of_getElem? (i := 20) (by decide +kernel)) rfl
theorem wi_121 : Cond.instanceMethod yX7_init ∈ mgood := mgood_in (w := Cond.instanceMethod yX7_init) (List.mem_of_getElem? (i := 121) (by decide +kernel)) rfl
theorem wi_120 : Cond.methodLink RX8 45 yX7_init ∈ mgood := mgood_in (w := Cond.methodLink RX8 45 yX7_init) (List.mem_of_getElem? (i := 120) (by decide +kernel)) rfl
theorem wi_193 : Cond.fieldLink RX8 48 "MirroredTalks" "talkPairs" "LMirroredTalks$TalkPairs;" ∈ mgood := mgood_in (w := Cond.fieldLink RX8 48 "MirroredTalks" "talkPairs" "LMirroredTalks$TalkPairs;") (List.mem_of_getElem? (i := 193) (by decide +kernel)) rfl
theorem wi_152 : Cond.classLink RX8 52 RX5 ∈ mgood := mgood_in (w := Cond.classLink RX8 52 RX5) (List.mem_of_getElem? (i := 152) (by decide +kernel)) rfl
theorem wi_153 : Cond.instantiable RX5 4 ∈ mgood := mgood_in (w := Cond.instantiable RX5 4) (List.mem_of_getElem? (i := 153) (by decide +kernel)) rfl
theorem wi_21 : Cond.initialized RX5 ∈ mgood := mgood_in (w := Cond.initialized RX5) (List.mem_of_getElem? (i := 21) (by decide +kernel)) rfl
theorem wi_155 : Cond.instanceMethod yX5_init ∈ mgood := mgood_in (w := Cond.instanceMethod yX5_init) (List.mem_of_getElem? (i := 155) (by decide +kernel)) rfl
theorem wi_154 : Cond.methodLinkNest RX8 54 yX5_init "MirroredTalks" ∈ mnest := mnest_in (w := Cond.methodLinkNest RX8 54 yX5_init "MirroredTalks") (List.mem_of_getElem? (i := 154) (by decide +kernel)) rfl
theorem wi_194 : Cond.fieldLink RX8 55 "MirroredTalks" "rowCount" "LMirroredTalks$RowCount;" ∈ mgood := mgood_in (w := Cond.fieldLink RX8 55 "MirroredTalks" "rowCount" "LMirroredTalks$RowCount;") (List.mem_of_getElem? (i := 194) (by decide +kernel)) rfl
theorem wi_172 : Cond.classLink RX8 59 RX6 ∈ mgood := mgood_in (w := Cond.classLink RX8 59 RX6) (List.mem_of_getElem? (i := 172) (by decide +kernel)) rfl
theorem wi_173 : Cond.instantiable RX6 8 ∈ mgood := mgood_in (w := Cond.instantiable RX6 8) (List.mem_of_getElem? (i := 173) (by decide +kernel)) rfl
theorem wi_22 : Cond.initialized RX6 ∈ mgood := mgood_in (w := Cond.initialized RX6) (List.mem_of_getElem? (i := 22) (by decide +kernel)) rfl
theorem wi_175 : Cond.instanceMethod yX6_init ∈ mgood := mgood_in (w := Cond.instanceMethod yX6_init) (List.mem_of_getElem? (i := 175) (by decide +kernel)) rfl
theorem wi_174 : Cond.methodLink RX8 61 yX6_init ∈ mgood := mgood_in (w := Cond.methodLink RX8 61 yX6_init) (List.mem_of_getElem? (i := 174) (by decide +kernel)) rfl
theorem wi_195 : Cond.fieldLink RX8 62 "MirroredTalks" "standInPairs" "LMirroredTalks$StandInPairs;" ∈ mgood := mgood_in (w := Cond.fieldLink RX8 62 "MirroredTalks" "standInPairs" "LMirroredTalks$StandInPairs;") (List.mem_of_getElem? (i := 195) (by decide +kernel)) rfl
set_option maxHeartbeats 4000000 in
set_option maxRecDepth 100000 in
theorem c_X8_init (l : Launch) (G : mG) (h0 sz : Nat) : Met l yX8_init (Cond.code yX8_init cX8_init 1 none :: mgood) (mRC 5 30 1906) (va_Pc [.ref h0] (fun U => U.heap.size = sz ∧ va_P G.1 vwCl [(h0, .inr (7, [.null, .null, .null, .null, .null, .null, .null, .null, .null]))] U.heap ∧ va_K G.1 vwCl (mtys G) U ∧ va_D (fun _ => True) [(h0, .inr (7, [.null, .null, .null, .null, .null, .null, .null, .null, .null]))] ∧ ∀ q ∈ mnest, va_Nw q U)) (va_Qv (fun _ : Unit => True) (fun _ t => ∃ (q1 q2 q3 q4 q5 q6 q7 q8 q9 q10 q11 q12 q13 q14 q15 q16 q17 q18 q19 q20 q21 q22 q23 q24 q25 q26 q27 q28 q29 q30 : Nat), va_P G.1 vwCl [(h0, .inr (7, [.ref q1, .ref q3, .ref q5, .ref q7, .ref q9, .ref q13, .ref q15, .ref q21, .ref q25])), (q1, .inr (2, [.ref q2])), zP G q2, (q3, .inr (2, [.ref q4])), zP G q4, (q5, .inr (2, [.ref q6])), zP G q6, (q7, .inr (0, [.ref q8, .int 0])), zI G 0 672 q8, (q9, .inr (3, [.ref q10, .int 0, .ref q11, .int 0, .int 0, .int 0, .int 0])), zI G 0 80 q10, (q11, .inr (2, [.ref q12])), zP G q12, (q13, .inr (1, [.ref q14])), zI G 1 64 q14, (q15, .inr (6, [.ref q16, .ref q17, .ref q18, .ref q19, .ref q20, .ref q1, .ref q1, .int 0])), zI G 0 64 q16, zI G 0 64 q17, zI G 0 64 q18, zI G 0 64 q19, zI G 0 64 q20, (q21, .inr (4, [.ref q22, .ref q23, .ref q24, .int 0])), zI G 0 64 q22, zJ G 64 q23, zI G 0 64 q24, (q25, .inr (5, [.ref q26, .ref q27, .ref q28, .ref q29, .ref q30, .ref q1, .ref q1, .int 0])), zI G 0 64 q26, zI G 0 64 q27, zI G 0 64 q28, zI G 0 64 q29, zI G 0 64 q30] t.heap ∧ va_D (va_A [(h0, .inr (7, [.null, .null, .null, .null, .null, .null, .null, .null, .null]))] sz) [(h0, .inr (7, [.ref q1, .ref q3, .ref q5, .ref q7, .ref q9, .ref q13, .ref q15, .ref q21, .ref q25])), (q1, .inr (2, [.ref q2])), zP G q2, (q3, .inr (2, [.ref q4])), zP G q4, (q5, .inr (2, [.ref q6])), zP G q6, (q7, .inr (0, [.ref q8, .int 0])), zI G 0 672 q8, (q9, .inr (3, [.ref q10, .int 0, .ref q11, .int 0, .int 0, .int 0, .int 0])), zI G 0 80 q10, (q11, .inr (2, [.ref q12])), zP G q12, (q13, .inr (1, [.ref q14])), zI G 1 64 q14, (q15, .inr (6, [.ref q16, .ref q17, .ref q18, .ref q19, .ref q20, .ref q1, .ref q1, .int 0])), zI G 0 64 q16, zI G 0 64 q17, zI G 0 64 q18, zI G 0 64 q19, zI G 0 64 q20, (q21, .inr (4, [.ref q22, .ref q23, .ref q24, .int 0])), zI G 0 64 q22, zJ G 64 q23, zI G 0 64 q24, (q25, .inr (5, [.ref q26, .ref q27, .ref q28, .ref q29, .ref q30, .ref q1, .ref q1, .int 0])), zI G 0 64 q26, zI G 0 64 q27, zI G 0 64 q28, zI G 0 64 q29, zI G 0 64 q30]) (va_A [(h0, .inr (7, [.null, .null, .null, .null, .null, .null, .null, .null, .null]))] sz)) 30 1906 (va_A [(h0, .inr (7, [.null, .null, .null, .null, .null, .null, .null, .null, .null]))] sz) := by
  refine Met.ofW (cc := cX8_init) (maxL := 1) (ret := none) (by decide) rfl ?_
  intro p e s m args below meth c s₁ B hml hv
  obtain ⟨rfl, hsz, hP, hK, hD0, hN⟩ := hv
  have hx := B.exec
  have hb := B.bytes
  have hr := B.returns
  have hts := atoms_spec (ws := Cond.code yX8_init cX8_init 1 none :: mgood) B.pre
  have ht := fun w hw => hts w (List.mem_cons_of_mem _ hw)
  have hown : s.vm.findClass RX8 = some m.cls := findClass_of_methodNamed B.named
  have hlocks := B.notSynchronized
  have hin : meth.name = "<init>" := (name_of_methodNamed B.named B.method).1
  subst hsz
  have hD := hD0.self (sz := s.heap.size)
  generalize hAe : va_A [(h0, .inr (7, [.null, .null, .null, .null, .null, .null, .null, .null, .null]))] s.heap.size = A at hD ⊢
  have hA : ∀ q : Nat, s.heap.size ≤ q → A q := fun q h => by rw [← hAe]; exact Or.inr h
  have hS : va_S A s.heap s.heap [] := va_S.rf
  have hP : va_P G.1 vwCl [(h0, .inr (7, [.null, .null, .null, .null, .null, .null, .null, .null, .null]))] s.heap := hP
  have hl := lv_entry ([.ref h0]) (n := 1) (Nat.le_of_ble_eq_true rfl)
  rw [lg_entry_eq]
  generalize (lg_sl ([.ref h0]) ++ List.replicate (1 - (lg_sl ([.ref h0])).length) Slot.unset).toArray = ls at hl ⊢
  have hl : lv_has ls 1 [(0, .ref h0)] := hl
  refine lv_aload_n hx hb dX8_init_0 rfl (lv_at hl 0 rfl) ?_
  refine W.objInit hx hb hown (ht _ wi_32) (ht _ wi_33) (ht _ wi_34) rfl (by rw [hml]; exact hl.1) rfl dX8_init_1 (Nat.le_of_ble_eq_true rfl) (Nat.le_of_ble_eq_true rfl) ?_
  refine W.eq (g2 := F0 m 4 ls []) rfl ?_
  refine lv_aload_n hx hb dX8_init_4 rfl (lv_at hl 0 rfl) ?_
  refine va_new (ci := 2) (fs := [.null]) (C := RX3) (T := TX3) (N := 1) hx hb ht uiX3 tyX3 tyX3_ok hown (ht _ wi_35) (ht _ wi_36) (ht _ wi_15) hK hP hD hS hA rfl (fun j hj => by (obtain rfl : j = 0 := by omega); rfl) (Nat.le_of_ble_eq_true rfl) (Nat.le_of_ble_eq_true rfl) dX8_init_5 (fun q1 H hP hD hS => ?_)
  have hP : va_P G.1 vwCl [(h0, .inr (7, [.null, .null, .null, .null, .null, .null, .null, .null, .null])), (q1, .inr (2, [.null]))] H := hP
  have hD : va_D A [(h0, .inr (7, [.null, .null, .null, .null, .null, .null, .null, .null, .null])), (q1, .inr (2, [.null]))] := hD
  refine lv_dup hx hb dX8_init_8 rfl ?_
  have hPc := hP.sub (ws' := [(q1, .inr (2, [.null]))]) [1] rfl
  have hDc := hD.sub (ws' := [(q1, .inr (2, [.null]))]) [1] (by decide) rfl
  have hFc := va_free (wc := [(q1, .inr (2, [.null]))]) hD hS hA [1] rfl
  refine va_callv (va_runI (As := []) (rest := [.ref q1, .ref h0]) ⟨hx, hb, hml, hown, ht⟩ (c_X3_init l G q1 H.size) (cwI 0 ht (mgoodIn _ _ _ _ kc_X3_init) rfl rfl rfl (ht _ wi_15) (ht _ wi_37) (ht _ wi_38) rfl (by decide +kernel) ⟨Nat.le_of_ble_eq_true rfl, Nat.le_of_ble_eq_true rfl⟩) ⟨cblind G _ _ _, fun U hU hW => ⟨rfl, by rw [hU], by rw [hU]; exact hPc, va_K.moved hW.alike hK, hDc.weaken (fun _ _ _ _ => trivial), fun q hq => mnest_warm hq hW (hN q hq)⟩⟩ rfl rfl hl.1 rfl (lv_room (Nat.le_of_ble_eq_true rfl)) dX8_init_9 ⟨Nat.le_of_ble_eq_true rfl, Nat.le_of_ble_eq_true rfl⟩) hS (fun q _ h => hFc q h) hFc (fun u t H1 locs ht1 hvm hw hB hz1 hk1 hS => ?_)
  obtain ⟨q2, hP1, hD1⟩ := hB
  rw [ht1] at hP1
  obtain ⟨hP, hD⟩ := va_join (wr := [(h0, .inr (7, [.null, .null, .null, .null, .null, .null, .null, .null, .null]))]) (w1 := [(q1, .inr (2, [.ref q2])), zP G q2]) hP hD [1] [0] rfl rfl (by decide) (by decide) hk1 hFc hP1 hD1
  generalize H1 = H at hP hS ⊢
  have hP : va_P G.1 vwCl [(h0, .inr (7, [.null, .null, .null, .null, .null, .null, .null, .null, .null])), (q1, .inr (2, [.ref q2])), zP G q2] H := hP
  have hD : va_D A [(h0, .inr (7, [.null, .null, .null, .null, .null, .null, .null, .null, .null])), (q1, .inr (2, [.ref q2])), zP G q2] := hD
  refine va_putF (D := G.1) (ci := 7) (v := .ref q1) (ty := (tyX8 0)) (C := RX8) (T := TX8) (N := 9) hx hb ht uiX8 tyX8 tyX8_ok nmX8 hown hK hP hD hS 0 rfl rfl 0 (by decide) (ht _ wi_187) (fun _ h9 => h9) rfl hin rfl (by decide +kernel) rfl rfl (Nat.le_of_ble_eq_true rfl) dX8_init_12 (fun H locs hP hD hS => ?_)
  have hP : va_P G.1 vwCl [(h0, .inr (7, [.ref q1, .null, .null, .null, .null, .null, .null, .null, .null])), (q1, .inr (2, [.ref q2])), zP G q2] H := hP
  have hD : va_D A [(h0, .inr (7, [.ref q1, .null, .null, .null, .null, .null, .null, .null, .null])), (q1, .inr (2, [.ref q2])), zP G q2] := hD
  refine lv_aload_n hx hb dX8_init_15 rfl (lv_at hl 0 rfl) ?_
  refine va_new (ci := 2) (fs := [.null]) (C := RX3) (T := TX3) (N := 1) hx hb ht uiX3 tyX3 tyX3_ok hown (ht _ wi_35) (ht _ wi_36) (ht _ wi_15) hK hP hD hS hA rfl (fun j hj => by (obtain rfl : j = 0 := by omega); rfl) (Nat.le_of_ble_eq_true rfl) (Nat.le_of_ble_eq_true rfl) dX8_init_16 (fun q3 H hP hD hS => ?_)
  have hP : va_P G.1 vwCl [(h0, .inr (7, [.ref q1, .null, .null, .null, .null, .null, .null, .null, .null])), (q1, .inr (2, [.ref q2])), zP G q2, (q3, .inr (2, [.null]))] H := hP
  have hD : va_D A [(h0, .inr (7, [.ref q1, .null, .null, .null, .null, .null, .null, .null, .null])), (q1, .inr (2, [.ref q2])), zP G q2, (q3, .inr (2, [.null]))] := hD
  refine lv_dup hx hb dX8_init_19 rfl ?_
  have hPc := hP.sub (ws' := [(q3, .inr (2, [.null]))]) [3] rfl
  have hDc := hD.sub (ws' := [(q3, .inr (2, [.null]))]) [3] (by decide) rfl
  have hFc := va_free (wc := [(q3, .inr (2, [.null]))]) hD hS hA [3] rfl
  refine va_callv (va_runI (As := []) (rest := [.ref q3, .ref h0]) ⟨hx, hb, hml, hown, ht⟩ (c_X3_init l G q3 H.size) (cwI 0 ht (mgoodIn _ _ _ _ kc_X3_init) rfl rfl rfl (ht _ wi_15) (ht _ wi_37) (ht _ wi_38) rfl (by decide +kernel) ⟨Nat.le_of_ble_eq_true rfl, Nat.le_of_ble_eq_true rfl⟩) ⟨cblind G _ _ _, fun U hU hW => ⟨rfl, by rw [hU], by rw [hU]; exact hPc, va_K.moved hW.alike hK, hDc.weaken (fun _ _ _ _ => trivial), fun q hq => mnest_warm hq hW (hN q hq)⟩⟩ rfl rfl hl.1 rfl (lv_room (Nat.le_of_ble_eq_true rfl)) dX8_init_20 ⟨Nat.le_of_ble_eq_true rfl, Nat.le_of_ble_eq_true rfl⟩) hS (fun q _ h => hFc q h) hFc (fun u t H1 locs ht1 hvm hw hB hz1 hk1 hS => ?_)
  obtain ⟨q4, hP1, hD1⟩ := hB
  rw [ht1] at hP1
  obtain ⟨hP, hD⟩ := va_join (wr := [(h0, .inr (7, [.ref q1, .null, .null, .null, .null, .null, .null, .null, .null])), (q1, .inr (2, [.ref q2])), zP G q2]) (w1 := [(q3, .inr (2, [.ref q4])), zP G q4]) hP hD [3] [0, 1, 2] rfl rfl (by decide) (by decide) hk1 hFc hP1 hD1
  generalize H1 = H at hP hS ⊢
  have hP : va_P G.1 vwCl [(h0, .inr (7, [.ref q1, .null, .null, .null, .null, .null, .null, .null, .null])), (q1, .inr (2, [.ref q2])), zP G q2, (q3, .inr (2, [.ref q4])), zP G q4] H := hP
  have hD : va_D A [(h0, .inr (7, [.ref q1, .null, .null, .null, .null, .null, .null, .null, .null])), (q1, .inr (2, [.ref q2])), zP G q2, (q3, .inr (2, [.ref q4])), zP G q4] := hD
  refine va_putF (D := G.1) (ci := 7) (v := .ref q3) (ty := (tyX8 1)) (C := RX8) (T := TX8) (N := 9) hx hb ht uiX8 tyX8 tyX8_ok nmX8 hown hK hP hD hS 0 rfl rfl 1 (by decide) (ht _ wi_188) (fun _ h9 => h9) rfl hin rfl (by decide +kernel) rfl rfl (Nat.le_of_ble_eq_true rfl) dX8_init_23 (fun H locs hP hD hS => ?_)
  have hP : va_P G.1 vwCl [(h0, .inr (7, [.ref q1, .ref q3, .null, .null, .null, .null, .null, .null, .null])), (q1, .inr (2, [.ref q2])), zP G q2, (q3, .inr (2, [.ref q4])), zP G q4] H := hP
  have hD : va_D A [(h0, .inr (7, [.ref q1, .ref q3, .null, .null, .null, .null, .null, .null, .null])), (q1, .inr (2, [.ref q2])), zP G q2, (q3, .inr (2, [.ref q4])), zP G q4] := hD
  refine lv_aload_n hx hb dX8_init_26 rfl (lv_at hl 0 rfl) ?_
  refine va_new (ci := 2) (fs := [.null]) (C := RX3) (T := TX3) (N := 1) hx hb ht uiX3 tyX3 tyX3_ok hown (ht _ wi_35) (ht _ wi_36) (ht _ wi_15) hK hP hD hS hA rfl (fun j hj => by (obtain rfl : j = 0 := by omega); rfl) (Nat.le_of_ble_eq_true rfl) (Nat.le_of_ble_eq_true rfl) dX8_init_27 (fun q5 H hP hD hS => ?_)
  have hP : va_P G.1 vwCl [(h0, .inr (7, [.ref q1, .ref q3, .null, .null, .null, .null, .null, .null, .null])), (q1, .inr (2, [.ref q2])), zP G q2, (q3, .inr (2, [.ref q4])), zP G q4, (q5, .inr (2, [.null]))] H := hP
  have hD : va_D A [(h0, .inr (7, [.ref q1, .ref q3, .null, .null, .null, .null, .null, .null, .null])), (q1, .inr (2, [.ref q2])), zP G q2, (q3, .inr (2, [.ref q4])), zP G q4, (q5, .inr (2, [.null]))] := hD
  refine lv_dup hx hb dX8_init_30 rfl ?_
  have hPc := hP.sub (ws' := [(q5, .inr (2, [.null]))]) [5] rfl
  have hDc := hD.sub (ws' := [(q5, .inr (2, [.null]))]) [5] (by decide) rfl
  have hFc := va_free (wc := [(q5, .inr (2, [.null]))]) hD hS hA [5] rfl
  refine va_callv (va_runI (As := []) (rest := [.ref q5, .ref h0]) ⟨hx, hb, hml, hown, ht⟩ (c_X3_init l G q5 H.size) (cwI 0 ht (mgoodIn _ _ _ _ kc_X3_init) rfl rfl rfl (ht _ wi_15) (ht _ wi_37) (ht _ wi_38) rfl (by decide +kernel) ⟨Nat.le_of_ble_eq_true rfl, Nat.le_of_ble_eq_true rfl⟩) ⟨cblind G _ _ _, fun U hU hW => ⟨rfl, by rw [hU], by rw [hU]; exact hPc, va_K.moved hW.alike hK, hDc.weaken (fun _ _ _ _ => trivial), fun q hq => mnest_warm hq hW (hN q hq)⟩⟩ rfl rfl hl.1 rfl (lv_room (Nat.le_of_ble_eq_true rfl)) dX8_init_31 ⟨Nat.le_of_ble_eq_true rfl, Nat.le_of_ble_eq_true rfl⟩) hS (fun q _ h => hFc q h) hFc (fun u t H1 locs ht1 hvm hw hB hz1 hk1 hS => ?_)
  obtain ⟨q6, hP1, hD1⟩ := hB
  rw [ht1] at hP1
  obtain ⟨hP, hD⟩ := va_join (wr := [(h0, .inr (7, [.ref q1, .ref q3, .null, .null, .null, .null, .null, .null, .null])), (q1, .inr (2, [.ref q2])), zP G q2, (q3, .inr (2, [.ref q4])), zP G q4]) (w1 := [(q5, .inr (2, [.ref q6])), zP G q6]) hP hD [5] [0, 1, 2, 3, 4] rfl rfl (by decide) (by decide) hk1 hFc hP1 hD1
  generalize H1 = H at hP hS ⊢
  have hP : va_P G.1 vwCl [(h0, .inr (7, [.ref q1, .ref q3, .null, .null, .null, .null, .null, .null, .null])), (q1, .inr (2, [.ref q2])), zP G q2, (q3, .inr (2, [.ref q4])), zP G q4, (q5, .inr (2, [.ref q6])), zP G q6] H := hP
  have hD : va_D A [(h0, .inr (7, [.ref q1, .ref q3, .null, .null, .null, .null, .null, .null, .null])), (q1, .inr (2, [.ref q2])), zP G q2, (q3, .inr (2, [.ref q4])), zP G q4, (q5, .inr (2, [.ref q6])), zP G q6] := hD
  refine va_putF (D := G.1) (ci := 7) (v := .ref q5) (ty := (tyX8 2)) (C := RX8) (T := TX8) (N := 9) hx hb ht uiX8 tyX8 tyX8_ok nmX8 hown hK hP hD hS 0 rfl rfl 2 (by decide) (ht _ wi_189) (fun _ h9 => h9) rfl hin rfl (by decide +kernel) rfl rfl (Nat.le_of_ble_eq_true rfl) dX8_init_34 (fun H locs hP hD hS => ?_)
  have hP : va_P G.1 vwCl [(h0, .inr (7, [.ref q1, .ref q3, .ref q5, .null, .null, .null, .null, .null, .null])), (q1, .inr (2, [.ref q2])), zP G q2, (q3, .inr (2, [.ref q4])), zP G q4, (q5, .inr (2, [.ref q6])), zP G q6] H := hP
  have hD : va_D A [(h0, .inr (7, [.ref q1, .ref q3, .ref q5, .null, .null, .null, .null, .null, .null])), (q1, .inr (2, [.ref q2])), zP G q2, (q3, .inr (2, [.ref q4])), zP G q4, (q5, .inr (2, [.ref q6])), zP G q6] := hD
  refine lv_aload_n hx hb dX8_init_37 rfl (lv_at hl 0 rfl) ?_
  refine va_new (ci := 0) (fs := [.null, .int 0]) (C := RX0) (T := TX0) (N := 2) hx hb ht uiX0 tyX0 tyX0_ok hown (ht _ wi_64) (ht _ wi_65) (ht _ wi_16) hK hP hD hS hA rfl (fun j hj => by rcases (show j = 0 ∨ j = 1 by omega) with rfl | rfl <;> rfl) (Nat.le_of_ble_eq_true rfl) (Nat.le_of_ble_eq_true rfl) dX8_init_38 (fun q7 H hP hD hS => ?_)
  have hP : va_P G.1 vwCl [(h0, .inr (7, [.ref q1, .ref q3, .ref q5, .null, .null, .null, .null, .null, .null])), (q1, .inr (2, [.ref q2])), zP G q2, (q3, .inr (2, [.ref q4])), zP G q4, (q5, .inr (2, [.ref q6])), zP G q6, (q7, .inr (0, [.null, .int 0]))] H := hP
  have hD : va_D A [(h0, .inr (7, [.ref q1, .ref q3, .ref q5, .null, .null, .null, .null, .null, .null])), (q1, .inr (2, [.ref q2])), zP G q2, (q3, .inr (2, [.ref q4])), zP G q4, (q5, .inr (2, [.ref q6])), zP G q6, (q7, .inr (0, [.null, .int 0]))] := hD
  refine lv_dup hx hb dX8_init_41 rfl ?_
  have hPc := hP.sub (ws' := [(q7, .inr (0, [.null, .int 0]))]) [7] rfl
  have hDc := hD.sub (ws' := [(q7, .inr (0, [.null, .int 0]))]) [7] (by decide) rfl
  have hFc := va_free (wc := [(q7, .inr (0, [.null, .int 0]))]) hD hS hA [7] rfl
  refine va_callv (va_runIN (As := []) (rest := [.ref q7, .ref h0]) ⟨hx, hb, hml, hown, ht⟩ (c_X0_init l G q7 H.size) ⟨va_cnB 0 ht (mgoodIn _ _ _ _ kc_X0_init) rfl rfl rfl (hN _ wi_66) (ht _ wi_16) (by decide +kernel) ⟨Nat.le_of_ble_eq_true rfl, Nat.le_of_ble_eq_true rfl⟩, rfl, ht _ wi_67⟩ ⟨cblind G _ _ _, fun U hU hW => ⟨rfl, by rw [hU], by rw [hU]; exact hPc, va_K.moved hW.alike hK, hDc.weaken (fun _ _ _ _ => trivial), fun q hq => mnest_warm hq hW (hN q hq)⟩⟩ rfl rfl hl.1 rfl (lv_room (Nat.le_of_ble_eq_true rfl)) dX8_init_42 ⟨Nat.le_of_ble_eq_true rfl, Nat.le_of_ble_eq_true rfl⟩) hS (fun q _ h => hFc q h) hFc (fun u t H1 locs ht1 hvm hw hB hz1 hk1 hS => ?_)
  obtain ⟨q8, hP1, hD1⟩ := hB
  rw [ht1] at hP1
  obtain ⟨hP, hD⟩ := va_join (wr := [(h0, .inr (7, [.ref q1, .ref q3, .ref q5, .null, .null, .null, .null, .null, .null])), (q1, .inr (2, [.ref q2])), zP G q2, (q3, .inr (2, [.ref q4])), zP G q4, (q5, .inr (2, [.ref q6])), zP G q6]) (w1 := [(q7, .inr (0, [.ref q8, .int 0])), zI G 0 672 q8]) hP hD [7] [0, 1, 2, 3, 4, 5, 6] rfl rfl (by decide) (by decide) hk1 hFc hP1 hD1
  generalize H1 = H at hP hS ⊢
  have hP : va_P G.1 vwCl [(h0, .inr (7, [.ref q1, .ref q3, .ref q5, .null, .null, .null, .null, .null, .null])), (q1, .inr (2, [.ref q2])), zP G q2, (q3, .inr (2, [.ref q4])), zP G q4, (q5, .inr (2, [.ref q6])), zP G q6, (q7, .inr (0, [.ref q8, .int 0])), zI G 0 672 q8] H := hP
  have hD : va_D A [(h0, .inr (7, [.ref q1, .ref q3, .ref q5, .null, .null, .null, .null, .null, .null])), (q1, .inr (2, [.ref q2])), zP G q2, (q3, .inr (2, [.ref q4])), zP G q4, (q5, .inr (2, [.ref q6])), zP G q6, (q7, .inr (0, [.ref q8, .int 0])), zI G 0 672 q8] := hD
  refine va_putF (D := G.1) (ci := 7) (v := .ref q7) (ty := (tyX8 3)) (C := RX8) (T := TX8) (N := 9) hx hb ht uiX8 tyX8 tyX8_ok nmX8 hown hK hP hD hS 0 rfl rfl 3 (by decide) (ht _ wi_190) (fun _ h9 => h9) rfl hin rfl (by decide +kernel) rfl rfl (Nat.le_of_ble_eq_true rfl) dX8_init_45 (fun H locs hP hD hS => ?_)
  have hP : va_P G.1 vwCl [(h0, .inr (7, [.ref q1, .ref q3, .ref q5, .ref q7, .null, .null, .null, .null, .null])), (q1, .inr (2, [.ref q2])), zP G q2, (q3, .inr (2, [.ref q4])), zP G q4, (q5, .inr (2, [.ref q6])), zP G q6, (q7, .inr (0, [.ref q8, .int 0])), zI G 0 672 q8] H := hP
  have hD : va_D A [(h0, .inr (7, [.ref q1, .ref q3, .ref q5, .ref q7, .null, .null, .null, .null, .null])), (q1, .inr (2, [.ref q2])), zP G q2, (q3, .inr (2, [.ref q4])), zP G q4, (q5, .inr (2, [.ref q6])), zP G q6, (q7, .inr (0, [.ref q8, .int 0])), zI G 0 672 q8] := hD
  refine lv_aload_n hx hb dX8_init_48 rfl (lv_at hl 0 rfl) ?_
  refine va_new (ci := 3) (fs := [.null, .int 0, .null, .int 0, .int 0, .int 0, .int 0]) (C := RX4) (T := TX4) (N := 7) hx hb ht uiX4 tyX4 tyX4_ok hown (ht _ wi_77) (ht _ wi_78) (ht _ wi_17) hK hP hD hS hA rfl (fun j hj => by rcases (show j = 0 ∨ j = 1 ∨ j = 2 ∨ j = 3 ∨ j = 4 ∨ j = 5 ∨ j = 6 by omega) with rfl | rfl | rfl | rfl | rfl | rfl | rfl <;> rfl) (Nat.le_of_ble_eq_true rfl) (Nat.le_of_ble_eq_true rfl) dX8_init_49 (fun q9 H hP hD hS => ?_)
  have hP : va_P G.1 vwCl [(h0, .inr (7, [.ref q1, .ref q3, .ref q5, .ref q7, .null, .null, .null, .null, .null])), (q1, .inr (2, [.ref q2])), zP G q2, (q3, .inr (2, [.ref q4])), zP G q4, (q5, .inr (2, [.ref q6])), zP G q6, (q7, .inr (0, [.ref q8, .int 0])), zI G 0 672 q8, (q9, .inr (3, [.null, .int 0, .null, .int 0, .int 0, .int 0, .int 0]))] H := hP
  have hD : va_D A [(h0, .inr (7, [.ref q1, .ref q3, .ref q5, .ref q7, .null, .null, .null, .null, .null])), (q1, .inr (2, [.ref q2])), zP G q2, (q3, .inr (2, [.ref q4])), zP G q4, (q5, .inr (2, [.ref q6])), zP G q6, (q7, .inr (0, [.ref q8, .int 0])), zI G 0 672 q8, (q9, .inr (3, [.null, .int 0, .null, .int 0, .int 0, .int 0, .int 0]))] := hD
  refine lv_dup hx hb dX8_init_52 rfl ?_
  have hPc := hP.sub (ws' := [(q9, .inr (3, [.null, .int 0, .null, .int 0, .int 0, .int 0, .int 0]))]) [9] rfl
  have hDc := hD.sub (ws' := [(q9, .inr (3, [.null, .int 0, .null, .int 0, .int 0, .int 0, .int 0]))]) [9] (by decide) rfl
  have hFc := va_free (wc := [(q9, .inr (3, [.null, .int 0, .null, .int 0, .int 0, .int 0, .int 0]))]) hD hS hA [9] rfl
  refine va_callv (va_runIN (As := []) (rest := [.ref q9, .ref h0]) ⟨hx, hb, hml, hown, ht⟩ (c_X4_init l G q9 H.size) ⟨va_cnB 0 ht (mgoodIn _ _ _ _ kc_X4_init) rfl rfl rfl (hN _ wi_79) (ht _ wi_17) (by decide +kernel) ⟨Nat.le_of_ble_eq_true rfl, Nat.le_of_ble_eq_true rfl⟩, rfl, ht _ wi_80⟩ ⟨cblind G _ _ _, fun U hU hW => ⟨rfl, by rw [hU], by rw [hU]; exact hPc, va_K.moved hW.alike hK, hDc.weaken (fun _ _ _ _ => trivial), fun q hq => mnest_warm hq hW (hN q hq)⟩⟩ rfl rfl hl.1 rfl (lv_room (Nat.le_of_ble_eq_true rfl)) dX8_init_53 ⟨Nat.le_of_ble_eq_true rfl, Nat.le_of_ble_eq_true rfl⟩) hS (fun q _ h => hFc q h) hFc (fun u t H1 locs ht1 hvm hw hB hz1 hk1 hS => ?_)
  obtain ⟨q10, q11, q12, hP1, hD1⟩ := hB
  rw [ht1] at hP1
  obtain ⟨hP, hD⟩ := va_join (wr := [(h0, .inr (7, [.ref q1, .ref q3, .ref q5, .ref q7, .null, .null, .null, .null, .null])), (q1, .inr (2, [.ref q2])), zP G q2, (q3, .inr (2, [.ref q4])), zP G q4, (q5, .inr (2, [.ref q6])), zP G q6, (q7, .inr (0, [.ref q8, .int 0])), zI G 0 672 q8]) (w1 := [(q9, .inr (3, [.ref q10, .int 0, .ref q11, .int 0, .int 0, .int 0, .int 0])), zI G 0 80 q10, (q11, .inr (2, [.ref q12])), zP G q12]) hP hD [9] [0, 1, 2, 3, 4, 5, 6, 7, 8] rfl rfl (by decide) (by decide) hk1 hFc hP1 hD1
  generalize H1 = H at hP hS ⊢
  have hP : va_P G.1 vwCl [(h0, .inr (7, [.ref q1, .ref q3, .ref q5, .ref q7, .null, .null, .null, .null, .null])), (q1, .inr (2, [.ref q2])), zP G q2, (q3, .inr (2, [.ref q4])), zP G q4, (q5, .inr (2, [.ref q6])), zP G q6, (q7, .inr (0, [.ref q8, .int 0])), zI G 0 672 q8, (q9, .inr (3, [.ref q10, .int 0, .ref q11, .int 0, .int 0, .int 0, .int 0])), zI G 0 80 q10, (q11, .inr (2, [.ref q12])), zP G q12] H := hP
  have hD : va_D A [(h0, .inr (7, [.ref q1, .ref q3, .ref q5, .ref q7, .null, .null, .null, .null, .null])), (q1, .inr (2, [.ref q2])), zP G q2, (q3, .inr (2, [.ref q4])), zP G q4, (q5, .inr (2, [.ref q6])), zP G q6, (q7, .inr (0, [.ref q8, .int 0])), zI G 0 672 q8, (q9, .inr (3, [.ref q10, .int 0, .ref q11, .int 0, .int 0, .int 0, .int 0])), zI G 0 80 q10, (q11, .inr (2, [.ref q12])), zP G q12] := hD
  refine va_putF (D := G.1) (ci := 7) (v := .ref q9) (ty := (tyX8 4)) (C := RX8) (T := TX8) (N := 9) hx hb ht uiX8 tyX8 tyX8_ok nmX8 hown hK hP hD hS 0 rfl rfl 4 (by decide) (ht _ wi_191) (fun _ h9 => h9) rfl hin rfl (by decide +kernel) rfl rfl (Nat.le_of_ble_eq_true rfl) dX8_init_56 (fun H locs hP hD hS => ?_)
  have hP : va_P G.1 vwCl [(h0, .inr (7, [.ref q1, .ref q3, .ref q5, .ref q7, .ref q9, .null, .null, .null, .null])), (q1, .inr (2, [.ref q2])), zP G q2, (q3, .inr (2, [.ref q4])), zP G q4, (q5, .inr (2, [.ref q6])), zP G q6, (q7, .inr (0, [.ref q8, .int 0])), zI G 0 672 q8, (q9, .inr (3, [.ref q10, .int 0, .ref q11, .int 0, .int 0, .int 0, .int 0])), zI G 0 80 q10, (q11, .inr (2, [.ref q12])), zP G q12] H := hP
  have hD : va_D A [(h0, .inr (7, [.ref q1, .ref q3, .ref q5, .ref q7, .ref q9, .null, .null, .null, .null])), (q1, .inr (2, [.ref q2])), zP G q2, (q3, .inr (2, [.ref q4])), zP G q4, (q5, .inr (2, [.ref q6])), zP G q6, (q7, .inr (0, [.ref q8, .int 0])), zI G 0 672 q8, (q9, .inr (3, [.ref q10, .int 0, .ref q11, .int 0, .int 0, .int 0, .int 0])), zI G 0 80 q10, (q11, .inr (2, [.ref q12])), zP G q12] := hD
  refine lv_aload_n hx hb dX8_init_59 rfl (lv_at hl 0 rfl) ?_
  refine va_new (ci := 1) (fs := [.null]) (C := RX1) (T := TX1) (N := 1) hx hb ht uiX1 tyX1 tyX1_ok hown (ht _ wi_107) (ht _ wi_108) (ht _ wi_18) hK hP hD hS hA rfl (fun j hj => by (obtain rfl : j = 0 := by omega); rfl) (Nat.le_of_ble_eq_true rfl) (Nat.le_of_ble_eq_true rfl) dX8_init_60 (fun q13 H hP hD hS => ?_)
  have hP : va_P G.1 vwCl [(h0, .inr (7, [.ref q1, .ref q3, .ref q5, .ref q7, .ref q9, .null, .null, .null, .null])), (q1, .inr (2, [.ref q2])), zP G q2, (q3, .inr (2, [.ref q4])), zP G q4, (q5, .inr (2, [.ref q6])), zP G q6, (q7, .inr (0, [.ref q8, .int 0])), zI G 0 672 q8, (q9, .inr (3, [.ref q10, .int 0, .ref q11, .int 0, .int 0, .int 0, .int 0])), zI G 0 80 q10, (q11, .inr (2, [.ref q12])), zP G q12, (q13, .inr (1, [.null]))] H := hP
  have hD : va_D A [(h0, .inr (7, [.ref q1, .ref q3, .ref q5, .ref q7, .ref q9, .null, .null, .null, .null])), (q1, .inr (2, [.ref q2])), zP G q2, (q3, .inr (2, [.ref q4])), zP G q4, (q5, .inr (2, [.ref q6])), zP G q6, (q7, .inr (0, [.ref q8, .int 0])), zI G 0 672 q8, (q9, .inr (3, [.ref q10, .int 0, .ref q11, .int 0, .int 0, .int 0, .int 0])), zI G 0 80 q10, (q11, .inr (2, [.ref q12])), zP G q12, (q13, .inr (1, [.null]))] := hD
  refine lv_dup hx hb dX8_init_63 rfl ?_
  have hPc := hP.sub (ws' := [(q13, .inr (1, [.null]))]) [13] rfl
  have hDc := hD.sub (ws' := [(q13, .inr (1, [.null]))]) [13] (by decide) rfl
  have hFc := va_free (wc := [(q13, .inr (1, [.null]))]) hD hS hA [13] rfl
  refine va_callv (va_runIN (As := []) (rest := [.ref q13, .ref h0]) ⟨hx, hb, hml, hown, ht⟩ (c_X1_init l G q13 H.size) ⟨va_cnB 0 ht (mgoodIn _ _ _ _ kc_X1_init) rfl rfl rfl (hN _ wi_109) (ht _ wi_18) (by decide +kernel) ⟨Nat.le_of_ble_eq_true rfl, Nat.le_of_ble_eq_true rfl⟩, rfl, ht _ wi_110⟩ ⟨cblind G _ _ _, fun U hU hW => ⟨rfl, by rw [hU], by rw [hU]; exact hPc, va_K.moved hW.alike hK, hDc.weaken (fun _ _ _ _ => trivial), fun q hq => mnest_warm hq hW (hN q hq)⟩⟩ rfl rfl hl.1 rfl (lv_room (Nat.le_of_ble_eq_true rfl)) dX8_init_64 ⟨Nat.le_of_ble_eq_true rfl, Nat.le_of_ble_eq_true rfl⟩) hS (fun q _ h => hFc q h) hFc (fun u t H1 locs ht1 hvm hw hB hz1 hk1 hS => ?_)
  obtain ⟨q14, hP1, hD1⟩ := hB
  rw [ht1] at hP1
  obtain ⟨hP, hD⟩ := va_join (wr := [(h0, .inr (7, [.ref q1, .ref q3, .ref q5, .ref q7, .ref q9, .null, .null, .null, .null])), (q1, .inr (2, [.ref q2])), zP G q2, (q3, .inr (2, [.ref q4])), zP G q4, (q5, .inr (2, [.ref q6])), zP G q6, (q7, .inr (0, [.ref q8, .int 0])), zI G 0 672 q8, (q9, .inr (3, [.ref q10, .int 0, .ref q11, .int 0, .int 0, .int 0, .int 0])), zI G 0 80 q10, (q11, .inr (2, [.ref q12])), zP G q12]) (w1 := [(q13, .inr (1, [.ref q14])), zI G 1 64 q14]) hP hD [13] [0, 1, 2, 3, 4, 5, 6, 7, 8, 9, 10, 11, 12] rfl rfl (by decide) (by decide) hk1 hFc hP1 hD1
  generalize H1 = H at hP hS ⊢
  have hP : va_P G.1 vwCl [(h0, .inr (7, [.ref q1, .ref q3, .ref q5, .ref q7, .ref q9, .null, .null, .null, .null])), (q1, .inr (2, [.ref q2])), zP G q2, (q3, .inr (2, [.ref q4])), zP G q4, (q5, .inr (2, [.ref q6])), zP G q6, (q7, .inr (0, [.ref q8, .int 0])), zI G 0 672 q8, (q9, .inr (3, [.ref q10, .int 0, .ref q11, .int 0, .int 0, .int 0, .int 0])), zI G 0 80 q10, (q11, .inr (2, [.ref q12])), zP G q12, (q13, .inr (1, [.ref q14])), zI G 1 64 q14] H := hP
  have hD : va_D A [(h0, .inr (7, [.ref q1, .ref q3, .ref q5, .ref q7, .ref q9, .null, .null, .null, .null])), (q1, .inr (2, [.ref q2])), zP G q2, (q3, .inr (2, [.ref q4])), zP G q4, (q5, .inr (2, [.ref q6])), zP G q6, (q7, .inr (0, [.ref q8, .int 0])), zI G 0 672 q8, (q9, .inr (3, [.ref q10, .int 0, .ref q11, .int 0, .int 0, .int 0, .int 0])), zI G 0 80 q10, (q11, .inr (2, [.ref q12])), zP G q12, (q13, .inr (1, [.ref q14])), zI G 1 64 q14] := hD
  refine va_putF (D := G.1) (ci := 7) (v := .ref q13) (ty := (tyX8 5)) (C := RX8) (T := TX8) (N := 9) hx hb ht uiX8 tyX8 tyX8_ok nmX8 hown hK hP hD hS 0 rfl rfl 5 (by decide) (ht _ wi_192) (fun _ h9 => h9) rfl hin rfl (by decide +kernel) rfl rfl (Nat.le_of_ble_eq_true rfl) dX8_init_67 (fun H locs hP hD hS => ?_)
  have hP : va_P G.1 vwCl [(h0, .inr (7, [.ref q1, .ref q3, .ref q5, .ref q7, .ref q9, .ref q13, .null, .null, .null])), (q1, .inr (2, [.ref q2])), zP G q2, (q3, .inr (2, [.ref q4])), zP G q4, (q5, .inr (2, [.ref q6])), zP G q6, (q7, .inr (0, [.ref q8, .int 0])), zI G 0 672 q8, (q9, .inr (3, [.ref q10, .int 0, .ref q11, .int 0, .int 0, .int 0, .int 0])), zI G 0 80 q10, (q11, .inr (2, [.ref q12])), zP G q12, (q13, .inr (1, [.ref q14])), zI G 1 64 q14] H := hP
  have hD : va_D A [(h0, .inr (7, [.ref q1, .ref q3, .ref q5, .ref q7, .ref q9, .ref q13, .null, .null, .null])), (q1, .inr (2, [.ref q2])), zP G q2, (q3, .inr (2, [.ref q4])), zP G q4, (q5, .inr (2, [.ref q6])), zP G q6, (q7, .inr (0, [.ref q8, .int 0])), zI G 0 672 q8, (q9, .inr (3, [.ref q10, .int 0, .ref q11, .int 0, .int 0, .int 0, .int 0])), zI G 0 80 q10, (q11, .inr (2, [.ref q12])), zP G q12, (q13, .inr (1, [.ref q14])), zI G 1 64 q14] := hD
  refine lv_aload_n hx hb dX8_init_70 rfl (lv_at hl 0 rfl) ?_
  refine va_new (ci := 6) (fs := [.null, .null, .null, .null, .null, .null, .null, .int 0]) (C := RX7) (T := TX7) (N := 8) hx hb ht uiX7 tyX7 tyX7_ok hown (ht _ wi_118) (ht _ wi_119) (ht _ wi_20) hK hP hD hS hA rfl (fun j hj => by rcases (show j = 0 ∨ j = 1 ∨ j = 2 ∨ j = 3 ∨ j = 4 ∨ j = 5 ∨ j = 6 ∨ j = 7 by omega) with rfl | rfl | rfl | rfl | rfl | rfl | rfl | rfl <;> rfl) (Nat.le_of_ble_eq_true rfl) (Nat.le_of_ble_eq_true rfl) dX8_init_71 (fun q15 H hP hD hS => ?_)
  have hP : va_P G.1 vwCl [(h0, .inr (7, [.ref q1, .ref q3, .ref q5, .ref q7, .ref q9, .ref q13, .null, .null, .null])), (q1, .inr (2, [.ref q2])), zP G q2, (q3, .inr (2, [.ref q4])), zP G q4, (q5, .inr (2, [.ref q6])), zP G q6, (q7, .inr (0, [.ref q8, .int 0])), zI G 0 672 q8, (q9, .inr (3, [.ref q10, .int 0, .ref q11, .int 0, .int 0, .int 0, .int 0])), zI G 0 80 q10, (q11, .inr (2, [.ref q12])), zP G q12, (q13, .inr (1, [.ref q14])), zI G 1 64 q14, (q15, .inr (6, [.null, .null, .null, .null, .null, .null, .null, .int 0]))] H := hP
  have hD : va_D A [(h0, .inr (7, [.ref q1, .ref q3, .ref q5, .ref q7, .ref q9, .ref q13, .null, .null, .null])), (q1, .inr (2, [.ref q2])), zP G q2, (q3, .inr (2, [.ref q4])), zP G q4, (q5, .inr (2, [.ref q6])), zP G q6, (q7, .inr (0, [.ref q8, .int 0])), zI G 0 672 q8, (q9, .inr (3, [.ref q10, .int 0, .ref q11, .int 0, .int 0, .int 0, .int 0])), zI G 0 80 q10, (q11, .inr (2, [.ref q12])), zP G q12, (q13, .inr (1, [.ref q14])), zI G 1 64 q14, (q15, .inr (6, [.null, .null, .null, .null, .null, .null, .null, .int 0]))] := hD
  refine lv_dup hx hb dX8_init_74 rfl ?_
  refine lv_aload_n hx hb dX8_init_75 rfl (lv_at hl 0 rfl) ?_
  refine va_get (D := G.1) (ci := 7) (v := .ref q1) (C := RX8) (T := TX8) (N := 9) hx hb ht uiX8 hown hK hP 0 rfl rfl 0 (by decide) (ht _ wi_187) (fun _ h9 => h9) rfl dX8_init_76 ?_
  have hPc := hP.sub (ws' := [(q15, .inr (6, [.null, .null, .null, .null, .null, .null, .null, .int 0]))]) [15] rfl
  have hDc := hD.sub (ws' := [(q15, .inr (6, [.null, .null, .null, .null, .null, .null, .null, .int 0]))]) [15] (by decide) rfl
  have hFc := va_free (wc := [(q15, .inr (6, [.null, .null, .null, .null, .null, .null, .null, .int 0]))]) hD hS hA [15] rfl
  refine va_callv (va_runI (As := [.ref q1]) (rest := [.ref q15, .ref h0]) ⟨hx, hb, hml, hown, ht⟩ (c_X7_init l G q15 q1 H.size) (cwI 1 ht (mgoodIn _ _ _ _ kc_X7_init) rfl rfl rfl (ht _ wi_20) (ht _ wi_120) (ht _ wi_121) rfl (by decide +kernel) ⟨Nat.le_of_ble_eq_true rfl, Nat.le_of_ble_eq_true rfl⟩) ⟨cblind G _ _ _, fun U hU hW => ⟨rfl, by rw [hU], by rw [hU]; exact hPc, va_K.moved hW.alike hK, hDc.weaken (fun _ _ _ _ => trivial), fun q hq => mnest_warm hq hW (hN q hq)⟩⟩ rfl rfl hl.1 rfl (lv_room (Nat.le_of_ble_eq_true rfl)) dX8_init_79 ⟨Nat.le_of_ble_eq_true rfl, Nat.le_of_ble_eq_true rfl⟩) hS (fun q _ h => hFc q h) hFc (fun u t H1 locs ht1 hvm hw hB hz1 hk1 hS => ?_)
  obtain ⟨q16, q17, q18, q19, q20, hP1, hD1⟩ := hB
  rw [ht1] at hP1
  obtain ⟨hP, hD⟩ := va_join (wr := [(h0, .inr (7, [.ref q1, .ref q3, .ref q5, .ref q7, .ref q9, .ref q13, .null, .null, .null])), (q1, .inr (2, [.ref q2])), zP G q2, (q3, .inr (2, [.ref q4])), zP G q4, (q5, .inr (2, [.ref q6])), zP G q6, (q7, .inr (0, [.ref q8, .int 0])), zI G 0 672 q8, (q9, .inr (3, [.ref q10, .int 0, .ref q11, .int 0, .int 0, .int 0, .int 0])), zI G 0 80 q10, (q11, .inr (2, [.ref q12])), zP G q12, (q13, .inr (1, [.ref q14])), zI G 1 64 q14]) (w1 := [(q15, .inr (6, [.ref q16, .ref q17, .ref q18, .ref q19, .ref q20, .ref q1, .ref q1, .int 0])), zI G 0 64 q16, zI G 0 64 q17, zI G 0 64 q18, zI G 0 64 q19, zI G 0 64 q20]) hP hD [15] [0, 1, 2, 3, 4, 5, 6, 7, 8, 9, 10, 11, 12, 13, 14] rfl rfl (by decide) (by decide) hk1 hFc hP1 hD1
  generalize H1 = H at hP hS ⊢
  have hP : va_P G.1 vwCl [(h0, .inr (7, [.ref q1, .ref q3, .ref q5, .ref q7, .ref q9, .ref q13, .null, .null, .null])), (q1, .inr (2, [.ref q2])), zP G q2, (q3, .inr (2, [.ref q4])), zP G q4, (q5, .inr (2, [.ref q6])), zP G q6, (q7, .inr (0, [.ref q8, .int 0])), zI G 0 672 q8, (q9, .inr (3, [.ref q10, .int 0, .ref q11, .int 0, .int 0, .int 0, .int 0])), zI G 0 80 q10, (q11, .inr (2, [.ref q12])), zP G q12, (q13, .inr (1, [.ref q14])), zI G 1 64 q14, (q15, .inr (6, [.ref q16, .ref q17, .ref q18, .ref q19, .ref q20, .ref q1, .ref q1, .int 0])), zI G 0 64 q16, zI G 0 64 q17, zI G 0 64 q18, zI G 0 64 q19, zI G 0 64 q20] H := hP
  have hD : va_D A [(h0, .inr (7, [.ref q1, .ref q3, .ref q5, .ref q7, .ref q9, .ref q13, .null, .null, .null])), (q1, .inr (2, [.ref q2])), zP G q2, (q3, .inr (2, [.ref q4])), zP G q4, (q5, .inr (2, [.ref q6])), zP G q6, (q7, .inr (0, [.ref q8, .int 0])), zI G 0 672 q8, (q9, .inr (3, [.ref q10, .int 0, .ref q11, .int 0, .int 0, .int 0, .int 0])), zI G 0 80 q10, (q11, .inr (2, [.ref q12])), zP G q12, (q13, .inr (1, [.ref q14])), zI G 1 64 q14, (q15, .inr (6, [.ref q16, .ref q17, .ref q18, .ref q19, .ref q20, .ref q1, .ref q1, .int 0])), zI G 0 64 q16, zI G 0 64 q17, zI G 0 64 q18, zI G 0 64 q19, zI G 0 64 q20] := hD
  refine va_putF (D := G.1) (ci := 7) (v := .ref q15) (ty := (tyX8 6)) (C := RX8) (T := TX8) (N := 9) hx hb ht uiX8 tyX8 tyX8_ok nmX8 hown hK hP hD hS 0 rfl rfl 6 (by decide) (ht _ wi_193) (fun _ h9 => h9) rfl hin rfl (by decide +kernel) rfl rfl (Nat.le_of_ble_eq_true rfl) dX8_init_82 (fun H locs hP hD hS => ?_)
  have hP : va_P G.1 vwCl [(h0, .inr (7, [.ref q1, .ref q3, .ref q5, .ref q7, .ref q9, .ref q13, .ref q15, .null, .null])), (q1, .inr (2, [.ref q2])), zP G q2, (q3, .inr (2, [.ref q4])), zP G q4, (q5, .inr (2, [.ref q6])), zP G q6, (q7, .inr (0, [.ref q8, .int 0])), zI G 0 672 q8, (q9, .inr (3, [.ref q10, .int 0, .ref q11, .int 0, .int 0, .int 0, .int 0])), zI G 0 80 q10, (q11, .inr (2, [.ref q12])), zP G q12, (q13, .inr (1, [.ref q14])), zI G 1 64 q14, (q15, .inr (6, [.ref q16, .ref q17, .ref q18, .ref q19, .ref q20, .ref q1, .ref q1, .int 0])), zI G 0 64 q16, zI G 0 64 q17, zI G 0 64 q18, zI G 0 64 q19, zI G 0 64 q20] H := hP
  have hD : va_D A [(h0, .inr (7, [.ref q1, .ref q3, .ref q5, .ref q7, .ref q9, .ref q13, .ref q15, .null, .null])), (q1, .inr (2, [.ref q2])), zP G q2, (q3, .inr (2, [.ref q4])), zP G q4, (q5, .inr (2, [.ref q6])), zP G q6, (q7, .inr (0, [.ref q8, .int 0])), zI G 0 672 q8, (q9, .inr (3, [.ref q10, .int 0, .ref q11, .int 0, .int 0, .int 0, .int 0])), zI G 0 80 q10, (q11, .inr (2, [.ref q12])), zP G q12, (q13, .inr (1, [.ref q14])), zI G 1 64 q14, (q15, .inr (6, [.ref q16, .ref q17, .ref q18, .ref q19, .ref q20, .ref q1, .ref q1, .int 0])), zI G 0 64 q16, zI G 0 64 q17, zI G 0 64 q18, zI G 0 64 q19, zI G 0 64 q20] := hD
  refine lv_aload_n hx hb dX8_init_85 rfl (lv_at hl 0 rfl) ?_
  refine va_new (ci := 4) (fs := [.null, .null, .null, .int 0]) (C := RX5) (T := TX5) (N := 4) hx hb ht uiX5 tyX5 tyX5_ok hown (ht _ wi_152) (ht _ wi_153) (ht _ wi_21) hK hP hD hS hA rfl (fun j hj => by rcases (show j = 0 ∨ j = 1 ∨ j = 2 ∨ j = 3 by omega) with rfl | rfl | rfl | rfl <;> rfl) (Nat.le_of_ble_eq_true rfl) (Nat.le_of_ble_eq_true rfl) dX8_init_86 (fun q21 H hP hD hS => ?_)
  have hP : va_P G.1 vwCl [(h0, .inr (7, [.ref q1, .ref q3, .ref q5, .ref q7, .ref q9, .ref q13, .ref q15, .null, .null])), (q1, .inr (2, [.ref q2])), zP G q2, (q3, .inr (2, [.ref q4])), zP G q4, (q5, .inr (2, [.ref q6])), zP G q6, (q7, .inr (0, [.ref q8, .int 0])), zI G 0 672 q8, (q9, .inr (3, [.ref q10, .int 0, .ref q11, .int 0, .int 0, .int 0, .int 0])), zI G 0 80 q10, (q11, .inr (2, [.ref q12])), zP G q12, (q13, .inr (1, [.ref q14])), zI G 1 64 q14, (q15, .inr (6, [.ref q16, .ref q17, .ref q18, .ref q19, .ref q20, .ref q1, .ref q1, .int 0])), zI G 0 64 q16, zI G 0 64 q17, zI G 0 64 q18, zI G 0 64 q19, zI G 0 64 q20, (q21, .inr (4, [.null, .null, .null, .int 0]))] H := hP
  have hD : va_D A [(h0, .inr (7, [.ref q1, .ref q3, .ref q5, .ref q7, .ref q9, .ref q13, .ref q15, .null, .null])), (q1, .inr (2, [.ref q2])), zP G q2, (q3, .inr (2, [.ref q4])), zP G q4, (q5, .inr (2, [.ref q6])), zP G q6, (q7, .inr (0, [.ref q8, .int 0])), zI G 0 672 q8, (q9, .inr (3, [.ref q10, .int 0, .ref q11, .int 0, .int 0, .int 0, .int 0])), zI G 0 80 q10, (q11, .inr (2, [.ref q12])), zP G q12, (q13, .inr (1, [.ref q14])), zI G 1 64 q14, (q15, .inr (6, [.ref q16, .ref q17, .ref q18, .ref q19, .ref q20, .ref q1, .ref q1, .int 0])), zI G 0 64 q16, zI G 0 64 q17, zI G 0 64 q18, zI G 0 64 q19, zI G 0 64 q20, (q21, .inr (4, [.null, .null, .null, .int 0]))] := hD
  refine lv_dup hx hb dX8_init_89 rfl ?_
  have hPc := hP.sub (ws' := [(q21, .inr (4, [.null, .null, .null, .int 0]))]) [21] rfl
  have hDc := hD.sub (ws' := [(q21, .inr (4, [.null, .null, .null, .int 0]))]) [21] (by decide) rfl
  have hFc := va_free (wc := [(q21, .inr (4, [.null, .null, .null, .int 0]))]) hD hS hA [21] rfl
  refine va_callv (va_runIN (As := []) (rest := [.ref q21, .ref h0]) ⟨hx, hb, hml, hown, ht⟩ (c_X5_init l G q21 H.size) ⟨va_cnB 0 ht (mgoodIn _ _ _ _ kc_X5_init) rfl rfl rfl (hN _ wi_154) (ht _ wi_21) (by decide +kernel) ⟨Nat.le_of_ble_eq_true rfl, Nat.le_of_ble_eq_true rfl⟩, rfl, ht _ wi_155⟩ ⟨cblind G _ _ _, fun U hU hW => ⟨rfl, by rw [hU], by rw [hU]; exact hPc, va_K.moved hW.alike hK, hDc.weaken (fun _ _ _ _ => trivial), fun q hq => mnest_warm hq hW (hN q hq)⟩⟩ rfl rfl hl.1 rfl (lv_room (Nat.le_of_ble_eq_true rfl)) dX8_init_90 ⟨Nat.le_of_ble_eq_true rfl, Nat.le_of_ble_eq_true rfl⟩) hS (fun q _ h => hFc q h) hFc (fun u t H1 locs ht1 hvm hw hB hz1 hk1 hS => ?_)
  obtain ⟨q22, q23, q24, hP1, hD1⟩ := hB
  rw [ht1] at hP1
  obtain ⟨hP, hD⟩ := va_join (wr := [(h0, .inr (7, [.ref q1, .ref q3, .ref q5, .ref q7, .ref q9, .ref q13, .ref q15, .null, .null])), (q1, .inr (2, [.ref q2])), zP G q2, (q3, .inr (2, [.ref q4])), zP G q4, (q5, .inr (2, [.ref q6])), zP G q6, (q7, .inr (0, [.ref q8, .int 0])), zI G 0 672 q8, (q9, .inr (3, [.ref q10, .int 0, .ref q11, .int 0, .int 0, .int 0, .int 0])), zI G 0 80 q10, (q11, .inr (2, [.ref q12])), zP G q12, (q13, .inr (1, [.ref q14])), zI G 1 64 q14, (q15, .inr (6, [.ref q16, .ref q17, .ref q18, .ref q19, .ref q20, .ref q1, .ref q1, .int 0])), zI G 0 64 q16, zI G 0 64 q17, zI G 0 64 q18, zI G 0 64 q19, zI G 0 64 q20]) (w1 := [(q21, .inr (4, [.ref q22, .ref q23, .ref q24, .int 0])), zI G 0 64 q22, zJ G 64 q23, zI G 0 64 q24]) hP hD [21] [0, 1, 2, 3, 4, 5, 6, 7, 8, 9, 10, 11, 12, 13, 14, 15, 16, 17, 18, 19, 20] rfl rfl (by decide) (by decide) hk1 hFc hP1 hD1
  generalize H1 = H at hP hS ⊢
  have hP : va_P G.1 vwCl [(h0, .inr (7, [.ref q1, .ref q3, .ref q5, .ref q7, .ref q9, .ref q13, .ref q15, .null, .null])), (q1, .inr (2, [.ref q2])), zP G q2, (q3, .inr (2, [.ref q4])), zP G q4, (q5, .inr (2, [.ref q6])), zP G q6, (q7, .inr (0, [.ref q8, .int 0])), zI G 0 672 q8, (q9, .inr (3, [.ref q10, .int 0, .ref q11, .int 0, .int 0, .int 0, .int 0])), zI G 0 80 q10, (q11, .inr (2, [.ref q12])), zP G q12, (q13, .inr (1, [.ref q14])), zI G 1 64 q14, (q15, .inr (6, [.ref q16, .ref q17, .ref q18, .ref q19, .ref q20, .ref q1, .ref q1, .int 0])), zI G 0 64 q16, zI G 0 64 q17, zI G 0 64 q18, zI G 0 64 q19, zI G 0 64 q20, (q21, .inr (4, [.ref q22, .ref q23, .ref q24, .int 0])), zI G 0 64 q22, zJ G 64 q23, zI G 0 64 q24] H := hP
  have hD : va_D A [(h0, .inr (7, [.ref q1, .ref q3, .ref q5, .ref q7, .ref q9, .ref q13, .ref q15, .null, .null])), (q1, .inr (2, [.ref q2])), zP G q2, (q3, .inr (2, [.ref q4])), zP G q4, (q5, .inr (2, [.ref q6])), zP G q6, (q7, .inr (0, [.ref q8, .int 0])), zI G 0 672 q8, (q9, .inr (3, [.ref q10, .int 0, .ref q11, .int 0, .int 0, .int 0, .int 0])), zI G 0 80 q10, (q11, .inr (2, [.ref q12])), zP G q12, (q13, .inr (1, [.ref q14])), zI G 1 64 q14, (q15, .inr (6, [.ref q16, .ref q17, .ref q18, .ref q19, .ref q20, .ref q1, .ref q1, .int 0])), zI G 0 64 q16, zI G 0 64 q17, zI G 0 64 q18, zI G 0 64 q19, zI G 0 64 q20, (q21, .inr (4, [.ref q22, .ref q23, .ref q24, .int 0])), zI G 0 64 q22, zJ G 64 q23, zI G 0 64 q24] := hD
  refine va_putF (D := G.1) (ci := 7) (v := .ref q21) (ty := (tyX8 7)) (C := RX8) (T := TX8) (N := 9) hx hb ht uiX8 tyX8 tyX8_ok nmX8 hown hK hP hD hS 0 rfl rfl 7 (by decide) (ht _ wi_194) (fun _ h9 => h9) rfl hin rfl (by decide +kernel) rfl rfl (Nat.le_of_ble_eq_true rfl) dX8_init_93 (fun H locs hP hD hS => ?_)
  have hP : va_P G.1 vwCl [(h0, .inr (7, [.ref q1, .ref q3, .ref q5, .ref q7, .ref q9, .ref q13, .ref q15, .ref q21, .null])), (q1, .inr (2, [.ref q2])), zP G q2, (q3, .inr (2, [.ref q4])), zP G q4, (q5, .inr (2, [.ref q6])), zP G q6, (q7, .inr (0, [.ref q8, .int 0])), zI G 0 672 q8, (q9, .inr (3, [.ref q10, .int 0, .ref q11, .int 0, .int 0, .int 0, .int 0])), zI G 0 80 q10, (q11, .inr (2, [.ref q12])), zP G q12, (q13, .inr (1, [.ref q14])), zI G 1 64 q14, (q15, .inr (6, [.ref q16, .ref q17, .ref q18, .ref q19, .ref q20, .ref q1, .ref q1, .int 0])), zI G 0 64 q16, zI G 0 64 q17, zI G 0 64 q18, zI G 0 64 q19, zI G 0 64 q20, (q21, .inr (4, [.ref q22, .ref q23, .ref q24, .int 0])), zI G 0 64 q22, zJ G 64 q23, zI G 0 64 q24] H := hP
  have hD : va_D A [(h0, .inr (7, [.ref q1, .ref q3, .ref q5, .ref q7, .ref q9, .ref q13, .ref q15, .ref q21, .null])), (q1, .inr (2, [.ref q2])), zP G q2, (q3, .inr (2, [.ref q4])), zP G q4, (q5, .inr (2, [.ref q6])), zP G q6, (q7, .inr (0, [.ref q8, .int 0])), zI G 0 672 q8, (q9, .inr (3, [.ref q10, .int 0, .ref q11, .int 0, .int 0, .int 0, .int 0])), zI G 0 80 q10, (q11, .inr (2, [.ref q12])), zP G q12, (q13, .inr (1, [.ref q14])), zI G 1 64 q14, (q15, .inr (6, [.ref q16, .ref q17, .ref q18, .ref q19, .ref q20, .ref q1, .ref q1, .int 0])), zI G 0 64 q16, zI G 0 64 q17, zI G 0 64 q18, zI G 0 64 q19, zI G 0 64 q20, (q21, .inr (4, [.ref q22, .ref q23, .ref q24, .int 0])), zI G 0 64 q22, zJ G 64 q23, zI G 0 64 q24] := hD
  refine lv_aload_n hx hb dX8_init_96 rfl (lv_at hl 0 rfl) ?_
  refine va_new (ci := 5) (fs := [.null, .null, .null, .null, .null, .null, .null, .int 0]) (C := RX6) (T := TX6) (N := 8) hx hb ht uiX6 tyX6 tyX6_ok hown (ht _ wi_172) (ht _ wi_173) (ht _ wi_22) hK hP hD hS hA rfl (fun j hj => by rcases (show j = 0 ∨ j = 1 ∨ j = 2 ∨ j = 3 ∨ j = 4 ∨ j = 5 ∨ j = 6 ∨ j = 7 by omega) with rfl | rfl | rfl | rfl | rfl | rfl | rfl | rfl <;> rfl) (Nat.le_of_ble_eq_true rfl) (Nat.le_of_ble_eq_true rfl) dX8_init_97 (fun q25 H hP hD hS => ?_)
  have hP : va_P G.1 vwCl [(h0, .inr (7, [.ref q1, .ref q3, .ref q5, .ref q7, .ref q9, .ref q13, .ref q15, .ref q21, .null])), (q1, .inr (2, [.ref q2])), zP G q2, (q3, .inr (2, [.ref q4])), zP G q4, (q5, .inr (2, [.ref q6])), zP G q6, (q7, .inr (0, [.ref q8, .int 0])), zI G 0 672 q8, (q9, .inr (3, [.ref q10, .int 0, .ref q11, .int 0, .int 0, .int 0, .int 0])), zI G 0 80 q10, (q11, .inr (2, [.ref q12])), zP G q12, (q13, .inr (1, [.ref q14])), zI G 1 64 q14, (q15, .inr (6, [.ref q16, .ref q17, .ref q18, .ref q19, .ref q20, .ref q1, .ref q1, .int 0])), zI G 0 64 q16, zI G 0 64 q17, zI G 0 64 q18, zI G 0 64 q19, zI G 0 64 q20, (q21, .inr (4, [.ref q22, .ref q23, .ref q24, .int 0])), zI G 0 64 q22, zJ G 64 q23, zI G 0 64 q24, (q25, .inr (5, [.null, .null, .null, .null, .null, .null, .null, .int 0]))] H := hP
  have hD : va_D A [(h0, .inr (7, [.ref q1, .ref q3, .ref q5, .ref q7, .ref q9, .ref q13, .ref q15, .ref q21, .null])), (q1, .inr (2, [.ref q2])), zP G q2, (q3, .inr (2, [.ref q4])), zP G q4, (q5, .inr (2, [.ref q6])), zP G q6, (q7, .inr (0, [.ref q8, .int 0])), zI G 0 672 q8, (q9, .inr (3, [.ref q10, .int 0, .ref q11, .int 0, .int 0, .int 0, .int 0])), zI G 0 80 q10, (q11, .inr (2, [.ref q12])), zP G q12, (q13, .inr (1, [.ref q14])), zI G 1 64 q14, (q15, .inr (6, [.ref q16, .ref q17, .ref q18, .ref q19, .ref q20, .ref q1, .ref q1, .int 0])), zI G 0 64 q16, zI G 0 64 q17, zI G 0 64 q18, zI G 0 64 q19, zI G 0 64 q20, (q21, .inr (4, [.ref q22, .ref q23, .ref q24, .int 0])), zI G 0 64 q22, zJ G 64 q23, zI G 0 64 q24, (q25, .inr (5, [.null, .null, .null, .null, .null, .null, .null, .int 0]))] := hD
  refine lv_dup hx hb dX8_init_100 rfl ?_
  refine lv_aload_n hx hb dX8_init_101 rfl (lv_at hl 0 rfl) ?_
  refine va_get (D := G.1) (ci := 7) (v := .ref q1) (C := RX8) (T := TX8) (N := 9) hx hb ht uiX8 hown hK hP 0 rfl rfl 0 (by decide) (ht _ wi_187) (fun _ h9 => h9) rfl dX8_init_102 ?_
  have hPc := hP.sub (ws' := [(q25, .inr (5, [.null, .null, .null, .null, .null, .null, .null, .int 0]))]) [25] rfl
  have hDc := hD.sub (ws' := [(q25, .inr (5, [.null, .null, .null, .null, .null, .null, .null, .int 0]))]) [25] (by decide) rfl
  have hFc := va_free (wc := [(q25, .inr (5, [.null, .null, .null, .null, .null, .null, .null, .int 0]))]) hD hS hA [25] rfl
  refine va_callv (va_runI (As := [.ref q1]) (rest := [.ref q25, .ref h0]) ⟨hx, hb, hml, hown, ht⟩ (c_X6_init l G q25 q1 H.size) (cwI 1 ht (mgoodIn _ _ _ _ kc_X6_init) rfl rfl rfl (ht _ wi_22) (ht _ wi_174) (ht _ wi_175) rfl (by decide +kernel) ⟨Nat.le_of_ble_eq_true rfl, Nat.le_of_ble_eq_true rfl⟩) ⟨cblind G _ _ _, fun U hU hW => ⟨rfl, by rw [hU], by rw [hU]; exact hPc, va_K.moved hW.alike hK, hDc.weaken (fun _ _ _ _ => trivial), fun q hq => mnest_warm hq hW (hN q hq)⟩⟩ rfl rfl hl.1 rfl (lv_room (Nat.le_of_ble_eq_true rfl)) dX8_init_105 ⟨Nat.le_of_ble_eq_true rfl, Nat.le_of_ble_eq_true rfl⟩) hS (fun q _ h => hFc q h) hFc (fun u t H1 locs ht1 hvm hw hB hz1 hk1 hS => ?_)
  obtain ⟨q26, q27, q28, q29, q30, hP1, hD1⟩ := hB
  rw [ht1] at hP1
  obtain ⟨hP, hD⟩ := va_join (wr := [(h0, .inr (7, [.ref q1, .ref q3, .ref q5, .ref q7, .ref q9, .ref q13, .ref q15, .ref q21, .null])), (q1, .inr (2, [.ref q2])), zP G q2, (q3, .inr (2, [.ref q4])), zP G q4, (q5, .inr (2, [.ref q6])), zP G q6, (q7, .inr (0, [.ref q8, .int 0])), zI G 0 672 q8, (q9, .inr (3, [.ref q10, .int 0, .ref q11, .int 0, .int 0, .int 0, .int 0])), zI G 0 80 q10, (q11, .inr (2, [.ref q12])), zP G q12, (q13, .inr (1, [.ref q14])), zI G 1 64 q14, (q15, .inr (6, [.ref q16, .ref q17, .ref q18, .ref q19, .ref q20, .ref q1, .ref q1, .int 0])), zI G 0 64 q16, zI G 0 64 q17, zI G 0 64 q18, zI G 0 64 q19, zI G 0 64 q20, (q21, .inr (4, [.ref q22, .ref q23, .ref q24, .int 0])), zI G 0 64 q22, zJ G 64 q23, zI G 0 64 q24]) (w1 := [(q25, .inr (5, [.ref q26, .ref q27, .ref q28, .ref q29, .ref q30, .ref q1, .ref q1, .int 0])), zI G 0 64 q26, zI G 0 64 q27, zI G 0 64 q28, zI G 0 64 q29, zI G 0 64 q30]) hP hD [25] [0, 1, 2, 3, 4, 5, 6, 7, 8, 9, 10, 11, 12, 13, 14, 15, 16, 17, 18, 19, 20, 21, 22, 23, 24] rfl rfl (by decide) (by decide) hk1 hFc hP1 hD1
  generalize H1 = H at hP hS ⊢
  have hP : va_P G.1 vwCl [(h0, .inr (7, [.ref q1, .ref q3, .ref q5, .ref q7, .ref q9, .ref q13, .ref q15, .ref q21, .null])), (q1, .inr (2, [.ref q2])), zP G q2, (q3, .inr (2, [.ref q4])), zP G q4, (q5, .inr (2, [.ref q6])), zP G q6, (q7, .inr (0, [.ref q8, .int 0])), zI G 0 672 q8, (q9, .inr (3, [.ref q10, .int 0, .ref q11, .int 0, .int 0, .int 0, .int 0])), zI G 0 80 q10, (q11, .inr (2, [.ref q12])), zP G q12, (q13, .inr (1, [.ref q14])), zI G 1 64 q14, (q15, .inr (6, [.ref q16, .ref q17, .ref q18, .ref q19, .ref q20, .ref q1, .ref q1, .int 0])), zI G 0 64 q16, zI G 0 64 q17, zI G 0 64 q18, zI G 0 64 q19, zI G 0 64 q20, (q21, .inr (4, [.ref q22, .ref q23, .ref q24, .int 0])), zI G 0 64 q22, zJ G 64 q23, zI G 0 64 q24, (q25, .inr (5, [.ref q26, .ref q27, .ref q28, .ref q29, .ref q30, .ref q1, .ref q1, .int 0])), zI G 0 64 q26, zI G 0 64 q27, zI G 0 64 q28, zI G 0 64 q29, zI G 0 64 q30] H := hP
  have hD : va_D A [(h0, .inr (7, [.ref q1, .ref q3, .ref q5, .ref q7, .ref q9, .ref q13, .ref q15, .ref q21, .null])), (q1, .inr (2, [.ref q2])), zP G q2, (q3, .inr (2, [.ref q4])), zP G q4, (q5, .inr (2, [.ref q6])), zP G q6, (q7, .inr (0, [.ref q8, .int 0])), zI G 0 672 q8, (q9, .inr (3, [.ref q10, .int 0, .ref q11, .int 0, .int 0, .int 0, .int 0])), zI G 0 80 q10, (q11, .inr (2, [.ref q12])), zP G q12, (q13, .inr (1, [.ref q14])), zI G 1 64 q14, (q15, .inr (6, [.ref q16, .ref q17, .ref q18, .ref q19, .ref q20, .ref q1, .ref q1, .int 0])), zI G 0 64 q16, zI G 0 64 q17, zI G 0 64 q18, zI G 0 64 q19, zI G 0 64 q20, (q21, .inr (4, [.ref q22, .ref q23, .ref q24, .int 0])), zI G 0 64 q22, zJ G 64 q23, zI G 0 64 q24, (q25, .inr (5, [.ref q26, .ref q27, .ref q28, .ref q29, .ref q30, .ref q1, .ref q1, .int 0])), zI G 0 64 q26, zI G 0 64 q27, zI G 0 64 q28, zI G 0 64 q29, zI G 0 64 q30] := hD
  refine va_putF (D := G.1) (ci := 7) (v := .ref q25) (ty := (tyX8 8)) (C := RX8) (T := TX8) (N := 9) hx hb ht uiX8 tyX8 tyX8_ok nmX8 hown hK hP hD hS 0 rfl rfl 8 (by decide) (ht _ wi_195) (fun _ h9 => h9) rfl hin rfl (by decide +kernel) rfl rfl (Nat.le_of_ble_eq_true rfl) dX8_init_108 (fun H locs hP hD hS => ?_)
  have hP : va_P G.1 vwCl [(h0, .inr (7, [.ref q1, .ref q3, .ref q5, .ref q7, .ref q9, .ref q13, .ref q15, .ref q21, .ref q25])), (q1, .inr (2, [.ref q2])), zP G q2, (q3, .inr (2, [.ref q4])), zP G q4, (q5, .inr (2, [.ref q6])), zP G q6, (q7, .inr (0, [.ref q8, .int 0])), zI G 0 672 q8, (q9, .inr (3, [.ref q10, .int 0, .ref q11, .int 0, .int 0, .int 0, .int 0])), zI G 0 80 q10, (q11, .inr (2, [.ref q12])), zP G q12, (q13, .inr (1, [.ref q14])), zI G 1 64 q14, (q15, .inr (6, [.ref q16, .ref q17, .ref q18, .ref q19, .ref q20, .ref q1, .ref q1, .int 0])), zI G 0 64 q16, zI G 0 64 q17, zI G 0 64 q18, zI G 0 64 q19, zI G 0 64 q20, (q21, .inr (4, [.ref q22, .ref q23, .ref q24, .int 0])), zI G 0 64 q22, zJ G 64 q23, zI G 0 64 q24, (q25, .inr (5, [.ref q26, .ref q27, .ref q28, .ref q29, .ref q30, .ref q1, .ref q1, .int 0])), zI G 0 64 q26, zI G 0 64 q27, zI G 0 64 q28, zI G 0 64 q29, zI G 0 64 q30] H := hP
  have hD : va_D A [(h0, .inr (7, [.ref q1, .ref q3, .ref q5, .ref q7, .ref q9, .ref q13, .ref q15, .ref q21, .ref q25])), (q1, .inr (2, [.ref q2])), zP G q2, (q3, .inr (2, [.ref q4])), zP G q4, (q5, .inr (2, [.ref q6])), zP G q6, (q7, .inr (0, [.ref q8, .int 0])), zI G 0 672 q8, (q9, .inr (3, [.ref q10, .int 0, .ref q11, .int 0, .int 0, .int 0, .int 0])), zI G 0 80 q10, (q11, .inr (2, [.ref q12])), zP G q12, (q13, .inr (1, [.ref q14])), zI G 1 64 q14, (q15, .inr (6, [.ref q16, .ref q17, .ref q18, .ref q19, .ref q20, .ref q1, .ref q1, .int 0])), zI G 0 64 q16, zI G 0 64 q17, zI G 0 64 q18, zI G 0 64 q19, zI G 0 64 q20, (q21, .inr (4, [.ref q22, .ref q23, .ref q24, .int 0])), zI G 0 64 q22, zJ G 64 q23, zI G 0 64 q24, (q25, .inr (5, [.ref q26, .ref q27, .ref q28, .ref q29, .ref q30, .ref q1, .ref q1, .int 0])), zI G 0 64 q26, zI G 0 64 q27, zI G 0 64 q28, zI G 0 64 q29, zI G 0 64 q30] := hD
  refine W.widen (k := 30) (n := 1906) (Nat.le_of_ble_eq_true rfl) (Nat.le_of_ble_eq_true rfl) ?_
  exact W.vret hx hb hr (fun t ht9 hW => ⟨⟨(), rfl, trivial, q1, q2, q3, q4, q5, q6, q7, q8, q9, q10, q11, q12, q13, q14, q15, q16, q17, q18, q19, q20, q21, q22, q23, q24, q25, q26, q27, q28, q29, q30, by rw [ht9]; exact hP, hD⟩, hS.F ht9⟩) hS.2.2 dX8_init_111
