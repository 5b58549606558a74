/-! ROWS OF THE SMALL MACHINE: calls -/
abbrev mcD (y : MethodName) (n : Nat) : Prop := y.cls ≠ "java/lang/invoke/MethodHandle" ∧ y.cls ≠ "java/lang/invoke/VarHandle" ∧ (parseMethodDescriptor y.desc).map (fun d => d.parameters.length) = some n
def mcS (own : String) (idx : Nat) (y : MethodName) (n : Nat) : Prop := Cond.methodLink own idx y ∈ mgood ∧ Cond.static y ∈ mgood ∧ Cond.initialized y.cls ∈ mgood ∧ mcD y n
def mcN (own : String) (idx : Nat) (y : MethodName) (n : Nat) : Prop := (∃ host : String, Cond.methodLinkNest own idx y host ∈ mnest) ∧ Cond.static y ∈ mgood ∧ Cond.initialized y.cls ∈ mgood ∧ mcD y n
def mcV (own : String) (idx : Nat) (y : MethodName) (n : Nat) : Prop := Cond.methodLink own idx y ∈ mgood ∧ Cond.instanceMethod y ∈ mgood ∧ Cond.selects y.cls y y ∈ mgood ∧ Cond.initialized y.cls ∈ mgood ∧ mcD y n
def mcU (own : String) (idx : Nat) (C owner : String) (x y : MethodName) (n : Nat) : Prop := (∀ w ∈ ([.methodLink own idx x, .sameMethod x.cls owner x.name x.desc, .selects C x y, .instanceMethod y, .initialized y.cls] : List Cond), w ∈ mgood) ∧ (y = ⟨owner, x.name, x.desc⟩ ∨ Cond.declares ⟨owner, x.name, x.desc⟩ ∈ mnest) ∧ owner ≠ "java/lang/invoke/MethodHandle" ∧ owner ≠ "java/lang/invoke/VarHandle" ∧ (parseMethodDescriptor x.desc).map (fun d => d.parameters.length) = some n
section MCALL
variable {l : Launch} {G : mG} {K : mK} {d nL : Nat} {own : String} {cc : ByteArray} {ret : Option FieldType} {Q : Option mV → mW → Prop} {pc : Nat} {L : List (Option mV)} {st : List mV} {w : mW}
theorem wm_after {H : Heap} {locs : List Loc} {ls : Array Slot} {st0 : List Value} {a : Array Value} {Q1 : Option mV → mW → Prop} (hC : mC G K nL own cc ret) (hD : va_D (mXA K) (mws G w)) (hS : va_S (mXA K) K.2.2.1.heap H locs) (hh : mhas G ls nL L)
    (hr : va_Run K.1 l K.2.1 (mRX d (mX K)) K.2.2.1 K.2.2.2.1 K.2.2.2.2.1 K.2.2.2.2.2.1 K.2.2.2.2.2.2.1 K.2.2.2.2.2.2.2.1 H locs (mXc K) (mXn K) 0 0 (F0 K.2.2.2.1 pc ls st0) (st.map (mtr G)) (mQ G Q1 a) (mA G))
    (next : ∀ v w', Q1 v w' → Wm l G K d nL Q (pc + 3) L (v.toList ++ st) w') : mWK l G K d Q H locs (F0 K.2.2.2.1 pc ls st0) := by
  intro T hT X
  obtain ⟨v, st₀, t, T', LL, h0, X', hL, e1, e2, ⟨⟨v', w', hv, hq, hb⟩, hz, hk⟩, stp⟩ := hr T hT X
  cases hv
  rw [h0] at hz hk
  have hS' : va_S (mXA K) K.2.2.1.heap T'.heap (locs ++ LL) := by
    refine ⟨Nat.le_trans hS.1 (by rw [e1]; exact hz), fun q h1 h2 => ?_, fun q hq => ?_⟩
    · rw [e1, hk q (Nat.lt_of_lt_of_le h1 hS.1) (fun z => h2 (hC.2.2.2.2.2.2.2.2.2.2 q z))]; exact hS.2.1 q h1 h2
    · rcases List.mem_append.mp hq with h | h
      · exact hS.2.2 q h
      · exact hC.2.2.2.2.2.2.2.2.2.2 _ (hL q h)
  obtain ⟨t2, a1, b1⟩ := next v' w' hq T'.heap (locs ++ LL) ls (by rw [e1]; exact hb) (mD_same hD) hS' hh T' rfl X'
  refine ⟨t2, stp t2 ?_, b1⟩
  have e : (v'.map (mtr G)).toList ++ st.map (mtr G) = (v'.toList ++ st).map (mtr G) := by cases v' <;> simp
  rw [e]; exact a1
theorem mblind (as : List mV) : FrameBlind (va_Pc (as.map (mtr G)) (fun U => va_P G.1 vwCl (mws G w) U.heap ∧ va_K G.1 vwCl (mtys G) U ∧ va_D (fun _ => True) (mws G w) ∧ ∀ q ∈ mnest, va_Nw q U)) := by
  intro a U g mk h
  obtain ⟨h1, h2, h3, h4, h5⟩ := h
  exact ⟨h1, h2, va_K.moved (u := U) (U := U.calling g mk a) (Vm.Alike.refl U.vm) h3, h4, fun q hq => mnest_same hq (s := U) (U := U.calling g mk a) rfl (h5 q hq)⟩
theorem mpre (hC : mC G K nL own cc ret) {H : Heap} (hP : va_P G.1 vwCl (mws G w) H) (hD : va_D (mXA K) (mws G w)) (as : List mV) : ∀ U : State, U.heap = H → K.2.2.1.WarmedH U.vm → va_Pc (as.map (mtr G)) (fun U => va_P G.1 vwCl (mws G w) U.heap ∧ va_K G.1 vwCl (mtys G) U ∧ va_D (fun _ => True) (mws G w) ∧ ∀ q ∈ mnest, va_Nw q U) (as.map (mtr G)).toArray U := by
  intro U hU hW
  exact ⟨rfl, by rw [hU]; exact hP, va_K.moved hW.alike hC.2.2.2.2.2.2.2.2.1, mD_true hD, fun q hq => mnest_warm hq hW (hC.2.2.2.2.2.2.2.1 q hq)⟩
theorem mroom (h : (st.map mcat).sum ≤ 8) (pc : Nat) (ls : Array Slot) (st0 : List Value) (m : MethodId) : 2 * (F0 m pc ls st0).monitorRoom + ((st.map (mtr G)).map fun v => v.category).sum ≤ 8 := by
  have hr : ((st.map (mtr G)).map fun v => v.category).sum = (st.map mcat).sum := by
    rw [List.map_map]; congr 1; apply List.map_congr_left; intro v _; exact mtr_cat G v
  exact lv_room (by rw [hr]; exact h)
theorem mroomR {k d mL : Nat} (hd : k + 1 ≤ d ∧ mL ≤ 19) : (mR k).frames + 1 ≤ (mRX d (mX K)).frames ∧ 8 + (mL + 11) + (mR k).locals ≤ (mRX d (mX K)).locals := by
  simp only [mR, mRX]; omega
theorem mini {y : MethodName} (hC : mC G K nL own cc ret) (h : Cond.initialized y.cls ∈ mgood) : (Cond.initialized y.cls).before K.2.2.2.2.1 K.2.2.1 = true := hC.2.2.2.2.2.2.1 _ h
theorem wm_callS (hC : mC G K nL own cc ret) {k idx n mL' : Nat} {y : MethodName} {cy : ByteArray} {r' : Option FieldType} {as S : List mV} {Q1 : Option mV → mW → Prop} (cs : mcS own idx y n) (hcode : Cond.code y cy mL' r' ∈ mgood) (hM : Mx l G k y cy mL' r' as w Q1) (hn : as.length = n) (hd : k + 1 ≤ d ∧ mL' ≤ 19) (hst : S = as.reverse ++ st) (hroom : (st.map mcat).sum ≤ 8) (hdg : decode cc pc = .ok (.invokestatic idx, 3))
    (next : ∀ v w', Q1 v w' → Wm l G K d nL Q (pc + 3) L (v.toList ++ st) w') : Wm l G K d nL Q pc L S w := by
  subst hst
  intro H locs ls hP hD hS hh
  obtain ⟨c1, c2, c3, c4⟩ := cs
  have ht := hC.2.2.2.2.2.2.1
  have cb := callB_of (R := mRX d (mX K)) (own := own) (index := idx) (y := y) (bytes := cy) (maxL := mL') (ret := r') (rm := mR k) (mc := 0) (ms := 0) n ht (mgoodIn y cy mL' r' hcode) rfl rfl rfl (ht _ c3) (ht _ c1) c4 (mroomR hd)
  have hr := va_runS (g := F0 K.2.2.2.1 pc ls ((as.reverse ++ st).map (mtr G))) (As := as.map (mtr G)) (rest := st.map (mtr G)) (locs := locs) (cells := mXc K) (slots := mXn K) (below := K.2.2.2.2.2.1) (e := K.2.1) (meth := K.2.2.2.2.2.2.1) ⟨hC.1, hC.2.1, hC.2.2.1, hC.2.2.2.2.2.1, ht⟩ hM ⟨cb, ht _ c2⟩ ⟨mblind as, mpre hC hP hD as⟩ rfl (by simp [hn]) hh.1 (by simp) (mroom hroom _ _ _ _) hdg hC.2.2.2.2.2.2.2.2.2.1
  exact wm_after hC hD hS hh hr next
theorem wm_callN (hC : mC G K nL own cc ret) {k idx n mL' : Nat} {y : MethodName} {cy : ByteArray} {r' : Option FieldType} {as S : List mV} {Q1 : Option mV → mW → Prop} (cs : mcN own idx y n) (hcode : Cond.code y cy mL' r' ∈ mgood) (hM : Mx l G k y cy mL' r' as w Q1) (hn : as.length = n) (hd : k + 1 ≤ d ∧ mL' ≤ 19) (hst : S = as.reverse ++ st) (hroom : (st.map mcat).sum ≤ 8) (hdg : decode cc pc = .ok (.invokestatic idx, 3))
    (next : ∀ v w', Q1 v w' → Wm l G K d nL Q (pc + 3) L (v.toList ++ st) w') : Wm l G K d nL Q pc L S w := by
  subst hst
  intro H locs ls hP hD hS hh
  obtain ⟨⟨host, c1⟩, c2, c3, c4⟩ := cs
  have ht := hC.2.2.2.2.2.2.1
  have cb := va_cnB (R := mRX d (mX K)) (own := own) (host := host) (index := idx) (y := y) (bytes := cy) (maxL := mL') (ret := r') (rm := mR k) (mc := 0) (ms := 0) n ht (mgoodIn y cy mL' r' hcode) rfl rfl rfl (hC.2.2.2.2.2.2.2.1 _ c1) (ht _ c3) c4 (mroomR hd)
  have hr := va_runSN (g := F0 K.2.2.2.1 pc ls ((as.reverse ++ st).map (mtr G))) (As := as.map (mtr G)) (rest := st.map (mtr G)) (locs := locs) (cells := mXc K) (slots := mXn K) (below := K.2.2.2.2.2.1) (e := K.2.1) (meth := K.2.2.2.2.2.2.1) ⟨hC.1, hC.2.1, hC.2.2.1, hC.2.2.2.2.2.1, ht⟩ hM ⟨cb, ht _ c2, trivial⟩ ⟨mblind as, mpre hC hP hD as⟩ rfl (by simp [hn]) hh.1 (by simp) (mroom hroom _ _ _ _) hdg hC.2.2.2.2.2.2.2.2.2.1
  exact wm_after hC hD hS hh hr next
theorem wm_callV (hC : mC G K nL own cc ret) {k idx n mL' i ci N : Nat} {T : u_T} {fks : List (Option (Option Nat))} {y : MethodName} {cy : ByteArray} {r' : Option FieldType} {as S : List mV} {Q1 : Option mV → mW → Prop} (cs : mcV own idx y n) (hcode : Cond.code y cy mL' r' ∈ mgood) (hi : mlays[i]? = some (.inl (ci, fks))) (hc : vwCl[ci]? = some (y.cls, T, N)) (hM : Mx l G k y cy mL' r' (mvR i :: as) w Q1) (hn : as.length = n) (hd : k + 1 ≤ d ∧ mL' ≤ 19) (hst : S = as.reverse ++ mvR i :: st) (hroom : (st.map mcat).sum ≤ 8) (hdg : decode cc pc = .ok (.invokevirtual idx, 3))
    (next : ∀ v w', Q1 v w' → Wm l G K d nL Q (pc + 3) L (v.toList ++ st) w') : Wm l G K d nL Q pc L S w := by
  subst hst
  intro H locs ls hP hD hS hh
  obtain ⟨c1, c2, c2b, c3, c4⟩ := cs
  have ht := hC.2.2.2.2.2.2.1
  have cb := callB_of (R := mRX d (mX K)) (own := own) (index := idx) (y := y) (bytes := cy) (maxL := mL') (ret := r') (rm := mR k) (mc := 0) (ms := 0) n ht (mgoodIn y cy mL' r' hcode) rfl rfl rfl (ht _ c3) (ht _ c1) c4 (mroomR hd)
  have hr := va_runV (C := y.cls) (b := G.2.1 i) (g := F0 K.2.2.2.1 pc ls ((as.reverse ++ mvR i :: st).map (mtr G))) (As := as.map (mtr G)) (rest := st.map (mtr G)) (locs := locs) (cells := mXc K) (slots := mXn K) (below := K.2.2.2.2.2.1) (e := K.2.1) (meth := K.2.2.2.2.2.2.1) ⟨hC.1, hC.2.1, hC.2.2.1, hC.2.2.2.2.2.1, ht⟩ hM ⟨cb, ht _ c2, ht _ c2b⟩ ⟨mblind (mvR i :: as), va_recv hC.2.2.2.2.2.2.2.2.1 hP hc (mws_at G w hi), mpre hC hP hD (mvR i :: as)⟩ rfl (by simp [hn]) hh.1 (by simp [mtr]) (mroom hroom _ _ _ _) hdg hC.2.2.2.2.2.2.2.2.2.1
  exact wm_after hC hD hS hh hr next
theorem wm_callU (hC : mC G K nL own cc ret) {k idx n mL' i ci N : Nat} {T : u_T} {C owner : String} {fks : List (Option (Option Nat))} {x y : MethodName} {cy : ByteArray} {r' : Option FieldType} {as S : List mV} {Q1 : Option mV → mW → Prop} (cs : mcU own idx C owner x y n) (hcode : Cond.code y cy mL' r' ∈ mgood) (hi : mlays[i]? = some (.inl (ci, fks))) (hc : vwCl[ci]? = some (C, T, N)) (hM : Mx l G k y cy mL' r' (mvR i :: as) w Q1) (hn : as.length = n) (hd : k + 1 ≤ d ∧ mL' ≤ 19) (hst : S = as.reverse ++ mvR i :: st) (hroom : (st.map mcat).sum ≤ 8) (hdg : decode cc pc = .ok (.invokevirtual idx, 3))
    (next : ∀ v w', Q1 v w' → Wm l G K d nL Q (pc + 3) L (v.toList ++ st) w') : Wm l G K d nL Q pc L S w := by
  subst hst
  intro H locs ls hP hD hS hh
  obtain ⟨c1, c2, c4⟩ := cs
  have ht := hC.2.2.2.2.2.2.1
  have hG : GoodIn mgood (va_wsU own idx C owner x y (Cond.code y cy mL' r' :: mgood)) := by
    intro w hw
    have hm : w ∈ mgood := by
      rcases List.mem_append.mp hw with h | h
      · exact c1 w h
      · rcases List.mem_cons.mp h with rfl | h1
        · exact hcode
        · exact h1
    exact ⟨hm, good_of_word (List.mem_filter.mp hm).2⟩
  have cb : va_CU (mRX d (mX K)) K.2.2.1 K.2.2.2.2.1 own C owner idx x y cy mL' r' (Cond.code y cy mL' r' :: mgood) (mR k) 0 0 n := by
    rcases c2 with h | h
    · exact va_cwU n ht hG rfl rfl rfl h c4 (mroomR hd)
    · exact va_cwA n ht hG rfl rfl rfl (hC.2.2.2.2.2.2.2.1 _ h) c4 (mroomR hd)
  have hr := va_runU (C := C) (b := G.2.1 i) (g := F0 K.2.2.2.1 pc ls ((as.reverse ++ mvR i :: st).map (mtr G))) (As := as.map (mtr G)) (rest := st.map (mtr G)) (locs := locs) (cells := mXc K) (slots := mXn K) (below := K.2.2.2.2.2.1) (e := K.2.1) (meth := K.2.2.2.2.2.2.1) ⟨hC.1, hC.2.1, hC.2.2.1, hC.2.2.2.2.2.1, ht⟩ hM cb ⟨mblind (mvR i :: as), va_recv hC.2.2.2.2.2.2.2.2.1 hP hc (mws_at G w hi), mpre hC hP hD (mvR i :: as)⟩ rfl (by simp [hn]) hh.1 (by simp [mtr]) (mroom hroom _ _ _ _) hdg hC.2.2.2.2.2.2.2.2.2.1
  exact wm_after hC hD hS hh hr next
/-- a contract that says less -/
theorem Mx.weaken {d : Nat} {y : MethodName} {mL : Nat} {a : List mV} {Q1 Q2 : Option mV → mW → Prop} (h : Mx l G d y cc mL ret a w Q1) (hq : ∀ v w', Q1 v w' → Q2 v w') : Mx l G d y cc mL ret a w Q2 := by
  intro p e ha hc hk s m args below hf happ hP hKK
  obtain ⟨n, o, h1, h2, h3, ⟨⟨⟨v, w', q1, q2, q3⟩, q4⟩, q5⟩⟩ := h p e ha hc hk s m args below hf happ hP hKK
  exact ⟨n, o, h1, h2, h3, ⟨⟨⟨v, w', q1, hq v w' q2, q3⟩, q4⟩, q5⟩⟩
end MCALL
