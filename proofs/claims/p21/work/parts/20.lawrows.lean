/-! ROWS THAT THE LAW'S METHODS WANT BESIDE THE CLASS'S -/
theorem mJ_mul (a b : Int) : mJ a * mJ b = mJ (a * b) := (Int64.ofInt_mul a b).symm
theorem mJ_of (x : Int64) : mJ x.toInt = x := Int64.ofInt_toInt x
theorem mI_back2 (x : Int32) : mI x.toInt = x := Int32.ofInt_toInt x
def i2J (x : Int) : Int := (mI x).toInt64.toInt
def lshrI (x y : Int) : Int := (mJ x >>> ((mI y).toInt64 &&& 63)).toInt
def landI (x y : Int) : Int := (mJ x &&& mJ y).toInt
def l2iI (x : Int) : Int := (mJ x).toInt32.toInt
theorem l2iI_rng (x : Int) : -2147483648 ≤ l2iI x ∧ l2iI x < 2147483648 := by
  unfold l2iI
  have h1 := (mJ x).toInt32.le_toInt
  have h2 := (mJ x).toInt32.toInt_lt
  omega
section LROW
variable {l : Launch} {G : mG} {K : mK} {d nL : Nat} {own : String} {cc : ByteArray} {ret : Option FieldType} {Q : Option mV → mW → Prop} {pc : Nat} {L : List (Option mV)} {st : List mV} {w : mW}
theorem wm_lmul (hC : mC G K nL own cc ret) {x y : Int} (hdg : decode cc pc = .ok (.lmul, 1)) (h : Wm l G K d nL Q (pc + 1) L (mvJ (x * y) :: st) w) : Wm l G K d nL Q pc L (mvJ y :: mvJ x :: st) w :=
  fun H locs ls hP hD hS hh => lv_lmul hC.1 hC.2.1 hdg (by rw [mJ_mul]; exact h H locs ls hP hD hS hh)
theorem wm_i2l (hC : mC G K nL own cc ret) {x : Int} (hdg : decode cc pc = .ok (.i2l, 1)) (h : Wm l G K d nL Q (pc + 1) L (mvJ (i2J x) :: st) w) : Wm l G K d nL Q pc L (mvI x :: st) w :=
  fun H locs ls hP hD hS hh => lv_i2l (v := mJ (i2J x)) hC.1 hC.2.1 hdg (mJ_of _).symm (h H locs ls hP hD hS hh)
theorem wm_l2i (hC : mC G K nL own cc ret) {x : Int} (hdg : decode cc pc = .ok (.l2i, 1)) (h : Wm l G K d nL Q (pc + 1) L (mvI (l2iI x) :: st) w) : Wm l G K d nL Q pc L (mvJ x :: st) w :=
  fun H locs ls hP hD hS hh => lv_l2i (v := mI (l2iI x)) hC.1 hC.2.1 hdg (mI_back2 _).symm (h H locs ls hP hD hS hh)
theorem wm_lshr (hC : mC G K nL own cc ret) {x y : Int} (hdg : decode cc pc = .ok (.lshr, 1)) (h : Wm l G K d nL Q (pc + 1) L (mvJ (lshrI x y) :: st) w) : Wm l G K d nL Q pc L (mvI y :: mvJ x :: st) w :=
  fun H locs ls hP hD hS hh => lv_lshr (v := mJ (lshrI x y)) hC.1 hC.2.1 hdg (mJ_of _).symm (h H locs ls hP hD hS hh)
theorem wm_land (hC : mC G K nL own cc ret) {x y : Int} (hdg : decode cc pc = .ok (.land, 1)) (h : Wm l G K d nL Q (pc + 1) L (mvJ (landI x y) :: st) w) : Wm l G K d nL Q pc L (mvJ y :: mvJ x :: st) w :=
  fun H locs ls hP hD hS hh => lv_land hC.1 hC.2.1 hdg (by rw [show mJ x &&& mJ y = mJ (landI x y) from (mJ_of _).symm]; exact h H locs ls hP hD hS hh)
theorem wm_eqI {x y : Int} (e : x = y) (h : Wm l G K d nL Q pc L (mvI y :: st) w) : Wm l G K d nL Q pc L (mvI x :: st) w := by subst e; exact h
/-- any number -/
theorem wm_anyI {x : Int} (h : ∀ z : Int, -2147483648 ≤ z ∧ z < 2147483648 → Wm l G K d nL Q pc L (mvI z :: st) w) : Wm l G K d nL Q pc L (mvI x :: st) w := by
  obtain ⟨z, hz, e⟩ := mI_of (mI x)
  intro H locs ls hP hD hS hh
  have h1 := h z hz H locs ls hP hD hS hh
  have e2 : mtr G (mvI x) = mtr G (mvI z) := by show Value.int (mI x) = Value.int (mI z); rw [e]
  rw [List.map_cons, e2]; exact h1
theorem wm_iandA (hC : mC G K nL own cc ret) {x y : Int} (hdg : decode cc pc = .ok (.iand, 1)) (h : ∀ z : Int, -2147483648 ≤ z ∧ z < 2147483648 → Wm l G K d nL Q (pc + 1) L (mvI z :: st) w) : Wm l G K d nL Q pc L (mvI y :: mvI x :: st) w := by
  obtain ⟨z, hz, e⟩ := mI_of (mI x &&& mI y)
  exact fun H locs ls hP hD hS hh => lv_iand hC.1 hC.2.1 hdg (by rw [e]; exact h z hz H locs ls hP hD hS hh)
theorem wm_ixorA (hC : mC G K nL own cc ret) {x y : Int} (hdg : decode cc pc = .ok (.ixor, 1)) (h : ∀ z : Int, -2147483648 ≤ z ∧ z < 2147483648 → Wm l G K d nL Q (pc + 1) L (mvI z :: st) w) : Wm l G K d nL Q pc L (mvI y :: mvI x :: st) w := by
  obtain ⟨z, hz, e⟩ := mI_of (mI x ^^^ mI y)
  exact fun H locs ls hP hD hS hh => lv_ixor hC.1 hC.2.1 hdg (by rw [e]; exact h z hz H locs ls hP hD hS hh)
theorem wm_ishrA (hC : mC G K nL own cc ret) {x y : Int} (hdg : decode cc pc = .ok (.ishr, 1)) (h : ∀ z : Int, -2147483648 ≤ z ∧ z < 2147483648 → Wm l G K d nL Q (pc + 1) L (mvI z :: st) w) : Wm l G K d nL Q pc L (mvI y :: mvI x :: st) w := by
  obtain ⟨z, hz, e⟩ := mI_of (mI x >>> (mI y &&& 31))
  exact fun H locs ls hP hD hS hh => lv_ishr hC.1 hC.2.1 hdg (by rw [e]; exact h z hz H locs ls hP hD hS hh)
theorem wm_iremA (hC : mC G K nL own cc ret) {x y : Int} (hdg : decode cc pc = .ok (.irem, 1)) (hy : -2147483648 ≤ y ∧ y < 2147483648) (hy0 : ¬ y = 0) (h : ∀ z : Int, -2147483648 ≤ z ∧ z < 2147483648 → Wm l G K d nL Q (pc + 1) L (mvI z :: st) w) : Wm l G K d nL Q pc L (mvI y :: mvI x :: st) w := by
  obtain ⟨z, hz, e⟩ := mI_of (mI x - mI x / mI y * mI y)
  exact fun H locs ls hP hD hS hh => lv_irem hC.1 hC.2.1 hdg (fun q => hy0 ((mI_eq hy (by omega)).mp (by rw [q, mI_0]))) (by rw [e]; exact h z hz H locs ls hP hD hS hh)
theorem lg_cmp_self (x : Int64) : lg_cmp x x = mI 0 := by
  unfold lg_cmp
  rw [if_neg (show ¬ x > x from Int64.lt_irrefl), if_pos rfl]; rfl
theorem wm_lcmp_eq (hC : mC G K nL own cc ret) {x y : Int} (hdg : decode cc pc = .ok (.lcmp, 1)) (hxy : x = y) (h : Wm l G K d nL Q (pc + 1) L (mvI 0 :: st) w) : Wm l G K d nL Q pc L (mvJ y :: mvJ x :: st) w := by
  subst hxy
  exact fun H locs ls hP hD hS hh => W.lcmp hC.1 hC.2.1 hdg (by rw [lg_cmp_self]; exact h H locs ls hP hD hS hh)
theorem wm_laloadG (hC : mC G K nL own cc ret) {i n : Nat} {z : Int} (hi : (mlaysG G)[i]? = some (.inr (3, n))) (hz : 0 ≤ z ∧ z < n) (hn : n ≤ 1000000) (hdg : decode cc pc = .ok (.laload, 1)) (h : Wm l G K d nL Q (pc + 1) L (mvJ (w i z) :: st) w) : Wm l G K d nL Q pc L (mvI z :: mvR i :: st) w := by
  intro H locs ls hP hD hS hh
  have key : ∀ u : Int64, u = mJ (w i z) → mWK l G K d Q H locs (F0 K.2.2.2.1 (pc + 1) ls (.long u :: st.map (mtr G))) := by rintro _ rfl; exact h H locs ls hP hD hS hh
  exact va_lald hC.1 hC.2.1 hC.2.2.2.2.2.2.2.2.1 hP i 3 (mws_atG G w hi) rfl (mI_in hz hn) hdg (key _ (by show mJ (w i _) = _; rw [mclamp_cast hz hn]))
theorem wm_lastoreG (hC : mC G K nL own cc ret) {i n : Nat} {z x : Int} (hi : (mlaysG G)[i]? = some (.inr (3, n))) (hz : 0 ≤ z ∧ z < n) (hn : n ≤ 1000000) (hdg : decode cc pc = .ok (.lastore, 1)) (h : Wm l G K d nL Q (pc + 1) L st (mup w i z x)) : Wm l G K d nL Q pc L (mvJ x :: mvI z :: mvR i :: st) w := by
  intro H locs ls hP hD hS hh
  refine va_last hC.1 hC.2.1 hC.2.2.2.2.2.2.2.2.1 hP hD hS i 3 (mws_atG G w hi) rfl (mI_in hz hn) hdg (fun H1 locs1 hP1 hD1 hS1 => ?_)
  have e0 : (fun k : Nat => mJ (mup w i z x i (k : Int))) = vp_updL (fun k : Nat => mJ (w i (k : Int))) (mI z).toNatClampNeg (mJ x) := by
    funext k
    have e := mclamp_cast hz hn
    by_cases hk : k = (mI z).toNatClampNeg
    · subst hk
      simp [vp_updL, mup, e]
    · have : ¬ (k : Int) = z := by rw [← e]; omega
      simp [vp_updL, mup, hk, this]
  have e := mws_setG (G := G) (w := w) (w' := mup w i z x) hi (e := .inl (mCid G 3, n, .inr (.inl (vp_updL (fun k : Nat => mJ (w i (k : Int))) (mI z).toNatClampNeg (mJ x))))) (by rw [← e0]; rfl) (fun j hj => mup_ne hj)
  rw [e] at hP1 hD1
  exact h H1 locs1 ls hP1 hD1 hS1 hh
/-- the script, an int array that is no cell of the world -/
def Scr (G : mG) (K : mK) (Ln : Nat) : Prop := (∃ xs, va_X (G.2.1 40) Ln xs K.2.2.1 K.2.2.1.heap) ∧ G.2.1 40 < K.2.2.1.heap.size ∧ ¬ mXA K (G.2.1 40)
theorem wm_slen (hC : mC G K nL own cc ret) {Ln : Nat} (hX : Scr G K Ln) (hdg : decode cc pc = .ok (.arraylength, 1)) (h : Wm l G K d nL Q (pc + 1) L (mvI (Ln : Int) :: st) w) : Wm l G K d nL Q pc L (mvR 40 :: st) w := by
  obtain ⟨⟨xs, hx⟩, hb, hA⟩ := hX
  exact fun H locs ls hP hD hS hh => va_slen hC.1 hC.2.1 hx hb hA hS hdg (h H locs ls hP hD hS hh)
theorem wm_sld (hC : mC G K nL own cc ret) {Ln : Nat} {z : Int} (hX : Scr G K Ln) (hz : 0 ≤ z ∧ z < Ln) (hn : Ln ≤ 1000000) (hdg : decode cc pc = .ok (.iaload, 1)) (h : ∀ z : Int, -2147483648 ≤ z ∧ z < 2147483648 → Wm l G K d nL Q (pc + 1) L (mvI z :: st) w) : Wm l G K d nL Q pc L (mvI z :: mvR 40 :: st) w := by
  obtain ⟨⟨xs, hx⟩, hb, hA⟩ := hX
  obtain ⟨y, hy, e⟩ := mI_of (xs (mI z).toNatClampNeg)
  exact fun H locs ls hP hD hS hh => va_sld hC.1 hC.2.1 hx hb hA hS (mI_in hz hn) hdg (by rw [e]; exact h y hy H locs ls hP hD hS hh)
/-- a contract that asks more of the start -/
def MxE (l : Launch) (G : mG) (E : State → Prop) (d : Nat) (y : MethodName) (cc : ByteArray) (mL : Nat) (ret : Option FieldType) (a : List mV) (w : mW) (Q : Option mV → mW → Prop) : Prop :=
  Met l y (Cond.code y cc mL ret :: mgood) (mR d) (va_Pc (a.map (mtr G)) (fun U => (va_P G.1 vwCl (mws G w) U.heap ∧ va_K G.1 vwCl (mtys G) U ∧ va_D (fun _ => True) (mws G w) ∧ ∀ q ∈ mnest, va_Nw q U) ∧ E U)) (mQ G Q) 0 0 (mA G)
theorem MxE.intro {E : State → Prop} {y : MethodName} {mL : Nat} {a : List mV} (hpl : plainName y.cls = true) (own : String) (hown : y.cls = own) (L : List (Option mV)) (hn : (margs a).length ≤ mL) (hL : margs a ++ List.replicate (mL - (margs a).length) none = L)
    (body : ∀ K : mK, mC G K mL own cc ret → E K.2.2.1 → (∀ q, mXA K q → mA G q) → Wm l G K d mL Q 0 L [] w) : MxE l G E d y cc mL ret a w Q := by
  refine Met.ofW (cc := cc) (maxL := mL) (ret := ret) hpl rfl ?_
  intro p e s m args below meth c s₁ B hml hv
  obtain ⟨rfl, ⟨hP, hK, hD0, hN⟩, hE⟩ := hv
  have hts := atoms_spec (ws := Cond.code y cc mL ret :: mgood) B.pre
  have hf : s.vm.findClass y.cls = some m.cls := findClass_of_methodNamed B.named
  rw [hown] at hf
  have hC : mC G (p, e, s, m, (a.map (mtr G)).toArray, below, meth, c, (0, 0, 0, 0, 0, mA G)) mL own cc ret := ⟨B.exec, B.bytes, hml, B.returns, B.notSynchronized, hf, fun w hw => hts w (List.mem_cons_of_mem _ hw), hN, hK, ⟨Nat.le_refl 0, Nat.le_refl 0⟩, fun _ h => h⟩
  have hl := lv_entry (a.map (mtr G)) (n := mL) (by rw [margs_len]; exact hn)
  rw [lg_entry_eq]
  have hm : mhas G ((lg_sl (a.map (mtr G)) ++ List.replicate (mL - (lg_sl (a.map (mtr G))).length) Slot.unset).toArray) mL L := by
    refine ⟨hl.1, hl.2.1, ?_, fun i v hi => ?_⟩
    · rw [← hL]; simp; omega
    · rw [← hL] at hi
      have hi' : (margs a)[i]? = some (some v) := by
        by_cases hlt : i < (margs a).length
        · rwa [List.getElem?_append_left hlt] at hi
        · rw [List.getElem?_append_right (by omega), List.getElem?_replicate] at hi
          split at hi <;> simp at hi
      have := margs_mem G a 0 i v hi'
      rw [Nat.zero_add] at this
      exact hl.2.2 _ this
  exact body (p, e, s, m, (a.map (mtr G)).toArray, below, meth, c, (0, 0, 0, 0, 0, mA G)) hC hE (fun _ h => h) s.heap [] _ hP (mD_any hD0) va_S.rf hm
/-- the script, as a state has it -/
def ScrE (G : mG) (Ln : Nat) (U : State) : Prop := (∃ xs, va_X (G.2.1 40) Ln xs U U.heap) ∧ G.2.1 40 < U.heap.size ∧ ¬ mA G (G.2.1 40)
theorem sblind {Ln : Nat} (as : List mV) : FrameBlind (va_Pc (as.map (mtr G)) (fun U => (va_P G.1 vwCl (mws G w) U.heap ∧ va_K G.1 vwCl (mtys G) U ∧ va_D (fun _ => True) (mws G w) ∧ ∀ q ∈ mnest, va_Nw q U) ∧ ScrE G Ln U)) := by
  intro a U g mk h
  obtain ⟨h1, ⟨h2, h3, h4, h5⟩, ⟨xs, hx⟩, hb, hA⟩ := h
  exact ⟨h1, ⟨h2, va_K.moved (u := U) (U := U.calling g mk a) (Vm.Alike.refl U.vm) h3, h4, fun q hq => mnest_same hq (s := U) (U := U.calling g mk a) rfl (h5 q hq)⟩, ⟨xs, va_X.moved (u := U) (U := U.calling g mk a) (Vm.Alike.refl U.vm) hx⟩, hb, hA⟩
theorem wm_callE (hC : mC G K nL own cc ret) {k idx n mL' Ln : Nat} {y : MethodName} {cy : ByteArray} {r' : Option FieldType} {as S : List mV} {Q1 : Option mV → mW → Prop} (hX : Scr G K Ln) (cs : mcS own idx y n) (hcode : Cond.code y cy mL' r' ∈ mgood) (hM : MxE l G (ScrE G Ln) k y cy mL' r' as w Q1) (hn : as.length = n) (hd : k + 1 ≤ d ∧ mL' ≤ 19) (hst : S = as.reverse ++ st) (hroom : (st.map mcat).sum ≤ 8) (hdg : decode cc pc = .ok (.invokestatic idx, 3))
    (next : ∀ v w', Q1 v w' → Wm l G K d nL Q (pc + 3) L (v.toList ++ st) w') : Wm l G K d nL Q pc L S w := by
  subst hst
  intro H locs ls hP hD hS hh
  obtain ⟨c1, c2, c3, c4⟩ := cs
  have ht := hC.2.2.2.2.2.2.1
  have cb := callB_of (R := mRX d (mX K)) (own := own) (index := idx) (y := y) (bytes := cy) (maxL := mL') (ret := r') (rm := mR k) (mc := 0) (ms := 0) n ht (mgoodIn y cy mL' r' hcode) rfl rfl rfl (ht _ c3) (ht _ c1) c4 (mroomR hd)
  have hpre : ∀ U : State, U.heap = H → K.2.2.1.WarmedH U.vm → va_Pc (as.map (mtr G)) (fun U => (va_P G.1 vwCl (mws G w) U.heap ∧ va_K G.1 vwCl (mtys G) U ∧ va_D (fun _ => True) (mws G w) ∧ ∀ q ∈ mnest, va_Nw q U) ∧ ScrE G Ln U) (as.map (mtr G)).toArray U := by
    intro U hU hW
    have h0 := mpre hC hP hD as U hU hW
    obtain ⟨⟨xs, hx⟩, hb, hA⟩ := hX
    refine ⟨h0.1, h0.2, ⟨xs, ?_⟩, ?_, fun q => hA (hC.2.2.2.2.2.2.2.2.2.2 _ q)⟩
    · refine va_X.moved hW.alike ?_
      rw [hU]
      exact hx.kept (hS.2.1 _ hb hA)
    · rw [hU]; exact Nat.lt_of_lt_of_le hb hS.1
  have hr := va_runS (g := F0 K.2.2.2.1 pc ls ((as.reverse ++ st).map (mtr G))) (As := as.map (mtr G)) (rest := st.map (mtr G)) (locs := locs) (cells := mXc K) (slots := mXn K) (below := K.2.2.2.2.2.1) (e := K.2.1) (meth := K.2.2.2.2.2.2.1) ⟨hC.1, hC.2.1, hC.2.2.1, hC.2.2.2.2.2.1, ht⟩ hM ⟨cb, ht _ c2⟩ ⟨sblind as, hpre⟩ rfl (by simp [hn]) hh.1 (by simp) (mroom hroom _ _ _ _) hdg hC.2.2.2.2.2.2.2.2.2.1
  exact wm_after hC hD hS hh hr next
end LROW
