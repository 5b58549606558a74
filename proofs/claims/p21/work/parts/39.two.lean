/-! the small machine over two cells: a plan and its row -/
def mlaysq : List mLay := [.inl (2, [sS 1]), .inr (0, 56)]
theorem mlays_lenq : mlaysq.length = 2 := rfl
def mlaysGq (G : mG) : List mLay := mlaysq ++ mext G
theorem mlaysG_ofq {G : mG} {i : Nat} {q : mLay} (h : mlaysq[i]? = some q) : (mlaysGq G)[i]? = some q := by
  unfold mlaysGq
  rw [List.getElem?_append_left (List.getElem?_eq_some_iff.mp h).1]; exact h
def mwsq (G : mG) (w : mW) : va_W := (mlaysGq G).mapIdx fun i q => (G.2.1 i, ment G w i q)
theorem mws_atGq (G : mG) (w : mW) {i : Nat} {q : mLay} (h : (mlaysGq G)[i]? = some q) : (mwsq G w)[i]? = some (G.2.1 i, ment G w i q) := by
  simp [mwsq, List.getElem?_mapIdx, h]
theorem mws_atq (G : mG) (w : mW) {i : Nat} {q : mLay} (h : mlaysq[i]? = some q) : (mwsq G w)[i]? = some (G.2.1 i, ment G w i q) := mws_atGq G w (mlaysG_ofq h)
theorem mws_ofq {G : mG} {w : mW} {i : Nat} {x : Nat × va_E} (h : (mwsq G w)[i]? = some x) : ∃ q, (mlaysGq G)[i]? = some q ∧ x = (G.2.1 i, ment G w i q) := by
  simp only [mwsq, List.getElem?_mapIdx, Option.map_eq_some_iff] at h
  obtain ⟨q, h1, h2⟩ := h
  exact ⟨q, h1, h2.symm⟩
theorem mws_setGq {G : mG} {w w' : mW} {i : Nat} {q : mLay} (h : (mlaysGq G)[i]? = some q) {e : va_E} (he : ment G w' i q = e) (hne : ∀ j, j ≠ i → w' j = w j) : (mwsq G w).set i (G.2.1 i, e) = mwsq G w' := by
  have hi : i < (mlaysGq G).length := (List.getElem?_eq_some_iff.mp h).1
  apply List.ext_getElem?
  intro j
  by_cases hj : j = i
  · subst hj
    rw [List.getElem?_set_self (by simpa [mwsq] using hi), mws_atGq G w' h, he]
  · rw [List.getElem?_set_ne (Ne.symm hj)]
    simp only [mwsq, List.getElem?_mapIdx]
    cases (mlaysGq G)[j]? with
    | none => rfl
    | some q' => simp [ment_congr G (hne j hj) q']
theorem mws_setq {G : mG} {w w' : mW} {i : Nat} {q : mLay} (h : mlaysq[i]? = some q) {e : va_E} (he : ment G w' i q = e) (hne : ∀ j, j ≠ i → w' j = w j) : (mwsq G w).set i (G.2.1 i, e) = mwsq G w' := mws_setGq (mlaysG_ofq h) he hne
def mAq (G : mG) : Nat → Prop := fun q => ∃ i, i < (mlaysGq G).length ∧ q = G.2.1 i
theorem mD_sameq {G : mG} {w w' : mW} {B : Nat → Prop} (h : va_D B (mwsq G w)) : va_D B (mwsq G w') := by
  refine ⟨fun i j p q hi hj hpq => ?_, fun k q hk => ?_⟩
  · obtain ⟨qi, hi1, rfl⟩ := mws_ofq hi
    obtain ⟨qj, hj1, rfl⟩ := mws_ofq hj
    exact h.1 i j _ _ (mws_atGq G w hi1) (mws_atGq G w hj1) hpq
  · obtain ⟨qk, hk1, rfl⟩ := mws_ofq hk
    exact h.2 k (G.2.1 k, ment G w k qk) (mws_atGq G w hk1)
theorem mD_anyq {G : mG} {w w' : mW} {B : Nat → Prop} (h : va_D B (mwsq G w)) : va_D (mAq G) (mwsq G w') := by
  refine ⟨(mD_sameq (w' := w') h).1, fun k q hk => ?_⟩
  obtain ⟨qk, hk1, rfl⟩ := mws_ofq hk
  exact ⟨k, (List.getElem?_eq_some_iff.mp hk1).1, rfl⟩
theorem mD_trueq {G : mG} {w w' : mW} {B : Nat → Prop} (h : va_D B (mwsq G w)) : va_D (fun _ => True) (mwsq G w') := (mD_anyq (w' := w') h).weaken (fun _ _ _ _ => trivial)
def mCq (G : mG) (K : mK) (nL : Nat) (own : String) (cc : ByteArray) (ret : Option FieldType) : Prop :=
  K.1.tables.exec = Jvm.exec ∧ K.2.2.2.2.2.2.2.1.code = cc ∧ K.2.2.2.2.2.2.2.1.maxLocals = nL ∧ K.2.2.2.2.2.2.1.sig.returnType = ret ∧ K.2.2.2.2.2.2.1.locks = false ∧ K.2.2.1.vm.findClass own = some K.2.2.2.1.cls ∧ (∀ w ∈ mgood, w.before K.2.2.2.2.1 K.2.2.1 = true) ∧ (∀ q ∈ mnest, va_Nw q K.2.2.1) ∧ va_K G.1 vwCl (mtys G) K.2.2.1 ∧ (mXc K ≤ (mX K).1 ∧ mXn K ≤ (mX K).2.1) ∧ ∀ q, mAq G q → mXA K q
def mQAq (G : mG) (A : Nat → Prop) (Q : Option mV → mW → Prop) : Array Value → State → Outcome → State → Prop := fun _ st o t => (∃ v w', o = .returned (v.map (mtr G)) ∧ Q v w' ∧ va_P G.1 vwCl (mwsq G w') t.heap) ∧ va_F A st t
def mQq (G : mG) (Q : Option mV → mW → Prop) : Array Value → State → Outcome → State → Prop := mQAq G (mAq G) Q
def Wmq (l : Launch) (G : mG) (K : mK) (d nL : Nat) (Q : Option mV → mW → Prop) (pc : Nat) (L : List (Option mV)) (st : List mV) (w : mW) : Prop :=
  ∀ (H : Heap) (locs : List Loc) (ls : Array Slot), va_P G.1 vwCl (mwsq G w) H → va_D (mXA K) (mwsq G w) → va_S (mXA K) K.2.2.1.heap H locs → mhas G ls nL L →
    W K.1 l K.2.1 (mRX d (mX K)) K.2.2.1 K.2.2.2.1 K.2.2.2.2.1 K.2.2.2.2.2.1 K.2.2.2.2.2.2.1 K.2.2.2.2.2.2.2.1 H locs (mXc K) (mXn K) (MQ K.2.2.2.2.2.1 (mQAq G (mXA K) Q) K.2.2.2.2.1 K.2.2.1 (mXc K) (mXn K) (mXA K)) (F0 K.2.2.2.1 pc ls (st.map (mtr G)))
def Mxq (l : Launch) (G : mG) (d : Nat) (y : MethodName) (cc : ByteArray) (mL : Nat) (ret : Option FieldType) (a : List mV) (w : mW) (Q : Option mV → mW → Prop) : Prop :=
  Met l y (Cond.code y cc mL ret :: mgood) (mR d) (va_Pc (a.map (mtr G)) (fun U => va_P G.1 vwCl (mwsq G w) U.heap ∧ va_K G.1 vwCl (mtys G) U ∧ va_D (fun _ => True) (mwsq G w) ∧ ∀ q ∈ mnest, va_Nw q U)) (mQq G Q) 0 0 (mAq G)
theorem Mxq.intro {l : Launch} {G : mG} {d : Nat} {y : MethodName} {cc : ByteArray} {mL : Nat} {ret : Option FieldType} {a : List mV} {w : mW} {Q : Option mV → mW → Prop} (hpl : plainName y.cls = true) (own : String) (hown : y.cls = own) (L : List (Option mV)) (hn : (margs a).length ≤ mL) (hL : margs a ++ List.replicate (mL - (margs a).length) none = L)
    (body : ∀ K : mK, mCq G K mL own cc ret → Wmq l G K d mL Q 0 L [] w) : Mxq l G d y cc mL ret a w Q := by
  refine Met.ofW (cc := cc) (maxL := mL) (ret := ret) hpl rfl ?_
  intro p e s m args below meth c s₁ B hml hv
  obtain ⟨rfl, hP, hK, hD0, hN⟩ := hv
  have hts := atoms_spec (ws := Cond.code y cc mL ret :: mgood) B.pre
  have hf : s.vm.findClass y.cls = some m.cls := findClass_of_methodNamed B.named
  rw [hown] at hf
  have hC : mCq G (p, e, s, m, (a.map (mtr G)).toArray, below, meth, c, (0, 0, 0, 0, 0, mAq G)) mL own cc ret := ⟨B.exec, B.bytes, hml, B.returns, B.notSynchronized, hf, fun w hw => hts w (List.mem_cons_of_mem _ hw), hN, hK, ⟨Nat.le_refl 0, Nat.le_refl 0⟩, fun _ h => h⟩
  have hl := lv_entry (a.map (mtr G)) (n := mL) (by rw [margs_len]; exact hn)
  rw [lg_entry_eq]
  have hm : mhas G ((lg_sl (a.map (mtr G)) ++ List.replicate (mL - (lg_sl (a.map (mtr G))).length) Slot.unset).toArray) mL L := by
    refine ⟨hl.1, hl.2.1, ?_, fun i v hi => ?_⟩
    · rw [← hL]; simp; omega
    · rw [← hL] at hi
      have hi' : (margs a)[i]? = some (some v) := by
        by_cases hlt : i < (margs a).length
        · rwa [List.getElem?_append_left hlt] at hi
        · rw [List.getElem?_append_right (by omega), List.getElem?_replicate] at hi
          split at hi <;> simp at hi
      have := margs_mem G a 0 i v hi'
      rw [Nat.zero_add] at this
      exact hl.2.2 _ this
  exact body (p, e, s, m, (a.map (mtr G)).toArray, below, meth, c, (0, 0, 0, 0, 0, mAq G)) hC s.heap [] _ hP (mD_anyq hD0) va_S.rf hm
section MROW
variable {l : Launch} {G : mG} {K : mK} {d nL : Nat} {own : String} {cc : ByteArray} {ret : Option FieldType} {Q : Option mV → mW → Prop} {pc : Nat} {L : List (Option mV)} {st : List mV} {w : mW}
theorem wm_iload_nq (hC : mCq G K nL own cc ret) {k : Fin 4} (i : Nat) {z : Int} (hdg : decode cc pc = .ok (.iload_n k, 1)) (hi : (k : Nat) = i) (hl : L[i]? = some (some (mvI z))) (h : Wmq l G K d nL Q (pc + 1) L (mvI z :: st) w) : Wmq l G K d nL Q pc L st w :=
  fun H locs ls hP hD hS hh => lv_iload_n hC.1 hC.2.1 hdg hi (hh.2.2.2 _ _ hl) (h H locs ls hP hD hS hh)
theorem wm_aload_nq (hC : mCq G K nL own cc ret) {k : Fin 4} (i : Nat) {z : Nat} (hdg : decode cc pc = .ok (.aload_n k, 1)) (hi : (k : Nat) = i) (hl : L[i]? = some (some (mvR z))) (h : Wmq l G K d nL Q (pc + 1) L (mvR z :: st) w) : Wmq l G K d nL Q pc L st w :=
  fun H locs ls hP hD hS hh => lv_aload_n hC.1 hC.2.1 hdg hi (hh.2.2.2 _ _ hl) (h H locs ls hP hD hS hh)
theorem wm_istore_nq (hC : mCq G K nL own cc ret) {k : Fin 4} (i : Nat) {z : Int} (hdg : decode cc pc = .ok (.istore_n k, 1)) (hi : (k : Nat) = i) (hn : i < nL) (hok : mok L i = true) (h : Wmq l G K d nL Q (pc + 1) (L.set i (some (mvI z))) st w) : Wmq l G K d nL Q pc L (mvI z :: st) w :=
  fun H locs ls hP hD hS hh => lv_istore_n hC.1 hC.2.1 hdg hi (mhas_lv hh) hn rfl (fun ls' hl' => h H locs ls' hP hD hS (mhas_set hh.2.2.1 hok hl'))
theorem wm_iincq (hC : mCq G K nL own cc ret) {i : Nat} {n z v : Int} (hdg : decode cc pc = .ok (.iinc i n, 3)) (hl : L[i]? = some (some (mvI z))) (hv : z + n = v) (hn : i < nL) (hok : mok L i = true) (h : Wmq l G K d nL Q (pc + 3) (L.set i (some (mvI v))) st w) : Wmq l G K d nL Q pc L st w := by
  intro H locs ls hP hD hS hh
  obtain ⟨k, hk⟩ := List.getElem?_of_mem (mprs_mem (G := G) hl)
  exact lv_iinc (v := mI v) hC.1 hC.2.1 hdg (mhas_lv hh) hk (by rw [← hv]; exact mI_add z n) hn rfl (fun ls' hl' => h H locs ls' hP hD hS (mhas_set hh.2.2.1 hok hl'))
theorem wm_iconstq (hC : mCq G K nL own cc ret) {n : Int} (hdg : decode cc pc = .ok (.iconst n, 1)) (h : Wmq l G K d nL Q (pc + 1) L (mvI n :: st) w) : Wmq l G K d nL Q pc L st w :=
  fun H locs ls hP hD hS hh => lv_iconst (v := mI n) hC.1 hC.2.1 hdg rfl (h H locs ls hP hD hS hh)
theorem wm_bipushq (hC : mCq G K nL own cc ret) {n : Int} (hdg : decode cc pc = .ok (.bipush n, 2)) (hv : (Int8.ofInt n).toInt32 = mI n) (h : Wmq l G K d nL Q (pc + 2) L (mvI n :: st) w) : Wmq l G K d nL Q pc L st w :=
  fun H locs ls hP hD hS hh => lv_bipush (v := mI n) hC.1 hC.2.1 hdg hv (h H locs ls hP hD hS hh)
theorem wm_iaddq (hC : mCq G K nL own cc ret) {x y : Int} (hdg : decode cc pc = .ok (.iadd, 1)) (h : Wmq l G K d nL Q (pc + 1) L (mvI (x + y) :: st) w) : Wmq l G K d nL Q pc L (mvI y :: mvI x :: st) w :=
  fun H locs ls hP hD hS hh => lv_iadd hC.1 hC.2.1 hdg (by rw [mI_add]; exact h H locs ls hP hD hS hh)
theorem wm_imulq (hC : mCq G K nL own cc ret) {x y : Int} (hdg : decode cc pc = .ok (.imul, 1)) (h : Wmq l G K d nL Q (pc + 1) L (mvI (x * y) :: st) w) : Wmq l G K d nL Q pc L (mvI y :: mvI x :: st) w :=
  fun H locs ls hP hD hS hh => lv_imul hC.1 hC.2.1 hdg (by rw [mI_mul]; exact h H locs ls hP hD hS hh)
theorem wm_gotoq (hC : mCq G K nL own cc ret) {off : Int} (tgt : Nat) (hdg : decode cc pc = .ok (.goto off, 3)) (ht : (pc : Int) + off = (tgt : Int)) (h : Wmq l G K d nL Q tgt L st w) : Wmq l G K d nL Q pc L st w :=
  fun H locs ls hP hD hS hh => lv_goto hC.1 hC.2.1 hdg ht (h H locs ls hP hD hS hh)
end MROW
section MROW2
variable {l : Launch} {G : mG} {K : mK} {d nL : Nat} {own : String} {cc : ByteArray} {ret : Option FieldType} {Q : Option mV → mW → Prop} {pc : Nat} {L : List (Option mV)} {st : List mV} {w : mW}
theorem wm_if_eqq (hC : mCq G K nL own cc ret) (tgt : Nat) {x off : Int} (hdg : decode cc pc = .ok (.ifCond .eq off, 3)) (hoff : (pc : Int) + off = (tgt : Int)) (hx : (-2147483648 ≤ x ∧ x < 2147483648)) (ht : x = 0 → Wmq l G K d nL Q tgt L st w) (hf : ¬ x = 0 → Wmq l G K d nL Q (pc + 3) L st w) : Wmq l G K d nL Q pc L (mvI x :: st) w :=
  fun H locs ls hP hD hS hh => lv_if_eq hC.1 hC.2.1 hdg hoff (fun q => ht ((mI_eq hx (show (-2147483648 : Int) ≤ 0 ∧ (0 : Int) < 2147483648 by omega)).mp q) H locs ls hP hD hS hh) (fun q => hf (fun e => q ((mI_eq hx (show (-2147483648 : Int) ≤ 0 ∧ (0 : Int) < 2147483648 by omega)).mpr e)) H locs ls hP hD hS hh)
theorem wm_if_ltq (hC : mCq G K nL own cc ret) (tgt : Nat) {x off : Int} (hdg : decode cc pc = .ok (.ifCond .lt off, 3)) (hoff : (pc : Int) + off = (tgt : Int)) (hx : (-2147483648 ≤ x ∧ x < 2147483648)) (ht : x < 0 → Wmq l G K d nL Q tgt L st w) (hf : 0 ≤ x → Wmq l G K d nL Q (pc + 3) L st w) : Wmq l G K d nL Q pc L (mvI x :: st) w :=
  fun H locs ls hP hD hS hh => lv_if_lt hC.1 hC.2.1 hdg hoff (fun q => ht ((mI_lt hx (show (-2147483648 : Int) ≤ 0 ∧ (0 : Int) < 2147483648 by omega)).mp q) H locs ls hP hD hS hh) (fun q => hf (Int.not_lt.mp (fun e => q ((mI_lt hx (show (-2147483648 : Int) ≤ 0 ∧ (0 : Int) < 2147483648 by omega)).mpr e))) H locs ls hP hD hS hh)
theorem wm_icmp_geq (hC : mCq G K nL own cc ret) (tgt : Nat) {x y off : Int} (hdg : decode cc pc = .ok (.if_icmp .ge off, 3)) (hoff : (pc : Int) + off = (tgt : Int)) (hx : (-2147483648 ≤ x ∧ x < 2147483648)) (hy : (-2147483648 ≤ y ∧ y < 2147483648)) (ht : y ≤ x → Wmq l G K d nL Q tgt L st w) (hf : x < y → Wmq l G K d nL Q (pc + 3) L st w) : Wmq l G K d nL Q pc L (mvI y :: mvI x :: st) w :=
  fun H locs ls hP hD hS hh => lv_icmp_ge hC.1 hC.2.1 hdg hoff (fun q => ht ((mI_le hy hx).mp q) H locs ls hP hD hS hh) (fun q => hf (Int.not_le.mp (fun e => q ((mI_le hy hx).mpr e))) H locs ls hP hD hS hh)
theorem wm_zreturnq {Q : Option mV → mW → Prop} {x : Int} (hC : mCq G K nL own cc (some .boolean)) (hdg : decode cc pc = .ok (.ireturn, 1)) (hx : x = 0 ∨ x = 1) (h : Q (some (mvI x)) w) : Wmq l G K d nL Q pc L [mvI x] w :=
  fun H locs ls hP hD hS hh => W.zret (v := mI x) hC.1 hC.2.1 hC.2.2.2.1 (by rcases hx with rfl | rfl <;> decide) (fun t ht hW => ⟨⟨some (mvI x), w, rfl, h, by rw [ht]; exact hP⟩, hS.F ht⟩) hS.2.2 hdg hC.2.2.2.2.1
theorem wm_returnq {Q : Option mV → mW → Prop} (hC : mCq G K nL own cc none) (hdg : decode cc pc = .ok (.return_, 1)) (h : Q none w) : Wmq l G K d nL Q pc L [] w :=
  fun H locs ls hP hD hS hh => W.vret hC.1 hC.2.1 hC.2.2.2.1 (fun t ht hW => ⟨⟨none, w, rfl, h, by rw [ht]; exact hP⟩, hS.F ht⟩) hS.2.2 hdg hC.2.2.2.2.1
end MROW2
abbrev mWKq (l : Launch) (G : mG) (K : mK) (d : Nat) (Q : Option mV → mW → Prop) (H : Heap) (locs : List Loc) (g : JFrame) : Prop :=
  W K.1 l K.2.1 (mRX d (mX K)) K.2.2.1 K.2.2.2.1 K.2.2.2.2.1 K.2.2.2.2.2.1 K.2.2.2.2.2.2.1 K.2.2.2.2.2.2.2.1 H locs (mXc K) (mXn K) (MQ K.2.2.2.2.2.1 (mQAq G (mXA K) Q) K.2.2.2.2.1 K.2.2.1 (mXc K) (mXn K) (mXA K)) g
section MROW3
variable {l : Launch} {G : mG} {K : mK} {d nL : Nat} {own : String} {cc : ByteArray} {ret : Option FieldType} {Q : Option mV → mW → Prop} {pc : Nat} {L : List (Option mV)} {st : List mV} {w : mW}
theorem wm_getvq (hC : mCq G K nL own cc ret) {idx ci k i : Nat} {fks : List (Option (Option Nat))} {fk : Option (Option Nat)} (hF : mFl own idx ci k) (hi : mlaysq[i]? = some (.inl (ci, fks))) (hk : fks[k]? = some fk) (hdg : decode cc pc = .ok (.getfield idx, 3)) (h : Wmq l G K d nL Q (pc + 3) L (mfv w i k fk :: st) w) : Wmq l G K d nL Q pc L (mvR i :: st) w := by
  obtain ⟨C, T, N, hc, hkN, hlink, hin⟩ := hF
  intro H locs ls hP hD hS hh
  refine va_get (D := G.1) (ci := ci) (C := C) (T := T) (N := N) (ref := (T k).1) hC.1 hC.2.1 (Ts := mgood) hC.2.2.2.2.2.2.1 hin hC.2.2.2.2.2.1 hC.2.2.2.2.2.2.2.2.1 hP i (mws_atq G w hi) hc k hkN (hC.2.2.2.2.2.2.1 _ hlink) (fun _ h9 => h9) (v := mtr G (mfv w i k fk)) ?_ hdg (h H locs ls hP hD hS hh)
  simp [List.getElem?_mapIdx, hk]
theorem wm_getRq (hC : mCq G K nL own cc ret) {idx ci k i j : Nat} {fks : List (Option (Option Nat))} (hF : mFl own idx ci k) (hi : mlaysq[i]? = some (.inl (ci, fks))) (hk : fks[k]? = some (some (some j))) (hdg : decode cc pc = .ok (.getfield idx, 3)) (h : Wmq l G K d nL Q (pc + 3) L (mvR j :: st) w) : Wmq l G K d nL Q pc L (mvR i :: st) w :=
  wm_getvq hC hF hi hk hdg h
theorem wm_iastoreq (hC : mCq G K nL own cc ret) {i n : Nat} {z x : Int} (hi : mlaysq[i]? = some (.inr (0, n))) (hz : 0 ≤ z ∧ z < n) (hn : n ≤ 1000000) (hdg : decode cc pc = .ok (.iastore, 1)) (h : Wmq l G K d nL Q (pc + 1) L st (mup w i z x)) : Wmq l G K d nL Q pc L (mvI x :: mvI z :: mvR i :: st) w := by
  intro H locs ls hP hD hS hh
  refine va_iast hC.1 hC.2.1 hC.2.2.2.2.2.2.2.2.1 hP hD hS i 0 (mws_atq G w hi) rfl (mI_in hz hn) hdg (fun H1 locs1 hP1 hD1 hS1 => ?_)
  have e := mws_setq (G := G) (w := w) (w' := mup w i z x) hi (e := .inl (mCid G 0, n, .inl (upd (fun k : Nat => mI (w i (k : Int))) (mI z).toNatClampNeg (mI x)))) (by rw [← mupd_eq hz hn rfl]; rfl) (fun j hj => mup_ne hj)
  rw [e] at hP1 hD1
  exact h H1 locs1 ls hP1 hD1 hS1 hh
end MROW3
section MCALL
variable {l : Launch} {G : mG} {K : mK} {d nL : Nat} {own : String} {cc : ByteArray} {ret : Option FieldType} {Q : Option mV → mW → Prop} {pc : Nat} {L : List (Option mV)} {st : List mV} {w : mW}
theorem wm_afterq {H : Heap} {locs : List Loc} {ls : Array Slot} {st0 : List Value} {a : Array Value} {Q1 : Option mV → mW → Prop} (hC : mCq G K nL own cc ret) (hD : va_D (mXA K) (mwsq G w)) (hS : va_S (mXA K) K.2.2.1.heap H locs) (hh : mhas G ls nL L)
    (hr : va_Run K.1 l K.2.1 (mRX d (mX K)) K.2.2.1 K.2.2.2.1 K.2.2.2.2.1 K.2.2.2.2.2.1 K.2.2.2.2.2.2.1 K.2.2.2.2.2.2.2.1 H locs (mXc K) (mXn K) 0 0 (F0 K.2.2.2.1 pc ls st0) (st.map (mtr G)) (mQq G Q1 a) (mAq G))
    (next : ∀ v w', Q1 v w' → Wmq l G K d nL Q (pc + 3) L (v.toList ++ st) w') : mWKq l G K d Q H locs (F0 K.2.2.2.1 pc ls st0) := by
  intro T hT X
  obtain ⟨v, st₀, t, T', LL, h0, X', hL, e1, e2, ⟨⟨v', w', hv, hq, hb⟩, hz, hk⟩, stp⟩ := hr T hT X
  cases hv
  rw [h0] at hz hk
  have hS' : va_S (mXA K) K.2.2.1.heap T'.heap (locs ++ LL) := by
    refine ⟨Nat.le_trans hS.1 (by rw [e1]; exact hz), fun q h1 h2 => ?_, fun q hq => ?_⟩
    · rw [e1, hk q (Nat.lt_of_lt_of_le h1 hS.1) (fun z => h2 (hC.2.2.2.2.2.2.2.2.2.2 q z))]; exact hS.2.1 q h1 h2
    · rcases List.mem_append.mp hq with h | h
      · exact hS.2.2 q h
      · exact hC.2.2.2.2.2.2.2.2.2.2 _ (hL q h)
  obtain ⟨t2, a1, b1⟩ := next v' w' hq T'.heap (locs ++ LL) ls (by rw [e1]; exact hb) (mD_sameq hD) hS' hh T' rfl X'
  refine ⟨t2, stp t2 ?_, b1⟩
  have e : (v'.map (mtr G)).toList ++ st.map (mtr G) = (v'.toList ++ st).map (mtr G) := by cases v' <;> simp
  rw [e]; exact a1
theorem mblindq (as : List mV) : FrameBlind (va_Pc (as.map (mtr G)) (fun U => va_P G.1 vwCl (mwsq G w) U.heap ∧ va_K G.1 vwCl (mtys G) U ∧ va_D (fun _ => True) (mwsq G w) ∧ ∀ q ∈ mnest, va_Nw q U)) := by
  intro a U g mk h
  obtain ⟨h1, h2, h3, h4, h5⟩ := h
  exact ⟨h1, h2, va_K.moved (u := U) (U := U.calling g mk a) (Vm.Alike.refl U.vm) h3, h4, fun q hq => mnest_same hq (s := U) (U := U.calling g mk a) rfl (h5 q hq)⟩
theorem mpreq (hC : mCq G K nL own cc ret) {H : Heap} (hP : va_P G.1 vwCl (mwsq G w) H) (hD : va_D (mXA K) (mwsq G w)) (as : List mV) : ∀ U : State, U.heap = H → K.2.2.1.WarmedH U.vm → va_Pc (as.map (mtr G)) (fun U => va_P G.1 vwCl (mwsq G w) U.heap ∧ va_K G.1 vwCl (mtys G) U ∧ va_D (fun _ => True) (mwsq G w) ∧ ∀ q ∈ mnest, va_Nw q U) (as.map (mtr G)).toArray U := by
  intro U hU hW
  exact ⟨rfl, by rw [hU]; exact hP, va_K.moved hW.alike hC.2.2.2.2.2.2.2.2.1, mD_trueq hD, fun q hq => mnest_warm hq hW (hC.2.2.2.2.2.2.2.1 q hq)⟩
theorem wm_callNq (hC : mCq G K nL own cc ret) {k idx n mL' : Nat} {y : MethodName} {cy : ByteArray} {r' : Option FieldType} {as S : List mV} {Q1 : Option mV → mW → Prop} (cs : mcN own idx y n) (hcode : Cond.code y cy mL' r' ∈ mgood) (hM : Mxq l G k y cy mL' r' as w Q1) (hn : as.length = n) (hd : k + 1 ≤ d ∧ mL' ≤ 19) (hst : S = as.reverse ++ st) (hroom : (st.map mcat).sum ≤ 8) (hdg : decode cc pc = .ok (.invokestatic idx, 3))
    (next : ∀ v w', Q1 v w' → Wmq l G K d nL Q (pc + 3) L (v.toList ++ st) w') : Wmq l G K d nL Q pc L S w := by
  subst hst
  intro H locs ls hP hD hS hh
  obtain ⟨⟨host, c1⟩, c2, c3, c4⟩ := cs
  have ht := hC.2.2.2.2.2.2.1
  have cb := va_cnB (R := mRX d (mX K)) (own := own) (host := host) (index := idx) (y := y) (bytes := cy) (maxL := mL') (ret := r') (rm := mR k) (mc := 0) (ms := 0) n ht (mgoodIn y cy mL' r' hcode) rfl rfl rfl (hC.2.2.2.2.2.2.2.1 _ c1) (ht _ c3) c4 (mroomR hd)
  have hr := va_runSN (g := F0 K.2.2.2.1 pc ls ((as.reverse ++ st).map (mtr G))) (As := as.map (mtr G)) (rest := st.map (mtr G)) (locs := locs) (cells := mXc K) (slots := mXn K) (below := K.2.2.2.2.2.1) (e := K.2.1) (meth := K.2.2.2.2.2.2.1) ⟨hC.1, hC.2.1, hC.2.2.1, hC.2.2.2.2.2.1, ht⟩ hM ⟨cb, ht _ c2, trivial⟩ ⟨mblindq as, mpreq hC hP hD as⟩ rfl (by simp [hn]) hh.1 (by simp) (mroom hroom _ _ _ _) hdg hC.2.2.2.2.2.2.2.2.2.1
  exact wm_afterq hC hD hS hh hr next
theorem wm_callVq (hC : mCq G K nL own cc ret) {k idx n mL' i ci N : Nat} {T : u_T} {fks : List (Option (Option Nat))} {y : MethodName} {cy : ByteArray} {r' : Option FieldType} {as S : List mV} {Q1 : Option mV → mW → Prop} (cs : mcV own idx y n) (hcode : Cond.code y cy mL' r' ∈ mgood) (hi : mlaysq[i]? = some (.inl (ci, fks))) (hc : vwCl[ci]? = some (y.cls, T, N)) (hM : Mxq l G k y cy mL' r' (mvR i :: as) w Q1) (hn : as.length = n) (hd : k + 1 ≤ d ∧ mL' ≤ 19) (hst : S = as.reverse ++ mvR i :: st) (hroom : (st.map mcat).sum ≤ 8) (hdg : decode cc pc = .ok (.invokevirtual idx, 3))
    (next : ∀ v w', Q1 v w' → Wmq l G K d nL Q (pc + 3) L (v.toList ++ st) w') : Wmq l G K d nL Q pc L S w := by
  subst hst
  intro H locs ls hP hD hS hh
  obtain ⟨c1, c2, c2b, c3, c4⟩ := cs
  have ht := hC.2.2.2.2.2.2.1
  have cb := callB_of (R := mRX d (mX K)) (own := own) (index := idx) (y := y) (bytes := cy) (maxL := mL') (ret := r') (rm := mR k) (mc := 0) (ms := 0) n ht (mgoodIn y cy mL' r' hcode) rfl rfl rfl (ht _ c3) (ht _ c1) c4 (mroomR hd)
  have hr := va_runV (C := y.cls) (b := G.2.1 i) (g := F0 K.2.2.2.1 pc ls ((as.reverse ++ mvR i :: st).map (mtr G))) (As := as.map (mtr G)) (rest := st.map (mtr G)) (locs := locs) (cells := mXc K) (slots := mXn K) (below := K.2.2.2.2.2.1) (e := K.2.1) (meth := K.2.2.2.2.2.2.1) ⟨hC.1, hC.2.1, hC.2.2.1, hC.2.2.2.2.2.1, ht⟩ hM ⟨cb, ht _ c2, ht _ c2b⟩ ⟨mblindq (mvR i :: as), va_recv hC.2.2.2.2.2.2.2.2.1 hP hc (mws_atq G w hi), mpreq hC hP hD (mvR i :: as)⟩ rfl (by simp [hn]) hh.1 (by simp [mtr]) (mroom hroom _ _ _ _) hdg hC.2.2.2.2.2.2.2.2.2.1
  exact wm_afterq hC hD hS hh hr next
theorem Mxq.weaken {d : Nat} {y : MethodName} {mL : Nat} {a : List mV} {Q1 Q2 : Option mV → mW → Prop} (h : Mxq l G d y cc mL ret a w Q1) (hq : ∀ v w', Q1 v w' → Q2 v w') : Mxq l G d y cc mL ret a w Q2 := by
  intro p e ha hc hk s m args below hf happ hP hKK
  obtain ⟨n, o, h1, h2, h3, ⟨⟨⟨v, w', q1, q2, q3⟩, q4⟩, q5⟩⟩ := h p e ha hc hk s m args below hf happ hP hKK
  exact ⟨n, o, h1, h2, h3, ⟨⟨⟨v, w', q1, hq v w' q2, q3⟩, q4⟩, q5⟩⟩
end MCALL
section MFORM
variable {l : Launch} {G : mG} {K : mK} {d nL : Nat} {own : String} {cc : ByteArray} {ret : Option FieldType} {Q : Option mV → mW → Prop} {pc : Nat} {L : List (Option mV)} {st : List mV} {w : mW}
theorem wm_pNq (hC : mCq G K nL own cc ret) {k idx n mL' : Nat} {y : MethodName} {cy : ByteArray} {r' : Option FieldType} {as S : List mV} {v : mV} (cs : mcN own idx y n) (hcode : Cond.code y cy mL' r' ∈ mgood) (hM : Mxq l G k y cy mL' r' (as) w (qP v w)) (hn : as.length = n) (hd : k + 1 ≤ d ∧ mL' ≤ 19) (hst : S = as.reverse ++ st) (hroom : (st.map mcat).sum ≤ 8) (hdg : decode cc pc = .ok (.invokestatic idx, 3)) (next : Wmq l G K d nL Q (pc + 3) L (v :: st) w) : Wmq l G K d nL Q pc L S w :=
  wm_callNq hC cs hcode hM hn hd hst hroom hdg (fun r w' h => by obtain ⟨rfl, rfl⟩ := h; exact next)
theorem wm_vVq (hC : mCq G K nL own cc ret) {k idx n mL' : Nat} {y : MethodName} {cy : ByteArray} {r' : Option FieldType} {as S : List mV} {P : mW → Prop} {i ci N : Nat} {T : u_T} {fks : List (Option (Option Nat))} (cs : mcV own idx y n) (hcode : Cond.code y cy mL' r' ∈ mgood) (hi : mlaysq[i]? = some (.inl (ci, fks))) (hc : vwCl[ci]? = some (y.cls, T, N)) (hM : Mxq l G k y cy mL' r' (mvR i :: as) w (qV P)) (hn : as.length = n) (hd : k + 1 ≤ d ∧ mL' ≤ 19) (hst : S = as.reverse ++ mvR i :: st) (hroom : (st.map mcat).sum ≤ 8) (hdg : decode cc pc = .ok (.invokevirtual idx, 3)) (next : ∀ w', P w' → Wmq l G K d nL Q (pc + 3) L st w') : Wmq l G K d nL Q pc L S w :=
  wm_callVq hC cs hcode hi hc hM hn hd hst hroom hdg (fun r w' h => by obtain ⟨rfl, h⟩ := h; exact next w' h)
theorem wm_zretPq {w0 : mW} {x : Int} {b : Bool} (hC : mCq G K nL own cc (some .boolean)) (hdg : decode cc pc = .ok (.ireturn, 1)) (hx : x = mb b) (hw : w = w0) : Wmq l G K d nL (qP (mvI (mb b)) w0) pc L [mvI x] w := by
  subst hx
  exact wm_zreturnq hC hdg (mb_01 b) ⟨rfl, hw⟩
theorem wm_retVq {P : mW → Prop} (hC : mCq G K nL own cc none) (hdg : decode cc pc = .ok (.return_, 1)) (h : P w) : Wmq l G K d nL (qV P) pc L [] w := wm_returnq hC hdg ⟨rfl, h⟩
theorem wm_ifb_eqq (hC : mCq G K nL own cc ret) (tgt : Nat) {b : Bool} {off : Int} (hdg : decode cc pc = .ok (.ifCond .eq off, 3)) (hoff : (pc : Int) + off = (tgt : Int)) (ht : b = false → Wmq l G K d nL Q tgt L st w) (hf : b = true → Wmq l G K d nL Q (pc + 3) L st w) : Wmq l G K d nL Q pc L (mvI (mb b) :: st) w :=
  wm_if_eqq hC tgt hdg hoff (mb_rng b) (fun h => ht ((mb_0 b).mp h)) (fun h => hf (by cases b; exact absurd rfl h; rfl))
end MFORM
def PlanIxq (p : Nat) : Prop := mlaysq[p]? = some (.inl (2, [sS (p + 1)])) ∧ mlaysq[p + 1]? = some (.inr (0, 56))
theorem wm_ifd_eqq {l : Launch} {G : mG} {K : mK} {d nL : Nat} {own : String} {cc : ByteArray} {ret : Option FieldType} {Q : Option mV → mW → Prop} {pc : Nat} {L : List (Option mV)} {st : List mV} {w : mW} (hC : mCq G K nL own cc ret) (tgt : Nat) {P : Prop} [Decidable P] {off : Int} (hdg : decode cc pc = .ok (.ifCond .eq off, 3)) (hoff : (pc : Int) + off = (tgt : Int)) (ht : ¬ P → Wmq l G K d nL Q tgt L st w) (hf : P → Wmq l G K d nL Q (pc + 3) L st w) : Wmq l G K d nL Q pc L (mvI (mb (decide P)) :: st) w :=
  wm_ifb_eqq hC tgt hdg hoff (fun h => ht (of_decide_eq_false h)) (fun h => hf (of_decide_eq_true h))
set_option maxRecDepth 100000 in
set_option maxHeartbeats 4000000 in
theorem s_X8_isStateq {l : Launch} {G : mG} {w : mW} {z : Int} (hz : -2147483648 ≤ z ∧ z < 2147483648) : Mxq l G 0 yX8_isState cX8_isState 1 (some .boolean) [mvI z] w (qP (mvI (mb (decide (0 ≤ z ∧ z < 8)))) w) := by
  refine Mxq.intro (by decide) RX8 rfl [some (mvI z)] (Nat.le_of_ble_eq_true rfl) rfl (fun K hC => ?_)
  refine wm_iload_nq hC 0 (pc := 0) dX8_isState_0 rfl rfl ?_
  refine wm_if_ltq hC 14 (pc := 1) dX8_isState_1 (by decide) (by omega) (fun h1 => ?_) (fun h1 => ?_)
  · refine wm_iconstq hC (pc := 14) dX8_isState_14 ?_
    refine wm_zretPq hC (pc := 15) dX8_isState_15 ?_ rfl
    first | exact ((mb_0 _).mpr (decide_eq_false (by omega))).symm | exact ((mb_1 _).mpr (decide_eq_true (by omega))).symm
  · refine wm_iload_nq hC 0 (pc := 4) dX8_isState_4 rfl rfl ?_
    refine wm_bipushq hC (pc := 5) dX8_isState_5 (by decide) ?_
    refine wm_icmp_geq hC 14 (pc := 7) dX8_isState_7 (by decide) (by omega) (by omega) (fun h7 => ?_) (fun h7 => ?_)
    · refine wm_iconstq hC (pc := 14) dX8_isState_14 ?_
      refine wm_zretPq hC (pc := 15) dX8_isState_15 ?_ rfl
      first | exact ((mb_0 _).mpr (decide_eq_false (by omega))).symm | exact ((mb_1 _).mpr (decide_eq_true (by omega))).symm
    · refine wm_iconstq hC (pc := 10) dX8_isState_10 ?_
      refine wm_gotoq hC 15 (pc := 11) dX8_isState_11 (by decide) ?_
      refine wm_zretPq hC (pc := 15) dX8_isState_15 ?_ rfl
      first | exact ((mb_0 _).mpr (decide_eq_false (by omega))).symm | exact ((mb_1 _).mpr (decide_eq_true (by omega))).symm
set_option maxRecDepth 100000 in
set_option maxHeartbeats 4000000 in
theorem s_X8_isWordq {l : Launch} {G : mG} {w : mW} {z : Int} (hz : -2147483648 ≤ z ∧ z < 2147483648) : Mxq l G 0 yX8_isWord cX8_isWord 1 (some .boolean) [mvI z] w (qP (mvI (mb (decide (0 ≤ z ∧ z < 6)))) w) := by
  refine Mxq.intro (by decide) RX8 rfl [some (mvI z)] (Nat.le_of_ble_eq_true rfl) rfl (fun K hC => ?_)
  refine wm_iload_nq hC 0 (pc := 0) dX8_isWord_0 rfl rfl ?_
  refine wm_if_ltq hC 14 (pc := 1) dX8_isWord_1 (by decide) (by omega) (fun h1 => ?_) (fun h1 => ?_)
  · refine wm_iconstq hC (pc := 14) dX8_isWord_14 ?_
    refine wm_zretPq hC (pc := 15) dX8_isWord_15 ?_ rfl
    first | exact ((mb_0 _).mpr (decide_eq_false (by omega))).symm | exact ((mb_1 _).mpr (decide_eq_true (by omega))).symm
  · refine wm_iload_nq hC 0 (pc := 4) dX8_isWord_4 rfl rfl ?_
    refine wm_bipushq hC (pc := 5) dX8_isWord_5 (by decide) ?_
    refine wm_icmp_geq hC 14 (pc := 7) dX8_isWord_7 (by decide) (by omega) (by omega) (fun h7 => ?_) (fun h7 => ?_)
    · refine wm_iconstq hC (pc := 14) dX8_isWord_14 ?_
      refine wm_zretPq hC (pc := 15) dX8_isWord_15 ?_ rfl
      first | exact ((mb_0 _).mpr (decide_eq_false (by omega))).symm | exact ((mb_1 _).mpr (decide_eq_true (by omega))).symm
    · refine wm_iconstq hC (pc := 10) dX8_isWord_10 ?_
      refine wm_gotoq hC 15 (pc := 11) dX8_isWord_11 (by decide) ?_
      refine wm_zretPq hC (pc := 15) dX8_isWord_15 ?_ rfl
      first | exact ((mb_0 _).mpr (decide_eq_false (by omega))).symm | exact ((mb_1 _).mpr (decide_eq_true (by omega))).symm
set_option maxRecDepth 100000 in
set_option maxHeartbeats 4000000 in
theorem s_X3_setKindq {l : Launch} {G : mG} {w : mW} {p : Nat} (hp : PlanIxq p) {z v : Int} (hz : 0 ≤ z ∧ z < 8) : Mxq l G 1 yX3_setKind cX3_setKind 3 none [mvR p, mvI z, mvI v] w (qV (fun w' => w' = mup w (p + 1) (z * 7) v)) := by
  refine Mxq.intro (by decide) RX3 rfl [some (mvR p), some (mvI z), some (mvI v)] (Nat.le_of_ble_eq_true rfl) rfl (fun K hC => ?_)
  refine wm_iload_nq hC 1 (pc := 0) dX3_setKind_0 rfl rfl ?_
  refine wm_pNq hC cn_X3_26 kc_X8_isState (s_X8_isStateq (by omega)) rfl (by decide) rfl (Nat.le_of_ble_eq_true rfl) (pc := 1) dX3_setKind_1 ?_
  refine wm_ifd_eqq hC 17 (pc := 4) dX3_setKind_4 (by decide) (fun h4 => ?_) (fun h4 => ?_)
  · omega
  · refine wm_aload_nq hC 0 (pc := 7) dX3_setKind_7 rfl rfl ?_
    refine wm_getRq hC fl_X3_11_2 hp.1 rfl (pc := 8) dX3_setKind_8 ?_
    refine wm_iload_nq hC 1 (pc := 11) dX3_setKind_11 rfl rfl ?_
    refine wm_bipushq hC (pc := 12) dX3_setKind_12 (by decide) ?_
    refine wm_imulq hC (pc := 14) dX3_setKind_14 ?_
    refine wm_iload_nq hC 2 (pc := 15) dX3_setKind_15 rfl rfl ?_
    refine wm_iastoreq hC hp.2 (by omega) (by decide) (pc := 16) dX3_setKind_16 ?_
    refine wm_retVq hC (pc := 17) dX3_setKind_17 ?_
    rfl
set_option maxRecDepth 100000 in
set_option maxHeartbeats 4000000 in
theorem s_X3_setTargetq {l : Launch} {G : mG} {w : mW} {p : Nat} (hp : PlanIxq p) {z k v : Int} (hz : 0 ≤ z ∧ z < 8) (hw : 0 ≤ k ∧ k < 6) : Mxq l G 1 yX3_setTarget cX3_setTarget 4 none [mvR p, mvI z, mvI k, mvI v] w (qV (fun w' => w' = mup w (p + 1) (z * 7 + 1 + k) v)) := by
  refine Mxq.intro (by decide) RX3 rfl [some (mvR p), some (mvI z), some (mvI k), some (mvI v)] (Nat.le_of_ble_eq_true rfl) rfl (fun K hC => ?_)
  refine wm_iload_nq hC 1 (pc := 0) dX3_setTarget_0 rfl rfl ?_
  refine wm_pNq hC cn_X3_26 kc_X8_isState (s_X8_isStateq (by omega)) rfl (by decide) rfl (Nat.le_of_ble_eq_true rfl) (pc := 1) dX3_setTarget_1 ?_
  refine wm_ifd_eqq hC 28 (pc := 4) dX3_setTarget_4 (by decide) (fun h4 => ?_) (fun h4 => ?_)
  · omega
  · refine wm_iload_nq hC 2 (pc := 7) dX3_setTarget_7 rfl rfl ?_
    refine wm_pNq hC cn_X3_30 kc_X8_isWord (s_X8_isWordq (by omega)) rfl (by decide) rfl (Nat.le_of_ble_eq_true rfl) (pc := 8) dX3_setTarget_8 ?_
    refine wm_ifd_eqq hC 28 (pc := 11) dX3_setTarget_11 (by decide) (fun h11 => ?_) (fun h11 => ?_)
    · omega
    · refine wm_aload_nq hC 0 (pc := 14) dX3_setTarget_14 rfl rfl ?_
      refine wm_getRq hC fl_X3_11_2 hp.1 rfl (pc := 15) dX3_setTarget_15 ?_
      refine wm_iload_nq hC 1 (pc := 18) dX3_setTarget_18 rfl rfl ?_
      refine wm_bipushq hC (pc := 19) dX3_setTarget_19 (by decide) ?_
      refine wm_imulq hC (pc := 21) dX3_setTarget_21 ?_
      refine wm_iconstq hC (pc := 22) dX3_setTarget_22 ?_
      refine wm_iaddq hC (pc := 23) dX3_setTarget_23 ?_
      refine wm_iload_nq hC 2 (pc := 24) dX3_setTarget_24 rfl rfl ?_
      refine wm_iaddq hC (pc := 25) dX3_setTarget_25 ?_
      refine wm_iload_nq hC 3 (pc := 26) dX3_setTarget_26 rfl rfl ?_
      refine wm_iastoreq hC hp.2 (by omega) (by decide) (pc := 27) dX3_setTarget_27 ?_
      refine wm_retVq hC (pc := 28) dX3_setTarget_28 ?_
      rfl
set_option maxRecDepth 100000 in
set_option maxHeartbeats 4000000 in
theorem s_X3_clearq {l : Launch} {G : mG} {w : mW} {p : Nat} (hp : PlanIxq p) : Mxq l G 2 yX3_clear cX3_clear 3 none [mvR p] w (qV (fun w' => w' = pclr w p 56)) := by
  refine Mxq.intro (by decide) RX3 rfl [some (mvR p), none, none] (Nat.le_of_ble_eq_true rfl) rfl (fun K hC => ?_)
  refine wm_iconstq hC (pc := 0) dX3_clear_0 ?_
  refine wm_istore_nq hC 1 (pc := 1) dX3_clear_1 rfl (by decide) rfl ?_
  have lp2 : ∀ (n : Nat) (j : Nat) (o : Option mV), n = 8 - j → j ≤ 8 → Wmq l G K 2 3 (qV (fun w' => w' = pclr w p 56)) 2 [some (mvR p), some (mvI (j : Int)), o] [] (pclr w p ((j : Int) * 7)) := by
    intro n
    induction n using Nat.strongRecOn with
    | _ n ih =>
    intro j o hn hj
    refine wm_iload_nq hC 1 (pc := 2) dX3_clear_2 rfl rfl ?_
    refine wm_bipushq hC (pc := 3) dX3_clear_3 (by decide) ?_
    refine wm_icmp_geq hC 41 (pc := 5) dX3_clear_5 (by decide) (by omega) (by omega) (fun h5 => ?_) (fun h5 => ?_)
    · refine wm_retVq hC (pc := 41) dX3_clear_41 ?_
      have : (j : Int) * 7 = 56 := by omega
      rw [this]
    · refine wm_aload_nq hC 0 (pc := 8) dX3_clear_8 rfl rfl ?_
      refine wm_iload_nq hC 1 (pc := 9) dX3_clear_9 rfl rfl ?_
      refine wm_iconstq hC (pc := 10) dX3_clear_10 ?_
      refine wm_vVq hC cv_X3_18 kc_X3_setKind hp.1 rfl (s_X3_setKindq hp (by omega)) rfl (by decide) rfl (Nat.le_of_ble_eq_true rfl) (pc := 11) dX3_clear_11 (fun w11 hw11 => ?_)
      subst hw11
      rw [pclr_k]
      refine wm_iconstq hC (pc := 14) dX3_clear_14 ?_
      refine wm_istore_nq hC 2 (pc := 15) dX3_clear_15 rfl (by decide) rfl ?_
      have lp16 : ∀ (n : Nat) (k : Nat), n = 6 - k → k ≤ 6 → Wmq l G K 2 3 (qV (fun w' => w' = pclr w p 56)) 16 [some (mvR p), some (mvI (j : Int)), some (mvI (k : Int))] [] (pclr w p ((j : Int) * 7 + 1 + (k : Int))) := by
        intro n
        induction n using Nat.strongRecOn with
        | _ n ih =>
        intro k hm hk2
        rename_i n0 ih0
        refine wm_iload_nq hC 2 (pc := 16) dX3_clear_16 rfl rfl ?_
        refine wm_bipushq hC (pc := 17) dX3_clear_17 (by decide) ?_
        refine wm_icmp_geq hC 35 (pc := 19) dX3_clear_19 (by decide) (by omega) (by omega) (fun h19 => ?_) (fun h19 => ?_)
        · refine wm_iincq hC (pc := 35) dX3_clear_35 rfl rfl (by decide) rfl ?_
          refine wm_gotoq hC 2 (pc := 38) dX3_clear_38 (by decide) ?_
          have e : (j : Int) * 7 + 1 + (k : Int) = ((j + 1 : Nat) : Int) * 7 := by omega
          rw [e]
          exact ih0 _ (by omega) (j + 1) _ rfl (by omega)
        · refine wm_aload_nq hC 0 (pc := 22) dX3_clear_22 rfl rfl ?_
          refine wm_iload_nq hC 1 (pc := 23) dX3_clear_23 rfl rfl ?_
          refine wm_iload_nq hC 2 (pc := 24) dX3_clear_24 rfl rfl ?_
          refine wm_iconstq hC (pc := 25) dX3_clear_25 ?_
          refine wm_vVq hC cv_X3_22 kc_X3_setTarget hp.1 rfl (s_X3_setTargetq hp (by omega) (by omega)) rfl (by decide) rfl (Nat.le_of_ble_eq_true rfl) (pc := 26) dX3_clear_26 (fun w26 hw26 => ?_)
          subst hw26
          rw [pclr_w w p j k (by omega)]
          refine wm_iincq hC (pc := 29) dX3_clear_29 rfl rfl (by decide) rfl ?_
          refine wm_gotoq hC 16 (pc := 32) dX3_clear_32 (by decide) ?_
          exact ih _ (by omega) (k + 1) rfl (by omega)
      have hh := lp16 _ 0 rfl (by omega)
      rw [show (j : Int) * 7 + 1 + ((0 : Nat) : Int) = (j : Int) * 7 + 1 by omega] at hh
      exact hh
  have hh := lp2 _ 0 none rfl (by omega)
  rw [show (((0 : Nat) : Int) * 7) = 0 from rfl, pclr_0] at hh
  exact hh
theorem planIxq0 : PlanIxq 0 := ⟨rfl, rfl⟩
