/-! ROWS OF THE SMALL MACHINE: fields, arrays, calls -/
abbrev mWK (l : Launch) (G : mG) (K : mK) (d : Nat) (Q : Option mV → mW → Prop) (H : Heap) (locs : List Loc) (g : JFrame) : Prop :=
  W K.1 l K.2.1 (mRX d (mX K)) K.2.2.1 K.2.2.2.1 K.2.2.2.2.1 K.2.2.2.2.2.1 K.2.2.2.2.2.2.1 K.2.2.2.2.2.2.2.1 H locs (mXc K) (mXn K) (MQ K.2.2.2.2.2.1 (mQA G (mXA K) Q) K.2.2.2.2.1 K.2.2.1 (mXc K) (mXn K) (mXA K)) g
def mFl (own : String) (idx ci k : Nat) : Prop := ∃ (C : String) (T : u_T) (N : Nat), vwCl[ci]? = some (C, T, N) ∧ k < N ∧ Cond.fieldLink own idx (T k).1 (T k).2.1 (T k).2.2.1 ∈ mgood ∧ ∀ w ∈ u_ws C T N, w ∈ mgood
def mFp (own : String) (idx ci k : Nat) (ty : FieldType) : Prop := ∃ (C : String) (T : u_T) (N : Nat) (ty0 : Nat → FieldType), vwCl[ci]? = some (C, T, N) ∧ k < N ∧ Cond.fieldLink own idx (T k).1 (T k).2.1 (T k).2.2.1 ∈ mgood ∧ (∀ w ∈ u_ws C T N, w ∈ mgood) ∧ (∀ k, k < N → parseFieldDescriptor (T k).2.2.1 = some (ty0 k)) ∧ (∀ a, a < N → ∀ b, b < N → a ≠ b → (T a).2.1 ≠ (T b).2.1) ∧ (T k).2.2.2 = false ∧ parseFieldDescriptor (T k).2.2.1 = some ty
section MROW3
variable {l : Launch} {G : mG} {K : mK} {d nL : Nat} {own : String} {cc : ByteArray} {ret : Option FieldType} {Q : Option mV → mW → Prop} {pc : Nat} {L : List (Option mV)} {st : List mV} {w : mW}
theorem wm_getv (hC : mC G K nL own cc ret) {idx ci k i : Nat} {fks : List (Option (Option Nat))} {fk : Option (Option Nat)} (hF : mFl own idx ci k) (hi : mlays[i]? = some (.inl (ci, fks))) (hk : fks[k]? = some fk) (hdg : decode cc pc = .ok (.getfield idx, 3)) (h : Wm l G K d nL Q (pc + 3) L (mfv w i k fk :: st) w) : Wm l G K d nL Q pc L (mvR i :: st) w := by
  obtain ⟨C, T, N, hc, hkN, hlink, hin⟩ := hF
  intro H locs ls hP hD hS hh
  refine va_get (D := G.1) (ci := ci) (C := C) (T := T) (N := N) (ref := (T k).1) hC.1 hC.2.1 (Ts := mgood) hC.2.2.2.2.2.2.1 hin hC.2.2.2.2.2.1 hC.2.2.2.2.2.2.2.2.1 hP i (mws_at G w hi) hc k hkN (hC.2.2.2.2.2.2.1 _ hlink) (fun _ h9 => h9) (v := mtr G (mfv w i k fk)) ?_ hdg (h H locs ls hP hD hS hh)
  simp [List.getElem?_mapIdx, hk]
theorem wm_getI (hC : mC G K nL own cc ret) {idx ci k : Nat} (i : Nat) (kz : Int) {fks : List (Option (Option Nat))} (hF : mFl own idx ci k) (hi : mlays[i]? = some (.inl (ci, fks))) (hk : fks[k]? = some none) (hkz : (k : Int) = kz) (hdg : decode cc pc = .ok (.getfield idx, 3)) (h : Wm l G K d nL Q (pc + 3) L (mvI (w i kz) :: st) w) : Wm l G K d nL Q pc L (mvR i :: st) w := by
  subst hkz
  exact wm_getv hC hF hi hk hdg h
theorem wm_getR (hC : mC G K nL own cc ret) {idx ci k i j : Nat} {fks : List (Option (Option Nat))} (hF : mFl own idx ci k) (hi : mlays[i]? = some (.inl (ci, fks))) (hk : fks[k]? = some (some (some j))) (hdg : decode cc pc = .ok (.getfield idx, 3)) (h : Wm l G K d nL Q (pc + 3) L (mvR j :: st) w) : Wm l G K d nL Q pc L (mvR i :: st) w :=
  wm_getv hC hF hi hk hdg h
theorem wm_getD (hC : mC G K nL own cc ret) {idx ci k i : Nat} (kz : Int) (j : Nat) {fks : List (Option (Option Nat))} (hF : mFl own idx ci k) (hi : mlays[i]? = some (.inl (ci, fks))) (hk : fks[k]? = some (some none)) (hkz : (k : Int) = kz) (hj : w i kz = (j : Int)) (hdg : decode cc pc = .ok (.getfield idx, 3)) (h : Wm l G K d nL Q (pc + 3) L (mvR j :: st) w) : Wm l G K d nL Q pc L (mvR i :: st) w := by
  subst hkz
  refine wm_getv hC hF hi hk hdg ?_
  simp only [mfv, hj, Int.toNat_natCast]
  exact h
theorem ment_put (G : mG) (w : mW) (i k : Nat) (ci : Nat) (fks : List (Option (Option Nat))) (fk : Option (Option Nat)) (z : Int) (hk : fks[k]? = some fk) : ment G (mup w i (k : Int) z) i (.inl (ci, fks)) = .inr (ci, (fks.mapIdx fun k q => mtr G (mfv w i k q)).set k (mtr G (mfv (mup w i (k : Int) z) i k fk))) := by
  simp only [ment]
  congr 2
  apply List.ext_getElem?
  intro j
  by_cases hj : j = k
  · subst hj
    have hlt := (List.getElem?_eq_some_iff.mp hk).1
    rw [List.getElem?_set_self (by simpa using hlt)]
    simp [List.getElem?_mapIdx, hk]
  · rw [List.getElem?_set_ne (Ne.symm hj)]
    simp only [List.getElem?_mapIdx]
    cases fks[j]? with
    | none => rfl
    | some q =>
      have hne : ¬ (j : Int) = (k : Int) := by omega
      rcases q with _ | _ | q <;> simp [mfv, mup, hne]
theorem wm_putv (hC : mC G K nL own cc ret) {idx ci k i : Nat} {fks : List (Option (Option Nat))} {fk : Option (Option Nat)} {ty : FieldType} {v : mV} {z : Int} (hF : mFp own idx ci k ty) (hi : mlays[i]? = some (.inl (ci, fks))) (hk : fks[k]? = some fk) (hv : mfv (mup w i (k : Int) z) i k fk = v) (hn : narrow ty (mtr G v) = mtr G v) (hfit : fits ty (mtr G v) = true) (hdg : decode cc pc = .ok (.putfield idx, 3)) (h : Wm l G K d nL Q (pc + 3) L st (mup w i (k : Int) z)) : Wm l G K d nL Q pc L (v :: mvR i :: st) w := by
  obtain ⟨C, T, N, ty0, hc, hkN, hlink, hin, hty, hnm, hfin, hd⟩ := hF
  intro H locs ls hP hD hS hh
  refine va_put (D := G.1) (ci := ci) (C := C) (T := T) (N := N) (ref := (T k).1) hC.1 hC.2.1 (Ts := mgood) hC.2.2.2.2.2.2.1 hin ty0 hty hnm hC.2.2.2.2.2.1 hC.2.2.2.2.2.2.2.2.1 hP hD hS i (mws_at G w hi) hc k hkN (hC.2.2.2.2.2.2.1 _ hlink) (fun _ h9 => h9) hfin hd (v := mtr G v) hn hfit ?_ hdg (fun H1 locs1 hP1 hD1 hS1 => ?_)
  · have := (List.getElem?_eq_some_iff.mp hk).1
    simpa using this
  · have e := mws_set (G := G) (w := w) (w' := mup w i (k : Int) z) hi (ment_put G w i k ci fks fk z hk) (fun j hj => mup_ne hj)
    rw [hv] at e
    rw [e] at hP1 hD1
    exact h H1 locs1 ls hP1 hD1 hS1 hh
theorem wm_putI (hC : mC G K nL own cc ret) {idx ci k : Nat} (i : Nat) (kz : Int) {fks : List (Option (Option Nat))} {z : Int} (hF : mFp own idx ci k .int) (hi : mlays[i]? = some (.inl (ci, fks))) (hk : fks[k]? = some none) (hkz : (k : Int) = kz) (hdg : decode cc pc = .ok (.putfield idx, 3)) (h : Wm l G K d nL Q (pc + 3) L st (mup w i kz z)) : Wm l G K d nL Q pc L (mvI z :: mvR i :: st) w := by
  subst hkz
  exact wm_putv hC hF hi hk (by simp [mfv, mup_at]) rfl rfl hdg h
theorem wm_putD (hC : mC G K nL own cc ret) {idx ci k : Nat} (i : Nat) (kz : Int) {j : Nat} {nm : String} {fks : List (Option (Option Nat))} (hF : mFp own idx ci k (.object nm)) (hi : mlays[i]? = some (.inl (ci, fks))) (hk : fks[k]? = some (some none)) (hkz : (k : Int) = kz) (hdg : decode cc pc = .ok (.putfield idx, 3)) (h : Wm l G K d nL Q (pc + 3) L st (mup w i kz (j : Int))) : Wm l G K d nL Q pc L (mvR j :: mvR i :: st) w := by
  subst hkz
  exact wm_putv hC hF hi hk (by simp [mfv, mup_at]) rfl rfl hdg h
theorem mclamp_cast {z : Int} {n : Nat} (hz : 0 ≤ z ∧ z < n) (hn : n ≤ 1000000) : (((mI z).toNatClampNeg : Nat) : Int) = z := by
  rw [mI_clamp (by omega)]; omega
theorem wm_iaload (hC : mC G K nL own cc ret) {i n : Nat} {z : Int} (hi : mlays[i]? = some (.inr (0, n))) (hz : 0 ≤ z ∧ z < n) (hn : n ≤ 1000000) (hdg : decode cc pc = .ok (.iaload, 1)) (h : Wm l G K d nL Q (pc + 1) L (mvI (w i z) :: st) w) : Wm l G K d nL Q pc L (mvI z :: mvR i :: st) w := by
  intro H locs ls hP hD hS hh
  have key : ∀ u : Int32, u = mI (w i z) → mWK l G K d Q H locs (F0 K.2.2.2.1 (pc + 1) ls (.int u :: st.map (mtr G))) := by rintro _ rfl; exact h H locs ls hP hD hS hh
  exact va_iald hC.1 hC.2.1 hC.2.2.2.2.2.2.2.2.1 hP i 0 (mws_at G w hi) rfl (mI_in hz hn) hdg (key _ (by show mI (w i _) = _; rw [mclamp_cast hz hn]))
theorem wm_baload (hC : mC G K nL own cc ret) {i n : Nat} {z : Int} (hi : mlays[i]? = some (.inr (1, n))) (hz : 0 ≤ z ∧ z < n) (hn : n ≤ 1000000) (hdg : decode cc pc = .ok (.baload, 1)) (h : Wm l G K d nL Q (pc + 1) L (mvI (w i z) :: st) w) : Wm l G K d nL Q pc L (mvI z :: mvR i :: st) w := by
  intro H locs ls hP hD hS hh
  have key : ∀ u : Int32, u = mI (w i z) → mWK l G K d Q H locs (F0 K.2.2.2.1 (pc + 1) ls (.int u :: st.map (mtr G))) := by rintro _ rfl; exact h H locs ls hP hD hS hh
  exact va_zald hC.1 hC.2.1 hC.2.2.2.2.2.2.2.2.1 hP i 1 (mws_at G w hi) rfl (mI_in hz hn) hdg (key _ (by show mI (w i _) = _; rw [mclamp_cast hz hn]))
theorem wm_laload (hC : mC G K nL own cc ret) {i n : Nat} {z : Int} (hi : mlays[i]? = some (.inr (3, n))) (hz : 0 ≤ z ∧ z < n) (hn : n ≤ 1000000) (hdg : decode cc pc = .ok (.laload, 1)) (h : Wm l G K d nL Q (pc + 1) L (mvJ (w i z) :: st) w) : Wm l G K d nL Q pc L (mvI z :: mvR i :: st) w := by
  intro H locs ls hP hD hS hh
  have key : ∀ u : Int64, u = mJ (w i z) → mWK l G K d Q H locs (F0 K.2.2.2.1 (pc + 1) ls (.long u :: st.map (mtr G))) := by rintro _ rfl; exact h H locs ls hP hD hS hh
  exact va_lald hC.1 hC.2.1 hC.2.2.2.2.2.2.2.2.1 hP i 3 (mws_at G w hi) rfl (mI_in hz hn) hdg (key _ (by show mJ (w i _) = _; rw [mclamp_cast hz hn]))
theorem mupd_eq {w : mW} {i n : Nat} {z x : Int} (hz : 0 ≤ z ∧ z < n) (hn : n ≤ 1000000) {u : Int32} (hu : u = mI x) : (fun k : Nat => mI (mup w i z x i (k : Int))) = upd (fun k : Nat => mI (w i (k : Int))) (mI z).toNatClampNeg u := by
  funext k
  have e := mclamp_cast hz hn
  by_cases hk : k = (mI z).toNatClampNeg
  · subst hk
    simp [upd, mup, e, hu]
  · have : ¬ (k : Int) = z := by rw [← e]; omega
    simp [upd, mup, hk, this]
theorem wm_iastore (hC : mC G K nL own cc ret) {i n : Nat} {z x : Int} (hi : mlays[i]? = some (.inr (0, n))) (hz : 0 ≤ z ∧ z < n) (hn : n ≤ 1000000) (hdg : decode cc pc = .ok (.iastore, 1)) (h : Wm l G K d nL Q (pc + 1) L st (mup w i z x)) : Wm l G K d nL Q pc L (mvI x :: mvI z :: mvR i :: st) w := by
  intro H locs ls hP hD hS hh
  refine va_iast hC.1 hC.2.1 hC.2.2.2.2.2.2.2.2.1 hP hD hS i 0 (mws_at G w hi) rfl (mI_in hz hn) hdg (fun H1 locs1 hP1 hD1 hS1 => ?_)
  have e := mws_set (G := G) (w := w) (w' := mup w i z x) hi (e := .inl (mCid G 0, n, .inl (upd (fun k : Nat => mI (w i (k : Int))) (mI z).toNatClampNeg (mI x)))) (by rw [← mupd_eq hz hn rfl]; rfl) (fun j hj => mup_ne hj)
  rw [e] at hP1 hD1
  exact h H1 locs1 ls hP1 hD1 hS1 hh
theorem wm_bastore (hC : mC G K nL own cc ret) {i n : Nat} {z x : Int} (hi : mlays[i]? = some (.inr (1, n))) (hz : 0 ≤ z ∧ z < n) (hn : n ≤ 1000000) (hx : x = 0 ∨ x = 1) (hdg : decode cc pc = .ok (.bastore, 1)) (h : Wm l G K d nL Q (pc + 1) L st (mup w i z x)) : Wm l G K d nL Q pc L (mvI x :: mvI z :: mvR i :: st) w := by
  intro H locs ls hP hD hS hh
  refine va_zast hC.1 hC.2.1 hC.2.2.2.2.2.2.2.2.1 hP hD hS i 1 (mws_at G w hi) rfl (mI_in hz hn) hdg (fun H1 locs1 hP1 hD1 hS1 => ?_)
  have hx' : vp_nar .boolean (mI x) = mI x := by rcases hx with rfl | rfl <;> decide
  have e := mws_set (G := G) (w := w) (w' := mup w i z x) hi (e := .inl (mCid G 1, n, .inl (upd (fun k : Nat => mI (w i (k : Int))) (mI z).toNatClampNeg (vp_nar .boolean (mI x))))) (by rw [← mupd_eq hz hn hx']; rfl) (fun j hj => mup_ne hj)
  rw [e] at hP1 hD1
  exact h H1 locs1 ls hP1 hD1 hS1 hh
theorem wm_lastore (hC : mC G K nL own cc ret) {i n : Nat} {z x : Int} (hi : mlays[i]? = some (.inr (3, n))) (hz : 0 ≤ z ∧ z < n) (hn : n ≤ 1000000) (hdg : decode cc pc = .ok (.lastore, 1)) (h : Wm l G K d nL Q (pc + 1) L st (mup w i z x)) : Wm l G K d nL Q pc L (mvJ x :: mvI z :: mvR i :: st) w := by
  intro H locs ls hP hD hS hh
  refine va_last hC.1 hC.2.1 hC.2.2.2.2.2.2.2.2.1 hP hD hS i 3 (mws_at G w hi) rfl (mI_in hz hn) hdg (fun H1 locs1 hP1 hD1 hS1 => ?_)
  have e0 : (fun k : Nat => mJ (mup w i z x i (k : Int))) = vp_updL (fun k : Nat => mJ (w i (k : Int))) (mI z).toNatClampNeg (mJ x) := by
    funext k
    have e := mclamp_cast hz hn
    by_cases hk : k = (mI z).toNatClampNeg
    · subst hk
      simp [vp_updL, mup, e]
    · have : ¬ (k : Int) = z := by rw [← e]; omega
      simp [vp_updL, mup, hk, this]
  have e := mws_set (G := G) (w := w) (w' := mup w i z x) hi (e := .inl (mCid G 3, n, .inr (.inl (vp_updL (fun k : Nat => mJ (w i (k : Int))) (mI z).toNatClampNeg (mJ x))))) (by rw [← e0]; rfl) (fun j hj => mup_ne hj)
  rw [e] at hP1 hD1
  exact h H1 locs1 ls hP1 hD1 hS1 hh
theorem wm_alen (hC : mC G K nL own cc ret) {i t n : Nat} (nz : Int) (hi : mlays[i]? = some (.inr (t, n))) (ht : (mtys G)[t]? = some (mCid G t, mTy t)) (hnz : (n : Int) = nz) (hdg : decode cc pc = .ok (.arraylength, 1)) (h : Wm l G K d nL Q (pc + 1) L (mvI nz :: st) w) : Wm l G K d nL Q pc L (mvR i :: st) w := by
  subst hnz
  exact fun H locs ls hP hD hS hh => va_alen hC.1 hC.2.1 hC.2.2.2.2.2.2.2.2.1 hP i t (mws_at G w hi) ht rfl hdg (h H locs ls hP hD hS hh)
theorem mfits_all (f : Nat → Int32) : ∀ i, fits .int (.int (f i)) = true := fun _ => rfl
/-- System.arraycopy of numbers -/
theorem wm_copy (hC : mC G K nL own cc ret) {idx i j n0 n1 : Nat} {sp dp n : Int} (hl : Cond.methodLink own idx arraycopyName ∈ mgood) (hnat : Cond.native arraycopyName ∈ mgood) (hstat : Cond.static arraycopyName ∈ mgood) (hini : Cond.initialized "java/lang/System" ∈ mgood) (hi : mlays[i]? = some (.inr (0, n0))) (hj : mlays[j]? = some (.inr (0, n1))) (hb : 0 ≤ sp ∧ 0 ≤ dp ∧ 0 ≤ n ∧ sp + n ≤ n0 ∧ dp + n ≤ n1 ∧ n0 ≤ 1000000 ∧ n1 ≤ 1000000) (hd : 1 ≤ d) (hroom : (st.map mcat).sum ≤ 8) (hdg : decode cc pc = .ok (.invokestatic idx, 3))
    (h : Wm l G K d nL Q (pc + 3) L st (fun a b => if a = j ∧ dp ≤ b ∧ b < dp + n then w i (sp + (b - dp)) else w a b)) : Wm l G K d nL Q pc L (mvI n :: mvI dp :: mvR j :: mvI sp :: mvR i :: st) w := by
  intro H locs ls hP hD hS hh
  have h0 : ∀ z : Int, 0 ≤ z → z ≤ 1000000 → ¬ mI z < 0 := fun z h1 h2 => by rw [← mI_0, mI_lt (by omega) (by omega)]; omega
  have e1 : (mI sp).toNatClampNeg = sp.toNat := mI_clamp (by omega)
  have e2 : (mI dp).toNatClampNeg = dp.toNat := mI_clamp (by omega)
  have e3 : (mI n).toNatClampNeg = n.toNat := mI_clamp (by omega)
  refine va_copyi (ls := ls) hC.1 hC.2.1 (by rw [hC.2.2.1, hh.1]) hC.2.2.2.2.2.1 (hC.2.2.2.2.2.2.1 _ hl) (hC.2.2.2.2.2.2.1 _ hnat) (hC.2.2.2.2.2.2.1 _ hstat) (hC.2.2.2.2.2.2.1 _ hini) hC.2.2.2.2.2.2.2.2.1 hP hD hS i j 0 0 (ty := .int) (mws_at G w hi) (mws_at G w hj) rfl rfl rfl (h0 _ (by omega) (by omega)) (h0 _ (by omega) (by omega)) (h0 _ (by omega) (by omega)) (by rw [e1, e3]; omega) (by rw [e2, e3]; omega) (fun _ _ => rfl) hd ?_ hdg (fun H1 locs1 hP1 hD1 hS1 => ?_)
  · have hr : ((st.map (mtr G)).map fun v => v.category).sum = (st.map mcat).sum := by
      rw [List.map_map]; congr 1; apply List.map_congr_left; intro v _; exact mtr_cat G v
    rw [hr]
    have : nativeFrameWords "java/lang/System" "arraycopy" 5 = 7 := by decide
    rw [this]
    simp only [mRX]; omega
  · have ew : (fun k : Nat => mI ((fun (a : Nat) (b : Int) => if a = j ∧ dp ≤ b ∧ b < dp + n then w i (sp + (b - dp)) else w a b) j (k : Int))) = va_cpy (fun k : Nat => mI (w i (k : Int))) (fun k : Nat => mI (w j (k : Int))) (mI sp).toNatClampNeg (mI dp).toNatClampNeg (mI n).toNatClampNeg := by
      funext k
      rw [e1, e2, e3]
      unfold va_cpy
      by_cases hk : dp.toNat ≤ k ∧ k < dp.toNat + n.toNat
      · have hk' : dp ≤ (k : Int) ∧ (k : Int) < dp + n := by omega
        have ee : sp + ((k : Int) - dp) = ((sp.toNat + (k - dp.toNat) : Nat) : Int) := by omega
        simp only [hk, hk', true_and, and_self, if_true, ee]
      · have hk' : ¬ (dp ≤ (k : Int) ∧ (k : Int) < dp + n) := by omega
        rw [if_neg hk]
        show mI (if j = j ∧ dp ≤ (k : Int) ∧ (k : Int) < dp + n then _ else _) = _
        rw [if_neg (fun q => hk' q.2)]
    have e := mws_set (G := G) (w := w) (w' := fun a b => if a = j ∧ dp ≤ b ∧ b < dp + n then w i (sp + (b - dp)) else w a b) hj (e := .inl (mCid G 0, n1, .inl (va_cpy (fun k : Nat => mI (w i (k : Int))) (fun k : Nat => mI (w j (k : Int))) (mI sp).toNatClampNeg (mI dp).toNatClampNeg (mI n).toNatClampNeg))) (by rw [← ew]; rfl) (fun a ha => by funext b; simp [ha])
    rw [e] at hP1 hD1
    exact h H1 locs1 ls hP1 hD1 hS1 hh
end MROW3
