/-! ROWS OF THE SMALL MACHINE, an instruction each -/
theorem mI_toInt {a : Int} (h : -2147483648 ≤ a ∧ a < 2147483648) : (mI a).toInt = a := Int32.toInt_ofInt_of_le (by omega) (by omega)
theorem mI_add (a b : Int) : mI a + mI b = mI (a + b) := (Int32.ofInt_add a b).symm
theorem mI_sub (a b : Int) : mI a - mI b = mI (a - b) := (Int32.ofInt_sub a b).symm
theorem mI_mul (a b : Int) : mI a * mI b = mI (a * b) := (Int32.ofInt_mul a b).symm
theorem mI_of (x : Int32) : ∃ z : Int, (-2147483648 ≤ z ∧ z < 2147483648) ∧ x = mI z := ⟨x.toInt, ⟨by have := x.le_toInt; omega, by have := x.toInt_lt; omega⟩, (Int32.ofInt_toInt x).symm⟩
theorem mI_lt {a b : Int} (ha : -2147483648 ≤ a ∧ a < 2147483648) (hb : -2147483648 ≤ b ∧ b < 2147483648) : mI a < mI b ↔ a < b := by rw [Int32.lt_iff_toInt_lt, mI_toInt ha, mI_toInt hb]
theorem mI_le {a b : Int} (ha : -2147483648 ≤ a ∧ a < 2147483648) (hb : -2147483648 ≤ b ∧ b < 2147483648) : mI a ≤ mI b ↔ a ≤ b := by rw [Int32.le_iff_toInt_le, mI_toInt ha, mI_toInt hb]
theorem mI_eq {a b : Int} (ha : -2147483648 ≤ a ∧ a < 2147483648) (hb : -2147483648 ≤ b ∧ b < 2147483648) : mI a = mI b ↔ a = b := by rw [← Int32.toInt_inj, mI_toInt ha, mI_toInt hb]
theorem mI_0 : mI 0 = 0 := rfl
theorem mI_clamp {a : Int} (h : 0 ≤ a ∧ a < 2147483648) : (mI a).toNatClampNeg = a.toNat := Int32.toNatClampNeg_ofInt_of_le (by omega) (by omega)
theorem mI_in {a : Int} {n : Nat} (h : 0 ≤ a ∧ a < n) (hn : n ≤ 1000000) : vp_in (mI a) n := by
  unfold vp_in
  rw [mI_clamp (by omega), ← mI_0, mI_lt (by omega) (by omega)]
  omega
theorem mI_nI (n : Nat) : mI (n : Int) = Int32.ofNat n := rfl
theorem mJ_toInt {a : Int} (h : -9223372036854775808 ≤ a ∧ a < 9223372036854775808) : (mJ a).toInt = a := Int64.toInt_ofInt_of_le (by omega) (by omega)
theorem mJ_add (a b : Int) : mJ a + mJ b = mJ (a + b) := (Int64.ofInt_add a b).symm
def mok (L : List (Option mV)) : Nat → Bool
  | 0 => true
  | i + 1 => match L[i]? with
    | some (some (Sum.inr (Sum.inl _))) => false
    | _ => true
section MROW
variable {l : Launch} {G : mG} {K : mK} {d nL : Nat} {own : String} {cc : ByteArray} {ret : Option FieldType} {Q : Option mV → mW → Prop} {pc : Nat} {L : List (Option mV)} {st : List mV} {w : mW}
/-- the pairs of the locals, as lv_ rows list them -/
def mprs (G : mG) (L : List (Option mV)) : List (Nat × Value) := (List.range L.length).filterMap fun i => (L[i]?.join).map fun v => (i, mtr G v)
theorem mprs_mem {i : Nat} {v : mV} (h : L[i]? = some (some v)) : (i, mtr G v) ∈ mprs G L := by
  refine List.mem_filterMap.mpr ⟨i, List.mem_range.mpr (List.getElem?_eq_some_iff.mp h).1, ?_⟩
  simp [h]
theorem mprs_of {q : Nat × Value} (h : q ∈ mprs G L) : ∃ v, L[q.1]? = some (some v) ∧ q.2 = mtr G v := by
  obtain ⟨i, -, hi⟩ := List.mem_filterMap.mp h
  simp only [Option.map_eq_some_iff, Option.join_eq_some_iff] at hi
  obtain ⟨v, h1, rfl⟩ := hi
  exact ⟨v, h1, rfl⟩
theorem mhas_lv {ls : Array Slot} (h : mhas G ls nL L) : lv_has ls nL (mprs G L) := by
  refine ⟨h.1, h.2.1, fun q hq => ?_⟩
  obtain ⟨v, h1, h2⟩ := mprs_of hq
  rw [h2]; exact h.2.2.2 _ _ h1
theorem mok_spec {i j : Nat} {u : mV} (h : mok L i = true) (hj : j + 1 = i) (hu : L[j]? = some (some u)) : mcat u ≠ 2 := by
  subst hj
  simp only [mok, hu] at h
  rcases u with z | z | z <;> simp_all [mcat]
theorem mhas_set {ls : Array Slot} {i : Nat} {v : mV} (hlen : L.length = nL) (hok : mok L i = true) (h : lv_has ls nL ((i, mtr G v) :: (mprs G L).filter (fun q => !(q.1 == i) && !(q.1 + 1 == i && q.2.category == 2)))) : mhas G ls nL (L.set i (some v)) := by
  refine ⟨h.1, h.2.1, by simpa using hlen, fun j u hj => ?_⟩
  by_cases hji : j = i
  · subst hji
    have hlt : j < L.length := by have := (List.getElem?_eq_some_iff.mp hj).1; simpa using this
    rw [List.getElem?_set_self hlt] at hj
    cases hj
    exact h.2.2 _ List.mem_cons_self
  · rw [List.getElem?_set_ne (Ne.symm hji)] at hj
    refine h.2.2 (j, mtr G u) (List.mem_cons_of_mem _ (List.mem_filter.mpr ⟨mprs_mem hj, ?_⟩))
    have hc : j + 1 = i → mcat u ≠ 2 := fun e => mok_spec hok e hj
    simp only [mtr_cat, Bool.and_eq_true, Bool.not_eq_true', beq_eq_false_iff_ne, ne_eq, Bool.and_eq_false_iff]
    refine ⟨hji, ?_⟩
    by_cases e : j + 1 = i
    · exact Or.inr (hc e)
    · exact Or.inl e
theorem mhas_set2 {ls : Array Slot} {i : Nat} {v : mV} (hlen : L.length = nL) (hok : mok L i = true) (h : lv_has ls nL ((i, mtr G v) :: (mprs G L).filter (fun q => !(q.1 == i) && (!(q.1 == i + 1) && !(q.1 + 1 == i && q.2.category == 2))))) : mhas G ls nL ((L.set i (some v)).set (i + 1) none) := by
  refine ⟨h.1, h.2.1, by simpa using hlen, fun j u hj => ?_⟩
  by_cases hj1 : j = i + 1
  · subst hj1
    have hlt : i + 1 < L.length := by have := (List.getElem?_eq_some_iff.mp hj).1; simpa using this
    rw [List.getElem?_set_self (by simpa using hlt)] at hj
    cases hj
  rw [List.getElem?_set_ne (Ne.symm hj1)] at hj
  by_cases hji : j = i
  · subst hji
    have hlt : j < L.length := by have := (List.getElem?_eq_some_iff.mp hj).1; simpa using this
    rw [List.getElem?_set_self hlt] at hj
    cases hj
    exact h.2.2 _ List.mem_cons_self
  · rw [List.getElem?_set_ne (Ne.symm hji)] at hj
    refine h.2.2 (j, mtr G u) (List.mem_cons_of_mem _ (List.mem_filter.mpr ⟨mprs_mem hj, ?_⟩))
    have hc : j + 1 = i → mcat u ≠ 2 := fun e => mok_spec hok e hj
    simp only [mtr_cat, Bool.and_eq_true, Bool.not_eq_true', beq_eq_false_iff_ne, ne_eq, Bool.and_eq_false_iff]
    refine ⟨hji, hj1, ?_⟩
    by_cases e : j + 1 = i
    · exact Or.inr (hc e)
    · exact Or.inl e
theorem wm_show {pc' : Nat} {L' : List (Option mV)} {st' : List mV} {w' : mW} (h1 : pc = pc') (h2 : L = L') (h3 : st = st') (h4 : w = w') (h : Wm l G K d nL Q pc' L' st' w') : Wm l G K d nL Q pc L st w := by
  subst h1; subst h2; subst h3; subst h4; exact h
theorem wm_iload_n (hC : mC G K nL own cc ret) {k : Fin 4} (i : Nat) {z : Int} (hdg : decode cc pc = .ok (.iload_n k, 1)) (hi : (k : Nat) = i) (hl : L[i]? = some (some (mvI z))) (h : Wm l G K d nL Q (pc + 1) L (mvI z :: st) w) : Wm l G K d nL Q pc L st w :=
  fun H locs ls hP hD hS hh => lv_iload_n hC.1 hC.2.1 hdg hi (hh.2.2.2 _ _ hl) (h H locs ls hP hD hS hh)
theorem wm_iload (hC : mC G K nL own cc ret) {i : Nat} {z : Int} (hdg : decode cc pc = .ok (.iload i, 2)) (hl : L[i]? = some (some (mvI z))) (h : Wm l G K d nL Q (pc + 2) L (mvI z :: st) w) : Wm l G K d nL Q pc L st w :=
  fun H locs ls hP hD hS hh => lv_iload hC.1 hC.2.1 hdg (hh.2.2.2 _ _ hl) (h H locs ls hP hD hS hh)
theorem wm_lload_n (hC : mC G K nL own cc ret) {k : Fin 4} (i : Nat) {z : Int} (hdg : decode cc pc = .ok (.lload_n k, 1)) (hi : (k : Nat) = i) (hl : L[i]? = some (some (mvJ z))) (h : Wm l G K d nL Q (pc + 1) L (mvJ z :: st) w) : Wm l G K d nL Q pc L st w :=
  fun H locs ls hP hD hS hh => lv_lload_n hC.1 hC.2.1 hdg hi (hh.2.2.2 _ _ hl) (h H locs ls hP hD hS hh)
theorem wm_lload (hC : mC G K nL own cc ret) {i : Nat} {z : Int} (hdg : decode cc pc = .ok (.lload i, 2)) (hl : L[i]? = some (some (mvJ z))) (h : Wm l G K d nL Q (pc + 2) L (mvJ z :: st) w) : Wm l G K d nL Q pc L st w :=
  fun H locs ls hP hD hS hh => lv_lload hC.1 hC.2.1 hdg (hh.2.2.2 _ _ hl) (h H locs ls hP hD hS hh)
theorem wm_aload_n (hC : mC G K nL own cc ret) {k : Fin 4} (i : Nat) {z : Nat} (hdg : decode cc pc = .ok (.aload_n k, 1)) (hi : (k : Nat) = i) (hl : L[i]? = some (some (mvR z))) (h : Wm l G K d nL Q (pc + 1) L (mvR z :: st) w) : Wm l G K d nL Q pc L st w :=
  fun H locs ls hP hD hS hh => lv_aload_n hC.1 hC.2.1 hdg hi (hh.2.2.2 _ _ hl) (h H locs ls hP hD hS hh)
theorem wm_aload (hC : mC G K nL own cc ret) {i : Nat} {z : Nat} (hdg : decode cc pc = .ok (.aload i, 2)) (hl : L[i]? = some (some (mvR z))) (h : Wm l G K d nL Q (pc + 2) L (mvR z :: st) w) : Wm l G K d nL Q pc L st w :=
  fun H locs ls hP hD hS hh => lv_aload hC.1 hC.2.1 hdg (hh.2.2.2 _ _ hl) (h H locs ls hP hD hS hh)
theorem wm_istore_n (hC : mC G K nL own cc ret) {k : Fin 4} (i : Nat) {z : Int} (hdg : decode cc pc = .ok (.istore_n k, 1)) (hi : (k : Nat) = i) (hn : i < nL) (hok : mok L i = true) (h : Wm l G K d nL Q (pc + 1) (L.set i (some (mvI z))) st w) : Wm l G K d nL Q pc L (mvI z :: st) w :=
  fun H locs ls hP hD hS hh => lv_istore_n hC.1 hC.2.1 hdg hi (mhas_lv hh) hn rfl (fun ls' hl' => h H locs ls' hP hD hS (mhas_set hh.2.2.1 hok hl'))
theorem wm_istore (hC : mC G K nL own cc ret) {i : Nat} {z : Int} (hdg : decode cc pc = .ok (.istore i, 2)) (hn : i < nL) (hok : mok L i = true) (h : Wm l G K d nL Q (pc + 2) (L.set i (some (mvI z))) st w) : Wm l G K d nL Q pc L (mvI z :: st) w :=
  fun H locs ls hP hD hS hh => lv_istore hC.1 hC.2.1 hdg (mhas_lv hh) hn rfl (fun ls' hl' => h H locs ls' hP hD hS (mhas_set hh.2.2.1 hok hl'))
theorem wm_lstore_n (hC : mC G K nL own cc ret) {k : Fin 4} (i : Nat) {z : Int} (hdg : decode cc pc = .ok (.lstore_n k, 1)) (hi : (k : Nat) = i) (hn : i + 1 < nL) (hok : mok L i = true) (h : Wm l G K d nL Q (pc + 1) ((L.set i (some (mvJ z))).set (i + 1) none) st w) : Wm l G K d nL Q pc L (mvJ z :: st) w :=
  fun H locs ls hP hD hS hh => lv_lstore_n hC.1 hC.2.1 hdg hi (mhas_lv hh) hn rfl (fun ls' hl' => h H locs ls' hP hD hS (mhas_set2 hh.2.2.1 hok hl'))
theorem wm_lstore (hC : mC G K nL own cc ret) {i : Nat} {z : Int} (hdg : decode cc pc = .ok (.lstore i, 2)) (hn : i + 1 < nL) (hok : mok L i = true) (h : Wm l G K d nL Q (pc + 2) ((L.set i (some (mvJ z))).set (i + 1) none) st w) : Wm l G K d nL Q pc L (mvJ z :: st) w :=
  fun H locs ls hP hD hS hh => lv_lstore hC.1 hC.2.1 hdg (mhas_lv hh) hn rfl (fun ls' hl' => h H locs ls' hP hD hS (mhas_set2 hh.2.2.1 hok hl'))
theorem wm_astore_n (hC : mC G K nL own cc ret) {k : Fin 4} (i : Nat) {z : Nat} (hdg : decode cc pc = .ok (.astore_n k, 1)) (hi : (k : Nat) = i) (hn : i < nL) (hok : mok L i = true) (h : Wm l G K d nL Q (pc + 1) (L.set i (some (mvR z))) st w) : Wm l G K d nL Q pc L (mvR z :: st) w :=
  fun H locs ls hP hD hS hh => lv_astore_n hC.1 hC.2.1 hdg hi (mhas_lv hh) hn rfl (fun ls' hl' => h H locs ls' hP hD hS (mhas_set hh.2.2.1 hok hl'))
theorem wm_astore (hC : mC G K nL own cc ret) {i : Nat} {z : Nat} (hdg : decode cc pc = .ok (.astore i, 2)) (hn : i < nL) (hok : mok L i = true) (h : Wm l G K d nL Q (pc + 2) (L.set i (some (mvR z))) st w) : Wm l G K d nL Q pc L (mvR z :: st) w :=
  fun H locs ls hP hD hS hh => lv_astore hC.1 hC.2.1 hdg (mhas_lv hh) hn rfl (fun ls' hl' => h H locs ls' hP hD hS (mhas_set hh.2.2.1 hok hl'))
theorem wm_iinc (hC : mC G K nL own cc ret) {i : Nat} {n z v : Int} (hdg : decode cc pc = .ok (.iinc i n, 3)) (hl : L[i]? = some (some (mvI z))) (hv : z + n = v) (hn : i < nL) (hok : mok L i = true) (h : Wm l G K d nL Q (pc + 3) (L.set i (some (mvI v))) st w) : Wm l G K d nL Q pc L st w := by
  intro H locs ls hP hD hS hh
  obtain ⟨k, hk⟩ := List.getElem?_of_mem (mprs_mem (G := G) hl)
  exact lv_iinc (v := mI v) hC.1 hC.2.1 hdg (mhas_lv hh) hk (by rw [← hv]; exact mI_add z n) hn rfl (fun ls' hl' => h H locs ls' hP hD hS (mhas_set hh.2.2.1 hok hl'))
theorem wm_iconst (hC : mC G K nL own cc ret) {n : Int} (hdg : decode cc pc = .ok (.iconst n, 1)) (h : Wm l G K d nL Q (pc + 1) L (mvI n :: st) w) : Wm l G K d nL Q pc L st w :=
  fun H locs ls hP hD hS hh => lv_iconst (v := mI n) hC.1 hC.2.1 hdg rfl (h H locs ls hP hD hS hh)
theorem wm_bipush (hC : mC G K nL own cc ret) {n : Int} (hdg : decode cc pc = .ok (.bipush n, 2)) (hv : (Int8.ofInt n).toInt32 = mI n) (h : Wm l G K d nL Q (pc + 2) L (mvI n :: st) w) : Wm l G K d nL Q pc L st w :=
  fun H locs ls hP hD hS hh => lv_bipush (v := mI n) hC.1 hC.2.1 hdg hv (h H locs ls hP hD hS hh)
theorem wm_sipush (hC : mC G K nL own cc ret) {n : Int} (hdg : decode cc pc = .ok (.sipush n, 3)) (hv : (Int16.ofInt n).toInt32 = mI n) (h : Wm l G K d nL Q (pc + 3) L (mvI n :: st) w) : Wm l G K d nL Q pc L st w :=
  fun H locs ls hP hD hS hh => lv_sipush (v := mI n) hC.1 hC.2.1 hdg hv (h H locs ls hP hD hS hh)
theorem wm_lconst (hC : mC G K nL own cc ret) {n : Fin 2} (z : Int) (hdg : decode cc pc = .ok (.lconst n, 1)) (hv : Int64.ofNat (n : Nat) = mJ z) (h : Wm l G K d nL Q (pc + 1) L (mvJ z :: st) w) : Wm l G K d nL Q pc L st w :=
  fun H locs ls hP hD hS hh => lv_lconst (v := mJ z) hC.1 hC.2.1 hdg hv (h H locs ls hP hD hS hh)
theorem wm_ldc (hC : mC G K nL own cc ret) {index : Nat} (z : Int) (hw : Cond.constant own index (mI z) ∈ mgood) (hdg : decode cc pc = .ok (.ldc index, 2)) (h : Wm l G K d nL Q (pc + 2) L (mvI z :: st) w) : Wm l G K d nL Q pc L st w :=
  fun H locs ls hP hD hS hh => lv_ldc (v := mI z) hC.1 hC.2.1 hC.2.2.2.2.2.1 (hC.2.2.2.2.2.2.1 _ hw) hdg (h H locs ls hP hD hS hh)
theorem wm_ldcw (hC : mC G K nL own cc ret) {index : Nat} (z : Int) (hw : Cond.constant own index (mI z) ∈ mgood) (hdg : decode cc pc = .ok (.ldc_w index, 3)) (h : Wm l G K d nL Q (pc + 3) L (mvI z :: st) w) : Wm l G K d nL Q pc L st w :=
  fun H locs ls hP hD hS hh => lv_ldcw (v := mI z) hC.1 hC.2.1 hC.2.2.2.2.2.1 (hC.2.2.2.2.2.2.1 _ hw) hdg (h H locs ls hP hD hS hh)
theorem wm_ldc2 (hC : mC G K nL own cc ret) {index : Nat} (z : Int) (hw : Cond.constantLong own index (mJ z) ∈ mgood) (hdg : decode cc pc = .ok (.ldc2_w index, 3)) (h : Wm l G K d nL Q (pc + 3) L (mvJ z :: st) w) : Wm l G K d nL Q pc L st w :=
  fun H locs ls hP hD hS hh => lv_ldc2 (v := mJ z) hC.1 hC.2.1 hC.2.2.2.2.2.1 (hC.2.2.2.2.2.2.1 _ hw) hdg (h H locs ls hP hD hS hh)
theorem wm_dup (hC : mC G K nL own cc ret) {v : mV} (hdg : decode cc pc = .ok (.dup, 1)) (hv : mcat v = 1) (h : Wm l G K d nL Q (pc + 1) L (v :: v :: st) w) : Wm l G K d nL Q pc L (v :: st) w :=
  fun H locs ls hP hD hS hh => lv_dup hC.1 hC.2.1 hdg (by rw [mtr_cat]; exact hv) (h H locs ls hP hD hS hh)
theorem wm_dup2 (hC : mC G K nL own cc ret) {v u : mV} (hdg : decode cc pc = .ok (.dup2, 1)) (hv : mcat v = 1) (hu : mcat u = 1) (h : Wm l G K d nL Q (pc + 1) L (v :: u :: v :: u :: st) w) : Wm l G K d nL Q pc L (v :: u :: st) w :=
  fun H locs ls hP hD hS hh => lv_dup2_11 hC.1 hC.2.1 hdg (by rw [mtr_cat]; exact hv) (by rw [mtr_cat]; exact hu) (h H locs ls hP hD hS hh)
theorem wm_iadd (hC : mC G K nL own cc ret) {x y : Int} (hdg : decode cc pc = .ok (.iadd, 1)) (h : Wm l G K d nL Q (pc + 1) L (mvI (x + y) :: st) w) : Wm l G K d nL Q pc L (mvI y :: mvI x :: st) w :=
  fun H locs ls hP hD hS hh => lv_iadd hC.1 hC.2.1 hdg (by rw [mI_add]; exact h H locs ls hP hD hS hh)
theorem wm_isub (hC : mC G K nL own cc ret) {x y : Int} (hdg : decode cc pc = .ok (.isub, 1)) (h : Wm l G K d nL Q (pc + 1) L (mvI (x - y) :: st) w) : Wm l G K d nL Q pc L (mvI y :: mvI x :: st) w :=
  fun H locs ls hP hD hS hh => lv_isub hC.1 hC.2.1 hdg (by rw [mI_sub]; exact h H locs ls hP hD hS hh)
theorem wm_imul (hC : mC G K nL own cc ret) {x y : Int} (hdg : decode cc pc = .ok (.imul, 1)) (h : Wm l G K d nL Q (pc + 1) L (mvI (x * y) :: st) w) : Wm l G K d nL Q pc L (mvI y :: mvI x :: st) w :=
  fun H locs ls hP hD hS hh => lv_imul hC.1 hC.2.1 hdg (by rw [mI_mul]; exact h H locs ls hP hD hS hh)
theorem wm_ladd (hC : mC G K nL own cc ret) {x y : Int} (hdg : decode cc pc = .ok (.ladd, 1)) (h : Wm l G K d nL Q (pc + 1) L (mvJ (x + y) :: st) w) : Wm l G K d nL Q pc L (mvJ y :: mvJ x :: st) w :=
  fun H locs ls hP hD hS hh => lv_ladd hC.1 hC.2.1 hdg (by rw [mJ_add]; exact h H locs ls hP hD hS hh)
theorem wm_goto (hC : mC G K nL own cc ret) {off : Int} (tgt : Nat) (hdg : decode cc pc = .ok (.goto off, 3)) (ht : (pc : Int) + off = (tgt : Int)) (h : Wm l G K d nL Q tgt L st w) : Wm l G K d nL Q pc L st w :=
  fun H locs ls hP hD hS hh => lv_goto hC.1 hC.2.1 hdg ht (h H locs ls hP hD hS hh)
end MROW
