/-! THE SMALL MACHINE: one world of 31 cells (one object of the class), its numbers as integers; 'Wm' says W over it -/
abbrev mV : Type := Int ⊕ (Int ⊕ Nat)
abbrev mvI (z : Int) : mV := Sum.inl z
abbrev mvJ (z : Int) : mV := Sum.inr (Sum.inl z)
abbrev mvR (i : Nat) : mV := Sum.inr (Sum.inr i)
def mI (z : Int) : Int32 := Int32.ofInt z
def mJ (z : Int) : Int64 := Int64.ofInt z
abbrev mW : Type := Nat → Int → Int
abbrev mLay : Type := (Nat × List (Option (Option Nat))) ⊕ (Nat × Nat)
/-- classes, addresses, array classes, further cells of the world -/
abbrev mG : Type := va_G × (Nat → Nat) × (ClassId × ClassId × ClassId × ClassId × List mLay)
/-- room of cells and slots, locals to spare, cells and slots made, what may change -/
abbrev mXx : Type := Nat × Nat × Nat × Nat × Nat × (Nat → Prop)
abbrev mK : Type := Program × Env × State × MethodId × Array Value × List Frame × Method × Code × mXx
abbrev mX (K : mK) : mXx := K.2.2.2.2.2.2.2.2
abbrev mXc (K : mK) : Nat := (mX K).2.2.2.1
abbrev mXn (K : mK) : Nat := (mX K).2.2.2.2.1
abbrev mXA (K : mK) : Nat → Prop := (mX K).2.2.2.2.2
def mtr (G : mG) : mV → Value
  | Sum.inl z => .int (mI z)
  | Sum.inr (Sum.inl z) => .long (mJ z)
  | Sum.inr (Sum.inr i) => .ref (G.2.1 i)
def mcat : mV → Nat
  | Sum.inr (Sum.inl _) => 2
  | _ => 1
theorem mtr_cat (G : mG) (v : mV) : (mtr G v).category = mcat v := by
  rcases v with z | z | i <;> rfl
/-- a field's value: a number, a fixed cell, or a cell by its number -/
def mfv (w : mW) (i : Nat) (k : Nat) : Option (Option Nat) → mV
  | none => mvI (w i (k : Int))
  | some (some j) => mvR j
  | some none => mvR (w i (k : Int)).toNat
def mCid (G : mG) : Nat → ClassId
  | 0 => G.2.2.1
  | 1 => G.2.2.2.1
  | 2 => G.2.2.2.2.1
  | _ => G.2.2.2.2.2.1
def mTy : Nat → FieldType
  | 0 => .int
  | 1 => .boolean
  | 2 => .int
  | _ => .long
def mtys (G : mG) : List (ClassId × FieldType) := [(mCid G 0, .int), (mCid G 1, .boolean), (mCid G 2, .int), (mCid G 3, .long)]
def mcont (r : Nat → Int) : Nat → ((Nat → Int32) ⊕ (Nat → Int64) ⊕ (Nat → UInt32) ⊕ (Nat → UInt64) ⊕ (Nat → Option Nat))
  | 3 => .inr (.inl fun k => mJ (r k))
  | _ => .inl fun k => mI (r k)
def ment (G : mG) (w : mW) (i : Nat) : mLay → va_E
  | Sum.inl o => .inr (o.1, o.2.mapIdx fun k q => mtr G (mfv w i k q))
  | Sum.inr a => .inl (mCid G a.1, a.2, mcont (fun k => w i (k : Int)) a.1)
abbrev sS (j : Nat) : Option (Option Nat) := some (some j)
def mlays : List mLay := [
  .inl (7, [sS 1, sS 3, sS 5, sS 7, sS 9, sS 13, sS 15, sS 21, sS 25]),
  .inl (2, [sS 2]), .inr (0, 56), .inl (2, [sS 4]), .inr (0, 56), .inl (2, [sS 6]), .inr (0, 56),
  .inl (0, [sS 8, none]), .inr (0, 672),
  .inl (3, [sS 10, none, sS 11, none, none, none, none]), .inr (0, 80), .inl (2, [sS 12]), .inr (0, 56),
  .inl (1, [sS 14]), .inr (1, 64),
  .inl (6, [sS 16, sS 17, sS 18, sS 19, sS 20, some none, some none, none]), .inr (0, 64), .inr (0, 64), .inr (0, 64), .inr (0, 64), .inr (0, 64),
  .inl (4, [sS 22, sS 23, sS 24, none]), .inr (0, 64), .inr (3, 64), .inr (0, 64),
  .inl (5, [sS 26, sS 27, sS 28, sS 29, sS 30, some none, some none, none]), .inr (0, 64), .inr (0, 64), .inr (0, 64), .inr (0, 64), .inr (0, 64)]
theorem mlays_len : mlays.length = 31 := rfl
abbrev mext (G : mG) : List mLay := G.2.2.2.2.2.2
def mlaysG (G : mG) : List mLay := mlays ++ mext G
theorem mlaysG_of {G : mG} {i : Nat} {q : mLay} (h : mlays[i]? = some q) : (mlaysG G)[i]? = some q := by
  unfold mlaysG
  rw [List.getElem?_append_left (List.getElem?_eq_some_iff.mp h).1]; exact h
def mws (G : mG) (w : mW) : va_W := (mlaysG G).mapIdx fun i q => (G.2.1 i, ment G w i q)
theorem mws_atG (G : mG) (w : mW) {i : Nat} {q : mLay} (h : (mlaysG G)[i]? = some q) : (mws G w)[i]? = some (G.2.1 i, ment G w i q) := by
  simp [mws, List.getElem?_mapIdx, h]
theorem mws_at (G : mG) (w : mW) {i : Nat} {q : mLay} (h : mlays[i]? = some q) : (mws G w)[i]? = some (G.2.1 i, ment G w i q) := mws_atG G w (mlaysG_of h)
theorem mws_of {G : mG} {w : mW} {i : Nat} {x : Nat × va_E} (h : (mws G w)[i]? = some x) : ∃ q, (mlaysG G)[i]? = some q ∧ x = (G.2.1 i, ment G w i q) := by
  simp only [mws, List.getElem?_mapIdx, Option.map_eq_some_iff] at h
  obtain ⟨q, h1, h2⟩ := h
  exact ⟨q, h1, h2.symm⟩
theorem mfv_congr {w w' : mW} {i : Nat} (h : w' i = w i) (k : Nat) (q : Option (Option Nat)) : mfv w' i k q = mfv w i k q := by
  rcases q with _ | _ | j <;> simp [mfv, h]
theorem ment_congr (G : mG) {w w' : mW} {i : Nat} (h : w' i = w i) (q : mLay) : ment G w' i q = ment G w i q := by
  rcases q with o | a
  · simp only [ment, mfv_congr h]
  · simp only [ment, h]
theorem mws_setG {G : mG} {w w' : mW} {i : Nat} {q : mLay} (h : (mlaysG G)[i]? = some q) {e : va_E} (he : ment G w' i q = e) (hne : ∀ j, j ≠ i → w' j = w j) : (mws G w).set i (G.2.1 i, e) = mws G w' := by
  have hi : i < (mlaysG G).length := (List.getElem?_eq_some_iff.mp h).1
  apply List.ext_getElem?
  intro j
  by_cases hj : j = i
  · subst hj
    rw [List.getElem?_set_self (by simpa [mws] using hi), mws_atG G w' h, he]
  · rw [List.getElem?_set_ne (Ne.symm hj)]
    simp only [mws, List.getElem?_mapIdx]
    cases (mlaysG G)[j]? with
    | none => rfl
    | some q' => simp [ment_congr G (hne j hj) q']
theorem mws_set {G : mG} {w w' : mW} {i : Nat} {q : mLay} (h : mlays[i]? = some q) {e : va_E} (he : ment G w' i q = e) (hne : ∀ j, j ≠ i → w' j = w j) : (mws G w).set i (G.2.1 i, e) = mws G w' := mws_setG (mlaysG_of h) he hne
def mA (G : mG) : Nat → Prop := fun q => ∃ i, i < (mlaysG G).length ∧ q = G.2.1 i
theorem mD_same {G : mG} {w w' : mW} {B : Nat → Prop} (h : va_D B (mws G w)) : va_D B (mws G w') := by
  refine ⟨fun i j p q hi hj hpq => ?_, fun k q hk => ?_⟩
  · obtain ⟨qi, hi1, rfl⟩ := mws_of hi
    obtain ⟨qj, hj1, rfl⟩ := mws_of hj
    exact h.1 i j _ _ (mws_atG G w hi1) (mws_atG G w hj1) hpq
  · obtain ⟨qk, hk1, rfl⟩ := mws_of hk
    exact h.2 k (G.2.1 k, ment G w k qk) (mws_atG G w hk1)
theorem mD_any {G : mG} {w w' : mW} {B : Nat → Prop} (h : va_D B (mws G w)) : va_D (mA G) (mws G w') := by
  refine ⟨(mD_same (w' := w') h).1, fun k q hk => ?_⟩
  obtain ⟨qk, hk1, rfl⟩ := mws_of hk
  exact ⟨k, (List.getElem?_eq_some_iff.mp hk1).1, rfl⟩
theorem mD_true {G : mG} {w w' : mW} {B : Nat → Prop} (h : va_D B (mws G w)) : va_D (fun _ => True) (mws G w') := (mD_any (w' := w') h).weaken (fun _ _ _ _ => trivial)
def mup (w : mW) (i : Nat) (k v : Int) : mW := fun a b => if a = i ∧ b = k then v else w a b
theorem mup_ne {w : mW} {i : Nat} {k v : Int} {j : Nat} (h : j ≠ i) : mup w i k v j = w j := by
  funext b; simp [mup, h]
theorem mup_at {w : mW} {i : Nat} {k v : Int} : mup w i k v i k = v := by simp [mup]
theorem mup_get (w : mW) (i : Nat) (k v : Int) (a : Nat) (b : Int) : mup w i k v a b = if a = i ∧ b = k then v else w a b := rfl
/-- words -/
def misN : Cond → Bool
  | .methodLinkNest .. => true
  | .declares _ => true
  | _ => false
/-- a private method of the abstract class, called on an object of a class below it -/
def mextra : List Cond := [yX2_add, yX2_pairBehind, yX2_firstLackedWord, yX2_wordOfRow].flatMap fun y => [Cond.selects RX6 y y, Cond.selects RX7 y y]
theorem mm_selP {y : MethodName} {C : String} {n : Nat} {s : State} {args : Array Value} (hins : (Cond.instantiable C n).before args s = true) (hsame : (Cond.sameMethod y.cls y.cls y.name y.desc).before args s = true) (hpriv : (Cond.privateMethod y).before args s = true) (hinst : (Cond.instanceMethod y).before args s = true) : (Cond.selects C y y).before args s = true := by
  obtain ⟨c, k, hc, hk, -, -, -, -⟩ := Cond.instantiable_spec hins
  obtain ⟨mk, methM, hnamed, hmethM, -, -⟩ := Cond.instanceMethod_spec hinst
  obtain ⟨cn, ck, r1, hcn, hck, hni, hf, hn1⟩ := Cond.sameMethod_found hsame
  have hn1' : s.methodNamed? y = some r1 := hn1
  cases hnamed.symm.trans hn1'
  have hcls : mk.cls = cn := Option.some.inj ((findClass_of_methodNamed hnamed).symm.trans hcn)
  have hsel : selectMethod {} s.vm c mk = .method mk := selectMethod_private hmethM (Cond.privateMethod_at hpriv mk methM hnamed hmethM)
  simp only [Cond.before, Cond.holds, Cond.value, hc, hf, hnamed, hsel, hcls, hck]
  simp; exact hni
def mtbl : List Cond := mextra ++ lw_tbl
theorem mtbl_ok {s : State} {args : Array Value} (hts : ∀ w ∈ lw_tbl, w.before args s = true) : ∀ w ∈ mtbl, w.before args s = true := by
  intro w hw
  rcases List.mem_append.mp hw with h | h
  · have i6 := hts (.instantiable RX6 8) (by decide +kernel)
    have i7 := hts (.instantiable RX7 8) (by decide +kernel)
    have key : ∀ y ∈ [yX2_add, yX2_pairBehind, yX2_firstLackedWord, yX2_wordOfRow], Cond.sameMethod y.cls y.cls y.name y.desc ∈ lw_tbl ∧ Cond.privateMethod y ∈ lw_tbl ∧ Cond.instanceMethod y ∈ lw_tbl := by decide +kernel
    obtain ⟨y, hy, hw2⟩ := List.mem_flatMap.mp h
    obtain ⟨k1, k2, k3⟩ := key y hy
    simp only [List.mem_cons, List.not_mem_nil, or_false] at hw2
    rcases hw2 with rfl | rfl
    · exact mm_selP i6 (hts _ k1) (hts _ k2) (hts _ k3)
    · exact mm_selP i7 (hts _ k1) (hts _ k2) (hts _ k3)
  · exact hts w h
def mgood : List Cond := mtbl.filter goodWord
def mnest : List Cond := lw_tbl.filter misN
theorem mgood_in {w : Cond} (h : w ∈ lw_tbl) (hg : goodWord w = true) : w ∈ mgood := List.mem_filter.mpr ⟨List.mem_append_right _ h, hg⟩
theorem mgood_inx {w : Cond} (h : w ∈ mextra) (hg : goodWord w = true) : w ∈ mgood := List.mem_filter.mpr ⟨List.mem_append_left _ h, hg⟩
theorem mnest_in {w : Cond} (h : w ∈ lw_tbl) (hg : misN w = true) : w ∈ mnest := List.mem_filter.mpr ⟨h, hg⟩
theorem mgoodIn (y : MethodName) (cc : ByteArray) (mL : Nat) (ret : Option FieldType) (h : Cond.code y cc mL ret ∈ mgood) : GoodIn mgood (Cond.code y cc mL ret :: mgood) := by
  intro w hw
  have hm : w ∈ mgood := by
    rcases List.mem_cons.mp hw with rfl | h1
    · exact h
    · exact h1
  exact ⟨hm, good_of_word (List.mem_filter.mp hm).2⟩
theorem mnest_warm {q : Cond} (hq : q ∈ mnest) {s U : State} (hW : s.WarmedH U.vm) (h : va_Nw q s) : va_Nw q U := by
  have h1 := (List.mem_filter.mp hq).2
  cases q <;> first | exact va_Nw.warmM hW h | exact va_Nw.warmD hW h | (exact absurd h1 (by decide)) | (simp [misN] at h1)
theorem mnest_same {q : Cond} (hq : q ∈ mnest) {s U : State} (e : s.vm = U.vm) (h : va_Nw q s) : va_Nw q U := by
  have h1 := (List.mem_filter.mp hq).2
  cases q <;> first | exact va_Nw.same rfl e h | (simp [misN] at h1)
def mR (d : Nat) : Room := { frames := d, cells := 0, slots := 0, locals := 38 * d }
def mRX (d : Nat) (X : mXx) : Room := { frames := d, cells := X.1, slots := X.2.1, locals := 38 * d + X.2.2.1 }
/-- the machine about a frame: its code, its class, the tables' words -/
def mC (G : mG) (K : mK) (nL : Nat) (own : String) (cc : ByteArray) (ret : Option FieldType) : Prop :=
  K.1.tables.exec = Jvm.exec ∧ K.2.2.2.2.2.2.2.1.code = cc ∧ K.2.2.2.2.2.2.2.1.maxLocals = nL ∧ K.2.2.2.2.2.2.1.sig.returnType = ret ∧ K.2.2.2.2.2.2.1.locks = false ∧ K.2.2.1.vm.findClass own = some K.2.2.2.1.cls ∧ (∀ w ∈ mgood, w.before K.2.2.2.2.1 K.2.2.1 = true) ∧ (∀ q ∈ mnest, va_Nw q K.2.2.1) ∧ va_K G.1 vwCl (mtys G) K.2.2.1 ∧ (mXc K ≤ (mX K).1 ∧ mXn K ≤ (mX K).2.1) ∧ ∀ q, mA G q → mXA K q
def mhas (G : mG) (ls : Array Slot) (nL : Nat) (L : List (Option mV)) : Prop := ls.size = nL ∧ lv_wf ls ∧ L.length = nL ∧ ∀ (i : Nat) (v : mV), L[i]? = some (some v) → ls[i]? = some (.val (mtr G v))
def mQA (G : mG) (A : Nat → Prop) (Q : Option mV → mW → Prop) : Array Value → State → Outcome → State → Prop := fun _ st o t => (∃ v w', o = .returned (v.map (mtr G)) ∧ Q v w' ∧ va_P G.1 vwCl (mws G w') t.heap) ∧ va_F A st t
def mQ (G : mG) (Q : Option mV → mW → Prop) : Array Value → State → Outcome → State → Prop := mQA G (mA G) Q
def Wm (l : Launch) (G : mG) (K : mK) (d nL : Nat) (Q : Option mV → mW → Prop) (pc : Nat) (L : List (Option mV)) (st : List mV) (w : mW) : Prop :=
  ∀ (H : Heap) (locs : List Loc) (ls : Array Slot), va_P G.1 vwCl (mws G w) H → va_D (mXA K) (mws G w) → va_S (mXA K) K.2.2.1.heap H locs → mhas G ls nL L →
    W K.1 l K.2.1 (mRX d (mX K)) K.2.2.1 K.2.2.2.1 K.2.2.2.2.1 K.2.2.2.2.2.1 K.2.2.2.2.2.2.1 K.2.2.2.2.2.2.2.1 H locs (mXc K) (mXn K) (MQ K.2.2.2.2.2.1 (mQA G (mXA K) Q) K.2.2.2.2.1 K.2.2.1 (mXc K) (mXn K) (mXA K)) (F0 K.2.2.2.1 pc ls (st.map (mtr G)))
/-- a method's contract over the world -/
def Mx (l : Launch) (G : mG) (d : Nat) (y : MethodName) (cc : ByteArray) (mL : Nat) (ret : Option FieldType) (a : List mV) (w : mW) (Q : Option mV → mW → Prop) : Prop :=
  Met l y (Cond.code y cc mL ret :: mgood) (mR d) (va_Pc (a.map (mtr G)) (fun U => va_P G.1 vwCl (mws G w) U.heap ∧ va_K G.1 vwCl (mtys G) U ∧ va_D (fun _ => True) (mws G w) ∧ ∀ q ∈ mnest, va_Nw q U)) (mQ G Q) 0 0 (mA G)
/-- the locals at a method's entry -/
def margs : List mV → List (Option mV)
  | [] => []
  | Sum.inr (Sum.inl z) :: r => some (mvJ z) :: none :: margs r
  | Sum.inl z :: r => some (mvI z) :: margs r
  | Sum.inr (Sum.inr i) :: r => some (mvR i) :: margs r
theorem margs_mem (G : mG) : ∀ (a : List mV) (b i : Nat) (v : mV), (margs a)[i]? = some (some v) → (b + i, mtr G v) ∈ lv_args b (a.map (mtr G))
  | [], b, i, v, h => by simp [margs] at h
  | Sum.inl z :: r, b, i, v, h => by
    simp only [List.map_cons, lv_args]
    cases i with
    | zero => simp [margs] at h; subst h; simp
    | succ i =>
      have h' : (margs r)[i]? = some (some v) := by simpa [margs] using h
      have := margs_mem G r (b + 1) i v h'
      rw [show b + (i + 1) = b + 1 + i by omega]
      exact List.mem_cons_of_mem _ (by simpa [mtr, Value.category] using this)
  | Sum.inr (Sum.inr z) :: r, b, i, v, h => by
    simp only [List.map_cons, lv_args]
    cases i with
    | zero => simp [margs] at h; subst h; simp
    | succ i =>
      have h' : (margs r)[i]? = some (some v) := by simpa [margs] using h
      have := margs_mem G r (b + 1) i v h'
      rw [show b + (i + 1) = b + 1 + i by omega]
      exact List.mem_cons_of_mem _ (by simpa [mtr, Value.category] using this)
  | Sum.inr (Sum.inl z) :: r, b, i, v, h => by
    simp only [List.map_cons, lv_args]
    match i, h with
    | 0, h => simp [margs] at h; subst h; simp
    | 1, h => simp [margs] at h
    | i + 2, h =>
      have h' : (margs r)[i]? = some (some v) := by simpa [margs] using h
      have := margs_mem G r (b + 2) i v h'
      rw [show b + (i + 2) = b + 2 + i by omega]
      exact List.mem_cons_of_mem _ (by simpa [mtr, Value.category] using this)
theorem margs_len (G : mG) : ∀ (a : List mV), (lg_sl (a.map (mtr G))).length = (margs a).length
  | [] => rfl
  | Sum.inl z :: r => by have := margs_len G r; simp [lg_sl, margs, mtr, Value.category] at this ⊢; omega
  | Sum.inr (Sum.inr z) :: r => by have := margs_len G r; simp [lg_sl, margs, mtr, Value.category] at this ⊢; omega
  | Sum.inr (Sum.inl z) :: r => by have := margs_len G r; simp [lg_sl, margs, mtr, Value.category] at this ⊢; omega
theorem Mx.intro {l : Launch} {G : mG} {d : Nat} {y : MethodName} {cc : ByteArray} {mL : Nat} {ret : Option FieldType} {a : List mV} {w : mW} {Q : Option mV → mW → Prop} (hpl : plainName y.cls = true) (own : String) (hown : y.cls = own) (L : List (Option mV)) (hn : (margs a).length ≤ mL) (hL : margs a ++ List.replicate (mL - (margs a).length) none = L)
    (body : ∀ K : mK, mC G K mL own cc ret → Wm l G K d mL Q 0 L [] w) : Mx l G d y cc mL ret a w Q := by
  refine Met.ofW (cc := cc) (maxL := mL) (ret := ret) hpl rfl ?_
  intro p e s m args below meth c s₁ B hml hv
  obtain ⟨rfl, hP, hK, hD0, hN⟩ := hv
  have hts := atoms_spec (ws := Cond.code y cc mL ret :: mgood) B.pre
  have hf : s.vm.findClass y.cls = some m.cls := findClass_of_methodNamed B.named
  rw [hown] at hf
  have hC : mC G (p, e, s, m, (a.map (mtr G)).toArray, below, meth, c, (0, 0, 0, 0, 0, mA G)) mL own cc ret := ⟨B.exec, B.bytes, hml, B.returns, B.notSynchronized, hf, fun w hw => hts w (List.mem_cons_of_mem _ hw), hN, hK, ⟨Nat.le_refl 0, Nat.le_refl 0⟩, fun _ h => h⟩
  have hl := lv_entry (a.map (mtr G)) (n := mL) (by rw [margs_len]; exact hn)
  rw [lg_entry_eq]
  have hm : mhas G ((lg_sl (a.map (mtr G)) ++ List.replicate (mL - (lg_sl (a.map (mtr G))).length) Slot.unset).toArray) mL L := by
    refine ⟨hl.1, hl.2.1, ?_, fun i v hi => ?_⟩
    · rw [← hL]; simp; omega
    · rw [← hL] at hi
      have hi' : (margs a)[i]? = some (some v) := by
        by_cases hlt : i < (margs a).length
        · rwa [List.getElem?_append_left hlt] at hi
        · rw [List.getElem?_append_right (by omega), List.getElem?_replicate] at hi
          split at hi <;> simp at hi
      have := margs_mem G a 0 i v hi'
      rw [Nat.zero_add] at this
      exact hl.2.2 _ this
  exact body (p, e, s, m, (a.map (mtr G)).toArray, below, meth, c, (0, 0, 0, 0, 0, mA G)) hC s.heap [] _ hP (mD_any hD0) va_S.rf hm
