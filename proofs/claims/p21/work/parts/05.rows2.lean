/-! ROWS OF THE SMALL MACHINE: branches, bits, division, longs, switches, ends -/
section MROW2
variable {l : Launch} {G : mG} {K : mK} {d nL : Nat} {own : String} {cc : ByteArray} {ret : Option FieldType} {Q : Option mV → mW → Prop} {pc : Nat} {L : List (Option mV)} {st : List mV} {w : mW}
theorem wm_icmp_eq (hC : mC G K nL own cc ret) (tgt : Nat) {x y off : Int} (hdg : decode cc pc = .ok (.if_icmp .eq off, 3)) (hoff : (pc : Int) + off = (tgt : Int)) (hx : (-2147483648 ≤ x ∧ x < 2147483648)) (hy : (-2147483648 ≤ y ∧ y < 2147483648)) (ht : x = y → Wm l G K d nL Q tgt L st w) (hf : ¬ x = y → Wm l G K d nL Q (pc + 3) L st w) : Wm l G K d nL Q pc L (mvI y :: mvI x :: st) w :=
  fun H locs ls hP hD hS hh => lv_icmp_eq hC.1 hC.2.1 hdg hoff (fun q => ht ((mI_eq hx hy).mp q) H locs ls hP hD hS hh) (fun q => hf (fun e => q ((mI_eq hx hy).mpr e)) H locs ls hP hD hS hh)
theorem wm_if_eq (hC : mC G K nL own cc ret) (tgt : Nat) {x off : Int} (hdg : decode cc pc = .ok (.ifCond .eq off, 3)) (hoff : (pc : Int) + off = (tgt : Int)) (hx : (-2147483648 ≤ x ∧ x < 2147483648)) (ht : x = 0 → Wm l G K d nL Q tgt L st w) (hf : ¬ x = 0 → Wm l G K d nL Q (pc + 3) L st w) : Wm l G K d nL Q pc L (mvI x :: st) w :=
  fun H locs ls hP hD hS hh => lv_if_eq hC.1 hC.2.1 hdg hoff (fun q => ht ((mI_eq hx (show (-2147483648 : Int) ≤ 0 ∧ (0 : Int) < 2147483648 by omega)).mp q) H locs ls hP hD hS hh) (fun q => hf (fun e => q ((mI_eq hx (show (-2147483648 : Int) ≤ 0 ∧ (0 : Int) < 2147483648 by omega)).mpr e)) H locs ls hP hD hS hh)
theorem wm_icmp_ne (hC : mC G K nL own cc ret) (tgt : Nat) {x y off : Int} (hdg : decode cc pc = .ok (.if_icmp .ne off, 3)) (hoff : (pc : Int) + off = (tgt : Int)) (hx : (-2147483648 ≤ x ∧ x < 2147483648)) (hy : (-2147483648 ≤ y ∧ y < 2147483648)) (ht : ¬ x = y → Wm l G K d nL Q tgt L st w) (hf : x = y → Wm l G K d nL Q (pc + 3) L st w) : Wm l G K d nL Q pc L (mvI y :: mvI x :: st) w :=
  fun H locs ls hP hD hS hh => lv_icmp_ne hC.1 hC.2.1 hdg hoff (fun q => ht (fun e => q (by rw [e])) H locs ls hP hD hS hh) (fun q => hf ((mI_eq hx hy).mp q) H locs ls hP hD hS hh)
theorem wm_if_ne (hC : mC G K nL own cc ret) (tgt : Nat) {x off : Int} (hdg : decode cc pc = .ok (.ifCond .ne off, 3)) (hoff : (pc : Int) + off = (tgt : Int)) (hx : (-2147483648 ≤ x ∧ x < 2147483648)) (ht : ¬ x = 0 → Wm l G K d nL Q tgt L st w) (hf : x = 0 → Wm l G K d nL Q (pc + 3) L st w) : Wm l G K d nL Q pc L (mvI x :: st) w :=
  fun H locs ls hP hD hS hh => lv_if_ne hC.1 hC.2.1 hdg hoff (fun q => ht (fun e => q (by rw [e]; rfl)) H locs ls hP hD hS hh) (fun q => hf ((mI_eq hx (show (-2147483648 : Int) ≤ 0 ∧ (0 : Int) < 2147483648 by omega)).mp q) H locs ls hP hD hS hh)
theorem wm_icmp_lt (hC : mC G K nL own cc ret) (tgt : Nat) {x y off : Int} (hdg : decode cc pc = .ok (.if_icmp .lt off, 3)) (hoff : (pc : Int) + off = (tgt : Int)) (hx : (-2147483648 ≤ x ∧ x < 2147483648)) (hy : (-2147483648 ≤ y ∧ y < 2147483648)) (ht : x < y → Wm l G K d nL Q tgt L st w) (hf : y ≤ x → Wm l G K d nL Q (pc + 3) L st w) : Wm l G K d nL Q pc L (mvI y :: mvI x :: st) w :=
  fun H locs ls hP hD hS hh => lv_icmp_lt hC.1 hC.2.1 hdg hoff (fun q => ht ((mI_lt hx hy).mp q) H locs ls hP hD hS hh) (fun q => hf (Int.not_lt.mp (fun e => q ((mI_lt hx hy).mpr e))) H locs ls hP hD hS hh)
theorem wm_if_lt (hC : mC G K nL own cc ret) (tgt : Nat) {x off : Int} (hdg : decode cc pc = .ok (.ifCond .lt off, 3)) (hoff : (pc : Int) + off = (tgt : Int)) (hx : (-2147483648 ≤ x ∧ x < 2147483648)) (ht : x < 0 → Wm l G K d nL Q tgt L st w) (hf : 0 ≤ x → Wm l G K d nL Q (pc + 3) L st w) : Wm l G K d nL Q pc L (mvI x :: st) w :=
  fun H locs ls hP hD hS hh => lv_if_lt hC.1 hC.2.1 hdg hoff (fun q => ht ((mI_lt hx (show (-2147483648 : Int) ≤ 0 ∧ (0 : Int) < 2147483648 by omega)).mp q) H locs ls hP hD hS hh) (fun q => hf (Int.not_lt.mp (fun e => q ((mI_lt hx (show (-2147483648 : Int) ≤ 0 ∧ (0 : Int) < 2147483648 by omega)).mpr e))) H locs ls hP hD hS hh)
theorem wm_icmp_ge (hC : mC G K nL own cc ret) (tgt : Nat) {x y off : Int} (hdg : decode cc pc = .ok (.if_icmp .ge off, 3)) (hoff : (pc : Int) + off = (tgt : Int)) (hx : (-2147483648 ≤ x ∧ x < 2147483648)) (hy : (-2147483648 ≤ y ∧ y < 2147483648)) (ht : y ≤ x → Wm l G K d nL Q tgt L st w) (hf : x < y → Wm l G K d nL Q (pc + 3) L st w) : Wm l G K d nL Q pc L (mvI y :: mvI x :: st) w :=
  fun H locs ls hP hD hS hh => lv_icmp_ge hC.1 hC.2.1 hdg hoff (fun q => ht ((mI_le hy hx).mp q) H locs ls hP hD hS hh) (fun q => hf (Int.not_le.mp (fun e => q ((mI_le hy hx).mpr e))) H locs ls hP hD hS hh)
theorem wm_if_ge (hC : mC G K nL own cc ret) (tgt : Nat) {x off : Int} (hdg : decode cc pc = .ok (.ifCond .ge off, 3)) (hoff : (pc : Int) + off = (tgt : Int)) (hx : (-2147483648 ≤ x ∧ x < 2147483648)) (ht : 0 ≤ x → Wm l G K d nL Q tgt L st w) (hf : x < 0 → Wm l G K d nL Q (pc + 3) L st w) : Wm l G K d nL Q pc L (mvI x :: st) w :=
  fun H locs ls hP hD hS hh => lv_if_ge hC.1 hC.2.1 hdg hoff (fun q => ht ((mI_le (show (-2147483648 : Int) ≤ 0 ∧ (0 : Int) < 2147483648 by omega) hx).mp q) H locs ls hP hD hS hh) (fun q => hf (Int.not_le.mp (fun e => q ((mI_le (show (-2147483648 : Int) ≤ 0 ∧ (0 : Int) < 2147483648 by omega) hx).mpr e))) H locs ls hP hD hS hh)
theorem wm_icmp_gt (hC : mC G K nL own cc ret) (tgt : Nat) {x y off : Int} (hdg : decode cc pc = .ok (.if_icmp .gt off, 3)) (hoff : (pc : Int) + off = (tgt : Int)) (hx : (-2147483648 ≤ x ∧ x < 2147483648)) (hy : (-2147483648 ≤ y ∧ y < 2147483648)) (ht : y < x → Wm l G K d nL Q tgt L st w) (hf : x ≤ y → Wm l G K d nL Q (pc + 3) L st w) : Wm l G K d nL Q pc L (mvI y :: mvI x :: st) w :=
  fun H locs ls hP hD hS hh => lv_icmp_gt hC.1 hC.2.1 hdg hoff (fun q => ht ((mI_lt hy hx).mp q) H locs ls hP hD hS hh) (fun q => hf (Int.not_lt.mp (fun e => q ((mI_lt hy hx).mpr e))) H locs ls hP hD hS hh)
theorem wm_if_gt (hC : mC G K nL own cc ret) (tgt : Nat) {x off : Int} (hdg : decode cc pc = .ok (.ifCond .gt off, 3)) (hoff : (pc : Int) + off = (tgt : Int)) (hx : (-2147483648 ≤ x ∧ x < 2147483648)) (ht : 0 < x → Wm l G K d nL Q tgt L st w) (hf : x ≤ 0 → Wm l G K d nL Q (pc + 3) L st w) : Wm l G K d nL Q pc L (mvI x :: st) w :=
  fun H locs ls hP hD hS hh => lv_if_gt hC.1 hC.2.1 hdg hoff (fun q => ht ((mI_lt (show (-2147483648 : Int) ≤ 0 ∧ (0 : Int) < 2147483648 by omega) hx).mp q) H locs ls hP hD hS hh) (fun q => hf (Int.not_lt.mp (fun e => q ((mI_lt (show (-2147483648 : Int) ≤ 0 ∧ (0 : Int) < 2147483648 by omega) hx).mpr e))) H locs ls hP hD hS hh)
theorem wm_icmp_le (hC : mC G K nL own cc ret) (tgt : Nat) {x y off : Int} (hdg : decode cc pc = .ok (.if_icmp .le off, 3)) (hoff : (pc : Int) + off = (tgt : Int)) (hx : (-2147483648 ≤ x ∧ x < 2147483648)) (hy : (-2147483648 ≤ y ∧ y < 2147483648)) (ht : x ≤ y → Wm l G K d nL Q tgt L st w) (hf : y < x → Wm l G K d nL Q (pc + 3) L st w) : Wm l G K d nL Q pc L (mvI y :: mvI x :: st) w :=
  fun H locs ls hP hD hS hh => lv_icmp_le hC.1 hC.2.1 hdg hoff (fun q => ht ((mI_le hx hy).mp q) H locs ls hP hD hS hh) (fun q => hf (Int.not_le.mp (fun e => q ((mI_le hx hy).mpr e))) H locs ls hP hD hS hh)
theorem wm_if_le (hC : mC G K nL own cc ret) (tgt : Nat) {x off : Int} (hdg : decode cc pc = .ok (.ifCond .le off, 3)) (hoff : (pc : Int) + off = (tgt : Int)) (hx : (-2147483648 ≤ x ∧ x < 2147483648)) (ht : x ≤ 0 → Wm l G K d nL Q tgt L st w) (hf : 0 < x → Wm l G K d nL Q (pc + 3) L st w) : Wm l G K d nL Q pc L (mvI x :: st) w :=
  fun H locs ls hP hD hS hh => lv_if_le hC.1 hC.2.1 hdg hoff (fun q => ht ((mI_le hx (show (-2147483648 : Int) ≤ 0 ∧ (0 : Int) < 2147483648 by omega)).mp q) H locs ls hP hD hS hh) (fun q => hf (Int.not_le.mp (fun e => q ((mI_le hx (show (-2147483648 : Int) ≤ 0 ∧ (0 : Int) < 2147483648 by omega)).mpr e))) H locs ls hP hD hS hh)
theorem mI_or (a b : Nat) : mI (a : Int) ||| mI (b : Int) = mI ((a ||| b : Nat) : Int) := by
  show Int32.ofNat a ||| Int32.ofNat b = Int32.ofNat (a ||| b)
  apply Int32.toBitVec_inj.mp
  rw [Int32.toBitVec_or]
  show BitVec.ofNat 32 a ||| BitVec.ofNat 32 b = BitVec.ofNat 32 (a ||| b)
  apply BitVec.eq_of_getLsbD_eq
  intro i hi
  simp [BitVec.getLsbD_or, BitVec.getLsbD_ofNat, Nat.testBit_or, hi]
theorem mI_and (a b : Nat) : mI (a : Int) &&& mI (b : Int) = mI ((a &&& b : Nat) : Int) := by
  show Int32.ofNat a &&& Int32.ofNat b = Int32.ofNat (a &&& b)
  apply Int32.toBitVec_inj.mp
  rw [Int32.toBitVec_and]
  show BitVec.ofNat 32 a &&& BitVec.ofNat 32 b = BitVec.ofNat 32 (a &&& b)
  apply BitVec.eq_of_getLsbD_eq
  intro i hi
  simp [BitVec.getLsbD_and, BitVec.getLsbD_ofNat, Nat.testBit_and, hi]
theorem mI_not (x : Int) : mI x ^^^ mI (-1) = mI (-1 - x) := by
  have h1 : mI (-1 - x) = ~~~ (mI x) := by
    rw [Int32.not_eq_neg_sub, mI, Int32.ofInt_sub]
    show Int32.ofInt (-1) - Int32.ofInt x = -(Int32.ofInt x) - 1
    have e : Int32.ofInt (-1) = -1 := by decide
    rw [e, Int32.sub_eq_add_neg, Int32.sub_eq_add_neg, Int32.add_comm]
  rw [h1]
  apply Int32.toBitVec_inj.mp
  rw [Int32.toBitVec_xor, Int32.toBitVec_not]
  have h2 : (mI (-1)).toBitVec = BitVec.allOnes 32 := by decide
  rw [h2, BitVec.xor_allOnes]
theorem mI_andn (a b : Nat) : mI (a : Int) &&& mI (-1 - (b : Int)) = mI ((a ^^^ (a &&& b) : Nat) : Int) := by
  rw [← mI_not]
  apply Int32.toBitVec_inj.mp
  rw [Int32.toBitVec_and, Int32.toBitVec_xor]
  show BitVec.ofNat 32 a &&& (BitVec.ofNat 32 b ^^^ (mI (-1)).toBitVec) = BitVec.ofNat 32 (a ^^^ (a &&& b))
  have : (mI (-1)).toBitVec = BitVec.allOnes 32 := by decide
  rw [this]
  apply BitVec.eq_of_getLsbD_eq
  intro i hi
  simp only [BitVec.getLsbD_and, BitVec.getLsbD_xor, BitVec.getLsbD_ofNat, BitVec.getLsbD_allOnes, Nat.testBit_and, Nat.testBit_xor, hi, decide_true, Bool.true_and]
  cases a.testBit i <;> cases b.testBit i <;> rfl
theorem mI_s31 : ∀ k : Nat, k < 32 → ((mI (k : Int) &&& 31).toBitVec.smod 32).toNat = k := by decide +kernel
theorem mI_shl1 {k : Nat} (hk : k < 32) : mI 1 <<< (mI (k : Int) &&& 31) = mI ((2 ^ k : Nat) : Int) := by
  have h := pk_shlN (n := 1) (mI (k : Int) &&& 31) k (mI_s31 k hk) (by rw [Nat.one_mul]; exact Nat.pow_lt_pow_right (by decide) hk)
  rw [Nat.one_mul] at h
  exact h
theorem mI_shr {a k : Nat} (ha : a < 2147483648) (hk : k < 32) : mI (a : Int) >>> (mI (k : Int) &&& 31) = mI ((a / 2 ^ k : Nat) : Int) := pk_shrN (by omega) _ k (mI_s31 k hk)
theorem mI_shrm {a : Nat} (ha : a < 2147483648) : mI (a : Int) >>> (mI (-1) &&& 31) = mI 0 := by
  have h := pk_shrN (n := a) (by omega) (mI (-1) &&& 31) 31 (by decide +kernel)
  rw [Nat.div_eq_of_lt (by omega)] at h
  exact h
theorem mI_ushr {a k : Nat} (ha : a < 2147483648) (hk : k < 32) : ((mI (a : Int)).toUInt32 >>> ((mI (k : Int)).toUInt32 &&& Int32.toUInt32 31)).toInt32 = mI ((a / 2 ^ k : Nat) : Int) := by
  have h0 : ∀ k : Nat, k < 32 → (((mI (k : Int)).toUInt32 &&& Int32.toUInt32 31).toBitVec % 32).toNat = k := by decide +kernel
  exact pk_ushrN (by omega) _ k (h0 k hk)
theorem mI_div {x y : Int} (hx : 0 ≤ x ∧ x < 2147483648) (hy : 0 < y ∧ y < 2147483648) : mI x / mI y = mI (x / y) := by
  have e1 : Int32.minValue.toInt = -2147483648 := by decide
  have e2 : Int32.maxValue.toInt = 2147483647 := by decide
  have h := Int32.ofInt_tdiv (a := x) (b := y) (by omega) (by omega) (by omega) (by omega)
  rw [Int.tdiv_eq_ediv_of_nonneg hx.1] at h
  exact h.symm
theorem mI_mod {x y : Int} (hx : 0 ≤ x ∧ x < 2147483648) (hy : 0 < y ∧ y < 2147483648) : mI x % mI y = mI (x % y) := by
  have e1 : Int32.minValue.toInt = -2147483648 := by decide
  have e2 : Int32.maxValue.toInt = 2147483647 := by decide
  have h := Int32.ofInt_tmod (a := x) (b := y) (by omega) (by omega) (by omega) (by omega)
  rw [Int.tmod_eq_emod_of_nonneg hx.1] at h
  exact h.symm
def mcmp (x y : Int) : Int := if y < x then 1 else if x = y then 0 else -1
theorem mJ_cmp {x y : Int} (hx : -9223372036854775808 ≤ x ∧ x < 9223372036854775808) (hy : -9223372036854775808 ≤ y ∧ y < 9223372036854775808) : lg_cmp (mJ x) (mJ y) = mI (mcmp x y) := by
  unfold lg_cmp mcmp
  have h1 : mJ x > mJ y ↔ y < x := by show mJ y < mJ x ↔ _; rw [Int64.lt_iff_toInt_lt, mJ_toInt hx, mJ_toInt hy]
  have h2 : mJ x = mJ y ↔ x = y := by rw [← Int64.toInt_inj, mJ_toInt hx, mJ_toInt hy]
  simp only [h1, h2]
  split
  · rfl
  · split <;> rfl
theorem wm_ior (hC : mC G K nL own cc ret) (a b : Nat) {x y : Int} (hdg : decode cc pc = .ok (.ior, 1)) (ha : x = (a : Int)) (hb : y = (b : Int)) (h : Wm l G K d nL Q (pc + 1) L (mvI ((a ||| b : Nat) : Int) :: st) w) : Wm l G K d nL Q pc L (mvI y :: mvI x :: st) w := by
  subst ha; subst hb
  exact fun H locs ls hP hD hS hh => lv_ior hC.1 hC.2.1 hdg (by rw [mI_or]; exact h H locs ls hP hD hS hh)
theorem wm_iand (hC : mC G K nL own cc ret) (a b : Nat) {x y : Int} (hdg : decode cc pc = .ok (.iand, 1)) (ha : x = (a : Int)) (hb : y = (b : Int)) (h : Wm l G K d nL Q (pc + 1) L (mvI ((a &&& b : Nat) : Int) :: st) w) : Wm l G K d nL Q pc L (mvI y :: mvI x :: st) w := by
  subst ha; subst hb
  exact fun H locs ls hP hD hS hh => lv_iand hC.1 hC.2.1 hdg (by rw [mI_and]; exact h H locs ls hP hD hS hh)
theorem wm_iandn (hC : mC G K nL own cc ret) (a b : Nat) {x y : Int} (hdg : decode cc pc = .ok (.iand, 1)) (ha : x = (a : Int)) (hb : y = -1 - (b : Int)) (h : Wm l G K d nL Q (pc + 1) L (mvI ((a ^^^ (a &&& b) : Nat) : Int) :: st) w) : Wm l G K d nL Q pc L (mvI y :: mvI x :: st) w := by
  subst ha; subst hb
  exact fun H locs ls hP hD hS hh => lv_iand hC.1 hC.2.1 hdg (by rw [mI_andn]; exact h H locs ls hP hD hS hh)
theorem wm_inot (hC : mC G K nL own cc ret) {x : Int} (hdg : decode cc pc = .ok (.ixor, 1)) (h : Wm l G K d nL Q (pc + 1) L (mvI (-1 - x) :: st) w) : Wm l G K d nL Q pc L (mvI (-1) :: mvI x :: st) w :=
  fun H locs ls hP hD hS hh => lv_ixor hC.1 hC.2.1 hdg (by rw [mI_not]; exact h H locs ls hP hD hS hh)
theorem wm_ishl1 (hC : mC G K nL own cc ret) (k : Nat) {y : Int} (hdg : decode cc pc = .ok (.ishl, 1)) (hy : y = (k : Int)) (hk : k < 32) (h : Wm l G K d nL Q (pc + 1) L (mvI ((2 ^ k : Nat) : Int) :: st) w) : Wm l G K d nL Q pc L (mvI y :: mvI 1 :: st) w := by
  subst hy
  exact fun H locs ls hP hD hS hh => lv_ishl hC.1 hC.2.1 hdg (by rw [mI_shl1 hk]; exact h H locs ls hP hD hS hh)
theorem wm_ishr (hC : mC G K nL own cc ret) (a k : Nat) {x y : Int} (hdg : decode cc pc = .ok (.ishr, 1)) (hx : x = (a : Int)) (hy : y = (k : Int)) (ha : a < 2147483648) (hk : k < 32) (h : Wm l G K d nL Q (pc + 1) L (mvI ((a / 2 ^ k : Nat) : Int) :: st) w) : Wm l G K d nL Q pc L (mvI y :: mvI x :: st) w := by
  subst hx; subst hy
  exact fun H locs ls hP hD hS hh => lv_ishr hC.1 hC.2.1 hdg (by rw [mI_shr ha hk]; exact h H locs ls hP hD hS hh)
theorem wm_ishrm (hC : mC G K nL own cc ret) (a : Nat) {x : Int} (hdg : decode cc pc = .ok (.ishr, 1)) (hx : x = (a : Int)) (ha : a < 2147483648) (h : Wm l G K d nL Q (pc + 1) L (mvI 0 :: st) w) : Wm l G K d nL Q pc L (mvI (-1) :: mvI x :: st) w := by
  subst hx
  exact fun H locs ls hP hD hS hh => lv_ishr hC.1 hC.2.1 hdg (by rw [mI_shrm ha]; exact h H locs ls hP hD hS hh)
theorem wm_iushr (hC : mC G K nL own cc ret) (a k : Nat) {x y : Int} (hdg : decode cc pc = .ok (.iushr, 1)) (hx : x = (a : Int)) (hy : y = (k : Int)) (ha : a < 2147483648) (hk : k < 32) (h : Wm l G K d nL Q (pc + 1) L (mvI ((a / 2 ^ k : Nat) : Int) :: st) w) : Wm l G K d nL Q pc L (mvI y :: mvI x :: st) w := by
  subst hx; subst hy
  exact fun H locs ls hP hD hS hh => lv_iushr (v := mI ((a / 2 ^ k : Nat) : Int)) hC.1 hC.2.1 hdg (mI_ushr ha hk) (h H locs ls hP hD hS hh)
theorem wm_idiv (hC : mC G K nL own cc ret) {x y : Int} (hdg : decode cc pc = .ok (.idiv, 1)) (hx : 0 ≤ x ∧ x < 2147483648) (hy : 0 < y ∧ y < 2147483648) (h : Wm l G K d nL Q (pc + 1) L (mvI (x / y) :: st) w) : Wm l G K d nL Q pc L (mvI y :: mvI x :: st) w :=
  fun H locs ls hP hD hS hh => lv_idiv hC.1 hC.2.1 hdg (fun e => by rw [← mI_0, mI_eq (by omega) (by omega)] at e; omega) (by rw [mI_div hx hy]; exact h H locs ls hP hD hS hh)
theorem wm_irem (hC : mC G K nL own cc ret) {x y : Int} (hdg : decode cc pc = .ok (.irem, 1)) (hx : 0 ≤ x ∧ x < 2147483648) (hy : 0 < y ∧ y < 2147483648) (h : Wm l G K d nL Q (pc + 1) L (mvI (x % y) :: st) w) : Wm l G K d nL Q pc L (mvI y :: mvI x :: st) w :=
  fun H locs ls hP hD hS hh => lv_irem hC.1 hC.2.1 hdg (fun e => by rw [← mI_0, mI_eq (by omega) (by omega)] at e; omega) (by rw [mI_div hx hy, mI_mul, mI_sub, show x - x / y * y = x % y from by rw [Int.emod_def, Int.mul_comm]]; exact h H locs ls hP hD hS hh)
theorem wm_i2c (hC : mC G K nL own cc ret) {x : Int} (hdg : decode cc pc = .ok (.i2c, 1)) (hx : 0 ≤ x ∧ x < 65536) (h : Wm l G K d nL Q (pc + 1) L (mvI x :: st) w) : Wm l G K d nL Q pc L (mvI x :: st) w := by
  refine fun H locs ls hP hD hS hh => lv_i2c (v := mI x) hC.1 hC.2.1 hdg ?_ (h H locs ls hP hD hS hh)
  obtain ⟨n, rfl⟩ := Int.eq_ofNat_of_zero_le hx.1
  obtain ⟨v, hv, h1, h2⟩ : ∃ v : Nat, v < 65536 ∧ v = n ∧ True := ⟨n, by omega, rfl, trivial⟩
  show ((Int32.ofNat n).toUInt32 % 65536).toInt32 = Int32.ofNat n
  apply Int32.toBitVec_inj.mp
  show (BitVec.ofNat 32 n) % 65536#32 = BitVec.ofNat 32 n
  apply BitVec.eq_of_toNat_eq
  simp [BitVec.toNat_umod, BitVec.toNat_ofNat]
  omega
theorem wm_lcmp (hC : mC G K nL own cc ret) {x y : Int} (hdg : decode cc pc = .ok (.lcmp, 1)) (hx : -9223372036854775808 ≤ x ∧ x < 9223372036854775808) (hy : -9223372036854775808 ≤ y ∧ y < 9223372036854775808) (h : Wm l G K d nL Q (pc + 1) L (mvI (mcmp x y) :: st) w) : Wm l G K d nL Q pc L (mvJ y :: mvJ x :: st) w :=
  fun H locs ls hP hD hS hh => W.lcmp hC.1 hC.2.1 hdg (by rw [mJ_cmp hx hy]; exact h H locs ls hP hD hS hh)
theorem wm_tableOut (hC : mC G K nL own cc ret) (tgt : Nat) {dflt lo hi x : Int} {offs : Array Int} {len : Nat} (hdg : decode cc pc = .ok (.tableswitch dflt lo hi offs, len)) (ht : (pc : Int) + dflt = (tgt : Int)) (hx : -2147483648 ≤ x ∧ x < 2147483648) (hq : x < lo ∨ hi < x) (h : Wm l G K d nL Q tgt L st w) : Wm l G K d nL Q pc L (mvI x :: st) w :=
  fun H locs ls hP hD hS hh => lv_tableOut hC.1 hC.2.1 hdg (by rw [mI_toInt hx]; exact hq) ht (h H locs ls hP hD hS hh)
theorem wm_tableIn (hC : mC G K nL own cc ret) (tgt : Nat) (k : Int) {dflt lo hi x off : Int} {offs : Array Int} {len : Nat} (hdg : decode cc pc = .ok (.tableswitch dflt lo hi offs, len)) (hk : x = k) (hl : ¬ k < lo ∧ ¬ hi < k ∧ -2147483648 ≤ k ∧ k < 2147483648) (ho : offs[(k - lo).toNat]? = some off) (ht : (pc : Int) + off = (tgt : Int)) (h : Wm l G K d nL Q tgt L st w) : Wm l G K d nL Q pc L (mvI x :: st) w := by
  subst hk
  exact fun H locs ls hP hD hS hh => lv_tableIn hC.1 hC.2.1 hdg (by rw [mI_toInt hl.2.2]; exact hl.1) (by rw [mI_toInt hl.2.2]; exact hl.2.1) (by rw [mI_toInt hl.2.2]; exact ho) ht (h H locs ls hP hD hS hh)
theorem wm_lookup (hC : mC G K nL own cc ret) (tgt : Nat) {dflt x off : Int} {ps : Array (Int × Int)} {len : Nat} (hdg : decode cc pc = .ok (.lookupswitch dflt ps, len)) (hp : (ps.toList.zip (ps.toList.drop 1)).all (fun (a, next) => a.1 < next.1) = true) (hx : -2147483648 ≤ x ∧ x < 2147483648) (ho : Op.lookupswitch.offset ps.toList dflt x = off) (ht : (pc : Int) + off = (tgt : Int)) (h : Wm l G K d nL Q tgt L st w) : Wm l G K d nL Q pc L (mvI x :: st) w :=
  fun H locs ls hP hD hS hh => lv_lookup hC.1 hC.2.1 hdg hp (by rw [mI_toInt hx]; exact ho) ht (h H locs ls hP hD hS hh)
theorem wm_ireturn {Q : Option mV → mW → Prop} {x : Int} (hC : mC G K nL own cc (some .int)) (hdg : decode cc pc = .ok (.ireturn, 1)) (h : Q (some (mvI x)) w) : Wm l G K d nL Q pc L [mvI x] w :=
  fun H locs ls hP hD hS hh => W.iret hC.1 hC.2.1 hC.2.2.2.1 (fun t ht hW => ⟨⟨some (mvI x), w, rfl, h, by rw [ht]; exact hP⟩, hS.F ht⟩) hS.2.2 hdg hC.2.2.2.2.1
theorem wm_zreturn {Q : Option mV → mW → Prop} {x : Int} (hC : mC G K nL own cc (some .boolean)) (hdg : decode cc pc = .ok (.ireturn, 1)) (hx : x = 0 ∨ x = 1) (h : Q (some (mvI x)) w) : Wm l G K d nL Q pc L [mvI x] w :=
  fun H locs ls hP hD hS hh => W.zret (v := mI x) hC.1 hC.2.1 hC.2.2.2.1 (by rcases hx with rfl | rfl <;> decide) (fun t ht hW => ⟨⟨some (mvI x), w, rfl, h, by rw [ht]; exact hP⟩, hS.F ht⟩) hS.2.2 hdg hC.2.2.2.2.1
theorem wm_lreturn {Q : Option mV → mW → Prop} {x : Int} (hC : mC G K nL own cc (some .long)) (hdg : decode cc pc = .ok (.lreturn, 1)) (h : Q (some (mvJ x)) w) : Wm l G K d nL Q pc L [mvJ x] w :=
  fun H locs ls hP hD hS hh => W.lret (v := mJ x) hC.1 hC.2.1 hC.2.2.2.1 (fun t ht hW => ⟨⟨some (mvJ x), w, rfl, h, by rw [ht]; exact hP⟩, hS.F ht⟩) hS.2.2 hdg hC.2.2.2.2.1
theorem wm_areturn {Q : Option mV → mW → Prop} {i : Nat} {nm : String} (hC : mC G K nL own cc (some (.object nm))) (hdg : decode cc pc = .ok (.areturn, 1)) (h : Q (some (mvR i)) w) : Wm l G K d nL Q pc L [mvR i] w :=
  fun H locs ls hP hD hS hh => W.aret (v := .ref (G.2.1 i)) hC.1 hC.2.1 hC.2.2.2.1 (Or.inl ⟨_, rfl⟩) (Or.inr ⟨_, rfl⟩) (fun t ht hW => ⟨⟨some (mvR i), w, rfl, h, by rw [ht]; exact hP⟩, hS.F ht⟩) hS.2.2 hdg hC.2.2.2.2.1
theorem wm_return {Q : Option mV → mW → Prop} (hC : mC G K nL own cc none) (hdg : decode cc pc = .ok (.return_, 1)) (h : Q none w) : Wm l G K d nL Q pc L [] w :=
  fun H locs ls hP hD hS hh => W.vret hC.1 hC.2.1 hC.2.2.2.1 (fun t ht hW => ⟨⟨none, w, rfl, h, by rw [ht]; exact hP⟩, hS.F ht⟩) hS.2.2 hdg hC.2.2.2.2.1
end MROW2
