/-! which states are alike; what is told of a state -/
def allb (f : Nat → Bool) : Nat → Bool
  | 0 => true
  | n + 1 => allb f n && f n
def alk (w : mW) (a b : Int) : Bool := decide (w 14 (a * 8 + b) = 1)
def AlkOK (w : mW) : Prop := ∀ t : Int, 0 ≤ t → t < 64 → w 14 t = 0 ∨ w 14 t = 1
def lookF (w : mW) (p : Nat) (i j : Int) : Bool := decide (w (p + 1) (i * 7) = w (p + 1) (j * 7)) && (decide (w (p + 1) (i * 7) = 0) || decide (wmask (hasW w p i) 6 = wmask (hasW w p j) 6))
def ldK (w : mW) (p : Nat) (i j : Int) (k : Nat) : Bool := decide (w (p + 1) (i * 7 + 1 + (k : Int)) = -1) || decide (w (p + 1) (j * 7 + 1 + (k : Int)) = -1) || alk w (w (p + 1) (i * 7 + 1 + (k : Int))) (w (p + 1) (j * 7 + 1 + (k : Int)))
def ldF (w : mW) (p : Nat) (i j : Int) : Bool := decide (w (p + 1) (i * 7) = 0) || allb (ldK w p i j) 6
def irow (w : mW) (p : Nat) (i : Nat) : Nat → mW
  | 0 => w
  | n + 1 => mup (irow w p i n) 14 ((i : Int) * 8 + (n : Int)) (mb (lookF w p i n))
def iall (w : mW) (p : Nat) : Nat → mW
  | 0 => w
  | n + 1 => irow (iall w p n) p n 8
def prow (w : mW) (p : Nat) (i : Nat) : Nat → mW
  | 0 => w
  | n + 1 => if ldF (prow w p i n) p i n then prow w p i n else mup (prow w p i n) 14 ((i : Int) * 8 + (n : Int)) 0
def pall (w : mW) (p : Nat) : Nat → mW
  | 0 => w
  | n + 1 => prow (pall w p n) p n 8
def cmpF (w : mW) (p : Nat) : Nat → mW
  | 0 => iall w p 8
  | n + 1 => pall (cmpF w p n) p 8
theorem irow_ne {w : mW} {p i : Nat} {a : Nat} (h : a ≠ 14) : ∀ n, irow w p i n a = w a
  | 0 => rfl
  | n + 1 => by unfold irow; rw [mup_ne h]; exact irow_ne h n
theorem iall_ne {w : mW} {p : Nat} {a : Nat} (h : a ≠ 14) : ∀ n, iall w p n a = w a
  | 0 => rfl
  | n + 1 => by unfold iall; rw [irow_ne h]; exact iall_ne h n
theorem prow_ne {w : mW} {p i : Nat} {a : Nat} (h : a ≠ 14) : ∀ n, prow w p i n a = w a
  | 0 => rfl
  | n + 1 => by
    unfold prow; split
    · exact prow_ne h n
    · rw [mup_ne h]; exact prow_ne h n
theorem pall_ne {w : mW} {p : Nat} {a : Nat} (h : a ≠ 14) : ∀ n, pall w p n a = w a
  | 0 => rfl
  | n + 1 => by unfold pall; rw [prow_ne h]; exact pall_ne h n
theorem cmpF_ne {w : mW} {p : Nat} {a : Nat} (h : a ≠ 14) : ∀ n, cmpF w p n a = w a
  | 0 => iall_ne h 8
  | n + 1 => by unfold cmpF; rw [pall_ne h]; exact cmpF_ne h n
theorem lookF_congr {w u : mW} {p : Nat} (h : u (p + 1) = w (p + 1)) (i j : Int) : lookF u p i j = lookF w p i j := by unfold lookF hasW; rw [h]
theorem mb01 (b : Bool) : mb b = 0 ∨ mb b = 1 := mb_01 b
theorem mup_01 {w : mW} {k v : Int} (hv : v = 0 ∨ v = 1) {t : Int} (h : w 14 t = 0 ∨ w 14 t = 1) : mup w 14 k v 14 t = 0 ∨ mup w 14 k v 14 t = 1 := by
  rw [mup_get]; split
  · exact hv
  · exact h
theorem irow_01 (w : mW) (p i : Nat) : ∀ (n : Nat) (t : Int), ((i : Int) * 8 ≤ t ∧ t < (i : Int) * 8 + n) ∨ (w 14 t = 0 ∨ w 14 t = 1) → irow w p i n 14 t = 0 ∨ irow w p i n 14 t = 1
  | 0, t, h => by rcases h with h | h
                  · omega
                  · exact h
  | n + 1, t, h => by
    unfold irow
    by_cases e : t = (i : Int) * 8 + (n : Int)
    · rw [mup_get, if_pos ⟨rfl, e⟩]; exact mb_01 _
    · rw [mup_get, if_neg (fun q => e q.2)]
      refine irow_01 w p i n t ?_
      rcases h with h | h
      · exact Or.inl (by omega)
      · exact Or.inr h
theorem iall_01 (w : mW) (p : Nat) : ∀ (n : Nat) (t : Int), 0 ≤ t → t < (n : Int) * 8 → iall w p n 14 t = 0 ∨ iall w p n 14 t = 1
  | 0, t, h1, h2 => by omega
  | n + 1, t, h1, h2 => by
    unfold iall
    by_cases e : t < (n : Int) * 8
    · exact irow_01 _ p n 8 t (Or.inr (iall_01 w p n t h1 e))
    · exact irow_01 _ p n 8 t (Or.inl (by omega))
theorem alkOK_prow {w : mW} {p i : Nat} (h : AlkOK w) : ∀ n, AlkOK (prow w p i n)
  | 0 => h
  | n + 1 => by
    unfold prow; split
    · exact alkOK_prow h n
    · exact fun t h1 h2 => mup_01 (Or.inl rfl) (alkOK_prow h n t h1 h2)
theorem alkOK_pall {w : mW} {p : Nat} (h : AlkOK w) : ∀ n, AlkOK (pall w p n)
  | 0 => h
  | n + 1 => alkOK_prow (alkOK_pall h n) 8
theorem alkOK_cmpF (w : mW) (p : Nat) : ∀ n, AlkOK (cmpF w p n)
  | 0 => fun t h1 h2 => iall_01 w p 8 t h1 (by omega)
  | n + 1 => alkOK_pall (alkOK_cmpF w p n) 8
theorem PlanIx.ne14 {p : Nat} (hp : PlanIx p) : p + 1 ≠ 14 := by
  intro h
  have h2 := hp.2
  rw [h] at h2
  cases h2
def lowst (f : Nat → Bool) (d : Nat) : Nat → Nat → Nat
  | 0, _ => d
  | k + 1, j => if f j then j else lowst f d k (j + 1)
theorem lowst_lt (f : Nat → Bool) (d b : Nat) (hd : d < b) : ∀ k j, j + k ≤ b → lowst f d k j < b
  | 0, _, _ => hd
  | k + 1, j, h => by
    unfold lowst; split
    · omega
    · exact lowst_lt f d b hd k (j + 1) (by omega)
/-- the lowest state that is alike, as the class tells it -/
def lowF (w : mW) (p : Nat) (s : Nat) : Nat := lowst (fun j => alk (cmpF w p 7) s j) s 8 0
def unF (r : Nat) (low : Nat → Nat) : Nat → Nat
  | 0 => 0
  | n + 1 => if r.testBit n then unF r low n ||| 2 ^ low n else unF r low n
theorem unF_lt (r : Nat) (low : Nat → Nat) (hl : ∀ n, n < 8 → low n < 8) : ∀ n, n ≤ 8 → unF r low n < 2 ^ 8
  | 0, _ => Nat.two_pow_pos 8
  | n + 1, h => by
    unfold unF; split
    · exact Nat.or_lt_two_pow (unF_lt r low hl n (by omega)) (Nat.pow_lt_pow_right (by decide) (hl n (by omega)))
    · exact unF_lt r low hl n (by omega)
set_option maxRecDepth 100000 in
set_option maxHeartbeats 4000000 in
theorem s_X1_areAlike {l : Launch} {G : mG} {w : mW} {a b : Int} (ha : 0 ≤ a ∧ a < 8) (hb : 0 ≤ b ∧ b < 8) (hA : AlkOK w) : Mx l G 1 yX1_areAlike cX1_areAlike 3 (some .boolean) [mvR 13, mvI a, mvI b] w (qP (mvI (mb (alk w a b))) w) := by
  refine Mx.intro (by decide) RX1 rfl [some (mvR 13), some (mvI a), some (mvI b)] (Nat.le_of_ble_eq_true rfl) rfl (fun K hC => ?_)
  refine wm_iload_n hC 1 (pc := 0) dX1_areAlike_0 rfl rfl ?_
  refine wm_pN hC cn_X1_43 kc_X8_isState (s_X8_isState (by omega)) rfl (by decide) rfl (Nat.le_of_ble_eq_true rfl) (pc := 1) dX1_areAlike_1 ?_
  refine wm_ifd_eq hC 32 (pc := 4) dX1_areAlike_4 (by decide) (fun h4 => ?_) (fun h4 => ?_)
  · omega
  · refine wm_iload_n hC 2 (pc := 7) dX1_areAlike_7 rfl rfl ?_
    refine wm_pN hC cn_X1_43 kc_X8_isState (s_X8_isState (by omega)) rfl (by decide) rfl (Nat.le_of_ble_eq_true rfl) (pc := 8) dX1_areAlike_8 ?_
    refine wm_ifd_eq hC 32 (pc := 11) dX1_areAlike_11 (by decide) (fun h11 => ?_) (fun h11 => ?_)
    · omega
    · refine wm_aload_n hC 0 (pc := 14) dX1_areAlike_14 rfl rfl ?_
      refine wm_getR hC fl_X1_9_1 rfl rfl (pc := 15) dX1_areAlike_15 ?_
      refine wm_iload_n hC 1 (pc := 18) dX1_areAlike_18 rfl rfl ?_
      refine wm_bipush hC (pc := 19) dX1_areAlike_19 (by decide) ?_
      refine wm_imul hC (pc := 21) dX1_areAlike_21 ?_
      refine wm_iload_n hC 2 (pc := 22) dX1_areAlike_22 rfl rfl ?_
      refine wm_iadd hC (pc := 23) dX1_areAlike_23 ?_
      refine wm_baload hC rfl (by omega) (by decide) (pc := 24) dX1_areAlike_24 ?_
      have hq := hA (a * 8 + b) (by omega) (by omega)
      refine wm_if_eq hC 32 (pc := 25) dX1_areAlike_25 (by decide) (by omega) (fun h25 => ?_) (fun h25 => ?_)
      · have e : alk w a b = false := decide_eq_false (by omega)
        refine wm_iconst hC (pc := 32) dX1_areAlike_32 ?_
        refine wm_zretP hC (pc := 33) dX1_areAlike_33 ?_ rfl
        rw [e]; rfl
      · have e : alk w a b = true := decide_eq_true (by omega)
        refine wm_iconst hC (pc := 28) dX1_areAlike_28 ?_
        refine wm_goto hC 33 (pc := 29) dX1_areAlike_29 (by decide) ?_
        refine wm_zretP hC (pc := 33) dX1_areAlike_33 ?_ rfl
        rw [e]; rfl
set_option maxRecDepth 100000 in
set_option maxHeartbeats 4000000 in
theorem s_X1_looksAlike {l : Launch} {G : mG} {w : mW} {p : Nat} (hp : PlanIx p) {i j : Nat} (hi : i < 8) (hj : j < 8) (hk : PlanOK w p) : Mx l G 3 yX1_looksAlike cX1_looksAlike 4 (some .boolean) [mvR p, mvI (i : Int), mvI (j : Int)] w (qP (mvI (mb (lookF w p i j))) w) := by
  refine Mx.intro (by decide) RX1 rfl [some (mvR p), some (mvI (i : Int)), some (mvI (j : Int)), none] (Nat.le_of_ble_eq_true rfl) rfl (fun K hC => ?_)
  refine wm_aload_n hC 0 (pc := 0) dX1_looksAlike_0 rfl rfl ?_
  refine wm_iload_n hC 1 (pc := 1) dX1_looksAlike_1 rfl rfl ?_
  refine wm_pV hC cv_X1_26 kc_X3_kindOf hp.1 rfl (s_X3_kindOf hp (by omega)) rfl (by decide) rfl (Nat.le_of_ble_eq_true rfl) (pc := 2) dX1_looksAlike_2 ?_
  refine wm_istore_n hC 3 (pc := 5) dX1_looksAlike_5 rfl (by decide) rfl ?_
  refine wm_iload_n hC 3 (pc := 6) dX1_looksAlike_6 rfl rfl ?_
  refine wm_aload_n hC 0 (pc := 7) dX1_looksAlike_7 rfl rfl ?_
  refine wm_iload_n hC 2 (pc := 8) dX1_looksAlike_8 rfl rfl ?_
  refine wm_pV hC cv_X1_26 kc_X3_kindOf hp.1 rfl (s_X3_kindOf hp (by omega)) rfl (by decide) rfl (Nat.le_of_ble_eq_true rfl) (pc := 9) dX1_looksAlike_9 ?_
  refine wm_icmp_ne hC 36 (pc := 12) dX1_looksAlike_12 (by decide) (by have := (hk i (by omega) (by omega)).1; omega) (by have := (hk j (by omega) (by omega)).1; omega) (fun h12 => ?_) (fun h12 => ?_)
  · have e : lookF w p i j = false := by unfold lookF; rw [decide_eq_false h12]; rfl
    refine wm_iconst hC (pc := 36) dX1_looksAlike_36 ?_
    refine wm_zretP hC (pc := 37) dX1_looksAlike_37 ?_ rfl
    rw [e]; rfl
  · refine wm_iload_n hC 3 (pc := 15) dX1_looksAlike_15 rfl rfl ?_
    refine wm_if_eq hC 32 (pc := 16) dX1_looksAlike_16 (by decide) (by have := (hk i (by omega) (by omega)).1; omega) (fun h16 => ?_) (fun h16 => ?_)
    · have e : lookF w p i j = true := by unfold lookF; rw [decide_eq_true h12, decide_eq_true h16]; rfl
      refine wm_iconst hC (pc := 32) dX1_looksAlike_32 ?_
      refine wm_goto hC 37 (pc := 33) dX1_looksAlike_33 (by decide) ?_
      refine wm_zretP hC (pc := 37) dX1_looksAlike_37 ?_ rfl
      rw [e]; rfl
    · refine wm_aload_n hC 0 (pc := 19) dX1_looksAlike_19 rfl rfl ?_
      refine wm_iload_n hC 1 (pc := 20) dX1_looksAlike_20 rfl rfl ?_
      refine wm_pV hC cv_X1_32 kc_X3_wordsOf hp.1 rfl (s_X3_wordsOf hp (by omega) hk) rfl (by decide) rfl (Nat.le_of_ble_eq_true rfl) (pc := 21) dX1_looksAlike_21 ?_
      refine wm_aload_n hC 0 (pc := 24) dX1_looksAlike_24 rfl rfl ?_
      refine wm_iload_n hC 2 (pc := 25) dX1_looksAlike_25 rfl rfl ?_
      refine wm_pV hC cv_X1_32 kc_X3_wordsOf hp.1 rfl (s_X3_wordsOf hp (by omega) hk) rfl (by decide) rfl (Nat.le_of_ble_eq_true rfl) (pc := 26) dX1_looksAlike_26 ?_
      refine wm_icmp_ne hC 36 (pc := 29) dX1_looksAlike_29 (by decide) (by have := wmask_lt (hasW w p i) 6; omega) (by have := wmask_lt (hasW w p j) 6; omega) (fun h29 => ?_) (fun h29 => ?_)
      · have e : lookF w p i j = false := by unfold lookF; rw [decide_eq_true h12, decide_eq_false h16, decide_eq_false (by omega)]; rfl
        refine wm_iconst hC (pc := 36) dX1_looksAlike_36 ?_
        refine wm_zretP hC (pc := 37) dX1_looksAlike_37 ?_ rfl
        rw [e]; rfl
      · have e : lookF w p i j = true := by unfold lookF; rw [decide_eq_true h12, decide_eq_false h16, decide_eq_true (by omega)]; rfl
        refine wm_iconst hC (pc := 32) dX1_looksAlike_32 ?_
        refine wm_goto hC 37 (pc := 33) dX1_looksAlike_33 (by decide) ?_
        refine wm_zretP hC (pc := 37) dX1_looksAlike_37 ?_ rfl
        rw [e]; rfl
set_option maxRecDepth 100000 in
set_option maxHeartbeats 4000000 in
theorem s_X1_leadsAlike {l : Launch} {G : mG} {w : mW} {p : Nat} (hp : PlanIx p) {i j : Nat} (hi : i < 8) (hj : j < 8) (hk : PlanOK w p) (hA : AlkOK w) : Mx l G 2 yX1_leadsAlike cX1_leadsAlike 7 (some .boolean) [mvR 13, mvR p, mvI (i : Int), mvI (j : Int)] w (qP (mvI (mb (ldF w p i j))) w) := by
  refine Mx.intro (by decide) RX1 rfl [some (mvR 13), some (mvR p), some (mvI (i : Int)), some (mvI (j : Int)), none, none, none] (Nat.le_of_ble_eq_true rfl) rfl (fun K hC => ?_)
  refine wm_aload_n hC 1 (pc := 0) dX1_leadsAlike_0 rfl rfl ?_
  refine wm_iload_n hC 2 (pc := 1) dX1_leadsAlike_1 rfl rfl ?_
  refine wm_pV hC cv_X1_26 kc_X3_kindOf hp.1 rfl (s_X3_kindOf hp (by omega)) rfl (by decide) rfl (Nat.le_of_ble_eq_true rfl) (pc := 2) dX1_leadsAlike_2 ?_
  refine wm_if_ne hC 10 (pc := 5) dX1_leadsAlike_5 (by decide) (by have := (hk i (by omega) (by omega)).1; omega) (fun h5 => ?_) (fun h5 => ?_)
  · have e0 : ldF w p i j = allb (ldK w p i j) 6 := by unfold ldF; rw [decide_eq_false h5]; rfl
    refine wm_iconst hC (pc := 10) dX1_leadsAlike_10 ?_
    refine wm_istore hC  (pc := 11) dX1_leadsAlike_11  (by decide) rfl ?_
    have lp13 : ∀ (n : Nat) (k : Nat) (o1 o2 : Option mV) (ho : mok [none, none, none, none, none, o1, o2] 5 = true ∧ mok [none, none, none, none, none, some (mvI 0), o2] 6 = true ∧ mok [none, none, none, none, none, o1, o2] 6 = true), n = 6 - k → k ≤ 6 → allb (ldK w p i j) k = true → Wm l G K 2 7 (qP (mvI (mb (ldF w p i j))) w) 13 [some (mvR 13), some (mvR p), some (mvI (i : Int)), some (mvI (j : Int)), some (mvI (k : Int)), o1, o2] [] w := by
      intro n
      induction n using Nat.strongRecOn with
      | _ n ih =>
      intro k o1 o2 ho hn hk6 hall
      refine wm_iload hC  (pc := 13) dX1_leadsAlike_13 rfl ?_
      refine wm_bipush hC (pc := 15) dX1_leadsAlike_15 (by decide) ?_
      refine wm_icmp_ge hC 69 (pc := 17) dX1_leadsAlike_17 (by decide) (by omega) (by omega) (fun h17 => ?_) (fun h17 => ?_)
      · refine wm_iconst hC (pc := 69) dX1_leadsAlike_69 ?_
        refine wm_zretP hC (pc := 70) dX1_leadsAlike_70 ?_ rfl
        have : k = 6 := by omega
        rw [this] at hall
        rw [e0, hall]; rfl
      · refine wm_aload_n hC 1 (pc := 20) dX1_leadsAlike_20 rfl rfl ?_
        refine wm_iload_n hC 2 (pc := 21) dX1_leadsAlike_21 rfl rfl ?_
        refine wm_iload hC  (pc := 22) dX1_leadsAlike_22 rfl ?_
        refine wm_pV hC cv_X1_35 kc_X3_targetOf hp.1 rfl (s_X3_targetOf hp (by omega) (by omega)) rfl (by decide) rfl (Nat.le_of_ble_eq_true rfl) (pc := 24) dX1_leadsAlike_24 ?_
        refine wm_istore hC  (pc := 27) dX1_leadsAlike_27  (by decide) rfl ?_
        refine wm_aload_n hC 1 (pc := 29) dX1_leadsAlike_29 rfl rfl ?_
        refine wm_iload_n hC 3 (pc := 30) dX1_leadsAlike_30 rfl rfl ?_
        refine wm_iload hC  (pc := 31) dX1_leadsAlike_31 rfl ?_
        refine wm_pV hC cv_X1_35 kc_X3_targetOf hp.1 rfl (s_X3_targetOf hp (by omega) (by omega)) rfl (by decide) rfl (Nat.le_of_ble_eq_true rfl) (pc := 33) dX1_leadsAlike_33 ?_
        refine wm_istore hC  (pc := 36) dX1_leadsAlike_36  (by decide) rfl ?_
        refine wm_iload hC  (pc := 38) dX1_leadsAlike_38 rfl ?_
        refine wm_iconst hC (pc := 40) dX1_leadsAlike_40 ?_
        have hb1 := (hk i (by omega) (by omega)).2 k (by omega) (by omega)
        have hb2 := (hk j (by omega) (by omega)).2 k (by omega) (by omega)
        refine wm_icmp_eq hC 63 (pc := 41) dX1_leadsAlike_41 (by decide) (by omega) (by omega) (fun h41 => ?_) (fun h41 => ?_)
        · have e : ldK w p i j k = true := by simp [ldK, h41]
          refine wm_iinc hC (pc := 63) dX1_leadsAlike_63 rfl rfl (by decide) rfl ?_
          refine wm_goto hC 13 (pc := 66) dX1_leadsAlike_66 (by decide) ?_
          exact ih _ (by omega) (k + 1) _ _ ⟨rfl, rfl, rfl⟩ rfl (by omega) (by simp [allb, hall, e])
        · refine wm_iload hC  (pc := 44) dX1_leadsAlike_44 rfl ?_
          refine wm_iconst hC (pc := 46) dX1_leadsAlike_46 ?_
          refine wm_icmp_eq hC 63 (pc := 47) dX1_leadsAlike_47 (by decide) (by omega) (by omega) (fun h47 => ?_) (fun h47 => ?_)
          · have e : ldK w p i j k = true := by simp [ldK, h47]
            refine wm_iinc hC (pc := 63) dX1_leadsAlike_63 rfl rfl (by decide) rfl ?_
            refine wm_goto hC 13 (pc := 66) dX1_leadsAlike_66 (by decide) ?_
            exact ih _ (by omega) (k + 1) _ _ ⟨rfl, rfl, rfl⟩ rfl (by omega) (by simp [allb, hall, e])
          · refine wm_aload_n hC 0 (pc := 50) dX1_leadsAlike_50 rfl rfl ?_
            refine wm_iload hC  (pc := 51) dX1_leadsAlike_51 rfl ?_
            refine wm_iload hC  (pc := 53) dX1_leadsAlike_53 rfl ?_
            refine wm_pV hC cv_X1_39 kc_X1_areAlike rfl rfl (s_X1_areAlike (by omega) (by omega) hA) rfl (by decide) rfl (Nat.le_of_ble_eq_true rfl) (pc := 55) dX1_leadsAlike_55 ?_
            refine wm_ifb_ne hC 63 (pc := 58) dX1_leadsAlike_58 (by decide) (fun h58 => ?_) (fun h58 => ?_)
            · have e : ldK w p i j k = true := by simp [ldK, h58]
              refine wm_iinc hC (pc := 63) dX1_leadsAlike_63 rfl rfl (by decide) rfl ?_
              refine wm_goto hC 13 (pc := 66) dX1_leadsAlike_66 (by decide) ?_
              exact ih _ (by omega) (k + 1) _ _ ⟨rfl, rfl, rfl⟩ rfl (by omega) (by simp [allb, hall, e])
            · have e : ldK w p i j k = false := by simp [ldK, h58, h41, h47]
              refine wm_iconst hC (pc := 61) dX1_leadsAlike_61 ?_
              refine wm_zretP hC (pc := 62) dX1_leadsAlike_62 ?_ rfl
              have e1 : allb (ldK w p i j) 6 = false := by
                have : ∀ m, k < m → allb (ldK w p i j) m = false := by
                  intro m
                  induction m with
                  | zero => intro h; omega
                  | succ m ihm =>
                    intro h
                    by_cases hkm : k = m
                    · subst hkm; simp [allb, e]
                    · simp [allb, ihm (by omega)]
                exact this 6 (by omega)
              rw [e0, e1]; rfl
    exact lp13 _ 0 none none ⟨rfl, rfl, rfl⟩ rfl (by omega) rfl
  · have e0 : ldF w p i j = true := by unfold ldF; rw [decide_eq_true h5]; rfl
    refine wm_iconst hC (pc := 8) dX1_leadsAlike_8 ?_
    refine wm_zretP hC (pc := 9) dX1_leadsAlike_9 ?_ rfl
    rw [e0]; rfl
set_option maxRecDepth 100000 in
set_option maxHeartbeats 4000000 in
theorem s_X1_lowestAlike {l : Launch} {G : mG} {w : mW} {s : Nat} (hs : s < 8) (hA : AlkOK w) : Mx l G 2 yX1_lowestAlike cX1_lowestAlike 3 (some .int) [mvR 13, mvI (s : Int)] w (qP (mvI ((lowst (fun j => alk w s j) s 8 0 : Nat) : Int)) w) := by
  refine Mx.intro (by decide) RX1 rfl [some (mvR 13), some (mvI (s : Int)), none] (Nat.le_of_ble_eq_true rfl) rfl (fun K hC => ?_)
  refine wm_iconst hC (pc := 0) dX1_lowestAlike_0 ?_
  refine wm_istore_n hC 2 (pc := 1) dX1_lowestAlike_1 rfl (by decide) rfl ?_
  have lp2 : ∀ (n : Nat) (j : Nat), n = 8 - j → j ≤ 8 → lowst (fun j => alk w s j) s 8 0 = lowst (fun j => alk w s j) s (8 - j) j → Wm l G K 2 3 (qP (mvI ((lowst (fun j => alk w s j) s 8 0 : Nat) : Int)) w) 2 [some (mvR 13), some (mvI (s : Int)), some (mvI (j : Int))] [] w := by
    intro n
    induction n using Nat.strongRecOn with
    | _ n ih =>
    intro j hn hj he
    refine wm_iload_n hC 2 (pc := 2) dX1_lowestAlike_2 rfl rfl ?_
    refine wm_bipush hC (pc := 3) dX1_lowestAlike_3 (by decide) ?_
    refine wm_icmp_ge hC 25 (pc := 5) dX1_lowestAlike_5 (by decide) (by omega) (by omega) (fun h5 => ?_) (fun h5 => ?_)
    · refine wm_iload_n hC 1 (pc := 25) dX1_lowestAlike_25 rfl rfl ?_
      refine wm_iretP hC (pc := 26) dX1_lowestAlike_26 ?_ rfl
      have : j = 8 := by omega
      subst this
      rw [he]; rfl
    · refine wm_aload_n hC 0 (pc := 8) dX1_lowestAlike_8 rfl rfl ?_
      refine wm_iload_n hC 1 (pc := 9) dX1_lowestAlike_9 rfl rfl ?_
      refine wm_iload_n hC 2 (pc := 10) dX1_lowestAlike_10 rfl rfl ?_
      refine wm_pV hC cv_X1_39 kc_X1_areAlike rfl rfl (s_X1_areAlike (by omega) (by omega) hA) rfl (by decide) rfl (Nat.le_of_ble_eq_true rfl) (pc := 11) dX1_lowestAlike_11 ?_
      refine wm_ifb_eq hC 19 (pc := 14) dX1_lowestAlike_14 (by decide) (fun h14 => ?_) (fun h14 => ?_)
      · refine wm_iinc hC (pc := 19) dX1_lowestAlike_19 rfl rfl (by decide) rfl ?_
        refine wm_goto hC 2 (pc := 22) dX1_lowestAlike_22 (by decide) ?_
        exact ih _ (by omega) (j + 1) rfl (by omega) (by rw [he, show 8 - j = (8 - (j + 1)) + 1 by omega]; simp [lowst, h14])
      · refine wm_iload_n hC 2 (pc := 17) dX1_lowestAlike_17 rfl rfl ?_
        refine wm_iretP hC (pc := 18) dX1_lowestAlike_18 ?_ rfl
        rw [he, show 8 - j = (8 - (j + 1)) + 1 by omega]; simp [lowst, h14]
  exact lp2 _ 0 rfl (by omega) rfl
set_option maxRecDepth 100000 in
set_option maxHeartbeats 4000000 in
theorem s_X1_part {l : Launch} {G : mG} {w : mW} {p : Nat} (hp : PlanIx p) (hk : PlanOK w p) (hA : AlkOK w) : Mx l G 3 yX1_part cX1_part 4 none [mvR 13, mvR p] w (qV (fun w' => w' = pall w p 8)) := by
  refine Mx.intro (by decide) RX1 rfl [some (mvR 13), some (mvR p), none, none] (Nat.le_of_ble_eq_true rfl) rfl (fun K hC => ?_)
  refine wm_iconst hC (pc := 0) dX1_part_0 ?_
  refine wm_istore_n hC 2 (pc := 1) dX1_part_1 rfl (by decide) rfl ?_
  have lp2 : ∀ (n : Nat) (i : Nat) (o : Option mV), n = 8 - i → i ≤ 8 → Wm l G K 3 4 (qV (fun w' => w' = pall w p 8)) 2 [some (mvR 13), some (mvR p), some (mvI (i : Int)), o] [] (pall w p i) := by
    intro n
    induction n using Nat.strongRecOn with
    | _ n ih =>
    intro i o hn hi
    refine wm_iload_n hC 2 (pc := 2) dX1_part_2 rfl rfl ?_
    refine wm_bipush hC (pc := 3) dX1_part_3 (by decide) ?_
    refine wm_icmp_ge hC 50 (pc := 5) dX1_part_5 (by decide) (by omega) (by omega) (fun h5 => ?_) (fun h5 => ?_)
    · refine wm_retV hC (pc := 50) dX1_part_50 ?_
      obtain rfl : i = 8 := by omega
      rfl
    · refine wm_iconst hC (pc := 8) dX1_part_8 ?_
      refine wm_istore_n hC 3 (pc := 9) dX1_part_9 rfl (by decide) rfl ?_
      have lp10 : ∀ (n : Nat) (j : Nat), n = 8 - j → j ≤ 8 → Wm l G K 3 4 (qV (fun w' => w' = pall w p 8)) 10 [some (mvR 13), some (mvR p), some (mvI (i : Int)), some (mvI (j : Int))] [] (prow (pall w p i) p i j) := by
        intro n
        induction n using Nat.strongRecOn with
        | _ n ih =>
        intro j hm hj
        rename_i n0 ih0
        refine wm_iload_n hC 3 (pc := 10) dX1_part_10 rfl rfl ?_
        refine wm_bipush hC (pc := 11) dX1_part_11 (by decide) ?_
        refine wm_icmp_ge hC 44 (pc := 13) dX1_part_13 (by decide) (by omega) (by omega) (fun h13 => ?_) (fun h13 => ?_)
        · refine wm_iinc hC (pc := 44) dX1_part_44 rfl rfl (by decide) rfl ?_
          refine wm_goto hC 2 (pc := 47) dX1_part_47 (by decide) ?_
          obtain rfl : j = 8 := by omega
          exact ih0 _ (by omega) (i + 1) _ rfl (by omega)
        · refine wm_aload_n hC 0 (pc := 16) dX1_part_16 rfl rfl ?_
          refine wm_aload_n hC 1 (pc := 17) dX1_part_17 rfl rfl ?_
          refine wm_iload_n hC 2 (pc := 18) dX1_part_18 rfl rfl ?_
          refine wm_iload_n hC 3 (pc := 19) dX1_part_19 rfl rfl ?_
          refine wm_pV hC cv_X1_23 kc_X1_leadsAlike rfl rfl (s_X1_leadsAlike hp (by omega) (by omega) (hk.congr (prow_ne hp.ne14 _ |>.trans (pall_ne hp.ne14 _))) (alkOK_prow (alkOK_pall hA _) _)) rfl (by decide) rfl (Nat.le_of_ble_eq_true rfl) (pc := 20) dX1_part_20 ?_
          refine wm_ifb_ne hC 38 (pc := 23) dX1_part_23 (by decide) (fun h23 => ?_) (fun h23 => ?_)
          · have e : prow (pall w p i) p i (j + 1) = prow (pall w p i) p i j := by simp [prow, h23]
            refine wm_iinc hC (pc := 38) dX1_part_38 rfl rfl (by decide) rfl ?_
            refine wm_goto hC 10 (pc := 41) dX1_part_41 (by decide) ?_
            have hh := ih _ (by omega) (j + 1) rfl (by omega)
            rw [e] at hh
            exact hh
          · have e : prow (pall w p i) p i (j + 1) = mup (prow (pall w p i) p i j) 14 ((i : Int) * 8 + (j : Int)) 0 := by simp [prow, h23]
            refine wm_aload_n hC 0 (pc := 26) dX1_part_26 rfl rfl ?_
            refine wm_getR hC fl_X1_9_1 rfl rfl (pc := 27) dX1_part_27 ?_
            refine wm_iload_n hC 2 (pc := 30) dX1_part_30 rfl rfl ?_
            refine wm_bipush hC (pc := 31) dX1_part_31 (by decide) ?_
            refine wm_imul hC (pc := 33) dX1_part_33 ?_
            refine wm_iload_n hC 3 (pc := 34) dX1_part_34 rfl rfl ?_
            refine wm_iadd hC (pc := 35) dX1_part_35 ?_
            refine wm_iconst hC (pc := 36) dX1_part_36 ?_
            refine wm_bastore hC rfl (by omega) (by decide) (Or.inl rfl) (pc := 37) dX1_part_37 ?_
            refine wm_iinc hC (pc := 38) dX1_part_38 rfl rfl (by decide) rfl ?_
            refine wm_goto hC 10 (pc := 41) dX1_part_41 (by decide) ?_
            have hh := ih _ (by omega) (j + 1) rfl (by omega)
            rw [e] at hh
            exact hh
      exact lp10 _ 0 rfl (by omega)
  exact lp2 _ 0 none rfl (by omega)
set_option maxRecDepth 100000 in
set_option maxHeartbeats 4000000 in
theorem s_X1_compare {l : Launch} {G : mG} {w : mW} {p : Nat} (hp : PlanIx p) (hk : PlanOK w p) : Mx l G 4 yX1_compare cX1_compare 4 none [mvR 13, mvR p] w (qV (fun w' => w' = cmpF w p 7)) := by
  refine Mx.intro (by decide) RX1 rfl [some (mvR 13), some (mvR p), none, none] (Nat.le_of_ble_eq_true rfl) rfl (fun K hC => ?_)
  refine wm_iconst hC (pc := 0) dX1_compare_0 ?_
  refine wm_istore_n hC 2 (pc := 1) dX1_compare_1 rfl (by decide) rfl ?_
  have lp2 : ∀ (n : Nat) (i : Nat) (o : Option mV), n = 8 - i → i ≤ 8 → Wm l G K 4 4 (qV (fun w' => w' = cmpF w p 7)) 2 [some (mvR 13), some (mvR p), some (mvI (i : Int)), o] [] (iall w p i) := by
    intro n
    induction n using Nat.strongRecOn with
    | _ n ih =>
    intro i o hn hi
    refine wm_iload_n hC 2 (pc := 2) dX1_compare_2 rfl rfl ?_
    refine wm_bipush hC (pc := 3) dX1_compare_3 (by decide) ?_
    refine wm_icmp_ge hC 45 (pc := 5) dX1_compare_5 (by decide) (by omega) (by omega) (fun h5 => ?_) (fun h5 => ?_)
    · refine wm_iconst hC (pc := 45) dX1_compare_45 ?_
      refine wm_istore_n hC 2 (pc := 46) dX1_compare_46 rfl (by decide) rfl ?_
      have lp47 : ∀ (n : Nat) (r : Nat) (o : Option mV), n = 7 - r → r ≤ 7 → Wm l G K 4 4 (qV (fun w' => w' = cmpF w p 7)) 47 [some (mvR 13), some (mvR p), some (mvI ((r + 1 : Nat) : Int)), o] [] (cmpF w p r) := by
        intro n
        induction n using Nat.strongRecOn with
        | _ n ih =>
        intro r o hn hr
        refine wm_iload_n hC 2 (pc := 47) dX1_compare_47 rfl rfl ?_
        refine wm_bipush hC (pc := 48) dX1_compare_48 (by decide) ?_
        refine wm_icmp_ge hC 64 (pc := 50) dX1_compare_50 (by decide) (by omega) (by omega) (fun h50 => ?_) (fun h50 => ?_)
        · refine wm_retV hC (pc := 64) dX1_compare_64 ?_
          obtain rfl : r = 7 := by omega
          rfl
        · refine wm_aload_n hC 0 (pc := 53) dX1_compare_53 rfl rfl ?_
          refine wm_aload_n hC 1 (pc := 54) dX1_compare_54 rfl rfl ?_
          refine wm_vV hC cv_X1_19 kc_X1_part rfl rfl (s_X1_part hp (hk.congr (cmpF_ne hp.ne14 _)) (alkOK_cmpF _ _ _)) rfl (by decide) rfl (Nat.le_of_ble_eq_true rfl) (pc := 55) dX1_compare_55 (fun w55 hw55 => ?_)
          subst hw55
          refine wm_iinc hC (pc := 58) dX1_compare_58 rfl rfl (by decide) rfl ?_
          refine wm_goto hC 47 (pc := 61) dX1_compare_61 (by decide) ?_
          exact ih _ (by omega) (r + 1) _ rfl (by omega)
      obtain rfl : i = 8 := by omega
      exact lp47 _ 0 _ rfl (by omega)
    · refine wm_iconst hC (pc := 8) dX1_compare_8 ?_
      refine wm_istore_n hC 3 (pc := 9) dX1_compare_9 rfl (by decide) rfl ?_
      have lp10 : ∀ (n : Nat) (j : Nat), n = 8 - j → j ≤ 8 → Wm l G K 4 4 (qV (fun w' => w' = cmpF w p 7)) 10 [some (mvR 13), some (mvR p), some (mvI (i : Int)), some (mvI (j : Int))] [] (irow (iall w p i) p i j) := by
        intro n
        induction n using Nat.strongRecOn with
        | _ n ih =>
        intro j hm hj
        rename_i n0 ih0
        refine wm_iload_n hC 3 (pc := 10) dX1_compare_10 rfl rfl ?_
        refine wm_bipush hC (pc := 11) dX1_compare_11 (by decide) ?_
        refine wm_icmp_ge hC 39 (pc := 13) dX1_compare_13 (by decide) (by omega) (by omega) (fun h13 => ?_) (fun h13 => ?_)
        · refine wm_iinc hC (pc := 39) dX1_compare_39 rfl rfl (by decide) rfl ?_
          refine wm_goto hC 2 (pc := 42) dX1_compare_42 (by decide) ?_
          obtain rfl : j = 8 := by omega
          exact ih0 _ (by omega) (i + 1) _ rfl (by omega)
        · refine wm_aload_n hC 0 (pc := 16) dX1_compare_16 rfl rfl ?_
          refine wm_getR hC fl_X1_9_1 rfl rfl (pc := 17) dX1_compare_17 ?_
          refine wm_iload_n hC 2 (pc := 20) dX1_compare_20 rfl rfl ?_
          refine wm_bipush hC (pc := 21) dX1_compare_21 (by decide) ?_
          refine wm_imul hC (pc := 23) dX1_compare_23 ?_
          refine wm_iload_n hC 3 (pc := 24) dX1_compare_24 rfl rfl ?_
          refine wm_iadd hC (pc := 25) dX1_compare_25 ?_
          refine wm_aload_n hC 1 (pc := 26) dX1_compare_26 rfl rfl ?_
          refine wm_iload_n hC 2 (pc := 27) dX1_compare_27 rfl rfl ?_
          refine wm_iload_n hC 3 (pc := 28) dX1_compare_28 rfl rfl ?_
          refine wm_pS hC cs_X1_15 kc_X1_looksAlike (s_X1_looksAlike hp (by omega) (by omega) (hk.congr (irow_ne hp.ne14 _ |>.trans (iall_ne hp.ne14 _)))) rfl (by decide) rfl (Nat.le_of_ble_eq_true rfl) (pc := 29) dX1_compare_29 ?_
          refine wm_bastore hC rfl (by omega) (by decide) (mb_01 _) (pc := 32) dX1_compare_32 ?_
          refine wm_iinc hC (pc := 33) dX1_compare_33 rfl rfl (by decide) rfl ?_
          refine wm_goto hC 10 (pc := 36) dX1_compare_36 (by decide) ?_
          have e : irow (iall w p i) p i (j + 1) = mup (irow (iall w p i) p i j) 14 ((i : Int) * 8 + (j : Int)) (mb (lookF (irow (iall w p i) p i j) p i j)) := by
            rw [lookF_congr (irow_ne hp.ne14 _)]; rfl
          have hh := ih _ (by omega) (j + 1) rfl (by omega)
          rw [e] at hh
          exact hh
      exact lp10 _ 0 rfl (by omega)
  exact lp2 _ 0 none rfl (by omega)
/-- what is told of a state -/
def stF (w : mW) (p : Nat) (s : Nat) (c : Int) : Int :=
  if c = 0 then w (p + 1) ((s : Int) * 7) else if c = 1 then ((wmask (hasW w p s) 6 : Nat) : Int) else if c = 2 then ((lowF w p s : Nat) : Int) else if c = 3 then ((comesF w p s : Nat) : Int)
  else if w (p + 1) ((s : Int) * 7 + 1 + (c - 10)) = -1 then -1000004 else w (p + 1) ((s : Int) * 7 + 1 + (c - 10))
set_option maxRecDepth 100000 in
set_option maxHeartbeats 4000000 in
theorem s_X8_stateOf {l : Launch} {G : mG} {w : mW} {a b c : Int} (hI : CInv w) (ha : -2147483648 ≤ a ∧ a < 2147483648) (hb : -2147483648 ≤ b ∧ b < 2147483648) (hc : -2147483648 ≤ c ∧ c < 2147483648) : Mx l G 5 yX8_stateOf cX8_stateOf 6 (some .int) [mvR 0, mvI a, mvI b, mvI c] w (qI (fun z w' => (¬ (0 ≤ a ∧ a < 3 ∧ 0 ≤ b ∧ b < 8 ∧ ((0 ≤ c ∧ c ≤ 3) ∨ (10 ≤ c ∧ c < 16))) ∧ z = -1000001 ∧ w' = w) ∨ ((0 ≤ a ∧ a < 3 ∧ 0 ≤ b ∧ b < 8 ∧ ((0 ≤ c ∧ c ≤ 3) ∨ (10 ≤ c ∧ c < 16))) ∧ z = stF w (2 * a.toNat + 1) b.toNat c ∧ ∀ i : Nat, i ≠ 14 → w' i = w i))) := by
  refine Mx.intro (by decide) RX8 rfl [some (mvR 0), some (mvI a), some (mvI b), some (mvI c), none, none] (Nat.le_of_ble_eq_true rfl) rfl (fun K hC => ?_)
  have j50 : ∀ (x : Int), (0 ≤ a ∧ a < 3 ∧ 0 ≤ b ∧ b < 8 ∧ ((0 ≤ c ∧ c ≤ 3) ∨ (10 ≤ c ∧ c < 16))) → Wm l G K 5 6 (qI (fun z w' => (¬ (0 ≤ a ∧ a < 3 ∧ 0 ≤ b ∧ b < 8 ∧ ((0 ≤ c ∧ c ≤ 3) ∨ (10 ≤ c ∧ c < 16))) ∧ z = -1000001 ∧ w' = w) ∨ ((0 ≤ a ∧ a < 3 ∧ 0 ≤ b ∧ b < 8 ∧ ((0 ≤ c ∧ c ≤ 3) ∨ (10 ≤ c ∧ c < 16))) ∧ z = stF w (2 * a.toNat + 1) b.toNat c ∧ ∀ i : Nat, i ≠ 14 → w' i = w i))) 50 [some (mvR 0), some (mvI a), some (mvI b), some (mvI c), some (mvI x), none] [] w := by
    intro x hv
    have ho : True := trivial
    obtain ⟨p, rfl⟩ : ∃ p : Nat, a = (p : Int) := ⟨a.toNat, by omega⟩
    have hp : p < 3 := by omega
    obtain ⟨s, rfl⟩ : ∃ s : Nat, b = (s : Int) := ⟨b.toNat, by omega⟩
    refine wm_aload_n hC 0 (pc := 50) dX8_stateOf_50 rfl rfl ?_
    refine wm_iload_n hC 1 (pc := 51) dX8_stateOf_51 rfl rfl ?_
    refine wm_pV hC cv_X8_80 kc_X8_planAt rfl rfl (s_X8_planAt hp) rfl (by decide) rfl (Nat.le_of_ble_eq_true rfl) (pc := 52) dX8_stateOf_52 ?_
    refine wm_astore hC  (pc := 55) dX8_stateOf_55  (by decide) rfl ?_
    refine wm_iload_n hC 3 (pc := 57) dX8_stateOf_57 rfl rfl ?_
    by_cases sw58_0 : c = 0
    · refine wm_tableIn hC 88 (0) (pc := 58) dX8_stateOf_58 sw58_0 (by decide) rfl (by decide) ?_
      refine wm_aload hC  (pc := 88) dX8_stateOf_88 rfl ?_
      refine wm_iload_n hC 2 (pc := 90) dX8_stateOf_90 rfl rfl ?_
      refine wm_pV hC cv_X8_84 kc_X3_kindOf (planIxP hp).1 rfl (s_X3_kindOf (planIxP hp) (by omega)) rfl (by decide) rfl (Nat.le_of_ble_eq_true rfl) (pc := 91) dX8_stateOf_91 ?_
      refine wm_iretI hC (pc := 94) dX8_stateOf_94 ?_
      right
      exact ⟨hv, by subst sw58_0; rfl, fun i _ => rfl⟩
    by_cases sw58_1 : c = 1
    · refine wm_tableIn hC 95 (1) (pc := 58) dX8_stateOf_58 sw58_1 (by decide) rfl (by decide) ?_
      refine wm_aload hC  (pc := 95) dX8_stateOf_95 rfl ?_
      refine wm_iload_n hC 2 (pc := 97) dX8_stateOf_97 rfl rfl ?_
      refine wm_pV hC cv_X8_99 kc_X3_wordsOf (planIxP hp).1 rfl (s_X3_wordsOf (planIxP hp) (by omega) (hI.1 p hp)) rfl (by decide) rfl (Nat.le_of_ble_eq_true rfl) (pc := 98) dX8_stateOf_98 ?_
      refine wm_iretI hC (pc := 101) dX8_stateOf_101 ?_
      right
      exact ⟨hv, by subst sw58_1; rfl, fun i _ => rfl⟩
    by_cases sw58_2 : c = 2
    · refine wm_tableIn hC 102 (2) (pc := 58) dX8_stateOf_58 sw58_2 (by decide) rfl (by decide) ?_
      refine wm_aload_n hC 0 (pc := 102) dX8_stateOf_102 rfl rfl ?_
      refine wm_getR hC fl_X8_39_7 rfl rfl (pc := 103) dX8_stateOf_103 ?_
      refine wm_aload hC  (pc := 106) dX8_stateOf_106 rfl ?_
      refine wm_vV hC cv_X8_122 kc_X1_compare rfl rfl (s_X1_compare (planIxP hp) (hI.1 p hp)) rfl (by decide) rfl (Nat.le_of_ble_eq_true rfl) (pc := 108) dX8_stateOf_108 (fun w108 hw108 => ?_)
      subst hw108
      refine wm_aload_n hC 0 (pc := 111) dX8_stateOf_111 rfl rfl ?_
      refine wm_getR hC fl_X8_39_7 rfl rfl (pc := 112) dX8_stateOf_112 ?_
      refine wm_iload_n hC 2 (pc := 115) dX8_stateOf_115 rfl rfl ?_
      refine wm_pV hC cv_X8_125 kc_X1_lowestAlike rfl rfl (s_X1_lowestAlike (by omega) (alkOK_cmpF _ _ _)) rfl (by decide) rfl (Nat.le_of_ble_eq_true rfl) (pc := 116) dX8_stateOf_116 ?_
      refine wm_iretI hC (pc := 119) dX8_stateOf_119 ?_
      right
      exact ⟨hv, by subst sw58_2; rfl, fun i h => cmpF_ne h 7⟩
    by_cases sw58_3 : c = 3
    · refine wm_tableIn hC 120 (3) (pc := 58) dX8_stateOf_58 sw58_3 (by decide) rfl (by decide) ?_
      refine wm_aload hC  (pc := 120) dX8_stateOf_120 rfl ?_
      refine wm_iload_n hC 2 (pc := 122) dX8_stateOf_122 rfl rfl ?_
      refine wm_pV hC cv_X8_128 kc_X3_comesTo (planIxP hp).1 rfl (s_X3_comesTo (planIxP hp) (by omega) (hI.1 p hp)) rfl (by decide) rfl (Nat.le_of_ble_eq_true rfl) (pc := 123) dX8_stateOf_123 ?_
      refine wm_iretI hC (pc := 126) dX8_stateOf_126 ?_
      right
      exact ⟨hv, by subst sw58_3; rfl, fun i _ => rfl⟩
    refine wm_tableOut hC 127 (pc := 58) dX8_stateOf_58 (by decide) (by omega) (by omega) ?_
    refine wm_aload hC  (pc := 127) dX8_stateOf_127 rfl ?_
    refine wm_iload_n hC 2 (pc := 129) dX8_stateOf_129 rfl rfl ?_
    refine wm_iload_n hC 3 (pc := 130) dX8_stateOf_130 rfl rfl ?_
    refine wm_bipush hC (pc := 131) dX8_stateOf_131 (by decide) ?_
    refine wm_isub hC (pc := 133) dX8_stateOf_133 ?_
    refine wm_pV hC cv_X8_107 kc_X3_targetOf (planIxP hp).1 rfl (s_X3_targetOf (planIxP hp) (by omega) (by omega)) rfl (by decide) rfl (Nat.le_of_ble_eq_true rfl) (pc := 134) dX8_stateOf_134 ?_
    refine wm_pS hC cs_X8_131 kc_X8_foundOr (s_X8_foundOr (by have := (hI.1 p hp s (by omega) (by omega)).2 (c - 10) (by omega) (by omega); omega)) rfl (by decide) rfl (Nat.le_of_ble_eq_true rfl) (pc := 137) dX8_stateOf_137 ?_
    refine wm_iretI hC (pc := 140) dX8_stateOf_140 ?_
    right
    exact ⟨hv, by simp only [stF, sw58_0, sw58_1, sw58_2, sw58_3, if_false]; rfl, fun i _ => rfl⟩
  refine wm_iload_n hC 3 (pc := 0) dX8_stateOf_0 rfl rfl ?_
  refine wm_bipush hC (pc := 1) dX8_stateOf_1 (by decide) ?_
  refine wm_icmp_lt hC 16 (pc := 3) dX8_stateOf_3 (by decide) (by omega) (by omega) (fun h3 => ?_) (fun h3 => ?_)
  · refine wm_iconst hC (pc := 16) dX8_stateOf_16 ?_
    refine wm_istore hC  (pc := 17) dX8_stateOf_17  (by decide) rfl ?_
    refine wm_iload_n hC 1 (pc := 19) dX8_stateOf_19 rfl rfl ?_
    refine wm_pS hC cs_X8_66 kc_X8_isPlan (s_X8_isPlan (by omega)) rfl (by decide) rfl (Nat.le_of_ble_eq_true rfl) (pc := 20) dX8_stateOf_20 ?_
    refine wm_ifd_eq hC 47 (pc := 23) dX8_stateOf_23 (by decide) (fun h23 => ?_) (fun h23 => ?_)
    · refine wm_ldc hC (-1000001) kI_X8_76 (pc := 47) dX8_stateOf_47 ?_
      refine wm_iretI hC (pc := 49) dX8_stateOf_49 ?_
      left
      exact ⟨by omega, rfl, rfl⟩
    · refine wm_iload_n hC 2 (pc := 26) dX8_stateOf_26 rfl rfl ?_
      refine wm_pS hC cs_X8_70 kc_X8_isState (s_X8_isState (by omega)) rfl (by decide) rfl (Nat.le_of_ble_eq_true rfl) (pc := 27) dX8_stateOf_27 ?_
      refine wm_ifd_eq hC 47 (pc := 30) dX8_stateOf_30 (by decide) (fun h30 => ?_) (fun h30 => ?_)
      · refine wm_ldc hC (-1000001) kI_X8_76 (pc := 47) dX8_stateOf_47 ?_
        refine wm_iretI hC (pc := 49) dX8_stateOf_49 ?_
        left
        exact ⟨by omega, rfl, rfl⟩
      · refine wm_iload hC  (pc := 33) dX8_stateOf_33 rfl ?_
        refine wm_if_ne hC 50 (pc := 35) dX8_stateOf_35 (by decide) (by omega) (fun h35 => ?_) (fun h35 => ?_)
        · exact j50 _ (by omega)
        · refine wm_iload_n hC 3 (pc := 38) dX8_stateOf_38 rfl rfl ?_
          refine wm_if_lt hC 47 (pc := 39) dX8_stateOf_39 (by decide) (by omega) (fun h39 => ?_) (fun h39 => ?_)
          · refine wm_ldc hC (-1000001) kI_X8_76 (pc := 47) dX8_stateOf_47 ?_
            refine wm_iretI hC (pc := 49) dX8_stateOf_49 ?_
            left
            exact ⟨by omega, rfl, rfl⟩
          · refine wm_iload_n hC 3 (pc := 42) dX8_stateOf_42 rfl rfl ?_
            refine wm_iconst hC (pc := 43) dX8_stateOf_43 ?_
            refine wm_icmp_le hC 50 (pc := 44) dX8_stateOf_44 (by decide) (by omega) (by omega) (fun h44 => ?_) (fun h44 => ?_)
            · exact j50 _ (by omega)
            · refine wm_ldc hC (-1000001) kI_X8_76 (pc := 47) dX8_stateOf_47 ?_
              refine wm_iretI hC (pc := 49) dX8_stateOf_49 ?_
              left
              exact ⟨by omega, rfl, rfl⟩
  · refine wm_iload_n hC 3 (pc := 6) dX8_stateOf_6 rfl rfl ?_
    refine wm_bipush hC (pc := 7) dX8_stateOf_7 (by decide) ?_
    refine wm_icmp_ge hC 16 (pc := 9) dX8_stateOf_9 (by decide) (by omega) (by omega) (fun h9 => ?_) (fun h9 => ?_)
    · refine wm_iconst hC (pc := 16) dX8_stateOf_16 ?_
      refine wm_istore hC  (pc := 17) dX8_stateOf_17  (by decide) rfl ?_
      refine wm_iload_n hC 1 (pc := 19) dX8_stateOf_19 rfl rfl ?_
      refine wm_pS hC cs_X8_66 kc_X8_isPlan (s_X8_isPlan (by omega)) rfl (by decide) rfl (Nat.le_of_ble_eq_true rfl) (pc := 20) dX8_stateOf_20 ?_
      refine wm_ifd_eq hC 47 (pc := 23) dX8_stateOf_23 (by decide) (fun h23 => ?_) (fun h23 => ?_)
      · refine wm_ldc hC (-1000001) kI_X8_76 (pc := 47) dX8_stateOf_47 ?_
        refine wm_iretI hC (pc := 49) dX8_stateOf_49 ?_
        left
        exact ⟨by omega, rfl, rfl⟩
      · refine wm_iload_n hC 2 (pc := 26) dX8_stateOf_26 rfl rfl ?_
        refine wm_pS hC cs_X8_70 kc_X8_isState (s_X8_isState (by omega)) rfl (by decide) rfl (Nat.le_of_ble_eq_true rfl) (pc := 27) dX8_stateOf_27 ?_
        refine wm_ifd_eq hC 47 (pc := 30) dX8_stateOf_30 (by decide) (fun h30 => ?_) (fun h30 => ?_)
        · refine wm_ldc hC (-1000001) kI_X8_76 (pc := 47) dX8_stateOf_47 ?_
          refine wm_iretI hC (pc := 49) dX8_stateOf_49 ?_
          left
          exact ⟨by omega, rfl, rfl⟩
        · refine wm_iload hC  (pc := 33) dX8_stateOf_33 rfl ?_
          refine wm_if_ne hC 50 (pc := 35) dX8_stateOf_35 (by decide) (by omega) (fun h35 => ?_) (fun h35 => ?_)
          · exact j50 _ (by omega)
          · refine wm_iload_n hC 3 (pc := 38) dX8_stateOf_38 rfl rfl ?_
            refine wm_if_lt hC 47 (pc := 39) dX8_stateOf_39 (by decide) (by omega) (fun h39 => ?_) (fun h39 => ?_)
            · refine wm_ldc hC (-1000001) kI_X8_76 (pc := 47) dX8_stateOf_47 ?_
              refine wm_iretI hC (pc := 49) dX8_stateOf_49 ?_
              left
              exact ⟨by omega, rfl, rfl⟩
            · refine wm_iload_n hC 3 (pc := 42) dX8_stateOf_42 rfl rfl ?_
              refine wm_iconst hC (pc := 43) dX8_stateOf_43 ?_
              refine wm_icmp_le hC 50 (pc := 44) dX8_stateOf_44 (by decide) (by omega) (by omega) (fun h44 => ?_) (fun h44 => ?_)
              · exact j50 _ (by omega)
              · refine wm_ldc hC (-1000001) kI_X8_76 (pc := 47) dX8_stateOf_47 ?_
                refine wm_iretI hC (pc := 49) dX8_stateOf_49 ?_
                left
                exact ⟨by omega, rfl, rfl⟩
    · refine wm_iconst hC (pc := 12) dX8_stateOf_12 ?_
      refine wm_goto hC 17 (pc := 13) dX8_stateOf_13 (by decide) ?_
      refine wm_istore hC  (pc := 17) dX8_stateOf_17  (by decide) rfl ?_
      refine wm_iload_n hC 1 (pc := 19) dX8_stateOf_19 rfl rfl ?_
      refine wm_pS hC cs_X8_66 kc_X8_isPlan (s_X8_isPlan (by omega)) rfl (by decide) rfl (Nat.le_of_ble_eq_true rfl) (pc := 20) dX8_stateOf_20 ?_
      refine wm_ifd_eq hC 47 (pc := 23) dX8_stateOf_23 (by decide) (fun h23 => ?_) (fun h23 => ?_)
      · refine wm_ldc hC (-1000001) kI_X8_76 (pc := 47) dX8_stateOf_47 ?_
        refine wm_iretI hC (pc := 49) dX8_stateOf_49 ?_
        left
        exact ⟨by omega, rfl, rfl⟩
      · refine wm_iload_n hC 2 (pc := 26) dX8_stateOf_26 rfl rfl ?_
        refine wm_pS hC cs_X8_70 kc_X8_isState (s_X8_isState (by omega)) rfl (by decide) rfl (Nat.le_of_ble_eq_true rfl) (pc := 27) dX8_stateOf_27 ?_
        refine wm_ifd_eq hC 47 (pc := 30) dX8_stateOf_30 (by decide) (fun h30 => ?_) (fun h30 => ?_)
        · refine wm_ldc hC (-1000001) kI_X8_76 (pc := 47) dX8_stateOf_47 ?_
          refine wm_iretI hC (pc := 49) dX8_stateOf_49 ?_
          left
          exact ⟨by omega, rfl, rfl⟩
        · refine wm_iload hC  (pc := 33) dX8_stateOf_33 rfl ?_
          refine wm_if_ne hC 50 (pc := 35) dX8_stateOf_35 (by decide) (by omega) (fun h35 => ?_) (fun h35 => ?_)
          · exact j50 _ (by omega)
          · refine wm_iload_n hC 3 (pc := 38) dX8_stateOf_38 rfl rfl ?_
            refine wm_if_lt hC 47 (pc := 39) dX8_stateOf_39 (by decide) (by omega) (fun h39 => ?_) (fun h39 => ?_)
            · refine wm_ldc hC (-1000001) kI_X8_76 (pc := 47) dX8_stateOf_47 ?_
              refine wm_iretI hC (pc := 49) dX8_stateOf_49 ?_
              left
              exact ⟨by omega, rfl, rfl⟩
            · refine wm_iload_n hC 3 (pc := 42) dX8_stateOf_42 rfl rfl ?_
              refine wm_iconst hC (pc := 43) dX8_stateOf_43 ?_
              refine wm_icmp_le hC 50 (pc := 44) dX8_stateOf_44 (by decide) (by omega) (by omega) (fun h44 => ?_) (fun h44 => ?_)
              · exact j50 _ (by omega)
              · refine wm_ldc hC (-1000001) kI_X8_76 (pc := 47) dX8_stateOf_47 ?_
                refine wm_iretI hC (pc := 49) dX8_stateOf_49 ?_
                left
                exact ⟨by omega, rfl, rfl⟩
set_option maxRecDepth 100000 in
set_option maxHeartbeats 4000000 in
theorem s_X8_unlike {l : Launch} {G : mG} {w : mW} {a : Int} (hI : CInv w) (ha : -2147483648 ≤ a ∧ a < 2147483648) : Mx l G 5 yX8_unlike cX8_unlike 5 (some .int) [mvR 0, mvI a] w (qI (fun z w' => (¬ (0 ≤ a ∧ a < 3) ∧ z = -1000001 ∧ w' = w) ∨ ((0 ≤ a ∧ a < 3) ∧ z = ((mpop (unF (comesF w (2 * a.toNat + 1) 0) (lowF w (2 * a.toNat + 1)) 8) : Nat) : Int) ∧ ∀ i : Nat, i ≠ 14 → w' i = w i))) := by
  refine Mx.intro (by decide) RX8 rfl [some (mvR 0), some (mvI a), none, none, none] (Nat.le_of_ble_eq_true rfl) rfl (fun K hC => ?_)
  refine wm_iload_n hC 1 (pc := 0) dX8_unlike_0 rfl rfl ?_
  refine wm_pS hC cs_X8_66 kc_X8_isPlan (s_X8_isPlan (by omega)) rfl (by decide) rfl (Nat.le_of_ble_eq_true rfl) (pc := 1) dX8_unlike_1 ?_
  refine wm_ifd_ne hC 10 (pc := 4) dX8_unlike_4 (by decide) (fun h4 => ?_) (fun h4 => ?_)
  · obtain ⟨p, rfl⟩ : ∃ p : Nat, a = (p : Int) := ⟨a.toNat, by omega⟩
    have hp : p < 3 := by omega
    refine wm_aload_n hC 0 (pc := 10) dX8_unlike_10 rfl rfl ?_
    refine wm_iload_n hC 1 (pc := 11) dX8_unlike_11 rfl rfl ?_
    refine wm_pV hC cv_X8_80 kc_X8_planAt rfl rfl (s_X8_planAt hp) rfl (by decide) rfl (Nat.le_of_ble_eq_true rfl) (pc := 12) dX8_unlike_12 ?_
    refine wm_iconst hC (pc := 15) dX8_unlike_15 ?_
    refine wm_pV hC cv_X8_128 kc_X3_comesTo (planIxP hp).1 rfl (s_X3_comesTo (s := 0) (planIxP hp) (by decide) (hI.1 p hp)) rfl (by decide) rfl (Nat.le_of_ble_eq_true rfl) (pc := 16) dX8_unlike_16 ?_
    refine wm_istore_n hC 2 (pc := 19) dX8_unlike_19 rfl (by decide) rfl ?_
    refine wm_aload_n hC 0 (pc := 20) dX8_unlike_20 rfl rfl ?_
    refine wm_getR hC fl_X8_39_7 rfl rfl (pc := 21) dX8_unlike_21 ?_
    refine wm_aload_n hC 0 (pc := 24) dX8_unlike_24 rfl rfl ?_
    refine wm_iload_n hC 1 (pc := 25) dX8_unlike_25 rfl rfl ?_
    refine wm_pV hC cv_X8_80 kc_X8_planAt rfl rfl (s_X8_planAt hp) rfl (by decide) rfl (Nat.le_of_ble_eq_true rfl) (pc := 26) dX8_unlike_26 ?_
    refine wm_vV hC cv_X8_122 kc_X1_compare rfl rfl (s_X1_compare (planIxP hp) (hI.1 p hp)) rfl (by decide) rfl (Nat.le_of_ble_eq_true rfl) (pc := 29) dX8_unlike_29 (fun w29 hw29 => ?_)
    subst hw29
    refine wm_iconst hC (pc := 32) dX8_unlike_32 ?_
    refine wm_istore_n hC 3 (pc := 33) dX8_unlike_33 rfl (by decide) rfl ?_
    refine wm_iconst hC (pc := 34) dX8_unlike_34 ?_
    refine wm_istore hC  (pc := 35) dX8_unlike_35  (by decide) rfl ?_
    have lp37 : ∀ (n : Nat) (j : Nat), n = 8 - j → j ≤ 8 → Wm l G K 5 5 (qI (fun z w' => (¬ (0 ≤ (p : Int) ∧ (p : Int) < 3) ∧ z = -1000001 ∧ w' = w) ∨ ((0 ≤ (p : Int) ∧ (p : Int) < 3) ∧ z = ((mpop (unF (comesF w (2 * (p : Int).toNat + 1) 0) (lowF w (2 * (p : Int).toNat + 1)) 8) : Nat) : Int) ∧ ∀ i : Nat, i ≠ 14 → w' i = w i))) 37 [some (mvR 0), some (mvI (p : Int)), some (mvI ((comesF w (2 * p + 1) 0 : Nat) : Int)), some (mvI ((unF (comesF w (2 * p + 1) 0) (lowF w (2 * p + 1)) j : Nat) : Int)), some (mvI (j : Int))] [] (cmpF w (2 * p + 1) 7) := by
      intro n
      induction n using Nat.strongRecOn with
      | _ n ih =>
      intro j hn hj
      refine wm_iload hC  (pc := 37) dX8_unlike_37 rfl ?_
      refine wm_bipush hC (pc := 39) dX8_unlike_39 (by decide) ?_
      refine wm_icmp_ge hC 73 (pc := 41) dX8_unlike_41 (by decide) (by omega) (by omega) (fun h41 => ?_) (fun h41 => ?_)
      · refine wm_iload_n hC 3 (pc := 73) dX8_unlike_73 rfl rfl ?_
        refine wm_pS hC cs_X8_102 kc_J6_bitCount_0f7a4 (s_J6_bitCount_0f7a4 (unF_lt (comesF w (2 * p + 1) 0) (lowF w (2 * p + 1)) (fun n hn => lowst_lt _ n 8 hn 8 0 (by omega)) j hj)) rfl (by decide) rfl (Nat.le_of_ble_eq_true rfl) (pc := 74) dX8_unlike_74 ?_
        refine wm_iretI hC (pc := 77) dX8_unlike_77 ?_
        right
        obtain rfl : j = 8 := by omega
        exact ⟨by omega, rfl, fun i h => cmpF_ne h 7⟩
      · refine wm_iload_n hC 2 (pc := 44) dX8_unlike_44 rfl rfl ?_
        refine wm_iload hC  (pc := 45) dX8_unlike_45 rfl ?_
        refine wm_pS hC cs_X8_134 kc_X8_holds (s_X8_holds (by have := comesF_lt (hI.1 p hp) (s := 0) (by omega); omega) (by omega)) rfl (by decide) rfl (Nat.le_of_ble_eq_true rfl) (pc := 47) dX8_unlike_47 ?_
        refine wm_ifb_eq hC 67 (pc := 50) dX8_unlike_50 (by decide) (fun h50 => ?_) (fun h50 => ?_)
        · have e : unF (comesF w (2 * p + 1) 0) (lowF w (2 * p + 1)) (j + 1) = unF (comesF w (2 * p + 1) 0) (lowF w (2 * p + 1)) j := by simp [unF, h50]
          refine wm_iinc hC (pc := 67) dX8_unlike_67 rfl rfl (by decide) rfl ?_
          refine wm_goto hC 37 (pc := 70) dX8_unlike_70 (by decide) ?_
          have hh := ih _ (by omega) (j + 1) rfl (by omega)
          rw [e] at hh
          exact hh
        · have e : unF (comesF w (2 * p + 1) 0) (lowF w (2 * p + 1)) (j + 1) = unF (comesF w (2 * p + 1) 0) (lowF w (2 * p + 1)) j ||| 2 ^ lowF w (2 * p + 1) j := by simp [unF, h50]
          refine wm_iload_n hC 3 (pc := 53) dX8_unlike_53 rfl rfl ?_
          refine wm_iconst hC (pc := 54) dX8_unlike_54 ?_
          refine wm_aload_n hC 0 (pc := 55) dX8_unlike_55 rfl rfl ?_
          refine wm_getR hC fl_X8_39_7 rfl rfl (pc := 56) dX8_unlike_56 ?_
          refine wm_iload hC  (pc := 59) dX8_unlike_59 rfl ?_
          refine wm_pV hC cv_X8_125 kc_X1_lowestAlike rfl rfl (s_X1_lowestAlike (by omega) (alkOK_cmpF _ _ _)) rfl (by decide) rfl (Nat.le_of_ble_eq_true rfl) (pc := 61) dX8_unlike_61 ?_
          refine wm_ishl1 hC _ (pc := 64) dX8_unlike_64 rfl (by have : lowF w (2 * p + 1) j < 8 := lowst_lt _ _ 8 (by omega) 8 0 (by omega); exact Nat.lt_of_lt_of_le this (by decide)) ?_
          refine wm_ior hC _ _ (pc := 65) dX8_unlike_65 rfl rfl ?_
          refine wm_istore_n hC 3 (pc := 66) dX8_unlike_66 rfl (by decide) rfl ?_
          refine wm_iinc hC (pc := 67) dX8_unlike_67 rfl rfl (by decide) rfl ?_
          refine wm_goto hC 37 (pc := 70) dX8_unlike_70 (by decide) ?_
          have hh := ih _ (by omega) (j + 1) rfl (by omega)
          rw [e] at hh
          exact hh
    exact lp37 _ 0 rfl (by omega)
  · refine wm_ldc hC (-1000001) kI_X8_76 (pc := 7) dX8_unlike_7 ?_
    refine wm_iretI hC (pc := 9) dX8_unlike_9 ?_
    left
    exact ⟨by omega, rfl, rfl⟩
