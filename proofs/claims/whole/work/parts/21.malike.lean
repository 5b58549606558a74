/-! the reference: alike states, states one comes to -/
theorem wmask_bit (f : Nat → Bool) : ∀ n k, (wmask f n).testBit k = (decide (k < n) && f k)
  | 0, k => by show (0 : Nat).testBit k = _; simp
  | n + 1, k => by
    have ih := wmask_bit f n k
    by_cases h : f n = true
    · rw [show wmask f (n + 1) = wmask f n ||| 2 ^ n by simp [wmask, h], Nat.testBit_or, ih, Nat.testBit_two_pow]
      by_cases e : n = k
      · subst e; simp [h]
      · by_cases q : k < n
        · simp [e, q, show k < n + 1 by omega]
        · simp [e, q, show ¬ k < n + 1 by omega]
    · rw [show wmask f (n + 1) = wmask f n by simp [wmask, h], ih]
      by_cases e : n = k
      · subst e; simp [h]
      · by_cases q : k < n
        · simp [q, show k < n + 1 by omega]
        · simp [q, show ¬ k < n + 1 by omega]
theorem allb_all (f : Nat → Bool) : ∀ n, allb f n = true ↔ ∀ k, k < n → f k = true
  | 0 => ⟨fun _ k hk => absurd hk (by omega), fun _ => rfl⟩
  | n + 1 => by
    show (allb f n && f n) = true ↔ _
    rw [Bool.and_eq_true, allb_all f n]
    refine ⟨fun ⟨h1, h2⟩ k hk => ?_, fun h => ⟨fun k hk => h k (by omega), h n (by omega)⟩⟩
    by_cases e : k = n
    · subst e; exact h2
    · exact h1 k (by omega)
def ldMk (U : mW) (p : Nat) (S : Nat → Nat → Bool) (i j k : Nat) : Bool := decide (ldsF U p (i : Int) (k : Int) < 0) || S (ldsF U p (i : Int) (k : Int)).toNat (ldsF U p (j : Int) (k : Int)).toNat
def ldM (U : mW) (p : Nat) (S : Nat → Nat → Bool) (i j : Nat) : Bool := allb (ldMk U p S i j) 6
def lkR (L : Nat → Nat) (i j : Nat) : Bool := (L i).testBit j
/-- a relation of states by which no pair is against it -/
def Cons (U : mW) (p : Nat) (S : Nat → Nat → Bool) : Prop := ∀ i j : Nat, i < 8 → j < 8 → S i j = true → lookF U p (i : Int) (j : Int) = true ∧ ldM U p S i j = true
def Top (U : mW) (p : Nat) (R : Nat → Nat → Bool) : Prop := ∀ S, Cons U p S → ∀ i j : Nat, i < 8 → j < 8 → S i j = true → R i j = true
def IsG (U : mW) (p : Nat) (R : Nat → Nat → Bool) : Prop := Cons U p R ∧ Top U p R
def LkW (v : mW) (L : Nat → Nat) : Prop := ∀ a : Nat, a < 8 → v 35 (a : Int) = (L a : Int) ∧ L a < 256
def GIn (U : mW) (p : Nat) (L : Nat → Nat) : Prop := (∀ i j : Nat, i < 8 → j < 8 → lkR L i j = true → lookF U p (i : Int) (j : Int) = true) ∧ Top U p (lkR L)
def tot (L : Nat → Nat) : Nat := cnt (fun t => lkR L (t / 8) (t % 8)) 64
def clrL (L : Nat → Nat) (i j : Nat) : Nat → Nat := fun a => if a = i then L i ^^^ (L i &&& 2 ^ j) else L a
theorem lds_lt {U : mW} {p : Nat} (h : PlanOK U p) {i k : Nat} (hi : i < 8) (hk : k < 6) : (ldsF U p (i : Int) (k : Int)).toNat < 8 := by
  have := lds_rng h (s := (i : Int)) (k := (k : Int)) (by omega) (by omega); omega
theorem ldM_mono {U : mW} {p : Nat} (h : PlanOK U p) {S R : Nat → Nat → Bool} (hs : ∀ i j : Nat, i < 8 → j < 8 → S i j = true → R i j = true) {i j : Nat} (hi : i < 8) (hj : j < 8) (hl : ldM U p S i j = true) : ldM U p R i j = true := by
  rw [ldM, allb_all] at hl ⊢
  intro k hk
  have := hl k hk
  rw [ldMk, Bool.or_eq_true] at this ⊢
  rcases this with q | q
  · exact Or.inl q
  · exact Or.inr (hs _ _ (lds_lt h hi hk) (lds_lt h hj hk) q)
theorem clr_bit (L : Nat → Nat) (i j a b : Nat) : lkR (clrL L i j) a b = (lkR L a b && !(decide (a = i) && decide (b = j))) := by
  unfold lkR clrL
  by_cases h : a = i
  · subst h
    rw [if_pos rfl, Nat.testBit_xor, Nat.testBit_and, Nat.testBit_two_pow]
    by_cases e : j = b
    · subst e; simp
    · simp [e, show ¬ b = j from fun q => e q.symm]
  · rw [if_neg h]; simp [h]
theorem tot_clr {L : Nat → Nat} {i j : Nat} (hi : i < 8) (hj : j < 8) (h : lkR L i j = true) : tot (clrL L i j) < tot L := by
  have e := cnt_add (f := fun t => lkR (clrL L i j) (t / 8) (t % 8)) (g := fun t => lkR L (t / 8) (t % 8)) (t := 8 * i + j) (n := 64) (by
    show lkR (clrL L i j) ((8 * i + j) / 8) ((8 * i + j) % 8) = false
    rw [show (8 * i + j) / 8 = i by omega, show (8 * i + j) % 8 = j by omega, clr_bit]; simp) (by
    show lkR L ((8 * i + j) / 8) ((8 * i + j) % 8) = true
    rw [show (8 * i + j) / 8 = i by omega, show (8 * i + j) % 8 = j by omega]; exact h) (by omega) (fun t ht hn => by
    show lkR (clrL L i j) (t / 8) (t % 8) = lkR L (t / 8) (t % 8)
    rw [clr_bit]
    by_cases q : t / 8 = i ∧ t % 8 = j
    · omega
    · by_cases q1 : t / 8 = i
      · simp [q1, show ¬ t % 8 = j from fun x => q ⟨q1, x⟩]
      · simp [q1])
  unfold tot; rw [e]; omega
theorem GIn.clr {U : mW} {p : Nat} (hk : PlanOK U p) {L : Nat → Nat} (h : GIn U p L) {i j : Nat} (hi : i < 8) (hj : j < 8) (hl : ldM U p (lkR L) i j = false) : GIn U p (clrL L i j) := by
  refine ⟨fun a b ha hb hab => h.1 a b ha hb ?_, fun S hS a b ha hb hab => ?_⟩
  · rw [clr_bit] at hab; exact (Bool.and_eq_true _ _ ▸ hab).1
  · rw [clr_bit, h.2 S hS a b ha hb hab]
    by_cases q : a = i ∧ b = j
    · obtain ⟨rfl, rfl⟩ := q
      have := ldM_mono hk (h.2 S hS) hi hj (hS a b ha hb hab).2
      rw [hl] at this; cases this
    · by_cases q1 : a = i
      · simp [q1, show ¬ b = j from fun x => q ⟨q1, x⟩]
      · simp [q1]
theorem LkW.clr {v : mW} {L : Nat → Nat} (h : LkW v L) {i j : Nat} : LkW (mup v 35 (i : Int) ((L i ^^^ (L i &&& 2 ^ j) : Nat) : Int)) (clrL L i j) := by
  intro a ha
  rw [mup_get]
  by_cases q : a = i
  · subst q
    rw [if_pos (by simp)]
    have e : clrL L a j a = L a ^^^ (L a &&& 2 ^ j) := if_pos rfl
    rw [e]
    exact ⟨rfl, Nat.xor_lt_two_pow (n := 8) (h a ha).2 (Nat.lt_of_le_of_lt Nat.and_le_left (h a ha).2)⟩
  · rw [if_neg (by omega)]
    have e : clrL L i j a = L a := if_neg q
    rw [e]; exact h a ha
theorem GIn.zero {U : mW} {p : Nat} : GIn U p (fun a => wmask (fun j => lookF U p (a : Int) (j : Int)) 8) := by
  refine ⟨fun i j hi hj h => ?_, fun S hS i j hi hj h => ?_⟩
  · unfold lkR at h; rw [wmask_bit] at h; exact (Bool.and_eq_true _ _ ▸ h).2
  · unfold lkR; rw [wmask_bit, (hS i j hi hj h).1]; simp [hj]
theorem IsG.refl {U : mW} {p : Nat} {R : Nat → Nat → Bool} (h : IsG U p R) {i : Nat} (hi : i < 8) : R i i = true := by
  refine h.2 (fun a b => decide (a = b)) (fun a b _ _ hab => ?_) i i hi hi (by simp)
  have : a = b := of_decide_eq_true hab
  subst this
  refine ⟨by unfold lookF; simp, ?_⟩
  rw [ldM, allb_all]
  intro k _
  unfold ldMk; simp
def Cl (U : mW) (p : Nat) (S : Nat → Bool) : Prop := ∀ a k : Nat, a < 8 → k < 6 → S a = true → 0 ≤ ldsF U p (a : Int) (k : Int) → S (ldsF U p (a : Int) (k : Int)).toNat = true
/-- the set of the states one comes to -/
def RIs (U : mW) (p s M : Nat) : Prop := M < 256 ∧ M.testBit s = true ∧ Cl U p (fun a => M.testBit a) ∧ ∀ S : Nat → Bool, Cl U p S → S s = true → ∀ a, a < 8 → M.testBit a = true → S a = true
set_option maxRecDepth 100000 in
set_option maxHeartbeats 4000000 in
theorem s_X9_haveSame {l : Launch} {G : mG} {w : mW} {p : Nat} (hp : p < 3) {i j : Nat} (hi : i < 8) (hj : j < 8) (hR : RPl w) : Mx l G 3 yX9_haveSame cX9_haveSame 5 (some .boolean) [mvR 31, mvI (p : Int), mvI (i : Int), mvI (j : Int)] w (qP (mvI (mb (lookF (rv w) (2 * p + 1) (i : Int) (j : Int)))) w) := by
  refine Mx.intro (by decide) RX9 rfl [some (mvR 31), some (mvI (p : Int)), some (mvI (i : Int)), some (mvI (j : Int)), none] (Nat.le_of_ble_eq_true rfl) rfl (fun K hC => ?_)
  have hk1 := kd_rng (hR.ok hp) (s := (i : Int)) (by omega)
  have hk2 := kd_rng (hR.ok hp) (s := (j : Int)) (by omega)
  have hm1 := wmask_lt (hasW (rv w) (2 * p + 1) (i : Int)) 6
  have hm2 := wmask_lt (hasW (rv w) (2 * p + 1) (j : Int)) 6
  have hl : lookF (rv w) (2 * p + 1) (i : Int) (j : Int) = (decide (kdF (rv w) (2 * p + 1) (i : Int) = kdF (rv w) (2 * p + 1) (j : Int)) && (decide (kdF (rv w) (2 * p + 1) (i : Int) = 0) || decide (wmask (hasW (rv w) (2 * p + 1) (i : Int)) 6 = wmask (hasW (rv w) (2 * p + 1) (j : Int)) 6))) := rfl
  refine wm_aload_n hC 0 (pc := 0) dX9_haveSame_0 rfl rfl ?_
  refine wm_iload_n hC 1 (pc := 1) dX9_haveSame_1 rfl rfl ?_
  refine wm_iload_n hC 2 (pc := 2) dX9_haveSame_2 rfl rfl ?_
  refine wm_pV hC cv_X9_67 kc_X9_kindOf rfl rfl (s_X9_kindOf (by omega) (by omega)) rfl (by decide) rfl (Nat.le_of_ble_eq_true rfl) (pc := 3) dX9_haveSame_3 ?_
  refine wm_aload_n hC 0 (pc := 6) dX9_haveSame_6 rfl rfl ?_
  refine wm_iload_n hC 1 (pc := 7) dX9_haveSame_7 rfl rfl ?_
  refine wm_iload_n hC 3 (pc := 8) dX9_haveSame_8 rfl rfl ?_
  refine wm_pV hC cv_X9_67 kc_X9_kindOf rfl rfl (s_X9_kindOf (by omega) (by omega)) rfl (by decide) rfl (Nat.le_of_ble_eq_true rfl) (pc := 9) dX9_haveSame_9 ?_
  refine wm_icmp_ne hC 19 (pc := 12) dX9_haveSame_12 (by decide) (by omega) (by omega) (fun h12 => ?_) (fun h12 => ?_)
  · refine wm_iconst hC (pc := 19) dX9_haveSame_19 ?_
    refine wm_istore hC  (pc := 20) dX9_haveSame_20  (by decide) rfl ?_
    refine wm_iload hC  (pc := 22) dX9_haveSame_22 rfl ?_
    refine wm_if_eq hC 55 (pc := 24) dX9_haveSame_24 (by decide) (by omega) (fun h24 => ?_) (fun h24 => ?_)
    · refine wm_iconst hC (pc := 55) dX9_haveSame_55 ?_
      refine wm_zretP hC (pc := 56) dX9_haveSame_56 ?_ rfl
      rw [hl]
      first | omega | (rw [decide_eq_true (show kdF (rv w) (2 * p + 1) (i : Int) = kdF (rv w) (2 * p + 1) (j : Int) by omega), decide_eq_true (show kdF (rv w) (2 * p + 1) (i : Int) = 0 by omega)]; rfl) | (rw [decide_eq_true (show kdF (rv w) (2 * p + 1) (i : Int) = kdF (rv w) (2 * p + 1) (j : Int) by omega), decide_eq_false (show ¬ kdF (rv w) (2 * p + 1) (i : Int) = 0 by omega), decide_eq_true (show wmask (hasW (rv w) (2 * p + 1) (i : Int)) 6 = wmask (hasW (rv w) (2 * p + 1) (j : Int)) 6 by omega)]; rfl) | (rw [decide_eq_false (show ¬ kdF (rv w) (2 * p + 1) (i : Int) = kdF (rv w) (2 * p + 1) (j : Int) by omega)]; rfl) | (rw [decide_eq_true (show kdF (rv w) (2 * p + 1) (i : Int) = kdF (rv w) (2 * p + 1) (j : Int) by omega), decide_eq_false (show ¬ kdF (rv w) (2 * p + 1) (i : Int) = 0 by omega), decide_eq_false (show ¬ wmask (hasW (rv w) (2 * p + 1) (i : Int)) 6 = wmask (hasW (rv w) (2 * p + 1) (j : Int)) 6 by omega)]; rfl)
    · refine wm_aload_n hC 0 (pc := 27) dX9_haveSame_27 rfl rfl ?_
      refine wm_iload_n hC 1 (pc := 28) dX9_haveSame_28 rfl rfl ?_
      refine wm_iload_n hC 2 (pc := 29) dX9_haveSame_29 rfl rfl ?_
      refine wm_pV hC cv_X9_67 kc_X9_kindOf rfl rfl (s_X9_kindOf (by omega) (by omega)) rfl (by decide) rfl (Nat.le_of_ble_eq_true rfl) (pc := 30) dX9_haveSame_30 ?_
      refine wm_if_eq hC 51 (pc := 33) dX9_haveSame_33 (by decide) (by omega) (fun h33 => ?_) (fun h33 => ?_)
      · refine wm_iconst hC (pc := 51) dX9_haveSame_51 ?_
        refine wm_goto hC 56 (pc := 52) dX9_haveSame_52 (by decide) ?_
        refine wm_zretP hC (pc := 56) dX9_haveSame_56 ?_ rfl
        rw [hl]
        first | omega | (rw [decide_eq_true (show kdF (rv w) (2 * p + 1) (i : Int) = kdF (rv w) (2 * p + 1) (j : Int) by omega), decide_eq_true (show kdF (rv w) (2 * p + 1) (i : Int) = 0 by omega)]; rfl) | (rw [decide_eq_true (show kdF (rv w) (2 * p + 1) (i : Int) = kdF (rv w) (2 * p + 1) (j : Int) by omega), decide_eq_false (show ¬ kdF (rv w) (2 * p + 1) (i : Int) = 0 by omega), decide_eq_true (show wmask (hasW (rv w) (2 * p + 1) (i : Int)) 6 = wmask (hasW (rv w) (2 * p + 1) (j : Int)) 6 by omega)]; rfl) | (rw [decide_eq_false (show ¬ kdF (rv w) (2 * p + 1) (i : Int) = kdF (rv w) (2 * p + 1) (j : Int) by omega)]; rfl) | (rw [decide_eq_true (show kdF (rv w) (2 * p + 1) (i : Int) = kdF (rv w) (2 * p + 1) (j : Int) by omega), decide_eq_false (show ¬ kdF (rv w) (2 * p + 1) (i : Int) = 0 by omega), decide_eq_false (show ¬ wmask (hasW (rv w) (2 * p + 1) (i : Int)) 6 = wmask (hasW (rv w) (2 * p + 1) (j : Int)) 6 by omega)]; rfl)
      · refine wm_aload_n hC 0 (pc := 36) dX9_haveSame_36 rfl rfl ?_
        refine wm_iload_n hC 1 (pc := 37) dX9_haveSame_37 rfl rfl ?_
        refine wm_iload_n hC 2 (pc := 38) dX9_haveSame_38 rfl rfl ?_
        refine wm_pV hC cv_X9_88 kc_X9_words rfl rfl (s_X9_words (by omega) (by omega) hR) rfl (by decide) rfl (Nat.le_of_ble_eq_true rfl) (pc := 39) dX9_haveSame_39 ?_
        refine wm_aload_n hC 0 (pc := 42) dX9_haveSame_42 rfl rfl ?_
        refine wm_iload_n hC 1 (pc := 43) dX9_haveSame_43 rfl rfl ?_
        refine wm_iload_n hC 3 (pc := 44) dX9_haveSame_44 rfl rfl ?_
        refine wm_pV hC cv_X9_88 kc_X9_words rfl rfl (s_X9_words (by omega) (by omega) hR) rfl (by decide) rfl (Nat.le_of_ble_eq_true rfl) (pc := 45) dX9_haveSame_45 ?_
        refine wm_icmp_ne hC 55 (pc := 48) dX9_haveSame_48 (by decide) (by omega) (by omega) (fun h48 => ?_) (fun h48 => ?_)
        · refine wm_iconst hC (pc := 55) dX9_haveSame_55 ?_
          refine wm_zretP hC (pc := 56) dX9_haveSame_56 ?_ rfl
          rw [hl]
          first | omega | (rw [decide_eq_true (show kdF (rv w) (2 * p + 1) (i : Int) = kdF (rv w) (2 * p + 1) (j : Int) by omega), decide_eq_true (show kdF (rv w) (2 * p + 1) (i : Int) = 0 by omega)]; rfl) | (rw [decide_eq_true (show kdF (rv w) (2 * p + 1) (i : Int) = kdF (rv w) (2 * p + 1) (j : Int) by omega), decide_eq_false (show ¬ kdF (rv w) (2 * p + 1) (i : Int) = 0 by omega), decide_eq_true (show wmask (hasW (rv w) (2 * p + 1) (i : Int)) 6 = wmask (hasW (rv w) (2 * p + 1) (j : Int)) 6 by omega)]; rfl) | (rw [decide_eq_false (show ¬ kdF (rv w) (2 * p + 1) (i : Int) = kdF (rv w) (2 * p + 1) (j : Int) by omega)]; rfl) | (rw [decide_eq_true (show kdF (rv w) (2 * p + 1) (i : Int) = kdF (rv w) (2 * p + 1) (j : Int) by omega), decide_eq_false (show ¬ kdF (rv w) (2 * p + 1) (i : Int) = 0 by omega), decide_eq_false (show ¬ wmask (hasW (rv w) (2 * p + 1) (i : Int)) 6 = wmask (hasW (rv w) (2 * p + 1) (j : Int)) 6 by omega)]; rfl)
        · refine wm_iconst hC (pc := 51) dX9_haveSame_51 ?_
          refine wm_goto hC 56 (pc := 52) dX9_haveSame_52 (by decide) ?_
          refine wm_zretP hC (pc := 56) dX9_haveSame_56 ?_ rfl
          rw [hl]
          first | omega | (rw [decide_eq_true (show kdF (rv w) (2 * p + 1) (i : Int) = kdF (rv w) (2 * p + 1) (j : Int) by omega), decide_eq_true (show kdF (rv w) (2 * p + 1) (i : Int) = 0 by omega)]; rfl) | (rw [decide_eq_true (show kdF (rv w) (2 * p + 1) (i : Int) = kdF (rv w) (2 * p + 1) (j : Int) by omega), decide_eq_false (show ¬ kdF (rv w) (2 * p + 1) (i : Int) = 0 by omega), decide_eq_true (show wmask (hasW (rv w) (2 * p + 1) (i : Int)) 6 = wmask (hasW (rv w) (2 * p + 1) (j : Int)) 6 by omega)]; rfl) | (rw [decide_eq_false (show ¬ kdF (rv w) (2 * p + 1) (i : Int) = kdF (rv w) (2 * p + 1) (j : Int) by omega)]; rfl) | (rw [decide_eq_true (show kdF (rv w) (2 * p + 1) (i : Int) = kdF (rv w) (2 * p + 1) (j : Int) by omega), decide_eq_false (show ¬ kdF (rv w) (2 * p + 1) (i : Int) = 0 by omega), decide_eq_false (show ¬ wmask (hasW (rv w) (2 * p + 1) (i : Int)) 6 = wmask (hasW (rv w) (2 * p + 1) (j : Int)) 6 by omega)]; rfl)
  · refine wm_iconst hC (pc := 15) dX9_haveSame_15 ?_
    refine wm_goto hC 20 (pc := 16) dX9_haveSame_16 (by decide) ?_
    refine wm_istore hC  (pc := 20) dX9_haveSame_20  (by decide) rfl ?_
    refine wm_iload hC  (pc := 22) dX9_haveSame_22 rfl ?_
    refine wm_if_eq hC 55 (pc := 24) dX9_haveSame_24 (by decide) (by omega) (fun h24 => ?_) (fun h24 => ?_)
    · refine wm_iconst hC (pc := 55) dX9_haveSame_55 ?_
      refine wm_zretP hC (pc := 56) dX9_haveSame_56 ?_ rfl
      rw [hl]
      first | omega | (rw [decide_eq_true (show kdF (rv w) (2 * p + 1) (i : Int) = kdF (rv w) (2 * p + 1) (j : Int) by omega), decide_eq_true (show kdF (rv w) (2 * p + 1) (i : Int) = 0 by omega)]; rfl) | (rw [decide_eq_true (show kdF (rv w) (2 * p + 1) (i : Int) = kdF (rv w) (2 * p + 1) (j : Int) by omega), decide_eq_false (show ¬ kdF (rv w) (2 * p + 1) (i : Int) = 0 by omega), decide_eq_true (show wmask (hasW (rv w) (2 * p + 1) (i : Int)) 6 = wmask (hasW (rv w) (2 * p + 1) (j : Int)) 6 by omega)]; rfl) | (rw [decide_eq_false (show ¬ kdF (rv w) (2 * p + 1) (i : Int) = kdF (rv w) (2 * p + 1) (j : Int) by omega)]; rfl) | (rw [decide_eq_true (show kdF (rv w) (2 * p + 1) (i : Int) = kdF (rv w) (2 * p + 1) (j : Int) by omega), decide_eq_false (show ¬ kdF (rv w) (2 * p + 1) (i : Int) = 0 by omega), decide_eq_false (show ¬ wmask (hasW (rv w) (2 * p + 1) (i : Int)) 6 = wmask (hasW (rv w) (2 * p + 1) (j : Int)) 6 by omega)]; rfl)
    · refine wm_aload_n hC 0 (pc := 27) dX9_haveSame_27 rfl rfl ?_
      refine wm_iload_n hC 1 (pc := 28) dX9_haveSame_28 rfl rfl ?_
      refine wm_iload_n hC 2 (pc := 29) dX9_haveSame_29 rfl rfl ?_
      refine wm_pV hC cv_X9_67 kc_X9_kindOf rfl rfl (s_X9_kindOf (by omega) (by omega)) rfl (by decide) rfl (Nat.le_of_ble_eq_true rfl) (pc := 30) dX9_haveSame_30 ?_
      refine wm_if_eq hC 51 (pc := 33) dX9_haveSame_33 (by decide) (by omega) (fun h33 => ?_) (fun h33 => ?_)
      · refine wm_iconst hC (pc := 51) dX9_haveSame_51 ?_
        refine wm_goto hC 56 (pc := 52) dX9_haveSame_52 (by decide) ?_
        refine wm_zretP hC (pc := 56) dX9_haveSame_56 ?_ rfl
        rw [hl]
        first | omega | (rw [decide_eq_true (show kdF (rv w) (2 * p + 1) (i : Int) = kdF (rv w) (2 * p + 1) (j : Int) by omega), decide_eq_true (show kdF (rv w) (2 * p + 1) (i : Int) = 0 by omega)]; rfl) | (rw [decide_eq_true (show kdF (rv w) (2 * p + 1) (i : Int) = kdF (rv w) (2 * p + 1) (j : Int) by omega), decide_eq_false (show ¬ kdF (rv w) (2 * p + 1) (i : Int) = 0 by omega), decide_eq_true (show wmask (hasW (rv w) (2 * p + 1) (i : Int)) 6 = wmask (hasW (rv w) (2 * p + 1) (j : Int)) 6 by omega)]; rfl) | (rw [decide_eq_false (show ¬ kdF (rv w) (2 * p + 1) (i : Int) = kdF (rv w) (2 * p + 1) (j : Int) by omega)]; rfl) | (rw [decide_eq_true (show kdF (rv w) (2 * p + 1) (i : Int) = kdF (rv w) (2 * p + 1) (j : Int) by omega), decide_eq_false (show ¬ kdF (rv w) (2 * p + 1) (i : Int) = 0 by omega), decide_eq_false (show ¬ wmask (hasW (rv w) (2 * p + 1) (i : Int)) 6 = wmask (hasW (rv w) (2 * p + 1) (j : Int)) 6 by omega)]; rfl)
      · refine wm_aload_n hC 0 (pc := 36) dX9_haveSame_36 rfl rfl ?_
        refine wm_iload_n hC 1 (pc := 37) dX9_haveSame_37 rfl rfl ?_
        refine wm_iload_n hC 2 (pc := 38) dX9_haveSame_38 rfl rfl ?_
        refine wm_pV hC cv_X9_88 kc_X9_words rfl rfl (s_X9_words (by omega) (by omega) hR) rfl (by decide) rfl (Nat.le_of_ble_eq_true rfl) (pc := 39) dX9_haveSame_39 ?_
        refine wm_aload_n hC 0 (pc := 42) dX9_haveSame_42 rfl rfl ?_
        refine wm_iload_n hC 1 (pc := 43) dX9_haveSame_43 rfl rfl ?_
        refine wm_iload_n hC 3 (pc := 44) dX9_haveSame_44 rfl rfl ?_
        refine wm_pV hC cv_X9_88 kc_X9_words rfl rfl (s_X9_words (by omega) (by omega) hR) rfl (by decide) rfl (Nat.le_of_ble_eq_true rfl) (pc := 45) dX9_haveSame_45 ?_
        refine wm_icmp_ne hC 55 (pc := 48) dX9_haveSame_48 (by decide) (by omega) (by omega) (fun h48 => ?_) (fun h48 => ?_)
        · refine wm_iconst hC (pc := 55) dX9_haveSame_55 ?_
          refine wm_zretP hC (pc := 56) dX9_haveSame_56 ?_ rfl
          rw [hl]
          first | omega | (rw [decide_eq_true (show kdF (rv w) (2 * p + 1) (i : Int) = kdF (rv w) (2 * p + 1) (j : Int) by omega), decide_eq_true (show kdF (rv w) (2 * p + 1) (i : Int) = 0 by omega)]; rfl) | (rw [decide_eq_true (show kdF (rv w) (2 * p + 1) (i : Int) = kdF (rv w) (2 * p + 1) (j : Int) by omega), decide_eq_false (show ¬ kdF (rv w) (2 * p + 1) (i : Int) = 0 by omega), decide_eq_true (show wmask (hasW (rv w) (2 * p + 1) (i : Int)) 6 = wmask (hasW (rv w) (2 * p + 1) (j : Int)) 6 by omega)]; rfl) | (rw [decide_eq_false (show ¬ kdF (rv w) (2 * p + 1) (i : Int) = kdF (rv w) (2 * p + 1) (j : Int) by omega)]; rfl) | (rw [decide_eq_true (show kdF (rv w) (2 * p + 1) (i : Int) = kdF (rv w) (2 * p + 1) (j : Int) by omega), decide_eq_false (show ¬ kdF (rv w) (2 * p + 1) (i : Int) = 0 by omega), decide_eq_false (show ¬ wmask (hasW (rv w) (2 * p + 1) (i : Int)) 6 = wmask (hasW (rv w) (2 * p + 1) (j : Int)) 6 by omega)]; rfl)
        · refine wm_iconst hC (pc := 51) dX9_haveSame_51 ?_
          refine wm_goto hC 56 (pc := 52) dX9_haveSame_52 (by decide) ?_
          refine wm_zretP hC (pc := 56) dX9_haveSame_56 ?_ rfl
          rw [hl]
          first | omega | (rw [decide_eq_true (show kdF (rv w) (2 * p + 1) (i : Int) = kdF (rv w) (2 * p + 1) (j : Int) by omega), decide_eq_true (show kdF (rv w) (2 * p + 1) (i : Int) = 0 by omega)]; rfl) | (rw [decide_eq_true (show kdF (rv w) (2 * p + 1) (i : Int) = kdF (rv w) (2 * p + 1) (j : Int) by omega), decide_eq_false (show ¬ kdF (rv w) (2 * p + 1) (i : Int) = 0 by omega), decide_eq_true (show wmask (hasW (rv w) (2 * p + 1) (i : Int)) 6 = wmask (hasW (rv w) (2 * p + 1) (j : Int)) 6 by omega)]; rfl) | (rw [decide_eq_false (show ¬ kdF (rv w) (2 * p + 1) (i : Int) = kdF (rv w) (2 * p + 1) (j : Int) by omega)]; rfl) | (rw [decide_eq_true (show kdF (rv w) (2 * p + 1) (i : Int) = kdF (rv w) (2 * p + 1) (j : Int) by omega), decide_eq_false (show ¬ kdF (rv w) (2 * p + 1) (i : Int) = 0 by omega), decide_eq_false (show ¬ wmask (hasW (rv w) (2 * p + 1) (i : Int)) 6 = wmask (hasW (rv w) (2 * p + 1) (j : Int)) 6 by omega)]; rfl)
theorem look_lds {U : mW} {p : Nat} {i j : Nat} (h : lookF U p (i : Int) (j : Int) = true) (hk : PlanOK U p) (hj : j < 8) {k : Nat} (hk6 : k < 6) (h0 : 0 ≤ ldsF U p (i : Int) (k : Int)) : 0 ≤ ldsF U p (j : Int) (k : Int) := by
  have hl : lookF U p (i : Int) (j : Int) = (decide (kdF U p (i : Int) = kdF U p (j : Int)) && (decide (kdF U p (i : Int) = 0) || decide (wmask (hasW U p (i : Int)) 6 = wmask (hasW U p (j : Int)) 6))) := rfl
  rw [hl, Bool.and_eq_true, Bool.or_eq_true] at h
  have e := of_decide_eq_true h.1
  have t := tg_rng hk (s := (j : Int)) (k := (k : Int)) (by omega) (by omega)
  unfold ldsF at h0 ⊢
  by_cases q : kdF U p (i : Int) = 0
  · rw [if_pos q] at h0; omega
  · rw [if_neg q] at h0; rw [if_neg (by omega)]
    rcases h.2 with h2 | h2
    · exact absurd (of_decide_eq_true h2) q
    · have b := congrArg (fun m => m.testBit k) (of_decide_eq_true h2)
      simp only [wmask_bit, hk6, decide_true, Bool.true_and] at b
      have b1 : hasW U p (i : Int) k = true := decide_eq_true (show ¬ tgF U p (i : Int) (k : Int) = -1 by omega)
      rw [b1] at b
      have b2 : ¬ tgF U p (j : Int) (k : Int) = -1 := of_decide_eq_true b.symm
      omega
set_option maxRecDepth 100000 in
set_option maxHeartbeats 4000000 in
theorem s_X9_leadAlike {l : Launch} {G : mG} {w : mW} {p : Nat} (hp : p < 3) {i j : Nat} (hi : i < 8) (hj : j < 8) (hR : RPl w) {L : Nat → Nat} (hL : LkW w L) (hlk : lookF (rv w) (2 * p + 1) (i : Int) (j : Int) = true) : Mx l G 3 yX9_leadAlike cX9_leadAlike 7 (some .boolean) [mvR 31, mvI (p : Int), mvI (i : Int), mvI (j : Int)] w (qP (mvI (mb (ldM (rv w) (2 * p + 1) (lkR L) i j))) w) := by
  refine Mx.intro (by decide) RX9 rfl [some (mvR 31), some (mvI (p : Int)), some (mvI (i : Int)), some (mvI (j : Int)), none, none, none] (Nat.le_of_ble_eq_true rfl) rfl (fun K hC => ?_)
  refine wm_iconst hC (pc := 0) dX9_leadAlike_0 ?_
  refine wm_istore hC  (pc := 1) dX9_leadAlike_1  (by decide) rfl ?_
  refine wm_iconst hC (pc := 3) dX9_leadAlike_3 ?_
  refine wm_istore hC  (pc := 4) dX9_leadAlike_4  (by decide) rfl ?_
  have lp6 : ∀ (n : Nat) (k : Nat) (o : Option mV), n = 6 - k → k ≤ 6 → Wm l G K 3 7 (qP (mvI (mb (ldM (rv w) (2 * p + 1) (lkR L) i j))) w) 6 [some (mvR 31), some (mvI (p : Int)), some (mvI (i : Int)), some (mvI (j : Int)), some (mvI (mb (allb (ldMk (rv w) (2 * p + 1) (lkR L) i j) k))), some (mvI (k : Int)), o] [] w := by
    intro n
    induction n using Nat.strongRecOn with
    | _ n ih =>
    intro k o hn hk
    refine wm_iload hC  (pc := 6) dX9_leadAlike_6 rfl ?_
    refine wm_bipush hC (pc := 8) dX9_leadAlike_8 (by decide) ?_
    refine wm_icmp_ge hC 68 (pc := 10) dX9_leadAlike_10 (by decide) (by omega) (by omega) (fun h10 => ?_) (fun h10 => ?_)
    · refine wm_iload hC  (pc := 68) dX9_leadAlike_68 rfl ?_
      refine wm_zretP hC (pc := 70) dX9_leadAlike_70 ?_ rfl
      have : k = 6 := by omega
      rw [this]; rfl
    · refine wm_aload_n hC 0 (pc := 13) dX9_leadAlike_13 rfl rfl ?_
      refine wm_iload_n hC 1 (pc := 14) dX9_leadAlike_14 rfl rfl ?_
      refine wm_iload_n hC 2 (pc := 15) dX9_leadAlike_15 rfl rfl ?_
      refine wm_iload hC  (pc := 16) dX9_leadAlike_16 rfl ?_
      refine wm_pV hC cv_X9_99 kc_X9_leads rfl rfl (s_X9_leads (by omega) (by omega) (by omega) hR) rfl (by decide) rfl (Nat.le_of_ble_eq_true rfl) (pc := 18) dX9_leadAlike_18 ?_
      refine wm_istore hC  (pc := 21) dX9_leadAlike_21  (by decide) rfl ?_
      refine wm_iload hC  (pc := 23) dX9_leadAlike_23 rfl ?_
      have hr1 := lds_rng (hR.ok hp) (s := (i : Int)) (k := (k : Int)) (by omega) (by omega)
      have hst : allb (ldMk (rv w) (2 * p + 1) (lkR L) i j) (k + 1) = (allb (ldMk (rv w) (2 * p + 1) (lkR L) i j) k && (decide (ldsF (rv w) (2 * p + 1) (i : Int) (k : Int) < 0) || lkR L (ldsF (rv w) (2 * p + 1) (i : Int) (k : Int)).toNat (ldsF (rv w) (2 * p + 1) (j : Int) (k : Int)).toNat)) := rfl
      refine wm_ifb_eq hC 59 (pc := 25) dX9_leadAlike_25 (by decide) (fun h25 => ?_) (fun h25 => ?_)
      · have E : mb (allb (ldMk (rv w) (2 * p + 1) (lkR L) i j) (k + 1)) = 0 := by rw [hst, h25]; rfl
        refine wm_iconst hC (pc := 59) dX9_leadAlike_59 ?_
        refine wm_istore hC  (pc := 60) dX9_leadAlike_60  (by decide) rfl ?_
        refine wm_iinc hC (pc := 62) dX9_leadAlike_62 rfl rfl (by decide) rfl ?_
        refine wm_goto hC 6 (pc := 65) dX9_leadAlike_65 (by decide) ?_
        have hh := ih _ (by omega) (k + 1) (some (mvI (ldsF (rv w) (2 * p + 1) (i : Int) (k : Int)))) rfl (by omega)
        rw [E] at hh
        exact hh
      · refine wm_iload hC  (pc := 28) dX9_leadAlike_28 rfl ?_
        refine wm_if_lt hC 55 (pc := 30) dX9_leadAlike_30 (by decide) (by omega) (fun h30 => ?_) (fun h30 => ?_)
        · have E : mb (allb (ldMk (rv w) (2 * p + 1) (lkR L) i j) (k + 1)) = 1 := by rw [hst, h25, decide_eq_true h30]; rfl
          refine wm_iconst hC (pc := 55) dX9_leadAlike_55 ?_
          refine wm_goto hC 60 (pc := 56) dX9_leadAlike_56 (by decide) ?_
          refine wm_istore hC  (pc := 60) dX9_leadAlike_60  (by decide) rfl ?_
          refine wm_iinc hC (pc := 62) dX9_leadAlike_62 rfl rfl (by decide) rfl ?_
          refine wm_goto hC 6 (pc := 65) dX9_leadAlike_65 (by decide) ?_
          have hh := ih _ (by omega) (k + 1) (some (mvI (ldsF (rv w) (2 * p + 1) (i : Int) (k : Int)))) rfl (by omega)
          rw [E] at hh
          exact hh
        · have hr2 := lds_rng (hR.ok hp) (s := (j : Int)) (k := (k : Int)) (by omega) (by omega)
          have hr3 := look_lds hlk (hR.ok hp) hj (show k < 6 by omega) (by omega)
          have hLx := hL (ldsF (rv w) (2 * p + 1) (i : Int) (k : Int)).toNat (by omega)
          rw [Int.toNat_of_nonneg (show 0 ≤ ldsF (rv w) (2 * p + 1) (i : Int) (k : Int) by omega)] at hLx
          refine wm_aload_n hC 0 (pc := 33) dX9_leadAlike_33 rfl rfl ?_
          refine wm_getR hC fl_X9_20_8 rfl rfl (pc := 34) dX9_leadAlike_34 ?_
          refine wm_iload hC  (pc := 37) dX9_leadAlike_37 rfl ?_
          refine wm_iaload hC rfl (by omega) (by decide) (pc := 39) dX9_leadAlike_39 ?_
          refine wm_aload_n hC 0 (pc := 40) dX9_leadAlike_40 rfl rfl ?_
          refine wm_iload_n hC 1 (pc := 41) dX9_leadAlike_41 rfl rfl ?_
          refine wm_iload_n hC 3 (pc := 42) dX9_leadAlike_42 rfl rfl ?_
          refine wm_iload hC  (pc := 43) dX9_leadAlike_43 rfl ?_
          refine wm_pV hC cv_X9_99 kc_X9_leads rfl rfl (s_X9_leads (by omega) (by omega) (by omega) hR) rfl (by decide) rfl (Nat.le_of_ble_eq_true rfl) (pc := 45) dX9_leadAlike_45 ?_
          refine wm_ishr hC (L (ldsF (rv w) (2 * p + 1) (i : Int) (k : Int)).toNat) (ldsF (rv w) (2 * p + 1) (j : Int) (k : Int)).toNat (pc := 48) dX9_leadAlike_48 hLx.1 (by omega) (by omega) (by omega) ?_
          refine wm_iconst hC (pc := 49) dX9_leadAlike_49 ?_
          refine wm_iand hC (L (ldsF (rv w) (2 * p + 1) (i : Int) (k : Int)).toNat / 2 ^ (ldsF (rv w) (2 * p + 1) (j : Int) (k : Int)).toNat) 1 (pc := 50) dX9_leadAlike_50 rfl rfl ?_
          refine wm_iconst hC (pc := 51) dX9_leadAlike_51 ?_
          rw [mtb]
          have hbt : ((L (ldsF (rv w) (2 * p + 1) (i : Int) (k : Int)).toNat).testBit (ldsF (rv w) (2 * p + 1) (j : Int) (k : Int)).toNat).toNat < 2 := by cases (L (ldsF (rv w) (2 * p + 1) (i : Int) (k : Int)).toNat).testBit (ldsF (rv w) (2 * p + 1) (j : Int) (k : Int)).toNat <;> decide
          refine wm_icmp_ne hC 59 (pc := 52) dX9_leadAlike_52 (by decide) (by omega) (by omega) (fun h52 => ?_) (fun h52 => ?_)
          · have E : mb (allb (ldMk (rv w) (2 * p + 1) (lkR L) i j) (k + 1)) = 0 := by
              rw [hst, h25, decide_eq_false (by omega)]
              have hq : lkR L (ldsF (rv w) (2 * p + 1) (i : Int) (k : Int)).toNat (ldsF (rv w) (2 * p + 1) (j : Int) (k : Int)).toNat = false := by unfold lkR; cases hb : (L (ldsF (rv w) (2 * p + 1) (i : Int) (k : Int)).toNat).testBit (ldsF (rv w) (2 * p + 1) (j : Int) (k : Int)).toNat <;> simp [hb] at h52 ⊢
              rw [hq]; rfl
            refine wm_iconst hC (pc := 59) dX9_leadAlike_59 ?_
            refine wm_istore hC  (pc := 60) dX9_leadAlike_60  (by decide) rfl ?_
            refine wm_iinc hC (pc := 62) dX9_leadAlike_62 rfl rfl (by decide) rfl ?_
            refine wm_goto hC 6 (pc := 65) dX9_leadAlike_65 (by decide) ?_
            have hh := ih _ (by omega) (k + 1) (some (mvI (ldsF (rv w) (2 * p + 1) (i : Int) (k : Int)))) rfl (by omega)
            rw [E] at hh
            exact hh
          · have E : mb (allb (ldMk (rv w) (2 * p + 1) (lkR L) i j) (k + 1)) = 1 := by
              rw [hst, h25, decide_eq_false (by omega)]
              have hq : lkR L (ldsF (rv w) (2 * p + 1) (i : Int) (k : Int)).toNat (ldsF (rv w) (2 * p + 1) (j : Int) (k : Int)).toNat = true := by unfold lkR; cases hb : (L (ldsF (rv w) (2 * p + 1) (i : Int) (k : Int)).toNat).testBit (ldsF (rv w) (2 * p + 1) (j : Int) (k : Int)).toNat <;> simp [hb] at h52 ⊢
              rw [hq]; rfl
            refine wm_iconst hC (pc := 55) dX9_leadAlike_55 ?_
            refine wm_goto hC 60 (pc := 56) dX9_leadAlike_56 (by decide) ?_
            refine wm_istore hC  (pc := 60) dX9_leadAlike_60  (by decide) rfl ?_
            refine wm_iinc hC (pc := 62) dX9_leadAlike_62 rfl rfl (by decide) rfl ?_
            refine wm_goto hC 6 (pc := 65) dX9_leadAlike_65 (by decide) ?_
            have hh := ih _ (by omega) (k + 1) (some (mvI (ldsF (rv w) (2 * p + 1) (i : Int) (k : Int)))) rfl (by omega)
            rw [E] at hh
            exact hh
  exact lp6 _ 0 none rfl (by omega)
set_option maxRecDepth 100000 in
set_option maxHeartbeats 1000000 in
theorem s_X9_findAlike {l : Launch} {G : mG} {w : mW} {p : Nat} (hp : p < 3) (hR : RPl w) : Mx l G 4 yX9_findAlike cX9_findAlike 6 none [mvR 31, mvI (p : Int)] w (qV (fun w' => (∀ a : Nat, a ≠ 35 → w' a = w a) ∧ ∃ L, LkW w' L ∧ IsG (rv w) (2 * p + 1) (lkR L))) := by
  refine Mx.intro (by decide) RX9 rfl [some (mvR 31), some (mvI (p : Int)), none, none, none, none] (Nat.le_of_ble_eq_true rfl) rfl (fun K hC => ?_)
  refine wm_iconst hC (pc := 0) dX9_findAlike_0 ?_
  refine wm_istore_n hC 2 (pc := 1) dX9_findAlike_1 rfl (by decide) rfl ?_
  have lp2 : ∀ (n : Nat) (k : Nat) (v2 : mW) (o3 : Option mV), n = 8 - k → k ≤ 8 → (∀ a : Nat, a ≠ 35 → v2 a = w a) → (∀ a : Nat, a < k → v2 35 (a : Int) = ((wmask (fun j => lookF (rv w) (2 * p + 1) (a : Int) (j : Int)) 8 : Nat) : Int)) → Wm l G K 4 6 (qV (fun w' => (∀ a : Nat, a ≠ 35 → w' a = w a) ∧ ∃ L, LkW w' L ∧ IsG (rv w) (2 * p + 1) (lkR L))) 2 [some (mvR 31), some (mvI (p : Int)), some (mvI (k : Int)), o3, none, none] [] v2 := by
    intro n
    induction n using Nat.strongRecOn with
    | _ n ih =>
    intro k v2 o3 hn hk hv2 hm2
    refine wm_iload_n hC 2 (pc := 2) dX9_findAlike_2 rfl rfl ?_
    refine wm_bipush hC (pc := 3) dX9_findAlike_3 (by decide) ?_
    refine wm_icmp_ge hC 61 (pc := 5) dX9_findAlike_5 (by decide) (by omega) (by omega) (fun h5 => ?_) (fun h5 => ?_)
    · refine wm_iconst hC (pc := 61) dX9_findAlike_61 ?_
      refine wm_istore_n hC 2 (pc := 62) dX9_findAlike_62 rfl (by decide) rfl ?_
      have lp63 : ∀ (n : Nat) (g0 : Int) (v0 : mW) (L0 : Nat → Nat) (o3 o4 o5 : Option mV), n = (if g0 = 0 then 0 else tot L0 + 1) → (g0 = 0 ∨ g0 = 1) → (∀ a : Nat, a ≠ 35 → v0 a = w a) → LkW v0 L0 → GIn (rv w) (2 * p + 1) L0 → (g0 = 0 → Cons (rv w) (2 * p + 1) (lkR L0)) → Wm l G K 4 6 (qV (fun w' => (∀ a : Nat, a ≠ 35 → w' a = w a) ∧ ∃ L, LkW w' L ∧ IsG (rv w) (2 * p + 1) (lkR L))) 63 [some (mvR 31), some (mvI (p : Int)), some (mvI g0), o3, o4, o5] [] v0 := by
        intro n
        induction n using Nat.strongRecOn with
        | _ n ih =>
        intro g0 v0 L0 o3 o4 o5 hn hgg hv0 hLw0 hG0 hC0
        refine wm_iload_n hC 2 (pc := 63) dX9_findAlike_63 rfl rfl ?_
        refine wm_if_eq hC 144 (pc := 64) dX9_findAlike_64 (by decide) (by omega) (fun h64 => ?_) (fun h64 => ?_)
        · refine wm_retV hC (pc := 144) dX9_findAlike_144 ?_
          have hz : g0 = 0 := by omega
          exact ⟨hv0, L0, hLw0, hC0 hz, hG0.2⟩
        · refine wm_iconst hC (pc := 67) dX9_findAlike_67 ?_
          refine wm_istore_n hC 2 (pc := 68) dX9_findAlike_68 rfl (by decide) rfl ?_
          refine wm_iconst hC (pc := 69) dX9_findAlike_69 ?_
          refine wm_istore_n hC 3 (pc := 70) dX9_findAlike_70 rfl (by decide) rfl ?_
          have lp71 : ∀ (n : Nat) (k : Nat) (g : Int) (v : mW) (L : Nat → Nat) (o8 o9 : Option mV), n = 64 - k → k ≤ 64 → (g = 0 ∨ g = 1) → (∀ a : Nat, a ≠ 35 → v a = w a) → LkW v L → GIn (rv w) (2 * p + 1) L → tot L ≤ tot L0 → (g = 1 → tot L < tot L0) → (g = 0 → ∀ t : Nat, t < k → lkR L (t / 8) (t % 8) = true → ldM (rv w) (2 * p + 1) (lkR L) (t / 8) (t % 8) = true) → Wm l G K 4 6 (qV (fun w' => (∀ a : Nat, a ≠ 35 → w' a = w a) ∧ ∃ L, LkW w' L ∧ IsG (rv w) (2 * p + 1) (lkR L))) 71 [some (mvR 31), some (mvI (p : Int)), some (mvI g), some (mvI (k : Int)), o8, o9] [] v := by
            intro n
            induction n using Nat.strongRecOn with
            | _ n ih =>
            intro k g v L o8 o9 hm2 hk hg hv hLw hG hle0 hg1 hg0
            rename_i n0 ih0
            refine wm_iload_n hC 3 (pc := 71) dX9_findAlike_71 rfl rfl ?_
            refine wm_bipush hC (pc := 72) dX9_findAlike_72 (by decide) ?_
            refine wm_icmp_ge hC 141 (pc := 74) dX9_findAlike_74 (by decide) (by omega) (by omega) (fun h74 => ?_) (fun h74 => ?_)
            · refine wm_goto hC 63 (pc := 141) dX9_findAlike_141 (by decide) ?_
              have : k = 64 := by omega
              subst this
              refine ih0 _ ?_ g v L _ _ _ rfl hg hv hLw hG (fun h => fun i j hi hj hb => ⟨hG.1 i j hi hj hb, ?_⟩)
              · rw [hn, if_neg h64]
                split
                · omega
                · have := hg1 (by omega); omega
              · have := hg0 h (8 * i + j) (by omega)
                rw [show (8 * i + j) / 8 = i by omega, show (8 * i + j) % 8 = j by omega] at this
                exact this hb
            · refine wm_iload_n hC 3 (pc := 77) dX9_findAlike_77 rfl rfl ?_
              refine wm_bipush hC (pc := 78) dX9_findAlike_78 (by decide) ?_
              refine wm_idiv hC (pc := 80) dX9_findAlike_80 (by omega) (by omega) ?_
              refine wm_istore hC  (pc := 81) dX9_findAlike_81  (by decide) rfl ?_
              refine wm_iload_n hC 3 (pc := 83) dX9_findAlike_83 rfl rfl ?_
              refine wm_bipush hC (pc := 84) dX9_findAlike_84 (by decide) ?_
              refine wm_irem hC (pc := 86) dX9_findAlike_86 (by omega) (by omega) ?_
              refine wm_istore hC  (pc := 87) dX9_findAlike_87  (by decide) rfl ?_
              refine wm_aload_n hC 0 (pc := 89) dX9_findAlike_89 rfl rfl ?_
              refine wm_getR hC fl_X9_20_8 rfl rfl (pc := 90) dX9_findAlike_90 ?_
              refine wm_iload hC  (pc := 93) dX9_findAlike_93 rfl ?_
              refine wm_iaload hC rfl (by omega) (by decide) (pc := 95) dX9_findAlike_95 ?_
              refine wm_iload hC  (pc := 96) dX9_findAlike_96 rfl ?_
              refine wm_ishr hC (L (k / 8)) (k % 8) (pc := 98) dX9_findAlike_98 (by rw [show (k : Int) / 8 = ((k / 8 : Nat) : Int) by omega]; exact (hLw (k / 8) (by omega)).1) (by omega) (by have := (hLw (k / 8) (by omega)).2; omega) (by omega) ?_
              refine wm_iconst hC (pc := 99) dX9_findAlike_99 ?_
              refine wm_iand hC (L (k / 8) / 2 ^ (k % 8)) 1 (pc := 100) dX9_findAlike_100 rfl rfl ?_
              refine wm_iconst hC (pc := 101) dX9_findAlike_101 ?_
              rw [mtb]
              have hbt : ((L (k / 8)).testBit (k % 8)).toNat < 2 := by cases (L (k / 8)).testBit (k % 8) <;> decide
              refine wm_icmp_ne hC 135 (pc := 102) dX9_findAlike_102 (by decide) (by omega) (by omega) (fun h102 => ?_) (fun h102 => ?_)
              · have hbk : lkR L (k / 8) (k % 8) = false := by unfold lkR; cases hb : (L (k / 8)).testBit (k % 8) <;> simp [hb] at h102 ⊢
                refine wm_iinc hC (pc := 135) dX9_findAlike_135 rfl rfl (by decide) rfl ?_
                refine wm_goto hC 71 (pc := 138) dX9_findAlike_138 (by decide) ?_
                exact ih _ (by omega) (k + 1) g v L _ _ rfl (by omega) hg hv hLw hG hle0 hg1 (fun h => fun t ht hb => by
                  by_cases q : t = k
                  · subst q; rw [hbk] at hb; cases hb
                  · exact hg0 h t (by omega) hb)
              · refine wm_aload_n hC 0 (pc := 105) dX9_findAlike_105 rfl rfl ?_
                refine wm_iload_n hC 1 (pc := 106) dX9_findAlike_106 rfl rfl ?_
                refine wm_iload hC  (pc := 107) dX9_findAlike_107 rfl ?_
                refine wm_iload hC  (pc := 109) dX9_findAlike_109 rfl ?_
                refine wm_pV hC cv_X9_105 kc_X9_leadAlike rfl rfl (s_X9_leadAlike hp (i := k / 8) (by omega) (j := k % 8) (by omega) (hR.congr (hv 32 (by decide))) hLw (by rw [rv_congr (hv 32 (by decide))]; exact hG.1 (k / 8) (k % 8) (by omega) (by omega) (by unfold lkR; cases hb : (L (k / 8)).testBit (k % 8) <;> simp [hb] at h102 ⊢))) rfl (by decide) rfl (Nat.le_of_ble_eq_true rfl) (pc := 111) dX9_findAlike_111 ?_
                rw [rv_congr (hv 32 (by decide))]
                refine wm_ifb_ne hC 135 (pc := 114) dX9_findAlike_114 (by decide) (fun h114 => ?_) (fun h114 => ?_)
                · refine wm_iinc hC (pc := 135) dX9_findAlike_135 rfl rfl (by decide) rfl ?_
                  refine wm_goto hC 71 (pc := 138) dX9_findAlike_138 (by decide) ?_
                  exact ih _ (by omega) (k + 1) g v L _ _ rfl (by omega) hg hv hLw hG hle0 hg1 (fun h => fun t ht hb => by
                    by_cases q : t = k
                    · subst q; exact h114
                    · exact hg0 h t (by omega) hb)
                · refine wm_aload_n hC 0 (pc := 117) dX9_findAlike_117 rfl rfl ?_
                  refine wm_getR hC fl_X9_20_8 rfl rfl (pc := 118) dX9_findAlike_118 ?_
                  refine wm_iload hC  (pc := 121) dX9_findAlike_121 rfl ?_
                  refine wm_dup2 hC (pc := 123) dX9_findAlike_123 rfl rfl ?_
                  refine wm_iaload hC rfl (by omega) (by decide) (pc := 124) dX9_findAlike_124 ?_
                  refine wm_iconst hC (pc := 125) dX9_findAlike_125 ?_
                  refine wm_iload hC  (pc := 126) dX9_findAlike_126 rfl ?_
                  refine wm_ishl1 hC (k % 8) (pc := 128) dX9_findAlike_128 (by omega) (by omega) ?_
                  refine wm_iconst hC (pc := 129) dX9_findAlike_129 ?_
                  refine wm_inot hC (pc := 130) dX9_findAlike_130 ?_
                  refine wm_iandn hC (L (k / 8)) (2 ^ (k % 8)) (pc := 131) dX9_findAlike_131 (by rw [show (k : Int) / 8 = ((k / 8 : Nat) : Int) by omega]; exact (hLw (k / 8) (by omega)).1) rfl ?_
                  refine wm_iastore hC rfl (by omega) (by decide) (pc := 132) dX9_findAlike_132 ?_
                  refine wm_iconst hC (pc := 133) dX9_findAlike_133 ?_
                  refine wm_istore_n hC 2 (pc := 134) dX9_findAlike_134 rfl (by decide) rfl ?_
                  refine wm_iinc hC (pc := 135) dX9_findAlike_135 rfl rfl (by decide) rfl ?_
                  refine wm_goto hC 71 (pc := 138) dX9_findAlike_138 (by decide) ?_
                  have hbk : lkR L (k / 8) (k % 8) = true := by unfold lkR; cases hb : (L (k / 8)).testBit (k % 8) <;> simp [hb] at h102 ⊢
                  have hlt := tot_clr (show k / 8 < 8 by omega) (show k % 8 < 8 by omega) hbk
                  have hle : tot L ≤ tot L0 := hle0
                  rw [show (k : Int) / 8 = ((k / 8 : Nat) : Int) by omega]
                  exact ih _ (by omega) (k + 1) 1 _ (clrL L (k / 8) (k % 8)) _ _ rfl (by omega) (Or.inr rfl) (fun a ha => by rw [mup_ne ha]; exact hv a ha) (hLw.clr (i := k / 8) (j := k % 8)) (hG.clr (hR.ok hp) (by omega) (by omega) h114) (by omega) (fun _ => by omega) (fun h => by omega)
          exact lp71 _ 0 0 v0 L0 _ _ rfl (by omega) (Or.inl rfl) hv0 hLw0 hG0 (Nat.le_refl _) (fun h => by omega) (fun _ t ht => absurd ht (by omega))
      have : k = 8 := by omega
      subst this
      exact lp63 _ 1 v2 (fun a => wmask (fun j => lookF (rv w) (2 * p + 1) (a : Int) (j : Int)) 8) _ none none rfl (Or.inr rfl) hv2 (fun a ha => ⟨hm2 a ha, wmask_lt _ 8⟩) GIn.zero (fun h => by omega)
    · refine wm_aload_n hC 0 (pc := 8) dX9_findAlike_8 rfl rfl ?_
      refine wm_getR hC fl_X9_20_8 rfl rfl (pc := 9) dX9_findAlike_9 ?_
      refine wm_iload_n hC 2 (pc := 12) dX9_findAlike_12 rfl rfl ?_
      refine wm_iconst hC (pc := 13) dX9_findAlike_13 ?_
      refine wm_iastore hC rfl (by omega) (by decide) (pc := 14) dX9_findAlike_14 ?_
      refine wm_iconst hC (pc := 15) dX9_findAlike_15 ?_
      refine wm_istore_n hC 3 (pc := 16) dX9_findAlike_16 rfl (by decide) rfl ?_
      have lp17 : ∀ (n : Nat) (j : Nat) (v : mW), n = 8 - j → j ≤ 8 → (∀ a : Nat, a ≠ 35 → v a = w a) → (∀ a : Nat, a < k → v 35 (a : Int) = ((wmask (fun j => lookF (rv w) (2 * p + 1) (a : Int) (j : Int)) 8 : Nat) : Int)) → v 35 (k : Int) = ((wmask (fun j => lookF (rv w) (2 * p + 1) (k : Int) (j : Int)) j : Nat) : Int) → Wm l G K 4 6 (qV (fun w' => (∀ a : Nat, a ≠ 35 → w' a = w a) ∧ ∃ L, LkW w' L ∧ IsG (rv w) (2 * p + 1) (lkR L))) 17 [some (mvR 31), some (mvI (p : Int)), some (mvI (k : Int)), some (mvI (j : Int)), none, none] [] v := by
        intro n
        induction n using Nat.strongRecOn with
        | _ n ih =>
        intro j v hq2 hj hv hm hvk
        rename_i n0 ih0
        refine wm_iload_n hC 3 (pc := 17) dX9_findAlike_17 rfl rfl ?_
        refine wm_bipush hC (pc := 18) dX9_findAlike_18 (by decide) ?_
        refine wm_icmp_ge hC 55 (pc := 20) dX9_findAlike_20 (by decide) (by omega) (by omega) (fun h20 => ?_) (fun h20 => ?_)
        · refine wm_iinc hC (pc := 55) dX9_findAlike_55 rfl rfl (by decide) rfl ?_
          refine wm_goto hC 2 (pc := 58) dX9_findAlike_58 (by decide) ?_
          have : j = 8 := by omega
          subst this
          exact ih0 _ (by omega) (k + 1) v _ rfl (by omega) hv (fun a ha => by
            by_cases q : a = k
            · subst q; exact hvk
            · exact hm a (by omega))
        · refine wm_aload_n hC 0 (pc := 23) dX9_findAlike_23 rfl rfl ?_
          refine wm_getR hC fl_X9_20_8 rfl rfl (pc := 24) dX9_findAlike_24 ?_
          refine wm_iload_n hC 2 (pc := 27) dX9_findAlike_27 rfl rfl ?_
          refine wm_dup2 hC (pc := 28) dX9_findAlike_28 rfl rfl ?_
          refine wm_iaload hC rfl (by omega) (by decide) (pc := 29) dX9_findAlike_29 ?_
          refine wm_aload_n hC 0 (pc := 30) dX9_findAlike_30 rfl rfl ?_
          refine wm_iload_n hC 1 (pc := 31) dX9_findAlike_31 rfl rfl ?_
          refine wm_iload_n hC 2 (pc := 32) dX9_findAlike_32 rfl rfl ?_
          refine wm_iload_n hC 3 (pc := 33) dX9_findAlike_33 rfl rfl ?_
          refine wm_pV hC cv_X9_102 kc_X9_haveSame rfl rfl (s_X9_haveSame hp (by omega) (by omega) (hR.congr (hv 32 (by decide)))) rfl (by decide) rfl (Nat.le_of_ble_eq_true rfl) (pc := 34) dX9_findAlike_34 ?_
          rw [rv_congr (hv 32 (by decide))]
          have hst : wmask (fun j => lookF (rv w) (2 * p + 1) (k : Int) (j : Int)) (j + 1) = if lookF (rv w) (2 * p + 1) (k : Int) (j : Int) then wmask (fun j => lookF (rv w) (2 * p + 1) (k : Int) (j : Int)) j ||| 2 ^ j else wmask (fun j => lookF (rv w) (2 * p + 1) (k : Int) (j : Int)) j := rfl
          refine wm_ifb_eq hC 46 (pc := 37) dX9_findAlike_37 (by decide) (fun h37 => ?_) (fun h37 => ?_)
          · have E : wmask (fun j => lookF (rv w) (2 * p + 1) (k : Int) (j : Int)) j ||| 0 = wmask (fun j => lookF (rv w) (2 * p + 1) (k : Int) (j : Int)) (j + 1) := by rw [hst, h37, Nat.or_zero]; rfl
            refine wm_iconst hC (pc := 46) dX9_findAlike_46 ?_
            refine wm_ior hC _ _ (pc := 47) dX9_findAlike_47 hvk rfl ?_
            refine wm_iastore hC rfl (by omega) (by decide) (pc := 48) dX9_findAlike_48 ?_
            refine wm_iinc hC (pc := 49) dX9_findAlike_49 rfl rfl (by decide) rfl ?_
            refine wm_goto hC 17 (pc := 52) dX9_findAlike_52 (by decide) ?_
            refine ih _ (by omega) (j + 1) _ rfl (by omega) (fun a ha => by rw [mup_ne ha]; exact hv a ha) (fun a ha => by rw [mup_get, if_neg (by omega)]; exact hm a ha) (by rw [mup_at, E])
          · have E : wmask (fun j => lookF (rv w) (2 * p + 1) (k : Int) (j : Int)) j ||| 2 ^ j = wmask (fun j => lookF (rv w) (2 * p + 1) (k : Int) (j : Int)) (j + 1) := by rw [hst, h37]; rfl
            refine wm_iconst hC (pc := 40) dX9_findAlike_40 ?_
            refine wm_iload_n hC 3 (pc := 41) dX9_findAlike_41 rfl rfl ?_
            refine wm_ishl1 hC j (pc := 42) dX9_findAlike_42 rfl (by omega) ?_
            refine wm_goto hC 47 (pc := 43) dX9_findAlike_43 (by decide) ?_
            refine wm_ior hC _ _ (pc := 47) dX9_findAlike_47 hvk rfl ?_
            refine wm_iastore hC rfl (by omega) (by decide) (pc := 48) dX9_findAlike_48 ?_
            refine wm_iinc hC (pc := 49) dX9_findAlike_49 rfl rfl (by decide) rfl ?_
            refine wm_goto hC 17 (pc := 52) dX9_findAlike_52 (by decide) ?_
            refine ih _ (by omega) (j + 1) _ rfl (by omega) (fun a ha => by rw [mup_ne ha]; exact hv a ha) (fun a ha => by rw [mup_get, if_neg (by omega)]; exact hm a ha) (by rw [mup_at, E])
      exact lp17 _ 0 _ rfl (by omega) (fun a ha => by rw [mup_ne ha]; exact hv2 a ha) (fun a ha => by rw [mup_get, if_neg (by omega)]; exact hm2 a ha) (by rw [mup_at]; rfl)
  exact lp2 _ 0 w none rfl (by omega) (fun _ _ => rfl) (fun a ha => absurd ha (by omega))
set_option maxRecDepth 100000 in
set_option maxHeartbeats 4000000 in
theorem s_X9_lowest {l : Launch} {G : mG} {w : mW} {s b : Nat} (hs : s < 256) (hb : b < 8) (hb2 : s.testBit b = true) : Mx l G 0 yX9_lowest cX9_lowest 2 (some .int) [mvI (s : Int)] w (qP (mvI ((lowst (fun j => s.testBit j) 8 8 0 : Nat) : Int)) w) := by
  refine Mx.intro (by decide) RX9 rfl [some (mvI (s : Int)), none] (Nat.le_of_ble_eq_true rfl) rfl (fun K hC => ?_)
  refine wm_iconst hC (pc := 0) dX9_lowest_0 ?_
  refine wm_istore_n hC 1 (pc := 1) dX9_lowest_1 rfl (by decide) rfl ?_
  have lp2 : ∀ (n : Nat) (j : Nat), n = 8 - j → j ≤ b → lowst (fun j => s.testBit j) 8 8 0 = lowst (fun j => s.testBit j) 8 (8 - j) j → Wm l G K 0 2 (qP (mvI ((lowst (fun j => s.testBit j) 8 8 0 : Nat) : Int)) w) 2 [some (mvI (s : Int)), some (mvI (j : Int))] [] w := by
    intro n
    induction n using Nat.strongRecOn with
    | _ n ih =>
    intro j hn hj he
    refine wm_iload_n hC 0 (pc := 2) dX9_lowest_2 rfl rfl ?_
    refine wm_iload_n hC 1 (pc := 3) dX9_lowest_3 rfl rfl ?_
    refine wm_ishr hC s j (pc := 4) dX9_lowest_4 rfl rfl (by omega) (by omega) ?_
    refine wm_iconst hC (pc := 5) dX9_lowest_5 ?_
    refine wm_iand hC (s / 2 ^ j) 1 (pc := 6) dX9_lowest_6 rfl rfl ?_
    rw [mtb]
    have hbt : (s.testBit j).toNat < 2 := by cases s.testBit j <;> decide
    have hst : lowst (fun j => s.testBit j) 8 (8 - j) j = if s.testBit j then j else lowst (fun j => s.testBit j) 8 (8 - (j + 1)) (j + 1) := by rw [show 8 - j = (8 - (j + 1)) + 1 by omega]; rfl
    refine wm_if_ne hC 16 (pc := 7) dX9_lowest_7 (by decide) (by omega) (fun h7 => ?_) (fun h7 => ?_)
    · refine wm_iload_n hC 1 (pc := 16) dX9_lowest_16 rfl rfl ?_
      refine wm_iretP hC (pc := 17) dX9_lowest_17 ?_ rfl
      have hf : s.testBit j = true := by cases hq : s.testBit j <;> simp [hq] at h7 ⊢
      rw [he, hst, hf]; rfl
    · refine wm_iinc hC (pc := 10) dX9_lowest_10 rfl rfl (by decide) rfl ?_
      refine wm_goto hC 2 (pc := 13) dX9_lowest_13 (by decide) ?_
      have hf : s.testBit j = false := by cases hq : s.testBit j <;> simp [hq] at h7 ⊢
      have hne : j ≠ b := fun q => by rw [q, hb2] at hf; cases hf
      exact ih _ (by omega) (j + 1) rfl (by omega) (by rw [he, hst, hf]; rfl)
  exact lp2 _ 0 rfl (by omega) rfl
set_option maxRecDepth 100000 in
set_option maxHeartbeats 4000000 in
theorem s_X9_alikeTo {l : Launch} {G : mG} {w : mW} {p : Nat} (hp : p < 3) {i : Nat} (hi : i < 8) (hR : RPl w) : Mx l G 5 yX9_alikeTo cX9_alikeTo 3 (some .int) [mvR 31, mvI (p : Int), mvI (i : Int)] w (qI (fun z w' => (∀ a : Nat, a ≠ 35 → w' a = w a) ∧ ∃ L, IsG (rv w) (2 * p + 1) (lkR L) ∧ z = ((lowst (fun j => (L i).testBit j) 8 8 0 : Nat) : Int))) := by
  refine Mx.intro (by decide) RX9 rfl [some (mvR 31), some (mvI (p : Int)), some (mvI (i : Int))] (Nat.le_of_ble_eq_true rfl) rfl (fun K hC => ?_)
  refine wm_aload_n hC 0 (pc := 0) dX9_alikeTo_0 rfl rfl ?_
  refine wm_iload_n hC 1 (pc := 1) dX9_alikeTo_1 rfl rfl ?_
  refine wm_vV hC cv_X9_108 kc_X9_findAlike rfl rfl (s_X9_findAlike hp hR) rfl (by decide) rfl (Nat.le_of_ble_eq_true rfl) (pc := 2) dX9_alikeTo_2 (fun w2 hw2 => ?_)
  obtain ⟨hv, L, hLw, hG⟩ := hw2
  refine wm_aload_n hC 0 (pc := 5) dX9_alikeTo_5 rfl rfl ?_
  refine wm_getR hC fl_X9_20_8 rfl rfl (pc := 6) dX9_alikeTo_6 ?_
  refine wm_iload_n hC 2 (pc := 9) dX9_alikeTo_9 rfl rfl ?_
  refine wm_iaload hC rfl (by omega) (by decide) (pc := 10) dX9_alikeTo_10 ?_
  rw [(hLw i hi).1]
  refine wm_pS hC cs_X9_112 kc_X9_lowest (s_X9_lowest (b := i) (hLw i hi).2 hi (hG.refl hi)) rfl (by decide) rfl (Nat.le_of_ble_eq_true rfl) (pc := 11) dX9_alikeTo_11 ?_
  refine wm_iretI hC (pc := 14) dX9_alikeTo_14 ?_
  exact ⟨hv, L, hG, rfl⟩
theorem or_sub {a b : Nat} (h : a ||| b = b) : a ≤ b := by rw [← h]; exact Nat.left_le_or
theorem or_bit {a b i : Nat} (h : a ||| b = b) (hi : a.testBit i = true) : b.testBit i = true := by rw [← h, Nat.testBit_or, hi]; rfl
set_option maxRecDepth 100000 in
set_option maxHeartbeats 1000000 in
theorem s_X9_reached {l : Launch} {G : mG} {w : mW} {p : Nat} (hp : p < 3) {s : Nat} (hs : s < 8) (hR : RPl w) : Mx l G 3 yX9_reached cX9_reached 7 (some .int) [mvR 31, mvI (p : Int), mvI (s : Int)] w (qI (fun z w' => w' = w ∧ ∃ M : Nat, RIs (rv w) (2 * p + 1) s M ∧ z = (M : Int))) := by
  refine Mx.intro (by decide) RX9 rfl [some (mvR 31), some (mvI (p : Int)), some (mvI (s : Int)), none, none, none, none] (Nat.le_of_ble_eq_true rfl) rfl (fun K hC => ?_)
  refine wm_iconst hC (pc := 0) dX9_reached_0 ?_
  refine wm_istore_n hC 3 (pc := 1) dX9_reached_1 rfl (by decide) rfl ?_
  refine wm_iconst hC (pc := 2) dX9_reached_2 ?_
  refine wm_iload_n hC 2 (pc := 3) dX9_reached_3 rfl rfl ?_
  refine wm_ishl1 hC s (pc := 4) dX9_reached_4 rfl (by omega) ?_
  refine wm_istore hC  (pc := 5) dX9_reached_5  (by decide) rfl ?_
  have lp7 : ∀ (n : Nat) (a0 b0 : Nat) (o5 o6 : Option mV), n = 256 - a0 → a0 < 256 → b0 < 256 → b0.testBit s = true → a0 ||| b0 = b0 → (∀ t : Nat, t < 48 → a0.testBit (t / 6) = true → 0 ≤ ldsF (rv w) (2 * p + 1) ((t / 6 : Nat) : Int) ((t % 6 : Nat) : Int) → b0.testBit (ldsF (rv w) (2 * p + 1) ((t / 6 : Nat) : Int) ((t % 6 : Nat) : Int)).toNat = true) → (∀ S : Nat → Bool, Cl (rv w) (2 * p + 1) S → S s = true → ∀ x, x < 8 → b0.testBit x = true → S x = true) → Wm l G K 3 7 (qI (fun z w' => w' = w ∧ ∃ M : Nat, RIs (rv w) (2 * p + 1) s M ∧ z = (M : Int))) 7 [some (mvR 31), some (mvI (p : Int)), some (mvI (s : Int)), some (mvI (a0 : Int)), some (mvI (b0 : Int)), o5, o6] [] w := by
    intro n
    induction n using Nat.strongRecOn with
    | _ n ih =>
    intro a0 b0 o5 o6 hn ha0 hb0 hbs hsub hcl hmin
    refine wm_iload hC  (pc := 7) dX9_reached_7 rfl ?_
    refine wm_iload_n hC 3 (pc := 9) dX9_reached_9 rfl rfl ?_
    refine wm_icmp_eq hC 83 (pc := 10) dX9_reached_10 (by decide) (by omega) (by omega) (fun h10 => ?_) (fun h10 => ?_)
    · refine wm_iload_n hC 3 (pc := 83) dX9_reached_83 rfl rfl ?_
      refine wm_iretI hC (pc := 84) dX9_reached_84 ?_
      have e : a0 = b0 := by omega
      subst e
      exact ⟨rfl, a0, ⟨ha0, hbs, fun x k hx hk h1 h2 => by
        have := hcl (6 * x + k) (by omega)
        rw [show (6 * x + k) / 6 = x by omega, show (6 * x + k) % 6 = k by omega] at this
        exact this h1 h2, hmin⟩, rfl⟩
    · refine wm_iload hC  (pc := 13) dX9_reached_13 rfl ?_
      refine wm_istore_n hC 3 (pc := 15) dX9_reached_15 rfl (by decide) rfl ?_
      refine wm_iconst hC (pc := 16) dX9_reached_16 ?_
      refine wm_istore hC  (pc := 17) dX9_reached_17  (by decide) rfl ?_
      have lp19 : ∀ (n : Nat) (k a b : Nat) (o8 : Option mV), n = 48 - k → k ≤ 48 → a = b0 → b < 256 → b.testBit s = true → a ||| b = b → (∀ t : Nat, t < k → a.testBit (t / 6) = true → 0 ≤ ldsF (rv w) (2 * p + 1) ((t / 6 : Nat) : Int) ((t % 6 : Nat) : Int) → b.testBit (ldsF (rv w) (2 * p + 1) ((t / 6 : Nat) : Int) ((t % 6 : Nat) : Int)).toNat = true) → (∀ S : Nat → Bool, Cl (rv w) (2 * p + 1) S → S s = true → ∀ x, x < 8 → b.testBit x = true → S x = true) → Wm l G K 3 7 (qI (fun z w' => w' = w ∧ ∃ M : Nat, RIs (rv w) (2 * p + 1) s M ∧ z = (M : Int))) 19 [some (mvR 31), some (mvI (p : Int)), some (mvI (s : Int)), some (mvI (a : Int)), some (mvI (b : Int)), some (mvI (k : Int)), o8] [] w := by
        intro n
        induction n using Nat.strongRecOn with
        | _ n ih =>
        intro k a b o8 hm hk hab0 hb hbs1 hsub1 hcl1 hmin1
        rename_i n0 ih0
        have ha : a < 256 := by omega
        refine wm_iload hC  (pc := 19) dX9_reached_19 rfl ?_
        refine wm_bipush hC (pc := 21) dX9_reached_21 (by decide) ?_
        refine wm_icmp_ge hC 80 (pc := 23) dX9_reached_23 (by decide) (by omega) (by omega) (fun h23 => ?_) (fun h23 => ?_)
        · refine wm_goto hC 7 (pc := 80) dX9_reached_80 (by decide) ?_
          have : k = 48 := by omega
          subst this
          have hle := or_sub hsub
          exact ih0 _ (by omega) a b _ _ rfl ha hb hbs1 hsub1 hcl1 hmin1
        · refine wm_aload_n hC 0 (pc := 26) dX9_reached_26 rfl rfl ?_
          refine wm_iload_n hC 1 (pc := 27) dX9_reached_27 rfl rfl ?_
          refine wm_iload hC  (pc := 28) dX9_reached_28 rfl ?_
          refine wm_bipush hC (pc := 30) dX9_reached_30 (by decide) ?_
          refine wm_idiv hC (pc := 32) dX9_reached_32 (by omega) (by omega) ?_
          refine wm_iload hC  (pc := 33) dX9_reached_33 rfl ?_
          refine wm_bipush hC (pc := 35) dX9_reached_35 (by decide) ?_
          refine wm_irem hC (pc := 37) dX9_reached_37 (by omega) (by omega) ?_
          refine wm_pV hC cv_X9_99 kc_X9_leads rfl rfl (s_X9_leads (by omega) (by omega) (by omega) hR) rfl (by decide) rfl (Nat.le_of_ble_eq_true rfl) (pc := 38) dX9_reached_38 ?_
          have hr := lds_rng (hR.ok hp) (s := (k : Int) / 6) (k := (k : Int) % 6) (by omega) (by omega)
          have ek : ldsF (rv w) (2 * p + 1) ((k / 6 : Nat) : Int) ((k % 6 : Nat) : Int) = ldsF (rv w) (2 * p + 1) ((k : Int) / 6) ((k : Int) % 6) := by rw [show ((k / 6 : Nat) : Int) = (k : Int) / 6 by omega, show ((k % 6 : Nat) : Int) = (k : Int) % 6 by omega]
          refine wm_istore hC  (pc := 41) dX9_reached_41  (by decide) rfl ?_
          refine wm_iload hC  (pc := 43) dX9_reached_43 rfl ?_
          refine wm_iload_n hC 3 (pc := 45) dX9_reached_45 rfl rfl ?_
          refine wm_iload hC  (pc := 46) dX9_reached_46 rfl ?_
          refine wm_bipush hC (pc := 48) dX9_reached_48 (by decide) ?_
          refine wm_idiv hC (pc := 50) dX9_reached_50 (by omega) (by omega) ?_
          refine wm_ishr hC a (k / 6) (pc := 51) dX9_reached_51 rfl (by omega) (by omega) (by omega) ?_
          refine wm_iconst hC (pc := 52) dX9_reached_52 ?_
          refine wm_iand hC (a / 2 ^ (k / 6)) 1 (pc := 53) dX9_reached_53 rfl rfl ?_
          refine wm_iconst hC (pc := 54) dX9_reached_54 ?_
          rw [mtb]
          have hbt : (a.testBit (k / 6)).toNat < 2 := by cases a.testBit (k / 6) <;> decide
          refine wm_icmp_ne hC 70 (pc := 55) dX9_reached_55 (by decide) (by omega) (by omega) (fun h55 => ?_) (fun h55 => ?_)
          · have hc : a.testBit (k / 6) = true → 0 ≤ ldsF (rv w) (2 * p + 1) ((k : Int) / 6) ((k : Int) % 6) → b.testBit (ldsF (rv w) (2 * p + 1) ((k : Int) / 6) ((k : Int) % 6)).toNat = true := fun q => by rw [q] at h55; simp at h55
            refine wm_iconst hC (pc := 70) dX9_reached_70 ?_
            refine wm_ior hC _ _ (pc := 71) dX9_reached_71 rfl rfl ?_
            refine wm_istore hC  (pc := 72) dX9_reached_72  (by decide) rfl ?_
            refine wm_iinc hC (pc := 74) dX9_reached_74 rfl rfl (by decide) rfl ?_
            refine wm_goto hC 19 (pc := 77) dX9_reached_77 (by decide) ?_
            first
            | (rw [Nat.or_zero]
               exact ih _ (by omega) (k + 1) a b _ rfl (by omega) hab0 hb hbs1 hsub1 (fun t ht => by
                 by_cases q : t = k
                 · subst q; rw [ek]; exact hc
                 · exact hcl1 t (by omega)) hmin1)
            | exact ih _ (by omega) (k + 1) a (b ||| 2 ^ (ldsF (rv w) (2 * p + 1) ((k : Int) / 6) ((k : Int) % 6)).toNat) _ rfl (by omega) hab0 (Nat.or_lt_two_pow (n := 8) hb (Nat.pow_lt_pow_right (by decide) (by omega))) (by rw [Nat.testBit_or, hbs1]; rfl) (by rw [← Nat.or_assoc, hsub1]) (fun t ht h1 h2 => by
                rw [Nat.testBit_or]
                by_cases q : t = k
                · subst q; rw [ek, Nat.testBit_two_pow]; simp
                · rw [hcl1 t (by omega) h1 h2]; rfl) (fun S hS hs0 x hx hb2 => by
                rw [Nat.testBit_or, Bool.or_eq_true] at hb2
                rcases hb2 with hb2 | hb2
                · exact hmin1 S hS hs0 x hx hb2
                · rw [Nat.testBit_two_pow] at hb2
                  have e2 := of_decide_eq_true hb2
                  have hS2 := hS (k / 6) (k % 6) (by omega) (by omega) (hmin S hS hs0 (k / 6) (by omega) (hab0 ▸ hab)) (by rw [ek]; omega)
                  rw [ek, e2] at hS2; exact hS2)
          · refine wm_iload hC  (pc := 58) dX9_reached_58 rfl ?_
            refine wm_if_lt hC 70 (pc := 60) dX9_reached_60 (by decide) (by omega) (fun h60 => ?_) (fun h60 => ?_)
            · have hc : a.testBit (k / 6) = true → 0 ≤ ldsF (rv w) (2 * p + 1) ((k : Int) / 6) ((k : Int) % 6) → b.testBit (ldsF (rv w) (2 * p + 1) ((k : Int) / 6) ((k : Int) % 6)).toNat = true := fun _ q => by omega
              refine wm_iconst hC (pc := 70) dX9_reached_70 ?_
              refine wm_ior hC _ _ (pc := 71) dX9_reached_71 rfl rfl ?_
              refine wm_istore hC  (pc := 72) dX9_reached_72  (by decide) rfl ?_
              refine wm_iinc hC (pc := 74) dX9_reached_74 rfl rfl (by decide) rfl ?_
              refine wm_goto hC 19 (pc := 77) dX9_reached_77 (by decide) ?_
              first
              | (rw [Nat.or_zero]
                 exact ih _ (by omega) (k + 1) a b _ rfl (by omega) hab0 hb hbs1 hsub1 (fun t ht => by
                   by_cases q : t = k
                   · subst q; rw [ek]; exact hc
                   · exact hcl1 t (by omega)) hmin1)
              | exact ih _ (by omega) (k + 1) a (b ||| 2 ^ (ldsF (rv w) (2 * p + 1) ((k : Int) / 6) ((k : Int) % 6)).toNat) _ rfl (by omega) hab0 (Nat.or_lt_two_pow (n := 8) hb (Nat.pow_lt_pow_right (by decide) (by omega))) (by rw [Nat.testBit_or, hbs1]; rfl) (by rw [← Nat.or_assoc, hsub1]) (fun t ht h1 h2 => by
                  rw [Nat.testBit_or]
                  by_cases q : t = k
                  · subst q; rw [ek, Nat.testBit_two_pow]; simp
                  · rw [hcl1 t (by omega) h1 h2]; rfl) (fun S hS hs0 x hx hb2 => by
                  rw [Nat.testBit_or, Bool.or_eq_true] at hb2
                  rcases hb2 with hb2 | hb2
                  · exact hmin1 S hS hs0 x hx hb2
                  · rw [Nat.testBit_two_pow] at hb2
                    have e2 := of_decide_eq_true hb2
                    have hS2 := hS (k / 6) (k % 6) (by omega) (by omega) (hmin S hS hs0 (k / 6) (by omega) (hab0 ▸ hab)) (by rw [ek]; omega)
                    rw [ek, e2] at hS2; exact hS2)
            · have hab : a.testBit (k / 6) = true := by cases hb : a.testBit (k / 6) <;> simp [hb] at h55 ⊢
              refine wm_iconst hC (pc := 63) dX9_reached_63 ?_
              refine wm_iload hC  (pc := 64) dX9_reached_64 rfl ?_
              refine wm_ishl1 hC (ldsF (rv w) (2 * p + 1) ((k : Int) / 6) ((k : Int) % 6)).toNat (pc := 66) dX9_reached_66 (by omega) (by omega) ?_
              refine wm_goto hC 71 (pc := 67) dX9_reached_67 (by decide) ?_
              refine wm_ior hC _ _ (pc := 71) dX9_reached_71 rfl rfl ?_
              refine wm_istore hC  (pc := 72) dX9_reached_72  (by decide) rfl ?_
              refine wm_iinc hC (pc := 74) dX9_reached_74 rfl rfl (by decide) rfl ?_
              refine wm_goto hC 19 (pc := 77) dX9_reached_77 (by decide) ?_
              first
              | (rw [Nat.or_zero]
                 exact ih _ (by omega) (k + 1) a b _ rfl (by omega) hab0 hb hbs1 hsub1 (fun t ht => by
                   by_cases q : t = k
                   · subst q; rw [ek]; exact hc
                   · exact hcl1 t (by omega)) hmin1)
              | exact ih _ (by omega) (k + 1) a (b ||| 2 ^ (ldsF (rv w) (2 * p + 1) ((k : Int) / 6) ((k : Int) % 6)).toNat) _ rfl (by omega) hab0 (Nat.or_lt_two_pow (n := 8) hb (Nat.pow_lt_pow_right (by decide) (by omega))) (by rw [Nat.testBit_or, hbs1]; rfl) (by rw [← Nat.or_assoc, hsub1]) (fun t ht h1 h2 => by
                  rw [Nat.testBit_or]
                  by_cases q : t = k
                  · subst q; rw [ek, Nat.testBit_two_pow]; simp
                  · rw [hcl1 t (by omega) h1 h2]; rfl) (fun S hS hs0 x hx hb2 => by
                  rw [Nat.testBit_or, Bool.or_eq_true] at hb2
                  rcases hb2 with hb2 | hb2
                  · exact hmin1 S hS hs0 x hx hb2
                  · rw [Nat.testBit_two_pow] at hb2
                    have e2 := of_decide_eq_true hb2
                    have hS2 := hS (k / 6) (k % 6) (by omega) (by omega) (hmin S hS hs0 (k / 6) (by omega) (hab0 ▸ hab)) (by rw [ek]; omega)
                    rw [ek, e2] at hS2; exact hS2)
      exact lp19 _ 0 b0 b0 _ rfl (by omega) rfl hb0 hbs (Nat.or_self _) (fun t ht => absurd ht (by omega)) hmin
  exact lp7 _ 0 (2 ^ s) none none rfl (by omega) (show 2 ^ s < 2 ^ 8 from Nat.pow_lt_pow_right (by decide) hs) (by rw [Nat.testBit_two_pow]; simp) (Nat.zero_or _) (fun t _ h => by simp at h) (fun S _ hS x _ hx => by rw [Nat.testBit_two_pow] at hx; rw [← of_decide_eq_true hx]; exact hS)
theorem mI_per (x : Int) : mI (x + 4294967296) = mI x := by
  rw [← mI_add, show mI 4294967296 = 0 by decide, Int32.add_zero]
theorem mI_back {x : Int} (h : -4294967296 ≤ x ∧ x < 2147483648) : ∃ y : Int, ((-2147483648 ≤ y ∧ y < 2147483648) ∧ (y = x ∨ (y = x + 4294967296 ∧ x < -2147483648))) ∧ mI x = mI y := by
  by_cases q : -2147483648 ≤ x
  · exact ⟨x, ⟨⟨q, h.2⟩, Or.inl rfl⟩, rfl⟩
  · by_cases q2 : -2147483648 ≤ x + 4294967296 ∧ x + 4294967296 < 2147483648
    · exact ⟨x + 4294967296, ⟨q2, Or.inr ⟨rfl, by omega⟩⟩, (mI_per x).symm⟩
    · omega
theorem wm_top {l : Launch} {G : mG} {K : mK} {d nL : Nat} {Q : Option mV → mW → Prop} {pc : Nat} {L : List (Option mV)} {st : List mV} {w : mW} {z : Int} (z' : Int) (e : mI z = mI z') (h : Wm l G K d nL Q pc L (mvI z' :: st) w) : Wm l G K d nL Q pc L (mvI z :: st) w := by
  intro H locs ls a b c d
  have hh := h H locs ls a b c d
  have e2 : (mvI z :: st).map (mtr G) = (mvI z' :: st).map (mtr G) := by simp [mtr, e]
  rw [e2]; exact hh
/-- what the reference tells of a state -/
def RSt (U : mW) (p s : Nat) (c z : Int) : Prop := (c = 0 → z = kdF U p (s : Int)) ∧ (c = 1 → z = ((wmask (hasW U p (s : Int)) 6 : Nat) : Int)) ∧ (c = 2 → ∃ L, IsG U p (lkR L) ∧ z = ((lowst (fun j => (L s).testBit j) 8 8 0 : Nat) : Int)) ∧ (c = 3 → ∃ M : Nat, RIs U p s M ∧ z = (M : Int)) ∧ (10 ≤ c → z = if tgF U p (s : Int) (c - 10) = -1 then -1000004 else tgF U p (s : Int) (c - 10))
set_option maxRecDepth 100000 in
set_option maxHeartbeats 4000000 in
theorem s_X9_stateOf {l : Launch} {G : mG} {w : mW} {a b c : Int} (hI : RInv w) (ha : -2147483648 ≤ a ∧ a < 2147483648) (hb : -2147483648 ≤ b ∧ b < 2147483648) (hc : -2147483648 ≤ c ∧ c < 2147483648) : Mx l G 6 yX9_stateOf cX9_stateOf 5 (some .int) [mvR 31, mvI a, mvI b, mvI c] w (qI (fun z w' => (¬ (0 ≤ a ∧ a < 3 ∧ 0 ≤ b ∧ b < 8 ∧ ((0 ≤ c ∧ c ≤ 3) ∨ (10 ≤ c ∧ c < 16))) ∧ z = -1000001 ∧ w' = w) ∨ ((0 ≤ a ∧ a < 3 ∧ 0 ≤ b ∧ b < 8 ∧ ((0 ≤ c ∧ c ≤ 3) ∨ (10 ≤ c ∧ c < 16))) ∧ RSt (rv w) (2 * a.toNat + 1) b.toNat c z ∧ ∀ i : Nat, i ≠ 35 → w' i = w i))) := by
  refine Mx.intro (by decide) RX9 rfl [some (mvR 31), some (mvI a), some (mvI b), some (mvI c), none] (Nat.le_of_ble_eq_true rfl) rfl (fun K hC => ?_)
  refine wm_iload_n hC 1 (pc := 0) dX9_stateOf_0 rfl rfl ?_
  refine wm_pS hC cs_X9_74 kc_X9_isPlan (s_X9_isPlan (by omega)) rfl (by decide) rfl (Nat.le_of_ble_eq_true rfl) (pc := 1) dX9_stateOf_1 ?_
  refine wm_ifd_eq hC 33 (pc := 4) dX9_stateOf_4 (by decide) (fun h4 => ?_) (fun h4 => ?_)
  · refine wm_ldc hC (-1000001) kI_X9_81 (pc := 33) dX9_stateOf_33 ?_
    refine wm_iretI hC (pc := 35) dX9_stateOf_35 ?_
    left
    exact ⟨by omega, rfl, rfl⟩
  · refine wm_iload_n hC 2 (pc := 7) dX9_stateOf_7 rfl rfl ?_
    refine wm_pS hC cs_X9_78 kc_X9_isState (s_X9_isState (by omega)) rfl (by decide) rfl (Nat.le_of_ble_eq_true rfl) (pc := 8) dX9_stateOf_8 ?_
    refine wm_ifd_eq hC 33 (pc := 11) dX9_stateOf_11 (by decide) (fun h11 => ?_) (fun h11 => ?_)
    · refine wm_ldc hC (-1000001) kI_X9_81 (pc := 33) dX9_stateOf_33 ?_
      refine wm_iretI hC (pc := 35) dX9_stateOf_35 ?_
      left
      exact ⟨by omega, rfl, rfl⟩
    · refine wm_iload_n hC 3 (pc := 14) dX9_stateOf_14 rfl rfl ?_
      refine wm_iconst hC (pc := 15) dX9_stateOf_15 ?_
      refine wm_iconst hC (pc := 16) dX9_stateOf_16 ?_
      refine wm_pS hC cs_X9_59 kc_X9_in (s_X9_in (by omega) (by omega) (by omega)) rfl (by decide) rfl (Nat.le_of_ble_eq_true rfl) (pc := 17) dX9_stateOf_17 ?_
      refine wm_ifd_ne hC 36 (pc := 20) dX9_stateOf_20 (by decide) (fun h20 => ?_) (fun h20 => ?_)
      · obtain ⟨p, rfl⟩ : ∃ p : Nat, a = (p : Int) := ⟨a.toNat, by omega⟩
        have hp : p < 3 := by omega
        obtain ⟨s, rfl⟩ : ∃ s : Nat, b = (s : Int) := ⟨b.toNat, by omega⟩
        refine wm_iload_n hC 3 (pc := 36) dX9_stateOf_36 rfl rfl ?_
        by_cases sw37_0 : c = 0
        · refine wm_tableIn hC 68 (0) (pc := 37) dX9_stateOf_37 sw37_0 (by decide) rfl (by decide) ?_
          refine wm_aload_n hC 0 (pc := 68) dX9_stateOf_68 rfl rfl ?_
          refine wm_iload_n hC 1 (pc := 69) dX9_stateOf_69 rfl rfl ?_
          refine wm_iload_n hC 2 (pc := 70) dX9_stateOf_70 rfl rfl ?_
          refine wm_pV hC cv_X9_67 kc_X9_kindOf rfl rfl (s_X9_kindOf (by omega) (by omega)) rfl (by decide) rfl (Nat.le_of_ble_eq_true rfl) (pc := 71) dX9_stateOf_71 ?_
          refine wm_iretI hC (pc := 74) dX9_stateOf_74 ?_
          right
          exact ⟨by omega, ⟨(fun _ => rfl), (fun h => by omega), (fun h => by omega), (fun h => by omega), (fun h => by omega)⟩, fun _ _ => rfl⟩
        by_cases sw37_1 : c = 1
        · refine wm_tableIn hC 75 (1) (pc := 37) dX9_stateOf_37 sw37_1 (by decide) rfl (by decide) ?_
          refine wm_aload_n hC 0 (pc := 75) dX9_stateOf_75 rfl rfl ?_
          refine wm_iload_n hC 1 (pc := 76) dX9_stateOf_76 rfl rfl ?_
          refine wm_iload_n hC 2 (pc := 77) dX9_stateOf_77 rfl rfl ?_
          refine wm_pV hC cv_X9_88 kc_X9_words rfl rfl (s_X9_words hp (by omega) hI.1) rfl (by decide) rfl (Nat.le_of_ble_eq_true rfl) (pc := 78) dX9_stateOf_78 ?_
          refine wm_iretI hC (pc := 81) dX9_stateOf_81 ?_
          right
          exact ⟨by omega, ⟨(fun h => by omega), (fun _ => rfl), (fun h => by omega), (fun h => by omega), (fun h => by omega)⟩, fun _ _ => rfl⟩
        by_cases sw37_2 : c = 2
        · refine wm_tableIn hC 82 (2) (pc := 37) dX9_stateOf_37 sw37_2 (by decide) rfl (by decide) ?_
          refine wm_aload_n hC 0 (pc := 82) dX9_stateOf_82 rfl rfl ?_
          refine wm_iload_n hC 1 (pc := 83) dX9_stateOf_83 rfl rfl ?_
          refine wm_iload_n hC 2 (pc := 84) dX9_stateOf_84 rfl rfl ?_
          refine wm_iV hC cv_X9_115 kc_X9_alikeTo rfl rfl (s_X9_alikeTo hp (by omega) hI.1) rfl (by decide) rfl (Nat.le_of_ble_eq_true rfl) (pc := 85) dX9_stateOf_85 (fun z85 w85 hw85 => ?_)
          refine wm_iretI hC (pc := 88) dX9_stateOf_88 ?_
          right
          exact ⟨by omega, ⟨(fun h => by omega), (fun h => by omega), (fun _ => hw85.2), (fun h => by omega), (fun h => by omega)⟩, hw85.1⟩
        by_cases sw37_3 : c = 3
        · refine wm_tableIn hC 89 (3) (pc := 37) dX9_stateOf_37 sw37_3 (by decide) rfl (by decide) ?_
          refine wm_aload_n hC 0 (pc := 89) dX9_stateOf_89 rfl rfl ?_
          refine wm_iload_n hC 1 (pc := 90) dX9_stateOf_90 rfl rfl ?_
          refine wm_iload_n hC 2 (pc := 91) dX9_stateOf_91 rfl rfl ?_
          refine wm_iV hC cv_X9_118 kc_X9_reached rfl rfl (s_X9_reached hp (by omega) hI.1) rfl (by decide) rfl (Nat.le_of_ble_eq_true rfl) (pc := 92) dX9_stateOf_92 (fun z92 w92 hw92 => ?_)
          refine wm_iretI hC (pc := 95) dX9_stateOf_95 ?_
          right
          exact ⟨by omega, ⟨(fun h => by omega), (fun h => by omega), (fun h => by omega), (fun _ => hw92.2), (fun h => by omega)⟩, fun i _ => by rw [hw92.1]⟩
        refine wm_tableOut hC 96 (pc := 37) dX9_stateOf_37 (by decide) (by omega) (by omega) ?_
        refine wm_aload_n hC 0 (pc := 96) dX9_stateOf_96 rfl rfl ?_
        refine wm_iload_n hC 1 (pc := 97) dX9_stateOf_97 rfl rfl ?_
        refine wm_iload_n hC 2 (pc := 98) dX9_stateOf_98 rfl rfl ?_
        refine wm_iload_n hC 3 (pc := 99) dX9_stateOf_99 rfl rfl ?_
        refine wm_bipush hC (pc := 100) dX9_stateOf_100 (by decide) ?_
        refine wm_isub hC (pc := 102) dX9_stateOf_102 ?_
        refine wm_pV hC cv_X9_71 kc_X9_led rfl rfl (s_X9_led (by omega) (by omega) (by omega)) rfl (by decide) rfl (Nat.le_of_ble_eq_true rfl) (pc := 103) dX9_stateOf_103 ?_
        refine wm_istore hC  (pc := 106) dX9_stateOf_106  (by decide) rfl ?_
        have hb := tg_rng (hI.1.ok hp) (s := (s : Int)) (k := c - 10) (by omega) (by omega)
        refine wm_iload hC  (pc := 108) dX9_stateOf_108 rfl ?_
        refine wm_if_ge hC 118 (pc := 110) dX9_stateOf_110 (by decide) (by omega) (fun h110 => ?_) (fun h110 => ?_)
        · refine wm_iload hC  (pc := 118) dX9_stateOf_118 rfl ?_
          refine wm_iretI hC (pc := 120) dX9_stateOf_120 ?_
          right
          refine ⟨by omega, ⟨(fun h => by omega), (fun h => by omega), (fun h => by omega), (fun h => by omega), (fun _ => ?_)⟩, fun _ _ => rfl⟩
          show _ = if tgF (rv w) (2 * p + 1) (s : Int) (c - 10) = -1 then -1000004 else tgF (rv w) (2 * p + 1) (s : Int) (c - 10)
          split <;> omega
        · refine wm_ldc hC (-1000004) kI_X9_121 (pc := 113) dX9_stateOf_113 ?_
          refine wm_goto hC 120 (pc := 115) dX9_stateOf_115 (by decide) ?_
          refine wm_iretI hC (pc := 120) dX9_stateOf_120 ?_
          right
          refine ⟨by omega, ⟨(fun h => by omega), (fun h => by omega), (fun h => by omega), (fun h => by omega), (fun _ => ?_)⟩, fun _ _ => rfl⟩
          show _ = if tgF (rv w) (2 * p + 1) (s : Int) (c - 10) = -1 then -1000004 else tgF (rv w) (2 * p + 1) (s : Int) (c - 10)
          split <;> omega
      · refine wm_iload_n hC 3 (pc := 23) dX9_stateOf_23 rfl rfl ?_
        refine wm_bipush hC (pc := 24) dX9_stateOf_24 (by decide) ?_
        refine wm_isub hC (pc := 26) dX9_stateOf_26 ?_
        obtain ⟨c9, hc9, ec9⟩ := mI_back (x := c - 10) (by omega)
        refine wm_top c9 ec9 ?_
        refine wm_pS hC cs_X9_85 kc_X9_isWord (s_X9_isWord (by omega)) rfl (by decide) rfl (Nat.le_of_ble_eq_true rfl) (pc := 27) dX9_stateOf_27 ?_
        refine wm_ifd_ne hC 36 (pc := 30) dX9_stateOf_30 (by decide) (fun h30 => ?_) (fun h30 => ?_)
        · obtain ⟨p, rfl⟩ : ∃ p : Nat, a = (p : Int) := ⟨a.toNat, by omega⟩
          have hp : p < 3 := by omega
          obtain ⟨s, rfl⟩ : ∃ s : Nat, b = (s : Int) := ⟨b.toNat, by omega⟩
          refine wm_iload_n hC 3 (pc := 36) dX9_stateOf_36 rfl rfl ?_
          by_cases sw37_0 : c = 0
          · refine wm_tableIn hC 68 (0) (pc := 37) dX9_stateOf_37 sw37_0 (by decide) rfl (by decide) ?_
            refine wm_aload_n hC 0 (pc := 68) dX9_stateOf_68 rfl rfl ?_
            refine wm_iload_n hC 1 (pc := 69) dX9_stateOf_69 rfl rfl ?_
            refine wm_iload_n hC 2 (pc := 70) dX9_stateOf_70 rfl rfl ?_
            refine wm_pV hC cv_X9_67 kc_X9_kindOf rfl rfl (s_X9_kindOf (by omega) (by omega)) rfl (by decide) rfl (Nat.le_of_ble_eq_true rfl) (pc := 71) dX9_stateOf_71 ?_
            refine wm_iretI hC (pc := 74) dX9_stateOf_74 ?_
            right
            exact ⟨by omega, ⟨(fun _ => rfl), (fun h => by omega), (fun h => by omega), (fun h => by omega), (fun h => by omega)⟩, fun _ _ => rfl⟩
          by_cases sw37_1 : c = 1
          · refine wm_tableIn hC 75 (1) (pc := 37) dX9_stateOf_37 sw37_1 (by decide) rfl (by decide) ?_
            refine wm_aload_n hC 0 (pc := 75) dX9_stateOf_75 rfl rfl ?_
            refine wm_iload_n hC 1 (pc := 76) dX9_stateOf_76 rfl rfl ?_
            refine wm_iload_n hC 2 (pc := 77) dX9_stateOf_77 rfl rfl ?_
            refine wm_pV hC cv_X9_88 kc_X9_words rfl rfl (s_X9_words hp (by omega) hI.1) rfl (by decide) rfl (Nat.le_of_ble_eq_true rfl) (pc := 78) dX9_stateOf_78 ?_
            refine wm_iretI hC (pc := 81) dX9_stateOf_81 ?_
            right
            exact ⟨by omega, ⟨(fun h => by omega), (fun _ => rfl), (fun h => by omega), (fun h => by omega), (fun h => by omega)⟩, fun _ _ => rfl⟩
          by_cases sw37_2 : c = 2
          · refine wm_tableIn hC 82 (2) (pc := 37) dX9_stateOf_37 sw37_2 (by decide) rfl (by decide) ?_
            refine wm_aload_n hC 0 (pc := 82) dX9_stateOf_82 rfl rfl ?_
            refine wm_iload_n hC 1 (pc := 83) dX9_stateOf_83 rfl rfl ?_
            refine wm_iload_n hC 2 (pc := 84) dX9_stateOf_84 rfl rfl ?_
            refine wm_iV hC cv_X9_115 kc_X9_alikeTo rfl rfl (s_X9_alikeTo hp (by omega) hI.1) rfl (by decide) rfl (Nat.le_of_ble_eq_true rfl) (pc := 85) dX9_stateOf_85 (fun z85 w85 hw85 => ?_)
            refine wm_iretI hC (pc := 88) dX9_stateOf_88 ?_
            right
            exact ⟨by omega, ⟨(fun h => by omega), (fun h => by omega), (fun _ => hw85.2), (fun h => by omega), (fun h => by omega)⟩, hw85.1⟩
          by_cases sw37_3 : c = 3
          · refine wm_tableIn hC 89 (3) (pc := 37) dX9_stateOf_37 sw37_3 (by decide) rfl (by decide) ?_
            refine wm_aload_n hC 0 (pc := 89) dX9_stateOf_89 rfl rfl ?_
            refine wm_iload_n hC 1 (pc := 90) dX9_stateOf_90 rfl rfl ?_
            refine wm_iload_n hC 2 (pc := 91) dX9_stateOf_91 rfl rfl ?_
            refine wm_iV hC cv_X9_118 kc_X9_reached rfl rfl (s_X9_reached hp (by omega) hI.1) rfl (by decide) rfl (Nat.le_of_ble_eq_true rfl) (pc := 92) dX9_stateOf_92 (fun z92 w92 hw92 => ?_)
            refine wm_iretI hC (pc := 95) dX9_stateOf_95 ?_
            right
            exact ⟨by omega, ⟨(fun h => by omega), (fun h => by omega), (fun h => by omega), (fun _ => hw92.2), (fun h => by omega)⟩, fun i _ => by rw [hw92.1]⟩
          refine wm_tableOut hC 96 (pc := 37) dX9_stateOf_37 (by decide) (by omega) (by omega) ?_
          refine wm_aload_n hC 0 (pc := 96) dX9_stateOf_96 rfl rfl ?_
          refine wm_iload_n hC 1 (pc := 97) dX9_stateOf_97 rfl rfl ?_
          refine wm_iload_n hC 2 (pc := 98) dX9_stateOf_98 rfl rfl ?_
          refine wm_iload_n hC 3 (pc := 99) dX9_stateOf_99 rfl rfl ?_
          refine wm_bipush hC (pc := 100) dX9_stateOf_100 (by decide) ?_
          refine wm_isub hC (pc := 102) dX9_stateOf_102 ?_
          refine wm_pV hC cv_X9_71 kc_X9_led rfl rfl (s_X9_led (by omega) (by omega) (by omega)) rfl (by decide) rfl (Nat.le_of_ble_eq_true rfl) (pc := 103) dX9_stateOf_103 ?_
          refine wm_istore hC  (pc := 106) dX9_stateOf_106  (by decide) rfl ?_
          have hb := tg_rng (hI.1.ok hp) (s := (s : Int)) (k := c - 10) (by omega) (by omega)
          refine wm_iload hC  (pc := 108) dX9_stateOf_108 rfl ?_
          refine wm_if_ge hC 118 (pc := 110) dX9_stateOf_110 (by decide) (by omega) (fun h110 => ?_) (fun h110 => ?_)
          · refine wm_iload hC  (pc := 118) dX9_stateOf_118 rfl ?_
            refine wm_iretI hC (pc := 120) dX9_stateOf_120 ?_
            right
            refine ⟨by omega, ⟨(fun h => by omega), (fun h => by omega), (fun h => by omega), (fun h => by omega), (fun _ => ?_)⟩, fun _ _ => rfl⟩
            show _ = if tgF (rv w) (2 * p + 1) (s : Int) (c - 10) = -1 then -1000004 else tgF (rv w) (2 * p + 1) (s : Int) (c - 10)
            split <;> omega
          · refine wm_ldc hC (-1000004) kI_X9_121 (pc := 113) dX9_stateOf_113 ?_
            refine wm_goto hC 120 (pc := 115) dX9_stateOf_115 (by decide) ?_
            refine wm_iretI hC (pc := 120) dX9_stateOf_120 ?_
            right
            refine ⟨by omega, ⟨(fun h => by omega), (fun h => by omega), (fun h => by omega), (fun h => by omega), (fun _ => ?_)⟩, fun _ _ => rfl⟩
            show _ = if tgF (rv w) (2 * p + 1) (s : Int) (c - 10) = -1 then -1000004 else tgF (rv w) (2 * p + 1) (s : Int) (c - 10)
            split <;> omega
        · refine wm_ldc hC (-1000001) kI_X9_81 (pc := 33) dX9_stateOf_33 ?_
          refine wm_iretI hC (pc := 35) dX9_stateOf_35 ?_
          left
          exact ⟨by omega, rfl, rfl⟩
set_option maxRecDepth 100000 in
set_option maxHeartbeats 4000000 in
theorem s_X9_unlike {l : Launch} {G : mG} {w : mW} {a : Int} (hI : RInv w) (ha : -2147483648 ≤ a ∧ a < 2147483648) : Mx l G 6 yX9_unlike cX9_unlike 5 (some .int) [mvR 31, mvI a] w (qI (fun z w' => (¬ (0 ≤ a ∧ a < 3) ∧ z = -1000001 ∧ w' = w) ∨ ((0 ≤ a ∧ a < 3) ∧ (∃ L M, IsG (rv w) (2 * a.toNat + 1) (lkR L) ∧ RIs (rv w) (2 * a.toNat + 1) 0 M ∧ z = ((cnt (fun k => M.testBit k && decide (lowst (fun j => (L k &&& M).testBit j) 8 8 0 = k)) 8 : Nat) : Int)) ∧ ∀ i : Nat, i ≠ 35 → w' i = w i))) := by
  refine Mx.intro (by decide) RX9 rfl [some (mvR 31), some (mvI a), none, none, none] (Nat.le_of_ble_eq_true rfl) rfl (fun K hC => ?_)
  refine wm_iload_n hC 1 (pc := 0) dX9_unlike_0 rfl rfl ?_
  refine wm_pS hC cs_X9_74 kc_X9_isPlan (s_X9_isPlan (by omega)) rfl (by decide) rfl (Nat.le_of_ble_eq_true rfl) (pc := 1) dX9_unlike_1 ?_
  refine wm_ifd_ne hC 10 (pc := 4) dX9_unlike_4 (by decide) (fun h4 => ?_) (fun h4 => ?_)
  · obtain ⟨p, rfl⟩ : ∃ p : Nat, a = (p : Int) := ⟨a.toNat, by omega⟩
    have hp : p < 3 := by omega
    refine wm_aload_n hC 0 (pc := 10) dX9_unlike_10 rfl rfl ?_
    refine wm_iload_n hC 1 (pc := 11) dX9_unlike_11 rfl rfl ?_
    refine wm_vV hC cv_X9_108 kc_X9_findAlike rfl rfl (s_X9_findAlike hp hI.1) rfl (by decide) rfl (Nat.le_of_ble_eq_true rfl) (pc := 12) dX9_unlike_12 (fun w12 hw12 => ?_)
    obtain ⟨hv, L, hLw, hG⟩ := hw12
    refine wm_aload_n hC 0 (pc := 15) dX9_unlike_15 rfl rfl ?_
    refine wm_iload_n hC 1 (pc := 16) dX9_unlike_16 rfl rfl ?_
    refine wm_iconst hC (pc := 17) dX9_unlike_17 ?_
    refine wm_iV hC cv_X9_118 kc_X9_reached rfl rfl (s_X9_reached (s := 0) hp (by omega) (hI.1.congr (hv 32 (by decide)))) rfl (by decide) rfl (Nat.le_of_ble_eq_true rfl) (pc := 18) dX9_unlike_18 (fun z18 w18 hw18 => ?_)
    obtain ⟨rfl, M, hM, rfl⟩ := hw18
    rw [rv_congr (hv 32 (by decide))] at hM
    have hM1 := hM.1
    refine wm_istore_n hC 2 (pc := 21) dX9_unlike_21 rfl (by decide) rfl ?_
    refine wm_iconst hC (pc := 22) dX9_unlike_22 ?_
    refine wm_istore_n hC 3 (pc := 23) dX9_unlike_23 rfl (by decide) rfl ?_
    refine wm_iconst hC (pc := 24) dX9_unlike_24 ?_
    refine wm_istore hC  (pc := 25) dX9_unlike_25  (by decide) rfl ?_
    have lp27 : ∀ (n : Nat) (k : Nat), n = 8 - k → k ≤ 8 → Wm l G K 6 5 (qI (fun z w' => (¬ (0 ≤ (p : Int) ∧ (p : Int) < 3) ∧ z = -1000001 ∧ w' = w) ∨ ((0 ≤ (p : Int) ∧ (p : Int) < 3) ∧ (∃ L M, IsG (rv w) (2 * (p : Int).toNat + 1) (lkR L) ∧ RIs (rv w) (2 * (p : Int).toNat + 1) 0 M ∧ z = ((cnt (fun k => M.testBit k && decide (lowst (fun j => (L k &&& M).testBit j) 8 8 0 = k)) 8 : Nat) : Int)) ∧ ∀ i : Nat, i ≠ 35 → w' i = w i))) 27 [some (mvR 31), some (mvI (p : Int)), some (mvI (M : Int)), some (mvI ((cnt (fun k => M.testBit k && decide (lowst (fun j => (L k &&& M).testBit j) 8 8 0 = k)) k : Nat) : Int)), some (mvI (k : Int))] [] w18 := by
      intro n
      induction n using Nat.strongRecOn with
      | _ n ih =>
      intro k hn hk
      refine wm_iload hC  (pc := 27) dX9_unlike_27 rfl ?_
      refine wm_bipush hC (pc := 29) dX9_unlike_29 (by decide) ?_
      refine wm_icmp_ge hC 75 (pc := 31) dX9_unlike_31 (by decide) (by omega) (by omega) (fun h31 => ?_) (fun h31 => ?_)
      · refine wm_iload_n hC 3 (pc := 75) dX9_unlike_75 rfl rfl ?_
        refine wm_iretI hC (pc := 76) dX9_unlike_76 ?_
        have : k = 8 := by omega
        subst this
        right
        exact ⟨by omega, ⟨L, M, hG, hM, rfl⟩, hv⟩
      · refine wm_iload_n hC 3 (pc := 34) dX9_unlike_34 rfl rfl ?_
        refine wm_iload_n hC 2 (pc := 35) dX9_unlike_35 rfl rfl ?_
        refine wm_iload hC  (pc := 36) dX9_unlike_36 rfl ?_
        refine wm_ishr hC M k (pc := 38) dX9_unlike_38 rfl rfl (by omega) (by omega) ?_
        refine wm_iconst hC (pc := 39) dX9_unlike_39 ?_
        refine wm_iand hC (M / 2 ^ k) 1 (pc := 40) dX9_unlike_40 rfl rfl ?_
        refine wm_iconst hC (pc := 41) dX9_unlike_41 ?_
        rw [mtb]
        have hbt : (M.testBit k).toNat < 2 := by cases M.testBit k <;> decide
        have hst : cnt (fun k => M.testBit k && decide (lowst (fun j => (L k &&& M).testBit j) 8 8 0 = k)) (k + 1) = cnt (fun k => M.testBit k && decide (lowst (fun j => (L k &&& M).testBit j) 8 8 0 = k)) k + (M.testBit k && decide (lowst (fun j => (L k &&& M).testBit j) 8 8 0 = k)).toNat := rfl
        refine wm_icmp_ne hC 66 (pc := 42) dX9_unlike_42 (by decide) (by omega) (by omega) (fun h42 => ?_) (fun h42 => ?_)
        · have hMk : M.testBit k = false := by cases hq : M.testBit k <;> simp [hq] at h42 ⊢
          have E : cnt (fun k => M.testBit k && decide (lowst (fun j => (L k &&& M).testBit j) 8 8 0 = k)) (k + 1) = cnt (fun k => M.testBit k && decide (lowst (fun j => (L k &&& M).testBit j) 8 8 0 = k)) k := by rw [hst, hMk]; rfl
          refine wm_iconst hC (pc := 66) dX9_unlike_66 ?_
          refine wm_iadd hC (pc := 67) dX9_unlike_67 ?_
          refine wm_istore_n hC 3 (pc := 68) dX9_unlike_68 rfl (by decide) rfl ?_
          refine wm_iinc hC (pc := 69) dX9_unlike_69 rfl rfl (by decide) rfl ?_
          refine wm_goto hC 27 (pc := 72) dX9_unlike_72 (by decide) ?_
          have hh := ih _ (by omega) (k + 1) rfl (by omega)
          rw [E] at hh
          exact hh
        · have hMk : M.testBit k = true := by cases hq : M.testBit k <;> simp [hq] at h42 ⊢
          refine wm_aload_n hC 0 (pc := 45) dX9_unlike_45 rfl rfl ?_
          refine wm_getR hC fl_X9_20_8 rfl rfl (pc := 46) dX9_unlike_46 ?_
          refine wm_iload hC  (pc := 49) dX9_unlike_49 rfl ?_
          refine wm_iaload hC rfl (by omega) (by decide) (pc := 51) dX9_unlike_51 ?_
          refine wm_iload_n hC 2 (pc := 52) dX9_unlike_52 rfl rfl ?_
          refine wm_iand hC (L k) M (pc := 53) dX9_unlike_53 (hLw k (by omega)).1 rfl ?_
          refine wm_pS hC cs_X9_112 kc_X9_lowest (s_X9_lowest (b := k) (Nat.lt_of_le_of_lt Nat.and_le_right hM1) (by omega) (by rw [Nat.testBit_and]; have h1 := hG.refl (show k < 8 by omega); unfold lkR at h1; rw [h1, hMk]; rfl)) rfl (by decide) rfl (Nat.le_of_ble_eq_true rfl) (pc := 54) dX9_unlike_54 ?_
          have hlw := lowst_lt (fun j => (L k &&& M).testBit j) 8 9 (by decide) 8 0 (by decide)
          refine wm_iload hC  (pc := 57) dX9_unlike_57 rfl ?_
          refine wm_icmp_ne hC 66 (pc := 59) dX9_unlike_59 (by decide) (by omega) (by omega) (fun h59 => ?_) (fun h59 => ?_)
          · have E : cnt (fun k => M.testBit k && decide (lowst (fun j => (L k &&& M).testBit j) 8 8 0 = k)) (k + 1) = cnt (fun k => M.testBit k && decide (lowst (fun j => (L k &&& M).testBit j) 8 8 0 = k)) k := by rw [hst, hMk, decide_eq_false (by omega)]; rfl
            refine wm_iconst hC (pc := 66) dX9_unlike_66 ?_
            refine wm_iadd hC (pc := 67) dX9_unlike_67 ?_
            refine wm_istore_n hC 3 (pc := 68) dX9_unlike_68 rfl (by decide) rfl ?_
            refine wm_iinc hC (pc := 69) dX9_unlike_69 rfl rfl (by decide) rfl ?_
            refine wm_goto hC 27 (pc := 72) dX9_unlike_72 (by decide) ?_
            have hh := ih _ (by omega) (k + 1) rfl (by omega)
            rw [E] at hh
            exact hh
          · have E : cnt (fun k => M.testBit k && decide (lowst (fun j => (L k &&& M).testBit j) 8 8 0 = k)) (k + 1) = cnt (fun k => M.testBit k && decide (lowst (fun j => (L k &&& M).testBit j) 8 8 0 = k)) k + 1 := by rw [hst, hMk, decide_eq_true (by omega)]; rfl
            refine wm_iconst hC (pc := 62) dX9_unlike_62 ?_
            refine wm_goto hC 67 (pc := 63) dX9_unlike_63 (by decide) ?_
            refine wm_iadd hC (pc := 67) dX9_unlike_67 ?_
            refine wm_istore_n hC 3 (pc := 68) dX9_unlike_68 rfl (by decide) rfl ?_
            refine wm_iinc hC (pc := 69) dX9_unlike_69 rfl rfl (by decide) rfl ?_
            refine wm_goto hC 27 (pc := 72) dX9_unlike_72 (by decide) ?_
            have hh := ih _ (by omega) (k + 1) rfl (by omega)
            rw [E] at hh
            exact hh
    exact lp27 _ 0 rfl (by omega)
  · refine wm_ldc hC (-1000001) kI_X9_81 (pc := 7) dX9_unlike_7 ?_
    refine wm_iretI hC (pc := 9) dX9_unlike_9 ?_
    left
    exact ⟨by omega, rfl, rfl⟩
