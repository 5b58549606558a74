/-! what is told of talks; how many there are -/
def endB (w : mW) (p q : Nat) (B : Bf) (i : Int) : Bool := decide (kdF w p (bP B i / 8) = 0 ∧ kdF w q (bP B i % 8) = 0)
def fewB (w : mW) (p q : Nat) (B : Bf) : Int := if ffst (fun i => endB w p q B i) (bN B) 0 = -1 then -1 else bL B (ffst (fun i => endB w p q B i) (bN B) 0)
def CAP : Int := 1000000000000001
def capI (z : Int) : Int := if z ≤ CAP then z else CAP
theorem capI_rng {z : Int} (h : 0 ≤ z) : 0 ≤ capI z ∧ capI z ≤ CAP := by unfold capI CAP; split <;> omega
def srW (u : mW) (t : Int) : mW := if u 21 3 < 64 then mup (mup u 24 (u 21 3) t) 21 3 (u 21 3 + 1) else u
def goV (u : mW) (t more : Int) : mW := mup (mup u 23 t (capI (u 23 t + more))) 22 t (u 22 t - 1)
def goW (u : mW) (t more : Int) : mW := if 0 ≤ t ∧ t < 64 then (if goV u t more 22 t = 0 then srW (goV u t more) t else goV u t more) else u
def kinW (sx : Int → Int → Int) (u : mW) (i : Int) : Nat → mW
  | 0 => u
  | k + 1 => goW (kinW sx u i k) (sx i k) (kinW sx u i k 23 i)
def koutW (sx : Int → Int → Int) (en : Int → Bool) (u : mW) : Nat → mW × Int
  | 0 => (u, 0)
  | n + 1 => if (n : Int) < (koutW sx en u n).1 21 3 then (kinW sx (koutW sx en u n).1 ((koutW sx en u n).1 24 n) 6, if en ((koutW sx en u n).1 24 n) then capI ((koutW sx en u n).2 + (koutW sx en u n).1 23 ((koutW sx en u n).1 24 n)) else (koutW sx en u n).2) else koutW sx en u n
def cinW (sx : Int → Int → Int) (u : mW) (i : Int) : Nat → mW
  | 0 => u
  | k + 1 => if 0 ≤ sx i k ∧ sx i k < 64 then mup (cinW sx u i k) 22 (sx i k) (cinW sx u i k 22 (sx i k) + 1) else cinW sx u i k
def coutW (sx : Int → Int → Int) (u : mW) : Nat → mW
  | 0 => u
  | n + 1 => cinW sx (coutW sx u n) n 6
def cst (w : mW) : mW := mup (mfill (mfill w 22 64 0) 23 64 0) 21 3 0
def kst (sx : Int → Int → Int) (w : mW) (n : Nat) : mW := if mup (coutW sx (cst w) n) 23 0 1 22 0 = 0 then srW (mup (coutW sx (cst w) n) 23 0 1) 0 else mup (coutW sx (cst w) n) 23 0 1
/-- how many rows lead to ends, -1 without end -/
def krF (sx : Int → Int → Int) (en : Int → Bool) (w : mW) (n : Nat) : Int := if (koutW sx en (kst sx w n) 64).1 21 3 < n then -1 else (koutW sx en (kst sx w n) 64).2
def KI (w u : mW) (n lo hi : Int) : Prop := (∀ a : Nat, a < 21 ∨ 24 < a → u a = w a) ∧ (0 ≤ u 21 3 ∧ u 21 3 ≤ 64) ∧ (∀ i : Int, 0 ≤ i → i < u 21 3 → 0 ≤ u 24 i ∧ u 24 i < n) ∧ (∀ t : Int, 0 ≤ t → t < 64 → lo ≤ u 22 t ∧ u 22 t ≤ hi) ∧ ∀ t : Int, 0 ≤ t → t < 64 → 0 ≤ u 23 t ∧ u 23 t ≤ CAP
theorem KI.mono {w u : mW} {n lo hi lo2 hi2 : Int} (h : KI w u n lo hi) (h1 : lo2 ≤ lo) (h2 : hi ≤ hi2) : KI w u n lo2 hi2 :=
  ⟨h.1, h.2.1, h.2.2.1, fun t a b => by have := h.2.2.2.1 t a b; omega, h.2.2.2.2⟩
theorem KI.sr {w u : mW} {n lo hi t : Int} (h : KI w u n lo hi) (ht : 0 ≤ t ∧ t < n) : KI w (srW u t) n lo hi := by
  obtain ⟨h1, h2, h3, h4, h5⟩ := h
  unfold srW
  split
  · next q =>
    refine ⟨fun a ha => by rw [mup_ne (by omega), mup_ne (by omega)]; exact h1 a ha, ?_, fun i i0 i1 => ?_, fun s s0 s1 => ?_, fun s s0 s1 => ?_⟩
    · rw [mup_at]; omega
    · rw [mup_at] at i1
      rw [mup_ne (by decide), mup_get]
      split
      · exact ht
      · next hne => exact h3 i i0 (by have : ¬ i = u 21 3 := fun e => hne ⟨rfl, e⟩; omega)
    · rw [mup_ne (by decide), mup_ne (by decide)]; exact h4 s s0 s1
    · rw [mup_ne (by decide), mup_ne (by decide)]; exact h5 s s0 s1
  · exact ⟨h1, h2, h3, h4, h5⟩
theorem KI.gv {w u : mW} {n lo hi t more : Int} (h : KI w u n lo hi) (ht : 0 ≤ t ∧ t < 64) (hm : 0 ≤ more) : KI w (goV u t more) n (lo - 1) hi := by
  obtain ⟨h1, h2, h3, h4, h5⟩ := h
  unfold goV
  refine ⟨fun a ha => by rw [mup_ne (by omega), mup_ne (by omega)]; exact h1 a ha, ?_, fun i i0 i1 => ?_, fun s s0 s1 => ?_, fun s s0 s1 => ?_⟩
  · rw [mup_ne (by decide), mup_ne (by decide)]; exact h2
  · rw [mup_ne (by decide), mup_ne (by decide)] at i1 ⊢; exact h3 i i0 i1
  · have a := h4 s s0 s1
    have b := h4 t ht.1 ht.2
    rw [mup_get]
    split
    · omega
    · rw [mup_ne (by decide)]; omega
  · have a := h5 s s0 s1
    have b := h5 t ht.1 ht.2
    rw [mup_ne (by decide), mup_get]
    split
    · exact capI_rng (by omega)
    · exact a
theorem KI.go {w u : mW} {n lo hi t more : Int} (h : KI w u n lo hi) (hn : n ≤ 64) (ht : t = -1 ∨ (0 ≤ t ∧ t < n)) (hm : 0 ≤ more) : KI w (goW u t more) n (lo - 1) hi := by
  unfold goW
  split
  · next q =>
    split
    · exact (h.gv q hm).sr (by omega)
    · exact h.gv q hm
  · exact h.mono (by omega) (Int.le_refl _)
def SxOK (sx : Int → Int → Int) (n : Int) : Prop := ∀ i k : Int, 0 ≤ i → i < n → 0 ≤ k → k < 6 → sx i k = -1 ∨ (0 ≤ sx i k ∧ sx i k < n)
theorem KI.kin {w u : mW} {n lo hi i : Int} {sx : Int → Int → Int} (hs : SxOK sx n) (h : KI w u n lo hi) (hn : n ≤ 64) (hi0 : 0 ≤ i ∧ i < n) : ∀ k : Nat, k ≤ 6 → KI w (kinW sx u i k) n (lo - k) hi
  | 0, _ => h.mono (by omega) (Int.le_refl _)
  | k + 1, hk => by
    have h1 := KI.kin hs h hn hi0 k (by omega)
    have h2 := h1.go (t := sx i k) (more := kinW sx u i k 23 i) hn (hs i k hi0.1 hi0.2 (by omega) (by omega)) (h1.2.2.2.2 i hi0.1 (by omega)).1
    exact h2.mono (by omega) (Int.le_refl _)
theorem cin_KI {w u : mW} {n hi i : Int} {sx : Int → Int → Int} (h : KI w u n 0 hi) : ∀ k : Nat, KI w (cinW sx u i k) n 0 (hi + k)
  | 0 => h.mono (Int.le_refl _) (by omega)
  | k + 1 => by
    have h1 := cin_KI (i := i) (sx := sx) h k
    unfold cinW
    split
    · next q =>
      obtain ⟨a1, a2, a3, a4, a5⟩ := h1
      refine ⟨fun a ha => by rw [mup_ne (by omega)]; exact a1 a ha, by rw [mup_ne (by decide)]; exact a2, fun j j0 j1 => ?_, fun s s0 s1 => ?_, fun s s0 s1 => ?_⟩
      · rw [mup_ne (by decide)] at j1 ⊢; exact a3 j j0 j1
      · have a := a4 s s0 s1
        have b := a4 (sx i k) q.1 q.2
        rw [mup_get]; split <;> omega
      · rw [mup_ne (by decide)]; exact a5 s s0 s1
    · exact h1.mono (Int.le_refl _) (by omega)
theorem cst_KI (w : mW) (n : Int) : KI w (cst w) n 0 0 := by
  unfold cst
  refine ⟨fun a ha => by rw [mup_ne (by omega), mfill_ne (by omega), mfill_ne (by omega)], by rw [mup_at]; decide, fun i i0 i1 => ?_, fun s s0 s1 => ?_, fun s s0 s1 => ?_⟩
  · rw [mup_at] at i1; omega
  · rw [mup_ne (by decide), mfill_ne (by decide)]; unfold mfill; rw [if_pos (by omega)]; omega
  · rw [mup_ne (by decide)]; unfold mfill CAP; rw [if_pos (by omega)]; omega
theorem cout_KI {w : mW} {n : Int} {sx : Int → Int → Int} : ∀ m : Nat, KI w (coutW sx (cst w) m) n 0 (6 * m)
  | 0 => (cst_KI w n).mono (Int.le_refl _) (by omega)
  | m + 1 => (cin_KI (cout_KI m) 6).mono (Int.le_refl _) (by omega)
theorem kst_h1 {w : mW} {n : Nat} {sx : Int → Int → Int} (hn : 1 ≤ n ∧ n ≤ 64) : KI w (mup (coutW sx (cst w) n) 23 0 1) n 0 384 := by
    obtain ⟨a1, a2, a3, a4, a5⟩ := (cout_KI (w := w) (n := n) (sx := sx) n).mono (Int.le_refl 0) (show 6 * (n : Int) ≤ 384 by omega)
    refine ⟨fun a ha => by rw [mup_ne (by omega)]; exact a1 a ha, by rw [mup_ne (by decide)]; exact a2, fun j j0 j1 => ?_, fun s s0 s1 => by rw [mup_ne (by decide)]; exact a4 s s0 s1, fun s s0 s1 => ?_⟩
    · rw [mup_ne (by decide)] at j1 ⊢; exact a3 j j0 j1
    · rw [mup_get]; split
      · unfold CAP; omega
      · exact a5 s s0 s1
theorem kst_KI {w : mW} {n : Nat} {sx : Int → Int → Int} (hn : 1 ≤ n ∧ n ≤ 64) : KI w (kst sx w n) n 0 384 := by
  have h1 : KI w (mup (coutW sx (cst w) n) 23 0 1) n 0 384 := kst_h1 hn
  unfold kst
  split
  · exact h1.sr (by omega)
  · exact h1
theorem kout_KI {w : mW} {n : Nat} {sx : Int → Int → Int} {en : Int → Bool} (hs : SxOK sx n) (hn : 1 ≤ n ∧ n ≤ 64) : ∀ m : Nat, m ≤ 64 → KI w (koutW sx en (kst sx w n) m).1 n (0 - 6 * m) 384 ∧ (0 ≤ (koutW sx en (kst sx w n) m).2 ∧ (koutW sx en (kst sx w n) m).2 ≤ CAP)
  | 0, _ => ⟨(kst_KI hn).mono (by omega) (Int.le_refl _), ⟨Int.le_refl _, by show (0 : Int) ≤ CAP; decide⟩⟩
  | m + 1, hm => by
    obtain ⟨h1, h2⟩ := kout_KI (w := w) (en := en) hs hn m (by omega)
    unfold koutW
    split
    · next q =>
      have h3 := h1.2.2.1 m (by omega) q
      refine ⟨(h1.kin hs (by omega) h3 6 (Nat.le_refl 6)).mono (by omega) (Int.le_refl _), ?_⟩
      dsimp only
      split
      · exact capI_rng (by have := h1.2.2.2.2 _ h3.1 (by omega); omega)
      · exact h2
    · exact ⟨h1.mono (by omega) (Int.le_refl _), h2⟩
theorem kout_stop {sx : Int → Int → Int} {en : Int → Bool} {u : mW} {n : Nat} (h : (koutW sx en u n).1 21 3 ≤ n) : ∀ m, n ≤ m → koutW sx en u m = koutW sx en u n := by
  intro m
  induction m with
  | zero => intro hm; obtain rfl : n = 0 := by omega
            rfl
  | succ m ih =>
    intro hm
    by_cases e : n = m + 1
    · rw [e]
    · have h1 := ih (by omega)
      show (if (m : Int) < (koutW sx en u m).1 21 3 then _ else _) = _
      rw [h1, if_neg (by omega)]
theorem SxOK.pos {tog : Int → Int → Bool} {w : mW} {p q : Nat} {B : Bf} (hp : PlanOK w p) (hq : PlanOK w q) (hB : BInv B) : SxOK (posF tog w p q B) (bN B) := by
  intro i k i0 i1 k0 k1
  have h1 := hB.2.2.1 i i0 i1
  have h2 := nxF_ok (tog := tog) hp hq (bP B i) k h1.1.1 h1.1.2 k0 k1
  unfold posF
  split
  · exact Or.inl rfl
  · next q =>
    rcases h2 with e | e
    · exact absurd e q
    · rcases hB.2.2.2.1 _ e.1 e.2 with f | f
      · exact Or.inl f
      · exact Or.inr ⟨f.1, f.2.1⟩
theorem posF_congr {tog : Int → Int → Bool} {w u : mW} {p q : Nat} {B : Bf} (hp : u (p + 1) = w (p + 1)) (hq : u (q + 1) = w (q + 1)) (i k : Int) : posF tog u p q B i k = posF tog w p q B i k := by unfold posF; rw [nxF_congr hp hq]
theorem endB_congr {w u : mW} {p q : Nat} {B : Bf} (hp : u (p + 1) = w (p + 1)) (hq : u (q + 1) = w (q + 1)) (i : Int) : endB u p q B i = endB w p q B i := by unfold endB kdF; rw [hp, hq]
set_option maxRecDepth 100000 in
set_option maxHeartbeats 4000000 in
theorem s_X7_isEnd {l : Launch} {G : mG} {w : mW} {p q : Nat} {B : Bf} (hS : PSt w 15 16 17 18 19 20 p q B) {i : Int} (hi : 0 ≤ i ∧ i < bN B) : Mx l G 3 yX7_isEnd cX7_isEnd 2 (some .boolean) [mvR 15, mvI i] w (qP (mvI (mb (endB w p q B i))) w) := by
  refine Mx.intro (by decide) RX7 rfl [some (mvR 15), some (mvI i)] (Nat.le_of_ble_eq_true rfl) rfl (fun K hC => ?_)
  obtain ⟨hp, hq, hkp, hkq, h5, h6, hA, hB⟩ := id hS
  have hle := hB.le
  have hI := hB.2.2.1 i hi.1 hi.2
  have hk1 := kd_rng hkp (s := bP B i / 8) (by omega)
  have hk2 := kd_rng hkq (s := bP B i % 8) (by omega)
  refine wm_aload_n hC 0 (pc := 0) dX7_isEnd_0 rfl rfl ?_
  refine wm_iload_n hC 1 (pc := 1) dX7_isEnd_1 rfl rfl ?_
  refine wm_pU hC cu_X7_15_X7 kc_X2_kindOfOne rfl rfl (s_X2_kindOfOne_X7 hS hi) rfl (by decide) rfl (Nat.le_of_ble_eq_true rfl) (pc := 2) dX7_isEnd_2 ?_
  refine wm_if_ne hC 20 (pc := 5) dX7_isEnd_5 (by decide) (by omega) (fun h5 => ?_) (fun h5 => ?_)
  · refine wm_iconst hC (pc := 20) dX7_isEnd_20 ?_
    refine wm_zretP hC (pc := 21) dX7_isEnd_21 ?_ rfl
    unfold endB
    first | exact ((mb_0 _).mpr (decide_eq_false (by omega))).symm | exact ((mb_1 _).mpr (decide_eq_true (by omega))).symm
  · refine wm_aload_n hC 0 (pc := 8) dX7_isEnd_8 rfl rfl ?_
    refine wm_iload_n hC 1 (pc := 9) dX7_isEnd_9 rfl rfl ?_
    refine wm_pU hC cu_X7_19_X7 kc_X2_kindOfOther rfl rfl (s_X2_kindOfOther_X7 hS hi) rfl (by decide) rfl (Nat.le_of_ble_eq_true rfl) (pc := 10) dX7_isEnd_10 ?_
    refine wm_if_ne hC 20 (pc := 13) dX7_isEnd_13 (by decide) (by omega) (fun h13 => ?_) (fun h13 => ?_)
    · refine wm_iconst hC (pc := 20) dX7_isEnd_20 ?_
      refine wm_zretP hC (pc := 21) dX7_isEnd_21 ?_ rfl
      unfold endB
      first | exact ((mb_0 _).mpr (decide_eq_false (by omega))).symm | exact ((mb_1 _).mpr (decide_eq_true (by omega))).symm
    · refine wm_iconst hC (pc := 16) dX7_isEnd_16 ?_
      refine wm_goto hC 21 (pc := 17) dX7_isEnd_17 (by decide) ?_
      refine wm_zretP hC (pc := 21) dX7_isEnd_21 ?_ rfl
      unfold endB
      first | exact ((mb_0 _).mpr (decide_eq_false (by omega))).symm | exact ((mb_1 _).mpr (decide_eq_true (by omega))).symm
set_option maxRecDepth 100000 in
set_option maxHeartbeats 4000000 in
theorem s_X7_stuckPairs {l : Launch} {G : mG} {w : mW} {p q : Nat} {B : Bf} (hS : PSt w 15 16 17 18 19 20 p q B) : Mx l G 4 yX7_stuckPairs cX7_stuckPairs 3 (some .int) [mvR 15] w (qP (mvI ((cnt (fun i => decide (¬ rsnB rsnT w p q B i = 0)) (bN B) : Nat) : Int)) w) := by
  refine Mx.intro (by decide) RX7 rfl [some (mvR 15), none, none] (Nat.le_of_ble_eq_true rfl) rfl (fun K hC => ?_)
  obtain ⟨hp, hq, hkp, hkq, h5, h6, hA, hB⟩ := id hS
  have hle := hB.le
  refine wm_iconst hC (pc := 0) dX7_stuckPairs_0 ?_
  refine wm_istore_n hC 1 (pc := 1) dX7_stuckPairs_1 rfl (by decide) rfl ?_
  refine wm_iconst hC (pc := 2) dX7_stuckPairs_2 ?_
  refine wm_istore_n hC 2 (pc := 3) dX7_stuckPairs_3 rfl (by decide) rfl ?_
  have lp4 : ∀ (n : Nat) (i : Nat), n = bN B - i → i ≤ bN B → Wm l G K 4 3 (qP (mvI ((cnt (fun i => decide (¬ rsnB rsnT w p q B i = 0)) (bN B) : Nat) : Int)) w) 4 [some (mvR 15), some (mvI ((cnt (fun i => decide (¬ rsnB rsnT w p q B i = 0)) i : Nat) : Int)), some (mvI (i : Int))] [] w := by
    intro n
    induction n using Nat.strongRecOn with
    | _ n ih =>
    intro i hn hi
    refine wm_iload_n hC 2 (pc := 4) dX7_stuckPairs_4 rfl rfl ?_
    refine wm_aload_n hC 0 (pc := 5) dX7_stuckPairs_5 rfl rfl ?_
    refine wm_pU hC cu_X7_22_X7 kc_X2_size rfl rfl (s_X2_size_X7 hS) rfl (by decide) rfl (Nat.le_of_ble_eq_true rfl) (pc := 6) dX7_stuckPairs_6 ?_
    refine wm_icmp_ge hC 29 (pc := 9) dX7_stuckPairs_9 (by decide) (by omega) (by omega) (fun h9 => ?_) (fun h9 => ?_)
    · refine wm_iload_n hC 1 (pc := 29) dX7_stuckPairs_29 rfl rfl ?_
      refine wm_iretP hC (pc := 30) dX7_stuckPairs_30 ?_ rfl
      have : i = bN B := by omega
      rw [this]
    · refine wm_aload_n hC 0 (pc := 12) dX7_stuckPairs_12 rfl rfl ?_
      refine wm_iload_n hC 2 (pc := 13) dX7_stuckPairs_13 rfl rfl ?_
      refine wm_pU hC cu_X7_26_X7 kc_X2_reasonOf rfl rfl (s_X2_reasonOf_X7 hS (by omega)) rfl (by decide) rfl (Nat.le_of_ble_eq_true rfl) (pc := 14) dX7_stuckPairs_14 ?_
      refine wm_if_eq hC 23 (pc := 17) dX7_stuckPairs_17 (by decide) (by have := rsnT_rng (kdF w p (bP B i / 8)) (msk w p (bP B i / 8)) (kdF w q (bP B i % 8)) (msk w q (bP B i % 8)); unfold rsnB; omega) (fun h17 => ?_) (fun h17 => ?_)
      · have e : cnt (fun i => decide (¬ rsnB rsnT w p q B i = 0)) (i + 1) = cnt (fun i => decide (¬ rsnB rsnT w p q B i = 0)) i := by simp [cnt, h17]
        refine wm_iinc hC (pc := 23) dX7_stuckPairs_23 rfl rfl (by decide) rfl ?_
        refine wm_goto hC 4 (pc := 26) dX7_stuckPairs_26 (by decide) ?_
        have hh := ih _ (by omega) (i + 1) rfl (by omega)
        rw [e] at hh
        exact hh
      · have e : cnt (fun i => decide (¬ rsnB rsnT w p q B i = 0)) (i + 1) = cnt (fun i => decide (¬ rsnB rsnT w p q B i = 0)) i + 1 := by simp [cnt, h17]
        refine wm_iinc hC (pc := 20) dX7_stuckPairs_20 rfl rfl (by decide) rfl ?_
        refine wm_iinc hC (pc := 23) dX7_stuckPairs_23 rfl rfl (by decide) rfl ?_
        refine wm_goto hC 4 (pc := 26) dX7_stuckPairs_26 (by decide) ?_
        have hh := ih _ (by omega) (i + 1) rfl (by omega)
        rw [e] at hh
        exact hh
  exact lp4 _ 0 rfl (by omega)
set_option maxRecDepth 100000 in
set_option maxHeartbeats 4000000 in
theorem s_X7_ends {l : Launch} {G : mG} {w : mW} {p q : Nat} {B : Bf} (hS : PSt w 15 16 17 18 19 20 p q B) : Mx l G 4 yX7_ends cX7_ends 3 (some .int) [mvR 15] w (qP (mvI ((cnt (fun i => endB w p q B i) (bN B) : Nat) : Int)) w) := by
  refine Mx.intro (by decide) RX7 rfl [some (mvR 15), none, none] (Nat.le_of_ble_eq_true rfl) rfl (fun K hC => ?_)
  obtain ⟨hp, hq, hkp, hkq, h5, h6, hA, hB⟩ := id hS
  have hle := hB.le
  refine wm_iconst hC (pc := 0) dX7_ends_0 ?_
  refine wm_istore_n hC 1 (pc := 1) dX7_ends_1 rfl (by decide) rfl ?_
  refine wm_iconst hC (pc := 2) dX7_ends_2 ?_
  refine wm_istore_n hC 2 (pc := 3) dX7_ends_3 rfl (by decide) rfl ?_
  have lp4 : ∀ (n : Nat) (i : Nat), n = bN B - i → i ≤ bN B → Wm l G K 4 3 (qP (mvI ((cnt (fun i => endB w p q B i) (bN B) : Nat) : Int)) w) 4 [some (mvR 15), some (mvI ((cnt (fun i => endB w p q B i) i : Nat) : Int)), some (mvI (i : Int))] [] w := by
    intro n
    induction n using Nat.strongRecOn with
    | _ n ih =>
    intro i hn hi
    refine wm_iload_n hC 2 (pc := 4) dX7_ends_4 rfl rfl ?_
    refine wm_aload_n hC 0 (pc := 5) dX7_ends_5 rfl rfl ?_
    refine wm_pU hC cu_X7_22_X7 kc_X2_size rfl rfl (s_X2_size_X7 hS) rfl (by decide) rfl (Nat.le_of_ble_eq_true rfl) (pc := 6) dX7_ends_6 ?_
    refine wm_icmp_ge hC 29 (pc := 9) dX7_ends_9 (by decide) (by omega) (by omega) (fun h9 => ?_) (fun h9 => ?_)
    · refine wm_iload_n hC 1 (pc := 29) dX7_ends_29 rfl rfl ?_
      refine wm_iretP hC (pc := 30) dX7_ends_30 ?_ rfl
      have : i = bN B := by omega
      rw [this]
    · refine wm_aload_n hC 0 (pc := 12) dX7_ends_12 rfl rfl ?_
      refine wm_iload_n hC 2 (pc := 13) dX7_ends_13 rfl rfl ?_
      refine wm_pV hC cv_X7_29 kc_X7_isEnd rfl rfl (s_X7_isEnd hS (by omega)) rfl (by decide) rfl (Nat.le_of_ble_eq_true rfl) (pc := 14) dX7_ends_14 ?_
      refine wm_ifb_eq hC 23 (pc := 17) dX7_ends_17 (by decide) (fun h17 => ?_) (fun h17 => ?_)
      · have e : cnt (fun i => endB w p q B i) (i + 1) = cnt (fun i => endB w p q B i) i := by simp [cnt, h17]
        refine wm_iinc hC (pc := 23) dX7_ends_23 rfl rfl (by decide) rfl ?_
        refine wm_goto hC 4 (pc := 26) dX7_ends_26 (by decide) ?_
        have hh := ih _ (by omega) (i + 1) rfl (by omega)
        rw [e] at hh
        exact hh
      · have e : cnt (fun i => endB w p q B i) (i + 1) = cnt (fun i => endB w p q B i) i + 1 := by simp [cnt, h17]
        refine wm_iinc hC (pc := 20) dX7_ends_20 rfl rfl (by decide) rfl ?_
        refine wm_iinc hC (pc := 23) dX7_ends_23 rfl rfl (by decide) rfl ?_
        refine wm_goto hC 4 (pc := 26) dX7_ends_26 (by decide) ?_
        have hh := ih _ (by omega) (i + 1) rfl (by omega)
        rw [e] at hh
        exact hh
  exact lp4 _ 0 rfl (by omega)
set_option maxRecDepth 100000 in
set_option maxHeartbeats 4000000 in
theorem s_X7_fewestWordsToEnd {l : Launch} {G : mG} {w : mW} {p q : Nat} {B : Bf} (hS : PSt w 15 16 17 18 19 20 p q B) : Mx l G 4 yX7_fewestWordsToEnd cX7_fewestWordsToEnd 2 (some .int) [mvR 15] w (qP (mvI (fewB w p q B)) w) := by
  refine Mx.intro (by decide) RX7 rfl [some (mvR 15), none] (Nat.le_of_ble_eq_true rfl) rfl (fun K hC => ?_)
  obtain ⟨hp, hq, hkp, hkq, h5, h6, hA, hB⟩ := id hS
  have hle := hB.le
  refine wm_iconst hC (pc := 0) dX7_fewestWordsToEnd_0 ?_
  refine wm_istore_n hC 1 (pc := 1) dX7_fewestWordsToEnd_1 rfl (by decide) rfl ?_
  have lp2 : ∀ (n : Nat) (i : Nat), n = bN B - i → i ≤ bN B → ffst (fun i => endB w p q B i) (bN B) 0 = ffst (fun i => endB w p q B i) (bN B - i) i → Wm l G K 4 2 (qP (mvI (fewB w p q B)) w) 2 [some (mvR 15), some (mvI (i : Int))] [] w := by
    intro n
    induction n using Nat.strongRecOn with
    | _ n ih =>
    intro i hn hi he
    refine wm_iload_n hC 1 (pc := 2) dX7_fewestWordsToEnd_2 rfl rfl ?_
    refine wm_aload_n hC 0 (pc := 3) dX7_fewestWordsToEnd_3 rfl rfl ?_
    refine wm_pU hC cu_X7_22_X7 kc_X2_size rfl rfl (s_X2_size_X7 hS) rfl (by decide) rfl (Nat.le_of_ble_eq_true rfl) (pc := 4) dX7_fewestWordsToEnd_4 ?_
    refine wm_icmp_ge hC 30 (pc := 7) dX7_fewestWordsToEnd_7 (by decide) (by omega) (by omega) (fun h7 => ?_) (fun h7 => ?_)
    · refine wm_iconst hC (pc := 30) dX7_fewestWordsToEnd_30 ?_
      refine wm_iretP hC (pc := 31) dX7_fewestWordsToEnd_31 ?_ rfl
      have : i = bN B := by omega
      subst this
      unfold fewB; rw [he, Nat.sub_self]; rfl
    · refine wm_aload_n hC 0 (pc := 10) dX7_fewestWordsToEnd_10 rfl rfl ?_
      refine wm_iload_n hC 1 (pc := 11) dX7_fewestWordsToEnd_11 rfl rfl ?_
      refine wm_pV hC cv_X7_29 kc_X7_isEnd rfl rfl (s_X7_isEnd hS (by omega)) rfl (by decide) rfl (Nat.le_of_ble_eq_true rfl) (pc := 12) dX7_fewestWordsToEnd_12 ?_
      refine wm_ifb_eq hC 24 (pc := 15) dX7_fewestWordsToEnd_15 (by decide) (fun h15 => ?_) (fun h15 => ?_)
      · refine wm_iinc hC (pc := 24) dX7_fewestWordsToEnd_24 rfl rfl (by decide) rfl ?_
        refine wm_goto hC 2 (pc := 27) dX7_fewestWordsToEnd_27 (by decide) ?_
        exact ih _ (by omega) (i + 1) rfl (by omega) (by rw [he, show bN B - i = (bN B - (i + 1)) + 1 by omega]; simp [ffst, h15])
      · refine wm_aload_n hC 0 (pc := 18) dX7_fewestWordsToEnd_18 rfl rfl ?_
        refine wm_iload_n hC 1 (pc := 19) dX7_fewestWordsToEnd_19 rfl rfl ?_
        refine wm_pU hC cu_X7_33_X7 kc_X2_lengthOf rfl rfl (s_X2_lengthOf_X7 hS (by omega)) rfl (by decide) rfl (Nat.le_of_ble_eq_true rfl) (pc := 20) dX7_fewestWordsToEnd_20 ?_
        refine wm_iretP hC (pc := 23) dX7_fewestWordsToEnd_23 ?_ rfl
        have e1 : ffst (fun i => endB w p q B i) (bN B) 0 = (i : Int) := by rw [he, show bN B - i = (bN B - (i + 1)) + 1 by omega]; simp [ffst, h15]
        unfold fewB; rw [e1, if_neg (by omega)]
  exact lp2 _ 0 rfl (by omega) rfl
set_option maxRecDepth 100000 in
set_option maxHeartbeats 4000000 in
theorem s_X7_statesOfOne {l : Launch} {G : mG} {w : mW} {p q : Nat} {B : Bf} (hS : PSt w 15 16 17 18 19 20 p q B) : Mx l G 2 yX7_statesOfOne cX7_statesOfOne 3 (some .int) [mvR 15] w (qP (mvI ((wor (fun i : Nat => 2 ^ (bP B i / 8).toNat) (bN B) : Nat) : Int)) w) := by
  refine Mx.intro (by decide) RX7 rfl [some (mvR 15), none, none] (Nat.le_of_ble_eq_true rfl) rfl (fun K hC => ?_)
  obtain ⟨hp, hq, hkp, hkq, h5, h6, hA, hB⟩ := id hS
  have hle := hB.le
  refine wm_iconst hC (pc := 0) dX7_statesOfOne_0 ?_
  refine wm_istore_n hC 1 (pc := 1) dX7_statesOfOne_1 rfl (by decide) rfl ?_
  refine wm_iconst hC (pc := 2) dX7_statesOfOne_2 ?_
  refine wm_istore_n hC 2 (pc := 3) dX7_statesOfOne_3 rfl (by decide) rfl ?_
  have lp4 : ∀ (n : Nat) (i : Nat), n = bN B - i → i ≤ bN B → Wm l G K 2 3 (qP (mvI ((wor (fun i : Nat => 2 ^ (bP B i / 8).toNat) (bN B) : Nat) : Int)) w) 4 [some (mvR 15), some (mvI ((wor (fun i : Nat => 2 ^ (bP B i / 8).toNat) i : Nat) : Int)), some (mvI (i : Int))] [] w := by
    intro n
    induction n using Nat.strongRecOn with
    | _ n ih =>
    intro i hn hi
    refine wm_iload_n hC 2 (pc := 4) dX7_statesOfOne_4 rfl rfl ?_
    refine wm_aload_n hC 0 (pc := 5) dX7_statesOfOne_5 rfl rfl ?_
    refine wm_pU hC cu_X7_22_X7 kc_X2_size rfl rfl (s_X2_size_X7 hS) rfl (by decide) rfl (Nat.le_of_ble_eq_true rfl) (pc := 6) dX7_statesOfOne_6 ?_
    refine wm_icmp_ge hC 28 (pc := 9) dX7_statesOfOne_9 (by decide) (by omega) (by omega) (fun h9 => ?_) (fun h9 => ?_)
    · refine wm_iload_n hC 1 (pc := 28) dX7_statesOfOne_28 rfl rfl ?_
      refine wm_iretP hC (pc := 29) dX7_statesOfOne_29 ?_ rfl
      have : i = bN B := by omega
      rw [this]
    · refine wm_iload_n hC 1 (pc := 12) dX7_statesOfOne_12 rfl rfl ?_
      refine wm_iconst hC (pc := 13) dX7_statesOfOne_13 ?_
      refine wm_aload_n hC 0 (pc := 14) dX7_statesOfOne_14 rfl rfl ?_
      refine wm_iload_n hC 2 (pc := 15) dX7_statesOfOne_15 rfl rfl ?_
      refine wm_pU hC cu_X7_36_X7 kc_X2_stateOfOne rfl rfl (s_X2_stateOfOne_X7 hS (by omega)) rfl (by decide) rfl (Nat.le_of_ble_eq_true rfl) (pc := 16) dX7_statesOfOne_16 ?_
      have hIi := hB.2.2.1 i (by omega) (by omega)
      refine wm_ishl1 hC (bP B i / 8).toNat (pc := 19) dX7_statesOfOne_19 (by omega) (by omega) ?_
      refine wm_ior hC _ _ (pc := 20) dX7_statesOfOne_20 rfl rfl ?_
      refine wm_istore_n hC 1 (pc := 21) dX7_statesOfOne_21 rfl (by decide) rfl ?_
      refine wm_iinc hC (pc := 22) dX7_statesOfOne_22 rfl rfl (by decide) rfl ?_
      refine wm_goto hC 4 (pc := 25) dX7_statesOfOne_25 (by decide) ?_
      exact ih _ (by omega) (i + 1) rfl (by omega)
  exact lp4 _ 0 rfl (by omega)
set_option maxRecDepth 100000 in
set_option maxHeartbeats 4000000 in
theorem s_X7_statesOfOther {l : Launch} {G : mG} {w : mW} {p q : Nat} {B : Bf} (hS : PSt w 15 16 17 18 19 20 p q B) : Mx l G 2 yX7_statesOfOther cX7_statesOfOther 3 (some .int) [mvR 15] w (qP (mvI ((wor (fun i : Nat => 2 ^ (bP B i % 8).toNat) (bN B) : Nat) : Int)) w) := by
  refine Mx.intro (by decide) RX7 rfl [some (mvR 15), none, none] (Nat.le_of_ble_eq_true rfl) rfl (fun K hC => ?_)
  obtain ⟨hp, hq, hkp, hkq, h5, h6, hA, hB⟩ := id hS
  have hle := hB.le
  refine wm_iconst hC (pc := 0) dX7_statesOfOther_0 ?_
  refine wm_istore_n hC 1 (pc := 1) dX7_statesOfOther_1 rfl (by decide) rfl ?_
  refine wm_iconst hC (pc := 2) dX7_statesOfOther_2 ?_
  refine wm_istore_n hC 2 (pc := 3) dX7_statesOfOther_3 rfl (by decide) rfl ?_
  have lp4 : ∀ (n : Nat) (i : Nat), n = bN B - i → i ≤ bN B → Wm l G K 2 3 (qP (mvI ((wor (fun i : Nat => 2 ^ (bP B i % 8).toNat) (bN B) : Nat) : Int)) w) 4 [some (mvR 15), some (mvI ((wor (fun i : Nat => 2 ^ (bP B i % 8).toNat) i : Nat) : Int)), some (mvI (i : Int))] [] w := by
    intro n
    induction n using Nat.strongRecOn with
    | _ n ih =>
    intro i hn hi
    refine wm_iload_n hC 2 (pc := 4) dX7_statesOfOther_4 rfl rfl ?_
    refine wm_aload_n hC 0 (pc := 5) dX7_statesOfOther_5 rfl rfl ?_
    refine wm_pU hC cu_X7_22_X7 kc_X2_size rfl rfl (s_X2_size_X7 hS) rfl (by decide) rfl (Nat.le_of_ble_eq_true rfl) (pc := 6) dX7_statesOfOther_6 ?_
    refine wm_icmp_ge hC 28 (pc := 9) dX7_statesOfOther_9 (by decide) (by omega) (by omega) (fun h9 => ?_) (fun h9 => ?_)
    · refine wm_iload_n hC 1 (pc := 28) dX7_statesOfOther_28 rfl rfl ?_
      refine wm_iretP hC (pc := 29) dX7_statesOfOther_29 ?_ rfl
      have : i = bN B := by omega
      rw [this]
    · refine wm_iload_n hC 1 (pc := 12) dX7_statesOfOther_12 rfl rfl ?_
      refine wm_iconst hC (pc := 13) dX7_statesOfOther_13 ?_
      refine wm_aload_n hC 0 (pc := 14) dX7_statesOfOther_14 rfl rfl ?_
      refine wm_iload_n hC 2 (pc := 15) dX7_statesOfOther_15 rfl rfl ?_
      refine wm_pU hC cu_X7_39_X7 kc_X2_stateOfOther rfl rfl (s_X2_stateOfOther_X7 hS (by omega)) rfl (by decide) rfl (Nat.le_of_ble_eq_true rfl) (pc := 16) dX7_statesOfOther_16 ?_
      have hIi := hB.2.2.1 i (by omega) (by omega)
      refine wm_ishl1 hC (bP B i % 8).toNat (pc := 19) dX7_statesOfOther_19 (by omega) (by omega) ?_
      refine wm_ior hC _ _ (pc := 20) dX7_statesOfOther_20 rfl rfl ?_
      refine wm_istore_n hC 1 (pc := 21) dX7_statesOfOther_21 rfl (by decide) rfl ?_
      refine wm_iinc hC (pc := 22) dX7_statesOfOther_22 rfl rfl (by decide) rfl ?_
      refine wm_goto hC 4 (pc := 25) dX7_statesOfOther_25 (by decide) ?_
      exact ih _ (by omega) (i + 1) rfl (by omega)
  exact lp4 _ 0 rfl (by omega)
set_option maxRecDepth 100000 in
set_option maxHeartbeats 4000000 in
theorem s_X5_isPosition {l : Launch} {G : mG} {w : mW} {z : Int} (hz : -2147483648 ≤ z ∧ z < 2147483648) : Mx l G 0 yX5_isPosition cX5_isPosition 1 (some .boolean) [mvI z] w (qP (mvI (mb (decide (0 ≤ z ∧ z < 64)))) w) := by
  refine Mx.intro (by decide) RX5 rfl [some (mvI z)] (Nat.le_of_ble_eq_true rfl) rfl (fun K hC => ?_)
  refine wm_iload_n hC 0 (pc := 0) dX5_isPosition_0 rfl rfl ?_
  refine wm_if_lt hC 14 (pc := 1) dX5_isPosition_1 (by decide) (by omega) (fun h1 => ?_) (fun h1 => ?_)
  · refine wm_iconst hC (pc := 14) dX5_isPosition_14 ?_
    refine wm_zretP hC (pc := 15) dX5_isPosition_15 ?_ rfl
    first | exact ((mb_0 _).mpr (decide_eq_false (by omega))).symm | exact ((mb_1 _).mpr (decide_eq_true (by omega))).symm
  · refine wm_iload_n hC 0 (pc := 4) dX5_isPosition_4 rfl rfl ?_
    refine wm_bipush hC (pc := 5) dX5_isPosition_5 (by decide) ?_
    refine wm_icmp_ge hC 14 (pc := 7) dX5_isPosition_7 (by decide) (by omega) (by omega) (fun h7 => ?_) (fun h7 => ?_)
    · refine wm_iconst hC (pc := 14) dX5_isPosition_14 ?_
      refine wm_zretP hC (pc := 15) dX5_isPosition_15 ?_ rfl
      first | exact ((mb_0 _).mpr (decide_eq_false (by omega))).symm | exact ((mb_1 _).mpr (decide_eq_true (by omega))).symm
    · refine wm_iconst hC (pc := 10) dX5_isPosition_10 ?_
      refine wm_goto hC 15 (pc := 11) dX5_isPosition_11 (by decide) ?_
      refine wm_zretP hC (pc := 15) dX5_isPosition_15 ?_ rfl
      first | exact ((mb_0 _).mpr (decide_eq_false (by omega))).symm | exact ((mb_1 _).mpr (decide_eq_true (by omega))).symm
theorem wm_mmin {l : Launch} {G : mG} {K : mK} {d nL : Nat} {own : String} {cc : ByteArray} {ret : Option FieldType} {Q : Option mV → mW → Prop} {pc : Nat} {L : List (Option mV)} {st : List mV} {w : mW} (hC : mC G K nL own cc ret) {idx n : Nat} (cs : mcS own idx yJ9_min_f86c9 n) (hcode : Cond.code yJ9_min_f86c9 cJ9_min_f86c9 4 (some .long) ∈ mgood) {x y : Int} (hx : -9223372036854775808 ≤ x ∧ x < 9223372036854775808) (hy : -9223372036854775808 ≤ y ∧ y < 9223372036854775808) (hd : 1 ≤ d) (hroom : (st.map mcat).sum ≤ 8) (hdg : decode cc pc = .ok (.invokestatic idx, 3)) (next : Wm l G K d nL Q (pc + 3) L (mvJ (if y < x then y else x) :: st) w) : Wm l G K d nL Q pc L (mvJ y :: mvJ x :: st) w := by
  intro H locs ls hP hD hS hh
  have hr : ((st.map (mtr G)).map fun v => v.category).sum = (st.map mcat).sum := by
    rw [List.map_map]; congr 1; apply List.map_congr_left; intro v _; exact mtr_cat G v
  have key : ∀ u : Int64, u = mJ (if y < x then y else x) → mWK l G K d Q H locs (F0 K.2.2.2.1 (pc + 3) ls (.long u :: st.map (mtr G))) := by rintro _ rfl; exact next H locs ls hP hD hS hh
  refine va_mmin_long (ls := ls) hC.1 hC.2.1 (by rw [hC.2.2.1, hh.1]) hC.2.2.2.2.2.1 (hC.2.2.2.2.2.2.1 _ cs.1) (hC.2.2.2.2.2.2.1 _ cs.2.1) (hC.2.2.2.2.2.2.1 _ cs.2.2.1) (hC.2.2.2.2.2.2.1 _ hcode) hd (by rw [hr]; simp only [mRX]; omega) hC.2.2.2.2.2.2.2.2.2.1.1 hC.2.2.2.2.2.2.2.2.2.1.2 hdg (key _ ?_)
  have e : mJ y < mJ x ↔ y < x := by rw [Int64.lt_iff_toInt_lt, mJ_toInt hx, mJ_toInt hy]
  by_cases h : y < x
  · rw [if_pos h, if_pos (e.mpr h)]
  · rw [if_neg h, if_neg (fun q => h (e.mp q))]
set_option maxRecDepth 100000 in
set_option maxHeartbeats 4000000 in
theorem s_X5_capped {l : Launch} {G : mG} {w : mW} {x : Int} (hx : 0 ≤ x ∧ x < 9000000000000000000) : Mx l G 1 yX5_capped cX5_capped 2 (some .long) [mvJ x] w (qP (mvJ (capI x)) w) := by
  refine Mx.intro (by decide) RX5 rfl [some (mvJ x), none] (Nat.le_of_ble_eq_true rfl) rfl (fun K hC => ?_)
  refine wm_lload_n hC 0 (pc := 0) dX5_capped_0 rfl rfl ?_
  refine wm_ldc2 hC (1000000000000001) kJ_X5_74 (pc := 1) dX5_capped_1 ?_
  refine wm_mmin hC cs_X5_76 kc_J9_min_f86c9 (by omega) (by omega) (by decide) (Nat.le_of_ble_eq_true rfl) (pc := 4) dX5_capped_4 ?_
  refine wm_lretP hC (pc := 7) dX5_capped_7 ?_ rfl
  unfold capI CAP
  (repeat' split) <;> omega
set_option maxRecDepth 100000 in
set_option maxHeartbeats 4000000 in
theorem s_J7_fill_d0a16 {l : Launch} {G : mG} {w : mW} {a n : Nat} {v : Int} (ha : mlays[a]? = some (.inr (3, n))) (hn : n ≤ 1000000) : Mx l G 0 yJ7_fill_d0a16 cJ7_fill_d0a16 5 none [mvR a, mvJ v] w (qV (fun w' => w' = mfill w a n v)) := by
  refine Mx.intro (by decide) RJ7 rfl [some (mvR a), some (mvJ v), none, none, none] (Nat.le_of_ble_eq_true rfl) rfl (fun K hC => ?_)
  refine wm_iconst hC (pc := 0) dJ7_fill_d0a16_0 ?_
  refine wm_istore_n hC 3 (pc := 1) dJ7_fill_d0a16_1 rfl (by decide) rfl ?_
  refine wm_aload_n hC 0 (pc := 2) dJ7_fill_d0a16_2 rfl rfl ?_
  refine wm_alen hC (n : Int) ha rfl rfl (pc := 3) dJ7_fill_d0a16_3 ?_
  refine wm_istore hC  (pc := 4) dJ7_fill_d0a16_4  (by decide) rfl ?_
  have lp6 : ∀ (n1 : Nat) (j : Nat), n1 = n - j → j ≤ n → Wm l G K 0 5 (qV (fun w' => w' = mfill w a n v)) 6 [some (mvR a), some (mvJ v), none, some (mvI (j : Int)), some (mvI (n : Int))] [] (mfill w a (j : Int) v) := by
    intro n1
    induction n1 using Nat.strongRecOn with
    | _ n1 ih =>
    intro j hm hj
    refine wm_iload_n hC 3 (pc := 6) dJ7_fill_d0a16_6 rfl rfl ?_
    refine wm_iload hC  (pc := 7) dJ7_fill_d0a16_7 rfl ?_
    refine wm_icmp_ge hC 22 (pc := 9) dJ7_fill_d0a16_9 (by decide) (by omega) (by omega) (fun h9 => ?_) (fun h9 => ?_)
    · refine wm_retV hC (pc := 22) dJ7_fill_d0a16_22 ?_
      have : j = n := by omega
      rw [this]
    · refine wm_aload_n hC 0 (pc := 12) dJ7_fill_d0a16_12 rfl rfl ?_
      refine wm_iload_n hC 3 (pc := 13) dJ7_fill_d0a16_13 rfl rfl ?_
      refine wm_lload_n hC 1 (pc := 14) dJ7_fill_d0a16_14 rfl rfl ?_
      refine wm_lastore hC ha (by omega) hn (pc := 15) dJ7_fill_d0a16_15 ?_
      refine wm_iinc hC (pc := 16) dJ7_fill_d0a16_16 rfl rfl (by decide) rfl ?_
      refine wm_goto hC 6 (pc := 19) dJ7_fill_d0a16_19 (by decide) ?_
      rw [mfill_s]
      exact ih _ (by omega) (j + 1) rfl (by omega)
  have hh := lp6 _ 0 rfl (by omega)
  rw [show ((0 : Nat) : Int) = 0 from rfl, mfill_0] at hh
  exact hh
set_option maxRecDepth 100000 in
set_option maxHeartbeats 4000000 in
theorem s_X5_rowsTo {l : Launch} {G : mG} {w : mW} {i : Int} (hi : 0 ≤ i ∧ i < 64) : Mx l G 1 yX5_rowsTo cX5_rowsTo 2 (some .long) [mvR 21, mvI i] w (qP (mvJ (w 23 i)) w) := by
  refine Mx.intro (by decide) RX5 rfl [some (mvR 21), some (mvI i)] (Nat.le_of_ble_eq_true rfl) rfl (fun K hC => ?_)
  refine wm_iload_n hC 1 (pc := 0) dX5_rowsTo_0 rfl rfl ?_
  refine wm_pS hC cs_X5_71 kc_X5_isPosition (s_X5_isPosition (by omega)) rfl (by decide) rfl (Nat.le_of_ble_eq_true rfl) (pc := 1) dX5_rowsTo_1 ?_
  refine wm_ifd_eq hC 16 (pc := 4) dX5_rowsTo_4 (by decide) (fun h4 => ?_) (fun h4 => ?_)
  · omega
  · refine wm_aload_n hC 0 (pc := 7) dX5_rowsTo_7 rfl rfl ?_
    refine wm_getR hC fl_X5_15_4 rfl rfl (pc := 8) dX5_rowsTo_8 ?_
    refine wm_iload_n hC 1 (pc := 11) dX5_rowsTo_11 rfl rfl ?_
    refine wm_laload hC rfl (by omega) (by decide) (pc := 12) dX5_rowsTo_12 ?_
    refine wm_goto hC 17 (pc := 13) dX5_rowsTo_13 (by decide) ?_
    refine wm_lretP hC (pc := 17) dX5_rowsTo_17 ?_ rfl
    rfl
set_option maxRecDepth 100000 in
set_option maxHeartbeats 4000000 in
theorem s_X5_setReady {l : Launch} {G : mG} {w : mW} {t : Int} (hr : 0 ≤ w 21 3 ∧ w 21 3 ≤ 64) : Mx l G 0 yX5_setReady cX5_setReady 2 none [mvR 21, mvI t] w (qV (fun w' => w' = srW w t)) := by
  refine Mx.intro (by decide) RX5 rfl [some (mvR 21), some (mvI t)] (Nat.le_of_ble_eq_true rfl) rfl (fun K hC => ?_)
  refine wm_aload_n hC 0 (pc := 0) dX5_setReady_0 rfl rfl ?_
  refine wm_getI hC 21 3 fl_X5_30_4 rfl rfl rfl (pc := 1) dX5_setReady_1 ?_
  refine wm_bipush hC (pc := 4) dX5_setReady_4 (by decide) ?_
  refine wm_icmp_ge hC 29 (pc := 6) dX5_setReady_6 (by decide) (by omega) (by omega) (fun h6 => ?_) (fun h6 => ?_)
  · refine wm_retV hC (pc := 29) dX5_setReady_29 ?_
    unfold srW
    first | rw [if_pos (by omega)] | rw [if_neg (by omega)]
  · refine wm_aload_n hC 0 (pc := 9) dX5_setReady_9 rfl rfl ?_
    refine wm_getR hC fl_X5_19_4 rfl rfl (pc := 10) dX5_setReady_10 ?_
    refine wm_aload_n hC 0 (pc := 13) dX5_setReady_13 rfl rfl ?_
    refine wm_getI hC 21 3 fl_X5_30_4 rfl rfl rfl (pc := 14) dX5_setReady_14 ?_
    refine wm_iload_n hC 1 (pc := 17) dX5_setReady_17 rfl rfl ?_
    refine wm_iastore hC rfl (by omega) (by decide) (pc := 18) dX5_setReady_18 ?_
    refine wm_aload_n hC 0 (pc := 19) dX5_setReady_19 rfl rfl ?_
    refine wm_dup hC (pc := 20) dX5_setReady_20 rfl ?_
    refine wm_getI hC 21 3 fl_X5_30_4 rfl rfl rfl (pc := 21) dX5_setReady_21 ?_
    rw [mup_ne (show (21 : Nat) ≠ 24 by decide)]
    refine wm_iconst hC (pc := 24) dX5_setReady_24 ?_
    refine wm_iadd hC (pc := 25) dX5_setReady_25 ?_
    refine wm_putI hC 21 3 fp_X5_30_4 rfl rfl rfl (pc := 26) dX5_setReady_26 ?_
    refine wm_retV hC (pc := 29) dX5_setReady_29 ?_
    unfold srW
    first | rw [if_pos (by omega)] | rw [if_neg (by omega)]
set_option maxRecDepth 100000 in
set_option maxHeartbeats 4000000 in
theorem s_X5_goAlong {l : Launch} {G : mG} {w : mW} {t more n lo hi : Int} {w0 : mW} (hK : KI w0 w n lo hi) (hlo : -1000000 ≤ lo) (hhi : hi ≤ 1000000) (ht : t = -1 ∨ (0 ≤ t ∧ t < 64)) (hm : 0 ≤ more ∧ more ≤ CAP) : Mx l G 2 yX5_goAlong cX5_goAlong 4 none [mvR 21, mvI t, mvJ more] w (qV (fun w' => w' = goW w t more)) := by
  refine Mx.intro (by decide) RX5 rfl [some (mvR 21), some (mvI t), some (mvJ more), none] (Nat.le_of_ble_eq_true rfl) rfl (fun K hC => ?_)
  obtain ⟨k1, k2, k3, k4, k5⟩ := id hK
  have hC1 : CAP = 1000000000000001 := rfl
  refine wm_iload_n hC 1 (pc := 0) dX5_goAlong_0 rfl rfl ?_
  refine wm_pS hC cs_X5_71 kc_X5_isPosition (s_X5_isPosition (by omega)) rfl (by decide) rfl (Nat.le_of_ble_eq_true rfl) (pc := 1) dX5_goAlong_1 ?_
  refine wm_ifd_eq hC 48 (pc := 4) dX5_goAlong_4 (by decide) (fun h4 => ?_) (fun h4 => ?_)
  · have e : goW w t more = w := if_neg (by omega)
    refine wm_retV hC (pc := 48) dX5_goAlong_48 ?_
    first | exact e.symm | (rw [e]; exact hw45)
  · have e0 : goW w t more = if goV w t more 22 t = 0 then srW (goV w t more) t else goV w t more := if_pos (by omega)
    refine wm_aload_n hC 0 (pc := 7) dX5_goAlong_7 rfl rfl ?_
    refine wm_getR hC fl_X5_15_4 rfl rfl (pc := 8) dX5_goAlong_8 ?_
    refine wm_iload_n hC 1 (pc := 11) dX5_goAlong_11 rfl rfl ?_
    refine wm_aload_n hC 0 (pc := 12) dX5_goAlong_12 rfl rfl ?_
    refine wm_getR hC fl_X5_15_4 rfl rfl (pc := 13) dX5_goAlong_13 ?_
    refine wm_iload_n hC 1 (pc := 16) dX5_goAlong_16 rfl rfl ?_
    refine wm_laload hC rfl (by omega) (by decide) (pc := 17) dX5_goAlong_17 ?_
    refine wm_lload_n hC 2 (pc := 18) dX5_goAlong_18 rfl rfl ?_
    refine wm_ladd hC (pc := 19) dX5_goAlong_19 ?_
    refine wm_pS hC cs_X5_44 kc_X5_capped (s_X5_capped (by have := k5 t (by omega) (by omega); omega)) rfl (by decide) rfl (Nat.le_of_ble_eq_true rfl) (pc := 20) dX5_goAlong_20 ?_
    refine wm_lastore hC rfl (by omega) (by decide) (pc := 23) dX5_goAlong_23 ?_
    refine wm_aload_n hC 0 (pc := 24) dX5_goAlong_24 rfl rfl ?_
    refine wm_getR hC fl_X5_9_4 rfl rfl (pc := 25) dX5_goAlong_25 ?_
    refine wm_iload_n hC 1 (pc := 28) dX5_goAlong_28 rfl rfl ?_
    refine wm_dup2 hC (pc := 29) dX5_goAlong_29 rfl rfl ?_
    refine wm_iaload hC rfl (by omega) (by decide) (pc := 30) dX5_goAlong_30 ?_
    rw [mup_ne (show (22 : Nat) ≠ 23 by decide)]
    refine wm_iconst hC (pc := 31) dX5_goAlong_31 ?_
    refine wm_isub hC (pc := 32) dX5_goAlong_32 ?_
    refine wm_iastore hC rfl (by omega) (by decide) (pc := 33) dX5_goAlong_33 ?_
    refine wm_aload_n hC 0 (pc := 34) dX5_goAlong_34 rfl rfl ?_
    refine wm_getR hC fl_X5_9_4 rfl rfl (pc := 35) dX5_goAlong_35 ?_
    refine wm_iload_n hC 1 (pc := 38) dX5_goAlong_38 rfl rfl ?_
    refine wm_iaload hC rfl (by omega) (by decide) (pc := 39) dX5_goAlong_39 ?_
    refine wm_if_ne hC 48 (pc := 40) dX5_goAlong_40 (by decide) (by have h := (hK.gv (t := t) (more := more) (by omega) hm.1).2.2.2.1 t (by omega) (by omega); unfold goV at h; omega) (fun h40 => ?_) (fun h40 => ?_)
    · have e : goW w t more = goV w t more := by rw [e0]; exact if_neg h40
      refine wm_retV hC (pc := 48) dX5_goAlong_48 ?_
      first | exact e.symm | (rw [e]; exact hw45)
    · have e : goW w t more = srW (goV w t more) t := by rw [e0]; exact if_pos h40
      refine wm_aload_n hC 0 (pc := 43) dX5_goAlong_43 rfl rfl ?_
      refine wm_iload_n hC 1 (pc := 44) dX5_goAlong_44 rfl rfl ?_
      refine wm_vV hC cv_X5_26 kc_X5_setReady rfl rfl (s_X5_setReady (by rw [mup_ne (show (21 : Nat) ≠ 22 by decide), mup_ne (show (21 : Nat) ≠ 23 by decide)]; exact k2)) rfl (by decide) rfl (Nat.le_of_ble_eq_true rfl) (pc := 45) dX5_goAlong_45 (fun w45 hw45 => ?_)
      refine wm_retV hC (pc := 48) dX5_goAlong_48 ?_
      first | exact e.symm | (rw [e]; exact hw45)
theorem agr_keep {B : Bf} {w u : mW} {nc : Nat} {nk : Int} {pP pS pL pO pW : Nat} (h : Agr B w nc nk pP pS pL pO pW) (e0 : u nc = w nc) (e1 : u pP = w pP) (e2 : u pS = w pS) (e3 : u pL = w pL) (e4 : u pO = w pO) (e5 : u pW = w pW) : Agr B u nc nk pP pS pL pO pW := by
  unfold Agr; rw [e0, e1, e2, e3, e4, e5]; exact h
set_option maxRecDepth 100000 in
set_option maxHeartbeats 4000000 in
theorem s_X5_countWays {l : Launch} {G : mG} {w : mW} {p q : Nat} {B : Bf} (hS : PSt w 15 16 17 18 19 20 p q B) (hpb : p + 1 < 15) (hqb : q + 1 < 15) : Mx l G 4 yX5_countWays cX5_countWays 5 none [mvR 21, mvR 15] w (qV (fun w' => w' = coutW (posF togT w p q B) (cst w) (bN B))) := by
  refine Mx.intro (by decide) RX5 rfl [some (mvR 21), some (mvR 15), none, none, none] (Nat.le_of_ble_eq_true rfl) rfl (fun K hC => ?_)
  obtain ⟨hp, hq, hkp, hkq, h5, h6, hA, hB⟩ := id hS
  have hle := hB.le
  refine wm_aload_n hC 0 (pc := 0) dX5_countWays_0 rfl rfl ?_
  refine wm_getR hC fl_X5_9_4 rfl rfl (pc := 1) dX5_countWays_1 ?_
  refine wm_iconst hC (pc := 4) dX5_countWays_4 ?_
  refine wm_vS hC cs_X5_62 kc_J7_fill_53178 (s_J7_fill_53178 rfl (by decide)) rfl (by decide) rfl (Nat.le_of_ble_eq_true rfl) (pc := 5) dX5_countWays_5 (fun w5 hw5 => ?_)
  subst hw5
  refine wm_aload_n hC 0 (pc := 8) dX5_countWays_8 rfl rfl ?_
  refine wm_getR hC fl_X5_15_4 rfl rfl (pc := 9) dX5_countWays_9 ?_
  refine wm_lconst hC 0 (pc := 12) dX5_countWays_12 rfl ?_
  refine wm_vS hC cs_X5_68 kc_J7_fill_d0a16 (s_J7_fill_d0a16 rfl (by decide)) rfl (by decide) rfl (Nat.le_of_ble_eq_true rfl) (pc := 13) dX5_countWays_13 (fun w13 hw13 => ?_)
  subst hw13
  refine wm_aload_n hC 0 (pc := 16) dX5_countWays_16 rfl rfl ?_
  refine wm_iconst hC (pc := 17) dX5_countWays_17 ?_
  refine wm_putI hC 21 3 fp_X5_30_4 rfl rfl rfl (pc := 18) dX5_countWays_18 ?_
  refine wm_iconst hC (pc := 21) dX5_countWays_21 ?_
  refine wm_istore_n hC 2 (pc := 22) dX5_countWays_22 rfl (by decide) rfl ?_
  have lp23 : ∀ (n : Nat) (i : Nat) (o3 o4 : Option mV), n = bN B - i → i ≤ bN B → Wm l G K 4 5 (qV (fun w' => w' = coutW (posF togT w p q B) (cst w) (bN B))) 23 [some (mvR 21), some (mvR 15), some (mvI (i : Int)), o3, o4] [] (coutW (posF togT w p q B) (cst w) i) := by
    intro n
    induction n using Nat.strongRecOn with
    | _ n ih =>
    intro i o3 o4 hn hi
    have hKu := cout_KI (w := w) (n := bN B) (sx := (posF togT w p q B)) i
    refine wm_iload_n hC 2 (pc := 23) dX5_countWays_23 rfl rfl ?_
    refine wm_aload_n hC 1 (pc := 24) dX5_countWays_24 rfl rfl ?_
    refine wm_pU hC cu_X5_56_X7 kc_X2_size rfl rfl (s_X2_size_X7 (⟨hp, hq, hkp.congr (hKu.1 _ (Or.inl (by omega))), hkq.congr (hKu.1 _ (Or.inl (by omega))), (by rw [hKu.1 15 (Or.inl (by decide))]; exact h5), (by rw [hKu.1 15 (Or.inl (by decide))]; exact h6), agr_keep hA (hKu.1 15 (Or.inl (by decide))) (hKu.1 16 (Or.inl (by decide))) (hKu.1 17 (Or.inl (by decide))) (hKu.1 18 (Or.inl (by decide))) (hKu.1 19 (Or.inl (by decide))) (hKu.1 20 (Or.inl (by decide))), hB⟩)) rfl (by decide) rfl (Nat.le_of_ble_eq_true rfl) (pc := 25) dX5_countWays_25 ?_
    refine wm_icmp_ge hC 78 (pc := 28) dX5_countWays_28 (by decide) (by omega) (by omega) (fun h28 => ?_) (fun h28 => ?_)
    · refine wm_retV hC (pc := 78) dX5_countWays_78 ?_
      obtain rfl : i = bN B := by omega
      rfl
    · refine wm_iconst hC (pc := 31) dX5_countWays_31 ?_
      refine wm_istore_n hC 3 (pc := 32) dX5_countWays_32 rfl (by decide) rfl ?_
      have lp33 : ∀ (n : Nat) (k : Nat) (o6 : Option mV), n = 6 - k → k ≤ 6 → Wm l G K 4 5 (qV (fun w' => w' = coutW (posF togT w p q B) (cst w) (bN B))) 33 [some (mvR 21), some (mvR 15), some (mvI (i : Int)), some (mvI (k : Int)), o6] [] (cinW (posF togT w p q B) (coutW (posF togT w p q B) (cst w) i) i k) := by
        intro n
        induction n using Nat.strongRecOn with
        | _ n ih =>
        intro k o6 hm hk6
        rename_i n0 ih0
        have hKv := cin_KI (i := i) (sx := (posF togT w p q B)) hKu k
        refine wm_iload_n hC 3 (pc := 33) dX5_countWays_33 rfl rfl ?_
        refine wm_bipush hC (pc := 34) dX5_countWays_34 (by decide) ?_
        refine wm_icmp_ge hC 72 (pc := 36) dX5_countWays_36 (by decide) (by omega) (by omega) (fun h36 => ?_) (fun h36 => ?_)
        · refine wm_iinc hC (pc := 72) dX5_countWays_72 rfl rfl (by decide) rfl ?_
          refine wm_goto hC 23 (pc := 75) dX5_countWays_75 (by decide) ?_
          obtain rfl : k = 6 := by omega
          exact ih0 _ (by omega) (i + 1) _ _ rfl (by omega)
        · refine wm_aload_n hC 1 (pc := 39) dX5_countWays_39 rfl rfl ?_
          refine wm_iload_n hC 2 (pc := 40) dX5_countWays_40 rfl rfl ?_
          refine wm_iload_n hC 3 (pc := 41) dX5_countWays_41 rfl rfl ?_
          refine wm_pU hC cu_X5_48_X7 kc_X2_positionBehind rfl rfl (s_X2_positionBehind_X7 (⟨hp, hq, hkp.congr (hKv.1 _ (Or.inl (by omega))), hkq.congr (hKv.1 _ (Or.inl (by omega))), (by rw [hKv.1 15 (Or.inl (by decide))]; exact h5), (by rw [hKv.1 15 (Or.inl (by decide))]; exact h6), agr_keep hA (hKv.1 15 (Or.inl (by decide))) (hKv.1 16 (Or.inl (by decide))) (hKv.1 17 (Or.inl (by decide))) (hKv.1 18 (Or.inl (by decide))) (hKv.1 19 (Or.inl (by decide))) (hKv.1 20 (Or.inl (by decide))), hB⟩) ⟨by omega, by omega⟩ ⟨by omega, by omega⟩) rfl (by decide) rfl (Nat.le_of_ble_eq_true rfl) (pc := 42) dX5_countWays_42 ?_
          rw [posF_congr (hKv.1 _ (Or.inl (by omega))) (hKv.1 _ (Or.inl (by omega)))]
          have hsx := (SxOK.pos (tog := togT) hkp hkq hB) i k (by omega) (by omega) (by omega) (by omega)
          refine wm_istore hC  (pc := 45) dX5_countWays_45  (by decide) rfl ?_
          refine wm_iload hC  (pc := 47) dX5_countWays_47 rfl ?_
          refine wm_pS hC cs_X5_71 kc_X5_isPosition (s_X5_isPosition (by omega)) rfl (by decide) rfl (Nat.le_of_ble_eq_true rfl) (pc := 49) dX5_countWays_49 ?_
          refine wm_ifd_eq hC 66 (pc := 52) dX5_countWays_52 (by decide) (fun h52 => ?_) (fun h52 => ?_)
          · have e : cinW (posF togT w p q B) (coutW (posF togT w p q B) (cst w) i) i (k + 1) = cinW (posF togT w p q B) (coutW (posF togT w p q B) (cst w) i) i k := if_neg h52
            refine wm_iinc hC (pc := 66) dX5_countWays_66 rfl rfl (by decide) rfl ?_
            refine wm_goto hC 33 (pc := 69) dX5_countWays_69 (by decide) ?_
            have hh := ih _ (by omega) (k + 1) (some (mvI ((posF togT w p q B) i k))) rfl (by omega)
            rw [e] at hh
            exact hh
          · have e : cinW (posF togT w p q B) (coutW (posF togT w p q B) (cst w) i) i (k + 1) = mup (cinW (posF togT w p q B) (coutW (posF togT w p q B) (cst w) i) i k) 22 ((posF togT w p q B) i k) (cinW (posF togT w p q B) (coutW (posF togT w p q B) (cst w) i) i k 22 ((posF togT w p q B) i k) + 1) := if_pos h52
            refine wm_aload_n hC 0 (pc := 55) dX5_countWays_55 rfl rfl ?_
            refine wm_getR hC fl_X5_9_4 rfl rfl (pc := 56) dX5_countWays_56 ?_
            refine wm_iload hC  (pc := 59) dX5_countWays_59 rfl ?_
            refine wm_dup2 hC (pc := 61) dX5_countWays_61 rfl rfl ?_
            refine wm_iaload hC rfl (by omega) (by decide) (pc := 62) dX5_countWays_62 ?_
            refine wm_iconst hC (pc := 63) dX5_countWays_63 ?_
            refine wm_iadd hC (pc := 64) dX5_countWays_64 ?_
            refine wm_iastore hC rfl (by omega) (by decide) (pc := 65) dX5_countWays_65 ?_
            refine wm_iinc hC (pc := 66) dX5_countWays_66 rfl rfl (by decide) rfl ?_
            refine wm_goto hC 33 (pc := 69) dX5_countWays_69 (by decide) ?_
            have hh := ih _ (by omega) (k + 1) (some (mvI ((posF togT w p q B) i k))) rfl (by omega)
            rw [e] at hh
            exact hh
      exact lp33 _ 0 _ rfl (by omega)
  exact lp23 _ 0 none none rfl (by omega)
set_option maxRecDepth 100000 in
set_option maxHeartbeats 4000000 in
theorem s_X5_rowsToEnds {l : Launch} {G : mG} {w : mW} {p q : Nat} {B : Bf} (hS : PSt w 15 16 17 18 19 20 p q B) (hpb : p + 1 < 15) (hqb : q + 1 < 15) : Mx l G 5 yX5_rowsToEnds cX5_rowsToEnds 7 (some .long) [mvR 21, mvR 15] w (qJ (fun z w' => z = krF (posF togT w p q B) (endB w p q B) w (bN B) ∧ ∀ a : Nat, a < 21 ∨ 24 < a → w' a = w a)) := by
  refine Mx.intro (by decide) RX5 rfl [some (mvR 21), some (mvR 15), none, none, none, none, none] (Nat.le_of_ble_eq_true rfl) rfl (fun K hC => ?_)
  obtain ⟨hp, hq, hkp, hkq, h5, h6, hA, hB⟩ := id hS
  have hle := hB.le
  have hsx : SxOK (posF togT w p q B) (bN B) := SxOK.pos hkp hkq hB
  have hn1 : 1 ≤ bN B ∧ bN B ≤ 64 := ⟨hB.1, hle⟩
  have hC1 : CAP = 1000000000000001 := rfl
  have j28 : ∀ (u : mW), u = kst (posF togT w p q B) w (bN B) → Wm l G K 5 7 (qJ (fun z w' => z = krF (posF togT w p q B) (endB w p q B) w (bN B) ∧ ∀ a : Nat, a < 21 ∨ 24 < a → w' a = w a)) 28 [some (mvR 21), some (mvR 15), some (mvJ 0), none, none, none, none] [] u := by
    intro u hu
    subst hu
    refine wm_iconst hC (pc := 28) dX5_rowsToEnds_28 ?_
    refine wm_istore hC  (pc := 29) dX5_rowsToEnds_29  (by decide) rfl ?_
    have lp31 : ∀ (n : Nat) (at_ : Nat) (o5 o6 : Option mV), n = 64 - at_ → at_ ≤ 64 → Wm l G K 5 7 (qJ (fun z w' => z = krF (posF togT w p q B) (endB w p q B) w (bN B) ∧ ∀ a : Nat, a < 21 ∨ 24 < a → w' a = w a)) 31 [some (mvR 21), some (mvR 15), some (mvJ (koutW (posF togT w p q B) (endB w p q B) (kst (posF togT w p q B) w (bN B)) at_).2), none, some (mvI (at_ : Int)), o5, o6] [] (koutW (posF togT w p q B) (endB w p q B) (kst (posF togT w p q B) w (bN B)) at_).1 := by
      intro n
      induction n using Nat.strongRecOn with
      | _ n ih =>
      intro at_ o5 o6 hn hat
      obtain ⟨hKu, hE⟩ := kout_KI (w := w) (en := (endB w p q B)) hsx hn1 at_ hat
      have hr2 := hKu.2.1
      refine wm_iload hC  (pc := 31) dX5_rowsToEnds_31 rfl ?_
      refine wm_aload_n hC 0 (pc := 33) dX5_rowsToEnds_33 rfl rfl ?_
      refine wm_getI hC 21 3 fl_X5_30_4 rfl rfl rfl (pc := 34) dX5_rowsToEnds_34 ?_
      refine wm_icmp_ge hC 117 (pc := 37) dX5_rowsToEnds_37 (by decide) (by omega) (by omega) (fun h37 => ?_) (fun h37 => ?_)
      · refine wm_aload_n hC 0 (pc := 117) dX5_rowsToEnds_117 rfl rfl ?_
        refine wm_getI hC 21 3 fl_X5_30_4 rfl rfl rfl (pc := 118) dX5_rowsToEnds_118 ?_
        refine wm_aload_n hC 1 (pc := 121) dX5_rowsToEnds_121 rfl rfl ?_
        refine wm_pU hC cu_X5_56_X7 kc_X2_size rfl rfl (s_X2_size_X7 (⟨hp, hq, hkp.congr (hKu.1 _ (Or.inl (by omega))), hkq.congr (hKu.1 _ (Or.inl (by omega))), (by rw [hKu.1 15 (Or.inl (by decide))]; exact h5), (by rw [hKu.1 15 (Or.inl (by decide))]; exact h6), agr_keep hA (hKu.1 15 (Or.inl (by decide))) (hKu.1 16 (Or.inl (by decide))) (hKu.1 17 (Or.inl (by decide))) (hKu.1 18 (Or.inl (by decide))) (hKu.1 19 (Or.inl (by decide))) (hKu.1 20 (Or.inl (by decide))), hB⟩)) rfl (by decide) rfl (Nat.le_of_ble_eq_true rfl) (pc := 122) dX5_rowsToEnds_122 ?_
        refine wm_icmp_ge hC 134 (pc := 125) dX5_rowsToEnds_125 (by decide) (by omega) (by omega) (fun h125 => ?_) (fun h125 => ?_)
        · refine wm_lload_n hC 2 (pc := 134) dX5_rowsToEnds_134 rfl rfl ?_
          refine wm_lretJ hC (pc := 135) dX5_rowsToEnds_135 ?_
          have e64 : (koutW (posF togT w p q B) (endB w p q B) (kst (posF togT w p q B) w (bN B)) 64) = (koutW (posF togT w p q B) (endB w p q B) (kst (posF togT w p q B) w (bN B)) at_) := kout_stop (by omega) 64 hat
          refine ⟨?_, hKu.1⟩
          unfold krF
          rw [e64]
          first | rw [if_pos (by omega)] | rw [if_neg (by omega)]
        · refine wm_ldc2 hC (-1) kJ_X5_60 (pc := 128) dX5_rowsToEnds_128 ?_
          refine wm_goto hC 135 (pc := 131) dX5_rowsToEnds_131 (by decide) ?_
          refine wm_lretJ hC (pc := 135) dX5_rowsToEnds_135 ?_
          have e64 : (koutW (posF togT w p q B) (endB w p q B) (kst (posF togT w p q B) w (bN B)) 64) = (koutW (posF togT w p q B) (endB w p q B) (kst (posF togT w p q B) w (bN B)) at_) := kout_stop (by omega) 64 hat
          refine ⟨?_, hKu.1⟩
          unfold krF
          rw [e64]
          first | rw [if_pos (by omega)] | rw [if_neg (by omega)]
      · refine wm_iload hC  (pc := 40) dX5_rowsToEnds_40 rfl ?_
        refine wm_bipush hC (pc := 42) dX5_rowsToEnds_42 (by decide) ?_
        refine wm_icmp_ge hC 117 (pc := 44) dX5_rowsToEnds_44 (by decide) (by omega) (by omega) (fun h44 => ?_) (fun h44 => ?_)
        · omega
        · refine wm_aload_n hC 0 (pc := 47) dX5_rowsToEnds_47 rfl rfl ?_
          refine wm_getR hC fl_X5_19_4 rfl rfl (pc := 48) dX5_rowsToEnds_48 ?_
          refine wm_iload hC  (pc := 51) dX5_rowsToEnds_51 rfl ?_
          refine wm_iaload hC rfl (by omega) (by decide) (pc := 53) dX5_rowsToEnds_53 ?_
          refine wm_istore hC  (pc := 54) dX5_rowsToEnds_54  (by decide) rfl ?_
          refine wm_aload_n hC 1 (pc := 56) dX5_rowsToEnds_56 rfl rfl ?_
          refine wm_iload hC  (pc := 57) dX5_rowsToEnds_57 rfl ?_
          refine wm_pV hC cv_X5_34 kc_X7_isEnd rfl rfl (s_X7_isEnd (⟨hp, hq, hkp.congr (hKu.1 _ (Or.inl (by omega))), hkq.congr (hKu.1 _ (Or.inl (by omega))), (by rw [hKu.1 15 (Or.inl (by decide))]; exact h5), (by rw [hKu.1 15 (Or.inl (by decide))]; exact h6), agr_keep hA (hKu.1 15 (Or.inl (by decide))) (hKu.1 16 (Or.inl (by decide))) (hKu.1 17 (Or.inl (by decide))) (hKu.1 18 (Or.inl (by decide))) (hKu.1 19 (Or.inl (by decide))) (hKu.1 20 (Or.inl (by decide))), hB⟩) (hKu.2.2.1 at_ (by omega) (by omega))) rfl (by decide) rfl (Nat.le_of_ble_eq_true rfl) (pc := 59) dX5_rowsToEnds_59 ?_
          rw [endB_congr (hKu.1 _ (Or.inl (by omega))) (hKu.1 _ (Or.inl (by omega)))]
          have hpos := hKu.2.2.1 at_ (by omega) (by omega)
          refine wm_ifb_eq hC 77 (pc := 62) dX5_rowsToEnds_62 (by decide) (fun h62 => ?_) (fun h62 => ?_)
          · have eE : (koutW (posF togT w p q B) (endB w p q B) (kst (posF togT w p q B) w (bN B)) at_).2 = (if endB w p q B ((koutW (posF togT w p q B) (endB w p q B) (kst (posF togT w p q B) w (bN B)) at_).1 24 at_) then capI ((koutW (posF togT w p q B) (endB w p q B) (kst (posF togT w p q B) w (bN B)) at_).2 + (koutW (posF togT w p q B) (endB w p q B) (kst (posF togT w p q B) w (bN B)) at_).1 23 ((koutW (posF togT w p q B) (endB w p q B) (kst (posF togT w p q B) w (bN B)) at_).1 24 at_)) else (koutW (posF togT w p q B) (endB w p q B) (kst (posF togT w p q B) w (bN B)) at_).2) := by rw [if_neg (by rw [h62]; decide)]
            rw [eE]
            refine wm_iconst hC (pc := 77) dX5_rowsToEnds_77 ?_
            refine wm_istore hC  (pc := 78) dX5_rowsToEnds_78  (by decide) rfl ?_
            have lp80 : ∀ (n : Nat) (k : Nat), n = 6 - k → k ≤ 6 → Wm l G K 5 7 (qJ (fun z w' => z = krF (posF togT w p q B) (endB w p q B) w (bN B) ∧ ∀ a : Nat, a < 21 ∨ 24 < a → w' a = w a)) 80 [some (mvR 21), some (mvR 15), some (mvJ (if endB w p q B ((koutW (posF togT w p q B) (endB w p q B) (kst (posF togT w p q B) w (bN B)) at_).1 24 at_) then capI ((koutW (posF togT w p q B) (endB w p q B) (kst (posF togT w p q B) w (bN B)) at_).2 + (koutW (posF togT w p q B) (endB w p q B) (kst (posF togT w p q B) w (bN B)) at_).1 23 ((koutW (posF togT w p q B) (endB w p q B) (kst (posF togT w p q B) w (bN B)) at_).1 24 at_)) else (koutW (posF togT w p q B) (endB w p q B) (kst (posF togT w p q B) w (bN B)) at_).2)), none, some (mvI (at_ : Int)), some (mvI ((koutW (posF togT w p q B) (endB w p q B) (kst (posF togT w p q B) w (bN B)) at_).1 24 at_)), some (mvI (k : Int))] [] (kinW (posF togT w p q B) (koutW (posF togT w p q B) (endB w p q B) (kst (posF togT w p q B) w (bN B)) at_).1 ((koutW (posF togT w p q B) (endB w p q B) (kst (posF togT w p q B) w (bN B)) at_).1 24 at_) k) := by
              intro n
              induction n using Nat.strongRecOn with
              | _ n ih =>
              intro k hm hk6
              rename_i n0 ih0
              have hKv := hKu.kin hsx (by omega) hpos k hk6
              refine wm_iload hC  (pc := 80) dX5_rowsToEnds_80 rfl ?_
              refine wm_bipush hC (pc := 82) dX5_rowsToEnds_82 (by decide) ?_
              refine wm_icmp_ge hC 111 (pc := 84) dX5_rowsToEnds_84 (by decide) (by omega) (by omega) (fun h84 => ?_) (fun h84 => ?_)
              · refine wm_iinc hC (pc := 111) dX5_rowsToEnds_111 rfl rfl (by decide) rfl ?_
                refine wm_goto hC 31 (pc := 114) dX5_rowsToEnds_114 (by decide) ?_
                obtain rfl : k = 6 := by omega
                have eK : (koutW (posF togT w p q B) (endB w p q B) (kst (posF togT w p q B) w (bN B)) (at_ + 1)) = ((kinW (posF togT w p q B) (koutW (posF togT w p q B) (endB w p q B) (kst (posF togT w p q B) w (bN B)) at_).1 ((koutW (posF togT w p q B) (endB w p q B) (kst (posF togT w p q B) w (bN B)) at_).1 24 at_) 6), (if endB w p q B ((koutW (posF togT w p q B) (endB w p q B) (kst (posF togT w p q B) w (bN B)) at_).1 24 at_) then capI ((koutW (posF togT w p q B) (endB w p q B) (kst (posF togT w p q B) w (bN B)) at_).2 + (koutW (posF togT w p q B) (endB w p q B) (kst (posF togT w p q B) w (bN B)) at_).1 23 ((koutW (posF togT w p q B) (endB w p q B) (kst (posF togT w p q B) w (bN B)) at_).1 24 at_)) else (koutW (posF togT w p q B) (endB w p q B) (kst (posF togT w p q B) w (bN B)) at_).2)) := if_pos (by omega)
                have hh := ih0 _ (by omega) (at_ + 1) (some (mvI ((koutW (posF togT w p q B) (endB w p q B) (kst (posF togT w p q B) w (bN B)) at_).1 24 at_))) (some (mvI ((6 : Nat) : Int))) rfl (by omega)
                rw [eK] at hh
                exact hh
              · refine wm_aload_n hC 0 (pc := 87) dX5_rowsToEnds_87 rfl rfl ?_
                refine wm_aload_n hC 1 (pc := 88) dX5_rowsToEnds_88 rfl rfl ?_
                refine wm_iload hC  (pc := 89) dX5_rowsToEnds_89 rfl ?_
                refine wm_iload hC  (pc := 91) dX5_rowsToEnds_91 rfl ?_
                refine wm_pU hC cu_X5_48_X7 kc_X2_positionBehind rfl rfl (s_X2_positionBehind_X7 (⟨hp, hq, hkp.congr (hKv.1 _ (Or.inl (by omega))), hkq.congr (hKv.1 _ (Or.inl (by omega))), (by rw [hKv.1 15 (Or.inl (by decide))]; exact h5), (by rw [hKv.1 15 (Or.inl (by decide))]; exact h6), agr_keep hA (hKv.1 15 (Or.inl (by decide))) (hKv.1 16 (Or.inl (by decide))) (hKv.1 17 (Or.inl (by decide))) (hKv.1 18 (Or.inl (by decide))) (hKv.1 19 (Or.inl (by decide))) (hKv.1 20 (Or.inl (by decide))), hB⟩) hpos ⟨by omega, by omega⟩) rfl (by decide) rfl (Nat.le_of_ble_eq_true rfl) (pc := 93) dX5_rowsToEnds_93 ?_
                rw [posF_congr (hKv.1 _ (Or.inl (by omega))) (hKv.1 _ (Or.inl (by omega)))]
                have hs1 := hsx ((koutW (posF togT w p q B) (endB w p q B) (kst (posF togT w p q B) w (bN B)) at_).1 24 at_) k hpos.1 hpos.2 (by omega) (by omega)
                refine wm_aload_n hC 0 (pc := 96) dX5_rowsToEnds_96 rfl rfl ?_
                refine wm_iload hC  (pc := 97) dX5_rowsToEnds_97 rfl ?_
                refine wm_pV hC cv_X5_40 kc_X5_rowsTo rfl rfl (s_X5_rowsTo (by omega)) rfl (by decide) rfl (Nat.le_of_ble_eq_true rfl) (pc := 99) dX5_rowsToEnds_99 ?_
                refine wm_vV hC cv_X5_52 kc_X5_goAlong rfl rfl (s_X5_goAlong hKv (by omega) (by omega) (by omega) (hKv.2.2.2.2 _ hpos.1 (by omega))) rfl (by decide) rfl (Nat.le_of_ble_eq_true rfl) (pc := 102) dX5_rowsToEnds_102 (fun w102 hw102 => ?_)
                subst hw102
                refine wm_iinc hC (pc := 105) dX5_rowsToEnds_105 rfl rfl (by decide) rfl ?_
                refine wm_goto hC 80 (pc := 108) dX5_rowsToEnds_108 (by decide) ?_
                exact ih _ (by omega) (k + 1) rfl (by omega)
            exact lp80 _ 0 rfl (by omega)
          · have eE : capI ((koutW (posF togT w p q B) (endB w p q B) (kst (posF togT w p q B) w (bN B)) at_).2 + (koutW (posF togT w p q B) (endB w p q B) (kst (posF togT w p q B) w (bN B)) at_).1 23 ((koutW (posF togT w p q B) (endB w p q B) (kst (posF togT w p q B) w (bN B)) at_).1 24 at_)) = (if endB w p q B ((koutW (posF togT w p q B) (endB w p q B) (kst (posF togT w p q B) w (bN B)) at_).1 24 at_) then capI ((koutW (posF togT w p q B) (endB w p q B) (kst (posF togT w p q B) w (bN B)) at_).2 + (koutW (posF togT w p q B) (endB w p q B) (kst (posF togT w p q B) w (bN B)) at_).1 23 ((koutW (posF togT w p q B) (endB w p q B) (kst (posF togT w p q B) w (bN B)) at_).1 24 at_)) else (koutW (posF togT w p q B) (endB w p q B) (kst (posF togT w p q B) w (bN B)) at_).2) := by rw [if_pos h62]
            refine wm_lload_n hC 2 (pc := 65) dX5_rowsToEnds_65 rfl rfl ?_
            refine wm_aload_n hC 0 (pc := 66) dX5_rowsToEnds_66 rfl rfl ?_
            refine wm_iload hC  (pc := 67) dX5_rowsToEnds_67 rfl ?_
            refine wm_pV hC cv_X5_40 kc_X5_rowsTo rfl rfl (s_X5_rowsTo (by have := hKu.2.2.1 at_ (by omega) (by omega); omega)) rfl (by decide) rfl (Nat.le_of_ble_eq_true rfl) (pc := 69) dX5_rowsToEnds_69 ?_
            refine wm_ladd hC (pc := 72) dX5_rowsToEnds_72 ?_
            refine wm_pS hC cs_X5_44 kc_X5_capped (s_X5_capped (by have := hKu.2.2.1 at_ (by omega) (by omega); have := hKu.2.2.2.2 _ this.1 (by omega); omega)) rfl (by decide) rfl (Nat.le_of_ble_eq_true rfl) (pc := 73) dX5_rowsToEnds_73 ?_
            refine wm_lstore_n hC 2 (pc := 76) dX5_rowsToEnds_76 rfl (by decide) rfl ?_
            rw [eE]
            refine wm_iconst hC (pc := 77) dX5_rowsToEnds_77 ?_
            refine wm_istore hC  (pc := 78) dX5_rowsToEnds_78  (by decide) rfl ?_
            have lp80 : ∀ (n : Nat) (k : Nat), n = 6 - k → k ≤ 6 → Wm l G K 5 7 (qJ (fun z w' => z = krF (posF togT w p q B) (endB w p q B) w (bN B) ∧ ∀ a : Nat, a < 21 ∨ 24 < a → w' a = w a)) 80 [some (mvR 21), some (mvR 15), some (mvJ (if endB w p q B ((koutW (posF togT w p q B) (endB w p q B) (kst (posF togT w p q B) w (bN B)) at_).1 24 at_) then capI ((koutW (posF togT w p q B) (endB w p q B) (kst (posF togT w p q B) w (bN B)) at_).2 + (koutW (posF togT w p q B) (endB w p q B) (kst (posF togT w p q B) w (bN B)) at_).1 23 ((koutW (posF togT w p q B) (endB w p q B) (kst (posF togT w p q B) w (bN B)) at_).1 24 at_)) else (koutW (posF togT w p q B) (endB w p q B) (kst (posF togT w p q B) w (bN B)) at_).2)), none, some (mvI (at_ : Int)), some (mvI ((koutW (posF togT w p q B) (endB w p q B) (kst (posF togT w p q B) w (bN B)) at_).1 24 at_)), some (mvI (k : Int))] [] (kinW (posF togT w p q B) (koutW (posF togT w p q B) (endB w p q B) (kst (posF togT w p q B) w (bN B)) at_).1 ((koutW (posF togT w p q B) (endB w p q B) (kst (posF togT w p q B) w (bN B)) at_).1 24 at_) k) := by
              intro n
              induction n using Nat.strongRecOn with
              | _ n ih =>
              intro k hm hk6
              rename_i n0 ih0
              have hKv := hKu.kin hsx (by omega) hpos k hk6
              refine wm_iload hC  (pc := 80) dX5_rowsToEnds_80 rfl ?_
              refine wm_bipush hC (pc := 82) dX5_rowsToEnds_82 (by decide) ?_
              refine wm_icmp_ge hC 111 (pc := 84) dX5_rowsToEnds_84 (by decide) (by omega) (by omega) (fun h84 => ?_) (fun h84 => ?_)
              · refine wm_iinc hC (pc := 111) dX5_rowsToEnds_111 rfl rfl (by decide) rfl ?_
                refine wm_goto hC 31 (pc := 114) dX5_rowsToEnds_114 (by decide) ?_
                obtain rfl : k = 6 := by omega
                have eK : (koutW (posF togT w p q B) (endB w p q B) (kst (posF togT w p q B) w (bN B)) (at_ + 1)) = ((kinW (posF togT w p q B) (koutW (posF togT w p q B) (endB w p q B) (kst (posF togT w p q B) w (bN B)) at_).1 ((koutW (posF togT w p q B) (endB w p q B) (kst (posF togT w p q B) w (bN B)) at_).1 24 at_) 6), (if endB w p q B ((koutW (posF togT w p q B) (endB w p q B) (kst (posF togT w p q B) w (bN B)) at_).1 24 at_) then capI ((koutW (posF togT w p q B) (endB w p q B) (kst (posF togT w p q B) w (bN B)) at_).2 + (koutW (posF togT w p q B) (endB w p q B) (kst (posF togT w p q B) w (bN B)) at_).1 23 ((koutW (posF togT w p q B) (endB w p q B) (kst (posF togT w p q B) w (bN B)) at_).1 24 at_)) else (koutW (posF togT w p q B) (endB w p q B) (kst (posF togT w p q B) w (bN B)) at_).2)) := if_pos (by omega)
                have hh := ih0 _ (by omega) (at_ + 1) (some (mvI ((koutW (posF togT w p q B) (endB w p q B) (kst (posF togT w p q B) w (bN B)) at_).1 24 at_))) (some (mvI ((6 : Nat) : Int))) rfl (by omega)
                rw [eK] at hh
                exact hh
              · refine wm_aload_n hC 0 (pc := 87) dX5_rowsToEnds_87 rfl rfl ?_
                refine wm_aload_n hC 1 (pc := 88) dX5_rowsToEnds_88 rfl rfl ?_
                refine wm_iload hC  (pc := 89) dX5_rowsToEnds_89 rfl ?_
                refine wm_iload hC  (pc := 91) dX5_rowsToEnds_91 rfl ?_
                refine wm_pU hC cu_X5_48_X7 kc_X2_positionBehind rfl rfl (s_X2_positionBehind_X7 (⟨hp, hq, hkp.congr (hKv.1 _ (Or.inl (by omega))), hkq.congr (hKv.1 _ (Or.inl (by omega))), (by rw [hKv.1 15 (Or.inl (by decide))]; exact h5), (by rw [hKv.1 15 (Or.inl (by decide))]; exact h6), agr_keep hA (hKv.1 15 (Or.inl (by decide))) (hKv.1 16 (Or.inl (by decide))) (hKv.1 17 (Or.inl (by decide))) (hKv.1 18 (Or.inl (by decide))) (hKv.1 19 (Or.inl (by decide))) (hKv.1 20 (Or.inl (by decide))), hB⟩) hpos ⟨by omega, by omega⟩) rfl (by decide) rfl (Nat.le_of_ble_eq_true rfl) (pc := 93) dX5_rowsToEnds_93 ?_
                rw [posF_congr (hKv.1 _ (Or.inl (by omega))) (hKv.1 _ (Or.inl (by omega)))]
                have hs1 := hsx ((koutW (posF togT w p q B) (endB w p q B) (kst (posF togT w p q B) w (bN B)) at_).1 24 at_) k hpos.1 hpos.2 (by omega) (by omega)
                refine wm_aload_n hC 0 (pc := 96) dX5_rowsToEnds_96 rfl rfl ?_
                refine wm_iload hC  (pc := 97) dX5_rowsToEnds_97 rfl ?_
                refine wm_pV hC cv_X5_40 kc_X5_rowsTo rfl rfl (s_X5_rowsTo (by omega)) rfl (by decide) rfl (Nat.le_of_ble_eq_true rfl) (pc := 99) dX5_rowsToEnds_99 ?_
                refine wm_vV hC cv_X5_52 kc_X5_goAlong rfl rfl (s_X5_goAlong hKv (by omega) (by omega) (by omega) (hKv.2.2.2.2 _ hpos.1 (by omega))) rfl (by decide) rfl (Nat.le_of_ble_eq_true rfl) (pc := 102) dX5_rowsToEnds_102 (fun w102 hw102 => ?_)
                subst hw102
                refine wm_iinc hC (pc := 105) dX5_rowsToEnds_105 rfl rfl (by decide) rfl ?_
                refine wm_goto hC 80 (pc := 108) dX5_rowsToEnds_108 (by decide) ?_
                exact ih _ (by omega) (k + 1) rfl (by omega)
            exact lp80 _ 0 rfl (by omega)
    exact lp31 _ 0 none none rfl (by omega)
  refine wm_aload_n hC 0 (pc := 0) dX5_rowsToEnds_0 rfl rfl ?_
  refine wm_aload_n hC 1 (pc := 1) dX5_rowsToEnds_1 rfl rfl ?_
  refine wm_vV hC cv_X5_22 kc_X5_countWays rfl rfl (s_X5_countWays hS hpb hqb) rfl (by decide) rfl (Nat.le_of_ble_eq_true rfl) (pc := 2) dX5_rowsToEnds_2 (fun w2 hw2 => ?_)
  subst hw2
  refine wm_lconst hC 0 (pc := 5) dX5_rowsToEnds_5 rfl ?_
  refine wm_lstore_n hC 2 (pc := 6) dX5_rowsToEnds_6 rfl (by decide) rfl ?_
  refine wm_aload_n hC 0 (pc := 7) dX5_rowsToEnds_7 rfl rfl ?_
  refine wm_getR hC fl_X5_15_4 rfl rfl (pc := 8) dX5_rowsToEnds_8 ?_
  refine wm_iconst hC (pc := 11) dX5_rowsToEnds_11 ?_
  refine wm_lconst hC 1 (pc := 12) dX5_rowsToEnds_12 rfl ?_
  refine wm_lastore hC rfl (by omega) (by decide) (pc := 13) dX5_rowsToEnds_13 ?_
  refine wm_aload_n hC 0 (pc := 14) dX5_rowsToEnds_14 rfl rfl ?_
  refine wm_getR hC fl_X5_9_4 rfl rfl (pc := 15) dX5_rowsToEnds_15 ?_
  refine wm_iconst hC (pc := 18) dX5_rowsToEnds_18 ?_
  refine wm_iaload hC rfl (by omega) (by decide) (pc := 19) dX5_rowsToEnds_19 ?_
  refine wm_if_ne hC 28 (pc := 20) dX5_rowsToEnds_20 (by decide) (by have h := (kst_h1 (w := w) (sx := (posF togT w p q B)) hn1).2.2.2.1 0 (by omega) (by omega); omega) (fun h20 => ?_) (fun h20 => ?_)
  · exact j28 _ (by unfold kst; rw [if_neg h20])
  · refine wm_aload_n hC 0 (pc := 23) dX5_rowsToEnds_23 rfl rfl ?_
    refine wm_iconst hC (pc := 24) dX5_rowsToEnds_24 ?_
    refine wm_vV hC cv_X5_26 kc_X5_setReady rfl rfl (s_X5_setReady (kst_h1 (w := w) (sx := (posF togT w p q B)) hn1).2.1) rfl (by decide) rfl (Nat.le_of_ble_eq_true rfl) (pc := 25) dX5_rowsToEnds_25 (fun w25 hw25 => ?_)
    exact j28 _ (by unfold kst; rw [if_pos h20]; exact hw25)
