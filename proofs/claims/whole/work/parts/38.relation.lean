/-! the class's half of the world against the reference's -/
def sh (c : Int → Int) (i : Int) : Int := if i % 7 = 0 then c i else c i - 1
def Rg (c : Int → Int) (i : Int) : Prop := (i % 7 = 0 → 0 ≤ c i ∧ c i < 3) ∧ (¬ i % 7 = 0 → 0 ≤ c i ∧ c i ≤ 8)
def PR (w : mW) (c : Int → Int) : Prop := ∀ p : Nat, p < 3 → ∀ b : Int, 0 ≤ b → b < 56 → w (2 * p + 2) b = sh c (56 * (p : Int) + b)
def HR (A B : Int → Int) (h : Int) : Prop := ∀ i : Int, 0 ≤ i → i < 168 * h → A i = sh B i ∧ Rg B i
def RelI (w : mW) : Prop := RInv w ∧ PR w (w 32) ∧ w 7 1 = w 31 2 ∧ HR (w 8) (w 33) (w 31 2) ∧ w 9 1 = w 31 4 ∧ ∀ i : Int, 0 ≤ i → i < w 31 4 → w 10 i = w 34 i
def RelT (w : mW) : Prop := RelI w ∧ ∀ p : Nat, p < 3 → w (2 * p + 2) = rv w (2 * p + 2)
def Up (w u : mW) : Prop := ∀ a : Nat, 31 ≤ a → u a = w a
theorem Up.refl (w : mW) : Up w w := fun _ _ => rfl
theorem rv_sh (w : mW) (p : Nat) (b : Int) : rv w (2 * p + 2) b = sh (w 32) (56 * (p : Int) + b) := by
  show (if b % 7 = 0 then w 32 (56 * (((2 * p + 2) / 2 : Nat) : Int) - 56 + b) else w 32 (56 * (((2 * p + 2) / 2 : Nat) : Int) - 56 + b) - 1) = _
  unfold sh
  rw [show 56 * (((2 * p + 2) / 2 : Nat) : Int) - 56 + b = 56 * (p : Int) + b by omega]
  by_cases h : b % 7 = 0
  · rw [if_pos h, if_pos (by omega)]
  · rw [if_neg h, if_neg (by omega)]
theorem RInv.up {w u : mW} (h : RInv w) (hu : Up w u) : RInv u := by
  obtain ⟨h1, h2, h3, h4⟩ := h
  unfold RInv
  rw [hu 31 (by decide), hu 34 (by decide)]
  exact ⟨h1.congr (hu 32 (by decide)), h2, h3, h4⟩
theorem rv_up {w u : mW} (hu : Up w u) : rv u = rv w := rv_congr (hu 32 (by decide))
theorem sh_rng {c : Int → Int} {i : Int} (h : Rg c i) : (i % 7 = 0 → 0 ≤ sh c i ∧ sh c i < 3) ∧ (¬ i % 7 = 0 → -1 ≤ sh c i ∧ sh c i < 8) := by
  unfold sh
  refine ⟨fun e => by rw [if_pos e]; exact h.1 e, fun e => by rw [if_neg e]; have := h.2 e; omega⟩
theorem planOK_of {w : mW} {c : Int → Int} (hPR : PR w c) (hc : ∀ i : Int, 0 ≤ i → i < 168 → Rg c i) {p : Nat} (hp : p < 3) : PlanOK w (2 * p + 1) := by
  intro s s0 s1
  refine ⟨?_, fun k k0 k1 => ?_⟩
  · have e := hPR p hp (s * 7) (by omega) (by omega)
    have r := (sh_rng (hc (56 * (p : Int) + s * 7) (by omega) (by omega))).1 (by omega)
    show 0 ≤ w (2 * p + 2) (s * 7) ∧ w (2 * p + 2) (s * 7) < 3
    rw [e]; exact r
  · have e := hPR p hp (s * 7 + 1 + k) (by omega) (by omega)
    have r := (sh_rng (hc (56 * (p : Int) + (s * 7 + 1 + k)) (by omega) (by omega))).2 (by omega)
    show -1 ≤ w (2 * p + 2) (s * 7 + 1 + k) ∧ w (2 * p + 2) (s * 7 + 1 + k) < 8
    rw [e]; exact r
theorem RelI.cinv {w : mW} (h : RelI w) : CInv w := by
  obtain ⟨⟨h1, h2, h3, h4⟩, g1, g2, g3, g4, g5⟩ := h
  refine ⟨fun p hp => planOK_of g1 (fun i i0 i1 => h1 i i0 i1) hp, by rw [g2]; exact h2, by rw [g4]; exact h3, fun i i0 i1 => ?_⟩
  rw [g4] at i1
  rw [g5 i i0 i1]; exact h4 i i0 i1
theorem PR.rv {w : mW} (h : PR w (w 32)) {p : Nat} (hp : p < 3) {b : Int} (b0 : 0 ≤ b) (b1 : b < 56) : w (2 * p + 2) b = rv w (2 * p + 2) b := by
  rw [rv_sh]; exact h p hp b b0 b1
theorem RelI.keep {w u : mW} (h : RelI w) (hc : ∀ a : Nat, (a = 2 ∨ a = 4 ∨ a = 6 ∨ a = 7 ∨ a = 8 ∨ a = 10 ∨ a = 32 ∨ a = 33 ∨ a = 34) → u a = w a) (h9 : u 9 1 = w 9 1) (h2 : u 31 2 = w 31 2) (h4 : u 31 4 = w 31 4) : RelI u := by
  obtain ⟨⟨f1, f2, f3, f4⟩, g1, g2, g3, g4, g5⟩ := h
  unfold RelI RInv
  rw [hc 7 (by decide), hc 8 (by decide), hc 10 (by decide), hc 33 (by decide), hc 34 (by decide), h9, h2, h4, hc 32 (by decide)]
  refine ⟨⟨f1.congr (hc 32 (by decide)), f2, f3, f4⟩, fun p hp b b0 b1 => ?_, g2, g3, g4, g5⟩
  rw [hc (2 * p + 2) (by omega)]; exact g1 p hp b b0 b1
/-- the history of both halves -/
theorem hist_G {wc wr : mW} {h : Int} (h0 : 0 ≤ h ∧ h ≤ 3) (e7 : wc 7 1 = h) (e2 : wr 31 2 = h) (hPR : PR wc (wr 32)) (hRP : RPl wr) (hHR : HR (wc 8) (wr 33) h) : recG wc 7 1 = rrG wr 31 2 ∧ rrG wr 31 2 = h + 1 ∧ HR (recG wc 8) (rrG wr 33) (h + 1) := by
  have r1 : recG wc 7 1 = h + 1 := by unfold recG; rw [mup_at, e7]
  have r2 : rrG wr 31 2 = h + 1 := by unfold rrG; rw [mup_at, e2]
  refine ⟨by rw [r1, r2], r2, fun i i0 i1 => ?_⟩
  have c8 : recG wc 8 i = if h * 168 + 112 ≤ i ∧ i < h * 168 + 112 + 56 then wc 6 (0 + (i - (h * 168 + 112))) else if h * 168 + 56 ≤ i ∧ i < h * 168 + 56 + 56 then wc 4 (0 + (i - (h * 168 + 56))) else if h * 168 ≤ i ∧ i < h * 168 + 56 then wc 2 (0 + (i - h * 168)) else wc 8 i := by
    unfold recG
    rw [mup_ne (by decide), e7]
    simp [mcopy]
  have c33 : rrG wr 33 i = if 168 * h ≤ i ∧ i < 168 * h + 168 then wr 32 (0 + (i - 168 * h)) else wr 33 i := by
    unfold rrG
    rw [mup_ne (by decide), e2]
    simp [mcopy]
  by_cases q : i < 168 * h
  · have hh := hHR i i0 q
    have c33b : rrG wr 33 i = wr 33 i := by rw [c33, if_neg (by omega)]
    have c8b : recG wc 8 i = wc 8 i := by rw [c8, if_neg (by omega), if_neg (by omega), if_neg (by omega)]
    unfold sh Rg at hh ⊢
    rw [c8b, c33b]
    exact hh
  · have hr := hRP (i - 168 * h) (by omega) (by omega)
    have ez : (0 : Int) + (i - 168 * h) = i - 168 * h := by omega
    have key : recG wc 8 i = sh (wr 32) (i - 168 * h) := by
      rw [c8]
      by_cases q2 : h * 168 + 112 ≤ i
      · rw [if_pos (by omega), show (0 : Int) + (i - (h * 168 + 112)) = i - h * 168 - 112 by omega]
        have := hPR 2 (by decide) (i - h * 168 - 112) (by omega) (by omega)
        rw [show (56 : Int) * ((2 : Nat) : Int) + (i - h * 168 - 112) = i - 168 * h by omega] at this
        exact this
      · rw [if_neg (by omega)]
        by_cases q1 : h * 168 + 56 ≤ i
        · rw [if_pos (by omega), show (0 : Int) + (i - (h * 168 + 56)) = i - h * 168 - 56 by omega]
          have := hPR 1 (by decide) (i - h * 168 - 56) (by omega) (by omega)
          rw [show (56 : Int) * ((1 : Nat) : Int) + (i - h * 168 - 56) = i - 168 * h by omega] at this
          exact this
        · rw [if_neg (by omega), if_pos (by omega), show (0 : Int) + (i - h * 168) = i - h * 168 by omega]
          have := hPR 0 (by decide) (i - h * 168) (by omega) (by omega)
          rw [show (56 : Int) * ((0 : Nat) : Int) + (i - h * 168) = i - 168 * h by omega] at this
          exact this
    have c33b : rrG wr 33 i = wr 32 (i - 168 * h) := by rw [c33, if_pos (by omega), ez]
    rw [key]
    unfold sh Rg
    rw [c33b]
    refine ⟨?_, fun e => hr.1 (by omega), fun e => hr.2 (by omega)⟩
    by_cases e : i % 7 = 0
    · rw [if_pos e, if_pos (show (i - 168 * h) % 7 = 0 by omega)]
    · rw [if_neg e, if_neg (show ¬ (i - 168 * h) % 7 = 0 by omega)]
theorem hist_rec {wc wr : mW} {h : Int} (h0 : 0 ≤ h ∧ h ≤ 4) (e7 : wc 7 1 = h) (e2 : wr 31 2 = h) (hPR : PR wc (wr 32)) (hRP : RPl wr) (hHR : HR (wc 8) (wr 33) h) : recF wc 7 1 = rrF wr 31 2 ∧ (0 ≤ rrF wr 31 2 ∧ rrF wr 31 2 ≤ 4) ∧ HR (recF wc 8) (rrF wr 33) (rrF wr 31 2) := by
  unfold recF rrF
  by_cases q : h = 4
  · rw [if_neg (by omega), if_pos (by omega)]
    have s8 : ∀ i : Int, recS wc 8 i = if 0 ≤ i ∧ i < 504 then wc 8 (168 + i) else wc 8 i := fun i => by
      unfold recS; rw [mup_ne (by decide)]; simp [mcopy]
    have s33 : ∀ i : Int, rrS wr 33 i = if 0 ≤ i ∧ i < 504 then wr 33 (168 + i) else wr 33 i := fun i => by
      unfold rrS; rw [mup_ne (by decide)]; simp [mcopy]
    have sc : ∀ a : Nat, a ≠ 7 → a ≠ 8 → recS wc a = wc a := fun a h7 h8 => by unfold recS; rw [mup_ne h7, mcopy_ne h8]
    have sr : ∀ a : Nat, a ≠ 31 → a ≠ 33 → rrS wr a = wr a := fun a h7 h8 => by unfold rrS; rw [mup_ne h7, mcopy_ne h8]
    have hg := hist_G (wc := recS wc) (wr := rrS wr) (h := 3) (by decide) (by unfold recS; rw [mup_at]) (by unfold rrS; rw [mup_at]) (fun p hp b b0 b1 => by rw [sc _ (by omega) (by omega), sr 32 (by decide) (by decide)]; exact hPR p hp b b0 b1) (hRP.congr (sr 32 (by decide) (by decide))) (fun i i0 i1 => by
      have hh := hHR (168 + i) (by omega) (by omega)
      have a8 : recS wc 8 i = wc 8 (168 + i) := by rw [s8, if_pos (by omega)]
      have a33 : rrS wr 33 i = wr 33 (168 + i) := by rw [s33, if_pos (by omega)]
      unfold sh Rg at hh ⊢
      rw [a8, a33]
      refine ⟨?_, fun e => hh.2.1 (by omega), fun e => hh.2.2 (by omega)⟩
      rw [hh.1]
      by_cases e : i % 7 = 0
      · rw [if_pos e, if_pos (show (168 + i) % 7 = 0 by omega)]
      · rw [if_neg e, if_neg (show ¬ (168 + i) % 7 = 0 by omega)])
    exact ⟨hg.1, by omega, by rw [hg.2.1]; exact hg.2.2⟩
  · rw [if_pos (by omega), if_neg (by omega)]
    have hg := hist_G (by omega) e7 e2 hPR hRP hHR
    exact ⟨hg.1, by omega, by rw [hg.2.1]; exact hg.2.2⟩
/-- a change: both halves record, then lay their plans anew -/
theorem RelI.chg {w wc wr w2 : mW} (h : RelI w) (hc : ∀ a : Nat, (a = 2 ∨ a = 4 ∨ a = 6 ∨ a = 7 ∨ a = 8) → wc a = w a) (r2 : wr 31 2 = w 31 2) (r32 : wr 32 = w 32) (r33 : wr 33 = w 33)
    (c7 : w2 7 1 = recF wc 7 1) (c8 : w2 8 = recF wc 8) (c9 : w2 9 1 = w 9 1) (c10 : w2 10 = w 10) (d2 : w2 31 2 = rrF wr 31 2) (d4 : w2 31 4 = w 31 4) (d33 : w2 33 = rrF wr 33) (d34 : w2 34 = w 34) (hP : RPl w2) (hPR : PR w2 (w2 32)) : RelI w2 := by
  obtain ⟨⟨f1, f2, f3, f4⟩, g1, g2, g3, g4, g5⟩ := h
  have hh := hist_rec (wc := wc) (wr := wr) (h := w 31 2) f2 (by rw [hc 7 (by decide)]; exact g2) r2 (fun p hp b b0 b1 => by rw [hc (2 * p + 2) (by omega), r32]; exact g1 p hp b b0 b1) (f1.congr r32) (by rw [hc 8 (by decide), r33]; exact g3)
  unfold RelI RInv
  rw [c7, c8, c9, c10, d2, d4, d33, d34]
  exact ⟨⟨hP, hh.2.1, f3, f4⟩, hPR, hh.1, hh.2.2, g4, g5⟩
theorem pswp_ne {w : mW} {p a : Nat} {m : Int} (h : a ≠ p + 1) : pswp w p m a = w a := by funext b; unfold pswp; rw [if_neg (fun q => h q.1)]
theorem rmir_ne {w : mW} {p a : Nat} {m : Int} (h : a ≠ 32) : rmir w p m a = w a := by funext b; unfold rmir; rw [if_neg (fun q => h q.1)]
theorem wmask_congr {f g : Nat → Bool} : ∀ n, (∀ k, k < n → f k = g k) → wmask f n = wmask g n
  | 0, _ => rfl
  | n + 1, h => by
    unfold wmask
    rw [wmask_congr n (fun k hk => h k (by omega)), h n (by omega)]
theorem ch_c {w : mW} (h : RelI w) : chF w = cR w := by
  obtain ⟨⟨f1, f2, f3, f4⟩, g1, g2, g3, g4, g5⟩ := h
  funext i
  unfold chF cR
  rw [g4]
  by_cases q : i < w 31 4
  · rw [if_pos q, if_pos q]
    by_cases q2 : 0 ≤ i ∧ i < 80
    · rw [if_pos q2, if_pos q2]; exact g5 i q2.1 q
    · rw [if_neg q2, if_neg q2]
  · rw [if_neg q, if_neg q]
theorem par_eq {w w1 : mW} (h : RelI w) (hu : Up w w1) : parP (cR w1) (w1 31 4) = parP (chF w) (w 9 1) := by
  rw [cR_congr (w := w) (u := w1) (by rw [hu 31 (by decide)]) (hu 34 (by decide)), ch_c h, h.2.2.2.2.1, hu 31 (by decide)]
theorem DOK.all {D : Int → Int} (h : DOK D) {b : Int} (b0 : 0 ≤ b) (b1 : b < 56) : (b % 7 = 0 → 0 ≤ D b ∧ D b < 3) ∧ (¬ b % 7 = 0 → -1 ≤ D b ∧ D b < 8) := by
  refine ⟨fun e => ?_, fun e => ?_⟩
  · have := (h (b / 7) (by omega) (by omega)).1
    rw [show b / 7 * 7 = b by omega] at this; exact this
  · have := (h (b / 7) (by omega) (by omega)).2 (b % 7 - 1) (by omega) (by omega)
    rw [show b / 7 * 7 + 1 + (b % 7 - 1) = b by omega] at this; exact this
theorem up_kind {w w1 : mW} {z1 : Int} {a b c : Int} (h1 : (¬ (0 ≤ a ∧ a < 3 ∧ 0 ≤ b ∧ b < 8 ∧ 0 ≤ c ∧ c < 3) ∧ z1 = -1000001 ∧ w1 = w) ∨ ((0 ≤ a ∧ a < 3 ∧ 0 ≤ b ∧ b < 8 ∧ 0 ≤ c ∧ c < 3) ∧ z1 = w (2 * a.toNat + 2) (b * 7) ∧ w1 = mup (recF w) (2 * a.toNat + 2) (b * 7) c)) : Up w w1 := by
  rcases h1 with ⟨_, _, x⟩ | ⟨v, _, x⟩
  · rw [x]; exact Up.refl w
  · intro a' ha'
    rw [x, mup_ne (by omega), recF_ne (by omega) (by omega)]
theorem q_kind {w w1 w2 : mW} {z1 z2 : Int} {a b c : Int} (h : RelT w) (h1 : (¬ (0 ≤ a ∧ a < 3 ∧ 0 ≤ b ∧ b < 8 ∧ 0 ≤ c ∧ c < 3) ∧ z1 = -1000001 ∧ w1 = w) ∨ ((0 ≤ a ∧ a < 3 ∧ 0 ≤ b ∧ b < 8 ∧ 0 ≤ c ∧ c < 3) ∧ z1 = w (2 * a.toNat + 2) (b * 7) ∧ w1 = mup (recF w) (2 * a.toNat + 2) (b * 7) c)) (h2 : (¬ (0 ≤ a ∧ a < 3 ∧ 0 ≤ b ∧ b < 8 ∧ 0 ≤ c ∧ c < 3) ∧ z2 = -1000001 ∧ w2 = w1) ∨ ((0 ≤ a ∧ a < 3 ∧ 0 ≤ b ∧ b < 8 ∧ 0 ≤ c ∧ c < 3) ∧ z2 = kdF (rv w1) (2 * a.toNat + 1) b ∧ w2 = mup (rrF w1) 32 (56 * a + 7 * b) c)) : z1 = z2 ∧ RelI w2 := by
  have hu := up_kind h1
  have hrv := rv_up hu
  obtain ⟨hI, hT⟩ := h
  rcases h1 with ⟨n1, e1, x1⟩ | ⟨v1, h1⟩
  · rcases h2 with ⟨n2, e2, x2⟩ | ⟨v2, h2⟩
    · rw [e1, e2, x2, x1]; exact ⟨rfl, hI⟩
    · exact absurd v2 n1
  · rcases h2 with ⟨n2, e2, x2⟩ | ⟨v2, h2⟩
    · exact absurd v1 n2
    · obtain ⟨e1, x1⟩ := h1
      obtain ⟨e2, x2⟩ := h2
      obtain ⟨p, rfl⟩ : ∃ p : Nat, a = (p : Int) := ⟨a.toNat, by omega⟩
      rw [Int.toNat_natCast] at e1 x1 e2
      have wa : ∀ a : Nat, a ≠ 2 * p + 2 → a ≠ 7 → a ≠ 8 → a < 31 → w2 a = w a := fun a k1 k2 k3 k4 => by rw [x2, mup_ne (by omega), rrF_ne (by omega) (by omega), x1, mup_ne k1, recF_ne k2 k3]
      have w32 : ∀ i : Int, w2 32 i = if i = 56 * (p : Int) + 7 * b then c else w 32 i := fun i => by
        rw [x2, mup_get, rrF_ne (by decide) (by decide), hu 32 (by decide)]
        by_cases he9 : i = 56 * (p : Int) + 7 * b
        · rw [if_pos ⟨rfl, he9⟩, if_pos he9]
        · rw [if_neg (fun q => he9 q.2), if_neg he9]
      have wp : ∀ y : Int, w2 (2 * p + 2) y = if y = b * 7 then c else w (2 * p + 2) y := fun y => by
        rw [x2, mup_ne (by omega), rrF_ne (by omega) (by omega), x1, mup_get]
        by_cases he9 : y = b * 7
        · rw [if_pos ⟨rfl, he9⟩, if_pos he9]
        · rw [if_neg (fun q => he9 q.2), if_neg he9, recF_ne (by omega) (by omega)]
      have hP2 : RPl w2 := fun i i0 i1 => by
        rw [w32]
        have := hI.1.1 i i0 i1
        by_cases he9 : i = 56 * (p : Int) + 7 * b
        · rw [if_pos he9]; omega
        · rw [if_neg he9]; exact this
      have hPR2 : PR w2 (w2 32) := fun q hq y y0 y1 => by
        have hh := hI.2.1 q hq y y0 y1
        by_cases eq : q = p
        · have eq' : p = q := eq.symm
          subst eq'
          rw [wp]
          by_cases he9 : y = b * 7
          · have e32 : w2 32 (56 * (p : Int) + y) = c := by rw [w32, if_pos (by omega)]
            unfold sh
            rw [if_pos he9, e32]
            (repeat' split) <;> omega
          · have e32 : w2 32 (56 * (p : Int) + y) = w 32 (56 * (p : Int) + y) := by rw [w32, if_neg (by omega)]
            unfold sh at hh ⊢
            rw [if_neg he9, e32]; exact hh
        · have e32 : w2 32 (56 * (q : Int) + y) = w 32 (56 * (q : Int) + y) := by rw [w32, if_neg (by omega)]
          unfold sh at hh ⊢
          rw [wa _ (by omega) (by omega) (by omega) (by omega), e32]; exact hh
      have hR2 : RelI w2 := RelI.chg (wc := w) (wr := w1) hI (fun _ _ => rfl) (by rw [hu 31 (by decide)]) (hu 32 (by decide)) (hu 33 (by decide)) (by rw [x2, mup_ne (by decide), rrF_ne (by decide) (by decide), x1, mup_ne (by omega)]) (by rw [x2, mup_ne (by decide), rrF_ne (by decide) (by decide), x1, mup_ne (by omega)]) (by rw [wa 9 (by omega) (by decide) (by decide) (by decide)]) (wa 10 (by omega) (by decide) (by decide) (by decide)) (by rw [x2, mup_ne (by decide)]) (by rw [x2, mup_ne (by decide), rrF_31 _ (by decide), hu 31 (by decide)]) (by rw [x2, mup_ne (by decide)]) (by rw [x2, mup_ne (by decide), rrF_ne (by decide) (by decide), hu 34 (by decide)]) hP2 hPR2
      refine ⟨?_, hR2⟩
      rw [e1, e2, hrv, hT p (by omega)]; rfl
theorem up_arrow {w w1 : mW} {z1 : Int} {a b c e : Int} (h1 : (¬ (0 ≤ a ∧ a < 3 ∧ 0 ≤ b ∧ b < 8 ∧ 0 ≤ c ∧ c < 6 ∧ 0 ≤ e ∧ e < 8) ∧ z1 = -1000001 ∧ w1 = w) ∨ ((0 ≤ a ∧ a < 3 ∧ 0 ≤ b ∧ b < 8 ∧ 0 ≤ c ∧ c < 6 ∧ 0 ≤ e ∧ e < 8) ∧ z1 = ((mpop (wmask (hasW w1 (2 * a.toNat + 1) b) 6) : Nat) : Int) ∧ w1 = mup (recF w) (2 * a.toNat + 2) (b * 7 + 1 + c) e)) : Up w w1 := by
  rcases h1 with ⟨_, _, x⟩ | ⟨v, _, x⟩
  · rw [x]; exact Up.refl w
  · intro a' ha'
    rw [x, mup_ne (by omega), recF_ne (by omega) (by omega)]
theorem q_arrow {w w1 w2 : mW} {z1 z2 : Int} {a b c e : Int} (h : RelT w) (h1 : (¬ (0 ≤ a ∧ a < 3 ∧ 0 ≤ b ∧ b < 8 ∧ 0 ≤ c ∧ c < 6 ∧ 0 ≤ e ∧ e < 8) ∧ z1 = -1000001 ∧ w1 = w) ∨ ((0 ≤ a ∧ a < 3 ∧ 0 ≤ b ∧ b < 8 ∧ 0 ≤ c ∧ c < 6 ∧ 0 ≤ e ∧ e < 8) ∧ z1 = ((mpop (wmask (hasW w1 (2 * a.toNat + 1) b) 6) : Nat) : Int) ∧ w1 = mup (recF w) (2 * a.toNat + 2) (b * 7 + 1 + c) e)) (h2 : (¬ (0 ≤ a ∧ a < 3 ∧ 0 ≤ b ∧ b < 8 ∧ 0 ≤ c ∧ c < 6 ∧ 0 ≤ e ∧ e < 8) ∧ z2 = -1000001 ∧ w2 = w1) ∨ ((0 ≤ a ∧ a < 3 ∧ 0 ≤ b ∧ b < 8 ∧ 0 ≤ c ∧ c < 6 ∧ 0 ≤ e ∧ e < 8) ∧ z2 = ((mpop (wmask (hasW (rv w2) (2 * a.toNat + 1) b) 6) : Nat) : Int) ∧ w2 = mup (rrF w1) 32 (56 * a + 7 * b + 1 + c) (e + 1))) : z1 = z2 ∧ RelI w2 := by
  have hu := up_arrow h1
  have hrv := rv_up hu
  obtain ⟨hI, hT⟩ := h
  rcases h1 with ⟨n1, e1, x1⟩ | ⟨v1, h1⟩
  · rcases h2 with ⟨n2, e2, x2⟩ | ⟨v2, h2⟩
    · rw [e1, e2, x2, x1]; exact ⟨rfl, hI⟩
    · exact absurd v2 n1
  · rcases h2 with ⟨n2, e2, x2⟩ | ⟨v2, h2⟩
    · exact absurd v1 n2
    · obtain ⟨e1, x1⟩ := h1
      obtain ⟨e2, x2⟩ := h2
      obtain ⟨p, rfl⟩ : ∃ p : Nat, a = (p : Int) := ⟨a.toNat, by omega⟩
      rw [Int.toNat_natCast] at e1 x1 e2
      have wa : ∀ a : Nat, a ≠ 2 * p + 2 → a ≠ 7 → a ≠ 8 → a < 31 → w2 a = w a := fun a k1 k2 k3 k4 => by rw [x2, mup_ne (by omega), rrF_ne (by omega) (by omega), x1, mup_ne k1, recF_ne k2 k3]
      have w32 : ∀ i : Int, w2 32 i = if i = 56 * (p : Int) + 7 * b + 1 + c then e + 1 else w 32 i := fun i => by
        rw [x2, mup_get, rrF_ne (by decide) (by decide), hu 32 (by decide)]
        by_cases he9 : i = 56 * (p : Int) + 7 * b + 1 + c
        · rw [if_pos ⟨rfl, he9⟩, if_pos he9]
        · rw [if_neg (fun q => he9 q.2), if_neg he9]
      have wp : ∀ y : Int, w2 (2 * p + 2) y = if y = b * 7 + 1 + c then e else w (2 * p + 2) y := fun y => by
        rw [x2, mup_ne (by omega), rrF_ne (by omega) (by omega), x1, mup_get]
        by_cases he9 : y = b * 7 + 1 + c
        · rw [if_pos ⟨rfl, he9⟩, if_pos he9]
        · rw [if_neg (fun q => he9 q.2), if_neg he9, recF_ne (by omega) (by omega)]
      have hP2 : RPl w2 := fun i i0 i1 => by
        rw [w32]
        have := hI.1.1 i i0 i1
        by_cases he9 : i = 56 * (p : Int) + 7 * b + 1 + c
        · rw [if_pos he9]; omega
        · rw [if_neg he9]; exact this
      have hPR2 : PR w2 (w2 32) := fun q hq y y0 y1 => by
        have hh := hI.2.1 q hq y y0 y1
        by_cases eq : q = p
        · have eq' : p = q := eq.symm
          subst eq'
          rw [wp]
          by_cases he9 : y = b * 7 + 1 + c
          · have e32 : w2 32 (56 * (p : Int) + y) = e + 1 := by rw [w32, if_pos (by omega)]
            unfold sh
            rw [if_pos he9, e32]
            (repeat' split) <;> omega
          · have e32 : w2 32 (56 * (p : Int) + y) = w 32 (56 * (p : Int) + y) := by rw [w32, if_neg (by omega)]
            unfold sh at hh ⊢
            rw [if_neg he9, e32]; exact hh
        · have e32 : w2 32 (56 * (q : Int) + y) = w 32 (56 * (q : Int) + y) := by rw [w32, if_neg (by omega)]
          unfold sh at hh ⊢
          rw [wa _ (by omega) (by omega) (by omega) (by omega), e32]; exact hh
      have hR2 : RelI w2 := RelI.chg (wc := w) (wr := w1) hI (fun _ _ => rfl) (by rw [hu 31 (by decide)]) (hu 32 (by decide)) (hu 33 (by decide)) (by rw [x2, mup_ne (by decide), rrF_ne (by decide) (by decide), x1, mup_ne (by omega)]) (by rw [x2, mup_ne (by decide), rrF_ne (by decide) (by decide), x1, mup_ne (by omega)]) (by rw [wa 9 (by omega) (by decide) (by decide) (by decide)]) (wa 10 (by omega) (by decide) (by decide) (by decide)) (by rw [x2, mup_ne (by decide)]) (by rw [x2, mup_ne (by decide), rrF_31 _ (by decide), hu 31 (by decide)]) (by rw [x2, mup_ne (by decide)]) (by rw [x2, mup_ne (by decide), rrF_ne (by decide) (by decide), hu 34 (by decide)]) hP2 hPR2
      refine ⟨?_, hR2⟩
      have ew : w2 (2 * p + 2) = w1 (2 * p + 2) := by rw [x2, mup_ne (by omega), rrF_ne (by omega) (by omega)]
      have em : wmask (hasW w1 (2 * p + 1) b) 6 = wmask (hasW (rv w2) (2 * p + 1) b) 6 := wmask_congr 6 (fun k hk => by
        show decide (¬ w1 (2 * p + 2) (b * 7 + 1 + (k : Int)) = -1) = decide (¬ rv w2 (2 * p + 2) (b * 7 + 1 + (k : Int)) = -1)
        rw [← ew, hPR2.rv (by omega) (by omega) (by omega)])
      rw [e1, e2, em]
theorem up_erase {w w1 : mW} {z1 : Int} {a b c : Int} (h1 : (¬ (0 ≤ a ∧ a < 3 ∧ 0 ≤ b ∧ b < 8 ∧ 0 ≤ c ∧ c < 6) ∧ z1 = -1000001 ∧ w1 = w) ∨ ((0 ≤ a ∧ a < 3 ∧ 0 ≤ b ∧ b < 8 ∧ 0 ≤ c ∧ c < 6) ∧ ((w (2 * a.toNat + 2) (b * 7 + 1 + c) = -1 ∧ z1 = -1000002 ∧ w1 = w) ∨ (¬ w (2 * a.toNat + 2) (b * 7 + 1 + c) = -1 ∧ z1 = w (2 * a.toNat + 2) (b * 7 + 1 + c) ∧ w1 = mup (recF w) (2 * a.toNat + 2) (b * 7 + 1 + c) (-1))))) : Up w w1 := by
  rcases h1 with ⟨_, _, x⟩ | ⟨v, ⟨_, _, x⟩ | ⟨_, _, x⟩⟩
  · rw [x]; exact Up.refl w
  · rw [x]; exact Up.refl w
  · intro a' ha'
    rw [x, mup_ne (by omega), recF_ne (by omega) (by omega)]
theorem q_erase {w w1 w2 : mW} {z1 z2 : Int} {a b c : Int} (h : RelT w) (h1 : (¬ (0 ≤ a ∧ a < 3 ∧ 0 ≤ b ∧ b < 8 ∧ 0 ≤ c ∧ c < 6) ∧ z1 = -1000001 ∧ w1 = w) ∨ ((0 ≤ a ∧ a < 3 ∧ 0 ≤ b ∧ b < 8 ∧ 0 ≤ c ∧ c < 6) ∧ ((w (2 * a.toNat + 2) (b * 7 + 1 + c) = -1 ∧ z1 = -1000002 ∧ w1 = w) ∨ (¬ w (2 * a.toNat + 2) (b * 7 + 1 + c) = -1 ∧ z1 = w (2 * a.toNat + 2) (b * 7 + 1 + c) ∧ w1 = mup (recF w) (2 * a.toNat + 2) (b * 7 + 1 + c) (-1))))) (h2 : (¬ (0 ≤ a ∧ a < 3 ∧ 0 ≤ b ∧ b < 8 ∧ 0 ≤ c ∧ c < 6) ∧ z2 = -1000001 ∧ w2 = w1) ∨ ((0 ≤ a ∧ a < 3 ∧ 0 ≤ b ∧ b < 8 ∧ 0 ≤ c ∧ c < 6) ∧ ((tgF (rv w1) (2 * a.toNat + 1) b c = -1 ∧ z2 = -1000002 ∧ w2 = w1) ∨ (¬ tgF (rv w1) (2 * a.toNat + 1) b c = -1 ∧ z2 = tgF (rv w1) (2 * a.toNat + 1) b c ∧ w2 = mup (rrF w1) 32 (56 * a + 7 * b + 1 + c) 0)))) : z1 = z2 ∧ RelI w2 := by
  have hu := up_erase h1
  have hrv := rv_up hu
  obtain ⟨hI, hT⟩ := h
  rcases h1 with ⟨n1, e1, x1⟩ | ⟨v1, h1⟩
  · rcases h2 with ⟨n2, e2, x2⟩ | ⟨v2, h2⟩
    · rw [e1, e2, x2, x1]; exact ⟨rfl, hI⟩
    · exact absurd v2 n1
  · rcases h2 with ⟨n2, e2, x2⟩ | ⟨v2, h2⟩
    · exact absurd v1 n2
    · obtain ⟨p, rfl⟩ : ∃ p : Nat, a = (p : Int) := ⟨a.toNat, by omega⟩
      rw [Int.toNat_natCast] at h1 h2
      have et : tgF (rv w1) (2 * p + 1) b c = w (2 * p + 2) (b * 7 + 1 + c) := by rw [hrv, hT p (by omega)]; rfl
      rw [et] at h2
      rcases h1 with ⟨q1, e1, x1⟩ | ⟨q1, e1, x1⟩
      · rcases h2 with ⟨q2, e2, x2⟩ | ⟨q2, e2, x2⟩
        · rw [e1, e2, x2, x1]; exact ⟨rfl, hI⟩
        · exact absurd q1 q2
      · rcases h2 with ⟨q2, e2, x2⟩ | ⟨q2, e2, x2⟩
        · exact absurd q2 q1
        · have wa : ∀ a : Nat, a ≠ 2 * p + 2 → a ≠ 7 → a ≠ 8 → a < 31 → w2 a = w a := fun a k1 k2 k3 k4 => by rw [x2, mup_ne (by omega), rrF_ne (by omega) (by omega), x1, mup_ne k1, recF_ne k2 k3]
          have w32 : ∀ i : Int, w2 32 i = if i = 56 * (p : Int) + 7 * b + 1 + c then 0 else w 32 i := fun i => by
            rw [x2, mup_get, rrF_ne (by decide) (by decide), hu 32 (by decide)]
            by_cases he9 : i = 56 * (p : Int) + 7 * b + 1 + c
            · rw [if_pos ⟨rfl, he9⟩, if_pos he9]
            · rw [if_neg (fun q => he9 q.2), if_neg he9]
          have wp : ∀ y : Int, w2 (2 * p + 2) y = if y = b * 7 + 1 + c then (-1) else w (2 * p + 2) y := fun y => by
            rw [x2, mup_ne (by omega), rrF_ne (by omega) (by omega), x1, mup_get]
            by_cases he9 : y = b * 7 + 1 + c
            · rw [if_pos ⟨rfl, he9⟩, if_pos he9]
            · rw [if_neg (fun q => he9 q.2), if_neg he9, recF_ne (by omega) (by omega)]
          have hP2 : RPl w2 := fun i i0 i1 => by
            rw [w32]
            have := hI.1.1 i i0 i1
            by_cases he9 : i = 56 * (p : Int) + 7 * b + 1 + c
            · rw [if_pos he9]; omega
            · rw [if_neg he9]; exact this
          have hPR2 : PR w2 (w2 32) := fun q hq y y0 y1 => by
            have hh := hI.2.1 q hq y y0 y1
            by_cases eq : q = p
            · have eq' : p = q := eq.symm
              subst eq'
              rw [wp]
              by_cases he9 : y = b * 7 + 1 + c
              · have e32 : w2 32 (56 * (p : Int) + y) = 0 := by rw [w32, if_pos (by omega)]
                unfold sh
                rw [if_pos he9, e32]
                (repeat' split) <;> omega
              · have e32 : w2 32 (56 * (p : Int) + y) = w 32 (56 * (p : Int) + y) := by rw [w32, if_neg (by omega)]
                unfold sh at hh ⊢
                rw [if_neg he9, e32]; exact hh
            · have e32 : w2 32 (56 * (q : Int) + y) = w 32 (56 * (q : Int) + y) := by rw [w32, if_neg (by omega)]
              unfold sh at hh ⊢
              rw [wa _ (by omega) (by omega) (by omega) (by omega), e32]; exact hh
          have hR2 : RelI w2 := RelI.chg (wc := w) (wr := w1) hI (fun _ _ => rfl) (by rw [hu 31 (by decide)]) (hu 32 (by decide)) (hu 33 (by decide)) (by rw [x2, mup_ne (by decide), rrF_ne (by decide) (by decide), x1, mup_ne (by omega)]) (by rw [x2, mup_ne (by decide), rrF_ne (by decide) (by decide), x1, mup_ne (by omega)]) (by rw [wa 9 (by omega) (by decide) (by decide) (by decide)]) (wa 10 (by omega) (by decide) (by decide) (by decide)) (by rw [x2, mup_ne (by decide)]) (by rw [x2, mup_ne (by decide), rrF_31 _ (by decide), hu 31 (by decide)]) (by rw [x2, mup_ne (by decide)]) (by rw [x2, mup_ne (by decide), rrF_ne (by decide) (by decide), hu 34 (by decide)]) hP2 hPR2
          exact ⟨by rw [e1, e2], hR2⟩
theorem up_copy {w w1 : mW} {z1 : Int} {a b : Int} (h1 : (¬ (0 ≤ a ∧ a < 3 ∧ 0 ≤ b ∧ b < 3 ∧ ¬ a = b) ∧ z1 = -1000001 ∧ w1 = w) ∨ ((0 ≤ a ∧ a < 3 ∧ 0 ≤ b ∧ b < 3 ∧ ¬ a = b) ∧ z1 = ((cnt (fun s => decide (¬ w1 (2 * b.toNat + 2) ((s : Int) * 7) = 0)) 8 : Nat) : Int) ∧ w1 = mcopy (recF w) (2 * a.toNat + 2) (2 * b.toNat + 2) 0 0 56)) : Up w w1 := by
  rcases h1 with ⟨_, _, x⟩ | ⟨v, _, x⟩
  · rw [x]; exact Up.refl w
  · intro a' ha'
    rw [x, mcopy_ne (by omega), recF_ne (by omega) (by omega)]
theorem q_copy {w w1 w2 : mW} {z1 z2 : Int} {a b : Int} (h : RelT w) (h1 : (¬ (0 ≤ a ∧ a < 3 ∧ 0 ≤ b ∧ b < 3 ∧ ¬ a = b) ∧ z1 = -1000001 ∧ w1 = w) ∨ ((0 ≤ a ∧ a < 3 ∧ 0 ≤ b ∧ b < 3 ∧ ¬ a = b) ∧ z1 = ((cnt (fun s => decide (¬ w1 (2 * b.toNat + 2) ((s : Int) * 7) = 0)) 8 : Nat) : Int) ∧ w1 = mcopy (recF w) (2 * a.toNat + 2) (2 * b.toNat + 2) 0 0 56)) (h2 : (¬ (0 ≤ a ∧ a < 3 ∧ 0 ≤ b ∧ b < 3 ∧ ¬ a = b) ∧ z2 = -1000001 ∧ w2 = w1) ∨ ((0 ≤ a ∧ a < 3 ∧ 0 ≤ b ∧ b < 3 ∧ ¬ a = b) ∧ z2 = ((cnt (fun s => decide (¬ kdF (rv w2) (2 * a.toNat + 1) (s : Int) = 0)) 8 : Nat) : Int) ∧ w2 = mcopy (rrF w1) 32 32 (56 * a) (56 * b) 56)) : z1 = z2 ∧ RelI w2 := by
  have hu := up_copy h1
  have hrv := rv_up hu
  obtain ⟨hI, hT⟩ := h
  rcases h1 with ⟨n1, e1, x1⟩ | ⟨v1, h1⟩
  · rcases h2 with ⟨n2, e2, x2⟩ | ⟨v2, h2⟩
    · rw [e1, e2, x2, x1]; exact ⟨rfl, hI⟩
    · exact absurd v2 n1
  · rcases h2 with ⟨n2, e2, x2⟩ | ⟨v2, h2⟩
    · exact absurd v1 n2
    · obtain ⟨e1, x1⟩ := h1
      obtain ⟨e2, x2⟩ := h2
      obtain ⟨p, rfl⟩ : ∃ p : Nat, a = (p : Int) := ⟨a.toNat, by omega⟩
      obtain ⟨q, rfl⟩ : ∃ q : Nat, b = (q : Int) := ⟨b.toNat, by omega⟩
      rw [Int.toNat_natCast] at e1 e2
      rw [Int.toNat_natCast, Int.toNat_natCast] at x1
      have wa : ∀ a : Nat, a ≠ 2 * q + 2 → a ≠ 7 → a ≠ 8 → a < 31 → w2 a = w a := fun a k1 k2 k3 k4 => by rw [x2, mcopy_ne (by omega), rrF_ne (by omega) (by omega), x1, mcopy_ne k1, recF_ne k2 k3]
      have w32 : ∀ i : Int, w2 32 i = if 56 * (q : Int) ≤ i ∧ i < 56 * (q : Int) + 56 then w 32 (56 * (p : Int) + (i - 56 * (q : Int))) else w 32 i := fun i => by
        rw [x2]
        unfold mcopy
        rw [rrF_ne (by decide) (by decide), hu 32 (by decide)]
        by_cases e : 56 * (q : Int) ≤ i ∧ i < 56 * (q : Int) + 56
        · rw [if_pos ⟨rfl, e⟩, if_pos e]
        · rw [if_neg (fun z => e z.2), if_neg e]
      have wp : ∀ y : Int, 0 ≤ y → y < 56 → w2 (2 * q + 2) y = w (2 * p + 2) y := fun y y0 y1 => by
        rw [x2, mcopy_ne (by omega), rrF_ne (by omega) (by omega), x1]
        unfold mcopy
        rw [if_pos (by omega), recF_ne (by omega) (by omega), show (0 : Int) + (y - 0) = y by omega]
      have hP2 : RPl w2 := fun i i0 i1 => by
        rw [w32]
        by_cases e : 56 * (q : Int) ≤ i ∧ i < 56 * (q : Int) + 56
        · rw [if_pos e]
          have := hI.1.1 (56 * (p : Int) + (i - 56 * (q : Int))) (by omega) (by omega)
          exact ⟨fun z => this.1 (by omega), fun z => this.2 (by omega)⟩
        · rw [if_neg e]; exact hI.1.1 i i0 i1
      have hPR2 : PR w2 (w2 32) := fun s hs y y0 y1 => by
        by_cases es : s = q
        · have es' : q = s := es.symm
          subst es'
          have e32 : w2 32 (56 * (q : Int) + y) = w 32 (56 * (p : Int) + y) := by rw [w32, if_pos (by omega), show 56 * (p : Int) + (56 * (q : Int) + y - 56 * (q : Int)) = 56 * (p : Int) + y by omega]
          have hh := hI.2.1 p (by omega) y y0 y1
          unfold sh at hh ⊢
          rw [wp y y0 y1, e32, hh]
          by_cases z : y % 7 = 0
          · rw [if_pos (show (56 * (p : Int) + y) % 7 = 0 by omega), if_pos (show (56 * (q : Int) + y) % 7 = 0 by omega)]
          · rw [if_neg (show ¬ (56 * (p : Int) + y) % 7 = 0 by omega), if_neg (show ¬ (56 * (q : Int) + y) % 7 = 0 by omega)]
        · have e32 : w2 32 (56 * (s : Int) + y) = w 32 (56 * (s : Int) + y) := by rw [w32, if_neg (by omega)]
          have hh := hI.2.1 s hs y y0 y1
          unfold sh at hh ⊢
          rw [wa _ (by omega) (by omega) (by omega) (by omega), e32]; exact hh
      have hR2 : RelI w2 := RelI.chg (wc := w) (wr := w1) hI (fun _ _ => rfl) (by rw [hu 31 (by decide)]) (hu 32 (by decide)) (hu 33 (by decide)) (by rw [x2, mcopy_ne (by decide), rrF_ne (by decide) (by decide), x1, mcopy_ne (by omega)]) (by rw [x2, mcopy_ne (by decide), rrF_ne (by decide) (by decide), x1, mcopy_ne (by omega)]) (by rw [wa 9 (by omega) (by decide) (by decide) (by decide)]) (wa 10 (by omega) (by decide) (by decide) (by decide)) (by rw [x2, mcopy_ne (by decide)]) (by rw [x2, mcopy_ne (by decide), rrF_31 _ (by decide), hu 31 (by decide)]) (by rw [x2, mcopy_ne (by decide)]) (by rw [x2, mcopy_ne (by decide), rrF_ne (by decide) (by decide), hu 34 (by decide)]) hP2 hPR2
      refine ⟨?_, hR2⟩
      rw [e1, e2]
      congr 1
      refine cnt_congr (fun s hs => ?_)
      have ew : w1 (2 * q + 2) ((s : Int) * 7) = w2 (2 * q + 2) ((s : Int) * 7) := by rw [x2, mcopy_ne (by omega), rrF_ne (by omega) (by omega)]
      have e3 : kdF (rv w2) (2 * p + 1) (s : Int) = w1 (2 * q + 2) ((s : Int) * 7) := by
        have h3 : kdF (rv w2) (2 * p + 1) (s : Int) = rv w2 (2 * p + 2) ((s : Int) * 7) := rfl
        rw [h3, ew, ← hPR2.rv (by omega) (by omega) (by omega), wp _ (by omega) (by omega), wa _ (by omega) (by omega) (by omega) (by omega)]
      show decide (¬ w1 (2 * q + 2) ((s : Int) * 7) = 0) = decide (¬ kdF (rv w2) (2 * p + 1) (s : Int) = 0)
      rw [e3]
theorem up_mirror {w w1 : mW} {z1 : Int} {a : Int} (h1 : (¬ (0 ≤ a ∧ a < 3) ∧ z1 = -1000001 ∧ w1 = w) ∨ ((0 ≤ a ∧ a < 3) ∧ z1 = ((cnt (fun s => decide (¬ w1 (2 * a.toNat + 2) ((s : Int) * 7) = 0)) 8 : Nat) : Int) ∧ w1 = pswp (recF w) (2 * a.toNat + 1) 56)) : Up w w1 := by
  rcases h1 with ⟨_, _, x⟩ | ⟨v, _, x⟩
  · rw [x]; exact Up.refl w
  · intro a' ha'
    rw [x, pswp_ne (by omega), recF_ne (by omega) (by omega)]
theorem q_mirror {w w1 w2 : mW} {z1 z2 : Int} {a : Int} (h : RelT w) (h1 : (¬ (0 ≤ a ∧ a < 3) ∧ z1 = -1000001 ∧ w1 = w) ∨ ((0 ≤ a ∧ a < 3) ∧ z1 = ((cnt (fun s => decide (¬ w1 (2 * a.toNat + 2) ((s : Int) * 7) = 0)) 8 : Nat) : Int) ∧ w1 = pswp (recF w) (2 * a.toNat + 1) 56)) (h2 : (¬ (0 ≤ a ∧ a < 3) ∧ z2 = -1000001 ∧ w2 = w1) ∨ ((0 ≤ a ∧ a < 3) ∧ z2 = ((cnt (fun s => decide (¬ kdF (rv w2) (2 * a.toNat + 1) (s : Int) = 0)) 8 : Nat) : Int) ∧ w2 = rmir (rrF w1) a.toNat 56)) : z1 = z2 ∧ RelI w2 := by
  have hu := up_mirror h1
  have hrv := rv_up hu
  obtain ⟨hI, hT⟩ := h
  rcases h1 with ⟨n1, e1, x1⟩ | ⟨v1, h1⟩
  · rcases h2 with ⟨n2, e2, x2⟩ | ⟨v2, h2⟩
    · rw [e1, e2, x2, x1]; exact ⟨rfl, hI⟩
    · exact absurd v2 n1
  · rcases h2 with ⟨n2, e2, x2⟩ | ⟨v2, h2⟩
    · exact absurd v1 n2
    · obtain ⟨e1, x1⟩ := h1
      obtain ⟨e2, x2⟩ := h2
      obtain ⟨p, rfl⟩ : ∃ p : Nat, a = (p : Int) := ⟨a.toNat, by omega⟩
      rw [Int.toNat_natCast] at e1 x1 e2 x2
      have wa : ∀ a : Nat, a ≠ 2 * p + 2 → a ≠ 7 → a ≠ 8 → a < 31 → w2 a = w a := fun a k1 k2 k3 k4 => by rw [x2, rmir_ne (by omega), rrF_ne (by omega) (by omega), x1, pswp_ne k1, recF_ne k2 k3]
      have w32 : ∀ i : Int, w2 32 i = if 56 * (p : Int) ≤ i ∧ i < 56 * (p : Int) + 56 ∧ i % 7 = 0 then swp (w 32 i) else w 32 i := fun i => by
        rw [x2]
        unfold rmir
        rw [rrF_ne (by decide) (by decide), hu 32 (by decide)]
        by_cases e : 56 * (p : Int) ≤ i ∧ i < 56 * (p : Int) + 56 ∧ i % 7 = 0
        · rw [if_pos ⟨rfl, e⟩, if_pos e]
        · rw [if_neg (fun z => e z.2), if_neg e]
      have wp : ∀ y : Int, w2 (2 * p + 2) y = if 0 ≤ y ∧ y < 56 ∧ y % 7 = 0 then swp (w (2 * p + 2) y) else w (2 * p + 2) y := fun y => by
        rw [x2, rmir_ne (by omega), rrF_ne (by omega) (by omega), x1]
        unfold pswp
        rw [recF_ne (by omega) (by omega)]
        by_cases e : 0 ≤ y ∧ y < 56 ∧ y % 7 = 0
        · rw [if_pos ⟨rfl, e⟩, if_pos e]
        · rw [if_neg (fun z => e z.2), if_neg e]
      have hP2 : RPl w2 := fun i i0 i1 => by
        rw [w32]
        have := hI.1.1 i i0 i1
        by_cases e : 56 * (p : Int) ≤ i ∧ i < 56 * (p : Int) + 56 ∧ i % 7 = 0
        · rw [if_pos e]
          refine ⟨fun _ => ?_, fun z => absurd e.2.2 z⟩
          unfold swp; (repeat' split) <;> omega
        · rw [if_neg e]; exact this
      have hPR2 : PR w2 (w2 32) := fun s hs y y0 y1 => by
        have hh := hI.2.1 s hs y y0 y1
        by_cases es : s = p
        · have es' : p = s := es.symm
          subst es'
          rw [wp]
          by_cases z : y % 7 = 0
          · have e32 : w2 32 (56 * (p : Int) + y) = swp (w 32 (56 * (p : Int) + y)) := by rw [w32, if_pos (by omega)]
            unfold sh at hh ⊢
            rw [if_pos (show (56 * (p : Int) + y) % 7 = 0 by omega)] at hh
            rw [if_pos (show 0 ≤ y ∧ y < 56 ∧ y % 7 = 0 by omega), if_pos (show (56 * (p : Int) + y) % 7 = 0 by omega), e32, hh]
          · have e32 : w2 32 (56 * (p : Int) + y) = w 32 (56 * (p : Int) + y) := by rw [w32, if_neg (by omega)]
            unfold sh at hh ⊢
            rw [if_neg (show ¬ (0 ≤ y ∧ y < 56 ∧ y % 7 = 0) by omega), e32]; exact hh
        · have e32 : w2 32 (56 * (s : Int) + y) = w 32 (56 * (s : Int) + y) := by rw [w32, if_neg (by omega)]
          unfold sh at hh ⊢
          rw [wa _ (by omega) (by omega) (by omega) (by omega), e32]; exact hh
      have hR2 : RelI w2 := RelI.chg (wc := w) (wr := w1) hI (fun _ _ => rfl) (by rw [hu 31 (by decide)]) (hu 32 (by decide)) (hu 33 (by decide)) (by rw [x2, rmir_ne (by decide), rrF_ne (by decide) (by decide), x1, pswp_ne (by omega)]) (by rw [x2, rmir_ne (by decide), rrF_ne (by decide) (by decide), x1, pswp_ne (by omega)]) (by rw [wa 9 (by omega) (by decide) (by decide) (by decide)]) (wa 10 (by omega) (by decide) (by decide) (by decide)) (by rw [x2, rmir_ne (by decide)]) (by rw [x2, rmir_ne (by decide), rrF_31 _ (by decide), hu 31 (by decide)]) (by rw [x2, rmir_ne (by decide)]) (by rw [x2, rmir_ne (by decide), rrF_ne (by decide) (by decide), hu 34 (by decide)]) hP2 hPR2
      refine ⟨?_, hR2⟩
      rw [e1, e2]
      congr 1
      refine cnt_congr (fun s hs => ?_)
      have ew : w1 (2 * p + 2) ((s : Int) * 7) = w2 (2 * p + 2) ((s : Int) * 7) := by rw [x2, rmir_ne (by omega), rrF_ne (by omega) (by omega)]
      have e3 : kdF (rv w2) (2 * p + 1) (s : Int) = w1 (2 * p + 2) ((s : Int) * 7) := by
        have h3 : kdF (rv w2) (2 * p + 1) (s : Int) = rv w2 (2 * p + 2) ((s : Int) * 7) := rfl
        rw [h3, ew, ← hPR2.rv (by omega) (by omega) (by omega)]
      show decide (¬ w1 (2 * p + 2) ((s : Int) * 7) = 0) = decide (¬ kdF (rv w2) (2 * p + 1) (s : Int) = 0)
      rw [e3]
theorem up_undo {w w1 : mW} {z1 : Int} (h1 : (w 7 1 = 0 ∧ z1 = -1000002 ∧ w1 = w) ∨ (¬ w 7 1 = 0 ∧ z1 = w1 7 1 ∧ w1 = resF w)) : Up w w1 := by
  rcases h1 with ⟨_, _, x⟩ | ⟨v, _, x⟩
  · rw [x]; exact Up.refl w
  · intro a' ha'
    rw [x]; unfold resF
    rw [mcopy_ne (by omega), mcopy_ne (by omega), mcopy_ne (by omega), mup_ne (by omega)]
theorem q_undo {w w1 w2 : mW} {z1 z2 : Int} (h : RelT w) (h1 : (w 7 1 = 0 ∧ z1 = -1000002 ∧ w1 = w) ∨ (¬ w 7 1 = 0 ∧ z1 = w1 7 1 ∧ w1 = resF w)) (h2 : (w1 31 2 = 0 ∧ z2 = -1000002 ∧ w2 = w1) ∨ (¬ w1 31 2 = 0 ∧ z2 = w2 31 2 ∧ w2 = ruF w1)) : z1 = z2 ∧ RelI w2 := by
  have hu := up_undo h1
  have hrv := rv_up hu
  obtain ⟨hI, hT⟩ := h
  have e72 : w 7 1 = w1 31 2 := by rw [hI.2.2.1, hu 31 (by decide)]
  rcases h1 with ⟨n1, e1, x1⟩ | ⟨v1, e1, x1⟩
  · rcases h2 with ⟨n2, e2, x2⟩ | ⟨v2, e2, x2⟩
    · rw [e1, e2, x2, x1]; exact ⟨rfl, hI⟩
    · omega
  · rcases h2 with ⟨n2, e2, x2⟩ | ⟨v2, e2, x2⟩
    · omega
    · obtain ⟨⟨f1, f2, f3, f4⟩, g1, g2, g3, g4, g5⟩ := hI
      generalize hh : w 31 2 = hs at *
      have h12 : w1 31 2 = hs := by rw [hu 31 (by decide)]; exact hh
      have y7 : w1 7 1 = hs - 1 := by rw [x1]; unfold resF; rw [mcopy_ne (by decide), mcopy_ne (by decide), mcopy_ne (by decide), mup_at]; omega
      have y2 : w2 31 2 = hs - 1 := by rw [x2]; unfold ruF; rw [mcopy_ne (by decide), mup_at]; omega
      have wa : ∀ a : Nat, a ≠ 2 → a ≠ 4 → a ≠ 6 → a ≠ 7 → a ≠ 31 → a ≠ 32 → w2 a = w a := fun a k1 k2 k3 k4 k5 k6 => by
        rw [x2]; unfold ruF
        rw [mcopy_ne k6, mup_ne k5, x1]; unfold resF
        rw [mcopy_ne k3, mcopy_ne k2, mcopy_ne k1, mup_ne k4]
      have w27 : w2 7 1 = hs - 1 := by rw [x2]; unfold ruF; rw [mcopy_ne (by decide), mup_ne (by decide)]; exact y7
      have w24 : w2 31 4 = w 31 4 := by rw [x2]; unfold ruF; rw [mcopy_ne (by decide), mup_get, if_neg (by omega), hu 31 (by decide)]
      have w32 : ∀ i : Int, 0 ≤ i → i < 168 → w2 32 i = w 33 (168 * (hs - 1) + i) := fun i i0 i1 => by
        rw [x2]; unfold ruF mcopy
        rw [if_pos (by omega), mup_ne (by decide), hu 33 (by decide), h12, show i - 0 = i by omega]
      have wp : ∀ p : Nat, p < 3 → ∀ b : Int, 0 ≤ b → b < 56 → w2 (2 * p + 2) b = w 8 (168 * (hs - 1) + (56 * (p : Int) + b)) := fun p hp b b0 b1 => by
        rw [x2]; unfold ruF
        rw [mcopy_ne (by omega), mup_ne (by omega), x1]; unfold resF
        rw [g2]
        rcases (show p = 0 ∨ p = 1 ∨ p = 2 by omega) with rfl | rfl | rfl
        · rw [mcopy_ne (by decide), mcopy_ne (by decide)]; unfold mcopy
          rw [if_pos (by omega), mup_ne (by decide)]; congr 1; omega
        · rw [mcopy_ne (by decide)]
          have e : mcopy (mcopy (mup w 7 1 (hs - 1)) 8 2 ((hs - 1) * 168) 0 56) 8 4 ((hs - 1) * 168 + 56) 0 56 4 b = mcopy (mup w 7 1 (hs - 1)) 8 2 ((hs - 1) * 168) 0 56 8 ((hs - 1) * 168 + 56 + (b - 0)) := if_pos (by omega)
          show mcopy (mcopy (mup w 7 1 (hs - 1)) 8 2 ((hs - 1) * 168) 0 56) 8 4 ((hs - 1) * 168 + 56) 0 56 4 b = _
          rw [e, mcopy_ne (by decide), mup_ne (by decide)]; congr 1; omega
        · have e : mcopy (mcopy (mcopy (mup w 7 1 (hs - 1)) 8 2 ((hs - 1) * 168) 0 56) 8 4 ((hs - 1) * 168 + 56) 0 56) 8 6 ((hs - 1) * 168 + 112) 0 56 6 b = mcopy (mcopy (mup w 7 1 (hs - 1)) 8 2 ((hs - 1) * 168) 0 56) 8 4 ((hs - 1) * 168 + 56) 0 56 8 ((hs - 1) * 168 + 112 + (b - 0)) := if_pos (by omega)
          show mcopy (mcopy (mcopy (mup w 7 1 (hs - 1)) 8 2 ((hs - 1) * 168) 0 56) 8 4 ((hs - 1) * 168 + 56) 0 56) 8 6 ((hs - 1) * 168 + 112) 0 56 6 b = _
          rw [e, mcopy_ne (by decide), mcopy_ne (by decide), mup_ne (by decide)]; congr 1; omega
      refine ⟨by rw [e1, e2, y7, y2], ⟨⟨fun i i0 i1 => ?_, by omega, by rw [w24]; exact f3, by rw [w24, wa 34 (by decide) (by decide) (by decide) (by decide) (by decide) (by decide)]; exact f4⟩, fun p hp b b0 b1 => ?_, by rw [w27, y2], fun i i0 i1 => ?_, by rw [w24, wa 9 (by decide) (by decide) (by decide) (by decide) (by decide) (by decide)]; exact g4, by rw [w24, wa 10 (by decide) (by decide) (by decide) (by decide) (by decide) (by decide), wa 34 (by decide) (by decide) (by decide) (by decide) (by decide) (by decide)]; exact g5⟩⟩
      · rw [w32 i i0 i1]
        have hx : Rg (w 33) (168 * (hs - 1) + i) := (g3 (168 * (hs - 1) + i) (by omega) (by omega)).2
        exact ⟨fun e => hx.1 (by omega), fun e => hx.2 (by omega)⟩
      · rw [wp p hp b b0 b1]
        have hx := (g3 (168 * (hs - 1) + (56 * (p : Int) + b)) (by omega) (by omega)).1
        rw [hx]
        unfold sh
        rw [w32 (56 * (p : Int) + b) (by omega) (by omega)]
        by_cases e : (56 * (p : Int) + b) % 7 = 0
        · rw [if_pos e, if_pos (by omega)]
        · rw [if_neg e, if_neg (by omega)]
      · rw [wa 8 (by decide) (by decide) (by decide) (by decide) (by decide) (by decide), wa 33 (by decide) (by decide) (by decide) (by decide) (by decide) (by decide)]
        exact g3 i i0 (by omega)
theorem up_type {w w1 : mW} {z1 : Int} {z0 : Int} (h1 : (¬ (32 ≤ z0 ∧ z0 ≤ 126) ∧ z1 = -1000001 ∧ w1 = w) ∨ ((32 ≤ z0 ∧ z0 ≤ 126) ∧ ((80 ≤ w 9 1 ∧ z1 = -1000003 ∧ w1 = w) ∨ (¬ 80 ≤ w 9 1 ∧ z1 = w 9 1 + 1 ∧ w1 = mup (mup w 10 (w 9 1) z0) 9 1 (w 9 1 + 1))))) : Up w w1 := by
  rcases h1 with ⟨_, _, x⟩ | ⟨v, ⟨_, _, x⟩ | ⟨_, _, x⟩⟩
  · rw [x]; exact Up.refl w
  · rw [x]; exact Up.refl w
  · intro a' ha'
    rw [x, mup_ne (by omega), mup_ne (by omega)]
theorem q_type {w w1 w2 : mW} {z1 z2 : Int} {z0 : Int} (h : RelT w) (h1 : (¬ (32 ≤ z0 ∧ z0 ≤ 126) ∧ z1 = -1000001 ∧ w1 = w) ∨ ((32 ≤ z0 ∧ z0 ≤ 126) ∧ ((80 ≤ w 9 1 ∧ z1 = -1000003 ∧ w1 = w) ∨ (¬ 80 ≤ w 9 1 ∧ z1 = w 9 1 + 1 ∧ w1 = mup (mup w 10 (w 9 1) z0) 9 1 (w 9 1 + 1))))) (h2 : (¬ (32 ≤ z0 ∧ z0 ≤ 126) ∧ z2 = -1000001 ∧ w2 = w1) ∨ ((32 ≤ z0 ∧ z0 ≤ 126) ∧ ((80 ≤ w1 31 4 ∧ z2 = -1000003 ∧ w2 = w1) ∨ (¬ 80 ≤ w1 31 4 ∧ z2 = w1 31 4 + 1 ∧ w2 = mup (mup w1 34 (w1 31 4) z0) 31 4 (w1 31 4 + 1))))) : z1 = z2 ∧ RelI w2 := by
  have hu := up_type h1
  have hrv := rv_up hu
  obtain ⟨hI, hT⟩ := h
  rcases h1 with ⟨n1, e1, x1⟩ | ⟨v1, h1⟩
  · rcases h2 with ⟨n2, e2, x2⟩ | ⟨v2, h2⟩
    · rw [e1, e2, x2, x1]; exact ⟨rfl, hI⟩
    · exact absurd v2 n1
  · rcases h2 with ⟨n2, e2, x2⟩ | ⟨v2, h2⟩
    · exact absurd v1 n2
    · have e94 : w 9 1 = w1 31 4 := by rw [hI.2.2.2.2.1, hu 31 (by decide)]
      rcases h1 with ⟨q1, e1, x1⟩ | ⟨q1, e1, x1⟩
      · rcases h2 with ⟨q2, e2, x2⟩ | ⟨q2, e2, x2⟩
        · rw [e1, e2, x2, x1]; exact ⟨rfl, hI⟩
        · omega
      · rcases h2 with ⟨q2, e2, x2⟩ | ⟨q2, e2, x2⟩
        · omega
        · obtain ⟨⟨f1, f2, f3, f4⟩, g1, g2, g3, g4, g5⟩ := hI
          have u31 : w1 31 = w 31 := hu 31 (by decide)
          have wa : ∀ a : Nat, a ≠ 9 → a ≠ 10 → a ≠ 31 → a ≠ 34 → w2 a = w a := fun a k1 k2 k3 k4 => by rw [x2, mup_ne k3, mup_ne k4, x1, mup_ne k1, mup_ne k2]
          have y9 : w2 9 1 = w 31 4 + 1 := by rw [x2, mup_ne (by decide), mup_ne (by decide), x1, mup_at, g4]
          have y4 : w2 31 4 = w 31 4 + 1 := by rw [x2, mup_at, u31]
          have y2 : w2 31 2 = w 31 2 := by rw [x2, mup_get, if_neg (by omega), mup_ne (by decide), u31]
          have y10 : ∀ i : Int, w2 10 i = if i = w 31 4 then z0 else w 10 i := fun i => by
            rw [x2, mup_ne (by decide), mup_ne (by decide), x1, mup_ne (by decide), mup_get, g4]
            by_cases e : i = w 31 4
            · rw [if_pos ⟨rfl, e⟩, if_pos e]
            · rw [if_neg (fun z => e z.2), if_neg e]
          have y34 : ∀ i : Int, w2 34 i = if i = w 31 4 then z0 else w 34 i := fun i => by
            rw [x2, mup_ne (by decide), mup_get, u31, hu 34 (by decide)]
            by_cases e : i = w 31 4
            · rw [if_pos ⟨rfl, e⟩, if_pos e]
            · rw [if_neg (fun z => e z.2), if_neg e]
          refine ⟨by rw [e1, e2, e94], ⟨⟨f1.congr (wa 32 (by decide) (by decide) (by decide) (by decide)), by rw [y2]; exact f2, by omega, fun i i0 i1 => ?_⟩, fun p hp b b0 b1 => ?_, by rw [y2, wa 7 (by decide) (by decide) (by decide) (by decide)]; exact g2, by rw [y2, wa 8 (by decide) (by decide) (by decide) (by decide), wa 33 (by decide) (by decide) (by decide) (by decide)]; exact g3, by rw [y9, y4], fun i i0 i1 => ?_⟩⟩
          · rw [y34]
            by_cases e : i = w 31 4
            · rw [if_pos e]; omega
            · rw [if_neg e]; exact f4 i i0 (by omega)
          · rw [wa _ (by omega) (by omega) (by omega) (by omega), wa 32 (by decide) (by decide) (by decide) (by decide)]; exact g1 p hp b b0 b1
          · rw [y10, y34]
            by_cases e : i = w 31 4
            · rw [if_pos e, if_pos e]
            · rw [if_neg e, if_neg e]; exact g5 i i0 (by omega)
theorem up_clearText {w w1 : mW} {z1 : Int} (h1 : z1 = w 9 1 ∧ w1 = mup w 9 1 0) : Up w w1 := by
  intro a' ha'
  rw [h1.2, mup_ne (by omega)]
theorem q_clearText {w w1 w2 : mW} {z1 z2 : Int} (h : RelT w) (h1 : z1 = w 9 1 ∧ w1 = mup w 9 1 0) (h2 : z2 = w1 31 4 ∧ w2 = mup w1 31 4 0) : z1 = z2 ∧ RelI w2 := by
  have hu := up_clearText h1
  have hrv := rv_up hu
  obtain ⟨hI, hT⟩ := h
  obtain ⟨e1, x1⟩ := h1
  obtain ⟨e2, x2⟩ := h2
  obtain ⟨⟨f1, f2, f3, f4⟩, g1, g2, g3, g4, g5⟩ := hI
  have u31 : w1 31 = w 31 := hu 31 (by decide)
  have wa : ∀ a : Nat, a ≠ 9 → a ≠ 31 → w2 a = w a := fun a k1 k3 => by rw [x2, mup_ne k3, x1, mup_ne k1]
  have y9 : w2 9 1 = 0 := by rw [x2, mup_ne (by decide), x1, mup_at]
  have y4 : w2 31 4 = 0 := by rw [x2, mup_at]
  have y2 : w2 31 2 = w 31 2 := by rw [x2, mup_get, if_neg (by omega), u31]
  refine ⟨by rw [e1, e2, g4, u31], ⟨⟨f1.congr (wa 32 (by decide) (by decide)), by rw [y2]; exact f2, by omega, fun i i0 i1 => by omega⟩, fun p hp b b0 b1 => ?_, by rw [y2, wa 7 (by decide) (by decide)]; exact g2, by rw [y2, wa 8 (by decide) (by decide), wa 33 (by decide) (by decide)]; exact g3, by rw [y9, y4], fun i i0 i1 => by omega⟩⟩
  rw [wa _ (by omega) (by omega), wa 32 (by decide) (by decide)]; exact g1 p hp b b0 b1
theorem up_fault {w w1 : mW} {z1 : Int} {c : Int} (h1 : (¬ (0 ≤ c ∧ c ≤ 2) ∧ z1 = -1000001 ∧ w1 = w) ∨ ((0 ≤ c ∧ c ≤ 2) ∧ z1 = faultF (parP (chF w) (w 9 1)) c ∧ (∀ a : Nat, a ≠ 9 → a ≠ 12 → w1 a = w a) ∧ w1 9 1 = w 9 1)) : Up w w1 := by
  rcases h1 with ⟨_, _, x⟩ | ⟨v, _, x, _⟩
  · rw [x]; exact Up.refl w
  · exact fun a' ha' => x a' (by omega) (by omega)
theorem q_fault {w w1 w2 : mW} {z1 z2 : Int} {c : Int} (h : RelT w) (h1 : (¬ (0 ≤ c ∧ c ≤ 2) ∧ z1 = -1000001 ∧ w1 = w) ∨ ((0 ≤ c ∧ c ≤ 2) ∧ z1 = faultF (parP (chF w) (w 9 1)) c ∧ (∀ a : Nat, a ≠ 9 → a ≠ 12 → w1 a = w a) ∧ w1 9 1 = w 9 1)) (h2 : (¬ (0 ≤ c ∧ c ≤ 2) ∧ z2 = -1000001 ∧ w2 = w1) ∨ ((0 ≤ c ∧ c ≤ 2) ∧ z2 = faultF (parP (cR w1) (w1 31 4)) c ∧ FrS w1 w2)) : z1 = z2 ∧ RelI w2 := by
  have hu := up_fault h1
  have hrv := rv_up hu
  obtain ⟨hI, hT⟩ := h
  rcases h1 with ⟨n1, e1, x1⟩ | ⟨v1, h1⟩
  · rcases h2 with ⟨n2, e2, x2⟩ | ⟨v2, h2⟩
    · rw [e1, e2, x2, x1]; exact ⟨rfl, hI⟩
    · exact absurd v2 n1
  · rcases h2 with ⟨n2, e2, x2⟩ | ⟨v2, h2⟩
    · exact absurd v1 n2
    · obtain ⟨e1, x1, y1⟩ := h1
      obtain ⟨e2, x2⟩ := h2
      rw [par_eq hI hu] at e2
      refine ⟨by rw [e1, e2], RelI.keep hI (fun a ha => ?_) ?_ ?_ ?_⟩
      · rw [x2.1 a (by omega) (by omega) (by omega) (by omega)]; exact x1 a (by omega) (by omega)
      · rw [x2.1 9 (by decide) (by decide) (by decide) (by decide)]; exact y1
      · rw [x2.2 2 (Or.inl (by decide)), hu 31 (by decide)]
      · rw [x2.2 4 (Or.inl (by decide)), hu 31 (by decide)]
theorem up_read {w w1 : mW} {z1 : Int} {a : Int} (h1 : (¬ (0 ≤ a ∧ a < 3) ∧ z1 = -1000001 ∧ w1 = w) ∨ ((0 ≤ a ∧ a < 3) ∧ ((¬ (parP (chF w) (w 9 1)).2.2.2.1 = 0 ∧ z1 = -1000002 ∧ (∀ a : Nat, a ≠ 9 → a ≠ 12 → w1 a = w a) ∧ w1 9 1 = w 9 1) ∨ ((parP (chF w) (w 9 1)).2.2.2.1 = 0 ∧ z1 = ((mpop (parP (chF w) (w 9 1)).1 : Nat) : Int) ∧ ∃ u : mW, TV w u (parP (chF w) (w 9 1)) ∧ TOK (parP (chF w) (w 9 1)) ∧ w1 = mcopy (recF u) 12 (2 * a.toNat + 2) 0 0 56)))) : Up w w1 := by
  rcases h1 with ⟨_, _, x⟩ | ⟨v, ⟨_, _, x, _⟩ | ⟨_, _, u, hV, _, x⟩⟩
  · rw [x]; exact Up.refl w
  · exact fun a' ha' => x a' (by omega) (by omega)
  · intro a' ha'
    rw [x, mcopy_ne (by omega), recF_ne (by omega) (by omega)]
    exact hV.1 a' (by omega) (by omega)
theorem q_read {w w1 w2 : mW} {z1 z2 : Int} {a : Int} (h : RelT w) (h1 : (¬ (0 ≤ a ∧ a < 3) ∧ z1 = -1000001 ∧ w1 = w) ∨ ((0 ≤ a ∧ a < 3) ∧ ((¬ (parP (chF w) (w 9 1)).2.2.2.1 = 0 ∧ z1 = -1000002 ∧ (∀ a : Nat, a ≠ 9 → a ≠ 12 → w1 a = w a) ∧ w1 9 1 = w 9 1) ∨ ((parP (chF w) (w 9 1)).2.2.2.1 = 0 ∧ z1 = ((mpop (parP (chF w) (w 9 1)).1 : Nat) : Int) ∧ ∃ u : mW, TV w u (parP (chF w) (w 9 1)) ∧ TOK (parP (chF w) (w 9 1)) ∧ w1 = mcopy (recF u) 12 (2 * a.toNat + 2) 0 0 56)))) (h2 : (¬ (0 ≤ a ∧ a < 3) ∧ z2 = -1000001 ∧ w2 = w1) ∨ ((0 ≤ a ∧ a < 3) ∧ ((¬ (parP (cR w1) (w1 31 4)).2.2.2.1 = 0 ∧ z2 = -1000002 ∧ FrS w1 w2) ∨ ((parP (cR w1) (w1 31 4)).2.2.2.1 = 0 ∧ z2 = ((mpop (parP (cR w1) (w1 31 4)).1 : Nat) : Int) ∧ ∃ u : mW, FrS w1 u ∧ RVd u (parP (cR w1) (w1 31 4)) ∧ w2 = mcopy (rrF u) 43 32 0 (56 * a) 56)))) : z1 = z2 ∧ RelI w2 := by
  have hu := up_read h1
  have hrv := rv_up hu
  obtain ⟨hI, hT⟩ := h
  rcases h1 with ⟨n1, e1, x1⟩ | ⟨v1, h1⟩
  · rcases h2 with ⟨n2, e2, x2⟩ | ⟨v2, h2⟩
    · rw [e1, e2, x2, x1]; exact ⟨rfl, hI⟩
    · exact absurd v2 n1
  · rcases h2 with ⟨n2, e2, x2⟩ | ⟨v2, h2⟩
    · exact absurd v1 n2
    · rw [par_eq hI hu] at h2
      generalize parP (chF w) (w 9 1) = P at *
      rcases h1 with ⟨q1, e1, x1, y1⟩ | ⟨q1, e1, uc, hV, hO, x1⟩
      · rcases h2 with ⟨q2, e2, x2⟩ | ⟨q2, e2, x2⟩
        · refine ⟨by rw [e1, e2], RelI.keep hI (fun a ha => ?_) ?_ ?_ ?_⟩
          · rw [x2.1 a (by omega) (by omega) (by omega) (by omega)]; exact x1 a (by omega) (by omega)
          · rw [x2.1 9 (by decide) (by decide) (by decide) (by decide)]; exact y1
          · rw [x2.2 2 (Or.inl (by decide)), hu 31 (by decide)]
          · rw [x2.2 4 (Or.inl (by decide)), hu 31 (by decide)]
        · exact absurd q2 q1
      · rcases h2 with ⟨q2, e2, x2⟩ | ⟨q2, e2, ur, hF, hD, x2⟩
        · exact absurd q1 q2
        · obtain ⟨p, rfl⟩ : ∃ p : Nat, a = (p : Int) := ⟨a.toNat, by omega⟩
          rw [Int.toNat_natCast] at x1
          have fa : ∀ a : Nat, a < 31 → ur a = w1 a := fun a ha => hF.1 a (by omega) (by omega) (by omega) (by omega)
          have r2 : ur 31 2 = w 31 2 := by rw [hF.2 2 (Or.inl (by decide)), hu 31 (by decide)]
          have r4 : ur 31 4 = w 31 4 := by rw [hF.2 4 (Or.inl (by decide)), hu 31 (by decide)]
          have ra : ∀ a : Nat, 31 < a → a < 43 → ur a = w a := fun a h1 h2 => by rw [hF.1 a (by omega) (by omega) (by omega) (by omega)]; exact hu a (by omega)
          have wl : ∀ a : Nat, a < 31 → w2 a = w1 a := fun a ha => by rw [x2, mcopy_ne (by omega), rrF_ne (by omega) (by omega)]; exact fa a ha
          have wa : ∀ a : Nat, a ≠ 2 * p + 2 → a ≠ 7 → a ≠ 8 → a ≠ 9 → a ≠ 12 → a < 31 → w2 a = w a := fun a k1 k2 k3 k5 k6 k4 => by rw [wl a k4, x1, mcopy_ne k1, recF_ne k2 k3]; exact hV.1 a k5 k6
          have wp : ∀ y : Int, 0 ≤ y → y < 56 → w2 (2 * p + 2) y = P.2.1 y := fun y y0 y1 => by
            rw [wl _ (by omega), x1]
            unfold mcopy
            rw [if_pos (by omega), recF_ne (by decide) (by decide), show (0 : Int) + (y - 0) = y by omega]
            exact hV.2.2.2.1 y y0 y1
          have w32 : ∀ i : Int, w2 32 i = if 56 * (p : Int) ≤ i ∧ i < 56 * (p : Int) + 56 then (if (i - 56 * (p : Int)) % 7 = 0 then P.2.1 (i - 56 * (p : Int)) else P.2.1 (i - 56 * (p : Int)) + 1) else w 32 i := fun i => by
            rw [x2]
            unfold mcopy
            by_cases e : 56 * (p : Int) ≤ i ∧ i < 56 * (p : Int) + 56
            · rw [if_pos ⟨rfl, e⟩, if_pos e, rrF_ne (by decide) (by decide), show (0 : Int) + (i - 56 * (p : Int)) = i - 56 * (p : Int) by omega]
              exact hD.2.2 _ (by omega) (by omega)
            · rw [if_neg (fun z => e z.2), if_neg e, rrF_ne (by decide) (by decide)]
              exact congrFun (ra 32 (by decide) (by decide)) i
          have hP2 : RPl w2 := fun i i0 i1 => by
            rw [w32]
            by_cases e : 56 * (p : Int) ≤ i ∧ i < 56 * (p : Int) + 56
            · rw [if_pos e]
              have hd := DOK.all hO.2.1 (b := i - 56 * (p : Int)) (by omega) (by omega)
              refine ⟨fun z => ?_, fun z => ?_⟩
              · rw [if_pos (by omega)]; exact hd.1 (by omega)
              · rw [if_neg (by omega)]; have := hd.2 (by omega); omega
            · rw [if_neg e]; exact hI.1.1 i i0 i1
          have hPR2 : PR w2 (w2 32) := fun s hs y y0 y1 => by
            by_cases es : s = p
            · have es' : p = s := es.symm
              subst es'
              have e32 : w2 32 (56 * (p : Int) + y) = if y % 7 = 0 then P.2.1 y else P.2.1 y + 1 := by rw [w32, if_pos (by omega), show 56 * (p : Int) + y - 56 * (p : Int) = y by omega]
              unfold sh
              rw [wp y y0 y1, e32]
              by_cases z : y % 7 = 0
              · rw [if_pos (show (56 * (p : Int) + y) % 7 = 0 by omega), if_pos z]
              · rw [if_neg (show ¬ (56 * (p : Int) + y) % 7 = 0 by omega), if_neg z]; omega
            · have e32 : w2 32 (56 * (s : Int) + y) = w 32 (56 * (s : Int) + y) := by rw [w32, if_neg (by omega)]
              have hh := hI.2.1 s hs y y0 y1
              unfold sh at hh ⊢
              rw [wa _ (by omega) (by omega) (by omega) (by omega) (by omega) (by omega), e32]; exact hh
          refine ⟨by rw [e1, e2], RelI.chg (wc := uc) (wr := ur) hI (fun a ha => hV.1 a (by omega) (by omega)) r2 (ra 32 (by decide) (by decide)) (ra 33 (by decide) (by decide)) (by rw [wl 7 (by decide), x1, mcopy_ne (by omega)]) (by rw [wl 8 (by decide), x1, mcopy_ne (by omega)]) (by rw [wl 9 (by decide), x1, mcopy_ne (by omega), recF_ne (by decide) (by decide)]; exact hV.2.1) (wa 10 (by omega) (by decide) (by decide) (by decide) (by decide) (by decide)) (by rw [x2, mcopy_ne (by decide)]) (by rw [x2, mcopy_ne (by decide), rrF_31 _ (by decide)]; exact r4) (by rw [x2, mcopy_ne (by decide)]) (by rw [x2, mcopy_ne (by decide), rrF_ne (by decide) (by decide)]; exact ra 34 (by decide) (by decide)) hP2 hPR2⟩
theorem up_stateOf {w w1 : mW} {z1 : Int} {a b c : Int} (h1 : (¬ (0 ≤ a ∧ a < 3 ∧ 0 ≤ b ∧ b < 8 ∧ ((0 ≤ c ∧ c ≤ 3) ∨ (10 ≤ c ∧ c < 16))) ∧ z1 = -1000001 ∧ w1 = w) ∨ ((0 ≤ a ∧ a < 3 ∧ 0 ≤ b ∧ b < 8 ∧ ((0 ≤ c ∧ c ≤ 3) ∨ (10 ≤ c ∧ c < 16))) ∧ z1 = stF w (2 * a.toNat + 1) b.toNat c ∧ ∀ i : Nat, i ≠ 14 → w1 i = w i)) : Up w w1 := by
  rcases h1 with ⟨_, _, x⟩ | ⟨v, _, x⟩
  · rw [x]; exact Up.refl w
  · exact fun a' ha' => x a' (by omega)
theorem q_stateOf {w w1 w2 : mW} {z1 z2 : Int} {a b c : Int} (h : RelT w) (h1 : (¬ (0 ≤ a ∧ a < 3 ∧ 0 ≤ b ∧ b < 8 ∧ ((0 ≤ c ∧ c ≤ 3) ∨ (10 ≤ c ∧ c < 16))) ∧ z1 = -1000001 ∧ w1 = w) ∨ ((0 ≤ a ∧ a < 3 ∧ 0 ≤ b ∧ b < 8 ∧ ((0 ≤ c ∧ c ≤ 3) ∨ (10 ≤ c ∧ c < 16))) ∧ z1 = stF w (2 * a.toNat + 1) b.toNat c ∧ ∀ i : Nat, i ≠ 14 → w1 i = w i)) (h2 : (¬ (0 ≤ a ∧ a < 3 ∧ 0 ≤ b ∧ b < 8 ∧ ((0 ≤ c ∧ c ≤ 3) ∨ (10 ≤ c ∧ c < 16))) ∧ z2 = -1000001 ∧ w2 = w1) ∨ ((0 ≤ a ∧ a < 3 ∧ 0 ≤ b ∧ b < 8 ∧ ((0 ≤ c ∧ c ≤ 3) ∨ (10 ≤ c ∧ c < 16))) ∧ RSt (rv w1) (2 * a.toNat + 1) b.toNat c z2 ∧ ∀ i : Nat, i ≠ 35 → w2 i = w1 i)) : z1 = z2 ∧ RelI w2 := by
  have hu := up_stateOf h1
  have hrv := rv_up hu
  obtain ⟨hI, hT⟩ := h
  rcases h1 with ⟨n1, e1, x1⟩ | ⟨v1, h1⟩
  · rcases h2 with ⟨n2, e2, x2⟩ | ⟨v2, h2⟩
    · rw [e1, e2, x2, x1]; exact ⟨rfl, hI⟩
    · exact absurd v2 n1
  · rcases h2 with ⟨n2, e2, x2⟩ | ⟨v2, h2⟩
    · exact absurd v1 n2
    · obtain ⟨e1, x1⟩ := h1
      obtain ⟨e2, x2⟩ := h2
      obtain ⟨p, rfl⟩ : ∃ p : Nat, a = (p : Int) := ⟨a.toNat, by omega⟩
      have hp : p < 3 := by omega
      obtain ⟨s, rfl⟩ : ∃ s : Nat, b = (s : Int) := ⟨b.toNat, by omega⟩
      rw [Int.toNat_natCast, Int.toNat_natCast] at e1 e2
      rw [hrv] at e2
      refine ⟨by rw [e1]; exact stateOf_eq (hT p hp) (by omega) (hI.1.1.ok hp) (by omega) (by omega) e2, RelI.keep hI (fun a ha => ?_) ?_ ?_ ?_⟩
      · rw [x2 a (by omega)]; exact x1 a (by omega)
      · rw [x2 9 (by decide), x1 9 (by decide)]
      · rw [x2 31 (by decide), hu 31 (by decide)]
      · rw [x2 31 (by decide), hu 31 (by decide)]
theorem up_unlike {w w1 : mW} {z1 : Int} {a : Int} (h1 : (¬ (0 ≤ a ∧ a < 3) ∧ z1 = -1000001 ∧ w1 = w) ∨ ((0 ≤ a ∧ a < 3) ∧ z1 = ((mpop (unF (comesF w (2 * a.toNat + 1) 0) (lowF w (2 * a.toNat + 1)) 8) : Nat) : Int) ∧ ∀ i : Nat, i ≠ 14 → w1 i = w i)) : Up w w1 := by
  rcases h1 with ⟨_, _, x⟩ | ⟨v, _, x⟩
  · rw [x]; exact Up.refl w
  · exact fun a' ha' => x a' (by omega)
theorem q_unlike {w w1 w2 : mW} {z1 z2 : Int} {a : Int} (h : RelT w) (h1 : (¬ (0 ≤ a ∧ a < 3) ∧ z1 = -1000001 ∧ w1 = w) ∨ ((0 ≤ a ∧ a < 3) ∧ z1 = ((mpop (unF (comesF w (2 * a.toNat + 1) 0) (lowF w (2 * a.toNat + 1)) 8) : Nat) : Int) ∧ ∀ i : Nat, i ≠ 14 → w1 i = w i)) (h2 : (¬ (0 ≤ a ∧ a < 3) ∧ z2 = -1000001 ∧ w2 = w1) ∨ ((0 ≤ a ∧ a < 3) ∧ (∃ L M, IsG (rv w1) (2 * a.toNat + 1) (lkR L) ∧ RIs (rv w1) (2 * a.toNat + 1) 0 M ∧ z2 = ((cnt (fun k => M.testBit k && decide (lowst (fun j => (L k &&& M).testBit j) 8 8 0 = k)) 8 : Nat) : Int)) ∧ ∀ i : Nat, i ≠ 35 → w2 i = w1 i)) : z1 = z2 ∧ RelI w2 := by
  have hu := up_unlike h1
  have hrv := rv_up hu
  obtain ⟨hI, hT⟩ := h
  rcases h1 with ⟨n1, e1, x1⟩ | ⟨v1, h1⟩
  · rcases h2 with ⟨n2, e2, x2⟩ | ⟨v2, h2⟩
    · rw [e1, e2, x2, x1]; exact ⟨rfl, hI⟩
    · exact absurd v2 n1
  · rcases h2 with ⟨n2, e2, x2⟩ | ⟨v2, h2⟩
    · exact absurd v1 n2
    · obtain ⟨e1, x1⟩ := h1
      obtain ⟨e2, x2⟩ := h2
      obtain ⟨p, rfl⟩ : ∃ p : Nat, a = (p : Int) := ⟨a.toNat, by omega⟩
      have hp : p < 3 := by omega
      rw [Int.toNat_natCast] at e1 e2
      rw [hrv] at e2
      refine ⟨by rw [e1]; exact unlike_eq2 (hT p hp) (by omega) (hI.1.1.ok hp) e2, RelI.keep hI (fun a ha => ?_) ?_ ?_ ?_⟩
      · rw [x2 a (by omega)]; exact x1 a (by omega)
      · rw [x2 9 (by decide), x1 9 (by decide)]
      · rw [x2 31 (by decide), hu 31 (by decide)]
      · rw [x2 31 (by decide), hu 31 (by decide)]
theorem up_pairOf {w w1 : mW} {z1 : Int} {a b c e : Int} (h1 : (¬ (0 ≤ a ∧ a < 3 ∧ 0 ≤ b ∧ b < 3 ∧ -1 ≤ c ∧ ((0 ≤ e ∧ e ≤ 4) ∨ (10 ≤ e ∧ e < 74))) ∧ z1 = -1000001 ∧ w1 = w) ∨ ((0 ≤ a ∧ a < 3 ∧ 0 ≤ b ∧ b < 3 ∧ -1 ≤ c ∧ ((0 ≤ e ∧ e ≤ 4) ∨ (10 ≤ e ∧ e < 74))) ∧ z1 = pairB w (2 * a.toNat + 1) (2 * b.toNat + 1) (bT w (2 * a.toNat + 1) (2 * b.toNat + 1)) (if c = -1 then faultB rsnT w (2 * a.toNat + 1) (2 * b.toNat + 1) (bT w (2 * a.toNat + 1) (2 * b.toNat + 1)) else c) e ∧ ∀ i : Nat, i < 15 ∨ 20 < i → w1 i = w i)) : Up w w1 := by
  rcases h1 with ⟨_, _, x⟩ | ⟨v, _, x⟩
  · rw [x]; exact Up.refl w
  · exact fun a' ha' => x a' (by omega)
theorem q_pairOf {w w1 w2 : mW} {z1 z2 : Int} {a b c e : Int} (h : RelT w) (h1 : (¬ (0 ≤ a ∧ a < 3 ∧ 0 ≤ b ∧ b < 3 ∧ -1 ≤ c ∧ ((0 ≤ e ∧ e ≤ 4) ∨ (10 ≤ e ∧ e < 74))) ∧ z1 = -1000001 ∧ w1 = w) ∨ ((0 ≤ a ∧ a < 3 ∧ 0 ≤ b ∧ b < 3 ∧ -1 ≤ c ∧ ((0 ≤ e ∧ e ≤ 4) ∨ (10 ≤ e ∧ e < 74))) ∧ z1 = pairB w (2 * a.toNat + 1) (2 * b.toNat + 1) (bT w (2 * a.toNat + 1) (2 * b.toNat + 1)) (if c = -1 then faultB rsnT w (2 * a.toNat + 1) (2 * b.toNat + 1) (bT w (2 * a.toNat + 1) (2 * b.toNat + 1)) else c) e ∧ ∀ i : Nat, i < 15 ∨ 20 < i → w1 i = w i)) (h2 : (¬ (0 ≤ a ∧ a < 3 ∧ 0 ≤ b ∧ b < 3 ∧ -1 ≤ c ∧ ((0 ≤ e ∧ e ≤ 4) ∨ (10 ≤ e ∧ e < 74))) ∧ z2 = -1000001 ∧ w2 = w1) ∨ ((0 ≤ a ∧ a < 3 ∧ 0 ≤ b ∧ b < 3 ∧ -1 ≤ c ∧ ((0 ≤ e ∧ e ≤ 4) ∨ (10 ≤ e ∧ e < 74))) ∧ (∃ i : Int, ((c < 0 ∧ i = faultB rsnT (rv w1) (2 * a.toNat + 1) (2 * b.toNat + 1) (bT (rv w1) (2 * a.toNat + 1) (2 * b.toNat + 1))) ∨ (¬ c < 0 ∧ i = c)) ∧ z2 = rpairB (rv w1) (2 * a.toNat + 1) (2 * b.toNat + 1) (bT (rv w1) (2 * a.toNat + 1) (2 * b.toNat + 1)) i e) ∧ rkeep w1 w2)) : z1 = z2 ∧ RelI w2 := by
  have hu := up_pairOf h1
  have hrv := rv_up hu
  obtain ⟨hI, hT⟩ := h
  rcases h1 with ⟨n1, e1, x1⟩ | ⟨v1, h1⟩
  · rcases h2 with ⟨n2, e2, x2⟩ | ⟨v2, h2⟩
    · rw [e1, e2, x2, x1]; exact ⟨rfl, hI⟩
    · exact absurd v2 n1
  · rcases h2 with ⟨n2, e2, x2⟩ | ⟨v2, h2⟩
    · exact absurd v1 n2
    · obtain ⟨e1, x1⟩ := h1
      obtain ⟨e2, x2⟩ := h2
      obtain ⟨p, rfl⟩ : ∃ p : Nat, a = (p : Int) := ⟨a.toNat, by omega⟩
      have hp : p < 3 := by omega
      obtain ⟨q, rfl⟩ : ∃ q : Nat, b = (q : Int) := ⟨b.toNat, by omega⟩
      have hq : q < 3 := by omega
      have kp := (hI.1.1.ok hp)
      have kq := (hI.1.1.ok hq)
      rw [Int.toNat_natCast, Int.toNat_natCast] at e1 e2
      rw [hrv] at e2
      obtain ⟨i, hi, e3⟩ := e2
      refine ⟨by rw [e1, e3]; exact pairOf_eq (hT p hp) (hT q hq) kp kq (by omega) (by omega) hi, RelI.keep hI (fun a ha => ?_) ?_ ?_ ?_⟩
      · rw [x2.1 a (by omega) (by omega)]; exact x1 a (by omega)
      · rw [x2.1 9 (by decide) (by decide), x1 9 (by omega)]
      · rw [x2.2 2 (by decide), hu 31 (by decide)]
      · rw [x2.2 4 (by decide), hu 31 (by decide)]
theorem up_talk {w w1 : mW} {z1 : Int} {a b c : Int} (h1 : (¬ (0 ≤ a ∧ a < 3 ∧ 0 ≤ b ∧ b < 3 ∧ 0 ≤ c ∧ c ≤ 6) ∧ z1 = -1000001 ∧ w1 = w) ∨ ((0 ≤ a ∧ a < 3 ∧ 0 ≤ b ∧ b < 3 ∧ 0 ≤ c ∧ c ≤ 6) ∧ (∃ u : mW, z1 = talkF w u (2 * a.toNat + 1) (2 * b.toNat + 1) c) ∧ ∀ i : Nat, i < 15 ∨ 24 < i → w1 i = w i)) : Up w w1 := by
  rcases h1 with ⟨_, _, x⟩ | ⟨v, _, x⟩
  · rw [x]; exact Up.refl w
  · exact fun a' ha' => x a' (by omega)
theorem q_talk {w w1 w2 : mW} {z1 z2 : Int} {a b c : Int} (h : RelT w) (h1 : (¬ (0 ≤ a ∧ a < 3 ∧ 0 ≤ b ∧ b < 3 ∧ 0 ≤ c ∧ c ≤ 6) ∧ z1 = -1000001 ∧ w1 = w) ∨ ((0 ≤ a ∧ a < 3 ∧ 0 ≤ b ∧ b < 3 ∧ 0 ≤ c ∧ c ≤ 6) ∧ (∃ u : mW, z1 = talkF w u (2 * a.toNat + 1) (2 * b.toNat + 1) c) ∧ ∀ i : Nat, i < 15 ∨ 24 < i → w1 i = w i)) (h2 : (¬ (0 ≤ a ∧ a < 3 ∧ 0 ≤ b ∧ b < 3 ∧ 0 ≤ c ∧ c ≤ 6) ∧ z2 = -1000001 ∧ w2 = w1) ∨ ((0 ≤ a ∧ a < 3 ∧ 0 ≤ b ∧ b < 3 ∧ 0 ≤ c ∧ c ≤ 6) ∧ RTk (rv w1) (2 * a.toNat + 1) (2 * b.toNat + 1) c z2 ∧ rkeep w1 w2)) : z1 = z2 ∧ RelI w2 := by
  have hu := up_talk h1
  have hrv := rv_up hu
  obtain ⟨hI, hT⟩ := h
  rcases h1 with ⟨n1, e1, x1⟩ | ⟨v1, h1⟩
  · rcases h2 with ⟨n2, e2, x2⟩ | ⟨v2, h2⟩
    · rw [e1, e2, x2, x1]; exact ⟨rfl, hI⟩
    · exact absurd v2 n1
  · rcases h2 with ⟨n2, e2, x2⟩ | ⟨v2, h2⟩
    · exact absurd v1 n2
    · obtain ⟨e1, x1⟩ := h1
      obtain ⟨e2, x2⟩ := h2
      obtain ⟨p, rfl⟩ : ∃ p : Nat, a = (p : Int) := ⟨a.toNat, by omega⟩
      have hp : p < 3 := by omega
      obtain ⟨q, rfl⟩ : ∃ q : Nat, b = (q : Int) := ⟨b.toNat, by omega⟩
      have hq : q < 3 := by omega
      have kp := (hI.1.1.ok hp)
      have kq := (hI.1.1.ok hq)
      rw [Int.toNat_natCast, Int.toNat_natCast] at e1 e2
      rw [hrv] at e2
      obtain ⟨u, e1⟩ := e1
      refine ⟨by rw [e1]; exact talk_eq (hT p hp) (hT q hq) kp kq (by omega) e2, RelI.keep hI (fun a ha => ?_) ?_ ?_ ?_⟩
      · rw [x2.1 a (by omega) (by omega)]; exact x1 a (by omega)
      · rw [x2.1 9 (by decide) (by decide), x1 9 (by omega)]
      · rw [x2.2 2 (by decide), hu 31 (by decide)]
      · rw [x2.2 4 (by decide), hu 31 (by decide)]
theorem up_talks {w w1 : mW} {z1 : Int} {a b : Int} (h1 : (¬ (0 ≤ a ∧ a < 3 ∧ 0 ≤ b ∧ b < 3) ∧ z1 = -1000001 ∧ w1 = w) ∨ ((0 ≤ a ∧ a < 3 ∧ 0 ≤ b ∧ b < 3) ∧ (∃ u : mW, z1 = talksF (krT w u (2 * a.toNat + 1) (2 * b.toNat + 1))) ∧ ∀ i : Nat, i < 15 ∨ 24 < i → w1 i = w i)) : Up w w1 := by
  rcases h1 with ⟨_, _, x⟩ | ⟨v, _, x⟩
  · rw [x]; exact Up.refl w
  · exact fun a' ha' => x a' (by omega)
theorem q_talks {w w1 w2 : mW} {z1 z2 : Int} {a b : Int} (h : RelT w) (h1 : (¬ (0 ≤ a ∧ a < 3 ∧ 0 ≤ b ∧ b < 3) ∧ z1 = -1000001 ∧ w1 = w) ∨ ((0 ≤ a ∧ a < 3 ∧ 0 ≤ b ∧ b < 3) ∧ (∃ u : mW, z1 = talksF (krT w u (2 * a.toNat + 1) (2 * b.toNat + 1))) ∧ ∀ i : Nat, i < 15 ∨ 24 < i → w1 i = w i)) (h2 : (¬ (0 ≤ a ∧ a < 3 ∧ 0 ≤ b ∧ b < 3) ∧ z2 = -1000001 ∧ w2 = w1) ∨ ((0 ≤ a ∧ a < 3 ∧ 0 ≤ b ∧ b < 3) ∧ RTs (rv w1) (2 * a.toNat + 1) (2 * b.toNat + 1) z2 ∧ rkeep w1 w2)) : z1 = z2 ∧ RelI w2 := by
  have hu := up_talks h1
  have hrv := rv_up hu
  obtain ⟨hI, hT⟩ := h
  rcases h1 with ⟨n1, e1, x1⟩ | ⟨v1, h1⟩
  · rcases h2 with ⟨n2, e2, x2⟩ | ⟨v2, h2⟩
    · rw [e1, e2, x2, x1]; exact ⟨rfl, hI⟩
    · exact absurd v2 n1
  · rcases h2 with ⟨n2, e2, x2⟩ | ⟨v2, h2⟩
    · exact absurd v1 n2
    · obtain ⟨e1, x1⟩ := h1
      obtain ⟨e2, x2⟩ := h2
      obtain ⟨p, rfl⟩ : ∃ p : Nat, a = (p : Int) := ⟨a.toNat, by omega⟩
      have hp : p < 3 := by omega
      obtain ⟨q, rfl⟩ : ∃ q : Nat, b = (q : Int) := ⟨b.toNat, by omega⟩
      have hq : q < 3 := by omega
      have kp := (hI.1.1.ok hp)
      have kq := (hI.1.1.ok hq)
      rw [Int.toNat_natCast, Int.toNat_natCast] at e1 e2
      rw [hrv] at e2
      obtain ⟨u, e1⟩ := e1
      refine ⟨by rw [e1]; exact talks_eq (hT p hp) (hT q hq) kp kq e2, RelI.keep hI (fun a ha => ?_) ?_ ?_ ?_⟩
      · rw [x2.1 a (by omega) (by omega)]; exact x1 a (by omega)
      · rw [x2.1 9 (by decide) (by decide), x1 9 (by omega)]
      · rw [x2.2 2 (by decide), hu 31 (by decide)]
      · rw [x2.2 4 (by decide), hu 31 (by decide)]
theorem up_standsIn {w w1 : mW} {z1 : Int} {a b : Int} (h1 : (¬ (0 ≤ a ∧ a < 3 ∧ 0 ≤ b ∧ b < 3) ∧ z1 = -1000001 ∧ w1 = w) ∨ ((0 ≤ a ∧ a < 3 ∧ 0 ≤ b ∧ b < 3) ∧ z1 = standF w (2 * a.toNat + 1) (2 * b.toNat + 1) ∧ ∀ i : Nat, i < 25 ∨ 30 < i → w1 i = w i)) : Up w w1 := by
  rcases h1 with ⟨_, _, x⟩ | ⟨v, _, x⟩
  · rw [x]; exact Up.refl w
  · exact fun a' ha' => x a' (by omega)
theorem q_standsIn {w w1 w2 : mW} {z1 z2 : Int} {a b : Int} (h : RelT w) (h1 : (¬ (0 ≤ a ∧ a < 3 ∧ 0 ≤ b ∧ b < 3) ∧ z1 = -1000001 ∧ w1 = w) ∨ ((0 ≤ a ∧ a < 3 ∧ 0 ≤ b ∧ b < 3) ∧ z1 = standF w (2 * a.toNat + 1) (2 * b.toNat + 1) ∧ ∀ i : Nat, i < 25 ∨ 30 < i → w1 i = w i)) (h2 : (¬ (0 ≤ a ∧ a < 3 ∧ 0 ≤ b ∧ b < 3) ∧ z2 = -1000001 ∧ w2 = w1) ∨ ((0 ≤ a ∧ a < 3 ∧ 0 ≤ b ∧ b < 3) ∧ z2 = standF (rv w1) (2 * a.toNat + 1) (2 * b.toNat + 1) ∧ rkeep w1 w2)) : z1 = z2 ∧ RelI w2 := by
  have hu := up_standsIn h1
  have hrv := rv_up hu
  obtain ⟨hI, hT⟩ := h
  rcases h1 with ⟨n1, e1, x1⟩ | ⟨v1, h1⟩
  · rcases h2 with ⟨n2, e2, x2⟩ | ⟨v2, h2⟩
    · rw [e1, e2, x2, x1]; exact ⟨rfl, hI⟩
    · exact absurd v2 n1
  · rcases h2 with ⟨n2, e2, x2⟩ | ⟨v2, h2⟩
    · exact absurd v1 n2
    · obtain ⟨e1, x1⟩ := h1
      obtain ⟨e2, x2⟩ := h2
      obtain ⟨p, rfl⟩ : ∃ p : Nat, a = (p : Int) := ⟨a.toNat, by omega⟩
      have hp : p < 3 := by omega
      obtain ⟨q, rfl⟩ : ∃ q : Nat, b = (q : Int) := ⟨b.toNat, by omega⟩
      have hq : q < 3 := by omega
      rw [Int.toNat_natCast, Int.toNat_natCast] at e1 e2
      rw [hrv] at e2
      refine ⟨by rw [e1, e2]; exact stand_eq (hT p hp) (hT q hq), RelI.keep hI (fun a ha => ?_) ?_ ?_ ?_⟩
      · rw [x2.1 a (by omega) (by omega)]; exact x1 a (by omega)
      · rw [x2.1 9 (by decide) (by decide), x1 9 (by omega)]
      · rw [x2.2 2 (by decide), hu 31 (by decide)]
      · rw [x2.2 4 (by decide), hu 31 (by decide)]
theorem up_against {w w1 : mW} {z1 : Int} {a b c : Int} (h1 : (¬ (0 ≤ a ∧ a < 3 ∧ 0 ≤ b ∧ b < 3 ∧ ((0 ≤ c ∧ c ≤ 4) ∨ (10 ≤ c ∧ c < 74))) ∧ z1 = -1000001 ∧ w1 = w) ∨ ((0 ≤ a ∧ a < 3 ∧ 0 ≤ b ∧ b < 3 ∧ ((0 ≤ c ∧ c ≤ 4) ∨ (10 ≤ c ∧ c < 74))) ∧ z1 = againB w (2 * a.toNat + 1) (2 * b.toNat + 1) (bSt w (2 * a.toNat + 1) (2 * b.toNat + 1)) (faultB rsnS w (2 * a.toNat + 1) (2 * b.toNat + 1) (bSt w (2 * a.toNat + 1) (2 * b.toNat + 1))) c ∧ ∀ i : Nat, i < 25 ∨ 30 < i → w1 i = w i)) : Up w w1 := by
  rcases h1 with ⟨_, _, x⟩ | ⟨v, _, x⟩
  · rw [x]; exact Up.refl w
  · exact fun a' ha' => x a' (by omega)
theorem q_against {w w1 w2 : mW} {z1 z2 : Int} {a b c : Int} (h : RelT w) (h1 : (¬ (0 ≤ a ∧ a < 3 ∧ 0 ≤ b ∧ b < 3 ∧ ((0 ≤ c ∧ c ≤ 4) ∨ (10 ≤ c ∧ c < 74))) ∧ z1 = -1000001 ∧ w1 = w) ∨ ((0 ≤ a ∧ a < 3 ∧ 0 ≤ b ∧ b < 3 ∧ ((0 ≤ c ∧ c ≤ 4) ∨ (10 ≤ c ∧ c < 74))) ∧ z1 = againB w (2 * a.toNat + 1) (2 * b.toNat + 1) (bSt w (2 * a.toNat + 1) (2 * b.toNat + 1)) (faultB rsnS w (2 * a.toNat + 1) (2 * b.toNat + 1) (bSt w (2 * a.toNat + 1) (2 * b.toNat + 1))) c ∧ ∀ i : Nat, i < 25 ∨ 30 < i → w1 i = w i)) (h2 : (¬ (0 ≤ a ∧ a < 3 ∧ 0 ≤ b ∧ b < 3 ∧ ((0 ≤ c ∧ c ≤ 4) ∨ (10 ≤ c ∧ c < 74))) ∧ z2 = -1000001 ∧ w2 = w1) ∨ ((0 ≤ a ∧ a < 3 ∧ 0 ≤ b ∧ b < 3 ∧ ((0 ≤ c ∧ c ≤ 4) ∨ (10 ≤ c ∧ c < 74))) ∧ z2 = ragB (rv w1) (2 * a.toNat + 1) (2 * b.toNat + 1) (bSt (rv w1) (2 * a.toNat + 1) (2 * b.toNat + 1)) (faultB rsnS (rv w1) (2 * a.toNat + 1) (2 * b.toNat + 1) (bSt (rv w1) (2 * a.toNat + 1) (2 * b.toNat + 1))) c ∧ rkeep w1 w2)) : z1 = z2 ∧ RelI w2 := by
  have hu := up_against h1
  have hrv := rv_up hu
  obtain ⟨hI, hT⟩ := h
  rcases h1 with ⟨n1, e1, x1⟩ | ⟨v1, h1⟩
  · rcases h2 with ⟨n2, e2, x2⟩ | ⟨v2, h2⟩
    · rw [e1, e2, x2, x1]; exact ⟨rfl, hI⟩
    · exact absurd v2 n1
  · rcases h2 with ⟨n2, e2, x2⟩ | ⟨v2, h2⟩
    · exact absurd v1 n2
    · obtain ⟨e1, x1⟩ := h1
      obtain ⟨e2, x2⟩ := h2
      obtain ⟨p, rfl⟩ : ∃ p : Nat, a = (p : Int) := ⟨a.toNat, by omega⟩
      have hp : p < 3 := by omega
      obtain ⟨q, rfl⟩ : ∃ q : Nat, b = (q : Int) := ⟨b.toNat, by omega⟩
      have hq : q < 3 := by omega
      have kp := (hI.1.1.ok hp)
      have kq := (hI.1.1.ok hq)
      rw [Int.toNat_natCast, Int.toNat_natCast] at e1 e2
      rw [hrv] at e2
      refine ⟨by rw [e1, e2]; exact against_eq (hT p hp) (hT q hq) kp kq (by omega), RelI.keep hI (fun a ha => ?_) ?_ ?_ ?_⟩
      · rw [x2.1 a (by omega) (by omega)]; exact x1 a (by omega)
      · rw [x2.1 9 (by decide) (by decide), x1 9 (by omega)]
      · rw [x2.2 2 (by decide), hu 31 (by decide)]
      · rw [x2.2 4 (by decide), hu 31 (by decide)]
theorem up_count {w w1 : mW} {z1 : Int} {c : Int} (h1 : z1 = countF w c ∧ ∀ i : Nat, i < 25 ∨ 30 < i → w1 i = w i) : Up w w1 := by
  exact fun a' ha' => h1.2 a' (by omega)
theorem q_count {w w1 w2 : mW} {z1 z2 : Int} {c : Int} (h : RelT w) (h1 : z1 = countF w c ∧ ∀ i : Nat, i < 25 ∨ 30 < i → w1 i = w i) (h2 : z2 = rcountF w1 c ∧ rkeep w1 w2) : z1 = z2 ∧ RelI w2 := by
  have hu := up_count h1
  have hrv := rv_up hu
  obtain ⟨hI, hT⟩ := h
  obtain ⟨e1, x1⟩ := h1
  obtain ⟨e2, x2⟩ := h2
  have u31 : w1 31 = w 31 := hu 31 (by decide)
  refine ⟨?_, RelI.keep hI (fun a ha => ?_) ?_ ?_ ?_⟩
  · rw [e1, e2]
    unfold countF rcountF
    rw [hrv, u31]
    by_cases c0 : c = 0
    · rw [if_neg (by omega), if_pos c0, if_pos c0]
      have hl : ∀ p : Nat, p < 3 → lastC w (2 * p + 1) = cnt (fun s => decide (¬ kdF (rv w) (2 * p + 1) (s : Int) = 0)) 8 := fun p hp => cnt_congr (fun s _ => by
        show decide (¬ w (2 * p + 2) ((s : Int) * 7) = 0) = decide (¬ rv w (2 * p + 2) ((s : Int) * 7) = 0)
        rw [hT p hp])
      have h0 := hl 0 (by decide)
      have h1 := hl 1 (by decide)
      have h2 := hl 2 (by decide)
      rw [show lastC w 1 = _ from h0, show lastC w 3 = _ from h1, show lastC w 5 = _ from h2]
    · rw [if_neg c0]
      by_cases c1 : c = 1
      · rw [if_neg (by omega), if_neg c0, if_pos c1, if_pos c1]
        have hl : ∀ p : Nat, p < 3 → ∀ s : Int, hasW w (2 * p + 1) s = hasW (rv w) (2 * p + 1) s := fun p hp s => congrFun (hasW_congr (hT p hp)) s
        have ha : ∀ p : Nat, p < 3 → arrC w (2 * p + 1) = msum (fun s => mpop (wmask (hasW (rv w) (2 * p + 1) s) 6)) 8 := fun p hp => by
          unfold arrC
          congr 1
          funext s
          rw [hl p hp]
        have h0 := ha 0 (by decide)
        have h1 := ha 1 (by decide)
        have h2 := ha 2 (by decide)
        rw [show arrC w 1 = _ from h0, show arrC w 3 = _ from h1, show arrC w 5 = _ from h2]
        have hm : ∀ f : Nat → Nat → Nat, msum (fun k => f (k / 8) (k % 8)) 24 = msum (f 0) 8 + msum (f 1) 8 + msum (f 2) 8 := fun f => by
          simp [msum]; omega
        have := hm (fun p s => mpop (wmask (hasW (rv w) (2 * p + 1) (s : Int)) 6))
        rw [this]
        push_cast
        rfl
      · rw [if_neg c1]
        by_cases c2 : c = 2
        · rw [if_neg (by omega), if_neg c0, if_neg c1, if_pos c2, if_pos c2]; exact hI.2.2.1
        · rw [if_neg c2]
          by_cases c3 : c = 3
          · rw [if_neg (by omega), if_neg c0, if_neg c1, if_neg c2, if_pos c3, if_pos c3]; exact hI.2.2.2.2.1
          · rw [if_neg c3]
            by_cases c4 : 10 ≤ c ∧ c < 19
            · have c4' : 10 ≤ c ∧ c ≤ 18 := by omega
              simp only [if_neg c0, if_neg c1, if_neg c2, if_neg c3, if_pos c4, if_pos c4']
              exact stand_eq (hT ((c - 10) / 3).toNat (by omega)) (hT ((c - 10) % 3).toNat (by omega))
            · have c4' : ¬ (10 ≤ c ∧ c ≤ 18) := by omega
              simp only [if_neg c0, if_neg c1, if_neg c2, if_neg c3, if_neg c4, if_neg c4']
  · rw [x2.1 a (by omega) (by omega)]; exact x1 a (by omega)
  · rw [x2.1 9 (by decide) (by decide), x1 9 (by omega)]
  · rw [x2.2 2 (by decide), u31]
  · rw [x2.2 4 (by decide), u31]
