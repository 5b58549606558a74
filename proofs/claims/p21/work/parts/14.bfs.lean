/-! GOING THROUGH PAIRS, purely: n, pairs, positions, lengths, origins, last words -/
abbrev Bf : Type := Nat × (Int → Int) × (Int → Int) × (Int → Int) × (Int → Int) × (Int → Int)
abbrev bN (B : Bf) : Nat := B.1
abbrev bP (B : Bf) : Int → Int := B.2.1
abbrev bS (B : Bf) : Int → Int := B.2.2.1
abbrev bL (B : Bf) : Int → Int := B.2.2.2.1
abbrev bO (B : Bf) : Int → Int := B.2.2.2.2.1
abbrev bW (B : Bf) : Int → Int := B.2.2.2.2.2
def iup (f : Int → Int) (k v : Int) : Int → Int := fun b => if b = k then v else f b
theorem iup_at (f : Int → Int) (k v : Int) : iup f k v k = v := by simp [iup]
theorem iup_ne (f : Int → Int) {k b : Int} (v : Int) (h : ¬ b = k) : iup f k v b = f b := by simp [iup, h]
def addB (B : Bf) (t ln og k : Int) : Bf := (bN B + 1, iup (bP B) (bN B) t, iup (bS B) t (bN B), iup (bL B) (bN B) ln, iup (bO B) (bN B) og, iup (bW B) (bN B) k)
def b0 : Bf := addB (0, fun _ => 0, fun _ => -1, fun _ => 0, fun _ => 0, fun _ => 0) 0 0 (-1) (-1)
def stp (nx : Int → Int → Int) (B : Bf) (at_ k : Int) : Bf := if nx (bP B at_) k = -1 ∨ ¬ bS B (nx (bP B at_) k) = -1 then B else addB B (nx (bP B at_) k) (bL B at_ + 1) at_ k
def inn (nx : Int → Int → Int) (B : Bf) (at_ : Int) : Nat → Bf
  | 0 => B
  | k + 1 => stp nx (inn nx B at_ k) at_ k
def bfsN (nx : Int → Int → Int) : Nat → Bf
  | 0 => b0
  | n + 1 => if n < bN (bfsN nx n) then inn nx (bfsN nx n) n 6 else bfsN nx n
def bfs (nx : Int → Int → Int) : Bf := bfsN nx 64
def NxOK (nx : Int → Int → Int) : Prop := ∀ t k : Int, 0 ≤ t → t < 64 → 0 ≤ k → k < 6 → nx t k = -1 ∨ (0 ≤ nx t k ∧ nx t k < 64)
def BInv (B : Bf) : Prop := 1 ≤ bN B ∧ cnt (fun t => decide (¬ bS B t = -1)) 64 = bN B ∧
  (∀ i : Int, 0 ≤ i → i < bN B → (0 ≤ bP B i ∧ bP B i < 64) ∧ bS B (bP B i) = i ∧ (0 ≤ bL B i ∧ bL B i ≤ i) ∧ (0 < i → (0 ≤ bO B i ∧ bO B i < i) ∧ bL B i = bL B (bO B i) + 1 ∧ (0 ≤ bW B i ∧ bW B i < 6))) ∧
  (∀ t : Int, 0 ≤ t → t < 64 → bS B t = -1 ∨ (0 ≤ bS B t ∧ bS B t < bN B ∧ bP B (bS B t) = t)) ∧ bP B 0 = 0 ∧ bO B 0 = -1 ∧ bW B 0 = -1
theorem cnt_congr {f g : Nat → Bool} : ∀ {n : Nat}, (∀ i, i < n → f i = g i) → cnt f n = cnt g n
  | 0, _ => rfl
  | n + 1, h => by show cnt f n + (f n).toNat = cnt g n + (g n).toNat; rw [cnt_congr (fun i hi => h i (by omega)), h n (by omega)]
theorem cnt_add {f g : Nat → Bool} {t : Nat} (hf : f t = false) (hg : g t = true) : ∀ {n : Nat}, t < n → (∀ i, i < n → i ≠ t → f i = g i) → cnt g n = cnt f n + 1
  | 0, h, _ => by omega
  | n + 1, h, hh => by
    show cnt g n + (g n).toNat = cnt f n + (f n).toNat + 1
    by_cases e : n = t
    · subst e
      rw [hf, hg, cnt_congr (f := g) (g := f) (fun i hi => (hh i (by omega) (by omega)).symm)]; rfl
    · rw [cnt_add hf hg (n := n) (by omega) (fun i hi hne => hh i (by omega) hne), hh n (by omega) e]; omega
theorem cnt_lt {f : Nat → Bool} {t n : Nat} (hf : f t = false) (ht : t < n) : cnt f n < n := by
  have h := cnt_add (f := f) (g := fun i => if i = t then true else f i) hf (by simp) ht (fun i _ hne => by simp [hne])
  have h2 := cnt_le (fun i => if i = t then true else f i) n
  omega
theorem BInv.le {B : Bf} (h : BInv B) : bN B ≤ 64 := by rw [← h.2.1]; exact cnt_le _ 64
theorem BInv.lt {B : Bf} (h : BInv B) {t : Int} (h0 : 0 ≤ t) (h1 : t < 64) (ht : bS B t = -1) : bN B < 64 := by
  rw [← h.2.1]
  exact cnt_lt (t := t.toNat) (by rw [Int.toNat_of_nonneg h0]; simp [ht]) (by omega)
theorem BInv.add {B : Bf} (h : BInv B) {t og k : Int} (h0 : 0 ≤ t) (h1 : t < 64) (ht : bS B t = -1) (ho : 0 ≤ og ∧ og < bN B) (hk : 0 ≤ k ∧ k < 6) : BInv (addB B t (bL B og + 1) og k) := by
  obtain ⟨i1, i2, i3, i4, i5, i6, i7⟩ := h
  have hlo := (i3 og ho.1 ho.2).2.2.1
  refine ⟨by show 1 ≤ bN B + 1; omega, ?_, ?_, ?_, ?_, ?_, ?_⟩
  · show cnt (fun s => decide (¬ iup (bS B) t (bN B) s = -1)) 64 = bN B + 1
    rw [← i2]
    refine cnt_add (t := t.toNat) (by simp [Int.toNat_of_nonneg h0, ht]) ?_ (by omega) (fun i hi hne => ?_)
    · simp only [Int.toNat_of_nonneg h0, iup_at]; exact decide_eq_true (by omega)
    · have : ¬ (i : Int) = t := by omega
      simp [iup, this]
  · intro i hi0 hi1
    have hi1' : i < bN B + 1 := by have : ((bN B + 1 : Nat) : Int) = (bN B : Int) + 1 := rfl; exact hi1
    show (0 ≤ iup (bP B) (bN B) t i ∧ iup (bP B) (bN B) t i < 64) ∧ iup (bS B) t (bN B) (iup (bP B) (bN B) t i) = i ∧ (0 ≤ iup (bL B) (bN B) (bL B og + 1) i ∧ iup (bL B) (bN B) (bL B og + 1) i ≤ i) ∧ (0 < i → (0 ≤ iup (bO B) (bN B) og i ∧ iup (bO B) (bN B) og i < i) ∧ iup (bL B) (bN B) (bL B og + 1) i = iup (bL B) (bN B) (bL B og + 1) (iup (bO B) (bN B) og i) + 1 ∧ (0 ≤ iup (bW B) (bN B) k i ∧ iup (bW B) (bN B) k i < 6))
    by_cases e : i = bN B
    · rw [e]
      simp only [iup_at]
      rw [iup_ne _ _ (by omega : ¬ og = (bN B : Int))]
      exact ⟨⟨h0, h1⟩, trivial, ⟨by omega, by omega⟩, fun _ => ⟨ho, rfl, hk⟩⟩
    · obtain ⟨a1, a2, a3, a4⟩ := i3 i hi0 (by omega)
      have hne : ¬ bP B i = t := fun q => by rw [q, ht] at a2; omega
      rw [iup_ne _ _ e, iup_ne _ _ e, iup_ne _ _ e, iup_ne _ _ e, iup_ne _ _ hne]
      refine ⟨a1, a2, a3, fun hpos => ?_⟩
      obtain ⟨c1, c2, c3⟩ := a4 hpos
      rw [iup_ne _ _ (by omega : ¬ bO B i = (bN B : Int))]
      exact ⟨c1, c2, c3⟩
  · intro s hs0 hs1
    show iup (bS B) t (bN B) s = -1 ∨ (0 ≤ iup (bS B) t (bN B) s ∧ iup (bS B) t (bN B) s < ((bN B + 1 : Nat) : Int) ∧ iup (bP B) (bN B) t (iup (bS B) t (bN B) s) = s)
    by_cases e : s = t
    · subst e
      rw [iup_at, iup_at]
      exact Or.inr ⟨by omega, by omega, rfl⟩
    · rw [iup_ne _ _ e]
      rcases i4 s hs0 hs1 with a | ⟨a, b, c⟩
      · exact Or.inl a
      · rw [iup_ne _ _ (by omega : ¬ bS B s = (bN B : Int))]
        exact Or.inr ⟨a, by omega, c⟩
  · show iup (bP B) (bN B) t 0 = 0
    rw [iup_ne _ _ (by omega)]; exact i5
  · show iup (bO B) (bN B) og 0 = -1
    rw [iup_ne _ _ (by omega)]; exact i6
  · show iup (bW B) (bN B) k 0 = -1
    rw [iup_ne _ _ (by omega)]; exact i7
theorem BInv.zero : BInv b0 := by
  refine ⟨Nat.le_refl 1, by decide +kernel, ?_, ?_, rfl, rfl, rfl⟩
  · intro i h0 h1
    have hb : (bN b0 : Int) = 1 := rfl
    have e : i = 0 := by omega
    subst e
    exact ⟨⟨by decide, by decide⟩, rfl, ⟨by decide, by decide⟩, fun h => absurd h (by decide)⟩
  · intro t h0 h1
    by_cases e : t = 0
    · subst e; exact Or.inr ⟨by decide, by decide, rfl⟩
    · exact Or.inl (by show iup (fun _ => -1) 0 _ t = -1; rw [iup_ne _ _ e])
theorem binv_stp {nx : Int → Int → Int} (hnx : NxOK nx) {B : Bf} (h : BInv B) {a k : Int} (ha : 0 ≤ a ∧ a < bN B) (hk : 0 ≤ k ∧ k < 6) : BInv (stp nx B a k) := by
  unfold stp
  split
  · exact h
  · next q =>
    have hp := (h.2.2.1 a ha.1 ha.2).1
    have hr := hnx (bP B a) k hp.1 hp.2 hk.1 hk.2
    refine h.add ?_ ?_ ?_ ha hk
    · rcases hr with e | e
      · exact absurd (Or.inl e) q
      · exact e.1
    · rcases hr with e | e
      · exact absurd (Or.inl e) q
      · exact e.2
    · exact Classical.byContradiction fun e => q (Or.inr e)
theorem stp_n (nx : Int → Int → Int) (B : Bf) (a k : Int) : bN B ≤ bN (stp nx B a k) := by
  unfold stp; split
  · exact Nat.le_refl _
  · exact Nat.le_succ _
theorem inn_inv {nx : Int → Int → Int} (hnx : NxOK nx) {B : Bf} (h : BInv B) {a : Int} (ha : 0 ≤ a ∧ a < bN B) : ∀ n, n ≤ 6 → BInv (inn nx B a n) ∧ bN B ≤ bN (inn nx B a n)
  | 0, _ => ⟨h, Nat.le_refl _⟩
  | n + 1, hn => by
    obtain ⟨h1, h2⟩ := inn_inv hnx h ha n (by omega)
    exact ⟨binv_stp hnx h1 (by omega) (by omega), Nat.le_trans h2 (stp_n _ _ _ _)⟩
theorem bfsN_inv {nx : Int → Int → Int} (hnx : NxOK nx) : ∀ n, BInv (bfsN nx n)
  | 0 => BInv.zero
  | n + 1 => by
    have h := bfsN_inv hnx n
    unfold bfsN
    split
    · next q => exact (inn_inv hnx h (by omega) 6 (Nat.le_refl 6)).1
    · exact h
theorem bfsN_stop {nx : Int → Int → Int} {n : Nat} (h : bN (bfsN nx n) ≤ n) : ∀ m, n ≤ m → bfsN nx m = bfsN nx n := by
  intro m
  induction m with
  | zero => intro hm; obtain rfl : n = 0 := by omega
            rfl
  | succ m ih =>
    intro hm
    by_cases e : n = m + 1
    · rw [e]
    · have h1 := ih (by omega)
      show (if m < bN (bfsN nx m) then _ else _) = _
      rw [h1, if_neg (by omega)]
theorem bfs_inv {nx : Int → Int → Int} (hnx : NxOK nx) : BInv (bfs nx) := bfsN_inv hnx 64
/-- the first place at which something holds, or -1 -/
def ffst (f : Nat → Bool) : Nat → Nat → Int
  | 0, _ => -1
  | k + 1, i => if f i then (i : Int) else ffst f k (i + 1)
theorem ffst_rng (f : Nat → Bool) : ∀ k i, ffst f k i = -1 ∨ ((i : Int) ≤ ffst f k i ∧ ffst f k i < (i : Int) + k)
  | 0, _ => Or.inl rfl
  | k + 1, i => by
    unfold ffst; split
    · exact Or.inr ⟨by omega, by omega⟩
    · rcases ffst_rng f k (i + 1) with h | h
      · exact Or.inl h
      · exact Or.inr ⟨by omega, by omega⟩
theorem ffst_congr {f g : Nat → Bool} : ∀ (k i : Nat), (∀ j, i ≤ j → j < i + k → f j = g j) → ffst f k i = ffst g k i
  | 0, _, _ => rfl
  | k + 1, i, h => by
    unfold ffst
    rw [h i (Nat.le_refl _) (by omega), ffst_congr k (i + 1) (fun j h1 h2 => h j (by omega) (by omega))]
/-- up the row, as long as it is longer than asked -/
def clm (B : Bf) (k : Int) : Nat → Int → Int
  | 0, p => p
  | f + 1, p => if k + 1 < bL B p then clm B k f (bO B p) else p
def rowF (B : Bf) (i k : Int) : Int := if k < bL B i then bW B (clm B k 64 i) else -1
theorem clm_done (B : Bf) (k : Int) (f : Nat) (p : Int) (h : ¬ k + 1 < bL B p) : clm B k f p = p := by
  cases f with
  | zero => rfl
  | succ f => unfold clm; rw [if_neg h]
/-- what the arrays of a pair object hold -/
def Agr (B : Bf) (w : mW) (nc : Nat) (nk : Int) (pP pS pL pO pW : Nat) : Prop := w nc nk = bN B ∧ (∀ i : Int, 0 ≤ i → i < bN B → w pP i = bP B i ∧ w pL i = bL B i ∧ w pO i = bO B i ∧ w pW i = bW B i) ∧ ∀ t : Int, 0 ≤ t → t < 64 → w pS t = bS B t
/-- kinds, words, reasons -/
def lackF (k : Int) (m m' : Nat) : Nat := if k = 1 then m ^^^ (m &&& m') else m' ^^^ (m' &&& m)
def rsnT (k : Int) (m : Nat) (k' : Int) (m' : Nat) : Int := if k = 0 ∨ k' = 0 then (if k = k' then 0 else 1) else if k = k' then (if k = 2 then 2 else 3) else if (if k = 1 then m else m') = 0 then 4 else if lackF k m m' = 0 then 0 else 5
def rsnS (k : Int) (m : Nat) (k' : Int) (m' : Nat) : Int := if ¬ k = k' then 1 else if k = 0 then 0 else if k = 1 ∧ m = 0 then 2 else if lackF k m m' = 0 then 0 else 3
def togT (k k' : Int) : Bool := decide (¬ k = 0 ∧ ¬ k' = 0 ∧ ¬ k = k')
def togS (k k' : Int) : Bool := decide (¬ k = 0 ∧ k = k')
def fwi (m : Nat) : Int := ffst (fun j => m.testBit j) 6 0
/-- a pair's successor by a word: kinds ka kb and targets ta tb by state (and word) -/
def nxG (tog : Int → Int → Bool) (ka kb : Int → Int) (ta tb : Int → Int → Int) : Int → Int → Int := fun t k =>
  if ta (t / 8) k = -1 ∨ tb (t % 8) k = -1 ∨ tog (ka (t / 8)) (kb (t % 8)) = false then -1 else ta (t / 8) k * 8 + tb (t % 8) k
def kdF (w : mW) (p : Nat) (s : Int) : Int := w (p + 1) (s * 7)
def tgF (w : mW) (p : Nat) (s k : Int) : Int := w (p + 1) (s * 7 + 1 + k)
def nxF (tog : Int → Int → Bool) (w : mW) (p q : Nat) : Int → Int → Int := nxG tog (kdF w p) (kdF w q) (tgF w p) (tgF w q)
theorem nxG_ok {tog : Int → Int → Bool} {ka kb : Int → Int} {ta tb : Int → Int → Int} (ha : ∀ s k : Int, 0 ≤ s → s < 8 → 0 ≤ k → k < 6 → -1 ≤ ta s k ∧ ta s k < 8) (hb : ∀ s k : Int, 0 ≤ s → s < 8 → 0 ≤ k → k < 6 → -1 ≤ tb s k ∧ tb s k < 8) : NxOK (nxG tog ka kb ta tb) := by
  intro t k h0 h1 h2 h3
  have a := ha (t / 8) k (by omega) (by omega) h2 h3
  have b := hb (t % 8) k (by omega) (by omega) h2 h3
  unfold nxG
  split
  · exact Or.inl rfl
  · next q => exact Or.inr ⟨by omega, by omega⟩
theorem nxF_ok {tog : Int → Int → Bool} {w : mW} {p q : Nat} (hp : PlanOK w p) (hq : PlanOK w q) : NxOK (nxF tog w p q) :=
  nxG_ok (fun s k h1 h2 h3 h4 => (hp s h1 h2).2 k h3 h4) (fun s k h1 h2 h3 h4 => (hq s h1 h2).2 k h3 h4)
def msk (w : mW) (p : Nat) (s : Int) : Nat := wmask (hasW w p s) 6
theorem msk_lt (w : mW) (p : Nat) (s : Int) : msk w p s < 64 := wmask_lt _ 6
theorem andn_lt {a b : Nat} (h : a < 64) : a ^^^ (a &&& b) < 64 := Nat.xor_lt_two_pow (n := 6) h (Nat.lt_of_le_of_lt Nat.and_le_left h)
theorem lackF_lt (k : Int) {m m' : Nat} (h : m < 64) (h' : m' < 64) : lackF k m m' < 64 := by
  unfold lackF; split
  · exact andn_lt h
  · exact andn_lt h'
/-- of a pair by its place: its reason, its first lacked word -/
def rsnB (rs : Int → Nat → Int → Nat → Int) (w : mW) (p q : Nat) (B : Bf) (i : Int) : Int := rs (kdF w p (bP B i / 8)) (msk w p (bP B i / 8)) (kdF w q (bP B i % 8)) (msk w q (bP B i % 8))
def lckB (tog : Int → Int → Bool) (w : mW) (p q : Nat) (B : Bf) (i : Int) : Int := if tog (kdF w p (bP B i / 8)) (kdF w q (bP B i % 8)) then fwi (lackF (kdF w p (bP B i / 8)) (msk w p (bP B i / 8)) (msk w q (bP B i % 8))) else -1
def faultB (rs : Int → Nat → Int → Nat → Int) (w : mW) (p q : Nat) (B : Bf) : Int := ffst (fun i => decide (¬ rsnB rs w p q B i = 0)) (bN B) 0
