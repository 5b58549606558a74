/-! the pairs gone through are closed under going on -/
def Kp (B B' : Bf) : Prop := bN B ≤ bN B' ∧ (∀ i : Int, i < bN B → bP B' i = bP B i) ∧ ∀ t : Int, ¬ bS B t = -1 → ¬ bS B' t = -1
theorem Kp.refl (B : Bf) : Kp B B := ⟨Nat.le_refl _, fun _ _ => rfl, fun _ h => h⟩
theorem Kp.trans {A B C : Bf} (h : Kp A B) (g : Kp B C) : Kp A C :=
  ⟨Nat.le_trans h.1 g.1, fun i hi => (g.2.1 i (by have := h.1; omega)).trans (h.2.1 i hi), fun t ht => g.2.2 t (h.2.2 t ht)⟩
theorem kp_add (B : Bf) (t ln og k : Int) : Kp B (addB B t ln og k) := by
  refine ⟨Nat.le_succ _, fun i hi => ?_, fun s hs => ?_⟩
  · show iup (bP B) (bN B) t i = bP B i
    exact iup_ne _ _ (by omega)
  · show ¬ iup (bS B) t (bN B) s = -1
    unfold iup
    split
    · omega
    · exact hs
theorem kp_stp (nx : Int → Int → Int) (B : Bf) (a k : Int) : Kp B (stp nx B a k) := by
  unfold stp; split
  · exact Kp.refl B
  · exact kp_add B _ _ _ _
theorem kp_inn (nx : Int → Int → Int) (B : Bf) (a : Int) : ∀ n, Kp B (inn nx B a n)
  | 0 => Kp.refl B
  | n + 1 => (kp_inn nx B a n).trans (kp_stp nx _ a n)
def ClT (nx : Int → Int → Int) (B : Bf) (i : Int) (n : Nat) : Prop := ∀ k : Int, 0 ≤ k → k < n → nx (bP B i) k = -1 ∨ ¬ bS B (nx (bP B i) k) = -1
theorem ClT.keep {nx : Int → Int → Int} {B B' : Bf} {i : Int} {n : Nat} (h : ClT nx B i n) (g : Kp B B') (hi : i < bN B) : ClT nx B' i n := by
  intro k k0 k1
  rw [g.2.1 i hi]
  rcases h k k0 k1 with q | q
  · exact Or.inl q
  · exact Or.inr (g.2.2 _ q)
theorem clt_stp (nx : Int → Int → Int) {B : Bf} {a k : Int} (ha : a < bN B) : nx (bP (stp nx B a k) a) k = -1 ∨ ¬ bS (stp nx B a k) (nx (bP (stp nx B a k) a) k) = -1 := by
  rw [(kp_stp nx B a k).2.1 a ha]
  unfold stp
  split
  · next q => exact q
  · right
    show ¬ iup (bS B) (nx (bP B a) k) (bN B) (nx (bP B a) k) = -1
    rw [iup_at]; omega
theorem clt_inn (nx : Int → Int → Int) {B : Bf} {a : Int} (ha : a < bN B) : ∀ n, ClT nx (inn nx B a n) a n
  | 0 => fun k k0 k1 => absurd k1 (by omega)
  | n + 1 => by
    have h1 := kp_inn nx B a n
    have ha1 : a < bN (inn nx B a n) := by have := h1.1; omega
    intro k k0 k1
    by_cases e : k = (n : Int)
    · subst e; exact clt_stp nx ha1
    · exact (clt_inn nx ha n).keep (kp_stp nx _ a n) ha1 k k0 (by omega)
theorem clt_bfsN (nx : Int → Int → Int) : ∀ (n : Nat) (i : Int), 0 ≤ i → i < n → i < bN (bfsN nx n) → ClT nx (bfsN nx n) i 6
  | 0, i, h0, h1, _ => absurd h1 (by omega)
  | n + 1, i, h0, h1, h2 => by
    have ih := clt_bfsN nx n i h0
    by_cases q : n < bN (bfsN nx n)
    · have e : bfsN nx (n + 1) = inn nx (bfsN nx n) n 6 := if_pos q
      rw [e]
      by_cases qi : i = (n : Int)
      · subst qi; exact clt_inn nx (by omega) 6
      · exact (ih (by omega) (by omega)).keep (kp_inn nx _ _ 6) (by omega)
    · have e : bfsN nx (n + 1) = bfsN nx n := if_neg q
      rw [e] at h2 ⊢
      exact ih (by omega) h2
theorem bfs_closed {nx : Int → Int → Int} (hnx : NxOK nx) {i k : Int} (hi : 0 ≤ i ∧ i < bN (bfs nx)) (hk : 0 ≤ k ∧ k < 6) : nx (bP (bfs nx) i) k = -1 ∨ ¬ bS (bfs nx) (nx (bP (bfs nx) i) k) = -1 := by
  have hle := (bfs_inv hnx).le
  have h64 := fun (n : Nat) (e : bfs nx = bfsN nx n) (h : i < n) => (by
    have hc := clt_bfsN nx n i hi.1 h (by rw [← e]; exact hi.2) k hk.1 (by omega)
    rw [← e] at hc; exact hc : nx (bP (bfs nx) i) k = -1 ∨ ¬ bS (bfs nx) (nx (bP (bfs nx) i) k) = -1)
  exact h64 64 (by unfold bfs; rfl) (by omega)
/-- the places of the pairs behind a pair: each of them is listed -/
def SxC (sx : Int → Int → Int) (nx : Int → Int → Int) (B : Bf) : Prop := ∀ i k : Int, 0 ≤ i → i < bN B → 0 ≤ k → k < 6 → (nx (bP B i) k = -1 ∧ sx i k = -1) ∨ (0 ≤ nx (bP B i) k ∧ nx (bP B i) k < 64 ∧ sx i k = bS B (nx (bP B i) k) ∧ 0 ≤ sx i k ∧ sx i k < bN B)
theorem sxC_of {w : mW} {p q : Nat} {B : Bf} (hnx : NxOK (nxF togT w p q)) (hB : BInv B) (hcl : ∀ i k : Int, (0 ≤ i ∧ i < bN B) → (0 ≤ k ∧ k < 6) → nxF togT w p q (bP B i) k = -1 ∨ ¬ bS B (nxF togT w p q (bP B i) k) = -1) : SxC (posF togT w p q B) (nxF togT w p q) B := by
  intro i k i0 i1 k0 k1
  have hc := hcl i k ⟨i0, i1⟩ ⟨k0, k1⟩
  have hP := (hB.2.2.1 i i0 i1).1
  have hr := hnx (bP B i) k hP.1 hP.2 k0 k1
  by_cases e : nxF togT w p q (bP B i) k = -1
  · exact Or.inl ⟨e, if_pos e⟩
  · have hv : posF togT w p q B i k = bS B (nxF togT w p q (bP B i) k) := if_neg e
    rcases hr with hr | hr
    · exact absurd hr e
    · rcases hc with hc | hc
      · exact absurd hc e
      · rcases hB.2.2.2.1 _ hr.1 hr.2 with h | h
        · exact absurd h hc
        · exact Or.inr ⟨hr.1, hr.2, hv, by rw [hv]; exact h.1, by rw [hv]; exact h.2.1⟩
theorem sxC_pos {w : mW} {p q : Nat} (hp : PlanOK w p) (hq : PlanOK w q) : SxC (posF togT w p q (bT w p q)) (nxF togT w p q) (bT w p q) :=
  have hx := nxF_ok (tog := togT) hp hq
  have h : ∀ B : Bf, B = bfs (nxF togT w p q) → SxC (posF togT w p q B) (nxF togT w p q) B := fun B e =>
    sxC_of hx (by rw [e]; exact bfs_inv hx) (fun i k hi hk => by
      have bc := fun h1 h2 => bfs_closed (nx := nxF togT w p q) (i := i) (k := k) hx h1 h2
      rw [← e] at bc
      exact bc hi hk)
  h _ rfl
