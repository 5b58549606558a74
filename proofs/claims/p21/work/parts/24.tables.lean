/-! PLANS AS ONE NUMBER: a hexadecimal digit a cell, one more than its value -/
def tb (N : Nat) : Pn := fun p b => match b with
  | Int.ofNat n => cond (Nat.ble 56 n) 0 (Int.subNatNat (Nat.mod (Nat.div N (Nat.pow 16 (Nat.add (Nat.mul 56 p) n))) 16) 1)
  | Int.negSucc _ => 0
theorem tb_out (N p : Nat) {b : Int} (h : ¬ (0 ≤ b ∧ b < 56)) : tb N p b = 0 := by
  rcases b with n | n
  · have : Nat.ble 56 n = true := Nat.ble_eq_true_of_le (by have : ¬ ((n : Int) < 56) := fun q => h ⟨Int.natCast_nonneg n, q⟩; omega)
    unfold tb
    simp only [this]; rfl
  · rfl
theorem allb_iff {f : Nat → Bool} : ∀ n, allb f n = true ↔ ∀ k, k < n → f k = true
  | 0 => ⟨fun _ k hk => absurd hk (Nat.not_lt_zero k), fun _ => rfl⟩
  | n + 1 => by
    unfold allb
    rw [Bool.and_eq_true, allb_iff n]
    refine ⟨fun h k hk => ?_, fun h => ⟨fun k hk => h k (by omega), h n (by omega)⟩⟩
    by_cases e : k = n
    · rw [e]; exact h.2
    · exact h.1 k (by omega)
def eqP (P P' : Pn) : Bool := allb (fun q => allb (fun n => decide (P q (n : Int) = P' q (n : Int))) 56) 3
theorem eqP_at {P P' : Pn} (h : eqP P P' = true) {q : Nat} (hq : q < 3) {b : Int} (hb : 0 ≤ b ∧ b < 56) : P q b = P' q b := by
  have h1 := (allb_iff 56).mp ((allb_iff 3).mp h q hq) b.toNat (by omega)
  have h2 := of_decide_eq_true h1
  rwa [Int.toNat_of_nonneg hb.1] at h2
theorem Ob.to {w : mW} {P : Pn} {Hs : List Pn} {tx : List Int} {V : Int → Int} (h : Ob w P Hs tx V) {N : Nat} (e : eqP P (tb N) = true) : Ob w (tb N) Hs tx V := by
  have key : ∀ q, q < 3 → P q = tb N q := fun q hq => by
    funext b
    by_cases hb : 0 ≤ b ∧ b < 56
    · exact eqP_at e hq hb
    · rw [tb_out N q hb]; exact (h.2.1 q hq).1 b hb
  obtain ⟨g1, g2, g3⟩ := h
  exact ⟨fun p hp => (g1 p hp).trans (key p hp), fun p hp => by rw [← key p hp]; exact g2 p hp, g3⟩
