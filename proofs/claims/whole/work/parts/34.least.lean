/-! states one comes to: the least closed set; lowest ones; how many are unlike -/
theorem wor_bit (g : Nat → Nat) (t : Nat) : ∀ n, (wor g n).testBit t = true ↔ ∃ k, k < n ∧ (g k).testBit t = true
  | 0 => by
    refine ⟨fun h => ?_, fun ⟨k, hk, _⟩ => absurd hk (by omega)⟩
    have e : wor g 0 = 0 := rfl
    rw [e, Nat.zero_testBit] at h; cases h
  | n + 1 => by
    have e : wor g (n + 1) = wor g n ||| g n := rfl
    rw [e, Nat.testBit_or, Bool.or_eq_true, wor_bit g t n]
    constructor
    · intro h
      rcases h with ⟨k, h1, h2⟩ | h
      · exact ⟨k, by omega, h2⟩
      · exact ⟨n, by omega, h⟩
    · intro ⟨k, h1, h2⟩
      by_cases q : k = n
      · subst q; exact Or.inr h2
      · exact Or.inl ⟨k, by omega, h2⟩
theorem sbOf_bit {w : mW} {p f t : Nat} (hk : PlanOK w p) (hf : f < 8) : (sbOf w p f).testBit t = true ↔ ∃ k : Nat, k < 6 ∧ 0 ≤ ldsF w p (f : Int) (k : Int) ∧ (ldsF w p (f : Int) (k : Int)).toNat = t := by
  have e : sbOf w p f = wor (sbF w p f) 6 := if_pos hf
  rw [e, wor_bit]
  have hb : ∀ k : Nat, k < 6 → ((sbF w p f k).testBit t = true ↔ 0 ≤ ldsF w p (f : Int) (k : Int) ∧ (ldsF w p (f : Int) (k : Int)).toNat = t) := by
    intro k hk6
    have t1 := tg_rng hk (s := (f : Int)) (k := (k : Int)) (by omega) (by omega)
    have es : sbF w p f k = if tgF w p (f : Int) (k : Int) = -1 ∨ kdF w p (f : Int) = 0 then 0 else 2 ^ (tgF w p (f : Int) (k : Int)).toNat := rfl
    have el : ldsF w p (f : Int) (k : Int) = if kdF w p (f : Int) = 0 then -1 else tgF w p (f : Int) (k : Int) := rfl
    rw [es, el]
    by_cases q0 : kdF w p (f : Int) = 0
    · rw [if_pos (Or.inr q0), if_pos q0, Nat.zero_testBit]
      exact ⟨fun h => by (cases h), fun h => by omega⟩
    · rw [if_neg q0]
      by_cases q1 : tgF w p (f : Int) (k : Int) = -1
      · rw [if_pos (Or.inl q1), Nat.zero_testBit]
        exact ⟨fun h => by (cases h), fun h => by omega⟩
      · rw [if_neg (by omega), Nat.testBit_two_pow, decide_eq_true_eq]
        exact ⟨fun h => ⟨by omega, h⟩, fun h => h.2⟩
  exact ⟨fun ⟨k, h1, h2⟩ => ⟨k, h1, (hb k h1).mp h2⟩, fun ⟨k, h1, h2⟩ => ⟨k, h1, (hb k h1).mpr h2⟩⟩
theorem rin_keep (sb : Nat → Nat) (r t : Nat) (h : r.testBit t = true) : ∀ n, (rin sb r n).testBit t = true
  | 0 => h
  | n + 1 => by
    have ih := rin_keep sb r t h n
    unfold rin
    split
    · rw [Nat.testBit_or, ih]; rfl
    · exact ih
theorem rin_add (sb : Nat → Nat) (r f t : Nat) (h : r.testBit f = true) (ht : (sb f).testBit t = true) : ∀ n, f < n → (rin sb r n).testBit t = true
  | 0, hn => absurd hn (by omega)
  | n + 1, hn => by
    have hf := rin_keep sb r f h n
    unfold rin
    by_cases q : f = n
    · subst q
      rw [if_pos hf, Nat.testBit_or, ht, Bool.or_true]
    · have ih := rin_add sb r f t h ht n (by omega)
      split
      · rw [Nat.testBit_or, ih]; rfl
      · exact ih
theorem rin_sub (sb : Nat → Nat) (r : Nat) (S : Nat → Bool) (hS : ∀ f t, f < 8 → S f = true → (sb f).testBit t = true → S t = true) (hr : ∀ t, r.testBit t = true → S t = true) : ∀ n, n ≤ 8 → ∀ t, (rin sb r n).testBit t = true → S t = true
  | 0, _, t, h => hr t h
  | n + 1, hn, t, h => by
    have ih := rin_sub sb r S hS hr n (by omega)
    have e : rin sb r (n + 1) = if (rin sb r n).testBit n then rin sb r n ||| sb n else rin sb r n := rfl
    rw [e] at h
    split at h
    · next q =>
      rw [Nat.testBit_or, Bool.or_eq_true] at h
      rcases h with h | h
      · exact ih t h
      · exact hS n t (by omega) (ih n q) h
    · exact ih t h
def Clo (sb : Nat → Nat) (r : Nat) : Prop := ∀ f t, f < 8 → r.testBit f = true → (sb f).testBit t = true → r.testBit t = true
theorem bit_lt8 {r t : Nat} (hr : r < 2 ^ 8) (h : r.testBit t = true) : t < 8 := by
  rcases Nat.lt_or_ge t 8 with q | q
  · exact q
  · rw [Nat.testBit_lt_two_pow (Nat.lt_of_lt_of_le hr (Nat.pow_le_pow_right (by decide) q))] at h; cases h
theorem rout_clo {sb : Nat → Nat} (hsb : ∀ n, sb n < 2 ^ 8) {s : Nat} (hs : s < 8) : ∀ n, Clo sb (rout sb (2 ^ s) n) ∨ n + 1 ≤ mpop (rout sb (2 ^ s) n)
  | 0 => Or.inr (by
    have hz : cnt (fun _ => false) 8 < mpop (2 ^ s) := cnt_monoL 8 s (fun k _ h => by cases h) hs rfl (by show (2 ^ s).testBit s = true; rw [Nat.testBit_two_pow]; simp)
    show 1 ≤ mpop (2 ^ s); omega)
  | n + 1 => by
    have ih := rout_clo hsb hs n
    have e : rout sb (2 ^ s) (n + 1) = rin sb (rout sb (2 ^ s) n) 8 := rfl
    rw [e]
    generalize rout sb (2 ^ s) n = r at ih ⊢
    by_cases q : Clo sb r
    · left
      intro f t hf h1 h2
      have hsub := rin_sub sb r (fun t => r.testBit t) (fun f t hf h1 h2 => q f t hf h1 h2) (fun _ h => h) 8 (Nat.le_refl 8)
      exact rin_keep sb r t (q f t hf (hsub f h1) h2) 8
    · right
      have hx : ∃ f t, f < 8 ∧ r.testBit f = true ∧ (sb f).testBit t = true ∧ r.testBit t = false := Classical.byContradiction fun z => q (fun f t hf h1 h2 => by
        cases e2 : r.testBit t with
        | true => rfl
        | false => exact absurd ⟨f, t, hf, h1, h2, e2⟩ z)
      obtain ⟨f, t, hf, h1, h2, h3⟩ := hx
      have hlt : mpop r < mpop (rin sb r 8) := cnt_monoL 8 t (fun k _ h => rin_keep sb r k h 8) (bit_lt8 (hsb f) h2) h3 (rin_add sb r f t h1 h2 8 hf)
      have := ih.resolve_left q
      omega
theorem full_bits {r : Nat} (h : 8 ≤ mpop r) {t : Nat} (ht : t < 8) : r.testBit t = true := by
  cases e : r.testBit t with
  | true => rfl
  | false =>
    have := cnt_lt (f := fun i => r.testBit i) (n := 8) e ht
    unfold mpop at h; omega
theorem cl_of {U : mW} {p : Nat} (hk : PlanOK U p) {S : Nat → Bool} (h : ∀ f t, f < 8 → S f = true → (sbOf U p f).testBit t = true → S t = true) : Cl U p S := fun a k ha hk6 hs h0 => h a _ ha hs ((sbOf_bit hk ha).mpr ⟨k, hk6, h0, rfl⟩)
theorem cl_to {U : mW} {p : Nat} (hk : PlanOK U p) {S : Nat → Bool} (h : Cl U p S) : ∀ f t, f < 8 → S f = true → (sbOf U p f).testBit t = true → S t = true := fun f t hf hs hb => by
  obtain ⟨k, hk6, h0, rfl⟩ := (sbOf_bit hk hf).mp hb
  exact h f k hf hk6 hs h0
theorem rout_sub {sb : Nat → Nat} {s : Nat} {S : Nat → Bool} (hS : ∀ f t, f < 8 → S f = true → (sb f).testBit t = true → S t = true) (hs : S s = true) : ∀ n t, (rout sb (2 ^ s) n).testBit t = true → S t = true
  | 0, t, h => by
    have e : rout sb (2 ^ s) 0 = 2 ^ s := rfl
    rw [e, Nat.testBit_two_pow, decide_eq_true_eq] at h
    rw [← h]; exact hs
  | n + 1, t, h => rin_sub sb _ S hS (rout_sub hS hs n) 8 (Nat.le_refl 8) t h
theorem rout_has (sb : Nat → Nat) (s : Nat) : ∀ n, (rout sb (2 ^ s) n).testBit s = true
  | 0 => by
    have e : rout sb (2 ^ s) 0 = 2 ^ s := rfl
    rw [e, Nat.testBit_two_pow]; simp
  | n + 1 => rin_keep sb _ s (rout_has sb s n) 8
theorem ris_comes {w : mW} {p s : Nat} (hk : PlanOK w p) (hs : s < 8) : RIs w p s (comesF w p s) := by
  have hlt := comesF_lt hk hs
  have hsb := sbOf_lt hk
  have hc : Clo (sbOf w p) (rout (sbOf w p) (2 ^ s) 7) := by
    rcases rout_clo hsb hs 7 with h | h
    · exact h
    · exact fun f t _ _ ht => full_bits h (bit_lt8 (hsb f) ht)
  exact ⟨hlt, rout_has _ s 7, cl_of hk hc, fun S hS hs0 a _ ha => rout_sub (cl_to hk hS) hs0 7 a ha⟩
theorem ris_uniq {U : mW} {p s M M' : Nat} (h : RIs U p s M) (h' : RIs U p s M') : M = M' := by
  obtain ⟨a1, a2, a3, a4⟩ := h
  obtain ⟨b1, b2, b3, b4⟩ := h'
  refine Nat.eq_of_testBit_eq fun i => ?_
  rcases Nat.lt_or_ge i 8 with q | q
  · cases e : M.testBit i with
    | true => exact (a4 (fun a => M'.testBit a) b3 b2 i q e).symm
    | false =>
      cases e' : M'.testBit i with
      | false => rfl
      | true => have := b4 (fun a => M.testBit a) a3 a2 i q e'; rw [e] at this; cases this
  · have hp : (2 : Nat) ^ 8 ≤ 2 ^ i := Nat.pow_le_pow_right (by decide) q
    rw [Nat.testBit_lt_two_pow (Nat.lt_of_lt_of_le a1 hp), Nat.testBit_lt_two_pow (Nat.lt_of_lt_of_le b1 hp)]
theorem ris_congr {w u : mW} {p s M : Nat} (h : u (p + 1) = w (p + 1)) (g : RIs u p s M) : RIs w p s M := by
  have e := ldsF_congr h
  have hc : ∀ S, Cl w p S → Cl u p S := fun S hS a k ha hk6 hs h0 => by rw [e] at h0 ⊢; exact hS a k ha hk6 hs h0
  refine ⟨g.1, g.2.1, fun a k ha hk6 hs h0 => ?_, fun S hS => g.2.2.2 S (hc S hS)⟩
  have := g.2.2.1 a k ha hk6 hs (by rw [e]; exact h0)
  rw [e] at this; exact this
theorem lowst_spec {f : Nat → Bool} {d : Nat} : ∀ (k j b : Nat), j ≤ b → b < j + k → f b = true → f (lowst f d k j) = true ∧ (j ≤ lowst f d k j ∧ lowst f d k j < j + k) ∧ ∀ x, j ≤ x → x < lowst f d k j → f x = false
  | 0, j, b, h1, h2, _ => absurd h2 (by omega)
  | k + 1, j, b, h1, h2, hb => by
    unfold lowst
    by_cases q : f j = true
    · rw [if_pos q]; exact ⟨q, ⟨Nat.le_refl j, by omega⟩, fun x a c => absurd c (by omega)⟩
    · rw [if_neg q]
      have hne : ¬ j = b := fun e => q (e ▸ hb)
      obtain ⟨i1, i2, i3⟩ := lowst_spec (f := f) (d := d) k (j + 1) b (by omega) (by omega) hb
      refine ⟨i1, ⟨by omega, by omega⟩, fun x a c => ?_⟩
      by_cases e : x = j
      · subst e; cases e2 : f x with
        | false => rfl
        | true => exact absurd e2 q
      · exact i3 x (by omega) c
theorem low_uniq {f : Nat → Bool} {a b : Nat} (ha : f a = true) (hb : f b = true) (la : ∀ x, x < a → f x = false) (lb : ∀ x, x < b → f x = false) : a = b := by
  rcases Nat.lt_trichotomy a b with q | q | q
  · rw [lb a q] at ha; cases ha
  · exact q
  · rw [la b q] at hb; cases hb
/-- the lowest of its class -/
def LowOf (E : Nat → Nat → Bool) (s m : Nat) : Prop := m < 8 ∧ E s m = true ∧ ∀ x, x < m → E s x = false
theorem lowF_low {w : mW} {p s : Nat} (hp : p + 1 ≠ 14) (hk : PlanOK w p) (hs : s < 8) : LowOf (En w p 7) s (lowF w p s) := by
  have hE : ∀ {j : Nat}, j < 8 → alkR (cmpF w p 7) s j = En w p 7 s j := fun hj => cmpF_7 hp hk hs hj
  have hr : alkR (cmpF w p 7) s s = true := by rw [hE hs]; exact (En_eqv hk 7).1 s hs
  obtain ⟨h1, h2, h3⟩ := lowst_spec (f := fun j => alk (cmpF w p 7) (s : Int) (j : Int)) (d := s) 8 0 s (Nat.zero_le s) (by omega) hr
  have h8 : lowF w p s < 8 := by have := h2.2; rw [Nat.zero_add] at this; exact this
  refine ⟨h8, ?_, fun x hx => ?_⟩
  · rw [← hE h8]; exact h1
  · rw [← hE (by omega)]; exact h3 x (Nat.zero_le x) hx
theorem isG_low {w : mW} {p s : Nat} {L : Nat → Nat} (hk : PlanOK w p) (hL : IsG w p (lkR L)) (hs : s < 8) : LowOf (En w p 7) s (lowst (fun j => (L s).testBit j) 8 8 0) := by
  have hE : ∀ j, j < 8 → lkR L s j = En w p 7 s j := fun j hj => isG_uniq hL (isG_En hk) hs hj
  have hr : lkR L s s = true := by rw [hE s hs]; exact (En_eqv hk 7).1 s hs
  obtain ⟨h1, h2, h3⟩ := lowst_spec (f := fun j => (L s).testBit j) (d := 8) 8 0 s (Nat.zero_le s) (by omega) hr
  have h8 : lowst (fun j => (L s).testBit j) 8 8 0 < 8 := by omega
  refine ⟨h8, ?_, fun x hx => ?_⟩
  · rw [← hE _ h8]; exact h1
  · rw [← hE x (by omega)]; exact h3 x (Nat.zero_le x) hx
theorem low_eq {E : Nat → Nat → Bool} {s a b : Nat} (ha : LowOf E s a) (hb : LowOf E s b) : a = b := low_uniq (f := fun j => E s j) ha.2.1 hb.2.1 ha.2.2 hb.2.2
theorem low_iff {E : Nat → Nat → Bool} (hE : Eqv E) {i j a b : Nat} (hi : i < 8) (hj : j < 8) (ha : LowOf E i a) (hb : LowOf E j b) : a = b ↔ E j i = true := by
  constructor
  · intro e
    subst e
    exact hE.2.2 j a i hj ha.1 hi hb.2.1 (hE.2.1 i a hi ha.1 ha.2.1)
  · intro h
    have h' := hE.2.1 j i hj hi h
    refine low_eq (E := E) (s := i) ha ⟨hb.1, hE.2.2 i j b hi hj hb.1 h' hb.2.1, fun x hx => ?_⟩
    cases e : E i x with
    | false => rfl
    | true =>
      have hx8 : x < 8 := by have := hb.1; omega
      have := hE.2.2 j i x hj hi hx8 h e
      rw [hb.2.2 x hx] at this; cases this
/-- each class once -/
def fsO (r : Nat) (low : Nat → Nat) (k : Nat) : Bool := allb (fun j => !(r.testBit j && decide (low j = low k))) k
theorem fsO_iff {r : Nat} {low : Nat → Nat} {k : Nat} : fsO r low k = true ↔ ∀ j, j < k → r.testBit j = true → ¬ low j = low k := by
  rw [fsO, allb_all]
  constructor
  · intro h j hj hb e
    have := h j hj
    rw [hb, decide_eq_true e] at this; cases this
  · intro h j hj
    cases e : r.testBit j with
    | false => rfl
    | true => rw [decide_eq_false (h j hj e)]; rfl
theorem unF_bit {r : Nat} {low : Nat → Nat} {t : Nat} : ∀ n, (unF r low n).testBit t = true ↔ ∃ j, j < n ∧ r.testBit j = true ∧ low j = t
  | 0 => by
    have e : unF r low 0 = 0 := rfl
    rw [e, Nat.zero_testBit]
    exact ⟨fun h => by (cases h), fun ⟨j, hj, _⟩ => absurd hj (by omega)⟩
  | n + 1 => by
    have ih := unF_bit (r := r) (low := low) (t := t) n
    have e : unF r low (n + 1) = if r.testBit n then unF r low n ||| 2 ^ low n else unF r low n := rfl
    rw [e]
    by_cases q : r.testBit n = true
    · rw [if_pos q, Nat.testBit_or, Bool.or_eq_true, ih, Nat.testBit_two_pow, decide_eq_true_eq]
      constructor
      · intro h
        rcases h with ⟨j, h1, h2⟩ | h
        · exact ⟨j, by omega, h2⟩
        · exact ⟨n, by omega, q, h⟩
      · intro ⟨j, h1, h2, h3⟩
        by_cases e2 : j = n
        · subst e2; exact Or.inr h3
        · exact Or.inl ⟨j, by omega, h2, h3⟩
    · rw [if_neg q, ih]
      exact ⟨fun ⟨j, h1, h2⟩ => ⟨j, by omega, h2⟩, fun ⟨j, h1, h2, h3⟩ => ⟨j, by
        by_cases e2 : j = n
        · subst e2; exact absurd h2 q
        · omega, h2, h3⟩⟩
theorem unF_pop {r : Nat} {low : Nat → Nat} (hl : ∀ n, n < 8 → low n < 8) : ∀ n, n ≤ 8 → mpop (unF r low n) = cnt (fun k => r.testBit k && fsO r low k) n
  | 0, _ => by
    have e : unF r low 0 = 0 := rfl
    rw [e]; rfl
  | n + 1, hn => by
    have ih := unF_pop (r := r) hl n (by omega)
    have e : unF r low (n + 1) = if r.testBit n then unF r low n ||| 2 ^ low n else unF r low n := rfl
    have ec : cnt (fun k => r.testBit k && fsO r low k) (n + 1) = cnt (fun k => r.testBit k && fsO r low k) n + (r.testBit n && fsO r low n).toNat := rfl
    rw [e, ec, ← ih]
    by_cases q : r.testBit n = true
    · rw [if_pos q]
      by_cases b : (unF r low n).testBit (low n) = true
      · have hf : fsO r low n = false := by
          obtain ⟨j, h1, h2, h3⟩ := (unF_bit n).mp b
          cases e2 : fsO r low n with
          | false => rfl
          | true => exact absurd h3 (fsO_iff.mp e2 j h1 h2)
        have eo : unF r low n ||| 2 ^ low n = unF r low n := Nat.eq_of_testBit_eq fun i => by
          rw [Nat.testBit_or, Nat.testBit_two_pow]
          by_cases e3 : low n = i
          · rw [← e3, b]; rfl
          · rw [decide_eq_false e3, Bool.or_false]
        rw [eo, hf, Bool.and_false]; rfl
      · have hf : fsO r low n = true := fsO_iff.mpr (fun j hj hb e2 => b ((unF_bit n).mpr ⟨j, hj, hb, e2⟩))
        have hb : (unF r low n).testBit (low n) = false := by
          cases e3 : (unF r low n).testBit (low n) with
          | false => rfl
          | true => exact absurd e3 b
        rw [mpop_or (hl n (by omega)) hb, q, hf]; rfl
    · have hq : r.testBit n = false := by
        cases e3 : r.testBit n with
        | false => rfl
        | true => exact absurd e3 q
      rw [if_neg q, hq]; rfl
theorem unlike_eq {w : mW} {p : Nat} {L : Nat → Nat} {M : Nat} (hp : p + 1 ≠ 14) (hk : PlanOK w p) (hL : IsG w p (lkR L)) (hM : RIs w p 0 M) : mpop (unF (comesF w p 0) (lowF w p) 8) = cnt (fun k => M.testBit k && decide (lowst (fun j => (L k &&& M).testBit j) 8 8 0 = k)) 8 := by
  rw [ris_uniq (ris_comes hk (by decide)) hM, unF_pop (fun n hn => (lowF_low hp hk hn).1) 8 (Nat.le_refl 8)]
  refine cnt_congr (fun k hk8 => ?_)
  show (M.testBit k && fsO M (lowF w p) k) = (M.testBit k && decide (lowst (fun j => (L k &&& M).testBit j) 8 8 0 = k))
  cases e : M.testBit k with
  | false => rfl
  | true =>
    show fsO M (lowF w p) k = decide (lowst (fun j => (L k &&& M).testBit j) 8 8 0 = k)
    have hE := En_eqv hk 7
    have hLE : ∀ j, j < 8 → lkR L k j = En w p 7 k j := fun j hj => isG_uniq hL (isG_En hk) hk8 hj
    have hkk : (L k &&& M).testBit k = true := by
      rw [Nat.testBit_and, e, Bool.and_true]
      exact (hLE k hk8).trans (hE.1 k hk8)
    obtain ⟨h1, h2, h3⟩ := lowst_spec (f := fun j => (L k &&& M).testBit j) (d := 8) 8 0 k (Nat.zero_le k) (by omega) hkk
    have hio : fsO M (lowF w p) k = true ↔ lowst (fun j => (L k &&& M).testBit j) 8 8 0 = k := by
      rw [fsO_iff]
      constructor
      · intro h
        refine Classical.byContradiction fun q => ?_
        have hlt : lowst (fun j => (L k &&& M).testBit j) 8 8 0 < k := by
          rcases Nat.lt_trichotomy (lowst (fun j => (L k &&& M).testBit j) 8 8 0) k with z | z | z
          · exact z
          · exact absurd z q
          · have := h3 k (Nat.zero_le k) z
            have h4 : (L k &&& M).testBit k = false := this
            rw [hkk] at h4; cases h4
        have h1' : (L k &&& M).testBit (lowst (fun j => (L k &&& M).testBit j) 8 8 0) = true := h1
        rw [Nat.testBit_and, Bool.and_eq_true] at h1'
        have h8 : lowst (fun j => (L k &&& M).testBit j) 8 8 0 < 8 := by omega
        refine h _ hlt h1'.2 ((low_iff hE h8 hk8 (lowF_low hp hk h8) (lowF_low hp hk hk8)).mpr ?_)
        exact (hLE _ h8).symm.trans h1'.1
      · intro h j hj hb el
        have h4 := h3 j (Nat.zero_le j) (by omega)
        have h5 : (L k &&& M).testBit j = false := h4
        have hEk := (low_iff hE (show j < 8 by omega) hk8 (lowF_low hp hk (show j < 8 by omega)) (lowF_low hp hk hk8)).mp el
        rw [Nat.testBit_and, hb, Bool.and_true] at h5
        have h6 : lkR L k j = false := h5
        rw [hLE j (by omega), hEk] at h6; cases h6
    cases e2 : fsO M (lowF w p) k with
    | true => exact (decide_eq_true (hio.mp e2)).symm
    | false => exact (decide_eq_false (fun q => by rw [hio.mpr q] at e2; cases e2)).symm
