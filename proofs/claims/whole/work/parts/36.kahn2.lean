/-! how many rows, both ways: the walk over the queue -/
theorem sxe_at {sx : Int → Int → Int} {i k : Nat} (hk : k < 6) : sxe sx (6 * i + k) = sx (i : Int) (k : Int) := by
  unfold sxe; rw [show (6 * i + k) / 6 = i by omega, show (6 * i + k) % 6 = k by omega]
def KIn (sx : Int → Int → Int) (g : Int → Int) (n : Nat) (G : Prop) (u0 : mW) (Lv0 : Nat → Bool) (acc : Int) (pd0 : Int → Int) (i k : Nat) (u : mW) : Prop :=
  ∃ Lk : Nat → Bool, KQ sx n u Lk ∧ (∀ e, e < 6 * n → (Lk e = true ↔ Lv0 e = true ∧ ¬ (e / 6 = i ∧ e % 6 < k))) ∧ (∀ b : Int, b < u0 21 3 → u 24 b = u0 24 b) ∧ u0 21 3 ≤ u 21 3 ∧ (∀ k' : Nat, k' < k → ∀ b : Int, 0 ≤ b → b < u0 21 3 → ¬ u0 24 b = sx (i : Int) (k' : Int)) ∧ RwOK n u ∧
    (G → ∃ pd : Int → Int, (∀ t : Int, 0 ≤ t → t < n → ¬ t = (i : Int) → pd t = pd0 t) ∧ pd (i : Int) = tls g sx (i : Int) (6 - k) ∧ CR g n u acc pd)
theorem kin_all {sx : Int → Int → Int} {g : Int → Int} {n : Nat} {G : Prop} {u : mW} {Lv : Nat → Bool} {acc : Int} {pd0 : Int → Int} {i : Nat} {a : Int} (hs : SxOK sx n) (hn : n ≤ 64) (hi : i < n) (ha0 : 0 ≤ a) (ha : a < u 21 3) (hia : u 24 a = (i : Int)) (hacc : 0 ≤ acc) (hLv : ∀ e, e < 6 * n → e / 6 = i → Lv e = true) (hg : G → ∀ t : Int, 0 ≤ t → t < n → 0 ≤ g t) (hpd : G → ∀ t : Int, 0 ≤ t → t < n → (∀ b : Int, 0 ≤ b → b < u 21 3 → ¬ u 24 b = t) → pd0 t = g t)
    (h0 : KIn sx g n G u Lv acc pd0 i 0 u) : ∀ k, k ≤ 6 → KIn sx g n G u Lv acc pd0 i k (kinW sx u (i : Int) k)
  | 0, _ => h0
  | k + 1, hk => by
    obtain ⟨Lk, q1, q2, q3, q4, q5, q6, q7⟩ := kin_all (acc := acc) hs hn hi ha0 ha hia hacc hLv hg hpd h0 k (by omega)
    have he : 6 * i + k < 6 * n := by omega
    have ex := sxe_at (sx := sx) (i := i) (k := k) (by omega)
    have hl : Lk (6 * i + k) = true := (q2 _ he).mpr ⟨hLv _ he (by omega), by omega⟩
    have ew : kinW sx u (i : Int) (k + 1) = goW (kinW sx u (i : Int) k) (sx (i : Int) (k : Int)) (kinW sx u (i : Int) k 23 (i : Int)) := rfl
    rw [ew]
    generalize kinW sx u (i : Int) k = v at *
    have hsx := hs (i : Int) (k : Int) (by omega) (by omega) (by omega) (by omega)
    have hdl : ∀ e, e < 6 * n → (dropL Lk (6 * i + k) e = true ↔ Lv e = true ∧ ¬ (e / 6 = i ∧ e % 6 < k + 1)) := fun e hen => by
      unfold dropL
      rw [Bool.and_eq_true, q2 e hen, Bool.not_eq_true', decide_eq_false_iff_not]
      constructor
      · intro ⟨⟨x1, x2⟩, x3⟩; exact ⟨x1, by omega⟩
      · intro ⟨x1, x2⟩; exact ⟨⟨x1, by omega⟩, by omega⟩
    have htn : G → ∀ r, r ≤ 6 → 0 ≤ tls g sx (i : Int) r := fun hG r hr => tls_nonneg (fun k' hk' => by
      unfold trm
      split
      · exact Int.le_refl 0
      · have := hs (i : Int) (k' : Int) (by omega) (by omega) (by omega) (by omega)
        exact hg hG _ (by omega) (by omega)) r hr
    by_cases hneg : sx (i : Int) (k : Int) < 0
    · have eg : goW v (sx (i : Int) (k : Int)) (v 23 (i : Int)) = v := by unfold goW; rw [if_neg (by omega)]
      rw [eg]
      refine ⟨dropL Lk (6 * i + k), q1.none (by rw [ex]; exact hneg), hdl, q3, q4, fun k' hk' b b0 b1 => ?_, q6, fun hG => ?_⟩
      · by_cases e : k' = k
        · subst e
          have hq := q1.2.1 b b0 (by omega)
          rw [q3 b b1] at hq
          omega
        · exact q5 k' (by omega) b b0 b1
      · obtain ⟨pd, p1, p2, p3⟩ := q7 hG
        refine ⟨pd, p1, ?_, p3⟩
        rw [p2, show 6 - k = (6 - (k + 1)) + 1 by omega]
        show trm g sx (i : Int) (5 - (6 - (k + 1))) + tls g sx (i : Int) (6 - (k + 1)) = _
        unfold trm
        rw [show 5 - (6 - (k + 1)) = k by omega, if_pos hneg]; omega
    · obtain ⟨t, ht⟩ : ∃ t : Nat, sx (i : Int) (k : Int) = (t : Int) := ⟨(sx (i : Int) (k : Int)).toNat, by omega⟩
      have htn1 : t < n := by omega
      obtain ⟨r1, r2, r3, r4⟩ := q1.go (m := v 23 (i : Int)) hn he hl (by rw [ex, ht]; omega)
      have c23 := (goW_cells (u := v) (t := sx (i : Int) (k : Int)) (m := v 23 (i : Int)) (by omega)).2.1
      rw [ex] at r1 r2 r3 r4
      have hti : ¬ t = i := fun e => r4 a ha0 (by omega) (by rw [q3 a ha, hia, ht, e])
      refine ⟨dropL Lk (6 * i + k), r1, hdl, fun b hb => by rw [r2 b (by omega)]; exact q3 b hb, by omega, fun k' hk' b b0 b1 => ?_, fun x x0 x1 => ?_, fun hG => ?_⟩
      · by_cases e : k' = k
        · subst e
          have := r4 b b0 (by omega)
          rw [q3 b b1] at this; exact this
        · exact q5 k' (by omega) b b0 b1
      · rw [c23]
        have hx := q6 x x0 x1
        have hii := q6 (i : Int) (by omega) (by omega)
        have htt := q6 (t : Int) (by omega) (by omega)
        split
        · rw [ht]; exact capI_rng (by omega)
        · exact hx
      · obtain ⟨pd, p1, p2, p3⟩ := q7 hG
        refine ⟨iup pd (i : Int) (tls g sx (i : Int) (6 - (k + 1))), fun x x0 x1 hx => by rw [iup_ne _ _ hx]; exact p1 x x0 x1 hx, iup_at _ _ _, ?_⟩
        refine p3.step (t := t) (r := 6 - (k + 1)) q6 hacc hi htn1 hti ?_ ?_ ?_ (fun x => ?_) (htn hG _ (by omega))
        · rw [p2, show 6 - k = (6 - (k + 1)) + 1 by omega]
        · rw [show 5 - (6 - (k + 1)) = k by omega]; exact ht
        · rw [p1 (t : Int) (by omega) (by omega) (by omega)]
          refine hpd hG (t : Int) (by omega) (by omega) (fun b b0 b1 => ?_)
          have := r4 b b0 (by omega)
          rw [q3 b b1, ht] at this; exact this
        · rw [c23, ht]
def KOut (sx : Int → Int → Int) (g : Int → Int) (n : Nat) (G : Prop) (u : mW) (acc a : Int) : Prop :=
  ∃ Lv : Nat → Bool, KQ sx n u Lv ∧ (∀ e, e < 6 * n → (Lv e = true ↔ ∀ b : Int, 0 ≤ b → b < a → ¬ u 24 b = ((e / 6 : Nat) : Int))) ∧ (0 ≤ a ∧ a ≤ u 21 3) ∧ (∀ b : Int, 0 ≤ b → b < a → ∀ k : Nat, k < 6 → ∀ c : Int, 0 ≤ c → c ≤ b → ¬ u 24 c = sx (u 24 b) (k : Int)) ∧ RwOK n u ∧ (0 ≤ acc ∧ acc ≤ CAP) ∧
    (G → ∃ pd : Int → Int, (∀ t : Int, 0 ≤ t → t < n → (∀ b : Int, 0 ≤ b → b < a → ¬ u 24 b = t) → pd t = g t) ∧ (∀ b : Int, 0 ≤ b → b < a → pd (u 24 b) = 0) ∧ CR g n u acc pd)
def GOK (sx : Int → Int → Int) (en : Int → Bool) (g : Int → Int) (n : Nat) : Prop := ∀ i : Int, 0 ≤ i → i < n → g i = capI ((if en i then 1 else 0) + tls g sx i 6) ∧ 0 ≤ g i ∧ g i ≤ CAP
theorem KOut.step {sx : Int → Int → Int} {en : Int → Bool} {g : Int → Int} {n : Nat} {u : mW} {acc a : Int} (h : KOut sx g n (GOK sx en g n) u acc a) (hs : SxOK sx n) (hn : n ≤ 64) (ha : a < u 21 3) : KOut sx g n (GOK sx en g n) (kinW sx u (u 24 a) 6) (if en (u 24 a) then capI (acc + u 23 (u 24 a)) else acc) (a + 1) := by
  obtain ⟨Lv, h1, h2, h3, h4, h5, h6, h7⟩ := h
  have hia := h1.2.1 a h3.1 ha
  obtain ⟨i, hi⟩ : ∃ i : Nat, u 24 a = (i : Int) := ⟨(u 24 a).toNat, by omega⟩
  have hin : i < n := by omega
  have hnp : ∀ b : Int, 0 ≤ b → b < a → ¬ u 24 b = (i : Int) := fun b b0 b1 e => h1.2.2.1 b a b0 b1 ha (by rw [e, hi])
  have hLv : ∀ e, e < 6 * n → e / 6 = i → Lv e = true := fun e he e6 => (h2 e he).mpr (fun b b0 b1 => by rw [e6]; exact hnp b b0 b1)
  have hri := h5 (i : Int) (by omega) (by omega)
  have hgn : GOK sx en g n → ∀ t : Int, 0 ≤ t → t < n → 0 ≤ g t := fun hG t t0 t1 => (hG t t0 t1).2.1
  have htn : GOK sx en g n → 0 ≤ tls g sx (i : Int) 6 := fun hG => tls_nonneg (fun k' hk' => by
    unfold trm
    split
    · exact Int.le_refl 0
    · have := hs (i : Int) (k' : Int) (by omega) (by omega) (by omega) (by omega)
      exact hgn hG _ (by omega) (by omega)) 6 (Nat.le_refl 6)
  rw [hi]
  have hacc2 : 0 ≤ (if en (i : Int) then capI (acc + u 23 (i : Int)) else acc) ∧ (if en (i : Int) then capI (acc + u 23 (i : Int)) else acc) ≤ CAP := by
    split
    · exact capI_rng (by omega)
    · exact h6
  have hpx : ∃ pd0 : Int → Int, GOK sx en g n → (∀ t : Int, 0 ≤ t → t < n → (∀ b : Int, 0 ≤ b → b < a → ¬ u 24 b = t) → pd0 t = g t) ∧ (∀ b : Int, 0 ≤ b → b < a → pd0 (u 24 b) = 0) ∧ CR g n u acc pd0 := by
    by_cases hG : GOK sx en g n
    · obtain ⟨pd, p⟩ := h7 hG; exact ⟨pd, fun _ => p⟩
    · exact ⟨fun _ => 0, fun x => absurd x hG⟩
  obtain ⟨pd0, hp0⟩ := hpx
  have k0 : KIn sx g n (GOK sx en g n) u Lv (if en (i : Int) then capI (acc + u 23 (i : Int)) else acc) pd0 i 0 u := by
    refine ⟨Lv, h1, fun e _ => ⟨fun x => ⟨x, by omega⟩, fun x => x.1⟩, fun _ _ => rfl, Int.le_refl _, fun k' hk' => absurd hk' (by omega), h5, fun hG => ?_⟩
    obtain ⟨p1, p2, p3⟩ := hp0 hG
    have hgi := hG (i : Int) (by omega) (by omega)
    exact ⟨iup pd0 (i : Int) (tls g sx (i : Int) 6), fun t _ _ ht => iup_ne _ _ ht, iup_at _ _ _, p3.begin h5 h6.1 hin (p1 (i : Int) (by omega) (by omega) hnp) hgi.1 (htn hG)⟩
  obtain ⟨Lk, q1, q2, q3, q4, q5, q6, q7⟩ := kin_all hs hn hin h3.1 ha hi hacc2.1 hLv hgn (fun hG t t0 t1 hb => (hp0 hG).1 t t0 t1 (fun b b0 b1 => hb b b0 (by omega))) k0 6 (Nat.le_refl 6)
  generalize kinW sx u (i : Int) 6 = v at *
  refine ⟨Lk, q1, fun e he => ?_, ⟨by omega, by omega⟩, fun b b0 b1 k hk c c0 c1 => ?_, q6, hacc2, fun hG => ?_⟩
  · rw [q2 e he, h2 e he]
    constructor
    · intro ⟨x1, x2⟩ b b0 b1
      rw [q3 b (by omega)]
      by_cases e2 : b = a
      · rw [e2, hi]; intro e3; exact x2 ⟨by omega, by omega⟩
      · exact x1 b b0 (by omega)
    · intro x
      refine ⟨fun b b0 b1 => ?_, fun ⟨y1, y2⟩ => ?_⟩
      · have := x b b0 (by omega)
        rw [q3 b (by omega)] at this; exact this
      · have := x a h3.1 (by omega)
        rw [q3 a ha, hi] at this
        exact this (by omega)
  · rw [q3 b (by omega), q3 c (by omega)]
    by_cases e2 : b = a
    · rw [e2, hi]; exact q5 k hk c c0 (by omega)
    · exact h4 b b0 (by omega) k hk c c0 c1
  · obtain ⟨pd, p1, p2, p3⟩ := q7 hG
    obtain ⟨r1, r2, r3⟩ := hp0 hG
    refine ⟨pd, fun t t0 t1 hb => ?_, fun b b0 b1 => ?_, p3⟩
    · have hti : ¬ t = (i : Int) := fun e => hb a h3.1 (by omega) (by rw [q3 a ha, hi, e])
      rw [p1 t t0 t1 hti]
      exact r1 t t0 t1 (fun b b0 b1 => by have := hb b b0 (by omega); rw [q3 b (by omega)] at this; exact this)
    · rw [q3 b (by omega)]
      by_cases e2 : b = a
      · rw [e2, hi, p2]; rfl
      · have hbr := h1.2.1 b b0 (by omega)
        rw [p1 _ hbr.1 hbr.2 (hnp b b0 (by omega))]
        exact r2 b b0 (by omega)
theorem kout_inv {sx : Int → Int → Int} {en : Int → Bool} {g : Int → Int} {n : Nat} {u : mW} (hs : SxOK sx n) (hn : n ≤ 64) (h0 : KOut sx g n (GOK sx en g n) u 0 0) : ∀ m : Nat, ∃ a : Int, KOut sx g n (GOK sx en g n) (koutW sx en u m).1 (koutW sx en u m).2 a ∧ (a = m ∨ (a < m ∧ (koutW sx en u m).1 21 3 = a))
  | 0 => ⟨0, h0, Or.inl rfl⟩
  | m + 1 => by
    obtain ⟨a, h1, h2⟩ := kout_inv hs hn h0 m
    have e : koutW sx en u (m + 1) = if (m : Int) < (koutW sx en u m).1 21 3 then (kinW sx (koutW sx en u m).1 ((koutW sx en u m).1 24 m) 6, if en ((koutW sx en u m).1 24 m) then capI ((koutW sx en u m).2 + (koutW sx en u m).1 23 ((koutW sx en u m).1 24 m)) else (koutW sx en u m).2) else koutW sx en u m := rfl
    rw [e]
    generalize koutW sx en u m = R at *
    by_cases q : (m : Int) < R.1 21 3
    · rw [if_pos q]
      have ea : a = m := by omega
      subst ea
      exact ⟨(m : Int) + 1, h1.step hs hn q, Or.inl (by omega)⟩
    · rw [if_neg q]
      have hle : a ≤ R.1 21 3 := by obtain ⟨_, _, _, x, _⟩ := h1; exact x.2
      exact ⟨a, h1, Or.inr ⟨by omega, by omega⟩⟩
/-! its beginning -/
theorem cnt_pos {f : Nat → Bool} : ∀ n, 0 < cnt f n → ∃ e, e < n ∧ f e = true
  | 0, h => absurd h (by show ¬ 0 < 0; omega)
  | n + 1, h => by
    have e : cnt f (n + 1) = cnt f n + (f n).toNat := rfl
    by_cases q : f n = true
    · exact ⟨n, by omega, q⟩
    · have q2 : f n = false := by cases e2 : f n with
        | false => rfl
        | true => exact absurd e2 q
      rw [e, q2] at h
      obtain ⟨x, x1, x2⟩ := cnt_pos n (by simpa using h)
      exact ⟨x, by omega, x2⟩
theorem cnt_all {f : Nat → Bool} : ∀ n, (∀ t, t < n → f t = true) → cnt f n = n
  | 0, _ => rfl
  | n + 1, h => by
    show cnt f n + (f n).toNat = n + 1
    rw [cnt_all n (fun t ht => h t (by omega)), h n (by omega)]; rfl
theorem cin_cells {sx : Int → Int → Int} {u : mW} {i : Nat} {n : Int} (hs : SxOK sx n) (hn : n ≤ 64) (hi : (i : Int) < n) : ∀ k : Nat, k ≤ 6 → (∀ a : Nat, a ≠ 22 → cinW sx u (i : Int) k a = u a) ∧ ∀ t : Int, 0 ≤ t → t < n → u 22 t = ((cnt (fun e => decide (sxe sx e = t)) (6 * i) : Nat) : Int) → cinW sx u (i : Int) k 22 t = ((cnt (fun e => decide (sxe sx e = t)) (6 * i + k) : Nat) : Int)
  | 0, _ => ⟨fun _ _ => rfl, fun _ _ _ h => h⟩
  | k + 1, hk => by
    obtain ⟨h1, h2⟩ := cin_cells (u := u) hs hn hi k (by omega)
    have e : cinW sx u (i : Int) (k + 1) = if 0 ≤ sx (i : Int) (k : Int) ∧ sx (i : Int) (k : Int) < 64 then mup (cinW sx u (i : Int) k) 22 (sx (i : Int) (k : Int)) (cinW sx u (i : Int) k 22 (sx (i : Int) (k : Int)) + 1) else cinW sx u (i : Int) k := rfl
    have hsx := hs (i : Int) (k : Int) (by omega) hi (by omega) (by omega)
    have ex := sxe_at (sx := sx) (i := i) (k := k) (by omega)
    rw [e]
    refine ⟨fun a ha => ?_, fun t t0 t1 ht => ?_⟩
    · split
      · rw [mup_ne ha]; exact h1 a ha
      · exact h1 a ha
    · have ec : cnt (fun e => decide (sxe sx e = t)) (6 * i + (k + 1)) = cnt (fun e => decide (sxe sx e = t)) (6 * i + k) + (decide (sxe sx (6 * i + k) = t)).toNat := rfl
      rw [ec, ex]
      have h3 := h2 t t0 t1 ht
      by_cases q : sx (i : Int) (k : Int) = t
      · rw [if_pos (by omega), decide_eq_true q, q, mup_at, h3]; rfl
      · rw [decide_eq_false q]
        split
        · rw [mup_get, if_neg (fun x => q x.2.symm), h3]; rfl
        · rw [h3]; rfl
theorem cout_cells {sx : Int → Int → Int} {u : mW} {n : Nat} (hs : SxOK sx n) (hn : n ≤ 64) (h0 : ∀ t : Int, 0 ≤ t → t < n → u 22 t = 0) : ∀ m : Nat, m ≤ n → (∀ a : Nat, a ≠ 22 → coutW sx u m a = u a) ∧ ∀ t : Int, 0 ≤ t → t < n → coutW sx u m 22 t = ((cnt (fun e => decide (sxe sx e = t)) (6 * m) : Nat) : Int)
  | 0, _ => ⟨fun _ _ => rfl, fun t t0 t1 => h0 t t0 t1⟩
  | m + 1, hm => by
    obtain ⟨h1, h2⟩ := cout_cells hs hn h0 m (by omega)
    obtain ⟨c1, c2⟩ := cin_cells (u := coutW sx u m) (i := m) (n := n) hs (by omega) (by omega) 6 (Nat.le_refl 6)
    have e : coutW sx u (m + 1) = cinW sx (coutW sx u m) (m : Int) 6 := rfl
    rw [e]
    exact ⟨fun a ha => (c1 a ha).trans (h1 a ha), fun t t0 t1 => c2 t t0 t1 (h2 t t0 t1)⟩
def Rch (sx : Int → Int → Int) (n : Nat) : Prop := ∀ t : Int, 0 < t → t < n → ∃ e : Nat, e < 6 * n ∧ sxe sx e = t
theorem kst_out {sx : Int → Int → Int} {en : Int → Bool} {g : Int → Int} {n : Nat} {w : mW} (hs : SxOK sx n) (hn : 1 ≤ n ∧ n ≤ 64) (hR : Rch sx n) : KOut sx g n (GOK sx en g n) (kst sx w n) 0 0 := by
  have z22 : ∀ t : Int, 0 ≤ t → t < n → cst w 22 t = 0 := fun t t0 t1 => by
    unfold cst; rw [mup_ne (by decide), mfill_ne (by decide)]; unfold mfill; rw [if_pos (by omega)]
  have z23 : ∀ t : Int, 0 ≤ t → t < n → cst w 23 t = 0 := fun t t0 t1 => by
    unfold cst; rw [mup_ne (by decide)]; unfold mfill; rw [if_pos (by omega)]
  have z21 : cst w 21 3 = 0 := by unfold cst; rw [mup_at]
  obtain ⟨c1, c2⟩ := cout_cells hs hn.2 z22 n (Nat.le_refl n)
  unfold kst
  generalize hv : mup (coutW sx (cst w) n) 23 0 1 = v
  have v21 : v 21 3 = 0 := by rw [← hv, mup_ne (by decide), c1 21 (by decide)]; exact z21
  have v23 : ∀ t : Int, 0 ≤ t → t < n → v 23 t = if t = 0 then 1 else 0 := fun t t0 t1 => by
    rw [← hv, mup_get]
    by_cases e : t = 0
    · rw [if_pos ⟨rfl, e⟩, if_pos e]
    · rw [if_neg (fun x => e x.2), if_neg e, c1 23 (by decide)]; exact z23 t t0 t1
  have eop : ∀ t : Int, opn sx (fun _ => true) n t = cnt (fun e => decide (sxe sx e = t)) (6 * n) := fun t => cnt_congr (fun i _ => by
    show (true && decide (sxe sx i = t)) = decide (sxe sx i = t)
    rw [Bool.true_and])
  have v22 : ∀ t : Int, 0 ≤ t → t < n → v 22 t = (opn sx (fun _ => true) n t : Int) := fun t t0 t1 => by
    rw [← hv, mup_ne (by decide), eop]; exact c2 t t0 t1
  have vpos : ∀ t : Int, 0 < t → t < n → ¬ v 22 t = 0 := fun t t0 t1 => by
    obtain ⟨e, e1, e2⟩ := hR t t0 t1
    have := opn_drop (sx := sx) (Lv := fun _ => true) e1 rfl
    rw [e2] at this
    rw [v22 t (by omega) t1]; omega
  have hRw : RwOK n v := fun t t0 t1 => by
    rw [v23 t t0 t1]; unfold CAP; split <;> omega
  have hCR : GOK sx en g n → CR g n v 0 g := fun hG => by
    refine ⟨fun t t0 t1 => (hG t t0 t1).2.1, ?_⟩
    have e1 := isum_upd (f := fun _ => 0) (g := fun t => v 23 (t : Int) * g (t : Int)) (j := 0) n (by omega) (fun t ht hne => by
      show 0 = v 23 (t : Int) * g (t : Int)
      rw [v23 (t : Int) (by omega) (by omega), if_neg (by omega), Int.zero_mul])
    have e0 : isum (fun _ => 0) n = 0 := by
      clear e1 hRw vpos v22 eop v23 v21 hv c1 c2 z22 z23 hR hs hG
      have : ∀ m, isum (fun _ => 0) m = 0 := fun m => by
        induction m with
        | zero => rfl
        | succ m ih => show isum (fun _ => 0) m + 0 = 0; rw [ih]; rfl
      exact this n
    have e3 : v 23 ((0 : Nat) : Int) = 1 := by rw [v23 _ (by omega) (by omega)]; rfl
    rw [e1, e0, e3]
    congr 1
    show 0 + (0 + (1 * g ((0 : Nat) : Int) - 0)) = g 0
    rw [Int.one_mul]
    show 0 + (0 + (g 0 - 0)) = g 0
    omega
  have hall : ∀ u : mW, (∀ e, e < 6 * n → ((fun _ => true : Nat → Bool) e = true ↔ ∀ b : Int, 0 ≤ b → b < 0 → ¬ u 24 b = ((e / 6 : Nat) : Int))) := fun u e _ => ⟨fun _ b b0 b1 => by omega, fun _ => rfl⟩
  by_cases q : v 22 0 = 0
  · rw [if_pos q]
    unfold srW
    rw [if_pos (by rw [v21]; decide), v21]
    have s21 : mup (mup v 24 0 0) 21 3 (0 + 1) 21 3 = 1 := by rw [mup_at]; rfl
    have s24 : mup (mup v 24 0 0) 21 3 (0 + 1) 24 0 = 0 := by rw [mup_ne (by decide), mup_at]
    have s22 : mup (mup v 24 0 0) 21 3 (0 + 1) 22 = v 22 := by rw [mup_ne (by decide), mup_ne (by decide)]
    have s23 : mup (mup v 24 0 0) 21 3 (0 + 1) 23 = v 23 := by rw [mup_ne (by decide), mup_ne (by decide)]
    generalize mup (mup v 24 0 0) 21 3 (0 + 1) = u at *
    refine ⟨fun _ => true, ⟨by omega, fun b b0 b1 => ?_, fun b c b0 bc c1 => by omega, fun t t0 t1 => by rw [s22]; exact v22 t t0 t1, fun t t0 t1 => ?_, ?_⟩, hall u, ⟨by omega, by omega⟩, fun b b0 b1 => by omega, by unfold RwOK; rw [s23]; exact hRw, ⟨by omega, by decide⟩, fun hG => ⟨g, fun _ _ _ _ => rfl, fun b b0 b1 => by omega, ?_⟩⟩
    · rw [show b = 0 by omega, s24]; omega
    · rw [s22]
      constructor
      · intro h
        by_cases e : t = 0
        · exact ⟨0, by omega, by omega, by rw [s24, e]⟩
        · exact absurd h (vpos t (by omega) t1)
      · intro ⟨b, b0, b1, b2⟩
        rw [show b = 0 by omega, s24] at b2
        rw [← b2]; exact q
    · rw [s21]
      have := cnt_add (f := fun _ => false) (g := fun t : Nat => decide (u 22 (t : Int) = 0)) (t := 0) (n := n) rfl (decide_eq_true (by rw [s22]; exact q)) (by omega) (fun i hi hne => (decide_eq_false (by rw [s22]; exact vpos _ (by omega) (by omega))).symm)
      have ez : cnt (fun _ => false) n = 0 := by
        clear this
        have : ∀ m, cnt (fun _ => false) m = 0 := fun m => by
          induction m with
          | zero => rfl
          | succ m ih => show cnt (fun _ => false) m + 0 = 0; rw [ih]
        exact this n
      rw [this, ez]; rfl
    · have := hCR hG
      exact ⟨this.1, by rw [s23]; exact this.2⟩
  · rw [if_neg q]
    have hnz : ∀ t : Int, 0 ≤ t → t < n → ¬ v 22 t = 0 := fun t t0 t1 => by
      by_cases e : t = 0
      · rw [e]; exact q
      · exact vpos t (by omega) t1
    refine ⟨fun _ => true, ⟨by omega, fun b b0 b1 => by omega, fun b c b0 bc c1 => by omega, v22, fun t t0 t1 => ⟨fun h => absurd h (hnz t t0 t1), fun ⟨b, b0, b1, _⟩ => by omega⟩, ?_⟩, hall v, ⟨by omega, by omega⟩, fun b b0 b1 => by omega, hRw, ⟨by omega, by decide⟩, fun hG => ⟨g, fun _ _ _ _ => rfl, fun b b0 b1 => by omega, hCR hG⟩⟩
    rw [v21]
    have : cnt (fun t : Nat => decide (v 22 (t : Int) = 0)) n = cnt (fun _ => false) n := cnt_congr (fun i hi => decide_eq_false (hnz _ (by omega) (by omega)))
    have ez : ∀ m, cnt (fun _ => false) m = 0 := fun m => by
      induction m with
      | zero => rfl
      | succ m ih => show cnt (fun _ => false) m + 0 = 0; rw [ih]
    rw [this, ez]; rfl
/-! its end -/
def Ht (sx : Int → Int → Int) : Nat → Int → Prop
  | 0, _ => False
  | r + 1, i => ∀ k : Nat, k < 6 → sx i (k : Int) < 0 ∨ Ht sx r (sx i (k : Int))
theorem Ht.up {sx : Int → Int → Int} : ∀ {r : Nat} {i : Int}, Ht sx r i → Ht sx (r + 1) i
  | 0, _, h => h.elim
  | _ + 1, _, h => fun k hk => (h k hk).imp id Ht.up
theorem Ht.le {sx : Int → Int → Int} {r i} (h : Ht sx r i) : ∀ d, Ht sx (r + d) i
  | 0 => h
  | d + 1 => (Ht.le h d).up
theorem ht_six {sx : Int → Int → Int} {i : Int} (h : ∀ k : Nat, k < 6 → sx i (k : Int) < 0 ∨ ∃ r, Ht sx r (sx i (k : Int))) : ∀ m, m ≤ 6 → ∃ R, ∀ k : Nat, k < m → sx i (k : Int) < 0 ∨ Ht sx R (sx i (k : Int))
  | 0, _ => ⟨0, fun k hk => absurd hk (by omega)⟩
  | m + 1, hm => by
    obtain ⟨R, hR⟩ := ht_six h m (by omega)
    rcases h m (by omega) with q | ⟨r, q⟩
    · refine ⟨R, fun k hk => ?_⟩
      by_cases e : k = m
      · subst e; exact Or.inl q
      · exact hR k (by omega)
    · refine ⟨R + r, fun k hk => ?_⟩
      by_cases e : k = m
      · subst e; have := q.le R; rw [Nat.add_comm] at this; exact Or.inr this
      · exact (hR k (by omega)).imp id (fun z => z.le r)
theorem ht_all {sx : Int → Int → Int} {n : Nat} (h : ∀ i : Int, 0 ≤ i → i < n → ∃ r, Ht sx r i) : ∀ m : Nat, m ≤ n → ∃ R, ∀ i : Int, 0 ≤ i → i < m → Ht sx R i
  | 0, _ => ⟨0, fun i i0 i1 => absurd i1 (by omega)⟩
  | m + 1, hm => by
    obtain ⟨R, hR⟩ := ht_all h m (by omega)
    obtain ⟨r, q⟩ := h (m : Int) (by omega) (by omega)
    refine ⟨R + r, fun i i0 i1 => ?_⟩
    by_cases e : i = (m : Int)
    · subst e; have := q.le R; rw [Nat.add_comm] at this; exact this
    · exact (hR i i0 (by omega)).le r
theorem kout_few {sx : Int → Int → Int} {g : Int → Int} {n : Nat} {G : Prop} {u : mW} {acc : Int} (hs : SxOK sx n) (h : KOut sx g n G u acc (u 21 3)) (hlt : u 21 3 < n) (hh : ∀ i : Int, 0 ≤ i → i < n → ∃ r, Ht sx r i) : False := by
  obtain ⟨Lv, h1, h2, h3, h4, h5, h6, h7⟩ := h
  obtain ⟨R, hR⟩ := ht_all hh n (Nat.le_refl n)
  have key : ∀ r, ∃ p : Int, 0 ≤ p ∧ p < n ∧ ¬ u 22 p = 0 ∧ ¬ Ht sx r p := by
    intro r
    induction r with
    | zero =>
      have : ∃ t, t < n ∧ ¬ u 22 ((t : Nat) : Int) = 0 := Classical.byContradiction fun q => by
        have := cnt_all (f := fun t : Nat => decide (u 22 (t : Int) = 0)) n (fun t ht => decide_eq_true (Classical.byContradiction fun z => q ⟨t, ht, z⟩))
        rw [h1.2.2.2.2.2, this] at hlt; omega
      obtain ⟨t, t1, t2⟩ := this
      exact ⟨(t : Int), by omega, by omega, t2, fun z => z⟩
    | succ r ih =>
      obtain ⟨p, p0, p1, p2, p3⟩ := ih
      have ho := h1.2.2.2.1 p p0 p1
      obtain ⟨e, e1, e2⟩ := cnt_pos (f := fun e => Lv e && decide (sxe sx e = p)) (6 * n) (by
        show 0 < opn sx Lv n p
        omega)
      rw [Bool.and_eq_true, decide_eq_true_eq] at e2
      have hne := (h2 e e1).mp e2.1
      refine ⟨((e / 6 : Nat) : Int), by omega, by omega, fun z => ?_, fun z => ?_⟩
      · obtain ⟨b, b0, b1, b2⟩ := (h1.2.2.2.2.1 _ (by omega) (by omega)).mp z
        exact hne b b0 b1 b2
      · have := z (e % 6) (Nat.mod_lt _ (by decide))
        have e3 : sx ((e / 6 : Nat) : Int) ((e % 6 : Nat) : Int) = p := e2.2
        rw [e3] at this
        rcases this with x | x
        · omega
        · exact p3 x
  obtain ⟨p, p0, p1, p2, p3⟩ := key R
  exact p3 (hR p p0 p1)
theorem kout_known {sx : Int → Int → Int} {g : Int → Int} {n : Nat} {G : Prop} {u u0 : mW} {acc : Int} (hs : SxOK sx n) (h : KOut sx g n G u acc (u 21 3)) (hD : Done u0 sx n (-1)) (hall : ∀ t : Int, 0 ≤ t → t < n → ∃ b : Int, 0 ≤ b ∧ b < u 21 3 ∧ u 24 b = t) : ∀ (d : Nat) (b : Int), 0 ≤ b → b < u 21 3 → u 21 3 - b ≤ d → u0 42 (u 24 b) = 1
  | 0, b, b0, b1, hd => absurd hd (by omega)
  | d + 1, b, b0, b1, hd => by
    refine Classical.byContradiction fun q => ?_
    have h' := h
    obtain ⟨Lv, h1, h2, h3, h4, h5, h6, h7⟩ := h'
    have hb := h1.2.1 b b0 b1
    obtain ⟨k, k1, k2, k3⟩ := hD (u 24 b) (by omega) hb.2 hb.1 q
    have hsx := hs (u 24 b) (k : Int) hb.1 hb.2 (by omega) (by omega)
    obtain ⟨c, c0, c1, c2⟩ := hall (sx (u 24 b) (k : Int)) k2 (by omega)
    have hcb : ¬ c ≤ b := fun z => h4 b b0 b1 k k1 c c0 z c2
    have := kout_known hs h hD hall d c c0 c1 (by omega)
    rw [c2] at this
    exact k3 this
theorem kahn {sx : Int → Int → Int} {en : Int → Bool} {n : Nat} {w v u : mW} (hn : 1 ≤ n ∧ n ≤ 64) (hs : SxOK sx n) (hR : Rch sx n) (hW : WInv v u sx en n) (hD : Done u sx n (-1)) : (KC u n = n → krF sx en w n = u 41 0) ∧ (¬ KC u n = n → krF sx en w n = -1) := by
  obtain ⟨a, h1, h2⟩ := kout_inv (en := en) (g := u 41) hs hn.2 (kst_out (en := en) (g := u 41) (w := w) hs hn hR) 64
  unfold krF
  generalize koutW sx en (kst sx w n) 64 = R at *
  have hle : R.1 21 3 ≤ n := by obtain ⟨_, x, _⟩ := h1; exact x.le
  have ha : a = R.1 21 3 := by
    have hle2 : a ≤ R.1 21 3 := by obtain ⟨_, _, _, x, _⟩ := h1; exact x.2
    omega
  rw [ha] at h1
  have hq : R.1 21 3 = n → ∀ t : Int, 0 ≤ t → t < n → ∃ b : Int, 0 ≤ b ∧ b < R.1 21 3 ∧ R.1 24 b = t := fun e t t0 t1 => by
    obtain ⟨Lv, x, _⟩ := h1
    refine (x.2.2.2.2.1 t t0 t1).mp (Classical.byContradiction fun z => ?_)
    have := cnt_lt (f := fun t : Nat => decide (R.1 22 (t : Int) = 0)) (t := t.toNat) (n := n) (decide_eq_false (by rw [Int.toNat_of_nonneg t0]; exact z)) (by omega)
    rw [x.2.2.2.2.2] at e
    omega
  constructor
  · intro hK
    have hkn : ∀ i : Int, 0 ≤ i → i < n → u 42 i = 1 := fun i i0 i1 => Classical.byContradiction fun z => by
      have := cnt_lt (f := fun t : Nat => decide (u 42 (t : Int) = 1)) (t := i.toNat) (n := n) (decide_eq_false (by rw [Int.toNat_of_nonneg i0]; exact z)) (by omega)
      have hK2 : cnt (fun t : Nat => decide (u 42 (t : Int) = 1)) n = n := hK
      omega
    have hG : GOK sx en (u 41) n := fun i i0 i1 => by
      have := (hW.2.2.1 i i0 i1 (hkn i i0 i1)).2
      rw [wsum_tls] at this
      have hw := hW.2.1 i i0 i1
      exact ⟨this, hw.2.1, hw.2.2⟩
    have hfull : ¬ R.1 21 3 < n := fun z => kout_few hs h1 z (fun i i0 i1 => hW.2.2.2 (fun i => ∃ r, Ht sx r i) (fun j j0 j1 hj => by
      obtain ⟨R2, hR2⟩ := ht_six hj 6 (Nat.le_refl 6)
      exact ⟨R2 + 1, hR2⟩) i i0 i1 (hkn i i0 i1))
    rw [if_neg hfull]
    have e : R.1 21 3 = n := by omega
    obtain ⟨Lv, x1, x2, x3, x4, x5, x6, x7⟩ := h1
    obtain ⟨pd, p1, p2, p3⟩ := x7 hG
    have e0 : isum (fun t => R.1 23 (t : Int) * pd (t : Int)) n = isum (fun _ => 0) n := isum_congr n (fun t ht => by
      obtain ⟨b, b0, b1, b2⟩ := hq e (t : Int) (by omega) (by omega)
      have := p2 b b0 b1
      rw [b2] at this
      rw [this, Int.mul_zero])
    have ez : ∀ m, isum (fun _ => 0) m = 0 := fun m => by
      induction m with
      | zero => rfl
      | succ m ih => show isum (fun _ => 0) m + 0 = 0; rw [ih]; rfl
    have h9 := p3.2
    rw [e0, ez, Int.add_zero, cap_id x6.2, cap_id (hG 0 (by omega) (by omega)).2.2] at h9
    exact h9
  · intro hK
    by_cases z : R.1 21 3 < n
    · rw [if_pos z]
    · exfalso
      apply hK
      have e : R.1 21 3 = n := by omega
      exact cnt_all n (fun t ht => decide_eq_true (by
        obtain ⟨b, b0, b1, b2⟩ := hq e (t : Int) (by omega) (by omega)
        have := kout_known hs h1 hD (hq e) (R.1 21 3 - b).toNat b b0 b1 (by omega)
        rw [b2] at this; exact this))
