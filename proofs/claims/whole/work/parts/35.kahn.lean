/-! how many rows: from the first pair on, and from the last ones on, it's the same number -/
def sxe (sx : Int → Int → Int) (e : Nat) : Int := sx ((e / 6 : Nat) : Int) ((e % 6 : Nat) : Int)
def opn (sx : Int → Int → Int) (Lv : Nat → Bool) (n : Nat) (t : Int) : Nat := cnt (fun e => Lv e && decide (sxe sx e = t)) (6 * n)
def dropL (Lv : Nat → Bool) (e : Nat) : Nat → Bool := fun x => Lv x && !decide (x = e)
theorem opn_drop {sx : Int → Int → Int} {Lv : Nat → Bool} {n e : Nat} (he : e < 6 * n) (hl : Lv e = true) : opn sx Lv n (sxe sx e) = opn sx (dropL Lv e) n (sxe sx e) + 1 :=
  cnt_add (t := e) (by simp [dropL]) (by simp [hl]) he (fun i _ hne => by simp [dropL, hne])
theorem opn_other {sx : Int → Int → Int} {Lv : Nat → Bool} {n e : Nat} {t : Int} (h : ¬ t = sxe sx e) : opn sx (dropL Lv e) n t = opn sx Lv n t :=
  cnt_congr (fun i _ => by
    show (dropL Lv e i && decide (sxe sx i = t)) = (Lv i && decide (sxe sx i = t))
    by_cases q : i = e
    · subst q
      rw [decide_eq_false (fun x => h x.symm), Bool.and_false, Bool.and_false]
    · simp [dropL, q])
/-- the queue -/
def KQ (sx : Int → Int → Int) (n : Nat) (u : mW) (Lv : Nat → Bool) : Prop :=
  0 ≤ u 21 3 ∧ (∀ b : Int, 0 ≤ b → b < u 21 3 → 0 ≤ u 24 b ∧ u 24 b < n) ∧ (∀ b c : Int, 0 ≤ b → b < c → c < u 21 3 → ¬ u 24 b = u 24 c) ∧ (∀ t : Int, 0 ≤ t → t < n → u 22 t = (opn sx Lv n t : Int)) ∧
  (∀ t : Int, 0 ≤ t → t < n → (u 22 t = 0 ↔ ∃ b : Int, 0 ≤ b ∧ b < u 21 3 ∧ u 24 b = t)) ∧ u 21 3 = ((cnt (fun t : Nat => decide (u 22 (t : Int) = 0)) n : Nat) : Int)
theorem goW_cells {u : mW} {t m : Int} (ht : 0 ≤ t ∧ t < 64) : (∀ x : Int, goW u t m 22 x = if x = t then u 22 t - 1 else u 22 x) ∧ (∀ x : Int, goW u t m 23 x = if x = t then capI (u 23 t + m) else u 23 x) ∧
    ((u 22 t - 1 = 0 ∧ u 21 3 < 64 ∧ goW u t m 21 3 = u 21 3 + 1 ∧ ∀ b : Int, goW u t m 24 b = if b = u 21 3 then t else u 24 b) ∨ (¬ (u 22 t - 1 = 0 ∧ u 21 3 < 64) ∧ goW u t m 21 3 = u 21 3 ∧ ∀ b : Int, goW u t m 24 b = u 24 b)) := by
  have v22 : ∀ x : Int, goV u t m 22 x = if x = t then u 22 t - 1 else u 22 x := fun x => by
    unfold goV
    rw [mup_get]
    by_cases e : x = t
    · rw [if_pos ⟨rfl, e⟩, if_pos e]
    · rw [if_neg (fun q => e q.2), if_neg e, mup_ne (by decide)]
  have v23 : ∀ x : Int, goV u t m 23 x = if x = t then capI (u 23 t + m) else u 23 x := fun x => by
    unfold goV
    rw [mup_ne (by decide), mup_get]
    by_cases e : x = t
    · rw [if_pos ⟨rfl, e⟩, if_pos e]
    · rw [if_neg (fun q => e q.2), if_neg e]
  have v21 : goV u t m 21 = u 21 := by unfold goV; rw [mup_ne (by decide), mup_ne (by decide)]
  have v24 : goV u t m 24 = u 24 := by unfold goV; rw [mup_ne (by decide), mup_ne (by decide)]
  have e0 : goV u t m 22 t = u 22 t - 1 := by rw [v22, if_pos rfl]
  unfold goW
  rw [if_pos ht]
  by_cases q : goV u t m 22 t = 0
  · rw [if_pos q]
    unfold srW
    by_cases q2 : u 21 3 < 64
    · rw [if_pos (by rw [v21]; exact q2)]
      refine ⟨fun x => ?_, fun x => ?_, Or.inl ⟨by omega, q2, ?_, fun b => ?_⟩⟩
      · rw [mup_ne (by decide), mup_ne (by decide)]; exact v22 x
      · rw [mup_ne (by decide), mup_ne (by decide)]; exact v23 x
      · rw [mup_at, v21]
      · rw [mup_ne (by decide), mup_get, v21, v24]
        by_cases e : b = u 21 3
        · rw [if_pos ⟨rfl, e⟩, if_pos e]
        · rw [if_neg (fun x => e x.2), if_neg e]
    · rw [if_neg (by rw [v21]; exact q2)]
      exact ⟨v22, v23, Or.inr ⟨fun x => q2 x.2, by rw [v21], fun b => by rw [v24]⟩⟩
  · rw [if_neg q]
    exact ⟨v22, v23, Or.inr ⟨fun x => q (by omega), by rw [v21], fun b => by rw [v24]⟩⟩
theorem KQ.le {sx : Int → Int → Int} {n : Nat} {u : mW} {Lv : Nat → Bool} (h : KQ sx n u Lv) : u 21 3 ≤ n := by
  rw [h.2.2.2.2.2]; have := cnt_le (fun t : Nat => decide (u 22 (t : Int) = 0)) n; omega
theorem KQ.go {sx : Int → Int → Int} {n : Nat} {u : mW} {Lv : Nat → Bool} {e : Nat} {m : Int} (h : KQ sx n u Lv) (hn : n ≤ 64) (he : e < 6 * n) (hl : Lv e = true) (ht : 0 ≤ sxe sx e ∧ sxe sx e < n) :
    KQ sx n (goW u (sxe sx e) m) (dropL Lv e) ∧ (∀ b : Int, b < u 21 3 → goW u (sxe sx e) m 24 b = u 24 b) ∧ u 21 3 ≤ goW u (sxe sx e) m 21 3 ∧ ∀ b : Int, 0 ≤ b → b < u 21 3 → ¬ u 24 b = sxe sx e := by
  obtain ⟨h1, h2, h3, h4, h5, h6⟩ := h
  have hd := opn_drop (sx := sx) he hl
  generalize hT : sxe sx e = t at *
  obtain ⟨c22, c23, hc⟩ := goW_cells (u := u) (t := t) (m := m) (by omega)
  have ho : u 22 t = (opn sx Lv n t : Int) := h4 t ht.1 ht.2
  have hnq : ∀ b : Int, 0 ≤ b → b < u 21 3 → ¬ u 24 b = t := fun b b0 b1 q => by
    have := (h5 t ht.1 ht.2).mpr ⟨b, b0, b1, q⟩
    omega
  have hlt : u 21 3 < n := by
    rw [h6]
    have := cnt_lt (f := fun t : Nat => decide (u 22 (t : Int) = 0)) (t := t.toNat) (n := n) (decide_eq_false (by rw [Int.toNat_of_nonneg ht.1]; omega)) (by omega)
    omega
  have hop : ∀ x : Int, 0 ≤ x → x < n → goW u t m 22 x = (opn sx (dropL Lv e) n x : Int) := fun x x0 x1 => by
    rw [c22]
    by_cases q : x = t
    · rw [if_pos q, q]; omega
    · rw [if_neg q, opn_other (by rw [hT]; exact q)]; exact h4 x x0 x1
  rcases hc with ⟨d1, d2, d3, d4⟩ | ⟨d1, d3, d4⟩
  · refine ⟨⟨by omega, fun b b0 b1 => ?_, fun b c b0 bc c1 => ?_, hop, fun x x0 x1 => ?_, ?_⟩, fun b hb => by rw [d4, if_neg (by omega)], by omega, hnq⟩
    · rw [d4]
      by_cases q : b = u 21 3
      · rw [if_pos q]; exact ht
      · rw [if_neg q]; exact h2 b b0 (by omega)
    · rw [d4, d4, if_neg (show ¬ b = u 21 3 by omega)]
      by_cases q : c = u 21 3
      · rw [if_pos q]; exact hnq b b0 (by omega)
      · rw [if_neg q]; exact h3 b c b0 bc (by omega)
    · rw [c22]
      by_cases q : x = t
      · rw [if_pos q]
        exact ⟨fun _ => ⟨u 21 3, h1, by omega, by rw [d4, if_pos rfl, q]⟩, fun _ => d1⟩
      · rw [if_neg q, h5 x x0 x1]
        constructor
        · intro ⟨b, b0, b1, b2⟩
          exact ⟨b, b0, by omega, by rw [d4, if_neg (by omega)]; exact b2⟩
        · intro ⟨b, b0, b1, b2⟩
          rw [d4] at b2
          by_cases q2 : b = u 21 3
          · rw [if_pos q2] at b2; exact absurd b2.symm q
          · rw [if_neg q2] at b2; exact ⟨b, b0, by omega, b2⟩
    · have := cnt_add (f := fun x : Nat => decide (u 22 (x : Int) = 0)) (g := fun x : Nat => decide (goW u t m 22 (x : Int) = 0)) (t := t.toNat) (n := n) (decide_eq_false (by rw [Int.toNat_of_nonneg ht.1]; omega)) (decide_eq_true (by rw [Int.toNat_of_nonneg ht.1, c22, if_pos rfl]; exact d1)) (by omega) (fun i hi hne => by
        show decide (u 22 (i : Int) = 0) = decide (goW u t m 22 (i : Int) = 0)
        rw [c22, if_neg (by omega)])
      rw [this, d3, h6]; omega
  · refine ⟨⟨by omega, fun b b0 b1 => ?_, fun b c b0 bc c1 => ?_, hop, fun x x0 x1 => ?_, ?_⟩, fun b _ => d4 b, by omega, hnq⟩
    · rw [d4]; exact h2 b b0 (by omega)
    · rw [d4, d4]; exact h3 b c b0 bc (by omega)
    · rw [c22, d3]
      simp only [d4]
      by_cases q : x = t
      · rw [if_pos q, q]
        exact ⟨fun z => absurd ⟨z, by omega⟩ d1, fun ⟨b, b0, b1, b2⟩ => absurd b2 (hnq b b0 b1)⟩
      · rw [if_neg q]; exact h5 x x0 x1
    · rw [d3, h6]
      congr 1
      refine cnt_congr (fun i hi => ?_)
      show decide (u 22 (i : Int) = 0) = decide (goW u t m 22 (i : Int) = 0)
      rw [c22]
      by_cases q : (i : Int) = t
      · rw [if_pos q, q, decide_eq_false (by omega), decide_eq_false (fun z => d1 ⟨z, by omega⟩)]
      · rw [if_neg q]
theorem KQ.none {sx : Int → Int → Int} {n : Nat} {u : mW} {Lv : Nat → Bool} {e : Nat} (h : KQ sx n u Lv) (ht : sxe sx e < 0) : KQ sx n u (dropL Lv e) :=
  ⟨h.1, h.2.1, h.2.2.1, fun t t0 t1 => by rw [opn_other (by omega)]; exact h.2.2.2.1 t t0 t1, h.2.2.2.2⟩
/-! numbers up to the cap -/
theorem cap_id {x : Int} (h : x ≤ CAP) : capI x = x := if_pos h
theorem cap_add {x y z : Int} (hx : 0 ≤ x) (hy : 0 ≤ y) (hz : 0 ≤ z) (h : capI y = capI z) : capI (x + y) = capI (x + z) := by
  unfold capI CAP at *
  (repeat' split) <;> (repeat' split at h) <;> omega
theorem cap_cap {x : Int} : capI (capI x) = capI x := by unfold capI CAP; (repeat' split) <;> omega
theorem mul_ge {x m : Int} (hx : 0 ≤ x) (hm : 1 ≤ m) : x ≤ x * m := by
  have e : x * m = x * (m - 1) + x := by rw [Int.mul_sub, Int.mul_one]; omega
  have := Int.mul_nonneg hx (show 0 ≤ m - 1 by omega)
  omega
theorem cap_mul {s g : Int} (hs : 0 ≤ s) (hg : 0 ≤ g) : capI (capI s * g) = capI (s * g) := by
  by_cases q : s ≤ CAP
  · rw [cap_id q]
  · by_cases g0 : g = 0
    · rw [g0, Int.mul_zero, Int.mul_zero]
    · have e : capI s = CAP := if_neg q
      have h1 := mul_ge (show 0 ≤ CAP by decide) (show 1 ≤ g by omega)
      have h2 := mul_ge hs (show 1 ≤ g by omega)
      rw [e]
      unfold capI
      by_cases c1 : CAP * g ≤ CAP
      · rw [if_pos c1, if_neg (by omega)]; omega
      · rw [if_neg c1, if_neg (by omega)]
def isum (f : Nat → Int) : Nat → Int
  | 0 => 0
  | n + 1 => isum f n + f n
theorem isum_nonneg {f : Nat → Int} : ∀ n, (∀ t, t < n → 0 ≤ f t) → 0 ≤ isum f n
  | 0, _ => Int.le_refl 0
  | n + 1, h => by
    have h1 := isum_nonneg n (fun t ht => h t (by omega))
    have h2 := h n (by omega)
    show 0 ≤ isum f n + f n
    omega
theorem isum_congr {f g : Nat → Int} : ∀ n, (∀ t, t < n → f t = g t) → isum f n = isum g n
  | 0, _ => rfl
  | n + 1, h => by
    show isum f n + f n = isum g n + g n
    rw [isum_congr n (fun t ht => h t (by omega)), h n (by omega)]
theorem isum_upd {f g : Nat → Int} {j : Nat} : ∀ n, j < n → (∀ t, t < n → t ≠ j → f t = g t) → isum g n = isum f n + (g j - f j)
  | 0, hj, _ => absurd hj (by omega)
  | n + 1, hj, h => by
    show isum g n + g n = isum f n + f n + (g j - f j)
    by_cases e : j = n
    · subst e
      rw [isum_congr (f := f) (g := g) j (fun t ht => h t (by omega) (by omega))]; omega
    · rw [isum_upd n (by omega) (fun t ht hne => h t (by omega) hne), h n (by omega) (fun q => e q.symm)]; omega
def trm (g : Int → Int) (sx : Int → Int → Int) (i : Int) (k : Nat) : Int := if sx i (k : Int) < 0 then 0 else g (sx i (k : Int))
/-- the last r of the six -/
def tls (g : Int → Int) (sx : Int → Int → Int) (i : Int) : Nat → Int
  | 0 => 0
  | r + 1 => trm g sx i (5 - r) + tls g sx i r
theorem tls_nonneg {g : Int → Int} {sx : Int → Int → Int} {i : Int} (h : ∀ k : Nat, k < 6 → 0 ≤ trm g sx i k) : ∀ r, r ≤ 6 → 0 ≤ tls g sx i r
  | 0, _ => Int.le_refl 0
  | r + 1, hr => by
    have h1 := tls_nonneg h r (by omega)
    have h2 := h (5 - r) (by omega)
    show 0 ≤ trm g sx i (5 - r) + tls g sx i r
    omega
theorem wsum_tls {w : mW} {sx : Int → Int → Int} {b : Bool} {i : Int} : wsum w sx b i 6 = (if b then 1 else 0) + tls (w 41) sx i 6 := by
  have e1 : tls (w 41) sx i 6 = trm (w 41) sx i 0 + (trm (w 41) sx i 1 + (trm (w 41) sx i 2 + (trm (w 41) sx i 3 + (trm (w 41) sx i 4 + (trm (w 41) sx i 5 + 0))))) := rfl
  have e2 : wsum w sx b i 6 = (if b then 1 else 0) + trm (w 41) sx i 0 + trm (w 41) sx i 1 + trm (w 41) sx i 2 + trm (w 41) sx i 3 + trm (w 41) sx i 4 + trm (w 41) sx i 5 := rfl
  rw [e1, e2]
  generalize (if b then (1 : Int) else 0) = x
  omega
/-- what is kept: the rows that have come, times the rows that go on from there -/
def CR (g : Int → Int) (n : Nat) (u : mW) (acc : Int) (pd : Int → Int) : Prop := (∀ t : Int, 0 ≤ t → t < n → 0 ≤ pd t) ∧ capI (acc + isum (fun t => u 23 (t : Int) * pd (t : Int)) n) = capI (g 0)
def RwOK (n : Nat) (u : mW) : Prop := ∀ t : Int, 0 ≤ t → t < n → 0 ≤ u 23 t ∧ u 23 t ≤ CAP
theorem CR.begin {g : Int → Int} {sx : Int → Int → Int} {n : Nat} {u : mW} {acc : Int} {pd : Int → Int} {i : Nat} {b : Bool} (h : CR g n u acc pd) (hr : RwOK n u) (ha : 0 ≤ acc) (hi : i < n) (hp : pd (i : Int) = g (i : Int)) (hg : g (i : Int) = capI ((if b then 1 else 0) + tls g sx (i : Int) 6)) (ht : 0 ≤ tls g sx (i : Int) 6) : CR g n u (if b then capI (acc + u 23 (i : Int)) else acc) (iup pd (i : Int) (tls g sx (i : Int) 6)) := by
  obtain ⟨h1, h2⟩ := h
  have hri := hr (i : Int) (by omega) (by omega)
  refine ⟨fun t t0 t1 => ?_, ?_⟩
  · unfold iup; split
    · exact ht
    · exact h1 t t0 t1
  have e0 : isum (fun t => if t = i then 0 else u 23 (t : Int) * pd (t : Int)) n = isum (fun t => u 23 (t : Int) * pd (t : Int)) n + (0 - u 23 (i : Int) * pd (i : Int)) := by
    have := isum_upd (f := fun t => u 23 (t : Int) * pd (t : Int)) (g := fun t => if t = i then 0 else u 23 (t : Int) * pd (t : Int)) (j := i) n hi (fun t _ hne => by simp [hne])
    rw [this]; simp
  have e1 : isum (fun t => u 23 (t : Int) * iup pd (i : Int) (tls g sx (i : Int) 6) (t : Int)) n = isum (fun t => if t = i then 0 else u 23 (t : Int) * pd (t : Int)) n + u 23 (i : Int) * tls g sx (i : Int) 6 := by
    have := isum_upd (f := fun t => if t = i then 0 else u 23 (t : Int) * pd (t : Int)) (g := fun t => u 23 (t : Int) * iup pd (i : Int) (tls g sx (i : Int) 6) (t : Int)) (j := i) n hi (fun t _ hne => by
      rw [if_neg hne, iup_ne _ _ (by omega)])
    rw [this]; simp [iup_at]
  have n0 : 0 ≤ isum (fun t => if t = i then 0 else u 23 (t : Int) * pd (t : Int)) n := isum_nonneg n (fun t ht => by
    split
    · exact Int.le_refl 0
    · exact Int.mul_nonneg (hr t (by omega) (by omega)).1 (h1 t (by omega) (by omega)))
  have nb : (0 : Int) ≤ (if b then 1 else 0) := by cases b <;> decide
  rw [e1]
  generalize isum (fun t => if t = i then 0 else u 23 (t : Int) * pd (t : Int)) n = X at *
  generalize isum (fun t => u 23 (t : Int) * pd (t : Int)) n = Y at *
  generalize htl : tls g sx (i : Int) 6 = tl at *
  generalize u 23 (i : Int) = ri at *
  have hY : Y = X + ri * pd (i : Int) := by omega
  rw [← h2, hY, hp, hg]
  have m1 : 0 ≤ ri * tl := Int.mul_nonneg hri.1 ht
  have ncap : ∀ z : Int, 0 ≤ z → 0 ≤ capI z := fun z hz => (capI_rng hz).1
  have k1 : capI (ri * capI ((if b then 1 else 0) + tl)) = capI (ri * ((if b then 1 else 0) + tl)) := by
    rw [Int.mul_comm, cap_mul (by omega) hri.1, Int.mul_comm]
  have k2 : capI (acc + (X + ri * capI ((if b then 1 else 0) + tl))) = capI (acc + (X + ri * ((if b then 1 else 0) + tl))) := by
    rw [← Int.add_assoc, ← Int.add_assoc]
    exact cap_add (by omega) (Int.mul_nonneg hri.1 (ncap _ (by omega))) (Int.mul_nonneg hri.1 (by omega)) k1
  rw [k2, Int.mul_add]
  cases b with
  | true =>
    rw [if_pos rfl, if_pos rfl, Int.mul_one]
    have k3 : capI ((X + ri * tl) + capI (acc + ri)) = capI ((X + ri * tl) + (acc + ri)) := cap_add (by omega) (ncap _ (by omega)) (by omega) cap_cap
    rw [Int.add_comm (capI (acc + ri)), k3]
    congr 1; omega
  | false =>
    rw [if_neg (by decide), if_neg (by decide), Int.mul_zero]
    congr 1; omega
theorem CR.step {g : Int → Int} {sx : Int → Int → Int} {n : Nat} {u u' : mW} {acc : Int} {pd : Int → Int} {i t : Nat} {r : Nat} (h : CR g n u acc pd) (hr : RwOK n u) (ha : 0 ≤ acc) (hi : i < n) (ht : t < n) (hne : ¬ t = i) (hp : pd (i : Int) = tls g sx (i : Int) (r + 1)) (hk : sx (i : Int) ((5 - r : Nat) : Int) = (t : Int)) (hpt : pd (t : Int) = g (t : Int)) (h23 : ∀ x : Int, u' 23 x = if x = (t : Int) then capI (u 23 (t : Int) + u 23 (i : Int)) else u 23 x) (htl : 0 ≤ tls g sx (i : Int) r) : CR g n u' acc (iup pd (i : Int) (tls g sx (i : Int) r)) := by
  obtain ⟨h1, h2⟩ := h
  have hri := hr (i : Int) (by omega) (by omega)
  have hrt := hr (t : Int) (by omega) (by omega)
  have hgt : 0 ≤ g (t : Int) := by rw [← hpt]; exact h1 _ (by omega) (by omega)
  refine ⟨fun x x0 x1 => ?_, ?_⟩
  · unfold iup; split
    · exact htl
    · exact h1 x x0 x1
  have etr : tls g sx (i : Int) (r + 1) = g (t : Int) + tls g sx (i : Int) r := by
    show trm g sx (i : Int) (5 - r) + tls g sx (i : Int) r = _
    unfold trm; rw [hk, if_neg (by omega)]
  have e1 : isum (fun x => u 23 (x : Int) * iup pd (i : Int) (tls g sx (i : Int) r) (x : Int)) n = isum (fun x => u 23 (x : Int) * pd (x : Int)) n + (u 23 (i : Int) * tls g sx (i : Int) r - u 23 (i : Int) * pd (i : Int)) := by
    have := isum_upd (f := fun x => u 23 (x : Int) * pd (x : Int)) (g := fun x => u 23 (x : Int) * iup pd (i : Int) (tls g sx (i : Int) r) (x : Int)) (j := i) n hi (fun x _ hx => by rw [iup_ne _ _ (by omega)])
    rw [this]; simp [iup_at]
  have e2 : isum (fun x => if x = t then 0 else u 23 (x : Int) * iup pd (i : Int) (tls g sx (i : Int) r) (x : Int)) n = isum (fun x => u 23 (x : Int) * iup pd (i : Int) (tls g sx (i : Int) r) (x : Int)) n + (0 - u 23 (t : Int) * g (t : Int)) := by
    have := isum_upd (f := fun x => u 23 (x : Int) * iup pd (i : Int) (tls g sx (i : Int) r) (x : Int)) (g := fun x => if x = t then 0 else u 23 (x : Int) * iup pd (i : Int) (tls g sx (i : Int) r) (x : Int)) (j := t) n ht (fun x _ hx => by simp [hx])
    rw [this, if_pos rfl, iup_ne _ _ (by omega), hpt]
  have e3 : isum (fun x => u' 23 (x : Int) * iup pd (i : Int) (tls g sx (i : Int) r) (x : Int)) n = isum (fun x => if x = t then 0 else u 23 (x : Int) * iup pd (i : Int) (tls g sx (i : Int) r) (x : Int)) n + capI (u 23 (t : Int) + u 23 (i : Int)) * g (t : Int) := by
    have := isum_upd (f := fun x => if x = t then 0 else u 23 (x : Int) * iup pd (i : Int) (tls g sx (i : Int) r) (x : Int)) (g := fun x => u' 23 (x : Int) * iup pd (i : Int) (tls g sx (i : Int) r) (x : Int)) (j := t) n ht (fun x _ hx => by rw [if_neg hx, h23, if_neg (by omega)])
    rw [this, if_pos rfl, h23, if_pos rfl, iup_ne _ _ (by omega), hpt]; omega
  have n0 : 0 ≤ isum (fun x => if x = t then 0 else u 23 (x : Int) * iup pd (i : Int) (tls g sx (i : Int) r) (x : Int)) n := isum_nonneg n (fun x hx => by
    split
    · exact Int.le_refl 0
    · refine Int.mul_nonneg (hr x (by omega) (by omega)).1 ?_
      unfold iup; split
      · exact htl
      · exact h1 x (by omega) (by omega))
  rw [e3]
  rw [hp, etr, Int.mul_add] at e1
  generalize isum (fun x => if x = t then 0 else u 23 (x : Int) * iup pd (i : Int) (tls g sx (i : Int) r) (x : Int)) n = X at *
  generalize isum (fun x => u 23 (x : Int) * iup pd (i : Int) (tls g sx (i : Int) r) (x : Int)) n = Y at *
  generalize isum (fun x => u 23 (x : Int) * pd (x : Int)) n = Z at *
  generalize u 23 (i : Int) * tls g sx (i : Int) r = A at *
  have k1 : capI (capI (u 23 (t : Int) + u 23 (i : Int)) * g (t : Int)) = capI ((u 23 (t : Int) + u 23 (i : Int)) * g (t : Int)) := cap_mul (by omega) hgt
  have k2 : capI ((acc + X) + capI (u 23 (t : Int) + u 23 (i : Int)) * g (t : Int)) = capI ((acc + X) + (u 23 (t : Int) + u 23 (i : Int)) * g (t : Int)) := cap_add (by omega) (Int.mul_nonneg (capI_rng (by omega)).1 hgt) (Int.mul_nonneg (by omega) hgt) k1
  rw [← Int.add_assoc, k2, ← h2]
  congr 1
  rw [Int.add_mul]
  omega
