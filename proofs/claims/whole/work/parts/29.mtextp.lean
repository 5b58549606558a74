/-! the reference's texts, purely: where a state breaks off, arrows twice, what is told -/
def cR (w : mW) (i : Int) : Int := if i < w 31 4 then (if 0 ≤ i ∧ i < 80 then w 34 i else -1) else -1
def TI (w : mW) : Prop := (0 ≤ w 31 4 ∧ w 31 4 ≤ 80) ∧ (∀ i : Int, 0 ≤ i → i < w 31 4 → 0 ≤ w 34 i ∧ w 34 i < 256) ∧ (0 ≤ w 31 14 ∧ w 31 14 ≤ w 31 4)
theorem TI.ok {w : mW} (h : TI w) : TxC (cR w) (w 31 4) := by
  obtain ⟨h1, h2, -⟩ := h
  refine ⟨h1, fun i hi => ⟨fun hn => ?_, fun hn => ?_⟩⟩
  · unfold cR; rw [if_pos hn, if_pos (by omega)]; exact h2 i hi hn
  · unfold cR; rw [if_neg (by omega)]
theorem cR_congr {w u : mW} (h4 : u 31 4 = w 31 4) (h34 : u 34 = w 34) : cR u = cR w := by funext i; unfold cR; rw [h4, h34]
theorem TI.congr {w u : mW} (h : TI w) (h4 : u 31 4 = w 31 4) (h34 : u 34 = w 34) (h14 : 0 ≤ u 31 14 ∧ u 31 14 ≤ w 31 4) : TI u := by
  unfold TI; rw [h4, h34]; exact ⟨h.1, h.2.1, h14⟩
theorem cR_lt {w : mW} {x : Int} (h : 0 ≤ cR w x) : x < w 31 4 := by
  unfold cR at h
  by_cases q : x < w 31 4
  · exact q
  · rw [if_neg q] at h; omega
/-- the frames of the small readers -/
def FrA (w u : mW) : Prop := (∀ a : Nat, a ≠ 31 → a ≠ 44 → a ≠ 45 → u a = w a) ∧ ∀ b : Int, b ≠ 14 → b ≠ 16 → b ≠ 24 → u 31 b = w 31 b
theorem FrA.trans {w v u : mW} (h : FrA w v) (g : FrA v u) : FrA w u :=
  ⟨fun a h1 h2 h3 => (g.1 a h1 h2 h3).trans (h.1 a h1 h2 h3), fun b h1 h2 h3 => (g.2 b h1 h2 h3).trans (h.2 b h1 h2 h3)⟩
theorem FrA.c {w u : mW} (h : FrA w u) : cR u = cR w := cR_congr (h.2 4 (by decide) (by decide) (by decide)) (h.1 34 (by decide) (by decide) (by decide))
theorem FrA.ti {w u : mW} (h : FrA w u) (hT : TI w) (h14 : 0 ≤ u 31 14 ∧ u 31 14 ≤ w 31 4) : TI u := hT.congr (h.2 4 (by decide) (by decide) (by decide)) (h.1 34 (by decide) (by decide) (by decide)) h14
/-- takes -/
def Tks (w w' : mW) (lo hi : Int) (b : Bool) : Prop := ((∀ a : Nat, a ≠ 31 → w' a = w a) ∧ ∀ b : Int, b ≠ 14 → b ≠ 16 → w' 31 b = w 31 b) ∧ ((b = true ∧ (lo ≤ cR w (w 31 14) ∧ cR w (w 31 14) ≤ hi) ∧ w' 31 16 = cR w (w 31 14) - lo ∧ w' 31 14 = w 31 14 + 1) ∨ (b = false ∧ ¬ (lo ≤ cR w (w 31 14) ∧ cR w (w 31 14) ≤ hi) ∧ w' 31 14 = w 31 14))
theorem Tks.fr {w u : mW} {lo hi : Int} {b : Bool} (h : Tks w u lo hi b) : FrA w u := ⟨fun a h1 _ _ => h.1.1 a h1, fun b h1 h2 _ => h.1.2 b h1 h2⟩
theorem Tks.ti {w u : mW} {lo hi : Int} {b : Bool} (h : Tks w u lo hi b) (hl : 0 ≤ lo) (hT : TI w) : TI u := by
  refine h.fr.ti hT ?_
  have h3 := hT.2.2
  rcases h.2 with ⟨-, q, -, e⟩ | ⟨-, -, e⟩
  · have := cR_lt (w := w) (x := w 31 14) (by omega)
    omega
  · omega
/-- kindTaken -/
def KTk (w w' : mW) (z : Int) : Prop := FrA w w' ∧ TI w' ∧ ((∀ a : Nat, a ≠ 31 → w' a = w a) ∧ w' 31 24 = w 31 24) ∧ ((0 ≤ z ∧ (cR w (w 31 14) = 46 ∨ cR w (w 31 14) = 33 ∨ cR w (w 31 14) = 63) ∧ z = kdC (cR w (w 31 14)) ∧ w' 31 14 = w 31 14 + 1) ∨ (z = -1 ∧ ¬ (cR w (w 31 14) = 46 ∨ cR w (w 31 14) = 33 ∨ cR w (w 31 14) = 63) ∧ w' 31 14 = w 31 14))
/-- arrows taken so far -/
def ArK (c : Int → Int) (u : mW) (x : Int) (m : Nat) : Prop := ∀ k : Int, 0 ≤ k → k < m → (u 44 k = c (x + 2 * k) - 97 ∧ (0 ≤ u 44 k ∧ u 44 k < 6)) ∧ (u 45 k = c (x + 2 * k + 1) - 48 ∧ (0 ≤ u 45 k ∧ u 45 k < 8))
def ArI (w u : mW) (x : Int) (m : Nat) : Prop := FrA w u ∧ u 31 24 = (m : Int) ∧ ArK (cR w) u x m
theorem ArI.half {w u u5 v t : mW} {x : Int} {m : Nat} {b b' : Bool} (h : ArI w u x m) (h5 : Tks u u5 97 102 b) (hv : v = mup u5 44 (u5 31 24) (u5 31 16)) (ht : Tks v t 48 55 b') : ArI w t x m := by
  obtain ⟨h1, h2, h3⟩ := h
  have e24 : u5 31 24 = (m : Int) := (h5.1.2 24 (by decide) (by decide)).trans h2
  have ev : v 31 = u5 31 := by rw [hv]; exact mup_ne (by decide)
  have fv : FrA u5 v := ⟨fun a _ h44 _ => by rw [hv, mup_ne h44], fun b _ _ _ => by rw [ev]⟩
  refine ⟨h1.trans (h5.fr.trans (fv.trans ht.fr)), ?_, fun k k0 k1 => ?_⟩
  · rw [ht.1.2 24 (by decide) (by decide), ev]; exact e24
  · have hk := h3 k k0 k1
    rw [ht.1.1 44 (by decide), ht.1.1 45 (by decide), hv, mup_get, if_neg (by omega), mup_ne (show (45 : Nat) ≠ 44 by decide), h5.1.1 44 (by decide), h5.1.1 45 (by decide)]
    exact hk
theorem ArI.step {w u u5 v t : mW} {x : Int} {m : Nat} (h : ArI w u x m) (hx : u 31 14 = x + 2 * (m : Int)) (h5 : Tks u u5 97 102 true) (hv : v = mup u5 44 (u5 31 24) (u5 31 16)) (ht : Tks v t 48 55 true) : ArI w (mup (mup t 45 (t 31 24) (t 31 16)) 31 24 (mup t 45 (t 31 24) (t 31 16) 31 24 + 1)) x (m + 1) := by
  have hh := h.half h5 hv ht
  obtain ⟨g1, g2, g3⟩ := hh
  have ec : cR u = cR w := h.1.c
  have e24 : u5 31 24 = (m : Int) := (h5.1.2 24 (by decide) (by decide)).trans h.2.1
  have ev : v 31 = u5 31 := by rw [hv]; exact mup_ne (by decide)
  have evc : cR v = cR w := (cR_congr (by rw [ev]) (by rw [hv]; exact mup_ne (by decide))).trans (h5.fr.c.trans ec)
  rcases h5.2 with ⟨-, p1, p2, p3⟩ | ⟨q, -⟩
  · rcases ht.2 with ⟨-, q1, q2, q3⟩ | ⟨q, -⟩
    · rw [ec, hx] at p1 p2
      rw [evc, ev, p3, hx] at q1 q2
      refine ⟨⟨fun a h1 h2 h3 => by rw [mup_ne h1, mup_ne h3]; exact g1.1 a h1 h2 h3, fun b h1 h2 h3 => by rw [mup_get, if_neg (fun e => h3 e.2), mup_ne (by decide)]; exact g1.2 b h1 h2 h3⟩, ?_, fun k k0 k1 => ?_⟩
      · rw [mup_at, mup_ne (by decide), g2]; omega
      · rw [mup_ne (show (44 : Nat) ≠ 31 by decide), mup_ne (show (44 : Nat) ≠ 45 by decide), mup_ne (show (45 : Nat) ≠ 31 by decide), mup_get]
        by_cases e : k = (m : Int)
        · rw [if_pos ⟨rfl, by rw [g2]; exact e⟩, ht.1.1 44 (by decide), hv, mup_get, if_pos ⟨rfl, by rw [e24]; exact e⟩, p2, q2, e, show x + 2 * (m : Int) + 1 = x + 2 * (m : Int) + 1 from rfl]
          omega
        · rw [if_neg (fun q => e (by rw [q.2, g2]))]
          exact g3 k k0 (by omega)
    · cases q
  · cases q
/-- the first word that comes a second time -/
def twA (g : Int → Int) : Nat → Nat → Nat → Int
  | 0, _, _ => -1
  | f + 1, k, S => if S.testBit (g (k : Int)).toNat then g (k : Int) else twA g f (k + 1) (S ||| 2 ^ (g (k : Int)).toNat)
theorem twA_rng {g : Int → Int} : ∀ (f k S : Nat), (∀ j : Int, k ≤ j → j < k + f → 0 ≤ g j ∧ g j < 6) → twA g f k S = -1 ∨ (0 ≤ twA g f k S ∧ twA g f k S < 6)
  | 0, _, _, _ => Or.inl rfl
  | f + 1, k, S, h => by
    unfold twA; split
    · exact Or.inr (h k (by omega) (by omega))
    · exact twA_rng f (k + 1) _ (fun j h1 h2 => h j (by omega) (by omega))
/-- the draft with arrows laid in -/
def dfo (c : Int → Int) (st : Int) : Nat → Int → (Int → Int) → Int → Int
  | 0, _, D => D
  | m + 1, a, D => dfo c st m (a + 2) (iup D (st * 7 + 1 + (c a - 97)) (c (a + 1) - 48))
theorem dfo_ne {c : Int → Int} {st : Int} : ∀ (m : Nat) (a : Int) (D : Int → Int) (b : Int), (∀ k : Int, 0 ≤ k → k < m → 0 ≤ c (a + 2 * k) - 97 ∧ c (a + 2 * k) - 97 < 6) → (b < st * 7 + 1 ∨ st * 7 + 7 ≤ b) → dfo c st m a D b = D b
  | 0, _, _, _, _, _ => rfl
  | m + 1, a, D, b, h, hb => by
    have h0 := h 0 (by omega) (by omega)
    rw [show a + 2 * 0 = a by omega] at h0
    unfold dfo
    rw [dfo_ne m (a + 2) _ b (fun k k0 k1 => by have := h (k + 1) (by omega) (by omega); rw [show a + 2 * (k + 1) = a + 2 + 2 * k by omega] at this; exact this) hb]
    exact iup_ne _ _ (by omega)
theorem tka_tw {c : Int → Int} {st s : Int} : ∀ (m : Nat) (a : Int) (T : Tx) (S k : Nat) (g : Int → Int), (∀ j : Int, 0 ≤ j → j < m → (g (k + j) = c (a + 2 * j) - 97 ∧ (0 ≤ g (k + j) ∧ g (k + j) < 6)) ∧ 0 ≤ c (a + 2 * j + 1) - 48) → (∀ x : Int, 0 ≤ x → x < 6 → (S.testBit x.toNat = true ↔ ¬ T.2.1 (st * 7 + 1 + x) = -1)) →
    (twA g m k S = -1 → tkA c st s m a T = (T.1, dfo c st m a T.2.1, T.2.2)) ∧ (¬ twA g m k S = -1 → (tkA c st s m a T).2.2 = (s, 3, twA g m k S))
  | 0, a, T, S, k, g, _, _ => ⟨fun _ => rfl, fun h => absurd rfl h⟩
  | m + 1, a, T, S, k, g, hg, hS => by
    have h0 := hg 0 (by omega) (by omega)
    rw [show ((k : Int) + 0) = (k : Int) by omega, show a + 2 * 0 = a by omega] at h0
    have hb := hS (g (k : Int)) (by omega) (by omega)
    rw [h0.1.1] at hb
    have hgk : g (k : Int) = c a - 97 := h0.1.1
    unfold twA tkA
    by_cases q : S.testBit (g (k : Int)).toNat = true
    · rw [if_pos q]
      have q2 := hb.mp (by rw [← hgk]; exact q)
      refine ⟨fun e => by omega, fun _ => ?_⟩
      rw [if_pos q2, hgk]; rfl
    · rw [if_neg q]
      have q2 : ¬ ¬ T.2.1 (st * 7 + 1 + (c a - 97)) = -1 := fun x => q (by rw [hgk]; exact hb.mpr x)
      rw [if_neg q2]
      have ih := tka_tw (c := c) (st := st) (s := s) m (a + 2) (T.1, iup T.2.1 (st * 7 + 1 + (c a - 97)) (c (a + 1) - 48), T.2.2) (S ||| 2 ^ (g (k : Int)).toNat) (k + 1) g (fun j j0 j1 => by
        have := hg (j + 1) (by omega) (by omega)
        rw [show ((k : Int) + (j + 1)) = ((k + 1 : Nat) : Int) + j by omega, show a + 2 * (j + 1) = a + 2 + 2 * j by omega] at this
        exact this) (fun x x0 x6 => by
        rw [Nat.testBit_or, Bool.or_eq_true, Nat.testBit_two_pow, decide_eq_true_eq, hgk]
        show _ ↔ ¬ iup T.2.1 (st * 7 + 1 + (c a - 97)) (c (a + 1) - 48) (st * 7 + 1 + x) = -1
        by_cases e : x = c a - 97
        · rw [e, iup_at]
          have h1 := h0.2
          exact ⟨fun _ => by omega, fun _ => Or.inr rfl⟩
        · rw [iup_ne _ _ (by omega), ← hS x x0 x6]
          exact ⟨fun h => h.elim id (fun h => absurd h (by omega)), Or.inl⟩)
      exact ih
/-- what the reading comes to, in the reference's steps -/
theorem scan_d0 {c : Int → Int} {s : Int} (h : ¬ (48 ≤ c s ∧ c s ≤ 55)) : scan c s = (6, s) := by
  have e : aftF 0 (c s) = 6 := by unfold aftF; rw [if_pos rfl, if_neg (by omega)]
  unfold scan; rw [e]; exact dfa_stop (by omega) 80
theorem scan_d1 {c : Int → Int} {s : Int} (h : 48 ≤ c s ∧ c s ≤ 55) : scan c s = dfa c 79 (aftF 1 (c (s + 1))) (s + 1) := by
  have e : aftF 0 (c s) = 1 := by unfold aftF; rw [if_pos rfl, if_pos (by omega)]
  unfold scan; rw [e]; exact if_pos (by omega)
theorem scan_k0 {c : Int → Int} {s : Int} (h : 48 ≤ c s ∧ c s ≤ 55) (hk : ¬ (c (s + 1) = 46 ∨ c (s + 1) = 33 ∨ c (s + 1) = 63)) : scan c s = (6, s + 1) := by
  rw [scan_d1 h]
  have e : aftF 1 (c (s + 1)) = 6 := by unfold aftF; rw [if_neg (by omega), if_pos rfl, if_neg (by omega), if_neg (by omega)]
  rw [e]; exact dfa_stop (by omega) 79
/-- after the arrows: ended or broken off there -/
def ScE (c : Int → Int) (s x : Int) : Prop := (c x = 59 → scan c s = (5, x)) ∧ (¬ c x = 59 → scan c s = (6, x))
theorem scan_dot {c : Int → Int} {s : Int} (h : 48 ≤ c s ∧ c s ≤ 55) (hk : c (s + 1) = 46) : ScE c s (s + 2) := by
  rw [ScE, scan_d1 h]
  have e : aftF 1 (c (s + 1)) = 2 := by unfold aftF; rw [if_neg (by omega), if_pos rfl, if_pos hk]
  rw [e]
  have e2 : dfa c 79 2 (s + 1) = dfa c 78 (aftF 2 (c (s + 1 + 1))) (s + 1 + 1) := if_pos (by omega)
  rw [e2, show s + 1 + 1 = s + 2 by omega]
  refine ⟨fun q => ?_, fun q => ?_⟩
  · have e3 : aftF 2 (c (s + 2)) = 5 := by unfold aftF; rw [if_neg (by omega), if_neg (by omega), if_pos rfl, if_pos q]
    rw [e3]; exact dfa_stop (by omega) 78
  · have e3 : aftF 2 (c (s + 2)) = 6 := by unfold aftF; rw [if_neg (by omega), if_neg (by omega), if_pos rfl, if_neg q]
    rw [e3]; exact dfa_stop (by omega) 78
theorem aft3 {ch : Int} (h : 97 ≤ ch ∧ ch ≤ 102) : aftF 3 ch = 4 := by unfold aftF; rw [if_neg (by omega), if_neg (by omega), if_neg (by omega), if_pos rfl, if_neg (by omega), if_pos (by omega)]
theorem aft4 {ch : Int} (h : 48 ≤ ch ∧ ch ≤ 55) : aftF 4 ch = 3 := by unfold aftF; rw [if_neg (by omega), if_neg (by omega), if_neg (by omega), if_neg (by omega), if_pos rfl, if_pos (by omega)]
theorem dfa_arr {c : Int → Int} : ∀ (m f : Nat) (p : Int), (∀ k : Int, 0 ≤ k → k < m → (97 ≤ c (p + 1 + 2 * k) ∧ c (p + 1 + 2 * k) ≤ 102) ∧ (48 ≤ c (p + 1 + 2 * k + 1) ∧ c (p + 1 + 2 * k + 1) ≤ 55)) → dfa c (f + 2 * m) 3 p = dfa c f 3 (p + 2 * (m : Int))
  | 0, f, p, _ => by rw [show p + 2 * ((0 : Nat) : Int) = p by omega]; rfl
  | m + 1, f, p, h => by
    have h0 := h 0 (by omega) (by omega)
    rw [show p + 1 + 2 * 0 = p + 1 by omega] at h0
    rw [show f + 2 * (m + 1) = (f + 2 * m) + 1 + 1 by omega]
    have e1 : dfa c (f + 2 * m + 1 + 1) 3 p = dfa c (f + 2 * m + 1) (aftF 3 (c (p + 1))) (p + 1) := if_pos (by omega)
    have e2 : dfa c (f + 2 * m + 1) 4 (p + 1) = dfa c (f + 2 * m) (aftF 4 (c (p + 1 + 1))) (p + 1 + 1) := if_pos (by omega)
    rw [e1, aft3 h0.1, e2, aft4 h0.2, dfa_arr m f (p + 1 + 1) (fun k k0 k1 => by
      have := h (k + 1) (by omega) (by omega)
      rw [show p + 1 + 2 * (k + 1) = p + 1 + 1 + 1 + 2 * k by omega] at this
      exact this), show p + 1 + 1 + 2 * (m : Int) = p + 2 * ((m + 1 : Nat) : Int) by omega]
theorem scan_arr {c : Int → Int} {s : Int} {m f : Nat} (h : 48 ≤ c s ∧ c s ≤ 55) (hk : c (s + 1) = 33 ∨ c (s + 1) = 63) (hf : 79 = f + 2 * m) (ha : ∀ k : Int, 0 ≤ k → k < m → (97 ≤ c (s + 2 + 2 * k) ∧ c (s + 2 + 2 * k) ≤ 102) ∧ (48 ≤ c (s + 2 + 2 * k + 1) ∧ c (s + 2 + 2 * k + 1) ≤ 55)) : scan c s = dfa c f 3 (s + 1 + 2 * (m : Int)) := by
  rw [scan_d1 h]
  have e : aftF 1 (c (s + 1)) = 3 := by unfold aftF; rw [if_neg (by omega), if_pos rfl, if_neg (by omega), if_pos (by omega)]
  rw [e, hf]
  exact dfa_arr m f (s + 1) (fun k k0 k1 => by rw [show s + 1 + 1 + 2 * k = s + 2 + 2 * k by omega]; exact ha k k0 k1)
theorem scan_end {c : Int → Int} {s : Int} {m : Nat} (h : 48 ≤ c s ∧ c s ≤ 55) (hk : c (s + 1) = 33 ∨ c (s + 1) = 63) (hf : 2 * m ≤ 78) (ha : ∀ k : Int, 0 ≤ k → k < m → (97 ≤ c (s + 2 + 2 * k) ∧ c (s + 2 + 2 * k) ≤ 102) ∧ (48 ≤ c (s + 2 + 2 * k + 1) ∧ c (s + 2 + 2 * k + 1) ≤ 55)) (hn : ¬ (97 ≤ c (s + 2 + 2 * (m : Int)) ∧ c (s + 2 + 2 * (m : Int)) ≤ 102)) : ScE c s (s + 2 + 2 * (m : Int)) := by
  obtain ⟨f, hf2⟩ : ∃ f, 79 = (f + 1) + 2 * m := ⟨78 - 2 * m, by omega⟩
  rw [ScE, scan_arr h hk hf2 ha]
  have e2 : dfa c (f + 1) 3 (s + 1 + 2 * (m : Int)) = dfa c f (aftF 3 (c (s + 1 + 2 * (m : Int) + 1))) (s + 1 + 2 * (m : Int) + 1) := if_pos (by omega)
  rw [e2, show s + 1 + 2 * (m : Int) + 1 = s + 2 + 2 * (m : Int) by omega]
  refine ⟨fun q => ?_, fun q => ?_⟩
  · have e3 : aftF 3 (c (s + 2 + 2 * (m : Int))) = 5 := by unfold aftF; rw [if_neg (by omega), if_neg (by omega), if_neg (by omega), if_pos rfl, if_pos q]
    rw [e3]; exact dfa_stop (by omega) f
  · have e3 : aftF 3 (c (s + 2 + 2 * (m : Int))) = 6 := by unfold aftF; rw [if_neg (by omega), if_neg (by omega), if_neg (by omega), if_pos rfl, if_neg q, if_neg (by omega)]
    rw [e3]; exact dfa_stop (by omega) f
theorem scan_half {c : Int → Int} {s : Int} {m : Nat} (h : 48 ≤ c s ∧ c s ≤ 55) (hk : c (s + 1) = 33 ∨ c (s + 1) = 63) (hf : 2 * m ≤ 77) (ha : ∀ k : Int, 0 ≤ k → k < m → (97 ≤ c (s + 2 + 2 * k) ∧ c (s + 2 + 2 * k) ≤ 102) ∧ (48 ≤ c (s + 2 + 2 * k + 1) ∧ c (s + 2 + 2 * k + 1) ≤ 55)) (hl : 97 ≤ c (s + 2 + 2 * (m : Int)) ∧ c (s + 2 + 2 * (m : Int)) ≤ 102) (hn : ¬ (48 ≤ c (s + 2 + 2 * (m : Int) + 1) ∧ c (s + 2 + 2 * (m : Int) + 1) ≤ 55)) : scan c s = (6, s + 2 + 2 * (m : Int) + 1) := by
  obtain ⟨f, hf2⟩ : ∃ f, 79 = (f + 1 + 1) + 2 * m := ⟨77 - 2 * m, by omega⟩
  rw [scan_arr h hk hf2 ha]
  have e2 : dfa c (f + 1 + 1) 3 (s + 1 + 2 * (m : Int)) = dfa c (f + 1) (aftF 3 (c (s + 1 + 2 * (m : Int) + 1))) (s + 1 + 2 * (m : Int) + 1) := if_pos (by omega)
  rw [e2, show s + 1 + 2 * (m : Int) + 1 = s + 2 + 2 * (m : Int) by omega, aft3 hl]
  have e4 : dfa c (f + 1) 4 (s + 2 + 2 * (m : Int)) = dfa c f (aftF 4 (c (s + 2 + 2 * (m : Int) + 1))) (s + 2 + 2 * (m : Int) + 1) := if_pos (by omega)
  have e3 : aftF 4 (c (s + 2 + 2 * (m : Int) + 1)) = 6 := by unfold aftF; rw [if_neg (by omega), if_neg (by omega), if_neg (by omega), if_neg (by omega), if_pos rfl, if_neg (by omega)]
  rw [e4, e3]; exact dfa_stop (by omega) f
/-- the reference's draft over the pure one -/
def RD (u : mW) (D : Int → Int) : Prop := ∀ b : Int, 0 ≤ b → b < 56 → u 43 b = if b % 7 = 0 then D b else D b + 1
def RVd (u : mW) (T : Tx) : Prop := u 31 19 = (T.1 : Int) ∧ u 31 20 = ((mpop T.1 : Nat) : Int) ∧ RD u T.2.1
def TFr (T : Tx) : Prop := ∀ t : Nat, t < 8 → T.1.testBit t = false → ∀ k : Int, 0 ≤ k → k < 6 → T.2.1 ((t : Int) * 7 + 1 + k) = -1
def nxT (c : Int → Int) (s : Int) (T : Tx) : Tx := if (scan c s).1 = 5 then tkP c s (scan c s).2 T else tF T s 1 ((scan c s).2 - s)
theorem nxT_6 {c : Int → Int} {s p : Int} {T : Tx} (h : scan c s = (6, p)) : nxT c s T = tF T s 1 (p - s) := by unfold nxT; rw [h]; exact if_neg (show ¬ (6 : Int) = 5 by decide)
theorem nxT_5 {c : Int → Int} {s p : Int} {T : Tx} (h : scan c s = (5, p)) : nxT c s T = tkP c s p T := by unfold nxT; rw [h]; exact if_pos rfl
def FrS (w u : mW) : Prop := (∀ a : Nat, a ≠ 31 → a ≠ 43 → a ≠ 44 → a ≠ 45 → u a = w a) ∧ ∀ b : Int, (b < 14 ∨ 24 < b) → u 31 b = w 31 b
theorem FrS.trans {w v u : mW} (h : FrS w v) (g : FrS v u) : FrS w u :=
  ⟨fun a h1 h2 h3 h4 => (g.1 a h1 h2 h3 h4).trans (h.1 a h1 h2 h3 h4), fun b hb => (g.2 b hb).trans (h.2 b hb)⟩
theorem FrS.c {w u : mW} (h : FrS w u) : cR u = cR w := cR_congr (h.2 4 (Or.inl (by decide))) (h.1 34 (by decide) (by decide) (by decide) (by decide))
theorem FrA.s {w u : mW} (h : FrA w u) : FrS w u := ⟨fun a h1 _ h3 h4 => h.1 a h1 h3 h4, fun b hb => h.2 b (by omega) (by omega) (by omega)⟩
/-- readState -/
def RdR (w w' : mW) (T : Tx) (s z : Int) : Prop := FrS w w' ∧ TI w' ∧ w' 31 15 = s ∧ z = (nxT (cR w) s T).2.2.2.1 ∧ (z = 0 ∨ z = 1 ∨ z = 2 ∨ z = 3) ∧ (¬ z = 0 → (nxT (cR w) s T).2.2.1 = s ∧ w' 31 18 = if (nxT (cR w) s T).2.2.2.2 = -1 then -1000004 else (nxT (cR w) s T).2.2.2.2) ∧ (z = 0 → (scan (cR w) s).1 = 5 ∧ RVd w' (nxT (cR w) s T) ∧ TFr (nxT (cR w) s T) ∧ w' 31 14 = (scan (cR w) s).2 + 1 ∧ (nxT (cR w) s T).1 < 256)
theorem rdR_6 {w u : mW} {T : Tx} {s p : Int} (hF : FrS w u) (hT : TI u) (h15 : u 31 15 = s) (hs : scan (cR w) s = (6, p)) (hp : u 31 14 = p) (h0 : s ≤ p) : RdR w (mup u 31 18 (u 31 14 - u 31 15)) T s 1 := by
  have e := nxT_6 (T := T) hs
  refine ⟨⟨fun a h1 h2 h3 h4 => by rw [mup_ne h1]; exact hF.1 a h1 h2 h3 h4, fun b hb => by rw [mup_get, if_neg (by omega)]; exact hF.2 b hb⟩, hT.congr (by rw [mup_get, if_neg (by omega)]) (mup_ne (by decide)) (by rw [mup_get, if_neg (by omega)]; exact hT.2.2), by rw [mup_get, if_neg (by omega)]; exact h15, by rw [e]; rfl, Or.inr (Or.inl rfl), fun _ => ?_, fun h => by omega⟩
  rw [e, mup_at, hp, h15]
  refine ⟨rfl, ?_⟩
  show p - s = if p - s = -1 then -1000004 else p - s
  rw [if_neg (by omega)]
theorem mpop_or {t j : Nat} (hj : j < 8) (h : t.testBit j = false) : mpop (t ||| 2 ^ j) = mpop t + 1 := by
  unfold mpop
  refine cnt_add (t := j) h (by rw [Nat.testBit_or, Nat.testBit_two_pow]; simp) hj (fun i _ hne => ?_)
  show t.testBit i = (t ||| 2 ^ j).testBit i
  rw [Nat.testBit_or, Nat.testBit_two_pow, decide_eq_false (fun q => hne q.symm), Bool.or_false]
