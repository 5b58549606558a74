/-! TEXTS, purely: the machine that reads a state; what is told, the draft, the fault -/
def aftF (e ch : Int) : Int :=
  if e = 0 then (if 0 ≤ ch - 48 ∧ ch - 48 < 8 then 1 else 6)
  else if e = 1 then (if ch = 46 then 2 else if ch = 33 ∨ ch = 63 then 3 else 6)
  else if e = 2 then (if ch = 59 then 5 else 6)
  else if e = 3 then (if ch = 59 then 5 else if 0 ≤ ch - 97 ∧ ch - 97 < 6 then 4 else 6)
  else if e = 4 then (if 0 ≤ ch - 48 ∧ ch - 48 < 8 then 3 else 6) else 6
theorem aftF_rng (e ch : Int) : 1 ≤ aftF e ch ∧ aftF e ch ≤ 6 := by unfold aftF; (repeat' split) <;> omega
def dfa (c : Int → Int) : Nat → Int → Int → Int × Int
  | 0, e, p => (e, p)
  | f + 1, e, p => if e < 5 then dfa c f (aftF e (c (p + 1))) (p + 1) else (e, p)
def scan (c : Int → Int) (s : Int) : Int × Int := dfa c 80 (aftF 0 (c s)) s
theorem dfa_stop {c : Int → Int} {e p : Int} (h : ¬ e < 5) : ∀ f, dfa c f e p = (e, p)
  | 0 => rfl
  | f + 1 => by unfold dfa; rw [if_neg h]
/-- what is behind, as the reading has come to a place -/
def RdI (c : Int → Int) (s e p : Int) : Prop :=
  (0 ≤ c s - 48 ∧ c s - 48 < 8) ∧ ((e = 1 ∧ p = s) ∨ (e = 2 ∧ p = s + 1 ∧ c (s + 1) = 46) ∨
    ((e = 3 ∨ e = 4) ∧ (c (s + 1) = 33 ∨ c (s + 1) = 63) ∧ s + 1 ≤ p ∧ ((e = 3 ∧ (p - s - 1) % 2 = 0) ∨ (e = 4 ∧ (p - s - 1) % 2 = 1 ∧ 0 ≤ c p - 97 ∧ c p - 97 < 6)) ∧ ∀ a : Int, s + 2 ≤ a → (a - s) % 2 = 0 → a + 1 ≤ p → (0 ≤ c a - 97 ∧ c a - 97 < 6) ∧ (0 ≤ c (a + 1) - 48 ∧ c (a + 1) - 48 < 8)) ∨
    (e = 5 ∧ s + 2 ≤ p ∧ (p - s) % 2 = 0 ∧ c p = 59 ∧ ((c (s + 1) = 46 ∧ p = s + 2) ∨ c (s + 1) = 33 ∨ c (s + 1) = 63) ∧ ∀ a : Int, s + 2 ≤ a → (a - s) % 2 = 0 → a < p → (0 ≤ c a - 97 ∧ c a - 97 < 6) ∧ (0 ≤ c (a + 1) - 48 ∧ c (a + 1) - 48 < 8)))
theorem rdI_0 {c : Int → Int} {s : Int} : RdI c s (aftF 0 (c s)) s ∨ aftF 0 (c s) = 6 := by
  by_cases h : 0 ≤ c s - 48 ∧ c s - 48 < 8
  · have e1 : aftF 0 (c s) = 1 := by unfold aftF; rw [if_pos rfl, if_pos h]
    rw [e1]; exact Or.inl ⟨h, Or.inl ⟨rfl, rfl⟩⟩
  · exact Or.inr (by unfold aftF; rw [if_pos rfl, if_neg h])
theorem rdI_step {c : Int → Int} {s e p : Int} (h : RdI c s e p) (he : e < 5) : RdI c s (aftF e (c (p + 1))) (p + 1) ∨ aftF e (c (p + 1)) = 6 := by
  obtain ⟨h0, h⟩ := h
  rcases h with ⟨rfl, rfl⟩ | ⟨rfl, rfl, h1⟩ | ⟨he34, hk, hp, hpar, hall⟩ | ⟨rfl, _⟩
  · by_cases a1 : c (p + 1) = 46
    · have e1 : aftF 1 (c (p + 1)) = 2 := by simp [aftF, a1]
      rw [e1]; exact Or.inl ⟨h0, Or.inr (Or.inl ⟨rfl, rfl, a1⟩)⟩
    · by_cases a2 : c (p + 1) = 33 ∨ c (p + 1) = 63
      · have e1 : aftF 1 (c (p + 1)) = 3 := by simp [aftF, a1, a2]
        rw [e1]
        exact Or.inl ⟨h0, Or.inr (Or.inr (Or.inl ⟨Or.inl rfl, a2, by omega, Or.inl ⟨rfl, by omega⟩, fun a ha _ hb => by omega⟩))⟩
      · exact Or.inr (by simp [aftF, a1, a2])
  · by_cases a1 : c (s + 1 + 1) = 59
    · have e1 : aftF 2 (c (s + 1 + 1)) = 5 := by simp [aftF, a1]
      rw [e1]
      exact Or.inl ⟨h0, Or.inr (Or.inr (Or.inr ⟨rfl, by omega, by omega, a1, Or.inl ⟨h1, by omega⟩, fun a ha _ hb => by omega⟩))⟩
    · exact Or.inr (by simp [aftF, a1])
  · rcases hpar with ⟨rfl, hpar⟩ | ⟨rfl, hpar, hc1, hc2⟩
    · by_cases a1 : c (p + 1) = 59
      · have e1 : aftF 3 (c (p + 1)) = 5 := by simp [aftF, a1]
        rw [e1]
        exact Or.inl ⟨h0, Or.inr (Or.inr (Or.inr ⟨rfl, by omega, by omega, a1, Or.inr hk, fun a ha hb hc => hall a ha hb (by omega)⟩))⟩
      · by_cases a2 : 0 ≤ c (p + 1) - 97 ∧ c (p + 1) - 97 < 6
        · have e1 : aftF 3 (c (p + 1)) = 4 := by unfold aftF; rw [if_neg (by omega), if_neg (by omega), if_neg (by omega), if_pos rfl, if_neg a1, if_pos a2]
          rw [e1]
          exact Or.inl ⟨h0, Or.inr (Or.inr (Or.inl ⟨Or.inr rfl, hk, by omega, Or.inr ⟨rfl, by omega, a2.1, a2.2⟩, fun a ha hb hc => hall a ha hb (by omega)⟩))⟩
        · exact Or.inr (by unfold aftF; rw [if_neg (by omega), if_neg (by omega), if_neg (by omega), if_pos rfl, if_neg a1, if_neg a2])
    · by_cases a1 : 0 ≤ c (p + 1) - 48 ∧ c (p + 1) - 48 < 8
      · have e1 : aftF 4 (c (p + 1)) = 3 := by unfold aftF; rw [if_neg (by omega), if_neg (by omega), if_neg (by omega), if_neg (by omega), if_pos rfl, if_pos a1]
        rw [e1]
        refine Or.inl ⟨h0, Or.inr (Or.inr (Or.inl ⟨Or.inl rfl, hk, by omega, Or.inl ⟨rfl, by omega⟩, fun a ha hb hc => ?_⟩))⟩
        by_cases e2 : a = p
        · rw [e2]; exact ⟨⟨hc1, hc2⟩, a1⟩
        · exact hall a ha hb (by omega)
      · exact Or.inr (by unfold aftF; rw [if_neg (by omega), if_neg (by omega), if_neg (by omega), if_neg (by omega), if_pos rfl, if_neg a1])
  · omega
theorem dfa_RdI {c : Int → Int} {s : Int} : ∀ (f : Nat) (e p : Int), (RdI c s e p ∨ e = 6) → RdI c s (dfa c f e p).1 (dfa c f e p).2 ∨ (dfa c f e p).1 = 6
  | 0, e, p, h => h
  | f + 1, e, p, h => by
    unfold dfa
    split
    · next q =>
      rcases h with h | h
      · exact dfa_RdI f _ _ (rdI_step h q)
      · omega
    · exact h
/-- the text's characters: behind its end there is none -/
def TxC (c : Int → Int) (n : Int) : Prop := (0 ≤ n ∧ n ≤ 80) ∧ ∀ i : Int, 0 ≤ i → (i < n → 0 ≤ c i ∧ c i < 256) ∧ (n ≤ i → c i = -1)
theorem dfa_end {c : Int → Int} {n : Int} (hc : TxC c n) : ∀ (f : Nat) (e p : Int), 0 ≤ p → (1 ≤ e ∧ e ≤ 6) → (e ≠ 6 → p < n) → p ≤ n → n - p ≤ f → (dfa c f e p).1 = 5 ∨ (dfa c f e p).1 = 6
  | 0, e, p, h0, he, h1, h2, h3 => by
    have : e = 6 := Classical.byContradiction fun q => by have := h1 q; omega
    exact Or.inr this
  | f + 1, e, p, h0, he, h1, h2, h3 => by
    unfold dfa
    split
    · next q =>
      have hp := h1 (by omega)
      refine dfa_end hc f _ _ (by omega) (aftF_rng _ _) (fun hne => ?_) (by omega) (by omega)
      refine Classical.byContradiction fun hq => hne ?_
      have hm : c (p + 1) = -1 := (hc.2 (p + 1) (by omega)).2 (by omega)
      rw [hm]; unfold aftF; (repeat' split) <;> first | rfl | omega
    · omega
theorem dfa_pos {c : Int → Int} {n : Int} (hc : TxC c n) : ∀ (f : Nat) (e p : Int), 0 ≤ p → (e ≠ 6 → p < n) → p ≤ n → (p ≤ (dfa c f e p).2 ∧ (dfa c f e p).2 ≤ n) ∧ ((dfa c f e p).1 ≠ 6 → (dfa c f e p).2 < n)
  | 0, e, p, h0, h1, h2 => ⟨⟨Int.le_refl _, h2⟩, h1⟩
  | f + 1, e, p, h0, h1, h2 => by
    unfold dfa
    split
    · next q =>
      have hp := h1 (by omega)
      have h := dfa_pos hc f (aftF e (c (p + 1))) (p + 1) (by omega) (fun hne => Classical.byContradiction fun hq => hne (by
        have hm : c (p + 1) = -1 := (hc.2 (p + 1) (by omega)).2 (by omega)
        rw [hm]; unfold aftF; (repeat' split) <;> first | rfl | omega)) (by omega)
      exact ⟨⟨by omega, h.1.2⟩, h.2⟩
    · exact ⟨⟨Int.le_refl _, h2⟩, h1⟩
theorem scan_ok {c : Int → Int} {n s : Int} (hc : TxC c n) (hs : 0 ≤ s ∧ s < n) : ((scan c s).1 = 5 ∨ (scan c s).1 = 6) ∧ (s ≤ (scan c s).2 ∧ (scan c s).2 ≤ n) ∧ ((scan c s).1 = 5 → RdI c s 5 (scan c s).2 ∧ (scan c s).2 < n) := by
  have hr := aftF_rng 0 (c s)
  have h1 := dfa_end hc 80 (aftF 0 (c s)) s hs.1 hr (fun _ => hs.2) (by omega) (by have := hc.1; omega)
  have h2 := dfa_pos hc 80 (aftF 0 (c s)) s hs.1 (fun _ => hs.2) (by omega)
  refine ⟨h1, h2.1, fun h5 => ⟨?_, h2.2 (by show (scan c s).1 ≠ 6; omega)⟩⟩
  rcases dfa_RdI (s := s) 80 (aftF 0 (c s)) s rdI_0 with h | h
  · have h5' : (dfa c 80 (aftF 0 (c s)) s).1 = 5 := h5
    rw [h5'] at h; exact h
  · have h6 : (scan c s).1 = 6 := h
    omega
abbrev Tx : Type := Nat × (Int → Int) × Int × Int × Int
def tF (T : Tx) (a b c : Int) : Tx := (T.1, T.2.1, a, b, c)
def tkA (c : Int → Int) (st s : Int) : Nat → Int → Tx → Tx
  | 0, _, T => T
  | m + 1, a, T => if ¬ T.2.1 (st * 7 + 1 + (c a - 97)) = -1 then tF T s 3 (c a - 97) else tkA c st s m (a + 2) (T.1, iup T.2.1 (st * 7 + 1 + (c a - 97)) (c (a + 1) - 48), T.2.2)
def kdC (ch : Int) : Int := if ch = 46 then 0 else if ch = 33 then 1 else 2
def tkP (c : Int → Int) (s e : Int) (T : Tx) : Tx :=
  if T.1.testBit (c s - 48).toNat then tF T s 2 (-1) else tkA c (c s - 48) s ((e - s - 2) / 2).toNat (s + 2) (T.1 ||| 2 ^ (c s - 48).toNat, iup T.2.1 ((c s - 48) * 7) (kdC (c (s + 1))), T.2.2)
def prP (c : Int → Int) (n : Int) : Nat → Int → Tx → Tx
  | 0, _, T => T
  | f + 1, s, T => if s < n ∧ T.2.2.2.1 = 0 then prP c n f ((scan c s).2 + 1) (if (scan c s).1 = 5 then tkP c s (scan c s).2 T else tF T s 1 ((scan c s).2 - s)) else T
def T0 : Tx := (0, fun b => if b % 7 = 0 then 0 else -1, -1, 0, -1)
def parP (c : Int → Int) (n : Int) : Tx := prP c n 80 0 T0
def DOK (D : Int → Int) : Prop := ∀ s : Int, 0 ≤ s → s < 8 → (0 ≤ D (s * 7) ∧ D (s * 7) < 3) ∧ ∀ k : Int, 0 ≤ k → k < 6 → -1 ≤ D (s * 7 + 1 + k) ∧ D (s * 7 + 1 + k) < 8
def TOK (T : Tx) : Prop := T.1 < 256 ∧ DOK T.2.1 ∧ (-1 ≤ T.2.2.1 ∧ T.2.2.1 ≤ 80) ∧ (0 ≤ T.2.2.2.1 ∧ T.2.2.2.1 ≤ 3) ∧ (-1 ≤ T.2.2.2.2 ∧ T.2.2.2.2 ≤ 80)
theorem T0_ok : TOK T0 := by
  refine ⟨by decide, fun s h1 h2 => ⟨?_, fun k h3 h4 => ?_⟩, by decide, by decide, by decide⟩
  · show 0 ≤ (if (s * 7) % 7 = 0 then (0 : Int) else -1) ∧ (if (s * 7) % 7 = 0 then (0 : Int) else -1) < 3
    rw [if_pos (by omega)]; decide
  · show -1 ≤ (if (s * 7 + 1 + k) % 7 = 0 then (0 : Int) else -1) ∧ (if (s * 7 + 1 + k) % 7 = 0 then (0 : Int) else -1) < 8
    split <;> decide
theorem TOK.fault {T : Tx} (h : TOK T) {a b c : Int} (ha : -1 ≤ a ∧ a ≤ 80) (hb : 0 ≤ b ∧ b ≤ 3) (hc : -1 ≤ c ∧ c ≤ 80) : TOK (tF T a b c) := ⟨h.1, h.2.1, ha, hb, hc⟩
theorem DOK.target {D : Int → Int} (h : DOK D) {st k v : Int} (hs : 0 ≤ st ∧ st < 8) (hk : 0 ≤ k ∧ k < 6) (hv : -1 ≤ v ∧ v < 8) : DOK (iup D (st * 7 + 1 + k) v) := by
  intro s h1 h2
  have hh := h s h1 h2
  refine ⟨?_, fun k' h3 h4 => ?_⟩
  · rw [iup_ne _ _ (by omega)]; exact hh.1
  · unfold iup; split
    · exact hv
    · exact hh.2 k' h3 h4
theorem DOK.kind {D : Int → Int} (h : DOK D) {st v : Int} (hs : 0 ≤ st ∧ st < 8) (hv : 0 ≤ v ∧ v < 3) : DOK (iup D (st * 7) v) := by
  intro s h1 h2
  have hh := h s h1 h2
  refine ⟨?_, fun k' h3 h4 => ?_⟩
  · unfold iup; split
    · exact hv
    · exact hh.1
  · rw [iup_ne _ _ (by omega)]; exact hh.2 k' h3 h4
/-- the class's world over the pure one -/
def TV (w u : mW) (T : Tx) : Prop := (∀ a : Nat, a ≠ 9 → a ≠ 12 → u a = w a) ∧ u 9 1 = w 9 1 ∧ u 9 3 = (T.1 : Int) ∧ (∀ b : Int, 0 ≤ b → b < 56 → u 12 b = T.2.1 b) ∧ u 9 4 = T.2.2.1 ∧ u 9 5 = T.2.2.2.1 ∧ u 9 6 = T.2.2.2.2
def chF (w : mW) (i : Int) : Int := if i < w 9 1 then (if 0 ≤ i ∧ i < 80 then w 10 i else -1) else -1
theorem chF_ok {w : mW} (hI : CInv w) : TxC (chF w) (w 9 1) := by
  obtain ⟨-, -, h1, h2⟩ := hI
  refine ⟨h1, fun i hi => ⟨fun hn => ?_, fun hn => ?_⟩⟩
  · unfold chF; rw [if_pos hn, if_pos (by omega)]; exact h2 i hi hn
  · unfold chF; rw [if_neg (by omega)]
theorem chF_congr {w u : mW} (h9 : u 9 1 = w 9 1) (h10 : u 10 = w 10) : chF u = chF w := by funext i; unfold chF; rw [h9, h10]
theorem TV.plan {w u : mW} {T : Tx} (h : TV w u T) (hT : TOK T) : PlanOK u 11 := by
  intro s h1 h2
  have hh := hT.2.1 s h1 h2
  refine ⟨?_, fun k h3 h4 => ?_⟩
  · show 0 ≤ u 12 (s * 7) ∧ u 12 (s * 7) < 3
    rw [h.2.2.2.1 _ (by omega) (by omega)]; exact hh.1
  · show -1 ≤ u 12 (s * 7 + 1 + k) ∧ u 12 (s * 7 + 1 + k) < 8
    rw [h.2.2.2.1 _ (by omega) (by omega)]; exact hh.2 k h3 h4
def sfW (u : mW) (a b c : Int) : mW := mup (mup (mup u 9 4 a) 9 5 b) 9 6 c
theorem TV.fault {w u : mW} {T : Tx} (h : TV w u T) (a b c : Int) : TV w (sfW u a b c) (tF T a b c) := by
  obtain ⟨h1, h2, h3, h4, h5, h6, h7⟩ := h
  refine ⟨fun x hx hy => ?_, ?_, ?_, fun x hx hy => ?_, ?_, ?_, ?_⟩
  · unfold sfW; rw [mup_ne hx, mup_ne hx, mup_ne hx]; exact h1 x hx hy
  · simp [sfW, mup]; exact h2
  · simp [sfW, mup]; exact h3
  · unfold sfW; rw [mup_ne (by decide), mup_ne (by decide), mup_ne (by decide)]; exact h4 x hx hy
  · simp [sfW, mup, tF]
  · simp [sfW, mup, tF]
  · simp [sfW, mup, tF]
theorem TV.told {w u : mW} {T : Tx} (h : TV w u T) (t : Nat) : TV w (mup u 9 3 (t : Int)) (t, T.2) := by
  obtain ⟨h1, h2, h3, h4, h5, h6, h7⟩ := h
  refine ⟨fun x hx hy => by rw [mup_ne hx]; exact h1 x hx hy, by simp [mup]; exact h2, by simp [mup], fun x hx hy => by rw [mup_ne (by decide)]; exact h4 x hx hy, by simp [mup]; exact h5, by simp [mup]; exact h6, by simp [mup]; exact h7⟩
theorem TV.draft {w u : mW} {T : Tx} (h : TV w u T) (k v : Int) : TV w (mup u 12 k v) (T.1, iup T.2.1 k v, T.2.2) := by
  obtain ⟨h1, h2, h3, h4, h5, h6, h7⟩ := h
  refine ⟨fun x hx hy => by rw [mup_ne hy]; exact h1 x hx hy, by rw [mup_ne (by decide)]; exact h2, by rw [mup_ne (by decide)]; exact h3, fun x hx hy => ?_, by rw [mup_ne (by decide)]; exact h5, by rw [mup_ne (by decide)]; exact h6, by rw [mup_ne (by decide)]; exact h7⟩
  show mup u 12 k v 12 x = iup T.2.1 k v x
  unfold mup iup
  by_cases e : x = k
  · rw [if_pos ⟨rfl, e⟩, if_pos e]
  · rw [if_neg (fun q => e q.2), if_neg e]; exact h4 x hx hy
