/-! states alike: the class's rounds come to the greatest relation -/
theorem ldsF_congr {w u : mW} {p : Nat} (h : u (p + 1) = w (p + 1)) : ldsF u p = ldsF w p := by funext s k; unfold ldsF kdF tgF; rw [h]
theorem ldM_congr {w u : mW} {p : Nat} (h : u (p + 1) = w (p + 1)) (S : Nat → Nat → Bool) (i j : Nat) : ldM u p S i j = ldM w p S i j := by
  have e : ldMk u p S i j = ldMk w p S i j := by funext k; simp only [ldMk, ldsF_congr h]
  simp only [ldM, e]
theorem isG_congr {w u : mW} {p : Nat} {R : Nat → Nat → Bool} (h : u (p + 1) = w (p + 1)) (g : IsG u p R) : IsG w p R := by
  have hc : ∀ S, Cons w p S → Cons u p S := fun S hS i j hi hj hs => by
    rw [lookF_congr h, ldM_congr h]; exact hS i j hi hj hs
  refine ⟨fun i j hi hj hs => ?_, fun S hS => g.2 S (hc S hS)⟩
  have := g.1 i j hi hj hs
  rw [lookF_congr h, ldM_congr h] at this; exact this
/-- equivalence on the eight states -/
def Eqv (E : Nat → Nat → Bool) : Prop := (∀ i, i < 8 → E i i = true) ∧ (∀ i j, i < 8 → j < 8 → E i j = true → E j i = true) ∧ ∀ i j m, i < 8 → j < 8 → m < 8 → E i j = true → E j m = true → E i m = true
theorem lookF_iff {U : mW} {p : Nat} {i j : Int} : lookF U p i j = true ↔ kdF U p i = kdF U p j ∧ (kdF U p i = 0 ∨ wmask (hasW U p i) 6 = wmask (hasW U p j) 6) := by
  have hl : lookF U p i j = (decide (kdF U p i = kdF U p j) && (decide (kdF U p i = 0) || decide (wmask (hasW U p i) 6 = wmask (hasW U p j) 6))) := rfl
  rw [hl, Bool.and_eq_true, Bool.or_eq_true, decide_eq_true_eq, decide_eq_true_eq, decide_eq_true_eq]
theorem look_refl {U : mW} {p : Nat} (i : Int) : lookF U p i i = true := lookF_iff.mpr ⟨rfl, Or.inr rfl⟩
theorem look_symm {U : mW} {p : Nat} {i j : Int} (h : lookF U p i j = true) : lookF U p j i = true := by
  have h := lookF_iff.mp h
  exact lookF_iff.mpr ⟨h.1.symm, h.2.elim (fun q => Or.inl (by rw [← h.1]; exact q)) (fun q => Or.inr q.symm)⟩
theorem look_trans {U : mW} {p : Nat} {i j m : Int} (h : lookF U p i j = true) (g : lookF U p j m = true) : lookF U p i m = true := by
  have h := lookF_iff.mp h
  have g := lookF_iff.mp g
  refine lookF_iff.mpr ⟨h.1.trans g.1, ?_⟩
  rcases h.2 with q | q
  · exact Or.inl q
  · rcases g.2 with r | r
    · exact Or.inl (h.1.trans r)
    · exact Or.inr (q.trans r)
theorem ldM_at {U : mW} {p : Nat} {S : Nat → Nat → Bool} {i j k : Nat} (h : ldM U p S i j = true) (hk : k < 6) : ldsF U p (i : Int) (k : Int) < 0 ∨ S (ldsF U p (i : Int) (k : Int)).toNat (ldsF U p (j : Int) (k : Int)).toNat = true := by
  have := (allb_all _ 6).mp h k hk
  rw [ldMk, Bool.or_eq_true] at this
  exact this.imp of_decide_eq_true id
theorem ldM_of {U : mW} {p : Nat} {S : Nat → Nat → Bool} {i j : Nat} (h : ∀ k : Nat, k < 6 → ldsF U p (i : Int) (k : Int) < 0 ∨ S (ldsF U p (i : Int) (k : Int)).toNat (ldsF U p (j : Int) (k : Int)).toNat = true) : ldM U p S i j = true := by
  refine (allb_all _ 6).mpr (fun k hk => ?_)
  rw [ldMk, Bool.or_eq_true]
  exact (h k hk).imp decide_eq_true id
def En (U : mW) (p : Nat) : Nat → Nat → Nat → Bool
  | 0 => fun i j => lookF U p (i : Int) (j : Int)
  | n + 1 => fun i j => En U p n i j && ldM U p (En U p n) i j
theorem En_s {U : mW} {p n i j : Nat} : En U p (n + 1) i j = true ↔ En U p n i j = true ∧ ldM U p (En U p n) i j = true := by
  show (En U p n i j && ldM U p (En U p n) i j) = true ↔ _
  rw [Bool.and_eq_true]
theorem En_look {U : mW} {p : Nat} : ∀ {n i j : Nat}, En U p n i j = true → lookF U p (i : Int) (j : Int) = true
  | 0, _, _, h => h
  | _ + 1, _, _, h => En_look (En_s.mp h).1
theorem En_eqv {U : mW} {p : Nat} (hk : PlanOK U p) : ∀ n, Eqv (En U p n)
  | 0 => ⟨fun i _ => look_refl _, fun i j _ _ h => look_symm h, fun i j m _ _ _ h g => look_trans h g⟩
  | n + 1 => by
    obtain ⟨e1, e2, e3⟩ := En_eqv hk n
    refine ⟨fun i hi => En_s.mpr ⟨e1 i hi, ldM_of (fun k hk6 => Or.inr (e1 _ (lds_lt hk hi hk6)))⟩, fun i j hi hj h => ?_, fun i j m hi hj hm h g => ?_⟩
    · obtain ⟨h1, h2⟩ := En_s.mp h
      refine En_s.mpr ⟨e2 i j hi hj h1, ldM_of (fun k hk6 => ?_)⟩
      by_cases q : ldsF U p (j : Int) (k : Int) < 0
      · exact Or.inl q
      · have q2 := look_lds (look_symm (En_look h1)) hk hi hk6 (by omega)
        rcases ldM_at h2 hk6 with r | r
        · omega
        · exact Or.inr (e2 _ _ (lds_lt hk hi hk6) (lds_lt hk hj hk6) r)
    · obtain ⟨h1, h2⟩ := En_s.mp h
      obtain ⟨g1, g2⟩ := En_s.mp g
      refine En_s.mpr ⟨e3 i j m hi hj hm h1 g1, ldM_of (fun k hk6 => ?_)⟩
      rcases ldM_at h2 hk6 with r | r
      · exact Or.inl r
      · by_cases q : ldsF U p (i : Int) (k : Int) < 0
        · exact Or.inl q
        · have q2 := look_lds (En_look h1) hk hj hk6 (by omega)
          rcases ldM_at g2 hk6 with r2 | r2
          · omega
          · exact Or.inr (e3 _ _ _ (lds_lt hk hi hk6) (lds_lt hk hj hk6) (lds_lt hk hm hk6) r r2)
/-- the lowest ones of their classes -/
def rep (E : Nat → Nat → Bool) (k : Nat) : Bool := allb (fun j => !E k j) k
theorem rep_iff {E : Nat → Nat → Bool} {k : Nat} : rep E k = true ↔ ∀ j, j < k → E k j = false := by
  rw [rep, allb_all]
  exact ⟨fun h j hj => by have := h j hj; simpa using this, fun h j hj => by simp [h j hj]⟩
theorem rep_below {E : Nat → Nat → Bool} (hE : Eqv E) : ∀ x, x < 8 → ∃ m, m ≤ x ∧ E x m = true ∧ rep E m = true := by
  intro x
  induction x using Nat.strongRecOn with
  | _ x ih =>
    intro hx
    by_cases h : rep E x = true
    · exact ⟨x, Nat.le_refl x, hE.1 x hx, h⟩
    · have : ∃ j, j < x ∧ E x j = true := Classical.byContradiction fun q => h (rep_iff.mpr fun j hj => by
        cases e : E x j with
        | false => rfl
        | true => exact absurd ⟨j, hj, e⟩ q)
      obtain ⟨j, hj, e⟩ := this
      obtain ⟨m, h1, h2, h3⟩ := ih j hj (by omega)
      exact ⟨m, by omega, hE.2.2 x j m hx (by omega) (by omega) e h2, h3⟩
theorem cnt_mono {f g : Nat → Bool} : ∀ n, (∀ k, k < n → f k = true → g k = true) → cnt f n ≤ cnt g n
  | 0, _ => Nat.le_refl 0
  | n + 1, h => by
    have h1 := cnt_mono n (fun k hk => h k (by omega))
    have h2 : (f n).toNat ≤ (g n).toNat := by
      cases e : f n with
      | false => exact Nat.zero_le _
      | true => rw [h n (by omega) e]; exact Nat.le_refl _
    show cnt f n + (f n).toNat ≤ cnt g n + (g n).toNat
    omega
theorem cnt_monoL {f g : Nat → Bool} : ∀ n m, (∀ k, k < n → f k = true → g k = true) → m < n → f m = false → g m = true → cnt f n < cnt g n
  | 0, m, _, hm, _, _ => absurd hm (by omega)
  | n + 1, m, h, hm, hf, hg => by
    show cnt f n + (f n).toNat < cnt g n + (g n).toNat
    by_cases e : m = n
    · subst e
      have h1 := cnt_mono m (fun k hk => h k (by omega))
      rw [hf, hg]; show cnt f m + 0 < cnt g m + 1; omega
    · have h1 := cnt_monoL n m (fun k hk => h k (by omega)) (by omega) hf hg
      have h2 : (f n).toNat ≤ (g n).toNat := by
        cases e2 : f n with
        | false => exact Nat.zero_le _
        | true => rw [h n (by omega) e2]; exact Nat.le_refl _
      omega
def cls (E : Nat → Nat → Bool) : Nat := cnt (rep E) 8
theorem cls_lt {E E' : Nat → Nat → Bool} (hE : Eqv E) (hE' : Eqv E') (hs : ∀ i j, i < 8 → j < 8 → E' i j = true → E i j = true) {i j : Nat} (hi : i < 8) (hj : j < 8) (h : E i j = true) (h' : ¬ E' i j = true) : cls E < cls E' := by
  obtain ⟨r, r1, r2, r3⟩ := rep_below hE i hi
  have hr8 : r < 8 := by omega
  have hx : ∃ x, x < 8 ∧ E x r = true ∧ ¬ E' x r = true := by
    by_cases q : E' i r = true
    · refine ⟨j, hj, hE.2.2 j i r hj hi hr8 (hE.2.1 i j hi hj h) r2, fun q2 => h' ?_⟩
      exact hE'.2.2 i r j hi hr8 hj q (hE'.2.1 j r hj hr8 q2)
    · exact ⟨i, hi, r2, q⟩
  obtain ⟨x, x8, x1, x2⟩ := hx
  obtain ⟨m, m1, m2, m3⟩ := rep_below hE' x x8
  have hm8 : m < 8 := by omega
  have hmr : E m r = true := hE.2.2 m x r hm8 x8 hr8 (hE.2.1 x m x8 hm8 (hs x m x8 hm8 m2)) x1
  have hne : ¬ m = r := fun e => x2 (e ▸ m2)
  refine cnt_monoL 8 m (fun k hk hrk => rep_iff.mpr fun y hy => ?_) hm8 ?_ m3
  · cases e : E' k y with
    | false => rfl
    | true => have := hs k y hk (by omega) e; rw [rep_iff.mp hrk y hy] at this; cases this
  · cases e : rep E m with
    | false => rfl
    | true =>
      have hrm : ¬ r < m := fun q => by rw [rep_iff.mp e r q] at hmr; cases hmr
      have : rep E r = true := r3
      have h2 := rep_iff.mp this m (by omega)
      rw [hE.2.1 m r hm8 hr8 hmr] at h2; cases h2
def Stb (U : mW) (p n : Nat) : Prop := ∀ i j : Nat, i < 8 → j < 8 → En U p n i j = true → En U p (n + 1) i j = true
theorem stb_s {U : mW} {p n : Nat} (hk : PlanOK U p) (h : Stb U p n) : Stb U p (n + 1) := fun i j hi hj hE =>
  En_s.mpr ⟨hE, ldM_mono hk (fun a b ha hb hab => h a b ha hb hab) hi hj (En_s.mp hE).2⟩
theorem stb_or {U : mW} {p : Nat} (hk : PlanOK U p) : ∀ n, Stb U p n ∨ n + 1 ≤ cls (En U p n)
  | 0 => Or.inr (by
    have h : 0 < cnt (rep (En U p 0)) 8 := by
      have hz : cnt (fun _ => false) 8 < cnt (rep (En U p 0)) 8 := cnt_monoL 8 0 (fun k _ h => by cases h) (by decide) rfl rfl
      omega
    exact h)
  | n + 1 => by
    rcases stb_or hk n with h | h
    · exact Or.inl (stb_s hk h)
    · by_cases q : Stb U p n
      · exact Or.inl (stb_s hk q)
      · right
        have : ∃ i j, i < 8 ∧ j < 8 ∧ En U p n i j = true ∧ ¬ En U p (n + 1) i j = true := Classical.byContradiction fun r => q (fun i j hi hj h1 => Classical.byContradiction fun h2 => r ⟨i, j, hi, hj, h1, h2⟩)
        obtain ⟨i, j, hi, hj, h1, h2⟩ := this
        have := cls_lt (En_eqv hk n) (En_eqv hk (n + 1)) (fun a b _ _ h => (En_s.mp h).1) hi hj h1 h2
        omega
theorem stb_7 {U : mW} {p : Nat} (hk : PlanOK U p) : Stb U p 7 := by
  rcases stb_or hk 7 with h | h
  · exact h
  · refine Classical.byContradiction fun q => ?_
    have : ∃ i j, i < 8 ∧ j < 8 ∧ En U p 7 i j = true ∧ ¬ En U p 8 i j = true := Classical.byContradiction fun r => q (fun i j hi hj h1 => Classical.byContradiction fun h2 => r ⟨i, j, hi, hj, h1, h2⟩)
    obtain ⟨i, j, hi, hj, h1, h2⟩ := this
    have h3 := cls_lt (En_eqv hk 7) (En_eqv hk 8) (fun a b _ _ h => (En_s.mp h).1) hi hj h1 h2
    have h4 : cls (En U p 8) ≤ 8 := cnt_le _ 8
    omega
theorem cons_En {U : mW} {p : Nat} (hk : PlanOK U p) {S : Nat → Nat → Bool} (hS : Cons U p S) : ∀ n (i j : Nat), i < 8 → j < 8 → S i j = true → En U p n i j = true
  | 0, i, j, hi, hj, h => (hS i j hi hj h).1
  | n + 1, i, j, hi, hj, h => En_s.mpr ⟨cons_En hk hS n i j hi hj h, ldM_mono hk (fun a b ha hb hab => cons_En hk hS n a b ha hb hab) hi hj (hS i j hi hj h).2⟩
theorem isG_En {U : mW} {p : Nat} (hk : PlanOK U p) : IsG U p (En U p 7) :=
  ⟨fun i j hi hj h => ⟨En_look h, (En_s.mp (stb_7 hk i j hi hj h)).2⟩, fun S hS i j hi hj h => cons_En hk hS 7 i j hi hj h⟩
theorem isG_uniq {U : mW} {p : Nat} {R R' : Nat → Nat → Bool} (h : IsG U p R) (h' : IsG U p R') {i j : Nat} (hi : i < 8) (hj : j < 8) : R i j = R' i j := by
  cases e : R i j with
  | true => exact (h'.2 R h.1 i j hi hj e).symm
  | false =>
    cases e' : R' i j with
    | false => rfl
    | true => have := h.2 R' h'.1 i j hi hj e'; rw [e] at this; cases this
/-! the class's rounds -/
theorem irow_get {v : mW} {p i : Nat} : ∀ (n : Nat) (x : Int), irow v p i n 14 x = if (i : Int) * 8 ≤ x ∧ x < (i : Int) * 8 + n then mb (lookF v p (i : Int) (x - (i : Int) * 8)) else v 14 x
  | 0, x => by rw [if_neg (by omega)]; rfl
  | n + 1, x => by
    unfold irow
    rw [mup_get, irow_get n x]
    by_cases e : x = (i : Int) * 8 + (n : Int)
    · rw [if_pos ⟨rfl, e⟩, if_pos (by omega), e, show (i : Int) * 8 + (n : Int) - (i : Int) * 8 = (n : Int) by omega]
    · rw [if_neg (fun q => e q.2)]
      by_cases q : (i : Int) * 8 ≤ x ∧ x < (i : Int) * 8 + n
      · rw [if_pos q, if_pos (by omega)]
      · rw [if_neg q, if_neg (by omega)]
theorem iall_get {w : mW} {p : Nat} (hp : p + 1 ≠ 14) : ∀ (n i j : Nat), i < n → j < 8 → iall w p n 14 ((i : Int) * 8 + (j : Int)) = mb (lookF w p (i : Int) (j : Int))
  | 0, i, j, hi, _ => absurd hi (by omega)
  | n + 1, i, j, hi, hj => by
    unfold iall
    rw [irow_get]
    by_cases e : i = n
    · rw [e, if_pos (by omega), show (n : Int) * 8 + (j : Int) - (n : Int) * 8 = (j : Int) by omega, lookF_congr (iall_ne hp n)]
    · rw [if_neg (by omega)]
      exact iall_get hp n i j (by omega) hj
theorem alk_mb {v : mW} {a b : Nat} {x : Bool} (h : v 14 ((a : Int) * 8 + (b : Int)) = mb x) : alk v (a : Int) (b : Int) = x := by
  unfold alk; rw [h]; cases x <;> rfl
abbrev alkR (v : mW) (a b : Nat) : Bool := alk v (a : Int) (b : Int)
/-- fewer pairs -/
def Sub (v u : mW) : Prop := ∀ x : Int, v 14 x = 1 → u 14 x = 1
theorem Sub.alk {v u : mW} (h : Sub v u) {a b : Nat} (q : alkR v a b = true) : alkR u a b = true := decide_eq_true (h _ (of_decide_eq_true q))
theorem sub_prow (v : mW) (p i : Nat) : ∀ n, Sub (prow v p i n) v
  | 0 => fun _ h => h
  | n + 1 => by
    have ih := sub_prow v p i n
    unfold prow
    split
    · exact ih
    · intro x h
      rw [mup_get] at h
      split at h
      · omega
      · exact ih x h
theorem sub_prow_s (v : mW) (p i n : Nat) : Sub (prow v p i (n + 1)) (prow v p i n) := by
  intro x h
  have e : prow v p i (n + 1) = if ldF (prow v p i n) p i n then prow v p i n else mup (prow v p i n) 14 ((i : Int) * 8 + (n : Int)) 0 := rfl
  rw [e] at h
  split at h
  · exact h
  · rw [mup_get] at h
    split at h
    · omega
    · exact h
theorem sub_pall (v : mW) (p : Nat) : ∀ n, Sub (pall v p n) v
  | 0 => fun _ h => h
  | n + 1 => fun x h => sub_pall v p n x (sub_prow _ p n 8 x h)
theorem ldF_ldM {v w : mW} {p : Nat} (hv : v (p + 1) = w (p + 1)) (hk : PlanOK w p) {i j : Nat} (hi : i < 8) (hj : j < 8) (hl : lookF w p (i : Int) (j : Int) = true) : ldF v p (i : Int) (j : Int) = true ↔ ldM w p (alkR v) i j = true := by
  have hlk := lookF_iff.mp hl
  have hF : ldF v p (i : Int) (j : Int) = (decide (kdF w p (i : Int) = 0) || allb (ldK v p (i : Int) (j : Int)) 6) := by
    unfold ldF kdF; rw [hv]
  rw [hF, Bool.or_eq_true, decide_eq_true_eq, allb_all]
  have hK : ∀ k : Nat, ldK v p (i : Int) (j : Int) k = true ↔ (tgF w p (i : Int) (k : Int) = -1 ∨ tgF w p (j : Int) (k : Int) = -1) ∨ alk v (tgF w p (i : Int) (k : Int)) (tgF w p (j : Int) (k : Int)) = true := by
    intro k
    unfold ldK tgF
    rw [hv, Bool.or_eq_true, Bool.or_eq_true, decide_eq_true_eq, decide_eq_true_eq]
  have hlds : ∀ a : Nat, ¬ kdF w p (a : Int) = 0 → ∀ k : Int, ldsF w p (a : Int) k = tgF w p (a : Int) k := fun a ha k => if_neg ha
  constructor
  · intro h
    refine ldM_of (fun k hk6 => ?_)
    by_cases q0 : kdF w p (i : Int) = 0
    · left; unfold ldsF; rw [if_pos q0]; omega
    · have h2 := (hK k).mp ((h.resolve_left q0) k hk6)
      have t1 := tg_rng hk (s := (i : Int)) (k := (k : Int)) (by omega) (by omega)
      have t2 := tg_rng hk (s := (j : Int)) (k := (k : Int)) (by omega) (by omega)
      by_cases q1 : ldsF w p (i : Int) (k : Int) < 0
      · exact Or.inl q1
      · have q2 := look_lds hl hk hj hk6 (by omega)
        rw [hlds i q0] at q1
        rw [hlds j (by omega)] at q2
        rw [hlds i q0, hlds j (by omega)]
        rcases h2 with h2 | h2
        · omega
        · right
          show alk v (((tgF w p (i : Int) (k : Int)).toNat : Nat) : Int) (((tgF w p (j : Int) (k : Int)).toNat : Nat) : Int) = true
          rw [Int.toNat_of_nonneg (by omega), Int.toNat_of_nonneg q2]; exact h2
  · intro h
    by_cases q0 : kdF w p (i : Int) = 0
    · exact Or.inl q0
    · right
      intro k hk6
      refine (hK k).mpr ?_
      have t1 := tg_rng hk (s := (i : Int)) (k := (k : Int)) (by omega) (by omega)
      by_cases q1 : tgF w p (i : Int) (k : Int) = -1
      · exact Or.inl (Or.inl q1)
      · have q2 := look_lds hl hk hj hk6 (by rw [hlds i q0]; omega)
        rcases ldM_at h hk6 with r | r
        · rw [hlds i q0] at r; omega
        · rw [hlds j (by omega)] at q2
          rw [hlds i q0, hlds j (by omega)] at r
          have r2 : alk v (((tgF w p (i : Int) (k : Int)).toNat : Nat) : Int) (((tgF w p (j : Int) (k : Int)).toNat : Nat) : Int) = true := r
          rw [Int.toNat_of_nonneg (by omega), Int.toNat_of_nonneg q2] at r2
          exact Or.inr r2
/-- what a round leaves is led on -/
theorem prow_led {v w : mW} {p i : Nat} {S : Nat → Nat → Bool} (hp : p + 1 ≠ 14) (hv : v (p + 1) = w (p + 1)) (hk : PlanOK w p) (hi : i < 8) (hS : ∀ a b : Nat, a < 8 → b < 8 → alkR v a b = true → S a b = true ∧ lookF w p (a : Int) (b : Int) = true) : ∀ n, n ≤ 8 → ∀ j, j < n → alkR (prow v p i n) i j = true → ldM w p S i j = true
  | 0, _, j, hj, _ => absurd hj (by omega)
  | n + 1, hn, j, hj, h => by
    have h1 := (sub_prow_s v p i n).alk h
    by_cases e : j = n
    · subst e
      have hl := (hS i j hi (by omega) ((sub_prow v p i j).alk h1)).2
      have ev : prow v p i j (p + 1) = w (p + 1) := (prow_ne hp j).trans hv
      by_cases q : ldF (prow v p i j) p i j = true
      · exact ldM_mono hk (fun a b ha hb hab => (hS a b ha hb ((sub_prow v p i j).alk hab)).1) hi (by omega) ((ldF_ldM ev hk hi (by omega) hl).mp q)
      · have ee : prow v p i (j + 1) = mup (prow v p i j) 14 ((i : Int) * 8 + (j : Int)) 0 := if_neg q
        have h2 := of_decide_eq_true h
        rw [ee, mup_at] at h2
        omega
    · exact prow_led hp hv hk hi hS n (by omega) j (by omega) h1
theorem pall_led {v w : mW} {p : Nat} {S : Nat → Nat → Bool} (hp : p + 1 ≠ 14) (hv : v (p + 1) = w (p + 1)) (hk : PlanOK w p) (hS : ∀ a b : Nat, a < 8 → b < 8 → alkR v a b = true → S a b = true ∧ lookF w p (a : Int) (b : Int) = true) : ∀ n, n ≤ 8 → ∀ i j, i < n → j < 8 → alkR (pall v p n) i j = true → ldM w p S i j = true
  | 0, _, i, j, hi, _, _ => absurd hi (by omega)
  | n + 1, hn, i, j, hi, hj, h => by
    have ev : pall v p n (p + 1) = w (p + 1) := (pall_ne hp n).trans hv
    by_cases e : i = n
    · subst e
      exact prow_led hp ev hk (by omega) (fun a b ha hb hab => hS a b ha hb ((sub_pall v p i).alk hab)) 8 (Nat.le_refl 8) j hj h
    · exact pall_led hp hv hk hS n (by omega) i j (by omega) hj ((sub_prow _ p n 8).alk h)
theorem cmpF_s (w : mW) (p n : Nat) : cmpF w p (n + 1) = pall (cmpF w p n) p 8 := rfl
theorem cmpF_z {w : mW} {p : Nat} (hp : p + 1 ≠ 14) {i j : Nat} (hi : i < 8) (hj : j < 8) : alkR (cmpF w p 0) i j = lookF w p (i : Int) (j : Int) := by
  have e : cmpF w p 0 = iall w p 8 := rfl
  have h := iall_get (w := w) hp 8 i j hi hj
  rw [e]
  exact alk_mb h
theorem En_z (w : mW) (p : Nat) (i j : Nat) : En w p 0 i j = lookF w p (i : Int) (j : Int) := rfl
theorem cmpF_En {w : mW} {p : Nat} (hp : p + 1 ≠ 14) (hk : PlanOK w p) (n : Nat) : ∀ (i j : Nat), i < 8 → j < 8 → alkR (cmpF w p n) i j = true → En w p n i j = true := by
  induction n with
  | zero =>
    intro i j hi hj h
    rw [En_z]
    exact (cmpF_z hp hi hj).symm.trans h
  | succ n ih =>
    intro i j hi hj h
    rw [cmpF_s] at h
    have h1 : alkR (cmpF w p n) i j = true := (sub_pall (cmpF w p n) p 8).alk h
    exact En_s.mpr ⟨ih i j hi hj h1, pall_led hp (cmpF_ne hp n) hk (fun a b ha hb hab => ⟨ih a b ha hb hab, En_look (ih a b ha hb hab)⟩) 8 (Nat.le_refl 8) i j hi hj h⟩
theorem prow_keep {v w : mW} {p i : Nat} {S : Nat → Nat → Bool} (hp : p + 1 ≠ 14) (hv : v (p + 1) = w (p + 1)) (hk : PlanOK w p) (hi : i < 8) (hC : Cons w p S) (hS : ∀ a b : Nat, a < 8 → b < 8 → S a b = true → alkR v a b = true) : ∀ n, n ≤ 8 → ∀ a b : Nat, a < 8 → b < 8 → S a b = true → alkR (prow v p i n) a b = true
  | 0, _, a, b, ha, hb, h => hS a b ha hb h
  | n + 1, hn, a, b, ha, hb, h => by
    have ih := prow_keep hp hv hk hi hC hS n (by omega)
    have ev : prow v p i n (p + 1) = w (p + 1) := (prow_ne hp n).trans hv
    have e : prow v p i (n + 1) = if ldF (prow v p i n) p i n then prow v p i n else mup (prow v p i n) 14 ((i : Int) * 8 + (n : Int)) 0 := rfl
    rw [e]
    split
    · exact ih a b ha hb h
    · next q =>
      have hne : ¬ (a = i ∧ b = n) := fun x => by
        obtain ⟨rfl, rfl⟩ := x
        have hc := hC a b ha hb h
        exact q ((ldF_ldM ev hk ha hb hc.1).mpr (ldM_mono hk ih ha hb hc.2))
      have := ih a b ha hb h
      unfold alkR alk at this ⊢
      rw [mup_get, if_neg (fun x => hne (by omega))]
      exact this
theorem pall_keep {v w : mW} {p : Nat} {S : Nat → Nat → Bool} (hp : p + 1 ≠ 14) (hv : v (p + 1) = w (p + 1)) (hk : PlanOK w p) (hC : Cons w p S) (hS : ∀ a b : Nat, a < 8 → b < 8 → S a b = true → alkR v a b = true) : ∀ n, n ≤ 8 → ∀ a b : Nat, a < 8 → b < 8 → S a b = true → alkR (pall v p n) a b = true
  | 0, _, a, b, ha, hb, h => hS a b ha hb h
  | n + 1, hn, a, b, ha, hb, h => prow_keep hp ((pall_ne hp n).trans hv) hk (by omega) hC (pall_keep hp hv hk hC hS n (by omega)) 8 (Nat.le_refl 8) a b ha hb h
theorem cmpF_keep {w : mW} {p : Nat} {S : Nat → Nat → Bool} (hp : p + 1 ≠ 14) (hk : PlanOK w p) (hC : Cons w p S) (n : Nat) : ∀ (a b : Nat), a < 8 → b < 8 → S a b = true → alkR (cmpF w p n) a b = true := by
  induction n with
  | zero =>
    intro a b ha hb h
    rw [cmpF_z hp ha hb]; exact (hC a b ha hb h).1
  | succ n ih =>
    intro a b ha hb h
    rw [cmpF_s]
    exact pall_keep hp (cmpF_ne hp n) hk hC ih 8 (Nat.le_refl 8) a b ha hb h
theorem cmpF_7 {w : mW} {p : Nat} (hp : p + 1 ≠ 14) (hk : PlanOK w p) {i j : Nat} (hi : i < 8) (hj : j < 8) : alkR (cmpF w p 7) i j = En w p 7 i j := by
  cases e : En w p 7 i j with
  | true => exact cmpF_keep hp hk (isG_En hk).1 7 i j hi hj e
  | false =>
    cases e' : alkR (cmpF w p 7) i j with
    | false => rfl
    | true => have := cmpF_En hp hk 7 i j hi hj e'; rw [e] at this; cases this
