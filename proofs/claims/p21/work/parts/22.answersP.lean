/-! ANSWERS, AS THE PLANS GIVE THEM -/
def wP (P : Pn) : mW := fun a => if a = 2 then P 0 else if a = 4 then P 1 else if a = 6 then P 2 else fun _ => 0
theorem wP_at (P : Pn) {p : Nat} (hp : p < 3) : wP P (2 * p + 2) = P p := by
  rcases (show p = 0 ∨ p = 1 ∨ p = 2 by omega) with rfl | rfl | rfl <;> rfl
theorem PW.eq {w : mW} {P : Pn} (h : PW w P) {p : Nat} (hp : p < 3) : w (2 * p + 1 + 1) = wP P (2 * p + 1 + 1) := (h p hp).trans (wP_at P hp).symm
theorem wP_ok {P : Pn} (h : POk P) {p : Nat} (hp : p < 3) : PlanOK (wP P) (2 * p + 1) := PW.ok (fun _ hq => wP_at P hq) h hp
/-! what is alike rests on the plan alone -/
def A14 (u v : mW) (m : Int) : Prop := ∀ t : Int, 0 ≤ t → t < m → u 14 t = v 14 t
theorem irow_ag {u v : mW} {p : Nat} (hp : u (p + 1) = v (p + 1)) {i : Nat} (h : A14 u v ((i : Int) * 8)) : ∀ n : Nat, A14 (irow u p i n) (irow v p i n) ((i : Int) * 8 + (n : Int))
  | 0 => fun t t0 t1 => h t t0 (by omega)
  | n + 1 => by
    intro t t0 t1
    unfold irow
    rw [mup_get, mup_get, lookF_congr hp]
    by_cases e : t = (i : Int) * 8 + (n : Int)
    · rw [if_pos ⟨rfl, e⟩, if_pos ⟨rfl, e⟩]
    · rw [if_neg (fun q => e q.2), if_neg (fun q => e q.2)]
      exact irow_ag hp h n t t0 (by omega)
theorem iall_ag {u v : mW} {p : Nat} (hpn : p + 1 ≠ 14) (hp : u (p + 1) = v (p + 1)) : ∀ n : Nat, A14 (iall u p n) (iall v p n) ((n : Int) * 8)
  | 0 => fun t t0 t1 => by omega
  | n + 1 => by
    intro t t0 t1
    unfold iall
    exact irow_ag (by rw [iall_ne hpn, iall_ne hpn]; exact hp) (iall_ag hpn hp n) 8 t t0 (by omega)
theorem alk_ag {u v : mW} (h : A14 u v 64) {a b : Int} (ha : 0 ≤ a ∧ a < 8) (hb : 0 ≤ b ∧ b < 8) : alk u a b = alk v a b := by
  unfold alk; rw [h (a * 8 + b) (by omega) (by omega)]
theorem allb_ag {f g : Nat → Bool} : ∀ n, (∀ k, k < n → f k = g k) → allb f n = allb g n
  | 0, _ => rfl
  | n + 1, h => by unfold allb; rw [allb_ag n (fun k hk => h k (by omega)), h n (by omega)]
theorem ldF_ag {u v : mW} {p : Nat} (hp : u (p + 1) = v (p + 1)) (hk : PlanOK v p) (h : A14 u v 64) {i j : Int} (hi : 0 ≤ i ∧ i < 8) (hj : 0 ≤ j ∧ j < 8) : ldF u p i j = ldF v p i j := by
  unfold ldF
  rw [hp]
  congr 1
  refine allb_ag 6 (fun k hk6 => ?_)
  unfold ldK
  rw [hp]
  have ri := (hk i hi.1 hi.2).2 (k : Int) (by omega) (by omega)
  have rj := (hk j hj.1 hj.2).2 (k : Int) (by omega) (by omega)
  by_cases e1 : v (p + 1) (i * 7 + 1 + (k : Int)) = -1
  · simp [e1]
  · by_cases e2 : v (p + 1) (j * 7 + 1 + (k : Int)) = -1
    · simp [e2]
    · rw [alk_ag h (by omega) (by omega)]
theorem prow_ag {u v : mW} {p i : Nat} (hpn : p + 1 ≠ 14) (hi : i < 8) (hp : u (p + 1) = v (p + 1)) (hk : PlanOK v p) (h : A14 u v 64) : ∀ n : Nat, n ≤ 8 → A14 (prow u p i n) (prow v p i n) 64
  | 0, _ => h
  | n + 1, hn => by
    have ih := prow_ag hpn hi hp hk h n (by omega)
    unfold prow
    rw [ldF_ag (u := prow u p i n) (v := prow v p i n) (by rw [prow_ne hpn, prow_ne hpn]; exact hp) (hk.congr (prow_ne hpn n)) ih (by omega) (by omega)]
    split
    · exact ih
    · intro t t0 t1
      rw [mup_get, mup_get]
      split
      · rfl
      · exact ih t t0 t1
theorem pall_ag {u v : mW} {p : Nat} (hpn : p + 1 ≠ 14) (hp : u (p + 1) = v (p + 1)) (hk : PlanOK v p) (h : A14 u v 64) : ∀ n : Nat, n ≤ 8 → A14 (pall u p n) (pall v p n) 64
  | 0, _ => h
  | n + 1, hn => prow_ag hpn (by omega) (by rw [pall_ne hpn, pall_ne hpn]; exact hp) (hk.congr (pall_ne hpn n)) (pall_ag hpn hp hk h n (by omega)) 8 (Nat.le_refl 8)
theorem cmpF_ag {u v : mW} {p : Nat} (hpn : p + 1 ≠ 14) (hp : u (p + 1) = v (p + 1)) (hk : PlanOK v p) : ∀ n : Nat, A14 (cmpF u p n) (cmpF v p n) 64
  | 0 => fun t t0 t1 => iall_ag hpn hp 8 t t0 (by omega)
  | n + 1 => pall_ag hpn (by rw [cmpF_ne hpn, cmpF_ne hpn]; exact hp) (hk.congr (cmpF_ne hpn n)) (cmpF_ag hpn hp hk n) 8 (Nat.le_refl 8)
theorem lowst_ag {f g : Nat → Bool} {d : Nat} : ∀ k j : Nat, j + k ≤ 8 → (∀ i, i < 8 → f i = g i) → lowst f d k j = lowst g d k j
  | 0, _, _, _ => rfl
  | k + 1, j, hjk, h => by unfold lowst; rw [h j (by omega), lowst_ag k (j + 1) (by omega) h]
theorem lowF_congr {u v : mW} {p : Nat} (hpn : p + 1 ≠ 14) (hp : u (p + 1) = v (p + 1)) (hk : PlanOK v p) {s : Nat} (hs : s < 8) : lowF u p s = lowF v p s := by
  unfold lowF
  exact lowst_ag 8 0 (by omega) (fun j hj => alk_ag (cmpF_ag hpn hp hk 7) (by omega) (by omega))
theorem comesF_congr {u v : mW} {p : Nat} (hp : u (p + 1) = v (p + 1)) (s : Nat) : comesF u p s = comesF v p s := by
  have e : sbF u p = sbF v p := by funext s k; unfold sbF; rw [hp]
  have e2 : sbOf u p = sbOf v p := by funext s; unfold sbOf; rw [e]
  unfold comesF; rw [e2]
theorem stF_congr {u v : mW} {p : Nat} (hpn : p + 1 ≠ 14) (hp : u (p + 1) = v (p + 1)) (hk : PlanOK v p) {s : Nat} (hs : s < 8) (c : Int) : stF u p s c = stF v p s c := by
  unfold stF
  rw [hp, hasW_congr hp, lowF_congr hpn hp hk hs, comesF_congr hp]
theorem unF_ag {r : Nat} {f g : Nat → Nat} : ∀ n, (∀ k, k < n → f k = g k) → unF r f n = unF r g n
  | 0, _ => rfl
  | n + 1, h => by unfold unF; rw [unF_ag n (fun k hk => h k (by omega)), h n (by omega)]
theorem bT_congr {w u : mW} {p q : Nat} (hp : w (p + 1) = u (p + 1)) (hq : w (q + 1) = u (q + 1)) : bT w p q = bT u p q := by
  show bfs (nxF togT w p q) = bfs (nxF togT u p q)
  rw [nxF_congr hp hq]
theorem bS_congr {w u : mW} {p q : Nat} (hp : w (p + 1) = u (p + 1)) (hq : w (q + 1) = u (q + 1)) : bSt w p q = bSt u p q := by
  show bfs (nxF togS w p q) = bfs (nxF togS u p q)
  rw [nxF_congr hp hq]
theorem pairB_congr {w u : mW} {p q : Nat} {B : Bf} (hp : u (p + 1) = w (p + 1)) (hq : u (q + 1) = w (q + 1)) (i c : Int) : pairB u p q B i c = pairB w p q B i c := by unfold pairB; rw [tellF_congr hp hq]
theorem againB_congr {w u : mW} {p q : Nat} {B : Bf} (hp : u (p + 1) = w (p + 1)) (hq : u (q + 1) = w (q + 1)) (i c : Int) : againB u p q B i c = againB w p q B i c := by unfold againB; rw [tellF_congr hp hq]
theorem standF_congr {w u : mW} {p q : Nat} (hp : w (p + 1) = u (p + 1)) (hq : w (q + 1) = u (q + 1)) : standF w p q = standF u p q := by
  unfold standF; rw [bS_congr hp hq, faultB_congr hp hq]
theorem krT_cg {w u v : mW} {p q : Nat} (hp : u (p + 1) = w (p + 1)) (hq : u (q + 1) = w (q + 1)) : krT u v p q = krT w v p q := by
  have h := krT_congr (v := v) hp hq
  rw [← h]; unfold krT; rw [bT_congr hp hq]
theorem talkF_congr {w u v : mW} {p q : Nat} (hp : u (p + 1) = w (p + 1)) (hq : u (q + 1) = w (q + 1)) (c : Int) : talkF u v p q c = talkF w v p q c := by
  unfold talkF
  rw [krT_cg hp hq, bT_congr hp hq, fewB_congr hp hq]
  simp only [rsnB_congr hp hq, endB_congr hp hq]
theorem lastC_congr {w u : mW} {p : Nat} (hp : u (p + 1) = w (p + 1)) : lastC u p = lastC w p := by unfold lastC; rw [hp]
theorem arrC_congr {w u : mW} {p : Nat} (hp : u (p + 1) = w (p + 1)) : arrC u p = arrC w p := by unfold arrC; rw [hasW_congr hp]
def stateA (P : Pn) (a b c : Int) : Int := stF (wP P) (2 * a.toNat + 1) b.toNat c
def unlikeA (P : Pn) (a : Int) : Int := ((mpop (unF (comesF (wP P) (2 * a.toNat + 1) 0) (lowF (wP P) (2 * a.toNat + 1)) 8) : Nat) : Int)
def pairA (P : Pn) (a b c e : Int) : Int := pairB (wP P) (2 * a.toNat + 1) (2 * b.toNat + 1) (bT (wP P) (2 * a.toNat + 1) (2 * b.toNat + 1)) (if c = -1 then faultB rsnT (wP P) (2 * a.toNat + 1) (2 * b.toNat + 1) (bT (wP P) (2 * a.toNat + 1) (2 * b.toNat + 1)) else c) e
def talkA (P : Pn) (u : mW) (a b c : Int) : Int := talkF (wP P) u (2 * a.toNat + 1) (2 * b.toNat + 1) c
def krA (P : Pn) (u : mW) (a b : Int) : Int := krT (wP P) u (2 * a.toNat + 1) (2 * b.toNat + 1)
def standA (P : Pn) (a b : Int) : Int := standF (wP P) (2 * a.toNat + 1) (2 * b.toNat + 1)
def againA (P : Pn) (a b c : Int) : Int := againB (wP P) (2 * a.toNat + 1) (2 * b.toNat + 1) (bSt (wP P) (2 * a.toNat + 1) (2 * b.toNat + 1)) (faultB rsnS (wP P) (2 * a.toNat + 1) (2 * b.toNat + 1) (bSt (wP P) (2 * a.toNat + 1) (2 * b.toNat + 1))) c
def countA (P : Pn) (h t c : Int) : Int :=
  if 10 ≤ c ∧ c < 19 then standF (wP P) (2 * ((c - 10) / 3).toNat + 1) (2 * ((c - 10) % 3).toNat + 1)
  else if c = 0 then ((lastC (wP P) 1 : Nat) : Int) + ((lastC (wP P) 3 : Nat) : Int) + ((lastC (wP P) 5 : Nat) : Int) else if c = 1 then ((arrC (wP P) 1 : Nat) : Int) + ((arrC (wP P) 3 : Nat) : Int) + ((arrC (wP P) 5 : Nat) : Int)
  else if c = 2 then h else if c = 3 then t else -1000001
def chL (tx : List Int) (i : Int) : Int := if i < (tx.length : Int) then (if 0 ≤ i ∧ i < 80 then tx.getD i.toNat 0 else -1) else -1
def parA (tx : List Int) : Tx := parP (chL tx) (tx.length : Int)
theorem TW.ch {w : mW} {tx : List Int} (h : TW w tx) : chF w = chL tx := by
  funext i
  unfold chF chL
  rw [h.1]
  split
  · split
    · next q1 q2 =>
      have hi : i.toNat < tx.length := by omega
      have e := h.2 i.toNat _ (List.getElem?_eq_getElem hi)
      rw [Int.toNat_of_nonneg q2.1] at e
      rw [e, List.getD_eq_getElem?_getD, List.getElem?_eq_getElem hi]; rfl
    · rfl
  · rfl
theorem TW.par {w : mW} {tx : List Int} (h : TW w tx) : parP (chF w) (w 9 1) = parA tx := by unfold parA; rw [h.ch, h.1]
