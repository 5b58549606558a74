/-! how many rows there are doesn't rest on what lay in the counting rows before -/
def KE (u v : mW) : Prop := u 21 3 = v 21 3 ∧ (∀ t : Int, 0 ≤ t → t < 64 → u 22 t = v 22 t ∧ u 23 t = v 23 t) ∧ ∀ i : Int, 0 ≤ i → i < u 21 3 → u 24 i = v 24 i ∧ 0 ≤ u 24 i ∧ u 24 i < 64
theorem KE.sr {u v : mW} (h : KE u v) {t : Int} (ht : 0 ≤ t ∧ t < 64) : KE (srW u t) (srW v t) := by
  have hh := h
  obtain ⟨h1, h2, h3⟩ := h
  unfold srW
  rw [h1]
  split
  · refine ⟨by rw [mup_at, mup_at], fun s s0 s1 => ?_, fun i i0 i1 => ?_⟩
    · have := h2 s s0 s1
      simpa [mup] using this
    · rw [mup_at] at i1
      have eu : ∀ x : mW, mup (mup x 24 (v 21 3) t) 21 3 (v 21 3 + 1) 24 i = if i = v 21 3 then t else x 24 i := fun x => by simp [mup]
      rw [eu, eu]
      by_cases e : i = v 21 3
      · rw [if_pos e, if_pos e]; exact ⟨rfl, ht⟩
      · rw [if_neg e, if_neg e]
        exact h3 i i0 (by omega)
  · exact hh
theorem KE.gv {u v : mW} (h : KE u v) {t : Int} (ht : 0 ≤ t ∧ t < 64) (more : Int) : KE (goV u t more) (goV v t more) := by
  obtain ⟨h1, h2, h3⟩ := h
  have ht2 := h2 t ht.1 ht.2
  unfold goV
  rw [ht2.1, ht2.2]
  have e2 : ∀ (x : mW) (s a b : Int), mup (mup x 23 t a) 22 t b 22 s = if s = t then b else x 22 s := fun x s a b => by simp [mup]
  have e3 : ∀ (x : mW) (s a b : Int), mup (mup x 23 t a) 22 t b 23 s = if s = t then a else x 23 s := fun x s a b => by simp [mup]
  have e4 : ∀ (x : mW) (s a b : Int), mup (mup x 23 t a) 22 t b 24 s = x 24 s := fun x s a b => by simp [mup]
  have e1 : ∀ (x : mW) (s a b : Int), mup (mup x 23 t a) 22 t b 21 s = x 21 s := fun x s a b => by simp [mup]
  refine ⟨by rw [e1, e1]; exact h1, fun s s0 s1 => ?_, fun i i0 i1 => ?_⟩
  · have hs := h2 s s0 s1
    rw [e2, e2, e3, e3]
    split
    · exact ⟨rfl, rfl⟩
    · exact hs
  · rw [e1] at i1
    rw [e4, e4]
    exact h3 i i0 i1
theorem KE.go {u v : mW} (h : KE u v) (t more : Int) : KE (goW u t more) (goW v t more) := by
  unfold goW
  by_cases ht : 0 ≤ t ∧ t < 64
  · rw [if_pos ht, if_pos ht]
    have hg := h.gv ht more
    rw [(hg.2.1 t ht.1 ht.2).1]
    split
    · exact hg.sr ht
    · exact hg
  · rw [if_neg ht, if_neg ht]; exact h
theorem KE.kin {u v : mW} {sx : Int → Int → Int} {i : Int} (h : KE u v) (hi : 0 ≤ i ∧ i < 64) : ∀ k : Nat, KE (kinW sx u i k) (kinW sx v i k)
  | 0 => h
  | k + 1 => by
    have ih := KE.kin (sx := sx) h hi k
    unfold kinW
    rw [(ih.2.1 i hi.1 hi.2).2]
    exact ih.go _ _
theorem KE.kout {u v : mW} {sx : Int → Int → Int} {en : Int → Bool} (h : KE u v) : ∀ n : Nat, KE (koutW sx en u n).1 (koutW sx en v n).1 ∧ (koutW sx en u n).2 = (koutW sx en v n).2
  | 0 => ⟨h, rfl⟩
  | n + 1 => by
    have ih := KE.kout (sx := sx) (en := en) h n
    unfold koutW
    rw [← ih.1.1]
    split
    · next q =>
      have e := ih.1.2.2 (n : Int) (by omega) q
      rw [← e.1]
      refine ⟨ih.1.kin ⟨e.2.1, e.2.2⟩ 6, ?_⟩
      dsimp only
      rw [ih.2, (ih.1.2.1 _ e.2.1 e.2.2).2]
    · exact ih
theorem KE.cin {u v : mW} {sx : Int → Int → Int} {i : Int} (h : KE u v) : ∀ k : Nat, KE (cinW sx u i k) (cinW sx v i k)
  | 0 => h
  | k + 1 => by
    have ih := KE.cin (sx := sx) (i := i) h k
    unfold cinW
    split
    · next q =>
      rw [(ih.2.1 _ q.1 q.2).1]
      have e2 : ∀ (x : mW) (s b : Int), mup x 22 (sx i k) b 22 s = if s = sx i k then b else x 22 s := fun x s b => by simp [mup]
      have eo : ∀ (x : mW) (a : Nat) (s b : Int), a ≠ 22 → mup x 22 (sx i k) b a s = x a s := fun x a s b ha => by rw [mup_ne ha]
      refine ⟨by rw [eo _ _ _ _ (by decide), eo _ _ _ _ (by decide)]; exact ih.1, fun s s0 s1 => ?_, fun j j0 j1 => ?_⟩
      · have hs := ih.2.1 s s0 s1
        rw [e2, e2, eo _ _ _ _ (by decide), eo _ _ _ _ (by decide)]
        split
        · exact ⟨rfl, hs.2⟩
        · exact hs
      · rw [eo _ _ _ _ (by decide)] at j1
        rw [eo _ _ _ _ (by decide), eo _ _ _ _ (by decide)]
        exact ih.2.2 j j0 j1
    · exact ih
theorem KE.cout {u v : mW} {sx : Int → Int → Int} (h : KE u v) : ∀ n : Nat, KE (coutW sx u n) (coutW sx v n)
  | 0 => h
  | n + 1 => by unfold coutW; exact (KE.cout h n).cin 6
theorem cst_ke (u v : mW) : KE (cst u) (cst v) := by
  unfold cst
  refine ⟨by rw [mup_at, mup_at], fun s s0 s1 => ?_, fun j j0 j1 => ?_⟩
  · have e2 : ∀ x : mW, mup (mfill (mfill x 22 64 0) 23 64 0) 21 3 0 22 s = 0 := fun x => by
      rw [mup_ne (by decide), mfill_ne (by decide)]; unfold mfill; rw [if_pos ⟨rfl, s0, s1⟩]
    have e3 : ∀ x : mW, mup (mfill (mfill x 22 64 0) 23 64 0) 21 3 0 23 s = 0 := fun x => by
      rw [mup_ne (by decide)]; unfold mfill; rw [if_pos ⟨rfl, s0, s1⟩]
    rw [e2, e2, e3, e3]; exact ⟨rfl, rfl⟩
  · rw [mup_at] at j1; omega
theorem kst_ke {sx : Int → Int → Int} (u v : mW) (n : Nat) : KE (kst sx u n) (kst sx v n) := by
  have h := (cst_ke u v).cout (sx := sx) n
  have h2 : KE (mup (coutW sx (cst u) n) 23 0 1) (mup (coutW sx (cst v) n) 23 0 1) := by
    have e3 : ∀ (x : mW) (s : Int), mup x 23 0 1 23 s = if s = 0 then 1 else x 23 s := fun x s => by simp [mup]
    have eo : ∀ (x : mW) (a : Nat) (s : Int), a ≠ 23 → mup x 23 0 1 a s = x a s := fun x a s ha => by rw [mup_ne ha]
    refine ⟨by rw [eo _ _ _ (by decide), eo _ _ _ (by decide)]; exact h.1, fun s s0 s1 => ?_, fun j j0 j1 => ?_⟩
    · have hs := h.2.1 s s0 s1
      rw [eo _ _ _ (by decide), eo _ _ _ (by decide), e3, e3]
      split
      · exact ⟨hs.1, rfl⟩
      · exact hs
    · rw [eo _ _ _ (by decide)] at j1
      rw [eo _ _ _ (by decide), eo _ _ _ (by decide)]
      exact h.2.2 j j0 j1
  unfold kst
  rw [(h2.2.1 0 (by decide) (by decide)).1]
  split
  · exact h2.sr (by decide)
  · exact h2
theorem krF_u {sx : Int → Int → Int} {en : Int → Bool} (u v : mW) (n : Nat) : krF sx en u n = krF sx en v n := by
  have h := (kst_ke (sx := sx) u v n).kout (sx := sx) (en := en) 64
  unfold krF
  rw [h.1.1, h.2]
theorem krA_u (P : Pn) (u : mW) (a b : Int) : krA P u a b = krA P (fun _ _ => 0) a b := by unfold krA krT; exact krF_u _ _ _
theorem talkA_u (P : Pn) (u : mW) (a b c : Int) : talkA P u a b c = talkA P (fun _ _ => 0) a b c := by
  unfold talkA talkF
  rw [show krT (wP P) u (2 * a.toNat + 1) (2 * b.toNat + 1) = krT (wP P) (fun _ _ => 0) (2 * a.toNat + 1) (2 * b.toNat + 1) from by unfold krT; exact krF_u _ _ _]
def tkA2 (P : Pn) (a b c : Int) : Int := talkA P (fun _ _ => 0) a b c
def tksA (P : Pn) (a b : Int) : Int := talksF (krA P (fun _ _ => 0) a b)
section CALLS2
variable {l : Launch} {G : mG} {w : mW} {P : Pn} {Hs : List Pn} {tx : List Int} {V : Int → Int}
theorem t_talkW (hO : Ob w P Hs tx V) {a b c : Int} (hv : 0 ≤ a ∧ a < 3 ∧ 0 ≤ b ∧ b < 3 ∧ 0 ≤ c ∧ c ≤ 6) : Mx l G 6 yX8_talk cX8_talk 4 (some .int) [mvR 0, mvI a, mvI b, mvI c] w (qI (fun z w' => z = tkA2 P a b c ∧ Ob w' P Hs tx V)) :=
  (t_talkV hO hv).weakI (fun z w' h => by obtain ⟨⟨u, e⟩, h⟩ := h; exact ⟨by rw [e]; exact talkA_u P u a b c, h⟩)
theorem t_talksW (hO : Ob w P Hs tx V) {a b : Int} (hv : 0 ≤ a ∧ a < 3 ∧ 0 ≤ b ∧ b < 3) : Mx l G 6 yX8_talks cX8_talks 5 (some .long) [mvR 0, mvI a, mvI b] w (qJ (fun z w' => z = tksA P a b ∧ Ob w' P Hs tx V)) :=
  (t_talksV hO hv).weakJ (fun z w' h => by obtain ⟨⟨u, e⟩, h⟩ := h; exact ⟨by rw [e, krA_u]; rfl, h⟩)
end CALLS2
