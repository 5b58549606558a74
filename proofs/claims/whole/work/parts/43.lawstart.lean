/-! THE LAW FROM ITS ENTRY -/
def mw0 : mW := fun a z => if a = 2 ∨ a = 4 ∨ a = 6 ∨ a = 12 then pclr (fun _ _ => 0) 0 56 1 z else if (a = 15 ∨ a = 25) ∧ (z = 5 ∨ z = 6) then 1 else 0
theorem mw0_z {a : Nat} (h : ¬ (a = 2 ∨ a = 4 ∨ a = 6 ∨ a = 12)) (h2 : ¬ (a = 15 ∨ a = 25)) (z : Int) : mw0 a z = 0 := by
  unfold mw0; rw [if_neg h, if_neg (fun q => h2 q.1)]
theorem mw0_p {a : Nat} (h : a = 2 ∨ a = 4 ∨ a = 6 ∨ a = 12) {z : Int} (h2 : 0 ≤ z ∧ z < 56) : mw0 a z = if z % 7 = 0 then 0 else -1 := by
  unfold mw0; rw [if_pos h]; unfold pclr; rw [if_pos ⟨rfl, h2⟩]
theorem mw0_rel : RelI mw0 := by
  have z32 := mw0_z (a := 32) (by decide) (by decide)
  have z31 := mw0_z (a := 31) (by decide) (by decide)
  refine ⟨⟨fun i _ _ => ?_, ?_, ?_, fun i i0 i1 => ?_⟩, fun p hp z z0 z1 => ?_, ?_, fun i i0 i1 => ?_, ?_, fun i i0 i1 => ?_⟩
  · rw [z32]; exact ⟨fun _ => by decide, fun _ => by decide⟩
  · rw [z31]; decide
  · rw [z31]; decide
  · rw [z31] at i1; omega
  · rw [mw0_p (by omega) ⟨z0, z1⟩]
    unfold sh
    rw [z32]
    by_cases h : z % 7 = 0
    · rw [if_pos h, if_pos (by omega)]
    · rw [if_neg h, if_neg (by omega)]; rfl
  · rw [z31, mw0_z (a := 7) (by decide) (by decide)]
  · rw [z31] at i1; omega
  · rw [z31, mw0_z (a := 9) (by decide) (by decide)]
  · rw [z31] at i1; omega
theorem mnest_on {q : Cond} (h1 : misN q = true) : q.onTables = true := by
  cases q <;> first | rfl | (exact absurd h1 (by decide)) | (simp [misN] at h1)
theorem getD_at {l : List Nat} {i : Nat} (h : i < l.length) : l[i]? = some (l.getD i 0) := by
  have e := List.getElem?_eq_getElem h
  rw [List.getD_eq_getElem?_getD, e]; rfl
theorem wi_68 : Cond.instantiable RX8 9 ∈ mgood := mgood_in (w := Cond.instantiable RX8 9) (List.mem_of_getElem? (i := 68) (by decide +kernel)) rfl
theorem wi_768 : Cond.instantiable RX9 25 ∈ mgood := mgood_in (w := Cond.instantiable RX9 25) (List.mem_of_getElem? (i := 768) (by decide +kernel)) rfl
theorem wi_67 : Cond.classLink RL 7 RX8 ∈ mgood := mgood_in (w := Cond.classLink RL 7 RX8) (List.mem_of_getElem? (i := 67) (by decide +kernel)) rfl
theorem wi_53 : Cond.initialized RX8 ∈ mgood := mgood_in (w := Cond.initialized RX8) (List.mem_of_getElem? (i := 53) (by decide +kernel)) rfl
theorem wi_69 : Cond.methodLink RL 9 yX8_init ∈ mgood := mgood_in (w := Cond.methodLink RL 9 yX8_init) (List.mem_of_getElem? (i := 69) (by decide +kernel)) rfl
theorem wi_70 : Cond.instanceMethod yX8_init ∈ mgood := mgood_in (w := Cond.instanceMethod yX8_init) (List.mem_of_getElem? (i := 70) (by decide +kernel)) rfl
theorem wi_767 : Cond.classLink RL 10 RX9 ∈ mgood := mgood_in (w := Cond.classLink RL 10 RX9) (List.mem_of_getElem? (i := 767) (by decide +kernel)) rfl
theorem wi_62 : Cond.initialized RX9 ∈ mgood := mgood_in (w := Cond.initialized RX9) (List.mem_of_getElem? (i := 62) (by decide +kernel)) rfl
theorem wi_769 : Cond.methodLink RL 12 yX9_init ∈ mgood := mgood_in (w := Cond.methodLink RL 12 yX9_init) (List.mem_of_getElem? (i := 769) (by decide +kernel)) rfl
theorem wi_770 : Cond.instanceMethod yX9_init ∈ mgood := mgood_in (w := Cond.instanceMethod yX9_init) (List.mem_of_getElem? (i := 770) (by decide +kernel)) rfl
def flds (G : mG) (w : mW) (i : Nat) : Nat → List (Option (Option Nat)) → List Value
  | _, [] => []
  | k, f :: r => mtr G (mfv w i k f) :: flds G w i (k + 1) r
theorem flds_idx (G : mG) (w : mW) (i : Nat) : ∀ (l : List (Option (Option Nat))) (k : Nat), l.mapIdx (fun j f => mtr G (mfv w i (j + k) f)) = flds G w i k l
  | [], k => by simp [flds]
  | f :: r, k => by
    rw [List.mapIdx_cons, flds, Nat.zero_add]
    congr 1
    rw [← flds_idx G w i r (k + 1)]
    congr 1
    funext j f
    rw [show j + 1 + k = j + (k + 1) by omega]
theorem at_ob {G : mG} {w : mW} {H : Heap} {i a ci : Nat} {lay : List (Option (Option Nat))} {fl : List Value} (ha : G.2.1 i = a) (h : va_at G.1 vwCl (a, .inr (ci, fl)) H) (hf : flds G w i 0 lay = fl) : va_at G.1 vwCl (G.2.1 i, ment G w i (.inl (ci, lay))) H := by
  have e : ment G w i (.inl (ci, lay)) = .inr (ci, fl) := by
    rw [← hf, ← flds_idx G w i lay 0]; rfl
  rw [e, ha]; exact h
theorem at_zI {G : mG} {w : mW} {H : Heap} {i a t n : Nat} (ha : G.2.1 i = a) (ht : t < 3) (hz : ∀ z : Int, w i z = 0) (h : va_at G.1 vwCl (zI G t n a) H) : va_at G.1 vwCl (G.2.1 i, ment G w i (.inr (t, n))) H := by
  have e : (fun k : Nat => mI (w i (k : Int))) = fun _ : Nat => mI 0 := by funext k; rw [hz]
  have e2 : ment G w i (.inr (t, n)) = .inl (mCid G t, n, .inl fun _ : Nat => mI 0) := by
    rw [← e]
    rcases (show t = 0 ∨ t = 1 ∨ t = 2 by omega) with rfl | rfl | rfl <;> rfl
  rw [e2, ha]; exact h
theorem at_zJ {G : mG} {w : mW} {H : Heap} {i a n : Nat} (ha : G.2.1 i = a) (hz : ∀ z : Int, w i z = 0) (h : va_at G.1 vwCl (zJ G n a) H) : va_at G.1 vwCl (G.2.1 i, ment G w i (.inr (3, n))) H := by
  have e : (fun k : Nat => mJ (w i (k : Int))) = fun _ : Nat => mJ 0 := by funext k; rw [hz]
  have e2 : ment G w i (.inr (3, n)) = .inl (mCid G 3, n, .inr (.inl fun _ : Nat => mJ 0)) := by
    rw [← e]; rfl
  rw [e2, ha]; exact h
theorem at_zP {G : mG} {H : Heap} {i a : Nat} (ha : G.2.1 i = a) (hi : i = 2 ∨ i = 4 ∨ i = 6 ∨ i = 12) (h : va_at G.1 vwCl (zP G a) H) : va_at G.1 vwCl (G.2.1 i, ment G mw0 i (.inr (0, 56))) H := by
  have e : (fun k : Nat => mI (mw0 i (k : Int))) = fun k : Nat => mI (pclr (fun _ _ => 0) 0 56 1 (k : Int)) := by funext k; unfold mw0; rw [if_pos hi]
  have e2 : ment G mw0 i (.inr (0, 56)) = .inl (mCid G 0, 56, .inl fun k : Nat => mI (pclr (fun _ _ => 0) 0 56 1 (k : Int))) := by
    rw [← e]; rfl
  rw [e2, ha]; exact h
theorem mw0_5 {a : Nat} (h : a = 15 ∨ a = 25) {k : Nat} (hk : k = 5 ∨ k = 6) : mw0 a (k : Int) = 1 := by
  unfold mw0; rw [if_neg (by omega), if_pos ⟨h, by omega⟩]
theorem mw0_7 {a : Nat} (h : a = 15 ∨ a = 25) : mw0 a ((7 : Nat) : Int) = 0 := by
  unfold mw0; rw [if_neg (by omega), if_neg (fun q => by have := q.2; omega)]
set_option maxHeartbeats 4000000 in
set_option maxRecDepth 100000 in
theorem ws_world {G : mG} {H : Heap} {x0 x1 x2 x3 x4 x5 x6 x7 x8 x9 x10 x11 x12 x13 x14 x15 x16 x17 x18 x19 x20 x21 x22 x23 x24 x25 x26 x27 x28 x29 x30 y0 y1 y2 y3 y4 y5 y6 y7 y8 y9 y10 y11 y12 y13 y14 : Nat} (g0 : G.2.1 0 = x0) (g1 : G.2.1 1 = x1) (g2 : G.2.1 2 = x2) (g3 : G.2.1 3 = x3) (g4 : G.2.1 4 = x4) (g5 : G.2.1 5 = x5) (g6 : G.2.1 6 = x6) (g7 : G.2.1 7 = x7) (g8 : G.2.1 8 = x8) (g9 : G.2.1 9 = x9) (g10 : G.2.1 10 = x10) (g11 : G.2.1 11 = x11) (g12 : G.2.1 12 = x12) (g13 : G.2.1 13 = x13) (g14 : G.2.1 14 = x14) (g15 : G.2.1 15 = x15) (g16 : G.2.1 16 = x16) (g17 : G.2.1 17 = x17) (g18 : G.2.1 18 = x18) (g19 : G.2.1 19 = x19) (g20 : G.2.1 20 = x20) (g21 : G.2.1 21 = x21) (g22 : G.2.1 22 = x22) (g23 : G.2.1 23 = x23) (g24 : G.2.1 24 = x24) (g25 : G.2.1 25 = x25) (g26 : G.2.1 26 = x26) (g27 : G.2.1 27 = x27) (g28 : G.2.1 28 = x28) (g29 : G.2.1 29 = x29) (g30 : G.2.1 30 = x30) (g31 : G.2.1 31 = y0) (g32 : G.2.1 32 = y1) (g33 : G.2.1 33 = y2) (g34 : G.2.1 34 = y3) (g35 : G.2.1 35 = y4) (g36 : G.2.1 36 = y5) (g37 : G.2.1 37 = y6) (g38 : G.2.1 38 = y7) (g39 : G.2.1 39 = y8) (g40 : G.2.1 40 = y9) (g41 : G.2.1 41 = y10) (g42 : G.2.1 42 = y11) (g43 : G.2.1 43 = y12) (g44 : G.2.1 44 = y13) (g45 : G.2.1 45 = y14) (hP : va_P G.1 vwCl [(x0, .inr (7, [.ref x1, .ref x3, .ref x5, .ref x7, .ref x9, .ref x13, .ref x15, .ref x21, .ref x25])), (x1, .inr (2, [.ref x2])), zP G x2, (x3, .inr (2, [.ref x4])), zP G x4, (x5, .inr (2, [.ref x6])), zP G x6, (x7, .inr (0, [.ref x8, .int 0])), zI G 0 672 x8, (x9, .inr (3, [.ref x10, .int 0, .ref x11, .int 0, .int 0, .int 0, .int 0])), zI G 0 80 x10, (x11, .inr (2, [.ref x12])), zP G x12, (x13, .inr (1, [.ref x14])), zI G 1 64 x14, (x15, .inr (6, [.ref x16, .ref x17, .ref x18, .ref x19, .ref x20, .ref x1, .ref x1, .int 0])), zI G 0 64 x16, zI G 0 64 x17, zI G 0 64 x18, zI G 0 64 x19, zI G 0 64 x20, (x21, .inr (4, [.ref x22, .ref x23, .ref x24, .int 0])), zI G 0 64 x22, zJ G 64 x23, zI G 0 64 x24, (x25, .inr (5, [.ref x26, .ref x27, .ref x28, .ref x29, .ref x30, .ref x1, .ref x1, .int 0])), zI G 0 64 x26, zI G 0 64 x27, zI G 0 64 x28, zI G 0 64 x29, zI G 0 64 x30, (y0, .inr (8, [.ref y1, .ref y2, .int 0, .ref y3, .int 0, .ref y4, .ref y5, .ref y6, .ref y7, .ref y8, .ref y9, .int 0, .ref y10, .ref y11, .int 0, .int 0, .int 0, .int 0, .int 0, .int 0, .int 0, .ref y12, .ref y13, .ref y14, .int 0])), zI G 0 168 y1, zI G 0 672 y2, zI G 2 80 y3, zI G 0 8 y4, zI G 0 64 y5, zI G 0 64 y6, zI G 0 64 y7, zI G 0 64 y8, zI G 0 64 y9, zJ G 64 y10, zI G 1 64 y11, zI G 0 56 y12, zI G 0 40 y13, zI G 0 40 y14] H) : va_P G.1 vwCl (mws G mw0) H := by
  intro k q hk
  obtain ⟨lay, h1, rfl⟩ := mws_of hk
  have h46 : k < 46 := (List.getElem?_eq_some_iff.mp h1).1
  rcases (show k = 0 ∨ k = 1 ∨ k = 2 ∨ k = 3 ∨ k = 4 ∨ k = 5 ∨ k = 6 ∨ k = 7 ∨ k = 8 ∨ k = 9 ∨ k = 10 ∨ k = 11 ∨ k = 12 ∨ k = 13 ∨ k = 14 ∨ k = 15 ∨ k = 16 ∨ k = 17 ∨ k = 18 ∨ k = 19 ∨ k = 20 ∨ k = 21 ∨ k = 22 ∨ k = 23 ∨ k = 24 ∨ k = 25 ∨ k = 26 ∨ k = 27 ∨ k = 28 ∨ k = 29 ∨ k = 30 ∨ k = 31 ∨ k = 32 ∨ k = 33 ∨ k = 34 ∨ k = 35 ∨ k = 36 ∨ k = 37 ∨ k = 38 ∨ k = 39 ∨ k = 40 ∨ k = 41 ∨ k = 42 ∨ k = 43 ∨ k = 44 ∨ k = 45 by omega) with rfl | rfl | rfl | rfl | rfl | rfl | rfl | rfl | rfl | rfl | rfl | rfl | rfl | rfl | rfl | rfl | rfl | rfl | rfl | rfl | rfl | rfl | rfl | rfl | rfl | rfl | rfl | rfl | rfl | rfl | rfl | rfl | rfl | rfl | rfl | rfl | rfl | rfl | rfl | rfl | rfl | rfl | rfl | rfl | rfl | rfl
  · obtain rfl : lay = .inl (7, [sS 1, sS 3, sS 5, sS 7, sS 9, sS 13, sS 15, sS 21, sS 25]) := (Option.some.inj h1).symm
    refine at_ob g0 (hP 0 _ rfl) ?_
    simp only [flds, mfv, mtr, sS, Nat.zero_add, Nat.reduceAdd, g1, g3, g5, g7, g9, g13, g15, g21, g25]
  · obtain rfl : lay = .inl (2, [sS 2]) := (Option.some.inj h1).symm
    refine at_ob g1 (hP 1 _ rfl) ?_
    simp only [flds, mfv, mtr, sS, Nat.zero_add, Nat.reduceAdd, g2]
  · obtain rfl : lay = .inr (0, 56) := (Option.some.inj h1).symm
    exact at_zP g2 (by decide) (hP 2 _ rfl)
  · obtain rfl : lay = .inl (2, [sS 4]) := (Option.some.inj h1).symm
    refine at_ob g3 (hP 3 _ rfl) ?_
    simp only [flds, mfv, mtr, sS, Nat.zero_add, Nat.reduceAdd, g4]
  · obtain rfl : lay = .inr (0, 56) := (Option.some.inj h1).symm
    exact at_zP g4 (by decide) (hP 4 _ rfl)
  · obtain rfl : lay = .inl (2, [sS 6]) := (Option.some.inj h1).symm
    refine at_ob g5 (hP 5 _ rfl) ?_
    simp only [flds, mfv, mtr, sS, Nat.zero_add, Nat.reduceAdd, g6]
  · obtain rfl : lay = .inr (0, 56) := (Option.some.inj h1).symm
    exact at_zP g6 (by decide) (hP 6 _ rfl)
  · obtain rfl : lay = .inl (0, [sS 8, none]) := (Option.some.inj h1).symm
    refine at_ob g7 (hP 7 _ rfl) ?_
    simp only [flds, mfv, mtr, sS, Nat.zero_add, Nat.reduceAdd, g8, mw0_z (a := 7) (by decide) (by decide)]
    rfl
  · obtain rfl : lay = .inr (0, 672) := (Option.some.inj h1).symm
    exact at_zI g8 (by decide) (mw0_z (by decide) (by decide)) (hP 8 _ rfl)
  · obtain rfl : lay = .inl (3, [sS 10, none, sS 11, none, none, none, none]) := (Option.some.inj h1).symm
    refine at_ob g9 (hP 9 _ rfl) ?_
    simp only [flds, mfv, mtr, sS, Nat.zero_add, Nat.reduceAdd, g10, mw0_z (a := 9) (by decide) (by decide), g11]
    rfl
  · obtain rfl : lay = .inr (0, 80) := (Option.some.inj h1).symm
    exact at_zI g10 (by decide) (mw0_z (by decide) (by decide)) (hP 10 _ rfl)
  · obtain rfl : lay = .inl (2, [sS 12]) := (Option.some.inj h1).symm
    refine at_ob g11 (hP 11 _ rfl) ?_
    simp only [flds, mfv, mtr, sS, Nat.zero_add, Nat.reduceAdd, g12]
  · obtain rfl : lay = .inr (0, 56) := (Option.some.inj h1).symm
    exact at_zP g12 (by decide) (hP 12 _ rfl)
  · obtain rfl : lay = .inl (1, [sS 14]) := (Option.some.inj h1).symm
    refine at_ob g13 (hP 13 _ rfl) ?_
    simp only [flds, mfv, mtr, sS, Nat.zero_add, Nat.reduceAdd, g14]
  · obtain rfl : lay = .inr (1, 64) := (Option.some.inj h1).symm
    exact at_zI g14 (by decide) (mw0_z (by decide) (by decide)) (hP 14 _ rfl)
  · obtain rfl : lay = .inl (6, [sS 16, sS 17, sS 18, sS 19, sS 20, some none, some none, none]) := (Option.some.inj h1).symm
    refine at_ob g15 (hP 15 _ rfl) ?_
    simp only [flds, mfv, mtr, sS, Nat.zero_add, Nat.reduceAdd, g16, g17, g18, g19, g20, mw0_5 (a := 15) (by decide) (k := 5) (by decide), mw0_5 (a := 15) (by decide) (k := 6) (by decide), mw0_7 (a := 15) (by decide), show (1 : Int).toNat = 1 from rfl, g1]
    rfl
  · obtain rfl : lay = .inr (0, 64) := (Option.some.inj h1).symm
    exact at_zI g16 (by decide) (mw0_z (by decide) (by decide)) (hP 16 _ rfl)
  · obtain rfl : lay = .inr (0, 64) := (Option.some.inj h1).symm
    exact at_zI g17 (by decide) (mw0_z (by decide) (by decide)) (hP 17 _ rfl)
  · obtain rfl : lay = .inr (0, 64) := (Option.some.inj h1).symm
    exact at_zI g18 (by decide) (mw0_z (by decide) (by decide)) (hP 18 _ rfl)
  · obtain rfl : lay = .inr (0, 64) := (Option.some.inj h1).symm
    exact at_zI g19 (by decide) (mw0_z (by decide) (by decide)) (hP 19 _ rfl)
  · obtain rfl : lay = .inr (0, 64) := (Option.some.inj h1).symm
    exact at_zI g20 (by decide) (mw0_z (by decide) (by decide)) (hP 20 _ rfl)
  · obtain rfl : lay = .inl (4, [sS 22, sS 23, sS 24, none]) := (Option.some.inj h1).symm
    refine at_ob g21 (hP 21 _ rfl) ?_
    simp only [flds, mfv, mtr, sS, Nat.zero_add, Nat.reduceAdd, g22, g23, g24, mw0_z (a := 21) (by decide) (by decide)]
    rfl
  · obtain rfl : lay = .inr (0, 64) := (Option.some.inj h1).symm
    exact at_zI g22 (by decide) (mw0_z (by decide) (by decide)) (hP 22 _ rfl)
  · obtain rfl : lay = .inr (3, 64) := (Option.some.inj h1).symm
    exact at_zJ g23 (mw0_z (by decide) (by decide)) (hP 23 _ rfl)
  · obtain rfl : lay = .inr (0, 64) := (Option.some.inj h1).symm
    exact at_zI g24 (by decide) (mw0_z (by decide) (by decide)) (hP 24 _ rfl)
  · obtain rfl : lay = .inl (5, [sS 26, sS 27, sS 28, sS 29, sS 30, some none, some none, none]) := (Option.some.inj h1).symm
    refine at_ob g25 (hP 25 _ rfl) ?_
    simp only [flds, mfv, mtr, sS, Nat.zero_add, Nat.reduceAdd, g26, g27, g28, g29, g30, mw0_5 (a := 25) (by decide) (k := 5) (by decide), mw0_5 (a := 25) (by decide) (k := 6) (by decide), mw0_7 (a := 25) (by decide), show (1 : Int).toNat = 1 from rfl, g1]
    rfl
  · obtain rfl : lay = .inr (0, 64) := (Option.some.inj h1).symm
    exact at_zI g26 (by decide) (mw0_z (by decide) (by decide)) (hP 26 _ rfl)
  · obtain rfl : lay = .inr (0, 64) := (Option.some.inj h1).symm
    exact at_zI g27 (by decide) (mw0_z (by decide) (by decide)) (hP 27 _ rfl)
  · obtain rfl : lay = .inr (0, 64) := (Option.some.inj h1).symm
    exact at_zI g28 (by decide) (mw0_z (by decide) (by decide)) (hP 28 _ rfl)
  · obtain rfl : lay = .inr (0, 64) := (Option.some.inj h1).symm
    exact at_zI g29 (by decide) (mw0_z (by decide) (by decide)) (hP 29 _ rfl)
  · obtain rfl : lay = .inr (0, 64) := (Option.some.inj h1).symm
    exact at_zI g30 (by decide) (mw0_z (by decide) (by decide)) (hP 30 _ rfl)
  · obtain rfl : lay = .inl (8, [sS 32, sS 33, none, sS 34, none, sS 35, sS 36, sS 37, sS 38, sS 39, sS 40, none, sS 41, sS 42, none, none, none, none, none, none, none, sS 43, sS 44, sS 45, none]) := (Option.some.inj h1).symm
    refine at_ob g31 (hP 31 _ rfl) ?_
    simp only [flds, mfv, mtr, sS, Nat.zero_add, Nat.reduceAdd, g32, g33, mw0_z (a := 31) (by decide) (by decide), g34, g35, g36, g37, g38, g39, g40, g41, g42, g43, g44, g45]
    rfl
  · obtain rfl : lay = .inr (0, 168) := (Option.some.inj h1).symm
    exact at_zI g32 (by decide) (mw0_z (by decide) (by decide)) (hP 32 _ rfl)
  · obtain rfl : lay = .inr (0, 672) := (Option.some.inj h1).symm
    exact at_zI g33 (by decide) (mw0_z (by decide) (by decide)) (hP 33 _ rfl)
  · obtain rfl : lay = .inr (2, 80) := (Option.some.inj h1).symm
    exact at_zI g34 (by decide) (mw0_z (by decide) (by decide)) (hP 34 _ rfl)
  · obtain rfl : lay = .inr (0, 8) := (Option.some.inj h1).symm
    exact at_zI g35 (by decide) (mw0_z (by decide) (by decide)) (hP 35 _ rfl)
  · obtain rfl : lay = .inr (0, 64) := (Option.some.inj h1).symm
    exact at_zI g36 (by decide) (mw0_z (by decide) (by decide)) (hP 36 _ rfl)
  · obtain rfl : lay = .inr (0, 64) := (Option.some.inj h1).symm
    exact at_zI g37 (by decide) (mw0_z (by decide) (by decide)) (hP 37 _ rfl)
  · obtain rfl : lay = .inr (0, 64) := (Option.some.inj h1).symm
    exact at_zI g38 (by decide) (mw0_z (by decide) (by decide)) (hP 38 _ rfl)
  · obtain rfl : lay = .inr (0, 64) := (Option.some.inj h1).symm
    exact at_zI g39 (by decide) (mw0_z (by decide) (by decide)) (hP 39 _ rfl)
  · obtain rfl : lay = .inr (0, 64) := (Option.some.inj h1).symm
    exact at_zI g40 (by decide) (mw0_z (by decide) (by decide)) (hP 40 _ rfl)
  · obtain rfl : lay = .inr (3, 64) := (Option.some.inj h1).symm
    exact at_zJ g41 (mw0_z (by decide) (by decide)) (hP 41 _ rfl)
  · obtain rfl : lay = .inr (1, 64) := (Option.some.inj h1).symm
    exact at_zI g42 (by decide) (mw0_z (by decide) (by decide)) (hP 42 _ rfl)
  · obtain rfl : lay = .inr (0, 56) := (Option.some.inj h1).symm
    exact at_zI g43 (by decide) (mw0_z (by decide) (by decide)) (hP 43 _ rfl)
  · obtain rfl : lay = .inr (0, 40) := (Option.some.inj h1).symm
    exact at_zI g44 (by decide) (mw0_z (by decide) (by decide)) (hP 44 _ rfl)
  · obtain rfl : lay = .inr (0, 40) := (Option.some.inj h1).symm
    exact at_zI g45 (by decide) (mw0_z (by decide) (by decide)) (hP 45 _ rfl)
set_option maxHeartbeats 4000000 in
set_option maxRecDepth 100000 in
theorem law_begin {p : Program} {l : Launch} {e : Env} {s : State} {m : MethodId} {below : List Frame} {meth : Method} {c : Code} {Gz : mG} {dC : Nat → ClassId} {dI : Nat → Nat → Nat} {aI aB aC aJ : ClassId} {b L : Nat} {xs : Nat → Int32} {H : Heap} {locs : List Loc} {ls : Array Slot} {x0 x1 x2 x3 x4 x5 x6 x7 x8 x9 x10 x11 x12 x13 x14 x15 x16 x17 x18 x19 x20 x21 x22 x23 x24 x25 x26 x27 x28 x29 x30 y0 y1 y2 y3 y4 y5 y6 y7 y8 y9 y10 y11 y12 y13 y14 : Nat} (hL : L ≤ 2560) (C0 : lw_At p s m meth c b L xs) (ht : ∀ w ∈ mgood, w.before #[Value.ref b] s = true) (hN : ∀ q ∈ mnest, va_Nw q s) (hGz : Gz = ((dC, dI), (fun _ => 0), (aI, aB, aC, aJ))) (hK : va_K Gz.1 vwCl (mtys Gz) s) (NL : List Nat) (hNL : NL = [x0, x1, x2, x3, x4, x5, x6, x7, x8, x9, x10, x11, x12, x13, x14, x15, x16, x17, x18, x19, x20, x21, x22, x23, x24, x25, x26, x27, x28, x29, x30, y0, y1, y2, y3, y4, y5, y6, y7, y8, y9, y10, y11, y12, y13, y14]) (hP : va_P Gz.1 vwCl [(x0, .inr (7, [.ref x1, .ref x3, .ref x5, .ref x7, .ref x9, .ref x13, .ref x15, .ref x21, .ref x25])), (x1, .inr (2, [.ref x2])), zP Gz x2, (x3, .inr (2, [.ref x4])), zP Gz x4, (x5, .inr (2, [.ref x6])), zP Gz x6, (x7, .inr (0, [.ref x8, .int 0])), zI Gz 0 672 x8, (x9, .inr (3, [.ref x10, .int 0, .ref x11, .int 0, .int 0, .int 0, .int 0])), zI Gz 0 80 x10, (x11, .inr (2, [.ref x12])), zP Gz x12, (x13, .inr (1, [.ref x14])), zI Gz 1 64 x14, (x15, .inr (6, [.ref x16, .ref x17, .ref x18, .ref x19, .ref x20, .ref x1, .ref x1, .int 0])), zI Gz 0 64 x16, zI Gz 0 64 x17, zI Gz 0 64 x18, zI Gz 0 64 x19, zI Gz 0 64 x20, (x21, .inr (4, [.ref x22, .ref x23, .ref x24, .int 0])), zI Gz 0 64 x22, zJ Gz 64 x23, zI Gz 0 64 x24, (x25, .inr (5, [.ref x26, .ref x27, .ref x28, .ref x29, .ref x30, .ref x1, .ref x1, .int 0])), zI Gz 0 64 x26, zI Gz 0 64 x27, zI Gz 0 64 x28, zI Gz 0 64 x29, zI Gz 0 64 x30, (y0, .inr (8, [.ref y1, .ref y2, .int 0, .ref y3, .int 0, .ref y4, .ref y5, .ref y6, .ref y7, .ref y8, .ref y9, .int 0, .ref y10, .ref y11, .int 0, .int 0, .int 0, .int 0, .int 0, .int 0, .int 0, .ref y12, .ref y13, .ref y14, .int 0])), zI Gz 0 168 y1, zI Gz 0 672 y2, zI Gz 2 80 y3, zI Gz 0 8 y4, zI Gz 0 64 y5, zI Gz 0 64 y6, zI Gz 0 64 y7, zI Gz 0 64 y8, zI Gz 0 64 y9, zJ Gz 64 y10, zI Gz 1 64 y11, zI Gz 0 56 y12, zI Gz 0 40 y13, zI Gz 0 40 y14] H) (hD : va_D (fun q : Nat => s.heap.size ≤ q) [(x0, .inr (7, [.ref x1, .ref x3, .ref x5, .ref x7, .ref x9, .ref x13, .ref x15, .ref x21, .ref x25])), (x1, .inr (2, [.ref x2])), zP Gz x2, (x3, .inr (2, [.ref x4])), zP Gz x4, (x5, .inr (2, [.ref x6])), zP Gz x6, (x7, .inr (0, [.ref x8, .int 0])), zI Gz 0 672 x8, (x9, .inr (3, [.ref x10, .int 0, .ref x11, .int 0, .int 0, .int 0, .int 0])), zI Gz 0 80 x10, (x11, .inr (2, [.ref x12])), zP Gz x12, (x13, .inr (1, [.ref x14])), zI Gz 1 64 x14, (x15, .inr (6, [.ref x16, .ref x17, .ref x18, .ref x19, .ref x20, .ref x1, .ref x1, .int 0])), zI Gz 0 64 x16, zI Gz 0 64 x17, zI Gz 0 64 x18, zI Gz 0 64 x19, zI Gz 0 64 x20, (x21, .inr (4, [.ref x22, .ref x23, .ref x24, .int 0])), zI Gz 0 64 x22, zJ Gz 64 x23, zI Gz 0 64 x24, (x25, .inr (5, [.ref x26, .ref x27, .ref x28, .ref x29, .ref x30, .ref x1, .ref x1, .int 0])), zI Gz 0 64 x26, zI Gz 0 64 x27, zI Gz 0 64 x28, zI Gz 0 64 x29, zI Gz 0 64 x30, (y0, .inr (8, [.ref y1, .ref y2, .int 0, .ref y3, .int 0, .ref y4, .ref y5, .ref y6, .ref y7, .ref y8, .ref y9, .int 0, .ref y10, .ref y11, .int 0, .int 0, .int 0, .int 0, .int 0, .int 0, .int 0, .ref y12, .ref y13, .ref y14, .int 0])), zI Gz 0 168 y1, zI Gz 0 672 y2, zI Gz 2 80 y3, zI Gz 0 8 y4, zI Gz 0 64 y5, zI Gz 0 64 y6, zI Gz 0 64 y7, zI Gz 0 64 y8, zI Gz 0 64 y9, zJ Gz 64 y10, zI Gz 1 64 y11, zI Gz 0 56 y12, zI Gz 0 40 y13, zI Gz 0 40 y14]) (hfst : ([(x0, .inr (7, [.ref x1, .ref x3, .ref x5, .ref x7, .ref x9, .ref x13, .ref x15, .ref x21, .ref x25])), (x1, .inr (2, [.ref x2])), zP Gz x2, (x3, .inr (2, [.ref x4])), zP Gz x4, (x5, .inr (2, [.ref x6])), zP Gz x6, (x7, .inr (0, [.ref x8, .int 0])), zI Gz 0 672 x8, (x9, .inr (3, [.ref x10, .int 0, .ref x11, .int 0, .int 0, .int 0, .int 0])), zI Gz 0 80 x10, (x11, .inr (2, [.ref x12])), zP Gz x12, (x13, .inr (1, [.ref x14])), zI Gz 1 64 x14, (x15, .inr (6, [.ref x16, .ref x17, .ref x18, .ref x19, .ref x20, .ref x1, .ref x1, .int 0])), zI Gz 0 64 x16, zI Gz 0 64 x17, zI Gz 0 64 x18, zI Gz 0 64 x19, zI Gz 0 64 x20, (x21, .inr (4, [.ref x22, .ref x23, .ref x24, .int 0])), zI Gz 0 64 x22, zJ Gz 64 x23, zI Gz 0 64 x24, (x25, .inr (5, [.ref x26, .ref x27, .ref x28, .ref x29, .ref x30, .ref x1, .ref x1, .int 0])), zI Gz 0 64 x26, zI Gz 0 64 x27, zI Gz 0 64 x28, zI Gz 0 64 x29, zI Gz 0 64 x30, (y0, .inr (8, [.ref y1, .ref y2, .int 0, .ref y3, .int 0, .ref y4, .ref y5, .ref y6, .ref y7, .ref y8, .ref y9, .int 0, .ref y10, .ref y11, .int 0, .int 0, .int 0, .int 0, .int 0, .int 0, .int 0, .ref y12, .ref y13, .ref y14, .int 0])), zI Gz 0 168 y1, zI Gz 0 672 y2, zI Gz 2 80 y3, zI Gz 0 8 y4, zI Gz 0 64 y5, zI Gz 0 64 y6, zI Gz 0 64 y7, zI Gz 0 64 y8, zI Gz 0 64 y9, zJ Gz 64 y10, zI Gz 1 64 y11, zI Gz 0 56 y12, zI Gz 0 40 y13, zI Gz 0 40 y14] : va_W).map Prod.fst = [x0, x1, x2, x3, x4, x5, x6, x7, x8, x9, x10, x11, x12, x13, x14, x15, x16, x17, x18, x19, x20, x21, x22, x23, x24, x25, x26, x27, x28, x29, x30, y0, y1, y2, y3, y4, y5, y6, y7, y8, y9, y10, y11, y12, y13, y14]) (hS : va_S (fun q : Nat => s.heap.size ≤ q) s.heap H locs) (hl : lv_has ls 4 [(0, .ref b), (1, .ref x0), (2, .ref y0), (3, .int (mI ((0 : Nat) : Int)))]) : W p l e room_1 s m #[Value.ref b] below meth c H locs 46 3452 (lw_Z below #[Value.ref b] s) (F0 m 18 ls []) := by
  obtain ⟨G, hG⟩ : ∃ G : mG, G = (Gz.1, (fun i => [x0, x1, x2, x3, x4, x5, x6, x7, x8, x9, x10, x11, x12, x13, x14, x15, x16, x17, x18, x19, x20, x21, x22, x23, x24, x25, x26, x27, x28, x29, x30, y0, y1, y2, y3, y4, y5, y6, y7, y8, y9, y10, y11, y12, y13, y14].getD i 0), Gz.2.2) := ⟨_, rfl⟩
  have hPG : va_P G.1 vwCl [(x0, .inr (7, [.ref x1, .ref x3, .ref x5, .ref x7, .ref x9, .ref x13, .ref x15, .ref x21, .ref x25])), (x1, .inr (2, [.ref x2])), zP G x2, (x3, .inr (2, [.ref x4])), zP G x4, (x5, .inr (2, [.ref x6])), zP G x6, (x7, .inr (0, [.ref x8, .int 0])), zI G 0 672 x8, (x9, .inr (3, [.ref x10, .int 0, .ref x11, .int 0, .int 0, .int 0, .int 0])), zI G 0 80 x10, (x11, .inr (2, [.ref x12])), zP G x12, (x13, .inr (1, [.ref x14])), zI G 1 64 x14, (x15, .inr (6, [.ref x16, .ref x17, .ref x18, .ref x19, .ref x20, .ref x1, .ref x1, .int 0])), zI G 0 64 x16, zI G 0 64 x17, zI G 0 64 x18, zI G 0 64 x19, zI G 0 64 x20, (x21, .inr (4, [.ref x22, .ref x23, .ref x24, .int 0])), zI G 0 64 x22, zJ G 64 x23, zI G 0 64 x24, (x25, .inr (5, [.ref x26, .ref x27, .ref x28, .ref x29, .ref x30, .ref x1, .ref x1, .int 0])), zI G 0 64 x26, zI G 0 64 x27, zI G 0 64 x28, zI G 0 64 x29, zI G 0 64 x30, (y0, .inr (8, [.ref y1, .ref y2, .int 0, .ref y3, .int 0, .ref y4, .ref y5, .ref y6, .ref y7, .ref y8, .ref y9, .int 0, .ref y10, .ref y11, .int 0, .int 0, .int 0, .int 0, .int 0, .int 0, .int 0, .ref y12, .ref y13, .ref y14, .int 0])), zI G 0 168 y1, zI G 0 672 y2, zI G 2 80 y3, zI G 0 8 y4, zI G 0 64 y5, zI G 0 64 y6, zI G 0 64 y7, zI G 0 64 y8, zI G 0 64 y9, zJ G 64 y10, zI G 1 64 y11, zI G 0 56 y12, zI G 0 40 y13, zI G 0 40 y14] H := by rw [hG]; exact hP
  have hw : va_P G.1 vwCl (mws G mw0) H := ws_world (by rw [hG]; rfl) (by rw [hG]; rfl) (by rw [hG]; rfl) (by rw [hG]; rfl) (by rw [hG]; rfl) (by rw [hG]; rfl) (by rw [hG]; rfl) (by rw [hG]; rfl) (by rw [hG]; rfl) (by rw [hG]; rfl) (by rw [hG]; rfl) (by rw [hG]; rfl) (by rw [hG]; rfl) (by rw [hG]; rfl) (by rw [hG]; rfl) (by rw [hG]; rfl) (by rw [hG]; rfl) (by rw [hG]; rfl) (by rw [hG]; rfl) (by rw [hG]; rfl) (by rw [hG]; rfl) (by rw [hG]; rfl) (by rw [hG]; rfl) (by rw [hG]; rfl) (by rw [hG]; rfl) (by rw [hG]; rfl) (by rw [hG]; rfl) (by rw [hG]; rfl) (by rw [hG]; rfl) (by rw [hG]; rfl) (by rw [hG]; rfl) (by rw [hG]; rfl) (by rw [hG]; rfl) (by rw [hG]; rfl) (by rw [hG]; rfl) (by rw [hG]; rfl) (by rw [hG]; rfl) (by rw [hG]; rfl) (by rw [hG]; rfl) (by rw [hG]; rfl) (by rw [hG]; rfl) (by rw [hG]; rfl) (by rw [hG]; rfl) (by rw [hG]; rfl) (by rw [hG]; rfl) (by rw [hG]; rfl) hPG
  have hKG : va_K G.1 vwCl (mtys G) s := by rw [hG]; exact hK
  have hat : ∀ i, i < 46 → ∃ pr : Nat × va_E, ([(x0, .inr (7, [.ref x1, .ref x3, .ref x5, .ref x7, .ref x9, .ref x13, .ref x15, .ref x21, .ref x25])), (x1, .inr (2, [.ref x2])), zP Gz x2, (x3, .inr (2, [.ref x4])), zP Gz x4, (x5, .inr (2, [.ref x6])), zP Gz x6, (x7, .inr (0, [.ref x8, .int 0])), zI Gz 0 672 x8, (x9, .inr (3, [.ref x10, .int 0, .ref x11, .int 0, .int 0, .int 0, .int 0])), zI Gz 0 80 x10, (x11, .inr (2, [.ref x12])), zP Gz x12, (x13, .inr (1, [.ref x14])), zI Gz 1 64 x14, (x15, .inr (6, [.ref x16, .ref x17, .ref x18, .ref x19, .ref x20, .ref x1, .ref x1, .int 0])), zI Gz 0 64 x16, zI Gz 0 64 x17, zI Gz 0 64 x18, zI Gz 0 64 x19, zI Gz 0 64 x20, (x21, .inr (4, [.ref x22, .ref x23, .ref x24, .int 0])), zI Gz 0 64 x22, zJ Gz 64 x23, zI Gz 0 64 x24, (x25, .inr (5, [.ref x26, .ref x27, .ref x28, .ref x29, .ref x30, .ref x1, .ref x1, .int 0])), zI Gz 0 64 x26, zI Gz 0 64 x27, zI Gz 0 64 x28, zI Gz 0 64 x29, zI Gz 0 64 x30, (y0, .inr (8, [.ref y1, .ref y2, .int 0, .ref y3, .int 0, .ref y4, .ref y5, .ref y6, .ref y7, .ref y8, .ref y9, .int 0, .ref y10, .ref y11, .int 0, .int 0, .int 0, .int 0, .int 0, .int 0, .int 0, .ref y12, .ref y13, .ref y14, .int 0])), zI Gz 0 168 y1, zI Gz 0 672 y2, zI Gz 2 80 y3, zI Gz 0 8 y4, zI Gz 0 64 y5, zI Gz 0 64 y6, zI Gz 0 64 y7, zI Gz 0 64 y8, zI Gz 0 64 y9, zJ Gz 64 y10, zI Gz 1 64 y11, zI Gz 0 56 y12, zI Gz 0 40 y13, zI Gz 0 40 y14] : va_W)[i]? = some pr ∧ pr.1 = G.2.1 i := by
    intro i hi
    have e1 : (([(x0, .inr (7, [.ref x1, .ref x3, .ref x5, .ref x7, .ref x9, .ref x13, .ref x15, .ref x21, .ref x25])), (x1, .inr (2, [.ref x2])), zP Gz x2, (x3, .inr (2, [.ref x4])), zP Gz x4, (x5, .inr (2, [.ref x6])), zP Gz x6, (x7, .inr (0, [.ref x8, .int 0])), zI Gz 0 672 x8, (x9, .inr (3, [.ref x10, .int 0, .ref x11, .int 0, .int 0, .int 0, .int 0])), zI Gz 0 80 x10, (x11, .inr (2, [.ref x12])), zP Gz x12, (x13, .inr (1, [.ref x14])), zI Gz 1 64 x14, (x15, .inr (6, [.ref x16, .ref x17, .ref x18, .ref x19, .ref x20, .ref x1, .ref x1, .int 0])), zI Gz 0 64 x16, zI Gz 0 64 x17, zI Gz 0 64 x18, zI Gz 0 64 x19, zI Gz 0 64 x20, (x21, .inr (4, [.ref x22, .ref x23, .ref x24, .int 0])), zI Gz 0 64 x22, zJ Gz 64 x23, zI Gz 0 64 x24, (x25, .inr (5, [.ref x26, .ref x27, .ref x28, .ref x29, .ref x30, .ref x1, .ref x1, .int 0])), zI Gz 0 64 x26, zI Gz 0 64 x27, zI Gz 0 64 x28, zI Gz 0 64 x29, zI Gz 0 64 x30, (y0, .inr (8, [.ref y1, .ref y2, .int 0, .ref y3, .int 0, .ref y4, .ref y5, .ref y6, .ref y7, .ref y8, .ref y9, .int 0, .ref y10, .ref y11, .int 0, .int 0, .int 0, .int 0, .int 0, .int 0, .int 0, .ref y12, .ref y13, .ref y14, .int 0])), zI Gz 0 168 y1, zI Gz 0 672 y2, zI Gz 2 80 y3, zI Gz 0 8 y4, zI Gz 0 64 y5, zI Gz 0 64 y6, zI Gz 0 64 y7, zI Gz 0 64 y8, zI Gz 0 64 y9, zJ Gz 64 y10, zI Gz 1 64 y11, zI Gz 0 56 y12, zI Gz 0 40 y13, zI Gz 0 40 y14] : va_W).map Prod.fst)[i]? = some (G.2.1 i) := by rw [hfst, hG]; exact getD_at hi
    rw [List.getElem?_map] at e1
    obtain ⟨pr, h1, h2⟩ := Option.map_eq_some_iff.mp e1
    exact ⟨pr, h1, h2⟩
  have hGA : ∀ i, i < 46 → s.heap.size ≤ G.2.1 i := fun i hi => by
    obtain ⟨pr, h1, h2⟩ := hat i hi
    rw [← h2]; exact hD.2 i pr h1
  have hDD : va_D (mA G) (mws G mw0) := by
    refine ⟨fun i j pr qr hi hj hpq => ?_, fun k qr hk => ?_⟩
    · obtain ⟨li, h1, rfl⟩ := mws_of hi
      obtain ⟨lj, h2, rfl⟩ := mws_of hj
      have hi46 : i < 46 := (List.getElem?_eq_some_iff.mp h1).1
      have hj46 : j < 46 := (List.getElem?_eq_some_iff.mp h2).1
      obtain ⟨p1, a1, b1⟩ := hat i hi46
      obtain ⟨p2, a2, b2⟩ := hat j hj46
      exact hD.1 i j p1 p2 a1 a2 (by rw [b1, b2]; exact hpq)
    · obtain ⟨lk, h1, rfl⟩ := mws_of hk
      exact ⟨k, (List.getElem?_eq_some_iff.mp h1).1, rfl⟩
  have e0 : G.2.1 0 = x0 := by rw [hG]; rfl
  have e31 : G.2.1 31 = y0 := by rw [hG]; rfl
  exact law_loop hL C0 ht hN hKG hGA (L + 1) 0 (Nat.zero_le L) (by omega) (nrm mw0) H locs ls (nrm_rel mw0_rel) (nrm_P hw) (mD_any hDD) hS (by rw [e0, e31]; exact hl)
set_option maxHeartbeats 4000000 in
set_option maxRecDepth 100000 in
theorem whole_start {p : Program} {e : Env} {s : State} {m : MethodId} {below : List Frame} {meth : Method} {c : Code} (l : Launch) (hflags : l.flags = flags0) {b L : Nat} {xs : Nat → Int32} (hL : L ≤ 2560) (C0 : lw_At p s m meth c b L xs) : W p l e room_1 s m #[Value.ref b] below meth c s.heap [] 0 0 (lw_Z below #[Value.ref b] s) (entryFrame m ([Value.ref b] : List Value).toArray 4) := by
  obtain ⟨hx, hb, hr, hml, hown, hts, hX, hbl, hlocks, hgv⟩ := id C0
  have hA : ∀ q : Nat, s.heap.size ≤ q → (fun q : Nat => s.heap.size ≤ q) q := fun _ h => h
  have ht : ∀ w ∈ mgood, w.before #[Value.ref b] s = true := fun w hw => mtbl_ok hts w (List.mem_filter.mp hw).1
  have hN : ∀ q ∈ mnest, va_Nw q s := fun q hq => va_Nw.of (mnest_on (List.mem_filter.mp hq).2) (hts q (List.mem_filter.mp hq).1)
  obtain ⟨c0, iS0, hKn0⟩ := u_known (C := RX0) (T := TX0) (N := 2) (n := 2) ht uiX0 (ht _ wi_105)
  obtain ⟨c1, iS1, hKn1⟩ := u_known (C := RX1) (T := TX1) (N := 1) (n := 1) ht uiX1 (ht _ wi_148)
  obtain ⟨c2, iS2, hKn2⟩ := u_known (C := RX3) (T := TX3) (N := 1) (n := 1) ht uiX3 (ht _ wi_76)
  obtain ⟨c3, iS3, hKn3⟩ := u_known (C := RX4) (T := TX4) (N := 7) (n := 7) ht uiX4 (ht _ wi_118)
  obtain ⟨c4, iS4, hKn4⟩ := u_known (C := RX5) (T := TX5) (N := 4) (n := 4) ht uiX5 (ht _ wi_193)
  obtain ⟨c5, iS5, hKn5⟩ := u_known (C := RX6) (T := TX6) (N := 8) (n := 8) ht uiX6 (ht _ wi_213)
  obtain ⟨c6, iS6, hKn6⟩ := u_known (C := RX7) (T := TX7) (N := 8) (n := 8) ht uiX7 (ht _ wi_159)
  obtain ⟨c7, iS7, hKn7⟩ := u_known (C := RX8) (T := TX8) (N := 9) (n := 9) ht uiX8 (ht _ wi_68)
  obtain ⟨c8, iS8, hKn8⟩ := u_known (C := RX9) (T := TX9) (N := 25) (n := 25) ht uiX9 (ht _ wi_768)
  obtain ⟨dC, dI, hKc⟩ : ∃ (dC : Nat → ClassId) (dI : Nat → Nat → Nat), ∀ (k : Nat) (q : vw_C), vwCl[k]? = some q → u_Kn s q.1 q.2.1 q.2.2 (dC k) (dI k) := by
    refine ⟨fun k => if k = 0 then c0 else if k = 1 then c1 else if k = 2 then c2 else if k = 3 then c3 else if k = 4 then c4 else if k = 5 then c5 else if k = 6 then c6 else if k = 7 then c7 else c8, fun k => if k = 0 then iS0 else if k = 1 then iS1 else if k = 2 then iS2 else if k = 3 then iS3 else if k = 4 then iS4 else if k = 5 then iS5 else if k = 6 then iS6 else if k = 7 then iS7 else iS8, ?_⟩
    intro k q hq
    match k, hq with
    | 0, hq => cases hq; exact hKn0
    | 1, hq => cases hq; exact hKn1
    | 2, hq => cases hq; exact hKn2
    | 3, hq => cases hq; exact hKn3
    | 4, hq => cases hq; exact hKn4
    | 5, hq => cases hq; exact hKn5
    | 6, hq => cases hq; exact hKn6
    | 7, hq => cases hq; exact hKn7
    | 8, hq => cases hq; exact hKn8
    | k + 9, hq => simp [vwCl] at hq
  obtain ⟨aI, kI, oI, fI, gI, uI⟩ := Cond.arrayClass_spec (type := .int) (ht (Cond.arrayClass .int) wi_103)
  obtain ⟨aB, kB, oB, fB, gB, uB⟩ := Cond.arrayClass_spec (type := .boolean) (ht (Cond.arrayClass .boolean) wi_157)
  obtain ⟨aC, kC, oC, fC, gC, uC⟩ := Cond.arrayClass_spec (type := .char) (ht (Cond.arrayClass .char) wi_849)
  obtain ⟨aJ, kJ, oJ, fJ, gJ, uJ⟩ := Cond.arrayClass_spec (type := .long) (ht (Cond.arrayClass .long) wi_211)
  obtain ⟨Gz, hGz⟩ : ∃ Gz : mG, Gz = ((dC, dI), (fun _ => 0), (aI, aB, aC, aJ)) := ⟨_, rfl⟩
  have hK : va_K Gz.1 vwCl (mtys Gz) s := by
    rw [hGz]
    refine ⟨hKc, fun k q hq => ?_⟩
    match k, hq with
    | 0, hq => cases hq; exact ⟨fun n z => ⟨fun k h => (by cases h), kI, gI, oI, uI⟩, fI⟩
    | 1, hq => cases hq; exact ⟨fun n z => ⟨fun k h => (by cases h), kB, gB, oB, uB⟩, fB⟩
    | 2, hq => cases hq; exact ⟨fun n z => ⟨fun k h => (by cases h), kC, gC, oC, uC⟩, fC⟩
    | 3, hq => cases hq; exact ⟨fun n z => ⟨fun k h => (by cases h), kJ, gJ, oJ, uJ⟩, fJ⟩
    | k + 4, hq => simp [mtys] at hq
  have hS : va_S (fun q : Nat => s.heap.size ≤ q) s.heap s.heap [] := va_S.rf
  have hP : va_P Gz.1 vwCl [] s.heap := fun k q h => by simp at h
  have hD : va_D (fun q : Nat => s.heap.size ≤ q) [] := ⟨fun i j p q h => by simp at h, fun k q h => by simp at h⟩
  have hl := lv_entry ([.ref b]) (n := 4) (Nat.le_of_ble_eq_true rfl)
  rw [lg_entry_eq]
  generalize (lg_sl ([.ref b]) ++ List.replicate (4 - (lg_sl ([.ref b])).length) Slot.unset).toArray = ls at hl ⊢
  have hl : lv_has ls 4 [(0, .ref b)] := hl
  refine va_new (ci := 7) (fs := [.null, .null, .null, .null, .null, .null, .null, .null, .null]) (C := RX8) (T := TX8) (N := 9) hx hb ht uiX8 tyX8 tyX8_ok hown (ht _ wi_67) (ht _ wi_68) (ht _ wi_53) hK hP hD hS hA rfl (fun j hj => by rcases (show j = 0 ∨ j = 1 ∨ j = 2 ∨ j = 3 ∨ j = 4 ∨ j = 5 ∨ j = 6 ∨ j = 7 ∨ j = 8 by omega) with rfl | rfl | rfl | rfl | rfl | rfl | rfl | rfl | rfl <;> rfl) (Nat.le_of_ble_eq_true rfl) (Nat.le_of_ble_eq_true rfl) dL_law_0 (fun x0 H hP hD hS => ?_)
  have hP : va_P Gz.1 vwCl [(x0, .inr (7, [.null, .null, .null, .null, .null, .null, .null, .null, .null]))] H := hP
  have hD : va_D (fun q : Nat => s.heap.size ≤ q) [(x0, .inr (7, [.null, .null, .null, .null, .null, .null, .null, .null, .null]))] := hD
  refine W.widen (k := 1) (n := 9) (by omega) (by omega) ?_
  refine lv_dup hx hb dL_law_3 rfl ?_
  have hPc := hP.sub (ws' := [(x0, .inr (7, [.null, .null, .null, .null, .null, .null, .null, .null, .null]))]) [0] rfl
  have hDc := hD.sub (ws' := [(x0, .inr (7, [.null, .null, .null, .null, .null, .null, .null, .null, .null]))]) [0] (by decide) rfl
  have hFc := va_free (wc := [(x0, .inr (7, [.null, .null, .null, .null, .null, .null, .null, .null, .null]))]) hD hS hA [0] rfl
  refine va_callv (va_runI (own := RL) (As := []) (rest := [.ref x0]) ⟨hx, hb, hml, hown, ht⟩ (c_X8_init l Gz x0 H.size) (cwI 0 ht (mgoodIn _ _ _ _ kc_X8_init) rfl rfl rfl (ht _ wi_53) (ht _ wi_69) (ht _ wi_70) rfl (by decide +kernel) ⟨Nat.le_of_ble_eq_true rfl, Nat.le_of_ble_eq_true rfl⟩) ⟨cblind Gz _ _ _, fun U hU hW => ⟨rfl, by rw [hU], by rw [hU]; exact hPc, va_K.moved hW.alike hK, hDc.weaken (fun _ _ _ _ => trivial), fun q hq => mnest_warm hq hW (hN q hq)⟩⟩ rfl rfl hl.1 rfl (lv_room (Nat.le_of_ble_eq_true rfl)) dL_law_4 ⟨Nat.le_of_ble_eq_true rfl, Nat.le_of_ble_eq_true rfl⟩) hS (fun q _ h => hFc q h) hFc (fun u t H1 locs ht1 hvm hw hB hz1 hk1 hS => ?_)
  obtain ⟨x1, x2, x3, x4, x5, x6, x7, x8, x9, x10, x11, x12, x13, x14, x15, x16, x17, x18, x19, x20, x21, x22, x23, x24, x25, x26, x27, x28, x29, x30, hP1, hD1⟩ := hB
  rw [ht1] at hP1
  obtain ⟨hP, hD⟩ := va_join (wr := []) (w1 := [(x0, .inr (7, [.ref x1, .ref x3, .ref x5, .ref x7, .ref x9, .ref x13, .ref x15, .ref x21, .ref x25])), (x1, .inr (2, [.ref x2])), zP Gz x2, (x3, .inr (2, [.ref x4])), zP Gz x4, (x5, .inr (2, [.ref x6])), zP Gz x6, (x7, .inr (0, [.ref x8, .int 0])), zI Gz 0 672 x8, (x9, .inr (3, [.ref x10, .int 0, .ref x11, .int 0, .int 0, .int 0, .int 0])), zI Gz 0 80 x10, (x11, .inr (2, [.ref x12])), zP Gz x12, (x13, .inr (1, [.ref x14])), zI Gz 1 64 x14, (x15, .inr (6, [.ref x16, .ref x17, .ref x18, .ref x19, .ref x20, .ref x1, .ref x1, .int 0])), zI Gz 0 64 x16, zI Gz 0 64 x17, zI Gz 0 64 x18, zI Gz 0 64 x19, zI Gz 0 64 x20, (x21, .inr (4, [.ref x22, .ref x23, .ref x24, .int 0])), zI Gz 0 64 x22, zJ Gz 64 x23, zI Gz 0 64 x24, (x25, .inr (5, [.ref x26, .ref x27, .ref x28, .ref x29, .ref x30, .ref x1, .ref x1, .int 0])), zI Gz 0 64 x26, zI Gz 0 64 x27, zI Gz 0 64 x28, zI Gz 0 64 x29, zI Gz 0 64 x30]) hP hD [0] [] rfl rfl (by decide) (by decide) hk1 hFc hP1 hD1
  generalize H1 = H at hP hS ⊢
  have hP : va_P Gz.1 vwCl [(x0, .inr (7, [.ref x1, .ref x3, .ref x5, .ref x7, .ref x9, .ref x13, .ref x15, .ref x21, .ref x25])), (x1, .inr (2, [.ref x2])), zP Gz x2, (x3, .inr (2, [.ref x4])), zP Gz x4, (x5, .inr (2, [.ref x6])), zP Gz x6, (x7, .inr (0, [.ref x8, .int 0])), zI Gz 0 672 x8, (x9, .inr (3, [.ref x10, .int 0, .ref x11, .int 0, .int 0, .int 0, .int 0])), zI Gz 0 80 x10, (x11, .inr (2, [.ref x12])), zP Gz x12, (x13, .inr (1, [.ref x14])), zI Gz 1 64 x14, (x15, .inr (6, [.ref x16, .ref x17, .ref x18, .ref x19, .ref x20, .ref x1, .ref x1, .int 0])), zI Gz 0 64 x16, zI Gz 0 64 x17, zI Gz 0 64 x18, zI Gz 0 64 x19, zI Gz 0 64 x20, (x21, .inr (4, [.ref x22, .ref x23, .ref x24, .int 0])), zI Gz 0 64 x22, zJ Gz 64 x23, zI Gz 0 64 x24, (x25, .inr (5, [.ref x26, .ref x27, .ref x28, .ref x29, .ref x30, .ref x1, .ref x1, .int 0])), zI Gz 0 64 x26, zI Gz 0 64 x27, zI Gz 0 64 x28, zI Gz 0 64 x29, zI Gz 0 64 x30] H := hP
  have hD : va_D (fun q : Nat => s.heap.size ≤ q) [(x0, .inr (7, [.ref x1, .ref x3, .ref x5, .ref x7, .ref x9, .ref x13, .ref x15, .ref x21, .ref x25])), (x1, .inr (2, [.ref x2])), zP Gz x2, (x3, .inr (2, [.ref x4])), zP Gz x4, (x5, .inr (2, [.ref x6])), zP Gz x6, (x7, .inr (0, [.ref x8, .int 0])), zI Gz 0 672 x8, (x9, .inr (3, [.ref x10, .int 0, .ref x11, .int 0, .int 0, .int 0, .int 0])), zI Gz 0 80 x10, (x11, .inr (2, [.ref x12])), zP Gz x12, (x13, .inr (1, [.ref x14])), zI Gz 1 64 x14, (x15, .inr (6, [.ref x16, .ref x17, .ref x18, .ref x19, .ref x20, .ref x1, .ref x1, .int 0])), zI Gz 0 64 x16, zI Gz 0 64 x17, zI Gz 0 64 x18, zI Gz 0 64 x19, zI Gz 0 64 x20, (x21, .inr (4, [.ref x22, .ref x23, .ref x24, .int 0])), zI Gz 0 64 x22, zJ Gz 64 x23, zI Gz 0 64 x24, (x25, .inr (5, [.ref x26, .ref x27, .ref x28, .ref x29, .ref x30, .ref x1, .ref x1, .int 0])), zI Gz 0 64 x26, zI Gz 0 64 x27, zI Gz 0 64 x28, zI Gz 0 64 x29, zI Gz 0 64 x30] := hD
  refine W.widen (k := 31) (n := 1915) (by omega) (by omega) ?_
  refine lv_astore_n (lv' := [(1, .ref x0), (0, .ref b)]) hx hb dL_law_7 rfl hl (by decide) rfl (fun ls hl => ?_)
  refine va_new (ci := 8) (fs := [.null, .null, .int 0, .null, .int 0, .null, .null, .null, .null, .null, .null, .int 0, .null, .null, .int 0, .int 0, .int 0, .int 0, .int 0, .int 0, .int 0, .null, .null, .null, .int 0]) (C := RX9) (T := TX9) (N := 25) hx hb ht uiX9 tyX9 tyX9_ok hown (ht _ wi_767) (ht _ wi_768) (ht _ wi_62) hK hP hD hS hA rfl (fun j hj => by rcases (show j = 0 ∨ j = 1 ∨ j = 2 ∨ j = 3 ∨ j = 4 ∨ j = 5 ∨ j = 6 ∨ j = 7 ∨ j = 8 ∨ j = 9 ∨ j = 10 ∨ j = 11 ∨ j = 12 ∨ j = 13 ∨ j = 14 ∨ j = 15 ∨ j = 16 ∨ j = 17 ∨ j = 18 ∨ j = 19 ∨ j = 20 ∨ j = 21 ∨ j = 22 ∨ j = 23 ∨ j = 24 by omega) with rfl | rfl | rfl | rfl | rfl | rfl | rfl | rfl | rfl | rfl | rfl | rfl | rfl | rfl | rfl | rfl | rfl | rfl | rfl | rfl | rfl | rfl | rfl | rfl | rfl <;> rfl) (Nat.le_of_ble_eq_true rfl) (Nat.le_of_ble_eq_true rfl) dL_law_8 (fun y0 H hP hD hS => ?_)
  have hP : va_P Gz.1 vwCl [(x0, .inr (7, [.ref x1, .ref x3, .ref x5, .ref x7, .ref x9, .ref x13, .ref x15, .ref x21, .ref x25])), (x1, .inr (2, [.ref x2])), zP Gz x2, (x3, .inr (2, [.ref x4])), zP Gz x4, (x5, .inr (2, [.ref x6])), zP Gz x6, (x7, .inr (0, [.ref x8, .int 0])), zI Gz 0 672 x8, (x9, .inr (3, [.ref x10, .int 0, .ref x11, .int 0, .int 0, .int 0, .int 0])), zI Gz 0 80 x10, (x11, .inr (2, [.ref x12])), zP Gz x12, (x13, .inr (1, [.ref x14])), zI Gz 1 64 x14, (x15, .inr (6, [.ref x16, .ref x17, .ref x18, .ref x19, .ref x20, .ref x1, .ref x1, .int 0])), zI Gz 0 64 x16, zI Gz 0 64 x17, zI Gz 0 64 x18, zI Gz 0 64 x19, zI Gz 0 64 x20, (x21, .inr (4, [.ref x22, .ref x23, .ref x24, .int 0])), zI Gz 0 64 x22, zJ Gz 64 x23, zI Gz 0 64 x24, (x25, .inr (5, [.ref x26, .ref x27, .ref x28, .ref x29, .ref x30, .ref x1, .ref x1, .int 0])), zI Gz 0 64 x26, zI Gz 0 64 x27, zI Gz 0 64 x28, zI Gz 0 64 x29, zI Gz 0 64 x30, (y0, .inr (8, [.null, .null, .int 0, .null, .int 0, .null, .null, .null, .null, .null, .null, .int 0, .null, .null, .int 0, .int 0, .int 0, .int 0, .int 0, .int 0, .int 0, .null, .null, .null, .int 0]))] H := hP
  have hD : va_D (fun q : Nat => s.heap.size ≤ q) [(x0, .inr (7, [.ref x1, .ref x3, .ref x5, .ref x7, .ref x9, .ref x13, .ref x15, .ref x21, .ref x25])), (x1, .inr (2, [.ref x2])), zP Gz x2, (x3, .inr (2, [.ref x4])), zP Gz x4, (x5, .inr (2, [.ref x6])), zP Gz x6, (x7, .inr (0, [.ref x8, .int 0])), zI Gz 0 672 x8, (x9, .inr (3, [.ref x10, .int 0, .ref x11, .int 0, .int 0, .int 0, .int 0])), zI Gz 0 80 x10, (x11, .inr (2, [.ref x12])), zP Gz x12, (x13, .inr (1, [.ref x14])), zI Gz 1 64 x14, (x15, .inr (6, [.ref x16, .ref x17, .ref x18, .ref x19, .ref x20, .ref x1, .ref x1, .int 0])), zI Gz 0 64 x16, zI Gz 0 64 x17, zI Gz 0 64 x18, zI Gz 0 64 x19, zI Gz 0 64 x20, (x21, .inr (4, [.ref x22, .ref x23, .ref x24, .int 0])), zI Gz 0 64 x22, zJ Gz 64 x23, zI Gz 0 64 x24, (x25, .inr (5, [.ref x26, .ref x27, .ref x28, .ref x29, .ref x30, .ref x1, .ref x1, .int 0])), zI Gz 0 64 x26, zI Gz 0 64 x27, zI Gz 0 64 x28, zI Gz 0 64 x29, zI Gz 0 64 x30, (y0, .inr (8, [.null, .null, .int 0, .null, .int 0, .null, .null, .null, .null, .null, .null, .int 0, .null, .null, .int 0, .int 0, .int 0, .int 0, .int 0, .int 0, .int 0, .null, .null, .null, .int 0]))] := hD
  refine W.widen (k := 32) (n := 1940) (by omega) (by omega) ?_
  refine lv_dup hx hb dL_law_11 rfl ?_
  have hPc := hP.sub (ws' := [(y0, .inr (8, [.null, .null, .int 0, .null, .int 0, .null, .null, .null, .null, .null, .null, .int 0, .null, .null, .int 0, .int 0, .int 0, .int 0, .int 0, .int 0, .int 0, .null, .null, .null, .int 0]))]) [31] rfl
  have hDc := hD.sub (ws' := [(y0, .inr (8, [.null, .null, .int 0, .null, .int 0, .null, .null, .null, .null, .null, .null, .int 0, .null, .null, .int 0, .int 0, .int 0, .int 0, .int 0, .int 0, .int 0, .null, .null, .null, .int 0]))]) [31] (by decide) rfl
  have hFc := va_free (wc := [(y0, .inr (8, [.null, .null, .int 0, .null, .int 0, .null, .null, .null, .null, .null, .null, .int 0, .null, .null, .int 0, .int 0, .int 0, .int 0, .int 0, .int 0, .int 0, .null, .null, .null, .int 0]))]) hD hS hA [31] rfl
  refine va_callv (va_runI (own := RL) (As := []) (rest := [.ref y0]) ⟨hx, hb, hml, hown, ht⟩ (c_X9_init l Gz y0 H.size) (cwI 0 ht (mgoodIn _ _ _ _ kc_X9_init) rfl rfl rfl (ht _ wi_62) (ht _ wi_769) (ht _ wi_770) rfl (by decide +kernel) ⟨Nat.le_of_ble_eq_true rfl, Nat.le_of_ble_eq_true rfl⟩) ⟨cblind Gz _ _ _, fun U hU hW => ⟨rfl, by rw [hU], by rw [hU]; exact hPc, va_K.moved hW.alike hK, hDc.weaken (fun _ _ _ _ => trivial), fun q hq => mnest_warm hq hW (hN q hq)⟩⟩ rfl rfl hl.1 rfl (lv_room (Nat.le_of_ble_eq_true rfl)) dL_law_12 ⟨Nat.le_of_ble_eq_true rfl, Nat.le_of_ble_eq_true rfl⟩) hS (fun q _ h => hFc q h) hFc (fun u t H1 locs ht1 hvm hw hB hz1 hk1 hS => ?_)
  obtain ⟨y1, y2, y3, y4, y5, y6, y7, y8, y9, y10, y11, y12, y13, y14, hP1, hD1⟩ := hB
  rw [ht1] at hP1
  obtain ⟨hP, hD⟩ := va_join (wr := [(x0, .inr (7, [.ref x1, .ref x3, .ref x5, .ref x7, .ref x9, .ref x13, .ref x15, .ref x21, .ref x25])), (x1, .inr (2, [.ref x2])), zP Gz x2, (x3, .inr (2, [.ref x4])), zP Gz x4, (x5, .inr (2, [.ref x6])), zP Gz x6, (x7, .inr (0, [.ref x8, .int 0])), zI Gz 0 672 x8, (x9, .inr (3, [.ref x10, .int 0, .ref x11, .int 0, .int 0, .int 0, .int 0])), zI Gz 0 80 x10, (x11, .inr (2, [.ref x12])), zP Gz x12, (x13, .inr (1, [.ref x14])), zI Gz 1 64 x14, (x15, .inr (6, [.ref x16, .ref x17, .ref x18, .ref x19, .ref x20, .ref x1, .ref x1, .int 0])), zI Gz 0 64 x16, zI Gz 0 64 x17, zI Gz 0 64 x18, zI Gz 0 64 x19, zI Gz 0 64 x20, (x21, .inr (4, [.ref x22, .ref x23, .ref x24, .int 0])), zI Gz 0 64 x22, zJ Gz 64 x23, zI Gz 0 64 x24, (x25, .inr (5, [.ref x26, .ref x27, .ref x28, .ref x29, .ref x30, .ref x1, .ref x1, .int 0])), zI Gz 0 64 x26, zI Gz 0 64 x27, zI Gz 0 64 x28, zI Gz 0 64 x29, zI Gz 0 64 x30]) (w1 := [(y0, .inr (8, [.ref y1, .ref y2, .int 0, .ref y3, .int 0, .ref y4, .ref y5, .ref y6, .ref y7, .ref y8, .ref y9, .int 0, .ref y10, .ref y11, .int 0, .int 0, .int 0, .int 0, .int 0, .int 0, .int 0, .ref y12, .ref y13, .ref y14, .int 0])), zI Gz 0 168 y1, zI Gz 0 672 y2, zI Gz 2 80 y3, zI Gz 0 8 y4, zI Gz 0 64 y5, zI Gz 0 64 y6, zI Gz 0 64 y7, zI Gz 0 64 y8, zI Gz 0 64 y9, zJ Gz 64 y10, zI Gz 1 64 y11, zI Gz 0 56 y12, zI Gz 0 40 y13, zI Gz 0 40 y14]) hP hD [31] [0, 1, 2, 3, 4, 5, 6, 7, 8, 9, 10, 11, 12, 13, 14, 15, 16, 17, 18, 19, 20, 21, 22, 23, 24, 25, 26, 27, 28, 29, 30] rfl rfl (by decide) (by decide) hk1 hFc hP1 hD1
  generalize H1 = H at hP hS ⊢
  have hP : va_P Gz.1 vwCl [(x0, .inr (7, [.ref x1, .ref x3, .ref x5, .ref x7, .ref x9, .ref x13, .ref x15, .ref x21, .ref x25])), (x1, .inr (2, [.ref x2])), zP Gz x2, (x3, .inr (2, [.ref x4])), zP Gz x4, (x5, .inr (2, [.ref x6])), zP Gz x6, (x7, .inr (0, [.ref x8, .int 0])), zI Gz 0 672 x8, (x9, .inr (3, [.ref x10, .int 0, .ref x11, .int 0, .int 0, .int 0, .int 0])), zI Gz 0 80 x10, (x11, .inr (2, [.ref x12])), zP Gz x12, (x13, .inr (1, [.ref x14])), zI Gz 1 64 x14, (x15, .inr (6, [.ref x16, .ref x17, .ref x18, .ref x19, .ref x20, .ref x1, .ref x1, .int 0])), zI Gz 0 64 x16, zI Gz 0 64 x17, zI Gz 0 64 x18, zI Gz 0 64 x19, zI Gz 0 64 x20, (x21, .inr (4, [.ref x22, .ref x23, .ref x24, .int 0])), zI Gz 0 64 x22, zJ Gz 64 x23, zI Gz 0 64 x24, (x25, .inr (5, [.ref x26, .ref x27, .ref x28, .ref x29, .ref x30, .ref x1, .ref x1, .int 0])), zI Gz 0 64 x26, zI Gz 0 64 x27, zI Gz 0 64 x28, zI Gz 0 64 x29, zI Gz 0 64 x30, (y0, .inr (8, [.ref y1, .ref y2, .int 0, .ref y3, .int 0, .ref y4, .ref y5, .ref y6, .ref y7, .ref y8, .ref y9, .int 0, .ref y10, .ref y11, .int 0, .int 0, .int 0, .int 0, .int 0, .int 0, .int 0, .ref y12, .ref y13, .ref y14, .int 0])), zI Gz 0 168 y1, zI Gz 0 672 y2, zI Gz 2 80 y3, zI Gz 0 8 y4, zI Gz 0 64 y5, zI Gz 0 64 y6, zI Gz 0 64 y7, zI Gz 0 64 y8, zI Gz 0 64 y9, zJ Gz 64 y10, zI Gz 1 64 y11, zI Gz 0 56 y12, zI Gz 0 40 y13, zI Gz 0 40 y14] H := hP
  have hD : va_D (fun q : Nat => s.heap.size ≤ q) [(x0, .inr (7, [.ref x1, .ref x3, .ref x5, .ref x7, .ref x9, .ref x13, .ref x15, .ref x21, .ref x25])), (x1, .inr (2, [.ref x2])), zP Gz x2, (x3, .inr (2, [.ref x4])), zP Gz x4, (x5, .inr (2, [.ref x6])), zP Gz x6, (x7, .inr (0, [.ref x8, .int 0])), zI Gz 0 672 x8, (x9, .inr (3, [.ref x10, .int 0, .ref x11, .int 0, .int 0, .int 0, .int 0])), zI Gz 0 80 x10, (x11, .inr (2, [.ref x12])), zP Gz x12, (x13, .inr (1, [.ref x14])), zI Gz 1 64 x14, (x15, .inr (6, [.ref x16, .ref x17, .ref x18, .ref x19, .ref x20, .ref x1, .ref x1, .int 0])), zI Gz 0 64 x16, zI Gz 0 64 x17, zI Gz 0 64 x18, zI Gz 0 64 x19, zI Gz 0 64 x20, (x21, .inr (4, [.ref x22, .ref x23, .ref x24, .int 0])), zI Gz 0 64 x22, zJ Gz 64 x23, zI Gz 0 64 x24, (x25, .inr (5, [.ref x26, .ref x27, .ref x28, .ref x29, .ref x30, .ref x1, .ref x1, .int 0])), zI Gz 0 64 x26, zI Gz 0 64 x27, zI Gz 0 64 x28, zI Gz 0 64 x29, zI Gz 0 64 x30, (y0, .inr (8, [.ref y1, .ref y2, .int 0, .ref y3, .int 0, .ref y4, .ref y5, .ref y6, .ref y7, .ref y8, .ref y9, .int 0, .ref y10, .ref y11, .int 0, .int 0, .int 0, .int 0, .int 0, .int 0, .int 0, .ref y12, .ref y13, .ref y14, .int 0])), zI Gz 0 168 y1, zI Gz 0 672 y2, zI Gz 2 80 y3, zI Gz 0 8 y4, zI Gz 0 64 y5, zI Gz 0 64 y6, zI Gz 0 64 y7, zI Gz 0 64 y8, zI Gz 0 64 y9, zJ Gz 64 y10, zI Gz 1 64 y11, zI Gz 0 56 y12, zI Gz 0 40 y13, zI Gz 0 40 y14] := hD
  refine W.widen (k := 46) (n := 3452) (by omega) (by omega) ?_
  refine lv_astore_n (lv' := [(2, .ref y0), (1, .ref x0), (0, .ref b)]) hx hb dL_law_15 rfl hl (by decide) rfl (fun ls hl => ?_)
  refine lv_iconst (v := mI ((0 : Nat) : Int)) hx hb dL_law_16 (by decide) ?_
  refine lv_istore_n (lv' := [(3, .int (mI ((0 : Nat) : Int))), (2, .ref y0), (1, .ref x0), (0, .ref b)]) hx hb dL_law_17 rfl hl (by decide) rfl (fun ls hl => ?_)
  have hP := hP.sub (ws' := [(x0, .inr (7, [.ref x1, .ref x3, .ref x5, .ref x7, .ref x9, .ref x13, .ref x15, .ref x21, .ref x25])), (x1, .inr (2, [.ref x2])), zP Gz x2, (x3, .inr (2, [.ref x4])), zP Gz x4, (x5, .inr (2, [.ref x6])), zP Gz x6, (x7, .inr (0, [.ref x8, .int 0])), zI Gz 0 672 x8, (x9, .inr (3, [.ref x10, .int 0, .ref x11, .int 0, .int 0, .int 0, .int 0])), zI Gz 0 80 x10, (x11, .inr (2, [.ref x12])), zP Gz x12, (x13, .inr (1, [.ref x14])), zI Gz 1 64 x14, (x15, .inr (6, [.ref x16, .ref x17, .ref x18, .ref x19, .ref x20, .ref x1, .ref x1, .int 0])), zI Gz 0 64 x16, zI Gz 0 64 x17, zI Gz 0 64 x18, zI Gz 0 64 x19, zI Gz 0 64 x20, (x21, .inr (4, [.ref x22, .ref x23, .ref x24, .int 0])), zI Gz 0 64 x22, zJ Gz 64 x23, zI Gz 0 64 x24, (x25, .inr (5, [.ref x26, .ref x27, .ref x28, .ref x29, .ref x30, .ref x1, .ref x1, .int 0])), zI Gz 0 64 x26, zI Gz 0 64 x27, zI Gz 0 64 x28, zI Gz 0 64 x29, zI Gz 0 64 x30, (y0, .inr (8, [.ref y1, .ref y2, .int 0, .ref y3, .int 0, .ref y4, .ref y5, .ref y6, .ref y7, .ref y8, .ref y9, .int 0, .ref y10, .ref y11, .int 0, .int 0, .int 0, .int 0, .int 0, .int 0, .int 0, .ref y12, .ref y13, .ref y14, .int 0])), zI Gz 0 168 y1, zI Gz 0 672 y2, zI Gz 2 80 y3, zI Gz 0 8 y4, zI Gz 0 64 y5, zI Gz 0 64 y6, zI Gz 0 64 y7, zI Gz 0 64 y8, zI Gz 0 64 y9, zJ Gz 64 y10, zI Gz 1 64 y11, zI Gz 0 56 y12, zI Gz 0 40 y13, zI Gz 0 40 y14]) [0, 1, 2, 3, 4, 5, 6, 7, 8, 9, 10, 11, 12, 13, 14, 15, 16, 17, 18, 19, 20, 21, 22, 23, 24, 25, 26, 27, 28, 29, 30, 31, 32, 33, 34, 35, 36, 37, 38, 39, 40, 41, 42, 43, 44, 45] rfl
  have hD := hD.sub (ws' := [(x0, .inr (7, [.ref x1, .ref x3, .ref x5, .ref x7, .ref x9, .ref x13, .ref x15, .ref x21, .ref x25])), (x1, .inr (2, [.ref x2])), zP Gz x2, (x3, .inr (2, [.ref x4])), zP Gz x4, (x5, .inr (2, [.ref x6])), zP Gz x6, (x7, .inr (0, [.ref x8, .int 0])), zI Gz 0 672 x8, (x9, .inr (3, [.ref x10, .int 0, .ref x11, .int 0, .int 0, .int 0, .int 0])), zI Gz 0 80 x10, (x11, .inr (2, [.ref x12])), zP Gz x12, (x13, .inr (1, [.ref x14])), zI Gz 1 64 x14, (x15, .inr (6, [.ref x16, .ref x17, .ref x18, .ref x19, .ref x20, .ref x1, .ref x1, .int 0])), zI Gz 0 64 x16, zI Gz 0 64 x17, zI Gz 0 64 x18, zI Gz 0 64 x19, zI Gz 0 64 x20, (x21, .inr (4, [.ref x22, .ref x23, .ref x24, .int 0])), zI Gz 0 64 x22, zJ Gz 64 x23, zI Gz 0 64 x24, (x25, .inr (5, [.ref x26, .ref x27, .ref x28, .ref x29, .ref x30, .ref x1, .ref x1, .int 0])), zI Gz 0 64 x26, zI Gz 0 64 x27, zI Gz 0 64 x28, zI Gz 0 64 x29, zI Gz 0 64 x30, (y0, .inr (8, [.ref y1, .ref y2, .int 0, .ref y3, .int 0, .ref y4, .ref y5, .ref y6, .ref y7, .ref y8, .ref y9, .int 0, .ref y10, .ref y11, .int 0, .int 0, .int 0, .int 0, .int 0, .int 0, .int 0, .ref y12, .ref y13, .ref y14, .int 0])), zI Gz 0 168 y1, zI Gz 0 672 y2, zI Gz 2 80 y3, zI Gz 0 8 y4, zI Gz 0 64 y5, zI Gz 0 64 y6, zI Gz 0 64 y7, zI Gz 0 64 y8, zI Gz 0 64 y9, zJ Gz 64 y10, zI Gz 1 64 y11, zI Gz 0 56 y12, zI Gz 0 40 y13, zI Gz 0 40 y14]) [0, 1, 2, 3, 4, 5, 6, 7, 8, 9, 10, 11, 12, 13, 14, 15, 16, 17, 18, 19, 20, 21, 22, 23, 24, 25, 26, 27, 28, 29, 30, 31, 32, 33, 34, 35, 36, 37, 38, 39, 40, 41, 42, 43, 44, 45] (by decide) rfl
  exact law_begin hL C0 ht hN hGz hK [x0, x1, x2, x3, x4, x5, x6, x7, x8, x9, x10, x11, x12, x13, x14, x15, x16, x17, x18, x19, x20, x21, x22, x23, x24, x25, x26, x27, x28, x29, x30, y0, y1, y2, y3, y4, y5, y6, y7, y8, y9, y10, y11, y12, y13, y14] rfl hP hD rfl hS (lv_sub hl [3, 2, 1, 0] rfl)
