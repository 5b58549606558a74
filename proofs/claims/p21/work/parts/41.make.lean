/-! A NEW OBJECT AS A WORLD -/
def mw0 : mW := fun a z => if a = 2 ∨ a = 4 ∨ a = 6 ∨ a = 12 then pclr (fun _ _ => 0) 0 56 1 z else if (a = 15 ∨ a = 25) ∧ (z = 5 ∨ z = 6) then 1 else 0
theorem mw0_z {a : Nat} (h : ¬ (a = 2 ∨ a = 4 ∨ a = 6 ∨ a = 12)) (h2 : ¬ (a = 15 ∨ a = 25)) (z : Int) : mw0 a z = 0 := by
  unfold mw0; rw [if_neg h, if_neg (fun q => h2 q.1)]
def P0 : Pn := fun _ b => if 0 ≤ b ∧ b < 56 then (if b % 7 = 0 then 0 else -1) else 0
theorem P0_ok : POk P0 := by
  intro p _
  refine ⟨fun b hb => if_neg hb, fun s s0 s1 => ⟨?_, fun k k0 k1 => ?_⟩⟩
  · unfold P0; rw [if_pos (by omega), if_pos (by omega)]; decide
  · unfold P0; rw [if_pos (by omega), if_neg (by omega)]; decide
theorem mw0_ob : Ob mw0 P0 [] [] (fun _ => 0) := by
  refine ⟨fun p hp => ?_, P0_ok, ⟨by rw [mw0_z (by decide) (by decide)]; rfl, fun i X h => by simp at h⟩, fun X h => by simp at h, by decide, ⟨by rw [mw0_z (by decide) (by decide)]; rfl, fun i X h => by simp at h⟩, by decide, fun x h => by simp at h, ?_⟩
  · funext b
    unfold mw0 P0
    rw [if_pos (by omega)]
    unfold pclr
    by_cases hb : 0 ≤ b ∧ b < 56
    · rw [if_pos ⟨rfl, hb⟩, if_pos hb]
    · rw [if_neg (fun q => hb q.2), if_neg hb]
  · funext z; exact mw0_z (by decide) (by decide) z
theorem getD_at {l : List Nat} {i : Nat} (h : i < l.length) : l[i]? = some (l.getD i 0) := by
  have e := List.getElem?_eq_getElem h
  rw [List.getD_eq_getElem?_getD, e]; rfl
def flds (G : mG) (w : mW) (i : Nat) : Nat → List (Option (Option Nat)) → List Value
  | _, [] => []
  | k, f :: r => mtr G (mfv w i k f) :: flds G w i (k + 1) r
theorem flds_idx (G : mG) (w : mW) (i : Nat) : ∀ (l : List (Option (Option Nat))) (k : Nat), l.mapIdx (fun j f => mtr G (mfv w i (j + k) f)) = flds G w i k l
  | [], k => by simp [flds]
  | f :: r, k => by
    rw [List.mapIdx_cons, flds, Nat.zero_add]
    congr 1
    rw [← flds_idx G w i r (k + 1)]
    congr 1
    funext j f
    rw [show j + 1 + k = j + (k + 1) by omega]
theorem at_ob {G : mG} {w : mW} {H : Heap} {i a ci : Nat} {lay : List (Option (Option Nat))} {fl : List Value} (ha : G.2.1 i = a) (h : va_at G.1 vwCl (a, .inr (ci, fl)) H) (hf : flds G w i 0 lay = fl) : va_at G.1 vwCl (G.2.1 i, ment G w i (.inl (ci, lay))) H := by
  have e : ment G w i (.inl (ci, lay)) = .inr (ci, fl) := by
    rw [← hf, ← flds_idx G w i lay 0]; rfl
  rw [e, ha]; exact h
theorem at_zI {G : mG} {w : mW} {H : Heap} {i a t n : Nat} (ha : G.2.1 i = a) (ht : t < 3) (hz : ∀ z : Int, w i z = 0) (h : va_at G.1 vwCl (zI G t n a) H) : va_at G.1 vwCl (G.2.1 i, ment G w i (.inr (t, n))) H := by
  have e : (fun k : Nat => mI (w i (k : Int))) = fun _ : Nat => mI 0 := by funext k; rw [hz]
  have e2 : ment G w i (.inr (t, n)) = .inl (mCid G t, n, .inl fun _ : Nat => mI 0) := by
    rw [← e]
    rcases (show t = 0 ∨ t = 1 ∨ t = 2 by omega) with rfl | rfl | rfl <;> rfl
  rw [e2, ha]; exact h
theorem at_zJ {G : mG} {w : mW} {H : Heap} {i a n : Nat} (ha : G.2.1 i = a) (hz : ∀ z : Int, w i z = 0) (h : va_at G.1 vwCl (zJ G n a) H) : va_at G.1 vwCl (G.2.1 i, ment G w i (.inr (3, n))) H := by
  have e : (fun k : Nat => mJ (w i (k : Int))) = fun _ : Nat => mJ 0 := by funext k; rw [hz]
  have e2 : ment G w i (.inr (3, n)) = .inl (mCid G 3, n, .inr (.inl fun _ : Nat => mJ 0)) := by
    rw [← e]; rfl
  rw [e2, ha]; exact h
theorem at_zP {G : mG} {H : Heap} {i a : Nat} (ha : G.2.1 i = a) (hi : i = 2 ∨ i = 4 ∨ i = 6 ∨ i = 12) (h : va_at G.1 vwCl (zP G a) H) : va_at G.1 vwCl (G.2.1 i, ment G mw0 i (.inr (0, 56))) H := by
  have e : (fun k : Nat => mI (mw0 i (k : Int))) = fun k : Nat => mI (pclr (fun _ _ => 0) 0 56 1 (k : Int)) := by funext k; unfold mw0; rw [if_pos hi]
  have e2 : ment G mw0 i (.inr (0, 56)) = .inl (mCid G 0, 56, .inl fun k : Nat => mI (pclr (fun _ _ => 0) 0 56 1 (k : Int))) := by
    rw [← e]; rfl
  rw [e2, ha]; exact h
theorem mw0_5 {a : Nat} (h : a = 15 ∨ a = 25) {k : Nat} (hk : k = 5 ∨ k = 6) : mw0 a (k : Int) = 1 := by
  unfold mw0; rw [if_neg (by omega), if_pos ⟨h, by omega⟩]
theorem mw0_7 {a : Nat} (h : a = 15 ∨ a = 25) : mw0 a ((7 : Nat) : Int) = 0 := by
  unfold mw0; rw [if_neg (by omega), if_neg (fun q => by have := q.2; omega)]
set_option maxHeartbeats 4000000 in
set_option maxRecDepth 100000 in
theorem ws_world {G : mG} (hext : mext G = []) {H : Heap} {x0 x1 x2 x3 x4 x5 x6 x7 x8 x9 x10 x11 x12 x13 x14 x15 x16 x17 x18 x19 x20 x21 x22 x23 x24 x25 x26 x27 x28 x29 x30 : Nat} (g0 : G.2.1 0 = x0) (g1 : G.2.1 1 = x1) (g2 : G.2.1 2 = x2) (g3 : G.2.1 3 = x3) (g4 : G.2.1 4 = x4) (g5 : G.2.1 5 = x5) (g6 : G.2.1 6 = x6) (g7 : G.2.1 7 = x7) (g8 : G.2.1 8 = x8) (g9 : G.2.1 9 = x9) (g10 : G.2.1 10 = x10) (g11 : G.2.1 11 = x11) (g12 : G.2.1 12 = x12) (g13 : G.2.1 13 = x13) (g14 : G.2.1 14 = x14) (g15 : G.2.1 15 = x15) (g16 : G.2.1 16 = x16) (g17 : G.2.1 17 = x17) (g18 : G.2.1 18 = x18) (g19 : G.2.1 19 = x19) (g20 : G.2.1 20 = x20) (g21 : G.2.1 21 = x21) (g22 : G.2.1 22 = x22) (g23 : G.2.1 23 = x23) (g24 : G.2.1 24 = x24) (g25 : G.2.1 25 = x25) (g26 : G.2.1 26 = x26) (g27 : G.2.1 27 = x27) (g28 : G.2.1 28 = x28) (g29 : G.2.1 29 = x29) (g30 : G.2.1 30 = x30) (hP : va_P G.1 vwCl [(x0, .inr (7, [.ref x1, .ref x3, .ref x5, .ref x7, .ref x9, .ref x13, .ref x15, .ref x21, .ref x25])), (x1, .inr (2, [.ref x2])), zP G x2, (x3, .inr (2, [.ref x4])), zP G x4, (x5, .inr (2, [.ref x6])), zP G x6, (x7, .inr (0, [.ref x8, .int 0])), zI G 0 672 x8, (x9, .inr (3, [.ref x10, .int 0, .ref x11, .int 0, .int 0, .int 0, .int 0])), zI G 0 80 x10, (x11, .inr (2, [.ref x12])), zP G x12, (x13, .inr (1, [.ref x14])), zI G 1 64 x14, (x15, .inr (6, [.ref x16, .ref x17, .ref x18, .ref x19, .ref x20, .ref x1, .ref x1, .int 0])), zI G 0 64 x16, zI G 0 64 x17, zI G 0 64 x18, zI G 0 64 x19, zI G 0 64 x20, (x21, .inr (4, [.ref x22, .ref x23, .ref x24, .int 0])), zI G 0 64 x22, zJ G 64 x23, zI G 0 64 x24, (x25, .inr (5, [.ref x26, .ref x27, .ref x28, .ref x29, .ref x30, .ref x1, .ref x1, .int 0])), zI G 0 64 x26, zI G 0 64 x27, zI G 0 64 x28, zI G 0 64 x29, zI G 0 64 x30] H) : va_P G.1 vwCl (mws G mw0) H := by
  intro k q hk
  obtain ⟨lay, h1, rfl⟩ := mws_of hk
  unfold mlaysG at h1
  rw [hext, List.append_nil] at h1
  have h46 : k < 31 := (List.getElem?_eq_some_iff.mp h1).1
  rcases (show k = 0 ∨ k = 1 ∨ k = 2 ∨ k = 3 ∨ k = 4 ∨ k = 5 ∨ k = 6 ∨ k = 7 ∨ k = 8 ∨ k = 9 ∨ k = 10 ∨ k = 11 ∨ k = 12 ∨ k = 13 ∨ k = 14 ∨ k = 15 ∨ k = 16 ∨ k = 17 ∨ k = 18 ∨ k = 19 ∨ k = 20 ∨ k = 21 ∨ k = 22 ∨ k = 23 ∨ k = 24 ∨ k = 25 ∨ k = 26 ∨ k = 27 ∨ k = 28 ∨ k = 29 ∨ k = 30 by omega) with rfl | rfl | rfl | rfl | rfl | rfl | rfl | rfl | rfl | rfl | rfl | rfl | rfl | rfl | rfl | rfl | rfl | rfl | rfl | rfl | rfl | rfl | rfl | rfl | rfl | rfl | rfl | rfl | rfl | rfl | rfl
  · obtain rfl : lay = .inl (7, [sS 1, sS 3, sS 5, sS 7, sS 9, sS 13, sS 15, sS 21, sS 25]) := (Option.some.inj h1).symm
    refine at_ob g0 (hP 0 _ rfl) ?_
    simp only [flds, mfv, mtr, sS, Nat.zero_add, Nat.reduceAdd, g1, g3, g5, g7, g9, g13, g15, g21, g25]
  · obtain rfl : lay = .inl (2, [sS 2]) := (Option.some.inj h1).symm
    refine at_ob g1 (hP 1 _ rfl) ?_
    simp only [flds, mfv, mtr, sS, Nat.zero_add, Nat.reduceAdd, g2]
  · obtain rfl : lay = .inr (0, 56) := (Option.some.inj h1).symm
    exact at_zP g2 (by decide) (hP 2 _ rfl)
  · obtain rfl : lay = .inl (2, [sS 4]) := (Option.some.inj h1).symm
    refine at_ob g3 (hP 3 _ rfl) ?_
    simp only [flds, mfv, mtr, sS, Nat.zero_add, Nat.reduceAdd, g4]
  · obtain rfl : lay = .inr (0, 56) := (Option.some.inj h1).symm
    exact at_zP g4 (by decide) (hP 4 _ rfl)
  · obtain rfl : lay = .inl (2, [sS 6]) := (Option.some.inj h1).symm
    refine at_ob g5 (hP 5 _ rfl) ?_
    simp only [flds, mfv, mtr, sS, Nat.zero_add, Nat.reduceAdd, g6]
  · obtain rfl : lay = .inr (0, 56) := (Option.some.inj h1).symm
    exact at_zP g6 (by decide) (hP 6 _ rfl)
  · obtain rfl : lay = .inl (0, [sS 8, none]) := (Option.some.inj h1).symm
    refine at_ob g7 (hP 7 _ rfl) ?_
    simp only [flds, mfv, mtr, sS, Nat.zero_add, Nat.reduceAdd, g8, mw0_z (a := 7) (by decide) (by decide)]
    rfl
  · obtain rfl : lay = .inr (0, 672) := (Option.some.inj h1).symm
    exact at_zI g8 (by decide) (mw0_z (by decide) (by decide)) (hP 8 _ rfl)
  · obtain rfl : lay = .inl (3, [sS 10, none, sS 11, none, none, none, none]) := (Option.some.inj h1).symm
    refine at_ob g9 (hP 9 _ rfl) ?_
    simp only [flds, mfv, mtr, sS, Nat.zero_add, Nat.reduceAdd, g10, mw0_z (a := 9) (by decide) (by decide), g11]
    rfl
  · obtain rfl : lay = .inr (0, 80) := (Option.some.inj h1).symm
    exact at_zI g10 (by decide) (mw0_z (by decide) (by decide)) (hP 10 _ rfl)
  · obtain rfl : lay = .inl (2, [sS 12]) := (Option.some.inj h1).symm
    refine at_ob g11 (hP 11 _ rfl) ?_
    simp only [flds, mfv, mtr, sS, Nat.zero_add, Nat.reduceAdd, g12]
  · obtain rfl : lay = .inr (0, 56) := (Option.some.inj h1).symm
    exact at_zP g12 (by decide) (hP 12 _ rfl)
  · obtain rfl : lay = .inl (1, [sS 14]) := (Option.some.inj h1).symm
    refine at_ob g13 (hP 13 _ rfl) ?_
    simp only [flds, mfv, mtr, sS, Nat.zero_add, Nat.reduceAdd, g14]
  · obtain rfl : lay = .inr (1, 64) := (Option.some.inj h1).symm
    exact at_zI g14 (by decide) (mw0_z (by decide) (by decide)) (hP 14 _ rfl)
  · obtain rfl : lay = .inl (6, [sS 16, sS 17, sS 18, sS 19, sS 20, some none, some none, none]) := (Option.some.inj h1).symm
    refine at_ob g15 (hP 15 _ rfl) ?_
    simp only [flds, mfv, mtr, sS, Nat.zero_add, Nat.reduceAdd, g16, g17, g18, g19, g20, mw0_5 (a := 15) (by decide) (k := 5) (by decide), mw0_5 (a := 15) (by decide) (k := 6) (by decide), mw0_7 (a := 15) (by decide), show (1 : Int).toNat = 1 from rfl, g1]
    rfl
  · obtain rfl : lay = .inr (0, 64) := (Option.some.inj h1).symm
    exact at_zI g16 (by decide) (mw0_z (by decide) (by decide)) (hP 16 _ rfl)
  · obtain rfl : lay = .inr (0, 64) := (Option.some.inj h1).symm
    exact at_zI g17 (by decide) (mw0_z (by decide) (by decide)) (hP 17 _ rfl)
  · obtain rfl : lay = .inr (0, 64) := (Option.some.inj h1).symm
    exact at_zI g18 (by decide) (mw0_z (by decide) (by decide)) (hP 18 _ rfl)
  · obtain rfl : lay = .inr (0, 64) := (Option.some.inj h1).symm
    exact at_zI g19 (by decide) (mw0_z (by decide) (by decide)) (hP 19 _ rfl)
  · obtain rfl : lay = .inr (0, 64) := (Option.some.inj h1).symm
    exact at_zI g20 (by decide) (mw0_z (by decide) (by decide)) (hP 20 _ rfl)
  · obtain rfl : lay = .inl (4, [sS 22, sS 23, sS 24, none]) := (Option.some.inj h1).symm
    refine at_ob g21 (hP 21 _ rfl) ?_
    simp only [flds, mfv, mtr, sS, Nat.zero_add, Nat.reduceAdd, g22, g23, g24, mw0_z (a := 21) (by decide) (by decide)]
    rfl
  · obtain rfl : lay = .inr (0, 64) := (Option.some.inj h1).symm
    exact at_zI g22 (by decide) (mw0_z (by decide) (by decide)) (hP 22 _ rfl)
  · obtain rfl : lay = .inr (3, 64) := (Option.some.inj h1).symm
    exact at_zJ g23 (mw0_z (by decide) (by decide)) (hP 23 _ rfl)
  · obtain rfl : lay = .inr (0, 64) := (Option.some.inj h1).symm
    exact at_zI g24 (by decide) (mw0_z (by decide) (by decide)) (hP 24 _ rfl)
  · obtain rfl : lay = .inl (5, [sS 26, sS 27, sS 28, sS 29, sS 30, some none, some none, none]) := (Option.some.inj h1).symm
    refine at_ob g25 (hP 25 _ rfl) ?_
    simp only [flds, mfv, mtr, sS, Nat.zero_add, Nat.reduceAdd, g26, g27, g28, g29, g30, mw0_5 (a := 25) (by decide) (k := 5) (by decide), mw0_5 (a := 25) (by decide) (k := 6) (by decide), mw0_7 (a := 25) (by decide), show (1 : Int).toNat = 1 from rfl, g1]
    rfl
  · obtain rfl : lay = .inr (0, 64) := (Option.some.inj h1).symm
    exact at_zI g26 (by decide) (mw0_z (by decide) (by decide)) (hP 26 _ rfl)
  · obtain rfl : lay = .inr (0, 64) := (Option.some.inj h1).symm
    exact at_zI g27 (by decide) (mw0_z (by decide) (by decide)) (hP 27 _ rfl)
  · obtain rfl : lay = .inr (0, 64) := (Option.some.inj h1).symm
    exact at_zI g28 (by decide) (mw0_z (by decide) (by decide)) (hP 28 _ rfl)
  · obtain rfl : lay = .inr (0, 64) := (Option.some.inj h1).symm
    exact at_zI g29 (by decide) (mw0_z (by decide) (by decide)) (hP 29 _ rfl)
  · obtain rfl : lay = .inr (0, 64) := (Option.some.inj h1).symm
    exact at_zI g30 (by decide) (mw0_z (by decide) (by decide)) (hP 30 _ rfl)
theorem wi_27 : Cond.classLink RL 14 RX8 ∈ mgood := mgood_in (w := Cond.classLink RL 14 RX8) (List.mem_of_getElem? (i := 27) (by decide +kernel)) rfl
theorem wi_28 : Cond.instantiable RX8 9 ∈ mgood := mgood_in (w := Cond.instantiable RX8 9) (List.mem_of_getElem? (i := 28) (by decide +kernel)) rfl
theorem wi_14 : Cond.initialized RX8 ∈ mgood := mgood_in (w := Cond.initialized RX8) (List.mem_of_getElem? (i := 14) (by decide +kernel)) rfl
theorem wi_29 : Cond.methodLink RL 84 yX8_init ∈ mgood := mgood_in (w := Cond.methodLink RL 84 yX8_init) (List.mem_of_getElem? (i := 29) (by decide +kernel)) rfl
theorem wi_30 : Cond.instanceMethod yX8_init ∈ mgood := mgood_in (w := Cond.instanceMethod yX8_init) (List.mem_of_getElem? (i := 30) (by decide +kernel)) rfl
set_option maxHeartbeats 4000000 in
set_option maxRecDepth 100000 in
theorem make_list {p : Program} {l : Launch} {e : Env} {R : Room} {s : State} {m : MethodId} {args : Array Value} {below : List Frame} {meth : Method} {c : Code} {cc : ByteArray} {nL : Nat} {Gz : mG} {pc : Nat} {H : Heap} {locs : List Loc} {cells slots : Nat} {Q : State → Prop} {ls : Array Slot}
    (hx : p.tables.exec = Jvm.exec) (hb : c.code = cc) (hml : c.maxLocals = nL) (hown : s.vm.findClass RL = some m.cls) (ht : ∀ w ∈ mgood, w.before args s = true) (hN : ∀ q ∈ mnest, va_Nw q s) (hK : va_K Gz.1 vwCl (mtys Gz) s) (hS : va_S (fun q : Nat => s.heap.size ≤ q) s.heap H locs) (hsz : ls.size = nL)
    (hR : 6 ≤ R.frames ∧ 210 ≤ R.locals) (hc : cells + 31 ≤ R.cells) (hs : slots + 1915 ≤ R.slots)
    (d0 : decode cc pc = .ok (.new 14, 3)) (d1 : decode cc (pc + 3) = .ok (.dup, 1)) (d2 : decode cc (pc + 3 + 1) = .ok (.invokespecial 84, 3))
    (next : ∀ (x0 x1 x2 x3 x4 x5 x6 x7 x8 x9 x10 x11 x12 x13 x14 x15 x16 x17 x18 x19 x20 x21 x22 x23 x24 x25 x26 x27 x28 x29 x30 : Nat) (H1 : Heap) (locs1 : List Loc), va_P Gz.1 vwCl [(x0, .inr (7, [.ref x1, .ref x3, .ref x5, .ref x7, .ref x9, .ref x13, .ref x15, .ref x21, .ref x25])), (x1, .inr (2, [.ref x2])), zP Gz x2, (x3, .inr (2, [.ref x4])), zP Gz x4, (x5, .inr (2, [.ref x6])), zP Gz x6, (x7, .inr (0, [.ref x8, .int 0])), zI Gz 0 672 x8, (x9, .inr (3, [.ref x10, .int 0, .ref x11, .int 0, .int 0, .int 0, .int 0])), zI Gz 0 80 x10, (x11, .inr (2, [.ref x12])), zP Gz x12, (x13, .inr (1, [.ref x14])), zI Gz 1 64 x14, (x15, .inr (6, [.ref x16, .ref x17, .ref x18, .ref x19, .ref x20, .ref x1, .ref x1, .int 0])), zI Gz 0 64 x16, zI Gz 0 64 x17, zI Gz 0 64 x18, zI Gz 0 64 x19, zI Gz 0 64 x20, (x21, .inr (4, [.ref x22, .ref x23, .ref x24, .int 0])), zI Gz 0 64 x22, zJ Gz 64 x23, zI Gz 0 64 x24, (x25, .inr (5, [.ref x26, .ref x27, .ref x28, .ref x29, .ref x30, .ref x1, .ref x1, .int 0])), zI Gz 0 64 x26, zI Gz 0 64 x27, zI Gz 0 64 x28, zI Gz 0 64 x29, zI Gz 0 64 x30] H1 → va_D (fun q : Nat => s.heap.size ≤ q) [(x0, .inr (7, [.ref x1, .ref x3, .ref x5, .ref x7, .ref x9, .ref x13, .ref x15, .ref x21, .ref x25])), (x1, .inr (2, [.ref x2])), zP Gz x2, (x3, .inr (2, [.ref x4])), zP Gz x4, (x5, .inr (2, [.ref x6])), zP Gz x6, (x7, .inr (0, [.ref x8, .int 0])), zI Gz 0 672 x8, (x9, .inr (3, [.ref x10, .int 0, .ref x11, .int 0, .int 0, .int 0, .int 0])), zI Gz 0 80 x10, (x11, .inr (2, [.ref x12])), zP Gz x12, (x13, .inr (1, [.ref x14])), zI Gz 1 64 x14, (x15, .inr (6, [.ref x16, .ref x17, .ref x18, .ref x19, .ref x20, .ref x1, .ref x1, .int 0])), zI Gz 0 64 x16, zI Gz 0 64 x17, zI Gz 0 64 x18, zI Gz 0 64 x19, zI Gz 0 64 x20, (x21, .inr (4, [.ref x22, .ref x23, .ref x24, .int 0])), zI Gz 0 64 x22, zJ Gz 64 x23, zI Gz 0 64 x24, (x25, .inr (5, [.ref x26, .ref x27, .ref x28, .ref x29, .ref x30, .ref x1, .ref x1, .int 0])), zI Gz 0 64 x26, zI Gz 0 64 x27, zI Gz 0 64 x28, zI Gz 0 64 x29, zI Gz 0 64 x30] → va_S (fun q : Nat => s.heap.size ≤ q) s.heap H1 locs1 → W p l e R s m args below meth c H1 locs1 (cells + 31) (slots + 1915) Q (F0 m (pc + 3 + 1 + 3) ls [.ref x0])) :
    W p l e R s m args below meth c H locs cells slots Q (F0 m pc ls []) := by
  have hA : ∀ q : Nat, s.heap.size ≤ q → (fun q : Nat => s.heap.size ≤ q) q := fun _ h => h
  have hP : va_P Gz.1 vwCl [] H := fun k q h => by simp at h
  have hD : va_D (fun q : Nat => s.heap.size ≤ q) [] := ⟨fun i j p q h => by simp at h, fun k q h => by simp at h⟩
  refine va_new (ci := 7) (fs := [.null, .null, .null, .null, .null, .null, .null, .null, .null]) (C := RX8) (T := TX8) (N := 9) hx hb ht uiX8 tyX8 tyX8_ok hown (ht _ wi_27) (ht _ wi_28) (ht _ wi_14) hK hP hD hS hA rfl (fun j hj => by rcases (show j = 0 ∨ j = 1 ∨ j = 2 ∨ j = 3 ∨ j = 4 ∨ j = 5 ∨ j = 6 ∨ j = 7 ∨ j = 8 by omega) with rfl | rfl | rfl | rfl | rfl | rfl | rfl | rfl | rfl <;> rfl) (by omega) (by omega) d0 (fun x0 H hP hD hS => ?_)
  have hP : va_P Gz.1 vwCl [(x0, .inr (7, [.null, .null, .null, .null, .null, .null, .null, .null, .null]))] H := hP
  have hD : va_D (fun q : Nat => s.heap.size ≤ q) [(x0, .inr (7, [.null, .null, .null, .null, .null, .null, .null, .null, .null]))] := hD
  refine lv_dup hx hb d1 rfl ?_
  have hPc := hP.sub (ws' := [(x0, .inr (7, [.null, .null, .null, .null, .null, .null, .null, .null, .null]))]) [0] rfl
  have hDc := hD.sub (ws' := [(x0, .inr (7, [.null, .null, .null, .null, .null, .null, .null, .null, .null]))]) [0] (by decide) rfl
  have hFc := va_free (wc := [(x0, .inr (7, [.null, .null, .null, .null, .null, .null, .null, .null, .null]))]) hD hS hA [0] rfl
  refine va_callv (va_runI (own := RL) (As := []) (rest := [.ref x0]) ⟨hx, hb, hml, hown, ht⟩ (c_X8_init l Gz x0 H.size) (cwI 0 ht (mgoodIn _ _ _ _ kc_X8_init) rfl rfl rfl (ht _ wi_14) (ht _ wi_29) (ht _ wi_30) rfl (by decide +kernel) ⟨hR.1, hR.2⟩) ⟨cblind Gz _ _ _, fun U hU hW => ⟨rfl, by rw [hU], by rw [hU]; exact hPc, va_K.moved hW.alike hK, hDc.weaken (fun _ _ _ _ => trivial), fun q hq => mnest_warm hq hW (hN q hq)⟩⟩ rfl rfl hsz rfl (lv_room (Nat.le_of_ble_eq_true rfl)) d2 ⟨by omega, by omega⟩) hS (fun q _ h => hFc q h) hFc (fun u t H1 locs ht1 hvm hw hB hz1 hk1 hS => ?_)
  obtain ⟨x1, x2, x3, x4, x5, x6, x7, x8, x9, x10, x11, x12, x13, x14, x15, x16, x17, x18, x19, x20, x21, x22, x23, x24, x25, x26, x27, x28, x29, x30, hP1, hD1⟩ := hB
  rw [ht1] at hP1
  obtain ⟨hP, hD⟩ := va_join (wr := []) (w1 := [(x0, .inr (7, [.ref x1, .ref x3, .ref x5, .ref x7, .ref x9, .ref x13, .ref x15, .ref x21, .ref x25])), (x1, .inr (2, [.ref x2])), zP Gz x2, (x3, .inr (2, [.ref x4])), zP Gz x4, (x5, .inr (2, [.ref x6])), zP Gz x6, (x7, .inr (0, [.ref x8, .int 0])), zI Gz 0 672 x8, (x9, .inr (3, [.ref x10, .int 0, .ref x11, .int 0, .int 0, .int 0, .int 0])), zI Gz 0 80 x10, (x11, .inr (2, [.ref x12])), zP Gz x12, (x13, .inr (1, [.ref x14])), zI Gz 1 64 x14, (x15, .inr (6, [.ref x16, .ref x17, .ref x18, .ref x19, .ref x20, .ref x1, .ref x1, .int 0])), zI Gz 0 64 x16, zI Gz 0 64 x17, zI Gz 0 64 x18, zI Gz 0 64 x19, zI Gz 0 64 x20, (x21, .inr (4, [.ref x22, .ref x23, .ref x24, .int 0])), zI Gz 0 64 x22, zJ Gz 64 x23, zI Gz 0 64 x24, (x25, .inr (5, [.ref x26, .ref x27, .ref x28, .ref x29, .ref x30, .ref x1, .ref x1, .int 0])), zI Gz 0 64 x26, zI Gz 0 64 x27, zI Gz 0 64 x28, zI Gz 0 64 x29, zI Gz 0 64 x30]) hP hD [0] [] rfl rfl (by decide) (by decide) hk1 hFc hP1 hD1
  generalize H1 = H at hP hS ⊢
  have hP : va_P Gz.1 vwCl [(x0, .inr (7, [.ref x1, .ref x3, .ref x5, .ref x7, .ref x9, .ref x13, .ref x15, .ref x21, .ref x25])), (x1, .inr (2, [.ref x2])), zP Gz x2, (x3, .inr (2, [.ref x4])), zP Gz x4, (x5, .inr (2, [.ref x6])), zP Gz x6, (x7, .inr (0, [.ref x8, .int 0])), zI Gz 0 672 x8, (x9, .inr (3, [.ref x10, .int 0, .ref x11, .int 0, .int 0, .int 0, .int 0])), zI Gz 0 80 x10, (x11, .inr (2, [.ref x12])), zP Gz x12, (x13, .inr (1, [.ref x14])), zI Gz 1 64 x14, (x15, .inr (6, [.ref x16, .ref x17, .ref x18, .ref x19, .ref x20, .ref x1, .ref x1, .int 0])), zI Gz 0 64 x16, zI Gz 0 64 x17, zI Gz 0 64 x18, zI Gz 0 64 x19, zI Gz 0 64 x20, (x21, .inr (4, [.ref x22, .ref x23, .ref x24, .int 0])), zI Gz 0 64 x22, zJ Gz 64 x23, zI Gz 0 64 x24, (x25, .inr (5, [.ref x26, .ref x27, .ref x28, .ref x29, .ref x30, .ref x1, .ref x1, .int 0])), zI Gz 0 64 x26, zI Gz 0 64 x27, zI Gz 0 64 x28, zI Gz 0 64 x29, zI Gz 0 64 x30] H := hP
  have hD : va_D (fun q : Nat => s.heap.size ≤ q) [(x0, .inr (7, [.ref x1, .ref x3, .ref x5, .ref x7, .ref x9, .ref x13, .ref x15, .ref x21, .ref x25])), (x1, .inr (2, [.ref x2])), zP Gz x2, (x3, .inr (2, [.ref x4])), zP Gz x4, (x5, .inr (2, [.ref x6])), zP Gz x6, (x7, .inr (0, [.ref x8, .int 0])), zI Gz 0 672 x8, (x9, .inr (3, [.ref x10, .int 0, .ref x11, .int 0, .int 0, .int 0, .int 0])), zI Gz 0 80 x10, (x11, .inr (2, [.ref x12])), zP Gz x12, (x13, .inr (1, [.ref x14])), zI Gz 1 64 x14, (x15, .inr (6, [.ref x16, .ref x17, .ref x18, .ref x19, .ref x20, .ref x1, .ref x1, .int 0])), zI Gz 0 64 x16, zI Gz 0 64 x17, zI Gz 0 64 x18, zI Gz 0 64 x19, zI Gz 0 64 x20, (x21, .inr (4, [.ref x22, .ref x23, .ref x24, .int 0])), zI Gz 0 64 x22, zJ Gz 64 x23, zI Gz 0 64 x24, (x25, .inr (5, [.ref x26, .ref x27, .ref x28, .ref x29, .ref x30, .ref x1, .ref x1, .int 0])), zI Gz 0 64 x26, zI Gz 0 64 x27, zI Gz 0 64 x28, zI Gz 0 64 x29, zI Gz 0 64 x30] := hD
  have hP := hP.sub (ws' := [(x0, .inr (7, [.ref x1, .ref x3, .ref x5, .ref x7, .ref x9, .ref x13, .ref x15, .ref x21, .ref x25])), (x1, .inr (2, [.ref x2])), zP Gz x2, (x3, .inr (2, [.ref x4])), zP Gz x4, (x5, .inr (2, [.ref x6])), zP Gz x6, (x7, .inr (0, [.ref x8, .int 0])), zI Gz 0 672 x8, (x9, .inr (3, [.ref x10, .int 0, .ref x11, .int 0, .int 0, .int 0, .int 0])), zI Gz 0 80 x10, (x11, .inr (2, [.ref x12])), zP Gz x12, (x13, .inr (1, [.ref x14])), zI Gz 1 64 x14, (x15, .inr (6, [.ref x16, .ref x17, .ref x18, .ref x19, .ref x20, .ref x1, .ref x1, .int 0])), zI Gz 0 64 x16, zI Gz 0 64 x17, zI Gz 0 64 x18, zI Gz 0 64 x19, zI Gz 0 64 x20, (x21, .inr (4, [.ref x22, .ref x23, .ref x24, .int 0])), zI Gz 0 64 x22, zJ Gz 64 x23, zI Gz 0 64 x24, (x25, .inr (5, [.ref x26, .ref x27, .ref x28, .ref x29, .ref x30, .ref x1, .ref x1, .int 0])), zI Gz 0 64 x26, zI Gz 0 64 x27, zI Gz 0 64 x28, zI Gz 0 64 x29, zI Gz 0 64 x30]) [0, 1, 2, 3, 4, 5, 6, 7, 8, 9, 10, 11, 12, 13, 14, 15, 16, 17, 18, 19, 20, 21, 22, 23, 24, 25, 26, 27, 28, 29, 30] rfl
  have hD := hD.sub (ws' := [(x0, .inr (7, [.ref x1, .ref x3, .ref x5, .ref x7, .ref x9, .ref x13, .ref x15, .ref x21, .ref x25])), (x1, .inr (2, [.ref x2])), zP Gz x2, (x3, .inr (2, [.ref x4])), zP Gz x4, (x5, .inr (2, [.ref x6])), zP Gz x6, (x7, .inr (0, [.ref x8, .int 0])), zI Gz 0 672 x8, (x9, .inr (3, [.ref x10, .int 0, .ref x11, .int 0, .int 0, .int 0, .int 0])), zI Gz 0 80 x10, (x11, .inr (2, [.ref x12])), zP Gz x12, (x13, .inr (1, [.ref x14])), zI Gz 1 64 x14, (x15, .inr (6, [.ref x16, .ref x17, .ref x18, .ref x19, .ref x20, .ref x1, .ref x1, .int 0])), zI Gz 0 64 x16, zI Gz 0 64 x17, zI Gz 0 64 x18, zI Gz 0 64 x19, zI Gz 0 64 x20, (x21, .inr (4, [.ref x22, .ref x23, .ref x24, .int 0])), zI Gz 0 64 x22, zJ Gz 64 x23, zI Gz 0 64 x24, (x25, .inr (5, [.ref x26, .ref x27, .ref x28, .ref x29, .ref x30, .ref x1, .ref x1, .int 0])), zI Gz 0 64 x26, zI Gz 0 64 x27, zI Gz 0 64 x28, zI Gz 0 64 x29, zI Gz 0 64 x30]) [0, 1, 2, 3, 4, 5, 6, 7, 8, 9, 10, 11, 12, 13, 14, 15, 16, 17, 18, 19, 20, 21, 22, 23, 24, 25, 26, 27, 28, 29, 30] (by decide) rfl
  refine W.widen (k := cells + 31) (n := slots + 1915) (by omega) (by omega) ?_
  exact next x0 x1 x2 x3 x4 x5 x6 x7 x8 x9 x10 x11 x12 x13 x14 x15 x16 x17 x18 x19 x20 x21 x22 x23 x24 x25 x26 x27 x28 x29 x30 H locs hP hD hS
set_option maxHeartbeats 4000000 in
set_option maxRecDepth 100000 in
theorem make_obj {p : Program} {l : Launch} {e : Env} {R : Room} {s : State} {m : MethodId} {args : Array Value} {below : List Frame} {meth : Method} {c : Code} {cc : ByteArray} {nL : Nat} {Gz : mG} {pc : Nat} {H : Heap} {locs : List Loc} {cells slots : Nat} {Q : State → Prop} {ls : Array Slot}
    (hx : p.tables.exec = Jvm.exec) (hb : c.code = cc) (hml : c.maxLocals = nL) (hown : s.vm.findClass RL = some m.cls) (ht : ∀ w ∈ mgood, w.before args s = true) (hN : ∀ q ∈ mnest, va_Nw q s) (hK : va_K Gz.1 vwCl (mtys Gz) s) (hS : va_S (fun q : Nat => s.heap.size ≤ q) s.heap H locs) (hsz : ls.size = nL)
    (hR : 6 ≤ R.frames ∧ 210 ≤ R.locals) (hc : cells + 31 ≤ R.cells) (hs : slots + 1915 ≤ R.slots)
    (d0 : decode cc pc = .ok (.new 14, 3)) (d1 : decode cc (pc + 3) = .ok (.dup, 1)) (d2 : decode cc (pc + 3 + 1) = .ok (.invokespecial 84, 3))
    (next : ∀ (G : mG) (H1 : Heap) (locs1 : List Loc), G.1 = Gz.1 → G.2.2 = (Gz.2.2.1, Gz.2.2.2.1, Gz.2.2.2.2.1, Gz.2.2.2.2.2.1, []) → va_P G.1 vwCl (mws G mw0) H1 → va_D (fun q : Nat => s.heap.size ≤ q) (mws G mw0) → va_S (fun q : Nat => s.heap.size ≤ q) s.heap H1 locs1 → W p l e R s m args below meth c H1 locs1 (cells + 31) (slots + 1915) Q (F0 m (pc + 3 + 1 + 3) ls [.ref (G.2.1 0)])) :
    W p l e R s m args below meth c H locs cells slots Q (F0 m pc ls []) := by
  refine make_list hx hb hml hown ht hN hK hS hsz hR hc hs d0 d1 d2 (fun x0 x1 x2 x3 x4 x5 x6 x7 x8 x9 x10 x11 x12 x13 x14 x15 x16 x17 x18 x19 x20 x21 x22 x23 x24 x25 x26 x27 x28 x29 x30 H locs hP hD hS => ?_)
  have hfst : ([(x0, .inr (7, [.ref x1, .ref x3, .ref x5, .ref x7, .ref x9, .ref x13, .ref x15, .ref x21, .ref x25])), (x1, .inr (2, [.ref x2])), zP Gz x2, (x3, .inr (2, [.ref x4])), zP Gz x4, (x5, .inr (2, [.ref x6])), zP Gz x6, (x7, .inr (0, [.ref x8, .int 0])), zI Gz 0 672 x8, (x9, .inr (3, [.ref x10, .int 0, .ref x11, .int 0, .int 0, .int 0, .int 0])), zI Gz 0 80 x10, (x11, .inr (2, [.ref x12])), zP Gz x12, (x13, .inr (1, [.ref x14])), zI Gz 1 64 x14, (x15, .inr (6, [.ref x16, .ref x17, .ref x18, .ref x19, .ref x20, .ref x1, .ref x1, .int 0])), zI Gz 0 64 x16, zI Gz 0 64 x17, zI Gz 0 64 x18, zI Gz 0 64 x19, zI Gz 0 64 x20, (x21, .inr (4, [.ref x22, .ref x23, .ref x24, .int 0])), zI Gz 0 64 x22, zJ Gz 64 x23, zI Gz 0 64 x24, (x25, .inr (5, [.ref x26, .ref x27, .ref x28, .ref x29, .ref x30, .ref x1, .ref x1, .int 0])), zI Gz 0 64 x26, zI Gz 0 64 x27, zI Gz 0 64 x28, zI Gz 0 64 x29, zI Gz 0 64 x30] : va_W).map Prod.fst = [x0, x1, x2, x3, x4, x5, x6, x7, x8, x9, x10, x11, x12, x13, x14, x15, x16, x17, x18, x19, x20, x21, x22, x23, x24, x25, x26, x27, x28, x29, x30] := rfl
  obtain ⟨G, hG⟩ : ∃ G : mG, G = (Gz.1, (fun i => [x0, x1, x2, x3, x4, x5, x6, x7, x8, x9, x10, x11, x12, x13, x14, x15, x16, x17, x18, x19, x20, x21, x22, x23, x24, x25, x26, x27, x28, x29, x30].getD i 0), Gz.2.2.1, Gz.2.2.2.1, Gz.2.2.2.2.1, Gz.2.2.2.2.2.1, []) := ⟨_, rfl⟩
  have hext : mext G = [] := by rw [hG]
  have hPG : va_P G.1 vwCl [(x0, .inr (7, [.ref x1, .ref x3, .ref x5, .ref x7, .ref x9, .ref x13, .ref x15, .ref x21, .ref x25])), (x1, .inr (2, [.ref x2])), zP G x2, (x3, .inr (2, [.ref x4])), zP G x4, (x5, .inr (2, [.ref x6])), zP G x6, (x7, .inr (0, [.ref x8, .int 0])), zI G 0 672 x8, (x9, .inr (3, [.ref x10, .int 0, .ref x11, .int 0, .int 0, .int 0, .int 0])), zI G 0 80 x10, (x11, .inr (2, [.ref x12])), zP G x12, (x13, .inr (1, [.ref x14])), zI G 1 64 x14, (x15, .inr (6, [.ref x16, .ref x17, .ref x18, .ref x19, .ref x20, .ref x1, .ref x1, .int 0])), zI G 0 64 x16, zI G 0 64 x17, zI G 0 64 x18, zI G 0 64 x19, zI G 0 64 x20, (x21, .inr (4, [.ref x22, .ref x23, .ref x24, .int 0])), zI G 0 64 x22, zJ G 64 x23, zI G 0 64 x24, (x25, .inr (5, [.ref x26, .ref x27, .ref x28, .ref x29, .ref x30, .ref x1, .ref x1, .int 0])), zI G 0 64 x26, zI G 0 64 x27, zI G 0 64 x28, zI G 0 64 x29, zI G 0 64 x30] H := by rw [hG]; exact hP
  have hw : va_P G.1 vwCl (mws G mw0) H := ws_world hext (by rw [hG]; rfl) (by rw [hG]; rfl) (by rw [hG]; rfl) (by rw [hG]; rfl) (by rw [hG]; rfl) (by rw [hG]; rfl) (by rw [hG]; rfl) (by rw [hG]; rfl) (by rw [hG]; rfl) (by rw [hG]; rfl) (by rw [hG]; rfl) (by rw [hG]; rfl) (by rw [hG]; rfl) (by rw [hG]; rfl) (by rw [hG]; rfl) (by rw [hG]; rfl) (by rw [hG]; rfl) (by rw [hG]; rfl) (by rw [hG]; rfl) (by rw [hG]; rfl) (by rw [hG]; rfl) (by rw [hG]; rfl) (by rw [hG]; rfl) (by rw [hG]; rfl) (by rw [hG]; rfl) (by rw [hG]; rfl) (by rw [hG]; rfl) (by rw [hG]; rfl) (by rw [hG]; rfl) (by rw [hG]; rfl) (by rw [hG]; rfl) hPG
  have hat : ∀ i, i < 31 → ∃ pr : Nat × va_E, ([(x0, .inr (7, [.ref x1, .ref x3, .ref x5, .ref x7, .ref x9, .ref x13, .ref x15, .ref x21, .ref x25])), (x1, .inr (2, [.ref x2])), zP Gz x2, (x3, .inr (2, [.ref x4])), zP Gz x4, (x5, .inr (2, [.ref x6])), zP Gz x6, (x7, .inr (0, [.ref x8, .int 0])), zI Gz 0 672 x8, (x9, .inr (3, [.ref x10, .int 0, .ref x11, .int 0, .int 0, .int 0, .int 0])), zI Gz 0 80 x10, (x11, .inr (2, [.ref x12])), zP Gz x12, (x13, .inr (1, [.ref x14])), zI Gz 1 64 x14, (x15, .inr (6, [.ref x16, .ref x17, .ref x18, .ref x19, .ref x20, .ref x1, .ref x1, .int 0])), zI Gz 0 64 x16, zI Gz 0 64 x17, zI Gz 0 64 x18, zI Gz 0 64 x19, zI Gz 0 64 x20, (x21, .inr (4, [.ref x22, .ref x23, .ref x24, .int 0])), zI Gz 0 64 x22, zJ Gz 64 x23, zI Gz 0 64 x24, (x25, .inr (5, [.ref x26, .ref x27, .ref x28, .ref x29, .ref x30, .ref x1, .ref x1, .int 0])), zI Gz 0 64 x26, zI Gz 0 64 x27, zI Gz 0 64 x28, zI Gz 0 64 x29, zI Gz 0 64 x30] : va_W)[i]? = some pr ∧ pr.1 = G.2.1 i := by
    intro i hi
    have e1 : (([(x0, .inr (7, [.ref x1, .ref x3, .ref x5, .ref x7, .ref x9, .ref x13, .ref x15, .ref x21, .ref x25])), (x1, .inr (2, [.ref x2])), zP Gz x2, (x3, .inr (2, [.ref x4])), zP Gz x4, (x5, .inr (2, [.ref x6])), zP Gz x6, (x7, .inr (0, [.ref x8, .int 0])), zI Gz 0 672 x8, (x9, .inr (3, [.ref x10, .int 0, .ref x11, .int 0, .int 0, .int 0, .int 0])), zI Gz 0 80 x10, (x11, .inr (2, [.ref x12])), zP Gz x12, (x13, .inr (1, [.ref x14])), zI Gz 1 64 x14, (x15, .inr (6, [.ref x16, .ref x17, .ref x18, .ref x19, .ref x20, .ref x1, .ref x1, .int 0])), zI Gz 0 64 x16, zI Gz 0 64 x17, zI Gz 0 64 x18, zI Gz 0 64 x19, zI Gz 0 64 x20, (x21, .inr (4, [.ref x22, .ref x23, .ref x24, .int 0])), zI Gz 0 64 x22, zJ Gz 64 x23, zI Gz 0 64 x24, (x25, .inr (5, [.ref x26, .ref x27, .ref x28, .ref x29, .ref x30, .ref x1, .ref x1, .int 0])), zI Gz 0 64 x26, zI Gz 0 64 x27, zI Gz 0 64 x28, zI Gz 0 64 x29, zI Gz 0 64 x30] : va_W).map Prod.fst)[i]? = some (G.2.1 i) := by rw [hfst, hG]; exact getD_at hi
    rw [List.getElem?_map] at e1
    obtain ⟨pr, h1, h2⟩ := Option.map_eq_some_iff.mp e1
    exact ⟨pr, h1, h2⟩
  have hlen : (mlaysG G).length = 31 := by unfold mlaysG; rw [hext, List.append_nil]; rfl
  have hDD : va_D (fun q : Nat => s.heap.size ≤ q) (mws G mw0) := by
    refine ⟨fun i j pr qr hi hj hpq => ?_, fun k qr hk => ?_⟩
    · obtain ⟨li, h1, rfl⟩ := mws_of hi
      obtain ⟨lj, h2, rfl⟩ := mws_of hj
      have hi46 := (List.getElem?_eq_some_iff.mp h1).1
      have hj46 := (List.getElem?_eq_some_iff.mp h2).1
      rw [hlen] at hi46 hj46
      obtain ⟨p1, a1, b1⟩ := hat i hi46
      obtain ⟨p2, a2, b2⟩ := hat j hj46
      exact hD.1 i j p1 p2 a1 a2 (by rw [b1, b2]; exact hpq)
    · obtain ⟨lk, h1, rfl⟩ := mws_of hk
      have hk46 := (List.getElem?_eq_some_iff.mp h1).1
      rw [hlen] at hk46
      obtain ⟨p1, a1, b1⟩ := hat k hk46
      show s.heap.size ≤ G.2.1 k
      rw [← b1]; exact hD.2 k p1 a1
  have hn := next G H locs (by rw [hG]) (by rw [hG]) hw hDD hS
  rw [show G.2.1 0 = x0 by rw [hG]; rfl] at hn
  exact hn
