/-! A static method called by the name of a class that inherits it -/
theorem mm_coldUp {Q : Unit → Pre} {E : CtlPost} {e : Env} {d : Bool} {acts : List Action} {s s₀ : State} {f : JFrame} {index ci n c : Nat} {m : MethodId} {dk ck : Class} {cf : ClassFile} {name desc : String} {via : Bool} (hs : s.topJava?.isSome) (hp : e.platform.polymorphicOnlyByInvokevirtual = true)
    (hW : s₀.WarmedH s.vm) (hE : s₀.MethodEntryUp e s.vm f.method.cls index c m ci) (h1 : s₀.vm.classes[f.method.cls]? = some dk) (h2 : dk.cf = some cf)
    (h3 : cf.constantPool[index]? = some (if via then .interfaceMethodref ci n else .methodref ci n)) (h4 : cf.constantPool.nameAndType? n = some (name, desc))
    (hck : s₀.vm.classes[c]? = some ck) (hnone : (ck.methods.any fun x => x.name == name && !x.isStatic && signaturePolymorphic ck x) = false) :
    wp (Op.invokestatic.sem index) Q E e d acts (s.setTop f) ↔ wp (Op.invokestatic.sem index) Q E e d acts ((s.setVm (s.vm.calledUp f.method.cls ci index c m)).setTop f) := by
  obtain ⟨hgc, hrc, hW₁, hgm⟩ := hE.classFirst
  obtain ⟨k₀, hk₀, he₀⟩ := hW.alike.2.2 _ _ h1
  obtain ⟨k₂, hk₂, he₂⟩ := hE.warmed.alike.2.2 _ _ h1
  obtain ⟨c₁, hc₁, hec₁⟩ := hW₁.alike.2.2 _ _ hck
  obtain ⟨c₂, hc₂, hec₂⟩ := hE.warmed.alike.2.2 _ _ hck
  have hb₀ := memberRef_ask_via (e := e) hk₀ (by rw [he₀]; exact h2) h3 h4
  have hb₂ := memberRef_ask_via (e := e) hk₂ (by rw [he₂]; exact h2) h3 h4
  have hn₁ : (c₁.methods.any fun x => x.name == name && !x.isStatic && signaturePolymorphic c₁ x) = false := by rw [hec₁]; exact hnone
  have hn₂ : (c₂.methods.any fun x => x.name == name && !x.isStatic && signaturePolymorphic c₂ x) = false := by rw [hec₂]; exact hnone
  have hs₁ : (s.setVm (s.vm.noted f.method.cls ci (.cls c))).topJava?.isSome := hs
  have hs₂ : (s.setVm (s.vm.calledUp f.method.cls ci index c m)).topJava?.isSome := hs
  have hL : ∀ {Q' : ClassId → Pre} {d' : Bool} {acts' : List Action}, wp (Jvm.resolveClassAt ci) Q' E e d' acts' (s.setTop f) ↔ Q' c d' acts' ((s.setVm (s.vm.noted f.method.cls ci (.cls c))).setTop f) :=
    Jvm.W.resolveClassAt_links (t := s.setTop f) (State.method?_setTop f hs) hgc
  have hM : ∀ {Q' : MethodId → Pre} {d' : Bool} {acts' : List Action}, wp (Jvm.resolveMethodAt index) Q' E e d' acts' ((s.setVm (s.vm.noted f.method.cls ci (.cls c))).setTop f) ↔ Q' m d' acts' ((s.setVm (s.vm.calledUp f.method.cls ci index c m)).setTop f) :=
    Jvm.W.resolveMethodAt_links (t := (s.setVm (s.vm.noted f.method.cls ci (.cls c))).setTop f) (State.method?_setTop f hs₁) hgm
  simp [Op.invokestatic.sem, hp, Seam.memberRefOf, State.method?_setTop f hs, State.method?_setTop f hs₂, hb₀, hb₂, hL, Jvm.W.resolveClassAt_ready (s := (s.setVm (s.vm.calledUp f.method.cls ci index c m)).setTop f) (State.method?_setTop f hs₂) hE.classReady,
    hc₁, hc₂, hn₁, hn₂, hM, Jvm.W.resolveMethodAt_ready (s := (s.setVm (s.vm.calledUp f.method.cls ci index c m)).setTop f) (State.method?_setTop f hs₂) hE.ready, -Array.any_eq_true]
section MSU
variable {p : Program} {l : Launch} {e : Env} {R : Room} {s : State} {m : MethodId} {args : Array Value} {below : List Frame} {meth : Method} {c : Code} {T : State} {locs : List Loc} {cells slots : Nat}
theorem mm_staticUp (X : Stand p l e R s m args below meth c T locs cells slots) (hexec : p.tables.exec = Jvm.exec)
    {own owner : String} {index : Nat} {x : MethodName} (hown : s.vm.findClass own = some m.cls) (hlink : (Cond.methodLink own index x).before args s = true)
    (hsame : (Cond.sameMethod x.cls owner x.name x.desc).before args s = true)
    {m' : MethodId} {meth' : Method} {k' : Class} (hn : s.methodNamed? ⟨owner, x.name, x.desc⟩ = some m') (hm' : s.vm.method? m' = some meth') (hstatic : meth'.isStatic = true)
    (hk' : s.vm.classes[m'.cls]? = some k') (hinit : k'.init = .initialized) (hpoly : signaturePolymorphic k' meth' = false)
    {g : JFrame} (hg : g.method = m) {argsL rest : List Value} (hlen : argsL.length = meth'.sig.parameters.length) (hstack : g.stack = argsL.reverse ++ rest)
    (hdg : decode c.code g.pc = .ok (.invokestatic index, 3)) :
    ∃ vm', Stand p l e R s m args below meth c (T.setVm vm') locs cells slots ∧
      ∀ target, (∀ acts, Steps p.tables e below (doInvoke e ((T.setVm vm').setTop { g with stack := rest }) acts m' argsL.toArray).1 target) → Steps p.tables e below (T.setTop g) target := by
  have hpl : e.platform.magicAccessors = ({} : Platform).magicAccessors := by rw [X.admits.platform]
  have hpv : e.platform.polymorphicOnlyByInvokevirtual = true := by rw [X.admits.platform]
  obtain ⟨cn, ck, r1, hcn, hck, hni, hf, hn1⟩ := Cond.sameMethod_found hsame
  cases hn.symm.trans hn1
  obtain ⟨ci, hl, hright⟩ := Cond.methodLink_specUp hown hcn hck hni hf hlink e.platform hpl (by rw [X.admits.platform])
  have hE : s.MethodEntryUp e T.vm m.cls index cn m' ci := State.methodEntryUp X.warmed hl hright
  obtain ⟨dk, cfile, nt, mname, mdesc, ck1, mk1, meth1, hd, hcf, hcp, hnt, -, -, hck1, -, hnopoly, -⟩ := hl.here
  cases hck.symm.trans hck1
  have alike := hE.warmed.alike
  obtain ⟨dk₂, hdk₂, hed₂⟩ := alike.2.2 _ _ hd
  obtain ⟨k₂, hk₂, he₂⟩ := alike.2.2 _ _ hk'
  obtain ⟨ck₂, hck₂, hec₂⟩ := alike.2.2 _ _ hck
  have hnone : (ck.methods.any fun y => y.name == mname && !y.isStatic && signaturePolymorphic ck y) = false := by simp [hnopoly]
  have hnone₂ : (ck₂.methods.any fun y => y.name == mname && !y.isStatic && signaturePolymorphic ck₂ y) = false := by rw [hec₂]; exact hnone
  refine ⟨T.vm.calledUp m.cls ci index cn m', X.noted hE.warmed, fun target hrest => ?_⟩
  subst hg
  jvm_step X.here [hexec, hdg, mm_coldUp (e := e) (s := T) (s₀ := s) (f := g) (via := false) X.here.top hpv X.warmed hE hd hcf (by simpa using hcp) hnt hck hnone,
    Op.invokestatic.wp_ready (e := e) (s := T.setVm (T.vm.calledUp g.method.cls ci index cn m')) (k := k₂) (meth := meth') (m := m') (args := argsL) (rest := rest) (f := g)
      X.here.top ⟨ci, mname, mdesc, false, cn, ck₂, memberRef_ask_via (e := e) (via := false) hdk₂ (by rw [hed₂]; exact hcf) (by simpa using hcp) hnt, hE.classReady, hck₂, hnone₂⟩ hE.ready hk₂
      (by show (T.vm.calledUp g.method.cls ci index cn m').method? m' = some meth'; rw [alike.method?]; exact hm') (by rw [he₂]; exact hpoly) hstatic (by rw [he₂]; exact hinit) hlen hstack]
  exact fun acts => hrest _
end MSU
def mcT (own : String) (idx : Nat) (x y : MethodName) (n : Nat) : Prop := Cond.methodLink own idx x ∈ mgood ∧ Cond.sameMethod x.cls y.cls x.name x.desc ∈ mgood ∧ (y = ⟨y.cls, x.name, x.desc⟩) ∧ Cond.static y ∈ mgood ∧ Cond.initialized y.cls ∈ mgood ∧ mcD y n
section MCALL2
variable {l : Launch} {G : mG} {K : mK} {d nL : Nat} {own : String} {cc : ByteArray} {ret : Option FieldType} {Q : Option mV → mW → Prop} {pc : Nat} {L : List (Option mV)} {st : List mV} {w : mW}
theorem wm_callT (hC : mC G K nL own cc ret) {k idx n mL' : Nat} {x y : MethodName} {cy : ByteArray} {r' : Option FieldType} {as S : List mV} {Q1 : Option mV → mW → Prop} (cs : mcT own idx x y n) (hcode : Cond.code y cy mL' r' ∈ mgood) (hM : Mx l G k y cy mL' r' as w Q1) (hn : as.length = n) (hd : k + 1 ≤ d ∧ mL' ≤ 19) (hst : S = as.reverse ++ st) (hroom : (st.map mcat).sum ≤ 8) (hdg : decode cc pc = .ok (.invokestatic idx, 3))
    (next : ∀ v w', Q1 v w' → Wm l G K d nL Q (pc + 3) L (v.toList ++ st) w') : Wm l G K d nL Q pc L S w := by
  subst hst
  intro H locs ls hP hD hS hh
  obtain ⟨c1, c2, c3, c4, c5, c6⟩ := cs
  have ht := hC.2.2.2.2.2.2.1
  have hbk : Back l (mRX d (mX K)) K.1 K.2.1 K.2.2.2.2.2.1 K.2.2.1 K.2.2.2.2.1 y 3 8 (PreOf (mRX d (mX K)) 0 0 _) (PostOf (mQ G Q1) 0 0 (mA G)) :=
    back_of (bytes := cy) (maxL := mL') (ret := r') hM (mblind as) rfl rfl (mroomR hd).1 (mroomR hd).2 (pay_in ht (mgoodIn y cy mL' r' hcode)) List.mem_cons_self (fun a' U hW => word_at hW (Or.inl (by first | rfl | simp [Cond.onTables, Cond.keeps, Cond.steady])) (ht _ c5))
  refine wm_after (st0 := (as.reverse ++ st).map (mtr G)) (a := (as.map (mtr G)).toArray) hC hD hS hh ?_ next
  intro T hT X
  have hcode' := ht _ hcode
  obtain ⟨mk, hnamed⟩ := Cond.code_named hcode'
  obtain ⟨methM, cM, hmethM, -, -, -, -, -, -, hsigM⟩ := Cond.code_spec hnamed hcode'
  have hstatic : methM.isStatic = true := Cond.static_spec hnamed hmethM (ht _ c4)
  obtain ⟨kP, hkP, hnP⟩ := className_of_methodNamed hnamed
  have hinitP : kP.init = .initialized := Cond.initialized_spec (findClass_of_methodNamed hnamed) hkP (ht _ c5)
  have hpoly : signaturePolymorphic kP methM = false := by
    have h1 : (kP.name == "java/lang/invoke/MethodHandle" || kP.name == "java/lang/invoke/VarHandle") = false := by
      rw [hnP]; simp [c6.1, c6.2.1]
    simp [signaturePolymorphic, h1]
  have hlen : (as.map (mtr G)).length = methM.sig.parameters.length := by
    have h2 := c6.2.2
    rw [hsigM] at h2
    simpa [hn] using (Option.some.inj h2).symm
  obtain ⟨vm₁, X₁, hstep₁⟩ := mm_staticUp X hC.1 hC.2.2.2.2.2.1 (ht _ c1) (ht _ c2) (by rw [← c3]; exact hnamed) hmethM hstatic hkP hinitP hpoly (g := F0 K.2.2.2.1 pc ls ((as.reverse ++ st).map (mtr G))) rfl (argsL := as.map (mtr G)) (rest := st.map (mtr G)) hlen (by simp) (by rw [hC.2.1]; exact hdg)
  obtain ⟨v, ⟨U', l2, cc2, s2⟩, X', ⟨g', mk', t, LL, e1, e2, hq, h1, hL, h2, h3⟩, hsteps⟩ := hbk K.2.2.2.1 K.2.2.2.2.2.2.1 K.2.2.2.2.2.2.2.1 ⟨T.setVm vm₁, locs, mXc K, mXn K⟩ { (F0 K.2.2.2.1 pc ls ((as.reverse ++ st).map (mtr G))) with stack := st.map (mtr G) } (.invokestatic idx) mk (as.map (mtr G)).toArray X₁ rfl (by rw [hC.2.2.1]; exact hh.1) (by rw [hC.2.1]; exact hdg) (mroom hroom _ _ _ _) (X₁.named hnamed) ⟨hC.2.2.2.2.2.2.2.2.2.1.1, hC.2.2.2.2.2.2.2.2.2.1.2, mpre hC hP hD as (T.setVm vm₁) hT X₁.warmed⟩
  dsimp only [Pt.U, Pt.locs, Pt.cells, Pt.slots] at X' e1 e2 h1 h2 h3 hsteps
  subst h1; subst h2; subst h3
  exact ⟨v, (T.setVm vm₁).calling g' mk' (as.map (mtr G)).toArray, t, U', LL, hT, X', hL, e1, e2, hq, fun target h => hstep₁ _ fun acts => by rw [doInvoke_state]; exact hsteps.trans h⟩
end MCALL2
