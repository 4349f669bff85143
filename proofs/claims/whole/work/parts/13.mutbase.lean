/-! methods that change cells they were handed: contract, body, call -/
def fb_PM (G : va_G) (cI cL : ClassId) (sz : Nat) (ws : va_W) (U : State) : Prop := U.heap.size = sz ∧ va_P G vwCl ws U.heap ∧ va_K G vwCl (fb_ty cI cL) U ∧ va_D (fun _ => True) ws ∧ fb_sx (va_A ws sz) U U.heap
theorem fb_PM.bl (G : va_G) (cI cL : ClassId) (sz : Nat) (ws : va_W) : fb_Bl (fb_PM G cI cL sz ws) := fun U g mk a h =>
  ⟨h.1, h.2.1, va_K.moved (u := U) (U := U.calling g mk a) (Vm.Alike.refl U.vm) h.2.2.1, h.2.2.2.1, h.2.2.2.2.calling⟩
def fb_MV (l : Launch) (y : MethodName) (ws : List Cond) (fr lo : Nat) (av : List Value) (G : va_G) (cI cL : ClassId) (sz : Nat) (w0 w1 : va_W) : Prop :=
  Met l y ws ({ frames := fr, cells := 0, slots := 0, locals := lo }) (va_Pc av (fb_PM G cI cL sz w0)) (va_Qv (fun _ : Unit => True) (fun _ t => va_P G vwCl w1 t.heap ∧ va_D (va_A w0 sz) w1) (va_A w0 sz)) 0 0 (va_A w0 sz)
def fb_MI (l : Launch) (y : MethodName) (ws : List Cond) (fr lo : Nat) (av : List Value) (G : va_G) (cI cL : ClassId) (sz : Nat) (w0 w1 : va_W) (v : Int32) : Prop :=
  Met l y ws ({ frames := fr, cells := 0, slots := 0, locals := lo }) (va_Pc av (fb_PM G cI cL sz w0)) (va_Qi (fun (r : Int32) (_ : Unit) => r = v) (fun _ t => va_P G vwCl w1 t.heap ∧ va_D (va_A w0 sz) w1) (va_A w0 sz)) 0 0 (va_A w0 sz)
section FBM
variable {p : Program} {l : Launch} {e : Env} {R : Room} {s : State} {m : MethodId} {args : Array Value} {below : List Frame} {meth : Method} {c : Code} {H : Heap} {locs : List Loc} {cells slots : Nat} {Q : State → Prop}
variable {cc bytes : ByteArray} {pc : Nat} {ls : Array Slot} {rest st0 : List Value} {nL maxL index n fr lo sz : Nat} {Ts ws ws' : List Cond} {own C : String} {y : MethodName} {ret : Option FieldType} {b : Addr} {As av : List Value} {v : Int32} {G : va_G} {cI cL : ClassId} {w0 w1 wa wc wr wz : va_W} {A : Nat → Prop}
theorem fb_mv_of (hy : plainName y.cls = true) (hw : ws = Cond.code y cc maxL ret :: ws') (hav : (lg_sl av).length ≤ maxL)
    (body : ∀ (p : Program) (e : Env) (s : State) (m : MethodId) (args : Array Value) (below : List Frame) (meth : Method) (c : Code) (A : Nat → Prop), p.tables.exec = Jvm.exec → c.code = cc → meth.sig.returnType = ret → c.maxLocals = maxL → meth.locks = false → (∀ w ∈ ws, w.before args s = true) → s.vm.findClass y.cls = some m.cls →
      va_P G vwCl w0 s.heap → va_K G vwCl (fb_ty cI cL) s → va_D A w0 → (∀ q, s.heap.size ≤ q → A q) → fb_sx A s s.heap →
      ∀ ls, lv_has ls maxL (lv_args 0 av) → W p l e ({ frames := fr, cells := 0, slots := 0, locals := lo }) s m args below meth c s.heap [] 0 0 (MQ below (va_Qv (fun _ : Unit => True) (fun _ t => va_P G vwCl w1 t.heap ∧ va_D A w1) A) args s 0 0 A) (F0 m 0 ls [])) : fb_MV l y ws fr lo av G cI cL sz w0 w1 := by
  refine Met.ofW (cc := cc) (maxL := maxL) (ret := ret) hy hw ?_
  intro p e s m args below meth c s₁ Bd hml hv
  obtain ⟨rfl, hsz, hP, hK, hD0, hX⟩ := hv
  subst hsz
  have hl := lv_entry av (n := maxL) hav
  rw [lg_entry_eq]
  exact body p e s m _ below meth c (va_A w0 s.heap.size) Bd.exec Bd.bytes Bd.returns hml Bd.notSynchronized (atoms_spec (ws := ws) Bd.pre) (findClass_of_methodNamed Bd.named) hP hK hD0.self (fun q h => Or.inr h) hX _ hl
theorem fb_mi_of (hy : plainName y.cls = true) (hw : ws = Cond.code y cc maxL ret :: ws') (hav : (lg_sl av).length ≤ maxL)
    (body : ∀ (p : Program) (e : Env) (s : State) (m : MethodId) (args : Array Value) (below : List Frame) (meth : Method) (c : Code) (A : Nat → Prop), p.tables.exec = Jvm.exec → c.code = cc → meth.sig.returnType = ret → c.maxLocals = maxL → meth.locks = false → (∀ w ∈ ws, w.before args s = true) → s.vm.findClass y.cls = some m.cls →
      va_P G vwCl w0 s.heap → va_K G vwCl (fb_ty cI cL) s → va_D A w0 → (∀ q, s.heap.size ≤ q → A q) → fb_sx A s s.heap →
      ∀ ls, lv_has ls maxL (lv_args 0 av) → W p l e ({ frames := fr, cells := 0, slots := 0, locals := lo }) s m args below meth c s.heap [] 0 0 (MQ below (va_Qi (fun (r : Int32) (_ : Unit) => r = v) (fun _ t => va_P G vwCl w1 t.heap ∧ va_D A w1) A) args s 0 0 A) (F0 m 0 ls [])) : fb_MI l y ws fr lo av G cI cL sz w0 w1 v := by
  refine Met.ofW (cc := cc) (maxL := maxL) (ret := ret) hy hw ?_
  intro p e s m args below meth c s₁ Bd hml hv
  obtain ⟨rfl, hsz, hP, hK, hD0, hX⟩ := hv
  subst hsz
  have hl := lv_entry av (n := maxL) hav
  rw [lg_entry_eq]
  exact body p e s m _ below meth c (va_A w0 s.heap.size) Bd.exec Bd.bytes Bd.returns hml Bd.notSynchronized (atoms_spec (ws := ws) Bd.pre) (findClass_of_methodNamed Bd.named) hP hK hD0.self (fun q h => Or.inr h) hX _ hl
theorem fb_fm_of {is : List Nat} {wa wb : va_W} (h : is.map (fun i => wa[i]?) = wb.map some) : is.filterMap (fun i => wa[i]?) = wb := by
  have e : is.filterMap (fun i => wa[i]?) = (is.map (fun i => wa[i]?)).filterMap id := by rw [List.filterMap_map]; rfl
  rw [e, h, List.filterMap_map]
  show wb.filterMap some = wb
  exact List.filterMap_some
theorem fb_mvV (S : CallFix p m c cc nL s args Ts own) (hM : fb_MV l y ws fr lo (.ref b :: As) G cI cL H.size wc w1) (hT : GoodIn Ts (wsV own index C y ws)) (hw : ws = Cond.code y bytes maxL ret :: ws')
    (hd : y.cls = C ∧ y.cls ≠ "java/lang/invoke/MethodHandle" ∧ y.cls ≠ "java/lang/invoke/VarHandle" ∧ (parseMethodDescriptor y.desc).map (fun d => d.parameters.length) = some n) (hR : fr + 1 ≤ R.frames ∧ 8 + (maxL + 11) + lo ≤ R.locals)
    (hrc : ∃ cellB : Cell, H[b]? = some cellB ∧ cellB.vm.isStatics = false ∧ s.vm.findClass C = some cellB.cls) (hP : va_P G vwCl wa H) (hK : va_K G vwCl (fb_ty cI cL) s) (hD : va_D A wa) (hS : va_S A s.heap H locs) (hA : ∀ q, s.heap.size ≤ q → A q) (hX : fb_sx A s s.heap)
    (isC isR pm : List Nat) (hC : isC.map (fun i => wa[i]?) = wc.map some) (hRr : isR.map (fun i => wa[i]?) = wr.map some) (hpm : pm.map (fun i => (wr ++ w1)[i]?) = wz.map some) (hnd : va_nd isC = true) (hnr : va_nd isR = true) (hnp : va_nd pm = true) (hdis : ∀ i ∈ isR, i ∉ isC)
    (hn : As.length = n) (hsz : ls.size = nL) (hst : st0 = As.reverse ++ .ref b :: rest) (hW : (rest.map fun v => v.category).sum ≤ 8) (hdg : decode cc pc = .ok (.invokevirtual index, 3)) (hcs : cells ≤ R.cells ∧ slots ≤ R.slots)
    (kk : ∀ (H1 : Heap) (locs1 : List Loc), va_P G vwCl wz H1 → va_D A wz → va_S A s.heap H1 locs1 → W p l e R s m args below meth c H1 locs1 cells slots Q (F0 m (pc + 3) ls rest)) : W p l e R s m args below meth c H locs cells slots Q (F0 m pc ls st0) := by
  have hPc := hP.sub isC (fb_fm_of hC)
  have hDc : va_D (fun _ => True) wc := (hD.sub isC hnd hC).weaken (fun _ _ _ _ => trivial)
  have hFc := va_free hD hS hA isC hC
  refine va_callv (va_runV S hM (cwV n S.2.2.2.2 hT hw rfl rfl hd hR) ⟨fb_blind (fb_PM.bl _ _ _ _ _), hrc, fun U hU hW => ⟨rfl, by rw [hU], by rw [hU]; exact hPc, va_K.moved hW.alike hK, hDc, by rw [hU]; exact ((hX.kept hS.2.1).narrow hFc).moved hW⟩⟩ rfl hn hsz hst (lv_room hW) hdg ⟨hcs.1, hcs.2⟩) hS (fun q _ h => hFc q h) hFc (fun u t H1 locs1 ht hvm _ hB hz1 hk1 hS1 => ?_)
  obtain ⟨hP1, hD1⟩ := hB
  rw [ht] at hP1
  obtain ⟨hP2, hD2⟩ := va_join hP hD isC isR hC hRr hnr hdis hk1 hFc hP1 hD1
  exact kk H1 locs1 (hP2.sub pm (fb_fm_of hpm)) (hD2.sub pm hnp hpm) hS1
theorem fb_miV (S : CallFix p m c cc nL s args Ts own) (hM : fb_MI l y ws fr lo (.ref b :: As) G cI cL H.size wc w1 v) (hT : GoodIn Ts (wsV own index C y ws)) (hw : ws = Cond.code y bytes maxL ret :: ws')
    (hd : y.cls = C ∧ y.cls ≠ "java/lang/invoke/MethodHandle" ∧ y.cls ≠ "java/lang/invoke/VarHandle" ∧ (parseMethodDescriptor y.desc).map (fun d => d.parameters.length) = some n) (hR : fr + 1 ≤ R.frames ∧ 8 + (maxL + 11) + lo ≤ R.locals)
    (hrc : ∃ cellB : Cell, H[b]? = some cellB ∧ cellB.vm.isStatics = false ∧ s.vm.findClass C = some cellB.cls) (hP : va_P G vwCl wa H) (hK : va_K G vwCl (fb_ty cI cL) s) (hD : va_D A wa) (hS : va_S A s.heap H locs) (hA : ∀ q, s.heap.size ≤ q → A q) (hX : fb_sx A s s.heap)
    (isC isR pm : List Nat) (hC : isC.map (fun i => wa[i]?) = wc.map some) (hRr : isR.map (fun i => wa[i]?) = wr.map some) (hpm : pm.map (fun i => (wr ++ w1)[i]?) = wz.map some) (hnd : va_nd isC = true) (hnr : va_nd isR = true) (hnp : va_nd pm = true) (hdis : ∀ i ∈ isR, i ∉ isC)
    (hn : As.length = n) (hsz : ls.size = nL) (hst : st0 = As.reverse ++ .ref b :: rest) (hW : (rest.map fun v => v.category).sum ≤ 8) (hdg : decode cc pc = .ok (.invokevirtual index, 3)) (hcs : cells ≤ R.cells ∧ slots ≤ R.slots)
    (kk : ∀ (H1 : Heap) (locs1 : List Loc), va_P G vwCl wz H1 → va_D A wz → va_S A s.heap H1 locs1 → W p l e R s m args below meth c H1 locs1 cells slots Q (F0 m (pc + 3) ls (.int v :: rest))) : W p l e R s m args below meth c H locs cells slots Q (F0 m pc ls st0) := by
  have hPc := hP.sub isC (fb_fm_of hC)
  have hDc : va_D (fun _ => True) wc := (hD.sub isC hnd hC).weaken (fun _ _ _ _ => trivial)
  have hFc := va_free hD hS hA isC hC
  refine va_calli (va_runV S hM (cwV n S.2.2.2.2 hT hw rfl rfl hd hR) ⟨fb_blind (fb_PM.bl _ _ _ _ _), hrc, fun U hU hW => ⟨rfl, by rw [hU], by rw [hU]; exact hPc, va_K.moved hW.alike hK, hDc, by rw [hU]; exact ((hX.kept hS.2.1).narrow hFc).moved hW⟩⟩ rfl hn hsz hst (lv_room hW) hdg ⟨hcs.1, hcs.2⟩) hS (fun q _ h => hFc q h) hFc (fun r u t H1 locs1 ht hvm hr hB hz1 hk1 hS1 => ?_)
  obtain ⟨hP1, hD1⟩ := hB
  rw [ht] at hP1
  subst hr
  obtain ⟨hP2, hD2⟩ := va_join hP hD isC isR hC hRr hnr hdis hk1 hFc hP1 hD1
  exact kk H1 locs1 (hP2.sub pm (fb_fm_of hpm)) (hD2.sub pm hnp hpm) hS1
end FBM
