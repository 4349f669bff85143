/-! the law's own helpers: they call the face and catch what it throws -/
def fb_PH (G : va_G) (cI cL : ClassId) (sz : Nat) (ws : va_W) (U : State) : Prop := fb_PM G cI cL sz ws U ∧ fb_xx (va_A ws sz) U U.heap
theorem fb_PH.bl (G : va_G) (cI cL : ClassId) (sz : Nat) (ws : va_W) : fb_Bl (fb_PH G cI cL sz ws) := fun U g mk a h => ⟨fb_PM.bl G cI cL sz ws U g mk a h.1, h.2.calling⟩
abbrev fb_XF : String → State → State → Prop := vx_X (fun _ : Unit => False) (fun _ _ _ => True) (fun _ => False)
def fb_MH (l : Launch) (y : MethodName) (ws : List Cond) (fr lo mc ms : Nat) (av : List Value) (G : va_G) (cI cL : ClassId) (sz : Nat) (w0 : va_W) (Qc : (Nat → Prop) → Array Value → State → Outcome → State → Prop) : Prop :=
  vx_Met l y ws ({ frames := fr, cells := mc, slots := ms, locals := lo }) (va_Pc av (fb_PH G cI cL sz w0)) (Qc (va_A w0 sz)) fb_XF mc ms (va_A w0 sz)
def fb_tb (hh : List (Nat × Nat × Nat × Nat)) : List ExceptionTableEntry := tableOf hh
section FBH
variable {p : Program} {l : Launch} {e : Env} {R : Room} {s : State} {m : MethodId} {args : Array Value} {below : List Frame} {meth : Method} {c : Code} {H : Heap} {locs : List Loc} {cells slots : Nat} {Q : State → Prop}
variable {cc bytes : ByteArray} {pc : Nat} {ls : Array Slot} {rest st0 : List Value} {nL maxL index n fr lo sz mc ms : Nat} {Ts ws ws' : List Cond} {own C E : String} {y : MethodName} {ret : Option FieldType} {hh : List (Nat × Nat × Nat × Nat)} {b : Addr} {As av : List Value} {B : State → Prop} {G : va_G} {cI cL : ClassId} {w0 wa wc wr : va_W} {A : Nat → Prop}
theorem fb_mh_of {Qc : (Nat → Prop) → Array Value → State → Outcome → State → Prop} (hy : plainName y.cls = true) (hw : ws = Cond.codeWith y cc maxL ret hh :: ws') (hav : (lg_sl av).length ≤ maxL)
    (body : ∀ (p : Program) (e : Env) (s : State) (m : MethodId) (args : Array Value) (below : List Frame) (meth : Method) (c : Code) (A : Nat → Prop), p.tables.exec = Jvm.exec → c.code = cc → meth.sig.returnType = ret → c.maxLocals = maxL → meth.locks = false → (∀ w ∈ ws, w.before args s = true) → s.vm.findClass y.cls = some m.cls → c.exceptionTable.toList = fb_tb hh →
      va_P G vwCl w0 s.heap → va_K G vwCl (fb_ty cI cL) s → va_D A w0 → (∀ q, s.heap.size ≤ q → A q) → fb_sx A s s.heap → fb_xx A s s.heap →
      ∀ ls, lv_has ls maxL (lv_args 0 av) → W p l e ({ frames := fr, cells := mc, slots := ms, locals := lo }) s m args below meth c s.heap [] 0 0 (MQ below (Qc A) args s mc ms A) (F0 m 0 ls [])) : fb_MH l y ws fr lo mc ms av G cI cL sz w0 Qc := by
  refine vx_ofWH (cc := cc) (maxL := maxL) (ret := ret) (hh := hh) hy hw ?_
  intro p e s m args below meth c s₁ Bd hml hv
  obtain ⟨rfl, ⟨hsz, hP, hK, hD0, hX⟩, hE⟩ := hv
  subst hsz
  have hl := lv_entry av (n := maxL) hav
  rw [lg_entry_eq]
  have hts := atoms_spec (ws := ws) Bd.pre
  exact vx_ret (body p e s m _ below meth c (va_A w0 s.heap.size) Bd.exec Bd.bytes Bd.returns hml Bd.notSynchronized hts (findClass_of_methodNamed Bd.named) (vx_table (x := y) Bd (hts _ (by rw [hw]; exact List.mem_cons_self))) hP hK hD0.self (fun q h => Or.inr h) hX hE _ hl)
/-- the call of a method that throws, by one that catches -/
theorem fb_hcV (F : CallFix p m c cc nL s args Ts own) (hM : fb_TI l y ws fr lo (.ref b :: As) B E) (hT : GoodIn Ts (wsV own index C y ws)) (hw : ws = Cond.code y bytes maxL ret :: ws')
    (hd : y.cls = C ∧ y.cls ≠ "java/lang/invoke/MethodHandle" ∧ y.cls ≠ "java/lang/invoke/VarHandle" ∧ (parseMethodDescriptor y.desc).map (fun d => d.parameters.length) = some n) (hR : fr + 1 ≤ R.frames ∧ 8 + (maxL + 11) + lo ≤ R.locals)
    (hbl : fb_Bl B) (hrc : ∃ cellB : Cell, H[b]? = some cellB ∧ cellB.vm.isStatics = false ∧ s.vm.findClass C = some cellB.cls) (hB : ∀ U : State, U.heap = H → s.WarmedH U.vm → B U)
    (hP : va_P G vwCl wa H) (hD : va_D A wa) (hS : va_S A s.heap H locs) (hA : ∀ q, s.heap.size ≤ q → A q)
    (isR : List Nat) (hRr : isR.map (fun i => wa[i]?) = wr.map some) (hnr : va_nd isR = true)
    (hn : As.length = n) (hsz : ls.size = nL) (hst : st0 = As.reverse ++ .ref b :: rest) (hW : (rest.map fun v => v.category).sum ≤ 8) (hdg : decode cc pc = .ok (.invokevirtual index, 3)) (hcs : cells + 1 ≤ R.cells ∧ slots + 6 ≤ R.slots)
    (kk : ∀ (ce : Cell) (q9 : Addr) (H1 : Heap) (locs1 : List Loc), va_P G vwCl wr H1 → va_D A wr → va_S A s.heap H1 locs1 → H1[q9]? = some ce → ce.vm = .none → s.vm.findClass E = some ce.cls → vx_W p l e R s m args below meth c H1 locs1 (cells + 1) (slots + 6) Q (F0 m pc ls rest) q9) : W p l e R s m args below meth c H locs cells slots Q (F0 m pc ls st0) :=
  vx_calli (A0 := A) (H0 := s.heap) (vx_runV F hM (cwV n F.2.2.2.2 hT hw rfl rfl hd hR) ⟨fb_blind hbl, hrc, fun U hU hW => ⟨rfl, hB U hU hW⟩⟩ rfl hn hsz hst (lv_room hW) hdg hcs) hS (fun _ _ h => h.elim) (fun _ h => h.elim) (fun _ _ h => h.elim)
    (fun E9 ce q9 u t H1 locs1 ht9 _ _ hE9 hz hk9 hS1 hce hcv hcl => by
      have hE9 : E9 = E := hE9
      subst hE9
      have hFe : ∀ q, va_A ([] : va_W) H.size q → A q := fun q h => by
        rcases h with ⟨k, e9, h⟩ | h
        · cases h
        · exact hA q (Nat.le_trans hS.1 h)
      obtain ⟨hP2, hD2⟩ := va_join (wc := []) (w1 := []) hP hD [] isR rfl hRr hnr (fun _ _ h => nomatch h) (fun q h1 _ => hk9 q h1 (fun z => z.elim)) hFe (fun k q h => nomatch h) ⟨fun i j p q h => (nomatch h), fun k q h => (nomatch h)⟩
      exact kk ce q9 H1 locs1 (by rw [List.append_nil] at hP2; exact hP2) (by rw [List.append_nil] at hD2; exact hD2) hS1 hce hcv hcl)
    (fun r u t H1 locs1 _ _ hf _ _ _ _ => (hf : False).elim)
/-- the law's call of a helper -/
theorem fb_lhS {S : Type} {w1 wz : S → va_W} {v : Int32} {pp : S → Prop} (F : CallFix p m c cc nL s args Ts own) (hM : fb_MH l y ws fr lo mc ms As G cI cL H.size wc (fb_qi G w1 v pp)) (hT : GoodIn Ts (va_wsS own index y ws)) (hw : ws = Cond.codeWith y bytes maxL ret hh :: ws')
    (hd : y.cls ≠ "java/lang/invoke/MethodHandle" ∧ y.cls ≠ "java/lang/invoke/VarHandle" ∧ (parseMethodDescriptor y.desc).map (fun d => d.parameters.length) = some n) (hR : fr + 1 ≤ R.frames ∧ 8 + (maxL + 11) + lo ≤ R.locals)
    (hP : va_P G vwCl wa H) (hK : va_K G vwCl (fb_ty cI cL) s) (hD : va_D A wa) (hS : va_S A s.heap H locs) (hA : ∀ q, s.heap.size ≤ q → A q) (hX : fb_sx A s s.heap) (hE : fb_xx A s s.heap)
    (isC isR pm : List Nat) (hC : isC.map (fun i => wa[i]?) = wc.map some) (hRr : isR.map (fun i => wa[i]?) = wr.map some) (hpm : ∀ u, pm.map (fun i => (wr ++ w1 u)[i]?) = (wz u).map some) (hnd : va_nd isC = true) (hnr : va_nd isR = true) (hnp : va_nd pm = true) (hdis : ∀ i ∈ isR, i ∉ isC)
    (hn : As.length = n) (hsz : ls.size = nL) (hst : st0 = As.reverse ++ rest) (hW : (rest.map fun v => v.category).sum ≤ 8) (hdg : decode cc pc = .ok (.invokestatic index, 3)) (hcs : cells + mc ≤ R.cells ∧ slots + ms ≤ R.slots)
    (kk : ∀ (u : S) (H1 : Heap) (locs1 : List Loc), pp u → va_P G vwCl (wz u) H1 → va_D A (wz u) → va_S A s.heap H1 locs1 → W p l e R s m args below meth c H1 locs1 (cells + mc) (slots + ms) Q (F0 m (pc + 3) ls (.int v :: rest))) : W p l e R s m args below meth c H locs cells slots Q (F0 m pc ls st0) := by
  have hPc := hP.sub isC (fb_fm_of hC)
  have hDc : va_D (fun _ => True) wc := (hD.sub isC hnd hC).weaken (fun _ _ _ _ => trivial)
  have hFc := va_free hD hS hA isC hC
  refine vx_calli (vx_runSX F hM (vx_cwSW n F.2.2.2.2 hT hw rfl rfl hd hR) ⟨fb_blind (fb_PH.bl _ _ _ _ _), fun U hU hW => ⟨rfl, ⟨by rw [hU], by rw [hU]; exact hPc, va_K.moved hW.alike hK, hDc, by rw [hU]; exact ((hX.kept hS.2.1).narrow hFc).moved hW⟩, by rw [hU]; exact ((hE.kept hS.2.1).narrow hFc).moved hW⟩⟩ rfl hn hsz hst (lv_room hW) hdg hcs) hS (fun q _ h => hFc q h) hFc (fun _ _ h => h.elim)
    (fun _ _ _ _ _ _ _ _ _ hf _ _ _ _ _ _ _ => (hf : False).elim) (fun r u t H1 locs1 ht hvm hr hB hz1 hk1 hS1 => ?_)
  obtain ⟨hP1, hD1⟩ := hB
  obtain ⟨hr, hpp⟩ := hr
  rw [ht] at hP1
  subst hr
  obtain ⟨hP2, hD2⟩ := va_join hP hD isC isR hC hRr hnr hdis hk1 hFc hP1 hD1
  exact kk u H1 locs1 hpp (hP2.sub pm (fb_fm_of (hpm u))) (hD2.sub pm hnp (hpm u)) hS1
end FBH
