/-! contracts of any kind: an answer, a world behind it that some values tell, what is known of these -/
abbrev fb_qi (G : va_G) {S : Type} (w1 : S → va_W) (v : Int32) (pp : S → Prop) (A : Nat → Prop) : Array Value → State → Outcome → State → Prop := va_Qi (fun (r : Int32) (u : S) => r = v ∧ pp u) (fun u t => va_P G vwCl (w1 u) t.heap ∧ va_D A (w1 u)) A
abbrev fb_ql (G : va_G) {S : Type} (w1 : S → va_W) (v : Int64) (pp : S → Prop) (A : Nat → Prop) : Array Value → State → Outcome → State → Prop := va_Ql (fun (r : Int64) (u : S) => r = v ∧ pp u) (fun u t => va_P G vwCl (w1 u) t.heap ∧ va_D A (w1 u)) A
abbrev fb_qv (G : va_G) {S : Type} (w1 : S → va_W) (pp : S → Prop) (A : Nat → Prop) : Array Value → State → Outcome → State → Prop := va_Qv (fun (u : S) => pp u) (fun u t => va_P G vwCl (w1 u) t.heap ∧ va_D A (w1 u)) A
abbrev fb_qr (G : va_G) (w1 : Nat → va_W) (A : Nat → Prop) : Array Value → State → Outcome → State → Prop := va_Qr (fun (_ : Unit) => True) (fun _ a t => va_P G vwCl (w1 a) t.heap ∧ va_D A (w1 a)) A
abbrev fb_qd (G : va_G) {S : Type} (w1 : S → va_W) (v : UInt64) (pp : S → Prop) (A : Nat → Prop) : Array Value → State → Outcome → State → Prop := va_Qd (fun (r : UInt64) (u : S) => alike64 r v = true ∧ pp u) (fun u t => va_P G vwCl (w1 u) t.heap ∧ va_D A (w1 u)) A
def fb_MG (l : Launch) (y : MethodName) (ws : List Cond) (fr lo mc ms : Nat) (av : List Value) (G : va_G) (cI cL : ClassId) (sz : Nat) (w0 : va_W) (Qc : (Nat → Prop) → Array Value → State → Outcome → State → Prop) : Prop :=
  Met l y ws ({ frames := fr, cells := mc, slots := ms, locals := lo }) (va_Pc av (fb_PM G cI cL sz w0)) (Qc (va_A w0 sz)) mc ms (va_A w0 sz)
def fb_MD (l : Launch) (y : MethodName) (ws : List Cond) (fr lo : Nat) (av : List Value) (G : va_G) (cI cL : ClassId) (sz : Nat) (w0 : va_W) (Qc : (Nat → Prop) → Array Value → State → Outcome → State → Prop) : Prop :=
  MetD lw_cs l y ws ({ frames := fr, cells := 0, slots := 0, locals := lo }) (va_Pc av (fb_PM G cI cL sz w0)) (Qc (va_A w0 sz)) 0 0 (va_A w0 sz)
theorem fb_cA {G : va_G} {cl : List vw_C} {cI cL cA : ClassId} {s : State} (hK : va_K G cl (fb_ty cI cL ++ [(cA, .int)]) s) : cA = cI :=
  Option.some.inj (((hK.2 2 (cA, .int) rfl).2 : s.vm.findClass ("[" ++ (FieldType.int).toString) = some cA).symm.trans ((hK.2 0 (cI, .int) rfl).2 : s.vm.findClass ("[" ++ (FieldType.int).toString) = some cI))
def fb_z : Nat → Int32 := fun _ => 0
def fb_on (k : Nat) : Nat → Int32 := fun j => if j < k then 1 else 0
theorem fb_on_0 : fb_on 0 = fb_z := by
  funext j
  exact if_neg (Nat.not_lt_zero j)
theorem fb_on_s (k : Nat) : upd (fb_on k) k 1 = fb_on (k + 1) := by
  funext j
  by_cases h : j = k
  · subst h
    rw [pk_us]
    exact (if_pos (Nat.lt_succ_self j)).symm
  · rw [pk_un h]
    unfold fb_on
    by_cases h2 : j < k
    · rw [if_pos h2, if_pos (by omega)]
    · rw [if_neg h2, if_neg (by omega)]
def fb_cy (uf : Nat → Int32) : Nat → Int32 := va_cpy uf fb_z 0 0 12
theorem fb_rg_cy (uf : Nat → Int32) : fb_rg (fb_cy uf) = fb_rg uf := by
  refine fb_rg_eq (fun k hk => ?_)
  unfold fb_cy va_cpy
  rw [if_pos ⟨Nat.zero_le k, by omega⟩]
  congr 1
  omega
section FBG
variable {p : Program} {l : Launch} {e : Env} {R : Room} {s : State} {m : MethodId} {args : Array Value} {below : List Frame} {meth : Method} {c : Code} {H : Heap} {locs : List Loc} {cells slots : Nat} {Q : State → Prop}
variable {cc bytes : ByteArray} {pc : Nat} {ls : Array Slot} {rest st0 : List Value} {nL maxL index n fr lo sz mc ms : Nat} {Ts ws ws' : List Cond} {own C : String} {y : MethodName} {ret : Option FieldType} {b : Addr} {As av : List Value} {G : va_G} {cI cL : ClassId} {w0 wa wc wr : va_W} {A : Nat → Prop}
theorem fb_mg_of {Qc : (Nat → Prop) → Array Value → State → Outcome → State → Prop} (hy : plainName y.cls = true) (hw : ws = Cond.code y cc maxL ret :: ws') (hav : (lg_sl av).length ≤ maxL)
    (body : ∀ (p : Program) (e : Env) (s : State) (m : MethodId) (args : Array Value) (below : List Frame) (meth : Method) (c : Code) (A : Nat → Prop), p.tables.exec = Jvm.exec → c.code = cc → meth.sig.returnType = ret → c.maxLocals = maxL → meth.locks = false → (∀ w ∈ ws, w.before args s = true) → s.vm.findClass y.cls = some m.cls →
      va_P G vwCl w0 s.heap → va_K G vwCl (fb_ty cI cL) s → va_D A w0 → (∀ q, s.heap.size ≤ q → A q) → fb_sx A s s.heap → meth.name = y.name →
      ∀ ls, lv_has ls maxL (lv_args 0 av) → W p l e ({ frames := fr, cells := mc, slots := ms, locals := lo }) s m args below meth c s.heap [] 0 0 (MQ below (Qc A) args s mc ms A) (F0 m 0 ls [])) : fb_MG l y ws fr lo mc ms av G cI cL sz w0 Qc := by
  refine Met.ofW (cc := cc) (maxL := maxL) (ret := ret) hy hw ?_
  intro p e s m args below meth c s₁ Bd hml hv
  obtain ⟨rfl, hsz, hP, hK, hD0, hX⟩ := hv
  subst hsz
  have hl := lv_entry av (n := maxL) hav
  rw [lg_entry_eq]
  exact body p e s m _ below meth c (va_A w0 s.heap.size) Bd.exec Bd.bytes Bd.returns hml Bd.notSynchronized (atoms_spec (ws := ws) Bd.pre) (findClass_of_methodNamed Bd.named) hP hK hD0.self (fun q h => Or.inr h) hX (name_of_methodNamed Bd.named Bd.method).1 _ hl
theorem fb_giV {S : Type} {w1 wz : S → va_W} {v : Int32} {pp : S → Prop} (F : CallFix p m c cc nL s args Ts own) (hM : fb_MG l y ws fr lo mc ms (.ref b :: As) G cI cL H.size wc (fb_qi G w1 v pp)) (hT : GoodIn Ts (wsV own index C y ws)) (hw : ws = Cond.code y bytes maxL ret :: ws')
    (hd : y.cls = C ∧ y.cls ≠ "java/lang/invoke/MethodHandle" ∧ y.cls ≠ "java/lang/invoke/VarHandle" ∧ (parseMethodDescriptor y.desc).map (fun d => d.parameters.length) = some n) (hR : fr + 1 ≤ R.frames ∧ 8 + (maxL + 11) + lo ≤ R.locals)
    (hrc : ∃ cellB : Cell, H[b]? = some cellB ∧ cellB.vm.isStatics = false ∧ s.vm.findClass C = some cellB.cls) (hP : va_P G vwCl wa H) (hK : va_K G vwCl (fb_ty cI cL) s) (hD : va_D A wa) (hS : va_S A s.heap H locs) (hA : ∀ q, s.heap.size ≤ q → A q) (hX : fb_sx A s s.heap)
    (isC isR pm : List Nat) (hC : isC.map (fun i => wa[i]?) = wc.map some) (hRr : isR.map (fun i => wa[i]?) = wr.map some) (hpm : ∀ u, pm.map (fun i => (wr ++ w1 u)[i]?) = (wz u).map some) (hnd : va_nd isC = true) (hnr : va_nd isR = true) (hnp : va_nd pm = true) (hdis : ∀ i ∈ isR, i ∉ isC)
    (hn : As.length = n) (hsz : ls.size = nL) (hst : st0 = As.reverse ++ .ref b :: rest) (hW : (rest.map fun v => v.category).sum ≤ 8) (hdg : decode cc pc = .ok (.invokevirtual index, 3)) (hcs : cells + mc ≤ R.cells ∧ slots + ms ≤ R.slots)
    (kk : ∀ (u : S) (H1 : Heap) (locs1 : List Loc), pp u → va_P G vwCl (wz u) H1 → va_D A (wz u) → va_S A s.heap H1 locs1 → W p l e R s m args below meth c H1 locs1 (cells + mc) (slots + ms) Q (F0 m (pc + 3) ls (.int v :: rest))) : W p l e R s m args below meth c H locs cells slots Q (F0 m pc ls st0) := by
  have hPc := hP.sub isC (fb_fm_of hC)
  have hDc : va_D (fun _ => True) wc := (hD.sub isC hnd hC).weaken (fun _ _ _ _ => trivial)
  have hFc := va_free hD hS hA isC hC
  refine va_calli (va_runV F hM (cwV n F.2.2.2.2 hT hw rfl rfl hd hR) ⟨fb_blind (fb_PM.bl _ _ _ _ _), hrc, fun U hU hW => ⟨rfl, by rw [hU], by rw [hU]; exact hPc, va_K.moved hW.alike hK, hDc, by rw [hU]; exact ((hX.kept hS.2.1).narrow hFc).moved hW⟩⟩ rfl hn hsz hst (lv_room hW) hdg hcs) hS (fun q _ h => hFc q h) hFc (fun r u t H1 locs1 ht hvm hr hB hz1 hk1 hS1 => ?_)
  obtain ⟨hP1, hD1⟩ := hB
  obtain ⟨hr, hpp⟩ := hr
  rw [ht] at hP1
  subst hr
  obtain ⟨hP2, hD2⟩ := va_join hP hD isC isR hC hRr hnr hdis hk1 hFc hP1 hD1
  exact kk u H1 locs1 hpp (hP2.sub pm (fb_fm_of (hpm u))) (hD2.sub pm hnp (hpm u)) hS1
theorem fb_glV {S : Type} {w1 wz : S → va_W} {v : Int64} {pp : S → Prop} (F : CallFix p m c cc nL s args Ts own) (hM : fb_MG l y ws fr lo mc ms (.ref b :: As) G cI cL H.size wc (fb_ql G w1 v pp)) (hT : GoodIn Ts (wsV own index C y ws)) (hw : ws = Cond.code y bytes maxL ret :: ws')
    (hd : y.cls = C ∧ y.cls ≠ "java/lang/invoke/MethodHandle" ∧ y.cls ≠ "java/lang/invoke/VarHandle" ∧ (parseMethodDescriptor y.desc).map (fun d => d.parameters.length) = some n) (hR : fr + 1 ≤ R.frames ∧ 8 + (maxL + 11) + lo ≤ R.locals)
    (hrc : ∃ cellB : Cell, H[b]? = some cellB ∧ cellB.vm.isStatics = false ∧ s.vm.findClass C = some cellB.cls) (hP : va_P G vwCl wa H) (hK : va_K G vwCl (fb_ty cI cL) s) (hD : va_D A wa) (hS : va_S A s.heap H locs) (hA : ∀ q, s.heap.size ≤ q → A q) (hX : fb_sx A s s.heap)
    (isC isR pm : List Nat) (hC : isC.map (fun i => wa[i]?) = wc.map some) (hRr : isR.map (fun i => wa[i]?) = wr.map some) (hpm : ∀ u, pm.map (fun i => (wr ++ w1 u)[i]?) = (wz u).map some) (hnd : va_nd isC = true) (hnr : va_nd isR = true) (hnp : va_nd pm = true) (hdis : ∀ i ∈ isR, i ∉ isC)
    (hn : As.length = n) (hsz : ls.size = nL) (hst : st0 = As.reverse ++ .ref b :: rest) (hW : (rest.map fun v => v.category).sum ≤ 8) (hdg : decode cc pc = .ok (.invokevirtual index, 3)) (hcs : cells + mc ≤ R.cells ∧ slots + ms ≤ R.slots)
    (kk : ∀ (u : S) (H1 : Heap) (locs1 : List Loc), pp u → va_P G vwCl (wz u) H1 → va_D A (wz u) → va_S A s.heap H1 locs1 → W p l e R s m args below meth c H1 locs1 (cells + mc) (slots + ms) Q (F0 m (pc + 3) ls (.long v :: rest))) : W p l e R s m args below meth c H locs cells slots Q (F0 m pc ls st0) := by
  have hPc := hP.sub isC (fb_fm_of hC)
  have hDc : va_D (fun _ => True) wc := (hD.sub isC hnd hC).weaken (fun _ _ _ _ => trivial)
  have hFc := va_free hD hS hA isC hC
  refine va_calll (va_runV F hM (cwV n F.2.2.2.2 hT hw rfl rfl hd hR) ⟨fb_blind (fb_PM.bl _ _ _ _ _), hrc, fun U hU hW => ⟨rfl, by rw [hU], by rw [hU]; exact hPc, va_K.moved hW.alike hK, hDc, by rw [hU]; exact ((hX.kept hS.2.1).narrow hFc).moved hW⟩⟩ rfl hn hsz hst (lv_room hW) hdg hcs) hS (fun q _ h => hFc q h) hFc (fun r u t H1 locs1 ht hvm hr hB hz1 hk1 hS1 => ?_)
  obtain ⟨hP1, hD1⟩ := hB
  obtain ⟨hr, hpp⟩ := hr
  rw [ht] at hP1
  subst hr
  obtain ⟨hP2, hD2⟩ := va_join hP hD isC isR hC hRr hnr hdis hk1 hFc hP1 hD1
  exact kk u H1 locs1 hpp (hP2.sub pm (fb_fm_of (hpm u))) (hD2.sub pm hnp (hpm u)) hS1
theorem fb_grV {w1 wz : Nat → va_W} (F : CallFix p m c cc nL s args Ts own) (hM : fb_MG l y ws fr lo mc ms (.ref b :: As) G cI cL H.size wc (fb_qr G w1)) (hT : GoodIn Ts (wsV own index C y ws)) (hw : ws = Cond.code y bytes maxL ret :: ws')
    (hd : y.cls = C ∧ y.cls ≠ "java/lang/invoke/MethodHandle" ∧ y.cls ≠ "java/lang/invoke/VarHandle" ∧ (parseMethodDescriptor y.desc).map (fun d => d.parameters.length) = some n) (hR : fr + 1 ≤ R.frames ∧ 8 + (maxL + 11) + lo ≤ R.locals)
    (hrc : ∃ cellB : Cell, H[b]? = some cellB ∧ cellB.vm.isStatics = false ∧ s.vm.findClass C = some cellB.cls) (hP : va_P G vwCl wa H) (hK : va_K G vwCl (fb_ty cI cL) s) (hD : va_D A wa) (hS : va_S A s.heap H locs) (hA : ∀ q, s.heap.size ≤ q → A q) (hX : fb_sx A s s.heap)
    (isC isR pm : List Nat) (hC : isC.map (fun i => wa[i]?) = wc.map some) (hRr : isR.map (fun i => wa[i]?) = wr.map some) (hpm : ∀ u, pm.map (fun i => (wr ++ w1 u)[i]?) = (wz u).map some) (hnd : va_nd isC = true) (hnr : va_nd isR = true) (hnp : va_nd pm = true) (hdis : ∀ i ∈ isR, i ∉ isC)
    (hn : As.length = n) (hsz : ls.size = nL) (hst : st0 = As.reverse ++ .ref b :: rest) (hW : (rest.map fun v => v.category).sum ≤ 8) (hdg : decode cc pc = .ok (.invokevirtual index, 3)) (hcs : cells + mc ≤ R.cells ∧ slots + ms ≤ R.slots)
    (kk : ∀ (u : Nat) (H1 : Heap) (locs1 : List Loc), va_P G vwCl (wz u) H1 → va_D A (wz u) → va_S A s.heap H1 locs1 → W p l e R s m args below meth c H1 locs1 (cells + mc) (slots + ms) Q (F0 m (pc + 3) ls (.ref u :: rest))) : W p l e R s m args below meth c H locs cells slots Q (F0 m pc ls st0) := by
  have hPc := hP.sub isC (fb_fm_of hC)
  have hDc : va_D (fun _ => True) wc := (hD.sub isC hnd hC).weaken (fun _ _ _ _ => trivial)
  have hFc := va_free hD hS hA isC hC
  refine va_callr (va_runV F hM (cwV n F.2.2.2.2 hT hw rfl rfl hd hR) ⟨fb_blind (fb_PM.bl _ _ _ _ _), hrc, fun U hU hW => ⟨rfl, by rw [hU], by rw [hU]; exact hPc, va_K.moved hW.alike hK, hDc, by rw [hU]; exact ((hX.kept hS.2.1).narrow hFc).moved hW⟩⟩ rfl hn hsz hst (lv_room hW) hdg hcs) hS (fun q _ h => hFc q h) hFc (fun _ u t H1 locs1 ht hvm _ hB hz1 hk1 hS1 => ?_)
  obtain ⟨hP1, hD1⟩ := hB
  rw [ht] at hP1
  obtain ⟨hP2, hD2⟩ := va_join hP hD isC isR hC hRr hnr hdis hk1 hFc hP1 hD1
  exact kk u H1 locs1 (hP2.sub pm (fb_fm_of (hpm u))) (hD2.sub pm hnp (hpm u)) hS1
/-- a constructor -/
theorem fb_gvI {S : Type} {w1 wz : S → va_W} {pp : S → Prop} (F : CallFix p m c cc nL s args Ts own) (hM : fb_MG l y ws fr lo mc ms (.ref b :: As) G cI cL H.size wc (fb_qv G w1 pp)) (cw : CallB R s args own index y bytes maxL none ws ({ frames := fr, cells := mc, slots := ms, locals := lo }) mc ms n ∧ y.name = "<init>" ∧ (Cond.instanceMethod y).before args s = true)
    (hP : va_P G vwCl wa H) (hK : va_K G vwCl (fb_ty cI cL) s) (hD : va_D A wa) (hS : va_S A s.heap H locs) (hA : ∀ q, s.heap.size ≤ q → A q) (hX : fb_sx A s s.heap)
    (isC isR pm : List Nat) (hC : isC.map (fun i => wa[i]?) = wc.map some) (hRr : isR.map (fun i => wa[i]?) = wr.map some) (hpm : ∀ u, pm.map (fun i => (wr ++ w1 u)[i]?) = (wz u).map some) (hnd : va_nd isC = true) (hnr : va_nd isR = true) (hnp : va_nd pm = true) (hdis : ∀ i ∈ isR, i ∉ isC)
    (hn : As.length = n) (hsz : ls.size = nL) (hst : st0 = As.reverse ++ .ref b :: rest) (hW : (rest.map fun v => v.category).sum ≤ 8) (hdg : decode cc pc = .ok (.invokespecial index, 3)) (hcs : cells + mc ≤ R.cells ∧ slots + ms ≤ R.slots)
    (kk : ∀ (u : S) (H1 : Heap) (locs1 : List Loc), pp u → va_P G vwCl (wz u) H1 → va_D A (wz u) → va_S A s.heap H1 locs1 → W p l e R s m args below meth c H1 locs1 (cells + mc) (slots + ms) Q (F0 m (pc + 3) ls rest)) : W p l e R s m args below meth c H locs cells slots Q (F0 m pc ls st0) := by
  have hPc := hP.sub isC (fb_fm_of hC)
  have hDc : va_D (fun _ => True) wc := (hD.sub isC hnd hC).weaken (fun _ _ _ _ => trivial)
  have hFc := va_free hD hS hA isC hC
  refine va_callv (va_runI F hM cw ⟨fb_blind (fb_PM.bl _ _ _ _ _), fun U hU hW => ⟨rfl, by rw [hU], by rw [hU]; exact hPc, va_K.moved hW.alike hK, hDc, by rw [hU]; exact ((hX.kept hS.2.1).narrow hFc).moved hW⟩⟩ rfl hn hsz hst (lv_room hW) hdg hcs) hS (fun q _ h => hFc q h) hFc (fun u t H1 locs1 ht hvm hr hB hz1 hk1 hS1 => ?_)
  obtain ⟨hP1, hD1⟩ := hB
  rw [ht] at hP1
  obtain ⟨hP2, hD2⟩ := va_join hP hD isC isR hC hRr hnr hdis hk1 hFc hP1 hD1
  exact kk u H1 locs1 hr (hP2.sub pm (fb_fm_of (hpm u))) (hD2.sub pm hnp (hpm u)) hS1
end FBG
