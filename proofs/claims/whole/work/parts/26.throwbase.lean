abbrev fb_E1 : String := "java/lang/IndexOutOfBoundsException"
abbrev fb_E2 : String := "java/lang/IllegalArgumentException"
abbrev fb_E3 : String := "java/lang/IllegalStateException"
/-- what a throw and its catching ask of the start -/
def fb_xx (A : Nat → Prop) (U : State) (H : Heap) : Prop :=
  (vx_Zq Bundle.tN "UNASSIGNED_STACK" Bundle.steD A U H ∧ vx_Zq Bundle.tN "SUPPRESSED_SENTINEL" Bundle.listD A U H) ∧
  ((∃ a : Nat, vk_R RX1 146 "not a number of the ring" a U) ∧ (∃ a : Nat, vk_R RX1 149 "nothing is told by this number" a U) ∧ (∃ a : Nat, vk_R RX1 153 "the argument is too small or too great" a U) ∧ (∃ a : Nat, vk_R RX1 156 "this fifth is the wolf" a U) ∧ (∃ a : Nat, vk_R RX1 64 "the wolf is ahead of this note" a U) ∧ ∃ a : Nat, vk_R RX1 79 "the note would be off by too much" a U) ∧
  (va_Nw (.castable fb_E1 fb_E1) U ∧ va_Nw (.castable fb_E2 fb_E2) U ∧ va_Nw (.castable fb_E3 fb_E3) U) ∧
  (va_Nc fb_E1 fb_E2 U ∧ va_Nc fb_E2 fb_E1 U ∧ va_Nc fb_E3 fb_E1 U ∧ va_Nc fb_E3 fb_E2 U) ∧ va_Nw (.declares (Bundle.initS "java/lang/RuntimeException")) U ∧ va_Nw (.declares (Bundle.initS "java/lang/Exception")) U ∧ va_Nw (.declares (Bundle.initS "java/lang/Throwable")) U
theorem fb_cm {a b : String} {u U : State} (hvm : u.vm.Alike U.vm) (h : va_Nw (.castable a b) u) : va_Nw (.castable a b) U :=
  va_tabs (c := .castable a b) rfl (rfl : (u.setVm U.vm).vm = U.vm) (show (Cond.castable a b).before #[] (u.setVm U.vm) = true from by rw [Cond.castable_setVm hvm]; exact h)
theorem fb_xx.moved {A : Nat → Prop} {u U : State} {H : Heap} (hW : u.WarmedH U.vm) (h : fb_xx A u H) : fb_xx A U H := by
  obtain ⟨⟨a1, a2⟩, ⟨⟨b1, c1⟩, ⟨b2, c2⟩, ⟨b3, c3⟩, ⟨b4, c4⟩, ⟨b5, c5⟩, b6, c6⟩, ⟨d1, d2, d3⟩, ⟨e1, e2, e3, e4⟩, f1, f2, f3⟩ := h
  exact ⟨⟨a1.moved hW.alike, a2.moved hW.alike⟩, ⟨⟨b1, c1.warm hW⟩, ⟨b2, c2.warm hW⟩, ⟨b3, c3.warm hW⟩, ⟨b4, c4.warm hW⟩, ⟨b5, c5.warm hW⟩, b6, c6.warm hW⟩, ⟨fb_cm hW.alike d1, fb_cm hW.alike d2, fb_cm hW.alike d3⟩, ⟨e1.moved hW.alike, e2.moved hW.alike, e3.moved hW.alike, e4.moved hW.alike⟩, f1.warmD hW, f2.warmD hW, f3.warmD hW⟩
theorem fb_xx.kept {A : Nat → Prop} {U : State} {H H1 : Heap} (h : fb_xx A U H) (hq : ∀ a : Nat, a < H.size → ¬ A a → H1[a]? = H[a]?) : fb_xx A U H1 := ⟨⟨h.1.1.kept hq, h.1.2.kept hq⟩, h.2⟩
theorem fb_xx.narrow {A B : Nat → Prop} {U : State} {H : Heap} (h : fb_xx A U H) (hAB : ∀ q, B q → A q) : fb_xx B U H := ⟨⟨h.1.1.narrow hAB, h.1.2.narrow hAB⟩, h.2⟩
theorem fb_xx.calling {A : Nat → Prop} {U : State} {g : JFrame} {mk : MethodId} {a : Array Value} (h : fb_xx A U U.heap) : fb_xx A (U.calling g mk a) (U.calling g mk a).heap := by
  obtain ⟨⟨a1, a2⟩, ⟨⟨b1, c1⟩, ⟨b2, c2⟩, ⟨b3, c3⟩, ⟨b4, c4⟩, ⟨b5, c5⟩, b6, c6⟩, ⟨d1, d2, d3⟩, ⟨e1, e2, e3, e4⟩, f1, f2, f3⟩ := h
  have r : U.vm.Alike (U.calling g mk a).vm := Vm.Alike.refl U.vm
  exact ⟨⟨a1.moved r, a2.moved r⟩, ⟨⟨b1, c1.same rfl⟩, ⟨b2, c2.same rfl⟩, ⟨b3, c3.same rfl⟩, ⟨b4, c4.same rfl⟩, ⟨b5, c5.same rfl⟩, b6, c6.same rfl⟩, ⟨fb_cm r d1, fb_cm r d2, fb_cm r d3⟩, ⟨e1.moved r, e2.moved r, e3.moved r, e4.moved r⟩, f1.same rfl rfl, f2.same rfl rfl, f3.same rfl rfl⟩
def fb_PX (G : va_G) (cI cL : ClassId) (ws : va_W) (U : State) : Prop := fb_PB G cI cL ws U ∧ fb_xx (fun _ => False) U U.heap
theorem fb_PX.bl (G : va_G) (cI cL : ClassId) (ws : va_W) : fb_Bl (fb_PX G cI cL ws) := fun U g mk a h => ⟨fb_PB.bl G cI cL ws U g mk a h.1, h.2.calling⟩
theorem fb_PX.to {G : va_G} {cI cL : ClassId} {ws : va_W} {s : State} {H : Heap} (hP : va_P G vwCl ws H) (hK : va_K G vwCl (fb_ty cI cL) s) (hX : fb_sx (fun _ => False) s H) (hE : fb_xx (fun _ => False) s H) : ∀ U : State, U.heap = H → s.WarmedH U.vm → fb_PX G cI cL ws U := fun U hU hW =>
  ⟨fb_PB.to hP hK hX U hU hW, by rw [hU]; exact hE.moved hW⟩
abbrev fb_XC (E : String) : String → State → State → Prop := vx_X (fun _ : Unit => True) (fun E' _ _ => E' = E) (fun _ => False)
abbrev fb_NV : Array Value → State → Outcome → State → Prop := va_Qv (fun _ : Unit => False) (fun _ _ => True) (fun _ => False)
abbrev fb_NI : Array Value → State → Outcome → State → Prop := va_Qi (fun _ (_ : Unit) => False) (fun _ _ => True) (fun _ => False)
/-- a method that throws E, and makes nothing but that -/
def fb_TV (l : Launch) (y : MethodName) (ws : List Cond) (fr lo : Nat) (av : List Value) (B : State → Prop) (E : String) : Prop :=
  vx_Met l y ws ({ frames := fr, cells := 1, slots := 6, locals := lo }) (va_Pc av B) fb_NV (fb_XC E) 1 6 (fun _ => False)
def fb_TI (l : Launch) (y : MethodName) (ws : List Cond) (fr lo : Nat) (av : List Value) (B : State → Prop) (E : String) : Prop :=
  vx_Met l y ws ({ frames := fr, cells := 1, slots := 6, locals := lo }) (va_Pc av B) fb_NI (fb_XC E) 1 6 (fun _ => False)
section FBT
variable {p : Program} {l : Launch} {e : Env} {R : Room} {s : State} {m : MethodId} {args : Array Value} {below : List Frame} {meth : Method} {c : Code} {H : Heap} {locs : List Loc} {cells slots : Nat} {Q : State → Prop}
variable {cc bytes : ByteArray} {pc : Nat} {ls : Array Slot} {rest st0 : List Value} {nL maxL index n fr lo : Nat} {Ts ws ws' : List Cond} {own C E : String} {y : MethodName} {ret : Option FieldType} {b : Addr} {As av : List Value} {B : State → Prop} {Qc : Array Value → State → Outcome → State → Prop}
theorem fb_tv_of (hy : plainName y.cls = true) (hw : ws = Cond.code y cc maxL ret :: ws') (hav : (lg_sl av).length ≤ maxL)
    (body : ∀ (p : Program) (e : Env) (s : State) (m : MethodId) (args : Array Value) (below : List Frame) (meth : Method) (c : Code), p.tables.exec = Jvm.exec → c.code = cc → meth.sig.returnType = ret → c.maxLocals = maxL → meth.locks = false → (∀ w ∈ ws, w.before args s = true) → s.vm.findClass y.cls = some m.cls → (∀ x ∈ c.exceptionTable.toList, False) → B s →
      ∀ ls, lv_has ls maxL (lv_args 0 av) → W p l e ({ frames := fr, cells := 1, slots := 6, locals := lo }) s m args below meth c s.heap [] 0 0 (vx_MQ below fb_NV (fb_XC E) args s 1 6 (fun _ => False)) (F0 m 0 ls [])) : fb_TV l y ws fr lo av B E := by
  refine vx_ofW (cc := cc) (maxL := maxL) (ret := ret) hy hw ?_
  intro p e s m args below meth c s₁ Bd hml ht hv
  obtain ⟨rfl, hB⟩ := hv
  have hl := lv_entry av (n := maxL) hav
  rw [lg_entry_eq]
  exact body p e s m _ below meth c Bd.exec Bd.bytes Bd.returns hml Bd.notSynchronized (atoms_spec (ws := ws) Bd.pre) (findClass_of_methodNamed Bd.named) ht hB _ hl
theorem fb_ti_of (hy : plainName y.cls = true) (hw : ws = Cond.code y cc maxL ret :: ws') (hav : (lg_sl av).length ≤ maxL)
    (body : ∀ (p : Program) (e : Env) (s : State) (m : MethodId) (args : Array Value) (below : List Frame) (meth : Method) (c : Code), p.tables.exec = Jvm.exec → c.code = cc → meth.sig.returnType = ret → c.maxLocals = maxL → meth.locks = false → (∀ w ∈ ws, w.before args s = true) → s.vm.findClass y.cls = some m.cls → (∀ x ∈ c.exceptionTable.toList, False) → B s →
      ∀ ls, lv_has ls maxL (lv_args 0 av) → W p l e ({ frames := fr, cells := 1, slots := 6, locals := lo }) s m args below meth c s.heap [] 0 0 (vx_MQ below fb_NI (fb_XC E) args s 1 6 (fun _ => False)) (F0 m 0 ls [])) : fb_TI l y ws fr lo av B E := by
  refine vx_ofW (cc := cc) (maxL := maxL) (ret := ret) hy hw ?_
  intro p e s m args below meth c s₁ Bd hml ht hv
  obtain ⟨rfl, hB⟩ := hv
  have hl := lv_entry av (n := maxL) hav
  rw [lg_entry_eq]
  exact body p e s m _ below meth c Bd.exec Bd.bytes Bd.returns hml Bd.notSynchronized (atoms_spec (ws := ws) Bd.pre) (findClass_of_methodNamed Bd.named) ht hB _ hl
/-- 'throw new E(text)' of this class -/
theorem fb_throw {text : String} {ik is ic sa : Nat} (hx : p.tables.exec = Jvm.exec) (hb : c.code = cc) (hl : l.stackTraces = false) (hown : s.vm.findClass RX1 = some m.cls) (hcls : Bundle.fit E = true) (hnames : ∀ n ∈ (["java/lang/RuntimeException", "java/lang/Exception"] : List String), Bundle.fit n = true)
    (hk : (Cond.classLink RX1 ik E).before args s = true) (hini : (Cond.initialized E).before args s = true) (hstr : vk_R RX1 is text sa s)
    (hg : ∀ w ∈ (vx_atS RX1 ic E ["java/lang/RuntimeException", "java/lang/Exception"]).filter goodWord, w.before args s = true) (hng : ∀ w ∈ (vx_atS RX1 ic E ["java/lang/RuntimeException", "java/lang/Exception"]).filter (fun w => !goodWord w), w ∈ ([Cond.castable E E, Cond.declares (Bundle.initS "java/lang/RuntimeException"), Cond.declares (Bundle.initS "java/lang/Exception"), Cond.declares (Bundle.initS "java/lang/Throwable")] : List Cond)) (hca : va_Nw (.castable E E) s)
    (hgood : ∀ w ∈ Cond.classLink RX1 ik E :: Cond.initialized E :: vx_atS RX1 ic E ["java/lang/RuntimeException", "java/lang/Exception"], vx_ot w = true)
    (hE : fb_xx (fun _ => False) s s.heap) (hsize : ls.size = c.maxLocals)
    (d0 : decode cc pc = .ok (.new ik, 3)) (d3 : decode cc (pc + 3) = .ok (.dup, 1)) (d4 : decode cc (pc + 4) = .ok (.ldc is, 2)) (d6 : decode cc (pc + 6) = .ok (.invokespecial ic, 3)) (d9 : decode cc (pc + 9) = .ok (.athrow, 1))
    (ht : ∀ x ∈ c.exceptionTable.toList, False) (hlk : meth.locks = false) (hRf : 5 < R.frames) (hRl : (rest.map fun v => v.category).sum + 82 ≤ R.locals) (hRc : 0 + 1 ≤ R.cells) (hRs : 0 + 6 ≤ R.slots) :
    W p l e R s m args below meth c s.heap [] 0 0 (vx_MQ below Qc (fb_XC E) args s 1 6 (fun _ => False)) (F0 m pc ls rest) :=
  vx_throwS (names := ["java/lang/RuntimeException", "java/lang/Exception"]) (A := fun _ => False) hx hb hl hown hcls hnames hk hini hstr (vx_hat hg hng (vx_c (hca.use rfl) (vx_c (hE.2.2.2.2.1.use rfl) (vx_c (hE.2.2.2.2.2.1.use rfl) (vx_c (hE.2.2.2.2.2.2.use rfl) vx_n))))) hgood hE.1.1 hE.1.2 va_S.rf hsize d0 d3 d4 d6 d9 (fun x hx9 => (ht x hx9).elim) hRf hRl hRc hRs hlk
    (fun t _ hz hk9 => ⟨(), trivial, rfl, hz, fun q h1 _ => hk9 q h1⟩) (fun z hz => absurd hz List.not_mem_nil) (Nat.le_refl _) (Nat.le_refl _)
theorem fb_txS (F : CallFix p m c cc nL s args Ts own) (hM : fb_TV l y ws fr lo As B E) (hT : GoodIn Ts (va_wsS own index y ws)) (hw : ws = Cond.code y bytes maxL ret :: ws')
    (hd : y.cls ≠ "java/lang/invoke/MethodHandle" ∧ y.cls ≠ "java/lang/invoke/VarHandle" ∧ (parseMethodDescriptor y.desc).map (fun d => d.parameters.length) = some n) (hR : fr + 1 ≤ R.frames ∧ 8 + (maxL + 11) + lo ≤ R.locals)
    (hbl : fb_Bl B) (hB : ∀ U : State, U.heap = s.heap → s.WarmedH U.vm → B U) (ht : ∀ x ∈ c.exceptionTable.toList, False) (hlk : meth.locks = false)
    (hn : As.length = n) (hsz : ls.size = nL) (hst : st0 = As.reverse ++ rest) (hW : (rest.map fun v => v.category).sum ≤ 8) (hdg : decode cc pc = .ok (.invokestatic index, 3)) (hcs : 0 + 1 ≤ R.cells ∧ 0 + 6 ≤ R.slots) :
    W p l e R s m args below meth c s.heap [] 0 0 (vx_MQ below Qc (fb_XC E) args s 1 6 (fun _ => False)) (F0 m pc ls st0) :=
  vx_callv (A0 := fun _ => False) (H0 := s.heap) (vx_runS F hM (va_cwS n F.2.2.2.2 hT hw rfl rfl hd hR) ⟨fb_blind hbl, fun U hU hW => ⟨rfl, hB U hU hW⟩⟩ rfl hn hsz hst (lv_room hW) hdg hcs) va_S.rf (fun _ _ h => h) (fun _ h => h) (fun _ _ h => h)
    (fun E9 ce q9 u t H1 locs1 ht9 _ _ hE9 hz hk9 hS1 hce hcv hcl => by
      have hE9 : E9 = E := hE9
      subst hE9
      exact vx_out (fun x hx9 => (ht x hx9).elim) hlk hce hcv hcl (fun t9 h9 _ => ⟨(), trivial, rfl, hS1.F h9⟩) hS1.2.2 (Nat.le_refl _) (Nat.le_refl _))
    (fun u t H1 locs1 _ _ hf _ _ _ _ => (hf : False).elim)
theorem fb_txV (F : CallFix p m c cc nL s args Ts own) (hM : fb_TV l y ws fr lo (.ref b :: As) B E) (hT : GoodIn Ts (wsV own index C y ws)) (hw : ws = Cond.code y bytes maxL ret :: ws')
    (hd : y.cls = C ∧ y.cls ≠ "java/lang/invoke/MethodHandle" ∧ y.cls ≠ "java/lang/invoke/VarHandle" ∧ (parseMethodDescriptor y.desc).map (fun d => d.parameters.length) = some n) (hR : fr + 1 ≤ R.frames ∧ 8 + (maxL + 11) + lo ≤ R.locals)
    (hbl : fb_Bl B) (hrc : ∃ cellB : Cell, s.heap[b]? = some cellB ∧ cellB.vm.isStatics = false ∧ s.vm.findClass C = some cellB.cls) (hB : ∀ U : State, U.heap = s.heap → s.WarmedH U.vm → B U) (ht : ∀ x ∈ c.exceptionTable.toList, False) (hlk : meth.locks = false)
    (hn : As.length = n) (hsz : ls.size = nL) (hst : st0 = As.reverse ++ .ref b :: rest) (hW : (rest.map fun v => v.category).sum ≤ 8) (hdg : decode cc pc = .ok (.invokevirtual index, 3)) (hcs : 0 + 1 ≤ R.cells ∧ 0 + 6 ≤ R.slots) :
    W p l e R s m args below meth c s.heap [] 0 0 (vx_MQ below Qc (fb_XC E) args s 1 6 (fun _ => False)) (F0 m pc ls st0) :=
  vx_callv (A0 := fun _ => False) (H0 := s.heap) (vx_runV F hM (cwV n F.2.2.2.2 hT hw rfl rfl hd hR) ⟨fb_blind hbl, hrc, fun U hU hW => ⟨rfl, hB U hU hW⟩⟩ rfl hn hsz hst (lv_room hW) hdg hcs) va_S.rf (fun _ _ h => h) (fun _ h => h) (fun _ _ h => h)
    (fun E9 ce q9 u t H1 locs1 ht9 _ _ hE9 hz hk9 hS1 hce hcv hcl => by
      have hE9 : E9 = E := hE9
      subst hE9
      exact vx_out (fun x hx9 => (ht x hx9).elim) hlk hce hcv hcl (fun t9 h9 _ => ⟨(), trivial, rfl, hS1.F h9⟩) hS1.2.2 (Nat.le_refl _) (Nat.le_refl _))
    (fun u t H1 locs1 _ _ hf _ _ _ _ => (hf : False).elim)
end FBT
