/-! numbers -/
def fb_rg (f : Nat → Int32) : Nat → Int32 := fun k => f (k % 12)
def fb_ab (x : Int32) : Int32 := if 0 ≤ x then x else 0 - x
def fb_mx (x y : Int32) : Int32 := if x < y then y else x
def fb_mn (x y : Int32) : Int32 := if y < x then y else x
def fb_rm (x y : Int32) : Int32 := x - x / y * y
def fb_fm (x y : Int32) : Int32 := if 0 ≤ (x ^^^ y) then fb_rm x y else if fb_rm x y = 0 then fb_rm x y else fb_rm x y + y
def fb_swt : Nat → Int32 := fun k => match k with
  | 0 => 262 | 1 => 277 | 2 => 294 | 3 => 311 | 4 => 330 | 5 => 349 | 6 => 370 | 7 => 392 | 8 => 415 | 9 => 440 | 10 => 466 | 11 => 494 | _ => 0
theorem fb_rg_lt {f : Nat → Int32} {k : Nat} (h : k < 12) : fb_rg f k = f k := by
  show f (k % 12) = f k
  rw [Nat.mod_eq_of_lt h]
theorem fb_rg_eq {f g : Nat → Int32} (h : ∀ k, k < 12 → f k = g k) : fb_rg f = fb_rg g := by
  funext k
  exact h _ (Nat.mod_lt _ (by decide))
theorem fb_rg_rg (f : Nat → Int32) : fb_rg (fb_rg f) = fb_rg f := by
  funext k
  show f (k % 12 % 12) = f (k % 12)
  rw [Nat.mod_mod]
theorem fb_rg_mod (f : Nat → Int32) (k : Nat) : fb_rg f (k % 12) = fb_rg f k := by
  show f (k % 12 % 12) = f (k % 12)
  rw [Nat.mod_mod]
theorem fb_rm_12 {k : Nat} (h : k < 2 ^ 31) : fb_rm (nI k) 12 = nI (k % 12) := pk_rem (d := 12) h (by decide) (by decide)
theorem fb_fm_12 {k : Nat} (h : k < 2 ^ 31) : fb_fm (nI k) 12 = nI (k % 12) := by
  have e : ¬ (nI k ^^^ 12).toInt < 0 := by
    have h1 : (nI k ^^^ 12).toBitVec = BitVec.ofNat 32 k ^^^ 12#32 := rfl
    rw [show (nI k ^^^ 12).toInt = (nI k ^^^ 12).toBitVec.toInt from rfl, h1]
    have h2 : (BitVec.ofNat 32 k ^^^ 12#32).msb = false := by
      rw [BitVec.msb_xor]
      have h3 : (BitVec.ofNat 32 k).msb = false := by
        rw [BitVec.msb_eq_false_iff_two_mul_lt]
        rw [BitVec.toNat_ofNat, Nat.mod_eq_of_lt (by omega)]
        omega
      rw [h3]
      decide
    have h4 := BitVec.toInt_eq_toNat_of_msb h2
    rw [h4]
    omega
  have h0 : (0 : Int32) ≤ nI k ^^^ 12 := by
    rw [Int32.le_iff_toInt_le]
    have : (0 : Int32).toInt = 0 := by decide
    rw [this]
    omega
  unfold fb_fm
  rw [if_pos h0]
  exact fb_rm_12 h
theorem fb_fm_p {j : Nat} (hj : j < 12) : fb_fm (nI j - 1) 12 = nI ((j + 11) % 12) := by
  have h : ∀ j, j < 12 → fb_fm (nI j - 1) 12 = nI ((j + 11) % 12) := by decide +kernel
  exact h j hj
theorem fb_lp_ex {i N : Nat} (hN : N < 2 ^ 31) (hi : i ≤ N) (c : nI N ≤ nI i) : i = N := by
  have := (nI_leI hN (by omega)).mp c
  omega
theorem fb_lp_in {i N : Nat} (hN : N < 2 ^ 31) (hi : i ≤ N) (c : ¬ nI N ≤ nI i) : i < N := by
  rcases Nat.lt_or_ge i N with h | h
  · exact h
  · exact absurd (nI_le h (by omega)) c
theorem fb_a0 (x : Int32) : x + nI 0 = x := by rw [nI_0]; exact Int32.add_zero x
theorem fb_cl {k : Nat} (h : k < 2 ^ 31) : (nI k).toNatClampNeg = k := nI_clamp h
/-! rows of one's own: a read-only method, its body, its calls -/
section FBR
variable {p : Program} {l : Launch} {e : Env} {R : Room} {s : State} {m : MethodId} {args : Array Value} {below : List Frame} {meth : Method} {c : Code} {H : Heap} {locs : List Loc} {cells slots : Nat} {Q : State → Prop}
variable {cc bytes : ByteArray} {pc : Nat} {ls : Array Slot} {rest st0 : List Value} {nL maxL index n fr lo : Nat} {Ts ws ws' : List Cond} {own C : String} {y : MethodName} {ret : Option FieldType} {b : Addr} {As av : List Value} {B : State → Prop} {v : Value}
theorem fb_ti {x z : Int32} (h : x = z) (k : W p l e R s m args below meth c H locs cells slots Q (F0 m pc ls (.int z :: rest))) : W p l e R s m args below meth c H locs cells slots Q (F0 m pc ls (.int x :: rest)) := by rw [h]; exact k
theorem fb_tl {x z : Int64} (h : x = z) (k : W p l e R s m args below meth c H locs cells slots Q (F0 m pc ls (.long z :: rest))) : W p l e R s m args below meth c H locs cells slots Q (F0 m pc ls (.long x :: rest)) := by rw [h]; exact k
def fb_RO (l : Launch) (y : MethodName) (ws : List Cond) (fr lo : Nat) (av : List Value) (B : State → Prop) (v : Value) : Prop :=
  Met l y ws ({ frames := fr, cells := 0, slots := 0, locals := lo }) (va_Pc av B) (k2_QcV v) 0 0 (fun _ => False)
def fb_Bl (B : State → Prop) : Prop := ∀ (U : State) (g : JFrame) (mk : MethodId) (a : Array Value), B U → B (U.calling g mk a)
theorem fb_ro_of (hy : plainName y.cls = true) (hw : ws = Cond.code y cc maxL ret :: ws') (hav : (lg_sl av).length ≤ maxL)
    (body : ∀ (p : Program) (e : Env) (s : State) (m : MethodId) (args : Array Value) (below : List Frame) (meth : Method) (c : Code), p.tables.exec = Jvm.exec → c.code = cc → meth.sig.returnType = ret → c.maxLocals = maxL → meth.locks = false → (∀ w ∈ ws, w.before args s = true) → s.vm.findClass y.cls = some m.cls → B s →
      ∀ ls, lv_has ls maxL (lv_args 0 av) → W p l e ({ frames := fr, cells := 0, slots := 0, locals := lo }) s m args below meth c s.heap [] 0 0 (MQ below (k2_QcV v) args s 0 0 (fun _ => False)) (F0 m 0 ls [])) : fb_RO l y ws fr lo av B v := by
  refine Met.ofW (cc := cc) (maxL := maxL) (ret := ret) hy hw ?_
  intro p e s m args below meth c s₁ Bd hml hv
  obtain ⟨rfl, hB⟩ := hv
  have hl := lv_entry av (n := maxL) hav
  rw [lg_entry_eq]
  exact body p e s m _ below meth c Bd.exec Bd.bytes Bd.returns hml Bd.notSynchronized (atoms_spec (ws := ws) Bd.pre) (findClass_of_methodNamed Bd.named) hB _ hl
theorem fb_iret {x : Int32} {w : Int32} (hx : p.tables.exec = Jvm.exec) (hb : c.code = cc) (hr : meth.sig.returnType = some .int) (hlk : meth.locks = false) (hdg : decode cc pc = .ok (.ireturn, 1)) (h : x = w) :
    W p l e R s m args below meth c s.heap [] 0 0 (MQ below (k2_QcV (.int w)) args s 0 0 (fun _ => False)) (F0 m pc ls [.int x]) :=
  W.iret (v := x) hx hb hr (fun t ht _ => ⟨by rw [h], ht⟩) (fun q hq => absurd hq List.not_mem_nil) hdg hlk
theorem fb_zret {x : Int32} {w : Int32} (hx : p.tables.exec = Jvm.exec) (hb : c.code = cc) (hr : meth.sig.returnType = some .boolean) (hlk : meth.locks = false) (hdg : decode cc pc = .ok (.ireturn, 1)) (hn : narrow .boolean (.int x) = .int x) (h : x = w) :
    W p l e R s m args below meth c s.heap [] 0 0 (MQ below (k2_QcV (.int w)) args s 0 0 (fun _ => False)) (F0 m pc ls [.int x]) :=
  W.zret (v := x) hx hb hr hn (fun t ht _ => ⟨by rw [h], ht⟩) (fun q hq => absurd hq List.not_mem_nil) hdg hlk
theorem fb_lret {x : Int64} {w : Int64} (hx : p.tables.exec = Jvm.exec) (hb : c.code = cc) (hr : meth.sig.returnType = some .long) (hlk : meth.locks = false) (hdg : decode cc pc = .ok (.lreturn, 1)) (h : x = w) :
    W p l e R s m args below meth c s.heap [] 0 0 (MQ below (k2_QcV (.long w)) args s 0 0 (fun _ => False)) (F0 m pc ls [.long x]) :=
  W.lret (v := x) hx hb hr (fun t ht _ => ⟨by rw [h], ht⟩) (fun q hq => absurd hq List.not_mem_nil) hdg hlk
theorem fb_blind (h : fb_Bl B) : FrameBlind (va_Pc av B) := fun a U g mk q => ⟨q.1, h U g mk a q.2⟩
theorem fb_roV (S : CallFix p m c cc nL s args Ts own) (hM : fb_RO l y ws fr lo (.ref b :: As) B v) (hT : GoodIn Ts (wsV own index C y ws)) (hw : ws = Cond.code y bytes maxL ret :: ws')
    (hd : y.cls = C ∧ y.cls ≠ "java/lang/invoke/MethodHandle" ∧ y.cls ≠ "java/lang/invoke/VarHandle" ∧ (parseMethodDescriptor y.desc).map (fun d => d.parameters.length) = some n) (hR : fr + 1 ≤ R.frames ∧ 8 + (maxL + 11) + lo ≤ R.locals)
    (hbl : fb_Bl B) (hrc : ∃ cellB : Cell, H[b]? = some cellB ∧ cellB.vm.isStatics = false ∧ s.vm.findClass C = some cellB.cls) (hB : ∀ U : State, U.heap = H → s.WarmedH U.vm → B U)
    (hn : As.length = n) (hsz : ls.size = nL) (hst : st0 = As.reverse ++ .ref b :: rest) (hW : (rest.map fun v => v.category).sum ≤ 8) (hdg : decode cc pc = .ok (.invokevirtual index, 3)) (hcs : cells ≤ R.cells ∧ slots ≤ R.slots)
    (kk : W p l e R s m args below meth c H locs cells slots Q (F0 m (pc + 3) ls (v :: rest))) : W p l e R s m args below meth c H locs cells slots Q (F0 m pc ls st0) :=
  W.callV (W.runV S hM (cwV n S.2.2.2.2 hT hw rfl rfl hd hR) ⟨fb_blind hbl, hrc, fun U hU hW => ⟨rfl, hB U hU hW⟩⟩ rfl hn hsz hst (lv_room hW) hdg ⟨hcs.1, hcs.2⟩) kk
theorem fb_roS (S : CallFix p m c cc nL s args Ts own) (hM : fb_RO l y ws fr lo As B v) (hT : GoodIn Ts (va_wsS own index y ws)) (hw : ws = Cond.code y bytes maxL ret :: ws')
    (hd : y.cls ≠ "java/lang/invoke/MethodHandle" ∧ y.cls ≠ "java/lang/invoke/VarHandle" ∧ (parseMethodDescriptor y.desc).map (fun d => d.parameters.length) = some n) (hR : fr + 1 ≤ R.frames ∧ 8 + (maxL + 11) + lo ≤ R.locals)
    (hbl : fb_Bl B) (hB : ∀ U : State, U.heap = H → s.WarmedH U.vm → B U)
    (hn : As.length = n) (hsz : ls.size = nL) (hst : st0 = As.reverse ++ rest) (hW : (rest.map fun v => v.category).sum ≤ 8) (hdg : decode cc pc = .ok (.invokestatic index, 3)) (hcs : cells ≤ R.cells ∧ slots ≤ R.slots)
    (kk : W p l e R s m args below meth c H locs cells slots Q (F0 m (pc + 3) ls (v :: rest))) : W p l e R s m args below meth c H locs cells slots Q (F0 m pc ls st0) :=
  W.callV (W.runS S hM (va_cwS n S.2.2.2.2 hT hw rfl rfl hd hR) ⟨fb_blind hbl, fun U hU hW => ⟨rfl, hB U hU hW⟩⟩ rfl hn hsz hst (lv_room hW) hdg ⟨hcs.1, hcs.2⟩) kk
end FBR
theorem fb_Bl_T : fb_Bl (fun _ => True) := fun _ _ _ _ _ => trivial
/-! the world that a read-only method sees -/
def fb_sx (A : Nat → Prop) (U : State) (H : Heap) : Prop :=
  va_Nw (.fieldLinkNest RX0 62 "FifthBeats" "SWINGS" "[I" "FifthBeats") U ∧ (∃ t : Nat, va_Z "FifthBeats" "SWINGS" "[I" (.ref t) A U H ∧ va_T .int t 12 (fun j => .int (fb_swt j)) A U H) ∧ ∃ t : Nat, va_Z "FifthBeatsModel" "SWINGS" "[I" (.ref t) A U H ∧ va_T .int t 12 (fun j => .int (fb_swt j)) A U H
theorem fb_sx.moved {A : Nat → Prop} {u U : State} {H : Heap} (hW : u.WarmedH U.vm) (h : fb_sx A u H) : fb_sx A U H := by
  obtain ⟨h1, ⟨t1, h2, h3⟩, t2, h4, h5⟩ := h
  exact ⟨h1.warmF hW, ⟨t1, h2.moved hW.alike, h3.moved hW.alike⟩, t2, h4.moved hW.alike, h5.moved hW.alike⟩
theorem fb_sx.kept {A : Nat → Prop} {U : State} {H H1 : Heap} (h : fb_sx A U H) (hq : ∀ a : Nat, a < H.size → ¬ A a → H1[a]? = H[a]?) : fb_sx A U H1 := by
  obtain ⟨h1, ⟨t1, h2, h3⟩, t2, h4, h5⟩ := h
  exact ⟨h1, ⟨t1, h2.kept hq, h3.kept hq⟩, t2, h4.kept hq, h5.kept hq⟩
theorem fb_sx.narrow {A B : Nat → Prop} {U : State} {H : Heap} (h : fb_sx A U H) (hAB : ∀ q, B q → A q) : fb_sx B U H := by
  obtain ⟨h1, ⟨t1, h2, h3⟩, t2, h4, h5⟩ := h
  exact ⟨h1, ⟨t1, h2.narrow hAB, h3.narrow hAB⟩, t2, h4.narrow hAB, h5.narrow hAB⟩
theorem fb_sx.calling {A : Nat → Prop} {U : State} {g : JFrame} {mk : MethodId} {a : Array Value} (h : fb_sx A U U.heap) : fb_sx A (U.calling g mk a) (U.calling g mk a).heap := by
  obtain ⟨h1, ⟨t1, h2, h3⟩, t2, h4, h5⟩ := h
  exact ⟨h1.same rfl rfl, ⟨t1, h2.moved (U := U.calling g mk a) (Vm.Alike.refl U.vm), h3.moved (U := U.calling g mk a) (Vm.Alike.refl U.vm)⟩, t2, h4.moved (U := U.calling g mk a) (Vm.Alike.refl U.vm), h5.moved (U := U.calling g mk a) (Vm.Alike.refl U.vm)⟩
abbrev fb_ty (cI cL : ClassId) : List (ClassId × FieldType) := [(cI, .int), (cL, .long)]
def fb_PB (G : va_G) (cI cL : ClassId) (ws : va_W) (U : State) : Prop := va_P G vwCl ws U.heap ∧ va_K G vwCl (fb_ty cI cL) U ∧ fb_sx (fun _ => False) U U.heap
theorem fb_PB.bl (G : va_G) (cI cL : ClassId) (ws : va_W) : fb_Bl (fb_PB G cI cL ws) := fun U g mk a h =>
  ⟨h.1, va_K.moved (u := U) (U := U.calling g mk a) (Vm.Alike.refl U.vm) h.2.1, h.2.2.calling⟩
theorem fb_PB.to {G : va_G} {cI cL : ClassId} {ws : va_W} {s : State} {H : Heap} (hP : va_P G vwCl ws H) (hK : va_K G vwCl (fb_ty cI cL) s) (hX : fb_sx (fun _ => False) s H) : ∀ U : State, U.heap = H → s.WarmedH U.vm → fb_PB G cI cL ws U := fun U hU hW =>
  ⟨by rw [hU]; exact hP, va_K.moved hW.alike hK, by rw [hU]; exact hX.moved hW⟩
abbrev fb_PW (cI : ClassId) (h n o d f : Nat) (nf uf df tf : Nat → Int32) (w dy : Int32) : va_W := [(h, .inr (0, [.ref n, .ref o, .ref d, .ref f, .int w, .int dy])), (n, .inl (cI, 12, .inl nf)), (o, .inl (cI, 12, .inl uf)), (d, .inl (cI, 12, .inl df)), (f, .inl (cI, 12, .inl tf))]
abbrev fb_MW (cI : ClassId) (h n d f o : Nat) (pf df tf uf : Nat → Int32) (th dy w : Int32) : va_W := [(h, .inr (2, [.int th, .int dy, .int w, .ref n, .ref d, .ref f, .ref o])), (n, .inl (cI, 12, .inl pf)), (d, .inl (cI, 12, .inl df)), (f, .inl (cI, 12, .inl tf)), (o, .inl (cI, 12, .inl uf))]
