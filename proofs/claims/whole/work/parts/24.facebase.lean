def fb_cp (src dst : Nat → Int32) (n : Nat) : Nat → Int32 := fun j => if j < n then src j else dst j
theorem fb_cp_0 (src dst : Nat → Int32) : fb_cp src dst 0 = dst := by
  funext j
  exact if_neg (Nat.not_lt_zero j)
theorem fb_cp_s (src dst : Nat → Int32) (n : Nat) : upd (fb_cp src dst n) n (src n) = fb_cp src dst (n + 1) := by
  funext j
  by_cases h : j = n
  · subst h
    rw [pk_us]
    exact (if_pos (Nat.lt_succ_self j)).symm
  · rw [pk_un h]
    unfold fb_cp
    by_cases h2 : j < n
    · rw [if_pos h2, if_pos (by omega)]
    · rw [if_neg h2, if_neg (by omega)]
theorem fb_rg_cp (src dst : Nat → Int32) : fb_rg (fb_cp src dst 12) = fb_rg src := fb_rg_eq (fun _ hk => if_pos hk)
theorem fb_rg_dyc (df ef uf vf : Nat → Int32) (q : Nat) : fb_rg (fb_dy (fb_cp df ef 12) (fb_cp uf vf 12) q) = fb_rg (fb_dy df uf q) :=
  fb_rg_eq (fb_rg_dy (fun _ hk => if_pos hk) (fun _ hk => if_pos hk) q)
theorem fb_cw_w (nf mf : Nat → Int32) {w j : Nat} (hw : w < 12) (hj : j < 12) : fb_rg (fb_mw (fb_cp nf mf 12) w j) = fb_sh (fb_rg nf) w j := by rw [fb_mw_sh _ hw hj, fb_rg_cp]
theorem fb_cw_n (nf mf : Nat → Int32) {w j : Nat} (hw : w < 12) (v : Int32) : fb_rg (fb_pn (fb_cp nf mf 12) w j v) = fb_ep (upd (fb_rg nf) j v) w := by
  unfold fb_pn
  rw [fb_gw_ep _ hw]
  refine fb_ep_cg (fun k hk _ => ?_)
  by_cases e : k = j
  · subst e
    rw [pk_us, pk_us]
  · rw [pk_un e, pk_un e, fb_rg_lt hk]
    exact if_pos hk
theorem fb_cw_t (uf vf : Nat → Int32) (j : Nat) : fb_rg (fb_t1 (fb_cp uf vf 12) j) = fb_rg (fb_t1 (fb_rg uf) j) := by rw [fb_rg_t1, fb_rg_cp]
abbrev fb_YW (cI : ClassId) (x h h2 n o d f : Nat) (nf uf df tf : Nat → Int32) (w dy : Int32) : va_W := [(x, .inr (1, [.ref h, .ref h2])), (h, .inr (0, [.ref n, .ref o, .ref d, .ref f, .int w, .int dy])), (n, .inl (cI, 12, .inl nf)), (o, .inl (cI, 12, .inl uf)), (d, .inl (cI, 12, .inl df)), (f, .inl (cI, 12, .inl tf))]
abbrev fb_XW (cI : ClassId) (x h n o d f h2 n2 o2 d2 f2 : Nat) (nf uf df tf : Nat → Int32) (w dy : Int32) (mf vf ef sf : Nat → Int32) (tw ty : Int32) : va_W := [(x, .inr (1, [.ref h, .ref h2])), (h, .inr (0, [.ref n, .ref o, .ref d, .ref f, .int w, .int dy])), (n, .inl (cI, 12, .inl nf)), (o, .inl (cI, 12, .inl uf)), (d, .inl (cI, 12, .inl df)), (f, .inl (cI, 12, .inl tf)), (h2, .inr (0, [.ref n2, .ref o2, .ref d2, .ref f2, .int tw, .int ty])), (n2, .inl (cI, 12, .inl mf)), (o2, .inl (cI, 12, .inl vf)), (d2, .inl (cI, 12, .inl ef)), (f2, .inl (cI, 12, .inl sf))]
def fb_RV (l : Launch) (y : MethodName) (ws : List Cond) (fr lo : Nat) (av : List Value) (B : State → Prop) : Prop :=
  Met l y ws ({ frames := fr, cells := 0, slots := 0, locals := lo }) (va_Pc av B) (va_Sv (fun _ => True)) 0 0 (fun _ => False)
section FBV
variable {p : Program} {l : Launch} {e : Env} {R : Room} {s : State} {m : MethodId} {args : Array Value} {below : List Frame} {meth : Method} {c : Code} {H : Heap} {locs : List Loc} {cells slots : Nat} {Q : State → Prop}
variable {cc bytes : ByteArray} {pc : Nat} {ls : Array Slot} {rest st0 : List Value} {nL maxL index n fr lo : Nat} {Ts ws ws' : List Cond} {own C : String} {y : MethodName} {ret : Option FieldType} {b : Addr} {As av : List Value} {B : State → Prop}
theorem fb_rv_of (hy : plainName y.cls = true) (hw : ws = Cond.code y cc maxL ret :: ws') (hav : (lg_sl av).length ≤ maxL)
    (body : ∀ (p : Program) (e : Env) (s : State) (m : MethodId) (args : Array Value) (below : List Frame) (meth : Method) (c : Code), p.tables.exec = Jvm.exec → c.code = cc → meth.sig.returnType = ret → c.maxLocals = maxL → meth.locks = false → (∀ w ∈ ws, w.before args s = true) → s.vm.findClass y.cls = some m.cls → B s →
      ∀ ls, lv_has ls maxL (lv_args 0 av) → W p l e ({ frames := fr, cells := 0, slots := 0, locals := lo }) s m args below meth c s.heap [] 0 0 (MQ below (va_Sv (fun _ => True)) args s 0 0 (fun _ => False)) (F0 m 0 ls [])) : fb_RV l y ws fr lo av B := by
  refine Met.ofW (cc := cc) (maxL := maxL) (ret := ret) hy hw ?_
  intro p e s m args below meth c s₁ Bd hml hv
  obtain ⟨rfl, hB⟩ := hv
  have hl := lv_entry av (n := maxL) hav
  rw [lg_entry_eq]
  exact body p e s m _ below meth c Bd.exec Bd.bytes Bd.returns hml Bd.notSynchronized (atoms_spec (ws := ws) Bd.pre) (findClass_of_methodNamed Bd.named) hB _ hl
theorem fb_vret (hx : p.tables.exec = Jvm.exec) (hb : c.code = cc) (hr : meth.sig.returnType = none) (hlk : meth.locks = false) (hdg : decode cc pc = .ok (.return_, 1)) :
    W p l e R s m args below meth c s.heap [] 0 0 (MQ below (va_Sv (fun _ => True)) args s 0 0 (fun _ => False)) (F0 m pc ls []) :=
  W.vret hx hb hr (fun t ht _ => ⟨rfl, trivial, ht⟩) (fun q hq => absurd hq List.not_mem_nil) hdg hlk
theorem fb_rvV (S : CallFix p m c cc nL s args Ts own) (hM : fb_RV l y ws fr lo (.ref b :: As) B) (hT : GoodIn Ts (wsV own index C y ws)) (hw : ws = Cond.code y bytes maxL ret :: ws')
    (hd : y.cls = C ∧ y.cls ≠ "java/lang/invoke/MethodHandle" ∧ y.cls ≠ "java/lang/invoke/VarHandle" ∧ (parseMethodDescriptor y.desc).map (fun d => d.parameters.length) = some n) (hR : fr + 1 ≤ R.frames ∧ 8 + (maxL + 11) + lo ≤ R.locals)
    (hbl : fb_Bl B) (hrc : ∃ cellB : Cell, H[b]? = some cellB ∧ cellB.vm.isStatics = false ∧ s.vm.findClass C = some cellB.cls) (hB : ∀ U : State, U.heap = H → s.WarmedH U.vm → B U)
    (hn : As.length = n) (hsz : ls.size = nL) (hst : st0 = As.reverse ++ .ref b :: rest) (hW : (rest.map fun v => v.category).sum ≤ 8) (hdg : decode cc pc = .ok (.invokevirtual index, 3)) (hcs : cells ≤ R.cells ∧ slots ≤ R.slots)
    (kk : W p l e R s m args below meth c H locs cells slots Q (F0 m (pc + 3) ls rest)) : W p l e R s m args below meth c H locs cells slots Q (F0 m pc ls st0) :=
  va_csv (W.runV S hM (cwV n S.2.2.2.2 hT hw rfl rfl hd hR) ⟨fb_blind hbl, hrc, fun U hU hW => ⟨rfl, hB U hU hW⟩⟩ rfl hn hsz hst (lv_room hW) hdg ⟨hcs.1, hcs.2⟩) (fun _ => kk)
theorem fb_rvS (S : CallFix p m c cc nL s args Ts own) (hM : fb_RV l y ws fr lo As B) (hT : GoodIn Ts (va_wsS own index y ws)) (hw : ws = Cond.code y bytes maxL ret :: ws')
    (hd : y.cls ≠ "java/lang/invoke/MethodHandle" ∧ y.cls ≠ "java/lang/invoke/VarHandle" ∧ (parseMethodDescriptor y.desc).map (fun d => d.parameters.length) = some n) (hR : fr + 1 ≤ R.frames ∧ 8 + (maxL + 11) + lo ≤ R.locals)
    (hbl : fb_Bl B) (hB : ∀ U : State, U.heap = H → s.WarmedH U.vm → B U)
    (hn : As.length = n) (hsz : ls.size = nL) (hst : st0 = As.reverse ++ rest) (hW : (rest.map fun v => v.category).sum ≤ 8) (hdg : decode cc pc = .ok (.invokestatic index, 3)) (hcs : cells ≤ R.cells ∧ slots ≤ R.slots)
    (kk : W p l e R s m args below meth c H locs cells slots Q (F0 m (pc + 3) ls rest)) : W p l e R s m args below meth c H locs cells slots Q (F0 m pc ls st0) :=
  va_csv (W.runS S hM (va_cwS n S.2.2.2.2 hT hw rfl rfl hd hR) ⟨fb_blind hbl, fun U hU hW => ⟨rfl, hB U hU hW⟩⟩ rfl hn hsz hst (lv_room hW) hdg ⟨hcs.1, hcs.2⟩) (fun _ => kk)
end FBV
theorem fb_w0 {q n : Nat} (h : q < n) (hn : n < 2 ^ 31) : ¬ nI q < 0 ∧ nI q < nI n := ⟨nI_pos (by omega), nI_lt h hn⟩
theorem fb_w2 {q a n : Nat} (h0 : a ≤ q) (h : q < n) (hn : n < 2 ^ 31) : ¬ nI q < nI a ∧ nI q < nI n := ⟨nI_nlt h0 (by omega), nI_lt h hn⟩
theorem fb_g1 {q a n : Nat} (h0 : a ≤ q) (h : q ≤ n) (hn : n < 2 ^ 31) : ¬ nI q < nI a ∧ nI q ≤ nI n := ⟨nI_nlt h0 (by omega), nI_le h hn⟩
theorem fb_gv {v a z : Int32} (h : ¬ (v < a ∨ z < v)) : ¬ v < a ∧ v ≤ z := ⟨fun e => h (Or.inl e), Int32.not_lt.mp (fun e => h (Or.inr e))⟩
