/-! the law: what holds at each turn of its loop -/
abbrev fb_lA (s : State) : Nat → Prop := fun q => s.heap.size ≤ q
def fb_At (p : Program) (s : State) (m : MethodId) (meth : Method) (c : Code) (b L : Nat) (xs : Nat → Int32) (G : va_G) (cI cL : ClassId) : Prop :=
  p.tables.exec = Jvm.exec ∧ c.code = cL_law ∧ meth.sig.returnType = ret ∧ c.maxLocals = 9 ∧ s.vm.findClass RL = some m.cls ∧ (∀ w ∈ wsL_law, w.before #[Value.ref b] s = true) ∧ va_X b L xs s s.heap ∧ b < s.heap.size ∧ meth.locks = false ∧ va_K G vwCl (fb_ty cI cL) s ∧ fb_sx (fb_lA s) s s.heap ∧ fb_xx (fb_lA s) s s.heap
theorem fb_At.drawn {p : Program} {s : State} {m : MethodId} {meth : Method} {c : Code} {b L : Nat} {xs : Nat → Int32} {G : va_G} {cI cL : ClassId} (h : fb_At p s m meth c b L xs G cI cL) (d : Drawn) : fb_At p (s.setDrawn d) m meth c b L xs G cI cL := by
  obtain ⟨h1, h2, h3, h4, h5, h6, h7, h8, h9, h10, h11, h12⟩ := h
  exact ⟨h1, h2, h3, h4, h5, dr_words h6 d, h7, h8, h9, va_K.moved (u := s) (U := s.setDrawn d) (Vm.Alike.refl s.vm) h10, fb_sx.moved (u := s) (U := s.setDrawn d) (State.WarmedH.refl s) h11, fb_xx.moved (u := s) (U := s.setDrawn d) (State.WarmedH.refl s) h12⟩
abbrev fb_LW (cI cL : ClassId) (x h n o d f h2 n2 o2 d2 f2 a0 : Nat) (nf uf df tf : Nat → Int32) (w dy : Int32) (mf vf ef sf : Nat → Int32) (tw ty : Int32) (fo : Nat → Int64) (y n3 d3 f3 o3 : Nat) (pf df3 tf3 uf3 : Nat → Int32) (th : Int32) : va_W := [(x, .inr (1, [.ref h, .ref h2])), (h, .inr (0, [.ref n, .ref o, .ref d, .ref f, .int w, .int dy])), (n, .inl (cI, 12, .inl nf)), (o, .inl (cI, 12, .inl uf)), (d, .inl (cI, 12, .inl df)), (f, .inl (cI, 12, .inl tf)), (h2, .inr (0, [.ref n2, .ref o2, .ref d2, .ref f2, .int tw, .int ty])), (n2, .inl (cI, 12, .inl mf)), (o2, .inl (cI, 12, .inl vf)), (d2, .inl (cI, 12, .inl ef)), (f2, .inl (cI, 12, .inl sf)), (a0, .inl (cL, 1, .inr (.inl fo))), (y, .inr (2, [.int th, .int dy, .int w, .ref n3, .ref d3, .ref f3, .ref o3])), (n3, .inl (cI, 12, .inl pf)), (d3, .inl (cI, 12, .inl df3)), (f3, .inl (cI, 12, .inl tf3)), (o3, .inl (cI, 12, .inl uf3))]
def fb_LI (G : va_G) (cI cL : ClassId) (s : State) (H : Heap) (locs : List Loc) (x y a0 : Nat) : Prop :=
  ∃ (h n o d f h2 n2 o2 d2 f2 : Nat) (nf uf df tf : Nat → Int32) (w : Nat) (dy : Int32) (mf vf ef sf : Nat → Int32) (tw ty : Int32) (fo : Nat → Int64) (n3 d3 f3 o3 : Nat) (pf df3 tf3 uf3 : Nat → Int32) (th : Int32),
    fb_Iv nf uf df tf w pf df3 tf3 uf3 ∧ va_P G vwCl (fb_LW cI cL x h n o d f h2 n2 o2 d2 f2 a0 nf uf df tf (nI w) dy mf vf ef sf tw ty fo y n3 d3 f3 o3 pf df3 tf3 uf3 th) H ∧ va_D (fb_lA s) (fb_LW cI cL x h n o d f h2 n2 o2 d2 f2 a0 nf uf df tf (nI w) dy mf vf ef sf tw ty fo y n3 d3 f3 o3 pf df3 tf3 uf3 th) ∧ va_S (fb_lA s) s.heap H locs
theorem fb_lc {a b : Int64} (h : a = b) : lg_cmp a b = 0 := by
  subst h
  unfold lg_cmp
  rw [if_neg (by simp), if_pos rfl]
theorem fb_nt {v : Int32} {a z : Nat} (hz : z < 2 ^ 31) (ha : a < 2 ^ 31) (h : ¬ (v < nI a ∨ nI z < v)) : ∃ j : Nat, a ≤ j ∧ j ≤ z ∧ v = nI j := by
  have h1 := fb_ge (fun e => h (Or.inl e))
  have h2 := fb_ge (fun e => h (Or.inr e))
  rw [nI_toInt ha] at h1
  rw [nI_toInt hz] at h2
  obtain ⟨j, hj, rfl⟩ := nI_of (x := v) (fun e => by
    have h3 := Int32.lt_iff_toInt_lt.mp e
    have e0 : (0 : Int32).toInt = 0 := by decide
    omega)
  rw [nI_toInt hj] at h1 h2
  exact ⟨j, by omega, by omega, rfl⟩
section FBGD
variable {p : Program} {l : Launch} {e : Env} {R : Room} {s : State} {m : MethodId} {args : Array Value} {below : List Frame} {meth : Method} {c : Code} {H : Heap} {locs : List Loc} {cells slots : Nat} {Q : State → Prop}
variable {cc bytes : ByteArray} {pc : Nat} {ls : Array Slot} {rest st0 : List Value} {nL maxL index n fr lo : Nat} {Ts ws ws' : List Cond} {own C : String} {y : MethodName} {ret : Option FieldType} {b : Addr} {As : List Value} {G : va_G} {cI cL : ClassId} {wa wc wr : va_W} {A : Nat → Prop}
theorem fb_gdV {S : Type} {w1 wz : S → va_W} {v : UInt64} {pp : S → Prop} (F : CallFix p m c cc nL s args Ts own) (hM : fb_MD l y ws fr lo (.ref b :: As) G cI cL H.size wc (fb_qd G w1 v pp)) (hT : GoodIn Ts (wsV own index C y ws)) (hw : ws = Cond.code y bytes maxL ret :: ws')
    (hd : y.cls = C ∧ y.cls ≠ "java/lang/invoke/MethodHandle" ∧ y.cls ≠ "java/lang/invoke/VarHandle" ∧ (parseMethodDescriptor y.desc).map (fun d => d.parameters.length) = some n) (hR : fr + 1 ≤ R.frames ∧ 8 + (maxL + 11) + lo ≤ R.locals)
    (hrc : ∃ cellB : Cell, H[b]? = some cellB ∧ cellB.vm.isStatics = false ∧ s.vm.findClass C = some cellB.cls) (hP : va_P G vwCl wa H) (hK : va_K G vwCl (fb_ty cI cL) s) (hD : va_D A wa) (hS : va_S A s.heap H locs) (hA : ∀ q, s.heap.size ≤ q → A q) (hX : fb_sx A s s.heap)
    (isC isR pm : List Nat) (hC : isC.map (fun i => wa[i]?) = wc.map some) (hRr : isR.map (fun i => wa[i]?) = wr.map some) (hpm : ∀ u, pm.map (fun i => (wr ++ w1 u)[i]?) = (wz u).map some) (hnd : va_nd isC = true) (hnr : va_nd isR = true) (hnp : va_nd pm = true) (hdis : ∀ i ∈ isR, i ∉ isC)
    (hn : As.length = n) (hsz : ls.size = nL) (hst : st0 = As.reverse ++ .ref b :: rest) (hW : (rest.map fun v => v.category).sum ≤ 8) (hdg : decode cc pc = .ok (.invokevirtual index, 3)) (hcs : cells + 0 ≤ R.cells ∧ slots + 0 ≤ R.slots)
    (kk : ∀ (r : UInt64) (u : S) (H1 : Heap) (locs1 : List Loc), alike64 r v = true → pp u → va_P G vwCl (wz u) H1 → va_D A (wz u) → va_S A s.heap H1 locs1 → ∀ d9 : Drawn, s.drawn.sameBut d9 lw_cs → W p l e R (s.setDrawn d9) m args below meth c H1 locs1 (cells + 0) (slots + 0) Q (F0 m (pc + 3) ls (.double r :: rest))) : W p l e R s m args below meth c H locs cells slots Q (F0 m pc ls st0) := by
  have hPc := hP.sub isC (fb_fm_of hC)
  have hDc : va_D (fun _ => True) wc := (hD.sub isC hnd hC).weaken (fun _ _ _ _ => trivial)
  have hFc := va_free hD hS hA isC hC
  refine va_calld_D (va_runV_D F hM (cwV n F.2.2.2.2 hT hw rfl rfl hd hR) ⟨fb_blind (fb_PM.bl _ _ _ _ _), hrc, fun U hU hW => ⟨rfl, by rw [hU], by rw [hU]; exact hPc, va_K.moved hW.alike hK, hDc, by rw [hU]; exact ((hX.kept hS.2.1).narrow hFc).moved hW⟩⟩ rfl hn hsz hst (lv_room hW) hdg hcs) hS (fun q _ h => hFc q h) hFc (fun r u t H1 locs1 ht hvm hr hB hz1 hk1 hS1 d9 hd9 => ?_)
  obtain ⟨hP1, hD1⟩ := hB
  obtain ⟨hr, hpp⟩ := hr
  rw [ht] at hP1
  obtain ⟨hP2, hD2⟩ := va_join hP hD isC isR hC hRr hnr hdis hk1 hFc hP1 hD1
  exact kk r u H1 locs1 hr hpp (hP2.sub pm (fb_fm_of (hpm u))) (hD2.sub pm hnp (hpm u)) hS1 d9 hd9
end FBGD
