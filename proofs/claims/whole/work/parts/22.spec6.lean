def fb_o12 : Nat → Int32 := upd (upd (upd (upd (upd (upd (upd (upd (upd (upd (upd (upd fb_z 0 1) 1 1) 2 1) 3 1) 4 1) 5 1) 6 1) 7 1) 8 1) 9 1) 10 1) 11 1
theorem fb_o12_on : fb_rg fb_o12 = fb_rg (fb_on 12) := fb_rg_eq (by decide +kernel)
theorem fb_start_ep : fb_rg (upd fb_z 11 24) = fb_ep fb_z 11 := by
  funext k
  show (if k % 12 = 11 then 24 else fb_z (k % 12)) = (if k % 12 = 11 then fb_lf (fb_rg fb_z) 11 12 else fb_rg fb_z k)
  rw [show fb_lf (fb_rg fb_z) 11 12 = 24 from by decide +kernel]
  rfl
section FBD
variable {p : Program} {l : Launch} {e : Env} {R : Room} {s : State} {m : MethodId} {args : Array Value} {below : List Frame} {meth : Method} {c : Code} {H : Heap} {locs : List Loc} {cells slots : Nat} {Q : State → Prop}
variable {cc bytes : ByteArray} {pc : Nat} {ls : Array Slot} {rest st0 : List Value} {nL maxL index n fr lo sz mc ms : Nat} {Ts ws ws' : List Cond} {own C : String} {y : MethodName} {ret : Option FieldType} {b : Addr} {As av : List Value} {G : va_G} {cI cL : ClassId} {w0 wa wc wr : va_W} {A : Nat → Prop}
theorem fb_md_of {Qc : (Nat → Prop) → Array Value → State → Outcome → State → Prop} (hy : plainName y.cls = true) (hw : ws = Cond.code y cc maxL ret :: ws') (hav : (lg_sl av).length ≤ maxL)
    (body : ∀ (p : Program) (e : Env) (s : State) (m : MethodId) (args : Array Value) (below : List Frame) (meth : Method) (c : Code) (A : Nat → Prop), p.tables.exec = Jvm.exec → c.code = cc → meth.sig.returnType = ret → c.maxLocals = maxL → meth.locks = false → (∀ w ∈ ws, w.before args (s.setDrawn s.drawn) = true) → (s.setDrawn s.drawn).vm.findClass y.cls = some m.cls →
      va_P G vwCl w0 s.heap → va_K G vwCl (fb_ty cI cL) (s.setDrawn s.drawn) → va_D A w0 → (∀ q, s.heap.size ≤ q → A q) → fb_sx A (s.setDrawn s.drawn) s.heap → s.drawn.sameBut s.drawn lw_cs →
      ∀ ls, lv_has ls maxL (lv_args 0 av) → W p l e ({ frames := fr, cells := 0, slots := 0, locals := lo }) (s.setDrawn s.drawn) m args below meth c s.heap [] 0 0 (MQD lw_cs below (Qc A) args s 0 0 A) (F0 m 0 ls [])) : fb_MD l y ws fr lo av G cI cL sz w0 Qc := by
  refine MetD.ofW (cc := cc) (maxL := maxL) (ret := ret) hy hw ?_
  intro p e s m args below meth c s₁ Bd hml hv hd0
  obtain ⟨rfl, hsz, hP, hK, hD0, hX⟩ := hv
  subst hsz
  have hl := lv_entry av (n := maxL) hav
  rw [lg_entry_eq]
  exact body p e s m _ below meth c (va_A w0 s.heap.size) Bd.exec Bd.bytes Bd.returns hml Bd.notSynchronized (dr_words (atoms_spec (ws := ws) Bd.pre) _) (findClass_of_methodNamed Bd.named) hP hK hD0.self (fun q h => Or.inr h) hX hd0 _ hl
end FBD
