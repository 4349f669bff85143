theorem fb_md_of2 {l : Launch} {cc : ByteArray} {maxL fr lo sz : Nat} {ws ws' : List Cond} {y : MethodName} {ret : Option FieldType} {av : List Value} {G : va_G} {cI cL : ClassId} {w0 : va_W} {Qc : (Nat → Prop) → Array Value → State → Outcome → State → Prop} (hy : plainName y.cls = true) (hw : ws = Cond.code y cc maxL ret :: ws') (hav : (lg_sl av).length ≤ maxL)
    (body : ∀ (p : Program) (e : Env) (s : State) (m : MethodId) (args : Array Value) (below : List Frame) (meth : Method) (c : Code) (A : Nat → Prop), p.tables.exec = Jvm.exec → c.code = cc → meth.sig.returnType = ret → c.maxLocals = maxL → meth.locks = false → (∀ w ∈ ws, w.before args s = true) → s.vm.findClass y.cls = some m.cls →
      va_P G vwCl w0 s.heap → va_K G vwCl (fb_ty cI cL) s → va_D A w0 → (∀ q, s.heap.size ≤ q → A q) → fb_sx A s s.heap → s.drawn.sameBut s.drawn lw_cs →
      ∀ ls, lv_has ls maxL (lv_args 0 av) → W p l e ({ frames := fr, cells := 0, slots := 0, locals := lo }) s m args below meth c s.heap [] 0 0 (MQD lw_cs below (Qc A) args s 0 0 A) (F0 m 0 ls [])) : fb_MD l y ws fr lo av G cI cL sz w0 Qc :=
  fb_md_of hy hw hav body
set_option maxHeartbeats 4000000 in
set_option maxRecDepth 100000 in
theorem fb_c_X1_mean (l : Launch) (G : va_G) (cI cL : ClassId) (x h h2 n o d f : Nat) (nf uf df tf : Nat → Int32) (w : Nat) (dy : Int32) (hw : w < 12) (sz : Nat) : fb_MD l yX1_mean wsX1_mean 4 89 [.ref x] G cI cL sz (fb_YW cI x h h2 n o d f nf uf df tf (nI w) dy) (fb_qd G (S := Unit) (fun _ => (fb_YW cI x h h2 n o d f nf uf df tf (nI w) dy)) (FP.ddiv (FP.i2d (fb_su (fb_rg nf) (fb_rg uf) 12)) 4622945017495814144) (fun _ => True)) := by
  refine fb_md_of2 (cc := cX1_mean) (maxL := 3) (ret := (some .double)) (by decide) rfl (Nat.le_of_ble_eq_true rfl) ?_
  intro p e s m args below meth c A hx hb hr hml hlk hts hown hP hK hD hA hX hd0 ls hl
  have hown : s.vm.findClass RX1 = some m.cls := hown
  have hP : va_P G vwCl [(x, .inr (1, [.ref h, .ref h2])), (h, .inr (0, [.ref n, .ref o, .ref d, .ref f, .int (nI w), .int dy])), (n, .inl (cI, 12, .inl nf)), (o, .inl (cI, 12, .inl uf)), (d, .inl (cI, 12, .inl df)), (f, .inl (cI, 12, .inl tf))] s.heap := hP
  have hD : va_D A [(x, .inr (1, [.ref h, .ref h2])), (h, .inr (0, [.ref n, .ref o, .ref d, .ref f, .int (nI w), .int dy])), (n, .inl (cI, 12, .inl nf)), (o, .inl (cI, 12, .inl uf)), (d, .inl (cI, 12, .inl df)), (f, .inl (cI, 12, .inl tf))] := hD
  have hS : va_S A s.heap s.heap [] := va_S.rf
  have hXn : ∀ (H : Heap) (locs : List Loc), va_S A s.heap H locs → fb_sx (fun _ => False) s H := fun H locs h9 => (hX.kept h9.2.1).narrow (fun _ z => z.elim)
  have hl : lv_has ls 3 [(0, .ref x)] := hl
  have hin0 : ∀ w ∈ u_ws RX0 TX0 6, w ∈ wsX1_mean := by decide +kernel
  have hin1 : ∀ w ∈ u_ws RX1 TX1 2, w ∈ wsX1_mean := by decide +kernel
  refine lv_iconst (v := 0) hx hb dX1_mean_0 (by decide) ?_
  refine lv_istore_n (lv' := [(1, .int 0), (0, .ref x)]) hx hb dX1_mean_1 rfl hl (by decide) rfl (fun ls hl => ?_)
  refine lv_iconst (v := 0) hx hb dX1_mean_2 (by decide) ?_
  refine lv_istore_n (lv' := [(2, .int 0), (1, .int 0), (0, .ref x)]) hx hb dX1_mean_3 rfl hl (by decide) rfl (fun ls hl => ?_)
  have lp4 : ∀ (n9 i : Nat), i ≤ 12 → 12 < i + n9 → ∀ (H : Heap) (locs : List Loc), va_P G vwCl [(x, .inr (1, [.ref h, .ref h2])), (h, .inr (0, [.ref n, .ref o, .ref d, .ref f, .int (nI w), .int dy])), (n, .inl (cI, 12, .inl nf)), (o, .inl (cI, 12, .inl uf)), (d, .inl (cI, 12, .inl df)), (f, .inl (cI, 12, .inl tf))] H → va_D A [(x, .inr (1, [.ref h, .ref h2])), (h, .inr (0, [.ref n, .ref o, .ref d, .ref f, .int (nI w), .int dy])), (n, .inl (cI, 12, .inl nf)), (o, .inl (cI, 12, .inl uf)), (d, .inl (cI, 12, .inl df)), (f, .inl (cI, 12, .inl tf))] → va_S A s.heap H locs → ∀ ls : Array Slot, lv_has ls 3 [(2, .int (nI i)), (1, .int (fb_su (fb_rg nf) (fb_rg uf) i)), (0, .ref x)] → W p l e ({ frames := 4, cells := 0, slots := 0, locals := 89 }) s m args below meth c H locs 0 0 (MQD lw_cs below ((fb_qd G (S := Unit) (fun _ => (fb_YW cI x h h2 n o d f nf uf df tf (nI w) dy)) (FP.ddiv (FP.i2d (fb_su (fb_rg nf) (fb_rg uf) 12)) 4622945017495814144) (fun _ => True)) A) args s 0 0 A) (F0 m 4 ls []) := by
    intro n9
    induction n9 with
    | zero => intro i h1 h2; exact absurd h2 (by omega)
    | succ n9 ih4 =>
      intro i hi_i hin9 H locs hP hD hS ls hl
      refine lv_iload_n hx hb dX1_mean_4 rfl (lv_at hl 0 rfl) ?_
      refine lv_bipush (v := 12) hx hb dX1_mean_5 (by decide) ?_
      refine lv_icmp_ge (tgt := 27) hx hb dX1_mean_7 (by decide) (fun c7 => ?_) (fun c7 => ?_)
      · skip
        have hxi : i = 12 := fb_lp_ex (by decide) hi_i c7
        subst hxi
        refine lv_iload_n hx hb dX1_mean_27 rfl (lv_at hl 1 rfl) ?_
        refine lv_i2d hx hb dX1_mean_28 ?_
        refine lv_ldc2d (v := 4622945017495814144) hx hb hown (hts (.constantDouble RX1 138 (4622945017495814144)) (by decide +kernel)) dX1_mean_29 ?_
        refine W.base ?_
        refine lv_ddiv_any hd0 lw_bits hx hb dX1_mean_32 (fun r9 d9 hal9 hd1 => ?_)
        have hP9 := hP.sub (ws' := [(x, .inr (1, [.ref h, .ref h2])), (h, .inr (0, [.ref n, .ref o, .ref d, .ref f, .int (nI w), .int dy])), (n, .inl (cI, 12, .inl nf)), (o, .inl (cI, 12, .inl uf)), (d, .inl (cI, 12, .inl df)), (f, .inl (cI, 12, .inl tf))]) [0, 1, 2, 3, 4, 5] rfl
        have hD9 := hD.sub (ws' := [(x, .inr (1, [.ref h, .ref h2])), (h, .inr (0, [.ref n, .ref o, .ref d, .ref f, .int (nI w), .int dy])), (n, .inl (cI, 12, .inl nf)), (o, .inl (cI, 12, .inl uf)), (d, .inl (cI, 12, .inl df)), (f, .inl (cI, 12, .inl tf))]) [0, 1, 2, 3, 4, 5] (by decide) rfl
        refine W.endD hd1 ?_
        exact W.dret (v := r9) hx hb hr (fun t ht hW => ⟨⟨r9, (), rfl, ⟨hal9, trivial⟩, by rw [ht]; exact hP9, hD9⟩, hS.F ht⟩) hS.2.2 dX1_mean_33 hlk
      · skip
        have hi12 : i < 12 := fb_lp_in (by decide) hi_i c7
        refine lv_iload_n hx hb dX1_mean_10 rfl (lv_at hl 1 rfl) ?_
        refine lv_aload_n hx hb dX1_mean_11 rfl (lv_at hl 2 rfl) ?_
        refine va_get (D := G) (ci := 1) (v := .ref h) (C := RX1) (T := TX1) (N := 2) hx hb hts (hin1) hown hK hP 0 rfl rfl 0 (by decide) (hts (.fieldLink RX1 10 "FifthBeats" "piano" "LFifthBeats$Piano;") (by decide +kernel)) (fun _ h9 => h9) rfl dX1_mean_12 ?_
        refine lv_iload_n hx hb dX1_mean_15 rfl (lv_at hl 0 rfl) ?_
        refine fb_roV (As := [.int (nI i)]) (rest := [.int (fb_su (fb_rg nf) (fb_rg uf) i)]) (n := 1) ⟨hx, hb, hml, hown, hts⟩ (fb_c_X0_sourness l G cI cL h n o d f nf uf df tf w dy i (by omega)) gX1_mean_X0_sourness rfl (by decide +kernel) (by decide) (fb_PB.bl _ _ _ _) (va_recv hK hP (ci := 0) (q0 := 1) rfl rfl) (fb_PB.to (hP.sub (ws' := [(h, .inr (0, [.ref n, .ref o, .ref d, .ref f, .int (nI w), .int dy])), (n, .inl (cI, 12, .inl nf)), (o, .inl (cI, 12, .inl uf)), (d, .inl (cI, 12, .inl df)), (f, .inl (cI, 12, .inl tf))]) [1, 2, 3, 4, 5] rfl) hK (hXn _ _ hS)) rfl hl.1 rfl (Nat.le_of_ble_eq_true rfl) dX1_mean_16 (by decide) ?_
        refine lv_iadd hx hb dX1_mean_19 ?_
        refine lv_istore_n (lv' := [(1, .int ((fb_su (fb_rg nf) (fb_rg uf) i) + (fb_so (fb_rg nf) (fb_rg uf) i))), (2, .int (nI i)), (0, .ref x)]) hx hb dX1_mean_20 rfl hl (by decide) rfl (fun ls hl => ?_)
        refine lv_iinc (v := nI (i + 1)) (lv' := [(2, .int (nI (i + 1))), (1, .int ((fb_su (fb_rg nf) (fb_rg uf) i) + (fb_so (fb_rg nf) (fb_rg uf) i))), (0, .ref x)]) hx hb dX1_mean_21 hl (k := 1) rfl (show nI i + 1 = nI (i + 1) from nI_1 i) (by decide) rfl (fun ls hl => ?_)
        refine lv_goto (tgt := 4) hx hb dX1_mean_24 (by decide) ?_
        exact ih4 (i + 1) (by omega) (by omega) _ _ (hP) (hD) hS _ (lv_sub hl [0, 1, 2] (rfl))
  exact lp4 (12 + 1) 0 (by omega) (by omega) _ _ (hP) (hD) hS _ (lv_sub hl [0, 1, 2] (rfl))
set_option maxHeartbeats 4000000 in
set_option maxRecDepth 100000 in
theorem fb_c_X2_mean (l : Launch) (G : va_G) (cI cL : ClassId) (h n d f o : Nat) (pf df tf uf : Nat → Int32) (th dy : Int32) (w : Nat) (hw : w < 12) (sz : Nat) : fb_MD l yX2_mean wsX2_mean 4 90 [.ref h] G cI cL sz (fb_MW cI h n d f o pf df tf uf th dy (nI w)) (fb_qd G (S := Unit) (fun _ => (fb_MW cI h n d f o pf df tf uf 0 dy (nI w))) (FP.ddiv (FP.i2d (fb_su (fb_ep pf w) (fb_rg uf) 12)) 4622945017495814144) (fun _ => True)) := by
  refine fb_md_of2 (cc := cX2_mean) (maxL := 3) (ret := (some .double)) (by decide) rfl (Nat.le_of_ble_eq_true rfl) ?_
  intro p e s m args below meth c A hx hb hr hml hlk hts hown hP hK hD hA hX hd0 ls hl
  have hown : s.vm.findClass RX2 = some m.cls := hown
  have hP : va_P G vwCl [(h, .inr (2, [.int th, .int dy, .int (nI w), .ref n, .ref d, .ref f, .ref o])), (n, .inl (cI, 12, .inl pf)), (d, .inl (cI, 12, .inl df)), (f, .inl (cI, 12, .inl tf)), (o, .inl (cI, 12, .inl uf))] s.heap := hP
  have hD : va_D A [(h, .inr (2, [.int th, .int dy, .int (nI w), .ref n, .ref d, .ref f, .ref o])), (n, .inl (cI, 12, .inl pf)), (d, .inl (cI, 12, .inl df)), (f, .inl (cI, 12, .inl tf)), (o, .inl (cI, 12, .inl uf))] := hD
  have hS : va_S A s.heap s.heap [] := va_S.rf
  have hXn : ∀ (H : Heap) (locs : List Loc), va_S A s.heap H locs → fb_sx (fun _ => False) s H := fun H locs h9 => (hX.kept h9.2.1).narrow (fun _ z => z.elim)
  have hl : lv_has ls 3 [(0, .ref h)] := hl
  have hin2 : ∀ w ∈ u_ws RX2 TX2 7, w ∈ wsX2_mean := by decide +kernel
  refine lv_aload_n hx hb dX2_mean_0 rfl (lv_at hl 0 rfl) ?_
  refine lv_iconst (v := 0) hx hb dX2_mean_1 (by decide) ?_
  refine va_put (D := G) (ci := 2) (v := .int 0) (ty := .int) (C := RX2) (T := TX2) (N := 7) hx hb hts (hin2) tyX2 tyX2_ok nmX2 hown hK hP hD hS 0 rfl rfl 0 (by decide) (hts (.fieldLink RX2 26 "FifthBeatsModel" "thrown" "I") (by decide +kernel)) (fun _ h9 => h9) rfl (by decide +kernel) rfl rfl (Nat.le_of_ble_eq_true rfl) dX2_mean_2 (fun H locs hP hD hS => ?_)
  have hP : va_P G vwCl [(h, .inr (2, [.int 0, .int dy, .int (nI w), .ref n, .ref d, .ref f, .ref o])), (n, .inl (cI, 12, .inl pf)), (d, .inl (cI, 12, .inl df)), (f, .inl (cI, 12, .inl tf)), (o, .inl (cI, 12, .inl uf))] H := hP
  have hD : va_D A [(h, .inr (2, [.int 0, .int dy, .int (nI w), .ref n, .ref d, .ref f, .ref o])), (n, .inl (cI, 12, .inl pf)), (d, .inl (cI, 12, .inl df)), (f, .inl (cI, 12, .inl tf)), (o, .inl (cI, 12, .inl uf))] := hD
  refine lv_iconst (v := 0) hx hb dX2_mean_5 (by decide) ?_
  refine lv_istore_n (lv' := [(1, .int 0), (0, .ref h)]) hx hb dX2_mean_6 rfl hl (by decide) rfl (fun ls hl => ?_)
  refine lv_iconst (v := 0) hx hb dX2_mean_7 (by decide) ?_
  refine lv_istore_n (lv' := [(2, .int 0), (1, .int 0), (0, .ref h)]) hx hb dX2_mean_8 rfl hl (by decide) rfl (fun ls hl => ?_)
  have lp9 : ∀ (n9 i : Nat), i ≤ 12 → 12 < i + n9 → ∀ (H : Heap) (locs : List Loc), va_P G vwCl [(h, .inr (2, [.int 0, .int dy, .int (nI w), .ref n, .ref d, .ref f, .ref o])), (n, .inl (cI, 12, .inl pf)), (d, .inl (cI, 12, .inl df)), (f, .inl (cI, 12, .inl tf)), (o, .inl (cI, 12, .inl uf))] H → va_D A [(h, .inr (2, [.int 0, .int dy, .int (nI w), .ref n, .ref d, .ref f, .ref o])), (n, .inl (cI, 12, .inl pf)), (d, .inl (cI, 12, .inl df)), (f, .inl (cI, 12, .inl tf)), (o, .inl (cI, 12, .inl uf))] → va_S A s.heap H locs → ∀ ls : Array Slot, lv_has ls 3 [(2, .int (nI i)), (1, .int (fb_su (fb_ep pf w) (fb_rg uf) i)), (0, .ref h)] → W p l e ({ frames := 4, cells := 0, slots := 0, locals := 90 }) s m args below meth c H locs 0 0 (MQD lw_cs below ((fb_qd G (S := Unit) (fun _ => (fb_MW cI h n d f o pf df tf uf 0 dy (nI w))) (FP.ddiv (FP.i2d (fb_su (fb_ep pf w) (fb_rg uf) 12)) 4622945017495814144) (fun _ => True)) A) args s 0 0 A) (F0 m 9 ls []) := by
    intro n9
    induction n9 with
    | zero => intro i h1 h2; exact absurd h2 (by omega)
    | succ n9 ih9 =>
      intro i hi_i hin9 H locs hP hD hS ls hl
      refine lv_iload_n hx hb dX2_mean_9 rfl (lv_at hl 0 rfl) ?_
      refine lv_bipush (v := 12) hx hb dX2_mean_10 (by decide) ?_
      refine lv_icmp_ge (tgt := 29) hx hb dX2_mean_12 (by decide) (fun c12 => ?_) (fun c12 => ?_)
      · skip
        have hxi : i = 12 := fb_lp_ex (by decide) hi_i c12
        subst hxi
        refine lv_iload_n hx hb dX2_mean_29 rfl (lv_at hl 1 rfl) ?_
        refine lv_i2d hx hb dX2_mean_30 ?_
        refine lv_ldc2d (v := 4622945017495814144) hx hb hown (hts (.constantDouble RX2 147 (4622945017495814144)) (by decide +kernel)) dX2_mean_31 ?_
        refine W.base ?_
        refine lv_ddiv_any hd0 lw_bits hx hb dX2_mean_34 (fun r9 d9 hal9 hd1 => ?_)
        have hP9 := hP.sub (ws' := [(h, .inr (2, [.int 0, .int dy, .int (nI w), .ref n, .ref d, .ref f, .ref o])), (n, .inl (cI, 12, .inl pf)), (d, .inl (cI, 12, .inl df)), (f, .inl (cI, 12, .inl tf)), (o, .inl (cI, 12, .inl uf))]) [0, 1, 2, 3, 4] rfl
        have hD9 := hD.sub (ws' := [(h, .inr (2, [.int 0, .int dy, .int (nI w), .ref n, .ref d, .ref f, .ref o])), (n, .inl (cI, 12, .inl pf)), (d, .inl (cI, 12, .inl df)), (f, .inl (cI, 12, .inl tf)), (o, .inl (cI, 12, .inl uf))]) [0, 1, 2, 3, 4] (by decide) rfl
        refine W.endD hd1 ?_
        exact W.dret (v := r9) hx hb hr (fun t ht hW => ⟨⟨r9, (), rfl, ⟨hal9, trivial⟩, by rw [ht]; exact hP9, hD9⟩, hS.F ht⟩) hS.2.2 dX2_mean_35 hlk
      · skip
        have hi12 : i < 12 := fb_lp_in (by decide) hi_i c12
        refine lv_iload_n hx hb dX2_mean_15 rfl (lv_at hl 1 rfl) ?_
        refine lv_aload_n hx hb dX2_mean_16 rfl (lv_at hl 2 rfl) ?_
        refine lv_iload_n hx hb dX2_mean_17 rfl (lv_at hl 0 rfl) ?_
        refine fb_roV (As := [.int (nI i)]) (rest := [.int (fb_su (fb_ep pf w) (fb_rg uf) i)]) (n := 1) ⟨hx, hb, hml, hown, hts⟩ (fb_c_X2_sour l G cI cL h n d f o pf df tf uf 0 dy w i (by omega) hw) gX2_mean_X2_sour rfl (by decide +kernel) (by decide) (fb_PB.bl _ _ _ _) (va_recv hK hP (ci := 2) (q0 := 0) rfl rfl) (fb_PB.to hP hK (hXn _ _ hS)) rfl hl.1 rfl (Nat.le_of_ble_eq_true rfl) dX2_mean_18 (by decide) ?_
        refine lv_iadd hx hb dX2_mean_21 ?_
        refine lv_istore_n (lv' := [(1, .int ((fb_su (fb_ep pf w) (fb_rg uf) i) + (fb_so (fb_ep pf w) (fb_rg uf) i))), (2, .int (nI i)), (0, .ref h)]) hx hb dX2_mean_22 rfl hl (by decide) rfl (fun ls hl => ?_)
        refine lv_iinc (v := nI (i + 1)) (lv' := [(2, .int (nI (i + 1))), (1, .int ((fb_su (fb_ep pf w) (fb_rg uf) i) + (fb_so (fb_ep pf w) (fb_rg uf) i))), (0, .ref h)]) hx hb dX2_mean_23 hl (k := 1) rfl (show nI i + 1 = nI (i + 1) from nI_1 i) (by decide) rfl (fun ls hl => ?_)
        refine lv_goto (tgt := 9) hx hb dX2_mean_26 (by decide) ?_
        exact ih9 (i + 1) (by omega) (by omega) _ _ (hP) (hD) hS _ (lv_sub hl [0, 1, 2] (rfl))
  exact lp9 (12 + 1) 0 (by omega) (by omega) _ _ (hP) (hD) hS _ (lv_sub hl [0, 1, 2] (rfl))
