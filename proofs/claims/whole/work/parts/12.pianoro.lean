theorem fb_ro_ofF {l : Launch} {y : MethodName} {ws ws' : List Cond} {fr lo maxL : Nat} {av : List Value} {B : State → Prop} {v : Value} {cc : ByteArray} {ret : Option FieldType} (hy : plainFor y = true) (hw : ws = Cond.code y cc maxL ret :: ws') (hav : (lg_sl av).length ≤ maxL)
    (body : ∀ (p : Program) (e : Env) (s : State) (m : MethodId) (args : Array Value) (below : List Frame) (meth : Method) (c : Code), p.tables.exec = Jvm.exec → c.code = cc → meth.sig.returnType = ret → c.maxLocals = maxL → meth.locks = false → (∀ w ∈ ws, w.before args s = true) → s.vm.findClass y.cls = some m.cls → B s →
      ∀ ls, lv_has ls maxL (lv_args 0 av) → W p l e ({ frames := fr, cells := 0, slots := 0, locals := lo }) s m args below meth c s.heap [] 0 0 (MQ below (k2_QcV v) args s 0 0 (fun _ => False)) (F0 m 0 ls [])) : fb_RO l y ws fr lo av B v := by
  refine va_MetF (cc := cc) (maxL := maxL) (ret := ret) hy hw ?_
  intro p e s m args below meth c s₁ Bd hml hv
  obtain ⟨rfl, hB⟩ := hv
  have hl := lv_entry av (n := maxL) hav
  rw [lg_entry_eq]
  exact body p e s m _ below meth c Bd.exec Bd.bytes Bd.returns hml Bd.notSynchronized (atoms_spec (ws := ws) Bd.pre) (findClass_of_methodNamed Bd.named) hB _ hl
set_option maxHeartbeats 4000000 in
set_option maxRecDepth 100000 in
theorem fb_c_J9_floorMod (l : Launch) (x y : Int32) (hy : ¬ y = 0) : fb_RO l yJ9_floorMod_7cf53 wsJ9_floorMod_7cf53 0 0 [.int x, .int y] (fun _ => True) (.int (fb_fm x y)) := by
  refine fb_ro_ofF (cc := cJ9_floorMod_7cf53) (maxL := 3) (ret := (some .int)) (by decide +kernel) rfl (Nat.le_of_ble_eq_true rfl) ?_
  intro p e s m args below meth c hx hb hr hml hlk hts hown hB ls hl
  have hl : lv_has ls 3 [(0, .int x), (1, .int y)] := hl
  refine lv_iload_n hx hb dJ9_floorMod_7cf53_0 rfl (lv_at hl 0 rfl) ?_
  refine lv_iload_n hx hb dJ9_floorMod_7cf53_1 rfl (lv_at hl 1 rfl) ?_
  refine lv_irem hx hb dJ9_floorMod_7cf53_2 (hy) ?_
  refine fb_ti (z := fb_rm x y) (rfl) ?_
  refine lv_istore_n (lv' := [(2, .int (fb_rm x y)), (0, .int x), (1, .int y)]) hx hb dJ9_floorMod_7cf53_3 rfl hl (by decide) rfl (fun ls hl => ?_)
  refine lv_iload_n hx hb dJ9_floorMod_7cf53_4 rfl (lv_at hl 1 rfl) ?_
  refine lv_iload_n hx hb dJ9_floorMod_7cf53_5 rfl (lv_at hl 2 rfl) ?_
  refine lv_ixor hx hb dJ9_floorMod_7cf53_6 ?_
  refine lv_if_ge (tgt := 18) hx hb dJ9_floorMod_7cf53_7 (by decide) (fun c7 => ?_) (fun c7 => ?_)
  · skip
    refine lv_iload_n hx hb dJ9_floorMod_7cf53_18 rfl (lv_at hl 0 rfl) ?_
    exact fb_iret hx hb hr hlk dJ9_floorMod_7cf53_19 (by unfold fb_fm; rw [if_pos c7])
  · skip
    refine lv_iload_n hx hb dJ9_floorMod_7cf53_10 rfl (lv_at hl 0 rfl) ?_
    refine lv_if_eq (tgt := 18) hx hb dJ9_floorMod_7cf53_11 (by decide) (fun c11 => ?_) (fun c11 => ?_)
    · skip
      refine lv_iload_n hx hb dJ9_floorMod_7cf53_18 rfl (lv_at hl 0 rfl) ?_
      exact fb_iret hx hb hr hlk dJ9_floorMod_7cf53_19 (by unfold fb_fm; rw [if_neg c7, if_pos c11])
    · skip
      refine lv_iload_n hx hb dJ9_floorMod_7cf53_14 rfl (lv_at hl 0 rfl) ?_
      refine lv_iload_n hx hb dJ9_floorMod_7cf53_15 rfl (lv_at hl 2 rfl) ?_
      refine lv_iadd hx hb dJ9_floorMod_7cf53_16 ?_
      exact fb_iret hx hb hr hlk dJ9_floorMod_7cf53_17 (by unfold fb_fm; rw [if_neg c7, if_neg c11])
set_option maxHeartbeats 4000000 in
set_option maxRecDepth 100000 in
theorem fb_c_X0_narrowness (l : Launch) (G : va_G) (cI cL : ClassId) (h n o d f : Nat) (nf uf df tf : Nat → Int32) (w : Nat) (dy : Int32) (j : Nat) (hj : j < 1000) : fb_RO l yX0_narrowness wsX0_narrowness 1 22 [.ref h, .int (nI j)] (fb_PB G cI cL (fb_PW cI h n o d f nf uf df tf (nI w) dy)) (.int (fb_na (fb_rg nf) (fb_rg uf) j)) := by
  refine fb_ro_of (cc := cX0_narrowness) (maxL := 4) (ret := (some .int)) (by decide) rfl (Nat.le_of_ble_eq_true rfl) ?_
  intro p e s m args below meth c hx hb hr hml hlk hts hown hB ls hl
  have hown : s.vm.findClass RX0 = some m.cls := hown
  obtain ⟨hP, hK, hX⟩ := hB
  have hP : va_P G vwCl [(h, .inr (0, [.ref n, .ref o, .ref d, .ref f, .int (nI w), .int dy])), (n, .inl (cI, 12, .inl nf)), (o, .inl (cI, 12, .inl uf)), (d, .inl (cI, 12, .inl df)), (f, .inl (cI, 12, .inl tf))] s.heap := hP
  have hl : lv_has ls 4 [(0, .ref h), (1, .int (nI j))] := hl
  have hin0 : ∀ w ∈ u_ws RX0 TX0 6, w ∈ wsX0_narrowness := by decide +kernel
  have hS9 : va_S (fun _ => False) s.heap s.heap [] := va_S.rf
  refine lv_iload_n hx hb dX0_narrowness_0 rfl (lv_at hl 1 rfl) ?_
  refine lv_bipush (v := 12) hx hb dX0_narrowness_1 (by decide) ?_
  refine fb_roS (As := [.int (nI j), .int 12]) (rest := []) (n := 2) ⟨hx, hb, hml, hown, hts⟩ (fb_c_J9_floorMod l (nI j) 12 (by decide)) gX0_narrowness_J9_floorMod_7cf53 rfl (by decide +kernel) (by decide) fb_Bl_T (fun _ _ _ => trivial) rfl hl.1 rfl (Nat.le_of_ble_eq_true rfl) dX0_narrowness_3 (by decide) ?_
  refine fb_ti (z := nI (j % 12)) (fb_fm_12 (by omega)) ?_
  refine lv_istore_n (lv' := [(2, .int (nI (j % 12))), (0, .ref h), (1, .int (nI j))]) hx hb dX0_narrowness_6 rfl hl (by decide) rfl (fun ls hl => ?_)
  refine lv_iload_n hx hb dX0_narrowness_7 rfl (lv_at hl 2 rfl) ?_
  refine lv_iconst (v := 1) hx hb dX0_narrowness_8 (by decide) ?_
  refine lv_iadd hx hb dX0_narrowness_9 ?_
  refine fb_ti (z := nI (j + 1)) (nI_add j 1) ?_
  refine lv_bipush (v := 12) hx hb dX0_narrowness_10 (by decide) ?_
  refine fb_roS (As := [.int (nI (j + 1)), .int 12]) (rest := []) (n := 2) ⟨hx, hb, hml, hown, hts⟩ (fb_c_J9_floorMod l (nI (j + 1)) 12 (by decide)) gX0_narrowness_J9_floorMod_7cf53 rfl (by decide +kernel) (by decide) fb_Bl_T (fun _ _ _ => trivial) rfl hl.1 rfl (Nat.le_of_ble_eq_true rfl) dX0_narrowness_12 (by decide) ?_
  refine fb_ti (z := nI ((j + 1) % 12)) (fb_fm_12 (by omega)) ?_
  refine lv_istore_n (lv' := [(3, .int (nI ((j + 1) % 12))), (2, .int (nI (j % 12))), (0, .ref h), (1, .int (nI j))]) hx hb dX0_narrowness_15 rfl hl (by decide) rfl (fun ls hl => ?_)
  refine lv_aload_n hx hb dX0_narrowness_16 rfl (lv_at hl 2 rfl) ?_
  refine va_get (D := G) (ci := 0) (v := .ref n) (C := RX0) (T := TX0) (N := 6) hx hb hts (hin0) hown hK hP 0 rfl rfl 0 (by decide) (hts (.fieldLink RX0 9 "FifthBeats$Piano" "narrow" "[I") (by decide +kernel)) (fun _ h9 => h9) rfl dX0_narrowness_17 ?_
  refine lv_iload_n hx hb dX0_narrowness_20 rfl (lv_at hl 1 rfl) ?_
  refine va_iald hx hb hK hP 1 0 rfl rfl (vp_in_nI (Nat.mod_lt _ (by decide)) (by decide)) dX0_narrowness_21 ?_
  refine fb_ti (z := fb_rg nf j) (by rw [fb_cl (by omega)]; rfl) ?_
  refine lv_aload_n hx hb dX0_narrowness_22 rfl (lv_at hl 2 rfl) ?_
  refine va_get (D := G) (ci := 0) (v := .ref o) (C := RX0) (T := TX0) (N := 6) hx hb hts (hin0) hown hK hP 0 rfl rfl 1 (by decide) (hts (.fieldLink RX0 15 "FifthBeats$Piano" "off" "[I") (by decide +kernel)) (fun _ h9 => h9) rfl dX0_narrowness_23 ?_
  refine lv_iload_n hx hb dX0_narrowness_26 rfl (lv_at hl 1 rfl) ?_
  refine va_iald hx hb hK hP 2 0 rfl rfl (vp_in_nI (Nat.mod_lt _ (by decide)) (by decide)) dX0_narrowness_27 ?_
  refine fb_ti (z := fb_rg uf j) (by rw [fb_cl (by omega)]; rfl) ?_
  refine lv_iadd hx hb dX0_narrowness_28 ?_
  refine lv_aload_n hx hb dX0_narrowness_29 rfl (lv_at hl 2 rfl) ?_
  refine va_get (D := G) (ci := 0) (v := .ref o) (C := RX0) (T := TX0) (N := 6) hx hb hts (hin0) hown hK hP 0 rfl rfl 1 (by decide) (hts (.fieldLink RX0 15 "FifthBeats$Piano" "off" "[I") (by decide +kernel)) (fun _ h9 => h9) rfl dX0_narrowness_30 ?_
  refine lv_iload_n hx hb dX0_narrowness_33 rfl (lv_at hl 0 rfl) ?_
  refine va_iald hx hb hK hP 2 0 rfl rfl (vp_in_nI (Nat.mod_lt _ (by decide)) (by decide)) dX0_narrowness_34 ?_
  refine fb_ti (z := fb_rg uf (j + 1)) (by rw [fb_cl (by omega)]; rfl) ?_
  refine lv_isub hx hb dX0_narrowness_35 ?_
  exact fb_iret hx hb hr hlk dX0_narrowness_36 (rfl)
set_option maxHeartbeats 4000000 in
set_option maxRecDepth 100000 in
theorem fb_c_X0_fifthWidth (l : Launch) (G : va_G) (cI cL : ClassId) (h n o d f : Nat) (nf uf df tf : Nat → Int32) (w : Nat) (dy : Int32) (j : Nat) (hj : j < 1000) : fb_RO l yX0_fifthWidth wsX0_fifthWidth 2 45 [.ref h, .int (nI j)] (fb_PB G cI cL (fb_PW cI h n o d f nf uf df tf (nI w) dy)) (.int (702 - fb_na (fb_rg nf) (fb_rg uf) j)) := by
  refine fb_ro_of (cc := cX0_fifthWidth) (maxL := 2) (ret := (some .int)) (by decide) rfl (Nat.le_of_ble_eq_true rfl) ?_
  intro p e s m args below meth c hx hb hr hml hlk hts hown hB ls hl
  have hown : s.vm.findClass RX0 = some m.cls := hown
  obtain ⟨hP, hK, hX⟩ := hB
  have hP : va_P G vwCl [(h, .inr (0, [.ref n, .ref o, .ref d, .ref f, .int (nI w), .int dy])), (n, .inl (cI, 12, .inl nf)), (o, .inl (cI, 12, .inl uf)), (d, .inl (cI, 12, .inl df)), (f, .inl (cI, 12, .inl tf))] s.heap := hP
  have hl : lv_has ls 2 [(0, .ref h), (1, .int (nI j))] := hl
  have hS9 : va_S (fun _ => False) s.heap s.heap [] := va_S.rf
  refine lv_sipush (v := 702) hx hb dX0_fifthWidth_0 (by decide) ?_
  refine lv_aload_n hx hb dX0_fifthWidth_3 rfl (lv_at hl 0 rfl) ?_
  refine lv_iload_n hx hb dX0_fifthWidth_4 rfl (lv_at hl 1 rfl) ?_
  refine fb_roV (As := [.int (nI j)]) (rest := [.int 702]) (n := 1) ⟨hx, hb, hml, hown, hts⟩ (fb_c_X0_narrowness l G cI cL h n o d f nf uf df tf w dy j (by omega)) gX0_fifthWidth_X0_narrowness rfl (by decide +kernel) (by decide) (fb_PB.bl _ _ _ _) (va_recv hK hP (ci := 0) (q0 := 0) rfl rfl) (fb_PB.to hP hK hX) rfl hl.1 rfl (Nat.le_of_ble_eq_true rfl) dX0_fifthWidth_5 (by decide) ?_
  refine lv_isub hx hb dX0_fifthWidth_8 ?_
  exact fb_iret hx hb hr hlk dX0_fifthWidth_9 (rfl)
set_option maxHeartbeats 4000000 in
set_option maxRecDepth 100000 in
theorem fb_c_X0_keyboardNumber (l : Launch) (G : va_G) (cI cL : ClassId) (h n o d f : Nat) (nf uf df tf : Nat → Int32) (w : Nat) (dy : Int32) (j : Nat) (hj : j < 1000) : fb_RO l yX0_keyboardNumber wsX0_keyboardNumber 1 22 [.ref h, .int (nI j)] (fb_PB G cI cL (fb_PW cI h n o d f nf uf df tf (nI w) dy)) (.int (nI (7 * j % 12))) := by
  refine fb_ro_of (cc := cX0_keyboardNumber) (maxL := 2) (ret := (some .int)) (by decide) rfl (Nat.le_of_ble_eq_true rfl) ?_
  intro p e s m args below meth c hx hb hr hml hlk hts hown hB ls hl
  have hown : s.vm.findClass RX0 = some m.cls := hown
  obtain ⟨hP, hK, hX⟩ := hB
  have hP : va_P G vwCl [(h, .inr (0, [.ref n, .ref o, .ref d, .ref f, .int (nI w), .int dy])), (n, .inl (cI, 12, .inl nf)), (o, .inl (cI, 12, .inl uf)), (d, .inl (cI, 12, .inl df)), (f, .inl (cI, 12, .inl tf))] s.heap := hP
  have hl : lv_has ls 2 [(0, .ref h), (1, .int (nI j))] := hl
  have hS9 : va_S (fun _ => False) s.heap s.heap [] := va_S.rf
  refine lv_bipush (v := 7) hx hb dX0_keyboardNumber_0 (by decide) ?_
  refine lv_iload_n hx hb dX0_keyboardNumber_2 rfl (lv_at hl 1 rfl) ?_
  refine lv_imul hx hb dX0_keyboardNumber_3 ?_
  refine fb_ti (z := nI (7 * j)) (pk_mul 7 j) ?_
  refine lv_bipush (v := 12) hx hb dX0_keyboardNumber_4 (by decide) ?_
  refine fb_roS (As := [.int (nI (7 * j)), .int 12]) (rest := []) (n := 2) ⟨hx, hb, hml, hown, hts⟩ (fb_c_J9_floorMod l (nI (7 * j)) 12 (by decide)) gX0_keyboardNumber_J9_floorMod_7cf53 rfl (by decide +kernel) (by decide) fb_Bl_T (fun _ _ _ => trivial) rfl hl.1 rfl (Nat.le_of_ble_eq_true rfl) dX0_keyboardNumber_6 (by decide) ?_
  refine fb_ti (z := nI ((7 * j) % 12)) (fb_fm_12 (by omega)) ?_
  exact fb_iret hx hb hr hlk dX0_keyboardNumber_9 (rfl)
set_option maxHeartbeats 4000000 in
set_option maxRecDepth 100000 in
theorem fb_c_X0_swings (l : Launch) (G : va_G) (cI cL : ClassId) (h n o d f : Nat) (nf uf df tf : Nat → Int32) (w : Nat) (dy : Int32) (j : Nat) (hj : j < 1000) : fb_RO l yX0_swings wsX0_swings 2 43 [.ref h, .int (nI j)] (fb_PB G cI cL (fb_PW cI h n o d f nf uf df tf (nI w) dy)) (.int (fb_sw j)) := by
  refine fb_ro_of (cc := cX0_swings) (maxL := 2) (ret := (some .int)) (by decide) rfl (Nat.le_of_ble_eq_true rfl) ?_
  intro p e s m args below meth c hx hb hr hml hlk hts hown hB ls hl
  have hown : s.vm.findClass RX0 = some m.cls := hown
  obtain ⟨hP, hK, hX⟩ := hB
  have hP : va_P G vwCl [(h, .inr (0, [.ref n, .ref o, .ref d, .ref f, .int (nI w), .int dy])), (n, .inl (cI, 12, .inl nf)), (o, .inl (cI, 12, .inl uf)), (d, .inl (cI, 12, .inl df)), (f, .inl (cI, 12, .inl tf))] s.heap := hP
  have hl : lv_has ls 2 [(0, .ref h), (1, .int (nI j))] := hl
  have hS9 : va_S (fun _ => False) s.heap s.heap [] := va_S.rf
  obtain ⟨hNw, ⟨t9, hZ9, hT9⟩, -⟩ := id hX
  refine va_getsN (C := "FifthBeats") (n := "SWINGS") (d := "[I") hx hb hZ9 hS9 hown (hNw.use rfl) (fun _ h9 => h9) dX0_swings_0 ?_
  refine lv_aload_n hx hb dX0_swings_3 rfl (lv_at hl 0 rfl) ?_
  refine lv_iload_n hx hb dX0_swings_4 rfl (lv_at hl 1 rfl) ?_
  refine fb_roV (As := [.int (nI j)]) (rest := [.ref t9]) (n := 1) ⟨hx, hb, hml, hown, hts⟩ (fb_c_X0_keyboardNumber l G cI cL h n o d f nf uf df tf w dy j (by omega)) gX0_swings_X0_keyboardNumber rfl (by decide +kernel) (by decide) (fb_PB.bl _ _ _ _) (va_recv hK hP (ci := 0) (q0 := 0) rfl rfl) (fb_PB.to hP hK hX) rfl hl.1 rfl (Nat.le_of_ble_eq_true rfl) dX0_swings_5 (by decide) ?_
  refine va_ti hx hb hT9 hS9 (vp_in_nI (Nat.mod_lt _ (by decide)) (by decide)) rfl dX0_swings_8 ?_
  refine fb_ti (z := fb_swt (7 * j % 12)) (by rw [fb_cl (by omega)]) ?_
  exact fb_iret hx hb hr hlk dX0_swings_9 (rfl)
set_option maxHeartbeats 4000000 in
set_option maxRecDepth 100000 in
theorem fb_c_X0_fifthBeats (l : Launch) (G : va_G) (cI cL : ClassId) (h n o d f : Nat) (nf uf df tf : Nat → Int32) (w : Nat) (dy : Int32) (j : Nat) (hj : j < 1000) : fb_RO l yX0_fifthBeats wsX0_fifthBeats 3 64 [.ref h, .int (nI j)] (fb_PB G cI cL (fb_PW cI h n o d f nf uf df tf (nI w) dy)) (.int (fb_fb (fb_rg nf) (fb_rg uf) j)) := by
  refine fb_ro_of (cc := cX0_fifthBeats) (maxL := 2) (ret := (some .int)) (by decide) rfl (Nat.le_of_ble_eq_true rfl) ?_
  intro p e s m args below meth c hx hb hr hml hlk hts hown hB ls hl
  have hown : s.vm.findClass RX0 = some m.cls := hown
  obtain ⟨hP, hK, hX⟩ := hB
  have hP : va_P G vwCl [(h, .inr (0, [.ref n, .ref o, .ref d, .ref f, .int (nI w), .int dy])), (n, .inl (cI, 12, .inl nf)), (o, .inl (cI, 12, .inl uf)), (d, .inl (cI, 12, .inl df)), (f, .inl (cI, 12, .inl tf))] s.heap := hP
  have hl : lv_has ls 2 [(0, .ref h), (1, .int (nI j))] := hl
  have hS9 : va_S (fun _ => False) s.heap s.heap [] := va_S.rf
  refine lv_aload_n hx hb dX0_fifthBeats_0 rfl (lv_at hl 0 rfl) ?_
  refine lv_iload_n hx hb dX0_fifthBeats_1 rfl (lv_at hl 1 rfl) ?_
  refine fb_roV (As := [.int (nI j)]) (rest := []) (n := 1) ⟨hx, hb, hml, hown, hts⟩ (fb_c_X0_swings l G cI cL h n o d f nf uf df tf w dy j (by omega)) gX0_fifthBeats_X0_swings rfl (by decide +kernel) (by decide) (fb_PB.bl _ _ _ _) (va_recv hK hP (ci := 0) (q0 := 0) rfl rfl) (fb_PB.to hP hK hX) rfl hl.1 rfl (Nat.le_of_ble_eq_true rfl) dX0_fifthBeats_2 (by decide) ?_
  refine lv_aload_n hx hb dX0_fifthBeats_5 rfl (lv_at hl 0 rfl) ?_
  refine lv_iload_n hx hb dX0_fifthBeats_6 rfl (lv_at hl 1 rfl) ?_
  refine fb_roV (As := [.int (nI j)]) (rest := [.int (fb_sw j)]) (n := 1) ⟨hx, hb, hml, hown, hts⟩ (fb_c_X0_narrowness l G cI cL h n o d f nf uf df tf w dy j (by omega)) gX0_fifthBeats_X0_narrowness rfl (by decide +kernel) (by decide) (fb_PB.bl _ _ _ _) (va_recv hK hP (ci := 0) (q0 := 0) rfl rfl) (fb_PB.to hP hK hX) rfl hl.1 rfl (Nat.le_of_ble_eq_true rfl) dX0_fifthBeats_7 (by decide) ?_
  refine va_mabs hx hb (hml.trans hl.1.symm) hown (hts (.methodLink RX0 59 Lib.Math.abs.name) (by decide +kernel)) (hts (.static Lib.Math.abs.name) (by decide +kernel)) (hts (.initialized "java/lang/Math") (by decide +kernel)) (hts (.code Lib.Math.abs.name Lib.Math.abs.code 1 (some .int)) (by decide +kernel)) (Nat.le_of_ble_eq_true rfl) (Nat.le_of_ble_eq_true rfl) (Nat.zero_le _) (Nat.zero_le _) dX0_fifthBeats_10 ?_
  refine fb_ti (z := fb_ab (fb_na (fb_rg nf) (fb_rg uf) j)) rfl ?_
  refine lv_imul hx hb dX0_fifthBeats_13 ?_
  refine lv_bipush (v := 100) hx hb dX0_fifthBeats_14 (by decide) ?_
  refine lv_imul hx hb dX0_fifthBeats_16 ?_
  refine lv_sipush (v := 577) hx hb dX0_fifthBeats_17 (by decide) ?_
  refine lv_idiv hx hb dX0_fifthBeats_20 (by decide) ?_
  exact fb_iret hx hb hr hlk dX0_fifthBeats_21 (rfl)
set_option maxHeartbeats 4000000 in
set_option maxRecDepth 100000 in
theorem fb_c_X0_majorOff (l : Launch) (G : va_G) (cI cL : ClassId) (h n o d f : Nat) (nf uf df tf : Nat → Int32) (w : Nat) (dy : Int32) (j : Nat) (hj : j < 900) : fb_RO l yX0_majorOff wsX0_majorOff 2 45 [.ref h, .int (nI j)] (fb_PB G cI cL (fb_PW cI h n o d f nf uf df tf (nI w) dy)) (.int (fb_mj (fb_rg nf) (fb_rg uf) j 4)) := by
  refine fb_ro_of (cc := cX0_majorOff) (maxL := 4) (ret := (some .int)) (by decide) rfl (Nat.le_of_ble_eq_true rfl) ?_
  intro p e s m args below meth c hx hb hr hml hlk hts hown hB ls hl
  have hown : s.vm.findClass RX0 = some m.cls := hown
  obtain ⟨hP, hK, hX⟩ := hB
  have hP : va_P G vwCl [(h, .inr (0, [.ref n, .ref o, .ref d, .ref f, .int (nI w), .int dy])), (n, .inl (cI, 12, .inl nf)), (o, .inl (cI, 12, .inl uf)), (d, .inl (cI, 12, .inl df)), (f, .inl (cI, 12, .inl tf))] s.heap := hP
  have hl : lv_has ls 4 [(0, .ref h), (1, .int (nI j))] := hl
  have hS9 : va_S (fun _ => False) s.heap s.heap [] := va_S.rf
  refine lv_bipush (v := 22) hx hb dX0_majorOff_0 (by decide) ?_
  refine lv_istore_n (lv' := [(2, .int 22), (0, .ref h), (1, .int (nI j))]) hx hb dX0_majorOff_2 rfl hl (by decide) rfl (fun ls hl => ?_)
  refine lv_iconst (v := 0) hx hb dX0_majorOff_3 (by decide) ?_
  refine lv_istore_n (lv' := [(3, .int 0), (2, .int 22), (0, .ref h), (1, .int (nI j))]) hx hb dX0_majorOff_4 rfl hl (by decide) rfl (fun ls hl => ?_)
  have lp5 : ∀ (n9 i : Nat), i ≤ 4 → 4 < i + n9 → ∀ ls : Array Slot, lv_has ls 4 [(3, .int (nI i)), (2, .int (fb_mj (fb_rg nf) (fb_rg uf) j i)), (0, .ref h), (1, .int (nI j))] → W p l e ({ frames := 2, cells := 0, slots := 0, locals := 45 }) s m args below meth c s.heap [] 0 0 (MQ below (k2_QcV (.int (fb_mj (fb_rg nf) (fb_rg uf) j 4))) args s 0 0 (fun _ => False)) (F0 m 5 ls []) := by
    intro n9
    induction n9 with
    | zero => intro i h1 h2; exact absurd h2 (by omega)
    | succ n9 ih5 =>
      intro i hi_i hin9 ls hl
      refine lv_iload_n hx hb dX0_majorOff_5 rfl (lv_at hl 0 rfl) ?_
      refine lv_iconst (v := 4) hx hb dX0_majorOff_6 (by decide) ?_
      refine lv_icmp_ge (tgt := 26) hx hb dX0_majorOff_7 (by decide) (fun c7 => ?_) (fun c7 => ?_)
      · skip
        have hxi : i = 4 := fb_lp_ex (by decide) hi_i c7
        subst hxi
        refine lv_iload_n hx hb dX0_majorOff_26 rfl (lv_at hl 1 rfl) ?_
        exact fb_iret hx hb hr hlk dX0_majorOff_27 (rfl)
      · skip
        have hi12 : i < 4 := fb_lp_in (by decide) hi_i c7
        refine lv_iload_n hx hb dX0_majorOff_10 rfl (lv_at hl 1 rfl) ?_
        refine lv_aload_n hx hb dX0_majorOff_11 rfl (lv_at hl 2 rfl) ?_
        refine lv_iload_n hx hb dX0_majorOff_12 rfl (lv_at hl 3 rfl) ?_
        refine lv_iload_n hx hb dX0_majorOff_13 rfl (lv_at hl 0 rfl) ?_
        refine lv_iadd hx hb dX0_majorOff_14 ?_
        refine fb_ti (z := nI (j + i)) (nI_add j i) ?_
        refine fb_roV (As := [.int (nI (j + i))]) (rest := [.int (fb_mj (fb_rg nf) (fb_rg uf) j i)]) (n := 1) ⟨hx, hb, hml, hown, hts⟩ (fb_c_X0_narrowness l G cI cL h n o d f nf uf df tf w dy (j + i) (by omega)) gX0_majorOff_X0_narrowness rfl (by decide +kernel) (by decide) (fb_PB.bl _ _ _ _) (va_recv hK hP (ci := 0) (q0 := 0) rfl rfl) (fb_PB.to hP hK hX) rfl hl.1 rfl (Nat.le_of_ble_eq_true rfl) dX0_majorOff_15 (by decide) ?_
        refine lv_isub hx hb dX0_majorOff_18 ?_
        refine lv_istore_n (lv' := [(2, .int ((fb_mj (fb_rg nf) (fb_rg uf) j i) - (fb_na (fb_rg nf) (fb_rg uf) (j + i)))), (3, .int (nI i)), (0, .ref h), (1, .int (nI j))]) hx hb dX0_majorOff_19 rfl hl (by decide) rfl (fun ls hl => ?_)
        refine lv_iinc (v := nI (i + 1)) (lv' := [(3, .int (nI (i + 1))), (2, .int ((fb_mj (fb_rg nf) (fb_rg uf) j i) - (fb_na (fb_rg nf) (fb_rg uf) (j + i)))), (0, .ref h), (1, .int (nI j))]) hx hb dX0_majorOff_20 hl (k := 1) rfl (show nI i + 1 = nI (i + 1) from nI_1 i) (by decide) rfl (fun ls hl => ?_)
        refine lv_goto (tgt := 5) hx hb dX0_majorOff_23 (by decide) ?_
        exact ih5 (i + 1) (by omega) (by omega) _ (lv_sub hl [0, 1, 2, 3] (rfl))
  exact lp5 (4 + 1) 0 (by omega) (by omega) _ (lv_sub hl [0, 1, 2, 3] (rfl))
set_option maxHeartbeats 4000000 in
set_option maxRecDepth 100000 in
theorem fb_c_X0_majorBeats (l : Launch) (G : va_G) (cI cL : ClassId) (h n o d f : Nat) (nf uf df tf : Nat → Int32) (w : Nat) (dy : Int32) (j : Nat) (hj : j < 900) : fb_RO l yX0_majorBeats wsX0_majorBeats 3 68 [.ref h, .int (nI j)] (fb_PB G cI cL (fb_PW cI h n o d f nf uf df tf (nI w) dy)) (.int (fb_mb (fb_rg nf) (fb_rg uf) j)) := by
  refine fb_ro_of (cc := cX0_majorBeats) (maxL := 2) (ret := (some .int)) (by decide) rfl (Nat.le_of_ble_eq_true rfl) ?_
  intro p e s m args below meth c hx hb hr hml hlk hts hown hB ls hl
  have hown : s.vm.findClass RX0 = some m.cls := hown
  obtain ⟨hP, hK, hX⟩ := hB
  have hP : va_P G vwCl [(h, .inr (0, [.ref n, .ref o, .ref d, .ref f, .int (nI w), .int dy])), (n, .inl (cI, 12, .inl nf)), (o, .inl (cI, 12, .inl uf)), (d, .inl (cI, 12, .inl df)), (f, .inl (cI, 12, .inl tf))] s.heap := hP
  have hl : lv_has ls 2 [(0, .ref h), (1, .int (nI j))] := hl
  have hS9 : va_S (fun _ => False) s.heap s.heap [] := va_S.rf
  refine lv_aload_n hx hb dX0_majorBeats_0 rfl (lv_at hl 0 rfl) ?_
  refine lv_iload_n hx hb dX0_majorBeats_1 rfl (lv_at hl 1 rfl) ?_
  refine fb_roV (As := [.int (nI j)]) (rest := []) (n := 1) ⟨hx, hb, hml, hown, hts⟩ (fb_c_X0_swings l G cI cL h n o d f nf uf df tf w dy j (by omega)) gX0_majorBeats_X0_swings rfl (by decide +kernel) (by decide) (fb_PB.bl _ _ _ _) (va_recv hK hP (ci := 0) (q0 := 0) rfl rfl) (fb_PB.to hP hK hX) rfl hl.1 rfl (Nat.le_of_ble_eq_true rfl) dX0_majorBeats_2 (by decide) ?_
  refine lv_aload_n hx hb dX0_majorBeats_5 rfl (lv_at hl 0 rfl) ?_
  refine lv_iload_n hx hb dX0_majorBeats_6 rfl (lv_at hl 1 rfl) ?_
  refine fb_roV (As := [.int (nI j)]) (rest := [.int (fb_sw j)]) (n := 1) ⟨hx, hb, hml, hown, hts⟩ (fb_c_X0_majorOff l G cI cL h n o d f nf uf df tf w dy j (by omega)) gX0_majorBeats_X0_majorOff rfl (by decide +kernel) (by decide) (fb_PB.bl _ _ _ _) (va_recv hK hP (ci := 0) (q0 := 0) rfl rfl) (fb_PB.to hP hK hX) rfl hl.1 rfl (Nat.le_of_ble_eq_true rfl) dX0_majorBeats_7 (by decide) ?_
  refine va_mabs hx hb (hml.trans hl.1.symm) hown (hts (.methodLink RX0 59 Lib.Math.abs.name) (by decide +kernel)) (hts (.static Lib.Math.abs.name) (by decide +kernel)) (hts (.initialized "java/lang/Math") (by decide +kernel)) (hts (.code Lib.Math.abs.name Lib.Math.abs.code 1 (some .int)) (by decide +kernel)) (Nat.le_of_ble_eq_true rfl) (Nat.le_of_ble_eq_true rfl) (Nat.zero_le _) (Nat.zero_le _) dX0_majorBeats_10 ?_
  refine fb_ti (z := fb_ab (fb_mj (fb_rg nf) (fb_rg uf) j 4)) rfl ?_
  refine lv_imul hx hb dX0_majorBeats_13 ?_
  refine lv_bipush (v := 100) hx hb dX0_majorBeats_14 (by decide) ?_
  refine lv_imul hx hb dX0_majorBeats_16 ?_
  refine lv_sipush (v := 346) hx hb dX0_majorBeats_17 (by decide) ?_
  refine lv_idiv hx hb dX0_majorBeats_20 (by decide) ?_
  exact fb_iret hx hb hr hlk dX0_majorBeats_21 (rfl)
set_option maxHeartbeats 4000000 in
set_option maxRecDepth 100000 in
theorem fb_c_X0_minorWidth (l : Launch) (G : va_G) (cI cL : ClassId) (h n o d f : Nat) (nf uf df tf : Nat → Int32) (w : Nat) (dy : Int32) (j : Nat) (hj : j < 900) : fb_RO l yX0_minorWidth wsX0_minorWidth 2 45 [.ref h, .int (nI j)] (fb_PB G cI cL (fb_PW cI h n o d f nf uf df tf (nI w) dy)) (.int (fb_mi (fb_rg nf) (fb_rg uf) j 3)) := by
  refine fb_ro_of (cc := cX0_minorWidth) (maxL := 4) (ret := (some .int)) (by decide) rfl (Nat.le_of_ble_eq_true rfl) ?_
  intro p e s m args below meth c hx hb hr hml hlk hts hown hB ls hl
  have hown : s.vm.findClass RX0 = some m.cls := hown
  obtain ⟨hP, hK, hX⟩ := hB
  have hP : va_P G vwCl [(h, .inr (0, [.ref n, .ref o, .ref d, .ref f, .int (nI w), .int dy])), (n, .inl (cI, 12, .inl nf)), (o, .inl (cI, 12, .inl uf)), (d, .inl (cI, 12, .inl df)), (f, .inl (cI, 12, .inl tf))] s.heap := hP
  have hl : lv_has ls 4 [(0, .ref h), (1, .int (nI j))] := hl
  have hS9 : va_S (fun _ => False) s.heap s.heap [] := va_S.rf
  refine lv_sipush (v := 294) hx hb dX0_minorWidth_0 (by decide) ?_
  refine lv_istore_n (lv' := [(2, .int 294), (0, .ref h), (1, .int (nI j))]) hx hb dX0_minorWidth_3 rfl hl (by decide) rfl (fun ls hl => ?_)
  refine lv_bipush (v := 9) hx hb dX0_minorWidth_4 (by decide) ?_
  refine lv_istore_n (lv' := [(3, .int 9), (2, .int 294), (0, .ref h), (1, .int (nI j))]) hx hb dX0_minorWidth_6 rfl hl (by decide) rfl (fun ls hl => ?_)
  have lp7 : ∀ (n9 i : Nat), i ≤ 3 → 3 < i + n9 → ∀ ls : Array Slot, lv_has ls 4 [(3, .int (nI (9 + i))), (2, .int (fb_mi (fb_rg nf) (fb_rg uf) j i)), (0, .ref h), (1, .int (nI j))] → W p l e ({ frames := 2, cells := 0, slots := 0, locals := 45 }) s m args below meth c s.heap [] 0 0 (MQ below (k2_QcV (.int (fb_mi (fb_rg nf) (fb_rg uf) j 3))) args s 0 0 (fun _ => False)) (F0 m 7 ls []) := by
    intro n9
    induction n9 with
    | zero => intro i h1 h2; exact absurd h2 (by omega)
    | succ n9 ih7 =>
      intro i hi_i hin9 ls hl
      refine lv_iload_n hx hb dX0_minorWidth_7 rfl (lv_at hl 0 rfl) ?_
      refine lv_bipush (v := 12) hx hb dX0_minorWidth_8 (by decide) ?_
      refine lv_icmp_ge (tgt := 29) hx hb dX0_minorWidth_10 (by decide) (fun c10 => ?_) (fun c10 => ?_)
      · skip
        have hxi : 9 + i = 12 := fb_lp_ex (by decide) (by omega) c10
        obtain rfl : i = 3 := by omega
        refine lv_iload_n hx hb dX0_minorWidth_29 rfl (lv_at hl 1 rfl) ?_
        exact fb_iret hx hb hr hlk dX0_minorWidth_30 (rfl)
      · skip
        have h9 : 9 + i < 12 := fb_lp_in (by decide) (by omega) c10
        refine lv_iload_n hx hb dX0_minorWidth_13 rfl (lv_at hl 1 rfl) ?_
        refine lv_aload_n hx hb dX0_minorWidth_14 rfl (lv_at hl 2 rfl) ?_
        refine lv_iload_n hx hb dX0_minorWidth_15 rfl (lv_at hl 3 rfl) ?_
        refine lv_iload_n hx hb dX0_minorWidth_16 rfl (lv_at hl 0 rfl) ?_
        refine lv_iadd hx hb dX0_minorWidth_17 ?_
        refine fb_ti (z := nI (j + (9 + i))) (nI_add j (9 + i)) ?_
        refine fb_roV (As := [.int (nI (j + (9 + i)))]) (rest := [.int (fb_mi (fb_rg nf) (fb_rg uf) j i)]) (n := 1) ⟨hx, hb, hml, hown, hts⟩ (fb_c_X0_narrowness l G cI cL h n o d f nf uf df tf w dy (j + (9 + i)) (by omega)) gX0_minorWidth_X0_narrowness rfl (by decide +kernel) (by decide) (fb_PB.bl _ _ _ _) (va_recv hK hP (ci := 0) (q0 := 0) rfl rfl) (fb_PB.to hP hK hX) rfl hl.1 rfl (Nat.le_of_ble_eq_true rfl) dX0_minorWidth_18 (by decide) ?_
        refine lv_iadd hx hb dX0_minorWidth_21 ?_
        refine lv_istore_n (lv' := [(2, .int ((fb_mi (fb_rg nf) (fb_rg uf) j i) + (fb_na (fb_rg nf) (fb_rg uf) (j + (9 + i))))), (3, .int (nI (9 + i))), (0, .ref h), (1, .int (nI j))]) hx hb dX0_minorWidth_22 rfl hl (by decide) rfl (fun ls hl => ?_)
        refine lv_iinc (v := nI (9 + (i + 1))) (lv' := [(3, .int (nI (9 + (i + 1)))), (2, .int ((fb_mi (fb_rg nf) (fb_rg uf) j i) + (fb_na (fb_rg nf) (fb_rg uf) (j + (9 + i))))), (0, .ref h), (1, .int (nI j))]) hx hb dX0_minorWidth_23 hl (k := 1) rfl (show nI (9 + i) + 1 = nI (9 + (i + 1)) from nI_1 (9 + i)) (by decide) rfl (fun ls hl => ?_)
        refine lv_goto (tgt := 7) hx hb dX0_minorWidth_26 (by decide) ?_
        exact ih7 (i + 1) (by omega) (by omega) _ (lv_sub hl [0, 1, 2, 3] (rfl))
  exact lp7 (3 + 1) 0 (by omega) (by omega) _ (lv_sub hl [0, 1, 2, 3] (rfl))
set_option maxHeartbeats 4000000 in
set_option maxRecDepth 100000 in
theorem fb_c_X0_height (l : Launch) (G : va_G) (cI cL : ClassId) (h n o d f : Nat) (nf uf df tf : Nat → Int32) (w : Nat) (dy : Int32) (j : Nat) (hj : j < 900) : fb_RO l yX0_height wsX0_height 3 66 [.ref h, .int (nI j)] (fb_PB G cI cL (fb_PW cI h n o d f nf uf df tf (nI w) dy)) (.int (fb_fm (fb_ht (fb_rg nf) (fb_rg uf) j) 1200)) := by
  refine fb_ro_of (cc := cX0_height) (maxL := 4) (ret := (some .int)) (by decide) rfl (Nat.le_of_ble_eq_true rfl) ?_
  intro p e s m args below meth c hx hb hr hml hlk hts hown hB ls hl
  have hown : s.vm.findClass RX0 = some m.cls := hown
  obtain ⟨hP, hK, hX⟩ := hB
  have hP : va_P G vwCl [(h, .inr (0, [.ref n, .ref o, .ref d, .ref f, .int (nI w), .int dy])), (n, .inl (cI, 12, .inl nf)), (o, .inl (cI, 12, .inl uf)), (d, .inl (cI, 12, .inl df)), (f, .inl (cI, 12, .inl tf))] s.heap := hP
  have hl : lv_has ls 4 [(0, .ref h), (1, .int (nI j))] := hl
  have hS9 : va_S (fun _ => False) s.heap s.heap [] := va_S.rf
  refine lv_iconst (v := 0) hx hb dX0_height_0 (by decide) ?_
  refine lv_istore_n (lv' := [(2, .int 0), (0, .ref h), (1, .int (nI j))]) hx hb dX0_height_1 rfl hl (by decide) rfl (fun ls hl => ?_)
  refine lv_iconst (v := 0) hx hb dX0_height_2 (by decide) ?_
  refine lv_istore_n (lv' := [(3, .int 0), (2, .int 0), (0, .ref h), (1, .int (nI j))]) hx hb dX0_height_3 rfl hl (by decide) rfl (fun ls hl => ?_)
  have lp4 : ∀ (n9 i : Nat), i ≤ j → j < i + n9 → ∀ ls : Array Slot, lv_has ls 4 [(3, .int (nI i)), (2, .int (fb_ht (fb_rg nf) (fb_rg uf) i)), (0, .ref h), (1, .int (nI j))] → W p l e ({ frames := 3, cells := 0, slots := 0, locals := 66 }) s m args below meth c s.heap [] 0 0 (MQ below (k2_QcV (.int (fb_fm (fb_ht (fb_rg nf) (fb_rg uf) j) 1200))) args s 0 0 (fun _ => False)) (F0 m 4 ls []) := by
    intro n9
    induction n9 with
    | zero => intro i h1 h2; exact absurd h2 (by omega)
    | succ n9 ih4 =>
      intro i hi_i hin9 ls hl
      refine lv_iload_n hx hb dX0_height_4 rfl (lv_at hl 0 rfl) ?_
      refine lv_iload_n hx hb dX0_height_5 rfl (lv_at hl 3 rfl) ?_
      refine lv_icmp_ge (tgt := 23) hx hb dX0_height_6 (by decide) (fun c6 => ?_) (fun c6 => ?_)
      · skip
        have hxi : i = j := fb_lp_ex (by omega) hi_i c6
        subst hxi
        refine lv_iload_n hx hb dX0_height_23 rfl (lv_at hl 1 rfl) ?_
        refine lv_sipush (v := 1200) hx hb dX0_height_24 (by decide) ?_
        refine fb_roS (As := [.int (fb_ht (fb_rg nf) (fb_rg uf) i), .int 1200]) (rest := []) (n := 2) ⟨hx, hb, hml, hown, hts⟩ (fb_c_J9_floorMod l (fb_ht (fb_rg nf) (fb_rg uf) i) 1200 (by decide)) gX0_height_J9_floorMod_7cf53 rfl (by decide +kernel) (by decide) fb_Bl_T (fun _ _ _ => trivial) rfl hl.1 rfl (Nat.le_of_ble_eq_true rfl) dX0_height_27 (by decide) ?_
        exact fb_iret hx hb hr hlk dX0_height_30 (rfl)
      · skip
        have hi12 : i < j := fb_lp_in (by omega) hi_i c6
        refine lv_iload_n hx hb dX0_height_9 rfl (lv_at hl 1 rfl) ?_
        refine lv_aload_n hx hb dX0_height_10 rfl (lv_at hl 2 rfl) ?_
        refine lv_iload_n hx hb dX0_height_11 rfl (lv_at hl 0 rfl) ?_
        refine fb_roV (As := [.int (nI i)]) (rest := [.int (fb_ht (fb_rg nf) (fb_rg uf) i)]) (n := 1) ⟨hx, hb, hml, hown, hts⟩ (fb_c_X0_fifthWidth l G cI cL h n o d f nf uf df tf w dy i (by omega)) gX0_height_X0_fifthWidth rfl (by decide +kernel) (by decide) (fb_PB.bl _ _ _ _) (va_recv hK hP (ci := 0) (q0 := 0) rfl rfl) (fb_PB.to hP hK hX) rfl hl.1 rfl (Nat.le_of_ble_eq_true rfl) dX0_height_12 (by decide) ?_
        refine lv_iadd hx hb dX0_height_15 ?_
        refine lv_istore_n (lv' := [(2, .int ((fb_ht (fb_rg nf) (fb_rg uf) i) + (702 - fb_na (fb_rg nf) (fb_rg uf) i))), (3, .int (nI i)), (0, .ref h), (1, .int (nI j))]) hx hb dX0_height_16 rfl hl (by decide) rfl (fun ls hl => ?_)
        refine lv_iinc (v := nI (i + 1)) (lv' := [(3, .int (nI (i + 1))), (2, .int ((fb_ht (fb_rg nf) (fb_rg uf) i) + (702 - fb_na (fb_rg nf) (fb_rg uf) i))), (0, .ref h), (1, .int (nI j))]) hx hb dX0_height_17 hl (k := 1) rfl (show nI i + 1 = nI (i + 1) from nI_1 i) (by decide) rfl (fun ls hl => ?_)
        refine lv_goto (tgt := 4) hx hb dX0_height_20 (by decide) ?_
        exact ih4 (i + 1) (by omega) (by omega) _ (lv_sub hl [0, 1, 2, 3] (rfl))
  exact lp4 (j + 1) 0 (by omega) (by omega) _ (lv_sub hl [0, 1, 2, 3] (rfl))
set_option maxHeartbeats 4000000 in
set_option maxRecDepth 100000 in
theorem fb_c_X0_sourness (l : Launch) (G : va_G) (cI cL : ClassId) (h n o d f : Nat) (nf uf df tf : Nat → Int32) (w : Nat) (dy : Int32) (j : Nat) (hj : j < 900) : fb_RO l yX0_sourness wsX0_sourness 3 68 [.ref h, .int (nI j)] (fb_PB G cI cL (fb_PW cI h n o d f nf uf df tf (nI w) dy)) (.int (fb_so (fb_rg nf) (fb_rg uf) j)) := by
  refine fb_ro_of (cc := cX0_sourness) (maxL := 2) (ret := (some .int)) (by decide) rfl (Nat.le_of_ble_eq_true rfl) ?_
  intro p e s m args below meth c hx hb hr hml hlk hts hown hB ls hl
  have hown : s.vm.findClass RX0 = some m.cls := hown
  obtain ⟨hP, hK, hX⟩ := hB
  have hP : va_P G vwCl [(h, .inr (0, [.ref n, .ref o, .ref d, .ref f, .int (nI w), .int dy])), (n, .inl (cI, 12, .inl nf)), (o, .inl (cI, 12, .inl uf)), (d, .inl (cI, 12, .inl df)), (f, .inl (cI, 12, .inl tf))] s.heap := hP
  have hl : lv_has ls 2 [(0, .ref h), (1, .int (nI j))] := hl
  have hS9 : va_S (fun _ => False) s.heap s.heap [] := va_S.rf
  refine lv_aload_n hx hb dX0_sourness_0 rfl (lv_at hl 0 rfl) ?_
  refine lv_iload_n hx hb dX0_sourness_1 rfl (lv_at hl 1 rfl) ?_
  refine fb_roV (As := [.int (nI j)]) (rest := []) (n := 1) ⟨hx, hb, hml, hown, hts⟩ (fb_c_X0_majorOff l G cI cL h n o d f nf uf df tf w dy j (by omega)) gX0_sourness_X0_majorOff rfl (by decide +kernel) (by decide) (fb_PB.bl _ _ _ _) (va_recv hK hP (ci := 0) (q0 := 0) rfl rfl) (fb_PB.to hP hK hX) rfl hl.1 rfl (Nat.le_of_ble_eq_true rfl) dX0_sourness_2 (by decide) ?_
  refine va_mabs hx hb (hml.trans hl.1.symm) hown (hts (.methodLink RX0 59 Lib.Math.abs.name) (by decide +kernel)) (hts (.static Lib.Math.abs.name) (by decide +kernel)) (hts (.initialized "java/lang/Math") (by decide +kernel)) (hts (.code Lib.Math.abs.name Lib.Math.abs.code 1 (some .int)) (by decide +kernel)) (Nat.le_of_ble_eq_true rfl) (Nat.le_of_ble_eq_true rfl) (Nat.zero_le _) (Nat.zero_le _) dX0_sourness_5 ?_
  refine fb_ti (z := fb_ab (fb_mj (fb_rg nf) (fb_rg uf) j 4)) rfl ?_
  refine lv_iconst (v := 2) hx hb dX0_sourness_8 (by decide) ?_
  refine lv_aload_n hx hb dX0_sourness_9 rfl (lv_at hl 0 rfl) ?_
  refine lv_iload_n hx hb dX0_sourness_10 rfl (lv_at hl 1 rfl) ?_
  refine fb_roV (As := [.int (nI j)]) (rest := [.int 2, .int (fb_ab (fb_mj (fb_rg nf) (fb_rg uf) j 4))]) (n := 1) ⟨hx, hb, hml, hown, hts⟩ (fb_c_X0_narrowness l G cI cL h n o d f nf uf df tf w dy j (by omega)) gX0_sourness_X0_narrowness rfl (by decide +kernel) (by decide) (fb_PB.bl _ _ _ _) (va_recv hK hP (ci := 0) (q0 := 0) rfl rfl) (fb_PB.to hP hK hX) rfl hl.1 rfl (Nat.le_of_ble_eq_true rfl) dX0_sourness_11 (by decide) ?_
  refine va_mabs hx hb (hml.trans hl.1.symm) hown (hts (.methodLink RX0 59 Lib.Math.abs.name) (by decide +kernel)) (hts (.static Lib.Math.abs.name) (by decide +kernel)) (hts (.initialized "java/lang/Math") (by decide +kernel)) (hts (.code Lib.Math.abs.name Lib.Math.abs.code 1 (some .int)) (by decide +kernel)) (Nat.le_of_ble_eq_true rfl) (Nat.le_of_ble_eq_true rfl) (Nat.zero_le _) (Nat.zero_le _) dX0_sourness_14 ?_
  refine fb_ti (z := fb_ab (fb_na (fb_rg nf) (fb_rg uf) j)) rfl ?_
  refine lv_imul hx hb dX0_sourness_17 ?_
  refine lv_iadd hx hb dX0_sourness_18 ?_
  exact fb_iret hx hb hr hlk dX0_sourness_19 (rfl)
set_option maxHeartbeats 4000000 in
set_option maxRecDepth 100000 in
theorem fb_c_X0_place (l : Launch) (G : va_G) (cI cL : ClassId) (h n o d f : Nat) (nf uf df tf : Nat → Int32) (w : Nat) (dy : Int32) (j : Nat) (hj : j < 12) : fb_RO l yX0_place wsX0_place 4 89 [.ref h, .int (nI j)] (fb_PB G cI cL (fb_PW cI h n o d f nf uf df tf (nI w) dy)) (.int (fb_pl (fb_rg nf) (fb_rg uf) j 12)) := by
  refine fb_ro_of (cc := cX0_place) (maxL := 6) (ret := (some .int)) (by decide) rfl (Nat.le_of_ble_eq_true rfl) ?_
  intro p e s m args below meth c hx hb hr hml hlk hts hown hB ls hl
  have hown : s.vm.findClass RX0 = some m.cls := hown
  obtain ⟨hP, hK, hX⟩ := hB
  have hP : va_P G vwCl [(h, .inr (0, [.ref n, .ref o, .ref d, .ref f, .int (nI w), .int dy])), (n, .inl (cI, 12, .inl nf)), (o, .inl (cI, 12, .inl uf)), (d, .inl (cI, 12, .inl df)), (f, .inl (cI, 12, .inl tf))] s.heap := hP
  have hl : lv_has ls 6 [(0, .ref h), (1, .int (nI j))] := hl
  have hS9 : va_S (fun _ => False) s.heap s.heap [] := va_S.rf
  refine lv_aload_n hx hb dX0_place_0 rfl (lv_at hl 0 rfl) ?_
  refine lv_iload_n hx hb dX0_place_1 rfl (lv_at hl 1 rfl) ?_
  refine fb_roV (As := [.int (nI j)]) (rest := []) (n := 1) ⟨hx, hb, hml, hown, hts⟩ (fb_c_X0_sourness l G cI cL h n o d f nf uf df tf w dy j (by omega)) gX0_place_X0_sourness rfl (by decide +kernel) (by decide) (fb_PB.bl _ _ _ _) (va_recv hK hP (ci := 0) (q0 := 0) rfl rfl) (fb_PB.to hP hK hX) rfl hl.1 rfl (Nat.le_of_ble_eq_true rfl) dX0_place_2 (by decide) ?_
  refine lv_istore_n (lv' := [(2, .int (fb_so (fb_rg nf) (fb_rg uf) j)), (0, .ref h), (1, .int (nI j))]) hx hb dX0_place_5 rfl hl (by decide) rfl (fun ls hl => ?_)
  refine lv_iconst (v := 1) hx hb dX0_place_6 (by decide) ?_
  refine lv_istore_n (lv' := [(3, .int 1), (2, .int (fb_so (fb_rg nf) (fb_rg uf) j)), (0, .ref h), (1, .int (nI j))]) hx hb dX0_place_7 rfl hl (by decide) rfl (fun ls hl => ?_)
  refine lv_iconst (v := 0) hx hb dX0_place_8 (by decide) ?_
  refine lv_istore (lv' := [(4, .int 0), (3, .int 1), (2, .int (fb_so (fb_rg nf) (fb_rg uf) j)), (0, .ref h), (1, .int (nI j))]) hx hb dX0_place_9 hl (by decide) rfl (fun ls hl => ?_)
  have lp11 : ∀ (n9 i : Nat), i ≤ 12 → 12 < i + n9 → ∀ ls : Array Slot, lv_has ls 6 [(4, .int (nI i)), (3, .int (fb_pl (fb_rg nf) (fb_rg uf) j i)), (2, .int (fb_so (fb_rg nf) (fb_rg uf) j)), (0, .ref h), (1, .int (nI j))] → W p l e ({ frames := 4, cells := 0, slots := 0, locals := 89 }) s m args below meth c s.heap [] 0 0 (MQ below (k2_QcV (.int (fb_pl (fb_rg nf) (fb_rg uf) j 12))) args s 0 0 (fun _ => False)) (F0 m 11 ls []) := by
    intro n9
    induction n9 with
    | zero => intro i h1 h2; exact absurd h2 (by omega)
    | succ n9 ih11 =>
      intro i hi_i hin9 ls hl
      refine lv_iload hx hb dX0_place_11 (lv_at hl 0 rfl) ?_
      refine lv_bipush (v := 12) hx hb dX0_place_13 (by decide) ?_
      refine lv_icmp_ge (tgt := 53) hx hb dX0_place_15 (by decide) (fun c15 => ?_) (fun c15 => ?_)
      · skip
        have hxi : i = 12 := fb_lp_ex (by decide) hi_i c15
        subst hxi
        refine lv_iload_n hx hb dX0_place_53 rfl (lv_at hl 1 rfl) ?_
        exact fb_iret hx hb hr hlk dX0_place_54 (rfl)
      · skip
        have hi12 : i < 12 := fb_lp_in (by decide) hi_i c15
        refine lv_aload_n hx hb dX0_place_18 rfl (lv_at hl 3 rfl) ?_
        refine lv_iload hx hb dX0_place_19 (lv_at hl 0 rfl) ?_
        refine fb_roV (As := [.int (nI i)]) (rest := []) (n := 1) ⟨hx, hb, hml, hown, hts⟩ (fb_c_X0_sourness l G cI cL h n o d f nf uf df tf w dy i (by omega)) gX0_place_X0_sourness rfl (by decide +kernel) (by decide) (fb_PB.bl _ _ _ _) (va_recv hK hP (ci := 0) (q0 := 0) rfl rfl) (fb_PB.to hP hK hX) rfl hl.1 rfl (Nat.le_of_ble_eq_true rfl) dX0_place_21 (by decide) ?_
        refine lv_istore (lv' := [(5, .int (fb_so (fb_rg nf) (fb_rg uf) i)), (4, .int (nI i)), (3, .int (fb_pl (fb_rg nf) (fb_rg uf) j i)), (2, .int (fb_so (fb_rg nf) (fb_rg uf) j)), (0, .ref h), (1, .int (nI j))]) hx hb dX0_place_24 hl (by decide) rfl (fun ls hl => ?_)
        refine lv_iload hx hb dX0_place_26 (lv_at hl 0 rfl) ?_
        refine lv_iload_n hx hb dX0_place_28 rfl (lv_at hl 3 rfl) ?_
        refine lv_icmp_lt (tgt := 44) hx hb dX0_place_29 (by decide) (fun c29 => ?_) (fun c29 => ?_)
        · skip
          refine lv_iinc (v := fb_pl (fb_rg nf) (fb_rg uf) j (i + 1)) (lv' := [(3, .int (fb_pl (fb_rg nf) (fb_rg uf) j (i + 1))), (5, .int (fb_so (fb_rg nf) (fb_rg uf) i)), (4, .int (nI i)), (2, .int (fb_so (fb_rg nf) (fb_rg uf) j)), (0, .ref h), (1, .int (nI j))]) hx hb dX0_place_44 hl (k := 2) rfl ((if_pos (Or.inl c29)).symm) (by decide) rfl (fun ls hl => ?_)
          refine lv_iinc (v := nI (i + 1)) (lv' := [(4, .int (nI (i + 1))), (3, .int (fb_pl (fb_rg nf) (fb_rg uf) j (i + 1))), (5, .int (fb_so (fb_rg nf) (fb_rg uf) i)), (2, .int (fb_so (fb_rg nf) (fb_rg uf) j)), (0, .ref h), (1, .int (nI j))]) hx hb dX0_place_47 hl (k := 2) rfl (show nI i + 1 = nI (i + 1) from nI_1 i) (by decide) rfl (fun ls hl => ?_)
          refine lv_goto (tgt := 11) hx hb dX0_place_50 (by decide) ?_
          exact ih11 (i + 1) (by omega) (by omega) _ (lv_sub hl [0, 1, 3, 4, 5] (rfl))
        · skip
          refine lv_iload hx hb dX0_place_32 (lv_at hl 0 rfl) ?_
          refine lv_iload_n hx hb dX0_place_34 rfl (lv_at hl 3 rfl) ?_
          refine lv_icmp_ne (tgt := 47) hx hb dX0_place_35 (by decide) (fun c35 => ?_) (fun c35 => ?_)
          · skip
            have hl : lv_has ls 6 [(5, .int (fb_so (fb_rg nf) (fb_rg uf) i)), (4, .int (nI i)), (3, .int (fb_pl (fb_rg nf) (fb_rg uf) j (i + 1))), (2, .int (fb_so (fb_rg nf) (fb_rg uf) j)), (0, .ref h), (1, .int (nI j))] := lv_sub hl [0, 1, 2, 3, 4, 5] (by rw [show fb_pl (fb_rg nf) (fb_rg uf) j i = fb_pl (fb_rg nf) (fb_rg uf) j (i + 1) from (if_neg (fun q => q.elim c29 (fun z => c35 z.1))).symm]; rfl)
            refine lv_iinc (v := nI (i + 1)) (lv' := [(4, .int (nI (i + 1))), (5, .int (fb_so (fb_rg nf) (fb_rg uf) i)), (3, .int (fb_pl (fb_rg nf) (fb_rg uf) j (i + 1))), (2, .int (fb_so (fb_rg nf) (fb_rg uf) j)), (0, .ref h), (1, .int (nI j))]) hx hb dX0_place_47 hl (k := 1) rfl (show nI i + 1 = nI (i + 1) from nI_1 i) (by decide) rfl (fun ls hl => ?_)
            refine lv_goto (tgt := 11) hx hb dX0_place_50 (by decide) ?_
            exact ih11 (i + 1) (by omega) (by omega) _ (lv_sub hl [0, 2, 3, 4, 5] (rfl))
          · skip
            refine lv_iload hx hb dX0_place_38 (lv_at hl 1 rfl) ?_
            refine lv_iload_n hx hb dX0_place_40 rfl (lv_at hl 5 rfl) ?_
            refine lv_icmp_ge (tgt := 47) hx hb dX0_place_41 (by decide) (fun c41 => ?_) (fun c41 => ?_)
            · skip
              have h41 : ¬ i < j := Nat.not_lt.mpr ((nI_leI (by omega) (by omega)).mp c41)
              have hl : lv_has ls 6 [(5, .int (fb_so (fb_rg nf) (fb_rg uf) i)), (4, .int (nI i)), (3, .int (fb_pl (fb_rg nf) (fb_rg uf) j (i + 1))), (2, .int (fb_so (fb_rg nf) (fb_rg uf) j)), (0, .ref h), (1, .int (nI j))] := lv_sub hl [0, 1, 2, 3, 4, 5] (by rw [show fb_pl (fb_rg nf) (fb_rg uf) j i = fb_pl (fb_rg nf) (fb_rg uf) j (i + 1) from (if_neg (fun q => q.elim c29 (fun z => h41 z.2))).symm]; rfl)
              refine lv_iinc (v := nI (i + 1)) (lv' := [(4, .int (nI (i + 1))), (5, .int (fb_so (fb_rg nf) (fb_rg uf) i)), (3, .int (fb_pl (fb_rg nf) (fb_rg uf) j (i + 1))), (2, .int (fb_so (fb_rg nf) (fb_rg uf) j)), (0, .ref h), (1, .int (nI j))]) hx hb dX0_place_47 hl (k := 1) rfl (show nI i + 1 = nI (i + 1) from nI_1 i) (by decide) rfl (fun ls hl => ?_)
              refine lv_goto (tgt := 11) hx hb dX0_place_50 (by decide) ?_
              exact ih11 (i + 1) (by omega) (by omega) _ (lv_sub hl [0, 2, 3, 4, 5] (rfl))
            · skip
              have h41 : i < j := Nat.lt_of_not_le (fun z => c41 (nI_le z (by omega)))
              refine lv_iinc (v := fb_pl (fb_rg nf) (fb_rg uf) j (i + 1)) (lv' := [(3, .int (fb_pl (fb_rg nf) (fb_rg uf) j (i + 1))), (5, .int (fb_so (fb_rg nf) (fb_rg uf) i)), (4, .int (nI i)), (2, .int (fb_so (fb_rg nf) (fb_rg uf) j)), (0, .ref h), (1, .int (nI j))]) hx hb dX0_place_44 hl (k := 2) rfl ((if_pos (Or.inr ⟨c35, h41⟩)).symm) (by decide) rfl (fun ls hl => ?_)
              refine lv_iinc (v := nI (i + 1)) (lv' := [(4, .int (nI (i + 1))), (3, .int (fb_pl (fb_rg nf) (fb_rg uf) j (i + 1))), (5, .int (fb_so (fb_rg nf) (fb_rg uf) i)), (2, .int (fb_so (fb_rg nf) (fb_rg uf) j)), (0, .ref h), (1, .int (nI j))]) hx hb dX0_place_47 hl (k := 2) rfl (show nI i + 1 = nI (i + 1) from nI_1 i) (by decide) rfl (fun ls hl => ?_)
              refine lv_goto (tgt := 11) hx hb dX0_place_50 (by decide) ?_
              exact ih11 (i + 1) (by omega) (by omega) _ (lv_sub hl [0, 1, 3, 4, 5] (rfl))
  exact lp11 (12 + 1) 0 (by omega) (by omega) _ (lv_sub hl [0, 1, 2, 3, 4] (rfl))
set_option maxHeartbeats 4000000 in
set_option maxRecDepth 100000 in
theorem fb_c_X0_cost (l : Launch) (G : va_G) (cI cL : ClassId) (h n o d f : Nat) (nf uf df tf : Nat → Int32) (w : Nat) (dy : Int32) : fb_RO l yX0_cost wsX0_cost 4 89 [.ref h] (fb_PB G cI cL (fb_PW cI h n o d f nf uf df tf (nI w) dy)) (.int (fb_co (fb_rg nf) (fb_rg uf) (fb_rg tf) 12)) := by
  refine fb_ro_of (cc := cX0_cost) (maxL := 3) (ret := (some .int)) (by decide) rfl (Nat.le_of_ble_eq_true rfl) ?_
  intro p e s m args below meth c hx hb hr hml hlk hts hown hB ls hl
  have hown : s.vm.findClass RX0 = some m.cls := hown
  obtain ⟨hP, hK, hX⟩ := hB
  have hP : va_P G vwCl [(h, .inr (0, [.ref n, .ref o, .ref d, .ref f, .int (nI w), .int dy])), (n, .inl (cI, 12, .inl nf)), (o, .inl (cI, 12, .inl uf)), (d, .inl (cI, 12, .inl df)), (f, .inl (cI, 12, .inl tf))] s.heap := hP
  have hl : lv_has ls 3 [(0, .ref h)] := hl
  have hin0 : ∀ w ∈ u_ws RX0 TX0 6, w ∈ wsX0_cost := by decide +kernel
  have hS9 : va_S (fun _ => False) s.heap s.heap [] := va_S.rf
  refine lv_iconst (v := 0) hx hb dX0_cost_0 (by decide) ?_
  refine lv_istore_n (lv' := [(1, .int 0), (0, .ref h)]) hx hb dX0_cost_1 rfl hl (by decide) rfl (fun ls hl => ?_)
  refine lv_iconst (v := 0) hx hb dX0_cost_2 (by decide) ?_
  refine lv_istore_n (lv' := [(2, .int 0), (1, .int 0), (0, .ref h)]) hx hb dX0_cost_3 rfl hl (by decide) rfl (fun ls hl => ?_)
  have lp4 : ∀ (n9 i : Nat), i ≤ 12 → 12 < i + n9 → ∀ ls : Array Slot, lv_has ls 3 [(2, .int (nI i)), (1, .int (fb_co (fb_rg nf) (fb_rg uf) (fb_rg tf) i)), (0, .ref h)] → W p l e ({ frames := 4, cells := 0, slots := 0, locals := 89 }) s m args below meth c s.heap [] 0 0 (MQ below (k2_QcV (.int (fb_co (fb_rg nf) (fb_rg uf) (fb_rg tf) 12))) args s 0 0 (fun _ => False)) (F0 m 4 ls []) := by
    intro n9
    induction n9 with
    | zero => intro i h1 h2; exact absurd h2 (by omega)
    | succ n9 ih4 =>
      intro i hi_i hin9 ls hl
      refine lv_iload_n hx hb dX0_cost_4 rfl (lv_at hl 0 rfl) ?_
      refine lv_bipush (v := 12) hx hb dX0_cost_5 (by decide) ?_
      refine lv_icmp_ge (tgt := 31) hx hb dX0_cost_7 (by decide) (fun c7 => ?_) (fun c7 => ?_)
      · skip
        have hxi : i = 12 := fb_lp_ex (by decide) hi_i c7
        subst hxi
        refine lv_iload_n hx hb dX0_cost_31 rfl (lv_at hl 1 rfl) ?_
        exact fb_iret hx hb hr hlk dX0_cost_32 (rfl)
      · skip
        have hi12 : i < 12 := fb_lp_in (by decide) hi_i c7
        refine lv_iload_n hx hb dX0_cost_10 rfl (lv_at hl 1 rfl) ?_
        refine lv_aload_n hx hb dX0_cost_11 rfl (lv_at hl 2 rfl) ?_
        refine lv_iload_n hx hb dX0_cost_12 rfl (lv_at hl 0 rfl) ?_
        refine fb_roV (As := [.int (nI i)]) (rest := [.int (fb_co (fb_rg nf) (fb_rg uf) (fb_rg tf) i)]) (n := 1) ⟨hx, hb, hml, hown, hts⟩ (fb_c_X0_sourness l G cI cL h n o d f nf uf df tf w dy i (by omega)) gX0_cost_X0_sourness rfl (by decide +kernel) (by decide) (fb_PB.bl _ _ _ _) (va_recv hK hP (ci := 0) (q0 := 0) rfl rfl) (fb_PB.to hP hK hX) rfl hl.1 rfl (Nat.le_of_ble_eq_true rfl) dX0_cost_13 (by decide) ?_
        refine lv_aload_n hx hb dX0_cost_16 rfl (lv_at hl 2 rfl) ?_
        refine va_get (D := G) (ci := 0) (v := .ref f) (C := RX0) (T := TX0) (N := 6) hx hb hts (hin0) hown hK hP 0 rfl rfl 3 (by decide) (hts (.fieldLink RX0 21 "FifthBeats$Piano" "often" "[I") (by decide +kernel)) (fun _ h9 => h9) rfl dX0_cost_17 ?_
        refine lv_iload_n hx hb dX0_cost_20 rfl (lv_at hl 0 rfl) ?_
        refine va_iald hx hb hK hP 4 0 rfl rfl (vp_in_nI hi12 (by decide)) dX0_cost_21 ?_
        refine fb_ti (z := fb_rg tf i) (by rw [fb_cl (by omega), fb_rg_lt hi12]) ?_
        refine lv_imul hx hb dX0_cost_22 ?_
        refine lv_iadd hx hb dX0_cost_23 ?_
        refine lv_istore_n (lv' := [(1, .int ((fb_co (fb_rg nf) (fb_rg uf) (fb_rg tf) i) + ((fb_so (fb_rg nf) (fb_rg uf) i) * (fb_rg tf i)))), (2, .int (nI i)), (0, .ref h)]) hx hb dX0_cost_24 rfl hl (by decide) rfl (fun ls hl => ?_)
        refine lv_iinc (v := nI (i + 1)) (lv' := [(2, .int (nI (i + 1))), (1, .int ((fb_co (fb_rg nf) (fb_rg uf) (fb_rg tf) i) + ((fb_so (fb_rg nf) (fb_rg uf) i) * (fb_rg tf i)))), (0, .ref h)]) hx hb dX0_cost_25 hl (k := 1) rfl (show nI i + 1 = nI (i + 1) from nI_1 i) (by decide) rfl (fun ls hl => ?_)
        refine lv_goto (tgt := 4) hx hb dX0_cost_28 (by decide) ?_
        exact ih4 (i + 1) (by omega) (by omega) _ (lv_sub hl [0, 1, 2] (rfl))
  exact lp4 (12 + 1) 0 (by omega) (by omega) _ (lv_sub hl [0, 1, 2] (rfl))
set_option maxHeartbeats 4000000 in
set_option maxRecDepth 100000 in
theorem fb_c_X0_mostMajorOff (l : Launch) (G : va_G) (cI cL : ClassId) (h n o d f : Nat) (nf uf df tf : Nat → Int32) (w : Nat) (dy : Int32) : fb_RO l yX0_mostMajorOff wsX0_mostMajorOff 3 68 [.ref h] (fb_PB G cI cL (fb_PW cI h n o d f nf uf df tf (nI w) dy)) (.int (fb_mm (fb_rg nf) (fb_rg uf) 12)) := by
  refine fb_ro_of (cc := cX0_mostMajorOff) (maxL := 3) (ret := (some .int)) (by decide) rfl (Nat.le_of_ble_eq_true rfl) ?_
  intro p e s m args below meth c hx hb hr hml hlk hts hown hB ls hl
  have hown : s.vm.findClass RX0 = some m.cls := hown
  obtain ⟨hP, hK, hX⟩ := hB
  have hP : va_P G vwCl [(h, .inr (0, [.ref n, .ref o, .ref d, .ref f, .int (nI w), .int dy])), (n, .inl (cI, 12, .inl nf)), (o, .inl (cI, 12, .inl uf)), (d, .inl (cI, 12, .inl df)), (f, .inl (cI, 12, .inl tf))] s.heap := hP
  have hl : lv_has ls 3 [(0, .ref h)] := hl
  have hS9 : va_S (fun _ => False) s.heap s.heap [] := va_S.rf
  refine lv_iconst (v := 0) hx hb dX0_mostMajorOff_0 (by decide) ?_
  refine lv_istore_n (lv' := [(1, .int 0), (0, .ref h)]) hx hb dX0_mostMajorOff_1 rfl hl (by decide) rfl (fun ls hl => ?_)
  refine lv_iconst (v := 0) hx hb dX0_mostMajorOff_2 (by decide) ?_
  refine lv_istore_n (lv' := [(2, .int 0), (1, .int 0), (0, .ref h)]) hx hb dX0_mostMajorOff_3 rfl hl (by decide) rfl (fun ls hl => ?_)
  have lp4 : ∀ (n9 i : Nat), i ≤ 12 → 12 < i + n9 → ∀ ls : Array Slot, lv_has ls 3 [(2, .int (nI i)), (1, .int (fb_mm (fb_rg nf) (fb_rg uf) i)), (0, .ref h)] → W p l e ({ frames := 3, cells := 0, slots := 0, locals := 68 }) s m args below meth c s.heap [] 0 0 (MQ below (k2_QcV (.int (fb_mm (fb_rg nf) (fb_rg uf) 12))) args s 0 0 (fun _ => False)) (F0 m 4 ls []) := by
    intro n9
    induction n9 with
    | zero => intro i h1 h2; exact absurd h2 (by omega)
    | succ n9 ih4 =>
      intro i hi_i hin9 ls hl
      refine lv_iload_n hx hb dX0_mostMajorOff_4 rfl (lv_at hl 0 rfl) ?_
      refine lv_bipush (v := 12) hx hb dX0_mostMajorOff_5 (by decide) ?_
      refine lv_icmp_ge (tgt := 29) hx hb dX0_mostMajorOff_7 (by decide) (fun c7 => ?_) (fun c7 => ?_)
      · skip
        have hxi : i = 12 := fb_lp_ex (by decide) hi_i c7
        subst hxi
        refine lv_iload_n hx hb dX0_mostMajorOff_29 rfl (lv_at hl 1 rfl) ?_
        exact fb_iret hx hb hr hlk dX0_mostMajorOff_30 (rfl)
      · skip
        have hi12 : i < 12 := fb_lp_in (by decide) hi_i c7
        refine lv_iload_n hx hb dX0_mostMajorOff_10 rfl (lv_at hl 1 rfl) ?_
        refine lv_aload_n hx hb dX0_mostMajorOff_11 rfl (lv_at hl 2 rfl) ?_
        refine lv_iload_n hx hb dX0_mostMajorOff_12 rfl (lv_at hl 0 rfl) ?_
        refine fb_roV (As := [.int (nI i)]) (rest := [.int (fb_mm (fb_rg nf) (fb_rg uf) i)]) (n := 1) ⟨hx, hb, hml, hown, hts⟩ (fb_c_X0_majorOff l G cI cL h n o d f nf uf df tf w dy i (by omega)) gX0_mostMajorOff_X0_majorOff rfl (by decide +kernel) (by decide) (fb_PB.bl _ _ _ _) (va_recv hK hP (ci := 0) (q0 := 0) rfl rfl) (fb_PB.to hP hK hX) rfl hl.1 rfl (Nat.le_of_ble_eq_true rfl) dX0_mostMajorOff_13 (by decide) ?_
        refine va_mabs hx hb (hml.trans hl.1.symm) hown (hts (.methodLink RX0 59 Lib.Math.abs.name) (by decide +kernel)) (hts (.static Lib.Math.abs.name) (by decide +kernel)) (hts (.initialized "java/lang/Math") (by decide +kernel)) (hts (.code Lib.Math.abs.name Lib.Math.abs.code 1 (some .int)) (by decide +kernel)) (Nat.le_of_ble_eq_true rfl) (Nat.le_of_ble_eq_true rfl) (Nat.zero_le _) (Nat.zero_le _) dX0_mostMajorOff_16 ?_
        refine fb_ti (z := fb_ab (fb_mj (fb_rg nf) (fb_rg uf) i 4)) rfl ?_
        refine va_mmax hx hb (hml.trans hl.1.symm) hown (hts (.methodLink RX0 50 Lib.Math.max.name) (by decide +kernel)) (hts (.static Lib.Math.max.name) (by decide +kernel)) (hts (.initialized "java/lang/Math") (by decide +kernel)) (hts (.code Lib.Math.max.name Lib.Math.max.code 2 (some .int)) (by decide +kernel)) (Nat.le_of_ble_eq_true rfl) (Nat.le_of_ble_eq_true rfl) (Nat.zero_le _) (Nat.zero_le _) dX0_mostMajorOff_19 ?_
        refine fb_ti (z := fb_mx (fb_mm (fb_rg nf) (fb_rg uf) i) (fb_ab (fb_mj (fb_rg nf) (fb_rg uf) i 4))) rfl ?_
        refine lv_istore_n (lv' := [(1, .int (fb_mx (fb_mm (fb_rg nf) (fb_rg uf) i) (fb_ab (fb_mj (fb_rg nf) (fb_rg uf) i 4)))), (2, .int (nI i)), (0, .ref h)]) hx hb dX0_mostMajorOff_22 rfl hl (by decide) rfl (fun ls hl => ?_)
        refine lv_iinc (v := nI (i + 1)) (lv' := [(2, .int (nI (i + 1))), (1, .int (fb_mx (fb_mm (fb_rg nf) (fb_rg uf) i) (fb_ab (fb_mj (fb_rg nf) (fb_rg uf) i 4)))), (0, .ref h)]) hx hb dX0_mostMajorOff_23 hl (k := 1) rfl (show nI i + 1 = nI (i + 1) from nI_1 i) (by decide) rfl (fun ls hl => ?_)
        refine lv_goto (tgt := 4) hx hb dX0_mostMajorOff_26 (by decide) ?_
        exact ih4 (i + 1) (by omega) (by omega) _ (lv_sub hl [0, 1, 2] (rfl))
  exact lp4 (12 + 1) 0 (by omega) (by omega) _ (lv_sub hl [0, 1, 2] (rfl))
set_option maxHeartbeats 4000000 in
set_option maxRecDepth 100000 in
theorem fb_c_X0_pureFifths (l : Launch) (G : va_G) (cI cL : ClassId) (h n o d f : Nat) (nf uf df tf : Nat → Int32) (w : Nat) (dy : Int32) : fb_RO l yX0_pureFifths wsX0_pureFifths 2 45 [.ref h] (fb_PB G cI cL (fb_PW cI h n o d f nf uf df tf (nI w) dy)) (.int (fb_pu (fb_rg nf) (fb_rg uf) 12)) := by
  refine fb_ro_of (cc := cX0_pureFifths) (maxL := 3) (ret := (some .int)) (by decide) rfl (Nat.le_of_ble_eq_true rfl) ?_
  intro p e s m args below meth c hx hb hr hml hlk hts hown hB ls hl
  have hown : s.vm.findClass RX0 = some m.cls := hown
  obtain ⟨hP, hK, hX⟩ := hB
  have hP : va_P G vwCl [(h, .inr (0, [.ref n, .ref o, .ref d, .ref f, .int (nI w), .int dy])), (n, .inl (cI, 12, .inl nf)), (o, .inl (cI, 12, .inl uf)), (d, .inl (cI, 12, .inl df)), (f, .inl (cI, 12, .inl tf))] s.heap := hP
  have hl : lv_has ls 3 [(0, .ref h)] := hl
  have hS9 : va_S (fun _ => False) s.heap s.heap [] := va_S.rf
  refine lv_iconst (v := 0) hx hb dX0_pureFifths_0 (by decide) ?_
  refine lv_istore_n (lv' := [(1, .int 0), (0, .ref h)]) hx hb dX0_pureFifths_1 rfl hl (by decide) rfl (fun ls hl => ?_)
  refine lv_iconst (v := 0) hx hb dX0_pureFifths_2 (by decide) ?_
  refine lv_istore_n (lv' := [(2, .int 0), (1, .int 0), (0, .ref h)]) hx hb dX0_pureFifths_3 rfl hl (by decide) rfl (fun ls hl => ?_)
  have lp4 : ∀ (n9 i : Nat), i ≤ 12 → 12 < i + n9 → ∀ ls : Array Slot, lv_has ls 3 [(2, .int (nI i)), (1, .int (fb_pu (fb_rg nf) (fb_rg uf) i)), (0, .ref h)] → W p l e ({ frames := 2, cells := 0, slots := 0, locals := 45 }) s m args below meth c s.heap [] 0 0 (MQ below (k2_QcV (.int (fb_pu (fb_rg nf) (fb_rg uf) 12))) args s 0 0 (fun _ => False)) (F0 m 4 ls []) := by
    intro n9
    induction n9 with
    | zero => intro i h1 h2; exact absurd h2 (by omega)
    | succ n9 ih4 =>
      intro i hi_i hin9 ls hl
      refine lv_iload_n hx hb dX0_pureFifths_4 rfl (lv_at hl 0 rfl) ?_
      refine lv_bipush (v := 12) hx hb dX0_pureFifths_5 (by decide) ?_
      refine lv_icmp_ge (tgt := 27) hx hb dX0_pureFifths_7 (by decide) (fun c7 => ?_) (fun c7 => ?_)
      · skip
        have hxi : i = 12 := fb_lp_ex (by decide) hi_i c7
        subst hxi
        refine lv_iload_n hx hb dX0_pureFifths_27 rfl (lv_at hl 1 rfl) ?_
        exact fb_iret hx hb hr hlk dX0_pureFifths_28 (rfl)
      · skip
        have hi12 : i < 12 := fb_lp_in (by decide) hi_i c7
        refine lv_aload_n hx hb dX0_pureFifths_10 rfl (lv_at hl 2 rfl) ?_
        refine lv_iload_n hx hb dX0_pureFifths_11 rfl (lv_at hl 0 rfl) ?_
        refine fb_roV (As := [.int (nI i)]) (rest := []) (n := 1) ⟨hx, hb, hml, hown, hts⟩ (fb_c_X0_narrowness l G cI cL h n o d f nf uf df tf w dy i (by omega)) gX0_pureFifths_X0_narrowness rfl (by decide +kernel) (by decide) (fb_PB.bl _ _ _ _) (va_recv hK hP (ci := 0) (q0 := 0) rfl rfl) (fb_PB.to hP hK hX) rfl hl.1 rfl (Nat.le_of_ble_eq_true rfl) dX0_pureFifths_12 (by decide) ?_
        refine lv_if_ne (tgt := 21) hx hb dX0_pureFifths_15 (by decide) (fun c15 => ?_) (fun c15 => ?_)
        · skip
          have hl : lv_has ls 3 [(2, .int (nI i)), (1, .int (fb_pu (fb_rg nf) (fb_rg uf) (i + 1))), (0, .ref h)] := lv_sub hl [0, 1, 2] (by rw [show fb_pu (fb_rg nf) (fb_rg uf) i = fb_pu (fb_rg nf) (fb_rg uf) (i + 1) from (if_neg c15).symm]; rfl)
          refine lv_iinc (v := nI (i + 1)) (lv' := [(2, .int (nI (i + 1))), (1, .int (fb_pu (fb_rg nf) (fb_rg uf) (i + 1))), (0, .ref h)]) hx hb dX0_pureFifths_21 hl (k := 0) rfl (show nI i + 1 = nI (i + 1) from nI_1 i) (by decide) rfl (fun ls hl => ?_)
          refine lv_goto (tgt := 4) hx hb dX0_pureFifths_24 (by decide) ?_
          exact ih4 (i + 1) (by omega) (by omega) _ (lv_sub hl [0, 1, 2] (rfl))
        · skip
          refine lv_iinc (v := fb_pu (fb_rg nf) (fb_rg uf) (i + 1)) (lv' := [(1, .int (fb_pu (fb_rg nf) (fb_rg uf) (i + 1))), (2, .int (nI i)), (0, .ref h)]) hx hb dX0_pureFifths_18 hl (k := 1) rfl ((if_pos c15).symm) (by decide) rfl (fun ls hl => ?_)
          refine lv_iinc (v := nI (i + 1)) (lv' := [(2, .int (nI (i + 1))), (1, .int (fb_pu (fb_rg nf) (fb_rg uf) (i + 1))), (0, .ref h)]) hx hb dX0_pureFifths_21 hl (k := 1) rfl (show nI i + 1 = nI (i + 1) from nI_1 i) (by decide) rfl (fun ls hl => ?_)
          refine lv_goto (tgt := 4) hx hb dX0_pureFifths_24 (by decide) ?_
          exact ih4 (i + 1) (by omega) (by omega) _ (lv_sub hl [0, 1, 2] (rfl))
  exact lp4 (12 + 1) 0 (by omega) (by omega) _ (lv_sub hl [0, 1, 2] (rfl))
set_option maxHeartbeats 4000000 in
set_option maxRecDepth 100000 in
theorem fb_c_X0_mostOff (l : Launch) (G : va_G) (cI cL : ClassId) (h n o d f : Nat) (nf uf df tf : Nat → Int32) (w : Nat) (dy : Int32) : fb_RO l yX0_mostOff wsX0_mostOff 1 21 [.ref h] (fb_PB G cI cL (fb_PW cI h n o d f nf uf df tf (nI w) dy)) (.int (fb_mo (fb_rg uf) 12)) := by
  refine fb_ro_of (cc := cX0_mostOff) (maxL := 3) (ret := (some .int)) (by decide) rfl (Nat.le_of_ble_eq_true rfl) ?_
  intro p e s m args below meth c hx hb hr hml hlk hts hown hB ls hl
  have hown : s.vm.findClass RX0 = some m.cls := hown
  obtain ⟨hP, hK, hX⟩ := hB
  have hP : va_P G vwCl [(h, .inr (0, [.ref n, .ref o, .ref d, .ref f, .int (nI w), .int dy])), (n, .inl (cI, 12, .inl nf)), (o, .inl (cI, 12, .inl uf)), (d, .inl (cI, 12, .inl df)), (f, .inl (cI, 12, .inl tf))] s.heap := hP
  have hl : lv_has ls 3 [(0, .ref h)] := hl
  have hin0 : ∀ w ∈ u_ws RX0 TX0 6, w ∈ wsX0_mostOff := by decide +kernel
  have hS9 : va_S (fun _ => False) s.heap s.heap [] := va_S.rf
  refine lv_iconst (v := 0) hx hb dX0_mostOff_0 (by decide) ?_
  refine lv_istore_n (lv' := [(1, .int 0), (0, .ref h)]) hx hb dX0_mostOff_1 rfl hl (by decide) rfl (fun ls hl => ?_)
  refine lv_iconst (v := 0) hx hb dX0_mostOff_2 (by decide) ?_
  refine lv_istore_n (lv' := [(2, .int 0), (1, .int 0), (0, .ref h)]) hx hb dX0_mostOff_3 rfl hl (by decide) rfl (fun ls hl => ?_)
  have lp4 : ∀ (n9 i : Nat), i ≤ 12 → 12 < i + n9 → ∀ ls : Array Slot, lv_has ls 3 [(2, .int (nI i)), (1, .int (fb_mo (fb_rg uf) i)), (0, .ref h)] → W p l e ({ frames := 1, cells := 0, slots := 0, locals := 21 }) s m args below meth c s.heap [] 0 0 (MQ below (k2_QcV (.int (fb_mo (fb_rg uf) 12))) args s 0 0 (fun _ => False)) (F0 m 4 ls []) := by
    intro n9
    induction n9 with
    | zero => intro i h1 h2; exact absurd h2 (by omega)
    | succ n9 ih4 =>
      intro i hi_i hin9 ls hl
      refine lv_iload_n hx hb dX0_mostOff_4 rfl (lv_at hl 0 rfl) ?_
      refine lv_bipush (v := 12) hx hb dX0_mostOff_5 (by decide) ?_
      refine lv_icmp_ge (tgt := 30) hx hb dX0_mostOff_7 (by decide) (fun c7 => ?_) (fun c7 => ?_)
      · skip
        have hxi : i = 12 := fb_lp_ex (by decide) hi_i c7
        subst hxi
        refine lv_iload_n hx hb dX0_mostOff_30 rfl (lv_at hl 1 rfl) ?_
        exact fb_iret hx hb hr hlk dX0_mostOff_31 (rfl)
      · skip
        have hi12 : i < 12 := fb_lp_in (by decide) hi_i c7
        refine lv_iload_n hx hb dX0_mostOff_10 rfl (lv_at hl 1 rfl) ?_
        refine lv_aload_n hx hb dX0_mostOff_11 rfl (lv_at hl 2 rfl) ?_
        refine va_get (D := G) (ci := 0) (v := .ref o) (C := RX0) (T := TX0) (N := 6) hx hb hts (hin0) hown hK hP 0 rfl rfl 1 (by decide) (hts (.fieldLink RX0 15 "FifthBeats$Piano" "off" "[I") (by decide +kernel)) (fun _ h9 => h9) rfl dX0_mostOff_12 ?_
        refine lv_iload_n hx hb dX0_mostOff_15 rfl (lv_at hl 0 rfl) ?_
        refine va_iald hx hb hK hP 2 0 rfl rfl (vp_in_nI hi12 (by decide)) dX0_mostOff_16 ?_
        refine fb_ti (z := fb_rg uf i) (by rw [fb_cl (by omega), fb_rg_lt hi12]) ?_
        refine va_mabs hx hb (hml.trans hl.1.symm) hown (hts (.methodLink RX0 59 Lib.Math.abs.name) (by decide +kernel)) (hts (.static Lib.Math.abs.name) (by decide +kernel)) (hts (.initialized "java/lang/Math") (by decide +kernel)) (hts (.code Lib.Math.abs.name Lib.Math.abs.code 1 (some .int)) (by decide +kernel)) (Nat.le_of_ble_eq_true rfl) (Nat.le_of_ble_eq_true rfl) (Nat.zero_le _) (Nat.zero_le _) dX0_mostOff_17 ?_
        refine fb_ti (z := fb_ab (fb_rg uf i)) rfl ?_
        refine va_mmax hx hb (hml.trans hl.1.symm) hown (hts (.methodLink RX0 50 Lib.Math.max.name) (by decide +kernel)) (hts (.static Lib.Math.max.name) (by decide +kernel)) (hts (.initialized "java/lang/Math") (by decide +kernel)) (hts (.code Lib.Math.max.name Lib.Math.max.code 2 (some .int)) (by decide +kernel)) (Nat.le_of_ble_eq_true rfl) (Nat.le_of_ble_eq_true rfl) (Nat.zero_le _) (Nat.zero_le _) dX0_mostOff_20 ?_
        refine fb_ti (z := fb_mx (fb_mo (fb_rg uf) i) (fb_ab (fb_rg uf i))) rfl ?_
        refine lv_istore_n (lv' := [(1, .int (fb_mx (fb_mo (fb_rg uf) i) (fb_ab (fb_rg uf i)))), (2, .int (nI i)), (0, .ref h)]) hx hb dX0_mostOff_23 rfl hl (by decide) rfl (fun ls hl => ?_)
        refine lv_iinc (v := nI (i + 1)) (lv' := [(2, .int (nI (i + 1))), (1, .int (fb_mx (fb_mo (fb_rg uf) i) (fb_ab (fb_rg uf i)))), (0, .ref h)]) hx hb dX0_mostOff_24 hl (k := 1) rfl (show nI i + 1 = nI (i + 1) from nI_1 i) (by decide) rfl (fun ls hl => ?_)
        refine lv_goto (tgt := 4) hx hb dX0_mostOff_27 (by decide) ?_
        exact ih4 (i + 1) (by omega) (by omega) _ (lv_sub hl [0, 1, 2] (rfl))
  exact lp4 (12 + 1) 0 (by omega) (by omega) _ (lv_sub hl [0, 1, 2] (rfl))
set_option maxHeartbeats 4000000 in
set_option maxRecDepth 100000 in
theorem fb_c_X0_allOff (l : Launch) (G : va_G) (cI cL : ClassId) (h n o d f : Nat) (nf uf df tf : Nat → Int32) (w : Nat) (dy : Int32) : fb_RO l yX0_allOff wsX0_allOff 1 21 [.ref h] (fb_PB G cI cL (fb_PW cI h n o d f nf uf df tf (nI w) dy)) (.int (fb_ao (fb_rg uf) 12)) := by
  refine fb_ro_of (cc := cX0_allOff) (maxL := 3) (ret := (some .int)) (by decide) rfl (Nat.le_of_ble_eq_true rfl) ?_
  intro p e s m args below meth c hx hb hr hml hlk hts hown hB ls hl
  have hown : s.vm.findClass RX0 = some m.cls := hown
  obtain ⟨hP, hK, hX⟩ := hB
  have hP : va_P G vwCl [(h, .inr (0, [.ref n, .ref o, .ref d, .ref f, .int (nI w), .int dy])), (n, .inl (cI, 12, .inl nf)), (o, .inl (cI, 12, .inl uf)), (d, .inl (cI, 12, .inl df)), (f, .inl (cI, 12, .inl tf))] s.heap := hP
  have hl : lv_has ls 3 [(0, .ref h)] := hl
  have hin0 : ∀ w ∈ u_ws RX0 TX0 6, w ∈ wsX0_allOff := by decide +kernel
  have hS9 : va_S (fun _ => False) s.heap s.heap [] := va_S.rf
  refine lv_iconst (v := 0) hx hb dX0_allOff_0 (by decide) ?_
  refine lv_istore_n (lv' := [(1, .int 0), (0, .ref h)]) hx hb dX0_allOff_1 rfl hl (by decide) rfl (fun ls hl => ?_)
  refine lv_iconst (v := 0) hx hb dX0_allOff_2 (by decide) ?_
  refine lv_istore_n (lv' := [(2, .int 0), (1, .int 0), (0, .ref h)]) hx hb dX0_allOff_3 rfl hl (by decide) rfl (fun ls hl => ?_)
  have lp4 : ∀ (n9 i : Nat), i ≤ 12 → 12 < i + n9 → ∀ ls : Array Slot, lv_has ls 3 [(2, .int (nI i)), (1, .int (fb_ao (fb_rg uf) i)), (0, .ref h)] → W p l e ({ frames := 1, cells := 0, slots := 0, locals := 21 }) s m args below meth c s.heap [] 0 0 (MQ below (k2_QcV (.int (fb_ao (fb_rg uf) 12))) args s 0 0 (fun _ => False)) (F0 m 4 ls []) := by
    intro n9
    induction n9 with
    | zero => intro i h1 h2; exact absurd h2 (by omega)
    | succ n9 ih4 =>
      intro i hi_i hin9 ls hl
      refine lv_iload_n hx hb dX0_allOff_4 rfl (lv_at hl 0 rfl) ?_
      refine lv_bipush (v := 12) hx hb dX0_allOff_5 (by decide) ?_
      refine lv_icmp_ge (tgt := 28) hx hb dX0_allOff_7 (by decide) (fun c7 => ?_) (fun c7 => ?_)
      · skip
        have hxi : i = 12 := fb_lp_ex (by decide) hi_i c7
        subst hxi
        refine lv_iload_n hx hb dX0_allOff_28 rfl (lv_at hl 1 rfl) ?_
        exact fb_iret hx hb hr hlk dX0_allOff_29 (rfl)
      · skip
        have hi12 : i < 12 := fb_lp_in (by decide) hi_i c7
        refine lv_iload_n hx hb dX0_allOff_10 rfl (lv_at hl 1 rfl) ?_
        refine lv_aload_n hx hb dX0_allOff_11 rfl (lv_at hl 2 rfl) ?_
        refine va_get (D := G) (ci := 0) (v := .ref o) (C := RX0) (T := TX0) (N := 6) hx hb hts (hin0) hown hK hP 0 rfl rfl 1 (by decide) (hts (.fieldLink RX0 15 "FifthBeats$Piano" "off" "[I") (by decide +kernel)) (fun _ h9 => h9) rfl dX0_allOff_12 ?_
        refine lv_iload_n hx hb dX0_allOff_15 rfl (lv_at hl 0 rfl) ?_
        refine va_iald hx hb hK hP 2 0 rfl rfl (vp_in_nI hi12 (by decide)) dX0_allOff_16 ?_
        refine fb_ti (z := fb_rg uf i) (by rw [fb_cl (by omega), fb_rg_lt hi12]) ?_
        refine va_mabs hx hb (hml.trans hl.1.symm) hown (hts (.methodLink RX0 59 Lib.Math.abs.name) (by decide +kernel)) (hts (.static Lib.Math.abs.name) (by decide +kernel)) (hts (.initialized "java/lang/Math") (by decide +kernel)) (hts (.code Lib.Math.abs.name Lib.Math.abs.code 1 (some .int)) (by decide +kernel)) (Nat.le_of_ble_eq_true rfl) (Nat.le_of_ble_eq_true rfl) (Nat.zero_le _) (Nat.zero_le _) dX0_allOff_17 ?_
        refine fb_ti (z := fb_ab (fb_rg uf i)) rfl ?_
        refine lv_iadd hx hb dX0_allOff_20 ?_
        refine lv_istore_n (lv' := [(1, .int ((fb_ao (fb_rg uf) i) + (fb_ab (fb_rg uf i)))), (2, .int (nI i)), (0, .ref h)]) hx hb dX0_allOff_21 rfl hl (by decide) rfl (fun ls hl => ?_)
        refine lv_iinc (v := nI (i + 1)) (lv' := [(2, .int (nI (i + 1))), (1, .int ((fb_ao (fb_rg uf) i) + (fb_ab (fb_rg uf i)))), (0, .ref h)]) hx hb dX0_allOff_22 hl (k := 1) rfl (show nI i + 1 = nI (i + 1) from nI_1 i) (by decide) rfl (fun ls hl => ?_)
        refine lv_goto (tgt := 4) hx hb dX0_allOff_25 (by decide) ?_
        exact ih4 (i + 1) (by omega) (by omega) _ (lv_sub hl [0, 1, 2] (rfl))
  exact lp4 (12 + 1) 0 (by omega) (by omega) _ (lv_sub hl [0, 1, 2] (rfl))
set_option maxHeartbeats 4000000 in
set_option maxRecDepth 100000 in
theorem fb_c_X0_fastestBeats (l : Launch) (G : va_G) (cI cL : ClassId) (h n o d f : Nat) (nf uf df tf : Nat → Int32) (w : Nat) (dy : Int32) (hw : w < 12) : fb_RO l yX0_fastestBeats wsX0_fastestBeats 4 85 [.ref h] (fb_PB G cI cL (fb_PW cI h n o d f nf uf df tf (nI w) dy)) (.int (fb_fa (fb_rg nf) (fb_rg uf) w 12)) := by
  refine fb_ro_of (cc := cX0_fastestBeats) (maxL := 3) (ret := (some .int)) (by decide) rfl (Nat.le_of_ble_eq_true rfl) ?_
  intro p e s m args below meth c hx hb hr hml hlk hts hown hB ls hl
  have hown : s.vm.findClass RX0 = some m.cls := hown
  obtain ⟨hP, hK, hX⟩ := hB
  have hP : va_P G vwCl [(h, .inr (0, [.ref n, .ref o, .ref d, .ref f, .int (nI w), .int dy])), (n, .inl (cI, 12, .inl nf)), (o, .inl (cI, 12, .inl uf)), (d, .inl (cI, 12, .inl df)), (f, .inl (cI, 12, .inl tf))] s.heap := hP
  have hl : lv_has ls 3 [(0, .ref h)] := hl
  have hin0 : ∀ w ∈ u_ws RX0 TX0 6, w ∈ wsX0_fastestBeats := by decide +kernel
  have hS9 : va_S (fun _ => False) s.heap s.heap [] := va_S.rf
  refine lv_iconst (v := 0) hx hb dX0_fastestBeats_0 (by decide) ?_
  refine lv_istore_n (lv' := [(1, .int 0), (0, .ref h)]) hx hb dX0_fastestBeats_1 rfl hl (by decide) rfl (fun ls hl => ?_)
  refine lv_iconst (v := 0) hx hb dX0_fastestBeats_2 (by decide) ?_
  refine lv_istore_n (lv' := [(2, .int 0), (1, .int 0), (0, .ref h)]) hx hb dX0_fastestBeats_3 rfl hl (by decide) rfl (fun ls hl => ?_)
  have lp4 : ∀ (n9 i : Nat), i ≤ 12 → 12 < i + n9 → ∀ ls : Array Slot, lv_has ls 3 [(2, .int (nI i)), (1, .int (fb_fa (fb_rg nf) (fb_rg uf) w i)), (0, .ref h)] → W p l e ({ frames := 4, cells := 0, slots := 0, locals := 85 }) s m args below meth c s.heap [] 0 0 (MQ below (k2_QcV (.int (fb_fa (fb_rg nf) (fb_rg uf) w 12))) args s 0 0 (fun _ => False)) (F0 m 4 ls []) := by
    intro n9
    induction n9 with
    | zero => intro i h1 h2; exact absurd h2 (by omega)
    | succ n9 ih4 =>
      intro i hi_i hin9 ls hl
      refine lv_iload_n hx hb dX0_fastestBeats_4 rfl (lv_at hl 0 rfl) ?_
      refine lv_bipush (v := 12) hx hb dX0_fastestBeats_5 (by decide) ?_
      refine lv_icmp_ge (tgt := 34) hx hb dX0_fastestBeats_7 (by decide) (fun c7 => ?_) (fun c7 => ?_)
      · skip
        have hxi : i = 12 := fb_lp_ex (by decide) hi_i c7
        subst hxi
        refine lv_iload_n hx hb dX0_fastestBeats_34 rfl (lv_at hl 1 rfl) ?_
        exact fb_iret hx hb hr hlk dX0_fastestBeats_35 (rfl)
      · skip
        have hi12 : i < 12 := fb_lp_in (by decide) hi_i c7
        refine lv_iload_n hx hb dX0_fastestBeats_10 rfl (lv_at hl 0 rfl) ?_
        refine lv_aload_n hx hb dX0_fastestBeats_11 rfl (lv_at hl 2 rfl) ?_
        refine va_get (D := G) (ci := 0) (v := .int (nI w)) (C := RX0) (T := TX0) (N := 6) hx hb hts (hin0) hown hK hP 0 rfl rfl 4 (by decide) (hts (.fieldLink RX0 24 "FifthBeats$Piano" "wolf" "I") (by decide +kernel)) (fun _ h9 => h9) rfl dX0_fastestBeats_12 ?_
        refine lv_icmp_eq (tgt := 28) hx hb dX0_fastestBeats_15 (by decide) (fun c15 => ?_) (fun c15 => ?_)
        · skip
          have h15 : i = w := (nI_eq (by omega) (by omega)).mp c15
          have hl : lv_has ls 3 [(2, .int (nI i)), (1, .int (fb_fa (fb_rg nf) (fb_rg uf) w (i + 1))), (0, .ref h)] := lv_sub hl [0, 1, 2] (by rw [show fb_fa (fb_rg nf) (fb_rg uf) w i = fb_fa (fb_rg nf) (fb_rg uf) w (i + 1) from (if_pos h15).symm]; rfl)
          refine lv_iinc (v := nI (i + 1)) (lv' := [(2, .int (nI (i + 1))), (1, .int (fb_fa (fb_rg nf) (fb_rg uf) w (i + 1))), (0, .ref h)]) hx hb dX0_fastestBeats_28 hl (k := 0) rfl (show nI i + 1 = nI (i + 1) from nI_1 i) (by decide) rfl (fun ls hl => ?_)
          refine lv_goto (tgt := 4) hx hb dX0_fastestBeats_31 (by decide) ?_
          exact ih4 (i + 1) (by omega) (by omega) _ (lv_sub hl [0, 1, 2] (rfl))
        · skip
          have h15 : ¬ i = w := fun z => c15 (by rw [z])
          refine lv_iload_n hx hb dX0_fastestBeats_18 rfl (lv_at hl 1 rfl) ?_
          refine lv_aload_n hx hb dX0_fastestBeats_19 rfl (lv_at hl 2 rfl) ?_
          refine lv_iload_n hx hb dX0_fastestBeats_20 rfl (lv_at hl 0 rfl) ?_
          refine fb_roV (As := [.int (nI i)]) (rest := [.int (fb_fa (fb_rg nf) (fb_rg uf) w i)]) (n := 1) ⟨hx, hb, hml, hown, hts⟩ (fb_c_X0_fifthBeats l G cI cL h n o d f nf uf df tf w dy i (by omega)) gX0_fastestBeats_X0_fifthBeats rfl (by decide +kernel) (by decide) (fb_PB.bl _ _ _ _) (va_recv hK hP (ci := 0) (q0 := 0) rfl rfl) (fb_PB.to hP hK hX) rfl hl.1 rfl (Nat.le_of_ble_eq_true rfl) dX0_fastestBeats_21 (by decide) ?_
          refine va_mmax hx hb (hml.trans hl.1.symm) hown (hts (.methodLink RX0 50 Lib.Math.max.name) (by decide +kernel)) (hts (.static Lib.Math.max.name) (by decide +kernel)) (hts (.initialized "java/lang/Math") (by decide +kernel)) (hts (.code Lib.Math.max.name Lib.Math.max.code 2 (some .int)) (by decide +kernel)) (Nat.le_of_ble_eq_true rfl) (Nat.le_of_ble_eq_true rfl) (Nat.zero_le _) (Nat.zero_le _) dX0_fastestBeats_24 ?_
          refine fb_ti (z := fb_mx (fb_fa (fb_rg nf) (fb_rg uf) w i) (fb_fb (fb_rg nf) (fb_rg uf) i)) rfl ?_
          refine fb_ti (z := fb_fa (fb_rg nf) (fb_rg uf) w (i + 1)) ((if_neg h15).symm) ?_
          refine lv_istore_n (lv' := [(1, .int (fb_fa (fb_rg nf) (fb_rg uf) w (i + 1))), (2, .int (nI i)), (0, .ref h)]) hx hb dX0_fastestBeats_27 rfl hl (by decide) rfl (fun ls hl => ?_)
          refine lv_iinc (v := nI (i + 1)) (lv' := [(2, .int (nI (i + 1))), (1, .int (fb_fa (fb_rg nf) (fb_rg uf) w (i + 1))), (0, .ref h)]) hx hb dX0_fastestBeats_28 hl (k := 1) rfl (show nI i + 1 = nI (i + 1) from nI_1 i) (by decide) rfl (fun ls hl => ?_)
          refine lv_goto (tgt := 4) hx hb dX0_fastestBeats_31 (by decide) ?_
          exact ih4 (i + 1) (by omega) (by omega) _ (lv_sub hl [0, 1, 2] (rfl))
  exact lp4 (12 + 1) 0 (by omega) (by omega) _ (lv_sub hl [0, 1, 2] (rfl))
set_option maxHeartbeats 4000000 in
set_option maxRecDepth 100000 in
theorem fb_c_X0_tellFifth (l : Launch) (G : va_G) (cI cL : ClassId) (h n o d f : Nat) (nf uf df tf : Nat → Int32) (w : Nat) (dy : Int32) (j : Nat) (q : Nat) (hj : j < 12) (hq : q < 5) (hw : w < 12) : fb_RO l yX0_tellFifth wsX0_tellFifth 4 85 [.ref h, .int (nI j), .int (nI q)] (fb_PB G cI cL (fb_PW cI h n o d f nf uf df tf (nI w) dy)) (.int (fb_tF (fb_rg nf) (fb_rg uf) w j q)) := by
  refine fb_ro_of (cc := cX0_tellFifth) (maxL := 4) (ret := (some .int)) (by decide) rfl (Nat.le_of_ble_eq_true rfl) ?_
  intro p e s m args below meth c hx hb hr hml hlk hts hown hB ls hl
  have hown : s.vm.findClass RX0 = some m.cls := hown
  obtain ⟨hP, hK, hX⟩ := hB
  have hP : va_P G vwCl [(h, .inr (0, [.ref n, .ref o, .ref d, .ref f, .int (nI w), .int dy])), (n, .inl (cI, 12, .inl nf)), (o, .inl (cI, 12, .inl uf)), (d, .inl (cI, 12, .inl df)), (f, .inl (cI, 12, .inl tf))] s.heap := hP
  have hl : lv_has ls 4 [(0, .ref h), (1, .int (nI j)), (2, .int (nI q))] := hl
  have hin0 : ∀ w ∈ u_ws RX0 TX0 6, w ∈ wsX0_tellFifth := by decide +kernel
  have hS9 : va_S (fun _ => False) s.heap s.heap [] := va_S.rf
  refine lv_iload_n hx hb dX0_tellFifth_0 rfl (lv_at hl 1 rfl) ?_
  refine lv_bipush (v := 12) hx hb dX0_tellFifth_1 (by decide) ?_
  refine fb_roS (As := [.int (nI j), .int 12]) (rest := []) (n := 2) ⟨hx, hb, hml, hown, hts⟩ (fb_c_J9_floorMod l (nI j) 12 (by decide)) gX0_tellFifth_J9_floorMod_7cf53 rfl (by decide +kernel) (by decide) fb_Bl_T (fun _ _ _ => trivial) rfl hl.1 rfl (Nat.le_of_ble_eq_true rfl) dX0_tellFifth_3 (by decide) ?_
  refine fb_ti (z := nI j) (by rw [fb_fm_12 (by omega), Nat.mod_eq_of_lt hj]) ?_
  refine lv_istore_n (lv' := [(3, .int (nI j)), (0, .ref h), (1, .int (nI j)), (2, .int (nI q))]) hx hb dX0_tellFifth_6 rfl hl (by decide) rfl (fun ls hl => ?_)
  refine lv_iload_n hx hb dX0_tellFifth_7 rfl (lv_at hl 3 rfl) ?_
  rcases (show q = 0 ∨ q = 1 ∨ q = 2 ∨ q = 3 ∨ q = 4 by omega) with rfl | rfl | rfl | rfl | rfl
  · skip
    refine lv_tableIn (off := 32) (tgt := 40) hx hb dX0_tellFifth_8 (by decide +kernel) (by decide +kernel) (by decide +kernel) (by decide) ?_
    refine lv_aload_n hx hb dX0_tellFifth_40 rfl (lv_at hl 1 rfl) ?_
    refine va_get (D := G) (ci := 0) (v := .ref n) (C := RX0) (T := TX0) (N := 6) hx hb hts (hin0) hown hK hP 0 rfl rfl 0 (by decide) (hts (.fieldLink RX0 9 "FifthBeats$Piano" "narrow" "[I") (by decide +kernel)) (fun _ h9 => h9) rfl dX0_tellFifth_41 ?_
    refine lv_iload_n hx hb dX0_tellFifth_44 rfl (lv_at hl 0 rfl) ?_
    refine va_iald hx hb hK hP 1 0 rfl rfl (vp_in_nI hj (by decide)) dX0_tellFifth_45 ?_
    refine fb_ti (z := fb_rg nf j) (by rw [fb_cl (by omega), fb_rg_lt hj]) ?_
    exact fb_iret hx hb hr hlk dX0_tellFifth_46 (rfl)
  · skip
    refine lv_tableIn (off := 39) (tgt := 47) hx hb dX0_tellFifth_8 (by decide +kernel) (by decide +kernel) (by decide +kernel) (by decide) ?_
    refine lv_aload_n hx hb dX0_tellFifth_47 rfl (lv_at hl 1 rfl) ?_
    refine lv_iload_n hx hb dX0_tellFifth_48 rfl (lv_at hl 0 rfl) ?_
    refine fb_roV (As := [.int (nI j)]) (rest := []) (n := 1) ⟨hx, hb, hml, hown, hts⟩ (fb_c_X0_narrowness l G cI cL h n o d f nf uf df tf w dy j (by omega)) gX0_tellFifth_X0_narrowness rfl (by decide +kernel) (by decide) (fb_PB.bl _ _ _ _) (va_recv hK hP (ci := 0) (q0 := 0) rfl rfl) (fb_PB.to hP hK hX) rfl hl.1 rfl (Nat.le_of_ble_eq_true rfl) dX0_tellFifth_49 (by decide) ?_
    exact fb_iret hx hb hr hlk dX0_tellFifth_52 (rfl)
  · skip
    refine lv_tableIn (off := 45) (tgt := 53) hx hb dX0_tellFifth_8 (by decide +kernel) (by decide +kernel) (by decide +kernel) (by decide) ?_
    refine lv_aload_n hx hb dX0_tellFifth_53 rfl (lv_at hl 1 rfl) ?_
    refine lv_iload_n hx hb dX0_tellFifth_54 rfl (lv_at hl 0 rfl) ?_
    refine fb_roV (As := [.int (nI j)]) (rest := []) (n := 1) ⟨hx, hb, hml, hown, hts⟩ (fb_c_X0_fifthWidth l G cI cL h n o d f nf uf df tf w dy j (by omega)) gX0_tellFifth_X0_fifthWidth rfl (by decide +kernel) (by decide) (fb_PB.bl _ _ _ _) (va_recv hK hP (ci := 0) (q0 := 0) rfl rfl) (fb_PB.to hP hK hX) rfl hl.1 rfl (Nat.le_of_ble_eq_true rfl) dX0_tellFifth_55 (by decide) ?_
    exact fb_iret hx hb hr hlk dX0_tellFifth_58 (rfl)
  · skip
    refine lv_tableIn (off := 51) (tgt := 59) hx hb dX0_tellFifth_8 (by decide +kernel) (by decide +kernel) (by decide +kernel) (by decide) ?_
    refine lv_aload_n hx hb dX0_tellFifth_59 rfl (lv_at hl 1 rfl) ?_
    refine lv_iload_n hx hb dX0_tellFifth_60 rfl (lv_at hl 0 rfl) ?_
    refine fb_roV (As := [.int (nI j)]) (rest := []) (n := 1) ⟨hx, hb, hml, hown, hts⟩ (fb_c_X0_fifthBeats l G cI cL h n o d f nf uf df tf w dy j (by omega)) gX0_tellFifth_X0_fifthBeats rfl (by decide +kernel) (by decide) (fb_PB.bl _ _ _ _) (va_recv hK hP (ci := 0) (q0 := 0) rfl rfl) (fb_PB.to hP hK hX) rfl hl.1 rfl (Nat.le_of_ble_eq_true rfl) dX0_tellFifth_61 (by decide) ?_
    exact fb_iret hx hb hr hlk dX0_tellFifth_64 (rfl)
  · skip
    refine lv_tableOut (tgt := 65) hx hb dX0_tellFifth_8 (by decide +kernel) (by decide) ?_
    refine lv_iload_n hx hb dX0_tellFifth_65 rfl (lv_at hl 0 rfl) ?_
    refine lv_aload_n hx hb dX0_tellFifth_66 rfl (lv_at hl 1 rfl) ?_
    refine va_get (D := G) (ci := 0) (v := .int (nI w)) (C := RX0) (T := TX0) (N := 6) hx hb hts (hin0) hown hK hP 0 rfl rfl 4 (by decide) (hts (.fieldLink RX0 24 "FifthBeats$Piano" "wolf" "I") (by decide +kernel)) (fun _ h9 => h9) rfl dX0_tellFifth_67 ?_
    refine lv_icmp_ne (tgt := 77) hx hb dX0_tellFifth_70 (by decide) (fun c70 => ?_) (fun c70 => ?_)
    · skip
      have h70 : ¬ j = w := fun z => c70 (by rw [z])
      refine lv_iconst (v := 0) hx hb dX0_tellFifth_77 (by decide) ?_
      exact fb_iret hx hb hr hlk dX0_tellFifth_78 ((if_neg h70).symm)
    · skip
      have h70 : j = w := (nI_eq (by omega) (by omega)).mp c70
      refine lv_iconst (v := 1) hx hb dX0_tellFifth_73 (by decide) ?_
      refine lv_goto (tgt := 78) hx hb dX0_tellFifth_74 (by decide) ?_
      exact fb_iret hx hb hr hlk dX0_tellFifth_78 ((if_pos h70).symm)
set_option maxHeartbeats 4000000 in
set_option maxRecDepth 100000 in
theorem fb_c_X0_tellMajor (l : Launch) (G : va_G) (cI cL : ClassId) (h n o d f : Nat) (nf uf df tf : Nat → Int32) (w : Nat) (dy : Int32) (j : Nat) (q : Nat) (hj : j < 12) (hq : q < 3) : fb_RO l yX0_tellMajor wsX0_tellMajor 4 89 [.ref h, .int (nI j), .int (nI q)] (fb_PB G cI cL (fb_PW cI h n o d f nf uf df tf (nI w) dy)) (.int (fb_tM (fb_rg nf) (fb_rg uf) j q)) := by
  refine fb_ro_of (cc := cX0_tellMajor) (maxL := 3) (ret := (some .int)) (by decide) rfl (Nat.le_of_ble_eq_true rfl) ?_
  intro p e s m args below meth c hx hb hr hml hlk hts hown hB ls hl
  have hown : s.vm.findClass RX0 = some m.cls := hown
  obtain ⟨hP, hK, hX⟩ := hB
  have hP : va_P G vwCl [(h, .inr (0, [.ref n, .ref o, .ref d, .ref f, .int (nI w), .int dy])), (n, .inl (cI, 12, .inl nf)), (o, .inl (cI, 12, .inl uf)), (d, .inl (cI, 12, .inl df)), (f, .inl (cI, 12, .inl tf))] s.heap := hP
  have hl : lv_has ls 3 [(0, .ref h), (1, .int (nI j)), (2, .int (nI q))] := hl
  have hS9 : va_S (fun _ => False) s.heap s.heap [] := va_S.rf
  refine lv_iload_n hx hb dX0_tellMajor_0 rfl (lv_at hl 2 rfl) ?_
  rcases (show q = 0 ∨ q = 1 ∨ q = 2 by omega) with rfl | rfl | rfl
  · skip
    refine lv_lookup (off := 27) (tgt := 28) hx hb dX0_tellMajor_1 (by decide +kernel) (by decide +kernel) (by decide) ?_
    refine lv_sipush (v := 386) hx hb dX0_tellMajor_28 (by decide) ?_
    refine lv_aload_n hx hb dX0_tellMajor_31 rfl (lv_at hl 0 rfl) ?_
    refine lv_iload_n hx hb dX0_tellMajor_32 rfl (lv_at hl 1 rfl) ?_
    refine fb_roV (As := [.int (nI j)]) (rest := [.int 386]) (n := 1) ⟨hx, hb, hml, hown, hts⟩ (fb_c_X0_majorOff l G cI cL h n o d f nf uf df tf w dy j (by omega)) gX0_tellMajor_X0_majorOff rfl (by decide +kernel) (by decide) (fb_PB.bl _ _ _ _) (va_recv hK hP (ci := 0) (q0 := 0) rfl rfl) (fb_PB.to hP hK hX) rfl hl.1 rfl (Nat.le_of_ble_eq_true rfl) dX0_tellMajor_33 (by decide) ?_
    refine lv_iadd hx hb dX0_tellMajor_36 ?_
    exact fb_iret hx hb hr hlk dX0_tellMajor_37 (rfl)
  · skip
    refine lv_lookup (off := 37) (tgt := 38) hx hb dX0_tellMajor_1 (by decide +kernel) (by decide +kernel) (by decide) ?_
    refine lv_aload_n hx hb dX0_tellMajor_38 rfl (lv_at hl 0 rfl) ?_
    refine lv_iload_n hx hb dX0_tellMajor_39 rfl (lv_at hl 1 rfl) ?_
    refine fb_roV (As := [.int (nI j)]) (rest := []) (n := 1) ⟨hx, hb, hml, hown, hts⟩ (fb_c_X0_majorOff l G cI cL h n o d f nf uf df tf w dy j (by omega)) gX0_tellMajor_X0_majorOff rfl (by decide +kernel) (by decide) (fb_PB.bl _ _ _ _) (va_recv hK hP (ci := 0) (q0 := 0) rfl rfl) (fb_PB.to hP hK hX) rfl hl.1 rfl (Nat.le_of_ble_eq_true rfl) dX0_tellMajor_40 (by decide) ?_
    exact fb_iret hx hb hr hlk dX0_tellMajor_43 (rfl)
  · skip
    refine lv_lookup (off := 43) (tgt := 44) hx hb dX0_tellMajor_1 (by decide +kernel) (by decide +kernel) (by decide) ?_
    refine lv_aload_n hx hb dX0_tellMajor_44 rfl (lv_at hl 0 rfl) ?_
    refine lv_iload_n hx hb dX0_tellMajor_45 rfl (lv_at hl 1 rfl) ?_
    refine fb_roV (As := [.int (nI j)]) (rest := []) (n := 1) ⟨hx, hb, hml, hown, hts⟩ (fb_c_X0_majorBeats l G cI cL h n o d f nf uf df tf w dy j (by omega)) gX0_tellMajor_X0_majorBeats rfl (by decide +kernel) (by decide) (fb_PB.bl _ _ _ _) (va_recv hK hP (ci := 0) (q0 := 0) rfl rfl) (fb_PB.to hP hK hX) rfl hl.1 rfl (Nat.le_of_ble_eq_true rfl) dX0_tellMajor_46 (by decide) ?_
    exact fb_iret hx hb hr hlk dX0_tellMajor_49 (rfl)
set_option maxHeartbeats 4000000 in
set_option maxRecDepth 100000 in
theorem fb_c_X0_tellMinor (l : Launch) (G : va_G) (cI cL : ClassId) (h n o d f : Nat) (nf uf df tf : Nat → Int32) (w : Nat) (dy : Int32) (j : Nat) (q : Nat) (hj : j < 12) (hq : q < 2) : fb_RO l yX0_tellMinor wsX0_tellMinor 3 68 [.ref h, .int (nI j), .int (nI q)] (fb_PB G cI cL (fb_PW cI h n o d f nf uf df tf (nI w) dy)) (.int (fb_tI (fb_rg nf) (fb_rg uf) j q)) := by
  refine fb_ro_of (cc := cX0_tellMinor) (maxL := 4) (ret := (some .int)) (by decide) rfl (Nat.le_of_ble_eq_true rfl) ?_
  intro p e s m args below meth c hx hb hr hml hlk hts hown hB ls hl
  have hown : s.vm.findClass RX0 = some m.cls := hown
  obtain ⟨hP, hK, hX⟩ := hB
  have hP : va_P G vwCl [(h, .inr (0, [.ref n, .ref o, .ref d, .ref f, .int (nI w), .int dy])), (n, .inl (cI, 12, .inl nf)), (o, .inl (cI, 12, .inl uf)), (d, .inl (cI, 12, .inl df)), (f, .inl (cI, 12, .inl tf))] s.heap := hP
  have hl : lv_has ls 4 [(0, .ref h), (1, .int (nI j)), (2, .int (nI q))] := hl
  have hS9 : va_S (fun _ => False) s.heap s.heap [] := va_S.rf
  refine lv_aload_n hx hb dX0_tellMinor_0 rfl (lv_at hl 0 rfl) ?_
  refine lv_iload_n hx hb dX0_tellMinor_1 rfl (lv_at hl 1 rfl) ?_
  refine fb_roV (As := [.int (nI j)]) (rest := []) (n := 1) ⟨hx, hb, hml, hown, hts⟩ (fb_c_X0_minorWidth l G cI cL h n o d f nf uf df tf w dy j (by omega)) gX0_tellMinor_X0_minorWidth rfl (by decide +kernel) (by decide) (fb_PB.bl _ _ _ _) (va_recv hK hP (ci := 0) (q0 := 0) rfl rfl) (fb_PB.to hP hK hX) rfl hl.1 rfl (Nat.le_of_ble_eq_true rfl) dX0_tellMinor_2 (by decide) ?_
  refine lv_istore_n (lv' := [(3, .int (fb_mi (fb_rg nf) (fb_rg uf) j 3)), (0, .ref h), (1, .int (nI j)), (2, .int (nI q))]) hx hb dX0_tellMinor_5 rfl hl (by decide) rfl (fun ls hl => ?_)
  refine lv_iload_n hx hb dX0_tellMinor_6 rfl (lv_at hl 3 rfl) ?_
  refine lv_if_ne (tgt := 14) hx hb dX0_tellMinor_7 (by decide) (fun c7 => ?_) (fun c7 => ?_)
  · skip
    obtain rfl : q = 1 := by
      rcases (show q = 0 ∨ q = 1 by omega) with rfl | rfl
      · exact absurd nI_0 c7
      · rfl
    refine lv_iload_n hx hb dX0_tellMinor_14 rfl (lv_at hl 0 rfl) ?_
    refine lv_sipush (v := 316) hx hb dX0_tellMinor_15 (by decide) ?_
    refine lv_isub hx hb dX0_tellMinor_18 ?_
    exact fb_iret hx hb hr hlk dX0_tellMinor_19 (rfl)
  · skip
    obtain rfl : q = 0 := by
      rcases (show q = 0 ∨ q = 1 by omega) with rfl | rfl
      · rfl
      · exact absurd c7 (by decide)
    refine lv_iload_n hx hb dX0_tellMinor_10 rfl (lv_at hl 0 rfl) ?_
    refine lv_goto (tgt := 19) hx hb dX0_tellMinor_11 (by decide) ?_
    exact fb_iret hx hb hr hlk dX0_tellMinor_19 (rfl)
set_option maxHeartbeats 4000000 in
set_option maxRecDepth 100000 in
theorem fb_c_X0_tellNote (l : Launch) (G : va_G) (cI cL : ClassId) (h n o d f : Nat) (nf uf df tf : Nat → Int32) (w : Nat) (dy : Int32) (j : Nat) (q : Nat) (hj : j < 12) (hq : q < 5) : fb_RO l yX0_tellNote wsX0_tellNote 4 89 [.ref h, .int (nI j), .int (nI q)] (fb_PB G cI cL (fb_PW cI h n o d f nf uf df tf (nI w) dy)) (.int (fb_tN (fb_rg nf) (fb_rg uf) (fb_rg df) j q)) := by
  refine fb_ro_of (cc := cX0_tellNote) (maxL := 4) (ret := (some .int)) (by decide) rfl (Nat.le_of_ble_eq_true rfl) ?_
  intro p e s m args below meth c hx hb hr hml hlk hts hown hB ls hl
  have hown : s.vm.findClass RX0 = some m.cls := hown
  obtain ⟨hP, hK, hX⟩ := hB
  have hP : va_P G vwCl [(h, .inr (0, [.ref n, .ref o, .ref d, .ref f, .int (nI w), .int dy])), (n, .inl (cI, 12, .inl nf)), (o, .inl (cI, 12, .inl uf)), (d, .inl (cI, 12, .inl df)), (f, .inl (cI, 12, .inl tf))] s.heap := hP
  have hl : lv_has ls 4 [(0, .ref h), (1, .int (nI j)), (2, .int (nI q))] := hl
  have hin0 : ∀ w ∈ u_ws RX0 TX0 6, w ∈ wsX0_tellNote := by decide +kernel
  have hS9 : va_S (fun _ => False) s.heap s.heap [] := va_S.rf
  refine lv_iload_n hx hb dX0_tellNote_0 rfl (lv_at hl 1 rfl) ?_
  refine lv_bipush (v := 12) hx hb dX0_tellNote_1 (by decide) ?_
  refine fb_roS (As := [.int (nI j), .int 12]) (rest := []) (n := 2) ⟨hx, hb, hml, hown, hts⟩ (fb_c_J9_floorMod l (nI j) 12 (by decide)) gX0_tellNote_J9_floorMod_7cf53 rfl (by decide +kernel) (by decide) fb_Bl_T (fun _ _ _ => trivial) rfl hl.1 rfl (Nat.le_of_ble_eq_true rfl) dX0_tellNote_3 (by decide) ?_
  refine fb_ti (z := nI j) (by rw [fb_fm_12 (by omega), Nat.mod_eq_of_lt hj]) ?_
  refine lv_istore_n (lv' := [(3, .int (nI j)), (0, .ref h), (1, .int (nI j)), (2, .int (nI q))]) hx hb dX0_tellNote_6 rfl hl (by decide) rfl (fun ls hl => ?_)
  refine lv_iload_n hx hb dX0_tellNote_7 rfl (lv_at hl 3 rfl) ?_
  rcases (show q = 0 ∨ q = 1 ∨ q = 2 ∨ q = 3 ∨ q = 4 by omega) with rfl | rfl | rfl | rfl | rfl
  · skip
    refine lv_tableIn (off := 32) (tgt := 40) hx hb dX0_tellNote_8 (by decide +kernel) (by decide +kernel) (by decide +kernel) (by decide) ?_
    refine lv_aload_n hx hb dX0_tellNote_40 rfl (lv_at hl 1 rfl) ?_
    refine va_get (D := G) (ci := 0) (v := .ref o) (C := RX0) (T := TX0) (N := 6) hx hb hts (hin0) hown hK hP 0 rfl rfl 1 (by decide) (hts (.fieldLink RX0 15 "FifthBeats$Piano" "off" "[I") (by decide +kernel)) (fun _ h9 => h9) rfl dX0_tellNote_41 ?_
    refine lv_iload_n hx hb dX0_tellNote_44 rfl (lv_at hl 0 rfl) ?_
    refine va_iald hx hb hK hP 2 0 rfl rfl (vp_in_nI hj (by decide)) dX0_tellNote_45 ?_
    refine fb_ti (z := fb_rg uf j) (by rw [fb_cl (by omega), fb_rg_lt hj]) ?_
    exact fb_iret hx hb hr hlk dX0_tellNote_46 (rfl)
  · skip
    refine lv_tableIn (off := 39) (tgt := 47) hx hb dX0_tellNote_8 (by decide +kernel) (by decide +kernel) (by decide +kernel) (by decide) ?_
    refine lv_aload_n hx hb dX0_tellNote_47 rfl (lv_at hl 1 rfl) ?_
    refine va_get (D := G) (ci := 0) (v := .ref d) (C := RX0) (T := TX0) (N := 6) hx hb hts (hin0) hown hK hP 0 rfl rfl 2 (by decide) (hts (.fieldLink RX0 18 "FifthBeats$Piano" "drift" "[I") (by decide +kernel)) (fun _ h9 => h9) rfl dX0_tellNote_48 ?_
    refine lv_iload_n hx hb dX0_tellNote_51 rfl (lv_at hl 0 rfl) ?_
    refine va_iald hx hb hK hP 3 0 rfl rfl (vp_in_nI hj (by decide)) dX0_tellNote_52 ?_
    refine fb_ti (z := fb_rg df j) (by rw [fb_cl (by omega), fb_rg_lt hj]) ?_
    exact fb_iret hx hb hr hlk dX0_tellNote_53 (rfl)
  · skip
    refine lv_tableIn (off := 46) (tgt := 54) hx hb dX0_tellNote_8 (by decide +kernel) (by decide +kernel) (by decide +kernel) (by decide) ?_
    refine lv_aload_n hx hb dX0_tellNote_54 rfl (lv_at hl 1 rfl) ?_
    refine lv_iload_n hx hb dX0_tellNote_55 rfl (lv_at hl 0 rfl) ?_
    refine fb_roV (As := [.int (nI j)]) (rest := []) (n := 1) ⟨hx, hb, hml, hown, hts⟩ (fb_c_X0_keyboardNumber l G cI cL h n o d f nf uf df tf w dy j (by omega)) gX0_tellNote_X0_keyboardNumber rfl (by decide +kernel) (by decide) (fb_PB.bl _ _ _ _) (va_recv hK hP (ci := 0) (q0 := 0) rfl rfl) (fb_PB.to hP hK hX) rfl hl.1 rfl (Nat.le_of_ble_eq_true rfl) dX0_tellNote_56 (by decide) ?_
    exact fb_iret hx hb hr hlk dX0_tellNote_59 (rfl)
  · skip
    refine lv_tableIn (off := 52) (tgt := 60) hx hb dX0_tellNote_8 (by decide +kernel) (by decide +kernel) (by decide +kernel) (by decide) ?_
    refine lv_aload_n hx hb dX0_tellNote_60 rfl (lv_at hl 1 rfl) ?_
    refine lv_iload_n hx hb dX0_tellNote_61 rfl (lv_at hl 0 rfl) ?_
    refine fb_roV (As := [.int (nI j)]) (rest := []) (n := 1) ⟨hx, hb, hml, hown, hts⟩ (fb_c_X0_swings l G cI cL h n o d f nf uf df tf w dy j (by omega)) gX0_tellNote_X0_swings rfl (by decide +kernel) (by decide) (fb_PB.bl _ _ _ _) (va_recv hK hP (ci := 0) (q0 := 0) rfl rfl) (fb_PB.to hP hK hX) rfl hl.1 rfl (Nat.le_of_ble_eq_true rfl) dX0_tellNote_62 (by decide) ?_
    exact fb_iret hx hb hr hlk dX0_tellNote_65 (rfl)
  · skip
    refine lv_tableOut (tgt := 66) hx hb dX0_tellNote_8 (by decide +kernel) (by decide) ?_
    refine lv_aload_n hx hb dX0_tellNote_66 rfl (lv_at hl 1 rfl) ?_
    refine lv_iload_n hx hb dX0_tellNote_67 rfl (lv_at hl 0 rfl) ?_
    refine fb_roV (As := [.int (nI j)]) (rest := []) (n := 1) ⟨hx, hb, hml, hown, hts⟩ (fb_c_X0_height l G cI cL h n o d f nf uf df tf w dy j (by omega)) gX0_tellNote_X0_height rfl (by decide +kernel) (by decide) (fb_PB.bl _ _ _ _) (va_recv hK hP (ci := 0) (q0 := 0) rfl rfl) (fb_PB.to hP hK hX) rfl hl.1 rfl (Nat.le_of_ble_eq_true rfl) dX0_tellNote_68 (by decide) ?_
    exact fb_iret hx hb hr hlk dX0_tellNote_71 (rfl)
set_option maxHeartbeats 4000000 in
set_option maxRecDepth 100000 in
theorem fb_c_X0_tellKey (l : Launch) (G : va_G) (cI cL : ClassId) (h n o d f : Nat) (nf uf df tf : Nat → Int32) (w : Nat) (dy : Int32) (j : Nat) (q : Nat) (hj : j < 12) (hq : q < 4) : fb_RO l yX0_tellKey wsX0_tellKey 5 114 [.ref h, .int (nI j), .int (nI q)] (fb_PB G cI cL (fb_PW cI h n o d f nf uf df tf (nI w) dy)) (.int (fb_tK (fb_rg nf) (fb_rg uf) (fb_rg tf) j q)) := by
  refine fb_ro_of (cc := cX0_tellKey) (maxL := 4) (ret := (some .int)) (by decide) rfl (Nat.le_of_ble_eq_true rfl) ?_
  intro p e s m args below meth c hx hb hr hml hlk hts hown hB ls hl
  have hown : s.vm.findClass RX0 = some m.cls := hown
  obtain ⟨hP, hK, hX⟩ := hB
  have hP : va_P G vwCl [(h, .inr (0, [.ref n, .ref o, .ref d, .ref f, .int (nI w), .int dy])), (n, .inl (cI, 12, .inl nf)), (o, .inl (cI, 12, .inl uf)), (d, .inl (cI, 12, .inl df)), (f, .inl (cI, 12, .inl tf))] s.heap := hP
  have hl : lv_has ls 4 [(0, .ref h), (1, .int (nI j)), (2, .int (nI q))] := hl
  have hin0 : ∀ w ∈ u_ws RX0 TX0 6, w ∈ wsX0_tellKey := by decide +kernel
  have hS9 : va_S (fun _ => False) s.heap s.heap [] := va_S.rf
  refine lv_iload_n hx hb dX0_tellKey_0 rfl (lv_at hl 1 rfl) ?_
  refine lv_bipush (v := 12) hx hb dX0_tellKey_1 (by decide) ?_
  refine fb_roS (As := [.int (nI j), .int 12]) (rest := []) (n := 2) ⟨hx, hb, hml, hown, hts⟩ (fb_c_J9_floorMod l (nI j) 12 (by decide)) gX0_tellKey_J9_floorMod_7cf53 rfl (by decide +kernel) (by decide) fb_Bl_T (fun _ _ _ => trivial) rfl hl.1 rfl (Nat.le_of_ble_eq_true rfl) dX0_tellKey_3 (by decide) ?_
  refine fb_ti (z := nI j) (by rw [fb_fm_12 (by omega), Nat.mod_eq_of_lt hj]) ?_
  refine lv_istore_n (lv' := [(3, .int (nI j)), (0, .ref h), (1, .int (nI j)), (2, .int (nI q))]) hx hb dX0_tellKey_6 rfl hl (by decide) rfl (fun ls hl => ?_)
  refine lv_iload_n hx hb dX0_tellKey_7 rfl (lv_at hl 3 rfl) ?_
  rcases (show q = 0 ∨ q = 1 ∨ q = 2 ∨ q = 3 by omega) with rfl | rfl | rfl | rfl
  · skip
    refine lv_tableIn (off := 28) (tgt := 36) hx hb dX0_tellKey_8 (by decide +kernel) (by decide +kernel) (by decide +kernel) (by decide) ?_
    refine lv_aload_n hx hb dX0_tellKey_36 rfl (lv_at hl 1 rfl) ?_
    refine va_get (D := G) (ci := 0) (v := .ref f) (C := RX0) (T := TX0) (N := 6) hx hb hts (hin0) hown hK hP 0 rfl rfl 3 (by decide) (hts (.fieldLink RX0 21 "FifthBeats$Piano" "often" "[I") (by decide +kernel)) (fun _ h9 => h9) rfl dX0_tellKey_37 ?_
    refine lv_iload_n hx hb dX0_tellKey_40 rfl (lv_at hl 0 rfl) ?_
    refine va_iald hx hb hK hP 4 0 rfl rfl (vp_in_nI hj (by decide)) dX0_tellKey_41 ?_
    refine fb_ti (z := fb_rg tf j) (by rw [fb_cl (by omega), fb_rg_lt hj]) ?_
    exact fb_iret hx hb hr hlk dX0_tellKey_42 (rfl)
  · skip
    refine lv_tableIn (off := 35) (tgt := 43) hx hb dX0_tellKey_8 (by decide +kernel) (by decide +kernel) (by decide +kernel) (by decide) ?_
    refine lv_aload_n hx hb dX0_tellKey_43 rfl (lv_at hl 1 rfl) ?_
    refine lv_iload_n hx hb dX0_tellKey_44 rfl (lv_at hl 0 rfl) ?_
    refine fb_roV (As := [.int (nI j)]) (rest := []) (n := 1) ⟨hx, hb, hml, hown, hts⟩ (fb_c_X0_sourness l G cI cL h n o d f nf uf df tf w dy j (by omega)) gX0_tellKey_X0_sourness rfl (by decide +kernel) (by decide) (fb_PB.bl _ _ _ _) (va_recv hK hP (ci := 0) (q0 := 0) rfl rfl) (fb_PB.to hP hK hX) rfl hl.1 rfl (Nat.le_of_ble_eq_true rfl) dX0_tellKey_45 (by decide) ?_
    exact fb_iret hx hb hr hlk dX0_tellKey_48 (rfl)
  · skip
    refine lv_tableIn (off := 41) (tgt := 49) hx hb dX0_tellKey_8 (by decide +kernel) (by decide +kernel) (by decide +kernel) (by decide) ?_
    refine lv_aload_n hx hb dX0_tellKey_49 rfl (lv_at hl 1 rfl) ?_
    refine lv_iload_n hx hb dX0_tellKey_50 rfl (lv_at hl 0 rfl) ?_
    refine fb_roV (As := [.int (nI j)]) (rest := []) (n := 1) ⟨hx, hb, hml, hown, hts⟩ (fb_c_X0_sourness l G cI cL h n o d f nf uf df tf w dy j (by omega)) gX0_tellKey_X0_sourness rfl (by decide +kernel) (by decide) (fb_PB.bl _ _ _ _) (va_recv hK hP (ci := 0) (q0 := 0) rfl rfl) (fb_PB.to hP hK hX) rfl hl.1 rfl (Nat.le_of_ble_eq_true rfl) dX0_tellKey_51 (by decide) ?_
    refine lv_aload_n hx hb dX0_tellKey_54 rfl (lv_at hl 1 rfl) ?_
    refine va_get (D := G) (ci := 0) (v := .ref f) (C := RX0) (T := TX0) (N := 6) hx hb hts (hin0) hown hK hP 0 rfl rfl 3 (by decide) (hts (.fieldLink RX0 21 "FifthBeats$Piano" "often" "[I") (by decide +kernel)) (fun _ h9 => h9) rfl dX0_tellKey_55 ?_
    refine lv_iload_n hx hb dX0_tellKey_58 rfl (lv_at hl 0 rfl) ?_
    refine va_iald hx hb hK hP 4 0 rfl rfl (vp_in_nI hj (by decide)) dX0_tellKey_59 ?_
    refine fb_ti (z := fb_rg tf j) (by rw [fb_cl (by omega), fb_rg_lt hj]) ?_
    refine lv_imul hx hb dX0_tellKey_60 ?_
    exact fb_iret hx hb hr hlk dX0_tellKey_61 (rfl)
  · skip
    refine lv_tableOut (tgt := 62) hx hb dX0_tellKey_8 (by decide +kernel) (by decide) ?_
    refine lv_aload_n hx hb dX0_tellKey_62 rfl (lv_at hl 1 rfl) ?_
    refine lv_iload_n hx hb dX0_tellKey_63 rfl (lv_at hl 0 rfl) ?_
    refine fb_roV (As := [.int (nI j)]) (rest := []) (n := 1) ⟨hx, hb, hml, hown, hts⟩ (fb_c_X0_place l G cI cL h n o d f nf uf df tf w dy j hj) gX0_tellKey_X0_place rfl (by decide +kernel) (by decide) (fb_PB.bl _ _ _ _) (va_recv hK hP (ci := 0) (q0 := 0) rfl rfl) (fb_PB.to hP hK hX) rfl hl.1 rfl (Nat.le_of_ble_eq_true rfl) dX0_tellKey_64 (by decide) ?_
    exact fb_iret hx hb hr hlk dX0_tellKey_67 (rfl)
set_option maxHeartbeats 4000000 in
set_option maxRecDepth 100000 in
theorem fb_c_X0_tellCount (l : Launch) (G : va_G) (cI cL : ClassId) (h n o d f : Nat) (nf uf df tf : Nat → Int32) (w : Nat) (dy : Int32) (q : Nat) (hq : q < 7) (hw : w < 12) : fb_RO l yX0_tellCount wsX0_tellCount 5 111 [.ref h, .int (nI q)] (fb_PB G cI cL (fb_PW cI h n o d f nf uf df tf (nI w) dy)) (.int (fb_tC (fb_rg nf) (fb_rg uf) (fb_rg tf) w dy q)) := by
  refine fb_ro_of (cc := cX0_tellCount) (maxL := 2) (ret := (some .int)) (by decide) rfl (Nat.le_of_ble_eq_true rfl) ?_
  intro p e s m args below meth c hx hb hr hml hlk hts hown hB ls hl
  have hown : s.vm.findClass RX0 = some m.cls := hown
  obtain ⟨hP, hK, hX⟩ := hB
  have hP : va_P G vwCl [(h, .inr (0, [.ref n, .ref o, .ref d, .ref f, .int (nI w), .int dy])), (n, .inl (cI, 12, .inl nf)), (o, .inl (cI, 12, .inl uf)), (d, .inl (cI, 12, .inl df)), (f, .inl (cI, 12, .inl tf))] s.heap := hP
  have hl : lv_has ls 2 [(0, .ref h), (1, .int (nI q))] := hl
  have hin0 : ∀ w ∈ u_ws RX0 TX0 6, w ∈ wsX0_tellCount := by decide +kernel
  have hS9 : va_S (fun _ => False) s.heap s.heap [] := va_S.rf
  refine lv_iload_n hx hb dX0_tellCount_0 rfl (lv_at hl 1 rfl) ?_
  rcases (show q = 0 ∨ q = 1 ∨ q = 2 ∨ q = 3 ∨ q = 4 ∨ q = 5 ∨ q = 6 by omega) with rfl | rfl | rfl | rfl | rfl | rfl | rfl
  · skip
    refine lv_tableIn (off := 39) (tgt := 40) hx hb dX0_tellCount_1 (by decide +kernel) (by decide +kernel) (by decide +kernel) (by decide) ?_
    refine lv_aload_n hx hb dX0_tellCount_40 rfl (lv_at hl 0 rfl) ?_
    refine va_get (D := G) (ci := 0) (v := .int dy) (C := RX0) (T := TX0) (N := 6) hx hb hts (hin0) hown hK hP 0 rfl rfl 5 (by decide) (hts (.fieldLink RX0 28 "FifthBeats$Piano" "day" "I") (by decide +kernel)) (fun _ h9 => h9) rfl dX0_tellCount_41 ?_
    exact fb_iret hx hb hr hlk dX0_tellCount_44 (rfl)
  · skip
    refine lv_tableIn (off := 44) (tgt := 45) hx hb dX0_tellCount_1 (by decide +kernel) (by decide +kernel) (by decide +kernel) (by decide) ?_
    refine lv_aload_n hx hb dX0_tellCount_45 rfl (lv_at hl 0 rfl) ?_
    refine va_get (D := G) (ci := 0) (v := .int (nI w)) (C := RX0) (T := TX0) (N := 6) hx hb hts (hin0) hown hK hP 0 rfl rfl 4 (by decide) (hts (.fieldLink RX0 24 "FifthBeats$Piano" "wolf" "I") (by decide +kernel)) (fun _ h9 => h9) rfl dX0_tellCount_46 ?_
    exact fb_iret hx hb hr hlk dX0_tellCount_49 (rfl)
  · skip
    refine lv_tableIn (off := 49) (tgt := 50) hx hb dX0_tellCount_1 (by decide +kernel) (by decide +kernel) (by decide +kernel) (by decide) ?_
    refine lv_aload_n hx hb dX0_tellCount_50 rfl (lv_at hl 0 rfl) ?_
    refine fb_roV (As := []) (rest := []) (n := 0) ⟨hx, hb, hml, hown, hts⟩ (fb_c_X0_cost l G cI cL h n o d f nf uf df tf w dy  ) gX0_tellCount_X0_cost rfl (by decide +kernel) (by decide) (fb_PB.bl _ _ _ _) (va_recv hK hP (ci := 0) (q0 := 0) rfl rfl) (fb_PB.to hP hK hX) rfl hl.1 rfl (Nat.le_of_ble_eq_true rfl) dX0_tellCount_51 (by decide) ?_
    exact fb_iret hx hb hr hlk dX0_tellCount_54 (rfl)
  · skip
    refine lv_tableIn (off := 54) (tgt := 55) hx hb dX0_tellCount_1 (by decide +kernel) (by decide +kernel) (by decide +kernel) (by decide) ?_
    refine lv_aload_n hx hb dX0_tellCount_55 rfl (lv_at hl 0 rfl) ?_
    refine fb_roV (As := []) (rest := []) (n := 0) ⟨hx, hb, hml, hown, hts⟩ (fb_c_X0_mostMajorOff l G cI cL h n o d f nf uf df tf w dy  ) gX0_tellCount_X0_mostMajorOff rfl (by decide +kernel) (by decide) (fb_PB.bl _ _ _ _) (va_recv hK hP (ci := 0) (q0 := 0) rfl rfl) (fb_PB.to hP hK hX) rfl hl.1 rfl (Nat.le_of_ble_eq_true rfl) dX0_tellCount_56 (by decide) ?_
    exact fb_iret hx hb hr hlk dX0_tellCount_59 (rfl)
  · skip
    refine lv_tableIn (off := 59) (tgt := 60) hx hb dX0_tellCount_1 (by decide +kernel) (by decide +kernel) (by decide +kernel) (by decide) ?_
    refine lv_aload_n hx hb dX0_tellCount_60 rfl (lv_at hl 0 rfl) ?_
    refine fb_roV (As := []) (rest := []) (n := 0) ⟨hx, hb, hml, hown, hts⟩ (fb_c_X0_pureFifths l G cI cL h n o d f nf uf df tf w dy  ) gX0_tellCount_X0_pureFifths rfl (by decide +kernel) (by decide) (fb_PB.bl _ _ _ _) (va_recv hK hP (ci := 0) (q0 := 0) rfl rfl) (fb_PB.to hP hK hX) rfl hl.1 rfl (Nat.le_of_ble_eq_true rfl) dX0_tellCount_61 (by decide) ?_
    exact fb_iret hx hb hr hlk dX0_tellCount_64 (rfl)
  · skip
    refine lv_tableIn (off := 64) (tgt := 65) hx hb dX0_tellCount_1 (by decide +kernel) (by decide +kernel) (by decide +kernel) (by decide) ?_
    refine lv_aload_n hx hb dX0_tellCount_65 rfl (lv_at hl 0 rfl) ?_
    refine fb_roV (As := []) (rest := []) (n := 0) ⟨hx, hb, hml, hown, hts⟩ (fb_c_X0_allOff l G cI cL h n o d f nf uf df tf w dy  ) gX0_tellCount_X0_allOff rfl (by decide +kernel) (by decide) (fb_PB.bl _ _ _ _) (va_recv hK hP (ci := 0) (q0 := 0) rfl rfl) (fb_PB.to hP hK hX) rfl hl.1 rfl (Nat.le_of_ble_eq_true rfl) dX0_tellCount_66 (by decide) ?_
    exact fb_iret hx hb hr hlk dX0_tellCount_69 (rfl)
  · skip
    refine lv_tableOut (tgt := 70) hx hb dX0_tellCount_1 (by decide +kernel) (by decide) ?_
    refine lv_aload_n hx hb dX0_tellCount_70 rfl (lv_at hl 0 rfl) ?_
    refine fb_roV (As := []) (rest := []) (n := 0) ⟨hx, hb, hml, hown, hts⟩ (fb_c_X0_fastestBeats l G cI cL h n o d f nf uf df tf w dy  hw) gX0_tellCount_X0_fastestBeats rfl (by decide +kernel) (by decide) (fb_PB.bl _ _ _ _) (va_recv hK hP (ci := 0) (q0 := 0) rfl rfl) (fb_PB.to hP hK hX) rfl hl.1 rfl (Nat.le_of_ble_eq_true rfl) dX0_tellCount_71 (by decide) ?_
    exact fb_iret hx hb hr hlk dX0_tellCount_74 (rfl)
set_option maxHeartbeats 4000000 in
set_option maxRecDepth 100000 in
theorem fb_c_X0_wolfNarrow (l : Launch) (G : va_G) (cI cL : ClassId) (h n o d f : Nat) (nf uf df tf : Nat → Int32) (w : Nat) (dy : Int32) (hw : w < 12) : fb_RO l yX0_wolfNarrow wsX0_wolfNarrow 1 22 [.ref h] (fb_PB G cI cL (fb_PW cI h n o d f nf uf df tf (nI w) dy)) (.int ((fb_rg nf) w)) := by
  refine fb_ro_of (cc := cX0_wolfNarrow) (maxL := 1) (ret := (some .int)) (by decide) rfl (Nat.le_of_ble_eq_true rfl) ?_
  intro p e s m args below meth c hx hb hr hml hlk hts hown hB ls hl
  have hown : s.vm.findClass RX0 = some m.cls := hown
  obtain ⟨hP, hK, hX⟩ := hB
  have hP : va_P G vwCl [(h, .inr (0, [.ref n, .ref o, .ref d, .ref f, .int (nI w), .int dy])), (n, .inl (cI, 12, .inl nf)), (o, .inl (cI, 12, .inl uf)), (d, .inl (cI, 12, .inl df)), (f, .inl (cI, 12, .inl tf))] s.heap := hP
  have hl : lv_has ls 1 [(0, .ref h)] := hl
  have hin0 : ∀ w ∈ u_ws RX0 TX0 6, w ∈ wsX0_wolfNarrow := by decide +kernel
  have hS9 : va_S (fun _ => False) s.heap s.heap [] := va_S.rf
  refine lv_aload_n hx hb dX0_wolfNarrow_0 rfl (lv_at hl 0 rfl) ?_
  refine va_get (D := G) (ci := 0) (v := .ref n) (C := RX0) (T := TX0) (N := 6) hx hb hts (hin0) hown hK hP 0 rfl rfl 0 (by decide) (hts (.fieldLink RX0 9 "FifthBeats$Piano" "narrow" "[I") (by decide +kernel)) (fun _ h9 => h9) rfl dX0_wolfNarrow_1 ?_
  refine lv_aload_n hx hb dX0_wolfNarrow_4 rfl (lv_at hl 0 rfl) ?_
  refine va_get (D := G) (ci := 0) (v := .int (nI w)) (C := RX0) (T := TX0) (N := 6) hx hb hts (hin0) hown hK hP 0 rfl rfl 4 (by decide) (hts (.fieldLink RX0 24 "FifthBeats$Piano" "wolf" "I") (by decide +kernel)) (fun _ h9 => h9) rfl dX0_wolfNarrow_5 ?_
  refine lv_bipush (v := 12) hx hb dX0_wolfNarrow_8 (by decide) ?_
  refine fb_roS (As := [.int (nI w), .int 12]) (rest := [.ref n]) (n := 2) ⟨hx, hb, hml, hown, hts⟩ (fb_c_J9_floorMod l (nI w) 12 (by decide)) gX0_wolfNarrow_J9_floorMod_7cf53 rfl (by decide +kernel) (by decide) fb_Bl_T (fun _ _ _ => trivial) rfl hl.1 rfl (Nat.le_of_ble_eq_true rfl) dX0_wolfNarrow_10 (by decide) ?_
  refine fb_ti (z := nI w) (by rw [fb_fm_12 (by omega), Nat.mod_eq_of_lt hw]) ?_
  refine va_iald hx hb hK hP 1 0 rfl rfl (vp_in_nI hw (by decide)) dX0_wolfNarrow_13 ?_
  refine fb_ti (z := fb_rg nf w) (by rw [fb_cl (by omega), fb_rg_lt hw]) ?_
  exact fb_iret hx hb hr hlk dX0_wolfNarrow_14 (rfl)
set_option maxHeartbeats 4000000 in
set_option maxRecDepth 100000 in
theorem fb_c_X0_canTune (l : Launch) (G : va_G) (cI cL : ClassId) (h n o d f : Nat) (nf uf df tf : Nat → Int32) (w : Nat) (dy : Int32) (j : Nat) (hj : j < 12) (hw : w < 12) : fb_RO l yX0_canTune wsX0_canTune 1 22 [.ref h, .int (nI j)] (fb_PB G cI cL (fb_PW cI h n o d f nf uf df tf (nI w) dy)) (.int (if (j + 11) % 12 = w then 0 else 1)) := by
  refine fb_ro_of (cc := cX0_canTune) (maxL := 2) (ret := (some .boolean)) (by decide) rfl (Nat.le_of_ble_eq_true rfl) ?_
  intro p e s m args below meth c hx hb hr hml hlk hts hown hB ls hl
  have hown : s.vm.findClass RX0 = some m.cls := hown
  obtain ⟨hP, hK, hX⟩ := hB
  have hP : va_P G vwCl [(h, .inr (0, [.ref n, .ref o, .ref d, .ref f, .int (nI w), .int dy])), (n, .inl (cI, 12, .inl nf)), (o, .inl (cI, 12, .inl uf)), (d, .inl (cI, 12, .inl df)), (f, .inl (cI, 12, .inl tf))] s.heap := hP
  have hl : lv_has ls 2 [(0, .ref h), (1, .int (nI j))] := hl
  have hin0 : ∀ w ∈ u_ws RX0 TX0 6, w ∈ wsX0_canTune := by decide +kernel
  have hS9 : va_S (fun _ => False) s.heap s.heap [] := va_S.rf
  refine lv_iload_n hx hb dX0_canTune_0 rfl (lv_at hl 1 rfl) ?_
  refine lv_iconst (v := 1) hx hb dX0_canTune_1 (by decide) ?_
  refine lv_isub hx hb dX0_canTune_2 ?_
  refine lv_bipush (v := 12) hx hb dX0_canTune_3 (by decide) ?_
  refine fb_roS (As := [.int ((nI j) - 1), .int 12]) (rest := []) (n := 2) ⟨hx, hb, hml, hown, hts⟩ (fb_c_J9_floorMod l ((nI j) - 1) 12 (by decide)) gX0_canTune_J9_floorMod_7cf53 rfl (by decide +kernel) (by decide) fb_Bl_T (fun _ _ _ => trivial) rfl hl.1 rfl (Nat.le_of_ble_eq_true rfl) dX0_canTune_5 (by decide) ?_
  refine fb_ti (z := nI ((j + 11) % 12)) (fb_fm_p hj) ?_
  refine lv_aload_n hx hb dX0_canTune_8 rfl (lv_at hl 0 rfl) ?_
  refine va_get (D := G) (ci := 0) (v := .int (nI w)) (C := RX0) (T := TX0) (N := 6) hx hb hts (hin0) hown hK hP 0 rfl rfl 4 (by decide) (hts (.fieldLink RX0 24 "FifthBeats$Piano" "wolf" "I") (by decide +kernel)) (fun _ h9 => h9) rfl dX0_canTune_9 ?_
  refine lv_icmp_eq (tgt := 19) hx hb dX0_canTune_12 (by decide) (fun c12 => ?_) (fun c12 => ?_)
  · skip
    have h12 : (j + 11) % 12 = w := (nI_eq (by omega) (by omega)).mp c12
    refine lv_iconst (v := 0) hx hb dX0_canTune_19 (by decide) ?_
    exact fb_zret hx hb hr hlk dX0_canTune_20 (by decide) ((if_pos h12).symm)
  · skip
    have h12 : ¬ (j + 11) % 12 = w := fun z => c12 (by rw [z])
    refine lv_iconst (v := 1) hx hb dX0_canTune_15 (by decide) ?_
    refine lv_goto (tgt := 20) hx hb dX0_canTune_16 (by decide) ?_
    exact fb_zret hx hb hr hlk dX0_canTune_20 (by decide) ((if_neg h12).symm)
set_option maxHeartbeats 4000000 in
set_option maxRecDepth 100000 in
theorem fb_c_X0_offForPureMajor (l : Launch) (G : va_G) (cI cL : ClassId) (h n o d f : Nat) (nf uf df tf : Nat → Int32) (w : Nat) (dy : Int32) (j : Nat) (hj : j < 900) : fb_RO l yX0_offForPureMajor wsX0_offForPureMajor 3 68 [.ref h, .int (nI j)] (fb_PB G cI cL (fb_PW cI h n o d f nf uf df tf (nI w) dy)) (.int ((fb_rg uf) (j + 4) - fb_mj (fb_rg nf) (fb_rg uf) j 4)) := by
  refine fb_ro_of (cc := cX0_offForPureMajor) (maxL := 2) (ret := (some .int)) (by decide) rfl (Nat.le_of_ble_eq_true rfl) ?_
  intro p e s m args below meth c hx hb hr hml hlk hts hown hB ls hl
  have hown : s.vm.findClass RX0 = some m.cls := hown
  obtain ⟨hP, hK, hX⟩ := hB
  have hP : va_P G vwCl [(h, .inr (0, [.ref n, .ref o, .ref d, .ref f, .int (nI w), .int dy])), (n, .inl (cI, 12, .inl nf)), (o, .inl (cI, 12, .inl uf)), (d, .inl (cI, 12, .inl df)), (f, .inl (cI, 12, .inl tf))] s.heap := hP
  have hl : lv_has ls 2 [(0, .ref h), (1, .int (nI j))] := hl
  have hin0 : ∀ w ∈ u_ws RX0 TX0 6, w ∈ wsX0_offForPureMajor := by decide +kernel
  have hS9 : va_S (fun _ => False) s.heap s.heap [] := va_S.rf
  refine lv_aload_n hx hb dX0_offForPureMajor_0 rfl (lv_at hl 0 rfl) ?_
  refine va_get (D := G) (ci := 0) (v := .ref o) (C := RX0) (T := TX0) (N := 6) hx hb hts (hin0) hown hK hP 0 rfl rfl 1 (by decide) (hts (.fieldLink RX0 15 "FifthBeats$Piano" "off" "[I") (by decide +kernel)) (fun _ h9 => h9) rfl dX0_offForPureMajor_1 ?_
  refine lv_iload_n hx hb dX0_offForPureMajor_4 rfl (lv_at hl 1 rfl) ?_
  refine lv_iconst (v := 4) hx hb dX0_offForPureMajor_5 (by decide) ?_
  refine lv_iadd hx hb dX0_offForPureMajor_6 ?_
  refine fb_ti (z := nI (j + 4)) (nI_add j 4) ?_
  refine lv_bipush (v := 12) hx hb dX0_offForPureMajor_7 (by decide) ?_
  refine fb_roS (As := [.int (nI (j + 4)), .int 12]) (rest := [.ref o]) (n := 2) ⟨hx, hb, hml, hown, hts⟩ (fb_c_J9_floorMod l (nI (j + 4)) 12 (by decide)) gX0_offForPureMajor_J9_floorMod_7cf53 rfl (by decide +kernel) (by decide) fb_Bl_T (fun _ _ _ => trivial) rfl hl.1 rfl (Nat.le_of_ble_eq_true rfl) dX0_offForPureMajor_9 (by decide) ?_
  refine fb_ti (z := nI ((j + 4) % 12)) (fb_fm_12 (by omega)) ?_
  refine va_iald hx hb hK hP 2 0 rfl rfl (vp_in_nI (Nat.mod_lt _ (by decide)) (by decide)) dX0_offForPureMajor_12 ?_
  refine fb_ti (z := fb_rg uf (j + 4)) (by rw [fb_cl (by omega)]; rfl) ?_
  refine lv_aload_n hx hb dX0_offForPureMajor_13 rfl (lv_at hl 0 rfl) ?_
  refine lv_iload_n hx hb dX0_offForPureMajor_14 rfl (lv_at hl 1 rfl) ?_
  refine fb_roV (As := [.int (nI j)]) (rest := [.int (fb_rg uf (j + 4))]) (n := 1) ⟨hx, hb, hml, hown, hts⟩ (fb_c_X0_majorOff l G cI cL h n o d f nf uf df tf w dy j (by omega)) gX0_offForPureMajor_X0_majorOff rfl (by decide +kernel) (by decide) (fb_PB.bl _ _ _ _) (va_recv hK hP (ci := 0) (q0 := 0) rfl rfl) (fb_PB.to hP hK hX) rfl hl.1 rfl (Nat.le_of_ble_eq_true rfl) dX0_offForPureMajor_15 (by decide) ?_
  refine lv_isub hx hb dX0_offForPureMajor_18 ?_
  exact fb_iret hx hb hr hlk dX0_offForPureMajor_19 (rfl)
