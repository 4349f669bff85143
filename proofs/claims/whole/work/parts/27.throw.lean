/-- from one bound to the next -/
theorem fb_lt1 {v a b : Int32} (hab : b.toInt = a.toInt + 1) (h : a < v) : ¬ v < b := by
  intro h2
  have h3 := Int32.lt_iff_toInt_lt.mp h
  have h4 := Int32.lt_iff_toInt_lt.mp h2
  omega
theorem fb_lt1o {v z a b : Int32} (hab : b.toInt = a.toInt + 1) (h : v < z ∨ a < v) : v < z ∨ ¬ v < b := h.imp id (fb_lt1 hab)
set_option maxHeartbeats 4000000 in
set_option maxRecDepth 100000 in
theorem fb_t_X1_checkRing (l : Launch) (hst9 : l.stackTraces = false) (G : va_G) (cI cL : ClassId) (p0 : Int32) (hp : p0 < 0 ∨ 11 < p0) : fb_TV l yX1_checkRing wsX1_checkRing 6 82 [.int p0] (fb_PX G cI cL []) fb_E1 := by
  refine fb_tv_of (cc := cX1_checkRing) (maxL := 1) (ret := none) (by decide) rfl (Nat.le_of_ble_eq_true rfl) ?_
  intro p e s m args below meth c hx hb hr hml hlk hts hown ht hB ls hl
  have hown : s.vm.findClass RX1 = some m.cls := hown
  obtain ⟨⟨hP, hK, hX⟩, hE⟩ := hB
  have hP : va_P G vwCl [] s.heap := hP
  have hl : lv_has ls 1 [(0, .int p0)] := hl
  refine lv_iload_n hx hb dX1_checkRing_0 rfl (lv_at hl 0 rfl) ?_
  refine lv_if_lt (tgt := 10) hx hb dX1_checkRing_1 (by decide) (fun c1 => ?_) (fun c1 => ?_)
  · skip
    obtain ⟨sa9, hs9⟩ := hE.2.1.1
    have hca9 : va_Nw (.castable fb_E1 fb_E1) s := hE.2.2.1.1
    have hg9 : ∀ w ∈ (vx_atS RX1 148 fb_E1 ["java/lang/RuntimeException", "java/lang/Exception"]).filter goodWord, w ∈ wsX1_checkRing := by decide +kernel
    exact fb_throw (rest := []) (E := fb_E1) (ik := 144) (is := 146) (ic := 148) hx hb hst9 hown (by decide +kernel) (by decide +kernel) (hts (.classLink RX1 144 fb_E1) (by decide +kernel)) (hts (.initialized fb_E1) (by decide +kernel)) hs9 (fun w h9 => hts w (hg9 w h9)) (by decide +kernel) hca9 (by decide +kernel) hE (hl.1.trans hml.symm) dX1_checkRing_10 dX1_checkRing_13 dX1_checkRing_14 dX1_checkRing_16 dX1_checkRing_19 ht hlk (Nat.le_of_ble_eq_true rfl) (Nat.le_of_ble_eq_true rfl) (Nat.le_of_ble_eq_true rfl) (Nat.le_of_ble_eq_true rfl)
  · skip
    refine lv_iload_n hx hb dX1_checkRing_4 rfl (lv_at hl 0 rfl) ?_
    refine lv_bipush (v := 12) hx hb dX1_checkRing_5 (by decide) ?_
    refine lv_icmp_lt (tgt := 20) hx hb dX1_checkRing_7 (by decide) (fun c7 => ?_) (fun c7 => ?_)
    · skip
      exact absurd c7 (fb_lt1 (by decide) (hp.resolve_left c1))
    · skip
      obtain ⟨sa9, hs9⟩ := hE.2.1.1
      have hca9 : va_Nw (.castable fb_E1 fb_E1) s := hE.2.2.1.1
      have hg9 : ∀ w ∈ (vx_atS RX1 148 fb_E1 ["java/lang/RuntimeException", "java/lang/Exception"]).filter goodWord, w ∈ wsX1_checkRing := by decide +kernel
      exact fb_throw (rest := []) (E := fb_E1) (ik := 144) (is := 146) (ic := 148) hx hb hst9 hown (by decide +kernel) (by decide +kernel) (hts (.classLink RX1 144 fb_E1) (by decide +kernel)) (hts (.initialized fb_E1) (by decide +kernel)) hs9 (fun w h9 => hts w (hg9 w h9)) (by decide +kernel) hca9 (by decide +kernel) hE (hl.1.trans hml.symm) dX1_checkRing_10 dX1_checkRing_13 dX1_checkRing_14 dX1_checkRing_16 dX1_checkRing_19 ht hlk (Nat.le_of_ble_eq_true rfl) (Nat.le_of_ble_eq_true rfl) (Nat.le_of_ble_eq_true rfl) (Nat.le_of_ble_eq_true rfl)
set_option maxHeartbeats 4000000 in
set_option maxRecDepth 100000 in
theorem fb_t_X1_checkWhat (l : Launch) (hst9 : l.stackTraces = false) (G : va_G) (cI cL : ClassId) (v a z : Int32) (hh : v < a ∨ ¬ v < z) : fb_TV l yX1_checkWhat wsX1_checkWhat 6 82 [.int v, .int a, .int z] (fb_PX G cI cL []) fb_E1 := by
  refine fb_tv_of (cc := cX1_checkWhat) (maxL := 3) (ret := none) (by decide) rfl (Nat.le_of_ble_eq_true rfl) ?_
  intro p e s m args below meth c hx hb hr hml hlk hts hown ht hB ls hl
  have hown : s.vm.findClass RX1 = some m.cls := hown
  obtain ⟨⟨hP, hK, hX⟩, hE⟩ := hB
  have hP : va_P G vwCl [] s.heap := hP
  have hl : lv_has ls 3 [(0, .int v), (1, .int a), (2, .int z)] := hl
  refine lv_iload_n hx hb dX1_checkWhat_0 rfl (lv_at hl 0 rfl) ?_
  refine lv_iload_n hx hb dX1_checkWhat_1 rfl (lv_at hl 1 rfl) ?_
  refine lv_icmp_lt (tgt := 10) hx hb dX1_checkWhat_2 (by decide) (fun c2 => ?_) (fun c2 => ?_)
  · skip
    obtain ⟨sa9, hs9⟩ := hE.2.1.2.1
    have hca9 : va_Nw (.castable fb_E1 fb_E1) s := hE.2.2.1.1
    have hg9 : ∀ w ∈ (vx_atS RX1 148 fb_E1 ["java/lang/RuntimeException", "java/lang/Exception"]).filter goodWord, w ∈ wsX1_checkWhat := by decide +kernel
    exact fb_throw (rest := []) (E := fb_E1) (ik := 144) (is := 149) (ic := 148) hx hb hst9 hown (by decide +kernel) (by decide +kernel) (hts (.classLink RX1 144 fb_E1) (by decide +kernel)) (hts (.initialized fb_E1) (by decide +kernel)) hs9 (fun w h9 => hts w (hg9 w h9)) (by decide +kernel) hca9 (by decide +kernel) hE (hl.1.trans hml.symm) dX1_checkWhat_10 dX1_checkWhat_13 dX1_checkWhat_14 dX1_checkWhat_16 dX1_checkWhat_19 ht hlk (Nat.le_of_ble_eq_true rfl) (Nat.le_of_ble_eq_true rfl) (Nat.le_of_ble_eq_true rfl) (Nat.le_of_ble_eq_true rfl)
  · skip
    refine lv_iload_n hx hb dX1_checkWhat_5 rfl (lv_at hl 0 rfl) ?_
    refine lv_iload_n hx hb dX1_checkWhat_6 rfl (lv_at hl 2 rfl) ?_
    refine lv_icmp_lt (tgt := 20) hx hb dX1_checkWhat_7 (by decide) (fun c7 => ?_) (fun c7 => ?_)
    · skip
      exact absurd c7 (hh.resolve_left c2)
    · skip
      obtain ⟨sa9, hs9⟩ := hE.2.1.2.1
      have hca9 : va_Nw (.castable fb_E1 fb_E1) s := hE.2.2.1.1
      have hg9 : ∀ w ∈ (vx_atS RX1 148 fb_E1 ["java/lang/RuntimeException", "java/lang/Exception"]).filter goodWord, w ∈ wsX1_checkWhat := by decide +kernel
      exact fb_throw (rest := []) (E := fb_E1) (ik := 144) (is := 149) (ic := 148) hx hb hst9 hown (by decide +kernel) (by decide +kernel) (hts (.classLink RX1 144 fb_E1) (by decide +kernel)) (hts (.initialized fb_E1) (by decide +kernel)) hs9 (fun w h9 => hts w (hg9 w h9)) (by decide +kernel) hca9 (by decide +kernel) hE (hl.1.trans hml.symm) dX1_checkWhat_10 dX1_checkWhat_13 dX1_checkWhat_14 dX1_checkWhat_16 dX1_checkWhat_19 ht hlk (Nat.le_of_ble_eq_true rfl) (Nat.le_of_ble_eq_true rfl) (Nat.le_of_ble_eq_true rfl) (Nat.le_of_ble_eq_true rfl)
set_option maxHeartbeats 4000000 in
set_option maxRecDepth 100000 in
theorem fb_t_X1_checkArgument (l : Launch) (hst9 : l.stackTraces = false) (G : va_G) (cI cL : ClassId) (v a z : Int32) (hh : v < a ∨ z < v) : fb_TV l yX1_checkArgument wsX1_checkArgument 6 82 [.int v, .int a, .int z] (fb_PX G cI cL []) fb_E2 := by
  refine fb_tv_of (cc := cX1_checkArgument) (maxL := 3) (ret := none) (by decide) rfl (Nat.le_of_ble_eq_true rfl) ?_
  intro p e s m args below meth c hx hb hr hml hlk hts hown ht hB ls hl
  have hown : s.vm.findClass RX1 = some m.cls := hown
  obtain ⟨⟨hP, hK, hX⟩, hE⟩ := hB
  have hP : va_P G vwCl [] s.heap := hP
  have hl : lv_has ls 3 [(0, .int v), (1, .int a), (2, .int z)] := hl
  refine lv_iload_n hx hb dX1_checkArgument_0 rfl (lv_at hl 0 rfl) ?_
  refine lv_iload_n hx hb dX1_checkArgument_1 rfl (lv_at hl 1 rfl) ?_
  refine lv_icmp_lt (tgt := 10) hx hb dX1_checkArgument_2 (by decide) (fun c2 => ?_) (fun c2 => ?_)
  · skip
    obtain ⟨sa9, hs9⟩ := hE.2.1.2.2.1
    have hca9 : va_Nw (.castable fb_E2 fb_E2) s := hE.2.2.1.2.1
    have hg9 : ∀ w ∈ (vx_atS RX1 155 fb_E2 ["java/lang/RuntimeException", "java/lang/Exception"]).filter goodWord, w ∈ wsX1_checkArgument := by decide +kernel
    exact fb_throw (rest := []) (E := fb_E2) (ik := 151) (is := 153) (ic := 155) hx hb hst9 hown (by decide +kernel) (by decide +kernel) (hts (.classLink RX1 151 fb_E2) (by decide +kernel)) (hts (.initialized fb_E2) (by decide +kernel)) hs9 (fun w h9 => hts w (hg9 w h9)) (by decide +kernel) hca9 (by decide +kernel) hE (hl.1.trans hml.symm) dX1_checkArgument_10 dX1_checkArgument_13 dX1_checkArgument_14 dX1_checkArgument_16 dX1_checkArgument_19 ht hlk (Nat.le_of_ble_eq_true rfl) (Nat.le_of_ble_eq_true rfl) (Nat.le_of_ble_eq_true rfl) (Nat.le_of_ble_eq_true rfl)
  · skip
    refine lv_iload_n hx hb dX1_checkArgument_5 rfl (lv_at hl 0 rfl) ?_
    refine lv_iload_n hx hb dX1_checkArgument_6 rfl (lv_at hl 2 rfl) ?_
    refine lv_icmp_le (tgt := 20) hx hb dX1_checkArgument_7 (by decide) (fun c7 => ?_) (fun c7 => ?_)
    · skip
      exact absurd c7 (Int32.not_le.mpr (hh.resolve_left c2))
    · skip
      obtain ⟨sa9, hs9⟩ := hE.2.1.2.2.1
      have hca9 : va_Nw (.castable fb_E2 fb_E2) s := hE.2.2.1.2.1
      have hg9 : ∀ w ∈ (vx_atS RX1 155 fb_E2 ["java/lang/RuntimeException", "java/lang/Exception"]).filter goodWord, w ∈ wsX1_checkArgument := by decide +kernel
      exact fb_throw (rest := []) (E := fb_E2) (ik := 151) (is := 153) (ic := 155) hx hb hst9 hown (by decide +kernel) (by decide +kernel) (hts (.classLink RX1 151 fb_E2) (by decide +kernel)) (hts (.initialized fb_E2) (by decide +kernel)) hs9 (fun w h9 => hts w (hg9 w h9)) (by decide +kernel) hca9 (by decide +kernel) hE (hl.1.trans hml.symm) dX1_checkArgument_10 dX1_checkArgument_13 dX1_checkArgument_14 dX1_checkArgument_16 dX1_checkArgument_19 ht hlk (Nat.le_of_ble_eq_true rfl) (Nat.le_of_ble_eq_true rfl) (Nat.le_of_ble_eq_true rfl) (Nat.le_of_ble_eq_true rfl)
set_option maxHeartbeats 4000000 in
set_option maxRecDepth 100000 in
theorem fb_t_X1_checkNotWolf (l : Launch) (hst9 : l.stackTraces = false) (G : va_G) (cI cL : ClassId) (x h h2 n o d f : Nat) (nf uf df tf : Nat → Int32) (w : Nat) (dy : Int32) (j : Nat) (hj : j < 12) (hw : w < 12) (hjw : j = w) : fb_TV l yX1_checkNotWolf wsX1_checkNotWolf 6 82 [.ref x, .int (nI j)] (fb_PX G cI cL (fb_YW cI x h h2 n o d f nf uf df tf (nI w) dy)) fb_E3 := by
  refine fb_tv_of (cc := cX1_checkNotWolf) (maxL := 2) (ret := none) (by decide) rfl (Nat.le_of_ble_eq_true rfl) ?_
  intro p e s m args below meth c hx hb hr hml hlk hts hown ht hB ls hl
  have hown : s.vm.findClass RX1 = some m.cls := hown
  obtain ⟨⟨hP, hK, hX⟩, hE⟩ := hB
  have hP : va_P G vwCl [(x, .inr (1, [.ref h, .ref h2])), (h, .inr (0, [.ref n, .ref o, .ref d, .ref f, .int (nI w), .int dy])), (n, .inl (cI, 12, .inl nf)), (o, .inl (cI, 12, .inl uf)), (d, .inl (cI, 12, .inl df)), (f, .inl (cI, 12, .inl tf))] s.heap := hP
  have hin0 : ∀ w ∈ u_ws RX0 TX0 6, w ∈ wsX1_checkNotWolf := by decide +kernel
  have hin1 : ∀ w ∈ u_ws RX1 TX1 2, w ∈ wsX1_checkNotWolf := by decide +kernel
  have hl : lv_has ls 2 [(0, .ref x), (1, .int (nI j))] := hl
  refine lv_iload_n hx hb dX1_checkNotWolf_0 rfl (lv_at hl 1 rfl) ?_
  refine lv_aload_n hx hb dX1_checkNotWolf_1 rfl (lv_at hl 0 rfl) ?_
  refine va_get (D := G) (ci := 1) (v := .ref h) (C := RX1) (T := TX1) (N := 2) hx hb hts (hin1) hown hK hP 0 rfl rfl 0 (by decide) (hts (.fieldLink RX1 10 "FifthBeats" "piano" "LFifthBeats$Piano;") (by decide +kernel)) (fun _ h9 => h9) rfl dX1_checkNotWolf_2 ?_
  refine va_get (D := G) (ci := 0) (v := .int (nI w)) (C := RX0) (T := TX0) (N := 6) hx hb hts (hin0) hown hK hP 1 rfl rfl 4 (by decide) (hts (.fieldLink RX1 38 "FifthBeats$Piano" "wolf" "I") (by decide +kernel)) (fun _ h9 => h9) rfl dX1_checkNotWolf_5 ?_
  refine lv_icmp_ne (tgt := 21) hx hb dX1_checkNotWolf_8 (by decide) (fun c8 => ?_) (fun c8 => ?_)
  · skip
    exact absurd (congrArg nI hjw) c8
  · skip
    obtain ⟨sa9, hs9⟩ := hE.2.1.2.2.2.1
    have hca9 : va_Nw (.castable fb_E3 fb_E3) s := hE.2.2.1.2.2
    have hg9 : ∀ w ∈ (vx_atS RX1 66 fb_E3 ["java/lang/RuntimeException", "java/lang/Exception"]).filter goodWord, w ∈ wsX1_checkNotWolf := by decide +kernel
    exact fb_throw (rest := []) (E := fb_E3) (ik := 62) (is := 156) (ic := 66) hx hb hst9 hown (by decide +kernel) (by decide +kernel) (hts (.classLink RX1 62 fb_E3) (by decide +kernel)) (hts (.initialized fb_E3) (by decide +kernel)) hs9 (fun w h9 => hts w (hg9 w h9)) (by decide +kernel) hca9 (by decide +kernel) hE (hl.1.trans hml.symm) dX1_checkNotWolf_11 dX1_checkNotWolf_14 dX1_checkNotWolf_15 dX1_checkNotWolf_17 dX1_checkNotWolf_20 ht hlk (Nat.le_of_ble_eq_true rfl) (Nat.le_of_ble_eq_true rfl) (Nat.le_of_ble_eq_true rfl) (Nat.le_of_ble_eq_true rfl)
set_option maxHeartbeats 4000000 in
set_option maxRecDepth 100000 in
theorem fb_t_X1_setFifth_b1 (l : Launch) (hst9 : l.stackTraces = false) (G : va_G) (cI cL : ClassId) (x h h2 n o d f : Nat) (nf uf df tf : Nat → Int32) (w : Nat) (dy : Int32) (p0 v : Int32) (hp : p0 < 0 ∨ 11 < p0) : fb_TI l yX1_setFifth wsX1_setFifth 8 200 [.ref x, .int p0, .int v] (fb_PX G cI cL (fb_YW cI x h h2 n o d f nf uf df tf (nI w) dy)) fb_E1 := by
  refine fb_ti_of (cc := cX1_setFifth) (maxL := 4) (ret := (some .int)) (by decide) rfl (Nat.le_of_ble_eq_true rfl) ?_
  intro p e s m args below meth c hx hb hr hml hlk hts hown ht hB ls hl
  have hown : s.vm.findClass RX1 = some m.cls := hown
  obtain ⟨⟨hP, hK, hX⟩, hE⟩ := hB
  have hP : va_P G vwCl [(x, .inr (1, [.ref h, .ref h2])), (h, .inr (0, [.ref n, .ref o, .ref d, .ref f, .int (nI w), .int dy])), (n, .inl (cI, 12, .inl nf)), (o, .inl (cI, 12, .inl uf)), (d, .inl (cI, 12, .inl df)), (f, .inl (cI, 12, .inl tf))] s.heap := hP
  have hin0 : ∀ w ∈ u_ws RX0 TX0 6, w ∈ wsX1_setFifth := by decide +kernel
  have hin1 : ∀ w ∈ u_ws RX1 TX1 2, w ∈ wsX1_setFifth := by decide +kernel
  have hl : lv_has ls 4 [(0, .ref x), (1, .int p0), (2, .int v)] := hl
  refine lv_iload_n hx hb dX1_setFifth_0 rfl (lv_at hl 1 rfl) ?_
  exact fb_txS (As := [.int p0]) (rest := []) (n := 1) ⟨hx, hb, hml, hown, hts⟩ (fb_t_X1_checkRing l hst9 G cI cL p0 hp) gX1_setFifth_X1_checkRing rfl (by decide +kernel) (by decide) (fb_PX.bl _ _ _ _) (fb_PX.to (hP.sub (ws' := []) [] rfl) hK hX hE) ht hlk rfl hl.1 rfl (Nat.le_of_ble_eq_true rfl) dX1_setFifth_1 (by decide)
set_option maxHeartbeats 4000000 in
set_option maxRecDepth 100000 in
theorem fb_t_X1_setOften_b1 (l : Launch) (hst9 : l.stackTraces = false) (G : va_G) (cI cL : ClassId) (x h h2 n o d f : Nat) (nf uf df tf : Nat → Int32) (w : Nat) (dy : Int32) (p0 v : Int32) (hp : p0 < 0 ∨ 11 < p0) : fb_TI l yX1_setOften wsX1_setOften 8 200 [.ref x, .int p0, .int v] (fb_PX G cI cL (fb_YW cI x h h2 n o d f nf uf df tf (nI w) dy)) fb_E1 := by
  refine fb_ti_of (cc := cX1_setOften) (maxL := 4) (ret := (some .int)) (by decide) rfl (Nat.le_of_ble_eq_true rfl) ?_
  intro p e s m args below meth c hx hb hr hml hlk hts hown ht hB ls hl
  have hown : s.vm.findClass RX1 = some m.cls := hown
  obtain ⟨⟨hP, hK, hX⟩, hE⟩ := hB
  have hP : va_P G vwCl [(x, .inr (1, [.ref h, .ref h2])), (h, .inr (0, [.ref n, .ref o, .ref d, .ref f, .int (nI w), .int dy])), (n, .inl (cI, 12, .inl nf)), (o, .inl (cI, 12, .inl uf)), (d, .inl (cI, 12, .inl df)), (f, .inl (cI, 12, .inl tf))] s.heap := hP
  have hin0 : ∀ w ∈ u_ws RX0 TX0 6, w ∈ wsX1_setOften := by decide +kernel
  have hin1 : ∀ w ∈ u_ws RX1 TX1 2, w ∈ wsX1_setOften := by decide +kernel
  have hl : lv_has ls 4 [(0, .ref x), (1, .int p0), (2, .int v)] := hl
  refine lv_iload_n hx hb dX1_setOften_0 rfl (lv_at hl 1 rfl) ?_
  exact fb_txS (As := [.int p0]) (rest := []) (n := 1) ⟨hx, hb, hml, hown, hts⟩ (fb_t_X1_checkRing l hst9 G cI cL p0 hp) gX1_setOften_X1_checkRing rfl (by decide +kernel) (by decide) (fb_PX.bl _ _ _ _) (fb_PX.to (hP.sub (ws' := []) [] rfl) hK hX hE) ht hlk rfl hl.1 rfl (Nat.le_of_ble_eq_true rfl) dX1_setOften_1 (by decide)
set_option maxHeartbeats 4000000 in
set_option maxRecDepth 100000 in
theorem fb_t_X1_setDrift_b1 (l : Launch) (hst9 : l.stackTraces = false) (G : va_G) (cI cL : ClassId) (x h h2 n o d f : Nat) (nf uf df tf : Nat → Int32) (w : Nat) (dy : Int32) (p0 v : Int32) (hp : p0 < 0 ∨ 11 < p0) : fb_TI l yX1_setDrift wsX1_setDrift 8 200 [.ref x, .int p0, .int v] (fb_PX G cI cL (fb_YW cI x h h2 n o d f nf uf df tf (nI w) dy)) fb_E1 := by
  refine fb_ti_of (cc := cX1_setDrift) (maxL := 4) (ret := (some .int)) (by decide) rfl (Nat.le_of_ble_eq_true rfl) ?_
  intro p e s m args below meth c hx hb hr hml hlk hts hown ht hB ls hl
  have hown : s.vm.findClass RX1 = some m.cls := hown
  obtain ⟨⟨hP, hK, hX⟩, hE⟩ := hB
  have hP : va_P G vwCl [(x, .inr (1, [.ref h, .ref h2])), (h, .inr (0, [.ref n, .ref o, .ref d, .ref f, .int (nI w), .int dy])), (n, .inl (cI, 12, .inl nf)), (o, .inl (cI, 12, .inl uf)), (d, .inl (cI, 12, .inl df)), (f, .inl (cI, 12, .inl tf))] s.heap := hP
  have hin0 : ∀ w ∈ u_ws RX0 TX0 6, w ∈ wsX1_setDrift := by decide +kernel
  have hin1 : ∀ w ∈ u_ws RX1 TX1 2, w ∈ wsX1_setDrift := by decide +kernel
  have hl : lv_has ls 4 [(0, .ref x), (1, .int p0), (2, .int v)] := hl
  refine lv_iload_n hx hb dX1_setDrift_0 rfl (lv_at hl 1 rfl) ?_
  exact fb_txS (As := [.int p0]) (rest := []) (n := 1) ⟨hx, hb, hml, hown, hts⟩ (fb_t_X1_checkRing l hst9 G cI cL p0 hp) gX1_setDrift_X1_checkRing rfl (by decide +kernel) (by decide) (fb_PX.bl _ _ _ _) (fb_PX.to (hP.sub (ws' := []) [] rfl) hK hX hE) ht hlk rfl hl.1 rfl (Nat.le_of_ble_eq_true rfl) dX1_setDrift_1 (by decide)
set_option maxHeartbeats 4000000 in
set_option maxRecDepth 100000 in
theorem fb_t_X1_fifth_b1 (l : Launch) (hst9 : l.stackTraces = false) (G : va_G) (cI cL : ClassId) (x h h2 n o d f : Nat) (nf uf df tf : Nat → Int32) (w : Nat) (dy : Int32) (p0 v : Int32) (hp : p0 < 0 ∨ 11 < p0) : fb_TI l yX1_fifth wsX1_fifth 8 200 [.ref x, .int p0, .int v] (fb_PX G cI cL (fb_YW cI x h h2 n o d f nf uf df tf (nI w) dy)) fb_E1 := by
  refine fb_ti_of (cc := cX1_fifth) (maxL := 3) (ret := (some .int)) (by decide) rfl (Nat.le_of_ble_eq_true rfl) ?_
  intro p e s m args below meth c hx hb hr hml hlk hts hown ht hB ls hl
  have hown : s.vm.findClass RX1 = some m.cls := hown
  obtain ⟨⟨hP, hK, hX⟩, hE⟩ := hB
  have hP : va_P G vwCl [(x, .inr (1, [.ref h, .ref h2])), (h, .inr (0, [.ref n, .ref o, .ref d, .ref f, .int (nI w), .int dy])), (n, .inl (cI, 12, .inl nf)), (o, .inl (cI, 12, .inl uf)), (d, .inl (cI, 12, .inl df)), (f, .inl (cI, 12, .inl tf))] s.heap := hP
  have hin0 : ∀ w ∈ u_ws RX0 TX0 6, w ∈ wsX1_fifth := by decide +kernel
  have hin1 : ∀ w ∈ u_ws RX1 TX1 2, w ∈ wsX1_fifth := by decide +kernel
  have hl : lv_has ls 3 [(0, .ref x), (1, .int p0), (2, .int v)] := hl
  refine lv_iload_n hx hb dX1_fifth_0 rfl (lv_at hl 1 rfl) ?_
  exact fb_txS (As := [.int p0]) (rest := []) (n := 1) ⟨hx, hb, hml, hown, hts⟩ (fb_t_X1_checkRing l hst9 G cI cL p0 hp) gX1_fifth_X1_checkRing rfl (by decide +kernel) (by decide) (fb_PX.bl _ _ _ _) (fb_PX.to (hP.sub (ws' := []) [] rfl) hK hX hE) ht hlk rfl hl.1 rfl (Nat.le_of_ble_eq_true rfl) dX1_fifth_1 (by decide)
set_option maxHeartbeats 4000000 in
set_option maxRecDepth 100000 in
theorem fb_t_X1_major_b1 (l : Launch) (hst9 : l.stackTraces = false) (G : va_G) (cI cL : ClassId) (x h h2 n o d f : Nat) (nf uf df tf : Nat → Int32) (w : Nat) (dy : Int32) (p0 v : Int32) (hp : p0 < 0 ∨ 11 < p0) : fb_TI l yX1_major wsX1_major 8 200 [.ref x, .int p0, .int v] (fb_PX G cI cL (fb_YW cI x h h2 n o d f nf uf df tf (nI w) dy)) fb_E1 := by
  refine fb_ti_of (cc := cX1_major) (maxL := 3) (ret := (some .int)) (by decide) rfl (Nat.le_of_ble_eq_true rfl) ?_
  intro p e s m args below meth c hx hb hr hml hlk hts hown ht hB ls hl
  have hown : s.vm.findClass RX1 = some m.cls := hown
  obtain ⟨⟨hP, hK, hX⟩, hE⟩ := hB
  have hP : va_P G vwCl [(x, .inr (1, [.ref h, .ref h2])), (h, .inr (0, [.ref n, .ref o, .ref d, .ref f, .int (nI w), .int dy])), (n, .inl (cI, 12, .inl nf)), (o, .inl (cI, 12, .inl uf)), (d, .inl (cI, 12, .inl df)), (f, .inl (cI, 12, .inl tf))] s.heap := hP
  have hin0 : ∀ w ∈ u_ws RX0 TX0 6, w ∈ wsX1_major := by decide +kernel
  have hin1 : ∀ w ∈ u_ws RX1 TX1 2, w ∈ wsX1_major := by decide +kernel
  have hl : lv_has ls 3 [(0, .ref x), (1, .int p0), (2, .int v)] := hl
  refine lv_iload_n hx hb dX1_major_0 rfl (lv_at hl 1 rfl) ?_
  exact fb_txS (As := [.int p0]) (rest := []) (n := 1) ⟨hx, hb, hml, hown, hts⟩ (fb_t_X1_checkRing l hst9 G cI cL p0 hp) gX1_major_X1_checkRing rfl (by decide +kernel) (by decide) (fb_PX.bl _ _ _ _) (fb_PX.to (hP.sub (ws' := []) [] rfl) hK hX hE) ht hlk rfl hl.1 rfl (Nat.le_of_ble_eq_true rfl) dX1_major_1 (by decide)
set_option maxHeartbeats 4000000 in
set_option maxRecDepth 100000 in
theorem fb_t_X1_minor_b1 (l : Launch) (hst9 : l.stackTraces = false) (G : va_G) (cI cL : ClassId) (x h h2 n o d f : Nat) (nf uf df tf : Nat → Int32) (w : Nat) (dy : Int32) (p0 v : Int32) (hp : p0 < 0 ∨ 11 < p0) : fb_TI l yX1_minor wsX1_minor 8 200 [.ref x, .int p0, .int v] (fb_PX G cI cL (fb_YW cI x h h2 n o d f nf uf df tf (nI w) dy)) fb_E1 := by
  refine fb_ti_of (cc := cX1_minor) (maxL := 3) (ret := (some .int)) (by decide) rfl (Nat.le_of_ble_eq_true rfl) ?_
  intro p e s m args below meth c hx hb hr hml hlk hts hown ht hB ls hl
  have hown : s.vm.findClass RX1 = some m.cls := hown
  obtain ⟨⟨hP, hK, hX⟩, hE⟩ := hB
  have hP : va_P G vwCl [(x, .inr (1, [.ref h, .ref h2])), (h, .inr (0, [.ref n, .ref o, .ref d, .ref f, .int (nI w), .int dy])), (n, .inl (cI, 12, .inl nf)), (o, .inl (cI, 12, .inl uf)), (d, .inl (cI, 12, .inl df)), (f, .inl (cI, 12, .inl tf))] s.heap := hP
  have hin0 : ∀ w ∈ u_ws RX0 TX0 6, w ∈ wsX1_minor := by decide +kernel
  have hin1 : ∀ w ∈ u_ws RX1 TX1 2, w ∈ wsX1_minor := by decide +kernel
  have hl : lv_has ls 3 [(0, .ref x), (1, .int p0), (2, .int v)] := hl
  refine lv_iload_n hx hb dX1_minor_0 rfl (lv_at hl 1 rfl) ?_
  exact fb_txS (As := [.int p0]) (rest := []) (n := 1) ⟨hx, hb, hml, hown, hts⟩ (fb_t_X1_checkRing l hst9 G cI cL p0 hp) gX1_minor_X1_checkRing rfl (by decide +kernel) (by decide) (fb_PX.bl _ _ _ _) (fb_PX.to (hP.sub (ws' := []) [] rfl) hK hX hE) ht hlk rfl hl.1 rfl (Nat.le_of_ble_eq_true rfl) dX1_minor_1 (by decide)
set_option maxHeartbeats 4000000 in
set_option maxRecDepth 100000 in
theorem fb_t_X1_note_b1 (l : Launch) (hst9 : l.stackTraces = false) (G : va_G) (cI cL : ClassId) (x h h2 n o d f : Nat) (nf uf df tf : Nat → Int32) (w : Nat) (dy : Int32) (p0 v : Int32) (hp : p0 < 0 ∨ 11 < p0) : fb_TI l yX1_note wsX1_note 8 200 [.ref x, .int p0, .int v] (fb_PX G cI cL (fb_YW cI x h h2 n o d f nf uf df tf (nI w) dy)) fb_E1 := by
  refine fb_ti_of (cc := cX1_note) (maxL := 3) (ret := (some .int)) (by decide) rfl (Nat.le_of_ble_eq_true rfl) ?_
  intro p e s m args below meth c hx hb hr hml hlk hts hown ht hB ls hl
  have hown : s.vm.findClass RX1 = some m.cls := hown
  obtain ⟨⟨hP, hK, hX⟩, hE⟩ := hB
  have hP : va_P G vwCl [(x, .inr (1, [.ref h, .ref h2])), (h, .inr (0, [.ref n, .ref o, .ref d, .ref f, .int (nI w), .int dy])), (n, .inl (cI, 12, .inl nf)), (o, .inl (cI, 12, .inl uf)), (d, .inl (cI, 12, .inl df)), (f, .inl (cI, 12, .inl tf))] s.heap := hP
  have hin0 : ∀ w ∈ u_ws RX0 TX0 6, w ∈ wsX1_note := by decide +kernel
  have hin1 : ∀ w ∈ u_ws RX1 TX1 2, w ∈ wsX1_note := by decide +kernel
  have hl : lv_has ls 3 [(0, .ref x), (1, .int p0), (2, .int v)] := hl
  refine lv_iload_n hx hb dX1_note_0 rfl (lv_at hl 1 rfl) ?_
  exact fb_txS (As := [.int p0]) (rest := []) (n := 1) ⟨hx, hb, hml, hown, hts⟩ (fb_t_X1_checkRing l hst9 G cI cL p0 hp) gX1_note_X1_checkRing rfl (by decide +kernel) (by decide) (fb_PX.bl _ _ _ _) (fb_PX.to (hP.sub (ws' := []) [] rfl) hK hX hE) ht hlk rfl hl.1 rfl (Nat.le_of_ble_eq_true rfl) dX1_note_1 (by decide)
set_option maxHeartbeats 4000000 in
set_option maxRecDepth 100000 in
theorem fb_t_X1_key_b1 (l : Launch) (hst9 : l.stackTraces = false) (G : va_G) (cI cL : ClassId) (x h h2 n o d f : Nat) (nf uf df tf : Nat → Int32) (w : Nat) (dy : Int32) (p0 v : Int32) (hp : p0 < 0 ∨ 11 < p0) : fb_TI l yX1_key wsX1_key 8 200 [.ref x, .int p0, .int v] (fb_PX G cI cL (fb_YW cI x h h2 n o d f nf uf df tf (nI w) dy)) fb_E1 := by
  refine fb_ti_of (cc := cX1_key) (maxL := 3) (ret := (some .int)) (by decide) rfl (Nat.le_of_ble_eq_true rfl) ?_
  intro p e s m args below meth c hx hb hr hml hlk hts hown ht hB ls hl
  have hown : s.vm.findClass RX1 = some m.cls := hown
  obtain ⟨⟨hP, hK, hX⟩, hE⟩ := hB
  have hP : va_P G vwCl [(x, .inr (1, [.ref h, .ref h2])), (h, .inr (0, [.ref n, .ref o, .ref d, .ref f, .int (nI w), .int dy])), (n, .inl (cI, 12, .inl nf)), (o, .inl (cI, 12, .inl uf)), (d, .inl (cI, 12, .inl df)), (f, .inl (cI, 12, .inl tf))] s.heap := hP
  have hin0 : ∀ w ∈ u_ws RX0 TX0 6, w ∈ wsX1_key := by decide +kernel
  have hin1 : ∀ w ∈ u_ws RX1 TX1 2, w ∈ wsX1_key := by decide +kernel
  have hl : lv_has ls 3 [(0, .ref x), (1, .int p0), (2, .int v)] := hl
  refine lv_iload_n hx hb dX1_key_0 rfl (lv_at hl 1 rfl) ?_
  exact fb_txS (As := [.int p0]) (rest := []) (n := 1) ⟨hx, hb, hml, hown, hts⟩ (fb_t_X1_checkRing l hst9 G cI cL p0 hp) gX1_key_X1_checkRing rfl (by decide +kernel) (by decide) (fb_PX.bl _ _ _ _) (fb_PX.to (hP.sub (ws' := []) [] rfl) hK hX hE) ht hlk rfl hl.1 rfl (Nat.le_of_ble_eq_true rfl) dX1_key_1 (by decide)
set_option maxHeartbeats 4000000 in
set_option maxRecDepth 100000 in
theorem fb_t_X1_shift_b1 (l : Launch) (hst9 : l.stackTraces = false) (G : va_G) (cI cL : ClassId) (x h h2 n o d f : Nat) (nf uf df tf : Nat → Int32) (w : Nat) (dy : Int32) (p0 : Int32) (hp : p0 < 0 ∨ 11 < p0) : fb_TI l yX1_shift wsX1_shift 8 200 [.ref x, .int p0] (fb_PX G cI cL (fb_YW cI x h h2 n o d f nf uf df tf (nI w) dy)) fb_E1 := by
  refine fb_ti_of (cc := cX1_shift) (maxL := 3) (ret := (some .int)) (by decide) rfl (Nat.le_of_ble_eq_true rfl) ?_
  intro p e s m args below meth c hx hb hr hml hlk hts hown ht hB ls hl
  have hown : s.vm.findClass RX1 = some m.cls := hown
  obtain ⟨⟨hP, hK, hX⟩, hE⟩ := hB
  have hP : va_P G vwCl [(x, .inr (1, [.ref h, .ref h2])), (h, .inr (0, [.ref n, .ref o, .ref d, .ref f, .int (nI w), .int dy])), (n, .inl (cI, 12, .inl nf)), (o, .inl (cI, 12, .inl uf)), (d, .inl (cI, 12, .inl df)), (f, .inl (cI, 12, .inl tf))] s.heap := hP
  have hin0 : ∀ w ∈ u_ws RX0 TX0 6, w ∈ wsX1_shift := by decide +kernel
  have hin1 : ∀ w ∈ u_ws RX1 TX1 2, w ∈ wsX1_shift := by decide +kernel
  have hl : lv_has ls 3 [(0, .ref x), (1, .int p0)] := hl
  refine lv_iload_n hx hb dX1_shift_0 rfl (lv_at hl 1 rfl) ?_
  exact fb_txS (As := [.int p0]) (rest := []) (n := 1) ⟨hx, hb, hml, hown, hts⟩ (fb_t_X1_checkRing l hst9 G cI cL p0 hp) gX1_shift_X1_checkRing rfl (by decide +kernel) (by decide) (fb_PX.bl _ _ _ _) (fb_PX.to (hP.sub (ws' := []) [] rfl) hK hX hE) ht hlk rfl hl.1 rfl (Nat.le_of_ble_eq_true rfl) dX1_shift_1 (by decide)
set_option maxHeartbeats 4000000 in
set_option maxRecDepth 100000 in
theorem fb_t_X1_tune_b1 (l : Launch) (hst9 : l.stackTraces = false) (G : va_G) (cI cL : ClassId) (x h h2 n o d f : Nat) (nf uf df tf : Nat → Int32) (w : Nat) (dy : Int32) (p0 : Int32) (hp : p0 < 0 ∨ 11 < p0) : fb_TI l yX1_tune wsX1_tune 8 200 [.ref x, .int p0] (fb_PX G cI cL (fb_YW cI x h h2 n o d f nf uf df tf (nI w) dy)) fb_E1 := by
  refine fb_ti_of (cc := cX1_tune) (maxL := 2) (ret := (some .int)) (by decide) rfl (Nat.le_of_ble_eq_true rfl) ?_
  intro p e s m args below meth c hx hb hr hml hlk hts hown ht hB ls hl
  have hown : s.vm.findClass RX1 = some m.cls := hown
  obtain ⟨⟨hP, hK, hX⟩, hE⟩ := hB
  have hP : va_P G vwCl [(x, .inr (1, [.ref h, .ref h2])), (h, .inr (0, [.ref n, .ref o, .ref d, .ref f, .int (nI w), .int dy])), (n, .inl (cI, 12, .inl nf)), (o, .inl (cI, 12, .inl uf)), (d, .inl (cI, 12, .inl df)), (f, .inl (cI, 12, .inl tf))] s.heap := hP
  have hin0 : ∀ w ∈ u_ws RX0 TX0 6, w ∈ wsX1_tune := by decide +kernel
  have hin1 : ∀ w ∈ u_ws RX1 TX1 2, w ∈ wsX1_tune := by decide +kernel
  have hl : lv_has ls 2 [(0, .ref x), (1, .int p0)] := hl
  refine lv_iload_n hx hb dX1_tune_0 rfl (lv_at hl 1 rfl) ?_
  exact fb_txS (As := [.int p0]) (rest := []) (n := 1) ⟨hx, hb, hml, hown, hts⟩ (fb_t_X1_checkRing l hst9 G cI cL p0 hp) gX1_tune_X1_checkRing rfl (by decide +kernel) (by decide) (fb_PX.bl _ _ _ _) (fb_PX.to (hP.sub (ws' := []) [] rfl) hK hX hE) ht hlk rfl hl.1 rfl (Nat.le_of_ble_eq_true rfl) dX1_tune_1 (by decide)
set_option maxHeartbeats 4000000 in
set_option maxRecDepth 100000 in
theorem fb_t_X1_sweeten_b1 (l : Launch) (hst9 : l.stackTraces = false) (G : va_G) (cI cL : ClassId) (x h h2 n o d f : Nat) (nf uf df tf : Nat → Int32) (w : Nat) (dy : Int32) (p0 : Int32) (hp : p0 < 0 ∨ 11 < p0) : fb_TI l yX1_sweeten wsX1_sweeten 8 200 [.ref x, .int p0] (fb_PX G cI cL (fb_YW cI x h h2 n o d f nf uf df tf (nI w) dy)) fb_E1 := by
  refine fb_ti_of (cc := cX1_sweeten) (maxL := 3) (ret := (some .int)) (by decide) rfl (Nat.le_of_ble_eq_true rfl) ?_
  intro p e s m args below meth c hx hb hr hml hlk hts hown ht hB ls hl
  have hown : s.vm.findClass RX1 = some m.cls := hown
  obtain ⟨⟨hP, hK, hX⟩, hE⟩ := hB
  have hP : va_P G vwCl [(x, .inr (1, [.ref h, .ref h2])), (h, .inr (0, [.ref n, .ref o, .ref d, .ref f, .int (nI w), .int dy])), (n, .inl (cI, 12, .inl nf)), (o, .inl (cI, 12, .inl uf)), (d, .inl (cI, 12, .inl df)), (f, .inl (cI, 12, .inl tf))] s.heap := hP
  have hin0 : ∀ w ∈ u_ws RX0 TX0 6, w ∈ wsX1_sweeten := by decide +kernel
  have hin1 : ∀ w ∈ u_ws RX1 TX1 2, w ∈ wsX1_sweeten := by decide +kernel
  have hl : lv_has ls 3 [(0, .ref x), (1, .int p0)] := hl
  refine lv_iload_n hx hb dX1_sweeten_0 rfl (lv_at hl 1 rfl) ?_
  exact fb_txS (As := [.int p0]) (rest := []) (n := 1) ⟨hx, hb, hml, hown, hts⟩ (fb_t_X1_checkRing l hst9 G cI cL p0 hp) gX1_sweeten_X1_checkRing rfl (by decide +kernel) (by decide) (fb_PX.bl _ _ _ _) (fb_PX.to (hP.sub (ws' := []) [] rfl) hK hX hE) ht hlk rfl hl.1 rfl (Nat.le_of_ble_eq_true rfl) dX1_sweeten_1 (by decide)
set_option maxHeartbeats 4000000 in
set_option maxRecDepth 100000 in
theorem fb_t_X1_temper_b1 (l : Launch) (hst9 : l.stackTraces = false) (G : va_G) (cI cL : ClassId) (x h h2 n o d f : Nat) (nf uf df tf : Nat → Int32) (w : Nat) (dy : Int32) (p0 : Int32) (hp : p0 < 0 ∨ 11 < p0) : fb_TI l yX1_temper wsX1_temper 8 200 [.ref x, .int p0] (fb_PX G cI cL (fb_YW cI x h h2 n o d f nf uf df tf (nI w) dy)) fb_E1 := by
  refine fb_ti_of (cc := cX1_temper) (maxL := 6) (ret := (some .int)) (by decide) rfl (Nat.le_of_ble_eq_true rfl) ?_
  intro p e s m args below meth c hx hb hr hml hlk hts hown ht hB ls hl
  have hown : s.vm.findClass RX1 = some m.cls := hown
  obtain ⟨⟨hP, hK, hX⟩, hE⟩ := hB
  have hP : va_P G vwCl [(x, .inr (1, [.ref h, .ref h2])), (h, .inr (0, [.ref n, .ref o, .ref d, .ref f, .int (nI w), .int dy])), (n, .inl (cI, 12, .inl nf)), (o, .inl (cI, 12, .inl uf)), (d, .inl (cI, 12, .inl df)), (f, .inl (cI, 12, .inl tf))] s.heap := hP
  have hin0 : ∀ w ∈ u_ws RX0 TX0 6, w ∈ wsX1_temper := by decide +kernel
  have hin1 : ∀ w ∈ u_ws RX1 TX1 2, w ∈ wsX1_temper := by decide +kernel
  have hl : lv_has ls 6 [(0, .ref x), (1, .int p0)] := hl
  refine lv_iload_n hx hb dX1_temper_0 rfl (lv_at hl 1 rfl) ?_
  exact fb_txS (As := [.int p0]) (rest := []) (n := 1) ⟨hx, hb, hml, hown, hts⟩ (fb_t_X1_checkRing l hst9 G cI cL p0 hp) gX1_temper_X1_checkRing rfl (by decide +kernel) (by decide) (fb_PX.bl _ _ _ _) (fb_PX.to (hP.sub (ws' := []) [] rfl) hK hX hE) ht hlk rfl hl.1 rfl (Nat.le_of_ble_eq_true rfl) dX1_temper_1 (by decide)
set_option maxHeartbeats 4000000 in
set_option maxRecDepth 100000 in
theorem fb_t_X1_setFifth_b2 (l : Launch) (hst9 : l.stackTraces = false) (G : va_G) (cI cL : ClassId) (x h h2 n o d f : Nat) (nf uf df tf : Nat → Int32) (w : Nat) (dy : Int32) (j : Nat) (v : Int32) (hj : j < 12) (hv2 : v < (-10) ∨ 20 < v) : fb_TI l yX1_setFifth wsX1_setFifth 8 200 [.ref x, .int (nI j), .int v] (fb_PX G cI cL (fb_YW cI x h h2 n o d f nf uf df tf (nI w) dy)) fb_E2 := by
  refine fb_ti_of (cc := cX1_setFifth) (maxL := 4) (ret := (some .int)) (by decide) rfl (Nat.le_of_ble_eq_true rfl) ?_
  intro p e s m args below meth c hx hb hr hml hlk hts hown ht hB ls hl
  have hown : s.vm.findClass RX1 = some m.cls := hown
  obtain ⟨⟨hP, hK, hX⟩, hE⟩ := hB
  have hP : va_P G vwCl [(x, .inr (1, [.ref h, .ref h2])), (h, .inr (0, [.ref n, .ref o, .ref d, .ref f, .int (nI w), .int dy])), (n, .inl (cI, 12, .inl nf)), (o, .inl (cI, 12, .inl uf)), (d, .inl (cI, 12, .inl df)), (f, .inl (cI, 12, .inl tf))] s.heap := hP
  have hin0 : ∀ w ∈ u_ws RX0 TX0 6, w ∈ wsX1_setFifth := by decide +kernel
  have hin1 : ∀ w ∈ u_ws RX1 TX1 2, w ∈ wsX1_setFifth := by decide +kernel
  have hl : lv_has ls 4 [(0, .ref x), (1, .int (nI j)), (2, .int v)] := hl
  refine lv_iload_n hx hb dX1_setFifth_0 rfl (lv_at hl 1 rfl) ?_
  refine fb_rvS (As := [.int (nI j)]) (rest := []) (n := 1) ⟨hx, hb, hml, hown, hts⟩ (fb_c_X1_checkRing l j (hj)) gX1_setFifth_X1_checkRing rfl (by decide +kernel) (by decide) fb_Bl_T (fun _ _ _ => trivial) rfl hl.1 rfl (Nat.le_of_ble_eq_true rfl) dX1_setFifth_1 (by decide) ?_
  refine lv_iload_n hx hb dX1_setFifth_4 rfl (lv_at hl 2 rfl) ?_
  refine lv_bipush (v := (-10)) hx hb dX1_setFifth_5 (by decide) ?_
  refine lv_bipush (v := 20) hx hb dX1_setFifth_7 (by decide) ?_
  exact fb_txS (As := [.int v, .int (-10), .int 20]) (rest := []) (n := 3) ⟨hx, hb, hml, hown, hts⟩ (fb_t_X1_checkArgument l hst9 G cI cL v (-10) 20 hv2) gX1_setFifth_X1_checkArgument rfl (by decide +kernel) (by decide) (fb_PX.bl _ _ _ _) (fb_PX.to (hP.sub (ws' := []) [] rfl) hK hX hE) ht hlk rfl hl.1 rfl (Nat.le_of_ble_eq_true rfl) dX1_setFifth_9 (by decide)
set_option maxHeartbeats 4000000 in
set_option maxRecDepth 100000 in
theorem fb_t_X1_setOften_b2 (l : Launch) (hst9 : l.stackTraces = false) (G : va_G) (cI cL : ClassId) (x h h2 n o d f : Nat) (nf uf df tf : Nat → Int32) (w : Nat) (dy : Int32) (j : Nat) (v : Int32) (hj : j < 12) (hv2 : v < 0 ∨ 9 < v) : fb_TI l yX1_setOften wsX1_setOften 8 200 [.ref x, .int (nI j), .int v] (fb_PX G cI cL (fb_YW cI x h h2 n o d f nf uf df tf (nI w) dy)) fb_E2 := by
  refine fb_ti_of (cc := cX1_setOften) (maxL := 4) (ret := (some .int)) (by decide) rfl (Nat.le_of_ble_eq_true rfl) ?_
  intro p e s m args below meth c hx hb hr hml hlk hts hown ht hB ls hl
  have hown : s.vm.findClass RX1 = some m.cls := hown
  obtain ⟨⟨hP, hK, hX⟩, hE⟩ := hB
  have hP : va_P G vwCl [(x, .inr (1, [.ref h, .ref h2])), (h, .inr (0, [.ref n, .ref o, .ref d, .ref f, .int (nI w), .int dy])), (n, .inl (cI, 12, .inl nf)), (o, .inl (cI, 12, .inl uf)), (d, .inl (cI, 12, .inl df)), (f, .inl (cI, 12, .inl tf))] s.heap := hP
  have hin0 : ∀ w ∈ u_ws RX0 TX0 6, w ∈ wsX1_setOften := by decide +kernel
  have hin1 : ∀ w ∈ u_ws RX1 TX1 2, w ∈ wsX1_setOften := by decide +kernel
  have hl : lv_has ls 4 [(0, .ref x), (1, .int (nI j)), (2, .int v)] := hl
  refine lv_iload_n hx hb dX1_setOften_0 rfl (lv_at hl 1 rfl) ?_
  refine fb_rvS (As := [.int (nI j)]) (rest := []) (n := 1) ⟨hx, hb, hml, hown, hts⟩ (fb_c_X1_checkRing l j (hj)) gX1_setOften_X1_checkRing rfl (by decide +kernel) (by decide) fb_Bl_T (fun _ _ _ => trivial) rfl hl.1 rfl (Nat.le_of_ble_eq_true rfl) dX1_setOften_1 (by decide) ?_
  refine lv_iload_n hx hb dX1_setOften_4 rfl (lv_at hl 2 rfl) ?_
  refine lv_iconst (v := 0) hx hb dX1_setOften_5 (by decide) ?_
  refine lv_bipush (v := 9) hx hb dX1_setOften_6 (by decide) ?_
  exact fb_txS (As := [.int v, .int 0, .int 9]) (rest := []) (n := 3) ⟨hx, hb, hml, hown, hts⟩ (fb_t_X1_checkArgument l hst9 G cI cL v 0 9 hv2) gX1_setOften_X1_checkArgument rfl (by decide +kernel) (by decide) (fb_PX.bl _ _ _ _) (fb_PX.to (hP.sub (ws' := []) [] rfl) hK hX hE) ht hlk rfl hl.1 rfl (Nat.le_of_ble_eq_true rfl) dX1_setOften_8 (by decide)
set_option maxHeartbeats 4000000 in
set_option maxRecDepth 100000 in
theorem fb_t_X1_setDrift_b2 (l : Launch) (hst9 : l.stackTraces = false) (G : va_G) (cI cL : ClassId) (x h h2 n o d f : Nat) (nf uf df tf : Nat → Int32) (w : Nat) (dy : Int32) (j : Nat) (v : Int32) (hj : j < 12) (hv2 : v < (-3) ∨ 3 < v) : fb_TI l yX1_setDrift wsX1_setDrift 8 200 [.ref x, .int (nI j), .int v] (fb_PX G cI cL (fb_YW cI x h h2 n o d f nf uf df tf (nI w) dy)) fb_E2 := by
  refine fb_ti_of (cc := cX1_setDrift) (maxL := 4) (ret := (some .int)) (by decide) rfl (Nat.le_of_ble_eq_true rfl) ?_
  intro p e s m args below meth c hx hb hr hml hlk hts hown ht hB ls hl
  have hown : s.vm.findClass RX1 = some m.cls := hown
  obtain ⟨⟨hP, hK, hX⟩, hE⟩ := hB
  have hP : va_P G vwCl [(x, .inr (1, [.ref h, .ref h2])), (h, .inr (0, [.ref n, .ref o, .ref d, .ref f, .int (nI w), .int dy])), (n, .inl (cI, 12, .inl nf)), (o, .inl (cI, 12, .inl uf)), (d, .inl (cI, 12, .inl df)), (f, .inl (cI, 12, .inl tf))] s.heap := hP
  have hin0 : ∀ w ∈ u_ws RX0 TX0 6, w ∈ wsX1_setDrift := by decide +kernel
  have hin1 : ∀ w ∈ u_ws RX1 TX1 2, w ∈ wsX1_setDrift := by decide +kernel
  have hl : lv_has ls 4 [(0, .ref x), (1, .int (nI j)), (2, .int v)] := hl
  refine lv_iload_n hx hb dX1_setDrift_0 rfl (lv_at hl 1 rfl) ?_
  refine fb_rvS (As := [.int (nI j)]) (rest := []) (n := 1) ⟨hx, hb, hml, hown, hts⟩ (fb_c_X1_checkRing l j (hj)) gX1_setDrift_X1_checkRing rfl (by decide +kernel) (by decide) fb_Bl_T (fun _ _ _ => trivial) rfl hl.1 rfl (Nat.le_of_ble_eq_true rfl) dX1_setDrift_1 (by decide) ?_
  refine lv_iload_n hx hb dX1_setDrift_4 rfl (lv_at hl 2 rfl) ?_
  refine lv_bipush (v := (-3)) hx hb dX1_setDrift_5 (by decide) ?_
  refine lv_iconst (v := 3) hx hb dX1_setDrift_7 (by decide) ?_
  exact fb_txS (As := [.int v, .int (-3), .int 3]) (rest := []) (n := 3) ⟨hx, hb, hml, hown, hts⟩ (fb_t_X1_checkArgument l hst9 G cI cL v (-3) 3 hv2) gX1_setDrift_X1_checkArgument rfl (by decide +kernel) (by decide) (fb_PX.bl _ _ _ _) (fb_PX.to (hP.sub (ws' := []) [] rfl) hK hX hE) ht hlk rfl hl.1 rfl (Nat.le_of_ble_eq_true rfl) dX1_setDrift_8 (by decide)
set_option maxHeartbeats 4000000 in
set_option maxRecDepth 100000 in
theorem fb_t_X1_setFifth_b3 (l : Launch) (hst9 : l.stackTraces = false) (G : va_G) (cI cL : ClassId) (x h h2 n o d f : Nat) (nf uf df tf : Nat → Int32) (w : Nat) (dy : Int32) (j : Nat) (v : Int32) (hj : j < 12) (hv2 : ¬ (v < (-10) ∨ 20 < v)) (hjw : j = w) (hw : w < 12) : fb_TI l yX1_setFifth wsX1_setFifth 8 200 [.ref x, .int (nI j), .int v] (fb_PX G cI cL (fb_YW cI x h h2 n o d f nf uf df tf (nI w) dy)) fb_E3 := by
  refine fb_ti_of (cc := cX1_setFifth) (maxL := 4) (ret := (some .int)) (by decide) rfl (Nat.le_of_ble_eq_true rfl) ?_
  intro p e s m args below meth c hx hb hr hml hlk hts hown ht hB ls hl
  have hown : s.vm.findClass RX1 = some m.cls := hown
  obtain ⟨⟨hP, hK, hX⟩, hE⟩ := hB
  have hP : va_P G vwCl [(x, .inr (1, [.ref h, .ref h2])), (h, .inr (0, [.ref n, .ref o, .ref d, .ref f, .int (nI w), .int dy])), (n, .inl (cI, 12, .inl nf)), (o, .inl (cI, 12, .inl uf)), (d, .inl (cI, 12, .inl df)), (f, .inl (cI, 12, .inl tf))] s.heap := hP
  have hin0 : ∀ w ∈ u_ws RX0 TX0 6, w ∈ wsX1_setFifth := by decide +kernel
  have hin1 : ∀ w ∈ u_ws RX1 TX1 2, w ∈ wsX1_setFifth := by decide +kernel
  have hl : lv_has ls 4 [(0, .ref x), (1, .int (nI j)), (2, .int v)] := hl
  refine lv_iload_n hx hb dX1_setFifth_0 rfl (lv_at hl 1 rfl) ?_
  refine fb_rvS (As := [.int (nI j)]) (rest := []) (n := 1) ⟨hx, hb, hml, hown, hts⟩ (fb_c_X1_checkRing l j (hj)) gX1_setFifth_X1_checkRing rfl (by decide +kernel) (by decide) fb_Bl_T (fun _ _ _ => trivial) rfl hl.1 rfl (Nat.le_of_ble_eq_true rfl) dX1_setFifth_1 (by decide) ?_
  refine lv_iload_n hx hb dX1_setFifth_4 rfl (lv_at hl 2 rfl) ?_
  refine lv_bipush (v := (-10)) hx hb dX1_setFifth_5 (by decide) ?_
  refine lv_bipush (v := 20) hx hb dX1_setFifth_7 (by decide) ?_
  refine fb_rvS (As := [.int v, .int (-10), .int 20]) (rest := []) (n := 3) ⟨hx, hb, hml, hown, hts⟩ (fb_c_X1_checkArgument l v (-10) 20 (fb_gv hv2)) gX1_setFifth_X1_checkArgument rfl (by decide +kernel) (by decide) fb_Bl_T (fun _ _ _ => trivial) rfl hl.1 rfl (Nat.le_of_ble_eq_true rfl) dX1_setFifth_9 (by decide) ?_
  refine lv_aload_n hx hb dX1_setFifth_12 rfl (lv_at hl 0 rfl) ?_
  refine lv_iload_n hx hb dX1_setFifth_13 rfl (lv_at hl 1 rfl) ?_
  exact fb_txV (As := [.int (nI j)]) (rest := []) (n := 1) ⟨hx, hb, hml, hown, hts⟩ (fb_t_X1_checkNotWolf l hst9 G cI cL x h h2 n o d f nf uf df tf w dy j hj hw hjw) gX1_setFifth_X1_checkNotWolf rfl (by decide +kernel) (by decide) (fb_PX.bl _ _ _ _) (va_recv hK hP (ci := 1) (q0 := 0) rfl rfl) (fb_PX.to hP hK hX hE) ht hlk rfl hl.1 rfl (Nat.le_of_ble_eq_true rfl) dX1_setFifth_14 (by decide)
set_option maxHeartbeats 4000000 in
set_option maxRecDepth 100000 in
theorem fb_t_X1_fifth_b2 (l : Launch) (hst9 : l.stackTraces = false) (G : va_G) (cI cL : ClassId) (x h h2 n o d f : Nat) (nf uf df tf : Nat → Int32) (w : Nat) (dy : Int32) (j : Nat) (v : Int32) (hj : j < 12) (hv2 : v < 0 ∨ 4 < v) : fb_TI l yX1_fifth wsX1_fifth 8 200 [.ref x, .int (nI j), .int v] (fb_PX G cI cL (fb_YW cI x h h2 n o d f nf uf df tf (nI w) dy)) fb_E1 := by
  refine fb_ti_of (cc := cX1_fifth) (maxL := 3) (ret := (some .int)) (by decide) rfl (Nat.le_of_ble_eq_true rfl) ?_
  intro p e s m args below meth c hx hb hr hml hlk hts hown ht hB ls hl
  have hown : s.vm.findClass RX1 = some m.cls := hown
  obtain ⟨⟨hP, hK, hX⟩, hE⟩ := hB
  have hP : va_P G vwCl [(x, .inr (1, [.ref h, .ref h2])), (h, .inr (0, [.ref n, .ref o, .ref d, .ref f, .int (nI w), .int dy])), (n, .inl (cI, 12, .inl nf)), (o, .inl (cI, 12, .inl uf)), (d, .inl (cI, 12, .inl df)), (f, .inl (cI, 12, .inl tf))] s.heap := hP
  have hin0 : ∀ w ∈ u_ws RX0 TX0 6, w ∈ wsX1_fifth := by decide +kernel
  have hin1 : ∀ w ∈ u_ws RX1 TX1 2, w ∈ wsX1_fifth := by decide +kernel
  have hl : lv_has ls 3 [(0, .ref x), (1, .int (nI j)), (2, .int v)] := hl
  refine lv_iload_n hx hb dX1_fifth_0 rfl (lv_at hl 1 rfl) ?_
  refine fb_rvS (As := [.int (nI j)]) (rest := []) (n := 1) ⟨hx, hb, hml, hown, hts⟩ (fb_c_X1_checkRing l j (hj)) gX1_fifth_X1_checkRing rfl (by decide +kernel) (by decide) fb_Bl_T (fun _ _ _ => trivial) rfl hl.1 rfl (Nat.le_of_ble_eq_true rfl) dX1_fifth_1 (by decide) ?_
  refine lv_iload_n hx hb dX1_fifth_4 rfl (lv_at hl 2 rfl) ?_
  refine lv_iconst (v := 0) hx hb dX1_fifth_5 (by decide) ?_
  refine lv_iconst (v := 5) hx hb dX1_fifth_6 (by decide) ?_
  exact fb_txS (As := [.int v, .int 0, .int 5]) (rest := []) (n := 3) ⟨hx, hb, hml, hown, hts⟩ (fb_t_X1_checkWhat l hst9 G cI cL v 0 5 (fb_lt1o (by decide) hv2)) gX1_fifth_X1_checkWhat rfl (by decide +kernel) (by decide) (fb_PX.bl _ _ _ _) (fb_PX.to (hP.sub (ws' := []) [] rfl) hK hX hE) ht hlk rfl hl.1 rfl (Nat.le_of_ble_eq_true rfl) dX1_fifth_7 (by decide)
set_option maxHeartbeats 4000000 in
set_option maxRecDepth 100000 in
theorem fb_t_X1_major_b2 (l : Launch) (hst9 : l.stackTraces = false) (G : va_G) (cI cL : ClassId) (x h h2 n o d f : Nat) (nf uf df tf : Nat → Int32) (w : Nat) (dy : Int32) (j : Nat) (v : Int32) (hj : j < 12) (hv2 : v < 0 ∨ 2 < v) : fb_TI l yX1_major wsX1_major 8 200 [.ref x, .int (nI j), .int v] (fb_PX G cI cL (fb_YW cI x h h2 n o d f nf uf df tf (nI w) dy)) fb_E1 := by
  refine fb_ti_of (cc := cX1_major) (maxL := 3) (ret := (some .int)) (by decide) rfl (Nat.le_of_ble_eq_true rfl) ?_
  intro p e s m args below meth c hx hb hr hml hlk hts hown ht hB ls hl
  have hown : s.vm.findClass RX1 = some m.cls := hown
  obtain ⟨⟨hP, hK, hX⟩, hE⟩ := hB
  have hP : va_P G vwCl [(x, .inr (1, [.ref h, .ref h2])), (h, .inr (0, [.ref n, .ref o, .ref d, .ref f, .int (nI w), .int dy])), (n, .inl (cI, 12, .inl nf)), (o, .inl (cI, 12, .inl uf)), (d, .inl (cI, 12, .inl df)), (f, .inl (cI, 12, .inl tf))] s.heap := hP
  have hin0 : ∀ w ∈ u_ws RX0 TX0 6, w ∈ wsX1_major := by decide +kernel
  have hin1 : ∀ w ∈ u_ws RX1 TX1 2, w ∈ wsX1_major := by decide +kernel
  have hl : lv_has ls 3 [(0, .ref x), (1, .int (nI j)), (2, .int v)] := hl
  refine lv_iload_n hx hb dX1_major_0 rfl (lv_at hl 1 rfl) ?_
  refine fb_rvS (As := [.int (nI j)]) (rest := []) (n := 1) ⟨hx, hb, hml, hown, hts⟩ (fb_c_X1_checkRing l j (hj)) gX1_major_X1_checkRing rfl (by decide +kernel) (by decide) fb_Bl_T (fun _ _ _ => trivial) rfl hl.1 rfl (Nat.le_of_ble_eq_true rfl) dX1_major_1 (by decide) ?_
  refine lv_iload_n hx hb dX1_major_4 rfl (lv_at hl 2 rfl) ?_
  refine lv_iconst (v := 0) hx hb dX1_major_5 (by decide) ?_
  refine lv_iconst (v := 3) hx hb dX1_major_6 (by decide) ?_
  exact fb_txS (As := [.int v, .int 0, .int 3]) (rest := []) (n := 3) ⟨hx, hb, hml, hown, hts⟩ (fb_t_X1_checkWhat l hst9 G cI cL v 0 3 (fb_lt1o (by decide) hv2)) gX1_major_X1_checkWhat rfl (by decide +kernel) (by decide) (fb_PX.bl _ _ _ _) (fb_PX.to (hP.sub (ws' := []) [] rfl) hK hX hE) ht hlk rfl hl.1 rfl (Nat.le_of_ble_eq_true rfl) dX1_major_7 (by decide)
set_option maxHeartbeats 4000000 in
set_option maxRecDepth 100000 in
theorem fb_t_X1_minor_b2 (l : Launch) (hst9 : l.stackTraces = false) (G : va_G) (cI cL : ClassId) (x h h2 n o d f : Nat) (nf uf df tf : Nat → Int32) (w : Nat) (dy : Int32) (j : Nat) (v : Int32) (hj : j < 12) (hv2 : v < 0 ∨ 1 < v) : fb_TI l yX1_minor wsX1_minor 8 200 [.ref x, .int (nI j), .int v] (fb_PX G cI cL (fb_YW cI x h h2 n o d f nf uf df tf (nI w) dy)) fb_E1 := by
  refine fb_ti_of (cc := cX1_minor) (maxL := 3) (ret := (some .int)) (by decide) rfl (Nat.le_of_ble_eq_true rfl) ?_
  intro p e s m args below meth c hx hb hr hml hlk hts hown ht hB ls hl
  have hown : s.vm.findClass RX1 = some m.cls := hown
  obtain ⟨⟨hP, hK, hX⟩, hE⟩ := hB
  have hP : va_P G vwCl [(x, .inr (1, [.ref h, .ref h2])), (h, .inr (0, [.ref n, .ref o, .ref d, .ref f, .int (nI w), .int dy])), (n, .inl (cI, 12, .inl nf)), (o, .inl (cI, 12, .inl uf)), (d, .inl (cI, 12, .inl df)), (f, .inl (cI, 12, .inl tf))] s.heap := hP
  have hin0 : ∀ w ∈ u_ws RX0 TX0 6, w ∈ wsX1_minor := by decide +kernel
  have hin1 : ∀ w ∈ u_ws RX1 TX1 2, w ∈ wsX1_minor := by decide +kernel
  have hl : lv_has ls 3 [(0, .ref x), (1, .int (nI j)), (2, .int v)] := hl
  refine lv_iload_n hx hb dX1_minor_0 rfl (lv_at hl 1 rfl) ?_
  refine fb_rvS (As := [.int (nI j)]) (rest := []) (n := 1) ⟨hx, hb, hml, hown, hts⟩ (fb_c_X1_checkRing l j (hj)) gX1_minor_X1_checkRing rfl (by decide +kernel) (by decide) fb_Bl_T (fun _ _ _ => trivial) rfl hl.1 rfl (Nat.le_of_ble_eq_true rfl) dX1_minor_1 (by decide) ?_
  refine lv_iload_n hx hb dX1_minor_4 rfl (lv_at hl 2 rfl) ?_
  refine lv_iconst (v := 0) hx hb dX1_minor_5 (by decide) ?_
  refine lv_iconst (v := 2) hx hb dX1_minor_6 (by decide) ?_
  exact fb_txS (As := [.int v, .int 0, .int 2]) (rest := []) (n := 3) ⟨hx, hb, hml, hown, hts⟩ (fb_t_X1_checkWhat l hst9 G cI cL v 0 2 (fb_lt1o (by decide) hv2)) gX1_minor_X1_checkWhat rfl (by decide +kernel) (by decide) (fb_PX.bl _ _ _ _) (fb_PX.to (hP.sub (ws' := []) [] rfl) hK hX hE) ht hlk rfl hl.1 rfl (Nat.le_of_ble_eq_true rfl) dX1_minor_7 (by decide)
set_option maxHeartbeats 4000000 in
set_option maxRecDepth 100000 in
theorem fb_t_X1_note_b2 (l : Launch) (hst9 : l.stackTraces = false) (G : va_G) (cI cL : ClassId) (x h h2 n o d f : Nat) (nf uf df tf : Nat → Int32) (w : Nat) (dy : Int32) (j : Nat) (v : Int32) (hj : j < 12) (hv2 : v < 0 ∨ 4 < v) : fb_TI l yX1_note wsX1_note 8 200 [.ref x, .int (nI j), .int v] (fb_PX G cI cL (fb_YW cI x h h2 n o d f nf uf df tf (nI w) dy)) fb_E1 := by
  refine fb_ti_of (cc := cX1_note) (maxL := 3) (ret := (some .int)) (by decide) rfl (Nat.le_of_ble_eq_true rfl) ?_
  intro p e s m args below meth c hx hb hr hml hlk hts hown ht hB ls hl
  have hown : s.vm.findClass RX1 = some m.cls := hown
  obtain ⟨⟨hP, hK, hX⟩, hE⟩ := hB
  have hP : va_P G vwCl [(x, .inr (1, [.ref h, .ref h2])), (h, .inr (0, [.ref n, .ref o, .ref d, .ref f, .int (nI w), .int dy])), (n, .inl (cI, 12, .inl nf)), (o, .inl (cI, 12, .inl uf)), (d, .inl (cI, 12, .inl df)), (f, .inl (cI, 12, .inl tf))] s.heap := hP
  have hin0 : ∀ w ∈ u_ws RX0 TX0 6, w ∈ wsX1_note := by decide +kernel
  have hin1 : ∀ w ∈ u_ws RX1 TX1 2, w ∈ wsX1_note := by decide +kernel
  have hl : lv_has ls 3 [(0, .ref x), (1, .int (nI j)), (2, .int v)] := hl
  refine lv_iload_n hx hb dX1_note_0 rfl (lv_at hl 1 rfl) ?_
  refine fb_rvS (As := [.int (nI j)]) (rest := []) (n := 1) ⟨hx, hb, hml, hown, hts⟩ (fb_c_X1_checkRing l j (hj)) gX1_note_X1_checkRing rfl (by decide +kernel) (by decide) fb_Bl_T (fun _ _ _ => trivial) rfl hl.1 rfl (Nat.le_of_ble_eq_true rfl) dX1_note_1 (by decide) ?_
  refine lv_iload_n hx hb dX1_note_4 rfl (lv_at hl 2 rfl) ?_
  refine lv_iconst (v := 0) hx hb dX1_note_5 (by decide) ?_
  refine lv_iconst (v := 5) hx hb dX1_note_6 (by decide) ?_
  exact fb_txS (As := [.int v, .int 0, .int 5]) (rest := []) (n := 3) ⟨hx, hb, hml, hown, hts⟩ (fb_t_X1_checkWhat l hst9 G cI cL v 0 5 (fb_lt1o (by decide) hv2)) gX1_note_X1_checkWhat rfl (by decide +kernel) (by decide) (fb_PX.bl _ _ _ _) (fb_PX.to (hP.sub (ws' := []) [] rfl) hK hX hE) ht hlk rfl hl.1 rfl (Nat.le_of_ble_eq_true rfl) dX1_note_7 (by decide)
set_option maxHeartbeats 4000000 in
set_option maxRecDepth 100000 in
theorem fb_t_X1_key_b2 (l : Launch) (hst9 : l.stackTraces = false) (G : va_G) (cI cL : ClassId) (x h h2 n o d f : Nat) (nf uf df tf : Nat → Int32) (w : Nat) (dy : Int32) (j : Nat) (v : Int32) (hj : j < 12) (hv2 : v < 0 ∨ 3 < v) : fb_TI l yX1_key wsX1_key 8 200 [.ref x, .int (nI j), .int v] (fb_PX G cI cL (fb_YW cI x h h2 n o d f nf uf df tf (nI w) dy)) fb_E1 := by
  refine fb_ti_of (cc := cX1_key) (maxL := 3) (ret := (some .int)) (by decide) rfl (Nat.le_of_ble_eq_true rfl) ?_
  intro p e s m args below meth c hx hb hr hml hlk hts hown ht hB ls hl
  have hown : s.vm.findClass RX1 = some m.cls := hown
  obtain ⟨⟨hP, hK, hX⟩, hE⟩ := hB
  have hP : va_P G vwCl [(x, .inr (1, [.ref h, .ref h2])), (h, .inr (0, [.ref n, .ref o, .ref d, .ref f, .int (nI w), .int dy])), (n, .inl (cI, 12, .inl nf)), (o, .inl (cI, 12, .inl uf)), (d, .inl (cI, 12, .inl df)), (f, .inl (cI, 12, .inl tf))] s.heap := hP
  have hin0 : ∀ w ∈ u_ws RX0 TX0 6, w ∈ wsX1_key := by decide +kernel
  have hin1 : ∀ w ∈ u_ws RX1 TX1 2, w ∈ wsX1_key := by decide +kernel
  have hl : lv_has ls 3 [(0, .ref x), (1, .int (nI j)), (2, .int v)] := hl
  refine lv_iload_n hx hb dX1_key_0 rfl (lv_at hl 1 rfl) ?_
  refine fb_rvS (As := [.int (nI j)]) (rest := []) (n := 1) ⟨hx, hb, hml, hown, hts⟩ (fb_c_X1_checkRing l j (hj)) gX1_key_X1_checkRing rfl (by decide +kernel) (by decide) fb_Bl_T (fun _ _ _ => trivial) rfl hl.1 rfl (Nat.le_of_ble_eq_true rfl) dX1_key_1 (by decide) ?_
  refine lv_iload_n hx hb dX1_key_4 rfl (lv_at hl 2 rfl) ?_
  refine lv_iconst (v := 0) hx hb dX1_key_5 (by decide) ?_
  refine lv_iconst (v := 4) hx hb dX1_key_6 (by decide) ?_
  exact fb_txS (As := [.int v, .int 0, .int 4]) (rest := []) (n := 3) ⟨hx, hb, hml, hown, hts⟩ (fb_t_X1_checkWhat l hst9 G cI cL v 0 4 (fb_lt1o (by decide) hv2)) gX1_key_X1_checkWhat rfl (by decide +kernel) (by decide) (fb_PX.bl _ _ _ _) (fb_PX.to (hP.sub (ws' := []) [] rfl) hK hX hE) ht hlk rfl hl.1 rfl (Nat.le_of_ble_eq_true rfl) dX1_key_7 (by decide)
set_option maxHeartbeats 4000000 in
set_option maxRecDepth 100000 in
theorem fb_t_X1_count_b1 (l : Launch) (hst9 : l.stackTraces = false) (G : va_G) (cI cL : ClassId) (x h h2 n o d f : Nat) (nf uf df tf : Nat → Int32) (w : Nat) (dy : Int32) (p0 : Int32) (hv2 : p0 < 0 ∨ 6 < p0) : fb_TI l yX1_count wsX1_count 8 200 [.ref x, .int p0] (fb_PX G cI cL (fb_YW cI x h h2 n o d f nf uf df tf (nI w) dy)) fb_E1 := by
  refine fb_ti_of (cc := cX1_count) (maxL := 2) (ret := (some .int)) (by decide) rfl (Nat.le_of_ble_eq_true rfl) ?_
  intro p e s m args below meth c hx hb hr hml hlk hts hown ht hB ls hl
  have hown : s.vm.findClass RX1 = some m.cls := hown
  obtain ⟨⟨hP, hK, hX⟩, hE⟩ := hB
  have hP : va_P G vwCl [(x, .inr (1, [.ref h, .ref h2])), (h, .inr (0, [.ref n, .ref o, .ref d, .ref f, .int (nI w), .int dy])), (n, .inl (cI, 12, .inl nf)), (o, .inl (cI, 12, .inl uf)), (d, .inl (cI, 12, .inl df)), (f, .inl (cI, 12, .inl tf))] s.heap := hP
  have hin0 : ∀ w ∈ u_ws RX0 TX0 6, w ∈ wsX1_count := by decide +kernel
  have hin1 : ∀ w ∈ u_ws RX1 TX1 2, w ∈ wsX1_count := by decide +kernel
  have hl : lv_has ls 2 [(0, .ref x), (1, .int p0)] := hl
  refine lv_iload_n hx hb dX1_count_0 rfl (lv_at hl 1 rfl) ?_
  refine lv_iconst (v := 0) hx hb dX1_count_1 (by decide) ?_
  refine lv_bipush (v := 7) hx hb dX1_count_2 (by decide) ?_
  exact fb_txS (As := [.int p0, .int 0, .int 7]) (rest := []) (n := 3) ⟨hx, hb, hml, hown, hts⟩ (fb_t_X1_checkWhat l hst9 G cI cL p0 0 7 (fb_lt1o (by decide) hv2)) gX1_count_X1_checkWhat rfl (by decide +kernel) (by decide) (fb_PX.bl _ _ _ _) (fb_PX.to (hP.sub (ws' := []) [] rfl) hK hX hE) ht hlk rfl hl.1 rfl (Nat.le_of_ble_eq_true rfl) dX1_count_4 (by decide)
set_option maxHeartbeats 4000000 in
set_option maxRecDepth 100000 in
theorem fb_t_X1_spread_b1 (l : Launch) (hst9 : l.stackTraces = false) (G : va_G) (cI cL : ClassId) (x h h2 n o d f : Nat) (nf uf df tf : Nat → Int32) (w : Nat) (dy : Int32) (p0 : Int32) (hv2 : p0 < 2 ∨ 11 < p0) : fb_TI l yX1_spread wsX1_spread 8 200 [.ref x, .int p0] (fb_PX G cI cL (fb_YW cI x h h2 n o d f nf uf df tf (nI w) dy)) fb_E2 := by
  refine fb_ti_of (cc := cX1_spread) (maxL := 3) (ret := (some .int)) (by decide) rfl (Nat.le_of_ble_eq_true rfl) ?_
  intro p e s m args below meth c hx hb hr hml hlk hts hown ht hB ls hl
  have hown : s.vm.findClass RX1 = some m.cls := hown
  obtain ⟨⟨hP, hK, hX⟩, hE⟩ := hB
  have hP : va_P G vwCl [(x, .inr (1, [.ref h, .ref h2])), (h, .inr (0, [.ref n, .ref o, .ref d, .ref f, .int (nI w), .int dy])), (n, .inl (cI, 12, .inl nf)), (o, .inl (cI, 12, .inl uf)), (d, .inl (cI, 12, .inl df)), (f, .inl (cI, 12, .inl tf))] s.heap := hP
  have hin0 : ∀ w ∈ u_ws RX0 TX0 6, w ∈ wsX1_spread := by decide +kernel
  have hin1 : ∀ w ∈ u_ws RX1 TX1 2, w ∈ wsX1_spread := by decide +kernel
  have hl : lv_has ls 3 [(0, .ref x), (1, .int p0)] := hl
  refine lv_iload_n hx hb dX1_spread_0 rfl (lv_at hl 1 rfl) ?_
  refine lv_iconst (v := 2) hx hb dX1_spread_1 (by decide) ?_
  refine lv_bipush (v := 11) hx hb dX1_spread_2 (by decide) ?_
  exact fb_txS (As := [.int p0, .int 2, .int 11]) (rest := []) (n := 3) ⟨hx, hb, hml, hown, hts⟩ (fb_t_X1_checkArgument l hst9 G cI cL p0 2 11 hv2) gX1_spread_X1_checkArgument rfl (by decide +kernel) (by decide) (fb_PX.bl _ _ _ _) (fb_PX.to (hP.sub (ws' := []) [] rfl) hK hX hE) ht hlk rfl hl.1 rfl (Nat.le_of_ble_eq_true rfl) dX1_spread_4 (by decide)
set_option maxHeartbeats 4000000 in
set_option maxRecDepth 100000 in
theorem fb_t_X1_pass_b1 (l : Launch) (hst9 : l.stackTraces = false) (G : va_G) (cI cL : ClassId) (x h h2 n o d f : Nat) (nf uf df tf : Nat → Int32) (w : Nat) (dy : Int32) (p0 : Int32) (hv2 : p0 < 1 ∨ 100 < p0) : fb_TI l yX1_pass wsX1_pass 8 200 [.ref x, .int p0] (fb_PX G cI cL (fb_YW cI x h h2 n o d f nf uf df tf (nI w) dy)) fb_E2 := by
  refine fb_ti_of (cc := cX1_pass) (maxL := 2) (ret := (some .int)) (by decide) rfl (Nat.le_of_ble_eq_true rfl) ?_
  intro p e s m args below meth c hx hb hr hml hlk hts hown ht hB ls hl
  have hown : s.vm.findClass RX1 = some m.cls := hown
  obtain ⟨⟨hP, hK, hX⟩, hE⟩ := hB
  have hP : va_P G vwCl [(x, .inr (1, [.ref h, .ref h2])), (h, .inr (0, [.ref n, .ref o, .ref d, .ref f, .int (nI w), .int dy])), (n, .inl (cI, 12, .inl nf)), (o, .inl (cI, 12, .inl uf)), (d, .inl (cI, 12, .inl df)), (f, .inl (cI, 12, .inl tf))] s.heap := hP
  have hin0 : ∀ w ∈ u_ws RX0 TX0 6, w ∈ wsX1_pass := by decide +kernel
  have hin1 : ∀ w ∈ u_ws RX1 TX1 2, w ∈ wsX1_pass := by decide +kernel
  have hl : lv_has ls 2 [(0, .ref x), (1, .int p0)] := hl
  refine lv_iload_n hx hb dX1_pass_0 rfl (lv_at hl 1 rfl) ?_
  refine lv_iconst (v := 1) hx hb dX1_pass_1 (by decide) ?_
  refine lv_bipush (v := 100) hx hb dX1_pass_2 (by decide) ?_
  exact fb_txS (As := [.int p0, .int 1, .int 100]) (rest := []) (n := 3) ⟨hx, hb, hml, hown, hts⟩ (fb_t_X1_checkArgument l hst9 G cI cL p0 1 100 hv2) gX1_pass_X1_checkArgument rfl (by decide +kernel) (by decide) (fb_PX.bl _ _ _ _) (fb_PX.to (hP.sub (ws' := []) [] rfl) hK hX hE) ht hlk rfl hl.1 rfl (Nat.le_of_ble_eq_true rfl) dX1_pass_4 (by decide)
set_option maxHeartbeats 4000000 in
set_option maxRecDepth 100000 in
theorem fb_t_X1_until_b1 (l : Launch) (hst9 : l.stackTraces = false) (G : va_G) (cI cL : ClassId) (x h h2 n o d f : Nat) (nf uf df tf : Nat → Int32) (w : Nat) (dy : Int32) (p0 : Int32) (hv2 : p0 < 1 ∨ 9999 < p0) : fb_TI l yX1_until wsX1_until 8 200 [.ref x, .int p0] (fb_PX G cI cL (fb_YW cI x h h2 n o d f nf uf df tf (nI w) dy)) fb_E2 := by
  refine fb_ti_of (cc := cX1_until) (maxL := 3) (ret := (some .int)) (by decide) rfl (Nat.le_of_ble_eq_true rfl) ?_
  intro p e s m args below meth c hx hb hr hml hlk hts hown ht hB ls hl
  have hown : s.vm.findClass RX1 = some m.cls := hown
  obtain ⟨⟨hP, hK, hX⟩, hE⟩ := hB
  have hP : va_P G vwCl [(x, .inr (1, [.ref h, .ref h2])), (h, .inr (0, [.ref n, .ref o, .ref d, .ref f, .int (nI w), .int dy])), (n, .inl (cI, 12, .inl nf)), (o, .inl (cI, 12, .inl uf)), (d, .inl (cI, 12, .inl df)), (f, .inl (cI, 12, .inl tf))] s.heap := hP
  have hin0 : ∀ w ∈ u_ws RX0 TX0 6, w ∈ wsX1_until := by decide +kernel
  have hin1 : ∀ w ∈ u_ws RX1 TX1 2, w ∈ wsX1_until := by decide +kernel
  have hl : lv_has ls 3 [(0, .ref x), (1, .int p0)] := hl
  refine lv_iload_n hx hb dX1_until_0 rfl (lv_at hl 1 rfl) ?_
  refine lv_iconst (v := 1) hx hb dX1_until_1 (by decide) ?_
  refine lv_sipush (v := 9999) hx hb dX1_until_2 (by decide) ?_
  exact fb_txS (As := [.int p0, .int 1, .int 9999]) (rest := []) (n := 3) ⟨hx, hb, hml, hown, hts⟩ (fb_t_X1_checkArgument l hst9 G cI cL p0 1 9999 hv2) gX1_until_X1_checkArgument rfl (by decide +kernel) (by decide) (fb_PX.bl _ _ _ _) (fb_PX.to (hP.sub (ws' := []) [] rfl) hK hX hE) ht hlk rfl hl.1 rfl (Nat.le_of_ble_eq_true rfl) dX1_until_5 (by decide)
set_option maxHeartbeats 4000000 in
set_option maxRecDepth 100000 in
theorem fb_t_X1_foresee_b1 (l : Launch) (hst9 : l.stackTraces = false) (G : va_G) (cI cL : ClassId) (x h h2 n o d f : Nat) (nf uf df tf : Nat → Int32) (w : Nat) (dy : Int32) (p0 v : Int32) (hv2 : p0 < 1 ∨ 100 < p0) : fb_TI l yX1_foresee wsX1_foresee 8 200 [.ref x, .int p0, .int v] (fb_PX G cI cL (fb_YW cI x h h2 n o d f nf uf df tf (nI w) dy)) fb_E2 := by
  refine fb_ti_of (cc := cX1_foresee) (maxL := 3) (ret := (some .int)) (by decide) rfl (Nat.le_of_ble_eq_true rfl) ?_
  intro p e s m args below meth c hx hb hr hml hlk hts hown ht hB ls hl
  have hown : s.vm.findClass RX1 = some m.cls := hown
  obtain ⟨⟨hP, hK, hX⟩, hE⟩ := hB
  have hP : va_P G vwCl [(x, .inr (1, [.ref h, .ref h2])), (h, .inr (0, [.ref n, .ref o, .ref d, .ref f, .int (nI w), .int dy])), (n, .inl (cI, 12, .inl nf)), (o, .inl (cI, 12, .inl uf)), (d, .inl (cI, 12, .inl df)), (f, .inl (cI, 12, .inl tf))] s.heap := hP
  have hin0 : ∀ w ∈ u_ws RX0 TX0 6, w ∈ wsX1_foresee := by decide +kernel
  have hin1 : ∀ w ∈ u_ws RX1 TX1 2, w ∈ wsX1_foresee := by decide +kernel
  have hl : lv_has ls 3 [(0, .ref x), (1, .int p0), (2, .int v)] := hl
  refine lv_iload_n hx hb dX1_foresee_0 rfl (lv_at hl 1 rfl) ?_
  refine lv_iconst (v := 1) hx hb dX1_foresee_1 (by decide) ?_
  refine lv_bipush (v := 100) hx hb dX1_foresee_2 (by decide) ?_
  exact fb_txS (As := [.int p0, .int 1, .int 100]) (rest := []) (n := 3) ⟨hx, hb, hml, hown, hts⟩ (fb_t_X1_checkArgument l hst9 G cI cL p0 1 100 hv2) gX1_foresee_X1_checkArgument rfl (by decide +kernel) (by decide) (fb_PX.bl _ _ _ _) (fb_PX.to (hP.sub (ws' := []) [] rfl) hK hX hE) ht hlk rfl hl.1 rfl (Nat.le_of_ble_eq_true rfl) dX1_foresee_4 (by decide)
set_option maxHeartbeats 4000000 in
set_option maxRecDepth 100000 in
theorem fb_t_X1_foresee_b2 (l : Launch) (hst9 : l.stackTraces = false) (G : va_G) (cI cL : ClassId) (x h h2 n o d f : Nat) (nf uf df tf : Nat → Int32) (w : Nat) (dy : Int32) (q : Nat) (v : Int32) (hq : 1 ≤ q) (hq2 : q ≤ 100) (hv2 : v < 2 ∨ 6 < v) : fb_TI l yX1_foresee wsX1_foresee 8 200 [.ref x, .int (nI q), .int v] (fb_PX G cI cL (fb_YW cI x h h2 n o d f nf uf df tf (nI w) dy)) fb_E1 := by
  refine fb_ti_of (cc := cX1_foresee) (maxL := 3) (ret := (some .int)) (by decide) rfl (Nat.le_of_ble_eq_true rfl) ?_
  intro p e s m args below meth c hx hb hr hml hlk hts hown ht hB ls hl
  have hown : s.vm.findClass RX1 = some m.cls := hown
  obtain ⟨⟨hP, hK, hX⟩, hE⟩ := hB
  have hP : va_P G vwCl [(x, .inr (1, [.ref h, .ref h2])), (h, .inr (0, [.ref n, .ref o, .ref d, .ref f, .int (nI w), .int dy])), (n, .inl (cI, 12, .inl nf)), (o, .inl (cI, 12, .inl uf)), (d, .inl (cI, 12, .inl df)), (f, .inl (cI, 12, .inl tf))] s.heap := hP
  have hin0 : ∀ w ∈ u_ws RX0 TX0 6, w ∈ wsX1_foresee := by decide +kernel
  have hin1 : ∀ w ∈ u_ws RX1 TX1 2, w ∈ wsX1_foresee := by decide +kernel
  have hl : lv_has ls 3 [(0, .ref x), (1, .int (nI q)), (2, .int v)] := hl
  refine lv_iload_n hx hb dX1_foresee_0 rfl (lv_at hl 1 rfl) ?_
  refine lv_iconst (v := 1) hx hb dX1_foresee_1 (by decide) ?_
  refine lv_bipush (v := 100) hx hb dX1_foresee_2 (by decide) ?_
  refine fb_rvS (As := [.int (nI q), .int 1, .int 100]) (rest := []) (n := 3) ⟨hx, hb, hml, hown, hts⟩ (fb_c_X1_checkArgument l (nI q) 1 100 (fb_g1 hq hq2 (by decide))) gX1_foresee_X1_checkArgument rfl (by decide +kernel) (by decide) fb_Bl_T (fun _ _ _ => trivial) rfl hl.1 rfl (Nat.le_of_ble_eq_true rfl) dX1_foresee_4 (by decide) ?_
  refine lv_iload_n hx hb dX1_foresee_7 rfl (lv_at hl 2 rfl) ?_
  refine lv_iconst (v := 2) hx hb dX1_foresee_8 (by decide) ?_
  refine lv_bipush (v := 7) hx hb dX1_foresee_9 (by decide) ?_
  exact fb_txS (As := [.int v, .int 2, .int 7]) (rest := []) (n := 3) ⟨hx, hb, hml, hown, hts⟩ (fb_t_X1_checkWhat l hst9 G cI cL v 2 7 (fb_lt1o (by decide) hv2)) gX1_foresee_X1_checkWhat rfl (by decide +kernel) (by decide) (fb_PX.bl _ _ _ _) (fb_PX.to (hP.sub (ws' := []) [] rfl) hK hX hE) ht hlk rfl hl.1 rfl (Nat.le_of_ble_eq_true rfl) dX1_foresee_11 (by decide)
set_option maxHeartbeats 4000000 in
set_option maxRecDepth 100000 in
theorem fb_t_X1_temper_b2 (l : Launch) (hst9 : l.stackTraces = false) (G : va_G) (cI cL : ClassId) (x h h2 n o d f : Nat) (nf uf df tf : Nat → Int32) (w : Nat) (dy : Int32) (j : Nat) (hj : j < 12) (hjw : j = w) (hw : w < 12) : fb_TI l yX1_temper wsX1_temper 8 200 [.ref x, .int (nI j)] (fb_PX G cI cL (fb_YW cI x h h2 n o d f nf uf df tf (nI w) dy)) fb_E3 := by
  refine fb_ti_of (cc := cX1_temper) (maxL := 6) (ret := (some .int)) (by decide) rfl (Nat.le_of_ble_eq_true rfl) ?_
  intro p e s m args below meth c hx hb hr hml hlk hts hown ht hB ls hl
  have hown : s.vm.findClass RX1 = some m.cls := hown
  obtain ⟨⟨hP, hK, hX⟩, hE⟩ := hB
  have hP : va_P G vwCl [(x, .inr (1, [.ref h, .ref h2])), (h, .inr (0, [.ref n, .ref o, .ref d, .ref f, .int (nI w), .int dy])), (n, .inl (cI, 12, .inl nf)), (o, .inl (cI, 12, .inl uf)), (d, .inl (cI, 12, .inl df)), (f, .inl (cI, 12, .inl tf))] s.heap := hP
  have hin0 : ∀ w ∈ u_ws RX0 TX0 6, w ∈ wsX1_temper := by decide +kernel
  have hin1 : ∀ w ∈ u_ws RX1 TX1 2, w ∈ wsX1_temper := by decide +kernel
  have hl : lv_has ls 6 [(0, .ref x), (1, .int (nI j))] := hl
  refine lv_iload_n hx hb dX1_temper_0 rfl (lv_at hl 1 rfl) ?_
  refine fb_rvS (As := [.int (nI j)]) (rest := []) (n := 1) ⟨hx, hb, hml, hown, hts⟩ (fb_c_X1_checkRing l j (hj)) gX1_temper_X1_checkRing rfl (by decide +kernel) (by decide) fb_Bl_T (fun _ _ _ => trivial) rfl hl.1 rfl (Nat.le_of_ble_eq_true rfl) dX1_temper_1 (by decide) ?_
  refine lv_aload_n hx hb dX1_temper_4 rfl (lv_at hl 0 rfl) ?_
  refine lv_iload_n hx hb dX1_temper_5 rfl (lv_at hl 1 rfl) ?_
  exact fb_txV (As := [.int (nI j)]) (rest := []) (n := 1) ⟨hx, hb, hml, hown, hts⟩ (fb_t_X1_checkNotWolf l hst9 G cI cL x h h2 n o d f nf uf df tf w dy j hj hw hjw) gX1_temper_X1_checkNotWolf rfl (by decide +kernel) (by decide) (fb_PX.bl _ _ _ _) (va_recv hK hP (ci := 1) (q0 := 0) rfl rfl) (fb_PX.to hP hK hX hE) ht hlk rfl hl.1 rfl (Nat.le_of_ble_eq_true rfl) dX1_temper_6 (by decide)
set_option maxHeartbeats 4000000 in
set_option maxRecDepth 100000 in
theorem fb_t_X1_tune_b2 (l : Launch) (hst9 : l.stackTraces = false) (G : va_G) (cI cL : ClassId) (x h h2 n o d f : Nat) (nf uf df tf : Nat → Int32) (w : Nat) (dy : Int32) (j : Nat) (hj : j < 12) (hjw : (j + 11) % 12 = w) (hw : w < 12) : fb_TI l yX1_tune wsX1_tune 8 200 [.ref x, .int (nI j)] (fb_PX G cI cL (fb_YW cI x h h2 n o d f nf uf df tf (nI w) dy)) fb_E3 := by
  refine fb_ti_of (cc := cX1_tune) (maxL := 2) (ret := (some .int)) (by decide) rfl (Nat.le_of_ble_eq_true rfl) ?_
  intro p e s m args below meth c hx hb hr hml hlk hts hown ht hB ls hl
  have hown : s.vm.findClass RX1 = some m.cls := hown
  obtain ⟨⟨hP, hK, hX⟩, hE⟩ := hB
  have hP : va_P G vwCl [(x, .inr (1, [.ref h, .ref h2])), (h, .inr (0, [.ref n, .ref o, .ref d, .ref f, .int (nI w), .int dy])), (n, .inl (cI, 12, .inl nf)), (o, .inl (cI, 12, .inl uf)), (d, .inl (cI, 12, .inl df)), (f, .inl (cI, 12, .inl tf))] s.heap := hP
  have hin0 : ∀ w ∈ u_ws RX0 TX0 6, w ∈ wsX1_tune := by decide +kernel
  have hin1 : ∀ w ∈ u_ws RX1 TX1 2, w ∈ wsX1_tune := by decide +kernel
  have hl : lv_has ls 2 [(0, .ref x), (1, .int (nI j))] := hl
  refine lv_iload_n hx hb dX1_tune_0 rfl (lv_at hl 1 rfl) ?_
  refine fb_rvS (As := [.int (nI j)]) (rest := []) (n := 1) ⟨hx, hb, hml, hown, hts⟩ (fb_c_X1_checkRing l j (hj)) gX1_tune_X1_checkRing rfl (by decide +kernel) (by decide) fb_Bl_T (fun _ _ _ => trivial) rfl hl.1 rfl (Nat.le_of_ble_eq_true rfl) dX1_tune_1 (by decide) ?_
  refine lv_aload_n hx hb dX1_tune_4 rfl (lv_at hl 0 rfl) ?_
  refine va_get (D := G) (ci := 1) (v := .ref h) (C := RX1) (T := TX1) (N := 2) hx hb hts (hin1) hown hK hP 0 rfl rfl 0 (by decide) (hts (.fieldLink RX1 10 "FifthBeats" "piano" "LFifthBeats$Piano;") (by decide +kernel)) (fun _ h9 => h9) rfl dX1_tune_5 ?_
  refine lv_iload_n hx hb dX1_tune_8 rfl (lv_at hl 1 rfl) ?_
  refine fb_roV (As := [.int (nI j)]) (rest := []) (n := 1) ⟨hx, hb, hml, hown, hts⟩ (fb_c_X0_canTune l G cI cL h n o d f nf uf df tf w dy j hj hw) gX1_tune_X0_canTune rfl (by decide +kernel) (by decide) (fb_PB.bl _ _ _ _) (va_recv hK hP (ci := 0) (q0 := 1) rfl rfl) (fb_PB.to (hP.sub (ws' := [(h, .inr (0, [.ref n, .ref o, .ref d, .ref f, .int (nI w), .int dy])), (n, .inl (cI, 12, .inl nf)), (o, .inl (cI, 12, .inl uf)), (d, .inl (cI, 12, .inl df)), (f, .inl (cI, 12, .inl tf))]) [1, 2, 3, 4, 5] rfl) hK hX) rfl hl.1 rfl (Nat.le_of_ble_eq_true rfl) dX1_tune_9 (by decide) ?_
  refine fb_ti (z := 0) (if_pos hjw) ?_
  refine lv_if_ne (tgt := 25) hx hb dX1_tune_12 (by decide) (fun c12 => ?_) (fun c12 => ?_)
  · skip
    first | exact absurd c12 (by decide) | exact absurd (by decide) c12
  · skip
    obtain ⟨sa9, hs9⟩ := hE.2.1.2.2.2.2.1
    have hca9 : va_Nw (.castable fb_E3 fb_E3) s := hE.2.2.1.2.2
    have hg9 : ∀ w ∈ (vx_atS RX1 66 fb_E3 ["java/lang/RuntimeException", "java/lang/Exception"]).filter goodWord, w ∈ wsX1_tune := by decide +kernel
    exact fb_throw (rest := []) (E := fb_E3) (ik := 62) (is := 64) (ic := 66) hx hb hst9 hown (by decide +kernel) (by decide +kernel) (hts (.classLink RX1 62 fb_E3) (by decide +kernel)) (hts (.initialized fb_E3) (by decide +kernel)) hs9 (fun w h9 => hts w (hg9 w h9)) (by decide +kernel) hca9 (by decide +kernel) hE (hl.1.trans hml.symm) dX1_tune_15 dX1_tune_18 dX1_tune_19 dX1_tune_21 dX1_tune_24 ht hlk (Nat.le_of_ble_eq_true rfl) (Nat.le_of_ble_eq_true rfl) (Nat.le_of_ble_eq_true rfl) (Nat.le_of_ble_eq_true rfl)
set_option maxHeartbeats 4000000 in
set_option maxRecDepth 100000 in
theorem fb_t_X1_sweeten_b2 (l : Launch) (hst9 : l.stackTraces = false) (G : va_G) (cI cL : ClassId) (x h h2 n o d f : Nat) (nf uf df tf : Nat → Int32) (w : Nat) (dy : Int32) (j : Nat) (hj : j < 12) (hv2 : (fb_rg uf) (j + 4) - fb_mj (fb_rg nf) (fb_rg uf) j 4 < (-50) ∨ 50 < (fb_rg uf) (j + 4) - fb_mj (fb_rg nf) (fb_rg uf) j 4) : fb_TI l yX1_sweeten wsX1_sweeten 8 200 [.ref x, .int (nI j)] (fb_PX G cI cL (fb_YW cI x h h2 n o d f nf uf df tf (nI w) dy)) fb_E3 := by
  refine fb_ti_of (cc := cX1_sweeten) (maxL := 3) (ret := (some .int)) (by decide) rfl (Nat.le_of_ble_eq_true rfl) ?_
  intro p e s m args below meth c hx hb hr hml hlk hts hown ht hB ls hl
  have hown : s.vm.findClass RX1 = some m.cls := hown
  obtain ⟨⟨hP, hK, hX⟩, hE⟩ := hB
  have hP : va_P G vwCl [(x, .inr (1, [.ref h, .ref h2])), (h, .inr (0, [.ref n, .ref o, .ref d, .ref f, .int (nI w), .int dy])), (n, .inl (cI, 12, .inl nf)), (o, .inl (cI, 12, .inl uf)), (d, .inl (cI, 12, .inl df)), (f, .inl (cI, 12, .inl tf))] s.heap := hP
  have hin0 : ∀ w ∈ u_ws RX0 TX0 6, w ∈ wsX1_sweeten := by decide +kernel
  have hin1 : ∀ w ∈ u_ws RX1 TX1 2, w ∈ wsX1_sweeten := by decide +kernel
  have hl : lv_has ls 3 [(0, .ref x), (1, .int (nI j))] := hl
  refine lv_iload_n hx hb dX1_sweeten_0 rfl (lv_at hl 1 rfl) ?_
  refine fb_rvS (As := [.int (nI j)]) (rest := []) (n := 1) ⟨hx, hb, hml, hown, hts⟩ (fb_c_X1_checkRing l j (hj)) gX1_sweeten_X1_checkRing rfl (by decide +kernel) (by decide) fb_Bl_T (fun _ _ _ => trivial) rfl hl.1 rfl (Nat.le_of_ble_eq_true rfl) dX1_sweeten_1 (by decide) ?_
  refine lv_aload_n hx hb dX1_sweeten_4 rfl (lv_at hl 0 rfl) ?_
  refine va_get (D := G) (ci := 1) (v := .ref h) (C := RX1) (T := TX1) (N := 2) hx hb hts (hin1) hown hK hP 0 rfl rfl 0 (by decide) (hts (.fieldLink RX1 10 "FifthBeats" "piano" "LFifthBeats$Piano;") (by decide +kernel)) (fun _ h9 => h9) rfl dX1_sweeten_5 ?_
  refine lv_iload_n hx hb dX1_sweeten_8 rfl (lv_at hl 1 rfl) ?_
  refine fb_roV (As := [.int (nI j)]) (rest := []) (n := 1) ⟨hx, hb, hml, hown, hts⟩ (fb_c_X0_offForPureMajor l G cI cL h n o d f nf uf df tf w dy j (by omega)) gX1_sweeten_X0_offForPureMajor rfl (by decide +kernel) (by decide) (fb_PB.bl _ _ _ _) (va_recv hK hP (ci := 0) (q0 := 1) rfl rfl) (fb_PB.to (hP.sub (ws' := [(h, .inr (0, [.ref n, .ref o, .ref d, .ref f, .int (nI w), .int dy])), (n, .inl (cI, 12, .inl nf)), (o, .inl (cI, 12, .inl uf)), (d, .inl (cI, 12, .inl df)), (f, .inl (cI, 12, .inl tf))]) [1, 2, 3, 4, 5] rfl) hK hX) rfl hl.1 rfl (Nat.le_of_ble_eq_true rfl) dX1_sweeten_9 (by decide) ?_
  refine lv_istore_n (lv' := [(2, .int ((fb_rg uf) (j + 4) - fb_mj (fb_rg nf) (fb_rg uf) j 4)), (0, .ref x), (1, .int (nI j))]) hx hb dX1_sweeten_12 rfl hl (by decide) rfl (fun ls hl => ?_)
  refine lv_iload_n hx hb dX1_sweeten_13 rfl (lv_at hl 0 rfl) ?_
  refine lv_bipush (v := (-50)) hx hb dX1_sweeten_14 (by decide) ?_
  refine lv_icmp_lt (tgt := 25) hx hb dX1_sweeten_16 (by decide) (fun c16 => ?_) (fun c16 => ?_)
  · skip
    obtain ⟨sa9, hs9⟩ := hE.2.1.2.2.2.2.2
    have hca9 : va_Nw (.castable fb_E3 fb_E3) s := hE.2.2.1.2.2
    have hg9 : ∀ w ∈ (vx_atS RX1 66 fb_E3 ["java/lang/RuntimeException", "java/lang/Exception"]).filter goodWord, w ∈ wsX1_sweeten := by decide +kernel
    exact fb_throw (rest := []) (E := fb_E3) (ik := 62) (is := 79) (ic := 66) hx hb hst9 hown (by decide +kernel) (by decide +kernel) (hts (.classLink RX1 62 fb_E3) (by decide +kernel)) (hts (.initialized fb_E3) (by decide +kernel)) hs9 (fun w h9 => hts w (hg9 w h9)) (by decide +kernel) hca9 (by decide +kernel) hE (hl.1.trans hml.symm) dX1_sweeten_25 dX1_sweeten_28 dX1_sweeten_29 dX1_sweeten_31 dX1_sweeten_34 ht hlk (Nat.le_of_ble_eq_true rfl) (Nat.le_of_ble_eq_true rfl) (Nat.le_of_ble_eq_true rfl) (Nat.le_of_ble_eq_true rfl)
  · skip
    refine lv_iload_n hx hb dX1_sweeten_19 rfl (lv_at hl 0 rfl) ?_
    refine lv_bipush (v := 50) hx hb dX1_sweeten_20 (by decide) ?_
    refine lv_icmp_le (tgt := 35) hx hb dX1_sweeten_22 (by decide) (fun c22 => ?_) (fun c22 => ?_)
    · skip
      exact absurd c22 (Int32.not_le.mpr (hv2.resolve_left c16))
    · skip
      obtain ⟨sa9, hs9⟩ := hE.2.1.2.2.2.2.2
      have hca9 : va_Nw (.castable fb_E3 fb_E3) s := hE.2.2.1.2.2
      have hg9 : ∀ w ∈ (vx_atS RX1 66 fb_E3 ["java/lang/RuntimeException", "java/lang/Exception"]).filter goodWord, w ∈ wsX1_sweeten := by decide +kernel
      exact fb_throw (rest := []) (E := fb_E3) (ik := 62) (is := 79) (ic := 66) hx hb hst9 hown (by decide +kernel) (by decide +kernel) (hts (.classLink RX1 62 fb_E3) (by decide +kernel)) (hts (.initialized fb_E3) (by decide +kernel)) hs9 (fun w h9 => hts w (hg9 w h9)) (by decide +kernel) hca9 (by decide +kernel) hE (hl.1.trans hml.symm) dX1_sweeten_25 dX1_sweeten_28 dX1_sweeten_29 dX1_sweeten_31 dX1_sweeten_34 ht hlk (Nat.le_of_ble_eq_true rfl) (Nat.le_of_ble_eq_true rfl) (Nat.le_of_ble_eq_true rfl) (Nat.le_of_ble_eq_true rfl)
