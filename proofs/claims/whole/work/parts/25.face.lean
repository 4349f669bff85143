set_option maxHeartbeats 4000000 in
set_option maxRecDepth 100000 in
theorem fb_c_X1_checkRing (l : Launch) (j : Nat) (hj : j < 12) : fb_RV l yX1_checkRing wsX1_checkRing 0 0 [.int (nI j)] (fun _ => True) := by
  refine fb_rv_of (cc := cX1_checkRing) (maxL := 1) (ret := none) (by decide) rfl (Nat.le_of_ble_eq_true rfl) ?_
  intro p e s m args below meth c hx hb hr hml hlk hts hown hB ls hl
  have hown : s.vm.findClass RX1 = some m.cls := hown
  have hl : lv_has ls 1 [(0, .int (nI j))] := hl
  refine lv_iload_n hx hb dX1_checkRing_0 rfl (lv_at hl 0 rfl) ?_
  refine lv_if_lt (tgt := 10) hx hb dX1_checkRing_1 (by decide) (fun c1 => ?_) (fun c1 => ?_)
  · skip
    exact absurd c1 (nI_pos (by omega))
  · skip
    refine lv_iload_n hx hb dX1_checkRing_4 rfl (lv_at hl 0 rfl) ?_
    refine lv_bipush (v := 12) hx hb dX1_checkRing_5 (by decide) ?_
    refine lv_icmp_lt (tgt := 20) hx hb dX1_checkRing_7 (by decide) (fun c7 => ?_) (fun c7 => ?_)
    · skip
      exact fb_vret hx hb hr hlk dX1_checkRing_20
    · skip
      exact absurd (show nI j < 12 from nI_lt hj (by decide)) c7
set_option maxHeartbeats 4000000 in
set_option maxRecDepth 100000 in
theorem fb_c_X1_checkWhat (l : Launch) (v a z : Int32) (hh : ¬ v < a ∧ v < z) : fb_RV l yX1_checkWhat wsX1_checkWhat 0 0 [.int v, .int a, .int z] (fun _ => True) := by
  refine fb_rv_of (cc := cX1_checkWhat) (maxL := 3) (ret := none) (by decide) rfl (Nat.le_of_ble_eq_true rfl) ?_
  intro p e s m args below meth c hx hb hr hml hlk hts hown hB ls hl
  have hown : s.vm.findClass RX1 = some m.cls := hown
  have hl : lv_has ls 3 [(0, .int v), (1, .int a), (2, .int z)] := hl
  refine lv_iload_n hx hb dX1_checkWhat_0 rfl (lv_at hl 0 rfl) ?_
  refine lv_iload_n hx hb dX1_checkWhat_1 rfl (lv_at hl 1 rfl) ?_
  refine lv_icmp_lt (tgt := 10) hx hb dX1_checkWhat_2 (by decide) (fun c2 => ?_) (fun c2 => ?_)
  · skip
    exact absurd c2 hh.1
  · skip
    refine lv_iload_n hx hb dX1_checkWhat_5 rfl (lv_at hl 0 rfl) ?_
    refine lv_iload_n hx hb dX1_checkWhat_6 rfl (lv_at hl 2 rfl) ?_
    refine lv_icmp_lt (tgt := 20) hx hb dX1_checkWhat_7 (by decide) (fun c7 => ?_) (fun c7 => ?_)
    · skip
      exact fb_vret hx hb hr hlk dX1_checkWhat_20
    · skip
      exact absurd hh.2 c7
set_option maxHeartbeats 4000000 in
set_option maxRecDepth 100000 in
theorem fb_c_X1_checkArgument (l : Launch) (v a z : Int32) (hh : ¬ v < a ∧ v ≤ z) : fb_RV l yX1_checkArgument wsX1_checkArgument 0 0 [.int v, .int a, .int z] (fun _ => True) := by
  refine fb_rv_of (cc := cX1_checkArgument) (maxL := 3) (ret := none) (by decide) rfl (Nat.le_of_ble_eq_true rfl) ?_
  intro p e s m args below meth c hx hb hr hml hlk hts hown hB ls hl
  have hown : s.vm.findClass RX1 = some m.cls := hown
  have hl : lv_has ls 3 [(0, .int v), (1, .int a), (2, .int z)] := hl
  refine lv_iload_n hx hb dX1_checkArgument_0 rfl (lv_at hl 0 rfl) ?_
  refine lv_iload_n hx hb dX1_checkArgument_1 rfl (lv_at hl 1 rfl) ?_
  refine lv_icmp_lt (tgt := 10) hx hb dX1_checkArgument_2 (by decide) (fun c2 => ?_) (fun c2 => ?_)
  · skip
    exact absurd c2 hh.1
  · skip
    refine lv_iload_n hx hb dX1_checkArgument_5 rfl (lv_at hl 0 rfl) ?_
    refine lv_iload_n hx hb dX1_checkArgument_6 rfl (lv_at hl 2 rfl) ?_
    refine lv_icmp_le (tgt := 20) hx hb dX1_checkArgument_7 (by decide) (fun c7 => ?_) (fun c7 => ?_)
    · skip
      exact fb_vret hx hb hr hlk dX1_checkArgument_20
    · skip
      exact absurd hh.2 c7
set_option maxHeartbeats 4000000 in
set_option maxRecDepth 100000 in
theorem fb_c_X1_checkNotWolf (l : Launch) (G : va_G) (cI cL : ClassId) (x h h2 n o d f : Nat) (nf uf df tf : Nat → Int32) (w : Nat) (dy : Int32) (j : Nat) (hj : j < 12) (hw : w < 12) (hjw : ¬ j = w) : fb_RV l yX1_checkNotWolf wsX1_checkNotWolf 0 0 [.ref x, .int (nI j)] (fb_PB G cI cL (fb_YW cI x h h2 n o d f nf uf df tf (nI w) dy)) := by
  refine fb_rv_of (cc := cX1_checkNotWolf) (maxL := 2) (ret := none) (by decide) rfl (Nat.le_of_ble_eq_true rfl) ?_
  intro p e s m args below meth c hx hb hr hml hlk hts hown hB ls hl
  have hown : s.vm.findClass RX1 = some m.cls := hown
  obtain ⟨hP, hK, hX⟩ := hB
  have hP : va_P G vwCl [(x, .inr (1, [.ref h, .ref h2])), (h, .inr (0, [.ref n, .ref o, .ref d, .ref f, .int (nI w), .int dy])), (n, .inl (cI, 12, .inl nf)), (o, .inl (cI, 12, .inl uf)), (d, .inl (cI, 12, .inl df)), (f, .inl (cI, 12, .inl tf))] s.heap := hP
  have hin0 : ∀ w ∈ u_ws RX0 TX0 6, w ∈ wsX1_checkNotWolf := by decide +kernel
  have hin1 : ∀ w ∈ u_ws RX1 TX1 2, w ∈ wsX1_checkNotWolf := by decide +kernel
  have hl : lv_has ls 2 [(0, .ref x), (1, .int (nI j))] := hl
  refine lv_iload_n hx hb dX1_checkNotWolf_0 rfl (lv_at hl 1 rfl) ?_
  refine lv_aload_n hx hb dX1_checkNotWolf_1 rfl (lv_at hl 0 rfl) ?_
  refine va_get (D := G) (ci := 1) (v := .ref h) (C := RX1) (T := TX1) (N := 2) hx hb hts (hin1) hown hK hP 0 rfl rfl 0 (by decide) (hts (.fieldLink RX1 10 "FifthBeats" "piano" "LFifthBeats$Piano;") (by decide +kernel)) (fun _ h9 => h9) rfl dX1_checkNotWolf_2 ?_
  refine va_get (D := G) (ci := 0) (v := .int (nI w)) (C := RX0) (T := TX0) (N := 6) hx hb hts (hin0) hown hK hP 1 rfl rfl 4 (by decide) (hts (.fieldLink RX1 38 "FifthBeats$Piano" "wolf" "I") (by decide +kernel)) (fun _ h9 => h9) rfl dX1_checkNotWolf_5 ?_
  refine lv_icmp_ne (tgt := 21) hx hb dX1_checkNotWolf_8 (by decide) (fun c8 => ?_) (fun c8 => ?_)
  · skip
    exact fb_vret hx hb hr hlk dX1_checkNotWolf_21
  · skip
    exact absurd ((nI_eq (by omega) (by omega)).mp c8) hjw
set_option maxHeartbeats 4000000 in
set_option maxRecDepth 100000 in
theorem fb_c_X1_fifth (l : Launch) (G : va_G) (cI cL : ClassId) (x h h2 n o d f : Nat) (nf uf df tf : Nat → Int32) (w : Nat) (dy : Int32) (j : Nat) (q : Nat) (hj : j < 12) (hq : q < 5) (hw : w < 12) : fb_RO l yX1_fifth wsX1_fifth 5 108 [.ref x, .int (nI j), .int (nI q)] (fb_PB G cI cL (fb_YW cI x h h2 n o d f nf uf df tf (nI w) dy)) (.int (fb_tF (fb_rg nf) (fb_rg uf) w j q)) := by
  refine fb_ro_of (cc := cX1_fifth) (maxL := 3) (ret := (some .int)) (by decide) rfl (Nat.le_of_ble_eq_true rfl) ?_
  intro p e s m args below meth c hx hb hr hml hlk hts hown hB ls hl
  have hown : s.vm.findClass RX1 = some m.cls := hown
  obtain ⟨hP, hK, hX⟩ := hB
  have hP : va_P G vwCl [(x, .inr (1, [.ref h, .ref h2])), (h, .inr (0, [.ref n, .ref o, .ref d, .ref f, .int (nI w), .int dy])), (n, .inl (cI, 12, .inl nf)), (o, .inl (cI, 12, .inl uf)), (d, .inl (cI, 12, .inl df)), (f, .inl (cI, 12, .inl tf))] s.heap := hP
  have hl : lv_has ls 3 [(0, .ref x), (1, .int (nI j)), (2, .int (nI q))] := hl
  have hin0 : ∀ w ∈ u_ws RX0 TX0 6, w ∈ wsX1_fifth := by decide +kernel
  have hin1 : ∀ w ∈ u_ws RX1 TX1 2, w ∈ wsX1_fifth := by decide +kernel
  refine lv_iload_n hx hb dX1_fifth_0 rfl (lv_at hl 1 rfl) ?_
  refine fb_rvS (As := [.int (nI j)]) (rest := []) (n := 1) ⟨hx, hb, hml, hown, hts⟩ (fb_c_X1_checkRing l j (hj)) gX1_fifth_X1_checkRing rfl (by decide +kernel) (by decide) fb_Bl_T (fun _ _ _ => trivial) rfl hl.1 rfl (Nat.le_of_ble_eq_true rfl) dX1_fifth_1 (by decide) ?_
  refine lv_iload_n hx hb dX1_fifth_4 rfl (lv_at hl 2 rfl) ?_
  refine lv_iconst (v := 0) hx hb dX1_fifth_5 (by decide) ?_
  refine lv_iconst (v := 5) hx hb dX1_fifth_6 (by decide) ?_
  refine fb_rvS (As := [.int (nI q), .int 0, .int 5]) (rest := []) (n := 3) ⟨hx, hb, hml, hown, hts⟩ (fb_c_X1_checkWhat l (nI q) 0 5 (fb_w0 hq (by decide))) gX1_fifth_X1_checkWhat rfl (by decide +kernel) (by decide) fb_Bl_T (fun _ _ _ => trivial) rfl hl.1 rfl (Nat.le_of_ble_eq_true rfl) dX1_fifth_7 (by decide) ?_
  refine lv_aload_n hx hb dX1_fifth_10 rfl (lv_at hl 0 rfl) ?_
  refine va_get (D := G) (ci := 1) (v := .ref h) (C := RX1) (T := TX1) (N := 2) hx hb hts (hin1) hown hK hP 0 rfl rfl 0 (by decide) (hts (.fieldLink RX1 10 "FifthBeats" "piano" "LFifthBeats$Piano;") (by decide +kernel)) (fun _ h9 => h9) rfl dX1_fifth_11 ?_
  refine lv_iload_n hx hb dX1_fifth_14 rfl (lv_at hl 1 rfl) ?_
  refine lv_iload_n hx hb dX1_fifth_15 rfl (lv_at hl 2 rfl) ?_
  refine fb_roV (As := [.int (nI j), .int (nI q)]) (rest := []) (n := 2) ⟨hx, hb, hml, hown, hts⟩ (fb_c_X0_tellFifth l G cI cL h n o d f nf uf df tf w dy j q hj hq hw) gX1_fifth_X0_tellFifth rfl (by decide +kernel) (by decide) (fb_PB.bl _ _ _ _) (va_recv hK hP (ci := 0) (q0 := 1) rfl rfl) (fb_PB.to (hP.sub (ws' := [(h, .inr (0, [.ref n, .ref o, .ref d, .ref f, .int (nI w), .int dy])), (n, .inl (cI, 12, .inl nf)), (o, .inl (cI, 12, .inl uf)), (d, .inl (cI, 12, .inl df)), (f, .inl (cI, 12, .inl tf))]) [1, 2, 3, 4, 5] rfl) hK hX) rfl hl.1 rfl (Nat.le_of_ble_eq_true rfl) dX1_fifth_16 (by decide) ?_
  exact fb_iret hx hb hr hlk dX1_fifth_19 (rfl)
set_option maxHeartbeats 4000000 in
set_option maxRecDepth 100000 in
theorem fb_c_X1_major (l : Launch) (G : va_G) (cI cL : ClassId) (x h h2 n o d f : Nat) (nf uf df tf : Nat → Int32) (w : Nat) (dy : Int32) (j : Nat) (q : Nat) (hj : j < 12) (hq : q < 3) (hw : w < 12) : fb_RO l yX1_major wsX1_major 5 111 [.ref x, .int (nI j), .int (nI q)] (fb_PB G cI cL (fb_YW cI x h h2 n o d f nf uf df tf (nI w) dy)) (.int (fb_tM (fb_rg nf) (fb_rg uf) j q)) := by
  refine fb_ro_of (cc := cX1_major) (maxL := 3) (ret := (some .int)) (by decide) rfl (Nat.le_of_ble_eq_true rfl) ?_
  intro p e s m args below meth c hx hb hr hml hlk hts hown hB ls hl
  have hown : s.vm.findClass RX1 = some m.cls := hown
  obtain ⟨hP, hK, hX⟩ := hB
  have hP : va_P G vwCl [(x, .inr (1, [.ref h, .ref h2])), (h, .inr (0, [.ref n, .ref o, .ref d, .ref f, .int (nI w), .int dy])), (n, .inl (cI, 12, .inl nf)), (o, .inl (cI, 12, .inl uf)), (d, .inl (cI, 12, .inl df)), (f, .inl (cI, 12, .inl tf))] s.heap := hP
  have hl : lv_has ls 3 [(0, .ref x), (1, .int (nI j)), (2, .int (nI q))] := hl
  have hin0 : ∀ w ∈ u_ws RX0 TX0 6, w ∈ wsX1_major := by decide +kernel
  have hin1 : ∀ w ∈ u_ws RX1 TX1 2, w ∈ wsX1_major := by decide +kernel
  refine lv_iload_n hx hb dX1_major_0 rfl (lv_at hl 1 rfl) ?_
  refine fb_rvS (As := [.int (nI j)]) (rest := []) (n := 1) ⟨hx, hb, hml, hown, hts⟩ (fb_c_X1_checkRing l j (hj)) gX1_major_X1_checkRing rfl (by decide +kernel) (by decide) fb_Bl_T (fun _ _ _ => trivial) rfl hl.1 rfl (Nat.le_of_ble_eq_true rfl) dX1_major_1 (by decide) ?_
  refine lv_iload_n hx hb dX1_major_4 rfl (lv_at hl 2 rfl) ?_
  refine lv_iconst (v := 0) hx hb dX1_major_5 (by decide) ?_
  refine lv_iconst (v := 3) hx hb dX1_major_6 (by decide) ?_
  refine fb_rvS (As := [.int (nI q), .int 0, .int 3]) (rest := []) (n := 3) ⟨hx, hb, hml, hown, hts⟩ (fb_c_X1_checkWhat l (nI q) 0 3 (fb_w0 hq (by decide))) gX1_major_X1_checkWhat rfl (by decide +kernel) (by decide) fb_Bl_T (fun _ _ _ => trivial) rfl hl.1 rfl (Nat.le_of_ble_eq_true rfl) dX1_major_7 (by decide) ?_
  refine lv_aload_n hx hb dX1_major_10 rfl (lv_at hl 0 rfl) ?_
  refine va_get (D := G) (ci := 1) (v := .ref h) (C := RX1) (T := TX1) (N := 2) hx hb hts (hin1) hown hK hP 0 rfl rfl 0 (by decide) (hts (.fieldLink RX1 10 "FifthBeats" "piano" "LFifthBeats$Piano;") (by decide +kernel)) (fun _ h9 => h9) rfl dX1_major_11 ?_
  refine lv_iload_n hx hb dX1_major_14 rfl (lv_at hl 1 rfl) ?_
  refine lv_iload_n hx hb dX1_major_15 rfl (lv_at hl 2 rfl) ?_
  refine fb_roV (As := [.int (nI j), .int (nI q)]) (rest := []) (n := 2) ⟨hx, hb, hml, hown, hts⟩ (fb_c_X0_tellMajor l G cI cL h n o d f nf uf df tf w dy j q hj hq) gX1_major_X0_tellMajor rfl (by decide +kernel) (by decide) (fb_PB.bl _ _ _ _) (va_recv hK hP (ci := 0) (q0 := 1) rfl rfl) (fb_PB.to (hP.sub (ws' := [(h, .inr (0, [.ref n, .ref o, .ref d, .ref f, .int (nI w), .int dy])), (n, .inl (cI, 12, .inl nf)), (o, .inl (cI, 12, .inl uf)), (d, .inl (cI, 12, .inl df)), (f, .inl (cI, 12, .inl tf))]) [1, 2, 3, 4, 5] rfl) hK hX) rfl hl.1 rfl (Nat.le_of_ble_eq_true rfl) dX1_major_16 (by decide) ?_
  exact fb_iret hx hb hr hlk dX1_major_19 (rfl)
set_option maxHeartbeats 4000000 in
set_option maxRecDepth 100000 in
theorem fb_c_X1_minor (l : Launch) (G : va_G) (cI cL : ClassId) (x h h2 n o d f : Nat) (nf uf df tf : Nat → Int32) (w : Nat) (dy : Int32) (j : Nat) (q : Nat) (hj : j < 12) (hq : q < 2) (hw : w < 12) : fb_RO l yX1_minor wsX1_minor 4 91 [.ref x, .int (nI j), .int (nI q)] (fb_PB G cI cL (fb_YW cI x h h2 n o d f nf uf df tf (nI w) dy)) (.int (fb_tI (fb_rg nf) (fb_rg uf) j q)) := by
  refine fb_ro_of (cc := cX1_minor) (maxL := 3) (ret := (some .int)) (by decide) rfl (Nat.le_of_ble_eq_true rfl) ?_
  intro p e s m args below meth c hx hb hr hml hlk hts hown hB ls hl
  have hown : s.vm.findClass RX1 = some m.cls := hown
  obtain ⟨hP, hK, hX⟩ := hB
  have hP : va_P G vwCl [(x, .inr (1, [.ref h, .ref h2])), (h, .inr (0, [.ref n, .ref o, .ref d, .ref f, .int (nI w), .int dy])), (n, .inl (cI, 12, .inl nf)), (o, .inl (cI, 12, .inl uf)), (d, .inl (cI, 12, .inl df)), (f, .inl (cI, 12, .inl tf))] s.heap := hP
  have hl : lv_has ls 3 [(0, .ref x), (1, .int (nI j)), (2, .int (nI q))] := hl
  have hin0 : ∀ w ∈ u_ws RX0 TX0 6, w ∈ wsX1_minor := by decide +kernel
  have hin1 : ∀ w ∈ u_ws RX1 TX1 2, w ∈ wsX1_minor := by decide +kernel
  refine lv_iload_n hx hb dX1_minor_0 rfl (lv_at hl 1 rfl) ?_
  refine fb_rvS (As := [.int (nI j)]) (rest := []) (n := 1) ⟨hx, hb, hml, hown, hts⟩ (fb_c_X1_checkRing l j (hj)) gX1_minor_X1_checkRing rfl (by decide +kernel) (by decide) fb_Bl_T (fun _ _ _ => trivial) rfl hl.1 rfl (Nat.le_of_ble_eq_true rfl) dX1_minor_1 (by decide) ?_
  refine lv_iload_n hx hb dX1_minor_4 rfl (lv_at hl 2 rfl) ?_
  refine lv_iconst (v := 0) hx hb dX1_minor_5 (by decide) ?_
  refine lv_iconst (v := 2) hx hb dX1_minor_6 (by decide) ?_
  refine fb_rvS (As := [.int (nI q), .int 0, .int 2]) (rest := []) (n := 3) ⟨hx, hb, hml, hown, hts⟩ (fb_c_X1_checkWhat l (nI q) 0 2 (fb_w0 hq (by decide))) gX1_minor_X1_checkWhat rfl (by decide +kernel) (by decide) fb_Bl_T (fun _ _ _ => trivial) rfl hl.1 rfl (Nat.le_of_ble_eq_true rfl) dX1_minor_7 (by decide) ?_
  refine lv_aload_n hx hb dX1_minor_10 rfl (lv_at hl 0 rfl) ?_
  refine va_get (D := G) (ci := 1) (v := .ref h) (C := RX1) (T := TX1) (N := 2) hx hb hts (hin1) hown hK hP 0 rfl rfl 0 (by decide) (hts (.fieldLink RX1 10 "FifthBeats" "piano" "LFifthBeats$Piano;") (by decide +kernel)) (fun _ h9 => h9) rfl dX1_minor_11 ?_
  refine lv_iload_n hx hb dX1_minor_14 rfl (lv_at hl 1 rfl) ?_
  refine lv_iload_n hx hb dX1_minor_15 rfl (lv_at hl 2 rfl) ?_
  refine fb_roV (As := [.int (nI j), .int (nI q)]) (rest := []) (n := 2) ⟨hx, hb, hml, hown, hts⟩ (fb_c_X0_tellMinor l G cI cL h n o d f nf uf df tf w dy j q hj hq) gX1_minor_X0_tellMinor rfl (by decide +kernel) (by decide) (fb_PB.bl _ _ _ _) (va_recv hK hP (ci := 0) (q0 := 1) rfl rfl) (fb_PB.to (hP.sub (ws' := [(h, .inr (0, [.ref n, .ref o, .ref d, .ref f, .int (nI w), .int dy])), (n, .inl (cI, 12, .inl nf)), (o, .inl (cI, 12, .inl uf)), (d, .inl (cI, 12, .inl df)), (f, .inl (cI, 12, .inl tf))]) [1, 2, 3, 4, 5] rfl) hK hX) rfl hl.1 rfl (Nat.le_of_ble_eq_true rfl) dX1_minor_16 (by decide) ?_
  exact fb_iret hx hb hr hlk dX1_minor_19 (rfl)
set_option maxHeartbeats 4000000 in
set_option maxRecDepth 100000 in
theorem fb_c_X1_note (l : Launch) (G : va_G) (cI cL : ClassId) (x h h2 n o d f : Nat) (nf uf df tf : Nat → Int32) (w : Nat) (dy : Int32) (j : Nat) (q : Nat) (hj : j < 12) (hq : q < 5) (hw : w < 12) : fb_RO l yX1_note wsX1_note 5 112 [.ref x, .int (nI j), .int (nI q)] (fb_PB G cI cL (fb_YW cI x h h2 n o d f nf uf df tf (nI w) dy)) (.int (fb_tN (fb_rg nf) (fb_rg uf) (fb_rg df) j q)) := by
  refine fb_ro_of (cc := cX1_note) (maxL := 3) (ret := (some .int)) (by decide) rfl (Nat.le_of_ble_eq_true rfl) ?_
  intro p e s m args below meth c hx hb hr hml hlk hts hown hB ls hl
  have hown : s.vm.findClass RX1 = some m.cls := hown
  obtain ⟨hP, hK, hX⟩ := hB
  have hP : va_P G vwCl [(x, .inr (1, [.ref h, .ref h2])), (h, .inr (0, [.ref n, .ref o, .ref d, .ref f, .int (nI w), .int dy])), (n, .inl (cI, 12, .inl nf)), (o, .inl (cI, 12, .inl uf)), (d, .inl (cI, 12, .inl df)), (f, .inl (cI, 12, .inl tf))] s.heap := hP
  have hl : lv_has ls 3 [(0, .ref x), (1, .int (nI j)), (2, .int (nI q))] := hl
  have hin0 : ∀ w ∈ u_ws RX0 TX0 6, w ∈ wsX1_note := by decide +kernel
  have hin1 : ∀ w ∈ u_ws RX1 TX1 2, w ∈ wsX1_note := by decide +kernel
  refine lv_iload_n hx hb dX1_note_0 rfl (lv_at hl 1 rfl) ?_
  refine fb_rvS (As := [.int (nI j)]) (rest := []) (n := 1) ⟨hx, hb, hml, hown, hts⟩ (fb_c_X1_checkRing l j (hj)) gX1_note_X1_checkRing rfl (by decide +kernel) (by decide) fb_Bl_T (fun _ _ _ => trivial) rfl hl.1 rfl (Nat.le_of_ble_eq_true rfl) dX1_note_1 (by decide) ?_
  refine lv_iload_n hx hb dX1_note_4 rfl (lv_at hl 2 rfl) ?_
  refine lv_iconst (v := 0) hx hb dX1_note_5 (by decide) ?_
  refine lv_iconst (v := 5) hx hb dX1_note_6 (by decide) ?_
  refine fb_rvS (As := [.int (nI q), .int 0, .int 5]) (rest := []) (n := 3) ⟨hx, hb, hml, hown, hts⟩ (fb_c_X1_checkWhat l (nI q) 0 5 (fb_w0 hq (by decide))) gX1_note_X1_checkWhat rfl (by decide +kernel) (by decide) fb_Bl_T (fun _ _ _ => trivial) rfl hl.1 rfl (Nat.le_of_ble_eq_true rfl) dX1_note_7 (by decide) ?_
  refine lv_aload_n hx hb dX1_note_10 rfl (lv_at hl 0 rfl) ?_
  refine va_get (D := G) (ci := 1) (v := .ref h) (C := RX1) (T := TX1) (N := 2) hx hb hts (hin1) hown hK hP 0 rfl rfl 0 (by decide) (hts (.fieldLink RX1 10 "FifthBeats" "piano" "LFifthBeats$Piano;") (by decide +kernel)) (fun _ h9 => h9) rfl dX1_note_11 ?_
  refine lv_iload_n hx hb dX1_note_14 rfl (lv_at hl 1 rfl) ?_
  refine lv_iload_n hx hb dX1_note_15 rfl (lv_at hl 2 rfl) ?_
  refine fb_roV (As := [.int (nI j), .int (nI q)]) (rest := []) (n := 2) ⟨hx, hb, hml, hown, hts⟩ (fb_c_X0_tellNote l G cI cL h n o d f nf uf df tf w dy j q hj hq) gX1_note_X0_tellNote rfl (by decide +kernel) (by decide) (fb_PB.bl _ _ _ _) (va_recv hK hP (ci := 0) (q0 := 1) rfl rfl) (fb_PB.to (hP.sub (ws' := [(h, .inr (0, [.ref n, .ref o, .ref d, .ref f, .int (nI w), .int dy])), (n, .inl (cI, 12, .inl nf)), (o, .inl (cI, 12, .inl uf)), (d, .inl (cI, 12, .inl df)), (f, .inl (cI, 12, .inl tf))]) [1, 2, 3, 4, 5] rfl) hK hX) rfl hl.1 rfl (Nat.le_of_ble_eq_true rfl) dX1_note_16 (by decide) ?_
  exact fb_iret hx hb hr hlk dX1_note_19 (rfl)
set_option maxHeartbeats 4000000 in
set_option maxRecDepth 100000 in
theorem fb_c_X1_key (l : Launch) (G : va_G) (cI cL : ClassId) (x h h2 n o d f : Nat) (nf uf df tf : Nat → Int32) (w : Nat) (dy : Int32) (j : Nat) (q : Nat) (hj : j < 12) (hq : q < 4) (hw : w < 12) : fb_RO l yX1_key wsX1_key 6 137 [.ref x, .int (nI j), .int (nI q)] (fb_PB G cI cL (fb_YW cI x h h2 n o d f nf uf df tf (nI w) dy)) (.int (fb_tK (fb_rg nf) (fb_rg uf) (fb_rg tf) j q)) := by
  refine fb_ro_of (cc := cX1_key) (maxL := 3) (ret := (some .int)) (by decide) rfl (Nat.le_of_ble_eq_true rfl) ?_
  intro p e s m args below meth c hx hb hr hml hlk hts hown hB ls hl
  have hown : s.vm.findClass RX1 = some m.cls := hown
  obtain ⟨hP, hK, hX⟩ := hB
  have hP : va_P G vwCl [(x, .inr (1, [.ref h, .ref h2])), (h, .inr (0, [.ref n, .ref o, .ref d, .ref f, .int (nI w), .int dy])), (n, .inl (cI, 12, .inl nf)), (o, .inl (cI, 12, .inl uf)), (d, .inl (cI, 12, .inl df)), (f, .inl (cI, 12, .inl tf))] s.heap := hP
  have hl : lv_has ls 3 [(0, .ref x), (1, .int (nI j)), (2, .int (nI q))] := hl
  have hin0 : ∀ w ∈ u_ws RX0 TX0 6, w ∈ wsX1_key := by decide +kernel
  have hin1 : ∀ w ∈ u_ws RX1 TX1 2, w ∈ wsX1_key := by decide +kernel
  refine lv_iload_n hx hb dX1_key_0 rfl (lv_at hl 1 rfl) ?_
  refine fb_rvS (As := [.int (nI j)]) (rest := []) (n := 1) ⟨hx, hb, hml, hown, hts⟩ (fb_c_X1_checkRing l j (hj)) gX1_key_X1_checkRing rfl (by decide +kernel) (by decide) fb_Bl_T (fun _ _ _ => trivial) rfl hl.1 rfl (Nat.le_of_ble_eq_true rfl) dX1_key_1 (by decide) ?_
  refine lv_iload_n hx hb dX1_key_4 rfl (lv_at hl 2 rfl) ?_
  refine lv_iconst (v := 0) hx hb dX1_key_5 (by decide) ?_
  refine lv_iconst (v := 4) hx hb dX1_key_6 (by decide) ?_
  refine fb_rvS (As := [.int (nI q), .int 0, .int 4]) (rest := []) (n := 3) ⟨hx, hb, hml, hown, hts⟩ (fb_c_X1_checkWhat l (nI q) 0 4 (fb_w0 hq (by decide))) gX1_key_X1_checkWhat rfl (by decide +kernel) (by decide) fb_Bl_T (fun _ _ _ => trivial) rfl hl.1 rfl (Nat.le_of_ble_eq_true rfl) dX1_key_7 (by decide) ?_
  refine lv_aload_n hx hb dX1_key_10 rfl (lv_at hl 0 rfl) ?_
  refine va_get (D := G) (ci := 1) (v := .ref h) (C := RX1) (T := TX1) (N := 2) hx hb hts (hin1) hown hK hP 0 rfl rfl 0 (by decide) (hts (.fieldLink RX1 10 "FifthBeats" "piano" "LFifthBeats$Piano;") (by decide +kernel)) (fun _ h9 => h9) rfl dX1_key_11 ?_
  refine lv_iload_n hx hb dX1_key_14 rfl (lv_at hl 1 rfl) ?_
  refine lv_iload_n hx hb dX1_key_15 rfl (lv_at hl 2 rfl) ?_
  refine fb_roV (As := [.int (nI j), .int (nI q)]) (rest := []) (n := 2) ⟨hx, hb, hml, hown, hts⟩ (fb_c_X0_tellKey l G cI cL h n o d f nf uf df tf w dy j q hj hq) gX1_key_X0_tellKey rfl (by decide +kernel) (by decide) (fb_PB.bl _ _ _ _) (va_recv hK hP (ci := 0) (q0 := 1) rfl rfl) (fb_PB.to (hP.sub (ws' := [(h, .inr (0, [.ref n, .ref o, .ref d, .ref f, .int (nI w), .int dy])), (n, .inl (cI, 12, .inl nf)), (o, .inl (cI, 12, .inl uf)), (d, .inl (cI, 12, .inl df)), (f, .inl (cI, 12, .inl tf))]) [1, 2, 3, 4, 5] rfl) hK hX) rfl hl.1 rfl (Nat.le_of_ble_eq_true rfl) dX1_key_16 (by decide) ?_
  exact fb_iret hx hb hr hlk dX1_key_19 (rfl)
set_option maxHeartbeats 4000000 in
set_option maxRecDepth 100000 in
theorem fb_c_X1_count (l : Launch) (G : va_G) (cI cL : ClassId) (x h h2 n o d f : Nat) (nf uf df tf : Nat → Int32) (w : Nat) (dy : Int32) (q : Nat) (hq : q < 7) (hw : w < 12) : fb_RO l yX1_count wsX1_count 6 132 [.ref x, .int (nI q)] (fb_PB G cI cL (fb_YW cI x h h2 n o d f nf uf df tf (nI w) dy)) (.int (fb_tC (fb_rg nf) (fb_rg uf) (fb_rg tf) w dy q)) := by
  refine fb_ro_of (cc := cX1_count) (maxL := 2) (ret := (some .int)) (by decide) rfl (Nat.le_of_ble_eq_true rfl) ?_
  intro p e s m args below meth c hx hb hr hml hlk hts hown hB ls hl
  have hown : s.vm.findClass RX1 = some m.cls := hown
  obtain ⟨hP, hK, hX⟩ := hB
  have hP : va_P G vwCl [(x, .inr (1, [.ref h, .ref h2])), (h, .inr (0, [.ref n, .ref o, .ref d, .ref f, .int (nI w), .int dy])), (n, .inl (cI, 12, .inl nf)), (o, .inl (cI, 12, .inl uf)), (d, .inl (cI, 12, .inl df)), (f, .inl (cI, 12, .inl tf))] s.heap := hP
  have hl : lv_has ls 2 [(0, .ref x), (1, .int (nI q))] := hl
  have hin0 : ∀ w ∈ u_ws RX0 TX0 6, w ∈ wsX1_count := by decide +kernel
  have hin1 : ∀ w ∈ u_ws RX1 TX1 2, w ∈ wsX1_count := by decide +kernel
  refine lv_iload_n hx hb dX1_count_0 rfl (lv_at hl 1 rfl) ?_
  refine lv_iconst (v := 0) hx hb dX1_count_1 (by decide) ?_
  refine lv_bipush (v := 7) hx hb dX1_count_2 (by decide) ?_
  refine fb_rvS (As := [.int (nI q), .int 0, .int 7]) (rest := []) (n := 3) ⟨hx, hb, hml, hown, hts⟩ (fb_c_X1_checkWhat l (nI q) 0 7 (fb_w0 hq (by decide))) gX1_count_X1_checkWhat rfl (by decide +kernel) (by decide) fb_Bl_T (fun _ _ _ => trivial) rfl hl.1 rfl (Nat.le_of_ble_eq_true rfl) dX1_count_4 (by decide) ?_
  refine lv_aload_n hx hb dX1_count_7 rfl (lv_at hl 0 rfl) ?_
  refine va_get (D := G) (ci := 1) (v := .ref h) (C := RX1) (T := TX1) (N := 2) hx hb hts (hin1) hown hK hP 0 rfl rfl 0 (by decide) (hts (.fieldLink RX1 10 "FifthBeats" "piano" "LFifthBeats$Piano;") (by decide +kernel)) (fun _ h9 => h9) rfl dX1_count_8 ?_
  refine lv_iload_n hx hb dX1_count_11 rfl (lv_at hl 1 rfl) ?_
  refine fb_roV (As := [.int (nI q)]) (rest := []) (n := 1) ⟨hx, hb, hml, hown, hts⟩ (fb_c_X0_tellCount l G cI cL h n o d f nf uf df tf w dy q hq hw) gX1_count_X0_tellCount rfl (by decide +kernel) (by decide) (fb_PB.bl _ _ _ _) (va_recv hK hP (ci := 0) (q0 := 1) rfl rfl) (fb_PB.to (hP.sub (ws' := [(h, .inr (0, [.ref n, .ref o, .ref d, .ref f, .int (nI w), .int dy])), (n, .inl (cI, 12, .inl nf)), (o, .inl (cI, 12, .inl uf)), (d, .inl (cI, 12, .inl df)), (f, .inl (cI, 12, .inl tf))]) [1, 2, 3, 4, 5] rfl) hK hX) rfl hl.1 rfl (Nat.le_of_ble_eq_true rfl) dX1_count_12 (by decide) ?_
  exact fb_iret hx hb hr hlk dX1_count_15 (rfl)
set_option maxHeartbeats 4000000 in
set_option maxRecDepth 100000 in
theorem fb_c_X1_digest (l : Launch) (G : va_G) (cI cL : ClassId) (x h h2 n o d f : Nat) (nf uf df tf : Nat → Int32) (w : Nat) (dy : Int32) (hw : w < 12) : fb_RO l yX1_digest wsX1_digest 6 137 [.ref x] (fb_PB G cI cL (fb_YW cI x h h2 n o d f nf uf df tf (nI w) dy)) (.long (fb_dg (fb_rg nf) (fb_rg uf) (fb_rg df) (fb_rg tf) w dy)) := by
  refine fb_ro_of (cc := cX1_digest) (maxL := 5) (ret := (some .long)) (by decide) rfl (Nat.le_of_ble_eq_true rfl) ?_
  intro p e s m args below meth c hx hb hr hml hlk hts hown hB ls hl
  have hown : s.vm.findClass RX1 = some m.cls := hown
  obtain ⟨hP, hK, hX⟩ := hB
  have hP : va_P G vwCl [(x, .inr (1, [.ref h, .ref h2])), (h, .inr (0, [.ref n, .ref o, .ref d, .ref f, .int (nI w), .int dy])), (n, .inl (cI, 12, .inl nf)), (o, .inl (cI, 12, .inl uf)), (d, .inl (cI, 12, .inl df)), (f, .inl (cI, 12, .inl tf))] s.heap := hP
  have hl : lv_has ls 5 [(0, .ref x)] := hl
  have hin0 : ∀ w ∈ u_ws RX0 TX0 6, w ∈ wsX1_digest := by decide +kernel
  have hin1 : ∀ w ∈ u_ws RX1 TX1 2, w ∈ wsX1_digest := by decide +kernel
  refine lv_ldc2 (v := 1697) hx hb hown (hts (.constantLong RX1 140 (1697)) (by decide +kernel)) dX1_digest_0 ?_
  refine lv_lstore_n (lv' := [(1, .long 1697), (0, .ref x)]) hx hb dX1_digest_3 rfl hl (by decide) rfl (fun ls hl => ?_)
  refine lv_iconst (v := 0) hx hb dX1_digest_4 (by decide) ?_
  refine lv_istore_n (lv' := [(3, .int 0), (1, .long 1697), (0, .ref x)]) hx hb dX1_digest_5 rfl hl (by decide) rfl (fun ls hl => ?_)
  have lp6 : ∀ (n9 i : Nat), i ≤ 7 → 7 < i + n9 → ∀ ls : Array Slot, lv_has ls 5 [(3, .int (nI i)), (1, .long (fb_fo (fb_tC (fb_rg nf) (fb_rg uf) (fb_rg tf) w dy) (1697) i)), (0, .ref x)] → W p l e ({ frames := 6, cells := 0, slots := 0, locals := 137 }) s m args below meth c s.heap [] 0 0 (MQ below (k2_QcV (.long (fb_dg (fb_rg nf) (fb_rg uf) (fb_rg df) (fb_rg tf) w dy))) args s 0 0 (fun _ => False)) (F0 m 6 ls []) := by
    intro n9
    induction n9 with
    | zero => intro i h1 h2; exact absurd h2 (by omega)
    | succ n9 ih6 =>
      intro i hi_i hin9 ls hl
      refine lv_iload_n hx hb dX1_digest_6 rfl (lv_at hl 0 rfl) ?_
      refine lv_bipush (v := 7) hx hb dX1_digest_7 (by decide) ?_
      refine lv_icmp_ge (tgt := 34) hx hb dX1_digest_9 (by decide) (fun c9 => ?_) (fun c9 => ?_)
      · skip
        have hxi : i = 7 := fb_lp_ex (by decide) hi_i c9
        subst hxi
        refine lv_iconst (v := 0) hx hb dX1_digest_34 (by decide) ?_
        refine lv_istore_n (lv' := [(3, .int 0), (1, .long (fb_fo (fb_tC (fb_rg nf) (fb_rg uf) (fb_rg tf) w dy) (1697) 7)), (0, .ref x)]) hx hb dX1_digest_35 rfl hl (by decide) rfl (fun ls hl => ?_)
        have lp36 : ∀ (n9 k : Nat), k ≤ 12 → 12 < k + n9 → ∀ ls : Array Slot, lv_has ls 5 [(3, .int (nI k)), (1, .long (fb_dk (fb_rg nf) (fb_rg uf) (fb_rg df) (fb_rg tf) w (fb_fo (fb_tC (fb_rg nf) (fb_rg uf) (fb_rg tf) w dy) (1697) 7) k)), (0, .ref x)] → W p l e ({ frames := 6, cells := 0, slots := 0, locals := 137 }) s m args below meth c s.heap [] 0 0 (MQ below (k2_QcV (.long (fb_dg (fb_rg nf) (fb_rg uf) (fb_rg df) (fb_rg tf) w dy))) args s 0 0 (fun _ => False)) (F0 m 36 ls []) := by
          intro n9
          induction n9 with
          | zero => intro k h1 h2; exact absurd h2 (by omega)
          | succ n9 ih36 =>
            intro k hi_k hin9 ls hl
            refine lv_iload_n hx hb dX1_digest_36 rfl (lv_at hl 0 rfl) ?_
            refine lv_bipush (v := 12) hx hb dX1_digest_37 (by decide) ?_
            refine lv_icmp_ge (tgt := 213) hx hb dX1_digest_39 (by decide) (fun c39 => ?_) (fun c39 => ?_)
            · skip
              have hxk : k = 12 := fb_lp_ex (by decide) hi_k c39
              subst hxk
              refine lv_lload_n hx hb dX1_digest_213 rfl (lv_at hl 1 rfl) ?_
              exact fb_lret hx hb hr hlk dX1_digest_214 (rfl)
            · skip
              have hk12 : k < 12 := fb_lp_in (by decide) hi_k c39
              refine lv_iconst (v := 0) hx hb dX1_digest_42 (by decide) ?_
              refine lv_istore (lv' := [(4, .int 0), (3, .int (nI k)), (1, .long (fb_dk (fb_rg nf) (fb_rg uf) (fb_rg df) (fb_rg tf) w (fb_fo (fb_tC (fb_rg nf) (fb_rg uf) (fb_rg tf) w dy) (1697) 7) k)), (0, .ref x)]) hx hb dX1_digest_43 hl (by decide) rfl (fun ls hl => ?_)
              have lp45 : ∀ (n9 i : Nat), i ≤ 5 → 5 < i + n9 → ∀ ls : Array Slot, lv_has ls 5 [(4, .int (nI i)), (1, .long (fb_fo (fb_tF (fb_rg nf) (fb_rg uf) w k) (fb_dk (fb_rg nf) (fb_rg uf) (fb_rg df) (fb_rg tf) w (fb_fo (fb_tC (fb_rg nf) (fb_rg uf) (fb_rg tf) w dy) (1697) 7) k) i)), (3, .int (nI k)), (0, .ref x)] → W p l e ({ frames := 6, cells := 0, slots := 0, locals := 137 }) s m args below meth c s.heap [] 0 0 (MQ below (k2_QcV (.long (fb_dg (fb_rg nf) (fb_rg uf) (fb_rg df) (fb_rg tf) w dy))) args s 0 0 (fun _ => False)) (F0 m 45 ls []) := by
                intro n9
                induction n9 with
                | zero => intro i h1 h2; exact absurd h2 (by omega)
                | succ n9 ih45 =>
                  intro i hi_i hin9 ls hl
                  refine lv_iload hx hb dX1_digest_45 (lv_at hl 0 rfl) ?_
                  refine lv_iconst (v := 5) hx hb dX1_digest_47 (by decide) ?_
                  refine lv_icmp_ge (tgt := 75) hx hb dX1_digest_48 (by decide) (fun c48 => ?_) (fun c48 => ?_)
                  · skip
                    have hxi : i = 5 := fb_lp_ex (by decide) hi_i c48
                    subst hxi
                    refine lv_iconst (v := 0) hx hb dX1_digest_75 (by decide) ?_
                    refine lv_istore (lv' := [(4, .int 0), (1, .long (fb_fo (fb_tF (fb_rg nf) (fb_rg uf) w k) (fb_dk (fb_rg nf) (fb_rg uf) (fb_rg df) (fb_rg tf) w (fb_fo (fb_tC (fb_rg nf) (fb_rg uf) (fb_rg tf) w dy) (1697) 7) k) 5)), (3, .int (nI k)), (0, .ref x)]) hx hb dX1_digest_76 hl (by decide) rfl (fun ls hl => ?_)
                    have lp78 : ∀ (n9 i : Nat), i ≤ 3 → 3 < i + n9 → ∀ ls : Array Slot, lv_has ls 5 [(4, .int (nI i)), (1, .long (fb_fo (fb_tM (fb_rg nf) (fb_rg uf) k) (fb_fo (fb_tF (fb_rg nf) (fb_rg uf) w k) (fb_dk (fb_rg nf) (fb_rg uf) (fb_rg df) (fb_rg tf) w (fb_fo (fb_tC (fb_rg nf) (fb_rg uf) (fb_rg tf) w dy) (1697) 7) k) 5) i)), (3, .int (nI k)), (0, .ref x)] → W p l e ({ frames := 6, cells := 0, slots := 0, locals := 137 }) s m args below meth c s.heap [] 0 0 (MQ below (k2_QcV (.long (fb_dg (fb_rg nf) (fb_rg uf) (fb_rg df) (fb_rg tf) w dy))) args s 0 0 (fun _ => False)) (F0 m 78 ls []) := by
                      intro n9
                      induction n9 with
                      | zero => intro i h1 h2; exact absurd h2 (by omega)
                      | succ n9 ih78 =>
                        intro i hi_i hin9 ls hl
                        refine lv_iload hx hb dX1_digest_78 (lv_at hl 0 rfl) ?_
                        refine lv_iconst (v := 3) hx hb dX1_digest_80 (by decide) ?_
                        refine lv_icmp_ge (tgt := 108) hx hb dX1_digest_81 (by decide) (fun c81 => ?_) (fun c81 => ?_)
                        · skip
                          have hxi : i = 3 := fb_lp_ex (by decide) hi_i c81
                          subst hxi
                          refine lv_iconst (v := 0) hx hb dX1_digest_108 (by decide) ?_
                          refine lv_istore (lv' := [(4, .int 0), (1, .long (fb_fo (fb_tM (fb_rg nf) (fb_rg uf) k) (fb_fo (fb_tF (fb_rg nf) (fb_rg uf) w k) (fb_dk (fb_rg nf) (fb_rg uf) (fb_rg df) (fb_rg tf) w (fb_fo (fb_tC (fb_rg nf) (fb_rg uf) (fb_rg tf) w dy) (1697) 7) k) 5) 3)), (3, .int (nI k)), (0, .ref x)]) hx hb dX1_digest_109 hl (by decide) rfl (fun ls hl => ?_)
                          have lp111 : ∀ (n9 i : Nat), i ≤ 2 → 2 < i + n9 → ∀ ls : Array Slot, lv_has ls 5 [(4, .int (nI i)), (1, .long (fb_fo (fb_tI (fb_rg nf) (fb_rg uf) k) (fb_fo (fb_tM (fb_rg nf) (fb_rg uf) k) (fb_fo (fb_tF (fb_rg nf) (fb_rg uf) w k) (fb_dk (fb_rg nf) (fb_rg uf) (fb_rg df) (fb_rg tf) w (fb_fo (fb_tC (fb_rg nf) (fb_rg uf) (fb_rg tf) w dy) (1697) 7) k) 5) 3) i)), (3, .int (nI k)), (0, .ref x)] → W p l e ({ frames := 6, cells := 0, slots := 0, locals := 137 }) s m args below meth c s.heap [] 0 0 (MQ below (k2_QcV (.long (fb_dg (fb_rg nf) (fb_rg uf) (fb_rg df) (fb_rg tf) w dy))) args s 0 0 (fun _ => False)) (F0 m 111 ls []) := by
                            intro n9
                            induction n9 with
                            | zero => intro i h1 h2; exact absurd h2 (by omega)
                            | succ n9 ih111 =>
                              intro i hi_i hin9 ls hl
                              refine lv_iload hx hb dX1_digest_111 (lv_at hl 0 rfl) ?_
                              refine lv_iconst (v := 2) hx hb dX1_digest_113 (by decide) ?_
                              refine lv_icmp_ge (tgt := 141) hx hb dX1_digest_114 (by decide) (fun c114 => ?_) (fun c114 => ?_)
                              · skip
                                have hxi : i = 2 := fb_lp_ex (by decide) hi_i c114
                                subst hxi
                                refine lv_iconst (v := 0) hx hb dX1_digest_141 (by decide) ?_
                                refine lv_istore (lv' := [(4, .int 0), (1, .long (fb_fo (fb_tI (fb_rg nf) (fb_rg uf) k) (fb_fo (fb_tM (fb_rg nf) (fb_rg uf) k) (fb_fo (fb_tF (fb_rg nf) (fb_rg uf) w k) (fb_dk (fb_rg nf) (fb_rg uf) (fb_rg df) (fb_rg tf) w (fb_fo (fb_tC (fb_rg nf) (fb_rg uf) (fb_rg tf) w dy) (1697) 7) k) 5) 3) 2)), (3, .int (nI k)), (0, .ref x)]) hx hb dX1_digest_142 hl (by decide) rfl (fun ls hl => ?_)
                                have lp144 : ∀ (n9 i : Nat), i ≤ 5 → 5 < i + n9 → ∀ ls : Array Slot, lv_has ls 5 [(4, .int (nI i)), (1, .long (fb_fo (fb_tN (fb_rg nf) (fb_rg uf) (fb_rg df) k) (fb_fo (fb_tI (fb_rg nf) (fb_rg uf) k) (fb_fo (fb_tM (fb_rg nf) (fb_rg uf) k) (fb_fo (fb_tF (fb_rg nf) (fb_rg uf) w k) (fb_dk (fb_rg nf) (fb_rg uf) (fb_rg df) (fb_rg tf) w (fb_fo (fb_tC (fb_rg nf) (fb_rg uf) (fb_rg tf) w dy) (1697) 7) k) 5) 3) 2) i)), (3, .int (nI k)), (0, .ref x)] → W p l e ({ frames := 6, cells := 0, slots := 0, locals := 137 }) s m args below meth c s.heap [] 0 0 (MQ below (k2_QcV (.long (fb_dg (fb_rg nf) (fb_rg uf) (fb_rg df) (fb_rg tf) w dy))) args s 0 0 (fun _ => False)) (F0 m 144 ls []) := by
                                  intro n9
                                  induction n9 with
                                  | zero => intro i h1 h2; exact absurd h2 (by omega)
                                  | succ n9 ih144 =>
                                    intro i hi_i hin9 ls hl
                                    refine lv_iload hx hb dX1_digest_144 (lv_at hl 0 rfl) ?_
                                    refine lv_iconst (v := 5) hx hb dX1_digest_146 (by decide) ?_
                                    refine lv_icmp_ge (tgt := 174) hx hb dX1_digest_147 (by decide) (fun c147 => ?_) (fun c147 => ?_)
                                    · skip
                                      have hxi : i = 5 := fb_lp_ex (by decide) hi_i c147
                                      subst hxi
                                      refine lv_iconst (v := 0) hx hb dX1_digest_174 (by decide) ?_
                                      refine lv_istore (lv' := [(4, .int 0), (1, .long (fb_fo (fb_tN (fb_rg nf) (fb_rg uf) (fb_rg df) k) (fb_fo (fb_tI (fb_rg nf) (fb_rg uf) k) (fb_fo (fb_tM (fb_rg nf) (fb_rg uf) k) (fb_fo (fb_tF (fb_rg nf) (fb_rg uf) w k) (fb_dk (fb_rg nf) (fb_rg uf) (fb_rg df) (fb_rg tf) w (fb_fo (fb_tC (fb_rg nf) (fb_rg uf) (fb_rg tf) w dy) (1697) 7) k) 5) 3) 2) 5)), (3, .int (nI k)), (0, .ref x)]) hx hb dX1_digest_175 hl (by decide) rfl (fun ls hl => ?_)
                                      have lp177 : ∀ (n9 i : Nat), i ≤ 4 → 4 < i + n9 → ∀ ls : Array Slot, lv_has ls 5 [(4, .int (nI i)), (1, .long (fb_fo (fb_tK (fb_rg nf) (fb_rg uf) (fb_rg tf) k) (fb_fo (fb_tN (fb_rg nf) (fb_rg uf) (fb_rg df) k) (fb_fo (fb_tI (fb_rg nf) (fb_rg uf) k) (fb_fo (fb_tM (fb_rg nf) (fb_rg uf) k) (fb_fo (fb_tF (fb_rg nf) (fb_rg uf) w k) (fb_dk (fb_rg nf) (fb_rg uf) (fb_rg df) (fb_rg tf) w (fb_fo (fb_tC (fb_rg nf) (fb_rg uf) (fb_rg tf) w dy) (1697) 7) k) 5) 3) 2) 5) i)), (3, .int (nI k)), (0, .ref x)] → W p l e ({ frames := 6, cells := 0, slots := 0, locals := 137 }) s m args below meth c s.heap [] 0 0 (MQ below (k2_QcV (.long (fb_dg (fb_rg nf) (fb_rg uf) (fb_rg df) (fb_rg tf) w dy))) args s 0 0 (fun _ => False)) (F0 m 177 ls []) := by
                                        intro n9
                                        induction n9 with
                                        | zero => intro i h1 h2; exact absurd h2 (by omega)
                                        | succ n9 ih177 =>
                                          intro i hi_i hin9 ls hl
                                          refine lv_iload hx hb dX1_digest_177 (lv_at hl 0 rfl) ?_
                                          refine lv_iconst (v := 4) hx hb dX1_digest_179 (by decide) ?_
                                          refine lv_icmp_ge (tgt := 207) hx hb dX1_digest_180 (by decide) (fun c180 => ?_) (fun c180 => ?_)
                                          · skip
                                            have hxi : i = 4 := fb_lp_ex (by decide) hi_i c180
                                            subst hxi
                                            refine lv_iinc (v := nI (k + 1)) (lv' := [(3, .int (nI (k + 1))), (4, .int (nI 4)), (1, .long (fb_fo (fb_tK (fb_rg nf) (fb_rg uf) (fb_rg tf) k) (fb_fo (fb_tN (fb_rg nf) (fb_rg uf) (fb_rg df) k) (fb_fo (fb_tI (fb_rg nf) (fb_rg uf) k) (fb_fo (fb_tM (fb_rg nf) (fb_rg uf) k) (fb_fo (fb_tF (fb_rg nf) (fb_rg uf) w k) (fb_dk (fb_rg nf) (fb_rg uf) (fb_rg df) (fb_rg tf) w (fb_fo (fb_tC (fb_rg nf) (fb_rg uf) (fb_rg tf) w dy) (1697) 7) k) 5) 3) 2) 5) 4)), (0, .ref x)]) hx hb dX1_digest_207 hl (k := 2) rfl (show nI k + 1 = nI (k + 1) from nI_1 k) (by decide) rfl (fun ls hl => ?_)
                                            refine lv_goto (tgt := 36) hx hb dX1_digest_210 (by decide) ?_
                                            exact ih36 (k + 1) (by omega) (by omega) _ (lv_sub hl [0, 2, 3] (rfl))
                                          · skip
                                            have hi12 : i < 4 := fb_lp_in (by decide) hi_i c180
                                            refine lv_lload_n hx hb dX1_digest_183 rfl (lv_at hl 1 rfl) ?_
                                            refine lv_ldc2 (v := 31) hx hb hown (hts (.constantLong RX1 142 (31)) (by decide +kernel)) dX1_digest_184 ?_
                                            refine lv_lmul hx hb dX1_digest_187 ?_
                                            refine lv_aload_n hx hb dX1_digest_188 rfl (lv_at hl 3 rfl) ?_
                                            refine va_get (D := G) (ci := 1) (v := .ref h) (C := RX1) (T := TX1) (N := 2) hx hb hts (hin1) hown hK hP 0 rfl rfl 0 (by decide) (hts (.fieldLink RX1 10 "FifthBeats" "piano" "LFifthBeats$Piano;") (by decide +kernel)) (fun _ h9 => h9) rfl dX1_digest_189 ?_
                                            refine lv_iload_n hx hb dX1_digest_192 rfl (lv_at hl 2 rfl) ?_
                                            refine lv_iload hx hb dX1_digest_193 (lv_at hl 0 rfl) ?_
                                            refine fb_roV (As := [.int (nI k), .int (nI i)]) (rest := [.long ((fb_fo (fb_tK (fb_rg nf) (fb_rg uf) (fb_rg tf) k) (fb_fo (fb_tN (fb_rg nf) (fb_rg uf) (fb_rg df) k) (fb_fo (fb_tI (fb_rg nf) (fb_rg uf) k) (fb_fo (fb_tM (fb_rg nf) (fb_rg uf) k) (fb_fo (fb_tF (fb_rg nf) (fb_rg uf) w k) (fb_dk (fb_rg nf) (fb_rg uf) (fb_rg df) (fb_rg tf) w (fb_fo (fb_tC (fb_rg nf) (fb_rg uf) (fb_rg tf) w dy) (1697) 7) k) 5) 3) 2) 5) i) * 31)]) (n := 2) ⟨hx, hb, hml, hown, hts⟩ (fb_c_X0_tellKey l G cI cL h n o d f nf uf df tf w dy k i hk12 (by omega)) gX1_digest_X0_tellKey rfl (by decide +kernel) (by decide) (fb_PB.bl _ _ _ _) (va_recv hK hP (ci := 0) (q0 := 1) rfl rfl) (fb_PB.to (hP.sub (ws' := [(h, .inr (0, [.ref n, .ref o, .ref d, .ref f, .int (nI w), .int dy])), (n, .inl (cI, 12, .inl nf)), (o, .inl (cI, 12, .inl uf)), (d, .inl (cI, 12, .inl df)), (f, .inl (cI, 12, .inl tf))]) [1, 2, 3, 4, 5] rfl) hK hX) rfl hl.1 rfl (Nat.le_of_ble_eq_true rfl) dX1_digest_195 (by decide) ?_
                                            refine lv_i2l (v := (fb_tK (fb_rg nf) (fb_rg uf) (fb_rg tf) k i).toInt64) hx hb dX1_digest_198 rfl ?_
                                            refine lv_ladd hx hb dX1_digest_199 ?_
                                            refine lv_lstore_n (lv' := [(1, .long (((fb_fo (fb_tK (fb_rg nf) (fb_rg uf) (fb_rg tf) k) (fb_fo (fb_tN (fb_rg nf) (fb_rg uf) (fb_rg df) k) (fb_fo (fb_tI (fb_rg nf) (fb_rg uf) k) (fb_fo (fb_tM (fb_rg nf) (fb_rg uf) k) (fb_fo (fb_tF (fb_rg nf) (fb_rg uf) w k) (fb_dk (fb_rg nf) (fb_rg uf) (fb_rg df) (fb_rg tf) w (fb_fo (fb_tC (fb_rg nf) (fb_rg uf) (fb_rg tf) w dy) (1697) 7) k) 5) 3) 2) 5) i) * 31) + ((fb_tK (fb_rg nf) (fb_rg uf) (fb_rg tf) k i).toInt64))), (4, .int (nI i)), (3, .int (nI k)), (0, .ref x)]) hx hb dX1_digest_200 rfl hl (by decide) rfl (fun ls hl => ?_)
                                            refine lv_iinc (v := nI (i + 1)) (lv' := [(4, .int (nI (i + 1))), (1, .long (((fb_fo (fb_tK (fb_rg nf) (fb_rg uf) (fb_rg tf) k) (fb_fo (fb_tN (fb_rg nf) (fb_rg uf) (fb_rg df) k) (fb_fo (fb_tI (fb_rg nf) (fb_rg uf) k) (fb_fo (fb_tM (fb_rg nf) (fb_rg uf) k) (fb_fo (fb_tF (fb_rg nf) (fb_rg uf) w k) (fb_dk (fb_rg nf) (fb_rg uf) (fb_rg df) (fb_rg tf) w (fb_fo (fb_tC (fb_rg nf) (fb_rg uf) (fb_rg tf) w dy) (1697) 7) k) 5) 3) 2) 5) i) * 31) + ((fb_tK (fb_rg nf) (fb_rg uf) (fb_rg tf) k i).toInt64))), (3, .int (nI k)), (0, .ref x)]) hx hb dX1_digest_201 hl (k := 1) rfl (show nI i + 1 = nI (i + 1) from nI_1 i) (by decide) rfl (fun ls hl => ?_)
                                            refine lv_goto (tgt := 177) hx hb dX1_digest_204 (by decide) ?_
                                            exact ih177 (i + 1) (by omega) (by omega) _ (lv_sub hl [0, 1, 2, 3] (rfl))
                                      exact lp177 (4 + 1) 0 (by omega) (by omega) _ (lv_sub hl [0, 1, 2, 3] (rfl))
                                    · skip
                                      have hi12 : i < 5 := fb_lp_in (by decide) hi_i c147
                                      refine lv_lload_n hx hb dX1_digest_150 rfl (lv_at hl 1 rfl) ?_
                                      refine lv_ldc2 (v := 31) hx hb hown (hts (.constantLong RX1 142 (31)) (by decide +kernel)) dX1_digest_151 ?_
                                      refine lv_lmul hx hb dX1_digest_154 ?_
                                      refine lv_aload_n hx hb dX1_digest_155 rfl (lv_at hl 3 rfl) ?_
                                      refine va_get (D := G) (ci := 1) (v := .ref h) (C := RX1) (T := TX1) (N := 2) hx hb hts (hin1) hown hK hP 0 rfl rfl 0 (by decide) (hts (.fieldLink RX1 10 "FifthBeats" "piano" "LFifthBeats$Piano;") (by decide +kernel)) (fun _ h9 => h9) rfl dX1_digest_156 ?_
                                      refine lv_iload_n hx hb dX1_digest_159 rfl (lv_at hl 2 rfl) ?_
                                      refine lv_iload hx hb dX1_digest_160 (lv_at hl 0 rfl) ?_
                                      refine fb_roV (As := [.int (nI k), .int (nI i)]) (rest := [.long ((fb_fo (fb_tN (fb_rg nf) (fb_rg uf) (fb_rg df) k) (fb_fo (fb_tI (fb_rg nf) (fb_rg uf) k) (fb_fo (fb_tM (fb_rg nf) (fb_rg uf) k) (fb_fo (fb_tF (fb_rg nf) (fb_rg uf) w k) (fb_dk (fb_rg nf) (fb_rg uf) (fb_rg df) (fb_rg tf) w (fb_fo (fb_tC (fb_rg nf) (fb_rg uf) (fb_rg tf) w dy) (1697) 7) k) 5) 3) 2) i) * 31)]) (n := 2) ⟨hx, hb, hml, hown, hts⟩ (fb_c_X0_tellNote l G cI cL h n o d f nf uf df tf w dy k i hk12 (by omega)) gX1_digest_X0_tellNote rfl (by decide +kernel) (by decide) (fb_PB.bl _ _ _ _) (va_recv hK hP (ci := 0) (q0 := 1) rfl rfl) (fb_PB.to (hP.sub (ws' := [(h, .inr (0, [.ref n, .ref o, .ref d, .ref f, .int (nI w), .int dy])), (n, .inl (cI, 12, .inl nf)), (o, .inl (cI, 12, .inl uf)), (d, .inl (cI, 12, .inl df)), (f, .inl (cI, 12, .inl tf))]) [1, 2, 3, 4, 5] rfl) hK hX) rfl hl.1 rfl (Nat.le_of_ble_eq_true rfl) dX1_digest_162 (by decide) ?_
                                      refine lv_i2l (v := (fb_tN (fb_rg nf) (fb_rg uf) (fb_rg df) k i).toInt64) hx hb dX1_digest_165 rfl ?_
                                      refine lv_ladd hx hb dX1_digest_166 ?_
                                      refine lv_lstore_n (lv' := [(1, .long (((fb_fo (fb_tN (fb_rg nf) (fb_rg uf) (fb_rg df) k) (fb_fo (fb_tI (fb_rg nf) (fb_rg uf) k) (fb_fo (fb_tM (fb_rg nf) (fb_rg uf) k) (fb_fo (fb_tF (fb_rg nf) (fb_rg uf) w k) (fb_dk (fb_rg nf) (fb_rg uf) (fb_rg df) (fb_rg tf) w (fb_fo (fb_tC (fb_rg nf) (fb_rg uf) (fb_rg tf) w dy) (1697) 7) k) 5) 3) 2) i) * 31) + ((fb_tN (fb_rg nf) (fb_rg uf) (fb_rg df) k i).toInt64))), (4, .int (nI i)), (3, .int (nI k)), (0, .ref x)]) hx hb dX1_digest_167 rfl hl (by decide) rfl (fun ls hl => ?_)
                                      refine lv_iinc (v := nI (i + 1)) (lv' := [(4, .int (nI (i + 1))), (1, .long (((fb_fo (fb_tN (fb_rg nf) (fb_rg uf) (fb_rg df) k) (fb_fo (fb_tI (fb_rg nf) (fb_rg uf) k) (fb_fo (fb_tM (fb_rg nf) (fb_rg uf) k) (fb_fo (fb_tF (fb_rg nf) (fb_rg uf) w k) (fb_dk (fb_rg nf) (fb_rg uf) (fb_rg df) (fb_rg tf) w (fb_fo (fb_tC (fb_rg nf) (fb_rg uf) (fb_rg tf) w dy) (1697) 7) k) 5) 3) 2) i) * 31) + ((fb_tN (fb_rg nf) (fb_rg uf) (fb_rg df) k i).toInt64))), (3, .int (nI k)), (0, .ref x)]) hx hb dX1_digest_168 hl (k := 1) rfl (show nI i + 1 = nI (i + 1) from nI_1 i) (by decide) rfl (fun ls hl => ?_)
                                      refine lv_goto (tgt := 144) hx hb dX1_digest_171 (by decide) ?_
                                      exact ih144 (i + 1) (by omega) (by omega) _ (lv_sub hl [0, 1, 2, 3] (rfl))
                                exact lp144 (5 + 1) 0 (by omega) (by omega) _ (lv_sub hl [0, 1, 2, 3] (rfl))
                              · skip
                                have hi12 : i < 2 := fb_lp_in (by decide) hi_i c114
                                refine lv_lload_n hx hb dX1_digest_117 rfl (lv_at hl 1 rfl) ?_
                                refine lv_ldc2 (v := 31) hx hb hown (hts (.constantLong RX1 142 (31)) (by decide +kernel)) dX1_digest_118 ?_
                                refine lv_lmul hx hb dX1_digest_121 ?_
                                refine lv_aload_n hx hb dX1_digest_122 rfl (lv_at hl 3 rfl) ?_
                                refine va_get (D := G) (ci := 1) (v := .ref h) (C := RX1) (T := TX1) (N := 2) hx hb hts (hin1) hown hK hP 0 rfl rfl 0 (by decide) (hts (.fieldLink RX1 10 "FifthBeats" "piano" "LFifthBeats$Piano;") (by decide +kernel)) (fun _ h9 => h9) rfl dX1_digest_123 ?_
                                refine lv_iload_n hx hb dX1_digest_126 rfl (lv_at hl 2 rfl) ?_
                                refine lv_iload hx hb dX1_digest_127 (lv_at hl 0 rfl) ?_
                                refine fb_roV (As := [.int (nI k), .int (nI i)]) (rest := [.long ((fb_fo (fb_tI (fb_rg nf) (fb_rg uf) k) (fb_fo (fb_tM (fb_rg nf) (fb_rg uf) k) (fb_fo (fb_tF (fb_rg nf) (fb_rg uf) w k) (fb_dk (fb_rg nf) (fb_rg uf) (fb_rg df) (fb_rg tf) w (fb_fo (fb_tC (fb_rg nf) (fb_rg uf) (fb_rg tf) w dy) (1697) 7) k) 5) 3) i) * 31)]) (n := 2) ⟨hx, hb, hml, hown, hts⟩ (fb_c_X0_tellMinor l G cI cL h n o d f nf uf df tf w dy k i hk12 (by omega)) gX1_digest_X0_tellMinor rfl (by decide +kernel) (by decide) (fb_PB.bl _ _ _ _) (va_recv hK hP (ci := 0) (q0 := 1) rfl rfl) (fb_PB.to (hP.sub (ws' := [(h, .inr (0, [.ref n, .ref o, .ref d, .ref f, .int (nI w), .int dy])), (n, .inl (cI, 12, .inl nf)), (o, .inl (cI, 12, .inl uf)), (d, .inl (cI, 12, .inl df)), (f, .inl (cI, 12, .inl tf))]) [1, 2, 3, 4, 5] rfl) hK hX) rfl hl.1 rfl (Nat.le_of_ble_eq_true rfl) dX1_digest_129 (by decide) ?_
                                refine lv_i2l (v := (fb_tI (fb_rg nf) (fb_rg uf) k i).toInt64) hx hb dX1_digest_132 rfl ?_
                                refine lv_ladd hx hb dX1_digest_133 ?_
                                refine lv_lstore_n (lv' := [(1, .long (((fb_fo (fb_tI (fb_rg nf) (fb_rg uf) k) (fb_fo (fb_tM (fb_rg nf) (fb_rg uf) k) (fb_fo (fb_tF (fb_rg nf) (fb_rg uf) w k) (fb_dk (fb_rg nf) (fb_rg uf) (fb_rg df) (fb_rg tf) w (fb_fo (fb_tC (fb_rg nf) (fb_rg uf) (fb_rg tf) w dy) (1697) 7) k) 5) 3) i) * 31) + ((fb_tI (fb_rg nf) (fb_rg uf) k i).toInt64))), (4, .int (nI i)), (3, .int (nI k)), (0, .ref x)]) hx hb dX1_digest_134 rfl hl (by decide) rfl (fun ls hl => ?_)
                                refine lv_iinc (v := nI (i + 1)) (lv' := [(4, .int (nI (i + 1))), (1, .long (((fb_fo (fb_tI (fb_rg nf) (fb_rg uf) k) (fb_fo (fb_tM (fb_rg nf) (fb_rg uf) k) (fb_fo (fb_tF (fb_rg nf) (fb_rg uf) w k) (fb_dk (fb_rg nf) (fb_rg uf) (fb_rg df) (fb_rg tf) w (fb_fo (fb_tC (fb_rg nf) (fb_rg uf) (fb_rg tf) w dy) (1697) 7) k) 5) 3) i) * 31) + ((fb_tI (fb_rg nf) (fb_rg uf) k i).toInt64))), (3, .int (nI k)), (0, .ref x)]) hx hb dX1_digest_135 hl (k := 1) rfl (show nI i + 1 = nI (i + 1) from nI_1 i) (by decide) rfl (fun ls hl => ?_)
                                refine lv_goto (tgt := 111) hx hb dX1_digest_138 (by decide) ?_
                                exact ih111 (i + 1) (by omega) (by omega) _ (lv_sub hl [0, 1, 2, 3] (rfl))
                          exact lp111 (2 + 1) 0 (by omega) (by omega) _ (lv_sub hl [0, 1, 2, 3] (rfl))
                        · skip
                          have hi12 : i < 3 := fb_lp_in (by decide) hi_i c81
                          refine lv_lload_n hx hb dX1_digest_84 rfl (lv_at hl 1 rfl) ?_
                          refine lv_ldc2 (v := 31) hx hb hown (hts (.constantLong RX1 142 (31)) (by decide +kernel)) dX1_digest_85 ?_
                          refine lv_lmul hx hb dX1_digest_88 ?_
                          refine lv_aload_n hx hb dX1_digest_89 rfl (lv_at hl 3 rfl) ?_
                          refine va_get (D := G) (ci := 1) (v := .ref h) (C := RX1) (T := TX1) (N := 2) hx hb hts (hin1) hown hK hP 0 rfl rfl 0 (by decide) (hts (.fieldLink RX1 10 "FifthBeats" "piano" "LFifthBeats$Piano;") (by decide +kernel)) (fun _ h9 => h9) rfl dX1_digest_90 ?_
                          refine lv_iload_n hx hb dX1_digest_93 rfl (lv_at hl 2 rfl) ?_
                          refine lv_iload hx hb dX1_digest_94 (lv_at hl 0 rfl) ?_
                          refine fb_roV (As := [.int (nI k), .int (nI i)]) (rest := [.long ((fb_fo (fb_tM (fb_rg nf) (fb_rg uf) k) (fb_fo (fb_tF (fb_rg nf) (fb_rg uf) w k) (fb_dk (fb_rg nf) (fb_rg uf) (fb_rg df) (fb_rg tf) w (fb_fo (fb_tC (fb_rg nf) (fb_rg uf) (fb_rg tf) w dy) (1697) 7) k) 5) i) * 31)]) (n := 2) ⟨hx, hb, hml, hown, hts⟩ (fb_c_X0_tellMajor l G cI cL h n o d f nf uf df tf w dy k i hk12 (by omega)) gX1_digest_X0_tellMajor rfl (by decide +kernel) (by decide) (fb_PB.bl _ _ _ _) (va_recv hK hP (ci := 0) (q0 := 1) rfl rfl) (fb_PB.to (hP.sub (ws' := [(h, .inr (0, [.ref n, .ref o, .ref d, .ref f, .int (nI w), .int dy])), (n, .inl (cI, 12, .inl nf)), (o, .inl (cI, 12, .inl uf)), (d, .inl (cI, 12, .inl df)), (f, .inl (cI, 12, .inl tf))]) [1, 2, 3, 4, 5] rfl) hK hX) rfl hl.1 rfl (Nat.le_of_ble_eq_true rfl) dX1_digest_96 (by decide) ?_
                          refine lv_i2l (v := (fb_tM (fb_rg nf) (fb_rg uf) k i).toInt64) hx hb dX1_digest_99 rfl ?_
                          refine lv_ladd hx hb dX1_digest_100 ?_
                          refine lv_lstore_n (lv' := [(1, .long (((fb_fo (fb_tM (fb_rg nf) (fb_rg uf) k) (fb_fo (fb_tF (fb_rg nf) (fb_rg uf) w k) (fb_dk (fb_rg nf) (fb_rg uf) (fb_rg df) (fb_rg tf) w (fb_fo (fb_tC (fb_rg nf) (fb_rg uf) (fb_rg tf) w dy) (1697) 7) k) 5) i) * 31) + ((fb_tM (fb_rg nf) (fb_rg uf) k i).toInt64))), (4, .int (nI i)), (3, .int (nI k)), (0, .ref x)]) hx hb dX1_digest_101 rfl hl (by decide) rfl (fun ls hl => ?_)
                          refine lv_iinc (v := nI (i + 1)) (lv' := [(4, .int (nI (i + 1))), (1, .long (((fb_fo (fb_tM (fb_rg nf) (fb_rg uf) k) (fb_fo (fb_tF (fb_rg nf) (fb_rg uf) w k) (fb_dk (fb_rg nf) (fb_rg uf) (fb_rg df) (fb_rg tf) w (fb_fo (fb_tC (fb_rg nf) (fb_rg uf) (fb_rg tf) w dy) (1697) 7) k) 5) i) * 31) + ((fb_tM (fb_rg nf) (fb_rg uf) k i).toInt64))), (3, .int (nI k)), (0, .ref x)]) hx hb dX1_digest_102 hl (k := 1) rfl (show nI i + 1 = nI (i + 1) from nI_1 i) (by decide) rfl (fun ls hl => ?_)
                          refine lv_goto (tgt := 78) hx hb dX1_digest_105 (by decide) ?_
                          exact ih78 (i + 1) (by omega) (by omega) _ (lv_sub hl [0, 1, 2, 3] (rfl))
                    exact lp78 (3 + 1) 0 (by omega) (by omega) _ (lv_sub hl [0, 1, 2, 3] (rfl))
                  · skip
                    have hi12 : i < 5 := fb_lp_in (by decide) hi_i c48
                    refine lv_lload_n hx hb dX1_digest_51 rfl (lv_at hl 1 rfl) ?_
                    refine lv_ldc2 (v := 31) hx hb hown (hts (.constantLong RX1 142 (31)) (by decide +kernel)) dX1_digest_52 ?_
                    refine lv_lmul hx hb dX1_digest_55 ?_
                    refine lv_aload_n hx hb dX1_digest_56 rfl (lv_at hl 3 rfl) ?_
                    refine va_get (D := G) (ci := 1) (v := .ref h) (C := RX1) (T := TX1) (N := 2) hx hb hts (hin1) hown hK hP 0 rfl rfl 0 (by decide) (hts (.fieldLink RX1 10 "FifthBeats" "piano" "LFifthBeats$Piano;") (by decide +kernel)) (fun _ h9 => h9) rfl dX1_digest_57 ?_
                    refine lv_iload_n hx hb dX1_digest_60 rfl (lv_at hl 2 rfl) ?_
                    refine lv_iload hx hb dX1_digest_61 (lv_at hl 0 rfl) ?_
                    refine fb_roV (As := [.int (nI k), .int (nI i)]) (rest := [.long ((fb_fo (fb_tF (fb_rg nf) (fb_rg uf) w k) (fb_dk (fb_rg nf) (fb_rg uf) (fb_rg df) (fb_rg tf) w (fb_fo (fb_tC (fb_rg nf) (fb_rg uf) (fb_rg tf) w dy) (1697) 7) k) i) * 31)]) (n := 2) ⟨hx, hb, hml, hown, hts⟩ (fb_c_X0_tellFifth l G cI cL h n o d f nf uf df tf w dy k i hk12 (by omega) hw) gX1_digest_X0_tellFifth rfl (by decide +kernel) (by decide) (fb_PB.bl _ _ _ _) (va_recv hK hP (ci := 0) (q0 := 1) rfl rfl) (fb_PB.to (hP.sub (ws' := [(h, .inr (0, [.ref n, .ref o, .ref d, .ref f, .int (nI w), .int dy])), (n, .inl (cI, 12, .inl nf)), (o, .inl (cI, 12, .inl uf)), (d, .inl (cI, 12, .inl df)), (f, .inl (cI, 12, .inl tf))]) [1, 2, 3, 4, 5] rfl) hK hX) rfl hl.1 rfl (Nat.le_of_ble_eq_true rfl) dX1_digest_63 (by decide) ?_
                    refine lv_i2l (v := (fb_tF (fb_rg nf) (fb_rg uf) w k i).toInt64) hx hb dX1_digest_66 rfl ?_
                    refine lv_ladd hx hb dX1_digest_67 ?_
                    refine lv_lstore_n (lv' := [(1, .long (((fb_fo (fb_tF (fb_rg nf) (fb_rg uf) w k) (fb_dk (fb_rg nf) (fb_rg uf) (fb_rg df) (fb_rg tf) w (fb_fo (fb_tC (fb_rg nf) (fb_rg uf) (fb_rg tf) w dy) (1697) 7) k) i) * 31) + ((fb_tF (fb_rg nf) (fb_rg uf) w k i).toInt64))), (4, .int (nI i)), (3, .int (nI k)), (0, .ref x)]) hx hb dX1_digest_68 rfl hl (by decide) rfl (fun ls hl => ?_)
                    refine lv_iinc (v := nI (i + 1)) (lv' := [(4, .int (nI (i + 1))), (1, .long (((fb_fo (fb_tF (fb_rg nf) (fb_rg uf) w k) (fb_dk (fb_rg nf) (fb_rg uf) (fb_rg df) (fb_rg tf) w (fb_fo (fb_tC (fb_rg nf) (fb_rg uf) (fb_rg tf) w dy) (1697) 7) k) i) * 31) + ((fb_tF (fb_rg nf) (fb_rg uf) w k i).toInt64))), (3, .int (nI k)), (0, .ref x)]) hx hb dX1_digest_69 hl (k := 1) rfl (show nI i + 1 = nI (i + 1) from nI_1 i) (by decide) rfl (fun ls hl => ?_)
                    refine lv_goto (tgt := 45) hx hb dX1_digest_72 (by decide) ?_
                    exact ih45 (i + 1) (by omega) (by omega) _ (lv_sub hl [0, 1, 2, 3] (rfl))
              exact lp45 (5 + 1) 0 (by omega) (by omega) _ (lv_sub hl [0, 2, 1, 3] (rfl))
        exact lp36 (12 + 1) 0 (by omega) (by omega) _ (lv_sub hl [0, 1, 2] (rfl))
      · skip
        have hi12 : i < 7 := fb_lp_in (by decide) hi_i c9
        refine lv_lload_n hx hb dX1_digest_12 rfl (lv_at hl 1 rfl) ?_
        refine lv_ldc2 (v := 31) hx hb hown (hts (.constantLong RX1 142 (31)) (by decide +kernel)) dX1_digest_13 ?_
        refine lv_lmul hx hb dX1_digest_16 ?_
        refine lv_aload_n hx hb dX1_digest_17 rfl (lv_at hl 2 rfl) ?_
        refine va_get (D := G) (ci := 1) (v := .ref h) (C := RX1) (T := TX1) (N := 2) hx hb hts (hin1) hown hK hP 0 rfl rfl 0 (by decide) (hts (.fieldLink RX1 10 "FifthBeats" "piano" "LFifthBeats$Piano;") (by decide +kernel)) (fun _ h9 => h9) rfl dX1_digest_18 ?_
        refine lv_iload_n hx hb dX1_digest_21 rfl (lv_at hl 0 rfl) ?_
        refine fb_roV (As := [.int (nI i)]) (rest := [.long ((fb_fo (fb_tC (fb_rg nf) (fb_rg uf) (fb_rg tf) w dy) (1697) i) * 31)]) (n := 1) ⟨hx, hb, hml, hown, hts⟩ (fb_c_X0_tellCount l G cI cL h n o d f nf uf df tf w dy i (by omega) hw) gX1_digest_X0_tellCount rfl (by decide +kernel) (by decide) (fb_PB.bl _ _ _ _) (va_recv hK hP (ci := 0) (q0 := 1) rfl rfl) (fb_PB.to (hP.sub (ws' := [(h, .inr (0, [.ref n, .ref o, .ref d, .ref f, .int (nI w), .int dy])), (n, .inl (cI, 12, .inl nf)), (o, .inl (cI, 12, .inl uf)), (d, .inl (cI, 12, .inl df)), (f, .inl (cI, 12, .inl tf))]) [1, 2, 3, 4, 5] rfl) hK hX) rfl hl.1 rfl (Nat.le_of_ble_eq_true rfl) dX1_digest_22 (by decide) ?_
        refine lv_i2l (v := (fb_tC (fb_rg nf) (fb_rg uf) (fb_rg tf) w dy i).toInt64) hx hb dX1_digest_25 rfl ?_
        refine lv_ladd hx hb dX1_digest_26 ?_
        refine lv_lstore_n (lv' := [(1, .long (((fb_fo (fb_tC (fb_rg nf) (fb_rg uf) (fb_rg tf) w dy) (1697) i) * 31) + ((fb_tC (fb_rg nf) (fb_rg uf) (fb_rg tf) w dy i).toInt64))), (3, .int (nI i)), (0, .ref x)]) hx hb dX1_digest_27 rfl hl (by decide) rfl (fun ls hl => ?_)
        refine lv_iinc (v := nI (i + 1)) (lv' := [(3, .int (nI (i + 1))), (1, .long (((fb_fo (fb_tC (fb_rg nf) (fb_rg uf) (fb_rg tf) w dy) (1697) i) * 31) + ((fb_tC (fb_rg nf) (fb_rg uf) (fb_rg tf) w dy i).toInt64))), (0, .ref x)]) hx hb dX1_digest_28 hl (k := 1) rfl (show nI i + 1 = nI (i + 1) from nI_1 i) (by decide) rfl (fun ls hl => ?_)
        refine lv_goto (tgt := 6) hx hb dX1_digest_31 (by decide) ?_
        exact ih6 (i + 1) (by omega) (by omega) _ (lv_sub hl [0, 1, 2] (rfl))
  exact lp6 (7 + 1) 0 (by omega) (by omega) _ (lv_sub hl [0, 1, 2] (rfl))
set_option maxHeartbeats 4000000 in
set_option maxRecDepth 100000 in
theorem fb_c_X1_setFifth (l : Launch) (G : va_G) (cI cL : ClassId) (x h h2 n o d f : Nat) (nf uf df tf : Nat → Int32) (w : Nat) (dy : Int32) (j : Nat) (v : Int32) (hj : j < 12) (hv2 : ¬ (v < (-10) ∨ 20 < v)) (hjw : ¬ j = w) (hw : w < 12) (sz : Nat) : fb_MI l yX1_setFifth wsX1_setFifth 3 66 [.ref x, .int (nI j), .int v] G cI cL sz (fb_YW cI x h h2 n o d f nf uf df tf (nI w) dy) (fb_YW cI x h h2 n o d f (fb_pn nf w j v) uf df tf (nI w) dy) (fb_rg nf j) := by
  refine fb_mi_of (cc := cX1_setFifth) (maxL := 4) (ret := (some .int)) (by decide) rfl (Nat.le_of_ble_eq_true rfl) ?_
  intro p e s m args below meth c A hx hb hr hml hlk hts hown hP hK hD hA hX ls hl
  have hown : s.vm.findClass RX1 = some m.cls := hown
  have hP : va_P G vwCl [(x, .inr (1, [.ref h, .ref h2])), (h, .inr (0, [.ref n, .ref o, .ref d, .ref f, .int (nI w), .int dy])), (n, .inl (cI, 12, .inl nf)), (o, .inl (cI, 12, .inl uf)), (d, .inl (cI, 12, .inl df)), (f, .inl (cI, 12, .inl tf))] s.heap := hP
  have hD : va_D A [(x, .inr (1, [.ref h, .ref h2])), (h, .inr (0, [.ref n, .ref o, .ref d, .ref f, .int (nI w), .int dy])), (n, .inl (cI, 12, .inl nf)), (o, .inl (cI, 12, .inl uf)), (d, .inl (cI, 12, .inl df)), (f, .inl (cI, 12, .inl tf))] := hD
  have hS : va_S A s.heap s.heap [] := va_S.rf
  have hXn : ∀ (H : Heap) (locs : List Loc), va_S A s.heap H locs → fb_sx (fun _ => False) s H := fun H locs h9 => (hX.kept h9.2.1).narrow (fun _ z => z.elim)
  have hl : lv_has ls 4 [(0, .ref x), (1, .int (nI j)), (2, .int v)] := hl
  have hin0 : ∀ w ∈ u_ws RX0 TX0 6, w ∈ wsX1_setFifth := by decide +kernel
  have hin1 : ∀ w ∈ u_ws RX1 TX1 2, w ∈ wsX1_setFifth := by decide +kernel
  refine lv_iload_n hx hb dX1_setFifth_0 rfl (lv_at hl 1 rfl) ?_
  refine fb_rvS (As := [.int (nI j)]) (rest := []) (n := 1) ⟨hx, hb, hml, hown, hts⟩ (fb_c_X1_checkRing l j (hj)) gX1_setFifth_X1_checkRing rfl (by decide +kernel) (by decide) fb_Bl_T (fun _ _ _ => trivial) rfl hl.1 rfl (Nat.le_of_ble_eq_true rfl) dX1_setFifth_1 (by decide) ?_
  refine lv_iload_n hx hb dX1_setFifth_4 rfl (lv_at hl 2 rfl) ?_
  refine lv_bipush (v := (-10)) hx hb dX1_setFifth_5 (by decide) ?_
  refine lv_bipush (v := 20) hx hb dX1_setFifth_7 (by decide) ?_
  refine fb_rvS (As := [.int v, .int (-10), .int 20]) (rest := []) (n := 3) ⟨hx, hb, hml, hown, hts⟩ (fb_c_X1_checkArgument l v (-10) 20 (fb_gv hv2)) gX1_setFifth_X1_checkArgument rfl (by decide +kernel) (by decide) fb_Bl_T (fun _ _ _ => trivial) rfl hl.1 rfl (Nat.le_of_ble_eq_true rfl) dX1_setFifth_9 (by decide) ?_
  refine lv_aload_n hx hb dX1_setFifth_12 rfl (lv_at hl 0 rfl) ?_
  refine lv_iload_n hx hb dX1_setFifth_13 rfl (lv_at hl 1 rfl) ?_
  refine fb_rvV (As := [.int (nI j)]) (rest := []) (n := 1) ⟨hx, hb, hml, hown, hts⟩ (fb_c_X1_checkNotWolf l G cI cL x h h2 n o d f nf uf df tf w dy j (by omega) hw (hjw)) gX1_setFifth_X1_checkNotWolf rfl (by decide +kernel) (by decide) (fb_PB.bl _ _ _ _) (va_recv hK hP (ci := 1) (q0 := 0) rfl rfl) (fb_PB.to (hP.sub (ws' := [(x, .inr (1, [.ref h, .ref h2])), (h, .inr (0, [.ref n, .ref o, .ref d, .ref f, .int (nI w), .int dy])), (n, .inl (cI, 12, .inl nf)), (o, .inl (cI, 12, .inl uf)), (d, .inl (cI, 12, .inl df)), (f, .inl (cI, 12, .inl tf))]) [0, 1, 2, 3, 4, 5] rfl) hK (hXn _ _ hS)) rfl hl.1 rfl (Nat.le_of_ble_eq_true rfl) dX1_setFifth_14 (by decide) ?_
  refine lv_aload_n hx hb dX1_setFifth_17 rfl (lv_at hl 0 rfl) ?_
  refine va_get (D := G) (ci := 1) (v := .ref h) (C := RX1) (T := TX1) (N := 2) hx hb hts (hin1) hown hK hP 0 rfl rfl 0 (by decide) (hts (.fieldLink RX1 10 "FifthBeats" "piano" "LFifthBeats$Piano;") (by decide +kernel)) (fun _ h9 => h9) rfl dX1_setFifth_18 ?_
  refine va_get (D := G) (ci := 0) (v := .ref n) (C := RX0) (T := TX0) (N := 6) hx hb hts (hin0) hown hK hP 1 rfl rfl 0 (by decide) (hts (.fieldLink RX1 30 "FifthBeats$Piano" "narrow" "[I") (by decide +kernel)) (fun _ h9 => h9) rfl dX1_setFifth_21 ?_
  refine lv_iload_n hx hb dX1_setFifth_24 rfl (lv_at hl 1 rfl) ?_
  refine va_iald hx hb hK hP 2 0 rfl rfl (vp_in_nI hj (by decide)) dX1_setFifth_25 ?_
  refine fb_ti (z := fb_rg nf j) (by rw [fb_cl (by omega), fb_rg_lt hj]) ?_
  refine lv_istore_n (lv' := [(3, .int (fb_rg nf j)), (0, .ref x), (1, .int (nI j)), (2, .int v)]) hx hb dX1_setFifth_26 rfl hl (by decide) rfl (fun ls hl => ?_)
  refine lv_aload_n hx hb dX1_setFifth_27 rfl (lv_at hl 1 rfl) ?_
  refine va_get (D := G) (ci := 1) (v := .ref h) (C := RX1) (T := TX1) (N := 2) hx hb hts (hin1) hown hK hP 0 rfl rfl 0 (by decide) (hts (.fieldLink RX1 10 "FifthBeats" "piano" "LFifthBeats$Piano;") (by decide +kernel)) (fun _ h9 => h9) rfl dX1_setFifth_28 ?_
  refine lv_iload_n hx hb dX1_setFifth_31 rfl (lv_at hl 2 rfl) ?_
  refine lv_iload_n hx hb dX1_setFifth_32 rfl (lv_at hl 3 rfl) ?_
  refine fb_mvV (As := [.int (nI j), .int v]) (rest := []) (n := 2) (wr := [(x, .inr (1, [.ref h, .ref h2]))]) (wz := [(x, .inr (1, [.ref h, .ref h2])), (h, .inr (0, [.ref n, .ref o, .ref d, .ref f, .int (nI w), .int dy])), (n, .inl (cI, 12, .inl (fb_pn nf w j v))), (o, .inl (cI, 12, .inl uf)), (d, .inl (cI, 12, .inl df)), (f, .inl (cI, 12, .inl tf))]) ⟨hx, hb, hml, hown, hts⟩ (fb_c_X0_plan l G cI cL h n o d f nf uf df tf w dy j v hj hw _) gX1_setFifth_X0_plan rfl (by decide +kernel) (by decide) (va_recv hK hP (ci := 0) (q0 := 1) rfl rfl) hP hK hD hS hA hX [1, 2, 3, 4, 5] [0] [0, 1, 2, 3, 4, 5] rfl rfl rfl rfl rfl rfl (by decide) rfl hl.1 rfl (Nat.le_of_ble_eq_true rfl) dX1_setFifth_33 (by decide) (fun H locs hP hD hS => ?_)
  refine lv_iload_n hx hb dX1_setFifth_36 rfl (lv_at hl 0 rfl) ?_
  have hP9 := hP.sub (ws' := [(x, .inr (1, [.ref h, .ref h2])), (h, .inr (0, [.ref n, .ref o, .ref d, .ref f, .int (nI w), .int dy])), (n, .inl (cI, 12, .inl (fb_pn nf w j v))), (o, .inl (cI, 12, .inl uf)), (d, .inl (cI, 12, .inl df)), (f, .inl (cI, 12, .inl tf))]) [0, 1, 2, 3, 4, 5] (rfl)
  have hD9 := hD.sub (ws' := [(x, .inr (1, [.ref h, .ref h2])), (h, .inr (0, [.ref n, .ref o, .ref d, .ref f, .int (nI w), .int dy])), (n, .inl (cI, 12, .inl (fb_pn nf w j v))), (o, .inl (cI, 12, .inl uf)), (d, .inl (cI, 12, .inl df)), (f, .inl (cI, 12, .inl tf))]) [0, 1, 2, 3, 4, 5] (by decide) (rfl)
  exact W.iret (v := fb_rg nf j) hx hb hr (fun t ht hW => ⟨⟨fb_rg nf j, (), rfl, rfl, by rw [ht]; exact hP9, hD9⟩, hS.F ht⟩) hS.2.2 dX1_setFifth_37 hlk
set_option maxHeartbeats 4000000 in
set_option maxRecDepth 100000 in
theorem fb_c_X1_shift (l : Launch) (G : va_G) (cI cL : ClassId) (x h h2 n o d f : Nat) (nf uf df tf : Nat → Int32) (w : Nat) (dy : Int32) (j : Nat) (hj : j < 12) (hw : w < 12) (sz : Nat) : fb_MI l yX1_shift wsX1_shift 2 46 [.ref x, .int (nI j)] G cI cL sz (fb_YW cI x h h2 n o d f nf uf df tf (nI w) dy) (fb_YW cI x h h2 n o d f (fb_mw nf w j) uf df tf (nI j) dy) (nI w) := by
  refine fb_mi_of (cc := cX1_shift) (maxL := 3) (ret := (some .int)) (by decide) rfl (Nat.le_of_ble_eq_true rfl) ?_
  intro p e s m args below meth c A hx hb hr hml hlk hts hown hP hK hD hA hX ls hl
  have hown : s.vm.findClass RX1 = some m.cls := hown
  have hP : va_P G vwCl [(x, .inr (1, [.ref h, .ref h2])), (h, .inr (0, [.ref n, .ref o, .ref d, .ref f, .int (nI w), .int dy])), (n, .inl (cI, 12, .inl nf)), (o, .inl (cI, 12, .inl uf)), (d, .inl (cI, 12, .inl df)), (f, .inl (cI, 12, .inl tf))] s.heap := hP
  have hD : va_D A [(x, .inr (1, [.ref h, .ref h2])), (h, .inr (0, [.ref n, .ref o, .ref d, .ref f, .int (nI w), .int dy])), (n, .inl (cI, 12, .inl nf)), (o, .inl (cI, 12, .inl uf)), (d, .inl (cI, 12, .inl df)), (f, .inl (cI, 12, .inl tf))] := hD
  have hS : va_S A s.heap s.heap [] := va_S.rf
  have hXn : ∀ (H : Heap) (locs : List Loc), va_S A s.heap H locs → fb_sx (fun _ => False) s H := fun H locs h9 => (hX.kept h9.2.1).narrow (fun _ z => z.elim)
  have hl : lv_has ls 3 [(0, .ref x), (1, .int (nI j))] := hl
  have hin0 : ∀ w ∈ u_ws RX0 TX0 6, w ∈ wsX1_shift := by decide +kernel
  have hin1 : ∀ w ∈ u_ws RX1 TX1 2, w ∈ wsX1_shift := by decide +kernel
  refine lv_iload_n hx hb dX1_shift_0 rfl (lv_at hl 1 rfl) ?_
  refine fb_rvS (As := [.int (nI j)]) (rest := []) (n := 1) ⟨hx, hb, hml, hown, hts⟩ (fb_c_X1_checkRing l j (hj)) gX1_shift_X1_checkRing rfl (by decide +kernel) (by decide) fb_Bl_T (fun _ _ _ => trivial) rfl hl.1 rfl (Nat.le_of_ble_eq_true rfl) dX1_shift_1 (by decide) ?_
  refine lv_aload_n hx hb dX1_shift_4 rfl (lv_at hl 0 rfl) ?_
  refine va_get (D := G) (ci := 1) (v := .ref h) (C := RX1) (T := TX1) (N := 2) hx hb hts (hin1) hown hK hP 0 rfl rfl 0 (by decide) (hts (.fieldLink RX1 10 "FifthBeats" "piano" "LFifthBeats$Piano;") (by decide +kernel)) (fun _ h9 => h9) rfl dX1_shift_5 ?_
  refine va_get (D := G) (ci := 0) (v := .int (nI w)) (C := RX0) (T := TX0) (N := 6) hx hb hts (hin0) hown hK hP 1 rfl rfl 4 (by decide) (hts (.fieldLink RX1 38 "FifthBeats$Piano" "wolf" "I") (by decide +kernel)) (fun _ h9 => h9) rfl dX1_shift_8 ?_
  refine lv_istore_n (lv' := [(2, .int (nI w)), (0, .ref x), (1, .int (nI j))]) hx hb dX1_shift_11 rfl hl (by decide) rfl (fun ls hl => ?_)
  refine lv_aload_n hx hb dX1_shift_12 rfl (lv_at hl 1 rfl) ?_
  refine va_get (D := G) (ci := 1) (v := .ref h) (C := RX1) (T := TX1) (N := 2) hx hb hts (hin1) hown hK hP 0 rfl rfl 0 (by decide) (hts (.fieldLink RX1 10 "FifthBeats" "piano" "LFifthBeats$Piano;") (by decide +kernel)) (fun _ h9 => h9) rfl dX1_shift_13 ?_
  refine lv_iload_n hx hb dX1_shift_16 rfl (lv_at hl 2 rfl) ?_
  refine fb_mvV (As := [.int (nI j)]) (rest := []) (n := 1) (wr := [(x, .inr (1, [.ref h, .ref h2]))]) (wz := [(x, .inr (1, [.ref h, .ref h2])), (h, .inr (0, [.ref n, .ref o, .ref d, .ref f, .int (nI j), .int dy])), (n, .inl (cI, 12, .inl (fb_mw nf w j))), (o, .inl (cI, 12, .inl uf)), (d, .inl (cI, 12, .inl df)), (f, .inl (cI, 12, .inl tf))]) ⟨hx, hb, hml, hown, hts⟩ (fb_c_X0_moveWolf l G cI cL h n o d f nf uf df tf w dy j hj hw _) gX1_shift_X0_moveWolf rfl (by decide +kernel) (by decide) (va_recv hK hP (ci := 0) (q0 := 1) rfl rfl) hP hK hD hS hA hX [1, 2, 3, 4, 5] [0] [0, 1, 2, 3, 4, 5] rfl rfl rfl rfl rfl rfl (by decide) rfl hl.1 rfl (Nat.le_of_ble_eq_true rfl) dX1_shift_17 (by decide) (fun H locs hP hD hS => ?_)
  refine lv_iload_n hx hb dX1_shift_20 rfl (lv_at hl 0 rfl) ?_
  have hP9 := hP.sub (ws' := [(x, .inr (1, [.ref h, .ref h2])), (h, .inr (0, [.ref n, .ref o, .ref d, .ref f, .int (nI j), .int dy])), (n, .inl (cI, 12, .inl (fb_mw nf w j))), (o, .inl (cI, 12, .inl uf)), (d, .inl (cI, 12, .inl df)), (f, .inl (cI, 12, .inl tf))]) [0, 1, 2, 3, 4, 5] (rfl)
  have hD9 := hD.sub (ws' := [(x, .inr (1, [.ref h, .ref h2])), (h, .inr (0, [.ref n, .ref o, .ref d, .ref f, .int (nI j), .int dy])), (n, .inl (cI, 12, .inl (fb_mw nf w j))), (o, .inl (cI, 12, .inl uf)), (d, .inl (cI, 12, .inl df)), (f, .inl (cI, 12, .inl tf))]) [0, 1, 2, 3, 4, 5] (by decide) (rfl)
  exact W.iret (v := nI w) hx hb hr (fun t ht hW => ⟨⟨nI w, (), rfl, rfl, by rw [ht]; exact hP9, hD9⟩, hS.F ht⟩) hS.2.2 dX1_shift_21 hlk
set_option maxHeartbeats 4000000 in
set_option maxRecDepth 100000 in
theorem fb_c_X1_spread (l : Launch) (G : va_G) (cI cL : ClassId) (x h h2 n o d f : Nat) (nf uf df tf : Nat → Int32) (w : Nat) (dy : Int32) (q : Nat) (hq : 2 ≤ q) (hq2 : q ≤ 11) (hw : w < 12) (sz : Nat) : fb_MI l yX1_spread wsX1_spread 3 69 [.ref x, .int (nI q)] G cI cL sz (fb_YW cI x h h2 n o d f nf uf df tf (nI w) dy) (fb_YW cI x h h2 n o d f (fb_gw (fb_sp nf w q 11) w) uf df tf (nI w) dy) ((fb_rg nf) w) := by
  refine fb_mi_of (cc := cX1_spread) (maxL := 3) (ret := (some .int)) (by decide) rfl (Nat.le_of_ble_eq_true rfl) ?_
  intro p e s m args below meth c A hx hb hr hml hlk hts hown hP hK hD hA hX ls hl
  have hown : s.vm.findClass RX1 = some m.cls := hown
  have hP : va_P G vwCl [(x, .inr (1, [.ref h, .ref h2])), (h, .inr (0, [.ref n, .ref o, .ref d, .ref f, .int (nI w), .int dy])), (n, .inl (cI, 12, .inl nf)), (o, .inl (cI, 12, .inl uf)), (d, .inl (cI, 12, .inl df)), (f, .inl (cI, 12, .inl tf))] s.heap := hP
  have hD : va_D A [(x, .inr (1, [.ref h, .ref h2])), (h, .inr (0, [.ref n, .ref o, .ref d, .ref f, .int (nI w), .int dy])), (n, .inl (cI, 12, .inl nf)), (o, .inl (cI, 12, .inl uf)), (d, .inl (cI, 12, .inl df)), (f, .inl (cI, 12, .inl tf))] := hD
  have hS : va_S A s.heap s.heap [] := va_S.rf
  have hXn : ∀ (H : Heap) (locs : List Loc), va_S A s.heap H locs → fb_sx (fun _ => False) s H := fun H locs h9 => (hX.kept h9.2.1).narrow (fun _ z => z.elim)
  have hl : lv_has ls 3 [(0, .ref x), (1, .int (nI q))] := hl
  have hin0 : ∀ w ∈ u_ws RX0 TX0 6, w ∈ wsX1_spread := by decide +kernel
  have hin1 : ∀ w ∈ u_ws RX1 TX1 2, w ∈ wsX1_spread := by decide +kernel
  refine lv_iload_n hx hb dX1_spread_0 rfl (lv_at hl 1 rfl) ?_
  refine lv_iconst (v := 2) hx hb dX1_spread_1 (by decide) ?_
  refine lv_bipush (v := 11) hx hb dX1_spread_2 (by decide) ?_
  refine fb_rvS (As := [.int (nI q), .int 2, .int 11]) (rest := []) (n := 3) ⟨hx, hb, hml, hown, hts⟩ (fb_c_X1_checkArgument l (nI q) 2 11 (fb_g1 hq hq2 (by decide))) gX1_spread_X1_checkArgument rfl (by decide +kernel) (by decide) fb_Bl_T (fun _ _ _ => trivial) rfl hl.1 rfl (Nat.le_of_ble_eq_true rfl) dX1_spread_4 (by decide) ?_
  refine lv_aload_n hx hb dX1_spread_7 rfl (lv_at hl 0 rfl) ?_
  refine va_get (D := G) (ci := 1) (v := .ref h) (C := RX1) (T := TX1) (N := 2) hx hb hts (hin1) hown hK hP 0 rfl rfl 0 (by decide) (hts (.fieldLink RX1 10 "FifthBeats" "piano" "LFifthBeats$Piano;") (by decide +kernel)) (fun _ h9 => h9) rfl dX1_spread_8 ?_
  refine fb_roV (As := []) (rest := []) (n := 0) ⟨hx, hb, hml, hown, hts⟩ (fb_c_X0_wolfNarrow l G cI cL h n o d f nf uf df tf w dy  hw) gX1_spread_X0_wolfNarrow rfl (by decide +kernel) (by decide) (fb_PB.bl _ _ _ _) (va_recv hK hP (ci := 0) (q0 := 1) rfl rfl) (fb_PB.to (hP.sub (ws' := [(h, .inr (0, [.ref n, .ref o, .ref d, .ref f, .int (nI w), .int dy])), (n, .inl (cI, 12, .inl nf)), (o, .inl (cI, 12, .inl uf)), (d, .inl (cI, 12, .inl df)), (f, .inl (cI, 12, .inl tf))]) [1, 2, 3, 4, 5] rfl) hK (hXn _ _ hS)) rfl hl.1 rfl (Nat.le_of_ble_eq_true rfl) dX1_spread_11 (by decide) ?_
  refine lv_istore_n (lv' := [(2, .int ((fb_rg nf) w)), (0, .ref x), (1, .int (nI q))]) hx hb dX1_spread_14 rfl hl (by decide) rfl (fun ls hl => ?_)
  refine lv_aload_n hx hb dX1_spread_15 rfl (lv_at hl 1 rfl) ?_
  refine va_get (D := G) (ci := 1) (v := .ref h) (C := RX1) (T := TX1) (N := 2) hx hb hts (hin1) hown hK hP 0 rfl rfl 0 (by decide) (hts (.fieldLink RX1 10 "FifthBeats" "piano" "LFifthBeats$Piano;") (by decide +kernel)) (fun _ h9 => h9) rfl dX1_spread_16 ?_
  refine lv_iload_n hx hb dX1_spread_19 rfl (lv_at hl 2 rfl) ?_
  refine fb_mvV (As := [.int (nI q)]) (rest := []) (n := 1) (wr := [(x, .inr (1, [.ref h, .ref h2]))]) (wz := [(x, .inr (1, [.ref h, .ref h2])), (h, .inr (0, [.ref n, .ref o, .ref d, .ref f, .int (nI w), .int dy])), (n, .inl (cI, 12, .inl (fb_gw (fb_sp nf w q 11) w))), (o, .inl (cI, 12, .inl uf)), (d, .inl (cI, 12, .inl df)), (f, .inl (cI, 12, .inl tf))]) ⟨hx, hb, hml, hown, hts⟩ (fb_c_X0_spreadComma l G cI cL h n o d f nf uf df tf w dy q (by omega) (by omega) hw _) gX1_spread_X0_spreadComma rfl (by decide +kernel) (by decide) (va_recv hK hP (ci := 0) (q0 := 1) rfl rfl) hP hK hD hS hA hX [1, 2, 3, 4, 5] [0] [0, 1, 2, 3, 4, 5] rfl rfl rfl rfl rfl rfl (by decide) rfl hl.1 rfl (Nat.le_of_ble_eq_true rfl) dX1_spread_20 (by decide) (fun H locs hP hD hS => ?_)
  refine lv_iload_n hx hb dX1_spread_23 rfl (lv_at hl 0 rfl) ?_
  have hP9 := hP.sub (ws' := [(x, .inr (1, [.ref h, .ref h2])), (h, .inr (0, [.ref n, .ref o, .ref d, .ref f, .int (nI w), .int dy])), (n, .inl (cI, 12, .inl (fb_gw (fb_sp nf w q 11) w))), (o, .inl (cI, 12, .inl uf)), (d, .inl (cI, 12, .inl df)), (f, .inl (cI, 12, .inl tf))]) [0, 1, 2, 3, 4, 5] (rfl)
  have hD9 := hD.sub (ws' := [(x, .inr (1, [.ref h, .ref h2])), (h, .inr (0, [.ref n, .ref o, .ref d, .ref f, .int (nI w), .int dy])), (n, .inl (cI, 12, .inl (fb_gw (fb_sp nf w q 11) w))), (o, .inl (cI, 12, .inl uf)), (d, .inl (cI, 12, .inl df)), (f, .inl (cI, 12, .inl tf))]) [0, 1, 2, 3, 4, 5] (by decide) (rfl)
  exact W.iret (v := (fb_rg nf) w) hx hb hr (fun t ht hW => ⟨⟨(fb_rg nf) w, (), rfl, rfl, by rw [ht]; exact hP9, hD9⟩, hS.F ht⟩) hS.2.2 dX1_spread_24 hlk
set_option maxHeartbeats 4000000 in
set_option maxRecDepth 100000 in
theorem fb_c_X1_setOften (l : Launch) (G : va_G) (cI cL : ClassId) (x h h2 n o d f : Nat) (nf uf df tf : Nat → Int32) (w : Nat) (dy : Int32) (j : Nat) (v : Int32) (hj : j < 12) (hv2 : ¬ (v < 0 ∨ 9 < v)) (sz : Nat) : fb_MI l yX1_setOften wsX1_setOften 1 22 [.ref x, .int (nI j), .int v] G cI cL sz (fb_YW cI x h h2 n o d f nf uf df tf (nI w) dy) (fb_YW cI x h h2 n o d f nf uf df (upd tf j v) (nI w) dy) (fb_rg tf j) := by
  refine fb_mi_of (cc := cX1_setOften) (maxL := 4) (ret := (some .int)) (by decide) rfl (Nat.le_of_ble_eq_true rfl) ?_
  intro p e s m args below meth c A hx hb hr hml hlk hts hown hP hK hD hA hX ls hl
  have hown : s.vm.findClass RX1 = some m.cls := hown
  have hP : va_P G vwCl [(x, .inr (1, [.ref h, .ref h2])), (h, .inr (0, [.ref n, .ref o, .ref d, .ref f, .int (nI w), .int dy])), (n, .inl (cI, 12, .inl nf)), (o, .inl (cI, 12, .inl uf)), (d, .inl (cI, 12, .inl df)), (f, .inl (cI, 12, .inl tf))] s.heap := hP
  have hD : va_D A [(x, .inr (1, [.ref h, .ref h2])), (h, .inr (0, [.ref n, .ref o, .ref d, .ref f, .int (nI w), .int dy])), (n, .inl (cI, 12, .inl nf)), (o, .inl (cI, 12, .inl uf)), (d, .inl (cI, 12, .inl df)), (f, .inl (cI, 12, .inl tf))] := hD
  have hS : va_S A s.heap s.heap [] := va_S.rf
  have hXn : ∀ (H : Heap) (locs : List Loc), va_S A s.heap H locs → fb_sx (fun _ => False) s H := fun H locs h9 => (hX.kept h9.2.1).narrow (fun _ z => z.elim)
  have hl : lv_has ls 4 [(0, .ref x), (1, .int (nI j)), (2, .int v)] := hl
  have hin0 : ∀ w ∈ u_ws RX0 TX0 6, w ∈ wsX1_setOften := by decide +kernel
  have hin1 : ∀ w ∈ u_ws RX1 TX1 2, w ∈ wsX1_setOften := by decide +kernel
  refine lv_iload_n hx hb dX1_setOften_0 rfl (lv_at hl 1 rfl) ?_
  refine fb_rvS (As := [.int (nI j)]) (rest := []) (n := 1) ⟨hx, hb, hml, hown, hts⟩ (fb_c_X1_checkRing l j (hj)) gX1_setOften_X1_checkRing rfl (by decide +kernel) (by decide) fb_Bl_T (fun _ _ _ => trivial) rfl hl.1 rfl (Nat.le_of_ble_eq_true rfl) dX1_setOften_1 (by decide) ?_
  refine lv_iload_n hx hb dX1_setOften_4 rfl (lv_at hl 2 rfl) ?_
  refine lv_iconst (v := 0) hx hb dX1_setOften_5 (by decide) ?_
  refine lv_bipush (v := 9) hx hb dX1_setOften_6 (by decide) ?_
  refine fb_rvS (As := [.int v, .int 0, .int 9]) (rest := []) (n := 3) ⟨hx, hb, hml, hown, hts⟩ (fb_c_X1_checkArgument l v 0 9 (fb_gv hv2)) gX1_setOften_X1_checkArgument rfl (by decide +kernel) (by decide) fb_Bl_T (fun _ _ _ => trivial) rfl hl.1 rfl (Nat.le_of_ble_eq_true rfl) dX1_setOften_8 (by decide) ?_
  refine lv_aload_n hx hb dX1_setOften_11 rfl (lv_at hl 0 rfl) ?_
  refine va_get (D := G) (ci := 1) (v := .ref h) (C := RX1) (T := TX1) (N := 2) hx hb hts (hin1) hown hK hP 0 rfl rfl 0 (by decide) (hts (.fieldLink RX1 10 "FifthBeats" "piano" "LFifthBeats$Piano;") (by decide +kernel)) (fun _ h9 => h9) rfl dX1_setOften_12 ?_
  refine va_get (D := G) (ci := 0) (v := .ref f) (C := RX0) (T := TX0) (N := 6) hx hb hts (hin0) hown hK hP 1 rfl rfl 3 (by decide) (hts (.fieldLink RX1 52 "FifthBeats$Piano" "often" "[I") (by decide +kernel)) (fun _ h9 => h9) rfl dX1_setOften_15 ?_
  refine lv_iload_n hx hb dX1_setOften_18 rfl (lv_at hl 1 rfl) ?_
  refine va_iald hx hb hK hP 5 0 rfl rfl (vp_in_nI hj (by decide)) dX1_setOften_19 ?_
  refine fb_ti (z := fb_rg tf j) (by rw [fb_cl (by omega), fb_rg_lt hj]) ?_
  refine lv_istore_n (lv' := [(3, .int (fb_rg tf j)), (0, .ref x), (1, .int (nI j)), (2, .int v)]) hx hb dX1_setOften_20 rfl hl (by decide) rfl (fun ls hl => ?_)
  refine lv_aload_n hx hb dX1_setOften_21 rfl (lv_at hl 1 rfl) ?_
  refine va_get (D := G) (ci := 1) (v := .ref h) (C := RX1) (T := TX1) (N := 2) hx hb hts (hin1) hown hK hP 0 rfl rfl 0 (by decide) (hts (.fieldLink RX1 10 "FifthBeats" "piano" "LFifthBeats$Piano;") (by decide +kernel)) (fun _ h9 => h9) rfl dX1_setOften_22 ?_
  refine va_get (D := G) (ci := 0) (v := .ref f) (C := RX0) (T := TX0) (N := 6) hx hb hts (hin0) hown hK hP 1 rfl rfl 3 (by decide) (hts (.fieldLink RX1 52 "FifthBeats$Piano" "often" "[I") (by decide +kernel)) (fun _ h9 => h9) rfl dX1_setOften_25 ?_
  refine lv_iload_n hx hb dX1_setOften_28 rfl (lv_at hl 2 rfl) ?_
  refine lv_iload_n hx hb dX1_setOften_29 rfl (lv_at hl 3 rfl) ?_
  refine va_iast hx hb hK hP hD hS 5 0 rfl rfl (vp_in_nI hj (by decide)) dX1_setOften_30 (fun H locs hP hD hS => ?_)
  rw [show (nI j).toNatClampNeg = j from fb_cl (by omega)] at hP hD
  have hP : va_P G vwCl [(x, .inr (1, [.ref h, .ref h2])), (h, .inr (0, [.ref n, .ref o, .ref d, .ref f, .int (nI w), .int dy])), (n, .inl (cI, 12, .inl nf)), (o, .inl (cI, 12, .inl uf)), (d, .inl (cI, 12, .inl df)), (f, .inl (cI, 12, .inl (upd tf j v)))] H := hP
  have hD : va_D A [(x, .inr (1, [.ref h, .ref h2])), (h, .inr (0, [.ref n, .ref o, .ref d, .ref f, .int (nI w), .int dy])), (n, .inl (cI, 12, .inl nf)), (o, .inl (cI, 12, .inl uf)), (d, .inl (cI, 12, .inl df)), (f, .inl (cI, 12, .inl (upd tf j v)))] := hD
  refine lv_iload_n hx hb dX1_setOften_31 rfl (lv_at hl 0 rfl) ?_
  have hP9 := hP.sub (ws' := [(x, .inr (1, [.ref h, .ref h2])), (h, .inr (0, [.ref n, .ref o, .ref d, .ref f, .int (nI w), .int dy])), (n, .inl (cI, 12, .inl nf)), (o, .inl (cI, 12, .inl uf)), (d, .inl (cI, 12, .inl df)), (f, .inl (cI, 12, .inl (upd tf j v)))]) [0, 1, 2, 3, 4, 5] (rfl)
  have hD9 := hD.sub (ws' := [(x, .inr (1, [.ref h, .ref h2])), (h, .inr (0, [.ref n, .ref o, .ref d, .ref f, .int (nI w), .int dy])), (n, .inl (cI, 12, .inl nf)), (o, .inl (cI, 12, .inl uf)), (d, .inl (cI, 12, .inl df)), (f, .inl (cI, 12, .inl (upd tf j v)))]) [0, 1, 2, 3, 4, 5] (by decide) (rfl)
  exact W.iret (v := fb_rg tf j) hx hb hr (fun t ht hW => ⟨⟨fb_rg tf j, (), rfl, rfl, by rw [ht]; exact hP9, hD9⟩, hS.F ht⟩) hS.2.2 dX1_setOften_32 hlk
set_option maxHeartbeats 4000000 in
set_option maxRecDepth 100000 in
theorem fb_c_X1_setDrift (l : Launch) (G : va_G) (cI cL : ClassId) (x h h2 n o d f : Nat) (nf uf df tf : Nat → Int32) (w : Nat) (dy : Int32) (j : Nat) (v : Int32) (hj : j < 12) (hv2 : ¬ (v < (-3) ∨ 3 < v)) (sz : Nat) : fb_MI l yX1_setDrift wsX1_setDrift 1 22 [.ref x, .int (nI j), .int v] G cI cL sz (fb_YW cI x h h2 n o d f nf uf df tf (nI w) dy) (fb_YW cI x h h2 n o d f nf uf (upd df j v) tf (nI w) dy) (fb_rg df j) := by
  refine fb_mi_of (cc := cX1_setDrift) (maxL := 4) (ret := (some .int)) (by decide) rfl (Nat.le_of_ble_eq_true rfl) ?_
  intro p e s m args below meth c A hx hb hr hml hlk hts hown hP hK hD hA hX ls hl
  have hown : s.vm.findClass RX1 = some m.cls := hown
  have hP : va_P G vwCl [(x, .inr (1, [.ref h, .ref h2])), (h, .inr (0, [.ref n, .ref o, .ref d, .ref f, .int (nI w), .int dy])), (n, .inl (cI, 12, .inl nf)), (o, .inl (cI, 12, .inl uf)), (d, .inl (cI, 12, .inl df)), (f, .inl (cI, 12, .inl tf))] s.heap := hP
  have hD : va_D A [(x, .inr (1, [.ref h, .ref h2])), (h, .inr (0, [.ref n, .ref o, .ref d, .ref f, .int (nI w), .int dy])), (n, .inl (cI, 12, .inl nf)), (o, .inl (cI, 12, .inl uf)), (d, .inl (cI, 12, .inl df)), (f, .inl (cI, 12, .inl tf))] := hD
  have hS : va_S A s.heap s.heap [] := va_S.rf
  have hXn : ∀ (H : Heap) (locs : List Loc), va_S A s.heap H locs → fb_sx (fun _ => False) s H := fun H locs h9 => (hX.kept h9.2.1).narrow (fun _ z => z.elim)
  have hl : lv_has ls 4 [(0, .ref x), (1, .int (nI j)), (2, .int v)] := hl
  have hin0 : ∀ w ∈ u_ws RX0 TX0 6, w ∈ wsX1_setDrift := by decide +kernel
  have hin1 : ∀ w ∈ u_ws RX1 TX1 2, w ∈ wsX1_setDrift := by decide +kernel
  refine lv_iload_n hx hb dX1_setDrift_0 rfl (lv_at hl 1 rfl) ?_
  refine fb_rvS (As := [.int (nI j)]) (rest := []) (n := 1) ⟨hx, hb, hml, hown, hts⟩ (fb_c_X1_checkRing l j (hj)) gX1_setDrift_X1_checkRing rfl (by decide +kernel) (by decide) fb_Bl_T (fun _ _ _ => trivial) rfl hl.1 rfl (Nat.le_of_ble_eq_true rfl) dX1_setDrift_1 (by decide) ?_
  refine lv_iload_n hx hb dX1_setDrift_4 rfl (lv_at hl 2 rfl) ?_
  refine lv_bipush (v := (-3)) hx hb dX1_setDrift_5 (by decide) ?_
  refine lv_iconst (v := 3) hx hb dX1_setDrift_7 (by decide) ?_
  refine fb_rvS (As := [.int v, .int (-3), .int 3]) (rest := []) (n := 3) ⟨hx, hb, hml, hown, hts⟩ (fb_c_X1_checkArgument l v (-3) 3 (fb_gv hv2)) gX1_setDrift_X1_checkArgument rfl (by decide +kernel) (by decide) fb_Bl_T (fun _ _ _ => trivial) rfl hl.1 rfl (Nat.le_of_ble_eq_true rfl) dX1_setDrift_8 (by decide) ?_
  refine lv_aload_n hx hb dX1_setDrift_11 rfl (lv_at hl 0 rfl) ?_
  refine va_get (D := G) (ci := 1) (v := .ref h) (C := RX1) (T := TX1) (N := 2) hx hb hts (hin1) hown hK hP 0 rfl rfl 0 (by decide) (hts (.fieldLink RX1 10 "FifthBeats" "piano" "LFifthBeats$Piano;") (by decide +kernel)) (fun _ h9 => h9) rfl dX1_setDrift_12 ?_
  refine va_get (D := G) (ci := 0) (v := .ref d) (C := RX0) (T := TX0) (N := 6) hx hb hts (hin0) hown hK hP 1 rfl rfl 2 (by decide) (hts (.fieldLink RX1 55 "FifthBeats$Piano" "drift" "[I") (by decide +kernel)) (fun _ h9 => h9) rfl dX1_setDrift_15 ?_
  refine lv_iload_n hx hb dX1_setDrift_18 rfl (lv_at hl 1 rfl) ?_
  refine va_iald hx hb hK hP 4 0 rfl rfl (vp_in_nI hj (by decide)) dX1_setDrift_19 ?_
  refine fb_ti (z := fb_rg df j) (by rw [fb_cl (by omega), fb_rg_lt hj]) ?_
  refine lv_istore_n (lv' := [(3, .int (fb_rg df j)), (0, .ref x), (1, .int (nI j)), (2, .int v)]) hx hb dX1_setDrift_20 rfl hl (by decide) rfl (fun ls hl => ?_)
  refine lv_aload_n hx hb dX1_setDrift_21 rfl (lv_at hl 1 rfl) ?_
  refine va_get (D := G) (ci := 1) (v := .ref h) (C := RX1) (T := TX1) (N := 2) hx hb hts (hin1) hown hK hP 0 rfl rfl 0 (by decide) (hts (.fieldLink RX1 10 "FifthBeats" "piano" "LFifthBeats$Piano;") (by decide +kernel)) (fun _ h9 => h9) rfl dX1_setDrift_22 ?_
  refine va_get (D := G) (ci := 0) (v := .ref d) (C := RX0) (T := TX0) (N := 6) hx hb hts (hin0) hown hK hP 1 rfl rfl 2 (by decide) (hts (.fieldLink RX1 55 "FifthBeats$Piano" "drift" "[I") (by decide +kernel)) (fun _ h9 => h9) rfl dX1_setDrift_25 ?_
  refine lv_iload_n hx hb dX1_setDrift_28 rfl (lv_at hl 2 rfl) ?_
  refine lv_iload_n hx hb dX1_setDrift_29 rfl (lv_at hl 3 rfl) ?_
  refine va_iast hx hb hK hP hD hS 4 0 rfl rfl (vp_in_nI hj (by decide)) dX1_setDrift_30 (fun H locs hP hD hS => ?_)
  rw [show (nI j).toNatClampNeg = j from fb_cl (by omega)] at hP hD
  have hP : va_P G vwCl [(x, .inr (1, [.ref h, .ref h2])), (h, .inr (0, [.ref n, .ref o, .ref d, .ref f, .int (nI w), .int dy])), (n, .inl (cI, 12, .inl nf)), (o, .inl (cI, 12, .inl uf)), (d, .inl (cI, 12, .inl (upd df j v))), (f, .inl (cI, 12, .inl tf))] H := hP
  have hD : va_D A [(x, .inr (1, [.ref h, .ref h2])), (h, .inr (0, [.ref n, .ref o, .ref d, .ref f, .int (nI w), .int dy])), (n, .inl (cI, 12, .inl nf)), (o, .inl (cI, 12, .inl uf)), (d, .inl (cI, 12, .inl (upd df j v))), (f, .inl (cI, 12, .inl tf))] := hD
  refine lv_iload_n hx hb dX1_setDrift_31 rfl (lv_at hl 0 rfl) ?_
  have hP9 := hP.sub (ws' := [(x, .inr (1, [.ref h, .ref h2])), (h, .inr (0, [.ref n, .ref o, .ref d, .ref f, .int (nI w), .int dy])), (n, .inl (cI, 12, .inl nf)), (o, .inl (cI, 12, .inl uf)), (d, .inl (cI, 12, .inl (upd df j v))), (f, .inl (cI, 12, .inl tf))]) [0, 1, 2, 3, 4, 5] (rfl)
  have hD9 := hD.sub (ws' := [(x, .inr (1, [.ref h, .ref h2])), (h, .inr (0, [.ref n, .ref o, .ref d, .ref f, .int (nI w), .int dy])), (n, .inl (cI, 12, .inl nf)), (o, .inl (cI, 12, .inl uf)), (d, .inl (cI, 12, .inl (upd df j v))), (f, .inl (cI, 12, .inl tf))]) [0, 1, 2, 3, 4, 5] (by decide) (rfl)
  exact W.iret (v := fb_rg df j) hx hb hr (fun t ht hW => ⟨⟨fb_rg df j, (), rfl, rfl, by rw [ht]; exact hP9, hD9⟩, hS.F ht⟩) hS.2.2 dX1_setDrift_32 hlk
set_option maxHeartbeats 4000000 in
set_option maxRecDepth 100000 in
theorem fb_c_X1_tune (l : Launch) (G : va_G) (cI cL : ClassId) (x h h2 n o d f : Nat) (nf uf df tf : Nat → Int32) (w : Nat) (dy : Int32) (j : Nat) (hj : j < 12) (hjw : ¬ (j + 11) % 12 = w) (hw : w < 12) (sz : Nat) : fb_MI l yX1_tune wsX1_tune 2 45 [.ref x, .int (nI j)] G cI cL sz (fb_YW cI x h h2 n o d f nf uf df tf (nI w) dy) (fb_YW cI x h h2 n o d f nf (fb_t1 uf j) df tf (nI w) dy) (fb_tr uf j) := by
  refine fb_mi_of (cc := cX1_tune) (maxL := 2) (ret := (some .int)) (by decide) rfl (Nat.le_of_ble_eq_true rfl) ?_
  intro p e s m args below meth c A hx hb hr hml hlk hts hown hP hK hD hA hX ls hl
  have hown : s.vm.findClass RX1 = some m.cls := hown
  have hP : va_P G vwCl [(x, .inr (1, [.ref h, .ref h2])), (h, .inr (0, [.ref n, .ref o, .ref d, .ref f, .int (nI w), .int dy])), (n, .inl (cI, 12, .inl nf)), (o, .inl (cI, 12, .inl uf)), (d, .inl (cI, 12, .inl df)), (f, .inl (cI, 12, .inl tf))] s.heap := hP
  have hD : va_D A [(x, .inr (1, [.ref h, .ref h2])), (h, .inr (0, [.ref n, .ref o, .ref d, .ref f, .int (nI w), .int dy])), (n, .inl (cI, 12, .inl nf)), (o, .inl (cI, 12, .inl uf)), (d, .inl (cI, 12, .inl df)), (f, .inl (cI, 12, .inl tf))] := hD
  have hS : va_S A s.heap s.heap [] := va_S.rf
  have hXn : ∀ (H : Heap) (locs : List Loc), va_S A s.heap H locs → fb_sx (fun _ => False) s H := fun H locs h9 => (hX.kept h9.2.1).narrow (fun _ z => z.elim)
  have hl : lv_has ls 2 [(0, .ref x), (1, .int (nI j))] := hl
  have hin0 : ∀ w ∈ u_ws RX0 TX0 6, w ∈ wsX1_tune := by decide +kernel
  have hin1 : ∀ w ∈ u_ws RX1 TX1 2, w ∈ wsX1_tune := by decide +kernel
  refine lv_iload_n hx hb dX1_tune_0 rfl (lv_at hl 1 rfl) ?_
  refine fb_rvS (As := [.int (nI j)]) (rest := []) (n := 1) ⟨hx, hb, hml, hown, hts⟩ (fb_c_X1_checkRing l j (hj)) gX1_tune_X1_checkRing rfl (by decide +kernel) (by decide) fb_Bl_T (fun _ _ _ => trivial) rfl hl.1 rfl (Nat.le_of_ble_eq_true rfl) dX1_tune_1 (by decide) ?_
  refine lv_aload_n hx hb dX1_tune_4 rfl (lv_at hl 0 rfl) ?_
  refine va_get (D := G) (ci := 1) (v := .ref h) (C := RX1) (T := TX1) (N := 2) hx hb hts (hin1) hown hK hP 0 rfl rfl 0 (by decide) (hts (.fieldLink RX1 10 "FifthBeats" "piano" "LFifthBeats$Piano;") (by decide +kernel)) (fun _ h9 => h9) rfl dX1_tune_5 ?_
  refine lv_iload_n hx hb dX1_tune_8 rfl (lv_at hl 1 rfl) ?_
  refine fb_roV (As := [.int (nI j)]) (rest := []) (n := 1) ⟨hx, hb, hml, hown, hts⟩ (fb_c_X0_canTune l G cI cL h n o d f nf uf df tf w dy j hj hw) gX1_tune_X0_canTune rfl (by decide +kernel) (by decide) (fb_PB.bl _ _ _ _) (va_recv hK hP (ci := 0) (q0 := 1) rfl rfl) (fb_PB.to (hP.sub (ws' := [(h, .inr (0, [.ref n, .ref o, .ref d, .ref f, .int (nI w), .int dy])), (n, .inl (cI, 12, .inl nf)), (o, .inl (cI, 12, .inl uf)), (d, .inl (cI, 12, .inl df)), (f, .inl (cI, 12, .inl tf))]) [1, 2, 3, 4, 5] rfl) hK (hXn _ _ hS)) rfl hl.1 rfl (Nat.le_of_ble_eq_true rfl) dX1_tune_9 (by decide) ?_
  refine fb_ti (z := 1) (if_neg hjw) ?_
  refine lv_if_ne (tgt := 25) hx hb dX1_tune_12 (by decide) (fun c12 => ?_) (fun c12 => ?_)
  · skip
    refine lv_aload_n hx hb dX1_tune_25 rfl (lv_at hl 0 rfl) ?_
    refine va_get (D := G) (ci := 1) (v := .ref h) (C := RX1) (T := TX1) (N := 2) hx hb hts (hin1) hown hK hP 0 rfl rfl 0 (by decide) (hts (.fieldLink RX1 10 "FifthBeats" "piano" "LFifthBeats$Piano;") (by decide +kernel)) (fun _ h9 => h9) rfl dX1_tune_26 ?_
    refine lv_iload_n hx hb dX1_tune_29 rfl (lv_at hl 1 rfl) ?_
    refine fb_miV (As := [.int (nI j)]) (rest := []) (n := 1) (wr := [(x, .inr (1, [.ref h, .ref h2]))]) (wz := [(x, .inr (1, [.ref h, .ref h2])), (h, .inr (0, [.ref n, .ref o, .ref d, .ref f, .int (nI w), .int dy])), (n, .inl (cI, 12, .inl nf)), (o, .inl (cI, 12, .inl (fb_t1 uf j))), (d, .inl (cI, 12, .inl df)), (f, .inl (cI, 12, .inl tf))]) ⟨hx, hb, hml, hown, hts⟩ (fb_c_X0_tuneOne l G cI cL h n o d f nf uf df tf w dy j (by omega) _) gX1_tune_X0_tuneOne rfl (by decide +kernel) (by decide) (va_recv hK hP (ci := 0) (q0 := 1) rfl rfl) hP hK hD hS hA hX [1, 2, 3, 4, 5] [0] [0, 1, 2, 3, 4, 5] rfl rfl rfl rfl rfl rfl (by decide) rfl hl.1 rfl (Nat.le_of_ble_eq_true rfl) dX1_tune_30 (by decide) (fun H locs hP hD hS => ?_)
    have hP9 := hP.sub (ws' := [(x, .inr (1, [.ref h, .ref h2])), (h, .inr (0, [.ref n, .ref o, .ref d, .ref f, .int (nI w), .int dy])), (n, .inl (cI, 12, .inl nf)), (o, .inl (cI, 12, .inl (fb_t1 uf j))), (d, .inl (cI, 12, .inl df)), (f, .inl (cI, 12, .inl tf))]) [0, 1, 2, 3, 4, 5] (rfl)
    have hD9 := hD.sub (ws' := [(x, .inr (1, [.ref h, .ref h2])), (h, .inr (0, [.ref n, .ref o, .ref d, .ref f, .int (nI w), .int dy])), (n, .inl (cI, 12, .inl nf)), (o, .inl (cI, 12, .inl (fb_t1 uf j))), (d, .inl (cI, 12, .inl df)), (f, .inl (cI, 12, .inl tf))]) [0, 1, 2, 3, 4, 5] (by decide) (rfl)
    exact W.iret (v := fb_tr uf j) hx hb hr (fun t ht hW => ⟨⟨fb_tr uf j, (), rfl, rfl, by rw [ht]; exact hP9, hD9⟩, hS.F ht⟩) hS.2.2 dX1_tune_33 hlk
  · skip
    first | exact absurd c12 (by decide) | exact absurd (by decide) c12
set_option maxHeartbeats 4000000 in
set_option maxRecDepth 100000 in
theorem fb_c_X1_tuneAll (l : Launch) (G : va_G) (cI cL : ClassId) (x h h2 n o d f : Nat) (nf uf df tf : Nat → Int32) (w : Nat) (dy : Int32) (hw : w < 12) (sz : Nat) : fb_MI l yX1_tuneAll wsX1_tuneAll 3 67 [.ref x] G cI cL sz (fb_YW cI x h h2 n o d f nf uf df tf (nI w) dy) (fb_YW cI x h h2 n o d f nf (fb_tu uf w 11) df tf (nI w) dy) (fb_tc uf w 11) := by
  refine fb_mi_of (cc := cX1_tuneAll) (maxL := 1) (ret := (some .int)) (by decide) rfl (Nat.le_of_ble_eq_true rfl) ?_
  intro p e s m args below meth c A hx hb hr hml hlk hts hown hP hK hD hA hX ls hl
  have hown : s.vm.findClass RX1 = some m.cls := hown
  have hP : va_P G vwCl [(x, .inr (1, [.ref h, .ref h2])), (h, .inr (0, [.ref n, .ref o, .ref d, .ref f, .int (nI w), .int dy])), (n, .inl (cI, 12, .inl nf)), (o, .inl (cI, 12, .inl uf)), (d, .inl (cI, 12, .inl df)), (f, .inl (cI, 12, .inl tf))] s.heap := hP
  have hD : va_D A [(x, .inr (1, [.ref h, .ref h2])), (h, .inr (0, [.ref n, .ref o, .ref d, .ref f, .int (nI w), .int dy])), (n, .inl (cI, 12, .inl nf)), (o, .inl (cI, 12, .inl uf)), (d, .inl (cI, 12, .inl df)), (f, .inl (cI, 12, .inl tf))] := hD
  have hS : va_S A s.heap s.heap [] := va_S.rf
  have hXn : ∀ (H : Heap) (locs : List Loc), va_S A s.heap H locs → fb_sx (fun _ => False) s H := fun H locs h9 => (hX.kept h9.2.1).narrow (fun _ z => z.elim)
  have hl : lv_has ls 1 [(0, .ref x)] := hl
  have hin0 : ∀ w ∈ u_ws RX0 TX0 6, w ∈ wsX1_tuneAll := by decide +kernel
  have hin1 : ∀ w ∈ u_ws RX1 TX1 2, w ∈ wsX1_tuneAll := by decide +kernel
  refine lv_aload_n hx hb dX1_tuneAll_0 rfl (lv_at hl 0 rfl) ?_
  refine va_get (D := G) (ci := 1) (v := .ref h) (C := RX1) (T := TX1) (N := 2) hx hb hts (hin1) hown hK hP 0 rfl rfl 0 (by decide) (hts (.fieldLink RX1 10 "FifthBeats" "piano" "LFifthBeats$Piano;") (by decide +kernel)) (fun _ h9 => h9) rfl dX1_tuneAll_1 ?_
  refine fb_miV (As := []) (rest := []) (n := 0) (wr := [(x, .inr (1, [.ref h, .ref h2]))]) (wz := [(x, .inr (1, [.ref h, .ref h2])), (h, .inr (0, [.ref n, .ref o, .ref d, .ref f, .int (nI w), .int dy])), (n, .inl (cI, 12, .inl nf)), (o, .inl (cI, 12, .inl (fb_tu uf w 11))), (d, .inl (cI, 12, .inl df)), (f, .inl (cI, 12, .inl tf))]) ⟨hx, hb, hml, hown, hts⟩ (fb_c_X0_tuneRound l G cI cL h n o d f nf uf df tf w dy hw _) gX1_tuneAll_X0_tuneRound rfl (by decide +kernel) (by decide) (va_recv hK hP (ci := 0) (q0 := 1) rfl rfl) hP hK hD hS hA hX [1, 2, 3, 4, 5] [0] [0, 1, 2, 3, 4, 5] rfl rfl rfl rfl rfl rfl (by decide) rfl hl.1 rfl (Nat.le_of_ble_eq_true rfl) dX1_tuneAll_4 (by decide) (fun H locs hP hD hS => ?_)
  have hP9 := hP.sub (ws' := [(x, .inr (1, [.ref h, .ref h2])), (h, .inr (0, [.ref n, .ref o, .ref d, .ref f, .int (nI w), .int dy])), (n, .inl (cI, 12, .inl nf)), (o, .inl (cI, 12, .inl (fb_tu uf w 11))), (d, .inl (cI, 12, .inl df)), (f, .inl (cI, 12, .inl tf))]) [0, 1, 2, 3, 4, 5] (rfl)
  have hD9 := hD.sub (ws' := [(x, .inr (1, [.ref h, .ref h2])), (h, .inr (0, [.ref n, .ref o, .ref d, .ref f, .int (nI w), .int dy])), (n, .inl (cI, 12, .inl nf)), (o, .inl (cI, 12, .inl (fb_tu uf w 11))), (d, .inl (cI, 12, .inl df)), (f, .inl (cI, 12, .inl tf))]) [0, 1, 2, 3, 4, 5] (by decide) (rfl)
  exact W.iret (v := fb_tc uf w 11) hx hb hr (fun t ht hW => ⟨⟨fb_tc uf w 11, (), rfl, rfl, by rw [ht]; exact hP9, hD9⟩, hS.F ht⟩) hS.2.2 dX1_tuneAll_7 hlk
set_option maxHeartbeats 4000000 in
set_option maxRecDepth 100000 in
theorem fb_c_X1_sweeten (l : Launch) (G : va_G) (cI cL : ClassId) (x h h2 n o d f : Nat) (nf uf df tf : Nat → Int32) (w : Nat) (dy : Int32) (j : Nat) (hj : j < 12) (hv2 : ¬ ((fb_rg uf) (j + 4) - fb_mj (fb_rg nf) (fb_rg uf) j 4 < (-50) ∨ 50 < (fb_rg uf) (j + 4) - fb_mj (fb_rg nf) (fb_rg uf) j 4)) (sz : Nat) : fb_MI l yX1_sweeten wsX1_sweeten 4 89 [.ref x, .int (nI j)] G cI cL sz (fb_YW cI x h h2 n o d f nf uf df tf (nI w) dy) (fb_YW cI x h h2 n o d f nf (upd uf ((j + 4) % 12) ((fb_rg uf) (j + 4) - fb_mj (fb_rg nf) (fb_rg uf) j 4)) df tf (nI w) dy) ((fb_rg uf) (j + 4) - fb_mj (fb_rg nf) (fb_rg uf) j 4) := by
  refine fb_mi_of (cc := cX1_sweeten) (maxL := 3) (ret := (some .int)) (by decide) rfl (Nat.le_of_ble_eq_true rfl) ?_
  intro p e s m args below meth c A hx hb hr hml hlk hts hown hP hK hD hA hX ls hl
  have hown : s.vm.findClass RX1 = some m.cls := hown
  have hP : va_P G vwCl [(x, .inr (1, [.ref h, .ref h2])), (h, .inr (0, [.ref n, .ref o, .ref d, .ref f, .int (nI w), .int dy])), (n, .inl (cI, 12, .inl nf)), (o, .inl (cI, 12, .inl uf)), (d, .inl (cI, 12, .inl df)), (f, .inl (cI, 12, .inl tf))] s.heap := hP
  have hD : va_D A [(x, .inr (1, [.ref h, .ref h2])), (h, .inr (0, [.ref n, .ref o, .ref d, .ref f, .int (nI w), .int dy])), (n, .inl (cI, 12, .inl nf)), (o, .inl (cI, 12, .inl uf)), (d, .inl (cI, 12, .inl df)), (f, .inl (cI, 12, .inl tf))] := hD
  have hS : va_S A s.heap s.heap [] := va_S.rf
  have hXn : ∀ (H : Heap) (locs : List Loc), va_S A s.heap H locs → fb_sx (fun _ => False) s H := fun H locs h9 => (hX.kept h9.2.1).narrow (fun _ z => z.elim)
  have hl : lv_has ls 3 [(0, .ref x), (1, .int (nI j))] := hl
  have hin0 : ∀ w ∈ u_ws RX0 TX0 6, w ∈ wsX1_sweeten := by decide +kernel
  have hin1 : ∀ w ∈ u_ws RX1 TX1 2, w ∈ wsX1_sweeten := by decide +kernel
  refine lv_iload_n hx hb dX1_sweeten_0 rfl (lv_at hl 1 rfl) ?_
  refine fb_rvS (As := [.int (nI j)]) (rest := []) (n := 1) ⟨hx, hb, hml, hown, hts⟩ (fb_c_X1_checkRing l j (hj)) gX1_sweeten_X1_checkRing rfl (by decide +kernel) (by decide) fb_Bl_T (fun _ _ _ => trivial) rfl hl.1 rfl (Nat.le_of_ble_eq_true rfl) dX1_sweeten_1 (by decide) ?_
  refine lv_aload_n hx hb dX1_sweeten_4 rfl (lv_at hl 0 rfl) ?_
  refine va_get (D := G) (ci := 1) (v := .ref h) (C := RX1) (T := TX1) (N := 2) hx hb hts (hin1) hown hK hP 0 rfl rfl 0 (by decide) (hts (.fieldLink RX1 10 "FifthBeats" "piano" "LFifthBeats$Piano;") (by decide +kernel)) (fun _ h9 => h9) rfl dX1_sweeten_5 ?_
  refine lv_iload_n hx hb dX1_sweeten_8 rfl (lv_at hl 1 rfl) ?_
  refine fb_roV (As := [.int (nI j)]) (rest := []) (n := 1) ⟨hx, hb, hml, hown, hts⟩ (fb_c_X0_offForPureMajor l G cI cL h n o d f nf uf df tf w dy j (by omega)) gX1_sweeten_X0_offForPureMajor rfl (by decide +kernel) (by decide) (fb_PB.bl _ _ _ _) (va_recv hK hP (ci := 0) (q0 := 1) rfl rfl) (fb_PB.to (hP.sub (ws' := [(h, .inr (0, [.ref n, .ref o, .ref d, .ref f, .int (nI w), .int dy])), (n, .inl (cI, 12, .inl nf)), (o, .inl (cI, 12, .inl uf)), (d, .inl (cI, 12, .inl df)), (f, .inl (cI, 12, .inl tf))]) [1, 2, 3, 4, 5] rfl) hK (hXn _ _ hS)) rfl hl.1 rfl (Nat.le_of_ble_eq_true rfl) dX1_sweeten_9 (by decide) ?_
  refine lv_istore_n (lv' := [(2, .int ((fb_rg uf) (j + 4) - fb_mj (fb_rg nf) (fb_rg uf) j 4)), (0, .ref x), (1, .int (nI j))]) hx hb dX1_sweeten_12 rfl hl (by decide) rfl (fun ls hl => ?_)
  refine lv_iload_n hx hb dX1_sweeten_13 rfl (lv_at hl 0 rfl) ?_
  refine lv_bipush (v := (-50)) hx hb dX1_sweeten_14 (by decide) ?_
  refine lv_icmp_lt (tgt := 25) hx hb dX1_sweeten_16 (by decide) (fun c16 => ?_) (fun c16 => ?_)
  · skip
    exact absurd c16 (fun e => hv2 (Or.inl e))
  · skip
    refine lv_iload_n hx hb dX1_sweeten_19 rfl (lv_at hl 0 rfl) ?_
    refine lv_bipush (v := 50) hx hb dX1_sweeten_20 (by decide) ?_
    refine lv_icmp_le (tgt := 35) hx hb dX1_sweeten_22 (by decide) (fun c22 => ?_) (fun c22 => ?_)
    · skip
      refine lv_aload_n hx hb dX1_sweeten_35 rfl (lv_at hl 1 rfl) ?_
      refine va_get (D := G) (ci := 1) (v := .ref h) (C := RX1) (T := TX1) (N := 2) hx hb hts (hin1) hown hK hP 0 rfl rfl 0 (by decide) (hts (.fieldLink RX1 10 "FifthBeats" "piano" "LFifthBeats$Piano;") (by decide +kernel)) (fun _ h9 => h9) rfl dX1_sweeten_36 ?_
      refine va_get (D := G) (ci := 0) (v := .ref o) (C := RX0) (T := TX0) (N := 6) hx hb hts (hin0) hown hK hP 1 rfl rfl 1 (by decide) (hts (.fieldLink RX1 81 "FifthBeats$Piano" "off" "[I") (by decide +kernel)) (fun _ h9 => h9) rfl dX1_sweeten_39 ?_
      refine lv_iload_n hx hb dX1_sweeten_42 rfl (lv_at hl 2 rfl) ?_
      refine lv_iconst (v := 4) hx hb dX1_sweeten_43 (by decide) ?_
      refine lv_iadd hx hb dX1_sweeten_44 ?_
      refine fb_ti (z := nI (j + 4)) (nI_add j 4) ?_
      refine lv_bipush (v := 12) hx hb dX1_sweeten_45 (by decide) ?_
      refine fb_roS (As := [.int (nI (j + 4)), .int 12]) (rest := [.ref o]) (n := 2) ⟨hx, hb, hml, hown, hts⟩ (fb_c_J9_floorMod l (nI (j + 4)) 12 (by decide)) gX1_sweeten_J9_floorMod_7cf53 rfl (by decide +kernel) (by decide) fb_Bl_T (fun _ _ _ => trivial) rfl hl.1 rfl (Nat.le_of_ble_eq_true rfl) dX1_sweeten_47 (by decide) ?_
      refine fb_ti (z := nI ((j + 4) % 12)) (fb_fm_12 (by omega)) ?_
      refine lv_iload_n hx hb dX1_sweeten_50 rfl (lv_at hl 0 rfl) ?_
      refine va_iast hx hb hK hP hD hS 3 0 rfl rfl (vp_in_nI (Nat.mod_lt _ (by decide)) (by decide)) dX1_sweeten_51 (fun H locs hP hD hS => ?_)
      rw [show (nI ((j + 4) % 12)).toNatClampNeg = ((j + 4) % 12) from fb_cl (by omega)] at hP hD
      have hP : va_P G vwCl [(x, .inr (1, [.ref h, .ref h2])), (h, .inr (0, [.ref n, .ref o, .ref d, .ref f, .int (nI w), .int dy])), (n, .inl (cI, 12, .inl nf)), (o, .inl (cI, 12, .inl (upd uf ((j + 4) % 12) ((fb_rg uf) (j + 4) - fb_mj (fb_rg nf) (fb_rg uf) j 4)))), (d, .inl (cI, 12, .inl df)), (f, .inl (cI, 12, .inl tf))] H := hP
      have hD : va_D A [(x, .inr (1, [.ref h, .ref h2])), (h, .inr (0, [.ref n, .ref o, .ref d, .ref f, .int (nI w), .int dy])), (n, .inl (cI, 12, .inl nf)), (o, .inl (cI, 12, .inl (upd uf ((j + 4) % 12) ((fb_rg uf) (j + 4) - fb_mj (fb_rg nf) (fb_rg uf) j 4)))), (d, .inl (cI, 12, .inl df)), (f, .inl (cI, 12, .inl tf))] := hD
      refine lv_iload_n hx hb dX1_sweeten_52 rfl (lv_at hl 0 rfl) ?_
      have hP9 := hP.sub (ws' := [(x, .inr (1, [.ref h, .ref h2])), (h, .inr (0, [.ref n, .ref o, .ref d, .ref f, .int (nI w), .int dy])), (n, .inl (cI, 12, .inl nf)), (o, .inl (cI, 12, .inl (upd uf ((j + 4) % 12) ((fb_rg uf) (j + 4) - fb_mj (fb_rg nf) (fb_rg uf) j 4)))), (d, .inl (cI, 12, .inl df)), (f, .inl (cI, 12, .inl tf))]) [0, 1, 2, 3, 4, 5] (rfl)
      have hD9 := hD.sub (ws' := [(x, .inr (1, [.ref h, .ref h2])), (h, .inr (0, [.ref n, .ref o, .ref d, .ref f, .int (nI w), .int dy])), (n, .inl (cI, 12, .inl nf)), (o, .inl (cI, 12, .inl (upd uf ((j + 4) % 12) ((fb_rg uf) (j + 4) - fb_mj (fb_rg nf) (fb_rg uf) j 4)))), (d, .inl (cI, 12, .inl df)), (f, .inl (cI, 12, .inl tf))]) [0, 1, 2, 3, 4, 5] (by decide) (rfl)
      exact W.iret (v := (fb_rg uf) (j + 4) - fb_mj (fb_rg nf) (fb_rg uf) j 4) hx hb hr (fun t ht hW => ⟨⟨(fb_rg uf) (j + 4) - fb_mj (fb_rg nf) (fb_rg uf) j 4, (), rfl, rfl, by rw [ht]; exact hP9, hD9⟩, hS.F ht⟩) hS.2.2 dX1_sweeten_53 hlk
    · skip
      exact absurd (Int32.not_lt.mp (fun e => hv2 (Or.inr e))) c22
set_option maxHeartbeats 4000000 in
set_option maxRecDepth 100000 in
theorem fb_c_X1_pass (l : Launch) (G : va_G) (cI cL : ClassId) (x h h2 n o d f : Nat) (nf uf df tf : Nat → Int32) (w : Nat) (dy : Int32) (q : Nat) (hq : 1 ≤ q) (hq2 : q ≤ 100) (sz : Nat) : fb_MI l yX1_pass wsX1_pass 2 44 [.ref x, .int (nI q)] G cI cL sz (fb_YW cI x h h2 n o d f nf uf df tf (nI w) dy) (fb_YW cI x h h2 n o d f nf (fb_dy df uf q) df tf (nI w) (dy + nI q)) (fb_mo (fb_rg (fb_dy df uf q)) 12) := by
  refine fb_mi_of (cc := cX1_pass) (maxL := 2) (ret := (some .int)) (by decide) rfl (Nat.le_of_ble_eq_true rfl) ?_
  intro p e s m args below meth c A hx hb hr hml hlk hts hown hP hK hD hA hX ls hl
  have hown : s.vm.findClass RX1 = some m.cls := hown
  have hP : va_P G vwCl [(x, .inr (1, [.ref h, .ref h2])), (h, .inr (0, [.ref n, .ref o, .ref d, .ref f, .int (nI w), .int dy])), (n, .inl (cI, 12, .inl nf)), (o, .inl (cI, 12, .inl uf)), (d, .inl (cI, 12, .inl df)), (f, .inl (cI, 12, .inl tf))] s.heap := hP
  have hD : va_D A [(x, .inr (1, [.ref h, .ref h2])), (h, .inr (0, [.ref n, .ref o, .ref d, .ref f, .int (nI w), .int dy])), (n, .inl (cI, 12, .inl nf)), (o, .inl (cI, 12, .inl uf)), (d, .inl (cI, 12, .inl df)), (f, .inl (cI, 12, .inl tf))] := hD
  have hS : va_S A s.heap s.heap [] := va_S.rf
  have hXn : ∀ (H : Heap) (locs : List Loc), va_S A s.heap H locs → fb_sx (fun _ => False) s H := fun H locs h9 => (hX.kept h9.2.1).narrow (fun _ z => z.elim)
  have hl : lv_has ls 2 [(0, .ref x), (1, .int (nI q))] := hl
  have hin0 : ∀ w ∈ u_ws RX0 TX0 6, w ∈ wsX1_pass := by decide +kernel
  have hin1 : ∀ w ∈ u_ws RX1 TX1 2, w ∈ wsX1_pass := by decide +kernel
  refine lv_iload_n hx hb dX1_pass_0 rfl (lv_at hl 1 rfl) ?_
  refine lv_iconst (v := 1) hx hb dX1_pass_1 (by decide) ?_
  refine lv_bipush (v := 100) hx hb dX1_pass_2 (by decide) ?_
  refine fb_rvS (As := [.int (nI q), .int 1, .int 100]) (rest := []) (n := 3) ⟨hx, hb, hml, hown, hts⟩ (fb_c_X1_checkArgument l (nI q) 1 100 (fb_g1 hq hq2 (by decide))) gX1_pass_X1_checkArgument rfl (by decide +kernel) (by decide) fb_Bl_T (fun _ _ _ => trivial) rfl hl.1 rfl (Nat.le_of_ble_eq_true rfl) dX1_pass_4 (by decide) ?_
  refine lv_aload_n hx hb dX1_pass_7 rfl (lv_at hl 0 rfl) ?_
  refine va_get (D := G) (ci := 1) (v := .ref h) (C := RX1) (T := TX1) (N := 2) hx hb hts (hin1) hown hK hP 0 rfl rfl 0 (by decide) (hts (.fieldLink RX1 10 "FifthBeats" "piano" "LFifthBeats$Piano;") (by decide +kernel)) (fun _ h9 => h9) rfl dX1_pass_8 ?_
  refine lv_iload_n hx hb dX1_pass_11 rfl (lv_at hl 1 rfl) ?_
  refine fb_mvV (As := [.int (nI q)]) (rest := []) (n := 1) (wr := [(x, .inr (1, [.ref h, .ref h2]))]) (wz := [(x, .inr (1, [.ref h, .ref h2])), (h, .inr (0, [.ref n, .ref o, .ref d, .ref f, .int (nI w), .int (dy + nI q)])), (n, .inl (cI, 12, .inl nf)), (o, .inl (cI, 12, .inl (fb_dy df uf q))), (d, .inl (cI, 12, .inl df)), (f, .inl (cI, 12, .inl tf))]) ⟨hx, hb, hml, hown, hts⟩ (fb_c_X0_letPass l G cI cL h n o d f nf uf df tf w dy q (by omega) _) gX1_pass_X0_letPass rfl (by decide +kernel) (by decide) (va_recv hK hP (ci := 0) (q0 := 1) rfl rfl) hP hK hD hS hA hX [1, 2, 3, 4, 5] [0] [0, 1, 2, 3, 4, 5] rfl rfl rfl rfl rfl rfl (by decide) rfl hl.1 rfl (Nat.le_of_ble_eq_true rfl) dX1_pass_12 (by decide) (fun H locs hP hD hS => ?_)
  refine lv_aload_n hx hb dX1_pass_15 rfl (lv_at hl 0 rfl) ?_
  refine va_get (D := G) (ci := 1) (v := .ref h) (C := RX1) (T := TX1) (N := 2) hx hb hts (hin1) hown hK hP 0 rfl rfl 0 (by decide) (hts (.fieldLink RX1 10 "FifthBeats" "piano" "LFifthBeats$Piano;") (by decide +kernel)) (fun _ h9 => h9) rfl dX1_pass_16 ?_
  refine fb_roV (As := []) (rest := []) (n := 0) ⟨hx, hb, hml, hown, hts⟩ (fb_c_X0_mostOff l G cI cL h n o d f nf (fb_dy df uf q) df tf w (dy + nI q)  ) gX1_pass_X0_mostOff rfl (by decide +kernel) (by decide) (fb_PB.bl _ _ _ _) (va_recv hK hP (ci := 0) (q0 := 1) rfl rfl) (fb_PB.to (hP.sub (ws' := [(h, .inr (0, [.ref n, .ref o, .ref d, .ref f, .int (nI w), .int (dy + nI q)])), (n, .inl (cI, 12, .inl nf)), (o, .inl (cI, 12, .inl (fb_dy df uf q))), (d, .inl (cI, 12, .inl df)), (f, .inl (cI, 12, .inl tf))]) [1, 2, 3, 4, 5] rfl) hK (hXn _ _ hS)) rfl hl.1 rfl (Nat.le_of_ble_eq_true rfl) dX1_pass_19 (by decide) ?_
  have hP9 := hP.sub (ws' := [(x, .inr (1, [.ref h, .ref h2])), (h, .inr (0, [.ref n, .ref o, .ref d, .ref f, .int (nI w), .int (dy + nI q)])), (n, .inl (cI, 12, .inl nf)), (o, .inl (cI, 12, .inl (fb_dy df uf q))), (d, .inl (cI, 12, .inl df)), (f, .inl (cI, 12, .inl tf))]) [0, 1, 2, 3, 4, 5] (rfl)
  have hD9 := hD.sub (ws' := [(x, .inr (1, [.ref h, .ref h2])), (h, .inr (0, [.ref n, .ref o, .ref d, .ref f, .int (nI w), .int (dy + nI q)])), (n, .inl (cI, 12, .inl nf)), (o, .inl (cI, 12, .inl (fb_dy df uf q))), (d, .inl (cI, 12, .inl df)), (f, .inl (cI, 12, .inl tf))]) [0, 1, 2, 3, 4, 5] (by decide) (rfl)
  exact W.iret (v := fb_mo (fb_rg (fb_dy df uf q)) 12) hx hb hr (fun t ht hW => ⟨⟨fb_mo (fb_rg (fb_dy df uf q)) 12, (), rfl, rfl, by rw [ht]; exact hP9, hD9⟩, hS.F ht⟩) hS.2.2 dX1_pass_22 hlk
set_option maxHeartbeats 4000000 in
set_option maxRecDepth 100000 in
theorem fb_c_X1_startTrial (l : Launch) (G : va_G) (cI cL : ClassId) (x h n o d f h2 n2 o2 d2 f2 : Nat) (nf uf df tf : Nat → Int32) (w : Nat) (dy : Int32) (mf vf ef sf : Nat → Int32) (tw ty : Int32) (sz : Nat) : fb_MV l yX1_startTrial wsX1_startTrial 0 0 [.ref x] G cI cL sz (fb_XW cI x h n o d f h2 n2 o2 d2 f2 nf uf df tf (nI w) dy mf vf ef sf tw ty) (fb_XW cI x h n o d f h2 n2 o2 d2 f2 nf uf df tf (nI w) dy (fb_cp nf mf 12) (fb_cp uf vf 12) (fb_cp df ef 12) (fb_cp tf sf 12) (nI w) dy) := by
  refine fb_mv_of (cc := cX1_startTrial) (maxL := 2) (ret := none) (by decide) rfl (Nat.le_of_ble_eq_true rfl) ?_
  intro p e s m args below meth c A hx hb hr hml hlk hts hown hP hK hD hA hX ls hl
  have hown : s.vm.findClass RX1 = some m.cls := hown
  have hP : va_P G vwCl [(x, .inr (1, [.ref h, .ref h2])), (h, .inr (0, [.ref n, .ref o, .ref d, .ref f, .int (nI w), .int dy])), (n, .inl (cI, 12, .inl nf)), (o, .inl (cI, 12, .inl uf)), (d, .inl (cI, 12, .inl df)), (f, .inl (cI, 12, .inl tf)), (h2, .inr (0, [.ref n2, .ref o2, .ref d2, .ref f2, .int tw, .int ty])), (n2, .inl (cI, 12, .inl mf)), (o2, .inl (cI, 12, .inl vf)), (d2, .inl (cI, 12, .inl ef)), (f2, .inl (cI, 12, .inl sf))] s.heap := hP
  have hD : va_D A [(x, .inr (1, [.ref h, .ref h2])), (h, .inr (0, [.ref n, .ref o, .ref d, .ref f, .int (nI w), .int dy])), (n, .inl (cI, 12, .inl nf)), (o, .inl (cI, 12, .inl uf)), (d, .inl (cI, 12, .inl df)), (f, .inl (cI, 12, .inl tf)), (h2, .inr (0, [.ref n2, .ref o2, .ref d2, .ref f2, .int tw, .int ty])), (n2, .inl (cI, 12, .inl mf)), (o2, .inl (cI, 12, .inl vf)), (d2, .inl (cI, 12, .inl ef)), (f2, .inl (cI, 12, .inl sf))] := hD
  have hS : va_S A s.heap s.heap [] := va_S.rf
  have hXn : ∀ (H : Heap) (locs : List Loc), va_S A s.heap H locs → fb_sx (fun _ => False) s H := fun H locs h9 => (hX.kept h9.2.1).narrow (fun _ z => z.elim)
  have hl : lv_has ls 2 [(0, .ref x)] := hl
  have hin0 : ∀ w ∈ u_ws RX0 TX0 6, w ∈ wsX1_startTrial := by decide +kernel
  have hin1 : ∀ w ∈ u_ws RX1 TX1 2, w ∈ wsX1_startTrial := by decide +kernel
  refine lv_iconst (v := 0) hx hb dX1_startTrial_0 (by decide) ?_
  refine lv_istore_n (lv' := [(1, .int 0), (0, .ref x)]) hx hb dX1_startTrial_1 rfl hl (by decide) rfl (fun ls hl => ?_)
  have lp2 : ∀ (n9 i : Nat), i ≤ 12 → 12 < i + n9 → ∀ (H : Heap) (locs : List Loc), va_P G vwCl [(x, .inr (1, [.ref h, .ref h2])), (h, .inr (0, [.ref n, .ref o, .ref d, .ref f, .int (nI w), .int dy])), (n, .inl (cI, 12, .inl nf)), (o, .inl (cI, 12, .inl uf)), (d, .inl (cI, 12, .inl df)), (f, .inl (cI, 12, .inl tf)), (h2, .inr (0, [.ref n2, .ref o2, .ref d2, .ref f2, .int tw, .int ty])), (n2, .inl (cI, 12, .inl (fb_cp nf mf i))), (o2, .inl (cI, 12, .inl (fb_cp uf vf i))), (d2, .inl (cI, 12, .inl (fb_cp df ef i))), (f2, .inl (cI, 12, .inl (fb_cp tf sf i)))] H → va_D A [(x, .inr (1, [.ref h, .ref h2])), (h, .inr (0, [.ref n, .ref o, .ref d, .ref f, .int (nI w), .int dy])), (n, .inl (cI, 12, .inl nf)), (o, .inl (cI, 12, .inl uf)), (d, .inl (cI, 12, .inl df)), (f, .inl (cI, 12, .inl tf)), (h2, .inr (0, [.ref n2, .ref o2, .ref d2, .ref f2, .int tw, .int ty])), (n2, .inl (cI, 12, .inl (fb_cp nf mf i))), (o2, .inl (cI, 12, .inl (fb_cp uf vf i))), (d2, .inl (cI, 12, .inl (fb_cp df ef i))), (f2, .inl (cI, 12, .inl (fb_cp tf sf i)))] → va_S A s.heap H locs → ∀ ls : Array Slot, lv_has ls 2 [(1, .int (nI i)), (0, .ref x)] → W p l e ({ frames := 0, cells := 0, slots := 0, locals := 0 }) s m args below meth c H locs 0 0 (MQ below (va_Qv (fun _ : Unit => True) (fun _ t => va_P G vwCl (fb_XW cI x h n o d f h2 n2 o2 d2 f2 nf uf df tf (nI w) dy (fb_cp nf mf 12) (fb_cp uf vf 12) (fb_cp df ef 12) (fb_cp tf sf 12) (nI w) dy) t.heap ∧ va_D A (fb_XW cI x h n o d f h2 n2 o2 d2 f2 nf uf df tf (nI w) dy (fb_cp nf mf 12) (fb_cp uf vf 12) (fb_cp df ef 12) (fb_cp tf sf 12) (nI w) dy)) A) args s 0 0 A) (F0 m 2 ls []) := by
    intro n9
    induction n9 with
    | zero => intro i h1 h2; exact absurd h2 (by omega)
    | succ n9 ih2 =>
      intro i hi_i hin9 H locs hP hD hS ls hl
      refine lv_iload_n hx hb dX1_startTrial_2 rfl (lv_at hl 0 rfl) ?_
      refine lv_bipush (v := 12) hx hb dX1_startTrial_3 (by decide) ?_
      refine lv_icmp_ge (tgt := 86) hx hb dX1_startTrial_5 (by decide) (fun c5 => ?_) (fun c5 => ?_)
      · skip
        have hxi : i = 12 := fb_lp_ex (by decide) hi_i c5
        subst hxi
        refine lv_aload_n hx hb dX1_startTrial_86 rfl (lv_at hl 1 rfl) ?_
        refine va_get (D := G) (ci := 1) (v := .ref h2) (C := RX1) (T := TX1) (N := 2) hx hb hts (hin1) hown hK hP 0 rfl rfl 1 (by decide) (hts (.fieldLink RX1 16 "FifthBeats" "trial" "LFifthBeats$Piano;") (by decide +kernel)) (fun _ h9 => h9) rfl dX1_startTrial_87 ?_
        refine lv_aload_n hx hb dX1_startTrial_90 rfl (lv_at hl 1 rfl) ?_
        refine va_get (D := G) (ci := 1) (v := .ref h) (C := RX1) (T := TX1) (N := 2) hx hb hts (hin1) hown hK hP 0 rfl rfl 0 (by decide) (hts (.fieldLink RX1 10 "FifthBeats" "piano" "LFifthBeats$Piano;") (by decide +kernel)) (fun _ h9 => h9) rfl dX1_startTrial_91 ?_
        refine va_get (D := G) (ci := 0) (v := .int (nI w)) (C := RX0) (T := TX0) (N := 6) hx hb hts (hin0) hown hK hP 1 rfl rfl 4 (by decide) (hts (.fieldLink RX1 38 "FifthBeats$Piano" "wolf" "I") (by decide +kernel)) (fun _ h9 => h9) rfl dX1_startTrial_94 ?_
        refine va_put (D := G) (ci := 0) (v := .int (nI w)) (ty := .int) (C := RX0) (T := TX0) (N := 6) hx hb hts (hin0) tyX0 tyX0_ok nmX0 hown hK hP hD hS 6 rfl rfl 4 (by decide) (hts (.fieldLink RX1 38 "FifthBeats$Piano" "wolf" "I") (by decide +kernel)) (fun _ h9 => h9) rfl (by decide +kernel) rfl rfl (Nat.le_of_ble_eq_true rfl) dX1_startTrial_97 (fun H locs hP hD hS => ?_)
        have hP : va_P G vwCl [(x, .inr (1, [.ref h, .ref h2])), (h, .inr (0, [.ref n, .ref o, .ref d, .ref f, .int (nI w), .int dy])), (n, .inl (cI, 12, .inl nf)), (o, .inl (cI, 12, .inl uf)), (d, .inl (cI, 12, .inl df)), (f, .inl (cI, 12, .inl tf)), (h2, .inr (0, [.ref n2, .ref o2, .ref d2, .ref f2, .int (nI w), .int ty])), (n2, .inl (cI, 12, .inl (fb_cp nf mf 12))), (o2, .inl (cI, 12, .inl (fb_cp uf vf 12))), (d2, .inl (cI, 12, .inl (fb_cp df ef 12))), (f2, .inl (cI, 12, .inl (fb_cp tf sf 12)))] H := hP
        have hD : va_D A [(x, .inr (1, [.ref h, .ref h2])), (h, .inr (0, [.ref n, .ref o, .ref d, .ref f, .int (nI w), .int dy])), (n, .inl (cI, 12, .inl nf)), (o, .inl (cI, 12, .inl uf)), (d, .inl (cI, 12, .inl df)), (f, .inl (cI, 12, .inl tf)), (h2, .inr (0, [.ref n2, .ref o2, .ref d2, .ref f2, .int (nI w), .int ty])), (n2, .inl (cI, 12, .inl (fb_cp nf mf 12))), (o2, .inl (cI, 12, .inl (fb_cp uf vf 12))), (d2, .inl (cI, 12, .inl (fb_cp df ef 12))), (f2, .inl (cI, 12, .inl (fb_cp tf sf 12)))] := hD
        refine lv_aload_n hx hb dX1_startTrial_100 rfl (lv_at hl 1 rfl) ?_
        refine va_get (D := G) (ci := 1) (v := .ref h2) (C := RX1) (T := TX1) (N := 2) hx hb hts (hin1) hown hK hP 0 rfl rfl 1 (by decide) (hts (.fieldLink RX1 16 "FifthBeats" "trial" "LFifthBeats$Piano;") (by decide +kernel)) (fun _ h9 => h9) rfl dX1_startTrial_101 ?_
        refine lv_aload_n hx hb dX1_startTrial_104 rfl (lv_at hl 1 rfl) ?_
        refine va_get (D := G) (ci := 1) (v := .ref h) (C := RX1) (T := TX1) (N := 2) hx hb hts (hin1) hown hK hP 0 rfl rfl 0 (by decide) (hts (.fieldLink RX1 10 "FifthBeats" "piano" "LFifthBeats$Piano;") (by decide +kernel)) (fun _ h9 => h9) rfl dX1_startTrial_105 ?_
        refine va_get (D := G) (ci := 0) (v := .int dy) (C := RX0) (T := TX0) (N := 6) hx hb hts (hin0) hown hK hP 1 rfl rfl 5 (by decide) (hts (.fieldLink RX1 158 "FifthBeats$Piano" "day" "I") (by decide +kernel)) (fun _ h9 => h9) rfl dX1_startTrial_108 ?_
        refine va_put (D := G) (ci := 0) (v := .int dy) (ty := .int) (C := RX0) (T := TX0) (N := 6) hx hb hts (hin0) tyX0 tyX0_ok nmX0 hown hK hP hD hS 6 rfl rfl 5 (by decide) (hts (.fieldLink RX1 158 "FifthBeats$Piano" "day" "I") (by decide +kernel)) (fun _ h9 => h9) rfl (by decide +kernel) rfl rfl (Nat.le_of_ble_eq_true rfl) dX1_startTrial_111 (fun H locs hP hD hS => ?_)
        have hP : va_P G vwCl [(x, .inr (1, [.ref h, .ref h2])), (h, .inr (0, [.ref n, .ref o, .ref d, .ref f, .int (nI w), .int dy])), (n, .inl (cI, 12, .inl nf)), (o, .inl (cI, 12, .inl uf)), (d, .inl (cI, 12, .inl df)), (f, .inl (cI, 12, .inl tf)), (h2, .inr (0, [.ref n2, .ref o2, .ref d2, .ref f2, .int (nI w), .int dy])), (n2, .inl (cI, 12, .inl (fb_cp nf mf 12))), (o2, .inl (cI, 12, .inl (fb_cp uf vf 12))), (d2, .inl (cI, 12, .inl (fb_cp df ef 12))), (f2, .inl (cI, 12, .inl (fb_cp tf sf 12)))] H := hP
        have hD : va_D A [(x, .inr (1, [.ref h, .ref h2])), (h, .inr (0, [.ref n, .ref o, .ref d, .ref f, .int (nI w), .int dy])), (n, .inl (cI, 12, .inl nf)), (o, .inl (cI, 12, .inl uf)), (d, .inl (cI, 12, .inl df)), (f, .inl (cI, 12, .inl tf)), (h2, .inr (0, [.ref n2, .ref o2, .ref d2, .ref f2, .int (nI w), .int dy])), (n2, .inl (cI, 12, .inl (fb_cp nf mf 12))), (o2, .inl (cI, 12, .inl (fb_cp uf vf 12))), (d2, .inl (cI, 12, .inl (fb_cp df ef 12))), (f2, .inl (cI, 12, .inl (fb_cp tf sf 12)))] := hD
        have hP9 := hP.sub (ws' := [(x, .inr (1, [.ref h, .ref h2])), (h, .inr (0, [.ref n, .ref o, .ref d, .ref f, .int (nI w), .int dy])), (n, .inl (cI, 12, .inl nf)), (o, .inl (cI, 12, .inl uf)), (d, .inl (cI, 12, .inl df)), (f, .inl (cI, 12, .inl tf)), (h2, .inr (0, [.ref n2, .ref o2, .ref d2, .ref f2, .int (nI w), .int dy])), (n2, .inl (cI, 12, .inl (fb_cp nf mf 12))), (o2, .inl (cI, 12, .inl (fb_cp uf vf 12))), (d2, .inl (cI, 12, .inl (fb_cp df ef 12))), (f2, .inl (cI, 12, .inl (fb_cp tf sf 12)))]) [0, 1, 2, 3, 4, 5, 6, 7, 8, 9, 10] (rfl)
        have hD9 := hD.sub (ws' := [(x, .inr (1, [.ref h, .ref h2])), (h, .inr (0, [.ref n, .ref o, .ref d, .ref f, .int (nI w), .int dy])), (n, .inl (cI, 12, .inl nf)), (o, .inl (cI, 12, .inl uf)), (d, .inl (cI, 12, .inl df)), (f, .inl (cI, 12, .inl tf)), (h2, .inr (0, [.ref n2, .ref o2, .ref d2, .ref f2, .int (nI w), .int dy])), (n2, .inl (cI, 12, .inl (fb_cp nf mf 12))), (o2, .inl (cI, 12, .inl (fb_cp uf vf 12))), (d2, .inl (cI, 12, .inl (fb_cp df ef 12))), (f2, .inl (cI, 12, .inl (fb_cp tf sf 12)))]) [0, 1, 2, 3, 4, 5, 6, 7, 8, 9, 10] (by decide) (rfl)
        exact W.vret hx hb hr (fun t ht hW => ⟨⟨(), rfl, trivial, by rw [ht]; exact hP9, hD9⟩, hS.F ht⟩) hS.2.2 dX1_startTrial_114 hlk
      · skip
        have hi12 : i < 12 := fb_lp_in (by decide) hi_i c5
        refine lv_aload_n hx hb dX1_startTrial_8 rfl (lv_at hl 1 rfl) ?_
        refine va_get (D := G) (ci := 1) (v := .ref h2) (C := RX1) (T := TX1) (N := 2) hx hb hts (hin1) hown hK hP 0 rfl rfl 1 (by decide) (hts (.fieldLink RX1 16 "FifthBeats" "trial" "LFifthBeats$Piano;") (by decide +kernel)) (fun _ h9 => h9) rfl dX1_startTrial_9 ?_
        refine va_get (D := G) (ci := 0) (v := .ref n2) (C := RX0) (T := TX0) (N := 6) hx hb hts (hin0) hown hK hP 6 rfl rfl 0 (by decide) (hts (.fieldLink RX1 30 "FifthBeats$Piano" "narrow" "[I") (by decide +kernel)) (fun _ h9 => h9) rfl dX1_startTrial_12 ?_
        refine lv_iload_n hx hb dX1_startTrial_15 rfl (lv_at hl 0 rfl) ?_
        refine lv_aload_n hx hb dX1_startTrial_16 rfl (lv_at hl 1 rfl) ?_
        refine va_get (D := G) (ci := 1) (v := .ref h) (C := RX1) (T := TX1) (N := 2) hx hb hts (hin1) hown hK hP 0 rfl rfl 0 (by decide) (hts (.fieldLink RX1 10 "FifthBeats" "piano" "LFifthBeats$Piano;") (by decide +kernel)) (fun _ h9 => h9) rfl dX1_startTrial_17 ?_
        refine va_get (D := G) (ci := 0) (v := .ref n) (C := RX0) (T := TX0) (N := 6) hx hb hts (hin0) hown hK hP 1 rfl rfl 0 (by decide) (hts (.fieldLink RX1 30 "FifthBeats$Piano" "narrow" "[I") (by decide +kernel)) (fun _ h9 => h9) rfl dX1_startTrial_20 ?_
        refine lv_iload_n hx hb dX1_startTrial_23 rfl (lv_at hl 0 rfl) ?_
        refine va_iald hx hb hK hP 2 0 rfl rfl (vp_in_nI hi12 (by decide)) dX1_startTrial_24 ?_
        refine fb_ti (z := nf i) (by rw [fb_cl (by omega)]) ?_
        refine va_iast hx hb hK hP hD hS 7 0 rfl rfl (vp_in_nI hi12 (by decide)) dX1_startTrial_25 (fun H locs hP hD hS => ?_)
        rw [show (nI i).toNatClampNeg = i from fb_cl (by omega)] at hP hD
        rw [show upd (fb_cp nf mf i) i (nf i) = fb_cp nf mf (i + 1) from fb_cp_s nf mf i] at hP hD
        have hP : va_P G vwCl [(x, .inr (1, [.ref h, .ref h2])), (h, .inr (0, [.ref n, .ref o, .ref d, .ref f, .int (nI w), .int dy])), (n, .inl (cI, 12, .inl nf)), (o, .inl (cI, 12, .inl uf)), (d, .inl (cI, 12, .inl df)), (f, .inl (cI, 12, .inl tf)), (h2, .inr (0, [.ref n2, .ref o2, .ref d2, .ref f2, .int tw, .int ty])), (n2, .inl (cI, 12, .inl (fb_cp nf mf (i + 1)))), (o2, .inl (cI, 12, .inl (fb_cp uf vf i))), (d2, .inl (cI, 12, .inl (fb_cp df ef i))), (f2, .inl (cI, 12, .inl (fb_cp tf sf i)))] H := hP
        have hD : va_D A [(x, .inr (1, [.ref h, .ref h2])), (h, .inr (0, [.ref n, .ref o, .ref d, .ref f, .int (nI w), .int dy])), (n, .inl (cI, 12, .inl nf)), (o, .inl (cI, 12, .inl uf)), (d, .inl (cI, 12, .inl df)), (f, .inl (cI, 12, .inl tf)), (h2, .inr (0, [.ref n2, .ref o2, .ref d2, .ref f2, .int tw, .int ty])), (n2, .inl (cI, 12, .inl (fb_cp nf mf (i + 1)))), (o2, .inl (cI, 12, .inl (fb_cp uf vf i))), (d2, .inl (cI, 12, .inl (fb_cp df ef i))), (f2, .inl (cI, 12, .inl (fb_cp tf sf i)))] := hD
        refine lv_aload_n hx hb dX1_startTrial_26 rfl (lv_at hl 1 rfl) ?_
        refine va_get (D := G) (ci := 1) (v := .ref h2) (C := RX1) (T := TX1) (N := 2) hx hb hts (hin1) hown hK hP 0 rfl rfl 1 (by decide) (hts (.fieldLink RX1 16 "FifthBeats" "trial" "LFifthBeats$Piano;") (by decide +kernel)) (fun _ h9 => h9) rfl dX1_startTrial_27 ?_
        refine va_get (D := G) (ci := 0) (v := .ref o2) (C := RX0) (T := TX0) (N := 6) hx hb hts (hin0) hown hK hP 6 rfl rfl 1 (by decide) (hts (.fieldLink RX1 81 "FifthBeats$Piano" "off" "[I") (by decide +kernel)) (fun _ h9 => h9) rfl dX1_startTrial_30 ?_
        refine lv_iload_n hx hb dX1_startTrial_33 rfl (lv_at hl 0 rfl) ?_
        refine lv_aload_n hx hb dX1_startTrial_34 rfl (lv_at hl 1 rfl) ?_
        refine va_get (D := G) (ci := 1) (v := .ref h) (C := RX1) (T := TX1) (N := 2) hx hb hts (hin1) hown hK hP 0 rfl rfl 0 (by decide) (hts (.fieldLink RX1 10 "FifthBeats" "piano" "LFifthBeats$Piano;") (by decide +kernel)) (fun _ h9 => h9) rfl dX1_startTrial_35 ?_
        refine va_get (D := G) (ci := 0) (v := .ref o) (C := RX0) (T := TX0) (N := 6) hx hb hts (hin0) hown hK hP 1 rfl rfl 1 (by decide) (hts (.fieldLink RX1 81 "FifthBeats$Piano" "off" "[I") (by decide +kernel)) (fun _ h9 => h9) rfl dX1_startTrial_38 ?_
        refine lv_iload_n hx hb dX1_startTrial_41 rfl (lv_at hl 0 rfl) ?_
        refine va_iald hx hb hK hP 3 0 rfl rfl (vp_in_nI hi12 (by decide)) dX1_startTrial_42 ?_
        refine fb_ti (z := uf i) (by rw [fb_cl (by omega)]) ?_
        refine va_iast hx hb hK hP hD hS 8 0 rfl rfl (vp_in_nI hi12 (by decide)) dX1_startTrial_43 (fun H locs hP hD hS => ?_)
        rw [show (nI i).toNatClampNeg = i from fb_cl (by omega)] at hP hD
        rw [show upd (fb_cp uf vf i) i (uf i) = fb_cp uf vf (i + 1) from fb_cp_s uf vf i] at hP hD
        have hP : va_P G vwCl [(x, .inr (1, [.ref h, .ref h2])), (h, .inr (0, [.ref n, .ref o, .ref d, .ref f, .int (nI w), .int dy])), (n, .inl (cI, 12, .inl nf)), (o, .inl (cI, 12, .inl uf)), (d, .inl (cI, 12, .inl df)), (f, .inl (cI, 12, .inl tf)), (h2, .inr (0, [.ref n2, .ref o2, .ref d2, .ref f2, .int tw, .int ty])), (n2, .inl (cI, 12, .inl (fb_cp nf mf (i + 1)))), (o2, .inl (cI, 12, .inl (fb_cp uf vf (i + 1)))), (d2, .inl (cI, 12, .inl (fb_cp df ef i))), (f2, .inl (cI, 12, .inl (fb_cp tf sf i)))] H := hP
        have hD : va_D A [(x, .inr (1, [.ref h, .ref h2])), (h, .inr (0, [.ref n, .ref o, .ref d, .ref f, .int (nI w), .int dy])), (n, .inl (cI, 12, .inl nf)), (o, .inl (cI, 12, .inl uf)), (d, .inl (cI, 12, .inl df)), (f, .inl (cI, 12, .inl tf)), (h2, .inr (0, [.ref n2, .ref o2, .ref d2, .ref f2, .int tw, .int ty])), (n2, .inl (cI, 12, .inl (fb_cp nf mf (i + 1)))), (o2, .inl (cI, 12, .inl (fb_cp uf vf (i + 1)))), (d2, .inl (cI, 12, .inl (fb_cp df ef i))), (f2, .inl (cI, 12, .inl (fb_cp tf sf i)))] := hD
        refine lv_aload_n hx hb dX1_startTrial_44 rfl (lv_at hl 1 rfl) ?_
        refine va_get (D := G) (ci := 1) (v := .ref h2) (C := RX1) (T := TX1) (N := 2) hx hb hts (hin1) hown hK hP 0 rfl rfl 1 (by decide) (hts (.fieldLink RX1 16 "FifthBeats" "trial" "LFifthBeats$Piano;") (by decide +kernel)) (fun _ h9 => h9) rfl dX1_startTrial_45 ?_
        refine va_get (D := G) (ci := 0) (v := .ref d2) (C := RX0) (T := TX0) (N := 6) hx hb hts (hin0) hown hK hP 6 rfl rfl 2 (by decide) (hts (.fieldLink RX1 55 "FifthBeats$Piano" "drift" "[I") (by decide +kernel)) (fun _ h9 => h9) rfl dX1_startTrial_48 ?_
        refine lv_iload_n hx hb dX1_startTrial_51 rfl (lv_at hl 0 rfl) ?_
        refine lv_aload_n hx hb dX1_startTrial_52 rfl (lv_at hl 1 rfl) ?_
        refine va_get (D := G) (ci := 1) (v := .ref h) (C := RX1) (T := TX1) (N := 2) hx hb hts (hin1) hown hK hP 0 rfl rfl 0 (by decide) (hts (.fieldLink RX1 10 "FifthBeats" "piano" "LFifthBeats$Piano;") (by decide +kernel)) (fun _ h9 => h9) rfl dX1_startTrial_53 ?_
        refine va_get (D := G) (ci := 0) (v := .ref d) (C := RX0) (T := TX0) (N := 6) hx hb hts (hin0) hown hK hP 1 rfl rfl 2 (by decide) (hts (.fieldLink RX1 55 "FifthBeats$Piano" "drift" "[I") (by decide +kernel)) (fun _ h9 => h9) rfl dX1_startTrial_56 ?_
        refine lv_iload_n hx hb dX1_startTrial_59 rfl (lv_at hl 0 rfl) ?_
        refine va_iald hx hb hK hP 4 0 rfl rfl (vp_in_nI hi12 (by decide)) dX1_startTrial_60 ?_
        refine fb_ti (z := df i) (by rw [fb_cl (by omega)]) ?_
        refine va_iast hx hb hK hP hD hS 9 0 rfl rfl (vp_in_nI hi12 (by decide)) dX1_startTrial_61 (fun H locs hP hD hS => ?_)
        rw [show (nI i).toNatClampNeg = i from fb_cl (by omega)] at hP hD
        rw [show upd (fb_cp df ef i) i (df i) = fb_cp df ef (i + 1) from fb_cp_s df ef i] at hP hD
        have hP : va_P G vwCl [(x, .inr (1, [.ref h, .ref h2])), (h, .inr (0, [.ref n, .ref o, .ref d, .ref f, .int (nI w), .int dy])), (n, .inl (cI, 12, .inl nf)), (o, .inl (cI, 12, .inl uf)), (d, .inl (cI, 12, .inl df)), (f, .inl (cI, 12, .inl tf)), (h2, .inr (0, [.ref n2, .ref o2, .ref d2, .ref f2, .int tw, .int ty])), (n2, .inl (cI, 12, .inl (fb_cp nf mf (i + 1)))), (o2, .inl (cI, 12, .inl (fb_cp uf vf (i + 1)))), (d2, .inl (cI, 12, .inl (fb_cp df ef (i + 1)))), (f2, .inl (cI, 12, .inl (fb_cp tf sf i)))] H := hP
        have hD : va_D A [(x, .inr (1, [.ref h, .ref h2])), (h, .inr (0, [.ref n, .ref o, .ref d, .ref f, .int (nI w), .int dy])), (n, .inl (cI, 12, .inl nf)), (o, .inl (cI, 12, .inl uf)), (d, .inl (cI, 12, .inl df)), (f, .inl (cI, 12, .inl tf)), (h2, .inr (0, [.ref n2, .ref o2, .ref d2, .ref f2, .int tw, .int ty])), (n2, .inl (cI, 12, .inl (fb_cp nf mf (i + 1)))), (o2, .inl (cI, 12, .inl (fb_cp uf vf (i + 1)))), (d2, .inl (cI, 12, .inl (fb_cp df ef (i + 1)))), (f2, .inl (cI, 12, .inl (fb_cp tf sf i)))] := hD
        refine lv_aload_n hx hb dX1_startTrial_62 rfl (lv_at hl 1 rfl) ?_
        refine va_get (D := G) (ci := 1) (v := .ref h2) (C := RX1) (T := TX1) (N := 2) hx hb hts (hin1) hown hK hP 0 rfl rfl 1 (by decide) (hts (.fieldLink RX1 16 "FifthBeats" "trial" "LFifthBeats$Piano;") (by decide +kernel)) (fun _ h9 => h9) rfl dX1_startTrial_63 ?_
        refine va_get (D := G) (ci := 0) (v := .ref f2) (C := RX0) (T := TX0) (N := 6) hx hb hts (hin0) hown hK hP 6 rfl rfl 3 (by decide) (hts (.fieldLink RX1 52 "FifthBeats$Piano" "often" "[I") (by decide +kernel)) (fun _ h9 => h9) rfl dX1_startTrial_66 ?_
        refine lv_iload_n hx hb dX1_startTrial_69 rfl (lv_at hl 0 rfl) ?_
        refine lv_aload_n hx hb dX1_startTrial_70 rfl (lv_at hl 1 rfl) ?_
        refine va_get (D := G) (ci := 1) (v := .ref h) (C := RX1) (T := TX1) (N := 2) hx hb hts (hin1) hown hK hP 0 rfl rfl 0 (by decide) (hts (.fieldLink RX1 10 "FifthBeats" "piano" "LFifthBeats$Piano;") (by decide +kernel)) (fun _ h9 => h9) rfl dX1_startTrial_71 ?_
        refine va_get (D := G) (ci := 0) (v := .ref f) (C := RX0) (T := TX0) (N := 6) hx hb hts (hin0) hown hK hP 1 rfl rfl 3 (by decide) (hts (.fieldLink RX1 52 "FifthBeats$Piano" "often" "[I") (by decide +kernel)) (fun _ h9 => h9) rfl dX1_startTrial_74 ?_
        refine lv_iload_n hx hb dX1_startTrial_77 rfl (lv_at hl 0 rfl) ?_
        refine va_iald hx hb hK hP 5 0 rfl rfl (vp_in_nI hi12 (by decide)) dX1_startTrial_78 ?_
        refine fb_ti (z := tf i) (by rw [fb_cl (by omega)]) ?_
        refine va_iast hx hb hK hP hD hS 10 0 rfl rfl (vp_in_nI hi12 (by decide)) dX1_startTrial_79 (fun H locs hP hD hS => ?_)
        rw [show (nI i).toNatClampNeg = i from fb_cl (by omega)] at hP hD
        rw [show upd (fb_cp tf sf i) i (tf i) = fb_cp tf sf (i + 1) from fb_cp_s tf sf i] at hP hD
        have hP : va_P G vwCl [(x, .inr (1, [.ref h, .ref h2])), (h, .inr (0, [.ref n, .ref o, .ref d, .ref f, .int (nI w), .int dy])), (n, .inl (cI, 12, .inl nf)), (o, .inl (cI, 12, .inl uf)), (d, .inl (cI, 12, .inl df)), (f, .inl (cI, 12, .inl tf)), (h2, .inr (0, [.ref n2, .ref o2, .ref d2, .ref f2, .int tw, .int ty])), (n2, .inl (cI, 12, .inl (fb_cp nf mf (i + 1)))), (o2, .inl (cI, 12, .inl (fb_cp uf vf (i + 1)))), (d2, .inl (cI, 12, .inl (fb_cp df ef (i + 1)))), (f2, .inl (cI, 12, .inl (fb_cp tf sf (i + 1))))] H := hP
        have hD : va_D A [(x, .inr (1, [.ref h, .ref h2])), (h, .inr (0, [.ref n, .ref o, .ref d, .ref f, .int (nI w), .int dy])), (n, .inl (cI, 12, .inl nf)), (o, .inl (cI, 12, .inl uf)), (d, .inl (cI, 12, .inl df)), (f, .inl (cI, 12, .inl tf)), (h2, .inr (0, [.ref n2, .ref o2, .ref d2, .ref f2, .int tw, .int ty])), (n2, .inl (cI, 12, .inl (fb_cp nf mf (i + 1)))), (o2, .inl (cI, 12, .inl (fb_cp uf vf (i + 1)))), (d2, .inl (cI, 12, .inl (fb_cp df ef (i + 1)))), (f2, .inl (cI, 12, .inl (fb_cp tf sf (i + 1))))] := hD
        refine lv_iinc (v := nI (i + 1)) (lv' := [(1, .int (nI (i + 1))), (0, .ref x)]) hx hb dX1_startTrial_80 hl (k := 0) rfl (show nI i + 1 = nI (i + 1) from nI_1 i) (by decide) rfl (fun ls hl => ?_)
        refine lv_goto (tgt := 2) hx hb dX1_startTrial_83 (by decide) ?_
        exact ih2 (i + 1) (by omega) (by omega) _ _ (hP) (hD) hS _ (lv_sub hl [0, 1] (rfl))
  exact lp2 (12 + 1) 0 (by omega) (by omega) _ _ (by rw [fb_cp_0, fb_cp_0, fb_cp_0, fb_cp_0]; exact hP) (by rw [fb_cp_0, fb_cp_0, fb_cp_0, fb_cp_0]; exact hD) hS _ (lv_sub hl [0, 1] (rfl))
set_option maxHeartbeats 4000000 in
set_option maxRecDepth 100000 in
theorem fb_c_X1_costWithWolf (l : Launch) (G : va_G) (cI cL : ClassId) (x h n o d f h2 n2 o2 d2 f2 : Nat) (nf uf df tf : Nat → Int32) (w : Nat) (dy : Int32) (mf vf ef sf : Nat → Int32) (tw ty : Int32) (j : Nat) (hj : j < 12) (hw : w < 12) (sz : Nat) : fb_MI l yX1_costWithWolf wsX1_costWithWolf 5 111 [.ref x, .int (nI j)] G cI cL sz (fb_XW cI x h n o d f h2 n2 o2 d2 f2 nf uf df tf (nI w) dy mf vf ef sf tw ty) (fb_XW cI x h n o d f h2 n2 o2 d2 f2 nf uf df tf (nI w) dy (fb_mw (fb_cp nf mf 12) w j) (fb_cp uf vf 12) (fb_cp df ef 12) (fb_cp tf sf 12) (nI j) dy) (fb_ca (fb_rg nf) (fb_rg uf) (fb_rg tf) w j) := by
  refine fb_mi_of (cc := cX1_costWithWolf) (maxL := 2) (ret := (some .int)) (by decide) rfl (Nat.le_of_ble_eq_true rfl) ?_
  intro p e s m args below meth c A hx hb hr hml hlk hts hown hP hK hD hA hX ls hl
  have hown : s.vm.findClass RX1 = some m.cls := hown
  have hP : va_P G vwCl [(x, .inr (1, [.ref h, .ref h2])), (h, .inr (0, [.ref n, .ref o, .ref d, .ref f, .int (nI w), .int dy])), (n, .inl (cI, 12, .inl nf)), (o, .inl (cI, 12, .inl uf)), (d, .inl (cI, 12, .inl df)), (f, .inl (cI, 12, .inl tf)), (h2, .inr (0, [.ref n2, .ref o2, .ref d2, .ref f2, .int tw, .int ty])), (n2, .inl (cI, 12, .inl mf)), (o2, .inl (cI, 12, .inl vf)), (d2, .inl (cI, 12, .inl ef)), (f2, .inl (cI, 12, .inl sf))] s.heap := hP
  have hD : va_D A [(x, .inr (1, [.ref h, .ref h2])), (h, .inr (0, [.ref n, .ref o, .ref d, .ref f, .int (nI w), .int dy])), (n, .inl (cI, 12, .inl nf)), (o, .inl (cI, 12, .inl uf)), (d, .inl (cI, 12, .inl df)), (f, .inl (cI, 12, .inl tf)), (h2, .inr (0, [.ref n2, .ref o2, .ref d2, .ref f2, .int tw, .int ty])), (n2, .inl (cI, 12, .inl mf)), (o2, .inl (cI, 12, .inl vf)), (d2, .inl (cI, 12, .inl ef)), (f2, .inl (cI, 12, .inl sf))] := hD
  have hS : va_S A s.heap s.heap [] := va_S.rf
  have hXn : ∀ (H : Heap) (locs : List Loc), va_S A s.heap H locs → fb_sx (fun _ => False) s H := fun H locs h9 => (hX.kept h9.2.1).narrow (fun _ z => z.elim)
  have hl : lv_has ls 2 [(0, .ref x), (1, .int (nI j))] := hl
  have hin0 : ∀ w ∈ u_ws RX0 TX0 6, w ∈ wsX1_costWithWolf := by decide +kernel
  have hin1 : ∀ w ∈ u_ws RX1 TX1 2, w ∈ wsX1_costWithWolf := by decide +kernel
  refine lv_aload_n hx hb dX1_costWithWolf_0 rfl (lv_at hl 0 rfl) ?_
  refine fb_mvV (As := []) (rest := []) (n := 0) (wr := []) (wz := [(x, .inr (1, [.ref h, .ref h2])), (h, .inr (0, [.ref n, .ref o, .ref d, .ref f, .int (nI w), .int dy])), (n, .inl (cI, 12, .inl nf)), (o, .inl (cI, 12, .inl uf)), (d, .inl (cI, 12, .inl df)), (f, .inl (cI, 12, .inl tf)), (h2, .inr (0, [.ref n2, .ref o2, .ref d2, .ref f2, .int (nI w), .int dy])), (n2, .inl (cI, 12, .inl (fb_cp nf mf 12))), (o2, .inl (cI, 12, .inl (fb_cp uf vf 12))), (d2, .inl (cI, 12, .inl (fb_cp df ef 12))), (f2, .inl (cI, 12, .inl (fb_cp tf sf 12)))]) ⟨hx, hb, hml, hown, hts⟩ (fb_c_X1_startTrial l G cI cL x h n o d f h2 n2 o2 d2 f2 nf uf df tf w dy mf vf ef sf tw ty  _) gX1_costWithWolf_X1_startTrial rfl (by decide +kernel) (by decide) (va_recv hK hP (ci := 1) (q0 := 0) rfl rfl) hP hK hD hS hA hX [0, 1, 2, 3, 4, 5, 6, 7, 8, 9, 10] [] [0, 1, 2, 3, 4, 5, 6, 7, 8, 9, 10] rfl rfl rfl rfl rfl rfl (by decide) rfl hl.1 rfl (Nat.le_of_ble_eq_true rfl) dX1_costWithWolf_1 (by decide) (fun H locs hP hD hS => ?_)
  refine lv_aload_n hx hb dX1_costWithWolf_4 rfl (lv_at hl 0 rfl) ?_
  refine va_get (D := G) (ci := 1) (v := .ref h2) (C := RX1) (T := TX1) (N := 2) hx hb hts (hin1) hown hK hP 0 rfl rfl 1 (by decide) (hts (.fieldLink RX1 16 "FifthBeats" "trial" "LFifthBeats$Piano;") (by decide +kernel)) (fun _ h9 => h9) rfl dX1_costWithWolf_5 ?_
  refine lv_iload_n hx hb dX1_costWithWolf_8 rfl (lv_at hl 1 rfl) ?_
  refine fb_mvV (As := [.int (nI j)]) (rest := []) (n := 1) (wr := [(x, .inr (1, [.ref h, .ref h2])), (h, .inr (0, [.ref n, .ref o, .ref d, .ref f, .int (nI w), .int dy])), (n, .inl (cI, 12, .inl nf)), (o, .inl (cI, 12, .inl uf)), (d, .inl (cI, 12, .inl df)), (f, .inl (cI, 12, .inl tf))]) (wz := [(x, .inr (1, [.ref h, .ref h2])), (h, .inr (0, [.ref n, .ref o, .ref d, .ref f, .int (nI w), .int dy])), (n, .inl (cI, 12, .inl nf)), (o, .inl (cI, 12, .inl uf)), (d, .inl (cI, 12, .inl df)), (f, .inl (cI, 12, .inl tf)), (h2, .inr (0, [.ref n2, .ref o2, .ref d2, .ref f2, .int (nI j), .int dy])), (n2, .inl (cI, 12, .inl (fb_mw (fb_cp nf mf 12) w j))), (o2, .inl (cI, 12, .inl (fb_cp uf vf 12))), (d2, .inl (cI, 12, .inl (fb_cp df ef 12))), (f2, .inl (cI, 12, .inl (fb_cp tf sf 12)))]) ⟨hx, hb, hml, hown, hts⟩ (fb_c_X0_moveWolf l G cI cL h2 n2 o2 d2 f2 (fb_cp nf mf 12) (fb_cp uf vf 12) (fb_cp df ef 12) (fb_cp tf sf 12) w dy j hj hw _) gX1_costWithWolf_X0_moveWolf rfl (by decide +kernel) (by decide) (va_recv hK hP (ci := 0) (q0 := 6) rfl rfl) hP hK hD hS hA hX [6, 7, 8, 9, 10] [0, 1, 2, 3, 4, 5] [0, 1, 2, 3, 4, 5, 6, 7, 8, 9, 10] rfl rfl rfl rfl rfl rfl (by decide) rfl hl.1 rfl (Nat.le_of_ble_eq_true rfl) dX1_costWithWolf_9 (by decide) (fun H locs hP hD hS => ?_)
  refine lv_aload_n hx hb dX1_costWithWolf_12 rfl (lv_at hl 0 rfl) ?_
  refine va_get (D := G) (ci := 1) (v := .ref h2) (C := RX1) (T := TX1) (N := 2) hx hb hts (hin1) hown hK hP 0 rfl rfl 1 (by decide) (hts (.fieldLink RX1 16 "FifthBeats" "trial" "LFifthBeats$Piano;") (by decide +kernel)) (fun _ h9 => h9) rfl dX1_costWithWolf_13 ?_
  refine fb_roV (As := []) (rest := []) (n := 0) ⟨hx, hb, hml, hown, hts⟩ (fb_c_X0_cost l G cI cL h2 n2 o2 d2 f2 (fb_mw (fb_cp nf mf 12) w j) (fb_cp uf vf 12) (fb_cp df ef 12) (fb_cp tf sf 12) j dy  ) gX1_costWithWolf_X0_cost rfl (by decide +kernel) (by decide) (fb_PB.bl _ _ _ _) (va_recv hK hP (ci := 0) (q0 := 6) rfl rfl) (fb_PB.to (hP.sub (ws' := [(h2, .inr (0, [.ref n2, .ref o2, .ref d2, .ref f2, .int (nI j), .int dy])), (n2, .inl (cI, 12, .inl (fb_mw (fb_cp nf mf 12) w j))), (o2, .inl (cI, 12, .inl (fb_cp uf vf 12))), (d2, .inl (cI, 12, .inl (fb_cp df ef 12))), (f2, .inl (cI, 12, .inl (fb_cp tf sf 12)))]) [6, 7, 8, 9, 10] rfl) hK (hXn _ _ hS)) rfl hl.1 rfl (Nat.le_of_ble_eq_true rfl) dX1_costWithWolf_16 (by decide) ?_
  refine fb_ti (z := fb_ca (fb_rg nf) (fb_rg uf) (fb_rg tf) w j) (by unfold fb_ca; rw [fb_cw_w nf mf hw hj, fb_rg_cp, fb_rg_cp]) ?_
  have hP9 := hP.sub (ws' := [(x, .inr (1, [.ref h, .ref h2])), (h, .inr (0, [.ref n, .ref o, .ref d, .ref f, .int (nI w), .int dy])), (n, .inl (cI, 12, .inl nf)), (o, .inl (cI, 12, .inl uf)), (d, .inl (cI, 12, .inl df)), (f, .inl (cI, 12, .inl tf)), (h2, .inr (0, [.ref n2, .ref o2, .ref d2, .ref f2, .int (nI j), .int dy])), (n2, .inl (cI, 12, .inl (fb_mw (fb_cp nf mf 12) w j))), (o2, .inl (cI, 12, .inl (fb_cp uf vf 12))), (d2, .inl (cI, 12, .inl (fb_cp df ef 12))), (f2, .inl (cI, 12, .inl (fb_cp tf sf 12)))]) [0, 1, 2, 3, 4, 5, 6, 7, 8, 9, 10] (rfl)
  have hD9 := hD.sub (ws' := [(x, .inr (1, [.ref h, .ref h2])), (h, .inr (0, [.ref n, .ref o, .ref d, .ref f, .int (nI w), .int dy])), (n, .inl (cI, 12, .inl nf)), (o, .inl (cI, 12, .inl uf)), (d, .inl (cI, 12, .inl df)), (f, .inl (cI, 12, .inl tf)), (h2, .inr (0, [.ref n2, .ref o2, .ref d2, .ref f2, .int (nI j), .int dy])), (n2, .inl (cI, 12, .inl (fb_mw (fb_cp nf mf 12) w j))), (o2, .inl (cI, 12, .inl (fb_cp uf vf 12))), (d2, .inl (cI, 12, .inl (fb_cp df ef 12))), (f2, .inl (cI, 12, .inl (fb_cp tf sf 12)))]) [0, 1, 2, 3, 4, 5, 6, 7, 8, 9, 10] (by decide) (rfl)
  exact W.iret (v := fb_ca (fb_rg nf) (fb_rg uf) (fb_rg tf) w j) hx hb hr (fun t ht hW => ⟨⟨fb_ca (fb_rg nf) (fb_rg uf) (fb_rg tf) w j, (), rfl, rfl, by rw [ht]; exact hP9, hD9⟩, hS.F ht⟩) hS.2.2 dX1_costWithWolf_19 hlk
set_option maxHeartbeats 4000000 in
set_option maxRecDepth 100000 in
theorem fb_c_X1_costWithNarrow (l : Launch) (G : va_G) (cI cL : ClassId) (x h n o d f h2 n2 o2 d2 f2 : Nat) (nf uf df tf : Nat → Int32) (w : Nat) (dy : Int32) (mf vf ef sf : Nat → Int32) (tw ty : Int32) (j : Nat) (v : Int32) (hj : j < 12) (hw : w < 12) (sz : Nat) : fb_MI l yX1_costWithNarrow wsX1_costWithNarrow 5 111 [.ref x, .int (nI j), .int v] G cI cL sz (fb_XW cI x h n o d f h2 n2 o2 d2 f2 nf uf df tf (nI w) dy mf vf ef sf tw ty) (fb_XW cI x h n o d f h2 n2 o2 d2 f2 nf uf df tf (nI w) dy (fb_pn (fb_cp nf mf 12) w j v) (fb_cp uf vf 12) (fb_cp df ef 12) (fb_cp tf sf 12) (nI w) dy) (fb_co (fb_ep (upd (fb_rg nf) j v) w) (fb_rg uf) (fb_rg tf) 12) := by
  refine fb_mi_of (cc := cX1_costWithNarrow) (maxL := 3) (ret := (some .int)) (by decide) rfl (Nat.le_of_ble_eq_true rfl) ?_
  intro p e s m args below meth c A hx hb hr hml hlk hts hown hP hK hD hA hX ls hl
  have hown : s.vm.findClass RX1 = some m.cls := hown
  have hP : va_P G vwCl [(x, .inr (1, [.ref h, .ref h2])), (h, .inr (0, [.ref n, .ref o, .ref d, .ref f, .int (nI w), .int dy])), (n, .inl (cI, 12, .inl nf)), (o, .inl (cI, 12, .inl uf)), (d, .inl (cI, 12, .inl df)), (f, .inl (cI, 12, .inl tf)), (h2, .inr (0, [.ref n2, .ref o2, .ref d2, .ref f2, .int tw, .int ty])), (n2, .inl (cI, 12, .inl mf)), (o2, .inl (cI, 12, .inl vf)), (d2, .inl (cI, 12, .inl ef)), (f2, .inl (cI, 12, .inl sf))] s.heap := hP
  have hD : va_D A [(x, .inr (1, [.ref h, .ref h2])), (h, .inr (0, [.ref n, .ref o, .ref d, .ref f, .int (nI w), .int dy])), (n, .inl (cI, 12, .inl nf)), (o, .inl (cI, 12, .inl uf)), (d, .inl (cI, 12, .inl df)), (f, .inl (cI, 12, .inl tf)), (h2, .inr (0, [.ref n2, .ref o2, .ref d2, .ref f2, .int tw, .int ty])), (n2, .inl (cI, 12, .inl mf)), (o2, .inl (cI, 12, .inl vf)), (d2, .inl (cI, 12, .inl ef)), (f2, .inl (cI, 12, .inl sf))] := hD
  have hS : va_S A s.heap s.heap [] := va_S.rf
  have hXn : ∀ (H : Heap) (locs : List Loc), va_S A s.heap H locs → fb_sx (fun _ => False) s H := fun H locs h9 => (hX.kept h9.2.1).narrow (fun _ z => z.elim)
  have hl : lv_has ls 3 [(0, .ref x), (1, .int (nI j)), (2, .int v)] := hl
  have hin0 : ∀ w ∈ u_ws RX0 TX0 6, w ∈ wsX1_costWithNarrow := by decide +kernel
  have hin1 : ∀ w ∈ u_ws RX1 TX1 2, w ∈ wsX1_costWithNarrow := by decide +kernel
  refine lv_aload_n hx hb dX1_costWithNarrow_0 rfl (lv_at hl 0 rfl) ?_
  refine fb_mvV (As := []) (rest := []) (n := 0) (wr := []) (wz := [(x, .inr (1, [.ref h, .ref h2])), (h, .inr (0, [.ref n, .ref o, .ref d, .ref f, .int (nI w), .int dy])), (n, .inl (cI, 12, .inl nf)), (o, .inl (cI, 12, .inl uf)), (d, .inl (cI, 12, .inl df)), (f, .inl (cI, 12, .inl tf)), (h2, .inr (0, [.ref n2, .ref o2, .ref d2, .ref f2, .int (nI w), .int dy])), (n2, .inl (cI, 12, .inl (fb_cp nf mf 12))), (o2, .inl (cI, 12, .inl (fb_cp uf vf 12))), (d2, .inl (cI, 12, .inl (fb_cp df ef 12))), (f2, .inl (cI, 12, .inl (fb_cp tf sf 12)))]) ⟨hx, hb, hml, hown, hts⟩ (fb_c_X1_startTrial l G cI cL x h n o d f h2 n2 o2 d2 f2 nf uf df tf w dy mf vf ef sf tw ty  _) gX1_costWithNarrow_X1_startTrial rfl (by decide +kernel) (by decide) (va_recv hK hP (ci := 1) (q0 := 0) rfl rfl) hP hK hD hS hA hX [0, 1, 2, 3, 4, 5, 6, 7, 8, 9, 10] [] [0, 1, 2, 3, 4, 5, 6, 7, 8, 9, 10] rfl rfl rfl rfl rfl rfl (by decide) rfl hl.1 rfl (Nat.le_of_ble_eq_true rfl) dX1_costWithNarrow_1 (by decide) (fun H locs hP hD hS => ?_)
  refine lv_aload_n hx hb dX1_costWithNarrow_4 rfl (lv_at hl 0 rfl) ?_
  refine va_get (D := G) (ci := 1) (v := .ref h2) (C := RX1) (T := TX1) (N := 2) hx hb hts (hin1) hown hK hP 0 rfl rfl 1 (by decide) (hts (.fieldLink RX1 16 "FifthBeats" "trial" "LFifthBeats$Piano;") (by decide +kernel)) (fun _ h9 => h9) rfl dX1_costWithNarrow_5 ?_
  refine lv_iload_n hx hb dX1_costWithNarrow_8 rfl (lv_at hl 1 rfl) ?_
  refine lv_iload_n hx hb dX1_costWithNarrow_9 rfl (lv_at hl 2 rfl) ?_
  refine fb_mvV (As := [.int (nI j), .int v]) (rest := []) (n := 2) (wr := [(x, .inr (1, [.ref h, .ref h2])), (h, .inr (0, [.ref n, .ref o, .ref d, .ref f, .int (nI w), .int dy])), (n, .inl (cI, 12, .inl nf)), (o, .inl (cI, 12, .inl uf)), (d, .inl (cI, 12, .inl df)), (f, .inl (cI, 12, .inl tf))]) (wz := [(x, .inr (1, [.ref h, .ref h2])), (h, .inr (0, [.ref n, .ref o, .ref d, .ref f, .int (nI w), .int dy])), (n, .inl (cI, 12, .inl nf)), (o, .inl (cI, 12, .inl uf)), (d, .inl (cI, 12, .inl df)), (f, .inl (cI, 12, .inl tf)), (h2, .inr (0, [.ref n2, .ref o2, .ref d2, .ref f2, .int (nI w), .int dy])), (n2, .inl (cI, 12, .inl (fb_pn (fb_cp nf mf 12) w j v))), (o2, .inl (cI, 12, .inl (fb_cp uf vf 12))), (d2, .inl (cI, 12, .inl (fb_cp df ef 12))), (f2, .inl (cI, 12, .inl (fb_cp tf sf 12)))]) ⟨hx, hb, hml, hown, hts⟩ (fb_c_X0_plan l G cI cL h2 n2 o2 d2 f2 (fb_cp nf mf 12) (fb_cp uf vf 12) (fb_cp df ef 12) (fb_cp tf sf 12) w dy j v hj hw _) gX1_costWithNarrow_X0_plan rfl (by decide +kernel) (by decide) (va_recv hK hP (ci := 0) (q0 := 6) rfl rfl) hP hK hD hS hA hX [6, 7, 8, 9, 10] [0, 1, 2, 3, 4, 5] [0, 1, 2, 3, 4, 5, 6, 7, 8, 9, 10] rfl rfl rfl rfl rfl rfl (by decide) rfl hl.1 rfl (Nat.le_of_ble_eq_true rfl) dX1_costWithNarrow_10 (by decide) (fun H locs hP hD hS => ?_)
  refine lv_aload_n hx hb dX1_costWithNarrow_13 rfl (lv_at hl 0 rfl) ?_
  refine va_get (D := G) (ci := 1) (v := .ref h2) (C := RX1) (T := TX1) (N := 2) hx hb hts (hin1) hown hK hP 0 rfl rfl 1 (by decide) (hts (.fieldLink RX1 16 "FifthBeats" "trial" "LFifthBeats$Piano;") (by decide +kernel)) (fun _ h9 => h9) rfl dX1_costWithNarrow_14 ?_
  refine fb_roV (As := []) (rest := []) (n := 0) ⟨hx, hb, hml, hown, hts⟩ (fb_c_X0_cost l G cI cL h2 n2 o2 d2 f2 (fb_pn (fb_cp nf mf 12) w j v) (fb_cp uf vf 12) (fb_cp df ef 12) (fb_cp tf sf 12) w dy  ) gX1_costWithNarrow_X0_cost rfl (by decide +kernel) (by decide) (fb_PB.bl _ _ _ _) (va_recv hK hP (ci := 0) (q0 := 6) rfl rfl) (fb_PB.to (hP.sub (ws' := [(h2, .inr (0, [.ref n2, .ref o2, .ref d2, .ref f2, .int (nI w), .int dy])), (n2, .inl (cI, 12, .inl (fb_pn (fb_cp nf mf 12) w j v))), (o2, .inl (cI, 12, .inl (fb_cp uf vf 12))), (d2, .inl (cI, 12, .inl (fb_cp df ef 12))), (f2, .inl (cI, 12, .inl (fb_cp tf sf 12)))]) [6, 7, 8, 9, 10] rfl) hK (hXn _ _ hS)) rfl hl.1 rfl (Nat.le_of_ble_eq_true rfl) dX1_costWithNarrow_17 (by decide) ?_
  refine fb_ti (z := fb_co (fb_ep (upd (fb_rg nf) j v) w) (fb_rg uf) (fb_rg tf) 12) (by rw [fb_cw_n nf mf hw v, fb_rg_cp, fb_rg_cp]) ?_
  have hP9 := hP.sub (ws' := [(x, .inr (1, [.ref h, .ref h2])), (h, .inr (0, [.ref n, .ref o, .ref d, .ref f, .int (nI w), .int dy])), (n, .inl (cI, 12, .inl nf)), (o, .inl (cI, 12, .inl uf)), (d, .inl (cI, 12, .inl df)), (f, .inl (cI, 12, .inl tf)), (h2, .inr (0, [.ref n2, .ref o2, .ref d2, .ref f2, .int (nI w), .int dy])), (n2, .inl (cI, 12, .inl (fb_pn (fb_cp nf mf 12) w j v))), (o2, .inl (cI, 12, .inl (fb_cp uf vf 12))), (d2, .inl (cI, 12, .inl (fb_cp df ef 12))), (f2, .inl (cI, 12, .inl (fb_cp tf sf 12)))]) [0, 1, 2, 3, 4, 5, 6, 7, 8, 9, 10] (rfl)
  have hD9 := hD.sub (ws' := [(x, .inr (1, [.ref h, .ref h2])), (h, .inr (0, [.ref n, .ref o, .ref d, .ref f, .int (nI w), .int dy])), (n, .inl (cI, 12, .inl nf)), (o, .inl (cI, 12, .inl uf)), (d, .inl (cI, 12, .inl df)), (f, .inl (cI, 12, .inl tf)), (h2, .inr (0, [.ref n2, .ref o2, .ref d2, .ref f2, .int (nI w), .int dy])), (n2, .inl (cI, 12, .inl (fb_pn (fb_cp nf mf 12) w j v))), (o2, .inl (cI, 12, .inl (fb_cp uf vf 12))), (d2, .inl (cI, 12, .inl (fb_cp df ef 12))), (f2, .inl (cI, 12, .inl (fb_cp tf sf 12)))]) [0, 1, 2, 3, 4, 5, 6, 7, 8, 9, 10] (by decide) (rfl)
  exact W.iret (v := fb_co (fb_ep (upd (fb_rg nf) j v) w) (fb_rg uf) (fb_rg tf) 12) hx hb hr (fun t ht hW => ⟨⟨fb_co (fb_ep (upd (fb_rg nf) j v) w) (fb_rg uf) (fb_rg tf) 12, (), rfl, rfl, by rw [ht]; exact hP9, hD9⟩, hS.F ht⟩) hS.2.2 dX1_costWithNarrow_20 hlk
set_option maxHeartbeats 4000000 in
set_option maxRecDepth 100000 in
theorem fb_c_X1_costWithTuned (l : Launch) (G : va_G) (cI cL : ClassId) (x h n o d f h2 n2 o2 d2 f2 : Nat) (nf uf df tf : Nat → Int32) (w : Nat) (dy : Int32) (mf vf ef sf : Nat → Int32) (tw ty : Int32) (j : Nat) (hj : j < 12) (sz : Nat) : fb_MI l yX1_costWithTuned wsX1_costWithTuned 5 111 [.ref x, .int (nI j)] G cI cL sz (fb_XW cI x h n o d f h2 n2 o2 d2 f2 nf uf df tf (nI w) dy mf vf ef sf tw ty) (fb_XW cI x h n o d f h2 n2 o2 d2 f2 nf uf df tf (nI w) dy (fb_cp nf mf 12) (fb_t1 (fb_cp uf vf 12) j) (fb_cp df ef 12) (fb_cp tf sf 12) (nI w) dy) (fb_cn (fb_rg nf) (fb_rg uf) (fb_rg tf) j) := by
  refine fb_mi_of (cc := cX1_costWithTuned) (maxL := 2) (ret := (some .int)) (by decide) rfl (Nat.le_of_ble_eq_true rfl) ?_
  intro p e s m args below meth c A hx hb hr hml hlk hts hown hP hK hD hA hX ls hl
  have hown : s.vm.findClass RX1 = some m.cls := hown
  have hP : va_P G vwCl [(x, .inr (1, [.ref h, .ref h2])), (h, .inr (0, [.ref n, .ref o, .ref d, .ref f, .int (nI w), .int dy])), (n, .inl (cI, 12, .inl nf)), (o, .inl (cI, 12, .inl uf)), (d, .inl (cI, 12, .inl df)), (f, .inl (cI, 12, .inl tf)), (h2, .inr (0, [.ref n2, .ref o2, .ref d2, .ref f2, .int tw, .int ty])), (n2, .inl (cI, 12, .inl mf)), (o2, .inl (cI, 12, .inl vf)), (d2, .inl (cI, 12, .inl ef)), (f2, .inl (cI, 12, .inl sf))] s.heap := hP
  have hD : va_D A [(x, .inr (1, [.ref h, .ref h2])), (h, .inr (0, [.ref n, .ref o, .ref d, .ref f, .int (nI w), .int dy])), (n, .inl (cI, 12, .inl nf)), (o, .inl (cI, 12, .inl uf)), (d, .inl (cI, 12, .inl df)), (f, .inl (cI, 12, .inl tf)), (h2, .inr (0, [.ref n2, .ref o2, .ref d2, .ref f2, .int tw, .int ty])), (n2, .inl (cI, 12, .inl mf)), (o2, .inl (cI, 12, .inl vf)), (d2, .inl (cI, 12, .inl ef)), (f2, .inl (cI, 12, .inl sf))] := hD
  have hS : va_S A s.heap s.heap [] := va_S.rf
  have hXn : ∀ (H : Heap) (locs : List Loc), va_S A s.heap H locs → fb_sx (fun _ => False) s H := fun H locs h9 => (hX.kept h9.2.1).narrow (fun _ z => z.elim)
  have hl : lv_has ls 2 [(0, .ref x), (1, .int (nI j))] := hl
  have hin0 : ∀ w ∈ u_ws RX0 TX0 6, w ∈ wsX1_costWithTuned := by decide +kernel
  have hin1 : ∀ w ∈ u_ws RX1 TX1 2, w ∈ wsX1_costWithTuned := by decide +kernel
  refine lv_aload_n hx hb dX1_costWithTuned_0 rfl (lv_at hl 0 rfl) ?_
  refine fb_mvV (As := []) (rest := []) (n := 0) (wr := []) (wz := [(x, .inr (1, [.ref h, .ref h2])), (h, .inr (0, [.ref n, .ref o, .ref d, .ref f, .int (nI w), .int dy])), (n, .inl (cI, 12, .inl nf)), (o, .inl (cI, 12, .inl uf)), (d, .inl (cI, 12, .inl df)), (f, .inl (cI, 12, .inl tf)), (h2, .inr (0, [.ref n2, .ref o2, .ref d2, .ref f2, .int (nI w), .int dy])), (n2, .inl (cI, 12, .inl (fb_cp nf mf 12))), (o2, .inl (cI, 12, .inl (fb_cp uf vf 12))), (d2, .inl (cI, 12, .inl (fb_cp df ef 12))), (f2, .inl (cI, 12, .inl (fb_cp tf sf 12)))]) ⟨hx, hb, hml, hown, hts⟩ (fb_c_X1_startTrial l G cI cL x h n o d f h2 n2 o2 d2 f2 nf uf df tf w dy mf vf ef sf tw ty  _) gX1_costWithTuned_X1_startTrial rfl (by decide +kernel) (by decide) (va_recv hK hP (ci := 1) (q0 := 0) rfl rfl) hP hK hD hS hA hX [0, 1, 2, 3, 4, 5, 6, 7, 8, 9, 10] [] [0, 1, 2, 3, 4, 5, 6, 7, 8, 9, 10] rfl rfl rfl rfl rfl rfl (by decide) rfl hl.1 rfl (Nat.le_of_ble_eq_true rfl) dX1_costWithTuned_1 (by decide) (fun H locs hP hD hS => ?_)
  refine lv_aload_n hx hb dX1_costWithTuned_4 rfl (lv_at hl 0 rfl) ?_
  refine va_get (D := G) (ci := 1) (v := .ref h2) (C := RX1) (T := TX1) (N := 2) hx hb hts (hin1) hown hK hP 0 rfl rfl 1 (by decide) (hts (.fieldLink RX1 16 "FifthBeats" "trial" "LFifthBeats$Piano;") (by decide +kernel)) (fun _ h9 => h9) rfl dX1_costWithTuned_5 ?_
  refine lv_iload_n hx hb dX1_costWithTuned_8 rfl (lv_at hl 1 rfl) ?_
  refine fb_miV (As := [.int (nI j)]) (rest := []) (n := 1) (wr := [(x, .inr (1, [.ref h, .ref h2])), (h, .inr (0, [.ref n, .ref o, .ref d, .ref f, .int (nI w), .int dy])), (n, .inl (cI, 12, .inl nf)), (o, .inl (cI, 12, .inl uf)), (d, .inl (cI, 12, .inl df)), (f, .inl (cI, 12, .inl tf))]) (wz := [(x, .inr (1, [.ref h, .ref h2])), (h, .inr (0, [.ref n, .ref o, .ref d, .ref f, .int (nI w), .int dy])), (n, .inl (cI, 12, .inl nf)), (o, .inl (cI, 12, .inl uf)), (d, .inl (cI, 12, .inl df)), (f, .inl (cI, 12, .inl tf)), (h2, .inr (0, [.ref n2, .ref o2, .ref d2, .ref f2, .int (nI w), .int dy])), (n2, .inl (cI, 12, .inl (fb_cp nf mf 12))), (o2, .inl (cI, 12, .inl (fb_t1 (fb_cp uf vf 12) j))), (d2, .inl (cI, 12, .inl (fb_cp df ef 12))), (f2, .inl (cI, 12, .inl (fb_cp tf sf 12)))]) ⟨hx, hb, hml, hown, hts⟩ (fb_c_X0_tuneOne l G cI cL h2 n2 o2 d2 f2 (fb_cp nf mf 12) (fb_cp uf vf 12) (fb_cp df ef 12) (fb_cp tf sf 12) w dy j (by omega) _) gX1_costWithTuned_X0_tuneOne rfl (by decide +kernel) (by decide) (va_recv hK hP (ci := 0) (q0 := 6) rfl rfl) hP hK hD hS hA hX [6, 7, 8, 9, 10] [0, 1, 2, 3, 4, 5] [0, 1, 2, 3, 4, 5, 6, 7, 8, 9, 10] rfl rfl rfl rfl rfl rfl (by decide) rfl hl.1 rfl (Nat.le_of_ble_eq_true rfl) dX1_costWithTuned_9 (by decide) (fun H locs hP hD hS => ?_)
  refine lv_pop hx hb dX1_costWithTuned_12 rfl ?_
  refine lv_aload_n hx hb dX1_costWithTuned_13 rfl (lv_at hl 0 rfl) ?_
  refine va_get (D := G) (ci := 1) (v := .ref h2) (C := RX1) (T := TX1) (N := 2) hx hb hts (hin1) hown hK hP 0 rfl rfl 1 (by decide) (hts (.fieldLink RX1 16 "FifthBeats" "trial" "LFifthBeats$Piano;") (by decide +kernel)) (fun _ h9 => h9) rfl dX1_costWithTuned_14 ?_
  refine fb_roV (As := []) (rest := []) (n := 0) ⟨hx, hb, hml, hown, hts⟩ (fb_c_X0_cost l G cI cL h2 n2 o2 d2 f2 (fb_cp nf mf 12) (fb_t1 (fb_cp uf vf 12) j) (fb_cp df ef 12) (fb_cp tf sf 12) w dy  ) gX1_costWithTuned_X0_cost rfl (by decide +kernel) (by decide) (fb_PB.bl _ _ _ _) (va_recv hK hP (ci := 0) (q0 := 6) rfl rfl) (fb_PB.to (hP.sub (ws' := [(h2, .inr (0, [.ref n2, .ref o2, .ref d2, .ref f2, .int (nI w), .int dy])), (n2, .inl (cI, 12, .inl (fb_cp nf mf 12))), (o2, .inl (cI, 12, .inl (fb_t1 (fb_cp uf vf 12) j))), (d2, .inl (cI, 12, .inl (fb_cp df ef 12))), (f2, .inl (cI, 12, .inl (fb_cp tf sf 12)))]) [6, 7, 8, 9, 10] rfl) hK (hXn _ _ hS)) rfl hl.1 rfl (Nat.le_of_ble_eq_true rfl) dX1_costWithTuned_17 (by decide) ?_
  refine fb_ti (z := fb_cn (fb_rg nf) (fb_rg uf) (fb_rg tf) j) (by unfold fb_cn; rw [fb_cw_t, fb_rg_cp, fb_rg_cp]) ?_
  have hP9 := hP.sub (ws' := [(x, .inr (1, [.ref h, .ref h2])), (h, .inr (0, [.ref n, .ref o, .ref d, .ref f, .int (nI w), .int dy])), (n, .inl (cI, 12, .inl nf)), (o, .inl (cI, 12, .inl uf)), (d, .inl (cI, 12, .inl df)), (f, .inl (cI, 12, .inl tf)), (h2, .inr (0, [.ref n2, .ref o2, .ref d2, .ref f2, .int (nI w), .int dy])), (n2, .inl (cI, 12, .inl (fb_cp nf mf 12))), (o2, .inl (cI, 12, .inl (fb_t1 (fb_cp uf vf 12) j))), (d2, .inl (cI, 12, .inl (fb_cp df ef 12))), (f2, .inl (cI, 12, .inl (fb_cp tf sf 12)))]) [0, 1, 2, 3, 4, 5, 6, 7, 8, 9, 10] (rfl)
  have hD9 := hD.sub (ws' := [(x, .inr (1, [.ref h, .ref h2])), (h, .inr (0, [.ref n, .ref o, .ref d, .ref f, .int (nI w), .int dy])), (n, .inl (cI, 12, .inl nf)), (o, .inl (cI, 12, .inl uf)), (d, .inl (cI, 12, .inl df)), (f, .inl (cI, 12, .inl tf)), (h2, .inr (0, [.ref n2, .ref o2, .ref d2, .ref f2, .int (nI w), .int dy])), (n2, .inl (cI, 12, .inl (fb_cp nf mf 12))), (o2, .inl (cI, 12, .inl (fb_t1 (fb_cp uf vf 12) j))), (d2, .inl (cI, 12, .inl (fb_cp df ef 12))), (f2, .inl (cI, 12, .inl (fb_cp tf sf 12)))]) [0, 1, 2, 3, 4, 5, 6, 7, 8, 9, 10] (by decide) (rfl)
  exact W.iret (v := fb_cn (fb_rg nf) (fb_rg uf) (fb_rg tf) j) hx hb hr (fun t ht hW => ⟨⟨fb_cn (fb_rg nf) (fb_rg uf) (fb_rg tf) j, (), rfl, rfl, by rw [ht]; exact hP9, hD9⟩, hS.F ht⟩) hS.2.2 dX1_costWithTuned_20 hlk
set_option maxHeartbeats 4000000 in
set_option maxRecDepth 100000 in
theorem fb_c_X1_foresee (l : Launch) (G : va_G) (cI cL : ClassId) (x h n o d f h2 n2 o2 d2 f2 : Nat) (nf uf df tf : Nat → Int32) (w : Nat) (dy : Int32) (mf vf ef sf : Nat → Int32) (tw ty : Int32) (q : Nat) (r : Nat) (hq : 1 ≤ q) (hq2 : q ≤ 100) (hr2 : 2 ≤ r) (hr7 : r < 7) (hw : w < 12) (sz : Nat) : fb_MG l yX1_foresee wsX1_foresee 6 132 0 0 [.ref x, .int (nI q), .int (nI r)] G cI cL sz (fb_XW cI x h n o d f h2 n2 o2 d2 f2 nf uf df tf (nI w) dy mf vf ef sf tw ty) (fb_qi G (S := ((Nat → Int32) × (Nat → Int32) × (Nat → Int32) × (Nat → Int32) × Int32 × Int32)) (fun u => (fb_XW cI x h n o d f h2 n2 o2 d2 f2 nf uf df tf (nI w) dy u.1 u.2.1 u.2.2.1 u.2.2.2.1 u.2.2.2.2.1 u.2.2.2.2.2)) (fb_tC (fb_rg nf) (fb_rg (fb_dy df uf q)) (fb_rg tf) w (dy + nI q) r) (fun _ => True)) := by
  refine fb_mg_of (cc := cX1_foresee) (maxL := 3) (ret := (some .int)) (by decide) rfl (Nat.le_of_ble_eq_true rfl) ?_
  intro p e s m args below meth c A hx hb hr hml hlk hts hown hP hK hD hA hX hin9 ls hl
  have hown : s.vm.findClass RX1 = some m.cls := hown
  have hP : va_P G vwCl [(x, .inr (1, [.ref h, .ref h2])), (h, .inr (0, [.ref n, .ref o, .ref d, .ref f, .int (nI w), .int dy])), (n, .inl (cI, 12, .inl nf)), (o, .inl (cI, 12, .inl uf)), (d, .inl (cI, 12, .inl df)), (f, .inl (cI, 12, .inl tf)), (h2, .inr (0, [.ref n2, .ref o2, .ref d2, .ref f2, .int tw, .int ty])), (n2, .inl (cI, 12, .inl mf)), (o2, .inl (cI, 12, .inl vf)), (d2, .inl (cI, 12, .inl ef)), (f2, .inl (cI, 12, .inl sf))] s.heap := hP
  have hD : va_D A [(x, .inr (1, [.ref h, .ref h2])), (h, .inr (0, [.ref n, .ref o, .ref d, .ref f, .int (nI w), .int dy])), (n, .inl (cI, 12, .inl nf)), (o, .inl (cI, 12, .inl uf)), (d, .inl (cI, 12, .inl df)), (f, .inl (cI, 12, .inl tf)), (h2, .inr (0, [.ref n2, .ref o2, .ref d2, .ref f2, .int tw, .int ty])), (n2, .inl (cI, 12, .inl mf)), (o2, .inl (cI, 12, .inl vf)), (d2, .inl (cI, 12, .inl ef)), (f2, .inl (cI, 12, .inl sf))] := hD
  have hS : va_S A s.heap s.heap [] := va_S.rf
  have hXn : ∀ (H : Heap) (locs : List Loc), va_S A s.heap H locs → fb_sx (fun _ => False) s H := fun H locs h9 => (hX.kept h9.2.1).narrow (fun _ z => z.elim)
  have hl : lv_has ls 3 [(0, .ref x), (1, .int (nI q)), (2, .int (nI r))] := hl
  have hin0 : ∀ w ∈ u_ws RX0 TX0 6, w ∈ wsX1_foresee := by decide +kernel
  have hin1 : ∀ w ∈ u_ws RX1 TX1 2, w ∈ wsX1_foresee := by decide +kernel
  refine lv_iload_n hx hb dX1_foresee_0 rfl (lv_at hl 1 rfl) ?_
  refine lv_iconst (v := 1) hx hb dX1_foresee_1 (by decide) ?_
  refine lv_bipush (v := 100) hx hb dX1_foresee_2 (by decide) ?_
  refine fb_rvS (As := [.int (nI q), .int 1, .int 100]) (rest := []) (n := 3) ⟨hx, hb, hml, hown, hts⟩ (fb_c_X1_checkArgument l (nI q) 1 100 (fb_g1 hq hq2 (by decide))) gX1_foresee_X1_checkArgument rfl (by decide +kernel) (by decide) fb_Bl_T (fun _ _ _ => trivial) rfl hl.1 rfl (Nat.le_of_ble_eq_true rfl) dX1_foresee_4 (by decide) ?_
  refine lv_iload_n hx hb dX1_foresee_7 rfl (lv_at hl 2 rfl) ?_
  refine lv_iconst (v := 2) hx hb dX1_foresee_8 (by decide) ?_
  refine lv_bipush (v := 7) hx hb dX1_foresee_9 (by decide) ?_
  refine fb_rvS (As := [.int (nI r), .int 2, .int 7]) (rest := []) (n := 3) ⟨hx, hb, hml, hown, hts⟩ (fb_c_X1_checkWhat l (nI r) 2 7 (fb_w2 hr2 hr7 (by decide))) gX1_foresee_X1_checkWhat rfl (by decide +kernel) (by decide) fb_Bl_T (fun _ _ _ => trivial) rfl hl.1 rfl (Nat.le_of_ble_eq_true rfl) dX1_foresee_11 (by decide) ?_
  refine lv_aload_n hx hb dX1_foresee_14 rfl (lv_at hl 0 rfl) ?_
  refine fb_mvV (As := []) (rest := []) (n := 0) (wr := []) (wz := [(x, .inr (1, [.ref h, .ref h2])), (h, .inr (0, [.ref n, .ref o, .ref d, .ref f, .int (nI w), .int dy])), (n, .inl (cI, 12, .inl nf)), (o, .inl (cI, 12, .inl uf)), (d, .inl (cI, 12, .inl df)), (f, .inl (cI, 12, .inl tf)), (h2, .inr (0, [.ref n2, .ref o2, .ref d2, .ref f2, .int (nI w), .int dy])), (n2, .inl (cI, 12, .inl (fb_cp nf mf 12))), (o2, .inl (cI, 12, .inl (fb_cp uf vf 12))), (d2, .inl (cI, 12, .inl (fb_cp df ef 12))), (f2, .inl (cI, 12, .inl (fb_cp tf sf 12)))]) ⟨hx, hb, hml, hown, hts⟩ (fb_c_X1_startTrial l G cI cL x h n o d f h2 n2 o2 d2 f2 nf uf df tf w dy mf vf ef sf tw ty  _) gX1_foresee_X1_startTrial rfl (by decide +kernel) (by decide) (va_recv hK hP (ci := 1) (q0 := 0) rfl rfl) hP hK hD hS hA hX [0, 1, 2, 3, 4, 5, 6, 7, 8, 9, 10] [] [0, 1, 2, 3, 4, 5, 6, 7, 8, 9, 10] rfl rfl rfl rfl rfl rfl (by decide) rfl hl.1 rfl (Nat.le_of_ble_eq_true rfl) dX1_foresee_15 (by decide) (fun H locs hP hD hS => ?_)
  refine lv_aload_n hx hb dX1_foresee_18 rfl (lv_at hl 0 rfl) ?_
  refine va_get (D := G) (ci := 1) (v := .ref h2) (C := RX1) (T := TX1) (N := 2) hx hb hts (hin1) hown hK hP 0 rfl rfl 1 (by decide) (hts (.fieldLink RX1 16 "FifthBeats" "trial" "LFifthBeats$Piano;") (by decide +kernel)) (fun _ h9 => h9) rfl dX1_foresee_19 ?_
  refine lv_iload_n hx hb dX1_foresee_22 rfl (lv_at hl 1 rfl) ?_
  refine fb_mvV (As := [.int (nI q)]) (rest := []) (n := 1) (wr := [(x, .inr (1, [.ref h, .ref h2])), (h, .inr (0, [.ref n, .ref o, .ref d, .ref f, .int (nI w), .int dy])), (n, .inl (cI, 12, .inl nf)), (o, .inl (cI, 12, .inl uf)), (d, .inl (cI, 12, .inl df)), (f, .inl (cI, 12, .inl tf))]) (wz := [(x, .inr (1, [.ref h, .ref h2])), (h, .inr (0, [.ref n, .ref o, .ref d, .ref f, .int (nI w), .int dy])), (n, .inl (cI, 12, .inl nf)), (o, .inl (cI, 12, .inl uf)), (d, .inl (cI, 12, .inl df)), (f, .inl (cI, 12, .inl tf)), (h2, .inr (0, [.ref n2, .ref o2, .ref d2, .ref f2, .int (nI w), .int (dy + nI q)])), (n2, .inl (cI, 12, .inl (fb_cp nf mf 12))), (o2, .inl (cI, 12, .inl (fb_dy (fb_cp df ef 12) (fb_cp uf vf 12) q))), (d2, .inl (cI, 12, .inl (fb_cp df ef 12))), (f2, .inl (cI, 12, .inl (fb_cp tf sf 12)))]) ⟨hx, hb, hml, hown, hts⟩ (fb_c_X0_letPass l G cI cL h2 n2 o2 d2 f2 (fb_cp nf mf 12) (fb_cp uf vf 12) (fb_cp df ef 12) (fb_cp tf sf 12) w dy q (by omega) _) gX1_foresee_X0_letPass rfl (by decide +kernel) (by decide) (va_recv hK hP (ci := 0) (q0 := 6) rfl rfl) hP hK hD hS hA hX [6, 7, 8, 9, 10] [0, 1, 2, 3, 4, 5] [0, 1, 2, 3, 4, 5, 6, 7, 8, 9, 10] rfl rfl rfl rfl rfl rfl (by decide) rfl hl.1 rfl (Nat.le_of_ble_eq_true rfl) dX1_foresee_23 (by decide) (fun H locs hP hD hS => ?_)
  refine lv_aload_n hx hb dX1_foresee_26 rfl (lv_at hl 0 rfl) ?_
  refine va_get (D := G) (ci := 1) (v := .ref h2) (C := RX1) (T := TX1) (N := 2) hx hb hts (hin1) hown hK hP 0 rfl rfl 1 (by decide) (hts (.fieldLink RX1 16 "FifthBeats" "trial" "LFifthBeats$Piano;") (by decide +kernel)) (fun _ h9 => h9) rfl dX1_foresee_27 ?_
  refine lv_iload_n hx hb dX1_foresee_30 rfl (lv_at hl 2 rfl) ?_
  refine fb_roV (As := [.int (nI r)]) (rest := []) (n := 1) ⟨hx, hb, hml, hown, hts⟩ (fb_c_X0_tellCount l G cI cL h2 n2 o2 d2 f2 (fb_cp nf mf 12) (fb_dy (fb_cp df ef 12) (fb_cp uf vf 12) q) (fb_cp df ef 12) (fb_cp tf sf 12) w (dy + nI q) r hr7 hw) gX1_foresee_X0_tellCount rfl (by decide +kernel) (by decide) (fb_PB.bl _ _ _ _) (va_recv hK hP (ci := 0) (q0 := 6) rfl rfl) (fb_PB.to (hP.sub (ws' := [(h2, .inr (0, [.ref n2, .ref o2, .ref d2, .ref f2, .int (nI w), .int (dy + nI q)])), (n2, .inl (cI, 12, .inl (fb_cp nf mf 12))), (o2, .inl (cI, 12, .inl (fb_dy (fb_cp df ef 12) (fb_cp uf vf 12) q))), (d2, .inl (cI, 12, .inl (fb_cp df ef 12))), (f2, .inl (cI, 12, .inl (fb_cp tf sf 12)))]) [6, 7, 8, 9, 10] rfl) hK (hXn _ _ hS)) rfl hl.1 rfl (Nat.le_of_ble_eq_true rfl) dX1_foresee_31 (by decide) ?_
  refine fb_ti (z := fb_tC (fb_rg nf) (fb_rg (fb_dy df uf q)) (fb_rg tf) w (dy + nI q) r) (by rw [fb_rg_cp, fb_rg_cp, fb_rg_dyc]) ?_
  have hP9 := hP.sub (ws' := [(x, .inr (1, [.ref h, .ref h2])), (h, .inr (0, [.ref n, .ref o, .ref d, .ref f, .int (nI w), .int dy])), (n, .inl (cI, 12, .inl nf)), (o, .inl (cI, 12, .inl uf)), (d, .inl (cI, 12, .inl df)), (f, .inl (cI, 12, .inl tf)), (h2, .inr (0, [.ref n2, .ref o2, .ref d2, .ref f2, .int (nI w), .int (dy + nI q)])), (n2, .inl (cI, 12, .inl (fb_cp nf mf 12))), (o2, .inl (cI, 12, .inl (fb_dy (fb_cp df ef 12) (fb_cp uf vf 12) q))), (d2, .inl (cI, 12, .inl (fb_cp df ef 12))), (f2, .inl (cI, 12, .inl (fb_cp tf sf 12)))]) [0, 1, 2, 3, 4, 5, 6, 7, 8, 9, 10] rfl
  have hD9 := hD.sub (ws' := [(x, .inr (1, [.ref h, .ref h2])), (h, .inr (0, [.ref n, .ref o, .ref d, .ref f, .int (nI w), .int dy])), (n, .inl (cI, 12, .inl nf)), (o, .inl (cI, 12, .inl uf)), (d, .inl (cI, 12, .inl df)), (f, .inl (cI, 12, .inl tf)), (h2, .inr (0, [.ref n2, .ref o2, .ref d2, .ref f2, .int (nI w), .int (dy + nI q)])), (n2, .inl (cI, 12, .inl (fb_cp nf mf 12))), (o2, .inl (cI, 12, .inl (fb_dy (fb_cp df ef 12) (fb_cp uf vf 12) q))), (d2, .inl (cI, 12, .inl (fb_cp df ef 12))), (f2, .inl (cI, 12, .inl (fb_cp tf sf 12)))]) [0, 1, 2, 3, 4, 5, 6, 7, 8, 9, 10] (by decide) rfl
  exact W.iret (v := fb_tC (fb_rg nf) (fb_rg (fb_dy df uf q)) (fb_rg tf) w (dy + nI q) r) hx hb hr (fun t ht hW => ⟨⟨fb_tC (fb_rg nf) (fb_rg (fb_dy df uf q)) (fb_rg tf) w (dy + nI q) r, (fb_cp nf mf 12, fb_dy (fb_cp df ef 12) (fb_cp uf vf 12) q, fb_cp df ef 12, fb_cp tf sf 12, nI w, dy + nI q), rfl, ⟨rfl, trivial⟩, by rw [ht]; exact hP9, hD9⟩, hS.F ht⟩) hS.2.2 dX1_foresee_34 hlk
set_option maxHeartbeats 4000000 in
set_option maxRecDepth 100000 in
theorem fb_c_X1_until (l : Launch) (G : va_G) (cI cL : ClassId) (x h n o d f h2 n2 o2 d2 f2 : Nat) (nf uf df tf : Nat → Int32) (w : Nat) (dy : Int32) (mf vf ef sf : Nat → Int32) (tw ty : Int32) (b9 : Int32) (hv2 : ¬ (b9 < 1 ∨ 9999 < b9)) (hw : w < 12) (sz : Nat) : fb_MG l yX1_until wsX1_until 5 107 0 0 [.ref x, .int b9] G cI cL sz (fb_XW cI x h n o d f h2 n2 o2 d2 f2 nf uf df tf (nI w) dy mf vf ef sf tw ty) (fb_qi G (S := ((Nat → Int32) × (Nat → Int32) × (Nat → Int32) × (Nat → Int32) × Int32 × Int32)) (fun u => (fb_XW cI x h n o d f h2 n2 o2 d2 f2 nf uf df tf (nI w) dy u.1 u.2.1 u.2.2.1 u.2.2.2.1 u.2.2.2.2.1 u.2.2.2.2.2)) (fb_us (fun d9 => fb_fa (fb_rg nf) (fb_rg (fb_dy df uf d9)) w 12) b9 201 0) (fun _ => True)) := by
  refine fb_mg_of (cc := cX1_until) (maxL := 3) (ret := (some .int)) (by decide) rfl (Nat.le_of_ble_eq_true rfl) ?_
  intro p e s m args below meth c A hx hb hr hml hlk hts hown hP hK hD hA hX hin9 ls hl
  have hown : s.vm.findClass RX1 = some m.cls := hown
  have hP : va_P G vwCl [(x, .inr (1, [.ref h, .ref h2])), (h, .inr (0, [.ref n, .ref o, .ref d, .ref f, .int (nI w), .int dy])), (n, .inl (cI, 12, .inl nf)), (o, .inl (cI, 12, .inl uf)), (d, .inl (cI, 12, .inl df)), (f, .inl (cI, 12, .inl tf)), (h2, .inr (0, [.ref n2, .ref o2, .ref d2, .ref f2, .int tw, .int ty])), (n2, .inl (cI, 12, .inl mf)), (o2, .inl (cI, 12, .inl vf)), (d2, .inl (cI, 12, .inl ef)), (f2, .inl (cI, 12, .inl sf))] s.heap := hP
  have hD : va_D A [(x, .inr (1, [.ref h, .ref h2])), (h, .inr (0, [.ref n, .ref o, .ref d, .ref f, .int (nI w), .int dy])), (n, .inl (cI, 12, .inl nf)), (o, .inl (cI, 12, .inl uf)), (d, .inl (cI, 12, .inl df)), (f, .inl (cI, 12, .inl tf)), (h2, .inr (0, [.ref n2, .ref o2, .ref d2, .ref f2, .int tw, .int ty])), (n2, .inl (cI, 12, .inl mf)), (o2, .inl (cI, 12, .inl vf)), (d2, .inl (cI, 12, .inl ef)), (f2, .inl (cI, 12, .inl sf))] := hD
  have hS : va_S A s.heap s.heap [] := va_S.rf
  have hXn : ∀ (H : Heap) (locs : List Loc), va_S A s.heap H locs → fb_sx (fun _ => False) s H := fun H locs h9 => (hX.kept h9.2.1).narrow (fun _ z => z.elim)
  have hl : lv_has ls 3 [(0, .ref x), (1, .int b9)] := hl
  have hin0 : ∀ w ∈ u_ws RX0 TX0 6, w ∈ wsX1_until := by decide +kernel
  have hin1 : ∀ w ∈ u_ws RX1 TX1 2, w ∈ wsX1_until := by decide +kernel
  refine lv_iload_n hx hb dX1_until_0 rfl (lv_at hl 1 rfl) ?_
  refine lv_iconst (v := 1) hx hb dX1_until_1 (by decide) ?_
  refine lv_sipush (v := 9999) hx hb dX1_until_2 (by decide) ?_
  refine fb_rvS (As := [.int b9, .int 1, .int 9999]) (rest := []) (n := 3) ⟨hx, hb, hml, hown, hts⟩ (fb_c_X1_checkArgument l b9 1 9999 (fb_gv hv2)) gX1_until_X1_checkArgument rfl (by decide +kernel) (by decide) fb_Bl_T (fun _ _ _ => trivial) rfl hl.1 rfl (Nat.le_of_ble_eq_true rfl) dX1_until_5 (by decide) ?_
  refine lv_aload_n hx hb dX1_until_8 rfl (lv_at hl 0 rfl) ?_
  refine fb_mvV (As := []) (rest := []) (n := 0) (wr := []) (wz := [(x, .inr (1, [.ref h, .ref h2])), (h, .inr (0, [.ref n, .ref o, .ref d, .ref f, .int (nI w), .int dy])), (n, .inl (cI, 12, .inl nf)), (o, .inl (cI, 12, .inl uf)), (d, .inl (cI, 12, .inl df)), (f, .inl (cI, 12, .inl tf)), (h2, .inr (0, [.ref n2, .ref o2, .ref d2, .ref f2, .int (nI w), .int dy])), (n2, .inl (cI, 12, .inl (fb_cp nf mf 12))), (o2, .inl (cI, 12, .inl (fb_cp uf vf 12))), (d2, .inl (cI, 12, .inl (fb_cp df ef 12))), (f2, .inl (cI, 12, .inl (fb_cp tf sf 12)))]) ⟨hx, hb, hml, hown, hts⟩ (fb_c_X1_startTrial l G cI cL x h n o d f h2 n2 o2 d2 f2 nf uf df tf w dy mf vf ef sf tw ty  _) gX1_until_X1_startTrial rfl (by decide +kernel) (by decide) (va_recv hK hP (ci := 1) (q0 := 0) rfl rfl) hP hK hD hS hA hX [0, 1, 2, 3, 4, 5, 6, 7, 8, 9, 10] [] [0, 1, 2, 3, 4, 5, 6, 7, 8, 9, 10] rfl rfl rfl rfl rfl rfl (by decide) rfl hl.1 rfl (Nat.le_of_ble_eq_true rfl) dX1_until_9 (by decide) (fun H locs hP hD hS => ?_)
  refine lv_iconst (v := 0) hx hb dX1_until_12 (by decide) ?_
  refine lv_istore_n (lv' := [(2, .int 0), (0, .ref x), (1, .int b9)]) hx hb dX1_until_13 rfl hl (by decide) rfl (fun ls hl => ?_)
  have lp14 : ∀ (n9 i : Nat), i ≤ 201 → 201 < i + n9 → (fb_us (fun d9 => fb_fa (fb_rg nf) (fb_rg (fb_dy df uf d9)) w 12) b9 (201 - i) i = fb_us (fun d9 => fb_fa (fb_rg nf) (fb_rg (fb_dy df uf d9)) w 12) b9 201 0) → ∀ (H : Heap) (locs : List Loc), va_P G vwCl [(x, .inr (1, [.ref h, .ref h2])), (h, .inr (0, [.ref n, .ref o, .ref d, .ref f, .int (nI w), .int dy])), (n, .inl (cI, 12, .inl nf)), (o, .inl (cI, 12, .inl uf)), (d, .inl (cI, 12, .inl df)), (f, .inl (cI, 12, .inl tf)), (h2, .inr (0, [.ref n2, .ref o2, .ref d2, .ref f2, .int (nI w), .int (dy + nI i)])), (n2, .inl (cI, 12, .inl (fb_cp nf mf 12))), (o2, .inl (cI, 12, .inl (fb_dy (fb_cp df ef 12) (fb_cp uf vf 12) i))), (d2, .inl (cI, 12, .inl (fb_cp df ef 12))), (f2, .inl (cI, 12, .inl (fb_cp tf sf 12)))] H → va_D A [(x, .inr (1, [.ref h, .ref h2])), (h, .inr (0, [.ref n, .ref o, .ref d, .ref f, .int (nI w), .int dy])), (n, .inl (cI, 12, .inl nf)), (o, .inl (cI, 12, .inl uf)), (d, .inl (cI, 12, .inl df)), (f, .inl (cI, 12, .inl tf)), (h2, .inr (0, [.ref n2, .ref o2, .ref d2, .ref f2, .int (nI w), .int (dy + nI i)])), (n2, .inl (cI, 12, .inl (fb_cp nf mf 12))), (o2, .inl (cI, 12, .inl (fb_dy (fb_cp df ef 12) (fb_cp uf vf 12) i))), (d2, .inl (cI, 12, .inl (fb_cp df ef 12))), (f2, .inl (cI, 12, .inl (fb_cp tf sf 12)))] → va_S A s.heap H locs → ∀ ls : Array Slot, lv_has ls 3 [(2, .int (nI i)), (0, .ref x), (1, .int b9)] → W p l e ({ frames := 5, cells := 0, slots := 0, locals := 107 }) s m args below meth c H locs 0 0 (MQ below ((fb_qi G (S := ((Nat → Int32) × (Nat → Int32) × (Nat → Int32) × (Nat → Int32) × Int32 × Int32)) (fun u => (fb_XW cI x h n o d f h2 n2 o2 d2 f2 nf uf df tf (nI w) dy u.1 u.2.1 u.2.2.1 u.2.2.2.1 u.2.2.2.2.1 u.2.2.2.2.2)) (fb_us (fun d9 => fb_fa (fb_rg nf) (fb_rg (fb_dy df uf d9)) w 12) b9 201 0) (fun _ => True)) A) args s 0 0 A) (F0 m 14 ls []) := by
    intro n9
    induction n9 with
    | zero => intro i  h1 h2; exact absurd h2 (by omega)
    | succ n9 ih14 =>
      intro i  hi_i hin9 hU H locs hP hD hS ls hl
      refine lv_iload_n hx hb dX1_until_14 rfl (lv_at hl 0 rfl) ?_
      refine lv_sipush (v := 200) hx hb dX1_until_15 (by decide) ?_
      refine lv_icmp_gt (tgt := 48) hx hb dX1_until_18 (by decide) (fun c18 => ?_) (fun c18 => ?_)
      · skip
        have h18 : 200 < i := (nI_ltI (by decide) (by omega)).mp c18
        obtain rfl : i = 201 := by omega
        refine lv_iconst (v := (-1)) hx hb dX1_until_48 (by decide) ?_
        have hP9 := hP.sub (ws' := [(x, .inr (1, [.ref h, .ref h2])), (h, .inr (0, [.ref n, .ref o, .ref d, .ref f, .int (nI w), .int dy])), (n, .inl (cI, 12, .inl nf)), (o, .inl (cI, 12, .inl uf)), (d, .inl (cI, 12, .inl df)), (f, .inl (cI, 12, .inl tf)), (h2, .inr (0, [.ref n2, .ref o2, .ref d2, .ref f2, .int (nI w), .int (dy + nI 201)])), (n2, .inl (cI, 12, .inl (fb_cp nf mf 12))), (o2, .inl (cI, 12, .inl (fb_dy (fb_cp df ef 12) (fb_cp uf vf 12) 201))), (d2, .inl (cI, 12, .inl (fb_cp df ef 12))), (f2, .inl (cI, 12, .inl (fb_cp tf sf 12)))]) [0, 1, 2, 3, 4, 5, 6, 7, 8, 9, 10] rfl
        have hD9 := hD.sub (ws' := [(x, .inr (1, [.ref h, .ref h2])), (h, .inr (0, [.ref n, .ref o, .ref d, .ref f, .int (nI w), .int dy])), (n, .inl (cI, 12, .inl nf)), (o, .inl (cI, 12, .inl uf)), (d, .inl (cI, 12, .inl df)), (f, .inl (cI, 12, .inl tf)), (h2, .inr (0, [.ref n2, .ref o2, .ref d2, .ref f2, .int (nI w), .int (dy + nI 201)])), (n2, .inl (cI, 12, .inl (fb_cp nf mf 12))), (o2, .inl (cI, 12, .inl (fb_dy (fb_cp df ef 12) (fb_cp uf vf 12) 201))), (d2, .inl (cI, 12, .inl (fb_cp df ef 12))), (f2, .inl (cI, 12, .inl (fb_cp tf sf 12)))]) [0, 1, 2, 3, 4, 5, 6, 7, 8, 9, 10] (by decide) rfl
        exact W.iret (v := (-1)) hx hb hr (fun t ht hW => ⟨⟨(-1), (fb_cp nf mf 12, fb_dy (fb_cp df ef 12) (fb_cp uf vf 12) 201, fb_cp df ef 12, fb_cp tf sf 12, nI w, dy + nI 201), rfl, ⟨by rw [← hU]; rfl, trivial⟩, by rw [ht]; exact hP9, hD9⟩, hS.F ht⟩) hS.2.2 dX1_until_49 hlk
      · skip
        have h18 : i ≤ 200 := Nat.le_of_not_lt (fun z => c18 (nI_lt z (by omega)))
        refine lv_aload_n hx hb dX1_until_21 rfl (lv_at hl 1 rfl) ?_
        refine va_get (D := G) (ci := 1) (v := .ref h2) (C := RX1) (T := TX1) (N := 2) hx hb hts (hin1) hown hK hP 0 rfl rfl 1 (by decide) (hts (.fieldLink RX1 16 "FifthBeats" "trial" "LFifthBeats$Piano;") (by decide +kernel)) (fun _ h9 => h9) rfl dX1_until_22 ?_
        refine fb_roV (As := []) (rest := []) (n := 0) ⟨hx, hb, hml, hown, hts⟩ (fb_c_X0_fastestBeats l G cI cL h2 n2 o2 d2 f2 (fb_cp nf mf 12) (fb_dy (fb_cp df ef 12) (fb_cp uf vf 12) i) (fb_cp df ef 12) (fb_cp tf sf 12) w (dy + nI i)  hw) gX1_until_X0_fastestBeats rfl (by decide +kernel) (by decide) (fb_PB.bl _ _ _ _) (va_recv hK hP (ci := 0) (q0 := 6) rfl rfl) (fb_PB.to (hP.sub (ws' := [(h2, .inr (0, [.ref n2, .ref o2, .ref d2, .ref f2, .int (nI w), .int (dy + nI i)])), (n2, .inl (cI, 12, .inl (fb_cp nf mf 12))), (o2, .inl (cI, 12, .inl (fb_dy (fb_cp df ef 12) (fb_cp uf vf 12) i))), (d2, .inl (cI, 12, .inl (fb_cp df ef 12))), (f2, .inl (cI, 12, .inl (fb_cp tf sf 12)))]) [6, 7, 8, 9, 10] rfl) hK (hXn _ _ hS)) rfl hl.1 rfl (Nat.le_of_ble_eq_true rfl) dX1_until_25 (by decide) ?_
        refine fb_ti (z := (fun d9 => fb_fa (fb_rg nf) (fb_rg (fb_dy df uf d9)) w 12) i) (by rw [fb_rg_cp, fb_rg_dyc]) ?_
        refine lv_iload_n hx hb dX1_until_28 rfl (lv_at hl 2 rfl) ?_
        refine lv_icmp_lt (tgt := 34) hx hb dX1_until_29 (by decide) (fun c29 => ?_) (fun c29 => ?_)
        · skip
          refine lv_aload_n hx hb dX1_until_34 rfl (lv_at hl 1 rfl) ?_
          refine va_get (D := G) (ci := 1) (v := .ref h2) (C := RX1) (T := TX1) (N := 2) hx hb hts (hin1) hown hK hP 0 rfl rfl 1 (by decide) (hts (.fieldLink RX1 16 "FifthBeats" "trial" "LFifthBeats$Piano;") (by decide +kernel)) (fun _ h9 => h9) rfl dX1_until_35 ?_
          refine lv_iconst (v := 1) hx hb dX1_until_38 (by decide) ?_
          refine fb_mvV (As := [.int 1]) (rest := []) (n := 1) (wr := [(x, .inr (1, [.ref h, .ref h2])), (h, .inr (0, [.ref n, .ref o, .ref d, .ref f, .int (nI w), .int dy])), (n, .inl (cI, 12, .inl nf)), (o, .inl (cI, 12, .inl uf)), (d, .inl (cI, 12, .inl df)), (f, .inl (cI, 12, .inl tf))]) (wz := [(x, .inr (1, [.ref h, .ref h2])), (h, .inr (0, [.ref n, .ref o, .ref d, .ref f, .int (nI w), .int dy])), (n, .inl (cI, 12, .inl nf)), (o, .inl (cI, 12, .inl uf)), (d, .inl (cI, 12, .inl df)), (f, .inl (cI, 12, .inl tf)), (h2, .inr (0, [.ref n2, .ref o2, .ref d2, .ref f2, .int (nI w), .int ((dy + nI i) + nI 1)])), (n2, .inl (cI, 12, .inl (fb_cp nf mf 12))), (o2, .inl (cI, 12, .inl (fb_dy (fb_cp df ef 12) (fb_dy (fb_cp df ef 12) (fb_cp uf vf 12) i) 1))), (d2, .inl (cI, 12, .inl (fb_cp df ef 12))), (f2, .inl (cI, 12, .inl (fb_cp tf sf 12)))]) ⟨hx, hb, hml, hown, hts⟩ (fb_c_X0_letPass l G cI cL h2 n2 o2 d2 f2 (fb_cp nf mf 12) (fb_dy (fb_cp df ef 12) (fb_cp uf vf 12) i) (fb_cp df ef 12) (fb_cp tf sf 12) w (dy + nI i) 1 (by omega) _) gX1_until_X0_letPass rfl (by decide +kernel) (by decide) (va_recv hK hP (ci := 0) (q0 := 6) rfl rfl) hP hK hD hS hA hX [6, 7, 8, 9, 10] [0, 1, 2, 3, 4, 5] [0, 1, 2, 3, 4, 5, 6, 7, 8, 9, 10] rfl rfl rfl rfl rfl rfl (by decide) rfl hl.1 rfl (Nat.le_of_ble_eq_true rfl) dX1_until_39 (by decide) (fun H locs hP hD hS => ?_)
          refine lv_iinc (v := nI (i + 1)) (lv' := [(2, .int (nI (i + 1))), (0, .ref x), (1, .int b9)]) hx hb dX1_until_42 hl (k := 0) rfl (show nI i + 1 = nI (i + 1) from nI_1 i) (by decide) rfl (fun ls hl => ?_)
          refine lv_goto (tgt := 14) hx hb dX1_until_45 (by decide) ?_
          exact ih14 (i + 1)  (by omega) (by omega) (by rw [← hU, show 201 - i = (201 - (i + 1)) + 1 from by omega]; exact (if_pos c29).symm) _ _ (by rw [show dy + nI (i + 1) = dy + nI i + nI 1 from by rw [nI_succ, Int32.add_assoc]; rfl]; exact hP) (by rw [show dy + nI (i + 1) = dy + nI i + nI 1 from by rw [nI_succ, Int32.add_assoc]; rfl]; exact hD) hS _ (lv_sub hl [0, 1, 2] (rfl))
        · skip
          refine lv_iload_n hx hb dX1_until_32 rfl (lv_at hl 0 rfl) ?_
          have hP9 := hP.sub (ws' := [(x, .inr (1, [.ref h, .ref h2])), (h, .inr (0, [.ref n, .ref o, .ref d, .ref f, .int (nI w), .int dy])), (n, .inl (cI, 12, .inl nf)), (o, .inl (cI, 12, .inl uf)), (d, .inl (cI, 12, .inl df)), (f, .inl (cI, 12, .inl tf)), (h2, .inr (0, [.ref n2, .ref o2, .ref d2, .ref f2, .int (nI w), .int (dy + nI i)])), (n2, .inl (cI, 12, .inl (fb_cp nf mf 12))), (o2, .inl (cI, 12, .inl (fb_dy (fb_cp df ef 12) (fb_cp uf vf 12) i))), (d2, .inl (cI, 12, .inl (fb_cp df ef 12))), (f2, .inl (cI, 12, .inl (fb_cp tf sf 12)))]) [0, 1, 2, 3, 4, 5, 6, 7, 8, 9, 10] rfl
          have hD9 := hD.sub (ws' := [(x, .inr (1, [.ref h, .ref h2])), (h, .inr (0, [.ref n, .ref o, .ref d, .ref f, .int (nI w), .int dy])), (n, .inl (cI, 12, .inl nf)), (o, .inl (cI, 12, .inl uf)), (d, .inl (cI, 12, .inl df)), (f, .inl (cI, 12, .inl tf)), (h2, .inr (0, [.ref n2, .ref o2, .ref d2, .ref f2, .int (nI w), .int (dy + nI i)])), (n2, .inl (cI, 12, .inl (fb_cp nf mf 12))), (o2, .inl (cI, 12, .inl (fb_dy (fb_cp df ef 12) (fb_cp uf vf 12) i))), (d2, .inl (cI, 12, .inl (fb_cp df ef 12))), (f2, .inl (cI, 12, .inl (fb_cp tf sf 12)))]) [0, 1, 2, 3, 4, 5, 6, 7, 8, 9, 10] (by decide) rfl
          exact W.iret (v := nI i) hx hb hr (fun t ht hW => ⟨⟨nI i, (fb_cp nf mf 12, fb_dy (fb_cp df ef 12) (fb_cp uf vf 12) i, fb_cp df ef 12, fb_cp tf sf 12, nI w, dy + nI i), rfl, ⟨by rw [← hU, show 201 - i = (200 - i) + 1 from by omega]; exact (if_neg c29).symm, trivial⟩, by rw [ht]; exact hP9, hD9⟩, hS.F ht⟩) hS.2.2 dX1_until_33 hlk
  exact lp14 (201 + 1) 0  (by omega) (by omega) (rfl) _ _ (by rw [show dy + nI 0 = dy from fb_a0 dy]; exact hP) (by rw [show dy + nI 0 = dy from fb_a0 dy]; exact hD) hS _ (lv_sub hl [0, 1, 2] (rfl))
set_option maxHeartbeats 4000000 in
set_option maxRecDepth 100000 in
theorem fb_c_X1_advise (l : Launch) (G : va_G) (cI cL : ClassId) (x h n o d f h2 n2 o2 d2 f2 : Nat) (nf uf df tf : Nat → Int32) (w : Nat) (dy : Int32) (mf vf ef sf : Nat → Int32) (tw ty : Int32) (hw : w < 12) (sz : Nat) : fb_MG l yX1_advise wsX1_advise 6 132 0 0 [.ref x] G cI cL sz (fb_XW cI x h n o d f h2 n2 o2 d2 f2 nf uf df tf (nI w) dy mf vf ef sf tw ty) (fb_qi G (S := ((Nat → Int32) × (Nat → Int32) × (Nat → Int32) × (Nat → Int32) × Int32 × Int32)) (fun u => (fb_XW cI x h n o d f h2 n2 o2 d2 f2 nf uf df tf (nI w) dy u.1 u.2.1 u.2.2.1 u.2.2.2.1 u.2.2.2.2.1 u.2.2.2.2.2)) (nI (fb_be (fb_ca (fb_rg nf) (fb_rg uf) (fb_rg tf) w) 11)) (fun _ => True)) := by
  refine fb_mg_of (cc := cX1_advise) (maxL := 5) (ret := (some .int)) (by decide) rfl (Nat.le_of_ble_eq_true rfl) ?_
  intro p e s m args below meth c A hx hb hr hml hlk hts hown hP hK hD hA hX hin9 ls hl
  have hown : s.vm.findClass RX1 = some m.cls := hown
  have hP : va_P G vwCl [(x, .inr (1, [.ref h, .ref h2])), (h, .inr (0, [.ref n, .ref o, .ref d, .ref f, .int (nI w), .int dy])), (n, .inl (cI, 12, .inl nf)), (o, .inl (cI, 12, .inl uf)), (d, .inl (cI, 12, .inl df)), (f, .inl (cI, 12, .inl tf)), (h2, .inr (0, [.ref n2, .ref o2, .ref d2, .ref f2, .int tw, .int ty])), (n2, .inl (cI, 12, .inl mf)), (o2, .inl (cI, 12, .inl vf)), (d2, .inl (cI, 12, .inl ef)), (f2, .inl (cI, 12, .inl sf))] s.heap := hP
  have hD : va_D A [(x, .inr (1, [.ref h, .ref h2])), (h, .inr (0, [.ref n, .ref o, .ref d, .ref f, .int (nI w), .int dy])), (n, .inl (cI, 12, .inl nf)), (o, .inl (cI, 12, .inl uf)), (d, .inl (cI, 12, .inl df)), (f, .inl (cI, 12, .inl tf)), (h2, .inr (0, [.ref n2, .ref o2, .ref d2, .ref f2, .int tw, .int ty])), (n2, .inl (cI, 12, .inl mf)), (o2, .inl (cI, 12, .inl vf)), (d2, .inl (cI, 12, .inl ef)), (f2, .inl (cI, 12, .inl sf))] := hD
  have hS : va_S A s.heap s.heap [] := va_S.rf
  have hXn : ∀ (H : Heap) (locs : List Loc), va_S A s.heap H locs → fb_sx (fun _ => False) s H := fun H locs h9 => (hX.kept h9.2.1).narrow (fun _ z => z.elim)
  have hl : lv_has ls 5 [(0, .ref x)] := hl
  refine lv_iconst (v := 0) hx hb dX1_advise_0 (by decide) ?_
  refine lv_istore_n (lv' := [(1, .int 0), (0, .ref x)]) hx hb dX1_advise_1 rfl hl (by decide) rfl (fun ls hl => ?_)
  refine lv_aload_n hx hb dX1_advise_2 rfl (lv_at hl 1 rfl) ?_
  refine lv_iconst (v := 0) hx hb dX1_advise_3 (by decide) ?_
  refine fb_miV (As := [.int 0]) (rest := []) (n := 1) (wr := []) (wz := [(x, .inr (1, [.ref h, .ref h2])), (h, .inr (0, [.ref n, .ref o, .ref d, .ref f, .int (nI w), .int dy])), (n, .inl (cI, 12, .inl nf)), (o, .inl (cI, 12, .inl uf)), (d, .inl (cI, 12, .inl df)), (f, .inl (cI, 12, .inl tf)), (h2, .inr (0, [.ref n2, .ref o2, .ref d2, .ref f2, .int (nI 0), .int dy])), (n2, .inl (cI, 12, .inl (fb_mw (fb_cp nf mf 12) w 0))), (o2, .inl (cI, 12, .inl (fb_cp uf vf 12))), (d2, .inl (cI, 12, .inl (fb_cp df ef 12))), (f2, .inl (cI, 12, .inl (fb_cp tf sf 12)))]) ⟨hx, hb, hml, hown, hts⟩ (fb_c_X1_costWithWolf l G cI cL x h n o d f h2 n2 o2 d2 f2 nf uf df tf w dy mf vf ef sf tw ty 0 (by decide) hw _) gX1_advise_X1_costWithWolf rfl (by decide +kernel) (by decide) (va_recv hK hP (ci := 1) (q0 := 0) rfl rfl) hP hK hD hS hA hX [0, 1, 2, 3, 4, 5, 6, 7, 8, 9, 10] [] [0, 1, 2, 3, 4, 5, 6, 7, 8, 9, 10] rfl rfl rfl rfl rfl rfl (by decide) rfl hl.1 rfl (Nat.le_of_ble_eq_true rfl) dX1_advise_4 (by decide) (fun H locs hP hD hS => ?_)
  refine lv_istore_n (lv' := [(2, .int (fb_ca (fb_rg nf) (fb_rg uf) (fb_rg tf) w 0)), (1, .int 0), (0, .ref x)]) hx hb dX1_advise_7 rfl hl (by decide) rfl (fun ls hl => ?_)
  refine lv_iconst (v := 1) hx hb dX1_advise_8 (by decide) ?_
  refine lv_istore_n (lv' := [(3, .int 1), (2, .int (fb_ca (fb_rg nf) (fb_rg uf) (fb_rg tf) w 0)), (1, .int 0), (0, .ref x)]) hx hb dX1_advise_9 rfl hl (by decide) rfl (fun ls hl => ?_)
  have lp10 : ∀ (n9 i : Nat) (m9 : Nat → Int32) (v9 : Nat → Int32) (e9 : Nat → Int32) (s9 : Nat → Int32) (t9 : Int32) (y9 : Int32), i ≤ 11 → 11 < i + n9 → ∀ (H : Heap) (locs : List Loc), va_P G vwCl [(x, .inr (1, [.ref h, .ref h2])), (h, .inr (0, [.ref n, .ref o, .ref d, .ref f, .int (nI w), .int dy])), (n, .inl (cI, 12, .inl nf)), (o, .inl (cI, 12, .inl uf)), (d, .inl (cI, 12, .inl df)), (f, .inl (cI, 12, .inl tf)), (h2, .inr (0, [.ref n2, .ref o2, .ref d2, .ref f2, .int t9, .int y9])), (n2, .inl (cI, 12, .inl m9)), (o2, .inl (cI, 12, .inl v9)), (d2, .inl (cI, 12, .inl e9)), (f2, .inl (cI, 12, .inl s9))] H → va_D A [(x, .inr (1, [.ref h, .ref h2])), (h, .inr (0, [.ref n, .ref o, .ref d, .ref f, .int (nI w), .int dy])), (n, .inl (cI, 12, .inl nf)), (o, .inl (cI, 12, .inl uf)), (d, .inl (cI, 12, .inl df)), (f, .inl (cI, 12, .inl tf)), (h2, .inr (0, [.ref n2, .ref o2, .ref d2, .ref f2, .int t9, .int y9])), (n2, .inl (cI, 12, .inl m9)), (o2, .inl (cI, 12, .inl v9)), (d2, .inl (cI, 12, .inl e9)), (f2, .inl (cI, 12, .inl s9))] → va_S A s.heap H locs → ∀ ls : Array Slot, lv_has ls 5 [(3, .int (nI (1 + i))), (1, .int (nI (fb_be (fb_ca (fb_rg nf) (fb_rg uf) (fb_rg tf) w) i))), (2, .int (fb_le (fb_ca (fb_rg nf) (fb_rg uf) (fb_rg tf) w) i)), (0, .ref x)] → W p l e ({ frames := 6, cells := 0, slots := 0, locals := 132 }) s m args below meth c H locs 0 0 (MQ below ((fb_qi G (S := ((Nat → Int32) × (Nat → Int32) × (Nat → Int32) × (Nat → Int32) × Int32 × Int32)) (fun u => (fb_XW cI x h n o d f h2 n2 o2 d2 f2 nf uf df tf (nI w) dy u.1 u.2.1 u.2.2.1 u.2.2.2.1 u.2.2.2.2.1 u.2.2.2.2.2)) (nI (fb_be (fb_ca (fb_rg nf) (fb_rg uf) (fb_rg tf) w) 11)) (fun _ => True)) A) args s 0 0 A) (F0 m 10 ls []) := by
    intro n9
    induction n9 with
    | zero => intro i m9 v9 e9 s9 t9 y9 h1 h2; exact absurd h2 (by omega)
    | succ n9 ih10 =>
      intro i m9 v9 e9 s9 t9 y9 hi_i hin9  H locs hP hD hS ls hl
      refine lv_iload_n hx hb dX1_advise_10 rfl (lv_at hl 0 rfl) ?_
      refine lv_bipush (v := 12) hx hb dX1_advise_11 (by decide) ?_
      refine lv_icmp_ge (tgt := 40) hx hb dX1_advise_13 (by decide) (fun c13 => ?_) (fun c13 => ?_)
      · skip
        have hxi : 1 + i = 12 := fb_lp_ex (by decide) (by omega) c13
        obtain rfl : i = 11 := by omega
        refine lv_iload_n hx hb dX1_advise_40 rfl (lv_at hl 1 rfl) ?_
        have hP9 := hP.sub (ws' := [(x, .inr (1, [.ref h, .ref h2])), (h, .inr (0, [.ref n, .ref o, .ref d, .ref f, .int (nI w), .int dy])), (n, .inl (cI, 12, .inl nf)), (o, .inl (cI, 12, .inl uf)), (d, .inl (cI, 12, .inl df)), (f, .inl (cI, 12, .inl tf)), (h2, .inr (0, [.ref n2, .ref o2, .ref d2, .ref f2, .int t9, .int y9])), (n2, .inl (cI, 12, .inl m9)), (o2, .inl (cI, 12, .inl v9)), (d2, .inl (cI, 12, .inl e9)), (f2, .inl (cI, 12, .inl s9))]) [0, 1, 2, 3, 4, 5, 6, 7, 8, 9, 10] rfl
        have hD9 := hD.sub (ws' := [(x, .inr (1, [.ref h, .ref h2])), (h, .inr (0, [.ref n, .ref o, .ref d, .ref f, .int (nI w), .int dy])), (n, .inl (cI, 12, .inl nf)), (o, .inl (cI, 12, .inl uf)), (d, .inl (cI, 12, .inl df)), (f, .inl (cI, 12, .inl tf)), (h2, .inr (0, [.ref n2, .ref o2, .ref d2, .ref f2, .int t9, .int y9])), (n2, .inl (cI, 12, .inl m9)), (o2, .inl (cI, 12, .inl v9)), (d2, .inl (cI, 12, .inl e9)), (f2, .inl (cI, 12, .inl s9))]) [0, 1, 2, 3, 4, 5, 6, 7, 8, 9, 10] (by decide) rfl
        exact W.iret (v := nI (fb_be (fb_ca (fb_rg nf) (fb_rg uf) (fb_rg tf) w) 11)) hx hb hr (fun t ht hW => ⟨⟨nI (fb_be (fb_ca (fb_rg nf) (fb_rg uf) (fb_rg tf) w) 11), (m9, v9, e9, s9, t9, y9), rfl, ⟨rfl, trivial⟩, by rw [ht]; exact hP9, hD9⟩, hS.F ht⟩) hS.2.2 dX1_advise_41 hlk
      · skip
        have h13 : 1 + i < 12 := fb_lp_in (by decide) (by omega) c13
        refine lv_aload_n hx hb dX1_advise_16 rfl (lv_at hl 3 rfl) ?_
        refine lv_iload_n hx hb dX1_advise_17 rfl (lv_at hl 0 rfl) ?_
        refine fb_miV (As := [.int (nI (1 + i))]) (rest := []) (n := 1) (wr := []) (wz := [(x, .inr (1, [.ref h, .ref h2])), (h, .inr (0, [.ref n, .ref o, .ref d, .ref f, .int (nI w), .int dy])), (n, .inl (cI, 12, .inl nf)), (o, .inl (cI, 12, .inl uf)), (d, .inl (cI, 12, .inl df)), (f, .inl (cI, 12, .inl tf)), (h2, .inr (0, [.ref n2, .ref o2, .ref d2, .ref f2, .int (nI (1 + i)), .int dy])), (n2, .inl (cI, 12, .inl (fb_mw (fb_cp nf m9 12) w (1 + i)))), (o2, .inl (cI, 12, .inl (fb_cp uf v9 12))), (d2, .inl (cI, 12, .inl (fb_cp df e9 12))), (f2, .inl (cI, 12, .inl (fb_cp tf s9 12)))]) ⟨hx, hb, hml, hown, hts⟩ (fb_c_X1_costWithWolf l G cI cL x h n o d f h2 n2 o2 d2 f2 nf uf df tf w dy m9 v9 e9 s9 t9 y9 (1 + i) (by omega) hw _) gX1_advise_X1_costWithWolf rfl (by decide +kernel) (by decide) (va_recv hK hP (ci := 1) (q0 := 0) rfl rfl) hP hK hD hS hA hX [0, 1, 2, 3, 4, 5, 6, 7, 8, 9, 10] [] [0, 1, 2, 3, 4, 5, 6, 7, 8, 9, 10] rfl rfl rfl rfl rfl rfl (by decide) rfl hl.1 rfl (Nat.le_of_ble_eq_true rfl) dX1_advise_18 (by decide) (fun H locs hP hD hS => ?_)
        refine lv_istore (lv' := [(4, .int (fb_ca (fb_rg nf) (fb_rg uf) (fb_rg tf) w (1 + i))), (3, .int (nI (1 + i))), (1, .int (nI (fb_be (fb_ca (fb_rg nf) (fb_rg uf) (fb_rg tf) w) i))), (2, .int (fb_le (fb_ca (fb_rg nf) (fb_rg uf) (fb_rg tf) w) i)), (0, .ref x)]) hx hb dX1_advise_21 hl (by decide) rfl (fun ls hl => ?_)
        refine lv_iload hx hb dX1_advise_23 (lv_at hl 0 rfl) ?_
        refine lv_iload_n hx hb dX1_advise_25 rfl (lv_at hl 3 rfl) ?_
        refine lv_icmp_ge (tgt := 34) hx hb dX1_advise_26 (by decide) (fun c26 => ?_) (fun c26 => ?_)
        · skip
          have h26 : ¬ fb_ca (fb_rg nf) (fb_rg uf) (fb_rg tf) w (i + 1) < fb_le (fb_ca (fb_rg nf) (fb_rg uf) (fb_rg tf) w) i := fun z => absurd (show fb_le (fb_ca (fb_rg nf) (fb_rg uf) (fb_rg tf) w) i ≤ fb_ca (fb_rg nf) (fb_rg uf) (fb_rg tf) w (1 + i) from c26) (Int32.not_le.mpr (by rw [Nat.add_comm 1 i]; exact z))
          refine lv_iinc (v := nI (1 + (i + 1))) (lv' := [(3, .int (nI (1 + (i + 1)))), (4, .int (fb_ca (fb_rg nf) (fb_rg uf) (fb_rg tf) w (1 + i))), (1, .int (nI (fb_be (fb_ca (fb_rg nf) (fb_rg uf) (fb_rg tf) w) i))), (2, .int (fb_le (fb_ca (fb_rg nf) (fb_rg uf) (fb_rg tf) w) i)), (0, .ref x)]) hx hb dX1_advise_34 hl (k := 1) rfl (show nI (1 + i) + 1 = nI (1 + (i + 1)) from nI_1 (1 + i)) (by decide) rfl (fun ls hl => ?_)
          refine lv_goto (tgt := 10) hx hb dX1_advise_37 (by decide) ?_
          exact ih10 (i + 1) _ _ _ _ _ _ (by omega) (by omega)  _ _ (hP) (hD) hS _ (lv_sub hl [0, 2, 3, 4] (by rw [show fb_be (fb_ca (fb_rg nf) (fb_rg uf) (fb_rg tf) w) (i + 1) = fb_be (fb_ca (fb_rg nf) (fb_rg uf) (fb_rg tf) w) i from if_neg h26, show fb_le (fb_ca (fb_rg nf) (fb_rg uf) (fb_rg tf) w) (i + 1) = fb_le (fb_ca (fb_rg nf) (fb_rg uf) (fb_rg tf) w) i from if_neg h26]; rfl))
        · skip
          have h26 : fb_ca (fb_rg nf) (fb_rg uf) (fb_rg tf) w (i + 1) < fb_le (fb_ca (fb_rg nf) (fb_rg uf) (fb_rg tf) w) i := by rw [Nat.add_comm i 1]; exact Int32.not_le.mp c26
          refine lv_iload hx hb dX1_advise_29 (lv_at hl 0 rfl) ?_
          refine lv_istore_n (lv' := [(2, .int (fb_ca (fb_rg nf) (fb_rg uf) (fb_rg tf) w (1 + i))), (4, .int (fb_ca (fb_rg nf) (fb_rg uf) (fb_rg tf) w (1 + i))), (3, .int (nI (1 + i))), (1, .int (nI (fb_be (fb_ca (fb_rg nf) (fb_rg uf) (fb_rg tf) w) i))), (0, .ref x)]) hx hb dX1_advise_31 rfl hl (by decide) rfl (fun ls hl => ?_)
          refine lv_iload_n hx hb dX1_advise_32 rfl (lv_at hl 2 rfl) ?_
          refine lv_istore_n (lv' := [(1, .int (nI (1 + i))), (2, .int (fb_ca (fb_rg nf) (fb_rg uf) (fb_rg tf) w (1 + i))), (4, .int (fb_ca (fb_rg nf) (fb_rg uf) (fb_rg tf) w (1 + i))), (3, .int (nI (1 + i))), (0, .ref x)]) hx hb dX1_advise_33 rfl hl (by decide) rfl (fun ls hl => ?_)
          refine lv_iinc (v := nI (1 + (i + 1))) (lv' := [(3, .int (nI (1 + (i + 1)))), (1, .int (nI (1 + i))), (2, .int (fb_ca (fb_rg nf) (fb_rg uf) (fb_rg tf) w (1 + i))), (4, .int (fb_ca (fb_rg nf) (fb_rg uf) (fb_rg tf) w (1 + i))), (0, .ref x)]) hx hb dX1_advise_34 hl (k := 3) rfl (show nI (1 + i) + 1 = nI (1 + (i + 1)) from nI_1 (1 + i)) (by decide) rfl (fun ls hl => ?_)
          refine lv_goto (tgt := 10) hx hb dX1_advise_37 (by decide) ?_
          exact ih10 (i + 1) _ _ _ _ _ _ (by omega) (by omega)  _ _ (hP) (hD) hS _ (lv_sub hl [0, 1, 2, 4] (by rw [show fb_be (fb_ca (fb_rg nf) (fb_rg uf) (fb_rg tf) w) (i + 1) = i + 1 from if_pos h26, show fb_le (fb_ca (fb_rg nf) (fb_rg uf) (fb_rg tf) w) (i + 1) = fb_ca (fb_rg nf) (fb_rg uf) (fb_rg tf) w (i + 1) from if_pos h26, Nat.add_comm i 1]; rfl))
  exact lp10 (11 + 1) 0 _ _ _ _ _ _ (by omega) (by omega)  _ _ (hP) (hD) hS _ (lv_sub hl [0, 2, 1, 3] (rfl))
set_option maxHeartbeats 4000000 in
set_option maxRecDepth 100000 in
theorem fb_c_X1_temper (l : Launch) (G : va_G) (cI cL : ClassId) (x h n o d f h2 n2 o2 d2 f2 : Nat) (nf uf df tf : Nat → Int32) (w : Nat) (dy : Int32) (mf vf ef sf : Nat → Int32) (tw ty : Int32) (j : Nat) (hj : j < 12) (hjw : ¬ j = w) (hw : w < 12) (sz : Nat) : fb_MG l yX1_temper wsX1_temper 6 133 0 0 [.ref x, .int (nI j)] G cI cL sz (fb_XW cI x h n o d f h2 n2 o2 d2 f2 nf uf df tf (nI w) dy mf vf ef sf tw ty) (fb_qi G (S := ((Nat → Int32) × (Nat → Int32) × (Nat → Int32) × (Nat → Int32) × Int32 × Int32)) (fun u => (fb_XW cI x h n o d f h2 n2 o2 d2 f2 nf uf df tf (nI w) dy u.1 u.2.1 u.2.2.1 u.2.2.2.1 u.2.2.2.2.1 u.2.2.2.2.2)) (fb_tv (fb_be (fb_ct (fb_rg nf) (fb_rg uf) (fb_rg tf) w j) 30)) (fun _ => True)) := by
  refine fb_mg_of (cc := cX1_temper) (maxL := 6) (ret := (some .int)) (by decide) rfl (Nat.le_of_ble_eq_true rfl) ?_
  intro p e s m args below meth c A hx hb hr hml hlk hts hown hP hK hD hA hX hin9 ls hl
  have hown : s.vm.findClass RX1 = some m.cls := hown
  have hP : va_P G vwCl [(x, .inr (1, [.ref h, .ref h2])), (h, .inr (0, [.ref n, .ref o, .ref d, .ref f, .int (nI w), .int dy])), (n, .inl (cI, 12, .inl nf)), (o, .inl (cI, 12, .inl uf)), (d, .inl (cI, 12, .inl df)), (f, .inl (cI, 12, .inl tf)), (h2, .inr (0, [.ref n2, .ref o2, .ref d2, .ref f2, .int tw, .int ty])), (n2, .inl (cI, 12, .inl mf)), (o2, .inl (cI, 12, .inl vf)), (d2, .inl (cI, 12, .inl ef)), (f2, .inl (cI, 12, .inl sf))] s.heap := hP
  have hD : va_D A [(x, .inr (1, [.ref h, .ref h2])), (h, .inr (0, [.ref n, .ref o, .ref d, .ref f, .int (nI w), .int dy])), (n, .inl (cI, 12, .inl nf)), (o, .inl (cI, 12, .inl uf)), (d, .inl (cI, 12, .inl df)), (f, .inl (cI, 12, .inl tf)), (h2, .inr (0, [.ref n2, .ref o2, .ref d2, .ref f2, .int tw, .int ty])), (n2, .inl (cI, 12, .inl mf)), (o2, .inl (cI, 12, .inl vf)), (d2, .inl (cI, 12, .inl ef)), (f2, .inl (cI, 12, .inl sf))] := hD
  have hS : va_S A s.heap s.heap [] := va_S.rf
  have hXn : ∀ (H : Heap) (locs : List Loc), va_S A s.heap H locs → fb_sx (fun _ => False) s H := fun H locs h9 => (hX.kept h9.2.1).narrow (fun _ z => z.elim)
  have hl : lv_has ls 6 [(0, .ref x), (1, .int (nI j))] := hl
  refine lv_iload_n hx hb dX1_temper_0 rfl (lv_at hl 1 rfl) ?_
  refine fb_rvS (As := [.int (nI j)]) (rest := []) (n := 1) ⟨hx, hb, hml, hown, hts⟩ (fb_c_X1_checkRing l j (hj)) gX1_temper_X1_checkRing rfl (by decide +kernel) (by decide) fb_Bl_T (fun _ _ _ => trivial) rfl hl.1 rfl (Nat.le_of_ble_eq_true rfl) dX1_temper_1 (by decide) ?_
  refine lv_aload_n hx hb dX1_temper_4 rfl (lv_at hl 0 rfl) ?_
  refine lv_iload_n hx hb dX1_temper_5 rfl (lv_at hl 1 rfl) ?_
  refine fb_rvV (As := [.int (nI j)]) (rest := []) (n := 1) ⟨hx, hb, hml, hown, hts⟩ (fb_c_X1_checkNotWolf l G cI cL x h h2 n o d f nf uf df tf w dy j (by omega) hw (hjw)) gX1_temper_X1_checkNotWolf rfl (by decide +kernel) (by decide) (fb_PB.bl _ _ _ _) (va_recv hK hP (ci := 1) (q0 := 0) rfl rfl) (fb_PB.to (hP.sub (ws' := [(x, .inr (1, [.ref h, .ref h2])), (h, .inr (0, [.ref n, .ref o, .ref d, .ref f, .int (nI w), .int dy])), (n, .inl (cI, 12, .inl nf)), (o, .inl (cI, 12, .inl uf)), (d, .inl (cI, 12, .inl df)), (f, .inl (cI, 12, .inl tf))]) [0, 1, 2, 3, 4, 5] rfl) hK (hXn _ _ hS)) rfl hl.1 rfl (Nat.le_of_ble_eq_true rfl) dX1_temper_6 (by decide) ?_
  refine lv_bipush (v := (-10)) hx hb dX1_temper_9 (by decide) ?_
  refine lv_istore_n (lv' := [(2, .int (-10)), (0, .ref x), (1, .int (nI j))]) hx hb dX1_temper_11 rfl hl (by decide) rfl (fun ls hl => ?_)
  refine lv_aload_n hx hb dX1_temper_12 rfl (lv_at hl 1 rfl) ?_
  refine lv_iload_n hx hb dX1_temper_13 rfl (lv_at hl 2 rfl) ?_
  refine lv_bipush (v := (-10)) hx hb dX1_temper_14 (by decide) ?_
  refine fb_miV (As := [.int (nI j), .int (-10)]) (rest := []) (n := 2) (wr := []) (wz := [(x, .inr (1, [.ref h, .ref h2])), (h, .inr (0, [.ref n, .ref o, .ref d, .ref f, .int (nI w), .int dy])), (n, .inl (cI, 12, .inl nf)), (o, .inl (cI, 12, .inl uf)), (d, .inl (cI, 12, .inl df)), (f, .inl (cI, 12, .inl tf)), (h2, .inr (0, [.ref n2, .ref o2, .ref d2, .ref f2, .int (nI w), .int dy])), (n2, .inl (cI, 12, .inl (fb_pn (fb_cp nf mf 12) w j (-10)))), (o2, .inl (cI, 12, .inl (fb_cp uf vf 12))), (d2, .inl (cI, 12, .inl (fb_cp df ef 12))), (f2, .inl (cI, 12, .inl (fb_cp tf sf 12)))]) ⟨hx, hb, hml, hown, hts⟩ (fb_c_X1_costWithNarrow l G cI cL x h n o d f h2 n2 o2 d2 f2 nf uf df tf w dy mf vf ef sf tw ty j (-10) hj hw _) gX1_temper_X1_costWithNarrow rfl (by decide +kernel) (by decide) (va_recv hK hP (ci := 1) (q0 := 0) rfl rfl) hP hK hD hS hA hX [0, 1, 2, 3, 4, 5, 6, 7, 8, 9, 10] [] [0, 1, 2, 3, 4, 5, 6, 7, 8, 9, 10] rfl rfl rfl rfl rfl rfl (by decide) rfl hl.1 rfl (Nat.le_of_ble_eq_true rfl) dX1_temper_16 (by decide) (fun H locs hP hD hS => ?_)
  refine fb_ti (z := fb_ct (fb_rg nf) (fb_rg uf) (fb_rg tf) w j 0) (by unfold fb_ct; rw [show fb_tv 0 = -10 from by decide]) ?_
  refine lv_istore_n (lv' := [(3, .int (fb_ct (fb_rg nf) (fb_rg uf) (fb_rg tf) w j 0)), (2, .int (-10)), (0, .ref x), (1, .int (nI j))]) hx hb dX1_temper_19 rfl hl (by decide) rfl (fun ls hl => ?_)
  refine lv_bipush (v := (-9)) hx hb dX1_temper_20 (by decide) ?_
  refine lv_istore (lv' := [(4, .int (-9)), (3, .int (fb_ct (fb_rg nf) (fb_rg uf) (fb_rg tf) w j 0)), (2, .int (-10)), (0, .ref x), (1, .int (nI j))]) hx hb dX1_temper_22 hl (by decide) rfl (fun ls hl => ?_)
  have lp24 : ∀ (n9 i : Nat) (m9 : Nat → Int32) (v9 : Nat → Int32) (e9 : Nat → Int32) (s9 : Nat → Int32) (t9 : Int32) (y9 : Int32), i ≤ 30 → 30 < i + n9 → ∀ (H : Heap) (locs : List Loc), va_P G vwCl [(x, .inr (1, [.ref h, .ref h2])), (h, .inr (0, [.ref n, .ref o, .ref d, .ref f, .int (nI w), .int dy])), (n, .inl (cI, 12, .inl nf)), (o, .inl (cI, 12, .inl uf)), (d, .inl (cI, 12, .inl df)), (f, .inl (cI, 12, .inl tf)), (h2, .inr (0, [.ref n2, .ref o2, .ref d2, .ref f2, .int t9, .int y9])), (n2, .inl (cI, 12, .inl m9)), (o2, .inl (cI, 12, .inl v9)), (d2, .inl (cI, 12, .inl e9)), (f2, .inl (cI, 12, .inl s9))] H → va_D A [(x, .inr (1, [.ref h, .ref h2])), (h, .inr (0, [.ref n, .ref o, .ref d, .ref f, .int (nI w), .int dy])), (n, .inl (cI, 12, .inl nf)), (o, .inl (cI, 12, .inl uf)), (d, .inl (cI, 12, .inl df)), (f, .inl (cI, 12, .inl tf)), (h2, .inr (0, [.ref n2, .ref o2, .ref d2, .ref f2, .int t9, .int y9])), (n2, .inl (cI, 12, .inl m9)), (o2, .inl (cI, 12, .inl v9)), (d2, .inl (cI, 12, .inl e9)), (f2, .inl (cI, 12, .inl s9))] → va_S A s.heap H locs → ∀ ls : Array Slot, lv_has ls 6 [(4, .int (fb_tv (1 + i))), (2, .int (fb_tv (fb_be (fb_ct (fb_rg nf) (fb_rg uf) (fb_rg tf) w j) i))), (3, .int (fb_le (fb_ct (fb_rg nf) (fb_rg uf) (fb_rg tf) w j) i)), (0, .ref x), (1, .int (nI j))] → W p l e ({ frames := 6, cells := 0, slots := 0, locals := 133 }) s m args below meth c H locs 0 0 (MQ below ((fb_qi G (S := ((Nat → Int32) × (Nat → Int32) × (Nat → Int32) × (Nat → Int32) × Int32 × Int32)) (fun u => (fb_XW cI x h n o d f h2 n2 o2 d2 f2 nf uf df tf (nI w) dy u.1 u.2.1 u.2.2.1 u.2.2.2.1 u.2.2.2.2.1 u.2.2.2.2.2)) (fb_tv (fb_be (fb_ct (fb_rg nf) (fb_rg uf) (fb_rg tf) w j) 30)) (fun _ => True)) A) args s 0 0 A) (F0 m 24 ls []) := by
    intro n9
    induction n9 with
    | zero => intro i m9 v9 e9 s9 t9 y9 h1 h2; exact absurd h2 (by omega)
    | succ n9 ih24 =>
      intro i m9 v9 e9 s9 t9 y9 hi_i hin9  H locs hP hD hS ls hl
      refine lv_iload hx hb dX1_temper_24 (lv_at hl 0 rfl) ?_
      refine lv_bipush (v := 20) hx hb dX1_temper_26 (by decide) ?_
      refine lv_icmp_gt (tgt := 58) hx hb dX1_temper_28 (by decide) (fun c28 => ?_) (fun c28 => ?_)
      · skip
        have hxi : 1 + i = 31 := (fb_tv_gt (by omega)).mp c28
        obtain rfl : i = 30 := by omega
        refine lv_iload_n hx hb dX1_temper_58 rfl (lv_at hl 1 rfl) ?_
        have hP9 := hP.sub (ws' := [(x, .inr (1, [.ref h, .ref h2])), (h, .inr (0, [.ref n, .ref o, .ref d, .ref f, .int (nI w), .int dy])), (n, .inl (cI, 12, .inl nf)), (o, .inl (cI, 12, .inl uf)), (d, .inl (cI, 12, .inl df)), (f, .inl (cI, 12, .inl tf)), (h2, .inr (0, [.ref n2, .ref o2, .ref d2, .ref f2, .int t9, .int y9])), (n2, .inl (cI, 12, .inl m9)), (o2, .inl (cI, 12, .inl v9)), (d2, .inl (cI, 12, .inl e9)), (f2, .inl (cI, 12, .inl s9))]) [0, 1, 2, 3, 4, 5, 6, 7, 8, 9, 10] rfl
        have hD9 := hD.sub (ws' := [(x, .inr (1, [.ref h, .ref h2])), (h, .inr (0, [.ref n, .ref o, .ref d, .ref f, .int (nI w), .int dy])), (n, .inl (cI, 12, .inl nf)), (o, .inl (cI, 12, .inl uf)), (d, .inl (cI, 12, .inl df)), (f, .inl (cI, 12, .inl tf)), (h2, .inr (0, [.ref n2, .ref o2, .ref d2, .ref f2, .int t9, .int y9])), (n2, .inl (cI, 12, .inl m9)), (o2, .inl (cI, 12, .inl v9)), (d2, .inl (cI, 12, .inl e9)), (f2, .inl (cI, 12, .inl s9))]) [0, 1, 2, 3, 4, 5, 6, 7, 8, 9, 10] (by decide) rfl
        exact W.iret (v := fb_tv (fb_be (fb_ct (fb_rg nf) (fb_rg uf) (fb_rg tf) w j) 30)) hx hb hr (fun t ht hW => ⟨⟨fb_tv (fb_be (fb_ct (fb_rg nf) (fb_rg uf) (fb_rg tf) w j) 30), (m9, v9, e9, s9, t9, y9), rfl, ⟨rfl, trivial⟩, by rw [ht]; exact hP9, hD9⟩, hS.F ht⟩) hS.2.2 dX1_temper_59 hlk
      · skip
        have h28 : ¬ 1 + i = 31 := fun z => c28 ((fb_tv_gt (by omega)).mpr z)
        have h28b : i < 30 := by omega
        refine lv_aload_n hx hb dX1_temper_31 rfl (lv_at hl 3 rfl) ?_
        refine lv_iload_n hx hb dX1_temper_32 rfl (lv_at hl 4 rfl) ?_
        refine lv_iload hx hb dX1_temper_33 (lv_at hl 0 rfl) ?_
        refine fb_miV (As := [.int (nI j), .int (fb_tv (1 + i))]) (rest := []) (n := 2) (wr := []) (wz := [(x, .inr (1, [.ref h, .ref h2])), (h, .inr (0, [.ref n, .ref o, .ref d, .ref f, .int (nI w), .int dy])), (n, .inl (cI, 12, .inl nf)), (o, .inl (cI, 12, .inl uf)), (d, .inl (cI, 12, .inl df)), (f, .inl (cI, 12, .inl tf)), (h2, .inr (0, [.ref n2, .ref o2, .ref d2, .ref f2, .int (nI w), .int dy])), (n2, .inl (cI, 12, .inl (fb_pn (fb_cp nf m9 12) w j (fb_tv (1 + i))))), (o2, .inl (cI, 12, .inl (fb_cp uf v9 12))), (d2, .inl (cI, 12, .inl (fb_cp df e9 12))), (f2, .inl (cI, 12, .inl (fb_cp tf s9 12)))]) ⟨hx, hb, hml, hown, hts⟩ (fb_c_X1_costWithNarrow l G cI cL x h n o d f h2 n2 o2 d2 f2 nf uf df tf w dy m9 v9 e9 s9 t9 y9 j (fb_tv (1 + i)) hj hw _) gX1_temper_X1_costWithNarrow rfl (by decide +kernel) (by decide) (va_recv hK hP (ci := 1) (q0 := 0) rfl rfl) hP hK hD hS hA hX [0, 1, 2, 3, 4, 5, 6, 7, 8, 9, 10] [] [0, 1, 2, 3, 4, 5, 6, 7, 8, 9, 10] rfl rfl rfl rfl rfl rfl (by decide) rfl hl.1 rfl (Nat.le_of_ble_eq_true rfl) dX1_temper_35 (by decide) (fun H locs hP hD hS => ?_)
        refine fb_ti (z := fb_ct (fb_rg nf) (fb_rg uf) (fb_rg tf) w j (1 + i)) (rfl) ?_
        refine lv_istore (lv' := [(5, .int (fb_ct (fb_rg nf) (fb_rg uf) (fb_rg tf) w j (1 + i))), (4, .int (fb_tv (1 + i))), (2, .int (fb_tv (fb_be (fb_ct (fb_rg nf) (fb_rg uf) (fb_rg tf) w j) i))), (3, .int (fb_le (fb_ct (fb_rg nf) (fb_rg uf) (fb_rg tf) w j) i)), (0, .ref x), (1, .int (nI j))]) hx hb dX1_temper_38 hl (by decide) rfl (fun ls hl => ?_)
        refine lv_iload hx hb dX1_temper_40 (lv_at hl 0 rfl) ?_
        refine lv_iload_n hx hb dX1_temper_42 rfl (lv_at hl 3 rfl) ?_
        refine lv_icmp_ge (tgt := 52) hx hb dX1_temper_43 (by decide) (fun c43 => ?_) (fun c43 => ?_)
        · skip
          have h43 : ¬ fb_ct (fb_rg nf) (fb_rg uf) (fb_rg tf) w j (i + 1) < fb_le (fb_ct (fb_rg nf) (fb_rg uf) (fb_rg tf) w j) i := fun z => absurd (show fb_le (fb_ct (fb_rg nf) (fb_rg uf) (fb_rg tf) w j) i ≤ fb_ct (fb_rg nf) (fb_rg uf) (fb_rg tf) w j (1 + i) from c43) (Int32.not_le.mpr (by rw [Nat.add_comm 1 i]; exact z))
          refine lv_iinc (v := fb_tv (1 + (i + 1))) (lv' := [(4, .int (fb_tv (1 + (i + 1)))), (5, .int (fb_ct (fb_rg nf) (fb_rg uf) (fb_rg tf) w j (1 + i))), (2, .int (fb_tv (fb_be (fb_ct (fb_rg nf) (fb_rg uf) (fb_rg tf) w j) i))), (3, .int (fb_le (fb_ct (fb_rg nf) (fb_rg uf) (fb_rg tf) w j) i)), (0, .ref x), (1, .int (nI j))]) hx hb dX1_temper_52 hl (k := 1) rfl (fb_tv_s (1 + i)) (by decide) rfl (fun ls hl => ?_)
          refine lv_goto (tgt := 24) hx hb dX1_temper_55 (by decide) ?_
          exact ih24 (i + 1) _ _ _ _ _ _ (by omega) (by omega)  _ _ (hP) (hD) hS _ (lv_sub hl [0, 2, 3, 4, 5] (by rw [show fb_be (fb_ct (fb_rg nf) (fb_rg uf) (fb_rg tf) w j) (i + 1) = fb_be (fb_ct (fb_rg nf) (fb_rg uf) (fb_rg tf) w j) i from if_neg h43, show fb_le (fb_ct (fb_rg nf) (fb_rg uf) (fb_rg tf) w j) (i + 1) = fb_le (fb_ct (fb_rg nf) (fb_rg uf) (fb_rg tf) w j) i from if_neg h43]; rfl))
        · skip
          have h43 : fb_ct (fb_rg nf) (fb_rg uf) (fb_rg tf) w j (i + 1) < fb_le (fb_ct (fb_rg nf) (fb_rg uf) (fb_rg tf) w j) i := by rw [Nat.add_comm i 1]; exact Int32.not_le.mp c43
          refine lv_iload hx hb dX1_temper_46 (lv_at hl 0 rfl) ?_
          refine lv_istore_n (lv' := [(3, .int (fb_ct (fb_rg nf) (fb_rg uf) (fb_rg tf) w j (1 + i))), (5, .int (fb_ct (fb_rg nf) (fb_rg uf) (fb_rg tf) w j (1 + i))), (4, .int (fb_tv (1 + i))), (2, .int (fb_tv (fb_be (fb_ct (fb_rg nf) (fb_rg uf) (fb_rg tf) w j) i))), (0, .ref x), (1, .int (nI j))]) hx hb dX1_temper_48 rfl hl (by decide) rfl (fun ls hl => ?_)
          refine lv_iload hx hb dX1_temper_49 (lv_at hl 2 rfl) ?_
          refine lv_istore_n (lv' := [(2, .int (fb_tv (1 + i))), (3, .int (fb_ct (fb_rg nf) (fb_rg uf) (fb_rg tf) w j (1 + i))), (5, .int (fb_ct (fb_rg nf) (fb_rg uf) (fb_rg tf) w j (1 + i))), (4, .int (fb_tv (1 + i))), (0, .ref x), (1, .int (nI j))]) hx hb dX1_temper_51 rfl hl (by decide) rfl (fun ls hl => ?_)
          refine lv_iinc (v := fb_tv (1 + (i + 1))) (lv' := [(4, .int (fb_tv (1 + (i + 1)))), (2, .int (fb_tv (1 + i))), (3, .int (fb_ct (fb_rg nf) (fb_rg uf) (fb_rg tf) w j (1 + i))), (5, .int (fb_ct (fb_rg nf) (fb_rg uf) (fb_rg tf) w j (1 + i))), (0, .ref x), (1, .int (nI j))]) hx hb dX1_temper_52 hl (k := 3) rfl (fb_tv_s (1 + i)) (by decide) rfl (fun ls hl => ?_)
          refine lv_goto (tgt := 24) hx hb dX1_temper_55 (by decide) ?_
          exact ih24 (i + 1) _ _ _ _ _ _ (by omega) (by omega)  _ _ (hP) (hD) hS _ (lv_sub hl [0, 1, 2, 4, 5] (by rw [show fb_be (fb_ct (fb_rg nf) (fb_rg uf) (fb_rg tf) w j) (i + 1) = i + 1 from if_pos h43, show fb_le (fb_ct (fb_rg nf) (fb_rg uf) (fb_rg tf) w j) (i + 1) = fb_ct (fb_rg nf) (fb_rg uf) (fb_rg tf) w j (i + 1) from if_pos h43, Nat.add_comm i 1]; rfl))
  exact lp24 (30 + 1) 0 _ _ _ _ _ _ (by omega) (by omega)  _ _ (hP) (hD) hS _ (lv_sub hl [0, 2, 1, 3, 4] (by rw [show fb_tv (1 + 0) = -9 from by decide, show fb_tv (fb_be (fb_ct (fb_rg nf) (fb_rg uf) (fb_rg tf) w j) 0) = -10 from by rw [show fb_be (fb_ct (fb_rg nf) (fb_rg uf) (fb_rg tf) w j) 0 = 0 from rfl]; decide]; rfl))
set_option maxHeartbeats 4000000 in
set_option maxRecDepth 100000 in
theorem fb_c_X1_next (l : Launch) (G : va_G) (cI cL : ClassId) (x h n o d f h2 n2 o2 d2 f2 : Nat) (nf uf df tf : Nat → Int32) (w : Nat) (dy : Int32) (mf vf ef sf : Nat → Int32) (tw ty : Int32) (hw : w < 12) (sz : Nat) : fb_MG l yX1_next wsX1_next 6 132 0 0 [.ref x] G cI cL sz (fb_XW cI x h n o d f h2 n2 o2 d2 f2 nf uf df tf (nI w) dy mf vf ef sf tw ty) (fb_qi G (S := ((Nat → Int32) × (Nat → Int32) × (Nat → Int32) × (Nat → Int32) × Int32 × Int32)) (fun u => (fb_XW cI x h n o d f h2 n2 o2 d2 f2 nf uf df tf (nI w) dy u.1 u.2.1 u.2.2.1 u.2.2.2.1 u.2.2.2.2.1 u.2.2.2.2.2)) (fb_nb (fb_cn (fb_rg nf) (fb_rg uf) (fb_rg tf)) w (fb_co (fb_rg nf) (fb_rg uf) (fb_rg tf) 12) 12) (fun _ => True)) := by
  refine fb_mg_of (cc := cX1_next) (maxL := 5) (ret := (some .int)) (by decide) rfl (Nat.le_of_ble_eq_true rfl) ?_
  intro p e s m args below meth c A hx hb hr hml hlk hts hown hP hK hD hA hX hin9 ls hl
  have hown : s.vm.findClass RX1 = some m.cls := hown
  have hP : va_P G vwCl [(x, .inr (1, [.ref h, .ref h2])), (h, .inr (0, [.ref n, .ref o, .ref d, .ref f, .int (nI w), .int dy])), (n, .inl (cI, 12, .inl nf)), (o, .inl (cI, 12, .inl uf)), (d, .inl (cI, 12, .inl df)), (f, .inl (cI, 12, .inl tf)), (h2, .inr (0, [.ref n2, .ref o2, .ref d2, .ref f2, .int tw, .int ty])), (n2, .inl (cI, 12, .inl mf)), (o2, .inl (cI, 12, .inl vf)), (d2, .inl (cI, 12, .inl ef)), (f2, .inl (cI, 12, .inl sf))] s.heap := hP
  have hD : va_D A [(x, .inr (1, [.ref h, .ref h2])), (h, .inr (0, [.ref n, .ref o, .ref d, .ref f, .int (nI w), .int dy])), (n, .inl (cI, 12, .inl nf)), (o, .inl (cI, 12, .inl uf)), (d, .inl (cI, 12, .inl df)), (f, .inl (cI, 12, .inl tf)), (h2, .inr (0, [.ref n2, .ref o2, .ref d2, .ref f2, .int tw, .int ty])), (n2, .inl (cI, 12, .inl mf)), (o2, .inl (cI, 12, .inl vf)), (d2, .inl (cI, 12, .inl ef)), (f2, .inl (cI, 12, .inl sf))] := hD
  have hS : va_S A s.heap s.heap [] := va_S.rf
  have hXn : ∀ (H : Heap) (locs : List Loc), va_S A s.heap H locs → fb_sx (fun _ => False) s H := fun H locs h9 => (hX.kept h9.2.1).narrow (fun _ z => z.elim)
  have hl : lv_has ls 5 [(0, .ref x)] := hl
  have hin0 : ∀ w ∈ u_ws RX0 TX0 6, w ∈ wsX1_next := by decide +kernel
  have hin1 : ∀ w ∈ u_ws RX1 TX1 2, w ∈ wsX1_next := by decide +kernel
  refine lv_iconst (v := (-1)) hx hb dX1_next_0 (by decide) ?_
  refine lv_istore_n (lv' := [(1, .int (-1)), (0, .ref x)]) hx hb dX1_next_1 rfl hl (by decide) rfl (fun ls hl => ?_)
  refine lv_aload_n hx hb dX1_next_2 rfl (lv_at hl 1 rfl) ?_
  refine va_get (D := G) (ci := 1) (v := .ref h) (C := RX1) (T := TX1) (N := 2) hx hb hts (hin1) hown hK hP 0 rfl rfl 0 (by decide) (hts (.fieldLink RX1 10 "FifthBeats" "piano" "LFifthBeats$Piano;") (by decide +kernel)) (fun _ h9 => h9) rfl dX1_next_3 ?_
  refine fb_roV (As := []) (rest := []) (n := 0) ⟨hx, hb, hml, hown, hts⟩ (fb_c_X0_cost l G cI cL h n o d f nf uf df tf w dy  ) gX1_next_X0_cost rfl (by decide +kernel) (by decide) (fb_PB.bl _ _ _ _) (va_recv hK hP (ci := 0) (q0 := 1) rfl rfl) (fb_PB.to (hP.sub (ws' := [(h, .inr (0, [.ref n, .ref o, .ref d, .ref f, .int (nI w), .int dy])), (n, .inl (cI, 12, .inl nf)), (o, .inl (cI, 12, .inl uf)), (d, .inl (cI, 12, .inl df)), (f, .inl (cI, 12, .inl tf))]) [1, 2, 3, 4, 5] rfl) hK (hXn _ _ hS)) rfl hl.1 rfl (Nat.le_of_ble_eq_true rfl) dX1_next_6 (by decide) ?_
  refine lv_istore_n (lv' := [(2, .int (fb_co (fb_rg nf) (fb_rg uf) (fb_rg tf) 12)), (1, .int (-1)), (0, .ref x)]) hx hb dX1_next_9 rfl hl (by decide) rfl (fun ls hl => ?_)
  refine lv_iconst (v := 0) hx hb dX1_next_10 (by decide) ?_
  refine lv_istore_n (lv' := [(3, .int 0), (2, .int (fb_co (fb_rg nf) (fb_rg uf) (fb_rg tf) 12)), (1, .int (-1)), (0, .ref x)]) hx hb dX1_next_11 rfl hl (by decide) rfl (fun ls hl => ?_)
  have lp12 : ∀ (n9 i : Nat) (m9 : Nat → Int32) (v9 : Nat → Int32) (e9 : Nat → Int32) (s9 : Nat → Int32) (t9 : Int32) (y9 : Int32), i ≤ 12 → 12 < i + n9 → ∀ (H : Heap) (locs : List Loc), va_P G vwCl [(x, .inr (1, [.ref h, .ref h2])), (h, .inr (0, [.ref n, .ref o, .ref d, .ref f, .int (nI w), .int dy])), (n, .inl (cI, 12, .inl nf)), (o, .inl (cI, 12, .inl uf)), (d, .inl (cI, 12, .inl df)), (f, .inl (cI, 12, .inl tf)), (h2, .inr (0, [.ref n2, .ref o2, .ref d2, .ref f2, .int t9, .int y9])), (n2, .inl (cI, 12, .inl m9)), (o2, .inl (cI, 12, .inl v9)), (d2, .inl (cI, 12, .inl e9)), (f2, .inl (cI, 12, .inl s9))] H → va_D A [(x, .inr (1, [.ref h, .ref h2])), (h, .inr (0, [.ref n, .ref o, .ref d, .ref f, .int (nI w), .int dy])), (n, .inl (cI, 12, .inl nf)), (o, .inl (cI, 12, .inl uf)), (d, .inl (cI, 12, .inl df)), (f, .inl (cI, 12, .inl tf)), (h2, .inr (0, [.ref n2, .ref o2, .ref d2, .ref f2, .int t9, .int y9])), (n2, .inl (cI, 12, .inl m9)), (o2, .inl (cI, 12, .inl v9)), (d2, .inl (cI, 12, .inl e9)), (f2, .inl (cI, 12, .inl s9))] → va_S A s.heap H locs → ∀ ls : Array Slot, lv_has ls 5 [(3, .int (nI i)), (1, .int (fb_nb (fb_cn (fb_rg nf) (fb_rg uf) (fb_rg tf)) w (fb_co (fb_rg nf) (fb_rg uf) (fb_rg tf) 12) i)), (2, .int (fb_nl (fb_cn (fb_rg nf) (fb_rg uf) (fb_rg tf)) w (fb_co (fb_rg nf) (fb_rg uf) (fb_rg tf) 12) i)), (0, .ref x)] → W p l e ({ frames := 6, cells := 0, slots := 0, locals := 132 }) s m args below meth c H locs 0 0 (MQ below ((fb_qi G (S := ((Nat → Int32) × (Nat → Int32) × (Nat → Int32) × (Nat → Int32) × Int32 × Int32)) (fun u => (fb_XW cI x h n o d f h2 n2 o2 d2 f2 nf uf df tf (nI w) dy u.1 u.2.1 u.2.2.1 u.2.2.2.1 u.2.2.2.2.1 u.2.2.2.2.2)) (fb_nb (fb_cn (fb_rg nf) (fb_rg uf) (fb_rg tf)) w (fb_co (fb_rg nf) (fb_rg uf) (fb_rg tf) 12) 12) (fun _ => True)) A) args s 0 0 A) (F0 m 12 ls []) := by
    intro n9
    induction n9 with
    | zero => intro i m9 v9 e9 s9 t9 y9 h1 h2; exact absurd h2 (by omega)
    | succ n9 ih12 =>
      intro i m9 v9 e9 s9 t9 y9 hi_i hin9  H locs hP hD hS ls hl
      refine lv_iload_n hx hb dX1_next_12 rfl (lv_at hl 0 rfl) ?_
      refine lv_bipush (v := 12) hx hb dX1_next_13 (by decide) ?_
      refine lv_icmp_ge (tgt := 53) hx hb dX1_next_15 (by decide) (fun c15 => ?_) (fun c15 => ?_)
      · skip
        have hxi : i = 12 := fb_lp_ex (by decide) hi_i c15
        subst hxi
        refine lv_iload_n hx hb dX1_next_53 rfl (lv_at hl 1 rfl) ?_
        have hP9 := hP.sub (ws' := [(x, .inr (1, [.ref h, .ref h2])), (h, .inr (0, [.ref n, .ref o, .ref d, .ref f, .int (nI w), .int dy])), (n, .inl (cI, 12, .inl nf)), (o, .inl (cI, 12, .inl uf)), (d, .inl (cI, 12, .inl df)), (f, .inl (cI, 12, .inl tf)), (h2, .inr (0, [.ref n2, .ref o2, .ref d2, .ref f2, .int t9, .int y9])), (n2, .inl (cI, 12, .inl m9)), (o2, .inl (cI, 12, .inl v9)), (d2, .inl (cI, 12, .inl e9)), (f2, .inl (cI, 12, .inl s9))]) [0, 1, 2, 3, 4, 5, 6, 7, 8, 9, 10] rfl
        have hD9 := hD.sub (ws' := [(x, .inr (1, [.ref h, .ref h2])), (h, .inr (0, [.ref n, .ref o, .ref d, .ref f, .int (nI w), .int dy])), (n, .inl (cI, 12, .inl nf)), (o, .inl (cI, 12, .inl uf)), (d, .inl (cI, 12, .inl df)), (f, .inl (cI, 12, .inl tf)), (h2, .inr (0, [.ref n2, .ref o2, .ref d2, .ref f2, .int t9, .int y9])), (n2, .inl (cI, 12, .inl m9)), (o2, .inl (cI, 12, .inl v9)), (d2, .inl (cI, 12, .inl e9)), (f2, .inl (cI, 12, .inl s9))]) [0, 1, 2, 3, 4, 5, 6, 7, 8, 9, 10] (by decide) rfl
        exact W.iret (v := fb_nb (fb_cn (fb_rg nf) (fb_rg uf) (fb_rg tf)) w (fb_co (fb_rg nf) (fb_rg uf) (fb_rg tf) 12) 12) hx hb hr (fun t ht hW => ⟨⟨fb_nb (fb_cn (fb_rg nf) (fb_rg uf) (fb_rg tf)) w (fb_co (fb_rg nf) (fb_rg uf) (fb_rg tf) 12) 12, (m9, v9, e9, s9, t9, y9), rfl, ⟨rfl, trivial⟩, by rw [ht]; exact hP9, hD9⟩, hS.F ht⟩) hS.2.2 dX1_next_54 hlk
      · skip
        have hi12 : i < 12 := fb_lp_in (by decide) hi_i c15
        refine lv_aload_n hx hb dX1_next_18 rfl (lv_at hl 3 rfl) ?_
        refine va_get (D := G) (ci := 1) (v := .ref h) (C := RX1) (T := TX1) (N := 2) hx hb hts (hin1) hown hK hP 0 rfl rfl 0 (by decide) (hts (.fieldLink RX1 10 "FifthBeats" "piano" "LFifthBeats$Piano;") (by decide +kernel)) (fun _ h9 => h9) rfl dX1_next_19 ?_
        refine lv_iload_n hx hb dX1_next_22 rfl (lv_at hl 0 rfl) ?_
        refine fb_roV (As := [.int (nI i)]) (rest := []) (n := 1) ⟨hx, hb, hml, hown, hts⟩ (fb_c_X0_canTune l G cI cL h n o d f nf uf df tf w dy i hi12 hw) gX1_next_X0_canTune rfl (by decide +kernel) (by decide) (fb_PB.bl _ _ _ _) (va_recv hK hP (ci := 0) (q0 := 1) rfl rfl) (fb_PB.to (hP.sub (ws' := [(h, .inr (0, [.ref n, .ref o, .ref d, .ref f, .int (nI w), .int dy])), (n, .inl (cI, 12, .inl nf)), (o, .inl (cI, 12, .inl uf)), (d, .inl (cI, 12, .inl df)), (f, .inl (cI, 12, .inl tf))]) [1, 2, 3, 4, 5] rfl) hK (hXn _ _ hS)) rfl hl.1 rfl (Nat.le_of_ble_eq_true rfl) dX1_next_23 (by decide) ?_
        refine lv_if_eq (tgt := 47) hx hb dX1_next_26 (by decide) (fun c26 => ?_) (fun c26 => ?_)
        · skip
          have h26 : (i + 11) % 12 = w := Decidable.of_not_not (fun e9 => absurd c26 (by rw [if_neg e9]; decide))
          refine lv_iinc (v := nI (i + 1)) (lv' := [(3, .int (nI (i + 1))), (1, .int (fb_nb (fb_cn (fb_rg nf) (fb_rg uf) (fb_rg tf)) w (fb_co (fb_rg nf) (fb_rg uf) (fb_rg tf) 12) i)), (2, .int (fb_nl (fb_cn (fb_rg nf) (fb_rg uf) (fb_rg tf)) w (fb_co (fb_rg nf) (fb_rg uf) (fb_rg tf) 12) i)), (0, .ref x)]) hx hb dX1_next_47 hl (k := 0) rfl (show nI i + 1 = nI (i + 1) from nI_1 i) (by decide) rfl (fun ls hl => ?_)
          refine lv_goto (tgt := 12) hx hb dX1_next_50 (by decide) ?_
          exact ih12 (i + 1) _ _ _ _ _ _ (by omega) (by omega)  _ _ (hP) (hD) hS _ (lv_sub hl [0, 1, 2, 3] (by rw [(fb_n_s (c := (fb_cn (fb_rg nf) (fb_rg uf) (fb_rg tf))) (z := (fb_co (fb_rg nf) (fb_rg uf) (fb_rg tf) 12)) (Or.inl h26)).1, (fb_n_s (c := (fb_cn (fb_rg nf) (fb_rg uf) (fb_rg tf))) (z := (fb_co (fb_rg nf) (fb_rg uf) (fb_rg tf) 12)) (Or.inl h26)).2]; rfl))
        · skip
          have h26 : ¬ (i + 11) % 12 = w := fun e9 => c26 (if_pos e9)
          refine lv_aload_n hx hb dX1_next_29 rfl (lv_at hl 3 rfl) ?_
          refine lv_iload_n hx hb dX1_next_30 rfl (lv_at hl 0 rfl) ?_
          refine fb_miV (As := [.int (nI i)]) (rest := []) (n := 1) (wr := []) (wz := [(x, .inr (1, [.ref h, .ref h2])), (h, .inr (0, [.ref n, .ref o, .ref d, .ref f, .int (nI w), .int dy])), (n, .inl (cI, 12, .inl nf)), (o, .inl (cI, 12, .inl uf)), (d, .inl (cI, 12, .inl df)), (f, .inl (cI, 12, .inl tf)), (h2, .inr (0, [.ref n2, .ref o2, .ref d2, .ref f2, .int (nI w), .int dy])), (n2, .inl (cI, 12, .inl (fb_cp nf m9 12))), (o2, .inl (cI, 12, .inl (fb_t1 (fb_cp uf v9 12) i))), (d2, .inl (cI, 12, .inl (fb_cp df e9 12))), (f2, .inl (cI, 12, .inl (fb_cp tf s9 12)))]) ⟨hx, hb, hml, hown, hts⟩ (fb_c_X1_costWithTuned l G cI cL x h n o d f h2 n2 o2 d2 f2 nf uf df tf w dy m9 v9 e9 s9 t9 y9 i hi12 _) gX1_next_X1_costWithTuned rfl (by decide +kernel) (by decide) (va_recv hK hP (ci := 1) (q0 := 0) rfl rfl) hP hK hD hS hA hX [0, 1, 2, 3, 4, 5, 6, 7, 8, 9, 10] [] [0, 1, 2, 3, 4, 5, 6, 7, 8, 9, 10] rfl rfl rfl rfl rfl rfl (by decide) rfl hl.1 rfl (Nat.le_of_ble_eq_true rfl) dX1_next_31 (by decide) (fun H locs hP hD hS => ?_)
          refine lv_istore (lv' := [(4, .int (fb_cn (fb_rg nf) (fb_rg uf) (fb_rg tf) i)), (3, .int (nI i)), (1, .int (fb_nb (fb_cn (fb_rg nf) (fb_rg uf) (fb_rg tf)) w (fb_co (fb_rg nf) (fb_rg uf) (fb_rg tf) 12) i)), (2, .int (fb_nl (fb_cn (fb_rg nf) (fb_rg uf) (fb_rg tf)) w (fb_co (fb_rg nf) (fb_rg uf) (fb_rg tf) 12) i)), (0, .ref x)]) hx hb dX1_next_34 hl (by decide) rfl (fun ls hl => ?_)
          refine lv_iload hx hb dX1_next_36 (lv_at hl 0 rfl) ?_
          refine lv_iload_n hx hb dX1_next_38 rfl (lv_at hl 3 rfl) ?_
          refine lv_icmp_ge (tgt := 47) hx hb dX1_next_39 (by decide) (fun c39 => ?_) (fun c39 => ?_)
          · skip
            have h39 : ¬ (fb_cn (fb_rg nf) (fb_rg uf) (fb_rg tf)) i < fb_nl (fb_cn (fb_rg nf) (fb_rg uf) (fb_rg tf)) w (fb_co (fb_rg nf) (fb_rg uf) (fb_rg tf) 12) i := fun z9 => absurd c39 (Int32.not_le.mpr z9)
            refine lv_iinc (v := nI (i + 1)) (lv' := [(3, .int (nI (i + 1))), (4, .int (fb_cn (fb_rg nf) (fb_rg uf) (fb_rg tf) i)), (1, .int (fb_nb (fb_cn (fb_rg nf) (fb_rg uf) (fb_rg tf)) w (fb_co (fb_rg nf) (fb_rg uf) (fb_rg tf) 12) i)), (2, .int (fb_nl (fb_cn (fb_rg nf) (fb_rg uf) (fb_rg tf)) w (fb_co (fb_rg nf) (fb_rg uf) (fb_rg tf) 12) i)), (0, .ref x)]) hx hb dX1_next_47 hl (k := 1) rfl (show nI i + 1 = nI (i + 1) from nI_1 i) (by decide) rfl (fun ls hl => ?_)
            refine lv_goto (tgt := 12) hx hb dX1_next_50 (by decide) ?_
            exact ih12 (i + 1) _ _ _ _ _ _ (by omega) (by omega)  _ _ (hP) (hD) hS _ (lv_sub hl [0, 2, 3, 4] (by rw [(fb_n_s (c := (fb_cn (fb_rg nf) (fb_rg uf) (fb_rg tf))) (z := (fb_co (fb_rg nf) (fb_rg uf) (fb_rg tf) 12)) (Or.inr h39)).1, (fb_n_s (c := (fb_cn (fb_rg nf) (fb_rg uf) (fb_rg tf))) (z := (fb_co (fb_rg nf) (fb_rg uf) (fb_rg tf) 12)) (Or.inr h39)).2]; rfl))
          · skip
            have h39 : (fb_cn (fb_rg nf) (fb_rg uf) (fb_rg tf)) i < fb_nl (fb_cn (fb_rg nf) (fb_rg uf) (fb_rg tf)) w (fb_co (fb_rg nf) (fb_rg uf) (fb_rg tf) 12) i := Int32.not_le.mp c39
            refine lv_iload hx hb dX1_next_42 (lv_at hl 0 rfl) ?_
            refine lv_istore_n (lv' := [(2, .int (fb_cn (fb_rg nf) (fb_rg uf) (fb_rg tf) i)), (4, .int (fb_cn (fb_rg nf) (fb_rg uf) (fb_rg tf) i)), (3, .int (nI i)), (1, .int (fb_nb (fb_cn (fb_rg nf) (fb_rg uf) (fb_rg tf)) w (fb_co (fb_rg nf) (fb_rg uf) (fb_rg tf) 12) i)), (0, .ref x)]) hx hb dX1_next_44 rfl hl (by decide) rfl (fun ls hl => ?_)
            refine lv_iload_n hx hb dX1_next_45 rfl (lv_at hl 2 rfl) ?_
            refine lv_istore_n (lv' := [(1, .int (nI i)), (2, .int (fb_cn (fb_rg nf) (fb_rg uf) (fb_rg tf) i)), (4, .int (fb_cn (fb_rg nf) (fb_rg uf) (fb_rg tf) i)), (3, .int (nI i)), (0, .ref x)]) hx hb dX1_next_46 rfl hl (by decide) rfl (fun ls hl => ?_)
            refine lv_iinc (v := nI (i + 1)) (lv' := [(3, .int (nI (i + 1))), (1, .int (nI i)), (2, .int (fb_cn (fb_rg nf) (fb_rg uf) (fb_rg tf) i)), (4, .int (fb_cn (fb_rg nf) (fb_rg uf) (fb_rg tf) i)), (0, .ref x)]) hx hb dX1_next_47 hl (k := 3) rfl (show nI i + 1 = nI (i + 1) from nI_1 i) (by decide) rfl (fun ls hl => ?_)
            refine lv_goto (tgt := 12) hx hb dX1_next_50 (by decide) ?_
            exact ih12 (i + 1) _ _ _ _ _ _ (by omega) (by omega)  _ _ (hP) (hD) hS _ (lv_sub hl [0, 1, 2, 4] (by rw [(fb_n_t (c := (fb_cn (fb_rg nf) (fb_rg uf) (fb_rg tf))) (z := (fb_co (fb_rg nf) (fb_rg uf) (fb_rg tf) 12)) h26 h39).1, (fb_n_t (c := (fb_cn (fb_rg nf) (fb_rg uf) (fb_rg tf))) (z := (fb_co (fb_rg nf) (fb_rg uf) (fb_rg tf) 12)) h26 h39).2]; rfl))
  exact lp12 (12 + 1) 0 _ _ _ _ _ _ (by omega) (by omega)  _ _ (hP) (hD) hS _ (lv_sub hl [0, 2, 1, 3] (rfl))
