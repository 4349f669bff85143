set_option maxHeartbeats 4000000 in
set_option maxRecDepth 100000 in
theorem fb_c_X2_no (l : Launch) (G : va_G) (cI cL : ClassId) (h n d f o : Nat) (pf df tf uf : Nat → Int32) (th dy : Int32) (w : Nat) (k : Int32) (sz : Nat) : fb_MI l yX2_no wsX2_no 0 0 [.ref h, .int k] G cI cL sz (fb_MW cI h n d f o pf df tf uf th dy (nI w)) (fb_MW cI h n d f o pf df tf uf k dy (nI w)) 0 := by
  refine fb_mi_of (cc := cX2_no) (maxL := 2) (ret := (some .int)) (by decide) rfl (Nat.le_of_ble_eq_true rfl) ?_
  intro p e s m args below meth c A hx hb hr hml hlk hts hown hP hK hD hA hX ls hl
  have hown : s.vm.findClass RX2 = some m.cls := hown
  have hP : va_P G vwCl [(h, .inr (2, [.int th, .int dy, .int (nI w), .ref n, .ref d, .ref f, .ref o])), (n, .inl (cI, 12, .inl pf)), (d, .inl (cI, 12, .inl df)), (f, .inl (cI, 12, .inl tf)), (o, .inl (cI, 12, .inl uf))] s.heap := hP
  have hD : va_D A [(h, .inr (2, [.int th, .int dy, .int (nI w), .ref n, .ref d, .ref f, .ref o])), (n, .inl (cI, 12, .inl pf)), (d, .inl (cI, 12, .inl df)), (f, .inl (cI, 12, .inl tf)), (o, .inl (cI, 12, .inl uf))] := hD
  have hS : va_S A s.heap s.heap [] := va_S.rf
  have hXn : ∀ (H : Heap) (locs : List Loc), va_S A s.heap H locs → fb_sx (fun _ => False) s H := fun H locs h9 => (hX.kept h9.2.1).narrow (fun _ z => z.elim)
  have hl : lv_has ls 2 [(0, .ref h), (1, .int k)] := hl
  have hin2 : ∀ w ∈ u_ws RX2 TX2 7, w ∈ wsX2_no := by decide +kernel
  refine lv_aload_n hx hb dX2_no_0 rfl (lv_at hl 0 rfl) ?_
  refine lv_iload_n hx hb dX2_no_1 rfl (lv_at hl 1 rfl) ?_
  refine va_put (D := G) (ci := 2) (v := .int k) (ty := .int) (C := RX2) (T := TX2) (N := 7) hx hb hts (hin2) tyX2 tyX2_ok nmX2 hown hK hP hD hS 0 rfl rfl 0 (by decide) (hts (.fieldLink RX2 26 "FifthBeatsModel" "thrown" "I") (by decide +kernel)) (fun _ h9 => h9) rfl (by decide +kernel) rfl rfl (Nat.le_of_ble_eq_true rfl) dX2_no_2 (fun H locs hP hD hS => ?_)
  have hP : va_P G vwCl [(h, .inr (2, [.int k, .int dy, .int (nI w), .ref n, .ref d, .ref f, .ref o])), (n, .inl (cI, 12, .inl pf)), (d, .inl (cI, 12, .inl df)), (f, .inl (cI, 12, .inl tf)), (o, .inl (cI, 12, .inl uf))] H := hP
  have hD : va_D A [(h, .inr (2, [.int k, .int dy, .int (nI w), .ref n, .ref d, .ref f, .ref o])), (n, .inl (cI, 12, .inl pf)), (d, .inl (cI, 12, .inl df)), (f, .inl (cI, 12, .inl tf)), (o, .inl (cI, 12, .inl uf))] := hD
  refine lv_iconst (v := 0) hx hb dX2_no_5 (by decide) ?_
  have hP9 := hP.sub (ws' := [(h, .inr (2, [.int k, .int dy, .int (nI w), .ref n, .ref d, .ref f, .ref o])), (n, .inl (cI, 12, .inl pf)), (d, .inl (cI, 12, .inl df)), (f, .inl (cI, 12, .inl tf)), (o, .inl (cI, 12, .inl uf))]) [0, 1, 2, 3, 4] (rfl)
  have hD9 := hD.sub (ws' := [(h, .inr (2, [.int k, .int dy, .int (nI w), .ref n, .ref d, .ref f, .ref o])), (n, .inl (cI, 12, .inl pf)), (d, .inl (cI, 12, .inl df)), (f, .inl (cI, 12, .inl tf)), (o, .inl (cI, 12, .inl uf))]) [0, 1, 2, 3, 4] (by decide) (rfl)
  exact W.iret (v := 0) hx hb hr (fun t ht hW => ⟨⟨0, (), rfl, rfl, by rw [ht]; exact hP9, hD9⟩, hS.F ht⟩) hS.2.2 dX2_no_6 hlk
set_option maxHeartbeats 4000000 in
set_option maxRecDepth 100000 in
theorem fb_c_X2_shiftTo (l : Launch) (G : va_G) (cI cL : ClassId) (h n d f o : Nat) (pf df tf uf : Nat → Int32) (th dy : Int32) (w : Nat) (j : Nat) (hj : j < 12) (hw : w < 12) (sz : Nat) : fb_MV l yX2_shiftTo wsX2_shiftTo 1 24 [.ref h, .int (nI j)] G cI cL sz (fb_MW cI h n d f o pf df tf uf th dy (nI w)) (fb_MW cI h n d f o (upd pf w (fb_ep pf w j)) df tf uf th dy (nI j)) := by
  refine fb_mv_of (cc := cX2_shiftTo) (maxL := 2) (ret := none) (by decide) rfl (Nat.le_of_ble_eq_true rfl) ?_
  intro p e s m args below meth c A hx hb hr hml hlk hts hown hP hK hD hA hX ls hl
  have hown : s.vm.findClass RX2 = some m.cls := hown
  have hP : va_P G vwCl [(h, .inr (2, [.int th, .int dy, .int (nI w), .ref n, .ref d, .ref f, .ref o])), (n, .inl (cI, 12, .inl pf)), (d, .inl (cI, 12, .inl df)), (f, .inl (cI, 12, .inl tf)), (o, .inl (cI, 12, .inl uf))] s.heap := hP
  have hD : va_D A [(h, .inr (2, [.int th, .int dy, .int (nI w), .ref n, .ref d, .ref f, .ref o])), (n, .inl (cI, 12, .inl pf)), (d, .inl (cI, 12, .inl df)), (f, .inl (cI, 12, .inl tf)), (o, .inl (cI, 12, .inl uf))] := hD
  have hS : va_S A s.heap s.heap [] := va_S.rf
  have hXn : ∀ (H : Heap) (locs : List Loc), va_S A s.heap H locs → fb_sx (fun _ => False) s H := fun H locs h9 => (hX.kept h9.2.1).narrow (fun _ z => z.elim)
  have hl : lv_has ls 2 [(0, .ref h), (1, .int (nI j))] := hl
  have hin2 : ∀ w ∈ u_ws RX2 TX2 7, w ∈ wsX2_shiftTo := by decide +kernel
  refine lv_aload_n hx hb dX2_shiftTo_0 rfl (lv_at hl 0 rfl) ?_
  refine va_get (D := G) (ci := 2) (v := .ref n) (C := RX2) (T := TX2) (N := 7) hx hb hts (hin2) hown hK hP 0 rfl rfl 3 (by decide) (hts (.fieldLink RX2 13 "FifthBeatsModel" "plan" "[I") (by decide +kernel)) (fun _ h9 => h9) rfl dX2_shiftTo_1 ?_
  refine lv_aload_n hx hb dX2_shiftTo_4 rfl (lv_at hl 0 rfl) ?_
  refine va_get (D := G) (ci := 2) (v := .int (nI w)) (C := RX2) (T := TX2) (N := 7) hx hb hts (hin2) hown hK hP 0 rfl rfl 2 (by decide) (hts (.fieldLink RX2 7 "FifthBeatsModel" "wolf" "I") (by decide +kernel)) (fun _ h9 => h9) rfl dX2_shiftTo_5 ?_
  refine lv_aload_n hx hb dX2_shiftTo_8 rfl (lv_at hl 0 rfl) ?_
  refine lv_iload_n hx hb dX2_shiftTo_9 rfl (lv_at hl 1 rfl) ?_
  refine fb_roV (As := [.int (nI j)]) (rest := [.int (nI w), .ref n]) (n := 1) ⟨hx, hb, hml, hown, hts⟩ (fb_c_X2_planOf l G cI cL h n d f o pf df tf uf th dy w j (by omega) hw) gX2_shiftTo_X2_planOf rfl (by decide +kernel) (by decide) (fb_PB.bl _ _ _ _) (va_recv hK hP (ci := 2) (q0 := 0) rfl rfl) (fb_PB.to hP hK (hXn _ _ hS)) rfl hl.1 rfl (Nat.le_of_ble_eq_true rfl) dX2_shiftTo_10 (by decide) ?_
  refine va_iast hx hb hK hP hD hS 1 0 rfl rfl (vp_in_nI hw (by decide)) dX2_shiftTo_13 (fun H locs hP hD hS => ?_)
  rw [show (nI w).toNatClampNeg = w from fb_cl (by omega)] at hP hD
  have hP : va_P G vwCl [(h, .inr (2, [.int th, .int dy, .int (nI w), .ref n, .ref d, .ref f, .ref o])), (n, .inl (cI, 12, .inl (upd pf w ((fb_ep pf w) j)))), (d, .inl (cI, 12, .inl df)), (f, .inl (cI, 12, .inl tf)), (o, .inl (cI, 12, .inl uf))] H := hP
  have hD : va_D A [(h, .inr (2, [.int th, .int dy, .int (nI w), .ref n, .ref d, .ref f, .ref o])), (n, .inl (cI, 12, .inl (upd pf w ((fb_ep pf w) j)))), (d, .inl (cI, 12, .inl df)), (f, .inl (cI, 12, .inl tf)), (o, .inl (cI, 12, .inl uf))] := hD
  refine lv_aload_n hx hb dX2_shiftTo_14 rfl (lv_at hl 0 rfl) ?_
  refine lv_iload_n hx hb dX2_shiftTo_15 rfl (lv_at hl 1 rfl) ?_
  refine va_put (D := G) (ci := 2) (v := .int (nI j)) (ty := .int) (C := RX2) (T := TX2) (N := 7) hx hb hts (hin2) tyX2 tyX2_ok nmX2 hown hK hP hD hS 0 rfl rfl 2 (by decide) (hts (.fieldLink RX2 7 "FifthBeatsModel" "wolf" "I") (by decide +kernel)) (fun _ h9 => h9) rfl (by decide +kernel) rfl rfl (Nat.le_of_ble_eq_true rfl) dX2_shiftTo_16 (fun H locs hP hD hS => ?_)
  have hP : va_P G vwCl [(h, .inr (2, [.int th, .int dy, .int (nI j), .ref n, .ref d, .ref f, .ref o])), (n, .inl (cI, 12, .inl (upd pf w ((fb_ep pf w) j)))), (d, .inl (cI, 12, .inl df)), (f, .inl (cI, 12, .inl tf)), (o, .inl (cI, 12, .inl uf))] H := hP
  have hD : va_D A [(h, .inr (2, [.int th, .int dy, .int (nI j), .ref n, .ref d, .ref f, .ref o])), (n, .inl (cI, 12, .inl (upd pf w ((fb_ep pf w) j)))), (d, .inl (cI, 12, .inl df)), (f, .inl (cI, 12, .inl tf)), (o, .inl (cI, 12, .inl uf))] := hD
  have hP9 := hP.sub (ws' := [(h, .inr (2, [.int th, .int dy, .int (nI j), .ref n, .ref d, .ref f, .ref o])), (n, .inl (cI, 12, .inl (upd pf w (fb_ep pf w j)))), (d, .inl (cI, 12, .inl df)), (f, .inl (cI, 12, .inl tf)), (o, .inl (cI, 12, .inl uf))]) [0, 1, 2, 3, 4] (rfl)
  have hD9 := hD.sub (ws' := [(h, .inr (2, [.int th, .int dy, .int (nI j), .ref n, .ref d, .ref f, .ref o])), (n, .inl (cI, 12, .inl (upd pf w (fb_ep pf w j)))), (d, .inl (cI, 12, .inl df)), (f, .inl (cI, 12, .inl tf)), (o, .inl (cI, 12, .inl uf))]) [0, 1, 2, 3, 4] (by decide) (rfl)
  exact W.vret hx hb hr (fun t ht hW => ⟨⟨(), rfl, trivial, by rw [ht]; exact hP9, hD9⟩, hS.F ht⟩) hS.2.2 dX2_shiftTo_19 hlk
set_option maxHeartbeats 4000000 in
set_option maxRecDepth 100000 in
theorem fb_c_X2_tuned (l : Launch) (G : va_G) (cI cL : ClassId) (h n d f o : Nat) (pf df tf uf : Nat → Int32) (th dy : Int32) (w : Nat) (j : Nat) (hj : j < 12) (sz : Nat) : fb_MI l yX2_tuned wsX2_tuned 1 20 [.ref h, .int (nI j)] G cI cL sz (fb_MW cI h n d f o pf df tf uf th dy (nI w)) (fb_MW cI h n d f o pf df tf (fb_t1 uf j) th dy (nI w)) (fb_tr uf j) := by
  refine fb_mi_of (cc := cX2_tuned) (maxL := 3) (ret := (some .int)) (by decide) rfl (Nat.le_of_ble_eq_true rfl) ?_
  intro p e s m args below meth c A hx hb hr hml hlk hts hown hP hK hD hA hX ls hl
  have hown : s.vm.findClass RX2 = some m.cls := hown
  have hP : va_P G vwCl [(h, .inr (2, [.int th, .int dy, .int (nI w), .ref n, .ref d, .ref f, .ref o])), (n, .inl (cI, 12, .inl pf)), (d, .inl (cI, 12, .inl df)), (f, .inl (cI, 12, .inl tf)), (o, .inl (cI, 12, .inl uf))] s.heap := hP
  have hD : va_D A [(h, .inr (2, [.int th, .int dy, .int (nI w), .ref n, .ref d, .ref f, .ref o])), (n, .inl (cI, 12, .inl pf)), (d, .inl (cI, 12, .inl df)), (f, .inl (cI, 12, .inl tf)), (o, .inl (cI, 12, .inl uf))] := hD
  have hS : va_S A s.heap s.heap [] := va_S.rf
  have hXn : ∀ (H : Heap) (locs : List Loc), va_S A s.heap H locs → fb_sx (fun _ => False) s H := fun H locs h9 => (hX.kept h9.2.1).narrow (fun _ z => z.elim)
  have hl : lv_has ls 3 [(0, .ref h), (1, .int (nI j))] := hl
  have hin2 : ∀ w ∈ u_ws RX2 TX2 7, w ∈ wsX2_tuned := by decide +kernel
  refine lv_aload_n hx hb dX2_tuned_0 rfl (lv_at hl 0 rfl) ?_
  refine va_get (D := G) (ci := 2) (v := .ref o) (C := RX2) (T := TX2) (N := 7) hx hb hts (hin2) hown hK hP 0 rfl rfl 6 (by decide) (hts (.fieldLink RX2 23 "FifthBeatsModel" "off" "[I") (by decide +kernel)) (fun _ h9 => h9) rfl dX2_tuned_1 ?_
  refine lv_iload_n hx hb dX2_tuned_4 rfl (lv_at hl 1 rfl) ?_
  refine va_iald hx hb hK hP 4 0 rfl rfl (vp_in_nI hj (by decide)) dX2_tuned_5 ?_
  refine fb_ti (z := fb_rg uf j) (by rw [fb_cl (by omega), fb_rg_lt hj]) ?_
  refine lv_istore_n (lv' := [(2, .int (fb_rg uf j)), (0, .ref h), (1, .int (nI j))]) hx hb dX2_tuned_6 rfl hl (by decide) rfl (fun ls hl => ?_)
  refine lv_aload_n hx hb dX2_tuned_7 rfl (lv_at hl 1 rfl) ?_
  refine va_get (D := G) (ci := 2) (v := .ref o) (C := RX2) (T := TX2) (N := 7) hx hb hts (hin2) hown hK hP 0 rfl rfl 6 (by decide) (hts (.fieldLink RX2 23 "FifthBeatsModel" "off" "[I") (by decide +kernel)) (fun _ h9 => h9) rfl dX2_tuned_8 ?_
  refine lv_iload_n hx hb dX2_tuned_11 rfl (lv_at hl 2 rfl) ?_
  refine lv_aload_n hx hb dX2_tuned_12 rfl (lv_at hl 1 rfl) ?_
  refine va_get (D := G) (ci := 2) (v := .ref o) (C := RX2) (T := TX2) (N := 7) hx hb hts (hin2) hown hK hP 0 rfl rfl 6 (by decide) (hts (.fieldLink RX2 23 "FifthBeatsModel" "off" "[I") (by decide +kernel)) (fun _ h9 => h9) rfl dX2_tuned_13 ?_
  refine lv_iload_n hx hb dX2_tuned_16 rfl (lv_at hl 2 rfl) ?_
  refine fb_roS (As := [.int (nI j)]) (rest := [.ref o, .int (nI j), .ref o]) (n := 1) ⟨hx, hb, hml, hown, hts⟩ (fb_c_X2_ahead l j (by omega)) gX2_tuned_X2_ahead rfl (by decide +kernel) (by decide) fb_Bl_T (fun _ _ _ => trivial) rfl hl.1 rfl (Nat.le_of_ble_eq_true rfl) dX2_tuned_17 (by decide) ?_
  refine va_iald hx hb hK hP 4 0 rfl rfl (vp_in_nI (Nat.mod_lt _ (by decide)) (by decide)) dX2_tuned_20 ?_
  refine fb_ti (z := fb_rg uf (j + 11)) (by rw [fb_cl (by omega)]; rfl) ?_
  refine va_iast hx hb hK hP hD hS 4 0 rfl rfl (vp_in_nI hj (by decide)) dX2_tuned_21 (fun H locs hP hD hS => ?_)
  rw [show (nI j).toNatClampNeg = j from fb_cl (by omega)] at hP hD
  rw [show upd uf j (fb_rg uf (j + 11)) = fb_t1 uf j from fb_t1_lt hj] at hP hD
  have hP : va_P G vwCl [(h, .inr (2, [.int th, .int dy, .int (nI w), .ref n, .ref d, .ref f, .ref o])), (n, .inl (cI, 12, .inl pf)), (d, .inl (cI, 12, .inl df)), (f, .inl (cI, 12, .inl tf)), (o, .inl (cI, 12, .inl (fb_t1 uf j)))] H := hP
  have hD : va_D A [(h, .inr (2, [.int th, .int dy, .int (nI w), .ref n, .ref d, .ref f, .ref o])), (n, .inl (cI, 12, .inl pf)), (d, .inl (cI, 12, .inl df)), (f, .inl (cI, 12, .inl tf)), (o, .inl (cI, 12, .inl (fb_t1 uf j)))] := hD
  refine lv_aload_n hx hb dX2_tuned_22 rfl (lv_at hl 1 rfl) ?_
  refine va_get (D := G) (ci := 2) (v := .ref o) (C := RX2) (T := TX2) (N := 7) hx hb hts (hin2) hown hK hP 0 rfl rfl 6 (by decide) (hts (.fieldLink RX2 23 "FifthBeatsModel" "off" "[I") (by decide +kernel)) (fun _ h9 => h9) rfl dX2_tuned_23 ?_
  refine lv_iload_n hx hb dX2_tuned_26 rfl (lv_at hl 2 rfl) ?_
  refine va_iald hx hb hK hP 4 0 rfl rfl (vp_in_nI hj (by decide)) dX2_tuned_27 ?_
  refine fb_ti (z := fb_rg uf (j + 11)) (by rw [fb_cl (by omega)]; exact fb_t1_at hj) ?_
  refine lv_iload_n hx hb dX2_tuned_28 rfl (lv_at hl 0 rfl) ?_
  refine lv_isub hx hb dX2_tuned_29 ?_
  have hP9 := hP.sub (ws' := [(h, .inr (2, [.int th, .int dy, .int (nI w), .ref n, .ref d, .ref f, .ref o])), (n, .inl (cI, 12, .inl pf)), (d, .inl (cI, 12, .inl df)), (f, .inl (cI, 12, .inl tf)), (o, .inl (cI, 12, .inl (fb_t1 uf j)))]) [0, 1, 2, 3, 4] (rfl)
  have hD9 := hD.sub (ws' := [(h, .inr (2, [.int th, .int dy, .int (nI w), .ref n, .ref d, .ref f, .ref o])), (n, .inl (cI, 12, .inl pf)), (d, .inl (cI, 12, .inl df)), (f, .inl (cI, 12, .inl tf)), (o, .inl (cI, 12, .inl (fb_t1 uf j)))]) [0, 1, 2, 3, 4] (by decide) (rfl)
  exact W.iret (v := (fb_rg uf (j + 11)) - (fb_rg uf j)) hx hb hr (fun t ht hW => ⟨⟨(fb_rg uf (j + 11)) - (fb_rg uf j), (), rfl, fb_tr_lt hj, by rw [ht]; exact hP9, hD9⟩, hS.F ht⟩) hS.2.2 dX2_tuned_30 hlk
set_option maxHeartbeats 4000000 in
set_option maxRecDepth 100000 in
theorem fb_c_X2_pass (l : Launch) (G : va_G) (cI cL : ClassId) (h n d f o : Nat) (pf df tf uf : Nat → Int32) (th dy : Int32) (w : Nat) (sz : Nat) : fb_MV l yX2_pass wsX2_pass 2 41 [.ref h] G cI cL sz (fb_MW cI h n d f o pf df tf uf th dy (nI w)) (fb_MW cI h n d f o pf df tf (fb_pa df uf 12) th (dy + 1) (nI w)) := by
  refine fb_mv_of (cc := cX2_pass) (maxL := 2) (ret := none) (by decide) rfl (Nat.le_of_ble_eq_true rfl) ?_
  intro p e s m args below meth c A hx hb hr hml hlk hts hown hP hK hD hA hX ls hl
  have hown : s.vm.findClass RX2 = some m.cls := hown
  have hP : va_P G vwCl [(h, .inr (2, [.int th, .int dy, .int (nI w), .ref n, .ref d, .ref f, .ref o])), (n, .inl (cI, 12, .inl pf)), (d, .inl (cI, 12, .inl df)), (f, .inl (cI, 12, .inl tf)), (o, .inl (cI, 12, .inl uf))] s.heap := hP
  have hD : va_D A [(h, .inr (2, [.int th, .int dy, .int (nI w), .ref n, .ref d, .ref f, .ref o])), (n, .inl (cI, 12, .inl pf)), (d, .inl (cI, 12, .inl df)), (f, .inl (cI, 12, .inl tf)), (o, .inl (cI, 12, .inl uf))] := hD
  have hS : va_S A s.heap s.heap [] := va_S.rf
  have hXn : ∀ (H : Heap) (locs : List Loc), va_S A s.heap H locs → fb_sx (fun _ => False) s H := fun H locs h9 => (hX.kept h9.2.1).narrow (fun _ z => z.elim)
  have hl : lv_has ls 2 [(0, .ref h)] := hl
  have hin2 : ∀ w ∈ u_ws RX2 TX2 7, w ∈ wsX2_pass := by decide +kernel
  refine lv_iconst (v := 0) hx hb dX2_pass_0 (by decide) ?_
  refine lv_istore_n (lv' := [(1, .int 0), (0, .ref h)]) hx hb dX2_pass_1 rfl hl (by decide) rfl (fun ls hl => ?_)
  have lp2 : ∀ (n9 k : Nat), k ≤ 12 → 12 < k + n9 → ∀ (H : Heap) (locs : List Loc), va_P G vwCl [(h, .inr (2, [.int th, .int dy, .int (nI w), .ref n, .ref d, .ref f, .ref o])), (n, .inl (cI, 12, .inl pf)), (d, .inl (cI, 12, .inl df)), (f, .inl (cI, 12, .inl tf)), (o, .inl (cI, 12, .inl (fb_pa df uf k)))] H → va_D A [(h, .inr (2, [.int th, .int dy, .int (nI w), .ref n, .ref d, .ref f, .ref o])), (n, .inl (cI, 12, .inl pf)), (d, .inl (cI, 12, .inl df)), (f, .inl (cI, 12, .inl tf)), (o, .inl (cI, 12, .inl (fb_pa df uf k)))] → va_S A s.heap H locs → ∀ ls : Array Slot, lv_has ls 2 [(1, .int (nI k)), (0, .ref h)] → W p l e ({ frames := 2, cells := 0, slots := 0, locals := 41 }) s m args below meth c H locs 0 0 (MQ below (va_Qv (fun _ : Unit => True) (fun _ t => va_P G vwCl (fb_MW cI h n d f o pf df tf (fb_pa df uf 12) th (dy + 1) (nI w)) t.heap ∧ va_D A (fb_MW cI h n d f o pf df tf (fb_pa df uf 12) th (dy + 1) (nI w))) A) args s 0 0 A) (F0 m 2 ls []) := by
    intro n9
    induction n9 with
    | zero => intro k h1 h2; exact absurd h2 (by omega)
    | succ n9 ih2 =>
      intro k hi_k hin9 H locs hP hD hS ls hl
      refine lv_iload_n hx hb dX2_pass_2 rfl (lv_at hl 0 rfl) ?_
      refine lv_bipush (v := 12) hx hb dX2_pass_3 (by decide) ?_
      refine lv_icmp_ge (tgt := 36) hx hb dX2_pass_5 (by decide) (fun c5 => ?_) (fun c5 => ?_)
      · skip
        have hxk : k = 12 := fb_lp_ex (by decide) hi_k c5
        subst hxk
        refine lv_aload_n hx hb dX2_pass_36 rfl (lv_at hl 1 rfl) ?_
        refine lv_dup hx hb dX2_pass_37 rfl ?_
        refine va_get (D := G) (ci := 2) (v := .int dy) (C := RX2) (T := TX2) (N := 7) hx hb hts (hin2) hown hK hP 0 rfl rfl 1 (by decide) (hts (.fieldLink RX2 97 "FifthBeatsModel" "day" "I") (by decide +kernel)) (fun _ h9 => h9) rfl dX2_pass_38 ?_
        refine lv_iconst (v := 1) hx hb dX2_pass_41 (by decide) ?_
        refine lv_iadd hx hb dX2_pass_42 ?_
        refine va_put (D := G) (ci := 2) (v := .int (dy + 1)) (ty := .int) (C := RX2) (T := TX2) (N := 7) hx hb hts (hin2) tyX2 tyX2_ok nmX2 hown hK hP hD hS 0 rfl rfl 1 (by decide) (hts (.fieldLink RX2 97 "FifthBeatsModel" "day" "I") (by decide +kernel)) (fun _ h9 => h9) rfl (by decide +kernel) rfl rfl (Nat.le_of_ble_eq_true rfl) dX2_pass_43 (fun H locs hP hD hS => ?_)
        have hP : va_P G vwCl [(h, .inr (2, [.int th, .int (dy + 1), .int (nI w), .ref n, .ref d, .ref f, .ref o])), (n, .inl (cI, 12, .inl pf)), (d, .inl (cI, 12, .inl df)), (f, .inl (cI, 12, .inl tf)), (o, .inl (cI, 12, .inl (fb_pa df uf 12)))] H := hP
        have hD : va_D A [(h, .inr (2, [.int th, .int (dy + 1), .int (nI w), .ref n, .ref d, .ref f, .ref o])), (n, .inl (cI, 12, .inl pf)), (d, .inl (cI, 12, .inl df)), (f, .inl (cI, 12, .inl tf)), (o, .inl (cI, 12, .inl (fb_pa df uf 12)))] := hD
        have hP9 := hP.sub (ws' := [(h, .inr (2, [.int th, .int (dy + 1), .int (nI w), .ref n, .ref d, .ref f, .ref o])), (n, .inl (cI, 12, .inl pf)), (d, .inl (cI, 12, .inl df)), (f, .inl (cI, 12, .inl tf)), (o, .inl (cI, 12, .inl (fb_pa df uf 12)))]) [0, 1, 2, 3, 4] (rfl)
        have hD9 := hD.sub (ws' := [(h, .inr (2, [.int th, .int (dy + 1), .int (nI w), .ref n, .ref d, .ref f, .ref o])), (n, .inl (cI, 12, .inl pf)), (d, .inl (cI, 12, .inl df)), (f, .inl (cI, 12, .inl tf)), (o, .inl (cI, 12, .inl (fb_pa df uf 12)))]) [0, 1, 2, 3, 4] (by decide) (rfl)
        exact W.vret hx hb hr (fun t ht hW => ⟨⟨(), rfl, trivial, by rw [ht]; exact hP9, hD9⟩, hS.F ht⟩) hS.2.2 dX2_pass_46 hlk
      · skip
        have hk12 : k < 12 := fb_lp_in (by decide) hi_k c5
        refine lv_aload_n hx hb dX2_pass_8 rfl (lv_at hl 1 rfl) ?_
        refine va_get (D := G) (ci := 2) (v := .ref o) (C := RX2) (T := TX2) (N := 7) hx hb hts (hin2) hown hK hP 0 rfl rfl 6 (by decide) (hts (.fieldLink RX2 23 "FifthBeatsModel" "off" "[I") (by decide +kernel)) (fun _ h9 => h9) rfl dX2_pass_9 ?_
        refine lv_iload_n hx hb dX2_pass_12 rfl (lv_at hl 0 rfl) ?_
        refine lv_aload_n hx hb dX2_pass_13 rfl (lv_at hl 1 rfl) ?_
        refine va_get (D := G) (ci := 2) (v := .ref o) (C := RX2) (T := TX2) (N := 7) hx hb hts (hin2) hown hK hP 0 rfl rfl 6 (by decide) (hts (.fieldLink RX2 23 "FifthBeatsModel" "off" "[I") (by decide +kernel)) (fun _ h9 => h9) rfl dX2_pass_14 ?_
        refine lv_iload_n hx hb dX2_pass_17 rfl (lv_at hl 0 rfl) ?_
        refine va_iald hx hb hK hP 4 0 rfl rfl (vp_in_nI hk12 (by decide)) dX2_pass_18 ?_
        refine fb_ti (z := uf k) (by rw [fb_cl (by omega)]; exact if_neg (Nat.lt_irrefl _)) ?_
        refine lv_aload_n hx hb dX2_pass_19 rfl (lv_at hl 1 rfl) ?_
        refine va_get (D := G) (ci := 2) (v := .ref d) (C := RX2) (T := TX2) (N := 7) hx hb hts (hin2) hown hK hP 0 rfl rfl 4 (by decide) (hts (.fieldLink RX2 17 "FifthBeatsModel" "drift" "[I") (by decide +kernel)) (fun _ h9 => h9) rfl dX2_pass_20 ?_
        refine lv_iload_n hx hb dX2_pass_23 rfl (lv_at hl 0 rfl) ?_
        refine va_iald hx hb hK hP 2 0 rfl rfl (vp_in_nI hk12 (by decide)) dX2_pass_24 ?_
        refine fb_ti (z := df k) (by rw [fb_cl (by omega)]) ?_
        refine lv_iadd hx hb dX2_pass_25 ?_
        refine fb_roS (As := [.int ((uf k) + (df k))]) (rest := [.int (nI k), .ref o]) (n := 1) ⟨hx, hb, hml, hown, hts⟩ (fb_c_X2_held l ((uf k) + (df k))) gX2_pass_X2_held rfl (by decide +kernel) (by decide) fb_Bl_T (fun _ _ _ => trivial) rfl hl.1 rfl (Nat.le_of_ble_eq_true rfl) dX2_pass_26 (by decide) ?_
        refine va_iast hx hb hK hP hD hS 4 0 rfl rfl (vp_in_nI hk12 (by decide)) dX2_pass_29 (fun H locs hP hD hS => ?_)
        rw [show (nI k).toNatClampNeg = k from fb_cl (by omega)] at hP hD
        rw [show upd (fb_pa df uf k) k (fb_hd ((uf k) + (df k))) = fb_pa df uf (k + 1) from fb_pa_s df uf k] at hP hD
        have hP : va_P G vwCl [(h, .inr (2, [.int th, .int dy, .int (nI w), .ref n, .ref d, .ref f, .ref o])), (n, .inl (cI, 12, .inl pf)), (d, .inl (cI, 12, .inl df)), (f, .inl (cI, 12, .inl tf)), (o, .inl (cI, 12, .inl (fb_pa df uf (k + 1))))] H := hP
        have hD : va_D A [(h, .inr (2, [.int th, .int dy, .int (nI w), .ref n, .ref d, .ref f, .ref o])), (n, .inl (cI, 12, .inl pf)), (d, .inl (cI, 12, .inl df)), (f, .inl (cI, 12, .inl tf)), (o, .inl (cI, 12, .inl (fb_pa df uf (k + 1))))] := hD
        refine lv_iinc (v := nI (k + 1)) (lv' := [(1, .int (nI (k + 1))), (0, .ref h)]) hx hb dX2_pass_30 hl (k := 0) rfl (show nI k + 1 = nI (k + 1) from nI_1 k) (by decide) rfl (fun ls hl => ?_)
        refine lv_goto (tgt := 2) hx hb dX2_pass_33 (by decide) ?_
        exact ih2 (k + 1) (by omega) (by omega) _ _ (hP) (hD) hS _ (lv_sub hl [0, 1] (rfl))
  exact lp2 (12 + 1) 0 (by omega) (by omega) _ _ (by rw [fb_pa_0]; exact hP) (by rw [fb_pa_0]; exact hD) hS _ (lv_sub hl [0, 1] (rfl))
set_option maxHeartbeats 4000000 in
set_option maxRecDepth 100000 in
theorem fb_c_X2_pass_ok (l : Launch) (G : va_G) (cI cL : ClassId) (h n d f o : Nat) (pf df tf uf : Nat → Int32) (th dy : Int32) (w : Nat) (q : Nat) (hq : 1 ≤ q) (hq2 : q ≤ 100) (sz : Nat) : fb_MI l yX2_pass_ wsX2_pass_ 3 62 [.ref h, .int (nI q)] G cI cL sz (fb_MW cI h n d f o pf df tf uf th dy (nI w)) (fb_MW cI h n d f o pf df tf (fb_dy df uf q) 0 (dy + nI q) (nI w)) (fb_mo (fb_rg (fb_dy df uf q)) 12) := by
  refine fb_mi_of (cc := cX2_pass_) (maxL := 7) (ret := (some .int)) (by decide) rfl (Nat.le_of_ble_eq_true rfl) ?_
  intro p e s m args below meth c A hx hb hr hml hlk hts hown hP hK hD hA hX ls hl
  have hown : s.vm.findClass RX2 = some m.cls := hown
  have hP : va_P G vwCl [(h, .inr (2, [.int th, .int dy, .int (nI w), .ref n, .ref d, .ref f, .ref o])), (n, .inl (cI, 12, .inl pf)), (d, .inl (cI, 12, .inl df)), (f, .inl (cI, 12, .inl tf)), (o, .inl (cI, 12, .inl uf))] s.heap := hP
  have hD : va_D A [(h, .inr (2, [.int th, .int dy, .int (nI w), .ref n, .ref d, .ref f, .ref o])), (n, .inl (cI, 12, .inl pf)), (d, .inl (cI, 12, .inl df)), (f, .inl (cI, 12, .inl tf)), (o, .inl (cI, 12, .inl uf))] := hD
  have hS : va_S A s.heap s.heap [] := va_S.rf
  have hXn : ∀ (H : Heap) (locs : List Loc), va_S A s.heap H locs → fb_sx (fun _ => False) s H := fun H locs h9 => (hX.kept h9.2.1).narrow (fun _ z => z.elim)
  have hl : lv_has ls 7 [(0, .ref h), (1, .int (nI q))] := hl
  have hin2 : ∀ w ∈ u_ws RX2 TX2 7, w ∈ wsX2_pass_ := by decide +kernel
  refine lv_aload_n hx hb dX2_pass__0 rfl (lv_at hl 0 rfl) ?_
  refine lv_iconst (v := 0) hx hb dX2_pass__1 (by decide) ?_
  refine va_put (D := G) (ci := 2) (v := .int 0) (ty := .int) (C := RX2) (T := TX2) (N := 7) hx hb hts (hin2) tyX2 tyX2_ok nmX2 hown hK hP hD hS 0 rfl rfl 0 (by decide) (hts (.fieldLink RX2 26 "FifthBeatsModel" "thrown" "I") (by decide +kernel)) (fun _ h9 => h9) rfl (by decide +kernel) rfl rfl (Nat.le_of_ble_eq_true rfl) dX2_pass__2 (fun H locs hP hD hS => ?_)
  have hP : va_P G vwCl [(h, .inr (2, [.int 0, .int dy, .int (nI w), .ref n, .ref d, .ref f, .ref o])), (n, .inl (cI, 12, .inl pf)), (d, .inl (cI, 12, .inl df)), (f, .inl (cI, 12, .inl tf)), (o, .inl (cI, 12, .inl uf))] H := hP
  have hD : va_D A [(h, .inr (2, [.int 0, .int dy, .int (nI w), .ref n, .ref d, .ref f, .ref o])), (n, .inl (cI, 12, .inl pf)), (d, .inl (cI, 12, .inl df)), (f, .inl (cI, 12, .inl tf)), (o, .inl (cI, 12, .inl uf))] := hD
  refine lv_iload_n hx hb dX2_pass__5 rfl (lv_at hl 1 rfl) ?_
  refine lv_iconst (v := 1) hx hb dX2_pass__6 (by decide) ?_
  refine lv_bipush (v := 100) hx hb dX2_pass__7 (by decide) ?_
  refine fb_roS (As := [.int (nI q), .int 1, .int 100]) (rest := []) (n := 3) ⟨hx, hb, hml, hown, hts⟩ (fb_c_X2_isIn l (nI q) 1 100) gX2_pass__X2_isIn rfl (by decide +kernel) (by decide) fb_Bl_T (fun _ _ _ => trivial) rfl hl.1 rfl (Nat.le_of_ble_eq_true rfl) dX2_pass__9 (by decide) ?_
  refine fb_ti (z := 1) (fb_ii_1 (fb_r1 hq hq2 (by decide))) ?_
  refine lv_if_ne (tgt := 21) hx hb dX2_pass__12 (by decide) (fun c12 => ?_) (fun c12 => ?_)
  · skip
    refine lv_iconst (v := 0) hx hb dX2_pass__21 (by decide) ?_
    refine lv_istore_n (lv' := [(2, .int 0), (0, .ref h), (1, .int (nI q))]) hx hb dX2_pass__22 rfl hl (by decide) rfl (fun ls hl => ?_)
    have lp23 : ∀ (n9 i : Nat), i ≤ q → q < i + n9 → ∀ (H : Heap) (locs : List Loc), va_P G vwCl [(h, .inr (2, [.int 0, .int (dy + nI i), .int (nI w), .ref n, .ref d, .ref f, .ref o])), (n, .inl (cI, 12, .inl pf)), (d, .inl (cI, 12, .inl df)), (f, .inl (cI, 12, .inl tf)), (o, .inl (cI, 12, .inl (fb_dy df uf i)))] H → va_D A [(h, .inr (2, [.int 0, .int (dy + nI i), .int (nI w), .ref n, .ref d, .ref f, .ref o])), (n, .inl (cI, 12, .inl pf)), (d, .inl (cI, 12, .inl df)), (f, .inl (cI, 12, .inl tf)), (o, .inl (cI, 12, .inl (fb_dy df uf i)))] → va_S A s.heap H locs → ∀ ls : Array Slot, lv_has ls 7 [(2, .int (nI i)), (0, .ref h), (1, .int (nI q))] → W p l e ({ frames := 3, cells := 0, slots := 0, locals := 62 }) s m args below meth c H locs 0 0 (MQ below (va_Qi (fun (r : Int32) (_ : Unit) => r = (fb_mo (fb_rg (fb_dy df uf q)) 12)) (fun _ t => va_P G vwCl (fb_MW cI h n d f o pf df tf (fb_dy df uf q) 0 (dy + nI q) (nI w)) t.heap ∧ va_D A (fb_MW cI h n d f o pf df tf (fb_dy df uf q) 0 (dy + nI q) (nI w))) A) args s 0 0 A) (F0 m 23 ls []) := by
      intro n9
      induction n9 with
      | zero => intro i h1 h2; exact absurd h2 (by omega)
      | succ n9 ih23 =>
        intro i hi_i hin9 H locs hP hD hS ls hl
        refine lv_iload_n hx hb dX2_pass__23 rfl (lv_at hl 0 rfl) ?_
        refine lv_iload_n hx hb dX2_pass__24 rfl (lv_at hl 2 rfl) ?_
        refine lv_icmp_ge (tgt := 38) hx hb dX2_pass__25 (by decide) (fun c25 => ?_) (fun c25 => ?_)
        · skip
          have hxi : q = i := (fb_lp_ex (by omega) hi_i c25).symm
          subst hxi
          refine lv_iconst (v := 0) hx hb dX2_pass__38 (by decide) ?_
          refine lv_istore_n (lv' := [(2, .int 0), (0, .ref h), (1, .int (nI q))]) hx hb dX2_pass__39 rfl hl (by decide) rfl (fun ls hl => ?_)
          refine lv_aload_n hx hb dX2_pass__40 rfl (lv_at hl 1 rfl) ?_
          refine va_get (D := G) (ci := 2) (v := .ref o) (C := RX2) (T := TX2) (N := 7) hx hb hts (hin2) hown hK hP 0 rfl rfl 6 (by decide) (hts (.fieldLink RX2 23 "FifthBeatsModel" "off" "[I") (by decide +kernel)) (fun _ h9 => h9) rfl dX2_pass__41 ?_
          refine lv_astore_n (lv' := [(3, .ref o), (2, .int 0), (0, .ref h), (1, .int (nI q))]) hx hb dX2_pass__44 rfl hl (by decide) rfl (fun ls hl => ?_)
          refine lv_aload_n hx hb dX2_pass__45 rfl (lv_at hl 0 rfl) ?_
          refine va_alen hx hb hK hP 4 0 rfl rfl (v := 12) rfl dX2_pass__46 ?_
          refine lv_istore (lv' := [(4, .int 12), (3, .ref o), (2, .int 0), (0, .ref h), (1, .int (nI q))]) hx hb dX2_pass__47 hl (by decide) rfl (fun ls hl => ?_)
          refine lv_iconst (v := 0) hx hb dX2_pass__49 (by decide) ?_
          refine lv_istore (lv' := [(5, .int 0), (4, .int 12), (3, .ref o), (2, .int 0), (0, .ref h), (1, .int (nI q))]) hx hb dX2_pass__50 hl (by decide) rfl (fun ls hl => ?_)
          have lp52 : ∀ (n9 k : Nat), k ≤ 12 → 12 < k + n9 → ∀ (H : Heap) (locs : List Loc), va_P G vwCl [(h, .inr (2, [.int 0, .int (dy + nI q), .int (nI w), .ref n, .ref d, .ref f, .ref o])), (n, .inl (cI, 12, .inl pf)), (d, .inl (cI, 12, .inl df)), (f, .inl (cI, 12, .inl tf)), (o, .inl (cI, 12, .inl (fb_dy df uf q)))] H → va_D A [(h, .inr (2, [.int 0, .int (dy + nI q), .int (nI w), .ref n, .ref d, .ref f, .ref o])), (n, .inl (cI, 12, .inl pf)), (d, .inl (cI, 12, .inl df)), (f, .inl (cI, 12, .inl tf)), (o, .inl (cI, 12, .inl (fb_dy df uf q)))] → va_S A s.heap H locs → ∀ ls : Array Slot, lv_has ls 7 [(5, .int (nI k)), (2, .int (fb_mo (fb_rg (fb_dy df uf q)) k)), (4, .int 12), (3, .ref o), (0, .ref h), (1, .int (nI q))] → W p l e ({ frames := 3, cells := 0, slots := 0, locals := 62 }) s m args below meth c H locs 0 0 (MQ below (va_Qi (fun (r : Int32) (_ : Unit) => r = (fb_mo (fb_rg (fb_dy df uf q)) 12)) (fun _ t => va_P G vwCl (fb_MW cI h n d f o pf df tf (fb_dy df uf q) 0 (dy + nI q) (nI w)) t.heap ∧ va_D A (fb_MW cI h n d f o pf df tf (fb_dy df uf q) 0 (dy + nI q) (nI w))) A) args s 0 0 A) (F0 m 52 ls []) := by
            intro n9
            induction n9 with
            | zero => intro k h1 h2; exact absurd h2 (by omega)
            | succ n9 ih52 =>
              intro k hi_k hin9 H locs hP hD hS ls hl
              refine lv_iload hx hb dX2_pass__52 (lv_at hl 0 rfl) ?_
              refine lv_iload hx hb dX2_pass__54 (lv_at hl 2 rfl) ?_
              refine lv_icmp_ge (tgt := 81) hx hb dX2_pass__56 (by decide) (fun c56 => ?_) (fun c56 => ?_)
              · skip
                have hxk : k = 12 := fb_lp_ex (by decide) hi_k c56
                subst hxk
                refine lv_iload_n hx hb dX2_pass__81 rfl (lv_at hl 1 rfl) ?_
                have hP9 := hP.sub (ws' := [(h, .inr (2, [.int 0, .int (dy + nI q), .int (nI w), .ref n, .ref d, .ref f, .ref o])), (n, .inl (cI, 12, .inl pf)), (d, .inl (cI, 12, .inl df)), (f, .inl (cI, 12, .inl tf)), (o, .inl (cI, 12, .inl (fb_dy df uf q)))]) [0, 1, 2, 3, 4] (rfl)
                have hD9 := hD.sub (ws' := [(h, .inr (2, [.int 0, .int (dy + nI q), .int (nI w), .ref n, .ref d, .ref f, .ref o])), (n, .inl (cI, 12, .inl pf)), (d, .inl (cI, 12, .inl df)), (f, .inl (cI, 12, .inl tf)), (o, .inl (cI, 12, .inl (fb_dy df uf q)))]) [0, 1, 2, 3, 4] (by decide) (rfl)
                exact W.iret (v := fb_mo (fb_rg (fb_dy df uf q)) 12) hx hb hr (fun t ht hW => ⟨⟨fb_mo (fb_rg (fb_dy df uf q)) 12, (), rfl, rfl, by rw [ht]; exact hP9, hD9⟩, hS.F ht⟩) hS.2.2 dX2_pass__82 hlk
              · skip
                have hk12 : k < 12 := fb_lp_in (by decide) hi_k c56
                refine lv_aload_n hx hb dX2_pass__59 rfl (lv_at hl 3 rfl) ?_
                refine lv_iload hx hb dX2_pass__60 (lv_at hl 0 rfl) ?_
                refine va_iald hx hb hK hP 4 0 rfl rfl (vp_in_nI hk12 (by decide)) dX2_pass__62 ?_
                refine fb_ti (z := fb_rg (fb_dy df uf q) k) (by rw [fb_cl (by omega), fb_rg_lt hk12]) ?_
                refine lv_istore (lv' := [(6, .int (fb_rg (fb_dy df uf q) k)), (5, .int (nI k)), (2, .int (fb_mo (fb_rg (fb_dy df uf q)) k)), (4, .int 12), (3, .ref o), (0, .ref h), (1, .int (nI q))]) hx hb dX2_pass__63 hl (by decide) rfl (fun ls hl => ?_)
                refine lv_iload_n hx hb dX2_pass__65 rfl (lv_at hl 2 rfl) ?_
                refine lv_iload hx hb dX2_pass__66 (lv_at hl 0 rfl) ?_
                refine va_mabs hx hb (hml.trans hl.1.symm) hown (hts (.methodLink RX2 58 Lib.Math.abs.name) (by decide +kernel)) (hts (.static Lib.Math.abs.name) (by decide +kernel)) (hts (.initialized "java/lang/Math") (by decide +kernel)) (hts (.code Lib.Math.abs.name Lib.Math.abs.code 1 (some .int)) (by decide +kernel)) (Nat.le_of_ble_eq_true rfl) (Nat.le_of_ble_eq_true rfl) (Nat.zero_le _) (Nat.zero_le _) dX2_pass__68 ?_
                refine fb_ti (z := fb_ab (fb_rg (fb_dy df uf q) k)) rfl ?_
                refine va_mmax hx hb (hml.trans hl.1.symm) hown (hts (.methodLink RX2 39 Lib.Math.max.name) (by decide +kernel)) (hts (.static Lib.Math.max.name) (by decide +kernel)) (hts (.initialized "java/lang/Math") (by decide +kernel)) (hts (.code Lib.Math.max.name Lib.Math.max.code 2 (some .int)) (by decide +kernel)) (Nat.le_of_ble_eq_true rfl) (Nat.le_of_ble_eq_true rfl) (Nat.zero_le _) (Nat.zero_le _) dX2_pass__71 ?_
                refine fb_ti (z := fb_mx (fb_mo (fb_rg (fb_dy df uf q)) k) (fb_ab (fb_rg (fb_dy df uf q) k))) rfl ?_
                refine lv_istore_n (lv' := [(2, .int (fb_mx (fb_mo (fb_rg (fb_dy df uf q)) k) (fb_ab (fb_rg (fb_dy df uf q) k)))), (6, .int (fb_rg (fb_dy df uf q) k)), (5, .int (nI k)), (4, .int 12), (3, .ref o), (0, .ref h), (1, .int (nI q))]) hx hb dX2_pass__74 rfl hl (by decide) rfl (fun ls hl => ?_)
                refine lv_iinc (v := nI (k + 1)) (lv' := [(5, .int (nI (k + 1))), (2, .int (fb_mx (fb_mo (fb_rg (fb_dy df uf q)) k) (fb_ab (fb_rg (fb_dy df uf q) k)))), (6, .int (fb_rg (fb_dy df uf q) k)), (4, .int 12), (3, .ref o), (0, .ref h), (1, .int (nI q))]) hx hb dX2_pass__75 hl (k := 2) rfl (show nI k + 1 = nI (k + 1) from nI_1 k) (by decide) rfl (fun ls hl => ?_)
                refine lv_goto (tgt := 52) hx hb dX2_pass__78 (by decide) ?_
                exact ih52 (k + 1) (by omega) (by omega) _ _ (hP) (hD) hS _ (lv_sub hl [0, 1, 3, 4, 5, 6] (rfl))
          exact lp52 (12 + 1) 0 (by omega) (by omega) _ _ (hP) (hD) hS _ (lv_sub hl [0, 3, 1, 2, 4, 5] (rfl))
        · skip
          have hi12 : i < q := fb_lp_in (by omega) hi_i c25
          refine lv_aload_n hx hb dX2_pass__28 rfl (lv_at hl 1 rfl) ?_
          refine fb_mvV (As := []) (rest := []) (n := 0) (wr := []) (wz := [(h, .inr (2, [.int 0, .int ((dy + nI i) + 1), .int (nI w), .ref n, .ref d, .ref f, .ref o])), (n, .inl (cI, 12, .inl pf)), (d, .inl (cI, 12, .inl df)), (f, .inl (cI, 12, .inl tf)), (o, .inl (cI, 12, .inl (fb_pa df (fb_dy df uf i) 12)))]) ⟨hx, hb, hml, hown, hts⟩ (fb_c_X2_pass l G cI cL h n d f o pf df tf (fb_dy df uf i) 0 (dy + nI i) w  _) gX2_pass__X2_pass rfl (by decide +kernel) (by decide) (va_recv hK hP (ci := 2) (q0 := 0) rfl rfl) hP hK hD hS hA hX [0, 1, 2, 3, 4] [] [0, 1, 2, 3, 4] rfl rfl rfl rfl rfl rfl (by decide) rfl hl.1 rfl (Nat.le_of_ble_eq_true rfl) dX2_pass__29 (by decide) (fun H locs hP hD hS => ?_)
          refine lv_iinc (v := nI (i + 1)) (lv' := [(2, .int (nI (i + 1))), (0, .ref h), (1, .int (nI q))]) hx hb dX2_pass__32 hl (k := 0) rfl (show nI i + 1 = nI (i + 1) from nI_1 i) (by decide) rfl (fun ls hl => ?_)
          refine lv_goto (tgt := 23) hx hb dX2_pass__35 (by decide) ?_
          exact ih23 (i + 1) (by omega) (by omega) _ _ (by rw [show dy + nI (i + 1) = dy + nI i + 1 from by rw [nI_succ, Int32.add_assoc]]; exact hP) (by rw [show dy + nI (i + 1) = dy + nI i + 1 from by rw [nI_succ, Int32.add_assoc]]; exact hD) hS _ (lv_sub hl [0, 1, 2] (rfl))
    exact lp23 (q + 1) 0 (by omega) (by omega) _ _ (by rw [show dy + nI 0 = dy from fb_a0 dy]; exact hP) (by rw [show dy + nI 0 = dy from fb_a0 dy]; exact hD) hS _ (lv_sub hl [0, 1, 2] (rfl))
  · skip
    first | exact absurd c12 (by decide) | exact absurd (by decide) c12
set_option maxHeartbeats 4000000 in
set_option maxRecDepth 100000 in
theorem fb_c_X2_pass_b1 (l : Launch) (G : va_G) (cI cL : ClassId) (h n d f o : Nat) (pf df tf uf : Nat → Int32) (th dy : Int32) (w : Nat) (p0 : Int32) (hp : p0 < 1 ∨ 100 < p0) (sz : Nat) : fb_MI l yX2_pass_ wsX2_pass_ 3 62 [.ref h, .int p0] G cI cL sz (fb_MW cI h n d f o pf df tf uf th dy (nI w)) (fb_MW cI h n d f o pf df tf uf 1 dy (nI w)) 0 := by
  refine fb_mi_of (cc := cX2_pass_) (maxL := 7) (ret := (some .int)) (by decide) rfl (Nat.le_of_ble_eq_true rfl) ?_
  intro p e s m args below meth c A hx hb hr hml hlk hts hown hP hK hD hA hX ls hl
  have hown : s.vm.findClass RX2 = some m.cls := hown
  have hP : va_P G vwCl [(h, .inr (2, [.int th, .int dy, .int (nI w), .ref n, .ref d, .ref f, .ref o])), (n, .inl (cI, 12, .inl pf)), (d, .inl (cI, 12, .inl df)), (f, .inl (cI, 12, .inl tf)), (o, .inl (cI, 12, .inl uf))] s.heap := hP
  have hD : va_D A [(h, .inr (2, [.int th, .int dy, .int (nI w), .ref n, .ref d, .ref f, .ref o])), (n, .inl (cI, 12, .inl pf)), (d, .inl (cI, 12, .inl df)), (f, .inl (cI, 12, .inl tf)), (o, .inl (cI, 12, .inl uf))] := hD
  have hS : va_S A s.heap s.heap [] := va_S.rf
  have hXn : ∀ (H : Heap) (locs : List Loc), va_S A s.heap H locs → fb_sx (fun _ => False) s H := fun H locs h9 => (hX.kept h9.2.1).narrow (fun _ z => z.elim)
  have hl : lv_has ls 7 [(0, .ref h), (1, .int p0)] := hl
  have hin2 : ∀ w ∈ u_ws RX2 TX2 7, w ∈ wsX2_pass_ := by decide +kernel
  refine lv_aload_n hx hb dX2_pass__0 rfl (lv_at hl 0 rfl) ?_
  refine lv_iconst (v := 0) hx hb dX2_pass__1 (by decide) ?_
  refine va_put (D := G) (ci := 2) (v := .int 0) (ty := .int) (C := RX2) (T := TX2) (N := 7) hx hb hts (hin2) tyX2 tyX2_ok nmX2 hown hK hP hD hS 0 rfl rfl 0 (by decide) (hts (.fieldLink RX2 26 "FifthBeatsModel" "thrown" "I") (by decide +kernel)) (fun _ h9 => h9) rfl (by decide +kernel) rfl rfl (Nat.le_of_ble_eq_true rfl) dX2_pass__2 (fun H locs hP hD hS => ?_)
  have hP : va_P G vwCl [(h, .inr (2, [.int 0, .int dy, .int (nI w), .ref n, .ref d, .ref f, .ref o])), (n, .inl (cI, 12, .inl pf)), (d, .inl (cI, 12, .inl df)), (f, .inl (cI, 12, .inl tf)), (o, .inl (cI, 12, .inl uf))] H := hP
  have hD : va_D A [(h, .inr (2, [.int 0, .int dy, .int (nI w), .ref n, .ref d, .ref f, .ref o])), (n, .inl (cI, 12, .inl pf)), (d, .inl (cI, 12, .inl df)), (f, .inl (cI, 12, .inl tf)), (o, .inl (cI, 12, .inl uf))] := hD
  refine lv_iload_n hx hb dX2_pass__5 rfl (lv_at hl 1 rfl) ?_
  refine lv_iconst (v := 1) hx hb dX2_pass__6 (by decide) ?_
  refine lv_bipush (v := 100) hx hb dX2_pass__7 (by decide) ?_
  refine fb_roS (As := [.int p0, .int 1, .int 100]) (rest := []) (n := 3) ⟨hx, hb, hml, hown, hts⟩ (fb_c_X2_isIn l p0 1 100) gX2_pass__X2_isIn rfl (by decide +kernel) (by decide) fb_Bl_T (fun _ _ _ => trivial) rfl hl.1 rfl (Nat.le_of_ble_eq_true rfl) dX2_pass__9 (by decide) ?_
  refine fb_ti (z := 0) (fb_ii_0 hp) ?_
  refine lv_if_ne (tgt := 21) hx hb dX2_pass__12 (by decide) (fun c12 => ?_) (fun c12 => ?_)
  · skip
    first | exact absurd c12 (by decide) | exact absurd (by decide) c12
  · skip
    refine lv_aload_n hx hb dX2_pass__15 rfl (lv_at hl 0 rfl) ?_
    refine lv_iconst (v := 1) hx hb dX2_pass__16 (by decide) ?_
    refine fb_miV (As := [.int 1]) (rest := []) (n := 1) (wr := []) (wz := [(h, .inr (2, [.int 1, .int dy, .int (nI w), .ref n, .ref d, .ref f, .ref o])), (n, .inl (cI, 12, .inl pf)), (d, .inl (cI, 12, .inl df)), (f, .inl (cI, 12, .inl tf)), (o, .inl (cI, 12, .inl uf))]) ⟨hx, hb, hml, hown, hts⟩ (fb_c_X2_no l G cI cL h n d f o pf df tf uf 0 dy w 1 _) gX2_pass__X2_no rfl (by decide +kernel) (by decide) (va_recv hK hP (ci := 2) (q0 := 0) rfl rfl) hP hK hD hS hA hX [0, 1, 2, 3, 4] [] [0, 1, 2, 3, 4] rfl rfl rfl rfl rfl rfl (by decide) rfl hl.1 rfl (Nat.le_of_ble_eq_true rfl) dX2_pass__17 (by decide) (fun H locs hP hD hS => ?_)
    have hP9 := hP.sub (ws' := [(h, .inr (2, [.int 1, .int dy, .int (nI w), .ref n, .ref d, .ref f, .ref o])), (n, .inl (cI, 12, .inl pf)), (d, .inl (cI, 12, .inl df)), (f, .inl (cI, 12, .inl tf)), (o, .inl (cI, 12, .inl uf))]) [0, 1, 2, 3, 4] (rfl)
    have hD9 := hD.sub (ws' := [(h, .inr (2, [.int 1, .int dy, .int (nI w), .ref n, .ref d, .ref f, .ref o])), (n, .inl (cI, 12, .inl pf)), (d, .inl (cI, 12, .inl df)), (f, .inl (cI, 12, .inl tf)), (o, .inl (cI, 12, .inl uf))]) [0, 1, 2, 3, 4] (by decide) (rfl)
    exact W.iret (v := 0) hx hb hr (fun t ht hW => ⟨⟨0, (), rfl, rfl, by rw [ht]; exact hP9, hD9⟩, hS.F ht⟩) hS.2.2 dX2_pass__20 hlk
set_option maxHeartbeats 4000000 in
set_option maxRecDepth 100000 in
theorem fb_c_X2_setFifth_ok (l : Launch) (G : va_G) (cI cL : ClassId) (h n d f o : Nat) (pf df tf uf : Nat → Int32) (th dy : Int32) (w : Nat) (j : Nat) (v : Int32) (hj : j < 12) (h2 : ¬ (v < (-10) ∨ 20 < v)) (hjw : ¬ j = w) (hw : w < 12) (sz : Nat) : fb_MI l yX2_setFifth wsX2_setFifth 2 42 [.ref h, .int (nI j), .int v] G cI cL sz (fb_MW cI h n d f o pf df tf uf th dy (nI w)) (fb_MW cI h n d f o (upd pf j v) df tf uf 0 dy (nI w)) (fb_rg pf j) := by
  refine fb_mi_of (cc := cX2_setFifth) (maxL := 4) (ret := (some .int)) (by decide) rfl (Nat.le_of_ble_eq_true rfl) ?_
  intro p e s m args below meth c A hx hb hr hml hlk hts hown hP hK hD hA hX ls hl
  have hown : s.vm.findClass RX2 = some m.cls := hown
  have hP : va_P G vwCl [(h, .inr (2, [.int th, .int dy, .int (nI w), .ref n, .ref d, .ref f, .ref o])), (n, .inl (cI, 12, .inl pf)), (d, .inl (cI, 12, .inl df)), (f, .inl (cI, 12, .inl tf)), (o, .inl (cI, 12, .inl uf))] s.heap := hP
  have hD : va_D A [(h, .inr (2, [.int th, .int dy, .int (nI w), .ref n, .ref d, .ref f, .ref o])), (n, .inl (cI, 12, .inl pf)), (d, .inl (cI, 12, .inl df)), (f, .inl (cI, 12, .inl tf)), (o, .inl (cI, 12, .inl uf))] := hD
  have hS : va_S A s.heap s.heap [] := va_S.rf
  have hXn : ∀ (H : Heap) (locs : List Loc), va_S A s.heap H locs → fb_sx (fun _ => False) s H := fun H locs h9 => (hX.kept h9.2.1).narrow (fun _ z => z.elim)
  have hl : lv_has ls 4 [(0, .ref h), (1, .int (nI j)), (2, .int v)] := hl
  have hin2 : ∀ w ∈ u_ws RX2 TX2 7, w ∈ wsX2_setFifth := by decide +kernel
  refine lv_aload_n hx hb dX2_setFifth_0 rfl (lv_at hl 0 rfl) ?_
  refine lv_iconst (v := 0) hx hb dX2_setFifth_1 (by decide) ?_
  refine va_put (D := G) (ci := 2) (v := .int 0) (ty := .int) (C := RX2) (T := TX2) (N := 7) hx hb hts (hin2) tyX2 tyX2_ok nmX2 hown hK hP hD hS 0 rfl rfl 0 (by decide) (hts (.fieldLink RX2 26 "FifthBeatsModel" "thrown" "I") (by decide +kernel)) (fun _ h9 => h9) rfl (by decide +kernel) rfl rfl (Nat.le_of_ble_eq_true rfl) dX2_setFifth_2 (fun H locs hP hD hS => ?_)
  have hP : va_P G vwCl [(h, .inr (2, [.int 0, .int dy, .int (nI w), .ref n, .ref d, .ref f, .ref o])), (n, .inl (cI, 12, .inl pf)), (d, .inl (cI, 12, .inl df)), (f, .inl (cI, 12, .inl tf)), (o, .inl (cI, 12, .inl uf))] H := hP
  have hD : va_D A [(h, .inr (2, [.int 0, .int dy, .int (nI w), .ref n, .ref d, .ref f, .ref o])), (n, .inl (cI, 12, .inl pf)), (d, .inl (cI, 12, .inl df)), (f, .inl (cI, 12, .inl tf)), (o, .inl (cI, 12, .inl uf))] := hD
  refine lv_iload_n hx hb dX2_setFifth_5 rfl (lv_at hl 1 rfl) ?_
  refine fb_roS (As := [.int (nI j)]) (rest := []) (n := 1) ⟨hx, hb, hml, hown, hts⟩ (fb_c_X2_isOne l (nI j)) gX2_setFifth_X2_isOne rfl (by decide +kernel) (by decide) fb_Bl_T (fun _ _ _ => trivial) rfl hl.1 rfl (Nat.le_of_ble_eq_true rfl) dX2_setFifth_6 (by decide) ?_
  refine fb_ti (z := 1) (fb_ii_j hj) ?_
  refine lv_if_ne (tgt := 18) hx hb dX2_setFifth_9 (by decide) (fun c9 => ?_) (fun c9 => ?_)
  · skip
    refine lv_iload_n hx hb dX2_setFifth_18 rfl (lv_at hl 2 rfl) ?_
    refine lv_bipush (v := (-10)) hx hb dX2_setFifth_19 (by decide) ?_
    refine lv_bipush (v := 20) hx hb dX2_setFifth_21 (by decide) ?_
    refine fb_roS (As := [.int v, .int (-10), .int 20]) (rest := []) (n := 3) ⟨hx, hb, hml, hown, hts⟩ (fb_c_X2_isIn l v (-10) 20) gX2_setFifth_X2_isIn rfl (by decide +kernel) (by decide) fb_Bl_T (fun _ _ _ => trivial) rfl hl.1 rfl (Nat.le_of_ble_eq_true rfl) dX2_setFifth_23 (by decide) ?_
    refine fb_ti (z := 1) (fb_ii_1 h2) ?_
    refine lv_if_ne (tgt := 35) hx hb dX2_setFifth_26 (by decide) (fun c26 => ?_) (fun c26 => ?_)
    · skip
      refine lv_iload_n hx hb dX2_setFifth_35 rfl (lv_at hl 1 rfl) ?_
      refine lv_aload_n hx hb dX2_setFifth_36 rfl (lv_at hl 0 rfl) ?_
      refine va_get (D := G) (ci := 2) (v := .int (nI w)) (C := RX2) (T := TX2) (N := 7) hx hb hts (hin2) hown hK hP 0 rfl rfl 2 (by decide) (hts (.fieldLink RX2 7 "FifthBeatsModel" "wolf" "I") (by decide +kernel)) (fun _ h9 => h9) rfl dX2_setFifth_37 ?_
      refine lv_icmp_ne (tgt := 49) hx hb dX2_setFifth_40 (by decide) (fun c40 => ?_) (fun c40 => ?_)
      · skip
        refine lv_aload_n hx hb dX2_setFifth_49 rfl (lv_at hl 0 rfl) ?_
        refine va_get (D := G) (ci := 2) (v := .ref n) (C := RX2) (T := TX2) (N := 7) hx hb hts (hin2) hown hK hP 0 rfl rfl 3 (by decide) (hts (.fieldLink RX2 13 "FifthBeatsModel" "plan" "[I") (by decide +kernel)) (fun _ h9 => h9) rfl dX2_setFifth_50 ?_
        refine lv_iload_n hx hb dX2_setFifth_53 rfl (lv_at hl 1 rfl) ?_
        refine va_iald hx hb hK hP 1 0 rfl rfl (vp_in_nI hj (by decide)) dX2_setFifth_54 ?_
        refine fb_ti (z := fb_rg pf j) (by rw [fb_cl (by omega), fb_rg_lt hj]) ?_
        refine lv_istore_n (lv' := [(3, .int (fb_rg pf j)), (0, .ref h), (1, .int (nI j)), (2, .int v)]) hx hb dX2_setFifth_55 rfl hl (by decide) rfl (fun ls hl => ?_)
        refine lv_aload_n hx hb dX2_setFifth_56 rfl (lv_at hl 1 rfl) ?_
        refine va_get (D := G) (ci := 2) (v := .ref n) (C := RX2) (T := TX2) (N := 7) hx hb hts (hin2) hown hK hP 0 rfl rfl 3 (by decide) (hts (.fieldLink RX2 13 "FifthBeatsModel" "plan" "[I") (by decide +kernel)) (fun _ h9 => h9) rfl dX2_setFifth_57 ?_
        refine lv_iload_n hx hb dX2_setFifth_60 rfl (lv_at hl 2 rfl) ?_
        refine lv_iload_n hx hb dX2_setFifth_61 rfl (lv_at hl 3 rfl) ?_
        refine va_iast hx hb hK hP hD hS 1 0 rfl rfl (vp_in_nI hj (by decide)) dX2_setFifth_62 (fun H locs hP hD hS => ?_)
        rw [show (nI j).toNatClampNeg = j from fb_cl (by omega)] at hP hD
        have hP : va_P G vwCl [(h, .inr (2, [.int 0, .int dy, .int (nI w), .ref n, .ref d, .ref f, .ref o])), (n, .inl (cI, 12, .inl (upd pf j v))), (d, .inl (cI, 12, .inl df)), (f, .inl (cI, 12, .inl tf)), (o, .inl (cI, 12, .inl uf))] H := hP
        have hD : va_D A [(h, .inr (2, [.int 0, .int dy, .int (nI w), .ref n, .ref d, .ref f, .ref o])), (n, .inl (cI, 12, .inl (upd pf j v))), (d, .inl (cI, 12, .inl df)), (f, .inl (cI, 12, .inl tf)), (o, .inl (cI, 12, .inl uf))] := hD
        refine lv_iload_n hx hb dX2_setFifth_63 rfl (lv_at hl 0 rfl) ?_
        have hP9 := hP.sub (ws' := [(h, .inr (2, [.int 0, .int dy, .int (nI w), .ref n, .ref d, .ref f, .ref o])), (n, .inl (cI, 12, .inl (upd pf j v))), (d, .inl (cI, 12, .inl df)), (f, .inl (cI, 12, .inl tf)), (o, .inl (cI, 12, .inl uf))]) [0, 1, 2, 3, 4] (rfl)
        have hD9 := hD.sub (ws' := [(h, .inr (2, [.int 0, .int dy, .int (nI w), .ref n, .ref d, .ref f, .ref o])), (n, .inl (cI, 12, .inl (upd pf j v))), (d, .inl (cI, 12, .inl df)), (f, .inl (cI, 12, .inl tf)), (o, .inl (cI, 12, .inl uf))]) [0, 1, 2, 3, 4] (by decide) (rfl)
        exact W.iret (v := fb_rg pf j) hx hb hr (fun t ht hW => ⟨⟨fb_rg pf j, (), rfl, rfl, by rw [ht]; exact hP9, hD9⟩, hS.F ht⟩) hS.2.2 dX2_setFifth_64 hlk
      · skip
        exact absurd ((nI_eq (by omega) (by omega)).mp c40) hjw
    · skip
      first | exact absurd c26 (by decide) | exact absurd (by decide) c26
  · skip
    first | exact absurd c9 (by decide) | exact absurd (by decide) c9
set_option maxHeartbeats 4000000 in
set_option maxRecDepth 100000 in
theorem fb_c_X2_setFifth_b1 (l : Launch) (G : va_G) (cI cL : ClassId) (h n d f o : Nat) (pf df tf uf : Nat → Int32) (th dy : Int32) (w : Nat) (p0 : Int32) (v : Int32) (hp : p0 < 0 ∨ 11 < p0) (sz : Nat) : fb_MI l yX2_setFifth wsX2_setFifth 2 42 [.ref h, .int p0, .int v] G cI cL sz (fb_MW cI h n d f o pf df tf uf th dy (nI w)) (fb_MW cI h n d f o pf df tf uf 1 dy (nI w)) 0 := by
  refine fb_mi_of (cc := cX2_setFifth) (maxL := 4) (ret := (some .int)) (by decide) rfl (Nat.le_of_ble_eq_true rfl) ?_
  intro p e s m args below meth c A hx hb hr hml hlk hts hown hP hK hD hA hX ls hl
  have hown : s.vm.findClass RX2 = some m.cls := hown
  have hP : va_P G vwCl [(h, .inr (2, [.int th, .int dy, .int (nI w), .ref n, .ref d, .ref f, .ref o])), (n, .inl (cI, 12, .inl pf)), (d, .inl (cI, 12, .inl df)), (f, .inl (cI, 12, .inl tf)), (o, .inl (cI, 12, .inl uf))] s.heap := hP
  have hD : va_D A [(h, .inr (2, [.int th, .int dy, .int (nI w), .ref n, .ref d, .ref f, .ref o])), (n, .inl (cI, 12, .inl pf)), (d, .inl (cI, 12, .inl df)), (f, .inl (cI, 12, .inl tf)), (o, .inl (cI, 12, .inl uf))] := hD
  have hS : va_S A s.heap s.heap [] := va_S.rf
  have hXn : ∀ (H : Heap) (locs : List Loc), va_S A s.heap H locs → fb_sx (fun _ => False) s H := fun H locs h9 => (hX.kept h9.2.1).narrow (fun _ z => z.elim)
  have hl : lv_has ls 4 [(0, .ref h), (1, .int p0), (2, .int v)] := hl
  have hin2 : ∀ w ∈ u_ws RX2 TX2 7, w ∈ wsX2_setFifth := by decide +kernel
  refine lv_aload_n hx hb dX2_setFifth_0 rfl (lv_at hl 0 rfl) ?_
  refine lv_iconst (v := 0) hx hb dX2_setFifth_1 (by decide) ?_
  refine va_put (D := G) (ci := 2) (v := .int 0) (ty := .int) (C := RX2) (T := TX2) (N := 7) hx hb hts (hin2) tyX2 tyX2_ok nmX2 hown hK hP hD hS 0 rfl rfl 0 (by decide) (hts (.fieldLink RX2 26 "FifthBeatsModel" "thrown" "I") (by decide +kernel)) (fun _ h9 => h9) rfl (by decide +kernel) rfl rfl (Nat.le_of_ble_eq_true rfl) dX2_setFifth_2 (fun H locs hP hD hS => ?_)
  have hP : va_P G vwCl [(h, .inr (2, [.int 0, .int dy, .int (nI w), .ref n, .ref d, .ref f, .ref o])), (n, .inl (cI, 12, .inl pf)), (d, .inl (cI, 12, .inl df)), (f, .inl (cI, 12, .inl tf)), (o, .inl (cI, 12, .inl uf))] H := hP
  have hD : va_D A [(h, .inr (2, [.int 0, .int dy, .int (nI w), .ref n, .ref d, .ref f, .ref o])), (n, .inl (cI, 12, .inl pf)), (d, .inl (cI, 12, .inl df)), (f, .inl (cI, 12, .inl tf)), (o, .inl (cI, 12, .inl uf))] := hD
  refine lv_iload_n hx hb dX2_setFifth_5 rfl (lv_at hl 1 rfl) ?_
  refine fb_roS (As := [.int p0]) (rest := []) (n := 1) ⟨hx, hb, hml, hown, hts⟩ (fb_c_X2_isOne l p0) gX2_setFifth_X2_isOne rfl (by decide +kernel) (by decide) fb_Bl_T (fun _ _ _ => trivial) rfl hl.1 rfl (Nat.le_of_ble_eq_true rfl) dX2_setFifth_6 (by decide) ?_
  refine fb_ti (z := 0) (fb_ii_0 hp) ?_
  refine lv_if_ne (tgt := 18) hx hb dX2_setFifth_9 (by decide) (fun c9 => ?_) (fun c9 => ?_)
  · skip
    first | exact absurd c9 (by decide) | exact absurd (by decide) c9
  · skip
    refine lv_aload_n hx hb dX2_setFifth_12 rfl (lv_at hl 0 rfl) ?_
    refine lv_iconst (v := 1) hx hb dX2_setFifth_13 (by decide) ?_
    refine fb_miV (As := [.int 1]) (rest := []) (n := 1) (wr := []) (wz := [(h, .inr (2, [.int 1, .int dy, .int (nI w), .ref n, .ref d, .ref f, .ref o])), (n, .inl (cI, 12, .inl pf)), (d, .inl (cI, 12, .inl df)), (f, .inl (cI, 12, .inl tf)), (o, .inl (cI, 12, .inl uf))]) ⟨hx, hb, hml, hown, hts⟩ (fb_c_X2_no l G cI cL h n d f o pf df tf uf 0 dy w 1 _) gX2_setFifth_X2_no rfl (by decide +kernel) (by decide) (va_recv hK hP (ci := 2) (q0 := 0) rfl rfl) hP hK hD hS hA hX [0, 1, 2, 3, 4] [] [0, 1, 2, 3, 4] rfl rfl rfl rfl rfl rfl (by decide) rfl hl.1 rfl (Nat.le_of_ble_eq_true rfl) dX2_setFifth_14 (by decide) (fun H locs hP hD hS => ?_)
    have hP9 := hP.sub (ws' := [(h, .inr (2, [.int 1, .int dy, .int (nI w), .ref n, .ref d, .ref f, .ref o])), (n, .inl (cI, 12, .inl pf)), (d, .inl (cI, 12, .inl df)), (f, .inl (cI, 12, .inl tf)), (o, .inl (cI, 12, .inl uf))]) [0, 1, 2, 3, 4] (rfl)
    have hD9 := hD.sub (ws' := [(h, .inr (2, [.int 1, .int dy, .int (nI w), .ref n, .ref d, .ref f, .ref o])), (n, .inl (cI, 12, .inl pf)), (d, .inl (cI, 12, .inl df)), (f, .inl (cI, 12, .inl tf)), (o, .inl (cI, 12, .inl uf))]) [0, 1, 2, 3, 4] (by decide) (rfl)
    exact W.iret (v := 0) hx hb hr (fun t ht hW => ⟨⟨0, (), rfl, rfl, by rw [ht]; exact hP9, hD9⟩, hS.F ht⟩) hS.2.2 dX2_setFifth_17 hlk
set_option maxHeartbeats 4000000 in
set_option maxRecDepth 100000 in
theorem fb_c_X2_setFifth_b2 (l : Launch) (G : va_G) (cI cL : ClassId) (h n d f o : Nat) (pf df tf uf : Nat → Int32) (th dy : Int32) (w : Nat) (j : Nat) (v : Int32) (hj : j < 12) (h2 : v < (-10) ∨ 20 < v) (sz : Nat) : fb_MI l yX2_setFifth wsX2_setFifth 2 42 [.ref h, .int (nI j), .int v] G cI cL sz (fb_MW cI h n d f o pf df tf uf th dy (nI w)) (fb_MW cI h n d f o pf df tf uf 2 dy (nI w)) 0 := by
  refine fb_mi_of (cc := cX2_setFifth) (maxL := 4) (ret := (some .int)) (by decide) rfl (Nat.le_of_ble_eq_true rfl) ?_
  intro p e s m args below meth c A hx hb hr hml hlk hts hown hP hK hD hA hX ls hl
  have hown : s.vm.findClass RX2 = some m.cls := hown
  have hP : va_P G vwCl [(h, .inr (2, [.int th, .int dy, .int (nI w), .ref n, .ref d, .ref f, .ref o])), (n, .inl (cI, 12, .inl pf)), (d, .inl (cI, 12, .inl df)), (f, .inl (cI, 12, .inl tf)), (o, .inl (cI, 12, .inl uf))] s.heap := hP
  have hD : va_D A [(h, .inr (2, [.int th, .int dy, .int (nI w), .ref n, .ref d, .ref f, .ref o])), (n, .inl (cI, 12, .inl pf)), (d, .inl (cI, 12, .inl df)), (f, .inl (cI, 12, .inl tf)), (o, .inl (cI, 12, .inl uf))] := hD
  have hS : va_S A s.heap s.heap [] := va_S.rf
  have hXn : ∀ (H : Heap) (locs : List Loc), va_S A s.heap H locs → fb_sx (fun _ => False) s H := fun H locs h9 => (hX.kept h9.2.1).narrow (fun _ z => z.elim)
  have hl : lv_has ls 4 [(0, .ref h), (1, .int (nI j)), (2, .int v)] := hl
  have hin2 : ∀ w ∈ u_ws RX2 TX2 7, w ∈ wsX2_setFifth := by decide +kernel
  refine lv_aload_n hx hb dX2_setFifth_0 rfl (lv_at hl 0 rfl) ?_
  refine lv_iconst (v := 0) hx hb dX2_setFifth_1 (by decide) ?_
  refine va_put (D := G) (ci := 2) (v := .int 0) (ty := .int) (C := RX2) (T := TX2) (N := 7) hx hb hts (hin2) tyX2 tyX2_ok nmX2 hown hK hP hD hS 0 rfl rfl 0 (by decide) (hts (.fieldLink RX2 26 "FifthBeatsModel" "thrown" "I") (by decide +kernel)) (fun _ h9 => h9) rfl (by decide +kernel) rfl rfl (Nat.le_of_ble_eq_true rfl) dX2_setFifth_2 (fun H locs hP hD hS => ?_)
  have hP : va_P G vwCl [(h, .inr (2, [.int 0, .int dy, .int (nI w), .ref n, .ref d, .ref f, .ref o])), (n, .inl (cI, 12, .inl pf)), (d, .inl (cI, 12, .inl df)), (f, .inl (cI, 12, .inl tf)), (o, .inl (cI, 12, .inl uf))] H := hP
  have hD : va_D A [(h, .inr (2, [.int 0, .int dy, .int (nI w), .ref n, .ref d, .ref f, .ref o])), (n, .inl (cI, 12, .inl pf)), (d, .inl (cI, 12, .inl df)), (f, .inl (cI, 12, .inl tf)), (o, .inl (cI, 12, .inl uf))] := hD
  refine lv_iload_n hx hb dX2_setFifth_5 rfl (lv_at hl 1 rfl) ?_
  refine fb_roS (As := [.int (nI j)]) (rest := []) (n := 1) ⟨hx, hb, hml, hown, hts⟩ (fb_c_X2_isOne l (nI j)) gX2_setFifth_X2_isOne rfl (by decide +kernel) (by decide) fb_Bl_T (fun _ _ _ => trivial) rfl hl.1 rfl (Nat.le_of_ble_eq_true rfl) dX2_setFifth_6 (by decide) ?_
  refine fb_ti (z := 1) (fb_ii_j hj) ?_
  refine lv_if_ne (tgt := 18) hx hb dX2_setFifth_9 (by decide) (fun c9 => ?_) (fun c9 => ?_)
  · skip
    refine lv_iload_n hx hb dX2_setFifth_18 rfl (lv_at hl 2 rfl) ?_
    refine lv_bipush (v := (-10)) hx hb dX2_setFifth_19 (by decide) ?_
    refine lv_bipush (v := 20) hx hb dX2_setFifth_21 (by decide) ?_
    refine fb_roS (As := [.int v, .int (-10), .int 20]) (rest := []) (n := 3) ⟨hx, hb, hml, hown, hts⟩ (fb_c_X2_isIn l v (-10) 20) gX2_setFifth_X2_isIn rfl (by decide +kernel) (by decide) fb_Bl_T (fun _ _ _ => trivial) rfl hl.1 rfl (Nat.le_of_ble_eq_true rfl) dX2_setFifth_23 (by decide) ?_
    refine fb_ti (z := 0) (fb_ii_0 h2) ?_
    refine lv_if_ne (tgt := 35) hx hb dX2_setFifth_26 (by decide) (fun c26 => ?_) (fun c26 => ?_)
    · skip
      first | exact absurd c26 (by decide) | exact absurd (by decide) c26
    · skip
      refine lv_aload_n hx hb dX2_setFifth_29 rfl (lv_at hl 0 rfl) ?_
      refine lv_iconst (v := 2) hx hb dX2_setFifth_30 (by decide) ?_
      refine fb_miV (As := [.int 2]) (rest := []) (n := 1) (wr := []) (wz := [(h, .inr (2, [.int 2, .int dy, .int (nI w), .ref n, .ref d, .ref f, .ref o])), (n, .inl (cI, 12, .inl pf)), (d, .inl (cI, 12, .inl df)), (f, .inl (cI, 12, .inl tf)), (o, .inl (cI, 12, .inl uf))]) ⟨hx, hb, hml, hown, hts⟩ (fb_c_X2_no l G cI cL h n d f o pf df tf uf 0 dy w 2 _) gX2_setFifth_X2_no rfl (by decide +kernel) (by decide) (va_recv hK hP (ci := 2) (q0 := 0) rfl rfl) hP hK hD hS hA hX [0, 1, 2, 3, 4] [] [0, 1, 2, 3, 4] rfl rfl rfl rfl rfl rfl (by decide) rfl hl.1 rfl (Nat.le_of_ble_eq_true rfl) dX2_setFifth_31 (by decide) (fun H locs hP hD hS => ?_)
      have hP9 := hP.sub (ws' := [(h, .inr (2, [.int 2, .int dy, .int (nI w), .ref n, .ref d, .ref f, .ref o])), (n, .inl (cI, 12, .inl pf)), (d, .inl (cI, 12, .inl df)), (f, .inl (cI, 12, .inl tf)), (o, .inl (cI, 12, .inl uf))]) [0, 1, 2, 3, 4] (rfl)
      have hD9 := hD.sub (ws' := [(h, .inr (2, [.int 2, .int dy, .int (nI w), .ref n, .ref d, .ref f, .ref o])), (n, .inl (cI, 12, .inl pf)), (d, .inl (cI, 12, .inl df)), (f, .inl (cI, 12, .inl tf)), (o, .inl (cI, 12, .inl uf))]) [0, 1, 2, 3, 4] (by decide) (rfl)
      exact W.iret (v := 0) hx hb hr (fun t ht hW => ⟨⟨0, (), rfl, rfl, by rw [ht]; exact hP9, hD9⟩, hS.F ht⟩) hS.2.2 dX2_setFifth_34 hlk
  · skip
    first | exact absurd c9 (by decide) | exact absurd (by decide) c9
set_option maxHeartbeats 4000000 in
set_option maxRecDepth 100000 in
theorem fb_c_X2_setFifth_b3 (l : Launch) (G : va_G) (cI cL : ClassId) (h n d f o : Nat) (pf df tf uf : Nat → Int32) (th dy : Int32) (w : Nat) (j : Nat) (v : Int32) (hj : j < 12) (h2 : ¬ (v < (-10) ∨ 20 < v)) (hjw : j = w) (sz : Nat) : fb_MI l yX2_setFifth wsX2_setFifth 2 42 [.ref h, .int (nI j), .int v] G cI cL sz (fb_MW cI h n d f o pf df tf uf th dy (nI w)) (fb_MW cI h n d f o pf df tf uf 3 dy (nI w)) 0 := by
  refine fb_mi_of (cc := cX2_setFifth) (maxL := 4) (ret := (some .int)) (by decide) rfl (Nat.le_of_ble_eq_true rfl) ?_
  intro p e s m args below meth c A hx hb hr hml hlk hts hown hP hK hD hA hX ls hl
  have hown : s.vm.findClass RX2 = some m.cls := hown
  have hP : va_P G vwCl [(h, .inr (2, [.int th, .int dy, .int (nI w), .ref n, .ref d, .ref f, .ref o])), (n, .inl (cI, 12, .inl pf)), (d, .inl (cI, 12, .inl df)), (f, .inl (cI, 12, .inl tf)), (o, .inl (cI, 12, .inl uf))] s.heap := hP
  have hD : va_D A [(h, .inr (2, [.int th, .int dy, .int (nI w), .ref n, .ref d, .ref f, .ref o])), (n, .inl (cI, 12, .inl pf)), (d, .inl (cI, 12, .inl df)), (f, .inl (cI, 12, .inl tf)), (o, .inl (cI, 12, .inl uf))] := hD
  have hS : va_S A s.heap s.heap [] := va_S.rf
  have hXn : ∀ (H : Heap) (locs : List Loc), va_S A s.heap H locs → fb_sx (fun _ => False) s H := fun H locs h9 => (hX.kept h9.2.1).narrow (fun _ z => z.elim)
  have hl : lv_has ls 4 [(0, .ref h), (1, .int (nI j)), (2, .int v)] := hl
  have hin2 : ∀ w ∈ u_ws RX2 TX2 7, w ∈ wsX2_setFifth := by decide +kernel
  refine lv_aload_n hx hb dX2_setFifth_0 rfl (lv_at hl 0 rfl) ?_
  refine lv_iconst (v := 0) hx hb dX2_setFifth_1 (by decide) ?_
  refine va_put (D := G) (ci := 2) (v := .int 0) (ty := .int) (C := RX2) (T := TX2) (N := 7) hx hb hts (hin2) tyX2 tyX2_ok nmX2 hown hK hP hD hS 0 rfl rfl 0 (by decide) (hts (.fieldLink RX2 26 "FifthBeatsModel" "thrown" "I") (by decide +kernel)) (fun _ h9 => h9) rfl (by decide +kernel) rfl rfl (Nat.le_of_ble_eq_true rfl) dX2_setFifth_2 (fun H locs hP hD hS => ?_)
  have hP : va_P G vwCl [(h, .inr (2, [.int 0, .int dy, .int (nI w), .ref n, .ref d, .ref f, .ref o])), (n, .inl (cI, 12, .inl pf)), (d, .inl (cI, 12, .inl df)), (f, .inl (cI, 12, .inl tf)), (o, .inl (cI, 12, .inl uf))] H := hP
  have hD : va_D A [(h, .inr (2, [.int 0, .int dy, .int (nI w), .ref n, .ref d, .ref f, .ref o])), (n, .inl (cI, 12, .inl pf)), (d, .inl (cI, 12, .inl df)), (f, .inl (cI, 12, .inl tf)), (o, .inl (cI, 12, .inl uf))] := hD
  refine lv_iload_n hx hb dX2_setFifth_5 rfl (lv_at hl 1 rfl) ?_
  refine fb_roS (As := [.int (nI j)]) (rest := []) (n := 1) ⟨hx, hb, hml, hown, hts⟩ (fb_c_X2_isOne l (nI j)) gX2_setFifth_X2_isOne rfl (by decide +kernel) (by decide) fb_Bl_T (fun _ _ _ => trivial) rfl hl.1 rfl (Nat.le_of_ble_eq_true rfl) dX2_setFifth_6 (by decide) ?_
  refine fb_ti (z := 1) (fb_ii_j hj) ?_
  refine lv_if_ne (tgt := 18) hx hb dX2_setFifth_9 (by decide) (fun c9 => ?_) (fun c9 => ?_)
  · skip
    refine lv_iload_n hx hb dX2_setFifth_18 rfl (lv_at hl 2 rfl) ?_
    refine lv_bipush (v := (-10)) hx hb dX2_setFifth_19 (by decide) ?_
    refine lv_bipush (v := 20) hx hb dX2_setFifth_21 (by decide) ?_
    refine fb_roS (As := [.int v, .int (-10), .int 20]) (rest := []) (n := 3) ⟨hx, hb, hml, hown, hts⟩ (fb_c_X2_isIn l v (-10) 20) gX2_setFifth_X2_isIn rfl (by decide +kernel) (by decide) fb_Bl_T (fun _ _ _ => trivial) rfl hl.1 rfl (Nat.le_of_ble_eq_true rfl) dX2_setFifth_23 (by decide) ?_
    refine fb_ti (z := 1) (fb_ii_1 h2) ?_
    refine lv_if_ne (tgt := 35) hx hb dX2_setFifth_26 (by decide) (fun c26 => ?_) (fun c26 => ?_)
    · skip
      refine lv_iload_n hx hb dX2_setFifth_35 rfl (lv_at hl 1 rfl) ?_
      refine lv_aload_n hx hb dX2_setFifth_36 rfl (lv_at hl 0 rfl) ?_
      refine va_get (D := G) (ci := 2) (v := .int (nI w)) (C := RX2) (T := TX2) (N := 7) hx hb hts (hin2) hown hK hP 0 rfl rfl 2 (by decide) (hts (.fieldLink RX2 7 "FifthBeatsModel" "wolf" "I") (by decide +kernel)) (fun _ h9 => h9) rfl dX2_setFifth_37 ?_
      refine lv_icmp_ne (tgt := 49) hx hb dX2_setFifth_40 (by decide) (fun c40 => ?_) (fun c40 => ?_)
      · skip
        exact absurd (by rw [hjw]) c40
      · skip
        refine lv_aload_n hx hb dX2_setFifth_43 rfl (lv_at hl 0 rfl) ?_
        refine lv_iconst (v := 3) hx hb dX2_setFifth_44 (by decide) ?_
        refine fb_miV (As := [.int 3]) (rest := []) (n := 1) (wr := []) (wz := [(h, .inr (2, [.int 3, .int dy, .int (nI w), .ref n, .ref d, .ref f, .ref o])), (n, .inl (cI, 12, .inl pf)), (d, .inl (cI, 12, .inl df)), (f, .inl (cI, 12, .inl tf)), (o, .inl (cI, 12, .inl uf))]) ⟨hx, hb, hml, hown, hts⟩ (fb_c_X2_no l G cI cL h n d f o pf df tf uf 0 dy w 3 _) gX2_setFifth_X2_no rfl (by decide +kernel) (by decide) (va_recv hK hP (ci := 2) (q0 := 0) rfl rfl) hP hK hD hS hA hX [0, 1, 2, 3, 4] [] [0, 1, 2, 3, 4] rfl rfl rfl rfl rfl rfl (by decide) rfl hl.1 rfl (Nat.le_of_ble_eq_true rfl) dX2_setFifth_45 (by decide) (fun H locs hP hD hS => ?_)
        have hP9 := hP.sub (ws' := [(h, .inr (2, [.int 3, .int dy, .int (nI w), .ref n, .ref d, .ref f, .ref o])), (n, .inl (cI, 12, .inl pf)), (d, .inl (cI, 12, .inl df)), (f, .inl (cI, 12, .inl tf)), (o, .inl (cI, 12, .inl uf))]) [0, 1, 2, 3, 4] (rfl)
        have hD9 := hD.sub (ws' := [(h, .inr (2, [.int 3, .int dy, .int (nI w), .ref n, .ref d, .ref f, .ref o])), (n, .inl (cI, 12, .inl pf)), (d, .inl (cI, 12, .inl df)), (f, .inl (cI, 12, .inl tf)), (o, .inl (cI, 12, .inl uf))]) [0, 1, 2, 3, 4] (by decide) (rfl)
        exact W.iret (v := 0) hx hb hr (fun t ht hW => ⟨⟨0, (), rfl, rfl, by rw [ht]; exact hP9, hD9⟩, hS.F ht⟩) hS.2.2 dX2_setFifth_48 hlk
    · skip
      first | exact absurd c26 (by decide) | exact absurd (by decide) c26
  · skip
    first | exact absurd c9 (by decide) | exact absurd (by decide) c9
set_option maxHeartbeats 4000000 in
set_option maxRecDepth 100000 in
theorem fb_c_X2_shift_ok (l : Launch) (G : va_G) (cI cL : ClassId) (h n d f o : Nat) (pf df tf uf : Nat → Int32) (th dy : Int32) (w : Nat) (j : Nat) (hj : j < 12) (hw : w < 12) (sz : Nat) : fb_MI l yX2_shift wsX2_shift 2 45 [.ref h, .int (nI j)] G cI cL sz (fb_MW cI h n d f o pf df tf uf th dy (nI w)) (fb_MW cI h n d f o (upd pf w (fb_ep pf w j)) df tf uf 0 dy (nI j)) (nI w) := by
  refine fb_mi_of (cc := cX2_shift) (maxL := 3) (ret := (some .int)) (by decide) rfl (Nat.le_of_ble_eq_true rfl) ?_
  intro p e s m args below meth c A hx hb hr hml hlk hts hown hP hK hD hA hX ls hl
  have hown : s.vm.findClass RX2 = some m.cls := hown
  have hP : va_P G vwCl [(h, .inr (2, [.int th, .int dy, .int (nI w), .ref n, .ref d, .ref f, .ref o])), (n, .inl (cI, 12, .inl pf)), (d, .inl (cI, 12, .inl df)), (f, .inl (cI, 12, .inl tf)), (o, .inl (cI, 12, .inl uf))] s.heap := hP
  have hD : va_D A [(h, .inr (2, [.int th, .int dy, .int (nI w), .ref n, .ref d, .ref f, .ref o])), (n, .inl (cI, 12, .inl pf)), (d, .inl (cI, 12, .inl df)), (f, .inl (cI, 12, .inl tf)), (o, .inl (cI, 12, .inl uf))] := hD
  have hS : va_S A s.heap s.heap [] := va_S.rf
  have hXn : ∀ (H : Heap) (locs : List Loc), va_S A s.heap H locs → fb_sx (fun _ => False) s H := fun H locs h9 => (hX.kept h9.2.1).narrow (fun _ z => z.elim)
  have hl : lv_has ls 3 [(0, .ref h), (1, .int (nI j))] := hl
  have hin2 : ∀ w ∈ u_ws RX2 TX2 7, w ∈ wsX2_shift := by decide +kernel
  refine lv_aload_n hx hb dX2_shift_0 rfl (lv_at hl 0 rfl) ?_
  refine lv_iconst (v := 0) hx hb dX2_shift_1 (by decide) ?_
  refine va_put (D := G) (ci := 2) (v := .int 0) (ty := .int) (C := RX2) (T := TX2) (N := 7) hx hb hts (hin2) tyX2 tyX2_ok nmX2 hown hK hP hD hS 0 rfl rfl 0 (by decide) (hts (.fieldLink RX2 26 "FifthBeatsModel" "thrown" "I") (by decide +kernel)) (fun _ h9 => h9) rfl (by decide +kernel) rfl rfl (Nat.le_of_ble_eq_true rfl) dX2_shift_2 (fun H locs hP hD hS => ?_)
  have hP : va_P G vwCl [(h, .inr (2, [.int 0, .int dy, .int (nI w), .ref n, .ref d, .ref f, .ref o])), (n, .inl (cI, 12, .inl pf)), (d, .inl (cI, 12, .inl df)), (f, .inl (cI, 12, .inl tf)), (o, .inl (cI, 12, .inl uf))] H := hP
  have hD : va_D A [(h, .inr (2, [.int 0, .int dy, .int (nI w), .ref n, .ref d, .ref f, .ref o])), (n, .inl (cI, 12, .inl pf)), (d, .inl (cI, 12, .inl df)), (f, .inl (cI, 12, .inl tf)), (o, .inl (cI, 12, .inl uf))] := hD
  refine lv_iload_n hx hb dX2_shift_5 rfl (lv_at hl 1 rfl) ?_
  refine fb_roS (As := [.int (nI j)]) (rest := []) (n := 1) ⟨hx, hb, hml, hown, hts⟩ (fb_c_X2_isOne l (nI j)) gX2_shift_X2_isOne rfl (by decide +kernel) (by decide) fb_Bl_T (fun _ _ _ => trivial) rfl hl.1 rfl (Nat.le_of_ble_eq_true rfl) dX2_shift_6 (by decide) ?_
  refine fb_ti (z := 1) (fb_ii_j hj) ?_
  refine lv_if_ne (tgt := 18) hx hb dX2_shift_9 (by decide) (fun c9 => ?_) (fun c9 => ?_)
  · skip
    refine lv_aload_n hx hb dX2_shift_18 rfl (lv_at hl 0 rfl) ?_
    refine va_get (D := G) (ci := 2) (v := .int (nI w)) (C := RX2) (T := TX2) (N := 7) hx hb hts (hin2) hown hK hP 0 rfl rfl 2 (by decide) (hts (.fieldLink RX2 7 "FifthBeatsModel" "wolf" "I") (by decide +kernel)) (fun _ h9 => h9) rfl dX2_shift_19 ?_
    refine lv_istore_n (lv' := [(2, .int (nI w)), (0, .ref h), (1, .int (nI j))]) hx hb dX2_shift_22 rfl hl (by decide) rfl (fun ls hl => ?_)
    refine lv_aload_n hx hb dX2_shift_23 rfl (lv_at hl 1 rfl) ?_
    refine lv_iload_n hx hb dX2_shift_24 rfl (lv_at hl 2 rfl) ?_
    refine fb_mvV (As := [.int (nI j)]) (rest := []) (n := 1) (wr := []) (wz := [(h, .inr (2, [.int 0, .int dy, .int (nI j), .ref n, .ref d, .ref f, .ref o])), (n, .inl (cI, 12, .inl (upd pf w (fb_ep pf w j)))), (d, .inl (cI, 12, .inl df)), (f, .inl (cI, 12, .inl tf)), (o, .inl (cI, 12, .inl uf))]) ⟨hx, hb, hml, hown, hts⟩ (fb_c_X2_shiftTo l G cI cL h n d f o pf df tf uf 0 dy w j hj hw _) gX2_shift_X2_shiftTo rfl (by decide +kernel) (by decide) (va_recv hK hP (ci := 2) (q0 := 0) rfl rfl) hP hK hD hS hA hX [0, 1, 2, 3, 4] [] [0, 1, 2, 3, 4] rfl rfl rfl rfl rfl rfl (by decide) rfl hl.1 rfl (Nat.le_of_ble_eq_true rfl) dX2_shift_25 (by decide) (fun H locs hP hD hS => ?_)
    refine lv_iload_n hx hb dX2_shift_28 rfl (lv_at hl 0 rfl) ?_
    have hP9 := hP.sub (ws' := [(h, .inr (2, [.int 0, .int dy, .int (nI j), .ref n, .ref d, .ref f, .ref o])), (n, .inl (cI, 12, .inl (upd pf w (fb_ep pf w j)))), (d, .inl (cI, 12, .inl df)), (f, .inl (cI, 12, .inl tf)), (o, .inl (cI, 12, .inl uf))]) [0, 1, 2, 3, 4] (rfl)
    have hD9 := hD.sub (ws' := [(h, .inr (2, [.int 0, .int dy, .int (nI j), .ref n, .ref d, .ref f, .ref o])), (n, .inl (cI, 12, .inl (upd pf w (fb_ep pf w j)))), (d, .inl (cI, 12, .inl df)), (f, .inl (cI, 12, .inl tf)), (o, .inl (cI, 12, .inl uf))]) [0, 1, 2, 3, 4] (by decide) (rfl)
    exact W.iret (v := nI w) hx hb hr (fun t ht hW => ⟨⟨nI w, (), rfl, rfl, by rw [ht]; exact hP9, hD9⟩, hS.F ht⟩) hS.2.2 dX2_shift_29 hlk
  · skip
    first | exact absurd c9 (by decide) | exact absurd (by decide) c9
set_option maxHeartbeats 4000000 in
set_option maxRecDepth 100000 in
theorem fb_c_X2_shift_b1 (l : Launch) (G : va_G) (cI cL : ClassId) (h n d f o : Nat) (pf df tf uf : Nat → Int32) (th dy : Int32) (w : Nat) (p0 : Int32) (hp : p0 < 0 ∨ 11 < p0) (sz : Nat) : fb_MI l yX2_shift wsX2_shift 2 45 [.ref h, .int p0] G cI cL sz (fb_MW cI h n d f o pf df tf uf th dy (nI w)) (fb_MW cI h n d f o pf df tf uf 1 dy (nI w)) 0 := by
  refine fb_mi_of (cc := cX2_shift) (maxL := 3) (ret := (some .int)) (by decide) rfl (Nat.le_of_ble_eq_true rfl) ?_
  intro p e s m args below meth c A hx hb hr hml hlk hts hown hP hK hD hA hX ls hl
  have hown : s.vm.findClass RX2 = some m.cls := hown
  have hP : va_P G vwCl [(h, .inr (2, [.int th, .int dy, .int (nI w), .ref n, .ref d, .ref f, .ref o])), (n, .inl (cI, 12, .inl pf)), (d, .inl (cI, 12, .inl df)), (f, .inl (cI, 12, .inl tf)), (o, .inl (cI, 12, .inl uf))] s.heap := hP
  have hD : va_D A [(h, .inr (2, [.int th, .int dy, .int (nI w), .ref n, .ref d, .ref f, .ref o])), (n, .inl (cI, 12, .inl pf)), (d, .inl (cI, 12, .inl df)), (f, .inl (cI, 12, .inl tf)), (o, .inl (cI, 12, .inl uf))] := hD
  have hS : va_S A s.heap s.heap [] := va_S.rf
  have hXn : ∀ (H : Heap) (locs : List Loc), va_S A s.heap H locs → fb_sx (fun _ => False) s H := fun H locs h9 => (hX.kept h9.2.1).narrow (fun _ z => z.elim)
  have hl : lv_has ls 3 [(0, .ref h), (1, .int p0)] := hl
  have hin2 : ∀ w ∈ u_ws RX2 TX2 7, w ∈ wsX2_shift := by decide +kernel
  refine lv_aload_n hx hb dX2_shift_0 rfl (lv_at hl 0 rfl) ?_
  refine lv_iconst (v := 0) hx hb dX2_shift_1 (by decide) ?_
  refine va_put (D := G) (ci := 2) (v := .int 0) (ty := .int) (C := RX2) (T := TX2) (N := 7) hx hb hts (hin2) tyX2 tyX2_ok nmX2 hown hK hP hD hS 0 rfl rfl 0 (by decide) (hts (.fieldLink RX2 26 "FifthBeatsModel" "thrown" "I") (by decide +kernel)) (fun _ h9 => h9) rfl (by decide +kernel) rfl rfl (Nat.le_of_ble_eq_true rfl) dX2_shift_2 (fun H locs hP hD hS => ?_)
  have hP : va_P G vwCl [(h, .inr (2, [.int 0, .int dy, .int (nI w), .ref n, .ref d, .ref f, .ref o])), (n, .inl (cI, 12, .inl pf)), (d, .inl (cI, 12, .inl df)), (f, .inl (cI, 12, .inl tf)), (o, .inl (cI, 12, .inl uf))] H := hP
  have hD : va_D A [(h, .inr (2, [.int 0, .int dy, .int (nI w), .ref n, .ref d, .ref f, .ref o])), (n, .inl (cI, 12, .inl pf)), (d, .inl (cI, 12, .inl df)), (f, .inl (cI, 12, .inl tf)), (o, .inl (cI, 12, .inl uf))] := hD
  refine lv_iload_n hx hb dX2_shift_5 rfl (lv_at hl 1 rfl) ?_
  refine fb_roS (As := [.int p0]) (rest := []) (n := 1) ⟨hx, hb, hml, hown, hts⟩ (fb_c_X2_isOne l p0) gX2_shift_X2_isOne rfl (by decide +kernel) (by decide) fb_Bl_T (fun _ _ _ => trivial) rfl hl.1 rfl (Nat.le_of_ble_eq_true rfl) dX2_shift_6 (by decide) ?_
  refine fb_ti (z := 0) (fb_ii_0 hp) ?_
  refine lv_if_ne (tgt := 18) hx hb dX2_shift_9 (by decide) (fun c9 => ?_) (fun c9 => ?_)
  · skip
    first | exact absurd c9 (by decide) | exact absurd (by decide) c9
  · skip
    refine lv_aload_n hx hb dX2_shift_12 rfl (lv_at hl 0 rfl) ?_
    refine lv_iconst (v := 1) hx hb dX2_shift_13 (by decide) ?_
    refine fb_miV (As := [.int 1]) (rest := []) (n := 1) (wr := []) (wz := [(h, .inr (2, [.int 1, .int dy, .int (nI w), .ref n, .ref d, .ref f, .ref o])), (n, .inl (cI, 12, .inl pf)), (d, .inl (cI, 12, .inl df)), (f, .inl (cI, 12, .inl tf)), (o, .inl (cI, 12, .inl uf))]) ⟨hx, hb, hml, hown, hts⟩ (fb_c_X2_no l G cI cL h n d f o pf df tf uf 0 dy w 1 _) gX2_shift_X2_no rfl (by decide +kernel) (by decide) (va_recv hK hP (ci := 2) (q0 := 0) rfl rfl) hP hK hD hS hA hX [0, 1, 2, 3, 4] [] [0, 1, 2, 3, 4] rfl rfl rfl rfl rfl rfl (by decide) rfl hl.1 rfl (Nat.le_of_ble_eq_true rfl) dX2_shift_14 (by decide) (fun H locs hP hD hS => ?_)
    have hP9 := hP.sub (ws' := [(h, .inr (2, [.int 1, .int dy, .int (nI w), .ref n, .ref d, .ref f, .ref o])), (n, .inl (cI, 12, .inl pf)), (d, .inl (cI, 12, .inl df)), (f, .inl (cI, 12, .inl tf)), (o, .inl (cI, 12, .inl uf))]) [0, 1, 2, 3, 4] (rfl)
    have hD9 := hD.sub (ws' := [(h, .inr (2, [.int 1, .int dy, .int (nI w), .ref n, .ref d, .ref f, .ref o])), (n, .inl (cI, 12, .inl pf)), (d, .inl (cI, 12, .inl df)), (f, .inl (cI, 12, .inl tf)), (o, .inl (cI, 12, .inl uf))]) [0, 1, 2, 3, 4] (by decide) (rfl)
    exact W.iret (v := 0) hx hb hr (fun t ht hW => ⟨⟨0, (), rfl, rfl, by rw [ht]; exact hP9, hD9⟩, hS.F ht⟩) hS.2.2 dX2_shift_17 hlk
set_option maxHeartbeats 4000000 in
set_option maxRecDepth 100000 in
theorem fb_c_X2_spread_ok (l : Launch) (G : va_G) (cI cL : ClassId) (h n d f o : Nat) (pf df tf uf : Nat → Int32) (th dy : Int32) (w : Nat) (q : Nat) (hq : 2 ≤ q) (hq2 : q ≤ 11) (hw : w < 12) (sz : Nat) : fb_MI l yX2_spread wsX2_spread 1 24 [.ref h, .int (nI q)] G cI cL sz (fb_MW cI h n d f o pf df tf uf th dy (nI w)) (fb_MW cI h n d f o (fb_sp pf w q 11) df tf uf 0 dy (nI w)) (fb_ep pf w w) := by
  refine fb_mi_of (cc := cX2_spread) (maxL := 4) (ret := (some .int)) (by decide) rfl (Nat.le_of_ble_eq_true rfl) ?_
  intro p e s m args below meth c A hx hb hr hml hlk hts hown hP hK hD hA hX ls hl
  have hown : s.vm.findClass RX2 = some m.cls := hown
  have hP : va_P G vwCl [(h, .inr (2, [.int th, .int dy, .int (nI w), .ref n, .ref d, .ref f, .ref o])), (n, .inl (cI, 12, .inl pf)), (d, .inl (cI, 12, .inl df)), (f, .inl (cI, 12, .inl tf)), (o, .inl (cI, 12, .inl uf))] s.heap := hP
  have hD : va_D A [(h, .inr (2, [.int th, .int dy, .int (nI w), .ref n, .ref d, .ref f, .ref o])), (n, .inl (cI, 12, .inl pf)), (d, .inl (cI, 12, .inl df)), (f, .inl (cI, 12, .inl tf)), (o, .inl (cI, 12, .inl uf))] := hD
  have hS : va_S A s.heap s.heap [] := va_S.rf
  have hXn : ∀ (H : Heap) (locs : List Loc), va_S A s.heap H locs → fb_sx (fun _ => False) s H := fun H locs h9 => (hX.kept h9.2.1).narrow (fun _ z => z.elim)
  have hl : lv_has ls 4 [(0, .ref h), (1, .int (nI q))] := hl
  have hin2 : ∀ w ∈ u_ws RX2 TX2 7, w ∈ wsX2_spread := by decide +kernel
  refine lv_aload_n hx hb dX2_spread_0 rfl (lv_at hl 0 rfl) ?_
  refine lv_iconst (v := 0) hx hb dX2_spread_1 (by decide) ?_
  refine va_put (D := G) (ci := 2) (v := .int 0) (ty := .int) (C := RX2) (T := TX2) (N := 7) hx hb hts (hin2) tyX2 tyX2_ok nmX2 hown hK hP hD hS 0 rfl rfl 0 (by decide) (hts (.fieldLink RX2 26 "FifthBeatsModel" "thrown" "I") (by decide +kernel)) (fun _ h9 => h9) rfl (by decide +kernel) rfl rfl (Nat.le_of_ble_eq_true rfl) dX2_spread_2 (fun H locs hP hD hS => ?_)
  have hP : va_P G vwCl [(h, .inr (2, [.int 0, .int dy, .int (nI w), .ref n, .ref d, .ref f, .ref o])), (n, .inl (cI, 12, .inl pf)), (d, .inl (cI, 12, .inl df)), (f, .inl (cI, 12, .inl tf)), (o, .inl (cI, 12, .inl uf))] H := hP
  have hD : va_D A [(h, .inr (2, [.int 0, .int dy, .int (nI w), .ref n, .ref d, .ref f, .ref o])), (n, .inl (cI, 12, .inl pf)), (d, .inl (cI, 12, .inl df)), (f, .inl (cI, 12, .inl tf)), (o, .inl (cI, 12, .inl uf))] := hD
  refine lv_iload_n hx hb dX2_spread_5 rfl (lv_at hl 1 rfl) ?_
  refine lv_iconst (v := 2) hx hb dX2_spread_6 (by decide) ?_
  refine lv_bipush (v := 11) hx hb dX2_spread_7 (by decide) ?_
  refine fb_roS (As := [.int (nI q), .int 2, .int 11]) (rest := []) (n := 3) ⟨hx, hb, hml, hown, hts⟩ (fb_c_X2_isIn l (nI q) 2 11) gX2_spread_X2_isIn rfl (by decide +kernel) (by decide) fb_Bl_T (fun _ _ _ => trivial) rfl hl.1 rfl (Nat.le_of_ble_eq_true rfl) dX2_spread_9 (by decide) ?_
  refine fb_ti (z := 1) (fb_ii_1 (fb_r1 hq hq2 (by decide))) ?_
  refine lv_if_ne (tgt := 21) hx hb dX2_spread_12 (by decide) (fun c12 => ?_) (fun c12 => ?_)
  · skip
    refine lv_aload_n hx hb dX2_spread_21 rfl (lv_at hl 0 rfl) ?_
    refine lv_aload_n hx hb dX2_spread_22 rfl (lv_at hl 0 rfl) ?_
    refine va_get (D := G) (ci := 2) (v := .int (nI w)) (C := RX2) (T := TX2) (N := 7) hx hb hts (hin2) hown hK hP 0 rfl rfl 2 (by decide) (hts (.fieldLink RX2 7 "FifthBeatsModel" "wolf" "I") (by decide +kernel)) (fun _ h9 => h9) rfl dX2_spread_23 ?_
    refine fb_roV (As := [.int (nI w)]) (rest := []) (n := 1) ⟨hx, hb, hml, hown, hts⟩ (fb_c_X2_planOf l G cI cL h n d f o pf df tf uf 0 dy w w (by omega) hw) gX2_spread_X2_planOf rfl (by decide +kernel) (by decide) (fb_PB.bl _ _ _ _) (va_recv hK hP (ci := 2) (q0 := 0) rfl rfl) (fb_PB.to hP hK (hXn _ _ hS)) rfl hl.1 rfl (Nat.le_of_ble_eq_true rfl) dX2_spread_26 (by decide) ?_
    refine lv_istore_n (lv' := [(2, .int ((fb_ep pf w) w)), (0, .ref h), (1, .int (nI q))]) hx hb dX2_spread_29 rfl hl (by decide) rfl (fun ls hl => ?_)
    refine lv_iconst (v := 0) hx hb dX2_spread_30 (by decide) ?_
    refine lv_istore_n (lv' := [(3, .int 0), (2, .int ((fb_ep pf w) w)), (0, .ref h), (1, .int (nI q))]) hx hb dX2_spread_31 rfl hl (by decide) rfl (fun ls hl => ?_)
    have lp32 : ∀ (n9 i : Nat), i ≤ 11 → 11 < i + n9 → ∀ (H : Heap) (locs : List Loc), va_P G vwCl [(h, .inr (2, [.int 0, .int dy, .int (nI w), .ref n, .ref d, .ref f, .ref o])), (n, .inl (cI, 12, .inl (fb_sp pf w q i))), (d, .inl (cI, 12, .inl df)), (f, .inl (cI, 12, .inl tf)), (o, .inl (cI, 12, .inl uf))] H → va_D A [(h, .inr (2, [.int 0, .int dy, .int (nI w), .ref n, .ref d, .ref f, .ref o])), (n, .inl (cI, 12, .inl (fb_sp pf w q i))), (d, .inl (cI, 12, .inl df)), (f, .inl (cI, 12, .inl tf)), (o, .inl (cI, 12, .inl uf))] → va_S A s.heap H locs → ∀ ls : Array Slot, lv_has ls 4 [(3, .int (nI i)), (2, .int ((fb_ep pf w) w)), (0, .ref h), (1, .int (nI q))] → W p l e ({ frames := 1, cells := 0, slots := 0, locals := 24 }) s m args below meth c H locs 0 0 (MQ below (va_Qi (fun (r : Int32) (_ : Unit) => r = (fb_ep pf w w)) (fun _ t => va_P G vwCl (fb_MW cI h n d f o (fb_sp pf w q 11) df tf uf 0 dy (nI w)) t.heap ∧ va_D A (fb_MW cI h n d f o (fb_sp pf w q 11) df tf uf 0 dy (nI w))) A) args s 0 0 A) (F0 m 32 ls []) := by
      intro n9
      induction n9 with
      | zero => intro i h1 h2; exact absurd h2 (by omega)
      | succ n9 ih32 =>
        intro i hi_i hin9 H locs hP hD hS ls hl
        refine lv_iload_n hx hb dX2_spread_32 rfl (lv_at hl 0 rfl) ?_
        refine lv_bipush (v := 11) hx hb dX2_spread_33 (by decide) ?_
        refine lv_icmp_ge (tgt := 87) hx hb dX2_spread_35 (by decide) (fun c35 => ?_) (fun c35 => ?_)
        · skip
          have hxi : i = 11 := fb_lp_ex (by decide) hi_i c35
          subst hxi
          refine lv_iload_n hx hb dX2_spread_87 rfl (lv_at hl 1 rfl) ?_
          have hP9 := hP.sub (ws' := [(h, .inr (2, [.int 0, .int dy, .int (nI w), .ref n, .ref d, .ref f, .ref o])), (n, .inl (cI, 12, .inl (fb_sp pf w q 11))), (d, .inl (cI, 12, .inl df)), (f, .inl (cI, 12, .inl tf)), (o, .inl (cI, 12, .inl uf))]) [0, 1, 2, 3, 4] (rfl)
          have hD9 := hD.sub (ws' := [(h, .inr (2, [.int 0, .int dy, .int (nI w), .ref n, .ref d, .ref f, .ref o])), (n, .inl (cI, 12, .inl (fb_sp pf w q 11))), (d, .inl (cI, 12, .inl df)), (f, .inl (cI, 12, .inl tf)), (o, .inl (cI, 12, .inl uf))]) [0, 1, 2, 3, 4] (by decide) (rfl)
          exact W.iret (v := (fb_ep pf w) w) hx hb hr (fun t ht hW => ⟨⟨(fb_ep pf w) w, (), rfl, rfl, by rw [ht]; exact hP9, hD9⟩, hS.F ht⟩) hS.2.2 dX2_spread_88 hlk
        · skip
          have hi12 : i < 11 := fb_lp_in (by decide) hi_i c35
          refine lv_aload_n hx hb dX2_spread_38 rfl (lv_at hl 2 rfl) ?_
          refine va_get (D := G) (ci := 2) (v := .ref n) (C := RX2) (T := TX2) (N := 7) hx hb hts (hin2) hown hK hP 0 rfl rfl 3 (by decide) (hts (.fieldLink RX2 13 "FifthBeatsModel" "plan" "[I") (by decide +kernel)) (fun _ h9 => h9) rfl dX2_spread_39 ?_
          refine lv_aload_n hx hb dX2_spread_42 rfl (lv_at hl 2 rfl) ?_
          refine va_get (D := G) (ci := 2) (v := .int (nI w)) (C := RX2) (T := TX2) (N := 7) hx hb hts (hin2) hown hK hP 0 rfl rfl 2 (by decide) (hts (.fieldLink RX2 7 "FifthBeatsModel" "wolf" "I") (by decide +kernel)) (fun _ h9 => h9) rfl dX2_spread_43 ?_
          refine lv_iconst (v := 1) hx hb dX2_spread_46 (by decide) ?_
          refine lv_iadd hx hb dX2_spread_47 ?_
          refine fb_ti (z := nI (w + 1)) (nI_add w 1) ?_
          refine lv_iload_n hx hb dX2_spread_48 rfl (lv_at hl 0 rfl) ?_
          refine lv_iadd hx hb dX2_spread_49 ?_
          refine fb_ti (z := nI (w + 1 + i)) (nI_add (w + 1) i) ?_
          refine lv_bipush (v := 12) hx hb dX2_spread_50 (by decide) ?_
          refine lv_irem hx hb dX2_spread_52 (by decide) ?_
          refine fb_ti (z := nI ((w + 1 + i) % 12)) (fb_rm_12 (by omega)) ?_
          refine lv_iload_n hx hb dX2_spread_53 rfl (lv_at hl 0 rfl) ?_
          refine lv_iload_n hx hb dX2_spread_54 rfl (lv_at hl 3 rfl) ?_
          refine lv_icmp_lt (tgt := 62) hx hb dX2_spread_55 (by decide) (fun c55 => ?_) (fun c55 => ?_)
          · skip
            have h55 : i < q := (nI_ltI (by omega) (by omega)).mp c55
            refine lv_bipush (v := 24) hx hb dX2_spread_62 (by decide) ?_
            refine lv_iload_n hx hb dX2_spread_64 rfl (lv_at hl 3 rfl) ?_
            refine lv_idiv hx hb dX2_spread_65 (nI_ne0 (by omega) (by omega)) ?_
            refine fb_ti (z := nI (24 / q)) (pk_div (a := 24) (by decide) (by omega) (by omega)) ?_
            refine lv_iload_n hx hb dX2_spread_66 rfl (lv_at hl 0 rfl) ?_
            refine lv_bipush (v := 24) hx hb dX2_spread_67 (by decide) ?_
            refine lv_iload_n hx hb dX2_spread_69 rfl (lv_at hl 3 rfl) ?_
            refine lv_irem hx hb dX2_spread_70 (nI_ne0 (by omega) (by omega)) ?_
            refine fb_ti (z := nI (24 % q)) (pk_rem (a := 24) (by decide) (by omega) (by omega)) ?_
            refine lv_icmp_ge (tgt := 78) hx hb dX2_spread_71 (by decide) (fun c71 => ?_) (fun c71 => ?_)
            · skip
              have h71 : ¬ i < 24 % q := Nat.not_lt.mpr ((nI_leI (Nat.lt_of_le_of_lt (Nat.mod_le _ _) (by decide)) (by omega)).mp c71)
              refine lv_iconst (v := 0) hx hb dX2_spread_78 (by decide) ?_
              refine lv_iadd hx hb dX2_spread_79 ?_
              refine fb_ti (z := (nI (24 / q)) + 0) (rfl) ?_
              refine va_iast hx hb hK hP hD hS 1 0 rfl rfl (vp_in_nI (Nat.mod_lt _ (by decide)) (by decide)) dX2_spread_80 (fun H locs hP hD hS => ?_)
              rw [show (nI ((w + 1 + i) % 12)).toNatClampNeg = ((w + 1 + i) % 12) from fb_cl (by omega)] at hP hD
              rw [show upd (fb_sp pf w q i) ((w + 1 + i) % 12) ((nI (24 / q)) + 0) = fb_sp pf w q (i + 1) from show upd (fb_sp pf w q i) ((w + 1 + i) % 12) (nI (24 / q) + 0) = upd (fb_sp pf w q i) ((w + 1 + i) % 12) (fb_sv q i) from by rw [← fb_svm hq hq2 hi12, if_pos h55, if_neg h71]] at hP hD
              have hP : va_P G vwCl [(h, .inr (2, [.int 0, .int dy, .int (nI w), .ref n, .ref d, .ref f, .ref o])), (n, .inl (cI, 12, .inl (fb_sp pf w q (i + 1)))), (d, .inl (cI, 12, .inl df)), (f, .inl (cI, 12, .inl tf)), (o, .inl (cI, 12, .inl uf))] H := hP
              have hD : va_D A [(h, .inr (2, [.int 0, .int dy, .int (nI w), .ref n, .ref d, .ref f, .ref o])), (n, .inl (cI, 12, .inl (fb_sp pf w q (i + 1)))), (d, .inl (cI, 12, .inl df)), (f, .inl (cI, 12, .inl tf)), (o, .inl (cI, 12, .inl uf))] := hD
              refine lv_iinc (v := nI (i + 1)) (lv' := [(3, .int (nI (i + 1))), (2, .int ((fb_ep pf w) w)), (0, .ref h), (1, .int (nI q))]) hx hb dX2_spread_81 hl (k := 0) rfl (show nI i + 1 = nI (i + 1) from nI_1 i) (by decide) rfl (fun ls hl => ?_)
              refine lv_goto (tgt := 32) hx hb dX2_spread_84 (by decide) ?_
              exact ih32 (i + 1) (by omega) (by omega) _ _ (hP) (hD) hS _ (lv_sub hl [0, 1, 2, 3] (rfl))
            · skip
              have h71 : i < 24 % q := Nat.lt_of_not_le (fun z => c71 (nI_le z (by omega)))
              refine lv_iconst (v := 1) hx hb dX2_spread_74 (by decide) ?_
              refine lv_goto (tgt := 79) hx hb dX2_spread_75 (by decide) ?_
              refine lv_iadd hx hb dX2_spread_79 ?_
              refine fb_ti (z := (nI (24 / q)) + 1) (rfl) ?_
              refine va_iast hx hb hK hP hD hS 1 0 rfl rfl (vp_in_nI (Nat.mod_lt _ (by decide)) (by decide)) dX2_spread_80 (fun H locs hP hD hS => ?_)
              rw [show (nI ((w + 1 + i) % 12)).toNatClampNeg = ((w + 1 + i) % 12) from fb_cl (by omega)] at hP hD
              rw [show upd (fb_sp pf w q i) ((w + 1 + i) % 12) ((nI (24 / q)) + 1) = fb_sp pf w q (i + 1) from show upd (fb_sp pf w q i) ((w + 1 + i) % 12) (nI (24 / q) + 1) = upd (fb_sp pf w q i) ((w + 1 + i) % 12) (fb_sv q i) from by rw [← fb_svm hq hq2 hi12, if_pos h55, if_pos h71]] at hP hD
              have hP : va_P G vwCl [(h, .inr (2, [.int 0, .int dy, .int (nI w), .ref n, .ref d, .ref f, .ref o])), (n, .inl (cI, 12, .inl (fb_sp pf w q (i + 1)))), (d, .inl (cI, 12, .inl df)), (f, .inl (cI, 12, .inl tf)), (o, .inl (cI, 12, .inl uf))] H := hP
              have hD : va_D A [(h, .inr (2, [.int 0, .int dy, .int (nI w), .ref n, .ref d, .ref f, .ref o])), (n, .inl (cI, 12, .inl (fb_sp pf w q (i + 1)))), (d, .inl (cI, 12, .inl df)), (f, .inl (cI, 12, .inl tf)), (o, .inl (cI, 12, .inl uf))] := hD
              refine lv_iinc (v := nI (i + 1)) (lv' := [(3, .int (nI (i + 1))), (2, .int ((fb_ep pf w) w)), (0, .ref h), (1, .int (nI q))]) hx hb dX2_spread_81 hl (k := 0) rfl (show nI i + 1 = nI (i + 1) from nI_1 i) (by decide) rfl (fun ls hl => ?_)
              refine lv_goto (tgt := 32) hx hb dX2_spread_84 (by decide) ?_
              exact ih32 (i + 1) (by omega) (by omega) _ _ (hP) (hD) hS _ (lv_sub hl [0, 1, 2, 3] (rfl))
          · skip
            have h55 : ¬ i < q := fun z => c55 (nI_lt z (by omega))
            refine lv_iconst (v := 0) hx hb dX2_spread_58 (by decide) ?_
            refine lv_goto (tgt := 80) hx hb dX2_spread_59 (by decide) ?_
            refine va_iast hx hb hK hP hD hS 1 0 rfl rfl (vp_in_nI (Nat.mod_lt _ (by decide)) (by decide)) dX2_spread_80 (fun H locs hP hD hS => ?_)
            rw [show (nI ((w + 1 + i) % 12)).toNatClampNeg = ((w + 1 + i) % 12) from fb_cl (by omega)] at hP hD
            rw [show upd (fb_sp pf w q i) ((w + 1 + i) % 12) 0 = fb_sp pf w q (i + 1) from show upd (fb_sp pf w q i) ((w + 1 + i) % 12) (0) = upd (fb_sp pf w q i) ((w + 1 + i) % 12) (fb_sv q i) from by rw [← fb_svm hq hq2 hi12, if_neg h55]] at hP hD
            have hP : va_P G vwCl [(h, .inr (2, [.int 0, .int dy, .int (nI w), .ref n, .ref d, .ref f, .ref o])), (n, .inl (cI, 12, .inl (fb_sp pf w q (i + 1)))), (d, .inl (cI, 12, .inl df)), (f, .inl (cI, 12, .inl tf)), (o, .inl (cI, 12, .inl uf))] H := hP
            have hD : va_D A [(h, .inr (2, [.int 0, .int dy, .int (nI w), .ref n, .ref d, .ref f, .ref o])), (n, .inl (cI, 12, .inl (fb_sp pf w q (i + 1)))), (d, .inl (cI, 12, .inl df)), (f, .inl (cI, 12, .inl tf)), (o, .inl (cI, 12, .inl uf))] := hD
            refine lv_iinc (v := nI (i + 1)) (lv' := [(3, .int (nI (i + 1))), (2, .int ((fb_ep pf w) w)), (0, .ref h), (1, .int (nI q))]) hx hb dX2_spread_81 hl (k := 0) rfl (show nI i + 1 = nI (i + 1) from nI_1 i) (by decide) rfl (fun ls hl => ?_)
            refine lv_goto (tgt := 32) hx hb dX2_spread_84 (by decide) ?_
            exact ih32 (i + 1) (by omega) (by omega) _ _ (hP) (hD) hS _ (lv_sub hl [0, 1, 2, 3] (rfl))
    exact lp32 (11 + 1) 0 (by omega) (by omega) _ _ (hP) (hD) hS _ (lv_sub hl [0, 1, 2, 3] (rfl))
  · skip
    first | exact absurd c12 (by decide) | exact absurd (by decide) c12
set_option maxHeartbeats 4000000 in
set_option maxRecDepth 100000 in
theorem fb_c_X2_spread_b1 (l : Launch) (G : va_G) (cI cL : ClassId) (h n d f o : Nat) (pf df tf uf : Nat → Int32) (th dy : Int32) (w : Nat) (p0 : Int32) (hp : p0 < 2 ∨ 11 < p0) (sz : Nat) : fb_MI l yX2_spread wsX2_spread 1 24 [.ref h, .int p0] G cI cL sz (fb_MW cI h n d f o pf df tf uf th dy (nI w)) (fb_MW cI h n d f o pf df tf uf 1 dy (nI w)) 0 := by
  refine fb_mi_of (cc := cX2_spread) (maxL := 4) (ret := (some .int)) (by decide) rfl (Nat.le_of_ble_eq_true rfl) ?_
  intro p e s m args below meth c A hx hb hr hml hlk hts hown hP hK hD hA hX ls hl
  have hown : s.vm.findClass RX2 = some m.cls := hown
  have hP : va_P G vwCl [(h, .inr (2, [.int th, .int dy, .int (nI w), .ref n, .ref d, .ref f, .ref o])), (n, .inl (cI, 12, .inl pf)), (d, .inl (cI, 12, .inl df)), (f, .inl (cI, 12, .inl tf)), (o, .inl (cI, 12, .inl uf))] s.heap := hP
  have hD : va_D A [(h, .inr (2, [.int th, .int dy, .int (nI w), .ref n, .ref d, .ref f, .ref o])), (n, .inl (cI, 12, .inl pf)), (d, .inl (cI, 12, .inl df)), (f, .inl (cI, 12, .inl tf)), (o, .inl (cI, 12, .inl uf))] := hD
  have hS : va_S A s.heap s.heap [] := va_S.rf
  have hXn : ∀ (H : Heap) (locs : List Loc), va_S A s.heap H locs → fb_sx (fun _ => False) s H := fun H locs h9 => (hX.kept h9.2.1).narrow (fun _ z => z.elim)
  have hl : lv_has ls 4 [(0, .ref h), (1, .int p0)] := hl
  have hin2 : ∀ w ∈ u_ws RX2 TX2 7, w ∈ wsX2_spread := by decide +kernel
  refine lv_aload_n hx hb dX2_spread_0 rfl (lv_at hl 0 rfl) ?_
  refine lv_iconst (v := 0) hx hb dX2_spread_1 (by decide) ?_
  refine va_put (D := G) (ci := 2) (v := .int 0) (ty := .int) (C := RX2) (T := TX2) (N := 7) hx hb hts (hin2) tyX2 tyX2_ok nmX2 hown hK hP hD hS 0 rfl rfl 0 (by decide) (hts (.fieldLink RX2 26 "FifthBeatsModel" "thrown" "I") (by decide +kernel)) (fun _ h9 => h9) rfl (by decide +kernel) rfl rfl (Nat.le_of_ble_eq_true rfl) dX2_spread_2 (fun H locs hP hD hS => ?_)
  have hP : va_P G vwCl [(h, .inr (2, [.int 0, .int dy, .int (nI w), .ref n, .ref d, .ref f, .ref o])), (n, .inl (cI, 12, .inl pf)), (d, .inl (cI, 12, .inl df)), (f, .inl (cI, 12, .inl tf)), (o, .inl (cI, 12, .inl uf))] H := hP
  have hD : va_D A [(h, .inr (2, [.int 0, .int dy, .int (nI w), .ref n, .ref d, .ref f, .ref o])), (n, .inl (cI, 12, .inl pf)), (d, .inl (cI, 12, .inl df)), (f, .inl (cI, 12, .inl tf)), (o, .inl (cI, 12, .inl uf))] := hD
  refine lv_iload_n hx hb dX2_spread_5 rfl (lv_at hl 1 rfl) ?_
  refine lv_iconst (v := 2) hx hb dX2_spread_6 (by decide) ?_
  refine lv_bipush (v := 11) hx hb dX2_spread_7 (by decide) ?_
  refine fb_roS (As := [.int p0, .int 2, .int 11]) (rest := []) (n := 3) ⟨hx, hb, hml, hown, hts⟩ (fb_c_X2_isIn l p0 2 11) gX2_spread_X2_isIn rfl (by decide +kernel) (by decide) fb_Bl_T (fun _ _ _ => trivial) rfl hl.1 rfl (Nat.le_of_ble_eq_true rfl) dX2_spread_9 (by decide) ?_
  refine fb_ti (z := 0) (fb_ii_0 hp) ?_
  refine lv_if_ne (tgt := 21) hx hb dX2_spread_12 (by decide) (fun c12 => ?_) (fun c12 => ?_)
  · skip
    first | exact absurd c12 (by decide) | exact absurd (by decide) c12
  · skip
    refine lv_aload_n hx hb dX2_spread_15 rfl (lv_at hl 0 rfl) ?_
    refine lv_iconst (v := 1) hx hb dX2_spread_16 (by decide) ?_
    refine fb_miV (As := [.int 1]) (rest := []) (n := 1) (wr := []) (wz := [(h, .inr (2, [.int 1, .int dy, .int (nI w), .ref n, .ref d, .ref f, .ref o])), (n, .inl (cI, 12, .inl pf)), (d, .inl (cI, 12, .inl df)), (f, .inl (cI, 12, .inl tf)), (o, .inl (cI, 12, .inl uf))]) ⟨hx, hb, hml, hown, hts⟩ (fb_c_X2_no l G cI cL h n d f o pf df tf uf 0 dy w 1 _) gX2_spread_X2_no rfl (by decide +kernel) (by decide) (va_recv hK hP (ci := 2) (q0 := 0) rfl rfl) hP hK hD hS hA hX [0, 1, 2, 3, 4] [] [0, 1, 2, 3, 4] rfl rfl rfl rfl rfl rfl (by decide) rfl hl.1 rfl (Nat.le_of_ble_eq_true rfl) dX2_spread_17 (by decide) (fun H locs hP hD hS => ?_)
    have hP9 := hP.sub (ws' := [(h, .inr (2, [.int 1, .int dy, .int (nI w), .ref n, .ref d, .ref f, .ref o])), (n, .inl (cI, 12, .inl pf)), (d, .inl (cI, 12, .inl df)), (f, .inl (cI, 12, .inl tf)), (o, .inl (cI, 12, .inl uf))]) [0, 1, 2, 3, 4] (rfl)
    have hD9 := hD.sub (ws' := [(h, .inr (2, [.int 1, .int dy, .int (nI w), .ref n, .ref d, .ref f, .ref o])), (n, .inl (cI, 12, .inl pf)), (d, .inl (cI, 12, .inl df)), (f, .inl (cI, 12, .inl tf)), (o, .inl (cI, 12, .inl uf))]) [0, 1, 2, 3, 4] (by decide) (rfl)
    exact W.iret (v := 0) hx hb hr (fun t ht hW => ⟨⟨0, (), rfl, rfl, by rw [ht]; exact hP9, hD9⟩, hS.F ht⟩) hS.2.2 dX2_spread_20 hlk
set_option maxHeartbeats 4000000 in
set_option maxRecDepth 100000 in
theorem fb_c_X2_setOften_ok (l : Launch) (G : va_G) (cI cL : ClassId) (h n d f o : Nat) (pf df tf uf : Nat → Int32) (th dy : Int32) (w : Nat) (j : Nat) (v : Int32) (hj : j < 12) (h2 : ¬ (v < 0 ∨ 9 < v)) (sz : Nat) : fb_MI l yX2_setOften wsX2_setOften 2 42 [.ref h, .int (nI j), .int v] G cI cL sz (fb_MW cI h n d f o pf df tf uf th dy (nI w)) (fb_MW cI h n d f o pf df (upd tf j v) uf 0 dy (nI w)) (fb_rg tf j) := by
  refine fb_mi_of (cc := cX2_setOften) (maxL := 4) (ret := (some .int)) (by decide) rfl (Nat.le_of_ble_eq_true rfl) ?_
  intro p e s m args below meth c A hx hb hr hml hlk hts hown hP hK hD hA hX ls hl
  have hown : s.vm.findClass RX2 = some m.cls := hown
  have hP : va_P G vwCl [(h, .inr (2, [.int th, .int dy, .int (nI w), .ref n, .ref d, .ref f, .ref o])), (n, .inl (cI, 12, .inl pf)), (d, .inl (cI, 12, .inl df)), (f, .inl (cI, 12, .inl tf)), (o, .inl (cI, 12, .inl uf))] s.heap := hP
  have hD : va_D A [(h, .inr (2, [.int th, .int dy, .int (nI w), .ref n, .ref d, .ref f, .ref o])), (n, .inl (cI, 12, .inl pf)), (d, .inl (cI, 12, .inl df)), (f, .inl (cI, 12, .inl tf)), (o, .inl (cI, 12, .inl uf))] := hD
  have hS : va_S A s.heap s.heap [] := va_S.rf
  have hXn : ∀ (H : Heap) (locs : List Loc), va_S A s.heap H locs → fb_sx (fun _ => False) s H := fun H locs h9 => (hX.kept h9.2.1).narrow (fun _ z => z.elim)
  have hl : lv_has ls 4 [(0, .ref h), (1, .int (nI j)), (2, .int v)] := hl
  have hin2 : ∀ w ∈ u_ws RX2 TX2 7, w ∈ wsX2_setOften := by decide +kernel
  refine lv_aload_n hx hb dX2_setOften_0 rfl (lv_at hl 0 rfl) ?_
  refine lv_iconst (v := 0) hx hb dX2_setOften_1 (by decide) ?_
  refine va_put (D := G) (ci := 2) (v := .int 0) (ty := .int) (C := RX2) (T := TX2) (N := 7) hx hb hts (hin2) tyX2 tyX2_ok nmX2 hown hK hP hD hS 0 rfl rfl 0 (by decide) (hts (.fieldLink RX2 26 "FifthBeatsModel" "thrown" "I") (by decide +kernel)) (fun _ h9 => h9) rfl (by decide +kernel) rfl rfl (Nat.le_of_ble_eq_true rfl) dX2_setOften_2 (fun H locs hP hD hS => ?_)
  have hP : va_P G vwCl [(h, .inr (2, [.int 0, .int dy, .int (nI w), .ref n, .ref d, .ref f, .ref o])), (n, .inl (cI, 12, .inl pf)), (d, .inl (cI, 12, .inl df)), (f, .inl (cI, 12, .inl tf)), (o, .inl (cI, 12, .inl uf))] H := hP
  have hD : va_D A [(h, .inr (2, [.int 0, .int dy, .int (nI w), .ref n, .ref d, .ref f, .ref o])), (n, .inl (cI, 12, .inl pf)), (d, .inl (cI, 12, .inl df)), (f, .inl (cI, 12, .inl tf)), (o, .inl (cI, 12, .inl uf))] := hD
  refine lv_iload_n hx hb dX2_setOften_5 rfl (lv_at hl 1 rfl) ?_
  refine fb_roS (As := [.int (nI j)]) (rest := []) (n := 1) ⟨hx, hb, hml, hown, hts⟩ (fb_c_X2_isOne l (nI j)) gX2_setOften_X2_isOne rfl (by decide +kernel) (by decide) fb_Bl_T (fun _ _ _ => trivial) rfl hl.1 rfl (Nat.le_of_ble_eq_true rfl) dX2_setOften_6 (by decide) ?_
  refine fb_ti (z := 1) (fb_ii_j hj) ?_
  refine lv_if_ne (tgt := 18) hx hb dX2_setOften_9 (by decide) (fun c9 => ?_) (fun c9 => ?_)
  · skip
    refine lv_iload_n hx hb dX2_setOften_18 rfl (lv_at hl 2 rfl) ?_
    refine lv_iconst (v := 0) hx hb dX2_setOften_19 (by decide) ?_
    refine lv_bipush (v := 9) hx hb dX2_setOften_20 (by decide) ?_
    refine fb_roS (As := [.int v, .int 0, .int 9]) (rest := []) (n := 3) ⟨hx, hb, hml, hown, hts⟩ (fb_c_X2_isIn l v 0 9) gX2_setOften_X2_isIn rfl (by decide +kernel) (by decide) fb_Bl_T (fun _ _ _ => trivial) rfl hl.1 rfl (Nat.le_of_ble_eq_true rfl) dX2_setOften_22 (by decide) ?_
    refine fb_ti (z := 1) (fb_ii_1 h2) ?_
    refine lv_if_ne (tgt := 34) hx hb dX2_setOften_25 (by decide) (fun c25 => ?_) (fun c25 => ?_)
    · skip
      refine lv_aload_n hx hb dX2_setOften_34 rfl (lv_at hl 0 rfl) ?_
      refine va_get (D := G) (ci := 2) (v := .ref f) (C := RX2) (T := TX2) (N := 7) hx hb hts (hin2) hown hK hP 0 rfl rfl 5 (by decide) (hts (.fieldLink RX2 20 "FifthBeatsModel" "often" "[I") (by decide +kernel)) (fun _ h9 => h9) rfl dX2_setOften_35 ?_
      refine lv_iload_n hx hb dX2_setOften_38 rfl (lv_at hl 1 rfl) ?_
      refine va_iald hx hb hK hP 3 0 rfl rfl (vp_in_nI hj (by decide)) dX2_setOften_39 ?_
      refine fb_ti (z := fb_rg tf j) (by rw [fb_cl (by omega), fb_rg_lt hj]) ?_
      refine lv_istore_n (lv' := [(3, .int (fb_rg tf j)), (0, .ref h), (1, .int (nI j)), (2, .int v)]) hx hb dX2_setOften_40 rfl hl (by decide) rfl (fun ls hl => ?_)
      refine lv_aload_n hx hb dX2_setOften_41 rfl (lv_at hl 1 rfl) ?_
      refine va_get (D := G) (ci := 2) (v := .ref f) (C := RX2) (T := TX2) (N := 7) hx hb hts (hin2) hown hK hP 0 rfl rfl 5 (by decide) (hts (.fieldLink RX2 20 "FifthBeatsModel" "often" "[I") (by decide +kernel)) (fun _ h9 => h9) rfl dX2_setOften_42 ?_
      refine lv_iload_n hx hb dX2_setOften_45 rfl (lv_at hl 2 rfl) ?_
      refine lv_iload_n hx hb dX2_setOften_46 rfl (lv_at hl 3 rfl) ?_
      refine va_iast hx hb hK hP hD hS 3 0 rfl rfl (vp_in_nI hj (by decide)) dX2_setOften_47 (fun H locs hP hD hS => ?_)
      rw [show (nI j).toNatClampNeg = j from fb_cl (by omega)] at hP hD
      have hP : va_P G vwCl [(h, .inr (2, [.int 0, .int dy, .int (nI w), .ref n, .ref d, .ref f, .ref o])), (n, .inl (cI, 12, .inl pf)), (d, .inl (cI, 12, .inl df)), (f, .inl (cI, 12, .inl (upd tf j v))), (o, .inl (cI, 12, .inl uf))] H := hP
      have hD : va_D A [(h, .inr (2, [.int 0, .int dy, .int (nI w), .ref n, .ref d, .ref f, .ref o])), (n, .inl (cI, 12, .inl pf)), (d, .inl (cI, 12, .inl df)), (f, .inl (cI, 12, .inl (upd tf j v))), (o, .inl (cI, 12, .inl uf))] := hD
      refine lv_iload_n hx hb dX2_setOften_48 rfl (lv_at hl 0 rfl) ?_
      have hP9 := hP.sub (ws' := [(h, .inr (2, [.int 0, .int dy, .int (nI w), .ref n, .ref d, .ref f, .ref o])), (n, .inl (cI, 12, .inl pf)), (d, .inl (cI, 12, .inl df)), (f, .inl (cI, 12, .inl (upd tf j v))), (o, .inl (cI, 12, .inl uf))]) [0, 1, 2, 3, 4] (rfl)
      have hD9 := hD.sub (ws' := [(h, .inr (2, [.int 0, .int dy, .int (nI w), .ref n, .ref d, .ref f, .ref o])), (n, .inl (cI, 12, .inl pf)), (d, .inl (cI, 12, .inl df)), (f, .inl (cI, 12, .inl (upd tf j v))), (o, .inl (cI, 12, .inl uf))]) [0, 1, 2, 3, 4] (by decide) (rfl)
      exact W.iret (v := fb_rg tf j) hx hb hr (fun t ht hW => ⟨⟨fb_rg tf j, (), rfl, rfl, by rw [ht]; exact hP9, hD9⟩, hS.F ht⟩) hS.2.2 dX2_setOften_49 hlk
    · skip
      first | exact absurd c25 (by decide) | exact absurd (by decide) c25
  · skip
    first | exact absurd c9 (by decide) | exact absurd (by decide) c9
set_option maxHeartbeats 4000000 in
set_option maxRecDepth 100000 in
theorem fb_c_X2_setOften_b1 (l : Launch) (G : va_G) (cI cL : ClassId) (h n d f o : Nat) (pf df tf uf : Nat → Int32) (th dy : Int32) (w : Nat) (p0 : Int32) (v : Int32) (hp : p0 < 0 ∨ 11 < p0) (sz : Nat) : fb_MI l yX2_setOften wsX2_setOften 2 42 [.ref h, .int p0, .int v] G cI cL sz (fb_MW cI h n d f o pf df tf uf th dy (nI w)) (fb_MW cI h n d f o pf df tf uf 1 dy (nI w)) 0 := by
  refine fb_mi_of (cc := cX2_setOften) (maxL := 4) (ret := (some .int)) (by decide) rfl (Nat.le_of_ble_eq_true rfl) ?_
  intro p e s m args below meth c A hx hb hr hml hlk hts hown hP hK hD hA hX ls hl
  have hown : s.vm.findClass RX2 = some m.cls := hown
  have hP : va_P G vwCl [(h, .inr (2, [.int th, .int dy, .int (nI w), .ref n, .ref d, .ref f, .ref o])), (n, .inl (cI, 12, .inl pf)), (d, .inl (cI, 12, .inl df)), (f, .inl (cI, 12, .inl tf)), (o, .inl (cI, 12, .inl uf))] s.heap := hP
  have hD : va_D A [(h, .inr (2, [.int th, .int dy, .int (nI w), .ref n, .ref d, .ref f, .ref o])), (n, .inl (cI, 12, .inl pf)), (d, .inl (cI, 12, .inl df)), (f, .inl (cI, 12, .inl tf)), (o, .inl (cI, 12, .inl uf))] := hD
  have hS : va_S A s.heap s.heap [] := va_S.rf
  have hXn : ∀ (H : Heap) (locs : List Loc), va_S A s.heap H locs → fb_sx (fun _ => False) s H := fun H locs h9 => (hX.kept h9.2.1).narrow (fun _ z => z.elim)
  have hl : lv_has ls 4 [(0, .ref h), (1, .int p0), (2, .int v)] := hl
  have hin2 : ∀ w ∈ u_ws RX2 TX2 7, w ∈ wsX2_setOften := by decide +kernel
  refine lv_aload_n hx hb dX2_setOften_0 rfl (lv_at hl 0 rfl) ?_
  refine lv_iconst (v := 0) hx hb dX2_setOften_1 (by decide) ?_
  refine va_put (D := G) (ci := 2) (v := .int 0) (ty := .int) (C := RX2) (T := TX2) (N := 7) hx hb hts (hin2) tyX2 tyX2_ok nmX2 hown hK hP hD hS 0 rfl rfl 0 (by decide) (hts (.fieldLink RX2 26 "FifthBeatsModel" "thrown" "I") (by decide +kernel)) (fun _ h9 => h9) rfl (by decide +kernel) rfl rfl (Nat.le_of_ble_eq_true rfl) dX2_setOften_2 (fun H locs hP hD hS => ?_)
  have hP : va_P G vwCl [(h, .inr (2, [.int 0, .int dy, .int (nI w), .ref n, .ref d, .ref f, .ref o])), (n, .inl (cI, 12, .inl pf)), (d, .inl (cI, 12, .inl df)), (f, .inl (cI, 12, .inl tf)), (o, .inl (cI, 12, .inl uf))] H := hP
  have hD : va_D A [(h, .inr (2, [.int 0, .int dy, .int (nI w), .ref n, .ref d, .ref f, .ref o])), (n, .inl (cI, 12, .inl pf)), (d, .inl (cI, 12, .inl df)), (f, .inl (cI, 12, .inl tf)), (o, .inl (cI, 12, .inl uf))] := hD
  refine lv_iload_n hx hb dX2_setOften_5 rfl (lv_at hl 1 rfl) ?_
  refine fb_roS (As := [.int p0]) (rest := []) (n := 1) ⟨hx, hb, hml, hown, hts⟩ (fb_c_X2_isOne l p0) gX2_setOften_X2_isOne rfl (by decide +kernel) (by decide) fb_Bl_T (fun _ _ _ => trivial) rfl hl.1 rfl (Nat.le_of_ble_eq_true rfl) dX2_setOften_6 (by decide) ?_
  refine fb_ti (z := 0) (fb_ii_0 hp) ?_
  refine lv_if_ne (tgt := 18) hx hb dX2_setOften_9 (by decide) (fun c9 => ?_) (fun c9 => ?_)
  · skip
    first | exact absurd c9 (by decide) | exact absurd (by decide) c9
  · skip
    refine lv_aload_n hx hb dX2_setOften_12 rfl (lv_at hl 0 rfl) ?_
    refine lv_iconst (v := 1) hx hb dX2_setOften_13 (by decide) ?_
    refine fb_miV (As := [.int 1]) (rest := []) (n := 1) (wr := []) (wz := [(h, .inr (2, [.int 1, .int dy, .int (nI w), .ref n, .ref d, .ref f, .ref o])), (n, .inl (cI, 12, .inl pf)), (d, .inl (cI, 12, .inl df)), (f, .inl (cI, 12, .inl tf)), (o, .inl (cI, 12, .inl uf))]) ⟨hx, hb, hml, hown, hts⟩ (fb_c_X2_no l G cI cL h n d f o pf df tf uf 0 dy w 1 _) gX2_setOften_X2_no rfl (by decide +kernel) (by decide) (va_recv hK hP (ci := 2) (q0 := 0) rfl rfl) hP hK hD hS hA hX [0, 1, 2, 3, 4] [] [0, 1, 2, 3, 4] rfl rfl rfl rfl rfl rfl (by decide) rfl hl.1 rfl (Nat.le_of_ble_eq_true rfl) dX2_setOften_14 (by decide) (fun H locs hP hD hS => ?_)
    have hP9 := hP.sub (ws' := [(h, .inr (2, [.int 1, .int dy, .int (nI w), .ref n, .ref d, .ref f, .ref o])), (n, .inl (cI, 12, .inl pf)), (d, .inl (cI, 12, .inl df)), (f, .inl (cI, 12, .inl tf)), (o, .inl (cI, 12, .inl uf))]) [0, 1, 2, 3, 4] (rfl)
    have hD9 := hD.sub (ws' := [(h, .inr (2, [.int 1, .int dy, .int (nI w), .ref n, .ref d, .ref f, .ref o])), (n, .inl (cI, 12, .inl pf)), (d, .inl (cI, 12, .inl df)), (f, .inl (cI, 12, .inl tf)), (o, .inl (cI, 12, .inl uf))]) [0, 1, 2, 3, 4] (by decide) (rfl)
    exact W.iret (v := 0) hx hb hr (fun t ht hW => ⟨⟨0, (), rfl, rfl, by rw [ht]; exact hP9, hD9⟩, hS.F ht⟩) hS.2.2 dX2_setOften_17 hlk
set_option maxHeartbeats 4000000 in
set_option maxRecDepth 100000 in
theorem fb_c_X2_setOften_b2 (l : Launch) (G : va_G) (cI cL : ClassId) (h n d f o : Nat) (pf df tf uf : Nat → Int32) (th dy : Int32) (w : Nat) (j : Nat) (v : Int32) (hj : j < 12) (h2 : v < 0 ∨ 9 < v) (sz : Nat) : fb_MI l yX2_setOften wsX2_setOften 2 42 [.ref h, .int (nI j), .int v] G cI cL sz (fb_MW cI h n d f o pf df tf uf th dy (nI w)) (fb_MW cI h n d f o pf df tf uf 2 dy (nI w)) 0 := by
  refine fb_mi_of (cc := cX2_setOften) (maxL := 4) (ret := (some .int)) (by decide) rfl (Nat.le_of_ble_eq_true rfl) ?_
  intro p e s m args below meth c A hx hb hr hml hlk hts hown hP hK hD hA hX ls hl
  have hown : s.vm.findClass RX2 = some m.cls := hown
  have hP : va_P G vwCl [(h, .inr (2, [.int th, .int dy, .int (nI w), .ref n, .ref d, .ref f, .ref o])), (n, .inl (cI, 12, .inl pf)), (d, .inl (cI, 12, .inl df)), (f, .inl (cI, 12, .inl tf)), (o, .inl (cI, 12, .inl uf))] s.heap := hP
  have hD : va_D A [(h, .inr (2, [.int th, .int dy, .int (nI w), .ref n, .ref d, .ref f, .ref o])), (n, .inl (cI, 12, .inl pf)), (d, .inl (cI, 12, .inl df)), (f, .inl (cI, 12, .inl tf)), (o, .inl (cI, 12, .inl uf))] := hD
  have hS : va_S A s.heap s.heap [] := va_S.rf
  have hXn : ∀ (H : Heap) (locs : List Loc), va_S A s.heap H locs → fb_sx (fun _ => False) s H := fun H locs h9 => (hX.kept h9.2.1).narrow (fun _ z => z.elim)
  have hl : lv_has ls 4 [(0, .ref h), (1, .int (nI j)), (2, .int v)] := hl
  have hin2 : ∀ w ∈ u_ws RX2 TX2 7, w ∈ wsX2_setOften := by decide +kernel
  refine lv_aload_n hx hb dX2_setOften_0 rfl (lv_at hl 0 rfl) ?_
  refine lv_iconst (v := 0) hx hb dX2_setOften_1 (by decide) ?_
  refine va_put (D := G) (ci := 2) (v := .int 0) (ty := .int) (C := RX2) (T := TX2) (N := 7) hx hb hts (hin2) tyX2 tyX2_ok nmX2 hown hK hP hD hS 0 rfl rfl 0 (by decide) (hts (.fieldLink RX2 26 "FifthBeatsModel" "thrown" "I") (by decide +kernel)) (fun _ h9 => h9) rfl (by decide +kernel) rfl rfl (Nat.le_of_ble_eq_true rfl) dX2_setOften_2 (fun H locs hP hD hS => ?_)
  have hP : va_P G vwCl [(h, .inr (2, [.int 0, .int dy, .int (nI w), .ref n, .ref d, .ref f, .ref o])), (n, .inl (cI, 12, .inl pf)), (d, .inl (cI, 12, .inl df)), (f, .inl (cI, 12, .inl tf)), (o, .inl (cI, 12, .inl uf))] H := hP
  have hD : va_D A [(h, .inr (2, [.int 0, .int dy, .int (nI w), .ref n, .ref d, .ref f, .ref o])), (n, .inl (cI, 12, .inl pf)), (d, .inl (cI, 12, .inl df)), (f, .inl (cI, 12, .inl tf)), (o, .inl (cI, 12, .inl uf))] := hD
  refine lv_iload_n hx hb dX2_setOften_5 rfl (lv_at hl 1 rfl) ?_
  refine fb_roS (As := [.int (nI j)]) (rest := []) (n := 1) ⟨hx, hb, hml, hown, hts⟩ (fb_c_X2_isOne l (nI j)) gX2_setOften_X2_isOne rfl (by decide +kernel) (by decide) fb_Bl_T (fun _ _ _ => trivial) rfl hl.1 rfl (Nat.le_of_ble_eq_true rfl) dX2_setOften_6 (by decide) ?_
  refine fb_ti (z := 1) (fb_ii_j hj) ?_
  refine lv_if_ne (tgt := 18) hx hb dX2_setOften_9 (by decide) (fun c9 => ?_) (fun c9 => ?_)
  · skip
    refine lv_iload_n hx hb dX2_setOften_18 rfl (lv_at hl 2 rfl) ?_
    refine lv_iconst (v := 0) hx hb dX2_setOften_19 (by decide) ?_
    refine lv_bipush (v := 9) hx hb dX2_setOften_20 (by decide) ?_
    refine fb_roS (As := [.int v, .int 0, .int 9]) (rest := []) (n := 3) ⟨hx, hb, hml, hown, hts⟩ (fb_c_X2_isIn l v 0 9) gX2_setOften_X2_isIn rfl (by decide +kernel) (by decide) fb_Bl_T (fun _ _ _ => trivial) rfl hl.1 rfl (Nat.le_of_ble_eq_true rfl) dX2_setOften_22 (by decide) ?_
    refine fb_ti (z := 0) (fb_ii_0 h2) ?_
    refine lv_if_ne (tgt := 34) hx hb dX2_setOften_25 (by decide) (fun c25 => ?_) (fun c25 => ?_)
    · skip
      first | exact absurd c25 (by decide) | exact absurd (by decide) c25
    · skip
      refine lv_aload_n hx hb dX2_setOften_28 rfl (lv_at hl 0 rfl) ?_
      refine lv_iconst (v := 2) hx hb dX2_setOften_29 (by decide) ?_
      refine fb_miV (As := [.int 2]) (rest := []) (n := 1) (wr := []) (wz := [(h, .inr (2, [.int 2, .int dy, .int (nI w), .ref n, .ref d, .ref f, .ref o])), (n, .inl (cI, 12, .inl pf)), (d, .inl (cI, 12, .inl df)), (f, .inl (cI, 12, .inl tf)), (o, .inl (cI, 12, .inl uf))]) ⟨hx, hb, hml, hown, hts⟩ (fb_c_X2_no l G cI cL h n d f o pf df tf uf 0 dy w 2 _) gX2_setOften_X2_no rfl (by decide +kernel) (by decide) (va_recv hK hP (ci := 2) (q0 := 0) rfl rfl) hP hK hD hS hA hX [0, 1, 2, 3, 4] [] [0, 1, 2, 3, 4] rfl rfl rfl rfl rfl rfl (by decide) rfl hl.1 rfl (Nat.le_of_ble_eq_true rfl) dX2_setOften_30 (by decide) (fun H locs hP hD hS => ?_)
      have hP9 := hP.sub (ws' := [(h, .inr (2, [.int 2, .int dy, .int (nI w), .ref n, .ref d, .ref f, .ref o])), (n, .inl (cI, 12, .inl pf)), (d, .inl (cI, 12, .inl df)), (f, .inl (cI, 12, .inl tf)), (o, .inl (cI, 12, .inl uf))]) [0, 1, 2, 3, 4] (rfl)
      have hD9 := hD.sub (ws' := [(h, .inr (2, [.int 2, .int dy, .int (nI w), .ref n, .ref d, .ref f, .ref o])), (n, .inl (cI, 12, .inl pf)), (d, .inl (cI, 12, .inl df)), (f, .inl (cI, 12, .inl tf)), (o, .inl (cI, 12, .inl uf))]) [0, 1, 2, 3, 4] (by decide) (rfl)
      exact W.iret (v := 0) hx hb hr (fun t ht hW => ⟨⟨0, (), rfl, rfl, by rw [ht]; exact hP9, hD9⟩, hS.F ht⟩) hS.2.2 dX2_setOften_33 hlk
  · skip
    first | exact absurd c9 (by decide) | exact absurd (by decide) c9
set_option maxHeartbeats 4000000 in
set_option maxRecDepth 100000 in
theorem fb_c_X2_setDrift_ok (l : Launch) (G : va_G) (cI cL : ClassId) (h n d f o : Nat) (pf df tf uf : Nat → Int32) (th dy : Int32) (w : Nat) (j : Nat) (v : Int32) (hj : j < 12) (h2 : ¬ (v < (-3) ∨ 3 < v)) (sz : Nat) : fb_MI l yX2_setDrift wsX2_setDrift 2 42 [.ref h, .int (nI j), .int v] G cI cL sz (fb_MW cI h n d f o pf df tf uf th dy (nI w)) (fb_MW cI h n d f o pf (upd df j v) tf uf 0 dy (nI w)) (fb_rg df j) := by
  refine fb_mi_of (cc := cX2_setDrift) (maxL := 4) (ret := (some .int)) (by decide) rfl (Nat.le_of_ble_eq_true rfl) ?_
  intro p e s m args below meth c A hx hb hr hml hlk hts hown hP hK hD hA hX ls hl
  have hown : s.vm.findClass RX2 = some m.cls := hown
  have hP : va_P G vwCl [(h, .inr (2, [.int th, .int dy, .int (nI w), .ref n, .ref d, .ref f, .ref o])), (n, .inl (cI, 12, .inl pf)), (d, .inl (cI, 12, .inl df)), (f, .inl (cI, 12, .inl tf)), (o, .inl (cI, 12, .inl uf))] s.heap := hP
  have hD : va_D A [(h, .inr (2, [.int th, .int dy, .int (nI w), .ref n, .ref d, .ref f, .ref o])), (n, .inl (cI, 12, .inl pf)), (d, .inl (cI, 12, .inl df)), (f, .inl (cI, 12, .inl tf)), (o, .inl (cI, 12, .inl uf))] := hD
  have hS : va_S A s.heap s.heap [] := va_S.rf
  have hXn : ∀ (H : Heap) (locs : List Loc), va_S A s.heap H locs → fb_sx (fun _ => False) s H := fun H locs h9 => (hX.kept h9.2.1).narrow (fun _ z => z.elim)
  have hl : lv_has ls 4 [(0, .ref h), (1, .int (nI j)), (2, .int v)] := hl
  have hin2 : ∀ w ∈ u_ws RX2 TX2 7, w ∈ wsX2_setDrift := by decide +kernel
  refine lv_aload_n hx hb dX2_setDrift_0 rfl (lv_at hl 0 rfl) ?_
  refine lv_iconst (v := 0) hx hb dX2_setDrift_1 (by decide) ?_
  refine va_put (D := G) (ci := 2) (v := .int 0) (ty := .int) (C := RX2) (T := TX2) (N := 7) hx hb hts (hin2) tyX2 tyX2_ok nmX2 hown hK hP hD hS 0 rfl rfl 0 (by decide) (hts (.fieldLink RX2 26 "FifthBeatsModel" "thrown" "I") (by decide +kernel)) (fun _ h9 => h9) rfl (by decide +kernel) rfl rfl (Nat.le_of_ble_eq_true rfl) dX2_setDrift_2 (fun H locs hP hD hS => ?_)
  have hP : va_P G vwCl [(h, .inr (2, [.int 0, .int dy, .int (nI w), .ref n, .ref d, .ref f, .ref o])), (n, .inl (cI, 12, .inl pf)), (d, .inl (cI, 12, .inl df)), (f, .inl (cI, 12, .inl tf)), (o, .inl (cI, 12, .inl uf))] H := hP
  have hD : va_D A [(h, .inr (2, [.int 0, .int dy, .int (nI w), .ref n, .ref d, .ref f, .ref o])), (n, .inl (cI, 12, .inl pf)), (d, .inl (cI, 12, .inl df)), (f, .inl (cI, 12, .inl tf)), (o, .inl (cI, 12, .inl uf))] := hD
  refine lv_iload_n hx hb dX2_setDrift_5 rfl (lv_at hl 1 rfl) ?_
  refine fb_roS (As := [.int (nI j)]) (rest := []) (n := 1) ⟨hx, hb, hml, hown, hts⟩ (fb_c_X2_isOne l (nI j)) gX2_setDrift_X2_isOne rfl (by decide +kernel) (by decide) fb_Bl_T (fun _ _ _ => trivial) rfl hl.1 rfl (Nat.le_of_ble_eq_true rfl) dX2_setDrift_6 (by decide) ?_
  refine fb_ti (z := 1) (fb_ii_j hj) ?_
  refine lv_if_ne (tgt := 18) hx hb dX2_setDrift_9 (by decide) (fun c9 => ?_) (fun c9 => ?_)
  · skip
    refine lv_iload_n hx hb dX2_setDrift_18 rfl (lv_at hl 2 rfl) ?_
    refine lv_bipush (v := (-3)) hx hb dX2_setDrift_19 (by decide) ?_
    refine lv_iconst (v := 3) hx hb dX2_setDrift_21 (by decide) ?_
    refine fb_roS (As := [.int v, .int (-3), .int 3]) (rest := []) (n := 3) ⟨hx, hb, hml, hown, hts⟩ (fb_c_X2_isIn l v (-3) 3) gX2_setDrift_X2_isIn rfl (by decide +kernel) (by decide) fb_Bl_T (fun _ _ _ => trivial) rfl hl.1 rfl (Nat.le_of_ble_eq_true rfl) dX2_setDrift_22 (by decide) ?_
    refine fb_ti (z := 1) (fb_ii_1 h2) ?_
    refine lv_if_ne (tgt := 34) hx hb dX2_setDrift_25 (by decide) (fun c25 => ?_) (fun c25 => ?_)
    · skip
      refine lv_aload_n hx hb dX2_setDrift_34 rfl (lv_at hl 0 rfl) ?_
      refine va_get (D := G) (ci := 2) (v := .ref d) (C := RX2) (T := TX2) (N := 7) hx hb hts (hin2) hown hK hP 0 rfl rfl 4 (by decide) (hts (.fieldLink RX2 17 "FifthBeatsModel" "drift" "[I") (by decide +kernel)) (fun _ h9 => h9) rfl dX2_setDrift_35 ?_
      refine lv_iload_n hx hb dX2_setDrift_38 rfl (lv_at hl 1 rfl) ?_
      refine va_iald hx hb hK hP 2 0 rfl rfl (vp_in_nI hj (by decide)) dX2_setDrift_39 ?_
      refine fb_ti (z := fb_rg df j) (by rw [fb_cl (by omega), fb_rg_lt hj]) ?_
      refine lv_istore_n (lv' := [(3, .int (fb_rg df j)), (0, .ref h), (1, .int (nI j)), (2, .int v)]) hx hb dX2_setDrift_40 rfl hl (by decide) rfl (fun ls hl => ?_)
      refine lv_aload_n hx hb dX2_setDrift_41 rfl (lv_at hl 1 rfl) ?_
      refine va_get (D := G) (ci := 2) (v := .ref d) (C := RX2) (T := TX2) (N := 7) hx hb hts (hin2) hown hK hP 0 rfl rfl 4 (by decide) (hts (.fieldLink RX2 17 "FifthBeatsModel" "drift" "[I") (by decide +kernel)) (fun _ h9 => h9) rfl dX2_setDrift_42 ?_
      refine lv_iload_n hx hb dX2_setDrift_45 rfl (lv_at hl 2 rfl) ?_
      refine lv_iload_n hx hb dX2_setDrift_46 rfl (lv_at hl 3 rfl) ?_
      refine va_iast hx hb hK hP hD hS 2 0 rfl rfl (vp_in_nI hj (by decide)) dX2_setDrift_47 (fun H locs hP hD hS => ?_)
      rw [show (nI j).toNatClampNeg = j from fb_cl (by omega)] at hP hD
      have hP : va_P G vwCl [(h, .inr (2, [.int 0, .int dy, .int (nI w), .ref n, .ref d, .ref f, .ref o])), (n, .inl (cI, 12, .inl pf)), (d, .inl (cI, 12, .inl (upd df j v))), (f, .inl (cI, 12, .inl tf)), (o, .inl (cI, 12, .inl uf))] H := hP
      have hD : va_D A [(h, .inr (2, [.int 0, .int dy, .int (nI w), .ref n, .ref d, .ref f, .ref o])), (n, .inl (cI, 12, .inl pf)), (d, .inl (cI, 12, .inl (upd df j v))), (f, .inl (cI, 12, .inl tf)), (o, .inl (cI, 12, .inl uf))] := hD
      refine lv_iload_n hx hb dX2_setDrift_48 rfl (lv_at hl 0 rfl) ?_
      have hP9 := hP.sub (ws' := [(h, .inr (2, [.int 0, .int dy, .int (nI w), .ref n, .ref d, .ref f, .ref o])), (n, .inl (cI, 12, .inl pf)), (d, .inl (cI, 12, .inl (upd df j v))), (f, .inl (cI, 12, .inl tf)), (o, .inl (cI, 12, .inl uf))]) [0, 1, 2, 3, 4] (rfl)
      have hD9 := hD.sub (ws' := [(h, .inr (2, [.int 0, .int dy, .int (nI w), .ref n, .ref d, .ref f, .ref o])), (n, .inl (cI, 12, .inl pf)), (d, .inl (cI, 12, .inl (upd df j v))), (f, .inl (cI, 12, .inl tf)), (o, .inl (cI, 12, .inl uf))]) [0, 1, 2, 3, 4] (by decide) (rfl)
      exact W.iret (v := fb_rg df j) hx hb hr (fun t ht hW => ⟨⟨fb_rg df j, (), rfl, rfl, by rw [ht]; exact hP9, hD9⟩, hS.F ht⟩) hS.2.2 dX2_setDrift_49 hlk
    · skip
      first | exact absurd c25 (by decide) | exact absurd (by decide) c25
  · skip
    first | exact absurd c9 (by decide) | exact absurd (by decide) c9
set_option maxHeartbeats 4000000 in
set_option maxRecDepth 100000 in
theorem fb_c_X2_setDrift_b1 (l : Launch) (G : va_G) (cI cL : ClassId) (h n d f o : Nat) (pf df tf uf : Nat → Int32) (th dy : Int32) (w : Nat) (p0 : Int32) (v : Int32) (hp : p0 < 0 ∨ 11 < p0) (sz : Nat) : fb_MI l yX2_setDrift wsX2_setDrift 2 42 [.ref h, .int p0, .int v] G cI cL sz (fb_MW cI h n d f o pf df tf uf th dy (nI w)) (fb_MW cI h n d f o pf df tf uf 1 dy (nI w)) 0 := by
  refine fb_mi_of (cc := cX2_setDrift) (maxL := 4) (ret := (some .int)) (by decide) rfl (Nat.le_of_ble_eq_true rfl) ?_
  intro p e s m args below meth c A hx hb hr hml hlk hts hown hP hK hD hA hX ls hl
  have hown : s.vm.findClass RX2 = some m.cls := hown
  have hP : va_P G vwCl [(h, .inr (2, [.int th, .int dy, .int (nI w), .ref n, .ref d, .ref f, .ref o])), (n, .inl (cI, 12, .inl pf)), (d, .inl (cI, 12, .inl df)), (f, .inl (cI, 12, .inl tf)), (o, .inl (cI, 12, .inl uf))] s.heap := hP
  have hD : va_D A [(h, .inr (2, [.int th, .int dy, .int (nI w), .ref n, .ref d, .ref f, .ref o])), (n, .inl (cI, 12, .inl pf)), (d, .inl (cI, 12, .inl df)), (f, .inl (cI, 12, .inl tf)), (o, .inl (cI, 12, .inl uf))] := hD
  have hS : va_S A s.heap s.heap [] := va_S.rf
  have hXn : ∀ (H : Heap) (locs : List Loc), va_S A s.heap H locs → fb_sx (fun _ => False) s H := fun H locs h9 => (hX.kept h9.2.1).narrow (fun _ z => z.elim)
  have hl : lv_has ls 4 [(0, .ref h), (1, .int p0), (2, .int v)] := hl
  have hin2 : ∀ w ∈ u_ws RX2 TX2 7, w ∈ wsX2_setDrift := by decide +kernel
  refine lv_aload_n hx hb dX2_setDrift_0 rfl (lv_at hl 0 rfl) ?_
  refine lv_iconst (v := 0) hx hb dX2_setDrift_1 (by decide) ?_
  refine va_put (D := G) (ci := 2) (v := .int 0) (ty := .int) (C := RX2) (T := TX2) (N := 7) hx hb hts (hin2) tyX2 tyX2_ok nmX2 hown hK hP hD hS 0 rfl rfl 0 (by decide) (hts (.fieldLink RX2 26 "FifthBeatsModel" "thrown" "I") (by decide +kernel)) (fun _ h9 => h9) rfl (by decide +kernel) rfl rfl (Nat.le_of_ble_eq_true rfl) dX2_setDrift_2 (fun H locs hP hD hS => ?_)
  have hP : va_P G vwCl [(h, .inr (2, [.int 0, .int dy, .int (nI w), .ref n, .ref d, .ref f, .ref o])), (n, .inl (cI, 12, .inl pf)), (d, .inl (cI, 12, .inl df)), (f, .inl (cI, 12, .inl tf)), (o, .inl (cI, 12, .inl uf))] H := hP
  have hD : va_D A [(h, .inr (2, [.int 0, .int dy, .int (nI w), .ref n, .ref d, .ref f, .ref o])), (n, .inl (cI, 12, .inl pf)), (d, .inl (cI, 12, .inl df)), (f, .inl (cI, 12, .inl tf)), (o, .inl (cI, 12, .inl uf))] := hD
  refine lv_iload_n hx hb dX2_setDrift_5 rfl (lv_at hl 1 rfl) ?_
  refine fb_roS (As := [.int p0]) (rest := []) (n := 1) ⟨hx, hb, hml, hown, hts⟩ (fb_c_X2_isOne l p0) gX2_setDrift_X2_isOne rfl (by decide +kernel) (by decide) fb_Bl_T (fun _ _ _ => trivial) rfl hl.1 rfl (Nat.le_of_ble_eq_true rfl) dX2_setDrift_6 (by decide) ?_
  refine fb_ti (z := 0) (fb_ii_0 hp) ?_
  refine lv_if_ne (tgt := 18) hx hb dX2_setDrift_9 (by decide) (fun c9 => ?_) (fun c9 => ?_)
  · skip
    first | exact absurd c9 (by decide) | exact absurd (by decide) c9
  · skip
    refine lv_aload_n hx hb dX2_setDrift_12 rfl (lv_at hl 0 rfl) ?_
    refine lv_iconst (v := 1) hx hb dX2_setDrift_13 (by decide) ?_
    refine fb_miV (As := [.int 1]) (rest := []) (n := 1) (wr := []) (wz := [(h, .inr (2, [.int 1, .int dy, .int (nI w), .ref n, .ref d, .ref f, .ref o])), (n, .inl (cI, 12, .inl pf)), (d, .inl (cI, 12, .inl df)), (f, .inl (cI, 12, .inl tf)), (o, .inl (cI, 12, .inl uf))]) ⟨hx, hb, hml, hown, hts⟩ (fb_c_X2_no l G cI cL h n d f o pf df tf uf 0 dy w 1 _) gX2_setDrift_X2_no rfl (by decide +kernel) (by decide) (va_recv hK hP (ci := 2) (q0 := 0) rfl rfl) hP hK hD hS hA hX [0, 1, 2, 3, 4] [] [0, 1, 2, 3, 4] rfl rfl rfl rfl rfl rfl (by decide) rfl hl.1 rfl (Nat.le_of_ble_eq_true rfl) dX2_setDrift_14 (by decide) (fun H locs hP hD hS => ?_)
    have hP9 := hP.sub (ws' := [(h, .inr (2, [.int 1, .int dy, .int (nI w), .ref n, .ref d, .ref f, .ref o])), (n, .inl (cI, 12, .inl pf)), (d, .inl (cI, 12, .inl df)), (f, .inl (cI, 12, .inl tf)), (o, .inl (cI, 12, .inl uf))]) [0, 1, 2, 3, 4] (rfl)
    have hD9 := hD.sub (ws' := [(h, .inr (2, [.int 1, .int dy, .int (nI w), .ref n, .ref d, .ref f, .ref o])), (n, .inl (cI, 12, .inl pf)), (d, .inl (cI, 12, .inl df)), (f, .inl (cI, 12, .inl tf)), (o, .inl (cI, 12, .inl uf))]) [0, 1, 2, 3, 4] (by decide) (rfl)
    exact W.iret (v := 0) hx hb hr (fun t ht hW => ⟨⟨0, (), rfl, rfl, by rw [ht]; exact hP9, hD9⟩, hS.F ht⟩) hS.2.2 dX2_setDrift_17 hlk
set_option maxHeartbeats 4000000 in
set_option maxRecDepth 100000 in
theorem fb_c_X2_setDrift_b2 (l : Launch) (G : va_G) (cI cL : ClassId) (h n d f o : Nat) (pf df tf uf : Nat → Int32) (th dy : Int32) (w : Nat) (j : Nat) (v : Int32) (hj : j < 12) (h2 : v < (-3) ∨ 3 < v) (sz : Nat) : fb_MI l yX2_setDrift wsX2_setDrift 2 42 [.ref h, .int (nI j), .int v] G cI cL sz (fb_MW cI h n d f o pf df tf uf th dy (nI w)) (fb_MW cI h n d f o pf df tf uf 2 dy (nI w)) 0 := by
  refine fb_mi_of (cc := cX2_setDrift) (maxL := 4) (ret := (some .int)) (by decide) rfl (Nat.le_of_ble_eq_true rfl) ?_
  intro p e s m args below meth c A hx hb hr hml hlk hts hown hP hK hD hA hX ls hl
  have hown : s.vm.findClass RX2 = some m.cls := hown
  have hP : va_P G vwCl [(h, .inr (2, [.int th, .int dy, .int (nI w), .ref n, .ref d, .ref f, .ref o])), (n, .inl (cI, 12, .inl pf)), (d, .inl (cI, 12, .inl df)), (f, .inl (cI, 12, .inl tf)), (o, .inl (cI, 12, .inl uf))] s.heap := hP
  have hD : va_D A [(h, .inr (2, [.int th, .int dy, .int (nI w), .ref n, .ref d, .ref f, .ref o])), (n, .inl (cI, 12, .inl pf)), (d, .inl (cI, 12, .inl df)), (f, .inl (cI, 12, .inl tf)), (o, .inl (cI, 12, .inl uf))] := hD
  have hS : va_S A s.heap s.heap [] := va_S.rf
  have hXn : ∀ (H : Heap) (locs : List Loc), va_S A s.heap H locs → fb_sx (fun _ => False) s H := fun H locs h9 => (hX.kept h9.2.1).narrow (fun _ z => z.elim)
  have hl : lv_has ls 4 [(0, .ref h), (1, .int (nI j)), (2, .int v)] := hl
  have hin2 : ∀ w ∈ u_ws RX2 TX2 7, w ∈ wsX2_setDrift := by decide +kernel
  refine lv_aload_n hx hb dX2_setDrift_0 rfl (lv_at hl 0 rfl) ?_
  refine lv_iconst (v := 0) hx hb dX2_setDrift_1 (by decide) ?_
  refine va_put (D := G) (ci := 2) (v := .int 0) (ty := .int) (C := RX2) (T := TX2) (N := 7) hx hb hts (hin2) tyX2 tyX2_ok nmX2 hown hK hP hD hS 0 rfl rfl 0 (by decide) (hts (.fieldLink RX2 26 "FifthBeatsModel" "thrown" "I") (by decide +kernel)) (fun _ h9 => h9) rfl (by decide +kernel) rfl rfl (Nat.le_of_ble_eq_true rfl) dX2_setDrift_2 (fun H locs hP hD hS => ?_)
  have hP : va_P G vwCl [(h, .inr (2, [.int 0, .int dy, .int (nI w), .ref n, .ref d, .ref f, .ref o])), (n, .inl (cI, 12, .inl pf)), (d, .inl (cI, 12, .inl df)), (f, .inl (cI, 12, .inl tf)), (o, .inl (cI, 12, .inl uf))] H := hP
  have hD : va_D A [(h, .inr (2, [.int 0, .int dy, .int (nI w), .ref n, .ref d, .ref f, .ref o])), (n, .inl (cI, 12, .inl pf)), (d, .inl (cI, 12, .inl df)), (f, .inl (cI, 12, .inl tf)), (o, .inl (cI, 12, .inl uf))] := hD
  refine lv_iload_n hx hb dX2_setDrift_5 rfl (lv_at hl 1 rfl) ?_
  refine fb_roS (As := [.int (nI j)]) (rest := []) (n := 1) ⟨hx, hb, hml, hown, hts⟩ (fb_c_X2_isOne l (nI j)) gX2_setDrift_X2_isOne rfl (by decide +kernel) (by decide) fb_Bl_T (fun _ _ _ => trivial) rfl hl.1 rfl (Nat.le_of_ble_eq_true rfl) dX2_setDrift_6 (by decide) ?_
  refine fb_ti (z := 1) (fb_ii_j hj) ?_
  refine lv_if_ne (tgt := 18) hx hb dX2_setDrift_9 (by decide) (fun c9 => ?_) (fun c9 => ?_)
  · skip
    refine lv_iload_n hx hb dX2_setDrift_18 rfl (lv_at hl 2 rfl) ?_
    refine lv_bipush (v := (-3)) hx hb dX2_setDrift_19 (by decide) ?_
    refine lv_iconst (v := 3) hx hb dX2_setDrift_21 (by decide) ?_
    refine fb_roS (As := [.int v, .int (-3), .int 3]) (rest := []) (n := 3) ⟨hx, hb, hml, hown, hts⟩ (fb_c_X2_isIn l v (-3) 3) gX2_setDrift_X2_isIn rfl (by decide +kernel) (by decide) fb_Bl_T (fun _ _ _ => trivial) rfl hl.1 rfl (Nat.le_of_ble_eq_true rfl) dX2_setDrift_22 (by decide) ?_
    refine fb_ti (z := 0) (fb_ii_0 h2) ?_
    refine lv_if_ne (tgt := 34) hx hb dX2_setDrift_25 (by decide) (fun c25 => ?_) (fun c25 => ?_)
    · skip
      first | exact absurd c25 (by decide) | exact absurd (by decide) c25
    · skip
      refine lv_aload_n hx hb dX2_setDrift_28 rfl (lv_at hl 0 rfl) ?_
      refine lv_iconst (v := 2) hx hb dX2_setDrift_29 (by decide) ?_
      refine fb_miV (As := [.int 2]) (rest := []) (n := 1) (wr := []) (wz := [(h, .inr (2, [.int 2, .int dy, .int (nI w), .ref n, .ref d, .ref f, .ref o])), (n, .inl (cI, 12, .inl pf)), (d, .inl (cI, 12, .inl df)), (f, .inl (cI, 12, .inl tf)), (o, .inl (cI, 12, .inl uf))]) ⟨hx, hb, hml, hown, hts⟩ (fb_c_X2_no l G cI cL h n d f o pf df tf uf 0 dy w 2 _) gX2_setDrift_X2_no rfl (by decide +kernel) (by decide) (va_recv hK hP (ci := 2) (q0 := 0) rfl rfl) hP hK hD hS hA hX [0, 1, 2, 3, 4] [] [0, 1, 2, 3, 4] rfl rfl rfl rfl rfl rfl (by decide) rfl hl.1 rfl (Nat.le_of_ble_eq_true rfl) dX2_setDrift_30 (by decide) (fun H locs hP hD hS => ?_)
      have hP9 := hP.sub (ws' := [(h, .inr (2, [.int 2, .int dy, .int (nI w), .ref n, .ref d, .ref f, .ref o])), (n, .inl (cI, 12, .inl pf)), (d, .inl (cI, 12, .inl df)), (f, .inl (cI, 12, .inl tf)), (o, .inl (cI, 12, .inl uf))]) [0, 1, 2, 3, 4] (rfl)
      have hD9 := hD.sub (ws' := [(h, .inr (2, [.int 2, .int dy, .int (nI w), .ref n, .ref d, .ref f, .ref o])), (n, .inl (cI, 12, .inl pf)), (d, .inl (cI, 12, .inl df)), (f, .inl (cI, 12, .inl tf)), (o, .inl (cI, 12, .inl uf))]) [0, 1, 2, 3, 4] (by decide) (rfl)
      exact W.iret (v := 0) hx hb hr (fun t ht hW => ⟨⟨0, (), rfl, rfl, by rw [ht]; exact hP9, hD9⟩, hS.F ht⟩) hS.2.2 dX2_setDrift_33 hlk
  · skip
    first | exact absurd c9 (by decide) | exact absurd (by decide) c9
set_option maxHeartbeats 4000000 in
set_option maxRecDepth 100000 in
theorem fb_c_X2_tune_ok (l : Launch) (G : va_G) (cI cL : ClassId) (h n d f o : Nat) (pf df tf uf : Nat → Int32) (th dy : Int32) (w : Nat) (j : Nat) (hj : j < 12) (hjw : ¬ (j + 11) % 12 = w) (hw : w < 12) (sz : Nat) : fb_MI l yX2_tune wsX2_tune 2 42 [.ref h, .int (nI j)] G cI cL sz (fb_MW cI h n d f o pf df tf uf th dy (nI w)) (fb_MW cI h n d f o pf df tf (fb_t1 uf j) 0 dy (nI w)) (fb_tr uf j) := by
  refine fb_mi_of (cc := cX2_tune) (maxL := 2) (ret := (some .int)) (by decide) rfl (Nat.le_of_ble_eq_true rfl) ?_
  intro p e s m args below meth c A hx hb hr hml hlk hts hown hP hK hD hA hX ls hl
  have hown : s.vm.findClass RX2 = some m.cls := hown
  have hP : va_P G vwCl [(h, .inr (2, [.int th, .int dy, .int (nI w), .ref n, .ref d, .ref f, .ref o])), (n, .inl (cI, 12, .inl pf)), (d, .inl (cI, 12, .inl df)), (f, .inl (cI, 12, .inl tf)), (o, .inl (cI, 12, .inl uf))] s.heap := hP
  have hD : va_D A [(h, .inr (2, [.int th, .int dy, .int (nI w), .ref n, .ref d, .ref f, .ref o])), (n, .inl (cI, 12, .inl pf)), (d, .inl (cI, 12, .inl df)), (f, .inl (cI, 12, .inl tf)), (o, .inl (cI, 12, .inl uf))] := hD
  have hS : va_S A s.heap s.heap [] := va_S.rf
  have hXn : ∀ (H : Heap) (locs : List Loc), va_S A s.heap H locs → fb_sx (fun _ => False) s H := fun H locs h9 => (hX.kept h9.2.1).narrow (fun _ z => z.elim)
  have hl : lv_has ls 2 [(0, .ref h), (1, .int (nI j))] := hl
  have hin2 : ∀ w ∈ u_ws RX2 TX2 7, w ∈ wsX2_tune := by decide +kernel
  refine lv_aload_n hx hb dX2_tune_0 rfl (lv_at hl 0 rfl) ?_
  refine lv_iconst (v := 0) hx hb dX2_tune_1 (by decide) ?_
  refine va_put (D := G) (ci := 2) (v := .int 0) (ty := .int) (C := RX2) (T := TX2) (N := 7) hx hb hts (hin2) tyX2 tyX2_ok nmX2 hown hK hP hD hS 0 rfl rfl 0 (by decide) (hts (.fieldLink RX2 26 "FifthBeatsModel" "thrown" "I") (by decide +kernel)) (fun _ h9 => h9) rfl (by decide +kernel) rfl rfl (Nat.le_of_ble_eq_true rfl) dX2_tune_2 (fun H locs hP hD hS => ?_)
  have hP : va_P G vwCl [(h, .inr (2, [.int 0, .int dy, .int (nI w), .ref n, .ref d, .ref f, .ref o])), (n, .inl (cI, 12, .inl pf)), (d, .inl (cI, 12, .inl df)), (f, .inl (cI, 12, .inl tf)), (o, .inl (cI, 12, .inl uf))] H := hP
  have hD : va_D A [(h, .inr (2, [.int 0, .int dy, .int (nI w), .ref n, .ref d, .ref f, .ref o])), (n, .inl (cI, 12, .inl pf)), (d, .inl (cI, 12, .inl df)), (f, .inl (cI, 12, .inl tf)), (o, .inl (cI, 12, .inl uf))] := hD
  refine lv_iload_n hx hb dX2_tune_5 rfl (lv_at hl 1 rfl) ?_
  refine fb_roS (As := [.int (nI j)]) (rest := []) (n := 1) ⟨hx, hb, hml, hown, hts⟩ (fb_c_X2_isOne l (nI j)) gX2_tune_X2_isOne rfl (by decide +kernel) (by decide) fb_Bl_T (fun _ _ _ => trivial) rfl hl.1 rfl (Nat.le_of_ble_eq_true rfl) dX2_tune_6 (by decide) ?_
  refine fb_ti (z := 1) (fb_ii_j hj) ?_
  refine lv_if_ne (tgt := 18) hx hb dX2_tune_9 (by decide) (fun c9 => ?_) (fun c9 => ?_)
  · skip
    refine lv_aload_n hx hb dX2_tune_18 rfl (lv_at hl 0 rfl) ?_
    refine lv_iload_n hx hb dX2_tune_19 rfl (lv_at hl 1 rfl) ?_
    refine fb_roV (As := [.int (nI j)]) (rest := []) (n := 1) ⟨hx, hb, hml, hown, hts⟩ (fb_c_X2_canTune l G cI cL h n d f o pf df tf uf 0 dy w j hj hw) gX2_tune_X2_canTune rfl (by decide +kernel) (by decide) (fb_PB.bl _ _ _ _) (va_recv hK hP (ci := 2) (q0 := 0) rfl rfl) (fb_PB.to hP hK (hXn _ _ hS)) rfl hl.1 rfl (Nat.le_of_ble_eq_true rfl) dX2_tune_20 (by decide) ?_
    refine fb_ti (z := 1) (if_neg hjw) ?_
    refine lv_if_eq (tgt := 34) hx hb dX2_tune_23 (by decide) (fun c23 => ?_) (fun c23 => ?_)
    · skip
      first | exact absurd c23 (by decide) | exact absurd (by decide) c23
    · skip
      refine lv_aload_n hx hb dX2_tune_26 rfl (lv_at hl 0 rfl) ?_
      refine lv_iload_n hx hb dX2_tune_27 rfl (lv_at hl 1 rfl) ?_
      refine fb_miV (As := [.int (nI j)]) (rest := []) (n := 1) (wr := []) (wz := [(h, .inr (2, [.int 0, .int dy, .int (nI w), .ref n, .ref d, .ref f, .ref o])), (n, .inl (cI, 12, .inl pf)), (d, .inl (cI, 12, .inl df)), (f, .inl (cI, 12, .inl tf)), (o, .inl (cI, 12, .inl (fb_t1 uf j)))]) ⟨hx, hb, hml, hown, hts⟩ (fb_c_X2_tuned l G cI cL h n d f o pf df tf uf 0 dy w j hj _) gX2_tune_X2_tuned rfl (by decide +kernel) (by decide) (va_recv hK hP (ci := 2) (q0 := 0) rfl rfl) hP hK hD hS hA hX [0, 1, 2, 3, 4] [] [0, 1, 2, 3, 4] rfl rfl rfl rfl rfl rfl (by decide) rfl hl.1 rfl (Nat.le_of_ble_eq_true rfl) dX2_tune_28 (by decide) (fun H locs hP hD hS => ?_)
      refine lv_goto (tgt := 39) hx hb dX2_tune_31 (by decide) ?_
      have hP9 := hP.sub (ws' := [(h, .inr (2, [.int 0, .int dy, .int (nI w), .ref n, .ref d, .ref f, .ref o])), (n, .inl (cI, 12, .inl pf)), (d, .inl (cI, 12, .inl df)), (f, .inl (cI, 12, .inl tf)), (o, .inl (cI, 12, .inl (fb_t1 uf j)))]) [0, 1, 2, 3, 4] (rfl)
      have hD9 := hD.sub (ws' := [(h, .inr (2, [.int 0, .int dy, .int (nI w), .ref n, .ref d, .ref f, .ref o])), (n, .inl (cI, 12, .inl pf)), (d, .inl (cI, 12, .inl df)), (f, .inl (cI, 12, .inl tf)), (o, .inl (cI, 12, .inl (fb_t1 uf j)))]) [0, 1, 2, 3, 4] (by decide) (rfl)
      exact W.iret (v := fb_tr uf j) hx hb hr (fun t ht hW => ⟨⟨fb_tr uf j, (), rfl, rfl, by rw [ht]; exact hP9, hD9⟩, hS.F ht⟩) hS.2.2 dX2_tune_39 hlk
  · skip
    first | exact absurd c9 (by decide) | exact absurd (by decide) c9
set_option maxHeartbeats 4000000 in
set_option maxRecDepth 100000 in
theorem fb_c_X2_tune_b1 (l : Launch) (G : va_G) (cI cL : ClassId) (h n d f o : Nat) (pf df tf uf : Nat → Int32) (th dy : Int32) (w : Nat) (p0 : Int32) (hp : p0 < 0 ∨ 11 < p0) (sz : Nat) : fb_MI l yX2_tune wsX2_tune 2 42 [.ref h, .int p0] G cI cL sz (fb_MW cI h n d f o pf df tf uf th dy (nI w)) (fb_MW cI h n d f o pf df tf uf 1 dy (nI w)) 0 := by
  refine fb_mi_of (cc := cX2_tune) (maxL := 2) (ret := (some .int)) (by decide) rfl (Nat.le_of_ble_eq_true rfl) ?_
  intro p e s m args below meth c A hx hb hr hml hlk hts hown hP hK hD hA hX ls hl
  have hown : s.vm.findClass RX2 = some m.cls := hown
  have hP : va_P G vwCl [(h, .inr (2, [.int th, .int dy, .int (nI w), .ref n, .ref d, .ref f, .ref o])), (n, .inl (cI, 12, .inl pf)), (d, .inl (cI, 12, .inl df)), (f, .inl (cI, 12, .inl tf)), (o, .inl (cI, 12, .inl uf))] s.heap := hP
  have hD : va_D A [(h, .inr (2, [.int th, .int dy, .int (nI w), .ref n, .ref d, .ref f, .ref o])), (n, .inl (cI, 12, .inl pf)), (d, .inl (cI, 12, .inl df)), (f, .inl (cI, 12, .inl tf)), (o, .inl (cI, 12, .inl uf))] := hD
  have hS : va_S A s.heap s.heap [] := va_S.rf
  have hXn : ∀ (H : Heap) (locs : List Loc), va_S A s.heap H locs → fb_sx (fun _ => False) s H := fun H locs h9 => (hX.kept h9.2.1).narrow (fun _ z => z.elim)
  have hl : lv_has ls 2 [(0, .ref h), (1, .int p0)] := hl
  have hin2 : ∀ w ∈ u_ws RX2 TX2 7, w ∈ wsX2_tune := by decide +kernel
  refine lv_aload_n hx hb dX2_tune_0 rfl (lv_at hl 0 rfl) ?_
  refine lv_iconst (v := 0) hx hb dX2_tune_1 (by decide) ?_
  refine va_put (D := G) (ci := 2) (v := .int 0) (ty := .int) (C := RX2) (T := TX2) (N := 7) hx hb hts (hin2) tyX2 tyX2_ok nmX2 hown hK hP hD hS 0 rfl rfl 0 (by decide) (hts (.fieldLink RX2 26 "FifthBeatsModel" "thrown" "I") (by decide +kernel)) (fun _ h9 => h9) rfl (by decide +kernel) rfl rfl (Nat.le_of_ble_eq_true rfl) dX2_tune_2 (fun H locs hP hD hS => ?_)
  have hP : va_P G vwCl [(h, .inr (2, [.int 0, .int dy, .int (nI w), .ref n, .ref d, .ref f, .ref o])), (n, .inl (cI, 12, .inl pf)), (d, .inl (cI, 12, .inl df)), (f, .inl (cI, 12, .inl tf)), (o, .inl (cI, 12, .inl uf))] H := hP
  have hD : va_D A [(h, .inr (2, [.int 0, .int dy, .int (nI w), .ref n, .ref d, .ref f, .ref o])), (n, .inl (cI, 12, .inl pf)), (d, .inl (cI, 12, .inl df)), (f, .inl (cI, 12, .inl tf)), (o, .inl (cI, 12, .inl uf))] := hD
  refine lv_iload_n hx hb dX2_tune_5 rfl (lv_at hl 1 rfl) ?_
  refine fb_roS (As := [.int p0]) (rest := []) (n := 1) ⟨hx, hb, hml, hown, hts⟩ (fb_c_X2_isOne l p0) gX2_tune_X2_isOne rfl (by decide +kernel) (by decide) fb_Bl_T (fun _ _ _ => trivial) rfl hl.1 rfl (Nat.le_of_ble_eq_true rfl) dX2_tune_6 (by decide) ?_
  refine fb_ti (z := 0) (fb_ii_0 hp) ?_
  refine lv_if_ne (tgt := 18) hx hb dX2_tune_9 (by decide) (fun c9 => ?_) (fun c9 => ?_)
  · skip
    first | exact absurd c9 (by decide) | exact absurd (by decide) c9
  · skip
    refine lv_aload_n hx hb dX2_tune_12 rfl (lv_at hl 0 rfl) ?_
    refine lv_iconst (v := 1) hx hb dX2_tune_13 (by decide) ?_
    refine fb_miV (As := [.int 1]) (rest := []) (n := 1) (wr := []) (wz := [(h, .inr (2, [.int 1, .int dy, .int (nI w), .ref n, .ref d, .ref f, .ref o])), (n, .inl (cI, 12, .inl pf)), (d, .inl (cI, 12, .inl df)), (f, .inl (cI, 12, .inl tf)), (o, .inl (cI, 12, .inl uf))]) ⟨hx, hb, hml, hown, hts⟩ (fb_c_X2_no l G cI cL h n d f o pf df tf uf 0 dy w 1 _) gX2_tune_X2_no rfl (by decide +kernel) (by decide) (va_recv hK hP (ci := 2) (q0 := 0) rfl rfl) hP hK hD hS hA hX [0, 1, 2, 3, 4] [] [0, 1, 2, 3, 4] rfl rfl rfl rfl rfl rfl (by decide) rfl hl.1 rfl (Nat.le_of_ble_eq_true rfl) dX2_tune_14 (by decide) (fun H locs hP hD hS => ?_)
    have hP9 := hP.sub (ws' := [(h, .inr (2, [.int 1, .int dy, .int (nI w), .ref n, .ref d, .ref f, .ref o])), (n, .inl (cI, 12, .inl pf)), (d, .inl (cI, 12, .inl df)), (f, .inl (cI, 12, .inl tf)), (o, .inl (cI, 12, .inl uf))]) [0, 1, 2, 3, 4] (rfl)
    have hD9 := hD.sub (ws' := [(h, .inr (2, [.int 1, .int dy, .int (nI w), .ref n, .ref d, .ref f, .ref o])), (n, .inl (cI, 12, .inl pf)), (d, .inl (cI, 12, .inl df)), (f, .inl (cI, 12, .inl tf)), (o, .inl (cI, 12, .inl uf))]) [0, 1, 2, 3, 4] (by decide) (rfl)
    exact W.iret (v := 0) hx hb hr (fun t ht hW => ⟨⟨0, (), rfl, rfl, by rw [ht]; exact hP9, hD9⟩, hS.F ht⟩) hS.2.2 dX2_tune_17 hlk
set_option maxHeartbeats 4000000 in
set_option maxRecDepth 100000 in
theorem fb_c_X2_tune_b2 (l : Launch) (G : va_G) (cI cL : ClassId) (h n d f o : Nat) (pf df tf uf : Nat → Int32) (th dy : Int32) (w : Nat) (j : Nat) (hj : j < 12) (hjw : (j + 11) % 12 = w) (hw : w < 12) (sz : Nat) : fb_MI l yX2_tune wsX2_tune 2 42 [.ref h, .int (nI j)] G cI cL sz (fb_MW cI h n d f o pf df tf uf th dy (nI w)) (fb_MW cI h n d f o pf df tf uf 2 dy (nI w)) 0 := by
  refine fb_mi_of (cc := cX2_tune) (maxL := 2) (ret := (some .int)) (by decide) rfl (Nat.le_of_ble_eq_true rfl) ?_
  intro p e s m args below meth c A hx hb hr hml hlk hts hown hP hK hD hA hX ls hl
  have hown : s.vm.findClass RX2 = some m.cls := hown
  have hP : va_P G vwCl [(h, .inr (2, [.int th, .int dy, .int (nI w), .ref n, .ref d, .ref f, .ref o])), (n, .inl (cI, 12, .inl pf)), (d, .inl (cI, 12, .inl df)), (f, .inl (cI, 12, .inl tf)), (o, .inl (cI, 12, .inl uf))] s.heap := hP
  have hD : va_D A [(h, .inr (2, [.int th, .int dy, .int (nI w), .ref n, .ref d, .ref f, .ref o])), (n, .inl (cI, 12, .inl pf)), (d, .inl (cI, 12, .inl df)), (f, .inl (cI, 12, .inl tf)), (o, .inl (cI, 12, .inl uf))] := hD
  have hS : va_S A s.heap s.heap [] := va_S.rf
  have hXn : ∀ (H : Heap) (locs : List Loc), va_S A s.heap H locs → fb_sx (fun _ => False) s H := fun H locs h9 => (hX.kept h9.2.1).narrow (fun _ z => z.elim)
  have hl : lv_has ls 2 [(0, .ref h), (1, .int (nI j))] := hl
  have hin2 : ∀ w ∈ u_ws RX2 TX2 7, w ∈ wsX2_tune := by decide +kernel
  refine lv_aload_n hx hb dX2_tune_0 rfl (lv_at hl 0 rfl) ?_
  refine lv_iconst (v := 0) hx hb dX2_tune_1 (by decide) ?_
  refine va_put (D := G) (ci := 2) (v := .int 0) (ty := .int) (C := RX2) (T := TX2) (N := 7) hx hb hts (hin2) tyX2 tyX2_ok nmX2 hown hK hP hD hS 0 rfl rfl 0 (by decide) (hts (.fieldLink RX2 26 "FifthBeatsModel" "thrown" "I") (by decide +kernel)) (fun _ h9 => h9) rfl (by decide +kernel) rfl rfl (Nat.le_of_ble_eq_true rfl) dX2_tune_2 (fun H locs hP hD hS => ?_)
  have hP : va_P G vwCl [(h, .inr (2, [.int 0, .int dy, .int (nI w), .ref n, .ref d, .ref f, .ref o])), (n, .inl (cI, 12, .inl pf)), (d, .inl (cI, 12, .inl df)), (f, .inl (cI, 12, .inl tf)), (o, .inl (cI, 12, .inl uf))] H := hP
  have hD : va_D A [(h, .inr (2, [.int 0, .int dy, .int (nI w), .ref n, .ref d, .ref f, .ref o])), (n, .inl (cI, 12, .inl pf)), (d, .inl (cI, 12, .inl df)), (f, .inl (cI, 12, .inl tf)), (o, .inl (cI, 12, .inl uf))] := hD
  refine lv_iload_n hx hb dX2_tune_5 rfl (lv_at hl 1 rfl) ?_
  refine fb_roS (As := [.int (nI j)]) (rest := []) (n := 1) ⟨hx, hb, hml, hown, hts⟩ (fb_c_X2_isOne l (nI j)) gX2_tune_X2_isOne rfl (by decide +kernel) (by decide) fb_Bl_T (fun _ _ _ => trivial) rfl hl.1 rfl (Nat.le_of_ble_eq_true rfl) dX2_tune_6 (by decide) ?_
  refine fb_ti (z := 1) (fb_ii_j hj) ?_
  refine lv_if_ne (tgt := 18) hx hb dX2_tune_9 (by decide) (fun c9 => ?_) (fun c9 => ?_)
  · skip
    refine lv_aload_n hx hb dX2_tune_18 rfl (lv_at hl 0 rfl) ?_
    refine lv_iload_n hx hb dX2_tune_19 rfl (lv_at hl 1 rfl) ?_
    refine fb_roV (As := [.int (nI j)]) (rest := []) (n := 1) ⟨hx, hb, hml, hown, hts⟩ (fb_c_X2_canTune l G cI cL h n d f o pf df tf uf 0 dy w j hj hw) gX2_tune_X2_canTune rfl (by decide +kernel) (by decide) (fb_PB.bl _ _ _ _) (va_recv hK hP (ci := 2) (q0 := 0) rfl rfl) (fb_PB.to hP hK (hXn _ _ hS)) rfl hl.1 rfl (Nat.le_of_ble_eq_true rfl) dX2_tune_20 (by decide) ?_
    refine fb_ti (z := 0) (if_pos hjw) ?_
    refine lv_if_eq (tgt := 34) hx hb dX2_tune_23 (by decide) (fun c23 => ?_) (fun c23 => ?_)
    · skip
      refine lv_aload_n hx hb dX2_tune_34 rfl (lv_at hl 0 rfl) ?_
      refine lv_iconst (v := 2) hx hb dX2_tune_35 (by decide) ?_
      refine fb_miV (As := [.int 2]) (rest := []) (n := 1) (wr := []) (wz := [(h, .inr (2, [.int 2, .int dy, .int (nI w), .ref n, .ref d, .ref f, .ref o])), (n, .inl (cI, 12, .inl pf)), (d, .inl (cI, 12, .inl df)), (f, .inl (cI, 12, .inl tf)), (o, .inl (cI, 12, .inl uf))]) ⟨hx, hb, hml, hown, hts⟩ (fb_c_X2_no l G cI cL h n d f o pf df tf uf 0 dy w 2 _) gX2_tune_X2_no rfl (by decide +kernel) (by decide) (va_recv hK hP (ci := 2) (q0 := 0) rfl rfl) hP hK hD hS hA hX [0, 1, 2, 3, 4] [] [0, 1, 2, 3, 4] rfl rfl rfl rfl rfl rfl (by decide) rfl hl.1 rfl (Nat.le_of_ble_eq_true rfl) dX2_tune_36 (by decide) (fun H locs hP hD hS => ?_)
      have hP9 := hP.sub (ws' := [(h, .inr (2, [.int 2, .int dy, .int (nI w), .ref n, .ref d, .ref f, .ref o])), (n, .inl (cI, 12, .inl pf)), (d, .inl (cI, 12, .inl df)), (f, .inl (cI, 12, .inl tf)), (o, .inl (cI, 12, .inl uf))]) [0, 1, 2, 3, 4] (rfl)
      have hD9 := hD.sub (ws' := [(h, .inr (2, [.int 2, .int dy, .int (nI w), .ref n, .ref d, .ref f, .ref o])), (n, .inl (cI, 12, .inl pf)), (d, .inl (cI, 12, .inl df)), (f, .inl (cI, 12, .inl tf)), (o, .inl (cI, 12, .inl uf))]) [0, 1, 2, 3, 4] (by decide) (rfl)
      exact W.iret (v := 0) hx hb hr (fun t ht hW => ⟨⟨0, (), rfl, rfl, by rw [ht]; exact hP9, hD9⟩, hS.F ht⟩) hS.2.2 dX2_tune_39 hlk
    · skip
      first | exact absurd c23 (by decide) | exact absurd (by decide) c23
  · skip
    first | exact absurd c9 (by decide) | exact absurd (by decide) c9
set_option maxHeartbeats 4000000 in
set_option maxRecDepth 100000 in
theorem fb_c_X2_tuneAll (l : Launch) (G : va_G) (cI cL : ClassId) (h n d f o : Nat) (pf df tf uf : Nat → Int32) (th dy : Int32) (w : Nat) (hw : w < 12) (sz : Nat) : fb_MI l yX2_tuneAll wsX2_tuneAll 2 42 [.ref h] G cI cL sz (fb_MW cI h n d f o pf df tf uf th dy (nI w)) (fb_MW cI h n d f o pf df tf (fb_tu uf w 11) 0 dy (nI w)) (fb_tc uf w 11) := by
  refine fb_mi_of (cc := cX2_tuneAll) (maxL := 3) (ret := (some .int)) (by decide) rfl (Nat.le_of_ble_eq_true rfl) ?_
  intro p e s m args below meth c A hx hb hr hml hlk hts hown hP hK hD hA hX ls hl
  have hown : s.vm.findClass RX2 = some m.cls := hown
  have hP : va_P G vwCl [(h, .inr (2, [.int th, .int dy, .int (nI w), .ref n, .ref d, .ref f, .ref o])), (n, .inl (cI, 12, .inl pf)), (d, .inl (cI, 12, .inl df)), (f, .inl (cI, 12, .inl tf)), (o, .inl (cI, 12, .inl uf))] s.heap := hP
  have hD : va_D A [(h, .inr (2, [.int th, .int dy, .int (nI w), .ref n, .ref d, .ref f, .ref o])), (n, .inl (cI, 12, .inl pf)), (d, .inl (cI, 12, .inl df)), (f, .inl (cI, 12, .inl tf)), (o, .inl (cI, 12, .inl uf))] := hD
  have hS : va_S A s.heap s.heap [] := va_S.rf
  have hXn : ∀ (H : Heap) (locs : List Loc), va_S A s.heap H locs → fb_sx (fun _ => False) s H := fun H locs h9 => (hX.kept h9.2.1).narrow (fun _ z => z.elim)
  have hl : lv_has ls 3 [(0, .ref h)] := hl
  have hin2 : ∀ w ∈ u_ws RX2 TX2 7, w ∈ wsX2_tuneAll := by decide +kernel
  refine lv_aload_n hx hb dX2_tuneAll_0 rfl (lv_at hl 0 rfl) ?_
  refine lv_iconst (v := 0) hx hb dX2_tuneAll_1 (by decide) ?_
  refine va_put (D := G) (ci := 2) (v := .int 0) (ty := .int) (C := RX2) (T := TX2) (N := 7) hx hb hts (hin2) tyX2 tyX2_ok nmX2 hown hK hP hD hS 0 rfl rfl 0 (by decide) (hts (.fieldLink RX2 26 "FifthBeatsModel" "thrown" "I") (by decide +kernel)) (fun _ h9 => h9) rfl (by decide +kernel) rfl rfl (Nat.le_of_ble_eq_true rfl) dX2_tuneAll_2 (fun H locs hP hD hS => ?_)
  have hP : va_P G vwCl [(h, .inr (2, [.int 0, .int dy, .int (nI w), .ref n, .ref d, .ref f, .ref o])), (n, .inl (cI, 12, .inl pf)), (d, .inl (cI, 12, .inl df)), (f, .inl (cI, 12, .inl tf)), (o, .inl (cI, 12, .inl uf))] H := hP
  have hD : va_D A [(h, .inr (2, [.int 0, .int dy, .int (nI w), .ref n, .ref d, .ref f, .ref o])), (n, .inl (cI, 12, .inl pf)), (d, .inl (cI, 12, .inl df)), (f, .inl (cI, 12, .inl tf)), (o, .inl (cI, 12, .inl uf))] := hD
  refine lv_iconst (v := 0) hx hb dX2_tuneAll_5 (by decide) ?_
  refine lv_istore_n (lv' := [(1, .int 0), (0, .ref h)]) hx hb dX2_tuneAll_6 rfl hl (by decide) rfl (fun ls hl => ?_)
  refine lv_iconst (v := 2) hx hb dX2_tuneAll_7 (by decide) ?_
  refine lv_istore_n (lv' := [(2, .int 2), (1, .int 0), (0, .ref h)]) hx hb dX2_tuneAll_8 rfl hl (by decide) rfl (fun ls hl => ?_)
  have lp9 : ∀ (n9 i : Nat), i ≤ 11 → 11 < i + n9 → ∀ (H : Heap) (locs : List Loc), va_P G vwCl [(h, .inr (2, [.int 0, .int dy, .int (nI w), .ref n, .ref d, .ref f, .ref o])), (n, .inl (cI, 12, .inl pf)), (d, .inl (cI, 12, .inl df)), (f, .inl (cI, 12, .inl tf)), (o, .inl (cI, 12, .inl (fb_tu uf w i)))] H → va_D A [(h, .inr (2, [.int 0, .int dy, .int (nI w), .ref n, .ref d, .ref f, .ref o])), (n, .inl (cI, 12, .inl pf)), (d, .inl (cI, 12, .inl df)), (f, .inl (cI, 12, .inl tf)), (o, .inl (cI, 12, .inl (fb_tu uf w i)))] → va_S A s.heap H locs → ∀ ls : Array Slot, lv_has ls 3 [(2, .int (nI (2 + i))), (1, .int (fb_tc uf w i)), (0, .ref h)] → W p l e ({ frames := 2, cells := 0, slots := 0, locals := 42 }) s m args below meth c H locs 0 0 (MQ below (va_Qi (fun (r : Int32) (_ : Unit) => r = (fb_tc uf w 11)) (fun _ t => va_P G vwCl (fb_MW cI h n d f o pf df tf (fb_tu uf w 11) 0 dy (nI w)) t.heap ∧ va_D A (fb_MW cI h n d f o pf df tf (fb_tu uf w 11) 0 dy (nI w))) A) args s 0 0 A) (F0 m 9 ls []) := by
    intro n9
    induction n9 with
    | zero => intro i h1 h2; exact absurd h2 (by omega)
    | succ n9 ih9 =>
      intro i hi_i hin9 H locs hP hD hS ls hl
      refine lv_iload_n hx hb dX2_tuneAll_9 rfl (lv_at hl 0 rfl) ?_
      refine lv_bipush (v := 12) hx hb dX2_tuneAll_10 (by decide) ?_
      refine lv_icmp_gt (tgt := 45) hx hb dX2_tuneAll_12 (by decide) (fun c12 => ?_) (fun c12 => ?_)
      · skip
        have hxi : 12 < 2 + i := (nI_ltI (by decide) (by omega)).mp c12
        obtain rfl : i = 11 := by omega
        refine lv_iload_n hx hb dX2_tuneAll_45 rfl (lv_at hl 1 rfl) ?_
        have hP9 := hP.sub (ws' := [(h, .inr (2, [.int 0, .int dy, .int (nI w), .ref n, .ref d, .ref f, .ref o])), (n, .inl (cI, 12, .inl pf)), (d, .inl (cI, 12, .inl df)), (f, .inl (cI, 12, .inl tf)), (o, .inl (cI, 12, .inl (fb_tu uf w 11)))]) [0, 1, 2, 3, 4] (rfl)
        have hD9 := hD.sub (ws' := [(h, .inr (2, [.int 0, .int dy, .int (nI w), .ref n, .ref d, .ref f, .ref o])), (n, .inl (cI, 12, .inl pf)), (d, .inl (cI, 12, .inl df)), (f, .inl (cI, 12, .inl tf)), (o, .inl (cI, 12, .inl (fb_tu uf w 11)))]) [0, 1, 2, 3, 4] (by decide) (rfl)
        exact W.iret (v := fb_tc uf w 11) hx hb hr (fun t ht hW => ⟨⟨fb_tc uf w 11, (), rfl, rfl, by rw [ht]; exact hP9, hD9⟩, hS.F ht⟩) hS.2.2 dX2_tuneAll_46 hlk
      · skip
        have h12 : 2 + i ≤ 12 := Nat.le_of_not_lt (fun z => c12 (nI_lt z (by omega)))
        refine lv_iload_n hx hb dX2_tuneAll_15 rfl (lv_at hl 1 rfl) ?_
        refine lv_aload_n hx hb dX2_tuneAll_16 rfl (lv_at hl 2 rfl) ?_
        refine lv_aload_n hx hb dX2_tuneAll_17 rfl (lv_at hl 2 rfl) ?_
        refine va_get (D := G) (ci := 2) (v := .int (nI w)) (C := RX2) (T := TX2) (N := 7) hx hb hts (hin2) hown hK hP 0 rfl rfl 2 (by decide) (hts (.fieldLink RX2 7 "FifthBeatsModel" "wolf" "I") (by decide +kernel)) (fun _ h9 => h9) rfl dX2_tuneAll_18 ?_
        refine lv_iload_n hx hb dX2_tuneAll_21 rfl (lv_at hl 0 rfl) ?_
        refine lv_iadd hx hb dX2_tuneAll_22 ?_
        refine fb_ti (z := nI (w + (2 + i))) (nI_add w (2 + i)) ?_
        refine lv_bipush (v := 12) hx hb dX2_tuneAll_23 (by decide) ?_
        refine lv_irem hx hb dX2_tuneAll_25 (by decide) ?_
        refine fb_ti (z := nI ((w + (2 + i)) % 12)) (fb_rm_12 (by omega)) ?_
        refine fb_miV (As := [.int (nI ((w + (2 + i)) % 12))]) (rest := [.int (fb_tc uf w i)]) (n := 1) (wr := []) (wz := [(h, .inr (2, [.int 0, .int dy, .int (nI w), .ref n, .ref d, .ref f, .ref o])), (n, .inl (cI, 12, .inl pf)), (d, .inl (cI, 12, .inl df)), (f, .inl (cI, 12, .inl tf)), (o, .inl (cI, 12, .inl (fb_t1 (fb_tu uf w i) ((w + (2 + i)) % 12))))]) ⟨hx, hb, hml, hown, hts⟩ (fb_c_X2_tuned l G cI cL h n d f o pf df tf (fb_tu uf w i) 0 dy w ((w + (2 + i)) % 12) (Nat.mod_lt _ (by decide)) _) gX2_tuneAll_X2_tuned rfl (by decide +kernel) (by decide) (va_recv hK hP (ci := 2) (q0 := 0) rfl rfl) hP hK hD hS hA hX [0, 1, 2, 3, 4] [] [0, 1, 2, 3, 4] rfl rfl rfl rfl rfl rfl (by decide) rfl hl.1 rfl (Nat.le_of_ble_eq_true rfl) dX2_tuneAll_26 (by decide) (fun H locs hP hD hS => ?_)
        refine fb_ti (z := fb_tr (fb_tu uf w i) (w + (2 + i))) (fb_tr_mod _ _) ?_
        refine lv_if_ne (tgt := 36) hx hb dX2_tuneAll_29 (by decide) (fun c29 => ?_) (fun c29 => ?_)
        · skip
          refine lv_iconst (v := 1) hx hb dX2_tuneAll_36 (by decide) ?_
          refine lv_iadd hx hb dX2_tuneAll_37 ?_
          refine fb_ti (z := fb_tc uf w (i + 1)) ((if_neg c29).symm) ?_
          refine lv_istore_n (lv' := [(1, .int (fb_tc uf w (i + 1))), (2, .int (nI (2 + i))), (0, .ref h)]) hx hb dX2_tuneAll_38 rfl hl (by decide) rfl (fun ls hl => ?_)
          refine lv_iinc (v := nI (2 + (i + 1))) (lv' := [(2, .int (nI (2 + (i + 1)))), (1, .int (fb_tc uf w (i + 1))), (0, .ref h)]) hx hb dX2_tuneAll_39 hl (k := 1) rfl (show nI (2 + i) + 1 = nI (2 + (i + 1)) from nI_1 (2 + i)) (by decide) rfl (fun ls hl => ?_)
          refine lv_goto (tgt := 9) hx hb dX2_tuneAll_42 (by decide) ?_
          exact ih9 (i + 1) (by omega) (by omega) _ _ (by rw [show fb_tu uf w (i + 1) = fb_t1 (fb_tu uf w i) ((w + (2 + i)) % 12) from (fb_t1_mod _ _).symm]; exact hP) (by rw [show fb_tu uf w (i + 1) = fb_t1 (fb_tu uf w i) ((w + (2 + i)) % 12) from (fb_t1_mod _ _).symm]; exact hD) hS _ (lv_sub hl [0, 1, 2] (rfl))
        · skip
          refine lv_iconst (v := 0) hx hb dX2_tuneAll_32 (by decide) ?_
          refine lv_goto (tgt := 37) hx hb dX2_tuneAll_33 (by decide) ?_
          refine lv_iadd hx hb dX2_tuneAll_37 ?_
          refine fb_ti (z := fb_tc uf w (i + 1)) (by rw [Int32.add_zero]; exact (if_pos c29).symm) ?_
          refine lv_istore_n (lv' := [(1, .int (fb_tc uf w (i + 1))), (2, .int (nI (2 + i))), (0, .ref h)]) hx hb dX2_tuneAll_38 rfl hl (by decide) rfl (fun ls hl => ?_)
          refine lv_iinc (v := nI (2 + (i + 1))) (lv' := [(2, .int (nI (2 + (i + 1)))), (1, .int (fb_tc uf w (i + 1))), (0, .ref h)]) hx hb dX2_tuneAll_39 hl (k := 1) rfl (show nI (2 + i) + 1 = nI (2 + (i + 1)) from nI_1 (2 + i)) (by decide) rfl (fun ls hl => ?_)
          refine lv_goto (tgt := 9) hx hb dX2_tuneAll_42 (by decide) ?_
          exact ih9 (i + 1) (by omega) (by omega) _ _ (by rw [show fb_tu uf w (i + 1) = fb_t1 (fb_tu uf w i) ((w + (2 + i)) % 12) from (fb_t1_mod _ _).symm]; exact hP) (by rw [show fb_tu uf w (i + 1) = fb_t1 (fb_tu uf w i) ((w + (2 + i)) % 12) from (fb_t1_mod _ _).symm]; exact hD) hS _ (lv_sub hl [0, 1, 2] (rfl))
  exact lp9 (11 + 1) 0 (by omega) (by omega) _ _ (hP) (hD) hS _ (lv_sub hl [0, 1, 2] (rfl))
set_option maxHeartbeats 4000000 in
set_option maxRecDepth 100000 in
theorem fb_c_X2_sweeten_ok (l : Launch) (G : va_G) (cI cL : ClassId) (h n d f o : Nat) (pf df tf uf : Nat → Int32) (th dy : Int32) (w : Nat) (j : Nat) (hj : j < 12) (hw : w < 12) (h2 : ¬ ((fb_rg uf) (j + 4) - fb_mj (fb_ep pf w) (fb_rg uf) j 4 < (-50) ∨ 50 < (fb_rg uf) (j + 4) - fb_mj (fb_ep pf w) (fb_rg uf) j 4)) (sz : Nat) : fb_MI l yX2_sweeten wsX2_sweeten 3 69 [.ref h, .int (nI j)] G cI cL sz (fb_MW cI h n d f o pf df tf uf th dy (nI w)) (fb_MW cI h n d f o pf df tf (upd uf ((j + 4) % 12) ((fb_rg uf) (j + 4) - fb_mj (fb_ep pf w) (fb_rg uf) j 4)) 0 dy (nI w)) ((fb_rg uf) (j + 4) - fb_mj (fb_ep pf w) (fb_rg uf) j 4) := by
  refine fb_mi_of (cc := cX2_sweeten) (maxL := 4) (ret := (some .int)) (by decide) rfl (Nat.le_of_ble_eq_true rfl) ?_
  intro p e s m args below meth c A hx hb hr hml hlk hts hown hP hK hD hA hX ls hl
  have hown : s.vm.findClass RX2 = some m.cls := hown
  have hP : va_P G vwCl [(h, .inr (2, [.int th, .int dy, .int (nI w), .ref n, .ref d, .ref f, .ref o])), (n, .inl (cI, 12, .inl pf)), (d, .inl (cI, 12, .inl df)), (f, .inl (cI, 12, .inl tf)), (o, .inl (cI, 12, .inl uf))] s.heap := hP
  have hD : va_D A [(h, .inr (2, [.int th, .int dy, .int (nI w), .ref n, .ref d, .ref f, .ref o])), (n, .inl (cI, 12, .inl pf)), (d, .inl (cI, 12, .inl df)), (f, .inl (cI, 12, .inl tf)), (o, .inl (cI, 12, .inl uf))] := hD
  have hS : va_S A s.heap s.heap [] := va_S.rf
  have hXn : ∀ (H : Heap) (locs : List Loc), va_S A s.heap H locs → fb_sx (fun _ => False) s H := fun H locs h9 => (hX.kept h9.2.1).narrow (fun _ z => z.elim)
  have hl : lv_has ls 4 [(0, .ref h), (1, .int (nI j))] := hl
  have hin2 : ∀ w ∈ u_ws RX2 TX2 7, w ∈ wsX2_sweeten := by decide +kernel
  refine lv_aload_n hx hb dX2_sweeten_0 rfl (lv_at hl 0 rfl) ?_
  refine lv_iconst (v := 0) hx hb dX2_sweeten_1 (by decide) ?_
  refine va_put (D := G) (ci := 2) (v := .int 0) (ty := .int) (C := RX2) (T := TX2) (N := 7) hx hb hts (hin2) tyX2 tyX2_ok nmX2 hown hK hP hD hS 0 rfl rfl 0 (by decide) (hts (.fieldLink RX2 26 "FifthBeatsModel" "thrown" "I") (by decide +kernel)) (fun _ h9 => h9) rfl (by decide +kernel) rfl rfl (Nat.le_of_ble_eq_true rfl) dX2_sweeten_2 (fun H locs hP hD hS => ?_)
  have hP : va_P G vwCl [(h, .inr (2, [.int 0, .int dy, .int (nI w), .ref n, .ref d, .ref f, .ref o])), (n, .inl (cI, 12, .inl pf)), (d, .inl (cI, 12, .inl df)), (f, .inl (cI, 12, .inl tf)), (o, .inl (cI, 12, .inl uf))] H := hP
  have hD : va_D A [(h, .inr (2, [.int 0, .int dy, .int (nI w), .ref n, .ref d, .ref f, .ref o])), (n, .inl (cI, 12, .inl pf)), (d, .inl (cI, 12, .inl df)), (f, .inl (cI, 12, .inl tf)), (o, .inl (cI, 12, .inl uf))] := hD
  refine lv_iload_n hx hb dX2_sweeten_5 rfl (lv_at hl 1 rfl) ?_
  refine fb_roS (As := [.int (nI j)]) (rest := []) (n := 1) ⟨hx, hb, hml, hown, hts⟩ (fb_c_X2_isOne l (nI j)) gX2_sweeten_X2_isOne rfl (by decide +kernel) (by decide) fb_Bl_T (fun _ _ _ => trivial) rfl hl.1 rfl (Nat.le_of_ble_eq_true rfl) dX2_sweeten_6 (by decide) ?_
  refine fb_ti (z := 1) (fb_ii_j hj) ?_
  refine lv_if_ne (tgt := 18) hx hb dX2_sweeten_9 (by decide) (fun c9 => ?_) (fun c9 => ?_)
  · skip
    refine lv_iload_n hx hb dX2_sweeten_18 rfl (lv_at hl 1 rfl) ?_
    refine lv_iconst (v := 4) hx hb dX2_sweeten_19 (by decide) ?_
    refine lv_iadd hx hb dX2_sweeten_20 ?_
    refine fb_ti (z := nI (j + 4)) (nI_add j 4) ?_
    refine lv_bipush (v := 12) hx hb dX2_sweeten_21 (by decide) ?_
    refine lv_irem hx hb dX2_sweeten_23 (by decide) ?_
    refine fb_ti (z := nI ((j + 4) % 12)) (fb_rm_12 (by omega)) ?_
    refine lv_istore_n (lv' := [(2, .int (nI ((j + 4) % 12))), (0, .ref h), (1, .int (nI j))]) hx hb dX2_sweeten_24 rfl hl (by decide) rfl (fun ls hl => ?_)
    refine lv_aload_n hx hb dX2_sweeten_25 rfl (lv_at hl 1 rfl) ?_
    refine va_get (D := G) (ci := 2) (v := .ref o) (C := RX2) (T := TX2) (N := 7) hx hb hts (hin2) hown hK hP 0 rfl rfl 6 (by decide) (hts (.fieldLink RX2 23 "FifthBeatsModel" "off" "[I") (by decide +kernel)) (fun _ h9 => h9) rfl dX2_sweeten_26 ?_
    refine lv_iload_n hx hb dX2_sweeten_29 rfl (lv_at hl 0 rfl) ?_
    refine va_iald hx hb hK hP 4 0 rfl rfl (vp_in_nI (Nat.mod_lt _ (by decide)) (by decide)) dX2_sweeten_30 ?_
    refine fb_ti (z := fb_rg uf (j + 4)) (by rw [fb_cl (by omega)]; rfl) ?_
    refine lv_aload_n hx hb dX2_sweeten_31 rfl (lv_at hl 1 rfl) ?_
    refine lv_iload_n hx hb dX2_sweeten_32 rfl (lv_at hl 2 rfl) ?_
    refine fb_roV (As := [.int (nI j)]) (rest := [.int (fb_rg uf (j + 4))]) (n := 1) ⟨hx, hb, hml, hown, hts⟩ (fb_c_X2_majorOff l G cI cL h n d f o pf df tf uf 0 dy w j (by omega) hw) gX2_sweeten_X2_majorOff rfl (by decide +kernel) (by decide) (fb_PB.bl _ _ _ _) (va_recv hK hP (ci := 2) (q0 := 0) rfl rfl) (fb_PB.to hP hK (hXn _ _ hS)) rfl hl.1 rfl (Nat.le_of_ble_eq_true rfl) dX2_sweeten_33 (by decide) ?_
    refine lv_isub hx hb dX2_sweeten_36 ?_
    refine lv_istore_n (lv' := [(3, .int ((fb_rg uf (j + 4)) - (fb_mj (fb_ep pf w) (fb_rg uf) j 4))), (2, .int (nI ((j + 4) % 12))), (0, .ref h), (1, .int (nI j))]) hx hb dX2_sweeten_37 rfl hl (by decide) rfl (fun ls hl => ?_)
    refine lv_iload_n hx hb dX2_sweeten_38 rfl (lv_at hl 0 rfl) ?_
    refine fb_roS (As := [.int ((fb_rg uf (j + 4)) - (fb_mj (fb_ep pf w) (fb_rg uf) j 4))]) (rest := []) (n := 1) ⟨hx, hb, hml, hown, hts⟩ (fb_c_X2_held l ((fb_rg uf (j + 4)) - (fb_mj (fb_ep pf w) (fb_rg uf) j 4))) gX2_sweeten_X2_held rfl (by decide +kernel) (by decide) fb_Bl_T (fun _ _ _ => trivial) rfl hl.1 rfl (Nat.le_of_ble_eq_true rfl) dX2_sweeten_39 (by decide) ?_
    refine lv_iload_n hx hb dX2_sweeten_42 rfl (lv_at hl 0 rfl) ?_
    refine lv_icmp_eq (tgt := 52) hx hb dX2_sweeten_43 (by decide) (fun c43 => ?_) (fun c43 => ?_)
    · skip
      refine lv_aload_n hx hb dX2_sweeten_52 rfl (lv_at hl 2 rfl) ?_
      refine va_get (D := G) (ci := 2) (v := .ref o) (C := RX2) (T := TX2) (N := 7) hx hb hts (hin2) hown hK hP 0 rfl rfl 6 (by decide) (hts (.fieldLink RX2 23 "FifthBeatsModel" "off" "[I") (by decide +kernel)) (fun _ h9 => h9) rfl dX2_sweeten_53 ?_
      refine lv_iload_n hx hb dX2_sweeten_56 rfl (lv_at hl 1 rfl) ?_
      refine lv_iload_n hx hb dX2_sweeten_57 rfl (lv_at hl 0 rfl) ?_
      refine va_iast hx hb hK hP hD hS 4 0 rfl rfl (vp_in_nI (Nat.mod_lt _ (by decide)) (by decide)) dX2_sweeten_58 (fun H locs hP hD hS => ?_)
      rw [show (nI ((j + 4) % 12)).toNatClampNeg = ((j + 4) % 12) from fb_cl (by omega)] at hP hD
      have hP : va_P G vwCl [(h, .inr (2, [.int 0, .int dy, .int (nI w), .ref n, .ref d, .ref f, .ref o])), (n, .inl (cI, 12, .inl pf)), (d, .inl (cI, 12, .inl df)), (f, .inl (cI, 12, .inl tf)), (o, .inl (cI, 12, .inl (upd uf ((j + 4) % 12) ((fb_rg uf (j + 4)) - (fb_mj (fb_ep pf w) (fb_rg uf) j 4)))))] H := hP
      have hD : va_D A [(h, .inr (2, [.int 0, .int dy, .int (nI w), .ref n, .ref d, .ref f, .ref o])), (n, .inl (cI, 12, .inl pf)), (d, .inl (cI, 12, .inl df)), (f, .inl (cI, 12, .inl tf)), (o, .inl (cI, 12, .inl (upd uf ((j + 4) % 12) ((fb_rg uf (j + 4)) - (fb_mj (fb_ep pf w) (fb_rg uf) j 4)))))] := hD
      refine lv_iload_n hx hb dX2_sweeten_59 rfl (lv_at hl 0 rfl) ?_
      have hP9 := hP.sub (ws' := [(h, .inr (2, [.int 0, .int dy, .int (nI w), .ref n, .ref d, .ref f, .ref o])), (n, .inl (cI, 12, .inl pf)), (d, .inl (cI, 12, .inl df)), (f, .inl (cI, 12, .inl tf)), (o, .inl (cI, 12, .inl (upd uf ((j + 4) % 12) ((fb_rg uf) (j + 4) - fb_mj (fb_ep pf w) (fb_rg uf) j 4))))]) [0, 1, 2, 3, 4] (rfl)
      have hD9 := hD.sub (ws' := [(h, .inr (2, [.int 0, .int dy, .int (nI w), .ref n, .ref d, .ref f, .ref o])), (n, .inl (cI, 12, .inl pf)), (d, .inl (cI, 12, .inl df)), (f, .inl (cI, 12, .inl tf)), (o, .inl (cI, 12, .inl (upd uf ((j + 4) % 12) ((fb_rg uf) (j + 4) - fb_mj (fb_ep pf w) (fb_rg uf) j 4))))]) [0, 1, 2, 3, 4] (by decide) (rfl)
      exact W.iret (v := (fb_rg uf (j + 4)) - (fb_mj (fb_ep pf w) (fb_rg uf) j 4)) hx hb hr (fun t ht hW => ⟨⟨(fb_rg uf (j + 4)) - (fb_mj (fb_ep pf w) (fb_rg uf) j 4), (), rfl, rfl, by rw [ht]; exact hP9, hD9⟩, hS.F ht⟩) hS.2.2 dX2_sweeten_60 hlk
    · skip
      exact absurd (fb_hd_ok h2) c43
  · skip
    first | exact absurd c9 (by decide) | exact absurd (by decide) c9
set_option maxHeartbeats 4000000 in
set_option maxRecDepth 100000 in
theorem fb_c_X2_sweeten_b1 (l : Launch) (G : va_G) (cI cL : ClassId) (h n d f o : Nat) (pf df tf uf : Nat → Int32) (th dy : Int32) (w : Nat) (p0 : Int32) (hp : p0 < 0 ∨ 11 < p0) (sz : Nat) : fb_MI l yX2_sweeten wsX2_sweeten 3 69 [.ref h, .int p0] G cI cL sz (fb_MW cI h n d f o pf df tf uf th dy (nI w)) (fb_MW cI h n d f o pf df tf uf 1 dy (nI w)) 0 := by
  refine fb_mi_of (cc := cX2_sweeten) (maxL := 4) (ret := (some .int)) (by decide) rfl (Nat.le_of_ble_eq_true rfl) ?_
  intro p e s m args below meth c A hx hb hr hml hlk hts hown hP hK hD hA hX ls hl
  have hown : s.vm.findClass RX2 = some m.cls := hown
  have hP : va_P G vwCl [(h, .inr (2, [.int th, .int dy, .int (nI w), .ref n, .ref d, .ref f, .ref o])), (n, .inl (cI, 12, .inl pf)), (d, .inl (cI, 12, .inl df)), (f, .inl (cI, 12, .inl tf)), (o, .inl (cI, 12, .inl uf))] s.heap := hP
  have hD : va_D A [(h, .inr (2, [.int th, .int dy, .int (nI w), .ref n, .ref d, .ref f, .ref o])), (n, .inl (cI, 12, .inl pf)), (d, .inl (cI, 12, .inl df)), (f, .inl (cI, 12, .inl tf)), (o, .inl (cI, 12, .inl uf))] := hD
  have hS : va_S A s.heap s.heap [] := va_S.rf
  have hXn : ∀ (H : Heap) (locs : List Loc), va_S A s.heap H locs → fb_sx (fun _ => False) s H := fun H locs h9 => (hX.kept h9.2.1).narrow (fun _ z => z.elim)
  have hl : lv_has ls 4 [(0, .ref h), (1, .int p0)] := hl
  have hin2 : ∀ w ∈ u_ws RX2 TX2 7, w ∈ wsX2_sweeten := by decide +kernel
  refine lv_aload_n hx hb dX2_sweeten_0 rfl (lv_at hl 0 rfl) ?_
  refine lv_iconst (v := 0) hx hb dX2_sweeten_1 (by decide) ?_
  refine va_put (D := G) (ci := 2) (v := .int 0) (ty := .int) (C := RX2) (T := TX2) (N := 7) hx hb hts (hin2) tyX2 tyX2_ok nmX2 hown hK hP hD hS 0 rfl rfl 0 (by decide) (hts (.fieldLink RX2 26 "FifthBeatsModel" "thrown" "I") (by decide +kernel)) (fun _ h9 => h9) rfl (by decide +kernel) rfl rfl (Nat.le_of_ble_eq_true rfl) dX2_sweeten_2 (fun H locs hP hD hS => ?_)
  have hP : va_P G vwCl [(h, .inr (2, [.int 0, .int dy, .int (nI w), .ref n, .ref d, .ref f, .ref o])), (n, .inl (cI, 12, .inl pf)), (d, .inl (cI, 12, .inl df)), (f, .inl (cI, 12, .inl tf)), (o, .inl (cI, 12, .inl uf))] H := hP
  have hD : va_D A [(h, .inr (2, [.int 0, .int dy, .int (nI w), .ref n, .ref d, .ref f, .ref o])), (n, .inl (cI, 12, .inl pf)), (d, .inl (cI, 12, .inl df)), (f, .inl (cI, 12, .inl tf)), (o, .inl (cI, 12, .inl uf))] := hD
  refine lv_iload_n hx hb dX2_sweeten_5 rfl (lv_at hl 1 rfl) ?_
  refine fb_roS (As := [.int p0]) (rest := []) (n := 1) ⟨hx, hb, hml, hown, hts⟩ (fb_c_X2_isOne l p0) gX2_sweeten_X2_isOne rfl (by decide +kernel) (by decide) fb_Bl_T (fun _ _ _ => trivial) rfl hl.1 rfl (Nat.le_of_ble_eq_true rfl) dX2_sweeten_6 (by decide) ?_
  refine fb_ti (z := 0) (fb_ii_0 hp) ?_
  refine lv_if_ne (tgt := 18) hx hb dX2_sweeten_9 (by decide) (fun c9 => ?_) (fun c9 => ?_)
  · skip
    first | exact absurd c9 (by decide) | exact absurd (by decide) c9
  · skip
    refine lv_aload_n hx hb dX2_sweeten_12 rfl (lv_at hl 0 rfl) ?_
    refine lv_iconst (v := 1) hx hb dX2_sweeten_13 (by decide) ?_
    refine fb_miV (As := [.int 1]) (rest := []) (n := 1) (wr := []) (wz := [(h, .inr (2, [.int 1, .int dy, .int (nI w), .ref n, .ref d, .ref f, .ref o])), (n, .inl (cI, 12, .inl pf)), (d, .inl (cI, 12, .inl df)), (f, .inl (cI, 12, .inl tf)), (o, .inl (cI, 12, .inl uf))]) ⟨hx, hb, hml, hown, hts⟩ (fb_c_X2_no l G cI cL h n d f o pf df tf uf 0 dy w 1 _) gX2_sweeten_X2_no rfl (by decide +kernel) (by decide) (va_recv hK hP (ci := 2) (q0 := 0) rfl rfl) hP hK hD hS hA hX [0, 1, 2, 3, 4] [] [0, 1, 2, 3, 4] rfl rfl rfl rfl rfl rfl (by decide) rfl hl.1 rfl (Nat.le_of_ble_eq_true rfl) dX2_sweeten_14 (by decide) (fun H locs hP hD hS => ?_)
    have hP9 := hP.sub (ws' := [(h, .inr (2, [.int 1, .int dy, .int (nI w), .ref n, .ref d, .ref f, .ref o])), (n, .inl (cI, 12, .inl pf)), (d, .inl (cI, 12, .inl df)), (f, .inl (cI, 12, .inl tf)), (o, .inl (cI, 12, .inl uf))]) [0, 1, 2, 3, 4] (rfl)
    have hD9 := hD.sub (ws' := [(h, .inr (2, [.int 1, .int dy, .int (nI w), .ref n, .ref d, .ref f, .ref o])), (n, .inl (cI, 12, .inl pf)), (d, .inl (cI, 12, .inl df)), (f, .inl (cI, 12, .inl tf)), (o, .inl (cI, 12, .inl uf))]) [0, 1, 2, 3, 4] (by decide) (rfl)
    exact W.iret (v := 0) hx hb hr (fun t ht hW => ⟨⟨0, (), rfl, rfl, by rw [ht]; exact hP9, hD9⟩, hS.F ht⟩) hS.2.2 dX2_sweeten_17 hlk
set_option maxHeartbeats 4000000 in
set_option maxRecDepth 100000 in
theorem fb_c_X2_sweeten_b2 (l : Launch) (G : va_G) (cI cL : ClassId) (h n d f o : Nat) (pf df tf uf : Nat → Int32) (th dy : Int32) (w : Nat) (j : Nat) (hj : j < 12) (hw : w < 12) (h2 : (fb_rg uf) (j + 4) - fb_mj (fb_ep pf w) (fb_rg uf) j 4 < (-50) ∨ 50 < (fb_rg uf) (j + 4) - fb_mj (fb_ep pf w) (fb_rg uf) j 4) (sz : Nat) : fb_MI l yX2_sweeten wsX2_sweeten 3 69 [.ref h, .int (nI j)] G cI cL sz (fb_MW cI h n d f o pf df tf uf th dy (nI w)) (fb_MW cI h n d f o pf df tf uf 2 dy (nI w)) 0 := by
  refine fb_mi_of (cc := cX2_sweeten) (maxL := 4) (ret := (some .int)) (by decide) rfl (Nat.le_of_ble_eq_true rfl) ?_
  intro p e s m args below meth c A hx hb hr hml hlk hts hown hP hK hD hA hX ls hl
  have hown : s.vm.findClass RX2 = some m.cls := hown
  have hP : va_P G vwCl [(h, .inr (2, [.int th, .int dy, .int (nI w), .ref n, .ref d, .ref f, .ref o])), (n, .inl (cI, 12, .inl pf)), (d, .inl (cI, 12, .inl df)), (f, .inl (cI, 12, .inl tf)), (o, .inl (cI, 12, .inl uf))] s.heap := hP
  have hD : va_D A [(h, .inr (2, [.int th, .int dy, .int (nI w), .ref n, .ref d, .ref f, .ref o])), (n, .inl (cI, 12, .inl pf)), (d, .inl (cI, 12, .inl df)), (f, .inl (cI, 12, .inl tf)), (o, .inl (cI, 12, .inl uf))] := hD
  have hS : va_S A s.heap s.heap [] := va_S.rf
  have hXn : ∀ (H : Heap) (locs : List Loc), va_S A s.heap H locs → fb_sx (fun _ => False) s H := fun H locs h9 => (hX.kept h9.2.1).narrow (fun _ z => z.elim)
  have hl : lv_has ls 4 [(0, .ref h), (1, .int (nI j))] := hl
  have hin2 : ∀ w ∈ u_ws RX2 TX2 7, w ∈ wsX2_sweeten := by decide +kernel
  refine lv_aload_n hx hb dX2_sweeten_0 rfl (lv_at hl 0 rfl) ?_
  refine lv_iconst (v := 0) hx hb dX2_sweeten_1 (by decide) ?_
  refine va_put (D := G) (ci := 2) (v := .int 0) (ty := .int) (C := RX2) (T := TX2) (N := 7) hx hb hts (hin2) tyX2 tyX2_ok nmX2 hown hK hP hD hS 0 rfl rfl 0 (by decide) (hts (.fieldLink RX2 26 "FifthBeatsModel" "thrown" "I") (by decide +kernel)) (fun _ h9 => h9) rfl (by decide +kernel) rfl rfl (Nat.le_of_ble_eq_true rfl) dX2_sweeten_2 (fun H locs hP hD hS => ?_)
  have hP : va_P G vwCl [(h, .inr (2, [.int 0, .int dy, .int (nI w), .ref n, .ref d, .ref f, .ref o])), (n, .inl (cI, 12, .inl pf)), (d, .inl (cI, 12, .inl df)), (f, .inl (cI, 12, .inl tf)), (o, .inl (cI, 12, .inl uf))] H := hP
  have hD : va_D A [(h, .inr (2, [.int 0, .int dy, .int (nI w), .ref n, .ref d, .ref f, .ref o])), (n, .inl (cI, 12, .inl pf)), (d, .inl (cI, 12, .inl df)), (f, .inl (cI, 12, .inl tf)), (o, .inl (cI, 12, .inl uf))] := hD
  refine lv_iload_n hx hb dX2_sweeten_5 rfl (lv_at hl 1 rfl) ?_
  refine fb_roS (As := [.int (nI j)]) (rest := []) (n := 1) ⟨hx, hb, hml, hown, hts⟩ (fb_c_X2_isOne l (nI j)) gX2_sweeten_X2_isOne rfl (by decide +kernel) (by decide) fb_Bl_T (fun _ _ _ => trivial) rfl hl.1 rfl (Nat.le_of_ble_eq_true rfl) dX2_sweeten_6 (by decide) ?_
  refine fb_ti (z := 1) (fb_ii_j hj) ?_
  refine lv_if_ne (tgt := 18) hx hb dX2_sweeten_9 (by decide) (fun c9 => ?_) (fun c9 => ?_)
  · skip
    refine lv_iload_n hx hb dX2_sweeten_18 rfl (lv_at hl 1 rfl) ?_
    refine lv_iconst (v := 4) hx hb dX2_sweeten_19 (by decide) ?_
    refine lv_iadd hx hb dX2_sweeten_20 ?_
    refine fb_ti (z := nI (j + 4)) (nI_add j 4) ?_
    refine lv_bipush (v := 12) hx hb dX2_sweeten_21 (by decide) ?_
    refine lv_irem hx hb dX2_sweeten_23 (by decide) ?_
    refine fb_ti (z := nI ((j + 4) % 12)) (fb_rm_12 (by omega)) ?_
    refine lv_istore_n (lv' := [(2, .int (nI ((j + 4) % 12))), (0, .ref h), (1, .int (nI j))]) hx hb dX2_sweeten_24 rfl hl (by decide) rfl (fun ls hl => ?_)
    refine lv_aload_n hx hb dX2_sweeten_25 rfl (lv_at hl 1 rfl) ?_
    refine va_get (D := G) (ci := 2) (v := .ref o) (C := RX2) (T := TX2) (N := 7) hx hb hts (hin2) hown hK hP 0 rfl rfl 6 (by decide) (hts (.fieldLink RX2 23 "FifthBeatsModel" "off" "[I") (by decide +kernel)) (fun _ h9 => h9) rfl dX2_sweeten_26 ?_
    refine lv_iload_n hx hb dX2_sweeten_29 rfl (lv_at hl 0 rfl) ?_
    refine va_iald hx hb hK hP 4 0 rfl rfl (vp_in_nI (Nat.mod_lt _ (by decide)) (by decide)) dX2_sweeten_30 ?_
    refine fb_ti (z := fb_rg uf (j + 4)) (by rw [fb_cl (by omega)]; rfl) ?_
    refine lv_aload_n hx hb dX2_sweeten_31 rfl (lv_at hl 1 rfl) ?_
    refine lv_iload_n hx hb dX2_sweeten_32 rfl (lv_at hl 2 rfl) ?_
    refine fb_roV (As := [.int (nI j)]) (rest := [.int (fb_rg uf (j + 4))]) (n := 1) ⟨hx, hb, hml, hown, hts⟩ (fb_c_X2_majorOff l G cI cL h n d f o pf df tf uf 0 dy w j (by omega) hw) gX2_sweeten_X2_majorOff rfl (by decide +kernel) (by decide) (fb_PB.bl _ _ _ _) (va_recv hK hP (ci := 2) (q0 := 0) rfl rfl) (fb_PB.to hP hK (hXn _ _ hS)) rfl hl.1 rfl (Nat.le_of_ble_eq_true rfl) dX2_sweeten_33 (by decide) ?_
    refine lv_isub hx hb dX2_sweeten_36 ?_
    refine lv_istore_n (lv' := [(3, .int ((fb_rg uf (j + 4)) - (fb_mj (fb_ep pf w) (fb_rg uf) j 4))), (2, .int (nI ((j + 4) % 12))), (0, .ref h), (1, .int (nI j))]) hx hb dX2_sweeten_37 rfl hl (by decide) rfl (fun ls hl => ?_)
    refine lv_iload_n hx hb dX2_sweeten_38 rfl (lv_at hl 0 rfl) ?_
    refine fb_roS (As := [.int ((fb_rg uf (j + 4)) - (fb_mj (fb_ep pf w) (fb_rg uf) j 4))]) (rest := []) (n := 1) ⟨hx, hb, hml, hown, hts⟩ (fb_c_X2_held l ((fb_rg uf (j + 4)) - (fb_mj (fb_ep pf w) (fb_rg uf) j 4))) gX2_sweeten_X2_held rfl (by decide +kernel) (by decide) fb_Bl_T (fun _ _ _ => trivial) rfl hl.1 rfl (Nat.le_of_ble_eq_true rfl) dX2_sweeten_39 (by decide) ?_
    refine lv_iload_n hx hb dX2_sweeten_42 rfl (lv_at hl 0 rfl) ?_
    refine lv_icmp_eq (tgt := 52) hx hb dX2_sweeten_43 (by decide) (fun c43 => ?_) (fun c43 => ?_)
    · skip
      exact absurd c43 (fb_hd_no h2)
    · skip
      refine lv_aload_n hx hb dX2_sweeten_46 rfl (lv_at hl 2 rfl) ?_
      refine lv_iconst (v := 2) hx hb dX2_sweeten_47 (by decide) ?_
      refine fb_miV (As := [.int 2]) (rest := []) (n := 1) (wr := []) (wz := [(h, .inr (2, [.int 2, .int dy, .int (nI w), .ref n, .ref d, .ref f, .ref o])), (n, .inl (cI, 12, .inl pf)), (d, .inl (cI, 12, .inl df)), (f, .inl (cI, 12, .inl tf)), (o, .inl (cI, 12, .inl uf))]) ⟨hx, hb, hml, hown, hts⟩ (fb_c_X2_no l G cI cL h n d f o pf df tf uf 0 dy w 2 _) gX2_sweeten_X2_no rfl (by decide +kernel) (by decide) (va_recv hK hP (ci := 2) (q0 := 0) rfl rfl) hP hK hD hS hA hX [0, 1, 2, 3, 4] [] [0, 1, 2, 3, 4] rfl rfl rfl rfl rfl rfl (by decide) rfl hl.1 rfl (Nat.le_of_ble_eq_true rfl) dX2_sweeten_48 (by decide) (fun H locs hP hD hS => ?_)
      have hP9 := hP.sub (ws' := [(h, .inr (2, [.int 2, .int dy, .int (nI w), .ref n, .ref d, .ref f, .ref o])), (n, .inl (cI, 12, .inl pf)), (d, .inl (cI, 12, .inl df)), (f, .inl (cI, 12, .inl tf)), (o, .inl (cI, 12, .inl uf))]) [0, 1, 2, 3, 4] (rfl)
      have hD9 := hD.sub (ws' := [(h, .inr (2, [.int 2, .int dy, .int (nI w), .ref n, .ref d, .ref f, .ref o])), (n, .inl (cI, 12, .inl pf)), (d, .inl (cI, 12, .inl df)), (f, .inl (cI, 12, .inl tf)), (o, .inl (cI, 12, .inl uf))]) [0, 1, 2, 3, 4] (by decide) (rfl)
      exact W.iret (v := 0) hx hb hr (fun t ht hW => ⟨⟨0, (), rfl, rfl, by rw [ht]; exact hP9, hD9⟩, hS.F ht⟩) hS.2.2 dX2_sweeten_51 hlk
  · skip
    first | exact absurd c9 (by decide) | exact absurd (by decide) c9
set_option maxHeartbeats 4000000 in
set_option maxRecDepth 100000 in
theorem fb_c_X2_fifth_ok (l : Launch) (G : va_G) (cI cL : ClassId) (h n d f o : Nat) (pf df tf uf : Nat → Int32) (th dy : Int32) (w : Nat) (j : Nat) (q : Nat) (hj : j < 12) (hq : q < 5) (hw : w < 12) (sz : Nat) : fb_MI l yX2_fifth wsX2_fifth 4 91 [.ref h, .int (nI j), .int (nI q)] G cI cL sz (fb_MW cI h n d f o pf df tf uf th dy (nI w)) (fb_MW cI h n d f o pf df tf uf 0 dy (nI w)) (fb_tF (fb_ep pf w) (fb_rg uf) w j q) := by
  refine fb_mi_of (cc := cX2_fifth) (maxL := 3) (ret := (some .int)) (by decide) rfl (Nat.le_of_ble_eq_true rfl) ?_
  intro p e s m args below meth c A hx hb hr hml hlk hts hown hP hK hD hA hX ls hl
  have hown : s.vm.findClass RX2 = some m.cls := hown
  have hP : va_P G vwCl [(h, .inr (2, [.int th, .int dy, .int (nI w), .ref n, .ref d, .ref f, .ref o])), (n, .inl (cI, 12, .inl pf)), (d, .inl (cI, 12, .inl df)), (f, .inl (cI, 12, .inl tf)), (o, .inl (cI, 12, .inl uf))] s.heap := hP
  have hD : va_D A [(h, .inr (2, [.int th, .int dy, .int (nI w), .ref n, .ref d, .ref f, .ref o])), (n, .inl (cI, 12, .inl pf)), (d, .inl (cI, 12, .inl df)), (f, .inl (cI, 12, .inl tf)), (o, .inl (cI, 12, .inl uf))] := hD
  have hS : va_S A s.heap s.heap [] := va_S.rf
  have hXn : ∀ (H : Heap) (locs : List Loc), va_S A s.heap H locs → fb_sx (fun _ => False) s H := fun H locs h9 => (hX.kept h9.2.1).narrow (fun _ z => z.elim)
  have hl : lv_has ls 3 [(0, .ref h), (1, .int (nI j)), (2, .int (nI q))] := hl
  have hin2 : ∀ w ∈ u_ws RX2 TX2 7, w ∈ wsX2_fifth := by decide +kernel
  refine lv_aload_n hx hb dX2_fifth_0 rfl (lv_at hl 0 rfl) ?_
  refine lv_iconst (v := 0) hx hb dX2_fifth_1 (by decide) ?_
  refine va_put (D := G) (ci := 2) (v := .int 0) (ty := .int) (C := RX2) (T := TX2) (N := 7) hx hb hts (hin2) tyX2 tyX2_ok nmX2 hown hK hP hD hS 0 rfl rfl 0 (by decide) (hts (.fieldLink RX2 26 "FifthBeatsModel" "thrown" "I") (by decide +kernel)) (fun _ h9 => h9) rfl (by decide +kernel) rfl rfl (Nat.le_of_ble_eq_true rfl) dX2_fifth_2 (fun H locs hP hD hS => ?_)
  have hP : va_P G vwCl [(h, .inr (2, [.int 0, .int dy, .int (nI w), .ref n, .ref d, .ref f, .ref o])), (n, .inl (cI, 12, .inl pf)), (d, .inl (cI, 12, .inl df)), (f, .inl (cI, 12, .inl tf)), (o, .inl (cI, 12, .inl uf))] H := hP
  have hD : va_D A [(h, .inr (2, [.int 0, .int dy, .int (nI w), .ref n, .ref d, .ref f, .ref o])), (n, .inl (cI, 12, .inl pf)), (d, .inl (cI, 12, .inl df)), (f, .inl (cI, 12, .inl tf)), (o, .inl (cI, 12, .inl uf))] := hD
  refine lv_iload_n hx hb dX2_fifth_5 rfl (lv_at hl 1 rfl) ?_
  refine fb_roS (As := [.int (nI j)]) (rest := []) (n := 1) ⟨hx, hb, hml, hown, hts⟩ (fb_c_X2_isOne l (nI j)) gX2_fifth_X2_isOne rfl (by decide +kernel) (by decide) fb_Bl_T (fun _ _ _ => trivial) rfl hl.1 rfl (Nat.le_of_ble_eq_true rfl) dX2_fifth_6 (by decide) ?_
  refine fb_ti (z := 1) (fb_ii_j hj) ?_
  refine lv_if_eq (tgt := 30) hx hb dX2_fifth_9 (by decide) (fun c9 => ?_) (fun c9 => ?_)
  · skip
    first | exact absurd c9 (by decide) | exact absurd (by decide) c9
  · skip
    refine lv_iload_n hx hb dX2_fifth_12 rfl (lv_at hl 2 rfl) ?_
    refine lv_iconst (v := 0) hx hb dX2_fifth_13 (by decide) ?_
    refine lv_iconst (v := 4) hx hb dX2_fifth_14 (by decide) ?_
    refine fb_roS (As := [.int (nI q), .int 0, .int 4]) (rest := []) (n := 3) ⟨hx, hb, hml, hown, hts⟩ (fb_c_X2_isIn l (nI q) 0 4) gX2_fifth_X2_isIn rfl (by decide +kernel) (by decide) fb_Bl_T (fun _ _ _ => trivial) rfl hl.1 rfl (Nat.le_of_ble_eq_true rfl) dX2_fifth_15 (by decide) ?_
    refine fb_ti (z := 1) (fb_ii_1 (fb_r0 (n := 4) (by omega) (by decide))) ?_
    refine lv_if_eq (tgt := 30) hx hb dX2_fifth_18 (by decide) (fun c18 => ?_) (fun c18 => ?_)
    · skip
      first | exact absurd c18 (by decide) | exact absurd (by decide) c18
    · skip
      refine lv_aload_n hx hb dX2_fifth_21 rfl (lv_at hl 0 rfl) ?_
      refine lv_iload_n hx hb dX2_fifth_22 rfl (lv_at hl 1 rfl) ?_
      refine lv_iload_n hx hb dX2_fifth_23 rfl (lv_at hl 2 rfl) ?_
      refine fb_roV (As := [.int (nI j), .int (nI q)]) (rest := []) (n := 2) ⟨hx, hb, hml, hown, hts⟩ (fb_c_X2_fifthTold l G cI cL h n d f o pf df tf uf 0 dy w j q hj hq hw) gX2_fifth_X2_fifthTold rfl (by decide +kernel) (by decide) (fb_PB.bl _ _ _ _) (va_recv hK hP (ci := 2) (q0 := 0) rfl rfl) (fb_PB.to hP hK (hXn _ _ hS)) rfl hl.1 rfl (Nat.le_of_ble_eq_true rfl) dX2_fifth_24 (by decide) ?_
      refine lv_goto (tgt := 35) hx hb dX2_fifth_27 (by decide) ?_
      have hP9 := hP.sub (ws' := [(h, .inr (2, [.int 0, .int dy, .int (nI w), .ref n, .ref d, .ref f, .ref o])), (n, .inl (cI, 12, .inl pf)), (d, .inl (cI, 12, .inl df)), (f, .inl (cI, 12, .inl tf)), (o, .inl (cI, 12, .inl uf))]) [0, 1, 2, 3, 4] (rfl)
      have hD9 := hD.sub (ws' := [(h, .inr (2, [.int 0, .int dy, .int (nI w), .ref n, .ref d, .ref f, .ref o])), (n, .inl (cI, 12, .inl pf)), (d, .inl (cI, 12, .inl df)), (f, .inl (cI, 12, .inl tf)), (o, .inl (cI, 12, .inl uf))]) [0, 1, 2, 3, 4] (by decide) (rfl)
      exact W.iret (v := fb_tF (fb_ep pf w) (fb_rg uf) w j q) hx hb hr (fun t ht hW => ⟨⟨fb_tF (fb_ep pf w) (fb_rg uf) w j q, (), rfl, rfl, by rw [ht]; exact hP9, hD9⟩, hS.F ht⟩) hS.2.2 dX2_fifth_35 hlk
set_option maxHeartbeats 4000000 in
set_option maxRecDepth 100000 in
theorem fb_c_X2_fifth_b1 (l : Launch) (G : va_G) (cI cL : ClassId) (h n d f o : Nat) (pf df tf uf : Nat → Int32) (th dy : Int32) (w : Nat) (p0 : Int32) (v : Int32) (hp : p0 < 0 ∨ 11 < p0) (sz : Nat) : fb_MI l yX2_fifth wsX2_fifth 4 91 [.ref h, .int p0, .int v] G cI cL sz (fb_MW cI h n d f o pf df tf uf th dy (nI w)) (fb_MW cI h n d f o pf df tf uf 1 dy (nI w)) 0 := by
  refine fb_mi_of (cc := cX2_fifth) (maxL := 3) (ret := (some .int)) (by decide) rfl (Nat.le_of_ble_eq_true rfl) ?_
  intro p e s m args below meth c A hx hb hr hml hlk hts hown hP hK hD hA hX ls hl
  have hown : s.vm.findClass RX2 = some m.cls := hown
  have hP : va_P G vwCl [(h, .inr (2, [.int th, .int dy, .int (nI w), .ref n, .ref d, .ref f, .ref o])), (n, .inl (cI, 12, .inl pf)), (d, .inl (cI, 12, .inl df)), (f, .inl (cI, 12, .inl tf)), (o, .inl (cI, 12, .inl uf))] s.heap := hP
  have hD : va_D A [(h, .inr (2, [.int th, .int dy, .int (nI w), .ref n, .ref d, .ref f, .ref o])), (n, .inl (cI, 12, .inl pf)), (d, .inl (cI, 12, .inl df)), (f, .inl (cI, 12, .inl tf)), (o, .inl (cI, 12, .inl uf))] := hD
  have hS : va_S A s.heap s.heap [] := va_S.rf
  have hXn : ∀ (H : Heap) (locs : List Loc), va_S A s.heap H locs → fb_sx (fun _ => False) s H := fun H locs h9 => (hX.kept h9.2.1).narrow (fun _ z => z.elim)
  have hl : lv_has ls 3 [(0, .ref h), (1, .int p0), (2, .int v)] := hl
  have hin2 : ∀ w ∈ u_ws RX2 TX2 7, w ∈ wsX2_fifth := by decide +kernel
  refine lv_aload_n hx hb dX2_fifth_0 rfl (lv_at hl 0 rfl) ?_
  refine lv_iconst (v := 0) hx hb dX2_fifth_1 (by decide) ?_
  refine va_put (D := G) (ci := 2) (v := .int 0) (ty := .int) (C := RX2) (T := TX2) (N := 7) hx hb hts (hin2) tyX2 tyX2_ok nmX2 hown hK hP hD hS 0 rfl rfl 0 (by decide) (hts (.fieldLink RX2 26 "FifthBeatsModel" "thrown" "I") (by decide +kernel)) (fun _ h9 => h9) rfl (by decide +kernel) rfl rfl (Nat.le_of_ble_eq_true rfl) dX2_fifth_2 (fun H locs hP hD hS => ?_)
  have hP : va_P G vwCl [(h, .inr (2, [.int 0, .int dy, .int (nI w), .ref n, .ref d, .ref f, .ref o])), (n, .inl (cI, 12, .inl pf)), (d, .inl (cI, 12, .inl df)), (f, .inl (cI, 12, .inl tf)), (o, .inl (cI, 12, .inl uf))] H := hP
  have hD : va_D A [(h, .inr (2, [.int 0, .int dy, .int (nI w), .ref n, .ref d, .ref f, .ref o])), (n, .inl (cI, 12, .inl pf)), (d, .inl (cI, 12, .inl df)), (f, .inl (cI, 12, .inl tf)), (o, .inl (cI, 12, .inl uf))] := hD
  refine lv_iload_n hx hb dX2_fifth_5 rfl (lv_at hl 1 rfl) ?_
  refine fb_roS (As := [.int p0]) (rest := []) (n := 1) ⟨hx, hb, hml, hown, hts⟩ (fb_c_X2_isOne l p0) gX2_fifth_X2_isOne rfl (by decide +kernel) (by decide) fb_Bl_T (fun _ _ _ => trivial) rfl hl.1 rfl (Nat.le_of_ble_eq_true rfl) dX2_fifth_6 (by decide) ?_
  refine fb_ti (z := 0) (fb_ii_0 hp) ?_
  refine lv_if_eq (tgt := 30) hx hb dX2_fifth_9 (by decide) (fun c9 => ?_) (fun c9 => ?_)
  · skip
    refine lv_aload_n hx hb dX2_fifth_30 rfl (lv_at hl 0 rfl) ?_
    refine lv_iconst (v := 1) hx hb dX2_fifth_31 (by decide) ?_
    refine fb_miV (As := [.int 1]) (rest := []) (n := 1) (wr := []) (wz := [(h, .inr (2, [.int 1, .int dy, .int (nI w), .ref n, .ref d, .ref f, .ref o])), (n, .inl (cI, 12, .inl pf)), (d, .inl (cI, 12, .inl df)), (f, .inl (cI, 12, .inl tf)), (o, .inl (cI, 12, .inl uf))]) ⟨hx, hb, hml, hown, hts⟩ (fb_c_X2_no l G cI cL h n d f o pf df tf uf 0 dy w 1 _) gX2_fifth_X2_no rfl (by decide +kernel) (by decide) (va_recv hK hP (ci := 2) (q0 := 0) rfl rfl) hP hK hD hS hA hX [0, 1, 2, 3, 4] [] [0, 1, 2, 3, 4] rfl rfl rfl rfl rfl rfl (by decide) rfl hl.1 rfl (Nat.le_of_ble_eq_true rfl) dX2_fifth_32 (by decide) (fun H locs hP hD hS => ?_)
    have hP9 := hP.sub (ws' := [(h, .inr (2, [.int 1, .int dy, .int (nI w), .ref n, .ref d, .ref f, .ref o])), (n, .inl (cI, 12, .inl pf)), (d, .inl (cI, 12, .inl df)), (f, .inl (cI, 12, .inl tf)), (o, .inl (cI, 12, .inl uf))]) [0, 1, 2, 3, 4] (rfl)
    have hD9 := hD.sub (ws' := [(h, .inr (2, [.int 1, .int dy, .int (nI w), .ref n, .ref d, .ref f, .ref o])), (n, .inl (cI, 12, .inl pf)), (d, .inl (cI, 12, .inl df)), (f, .inl (cI, 12, .inl tf)), (o, .inl (cI, 12, .inl uf))]) [0, 1, 2, 3, 4] (by decide) (rfl)
    exact W.iret (v := 0) hx hb hr (fun t ht hW => ⟨⟨0, (), rfl, rfl, by rw [ht]; exact hP9, hD9⟩, hS.F ht⟩) hS.2.2 dX2_fifth_35 hlk
  · skip
    first | exact absurd c9 (by decide) | exact absurd (by decide) c9
set_option maxHeartbeats 4000000 in
set_option maxRecDepth 100000 in
theorem fb_c_X2_fifth_b2 (l : Launch) (G : va_G) (cI cL : ClassId) (h n d f o : Nat) (pf df tf uf : Nat → Int32) (th dy : Int32) (w : Nat) (j : Nat) (v : Int32) (hj : j < 12) (h2 : v < 0 ∨ 4 < v) (sz : Nat) : fb_MI l yX2_fifth wsX2_fifth 4 91 [.ref h, .int (nI j), .int v] G cI cL sz (fb_MW cI h n d f o pf df tf uf th dy (nI w)) (fb_MW cI h n d f o pf df tf uf 1 dy (nI w)) 0 := by
  refine fb_mi_of (cc := cX2_fifth) (maxL := 3) (ret := (some .int)) (by decide) rfl (Nat.le_of_ble_eq_true rfl) ?_
  intro p e s m args below meth c A hx hb hr hml hlk hts hown hP hK hD hA hX ls hl
  have hown : s.vm.findClass RX2 = some m.cls := hown
  have hP : va_P G vwCl [(h, .inr (2, [.int th, .int dy, .int (nI w), .ref n, .ref d, .ref f, .ref o])), (n, .inl (cI, 12, .inl pf)), (d, .inl (cI, 12, .inl df)), (f, .inl (cI, 12, .inl tf)), (o, .inl (cI, 12, .inl uf))] s.heap := hP
  have hD : va_D A [(h, .inr (2, [.int th, .int dy, .int (nI w), .ref n, .ref d, .ref f, .ref o])), (n, .inl (cI, 12, .inl pf)), (d, .inl (cI, 12, .inl df)), (f, .inl (cI, 12, .inl tf)), (o, .inl (cI, 12, .inl uf))] := hD
  have hS : va_S A s.heap s.heap [] := va_S.rf
  have hXn : ∀ (H : Heap) (locs : List Loc), va_S A s.heap H locs → fb_sx (fun _ => False) s H := fun H locs h9 => (hX.kept h9.2.1).narrow (fun _ z => z.elim)
  have hl : lv_has ls 3 [(0, .ref h), (1, .int (nI j)), (2, .int v)] := hl
  have hin2 : ∀ w ∈ u_ws RX2 TX2 7, w ∈ wsX2_fifth := by decide +kernel
  refine lv_aload_n hx hb dX2_fifth_0 rfl (lv_at hl 0 rfl) ?_
  refine lv_iconst (v := 0) hx hb dX2_fifth_1 (by decide) ?_
  refine va_put (D := G) (ci := 2) (v := .int 0) (ty := .int) (C := RX2) (T := TX2) (N := 7) hx hb hts (hin2) tyX2 tyX2_ok nmX2 hown hK hP hD hS 0 rfl rfl 0 (by decide) (hts (.fieldLink RX2 26 "FifthBeatsModel" "thrown" "I") (by decide +kernel)) (fun _ h9 => h9) rfl (by decide +kernel) rfl rfl (Nat.le_of_ble_eq_true rfl) dX2_fifth_2 (fun H locs hP hD hS => ?_)
  have hP : va_P G vwCl [(h, .inr (2, [.int 0, .int dy, .int (nI w), .ref n, .ref d, .ref f, .ref o])), (n, .inl (cI, 12, .inl pf)), (d, .inl (cI, 12, .inl df)), (f, .inl (cI, 12, .inl tf)), (o, .inl (cI, 12, .inl uf))] H := hP
  have hD : va_D A [(h, .inr (2, [.int 0, .int dy, .int (nI w), .ref n, .ref d, .ref f, .ref o])), (n, .inl (cI, 12, .inl pf)), (d, .inl (cI, 12, .inl df)), (f, .inl (cI, 12, .inl tf)), (o, .inl (cI, 12, .inl uf))] := hD
  refine lv_iload_n hx hb dX2_fifth_5 rfl (lv_at hl 1 rfl) ?_
  refine fb_roS (As := [.int (nI j)]) (rest := []) (n := 1) ⟨hx, hb, hml, hown, hts⟩ (fb_c_X2_isOne l (nI j)) gX2_fifth_X2_isOne rfl (by decide +kernel) (by decide) fb_Bl_T (fun _ _ _ => trivial) rfl hl.1 rfl (Nat.le_of_ble_eq_true rfl) dX2_fifth_6 (by decide) ?_
  refine fb_ti (z := 1) (fb_ii_j hj) ?_
  refine lv_if_eq (tgt := 30) hx hb dX2_fifth_9 (by decide) (fun c9 => ?_) (fun c9 => ?_)
  · skip
    first | exact absurd c9 (by decide) | exact absurd (by decide) c9
  · skip
    refine lv_iload_n hx hb dX2_fifth_12 rfl (lv_at hl 2 rfl) ?_
    refine lv_iconst (v := 0) hx hb dX2_fifth_13 (by decide) ?_
    refine lv_iconst (v := 4) hx hb dX2_fifth_14 (by decide) ?_
    refine fb_roS (As := [.int v, .int 0, .int 4]) (rest := []) (n := 3) ⟨hx, hb, hml, hown, hts⟩ (fb_c_X2_isIn l v 0 4) gX2_fifth_X2_isIn rfl (by decide +kernel) (by decide) fb_Bl_T (fun _ _ _ => trivial) rfl hl.1 rfl (Nat.le_of_ble_eq_true rfl) dX2_fifth_15 (by decide) ?_
    refine fb_ti (z := 0) (fb_ii_0 h2) ?_
    refine lv_if_eq (tgt := 30) hx hb dX2_fifth_18 (by decide) (fun c18 => ?_) (fun c18 => ?_)
    · skip
      refine lv_aload_n hx hb dX2_fifth_30 rfl (lv_at hl 0 rfl) ?_
      refine lv_iconst (v := 1) hx hb dX2_fifth_31 (by decide) ?_
      refine fb_miV (As := [.int 1]) (rest := []) (n := 1) (wr := []) (wz := [(h, .inr (2, [.int 1, .int dy, .int (nI w), .ref n, .ref d, .ref f, .ref o])), (n, .inl (cI, 12, .inl pf)), (d, .inl (cI, 12, .inl df)), (f, .inl (cI, 12, .inl tf)), (o, .inl (cI, 12, .inl uf))]) ⟨hx, hb, hml, hown, hts⟩ (fb_c_X2_no l G cI cL h n d f o pf df tf uf 0 dy w 1 _) gX2_fifth_X2_no rfl (by decide +kernel) (by decide) (va_recv hK hP (ci := 2) (q0 := 0) rfl rfl) hP hK hD hS hA hX [0, 1, 2, 3, 4] [] [0, 1, 2, 3, 4] rfl rfl rfl rfl rfl rfl (by decide) rfl hl.1 rfl (Nat.le_of_ble_eq_true rfl) dX2_fifth_32 (by decide) (fun H locs hP hD hS => ?_)
      have hP9 := hP.sub (ws' := [(h, .inr (2, [.int 1, .int dy, .int (nI w), .ref n, .ref d, .ref f, .ref o])), (n, .inl (cI, 12, .inl pf)), (d, .inl (cI, 12, .inl df)), (f, .inl (cI, 12, .inl tf)), (o, .inl (cI, 12, .inl uf))]) [0, 1, 2, 3, 4] (rfl)
      have hD9 := hD.sub (ws' := [(h, .inr (2, [.int 1, .int dy, .int (nI w), .ref n, .ref d, .ref f, .ref o])), (n, .inl (cI, 12, .inl pf)), (d, .inl (cI, 12, .inl df)), (f, .inl (cI, 12, .inl tf)), (o, .inl (cI, 12, .inl uf))]) [0, 1, 2, 3, 4] (by decide) (rfl)
      exact W.iret (v := 0) hx hb hr (fun t ht hW => ⟨⟨0, (), rfl, rfl, by rw [ht]; exact hP9, hD9⟩, hS.F ht⟩) hS.2.2 dX2_fifth_35 hlk
    · skip
      first | exact absurd c18 (by decide) | exact absurd (by decide) c18
set_option maxHeartbeats 4000000 in
set_option maxRecDepth 100000 in
theorem fb_c_X2_major_ok (l : Launch) (G : va_G) (cI cL : ClassId) (h n d f o : Nat) (pf df tf uf : Nat → Int32) (th dy : Int32) (w : Nat) (j : Nat) (q : Nat) (hj : j < 12) (hq : q < 3) (hw : w < 12) (sz : Nat) : fb_MI l yX2_major wsX2_major 4 91 [.ref h, .int (nI j), .int (nI q)] G cI cL sz (fb_MW cI h n d f o pf df tf uf th dy (nI w)) (fb_MW cI h n d f o pf df tf uf 0 dy (nI w)) (fb_tM (fb_ep pf w) (fb_rg uf) j q) := by
  refine fb_mi_of (cc := cX2_major) (maxL := 3) (ret := (some .int)) (by decide) rfl (Nat.le_of_ble_eq_true rfl) ?_
  intro p e s m args below meth c A hx hb hr hml hlk hts hown hP hK hD hA hX ls hl
  have hown : s.vm.findClass RX2 = some m.cls := hown
  have hP : va_P G vwCl [(h, .inr (2, [.int th, .int dy, .int (nI w), .ref n, .ref d, .ref f, .ref o])), (n, .inl (cI, 12, .inl pf)), (d, .inl (cI, 12, .inl df)), (f, .inl (cI, 12, .inl tf)), (o, .inl (cI, 12, .inl uf))] s.heap := hP
  have hD : va_D A [(h, .inr (2, [.int th, .int dy, .int (nI w), .ref n, .ref d, .ref f, .ref o])), (n, .inl (cI, 12, .inl pf)), (d, .inl (cI, 12, .inl df)), (f, .inl (cI, 12, .inl tf)), (o, .inl (cI, 12, .inl uf))] := hD
  have hS : va_S A s.heap s.heap [] := va_S.rf
  have hXn : ∀ (H : Heap) (locs : List Loc), va_S A s.heap H locs → fb_sx (fun _ => False) s H := fun H locs h9 => (hX.kept h9.2.1).narrow (fun _ z => z.elim)
  have hl : lv_has ls 3 [(0, .ref h), (1, .int (nI j)), (2, .int (nI q))] := hl
  have hin2 : ∀ w ∈ u_ws RX2 TX2 7, w ∈ wsX2_major := by decide +kernel
  refine lv_aload_n hx hb dX2_major_0 rfl (lv_at hl 0 rfl) ?_
  refine lv_iconst (v := 0) hx hb dX2_major_1 (by decide) ?_
  refine va_put (D := G) (ci := 2) (v := .int 0) (ty := .int) (C := RX2) (T := TX2) (N := 7) hx hb hts (hin2) tyX2 tyX2_ok nmX2 hown hK hP hD hS 0 rfl rfl 0 (by decide) (hts (.fieldLink RX2 26 "FifthBeatsModel" "thrown" "I") (by decide +kernel)) (fun _ h9 => h9) rfl (by decide +kernel) rfl rfl (Nat.le_of_ble_eq_true rfl) dX2_major_2 (fun H locs hP hD hS => ?_)
  have hP : va_P G vwCl [(h, .inr (2, [.int 0, .int dy, .int (nI w), .ref n, .ref d, .ref f, .ref o])), (n, .inl (cI, 12, .inl pf)), (d, .inl (cI, 12, .inl df)), (f, .inl (cI, 12, .inl tf)), (o, .inl (cI, 12, .inl uf))] H := hP
  have hD : va_D A [(h, .inr (2, [.int 0, .int dy, .int (nI w), .ref n, .ref d, .ref f, .ref o])), (n, .inl (cI, 12, .inl pf)), (d, .inl (cI, 12, .inl df)), (f, .inl (cI, 12, .inl tf)), (o, .inl (cI, 12, .inl uf))] := hD
  refine lv_iload_n hx hb dX2_major_5 rfl (lv_at hl 1 rfl) ?_
  refine fb_roS (As := [.int (nI j)]) (rest := []) (n := 1) ⟨hx, hb, hml, hown, hts⟩ (fb_c_X2_isOne l (nI j)) gX2_major_X2_isOne rfl (by decide +kernel) (by decide) fb_Bl_T (fun _ _ _ => trivial) rfl hl.1 rfl (Nat.le_of_ble_eq_true rfl) dX2_major_6 (by decide) ?_
  refine fb_ti (z := 1) (fb_ii_j hj) ?_
  refine lv_if_eq (tgt := 30) hx hb dX2_major_9 (by decide) (fun c9 => ?_) (fun c9 => ?_)
  · skip
    first | exact absurd c9 (by decide) | exact absurd (by decide) c9
  · skip
    refine lv_iload_n hx hb dX2_major_12 rfl (lv_at hl 2 rfl) ?_
    refine lv_iconst (v := 0) hx hb dX2_major_13 (by decide) ?_
    refine lv_iconst (v := 2) hx hb dX2_major_14 (by decide) ?_
    refine fb_roS (As := [.int (nI q), .int 0, .int 2]) (rest := []) (n := 3) ⟨hx, hb, hml, hown, hts⟩ (fb_c_X2_isIn l (nI q) 0 2) gX2_major_X2_isIn rfl (by decide +kernel) (by decide) fb_Bl_T (fun _ _ _ => trivial) rfl hl.1 rfl (Nat.le_of_ble_eq_true rfl) dX2_major_15 (by decide) ?_
    refine fb_ti (z := 1) (fb_ii_1 (fb_r0 (n := 2) (by omega) (by decide))) ?_
    refine lv_if_eq (tgt := 30) hx hb dX2_major_18 (by decide) (fun c18 => ?_) (fun c18 => ?_)
    · skip
      first | exact absurd c18 (by decide) | exact absurd (by decide) c18
    · skip
      refine lv_aload_n hx hb dX2_major_21 rfl (lv_at hl 0 rfl) ?_
      refine lv_iload_n hx hb dX2_major_22 rfl (lv_at hl 1 rfl) ?_
      refine lv_iload_n hx hb dX2_major_23 rfl (lv_at hl 2 rfl) ?_
      refine fb_roV (As := [.int (nI j), .int (nI q)]) (rest := []) (n := 2) ⟨hx, hb, hml, hown, hts⟩ (fb_c_X2_majorTold l G cI cL h n d f o pf df tf uf 0 dy w j q hj hq hw) gX2_major_X2_majorTold rfl (by decide +kernel) (by decide) (fb_PB.bl _ _ _ _) (va_recv hK hP (ci := 2) (q0 := 0) rfl rfl) (fb_PB.to hP hK (hXn _ _ hS)) rfl hl.1 rfl (Nat.le_of_ble_eq_true rfl) dX2_major_24 (by decide) ?_
      refine lv_goto (tgt := 35) hx hb dX2_major_27 (by decide) ?_
      have hP9 := hP.sub (ws' := [(h, .inr (2, [.int 0, .int dy, .int (nI w), .ref n, .ref d, .ref f, .ref o])), (n, .inl (cI, 12, .inl pf)), (d, .inl (cI, 12, .inl df)), (f, .inl (cI, 12, .inl tf)), (o, .inl (cI, 12, .inl uf))]) [0, 1, 2, 3, 4] (rfl)
      have hD9 := hD.sub (ws' := [(h, .inr (2, [.int 0, .int dy, .int (nI w), .ref n, .ref d, .ref f, .ref o])), (n, .inl (cI, 12, .inl pf)), (d, .inl (cI, 12, .inl df)), (f, .inl (cI, 12, .inl tf)), (o, .inl (cI, 12, .inl uf))]) [0, 1, 2, 3, 4] (by decide) (rfl)
      exact W.iret (v := fb_tM (fb_ep pf w) (fb_rg uf) j q) hx hb hr (fun t ht hW => ⟨⟨fb_tM (fb_ep pf w) (fb_rg uf) j q, (), rfl, rfl, by rw [ht]; exact hP9, hD9⟩, hS.F ht⟩) hS.2.2 dX2_major_35 hlk
set_option maxHeartbeats 4000000 in
set_option maxRecDepth 100000 in
theorem fb_c_X2_major_b1 (l : Launch) (G : va_G) (cI cL : ClassId) (h n d f o : Nat) (pf df tf uf : Nat → Int32) (th dy : Int32) (w : Nat) (p0 : Int32) (v : Int32) (hp : p0 < 0 ∨ 11 < p0) (sz : Nat) : fb_MI l yX2_major wsX2_major 4 91 [.ref h, .int p0, .int v] G cI cL sz (fb_MW cI h n d f o pf df tf uf th dy (nI w)) (fb_MW cI h n d f o pf df tf uf 1 dy (nI w)) 0 := by
  refine fb_mi_of (cc := cX2_major) (maxL := 3) (ret := (some .int)) (by decide) rfl (Nat.le_of_ble_eq_true rfl) ?_
  intro p e s m args below meth c A hx hb hr hml hlk hts hown hP hK hD hA hX ls hl
  have hown : s.vm.findClass RX2 = some m.cls := hown
  have hP : va_P G vwCl [(h, .inr (2, [.int th, .int dy, .int (nI w), .ref n, .ref d, .ref f, .ref o])), (n, .inl (cI, 12, .inl pf)), (d, .inl (cI, 12, .inl df)), (f, .inl (cI, 12, .inl tf)), (o, .inl (cI, 12, .inl uf))] s.heap := hP
  have hD : va_D A [(h, .inr (2, [.int th, .int dy, .int (nI w), .ref n, .ref d, .ref f, .ref o])), (n, .inl (cI, 12, .inl pf)), (d, .inl (cI, 12, .inl df)), (f, .inl (cI, 12, .inl tf)), (o, .inl (cI, 12, .inl uf))] := hD
  have hS : va_S A s.heap s.heap [] := va_S.rf
  have hXn : ∀ (H : Heap) (locs : List Loc), va_S A s.heap H locs → fb_sx (fun _ => False) s H := fun H locs h9 => (hX.kept h9.2.1).narrow (fun _ z => z.elim)
  have hl : lv_has ls 3 [(0, .ref h), (1, .int p0), (2, .int v)] := hl
  have hin2 : ∀ w ∈ u_ws RX2 TX2 7, w ∈ wsX2_major := by decide +kernel
  refine lv_aload_n hx hb dX2_major_0 rfl (lv_at hl 0 rfl) ?_
  refine lv_iconst (v := 0) hx hb dX2_major_1 (by decide) ?_
  refine va_put (D := G) (ci := 2) (v := .int 0) (ty := .int) (C := RX2) (T := TX2) (N := 7) hx hb hts (hin2) tyX2 tyX2_ok nmX2 hown hK hP hD hS 0 rfl rfl 0 (by decide) (hts (.fieldLink RX2 26 "FifthBeatsModel" "thrown" "I") (by decide +kernel)) (fun _ h9 => h9) rfl (by decide +kernel) rfl rfl (Nat.le_of_ble_eq_true rfl) dX2_major_2 (fun H locs hP hD hS => ?_)
  have hP : va_P G vwCl [(h, .inr (2, [.int 0, .int dy, .int (nI w), .ref n, .ref d, .ref f, .ref o])), (n, .inl (cI, 12, .inl pf)), (d, .inl (cI, 12, .inl df)), (f, .inl (cI, 12, .inl tf)), (o, .inl (cI, 12, .inl uf))] H := hP
  have hD : va_D A [(h, .inr (2, [.int 0, .int dy, .int (nI w), .ref n, .ref d, .ref f, .ref o])), (n, .inl (cI, 12, .inl pf)), (d, .inl (cI, 12, .inl df)), (f, .inl (cI, 12, .inl tf)), (o, .inl (cI, 12, .inl uf))] := hD
  refine lv_iload_n hx hb dX2_major_5 rfl (lv_at hl 1 rfl) ?_
  refine fb_roS (As := [.int p0]) (rest := []) (n := 1) ⟨hx, hb, hml, hown, hts⟩ (fb_c_X2_isOne l p0) gX2_major_X2_isOne rfl (by decide +kernel) (by decide) fb_Bl_T (fun _ _ _ => trivial) rfl hl.1 rfl (Nat.le_of_ble_eq_true rfl) dX2_major_6 (by decide) ?_
  refine fb_ti (z := 0) (fb_ii_0 hp) ?_
  refine lv_if_eq (tgt := 30) hx hb dX2_major_9 (by decide) (fun c9 => ?_) (fun c9 => ?_)
  · skip
    refine lv_aload_n hx hb dX2_major_30 rfl (lv_at hl 0 rfl) ?_
    refine lv_iconst (v := 1) hx hb dX2_major_31 (by decide) ?_
    refine fb_miV (As := [.int 1]) (rest := []) (n := 1) (wr := []) (wz := [(h, .inr (2, [.int 1, .int dy, .int (nI w), .ref n, .ref d, .ref f, .ref o])), (n, .inl (cI, 12, .inl pf)), (d, .inl (cI, 12, .inl df)), (f, .inl (cI, 12, .inl tf)), (o, .inl (cI, 12, .inl uf))]) ⟨hx, hb, hml, hown, hts⟩ (fb_c_X2_no l G cI cL h n d f o pf df tf uf 0 dy w 1 _) gX2_major_X2_no rfl (by decide +kernel) (by decide) (va_recv hK hP (ci := 2) (q0 := 0) rfl rfl) hP hK hD hS hA hX [0, 1, 2, 3, 4] [] [0, 1, 2, 3, 4] rfl rfl rfl rfl rfl rfl (by decide) rfl hl.1 rfl (Nat.le_of_ble_eq_true rfl) dX2_major_32 (by decide) (fun H locs hP hD hS => ?_)
    have hP9 := hP.sub (ws' := [(h, .inr (2, [.int 1, .int dy, .int (nI w), .ref n, .ref d, .ref f, .ref o])), (n, .inl (cI, 12, .inl pf)), (d, .inl (cI, 12, .inl df)), (f, .inl (cI, 12, .inl tf)), (o, .inl (cI, 12, .inl uf))]) [0, 1, 2, 3, 4] (rfl)
    have hD9 := hD.sub (ws' := [(h, .inr (2, [.int 1, .int dy, .int (nI w), .ref n, .ref d, .ref f, .ref o])), (n, .inl (cI, 12, .inl pf)), (d, .inl (cI, 12, .inl df)), (f, .inl (cI, 12, .inl tf)), (o, .inl (cI, 12, .inl uf))]) [0, 1, 2, 3, 4] (by decide) (rfl)
    exact W.iret (v := 0) hx hb hr (fun t ht hW => ⟨⟨0, (), rfl, rfl, by rw [ht]; exact hP9, hD9⟩, hS.F ht⟩) hS.2.2 dX2_major_35 hlk
  · skip
    first | exact absurd c9 (by decide) | exact absurd (by decide) c9
set_option maxHeartbeats 4000000 in
set_option maxRecDepth 100000 in
theorem fb_c_X2_major_b2 (l : Launch) (G : va_G) (cI cL : ClassId) (h n d f o : Nat) (pf df tf uf : Nat → Int32) (th dy : Int32) (w : Nat) (j : Nat) (v : Int32) (hj : j < 12) (h2 : v < 0 ∨ 2 < v) (sz : Nat) : fb_MI l yX2_major wsX2_major 4 91 [.ref h, .int (nI j), .int v] G cI cL sz (fb_MW cI h n d f o pf df tf uf th dy (nI w)) (fb_MW cI h n d f o pf df tf uf 1 dy (nI w)) 0 := by
  refine fb_mi_of (cc := cX2_major) (maxL := 3) (ret := (some .int)) (by decide) rfl (Nat.le_of_ble_eq_true rfl) ?_
  intro p e s m args below meth c A hx hb hr hml hlk hts hown hP hK hD hA hX ls hl
  have hown : s.vm.findClass RX2 = some m.cls := hown
  have hP : va_P G vwCl [(h, .inr (2, [.int th, .int dy, .int (nI w), .ref n, .ref d, .ref f, .ref o])), (n, .inl (cI, 12, .inl pf)), (d, .inl (cI, 12, .inl df)), (f, .inl (cI, 12, .inl tf)), (o, .inl (cI, 12, .inl uf))] s.heap := hP
  have hD : va_D A [(h, .inr (2, [.int th, .int dy, .int (nI w), .ref n, .ref d, .ref f, .ref o])), (n, .inl (cI, 12, .inl pf)), (d, .inl (cI, 12, .inl df)), (f, .inl (cI, 12, .inl tf)), (o, .inl (cI, 12, .inl uf))] := hD
  have hS : va_S A s.heap s.heap [] := va_S.rf
  have hXn : ∀ (H : Heap) (locs : List Loc), va_S A s.heap H locs → fb_sx (fun _ => False) s H := fun H locs h9 => (hX.kept h9.2.1).narrow (fun _ z => z.elim)
  have hl : lv_has ls 3 [(0, .ref h), (1, .int (nI j)), (2, .int v)] := hl
  have hin2 : ∀ w ∈ u_ws RX2 TX2 7, w ∈ wsX2_major := by decide +kernel
  refine lv_aload_n hx hb dX2_major_0 rfl (lv_at hl 0 rfl) ?_
  refine lv_iconst (v := 0) hx hb dX2_major_1 (by decide) ?_
  refine va_put (D := G) (ci := 2) (v := .int 0) (ty := .int) (C := RX2) (T := TX2) (N := 7) hx hb hts (hin2) tyX2 tyX2_ok nmX2 hown hK hP hD hS 0 rfl rfl 0 (by decide) (hts (.fieldLink RX2 26 "FifthBeatsModel" "thrown" "I") (by decide +kernel)) (fun _ h9 => h9) rfl (by decide +kernel) rfl rfl (Nat.le_of_ble_eq_true rfl) dX2_major_2 (fun H locs hP hD hS => ?_)
  have hP : va_P G vwCl [(h, .inr (2, [.int 0, .int dy, .int (nI w), .ref n, .ref d, .ref f, .ref o])), (n, .inl (cI, 12, .inl pf)), (d, .inl (cI, 12, .inl df)), (f, .inl (cI, 12, .inl tf)), (o, .inl (cI, 12, .inl uf))] H := hP
  have hD : va_D A [(h, .inr (2, [.int 0, .int dy, .int (nI w), .ref n, .ref d, .ref f, .ref o])), (n, .inl (cI, 12, .inl pf)), (d, .inl (cI, 12, .inl df)), (f, .inl (cI, 12, .inl tf)), (o, .inl (cI, 12, .inl uf))] := hD
  refine lv_iload_n hx hb dX2_major_5 rfl (lv_at hl 1 rfl) ?_
  refine fb_roS (As := [.int (nI j)]) (rest := []) (n := 1) ⟨hx, hb, hml, hown, hts⟩ (fb_c_X2_isOne l (nI j)) gX2_major_X2_isOne rfl (by decide +kernel) (by decide) fb_Bl_T (fun _ _ _ => trivial) rfl hl.1 rfl (Nat.le_of_ble_eq_true rfl) dX2_major_6 (by decide) ?_
  refine fb_ti (z := 1) (fb_ii_j hj) ?_
  refine lv_if_eq (tgt := 30) hx hb dX2_major_9 (by decide) (fun c9 => ?_) (fun c9 => ?_)
  · skip
    first | exact absurd c9 (by decide) | exact absurd (by decide) c9
  · skip
    refine lv_iload_n hx hb dX2_major_12 rfl (lv_at hl 2 rfl) ?_
    refine lv_iconst (v := 0) hx hb dX2_major_13 (by decide) ?_
    refine lv_iconst (v := 2) hx hb dX2_major_14 (by decide) ?_
    refine fb_roS (As := [.int v, .int 0, .int 2]) (rest := []) (n := 3) ⟨hx, hb, hml, hown, hts⟩ (fb_c_X2_isIn l v 0 2) gX2_major_X2_isIn rfl (by decide +kernel) (by decide) fb_Bl_T (fun _ _ _ => trivial) rfl hl.1 rfl (Nat.le_of_ble_eq_true rfl) dX2_major_15 (by decide) ?_
    refine fb_ti (z := 0) (fb_ii_0 h2) ?_
    refine lv_if_eq (tgt := 30) hx hb dX2_major_18 (by decide) (fun c18 => ?_) (fun c18 => ?_)
    · skip
      refine lv_aload_n hx hb dX2_major_30 rfl (lv_at hl 0 rfl) ?_
      refine lv_iconst (v := 1) hx hb dX2_major_31 (by decide) ?_
      refine fb_miV (As := [.int 1]) (rest := []) (n := 1) (wr := []) (wz := [(h, .inr (2, [.int 1, .int dy, .int (nI w), .ref n, .ref d, .ref f, .ref o])), (n, .inl (cI, 12, .inl pf)), (d, .inl (cI, 12, .inl df)), (f, .inl (cI, 12, .inl tf)), (o, .inl (cI, 12, .inl uf))]) ⟨hx, hb, hml, hown, hts⟩ (fb_c_X2_no l G cI cL h n d f o pf df tf uf 0 dy w 1 _) gX2_major_X2_no rfl (by decide +kernel) (by decide) (va_recv hK hP (ci := 2) (q0 := 0) rfl rfl) hP hK hD hS hA hX [0, 1, 2, 3, 4] [] [0, 1, 2, 3, 4] rfl rfl rfl rfl rfl rfl (by decide) rfl hl.1 rfl (Nat.le_of_ble_eq_true rfl) dX2_major_32 (by decide) (fun H locs hP hD hS => ?_)
      have hP9 := hP.sub (ws' := [(h, .inr (2, [.int 1, .int dy, .int (nI w), .ref n, .ref d, .ref f, .ref o])), (n, .inl (cI, 12, .inl pf)), (d, .inl (cI, 12, .inl df)), (f, .inl (cI, 12, .inl tf)), (o, .inl (cI, 12, .inl uf))]) [0, 1, 2, 3, 4] (rfl)
      have hD9 := hD.sub (ws' := [(h, .inr (2, [.int 1, .int dy, .int (nI w), .ref n, .ref d, .ref f, .ref o])), (n, .inl (cI, 12, .inl pf)), (d, .inl (cI, 12, .inl df)), (f, .inl (cI, 12, .inl tf)), (o, .inl (cI, 12, .inl uf))]) [0, 1, 2, 3, 4] (by decide) (rfl)
      exact W.iret (v := 0) hx hb hr (fun t ht hW => ⟨⟨0, (), rfl, rfl, by rw [ht]; exact hP9, hD9⟩, hS.F ht⟩) hS.2.2 dX2_major_35 hlk
    · skip
      first | exact absurd c18 (by decide) | exact absurd (by decide) c18
set_option maxHeartbeats 4000000 in
set_option maxRecDepth 100000 in
theorem fb_c_X2_minor_ok (l : Launch) (G : va_G) (cI cL : ClassId) (h n d f o : Nat) (pf df tf uf : Nat → Int32) (th dy : Int32) (w : Nat) (j : Nat) (q : Nat) (hj : j < 12) (hq : q < 2) (hw : w < 12) (sz : Nat) : fb_MI l yX2_minor wsX2_minor 4 91 [.ref h, .int (nI j), .int (nI q)] G cI cL sz (fb_MW cI h n d f o pf df tf uf th dy (nI w)) (fb_MW cI h n d f o pf df tf uf 0 dy (nI w)) (fb_tI (fb_ep pf w) (fb_rg uf) j q) := by
  refine fb_mi_of (cc := cX2_minor) (maxL := 3) (ret := (some .int)) (by decide) rfl (Nat.le_of_ble_eq_true rfl) ?_
  intro p e s m args below meth c A hx hb hr hml hlk hts hown hP hK hD hA hX ls hl
  have hown : s.vm.findClass RX2 = some m.cls := hown
  have hP : va_P G vwCl [(h, .inr (2, [.int th, .int dy, .int (nI w), .ref n, .ref d, .ref f, .ref o])), (n, .inl (cI, 12, .inl pf)), (d, .inl (cI, 12, .inl df)), (f, .inl (cI, 12, .inl tf)), (o, .inl (cI, 12, .inl uf))] s.heap := hP
  have hD : va_D A [(h, .inr (2, [.int th, .int dy, .int (nI w), .ref n, .ref d, .ref f, .ref o])), (n, .inl (cI, 12, .inl pf)), (d, .inl (cI, 12, .inl df)), (f, .inl (cI, 12, .inl tf)), (o, .inl (cI, 12, .inl uf))] := hD
  have hS : va_S A s.heap s.heap [] := va_S.rf
  have hXn : ∀ (H : Heap) (locs : List Loc), va_S A s.heap H locs → fb_sx (fun _ => False) s H := fun H locs h9 => (hX.kept h9.2.1).narrow (fun _ z => z.elim)
  have hl : lv_has ls 3 [(0, .ref h), (1, .int (nI j)), (2, .int (nI q))] := hl
  have hin2 : ∀ w ∈ u_ws RX2 TX2 7, w ∈ wsX2_minor := by decide +kernel
  refine lv_aload_n hx hb dX2_minor_0 rfl (lv_at hl 0 rfl) ?_
  refine lv_iconst (v := 0) hx hb dX2_minor_1 (by decide) ?_
  refine va_put (D := G) (ci := 2) (v := .int 0) (ty := .int) (C := RX2) (T := TX2) (N := 7) hx hb hts (hin2) tyX2 tyX2_ok nmX2 hown hK hP hD hS 0 rfl rfl 0 (by decide) (hts (.fieldLink RX2 26 "FifthBeatsModel" "thrown" "I") (by decide +kernel)) (fun _ h9 => h9) rfl (by decide +kernel) rfl rfl (Nat.le_of_ble_eq_true rfl) dX2_minor_2 (fun H locs hP hD hS => ?_)
  have hP : va_P G vwCl [(h, .inr (2, [.int 0, .int dy, .int (nI w), .ref n, .ref d, .ref f, .ref o])), (n, .inl (cI, 12, .inl pf)), (d, .inl (cI, 12, .inl df)), (f, .inl (cI, 12, .inl tf)), (o, .inl (cI, 12, .inl uf))] H := hP
  have hD : va_D A [(h, .inr (2, [.int 0, .int dy, .int (nI w), .ref n, .ref d, .ref f, .ref o])), (n, .inl (cI, 12, .inl pf)), (d, .inl (cI, 12, .inl df)), (f, .inl (cI, 12, .inl tf)), (o, .inl (cI, 12, .inl uf))] := hD
  refine lv_iload_n hx hb dX2_minor_5 rfl (lv_at hl 1 rfl) ?_
  refine fb_roS (As := [.int (nI j)]) (rest := []) (n := 1) ⟨hx, hb, hml, hown, hts⟩ (fb_c_X2_isOne l (nI j)) gX2_minor_X2_isOne rfl (by decide +kernel) (by decide) fb_Bl_T (fun _ _ _ => trivial) rfl hl.1 rfl (Nat.le_of_ble_eq_true rfl) dX2_minor_6 (by decide) ?_
  refine fb_ti (z := 1) (fb_ii_j hj) ?_
  refine lv_if_eq (tgt := 30) hx hb dX2_minor_9 (by decide) (fun c9 => ?_) (fun c9 => ?_)
  · skip
    first | exact absurd c9 (by decide) | exact absurd (by decide) c9
  · skip
    refine lv_iload_n hx hb dX2_minor_12 rfl (lv_at hl 2 rfl) ?_
    refine lv_iconst (v := 0) hx hb dX2_minor_13 (by decide) ?_
    refine lv_iconst (v := 1) hx hb dX2_minor_14 (by decide) ?_
    refine fb_roS (As := [.int (nI q), .int 0, .int 1]) (rest := []) (n := 3) ⟨hx, hb, hml, hown, hts⟩ (fb_c_X2_isIn l (nI q) 0 1) gX2_minor_X2_isIn rfl (by decide +kernel) (by decide) fb_Bl_T (fun _ _ _ => trivial) rfl hl.1 rfl (Nat.le_of_ble_eq_true rfl) dX2_minor_15 (by decide) ?_
    refine fb_ti (z := 1) (fb_ii_1 (fb_r0 (n := 1) (by omega) (by decide))) ?_
    refine lv_if_eq (tgt := 30) hx hb dX2_minor_18 (by decide) (fun c18 => ?_) (fun c18 => ?_)
    · skip
      first | exact absurd c18 (by decide) | exact absurd (by decide) c18
    · skip
      refine lv_aload_n hx hb dX2_minor_21 rfl (lv_at hl 0 rfl) ?_
      refine lv_iload_n hx hb dX2_minor_22 rfl (lv_at hl 1 rfl) ?_
      refine lv_iload_n hx hb dX2_minor_23 rfl (lv_at hl 2 rfl) ?_
      refine fb_roV (As := [.int (nI j), .int (nI q)]) (rest := []) (n := 2) ⟨hx, hb, hml, hown, hts⟩ (fb_c_X2_minorTold l G cI cL h n d f o pf df tf uf 0 dy w j q hj hq hw) gX2_minor_X2_minorTold rfl (by decide +kernel) (by decide) (fb_PB.bl _ _ _ _) (va_recv hK hP (ci := 2) (q0 := 0) rfl rfl) (fb_PB.to hP hK (hXn _ _ hS)) rfl hl.1 rfl (Nat.le_of_ble_eq_true rfl) dX2_minor_24 (by decide) ?_
      refine lv_goto (tgt := 35) hx hb dX2_minor_27 (by decide) ?_
      have hP9 := hP.sub (ws' := [(h, .inr (2, [.int 0, .int dy, .int (nI w), .ref n, .ref d, .ref f, .ref o])), (n, .inl (cI, 12, .inl pf)), (d, .inl (cI, 12, .inl df)), (f, .inl (cI, 12, .inl tf)), (o, .inl (cI, 12, .inl uf))]) [0, 1, 2, 3, 4] (rfl)
      have hD9 := hD.sub (ws' := [(h, .inr (2, [.int 0, .int dy, .int (nI w), .ref n, .ref d, .ref f, .ref o])), (n, .inl (cI, 12, .inl pf)), (d, .inl (cI, 12, .inl df)), (f, .inl (cI, 12, .inl tf)), (o, .inl (cI, 12, .inl uf))]) [0, 1, 2, 3, 4] (by decide) (rfl)
      exact W.iret (v := fb_tI (fb_ep pf w) (fb_rg uf) j q) hx hb hr (fun t ht hW => ⟨⟨fb_tI (fb_ep pf w) (fb_rg uf) j q, (), rfl, rfl, by rw [ht]; exact hP9, hD9⟩, hS.F ht⟩) hS.2.2 dX2_minor_35 hlk
set_option maxHeartbeats 4000000 in
set_option maxRecDepth 100000 in
theorem fb_c_X2_minor_b1 (l : Launch) (G : va_G) (cI cL : ClassId) (h n d f o : Nat) (pf df tf uf : Nat → Int32) (th dy : Int32) (w : Nat) (p0 : Int32) (v : Int32) (hp : p0 < 0 ∨ 11 < p0) (sz : Nat) : fb_MI l yX2_minor wsX2_minor 4 91 [.ref h, .int p0, .int v] G cI cL sz (fb_MW cI h n d f o pf df tf uf th dy (nI w)) (fb_MW cI h n d f o pf df tf uf 1 dy (nI w)) 0 := by
  refine fb_mi_of (cc := cX2_minor) (maxL := 3) (ret := (some .int)) (by decide) rfl (Nat.le_of_ble_eq_true rfl) ?_
  intro p e s m args below meth c A hx hb hr hml hlk hts hown hP hK hD hA hX ls hl
  have hown : s.vm.findClass RX2 = some m.cls := hown
  have hP : va_P G vwCl [(h, .inr (2, [.int th, .int dy, .int (nI w), .ref n, .ref d, .ref f, .ref o])), (n, .inl (cI, 12, .inl pf)), (d, .inl (cI, 12, .inl df)), (f, .inl (cI, 12, .inl tf)), (o, .inl (cI, 12, .inl uf))] s.heap := hP
  have hD : va_D A [(h, .inr (2, [.int th, .int dy, .int (nI w), .ref n, .ref d, .ref f, .ref o])), (n, .inl (cI, 12, .inl pf)), (d, .inl (cI, 12, .inl df)), (f, .inl (cI, 12, .inl tf)), (o, .inl (cI, 12, .inl uf))] := hD
  have hS : va_S A s.heap s.heap [] := va_S.rf
  have hXn : ∀ (H : Heap) (locs : List Loc), va_S A s.heap H locs → fb_sx (fun _ => False) s H := fun H locs h9 => (hX.kept h9.2.1).narrow (fun _ z => z.elim)
  have hl : lv_has ls 3 [(0, .ref h), (1, .int p0), (2, .int v)] := hl
  have hin2 : ∀ w ∈ u_ws RX2 TX2 7, w ∈ wsX2_minor := by decide +kernel
  refine lv_aload_n hx hb dX2_minor_0 rfl (lv_at hl 0 rfl) ?_
  refine lv_iconst (v := 0) hx hb dX2_minor_1 (by decide) ?_
  refine va_put (D := G) (ci := 2) (v := .int 0) (ty := .int) (C := RX2) (T := TX2) (N := 7) hx hb hts (hin2) tyX2 tyX2_ok nmX2 hown hK hP hD hS 0 rfl rfl 0 (by decide) (hts (.fieldLink RX2 26 "FifthBeatsModel" "thrown" "I") (by decide +kernel)) (fun _ h9 => h9) rfl (by decide +kernel) rfl rfl (Nat.le_of_ble_eq_true rfl) dX2_minor_2 (fun H locs hP hD hS => ?_)
  have hP : va_P G vwCl [(h, .inr (2, [.int 0, .int dy, .int (nI w), .ref n, .ref d, .ref f, .ref o])), (n, .inl (cI, 12, .inl pf)), (d, .inl (cI, 12, .inl df)), (f, .inl (cI, 12, .inl tf)), (o, .inl (cI, 12, .inl uf))] H := hP
  have hD : va_D A [(h, .inr (2, [.int 0, .int dy, .int (nI w), .ref n, .ref d, .ref f, .ref o])), (n, .inl (cI, 12, .inl pf)), (d, .inl (cI, 12, .inl df)), (f, .inl (cI, 12, .inl tf)), (o, .inl (cI, 12, .inl uf))] := hD
  refine lv_iload_n hx hb dX2_minor_5 rfl (lv_at hl 1 rfl) ?_
  refine fb_roS (As := [.int p0]) (rest := []) (n := 1) ⟨hx, hb, hml, hown, hts⟩ (fb_c_X2_isOne l p0) gX2_minor_X2_isOne rfl (by decide +kernel) (by decide) fb_Bl_T (fun _ _ _ => trivial) rfl hl.1 rfl (Nat.le_of_ble_eq_true rfl) dX2_minor_6 (by decide) ?_
  refine fb_ti (z := 0) (fb_ii_0 hp) ?_
  refine lv_if_eq (tgt := 30) hx hb dX2_minor_9 (by decide) (fun c9 => ?_) (fun c9 => ?_)
  · skip
    refine lv_aload_n hx hb dX2_minor_30 rfl (lv_at hl 0 rfl) ?_
    refine lv_iconst (v := 1) hx hb dX2_minor_31 (by decide) ?_
    refine fb_miV (As := [.int 1]) (rest := []) (n := 1) (wr := []) (wz := [(h, .inr (2, [.int 1, .int dy, .int (nI w), .ref n, .ref d, .ref f, .ref o])), (n, .inl (cI, 12, .inl pf)), (d, .inl (cI, 12, .inl df)), (f, .inl (cI, 12, .inl tf)), (o, .inl (cI, 12, .inl uf))]) ⟨hx, hb, hml, hown, hts⟩ (fb_c_X2_no l G cI cL h n d f o pf df tf uf 0 dy w 1 _) gX2_minor_X2_no rfl (by decide +kernel) (by decide) (va_recv hK hP (ci := 2) (q0 := 0) rfl rfl) hP hK hD hS hA hX [0, 1, 2, 3, 4] [] [0, 1, 2, 3, 4] rfl rfl rfl rfl rfl rfl (by decide) rfl hl.1 rfl (Nat.le_of_ble_eq_true rfl) dX2_minor_32 (by decide) (fun H locs hP hD hS => ?_)
    have hP9 := hP.sub (ws' := [(h, .inr (2, [.int 1, .int dy, .int (nI w), .ref n, .ref d, .ref f, .ref o])), (n, .inl (cI, 12, .inl pf)), (d, .inl (cI, 12, .inl df)), (f, .inl (cI, 12, .inl tf)), (o, .inl (cI, 12, .inl uf))]) [0, 1, 2, 3, 4] (rfl)
    have hD9 := hD.sub (ws' := [(h, .inr (2, [.int 1, .int dy, .int (nI w), .ref n, .ref d, .ref f, .ref o])), (n, .inl (cI, 12, .inl pf)), (d, .inl (cI, 12, .inl df)), (f, .inl (cI, 12, .inl tf)), (o, .inl (cI, 12, .inl uf))]) [0, 1, 2, 3, 4] (by decide) (rfl)
    exact W.iret (v := 0) hx hb hr (fun t ht hW => ⟨⟨0, (), rfl, rfl, by rw [ht]; exact hP9, hD9⟩, hS.F ht⟩) hS.2.2 dX2_minor_35 hlk
  · skip
    first | exact absurd c9 (by decide) | exact absurd (by decide) c9
set_option maxHeartbeats 4000000 in
set_option maxRecDepth 100000 in
theorem fb_c_X2_minor_b2 (l : Launch) (G : va_G) (cI cL : ClassId) (h n d f o : Nat) (pf df tf uf : Nat → Int32) (th dy : Int32) (w : Nat) (j : Nat) (v : Int32) (hj : j < 12) (h2 : v < 0 ∨ 1 < v) (sz : Nat) : fb_MI l yX2_minor wsX2_minor 4 91 [.ref h, .int (nI j), .int v] G cI cL sz (fb_MW cI h n d f o pf df tf uf th dy (nI w)) (fb_MW cI h n d f o pf df tf uf 1 dy (nI w)) 0 := by
  refine fb_mi_of (cc := cX2_minor) (maxL := 3) (ret := (some .int)) (by decide) rfl (Nat.le_of_ble_eq_true rfl) ?_
  intro p e s m args below meth c A hx hb hr hml hlk hts hown hP hK hD hA hX ls hl
  have hown : s.vm.findClass RX2 = some m.cls := hown
  have hP : va_P G vwCl [(h, .inr (2, [.int th, .int dy, .int (nI w), .ref n, .ref d, .ref f, .ref o])), (n, .inl (cI, 12, .inl pf)), (d, .inl (cI, 12, .inl df)), (f, .inl (cI, 12, .inl tf)), (o, .inl (cI, 12, .inl uf))] s.heap := hP
  have hD : va_D A [(h, .inr (2, [.int th, .int dy, .int (nI w), .ref n, .ref d, .ref f, .ref o])), (n, .inl (cI, 12, .inl pf)), (d, .inl (cI, 12, .inl df)), (f, .inl (cI, 12, .inl tf)), (o, .inl (cI, 12, .inl uf))] := hD
  have hS : va_S A s.heap s.heap [] := va_S.rf
  have hXn : ∀ (H : Heap) (locs : List Loc), va_S A s.heap H locs → fb_sx (fun _ => False) s H := fun H locs h9 => (hX.kept h9.2.1).narrow (fun _ z => z.elim)
  have hl : lv_has ls 3 [(0, .ref h), (1, .int (nI j)), (2, .int v)] := hl
  have hin2 : ∀ w ∈ u_ws RX2 TX2 7, w ∈ wsX2_minor := by decide +kernel
  refine lv_aload_n hx hb dX2_minor_0 rfl (lv_at hl 0 rfl) ?_
  refine lv_iconst (v := 0) hx hb dX2_minor_1 (by decide) ?_
  refine va_put (D := G) (ci := 2) (v := .int 0) (ty := .int) (C := RX2) (T := TX2) (N := 7) hx hb hts (hin2) tyX2 tyX2_ok nmX2 hown hK hP hD hS 0 rfl rfl 0 (by decide) (hts (.fieldLink RX2 26 "FifthBeatsModel" "thrown" "I") (by decide +kernel)) (fun _ h9 => h9) rfl (by decide +kernel) rfl rfl (Nat.le_of_ble_eq_true rfl) dX2_minor_2 (fun H locs hP hD hS => ?_)
  have hP : va_P G vwCl [(h, .inr (2, [.int 0, .int dy, .int (nI w), .ref n, .ref d, .ref f, .ref o])), (n, .inl (cI, 12, .inl pf)), (d, .inl (cI, 12, .inl df)), (f, .inl (cI, 12, .inl tf)), (o, .inl (cI, 12, .inl uf))] H := hP
  have hD : va_D A [(h, .inr (2, [.int 0, .int dy, .int (nI w), .ref n, .ref d, .ref f, .ref o])), (n, .inl (cI, 12, .inl pf)), (d, .inl (cI, 12, .inl df)), (f, .inl (cI, 12, .inl tf)), (o, .inl (cI, 12, .inl uf))] := hD
  refine lv_iload_n hx hb dX2_minor_5 rfl (lv_at hl 1 rfl) ?_
  refine fb_roS (As := [.int (nI j)]) (rest := []) (n := 1) ⟨hx, hb, hml, hown, hts⟩ (fb_c_X2_isOne l (nI j)) gX2_minor_X2_isOne rfl (by decide +kernel) (by decide) fb_Bl_T (fun _ _ _ => trivial) rfl hl.1 rfl (Nat.le_of_ble_eq_true rfl) dX2_minor_6 (by decide) ?_
  refine fb_ti (z := 1) (fb_ii_j hj) ?_
  refine lv_if_eq (tgt := 30) hx hb dX2_minor_9 (by decide) (fun c9 => ?_) (fun c9 => ?_)
  · skip
    first | exact absurd c9 (by decide) | exact absurd (by decide) c9
  · skip
    refine lv_iload_n hx hb dX2_minor_12 rfl (lv_at hl 2 rfl) ?_
    refine lv_iconst (v := 0) hx hb dX2_minor_13 (by decide) ?_
    refine lv_iconst (v := 1) hx hb dX2_minor_14 (by decide) ?_
    refine fb_roS (As := [.int v, .int 0, .int 1]) (rest := []) (n := 3) ⟨hx, hb, hml, hown, hts⟩ (fb_c_X2_isIn l v 0 1) gX2_minor_X2_isIn rfl (by decide +kernel) (by decide) fb_Bl_T (fun _ _ _ => trivial) rfl hl.1 rfl (Nat.le_of_ble_eq_true rfl) dX2_minor_15 (by decide) ?_
    refine fb_ti (z := 0) (fb_ii_0 h2) ?_
    refine lv_if_eq (tgt := 30) hx hb dX2_minor_18 (by decide) (fun c18 => ?_) (fun c18 => ?_)
    · skip
      refine lv_aload_n hx hb dX2_minor_30 rfl (lv_at hl 0 rfl) ?_
      refine lv_iconst (v := 1) hx hb dX2_minor_31 (by decide) ?_
      refine fb_miV (As := [.int 1]) (rest := []) (n := 1) (wr := []) (wz := [(h, .inr (2, [.int 1, .int dy, .int (nI w), .ref n, .ref d, .ref f, .ref o])), (n, .inl (cI, 12, .inl pf)), (d, .inl (cI, 12, .inl df)), (f, .inl (cI, 12, .inl tf)), (o, .inl (cI, 12, .inl uf))]) ⟨hx, hb, hml, hown, hts⟩ (fb_c_X2_no l G cI cL h n d f o pf df tf uf 0 dy w 1 _) gX2_minor_X2_no rfl (by decide +kernel) (by decide) (va_recv hK hP (ci := 2) (q0 := 0) rfl rfl) hP hK hD hS hA hX [0, 1, 2, 3, 4] [] [0, 1, 2, 3, 4] rfl rfl rfl rfl rfl rfl (by decide) rfl hl.1 rfl (Nat.le_of_ble_eq_true rfl) dX2_minor_32 (by decide) (fun H locs hP hD hS => ?_)
      have hP9 := hP.sub (ws' := [(h, .inr (2, [.int 1, .int dy, .int (nI w), .ref n, .ref d, .ref f, .ref o])), (n, .inl (cI, 12, .inl pf)), (d, .inl (cI, 12, .inl df)), (f, .inl (cI, 12, .inl tf)), (o, .inl (cI, 12, .inl uf))]) [0, 1, 2, 3, 4] (rfl)
      have hD9 := hD.sub (ws' := [(h, .inr (2, [.int 1, .int dy, .int (nI w), .ref n, .ref d, .ref f, .ref o])), (n, .inl (cI, 12, .inl pf)), (d, .inl (cI, 12, .inl df)), (f, .inl (cI, 12, .inl tf)), (o, .inl (cI, 12, .inl uf))]) [0, 1, 2, 3, 4] (by decide) (rfl)
      exact W.iret (v := 0) hx hb hr (fun t ht hW => ⟨⟨0, (), rfl, rfl, by rw [ht]; exact hP9, hD9⟩, hS.F ht⟩) hS.2.2 dX2_minor_35 hlk
    · skip
      first | exact absurd c18 (by decide) | exact absurd (by decide) c18
set_option maxHeartbeats 4000000 in
set_option maxRecDepth 100000 in
theorem fb_c_X2_note_ok (l : Launch) (G : va_G) (cI cL : ClassId) (h n d f o : Nat) (pf df tf uf : Nat → Int32) (th dy : Int32) (w : Nat) (j : Nat) (q : Nat) (hj : j < 12) (hq : q < 5) (hw : w < 12) (sz : Nat) : fb_MI l yX2_note wsX2_note 3 70 [.ref h, .int (nI j), .int (nI q)] G cI cL sz (fb_MW cI h n d f o pf df tf uf th dy (nI w)) (fb_MW cI h n d f o pf df tf uf 0 dy (nI w)) (fb_tN (fb_ep pf w) (fb_rg uf) (fb_rg df) j q) := by
  refine fb_mi_of (cc := cX2_note) (maxL := 3) (ret := (some .int)) (by decide) rfl (Nat.le_of_ble_eq_true rfl) ?_
  intro p e s m args below meth c A hx hb hr hml hlk hts hown hP hK hD hA hX ls hl
  have hown : s.vm.findClass RX2 = some m.cls := hown
  have hP : va_P G vwCl [(h, .inr (2, [.int th, .int dy, .int (nI w), .ref n, .ref d, .ref f, .ref o])), (n, .inl (cI, 12, .inl pf)), (d, .inl (cI, 12, .inl df)), (f, .inl (cI, 12, .inl tf)), (o, .inl (cI, 12, .inl uf))] s.heap := hP
  have hD : va_D A [(h, .inr (2, [.int th, .int dy, .int (nI w), .ref n, .ref d, .ref f, .ref o])), (n, .inl (cI, 12, .inl pf)), (d, .inl (cI, 12, .inl df)), (f, .inl (cI, 12, .inl tf)), (o, .inl (cI, 12, .inl uf))] := hD
  have hS : va_S A s.heap s.heap [] := va_S.rf
  have hXn : ∀ (H : Heap) (locs : List Loc), va_S A s.heap H locs → fb_sx (fun _ => False) s H := fun H locs h9 => (hX.kept h9.2.1).narrow (fun _ z => z.elim)
  have hl : lv_has ls 3 [(0, .ref h), (1, .int (nI j)), (2, .int (nI q))] := hl
  have hin2 : ∀ w ∈ u_ws RX2 TX2 7, w ∈ wsX2_note := by decide +kernel
  refine lv_aload_n hx hb dX2_note_0 rfl (lv_at hl 0 rfl) ?_
  refine lv_iconst (v := 0) hx hb dX2_note_1 (by decide) ?_
  refine va_put (D := G) (ci := 2) (v := .int 0) (ty := .int) (C := RX2) (T := TX2) (N := 7) hx hb hts (hin2) tyX2 tyX2_ok nmX2 hown hK hP hD hS 0 rfl rfl 0 (by decide) (hts (.fieldLink RX2 26 "FifthBeatsModel" "thrown" "I") (by decide +kernel)) (fun _ h9 => h9) rfl (by decide +kernel) rfl rfl (Nat.le_of_ble_eq_true rfl) dX2_note_2 (fun H locs hP hD hS => ?_)
  have hP : va_P G vwCl [(h, .inr (2, [.int 0, .int dy, .int (nI w), .ref n, .ref d, .ref f, .ref o])), (n, .inl (cI, 12, .inl pf)), (d, .inl (cI, 12, .inl df)), (f, .inl (cI, 12, .inl tf)), (o, .inl (cI, 12, .inl uf))] H := hP
  have hD : va_D A [(h, .inr (2, [.int 0, .int dy, .int (nI w), .ref n, .ref d, .ref f, .ref o])), (n, .inl (cI, 12, .inl pf)), (d, .inl (cI, 12, .inl df)), (f, .inl (cI, 12, .inl tf)), (o, .inl (cI, 12, .inl uf))] := hD
  refine lv_iload_n hx hb dX2_note_5 rfl (lv_at hl 1 rfl) ?_
  refine fb_roS (As := [.int (nI j)]) (rest := []) (n := 1) ⟨hx, hb, hml, hown, hts⟩ (fb_c_X2_isOne l (nI j)) gX2_note_X2_isOne rfl (by decide +kernel) (by decide) fb_Bl_T (fun _ _ _ => trivial) rfl hl.1 rfl (Nat.le_of_ble_eq_true rfl) dX2_note_6 (by decide) ?_
  refine fb_ti (z := 1) (fb_ii_j hj) ?_
  refine lv_if_eq (tgt := 30) hx hb dX2_note_9 (by decide) (fun c9 => ?_) (fun c9 => ?_)
  · skip
    first | exact absurd c9 (by decide) | exact absurd (by decide) c9
  · skip
    refine lv_iload_n hx hb dX2_note_12 rfl (lv_at hl 2 rfl) ?_
    refine lv_iconst (v := 0) hx hb dX2_note_13 (by decide) ?_
    refine lv_iconst (v := 4) hx hb dX2_note_14 (by decide) ?_
    refine fb_roS (As := [.int (nI q), .int 0, .int 4]) (rest := []) (n := 3) ⟨hx, hb, hml, hown, hts⟩ (fb_c_X2_isIn l (nI q) 0 4) gX2_note_X2_isIn rfl (by decide +kernel) (by decide) fb_Bl_T (fun _ _ _ => trivial) rfl hl.1 rfl (Nat.le_of_ble_eq_true rfl) dX2_note_15 (by decide) ?_
    refine fb_ti (z := 1) (fb_ii_1 (fb_r0 (n := 4) (by omega) (by decide))) ?_
    refine lv_if_eq (tgt := 30) hx hb dX2_note_18 (by decide) (fun c18 => ?_) (fun c18 => ?_)
    · skip
      first | exact absurd c18 (by decide) | exact absurd (by decide) c18
    · skip
      refine lv_aload_n hx hb dX2_note_21 rfl (lv_at hl 0 rfl) ?_
      refine lv_iload_n hx hb dX2_note_22 rfl (lv_at hl 1 rfl) ?_
      refine lv_iload_n hx hb dX2_note_23 rfl (lv_at hl 2 rfl) ?_
      refine fb_roV (As := [.int (nI j), .int (nI q)]) (rest := []) (n := 2) ⟨hx, hb, hml, hown, hts⟩ (fb_c_X2_noteTold l G cI cL h n d f o pf df tf uf 0 dy w j q hj hq hw) gX2_note_X2_noteTold rfl (by decide +kernel) (by decide) (fb_PB.bl _ _ _ _) (va_recv hK hP (ci := 2) (q0 := 0) rfl rfl) (fb_PB.to hP hK (hXn _ _ hS)) rfl hl.1 rfl (Nat.le_of_ble_eq_true rfl) dX2_note_24 (by decide) ?_
      refine lv_goto (tgt := 35) hx hb dX2_note_27 (by decide) ?_
      have hP9 := hP.sub (ws' := [(h, .inr (2, [.int 0, .int dy, .int (nI w), .ref n, .ref d, .ref f, .ref o])), (n, .inl (cI, 12, .inl pf)), (d, .inl (cI, 12, .inl df)), (f, .inl (cI, 12, .inl tf)), (o, .inl (cI, 12, .inl uf))]) [0, 1, 2, 3, 4] (rfl)
      have hD9 := hD.sub (ws' := [(h, .inr (2, [.int 0, .int dy, .int (nI w), .ref n, .ref d, .ref f, .ref o])), (n, .inl (cI, 12, .inl pf)), (d, .inl (cI, 12, .inl df)), (f, .inl (cI, 12, .inl tf)), (o, .inl (cI, 12, .inl uf))]) [0, 1, 2, 3, 4] (by decide) (rfl)
      exact W.iret (v := fb_tN (fb_ep pf w) (fb_rg uf) (fb_rg df) j q) hx hb hr (fun t ht hW => ⟨⟨fb_tN (fb_ep pf w) (fb_rg uf) (fb_rg df) j q, (), rfl, rfl, by rw [ht]; exact hP9, hD9⟩, hS.F ht⟩) hS.2.2 dX2_note_35 hlk
set_option maxHeartbeats 4000000 in
set_option maxRecDepth 100000 in
theorem fb_c_X2_note_b1 (l : Launch) (G : va_G) (cI cL : ClassId) (h n d f o : Nat) (pf df tf uf : Nat → Int32) (th dy : Int32) (w : Nat) (p0 : Int32) (v : Int32) (hp : p0 < 0 ∨ 11 < p0) (sz : Nat) : fb_MI l yX2_note wsX2_note 3 70 [.ref h, .int p0, .int v] G cI cL sz (fb_MW cI h n d f o pf df tf uf th dy (nI w)) (fb_MW cI h n d f o pf df tf uf 1 dy (nI w)) 0 := by
  refine fb_mi_of (cc := cX2_note) (maxL := 3) (ret := (some .int)) (by decide) rfl (Nat.le_of_ble_eq_true rfl) ?_
  intro p e s m args below meth c A hx hb hr hml hlk hts hown hP hK hD hA hX ls hl
  have hown : s.vm.findClass RX2 = some m.cls := hown
  have hP : va_P G vwCl [(h, .inr (2, [.int th, .int dy, .int (nI w), .ref n, .ref d, .ref f, .ref o])), (n, .inl (cI, 12, .inl pf)), (d, .inl (cI, 12, .inl df)), (f, .inl (cI, 12, .inl tf)), (o, .inl (cI, 12, .inl uf))] s.heap := hP
  have hD : va_D A [(h, .inr (2, [.int th, .int dy, .int (nI w), .ref n, .ref d, .ref f, .ref o])), (n, .inl (cI, 12, .inl pf)), (d, .inl (cI, 12, .inl df)), (f, .inl (cI, 12, .inl tf)), (o, .inl (cI, 12, .inl uf))] := hD
  have hS : va_S A s.heap s.heap [] := va_S.rf
  have hXn : ∀ (H : Heap) (locs : List Loc), va_S A s.heap H locs → fb_sx (fun _ => False) s H := fun H locs h9 => (hX.kept h9.2.1).narrow (fun _ z => z.elim)
  have hl : lv_has ls 3 [(0, .ref h), (1, .int p0), (2, .int v)] := hl
  have hin2 : ∀ w ∈ u_ws RX2 TX2 7, w ∈ wsX2_note := by decide +kernel
  refine lv_aload_n hx hb dX2_note_0 rfl (lv_at hl 0 rfl) ?_
  refine lv_iconst (v := 0) hx hb dX2_note_1 (by decide) ?_
  refine va_put (D := G) (ci := 2) (v := .int 0) (ty := .int) (C := RX2) (T := TX2) (N := 7) hx hb hts (hin2) tyX2 tyX2_ok nmX2 hown hK hP hD hS 0 rfl rfl 0 (by decide) (hts (.fieldLink RX2 26 "FifthBeatsModel" "thrown" "I") (by decide +kernel)) (fun _ h9 => h9) rfl (by decide +kernel) rfl rfl (Nat.le_of_ble_eq_true rfl) dX2_note_2 (fun H locs hP hD hS => ?_)
  have hP : va_P G vwCl [(h, .inr (2, [.int 0, .int dy, .int (nI w), .ref n, .ref d, .ref f, .ref o])), (n, .inl (cI, 12, .inl pf)), (d, .inl (cI, 12, .inl df)), (f, .inl (cI, 12, .inl tf)), (o, .inl (cI, 12, .inl uf))] H := hP
  have hD : va_D A [(h, .inr (2, [.int 0, .int dy, .int (nI w), .ref n, .ref d, .ref f, .ref o])), (n, .inl (cI, 12, .inl pf)), (d, .inl (cI, 12, .inl df)), (f, .inl (cI, 12, .inl tf)), (o, .inl (cI, 12, .inl uf))] := hD
  refine lv_iload_n hx hb dX2_note_5 rfl (lv_at hl 1 rfl) ?_
  refine fb_roS (As := [.int p0]) (rest := []) (n := 1) ⟨hx, hb, hml, hown, hts⟩ (fb_c_X2_isOne l p0) gX2_note_X2_isOne rfl (by decide +kernel) (by decide) fb_Bl_T (fun _ _ _ => trivial) rfl hl.1 rfl (Nat.le_of_ble_eq_true rfl) dX2_note_6 (by decide) ?_
  refine fb_ti (z := 0) (fb_ii_0 hp) ?_
  refine lv_if_eq (tgt := 30) hx hb dX2_note_9 (by decide) (fun c9 => ?_) (fun c9 => ?_)
  · skip
    refine lv_aload_n hx hb dX2_note_30 rfl (lv_at hl 0 rfl) ?_
    refine lv_iconst (v := 1) hx hb dX2_note_31 (by decide) ?_
    refine fb_miV (As := [.int 1]) (rest := []) (n := 1) (wr := []) (wz := [(h, .inr (2, [.int 1, .int dy, .int (nI w), .ref n, .ref d, .ref f, .ref o])), (n, .inl (cI, 12, .inl pf)), (d, .inl (cI, 12, .inl df)), (f, .inl (cI, 12, .inl tf)), (o, .inl (cI, 12, .inl uf))]) ⟨hx, hb, hml, hown, hts⟩ (fb_c_X2_no l G cI cL h n d f o pf df tf uf 0 dy w 1 _) gX2_note_X2_no rfl (by decide +kernel) (by decide) (va_recv hK hP (ci := 2) (q0 := 0) rfl rfl) hP hK hD hS hA hX [0, 1, 2, 3, 4] [] [0, 1, 2, 3, 4] rfl rfl rfl rfl rfl rfl (by decide) rfl hl.1 rfl (Nat.le_of_ble_eq_true rfl) dX2_note_32 (by decide) (fun H locs hP hD hS => ?_)
    have hP9 := hP.sub (ws' := [(h, .inr (2, [.int 1, .int dy, .int (nI w), .ref n, .ref d, .ref f, .ref o])), (n, .inl (cI, 12, .inl pf)), (d, .inl (cI, 12, .inl df)), (f, .inl (cI, 12, .inl tf)), (o, .inl (cI, 12, .inl uf))]) [0, 1, 2, 3, 4] (rfl)
    have hD9 := hD.sub (ws' := [(h, .inr (2, [.int 1, .int dy, .int (nI w), .ref n, .ref d, .ref f, .ref o])), (n, .inl (cI, 12, .inl pf)), (d, .inl (cI, 12, .inl df)), (f, .inl (cI, 12, .inl tf)), (o, .inl (cI, 12, .inl uf))]) [0, 1, 2, 3, 4] (by decide) (rfl)
    exact W.iret (v := 0) hx hb hr (fun t ht hW => ⟨⟨0, (), rfl, rfl, by rw [ht]; exact hP9, hD9⟩, hS.F ht⟩) hS.2.2 dX2_note_35 hlk
  · skip
    first | exact absurd c9 (by decide) | exact absurd (by decide) c9
set_option maxHeartbeats 4000000 in
set_option maxRecDepth 100000 in
theorem fb_c_X2_note_b2 (l : Launch) (G : va_G) (cI cL : ClassId) (h n d f o : Nat) (pf df tf uf : Nat → Int32) (th dy : Int32) (w : Nat) (j : Nat) (v : Int32) (hj : j < 12) (h2 : v < 0 ∨ 4 < v) (sz : Nat) : fb_MI l yX2_note wsX2_note 3 70 [.ref h, .int (nI j), .int v] G cI cL sz (fb_MW cI h n d f o pf df tf uf th dy (nI w)) (fb_MW cI h n d f o pf df tf uf 1 dy (nI w)) 0 := by
  refine fb_mi_of (cc := cX2_note) (maxL := 3) (ret := (some .int)) (by decide) rfl (Nat.le_of_ble_eq_true rfl) ?_
  intro p e s m args below meth c A hx hb hr hml hlk hts hown hP hK hD hA hX ls hl
  have hown : s.vm.findClass RX2 = some m.cls := hown
  have hP : va_P G vwCl [(h, .inr (2, [.int th, .int dy, .int (nI w), .ref n, .ref d, .ref f, .ref o])), (n, .inl (cI, 12, .inl pf)), (d, .inl (cI, 12, .inl df)), (f, .inl (cI, 12, .inl tf)), (o, .inl (cI, 12, .inl uf))] s.heap := hP
  have hD : va_D A [(h, .inr (2, [.int th, .int dy, .int (nI w), .ref n, .ref d, .ref f, .ref o])), (n, .inl (cI, 12, .inl pf)), (d, .inl (cI, 12, .inl df)), (f, .inl (cI, 12, .inl tf)), (o, .inl (cI, 12, .inl uf))] := hD
  have hS : va_S A s.heap s.heap [] := va_S.rf
  have hXn : ∀ (H : Heap) (locs : List Loc), va_S A s.heap H locs → fb_sx (fun _ => False) s H := fun H locs h9 => (hX.kept h9.2.1).narrow (fun _ z => z.elim)
  have hl : lv_has ls 3 [(0, .ref h), (1, .int (nI j)), (2, .int v)] := hl
  have hin2 : ∀ w ∈ u_ws RX2 TX2 7, w ∈ wsX2_note := by decide +kernel
  refine lv_aload_n hx hb dX2_note_0 rfl (lv_at hl 0 rfl) ?_
  refine lv_iconst (v := 0) hx hb dX2_note_1 (by decide) ?_
  refine va_put (D := G) (ci := 2) (v := .int 0) (ty := .int) (C := RX2) (T := TX2) (N := 7) hx hb hts (hin2) tyX2 tyX2_ok nmX2 hown hK hP hD hS 0 rfl rfl 0 (by decide) (hts (.fieldLink RX2 26 "FifthBeatsModel" "thrown" "I") (by decide +kernel)) (fun _ h9 => h9) rfl (by decide +kernel) rfl rfl (Nat.le_of_ble_eq_true rfl) dX2_note_2 (fun H locs hP hD hS => ?_)
  have hP : va_P G vwCl [(h, .inr (2, [.int 0, .int dy, .int (nI w), .ref n, .ref d, .ref f, .ref o])), (n, .inl (cI, 12, .inl pf)), (d, .inl (cI, 12, .inl df)), (f, .inl (cI, 12, .inl tf)), (o, .inl (cI, 12, .inl uf))] H := hP
  have hD : va_D A [(h, .inr (2, [.int 0, .int dy, .int (nI w), .ref n, .ref d, .ref f, .ref o])), (n, .inl (cI, 12, .inl pf)), (d, .inl (cI, 12, .inl df)), (f, .inl (cI, 12, .inl tf)), (o, .inl (cI, 12, .inl uf))] := hD
  refine lv_iload_n hx hb dX2_note_5 rfl (lv_at hl 1 rfl) ?_
  refine fb_roS (As := [.int (nI j)]) (rest := []) (n := 1) ⟨hx, hb, hml, hown, hts⟩ (fb_c_X2_isOne l (nI j)) gX2_note_X2_isOne rfl (by decide +kernel) (by decide) fb_Bl_T (fun _ _ _ => trivial) rfl hl.1 rfl (Nat.le_of_ble_eq_true rfl) dX2_note_6 (by decide) ?_
  refine fb_ti (z := 1) (fb_ii_j hj) ?_
  refine lv_if_eq (tgt := 30) hx hb dX2_note_9 (by decide) (fun c9 => ?_) (fun c9 => ?_)
  · skip
    first | exact absurd c9 (by decide) | exact absurd (by decide) c9
  · skip
    refine lv_iload_n hx hb dX2_note_12 rfl (lv_at hl 2 rfl) ?_
    refine lv_iconst (v := 0) hx hb dX2_note_13 (by decide) ?_
    refine lv_iconst (v := 4) hx hb dX2_note_14 (by decide) ?_
    refine fb_roS (As := [.int v, .int 0, .int 4]) (rest := []) (n := 3) ⟨hx, hb, hml, hown, hts⟩ (fb_c_X2_isIn l v 0 4) gX2_note_X2_isIn rfl (by decide +kernel) (by decide) fb_Bl_T (fun _ _ _ => trivial) rfl hl.1 rfl (Nat.le_of_ble_eq_true rfl) dX2_note_15 (by decide) ?_
    refine fb_ti (z := 0) (fb_ii_0 h2) ?_
    refine lv_if_eq (tgt := 30) hx hb dX2_note_18 (by decide) (fun c18 => ?_) (fun c18 => ?_)
    · skip
      refine lv_aload_n hx hb dX2_note_30 rfl (lv_at hl 0 rfl) ?_
      refine lv_iconst (v := 1) hx hb dX2_note_31 (by decide) ?_
      refine fb_miV (As := [.int 1]) (rest := []) (n := 1) (wr := []) (wz := [(h, .inr (2, [.int 1, .int dy, .int (nI w), .ref n, .ref d, .ref f, .ref o])), (n, .inl (cI, 12, .inl pf)), (d, .inl (cI, 12, .inl df)), (f, .inl (cI, 12, .inl tf)), (o, .inl (cI, 12, .inl uf))]) ⟨hx, hb, hml, hown, hts⟩ (fb_c_X2_no l G cI cL h n d f o pf df tf uf 0 dy w 1 _) gX2_note_X2_no rfl (by decide +kernel) (by decide) (va_recv hK hP (ci := 2) (q0 := 0) rfl rfl) hP hK hD hS hA hX [0, 1, 2, 3, 4] [] [0, 1, 2, 3, 4] rfl rfl rfl rfl rfl rfl (by decide) rfl hl.1 rfl (Nat.le_of_ble_eq_true rfl) dX2_note_32 (by decide) (fun H locs hP hD hS => ?_)
      have hP9 := hP.sub (ws' := [(h, .inr (2, [.int 1, .int dy, .int (nI w), .ref n, .ref d, .ref f, .ref o])), (n, .inl (cI, 12, .inl pf)), (d, .inl (cI, 12, .inl df)), (f, .inl (cI, 12, .inl tf)), (o, .inl (cI, 12, .inl uf))]) [0, 1, 2, 3, 4] (rfl)
      have hD9 := hD.sub (ws' := [(h, .inr (2, [.int 1, .int dy, .int (nI w), .ref n, .ref d, .ref f, .ref o])), (n, .inl (cI, 12, .inl pf)), (d, .inl (cI, 12, .inl df)), (f, .inl (cI, 12, .inl tf)), (o, .inl (cI, 12, .inl uf))]) [0, 1, 2, 3, 4] (by decide) (rfl)
      exact W.iret (v := 0) hx hb hr (fun t ht hW => ⟨⟨0, (), rfl, rfl, by rw [ht]; exact hP9, hD9⟩, hS.F ht⟩) hS.2.2 dX2_note_35 hlk
    · skip
      first | exact absurd c18 (by decide) | exact absurd (by decide) c18
set_option maxHeartbeats 4000000 in
set_option maxRecDepth 100000 in
theorem fb_c_X2_key_ok (l : Launch) (G : va_G) (cI cL : ClassId) (h n d f o : Nat) (pf df tf uf : Nat → Int32) (th dy : Int32) (w : Nat) (j : Nat) (q : Nat) (hj : j < 12) (hq : q < 4) (hw : w < 12) (sz : Nat) : fb_MI l yX2_key wsX2_key 6 135 [.ref h, .int (nI j), .int (nI q)] G cI cL sz (fb_MW cI h n d f o pf df tf uf th dy (nI w)) (fb_MW cI h n d f o pf df tf uf 0 dy (nI w)) (fb_tK (fb_ep pf w) (fb_rg uf) (fb_rg tf) j q) := by
  refine fb_mi_of (cc := cX2_key) (maxL := 3) (ret := (some .int)) (by decide) rfl (Nat.le_of_ble_eq_true rfl) ?_
  intro p e s m args below meth c A hx hb hr hml hlk hts hown hP hK hD hA hX ls hl
  have hown : s.vm.findClass RX2 = some m.cls := hown
  have hP : va_P G vwCl [(h, .inr (2, [.int th, .int dy, .int (nI w), .ref n, .ref d, .ref f, .ref o])), (n, .inl (cI, 12, .inl pf)), (d, .inl (cI, 12, .inl df)), (f, .inl (cI, 12, .inl tf)), (o, .inl (cI, 12, .inl uf))] s.heap := hP
  have hD : va_D A [(h, .inr (2, [.int th, .int dy, .int (nI w), .ref n, .ref d, .ref f, .ref o])), (n, .inl (cI, 12, .inl pf)), (d, .inl (cI, 12, .inl df)), (f, .inl (cI, 12, .inl tf)), (o, .inl (cI, 12, .inl uf))] := hD
  have hS : va_S A s.heap s.heap [] := va_S.rf
  have hXn : ∀ (H : Heap) (locs : List Loc), va_S A s.heap H locs → fb_sx (fun _ => False) s H := fun H locs h9 => (hX.kept h9.2.1).narrow (fun _ z => z.elim)
  have hl : lv_has ls 3 [(0, .ref h), (1, .int (nI j)), (2, .int (nI q))] := hl
  have hin2 : ∀ w ∈ u_ws RX2 TX2 7, w ∈ wsX2_key := by decide +kernel
  refine lv_aload_n hx hb dX2_key_0 rfl (lv_at hl 0 rfl) ?_
  refine lv_iconst (v := 0) hx hb dX2_key_1 (by decide) ?_
  refine va_put (D := G) (ci := 2) (v := .int 0) (ty := .int) (C := RX2) (T := TX2) (N := 7) hx hb hts (hin2) tyX2 tyX2_ok nmX2 hown hK hP hD hS 0 rfl rfl 0 (by decide) (hts (.fieldLink RX2 26 "FifthBeatsModel" "thrown" "I") (by decide +kernel)) (fun _ h9 => h9) rfl (by decide +kernel) rfl rfl (Nat.le_of_ble_eq_true rfl) dX2_key_2 (fun H locs hP hD hS => ?_)
  have hP : va_P G vwCl [(h, .inr (2, [.int 0, .int dy, .int (nI w), .ref n, .ref d, .ref f, .ref o])), (n, .inl (cI, 12, .inl pf)), (d, .inl (cI, 12, .inl df)), (f, .inl (cI, 12, .inl tf)), (o, .inl (cI, 12, .inl uf))] H := hP
  have hD : va_D A [(h, .inr (2, [.int 0, .int dy, .int (nI w), .ref n, .ref d, .ref f, .ref o])), (n, .inl (cI, 12, .inl pf)), (d, .inl (cI, 12, .inl df)), (f, .inl (cI, 12, .inl tf)), (o, .inl (cI, 12, .inl uf))] := hD
  refine lv_iload_n hx hb dX2_key_5 rfl (lv_at hl 1 rfl) ?_
  refine fb_roS (As := [.int (nI j)]) (rest := []) (n := 1) ⟨hx, hb, hml, hown, hts⟩ (fb_c_X2_isOne l (nI j)) gX2_key_X2_isOne rfl (by decide +kernel) (by decide) fb_Bl_T (fun _ _ _ => trivial) rfl hl.1 rfl (Nat.le_of_ble_eq_true rfl) dX2_key_6 (by decide) ?_
  refine fb_ti (z := 1) (fb_ii_j hj) ?_
  refine lv_if_eq (tgt := 30) hx hb dX2_key_9 (by decide) (fun c9 => ?_) (fun c9 => ?_)
  · skip
    first | exact absurd c9 (by decide) | exact absurd (by decide) c9
  · skip
    refine lv_iload_n hx hb dX2_key_12 rfl (lv_at hl 2 rfl) ?_
    refine lv_iconst (v := 0) hx hb dX2_key_13 (by decide) ?_
    refine lv_iconst (v := 3) hx hb dX2_key_14 (by decide) ?_
    refine fb_roS (As := [.int (nI q), .int 0, .int 3]) (rest := []) (n := 3) ⟨hx, hb, hml, hown, hts⟩ (fb_c_X2_isIn l (nI q) 0 3) gX2_key_X2_isIn rfl (by decide +kernel) (by decide) fb_Bl_T (fun _ _ _ => trivial) rfl hl.1 rfl (Nat.le_of_ble_eq_true rfl) dX2_key_15 (by decide) ?_
    refine fb_ti (z := 1) (fb_ii_1 (fb_r0 (n := 3) (by omega) (by decide))) ?_
    refine lv_if_eq (tgt := 30) hx hb dX2_key_18 (by decide) (fun c18 => ?_) (fun c18 => ?_)
    · skip
      first | exact absurd c18 (by decide) | exact absurd (by decide) c18
    · skip
      refine lv_aload_n hx hb dX2_key_21 rfl (lv_at hl 0 rfl) ?_
      refine lv_iload_n hx hb dX2_key_22 rfl (lv_at hl 1 rfl) ?_
      refine lv_iload_n hx hb dX2_key_23 rfl (lv_at hl 2 rfl) ?_
      refine fb_roV (As := [.int (nI j), .int (nI q)]) (rest := []) (n := 2) ⟨hx, hb, hml, hown, hts⟩ (fb_c_X2_keyTold l G cI cL h n d f o pf df tf uf 0 dy w j q hj hq hw) gX2_key_X2_keyTold rfl (by decide +kernel) (by decide) (fb_PB.bl _ _ _ _) (va_recv hK hP (ci := 2) (q0 := 0) rfl rfl) (fb_PB.to hP hK (hXn _ _ hS)) rfl hl.1 rfl (Nat.le_of_ble_eq_true rfl) dX2_key_24 (by decide) ?_
      refine lv_goto (tgt := 35) hx hb dX2_key_27 (by decide) ?_
      have hP9 := hP.sub (ws' := [(h, .inr (2, [.int 0, .int dy, .int (nI w), .ref n, .ref d, .ref f, .ref o])), (n, .inl (cI, 12, .inl pf)), (d, .inl (cI, 12, .inl df)), (f, .inl (cI, 12, .inl tf)), (o, .inl (cI, 12, .inl uf))]) [0, 1, 2, 3, 4] (rfl)
      have hD9 := hD.sub (ws' := [(h, .inr (2, [.int 0, .int dy, .int (nI w), .ref n, .ref d, .ref f, .ref o])), (n, .inl (cI, 12, .inl pf)), (d, .inl (cI, 12, .inl df)), (f, .inl (cI, 12, .inl tf)), (o, .inl (cI, 12, .inl uf))]) [0, 1, 2, 3, 4] (by decide) (rfl)
      exact W.iret (v := fb_tK (fb_ep pf w) (fb_rg uf) (fb_rg tf) j q) hx hb hr (fun t ht hW => ⟨⟨fb_tK (fb_ep pf w) (fb_rg uf) (fb_rg tf) j q, (), rfl, rfl, by rw [ht]; exact hP9, hD9⟩, hS.F ht⟩) hS.2.2 dX2_key_35 hlk
set_option maxHeartbeats 4000000 in
set_option maxRecDepth 100000 in
theorem fb_c_X2_key_b1 (l : Launch) (G : va_G) (cI cL : ClassId) (h n d f o : Nat) (pf df tf uf : Nat → Int32) (th dy : Int32) (w : Nat) (p0 : Int32) (v : Int32) (hp : p0 < 0 ∨ 11 < p0) (sz : Nat) : fb_MI l yX2_key wsX2_key 6 135 [.ref h, .int p0, .int v] G cI cL sz (fb_MW cI h n d f o pf df tf uf th dy (nI w)) (fb_MW cI h n d f o pf df tf uf 1 dy (nI w)) 0 := by
  refine fb_mi_of (cc := cX2_key) (maxL := 3) (ret := (some .int)) (by decide) rfl (Nat.le_of_ble_eq_true rfl) ?_
  intro p e s m args below meth c A hx hb hr hml hlk hts hown hP hK hD hA hX ls hl
  have hown : s.vm.findClass RX2 = some m.cls := hown
  have hP : va_P G vwCl [(h, .inr (2, [.int th, .int dy, .int (nI w), .ref n, .ref d, .ref f, .ref o])), (n, .inl (cI, 12, .inl pf)), (d, .inl (cI, 12, .inl df)), (f, .inl (cI, 12, .inl tf)), (o, .inl (cI, 12, .inl uf))] s.heap := hP
  have hD : va_D A [(h, .inr (2, [.int th, .int dy, .int (nI w), .ref n, .ref d, .ref f, .ref o])), (n, .inl (cI, 12, .inl pf)), (d, .inl (cI, 12, .inl df)), (f, .inl (cI, 12, .inl tf)), (o, .inl (cI, 12, .inl uf))] := hD
  have hS : va_S A s.heap s.heap [] := va_S.rf
  have hXn : ∀ (H : Heap) (locs : List Loc), va_S A s.heap H locs → fb_sx (fun _ => False) s H := fun H locs h9 => (hX.kept h9.2.1).narrow (fun _ z => z.elim)
  have hl : lv_has ls 3 [(0, .ref h), (1, .int p0), (2, .int v)] := hl
  have hin2 : ∀ w ∈ u_ws RX2 TX2 7, w ∈ wsX2_key := by decide +kernel
  refine lv_aload_n hx hb dX2_key_0 rfl (lv_at hl 0 rfl) ?_
  refine lv_iconst (v := 0) hx hb dX2_key_1 (by decide) ?_
  refine va_put (D := G) (ci := 2) (v := .int 0) (ty := .int) (C := RX2) (T := TX2) (N := 7) hx hb hts (hin2) tyX2 tyX2_ok nmX2 hown hK hP hD hS 0 rfl rfl 0 (by decide) (hts (.fieldLink RX2 26 "FifthBeatsModel" "thrown" "I") (by decide +kernel)) (fun _ h9 => h9) rfl (by decide +kernel) rfl rfl (Nat.le_of_ble_eq_true rfl) dX2_key_2 (fun H locs hP hD hS => ?_)
  have hP : va_P G vwCl [(h, .inr (2, [.int 0, .int dy, .int (nI w), .ref n, .ref d, .ref f, .ref o])), (n, .inl (cI, 12, .inl pf)), (d, .inl (cI, 12, .inl df)), (f, .inl (cI, 12, .inl tf)), (o, .inl (cI, 12, .inl uf))] H := hP
  have hD : va_D A [(h, .inr (2, [.int 0, .int dy, .int (nI w), .ref n, .ref d, .ref f, .ref o])), (n, .inl (cI, 12, .inl pf)), (d, .inl (cI, 12, .inl df)), (f, .inl (cI, 12, .inl tf)), (o, .inl (cI, 12, .inl uf))] := hD
  refine lv_iload_n hx hb dX2_key_5 rfl (lv_at hl 1 rfl) ?_
  refine fb_roS (As := [.int p0]) (rest := []) (n := 1) ⟨hx, hb, hml, hown, hts⟩ (fb_c_X2_isOne l p0) gX2_key_X2_isOne rfl (by decide +kernel) (by decide) fb_Bl_T (fun _ _ _ => trivial) rfl hl.1 rfl (Nat.le_of_ble_eq_true rfl) dX2_key_6 (by decide) ?_
  refine fb_ti (z := 0) (fb_ii_0 hp) ?_
  refine lv_if_eq (tgt := 30) hx hb dX2_key_9 (by decide) (fun c9 => ?_) (fun c9 => ?_)
  · skip
    refine lv_aload_n hx hb dX2_key_30 rfl (lv_at hl 0 rfl) ?_
    refine lv_iconst (v := 1) hx hb dX2_key_31 (by decide) ?_
    refine fb_miV (As := [.int 1]) (rest := []) (n := 1) (wr := []) (wz := [(h, .inr (2, [.int 1, .int dy, .int (nI w), .ref n, .ref d, .ref f, .ref o])), (n, .inl (cI, 12, .inl pf)), (d, .inl (cI, 12, .inl df)), (f, .inl (cI, 12, .inl tf)), (o, .inl (cI, 12, .inl uf))]) ⟨hx, hb, hml, hown, hts⟩ (fb_c_X2_no l G cI cL h n d f o pf df tf uf 0 dy w 1 _) gX2_key_X2_no rfl (by decide +kernel) (by decide) (va_recv hK hP (ci := 2) (q0 := 0) rfl rfl) hP hK hD hS hA hX [0, 1, 2, 3, 4] [] [0, 1, 2, 3, 4] rfl rfl rfl rfl rfl rfl (by decide) rfl hl.1 rfl (Nat.le_of_ble_eq_true rfl) dX2_key_32 (by decide) (fun H locs hP hD hS => ?_)
    have hP9 := hP.sub (ws' := [(h, .inr (2, [.int 1, .int dy, .int (nI w), .ref n, .ref d, .ref f, .ref o])), (n, .inl (cI, 12, .inl pf)), (d, .inl (cI, 12, .inl df)), (f, .inl (cI, 12, .inl tf)), (o, .inl (cI, 12, .inl uf))]) [0, 1, 2, 3, 4] (rfl)
    have hD9 := hD.sub (ws' := [(h, .inr (2, [.int 1, .int dy, .int (nI w), .ref n, .ref d, .ref f, .ref o])), (n, .inl (cI, 12, .inl pf)), (d, .inl (cI, 12, .inl df)), (f, .inl (cI, 12, .inl tf)), (o, .inl (cI, 12, .inl uf))]) [0, 1, 2, 3, 4] (by decide) (rfl)
    exact W.iret (v := 0) hx hb hr (fun t ht hW => ⟨⟨0, (), rfl, rfl, by rw [ht]; exact hP9, hD9⟩, hS.F ht⟩) hS.2.2 dX2_key_35 hlk
  · skip
    first | exact absurd c9 (by decide) | exact absurd (by decide) c9
set_option maxHeartbeats 4000000 in
set_option maxRecDepth 100000 in
theorem fb_c_X2_key_b2 (l : Launch) (G : va_G) (cI cL : ClassId) (h n d f o : Nat) (pf df tf uf : Nat → Int32) (th dy : Int32) (w : Nat) (j : Nat) (v : Int32) (hj : j < 12) (h2 : v < 0 ∨ 3 < v) (sz : Nat) : fb_MI l yX2_key wsX2_key 6 135 [.ref h, .int (nI j), .int v] G cI cL sz (fb_MW cI h n d f o pf df tf uf th dy (nI w)) (fb_MW cI h n d f o pf df tf uf 1 dy (nI w)) 0 := by
  refine fb_mi_of (cc := cX2_key) (maxL := 3) (ret := (some .int)) (by decide) rfl (Nat.le_of_ble_eq_true rfl) ?_
  intro p e s m args below meth c A hx hb hr hml hlk hts hown hP hK hD hA hX ls hl
  have hown : s.vm.findClass RX2 = some m.cls := hown
  have hP : va_P G vwCl [(h, .inr (2, [.int th, .int dy, .int (nI w), .ref n, .ref d, .ref f, .ref o])), (n, .inl (cI, 12, .inl pf)), (d, .inl (cI, 12, .inl df)), (f, .inl (cI, 12, .inl tf)), (o, .inl (cI, 12, .inl uf))] s.heap := hP
  have hD : va_D A [(h, .inr (2, [.int th, .int dy, .int (nI w), .ref n, .ref d, .ref f, .ref o])), (n, .inl (cI, 12, .inl pf)), (d, .inl (cI, 12, .inl df)), (f, .inl (cI, 12, .inl tf)), (o, .inl (cI, 12, .inl uf))] := hD
  have hS : va_S A s.heap s.heap [] := va_S.rf
  have hXn : ∀ (H : Heap) (locs : List Loc), va_S A s.heap H locs → fb_sx (fun _ => False) s H := fun H locs h9 => (hX.kept h9.2.1).narrow (fun _ z => z.elim)
  have hl : lv_has ls 3 [(0, .ref h), (1, .int (nI j)), (2, .int v)] := hl
  have hin2 : ∀ w ∈ u_ws RX2 TX2 7, w ∈ wsX2_key := by decide +kernel
  refine lv_aload_n hx hb dX2_key_0 rfl (lv_at hl 0 rfl) ?_
  refine lv_iconst (v := 0) hx hb dX2_key_1 (by decide) ?_
  refine va_put (D := G) (ci := 2) (v := .int 0) (ty := .int) (C := RX2) (T := TX2) (N := 7) hx hb hts (hin2) tyX2 tyX2_ok nmX2 hown hK hP hD hS 0 rfl rfl 0 (by decide) (hts (.fieldLink RX2 26 "FifthBeatsModel" "thrown" "I") (by decide +kernel)) (fun _ h9 => h9) rfl (by decide +kernel) rfl rfl (Nat.le_of_ble_eq_true rfl) dX2_key_2 (fun H locs hP hD hS => ?_)
  have hP : va_P G vwCl [(h, .inr (2, [.int 0, .int dy, .int (nI w), .ref n, .ref d, .ref f, .ref o])), (n, .inl (cI, 12, .inl pf)), (d, .inl (cI, 12, .inl df)), (f, .inl (cI, 12, .inl tf)), (o, .inl (cI, 12, .inl uf))] H := hP
  have hD : va_D A [(h, .inr (2, [.int 0, .int dy, .int (nI w), .ref n, .ref d, .ref f, .ref o])), (n, .inl (cI, 12, .inl pf)), (d, .inl (cI, 12, .inl df)), (f, .inl (cI, 12, .inl tf)), (o, .inl (cI, 12, .inl uf))] := hD
  refine lv_iload_n hx hb dX2_key_5 rfl (lv_at hl 1 rfl) ?_
  refine fb_roS (As := [.int (nI j)]) (rest := []) (n := 1) ⟨hx, hb, hml, hown, hts⟩ (fb_c_X2_isOne l (nI j)) gX2_key_X2_isOne rfl (by decide +kernel) (by decide) fb_Bl_T (fun _ _ _ => trivial) rfl hl.1 rfl (Nat.le_of_ble_eq_true rfl) dX2_key_6 (by decide) ?_
  refine fb_ti (z := 1) (fb_ii_j hj) ?_
  refine lv_if_eq (tgt := 30) hx hb dX2_key_9 (by decide) (fun c9 => ?_) (fun c9 => ?_)
  · skip
    first | exact absurd c9 (by decide) | exact absurd (by decide) c9
  · skip
    refine lv_iload_n hx hb dX2_key_12 rfl (lv_at hl 2 rfl) ?_
    refine lv_iconst (v := 0) hx hb dX2_key_13 (by decide) ?_
    refine lv_iconst (v := 3) hx hb dX2_key_14 (by decide) ?_
    refine fb_roS (As := [.int v, .int 0, .int 3]) (rest := []) (n := 3) ⟨hx, hb, hml, hown, hts⟩ (fb_c_X2_isIn l v 0 3) gX2_key_X2_isIn rfl (by decide +kernel) (by decide) fb_Bl_T (fun _ _ _ => trivial) rfl hl.1 rfl (Nat.le_of_ble_eq_true rfl) dX2_key_15 (by decide) ?_
    refine fb_ti (z := 0) (fb_ii_0 h2) ?_
    refine lv_if_eq (tgt := 30) hx hb dX2_key_18 (by decide) (fun c18 => ?_) (fun c18 => ?_)
    · skip
      refine lv_aload_n hx hb dX2_key_30 rfl (lv_at hl 0 rfl) ?_
      refine lv_iconst (v := 1) hx hb dX2_key_31 (by decide) ?_
      refine fb_miV (As := [.int 1]) (rest := []) (n := 1) (wr := []) (wz := [(h, .inr (2, [.int 1, .int dy, .int (nI w), .ref n, .ref d, .ref f, .ref o])), (n, .inl (cI, 12, .inl pf)), (d, .inl (cI, 12, .inl df)), (f, .inl (cI, 12, .inl tf)), (o, .inl (cI, 12, .inl uf))]) ⟨hx, hb, hml, hown, hts⟩ (fb_c_X2_no l G cI cL h n d f o pf df tf uf 0 dy w 1 _) gX2_key_X2_no rfl (by decide +kernel) (by decide) (va_recv hK hP (ci := 2) (q0 := 0) rfl rfl) hP hK hD hS hA hX [0, 1, 2, 3, 4] [] [0, 1, 2, 3, 4] rfl rfl rfl rfl rfl rfl (by decide) rfl hl.1 rfl (Nat.le_of_ble_eq_true rfl) dX2_key_32 (by decide) (fun H locs hP hD hS => ?_)
      have hP9 := hP.sub (ws' := [(h, .inr (2, [.int 1, .int dy, .int (nI w), .ref n, .ref d, .ref f, .ref o])), (n, .inl (cI, 12, .inl pf)), (d, .inl (cI, 12, .inl df)), (f, .inl (cI, 12, .inl tf)), (o, .inl (cI, 12, .inl uf))]) [0, 1, 2, 3, 4] (rfl)
      have hD9 := hD.sub (ws' := [(h, .inr (2, [.int 1, .int dy, .int (nI w), .ref n, .ref d, .ref f, .ref o])), (n, .inl (cI, 12, .inl pf)), (d, .inl (cI, 12, .inl df)), (f, .inl (cI, 12, .inl tf)), (o, .inl (cI, 12, .inl uf))]) [0, 1, 2, 3, 4] (by decide) (rfl)
      exact W.iret (v := 0) hx hb hr (fun t ht hW => ⟨⟨0, (), rfl, rfl, by rw [ht]; exact hP9, hD9⟩, hS.F ht⟩) hS.2.2 dX2_key_35 hlk
    · skip
      first | exact absurd c18 (by decide) | exact absurd (by decide) c18
set_option maxHeartbeats 4000000 in
set_option maxRecDepth 100000 in
theorem fb_c_X2_count_ok (l : Launch) (G : va_G) (cI cL : ClassId) (h n d f o : Nat) (pf df tf uf : Nat → Int32) (th dy : Int32) (w : Nat) (q : Nat) (hq : q < 7) (hw : w < 12) (sz : Nat) : fb_MI l yX2_count wsX2_count 6 138 [.ref h, .int (nI q)] G cI cL sz (fb_MW cI h n d f o pf df tf uf th dy (nI w)) (fb_MW cI h n d f o pf df tf uf 0 dy (nI w)) (fb_tC (fb_ep pf w) (fb_rg uf) (fb_rg tf) w dy q) := by
  refine fb_mi_of (cc := cX2_count) (maxL := 2) (ret := (some .int)) (by decide) rfl (Nat.le_of_ble_eq_true rfl) ?_
  intro p e s m args below meth c A hx hb hr hml hlk hts hown hP hK hD hA hX ls hl
  have hown : s.vm.findClass RX2 = some m.cls := hown
  have hP : va_P G vwCl [(h, .inr (2, [.int th, .int dy, .int (nI w), .ref n, .ref d, .ref f, .ref o])), (n, .inl (cI, 12, .inl pf)), (d, .inl (cI, 12, .inl df)), (f, .inl (cI, 12, .inl tf)), (o, .inl (cI, 12, .inl uf))] s.heap := hP
  have hD : va_D A [(h, .inr (2, [.int th, .int dy, .int (nI w), .ref n, .ref d, .ref f, .ref o])), (n, .inl (cI, 12, .inl pf)), (d, .inl (cI, 12, .inl df)), (f, .inl (cI, 12, .inl tf)), (o, .inl (cI, 12, .inl uf))] := hD
  have hS : va_S A s.heap s.heap [] := va_S.rf
  have hXn : ∀ (H : Heap) (locs : List Loc), va_S A s.heap H locs → fb_sx (fun _ => False) s H := fun H locs h9 => (hX.kept h9.2.1).narrow (fun _ z => z.elim)
  have hl : lv_has ls 2 [(0, .ref h), (1, .int (nI q))] := hl
  have hin2 : ∀ w ∈ u_ws RX2 TX2 7, w ∈ wsX2_count := by decide +kernel
  refine lv_aload_n hx hb dX2_count_0 rfl (lv_at hl 0 rfl) ?_
  refine lv_iconst (v := 0) hx hb dX2_count_1 (by decide) ?_
  refine va_put (D := G) (ci := 2) (v := .int 0) (ty := .int) (C := RX2) (T := TX2) (N := 7) hx hb hts (hin2) tyX2 tyX2_ok nmX2 hown hK hP hD hS 0 rfl rfl 0 (by decide) (hts (.fieldLink RX2 26 "FifthBeatsModel" "thrown" "I") (by decide +kernel)) (fun _ h9 => h9) rfl (by decide +kernel) rfl rfl (Nat.le_of_ble_eq_true rfl) dX2_count_2 (fun H locs hP hD hS => ?_)
  have hP : va_P G vwCl [(h, .inr (2, [.int 0, .int dy, .int (nI w), .ref n, .ref d, .ref f, .ref o])), (n, .inl (cI, 12, .inl pf)), (d, .inl (cI, 12, .inl df)), (f, .inl (cI, 12, .inl tf)), (o, .inl (cI, 12, .inl uf))] H := hP
  have hD : va_D A [(h, .inr (2, [.int 0, .int dy, .int (nI w), .ref n, .ref d, .ref f, .ref o])), (n, .inl (cI, 12, .inl pf)), (d, .inl (cI, 12, .inl df)), (f, .inl (cI, 12, .inl tf)), (o, .inl (cI, 12, .inl uf))] := hD
  refine lv_iload_n hx hb dX2_count_5 rfl (lv_at hl 1 rfl) ?_
  refine lv_iconst (v := 0) hx hb dX2_count_6 (by decide) ?_
  refine lv_bipush (v := 6) hx hb dX2_count_7 (by decide) ?_
  refine fb_roS (As := [.int (nI q), .int 0, .int 6]) (rest := []) (n := 3) ⟨hx, hb, hml, hown, hts⟩ (fb_c_X2_isIn l (nI q) 0 6) gX2_count_X2_isIn rfl (by decide +kernel) (by decide) fb_Bl_T (fun _ _ _ => trivial) rfl hl.1 rfl (Nat.le_of_ble_eq_true rfl) dX2_count_9 (by decide) ?_
  refine fb_ti (z := 1) (fb_ii_1 (fb_r0 (n := 6) (by omega) (by decide))) ?_
  refine lv_if_eq (tgt := 23) hx hb dX2_count_12 (by decide) (fun c12 => ?_) (fun c12 => ?_)
  · skip
    first | exact absurd c12 (by decide) | exact absurd (by decide) c12
  · skip
    refine lv_aload_n hx hb dX2_count_15 rfl (lv_at hl 0 rfl) ?_
    refine lv_iload_n hx hb dX2_count_16 rfl (lv_at hl 1 rfl) ?_
    refine fb_roV (As := [.int (nI q)]) (rest := []) (n := 1) ⟨hx, hb, hml, hown, hts⟩ (fb_c_X2_counted l G cI cL h n d f o pf df tf uf 0 dy w q hq hw) gX2_count_X2_counted rfl (by decide +kernel) (by decide) (fb_PB.bl _ _ _ _) (va_recv hK hP (ci := 2) (q0 := 0) rfl rfl) (fb_PB.to hP hK (hXn _ _ hS)) rfl hl.1 rfl (Nat.le_of_ble_eq_true rfl) dX2_count_17 (by decide) ?_
    refine lv_goto (tgt := 28) hx hb dX2_count_20 (by decide) ?_
    have hP9 := hP.sub (ws' := [(h, .inr (2, [.int 0, .int dy, .int (nI w), .ref n, .ref d, .ref f, .ref o])), (n, .inl (cI, 12, .inl pf)), (d, .inl (cI, 12, .inl df)), (f, .inl (cI, 12, .inl tf)), (o, .inl (cI, 12, .inl uf))]) [0, 1, 2, 3, 4] (rfl)
    have hD9 := hD.sub (ws' := [(h, .inr (2, [.int 0, .int dy, .int (nI w), .ref n, .ref d, .ref f, .ref o])), (n, .inl (cI, 12, .inl pf)), (d, .inl (cI, 12, .inl df)), (f, .inl (cI, 12, .inl tf)), (o, .inl (cI, 12, .inl uf))]) [0, 1, 2, 3, 4] (by decide) (rfl)
    exact W.iret (v := fb_tC (fb_ep pf w) (fb_rg uf) (fb_rg tf) w dy q) hx hb hr (fun t ht hW => ⟨⟨fb_tC (fb_ep pf w) (fb_rg uf) (fb_rg tf) w dy q, (), rfl, rfl, by rw [ht]; exact hP9, hD9⟩, hS.F ht⟩) hS.2.2 dX2_count_28 hlk
set_option maxHeartbeats 4000000 in
set_option maxRecDepth 100000 in
theorem fb_c_X2_count_b1 (l : Launch) (G : va_G) (cI cL : ClassId) (h n d f o : Nat) (pf df tf uf : Nat → Int32) (th dy : Int32) (w : Nat) (p0 : Int32) (h2 : p0 < 0 ∨ 6 < p0) (sz : Nat) : fb_MI l yX2_count wsX2_count 6 138 [.ref h, .int p0] G cI cL sz (fb_MW cI h n d f o pf df tf uf th dy (nI w)) (fb_MW cI h n d f o pf df tf uf 1 dy (nI w)) 0 := by
  refine fb_mi_of (cc := cX2_count) (maxL := 2) (ret := (some .int)) (by decide) rfl (Nat.le_of_ble_eq_true rfl) ?_
  intro p e s m args below meth c A hx hb hr hml hlk hts hown hP hK hD hA hX ls hl
  have hown : s.vm.findClass RX2 = some m.cls := hown
  have hP : va_P G vwCl [(h, .inr (2, [.int th, .int dy, .int (nI w), .ref n, .ref d, .ref f, .ref o])), (n, .inl (cI, 12, .inl pf)), (d, .inl (cI, 12, .inl df)), (f, .inl (cI, 12, .inl tf)), (o, .inl (cI, 12, .inl uf))] s.heap := hP
  have hD : va_D A [(h, .inr (2, [.int th, .int dy, .int (nI w), .ref n, .ref d, .ref f, .ref o])), (n, .inl (cI, 12, .inl pf)), (d, .inl (cI, 12, .inl df)), (f, .inl (cI, 12, .inl tf)), (o, .inl (cI, 12, .inl uf))] := hD
  have hS : va_S A s.heap s.heap [] := va_S.rf
  have hXn : ∀ (H : Heap) (locs : List Loc), va_S A s.heap H locs → fb_sx (fun _ => False) s H := fun H locs h9 => (hX.kept h9.2.1).narrow (fun _ z => z.elim)
  have hl : lv_has ls 2 [(0, .ref h), (1, .int p0)] := hl
  have hin2 : ∀ w ∈ u_ws RX2 TX2 7, w ∈ wsX2_count := by decide +kernel
  refine lv_aload_n hx hb dX2_count_0 rfl (lv_at hl 0 rfl) ?_
  refine lv_iconst (v := 0) hx hb dX2_count_1 (by decide) ?_
  refine va_put (D := G) (ci := 2) (v := .int 0) (ty := .int) (C := RX2) (T := TX2) (N := 7) hx hb hts (hin2) tyX2 tyX2_ok nmX2 hown hK hP hD hS 0 rfl rfl 0 (by decide) (hts (.fieldLink RX2 26 "FifthBeatsModel" "thrown" "I") (by decide +kernel)) (fun _ h9 => h9) rfl (by decide +kernel) rfl rfl (Nat.le_of_ble_eq_true rfl) dX2_count_2 (fun H locs hP hD hS => ?_)
  have hP : va_P G vwCl [(h, .inr (2, [.int 0, .int dy, .int (nI w), .ref n, .ref d, .ref f, .ref o])), (n, .inl (cI, 12, .inl pf)), (d, .inl (cI, 12, .inl df)), (f, .inl (cI, 12, .inl tf)), (o, .inl (cI, 12, .inl uf))] H := hP
  have hD : va_D A [(h, .inr (2, [.int 0, .int dy, .int (nI w), .ref n, .ref d, .ref f, .ref o])), (n, .inl (cI, 12, .inl pf)), (d, .inl (cI, 12, .inl df)), (f, .inl (cI, 12, .inl tf)), (o, .inl (cI, 12, .inl uf))] := hD
  refine lv_iload_n hx hb dX2_count_5 rfl (lv_at hl 1 rfl) ?_
  refine lv_iconst (v := 0) hx hb dX2_count_6 (by decide) ?_
  refine lv_bipush (v := 6) hx hb dX2_count_7 (by decide) ?_
  refine fb_roS (As := [.int p0, .int 0, .int 6]) (rest := []) (n := 3) ⟨hx, hb, hml, hown, hts⟩ (fb_c_X2_isIn l p0 0 6) gX2_count_X2_isIn rfl (by decide +kernel) (by decide) fb_Bl_T (fun _ _ _ => trivial) rfl hl.1 rfl (Nat.le_of_ble_eq_true rfl) dX2_count_9 (by decide) ?_
  refine fb_ti (z := 0) (fb_ii_0 h2) ?_
  refine lv_if_eq (tgt := 23) hx hb dX2_count_12 (by decide) (fun c12 => ?_) (fun c12 => ?_)
  · skip
    refine lv_aload_n hx hb dX2_count_23 rfl (lv_at hl 0 rfl) ?_
    refine lv_iconst (v := 1) hx hb dX2_count_24 (by decide) ?_
    refine fb_miV (As := [.int 1]) (rest := []) (n := 1) (wr := []) (wz := [(h, .inr (2, [.int 1, .int dy, .int (nI w), .ref n, .ref d, .ref f, .ref o])), (n, .inl (cI, 12, .inl pf)), (d, .inl (cI, 12, .inl df)), (f, .inl (cI, 12, .inl tf)), (o, .inl (cI, 12, .inl uf))]) ⟨hx, hb, hml, hown, hts⟩ (fb_c_X2_no l G cI cL h n d f o pf df tf uf 0 dy w 1 _) gX2_count_X2_no rfl (by decide +kernel) (by decide) (va_recv hK hP (ci := 2) (q0 := 0) rfl rfl) hP hK hD hS hA hX [0, 1, 2, 3, 4] [] [0, 1, 2, 3, 4] rfl rfl rfl rfl rfl rfl (by decide) rfl hl.1 rfl (Nat.le_of_ble_eq_true rfl) dX2_count_25 (by decide) (fun H locs hP hD hS => ?_)
    have hP9 := hP.sub (ws' := [(h, .inr (2, [.int 1, .int dy, .int (nI w), .ref n, .ref d, .ref f, .ref o])), (n, .inl (cI, 12, .inl pf)), (d, .inl (cI, 12, .inl df)), (f, .inl (cI, 12, .inl tf)), (o, .inl (cI, 12, .inl uf))]) [0, 1, 2, 3, 4] (rfl)
    have hD9 := hD.sub (ws' := [(h, .inr (2, [.int 1, .int dy, .int (nI w), .ref n, .ref d, .ref f, .ref o])), (n, .inl (cI, 12, .inl pf)), (d, .inl (cI, 12, .inl df)), (f, .inl (cI, 12, .inl tf)), (o, .inl (cI, 12, .inl uf))]) [0, 1, 2, 3, 4] (by decide) (rfl)
    exact W.iret (v := 0) hx hb hr (fun t ht hW => ⟨⟨0, (), rfl, rfl, by rw [ht]; exact hP9, hD9⟩, hS.F ht⟩) hS.2.2 dX2_count_28 hlk
  · skip
    first | exact absurd c12 (by decide) | exact absurd (by decide) c12
