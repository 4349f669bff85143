set_option maxHeartbeats 4000000 in
set_option maxRecDepth 100000 in
theorem fb_c_X0_giveWolfTheRest (l : Launch) (G : va_G) (cI cL : ClassId) (h n o d f : Nat) (nf uf df tf : Nat → Int32) (w : Nat) (dy : Int32) (hw : w < 12) (sz : Nat) : fb_MV l yX0_giveWolfTheRest wsX0_giveWolfTheRest 1 22 [.ref h] G cI cL sz (fb_PW cI h n o d f nf uf df tf (nI w) dy) (fb_PW cI h n o d f (fb_gw nf w) uf df tf (nI w) dy) := by
  refine fb_mv_of (cc := cX0_giveWolfTheRest) (maxL := 3) (ret := none) (by decide) rfl (Nat.le_of_ble_eq_true rfl) ?_
  intro p e s m args below meth c A hx hb hr hml hlk hts hown hP hK hD hA hX ls hl
  have hown : s.vm.findClass RX0 = some m.cls := hown
  have hP : va_P G vwCl [(h, .inr (0, [.ref n, .ref o, .ref d, .ref f, .int (nI w), .int dy])), (n, .inl (cI, 12, .inl nf)), (o, .inl (cI, 12, .inl uf)), (d, .inl (cI, 12, .inl df)), (f, .inl (cI, 12, .inl tf))] s.heap := hP
  have hD : va_D A [(h, .inr (0, [.ref n, .ref o, .ref d, .ref f, .int (nI w), .int dy])), (n, .inl (cI, 12, .inl nf)), (o, .inl (cI, 12, .inl uf)), (d, .inl (cI, 12, .inl df)), (f, .inl (cI, 12, .inl tf))] := hD
  have hS : va_S A s.heap s.heap [] := va_S.rf
  have hXn : ∀ (H : Heap) (locs : List Loc), va_S A s.heap H locs → fb_sx (fun _ => False) s H := fun H locs h9 => (hX.kept h9.2.1).narrow (fun _ z => z.elim)
  have hl : lv_has ls 3 [(0, .ref h)] := hl
  have hin0 : ∀ w ∈ u_ws RX0 TX0 6, w ∈ wsX0_giveWolfTheRest := by decide +kernel
  refine lv_bipush (v := 24) hx hb dX0_giveWolfTheRest_0 (by decide) ?_
  refine lv_istore_n (lv' := [(1, .int 24), (0, .ref h)]) hx hb dX0_giveWolfTheRest_2 rfl hl (by decide) rfl (fun ls hl => ?_)
  refine lv_iconst (v := 0) hx hb dX0_giveWolfTheRest_3 (by decide) ?_
  refine lv_istore_n (lv' := [(2, .int 0), (1, .int 24), (0, .ref h)]) hx hb dX0_giveWolfTheRest_4 rfl hl (by decide) rfl (fun ls hl => ?_)
  have lp5 : ∀ (n9 i : Nat), i ≤ 12 → 12 < i + n9 → ∀ (H : Heap) (locs : List Loc), va_P G vwCl [(h, .inr (0, [.ref n, .ref o, .ref d, .ref f, .int (nI w), .int dy])), (n, .inl (cI, 12, .inl nf)), (o, .inl (cI, 12, .inl uf)), (d, .inl (cI, 12, .inl df)), (f, .inl (cI, 12, .inl tf))] H → va_D A [(h, .inr (0, [.ref n, .ref o, .ref d, .ref f, .int (nI w), .int dy])), (n, .inl (cI, 12, .inl nf)), (o, .inl (cI, 12, .inl uf)), (d, .inl (cI, 12, .inl df)), (f, .inl (cI, 12, .inl tf))] → va_S A s.heap H locs → ∀ ls : Array Slot, lv_has ls 3 [(2, .int (nI i)), (1, .int (fb_lf (fb_rg nf) w i)), (0, .ref h)] → W p l e ({ frames := 1, cells := 0, slots := 0, locals := 22 }) s m args below meth c H locs 0 0 (MQ below (va_Qv (fun _ : Unit => True) (fun _ t => va_P G vwCl (fb_PW cI h n o d f (fb_gw nf w) uf df tf (nI w) dy) t.heap ∧ va_D A (fb_PW cI h n o d f (fb_gw nf w) uf df tf (nI w) dy)) A) args s 0 0 A) (F0 m 5 ls []) := by
    intro n9
    induction n9 with
    | zero => intro i h1 h2; exact absurd h2 (by omega)
    | succ n9 ih5 =>
      intro i hi_i hin9 H locs hP hD hS ls hl
      refine lv_iload_n hx hb dX0_giveWolfTheRest_5 rfl (lv_at hl 0 rfl) ?_
      refine lv_bipush (v := 12) hx hb dX0_giveWolfTheRest_6 (by decide) ?_
      refine lv_icmp_ge (tgt := 34) hx hb dX0_giveWolfTheRest_8 (by decide) (fun c8 => ?_) (fun c8 => ?_)
      · skip
        have hxi : i = 12 := fb_lp_ex (by decide) hi_i c8
        subst hxi
        refine lv_aload_n hx hb dX0_giveWolfTheRest_34 rfl (lv_at hl 2 rfl) ?_
        refine va_get (D := G) (ci := 0) (v := .ref n) (C := RX0) (T := TX0) (N := 6) hx hb hts (hin0) hown hK hP 0 rfl rfl 0 (by decide) (hts (.fieldLink RX0 9 "FifthBeats$Piano" "narrow" "[I") (by decide +kernel)) (fun _ h9 => h9) rfl dX0_giveWolfTheRest_35 ?_
        refine lv_aload_n hx hb dX0_giveWolfTheRest_38 rfl (lv_at hl 2 rfl) ?_
        refine va_get (D := G) (ci := 0) (v := .int (nI w)) (C := RX0) (T := TX0) (N := 6) hx hb hts (hin0) hown hK hP 0 rfl rfl 4 (by decide) (hts (.fieldLink RX0 24 "FifthBeats$Piano" "wolf" "I") (by decide +kernel)) (fun _ h9 => h9) rfl dX0_giveWolfTheRest_39 ?_
        refine lv_bipush (v := 12) hx hb dX0_giveWolfTheRest_42 (by decide) ?_
        refine fb_roS (As := [.int (nI w), .int 12]) (rest := [.ref n]) (n := 2) ⟨hx, hb, hml, hown, hts⟩ (fb_c_J9_floorMod l (nI w) 12 (by decide)) gX0_giveWolfTheRest_J9_floorMod_7cf53 rfl (by decide +kernel) (by decide) fb_Bl_T (fun _ _ _ => trivial) rfl hl.1 rfl (Nat.le_of_ble_eq_true rfl) dX0_giveWolfTheRest_44 (by decide) ?_
        refine fb_ti (z := nI w) (by rw [fb_fm_12 (by omega), Nat.mod_eq_of_lt hw]) ?_
        refine lv_iload_n hx hb dX0_giveWolfTheRest_47 rfl (lv_at hl 1 rfl) ?_
        refine va_iast hx hb hK hP hD hS 1 0 rfl rfl (vp_in_nI hw (by decide)) dX0_giveWolfTheRest_48 (fun H locs hP hD hS => ?_)
        rw [show (nI w).toNatClampNeg = w from fb_cl (by omega)] at hP hD
        have hP : va_P G vwCl [(h, .inr (0, [.ref n, .ref o, .ref d, .ref f, .int (nI w), .int dy])), (n, .inl (cI, 12, .inl (upd nf w (fb_lf (fb_rg nf) w 12)))), (o, .inl (cI, 12, .inl uf)), (d, .inl (cI, 12, .inl df)), (f, .inl (cI, 12, .inl tf))] H := hP
        have hD : va_D A [(h, .inr (0, [.ref n, .ref o, .ref d, .ref f, .int (nI w), .int dy])), (n, .inl (cI, 12, .inl (upd nf w (fb_lf (fb_rg nf) w 12)))), (o, .inl (cI, 12, .inl uf)), (d, .inl (cI, 12, .inl df)), (f, .inl (cI, 12, .inl tf))] := hD
        have hP9 := hP.sub (ws' := [(h, .inr (0, [.ref n, .ref o, .ref d, .ref f, .int (nI w), .int dy])), (n, .inl (cI, 12, .inl (fb_gw nf w))), (o, .inl (cI, 12, .inl uf)), (d, .inl (cI, 12, .inl df)), (f, .inl (cI, 12, .inl tf))]) [0, 1, 2, 3, 4] (rfl)
        have hD9 := hD.sub (ws' := [(h, .inr (0, [.ref n, .ref o, .ref d, .ref f, .int (nI w), .int dy])), (n, .inl (cI, 12, .inl (fb_gw nf w))), (o, .inl (cI, 12, .inl uf)), (d, .inl (cI, 12, .inl df)), (f, .inl (cI, 12, .inl tf))]) [0, 1, 2, 3, 4] (by decide) (rfl)
        exact W.vret hx hb hr (fun t ht hW => ⟨⟨(), rfl, trivial, by rw [ht]; exact hP9, hD9⟩, hS.F ht⟩) hS.2.2 dX0_giveWolfTheRest_49 hlk
      · skip
        have hi12 : i < 12 := fb_lp_in (by decide) hi_i c8
        refine lv_iload_n hx hb dX0_giveWolfTheRest_11 rfl (lv_at hl 0 rfl) ?_
        refine lv_aload_n hx hb dX0_giveWolfTheRest_12 rfl (lv_at hl 2 rfl) ?_
        refine va_get (D := G) (ci := 0) (v := .int (nI w)) (C := RX0) (T := TX0) (N := 6) hx hb hts (hin0) hown hK hP 0 rfl rfl 4 (by decide) (hts (.fieldLink RX0 24 "FifthBeats$Piano" "wolf" "I") (by decide +kernel)) (fun _ h9 => h9) rfl dX0_giveWolfTheRest_13 ?_
        refine lv_icmp_eq (tgt := 28) hx hb dX0_giveWolfTheRest_16 (by decide) (fun c16 => ?_) (fun c16 => ?_)
        · skip
          have h16 : i = w := (nI_eq (by omega) (by omega)).mp c16
          have hl : lv_has ls 3 [(2, .int (nI i)), (1, .int (fb_lf (fb_rg nf) w (i + 1))), (0, .ref h)] := lv_sub hl [0, 1, 2] (by rw [show fb_lf (fb_rg nf) w i = fb_lf (fb_rg nf) w (i + 1) from (if_pos h16).symm]; rfl)
          refine lv_iinc (v := nI (i + 1)) (lv' := [(2, .int (nI (i + 1))), (1, .int (fb_lf (fb_rg nf) w (i + 1))), (0, .ref h)]) hx hb dX0_giveWolfTheRest_28 hl (k := 0) rfl (show nI i + 1 = nI (i + 1) from nI_1 i) (by decide) rfl (fun ls hl => ?_)
          refine lv_goto (tgt := 5) hx hb dX0_giveWolfTheRest_31 (by decide) ?_
          exact ih5 (i + 1) (by omega) (by omega) _ _ (hP) (hD) hS _ (lv_sub hl [0, 1, 2] (rfl))
        · skip
          have h16 : ¬ i = w := fun z => c16 (by rw [z])
          refine lv_iload_n hx hb dX0_giveWolfTheRest_19 rfl (lv_at hl 1 rfl) ?_
          refine lv_aload_n hx hb dX0_giveWolfTheRest_20 rfl (lv_at hl 2 rfl) ?_
          refine va_get (D := G) (ci := 0) (v := .ref n) (C := RX0) (T := TX0) (N := 6) hx hb hts (hin0) hown hK hP 0 rfl rfl 0 (by decide) (hts (.fieldLink RX0 9 "FifthBeats$Piano" "narrow" "[I") (by decide +kernel)) (fun _ h9 => h9) rfl dX0_giveWolfTheRest_21 ?_
          refine lv_iload_n hx hb dX0_giveWolfTheRest_24 rfl (lv_at hl 0 rfl) ?_
          refine va_iald hx hb hK hP 1 0 rfl rfl (vp_in_nI hi12 (by decide)) dX0_giveWolfTheRest_25 ?_
          refine fb_ti (z := fb_rg nf i) (by rw [fb_cl (by omega), fb_rg_lt hi12]) ?_
          refine lv_isub hx hb dX0_giveWolfTheRest_26 ?_
          refine fb_ti (z := fb_lf (fb_rg nf) w (i + 1)) ((if_neg h16).symm) ?_
          refine lv_istore_n (lv' := [(1, .int (fb_lf (fb_rg nf) w (i + 1))), (2, .int (nI i)), (0, .ref h)]) hx hb dX0_giveWolfTheRest_27 rfl hl (by decide) rfl (fun ls hl => ?_)
          refine lv_iinc (v := nI (i + 1)) (lv' := [(2, .int (nI (i + 1))), (1, .int (fb_lf (fb_rg nf) w (i + 1))), (0, .ref h)]) hx hb dX0_giveWolfTheRest_28 hl (k := 1) rfl (show nI i + 1 = nI (i + 1) from nI_1 i) (by decide) rfl (fun ls hl => ?_)
          refine lv_goto (tgt := 5) hx hb dX0_giveWolfTheRest_31 (by decide) ?_
          exact ih5 (i + 1) (by omega) (by omega) _ _ (hP) (hD) hS _ (lv_sub hl [0, 1, 2] (rfl))
  exact lp5 (12 + 1) 0 (by omega) (by omega) _ _ (hP) (hD) hS _ (lv_sub hl [0, 1, 2] (rfl))
set_option maxHeartbeats 4000000 in
set_option maxRecDepth 100000 in
theorem fb_c_X0_plan (l : Launch) (G : va_G) (cI cL : ClassId) (h n o d f : Nat) (nf uf df tf : Nat → Int32) (w : Nat) (dy : Int32) (j : Nat) (v : Int32) (hj : j < 12) (hw : w < 12) (sz : Nat) : fb_MV l yX0_plan wsX0_plan 2 44 [.ref h, .int (nI j), .int v] G cI cL sz (fb_PW cI h n o d f nf uf df tf (nI w) dy) (fb_PW cI h n o d f (fb_pn nf w j v) uf df tf (nI w) dy) := by
  refine fb_mv_of (cc := cX0_plan) (maxL := 3) (ret := none) (by decide) rfl (Nat.le_of_ble_eq_true rfl) ?_
  intro p e s m args below meth c A hx hb hr hml hlk hts hown hP hK hD hA hX ls hl
  have hown : s.vm.findClass RX0 = some m.cls := hown
  have hP : va_P G vwCl [(h, .inr (0, [.ref n, .ref o, .ref d, .ref f, .int (nI w), .int dy])), (n, .inl (cI, 12, .inl nf)), (o, .inl (cI, 12, .inl uf)), (d, .inl (cI, 12, .inl df)), (f, .inl (cI, 12, .inl tf))] s.heap := hP
  have hD : va_D A [(h, .inr (0, [.ref n, .ref o, .ref d, .ref f, .int (nI w), .int dy])), (n, .inl (cI, 12, .inl nf)), (o, .inl (cI, 12, .inl uf)), (d, .inl (cI, 12, .inl df)), (f, .inl (cI, 12, .inl tf))] := hD
  have hS : va_S A s.heap s.heap [] := va_S.rf
  have hXn : ∀ (H : Heap) (locs : List Loc), va_S A s.heap H locs → fb_sx (fun _ => False) s H := fun H locs h9 => (hX.kept h9.2.1).narrow (fun _ z => z.elim)
  have hl : lv_has ls 3 [(0, .ref h), (1, .int (nI j)), (2, .int v)] := hl
  have hin0 : ∀ w ∈ u_ws RX0 TX0 6, w ∈ wsX0_plan := by decide +kernel
  refine lv_aload_n hx hb dX0_plan_0 rfl (lv_at hl 0 rfl) ?_
  refine va_get (D := G) (ci := 0) (v := .ref n) (C := RX0) (T := TX0) (N := 6) hx hb hts (hin0) hown hK hP 0 rfl rfl 0 (by decide) (hts (.fieldLink RX0 9 "FifthBeats$Piano" "narrow" "[I") (by decide +kernel)) (fun _ h9 => h9) rfl dX0_plan_1 ?_
  refine lv_iload_n hx hb dX0_plan_4 rfl (lv_at hl 1 rfl) ?_
  refine lv_bipush (v := 12) hx hb dX0_plan_5 (by decide) ?_
  refine fb_roS (As := [.int (nI j), .int 12]) (rest := [.ref n]) (n := 2) ⟨hx, hb, hml, hown, hts⟩ (fb_c_J9_floorMod l (nI j) 12 (by decide)) gX0_plan_J9_floorMod_7cf53 rfl (by decide +kernel) (by decide) fb_Bl_T (fun _ _ _ => trivial) rfl hl.1 rfl (Nat.le_of_ble_eq_true rfl) dX0_plan_7 (by decide) ?_
  refine fb_ti (z := nI j) (by rw [fb_fm_12 (by omega), Nat.mod_eq_of_lt hj]) ?_
  refine lv_iload_n hx hb dX0_plan_10 rfl (lv_at hl 2 rfl) ?_
  refine va_iast hx hb hK hP hD hS 1 0 rfl rfl (vp_in_nI hj (by decide)) dX0_plan_11 (fun H locs hP hD hS => ?_)
  rw [show (nI j).toNatClampNeg = j from fb_cl (by omega)] at hP hD
  have hP : va_P G vwCl [(h, .inr (0, [.ref n, .ref o, .ref d, .ref f, .int (nI w), .int dy])), (n, .inl (cI, 12, .inl (upd nf j v))), (o, .inl (cI, 12, .inl uf)), (d, .inl (cI, 12, .inl df)), (f, .inl (cI, 12, .inl tf))] H := hP
  have hD : va_D A [(h, .inr (0, [.ref n, .ref o, .ref d, .ref f, .int (nI w), .int dy])), (n, .inl (cI, 12, .inl (upd nf j v))), (o, .inl (cI, 12, .inl uf)), (d, .inl (cI, 12, .inl df)), (f, .inl (cI, 12, .inl tf))] := hD
  refine lv_aload_n hx hb dX0_plan_12 rfl (lv_at hl 0 rfl) ?_
  refine fb_mvV (As := []) (rest := []) (n := 0) (wr := []) (wz := [(h, .inr (0, [.ref n, .ref o, .ref d, .ref f, .int (nI w), .int dy])), (n, .inl (cI, 12, .inl (fb_gw (upd nf j v) w))), (o, .inl (cI, 12, .inl uf)), (d, .inl (cI, 12, .inl df)), (f, .inl (cI, 12, .inl tf))]) ⟨hx, hb, hml, hown, hts⟩ (fb_c_X0_giveWolfTheRest l G cI cL h n o d f (upd nf j v) uf df tf w dy hw _) gX0_plan_X0_giveWolfTheRest rfl (by decide +kernel) (by decide) (va_recv hK hP (ci := 0) (q0 := 0) rfl rfl) hP hK hD hS hA hX [0, 1, 2, 3, 4] [] [0, 1, 2, 3, 4] rfl rfl rfl rfl rfl rfl (by decide) rfl hl.1 rfl (Nat.le_of_ble_eq_true rfl) dX0_plan_13 (by decide) (fun H locs hP hD hS => ?_)
  have hP9 := hP.sub (ws' := [(h, .inr (0, [.ref n, .ref o, .ref d, .ref f, .int (nI w), .int dy])), (n, .inl (cI, 12, .inl (fb_pn nf w j v))), (o, .inl (cI, 12, .inl uf)), (d, .inl (cI, 12, .inl df)), (f, .inl (cI, 12, .inl tf))]) [0, 1, 2, 3, 4] (rfl)
  have hD9 := hD.sub (ws' := [(h, .inr (0, [.ref n, .ref o, .ref d, .ref f, .int (nI w), .int dy])), (n, .inl (cI, 12, .inl (fb_pn nf w j v))), (o, .inl (cI, 12, .inl uf)), (d, .inl (cI, 12, .inl df)), (f, .inl (cI, 12, .inl tf))]) [0, 1, 2, 3, 4] (by decide) (rfl)
  exact W.vret hx hb hr (fun t ht hW => ⟨⟨(), rfl, trivial, by rw [ht]; exact hP9, hD9⟩, hS.F ht⟩) hS.2.2 dX0_plan_16 hlk
set_option maxHeartbeats 4000000 in
set_option maxRecDepth 100000 in
theorem fb_c_X0_moveWolf (l : Launch) (G : va_G) (cI cL : ClassId) (h n o d f : Nat) (nf uf df tf : Nat → Int32) (w : Nat) (dy : Int32) (j : Nat) (hj : j < 12) (hw : w < 12) (sz : Nat) : fb_MV l yX0_moveWolf wsX0_moveWolf 1 22 [.ref h, .int (nI j)] G cI cL sz (fb_PW cI h n o d f nf uf df tf (nI w) dy) (fb_PW cI h n o d f (fb_mw nf w j) uf df tf (nI j) dy) := by
  refine fb_mv_of (cc := cX0_moveWolf) (maxL := 5) (ret := none) (by decide) rfl (Nat.le_of_ble_eq_true rfl) ?_
  intro p e s m args below meth c A hx hb hr hml hlk hts hown hP hK hD hA hX ls hl
  have hown : s.vm.findClass RX0 = some m.cls := hown
  have hP : va_P G vwCl [(h, .inr (0, [.ref n, .ref o, .ref d, .ref f, .int (nI w), .int dy])), (n, .inl (cI, 12, .inl nf)), (o, .inl (cI, 12, .inl uf)), (d, .inl (cI, 12, .inl df)), (f, .inl (cI, 12, .inl tf))] s.heap := hP
  have hD : va_D A [(h, .inr (0, [.ref n, .ref o, .ref d, .ref f, .int (nI w), .int dy])), (n, .inl (cI, 12, .inl nf)), (o, .inl (cI, 12, .inl uf)), (d, .inl (cI, 12, .inl df)), (f, .inl (cI, 12, .inl tf))] := hD
  have hS : va_S A s.heap s.heap [] := va_S.rf
  have hXn : ∀ (H : Heap) (locs : List Loc), va_S A s.heap H locs → fb_sx (fun _ => False) s H := fun H locs h9 => (hX.kept h9.2.1).narrow (fun _ z => z.elim)
  have hl : lv_has ls 5 [(0, .ref h), (1, .int (nI j))] := hl
  have hin0 : ∀ w ∈ u_ws RX0 TX0 6, w ∈ wsX0_moveWolf := by decide +kernel
  refine lv_aload_n hx hb dX0_moveWolf_0 rfl (lv_at hl 0 rfl) ?_
  refine va_get (D := G) (ci := 0) (v := .int (nI w)) (C := RX0) (T := TX0) (N := 6) hx hb hts (hin0) hown hK hP 0 rfl rfl 4 (by decide) (hts (.fieldLink RX0 24 "FifthBeats$Piano" "wolf" "I") (by decide +kernel)) (fun _ h9 => h9) rfl dX0_moveWolf_1 ?_
  refine lv_bipush (v := 12) hx hb dX0_moveWolf_4 (by decide) ?_
  refine fb_roS (As := [.int (nI w), .int 12]) (rest := []) (n := 2) ⟨hx, hb, hml, hown, hts⟩ (fb_c_J9_floorMod l (nI w) 12 (by decide)) gX0_moveWolf_J9_floorMod_7cf53 rfl (by decide +kernel) (by decide) fb_Bl_T (fun _ _ _ => trivial) rfl hl.1 rfl (Nat.le_of_ble_eq_true rfl) dX0_moveWolf_6 (by decide) ?_
  refine fb_ti (z := nI w) (by rw [fb_fm_12 (by omega), Nat.mod_eq_of_lt hw]) ?_
  refine lv_istore_n (lv' := [(2, .int (nI w)), (0, .ref h), (1, .int (nI j))]) hx hb dX0_moveWolf_9 rfl hl (by decide) rfl (fun ls hl => ?_)
  refine lv_iload_n hx hb dX0_moveWolf_10 rfl (lv_at hl 2 rfl) ?_
  refine lv_bipush (v := 12) hx hb dX0_moveWolf_11 (by decide) ?_
  refine fb_roS (As := [.int (nI j), .int 12]) (rest := []) (n := 2) ⟨hx, hb, hml, hown, hts⟩ (fb_c_J9_floorMod l (nI j) 12 (by decide)) gX0_moveWolf_J9_floorMod_7cf53 rfl (by decide +kernel) (by decide) fb_Bl_T (fun _ _ _ => trivial) rfl hl.1 rfl (Nat.le_of_ble_eq_true rfl) dX0_moveWolf_13 (by decide) ?_
  refine fb_ti (z := nI j) (by rw [fb_fm_12 (by omega), Nat.mod_eq_of_lt hj]) ?_
  refine lv_istore_n (lv' := [(3, .int (nI j)), (2, .int (nI w)), (0, .ref h), (1, .int (nI j))]) hx hb dX0_moveWolf_16 rfl hl (by decide) rfl (fun ls hl => ?_)
  refine lv_aload_n hx hb dX0_moveWolf_17 rfl (lv_at hl 2 rfl) ?_
  refine va_get (D := G) (ci := 0) (v := .ref n) (C := RX0) (T := TX0) (N := 6) hx hb hts (hin0) hown hK hP 0 rfl rfl 0 (by decide) (hts (.fieldLink RX0 9 "FifthBeats$Piano" "narrow" "[I") (by decide +kernel)) (fun _ h9 => h9) rfl dX0_moveWolf_18 ?_
  refine lv_iload_n hx hb dX0_moveWolf_21 rfl (lv_at hl 0 rfl) ?_
  refine va_iald hx hb hK hP 1 0 rfl rfl (vp_in_nI hj (by decide)) dX0_moveWolf_22 ?_
  refine fb_ti (z := fb_rg nf j) (by rw [fb_cl (by omega), fb_rg_lt hj]) ?_
  refine lv_istore (lv' := [(4, .int (fb_rg nf j)), (3, .int (nI j)), (2, .int (nI w)), (0, .ref h), (1, .int (nI j))]) hx hb dX0_moveWolf_23 hl (by decide) rfl (fun ls hl => ?_)
  refine lv_aload_n hx hb dX0_moveWolf_25 rfl (lv_at hl 3 rfl) ?_
  refine va_get (D := G) (ci := 0) (v := .ref n) (C := RX0) (T := TX0) (N := 6) hx hb hts (hin0) hown hK hP 0 rfl rfl 0 (by decide) (hts (.fieldLink RX0 9 "FifthBeats$Piano" "narrow" "[I") (by decide +kernel)) (fun _ h9 => h9) rfl dX0_moveWolf_26 ?_
  refine lv_iload_n hx hb dX0_moveWolf_29 rfl (lv_at hl 1 rfl) ?_
  refine lv_aload_n hx hb dX0_moveWolf_30 rfl (lv_at hl 3 rfl) ?_
  refine va_get (D := G) (ci := 0) (v := .ref n) (C := RX0) (T := TX0) (N := 6) hx hb hts (hin0) hown hK hP 0 rfl rfl 0 (by decide) (hts (.fieldLink RX0 9 "FifthBeats$Piano" "narrow" "[I") (by decide +kernel)) (fun _ h9 => h9) rfl dX0_moveWolf_31 ?_
  refine lv_iload_n hx hb dX0_moveWolf_34 rfl (lv_at hl 2 rfl) ?_
  refine va_iald hx hb hK hP 1 0 rfl rfl (vp_in_nI hw (by decide)) dX0_moveWolf_35 ?_
  refine fb_ti (z := fb_rg nf w) (by rw [fb_cl (by omega), fb_rg_lt hw]) ?_
  refine va_iast hx hb hK hP hD hS 1 0 rfl rfl (vp_in_nI hj (by decide)) dX0_moveWolf_36 (fun H locs hP hD hS => ?_)
  rw [show (nI j).toNatClampNeg = j from fb_cl (by omega)] at hP hD
  have hP : va_P G vwCl [(h, .inr (0, [.ref n, .ref o, .ref d, .ref f, .int (nI w), .int dy])), (n, .inl (cI, 12, .inl (upd nf j (fb_rg nf w)))), (o, .inl (cI, 12, .inl uf)), (d, .inl (cI, 12, .inl df)), (f, .inl (cI, 12, .inl tf))] H := hP
  have hD : va_D A [(h, .inr (0, [.ref n, .ref o, .ref d, .ref f, .int (nI w), .int dy])), (n, .inl (cI, 12, .inl (upd nf j (fb_rg nf w)))), (o, .inl (cI, 12, .inl uf)), (d, .inl (cI, 12, .inl df)), (f, .inl (cI, 12, .inl tf))] := hD
  refine lv_aload_n hx hb dX0_moveWolf_37 rfl (lv_at hl 3 rfl) ?_
  refine va_get (D := G) (ci := 0) (v := .ref n) (C := RX0) (T := TX0) (N := 6) hx hb hts (hin0) hown hK hP 0 rfl rfl 0 (by decide) (hts (.fieldLink RX0 9 "FifthBeats$Piano" "narrow" "[I") (by decide +kernel)) (fun _ h9 => h9) rfl dX0_moveWolf_38 ?_
  refine lv_iload_n hx hb dX0_moveWolf_41 rfl (lv_at hl 2 rfl) ?_
  refine lv_iload hx hb dX0_moveWolf_42 (lv_at hl 0 rfl) ?_
  refine va_iast hx hb hK hP hD hS 1 0 rfl rfl (vp_in_nI hw (by decide)) dX0_moveWolf_44 (fun H locs hP hD hS => ?_)
  rw [show (nI w).toNatClampNeg = w from fb_cl (by omega)] at hP hD
  have hP : va_P G vwCl [(h, .inr (0, [.ref n, .ref o, .ref d, .ref f, .int (nI w), .int dy])), (n, .inl (cI, 12, .inl (upd (upd nf j (fb_rg nf w)) w (fb_rg nf j)))), (o, .inl (cI, 12, .inl uf)), (d, .inl (cI, 12, .inl df)), (f, .inl (cI, 12, .inl tf))] H := hP
  have hD : va_D A [(h, .inr (0, [.ref n, .ref o, .ref d, .ref f, .int (nI w), .int dy])), (n, .inl (cI, 12, .inl (upd (upd nf j (fb_rg nf w)) w (fb_rg nf j)))), (o, .inl (cI, 12, .inl uf)), (d, .inl (cI, 12, .inl df)), (f, .inl (cI, 12, .inl tf))] := hD
  refine lv_aload_n hx hb dX0_moveWolf_45 rfl (lv_at hl 3 rfl) ?_
  refine lv_iload_n hx hb dX0_moveWolf_46 rfl (lv_at hl 1 rfl) ?_
  refine va_put (D := G) (ci := 0) (v := .int (nI j)) (ty := .int) (C := RX0) (T := TX0) (N := 6) hx hb hts (hin0) tyX0 tyX0_ok nmX0 hown hK hP hD hS 0 rfl rfl 4 (by decide) (hts (.fieldLink RX0 24 "FifthBeats$Piano" "wolf" "I") (by decide +kernel)) (fun _ h9 => h9) rfl (by decide +kernel) rfl rfl (Nat.le_of_ble_eq_true rfl) dX0_moveWolf_47 (fun H locs hP hD hS => ?_)
  have hP : va_P G vwCl [(h, .inr (0, [.ref n, .ref o, .ref d, .ref f, .int (nI j), .int dy])), (n, .inl (cI, 12, .inl (upd (upd nf j (fb_rg nf w)) w (fb_rg nf j)))), (o, .inl (cI, 12, .inl uf)), (d, .inl (cI, 12, .inl df)), (f, .inl (cI, 12, .inl tf))] H := hP
  have hD : va_D A [(h, .inr (0, [.ref n, .ref o, .ref d, .ref f, .int (nI j), .int dy])), (n, .inl (cI, 12, .inl (upd (upd nf j (fb_rg nf w)) w (fb_rg nf j)))), (o, .inl (cI, 12, .inl uf)), (d, .inl (cI, 12, .inl df)), (f, .inl (cI, 12, .inl tf))] := hD
  have hP9 := hP.sub (ws' := [(h, .inr (0, [.ref n, .ref o, .ref d, .ref f, .int (nI j), .int dy])), (n, .inl (cI, 12, .inl (fb_mw nf w j))), (o, .inl (cI, 12, .inl uf)), (d, .inl (cI, 12, .inl df)), (f, .inl (cI, 12, .inl tf))]) [0, 1, 2, 3, 4] (rfl)
  have hD9 := hD.sub (ws' := [(h, .inr (0, [.ref n, .ref o, .ref d, .ref f, .int (nI j), .int dy])), (n, .inl (cI, 12, .inl (fb_mw nf w j))), (o, .inl (cI, 12, .inl uf)), (d, .inl (cI, 12, .inl df)), (f, .inl (cI, 12, .inl tf))]) [0, 1, 2, 3, 4] (by decide) (rfl)
  exact W.vret hx hb hr (fun t ht hW => ⟨⟨(), rfl, trivial, by rw [ht]; exact hP9, hD9⟩, hS.F ht⟩) hS.2.2 dX0_moveWolf_50 hlk
set_option maxHeartbeats 4000000 in
set_option maxRecDepth 100000 in
theorem fb_c_X0_spreadComma (l : Launch) (G : va_G) (cI cL : ClassId) (h n o d f : Nat) (nf uf df tf : Nat → Int32) (w : Nat) (dy : Int32) (q : Nat) (hq : 2 ≤ q) (hq2 : q ≤ 11) (hw : w < 12) (sz : Nat) : fb_MV l yX0_spreadComma wsX0_spreadComma 2 44 [.ref h, .int (nI q)] G cI cL sz (fb_PW cI h n o d f nf uf df tf (nI w) dy) (fb_PW cI h n o d f (fb_gw (fb_sp nf w q 11) w) uf df tf (nI w) dy) := by
  refine fb_mv_of (cc := cX0_spreadComma) (maxL := 6) (ret := none) (by decide) rfl (Nat.le_of_ble_eq_true rfl) ?_
  intro p e s m args below meth c A hx hb hr hml hlk hts hown hP hK hD hA hX ls hl
  have hown : s.vm.findClass RX0 = some m.cls := hown
  have hP : va_P G vwCl [(h, .inr (0, [.ref n, .ref o, .ref d, .ref f, .int (nI w), .int dy])), (n, .inl (cI, 12, .inl nf)), (o, .inl (cI, 12, .inl uf)), (d, .inl (cI, 12, .inl df)), (f, .inl (cI, 12, .inl tf))] s.heap := hP
  have hD : va_D A [(h, .inr (0, [.ref n, .ref o, .ref d, .ref f, .int (nI w), .int dy])), (n, .inl (cI, 12, .inl nf)), (o, .inl (cI, 12, .inl uf)), (d, .inl (cI, 12, .inl df)), (f, .inl (cI, 12, .inl tf))] := hD
  have hS : va_S A s.heap s.heap [] := va_S.rf
  have hXn : ∀ (H : Heap) (locs : List Loc), va_S A s.heap H locs → fb_sx (fun _ => False) s H := fun H locs h9 => (hX.kept h9.2.1).narrow (fun _ z => z.elim)
  have hl : lv_has ls 6 [(0, .ref h), (1, .int (nI q))] := hl
  have hin0 : ∀ w ∈ u_ws RX0 TX0 6, w ∈ wsX0_spreadComma := by decide +kernel
  refine lv_iload_n hx hb dX0_spreadComma_0 rfl (lv_at hl 1 rfl) ?_
  refine lv_iconst (v := 1) hx hb dX0_spreadComma_1 (by decide) ?_
  refine lv_icmp_ge (tgt := 6) hx hb dX0_spreadComma_2 (by decide) (fun c2 => ?_) (fun c2 => ?_)
  · skip
    refine lv_bipush (v := 24) hx hb dX0_spreadComma_6 (by decide) ?_
    refine lv_iload_n hx hb dX0_spreadComma_8 rfl (lv_at hl 1 rfl) ?_
    refine lv_idiv hx hb dX0_spreadComma_9 (nI_ne0 (by omega) (by omega)) ?_
    refine fb_ti (z := nI (24 / q)) (pk_div (a := 24) (by decide) (by omega) (by omega)) ?_
    refine lv_istore_n (lv' := [(2, .int (nI (24 / q))), (0, .ref h), (1, .int (nI q))]) hx hb dX0_spreadComma_10 rfl hl (by decide) rfl (fun ls hl => ?_)
    refine lv_bipush (v := 24) hx hb dX0_spreadComma_11 (by decide) ?_
    refine lv_iload_n hx hb dX0_spreadComma_13 rfl (lv_at hl 2 rfl) ?_
    refine lv_irem hx hb dX0_spreadComma_14 (nI_ne0 (by omega) (by omega)) ?_
    refine fb_ti (z := nI (24 % q)) (pk_rem (a := 24) (by decide) (by omega) (by omega)) ?_
    refine lv_istore_n (lv' := [(3, .int (nI (24 % q))), (2, .int (nI (24 / q))), (0, .ref h), (1, .int (nI q))]) hx hb dX0_spreadComma_15 rfl hl (by decide) rfl (fun ls hl => ?_)
    refine lv_iconst (v := 0) hx hb dX0_spreadComma_16 (by decide) ?_
    refine lv_istore (lv' := [(4, .int 0), (3, .int (nI (24 % q))), (2, .int (nI (24 / q))), (0, .ref h), (1, .int (nI q))]) hx hb dX0_spreadComma_17 hl (by decide) rfl (fun ls hl => ?_)
    have lp19 : ∀ (n9 i : Nat), i ≤ 11 → 11 < i + n9 → ∀ (H : Heap) (locs : List Loc), va_P G vwCl [(h, .inr (0, [.ref n, .ref o, .ref d, .ref f, .int (nI w), .int dy])), (n, .inl (cI, 12, .inl (fb_sp nf w q i))), (o, .inl (cI, 12, .inl uf)), (d, .inl (cI, 12, .inl df)), (f, .inl (cI, 12, .inl tf))] H → va_D A [(h, .inr (0, [.ref n, .ref o, .ref d, .ref f, .int (nI w), .int dy])), (n, .inl (cI, 12, .inl (fb_sp nf w q i))), (o, .inl (cI, 12, .inl uf)), (d, .inl (cI, 12, .inl df)), (f, .inl (cI, 12, .inl tf))] → va_S A s.heap H locs → ∀ ls : Array Slot, lv_has ls 6 [(4, .int (nI i)), (3, .int (nI (24 % q))), (2, .int (nI (24 / q))), (0, .ref h), (1, .int (nI q))] → W p l e ({ frames := 2, cells := 0, slots := 0, locals := 44 }) s m args below meth c H locs 0 0 (MQ below (va_Qv (fun _ : Unit => True) (fun _ t => va_P G vwCl (fb_PW cI h n o d f (fb_gw (fb_sp nf w q 11) w) uf df tf (nI w) dy) t.heap ∧ va_D A (fb_PW cI h n o d f (fb_gw (fb_sp nf w q 11) w) uf df tf (nI w) dy)) A) args s 0 0 A) (F0 m 19 ls []) := by
      intro n9
      induction n9 with
      | zero => intro i h1 h2; exact absurd h2 (by omega)
      | succ n9 ih19 =>
        intro i hi_i hin9 H locs hP hD hS ls hl
        refine lv_iload hx hb dX0_spreadComma_19 (lv_at hl 0 rfl) ?_
        refine lv_bipush (v := 11) hx hb dX0_spreadComma_21 (by decide) ?_
        refine lv_icmp_ge (tgt := 79) hx hb dX0_spreadComma_23 (by decide) (fun c23 => ?_) (fun c23 => ?_)
        · skip
          have hxi : i = 11 := fb_lp_ex (by decide) hi_i c23
          subst hxi
          refine lv_aload_n hx hb dX0_spreadComma_79 rfl (lv_at hl 3 rfl) ?_
          refine fb_mvV (As := []) (rest := []) (n := 0) (wr := []) (wz := [(h, .inr (0, [.ref n, .ref o, .ref d, .ref f, .int (nI w), .int dy])), (n, .inl (cI, 12, .inl (fb_gw (fb_sp nf w q 11) w))), (o, .inl (cI, 12, .inl uf)), (d, .inl (cI, 12, .inl df)), (f, .inl (cI, 12, .inl tf))]) ⟨hx, hb, hml, hown, hts⟩ (fb_c_X0_giveWolfTheRest l G cI cL h n o d f (fb_sp nf w q 11) uf df tf w dy hw _) gX0_spreadComma_X0_giveWolfTheRest rfl (by decide +kernel) (by decide) (va_recv hK hP (ci := 0) (q0 := 0) rfl rfl) hP hK hD hS hA hX [0, 1, 2, 3, 4] [] [0, 1, 2, 3, 4] rfl rfl rfl rfl rfl rfl (by decide) rfl hl.1 rfl (Nat.le_of_ble_eq_true rfl) dX0_spreadComma_80 (by decide) (fun H locs hP hD hS => ?_)
          have hP9 := hP.sub (ws' := [(h, .inr (0, [.ref n, .ref o, .ref d, .ref f, .int (nI w), .int dy])), (n, .inl (cI, 12, .inl (fb_gw (fb_sp nf w q 11) w))), (o, .inl (cI, 12, .inl uf)), (d, .inl (cI, 12, .inl df)), (f, .inl (cI, 12, .inl tf))]) [0, 1, 2, 3, 4] (rfl)
          have hD9 := hD.sub (ws' := [(h, .inr (0, [.ref n, .ref o, .ref d, .ref f, .int (nI w), .int dy])), (n, .inl (cI, 12, .inl (fb_gw (fb_sp nf w q 11) w))), (o, .inl (cI, 12, .inl uf)), (d, .inl (cI, 12, .inl df)), (f, .inl (cI, 12, .inl tf))]) [0, 1, 2, 3, 4] (by decide) (rfl)
          exact W.vret hx hb hr (fun t ht hW => ⟨⟨(), rfl, trivial, by rw [ht]; exact hP9, hD9⟩, hS.F ht⟩) hS.2.2 dX0_spreadComma_83 hlk
        · skip
          have hi12 : i < 11 := fb_lp_in (by decide) hi_i c23
          refine lv_iload hx hb dX0_spreadComma_26 (lv_at hl 0 rfl) ?_
          refine lv_iload_n hx hb dX0_spreadComma_28 rfl (lv_at hl 4 rfl) ?_
          refine lv_icmp_ge (tgt := 36) hx hb dX0_spreadComma_29 (by decide) (fun c29 => ?_) (fun c29 => ?_)
          · skip
            have h29 : ¬ i < q := Nat.not_lt.mpr ((nI_leI (by omega) (by omega)).mp c29)
            refine lv_iconst (v := 0) hx hb dX0_spreadComma_36 (by decide) ?_
            refine lv_istore (lv' := [(5, .int 0), (4, .int (nI i)), (3, .int (nI (24 % q))), (2, .int (nI (24 / q))), (0, .ref h), (1, .int (nI q))]) hx hb dX0_spreadComma_37 hl (by decide) rfl (fun ls hl => ?_)
            refine lv_aload_n hx hb dX0_spreadComma_39 rfl (lv_at hl 4 rfl) ?_
            refine va_get (D := G) (ci := 0) (v := .ref n) (C := RX0) (T := TX0) (N := 6) hx hb hts (hin0) hown hK hP 0 rfl rfl 0 (by decide) (hts (.fieldLink RX0 9 "FifthBeats$Piano" "narrow" "[I") (by decide +kernel)) (fun _ h9 => h9) rfl dX0_spreadComma_40 ?_
            refine lv_aload_n hx hb dX0_spreadComma_43 rfl (lv_at hl 4 rfl) ?_
            refine va_get (D := G) (ci := 0) (v := .int (nI w)) (C := RX0) (T := TX0) (N := 6) hx hb hts (hin0) hown hK hP 0 rfl rfl 4 (by decide) (hts (.fieldLink RX0 24 "FifthBeats$Piano" "wolf" "I") (by decide +kernel)) (fun _ h9 => h9) rfl dX0_spreadComma_44 ?_
            refine lv_iconst (v := 1) hx hb dX0_spreadComma_47 (by decide) ?_
            refine lv_iadd hx hb dX0_spreadComma_48 ?_
            refine fb_ti (z := nI (w + 1)) (nI_add w 1) ?_
            refine lv_iload hx hb dX0_spreadComma_49 (lv_at hl 1 rfl) ?_
            refine lv_iadd hx hb dX0_spreadComma_51 ?_
            refine fb_ti (z := nI (w + 1 + i)) (nI_add (w + 1) i) ?_
            refine lv_bipush (v := 12) hx hb dX0_spreadComma_52 (by decide) ?_
            refine fb_roS (As := [.int (nI (w + 1 + i)), .int 12]) (rest := [.ref n]) (n := 2) ⟨hx, hb, hml, hown, hts⟩ (fb_c_J9_floorMod l (nI (w + 1 + i)) 12 (by decide)) gX0_spreadComma_J9_floorMod_7cf53 rfl (by decide +kernel) (by decide) fb_Bl_T (fun _ _ _ => trivial) rfl hl.1 rfl (Nat.le_of_ble_eq_true rfl) dX0_spreadComma_54 (by decide) ?_
            refine fb_ti (z := nI ((w + 1 + i) % 12)) (fb_fm_12 (by omega)) ?_
            refine lv_iload hx hb dX0_spreadComma_57 (lv_at hl 1 rfl) ?_
            refine lv_iload_n hx hb dX0_spreadComma_59 rfl (lv_at hl 2 rfl) ?_
            refine lv_icmp_ge (tgt := 70) hx hb dX0_spreadComma_60 (by decide) (fun c60 => ?_) (fun c60 => ?_)
            · skip
              have h60 : ¬ i < 24 % q := Nat.not_lt.mpr ((nI_leI (Nat.lt_of_le_of_lt (Nat.mod_le _ _) (by decide)) (by omega)).mp c60)
              refine lv_iload hx hb dX0_spreadComma_70 (lv_at hl 0 rfl) ?_
              refine va_iast hx hb hK hP hD hS 1 0 rfl rfl (vp_in_nI (Nat.mod_lt _ (by decide)) (by decide)) dX0_spreadComma_72 (fun H locs hP hD hS => ?_)
              rw [show (nI ((w + 1 + i) % 12)).toNatClampNeg = ((w + 1 + i) % 12) from fb_cl (by omega)] at hP hD
              rw [show upd (fb_sp nf w q i) ((w + 1 + i) % 12) 0 = fb_sp nf w q (i + 1) from show upd (fb_sp nf w q i) ((w + 1 + i) % 12) (0) = upd (fb_sp nf w q i) ((w + 1 + i) % 12) (fb_sv q i) from by rw [show 0 = fb_sv q i from by unfold fb_sv; simp only [h29, h60, if_true, if_false]]] at hP hD
              have hP : va_P G vwCl [(h, .inr (0, [.ref n, .ref o, .ref d, .ref f, .int (nI w), .int dy])), (n, .inl (cI, 12, .inl (fb_sp nf w q (i + 1)))), (o, .inl (cI, 12, .inl uf)), (d, .inl (cI, 12, .inl df)), (f, .inl (cI, 12, .inl tf))] H := hP
              have hD : va_D A [(h, .inr (0, [.ref n, .ref o, .ref d, .ref f, .int (nI w), .int dy])), (n, .inl (cI, 12, .inl (fb_sp nf w q (i + 1)))), (o, .inl (cI, 12, .inl uf)), (d, .inl (cI, 12, .inl df)), (f, .inl (cI, 12, .inl tf))] := hD
              refine lv_iinc (v := nI (i + 1)) (lv' := [(4, .int (nI (i + 1))), (5, .int 0), (3, .int (nI (24 % q))), (2, .int (nI (24 / q))), (0, .ref h), (1, .int (nI q))]) hx hb dX0_spreadComma_73 hl (k := 1) rfl (show nI i + 1 = nI (i + 1) from nI_1 i) (by decide) rfl (fun ls hl => ?_)
              refine lv_goto (tgt := 19) hx hb dX0_spreadComma_76 (by decide) ?_
              exact ih19 (i + 1) (by omega) (by omega) _ _ (hP) (hD) hS _ (lv_sub hl [0, 2, 3, 4, 5] (rfl))
            · skip
              have h60 : i < 24 % q := Nat.lt_of_not_le (fun z => c60 (nI_le z (by omega)))
              refine lv_iload hx hb dX0_spreadComma_63 (lv_at hl 0 rfl) ?_
              refine lv_iconst (v := 1) hx hb dX0_spreadComma_65 (by decide) ?_
              refine lv_iadd hx hb dX0_spreadComma_66 ?_
              refine fb_ti (z := 0 + 1) (rfl) ?_
              refine lv_goto (tgt := 72) hx hb dX0_spreadComma_67 (by decide) ?_
              refine va_iast hx hb hK hP hD hS 1 0 rfl rfl (vp_in_nI (Nat.mod_lt _ (by decide)) (by decide)) dX0_spreadComma_72 (fun H locs hP hD hS => ?_)
              rw [show (nI ((w + 1 + i) % 12)).toNatClampNeg = ((w + 1 + i) % 12) from fb_cl (by omega)] at hP hD
              rw [show upd (fb_sp nf w q i) ((w + 1 + i) % 12) (0 + 1) = fb_sp nf w q (i + 1) from show upd (fb_sp nf w q i) ((w + 1 + i) % 12) (0 + 1) = upd (fb_sp nf w q i) ((w + 1 + i) % 12) (fb_sv q i) from by rw [show (0 + 1) = fb_sv q i from by unfold fb_sv; simp only [h29, h60, if_true, if_false]]] at hP hD
              have hP : va_P G vwCl [(h, .inr (0, [.ref n, .ref o, .ref d, .ref f, .int (nI w), .int dy])), (n, .inl (cI, 12, .inl (fb_sp nf w q (i + 1)))), (o, .inl (cI, 12, .inl uf)), (d, .inl (cI, 12, .inl df)), (f, .inl (cI, 12, .inl tf))] H := hP
              have hD : va_D A [(h, .inr (0, [.ref n, .ref o, .ref d, .ref f, .int (nI w), .int dy])), (n, .inl (cI, 12, .inl (fb_sp nf w q (i + 1)))), (o, .inl (cI, 12, .inl uf)), (d, .inl (cI, 12, .inl df)), (f, .inl (cI, 12, .inl tf))] := hD
              refine lv_iinc (v := nI (i + 1)) (lv' := [(4, .int (nI (i + 1))), (5, .int 0), (3, .int (nI (24 % q))), (2, .int (nI (24 / q))), (0, .ref h), (1, .int (nI q))]) hx hb dX0_spreadComma_73 hl (k := 1) rfl (show nI i + 1 = nI (i + 1) from nI_1 i) (by decide) rfl (fun ls hl => ?_)
              refine lv_goto (tgt := 19) hx hb dX0_spreadComma_76 (by decide) ?_
              exact ih19 (i + 1) (by omega) (by omega) _ _ (hP) (hD) hS _ (lv_sub hl [0, 2, 3, 4, 5] (rfl))
          · skip
            have h29 : i < q := Nat.lt_of_not_le (fun z => c29 (nI_le z (by omega)))
            refine lv_iload_n hx hb dX0_spreadComma_32 rfl (lv_at hl 2 rfl) ?_
            refine lv_goto (tgt := 37) hx hb dX0_spreadComma_33 (by decide) ?_
            refine lv_istore (lv' := [(5, .int (nI (24 / q))), (4, .int (nI i)), (3, .int (nI (24 % q))), (2, .int (nI (24 / q))), (0, .ref h), (1, .int (nI q))]) hx hb dX0_spreadComma_37 hl (by decide) rfl (fun ls hl => ?_)
            refine lv_aload_n hx hb dX0_spreadComma_39 rfl (lv_at hl 4 rfl) ?_
            refine va_get (D := G) (ci := 0) (v := .ref n) (C := RX0) (T := TX0) (N := 6) hx hb hts (hin0) hown hK hP 0 rfl rfl 0 (by decide) (hts (.fieldLink RX0 9 "FifthBeats$Piano" "narrow" "[I") (by decide +kernel)) (fun _ h9 => h9) rfl dX0_spreadComma_40 ?_
            refine lv_aload_n hx hb dX0_spreadComma_43 rfl (lv_at hl 4 rfl) ?_
            refine va_get (D := G) (ci := 0) (v := .int (nI w)) (C := RX0) (T := TX0) (N := 6) hx hb hts (hin0) hown hK hP 0 rfl rfl 4 (by decide) (hts (.fieldLink RX0 24 "FifthBeats$Piano" "wolf" "I") (by decide +kernel)) (fun _ h9 => h9) rfl dX0_spreadComma_44 ?_
            refine lv_iconst (v := 1) hx hb dX0_spreadComma_47 (by decide) ?_
            refine lv_iadd hx hb dX0_spreadComma_48 ?_
            refine fb_ti (z := nI (w + 1)) (nI_add w 1) ?_
            refine lv_iload hx hb dX0_spreadComma_49 (lv_at hl 1 rfl) ?_
            refine lv_iadd hx hb dX0_spreadComma_51 ?_
            refine fb_ti (z := nI (w + 1 + i)) (nI_add (w + 1) i) ?_
            refine lv_bipush (v := 12) hx hb dX0_spreadComma_52 (by decide) ?_
            refine fb_roS (As := [.int (nI (w + 1 + i)), .int 12]) (rest := [.ref n]) (n := 2) ⟨hx, hb, hml, hown, hts⟩ (fb_c_J9_floorMod l (nI (w + 1 + i)) 12 (by decide)) gX0_spreadComma_J9_floorMod_7cf53 rfl (by decide +kernel) (by decide) fb_Bl_T (fun _ _ _ => trivial) rfl hl.1 rfl (Nat.le_of_ble_eq_true rfl) dX0_spreadComma_54 (by decide) ?_
            refine fb_ti (z := nI ((w + 1 + i) % 12)) (fb_fm_12 (by omega)) ?_
            refine lv_iload hx hb dX0_spreadComma_57 (lv_at hl 1 rfl) ?_
            refine lv_iload_n hx hb dX0_spreadComma_59 rfl (lv_at hl 2 rfl) ?_
            refine lv_icmp_ge (tgt := 70) hx hb dX0_spreadComma_60 (by decide) (fun c60 => ?_) (fun c60 => ?_)
            · skip
              have h60 : ¬ i < 24 % q := Nat.not_lt.mpr ((nI_leI (Nat.lt_of_le_of_lt (Nat.mod_le _ _) (by decide)) (by omega)).mp c60)
              refine lv_iload hx hb dX0_spreadComma_70 (lv_at hl 0 rfl) ?_
              refine va_iast hx hb hK hP hD hS 1 0 rfl rfl (vp_in_nI (Nat.mod_lt _ (by decide)) (by decide)) dX0_spreadComma_72 (fun H locs hP hD hS => ?_)
              rw [show (nI ((w + 1 + i) % 12)).toNatClampNeg = ((w + 1 + i) % 12) from fb_cl (by omega)] at hP hD
              rw [show upd (fb_sp nf w q i) ((w + 1 + i) % 12) (nI (24 / q)) = fb_sp nf w q (i + 1) from show upd (fb_sp nf w q i) ((w + 1 + i) % 12) (nI (24 / q)) = upd (fb_sp nf w q i) ((w + 1 + i) % 12) (fb_sv q i) from by rw [show (nI (24 / q)) = fb_sv q i from by unfold fb_sv; simp only [h29, h60, if_true, if_false]]] at hP hD
              have hP : va_P G vwCl [(h, .inr (0, [.ref n, .ref o, .ref d, .ref f, .int (nI w), .int dy])), (n, .inl (cI, 12, .inl (fb_sp nf w q (i + 1)))), (o, .inl (cI, 12, .inl uf)), (d, .inl (cI, 12, .inl df)), (f, .inl (cI, 12, .inl tf))] H := hP
              have hD : va_D A [(h, .inr (0, [.ref n, .ref o, .ref d, .ref f, .int (nI w), .int dy])), (n, .inl (cI, 12, .inl (fb_sp nf w q (i + 1)))), (o, .inl (cI, 12, .inl uf)), (d, .inl (cI, 12, .inl df)), (f, .inl (cI, 12, .inl tf))] := hD
              refine lv_iinc (v := nI (i + 1)) (lv' := [(4, .int (nI (i + 1))), (5, .int (nI (24 / q))), (3, .int (nI (24 % q))), (2, .int (nI (24 / q))), (0, .ref h), (1, .int (nI q))]) hx hb dX0_spreadComma_73 hl (k := 1) rfl (show nI i + 1 = nI (i + 1) from nI_1 i) (by decide) rfl (fun ls hl => ?_)
              refine lv_goto (tgt := 19) hx hb dX0_spreadComma_76 (by decide) ?_
              exact ih19 (i + 1) (by omega) (by omega) _ _ (hP) (hD) hS _ (lv_sub hl [0, 2, 3, 4, 5] (rfl))
            · skip
              have h60 : i < 24 % q := Nat.lt_of_not_le (fun z => c60 (nI_le z (by omega)))
              refine lv_iload hx hb dX0_spreadComma_63 (lv_at hl 0 rfl) ?_
              refine lv_iconst (v := 1) hx hb dX0_spreadComma_65 (by decide) ?_
              refine lv_iadd hx hb dX0_spreadComma_66 ?_
              refine fb_ti (z := (nI (24 / q)) + 1) (rfl) ?_
              refine lv_goto (tgt := 72) hx hb dX0_spreadComma_67 (by decide) ?_
              refine va_iast hx hb hK hP hD hS 1 0 rfl rfl (vp_in_nI (Nat.mod_lt _ (by decide)) (by decide)) dX0_spreadComma_72 (fun H locs hP hD hS => ?_)
              rw [show (nI ((w + 1 + i) % 12)).toNatClampNeg = ((w + 1 + i) % 12) from fb_cl (by omega)] at hP hD
              rw [show upd (fb_sp nf w q i) ((w + 1 + i) % 12) ((nI (24 / q)) + 1) = fb_sp nf w q (i + 1) from show upd (fb_sp nf w q i) ((w + 1 + i) % 12) (nI (24 / q) + 1) = upd (fb_sp nf w q i) ((w + 1 + i) % 12) (fb_sv q i) from by rw [show (nI (24 / q) + 1) = fb_sv q i from by unfold fb_sv; simp only [h29, h60, if_true, if_false]]] at hP hD
              have hP : va_P G vwCl [(h, .inr (0, [.ref n, .ref o, .ref d, .ref f, .int (nI w), .int dy])), (n, .inl (cI, 12, .inl (fb_sp nf w q (i + 1)))), (o, .inl (cI, 12, .inl uf)), (d, .inl (cI, 12, .inl df)), (f, .inl (cI, 12, .inl tf))] H := hP
              have hD : va_D A [(h, .inr (0, [.ref n, .ref o, .ref d, .ref f, .int (nI w), .int dy])), (n, .inl (cI, 12, .inl (fb_sp nf w q (i + 1)))), (o, .inl (cI, 12, .inl uf)), (d, .inl (cI, 12, .inl df)), (f, .inl (cI, 12, .inl tf))] := hD
              refine lv_iinc (v := nI (i + 1)) (lv' := [(4, .int (nI (i + 1))), (5, .int (nI (24 / q))), (3, .int (nI (24 % q))), (2, .int (nI (24 / q))), (0, .ref h), (1, .int (nI q))]) hx hb dX0_spreadComma_73 hl (k := 1) rfl (show nI i + 1 = nI (i + 1) from nI_1 i) (by decide) rfl (fun ls hl => ?_)
              refine lv_goto (tgt := 19) hx hb dX0_spreadComma_76 (by decide) ?_
              exact ih19 (i + 1) (by omega) (by omega) _ _ (hP) (hD) hS _ (lv_sub hl [0, 2, 3, 4, 5] (rfl))
    exact lp19 (11 + 1) 0 (by omega) (by omega) _ _ (hP) (hD) hS _ (lv_sub hl [0, 1, 2, 3, 4] (rfl))
  · skip
    exact absurd (show (1 : Int32) ≤ nI q from nI_le (a := 1) (by omega) (by omega)) c2
set_option maxHeartbeats 4000000 in
set_option maxRecDepth 100000 in
theorem fb_c_X0_tuneOne (l : Launch) (G : va_G) (cI cL : ClassId) (h n o d f : Nat) (nf uf df tf : Nat → Int32) (w : Nat) (dy : Int32) (j : Nat) (hj : j < 1000) (sz : Nat) : fb_MI l yX0_tuneOne wsX0_tuneOne 1 22 [.ref h, .int (nI j)] G cI cL sz (fb_PW cI h n o d f nf uf df tf (nI w) dy) (fb_PW cI h n o d f nf (fb_t1 uf j) df tf (nI w) dy) (fb_tr uf j) := by
  refine fb_mi_of (cc := cX0_tuneOne) (maxL := 4) (ret := (some .int)) (by decide) rfl (Nat.le_of_ble_eq_true rfl) ?_
  intro p e s m args below meth c A hx hb hr hml hlk hts hown hP hK hD hA hX ls hl
  have hown : s.vm.findClass RX0 = some m.cls := hown
  have hP : va_P G vwCl [(h, .inr (0, [.ref n, .ref o, .ref d, .ref f, .int (nI w), .int dy])), (n, .inl (cI, 12, .inl nf)), (o, .inl (cI, 12, .inl uf)), (d, .inl (cI, 12, .inl df)), (f, .inl (cI, 12, .inl tf))] s.heap := hP
  have hD : va_D A [(h, .inr (0, [.ref n, .ref o, .ref d, .ref f, .int (nI w), .int dy])), (n, .inl (cI, 12, .inl nf)), (o, .inl (cI, 12, .inl uf)), (d, .inl (cI, 12, .inl df)), (f, .inl (cI, 12, .inl tf))] := hD
  have hS : va_S A s.heap s.heap [] := va_S.rf
  have hXn : ∀ (H : Heap) (locs : List Loc), va_S A s.heap H locs → fb_sx (fun _ => False) s H := fun H locs h9 => (hX.kept h9.2.1).narrow (fun _ z => z.elim)
  have hl : lv_has ls 4 [(0, .ref h), (1, .int (nI j))] := hl
  have hin0 : ∀ w ∈ u_ws RX0 TX0 6, w ∈ wsX0_tuneOne := by decide +kernel
  refine lv_iload_n hx hb dX0_tuneOne_0 rfl (lv_at hl 1 rfl) ?_
  refine lv_bipush (v := 12) hx hb dX0_tuneOne_1 (by decide) ?_
  refine fb_roS (As := [.int (nI j), .int 12]) (rest := []) (n := 2) ⟨hx, hb, hml, hown, hts⟩ (fb_c_J9_floorMod l (nI j) 12 (by decide)) gX0_tuneOne_J9_floorMod_7cf53 rfl (by decide +kernel) (by decide) fb_Bl_T (fun _ _ _ => trivial) rfl hl.1 rfl (Nat.le_of_ble_eq_true rfl) dX0_tuneOne_3 (by decide) ?_
  refine fb_ti (z := nI (j % 12)) (fb_fm_12 (by omega)) ?_
  refine lv_istore_n (lv' := [(2, .int (nI (j % 12))), (0, .ref h), (1, .int (nI j))]) hx hb dX0_tuneOne_6 rfl hl (by decide) rfl (fun ls hl => ?_)
  refine lv_aload_n hx hb dX0_tuneOne_7 rfl (lv_at hl 1 rfl) ?_
  refine va_get (D := G) (ci := 0) (v := .ref o) (C := RX0) (T := TX0) (N := 6) hx hb hts (hin0) hown hK hP 0 rfl rfl 1 (by decide) (hts (.fieldLink RX0 15 "FifthBeats$Piano" "off" "[I") (by decide +kernel)) (fun _ h9 => h9) rfl dX0_tuneOne_8 ?_
  refine lv_iload_n hx hb dX0_tuneOne_11 rfl (lv_at hl 0 rfl) ?_
  refine va_iald hx hb hK hP 2 0 rfl rfl (vp_in_nI (Nat.mod_lt _ (by decide)) (by decide)) dX0_tuneOne_12 ?_
  refine fb_ti (z := fb_rg uf j) (by rw [fb_cl (by omega)]; rfl) ?_
  refine lv_istore_n (lv' := [(3, .int (fb_rg uf j)), (2, .int (nI (j % 12))), (0, .ref h), (1, .int (nI j))]) hx hb dX0_tuneOne_13 rfl hl (by decide) rfl (fun ls hl => ?_)
  refine lv_aload_n hx hb dX0_tuneOne_14 rfl (lv_at hl 2 rfl) ?_
  refine va_get (D := G) (ci := 0) (v := .ref o) (C := RX0) (T := TX0) (N := 6) hx hb hts (hin0) hown hK hP 0 rfl rfl 1 (by decide) (hts (.fieldLink RX0 15 "FifthBeats$Piano" "off" "[I") (by decide +kernel)) (fun _ h9 => h9) rfl dX0_tuneOne_15 ?_
  refine lv_iload_n hx hb dX0_tuneOne_18 rfl (lv_at hl 1 rfl) ?_
  refine lv_aload_n hx hb dX0_tuneOne_19 rfl (lv_at hl 2 rfl) ?_
  refine va_get (D := G) (ci := 0) (v := .ref o) (C := RX0) (T := TX0) (N := 6) hx hb hts (hin0) hown hK hP 0 rfl rfl 1 (by decide) (hts (.fieldLink RX0 15 "FifthBeats$Piano" "off" "[I") (by decide +kernel)) (fun _ h9 => h9) rfl dX0_tuneOne_20 ?_
  refine lv_iload_n hx hb dX0_tuneOne_23 rfl (lv_at hl 1 rfl) ?_
  refine lv_iconst (v := 1) hx hb dX0_tuneOne_24 (by decide) ?_
  refine lv_isub hx hb dX0_tuneOne_25 ?_
  refine lv_bipush (v := 12) hx hb dX0_tuneOne_26 (by decide) ?_
  refine fb_roS (As := [.int ((nI (j % 12)) - 1), .int 12]) (rest := [.ref o, .int (nI (j % 12)), .ref o]) (n := 2) ⟨hx, hb, hml, hown, hts⟩ (fb_c_J9_floorMod l ((nI (j % 12)) - 1) 12 (by decide)) gX0_tuneOne_J9_floorMod_7cf53 rfl (by decide +kernel) (by decide) fb_Bl_T (fun _ _ _ => trivial) rfl hl.1 rfl (Nat.le_of_ble_eq_true rfl) dX0_tuneOne_28 (by decide) ?_
  refine fb_ti (z := nI ((j % 12 + 11) % 12)) (fb_fm_p (Nat.mod_lt _ (by decide))) ?_
  refine va_iald hx hb hK hP 2 0 rfl rfl (vp_in_nI (Nat.mod_lt _ (by decide)) (by decide)) dX0_tuneOne_31 ?_
  refine fb_ti (z := fb_rg uf (j % 12 + 11)) (by rw [fb_cl (by omega)]; rfl) ?_
  refine va_iast hx hb hK hP hD hS 2 0 rfl rfl (vp_in_nI (Nat.mod_lt _ (by decide)) (by decide)) dX0_tuneOne_32 (fun H locs hP hD hS => ?_)
  rw [show (nI (j % 12)).toNatClampNeg = (j % 12) from fb_cl (by omega)] at hP hD
  have hP : va_P G vwCl [(h, .inr (0, [.ref n, .ref o, .ref d, .ref f, .int (nI w), .int dy])), (n, .inl (cI, 12, .inl nf)), (o, .inl (cI, 12, .inl (upd uf (j % 12) (fb_rg uf (j % 12 + 11))))), (d, .inl (cI, 12, .inl df)), (f, .inl (cI, 12, .inl tf))] H := hP
  have hD : va_D A [(h, .inr (0, [.ref n, .ref o, .ref d, .ref f, .int (nI w), .int dy])), (n, .inl (cI, 12, .inl nf)), (o, .inl (cI, 12, .inl (upd uf (j % 12) (fb_rg uf (j % 12 + 11))))), (d, .inl (cI, 12, .inl df)), (f, .inl (cI, 12, .inl tf))] := hD
  refine lv_aload_n hx hb dX0_tuneOne_33 rfl (lv_at hl 2 rfl) ?_
  refine va_get (D := G) (ci := 0) (v := .ref o) (C := RX0) (T := TX0) (N := 6) hx hb hts (hin0) hown hK hP 0 rfl rfl 1 (by decide) (hts (.fieldLink RX0 15 "FifthBeats$Piano" "off" "[I") (by decide +kernel)) (fun _ h9 => h9) rfl dX0_tuneOne_34 ?_
  refine lv_iload_n hx hb dX0_tuneOne_37 rfl (lv_at hl 1 rfl) ?_
  refine va_iald hx hb hK hP 2 0 rfl rfl (vp_in_nI (Nat.mod_lt _ (by decide)) (by decide)) dX0_tuneOne_38 ?_
  refine fb_ti (z := fb_rg uf (j % 12 + 11)) (by rw [fb_cl (by omega)]; exact pk_us) ?_
  refine lv_iload_n hx hb dX0_tuneOne_39 rfl (lv_at hl 0 rfl) ?_
  refine lv_isub hx hb dX0_tuneOne_40 ?_
  have hP9 := hP.sub (ws' := [(h, .inr (0, [.ref n, .ref o, .ref d, .ref f, .int (nI w), .int dy])), (n, .inl (cI, 12, .inl nf)), (o, .inl (cI, 12, .inl (fb_t1 uf j))), (d, .inl (cI, 12, .inl df)), (f, .inl (cI, 12, .inl tf))]) [0, 1, 2, 3, 4] (rfl)
  have hD9 := hD.sub (ws' := [(h, .inr (0, [.ref n, .ref o, .ref d, .ref f, .int (nI w), .int dy])), (n, .inl (cI, 12, .inl nf)), (o, .inl (cI, 12, .inl (fb_t1 uf j))), (d, .inl (cI, 12, .inl df)), (f, .inl (cI, 12, .inl tf))]) [0, 1, 2, 3, 4] (by decide) (rfl)
  exact W.iret (v := (fb_rg uf (j % 12 + 11)) - (fb_rg uf j)) hx hb hr (fun t ht hW => ⟨⟨(fb_rg uf (j % 12 + 11)) - (fb_rg uf j), (), rfl, rfl, by rw [ht]; exact hP9, hD9⟩, hS.F ht⟩) hS.2.2 dX0_tuneOne_41 hlk
set_option maxHeartbeats 4000000 in
set_option maxRecDepth 100000 in
theorem fb_c_X0_tuneRound (l : Launch) (G : va_G) (cI cL : ClassId) (h n o d f : Nat) (nf uf df tf : Nat → Int32) (w : Nat) (dy : Int32) (hw : w < 12) (sz : Nat) : fb_MI l yX0_tuneRound wsX0_tuneRound 2 45 [.ref h] G cI cL sz (fb_PW cI h n o d f nf uf df tf (nI w) dy) (fb_PW cI h n o d f nf (fb_tu uf w 11) df tf (nI w) dy) (fb_tc uf w 11) := by
  refine fb_mi_of (cc := cX0_tuneRound) (maxL := 3) (ret := (some .int)) (by decide) rfl (Nat.le_of_ble_eq_true rfl) ?_
  intro p e s m args below meth c A hx hb hr hml hlk hts hown hP hK hD hA hX ls hl
  have hown : s.vm.findClass RX0 = some m.cls := hown
  have hP : va_P G vwCl [(h, .inr (0, [.ref n, .ref o, .ref d, .ref f, .int (nI w), .int dy])), (n, .inl (cI, 12, .inl nf)), (o, .inl (cI, 12, .inl uf)), (d, .inl (cI, 12, .inl df)), (f, .inl (cI, 12, .inl tf))] s.heap := hP
  have hD : va_D A [(h, .inr (0, [.ref n, .ref o, .ref d, .ref f, .int (nI w), .int dy])), (n, .inl (cI, 12, .inl nf)), (o, .inl (cI, 12, .inl uf)), (d, .inl (cI, 12, .inl df)), (f, .inl (cI, 12, .inl tf))] := hD
  have hS : va_S A s.heap s.heap [] := va_S.rf
  have hXn : ∀ (H : Heap) (locs : List Loc), va_S A s.heap H locs → fb_sx (fun _ => False) s H := fun H locs h9 => (hX.kept h9.2.1).narrow (fun _ z => z.elim)
  have hl : lv_has ls 3 [(0, .ref h)] := hl
  have hin0 : ∀ w ∈ u_ws RX0 TX0 6, w ∈ wsX0_tuneRound := by decide +kernel
  refine lv_iconst (v := 0) hx hb dX0_tuneRound_0 (by decide) ?_
  refine lv_istore_n (lv' := [(1, .int 0), (0, .ref h)]) hx hb dX0_tuneRound_1 rfl hl (by decide) rfl (fun ls hl => ?_)
  refine lv_iconst (v := 2) hx hb dX0_tuneRound_2 (by decide) ?_
  refine lv_istore_n (lv' := [(2, .int 2), (1, .int 0), (0, .ref h)]) hx hb dX0_tuneRound_3 rfl hl (by decide) rfl (fun ls hl => ?_)
  have lp4 : ∀ (n9 i : Nat), i ≤ 11 → 11 < i + n9 → ∀ (H : Heap) (locs : List Loc), va_P G vwCl [(h, .inr (0, [.ref n, .ref o, .ref d, .ref f, .int (nI w), .int dy])), (n, .inl (cI, 12, .inl nf)), (o, .inl (cI, 12, .inl (fb_tu uf w i))), (d, .inl (cI, 12, .inl df)), (f, .inl (cI, 12, .inl tf))] H → va_D A [(h, .inr (0, [.ref n, .ref o, .ref d, .ref f, .int (nI w), .int dy])), (n, .inl (cI, 12, .inl nf)), (o, .inl (cI, 12, .inl (fb_tu uf w i))), (d, .inl (cI, 12, .inl df)), (f, .inl (cI, 12, .inl tf))] → va_S A s.heap H locs → ∀ ls : Array Slot, lv_has ls 3 [(2, .int (nI (2 + i))), (1, .int (fb_tc uf w i)), (0, .ref h)] → W p l e ({ frames := 2, cells := 0, slots := 0, locals := 45 }) s m args below meth c H locs 0 0 (MQ below (va_Qi (fun (r : Int32) (_ : Unit) => r = (fb_tc uf w 11)) (fun _ t => va_P G vwCl (fb_PW cI h n o d f nf (fb_tu uf w 11) df tf (nI w) dy) t.heap ∧ va_D A (fb_PW cI h n o d f nf (fb_tu uf w 11) df tf (nI w) dy)) A) args s 0 0 A) (F0 m 4 ls []) := by
    intro n9
    induction n9 with
    | zero => intro i h1 h2; exact absurd h2 (by omega)
    | succ n9 ih4 =>
      intro i hi_i hin9 H locs hP hD hS ls hl
      refine lv_iload_n hx hb dX0_tuneRound_4 rfl (lv_at hl 0 rfl) ?_
      refine lv_bipush (v := 12) hx hb dX0_tuneRound_5 (by decide) ?_
      refine lv_icmp_gt (tgt := 32) hx hb dX0_tuneRound_7 (by decide) (fun c7 => ?_) (fun c7 => ?_)
      · skip
        have hxi : 12 < 2 + i := (nI_ltI (by decide) (by omega)).mp c7
        obtain rfl : i = 11 := by omega
        refine lv_iload_n hx hb dX0_tuneRound_32 rfl (lv_at hl 1 rfl) ?_
        have hP9 := hP.sub (ws' := [(h, .inr (0, [.ref n, .ref o, .ref d, .ref f, .int (nI w), .int dy])), (n, .inl (cI, 12, .inl nf)), (o, .inl (cI, 12, .inl (fb_tu uf w 11))), (d, .inl (cI, 12, .inl df)), (f, .inl (cI, 12, .inl tf))]) [0, 1, 2, 3, 4] (rfl)
        have hD9 := hD.sub (ws' := [(h, .inr (0, [.ref n, .ref o, .ref d, .ref f, .int (nI w), .int dy])), (n, .inl (cI, 12, .inl nf)), (o, .inl (cI, 12, .inl (fb_tu uf w 11))), (d, .inl (cI, 12, .inl df)), (f, .inl (cI, 12, .inl tf))]) [0, 1, 2, 3, 4] (by decide) (rfl)
        exact W.iret (v := fb_tc uf w 11) hx hb hr (fun t ht hW => ⟨⟨fb_tc uf w 11, (), rfl, rfl, by rw [ht]; exact hP9, hD9⟩, hS.F ht⟩) hS.2.2 dX0_tuneRound_33 hlk
      · skip
        have h7 : 2 + i ≤ 12 := Nat.le_of_not_lt (fun z => c7 (nI_lt z (by omega)))
        refine lv_aload_n hx hb dX0_tuneRound_10 rfl (lv_at hl 2 rfl) ?_
        refine lv_aload_n hx hb dX0_tuneRound_11 rfl (lv_at hl 2 rfl) ?_
        refine va_get (D := G) (ci := 0) (v := .int (nI w)) (C := RX0) (T := TX0) (N := 6) hx hb hts (hin0) hown hK hP 0 rfl rfl 4 (by decide) (hts (.fieldLink RX0 24 "FifthBeats$Piano" "wolf" "I") (by decide +kernel)) (fun _ h9 => h9) rfl dX0_tuneRound_12 ?_
        refine lv_iload_n hx hb dX0_tuneRound_15 rfl (lv_at hl 0 rfl) ?_
        refine lv_iadd hx hb dX0_tuneRound_16 ?_
        refine fb_ti (z := nI (w + (2 + i))) (nI_add w (2 + i)) ?_
        refine fb_miV (As := [.int (nI (w + (2 + i)))]) (rest := []) (n := 1) (wr := []) (wz := [(h, .inr (0, [.ref n, .ref o, .ref d, .ref f, .int (nI w), .int dy])), (n, .inl (cI, 12, .inl nf)), (o, .inl (cI, 12, .inl (fb_t1 (fb_tu uf w i) (w + (2 + i))))), (d, .inl (cI, 12, .inl df)), (f, .inl (cI, 12, .inl tf))]) ⟨hx, hb, hml, hown, hts⟩ (fb_c_X0_tuneOne l G cI cL h n o d f nf (fb_tu uf w i) df tf w dy (w + (2 + i)) (by omega) _) gX0_tuneRound_X0_tuneOne rfl (by decide +kernel) (by decide) (va_recv hK hP (ci := 0) (q0 := 0) rfl rfl) hP hK hD hS hA hX [0, 1, 2, 3, 4] [] [0, 1, 2, 3, 4] rfl rfl rfl rfl rfl rfl (by decide) rfl hl.1 rfl (Nat.le_of_ble_eq_true rfl) dX0_tuneRound_17 (by decide) (fun H locs hP hD hS => ?_)
        refine lv_if_eq (tgt := 26) hx hb dX0_tuneRound_20 (by decide) (fun c20 => ?_) (fun c20 => ?_)
        · skip
          have hl : lv_has ls 3 [(2, .int (nI (2 + i))), (1, .int (fb_tc uf w (i + 1))), (0, .ref h)] := lv_sub hl [0, 1, 2] (by rw [show fb_tc uf w i = fb_tc uf w (i + 1) from (if_pos c20).symm]; rfl)
          refine lv_iinc (v := nI (2 + (i + 1))) (lv' := [(2, .int (nI (2 + (i + 1)))), (1, .int (fb_tc uf w (i + 1))), (0, .ref h)]) hx hb dX0_tuneRound_26 hl (k := 0) rfl (show nI (2 + i) + 1 = nI (2 + (i + 1)) from nI_1 (2 + i)) (by decide) rfl (fun ls hl => ?_)
          refine lv_goto (tgt := 4) hx hb dX0_tuneRound_29 (by decide) ?_
          exact ih4 (i + 1) (by omega) (by omega) _ _ (hP) (hD) hS _ (lv_sub hl [0, 1, 2] (rfl))
        · skip
          refine lv_iinc (v := fb_tc uf w (i + 1)) (lv' := [(1, .int (fb_tc uf w (i + 1))), (2, .int (nI (2 + i))), (0, .ref h)]) hx hb dX0_tuneRound_23 hl (k := 1) rfl ((if_neg c20).symm) (by decide) rfl (fun ls hl => ?_)
          refine lv_iinc (v := nI (2 + (i + 1))) (lv' := [(2, .int (nI (2 + (i + 1)))), (1, .int (fb_tc uf w (i + 1))), (0, .ref h)]) hx hb dX0_tuneRound_26 hl (k := 1) rfl (show nI (2 + i) + 1 = nI (2 + (i + 1)) from nI_1 (2 + i)) (by decide) rfl (fun ls hl => ?_)
          refine lv_goto (tgt := 4) hx hb dX0_tuneRound_29 (by decide) ?_
          exact ih4 (i + 1) (by omega) (by omega) _ _ (hP) (hD) hS _ (lv_sub hl [0, 1, 2] (rfl))
  exact lp4 (11 + 1) 0 (by omega) (by omega) _ _ (hP) (hD) hS _ (lv_sub hl [0, 1, 2] (rfl))
set_option maxHeartbeats 4000000 in
set_option maxRecDepth 100000 in
theorem fb_c_X0_letPass (l : Launch) (G : va_G) (cI cL : ClassId) (h n o d f : Nat) (nf uf df tf : Nat → Int32) (w : Nat) (dy : Int32) (q : Nat) (hq : q < 1000) (sz : Nat) : fb_MV l yX0_letPass wsX0_letPass 1 21 [.ref h, .int (nI q)] G cI cL sz (fb_PW cI h n o d f nf uf df tf (nI w) dy) (fb_PW cI h n o d f nf (fb_dy df uf q) df tf (nI w) (dy + nI q)) := by
  refine fb_mv_of (cc := cX0_letPass) (maxL := 4) (ret := none) (by decide) rfl (Nat.le_of_ble_eq_true rfl) ?_
  intro p e s m args below meth c A hx hb hr hml hlk hts hown hP hK hD hA hX ls hl
  have hown : s.vm.findClass RX0 = some m.cls := hown
  have hP : va_P G vwCl [(h, .inr (0, [.ref n, .ref o, .ref d, .ref f, .int (nI w), .int dy])), (n, .inl (cI, 12, .inl nf)), (o, .inl (cI, 12, .inl uf)), (d, .inl (cI, 12, .inl df)), (f, .inl (cI, 12, .inl tf))] s.heap := hP
  have hD : va_D A [(h, .inr (0, [.ref n, .ref o, .ref d, .ref f, .int (nI w), .int dy])), (n, .inl (cI, 12, .inl nf)), (o, .inl (cI, 12, .inl uf)), (d, .inl (cI, 12, .inl df)), (f, .inl (cI, 12, .inl tf))] := hD
  have hS : va_S A s.heap s.heap [] := va_S.rf
  have hXn : ∀ (H : Heap) (locs : List Loc), va_S A s.heap H locs → fb_sx (fun _ => False) s H := fun H locs h9 => (hX.kept h9.2.1).narrow (fun _ z => z.elim)
  have hl : lv_has ls 4 [(0, .ref h), (1, .int (nI q))] := hl
  have hin0 : ∀ w ∈ u_ws RX0 TX0 6, w ∈ wsX0_letPass := by decide +kernel
  refine lv_iconst (v := 0) hx hb dX0_letPass_0 (by decide) ?_
  refine lv_istore_n (lv' := [(2, .int 0), (0, .ref h), (1, .int (nI q))]) hx hb dX0_letPass_1 rfl hl (by decide) rfl (fun ls hl => ?_)
  have lp2 : ∀ (n9 i : Nat), i ≤ q → q < i + n9 → ∀ (H : Heap) (locs : List Loc), va_P G vwCl [(h, .inr (0, [.ref n, .ref o, .ref d, .ref f, .int (nI w), .int (dy + nI i)])), (n, .inl (cI, 12, .inl nf)), (o, .inl (cI, 12, .inl (fb_dy df uf i))), (d, .inl (cI, 12, .inl df)), (f, .inl (cI, 12, .inl tf))] H → va_D A [(h, .inr (0, [.ref n, .ref o, .ref d, .ref f, .int (nI w), .int (dy + nI i)])), (n, .inl (cI, 12, .inl nf)), (o, .inl (cI, 12, .inl (fb_dy df uf i))), (d, .inl (cI, 12, .inl df)), (f, .inl (cI, 12, .inl tf))] → va_S A s.heap H locs → ∀ ls : Array Slot, lv_has ls 4 [(2, .int (nI i)), (0, .ref h), (1, .int (nI q))] → W p l e ({ frames := 1, cells := 0, slots := 0, locals := 21 }) s m args below meth c H locs 0 0 (MQ below (va_Qv (fun _ : Unit => True) (fun _ t => va_P G vwCl (fb_PW cI h n o d f nf (fb_dy df uf q) df tf (nI w) (dy + nI q)) t.heap ∧ va_D A (fb_PW cI h n o d f nf (fb_dy df uf q) df tf (nI w) (dy + nI q))) A) args s 0 0 A) (F0 m 2 ls []) := by
    intro n9
    induction n9 with
    | zero => intro i h1 h2; exact absurd h2 (by omega)
    | succ n9 ih2 =>
      intro i hi_i hin9 H locs hP hD hS ls hl
      refine lv_iload_n hx hb dX0_letPass_2 rfl (lv_at hl 0 rfl) ?_
      refine lv_iload_n hx hb dX0_letPass_3 rfl (lv_at hl 2 rfl) ?_
      refine lv_icmp_ge (tgt := 66) hx hb dX0_letPass_4 (by decide) (fun c4 => ?_) (fun c4 => ?_)
      · skip
        have hxi : q = i := (fb_lp_ex (by omega) hi_i c4).symm
        subst hxi
        have hP9 := hP.sub (ws' := [(h, .inr (0, [.ref n, .ref o, .ref d, .ref f, .int (nI w), .int (dy + nI q)])), (n, .inl (cI, 12, .inl nf)), (o, .inl (cI, 12, .inl (fb_dy df uf q))), (d, .inl (cI, 12, .inl df)), (f, .inl (cI, 12, .inl tf))]) [0, 1, 2, 3, 4] (rfl)
        have hD9 := hD.sub (ws' := [(h, .inr (0, [.ref n, .ref o, .ref d, .ref f, .int (nI w), .int (dy + nI q)])), (n, .inl (cI, 12, .inl nf)), (o, .inl (cI, 12, .inl (fb_dy df uf q))), (d, .inl (cI, 12, .inl df)), (f, .inl (cI, 12, .inl tf))]) [0, 1, 2, 3, 4] (by decide) (rfl)
        exact W.vret hx hb hr (fun t ht hW => ⟨⟨(), rfl, trivial, by rw [ht]; exact hP9, hD9⟩, hS.F ht⟩) hS.2.2 dX0_letPass_66 hlk
      · skip
        have hi12 : i < q := fb_lp_in (by omega) hi_i c4
        refine lv_iconst (v := 0) hx hb dX0_letPass_7 (by decide) ?_
        refine lv_istore_n (lv' := [(3, .int 0), (2, .int (nI i)), (0, .ref h), (1, .int (nI q))]) hx hb dX0_letPass_8 rfl hl (by decide) rfl (fun ls hl => ?_)
        have lp9 : ∀ (n9 k : Nat), k ≤ 12 → 12 < k + n9 → ∀ (H : Heap) (locs : List Loc), va_P G vwCl [(h, .inr (0, [.ref n, .ref o, .ref d, .ref f, .int (nI w), .int (dy + nI i)])), (n, .inl (cI, 12, .inl nf)), (o, .inl (cI, 12, .inl (fb_pa df (fb_dy df uf i) k))), (d, .inl (cI, 12, .inl df)), (f, .inl (cI, 12, .inl tf))] H → va_D A [(h, .inr (0, [.ref n, .ref o, .ref d, .ref f, .int (nI w), .int (dy + nI i)])), (n, .inl (cI, 12, .inl nf)), (o, .inl (cI, 12, .inl (fb_pa df (fb_dy df uf i) k))), (d, .inl (cI, 12, .inl df)), (f, .inl (cI, 12, .inl tf))] → va_S A s.heap H locs → ∀ ls : Array Slot, lv_has ls 4 [(3, .int (nI k)), (2, .int (nI i)), (0, .ref h), (1, .int (nI q))] → W p l e ({ frames := 1, cells := 0, slots := 0, locals := 21 }) s m args below meth c H locs 0 0 (MQ below (va_Qv (fun _ : Unit => True) (fun _ t => va_P G vwCl (fb_PW cI h n o d f nf (fb_dy df uf q) df tf (nI w) (dy + nI q)) t.heap ∧ va_D A (fb_PW cI h n o d f nf (fb_dy df uf q) df tf (nI w) (dy + nI q))) A) args s 0 0 A) (F0 m 9 ls []) := by
          intro n9
          induction n9 with
          | zero => intro k h1 h2; exact absurd h2 (by omega)
          | succ n9 ih9 =>
            intro k hi_k hin9 H locs hP hD hS ls hl
            refine lv_iload_n hx hb dX0_letPass_9 rfl (lv_at hl 0 rfl) ?_
            refine lv_bipush (v := 12) hx hb dX0_letPass_10 (by decide) ?_
            refine lv_icmp_ge (tgt := 50) hx hb dX0_letPass_12 (by decide) (fun c12 => ?_) (fun c12 => ?_)
            · skip
              have hxk : k = 12 := fb_lp_ex (by decide) hi_k c12
              subst hxk
              refine lv_aload_n hx hb dX0_letPass_50 rfl (lv_at hl 2 rfl) ?_
              refine lv_dup hx hb dX0_letPass_51 rfl ?_
              refine va_get (D := G) (ci := 0) (v := .int (dy + nI i)) (C := RX0) (T := TX0) (N := 6) hx hb hts (hin0) hown hK hP 0 rfl rfl 5 (by decide) (hts (.fieldLink RX0 28 "FifthBeats$Piano" "day" "I") (by decide +kernel)) (fun _ h9 => h9) rfl dX0_letPass_52 ?_
              refine lv_iconst (v := 1) hx hb dX0_letPass_55 (by decide) ?_
              refine lv_iadd hx hb dX0_letPass_56 ?_
              refine fb_ti (z := dy + nI (i + 1)) (by rw [nI_succ, Int32.add_assoc]) ?_
              refine va_put (D := G) (ci := 0) (v := .int (dy + nI (i + 1))) (ty := .int) (C := RX0) (T := TX0) (N := 6) hx hb hts (hin0) tyX0 tyX0_ok nmX0 hown hK hP hD hS 0 rfl rfl 5 (by decide) (hts (.fieldLink RX0 28 "FifthBeats$Piano" "day" "I") (by decide +kernel)) (fun _ h9 => h9) rfl (by decide +kernel) rfl rfl (Nat.le_of_ble_eq_true rfl) dX0_letPass_57 (fun H locs hP hD hS => ?_)
              have hP : va_P G vwCl [(h, .inr (0, [.ref n, .ref o, .ref d, .ref f, .int (nI w), .int (dy + nI (i + 1))])), (n, .inl (cI, 12, .inl nf)), (o, .inl (cI, 12, .inl (fb_pa df (fb_dy df uf i) 12))), (d, .inl (cI, 12, .inl df)), (f, .inl (cI, 12, .inl tf))] H := hP
              have hD : va_D A [(h, .inr (0, [.ref n, .ref o, .ref d, .ref f, .int (nI w), .int (dy + nI (i + 1))])), (n, .inl (cI, 12, .inl nf)), (o, .inl (cI, 12, .inl (fb_pa df (fb_dy df uf i) 12))), (d, .inl (cI, 12, .inl df)), (f, .inl (cI, 12, .inl tf))] := hD
              refine lv_iinc (v := nI (i + 1)) (lv' := [(2, .int (nI (i + 1))), (3, .int (nI 12)), (0, .ref h), (1, .int (nI q))]) hx hb dX0_letPass_60 hl (k := 1) rfl (show nI i + 1 = nI (i + 1) from nI_1 i) (by decide) rfl (fun ls hl => ?_)
              refine lv_goto (tgt := 2) hx hb dX0_letPass_63 (by decide) ?_
              exact ih2 (i + 1) (by omega) (by omega) _ _ (hP) (hD) hS _ (lv_sub hl [0, 2, 3] (rfl))
            · skip
              have hk12 : k < 12 := fb_lp_in (by decide) hi_k c12
              refine lv_aload_n hx hb dX0_letPass_15 rfl (lv_at hl 2 rfl) ?_
              refine va_get (D := G) (ci := 0) (v := .ref o) (C := RX0) (T := TX0) (N := 6) hx hb hts (hin0) hown hK hP 0 rfl rfl 1 (by decide) (hts (.fieldLink RX0 15 "FifthBeats$Piano" "off" "[I") (by decide +kernel)) (fun _ h9 => h9) rfl dX0_letPass_16 ?_
              refine lv_iload_n hx hb dX0_letPass_19 rfl (lv_at hl 0 rfl) ?_
              refine lv_bipush (v := (-50)) hx hb dX0_letPass_20 (by decide) ?_
              refine lv_bipush (v := 50) hx hb dX0_letPass_22 (by decide) ?_
              refine lv_aload_n hx hb dX0_letPass_24 rfl (lv_at hl 2 rfl) ?_
              refine va_get (D := G) (ci := 0) (v := .ref o) (C := RX0) (T := TX0) (N := 6) hx hb hts (hin0) hown hK hP 0 rfl rfl 1 (by decide) (hts (.fieldLink RX0 15 "FifthBeats$Piano" "off" "[I") (by decide +kernel)) (fun _ h9 => h9) rfl dX0_letPass_25 ?_
              refine lv_iload_n hx hb dX0_letPass_28 rfl (lv_at hl 0 rfl) ?_
              refine va_iald hx hb hK hP 2 0 rfl rfl (vp_in_nI hk12 (by decide)) dX0_letPass_29 ?_
              refine fb_ti (z := fb_dy df uf i k) (by rw [fb_cl (by omega)]; exact if_neg (Nat.lt_irrefl _)) ?_
              refine lv_aload_n hx hb dX0_letPass_30 rfl (lv_at hl 2 rfl) ?_
              refine va_get (D := G) (ci := 0) (v := .ref d) (C := RX0) (T := TX0) (N := 6) hx hb hts (hin0) hown hK hP 0 rfl rfl 2 (by decide) (hts (.fieldLink RX0 18 "FifthBeats$Piano" "drift" "[I") (by decide +kernel)) (fun _ h9 => h9) rfl dX0_letPass_31 ?_
              refine lv_iload_n hx hb dX0_letPass_34 rfl (lv_at hl 0 rfl) ?_
              refine va_iald hx hb hK hP 3 0 rfl rfl (vp_in_nI hk12 (by decide)) dX0_letPass_35 ?_
              refine fb_ti (z := df k) (by rw [fb_cl (by omega)]) ?_
              refine lv_iadd hx hb dX0_letPass_36 ?_
              refine va_mmin hx hb (hml.trans hl.1.symm) hown (hts (.methodLink RX0 47 Lib.Math.min.name) (by decide +kernel)) (hts (.static Lib.Math.min.name) (by decide +kernel)) (hts (.initialized "java/lang/Math") (by decide +kernel)) (hts (.code Lib.Math.min.name Lib.Math.min.code 2 (some .int)) (by decide +kernel)) (Nat.le_of_ble_eq_true rfl) (Nat.le_of_ble_eq_true rfl) (Nat.zero_le _) (Nat.zero_le _) dX0_letPass_37 ?_
              refine fb_ti (z := fb_mn 50 ((fb_dy df uf i k) + (df k))) rfl ?_
              refine va_mmax hx hb (hml.trans hl.1.symm) hown (hts (.methodLink RX0 50 Lib.Math.max.name) (by decide +kernel)) (hts (.static Lib.Math.max.name) (by decide +kernel)) (hts (.initialized "java/lang/Math") (by decide +kernel)) (hts (.code Lib.Math.max.name Lib.Math.max.code 2 (some .int)) (by decide +kernel)) (Nat.le_of_ble_eq_true rfl) (Nat.le_of_ble_eq_true rfl) (Nat.zero_le _) (Nat.zero_le _) dX0_letPass_40 ?_
              refine fb_ti (z := fb_mx (-50) (fb_mn 50 ((fb_dy df uf i k) + (df k)))) rfl ?_
              refine va_iast hx hb hK hP hD hS 2 0 rfl rfl (vp_in_nI hk12 (by decide)) dX0_letPass_43 (fun H locs hP hD hS => ?_)
              rw [show (nI k).toNatClampNeg = k from fb_cl (by omega)] at hP hD
              rw [show upd (fb_pa df (fb_dy df uf i) k) k (fb_mx (-50) (fb_mn 50 ((fb_dy df uf i k) + (df k)))) = fb_pa df (fb_dy df uf i) (k + 1) from fb_pa_s df (fb_dy df uf i) k] at hP hD
              have hP : va_P G vwCl [(h, .inr (0, [.ref n, .ref o, .ref d, .ref f, .int (nI w), .int (dy + nI i)])), (n, .inl (cI, 12, .inl nf)), (o, .inl (cI, 12, .inl (fb_pa df (fb_dy df uf i) (k + 1)))), (d, .inl (cI, 12, .inl df)), (f, .inl (cI, 12, .inl tf))] H := hP
              have hD : va_D A [(h, .inr (0, [.ref n, .ref o, .ref d, .ref f, .int (nI w), .int (dy + nI i)])), (n, .inl (cI, 12, .inl nf)), (o, .inl (cI, 12, .inl (fb_pa df (fb_dy df uf i) (k + 1)))), (d, .inl (cI, 12, .inl df)), (f, .inl (cI, 12, .inl tf))] := hD
              refine lv_iinc (v := nI (k + 1)) (lv' := [(3, .int (nI (k + 1))), (2, .int (nI i)), (0, .ref h), (1, .int (nI q))]) hx hb dX0_letPass_44 hl (k := 0) rfl (show nI k + 1 = nI (k + 1) from nI_1 k) (by decide) rfl (fun ls hl => ?_)
              refine lv_goto (tgt := 9) hx hb dX0_letPass_47 (by decide) ?_
              exact ih9 (k + 1) (by omega) (by omega) _ _ (hP) (hD) hS _ (lv_sub hl [0, 1, 2, 3] (rfl))
        exact lp9 (12 + 1) 0 (by omega) (by omega) _ _ (by rw [fb_pa_0]; exact hP) (by rw [fb_pa_0]; exact hD) hS _ (lv_sub hl [0, 1, 2, 3] (rfl))
  exact lp2 (q + 1) 0 (by omega) (by omega) _ _ (by rw [show dy + nI 0 = dy from fb_a0 dy]; exact hP) (by rw [show dy + nI 0 = dy from fb_a0 dy]; exact hD) hS _ (lv_sub hl [0, 1, 2] (rfl))
