set_option maxHeartbeats 4000000 in
set_option maxRecDepth 100000 in
theorem fb_c_X2_isIn (l : Launch) (v : Int32) (a : Int32) (z : Int32) : fb_RO l yX2_isIn wsX2_isIn 0 0 [.int v, .int a, .int z] (fun _ => True) (.int (fb_ii v a z)) := by
  refine fb_ro_of (cc := cX2_isIn) (maxL := 3) (ret := (some .boolean)) (by decide) rfl (Nat.le_of_ble_eq_true rfl) ?_
  intro p e s m args below meth c hx hb hr hml hlk hts hown hB ls hl
  have hown : s.vm.findClass RX2 = some m.cls := hown
  have hl : lv_has ls 3 [(0, .int v), (1, .int a), (2, .int z)] := hl
  refine lv_iload_n hx hb dX2_isIn_0 rfl (lv_at hl 0 rfl) ?_
  refine lv_iload_n hx hb dX2_isIn_1 rfl (lv_at hl 1 rfl) ?_
  refine lv_icmp_lt (tgt := 14) hx hb dX2_isIn_2 (by decide) (fun c2 => ?_) (fun c2 => ?_)
  · skip
    refine lv_iconst (v := 0) hx hb dX2_isIn_14 (by decide) ?_
    exact fb_zret hx hb hr hlk dX2_isIn_15 (by decide) ((if_pos (Or.inl c2)).symm)
  · skip
    refine lv_iload_n hx hb dX2_isIn_5 rfl (lv_at hl 0 rfl) ?_
    refine lv_iload_n hx hb dX2_isIn_6 rfl (lv_at hl 2 rfl) ?_
    refine lv_icmp_gt (tgt := 14) hx hb dX2_isIn_7 (by decide) (fun c7 => ?_) (fun c7 => ?_)
    · skip
      refine lv_iconst (v := 0) hx hb dX2_isIn_14 (by decide) ?_
      exact fb_zret hx hb hr hlk dX2_isIn_15 (by decide) ((if_pos (Or.inr c7)).symm)
    · skip
      refine lv_iconst (v := 1) hx hb dX2_isIn_10 (by decide) ?_
      refine lv_goto (tgt := 15) hx hb dX2_isIn_11 (by decide) ?_
      exact fb_zret hx hb hr hlk dX2_isIn_15 (by decide) ((if_neg (fun q => q.elim c2 c7)).symm)
set_option maxHeartbeats 4000000 in
set_option maxRecDepth 100000 in
theorem fb_c_X2_isOne (l : Launch) (v : Int32) : fb_RO l yX2_isOne wsX2_isOne 1 22 [.int v] (fun _ => True) (.int (fb_ii v 0 11)) := by
  refine fb_ro_of (cc := cX2_isOne) (maxL := 1) (ret := (some .boolean)) (by decide) rfl (Nat.le_of_ble_eq_true rfl) ?_
  intro p e s m args below meth c hx hb hr hml hlk hts hown hB ls hl
  have hown : s.vm.findClass RX2 = some m.cls := hown
  have hl : lv_has ls 1 [(0, .int v)] := hl
  refine lv_iload_n hx hb dX2_isOne_0 rfl (lv_at hl 0 rfl) ?_
  refine lv_iconst (v := 0) hx hb dX2_isOne_1 (by decide) ?_
  refine lv_bipush (v := 11) hx hb dX2_isOne_2 (by decide) ?_
  refine fb_roS (As := [.int v, .int 0, .int 11]) (rest := []) (n := 3) ⟨hx, hb, hml, hown, hts⟩ (fb_c_X2_isIn l v 0 11) gX2_isOne_X2_isIn rfl (by decide +kernel) (by decide) fb_Bl_T (fun _ _ _ => trivial) rfl hl.1 rfl (Nat.le_of_ble_eq_true rfl) dX2_isOne_4 (by decide) ?_
  exact fb_zret hx hb hr hlk dX2_isOne_7 (fb_ii_b v 0 11) (rfl)
set_option maxHeartbeats 4000000 in
set_option maxRecDepth 100000 in
theorem fb_c_X2_held (l : Launch) (v : Int32) : fb_RO l yX2_held wsX2_held 1 21 [.int v] (fun _ => True) (.int (fb_hd v)) := by
  refine fb_ro_of (cc := cX2_held) (maxL := 1) (ret := (some .int)) (by decide) rfl (Nat.le_of_ble_eq_true rfl) ?_
  intro p e s m args below meth c hx hb hr hml hlk hts hown hB ls hl
  have hown : s.vm.findClass RX2 = some m.cls := hown
  have hl : lv_has ls 1 [(0, .int v)] := hl
  refine lv_bipush (v := (-50)) hx hb dX2_held_0 (by decide) ?_
  refine lv_bipush (v := 50) hx hb dX2_held_2 (by decide) ?_
  refine lv_iload_n hx hb dX2_held_4 rfl (lv_at hl 0 rfl) ?_
  refine va_mmin hx hb (hml.trans hl.1.symm) hown (hts (.methodLink RX2 33 Lib.Math.min.name) (by decide +kernel)) (hts (.static Lib.Math.min.name) (by decide +kernel)) (hts (.initialized "java/lang/Math") (by decide +kernel)) (hts (.code Lib.Math.min.name Lib.Math.min.code 2 (some .int)) (by decide +kernel)) (Nat.le_of_ble_eq_true rfl) (Nat.le_of_ble_eq_true rfl) (Nat.zero_le _) (Nat.zero_le _) dX2_held_5 ?_
  refine fb_ti (z := fb_mn 50 v) rfl ?_
  refine va_mmax hx hb (hml.trans hl.1.symm) hown (hts (.methodLink RX2 39 Lib.Math.max.name) (by decide +kernel)) (hts (.static Lib.Math.max.name) (by decide +kernel)) (hts (.initialized "java/lang/Math") (by decide +kernel)) (hts (.code Lib.Math.max.name Lib.Math.max.code 2 (some .int)) (by decide +kernel)) (Nat.le_of_ble_eq_true rfl) (Nat.le_of_ble_eq_true rfl) (Nat.zero_le _) (Nat.zero_le _) dX2_held_8 ?_
  refine fb_ti (z := fb_mx (-50) (fb_mn 50 v)) rfl ?_
  exact fb_iret hx hb hr hlk dX2_held_11 (rfl)
set_option maxHeartbeats 4000000 in
set_option maxRecDepth 100000 in
theorem fb_c_X2_keyOf (l : Launch) (j : Nat) (hj : j < 1000) : fb_RO l yX2_keyOf wsX2_keyOf 0 0 [.int (nI j)] (fun _ => True) (.int (nI (7 * j % 12))) := by
  refine fb_ro_of (cc := cX2_keyOf) (maxL := 1) (ret := (some .int)) (by decide) rfl (Nat.le_of_ble_eq_true rfl) ?_
  intro p e s m args below meth c hx hb hr hml hlk hts hown hB ls hl
  have hown : s.vm.findClass RX2 = some m.cls := hown
  have hl : lv_has ls 1 [(0, .int (nI j))] := hl
  refine lv_bipush (v := 7) hx hb dX2_keyOf_0 (by decide) ?_
  refine lv_iload_n hx hb dX2_keyOf_2 rfl (lv_at hl 0 rfl) ?_
  refine lv_imul hx hb dX2_keyOf_3 ?_
  refine fb_ti (z := nI (7 * j)) (pk_mul 7 j) ?_
  refine lv_bipush (v := 12) hx hb dX2_keyOf_4 (by decide) ?_
  refine lv_irem hx hb dX2_keyOf_6 (by decide) ?_
  refine fb_ti (z := nI ((7 * j) % 12)) (fb_rm_12 (by omega)) ?_
  exact fb_iret hx hb hr hlk dX2_keyOf_7 (rfl)
set_option maxHeartbeats 4000000 in
set_option maxRecDepth 100000 in
theorem fb_c_X2_ahead (l : Launch) (j : Nat) (hj : j < 1000) : fb_RO l yX2_ahead wsX2_ahead 0 0 [.int (nI j)] (fun _ => True) (.int (nI ((j + 11) % 12))) := by
  refine fb_ro_of (cc := cX2_ahead) (maxL := 1) (ret := (some .int)) (by decide) rfl (Nat.le_of_ble_eq_true rfl) ?_
  intro p e s m args below meth c hx hb hr hml hlk hts hown hB ls hl
  have hown : s.vm.findClass RX2 = some m.cls := hown
  have hl : lv_has ls 1 [(0, .int (nI j))] := hl
  refine lv_iload_n hx hb dX2_ahead_0 rfl (lv_at hl 0 rfl) ?_
  refine lv_bipush (v := 12) hx hb dX2_ahead_1 (by decide) ?_
  refine lv_iadd hx hb dX2_ahead_3 ?_
  refine fb_ti (z := nI (j + 12)) (nI_add j 12) ?_
  refine lv_iconst (v := 1) hx hb dX2_ahead_4 (by decide) ?_
  refine lv_isub hx hb dX2_ahead_5 ?_
  refine fb_ti (z := nI (j + 11)) (nI_pred (j + 11)) ?_
  refine lv_bipush (v := 12) hx hb dX2_ahead_6 (by decide) ?_
  refine lv_irem hx hb dX2_ahead_8 (by decide) ?_
  refine fb_ti (z := nI ((j + 11) % 12)) (fb_rm_12 (by omega)) ?_
  exact fb_iret hx hb hr hlk dX2_ahead_9 (rfl)
set_option maxHeartbeats 4000000 in
set_option maxRecDepth 100000 in
theorem fb_c_X2_beats (l : Launch) (G : va_G) (cI cL : ClassId) (j : Nat) (v : Int32) (z : Int32) (hj : j < 1000) (hz : ¬ z = 0) : fb_RO l yX2_beats wsX2_beats 1 21 [.int (nI j), .int v, .int z] (fb_PB G cI cL []) (.int (fb_sw j * fb_ab v * 100 / z)) := by
  refine fb_ro_of (cc := cX2_beats) (maxL := 3) (ret := (some .int)) (by decide) rfl (Nat.le_of_ble_eq_true rfl) ?_
  intro p e s m args below meth c hx hb hr hml hlk hts hown hB ls hl
  have hown : s.vm.findClass RX2 = some m.cls := hown
  obtain ⟨hP, hK, hX⟩ := hB
  have hS9 : va_S (fun _ => False) s.heap s.heap [] := va_S.rf
  have hl : lv_has ls 3 [(0, .int (nI j)), (1, .int v), (2, .int z)] := hl
  obtain ⟨-, -, ⟨t9, hZ9, hT9⟩⟩ := id hX
  refine va_gets (C := "FifthBeatsModel") (n := "SWINGS") (d := "[I") hx hb hZ9 hS9 hown (hts (.fieldLink RX2 52 "FifthBeatsModel" "SWINGS" "[I") (by decide +kernel)) (fun _ h9 => h9) dX2_beats_0 ?_
  refine lv_iload_n hx hb dX2_beats_3 rfl (lv_at hl 0 rfl) ?_
  refine fb_roS (As := [.int (nI j)]) (rest := [.ref t9]) (n := 1) ⟨hx, hb, hml, hown, hts⟩ (fb_c_X2_keyOf l j (by omega)) gX2_beats_X2_keyOf rfl (by decide +kernel) (by decide) fb_Bl_T (fun _ _ _ => trivial) rfl hl.1 rfl (Nat.le_of_ble_eq_true rfl) dX2_beats_4 (by decide) ?_
  refine va_ti hx hb hT9 hS9 (vp_in_nI (Nat.mod_lt _ (by decide)) (by decide)) rfl dX2_beats_7 ?_
  refine fb_ti (z := fb_swt (7 * j % 12)) (by rw [fb_cl (by omega)]) ?_
  refine lv_iload_n hx hb dX2_beats_8 rfl (lv_at hl 1 rfl) ?_
  refine va_mabs hx hb (hml.trans hl.1.symm) hown (hts (.methodLink RX2 58 Lib.Math.abs.name) (by decide +kernel)) (hts (.static Lib.Math.abs.name) (by decide +kernel)) (hts (.initialized "java/lang/Math") (by decide +kernel)) (hts (.code Lib.Math.abs.name Lib.Math.abs.code 1 (some .int)) (by decide +kernel)) (Nat.le_of_ble_eq_true rfl) (Nat.le_of_ble_eq_true rfl) (Nat.zero_le _) (Nat.zero_le _) dX2_beats_9 ?_
  refine fb_ti (z := fb_ab v) rfl ?_
  refine lv_imul hx hb dX2_beats_12 ?_
  refine lv_bipush (v := 100) hx hb dX2_beats_13 (by decide) ?_
  refine lv_imul hx hb dX2_beats_15 ?_
  refine lv_iload_n hx hb dX2_beats_16 rfl (lv_at hl 2 rfl) ?_
  refine lv_idiv hx hb dX2_beats_17 (hz) ?_
  exact fb_iret hx hb hr hlk dX2_beats_18 (rfl)
set_option maxHeartbeats 4000000 in
set_option maxRecDepth 100000 in
theorem fb_c_X2_thrown (l : Launch) (G : va_G) (cI cL : ClassId) (h n d f o : Nat) (pf df tf uf : Nat → Int32) (th dy : Int32) (w : Nat) : fb_RO l yX2_thrown wsX2_thrown 0 0 [.ref h] (fb_PB G cI cL (fb_MW cI h n d f o pf df tf uf th dy (nI w))) (.int (th)) := by
  refine fb_ro_of (cc := cX2_thrown) (maxL := 1) (ret := (some .int)) (by decide) rfl (Nat.le_of_ble_eq_true rfl) ?_
  intro p e s m args below meth c hx hb hr hml hlk hts hown hB ls hl
  have hown : s.vm.findClass RX2 = some m.cls := hown
  obtain ⟨hP, hK, hX⟩ := hB
  have hP : va_P G vwCl [(h, .inr (2, [.int th, .int dy, .int (nI w), .ref n, .ref d, .ref f, .ref o])), (n, .inl (cI, 12, .inl pf)), (d, .inl (cI, 12, .inl df)), (f, .inl (cI, 12, .inl tf)), (o, .inl (cI, 12, .inl uf))] s.heap := hP
  have hl : lv_has ls 1 [(0, .ref h)] := hl
  have hin2 : ∀ w ∈ u_ws RX2 TX2 7, w ∈ wsX2_thrown := by decide +kernel
  refine lv_aload_n hx hb dX2_thrown_0 rfl (lv_at hl 0 rfl) ?_
  refine va_get (D := G) (ci := 2) (v := .int th) (C := RX2) (T := TX2) (N := 7) hx hb hts (hin2) hown hK hP 0 rfl rfl 0 (by decide) (hts (.fieldLink RX2 26 "FifthBeatsModel" "thrown" "I") (by decide +kernel)) (fun _ h9 => h9) rfl dX2_thrown_1 ?_
  exact fb_iret hx hb hr hlk dX2_thrown_4 (rfl)
set_option maxHeartbeats 4000000 in
set_option maxRecDepth 100000 in
theorem fb_c_X2_planOf (l : Launch) (G : va_G) (cI cL : ClassId) (h n d f o : Nat) (pf df tf uf : Nat → Int32) (th dy : Int32) (w : Nat) (j : Nat) (hj : j < 1000) (hw : w < 12) : fb_RO l yX2_planOf wsX2_planOf 0 0 [.ref h, .int (nI j)] (fb_PB G cI cL (fb_MW cI h n d f o pf df tf uf th dy (nI w))) (.int ((fb_ep pf w) j)) := by
  refine fb_ro_of (cc := cX2_planOf) (maxL := 5) (ret := (some .int)) (by decide) rfl (Nat.le_of_ble_eq_true rfl) ?_
  intro p e s m args below meth c hx hb hr hml hlk hts hown hB ls hl
  have hown : s.vm.findClass RX2 = some m.cls := hown
  obtain ⟨hP, hK, hX⟩ := hB
  have hP : va_P G vwCl [(h, .inr (2, [.int th, .int dy, .int (nI w), .ref n, .ref d, .ref f, .ref o])), (n, .inl (cI, 12, .inl pf)), (d, .inl (cI, 12, .inl df)), (f, .inl (cI, 12, .inl tf)), (o, .inl (cI, 12, .inl uf))] s.heap := hP
  have hl : lv_has ls 5 [(0, .ref h), (1, .int (nI j))] := hl
  have hin2 : ∀ w ∈ u_ws RX2 TX2 7, w ∈ wsX2_planOf := by decide +kernel
  refine lv_iload_n hx hb dX2_planOf_0 rfl (lv_at hl 1 rfl) ?_
  refine lv_bipush (v := 12) hx hb dX2_planOf_1 (by decide) ?_
  refine lv_irem hx hb dX2_planOf_3 (by decide) ?_
  refine fb_ti (z := nI (j % 12)) (fb_rm_12 (by omega)) ?_
  refine lv_istore_n (lv' := [(2, .int (nI (j % 12))), (0, .ref h), (1, .int (nI j))]) hx hb dX2_planOf_4 rfl hl (by decide) rfl (fun ls hl => ?_)
  refine lv_iload_n hx hb dX2_planOf_5 rfl (lv_at hl 0 rfl) ?_
  refine lv_aload_n hx hb dX2_planOf_6 rfl (lv_at hl 1 rfl) ?_
  refine va_get (D := G) (ci := 2) (v := .int (nI w)) (C := RX2) (T := TX2) (N := 7) hx hb hts (hin2) hown hK hP 0 rfl rfl 2 (by decide) (hts (.fieldLink RX2 7 "FifthBeatsModel" "wolf" "I") (by decide +kernel)) (fun _ h9 => h9) rfl dX2_planOf_7 ?_
  refine lv_icmp_eq (tgt := 20) hx hb dX2_planOf_10 (by decide) (fun c10 => ?_) (fun c10 => ?_)
  · skip
    have h10 : j % 12 = w := (nI_eq (by omega) (by omega)).mp c10
    refine lv_bipush (v := 24) hx hb dX2_planOf_20 (by decide) ?_
    refine lv_istore_n (lv' := [(3, .int 24), (2, .int (nI (j % 12))), (0, .ref h), (1, .int (nI j))]) hx hb dX2_planOf_22 rfl hl (by decide) rfl (fun ls hl => ?_)
    refine lv_iconst (v := 0) hx hb dX2_planOf_23 (by decide) ?_
    refine lv_istore (lv' := [(4, .int 0), (3, .int 24), (2, .int (nI (j % 12))), (0, .ref h), (1, .int (nI j))]) hx hb dX2_planOf_24 hl (by decide) rfl (fun ls hl => ?_)
    have lp26 : ∀ (n9 i : Nat), i ≤ 12 → 12 < i + n9 → ∀ ls : Array Slot, lv_has ls 5 [(4, .int (nI i)), (3, .int (fb_lf (fb_rg pf) w i)), (2, .int (nI (j % 12))), (0, .ref h), (1, .int (nI j))] → W p l e ({ frames := 0, cells := 0, slots := 0, locals := 0 }) s m args below meth c s.heap [] 0 0 (MQ below (k2_QcV (.int ((fb_ep pf w) j))) args s 0 0 (fun _ => False)) (F0 m 26 ls []) := by
      intro n9
      induction n9 with
      | zero => intro i h1 h2; exact absurd h2 (by omega)
      | succ n9 ih26 =>
        intro i hi_i hin9 ls hl
        refine lv_iload hx hb dX2_planOf_26 (lv_at hl 0 rfl) ?_
        refine lv_bipush (v := 12) hx hb dX2_planOf_28 (by decide) ?_
        refine lv_icmp_ge (tgt := 62) hx hb dX2_planOf_30 (by decide) (fun c30 => ?_) (fun c30 => ?_)
        · skip
          have hxi : i = 12 := fb_lp_ex (by decide) hi_i c30
          subst hxi
          refine lv_iload_n hx hb dX2_planOf_62 rfl (lv_at hl 1 rfl) ?_
          exact fb_iret hx hb hr hlk dX2_planOf_63 ((if_pos h10).symm)
        · skip
          have hi12 : i < 12 := fb_lp_in (by decide) hi_i c30
          refine lv_iload_n hx hb dX2_planOf_33 rfl (lv_at hl 1 rfl) ?_
          refine lv_iload hx hb dX2_planOf_34 (lv_at hl 0 rfl) ?_
          refine lv_aload_n hx hb dX2_planOf_36 rfl (lv_at hl 3 rfl) ?_
          refine va_get (D := G) (ci := 2) (v := .int (nI w)) (C := RX2) (T := TX2) (N := 7) hx hb hts (hin2) hown hK hP 0 rfl rfl 2 (by decide) (hts (.fieldLink RX2 7 "FifthBeatsModel" "wolf" "I") (by decide +kernel)) (fun _ h9 => h9) rfl dX2_planOf_37 ?_
          refine lv_icmp_ne (tgt := 47) hx hb dX2_planOf_40 (by decide) (fun c40 => ?_) (fun c40 => ?_)
          · skip
            have h40 : ¬ i = w := fun z => c40 (by rw [z])
            refine lv_aload_n hx hb dX2_planOf_47 rfl (lv_at hl 3 rfl) ?_
            refine va_get (D := G) (ci := 2) (v := .ref n) (C := RX2) (T := TX2) (N := 7) hx hb hts (hin2) hown hK hP 0 rfl rfl 3 (by decide) (hts (.fieldLink RX2 13 "FifthBeatsModel" "plan" "[I") (by decide +kernel)) (fun _ h9 => h9) rfl dX2_planOf_48 ?_
            refine lv_iload hx hb dX2_planOf_51 (lv_at hl 0 rfl) ?_
            refine va_iald hx hb hK hP 1 0 rfl rfl (vp_in_nI hi12 (by decide)) dX2_planOf_53 ?_
            refine fb_ti (z := fb_rg pf i) (by rw [fb_cl (by omega), fb_rg_lt hi12]) ?_
            refine lv_isub hx hb dX2_planOf_54 ?_
            refine fb_ti (z := fb_lf (fb_rg pf) w (i + 1)) ((if_neg h40).symm) ?_
            refine lv_istore_n (lv' := [(3, .int (fb_lf (fb_rg pf) w (i + 1))), (4, .int (nI i)), (2, .int (nI (j % 12))), (0, .ref h), (1, .int (nI j))]) hx hb dX2_planOf_55 rfl hl (by decide) rfl (fun ls hl => ?_)
            refine lv_iinc (v := nI (i + 1)) (lv' := [(4, .int (nI (i + 1))), (3, .int (fb_lf (fb_rg pf) w (i + 1))), (2, .int (nI (j % 12))), (0, .ref h), (1, .int (nI j))]) hx hb dX2_planOf_56 hl (k := 1) rfl (show nI i + 1 = nI (i + 1) from nI_1 i) (by decide) rfl (fun ls hl => ?_)
            refine lv_goto (tgt := 26) hx hb dX2_planOf_59 (by decide) ?_
            exact ih26 (i + 1) (by omega) (by omega) _ (lv_sub hl [0, 1, 2, 3, 4] (rfl))
          · skip
            have h40 : i = w := (nI_eq (by omega) (by omega)).mp c40
            refine lv_iconst (v := 0) hx hb dX2_planOf_43 (by decide) ?_
            refine lv_goto (tgt := 54) hx hb dX2_planOf_44 (by decide) ?_
            refine lv_isub hx hb dX2_planOf_54 ?_
            refine fb_ti (z := fb_lf (fb_rg pf) w (i + 1)) (by rw [Int32.sub_zero]; exact (if_pos h40).symm) ?_
            refine lv_istore_n (lv' := [(3, .int (fb_lf (fb_rg pf) w (i + 1))), (4, .int (nI i)), (2, .int (nI (j % 12))), (0, .ref h), (1, .int (nI j))]) hx hb dX2_planOf_55 rfl hl (by decide) rfl (fun ls hl => ?_)
            refine lv_iinc (v := nI (i + 1)) (lv' := [(4, .int (nI (i + 1))), (3, .int (fb_lf (fb_rg pf) w (i + 1))), (2, .int (nI (j % 12))), (0, .ref h), (1, .int (nI j))]) hx hb dX2_planOf_56 hl (k := 1) rfl (show nI i + 1 = nI (i + 1) from nI_1 i) (by decide) rfl (fun ls hl => ?_)
            refine lv_goto (tgt := 26) hx hb dX2_planOf_59 (by decide) ?_
            exact ih26 (i + 1) (by omega) (by omega) _ (lv_sub hl [0, 1, 2, 3, 4] (rfl))
    exact lp26 (12 + 1) 0 (by omega) (by omega) _ (lv_sub hl [0, 1, 2, 3, 4] (rfl))
  · skip
    have h10 : ¬ j % 12 = w := fun z => c10 (by rw [z])
    refine lv_aload_n hx hb dX2_planOf_13 rfl (lv_at hl 1 rfl) ?_
    refine va_get (D := G) (ci := 2) (v := .ref n) (C := RX2) (T := TX2) (N := 7) hx hb hts (hin2) hown hK hP 0 rfl rfl 3 (by decide) (hts (.fieldLink RX2 13 "FifthBeatsModel" "plan" "[I") (by decide +kernel)) (fun _ h9 => h9) rfl dX2_planOf_14 ?_
    refine lv_iload_n hx hb dX2_planOf_17 rfl (lv_at hl 0 rfl) ?_
    refine va_iald hx hb hK hP 1 0 rfl rfl (vp_in_nI (Nat.mod_lt _ (by decide)) (by decide)) dX2_planOf_18 ?_
    refine fb_ti (z := fb_rg pf j) (by rw [fb_cl (by omega)]; rfl) ?_
    exact fb_iret hx hb hr hlk dX2_planOf_19 ((if_neg h10).symm)
set_option maxHeartbeats 4000000 in
set_option maxRecDepth 100000 in
theorem fb_c_X2_offOf (l : Launch) (G : va_G) (cI cL : ClassId) (h n d f o : Nat) (pf df tf uf : Nat → Int32) (th dy : Int32) (w : Nat) (j : Nat) (hj : j < 1000) : fb_RO l yX2_offOf wsX2_offOf 0 0 [.ref h, .int (nI j)] (fb_PB G cI cL (fb_MW cI h n d f o pf df tf uf th dy (nI w))) (.int ((fb_rg uf) j)) := by
  refine fb_ro_of (cc := cX2_offOf) (maxL := 2) (ret := (some .int)) (by decide) rfl (Nat.le_of_ble_eq_true rfl) ?_
  intro p e s m args below meth c hx hb hr hml hlk hts hown hB ls hl
  have hown : s.vm.findClass RX2 = some m.cls := hown
  obtain ⟨hP, hK, hX⟩ := hB
  have hP : va_P G vwCl [(h, .inr (2, [.int th, .int dy, .int (nI w), .ref n, .ref d, .ref f, .ref o])), (n, .inl (cI, 12, .inl pf)), (d, .inl (cI, 12, .inl df)), (f, .inl (cI, 12, .inl tf)), (o, .inl (cI, 12, .inl uf))] s.heap := hP
  have hl : lv_has ls 2 [(0, .ref h), (1, .int (nI j))] := hl
  have hin2 : ∀ w ∈ u_ws RX2 TX2 7, w ∈ wsX2_offOf := by decide +kernel
  refine lv_aload_n hx hb dX2_offOf_0 rfl (lv_at hl 0 rfl) ?_
  refine va_get (D := G) (ci := 2) (v := .ref o) (C := RX2) (T := TX2) (N := 7) hx hb hts (hin2) hown hK hP 0 rfl rfl 6 (by decide) (hts (.fieldLink RX2 23 "FifthBeatsModel" "off" "[I") (by decide +kernel)) (fun _ h9 => h9) rfl dX2_offOf_1 ?_
  refine lv_iload_n hx hb dX2_offOf_4 rfl (lv_at hl 1 rfl) ?_
  refine lv_bipush (v := 12) hx hb dX2_offOf_5 (by decide) ?_
  refine lv_irem hx hb dX2_offOf_7 (by decide) ?_
  refine fb_ti (z := nI (j % 12)) (fb_rm_12 (by omega)) ?_
  refine va_iald hx hb hK hP 4 0 rfl rfl (vp_in_nI (Nat.mod_lt _ (by decide)) (by decide)) dX2_offOf_8 ?_
  refine fb_ti (z := fb_rg uf j) (by rw [fb_cl (by omega)]; rfl) ?_
  exact fb_iret hx hb hr hlk dX2_offOf_9 (rfl)
set_option maxHeartbeats 4000000 in
set_option maxRecDepth 100000 in
theorem fb_c_X2_narrow (l : Launch) (G : va_G) (cI cL : ClassId) (h n d f o : Nat) (pf df tf uf : Nat → Int32) (th dy : Int32) (w : Nat) (a : Nat) (b : Nat) (ha : a < 900) (hb9 : b < 100) (hw : w < 12) : fb_RO l yX2_narrow wsX2_narrow 1 24 [.ref h, .int (nI a), .int (nI b)] (fb_PB G cI cL (fb_MW cI h n d f o pf df tf uf th dy (nI w))) (.int (fb_ns (fb_ep pf w) (fb_rg uf) a b b)) := by
  refine fb_ro_of (cc := cX2_narrow) (maxL := 5) (ret := (some .int)) (by decide) rfl (Nat.le_of_ble_eq_true rfl) ?_
  intro p e s m args below meth c hx hb hr hml hlk hts hown hB ls hl
  have hown : s.vm.findClass RX2 = some m.cls := hown
  obtain ⟨hP, hK, hX⟩ := hB
  have hP : va_P G vwCl [(h, .inr (2, [.int th, .int dy, .int (nI w), .ref n, .ref d, .ref f, .ref o])), (n, .inl (cI, 12, .inl pf)), (d, .inl (cI, 12, .inl df)), (f, .inl (cI, 12, .inl tf)), (o, .inl (cI, 12, .inl uf))] s.heap := hP
  have hl : lv_has ls 5 [(0, .ref h), (1, .int (nI a)), (2, .int (nI b))] := hl
  refine lv_aload_n hx hb dX2_narrow_0 rfl (lv_at hl 0 rfl) ?_
  refine lv_iload_n hx hb dX2_narrow_1 rfl (lv_at hl 1 rfl) ?_
  refine fb_roV (As := [.int (nI a)]) (rest := []) (n := 1) ⟨hx, hb, hml, hown, hts⟩ (fb_c_X2_offOf l G cI cL h n d f o pf df tf uf th dy w a (by omega)) gX2_narrow_X2_offOf rfl (by decide +kernel) (by decide) (fb_PB.bl _ _ _ _) (va_recv hK hP (ci := 2) (q0 := 0) rfl rfl) (fb_PB.to hP hK hX) rfl hl.1 rfl (Nat.le_of_ble_eq_true rfl) dX2_narrow_2 (by decide) ?_
  refine lv_aload_n hx hb dX2_narrow_5 rfl (lv_at hl 0 rfl) ?_
  refine lv_iload_n hx hb dX2_narrow_6 rfl (lv_at hl 1 rfl) ?_
  refine lv_iload_n hx hb dX2_narrow_7 rfl (lv_at hl 2 rfl) ?_
  refine lv_iadd hx hb dX2_narrow_8 ?_
  refine fb_ti (z := nI (a + b)) (nI_add a b) ?_
  refine fb_roV (As := [.int (nI (a + b))]) (rest := [.int ((fb_rg uf) a)]) (n := 1) ⟨hx, hb, hml, hown, hts⟩ (fb_c_X2_offOf l G cI cL h n d f o pf df tf uf th dy w (a + b) (by omega)) gX2_narrow_X2_offOf rfl (by decide +kernel) (by decide) (fb_PB.bl _ _ _ _) (va_recv hK hP (ci := 2) (q0 := 0) rfl rfl) (fb_PB.to hP hK hX) rfl hl.1 rfl (Nat.le_of_ble_eq_true rfl) dX2_narrow_9 (by decide) ?_
  refine lv_isub hx hb dX2_narrow_12 ?_
  refine lv_istore_n (lv' := [(3, .int (((fb_rg uf) a) - ((fb_rg uf) (a + b)))), (0, .ref h), (1, .int (nI a)), (2, .int (nI b))]) hx hb dX2_narrow_13 rfl hl (by decide) rfl (fun ls hl => ?_)
  refine lv_iload_n hx hb dX2_narrow_14 rfl (lv_at hl 2 rfl) ?_
  refine lv_istore (lv' := [(4, .int (nI a)), (3, .int (((fb_rg uf) a) - ((fb_rg uf) (a + b)))), (0, .ref h), (1, .int (nI a)), (2, .int (nI b))]) hx hb dX2_narrow_15 hl (by decide) rfl (fun ls hl => ?_)
  have lp17 : ∀ (n9 i : Nat), i ≤ b → b < i + n9 → ∀ ls : Array Slot, lv_has ls 5 [(4, .int (nI (a + i))), (3, .int (fb_ns (fb_ep pf w) (fb_rg uf) a b i)), (0, .ref h), (1, .int (nI a)), (2, .int (nI b))] → W p l e ({ frames := 1, cells := 0, slots := 0, locals := 24 }) s m args below meth c s.heap [] 0 0 (MQ below (k2_QcV (.int (fb_ns (fb_ep pf w) (fb_rg uf) a b b))) args s 0 0 (fun _ => False)) (F0 m 17 ls []) := by
    intro n9
    induction n9 with
    | zero => intro i h1 h2; exact absurd h2 (by omega)
    | succ n9 ih17 =>
      intro i hi_i hin9 ls hl
      refine lv_iload hx hb dX2_narrow_17 (lv_at hl 0 rfl) ?_
      refine lv_iload_n hx hb dX2_narrow_19 rfl (lv_at hl 3 rfl) ?_
      refine lv_iload_n hx hb dX2_narrow_20 rfl (lv_at hl 4 rfl) ?_
      refine lv_iadd hx hb dX2_narrow_21 ?_
      refine fb_ti (z := nI (a + b)) (nI_add a b) ?_
      refine lv_icmp_ge (tgt := 40) hx hb dX2_narrow_22 (by decide) (fun c22 => ?_) (fun c22 => ?_)
      · skip
        have hxi : a + b ≤ a + i := (nI_leI (by omega) (by omega)).mp c22
        obtain rfl : i = b := by omega
        refine lv_iload_n hx hb dX2_narrow_40 rfl (lv_at hl 1 rfl) ?_
        exact fb_iret hx hb hr hlk dX2_narrow_41 (rfl)
      · skip
        have h22 : a + i < a + b := Nat.lt_of_not_le (fun z => c22 (nI_le z (by omega)))
        refine lv_iload_n hx hb dX2_narrow_25 rfl (lv_at hl 1 rfl) ?_
        refine lv_aload_n hx hb dX2_narrow_26 rfl (lv_at hl 2 rfl) ?_
        refine lv_iload hx hb dX2_narrow_27 (lv_at hl 0 rfl) ?_
        refine fb_roV (As := [.int (nI (a + i))]) (rest := [.int (fb_ns (fb_ep pf w) (fb_rg uf) a b i)]) (n := 1) ⟨hx, hb, hml, hown, hts⟩ (fb_c_X2_planOf l G cI cL h n d f o pf df tf uf th dy w (a + i) (by omega) hw) gX2_narrow_X2_planOf rfl (by decide +kernel) (by decide) (fb_PB.bl _ _ _ _) (va_recv hK hP (ci := 2) (q0 := 0) rfl rfl) (fb_PB.to hP hK hX) rfl hl.1 rfl (Nat.le_of_ble_eq_true rfl) dX2_narrow_29 (by decide) ?_
        refine lv_iadd hx hb dX2_narrow_32 ?_
        refine lv_istore_n (lv' := [(3, .int ((fb_ns (fb_ep pf w) (fb_rg uf) a b i) + ((fb_ep pf w) (a + i)))), (4, .int (nI (a + i))), (0, .ref h), (1, .int (nI a)), (2, .int (nI b))]) hx hb dX2_narrow_33 rfl hl (by decide) rfl (fun ls hl => ?_)
        refine lv_iinc (v := nI (a + (i + 1))) (lv' := [(4, .int (nI (a + (i + 1)))), (3, .int ((fb_ns (fb_ep pf w) (fb_rg uf) a b i) + ((fb_ep pf w) (a + i)))), (0, .ref h), (1, .int (nI a)), (2, .int (nI b))]) hx hb dX2_narrow_34 hl (k := 1) rfl (show nI (a + i) + 1 = nI (a + (i + 1)) from nI_1 (a + i)) (by decide) rfl (fun ls hl => ?_)
        refine lv_goto (tgt := 17) hx hb dX2_narrow_37 (by decide) ?_
        exact ih17 (i + 1) (by omega) (by omega) _ (lv_sub hl [0, 1, 2, 3, 4] (rfl))
  exact lp17 (b + 1) 0 (by omega) (by omega) _ (lv_sub hl [0, 1, 2, 3, 4] (rfl))
set_option maxHeartbeats 4000000 in
set_option maxRecDepth 100000 in
theorem fb_c_X2_majorOff (l : Launch) (G : va_G) (cI cL : ClassId) (h n d f o : Nat) (pf df tf uf : Nat → Int32) (th dy : Int32) (w : Nat) (j : Nat) (hj : j < 800) (hw : w < 12) : fb_RO l yX2_majorOff wsX2_majorOff 2 48 [.ref h, .int (nI j)] (fb_PB G cI cL (fb_MW cI h n d f o pf df tf uf th dy (nI w))) (.int (fb_mj (fb_ep pf w) (fb_rg uf) j 4)) := by
  refine fb_ro_of (cc := cX2_majorOff) (maxL := 2) (ret := (some .int)) (by decide) rfl (Nat.le_of_ble_eq_true rfl) ?_
  intro p e s m args below meth c hx hb hr hml hlk hts hown hB ls hl
  have hown : s.vm.findClass RX2 = some m.cls := hown
  obtain ⟨hP, hK, hX⟩ := hB
  have hP : va_P G vwCl [(h, .inr (2, [.int th, .int dy, .int (nI w), .ref n, .ref d, .ref f, .ref o])), (n, .inl (cI, 12, .inl pf)), (d, .inl (cI, 12, .inl df)), (f, .inl (cI, 12, .inl tf)), (o, .inl (cI, 12, .inl uf))] s.heap := hP
  have hl : lv_has ls 2 [(0, .ref h), (1, .int (nI j))] := hl
  refine lv_sipush (v := 408) hx hb dX2_majorOff_0 (by decide) ?_
  refine lv_aload_n hx hb dX2_majorOff_3 rfl (lv_at hl 0 rfl) ?_
  refine lv_iload_n hx hb dX2_majorOff_4 rfl (lv_at hl 1 rfl) ?_
  refine lv_iconst (v := 4) hx hb dX2_majorOff_5 (by decide) ?_
  refine fb_roV (As := [.int (nI j), .int 4]) (rest := [.int 408]) (n := 2) ⟨hx, hb, hml, hown, hts⟩ (fb_c_X2_narrow l G cI cL h n d f o pf df tf uf th dy w j 4 (by omega) (by omega) hw) gX2_majorOff_X2_narrow rfl (by decide +kernel) (by decide) (fb_PB.bl _ _ _ _) (va_recv hK hP (ci := 2) (q0 := 0) rfl rfl) (fb_PB.to hP hK hX) rfl hl.1 rfl (Nat.le_of_ble_eq_true rfl) dX2_majorOff_6 (by decide) ?_
  refine lv_isub hx hb dX2_majorOff_9 ?_
  refine lv_sipush (v := 386) hx hb dX2_majorOff_10 (by decide) ?_
  refine lv_isub hx hb dX2_majorOff_13 ?_
  refine fb_ti (z := fb_mj (fb_ep pf w) (fb_rg uf) j 4) (fb_ns_4 _ _ _) ?_
  exact fb_iret hx hb hr hlk dX2_majorOff_14 (rfl)
set_option maxHeartbeats 4000000 in
set_option maxRecDepth 100000 in
theorem fb_c_X2_minorOff (l : Launch) (G : va_G) (cI cL : ClassId) (h n d f o : Nat) (pf df tf uf : Nat → Int32) (th dy : Int32) (w : Nat) (j : Nat) (hj : j < 800) (hw : w < 12) : fb_RO l yX2_minorOff wsX2_minorOff 2 48 [.ref h, .int (nI j)] (fb_PB G cI cL (fb_MW cI h n d f o pf df tf uf th dy (nI w))) (.int (fb_mi (fb_ep pf w) (fb_rg uf) j 3 - 316)) := by
  refine fb_ro_of (cc := cX2_minorOff) (maxL := 2) (ret := (some .int)) (by decide) rfl (Nat.le_of_ble_eq_true rfl) ?_
  intro p e s m args below meth c hx hb hr hml hlk hts hown hB ls hl
  have hown : s.vm.findClass RX2 = some m.cls := hown
  obtain ⟨hP, hK, hX⟩ := hB
  have hP : va_P G vwCl [(h, .inr (2, [.int th, .int dy, .int (nI w), .ref n, .ref d, .ref f, .ref o])), (n, .inl (cI, 12, .inl pf)), (d, .inl (cI, 12, .inl df)), (f, .inl (cI, 12, .inl tf)), (o, .inl (cI, 12, .inl uf))] s.heap := hP
  have hl : lv_has ls 2 [(0, .ref h), (1, .int (nI j))] := hl
  refine lv_sipush (v := 294) hx hb dX2_minorOff_0 (by decide) ?_
  refine lv_aload_n hx hb dX2_minorOff_3 rfl (lv_at hl 0 rfl) ?_
  refine lv_iload_n hx hb dX2_minorOff_4 rfl (lv_at hl 1 rfl) ?_
  refine lv_bipush (v := 9) hx hb dX2_minorOff_5 (by decide) ?_
  refine lv_iadd hx hb dX2_minorOff_7 ?_
  refine fb_ti (z := nI (j + 9)) (nI_add j 9) ?_
  refine lv_iconst (v := 3) hx hb dX2_minorOff_8 (by decide) ?_
  refine fb_roV (As := [.int (nI (j + 9)), .int 3]) (rest := [.int 294]) (n := 2) ⟨hx, hb, hml, hown, hts⟩ (fb_c_X2_narrow l G cI cL h n d f o pf df tf uf th dy w (j + 9) 3 (by omega) (by omega) hw) gX2_minorOff_X2_narrow rfl (by decide +kernel) (by decide) (fb_PB.bl _ _ _ _) (va_recv hK hP (ci := 2) (q0 := 0) rfl rfl) (fb_PB.to hP hK hX) rfl hl.1 rfl (Nat.le_of_ble_eq_true rfl) dX2_minorOff_9 (by decide) ?_
  refine lv_iadd hx hb dX2_minorOff_12 ?_
  refine lv_sipush (v := 316) hx hb dX2_minorOff_13 (by decide) ?_
  refine lv_isub hx hb dX2_minorOff_16 ?_
  refine fb_ti (z := fb_mi (fb_ep pf w) (fb_rg uf) j 3 - 316) (fb_ns_3 _ _ _) ?_
  exact fb_iret hx hb hr hlk dX2_minorOff_17 (rfl)
set_option maxHeartbeats 4000000 in
set_option maxRecDepth 100000 in
theorem fb_c_X2_fifthBeats (l : Launch) (G : va_G) (cI cL : ClassId) (h n d f o : Nat) (pf df tf uf : Nat → Int32) (th dy : Int32) (w : Nat) (j : Nat) (hj : j < 800) (hw : w < 12) : fb_RO l yX2_fifthBeats wsX2_fifthBeats 2 48 [.ref h, .int (nI j)] (fb_PB G cI cL (fb_MW cI h n d f o pf df tf uf th dy (nI w))) (.int (fb_fb (fb_ep pf w) (fb_rg uf) j)) := by
  refine fb_ro_of (cc := cX2_fifthBeats) (maxL := 2) (ret := (some .int)) (by decide) rfl (Nat.le_of_ble_eq_true rfl) ?_
  intro p e s m args below meth c hx hb hr hml hlk hts hown hB ls hl
  have hown : s.vm.findClass RX2 = some m.cls := hown
  obtain ⟨hP, hK, hX⟩ := hB
  have hP : va_P G vwCl [(h, .inr (2, [.int th, .int dy, .int (nI w), .ref n, .ref d, .ref f, .ref o])), (n, .inl (cI, 12, .inl pf)), (d, .inl (cI, 12, .inl df)), (f, .inl (cI, 12, .inl tf)), (o, .inl (cI, 12, .inl uf))] s.heap := hP
  have hl : lv_has ls 2 [(0, .ref h), (1, .int (nI j))] := hl
  refine lv_iload_n hx hb dX2_fifthBeats_0 rfl (lv_at hl 1 rfl) ?_
  refine lv_aload_n hx hb dX2_fifthBeats_1 rfl (lv_at hl 0 rfl) ?_
  refine lv_iload_n hx hb dX2_fifthBeats_2 rfl (lv_at hl 1 rfl) ?_
  refine lv_iconst (v := 1) hx hb dX2_fifthBeats_3 (by decide) ?_
  refine fb_roV (As := [.int (nI j), .int 1]) (rest := [.int (nI j)]) (n := 2) ⟨hx, hb, hml, hown, hts⟩ (fb_c_X2_narrow l G cI cL h n d f o pf df tf uf th dy w j 1 (by omega) (by omega) hw) gX2_fifthBeats_X2_narrow rfl (by decide +kernel) (by decide) (fb_PB.bl _ _ _ _) (va_recv hK hP (ci := 2) (q0 := 0) rfl rfl) (fb_PB.to hP hK hX) rfl hl.1 rfl (Nat.le_of_ble_eq_true rfl) dX2_fifthBeats_4 (by decide) ?_
  refine fb_ti (z := fb_na (fb_ep pf w) (fb_rg uf) j) (fb_ns_1 _ _ _) ?_
  refine lv_sipush (v := 577) hx hb dX2_fifthBeats_7 (by decide) ?_
  refine fb_roS (As := [.int (nI j), .int (fb_na (fb_ep pf w) (fb_rg uf) j), .int 577]) (rest := []) (n := 3) ⟨hx, hb, hml, hown, hts⟩ (fb_c_X2_beats l G cI cL j (fb_na (fb_ep pf w) (fb_rg uf) j) 577 (by omega) (by decide)) gX2_fifthBeats_X2_beats rfl (by decide +kernel) (by decide) (fb_PB.bl _ _ _ _) (fb_PB.to (hP.sub (ws' := []) [] rfl) hK hX) rfl hl.1 rfl (by decide) dX2_fifthBeats_10 (by decide) ?_
  exact fb_iret hx hb hr hlk dX2_fifthBeats_13 (rfl)
set_option maxHeartbeats 4000000 in
set_option maxRecDepth 100000 in
theorem fb_c_X2_sour (l : Launch) (G : va_G) (cI cL : ClassId) (h n d f o : Nat) (pf df tf uf : Nat → Int32) (th dy : Int32) (w : Nat) (j : Nat) (hj : j < 800) (hw : w < 12) : fb_RO l yX2_sour wsX2_sour 3 69 [.ref h, .int (nI j)] (fb_PB G cI cL (fb_MW cI h n d f o pf df tf uf th dy (nI w))) (.int (fb_so (fb_ep pf w) (fb_rg uf) j)) := by
  refine fb_ro_of (cc := cX2_sour) (maxL := 2) (ret := (some .int)) (by decide) rfl (Nat.le_of_ble_eq_true rfl) ?_
  intro p e s m args below meth c hx hb hr hml hlk hts hown hB ls hl
  have hown : s.vm.findClass RX2 = some m.cls := hown
  obtain ⟨hP, hK, hX⟩ := hB
  have hP : va_P G vwCl [(h, .inr (2, [.int th, .int dy, .int (nI w), .ref n, .ref d, .ref f, .ref o])), (n, .inl (cI, 12, .inl pf)), (d, .inl (cI, 12, .inl df)), (f, .inl (cI, 12, .inl tf)), (o, .inl (cI, 12, .inl uf))] s.heap := hP
  have hl : lv_has ls 2 [(0, .ref h), (1, .int (nI j))] := hl
  refine lv_aload_n hx hb dX2_sour_0 rfl (lv_at hl 0 rfl) ?_
  refine lv_iload_n hx hb dX2_sour_1 rfl (lv_at hl 1 rfl) ?_
  refine fb_roV (As := [.int (nI j)]) (rest := []) (n := 1) ⟨hx, hb, hml, hown, hts⟩ (fb_c_X2_majorOff l G cI cL h n d f o pf df tf uf th dy w j (by omega) hw) gX2_sour_X2_majorOff rfl (by decide +kernel) (by decide) (fb_PB.bl _ _ _ _) (va_recv hK hP (ci := 2) (q0 := 0) rfl rfl) (fb_PB.to hP hK hX) rfl hl.1 rfl (Nat.le_of_ble_eq_true rfl) dX2_sour_2 (by decide) ?_
  refine va_mabs hx hb (hml.trans hl.1.symm) hown (hts (.methodLink RX2 58 Lib.Math.abs.name) (by decide +kernel)) (hts (.static Lib.Math.abs.name) (by decide +kernel)) (hts (.initialized "java/lang/Math") (by decide +kernel)) (hts (.code Lib.Math.abs.name Lib.Math.abs.code 1 (some .int)) (by decide +kernel)) (Nat.le_of_ble_eq_true rfl) (Nat.le_of_ble_eq_true rfl) (Nat.zero_le _) (Nat.zero_le _) dX2_sour_5 ?_
  refine fb_ti (z := fb_ab (fb_mj (fb_ep pf w) (fb_rg uf) j 4)) rfl ?_
  refine lv_iconst (v := 2) hx hb dX2_sour_8 (by decide) ?_
  refine lv_aload_n hx hb dX2_sour_9 rfl (lv_at hl 0 rfl) ?_
  refine lv_iload_n hx hb dX2_sour_10 rfl (lv_at hl 1 rfl) ?_
  refine lv_iconst (v := 1) hx hb dX2_sour_11 (by decide) ?_
  refine fb_roV (As := [.int (nI j), .int 1]) (rest := [.int 2, .int (fb_ab (fb_mj (fb_ep pf w) (fb_rg uf) j 4))]) (n := 2) ⟨hx, hb, hml, hown, hts⟩ (fb_c_X2_narrow l G cI cL h n d f o pf df tf uf th dy w j 1 (by omega) (by omega) hw) gX2_sour_X2_narrow rfl (by decide +kernel) (by decide) (fb_PB.bl _ _ _ _) (va_recv hK hP (ci := 2) (q0 := 0) rfl rfl) (fb_PB.to hP hK hX) rfl hl.1 rfl (Nat.le_of_ble_eq_true rfl) dX2_sour_12 (by decide) ?_
  refine fb_ti (z := fb_na (fb_ep pf w) (fb_rg uf) j) (fb_ns_1 _ _ _) ?_
  refine va_mabs hx hb (hml.trans hl.1.symm) hown (hts (.methodLink RX2 58 Lib.Math.abs.name) (by decide +kernel)) (hts (.static Lib.Math.abs.name) (by decide +kernel)) (hts (.initialized "java/lang/Math") (by decide +kernel)) (hts (.code Lib.Math.abs.name Lib.Math.abs.code 1 (some .int)) (by decide +kernel)) (Nat.le_of_ble_eq_true rfl) (Nat.le_of_ble_eq_true rfl) (Nat.zero_le _) (Nat.zero_le _) dX2_sour_15 ?_
  refine fb_ti (z := fb_ab (fb_na (fb_ep pf w) (fb_rg uf) j)) rfl ?_
  refine lv_imul hx hb dX2_sour_18 ?_
  refine lv_iadd hx hb dX2_sour_19 ?_
  exact fb_iret hx hb hr hlk dX2_sour_20 (rfl)
set_option maxHeartbeats 4000000 in
set_option maxRecDepth 100000 in
theorem fb_c_X2_costs (l : Launch) (G : va_G) (cI cL : ClassId) (h n d f o : Nat) (pf df tf uf : Nat → Int32) (th dy : Int32) (w : Nat) (hw : w < 12) : fb_RO l yX2_costs wsX2_costs 4 90 [.ref h] (fb_PB G cI cL (fb_MW cI h n d f o pf df tf uf th dy (nI w))) (.int (fb_co (fb_ep pf w) (fb_rg uf) (fb_rg tf) 12)) := by
  refine fb_ro_of (cc := cX2_costs) (maxL := 3) (ret := (some .int)) (by decide) rfl (Nat.le_of_ble_eq_true rfl) ?_
  intro p e s m args below meth c hx hb hr hml hlk hts hown hB ls hl
  have hown : s.vm.findClass RX2 = some m.cls := hown
  obtain ⟨hP, hK, hX⟩ := hB
  have hP : va_P G vwCl [(h, .inr (2, [.int th, .int dy, .int (nI w), .ref n, .ref d, .ref f, .ref o])), (n, .inl (cI, 12, .inl pf)), (d, .inl (cI, 12, .inl df)), (f, .inl (cI, 12, .inl tf)), (o, .inl (cI, 12, .inl uf))] s.heap := hP
  have hl : lv_has ls 3 [(0, .ref h)] := hl
  have hin2 : ∀ w ∈ u_ws RX2 TX2 7, w ∈ wsX2_costs := by decide +kernel
  refine lv_iconst (v := 0) hx hb dX2_costs_0 (by decide) ?_
  refine lv_istore_n (lv' := [(1, .int 0), (0, .ref h)]) hx hb dX2_costs_1 rfl hl (by decide) rfl (fun ls hl => ?_)
  refine lv_iconst (v := 0) hx hb dX2_costs_2 (by decide) ?_
  refine lv_istore_n (lv' := [(2, .int 0), (1, .int 0), (0, .ref h)]) hx hb dX2_costs_3 rfl hl (by decide) rfl (fun ls hl => ?_)
  have lp4 : ∀ (n9 i : Nat), i ≤ 12 → 12 < i + n9 → ∀ ls : Array Slot, lv_has ls 3 [(2, .int (nI i)), (1, .int (fb_co (fb_ep pf w) (fb_rg uf) (fb_rg tf) i)), (0, .ref h)] → W p l e ({ frames := 4, cells := 0, slots := 0, locals := 90 }) s m args below meth c s.heap [] 0 0 (MQ below (k2_QcV (.int (fb_co (fb_ep pf w) (fb_rg uf) (fb_rg tf) 12))) args s 0 0 (fun _ => False)) (F0 m 4 ls []) := by
    intro n9
    induction n9 with
    | zero => intro i h1 h2; exact absurd h2 (by omega)
    | succ n9 ih4 =>
      intro i hi_i hin9 ls hl
      refine lv_iload_n hx hb dX2_costs_4 rfl (lv_at hl 0 rfl) ?_
      refine lv_bipush (v := 12) hx hb dX2_costs_5 (by decide) ?_
      refine lv_icmp_ge (tgt := 31) hx hb dX2_costs_7 (by decide) (fun c7 => ?_) (fun c7 => ?_)
      · skip
        have hxi : i = 12 := fb_lp_ex (by decide) hi_i c7
        subst hxi
        refine lv_iload_n hx hb dX2_costs_31 rfl (lv_at hl 1 rfl) ?_
        exact fb_iret hx hb hr hlk dX2_costs_32 (rfl)
      · skip
        have hi12 : i < 12 := fb_lp_in (by decide) hi_i c7
        refine lv_iload_n hx hb dX2_costs_10 rfl (lv_at hl 1 rfl) ?_
        refine lv_aload_n hx hb dX2_costs_11 rfl (lv_at hl 2 rfl) ?_
        refine va_get (D := G) (ci := 2) (v := .ref f) (C := RX2) (T := TX2) (N := 7) hx hb hts (hin2) hown hK hP 0 rfl rfl 5 (by decide) (hts (.fieldLink RX2 20 "FifthBeatsModel" "often" "[I") (by decide +kernel)) (fun _ h9 => h9) rfl dX2_costs_12 ?_
        refine lv_iload_n hx hb dX2_costs_15 rfl (lv_at hl 0 rfl) ?_
        refine va_iald hx hb hK hP 3 0 rfl rfl (vp_in_nI hi12 (by decide)) dX2_costs_16 ?_
        refine fb_ti (z := fb_rg tf i) (by rw [fb_cl (by omega), fb_rg_lt hi12]) ?_
        refine lv_aload_n hx hb dX2_costs_17 rfl (lv_at hl 2 rfl) ?_
        refine lv_iload_n hx hb dX2_costs_18 rfl (lv_at hl 0 rfl) ?_
        refine fb_roV (As := [.int (nI i)]) (rest := [.int (fb_rg tf i), .int (fb_co (fb_ep pf w) (fb_rg uf) (fb_rg tf) i)]) (n := 1) ⟨hx, hb, hml, hown, hts⟩ (fb_c_X2_sour l G cI cL h n d f o pf df tf uf th dy w i (by omega) hw) gX2_costs_X2_sour rfl (by decide +kernel) (by decide) (fb_PB.bl _ _ _ _) (va_recv hK hP (ci := 2) (q0 := 0) rfl rfl) (fb_PB.to hP hK hX) rfl hl.1 rfl (Nat.le_of_ble_eq_true rfl) dX2_costs_19 (by decide) ?_
        refine lv_imul hx hb dX2_costs_22 ?_
        refine fb_ti (z := fb_so (fb_ep pf w) (fb_rg uf) i * (fb_rg tf) i) (Int32.mul_comm _ _) ?_
        refine lv_iadd hx hb dX2_costs_23 ?_
        refine lv_istore_n (lv' := [(1, .int ((fb_co (fb_ep pf w) (fb_rg uf) (fb_rg tf) i) + (fb_so (fb_ep pf w) (fb_rg uf) i * (fb_rg tf) i))), (2, .int (nI i)), (0, .ref h)]) hx hb dX2_costs_24 rfl hl (by decide) rfl (fun ls hl => ?_)
        refine lv_iinc (v := nI (i + 1)) (lv' := [(2, .int (nI (i + 1))), (1, .int ((fb_co (fb_ep pf w) (fb_rg uf) (fb_rg tf) i) + (fb_so (fb_ep pf w) (fb_rg uf) i * (fb_rg tf) i))), (0, .ref h)]) hx hb dX2_costs_25 hl (k := 1) rfl (show nI i + 1 = nI (i + 1) from nI_1 i) (by decide) rfl (fun ls hl => ?_)
        refine lv_goto (tgt := 4) hx hb dX2_costs_28 (by decide) ?_
        exact ih4 (i + 1) (by omega) (by omega) _ (lv_sub hl [0, 1, 2] (rfl))
  exact lp4 (12 + 1) 0 (by omega) (by omega) _ (lv_sub hl [0, 1, 2] (rfl))
set_option maxHeartbeats 4000000 in
set_option maxRecDepth 100000 in
theorem fb_c_X2_place (l : Launch) (G : va_G) (cI cL : ClassId) (h n d f o : Nat) (pf df tf uf : Nat → Int32) (th dy : Int32) (w : Nat) (j : Nat) (hj : j < 12) (hw : w < 12) : fb_RO l yX2_place wsX2_place 4 90 [.ref h, .int (nI j)] (fb_PB G cI cL (fb_MW cI h n d f o pf df tf uf th dy (nI w))) (.int (fb_pl (fb_ep pf w) (fb_rg uf) j 12)) := by
  refine fb_ro_of (cc := cX2_place) (maxL := 4) (ret := (some .int)) (by decide) rfl (Nat.le_of_ble_eq_true rfl) ?_
  intro p e s m args below meth c hx hb hr hml hlk hts hown hB ls hl
  have hown : s.vm.findClass RX2 = some m.cls := hown
  obtain ⟨hP, hK, hX⟩ := hB
  have hP : va_P G vwCl [(h, .inr (2, [.int th, .int dy, .int (nI w), .ref n, .ref d, .ref f, .ref o])), (n, .inl (cI, 12, .inl pf)), (d, .inl (cI, 12, .inl df)), (f, .inl (cI, 12, .inl tf)), (o, .inl (cI, 12, .inl uf))] s.heap := hP
  have hl : lv_has ls 4 [(0, .ref h), (1, .int (nI j))] := hl
  refine lv_iconst (v := 1) hx hb dX2_place_0 (by decide) ?_
  refine lv_istore_n (lv' := [(2, .int 1), (0, .ref h), (1, .int (nI j))]) hx hb dX2_place_1 rfl hl (by decide) rfl (fun ls hl => ?_)
  refine lv_iconst (v := 0) hx hb dX2_place_2 (by decide) ?_
  refine lv_istore_n (lv' := [(3, .int 0), (2, .int 1), (0, .ref h), (1, .int (nI j))]) hx hb dX2_place_3 rfl hl (by decide) rfl (fun ls hl => ?_)
  have lp4 : ∀ (n9 i : Nat), i ≤ 12 → 12 < i + n9 → ∀ ls : Array Slot, lv_has ls 4 [(3, .int (nI i)), (2, .int (fb_pl (fb_ep pf w) (fb_rg uf) j i)), (0, .ref h), (1, .int (nI j))] → W p l e ({ frames := 4, cells := 0, slots := 0, locals := 90 }) s m args below meth c s.heap [] 0 0 (MQ below (k2_QcV (.int (fb_pl (fb_ep pf w) (fb_rg uf) j 12))) args s 0 0 (fun _ => False)) (F0 m 4 ls []) := by
    intro n9
    induction n9 with
    | zero => intro i h1 h2; exact absurd h2 (by omega)
    | succ n9 ih4 =>
      intro i hi_i hin9 ls hl
      refine lv_iload_n hx hb dX2_place_4 rfl (lv_at hl 0 rfl) ?_
      refine lv_bipush (v := 12) hx hb dX2_place_5 (by decide) ?_
      refine lv_icmp_ge (tgt := 55) hx hb dX2_place_7 (by decide) (fun c7 => ?_) (fun c7 => ?_)
      · skip
        have hxi : i = 12 := fb_lp_ex (by decide) hi_i c7
        subst hxi
        refine lv_iload_n hx hb dX2_place_55 rfl (lv_at hl 1 rfl) ?_
        exact fb_iret hx hb hr hlk dX2_place_56 (rfl)
      · skip
        have hi12 : i < 12 := fb_lp_in (by decide) hi_i c7
        refine lv_iload_n hx hb dX2_place_10 rfl (lv_at hl 1 rfl) ?_
        refine lv_aload_n hx hb dX2_place_11 rfl (lv_at hl 2 rfl) ?_
        refine lv_iload_n hx hb dX2_place_12 rfl (lv_at hl 0 rfl) ?_
        refine fb_roV (As := [.int (nI i)]) (rest := [.int (fb_pl (fb_ep pf w) (fb_rg uf) j i)]) (n := 1) ⟨hx, hb, hml, hown, hts⟩ (fb_c_X2_sour l G cI cL h n d f o pf df tf uf th dy w i (by omega) hw) gX2_place_X2_sour rfl (by decide +kernel) (by decide) (fb_PB.bl _ _ _ _) (va_recv hK hP (ci := 2) (q0 := 0) rfl rfl) (fb_PB.to hP hK hX) rfl hl.1 rfl (Nat.le_of_ble_eq_true rfl) dX2_place_13 (by decide) ?_
        refine lv_aload_n hx hb dX2_place_16 rfl (lv_at hl 2 rfl) ?_
        refine lv_iload_n hx hb dX2_place_17 rfl (lv_at hl 3 rfl) ?_
        refine fb_roV (As := [.int (nI j)]) (rest := [.int (fb_so (fb_ep pf w) (fb_rg uf) i), .int (fb_pl (fb_ep pf w) (fb_rg uf) j i)]) (n := 1) ⟨hx, hb, hml, hown, hts⟩ (fb_c_X2_sour l G cI cL h n d f o pf df tf uf th dy w j (by omega) hw) gX2_place_X2_sour rfl (by decide +kernel) (by decide) (fb_PB.bl _ _ _ _) (va_recv hK hP (ci := 2) (q0 := 0) rfl rfl) (fb_PB.to hP hK hX) rfl hl.1 rfl (Nat.le_of_ble_eq_true rfl) dX2_place_18 (by decide) ?_
        refine lv_icmp_lt (tgt := 42) hx hb dX2_place_21 (by decide) (fun c21 => ?_) (fun c21 => ?_)
        · skip
          refine lv_iconst (v := 1) hx hb dX2_place_42 (by decide) ?_
          refine lv_goto (tgt := 47) hx hb dX2_place_43 (by decide) ?_
          refine lv_iadd hx hb dX2_place_47 ?_
          refine fb_ti (z := fb_pl (fb_ep pf w) (fb_rg uf) j (i + 1)) ((if_pos (Or.inl c21)).symm) ?_
          refine lv_istore_n (lv' := [(2, .int (fb_pl (fb_ep pf w) (fb_rg uf) j (i + 1))), (3, .int (nI i)), (0, .ref h), (1, .int (nI j))]) hx hb dX2_place_48 rfl hl (by decide) rfl (fun ls hl => ?_)
          refine lv_iinc (v := nI (i + 1)) (lv' := [(3, .int (nI (i + 1))), (2, .int (fb_pl (fb_ep pf w) (fb_rg uf) j (i + 1))), (0, .ref h), (1, .int (nI j))]) hx hb dX2_place_49 hl (k := 1) rfl (show nI i + 1 = nI (i + 1) from nI_1 i) (by decide) rfl (fun ls hl => ?_)
          refine lv_goto (tgt := 4) hx hb dX2_place_52 (by decide) ?_
          exact ih4 (i + 1) (by omega) (by omega) _ (lv_sub hl [0, 1, 2, 3] (rfl))
        · skip
          refine lv_aload_n hx hb dX2_place_24 rfl (lv_at hl 2 rfl) ?_
          refine lv_iload_n hx hb dX2_place_25 rfl (lv_at hl 0 rfl) ?_
          refine fb_roV (As := [.int (nI i)]) (rest := [.int (fb_pl (fb_ep pf w) (fb_rg uf) j i)]) (n := 1) ⟨hx, hb, hml, hown, hts⟩ (fb_c_X2_sour l G cI cL h n d f o pf df tf uf th dy w i (by omega) hw) gX2_place_X2_sour rfl (by decide +kernel) (by decide) (fb_PB.bl _ _ _ _) (va_recv hK hP (ci := 2) (q0 := 0) rfl rfl) (fb_PB.to hP hK hX) rfl hl.1 rfl (Nat.le_of_ble_eq_true rfl) dX2_place_26 (by decide) ?_
          refine lv_aload_n hx hb dX2_place_29 rfl (lv_at hl 2 rfl) ?_
          refine lv_iload_n hx hb dX2_place_30 rfl (lv_at hl 3 rfl) ?_
          refine fb_roV (As := [.int (nI j)]) (rest := [.int (fb_so (fb_ep pf w) (fb_rg uf) i), .int (fb_pl (fb_ep pf w) (fb_rg uf) j i)]) (n := 1) ⟨hx, hb, hml, hown, hts⟩ (fb_c_X2_sour l G cI cL h n d f o pf df tf uf th dy w j (by omega) hw) gX2_place_X2_sour rfl (by decide +kernel) (by decide) (fb_PB.bl _ _ _ _) (va_recv hK hP (ci := 2) (q0 := 0) rfl rfl) (fb_PB.to hP hK hX) rfl hl.1 rfl (Nat.le_of_ble_eq_true rfl) dX2_place_31 (by decide) ?_
          refine lv_icmp_ne (tgt := 46) hx hb dX2_place_34 (by decide) (fun c34 => ?_) (fun c34 => ?_)
          · skip
            refine lv_iconst (v := 0) hx hb dX2_place_46 (by decide) ?_
            refine lv_iadd hx hb dX2_place_47 ?_
            refine fb_ti (z := fb_pl (fb_ep pf w) (fb_rg uf) j (i + 1)) (by rw [Int32.add_zero]; exact (if_neg (fun q => q.elim c21 (fun z => c34 z.1))).symm) ?_
            refine lv_istore_n (lv' := [(2, .int (fb_pl (fb_ep pf w) (fb_rg uf) j (i + 1))), (3, .int (nI i)), (0, .ref h), (1, .int (nI j))]) hx hb dX2_place_48 rfl hl (by decide) rfl (fun ls hl => ?_)
            refine lv_iinc (v := nI (i + 1)) (lv' := [(3, .int (nI (i + 1))), (2, .int (fb_pl (fb_ep pf w) (fb_rg uf) j (i + 1))), (0, .ref h), (1, .int (nI j))]) hx hb dX2_place_49 hl (k := 1) rfl (show nI i + 1 = nI (i + 1) from nI_1 i) (by decide) rfl (fun ls hl => ?_)
            refine lv_goto (tgt := 4) hx hb dX2_place_52 (by decide) ?_
            exact ih4 (i + 1) (by omega) (by omega) _ (lv_sub hl [0, 1, 2, 3] (rfl))
          · skip
            refine lv_iload_n hx hb dX2_place_37 rfl (lv_at hl 0 rfl) ?_
            refine lv_iload_n hx hb dX2_place_38 rfl (lv_at hl 3 rfl) ?_
            refine lv_icmp_ge (tgt := 46) hx hb dX2_place_39 (by decide) (fun c39 => ?_) (fun c39 => ?_)
            · skip
              have h39 : ¬ i < j := Nat.not_lt.mpr ((nI_leI (by omega) (by omega)).mp c39)
              refine lv_iconst (v := 0) hx hb dX2_place_46 (by decide) ?_
              refine lv_iadd hx hb dX2_place_47 ?_
              refine fb_ti (z := fb_pl (fb_ep pf w) (fb_rg uf) j (i + 1)) (by rw [Int32.add_zero]; exact (if_neg (fun q => q.elim c21 (fun z => h39 z.2))).symm) ?_
              refine lv_istore_n (lv' := [(2, .int (fb_pl (fb_ep pf w) (fb_rg uf) j (i + 1))), (3, .int (nI i)), (0, .ref h), (1, .int (nI j))]) hx hb dX2_place_48 rfl hl (by decide) rfl (fun ls hl => ?_)
              refine lv_iinc (v := nI (i + 1)) (lv' := [(3, .int (nI (i + 1))), (2, .int (fb_pl (fb_ep pf w) (fb_rg uf) j (i + 1))), (0, .ref h), (1, .int (nI j))]) hx hb dX2_place_49 hl (k := 1) rfl (show nI i + 1 = nI (i + 1) from nI_1 i) (by decide) rfl (fun ls hl => ?_)
              refine lv_goto (tgt := 4) hx hb dX2_place_52 (by decide) ?_
              exact ih4 (i + 1) (by omega) (by omega) _ (lv_sub hl [0, 1, 2, 3] (rfl))
            · skip
              have h39 : i < j := Nat.lt_of_not_le (fun z => c39 (nI_le z (by omega)))
              refine lv_iconst (v := 1) hx hb dX2_place_42 (by decide) ?_
              refine lv_goto (tgt := 47) hx hb dX2_place_43 (by decide) ?_
              refine lv_iadd hx hb dX2_place_47 ?_
              refine fb_ti (z := fb_pl (fb_ep pf w) (fb_rg uf) j (i + 1)) ((if_pos (Or.inr ⟨c34, h39⟩)).symm) ?_
              refine lv_istore_n (lv' := [(2, .int (fb_pl (fb_ep pf w) (fb_rg uf) j (i + 1))), (3, .int (nI i)), (0, .ref h), (1, .int (nI j))]) hx hb dX2_place_48 rfl hl (by decide) rfl (fun ls hl => ?_)
              refine lv_iinc (v := nI (i + 1)) (lv' := [(3, .int (nI (i + 1))), (2, .int (fb_pl (fb_ep pf w) (fb_rg uf) j (i + 1))), (0, .ref h), (1, .int (nI j))]) hx hb dX2_place_49 hl (k := 1) rfl (show nI i + 1 = nI (i + 1) from nI_1 i) (by decide) rfl (fun ls hl => ?_)
              refine lv_goto (tgt := 4) hx hb dX2_place_52 (by decide) ?_
              exact ih4 (i + 1) (by omega) (by omega) _ (lv_sub hl [0, 1, 2, 3] (rfl))
  exact lp4 (12 + 1) 0 (by omega) (by omega) _ (lv_sub hl [0, 1, 2, 3] (rfl))
set_option maxHeartbeats 4000000 in
set_option maxRecDepth 100000 in
theorem fb_c_X2_fastest (l : Launch) (G : va_G) (cI cL : ClassId) (h n d f o : Nat) (pf df tf uf : Nat → Int32) (th dy : Int32) (w : Nat) (hw : w < 12) : fb_RO l yX2_fastest wsX2_fastest 3 69 [.ref h] (fb_PB G cI cL (fb_MW cI h n d f o pf df tf uf th dy (nI w))) (.int (fb_fa (fb_ep pf w) (fb_rg uf) w 12)) := by
  refine fb_ro_of (cc := cX2_fastest) (maxL := 3) (ret := (some .int)) (by decide) rfl (Nat.le_of_ble_eq_true rfl) ?_
  intro p e s m args below meth c hx hb hr hml hlk hts hown hB ls hl
  have hown : s.vm.findClass RX2 = some m.cls := hown
  obtain ⟨hP, hK, hX⟩ := hB
  have hP : va_P G vwCl [(h, .inr (2, [.int th, .int dy, .int (nI w), .ref n, .ref d, .ref f, .ref o])), (n, .inl (cI, 12, .inl pf)), (d, .inl (cI, 12, .inl df)), (f, .inl (cI, 12, .inl tf)), (o, .inl (cI, 12, .inl uf))] s.heap := hP
  have hl : lv_has ls 3 [(0, .ref h)] := hl
  have hin2 : ∀ w ∈ u_ws RX2 TX2 7, w ∈ wsX2_fastest := by decide +kernel
  refine lv_iconst (v := 0) hx hb dX2_fastest_0 (by decide) ?_
  refine lv_istore_n (lv' := [(1, .int 0), (0, .ref h)]) hx hb dX2_fastest_1 rfl hl (by decide) rfl (fun ls hl => ?_)
  refine lv_iconst (v := 0) hx hb dX2_fastest_2 (by decide) ?_
  refine lv_istore_n (lv' := [(2, .int 0), (1, .int 0), (0, .ref h)]) hx hb dX2_fastest_3 rfl hl (by decide) rfl (fun ls hl => ?_)
  have lp4 : ∀ (n9 i : Nat), i ≤ 12 → 12 < i + n9 → ∀ ls : Array Slot, lv_has ls 3 [(2, .int (nI i)), (1, .int (fb_fa (fb_ep pf w) (fb_rg uf) w i)), (0, .ref h)] → W p l e ({ frames := 3, cells := 0, slots := 0, locals := 69 }) s m args below meth c s.heap [] 0 0 (MQ below (k2_QcV (.int (fb_fa (fb_ep pf w) (fb_rg uf) w 12))) args s 0 0 (fun _ => False)) (F0 m 4 ls []) := by
    intro n9
    induction n9 with
    | zero => intro i h1 h2; exact absurd h2 (by omega)
    | succ n9 ih4 =>
      intro i hi_i hin9 ls hl
      refine lv_iload_n hx hb dX2_fastest_4 rfl (lv_at hl 0 rfl) ?_
      refine lv_bipush (v := 12) hx hb dX2_fastest_5 (by decide) ?_
      refine lv_icmp_ge (tgt := 34) hx hb dX2_fastest_7 (by decide) (fun c7 => ?_) (fun c7 => ?_)
      · skip
        have hxi : i = 12 := fb_lp_ex (by decide) hi_i c7
        subst hxi
        refine lv_iload_n hx hb dX2_fastest_34 rfl (lv_at hl 1 rfl) ?_
        exact fb_iret hx hb hr hlk dX2_fastest_35 (rfl)
      · skip
        have hi12 : i < 12 := fb_lp_in (by decide) hi_i c7
        refine lv_iload_n hx hb dX2_fastest_10 rfl (lv_at hl 0 rfl) ?_
        refine lv_aload_n hx hb dX2_fastest_11 rfl (lv_at hl 2 rfl) ?_
        refine va_get (D := G) (ci := 2) (v := .int (nI w)) (C := RX2) (T := TX2) (N := 7) hx hb hts (hin2) hown hK hP 0 rfl rfl 2 (by decide) (hts (.fieldLink RX2 7 "FifthBeatsModel" "wolf" "I") (by decide +kernel)) (fun _ h9 => h9) rfl dX2_fastest_12 ?_
        refine lv_icmp_eq (tgt := 28) hx hb dX2_fastest_15 (by decide) (fun c15 => ?_) (fun c15 => ?_)
        · skip
          have h15 : i = w := (nI_eq (by omega) (by omega)).mp c15
          have hl : lv_has ls 3 [(2, .int (nI i)), (1, .int (fb_fa (fb_ep pf w) (fb_rg uf) w (i + 1))), (0, .ref h)] := lv_sub hl [0, 1, 2] (by rw [show fb_fa (fb_ep pf w) (fb_rg uf) w i = fb_fa (fb_ep pf w) (fb_rg uf) w (i + 1) from (if_pos h15).symm]; rfl)
          refine lv_iinc (v := nI (i + 1)) (lv' := [(2, .int (nI (i + 1))), (1, .int (fb_fa (fb_ep pf w) (fb_rg uf) w (i + 1))), (0, .ref h)]) hx hb dX2_fastest_28 hl (k := 0) rfl (show nI i + 1 = nI (i + 1) from nI_1 i) (by decide) rfl (fun ls hl => ?_)
          refine lv_goto (tgt := 4) hx hb dX2_fastest_31 (by decide) ?_
          exact ih4 (i + 1) (by omega) (by omega) _ (lv_sub hl [0, 1, 2] (rfl))
        · skip
          have h15 : ¬ i = w := fun z => c15 (by rw [z])
          refine lv_iload_n hx hb dX2_fastest_18 rfl (lv_at hl 1 rfl) ?_
          refine lv_aload_n hx hb dX2_fastest_19 rfl (lv_at hl 2 rfl) ?_
          refine lv_iload_n hx hb dX2_fastest_20 rfl (lv_at hl 0 rfl) ?_
          refine fb_roV (As := [.int (nI i)]) (rest := [.int (fb_fa (fb_ep pf w) (fb_rg uf) w i)]) (n := 1) ⟨hx, hb, hml, hown, hts⟩ (fb_c_X2_fifthBeats l G cI cL h n d f o pf df tf uf th dy w i (by omega) hw) gX2_fastest_X2_fifthBeats rfl (by decide +kernel) (by decide) (fb_PB.bl _ _ _ _) (va_recv hK hP (ci := 2) (q0 := 0) rfl rfl) (fb_PB.to hP hK hX) rfl hl.1 rfl (Nat.le_of_ble_eq_true rfl) dX2_fastest_21 (by decide) ?_
          refine va_mmax hx hb (hml.trans hl.1.symm) hown (hts (.methodLink RX2 39 Lib.Math.max.name) (by decide +kernel)) (hts (.static Lib.Math.max.name) (by decide +kernel)) (hts (.initialized "java/lang/Math") (by decide +kernel)) (hts (.code Lib.Math.max.name Lib.Math.max.code 2 (some .int)) (by decide +kernel)) (Nat.le_of_ble_eq_true rfl) (Nat.le_of_ble_eq_true rfl) (Nat.zero_le _) (Nat.zero_le _) dX2_fastest_24 ?_
          refine fb_ti (z := fb_mx (fb_fa (fb_ep pf w) (fb_rg uf) w i) (fb_fb (fb_ep pf w) (fb_rg uf) i)) rfl ?_
          refine fb_ti (z := fb_fa (fb_ep pf w) (fb_rg uf) w (i + 1)) ((if_neg h15).symm) ?_
          refine lv_istore_n (lv' := [(1, .int (fb_fa (fb_ep pf w) (fb_rg uf) w (i + 1))), (2, .int (nI i)), (0, .ref h)]) hx hb dX2_fastest_27 rfl hl (by decide) rfl (fun ls hl => ?_)
          refine lv_iinc (v := nI (i + 1)) (lv' := [(2, .int (nI (i + 1))), (1, .int (fb_fa (fb_ep pf w) (fb_rg uf) w (i + 1))), (0, .ref h)]) hx hb dX2_fastest_28 hl (k := 1) rfl (show nI i + 1 = nI (i + 1) from nI_1 i) (by decide) rfl (fun ls hl => ?_)
          refine lv_goto (tgt := 4) hx hb dX2_fastest_31 (by decide) ?_
          exact ih4 (i + 1) (by omega) (by omega) _ (lv_sub hl [0, 1, 2] (rfl))
  exact lp4 (12 + 1) 0 (by omega) (by omega) _ (lv_sub hl [0, 1, 2] (rfl))
set_option maxHeartbeats 4000000 in
set_option maxRecDepth 100000 in
theorem fb_c_X2_canTune (l : Launch) (G : va_G) (cI cL : ClassId) (h n d f o : Nat) (pf df tf uf : Nat → Int32) (th dy : Int32) (w : Nat) (j : Nat) (hj : j < 12) (hw : w < 12) : fb_RO l yX2_canTune wsX2_canTune 1 20 [.ref h, .int (nI j)] (fb_PB G cI cL (fb_MW cI h n d f o pf df tf uf th dy (nI w))) (.int (if (j + 11) % 12 = w then 0 else 1)) := by
  refine fb_ro_of (cc := cX2_canTune) (maxL := 2) (ret := (some .boolean)) (by decide) rfl (Nat.le_of_ble_eq_true rfl) ?_
  intro p e s m args below meth c hx hb hr hml hlk hts hown hB ls hl
  have hown : s.vm.findClass RX2 = some m.cls := hown
  obtain ⟨hP, hK, hX⟩ := hB
  have hP : va_P G vwCl [(h, .inr (2, [.int th, .int dy, .int (nI w), .ref n, .ref d, .ref f, .ref o])), (n, .inl (cI, 12, .inl pf)), (d, .inl (cI, 12, .inl df)), (f, .inl (cI, 12, .inl tf)), (o, .inl (cI, 12, .inl uf))] s.heap := hP
  have hl : lv_has ls 2 [(0, .ref h), (1, .int (nI j))] := hl
  have hin2 : ∀ w ∈ u_ws RX2 TX2 7, w ∈ wsX2_canTune := by decide +kernel
  refine lv_iload_n hx hb dX2_canTune_0 rfl (lv_at hl 1 rfl) ?_
  refine fb_roS (As := [.int (nI j)]) (rest := []) (n := 1) ⟨hx, hb, hml, hown, hts⟩ (fb_c_X2_ahead l j (by omega)) gX2_canTune_X2_ahead rfl (by decide +kernel) (by decide) fb_Bl_T (fun _ _ _ => trivial) rfl hl.1 rfl (Nat.le_of_ble_eq_true rfl) dX2_canTune_1 (by decide) ?_
  refine lv_aload_n hx hb dX2_canTune_4 rfl (lv_at hl 0 rfl) ?_
  refine va_get (D := G) (ci := 2) (v := .int (nI w)) (C := RX2) (T := TX2) (N := 7) hx hb hts (hin2) hown hK hP 0 rfl rfl 2 (by decide) (hts (.fieldLink RX2 7 "FifthBeatsModel" "wolf" "I") (by decide +kernel)) (fun _ h9 => h9) rfl dX2_canTune_5 ?_
  refine lv_icmp_eq (tgt := 15) hx hb dX2_canTune_8 (by decide) (fun c8 => ?_) (fun c8 => ?_)
  · skip
    have h8 : (j + 11) % 12 = w := (nI_eq (by omega) (by omega)).mp c8
    refine lv_iconst (v := 0) hx hb dX2_canTune_15 (by decide) ?_
    exact fb_zret hx hb hr hlk dX2_canTune_16 (by decide) ((if_pos h8).symm)
  · skip
    have h8 : ¬ (j + 11) % 12 = w := fun z => c8 (by rw [z])
    refine lv_iconst (v := 1) hx hb dX2_canTune_11 (by decide) ?_
    refine lv_goto (tgt := 16) hx hb dX2_canTune_12 (by decide) ?_
    exact fb_zret hx hb hr hlk dX2_canTune_16 (by decide) ((if_neg h8).symm)
set_option maxHeartbeats 4000000 in
set_option maxRecDepth 100000 in
theorem fb_c_X2_fifthTold (l : Launch) (G : va_G) (cI cL : ClassId) (h n d f o : Nat) (pf df tf uf : Nat → Int32) (th dy : Int32) (w : Nat) (j : Nat) (q : Nat) (hj : j < 12) (hq : q < 5) (hw : w < 12) : fb_RO l yX2_fifthTold wsX2_fifthTold 3 69 [.ref h, .int (nI j), .int (nI q)] (fb_PB G cI cL (fb_MW cI h n d f o pf df tf uf th dy (nI w))) (.int (fb_tF (fb_ep pf w) (fb_rg uf) w j q)) := by
  refine fb_ro_of (cc := cX2_fifthTold) (maxL := 3) (ret := (some .int)) (by decide) rfl (Nat.le_of_ble_eq_true rfl) ?_
  intro p e s m args below meth c hx hb hr hml hlk hts hown hB ls hl
  have hown : s.vm.findClass RX2 = some m.cls := hown
  obtain ⟨hP, hK, hX⟩ := hB
  have hP : va_P G vwCl [(h, .inr (2, [.int th, .int dy, .int (nI w), .ref n, .ref d, .ref f, .ref o])), (n, .inl (cI, 12, .inl pf)), (d, .inl (cI, 12, .inl df)), (f, .inl (cI, 12, .inl tf)), (o, .inl (cI, 12, .inl uf))] s.heap := hP
  have hl : lv_has ls 3 [(0, .ref h), (1, .int (nI j)), (2, .int (nI q))] := hl
  have hin2 : ∀ w ∈ u_ws RX2 TX2 7, w ∈ wsX2_fifthTold := by decide +kernel
  refine lv_iload_n hx hb dX2_fifthTold_0 rfl (lv_at hl 2 rfl) ?_
  rcases (show q = 0 ∨ q = 1 ∨ q = 2 ∨ q = 3 ∨ q = 4 by omega) with rfl | rfl | rfl | rfl | rfl
  · skip
    refine lv_tableIn (off := 31) (tgt := 32) hx hb dX2_fifthTold_1 (by decide +kernel) (by decide +kernel) (by decide +kernel) (by decide) ?_
    refine lv_aload_n hx hb dX2_fifthTold_32 rfl (lv_at hl 0 rfl) ?_
    refine lv_iload_n hx hb dX2_fifthTold_33 rfl (lv_at hl 1 rfl) ?_
    refine fb_roV (As := [.int (nI j)]) (rest := []) (n := 1) ⟨hx, hb, hml, hown, hts⟩ (fb_c_X2_planOf l G cI cL h n d f o pf df tf uf th dy w j (by omega) hw) gX2_fifthTold_X2_planOf rfl (by decide +kernel) (by decide) (fb_PB.bl _ _ _ _) (va_recv hK hP (ci := 2) (q0 := 0) rfl rfl) (fb_PB.to hP hK hX) rfl hl.1 rfl (Nat.le_of_ble_eq_true rfl) dX2_fifthTold_34 (by decide) ?_
    exact fb_iret hx hb hr hlk dX2_fifthTold_37 (rfl)
  · skip
    refine lv_tableIn (off := 37) (tgt := 38) hx hb dX2_fifthTold_1 (by decide +kernel) (by decide +kernel) (by decide +kernel) (by decide) ?_
    refine lv_aload_n hx hb dX2_fifthTold_38 rfl (lv_at hl 0 rfl) ?_
    refine lv_iload_n hx hb dX2_fifthTold_39 rfl (lv_at hl 1 rfl) ?_
    refine lv_iconst (v := 1) hx hb dX2_fifthTold_40 (by decide) ?_
    refine fb_roV (As := [.int (nI j), .int 1]) (rest := []) (n := 2) ⟨hx, hb, hml, hown, hts⟩ (fb_c_X2_narrow l G cI cL h n d f o pf df tf uf th dy w j 1 (by omega) (by omega) hw) gX2_fifthTold_X2_narrow rfl (by decide +kernel) (by decide) (fb_PB.bl _ _ _ _) (va_recv hK hP (ci := 2) (q0 := 0) rfl rfl) (fb_PB.to hP hK hX) rfl hl.1 rfl (Nat.le_of_ble_eq_true rfl) dX2_fifthTold_41 (by decide) ?_
    refine fb_ti (z := fb_na (fb_ep pf w) (fb_rg uf) j) (fb_ns_1 _ _ _) ?_
    exact fb_iret hx hb hr hlk dX2_fifthTold_44 (rfl)
  · skip
    refine lv_tableIn (off := 44) (tgt := 45) hx hb dX2_fifthTold_1 (by decide +kernel) (by decide +kernel) (by decide +kernel) (by decide) ?_
    refine lv_sipush (v := 702) hx hb dX2_fifthTold_45 (by decide) ?_
    refine lv_aload_n hx hb dX2_fifthTold_48 rfl (lv_at hl 0 rfl) ?_
    refine lv_iload_n hx hb dX2_fifthTold_49 rfl (lv_at hl 1 rfl) ?_
    refine lv_iconst (v := 1) hx hb dX2_fifthTold_50 (by decide) ?_
    refine fb_roV (As := [.int (nI j), .int 1]) (rest := [.int 702]) (n := 2) ⟨hx, hb, hml, hown, hts⟩ (fb_c_X2_narrow l G cI cL h n d f o pf df tf uf th dy w j 1 (by omega) (by omega) hw) gX2_fifthTold_X2_narrow rfl (by decide +kernel) (by decide) (fb_PB.bl _ _ _ _) (va_recv hK hP (ci := 2) (q0 := 0) rfl rfl) (fb_PB.to hP hK hX) rfl hl.1 rfl (Nat.le_of_ble_eq_true rfl) dX2_fifthTold_51 (by decide) ?_
    refine fb_ti (z := fb_na (fb_ep pf w) (fb_rg uf) j) (fb_ns_1 _ _ _) ?_
    refine lv_isub hx hb dX2_fifthTold_54 ?_
    exact fb_iret hx hb hr hlk dX2_fifthTold_55 (rfl)
  · skip
    refine lv_tableIn (off := 55) (tgt := 56) hx hb dX2_fifthTold_1 (by decide +kernel) (by decide +kernel) (by decide +kernel) (by decide) ?_
    refine lv_aload_n hx hb dX2_fifthTold_56 rfl (lv_at hl 0 rfl) ?_
    refine lv_iload_n hx hb dX2_fifthTold_57 rfl (lv_at hl 1 rfl) ?_
    refine fb_roV (As := [.int (nI j)]) (rest := []) (n := 1) ⟨hx, hb, hml, hown, hts⟩ (fb_c_X2_fifthBeats l G cI cL h n d f o pf df tf uf th dy w j (by omega) hw) gX2_fifthTold_X2_fifthBeats rfl (by decide +kernel) (by decide) (fb_PB.bl _ _ _ _) (va_recv hK hP (ci := 2) (q0 := 0) rfl rfl) (fb_PB.to hP hK hX) rfl hl.1 rfl (Nat.le_of_ble_eq_true rfl) dX2_fifthTold_58 (by decide) ?_
    exact fb_iret hx hb hr hlk dX2_fifthTold_61 (rfl)
  · skip
    refine lv_tableOut (tgt := 62) hx hb dX2_fifthTold_1 (by decide +kernel) (by decide) ?_
    refine lv_iload_n hx hb dX2_fifthTold_62 rfl (lv_at hl 1 rfl) ?_
    refine lv_aload_n hx hb dX2_fifthTold_63 rfl (lv_at hl 0 rfl) ?_
    refine va_get (D := G) (ci := 2) (v := .int (nI w)) (C := RX2) (T := TX2) (N := 7) hx hb hts (hin2) hown hK hP 0 rfl rfl 2 (by decide) (hts (.fieldLink RX2 7 "FifthBeatsModel" "wolf" "I") (by decide +kernel)) (fun _ h9 => h9) rfl dX2_fifthTold_64 ?_
    refine lv_icmp_ne (tgt := 74) hx hb dX2_fifthTold_67 (by decide) (fun c67 => ?_) (fun c67 => ?_)
    · skip
      have h67 : ¬ j = w := fun z => c67 (by rw [z])
      refine lv_iconst (v := 0) hx hb dX2_fifthTold_74 (by decide) ?_
      exact fb_iret hx hb hr hlk dX2_fifthTold_75 ((if_neg h67).symm)
    · skip
      have h67 : j = w := (nI_eq (by omega) (by omega)).mp c67
      refine lv_iconst (v := 1) hx hb dX2_fifthTold_70 (by decide) ?_
      refine lv_goto (tgt := 75) hx hb dX2_fifthTold_71 (by decide) ?_
      exact fb_iret hx hb hr hlk dX2_fifthTold_75 ((if_pos h67).symm)
set_option maxHeartbeats 4000000 in
set_option maxRecDepth 100000 in
theorem fb_c_X2_majorTold (l : Launch) (G : va_G) (cI cL : ClassId) (h n d f o : Nat) (pf df tf uf : Nat → Int32) (th dy : Int32) (w : Nat) (j : Nat) (q : Nat) (hj : j < 12) (hq : q < 3) (hw : w < 12) : fb_RO l yX2_majorTold wsX2_majorTold 3 69 [.ref h, .int (nI j), .int (nI q)] (fb_PB G cI cL (fb_MW cI h n d f o pf df tf uf th dy (nI w))) (.int (fb_tM (fb_ep pf w) (fb_rg uf) j q)) := by
  refine fb_ro_of (cc := cX2_majorTold) (maxL := 3) (ret := (some .int)) (by decide) rfl (Nat.le_of_ble_eq_true rfl) ?_
  intro p e s m args below meth c hx hb hr hml hlk hts hown hB ls hl
  have hown : s.vm.findClass RX2 = some m.cls := hown
  obtain ⟨hP, hK, hX⟩ := hB
  have hP : va_P G vwCl [(h, .inr (2, [.int th, .int dy, .int (nI w), .ref n, .ref d, .ref f, .ref o])), (n, .inl (cI, 12, .inl pf)), (d, .inl (cI, 12, .inl df)), (f, .inl (cI, 12, .inl tf)), (o, .inl (cI, 12, .inl uf))] s.heap := hP
  have hl : lv_has ls 3 [(0, .ref h), (1, .int (nI j)), (2, .int (nI q))] := hl
  refine lv_iload_n hx hb dX2_majorTold_0 rfl (lv_at hl 2 rfl) ?_
  refine lv_if_ne (tgt := 16) hx hb dX2_majorTold_1 (by decide) (fun c1 => ?_) (fun c1 => ?_)
  · skip
    have h1 : ¬ q = 0 := fun z => c1 (by rw [z]; rfl)
    refine lv_iload_n hx hb dX2_majorTold_16 rfl (lv_at hl 2 rfl) ?_
    refine lv_iconst (v := 1) hx hb dX2_majorTold_17 (by decide) ?_
    refine lv_icmp_ne (tgt := 29) hx hb dX2_majorTold_18 (by decide) (fun c18 => ?_) (fun c18 => ?_)
    · skip
      have h18 : ¬ q = 1 := fun z => c18 (by rw [z]; rfl)
      obtain rfl : q = 2 := by omega
      refine lv_iload_n hx hb dX2_majorTold_29 rfl (lv_at hl 1 rfl) ?_
      refine lv_aload_n hx hb dX2_majorTold_30 rfl (lv_at hl 0 rfl) ?_
      refine lv_iload_n hx hb dX2_majorTold_31 rfl (lv_at hl 1 rfl) ?_
      refine fb_roV (As := [.int (nI j)]) (rest := [.int (nI j)]) (n := 1) ⟨hx, hb, hml, hown, hts⟩ (fb_c_X2_majorOff l G cI cL h n d f o pf df tf uf th dy w j (by omega) hw) gX2_majorTold_X2_majorOff rfl (by decide +kernel) (by decide) (fb_PB.bl _ _ _ _) (va_recv hK hP (ci := 2) (q0 := 0) rfl rfl) (fb_PB.to hP hK hX) rfl hl.1 rfl (Nat.le_of_ble_eq_true rfl) dX2_majorTold_32 (by decide) ?_
      refine lv_sipush (v := 346) hx hb dX2_majorTold_35 (by decide) ?_
      refine fb_roS (As := [.int (nI j), .int (fb_mj (fb_ep pf w) (fb_rg uf) j 4), .int 346]) (rest := []) (n := 3) ⟨hx, hb, hml, hown, hts⟩ (fb_c_X2_beats l G cI cL j (fb_mj (fb_ep pf w) (fb_rg uf) j 4) 346 (by omega) (by decide)) gX2_majorTold_X2_beats rfl (by decide +kernel) (by decide) (fb_PB.bl _ _ _ _) (fb_PB.to (hP.sub (ws' := []) [] rfl) hK hX) rfl hl.1 rfl (by decide) dX2_majorTold_38 (by decide) ?_
      exact fb_iret hx hb hr hlk dX2_majorTold_41 (rfl)
    · skip
      have h18 : q = 1 := (nI_eq (b := 1) (by omega) (by decide)).mp c18
      subst h18
      refine lv_aload_n hx hb dX2_majorTold_21 rfl (lv_at hl 0 rfl) ?_
      refine lv_iload_n hx hb dX2_majorTold_22 rfl (lv_at hl 1 rfl) ?_
      refine fb_roV (As := [.int (nI j)]) (rest := []) (n := 1) ⟨hx, hb, hml, hown, hts⟩ (fb_c_X2_majorOff l G cI cL h n d f o pf df tf uf th dy w j (by omega) hw) gX2_majorTold_X2_majorOff rfl (by decide +kernel) (by decide) (fb_PB.bl _ _ _ _) (va_recv hK hP (ci := 2) (q0 := 0) rfl rfl) (fb_PB.to hP hK hX) rfl hl.1 rfl (Nat.le_of_ble_eq_true rfl) dX2_majorTold_23 (by decide) ?_
      refine lv_goto (tgt := 41) hx hb dX2_majorTold_26 (by decide) ?_
      exact fb_iret hx hb hr hlk dX2_majorTold_41 (rfl)
  · skip
    have h1 : q = 0 := (nI_eq (b := 0) (by omega) (by decide)).mp c1
    subst h1
    refine lv_sipush (v := 386) hx hb dX2_majorTold_4 (by decide) ?_
    refine lv_aload_n hx hb dX2_majorTold_7 rfl (lv_at hl 0 rfl) ?_
    refine lv_iload_n hx hb dX2_majorTold_8 rfl (lv_at hl 1 rfl) ?_
    refine fb_roV (As := [.int (nI j)]) (rest := [.int 386]) (n := 1) ⟨hx, hb, hml, hown, hts⟩ (fb_c_X2_majorOff l G cI cL h n d f o pf df tf uf th dy w j (by omega) hw) gX2_majorTold_X2_majorOff rfl (by decide +kernel) (by decide) (fb_PB.bl _ _ _ _) (va_recv hK hP (ci := 2) (q0 := 0) rfl rfl) (fb_PB.to hP hK hX) rfl hl.1 rfl (Nat.le_of_ble_eq_true rfl) dX2_majorTold_9 (by decide) ?_
    refine lv_iadd hx hb dX2_majorTold_12 ?_
    refine lv_goto (tgt := 41) hx hb dX2_majorTold_13 (by decide) ?_
    exact fb_iret hx hb hr hlk dX2_majorTold_41 (rfl)
set_option maxHeartbeats 4000000 in
set_option maxRecDepth 100000 in
theorem fb_c_X2_minorTold (l : Launch) (G : va_G) (cI cL : ClassId) (h n d f o : Nat) (pf df tf uf : Nat → Int32) (th dy : Int32) (w : Nat) (j : Nat) (q : Nat) (hj : j < 12) (hq : q < 2) (hw : w < 12) : fb_RO l yX2_minorTold wsX2_minorTold 3 69 [.ref h, .int (nI j), .int (nI q)] (fb_PB G cI cL (fb_MW cI h n d f o pf df tf uf th dy (nI w))) (.int (fb_tI (fb_ep pf w) (fb_rg uf) j q)) := by
  refine fb_ro_of (cc := cX2_minorTold) (maxL := 3) (ret := (some .int)) (by decide) rfl (Nat.le_of_ble_eq_true rfl) ?_
  intro p e s m args below meth c hx hb hr hml hlk hts hown hB ls hl
  have hown : s.vm.findClass RX2 = some m.cls := hown
  obtain ⟨hP, hK, hX⟩ := hB
  have hP : va_P G vwCl [(h, .inr (2, [.int th, .int dy, .int (nI w), .ref n, .ref d, .ref f, .ref o])), (n, .inl (cI, 12, .inl pf)), (d, .inl (cI, 12, .inl df)), (f, .inl (cI, 12, .inl tf)), (o, .inl (cI, 12, .inl uf))] s.heap := hP
  have hl : lv_has ls 3 [(0, .ref h), (1, .int (nI j)), (2, .int (nI q))] := hl
  refine lv_iload_n hx hb dX2_minorTold_0 rfl (lv_at hl 2 rfl) ?_
  refine lv_if_ne (tgt := 16) hx hb dX2_minorTold_1 (by decide) (fun c1 => ?_) (fun c1 => ?_)
  · skip
    have h1 : ¬ q = 0 := fun z => c1 (by rw [z]; rfl)
    obtain rfl : q = 1 := by omega
    refine lv_aload_n hx hb dX2_minorTold_16 rfl (lv_at hl 0 rfl) ?_
    refine lv_iload_n hx hb dX2_minorTold_17 rfl (lv_at hl 1 rfl) ?_
    refine fb_roV (As := [.int (nI j)]) (rest := []) (n := 1) ⟨hx, hb, hml, hown, hts⟩ (fb_c_X2_minorOff l G cI cL h n d f o pf df tf uf th dy w j (by omega) hw) gX2_minorTold_X2_minorOff rfl (by decide +kernel) (by decide) (fb_PB.bl _ _ _ _) (va_recv hK hP (ci := 2) (q0 := 0) rfl rfl) (fb_PB.to hP hK hX) rfl hl.1 rfl (Nat.le_of_ble_eq_true rfl) dX2_minorTold_18 (by decide) ?_
    exact fb_iret hx hb hr hlk dX2_minorTold_21 (rfl)
  · skip
    have h1 : q = 0 := (nI_eq (b := 0) (by omega) (by decide)).mp c1
    subst h1
    refine lv_sipush (v := 316) hx hb dX2_minorTold_4 (by decide) ?_
    refine lv_aload_n hx hb dX2_minorTold_7 rfl (lv_at hl 0 rfl) ?_
    refine lv_iload_n hx hb dX2_minorTold_8 rfl (lv_at hl 1 rfl) ?_
    refine fb_roV (As := [.int (nI j)]) (rest := [.int 316]) (n := 1) ⟨hx, hb, hml, hown, hts⟩ (fb_c_X2_minorOff l G cI cL h n d f o pf df tf uf th dy w j (by omega) hw) gX2_minorTold_X2_minorOff rfl (by decide +kernel) (by decide) (fb_PB.bl _ _ _ _) (va_recv hK hP (ci := 2) (q0 := 0) rfl rfl) (fb_PB.to hP hK hX) rfl hl.1 rfl (Nat.le_of_ble_eq_true rfl) dX2_minorTold_9 (by decide) ?_
    refine lv_iadd hx hb dX2_minorTold_12 ?_
    refine fb_ti (z := fb_mi (fb_ep pf w) (fb_rg uf) j 3) (fb_316 _) ?_
    refine lv_goto (tgt := 21) hx hb dX2_minorTold_13 (by decide) ?_
    exact fb_iret hx hb hr hlk dX2_minorTold_21 (rfl)
set_option maxHeartbeats 4000000 in
set_option maxRecDepth 100000 in
theorem fb_c_X2_noteTold (l : Launch) (G : va_G) (cI cL : ClassId) (h n d f o : Nat) (pf df tf uf : Nat → Int32) (th dy : Int32) (w : Nat) (j : Nat) (q : Nat) (hj : j < 12) (hq : q < 5) (hw : w < 12) : fb_RO l yX2_noteTold wsX2_noteTold 2 48 [.ref h, .int (nI j), .int (nI q)] (fb_PB G cI cL (fb_MW cI h n d f o pf df tf uf th dy (nI w))) (.int (fb_tN (fb_ep pf w) (fb_rg uf) (fb_rg df) j q)) := by
  refine fb_ro_of (cc := cX2_noteTold) (maxL := 3) (ret := (some .int)) (by decide) rfl (Nat.le_of_ble_eq_true rfl) ?_
  intro p e s m args below meth c hx hb hr hml hlk hts hown hB ls hl
  have hown : s.vm.findClass RX2 = some m.cls := hown
  obtain ⟨hP, hK, hX⟩ := hB
  have hP : va_P G vwCl [(h, .inr (2, [.int th, .int dy, .int (nI w), .ref n, .ref d, .ref f, .ref o])), (n, .inl (cI, 12, .inl pf)), (d, .inl (cI, 12, .inl df)), (f, .inl (cI, 12, .inl tf)), (o, .inl (cI, 12, .inl uf))] s.heap := hP
  have hl : lv_has ls 3 [(0, .ref h), (1, .int (nI j)), (2, .int (nI q))] := hl
  have hin2 : ∀ w ∈ u_ws RX2 TX2 7, w ∈ wsX2_noteTold := by decide +kernel
  have hS9 : va_S (fun _ => False) s.heap s.heap [] := va_S.rf
  refine lv_iload_n hx hb dX2_noteTold_0 rfl (lv_at hl 2 rfl) ?_
  rcases (show q = 0 ∨ q = 1 ∨ q = 2 ∨ q = 3 ∨ q = 4 by omega) with rfl | rfl | rfl | rfl | rfl
  · skip
    refine lv_tableIn (off := 31) (tgt := 32) hx hb dX2_noteTold_1 (by decide +kernel) (by decide +kernel) (by decide +kernel) (by decide) ?_
    refine lv_aload_n hx hb dX2_noteTold_32 rfl (lv_at hl 0 rfl) ?_
    refine va_get (D := G) (ci := 2) (v := .ref o) (C := RX2) (T := TX2) (N := 7) hx hb hts (hin2) hown hK hP 0 rfl rfl 6 (by decide) (hts (.fieldLink RX2 23 "FifthBeatsModel" "off" "[I") (by decide +kernel)) (fun _ h9 => h9) rfl dX2_noteTold_33 ?_
    refine lv_iload_n hx hb dX2_noteTold_36 rfl (lv_at hl 1 rfl) ?_
    refine va_iald hx hb hK hP 4 0 rfl rfl (vp_in_nI hj (by decide)) dX2_noteTold_37 ?_
    refine fb_ti (z := fb_rg uf j) (by rw [fb_cl (by omega), fb_rg_lt hj]) ?_
    exact fb_iret hx hb hr hlk dX2_noteTold_38 (rfl)
  · skip
    refine lv_tableIn (off := 38) (tgt := 39) hx hb dX2_noteTold_1 (by decide +kernel) (by decide +kernel) (by decide +kernel) (by decide) ?_
    refine lv_aload_n hx hb dX2_noteTold_39 rfl (lv_at hl 0 rfl) ?_
    refine va_get (D := G) (ci := 2) (v := .ref d) (C := RX2) (T := TX2) (N := 7) hx hb hts (hin2) hown hK hP 0 rfl rfl 4 (by decide) (hts (.fieldLink RX2 17 "FifthBeatsModel" "drift" "[I") (by decide +kernel)) (fun _ h9 => h9) rfl dX2_noteTold_40 ?_
    refine lv_iload_n hx hb dX2_noteTold_43 rfl (lv_at hl 1 rfl) ?_
    refine va_iald hx hb hK hP 2 0 rfl rfl (vp_in_nI hj (by decide)) dX2_noteTold_44 ?_
    refine fb_ti (z := fb_rg df j) (by rw [fb_cl (by omega), fb_rg_lt hj]) ?_
    exact fb_iret hx hb hr hlk dX2_noteTold_45 (rfl)
  · skip
    refine lv_tableIn (off := 45) (tgt := 46) hx hb dX2_noteTold_1 (by decide +kernel) (by decide +kernel) (by decide +kernel) (by decide) ?_
    refine lv_iload_n hx hb dX2_noteTold_46 rfl (lv_at hl 1 rfl) ?_
    refine fb_roS (As := [.int (nI j)]) (rest := []) (n := 1) ⟨hx, hb, hml, hown, hts⟩ (fb_c_X2_keyOf l j (by omega)) gX2_noteTold_X2_keyOf rfl (by decide +kernel) (by decide) fb_Bl_T (fun _ _ _ => trivial) rfl hl.1 rfl (Nat.le_of_ble_eq_true rfl) dX2_noteTold_47 (by decide) ?_
    exact fb_iret hx hb hr hlk dX2_noteTold_50 (rfl)
  · skip
    refine lv_tableIn (off := 50) (tgt := 51) hx hb dX2_noteTold_1 (by decide +kernel) (by decide +kernel) (by decide +kernel) (by decide) ?_
    obtain ⟨-, -, ⟨t9, hZ9, hT9⟩⟩ := id hX
    refine va_gets (C := "FifthBeatsModel") (n := "SWINGS") (d := "[I") hx hb hZ9 hS9 hown (hts (.fieldLink RX2 52 "FifthBeatsModel" "SWINGS" "[I") (by decide +kernel)) (fun _ h9 => h9) dX2_noteTold_51 ?_
    refine lv_iload_n hx hb dX2_noteTold_54 rfl (lv_at hl 1 rfl) ?_
    refine fb_roS (As := [.int (nI j)]) (rest := [.ref t9]) (n := 1) ⟨hx, hb, hml, hown, hts⟩ (fb_c_X2_keyOf l j (by omega)) gX2_noteTold_X2_keyOf rfl (by decide +kernel) (by decide) fb_Bl_T (fun _ _ _ => trivial) rfl hl.1 rfl (Nat.le_of_ble_eq_true rfl) dX2_noteTold_55 (by decide) ?_
    refine va_ti hx hb hT9 hS9 (vp_in_nI (Nat.mod_lt _ (by decide)) (by decide)) rfl dX2_noteTold_58 ?_
    refine fb_ti (z := fb_swt (7 * j % 12)) (by rw [fb_cl (by omega)]) ?_
    exact fb_iret hx hb hr hlk dX2_noteTold_59 (rfl)
  · skip
    refine lv_tableOut (tgt := 60) hx hb dX2_noteTold_1 (by decide +kernel) (by decide) ?_
    refine lv_sipush (v := 702) hx hb dX2_noteTold_60 (by decide) ?_
    refine lv_iload_n hx hb dX2_noteTold_63 rfl (lv_at hl 1 rfl) ?_
    refine lv_imul hx hb dX2_noteTold_64 ?_
    refine fb_ti (z := 702 * nI j) (rfl) ?_
    refine lv_aload_n hx hb dX2_noteTold_65 rfl (lv_at hl 0 rfl) ?_
    refine lv_iconst (v := 0) hx hb dX2_noteTold_66 (by decide) ?_
    refine lv_iload_n hx hb dX2_noteTold_67 rfl (lv_at hl 1 rfl) ?_
    refine fb_roV (As := [.int 0, .int (nI j)]) (rest := [.int (702 * nI j)]) (n := 2) ⟨hx, hb, hml, hown, hts⟩ (fb_c_X2_narrow l G cI cL h n d f o pf df tf uf th dy w 0 j (by omega) (by omega) hw) gX2_noteTold_X2_narrow rfl (by decide +kernel) (by decide) (fb_PB.bl _ _ _ _) (va_recv hK hP (ci := 2) (q0 := 0) rfl rfl) (fb_PB.to hP hK hX) rfl hl.1 rfl (Nat.le_of_ble_eq_true rfl) dX2_noteTold_68 (by decide) ?_
    refine lv_isub hx hb dX2_noteTold_71 ?_
    refine fb_ti (z := fb_ht (fb_ep pf w) (fb_rg uf) j) (fb_ns_h _ _ _) ?_
    refine lv_sipush (v := 1200) hx hb dX2_noteTold_72 (by decide) ?_
    refine fb_roS (As := [.int (fb_ht (fb_ep pf w) (fb_rg uf) j), .int 1200]) (rest := []) (n := 2) ⟨hx, hb, hml, hown, hts⟩ (fb_c_J9_floorMod l (fb_ht (fb_ep pf w) (fb_rg uf) j) 1200 (by decide)) gX2_noteTold_J9_floorMod_7cf53 rfl (by decide +kernel) (by decide) fb_Bl_T (fun _ _ _ => trivial) rfl hl.1 rfl (Nat.le_of_ble_eq_true rfl) dX2_noteTold_75 (by decide) ?_
    exact fb_iret hx hb hr hlk dX2_noteTold_78 (rfl)
set_option maxHeartbeats 4000000 in
set_option maxRecDepth 100000 in
theorem fb_c_X2_keyTold (l : Launch) (G : va_G) (cI cL : ClassId) (h n d f o : Nat) (pf df tf uf : Nat → Int32) (th dy : Int32) (w : Nat) (j : Nat) (q : Nat) (hj : j < 12) (hq : q < 4) (hw : w < 12) : fb_RO l yX2_keyTold wsX2_keyTold 5 113 [.ref h, .int (nI j), .int (nI q)] (fb_PB G cI cL (fb_MW cI h n d f o pf df tf uf th dy (nI w))) (.int (fb_tK (fb_ep pf w) (fb_rg uf) (fb_rg tf) j q)) := by
  refine fb_ro_of (cc := cX2_keyTold) (maxL := 3) (ret := (some .int)) (by decide) rfl (Nat.le_of_ble_eq_true rfl) ?_
  intro p e s m args below meth c hx hb hr hml hlk hts hown hB ls hl
  have hown : s.vm.findClass RX2 = some m.cls := hown
  obtain ⟨hP, hK, hX⟩ := hB
  have hP : va_P G vwCl [(h, .inr (2, [.int th, .int dy, .int (nI w), .ref n, .ref d, .ref f, .ref o])), (n, .inl (cI, 12, .inl pf)), (d, .inl (cI, 12, .inl df)), (f, .inl (cI, 12, .inl tf)), (o, .inl (cI, 12, .inl uf))] s.heap := hP
  have hl : lv_has ls 3 [(0, .ref h), (1, .int (nI j)), (2, .int (nI q))] := hl
  have hin2 : ∀ w ∈ u_ws RX2 TX2 7, w ∈ wsX2_keyTold := by decide +kernel
  refine lv_iload_n hx hb dX2_keyTold_0 rfl (lv_at hl 2 rfl) ?_
  refine lv_if_ne (tgt := 13) hx hb dX2_keyTold_1 (by decide) (fun c1 => ?_) (fun c1 => ?_)
  · skip
    have h1 : ¬ q = 0 := fun z => c1 (by rw [z]; rfl)
    refine lv_iload_n hx hb dX2_keyTold_13 rfl (lv_at hl 2 rfl) ?_
    refine lv_iconst (v := 1) hx hb dX2_keyTold_14 (by decide) ?_
    refine lv_icmp_ne (tgt := 26) hx hb dX2_keyTold_15 (by decide) (fun c15 => ?_) (fun c15 => ?_)
    · skip
      have h15 : ¬ q = 1 := fun z => c15 (by rw [z]; rfl)
      refine lv_iload_n hx hb dX2_keyTold_26 rfl (lv_at hl 2 rfl) ?_
      refine lv_iconst (v := 2) hx hb dX2_keyTold_27 (by decide) ?_
      refine lv_icmp_ne (tgt := 46) hx hb dX2_keyTold_28 (by decide) (fun c28 => ?_) (fun c28 => ?_)
      · skip
        have h28 : ¬ q = 2 := fun z => c28 (by rw [z]; rfl)
        obtain rfl : q = 3 := by omega
        refine lv_aload_n hx hb dX2_keyTold_46 rfl (lv_at hl 0 rfl) ?_
        refine lv_iload_n hx hb dX2_keyTold_47 rfl (lv_at hl 1 rfl) ?_
        refine fb_roV (As := [.int (nI j)]) (rest := []) (n := 1) ⟨hx, hb, hml, hown, hts⟩ (fb_c_X2_place l G cI cL h n d f o pf df tf uf th dy w j hj hw) gX2_keyTold_X2_place rfl (by decide +kernel) (by decide) (fb_PB.bl _ _ _ _) (va_recv hK hP (ci := 2) (q0 := 0) rfl rfl) (fb_PB.to hP hK hX) rfl hl.1 rfl (Nat.le_of_ble_eq_true rfl) dX2_keyTold_48 (by decide) ?_
        exact fb_iret hx hb hr hlk dX2_keyTold_51 (rfl)
      · skip
        have h28 : q = 2 := (nI_eq (b := 2) (by omega) (by decide)).mp c28
        subst h28
        refine lv_aload_n hx hb dX2_keyTold_31 rfl (lv_at hl 0 rfl) ?_
        refine va_get (D := G) (ci := 2) (v := .ref f) (C := RX2) (T := TX2) (N := 7) hx hb hts (hin2) hown hK hP 0 rfl rfl 5 (by decide) (hts (.fieldLink RX2 20 "FifthBeatsModel" "often" "[I") (by decide +kernel)) (fun _ h9 => h9) rfl dX2_keyTold_32 ?_
        refine lv_iload_n hx hb dX2_keyTold_35 rfl (lv_at hl 1 rfl) ?_
        refine va_iald hx hb hK hP 3 0 rfl rfl (vp_in_nI hj (by decide)) dX2_keyTold_36 ?_
        refine fb_ti (z := fb_rg tf j) (by rw [fb_cl (by omega), fb_rg_lt hj]) ?_
        refine lv_aload_n hx hb dX2_keyTold_37 rfl (lv_at hl 0 rfl) ?_
        refine lv_iload_n hx hb dX2_keyTold_38 rfl (lv_at hl 1 rfl) ?_
        refine fb_roV (As := [.int (nI j)]) (rest := [.int (fb_rg tf j)]) (n := 1) ⟨hx, hb, hml, hown, hts⟩ (fb_c_X2_sour l G cI cL h n d f o pf df tf uf th dy w j (by omega) hw) gX2_keyTold_X2_sour rfl (by decide +kernel) (by decide) (fb_PB.bl _ _ _ _) (va_recv hK hP (ci := 2) (q0 := 0) rfl rfl) (fb_PB.to hP hK hX) rfl hl.1 rfl (Nat.le_of_ble_eq_true rfl) dX2_keyTold_39 (by decide) ?_
        refine lv_imul hx hb dX2_keyTold_42 ?_
        refine fb_ti (z := fb_so (fb_ep pf w) (fb_rg uf) j * (fb_rg tf) j) (Int32.mul_comm _ _) ?_
        refine lv_goto (tgt := 51) hx hb dX2_keyTold_43 (by decide) ?_
        exact fb_iret hx hb hr hlk dX2_keyTold_51 (rfl)
    · skip
      have h15 : q = 1 := (nI_eq (b := 1) (by omega) (by decide)).mp c15
      subst h15
      refine lv_aload_n hx hb dX2_keyTold_18 rfl (lv_at hl 0 rfl) ?_
      refine lv_iload_n hx hb dX2_keyTold_19 rfl (lv_at hl 1 rfl) ?_
      refine fb_roV (As := [.int (nI j)]) (rest := []) (n := 1) ⟨hx, hb, hml, hown, hts⟩ (fb_c_X2_sour l G cI cL h n d f o pf df tf uf th dy w j (by omega) hw) gX2_keyTold_X2_sour rfl (by decide +kernel) (by decide) (fb_PB.bl _ _ _ _) (va_recv hK hP (ci := 2) (q0 := 0) rfl rfl) (fb_PB.to hP hK hX) rfl hl.1 rfl (Nat.le_of_ble_eq_true rfl) dX2_keyTold_20 (by decide) ?_
      refine lv_goto (tgt := 51) hx hb dX2_keyTold_23 (by decide) ?_
      exact fb_iret hx hb hr hlk dX2_keyTold_51 (rfl)
  · skip
    have h1 : q = 0 := (nI_eq (b := 0) (by omega) (by decide)).mp c1
    subst h1
    refine lv_aload_n hx hb dX2_keyTold_4 rfl (lv_at hl 0 rfl) ?_
    refine va_get (D := G) (ci := 2) (v := .ref f) (C := RX2) (T := TX2) (N := 7) hx hb hts (hin2) hown hK hP 0 rfl rfl 5 (by decide) (hts (.fieldLink RX2 20 "FifthBeatsModel" "often" "[I") (by decide +kernel)) (fun _ h9 => h9) rfl dX2_keyTold_5 ?_
    refine lv_iload_n hx hb dX2_keyTold_8 rfl (lv_at hl 1 rfl) ?_
    refine va_iald hx hb hK hP 3 0 rfl rfl (vp_in_nI hj (by decide)) dX2_keyTold_9 ?_
    refine fb_ti (z := fb_rg tf j) (by rw [fb_cl (by omega), fb_rg_lt hj]) ?_
    refine lv_goto (tgt := 51) hx hb dX2_keyTold_10 (by decide) ?_
    exact fb_iret hx hb hr hlk dX2_keyTold_51 (rfl)
set_option maxHeartbeats 4000000 in
set_option maxRecDepth 100000 in
theorem fb_c_X2_counted (l : Launch) (G : va_G) (cI cL : ClassId) (h n d f o : Nat) (pf df tf uf : Nat → Int32) (th dy : Int32) (w : Nat) (q : Nat) (hq : q < 7) (hw : w < 12) : fb_RO l yX2_counted wsX2_counted 5 112 [.ref h, .int (nI q)] (fb_PB G cI cL (fb_MW cI h n d f o pf df tf uf th dy (nI w))) (.int (fb_tC (fb_ep pf w) (fb_rg uf) (fb_rg tf) w dy q)) := by
  refine fb_ro_of (cc := cX2_counted) (maxL := 7) (ret := (some .int)) (by decide) rfl (Nat.le_of_ble_eq_true rfl) ?_
  intro p e s m args below meth c hx hb hr hml hlk hts hown hB ls hl
  have hown : s.vm.findClass RX2 = some m.cls := hown
  obtain ⟨hP, hK, hX⟩ := hB
  have hP : va_P G vwCl [(h, .inr (2, [.int th, .int dy, .int (nI w), .ref n, .ref d, .ref f, .ref o])), (n, .inl (cI, 12, .inl pf)), (d, .inl (cI, 12, .inl df)), (f, .inl (cI, 12, .inl tf)), (o, .inl (cI, 12, .inl uf))] s.heap := hP
  have hl : lv_has ls 7 [(0, .ref h), (1, .int (nI q))] := hl
  have hin2 : ∀ w ∈ u_ws RX2 TX2 7, w ∈ wsX2_counted := by decide +kernel
  refine lv_iconst (v := 0) hx hb dX2_counted_0 (by decide) ?_
  refine lv_istore_n (lv' := [(2, .int 0), (0, .ref h), (1, .int (nI q))]) hx hb dX2_counted_1 rfl hl (by decide) rfl (fun ls hl => ?_)
  refine lv_iload_n hx hb dX2_counted_2 rfl (lv_at hl 2 rfl) ?_
  rcases (show q = 0 ∨ q = 1 ∨ q = 2 ∨ q = 3 ∨ q = 4 ∨ q = 5 ∨ q = 6 by omega) with rfl | rfl | rfl | rfl | rfl | rfl | rfl
  · skip
    refine lv_tableIn (off := 37) (tgt := 40) hx hb dX2_counted_3 (by decide +kernel) (by decide +kernel) (by decide +kernel) (by decide) ?_
    refine lv_aload_n hx hb dX2_counted_40 rfl (lv_at hl 1 rfl) ?_
    refine va_get (D := G) (ci := 2) (v := .int dy) (C := RX2) (T := TX2) (N := 7) hx hb hts (hin2) hown hK hP 0 rfl rfl 1 (by decide) (hts (.fieldLink RX2 97 "FifthBeatsModel" "day" "I") (by decide +kernel)) (fun _ h9 => h9) rfl dX2_counted_41 ?_
    exact fb_iret hx hb hr hlk dX2_counted_44 (rfl)
  · skip
    refine lv_tableIn (off := 42) (tgt := 45) hx hb dX2_counted_3 (by decide +kernel) (by decide +kernel) (by decide +kernel) (by decide) ?_
    refine lv_aload_n hx hb dX2_counted_45 rfl (lv_at hl 1 rfl) ?_
    refine va_get (D := G) (ci := 2) (v := .int (nI w)) (C := RX2) (T := TX2) (N := 7) hx hb hts (hin2) hown hK hP 0 rfl rfl 2 (by decide) (hts (.fieldLink RX2 7 "FifthBeatsModel" "wolf" "I") (by decide +kernel)) (fun _ h9 => h9) rfl dX2_counted_46 ?_
    exact fb_iret hx hb hr hlk dX2_counted_49 (rfl)
  · skip
    refine lv_tableIn (off := 47) (tgt := 50) hx hb dX2_counted_3 (by decide +kernel) (by decide +kernel) (by decide +kernel) (by decide) ?_
    refine lv_aload_n hx hb dX2_counted_50 rfl (lv_at hl 1 rfl) ?_
    refine fb_roV (As := []) (rest := []) (n := 0) ⟨hx, hb, hml, hown, hts⟩ (fb_c_X2_costs l G cI cL h n d f o pf df tf uf th dy w  hw) gX2_counted_X2_costs rfl (by decide +kernel) (by decide) (fb_PB.bl _ _ _ _) (va_recv hK hP (ci := 2) (q0 := 0) rfl rfl) (fb_PB.to hP hK hX) rfl hl.1 rfl (Nat.le_of_ble_eq_true rfl) dX2_counted_51 (by decide) ?_
    exact fb_iret hx hb hr hlk dX2_counted_54 (rfl)
  · skip
    refine lv_tableIn (off := 52) (tgt := 55) hx hb dX2_counted_3 (by decide +kernel) (by decide +kernel) (by decide +kernel) (by decide) ?_
    refine lv_iconst (v := 0) hx hb dX2_counted_55 (by decide) ?_
    refine lv_istore_n (lv' := [(3, .int 0), (2, .int 0), (0, .ref h), (1, .int (nI 3))]) hx hb dX2_counted_56 rfl hl (by decide) rfl (fun ls hl => ?_)
    have lp57 : ∀ (n9 i : Nat), i ≤ 12 → 12 < i + n9 → ∀ ls : Array Slot, lv_has ls 7 [(3, .int (nI i)), (2, .int (fb_mm (fb_ep pf w) (fb_rg uf) i)), (0, .ref h), (1, .int (nI 3))] → W p l e ({ frames := 5, cells := 0, slots := 0, locals := 112 }) s m args below meth c s.heap [] 0 0 (MQ below (k2_QcV (.int (fb_tC (fb_ep pf w) (fb_rg uf) (fb_rg tf) w dy 3))) args s 0 0 (fun _ => False)) (F0 m 57 ls []) := by
      intro n9
      induction n9 with
      | zero => intro i h1 h2; exact absurd h2 (by omega)
      | succ n9 ih57 =>
        intro i hi_i hin9 ls hl
        refine lv_iload_n hx hb dX2_counted_57 rfl (lv_at hl 0 rfl) ?_
        refine lv_bipush (v := 12) hx hb dX2_counted_58 (by decide) ?_
        refine lv_icmp_ge (tgt := 82) hx hb dX2_counted_60 (by decide) (fun c60 => ?_) (fun c60 => ?_)
        · skip
          have hxi : i = 12 := fb_lp_ex (by decide) hi_i c60
          subst hxi
          refine lv_iload_n hx hb dX2_counted_82 rfl (lv_at hl 1 rfl) ?_
          exact fb_iret hx hb hr hlk dX2_counted_83 (rfl)
        · skip
          have hi12 : i < 12 := fb_lp_in (by decide) hi_i c60
          refine lv_iload_n hx hb dX2_counted_63 rfl (lv_at hl 1 rfl) ?_
          refine lv_aload_n hx hb dX2_counted_64 rfl (lv_at hl 2 rfl) ?_
          refine lv_iload_n hx hb dX2_counted_65 rfl (lv_at hl 0 rfl) ?_
          refine fb_roV (As := [.int (nI i)]) (rest := [.int (fb_mm (fb_ep pf w) (fb_rg uf) i)]) (n := 1) ⟨hx, hb, hml, hown, hts⟩ (fb_c_X2_majorOff l G cI cL h n d f o pf df tf uf th dy w i (by omega) hw) gX2_counted_X2_majorOff rfl (by decide +kernel) (by decide) (fb_PB.bl _ _ _ _) (va_recv hK hP (ci := 2) (q0 := 0) rfl rfl) (fb_PB.to hP hK hX) rfl hl.1 rfl (Nat.le_of_ble_eq_true rfl) dX2_counted_66 (by decide) ?_
          refine va_mabs hx hb (hml.trans hl.1.symm) hown (hts (.methodLink RX2 58 Lib.Math.abs.name) (by decide +kernel)) (hts (.static Lib.Math.abs.name) (by decide +kernel)) (hts (.initialized "java/lang/Math") (by decide +kernel)) (hts (.code Lib.Math.abs.name Lib.Math.abs.code 1 (some .int)) (by decide +kernel)) (Nat.le_of_ble_eq_true rfl) (Nat.le_of_ble_eq_true rfl) (Nat.zero_le _) (Nat.zero_le _) dX2_counted_69 ?_
          refine fb_ti (z := fb_ab (fb_mj (fb_ep pf w) (fb_rg uf) i 4)) rfl ?_
          refine va_mmax hx hb (hml.trans hl.1.symm) hown (hts (.methodLink RX2 39 Lib.Math.max.name) (by decide +kernel)) (hts (.static Lib.Math.max.name) (by decide +kernel)) (hts (.initialized "java/lang/Math") (by decide +kernel)) (hts (.code Lib.Math.max.name Lib.Math.max.code 2 (some .int)) (by decide +kernel)) (Nat.le_of_ble_eq_true rfl) (Nat.le_of_ble_eq_true rfl) (Nat.zero_le _) (Nat.zero_le _) dX2_counted_72 ?_
          refine fb_ti (z := fb_mx (fb_mm (fb_ep pf w) (fb_rg uf) i) (fb_ab (fb_mj (fb_ep pf w) (fb_rg uf) i 4))) rfl ?_
          refine lv_istore_n (lv' := [(2, .int (fb_mx (fb_mm (fb_ep pf w) (fb_rg uf) i) (fb_ab (fb_mj (fb_ep pf w) (fb_rg uf) i 4)))), (3, .int (nI i)), (0, .ref h), (1, .int (nI 3))]) hx hb dX2_counted_75 rfl hl (by decide) rfl (fun ls hl => ?_)
          refine lv_iinc (v := nI (i + 1)) (lv' := [(3, .int (nI (i + 1))), (2, .int (fb_mx (fb_mm (fb_ep pf w) (fb_rg uf) i) (fb_ab (fb_mj (fb_ep pf w) (fb_rg uf) i 4)))), (0, .ref h), (1, .int (nI 3))]) hx hb dX2_counted_76 hl (k := 1) rfl (show nI i + 1 = nI (i + 1) from nI_1 i) (by decide) rfl (fun ls hl => ?_)
          refine lv_goto (tgt := 57) hx hb dX2_counted_79 (by decide) ?_
          exact ih57 (i + 1) (by omega) (by omega) _ (lv_sub hl [0, 1, 2, 3] (rfl))
    exact lp57 (12 + 1) 0 (by omega) (by omega) _ (lv_sub hl [0, 1, 2, 3] (rfl))
  · skip
    refine lv_tableIn (off := 81) (tgt := 84) hx hb dX2_counted_3 (by decide +kernel) (by decide +kernel) (by decide +kernel) (by decide) ?_
    refine lv_iconst (v := 0) hx hb dX2_counted_84 (by decide) ?_
    refine lv_istore_n (lv' := [(3, .int 0), (2, .int 0), (0, .ref h), (1, .int (nI 4))]) hx hb dX2_counted_85 rfl hl (by decide) rfl (fun ls hl => ?_)
    have lp86 : ∀ (n9 i : Nat), i ≤ 12 → 12 < i + n9 → ∀ ls : Array Slot, lv_has ls 7 [(3, .int (nI i)), (2, .int (fb_pu (fb_ep pf w) (fb_rg uf) i)), (0, .ref h), (1, .int (nI 4))] → W p l e ({ frames := 5, cells := 0, slots := 0, locals := 112 }) s m args below meth c s.heap [] 0 0 (MQ below (k2_QcV (.int (fb_tC (fb_ep pf w) (fb_rg uf) (fb_rg tf) w dy 4))) args s 0 0 (fun _ => False)) (F0 m 86 ls []) := by
      intro n9
      induction n9 with
      | zero => intro i h1 h2; exact absurd h2 (by omega)
      | succ n9 ih86 =>
        intro i hi_i hin9 ls hl
        refine lv_iload_n hx hb dX2_counted_86 rfl (lv_at hl 0 rfl) ?_
        refine lv_bipush (v := 12) hx hb dX2_counted_87 (by decide) ?_
        refine lv_icmp_ge (tgt := 115) hx hb dX2_counted_89 (by decide) (fun c89 => ?_) (fun c89 => ?_)
        · skip
          have hxi : i = 12 := fb_lp_ex (by decide) hi_i c89
          subst hxi
          refine lv_iload_n hx hb dX2_counted_115 rfl (lv_at hl 1 rfl) ?_
          exact fb_iret hx hb hr hlk dX2_counted_116 (rfl)
        · skip
          have hi12 : i < 12 := fb_lp_in (by decide) hi_i c89
          refine lv_iload_n hx hb dX2_counted_92 rfl (lv_at hl 1 rfl) ?_
          refine lv_aload_n hx hb dX2_counted_93 rfl (lv_at hl 2 rfl) ?_
          refine lv_iload_n hx hb dX2_counted_94 rfl (lv_at hl 0 rfl) ?_
          refine lv_iconst (v := 1) hx hb dX2_counted_95 (by decide) ?_
          refine fb_roV (As := [.int (nI i), .int 1]) (rest := [.int (fb_pu (fb_ep pf w) (fb_rg uf) i)]) (n := 2) ⟨hx, hb, hml, hown, hts⟩ (fb_c_X2_narrow l G cI cL h n d f o pf df tf uf th dy w i 1 (by omega) (by omega) hw) gX2_counted_X2_narrow rfl (by decide +kernel) (by decide) (fb_PB.bl _ _ _ _) (va_recv hK hP (ci := 2) (q0 := 0) rfl rfl) (fb_PB.to hP hK hX) rfl hl.1 rfl (Nat.le_of_ble_eq_true rfl) dX2_counted_96 (by decide) ?_
          refine fb_ti (z := fb_na (fb_ep pf w) (fb_rg uf) i) (fb_ns_1 _ _ _) ?_
          refine lv_if_ne (tgt := 106) hx hb dX2_counted_99 (by decide) (fun c99 => ?_) (fun c99 => ?_)
          · skip
            refine lv_iconst (v := 0) hx hb dX2_counted_106 (by decide) ?_
            refine lv_iadd hx hb dX2_counted_107 ?_
            refine fb_ti (z := fb_pu (fb_ep pf w) (fb_rg uf) (i + 1)) (by rw [Int32.add_zero]; exact (if_neg c99).symm) ?_
            refine lv_istore_n (lv' := [(2, .int (fb_pu (fb_ep pf w) (fb_rg uf) (i + 1))), (3, .int (nI i)), (0, .ref h), (1, .int (nI 4))]) hx hb dX2_counted_108 rfl hl (by decide) rfl (fun ls hl => ?_)
            refine lv_iinc (v := nI (i + 1)) (lv' := [(3, .int (nI (i + 1))), (2, .int (fb_pu (fb_ep pf w) (fb_rg uf) (i + 1))), (0, .ref h), (1, .int (nI 4))]) hx hb dX2_counted_109 hl (k := 1) rfl (show nI i + 1 = nI (i + 1) from nI_1 i) (by decide) rfl (fun ls hl => ?_)
            refine lv_goto (tgt := 86) hx hb dX2_counted_112 (by decide) ?_
            exact ih86 (i + 1) (by omega) (by omega) _ (lv_sub hl [0, 1, 2, 3] (rfl))
          · skip
            refine lv_iconst (v := 1) hx hb dX2_counted_102 (by decide) ?_
            refine lv_goto (tgt := 107) hx hb dX2_counted_103 (by decide) ?_
            refine lv_iadd hx hb dX2_counted_107 ?_
            refine fb_ti (z := fb_pu (fb_ep pf w) (fb_rg uf) (i + 1)) ((if_pos c99).symm) ?_
            refine lv_istore_n (lv' := [(2, .int (fb_pu (fb_ep pf w) (fb_rg uf) (i + 1))), (3, .int (nI i)), (0, .ref h), (1, .int (nI 4))]) hx hb dX2_counted_108 rfl hl (by decide) rfl (fun ls hl => ?_)
            refine lv_iinc (v := nI (i + 1)) (lv' := [(3, .int (nI (i + 1))), (2, .int (fb_pu (fb_ep pf w) (fb_rg uf) (i + 1))), (0, .ref h), (1, .int (nI 4))]) hx hb dX2_counted_109 hl (k := 1) rfl (show nI i + 1 = nI (i + 1) from nI_1 i) (by decide) rfl (fun ls hl => ?_)
            refine lv_goto (tgt := 86) hx hb dX2_counted_112 (by decide) ?_
            exact ih86 (i + 1) (by omega) (by omega) _ (lv_sub hl [0, 1, 2, 3] (rfl))
    exact lp86 (12 + 1) 0 (by omega) (by omega) _ (lv_sub hl [0, 1, 2, 3] (rfl))
  · skip
    refine lv_tableIn (off := 114) (tgt := 117) hx hb dX2_counted_3 (by decide +kernel) (by decide +kernel) (by decide +kernel) (by decide) ?_
    refine lv_aload_n hx hb dX2_counted_117 rfl (lv_at hl 1 rfl) ?_
    refine va_get (D := G) (ci := 2) (v := .ref o) (C := RX2) (T := TX2) (N := 7) hx hb hts (hin2) hown hK hP 0 rfl rfl 6 (by decide) (hts (.fieldLink RX2 23 "FifthBeatsModel" "off" "[I") (by decide +kernel)) (fun _ h9 => h9) rfl dX2_counted_118 ?_
    refine lv_astore_n (lv' := [(3, .ref o), (2, .int 0), (0, .ref h), (1, .int (nI 5))]) hx hb dX2_counted_121 rfl hl (by decide) rfl (fun ls hl => ?_)
    refine lv_aload_n hx hb dX2_counted_122 rfl (lv_at hl 0 rfl) ?_
    refine va_alen hx hb hK hP 4 0 rfl rfl (v := 12) rfl dX2_counted_123 ?_
    refine lv_istore (lv' := [(4, .int 12), (3, .ref o), (2, .int 0), (0, .ref h), (1, .int (nI 5))]) hx hb dX2_counted_124 hl (by decide) rfl (fun ls hl => ?_)
    refine lv_iconst (v := 0) hx hb dX2_counted_126 (by decide) ?_
    refine lv_istore (lv' := [(5, .int 0), (4, .int 12), (3, .ref o), (2, .int 0), (0, .ref h), (1, .int (nI 5))]) hx hb dX2_counted_127 hl (by decide) rfl (fun ls hl => ?_)
    have lp129 : ∀ (n9 i : Nat), i ≤ 12 → 12 < i + n9 → ∀ ls : Array Slot, lv_has ls 7 [(5, .int (nI i)), (2, .int (fb_ao (fb_rg uf) i)), (4, .int 12), (3, .ref o), (0, .ref h), (1, .int (nI 5))] → W p l e ({ frames := 5, cells := 0, slots := 0, locals := 112 }) s m args below meth c s.heap [] 0 0 (MQ below (k2_QcV (.int (fb_tC (fb_ep pf w) (fb_rg uf) (fb_rg tf) w dy 5))) args s 0 0 (fun _ => False)) (F0 m 129 ls []) := by
      intro n9
      induction n9 with
      | zero => intro i h1 h2; exact absurd h2 (by omega)
      | succ n9 ih129 =>
        intro i hi_i hin9 ls hl
        refine lv_iload hx hb dX2_counted_129 (lv_at hl 0 rfl) ?_
        refine lv_iload hx hb dX2_counted_131 (lv_at hl 2 rfl) ?_
        refine lv_icmp_ge (tgt := 156) hx hb dX2_counted_133 (by decide) (fun c133 => ?_) (fun c133 => ?_)
        · skip
          have hxi : i = 12 := fb_lp_ex (by decide) hi_i c133
          subst hxi
          refine lv_iload_n hx hb dX2_counted_156 rfl (lv_at hl 1 rfl) ?_
          exact fb_iret hx hb hr hlk dX2_counted_157 (rfl)
        · skip
          have hi12 : i < 12 := fb_lp_in (by decide) hi_i c133
          refine lv_aload_n hx hb dX2_counted_136 rfl (lv_at hl 3 rfl) ?_
          refine lv_iload hx hb dX2_counted_137 (lv_at hl 0 rfl) ?_
          refine va_iald hx hb hK hP 4 0 rfl rfl (vp_in_nI hi12 (by decide)) dX2_counted_139 ?_
          refine fb_ti (z := fb_rg uf i) (by rw [fb_cl (by omega), fb_rg_lt hi12]) ?_
          refine lv_istore (lv' := [(6, .int (fb_rg uf i)), (5, .int (nI i)), (2, .int (fb_ao (fb_rg uf) i)), (4, .int 12), (3, .ref o), (0, .ref h), (1, .int (nI 5))]) hx hb dX2_counted_140 hl (by decide) rfl (fun ls hl => ?_)
          refine lv_iload_n hx hb dX2_counted_142 rfl (lv_at hl 2 rfl) ?_
          refine lv_iload hx hb dX2_counted_143 (lv_at hl 0 rfl) ?_
          refine va_mabs hx hb (hml.trans hl.1.symm) hown (hts (.methodLink RX2 58 Lib.Math.abs.name) (by decide +kernel)) (hts (.static Lib.Math.abs.name) (by decide +kernel)) (hts (.initialized "java/lang/Math") (by decide +kernel)) (hts (.code Lib.Math.abs.name Lib.Math.abs.code 1 (some .int)) (by decide +kernel)) (Nat.le_of_ble_eq_true rfl) (Nat.le_of_ble_eq_true rfl) (Nat.zero_le _) (Nat.zero_le _) dX2_counted_145 ?_
          refine fb_ti (z := fb_ab (fb_rg uf i)) rfl ?_
          refine lv_iadd hx hb dX2_counted_148 ?_
          refine lv_istore_n (lv' := [(2, .int ((fb_ao (fb_rg uf) i) + (fb_ab (fb_rg uf i)))), (6, .int (fb_rg uf i)), (5, .int (nI i)), (4, .int 12), (3, .ref o), (0, .ref h), (1, .int (nI 5))]) hx hb dX2_counted_149 rfl hl (by decide) rfl (fun ls hl => ?_)
          refine lv_iinc (v := nI (i + 1)) (lv' := [(5, .int (nI (i + 1))), (2, .int ((fb_ao (fb_rg uf) i) + (fb_ab (fb_rg uf i)))), (6, .int (fb_rg uf i)), (4, .int 12), (3, .ref o), (0, .ref h), (1, .int (nI 5))]) hx hb dX2_counted_150 hl (k := 2) rfl (show nI i + 1 = nI (i + 1) from nI_1 i) (by decide) rfl (fun ls hl => ?_)
          refine lv_goto (tgt := 129) hx hb dX2_counted_153 (by decide) ?_
          exact ih129 (i + 1) (by omega) (by omega) _ (lv_sub hl [0, 1, 3, 4, 5, 6] (rfl))
    exact lp129 (12 + 1) 0 (by omega) (by omega) _ (lv_sub hl [0, 3, 1, 2, 4, 5] (rfl))
  · skip
    refine lv_tableOut (tgt := 158) hx hb dX2_counted_3 (by decide +kernel) (by decide) ?_
    refine lv_aload_n hx hb dX2_counted_158 rfl (lv_at hl 1 rfl) ?_
    refine fb_roV (As := []) (rest := []) (n := 0) ⟨hx, hb, hml, hown, hts⟩ (fb_c_X2_fastest l G cI cL h n d f o pf df tf uf th dy w  hw) gX2_counted_X2_fastest rfl (by decide +kernel) (by decide) (fb_PB.bl _ _ _ _) (va_recv hK hP (ci := 2) (q0 := 0) rfl rfl) (fb_PB.to hP hK hX) rfl hl.1 rfl (Nat.le_of_ble_eq_true rfl) dX2_counted_159 (by decide) ?_
    exact fb_iret hx hb hr hlk dX2_counted_162 (rfl)
