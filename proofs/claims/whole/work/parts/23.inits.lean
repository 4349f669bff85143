set_option maxHeartbeats 4000000 in
set_option maxRecDepth 100000 in
theorem fb_c_X0_init (l : Launch) (G : va_G) (cI cL : ClassId) (h : Nat) (sz : Nat) : fb_MG l yX0_init wsX0_init 1 20 4 48 [.ref h] G cI cL sz [(h, .inr (0, [.null, .null, .null, .null, .int 0, .int 0]))] (fb_qv G (S := Nat × Nat × Nat × Nat) (fun u => fb_PW cI h u.1 u.2.1 u.2.2.1 u.2.2.2 (upd fb_z 11 24) fb_z fb_z (fb_on 12) (nI 11) 0) (fun _ => True)) := by
  refine fb_mg_of (cc := cX0_init) (maxL := 2) (ret := none) (by decide) rfl (Nat.le_of_ble_eq_true rfl) ?_
  intro p e s m args below meth c A hx hb hr hml hlk hts hown hP hK hD hA hX hin9 ls hl
  have hown : s.vm.findClass RX0 = some m.cls := hown
  have hP : va_P G vwCl [(h, .inr (0, [.null, .null, .null, .null, .int 0, .int 0]))] s.heap := hP
  have hD : va_D A [(h, .inr (0, [.null, .null, .null, .null, .int 0, .int 0]))] := hD
  have hS : va_S A s.heap s.heap [] := va_S.rf
  have hXn : ∀ (H : Heap) (locs : List Loc), va_S A s.heap H locs → fb_sx (fun _ => False) s H := fun H locs h9 => (hX.kept h9.2.1).narrow (fun _ z => z.elim)
  have hl : lv_has ls 2 [(0, .ref h)] := hl
  have hin0 : ∀ w ∈ u_ws RX0 TX0 6, w ∈ wsX0_init := by decide +kernel
  refine lv_aload_n hx hb dX0_init_0 rfl (lv_at hl 0 rfl) ?_
  refine W.objInit hx hb hown (hts (.methodLink RX0 3 objectInit) (by decide +kernel)) (hts (.instanceMethod objectInit) (by decide +kernel)) (hts (.code objectInit ⟨#[0xb1]⟩ 1 none) (by decide +kernel)) rfl (by rw [hml]; exact hl.1) rfl dX0_init_1 (Nat.le_of_ble_eq_true rfl) (Nat.le_of_ble_eq_true rfl) ?_
  refine W.eq (g2 := F0 m 4 ls []) rfl ?_
  refine lv_aload_n hx hb dX0_init_4 rfl (lv_at hl 0 rfl) ?_
  refine lv_bipush (v := 12) hx hb dX0_init_5 (by decide) ?_
  refine va_newa (atype := .int) (ty := .int) (a0 := (12, .inl fb_z)) (N' := 12) hx hb (hts (.arrayClass .int) (by decide +kernel)) rfl hK hP hD hS hA (fun _ => rfl) (by decide) (by decide) (by decide) (Nat.le_of_ble_eq_true rfl) (Nat.le_of_ble_eq_true rfl) dX0_init_7 (fun a7 cA H hK2 hP hD hS => ?_)
  have eA := (fb_cA hK2).symm
  subst eA
  clear hK2
  have hP : va_P G vwCl [(h, .inr (0, [.null, .null, .null, .null, .int 0, .int 0])), (a7, .inl (cI, 12, .inl fb_z))] H := hP
  have hD : va_D A [(h, .inr (0, [.null, .null, .null, .null, .int 0, .int 0])), (a7, .inl (cI, 12, .inl fb_z))] := hD
  refine W.widen (k := 1) (n := 12) (by decide) (by decide) ?_
  refine va_putF (D := G) (ci := 0) (v := .ref a7) (ty := (.array .int)) (C := RX0) (T := TX0) (N := 6) hx hb hts (hin0) tyX0 tyX0_ok nmX0 hown hK hP hD hS 0 rfl rfl 0 (by decide) (hts (.fieldLink RX0 9 "FifthBeats$Piano" "narrow" "[I") (by decide +kernel)) (fun _ h9 => h9) rfl hin9 rfl (by decide +kernel) rfl rfl (Nat.le_of_ble_eq_true rfl) dX0_init_9 (fun H locs hP hD hS => ?_)
  have hP : va_P G vwCl [(h, .inr (0, [.ref a7, .null, .null, .null, .int 0, .int 0])), (a7, .inl (cI, 12, .inl fb_z))] H := hP
  have hD : va_D A [(h, .inr (0, [.ref a7, .null, .null, .null, .int 0, .int 0])), (a7, .inl (cI, 12, .inl fb_z))] := hD
  refine lv_aload_n hx hb dX0_init_12 rfl (lv_at hl 0 rfl) ?_
  refine lv_bipush (v := 12) hx hb dX0_init_13 (by decide) ?_
  refine va_newa (atype := .int) (ty := .int) (a0 := (12, .inl fb_z)) (N' := 12) hx hb (hts (.arrayClass .int) (by decide +kernel)) rfl hK hP hD hS hA (fun _ => rfl) (by decide) (by decide) (by decide) (Nat.le_of_ble_eq_true rfl) (Nat.le_of_ble_eq_true rfl) dX0_init_15 (fun a15 cA H hK2 hP hD hS => ?_)
  have eA := (fb_cA hK2).symm
  subst eA
  clear hK2
  have hP : va_P G vwCl [(h, .inr (0, [.ref a7, .null, .null, .null, .int 0, .int 0])), (a7, .inl (cI, 12, .inl fb_z)), (a15, .inl (cI, 12, .inl fb_z))] H := hP
  have hD : va_D A [(h, .inr (0, [.ref a7, .null, .null, .null, .int 0, .int 0])), (a7, .inl (cI, 12, .inl fb_z)), (a15, .inl (cI, 12, .inl fb_z))] := hD
  refine W.widen (k := 2) (n := 24) (by decide) (by decide) ?_
  refine va_putF (D := G) (ci := 0) (v := .ref a15) (ty := (.array .int)) (C := RX0) (T := TX0) (N := 6) hx hb hts (hin0) tyX0 tyX0_ok nmX0 hown hK hP hD hS 0 rfl rfl 1 (by decide) (hts (.fieldLink RX0 15 "FifthBeats$Piano" "off" "[I") (by decide +kernel)) (fun _ h9 => h9) rfl hin9 rfl (by decide +kernel) rfl rfl (Nat.le_of_ble_eq_true rfl) dX0_init_17 (fun H locs hP hD hS => ?_)
  have hP : va_P G vwCl [(h, .inr (0, [.ref a7, .ref a15, .null, .null, .int 0, .int 0])), (a7, .inl (cI, 12, .inl fb_z)), (a15, .inl (cI, 12, .inl fb_z))] H := hP
  have hD : va_D A [(h, .inr (0, [.ref a7, .ref a15, .null, .null, .int 0, .int 0])), (a7, .inl (cI, 12, .inl fb_z)), (a15, .inl (cI, 12, .inl fb_z))] := hD
  refine lv_aload_n hx hb dX0_init_20 rfl (lv_at hl 0 rfl) ?_
  refine lv_bipush (v := 12) hx hb dX0_init_21 (by decide) ?_
  refine va_newa (atype := .int) (ty := .int) (a0 := (12, .inl fb_z)) (N' := 12) hx hb (hts (.arrayClass .int) (by decide +kernel)) rfl hK hP hD hS hA (fun _ => rfl) (by decide) (by decide) (by decide) (Nat.le_of_ble_eq_true rfl) (Nat.le_of_ble_eq_true rfl) dX0_init_23 (fun a23 cA H hK2 hP hD hS => ?_)
  have eA := (fb_cA hK2).symm
  subst eA
  clear hK2
  have hP : va_P G vwCl [(h, .inr (0, [.ref a7, .ref a15, .null, .null, .int 0, .int 0])), (a7, .inl (cI, 12, .inl fb_z)), (a15, .inl (cI, 12, .inl fb_z)), (a23, .inl (cI, 12, .inl fb_z))] H := hP
  have hD : va_D A [(h, .inr (0, [.ref a7, .ref a15, .null, .null, .int 0, .int 0])), (a7, .inl (cI, 12, .inl fb_z)), (a15, .inl (cI, 12, .inl fb_z)), (a23, .inl (cI, 12, .inl fb_z))] := hD
  refine W.widen (k := 3) (n := 36) (by decide) (by decide) ?_
  refine va_putF (D := G) (ci := 0) (v := .ref a23) (ty := (.array .int)) (C := RX0) (T := TX0) (N := 6) hx hb hts (hin0) tyX0 tyX0_ok nmX0 hown hK hP hD hS 0 rfl rfl 2 (by decide) (hts (.fieldLink RX0 18 "FifthBeats$Piano" "drift" "[I") (by decide +kernel)) (fun _ h9 => h9) rfl hin9 rfl (by decide +kernel) rfl rfl (Nat.le_of_ble_eq_true rfl) dX0_init_25 (fun H locs hP hD hS => ?_)
  have hP : va_P G vwCl [(h, .inr (0, [.ref a7, .ref a15, .ref a23, .null, .int 0, .int 0])), (a7, .inl (cI, 12, .inl fb_z)), (a15, .inl (cI, 12, .inl fb_z)), (a23, .inl (cI, 12, .inl fb_z))] H := hP
  have hD : va_D A [(h, .inr (0, [.ref a7, .ref a15, .ref a23, .null, .int 0, .int 0])), (a7, .inl (cI, 12, .inl fb_z)), (a15, .inl (cI, 12, .inl fb_z)), (a23, .inl (cI, 12, .inl fb_z))] := hD
  refine lv_aload_n hx hb dX0_init_28 rfl (lv_at hl 0 rfl) ?_
  refine lv_bipush (v := 12) hx hb dX0_init_29 (by decide) ?_
  refine va_newa (atype := .int) (ty := .int) (a0 := (12, .inl fb_z)) (N' := 12) hx hb (hts (.arrayClass .int) (by decide +kernel)) rfl hK hP hD hS hA (fun _ => rfl) (by decide) (by decide) (by decide) (Nat.le_of_ble_eq_true rfl) (Nat.le_of_ble_eq_true rfl) dX0_init_31 (fun a31 cA H hK2 hP hD hS => ?_)
  have eA := (fb_cA hK2).symm
  subst eA
  clear hK2
  have hP : va_P G vwCl [(h, .inr (0, [.ref a7, .ref a15, .ref a23, .null, .int 0, .int 0])), (a7, .inl (cI, 12, .inl fb_z)), (a15, .inl (cI, 12, .inl fb_z)), (a23, .inl (cI, 12, .inl fb_z)), (a31, .inl (cI, 12, .inl fb_z))] H := hP
  have hD : va_D A [(h, .inr (0, [.ref a7, .ref a15, .ref a23, .null, .int 0, .int 0])), (a7, .inl (cI, 12, .inl fb_z)), (a15, .inl (cI, 12, .inl fb_z)), (a23, .inl (cI, 12, .inl fb_z)), (a31, .inl (cI, 12, .inl fb_z))] := hD
  refine W.widen (k := 4) (n := 48) (by decide) (by decide) ?_
  refine va_putF (D := G) (ci := 0) (v := .ref a31) (ty := (.array .int)) (C := RX0) (T := TX0) (N := 6) hx hb hts (hin0) tyX0 tyX0_ok nmX0 hown hK hP hD hS 0 rfl rfl 3 (by decide) (hts (.fieldLink RX0 21 "FifthBeats$Piano" "often" "[I") (by decide +kernel)) (fun _ h9 => h9) rfl hin9 rfl (by decide +kernel) rfl rfl (Nat.le_of_ble_eq_true rfl) dX0_init_33 (fun H locs hP hD hS => ?_)
  have hP : va_P G vwCl [(h, .inr (0, [.ref a7, .ref a15, .ref a23, .ref a31, .int 0, .int 0])), (a7, .inl (cI, 12, .inl fb_z)), (a15, .inl (cI, 12, .inl fb_z)), (a23, .inl (cI, 12, .inl fb_z)), (a31, .inl (cI, 12, .inl fb_z))] H := hP
  have hD : va_D A [(h, .inr (0, [.ref a7, .ref a15, .ref a23, .ref a31, .int 0, .int 0])), (a7, .inl (cI, 12, .inl fb_z)), (a15, .inl (cI, 12, .inl fb_z)), (a23, .inl (cI, 12, .inl fb_z)), (a31, .inl (cI, 12, .inl fb_z))] := hD
  refine lv_iconst (v := 0) hx hb dX0_init_36 (by decide) ?_
  refine lv_istore_n (lv' := [(1, .int 0), (0, .ref h)]) hx hb dX0_init_37 rfl hl (by decide) rfl (fun ls hl => ?_)
  have lp38 : ∀ (n9 i : Nat), i ≤ 12 → 12 < i + n9 → ∀ (H : Heap) (locs : List Loc), va_P G vwCl [(h, .inr (0, [.ref a7, .ref a15, .ref a23, .ref a31, .int 0, .int 0])), (a7, .inl (cI, 12, .inl fb_z)), (a15, .inl (cI, 12, .inl fb_z)), (a23, .inl (cI, 12, .inl fb_z)), (a31, .inl (cI, 12, .inl (fb_on i)))] H → va_D A [(h, .inr (0, [.ref a7, .ref a15, .ref a23, .ref a31, .int 0, .int 0])), (a7, .inl (cI, 12, .inl fb_z)), (a15, .inl (cI, 12, .inl fb_z)), (a23, .inl (cI, 12, .inl fb_z)), (a31, .inl (cI, 12, .inl (fb_on i)))] → va_S A s.heap H locs → ∀ ls : Array Slot, lv_has ls 2 [(1, .int (nI i)), (0, .ref h)] → W p l e ({ frames := 1, cells := 4, slots := 48, locals := 20 }) s m args below meth c H locs 4 48 (MQ below ((fb_qv G (S := Nat × Nat × Nat × Nat) (fun u => fb_PW cI h u.1 u.2.1 u.2.2.1 u.2.2.2 (upd fb_z 11 24) fb_z fb_z (fb_on 12) (nI 11) 0) (fun _ => True)) A) args s 4 48 A) (F0 m 38 ls []) := by
    intro n9
    induction n9 with
    | zero => intro i h1 h2; exact absurd h2 (by omega)
    | succ n9 ih38 =>
      intro i hi_i hin9 H locs hP hD hS ls hl
      refine lv_iload_n hx hb dX0_init_38 rfl (lv_at hl 0 rfl) ?_
      refine lv_bipush (v := 12) hx hb dX0_init_39 (by decide) ?_
      refine lv_icmp_ge (tgt := 57) hx hb dX0_init_41 (by decide) (fun c41 => ?_) (fun c41 => ?_)
      · skip
        have hxi : i = 12 := fb_lp_ex (by decide) hi_i c41
        subst hxi
        refine lv_aload_n hx hb dX0_init_57 rfl (lv_at hl 1 rfl) ?_
        refine lv_bipush (v := 11) hx hb dX0_init_58 (by decide) ?_
        refine va_put (D := G) (ci := 0) (v := .int 11) (ty := .int) (C := RX0) (T := TX0) (N := 6) hx hb hts (hin0) tyX0 tyX0_ok nmX0 hown hK hP hD hS 0 rfl rfl 4 (by decide) (hts (.fieldLink RX0 24 "FifthBeats$Piano" "wolf" "I") (by decide +kernel)) (fun _ h9 => h9) rfl (by decide +kernel) rfl rfl (Nat.le_of_ble_eq_true rfl) dX0_init_60 (fun H locs hP hD hS => ?_)
        have hP : va_P G vwCl [(h, .inr (0, [.ref a7, .ref a15, .ref a23, .ref a31, .int 11, .int 0])), (a7, .inl (cI, 12, .inl fb_z)), (a15, .inl (cI, 12, .inl fb_z)), (a23, .inl (cI, 12, .inl fb_z)), (a31, .inl (cI, 12, .inl (fb_on 12)))] H := hP
        have hD : va_D A [(h, .inr (0, [.ref a7, .ref a15, .ref a23, .ref a31, .int 11, .int 0])), (a7, .inl (cI, 12, .inl fb_z)), (a15, .inl (cI, 12, .inl fb_z)), (a23, .inl (cI, 12, .inl fb_z)), (a31, .inl (cI, 12, .inl (fb_on 12)))] := hD
        refine lv_aload_n hx hb dX0_init_63 rfl (lv_at hl 1 rfl) ?_
        refine lv_iconst (v := 0) hx hb dX0_init_64 (by decide) ?_
        refine va_put (D := G) (ci := 0) (v := .int 0) (ty := .int) (C := RX0) (T := TX0) (N := 6) hx hb hts (hin0) tyX0 tyX0_ok nmX0 hown hK hP hD hS 0 rfl rfl 5 (by decide) (hts (.fieldLink RX0 28 "FifthBeats$Piano" "day" "I") (by decide +kernel)) (fun _ h9 => h9) rfl (by decide +kernel) rfl rfl (Nat.le_of_ble_eq_true rfl) dX0_init_65 (fun H locs hP hD hS => ?_)
        have hP : va_P G vwCl [(h, .inr (0, [.ref a7, .ref a15, .ref a23, .ref a31, .int 11, .int 0])), (a7, .inl (cI, 12, .inl fb_z)), (a15, .inl (cI, 12, .inl fb_z)), (a23, .inl (cI, 12, .inl fb_z)), (a31, .inl (cI, 12, .inl (fb_on 12)))] H := hP
        have hD : va_D A [(h, .inr (0, [.ref a7, .ref a15, .ref a23, .ref a31, .int 11, .int 0])), (a7, .inl (cI, 12, .inl fb_z)), (a15, .inl (cI, 12, .inl fb_z)), (a23, .inl (cI, 12, .inl fb_z)), (a31, .inl (cI, 12, .inl (fb_on 12)))] := hD
        refine lv_aload_n hx hb dX0_init_68 rfl (lv_at hl 1 rfl) ?_
        refine va_get (D := G) (ci := 0) (v := .ref a7) (C := RX0) (T := TX0) (N := 6) hx hb hts (hin0) hown hK hP 0 rfl rfl 0 (by decide) (hts (.fieldLink RX0 9 "FifthBeats$Piano" "narrow" "[I") (by decide +kernel)) (fun _ h9 => h9) rfl dX0_init_69 ?_
        refine lv_bipush (v := 11) hx hb dX0_init_72 (by decide) ?_
        refine lv_bipush (v := 24) hx hb dX0_init_74 (by decide) ?_
        refine va_iast hx hb hK hP hD hS 1 0 rfl rfl (show vp_in (nI 11) 12 from vp_in_nI (by decide) (by decide)) dX0_init_76 (fun H locs hP hD hS => ?_)
        have hP : va_P G vwCl [(h, .inr (0, [.ref a7, .ref a15, .ref a23, .ref a31, .int 11, .int 0])), (a7, .inl (cI, 12, .inl (upd fb_z 11 24))), (a15, .inl (cI, 12, .inl fb_z)), (a23, .inl (cI, 12, .inl fb_z)), (a31, .inl (cI, 12, .inl (fb_on 12)))] H := hP
        have hD : va_D A [(h, .inr (0, [.ref a7, .ref a15, .ref a23, .ref a31, .int 11, .int 0])), (a7, .inl (cI, 12, .inl (upd fb_z 11 24))), (a15, .inl (cI, 12, .inl fb_z)), (a23, .inl (cI, 12, .inl fb_z)), (a31, .inl (cI, 12, .inl (fb_on 12)))] := hD
        have hP9 := hP.sub (ws' := [(h, .inr (0, [.ref a7, .ref a15, .ref a23, .ref a31, .int 11, .int 0])), (a7, .inl (cI, 12, .inl (upd fb_z 11 24))), (a15, .inl (cI, 12, .inl fb_z)), (a23, .inl (cI, 12, .inl fb_z)), (a31, .inl (cI, 12, .inl (fb_on 12)))]) [0, 1, 2, 3, 4] rfl
        have hD9 := hD.sub (ws' := [(h, .inr (0, [.ref a7, .ref a15, .ref a23, .ref a31, .int 11, .int 0])), (a7, .inl (cI, 12, .inl (upd fb_z 11 24))), (a15, .inl (cI, 12, .inl fb_z)), (a23, .inl (cI, 12, .inl fb_z)), (a31, .inl (cI, 12, .inl (fb_on 12)))]) [0, 1, 2, 3, 4] (by decide) rfl
        exact W.vret hx hb hr (fun t ht hW => ⟨⟨(a7, a15, a23, a31), rfl, trivial, by rw [ht]; exact hP9, hD9⟩, hS.F ht⟩) hS.2.2 dX0_init_77 hlk
      · skip
        have hi12 : i < 12 := fb_lp_in (by decide) hi_i c41
        refine lv_aload_n hx hb dX0_init_44 rfl (lv_at hl 1 rfl) ?_
        refine va_get (D := G) (ci := 0) (v := .ref a31) (C := RX0) (T := TX0) (N := 6) hx hb hts (hin0) hown hK hP 0 rfl rfl 3 (by decide) (hts (.fieldLink RX0 21 "FifthBeats$Piano" "often" "[I") (by decide +kernel)) (fun _ h9 => h9) rfl dX0_init_45 ?_
        refine lv_iload_n hx hb dX0_init_48 rfl (lv_at hl 0 rfl) ?_
        refine lv_iconst (v := 1) hx hb dX0_init_49 (by decide) ?_
        refine va_iast hx hb hK hP hD hS 4 0 rfl rfl (vp_in_nI hi12 (by decide)) dX0_init_50 (fun H locs hP hD hS => ?_)
        rw [show (nI i).toNatClampNeg = i from fb_cl (by omega)] at hP hD
        rw [show upd (fb_on i) i 1 = fb_on (i + 1) from fb_on_s i] at hP hD
        have hP : va_P G vwCl [(h, .inr (0, [.ref a7, .ref a15, .ref a23, .ref a31, .int 0, .int 0])), (a7, .inl (cI, 12, .inl fb_z)), (a15, .inl (cI, 12, .inl fb_z)), (a23, .inl (cI, 12, .inl fb_z)), (a31, .inl (cI, 12, .inl (fb_on (i + 1))))] H := hP
        have hD : va_D A [(h, .inr (0, [.ref a7, .ref a15, .ref a23, .ref a31, .int 0, .int 0])), (a7, .inl (cI, 12, .inl fb_z)), (a15, .inl (cI, 12, .inl fb_z)), (a23, .inl (cI, 12, .inl fb_z)), (a31, .inl (cI, 12, .inl (fb_on (i + 1))))] := hD
        refine lv_iinc (v := nI (i + 1)) (lv' := [(1, .int (nI (i + 1))), (0, .ref h)]) hx hb dX0_init_51 hl (k := 0) rfl (show nI i + 1 = nI (i + 1) from nI_1 i) (by decide) rfl (fun ls hl => ?_)
        refine lv_goto (tgt := 38) hx hb dX0_init_54 (by decide) ?_
        exact ih38 (i + 1) (by omega) (by omega) _ _ (hP) (hD) hS _ (lv_sub hl [0, 1] (rfl))
  exact lp38 (12 + 1) 0 (by omega) (by omega) _ _ (by rw [fb_on_0]; exact hP) (by rw [fb_on_0]; exact hD) hS _ (lv_sub hl [0, 1] (rfl))
set_option maxHeartbeats 4000000 in
set_option maxRecDepth 100000 in
theorem fb_c_X2_init (l : Launch) (G : va_G) (cI cL : ClassId) (h : Nat) (sz : Nat) : fb_MG l yX2_init wsX2_init 1 20 4 48 [.ref h] G cI cL sz [(h, .inr (2, [.int 0, .int 0, .int 0, .null, .null, .null, .null]))] (fb_qv G (S := Nat × Nat × Nat × Nat) (fun u => fb_MW cI h u.1 u.2.1 u.2.2.1 u.2.2.2 fb_z fb_z fb_o12 fb_z 0 0 (nI 11)) (fun _ => True)) := by
  refine fb_mg_of (cc := cX2_init) (maxL := 1) (ret := none) (by decide) rfl (Nat.le_of_ble_eq_true rfl) ?_
  intro p e s m args below meth c A hx hb hr hml hlk hts hown hP hK hD hA hX hin9 ls hl
  have hown : s.vm.findClass RX2 = some m.cls := hown
  have hP : va_P G vwCl [(h, .inr (2, [.int 0, .int 0, .int 0, .null, .null, .null, .null]))] s.heap := hP
  have hD : va_D A [(h, .inr (2, [.int 0, .int 0, .int 0, .null, .null, .null, .null]))] := hD
  have hS : va_S A s.heap s.heap [] := va_S.rf
  have hXn : ∀ (H : Heap) (locs : List Loc), va_S A s.heap H locs → fb_sx (fun _ => False) s H := fun H locs h9 => (hX.kept h9.2.1).narrow (fun _ z => z.elim)
  have hl : lv_has ls 1 [(0, .ref h)] := hl
  have hin2 : ∀ w ∈ u_ws RX2 TX2 7, w ∈ wsX2_init := by decide +kernel
  refine lv_aload_n hx hb dX2_init_0 rfl (lv_at hl 0 rfl) ?_
  refine W.objInit hx hb hown (hts (.methodLink RX2 1 objectInit) (by decide +kernel)) (hts (.instanceMethod objectInit) (by decide +kernel)) (hts (.code objectInit ⟨#[0xb1]⟩ 1 none) (by decide +kernel)) rfl (by rw [hml]; exact hl.1) rfl dX2_init_1 (Nat.le_of_ble_eq_true rfl) (Nat.le_of_ble_eq_true rfl) ?_
  refine W.eq (g2 := F0 m 4 ls []) rfl ?_
  refine lv_aload_n hx hb dX2_init_4 rfl (lv_at hl 0 rfl) ?_
  refine lv_bipush (v := 11) hx hb dX2_init_5 (by decide) ?_
  refine va_put (D := G) (ci := 2) (v := .int 11) (ty := .int) (C := RX2) (T := TX2) (N := 7) hx hb hts (hin2) tyX2 tyX2_ok nmX2 hown hK hP hD hS 0 rfl rfl 2 (by decide) (hts (.fieldLink RX2 7 "FifthBeatsModel" "wolf" "I") (by decide +kernel)) (fun _ h9 => h9) rfl (by decide +kernel) rfl rfl (Nat.le_of_ble_eq_true rfl) dX2_init_7 (fun H locs hP hD hS => ?_)
  have hP : va_P G vwCl [(h, .inr (2, [.int 0, .int 0, .int 11, .null, .null, .null, .null]))] H := hP
  have hD : va_D A [(h, .inr (2, [.int 0, .int 0, .int 11, .null, .null, .null, .null]))] := hD
  refine lv_aload_n hx hb dX2_init_10 rfl (lv_at hl 0 rfl) ?_
  refine lv_bipush (v := 12) hx hb dX2_init_11 (by decide) ?_
  refine va_newa (atype := .int) (ty := .int) (a0 := (12, .inl fb_z)) (N' := 12) hx hb (hts (.arrayClass .int) (by decide +kernel)) rfl hK hP hD hS hA (fun _ => rfl) (by decide) (by decide) (by decide) (Nat.le_of_ble_eq_true rfl) (Nat.le_of_ble_eq_true rfl) dX2_init_13 (fun a13 cA H hK2 hP hD hS => ?_)
  have eA := (fb_cA hK2).symm
  subst eA
  clear hK2
  have hP : va_P G vwCl [(h, .inr (2, [.int 0, .int 0, .int 11, .null, .null, .null, .null])), (a13, .inl (cI, 12, .inl fb_z))] H := hP
  have hD : va_D A [(h, .inr (2, [.int 0, .int 0, .int 11, .null, .null, .null, .null])), (a13, .inl (cI, 12, .inl fb_z))] := hD
  refine W.widen (k := 1) (n := 12) (by decide) (by decide) ?_
  refine va_putF (D := G) (ci := 2) (v := .ref a13) (ty := (.array .int)) (C := RX2) (T := TX2) (N := 7) hx hb hts (hin2) tyX2 tyX2_ok nmX2 hown hK hP hD hS 0 rfl rfl 3 (by decide) (hts (.fieldLink RX2 13 "FifthBeatsModel" "plan" "[I") (by decide +kernel)) (fun _ h9 => h9) rfl hin9 rfl (by decide +kernel) rfl rfl (Nat.le_of_ble_eq_true rfl) dX2_init_15 (fun H locs hP hD hS => ?_)
  have hP : va_P G vwCl [(h, .inr (2, [.int 0, .int 0, .int 11, .ref a13, .null, .null, .null])), (a13, .inl (cI, 12, .inl fb_z))] H := hP
  have hD : va_D A [(h, .inr (2, [.int 0, .int 0, .int 11, .ref a13, .null, .null, .null])), (a13, .inl (cI, 12, .inl fb_z))] := hD
  refine lv_aload_n hx hb dX2_init_18 rfl (lv_at hl 0 rfl) ?_
  refine lv_bipush (v := 12) hx hb dX2_init_19 (by decide) ?_
  refine va_newa (atype := .int) (ty := .int) (a0 := (12, .inl fb_z)) (N' := 12) hx hb (hts (.arrayClass .int) (by decide +kernel)) rfl hK hP hD hS hA (fun _ => rfl) (by decide) (by decide) (by decide) (Nat.le_of_ble_eq_true rfl) (Nat.le_of_ble_eq_true rfl) dX2_init_21 (fun a21 cA H hK2 hP hD hS => ?_)
  have eA := (fb_cA hK2).symm
  subst eA
  clear hK2
  have hP : va_P G vwCl [(h, .inr (2, [.int 0, .int 0, .int 11, .ref a13, .null, .null, .null])), (a13, .inl (cI, 12, .inl fb_z)), (a21, .inl (cI, 12, .inl fb_z))] H := hP
  have hD : va_D A [(h, .inr (2, [.int 0, .int 0, .int 11, .ref a13, .null, .null, .null])), (a13, .inl (cI, 12, .inl fb_z)), (a21, .inl (cI, 12, .inl fb_z))] := hD
  refine W.widen (k := 2) (n := 24) (by decide) (by decide) ?_
  refine va_putF (D := G) (ci := 2) (v := .ref a21) (ty := (.array .int)) (C := RX2) (T := TX2) (N := 7) hx hb hts (hin2) tyX2 tyX2_ok nmX2 hown hK hP hD hS 0 rfl rfl 4 (by decide) (hts (.fieldLink RX2 17 "FifthBeatsModel" "drift" "[I") (by decide +kernel)) (fun _ h9 => h9) rfl hin9 rfl (by decide +kernel) rfl rfl (Nat.le_of_ble_eq_true rfl) dX2_init_23 (fun H locs hP hD hS => ?_)
  have hP : va_P G vwCl [(h, .inr (2, [.int 0, .int 0, .int 11, .ref a13, .ref a21, .null, .null])), (a13, .inl (cI, 12, .inl fb_z)), (a21, .inl (cI, 12, .inl fb_z))] H := hP
  have hD : va_D A [(h, .inr (2, [.int 0, .int 0, .int 11, .ref a13, .ref a21, .null, .null])), (a13, .inl (cI, 12, .inl fb_z)), (a21, .inl (cI, 12, .inl fb_z))] := hD
  refine lv_aload_n hx hb dX2_init_26 rfl (lv_at hl 0 rfl) ?_
  refine lv_bipush (v := 12) hx hb dX2_init_27 (by decide) ?_
  refine va_newa (atype := .int) (ty := .int) (a0 := (12, .inl fb_z)) (N' := 12) hx hb (hts (.arrayClass .int) (by decide +kernel)) rfl hK hP hD hS hA (fun _ => rfl) (by decide) (by decide) (by decide) (Nat.le_of_ble_eq_true rfl) (Nat.le_of_ble_eq_true rfl) dX2_init_29 (fun a29 cA H hK2 hP hD hS => ?_)
  have eA := (fb_cA hK2).symm
  subst eA
  clear hK2
  have hP : va_P G vwCl [(h, .inr (2, [.int 0, .int 0, .int 11, .ref a13, .ref a21, .null, .null])), (a13, .inl (cI, 12, .inl fb_z)), (a21, .inl (cI, 12, .inl fb_z)), (a29, .inl (cI, 12, .inl fb_z))] H := hP
  have hD : va_D A [(h, .inr (2, [.int 0, .int 0, .int 11, .ref a13, .ref a21, .null, .null])), (a13, .inl (cI, 12, .inl fb_z)), (a21, .inl (cI, 12, .inl fb_z)), (a29, .inl (cI, 12, .inl fb_z))] := hD
  refine W.widen (k := 3) (n := 36) (by decide) (by decide) ?_
  refine lv_dup hx hb dX2_init_31 rfl ?_
  refine lv_iconst (v := 0) hx hb dX2_init_32 (by decide) ?_
  refine lv_iconst (v := 1) hx hb dX2_init_33 (by decide) ?_
  refine va_iast hx hb hK hP hD hS 3 0 rfl rfl (show vp_in (nI 0) 12 from vp_in_nI (by decide) (by decide)) dX2_init_34 (fun H locs hP hD hS => ?_)
  have hP : va_P G vwCl [(h, .inr (2, [.int 0, .int 0, .int 11, .ref a13, .ref a21, .null, .null])), (a13, .inl (cI, 12, .inl fb_z)), (a21, .inl (cI, 12, .inl fb_z)), (a29, .inl (cI, 12, .inl (upd fb_z 0 1)))] H := hP
  have hD : va_D A [(h, .inr (2, [.int 0, .int 0, .int 11, .ref a13, .ref a21, .null, .null])), (a13, .inl (cI, 12, .inl fb_z)), (a21, .inl (cI, 12, .inl fb_z)), (a29, .inl (cI, 12, .inl (upd fb_z 0 1)))] := hD
  refine lv_dup hx hb dX2_init_35 rfl ?_
  refine lv_iconst (v := 1) hx hb dX2_init_36 (by decide) ?_
  refine lv_iconst (v := 1) hx hb dX2_init_37 (by decide) ?_
  refine va_iast hx hb hK hP hD hS 3 0 rfl rfl (show vp_in (nI 1) 12 from vp_in_nI (by decide) (by decide)) dX2_init_38 (fun H locs hP hD hS => ?_)
  have hP : va_P G vwCl [(h, .inr (2, [.int 0, .int 0, .int 11, .ref a13, .ref a21, .null, .null])), (a13, .inl (cI, 12, .inl fb_z)), (a21, .inl (cI, 12, .inl fb_z)), (a29, .inl (cI, 12, .inl (upd (upd fb_z 0 1) 1 1)))] H := hP
  have hD : va_D A [(h, .inr (2, [.int 0, .int 0, .int 11, .ref a13, .ref a21, .null, .null])), (a13, .inl (cI, 12, .inl fb_z)), (a21, .inl (cI, 12, .inl fb_z)), (a29, .inl (cI, 12, .inl (upd (upd fb_z 0 1) 1 1)))] := hD
  refine lv_dup hx hb dX2_init_39 rfl ?_
  refine lv_iconst (v := 2) hx hb dX2_init_40 (by decide) ?_
  refine lv_iconst (v := 1) hx hb dX2_init_41 (by decide) ?_
  refine va_iast hx hb hK hP hD hS 3 0 rfl rfl (show vp_in (nI 2) 12 from vp_in_nI (by decide) (by decide)) dX2_init_42 (fun H locs hP hD hS => ?_)
  have hP : va_P G vwCl [(h, .inr (2, [.int 0, .int 0, .int 11, .ref a13, .ref a21, .null, .null])), (a13, .inl (cI, 12, .inl fb_z)), (a21, .inl (cI, 12, .inl fb_z)), (a29, .inl (cI, 12, .inl (upd (upd (upd fb_z 0 1) 1 1) 2 1)))] H := hP
  have hD : va_D A [(h, .inr (2, [.int 0, .int 0, .int 11, .ref a13, .ref a21, .null, .null])), (a13, .inl (cI, 12, .inl fb_z)), (a21, .inl (cI, 12, .inl fb_z)), (a29, .inl (cI, 12, .inl (upd (upd (upd fb_z 0 1) 1 1) 2 1)))] := hD
  refine lv_dup hx hb dX2_init_43 rfl ?_
  refine lv_iconst (v := 3) hx hb dX2_init_44 (by decide) ?_
  refine lv_iconst (v := 1) hx hb dX2_init_45 (by decide) ?_
  refine va_iast hx hb hK hP hD hS 3 0 rfl rfl (show vp_in (nI 3) 12 from vp_in_nI (by decide) (by decide)) dX2_init_46 (fun H locs hP hD hS => ?_)
  have hP : va_P G vwCl [(h, .inr (2, [.int 0, .int 0, .int 11, .ref a13, .ref a21, .null, .null])), (a13, .inl (cI, 12, .inl fb_z)), (a21, .inl (cI, 12, .inl fb_z)), (a29, .inl (cI, 12, .inl (upd (upd (upd (upd fb_z 0 1) 1 1) 2 1) 3 1)))] H := hP
  have hD : va_D A [(h, .inr (2, [.int 0, .int 0, .int 11, .ref a13, .ref a21, .null, .null])), (a13, .inl (cI, 12, .inl fb_z)), (a21, .inl (cI, 12, .inl fb_z)), (a29, .inl (cI, 12, .inl (upd (upd (upd (upd fb_z 0 1) 1 1) 2 1) 3 1)))] := hD
  refine lv_dup hx hb dX2_init_47 rfl ?_
  refine lv_iconst (v := 4) hx hb dX2_init_48 (by decide) ?_
  refine lv_iconst (v := 1) hx hb dX2_init_49 (by decide) ?_
  refine va_iast hx hb hK hP hD hS 3 0 rfl rfl (show vp_in (nI 4) 12 from vp_in_nI (by decide) (by decide)) dX2_init_50 (fun H locs hP hD hS => ?_)
  have hP : va_P G vwCl [(h, .inr (2, [.int 0, .int 0, .int 11, .ref a13, .ref a21, .null, .null])), (a13, .inl (cI, 12, .inl fb_z)), (a21, .inl (cI, 12, .inl fb_z)), (a29, .inl (cI, 12, .inl (upd (upd (upd (upd (upd fb_z 0 1) 1 1) 2 1) 3 1) 4 1)))] H := hP
  have hD : va_D A [(h, .inr (2, [.int 0, .int 0, .int 11, .ref a13, .ref a21, .null, .null])), (a13, .inl (cI, 12, .inl fb_z)), (a21, .inl (cI, 12, .inl fb_z)), (a29, .inl (cI, 12, .inl (upd (upd (upd (upd (upd fb_z 0 1) 1 1) 2 1) 3 1) 4 1)))] := hD
  refine lv_dup hx hb dX2_init_51 rfl ?_
  refine lv_iconst (v := 5) hx hb dX2_init_52 (by decide) ?_
  refine lv_iconst (v := 1) hx hb dX2_init_53 (by decide) ?_
  refine va_iast hx hb hK hP hD hS 3 0 rfl rfl (show vp_in (nI 5) 12 from vp_in_nI (by decide) (by decide)) dX2_init_54 (fun H locs hP hD hS => ?_)
  have hP : va_P G vwCl [(h, .inr (2, [.int 0, .int 0, .int 11, .ref a13, .ref a21, .null, .null])), (a13, .inl (cI, 12, .inl fb_z)), (a21, .inl (cI, 12, .inl fb_z)), (a29, .inl (cI, 12, .inl (upd (upd (upd (upd (upd (upd fb_z 0 1) 1 1) 2 1) 3 1) 4 1) 5 1)))] H := hP
  have hD : va_D A [(h, .inr (2, [.int 0, .int 0, .int 11, .ref a13, .ref a21, .null, .null])), (a13, .inl (cI, 12, .inl fb_z)), (a21, .inl (cI, 12, .inl fb_z)), (a29, .inl (cI, 12, .inl (upd (upd (upd (upd (upd (upd fb_z 0 1) 1 1) 2 1) 3 1) 4 1) 5 1)))] := hD
  refine lv_dup hx hb dX2_init_55 rfl ?_
  refine lv_bipush (v := 6) hx hb dX2_init_56 (by decide) ?_
  refine lv_iconst (v := 1) hx hb dX2_init_58 (by decide) ?_
  refine va_iast hx hb hK hP hD hS 3 0 rfl rfl (show vp_in (nI 6) 12 from vp_in_nI (by decide) (by decide)) dX2_init_59 (fun H locs hP hD hS => ?_)
  have hP : va_P G vwCl [(h, .inr (2, [.int 0, .int 0, .int 11, .ref a13, .ref a21, .null, .null])), (a13, .inl (cI, 12, .inl fb_z)), (a21, .inl (cI, 12, .inl fb_z)), (a29, .inl (cI, 12, .inl (upd (upd (upd (upd (upd (upd (upd fb_z 0 1) 1 1) 2 1) 3 1) 4 1) 5 1) 6 1)))] H := hP
  have hD : va_D A [(h, .inr (2, [.int 0, .int 0, .int 11, .ref a13, .ref a21, .null, .null])), (a13, .inl (cI, 12, .inl fb_z)), (a21, .inl (cI, 12, .inl fb_z)), (a29, .inl (cI, 12, .inl (upd (upd (upd (upd (upd (upd (upd fb_z 0 1) 1 1) 2 1) 3 1) 4 1) 5 1) 6 1)))] := hD
  refine lv_dup hx hb dX2_init_60 rfl ?_
  refine lv_bipush (v := 7) hx hb dX2_init_61 (by decide) ?_
  refine lv_iconst (v := 1) hx hb dX2_init_63 (by decide) ?_
  refine va_iast hx hb hK hP hD hS 3 0 rfl rfl (show vp_in (nI 7) 12 from vp_in_nI (by decide) (by decide)) dX2_init_64 (fun H locs hP hD hS => ?_)
  have hP : va_P G vwCl [(h, .inr (2, [.int 0, .int 0, .int 11, .ref a13, .ref a21, .null, .null])), (a13, .inl (cI, 12, .inl fb_z)), (a21, .inl (cI, 12, .inl fb_z)), (a29, .inl (cI, 12, .inl (upd (upd (upd (upd (upd (upd (upd (upd fb_z 0 1) 1 1) 2 1) 3 1) 4 1) 5 1) 6 1) 7 1)))] H := hP
  have hD : va_D A [(h, .inr (2, [.int 0, .int 0, .int 11, .ref a13, .ref a21, .null, .null])), (a13, .inl (cI, 12, .inl fb_z)), (a21, .inl (cI, 12, .inl fb_z)), (a29, .inl (cI, 12, .inl (upd (upd (upd (upd (upd (upd (upd (upd fb_z 0 1) 1 1) 2 1) 3 1) 4 1) 5 1) 6 1) 7 1)))] := hD
  refine lv_dup hx hb dX2_init_65 rfl ?_
  refine lv_bipush (v := 8) hx hb dX2_init_66 (by decide) ?_
  refine lv_iconst (v := 1) hx hb dX2_init_68 (by decide) ?_
  refine va_iast hx hb hK hP hD hS 3 0 rfl rfl (show vp_in (nI 8) 12 from vp_in_nI (by decide) (by decide)) dX2_init_69 (fun H locs hP hD hS => ?_)
  have hP : va_P G vwCl [(h, .inr (2, [.int 0, .int 0, .int 11, .ref a13, .ref a21, .null, .null])), (a13, .inl (cI, 12, .inl fb_z)), (a21, .inl (cI, 12, .inl fb_z)), (a29, .inl (cI, 12, .inl (upd (upd (upd (upd (upd (upd (upd (upd (upd fb_z 0 1) 1 1) 2 1) 3 1) 4 1) 5 1) 6 1) 7 1) 8 1)))] H := hP
  have hD : va_D A [(h, .inr (2, [.int 0, .int 0, .int 11, .ref a13, .ref a21, .null, .null])), (a13, .inl (cI, 12, .inl fb_z)), (a21, .inl (cI, 12, .inl fb_z)), (a29, .inl (cI, 12, .inl (upd (upd (upd (upd (upd (upd (upd (upd (upd fb_z 0 1) 1 1) 2 1) 3 1) 4 1) 5 1) 6 1) 7 1) 8 1)))] := hD
  refine lv_dup hx hb dX2_init_70 rfl ?_
  refine lv_bipush (v := 9) hx hb dX2_init_71 (by decide) ?_
  refine lv_iconst (v := 1) hx hb dX2_init_73 (by decide) ?_
  refine va_iast hx hb hK hP hD hS 3 0 rfl rfl (show vp_in (nI 9) 12 from vp_in_nI (by decide) (by decide)) dX2_init_74 (fun H locs hP hD hS => ?_)
  have hP : va_P G vwCl [(h, .inr (2, [.int 0, .int 0, .int 11, .ref a13, .ref a21, .null, .null])), (a13, .inl (cI, 12, .inl fb_z)), (a21, .inl (cI, 12, .inl fb_z)), (a29, .inl (cI, 12, .inl (upd (upd (upd (upd (upd (upd (upd (upd (upd (upd fb_z 0 1) 1 1) 2 1) 3 1) 4 1) 5 1) 6 1) 7 1) 8 1) 9 1)))] H := hP
  have hD : va_D A [(h, .inr (2, [.int 0, .int 0, .int 11, .ref a13, .ref a21, .null, .null])), (a13, .inl (cI, 12, .inl fb_z)), (a21, .inl (cI, 12, .inl fb_z)), (a29, .inl (cI, 12, .inl (upd (upd (upd (upd (upd (upd (upd (upd (upd (upd fb_z 0 1) 1 1) 2 1) 3 1) 4 1) 5 1) 6 1) 7 1) 8 1) 9 1)))] := hD
  refine lv_dup hx hb dX2_init_75 rfl ?_
  refine lv_bipush (v := 10) hx hb dX2_init_76 (by decide) ?_
  refine lv_iconst (v := 1) hx hb dX2_init_78 (by decide) ?_
  refine va_iast hx hb hK hP hD hS 3 0 rfl rfl (show vp_in (nI 10) 12 from vp_in_nI (by decide) (by decide)) dX2_init_79 (fun H locs hP hD hS => ?_)
  have hP : va_P G vwCl [(h, .inr (2, [.int 0, .int 0, .int 11, .ref a13, .ref a21, .null, .null])), (a13, .inl (cI, 12, .inl fb_z)), (a21, .inl (cI, 12, .inl fb_z)), (a29, .inl (cI, 12, .inl (upd (upd (upd (upd (upd (upd (upd (upd (upd (upd (upd fb_z 0 1) 1 1) 2 1) 3 1) 4 1) 5 1) 6 1) 7 1) 8 1) 9 1) 10 1)))] H := hP
  have hD : va_D A [(h, .inr (2, [.int 0, .int 0, .int 11, .ref a13, .ref a21, .null, .null])), (a13, .inl (cI, 12, .inl fb_z)), (a21, .inl (cI, 12, .inl fb_z)), (a29, .inl (cI, 12, .inl (upd (upd (upd (upd (upd (upd (upd (upd (upd (upd (upd fb_z 0 1) 1 1) 2 1) 3 1) 4 1) 5 1) 6 1) 7 1) 8 1) 9 1) 10 1)))] := hD
  refine lv_dup hx hb dX2_init_80 rfl ?_
  refine lv_bipush (v := 11) hx hb dX2_init_81 (by decide) ?_
  refine lv_iconst (v := 1) hx hb dX2_init_83 (by decide) ?_
  refine va_iast hx hb hK hP hD hS 3 0 rfl rfl (show vp_in (nI 11) 12 from vp_in_nI (by decide) (by decide)) dX2_init_84 (fun H locs hP hD hS => ?_)
  have hP : va_P G vwCl [(h, .inr (2, [.int 0, .int 0, .int 11, .ref a13, .ref a21, .null, .null])), (a13, .inl (cI, 12, .inl fb_z)), (a21, .inl (cI, 12, .inl fb_z)), (a29, .inl (cI, 12, .inl (upd (upd (upd (upd (upd (upd (upd (upd (upd (upd (upd (upd fb_z 0 1) 1 1) 2 1) 3 1) 4 1) 5 1) 6 1) 7 1) 8 1) 9 1) 10 1) 11 1)))] H := hP
  have hD : va_D A [(h, .inr (2, [.int 0, .int 0, .int 11, .ref a13, .ref a21, .null, .null])), (a13, .inl (cI, 12, .inl fb_z)), (a21, .inl (cI, 12, .inl fb_z)), (a29, .inl (cI, 12, .inl (upd (upd (upd (upd (upd (upd (upd (upd (upd (upd (upd (upd fb_z 0 1) 1 1) 2 1) 3 1) 4 1) 5 1) 6 1) 7 1) 8 1) 9 1) 10 1) 11 1)))] := hD
  refine va_putF (D := G) (ci := 2) (v := .ref a29) (ty := (.array .int)) (C := RX2) (T := TX2) (N := 7) hx hb hts (hin2) tyX2 tyX2_ok nmX2 hown hK hP hD hS 0 rfl rfl 5 (by decide) (hts (.fieldLink RX2 20 "FifthBeatsModel" "often" "[I") (by decide +kernel)) (fun _ h9 => h9) rfl hin9 rfl (by decide +kernel) rfl rfl (Nat.le_of_ble_eq_true rfl) dX2_init_85 (fun H locs hP hD hS => ?_)
  have hP : va_P G vwCl [(h, .inr (2, [.int 0, .int 0, .int 11, .ref a13, .ref a21, .ref a29, .null])), (a13, .inl (cI, 12, .inl fb_z)), (a21, .inl (cI, 12, .inl fb_z)), (a29, .inl (cI, 12, .inl (upd (upd (upd (upd (upd (upd (upd (upd (upd (upd (upd (upd fb_z 0 1) 1 1) 2 1) 3 1) 4 1) 5 1) 6 1) 7 1) 8 1) 9 1) 10 1) 11 1)))] H := hP
  have hD : va_D A [(h, .inr (2, [.int 0, .int 0, .int 11, .ref a13, .ref a21, .ref a29, .null])), (a13, .inl (cI, 12, .inl fb_z)), (a21, .inl (cI, 12, .inl fb_z)), (a29, .inl (cI, 12, .inl (upd (upd (upd (upd (upd (upd (upd (upd (upd (upd (upd (upd fb_z 0 1) 1 1) 2 1) 3 1) 4 1) 5 1) 6 1) 7 1) 8 1) 9 1) 10 1) 11 1)))] := hD
  refine lv_aload_n hx hb dX2_init_88 rfl (lv_at hl 0 rfl) ?_
  refine lv_bipush (v := 12) hx hb dX2_init_89 (by decide) ?_
  refine va_newa (atype := .int) (ty := .int) (a0 := (12, .inl fb_z)) (N' := 12) hx hb (hts (.arrayClass .int) (by decide +kernel)) rfl hK hP hD hS hA (fun _ => rfl) (by decide) (by decide) (by decide) (Nat.le_of_ble_eq_true rfl) (Nat.le_of_ble_eq_true rfl) dX2_init_91 (fun a91 cA H hK2 hP hD hS => ?_)
  have eA := (fb_cA hK2).symm
  subst eA
  clear hK2
  have hP : va_P G vwCl [(h, .inr (2, [.int 0, .int 0, .int 11, .ref a13, .ref a21, .ref a29, .null])), (a13, .inl (cI, 12, .inl fb_z)), (a21, .inl (cI, 12, .inl fb_z)), (a29, .inl (cI, 12, .inl (upd (upd (upd (upd (upd (upd (upd (upd (upd (upd (upd (upd fb_z 0 1) 1 1) 2 1) 3 1) 4 1) 5 1) 6 1) 7 1) 8 1) 9 1) 10 1) 11 1))), (a91, .inl (cI, 12, .inl fb_z))] H := hP
  have hD : va_D A [(h, .inr (2, [.int 0, .int 0, .int 11, .ref a13, .ref a21, .ref a29, .null])), (a13, .inl (cI, 12, .inl fb_z)), (a21, .inl (cI, 12, .inl fb_z)), (a29, .inl (cI, 12, .inl (upd (upd (upd (upd (upd (upd (upd (upd (upd (upd (upd (upd fb_z 0 1) 1 1) 2 1) 3 1) 4 1) 5 1) 6 1) 7 1) 8 1) 9 1) 10 1) 11 1))), (a91, .inl (cI, 12, .inl fb_z))] := hD
  refine W.widen (k := 4) (n := 48) (by decide) (by decide) ?_
  refine va_put (D := G) (ci := 2) (v := .ref a91) (ty := (.array .int)) (C := RX2) (T := TX2) (N := 7) hx hb hts (hin2) tyX2 tyX2_ok nmX2 hown hK hP hD hS 0 rfl rfl 6 (by decide) (hts (.fieldLink RX2 23 "FifthBeatsModel" "off" "[I") (by decide +kernel)) (fun _ h9 => h9) rfl (by decide +kernel) rfl rfl (Nat.le_of_ble_eq_true rfl) dX2_init_93 (fun H locs hP hD hS => ?_)
  have hP : va_P G vwCl [(h, .inr (2, [.int 0, .int 0, .int 11, .ref a13, .ref a21, .ref a29, .ref a91])), (a13, .inl (cI, 12, .inl fb_z)), (a21, .inl (cI, 12, .inl fb_z)), (a29, .inl (cI, 12, .inl (upd (upd (upd (upd (upd (upd (upd (upd (upd (upd (upd (upd fb_z 0 1) 1 1) 2 1) 3 1) 4 1) 5 1) 6 1) 7 1) 8 1) 9 1) 10 1) 11 1))), (a91, .inl (cI, 12, .inl fb_z))] H := hP
  have hD : va_D A [(h, .inr (2, [.int 0, .int 0, .int 11, .ref a13, .ref a21, .ref a29, .ref a91])), (a13, .inl (cI, 12, .inl fb_z)), (a21, .inl (cI, 12, .inl fb_z)), (a29, .inl (cI, 12, .inl (upd (upd (upd (upd (upd (upd (upd (upd (upd (upd (upd (upd fb_z 0 1) 1 1) 2 1) 3 1) 4 1) 5 1) 6 1) 7 1) 8 1) 9 1) 10 1) 11 1))), (a91, .inl (cI, 12, .inl fb_z))] := hD
  have hP9 := hP.sub (ws' := [(h, .inr (2, [.int 0, .int 0, .int 11, .ref a13, .ref a21, .ref a29, .ref a91])), (a13, .inl (cI, 12, .inl fb_z)), (a21, .inl (cI, 12, .inl fb_z)), (a29, .inl (cI, 12, .inl (upd (upd (upd (upd (upd (upd (upd (upd (upd (upd (upd (upd fb_z 0 1) 1 1) 2 1) 3 1) 4 1) 5 1) 6 1) 7 1) 8 1) 9 1) 10 1) 11 1))), (a91, .inl (cI, 12, .inl fb_z))]) [0, 1, 2, 3, 4] rfl
  have hD9 := hD.sub (ws' := [(h, .inr (2, [.int 0, .int 0, .int 11, .ref a13, .ref a21, .ref a29, .ref a91])), (a13, .inl (cI, 12, .inl fb_z)), (a21, .inl (cI, 12, .inl fb_z)), (a29, .inl (cI, 12, .inl (upd (upd (upd (upd (upd (upd (upd (upd (upd (upd (upd (upd fb_z 0 1) 1 1) 2 1) 3 1) 4 1) 5 1) 6 1) 7 1) 8 1) 9 1) 10 1) 11 1))), (a91, .inl (cI, 12, .inl fb_z))]) [0, 1, 2, 3, 4] (by decide) rfl
  exact W.vret hx hb hr (fun t ht hW => ⟨⟨(a13, a21, a29, a91), rfl, trivial, by rw [ht]; exact hP9, hD9⟩, hS.F ht⟩) hS.2.2 dX2_init_96 hlk
set_option maxHeartbeats 4000000 in
set_option maxRecDepth 100000 in
theorem fb_c_X1_init (l : Launch) (G : va_G) (cI cL : ClassId) (x : Nat) (sz : Nat) : fb_MG l yX1_init wsX1_init 2 41 10 108 [.ref x] G cI cL sz [(x, .inr (1, [.null, .null]))] (fb_qv G (S := (Nat × Nat × Nat × Nat × Nat) × (Nat × Nat × Nat × Nat × Nat)) (fun u => [(x, .inr (1, [.ref u.1.1, .ref u.2.1])), (u.1.1, .inr (0, [.ref u.1.2.1, .ref u.1.2.2.1, .ref u.1.2.2.2.1, .ref u.1.2.2.2.2, .int (nI 11), .int 0])), (u.1.2.1, .inl (cI, 12, .inl (upd fb_z 11 24))), (u.1.2.2.1, .inl (cI, 12, .inl fb_z)), (u.1.2.2.2.1, .inl (cI, 12, .inl fb_z)), (u.1.2.2.2.2, .inl (cI, 12, .inl (fb_on 12))), (u.2.1, .inr (0, [.ref u.2.2.1, .ref u.2.2.2.1, .ref u.2.2.2.2.1, .ref u.2.2.2.2.2, .int (nI 11), .int 0])), (u.2.2.1, .inl (cI, 12, .inl (upd fb_z 11 24))), (u.2.2.2.1, .inl (cI, 12, .inl fb_z)), (u.2.2.2.2.1, .inl (cI, 12, .inl fb_z)), (u.2.2.2.2.2, .inl (cI, 12, .inl (fb_on 12)))]) (fun _ => True)) := by
  refine fb_mg_of (cc := cX1_init) (maxL := 1) (ret := none) (by decide) rfl (Nat.le_of_ble_eq_true rfl) ?_
  intro p e s m args below meth c A hx hb hr hml hlk hts hown hP hK hD hA hX hin9 ls hl
  have hown : s.vm.findClass RX1 = some m.cls := hown
  have hP : va_P G vwCl [(x, .inr (1, [.null, .null]))] s.heap := hP
  have hD : va_D A [(x, .inr (1, [.null, .null]))] := hD
  have hS : va_S A s.heap s.heap [] := va_S.rf
  have hXn : ∀ (H : Heap) (locs : List Loc), va_S A s.heap H locs → fb_sx (fun _ => False) s H := fun H locs h9 => (hX.kept h9.2.1).narrow (fun _ z => z.elim)
  have hl : lv_has ls 1 [(0, .ref x)] := hl
  have hin0 : ∀ w ∈ u_ws RX0 TX0 6, w ∈ wsX1_init := by decide +kernel
  have hin1 : ∀ w ∈ u_ws RX1 TX1 2, w ∈ wsX1_init := by decide +kernel
  refine lv_aload_n hx hb dX1_init_0 rfl (lv_at hl 0 rfl) ?_
  refine W.objInit hx hb hown (hts (.methodLink RX1 1 objectInit) (by decide +kernel)) (hts (.instanceMethod objectInit) (by decide +kernel)) (hts (.code objectInit ⟨#[0xb1]⟩ 1 none) (by decide +kernel)) rfl (by rw [hml]; exact hl.1) rfl dX1_init_1 (Nat.le_of_ble_eq_true rfl) (Nat.le_of_ble_eq_true rfl) ?_
  refine W.eq (g2 := F0 m 4 ls []) rfl ?_
  refine lv_aload_n hx hb dX1_init_4 rfl (lv_at hl 0 rfl) ?_
  refine va_new (ci := 0) (fs := [.null, .null, .null, .null, .int 0, .int 0]) (C := RX0) (T := TX0) (N := 6) hx hb hts (hin0) tyX0 tyX0_ok hown (hts (.classLink RX1 7 RX0) (by decide +kernel)) (hts (.instantiable RX0 6) (by decide +kernel)) (hts (.initialized RX0) (by decide +kernel)) hK hP hD hS hA rfl (fun j hj => by rcases (show j = 0 ∨ j = 1 ∨ j = 2 ∨ j = 3 ∨ j = 4 ∨ j = 5 by omega) with rfl | rfl | rfl | rfl | rfl | rfl <;> rfl) (Nat.le_of_ble_eq_true rfl) (Nat.le_of_ble_eq_true rfl) dX1_init_5 (fun b5 H hP hD hS => ?_)
  have hP : va_P G vwCl [(x, .inr (1, [.null, .null])), (b5, .inr (0, [.null, .null, .null, .null, .int 0, .int 0]))] H := hP
  have hD : va_D A [(x, .inr (1, [.null, .null])), (b5, .inr (0, [.null, .null, .null, .null, .int 0, .int 0]))] := hD
  refine W.widen (k := 1) (n := 6) (by decide) (by decide) ?_
  refine lv_dup hx hb dX1_init_8 rfl ?_
  refine fb_gvI (As := []) (rest := [.ref b5, .ref x]) (n := 0) (wr := [(x, .inr (1, [.null, .null]))]) (wz := fun u => [(x, .inr (1, [.null, .null])), (b5, .inr (0, [.ref u.1, .ref u.2.1, .ref u.2.2.1, .ref u.2.2.2, .int (nI 11), .int 0])), (u.1, .inl (cI, 12, .inl (upd fb_z 11 24))), (u.2.1, .inl (cI, 12, .inl fb_z)), (u.2.2.1, .inl (cI, 12, .inl fb_z)), (u.2.2.2, .inl (cI, 12, .inl (fb_on 12)))]) ⟨hx, hb, hml, hown, hts⟩ (fb_c_X0_init l G cI cL b5 _) (cwI 0 hts gX1_init_X0_init rfl rfl rfl (hts (.initialized RX0) (by decide +kernel)) (hts (.methodLink RX1 9 yX0_init) (by decide +kernel)) (hts (.instanceMethod yX0_init) (by decide +kernel)) rfl (by decide +kernel) ⟨Nat.le_of_ble_eq_true rfl, Nat.le_of_ble_eq_true rfl⟩) hP hK hD hS hA hX [1] [0] [0, 1, 2, 3, 4, 5] rfl rfl (fun _ => rfl) rfl rfl rfl (by decide) rfl hl.1 rfl (Nat.le_of_ble_eq_true rfl) dX1_init_9 (by decide) (fun u H locs hpp hP hD hS => ?_)
  obtain ⟨n9, o9, d9, f9⟩ := u
  have hP : va_P G vwCl [(x, .inr (1, [.null, .null])), (b5, .inr (0, [.ref n9, .ref o9, .ref d9, .ref f9, .int (nI 11), .int 0])), (n9, .inl (cI, 12, .inl (upd fb_z 11 24))), (o9, .inl (cI, 12, .inl fb_z)), (d9, .inl (cI, 12, .inl fb_z)), (f9, .inl (cI, 12, .inl (fb_on 12)))] H := hP
  have hD : va_D A [(x, .inr (1, [.null, .null])), (b5, .inr (0, [.ref n9, .ref o9, .ref d9, .ref f9, .int (nI 11), .int 0])), (n9, .inl (cI, 12, .inl (upd fb_z 11 24))), (o9, .inl (cI, 12, .inl fb_z)), (d9, .inl (cI, 12, .inl fb_z)), (f9, .inl (cI, 12, .inl (fb_on 12)))] := hD
  refine W.widen (k := 5) (n := 54) (by decide) (by decide) ?_
  refine va_putF (D := G) (ci := 1) (v := .ref b5) (ty := (.object "FifthBeats$Piano")) (C := RX1) (T := TX1) (N := 2) hx hb hts (hin1) tyX1 tyX1_ok nmX1 hown hK hP hD hS 0 rfl rfl 0 (by decide) (hts (.fieldLink RX1 10 "FifthBeats" "piano" "LFifthBeats$Piano;") (by decide +kernel)) (fun _ h9 => h9) rfl hin9 rfl (by decide +kernel) rfl rfl (Nat.le_of_ble_eq_true rfl) dX1_init_12 (fun H locs hP hD hS => ?_)
  have hP : va_P G vwCl [(x, .inr (1, [.ref b5, .null])), (b5, .inr (0, [.ref n9, .ref o9, .ref d9, .ref f9, .int (nI 11), .int 0])), (n9, .inl (cI, 12, .inl (upd fb_z 11 24))), (o9, .inl (cI, 12, .inl fb_z)), (d9, .inl (cI, 12, .inl fb_z)), (f9, .inl (cI, 12, .inl (fb_on 12)))] H := hP
  have hD : va_D A [(x, .inr (1, [.ref b5, .null])), (b5, .inr (0, [.ref n9, .ref o9, .ref d9, .ref f9, .int (nI 11), .int 0])), (n9, .inl (cI, 12, .inl (upd fb_z 11 24))), (o9, .inl (cI, 12, .inl fb_z)), (d9, .inl (cI, 12, .inl fb_z)), (f9, .inl (cI, 12, .inl (fb_on 12)))] := hD
  refine lv_aload_n hx hb dX1_init_15 rfl (lv_at hl 0 rfl) ?_
  refine va_new (ci := 0) (fs := [.null, .null, .null, .null, .int 0, .int 0]) (C := RX0) (T := TX0) (N := 6) hx hb hts (hin0) tyX0 tyX0_ok hown (hts (.classLink RX1 7 RX0) (by decide +kernel)) (hts (.instantiable RX0 6) (by decide +kernel)) (hts (.initialized RX0) (by decide +kernel)) hK hP hD hS hA rfl (fun j hj => by rcases (show j = 0 ∨ j = 1 ∨ j = 2 ∨ j = 3 ∨ j = 4 ∨ j = 5 by omega) with rfl | rfl | rfl | rfl | rfl | rfl <;> rfl) (Nat.le_of_ble_eq_true rfl) (Nat.le_of_ble_eq_true rfl) dX1_init_16 (fun b16 H hP hD hS => ?_)
  have hP : va_P G vwCl [(x, .inr (1, [.ref b5, .null])), (b5, .inr (0, [.ref n9, .ref o9, .ref d9, .ref f9, .int (nI 11), .int 0])), (n9, .inl (cI, 12, .inl (upd fb_z 11 24))), (o9, .inl (cI, 12, .inl fb_z)), (d9, .inl (cI, 12, .inl fb_z)), (f9, .inl (cI, 12, .inl (fb_on 12))), (b16, .inr (0, [.null, .null, .null, .null, .int 0, .int 0]))] H := hP
  have hD : va_D A [(x, .inr (1, [.ref b5, .null])), (b5, .inr (0, [.ref n9, .ref o9, .ref d9, .ref f9, .int (nI 11), .int 0])), (n9, .inl (cI, 12, .inl (upd fb_z 11 24))), (o9, .inl (cI, 12, .inl fb_z)), (d9, .inl (cI, 12, .inl fb_z)), (f9, .inl (cI, 12, .inl (fb_on 12))), (b16, .inr (0, [.null, .null, .null, .null, .int 0, .int 0]))] := hD
  refine W.widen (k := 6) (n := 60) (by decide) (by decide) ?_
  refine lv_dup hx hb dX1_init_19 rfl ?_
  refine fb_gvI (As := []) (rest := [.ref b16, .ref x]) (n := 0) (wr := [(x, .inr (1, [.ref b5, .null])), (b5, .inr (0, [.ref n9, .ref o9, .ref d9, .ref f9, .int (nI 11), .int 0])), (n9, .inl (cI, 12, .inl (upd fb_z 11 24))), (o9, .inl (cI, 12, .inl fb_z)), (d9, .inl (cI, 12, .inl fb_z)), (f9, .inl (cI, 12, .inl (fb_on 12)))]) (wz := fun u => [(x, .inr (1, [.ref b5, .null])), (b5, .inr (0, [.ref n9, .ref o9, .ref d9, .ref f9, .int (nI 11), .int 0])), (n9, .inl (cI, 12, .inl (upd fb_z 11 24))), (o9, .inl (cI, 12, .inl fb_z)), (d9, .inl (cI, 12, .inl fb_z)), (f9, .inl (cI, 12, .inl (fb_on 12))), (b16, .inr (0, [.ref u.1, .ref u.2.1, .ref u.2.2.1, .ref u.2.2.2, .int (nI 11), .int 0])), (u.1, .inl (cI, 12, .inl (upd fb_z 11 24))), (u.2.1, .inl (cI, 12, .inl fb_z)), (u.2.2.1, .inl (cI, 12, .inl fb_z)), (u.2.2.2, .inl (cI, 12, .inl (fb_on 12)))]) ⟨hx, hb, hml, hown, hts⟩ (fb_c_X0_init l G cI cL b16 _) (cwI 0 hts gX1_init_X0_init rfl rfl rfl (hts (.initialized RX0) (by decide +kernel)) (hts (.methodLink RX1 9 yX0_init) (by decide +kernel)) (hts (.instanceMethod yX0_init) (by decide +kernel)) rfl (by decide +kernel) ⟨Nat.le_of_ble_eq_true rfl, Nat.le_of_ble_eq_true rfl⟩) hP hK hD hS hA hX [6] [0, 1, 2, 3, 4, 5] [0, 1, 2, 3, 4, 5, 6, 7, 8, 9, 10] rfl rfl (fun _ => rfl) rfl rfl rfl (by decide) rfl hl.1 rfl (Nat.le_of_ble_eq_true rfl) dX1_init_20 (by decide) (fun u H locs hpp hP hD hS => ?_)
  obtain ⟨n20, o20, d20, f20⟩ := u
  have hP : va_P G vwCl [(x, .inr (1, [.ref b5, .null])), (b5, .inr (0, [.ref n9, .ref o9, .ref d9, .ref f9, .int (nI 11), .int 0])), (n9, .inl (cI, 12, .inl (upd fb_z 11 24))), (o9, .inl (cI, 12, .inl fb_z)), (d9, .inl (cI, 12, .inl fb_z)), (f9, .inl (cI, 12, .inl (fb_on 12))), (b16, .inr (0, [.ref n20, .ref o20, .ref d20, .ref f20, .int (nI 11), .int 0])), (n20, .inl (cI, 12, .inl (upd fb_z 11 24))), (o20, .inl (cI, 12, .inl fb_z)), (d20, .inl (cI, 12, .inl fb_z)), (f20, .inl (cI, 12, .inl (fb_on 12)))] H := hP
  have hD : va_D A [(x, .inr (1, [.ref b5, .null])), (b5, .inr (0, [.ref n9, .ref o9, .ref d9, .ref f9, .int (nI 11), .int 0])), (n9, .inl (cI, 12, .inl (upd fb_z 11 24))), (o9, .inl (cI, 12, .inl fb_z)), (d9, .inl (cI, 12, .inl fb_z)), (f9, .inl (cI, 12, .inl (fb_on 12))), (b16, .inr (0, [.ref n20, .ref o20, .ref d20, .ref f20, .int (nI 11), .int 0])), (n20, .inl (cI, 12, .inl (upd fb_z 11 24))), (o20, .inl (cI, 12, .inl fb_z)), (d20, .inl (cI, 12, .inl fb_z)), (f20, .inl (cI, 12, .inl (fb_on 12)))] := hD
  refine W.widen (k := 10) (n := 108) (by decide) (by decide) ?_
  refine va_putF (D := G) (ci := 1) (v := .ref b16) (ty := (.object "FifthBeats$Piano")) (C := RX1) (T := TX1) (N := 2) hx hb hts (hin1) tyX1 tyX1_ok nmX1 hown hK hP hD hS 0 rfl rfl 1 (by decide) (hts (.fieldLink RX1 16 "FifthBeats" "trial" "LFifthBeats$Piano;") (by decide +kernel)) (fun _ h9 => h9) rfl hin9 rfl (by decide +kernel) rfl rfl (Nat.le_of_ble_eq_true rfl) dX1_init_23 (fun H locs hP hD hS => ?_)
  have hP : va_P G vwCl [(x, .inr (1, [.ref b5, .ref b16])), (b5, .inr (0, [.ref n9, .ref o9, .ref d9, .ref f9, .int (nI 11), .int 0])), (n9, .inl (cI, 12, .inl (upd fb_z 11 24))), (o9, .inl (cI, 12, .inl fb_z)), (d9, .inl (cI, 12, .inl fb_z)), (f9, .inl (cI, 12, .inl (fb_on 12))), (b16, .inr (0, [.ref n20, .ref o20, .ref d20, .ref f20, .int (nI 11), .int 0])), (n20, .inl (cI, 12, .inl (upd fb_z 11 24))), (o20, .inl (cI, 12, .inl fb_z)), (d20, .inl (cI, 12, .inl fb_z)), (f20, .inl (cI, 12, .inl (fb_on 12)))] H := hP
  have hD : va_D A [(x, .inr (1, [.ref b5, .ref b16])), (b5, .inr (0, [.ref n9, .ref o9, .ref d9, .ref f9, .int (nI 11), .int 0])), (n9, .inl (cI, 12, .inl (upd fb_z 11 24))), (o9, .inl (cI, 12, .inl fb_z)), (d9, .inl (cI, 12, .inl fb_z)), (f9, .inl (cI, 12, .inl (fb_on 12))), (b16, .inr (0, [.ref n20, .ref o20, .ref d20, .ref f20, .int (nI 11), .int 0])), (n20, .inl (cI, 12, .inl (upd fb_z 11 24))), (o20, .inl (cI, 12, .inl fb_z)), (d20, .inl (cI, 12, .inl fb_z)), (f20, .inl (cI, 12, .inl (fb_on 12)))] := hD
  have hP9 := hP.sub (ws' := [(x, .inr (1, [.ref b5, .ref b16])), (b5, .inr (0, [.ref n9, .ref o9, .ref d9, .ref f9, .int (nI 11), .int 0])), (n9, .inl (cI, 12, .inl (upd fb_z 11 24))), (o9, .inl (cI, 12, .inl fb_z)), (d9, .inl (cI, 12, .inl fb_z)), (f9, .inl (cI, 12, .inl (fb_on 12))), (b16, .inr (0, [.ref n20, .ref o20, .ref d20, .ref f20, .int (nI 11), .int 0])), (n20, .inl (cI, 12, .inl (upd fb_z 11 24))), (o20, .inl (cI, 12, .inl fb_z)), (d20, .inl (cI, 12, .inl fb_z)), (f20, .inl (cI, 12, .inl (fb_on 12)))]) [0, 1, 2, 3, 4, 5, 6, 7, 8, 9, 10] rfl
  have hD9 := hD.sub (ws' := [(x, .inr (1, [.ref b5, .ref b16])), (b5, .inr (0, [.ref n9, .ref o9, .ref d9, .ref f9, .int (nI 11), .int 0])), (n9, .inl (cI, 12, .inl (upd fb_z 11 24))), (o9, .inl (cI, 12, .inl fb_z)), (d9, .inl (cI, 12, .inl fb_z)), (f9, .inl (cI, 12, .inl (fb_on 12))), (b16, .inr (0, [.ref n20, .ref o20, .ref d20, .ref f20, .int (nI 11), .int 0])), (n20, .inl (cI, 12, .inl (upd fb_z 11 24))), (o20, .inl (cI, 12, .inl fb_z)), (d20, .inl (cI, 12, .inl fb_z)), (f20, .inl (cI, 12, .inl (fb_on 12)))]) [0, 1, 2, 3, 4, 5, 6, 7, 8, 9, 10] (by decide) rfl
  exact W.vret hx hb hr (fun t ht hW => ⟨⟨((b5, n9, o9, d9, f9), (b16, n20, o20, d20, f20)), rfl, trivial, by rw [ht]; exact hP9, hD9⟩, hS.F ht⟩) hS.2.2 dX1_init_26 hlk
