set_option maxHeartbeats 4000000 in
set_option maxRecDepth 100000 in
theorem fb_c_X2_copyOf (l : Launch) (G : va_G) (cI cL : ClassId) (h n d f o : Nat) (pf df tf uf : Nat → Int32) (th dy : Int32) (w : Nat) (sz : Nat) : fb_MG l yX2_copyOf wsX2_copyOf 1 40 1 12 [.ref h, .ref o] G cI cL sz (fb_MW cI h n d f o pf df tf uf th dy (nI w)) (fb_qr G (fun a => [(h, .inr (2, [.int th, .int dy, .int (nI w), .ref n, .ref d, .ref f, .ref o])), (n, .inl (cI, 12, .inl pf)), (d, .inl (cI, 12, .inl df)), (f, .inl (cI, 12, .inl tf)), (o, .inl (cI, 12, .inl uf)), (a, .inl (cI, 12, .inl (fb_cy uf)))])) := by
  refine fb_mg_of (cc := cX2_copyOf) (maxL := 3) (ret := (some (.array .int))) (by decide) rfl (Nat.le_of_ble_eq_true rfl) ?_
  intro p e s m args below meth c A hx hb hr hml hlk hts hown hP hK hD hA hX hin9 ls hl
  have hown : s.vm.findClass RX2 = some m.cls := hown
  have hP : va_P G vwCl [(h, .inr (2, [.int th, .int dy, .int (nI w), .ref n, .ref d, .ref f, .ref o])), (n, .inl (cI, 12, .inl pf)), (d, .inl (cI, 12, .inl df)), (f, .inl (cI, 12, .inl tf)), (o, .inl (cI, 12, .inl uf))] s.heap := hP
  have hD : va_D A [(h, .inr (2, [.int th, .int dy, .int (nI w), .ref n, .ref d, .ref f, .ref o])), (n, .inl (cI, 12, .inl pf)), (d, .inl (cI, 12, .inl df)), (f, .inl (cI, 12, .inl tf)), (o, .inl (cI, 12, .inl uf))] := hD
  have hS : va_S A s.heap s.heap [] := va_S.rf
  have hXn : ∀ (H : Heap) (locs : List Loc), va_S A s.heap H locs → fb_sx (fun _ => False) s H := fun H locs h9 => (hX.kept h9.2.1).narrow (fun _ z => z.elim)
  have hl : lv_has ls 3 [(0, .ref h), (1, .ref o)] := hl
  refine lv_bipush (v := 12) hx hb dX2_copyOf_0 (by decide) ?_
  refine va_newa (atype := .int) (ty := .int) (a0 := (12, .inl fb_z)) (N' := 12) hx hb (hts (.arrayClass .int) (by decide +kernel)) rfl hK hP hD hS hA (fun _ => rfl) (by decide) (by decide) (by decide) (Nat.le_of_ble_eq_true rfl) (Nat.le_of_ble_eq_true rfl) dX2_copyOf_2 (fun a2 cA H hK2 hP hD hS => ?_)
  have eA := (fb_cA hK2).symm
  subst eA
  clear hK2
  have hP : va_P G vwCl [(h, .inr (2, [.int th, .int dy, .int (nI w), .ref n, .ref d, .ref f, .ref o])), (n, .inl (cI, 12, .inl pf)), (d, .inl (cI, 12, .inl df)), (f, .inl (cI, 12, .inl tf)), (o, .inl (cI, 12, .inl uf)), (a2, .inl (cI, 12, .inl fb_z))] H := hP
  have hD : va_D A [(h, .inr (2, [.int th, .int dy, .int (nI w), .ref n, .ref d, .ref f, .ref o])), (n, .inl (cI, 12, .inl pf)), (d, .inl (cI, 12, .inl df)), (f, .inl (cI, 12, .inl tf)), (o, .inl (cI, 12, .inl uf)), (a2, .inl (cI, 12, .inl fb_z))] := hD
  refine W.widen (k := 1) (n := 12) (by decide) (by decide) ?_
  refine lv_astore_n (lv' := [(2, .ref a2), (0, .ref h), (1, .ref o)]) hx hb dX2_copyOf_4 rfl hl (by decide) rfl (fun ls hl => ?_)
  refine lv_aload_n hx hb dX2_copyOf_5 rfl (lv_at hl 2 rfl) ?_
  refine lv_iconst (v := 0) hx hb dX2_copyOf_6 (by decide) ?_
  refine lv_aload_n hx hb dX2_copyOf_7 rfl (lv_at hl 0 rfl) ?_
  refine lv_iconst (v := 0) hx hb dX2_copyOf_8 (by decide) ?_
  refine lv_bipush (v := 12) hx hb dX2_copyOf_9 (by decide) ?_
  refine va_copyi hx hb (hml.trans hl.1.symm) hown (hts (.methodLink RX2 137 arraycopyName) (by decide +kernel)) (hts (.native arraycopyName) (by decide +kernel)) (hts (.static arraycopyName) (by decide +kernel)) (hts (.initialized "java/lang/System") (by decide +kernel)) (ty := .int) hK hP hD hS 4 5 0 0 rfl rfl rfl rfl rfl (by decide) (by decide) (by decide) (by decide) (by decide) (fun _ _ => rfl) (by decide) (by decide) dX2_copyOf_11 (fun H locs hP hD hS => ?_)
  have hP : va_P G vwCl [(h, .inr (2, [.int th, .int dy, .int (nI w), .ref n, .ref d, .ref f, .ref o])), (n, .inl (cI, 12, .inl pf)), (d, .inl (cI, 12, .inl df)), (f, .inl (cI, 12, .inl tf)), (o, .inl (cI, 12, .inl uf)), (a2, .inl (cI, 12, .inl (fb_cy uf)))] H := hP
  have hD : va_D A [(h, .inr (2, [.int th, .int dy, .int (nI w), .ref n, .ref d, .ref f, .ref o])), (n, .inl (cI, 12, .inl pf)), (d, .inl (cI, 12, .inl df)), (f, .inl (cI, 12, .inl tf)), (o, .inl (cI, 12, .inl uf)), (a2, .inl (cI, 12, .inl (fb_cy uf)))] := hD
  refine lv_aload_n hx hb dX2_copyOf_14 rfl (lv_at hl 0 rfl) ?_
  have hP9 := hP.sub (ws' := [(h, .inr (2, [.int th, .int dy, .int (nI w), .ref n, .ref d, .ref f, .ref o])), (n, .inl (cI, 12, .inl pf)), (d, .inl (cI, 12, .inl df)), (f, .inl (cI, 12, .inl tf)), (o, .inl (cI, 12, .inl uf)), (a2, .inl (cI, 12, .inl (fb_cy uf)))]) [0, 1, 2, 3, 4, 5] rfl
  have hD9 := hD.sub (ws' := [(h, .inr (2, [.int th, .int dy, .int (nI w), .ref n, .ref d, .ref f, .ref o])), (n, .inl (cI, 12, .inl pf)), (d, .inl (cI, 12, .inl df)), (f, .inl (cI, 12, .inl tf)), (o, .inl (cI, 12, .inl uf)), (a2, .inl (cI, 12, .inl (fb_cy uf)))]) [0, 1, 2, 3, 4, 5] (by decide) rfl
  exact W.aret (v := .ref a2) hx hb hr (Or.inr ⟨_, rfl⟩) (Or.inr ⟨_, rfl⟩) (fun t ht hW => ⟨⟨(), a2, rfl, trivial, by rw [ht]; exact hP9, hD9⟩, hS.F ht⟩) hS.2.2 dX2_copyOf_15 hlk
set_option maxHeartbeats 4000000 in
set_option maxRecDepth 100000 in
theorem fb_c_X2_foresee_ok (l : Launch) (G : va_G) (cI cL : ClassId) (h n d f o : Nat) (pf df tf uf : Nat → Int32) (th dy : Int32) (w : Nat) (q : Nat) (r : Nat) (hq : 1 ≤ q) (hq2 : q ≤ 100) (hr2 : 2 ≤ r) (hr7 : r < 7) (hw : w < 12) (sz : Nat) : fb_MG l yX2_foresee wsX2_foresee 6 138 1 12 [.ref h, .int (nI q), .int (nI r)] G cI cL sz (fb_MW cI h n d f o pf df tf uf th dy (nI w)) (fb_qi G (S := Nat) (fun a => (fb_MW cI h n d f a pf df tf (fb_cy uf) 0 dy (nI w))) (fb_tC (fb_ep pf w) (fb_rg (fb_dy df uf q)) (fb_rg tf) w (dy + nI q) r) (fun _ => True)) := by
  refine fb_mg_of (cc := cX2_foresee) (maxL := 6) (ret := (some .int)) (by decide) rfl (Nat.le_of_ble_eq_true rfl) ?_
  intro p e s m args below meth c A hx hb hr hml hlk hts hown hP hK hD hA hX hin9 ls hl
  have hown : s.vm.findClass RX2 = some m.cls := hown
  have hP : va_P G vwCl [(h, .inr (2, [.int th, .int dy, .int (nI w), .ref n, .ref d, .ref f, .ref o])), (n, .inl (cI, 12, .inl pf)), (d, .inl (cI, 12, .inl df)), (f, .inl (cI, 12, .inl tf)), (o, .inl (cI, 12, .inl uf))] s.heap := hP
  have hD : va_D A [(h, .inr (2, [.int th, .int dy, .int (nI w), .ref n, .ref d, .ref f, .ref o])), (n, .inl (cI, 12, .inl pf)), (d, .inl (cI, 12, .inl df)), (f, .inl (cI, 12, .inl tf)), (o, .inl (cI, 12, .inl uf))] := hD
  have hS : va_S A s.heap s.heap [] := va_S.rf
  have hXn : ∀ (H : Heap) (locs : List Loc), va_S A s.heap H locs → fb_sx (fun _ => False) s H := fun H locs h9 => (hX.kept h9.2.1).narrow (fun _ z => z.elim)
  have hl : lv_has ls 6 [(0, .ref h), (1, .int (nI q)), (2, .int (nI r))] := hl
  have hin2 : ∀ w ∈ u_ws RX2 TX2 7, w ∈ wsX2_foresee := by decide +kernel
  refine lv_aload_n hx hb dX2_foresee_0 rfl (lv_at hl 0 rfl) ?_
  refine lv_iconst (v := 0) hx hb dX2_foresee_1 (by decide) ?_
  refine va_put (D := G) (ci := 2) (v := .int 0) (ty := .int) (C := RX2) (T := TX2) (N := 7) hx hb hts (hin2) tyX2 tyX2_ok nmX2 hown hK hP hD hS 0 rfl rfl 0 (by decide) (hts (.fieldLink RX2 26 "FifthBeatsModel" "thrown" "I") (by decide +kernel)) (fun _ h9 => h9) rfl (by decide +kernel) rfl rfl (Nat.le_of_ble_eq_true rfl) dX2_foresee_2 (fun H locs hP hD hS => ?_)
  have hP : va_P G vwCl [(h, .inr (2, [.int 0, .int dy, .int (nI w), .ref n, .ref d, .ref f, .ref o])), (n, .inl (cI, 12, .inl pf)), (d, .inl (cI, 12, .inl df)), (f, .inl (cI, 12, .inl tf)), (o, .inl (cI, 12, .inl uf))] H := hP
  have hD : va_D A [(h, .inr (2, [.int 0, .int dy, .int (nI w), .ref n, .ref d, .ref f, .ref o])), (n, .inl (cI, 12, .inl pf)), (d, .inl (cI, 12, .inl df)), (f, .inl (cI, 12, .inl tf)), (o, .inl (cI, 12, .inl uf))] := hD
  refine lv_iload_n hx hb dX2_foresee_5 rfl (lv_at hl 1 rfl) ?_
  refine lv_iconst (v := 1) hx hb dX2_foresee_6 (by decide) ?_
  refine lv_bipush (v := 100) hx hb dX2_foresee_7 (by decide) ?_
  refine fb_roS (As := [.int (nI q), .int 1, .int 100]) (rest := []) (n := 3) ⟨hx, hb, hml, hown, hts⟩ (fb_c_X2_isIn l (nI q) 1 100) gX2_foresee_X2_isIn rfl (by decide +kernel) (by decide) fb_Bl_T (fun _ _ _ => trivial) rfl hl.1 rfl (Nat.le_of_ble_eq_true rfl) dX2_foresee_9 (by decide) ?_
  refine fb_ti (z := 1) (fb_ii_1 (fb_r1 hq hq2 (by decide))) ?_
  refine lv_if_ne (tgt := 21) hx hb dX2_foresee_12 (by decide) (fun c12 => ?_) (fun c12 => ?_)
  · skip
    refine lv_iload_n hx hb dX2_foresee_21 rfl (lv_at hl 2 rfl) ?_
    refine lv_iconst (v := 2) hx hb dX2_foresee_22 (by decide) ?_
    refine lv_bipush (v := 6) hx hb dX2_foresee_23 (by decide) ?_
    refine fb_roS (As := [.int (nI r), .int 2, .int 6]) (rest := []) (n := 3) ⟨hx, hb, hml, hown, hts⟩ (fb_c_X2_isIn l (nI r) 2 6) gX2_foresee_X2_isIn rfl (by decide +kernel) (by decide) fb_Bl_T (fun _ _ _ => trivial) rfl hl.1 rfl (Nat.le_of_ble_eq_true rfl) dX2_foresee_25 (by decide) ?_
    refine fb_ti (z := 1) (fb_ii_1 (fb_r1 hr2 (Nat.le_of_lt_succ hr7) (by decide))) ?_
    refine lv_if_ne (tgt := 37) hx hb dX2_foresee_28 (by decide) (fun c28 => ?_) (fun c28 => ?_)
    · skip
      refine lv_aload_n hx hb dX2_foresee_37 rfl (lv_at hl 0 rfl) ?_
      refine lv_aload_n hx hb dX2_foresee_38 rfl (lv_at hl 0 rfl) ?_
      refine va_get (D := G) (ci := 2) (v := .ref o) (C := RX2) (T := TX2) (N := 7) hx hb hts (hin2) hown hK hP 0 rfl rfl 6 (by decide) (hts (.fieldLink RX2 23 "FifthBeatsModel" "off" "[I") (by decide +kernel)) (fun _ h9 => h9) rfl dX2_foresee_39 ?_
      refine fb_grV (As := [.ref o]) (rest := []) (n := 1) (wr := []) (wz := fun cp => [(h, .inr (2, [.int 0, .int dy, .int (nI w), .ref n, .ref d, .ref f, .ref o])), (n, .inl (cI, 12, .inl pf)), (d, .inl (cI, 12, .inl df)), (f, .inl (cI, 12, .inl tf)), (o, .inl (cI, 12, .inl uf)), (cp, .inl (cI, 12, .inl (fb_cy uf)))]) ⟨hx, hb, hml, hown, hts⟩ (fb_c_X2_copyOf l G cI cL h n d f o pf df tf uf 0 dy w _) gX2_foresee_X2_copyOf rfl (by decide +kernel) (by decide) (va_recv hK hP (ci := 2) (q0 := 0) rfl rfl) hP hK hD hS hA hX [0, 1, 2, 3, 4] [] [0, 1, 2, 3, 4, 5] rfl rfl (fun _ => rfl) rfl rfl rfl (by decide) rfl hl.1 rfl (Nat.le_of_ble_eq_true rfl) dX2_foresee_42 (by decide) (fun cp H locs hP hD hS => ?_)
      have hP : va_P G vwCl [(h, .inr (2, [.int 0, .int dy, .int (nI w), .ref n, .ref d, .ref f, .ref o])), (n, .inl (cI, 12, .inl pf)), (d, .inl (cI, 12, .inl df)), (f, .inl (cI, 12, .inl tf)), (o, .inl (cI, 12, .inl uf)), (cp, .inl (cI, 12, .inl (fb_cy uf)))] H := hP
      have hD : va_D A [(h, .inr (2, [.int 0, .int dy, .int (nI w), .ref n, .ref d, .ref f, .ref o])), (n, .inl (cI, 12, .inl pf)), (d, .inl (cI, 12, .inl df)), (f, .inl (cI, 12, .inl tf)), (o, .inl (cI, 12, .inl uf)), (cp, .inl (cI, 12, .inl (fb_cy uf)))] := hD
      refine W.widen (k := 1) (n := 12) (by decide) (by decide) ?_
      refine lv_astore_n (lv' := [(3, .ref cp), (0, .ref h), (1, .int (nI q)), (2, .int (nI r))]) hx hb dX2_foresee_45 rfl hl (by decide) rfl (fun ls hl => ?_)
      refine lv_aload_n hx hb dX2_foresee_46 rfl (lv_at hl 1 rfl) ?_
      refine va_get (D := G) (ci := 2) (v := .int dy) (C := RX2) (T := TX2) (N := 7) hx hb hts (hin2) hown hK hP 0 rfl rfl 1 (by decide) (hts (.fieldLink RX2 97 "FifthBeatsModel" "day" "I") (by decide +kernel)) (fun _ h9 => h9) rfl dX2_foresee_47 ?_
      refine lv_istore (lv' := [(4, .int dy), (3, .ref cp), (0, .ref h), (1, .int (nI q)), (2, .int (nI r))]) hx hb dX2_foresee_50 hl (by decide) rfl (fun ls hl => ?_)
      refine lv_iconst (v := 0) hx hb dX2_foresee_52 (by decide) ?_
      refine lv_istore (lv' := [(5, .int 0), (4, .int dy), (3, .ref cp), (0, .ref h), (1, .int (nI q)), (2, .int (nI r))]) hx hb dX2_foresee_53 hl (by decide) rfl (fun ls hl => ?_)
      have lp55 : ∀ (n9 i : Nat), i ≤ q → q < i + n9 → ∀ (H : Heap) (locs : List Loc), va_P G vwCl [(h, .inr (2, [.int 0, .int (dy + nI i), .int (nI w), .ref n, .ref d, .ref f, .ref o])), (n, .inl (cI, 12, .inl pf)), (d, .inl (cI, 12, .inl df)), (f, .inl (cI, 12, .inl tf)), (o, .inl (cI, 12, .inl (fb_dy df uf i))), (cp, .inl (cI, 12, .inl (fb_cy uf)))] H → va_D A [(h, .inr (2, [.int 0, .int (dy + nI i), .int (nI w), .ref n, .ref d, .ref f, .ref o])), (n, .inl (cI, 12, .inl pf)), (d, .inl (cI, 12, .inl df)), (f, .inl (cI, 12, .inl tf)), (o, .inl (cI, 12, .inl (fb_dy df uf i))), (cp, .inl (cI, 12, .inl (fb_cy uf)))] → va_S A s.heap H locs → ∀ ls : Array Slot, lv_has ls 6 [(5, .int (nI i)), (4, .int dy), (3, .ref cp), (0, .ref h), (1, .int (nI q)), (2, .int (nI r))] → W p l e ({ frames := 6, cells := 1, slots := 12, locals := 138 }) s m args below meth c H locs 1 12 (MQ below ((fb_qi G (S := Nat) (fun a => (fb_MW cI h n d f a pf df tf (fb_cy uf) 0 dy (nI w))) (fb_tC (fb_ep pf w) (fb_rg (fb_dy df uf q)) (fb_rg tf) w (dy + nI q) r) (fun _ => True)) A) args s 1 12 A) (F0 m 55 ls []) := by
        intro n9
        induction n9 with
        | zero => intro i h1 h2; exact absurd h2 (by omega)
        | succ n9 ih55 =>
          intro i hi_i hin9 H locs hP hD hS ls hl
          refine lv_iload hx hb dX2_foresee_55 (lv_at hl 0 rfl) ?_
          refine lv_iload_n hx hb dX2_foresee_57 rfl (lv_at hl 4 rfl) ?_
          refine lv_icmp_ge (tgt := 71) hx hb dX2_foresee_58 (by decide) (fun c58 => ?_) (fun c58 => ?_)
          · skip
            have hxi : q = i := (fb_lp_ex (by omega) hi_i c58).symm
            subst hxi
            refine lv_aload_n hx hb dX2_foresee_71 rfl (lv_at hl 3 rfl) ?_
            refine lv_iload_n hx hb dX2_foresee_72 rfl (lv_at hl 5 rfl) ?_
            refine fb_roV (As := [.int (nI r)]) (rest := []) (n := 1) ⟨hx, hb, hml, hown, hts⟩ (fb_c_X2_counted l G cI cL h n d f o pf df tf (fb_dy df uf q) 0 (dy + nI q) w r hr7 hw) gX2_foresee_X2_counted rfl (by decide +kernel) (by decide) (fb_PB.bl _ _ _ _) (va_recv hK hP (ci := 2) (q0 := 0) rfl rfl) (fb_PB.to (hP.sub (ws' := [(h, .inr (2, [.int 0, .int (dy + nI q), .int (nI w), .ref n, .ref d, .ref f, .ref o])), (n, .inl (cI, 12, .inl pf)), (d, .inl (cI, 12, .inl df)), (f, .inl (cI, 12, .inl tf)), (o, .inl (cI, 12, .inl (fb_dy df uf q)))]) [0, 1, 2, 3, 4] rfl) hK (hXn _ _ hS)) rfl hl.1 rfl (Nat.le_of_ble_eq_true rfl) dX2_foresee_73 (by decide) ?_
            refine lv_istore (lv' := [(5, .int (fb_tC (fb_ep pf w) (fb_rg (fb_dy df uf q)) (fb_rg tf) w (dy + nI q) r)), (4, .int dy), (3, .ref cp), (0, .ref h), (1, .int (nI q)), (2, .int (nI r))]) hx hb dX2_foresee_76 hl (by decide) rfl (fun ls hl => ?_)
            refine lv_aload_n hx hb dX2_foresee_78 rfl (lv_at hl 3 rfl) ?_
            refine lv_aload_n hx hb dX2_foresee_79 rfl (lv_at hl 2 rfl) ?_
            refine va_put (D := G) (ci := 2) (v := .ref cp) (ty := (.array .int)) (C := RX2) (T := TX2) (N := 7) hx hb hts (hin2) tyX2 tyX2_ok nmX2 hown hK hP hD hS 0 rfl rfl 6 (by decide) (hts (.fieldLink RX2 23 "FifthBeatsModel" "off" "[I") (by decide +kernel)) (fun _ h9 => h9) rfl (by decide +kernel) rfl rfl (Nat.le_of_ble_eq_true rfl) dX2_foresee_80 (fun H locs hP hD hS => ?_)
            have hP : va_P G vwCl [(h, .inr (2, [.int 0, .int (dy + nI q), .int (nI w), .ref n, .ref d, .ref f, .ref cp])), (n, .inl (cI, 12, .inl pf)), (d, .inl (cI, 12, .inl df)), (f, .inl (cI, 12, .inl tf)), (o, .inl (cI, 12, .inl (fb_dy df uf q))), (cp, .inl (cI, 12, .inl (fb_cy uf)))] H := hP
            have hD : va_D A [(h, .inr (2, [.int 0, .int (dy + nI q), .int (nI w), .ref n, .ref d, .ref f, .ref cp])), (n, .inl (cI, 12, .inl pf)), (d, .inl (cI, 12, .inl df)), (f, .inl (cI, 12, .inl tf)), (o, .inl (cI, 12, .inl (fb_dy df uf q))), (cp, .inl (cI, 12, .inl (fb_cy uf)))] := hD
            refine lv_aload_n hx hb dX2_foresee_83 rfl (lv_at hl 3 rfl) ?_
            refine lv_iload hx hb dX2_foresee_84 (lv_at hl 1 rfl) ?_
            refine va_put (D := G) (ci := 2) (v := .int dy) (ty := .int) (C := RX2) (T := TX2) (N := 7) hx hb hts (hin2) tyX2 tyX2_ok nmX2 hown hK hP hD hS 0 rfl rfl 1 (by decide) (hts (.fieldLink RX2 97 "FifthBeatsModel" "day" "I") (by decide +kernel)) (fun _ h9 => h9) rfl (by decide +kernel) rfl rfl (Nat.le_of_ble_eq_true rfl) dX2_foresee_86 (fun H locs hP hD hS => ?_)
            have hP : va_P G vwCl [(h, .inr (2, [.int 0, .int dy, .int (nI w), .ref n, .ref d, .ref f, .ref cp])), (n, .inl (cI, 12, .inl pf)), (d, .inl (cI, 12, .inl df)), (f, .inl (cI, 12, .inl tf)), (o, .inl (cI, 12, .inl (fb_dy df uf q))), (cp, .inl (cI, 12, .inl (fb_cy uf)))] H := hP
            have hD : va_D A [(h, .inr (2, [.int 0, .int dy, .int (nI w), .ref n, .ref d, .ref f, .ref cp])), (n, .inl (cI, 12, .inl pf)), (d, .inl (cI, 12, .inl df)), (f, .inl (cI, 12, .inl tf)), (o, .inl (cI, 12, .inl (fb_dy df uf q))), (cp, .inl (cI, 12, .inl (fb_cy uf)))] := hD
            refine lv_iload hx hb dX2_foresee_89 (lv_at hl 0 rfl) ?_
            have hP9 := hP.sub (ws' := [(h, .inr (2, [.int 0, .int dy, .int (nI w), .ref n, .ref d, .ref f, .ref cp])), (n, .inl (cI, 12, .inl pf)), (d, .inl (cI, 12, .inl df)), (f, .inl (cI, 12, .inl tf)), (cp, .inl (cI, 12, .inl (fb_cy uf)))]) [0, 1, 2, 3, 5] rfl
            have hD9 := hD.sub (ws' := [(h, .inr (2, [.int 0, .int dy, .int (nI w), .ref n, .ref d, .ref f, .ref cp])), (n, .inl (cI, 12, .inl pf)), (d, .inl (cI, 12, .inl df)), (f, .inl (cI, 12, .inl tf)), (cp, .inl (cI, 12, .inl (fb_cy uf)))]) [0, 1, 2, 3, 5] (by decide) rfl
            exact W.iret (v := fb_tC (fb_ep pf w) (fb_rg (fb_dy df uf q)) (fb_rg tf) w (dy + nI q) r) hx hb hr (fun t ht hW => ⟨⟨fb_tC (fb_ep pf w) (fb_rg (fb_dy df uf q)) (fb_rg tf) w (dy + nI q) r, cp, rfl, ⟨rfl, trivial⟩, by rw [ht]; exact hP9, hD9⟩, hS.F ht⟩) hS.2.2 dX2_foresee_91 hlk
          · skip
            have hi12 : i < q := fb_lp_in (by omega) hi_i c58
            refine lv_aload_n hx hb dX2_foresee_61 rfl (lv_at hl 3 rfl) ?_
            refine fb_mvV (As := []) (rest := []) (n := 0) (wr := [(cp, .inl (cI, 12, .inl (fb_cy uf)))]) (wz := [(h, .inr (2, [.int 0, .int ((dy + nI i) + 1), .int (nI w), .ref n, .ref d, .ref f, .ref o])), (n, .inl (cI, 12, .inl pf)), (d, .inl (cI, 12, .inl df)), (f, .inl (cI, 12, .inl tf)), (o, .inl (cI, 12, .inl (fb_pa df (fb_dy df uf i) 12))), (cp, .inl (cI, 12, .inl (fb_cy uf)))]) ⟨hx, hb, hml, hown, hts⟩ (fb_c_X2_pass l G cI cL h n d f o pf df tf (fb_dy df uf i) 0 (dy + nI i) w  _) gX2_foresee_X2_pass rfl (by decide +kernel) (by decide) (va_recv hK hP (ci := 2) (q0 := 0) rfl rfl) hP hK hD hS hA hX [0, 1, 2, 3, 4] [5] [1, 2, 3, 4, 5, 0] rfl rfl rfl rfl rfl rfl (by decide) rfl hl.1 rfl (Nat.le_of_ble_eq_true rfl) dX2_foresee_62 (by decide) (fun H locs hP hD hS => ?_)
            refine lv_iinc (v := nI (i + 1)) (lv' := [(5, .int (nI (i + 1))), (4, .int dy), (3, .ref cp), (0, .ref h), (1, .int (nI q)), (2, .int (nI r))]) hx hb dX2_foresee_65 hl (k := 0) rfl (show nI i + 1 = nI (i + 1) from nI_1 i) (by decide) rfl (fun ls hl => ?_)
            refine lv_goto (tgt := 55) hx hb dX2_foresee_68 (by decide) ?_
            exact ih55 (i + 1) (by omega) (by omega) _ _ (by rw [show dy + nI (i + 1) = dy + nI i + 1 from by rw [nI_succ, Int32.add_assoc]]; exact hP) (by rw [show dy + nI (i + 1) = dy + nI i + 1 from by rw [nI_succ, Int32.add_assoc]]; exact hD) hS _ (lv_sub hl [0, 1, 2, 3, 4, 5] (rfl))
      exact lp55 (q + 1) 0 (by omega) (by omega) _ _ (by rw [show dy + nI 0 = dy from fb_a0 dy]; exact hP) (by rw [show dy + nI 0 = dy from fb_a0 dy]; exact hD) hS _ (lv_sub hl [0, 1, 2, 3, 4, 5] (rfl))
    · skip
      first | exact absurd c28 (by decide) | exact absurd (by decide) c28
  · skip
    first | exact absurd c12 (by decide) | exact absurd (by decide) c12
set_option maxHeartbeats 4000000 in
set_option maxRecDepth 100000 in
theorem fb_c_X2_until_ok (l : Launch) (G : va_G) (cI cL : ClassId) (h n d f o : Nat) (pf df tf uf : Nat → Int32) (th dy : Int32) (w : Nat) (b9 : Int32) (h2 : ¬ (b9 < 1 ∨ 9999 < b9)) (hw : w < 12) (sz : Nat) : fb_MG l yX2_until wsX2_until 4 91 1 12 [.ref h, .int b9] G cI cL sz (fb_MW cI h n d f o pf df tf uf th dy (nI w)) (fb_qi G (S := Nat) (fun a => (fb_MW cI h n d f a pf df tf (fb_cy uf) 0 dy (nI w))) (fb_us (fun d9 => fb_fa (fb_ep pf w) (fb_rg (fb_dy df uf d9)) w 12) b9 201 0) (fun _ => True)) := by
  refine fb_mg_of (cc := cX2_until) (maxL := 5) (ret := (some .int)) (by decide) rfl (Nat.le_of_ble_eq_true rfl) ?_
  intro p e s m args below meth c A hx hb hr hml hlk hts hown hP hK hD hA hX hin9 ls hl
  have hown : s.vm.findClass RX2 = some m.cls := hown
  have hP : va_P G vwCl [(h, .inr (2, [.int th, .int dy, .int (nI w), .ref n, .ref d, .ref f, .ref o])), (n, .inl (cI, 12, .inl pf)), (d, .inl (cI, 12, .inl df)), (f, .inl (cI, 12, .inl tf)), (o, .inl (cI, 12, .inl uf))] s.heap := hP
  have hD : va_D A [(h, .inr (2, [.int th, .int dy, .int (nI w), .ref n, .ref d, .ref f, .ref o])), (n, .inl (cI, 12, .inl pf)), (d, .inl (cI, 12, .inl df)), (f, .inl (cI, 12, .inl tf)), (o, .inl (cI, 12, .inl uf))] := hD
  have hS : va_S A s.heap s.heap [] := va_S.rf
  have hXn : ∀ (H : Heap) (locs : List Loc), va_S A s.heap H locs → fb_sx (fun _ => False) s H := fun H locs h9 => (hX.kept h9.2.1).narrow (fun _ z => z.elim)
  have hl : lv_has ls 5 [(0, .ref h), (1, .int b9)] := hl
  have hin2 : ∀ w ∈ u_ws RX2 TX2 7, w ∈ wsX2_until := by decide +kernel
  refine lv_aload_n hx hb dX2_until_0 rfl (lv_at hl 0 rfl) ?_
  refine lv_iconst (v := 0) hx hb dX2_until_1 (by decide) ?_
  refine va_put (D := G) (ci := 2) (v := .int 0) (ty := .int) (C := RX2) (T := TX2) (N := 7) hx hb hts (hin2) tyX2 tyX2_ok nmX2 hown hK hP hD hS 0 rfl rfl 0 (by decide) (hts (.fieldLink RX2 26 "FifthBeatsModel" "thrown" "I") (by decide +kernel)) (fun _ h9 => h9) rfl (by decide +kernel) rfl rfl (Nat.le_of_ble_eq_true rfl) dX2_until_2 (fun H locs hP hD hS => ?_)
  have hP : va_P G vwCl [(h, .inr (2, [.int 0, .int dy, .int (nI w), .ref n, .ref d, .ref f, .ref o])), (n, .inl (cI, 12, .inl pf)), (d, .inl (cI, 12, .inl df)), (f, .inl (cI, 12, .inl tf)), (o, .inl (cI, 12, .inl uf))] H := hP
  have hD : va_D A [(h, .inr (2, [.int 0, .int dy, .int (nI w), .ref n, .ref d, .ref f, .ref o])), (n, .inl (cI, 12, .inl pf)), (d, .inl (cI, 12, .inl df)), (f, .inl (cI, 12, .inl tf)), (o, .inl (cI, 12, .inl uf))] := hD
  refine lv_iload_n hx hb dX2_until_5 rfl (lv_at hl 1 rfl) ?_
  refine lv_iconst (v := 1) hx hb dX2_until_6 (by decide) ?_
  refine lv_sipush (v := 9999) hx hb dX2_until_7 (by decide) ?_
  refine fb_roS (As := [.int b9, .int 1, .int 9999]) (rest := []) (n := 3) ⟨hx, hb, hml, hown, hts⟩ (fb_c_X2_isIn l b9 1 9999) gX2_until_X2_isIn rfl (by decide +kernel) (by decide) fb_Bl_T (fun _ _ _ => trivial) rfl hl.1 rfl (Nat.le_of_ble_eq_true rfl) dX2_until_10 (by decide) ?_
  refine fb_ti (z := 1) (fb_ii_1 h2) ?_
  refine lv_if_ne (tgt := 22) hx hb dX2_until_13 (by decide) (fun c13 => ?_) (fun c13 => ?_)
  · skip
    refine lv_aload_n hx hb dX2_until_22 rfl (lv_at hl 0 rfl) ?_
    refine lv_aload_n hx hb dX2_until_23 rfl (lv_at hl 0 rfl) ?_
    refine va_get (D := G) (ci := 2) (v := .ref o) (C := RX2) (T := TX2) (N := 7) hx hb hts (hin2) hown hK hP 0 rfl rfl 6 (by decide) (hts (.fieldLink RX2 23 "FifthBeatsModel" "off" "[I") (by decide +kernel)) (fun _ h9 => h9) rfl dX2_until_24 ?_
    refine fb_grV (As := [.ref o]) (rest := []) (n := 1) (wr := []) (wz := fun cp => [(h, .inr (2, [.int 0, .int dy, .int (nI w), .ref n, .ref d, .ref f, .ref o])), (n, .inl (cI, 12, .inl pf)), (d, .inl (cI, 12, .inl df)), (f, .inl (cI, 12, .inl tf)), (o, .inl (cI, 12, .inl uf)), (cp, .inl (cI, 12, .inl (fb_cy uf)))]) ⟨hx, hb, hml, hown, hts⟩ (fb_c_X2_copyOf l G cI cL h n d f o pf df tf uf 0 dy w _) gX2_until_X2_copyOf rfl (by decide +kernel) (by decide) (va_recv hK hP (ci := 2) (q0 := 0) rfl rfl) hP hK hD hS hA hX [0, 1, 2, 3, 4] [] [0, 1, 2, 3, 4, 5] rfl rfl (fun _ => rfl) rfl rfl rfl (by decide) rfl hl.1 rfl (Nat.le_of_ble_eq_true rfl) dX2_until_27 (by decide) (fun cp H locs hP hD hS => ?_)
    have hP : va_P G vwCl [(h, .inr (2, [.int 0, .int dy, .int (nI w), .ref n, .ref d, .ref f, .ref o])), (n, .inl (cI, 12, .inl pf)), (d, .inl (cI, 12, .inl df)), (f, .inl (cI, 12, .inl tf)), (o, .inl (cI, 12, .inl uf)), (cp, .inl (cI, 12, .inl (fb_cy uf)))] H := hP
    have hD : va_D A [(h, .inr (2, [.int 0, .int dy, .int (nI w), .ref n, .ref d, .ref f, .ref o])), (n, .inl (cI, 12, .inl pf)), (d, .inl (cI, 12, .inl df)), (f, .inl (cI, 12, .inl tf)), (o, .inl (cI, 12, .inl uf)), (cp, .inl (cI, 12, .inl (fb_cy uf)))] := hD
    refine W.widen (k := 1) (n := 12) (by decide) (by decide) ?_
    refine lv_astore_n (lv' := [(2, .ref cp), (0, .ref h), (1, .int b9)]) hx hb dX2_until_30 rfl hl (by decide) rfl (fun ls hl => ?_)
    refine lv_aload_n hx hb dX2_until_31 rfl (lv_at hl 1 rfl) ?_
    refine va_get (D := G) (ci := 2) (v := .int dy) (C := RX2) (T := TX2) (N := 7) hx hb hts (hin2) hown hK hP 0 rfl rfl 1 (by decide) (hts (.fieldLink RX2 97 "FifthBeatsModel" "day" "I") (by decide +kernel)) (fun _ h9 => h9) rfl dX2_until_32 ?_
    refine lv_istore_n (lv' := [(3, .int dy), (2, .ref cp), (0, .ref h), (1, .int b9)]) hx hb dX2_until_35 rfl hl (by decide) rfl (fun ls hl => ?_)
    refine lv_iconst (v := 0) hx hb dX2_until_36 (by decide) ?_
    refine lv_istore (lv' := [(4, .int 0), (3, .int dy), (2, .ref cp), (0, .ref h), (1, .int b9)]) hx hb dX2_until_37 hl (by decide) rfl (fun ls hl => ?_)
    have lp39 : ∀ (n9 i : Nat), i ≤ 201 → 201 < i + n9 → (fb_us (fun d9 => fb_fa (fb_ep pf w) (fb_rg (fb_dy df uf d9)) w 12) b9 (201 - i) i = fb_us (fun d9 => fb_fa (fb_ep pf w) (fb_rg (fb_dy df uf d9)) w 12) b9 201 0) → ∀ (H : Heap) (locs : List Loc), va_P G vwCl [(h, .inr (2, [.int 0, .int (dy + nI i), .int (nI w), .ref n, .ref d, .ref f, .ref o])), (n, .inl (cI, 12, .inl pf)), (d, .inl (cI, 12, .inl df)), (f, .inl (cI, 12, .inl tf)), (o, .inl (cI, 12, .inl (fb_dy df uf i))), (cp, .inl (cI, 12, .inl (fb_cy uf)))] H → va_D A [(h, .inr (2, [.int 0, .int (dy + nI i), .int (nI w), .ref n, .ref d, .ref f, .ref o])), (n, .inl (cI, 12, .inl pf)), (d, .inl (cI, 12, .inl df)), (f, .inl (cI, 12, .inl tf)), (o, .inl (cI, 12, .inl (fb_dy df uf i))), (cp, .inl (cI, 12, .inl (fb_cy uf)))] → va_S A s.heap H locs → ∀ ls : Array Slot, lv_has ls 5 [(4, .int (nI i)), (3, .int dy), (2, .ref cp), (0, .ref h), (1, .int b9)] → W p l e ({ frames := 4, cells := 1, slots := 12, locals := 91 }) s m args below meth c H locs 1 12 (MQ below ((fb_qi G (S := Nat) (fun a => (fb_MW cI h n d f a pf df tf (fb_cy uf) 0 dy (nI w))) (fb_us (fun d9 => fb_fa (fb_ep pf w) (fb_rg (fb_dy df uf d9)) w 12) b9 201 0) (fun _ => True)) A) args s 1 12 A) (F0 m 39 ls []) := by
      intro n9
      induction n9 with
      | zero => intro i  h1 h2; exact absurd h2 (by omega)
      | succ n9 ih39 =>
        intro i  hi_i hin9 hU H locs hP hD hS ls hl
        refine lv_iload hx hb dX2_until_39 (lv_at hl 0 rfl) ?_
        refine lv_sipush (v := 200) hx hb dX2_until_41 (by decide) ?_
        refine lv_icmp_gt (tgt := 65) hx hb dX2_until_44 (by decide) (fun c44 => ?_) (fun c44 => ?_)
        · skip
          have h44 : 200 < i := (nI_ltI (by decide) (by omega)).mp c44
          obtain rfl : i = 201 := by omega
          refine lv_aload_n hx hb dX2_until_65 rfl (lv_at hl 3 rfl) ?_
          refine lv_aload_n hx hb dX2_until_66 rfl (lv_at hl 2 rfl) ?_
          refine va_put (D := G) (ci := 2) (v := .ref cp) (ty := (.array .int)) (C := RX2) (T := TX2) (N := 7) hx hb hts (hin2) tyX2 tyX2_ok nmX2 hown hK hP hD hS 0 rfl rfl 6 (by decide) (hts (.fieldLink RX2 23 "FifthBeatsModel" "off" "[I") (by decide +kernel)) (fun _ h9 => h9) rfl (by decide +kernel) rfl rfl (Nat.le_of_ble_eq_true rfl) dX2_until_67 (fun H locs hP hD hS => ?_)
          have hP : va_P G vwCl [(h, .inr (2, [.int 0, .int (dy + nI 201), .int (nI w), .ref n, .ref d, .ref f, .ref cp])), (n, .inl (cI, 12, .inl pf)), (d, .inl (cI, 12, .inl df)), (f, .inl (cI, 12, .inl tf)), (o, .inl (cI, 12, .inl (fb_dy df uf 201))), (cp, .inl (cI, 12, .inl (fb_cy uf)))] H := hP
          have hD : va_D A [(h, .inr (2, [.int 0, .int (dy + nI 201), .int (nI w), .ref n, .ref d, .ref f, .ref cp])), (n, .inl (cI, 12, .inl pf)), (d, .inl (cI, 12, .inl df)), (f, .inl (cI, 12, .inl tf)), (o, .inl (cI, 12, .inl (fb_dy df uf 201))), (cp, .inl (cI, 12, .inl (fb_cy uf)))] := hD
          refine lv_aload_n hx hb dX2_until_70 rfl (lv_at hl 3 rfl) ?_
          refine lv_iload_n hx hb dX2_until_71 rfl (lv_at hl 1 rfl) ?_
          refine va_put (D := G) (ci := 2) (v := .int dy) (ty := .int) (C := RX2) (T := TX2) (N := 7) hx hb hts (hin2) tyX2 tyX2_ok nmX2 hown hK hP hD hS 0 rfl rfl 1 (by decide) (hts (.fieldLink RX2 97 "FifthBeatsModel" "day" "I") (by decide +kernel)) (fun _ h9 => h9) rfl (by decide +kernel) rfl rfl (Nat.le_of_ble_eq_true rfl) dX2_until_72 (fun H locs hP hD hS => ?_)
          have hP : va_P G vwCl [(h, .inr (2, [.int 0, .int dy, .int (nI w), .ref n, .ref d, .ref f, .ref cp])), (n, .inl (cI, 12, .inl pf)), (d, .inl (cI, 12, .inl df)), (f, .inl (cI, 12, .inl tf)), (o, .inl (cI, 12, .inl (fb_dy df uf 201))), (cp, .inl (cI, 12, .inl (fb_cy uf)))] H := hP
          have hD : va_D A [(h, .inr (2, [.int 0, .int dy, .int (nI w), .ref n, .ref d, .ref f, .ref cp])), (n, .inl (cI, 12, .inl pf)), (d, .inl (cI, 12, .inl df)), (f, .inl (cI, 12, .inl tf)), (o, .inl (cI, 12, .inl (fb_dy df uf 201))), (cp, .inl (cI, 12, .inl (fb_cy uf)))] := hD
          refine lv_iload hx hb dX2_until_75 (lv_at hl 0 rfl) ?_
          refine lv_sipush (v := 200) hx hb dX2_until_77 (by decide) ?_
          refine lv_icmp_le (tgt := 87) hx hb dX2_until_80 (by decide) (fun c80 => ?_) (fun c80 => ?_)
          · skip
            exact absurd c80 (by decide)
          · skip
            refine lv_iconst (v := (-1)) hx hb dX2_until_83 (by decide) ?_
            refine lv_goto (tgt := 89) hx hb dX2_until_84 (by decide) ?_
            have hP9 := hP.sub (ws' := [(h, .inr (2, [.int 0, .int dy, .int (nI w), .ref n, .ref d, .ref f, .ref cp])), (n, .inl (cI, 12, .inl pf)), (d, .inl (cI, 12, .inl df)), (f, .inl (cI, 12, .inl tf)), (cp, .inl (cI, 12, .inl (fb_cy uf)))]) [0, 1, 2, 3, 5] rfl
            have hD9 := hD.sub (ws' := [(h, .inr (2, [.int 0, .int dy, .int (nI w), .ref n, .ref d, .ref f, .ref cp])), (n, .inl (cI, 12, .inl pf)), (d, .inl (cI, 12, .inl df)), (f, .inl (cI, 12, .inl tf)), (cp, .inl (cI, 12, .inl (fb_cy uf)))]) [0, 1, 2, 3, 5] (by decide) rfl
            exact W.iret (v := (-1)) hx hb hr (fun t ht hW => ⟨⟨(-1), cp, rfl, ⟨by rw [← hU]; rfl, trivial⟩, by rw [ht]; exact hP9, hD9⟩, hS.F ht⟩) hS.2.2 dX2_until_89 hlk
        · skip
          have h44 : i ≤ 200 := Nat.le_of_not_lt (fun z => c44 (nI_lt z (by omega)))
          refine lv_aload_n hx hb dX2_until_47 rfl (lv_at hl 3 rfl) ?_
          refine fb_roV (As := []) (rest := []) (n := 0) ⟨hx, hb, hml, hown, hts⟩ (fb_c_X2_fastest l G cI cL h n d f o pf df tf (fb_dy df uf i) 0 (dy + nI i) w  hw) gX2_until_X2_fastest rfl (by decide +kernel) (by decide) (fb_PB.bl _ _ _ _) (va_recv hK hP (ci := 2) (q0 := 0) rfl rfl) (fb_PB.to (hP.sub (ws' := [(h, .inr (2, [.int 0, .int (dy + nI i), .int (nI w), .ref n, .ref d, .ref f, .ref o])), (n, .inl (cI, 12, .inl pf)), (d, .inl (cI, 12, .inl df)), (f, .inl (cI, 12, .inl tf)), (o, .inl (cI, 12, .inl (fb_dy df uf i)))]) [0, 1, 2, 3, 4] rfl) hK (hXn _ _ hS)) rfl hl.1 rfl (Nat.le_of_ble_eq_true rfl) dX2_until_48 (by decide) ?_
          refine lv_iload_n hx hb dX2_until_51 rfl (lv_at hl 4 rfl) ?_
          refine lv_icmp_ge (tgt := 65) hx hb dX2_until_52 (by decide) (fun c52 => ?_) (fun c52 => ?_)
          · skip
            refine lv_aload_n hx hb dX2_until_65 rfl (lv_at hl 3 rfl) ?_
            refine lv_aload_n hx hb dX2_until_66 rfl (lv_at hl 2 rfl) ?_
            refine va_put (D := G) (ci := 2) (v := .ref cp) (ty := (.array .int)) (C := RX2) (T := TX2) (N := 7) hx hb hts (hin2) tyX2 tyX2_ok nmX2 hown hK hP hD hS 0 rfl rfl 6 (by decide) (hts (.fieldLink RX2 23 "FifthBeatsModel" "off" "[I") (by decide +kernel)) (fun _ h9 => h9) rfl (by decide +kernel) rfl rfl (Nat.le_of_ble_eq_true rfl) dX2_until_67 (fun H locs hP hD hS => ?_)
            have hP : va_P G vwCl [(h, .inr (2, [.int 0, .int (dy + nI i), .int (nI w), .ref n, .ref d, .ref f, .ref cp])), (n, .inl (cI, 12, .inl pf)), (d, .inl (cI, 12, .inl df)), (f, .inl (cI, 12, .inl tf)), (o, .inl (cI, 12, .inl (fb_dy df uf i))), (cp, .inl (cI, 12, .inl (fb_cy uf)))] H := hP
            have hD : va_D A [(h, .inr (2, [.int 0, .int (dy + nI i), .int (nI w), .ref n, .ref d, .ref f, .ref cp])), (n, .inl (cI, 12, .inl pf)), (d, .inl (cI, 12, .inl df)), (f, .inl (cI, 12, .inl tf)), (o, .inl (cI, 12, .inl (fb_dy df uf i))), (cp, .inl (cI, 12, .inl (fb_cy uf)))] := hD
            refine lv_aload_n hx hb dX2_until_70 rfl (lv_at hl 3 rfl) ?_
            refine lv_iload_n hx hb dX2_until_71 rfl (lv_at hl 1 rfl) ?_
            refine va_put (D := G) (ci := 2) (v := .int dy) (ty := .int) (C := RX2) (T := TX2) (N := 7) hx hb hts (hin2) tyX2 tyX2_ok nmX2 hown hK hP hD hS 0 rfl rfl 1 (by decide) (hts (.fieldLink RX2 97 "FifthBeatsModel" "day" "I") (by decide +kernel)) (fun _ h9 => h9) rfl (by decide +kernel) rfl rfl (Nat.le_of_ble_eq_true rfl) dX2_until_72 (fun H locs hP hD hS => ?_)
            have hP : va_P G vwCl [(h, .inr (2, [.int 0, .int dy, .int (nI w), .ref n, .ref d, .ref f, .ref cp])), (n, .inl (cI, 12, .inl pf)), (d, .inl (cI, 12, .inl df)), (f, .inl (cI, 12, .inl tf)), (o, .inl (cI, 12, .inl (fb_dy df uf i))), (cp, .inl (cI, 12, .inl (fb_cy uf)))] H := hP
            have hD : va_D A [(h, .inr (2, [.int 0, .int dy, .int (nI w), .ref n, .ref d, .ref f, .ref cp])), (n, .inl (cI, 12, .inl pf)), (d, .inl (cI, 12, .inl df)), (f, .inl (cI, 12, .inl tf)), (o, .inl (cI, 12, .inl (fb_dy df uf i))), (cp, .inl (cI, 12, .inl (fb_cy uf)))] := hD
            refine lv_iload hx hb dX2_until_75 (lv_at hl 0 rfl) ?_
            refine lv_sipush (v := 200) hx hb dX2_until_77 (by decide) ?_
            refine lv_icmp_le (tgt := 87) hx hb dX2_until_80 (by decide) (fun c80 => ?_) (fun c80 => ?_)
            · skip
              refine lv_iload hx hb dX2_until_87 (lv_at hl 0 rfl) ?_
              have hP9 := hP.sub (ws' := [(h, .inr (2, [.int 0, .int dy, .int (nI w), .ref n, .ref d, .ref f, .ref cp])), (n, .inl (cI, 12, .inl pf)), (d, .inl (cI, 12, .inl df)), (f, .inl (cI, 12, .inl tf)), (cp, .inl (cI, 12, .inl (fb_cy uf)))]) [0, 1, 2, 3, 5] rfl
              have hD9 := hD.sub (ws' := [(h, .inr (2, [.int 0, .int dy, .int (nI w), .ref n, .ref d, .ref f, .ref cp])), (n, .inl (cI, 12, .inl pf)), (d, .inl (cI, 12, .inl df)), (f, .inl (cI, 12, .inl tf)), (cp, .inl (cI, 12, .inl (fb_cy uf)))]) [0, 1, 2, 3, 5] (by decide) rfl
              exact W.iret (v := nI i) hx hb hr (fun t ht hW => ⟨⟨nI i, cp, rfl, ⟨by rw [← hU, show 201 - i = (200 - i) + 1 from by omega]; exact (if_neg (fun z => absurd c52 (Int32.not_le.mpr z))).symm, trivial⟩, by rw [ht]; exact hP9, hD9⟩, hS.F ht⟩) hS.2.2 dX2_until_89 hlk
            · skip
              exact absurd (show nI i ≤ 200 from nI_le h44 (by decide)) c80
          · skip
            refine lv_aload_n hx hb dX2_until_55 rfl (lv_at hl 3 rfl) ?_
            refine fb_mvV (As := []) (rest := []) (n := 0) (wr := [(cp, .inl (cI, 12, .inl (fb_cy uf)))]) (wz := [(h, .inr (2, [.int 0, .int ((dy + nI i) + 1), .int (nI w), .ref n, .ref d, .ref f, .ref o])), (n, .inl (cI, 12, .inl pf)), (d, .inl (cI, 12, .inl df)), (f, .inl (cI, 12, .inl tf)), (o, .inl (cI, 12, .inl (fb_pa df (fb_dy df uf i) 12))), (cp, .inl (cI, 12, .inl (fb_cy uf)))]) ⟨hx, hb, hml, hown, hts⟩ (fb_c_X2_pass l G cI cL h n d f o pf df tf (fb_dy df uf i) 0 (dy + nI i) w  _) gX2_until_X2_pass rfl (by decide +kernel) (by decide) (va_recv hK hP (ci := 2) (q0 := 0) rfl rfl) hP hK hD hS hA hX [0, 1, 2, 3, 4] [5] [1, 2, 3, 4, 5, 0] rfl rfl rfl rfl rfl rfl (by decide) rfl hl.1 rfl (Nat.le_of_ble_eq_true rfl) dX2_until_56 (by decide) (fun H locs hP hD hS => ?_)
            refine lv_iinc (v := nI (i + 1)) (lv' := [(4, .int (nI (i + 1))), (3, .int dy), (2, .ref cp), (0, .ref h), (1, .int b9)]) hx hb dX2_until_59 hl (k := 0) rfl (show nI i + 1 = nI (i + 1) from nI_1 i) (by decide) rfl (fun ls hl => ?_)
            refine lv_goto (tgt := 39) hx hb dX2_until_62 (by decide) ?_
            exact ih39 (i + 1)  (by omega) (by omega) (by rw [← hU, show 201 - i = (201 - (i + 1)) + 1 from by omega]; exact (if_pos (Int32.not_le.mp c52)).symm) _ _ (by rw [show dy + nI (i + 1) = dy + nI i + 1 from by rw [nI_succ, Int32.add_assoc]]; exact hP) (by rw [show dy + nI (i + 1) = dy + nI i + 1 from by rw [nI_succ, Int32.add_assoc]]; exact hD) hS _ (lv_sub hl [0, 1, 2, 3, 4] (rfl))
    exact lp39 (201 + 1) 0  (by omega) (by omega) (rfl) _ _ (by rw [show dy + nI 0 = dy from fb_a0 dy]; exact hP) (by rw [show dy + nI 0 = dy from fb_a0 dy]; exact hD) hS _ (lv_sub hl [0, 1, 2, 3, 4] (rfl))
  · skip
    first | exact absurd c13 (by decide) | exact absurd (by decide) c13
set_option maxHeartbeats 4000000 in
set_option maxRecDepth 100000 in
theorem fb_c_X2_advise (l : Launch) (G : va_G) (cI cL : ClassId) (h n d f o : Nat) (pf df tf uf : Nat → Int32) (th dy : Int32) (w : Nat) (hw : w < 12) (sz : Nat) : fb_MG l yX2_advise wsX2_advise 5 112 0 0 [.ref h] G cI cL sz (fb_MW cI h n d f o pf df tf uf th dy (nI w)) (fb_qi G (S := (Nat → Int32)) (fun pv => (fb_MW cI h n d f o pv df tf uf 0 dy (nI w))) (nI (fb_be (fb_ca (fb_ep pf w) (fb_rg uf) (fb_rg tf) w) 11)) (fun pv => fb_ep pv w = fb_ep pf w)) := by
  refine fb_mg_of (cc := cX2_advise) (maxL := 6) (ret := (some .int)) (by decide) rfl (Nat.le_of_ble_eq_true rfl) ?_
  intro p e s m args below meth c A hx hb hr hml hlk hts hown hP hK hD hA hX hin9 ls hl
  have hown : s.vm.findClass RX2 = some m.cls := hown
  have hP : va_P G vwCl [(h, .inr (2, [.int th, .int dy, .int (nI w), .ref n, .ref d, .ref f, .ref o])), (n, .inl (cI, 12, .inl pf)), (d, .inl (cI, 12, .inl df)), (f, .inl (cI, 12, .inl tf)), (o, .inl (cI, 12, .inl uf))] s.heap := hP
  have hD : va_D A [(h, .inr (2, [.int th, .int dy, .int (nI w), .ref n, .ref d, .ref f, .ref o])), (n, .inl (cI, 12, .inl pf)), (d, .inl (cI, 12, .inl df)), (f, .inl (cI, 12, .inl tf)), (o, .inl (cI, 12, .inl uf))] := hD
  have hS : va_S A s.heap s.heap [] := va_S.rf
  have hXn : ∀ (H : Heap) (locs : List Loc), va_S A s.heap H locs → fb_sx (fun _ => False) s H := fun H locs h9 => (hX.kept h9.2.1).narrow (fun _ z => z.elim)
  have hl : lv_has ls 6 [(0, .ref h)] := hl
  have hin2 : ∀ w ∈ u_ws RX2 TX2 7, w ∈ wsX2_advise := by decide +kernel
  refine lv_aload_n hx hb dX2_advise_0 rfl (lv_at hl 0 rfl) ?_
  refine lv_iconst (v := 0) hx hb dX2_advise_1 (by decide) ?_
  refine va_put (D := G) (ci := 2) (v := .int 0) (ty := .int) (C := RX2) (T := TX2) (N := 7) hx hb hts (hin2) tyX2 tyX2_ok nmX2 hown hK hP hD hS 0 rfl rfl 0 (by decide) (hts (.fieldLink RX2 26 "FifthBeatsModel" "thrown" "I") (by decide +kernel)) (fun _ h9 => h9) rfl (by decide +kernel) rfl rfl (Nat.le_of_ble_eq_true rfl) dX2_advise_2 (fun H locs hP hD hS => ?_)
  have hP : va_P G vwCl [(h, .inr (2, [.int 0, .int dy, .int (nI w), .ref n, .ref d, .ref f, .ref o])), (n, .inl (cI, 12, .inl pf)), (d, .inl (cI, 12, .inl df)), (f, .inl (cI, 12, .inl tf)), (o, .inl (cI, 12, .inl uf))] H := hP
  have hD : va_D A [(h, .inr (2, [.int 0, .int dy, .int (nI w), .ref n, .ref d, .ref f, .ref o])), (n, .inl (cI, 12, .inl pf)), (d, .inl (cI, 12, .inl df)), (f, .inl (cI, 12, .inl tf)), (o, .inl (cI, 12, .inl uf))] := hD
  refine lv_aload_n hx hb dX2_advise_5 rfl (lv_at hl 0 rfl) ?_
  refine va_get (D := G) (ci := 2) (v := .int (nI w)) (C := RX2) (T := TX2) (N := 7) hx hb hts (hin2) hown hK hP 0 rfl rfl 2 (by decide) (hts (.fieldLink RX2 7 "FifthBeatsModel" "wolf" "I") (by decide +kernel)) (fun _ h9 => h9) rfl dX2_advise_6 ?_
  refine lv_istore_n (lv' := [(1, .int (nI w)), (0, .ref h)]) hx hb dX2_advise_9 rfl hl (by decide) rfl (fun ls hl => ?_)
  refine lv_iconst (v := (-1)) hx hb dX2_advise_10 (by decide) ?_
  refine lv_istore_n (lv' := [(2, .int (-1)), (1, .int (nI w)), (0, .ref h)]) hx hb dX2_advise_11 rfl hl (by decide) rfl (fun ls hl => ?_)
  refine lv_iconst (v := 0) hx hb dX2_advise_12 (by decide) ?_
  refine lv_istore_n (lv' := [(3, .int 0), (2, .int (-1)), (1, .int (nI w)), (0, .ref h)]) hx hb dX2_advise_13 rfl hl (by decide) rfl (fun ls hl => ?_)
  refine lv_iconst (v := 0) hx hb dX2_advise_14 (by decide) ?_
  refine lv_istore (lv' := [(4, .int 0), (3, .int 0), (2, .int (-1)), (1, .int (nI w)), (0, .ref h)]) hx hb dX2_advise_15 hl (by decide) rfl (fun ls hl => ?_)
  have lp17 : ∀ (n9 i : Nat) (pv : Nat → Int32), i ≤ 12 → 12 < i + n9 → (fb_ep pv w = fb_ep pf w) → ∀ (H : Heap) (locs : List Loc), va_P G vwCl [(h, .inr (2, [.int 0, .int dy, .int (nI w), .ref n, .ref d, .ref f, .ref o])), (n, .inl (cI, 12, .inl pv)), (d, .inl (cI, 12, .inl df)), (f, .inl (cI, 12, .inl tf)), (o, .inl (cI, 12, .inl uf))] H → va_D A [(h, .inr (2, [.int 0, .int dy, .int (nI w), .ref n, .ref d, .ref f, .ref o])), (n, .inl (cI, 12, .inl pv)), (d, .inl (cI, 12, .inl df)), (f, .inl (cI, 12, .inl tf)), (o, .inl (cI, 12, .inl uf))] → va_S A s.heap H locs → ∀ ls : Array Slot, lv_has ls 6 [(4, .int (nI i)), (2, .int (fb_bb nI (-1) (fb_ca (fb_ep pf w) (fb_rg uf) (fb_rg tf) w) i)), (3, .int (fb_bl 0 (fb_ca (fb_ep pf w) (fb_rg uf) (fb_rg tf) w) i)), (1, .int (nI w)), (0, .ref h)] → W p l e ({ frames := 5, cells := 0, slots := 0, locals := 112 }) s m args below meth c H locs 0 0 (MQ below ((fb_qi G (S := (Nat → Int32)) (fun pv => (fb_MW cI h n d f o pv df tf uf 0 dy (nI w))) (nI (fb_be (fb_ca (fb_ep pf w) (fb_rg uf) (fb_rg tf) w) 11)) (fun pv => fb_ep pv w = fb_ep pf w)) A) args s 0 0 A) (F0 m 17 ls []) := by
    intro n9
    induction n9 with
    | zero => intro i pv h1 h2; exact absurd h2 (by omega)
    | succ n9 ih17 =>
      intro i pv hi_i hin9 hpv H locs hP hD hS ls hl
      refine lv_iload hx hb dX2_advise_17 (lv_at hl 0 rfl) ?_
      refine lv_bipush (v := 12) hx hb dX2_advise_19 (by decide) ?_
      refine lv_icmp_ge (tgt := 67) hx hb dX2_advise_21 (by decide) (fun c21 => ?_) (fun c21 => ?_)
      · skip
        have hxi : i = 12 := fb_lp_ex (by decide) hi_i c21
        subst hxi
        refine lv_iload_n hx hb dX2_advise_67 rfl (lv_at hl 1 rfl) ?_
        have hP9 := hP.sub (ws' := [(h, .inr (2, [.int 0, .int dy, .int (nI w), .ref n, .ref d, .ref f, .ref o])), (n, .inl (cI, 12, .inl pv)), (d, .inl (cI, 12, .inl df)), (f, .inl (cI, 12, .inl tf)), (o, .inl (cI, 12, .inl uf))]) [0, 1, 2, 3, 4] rfl
        have hD9 := hD.sub (ws' := [(h, .inr (2, [.int 0, .int dy, .int (nI w), .ref n, .ref d, .ref f, .ref o])), (n, .inl (cI, 12, .inl pv)), (d, .inl (cI, 12, .inl df)), (f, .inl (cI, 12, .inl tf)), (o, .inl (cI, 12, .inl uf))]) [0, 1, 2, 3, 4] (by decide) rfl
        exact W.iret (v := fb_bb nI (-1) (fb_ca (fb_ep pf w) (fb_rg uf) (fb_rg tf) w) 12) hx hb hr (fun t ht hW => ⟨⟨fb_bb nI (-1) (fb_ca (fb_ep pf w) (fb_rg uf) (fb_rg tf) w) 12, pv, rfl, ⟨rfl, hpv⟩, by rw [ht]; exact hP9, hD9⟩, hS.F ht⟩) hS.2.2 dX2_advise_68 hlk
      · skip
        have hi12 : i < 12 := fb_lp_in (by decide) hi_i c21
        refine lv_aload_n hx hb dX2_advise_24 rfl (lv_at hl 4 rfl) ?_
        refine lv_iload hx hb dX2_advise_25 (lv_at hl 0 rfl) ?_
        refine fb_mvV (As := [.int (nI i)]) (rest := []) (n := 1) (wr := []) (wz := [(h, .inr (2, [.int 0, .int dy, .int (nI i), .ref n, .ref d, .ref f, .ref o])), (n, .inl (cI, 12, .inl (upd pv w (fb_ep pv w i)))), (d, .inl (cI, 12, .inl df)), (f, .inl (cI, 12, .inl tf)), (o, .inl (cI, 12, .inl uf))]) ⟨hx, hb, hml, hown, hts⟩ (fb_c_X2_shiftTo l G cI cL h n d f o pv df tf uf 0 dy w i hi12 hw _) gX2_advise_X2_shiftTo rfl (by decide +kernel) (by decide) (va_recv hK hP (ci := 2) (q0 := 0) rfl rfl) hP hK hD hS hA hX [0, 1, 2, 3, 4] [] [0, 1, 2, 3, 4] rfl rfl rfl rfl rfl rfl (by decide) rfl hl.1 rfl (Nat.le_of_ble_eq_true rfl) dX2_advise_27 (by decide) (fun H locs hP hD hS => ?_)
        refine lv_aload_n hx hb dX2_advise_30 rfl (lv_at hl 4 rfl) ?_
        refine fb_roV (As := []) (rest := []) (n := 0) ⟨hx, hb, hml, hown, hts⟩ (fb_c_X2_costs l G cI cL h n d f o (upd pv w (fb_ep pv w i)) df tf uf 0 dy i  hi12) gX2_advise_X2_costs rfl (by decide +kernel) (by decide) (fb_PB.bl _ _ _ _) (va_recv hK hP (ci := 2) (q0 := 0) rfl rfl) (fb_PB.to hP hK (hXn _ _ hS)) rfl hl.1 rfl (Nat.le_of_ble_eq_true rfl) dX2_advise_31 (by decide) ?_
        refine fb_ti (z := fb_ca (fb_ep pf w) (fb_rg uf) (fb_rg tf) w i) (by unfold fb_ca; rw [fb_ep_sh pv hw hi12, hpv]) ?_
        refine lv_istore (lv' := [(5, .int (fb_ca (fb_ep pf w) (fb_rg uf) (fb_rg tf) w i)), (4, .int (nI i)), (2, .int (fb_bb nI (-1) (fb_ca (fb_ep pf w) (fb_rg uf) (fb_rg tf) w) i)), (3, .int (fb_bl 0 (fb_ca (fb_ep pf w) (fb_rg uf) (fb_rg tf) w) i)), (1, .int (nI w)), (0, .ref h)]) hx hb dX2_advise_34 hl (by decide) rfl (fun ls hl => ?_)
        refine lv_aload_n hx hb dX2_advise_36 rfl (lv_at hl 5 rfl) ?_
        refine lv_iload_n hx hb dX2_advise_37 rfl (lv_at hl 4 rfl) ?_
        refine fb_mvV (As := [.int (nI w)]) (rest := []) (n := 1) (wr := []) (wz := [(h, .inr (2, [.int 0, .int dy, .int (nI w), .ref n, .ref d, .ref f, .ref o])), (n, .inl (cI, 12, .inl (upd (upd pv w (fb_ep pv w i)) i (fb_ep (upd pv w (fb_ep pv w i)) i w)))), (d, .inl (cI, 12, .inl df)), (f, .inl (cI, 12, .inl tf)), (o, .inl (cI, 12, .inl uf))]) ⟨hx, hb, hml, hown, hts⟩ (fb_c_X2_shiftTo l G cI cL h n d f o (upd pv w (fb_ep pv w i)) df tf uf 0 dy i w hw hi12 _) gX2_advise_X2_shiftTo rfl (by decide +kernel) (by decide) (va_recv hK hP (ci := 2) (q0 := 0) rfl rfl) hP hK hD hS hA hX [0, 1, 2, 3, 4] [] [0, 1, 2, 3, 4] rfl rfl rfl rfl rfl rfl (by decide) rfl hl.1 rfl (Nat.le_of_ble_eq_true rfl) dX2_advise_38 (by decide) (fun H locs hP hD hS => ?_)
        refine lv_iload_n hx hb dX2_advise_41 rfl (lv_at hl 2 rfl) ?_
        refine lv_iconst (v := (-1)) hx hb dX2_advise_42 (by decide) ?_
        refine lv_icmp_eq (tgt := 55) hx hb dX2_advise_43 (by decide) (fun c43 => ?_) (fun c43 => ?_)
        · skip
          have h43 : i = 0 := fb_bb_z (by omega) c43
          refine lv_iload hx hb dX2_advise_55 (lv_at hl 1 rfl) ?_
          refine lv_istore_n (lv' := [(2, .int (nI i)), (5, .int (fb_ca (fb_ep pf w) (fb_rg uf) (fb_rg tf) w i)), (4, .int (nI i)), (3, .int (fb_bl 0 (fb_ca (fb_ep pf w) (fb_rg uf) (fb_rg tf) w) i)), (1, .int (nI w)), (0, .ref h)]) hx hb dX2_advise_57 rfl hl (by decide) rfl (fun ls hl => ?_)
          refine lv_iload hx hb dX2_advise_58 (lv_at hl 1 rfl) ?_
          refine lv_istore_n (lv' := [(3, .int (fb_ca (fb_ep pf w) (fb_rg uf) (fb_rg tf) w i)), (2, .int (nI i)), (5, .int (fb_ca (fb_ep pf w) (fb_rg uf) (fb_rg tf) w i)), (4, .int (nI i)), (1, .int (nI w)), (0, .ref h)]) hx hb dX2_advise_60 rfl hl (by decide) rfl (fun ls hl => ?_)
          refine lv_iinc (v := nI (i + 1)) (lv' := [(4, .int (nI (i + 1))), (3, .int (fb_ca (fb_ep pf w) (fb_rg uf) (fb_rg tf) w i)), (2, .int (nI i)), (5, .int (fb_ca (fb_ep pf w) (fb_rg uf) (fb_rg tf) w i)), (1, .int (nI w)), (0, .ref h)]) hx hb dX2_advise_61 hl (k := 3) rfl (show nI i + 1 = nI (i + 1) from nI_1 i) (by decide) rfl (fun ls hl => ?_)
          refine lv_goto (tgt := 17) hx hb dX2_advise_64 (by decide) ?_
          exact ih17 (i + 1) _ (by omega) (by omega) (by rw [fb_ep_sh _ hi12 hw, fb_ep_sh pv hw hi12, fb_sh_sh hw hi12 (fb_rg_ep pv w), hpv]) _ _ (hP) (hD) hS _ (lv_sub hl [0, 2, 1, 4, 5] (by rw [(fb_take (g := nI) (z := -1) (y := 0) (c := fb_ca (fb_ep pf w) (fb_rg uf) (fb_rg tf) w) (Or.inl h43)).1, (fb_take (g := nI) (z := -1) (y := 0) (c := fb_ca (fb_ep pf w) (fb_rg uf) (fb_rg tf) w) (Or.inl h43)).2]; rfl))
        · skip
          have h43 : ¬ i = 0 := fun e9 => c43 (by rw [e9]; rfl)
          refine lv_iload hx hb dX2_advise_46 (lv_at hl 0 rfl) ?_
          refine lv_iload_n hx hb dX2_advise_48 rfl (lv_at hl 3 rfl) ?_
          refine lv_icmp_lt (tgt := 55) hx hb dX2_advise_49 (by decide) (fun c49 => ?_) (fun c49 => ?_)
          · skip
            refine lv_iload hx hb dX2_advise_55 (lv_at hl 1 rfl) ?_
            refine lv_istore_n (lv' := [(2, .int (nI i)), (5, .int (fb_ca (fb_ep pf w) (fb_rg uf) (fb_rg tf) w i)), (4, .int (nI i)), (3, .int (fb_bl 0 (fb_ca (fb_ep pf w) (fb_rg uf) (fb_rg tf) w) i)), (1, .int (nI w)), (0, .ref h)]) hx hb dX2_advise_57 rfl hl (by decide) rfl (fun ls hl => ?_)
            refine lv_iload hx hb dX2_advise_58 (lv_at hl 1 rfl) ?_
            refine lv_istore_n (lv' := [(3, .int (fb_ca (fb_ep pf w) (fb_rg uf) (fb_rg tf) w i)), (2, .int (nI i)), (5, .int (fb_ca (fb_ep pf w) (fb_rg uf) (fb_rg tf) w i)), (4, .int (nI i)), (1, .int (nI w)), (0, .ref h)]) hx hb dX2_advise_60 rfl hl (by decide) rfl (fun ls hl => ?_)
            refine lv_iinc (v := nI (i + 1)) (lv' := [(4, .int (nI (i + 1))), (3, .int (fb_ca (fb_ep pf w) (fb_rg uf) (fb_rg tf) w i)), (2, .int (nI i)), (5, .int (fb_ca (fb_ep pf w) (fb_rg uf) (fb_rg tf) w i)), (1, .int (nI w)), (0, .ref h)]) hx hb dX2_advise_61 hl (k := 3) rfl (show nI i + 1 = nI (i + 1) from nI_1 i) (by decide) rfl (fun ls hl => ?_)
            refine lv_goto (tgt := 17) hx hb dX2_advise_64 (by decide) ?_
            exact ih17 (i + 1) _ (by omega) (by omega) (by rw [fb_ep_sh _ hi12 hw, fb_ep_sh pv hw hi12, fb_sh_sh hw hi12 (fb_rg_ep pv w), hpv]) _ _ (hP) (hD) hS _ (lv_sub hl [0, 2, 1, 4, 5] (by rw [(fb_take (g := nI) (z := -1) (y := 0) (c := fb_ca (fb_ep pf w) (fb_rg uf) (fb_rg tf) w) (Or.inr c49)).1, (fb_take (g := nI) (z := -1) (y := 0) (c := fb_ca (fb_ep pf w) (fb_rg uf) (fb_rg tf) w) (Or.inr c49)).2]; rfl))
          · skip
            refine lv_goto (tgt := 61) hx hb dX2_advise_52 (by decide) ?_
            refine lv_iinc (v := nI (i + 1)) (lv' := [(4, .int (nI (i + 1))), (5, .int (fb_ca (fb_ep pf w) (fb_rg uf) (fb_rg tf) w i)), (2, .int (fb_bb nI (-1) (fb_ca (fb_ep pf w) (fb_rg uf) (fb_rg tf) w) i)), (3, .int (fb_bl 0 (fb_ca (fb_ep pf w) (fb_rg uf) (fb_rg tf) w) i)), (1, .int (nI w)), (0, .ref h)]) hx hb dX2_advise_61 hl (k := 1) rfl (show nI i + 1 = nI (i + 1) from nI_1 i) (by decide) rfl (fun ls hl => ?_)
            refine lv_goto (tgt := 17) hx hb dX2_advise_64 (by decide) ?_
            exact ih17 (i + 1) _ (by omega) (by omega) (by rw [fb_ep_sh _ hi12 hw, fb_ep_sh pv hw hi12, fb_sh_sh hw hi12 (fb_rg_ep pv w), hpv]) _ _ (hP) (hD) hS _ (lv_sub hl [0, 2, 3, 4, 5] (by rw [(fb_skip (g := nI) (z := -1) (y := 0) (c := fb_ca (fb_ep pf w) (fb_rg uf) (fb_rg tf) w) h43 c49).1, (fb_skip (g := nI) (z := -1) (y := 0) (c := fb_ca (fb_ep pf w) (fb_rg uf) (fb_rg tf) w) h43 c49).2]; rfl))
  exact lp17 (12 + 1) 0 _ (by omega) (by omega) (rfl) _ _ (hP) (hD) hS _ (lv_sub hl [0, 2, 1, 3, 4] (rfl))
set_option maxHeartbeats 4000000 in
set_option maxRecDepth 100000 in
theorem fb_c_X2_temper_ok (l : Launch) (G : va_G) (cI cL : ClassId) (h n d f o : Nat) (pf df tf uf : Nat → Int32) (th dy : Int32) (w : Nat) (j : Nat) (hj : j < 12) (hjw : ¬ j = w) (hw : w < 12) (hc : ∀ t, t < 31 → ¬ fb_ct (fb_ep pf w) (fb_rg uf) (fb_rg tf) w j t = -1) (sz : Nat) : fb_MG l yX2_temper wsX2_temper 5 112 0 0 [.ref h, .int (nI j)] G cI cL sz (fb_MW cI h n d f o pf df tf uf th dy (nI w)) (fb_qi G (S := Unit) (fun _ => (fb_MW cI h n d f o pf df tf uf 0 dy (nI w))) (fb_tv (fb_be (fb_ct (fb_ep pf w) (fb_rg uf) (fb_rg tf) w j) 30)) (fun _ => True)) := by
  refine fb_mg_of (cc := cX2_temper) (maxL := 7) (ret := (some .int)) (by decide) rfl (Nat.le_of_ble_eq_true rfl) ?_
  intro p e s m args below meth c A hx hb hr hml hlk hts hown hP hK hD hA hX hin9 ls hl
  have hown : s.vm.findClass RX2 = some m.cls := hown
  have hP : va_P G vwCl [(h, .inr (2, [.int th, .int dy, .int (nI w), .ref n, .ref d, .ref f, .ref o])), (n, .inl (cI, 12, .inl pf)), (d, .inl (cI, 12, .inl df)), (f, .inl (cI, 12, .inl tf)), (o, .inl (cI, 12, .inl uf))] s.heap := hP
  have hD : va_D A [(h, .inr (2, [.int th, .int dy, .int (nI w), .ref n, .ref d, .ref f, .ref o])), (n, .inl (cI, 12, .inl pf)), (d, .inl (cI, 12, .inl df)), (f, .inl (cI, 12, .inl tf)), (o, .inl (cI, 12, .inl uf))] := hD
  have hS : va_S A s.heap s.heap [] := va_S.rf
  have hXn : ∀ (H : Heap) (locs : List Loc), va_S A s.heap H locs → fb_sx (fun _ => False) s H := fun H locs h9 => (hX.kept h9.2.1).narrow (fun _ z => z.elim)
  have hl : lv_has ls 7 [(0, .ref h), (1, .int (nI j))] := hl
  have hin2 : ∀ w ∈ u_ws RX2 TX2 7, w ∈ wsX2_temper := by decide +kernel
  refine lv_aload_n hx hb dX2_temper_0 rfl (lv_at hl 0 rfl) ?_
  refine lv_iconst (v := 0) hx hb dX2_temper_1 (by decide) ?_
  refine va_put (D := G) (ci := 2) (v := .int 0) (ty := .int) (C := RX2) (T := TX2) (N := 7) hx hb hts (hin2) tyX2 tyX2_ok nmX2 hown hK hP hD hS 0 rfl rfl 0 (by decide) (hts (.fieldLink RX2 26 "FifthBeatsModel" "thrown" "I") (by decide +kernel)) (fun _ h9 => h9) rfl (by decide +kernel) rfl rfl (Nat.le_of_ble_eq_true rfl) dX2_temper_2 (fun H locs hP hD hS => ?_)
  have hP : va_P G vwCl [(h, .inr (2, [.int 0, .int dy, .int (nI w), .ref n, .ref d, .ref f, .ref o])), (n, .inl (cI, 12, .inl pf)), (d, .inl (cI, 12, .inl df)), (f, .inl (cI, 12, .inl tf)), (o, .inl (cI, 12, .inl uf))] H := hP
  have hD : va_D A [(h, .inr (2, [.int 0, .int dy, .int (nI w), .ref n, .ref d, .ref f, .ref o])), (n, .inl (cI, 12, .inl pf)), (d, .inl (cI, 12, .inl df)), (f, .inl (cI, 12, .inl tf)), (o, .inl (cI, 12, .inl uf))] := hD
  refine lv_iload_n hx hb dX2_temper_5 rfl (lv_at hl 1 rfl) ?_
  refine fb_roS (As := [.int (nI j)]) (rest := []) (n := 1) ⟨hx, hb, hml, hown, hts⟩ (fb_c_X2_isOne l (nI j)) gX2_temper_X2_isOne rfl (by decide +kernel) (by decide) fb_Bl_T (fun _ _ _ => trivial) rfl hl.1 rfl (Nat.le_of_ble_eq_true rfl) dX2_temper_6 (by decide) ?_
  refine fb_ti (z := 1) (fb_ii_j hj) ?_
  refine lv_if_ne (tgt := 18) hx hb dX2_temper_9 (by decide) (fun c9 => ?_) (fun c9 => ?_)
  · skip
    refine lv_iload_n hx hb dX2_temper_18 rfl (lv_at hl 1 rfl) ?_
    refine lv_aload_n hx hb dX2_temper_19 rfl (lv_at hl 0 rfl) ?_
    refine va_get (D := G) (ci := 2) (v := .int (nI w)) (C := RX2) (T := TX2) (N := 7) hx hb hts (hin2) hown hK hP 0 rfl rfl 2 (by decide) (hts (.fieldLink RX2 7 "FifthBeatsModel" "wolf" "I") (by decide +kernel)) (fun _ h9 => h9) rfl dX2_temper_20 ?_
    refine lv_icmp_ne (tgt := 32) hx hb dX2_temper_23 (by decide) (fun c23 => ?_) (fun c23 => ?_)
    · skip
      refine lv_aload_n hx hb dX2_temper_32 rfl (lv_at hl 0 rfl) ?_
      refine va_get (D := G) (ci := 2) (v := .ref n) (C := RX2) (T := TX2) (N := 7) hx hb hts (hin2) hown hK hP 0 rfl rfl 3 (by decide) (hts (.fieldLink RX2 13 "FifthBeatsModel" "plan" "[I") (by decide +kernel)) (fun _ h9 => h9) rfl dX2_temper_33 ?_
      refine lv_iload_n hx hb dX2_temper_36 rfl (lv_at hl 1 rfl) ?_
      refine va_iald hx hb hK hP 1 0 rfl rfl (vp_in_nI hj (by decide)) dX2_temper_37 ?_
      refine fb_ti (z := fb_rg pf j) (by rw [fb_cl (by omega), fb_rg_lt hj]) ?_
      refine lv_istore_n (lv' := [(2, .int (fb_rg pf j)), (0, .ref h), (1, .int (nI j))]) hx hb dX2_temper_38 rfl hl (by decide) rfl (fun ls hl => ?_)
      refine lv_iconst (v := 0) hx hb dX2_temper_39 (by decide) ?_
      refine lv_istore_n (lv' := [(3, .int 0), (2, .int (fb_rg pf j)), (0, .ref h), (1, .int (nI j))]) hx hb dX2_temper_40 rfl hl (by decide) rfl (fun ls hl => ?_)
      refine lv_iconst (v := (-1)) hx hb dX2_temper_41 (by decide) ?_
      refine lv_istore (lv' := [(4, .int (-1)), (3, .int 0), (2, .int (fb_rg pf j)), (0, .ref h), (1, .int (nI j))]) hx hb dX2_temper_42 hl (by decide) rfl (fun ls hl => ?_)
      refine lv_bipush (v := (-10)) hx hb dX2_temper_44 (by decide) ?_
      refine lv_istore (lv' := [(5, .int (-10)), (4, .int (-1)), (3, .int 0), (2, .int (fb_rg pf j)), (0, .ref h), (1, .int (nI j))]) hx hb dX2_temper_46 hl (by decide) rfl (fun ls hl => ?_)
      have lp48 : ∀ (n9 i : Nat) (pv : Nat → Int32), i ≤ 31 → 31 < i + n9 → (∀ k, ¬ k = j → pv k = pf k) → ∀ (H : Heap) (locs : List Loc), va_P G vwCl [(h, .inr (2, [.int 0, .int dy, .int (nI w), .ref n, .ref d, .ref f, .ref o])), (n, .inl (cI, 12, .inl pv)), (d, .inl (cI, 12, .inl df)), (f, .inl (cI, 12, .inl tf)), (o, .inl (cI, 12, .inl uf))] H → va_D A [(h, .inr (2, [.int 0, .int dy, .int (nI w), .ref n, .ref d, .ref f, .ref o])), (n, .inl (cI, 12, .inl pv)), (d, .inl (cI, 12, .inl df)), (f, .inl (cI, 12, .inl tf)), (o, .inl (cI, 12, .inl uf))] → va_S A s.heap H locs → ∀ ls : Array Slot, lv_has ls 7 [(5, .int (fb_tv i)), (3, .int (fb_bb fb_tv 0 (fb_ct (fb_ep pf w) (fb_rg uf) (fb_rg tf) w j) i)), (4, .int (fb_bl (-1) (fb_ct (fb_ep pf w) (fb_rg uf) (fb_rg tf) w j) i)), (2, .int (fb_rg pf j)), (0, .ref h), (1, .int (nI j))] → W p l e ({ frames := 5, cells := 0, slots := 0, locals := 112 }) s m args below meth c H locs 0 0 (MQ below ((fb_qi G (S := Unit) (fun _ => (fb_MW cI h n d f o pf df tf uf 0 dy (nI w))) (fb_tv (fb_be (fb_ct (fb_ep pf w) (fb_rg uf) (fb_rg tf) w j) 30)) (fun _ => True)) A) args s 0 0 A) (F0 m 48 ls []) := by
        intro n9
        induction n9 with
        | zero => intro i pv h1 h2; exact absurd h2 (by omega)
        | succ n9 ih48 =>
          intro i pv hi_i hin9 hpv H locs hP hD hS ls hl
          refine lv_iload hx hb dX2_temper_48 (lv_at hl 0 rfl) ?_
          refine lv_bipush (v := 20) hx hb dX2_temper_50 (by decide) ?_
          refine lv_icmp_gt (tgt := 98) hx hb dX2_temper_52 (by decide) (fun c52 => ?_) (fun c52 => ?_)
          · skip
            obtain rfl : i = 31 := (fb_tv_gt hi_i).mp c52
            refine lv_aload_n hx hb dX2_temper_98 rfl (lv_at hl 4 rfl) ?_
            refine va_get (D := G) (ci := 2) (v := .ref n) (C := RX2) (T := TX2) (N := 7) hx hb hts (hin2) hown hK hP 0 rfl rfl 3 (by decide) (hts (.fieldLink RX2 13 "FifthBeatsModel" "plan" "[I") (by decide +kernel)) (fun _ h9 => h9) rfl dX2_temper_99 ?_
            refine lv_iload_n hx hb dX2_temper_102 rfl (lv_at hl 5 rfl) ?_
            refine lv_iload_n hx hb dX2_temper_103 rfl (lv_at hl 3 rfl) ?_
            refine va_iast hx hb hK hP hD hS 1 0 rfl rfl (vp_in_nI hj (by decide)) dX2_temper_104 (fun H locs hP hD hS => ?_)
            rw [show (nI j).toNatClampNeg = j from fb_cl (by omega)] at hP hD
            rw [show upd pv j (fb_rg pf j) = pf from fb_upb hpv hj] at hP hD
            have hP : va_P G vwCl [(h, .inr (2, [.int 0, .int dy, .int (nI w), .ref n, .ref d, .ref f, .ref o])), (n, .inl (cI, 12, .inl pf)), (d, .inl (cI, 12, .inl df)), (f, .inl (cI, 12, .inl tf)), (o, .inl (cI, 12, .inl uf))] H := hP
            have hD : va_D A [(h, .inr (2, [.int 0, .int dy, .int (nI w), .ref n, .ref d, .ref f, .ref o])), (n, .inl (cI, 12, .inl pf)), (d, .inl (cI, 12, .inl df)), (f, .inl (cI, 12, .inl tf)), (o, .inl (cI, 12, .inl uf))] := hD
            refine lv_iload_n hx hb dX2_temper_105 rfl (lv_at hl 1 rfl) ?_
            have hP9 := hP.sub (ws' := [(h, .inr (2, [.int 0, .int dy, .int (nI w), .ref n, .ref d, .ref f, .ref o])), (n, .inl (cI, 12, .inl pf)), (d, .inl (cI, 12, .inl df)), (f, .inl (cI, 12, .inl tf)), (o, .inl (cI, 12, .inl uf))]) [0, 1, 2, 3, 4] rfl
            have hD9 := hD.sub (ws' := [(h, .inr (2, [.int 0, .int dy, .int (nI w), .ref n, .ref d, .ref f, .ref o])), (n, .inl (cI, 12, .inl pf)), (d, .inl (cI, 12, .inl df)), (f, .inl (cI, 12, .inl tf)), (o, .inl (cI, 12, .inl uf))]) [0, 1, 2, 3, 4] (by decide) rfl
            exact W.iret (v := fb_bb fb_tv 0 (fb_ct (fb_ep pf w) (fb_rg uf) (fb_rg tf) w j) 31) hx hb hr (fun t ht hW => ⟨⟨fb_bb fb_tv 0 (fb_ct (fb_ep pf w) (fb_rg uf) (fb_rg tf) w j) 31, (), rfl, ⟨rfl, trivial⟩, by rw [ht]; exact hP9, hD9⟩, hS.F ht⟩) hS.2.2 dX2_temper_106 hlk
          · skip
            have h52 : ¬ i = 31 := fun z => c52 ((fb_tv_gt hi_i).mpr z)
            have hi31 : i < 31 := by omega
            refine lv_aload_n hx hb dX2_temper_55 rfl (lv_at hl 4 rfl) ?_
            refine va_get (D := G) (ci := 2) (v := .ref n) (C := RX2) (T := TX2) (N := 7) hx hb hts (hin2) hown hK hP 0 rfl rfl 3 (by decide) (hts (.fieldLink RX2 13 "FifthBeatsModel" "plan" "[I") (by decide +kernel)) (fun _ h9 => h9) rfl dX2_temper_56 ?_
            refine lv_iload_n hx hb dX2_temper_59 rfl (lv_at hl 5 rfl) ?_
            refine lv_iload hx hb dX2_temper_60 (lv_at hl 0 rfl) ?_
            refine va_iast hx hb hK hP hD hS 1 0 rfl rfl (vp_in_nI hj (by decide)) dX2_temper_62 (fun H locs hP hD hS => ?_)
            rw [show (nI j).toNatClampNeg = j from fb_cl (by omega)] at hP hD
            have hP : va_P G vwCl [(h, .inr (2, [.int 0, .int dy, .int (nI w), .ref n, .ref d, .ref f, .ref o])), (n, .inl (cI, 12, .inl (upd pv j (fb_tv i)))), (d, .inl (cI, 12, .inl df)), (f, .inl (cI, 12, .inl tf)), (o, .inl (cI, 12, .inl uf))] H := hP
            have hD : va_D A [(h, .inr (2, [.int 0, .int dy, .int (nI w), .ref n, .ref d, .ref f, .ref o])), (n, .inl (cI, 12, .inl (upd pv j (fb_tv i)))), (d, .inl (cI, 12, .inl df)), (f, .inl (cI, 12, .inl tf)), (o, .inl (cI, 12, .inl uf))] := hD
            refine lv_aload_n hx hb dX2_temper_63 rfl (lv_at hl 4 rfl) ?_
            refine fb_roV (As := []) (rest := []) (n := 0) ⟨hx, hb, hml, hown, hts⟩ (fb_c_X2_costs l G cI cL h n d f o (upd pv j (fb_tv i)) df tf uf 0 dy w  hw) gX2_temper_X2_costs rfl (by decide +kernel) (by decide) (fb_PB.bl _ _ _ _) (va_recv hK hP (ci := 2) (q0 := 0) rfl rfl) (fb_PB.to hP hK (hXn _ _ hS)) rfl hl.1 rfl (Nat.le_of_ble_eq_true rfl) dX2_temper_64 (by decide) ?_
            refine fb_ti (z := fb_ct (fb_ep pf w) (fb_rg uf) (fb_rg tf) w j i) (by unfold fb_ct; rw [← fb_ep_set pf hw hj hjw, fb_upq hpv]) ?_
            refine lv_istore (lv' := [(6, .int (fb_ct (fb_ep pf w) (fb_rg uf) (fb_rg tf) w j i)), (5, .int (fb_tv i)), (3, .int (fb_bb fb_tv 0 (fb_ct (fb_ep pf w) (fb_rg uf) (fb_rg tf) w j) i)), (4, .int (fb_bl (-1) (fb_ct (fb_ep pf w) (fb_rg uf) (fb_rg tf) w j) i)), (2, .int (fb_rg pf j)), (0, .ref h), (1, .int (nI j))]) hx hb dX2_temper_67 hl (by decide) rfl (fun ls hl => ?_)
            refine lv_iload hx hb dX2_temper_69 (lv_at hl 3 rfl) ?_
            refine lv_iconst (v := (-1)) hx hb dX2_temper_71 (by decide) ?_
            refine lv_icmp_eq (tgt := 85) hx hb dX2_temper_72 (by decide) (fun c72 => ?_) (fun c72 => ?_)
            · skip
              have h72 : i = 0 := fb_bl_z (fun t ht => hc t (by omega)) c72
              refine lv_iload hx hb dX2_temper_85 (lv_at hl 1 rfl) ?_
              refine lv_istore_n (lv' := [(3, .int (fb_tv i)), (6, .int (fb_ct (fb_ep pf w) (fb_rg uf) (fb_rg tf) w j i)), (5, .int (fb_tv i)), (4, .int (fb_bl (-1) (fb_ct (fb_ep pf w) (fb_rg uf) (fb_rg tf) w j) i)), (2, .int (fb_rg pf j)), (0, .ref h), (1, .int (nI j))]) hx hb dX2_temper_87 rfl hl (by decide) rfl (fun ls hl => ?_)
              refine lv_iload hx hb dX2_temper_88 (lv_at hl 1 rfl) ?_
              refine lv_istore (lv' := [(4, .int (fb_ct (fb_ep pf w) (fb_rg uf) (fb_rg tf) w j i)), (3, .int (fb_tv i)), (6, .int (fb_ct (fb_ep pf w) (fb_rg uf) (fb_rg tf) w j i)), (5, .int (fb_tv i)), (2, .int (fb_rg pf j)), (0, .ref h), (1, .int (nI j))]) hx hb dX2_temper_90 hl (by decide) rfl (fun ls hl => ?_)
              refine lv_iinc (v := fb_tv (i + 1)) (lv' := [(5, .int (fb_tv (i + 1))), (4, .int (fb_ct (fb_ep pf w) (fb_rg uf) (fb_rg tf) w j i)), (3, .int (fb_tv i)), (6, .int (fb_ct (fb_ep pf w) (fb_rg uf) (fb_rg tf) w j i)), (2, .int (fb_rg pf j)), (0, .ref h), (1, .int (nI j))]) hx hb dX2_temper_92 hl (k := 3) rfl (fb_tv_s i) (by decide) rfl (fun ls hl => ?_)
              refine lv_goto (tgt := 48) hx hb dX2_temper_95 (by decide) ?_
              exact ih48 (i + 1) _ (by omega) (by omega) (fun k hk => (pk_un hk).trans (hpv k hk)) _ _ (hP) (hD) hS _ (lv_sub hl [0, 2, 1, 4, 5, 6] (by rw [(fb_take (g := fb_tv) (z := 0) (y := -1) (c := fb_ct (fb_ep pf w) (fb_rg uf) (fb_rg tf) w j) (Or.inl h72)).1, (fb_take (g := fb_tv) (z := 0) (y := -1) (c := fb_ct (fb_ep pf w) (fb_rg uf) (fb_rg tf) w j) (Or.inl h72)).2]; rfl))
            · skip
              have h72 : ¬ i = 0 := fun e9 => c72 (by rw [e9]; rfl)
              refine lv_iload hx hb dX2_temper_75 (lv_at hl 0 rfl) ?_
              refine lv_iload hx hb dX2_temper_77 (lv_at hl 3 rfl) ?_
              refine lv_icmp_lt (tgt := 85) hx hb dX2_temper_79 (by decide) (fun c79 => ?_) (fun c79 => ?_)
              · skip
                refine lv_iload hx hb dX2_temper_85 (lv_at hl 1 rfl) ?_
                refine lv_istore_n (lv' := [(3, .int (fb_tv i)), (6, .int (fb_ct (fb_ep pf w) (fb_rg uf) (fb_rg tf) w j i)), (5, .int (fb_tv i)), (4, .int (fb_bl (-1) (fb_ct (fb_ep pf w) (fb_rg uf) (fb_rg tf) w j) i)), (2, .int (fb_rg pf j)), (0, .ref h), (1, .int (nI j))]) hx hb dX2_temper_87 rfl hl (by decide) rfl (fun ls hl => ?_)
                refine lv_iload hx hb dX2_temper_88 (lv_at hl 1 rfl) ?_
                refine lv_istore (lv' := [(4, .int (fb_ct (fb_ep pf w) (fb_rg uf) (fb_rg tf) w j i)), (3, .int (fb_tv i)), (6, .int (fb_ct (fb_ep pf w) (fb_rg uf) (fb_rg tf) w j i)), (5, .int (fb_tv i)), (2, .int (fb_rg pf j)), (0, .ref h), (1, .int (nI j))]) hx hb dX2_temper_90 hl (by decide) rfl (fun ls hl => ?_)
                refine lv_iinc (v := fb_tv (i + 1)) (lv' := [(5, .int (fb_tv (i + 1))), (4, .int (fb_ct (fb_ep pf w) (fb_rg uf) (fb_rg tf) w j i)), (3, .int (fb_tv i)), (6, .int (fb_ct (fb_ep pf w) (fb_rg uf) (fb_rg tf) w j i)), (2, .int (fb_rg pf j)), (0, .ref h), (1, .int (nI j))]) hx hb dX2_temper_92 hl (k := 3) rfl (fb_tv_s i) (by decide) rfl (fun ls hl => ?_)
                refine lv_goto (tgt := 48) hx hb dX2_temper_95 (by decide) ?_
                exact ih48 (i + 1) _ (by omega) (by omega) (fun k hk => (pk_un hk).trans (hpv k hk)) _ _ (hP) (hD) hS _ (lv_sub hl [0, 2, 1, 4, 5, 6] (by rw [(fb_take (g := fb_tv) (z := 0) (y := -1) (c := fb_ct (fb_ep pf w) (fb_rg uf) (fb_rg tf) w j) (Or.inr c79)).1, (fb_take (g := fb_tv) (z := 0) (y := -1) (c := fb_ct (fb_ep pf w) (fb_rg uf) (fb_rg tf) w j) (Or.inr c79)).2]; rfl))
              · skip
                refine lv_goto (tgt := 92) hx hb dX2_temper_82 (by decide) ?_
                refine lv_iinc (v := fb_tv (i + 1)) (lv' := [(5, .int (fb_tv (i + 1))), (6, .int (fb_ct (fb_ep pf w) (fb_rg uf) (fb_rg tf) w j i)), (3, .int (fb_bb fb_tv 0 (fb_ct (fb_ep pf w) (fb_rg uf) (fb_rg tf) w j) i)), (4, .int (fb_bl (-1) (fb_ct (fb_ep pf w) (fb_rg uf) (fb_rg tf) w j) i)), (2, .int (fb_rg pf j)), (0, .ref h), (1, .int (nI j))]) hx hb dX2_temper_92 hl (k := 1) rfl (fb_tv_s i) (by decide) rfl (fun ls hl => ?_)
                refine lv_goto (tgt := 48) hx hb dX2_temper_95 (by decide) ?_
                exact ih48 (i + 1) _ (by omega) (by omega) (fun k hk => (pk_un hk).trans (hpv k hk)) _ _ (hP) (hD) hS _ (lv_sub hl [0, 2, 3, 4, 5, 6] (by rw [(fb_skip (g := fb_tv) (z := 0) (y := -1) (c := fb_ct (fb_ep pf w) (fb_rg uf) (fb_rg tf) w j) h72 c79).1, (fb_skip (g := fb_tv) (z := 0) (y := -1) (c := fb_ct (fb_ep pf w) (fb_rg uf) (fb_rg tf) w j) h72 c79).2]; rfl))
      exact lp48 (31 + 1) 0 _ (by omega) (by omega) (fun _ _ => rfl) _ _ (hP) (hD) hS _ (lv_sub hl [0, 2, 1, 3, 4, 5] (by rw [show fb_tv 0 = -10 from by decide]; rfl))
    · skip
      exact absurd ((nI_eq (by omega) (by omega)).mp c23) hjw
  · skip
    first | exact absurd c9 (by decide) | exact absurd (by decide) c9
set_option maxHeartbeats 4000000 in
set_option maxRecDepth 100000 in
theorem fb_c_X2_temper_b1 (l : Launch) (G : va_G) (cI cL : ClassId) (h n d f o : Nat) (pf df tf uf : Nat → Int32) (th dy : Int32) (w : Nat) (p0 : Int32) (hp : p0 < 0 ∨ 11 < p0) (sz : Nat) : fb_MG l yX2_temper wsX2_temper 5 112 0 0 [.ref h, .int p0] G cI cL sz (fb_MW cI h n d f o pf df tf uf th dy (nI w)) (fb_qi G (S := Unit) (fun _ => (fb_MW cI h n d f o pf df tf uf 1 dy (nI w))) (0) (fun _ => True)) := by
  refine fb_mg_of (cc := cX2_temper) (maxL := 7) (ret := (some .int)) (by decide) rfl (Nat.le_of_ble_eq_true rfl) ?_
  intro p e s m args below meth c A hx hb hr hml hlk hts hown hP hK hD hA hX hin9 ls hl
  have hown : s.vm.findClass RX2 = some m.cls := hown
  have hP : va_P G vwCl [(h, .inr (2, [.int th, .int dy, .int (nI w), .ref n, .ref d, .ref f, .ref o])), (n, .inl (cI, 12, .inl pf)), (d, .inl (cI, 12, .inl df)), (f, .inl (cI, 12, .inl tf)), (o, .inl (cI, 12, .inl uf))] s.heap := hP
  have hD : va_D A [(h, .inr (2, [.int th, .int dy, .int (nI w), .ref n, .ref d, .ref f, .ref o])), (n, .inl (cI, 12, .inl pf)), (d, .inl (cI, 12, .inl df)), (f, .inl (cI, 12, .inl tf)), (o, .inl (cI, 12, .inl uf))] := hD
  have hS : va_S A s.heap s.heap [] := va_S.rf
  have hXn : ∀ (H : Heap) (locs : List Loc), va_S A s.heap H locs → fb_sx (fun _ => False) s H := fun H locs h9 => (hX.kept h9.2.1).narrow (fun _ z => z.elim)
  have hl : lv_has ls 7 [(0, .ref h), (1, .int p0)] := hl
  have hin2 : ∀ w ∈ u_ws RX2 TX2 7, w ∈ wsX2_temper := by decide +kernel
  refine lv_aload_n hx hb dX2_temper_0 rfl (lv_at hl 0 rfl) ?_
  refine lv_iconst (v := 0) hx hb dX2_temper_1 (by decide) ?_
  refine va_put (D := G) (ci := 2) (v := .int 0) (ty := .int) (C := RX2) (T := TX2) (N := 7) hx hb hts (hin2) tyX2 tyX2_ok nmX2 hown hK hP hD hS 0 rfl rfl 0 (by decide) (hts (.fieldLink RX2 26 "FifthBeatsModel" "thrown" "I") (by decide +kernel)) (fun _ h9 => h9) rfl (by decide +kernel) rfl rfl (Nat.le_of_ble_eq_true rfl) dX2_temper_2 (fun H locs hP hD hS => ?_)
  have hP : va_P G vwCl [(h, .inr (2, [.int 0, .int dy, .int (nI w), .ref n, .ref d, .ref f, .ref o])), (n, .inl (cI, 12, .inl pf)), (d, .inl (cI, 12, .inl df)), (f, .inl (cI, 12, .inl tf)), (o, .inl (cI, 12, .inl uf))] H := hP
  have hD : va_D A [(h, .inr (2, [.int 0, .int dy, .int (nI w), .ref n, .ref d, .ref f, .ref o])), (n, .inl (cI, 12, .inl pf)), (d, .inl (cI, 12, .inl df)), (f, .inl (cI, 12, .inl tf)), (o, .inl (cI, 12, .inl uf))] := hD
  refine lv_iload_n hx hb dX2_temper_5 rfl (lv_at hl 1 rfl) ?_
  refine fb_roS (As := [.int p0]) (rest := []) (n := 1) ⟨hx, hb, hml, hown, hts⟩ (fb_c_X2_isOne l p0) gX2_temper_X2_isOne rfl (by decide +kernel) (by decide) fb_Bl_T (fun _ _ _ => trivial) rfl hl.1 rfl (Nat.le_of_ble_eq_true rfl) dX2_temper_6 (by decide) ?_
  refine fb_ti (z := 0) (fb_ii_0 hp) ?_
  refine lv_if_ne (tgt := 18) hx hb dX2_temper_9 (by decide) (fun c9 => ?_) (fun c9 => ?_)
  · skip
    first | exact absurd c9 (by decide) | exact absurd (by decide) c9
  · skip
    refine lv_aload_n hx hb dX2_temper_12 rfl (lv_at hl 0 rfl) ?_
    refine lv_iconst (v := 1) hx hb dX2_temper_13 (by decide) ?_
    refine fb_miV (As := [.int 1]) (rest := []) (n := 1) (wr := []) (wz := [(h, .inr (2, [.int 1, .int dy, .int (nI w), .ref n, .ref d, .ref f, .ref o])), (n, .inl (cI, 12, .inl pf)), (d, .inl (cI, 12, .inl df)), (f, .inl (cI, 12, .inl tf)), (o, .inl (cI, 12, .inl uf))]) ⟨hx, hb, hml, hown, hts⟩ (fb_c_X2_no l G cI cL h n d f o pf df tf uf 0 dy w 1 _) gX2_temper_X2_no rfl (by decide +kernel) (by decide) (va_recv hK hP (ci := 2) (q0 := 0) rfl rfl) hP hK hD hS hA hX [0, 1, 2, 3, 4] [] [0, 1, 2, 3, 4] rfl rfl rfl rfl rfl rfl (by decide) rfl hl.1 rfl (Nat.le_of_ble_eq_true rfl) dX2_temper_14 (by decide) (fun H locs hP hD hS => ?_)
    have hP9 := hP.sub (ws' := [(h, .inr (2, [.int 1, .int dy, .int (nI w), .ref n, .ref d, .ref f, .ref o])), (n, .inl (cI, 12, .inl pf)), (d, .inl (cI, 12, .inl df)), (f, .inl (cI, 12, .inl tf)), (o, .inl (cI, 12, .inl uf))]) [0, 1, 2, 3, 4] rfl
    have hD9 := hD.sub (ws' := [(h, .inr (2, [.int 1, .int dy, .int (nI w), .ref n, .ref d, .ref f, .ref o])), (n, .inl (cI, 12, .inl pf)), (d, .inl (cI, 12, .inl df)), (f, .inl (cI, 12, .inl tf)), (o, .inl (cI, 12, .inl uf))]) [0, 1, 2, 3, 4] (by decide) rfl
    exact W.iret (v := 0) hx hb hr (fun t ht hW => ⟨⟨0, (), rfl, ⟨rfl, trivial⟩, by rw [ht]; exact hP9, hD9⟩, hS.F ht⟩) hS.2.2 dX2_temper_17 hlk
set_option maxHeartbeats 4000000 in
set_option maxRecDepth 100000 in
theorem fb_c_X2_temper_b2 (l : Launch) (G : va_G) (cI cL : ClassId) (h n d f o : Nat) (pf df tf uf : Nat → Int32) (th dy : Int32) (w : Nat) (j : Nat) (hj : j < 12) (hjw : j = w) (sz : Nat) : fb_MG l yX2_temper wsX2_temper 5 112 0 0 [.ref h, .int (nI j)] G cI cL sz (fb_MW cI h n d f o pf df tf uf th dy (nI w)) (fb_qi G (S := Unit) (fun _ => (fb_MW cI h n d f o pf df tf uf 2 dy (nI w))) (0) (fun _ => True)) := by
  refine fb_mg_of (cc := cX2_temper) (maxL := 7) (ret := (some .int)) (by decide) rfl (Nat.le_of_ble_eq_true rfl) ?_
  intro p e s m args below meth c A hx hb hr hml hlk hts hown hP hK hD hA hX hin9 ls hl
  have hown : s.vm.findClass RX2 = some m.cls := hown
  have hP : va_P G vwCl [(h, .inr (2, [.int th, .int dy, .int (nI w), .ref n, .ref d, .ref f, .ref o])), (n, .inl (cI, 12, .inl pf)), (d, .inl (cI, 12, .inl df)), (f, .inl (cI, 12, .inl tf)), (o, .inl (cI, 12, .inl uf))] s.heap := hP
  have hD : va_D A [(h, .inr (2, [.int th, .int dy, .int (nI w), .ref n, .ref d, .ref f, .ref o])), (n, .inl (cI, 12, .inl pf)), (d, .inl (cI, 12, .inl df)), (f, .inl (cI, 12, .inl tf)), (o, .inl (cI, 12, .inl uf))] := hD
  have hS : va_S A s.heap s.heap [] := va_S.rf
  have hXn : ∀ (H : Heap) (locs : List Loc), va_S A s.heap H locs → fb_sx (fun _ => False) s H := fun H locs h9 => (hX.kept h9.2.1).narrow (fun _ z => z.elim)
  have hl : lv_has ls 7 [(0, .ref h), (1, .int (nI j))] := hl
  have hin2 : ∀ w ∈ u_ws RX2 TX2 7, w ∈ wsX2_temper := by decide +kernel
  refine lv_aload_n hx hb dX2_temper_0 rfl (lv_at hl 0 rfl) ?_
  refine lv_iconst (v := 0) hx hb dX2_temper_1 (by decide) ?_
  refine va_put (D := G) (ci := 2) (v := .int 0) (ty := .int) (C := RX2) (T := TX2) (N := 7) hx hb hts (hin2) tyX2 tyX2_ok nmX2 hown hK hP hD hS 0 rfl rfl 0 (by decide) (hts (.fieldLink RX2 26 "FifthBeatsModel" "thrown" "I") (by decide +kernel)) (fun _ h9 => h9) rfl (by decide +kernel) rfl rfl (Nat.le_of_ble_eq_true rfl) dX2_temper_2 (fun H locs hP hD hS => ?_)
  have hP : va_P G vwCl [(h, .inr (2, [.int 0, .int dy, .int (nI w), .ref n, .ref d, .ref f, .ref o])), (n, .inl (cI, 12, .inl pf)), (d, .inl (cI, 12, .inl df)), (f, .inl (cI, 12, .inl tf)), (o, .inl (cI, 12, .inl uf))] H := hP
  have hD : va_D A [(h, .inr (2, [.int 0, .int dy, .int (nI w), .ref n, .ref d, .ref f, .ref o])), (n, .inl (cI, 12, .inl pf)), (d, .inl (cI, 12, .inl df)), (f, .inl (cI, 12, .inl tf)), (o, .inl (cI, 12, .inl uf))] := hD
  refine lv_iload_n hx hb dX2_temper_5 rfl (lv_at hl 1 rfl) ?_
  refine fb_roS (As := [.int (nI j)]) (rest := []) (n := 1) ⟨hx, hb, hml, hown, hts⟩ (fb_c_X2_isOne l (nI j)) gX2_temper_X2_isOne rfl (by decide +kernel) (by decide) fb_Bl_T (fun _ _ _ => trivial) rfl hl.1 rfl (Nat.le_of_ble_eq_true rfl) dX2_temper_6 (by decide) ?_
  refine fb_ti (z := 1) (fb_ii_j hj) ?_
  refine lv_if_ne (tgt := 18) hx hb dX2_temper_9 (by decide) (fun c9 => ?_) (fun c9 => ?_)
  · skip
    refine lv_iload_n hx hb dX2_temper_18 rfl (lv_at hl 1 rfl) ?_
    refine lv_aload_n hx hb dX2_temper_19 rfl (lv_at hl 0 rfl) ?_
    refine va_get (D := G) (ci := 2) (v := .int (nI w)) (C := RX2) (T := TX2) (N := 7) hx hb hts (hin2) hown hK hP 0 rfl rfl 2 (by decide) (hts (.fieldLink RX2 7 "FifthBeatsModel" "wolf" "I") (by decide +kernel)) (fun _ h9 => h9) rfl dX2_temper_20 ?_
    refine lv_icmp_ne (tgt := 32) hx hb dX2_temper_23 (by decide) (fun c23 => ?_) (fun c23 => ?_)
    · skip
      exact absurd (by rw [hjw]) c23
    · skip
      refine lv_aload_n hx hb dX2_temper_26 rfl (lv_at hl 0 rfl) ?_
      refine lv_iconst (v := 2) hx hb dX2_temper_27 (by decide) ?_
      refine fb_miV (As := [.int 2]) (rest := []) (n := 1) (wr := []) (wz := [(h, .inr (2, [.int 2, .int dy, .int (nI w), .ref n, .ref d, .ref f, .ref o])), (n, .inl (cI, 12, .inl pf)), (d, .inl (cI, 12, .inl df)), (f, .inl (cI, 12, .inl tf)), (o, .inl (cI, 12, .inl uf))]) ⟨hx, hb, hml, hown, hts⟩ (fb_c_X2_no l G cI cL h n d f o pf df tf uf 0 dy w 2 _) gX2_temper_X2_no rfl (by decide +kernel) (by decide) (va_recv hK hP (ci := 2) (q0 := 0) rfl rfl) hP hK hD hS hA hX [0, 1, 2, 3, 4] [] [0, 1, 2, 3, 4] rfl rfl rfl rfl rfl rfl (by decide) rfl hl.1 rfl (Nat.le_of_ble_eq_true rfl) dX2_temper_28 (by decide) (fun H locs hP hD hS => ?_)
      have hP9 := hP.sub (ws' := [(h, .inr (2, [.int 2, .int dy, .int (nI w), .ref n, .ref d, .ref f, .ref o])), (n, .inl (cI, 12, .inl pf)), (d, .inl (cI, 12, .inl df)), (f, .inl (cI, 12, .inl tf)), (o, .inl (cI, 12, .inl uf))]) [0, 1, 2, 3, 4] rfl
      have hD9 := hD.sub (ws' := [(h, .inr (2, [.int 2, .int dy, .int (nI w), .ref n, .ref d, .ref f, .ref o])), (n, .inl (cI, 12, .inl pf)), (d, .inl (cI, 12, .inl df)), (f, .inl (cI, 12, .inl tf)), (o, .inl (cI, 12, .inl uf))]) [0, 1, 2, 3, 4] (by decide) rfl
      exact W.iret (v := 0) hx hb hr (fun t ht hW => ⟨⟨0, (), rfl, ⟨rfl, trivial⟩, by rw [ht]; exact hP9, hD9⟩, hS.F ht⟩) hS.2.2 dX2_temper_31 hlk
  · skip
    first | exact absurd c9 (by decide) | exact absurd (by decide) c9
set_option maxHeartbeats 4000000 in
set_option maxRecDepth 100000 in
theorem fb_c_X2_foresee_b1 (l : Launch) (G : va_G) (cI cL : ClassId) (h n d f o : Nat) (pf df tf uf : Nat → Int32) (th dy : Int32) (w : Nat) (p0 : Int32) (v : Int32) (hp : p0 < 1 ∨ 100 < p0) (sz : Nat) : fb_MG l yX2_foresee wsX2_foresee 6 138 0 0 [.ref h, .int p0, .int v] G cI cL sz (fb_MW cI h n d f o pf df tf uf th dy (nI w)) (fb_qi G (S := Unit) (fun _ => (fb_MW cI h n d f o pf df tf uf 1 dy (nI w))) (0) (fun _ => True)) := by
  refine fb_mg_of (cc := cX2_foresee) (maxL := 6) (ret := (some .int)) (by decide) rfl (Nat.le_of_ble_eq_true rfl) ?_
  intro p e s m args below meth c A hx hb hr hml hlk hts hown hP hK hD hA hX hin9 ls hl
  have hown : s.vm.findClass RX2 = some m.cls := hown
  have hP : va_P G vwCl [(h, .inr (2, [.int th, .int dy, .int (nI w), .ref n, .ref d, .ref f, .ref o])), (n, .inl (cI, 12, .inl pf)), (d, .inl (cI, 12, .inl df)), (f, .inl (cI, 12, .inl tf)), (o, .inl (cI, 12, .inl uf))] s.heap := hP
  have hD : va_D A [(h, .inr (2, [.int th, .int dy, .int (nI w), .ref n, .ref d, .ref f, .ref o])), (n, .inl (cI, 12, .inl pf)), (d, .inl (cI, 12, .inl df)), (f, .inl (cI, 12, .inl tf)), (o, .inl (cI, 12, .inl uf))] := hD
  have hS : va_S A s.heap s.heap [] := va_S.rf
  have hXn : ∀ (H : Heap) (locs : List Loc), va_S A s.heap H locs → fb_sx (fun _ => False) s H := fun H locs h9 => (hX.kept h9.2.1).narrow (fun _ z => z.elim)
  have hl : lv_has ls 6 [(0, .ref h), (1, .int p0), (2, .int v)] := hl
  have hin2 : ∀ w ∈ u_ws RX2 TX2 7, w ∈ wsX2_foresee := by decide +kernel
  refine lv_aload_n hx hb dX2_foresee_0 rfl (lv_at hl 0 rfl) ?_
  refine lv_iconst (v := 0) hx hb dX2_foresee_1 (by decide) ?_
  refine va_put (D := G) (ci := 2) (v := .int 0) (ty := .int) (C := RX2) (T := TX2) (N := 7) hx hb hts (hin2) tyX2 tyX2_ok nmX2 hown hK hP hD hS 0 rfl rfl 0 (by decide) (hts (.fieldLink RX2 26 "FifthBeatsModel" "thrown" "I") (by decide +kernel)) (fun _ h9 => h9) rfl (by decide +kernel) rfl rfl (Nat.le_of_ble_eq_true rfl) dX2_foresee_2 (fun H locs hP hD hS => ?_)
  have hP : va_P G vwCl [(h, .inr (2, [.int 0, .int dy, .int (nI w), .ref n, .ref d, .ref f, .ref o])), (n, .inl (cI, 12, .inl pf)), (d, .inl (cI, 12, .inl df)), (f, .inl (cI, 12, .inl tf)), (o, .inl (cI, 12, .inl uf))] H := hP
  have hD : va_D A [(h, .inr (2, [.int 0, .int dy, .int (nI w), .ref n, .ref d, .ref f, .ref o])), (n, .inl (cI, 12, .inl pf)), (d, .inl (cI, 12, .inl df)), (f, .inl (cI, 12, .inl tf)), (o, .inl (cI, 12, .inl uf))] := hD
  refine lv_iload_n hx hb dX2_foresee_5 rfl (lv_at hl 1 rfl) ?_
  refine lv_iconst (v := 1) hx hb dX2_foresee_6 (by decide) ?_
  refine lv_bipush (v := 100) hx hb dX2_foresee_7 (by decide) ?_
  refine fb_roS (As := [.int p0, .int 1, .int 100]) (rest := []) (n := 3) ⟨hx, hb, hml, hown, hts⟩ (fb_c_X2_isIn l p0 1 100) gX2_foresee_X2_isIn rfl (by decide +kernel) (by decide) fb_Bl_T (fun _ _ _ => trivial) rfl hl.1 rfl (Nat.le_of_ble_eq_true rfl) dX2_foresee_9 (by decide) ?_
  refine fb_ti (z := 0) (fb_ii_0 hp) ?_
  refine lv_if_ne (tgt := 21) hx hb dX2_foresee_12 (by decide) (fun c12 => ?_) (fun c12 => ?_)
  · skip
    first | exact absurd c12 (by decide) | exact absurd (by decide) c12
  · skip
    refine lv_aload_n hx hb dX2_foresee_15 rfl (lv_at hl 0 rfl) ?_
    refine lv_iconst (v := 1) hx hb dX2_foresee_16 (by decide) ?_
    refine fb_miV (As := [.int 1]) (rest := []) (n := 1) (wr := []) (wz := [(h, .inr (2, [.int 1, .int dy, .int (nI w), .ref n, .ref d, .ref f, .ref o])), (n, .inl (cI, 12, .inl pf)), (d, .inl (cI, 12, .inl df)), (f, .inl (cI, 12, .inl tf)), (o, .inl (cI, 12, .inl uf))]) ⟨hx, hb, hml, hown, hts⟩ (fb_c_X2_no l G cI cL h n d f o pf df tf uf 0 dy w 1 _) gX2_foresee_X2_no rfl (by decide +kernel) (by decide) (va_recv hK hP (ci := 2) (q0 := 0) rfl rfl) hP hK hD hS hA hX [0, 1, 2, 3, 4] [] [0, 1, 2, 3, 4] rfl rfl rfl rfl rfl rfl (by decide) rfl hl.1 rfl (Nat.le_of_ble_eq_true rfl) dX2_foresee_17 (by decide) (fun H locs hP hD hS => ?_)
    have hP9 := hP.sub (ws' := [(h, .inr (2, [.int 1, .int dy, .int (nI w), .ref n, .ref d, .ref f, .ref o])), (n, .inl (cI, 12, .inl pf)), (d, .inl (cI, 12, .inl df)), (f, .inl (cI, 12, .inl tf)), (o, .inl (cI, 12, .inl uf))]) [0, 1, 2, 3, 4] rfl
    have hD9 := hD.sub (ws' := [(h, .inr (2, [.int 1, .int dy, .int (nI w), .ref n, .ref d, .ref f, .ref o])), (n, .inl (cI, 12, .inl pf)), (d, .inl (cI, 12, .inl df)), (f, .inl (cI, 12, .inl tf)), (o, .inl (cI, 12, .inl uf))]) [0, 1, 2, 3, 4] (by decide) rfl
    exact W.iret (v := 0) hx hb hr (fun t ht hW => ⟨⟨0, (), rfl, ⟨rfl, trivial⟩, by rw [ht]; exact hP9, hD9⟩, hS.F ht⟩) hS.2.2 dX2_foresee_20 hlk
set_option maxHeartbeats 4000000 in
set_option maxRecDepth 100000 in
theorem fb_c_X2_foresee_b2 (l : Launch) (G : va_G) (cI cL : ClassId) (h n d f o : Nat) (pf df tf uf : Nat → Int32) (th dy : Int32) (w : Nat) (q : Nat) (v : Int32) (hq : 1 ≤ q) (hq2 : q ≤ 100) (h2 : v < 2 ∨ 6 < v) (sz : Nat) : fb_MG l yX2_foresee wsX2_foresee 6 138 0 0 [.ref h, .int (nI q), .int v] G cI cL sz (fb_MW cI h n d f o pf df tf uf th dy (nI w)) (fb_qi G (S := Unit) (fun _ => (fb_MW cI h n d f o pf df tf uf 2 dy (nI w))) (0) (fun _ => True)) := by
  refine fb_mg_of (cc := cX2_foresee) (maxL := 6) (ret := (some .int)) (by decide) rfl (Nat.le_of_ble_eq_true rfl) ?_
  intro p e s m args below meth c A hx hb hr hml hlk hts hown hP hK hD hA hX hin9 ls hl
  have hown : s.vm.findClass RX2 = some m.cls := hown
  have hP : va_P G vwCl [(h, .inr (2, [.int th, .int dy, .int (nI w), .ref n, .ref d, .ref f, .ref o])), (n, .inl (cI, 12, .inl pf)), (d, .inl (cI, 12, .inl df)), (f, .inl (cI, 12, .inl tf)), (o, .inl (cI, 12, .inl uf))] s.heap := hP
  have hD : va_D A [(h, .inr (2, [.int th, .int dy, .int (nI w), .ref n, .ref d, .ref f, .ref o])), (n, .inl (cI, 12, .inl pf)), (d, .inl (cI, 12, .inl df)), (f, .inl (cI, 12, .inl tf)), (o, .inl (cI, 12, .inl uf))] := hD
  have hS : va_S A s.heap s.heap [] := va_S.rf
  have hXn : ∀ (H : Heap) (locs : List Loc), va_S A s.heap H locs → fb_sx (fun _ => False) s H := fun H locs h9 => (hX.kept h9.2.1).narrow (fun _ z => z.elim)
  have hl : lv_has ls 6 [(0, .ref h), (1, .int (nI q)), (2, .int v)] := hl
  have hin2 : ∀ w ∈ u_ws RX2 TX2 7, w ∈ wsX2_foresee := by decide +kernel
  refine lv_aload_n hx hb dX2_foresee_0 rfl (lv_at hl 0 rfl) ?_
  refine lv_iconst (v := 0) hx hb dX2_foresee_1 (by decide) ?_
  refine va_put (D := G) (ci := 2) (v := .int 0) (ty := .int) (C := RX2) (T := TX2) (N := 7) hx hb hts (hin2) tyX2 tyX2_ok nmX2 hown hK hP hD hS 0 rfl rfl 0 (by decide) (hts (.fieldLink RX2 26 "FifthBeatsModel" "thrown" "I") (by decide +kernel)) (fun _ h9 => h9) rfl (by decide +kernel) rfl rfl (Nat.le_of_ble_eq_true rfl) dX2_foresee_2 (fun H locs hP hD hS => ?_)
  have hP : va_P G vwCl [(h, .inr (2, [.int 0, .int dy, .int (nI w), .ref n, .ref d, .ref f, .ref o])), (n, .inl (cI, 12, .inl pf)), (d, .inl (cI, 12, .inl df)), (f, .inl (cI, 12, .inl tf)), (o, .inl (cI, 12, .inl uf))] H := hP
  have hD : va_D A [(h, .inr (2, [.int 0, .int dy, .int (nI w), .ref n, .ref d, .ref f, .ref o])), (n, .inl (cI, 12, .inl pf)), (d, .inl (cI, 12, .inl df)), (f, .inl (cI, 12, .inl tf)), (o, .inl (cI, 12, .inl uf))] := hD
  refine lv_iload_n hx hb dX2_foresee_5 rfl (lv_at hl 1 rfl) ?_
  refine lv_iconst (v := 1) hx hb dX2_foresee_6 (by decide) ?_
  refine lv_bipush (v := 100) hx hb dX2_foresee_7 (by decide) ?_
  refine fb_roS (As := [.int (nI q), .int 1, .int 100]) (rest := []) (n := 3) ⟨hx, hb, hml, hown, hts⟩ (fb_c_X2_isIn l (nI q) 1 100) gX2_foresee_X2_isIn rfl (by decide +kernel) (by decide) fb_Bl_T (fun _ _ _ => trivial) rfl hl.1 rfl (Nat.le_of_ble_eq_true rfl) dX2_foresee_9 (by decide) ?_
  refine fb_ti (z := 1) (fb_ii_1 (fb_r1 hq hq2 (by decide))) ?_
  refine lv_if_ne (tgt := 21) hx hb dX2_foresee_12 (by decide) (fun c12 => ?_) (fun c12 => ?_)
  · skip
    refine lv_iload_n hx hb dX2_foresee_21 rfl (lv_at hl 2 rfl) ?_
    refine lv_iconst (v := 2) hx hb dX2_foresee_22 (by decide) ?_
    refine lv_bipush (v := 6) hx hb dX2_foresee_23 (by decide) ?_
    refine fb_roS (As := [.int v, .int 2, .int 6]) (rest := []) (n := 3) ⟨hx, hb, hml, hown, hts⟩ (fb_c_X2_isIn l v 2 6) gX2_foresee_X2_isIn rfl (by decide +kernel) (by decide) fb_Bl_T (fun _ _ _ => trivial) rfl hl.1 rfl (Nat.le_of_ble_eq_true rfl) dX2_foresee_25 (by decide) ?_
    refine fb_ti (z := 0) (fb_ii_0 h2) ?_
    refine lv_if_ne (tgt := 37) hx hb dX2_foresee_28 (by decide) (fun c28 => ?_) (fun c28 => ?_)
    · skip
      first | exact absurd c28 (by decide) | exact absurd (by decide) c28
    · skip
      refine lv_aload_n hx hb dX2_foresee_31 rfl (lv_at hl 0 rfl) ?_
      refine lv_iconst (v := 2) hx hb dX2_foresee_32 (by decide) ?_
      refine fb_miV (As := [.int 2]) (rest := []) (n := 1) (wr := []) (wz := [(h, .inr (2, [.int 2, .int dy, .int (nI w), .ref n, .ref d, .ref f, .ref o])), (n, .inl (cI, 12, .inl pf)), (d, .inl (cI, 12, .inl df)), (f, .inl (cI, 12, .inl tf)), (o, .inl (cI, 12, .inl uf))]) ⟨hx, hb, hml, hown, hts⟩ (fb_c_X2_no l G cI cL h n d f o pf df tf uf 0 dy w 2 _) gX2_foresee_X2_no rfl (by decide +kernel) (by decide) (va_recv hK hP (ci := 2) (q0 := 0) rfl rfl) hP hK hD hS hA hX [0, 1, 2, 3, 4] [] [0, 1, 2, 3, 4] rfl rfl rfl rfl rfl rfl (by decide) rfl hl.1 rfl (Nat.le_of_ble_eq_true rfl) dX2_foresee_33 (by decide) (fun H locs hP hD hS => ?_)
      have hP9 := hP.sub (ws' := [(h, .inr (2, [.int 2, .int dy, .int (nI w), .ref n, .ref d, .ref f, .ref o])), (n, .inl (cI, 12, .inl pf)), (d, .inl (cI, 12, .inl df)), (f, .inl (cI, 12, .inl tf)), (o, .inl (cI, 12, .inl uf))]) [0, 1, 2, 3, 4] rfl
      have hD9 := hD.sub (ws' := [(h, .inr (2, [.int 2, .int dy, .int (nI w), .ref n, .ref d, .ref f, .ref o])), (n, .inl (cI, 12, .inl pf)), (d, .inl (cI, 12, .inl df)), (f, .inl (cI, 12, .inl tf)), (o, .inl (cI, 12, .inl uf))]) [0, 1, 2, 3, 4] (by decide) rfl
      exact W.iret (v := 0) hx hb hr (fun t ht hW => ⟨⟨0, (), rfl, ⟨rfl, trivial⟩, by rw [ht]; exact hP9, hD9⟩, hS.F ht⟩) hS.2.2 dX2_foresee_36 hlk
  · skip
    first | exact absurd c12 (by decide) | exact absurd (by decide) c12
set_option maxHeartbeats 4000000 in
set_option maxRecDepth 100000 in
theorem fb_c_X2_until_b1 (l : Launch) (G : va_G) (cI cL : ClassId) (h n d f o : Nat) (pf df tf uf : Nat → Int32) (th dy : Int32) (w : Nat) (b9 : Int32) (h2 : b9 < 1 ∨ 9999 < b9) (sz : Nat) : fb_MG l yX2_until wsX2_until 4 91 0 0 [.ref h, .int b9] G cI cL sz (fb_MW cI h n d f o pf df tf uf th dy (nI w)) (fb_qi G (S := Unit) (fun _ => (fb_MW cI h n d f o pf df tf uf 1 dy (nI w))) (0) (fun _ => True)) := by
  refine fb_mg_of (cc := cX2_until) (maxL := 5) (ret := (some .int)) (by decide) rfl (Nat.le_of_ble_eq_true rfl) ?_
  intro p e s m args below meth c A hx hb hr hml hlk hts hown hP hK hD hA hX hin9 ls hl
  have hown : s.vm.findClass RX2 = some m.cls := hown
  have hP : va_P G vwCl [(h, .inr (2, [.int th, .int dy, .int (nI w), .ref n, .ref d, .ref f, .ref o])), (n, .inl (cI, 12, .inl pf)), (d, .inl (cI, 12, .inl df)), (f, .inl (cI, 12, .inl tf)), (o, .inl (cI, 12, .inl uf))] s.heap := hP
  have hD : va_D A [(h, .inr (2, [.int th, .int dy, .int (nI w), .ref n, .ref d, .ref f, .ref o])), (n, .inl (cI, 12, .inl pf)), (d, .inl (cI, 12, .inl df)), (f, .inl (cI, 12, .inl tf)), (o, .inl (cI, 12, .inl uf))] := hD
  have hS : va_S A s.heap s.heap [] := va_S.rf
  have hXn : ∀ (H : Heap) (locs : List Loc), va_S A s.heap H locs → fb_sx (fun _ => False) s H := fun H locs h9 => (hX.kept h9.2.1).narrow (fun _ z => z.elim)
  have hl : lv_has ls 5 [(0, .ref h), (1, .int b9)] := hl
  have hin2 : ∀ w ∈ u_ws RX2 TX2 7, w ∈ wsX2_until := by decide +kernel
  refine lv_aload_n hx hb dX2_until_0 rfl (lv_at hl 0 rfl) ?_
  refine lv_iconst (v := 0) hx hb dX2_until_1 (by decide) ?_
  refine va_put (D := G) (ci := 2) (v := .int 0) (ty := .int) (C := RX2) (T := TX2) (N := 7) hx hb hts (hin2) tyX2 tyX2_ok nmX2 hown hK hP hD hS 0 rfl rfl 0 (by decide) (hts (.fieldLink RX2 26 "FifthBeatsModel" "thrown" "I") (by decide +kernel)) (fun _ h9 => h9) rfl (by decide +kernel) rfl rfl (Nat.le_of_ble_eq_true rfl) dX2_until_2 (fun H locs hP hD hS => ?_)
  have hP : va_P G vwCl [(h, .inr (2, [.int 0, .int dy, .int (nI w), .ref n, .ref d, .ref f, .ref o])), (n, .inl (cI, 12, .inl pf)), (d, .inl (cI, 12, .inl df)), (f, .inl (cI, 12, .inl tf)), (o, .inl (cI, 12, .inl uf))] H := hP
  have hD : va_D A [(h, .inr (2, [.int 0, .int dy, .int (nI w), .ref n, .ref d, .ref f, .ref o])), (n, .inl (cI, 12, .inl pf)), (d, .inl (cI, 12, .inl df)), (f, .inl (cI, 12, .inl tf)), (o, .inl (cI, 12, .inl uf))] := hD
  refine lv_iload_n hx hb dX2_until_5 rfl (lv_at hl 1 rfl) ?_
  refine lv_iconst (v := 1) hx hb dX2_until_6 (by decide) ?_
  refine lv_sipush (v := 9999) hx hb dX2_until_7 (by decide) ?_
  refine fb_roS (As := [.int b9, .int 1, .int 9999]) (rest := []) (n := 3) ⟨hx, hb, hml, hown, hts⟩ (fb_c_X2_isIn l b9 1 9999) gX2_until_X2_isIn rfl (by decide +kernel) (by decide) fb_Bl_T (fun _ _ _ => trivial) rfl hl.1 rfl (Nat.le_of_ble_eq_true rfl) dX2_until_10 (by decide) ?_
  refine fb_ti (z := 0) (fb_ii_0 h2) ?_
  refine lv_if_ne (tgt := 22) hx hb dX2_until_13 (by decide) (fun c13 => ?_) (fun c13 => ?_)
  · skip
    first | exact absurd c13 (by decide) | exact absurd (by decide) c13
  · skip
    refine lv_aload_n hx hb dX2_until_16 rfl (lv_at hl 0 rfl) ?_
    refine lv_iconst (v := 1) hx hb dX2_until_17 (by decide) ?_
    refine fb_miV (As := [.int 1]) (rest := []) (n := 1) (wr := []) (wz := [(h, .inr (2, [.int 1, .int dy, .int (nI w), .ref n, .ref d, .ref f, .ref o])), (n, .inl (cI, 12, .inl pf)), (d, .inl (cI, 12, .inl df)), (f, .inl (cI, 12, .inl tf)), (o, .inl (cI, 12, .inl uf))]) ⟨hx, hb, hml, hown, hts⟩ (fb_c_X2_no l G cI cL h n d f o pf df tf uf 0 dy w 1 _) gX2_until_X2_no rfl (by decide +kernel) (by decide) (va_recv hK hP (ci := 2) (q0 := 0) rfl rfl) hP hK hD hS hA hX [0, 1, 2, 3, 4] [] [0, 1, 2, 3, 4] rfl rfl rfl rfl rfl rfl (by decide) rfl hl.1 rfl (Nat.le_of_ble_eq_true rfl) dX2_until_18 (by decide) (fun H locs hP hD hS => ?_)
    have hP9 := hP.sub (ws' := [(h, .inr (2, [.int 1, .int dy, .int (nI w), .ref n, .ref d, .ref f, .ref o])), (n, .inl (cI, 12, .inl pf)), (d, .inl (cI, 12, .inl df)), (f, .inl (cI, 12, .inl tf)), (o, .inl (cI, 12, .inl uf))]) [0, 1, 2, 3, 4] rfl
    have hD9 := hD.sub (ws' := [(h, .inr (2, [.int 1, .int dy, .int (nI w), .ref n, .ref d, .ref f, .ref o])), (n, .inl (cI, 12, .inl pf)), (d, .inl (cI, 12, .inl df)), (f, .inl (cI, 12, .inl tf)), (o, .inl (cI, 12, .inl uf))]) [0, 1, 2, 3, 4] (by decide) rfl
    exact W.iret (v := 0) hx hb hr (fun t ht hW => ⟨⟨0, (), rfl, ⟨rfl, trivial⟩, by rw [ht]; exact hP9, hD9⟩, hS.F ht⟩) hS.2.2 dX2_until_21 hlk
set_option maxHeartbeats 4000000 in
set_option maxRecDepth 100000 in
theorem fb_c_X2_next (l : Launch) (G : va_G) (cI cL : ClassId) (h n d f o : Nat) (pf df tf uf : Nat → Int32) (th dy : Int32) (w : Nat) (hw : w < 12) (sz : Nat) : fb_MG l yX2_next wsX2_next 5 112 0 0 [.ref h] G cI cL sz (fb_MW cI h n d f o pf df tf uf th dy (nI w)) (fb_qi G (S := Unit) (fun _ => (fb_MW cI h n d f o pf df tf uf 0 dy (nI w))) (fb_nb (fb_cn (fb_ep pf w) (fb_rg uf) (fb_rg tf)) w (fb_co (fb_ep pf w) (fb_rg uf) (fb_rg tf) 12) 12) (fun _ => True)) := by
  refine fb_mg_of (cc := cX2_next) (maxL := 6) (ret := (some .int)) (by decide) rfl (Nat.le_of_ble_eq_true rfl) ?_
  intro p e s m args below meth c A hx hb hr hml hlk hts hown hP hK hD hA hX hin9 ls hl
  have hown : s.vm.findClass RX2 = some m.cls := hown
  have hP : va_P G vwCl [(h, .inr (2, [.int th, .int dy, .int (nI w), .ref n, .ref d, .ref f, .ref o])), (n, .inl (cI, 12, .inl pf)), (d, .inl (cI, 12, .inl df)), (f, .inl (cI, 12, .inl tf)), (o, .inl (cI, 12, .inl uf))] s.heap := hP
  have hD : va_D A [(h, .inr (2, [.int th, .int dy, .int (nI w), .ref n, .ref d, .ref f, .ref o])), (n, .inl (cI, 12, .inl pf)), (d, .inl (cI, 12, .inl df)), (f, .inl (cI, 12, .inl tf)), (o, .inl (cI, 12, .inl uf))] := hD
  have hS : va_S A s.heap s.heap [] := va_S.rf
  have hXn : ∀ (H : Heap) (locs : List Loc), va_S A s.heap H locs → fb_sx (fun _ => False) s H := fun H locs h9 => (hX.kept h9.2.1).narrow (fun _ z => z.elim)
  have hl : lv_has ls 6 [(0, .ref h)] := hl
  have hin2 : ∀ w ∈ u_ws RX2 TX2 7, w ∈ wsX2_next := by decide +kernel
  refine lv_aload_n hx hb dX2_next_0 rfl (lv_at hl 0 rfl) ?_
  refine lv_iconst (v := 0) hx hb dX2_next_1 (by decide) ?_
  refine va_put (D := G) (ci := 2) (v := .int 0) (ty := .int) (C := RX2) (T := TX2) (N := 7) hx hb hts (hin2) tyX2 tyX2_ok nmX2 hown hK hP hD hS 0 rfl rfl 0 (by decide) (hts (.fieldLink RX2 26 "FifthBeatsModel" "thrown" "I") (by decide +kernel)) (fun _ h9 => h9) rfl (by decide +kernel) rfl rfl (Nat.le_of_ble_eq_true rfl) dX2_next_2 (fun H locs hP hD hS => ?_)
  have hP : va_P G vwCl [(h, .inr (2, [.int 0, .int dy, .int (nI w), .ref n, .ref d, .ref f, .ref o])), (n, .inl (cI, 12, .inl pf)), (d, .inl (cI, 12, .inl df)), (f, .inl (cI, 12, .inl tf)), (o, .inl (cI, 12, .inl uf))] H := hP
  have hD : va_D A [(h, .inr (2, [.int 0, .int dy, .int (nI w), .ref n, .ref d, .ref f, .ref o])), (n, .inl (cI, 12, .inl pf)), (d, .inl (cI, 12, .inl df)), (f, .inl (cI, 12, .inl tf)), (o, .inl (cI, 12, .inl uf))] := hD
  refine lv_iconst (v := (-1)) hx hb dX2_next_5 (by decide) ?_
  refine lv_istore_n (lv' := [(1, .int (-1)), (0, .ref h)]) hx hb dX2_next_6 rfl hl (by decide) rfl (fun ls hl => ?_)
  refine lv_aload_n hx hb dX2_next_7 rfl (lv_at hl 1 rfl) ?_
  refine fb_roV (As := []) (rest := []) (n := 0) ⟨hx, hb, hml, hown, hts⟩ (fb_c_X2_costs l G cI cL h n d f o pf df tf uf 0 dy w  hw) gX2_next_X2_costs rfl (by decide +kernel) (by decide) (fb_PB.bl _ _ _ _) (va_recv hK hP (ci := 2) (q0 := 0) rfl rfl) (fb_PB.to hP hK (hXn _ _ hS)) rfl hl.1 rfl (Nat.le_of_ble_eq_true rfl) dX2_next_8 (by decide) ?_
  refine lv_istore_n (lv' := [(2, .int (fb_co (fb_ep pf w) (fb_rg uf) (fb_rg tf) 12)), (1, .int (-1)), (0, .ref h)]) hx hb dX2_next_11 rfl hl (by decide) rfl (fun ls hl => ?_)
  refine lv_iconst (v := 0) hx hb dX2_next_12 (by decide) ?_
  refine lv_istore_n (lv' := [(3, .int 0), (2, .int (fb_co (fb_ep pf w) (fb_rg uf) (fb_rg tf) 12)), (1, .int (-1)), (0, .ref h)]) hx hb dX2_next_13 rfl hl (by decide) rfl (fun ls hl => ?_)
  have lp14 : ∀ (n9 i : Nat), i ≤ 12 → 12 < i + n9 → ∀ (H : Heap) (locs : List Loc), va_P G vwCl [(h, .inr (2, [.int 0, .int dy, .int (nI w), .ref n, .ref d, .ref f, .ref o])), (n, .inl (cI, 12, .inl pf)), (d, .inl (cI, 12, .inl df)), (f, .inl (cI, 12, .inl tf)), (o, .inl (cI, 12, .inl uf))] H → va_D A [(h, .inr (2, [.int 0, .int dy, .int (nI w), .ref n, .ref d, .ref f, .ref o])), (n, .inl (cI, 12, .inl pf)), (d, .inl (cI, 12, .inl df)), (f, .inl (cI, 12, .inl tf)), (o, .inl (cI, 12, .inl uf))] → va_S A s.heap H locs → ∀ ls : Array Slot, lv_has ls 6 [(3, .int (nI i)), (1, .int (fb_nb (fb_cn (fb_ep pf w) (fb_rg uf) (fb_rg tf)) w (fb_co (fb_ep pf w) (fb_rg uf) (fb_rg tf) 12) i)), (2, .int (fb_nl (fb_cn (fb_ep pf w) (fb_rg uf) (fb_rg tf)) w (fb_co (fb_ep pf w) (fb_rg uf) (fb_rg tf) 12) i)), (0, .ref h)] → W p l e ({ frames := 5, cells := 0, slots := 0, locals := 112 }) s m args below meth c H locs 0 0 (MQ below ((fb_qi G (S := Unit) (fun _ => (fb_MW cI h n d f o pf df tf uf 0 dy (nI w))) (fb_nb (fb_cn (fb_ep pf w) (fb_rg uf) (fb_rg tf)) w (fb_co (fb_ep pf w) (fb_rg uf) (fb_rg tf) 12) 12) (fun _ => True)) A) args s 0 0 A) (F0 m 14 ls []) := by
    intro n9
    induction n9 with
    | zero => intro i h1 h2; exact absurd h2 (by omega)
    | succ n9 ih14 =>
      intro i hi_i hin9 H locs hP hD hS ls hl
      refine lv_iload_n hx hb dX2_next_14 rfl (lv_at hl 0 rfl) ?_
      refine lv_bipush (v := 12) hx hb dX2_next_15 (by decide) ?_
      refine lv_icmp_ge (tgt := 75) hx hb dX2_next_17 (by decide) (fun c17 => ?_) (fun c17 => ?_)
      · skip
        have hxi : i = 12 := fb_lp_ex (by decide) hi_i c17
        subst hxi
        refine lv_iload_n hx hb dX2_next_75 rfl (lv_at hl 1 rfl) ?_
        have hP9 := hP.sub (ws' := [(h, .inr (2, [.int 0, .int dy, .int (nI w), .ref n, .ref d, .ref f, .ref o])), (n, .inl (cI, 12, .inl pf)), (d, .inl (cI, 12, .inl df)), (f, .inl (cI, 12, .inl tf)), (o, .inl (cI, 12, .inl uf))]) [0, 1, 2, 3, 4] rfl
        have hD9 := hD.sub (ws' := [(h, .inr (2, [.int 0, .int dy, .int (nI w), .ref n, .ref d, .ref f, .ref o])), (n, .inl (cI, 12, .inl pf)), (d, .inl (cI, 12, .inl df)), (f, .inl (cI, 12, .inl tf)), (o, .inl (cI, 12, .inl uf))]) [0, 1, 2, 3, 4] (by decide) rfl
        exact W.iret (v := fb_nb (fb_cn (fb_ep pf w) (fb_rg uf) (fb_rg tf)) w (fb_co (fb_ep pf w) (fb_rg uf) (fb_rg tf) 12) 12) hx hb hr (fun t ht hW => ⟨⟨fb_nb (fb_cn (fb_ep pf w) (fb_rg uf) (fb_rg tf)) w (fb_co (fb_ep pf w) (fb_rg uf) (fb_rg tf) 12) 12, (), rfl, ⟨rfl, trivial⟩, by rw [ht]; exact hP9, hD9⟩, hS.F ht⟩) hS.2.2 dX2_next_76 hlk
      · skip
        have hi12 : i < 12 := fb_lp_in (by decide) hi_i c17
        refine lv_aload_n hx hb dX2_next_20 rfl (lv_at hl 3 rfl) ?_
        refine lv_iload_n hx hb dX2_next_21 rfl (lv_at hl 0 rfl) ?_
        refine fb_roV (As := [.int (nI i)]) (rest := []) (n := 1) ⟨hx, hb, hml, hown, hts⟩ (fb_c_X2_canTune l G cI cL h n d f o pf df tf uf 0 dy w i hi12 hw) gX2_next_X2_canTune rfl (by decide +kernel) (by decide) (fb_PB.bl _ _ _ _) (va_recv hK hP (ci := 2) (q0 := 0) rfl rfl) (fb_PB.to hP hK (hXn _ _ hS)) rfl hl.1 rfl (Nat.le_of_ble_eq_true rfl) dX2_next_22 (by decide) ?_
        refine lv_if_ne (tgt := 31) hx hb dX2_next_25 (by decide) (fun c25 => ?_) (fun c25 => ?_)
        · skip
          have h25 : ¬ (i + 11) % 12 = w := fun e9 => c25 (if_pos e9)
          refine lv_aload_n hx hb dX2_next_31 rfl (lv_at hl 3 rfl) ?_
          refine lv_iload_n hx hb dX2_next_32 rfl (lv_at hl 0 rfl) ?_
          refine fb_miV (As := [.int (nI i)]) (rest := []) (n := 1) (wr := []) (wz := [(h, .inr (2, [.int 0, .int dy, .int (nI w), .ref n, .ref d, .ref f, .ref o])), (n, .inl (cI, 12, .inl pf)), (d, .inl (cI, 12, .inl df)), (f, .inl (cI, 12, .inl tf)), (o, .inl (cI, 12, .inl (fb_t1 uf i)))]) ⟨hx, hb, hml, hown, hts⟩ (fb_c_X2_tuned l G cI cL h n d f o pf df tf uf 0 dy w i hi12 _) gX2_next_X2_tuned rfl (by decide +kernel) (by decide) (va_recv hK hP (ci := 2) (q0 := 0) rfl rfl) hP hK hD hS hA hX [0, 1, 2, 3, 4] [] [0, 1, 2, 3, 4] rfl rfl rfl rfl rfl rfl (by decide) rfl hl.1 rfl (Nat.le_of_ble_eq_true rfl) dX2_next_33 (by decide) (fun H locs hP hD hS => ?_)
          refine lv_istore (lv' := [(4, .int (fb_tr uf i)), (3, .int (nI i)), (1, .int (fb_nb (fb_cn (fb_ep pf w) (fb_rg uf) (fb_rg tf)) w (fb_co (fb_ep pf w) (fb_rg uf) (fb_rg tf) 12) i)), (2, .int (fb_nl (fb_cn (fb_ep pf w) (fb_rg uf) (fb_rg tf)) w (fb_co (fb_ep pf w) (fb_rg uf) (fb_rg tf) 12) i)), (0, .ref h)]) hx hb dX2_next_36 hl (by decide) rfl (fun ls hl => ?_)
          refine lv_aload_n hx hb dX2_next_38 rfl (lv_at hl 4 rfl) ?_
          refine fb_roV (As := []) (rest := []) (n := 0) ⟨hx, hb, hml, hown, hts⟩ (fb_c_X2_costs l G cI cL h n d f o pf df tf (fb_t1 uf i) 0 dy w  hw) gX2_next_X2_costs rfl (by decide +kernel) (by decide) (fb_PB.bl _ _ _ _) (va_recv hK hP (ci := 2) (q0 := 0) rfl rfl) (fb_PB.to hP hK (hXn _ _ hS)) rfl hl.1 rfl (Nat.le_of_ble_eq_true rfl) dX2_next_39 (by decide) ?_
          refine fb_ti (z := fb_cn (fb_ep pf w) (fb_rg uf) (fb_rg tf) i) (by unfold fb_cn; rw [← fb_rg_t1]) ?_
          refine lv_istore (lv' := [(5, .int (fb_cn (fb_ep pf w) (fb_rg uf) (fb_rg tf) i)), (4, .int (fb_tr uf i)), (3, .int (nI i)), (1, .int (fb_nb (fb_cn (fb_ep pf w) (fb_rg uf) (fb_rg tf)) w (fb_co (fb_ep pf w) (fb_rg uf) (fb_rg tf) 12) i)), (2, .int (fb_nl (fb_cn (fb_ep pf w) (fb_rg uf) (fb_rg tf)) w (fb_co (fb_ep pf w) (fb_rg uf) (fb_rg tf) 12) i)), (0, .ref h)]) hx hb dX2_next_42 hl (by decide) rfl (fun ls hl => ?_)
          refine lv_aload_n hx hb dX2_next_44 rfl (lv_at hl 5 rfl) ?_
          refine va_get (D := G) (ci := 2) (v := .ref o) (C := RX2) (T := TX2) (N := 7) hx hb hts (hin2) hown hK hP 0 rfl rfl 6 (by decide) (hts (.fieldLink RX2 23 "FifthBeatsModel" "off" "[I") (by decide +kernel)) (fun _ h9 => h9) rfl dX2_next_45 ?_
          refine lv_iload_n hx hb dX2_next_48 rfl (lv_at hl 2 rfl) ?_
          refine lv_dup2_11 hx hb dX2_next_49 rfl rfl ?_
          refine va_iald hx hb hK hP 4 0 rfl rfl (vp_in_nI hi12 (by decide)) dX2_next_50 ?_
          refine fb_ti (z := fb_rg uf (i + 11)) (by rw [fb_cl (by omega)]; exact fb_t1_at hi12) ?_
          refine lv_iload hx hb dX2_next_51 (lv_at hl 1 rfl) ?_
          refine lv_isub hx hb dX2_next_53 ?_
          refine va_iast hx hb hK hP hD hS 4 0 rfl rfl (vp_in_nI hi12 (by decide)) dX2_next_54 (fun H locs hP hD hS => ?_)
          rw [show (nI i).toNatClampNeg = i from fb_cl (by omega)] at hP hD
          rw [show upd (fb_t1 uf i) i ((fb_rg uf (i + 11)) - (fb_tr uf i)) = uf from fb_tback hi12] at hP hD
          have hP : va_P G vwCl [(h, .inr (2, [.int 0, .int dy, .int (nI w), .ref n, .ref d, .ref f, .ref o])), (n, .inl (cI, 12, .inl pf)), (d, .inl (cI, 12, .inl df)), (f, .inl (cI, 12, .inl tf)), (o, .inl (cI, 12, .inl uf))] H := hP
          have hD : va_D A [(h, .inr (2, [.int 0, .int dy, .int (nI w), .ref n, .ref d, .ref f, .ref o])), (n, .inl (cI, 12, .inl pf)), (d, .inl (cI, 12, .inl df)), (f, .inl (cI, 12, .inl tf)), (o, .inl (cI, 12, .inl uf))] := hD
          refine lv_iload hx hb dX2_next_55 (lv_at hl 0 rfl) ?_
          refine lv_iload_n hx hb dX2_next_57 rfl (lv_at hl 4 rfl) ?_
          refine lv_icmp_lt (tgt := 64) hx hb dX2_next_58 (by decide) (fun c58 => ?_) (fun c58 => ?_)
          · skip
            refine lv_iload_n hx hb dX2_next_64 rfl (lv_at hl 2 rfl) ?_
            refine lv_istore_n (lv' := [(1, .int (nI i)), (5, .int (fb_cn (fb_ep pf w) (fb_rg uf) (fb_rg tf) i)), (4, .int (fb_tr uf i)), (3, .int (nI i)), (2, .int (fb_nl (fb_cn (fb_ep pf w) (fb_rg uf) (fb_rg tf)) w (fb_co (fb_ep pf w) (fb_rg uf) (fb_rg tf) 12) i)), (0, .ref h)]) hx hb dX2_next_65 rfl hl (by decide) rfl (fun ls hl => ?_)
            refine lv_iload hx hb dX2_next_66 (lv_at hl 1 rfl) ?_
            refine lv_istore_n (lv' := [(2, .int (fb_cn (fb_ep pf w) (fb_rg uf) (fb_rg tf) i)), (1, .int (nI i)), (5, .int (fb_cn (fb_ep pf w) (fb_rg uf) (fb_rg tf) i)), (4, .int (fb_tr uf i)), (3, .int (nI i)), (0, .ref h)]) hx hb dX2_next_68 rfl hl (by decide) rfl (fun ls hl => ?_)
            refine lv_iinc (v := nI (i + 1)) (lv' := [(3, .int (nI (i + 1))), (2, .int (fb_cn (fb_ep pf w) (fb_rg uf) (fb_rg tf) i)), (1, .int (nI i)), (5, .int (fb_cn (fb_ep pf w) (fb_rg uf) (fb_rg tf) i)), (4, .int (fb_tr uf i)), (0, .ref h)]) hx hb dX2_next_69 hl (k := 4) rfl (show nI i + 1 = nI (i + 1) from nI_1 i) (by decide) rfl (fun ls hl => ?_)
            refine lv_goto (tgt := 14) hx hb dX2_next_72 (by decide) ?_
            exact ih14 (i + 1) (by omega) (by omega) _ _ (hP) (hD) hS _ (lv_sub hl [0, 2, 1, 5] (by rw [(fb_n_t (c := (fb_cn (fb_ep pf w) (fb_rg uf) (fb_rg tf))) (z := (fb_co (fb_ep pf w) (fb_rg uf) (fb_rg tf) 12)) h25 c58).1, (fb_n_t (c := (fb_cn (fb_ep pf w) (fb_rg uf) (fb_rg tf))) (z := (fb_co (fb_ep pf w) (fb_rg uf) (fb_rg tf) 12)) h25 c58).2]; rfl))
          · skip
            refine lv_goto (tgt := 69) hx hb dX2_next_61 (by decide) ?_
            refine lv_iinc (v := nI (i + 1)) (lv' := [(3, .int (nI (i + 1))), (5, .int (fb_cn (fb_ep pf w) (fb_rg uf) (fb_rg tf) i)), (4, .int (fb_tr uf i)), (1, .int (fb_nb (fb_cn (fb_ep pf w) (fb_rg uf) (fb_rg tf)) w (fb_co (fb_ep pf w) (fb_rg uf) (fb_rg tf) 12) i)), (2, .int (fb_nl (fb_cn (fb_ep pf w) (fb_rg uf) (fb_rg tf)) w (fb_co (fb_ep pf w) (fb_rg uf) (fb_rg tf) 12) i)), (0, .ref h)]) hx hb dX2_next_69 hl (k := 2) rfl (show nI i + 1 = nI (i + 1) from nI_1 i) (by decide) rfl (fun ls hl => ?_)
            refine lv_goto (tgt := 14) hx hb dX2_next_72 (by decide) ?_
            exact ih14 (i + 1) (by omega) (by omega) _ _ (hP) (hD) hS _ (lv_sub hl [0, 3, 4, 5] (by rw [(fb_n_s (c := (fb_cn (fb_ep pf w) (fb_rg uf) (fb_rg tf))) (z := (fb_co (fb_ep pf w) (fb_rg uf) (fb_rg tf) 12)) (Or.inr c58)).1, (fb_n_s (c := (fb_cn (fb_ep pf w) (fb_rg uf) (fb_rg tf))) (z := (fb_co (fb_ep pf w) (fb_rg uf) (fb_rg tf) 12)) (Or.inr c58)).2]; rfl))
        · skip
          have h25 : (i + 11) % 12 = w := Decidable.of_not_not (fun e9 => absurd c25 (by rw [if_neg e9]; decide))
          refine lv_goto (tgt := 69) hx hb dX2_next_28 (by decide) ?_
          refine lv_iinc (v := nI (i + 1)) (lv' := [(3, .int (nI (i + 1))), (1, .int (fb_nb (fb_cn (fb_ep pf w) (fb_rg uf) (fb_rg tf)) w (fb_co (fb_ep pf w) (fb_rg uf) (fb_rg tf) 12) i)), (2, .int (fb_nl (fb_cn (fb_ep pf w) (fb_rg uf) (fb_rg tf)) w (fb_co (fb_ep pf w) (fb_rg uf) (fb_rg tf) 12) i)), (0, .ref h)]) hx hb dX2_next_69 hl (k := 0) rfl (show nI i + 1 = nI (i + 1) from nI_1 i) (by decide) rfl (fun ls hl => ?_)
          refine lv_goto (tgt := 14) hx hb dX2_next_72 (by decide) ?_
          exact ih14 (i + 1) (by omega) (by omega) _ _ (hP) (hD) hS _ (lv_sub hl [0, 1, 2, 3] (by rw [(fb_n_s (c := (fb_cn (fb_ep pf w) (fb_rg uf) (fb_rg tf))) (z := (fb_co (fb_ep pf w) (fb_rg uf) (fb_rg tf) 12)) (Or.inl h25)).1, (fb_n_s (c := (fb_cn (fb_ep pf w) (fb_rg uf) (fb_rg tf))) (z := (fb_co (fb_ep pf w) (fb_rg uf) (fb_rg tf) 12)) (Or.inl h25)).2]; rfl))
  exact lp14 (12 + 1) 0 (by omega) (by omega) _ _ (hP) (hD) hS _ (lv_sub hl [0, 2, 1, 3] (rfl))
set_option maxHeartbeats 4000000 in
set_option maxRecDepth 100000 in
theorem fb_c_X2_digest (l : Launch) (G : va_G) (cI cL : ClassId) (h n d f o : Nat) (pf df tf uf : Nat → Int32) (th dy : Int32) (w : Nat) (hw : w < 12) (sz : Nat) : fb_MG l yX2_digest wsX2_digest 6 138 0 0 [.ref h] G cI cL sz (fb_MW cI h n d f o pf df tf uf th dy (nI w)) (fb_ql G (S := Unit) (fun _ => (fb_MW cI h n d f o pf df tf uf 0 dy (nI w))) (fb_dg (fb_ep pf w) (fb_rg uf) (fb_rg df) (fb_rg tf) w dy) (fun _ => True)) := by
  refine fb_mg_of (cc := cX2_digest) (maxL := 5) (ret := (some .long)) (by decide) rfl (Nat.le_of_ble_eq_true rfl) ?_
  intro p e s m args below meth c A hx hb hr hml hlk hts hown hP hK hD hA hX hin9 ls hl
  have hown : s.vm.findClass RX2 = some m.cls := hown
  have hP : va_P G vwCl [(h, .inr (2, [.int th, .int dy, .int (nI w), .ref n, .ref d, .ref f, .ref o])), (n, .inl (cI, 12, .inl pf)), (d, .inl (cI, 12, .inl df)), (f, .inl (cI, 12, .inl tf)), (o, .inl (cI, 12, .inl uf))] s.heap := hP
  have hD : va_D A [(h, .inr (2, [.int th, .int dy, .int (nI w), .ref n, .ref d, .ref f, .ref o])), (n, .inl (cI, 12, .inl pf)), (d, .inl (cI, 12, .inl df)), (f, .inl (cI, 12, .inl tf)), (o, .inl (cI, 12, .inl uf))] := hD
  have hS : va_S A s.heap s.heap [] := va_S.rf
  have hXn : ∀ (H : Heap) (locs : List Loc), va_S A s.heap H locs → fb_sx (fun _ => False) s H := fun H locs h9 => (hX.kept h9.2.1).narrow (fun _ z => z.elim)
  have hl : lv_has ls 5 [(0, .ref h)] := hl
  have hin2 : ∀ w ∈ u_ws RX2 TX2 7, w ∈ wsX2_digest := by decide +kernel
  refine lv_aload_n hx hb dX2_digest_0 rfl (lv_at hl 0 rfl) ?_
  refine lv_iconst (v := 0) hx hb dX2_digest_1 (by decide) ?_
  refine va_put (D := G) (ci := 2) (v := .int 0) (ty := .int) (C := RX2) (T := TX2) (N := 7) hx hb hts (hin2) tyX2 tyX2_ok nmX2 hown hK hP hD hS 0 rfl rfl 0 (by decide) (hts (.fieldLink RX2 26 "FifthBeatsModel" "thrown" "I") (by decide +kernel)) (fun _ h9 => h9) rfl (by decide +kernel) rfl rfl (Nat.le_of_ble_eq_true rfl) dX2_digest_2 (fun H locs hP hD hS => ?_)
  have hP : va_P G vwCl [(h, .inr (2, [.int 0, .int dy, .int (nI w), .ref n, .ref d, .ref f, .ref o])), (n, .inl (cI, 12, .inl pf)), (d, .inl (cI, 12, .inl df)), (f, .inl (cI, 12, .inl tf)), (o, .inl (cI, 12, .inl uf))] H := hP
  have hD : va_D A [(h, .inr (2, [.int 0, .int dy, .int (nI w), .ref n, .ref d, .ref f, .ref o])), (n, .inl (cI, 12, .inl pf)), (d, .inl (cI, 12, .inl df)), (f, .inl (cI, 12, .inl tf)), (o, .inl (cI, 12, .inl uf))] := hD
  refine lv_ldc2 (v := 1697) hx hb hown (hts (.constantLong RX2 149 (1697)) (by decide +kernel)) dX2_digest_5 ?_
  refine lv_lstore_n (lv' := [(1, .long 1697), (0, .ref h)]) hx hb dX2_digest_8 rfl hl (by decide) rfl (fun ls hl => ?_)
  refine lv_iconst (v := 0) hx hb dX2_digest_9 (by decide) ?_
  refine lv_istore_n (lv' := [(3, .int 0), (1, .long 1697), (0, .ref h)]) hx hb dX2_digest_10 rfl hl (by decide) rfl (fun ls hl => ?_)
  have lp11 : ∀ (n9 i : Nat), i ≤ 7 → 7 < i + n9 → ∀ (H : Heap) (locs : List Loc), va_P G vwCl [(h, .inr (2, [.int 0, .int dy, .int (nI w), .ref n, .ref d, .ref f, .ref o])), (n, .inl (cI, 12, .inl pf)), (d, .inl (cI, 12, .inl df)), (f, .inl (cI, 12, .inl tf)), (o, .inl (cI, 12, .inl uf))] H → va_D A [(h, .inr (2, [.int 0, .int dy, .int (nI w), .ref n, .ref d, .ref f, .ref o])), (n, .inl (cI, 12, .inl pf)), (d, .inl (cI, 12, .inl df)), (f, .inl (cI, 12, .inl tf)), (o, .inl (cI, 12, .inl uf))] → va_S A s.heap H locs → ∀ ls : Array Slot, lv_has ls 5 [(3, .int (nI i)), (1, .long (fb_fo (fb_tC (fb_ep pf w) (fb_rg uf) (fb_rg tf) w dy) (1697) i)), (0, .ref h)] → W p l e ({ frames := 6, cells := 0, slots := 0, locals := 138 }) s m args below meth c H locs 0 0 (MQ below ((fb_ql G (S := Unit) (fun _ => (fb_MW cI h n d f o pf df tf uf 0 dy (nI w))) (fb_dg (fb_ep pf w) (fb_rg uf) (fb_rg df) (fb_rg tf) w dy) (fun _ => True)) A) args s 0 0 A) (F0 m 11 ls []) := by
    intro n9
    induction n9 with
    | zero => intro i h1 h2; exact absurd h2 (by omega)
    | succ n9 ih11 =>
      intro i hi_i hin9 H locs hP hD hS ls hl
      refine lv_iload_n hx hb dX2_digest_11 rfl (lv_at hl 0 rfl) ?_
      refine lv_bipush (v := 7) hx hb dX2_digest_12 (by decide) ?_
      refine lv_icmp_ge (tgt := 36) hx hb dX2_digest_14 (by decide) (fun c14 => ?_) (fun c14 => ?_)
      · skip
        have hxi : i = 7 := fb_lp_ex (by decide) hi_i c14
        subst hxi
        refine lv_iconst (v := 0) hx hb dX2_digest_36 (by decide) ?_
        refine lv_istore_n (lv' := [(3, .int 0), (1, .long (fb_fo (fb_tC (fb_ep pf w) (fb_rg uf) (fb_rg tf) w dy) (1697) 7)), (0, .ref h)]) hx hb dX2_digest_37 rfl hl (by decide) rfl (fun ls hl => ?_)
        have lp38 : ∀ (n9 k : Nat), k ≤ 12 → 12 < k + n9 → ∀ (H : Heap) (locs : List Loc), va_P G vwCl [(h, .inr (2, [.int 0, .int dy, .int (nI w), .ref n, .ref d, .ref f, .ref o])), (n, .inl (cI, 12, .inl pf)), (d, .inl (cI, 12, .inl df)), (f, .inl (cI, 12, .inl tf)), (o, .inl (cI, 12, .inl uf))] H → va_D A [(h, .inr (2, [.int 0, .int dy, .int (nI w), .ref n, .ref d, .ref f, .ref o])), (n, .inl (cI, 12, .inl pf)), (d, .inl (cI, 12, .inl df)), (f, .inl (cI, 12, .inl tf)), (o, .inl (cI, 12, .inl uf))] → va_S A s.heap H locs → ∀ ls : Array Slot, lv_has ls 5 [(3, .int (nI k)), (1, .long (fb_dk (fb_ep pf w) (fb_rg uf) (fb_rg df) (fb_rg tf) w (fb_fo (fb_tC (fb_ep pf w) (fb_rg uf) (fb_rg tf) w dy) (1697) 7) k)), (0, .ref h)] → W p l e ({ frames := 6, cells := 0, slots := 0, locals := 138 }) s m args below meth c H locs 0 0 (MQ below ((fb_ql G (S := Unit) (fun _ => (fb_MW cI h n d f o pf df tf uf 0 dy (nI w))) (fb_dg (fb_ep pf w) (fb_rg uf) (fb_rg df) (fb_rg tf) w dy) (fun _ => True)) A) args s 0 0 A) (F0 m 38 ls []) := by
          intro n9
          induction n9 with
          | zero => intro k h1 h2; exact absurd h2 (by omega)
          | succ n9 ih38 =>
            intro k hi_k hin9 H locs hP hD hS ls hl
            refine lv_iload_n hx hb dX2_digest_38 rfl (lv_at hl 0 rfl) ?_
            refine lv_bipush (v := 12) hx hb dX2_digest_39 (by decide) ?_
            refine lv_icmp_ge (tgt := 200) hx hb dX2_digest_41 (by decide) (fun c41 => ?_) (fun c41 => ?_)
            · skip
              have hxk : k = 12 := fb_lp_ex (by decide) hi_k c41
              subst hxk
              refine lv_lload_n hx hb dX2_digest_200 rfl (lv_at hl 1 rfl) ?_
              have hP9 := hP.sub (ws' := [(h, .inr (2, [.int 0, .int dy, .int (nI w), .ref n, .ref d, .ref f, .ref o])), (n, .inl (cI, 12, .inl pf)), (d, .inl (cI, 12, .inl df)), (f, .inl (cI, 12, .inl tf)), (o, .inl (cI, 12, .inl uf))]) [0, 1, 2, 3, 4] rfl
              have hD9 := hD.sub (ws' := [(h, .inr (2, [.int 0, .int dy, .int (nI w), .ref n, .ref d, .ref f, .ref o])), (n, .inl (cI, 12, .inl pf)), (d, .inl (cI, 12, .inl df)), (f, .inl (cI, 12, .inl tf)), (o, .inl (cI, 12, .inl uf))]) [0, 1, 2, 3, 4] (by decide) rfl
              exact W.lret (v := fb_dk (fb_ep pf w) (fb_rg uf) (fb_rg df) (fb_rg tf) w (fb_fo (fb_tC (fb_ep pf w) (fb_rg uf) (fb_rg tf) w dy) (1697) 7) 12) hx hb hr (fun t ht hW => ⟨⟨fb_dk (fb_ep pf w) (fb_rg uf) (fb_rg df) (fb_rg tf) w (fb_fo (fb_tC (fb_ep pf w) (fb_rg uf) (fb_rg tf) w dy) (1697) 7) 12, (), rfl, ⟨rfl, trivial⟩, by rw [ht]; exact hP9, hD9⟩, hS.F ht⟩) hS.2.2 dX2_digest_201 hlk
            · skip
              have hk12 : k < 12 := fb_lp_in (by decide) hi_k c41
              refine lv_iconst (v := 0) hx hb dX2_digest_44 (by decide) ?_
              refine lv_istore (lv' := [(4, .int 0), (3, .int (nI k)), (1, .long (fb_dk (fb_ep pf w) (fb_rg uf) (fb_rg df) (fb_rg tf) w (fb_fo (fb_tC (fb_ep pf w) (fb_rg uf) (fb_rg tf) w dy) (1697) 7) k)), (0, .ref h)]) hx hb dX2_digest_45 hl (by decide) rfl (fun ls hl => ?_)
              have lp47 : ∀ (n9 i : Nat), i ≤ 5 → 5 < i + n9 → ∀ (H : Heap) (locs : List Loc), va_P G vwCl [(h, .inr (2, [.int 0, .int dy, .int (nI w), .ref n, .ref d, .ref f, .ref o])), (n, .inl (cI, 12, .inl pf)), (d, .inl (cI, 12, .inl df)), (f, .inl (cI, 12, .inl tf)), (o, .inl (cI, 12, .inl uf))] H → va_D A [(h, .inr (2, [.int 0, .int dy, .int (nI w), .ref n, .ref d, .ref f, .ref o])), (n, .inl (cI, 12, .inl pf)), (d, .inl (cI, 12, .inl df)), (f, .inl (cI, 12, .inl tf)), (o, .inl (cI, 12, .inl uf))] → va_S A s.heap H locs → ∀ ls : Array Slot, lv_has ls 5 [(4, .int (nI i)), (1, .long (fb_fo (fb_tF (fb_ep pf w) (fb_rg uf) w k) (fb_dk (fb_ep pf w) (fb_rg uf) (fb_rg df) (fb_rg tf) w (fb_fo (fb_tC (fb_ep pf w) (fb_rg uf) (fb_rg tf) w dy) (1697) 7) k) i)), (3, .int (nI k)), (0, .ref h)] → W p l e ({ frames := 6, cells := 0, slots := 0, locals := 138 }) s m args below meth c H locs 0 0 (MQ below ((fb_ql G (S := Unit) (fun _ => (fb_MW cI h n d f o pf df tf uf 0 dy (nI w))) (fb_dg (fb_ep pf w) (fb_rg uf) (fb_rg df) (fb_rg tf) w dy) (fun _ => True)) A) args s 0 0 A) (F0 m 47 ls []) := by
                intro n9
                induction n9 with
                | zero => intro i h1 h2; exact absurd h2 (by omega)
                | succ n9 ih47 =>
                  intro i hi_i hin9 H locs hP hD hS ls hl
                  refine lv_iload hx hb dX2_digest_47 (lv_at hl 0 rfl) ?_
                  refine lv_iconst (v := 5) hx hb dX2_digest_49 (by decide) ?_
                  refine lv_icmp_ge (tgt := 74) hx hb dX2_digest_50 (by decide) (fun c50 => ?_) (fun c50 => ?_)
                  · skip
                    have hxi : i = 5 := fb_lp_ex (by decide) hi_i c50
                    subst hxi
                    refine lv_iconst (v := 0) hx hb dX2_digest_74 (by decide) ?_
                    refine lv_istore (lv' := [(4, .int 0), (1, .long (fb_fo (fb_tF (fb_ep pf w) (fb_rg uf) w k) (fb_dk (fb_ep pf w) (fb_rg uf) (fb_rg df) (fb_rg tf) w (fb_fo (fb_tC (fb_ep pf w) (fb_rg uf) (fb_rg tf) w dy) (1697) 7) k) 5)), (3, .int (nI k)), (0, .ref h)]) hx hb dX2_digest_75 hl (by decide) rfl (fun ls hl => ?_)
                    have lp77 : ∀ (n9 i : Nat), i ≤ 3 → 3 < i + n9 → ∀ (H : Heap) (locs : List Loc), va_P G vwCl [(h, .inr (2, [.int 0, .int dy, .int (nI w), .ref n, .ref d, .ref f, .ref o])), (n, .inl (cI, 12, .inl pf)), (d, .inl (cI, 12, .inl df)), (f, .inl (cI, 12, .inl tf)), (o, .inl (cI, 12, .inl uf))] H → va_D A [(h, .inr (2, [.int 0, .int dy, .int (nI w), .ref n, .ref d, .ref f, .ref o])), (n, .inl (cI, 12, .inl pf)), (d, .inl (cI, 12, .inl df)), (f, .inl (cI, 12, .inl tf)), (o, .inl (cI, 12, .inl uf))] → va_S A s.heap H locs → ∀ ls : Array Slot, lv_has ls 5 [(4, .int (nI i)), (1, .long (fb_fo (fb_tM (fb_ep pf w) (fb_rg uf) k) (fb_fo (fb_tF (fb_ep pf w) (fb_rg uf) w k) (fb_dk (fb_ep pf w) (fb_rg uf) (fb_rg df) (fb_rg tf) w (fb_fo (fb_tC (fb_ep pf w) (fb_rg uf) (fb_rg tf) w dy) (1697) 7) k) 5) i)), (3, .int (nI k)), (0, .ref h)] → W p l e ({ frames := 6, cells := 0, slots := 0, locals := 138 }) s m args below meth c H locs 0 0 (MQ below ((fb_ql G (S := Unit) (fun _ => (fb_MW cI h n d f o pf df tf uf 0 dy (nI w))) (fb_dg (fb_ep pf w) (fb_rg uf) (fb_rg df) (fb_rg tf) w dy) (fun _ => True)) A) args s 0 0 A) (F0 m 77 ls []) := by
                      intro n9
                      induction n9 with
                      | zero => intro i h1 h2; exact absurd h2 (by omega)
                      | succ n9 ih77 =>
                        intro i hi_i hin9 H locs hP hD hS ls hl
                        refine lv_iload hx hb dX2_digest_77 (lv_at hl 0 rfl) ?_
                        refine lv_iconst (v := 3) hx hb dX2_digest_79 (by decide) ?_
                        refine lv_icmp_ge (tgt := 104) hx hb dX2_digest_80 (by decide) (fun c80 => ?_) (fun c80 => ?_)
                        · skip
                          have hxi : i = 3 := fb_lp_ex (by decide) hi_i c80
                          subst hxi
                          refine lv_iconst (v := 0) hx hb dX2_digest_104 (by decide) ?_
                          refine lv_istore (lv' := [(4, .int 0), (1, .long (fb_fo (fb_tM (fb_ep pf w) (fb_rg uf) k) (fb_fo (fb_tF (fb_ep pf w) (fb_rg uf) w k) (fb_dk (fb_ep pf w) (fb_rg uf) (fb_rg df) (fb_rg tf) w (fb_fo (fb_tC (fb_ep pf w) (fb_rg uf) (fb_rg tf) w dy) (1697) 7) k) 5) 3)), (3, .int (nI k)), (0, .ref h)]) hx hb dX2_digest_105 hl (by decide) rfl (fun ls hl => ?_)
                          have lp107 : ∀ (n9 i : Nat), i ≤ 2 → 2 < i + n9 → ∀ (H : Heap) (locs : List Loc), va_P G vwCl [(h, .inr (2, [.int 0, .int dy, .int (nI w), .ref n, .ref d, .ref f, .ref o])), (n, .inl (cI, 12, .inl pf)), (d, .inl (cI, 12, .inl df)), (f, .inl (cI, 12, .inl tf)), (o, .inl (cI, 12, .inl uf))] H → va_D A [(h, .inr (2, [.int 0, .int dy, .int (nI w), .ref n, .ref d, .ref f, .ref o])), (n, .inl (cI, 12, .inl pf)), (d, .inl (cI, 12, .inl df)), (f, .inl (cI, 12, .inl tf)), (o, .inl (cI, 12, .inl uf))] → va_S A s.heap H locs → ∀ ls : Array Slot, lv_has ls 5 [(4, .int (nI i)), (1, .long (fb_fo (fb_tI (fb_ep pf w) (fb_rg uf) k) (fb_fo (fb_tM (fb_ep pf w) (fb_rg uf) k) (fb_fo (fb_tF (fb_ep pf w) (fb_rg uf) w k) (fb_dk (fb_ep pf w) (fb_rg uf) (fb_rg df) (fb_rg tf) w (fb_fo (fb_tC (fb_ep pf w) (fb_rg uf) (fb_rg tf) w dy) (1697) 7) k) 5) 3) i)), (3, .int (nI k)), (0, .ref h)] → W p l e ({ frames := 6, cells := 0, slots := 0, locals := 138 }) s m args below meth c H locs 0 0 (MQ below ((fb_ql G (S := Unit) (fun _ => (fb_MW cI h n d f o pf df tf uf 0 dy (nI w))) (fb_dg (fb_ep pf w) (fb_rg uf) (fb_rg df) (fb_rg tf) w dy) (fun _ => True)) A) args s 0 0 A) (F0 m 107 ls []) := by
                            intro n9
                            induction n9 with
                            | zero => intro i h1 h2; exact absurd h2 (by omega)
                            | succ n9 ih107 =>
                              intro i hi_i hin9 H locs hP hD hS ls hl
                              refine lv_iload hx hb dX2_digest_107 (lv_at hl 0 rfl) ?_
                              refine lv_iconst (v := 2) hx hb dX2_digest_109 (by decide) ?_
                              refine lv_icmp_ge (tgt := 134) hx hb dX2_digest_110 (by decide) (fun c110 => ?_) (fun c110 => ?_)
                              · skip
                                have hxi : i = 2 := fb_lp_ex (by decide) hi_i c110
                                subst hxi
                                refine lv_iconst (v := 0) hx hb dX2_digest_134 (by decide) ?_
                                refine lv_istore (lv' := [(4, .int 0), (1, .long (fb_fo (fb_tI (fb_ep pf w) (fb_rg uf) k) (fb_fo (fb_tM (fb_ep pf w) (fb_rg uf) k) (fb_fo (fb_tF (fb_ep pf w) (fb_rg uf) w k) (fb_dk (fb_ep pf w) (fb_rg uf) (fb_rg df) (fb_rg tf) w (fb_fo (fb_tC (fb_ep pf w) (fb_rg uf) (fb_rg tf) w dy) (1697) 7) k) 5) 3) 2)), (3, .int (nI k)), (0, .ref h)]) hx hb dX2_digest_135 hl (by decide) rfl (fun ls hl => ?_)
                                have lp137 : ∀ (n9 i : Nat), i ≤ 5 → 5 < i + n9 → ∀ (H : Heap) (locs : List Loc), va_P G vwCl [(h, .inr (2, [.int 0, .int dy, .int (nI w), .ref n, .ref d, .ref f, .ref o])), (n, .inl (cI, 12, .inl pf)), (d, .inl (cI, 12, .inl df)), (f, .inl (cI, 12, .inl tf)), (o, .inl (cI, 12, .inl uf))] H → va_D A [(h, .inr (2, [.int 0, .int dy, .int (nI w), .ref n, .ref d, .ref f, .ref o])), (n, .inl (cI, 12, .inl pf)), (d, .inl (cI, 12, .inl df)), (f, .inl (cI, 12, .inl tf)), (o, .inl (cI, 12, .inl uf))] → va_S A s.heap H locs → ∀ ls : Array Slot, lv_has ls 5 [(4, .int (nI i)), (1, .long (fb_fo (fb_tN (fb_ep pf w) (fb_rg uf) (fb_rg df) k) (fb_fo (fb_tI (fb_ep pf w) (fb_rg uf) k) (fb_fo (fb_tM (fb_ep pf w) (fb_rg uf) k) (fb_fo (fb_tF (fb_ep pf w) (fb_rg uf) w k) (fb_dk (fb_ep pf w) (fb_rg uf) (fb_rg df) (fb_rg tf) w (fb_fo (fb_tC (fb_ep pf w) (fb_rg uf) (fb_rg tf) w dy) (1697) 7) k) 5) 3) 2) i)), (3, .int (nI k)), (0, .ref h)] → W p l e ({ frames := 6, cells := 0, slots := 0, locals := 138 }) s m args below meth c H locs 0 0 (MQ below ((fb_ql G (S := Unit) (fun _ => (fb_MW cI h n d f o pf df tf uf 0 dy (nI w))) (fb_dg (fb_ep pf w) (fb_rg uf) (fb_rg df) (fb_rg tf) w dy) (fun _ => True)) A) args s 0 0 A) (F0 m 137 ls []) := by
                                  intro n9
                                  induction n9 with
                                  | zero => intro i h1 h2; exact absurd h2 (by omega)
                                  | succ n9 ih137 =>
                                    intro i hi_i hin9 H locs hP hD hS ls hl
                                    refine lv_iload hx hb dX2_digest_137 (lv_at hl 0 rfl) ?_
                                    refine lv_iconst (v := 5) hx hb dX2_digest_139 (by decide) ?_
                                    refine lv_icmp_ge (tgt := 164) hx hb dX2_digest_140 (by decide) (fun c140 => ?_) (fun c140 => ?_)
                                    · skip
                                      have hxi : i = 5 := fb_lp_ex (by decide) hi_i c140
                                      subst hxi
                                      refine lv_iconst (v := 0) hx hb dX2_digest_164 (by decide) ?_
                                      refine lv_istore (lv' := [(4, .int 0), (1, .long (fb_fo (fb_tN (fb_ep pf w) (fb_rg uf) (fb_rg df) k) (fb_fo (fb_tI (fb_ep pf w) (fb_rg uf) k) (fb_fo (fb_tM (fb_ep pf w) (fb_rg uf) k) (fb_fo (fb_tF (fb_ep pf w) (fb_rg uf) w k) (fb_dk (fb_ep pf w) (fb_rg uf) (fb_rg df) (fb_rg tf) w (fb_fo (fb_tC (fb_ep pf w) (fb_rg uf) (fb_rg tf) w dy) (1697) 7) k) 5) 3) 2) 5)), (3, .int (nI k)), (0, .ref h)]) hx hb dX2_digest_165 hl (by decide) rfl (fun ls hl => ?_)
                                      have lp167 : ∀ (n9 i : Nat), i ≤ 4 → 4 < i + n9 → ∀ (H : Heap) (locs : List Loc), va_P G vwCl [(h, .inr (2, [.int 0, .int dy, .int (nI w), .ref n, .ref d, .ref f, .ref o])), (n, .inl (cI, 12, .inl pf)), (d, .inl (cI, 12, .inl df)), (f, .inl (cI, 12, .inl tf)), (o, .inl (cI, 12, .inl uf))] H → va_D A [(h, .inr (2, [.int 0, .int dy, .int (nI w), .ref n, .ref d, .ref f, .ref o])), (n, .inl (cI, 12, .inl pf)), (d, .inl (cI, 12, .inl df)), (f, .inl (cI, 12, .inl tf)), (o, .inl (cI, 12, .inl uf))] → va_S A s.heap H locs → ∀ ls : Array Slot, lv_has ls 5 [(4, .int (nI i)), (1, .long (fb_fo (fb_tK (fb_ep pf w) (fb_rg uf) (fb_rg tf) k) (fb_fo (fb_tN (fb_ep pf w) (fb_rg uf) (fb_rg df) k) (fb_fo (fb_tI (fb_ep pf w) (fb_rg uf) k) (fb_fo (fb_tM (fb_ep pf w) (fb_rg uf) k) (fb_fo (fb_tF (fb_ep pf w) (fb_rg uf) w k) (fb_dk (fb_ep pf w) (fb_rg uf) (fb_rg df) (fb_rg tf) w (fb_fo (fb_tC (fb_ep pf w) (fb_rg uf) (fb_rg tf) w dy) (1697) 7) k) 5) 3) 2) 5) i)), (3, .int (nI k)), (0, .ref h)] → W p l e ({ frames := 6, cells := 0, slots := 0, locals := 138 }) s m args below meth c H locs 0 0 (MQ below ((fb_ql G (S := Unit) (fun _ => (fb_MW cI h n d f o pf df tf uf 0 dy (nI w))) (fb_dg (fb_ep pf w) (fb_rg uf) (fb_rg df) (fb_rg tf) w dy) (fun _ => True)) A) args s 0 0 A) (F0 m 167 ls []) := by
                                        intro n9
                                        induction n9 with
                                        | zero => intro i h1 h2; exact absurd h2 (by omega)
                                        | succ n9 ih167 =>
                                          intro i hi_i hin9 H locs hP hD hS ls hl
                                          refine lv_iload hx hb dX2_digest_167 (lv_at hl 0 rfl) ?_
                                          refine lv_iconst (v := 4) hx hb dX2_digest_169 (by decide) ?_
                                          refine lv_icmp_ge (tgt := 194) hx hb dX2_digest_170 (by decide) (fun c170 => ?_) (fun c170 => ?_)
                                          · skip
                                            have hxi : i = 4 := fb_lp_ex (by decide) hi_i c170
                                            subst hxi
                                            refine lv_iinc (v := nI (k + 1)) (lv' := [(3, .int (nI (k + 1))), (4, .int (nI 4)), (1, .long (fb_fo (fb_tK (fb_ep pf w) (fb_rg uf) (fb_rg tf) k) (fb_fo (fb_tN (fb_ep pf w) (fb_rg uf) (fb_rg df) k) (fb_fo (fb_tI (fb_ep pf w) (fb_rg uf) k) (fb_fo (fb_tM (fb_ep pf w) (fb_rg uf) k) (fb_fo (fb_tF (fb_ep pf w) (fb_rg uf) w k) (fb_dk (fb_ep pf w) (fb_rg uf) (fb_rg df) (fb_rg tf) w (fb_fo (fb_tC (fb_ep pf w) (fb_rg uf) (fb_rg tf) w dy) (1697) 7) k) 5) 3) 2) 5) 4)), (0, .ref h)]) hx hb dX2_digest_194 hl (k := 2) rfl (show nI k + 1 = nI (k + 1) from nI_1 k) (by decide) rfl (fun ls hl => ?_)
                                            refine lv_goto (tgt := 38) hx hb dX2_digest_197 (by decide) ?_
                                            exact ih38 (k + 1) (by omega) (by omega) _ _ (hP) (hD) hS _ (lv_sub hl [0, 2, 3] (rfl))
                                          · skip
                                            have hi12 : i < 4 := fb_lp_in (by decide) hi_i c170
                                            refine lv_lload_n hx hb dX2_digest_173 rfl (lv_at hl 1 rfl) ?_
                                            refine lv_ldc2 (v := 31) hx hb hown (hts (.constantLong RX2 151 (31)) (by decide +kernel)) dX2_digest_174 ?_
                                            refine lv_lmul hx hb dX2_digest_177 ?_
                                            refine lv_aload_n hx hb dX2_digest_178 rfl (lv_at hl 3 rfl) ?_
                                            refine lv_iload_n hx hb dX2_digest_179 rfl (lv_at hl 2 rfl) ?_
                                            refine lv_iload hx hb dX2_digest_180 (lv_at hl 0 rfl) ?_
                                            refine fb_roV (As := [.int (nI k), .int (nI i)]) (rest := [.long ((fb_fo (fb_tK (fb_ep pf w) (fb_rg uf) (fb_rg tf) k) (fb_fo (fb_tN (fb_ep pf w) (fb_rg uf) (fb_rg df) k) (fb_fo (fb_tI (fb_ep pf w) (fb_rg uf) k) (fb_fo (fb_tM (fb_ep pf w) (fb_rg uf) k) (fb_fo (fb_tF (fb_ep pf w) (fb_rg uf) w k) (fb_dk (fb_ep pf w) (fb_rg uf) (fb_rg df) (fb_rg tf) w (fb_fo (fb_tC (fb_ep pf w) (fb_rg uf) (fb_rg tf) w dy) (1697) 7) k) 5) 3) 2) 5) i) * 31)]) (n := 2) ⟨hx, hb, hml, hown, hts⟩ (fb_c_X2_keyTold l G cI cL h n d f o pf df tf uf 0 dy w k i hk12 (by omega) hw) gX2_digest_X2_keyTold rfl (by decide +kernel) (by decide) (fb_PB.bl _ _ _ _) (va_recv hK hP (ci := 2) (q0 := 0) rfl rfl) (fb_PB.to hP hK (hXn _ _ hS)) rfl hl.1 rfl (Nat.le_of_ble_eq_true rfl) dX2_digest_182 (by decide) ?_
                                            refine lv_i2l (v := (fb_tK (fb_ep pf w) (fb_rg uf) (fb_rg tf) k i).toInt64) hx hb dX2_digest_185 rfl ?_
                                            refine lv_ladd hx hb dX2_digest_186 ?_
                                            refine lv_lstore_n (lv' := [(1, .long (((fb_fo (fb_tK (fb_ep pf w) (fb_rg uf) (fb_rg tf) k) (fb_fo (fb_tN (fb_ep pf w) (fb_rg uf) (fb_rg df) k) (fb_fo (fb_tI (fb_ep pf w) (fb_rg uf) k) (fb_fo (fb_tM (fb_ep pf w) (fb_rg uf) k) (fb_fo (fb_tF (fb_ep pf w) (fb_rg uf) w k) (fb_dk (fb_ep pf w) (fb_rg uf) (fb_rg df) (fb_rg tf) w (fb_fo (fb_tC (fb_ep pf w) (fb_rg uf) (fb_rg tf) w dy) (1697) 7) k) 5) 3) 2) 5) i) * 31) + ((fb_tK (fb_ep pf w) (fb_rg uf) (fb_rg tf) k i).toInt64))), (4, .int (nI i)), (3, .int (nI k)), (0, .ref h)]) hx hb dX2_digest_187 rfl hl (by decide) rfl (fun ls hl => ?_)
                                            refine lv_iinc (v := nI (i + 1)) (lv' := [(4, .int (nI (i + 1))), (1, .long (((fb_fo (fb_tK (fb_ep pf w) (fb_rg uf) (fb_rg tf) k) (fb_fo (fb_tN (fb_ep pf w) (fb_rg uf) (fb_rg df) k) (fb_fo (fb_tI (fb_ep pf w) (fb_rg uf) k) (fb_fo (fb_tM (fb_ep pf w) (fb_rg uf) k) (fb_fo (fb_tF (fb_ep pf w) (fb_rg uf) w k) (fb_dk (fb_ep pf w) (fb_rg uf) (fb_rg df) (fb_rg tf) w (fb_fo (fb_tC (fb_ep pf w) (fb_rg uf) (fb_rg tf) w dy) (1697) 7) k) 5) 3) 2) 5) i) * 31) + ((fb_tK (fb_ep pf w) (fb_rg uf) (fb_rg tf) k i).toInt64))), (3, .int (nI k)), (0, .ref h)]) hx hb dX2_digest_188 hl (k := 1) rfl (show nI i + 1 = nI (i + 1) from nI_1 i) (by decide) rfl (fun ls hl => ?_)
                                            refine lv_goto (tgt := 167) hx hb dX2_digest_191 (by decide) ?_
                                            exact ih167 (i + 1) (by omega) (by omega) _ _ (hP) (hD) hS _ (lv_sub hl [0, 1, 2, 3] (rfl))
                                      exact lp167 (4 + 1) 0 (by omega) (by omega) _ _ (hP) (hD) hS _ (lv_sub hl [0, 1, 2, 3] (rfl))
                                    · skip
                                      have hi12 : i < 5 := fb_lp_in (by decide) hi_i c140
                                      refine lv_lload_n hx hb dX2_digest_143 rfl (lv_at hl 1 rfl) ?_
                                      refine lv_ldc2 (v := 31) hx hb hown (hts (.constantLong RX2 151 (31)) (by decide +kernel)) dX2_digest_144 ?_
                                      refine lv_lmul hx hb dX2_digest_147 ?_
                                      refine lv_aload_n hx hb dX2_digest_148 rfl (lv_at hl 3 rfl) ?_
                                      refine lv_iload_n hx hb dX2_digest_149 rfl (lv_at hl 2 rfl) ?_
                                      refine lv_iload hx hb dX2_digest_150 (lv_at hl 0 rfl) ?_
                                      refine fb_roV (As := [.int (nI k), .int (nI i)]) (rest := [.long ((fb_fo (fb_tN (fb_ep pf w) (fb_rg uf) (fb_rg df) k) (fb_fo (fb_tI (fb_ep pf w) (fb_rg uf) k) (fb_fo (fb_tM (fb_ep pf w) (fb_rg uf) k) (fb_fo (fb_tF (fb_ep pf w) (fb_rg uf) w k) (fb_dk (fb_ep pf w) (fb_rg uf) (fb_rg df) (fb_rg tf) w (fb_fo (fb_tC (fb_ep pf w) (fb_rg uf) (fb_rg tf) w dy) (1697) 7) k) 5) 3) 2) i) * 31)]) (n := 2) ⟨hx, hb, hml, hown, hts⟩ (fb_c_X2_noteTold l G cI cL h n d f o pf df tf uf 0 dy w k i hk12 (by omega) hw) gX2_digest_X2_noteTold rfl (by decide +kernel) (by decide) (fb_PB.bl _ _ _ _) (va_recv hK hP (ci := 2) (q0 := 0) rfl rfl) (fb_PB.to hP hK (hXn _ _ hS)) rfl hl.1 rfl (Nat.le_of_ble_eq_true rfl) dX2_digest_152 (by decide) ?_
                                      refine lv_i2l (v := (fb_tN (fb_ep pf w) (fb_rg uf) (fb_rg df) k i).toInt64) hx hb dX2_digest_155 rfl ?_
                                      refine lv_ladd hx hb dX2_digest_156 ?_
                                      refine lv_lstore_n (lv' := [(1, .long (((fb_fo (fb_tN (fb_ep pf w) (fb_rg uf) (fb_rg df) k) (fb_fo (fb_tI (fb_ep pf w) (fb_rg uf) k) (fb_fo (fb_tM (fb_ep pf w) (fb_rg uf) k) (fb_fo (fb_tF (fb_ep pf w) (fb_rg uf) w k) (fb_dk (fb_ep pf w) (fb_rg uf) (fb_rg df) (fb_rg tf) w (fb_fo (fb_tC (fb_ep pf w) (fb_rg uf) (fb_rg tf) w dy) (1697) 7) k) 5) 3) 2) i) * 31) + ((fb_tN (fb_ep pf w) (fb_rg uf) (fb_rg df) k i).toInt64))), (4, .int (nI i)), (3, .int (nI k)), (0, .ref h)]) hx hb dX2_digest_157 rfl hl (by decide) rfl (fun ls hl => ?_)
                                      refine lv_iinc (v := nI (i + 1)) (lv' := [(4, .int (nI (i + 1))), (1, .long (((fb_fo (fb_tN (fb_ep pf w) (fb_rg uf) (fb_rg df) k) (fb_fo (fb_tI (fb_ep pf w) (fb_rg uf) k) (fb_fo (fb_tM (fb_ep pf w) (fb_rg uf) k) (fb_fo (fb_tF (fb_ep pf w) (fb_rg uf) w k) (fb_dk (fb_ep pf w) (fb_rg uf) (fb_rg df) (fb_rg tf) w (fb_fo (fb_tC (fb_ep pf w) (fb_rg uf) (fb_rg tf) w dy) (1697) 7) k) 5) 3) 2) i) * 31) + ((fb_tN (fb_ep pf w) (fb_rg uf) (fb_rg df) k i).toInt64))), (3, .int (nI k)), (0, .ref h)]) hx hb dX2_digest_158 hl (k := 1) rfl (show nI i + 1 = nI (i + 1) from nI_1 i) (by decide) rfl (fun ls hl => ?_)
                                      refine lv_goto (tgt := 137) hx hb dX2_digest_161 (by decide) ?_
                                      exact ih137 (i + 1) (by omega) (by omega) _ _ (hP) (hD) hS _ (lv_sub hl [0, 1, 2, 3] (rfl))
                                exact lp137 (5 + 1) 0 (by omega) (by omega) _ _ (hP) (hD) hS _ (lv_sub hl [0, 1, 2, 3] (rfl))
                              · skip
                                have hi12 : i < 2 := fb_lp_in (by decide) hi_i c110
                                refine lv_lload_n hx hb dX2_digest_113 rfl (lv_at hl 1 rfl) ?_
                                refine lv_ldc2 (v := 31) hx hb hown (hts (.constantLong RX2 151 (31)) (by decide +kernel)) dX2_digest_114 ?_
                                refine lv_lmul hx hb dX2_digest_117 ?_
                                refine lv_aload_n hx hb dX2_digest_118 rfl (lv_at hl 3 rfl) ?_
                                refine lv_iload_n hx hb dX2_digest_119 rfl (lv_at hl 2 rfl) ?_
                                refine lv_iload hx hb dX2_digest_120 (lv_at hl 0 rfl) ?_
                                refine fb_roV (As := [.int (nI k), .int (nI i)]) (rest := [.long ((fb_fo (fb_tI (fb_ep pf w) (fb_rg uf) k) (fb_fo (fb_tM (fb_ep pf w) (fb_rg uf) k) (fb_fo (fb_tF (fb_ep pf w) (fb_rg uf) w k) (fb_dk (fb_ep pf w) (fb_rg uf) (fb_rg df) (fb_rg tf) w (fb_fo (fb_tC (fb_ep pf w) (fb_rg uf) (fb_rg tf) w dy) (1697) 7) k) 5) 3) i) * 31)]) (n := 2) ⟨hx, hb, hml, hown, hts⟩ (fb_c_X2_minorTold l G cI cL h n d f o pf df tf uf 0 dy w k i hk12 (by omega) hw) gX2_digest_X2_minorTold rfl (by decide +kernel) (by decide) (fb_PB.bl _ _ _ _) (va_recv hK hP (ci := 2) (q0 := 0) rfl rfl) (fb_PB.to hP hK (hXn _ _ hS)) rfl hl.1 rfl (Nat.le_of_ble_eq_true rfl) dX2_digest_122 (by decide) ?_
                                refine lv_i2l (v := (fb_tI (fb_ep pf w) (fb_rg uf) k i).toInt64) hx hb dX2_digest_125 rfl ?_
                                refine lv_ladd hx hb dX2_digest_126 ?_
                                refine lv_lstore_n (lv' := [(1, .long (((fb_fo (fb_tI (fb_ep pf w) (fb_rg uf) k) (fb_fo (fb_tM (fb_ep pf w) (fb_rg uf) k) (fb_fo (fb_tF (fb_ep pf w) (fb_rg uf) w k) (fb_dk (fb_ep pf w) (fb_rg uf) (fb_rg df) (fb_rg tf) w (fb_fo (fb_tC (fb_ep pf w) (fb_rg uf) (fb_rg tf) w dy) (1697) 7) k) 5) 3) i) * 31) + ((fb_tI (fb_ep pf w) (fb_rg uf) k i).toInt64))), (4, .int (nI i)), (3, .int (nI k)), (0, .ref h)]) hx hb dX2_digest_127 rfl hl (by decide) rfl (fun ls hl => ?_)
                                refine lv_iinc (v := nI (i + 1)) (lv' := [(4, .int (nI (i + 1))), (1, .long (((fb_fo (fb_tI (fb_ep pf w) (fb_rg uf) k) (fb_fo (fb_tM (fb_ep pf w) (fb_rg uf) k) (fb_fo (fb_tF (fb_ep pf w) (fb_rg uf) w k) (fb_dk (fb_ep pf w) (fb_rg uf) (fb_rg df) (fb_rg tf) w (fb_fo (fb_tC (fb_ep pf w) (fb_rg uf) (fb_rg tf) w dy) (1697) 7) k) 5) 3) i) * 31) + ((fb_tI (fb_ep pf w) (fb_rg uf) k i).toInt64))), (3, .int (nI k)), (0, .ref h)]) hx hb dX2_digest_128 hl (k := 1) rfl (show nI i + 1 = nI (i + 1) from nI_1 i) (by decide) rfl (fun ls hl => ?_)
                                refine lv_goto (tgt := 107) hx hb dX2_digest_131 (by decide) ?_
                                exact ih107 (i + 1) (by omega) (by omega) _ _ (hP) (hD) hS _ (lv_sub hl [0, 1, 2, 3] (rfl))
                          exact lp107 (2 + 1) 0 (by omega) (by omega) _ _ (hP) (hD) hS _ (lv_sub hl [0, 1, 2, 3] (rfl))
                        · skip
                          have hi12 : i < 3 := fb_lp_in (by decide) hi_i c80
                          refine lv_lload_n hx hb dX2_digest_83 rfl (lv_at hl 1 rfl) ?_
                          refine lv_ldc2 (v := 31) hx hb hown (hts (.constantLong RX2 151 (31)) (by decide +kernel)) dX2_digest_84 ?_
                          refine lv_lmul hx hb dX2_digest_87 ?_
                          refine lv_aload_n hx hb dX2_digest_88 rfl (lv_at hl 3 rfl) ?_
                          refine lv_iload_n hx hb dX2_digest_89 rfl (lv_at hl 2 rfl) ?_
                          refine lv_iload hx hb dX2_digest_90 (lv_at hl 0 rfl) ?_
                          refine fb_roV (As := [.int (nI k), .int (nI i)]) (rest := [.long ((fb_fo (fb_tM (fb_ep pf w) (fb_rg uf) k) (fb_fo (fb_tF (fb_ep pf w) (fb_rg uf) w k) (fb_dk (fb_ep pf w) (fb_rg uf) (fb_rg df) (fb_rg tf) w (fb_fo (fb_tC (fb_ep pf w) (fb_rg uf) (fb_rg tf) w dy) (1697) 7) k) 5) i) * 31)]) (n := 2) ⟨hx, hb, hml, hown, hts⟩ (fb_c_X2_majorTold l G cI cL h n d f o pf df tf uf 0 dy w k i hk12 (by omega) hw) gX2_digest_X2_majorTold rfl (by decide +kernel) (by decide) (fb_PB.bl _ _ _ _) (va_recv hK hP (ci := 2) (q0 := 0) rfl rfl) (fb_PB.to hP hK (hXn _ _ hS)) rfl hl.1 rfl (Nat.le_of_ble_eq_true rfl) dX2_digest_92 (by decide) ?_
                          refine lv_i2l (v := (fb_tM (fb_ep pf w) (fb_rg uf) k i).toInt64) hx hb dX2_digest_95 rfl ?_
                          refine lv_ladd hx hb dX2_digest_96 ?_
                          refine lv_lstore_n (lv' := [(1, .long (((fb_fo (fb_tM (fb_ep pf w) (fb_rg uf) k) (fb_fo (fb_tF (fb_ep pf w) (fb_rg uf) w k) (fb_dk (fb_ep pf w) (fb_rg uf) (fb_rg df) (fb_rg tf) w (fb_fo (fb_tC (fb_ep pf w) (fb_rg uf) (fb_rg tf) w dy) (1697) 7) k) 5) i) * 31) + ((fb_tM (fb_ep pf w) (fb_rg uf) k i).toInt64))), (4, .int (nI i)), (3, .int (nI k)), (0, .ref h)]) hx hb dX2_digest_97 rfl hl (by decide) rfl (fun ls hl => ?_)
                          refine lv_iinc (v := nI (i + 1)) (lv' := [(4, .int (nI (i + 1))), (1, .long (((fb_fo (fb_tM (fb_ep pf w) (fb_rg uf) k) (fb_fo (fb_tF (fb_ep pf w) (fb_rg uf) w k) (fb_dk (fb_ep pf w) (fb_rg uf) (fb_rg df) (fb_rg tf) w (fb_fo (fb_tC (fb_ep pf w) (fb_rg uf) (fb_rg tf) w dy) (1697) 7) k) 5) i) * 31) + ((fb_tM (fb_ep pf w) (fb_rg uf) k i).toInt64))), (3, .int (nI k)), (0, .ref h)]) hx hb dX2_digest_98 hl (k := 1) rfl (show nI i + 1 = nI (i + 1) from nI_1 i) (by decide) rfl (fun ls hl => ?_)
                          refine lv_goto (tgt := 77) hx hb dX2_digest_101 (by decide) ?_
                          exact ih77 (i + 1) (by omega) (by omega) _ _ (hP) (hD) hS _ (lv_sub hl [0, 1, 2, 3] (rfl))
                    exact lp77 (3 + 1) 0 (by omega) (by omega) _ _ (hP) (hD) hS _ (lv_sub hl [0, 1, 2, 3] (rfl))
                  · skip
                    have hi12 : i < 5 := fb_lp_in (by decide) hi_i c50
                    refine lv_lload_n hx hb dX2_digest_53 rfl (lv_at hl 1 rfl) ?_
                    refine lv_ldc2 (v := 31) hx hb hown (hts (.constantLong RX2 151 (31)) (by decide +kernel)) dX2_digest_54 ?_
                    refine lv_lmul hx hb dX2_digest_57 ?_
                    refine lv_aload_n hx hb dX2_digest_58 rfl (lv_at hl 3 rfl) ?_
                    refine lv_iload_n hx hb dX2_digest_59 rfl (lv_at hl 2 rfl) ?_
                    refine lv_iload hx hb dX2_digest_60 (lv_at hl 0 rfl) ?_
                    refine fb_roV (As := [.int (nI k), .int (nI i)]) (rest := [.long ((fb_fo (fb_tF (fb_ep pf w) (fb_rg uf) w k) (fb_dk (fb_ep pf w) (fb_rg uf) (fb_rg df) (fb_rg tf) w (fb_fo (fb_tC (fb_ep pf w) (fb_rg uf) (fb_rg tf) w dy) (1697) 7) k) i) * 31)]) (n := 2) ⟨hx, hb, hml, hown, hts⟩ (fb_c_X2_fifthTold l G cI cL h n d f o pf df tf uf 0 dy w k i hk12 (by omega) hw) gX2_digest_X2_fifthTold rfl (by decide +kernel) (by decide) (fb_PB.bl _ _ _ _) (va_recv hK hP (ci := 2) (q0 := 0) rfl rfl) (fb_PB.to hP hK (hXn _ _ hS)) rfl hl.1 rfl (Nat.le_of_ble_eq_true rfl) dX2_digest_62 (by decide) ?_
                    refine lv_i2l (v := (fb_tF (fb_ep pf w) (fb_rg uf) w k i).toInt64) hx hb dX2_digest_65 rfl ?_
                    refine lv_ladd hx hb dX2_digest_66 ?_
                    refine lv_lstore_n (lv' := [(1, .long (((fb_fo (fb_tF (fb_ep pf w) (fb_rg uf) w k) (fb_dk (fb_ep pf w) (fb_rg uf) (fb_rg df) (fb_rg tf) w (fb_fo (fb_tC (fb_ep pf w) (fb_rg uf) (fb_rg tf) w dy) (1697) 7) k) i) * 31) + ((fb_tF (fb_ep pf w) (fb_rg uf) w k i).toInt64))), (4, .int (nI i)), (3, .int (nI k)), (0, .ref h)]) hx hb dX2_digest_67 rfl hl (by decide) rfl (fun ls hl => ?_)
                    refine lv_iinc (v := nI (i + 1)) (lv' := [(4, .int (nI (i + 1))), (1, .long (((fb_fo (fb_tF (fb_ep pf w) (fb_rg uf) w k) (fb_dk (fb_ep pf w) (fb_rg uf) (fb_rg df) (fb_rg tf) w (fb_fo (fb_tC (fb_ep pf w) (fb_rg uf) (fb_rg tf) w dy) (1697) 7) k) i) * 31) + ((fb_tF (fb_ep pf w) (fb_rg uf) w k i).toInt64))), (3, .int (nI k)), (0, .ref h)]) hx hb dX2_digest_68 hl (k := 1) rfl (show nI i + 1 = nI (i + 1) from nI_1 i) (by decide) rfl (fun ls hl => ?_)
                    refine lv_goto (tgt := 47) hx hb dX2_digest_71 (by decide) ?_
                    exact ih47 (i + 1) (by omega) (by omega) _ _ (hP) (hD) hS _ (lv_sub hl [0, 1, 2, 3] (rfl))
              exact lp47 (5 + 1) 0 (by omega) (by omega) _ _ (hP) (hD) hS _ (lv_sub hl [0, 2, 1, 3] (rfl))
        exact lp38 (12 + 1) 0 (by omega) (by omega) _ _ (hP) (hD) hS _ (lv_sub hl [0, 1, 2] (rfl))
      · skip
        have hi12 : i < 7 := fb_lp_in (by decide) hi_i c14
        refine lv_lload_n hx hb dX2_digest_17 rfl (lv_at hl 1 rfl) ?_
        refine lv_ldc2 (v := 31) hx hb hown (hts (.constantLong RX2 151 (31)) (by decide +kernel)) dX2_digest_18 ?_
        refine lv_lmul hx hb dX2_digest_21 ?_
        refine lv_aload_n hx hb dX2_digest_22 rfl (lv_at hl 2 rfl) ?_
        refine lv_iload_n hx hb dX2_digest_23 rfl (lv_at hl 0 rfl) ?_
        refine fb_roV (As := [.int (nI i)]) (rest := [.long ((fb_fo (fb_tC (fb_ep pf w) (fb_rg uf) (fb_rg tf) w dy) (1697) i) * 31)]) (n := 1) ⟨hx, hb, hml, hown, hts⟩ (fb_c_X2_counted l G cI cL h n d f o pf df tf uf 0 dy w i (by omega) hw) gX2_digest_X2_counted rfl (by decide +kernel) (by decide) (fb_PB.bl _ _ _ _) (va_recv hK hP (ci := 2) (q0 := 0) rfl rfl) (fb_PB.to hP hK (hXn _ _ hS)) rfl hl.1 rfl (Nat.le_of_ble_eq_true rfl) dX2_digest_24 (by decide) ?_
        refine lv_i2l (v := (fb_tC (fb_ep pf w) (fb_rg uf) (fb_rg tf) w dy i).toInt64) hx hb dX2_digest_27 rfl ?_
        refine lv_ladd hx hb dX2_digest_28 ?_
        refine lv_lstore_n (lv' := [(1, .long (((fb_fo (fb_tC (fb_ep pf w) (fb_rg uf) (fb_rg tf) w dy) (1697) i) * 31) + ((fb_tC (fb_ep pf w) (fb_rg uf) (fb_rg tf) w dy i).toInt64))), (3, .int (nI i)), (0, .ref h)]) hx hb dX2_digest_29 rfl hl (by decide) rfl (fun ls hl => ?_)
        refine lv_iinc (v := nI (i + 1)) (lv' := [(3, .int (nI (i + 1))), (1, .long (((fb_fo (fb_tC (fb_ep pf w) (fb_rg uf) (fb_rg tf) w dy) (1697) i) * 31) + ((fb_tC (fb_ep pf w) (fb_rg uf) (fb_rg tf) w dy i).toInt64))), (0, .ref h)]) hx hb dX2_digest_30 hl (k := 1) rfl (show nI i + 1 = nI (i + 1) from nI_1 i) (by decide) rfl (fun ls hl => ?_)
        refine lv_goto (tgt := 11) hx hb dX2_digest_33 (by decide) ?_
        exact ih11 (i + 1) (by omega) (by omega) _ _ (hP) (hD) hS _ (lv_sub hl [0, 1, 2] (rfl))
  exact lp11 (7 + 1) 0 (by omega) (by omega) _ _ (hP) (hD) hS _ (lv_sub hl [0, 1, 2] (rfl))
