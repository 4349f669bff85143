set_option maxRecDepth 100000 in
theorem fb_sx_start {s : State} {b : Nat} (hts : ∀ w ∈ lw_tbl, w.before #[Value.ref b] s = true) (hgv : (Jvm.Cond.and given_1 narrow_1).before #[Value.ref b] s = true) : fb_sx (fb_lA s) s s.heap := by
  have hs := flat_of_before _ hgv
  have qt1 : ∀ j : Nat, j < 12 → (Cond.eq (.elem (.static "FifthBeats" "SWINGS" "[I") (.int (Int32.ofNat j))) (.int (fb_swt j))) ∈ flatC (Jvm.Cond.and given_1 narrow_1) := by decide +kernel
  have qt2 : ∀ j : Nat, j < 12 → (Cond.eq (.elem (.static "FifthBeatsModel" "SWINGS" "[I") (.int (Int32.ofNat j))) (.int (fb_swt j))) ∈ flatC (Jvm.Cond.and given_1 narrow_1) := by decide +kernel
  obtain ⟨t1, et1, Tt1⟩ := va_Tof (args := #[Value.ref b]) (s := s) (tm := .static "FifthBeats" "SWINGS" "[I") (ty := .int) (N := 12) (f := fun j => .int (fb_swt j)) (A := fb_lA s) (by decide) (hs (.arrayOf (.static "FifthBeats" "SWINGS" "[I") .int) (by decide +kernel)) (va_eqt (hs (.eq (.length (.static "FifthBeats" "SWINGS" "[I")) (.int 12)) (by decide +kernel))) (fun j hj => va_eqt (hs _ (qt1 j hj))) (fun a h9 => Nat.not_le.mpr h9)
  obtain ⟨t2, et2, Tt2⟩ := va_Tof (args := #[Value.ref b]) (s := s) (tm := .static "FifthBeatsModel" "SWINGS" "[I") (ty := .int) (N := 12) (f := fun j => .int (fb_swt j)) (A := fb_lA s) (by decide) (hs (.arrayOf (.static "FifthBeatsModel" "SWINGS" "[I") .int) (by decide +kernel)) (va_eqt (hs (.eq (.length (.static "FifthBeatsModel" "SWINGS" "[I")) (.int 12)) (by decide +kernel))) (fun j hj => va_eqt (hs _ (qt2 j hj))) (fun a h9 => Nat.not_le.mpr h9)
  exact ⟨va_Nw.of rfl (hts (.fieldLinkNest RX0 62 "FifthBeats" "SWINGS" "[I" "FifthBeats") (by decide +kernel)), ⟨t1, va_Zof (hts (.laysStatic "FifthBeats" "SWINGS" "[I") (by decide +kernel)) (hts (.initialized "FifthBeats") (by decide +kernel)) et1 (fun a h9 => Nat.not_le.mpr h9), Tt1⟩, t2, va_Zof (hts (.laysStatic "FifthBeatsModel" "SWINGS" "[I") (by decide +kernel)) (hts (.initialized "FifthBeatsModel") (by decide +kernel)) et2 (fun a h9 => Nat.not_le.mpr h9), Tt2⟩
set_option maxRecDepth 100000 in
theorem fb_sr_of {s : State} {b k : Nat} {tx : String} (h1 : (Cond.stringRef RX1 k tx).before #[Value.ref b] s = true) (h2 : (Cond.exactly (.string RX1 k) "java/lang/String").before #[Value.ref b] s = true) : ∃ a : Nat, vk_R RX1 k tx a s := by
  obtain ⟨a, c, cA, kA, q1, -⟩ := Cond.exactly_spec (args := #[Value.ref b]) (first := s) (o := none) (s := s) (idx := []) (t := .string RX1 k) (cls := "java/lang/String") h2
  exact ⟨a, vk_R.of h1 q1⟩
set_option maxRecDepth 100000 in
theorem fb_xx_start {s : State} {b : Nat} (hts : ∀ w ∈ lw_tbl, w.before #[Value.ref b] s = true) (hgv : (Jvm.Cond.and given_1 narrow_1).before #[Value.ref b] s = true) : fb_xx (fb_lA s) s s.heap := by
  have hs := flat_of_before _ hgv
  have r1 : ∃ a : Nat, vk_R RX1 146 "not a number of the ring" a s := fb_sr_of (hts (.stringRef RX1 146 "not a number of the ring") (by decide +kernel)) (hs (.exactly (.string RX1 146) "java/lang/String") (by decide +kernel))
  have r2 : ∃ a : Nat, vk_R RX1 149 "nothing is told by this number" a s := fb_sr_of (hts (.stringRef RX1 149 "nothing is told by this number") (by decide +kernel)) (hs (.exactly (.string RX1 149) "java/lang/String") (by decide +kernel))
  have r3 : ∃ a : Nat, vk_R RX1 153 "the argument is too small or too great" a s := fb_sr_of (hts (.stringRef RX1 153 "the argument is too small or too great") (by decide +kernel)) (hs (.exactly (.string RX1 153) "java/lang/String") (by decide +kernel))
  have r4 : ∃ a : Nat, vk_R RX1 156 "this fifth is the wolf" a s := fb_sr_of (hts (.stringRef RX1 156 "this fifth is the wolf") (by decide +kernel)) (hs (.exactly (.string RX1 156) "java/lang/String") (by decide +kernel))
  have r5 : ∃ a : Nat, vk_R RX1 64 "the wolf is ahead of this note" a s := fb_sr_of (hts (.stringRef RX1 64 "the wolf is ahead of this note") (by decide +kernel)) (hs (.exactly (.string RX1 64) "java/lang/String") (by decide +kernel))
  have r6 : ∃ a : Nat, vk_R RX1 79 "the note would be off by too much" a s := fb_sr_of (hts (.stringRef RX1 79 "the note would be off by too much") (by decide +kernel)) (hs (.exactly (.string RX1 79) "java/lang/String") (by decide +kernel))
  have z1 : vx_Zq Bundle.tN "UNASSIGNED_STACK" Bundle.steD (fb_lA s) s s.heap := vx_Zqof (hts (.laysStatic Bundle.tN "UNASSIGNED_STACK" Bundle.steD) (by decide +kernel)) (hts (.initialized Bundle.tN) (by decide +kernel)) (hs (.isRef (.static Bundle.tN "UNASSIGNED_STACK" Bundle.steD)) (by decide +kernel)) (fun a h9 => Nat.not_le.mpr h9)
  have z2 : vx_Zq Bundle.tN "SUPPRESSED_SENTINEL" Bundle.listD (fb_lA s) s s.heap := vx_Zqof (hts (.laysStatic Bundle.tN "SUPPRESSED_SENTINEL" Bundle.listD) (by decide +kernel)) (hts (.initialized Bundle.tN) (by decide +kernel)) (hs (.isRef (.static Bundle.tN "SUPPRESSED_SENTINEL" Bundle.listD)) (by decide +kernel)) (fun a h9 => Nat.not_le.mpr h9)
  exact ⟨⟨z1, z2⟩, ⟨r1, r2, r3, r4, r5, r6⟩, ⟨va_Nw.of rfl (hts (.castable fb_E1 fb_E1) (by decide +kernel)), va_Nw.of rfl (hts (.castable fb_E2 fb_E2) (by decide +kernel)), va_Nw.of rfl (hts (.castable fb_E3 fb_E3) (by decide +kernel))⟩, ⟨va_Nc.of (hs (.not (.castable fb_E1 fb_E2)) (by decide +kernel)), va_Nc.of (hs (.not (.castable fb_E2 fb_E1)) (by decide +kernel)), va_Nc.of (hs (.not (.castable fb_E3 fb_E1)) (by decide +kernel)), va_Nc.of (hs (.not (.castable fb_E3 fb_E2)) (by decide +kernel))⟩, va_Nw.of rfl (hts (.declares (Bundle.initS "java/lang/RuntimeException")) (by decide +kernel)), va_Nw.of rfl (hts (.declares (Bundle.initS "java/lang/Exception")) (by decide +kernel)), va_Nw.of rfl (hts (.declares (Bundle.initS "java/lang/Throwable")) (by decide +kernel))⟩
theorem fb_I0 : fb_Iv (upd fb_z 11 24) fb_z fb_z (fb_on 12) 11 fb_z fb_z fb_o12 fb_z := by
  have h0 : (0 : Int32).toInt = 0 := by decide
  refine ⟨by decide, fb_start_ep, rfl, rfl, fb_o12_on, fun k _ _ => ?_, fun k _ => ?_, ?_⟩
  · show -10 ≤ (0 : Int32).toInt ∧ (0 : Int32).toInt ≤ 20
    omega
  · show -50 ≤ (0 : Int32).toInt ∧ (0 : Int32).toInt ≤ 50
    omega
  · show ∀ k, k < 12 → 0 ≤ (fb_on 12 k).toInt ∧ (fb_on 12 k).toInt ≤ 9
    decide +kernel
set_option maxHeartbeats 4000000 in
set_option maxRecDepth 100000 in
/-- the law, from its entry -/
theorem whole_start {p : Program} {e : Env} {s : State} {m : MethodId} {below : List Frame} {meth : Method} {c : Code} (l : Launch) (hflags : l.flags = flags0) {b L : Nat} {xs : Nat → Int32} (hL : L ≤ 1536) (C0 : lw_At p s m meth c b L xs) : W p l e room_1 s m #[Value.ref b] below meth c s.heap [] 0 0 (lw_Z below #[Value.ref b] s) (entryFrame m ([Value.ref b] : List Value).toArray 9) := by
  have hst9 : l.stackTraces = false := by
    unfold Launch.stackTraces
    rw [hflags]
    decide
  obtain ⟨hx, hb, hr, hml, hown, hts0, hXs, hbl, hlk, hgv⟩ := C0
  have hown : s.vm.findClass RL = some m.cls := hown
  have hts : ∀ w ∈ wsL_law, w.before #[Value.ref b] s = true := fun w hw => hts0 w (wsL_law_in w hw)
  have hX : fb_sx (fb_lA s) s s.heap := fb_sx_start hts0 hgv
  have hE : fb_xx (fb_lA s) s s.heap := fb_xx_start hts0 hgv
  obtain ⟨c0, i0, k0⟩ := u_known (C := RX0) (T := TX0) (N := 6) (n := 6) hts inlX0 (hts (.instantiable RX0 6) (by decide +kernel))
  obtain ⟨c1, i1, k1⟩ := u_known (C := RX1) (T := TX1) (N := 2) (n := 2) hts inlX1 (hts (.instantiable RX1 2) (by decide +kernel))
  obtain ⟨c2, i2, k2⟩ := u_known (C := RX2) (T := TX2) (N := 7) (n := 7) hts inlX2 (hts (.instantiable RX2 7) (by decide +kernel))
  obtain ⟨dC, dI, hKc⟩ : ∃ (dC : Nat → ClassId) (dI : Nat → Nat → Nat), ∀ (k : Nat) (q : vw_C), vwCl[k]? = some q → u_Kn s q.1 q.2.1 q.2.2 (dC k) (dI k) := by
    refine ⟨fun k => if k = 0 then c0 else if k = 1 then c1 else c2, fun k => if k = 0 then i0 else if k = 1 then i1 else i2, ?_⟩
    intro k q hq
    match k, hq with
    | 0, hq => cases hq; exact k0
    | 1, hq => cases hq; exact k1
    | 2, hq => cases hq; exact k2
    | k + 3, hq => simp [vwCl] at hq
  obtain ⟨cI, kI, pI, a1, a2, a3⟩ := Cond.arrayClass_spec (hts (.arrayClass .int) (by decide +kernel))
  obtain ⟨cL, kL, pL, b1, b2, b3⟩ := Cond.arrayClass_spec (hts (.arrayClass .long) (by decide +kernel))
  have hK : va_K (dC, dI) vwCl (fb_ty cI cL) s := ⟨hKc, fun k q h => by
    match k, h with
    | 0, h => cases h; exact ⟨fun n z => ⟨fun k h => (by cases h), kI, a2, pI, a3⟩, a1⟩
    | 1, h => cases h; exact ⟨fun n z => ⟨fun k h => (by cases h), kL, b2, pL, b3⟩, b1⟩
    | k + 2, h => simp [fb_ty] at h⟩
  have hA : ∀ q, s.heap.size ≤ q → fb_lA s q := fun _ h => h
  have hS : va_S (fb_lA s) s.heap s.heap [] := va_S.rf
  have hP : va_P (dC, dI) vwCl [] s.heap := fun k q h => by simp at h
  have hD : va_D (fb_lA s) [] := ⟨fun i j p q h => by simp at h, fun k q h => by simp at h⟩
  have hl := lv_entry ([.ref b]) (n := 9) (Nat.le_of_ble_eq_true rfl)
  rw [lg_entry_eq]
  generalize (lg_sl ([.ref b]) ++ List.replicate (9 - (lg_sl ([.ref b])).length) Slot.unset).toArray = ls at hl ⊢
  have hl : lv_has ls 9 [(0, .ref b)] := hl
  refine va_new (ci := 1) (fs := [.null, .null]) (C := RX1) (T := TX1) (N := 2) hx hb hts inlX1 tyX1 tyX1_ok hown (hts (.classLink RL 8 RX1) (by decide +kernel)) (hts (.instantiable RX1 2) (by decide +kernel)) (hts (.initialized RX1) (by decide +kernel)) hK hP hD hS hA rfl (fun j hj => by rcases (show j = 0 ∨ j = 1 by omega) with rfl | rfl <;> rfl) (Nat.le_of_ble_eq_true rfl) (Nat.le_of_ble_eq_true rfl) dL_law_0 (fun x H hP hD hS => ?_)
  have hP : va_P (dC, dI) vwCl [(x, .inr (1, [.null, .null]))] H := hP
  have hD : va_D (fb_lA s) [(x, .inr (1, [.null, .null]))] := hD
  refine W.widen (k := 1) (n := 2) (by omega) (by omega) ?_
  refine lv_dup hx hb dL_law_3 rfl ?_
  refine fb_gvI (As := []) (rest := [.ref x]) (n := 0) (wr := []) (wz := fun u => [(x, .inr (1, [.ref u.1.1, .ref u.2.1])), (u.1.1, .inr (0, [.ref u.1.2.1, .ref u.1.2.2.1, .ref u.1.2.2.2.1, .ref u.1.2.2.2.2, .int (nI 11), .int 0])), (u.1.2.1, .inl (cI, 12, .inl (upd fb_z 11 24))), (u.1.2.2.1, .inl (cI, 12, .inl fb_z)), (u.1.2.2.2.1, .inl (cI, 12, .inl fb_z)), (u.1.2.2.2.2, .inl (cI, 12, .inl (fb_on 12))), (u.2.1, .inr (0, [.ref u.2.2.1, .ref u.2.2.2.1, .ref u.2.2.2.2.1, .ref u.2.2.2.2.2, .int (nI 11), .int 0])), (u.2.2.1, .inl (cI, 12, .inl (upd fb_z 11 24))), (u.2.2.2.1, .inl (cI, 12, .inl fb_z)), (u.2.2.2.2.1, .inl (cI, 12, .inl fb_z)), (u.2.2.2.2.2, .inl (cI, 12, .inl (fb_on 12)))]) ⟨hx, hb, hml, hown, hts⟩ (fb_c_X1_init l (dC, dI) cI cL x _) (cwI 0 hts gL_law_X1_init rfl rfl rfl (hts (.initialized RX1) (by decide +kernel)) (hts (.methodLink RL 68 yX1_init) (by decide +kernel)) (hts (.instanceMethod yX1_init) (by decide +kernel)) rfl (by decide +kernel) ⟨Nat.le_of_ble_eq_true rfl, Nat.le_of_ble_eq_true rfl⟩) hP hK hD hS hA hX [0] [] [0, 1, 2, 3, 4, 5, 6, 7, 8, 9, 10] rfl rfl (fun _ => rfl) rfl rfl rfl (by decide) rfl hl.1 rfl (Nat.le_of_ble_eq_true rfl) dL_law_4 ⟨Nat.le_of_ble_eq_true rfl, Nat.le_of_ble_eq_true rfl⟩ (fun u H locs hpp hP hD hS => ?_)
  obtain ⟨⟨h, n, o, d, f⟩, h2, n2, o2, d2, f2⟩ := u
  have hP : va_P (dC, dI) vwCl [(x, .inr (1, [.ref h, .ref h2])), (h, .inr (0, [.ref n, .ref o, .ref d, .ref f, .int (nI 11), .int 0])), (n, .inl (cI, 12, .inl (upd fb_z 11 24))), (o, .inl (cI, 12, .inl fb_z)), (d, .inl (cI, 12, .inl fb_z)), (f, .inl (cI, 12, .inl (fb_on 12))), (h2, .inr (0, [.ref n2, .ref o2, .ref d2, .ref f2, .int (nI 11), .int 0])), (n2, .inl (cI, 12, .inl (upd fb_z 11 24))), (o2, .inl (cI, 12, .inl fb_z)), (d2, .inl (cI, 12, .inl fb_z)), (f2, .inl (cI, 12, .inl (fb_on 12)))] H := hP
  have hD : va_D (fb_lA s) [(x, .inr (1, [.ref h, .ref h2])), (h, .inr (0, [.ref n, .ref o, .ref d, .ref f, .int (nI 11), .int 0])), (n, .inl (cI, 12, .inl (upd fb_z 11 24))), (o, .inl (cI, 12, .inl fb_z)), (d, .inl (cI, 12, .inl fb_z)), (f, .inl (cI, 12, .inl (fb_on 12))), (h2, .inr (0, [.ref n2, .ref o2, .ref d2, .ref f2, .int (nI 11), .int 0])), (n2, .inl (cI, 12, .inl (upd fb_z 11 24))), (o2, .inl (cI, 12, .inl fb_z)), (d2, .inl (cI, 12, .inl fb_z)), (f2, .inl (cI, 12, .inl (fb_on 12)))] := hD
  refine W.widen (k := 11) (n := 110) (by omega) (by omega) ?_
  refine lv_astore_n (lv' := [(1, .ref x), (0, .ref b)]) hx hb dL_law_7 rfl hl (by decide) rfl (fun ls hl => ?_)
  refine va_new (ci := 2) (fs := [.int 0, .int 0, .int 0, .null, .null, .null, .null]) (C := RX2) (T := TX2) (N := 7) hx hb hts inlX2 tyX2 tyX2_ok hown (hts (.classLink RL 69 RX2) (by decide +kernel)) (hts (.instantiable RX2 7) (by decide +kernel)) (hts (.initialized RX2) (by decide +kernel)) hK hP hD hS hA rfl (fun j hj => by rcases (show j = 0 ∨ j = 1 ∨ j = 2 ∨ j = 3 ∨ j = 4 ∨ j = 5 ∨ j = 6 by omega) with rfl | rfl | rfl | rfl | rfl | rfl | rfl <;> rfl) (Nat.le_of_ble_eq_true rfl) (Nat.le_of_ble_eq_true rfl) dL_law_8 (fun y H hP hD hS => ?_)
  have hP : va_P (dC, dI) vwCl [(x, .inr (1, [.ref h, .ref h2])), (h, .inr (0, [.ref n, .ref o, .ref d, .ref f, .int (nI 11), .int 0])), (n, .inl (cI, 12, .inl (upd fb_z 11 24))), (o, .inl (cI, 12, .inl fb_z)), (d, .inl (cI, 12, .inl fb_z)), (f, .inl (cI, 12, .inl (fb_on 12))), (h2, .inr (0, [.ref n2, .ref o2, .ref d2, .ref f2, .int (nI 11), .int 0])), (n2, .inl (cI, 12, .inl (upd fb_z 11 24))), (o2, .inl (cI, 12, .inl fb_z)), (d2, .inl (cI, 12, .inl fb_z)), (f2, .inl (cI, 12, .inl (fb_on 12))), (y, .inr (2, [.int 0, .int 0, .int 0, .null, .null, .null, .null]))] H := hP
  have hD : va_D (fb_lA s) [(x, .inr (1, [.ref h, .ref h2])), (h, .inr (0, [.ref n, .ref o, .ref d, .ref f, .int (nI 11), .int 0])), (n, .inl (cI, 12, .inl (upd fb_z 11 24))), (o, .inl (cI, 12, .inl fb_z)), (d, .inl (cI, 12, .inl fb_z)), (f, .inl (cI, 12, .inl (fb_on 12))), (h2, .inr (0, [.ref n2, .ref o2, .ref d2, .ref f2, .int (nI 11), .int 0])), (n2, .inl (cI, 12, .inl (upd fb_z 11 24))), (o2, .inl (cI, 12, .inl fb_z)), (d2, .inl (cI, 12, .inl fb_z)), (f2, .inl (cI, 12, .inl (fb_on 12))), (y, .inr (2, [.int 0, .int 0, .int 0, .null, .null, .null, .null]))] := hD
  refine W.widen (k := 12) (n := 117) (by omega) (by omega) ?_
  refine lv_dup hx hb dL_law_11 rfl ?_
  refine fb_gvI (As := []) (rest := [.ref y]) (n := 0) (wr := [(x, .inr (1, [.ref h, .ref h2])), (h, .inr (0, [.ref n, .ref o, .ref d, .ref f, .int (nI 11), .int 0])), (n, .inl (cI, 12, .inl (upd fb_z 11 24))), (o, .inl (cI, 12, .inl fb_z)), (d, .inl (cI, 12, .inl fb_z)), (f, .inl (cI, 12, .inl (fb_on 12))), (h2, .inr (0, [.ref n2, .ref o2, .ref d2, .ref f2, .int (nI 11), .int 0])), (n2, .inl (cI, 12, .inl (upd fb_z 11 24))), (o2, .inl (cI, 12, .inl fb_z)), (d2, .inl (cI, 12, .inl fb_z)), (f2, .inl (cI, 12, .inl (fb_on 12)))]) (wz := fun u => [(x, .inr (1, [.ref h, .ref h2])), (h, .inr (0, [.ref n, .ref o, .ref d, .ref f, .int (nI 11), .int 0])), (n, .inl (cI, 12, .inl (upd fb_z 11 24))), (o, .inl (cI, 12, .inl fb_z)), (d, .inl (cI, 12, .inl fb_z)), (f, .inl (cI, 12, .inl (fb_on 12))), (h2, .inr (0, [.ref n2, .ref o2, .ref d2, .ref f2, .int (nI 11), .int 0])), (n2, .inl (cI, 12, .inl (upd fb_z 11 24))), (o2, .inl (cI, 12, .inl fb_z)), (d2, .inl (cI, 12, .inl fb_z)), (f2, .inl (cI, 12, .inl (fb_on 12))), (y, .inr (2, [.int 0, .int 0, .int (nI 11), .ref u.1, .ref u.2.1, .ref u.2.2.1, .ref u.2.2.2])), (u.1, .inl (cI, 12, .inl fb_z)), (u.2.1, .inl (cI, 12, .inl fb_z)), (u.2.2.1, .inl (cI, 12, .inl fb_o12)), (u.2.2.2, .inl (cI, 12, .inl fb_z))]) ⟨hx, hb, hml, hown, hts⟩ (fb_c_X2_init l (dC, dI) cI cL y _) (cwI 0 hts gL_law_X2_init rfl rfl rfl (hts (.initialized RX2) (by decide +kernel)) (hts (.methodLink RL 71 yX2_init) (by decide +kernel)) (hts (.instanceMethod yX2_init) (by decide +kernel)) rfl (by decide +kernel) ⟨Nat.le_of_ble_eq_true rfl, Nat.le_of_ble_eq_true rfl⟩) hP hK hD hS hA hX [11] [0, 1, 2, 3, 4, 5, 6, 7, 8, 9, 10] [0, 1, 2, 3, 4, 5, 6, 7, 8, 9, 10, 11, 12, 13, 14, 15] rfl rfl (fun _ => rfl) rfl rfl rfl (by decide) rfl hl.1 rfl (Nat.le_of_ble_eq_true rfl) dL_law_12 ⟨Nat.le_of_ble_eq_true rfl, Nat.le_of_ble_eq_true rfl⟩ (fun u H locs hpp hP hD hS => ?_)
  obtain ⟨n3, d3, f3, o3⟩ := u
  have hP : va_P (dC, dI) vwCl [(x, .inr (1, [.ref h, .ref h2])), (h, .inr (0, [.ref n, .ref o, .ref d, .ref f, .int (nI 11), .int 0])), (n, .inl (cI, 12, .inl (upd fb_z 11 24))), (o, .inl (cI, 12, .inl fb_z)), (d, .inl (cI, 12, .inl fb_z)), (f, .inl (cI, 12, .inl (fb_on 12))), (h2, .inr (0, [.ref n2, .ref o2, .ref d2, .ref f2, .int (nI 11), .int 0])), (n2, .inl (cI, 12, .inl (upd fb_z 11 24))), (o2, .inl (cI, 12, .inl fb_z)), (d2, .inl (cI, 12, .inl fb_z)), (f2, .inl (cI, 12, .inl (fb_on 12))), (y, .inr (2, [.int 0, .int 0, .int (nI 11), .ref n3, .ref d3, .ref f3, .ref o3])), (n3, .inl (cI, 12, .inl fb_z)), (d3, .inl (cI, 12, .inl fb_z)), (f3, .inl (cI, 12, .inl fb_o12)), (o3, .inl (cI, 12, .inl fb_z))] H := hP
  have hD : va_D (fb_lA s) [(x, .inr (1, [.ref h, .ref h2])), (h, .inr (0, [.ref n, .ref o, .ref d, .ref f, .int (nI 11), .int 0])), (n, .inl (cI, 12, .inl (upd fb_z 11 24))), (o, .inl (cI, 12, .inl fb_z)), (d, .inl (cI, 12, .inl fb_z)), (f, .inl (cI, 12, .inl (fb_on 12))), (h2, .inr (0, [.ref n2, .ref o2, .ref d2, .ref f2, .int (nI 11), .int 0])), (n2, .inl (cI, 12, .inl (upd fb_z 11 24))), (o2, .inl (cI, 12, .inl fb_z)), (d2, .inl (cI, 12, .inl fb_z)), (f2, .inl (cI, 12, .inl (fb_on 12))), (y, .inr (2, [.int 0, .int 0, .int (nI 11), .ref n3, .ref d3, .ref f3, .ref o3])), (n3, .inl (cI, 12, .inl fb_z)), (d3, .inl (cI, 12, .inl fb_z)), (f3, .inl (cI, 12, .inl fb_o12)), (o3, .inl (cI, 12, .inl fb_z))] := hD
  refine W.widen (k := 16) (n := 165) (by omega) (by omega) ?_
  refine lv_astore_n (lv' := [(2, .ref y), (1, .ref x), (0, .ref b)]) hx hb dL_law_15 rfl hl (by decide) rfl (fun ls hl => ?_)
  refine lv_iconst (v := 1) hx hb dL_law_16 (by decide) ?_
  refine va_newa (atype := .long) (ty := .long) (a0 := (1, .inr (.inl (fun _ => 0)))) (N' := 1) hx hb (hts (.arrayClass .long) (by decide +kernel)) rfl hK hP hD hS hA (fun _ => rfl) (by decide) (by decide) (by decide) (Nat.le_of_ble_eq_true rfl) (Nat.le_of_ble_eq_true rfl) dL_law_17 (fun a0 cA H hK2 hP hD hS => ?_)
  have eA : cA = cL := Option.some.inj (((hK2.2 2 (cA, .long) rfl).2 : s.vm.findClass ("[" ++ (FieldType.long).toString) = some cA).symm.trans b1)
  subst eA
  clear hK2
  have hP : va_P (dC, dI) vwCl [(x, .inr (1, [.ref h, .ref h2])), (h, .inr (0, [.ref n, .ref o, .ref d, .ref f, .int (nI 11), .int 0])), (n, .inl (cI, 12, .inl (upd fb_z 11 24))), (o, .inl (cI, 12, .inl fb_z)), (d, .inl (cI, 12, .inl fb_z)), (f, .inl (cI, 12, .inl (fb_on 12))), (h2, .inr (0, [.ref n2, .ref o2, .ref d2, .ref f2, .int (nI 11), .int 0])), (n2, .inl (cI, 12, .inl (upd fb_z 11 24))), (o2, .inl (cI, 12, .inl fb_z)), (d2, .inl (cI, 12, .inl fb_z)), (f2, .inl (cI, 12, .inl (fb_on 12))), (y, .inr (2, [.int 0, .int 0, .int (nI 11), .ref n3, .ref d3, .ref f3, .ref o3])), (n3, .inl (cI, 12, .inl fb_z)), (d3, .inl (cI, 12, .inl fb_z)), (f3, .inl (cI, 12, .inl fb_o12)), (o3, .inl (cI, 12, .inl fb_z)), (a0, .inl (cA, 1, .inr (.inl (fun _ => 0))))] H := hP
  have hD : va_D (fb_lA s) [(x, .inr (1, [.ref h, .ref h2])), (h, .inr (0, [.ref n, .ref o, .ref d, .ref f, .int (nI 11), .int 0])), (n, .inl (cI, 12, .inl (upd fb_z 11 24))), (o, .inl (cI, 12, .inl fb_z)), (d, .inl (cI, 12, .inl fb_z)), (f, .inl (cI, 12, .inl (fb_on 12))), (h2, .inr (0, [.ref n2, .ref o2, .ref d2, .ref f2, .int (nI 11), .int 0])), (n2, .inl (cI, 12, .inl (upd fb_z 11 24))), (o2, .inl (cI, 12, .inl fb_z)), (d2, .inl (cI, 12, .inl fb_z)), (f2, .inl (cI, 12, .inl (fb_on 12))), (y, .inr (2, [.int 0, .int 0, .int (nI 11), .ref n3, .ref d3, .ref f3, .ref o3])), (n3, .inl (cI, 12, .inl fb_z)), (d3, .inl (cI, 12, .inl fb_z)), (f3, .inl (cI, 12, .inl fb_o12)), (o3, .inl (cI, 12, .inl fb_z)), (a0, .inl (cA, 1, .inr (.inl (fun _ => 0))))] := hD
  refine W.widen (k := 17) (n := 166) (by omega) (by omega) ?_
  refine lv_astore_n (lv' := [(3, .ref a0), (2, .ref y), (1, .ref x), (0, .ref b)]) hx hb dL_law_19 rfl hl (by decide) rfl (fun ls hl => ?_)
  refine lv_iconst (v := 0) hx hb dL_law_20 (by decide) ?_
  refine fb_ti (z := nI (3 * 0)) (by decide) ?_
  refine lv_istore (lv' := [(4, .int (nI (3 * 0))), (3, .ref a0), (2, .ref y), (1, .ref x), (0, .ref b)]) hx hb dL_law_21 hl (by decide) rfl (fun ls hl => ?_)
  refine W.base ?_
  refine W.widen (k := 20 + 2 * 0) (n := 300 + 18 * 0) (by omega) (by omega) ?_
  exact fb_loop hst9 ⟨hx, hb, hr, hml, hown, hts, hXs, hbl, hlk, hK, hX, hE⟩ hL 513 0 s.drawn (Drawn.sameBut.refl s.drawn lw_cs) (by omega) (by omega) H _ ⟨h, n, o, d, f, h2, n2, o2, d2, f2, _, _, _, _, 11, 0, _, _, _, _, nI 11, 0, _, n3, d3, f3, o3, _, _, _, _, 0, fb_I0, hP.sub [0, 1, 2, 3, 4, 5, 6, 7, 8, 9, 10, 16, 11, 12, 13, 14, 15] rfl, hD.sub [0, 1, 2, 3, 4, 5, 6, 7, 8, 9, 10, 16, 11, 12, 13, 14, 15] (by decide) rfl, hS⟩ ls hl
