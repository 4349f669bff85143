theorem fb_u_setFifth {p : Program} {l : Launch} {e : Env} {s : State} {m : MethodId} {below : List Frame} {meth : Method} {c : Code} {b L : Nat} {xs : Nat → Int32} {G : va_G} {cI cL : ClassId} {Q : State → Prop} {cells slots i x y a0 : Nat} {H : Heap} {locs : List Loc} {ls : Array Slot} (hst9 : l.stackTraces = false) (C0 : fb_At p s m meth c b L xs G cI cL) (hL : L ≤ 1536) (hi : i + 3 ≤ L) (hcs : cells + 2 ≤ 601024 ∧ slots + 18 ≤ 7293034) (hI : fb_LI G cI cL s H locs x y a0) (hl : lv_has ls 9 [(4, .int (nI i)), (3, .ref a0), (2, .ref y), (1, .ref x), (0, .ref b)]) (kk : ∀ (H : Heap) (locs : List Loc), fb_LI G cI cL s H locs x y a0 → ∀ ls : Array Slot, lv_has ls 9 [(4, .int (nI i)), (3, .ref a0), (2, .ref y), (1, .ref x), (0, .ref b)] → W p l e room_1 s m #[Value.ref b] below meth c H locs (cells + 2) (slots + 18) Q (F0 m 1294 ls [])) : W p l e room_1 s m #[Value.ref b] below meth c H locs cells slots Q (F0 m 140 ls []) := by
  obtain ⟨h, n, o, d, f, h2, n2, o2, d2, f2, nf, uf, df, tf, w, dy, mf, vf, ef, sf, tw, ty, fo, n3, d3, f3, o3, pf, df3, tf3, uf3, th, I, hP, hD, hS⟩ := hI
  by_cases hp : xs (i + 1) < 0 ∨ 11 < xs (i + 1)
  · exact fb_s_setFifth_b1 hst9 C0 hL hi hcs I hP hD hS hl _ _ hp rfl rfl kk
  obtain ⟨j, -, hj, e1⟩ := fb_nt (a := 0) (z := 11) (by decide) (by decide) hp
  have hj : j < 12 := by omega
  by_cases hv2 : xs (i + 2) < (-10) ∨ 20 < xs (i + 2)
  · exact fb_s_setFifth_b2 hst9 C0 hL hi hcs I hP hD hS hl _ _ hj hv2 e1 rfl kk
  by_cases hjw : j = w
  · exact fb_s_setFifth_b3 hst9 C0 hL hi hcs I hP hD hS hl _ _ hj hv2 hjw e1 rfl kk
  exact fb_s_setFifth_ok hst9 C0 hL hi hcs I hP hD hS hl _ _ hj hv2 hjw e1 rfl kk
theorem fb_u_setOften {p : Program} {l : Launch} {e : Env} {s : State} {m : MethodId} {below : List Frame} {meth : Method} {c : Code} {b L : Nat} {xs : Nat → Int32} {G : va_G} {cI cL : ClassId} {Q : State → Prop} {cells slots i x y a0 : Nat} {H : Heap} {locs : List Loc} {ls : Array Slot} (hst9 : l.stackTraces = false) (C0 : fb_At p s m meth c b L xs G cI cL) (hL : L ≤ 1536) (hi : i + 3 ≤ L) (hcs : cells + 2 ≤ 601024 ∧ slots + 18 ≤ 7293034) (hI : fb_LI G cI cL s H locs x y a0) (hl : lv_has ls 9 [(4, .int (nI i)), (3, .ref a0), (2, .ref y), (1, .ref x), (0, .ref b)]) (kk : ∀ (H : Heap) (locs : List Loc), fb_LI G cI cL s H locs x y a0 → ∀ ls : Array Slot, lv_has ls 9 [(4, .int (nI i)), (3, .ref a0), (2, .ref y), (1, .ref x), (0, .ref b)] → W p l e room_1 s m #[Value.ref b] below meth c H locs (cells + 2) (slots + 18) Q (F0 m 1294 ls [])) : W p l e room_1 s m #[Value.ref b] below meth c H locs cells slots Q (F0 m 320 ls []) := by
  obtain ⟨h, n, o, d, f, h2, n2, o2, d2, f2, nf, uf, df, tf, w, dy, mf, vf, ef, sf, tw, ty, fo, n3, d3, f3, o3, pf, df3, tf3, uf3, th, I, hP, hD, hS⟩ := hI
  by_cases hp : xs (i + 1) < 0 ∨ 11 < xs (i + 1)
  · exact fb_s_setOften_b1 hst9 C0 hL hi hcs I hP hD hS hl _ _ hp rfl rfl kk
  obtain ⟨j, -, hj, e1⟩ := fb_nt (a := 0) (z := 11) (by decide) (by decide) hp
  have hj : j < 12 := by omega
  by_cases hv2 : xs (i + 2) < 0 ∨ 9 < xs (i + 2)
  · exact fb_s_setOften_b2 hst9 C0 hL hi hcs I hP hD hS hl _ _ hj hv2 e1 rfl kk
  exact fb_s_setOften_ok hst9 C0 hL hi hcs I hP hD hS hl _ _ hj hv2 e1 rfl kk
theorem fb_u_setDrift {p : Program} {l : Launch} {e : Env} {s : State} {m : MethodId} {below : List Frame} {meth : Method} {c : Code} {b L : Nat} {xs : Nat → Int32} {G : va_G} {cI cL : ClassId} {Q : State → Prop} {cells slots i x y a0 : Nat} {H : Heap} {locs : List Loc} {ls : Array Slot} (hst9 : l.stackTraces = false) (C0 : fb_At p s m meth c b L xs G cI cL) (hL : L ≤ 1536) (hi : i + 3 ≤ L) (hcs : cells + 2 ≤ 601024 ∧ slots + 18 ≤ 7293034) (hI : fb_LI G cI cL s H locs x y a0) (hl : lv_has ls 9 [(4, .int (nI i)), (3, .ref a0), (2, .ref y), (1, .ref x), (0, .ref b)]) (kk : ∀ (H : Heap) (locs : List Loc), fb_LI G cI cL s H locs x y a0 → ∀ ls : Array Slot, lv_has ls 9 [(4, .int (nI i)), (3, .ref a0), (2, .ref y), (1, .ref x), (0, .ref b)] → W p l e room_1 s m #[Value.ref b] below meth c H locs (cells + 2) (slots + 18) Q (F0 m 1294 ls [])) : W p l e room_1 s m #[Value.ref b] below meth c H locs cells slots Q (F0 m 388 ls []) := by
  obtain ⟨h, n, o, d, f, h2, n2, o2, d2, f2, nf, uf, df, tf, w, dy, mf, vf, ef, sf, tw, ty, fo, n3, d3, f3, o3, pf, df3, tf3, uf3, th, I, hP, hD, hS⟩ := hI
  by_cases hp : xs (i + 1) < 0 ∨ 11 < xs (i + 1)
  · exact fb_s_setDrift_b1 hst9 C0 hL hi hcs I hP hD hS hl _ _ hp rfl rfl kk
  obtain ⟨j, -, hj, e1⟩ := fb_nt (a := 0) (z := 11) (by decide) (by decide) hp
  have hj : j < 12 := by omega
  by_cases hv2 : xs (i + 2) < (-3) ∨ 3 < xs (i + 2)
  · exact fb_s_setDrift_b2 hst9 C0 hL hi hcs I hP hD hS hl _ _ hj hv2 e1 rfl kk
  exact fb_s_setDrift_ok hst9 C0 hL hi hcs I hP hD hS hl _ _ hj hv2 e1 rfl kk
theorem fb_u_shift {p : Program} {l : Launch} {e : Env} {s : State} {m : MethodId} {below : List Frame} {meth : Method} {c : Code} {b L : Nat} {xs : Nat → Int32} {G : va_G} {cI cL : ClassId} {Q : State → Prop} {cells slots i x y a0 : Nat} {H : Heap} {locs : List Loc} {ls : Array Slot} (hst9 : l.stackTraces = false) (C0 : fb_At p s m meth c b L xs G cI cL) (hL : L ≤ 1536) (hi : i + 3 ≤ L) (hcs : cells + 2 ≤ 601024 ∧ slots + 18 ≤ 7293034) (hI : fb_LI G cI cL s H locs x y a0) (hl : lv_has ls 9 [(4, .int (nI i)), (3, .ref a0), (2, .ref y), (1, .ref x), (0, .ref b)]) (kk : ∀ (H : Heap) (locs : List Loc), fb_LI G cI cL s H locs x y a0 → ∀ ls : Array Slot, lv_has ls 9 [(4, .int (nI i)), (3, .ref a0), (2, .ref y), (1, .ref x), (0, .ref b)] → W p l e room_1 s m #[Value.ref b] below meth c H locs (cells + 2) (slots + 18) Q (F0 m 1294 ls [])) : W p l e room_1 s m #[Value.ref b] below meth c H locs cells slots Q (F0 m 208 ls []) := by
  obtain ⟨h, n, o, d, f, h2, n2, o2, d2, f2, nf, uf, df, tf, w, dy, mf, vf, ef, sf, tw, ty, fo, n3, d3, f3, o3, pf, df3, tf3, uf3, th, I, hP, hD, hS⟩ := hI
  by_cases hp : xs (i + 1) < 0 ∨ 11 < xs (i + 1)
  · exact fb_s_shift_b1 hst9 C0 hL hi hcs I hP hD hS hl _ hp rfl kk
  obtain ⟨j, -, hj, e1⟩ := fb_nt (a := 0) (z := 11) (by decide) (by decide) hp
  have hj : j < 12 := by omega
  exact fb_s_shift_ok hst9 C0 hL hi hcs I hP hD hS hl _ hj e1 kk
theorem fb_u_spread {p : Program} {l : Launch} {e : Env} {s : State} {m : MethodId} {below : List Frame} {meth : Method} {c : Code} {b L : Nat} {xs : Nat → Int32} {G : va_G} {cI cL : ClassId} {Q : State → Prop} {cells slots i x y a0 : Nat} {H : Heap} {locs : List Loc} {ls : Array Slot} (hst9 : l.stackTraces = false) (C0 : fb_At p s m meth c b L xs G cI cL) (hL : L ≤ 1536) (hi : i + 3 ≤ L) (hcs : cells + 2 ≤ 601024 ∧ slots + 18 ≤ 7293034) (hI : fb_LI G cI cL s H locs x y a0) (hl : lv_has ls 9 [(4, .int (nI i)), (3, .ref a0), (2, .ref y), (1, .ref x), (0, .ref b)]) (kk : ∀ (H : Heap) (locs : List Loc), fb_LI G cI cL s H locs x y a0 → ∀ ls : Array Slot, lv_has ls 9 [(4, .int (nI i)), (3, .ref a0), (2, .ref y), (1, .ref x), (0, .ref b)] → W p l e room_1 s m #[Value.ref b] below meth c H locs (cells + 2) (slots + 18) Q (F0 m 1294 ls [])) : W p l e room_1 s m #[Value.ref b] below meth c H locs cells slots Q (F0 m 264 ls []) := by
  obtain ⟨h, n, o, d, f, h2, n2, o2, d2, f2, nf, uf, df, tf, w, dy, mf, vf, ef, sf, tw, ty, fo, n3, d3, f3, o3, pf, df3, tf3, uf3, th, I, hP, hD, hS⟩ := hI
  by_cases hp : xs (i + 1) < 2 ∨ 11 < xs (i + 1)
  · exact fb_s_spread_b1 hst9 C0 hL hi hcs I hP hD hS hl _ hp rfl kk
  obtain ⟨q, hq, hq2, e1⟩ := fb_nt (a := 2) (z := 11) (by decide) (by decide) hp
  exact fb_s_spread_ok hst9 C0 hL hi hcs I hP hD hS hl _ hq hq2 e1 kk
theorem fb_u_pass {p : Program} {l : Launch} {e : Env} {s : State} {m : MethodId} {below : List Frame} {meth : Method} {c : Code} {b L : Nat} {xs : Nat → Int32} {G : va_G} {cI cL : ClassId} {Q : State → Prop} {cells slots i x y a0 : Nat} {H : Heap} {locs : List Loc} {ls : Array Slot} (hst9 : l.stackTraces = false) (C0 : fb_At p s m meth c b L xs G cI cL) (hL : L ≤ 1536) (hi : i + 3 ≤ L) (hcs : cells + 2 ≤ 601024 ∧ slots + 18 ≤ 7293034) (hI : fb_LI G cI cL s H locs x y a0) (hl : lv_has ls 9 [(4, .int (nI i)), (3, .ref a0), (2, .ref y), (1, .ref x), (0, .ref b)]) (kk : ∀ (H : Heap) (locs : List Loc), fb_LI G cI cL s H locs x y a0 → ∀ ls : Array Slot, lv_has ls 9 [(4, .int (nI i)), (3, .ref a0), (2, .ref y), (1, .ref x), (0, .ref b)] → W p l e room_1 s m #[Value.ref b] below meth c H locs (cells + 2) (slots + 18) Q (F0 m 1294 ls [])) : W p l e room_1 s m #[Value.ref b] below meth c H locs cells slots Q (F0 m 581 ls []) := by
  obtain ⟨h, n, o, d, f, h2, n2, o2, d2, f2, nf, uf, df, tf, w, dy, mf, vf, ef, sf, tw, ty, fo, n3, d3, f3, o3, pf, df3, tf3, uf3, th, I, hP, hD, hS⟩ := hI
  by_cases hp : xs (i + 1) < 1 ∨ 100 < xs (i + 1)
  · exact fb_s_pass_b1 hst9 C0 hL hi hcs I hP hD hS hl _ hp rfl kk
  obtain ⟨q, hq, hq2, e1⟩ := fb_nt (a := 1) (z := 100) (by decide) (by decide) hp
  exact fb_s_pass_ok hst9 C0 hL hi hcs I hP hD hS hl _ hq hq2 e1 kk
theorem fb_u_tune {p : Program} {l : Launch} {e : Env} {s : State} {m : MethodId} {below : List Frame} {meth : Method} {c : Code} {b L : Nat} {xs : Nat → Int32} {G : va_G} {cI cL : ClassId} {Q : State → Prop} {cells slots i x y a0 : Nat} {H : Heap} {locs : List Loc} {ls : Array Slot} (hst9 : l.stackTraces = false) (C0 : fb_At p s m meth c b L xs G cI cL) (hL : L ≤ 1536) (hi : i + 3 ≤ L) (hcs : cells + 2 ≤ 601024 ∧ slots + 18 ≤ 7293034) (hI : fb_LI G cI cL s H locs x y a0) (hl : lv_has ls 9 [(4, .int (nI i)), (3, .ref a0), (2, .ref y), (1, .ref x), (0, .ref b)]) (kk : ∀ (H : Heap) (locs : List Loc), fb_LI G cI cL s H locs x y a0 → ∀ ls : Array Slot, lv_has ls 9 [(4, .int (nI i)), (3, .ref a0), (2, .ref y), (1, .ref x), (0, .ref b)] → W p l e room_1 s m #[Value.ref b] below meth c H locs (cells + 2) (slots + 18) Q (F0 m 1294 ls [])) : W p l e room_1 s m #[Value.ref b] below meth c H locs cells slots Q (F0 m 456 ls []) := by
  obtain ⟨h, n, o, d, f, h2, n2, o2, d2, f2, nf, uf, df, tf, w, dy, mf, vf, ef, sf, tw, ty, fo, n3, d3, f3, o3, pf, df3, tf3, uf3, th, I, hP, hD, hS⟩ := hI
  by_cases hp : xs (i + 1) < 0 ∨ 11 < xs (i + 1)
  · exact fb_s_tune_b1 hst9 C0 hL hi hcs I hP hD hS hl _ hp rfl kk
  obtain ⟨j, -, hj, e1⟩ := fb_nt (a := 0) (z := 11) (by decide) (by decide) hp
  have hj : j < 12 := by omega
  by_cases hjw : (j + 11) % 12 = w
  · exact fb_s_tune_b2 hst9 C0 hL hi hcs I hP hD hS hl _ hj hjw e1 kk
  exact fb_s_tune_ok hst9 C0 hL hi hcs I hP hD hS hl _ hj hjw e1 kk
theorem fb_u_temper {p : Program} {l : Launch} {e : Env} {s : State} {m : MethodId} {below : List Frame} {meth : Method} {c : Code} {b L : Nat} {xs : Nat → Int32} {G : va_G} {cI cL : ClassId} {Q : State → Prop} {cells slots i x y a0 : Nat} {H : Heap} {locs : List Loc} {ls : Array Slot} (hst9 : l.stackTraces = false) (C0 : fb_At p s m meth c b L xs G cI cL) (hL : L ≤ 1536) (hi : i + 3 ≤ L) (hcs : cells + 2 ≤ 601024 ∧ slots + 18 ≤ 7293034) (hI : fb_LI G cI cL s H locs x y a0) (hl : lv_has ls 9 [(4, .int (nI i)), (3, .ref a0), (2, .ref y), (1, .ref x), (0, .ref b)]) (kk : ∀ (H : Heap) (locs : List Loc), fb_LI G cI cL s H locs x y a0 → ∀ ls : Array Slot, lv_has ls 9 [(4, .int (nI i)), (3, .ref a0), (2, .ref y), (1, .ref x), (0, .ref b)] → W p l e room_1 s m #[Value.ref b] below meth c H locs (cells + 2) (slots + 18) Q (F0 m 1294 ls [])) : W p l e room_1 s m #[Value.ref b] below meth c H locs cells slots Q (F0 m 1170 ls []) := by
  obtain ⟨h, n, o, d, f, h2, n2, o2, d2, f2, nf, uf, df, tf, w, dy, mf, vf, ef, sf, tw, ty, fo, n3, d3, f3, o3, pf, df3, tf3, uf3, th, I, hP, hD, hS⟩ := hI
  by_cases hp : xs (i + 1) < 0 ∨ 11 < xs (i + 1)
  · exact fb_s_temper_b1 hst9 C0 hL hi hcs I hP hD hS hl _ hp rfl kk
  obtain ⟨j, -, hj, e1⟩ := fb_nt (a := 0) (z := 11) (by decide) (by decide) hp
  have hj : j < 12 := by omega
  by_cases hjw : j = w
  · exact fb_s_temper_b2 hst9 C0 hL hi hcs I hP hD hS hl _ hj hjw e1 kk
  exact fb_s_temper_ok hst9 C0 hL hi hcs I hP hD hS hl _ hj hjw e1 kk
theorem fb_u_sweeten {p : Program} {l : Launch} {e : Env} {s : State} {m : MethodId} {below : List Frame} {meth : Method} {c : Code} {b L : Nat} {xs : Nat → Int32} {G : va_G} {cI cL : ClassId} {Q : State → Prop} {cells slots i x y a0 : Nat} {H : Heap} {locs : List Loc} {ls : Array Slot} (hst9 : l.stackTraces = false) (C0 : fb_At p s m meth c b L xs G cI cL) (hL : L ≤ 1536) (hi : i + 3 ≤ L) (hcs : cells + 2 ≤ 601024 ∧ slots + 18 ≤ 7293034) (hI : fb_LI G cI cL s H locs x y a0) (hl : lv_has ls 9 [(4, .int (nI i)), (3, .ref a0), (2, .ref y), (1, .ref x), (0, .ref b)]) (kk : ∀ (H : Heap) (locs : List Loc), fb_LI G cI cL s H locs x y a0 → ∀ ls : Array Slot, lv_has ls 9 [(4, .int (nI i)), (3, .ref a0), (2, .ref y), (1, .ref x), (0, .ref b)] → W p l e room_1 s m #[Value.ref b] below meth c H locs (cells + 2) (slots + 18) Q (F0 m 1294 ls [])) : W p l e room_1 s m #[Value.ref b] below meth c H locs cells slots Q (F0 m 525 ls []) := by
  obtain ⟨h, n, o, d, f, h2, n2, o2, d2, f2, nf, uf, df, tf, w, dy, mf, vf, ef, sf, tw, ty, fo, n3, d3, f3, o3, pf, df3, tf3, uf3, th, I, hP, hD, hS⟩ := hI
  by_cases hp : xs (i + 1) < 0 ∨ 11 < xs (i + 1)
  · exact fb_s_sweeten_b1 hst9 C0 hL hi hcs I hP hD hS hl _ hp rfl kk
  obtain ⟨j, -, hj, e1⟩ := fb_nt (a := 0) (z := 11) (by decide) (by decide) hp
  have hj : j < 12 := by omega
  by_cases hv2 : fb_rg uf (j + 4) - fb_mj (fb_rg nf) (fb_rg uf) j 4 < (-50) ∨ 50 < fb_rg uf (j + 4) - fb_mj (fb_rg nf) (fb_rg uf) j 4
  · exact fb_s_sweeten_b2 hst9 C0 hL hi hcs I hP hD hS hl _ hj hv2 e1 kk
  exact fb_s_sweeten_ok hst9 C0 hL hi hcs I hP hD hS hl _ hj hv2 e1 kk
theorem fb_u_fifth {p : Program} {l : Launch} {e : Env} {s : State} {m : MethodId} {below : List Frame} {meth : Method} {c : Code} {b L : Nat} {xs : Nat → Int32} {G : va_G} {cI cL : ClassId} {Q : State → Prop} {cells slots i x y a0 : Nat} {H : Heap} {locs : List Loc} {ls : Array Slot} (hst9 : l.stackTraces = false) (C0 : fb_At p s m meth c b L xs G cI cL) (hL : L ≤ 1536) (hi : i + 3 ≤ L) (hcs : cells + 2 ≤ 601024 ∧ slots + 18 ≤ 7293034) (hI : fb_LI G cI cL s H locs x y a0) (hl : lv_has ls 9 [(4, .int (nI i)), (3, .ref a0), (2, .ref y), (1, .ref x), (0, .ref b)]) (kk : ∀ (H : Heap) (locs : List Loc), fb_LI G cI cL s H locs x y a0 → ∀ ls : Array Slot, lv_has ls 9 [(4, .int (nI i)), (3, .ref a0), (2, .ref y), (1, .ref x), (0, .ref b)] → W p l e room_1 s m #[Value.ref b] below meth c H locs (cells + 2) (slots + 18) Q (F0 m 1294 ls [])) : W p l e room_1 s m #[Value.ref b] below meth c H locs cells slots Q (F0 m 637 ls []) := by
  obtain ⟨h, n, o, d, f, h2, n2, o2, d2, f2, nf, uf, df, tf, w, dy, mf, vf, ef, sf, tw, ty, fo, n3, d3, f3, o3, pf, df3, tf3, uf3, th, I, hP, hD, hS⟩ := hI
  by_cases hp : xs (i + 1) < 0 ∨ 11 < xs (i + 1)
  · exact fb_s_fifth_b1 hst9 C0 hL hi hcs I hP hD hS hl _ _ hp rfl rfl kk
  obtain ⟨j, -, hj, e1⟩ := fb_nt (a := 0) (z := 11) (by decide) (by decide) hp
  have hj : j < 12 := by omega
  by_cases hv2 : xs (i + 2) < 0 ∨ 4 < xs (i + 2)
  · exact fb_s_fifth_b2 hst9 C0 hL hi hcs I hP hD hS hl _ _ hj hv2 e1 rfl kk
  obtain ⟨q, -, hq, e2⟩ := fb_nt (a := 0) (z := 4) (by decide) (by decide) hv2
  exact fb_s_fifth_ok hst9 C0 hL hi hcs I hP hD hS hl _ _ hj (by omega) e1 e2 kk
theorem fb_u_major {p : Program} {l : Launch} {e : Env} {s : State} {m : MethodId} {below : List Frame} {meth : Method} {c : Code} {b L : Nat} {xs : Nat → Int32} {G : va_G} {cI cL : ClassId} {Q : State → Prop} {cells slots i x y a0 : Nat} {H : Heap} {locs : List Loc} {ls : Array Slot} (hst9 : l.stackTraces = false) (C0 : fb_At p s m meth c b L xs G cI cL) (hL : L ≤ 1536) (hi : i + 3 ≤ L) (hcs : cells + 2 ≤ 601024 ∧ slots + 18 ≤ 7293034) (hI : fb_LI G cI cL s H locs x y a0) (hl : lv_has ls 9 [(4, .int (nI i)), (3, .ref a0), (2, .ref y), (1, .ref x), (0, .ref b)]) (kk : ∀ (H : Heap) (locs : List Loc), fb_LI G cI cL s H locs x y a0 → ∀ ls : Array Slot, lv_has ls 9 [(4, .int (nI i)), (3, .ref a0), (2, .ref y), (1, .ref x), (0, .ref b)] → W p l e room_1 s m #[Value.ref b] below meth c H locs (cells + 2) (slots + 18) Q (F0 m 1294 ls [])) : W p l e room_1 s m #[Value.ref b] below meth c H locs cells slots Q (F0 m 705 ls []) := by
  obtain ⟨h, n, o, d, f, h2, n2, o2, d2, f2, nf, uf, df, tf, w, dy, mf, vf, ef, sf, tw, ty, fo, n3, d3, f3, o3, pf, df3, tf3, uf3, th, I, hP, hD, hS⟩ := hI
  by_cases hp : xs (i + 1) < 0 ∨ 11 < xs (i + 1)
  · exact fb_s_major_b1 hst9 C0 hL hi hcs I hP hD hS hl _ _ hp rfl rfl kk
  obtain ⟨j, -, hj, e1⟩ := fb_nt (a := 0) (z := 11) (by decide) (by decide) hp
  have hj : j < 12 := by omega
  by_cases hv2 : xs (i + 2) < 0 ∨ 2 < xs (i + 2)
  · exact fb_s_major_b2 hst9 C0 hL hi hcs I hP hD hS hl _ _ hj hv2 e1 rfl kk
  obtain ⟨q, -, hq, e2⟩ := fb_nt (a := 0) (z := 2) (by decide) (by decide) hv2
  exact fb_s_major_ok hst9 C0 hL hi hcs I hP hD hS hl _ _ hj (by omega) e1 e2 kk
theorem fb_u_minor {p : Program} {l : Launch} {e : Env} {s : State} {m : MethodId} {below : List Frame} {meth : Method} {c : Code} {b L : Nat} {xs : Nat → Int32} {G : va_G} {cI cL : ClassId} {Q : State → Prop} {cells slots i x y a0 : Nat} {H : Heap} {locs : List Loc} {ls : Array Slot} (hst9 : l.stackTraces = false) (C0 : fb_At p s m meth c b L xs G cI cL) (hL : L ≤ 1536) (hi : i + 3 ≤ L) (hcs : cells + 2 ≤ 601024 ∧ slots + 18 ≤ 7293034) (hI : fb_LI G cI cL s H locs x y a0) (hl : lv_has ls 9 [(4, .int (nI i)), (3, .ref a0), (2, .ref y), (1, .ref x), (0, .ref b)]) (kk : ∀ (H : Heap) (locs : List Loc), fb_LI G cI cL s H locs x y a0 → ∀ ls : Array Slot, lv_has ls 9 [(4, .int (nI i)), (3, .ref a0), (2, .ref y), (1, .ref x), (0, .ref b)] → W p l e room_1 s m #[Value.ref b] below meth c H locs (cells + 2) (slots + 18) Q (F0 m 1294 ls [])) : W p l e room_1 s m #[Value.ref b] below meth c H locs cells slots Q (F0 m 773 ls []) := by
  obtain ⟨h, n, o, d, f, h2, n2, o2, d2, f2, nf, uf, df, tf, w, dy, mf, vf, ef, sf, tw, ty, fo, n3, d3, f3, o3, pf, df3, tf3, uf3, th, I, hP, hD, hS⟩ := hI
  by_cases hp : xs (i + 1) < 0 ∨ 11 < xs (i + 1)
  · exact fb_s_minor_b1 hst9 C0 hL hi hcs I hP hD hS hl _ _ hp rfl rfl kk
  obtain ⟨j, -, hj, e1⟩ := fb_nt (a := 0) (z := 11) (by decide) (by decide) hp
  have hj : j < 12 := by omega
  by_cases hv2 : xs (i + 2) < 0 ∨ 1 < xs (i + 2)
  · exact fb_s_minor_b2 hst9 C0 hL hi hcs I hP hD hS hl _ _ hj hv2 e1 rfl kk
  obtain ⟨q, -, hq, e2⟩ := fb_nt (a := 0) (z := 1) (by decide) (by decide) hv2
  exact fb_s_minor_ok hst9 C0 hL hi hcs I hP hD hS hl _ _ hj (by omega) e1 e2 kk
theorem fb_u_note {p : Program} {l : Launch} {e : Env} {s : State} {m : MethodId} {below : List Frame} {meth : Method} {c : Code} {b L : Nat} {xs : Nat → Int32} {G : va_G} {cI cL : ClassId} {Q : State → Prop} {cells slots i x y a0 : Nat} {H : Heap} {locs : List Loc} {ls : Array Slot} (hst9 : l.stackTraces = false) (C0 : fb_At p s m meth c b L xs G cI cL) (hL : L ≤ 1536) (hi : i + 3 ≤ L) (hcs : cells + 2 ≤ 601024 ∧ slots + 18 ≤ 7293034) (hI : fb_LI G cI cL s H locs x y a0) (hl : lv_has ls 9 [(4, .int (nI i)), (3, .ref a0), (2, .ref y), (1, .ref x), (0, .ref b)]) (kk : ∀ (H : Heap) (locs : List Loc), fb_LI G cI cL s H locs x y a0 → ∀ ls : Array Slot, lv_has ls 9 [(4, .int (nI i)), (3, .ref a0), (2, .ref y), (1, .ref x), (0, .ref b)] → W p l e room_1 s m #[Value.ref b] below meth c H locs (cells + 2) (slots + 18) Q (F0 m 1294 ls [])) : W p l e room_1 s m #[Value.ref b] below meth c H locs cells slots Q (F0 m 841 ls []) := by
  obtain ⟨h, n, o, d, f, h2, n2, o2, d2, f2, nf, uf, df, tf, w, dy, mf, vf, ef, sf, tw, ty, fo, n3, d3, f3, o3, pf, df3, tf3, uf3, th, I, hP, hD, hS⟩ := hI
  by_cases hp : xs (i + 1) < 0 ∨ 11 < xs (i + 1)
  · exact fb_s_note_b1 hst9 C0 hL hi hcs I hP hD hS hl _ _ hp rfl rfl kk
  obtain ⟨j, -, hj, e1⟩ := fb_nt (a := 0) (z := 11) (by decide) (by decide) hp
  have hj : j < 12 := by omega
  by_cases hv2 : xs (i + 2) < 0 ∨ 4 < xs (i + 2)
  · exact fb_s_note_b2 hst9 C0 hL hi hcs I hP hD hS hl _ _ hj hv2 e1 rfl kk
  obtain ⟨q, -, hq, e2⟩ := fb_nt (a := 0) (z := 4) (by decide) (by decide) hv2
  exact fb_s_note_ok hst9 C0 hL hi hcs I hP hD hS hl _ _ hj (by omega) e1 e2 kk
theorem fb_u_key {p : Program} {l : Launch} {e : Env} {s : State} {m : MethodId} {below : List Frame} {meth : Method} {c : Code} {b L : Nat} {xs : Nat → Int32} {G : va_G} {cI cL : ClassId} {Q : State → Prop} {cells slots i x y a0 : Nat} {H : Heap} {locs : List Loc} {ls : Array Slot} (hst9 : l.stackTraces = false) (C0 : fb_At p s m meth c b L xs G cI cL) (hL : L ≤ 1536) (hi : i + 3 ≤ L) (hcs : cells + 2 ≤ 601024 ∧ slots + 18 ≤ 7293034) (hI : fb_LI G cI cL s H locs x y a0) (hl : lv_has ls 9 [(4, .int (nI i)), (3, .ref a0), (2, .ref y), (1, .ref x), (0, .ref b)]) (kk : ∀ (H : Heap) (locs : List Loc), fb_LI G cI cL s H locs x y a0 → ∀ ls : Array Slot, lv_has ls 9 [(4, .int (nI i)), (3, .ref a0), (2, .ref y), (1, .ref x), (0, .ref b)] → W p l e room_1 s m #[Value.ref b] below meth c H locs (cells + 2) (slots + 18) Q (F0 m 1294 ls [])) : W p l e room_1 s m #[Value.ref b] below meth c H locs cells slots Q (F0 m 909 ls []) := by
  obtain ⟨h, n, o, d, f, h2, n2, o2, d2, f2, nf, uf, df, tf, w, dy, mf, vf, ef, sf, tw, ty, fo, n3, d3, f3, o3, pf, df3, tf3, uf3, th, I, hP, hD, hS⟩ := hI
  by_cases hp : xs (i + 1) < 0 ∨ 11 < xs (i + 1)
  · exact fb_s_key_b1 hst9 C0 hL hi hcs I hP hD hS hl _ _ hp rfl rfl kk
  obtain ⟨j, -, hj, e1⟩ := fb_nt (a := 0) (z := 11) (by decide) (by decide) hp
  have hj : j < 12 := by omega
  by_cases hv2 : xs (i + 2) < 0 ∨ 3 < xs (i + 2)
  · exact fb_s_key_b2 hst9 C0 hL hi hcs I hP hD hS hl _ _ hj hv2 e1 rfl kk
  obtain ⟨q, -, hq, e2⟩ := fb_nt (a := 0) (z := 3) (by decide) (by decide) hv2
  exact fb_s_key_ok hst9 C0 hL hi hcs I hP hD hS hl _ _ hj (by omega) e1 e2 kk
theorem fb_u_count {p : Program} {l : Launch} {e : Env} {s : State} {m : MethodId} {below : List Frame} {meth : Method} {c : Code} {b L : Nat} {xs : Nat → Int32} {G : va_G} {cI cL : ClassId} {Q : State → Prop} {cells slots i x y a0 : Nat} {H : Heap} {locs : List Loc} {ls : Array Slot} (hst9 : l.stackTraces = false) (C0 : fb_At p s m meth c b L xs G cI cL) (hL : L ≤ 1536) (hi : i + 3 ≤ L) (hcs : cells + 2 ≤ 601024 ∧ slots + 18 ≤ 7293034) (hI : fb_LI G cI cL s H locs x y a0) (hl : lv_has ls 9 [(4, .int (nI i)), (3, .ref a0), (2, .ref y), (1, .ref x), (0, .ref b)]) (kk : ∀ (H : Heap) (locs : List Loc), fb_LI G cI cL s H locs x y a0 → ∀ ls : Array Slot, lv_has ls 9 [(4, .int (nI i)), (3, .ref a0), (2, .ref y), (1, .ref x), (0, .ref b)] → W p l e room_1 s m #[Value.ref b] below meth c H locs (cells + 2) (slots + 18) Q (F0 m 1294 ls [])) : W p l e room_1 s m #[Value.ref b] below meth c H locs cells slots Q (F0 m 977 ls []) := by
  obtain ⟨h, n, o, d, f, h2, n2, o2, d2, f2, nf, uf, df, tf, w, dy, mf, vf, ef, sf, tw, ty, fo, n3, d3, f3, o3, pf, df3, tf3, uf3, th, I, hP, hD, hS⟩ := hI
  by_cases hp : xs (i + 1) < 0 ∨ 6 < xs (i + 1)
  · exact fb_s_count_b1 hst9 C0 hL hi hcs I hP hD hS hl _ hp rfl kk
  obtain ⟨q, -, hq, e1⟩ := fb_nt (a := 0) (z := 6) (by decide) (by decide) hp
  exact fb_s_count_ok hst9 C0 hL hi hcs I hP hD hS hl _ (by omega) e1 kk
theorem fb_u_foresee {p : Program} {l : Launch} {e : Env} {s : State} {m : MethodId} {below : List Frame} {meth : Method} {c : Code} {b L : Nat} {xs : Nat → Int32} {G : va_G} {cI cL : ClassId} {Q : State → Prop} {cells slots i x y a0 : Nat} {H : Heap} {locs : List Loc} {ls : Array Slot} (hst9 : l.stackTraces = false) (C0 : fb_At p s m meth c b L xs G cI cL) (hL : L ≤ 1536) (hi : i + 3 ≤ L) (hcs : cells + 2 ≤ 601024 ∧ slots + 18 ≤ 7293034) (hI : fb_LI G cI cL s H locs x y a0) (hl : lv_has ls 9 [(4, .int (nI i)), (3, .ref a0), (2, .ref y), (1, .ref x), (0, .ref b)]) (kk : ∀ (H : Heap) (locs : List Loc), fb_LI G cI cL s H locs x y a0 → ∀ ls : Array Slot, lv_has ls 9 [(4, .int (nI i)), (3, .ref a0), (2, .ref y), (1, .ref x), (0, .ref b)] → W p l e room_1 s m #[Value.ref b] below meth c H locs (cells + 2) (slots + 18) Q (F0 m 1294 ls [])) : W p l e room_1 s m #[Value.ref b] below meth c H locs cells slots Q (F0 m 1033 ls []) := by
  obtain ⟨h, n, o, d, f, h2, n2, o2, d2, f2, nf, uf, df, tf, w, dy, mf, vf, ef, sf, tw, ty, fo, n3, d3, f3, o3, pf, df3, tf3, uf3, th, I, hP, hD, hS⟩ := hI
  by_cases hp : xs (i + 1) < 1 ∨ 100 < xs (i + 1)
  · exact fb_s_foresee_b1 hst9 C0 hL hi hcs I hP hD hS hl _ _ hp rfl rfl kk
  obtain ⟨q, hq, hq2, e1⟩ := fb_nt (a := 1) (z := 100) (by decide) (by decide) hp
  by_cases hv2 : xs (i + 2) < 2 ∨ 6 < xs (i + 2)
  · exact fb_s_foresee_b2 hst9 C0 hL hi hcs I hP hD hS hl _ _ hq hq2 hv2 e1 rfl kk
  obtain ⟨r, hr2, hr7, e2⟩ := fb_nt (a := 2) (z := 6) (by decide) (by decide) hv2
  exact fb_s_foresee_ok hst9 C0 hL hi hcs I hP hD hS hl _ _ hq hq2 hr2 (by omega) e1 e2 kk
theorem fb_u_until {p : Program} {l : Launch} {e : Env} {s : State} {m : MethodId} {below : List Frame} {meth : Method} {c : Code} {b L : Nat} {xs : Nat → Int32} {G : va_G} {cI cL : ClassId} {Q : State → Prop} {cells slots i x y a0 : Nat} {H : Heap} {locs : List Loc} {ls : Array Slot} (hst9 : l.stackTraces = false) (C0 : fb_At p s m meth c b L xs G cI cL) (hL : L ≤ 1536) (hi : i + 3 ≤ L) (hcs : cells + 2 ≤ 601024 ∧ slots + 18 ≤ 7293034) (hI : fb_LI G cI cL s H locs x y a0) (hl : lv_has ls 9 [(4, .int (nI i)), (3, .ref a0), (2, .ref y), (1, .ref x), (0, .ref b)]) (kk : ∀ (H : Heap) (locs : List Loc), fb_LI G cI cL s H locs x y a0 → ∀ ls : Array Slot, lv_has ls 9 [(4, .int (nI i)), (3, .ref a0), (2, .ref y), (1, .ref x), (0, .ref b)] → W p l e room_1 s m #[Value.ref b] below meth c H locs (cells + 2) (slots + 18) Q (F0 m 1294 ls [])) : W p l e room_1 s m #[Value.ref b] below meth c H locs cells slots Q (F0 m 1101 ls []) := by
  obtain ⟨h, n, o, d, f, h2, n2, o2, d2, f2, nf, uf, df, tf, w, dy, mf, vf, ef, sf, tw, ty, fo, n3, d3, f3, o3, pf, df3, tf3, uf3, th, I, hP, hD, hS⟩ := hI
  by_cases hv2 : xs (i + 1) < 1 ∨ 9999 < xs (i + 1)
  · exact fb_s_until_b1 hst9 C0 hL hi hcs I hP hD hS hl _ hv2 rfl kk
  exact fb_s_until_ok hst9 C0 hL hi hcs I hP hD hS hl _ hv2 rfl kk
theorem fb_u_tuneAll {p : Program} {l : Launch} {e : Env} {s : State} {m : MethodId} {below : List Frame} {meth : Method} {c : Code} {b L : Nat} {xs : Nat → Int32} {G : va_G} {cI cL : ClassId} {Q : State → Prop} {cells slots i x y a0 : Nat} {H : Heap} {locs : List Loc} {ls : Array Slot} (hst9 : l.stackTraces = false) (C0 : fb_At p s m meth c b L xs G cI cL) (hL : L ≤ 1536) (hi : i + 3 ≤ L) (hcs : cells + 2 ≤ 601024 ∧ slots + 18 ≤ 7293034) (hI : fb_LI G cI cL s H locs x y a0) (hl : lv_has ls 9 [(4, .int (nI i)), (3, .ref a0), (2, .ref y), (1, .ref x), (0, .ref b)]) (kk : ∀ (H : Heap) (locs : List Loc), fb_LI G cI cL s H locs x y a0 → ∀ ls : Array Slot, lv_has ls 9 [(4, .int (nI i)), (3, .ref a0), (2, .ref y), (1, .ref x), (0, .ref b)] → W p l e room_1 s m #[Value.ref b] below meth c H locs (cells + 2) (slots + 18) Q (F0 m 1294 ls [])) : W p l e room_1 s m #[Value.ref b] below meth c H locs cells slots Q (F0 m 512 ls []) := by
  obtain ⟨h, n, o, d, f, h2, n2, o2, d2, f2, nf, uf, df, tf, w, dy, mf, vf, ef, sf, tw, ty, fo, n3, d3, f3, o3, pf, df3, tf3, uf3, th, I, hP, hD, hS⟩ := hI
  exact fb_s_tuneAll hst9 C0 hL hi hcs I hP hD hS hl  kk
theorem fb_u_advise {p : Program} {l : Launch} {e : Env} {s : State} {m : MethodId} {below : List Frame} {meth : Method} {c : Code} {b L : Nat} {xs : Nat → Int32} {G : va_G} {cI cL : ClassId} {Q : State → Prop} {cells slots i x y a0 : Nat} {H : Heap} {locs : List Loc} {ls : Array Slot} (hst9 : l.stackTraces = false) (C0 : fb_At p s m meth c b L xs G cI cL) (hL : L ≤ 1536) (hi : i + 3 ≤ L) (hcs : cells + 2 ≤ 601024 ∧ slots + 18 ≤ 7293034) (hI : fb_LI G cI cL s H locs x y a0) (hl : lv_has ls 9 [(4, .int (nI i)), (3, .ref a0), (2, .ref y), (1, .ref x), (0, .ref b)]) (kk : ∀ (H : Heap) (locs : List Loc), fb_LI G cI cL s H locs x y a0 → ∀ ls : Array Slot, lv_has ls 9 [(4, .int (nI i)), (3, .ref a0), (2, .ref y), (1, .ref x), (0, .ref b)] → W p l e room_1 s m #[Value.ref b] below meth c H locs (cells + 2) (slots + 18) Q (F0 m 1294 ls [])) : W p l e room_1 s m #[Value.ref b] below meth c H locs cells slots Q (F0 m 1157 ls []) := by
  obtain ⟨h, n, o, d, f, h2, n2, o2, d2, f2, nf, uf, df, tf, w, dy, mf, vf, ef, sf, tw, ty, fo, n3, d3, f3, o3, pf, df3, tf3, uf3, th, I, hP, hD, hS⟩ := hI
  exact fb_s_advise hst9 C0 hL hi hcs I hP hD hS hl  kk
theorem fb_u_next {p : Program} {l : Launch} {e : Env} {s : State} {m : MethodId} {below : List Frame} {meth : Method} {c : Code} {b L : Nat} {xs : Nat → Int32} {G : va_G} {cI cL : ClassId} {Q : State → Prop} {cells slots i x y a0 : Nat} {H : Heap} {locs : List Loc} {ls : Array Slot} (hst9 : l.stackTraces = false) (C0 : fb_At p s m meth c b L xs G cI cL) (hL : L ≤ 1536) (hi : i + 3 ≤ L) (hcs : cells + 2 ≤ 601024 ∧ slots + 18 ≤ 7293034) (hI : fb_LI G cI cL s H locs x y a0) (hl : lv_has ls 9 [(4, .int (nI i)), (3, .ref a0), (2, .ref y), (1, .ref x), (0, .ref b)]) (kk : ∀ (H : Heap) (locs : List Loc), fb_LI G cI cL s H locs x y a0 → ∀ ls : Array Slot, lv_has ls 9 [(4, .int (nI i)), (3, .ref a0), (2, .ref y), (1, .ref x), (0, .ref b)] → W p l e room_1 s m #[Value.ref b] below meth c H locs (cells + 2) (slots + 18) Q (F0 m 1294 ls [])) : W p l e room_1 s m #[Value.ref b] below meth c H locs cells slots Q (F0 m 1226 ls []) := by
  obtain ⟨h, n, o, d, f, h2, n2, o2, d2, f2, nf, uf, df, tf, w, dy, mf, vf, ef, sf, tw, ty, fo, n3, d3, f3, o3, pf, df3, tf3, uf3, th, I, hP, hD, hS⟩ := hI
  exact fb_s_next hst9 C0 hL hi hcs I hP hD hS hl  kk
theorem fb_u_digest {p : Program} {l : Launch} {e : Env} {s : State} {m : MethodId} {below : List Frame} {meth : Method} {c : Code} {b L : Nat} {xs : Nat → Int32} {G : va_G} {cI cL : ClassId} {Q : State → Prop} {cells slots i x y a0 : Nat} {H : Heap} {locs : List Loc} {ls : Array Slot} (hst9 : l.stackTraces = false) (C0 : fb_At p s m meth c b L xs G cI cL) (hL : L ≤ 1536) (hi : i + 3 ≤ L) (hcs : cells + 2 ≤ 601024 ∧ slots + 18 ≤ 7293034) (hI : fb_LI G cI cL s H locs x y a0) (hl : lv_has ls 9 [(4, .int (nI i)), (3, .ref a0), (2, .ref y), (1, .ref x), (0, .ref b)]) (kk : ∀ (H : Heap) (locs : List Loc), fb_LI G cI cL s H locs x y a0 → ∀ ls : Array Slot, lv_has ls 9 [(4, .int (nI i)), (3, .ref a0), (2, .ref y), (1, .ref x), (0, .ref b)] → W p l e room_1 s m #[Value.ref b] below meth c H locs (cells + 2) (slots + 18) Q (F0 m 1294 ls [])) : W p l e room_1 s m #[Value.ref b] below meth c H locs cells slots Q (F0 m 1280 ls []) := by
  obtain ⟨h, n, o, d, f, h2, n2, o2, d2, f2, nf, uf, df, tf, w, dy, mf, vf, ef, sf, tw, ty, fo, n3, d3, f3, o3, pf, df3, tf3, uf3, th, I, hP, hD, hS⟩ := hI
  exact fb_s_digest hst9 C0 hL hi hcs I hP hD hS hl  kk
theorem fb_u_mean {p : Program} {l : Launch} {e : Env} {s : State} {m : MethodId} {below : List Frame} {meth : Method} {c : Code} {b L : Nat} {xs : Nat → Int32} {G : va_G} {cI cL : ClassId} {Q : State → Prop} {cells slots i x y a0 : Nat} {H : Heap} {locs : List Loc} {ls : Array Slot} (hst9 : l.stackTraces = false) (C0 : fb_At p s m meth c b L xs G cI cL) (hL : L ≤ 1536) (hi : i + 3 ≤ L) (hcs : cells + 2 ≤ 601024 ∧ slots + 18 ≤ 7293034) (hI : fb_LI G cI cL s H locs x y a0) (hl : lv_has ls 9 [(4, .int (nI i)), (3, .ref a0), (2, .ref y), (1, .ref x), (0, .ref b)]) (kk : ∀ d9 : Drawn, s.drawn.sameBut d9 lw_cs → ∀ (H : Heap) (locs : List Loc), fb_LI G cI cL (s.setDrawn d9) H locs x y a0 → ∀ ls : Array Slot, lv_has ls 9 [(4, .int (nI i)), (3, .ref a0), (2, .ref y), (1, .ref x), (0, .ref b)] → W p l e room_1 (s.setDrawn d9) m #[Value.ref b] below meth c H locs (cells + 2) (slots + 18) Q (F0 m 1294 ls [])) : W p l e room_1 s m #[Value.ref b] below meth c H locs cells slots Q (F0 m 1239 ls []) := by
  obtain ⟨h, n, o, d, f, h2, n2, o2, d2, f2, nf, uf, df, tf, w, dy, mf, vf, ef, sf, tw, ty, fo, n3, d3, f3, o3, pf, df3, tf3, uf3, th, I, hP, hD, hS⟩ := hI
  exact fb_s_mean hst9 C0 hL hi hcs I hP hD hS hl  kk
theorem fb_and31 (x : Int32) : ∃ t : Nat, t < 32 ∧ x &&& 31 = nI t := by
  have h1 : (x &&& 31).toBitVec = x.toBitVec &&& 31#32 := rfl
  have h0 : (31#32).msb = false := by decide
  have h2 : (x &&& 31).toInt = ((x &&& 31).toBitVec.toNat : Int) := BitVec.toInt_eq_toNat_of_msb (by rw [h1, BitVec.msb_and, h0]; exact Bool.and_false _)
  have h3 : (x &&& 31).toBitVec.toNat ≤ 31 := by
    rw [h1, BitVec.toNat_and]
    exact Nat.and_le_right
  obtain ⟨j, hj, e⟩ := nI_of (x := x &&& 31) (fun h => by
    have h4 := Int32.lt_iff_toInt_lt.mp h
    have e0 : (0 : Int32).toInt = 0 := by decide
    omega)
  refine ⟨j, ?_, e⟩
  have h5 : (nI j).toInt = j := nI_toInt hj
  rw [← e, h2] at h5
  omega
set_option maxHeartbeats 4000000 in
set_option maxRecDepth 100000 in
theorem fb_loop {p : Program} {l : Launch} {e : Env} {s : State} {m : MethodId} {below : List Frame} {meth : Method} {c : Code} {b L : Nat} {xs : Nat → Int32} {G : va_G} {cI cL : ClassId} {x y a0 : Nat} (hst9 : l.stackTraces = false) (C0 : fb_At p s m meth c b L xs G cI cL) (hL : L ≤ 1536) :
    ∀ (n9 j : Nat) (d0 : Drawn), s.drawn.sameBut d0 lw_cs → 513 ≤ j + n9 → 3 * j ≤ L → ∀ (H : Heap) (locs : List Loc), fb_LI G cI cL (s.setDrawn d0) H locs x y a0 → ∀ ls : Array Slot, lv_has ls 9 [(4, .int (nI (3 * j))), (3, .ref a0), (2, .ref y), (1, .ref x), (0, .ref b)] → W p l e room_1 (s.setDrawn d0) m #[Value.ref b] below meth c H locs (20 + 2 * j) (300 + 18 * j) (lw_Z below #[Value.ref b] s) (F0 m 23 ls []) := by
  intro n9
  induction n9 with
  | zero => intro j d0 _ h1 h2; exact absurd h2 (by omega)
  | succ n9 ih =>
    intro j d0 hd0 hn hj3 H locs hI ls hl
    have C1 := C0.drawn d0
    obtain ⟨hx, hb, hr, hml, hown, hts, hXs, hbl, hlk, hK, hX, hE⟩ := id C1
    obtain ⟨_, _, _, _, _, _, _, _, _, _, _, _, _, _, _, _, _, _, _, _, _, _, _, _, _, _, _, _, _, _, _, _, _, _, _, hS⟩ := id hI
    have hbA : ¬ fb_lA (s.setDrawn d0) b := Nat.not_le.mpr hbl
    have K : ∀ d9 : Drawn, s.drawn.sameBut d9 lw_cs → ∀ (H : Heap) (locs : List Loc), fb_LI G cI cL (s.setDrawn d9) H locs x y a0 → 3 * j + 3 ≤ L → ∀ ls : Array Slot, lv_has ls 9 [(4, .int (nI (3 * j))), (3, .ref a0), (2, .ref y), (1, .ref x), (0, .ref b)] → W p l e room_1 (s.setDrawn d9) m #[Value.ref b] below meth c H locs (20 + 2 * j + 2) (300 + 18 * j + 18) (lw_Z below #[Value.ref b] s) (F0 m 1294 ls []) := by
      intro d9 hd9 H locs hI h3 ls hl
      refine lv_iinc (v := nI (3 * (j + 1))) (lv' := [(4, .int (nI (3 * (j + 1)))), (3, .ref a0), (2, .ref y), (1, .ref x), (0, .ref b)]) hx hb dL_law_1294 hl (k := 0) rfl (show nI (3 * j) + 3 = nI (3 * j + 3) from nI_add (3 * j) 3) (by decide) rfl (fun ls hl => ?_)
      refine lv_goto (tgt := 23) hx hb dL_law_1297 (by decide) ?_
      refine W.widen (k := 20 + 2 * (j + 1)) (n := 300 + 18 * (j + 1)) (by omega) (by omega) ?_
      exact ih (j + 1) d9 hd9 (by omega) (by omega) H locs hI ls hl
    refine lv_iload hx hb dL_law_23 (lv_at hl 0 rfl) ?_
    refine lv_aload_n hx hb dL_law_25 rfl (lv_at hl 4 rfl) ?_
    refine va_slen hx hb hXs hbl hbA hS dL_law_26 ?_
    refine lv_iconst (v := 3) hx hb dL_law_27 (by decide) ?_
    refine lv_isub hx hb dL_law_28 ?_
    have eL : (Int32.ofNat L - 3).toInt = (L : Int) - 3 := by
      have e3 : (3 : Int32).toInt = 3 := by decide
      have e4 : (Int32.ofNat L).toInt = (L : Int) := nI_toInt (n := L) (by omega)
      rw [fb_is (by omega) (by omega), e3, e4]
    refine lv_icmp_gt (tgt := 1300) hx hb dL_law_29 (by decide) (fun c29 => ?_) (fun c29 => ?_)
    · refine lv_iconst (v := 1) hx hb dL_law_1300 (by decide) ?_
      refine va_forget (fun q hq => hS.2.2 q hq) ?_
      refine W.widen (k := 601024) (n := 7293034) (by omega) (by omega) ?_
      exact lw_ret hd0 hx hb hr hlk dL_law_1301
    have hi3 : 3 * j + 3 ≤ L := by
      have h5 := fb_ge c29
      rw [eL, nI_toInt (by omega)] at h5
      omega
    have hcs : 20 + 2 * j + 2 ≤ 601024 ∧ 300 + 18 * j + 18 ≤ 7293034 := by omega
    refine lv_aload_n hx hb dL_law_32 rfl (lv_at hl 4 rfl) ?_
    refine lv_iload hx hb dL_law_33 (lv_at hl 0 rfl) ?_
    refine va_sld hx hb hXs hbl hbA hS (vp_in_nI (by omega) (by omega)) dL_law_35 ?_
    refine lv_bipush (v := 31) hx hb dL_law_36 (by decide) ?_
    refine lv_iand hx hb dL_law_38 ?_
    obtain ⟨t, ht, et⟩ := fb_and31 (xs (nI (3 * j)).toNatClampNeg)
    refine fb_ti (z := nI t) et ?_
    clear et
    rcases (show t = 0 ∨ t = 1 ∨ t = 2 ∨ t = 3 ∨ t = 4 ∨ t = 5 ∨ t = 6 ∨ t = 7 ∨ t = 8 ∨ t = 9 ∨ t = 10 ∨ t = 11 ∨ t = 12 ∨ t = 13 ∨ t = 14 ∨ t = 15 ∨ t = 16 ∨ t = 17 ∨ t = 18 ∨ t = 19 ∨ t = 20 ∨ t = 21 ∨ t = 22 ∨ t = 23 ∨ t = 24 ∨ t = 25 ∨ t = 26 ∨ t = 27 ∨ t = 28 ∨ t = 29 ∨ t = 30 ∨ t = 31 by omega) with rfl | rfl | rfl | rfl | rfl | rfl | rfl | rfl | rfl | rfl | rfl | rfl | rfl | rfl | rfl | rfl | rfl | rfl | rfl | rfl | rfl | rfl | rfl | rfl | rfl | rfl | rfl | rfl | rfl | rfl | rfl | rfl
    · refine lv_tableIn (off := 101) (tgt := 140) hx hb dL_law_39 (by decide +kernel) (by decide +kernel) (by decide +kernel) (by decide) ?_
      exact fb_u_setFifth hst9 C1 hL hi3 hcs hI hl (fun H locs hI ls hl => K d0 hd0 H locs hI hi3 ls hl)
    · refine lv_tableIn (off := 169) (tgt := 208) hx hb dL_law_39 (by decide +kernel) (by decide +kernel) (by decide +kernel) (by decide) ?_
      exact fb_u_shift hst9 C1 hL hi3 hcs hI hl (fun H locs hI ls hl => K d0 hd0 H locs hI hi3 ls hl)
    · refine lv_tableIn (off := 225) (tgt := 264) hx hb dL_law_39 (by decide +kernel) (by decide +kernel) (by decide +kernel) (by decide) ?_
      exact fb_u_spread hst9 C1 hL hi3 hcs hI hl (fun H locs hI ls hl => K d0 hd0 H locs hI hi3 ls hl)
    · refine lv_tableIn (off := 281) (tgt := 320) hx hb dL_law_39 (by decide +kernel) (by decide +kernel) (by decide +kernel) (by decide) ?_
      exact fb_u_setOften hst9 C1 hL hi3 hcs hI hl (fun H locs hI ls hl => K d0 hd0 H locs hI hi3 ls hl)
    · refine lv_tableIn (off := 349) (tgt := 388) hx hb dL_law_39 (by decide +kernel) (by decide +kernel) (by decide +kernel) (by decide) ?_
      exact fb_u_setDrift hst9 C1 hL hi3 hcs hI hl (fun H locs hI ls hl => K d0 hd0 H locs hI hi3 ls hl)
    · refine lv_tableIn (off := 417) (tgt := 456) hx hb dL_law_39 (by decide +kernel) (by decide +kernel) (by decide +kernel) (by decide) ?_
      exact fb_u_tune hst9 C1 hL hi3 hcs hI hl (fun H locs hI ls hl => K d0 hd0 H locs hI hi3 ls hl)
    · refine lv_tableIn (off := 473) (tgt := 512) hx hb dL_law_39 (by decide +kernel) (by decide +kernel) (by decide +kernel) (by decide) ?_
      exact fb_u_tuneAll hst9 C1 hL hi3 hcs hI hl (fun H locs hI ls hl => K d0 hd0 H locs hI hi3 ls hl)
    · refine lv_tableIn (off := 486) (tgt := 525) hx hb dL_law_39 (by decide +kernel) (by decide +kernel) (by decide +kernel) (by decide) ?_
      exact fb_u_sweeten hst9 C1 hL hi3 hcs hI hl (fun H locs hI ls hl => K d0 hd0 H locs hI hi3 ls hl)
    · refine lv_tableIn (off := 542) (tgt := 581) hx hb dL_law_39 (by decide +kernel) (by decide +kernel) (by decide +kernel) (by decide) ?_
      exact fb_u_pass hst9 C1 hL hi3 hcs hI hl (fun H locs hI ls hl => K d0 hd0 H locs hI hi3 ls hl)
    · refine lv_tableIn (off := 598) (tgt := 637) hx hb dL_law_39 (by decide +kernel) (by decide +kernel) (by decide +kernel) (by decide) ?_
      exact fb_u_fifth hst9 C1 hL hi3 hcs hI hl (fun H locs hI ls hl => K d0 hd0 H locs hI hi3 ls hl)
    · refine lv_tableIn (off := 666) (tgt := 705) hx hb dL_law_39 (by decide +kernel) (by decide +kernel) (by decide +kernel) (by decide) ?_
      exact fb_u_major hst9 C1 hL hi3 hcs hI hl (fun H locs hI ls hl => K d0 hd0 H locs hI hi3 ls hl)
    · refine lv_tableIn (off := 734) (tgt := 773) hx hb dL_law_39 (by decide +kernel) (by decide +kernel) (by decide +kernel) (by decide) ?_
      exact fb_u_minor hst9 C1 hL hi3 hcs hI hl (fun H locs hI ls hl => K d0 hd0 H locs hI hi3 ls hl)
    · refine lv_tableIn (off := 802) (tgt := 841) hx hb dL_law_39 (by decide +kernel) (by decide +kernel) (by decide +kernel) (by decide) ?_
      exact fb_u_note hst9 C1 hL hi3 hcs hI hl (fun H locs hI ls hl => K d0 hd0 H locs hI hi3 ls hl)
    · refine lv_tableIn (off := 870) (tgt := 909) hx hb dL_law_39 (by decide +kernel) (by decide +kernel) (by decide +kernel) (by decide) ?_
      exact fb_u_key hst9 C1 hL hi3 hcs hI hl (fun H locs hI ls hl => K d0 hd0 H locs hI hi3 ls hl)
    · refine lv_tableIn (off := 938) (tgt := 977) hx hb dL_law_39 (by decide +kernel) (by decide +kernel) (by decide +kernel) (by decide) ?_
      exact fb_u_count hst9 C1 hL hi3 hcs hI hl (fun H locs hI ls hl => K d0 hd0 H locs hI hi3 ls hl)
    · refine lv_tableIn (off := 994) (tgt := 1033) hx hb dL_law_39 (by decide +kernel) (by decide +kernel) (by decide +kernel) (by decide) ?_
      exact fb_u_foresee hst9 C1 hL hi3 hcs hI hl (fun H locs hI ls hl => K d0 hd0 H locs hI hi3 ls hl)
    · refine lv_tableIn (off := 1062) (tgt := 1101) hx hb dL_law_39 (by decide +kernel) (by decide +kernel) (by decide +kernel) (by decide) ?_
      exact fb_u_until hst9 C1 hL hi3 hcs hI hl (fun H locs hI ls hl => K d0 hd0 H locs hI hi3 ls hl)
    · refine lv_tableIn (off := 1118) (tgt := 1157) hx hb dL_law_39 (by decide +kernel) (by decide +kernel) (by decide +kernel) (by decide) ?_
      exact fb_u_advise hst9 C1 hL hi3 hcs hI hl (fun H locs hI ls hl => K d0 hd0 H locs hI hi3 ls hl)
    · refine lv_tableIn (off := 1131) (tgt := 1170) hx hb dL_law_39 (by decide +kernel) (by decide +kernel) (by decide +kernel) (by decide) ?_
      exact fb_u_temper hst9 C1 hL hi3 hcs hI hl (fun H locs hI ls hl => K d0 hd0 H locs hI hi3 ls hl)
    · refine lv_tableIn (off := 1187) (tgt := 1226) hx hb dL_law_39 (by decide +kernel) (by decide +kernel) (by decide +kernel) (by decide) ?_
      exact fb_u_next hst9 C1 hL hi3 hcs hI hl (fun H locs hI ls hl => K d0 hd0 H locs hI hi3 ls hl)
    · refine lv_tableIn (off := 1200) (tgt := 1239) hx hb dL_law_39 (by decide +kernel) (by decide +kernel) (by decide +kernel) (by decide) ?_
      exact fb_u_mean hst9 C1 hL hi3 hcs hI hl (fun d9 hd9 H locs hI ls hl => K d9 (hd0.trans hd9) H locs hI hi3 ls hl)
    · refine lv_tableIn (off := 1241) (tgt := 1280) hx hb dL_law_39 (by decide +kernel) (by decide +kernel) (by decide +kernel) (by decide) ?_
      exact fb_u_digest hst9 C1 hL hi3 hcs hI hl (fun H locs hI ls hl => K d0 hd0 H locs hI hi3 ls hl)
    · refine lv_tableOut (tgt := 1294) hx hb dL_law_39 (by decide +kernel) (by decide) ?_
      refine W.widen (k := 20 + 2 * j + 2) (n := 300 + 18 * j + 18) (by omega) (by omega) ?_
      exact K d0 hd0 H locs hI hi3 ls hl
    · refine lv_tableOut (tgt := 1294) hx hb dL_law_39 (by decide +kernel) (by decide) ?_
      refine W.widen (k := 20 + 2 * j + 2) (n := 300 + 18 * j + 18) (by omega) (by omega) ?_
      exact K d0 hd0 H locs hI hi3 ls hl
    · refine lv_tableOut (tgt := 1294) hx hb dL_law_39 (by decide +kernel) (by decide) ?_
      refine W.widen (k := 20 + 2 * j + 2) (n := 300 + 18 * j + 18) (by omega) (by omega) ?_
      exact K d0 hd0 H locs hI hi3 ls hl
    · refine lv_tableOut (tgt := 1294) hx hb dL_law_39 (by decide +kernel) (by decide) ?_
      refine W.widen (k := 20 + 2 * j + 2) (n := 300 + 18 * j + 18) (by omega) (by omega) ?_
      exact K d0 hd0 H locs hI hi3 ls hl
    · refine lv_tableOut (tgt := 1294) hx hb dL_law_39 (by decide +kernel) (by decide) ?_
      refine W.widen (k := 20 + 2 * j + 2) (n := 300 + 18 * j + 18) (by omega) (by omega) ?_
      exact K d0 hd0 H locs hI hi3 ls hl
    · refine lv_tableOut (tgt := 1294) hx hb dL_law_39 (by decide +kernel) (by decide) ?_
      refine W.widen (k := 20 + 2 * j + 2) (n := 300 + 18 * j + 18) (by omega) (by omega) ?_
      exact K d0 hd0 H locs hI hi3 ls hl
    · refine lv_tableOut (tgt := 1294) hx hb dL_law_39 (by decide +kernel) (by decide) ?_
      refine W.widen (k := 20 + 2 * j + 2) (n := 300 + 18 * j + 18) (by omega) (by omega) ?_
      exact K d0 hd0 H locs hI hi3 ls hl
    · refine lv_tableOut (tgt := 1294) hx hb dL_law_39 (by decide +kernel) (by decide) ?_
      refine W.widen (k := 20 + 2 * j + 2) (n := 300 + 18 * j + 18) (by omega) (by omega) ?_
      exact K d0 hd0 H locs hI hi3 ls hl
    · refine lv_tableOut (tgt := 1294) hx hb dL_law_39 (by decide +kernel) (by decide) ?_
      refine W.widen (k := 20 + 2 * j + 2) (n := 300 + 18 * j + 18) (by omega) (by omega) ?_
      exact K d0 hd0 H locs hI hi3 ls hl
    · refine lv_tableOut (tgt := 1294) hx hb dL_law_39 (by decide +kernel) (by decide) ?_
      refine W.widen (k := 20 + 2 * j + 2) (n := 300 + 18 * j + 18) (by omega) (by omega) ?_
      exact K d0 hd0 H locs hI hi3 ls hl
