/-! what the law keeps between the two sides, call by call -/
def fb_in (f : Nat → Int32) (a z : Int) : Prop := ∀ k, k < 12 → a ≤ (f k).toInt ∧ (f k).toInt ≤ z
def fb_bp (p : Nat → Int32) (w : Nat) : Prop := ∀ k, k < 12 → ¬ k = w → -10 ≤ (p k).toInt ∧ (p k).toInt ≤ 20
def fb_Iv (nf uf df tf : Nat → Int32) (w : Nat) (pf df3 tf3 uf3 : Nat → Int32) : Prop :=
  w < 12 ∧ fb_rg nf = fb_ep pf w ∧ fb_rg uf3 = fb_rg uf ∧ fb_rg df3 = fb_rg df ∧ fb_rg tf3 = fb_rg tf ∧ fb_bp pf w ∧ fb_in uf (-50) 50 ∧ fb_in tf 0 9
theorem fb_ge {v a : Int32} (h : ¬ v < a) : a.toInt ≤ v.toInt := Int32.le_iff_toInt_le.mp (Int32.not_lt.mp h)
theorem fb_rng {v a z : Int32} (h : ¬ (v < a ∨ z < v)) : a.toInt ≤ v.toInt ∧ v.toInt ≤ z.toInt := ⟨fb_ge (fun e => h (Or.inl e)), fb_ge (fun e => h (Or.inr e))⟩
theorem fb_in_u {f : Nat → Int32} {a z : Int} {j : Nat} {v : Int32} (h : fb_in f a z) (hv : a ≤ v.toInt ∧ v.toInt ≤ z) : fb_in (upd f j v) a z := by
  intro k hk
  by_cases e : k = j
  · subst e
    rw [pk_us]
    exact hv
  · rw [pk_un e]
    exact h k hk
theorem fb_bp_u {f : Nat → Int32} {w j : Nat} {v : Int32} (h : fb_bp f w) (hv : -10 ≤ v.toInt ∧ v.toInt ≤ 20) : fb_bp (upd f j v) w := by
  intro k hk hn
  by_cases e : k = j
  · subst e
    rw [pk_us]
    exact hv
  · rw [pk_un e]
    exact h k hk hn
theorem fb_hd_in (x : Int32) : -50 ≤ (fb_hd x).toInt ∧ (fb_hd x).toInt ≤ 50 := by
  have e1 : (-50 : Int32).toInt = -50 := by decide
  have e2 : (50 : Int32).toInt = 50 := by decide
  unfold fb_hd fb_mx fb_mn
  by_cases h1 : x < 50
  · rw [if_pos h1]
    have h3 := Int32.lt_iff_toInt_lt.mp h1
    by_cases h2 : (-50 : Int32) < x
    · rw [if_pos h2]
      have h4 := Int32.lt_iff_toInt_lt.mp h2
      omega
    · rw [if_neg h2]
      omega
  · rw [if_neg h1, if_pos (by decide)]
    omega
theorem fb_ru {f g : Nat → Int32} (h : fb_rg f = fb_rg g) (j : Nat) (v : Int32) : fb_rg (upd f j v) = fb_rg (upd g j v) := fb_rg_eq (fun k hk => by
  by_cases e : k = j
  · subst e
    rw [pk_us, pk_us]
  · rw [pk_un e, pk_un e]
    have h2 := congrFun h k
    rw [fb_rg_lt hk, fb_rg_lt hk] at h2
    exact h2)
theorem fb_rt1 {f g : Nat → Int32} (h : fb_rg f = fb_rg g) (j : Nat) : fb_rg (fb_t1 f j) = fb_rg (fb_t1 g j) := by rw [fb_rg_t1 f, h, ← fb_rg_t1 g]
theorem fb_rtr {f g : Nat → Int32} (h : fb_rg f = fb_rg g) (j : Nat) : fb_tr f j = fb_tr g j := by
  unfold fb_tr
  rw [h]
theorem fb_rtu {f g : Nat → Int32} (h : fb_rg f = fb_rg g) (w : Nat) : ∀ i, fb_rg (fb_tu f w i) = fb_rg (fb_tu g w i)
  | 0 => h
  | i + 1 => fb_rt1 (fb_rtu h w i) (w + (2 + i))
theorem fb_rtc {f g : Nat → Int32} (h : fb_rg f = fb_rg g) (w : Nat) : ∀ i, fb_tc f w i = fb_tc g w i
  | 0 => rfl
  | i + 1 => by
    show (if fb_tr (fb_tu f w i) (w + (2 + i)) = 0 then fb_tc f w i else fb_tc f w i + 1) = (if fb_tr (fb_tu g w i) (w + (2 + i)) = 0 then fb_tc g w i else fb_tc g w i + 1)
    rw [fb_rtr (fb_rtu h w i), fb_rtc h w i]
theorem fb_rat {f g : Nat → Int32} (h : fb_rg f = fb_rg g) {k : Nat} (hk : k < 12) : f k = g k := by
  have h2 := congrFun h k
  rw [fb_rg_lt hk, fb_rg_lt hk] at h2
  exact h2
theorem fb_rdy {D O D' O' : Nat → Int32} (hD : fb_rg D = fb_rg D') (hO : fb_rg O = fb_rg O') (q : Nat) : fb_rg (fb_dy D O q) = fb_rg (fb_dy D' O' q) :=
  fb_rg_eq (fb_rg_dy (fun _ hk => fb_rat hD hk) (fun _ hk => fb_rat hO hk) q)
theorem fb_in_t1 {f : Nat → Int32} {a z : Int} (h : fb_in f a z) (j : Nat) : fb_in (fb_t1 f j) a z := fb_in_u h (h _ (Nat.mod_lt _ (by decide)))
theorem fb_in_tu {f : Nat → Int32} {a z : Int} (h : fb_in f a z) (w : Nat) : ∀ i, fb_in (fb_tu f w i) a z
  | 0 => h
  | i + 1 => fb_in_t1 (fb_in_tu h w i) _
theorem fb_in_dy (D : Nat → Int32) {O : Nat → Int32} (h : fb_in O (-50) 50) : ∀ q, fb_in (fb_dy D O q) (-50) 50
  | 0 => h
  | q + 1 => fun k hk => by
    show -50 ≤ ((if k < 12 then fb_hd (fb_dy D O q k + D k) else fb_dy D O q k) : Int32).toInt ∧ ((if k < 12 then fb_hd (fb_dy D O q k + D k) else fb_dy D O q k) : Int32).toInt ≤ 50
    rw [if_pos hk]
    exact fb_hd_in _
theorem fb_sv_in {q i : Nat} (h1 : 2 ≤ q) (h2 : q ≤ 11) (hi : i < 11) : -10 ≤ (fb_sv q i).toInt ∧ (fb_sv q i).toInt ≤ 20 := by
  have h : ∀ q, q < 12 → 2 ≤ q → ∀ i, i < 11 → -10 ≤ (fb_sv q i).toInt ∧ (fb_sv q i).toInt ≤ 20 := by decide +kernel
  exact h q (by omega) h1 i hi
theorem fb_bp_sp {p : Nat → Int32} {w q : Nat} (h : fb_bp p w) (h1 : 2 ≤ q) (h2 : q ≤ 11) : ∀ i, i ≤ 11 → fb_bp (fb_sp p w q i) w
  | 0, _ => h
  | i + 1, hi => fb_bp_u (fb_bp_sp h h1 h2 i (by omega)) (fb_sv_in h1 h2 (by omega))
/-- the places that a spread reaches, and no others -/
theorem fb_sp_cg {p p' : Nat → Int32} {w : Nat} (q : Nat) (h : ∀ k, k < 12 → ¬ k = w → p k = p' k) : ∀ i, ∀ k, k < 12 → ¬ k = w → fb_sp p w q i k = fb_sp p' w q i k
  | 0 => h
  | i + 1 => fun k hk hn => by
    show upd (fb_sp p w q i) ((w + 1 + i) % 12) (fb_sv q i) k = upd (fb_sp p' w q i) ((w + 1 + i) % 12) (fb_sv q i) k
    by_cases e : k = (w + 1 + i) % 12
    · rw [e, pk_us, pk_us]
    · rw [pk_un e, pk_un e]
      exact fb_sp_cg q h i k hk hn
theorem fb_ep_at {nf pf : Nat → Int32} {w : Nat} (h : fb_rg nf = fb_ep pf w) {k : Nat} (hk : k < 12) (hn : ¬ k = w) : nf k = pf k := by
  have h2 := congrFun h k
  rw [fb_rg_lt hk, fb_ep_n (by rw [Nat.mod_eq_of_lt hk]; exact hn), fb_rg_lt hk] at h2
  exact h2
section FBI
variable {nf uf df tf pf df3 tf3 uf3 : Nat → Int32} {w j q : Nat} {v : Int32}
theorem fb_v_setFifth (I : fb_Iv nf uf df tf w pf df3 tf3 uf3) (hj : j < 12) (hjw : ¬ j = w) : fb_rg nf j = fb_rg pf j := by rw [I.2.1]; exact fb_ep_n (by rw [Nat.mod_eq_of_lt hj]; exact hjw)
theorem fb_i_setFifth (I : fb_Iv nf uf df tf w pf df3 tf3 uf3) (hj : j < 12) (hjw : ¬ j = w) (hv : ¬ (v < (-10) ∨ 20 < v)) : fb_Iv (fb_pn nf w j v) uf df tf w (upd pf j v) df3 tf3 uf3 := by
  obtain ⟨hw, h1, h2, h3, h4, h5, h6, h7⟩ := I
  refine ⟨hw, ?_, h2, h3, h4, fb_bp_u h5 (fb_rng hv), h6, h7⟩
  unfold fb_pn
  rw [fb_gw_ep _ hw]
  refine fb_ep_cg (fun k hk hn => ?_)
  by_cases e : k = j
  · rw [e, pk_us, pk_us]
  · rw [pk_un e, pk_un e]
    exact fb_ep_at h1 hk hn
theorem fb_i_shift (I : fb_Iv nf uf df tf w pf df3 tf3 uf3) (hj : j < 12) : fb_Iv (fb_mw nf w j) uf df tf j (upd pf w (fb_ep pf w j)) df3 tf3 uf3 := by
  obtain ⟨hw, h1, h2, h3, h4, h5, h6, h7⟩ := I
  refine ⟨hj, by rw [fb_mw_sh nf hw hj, h1, fb_ep_sh pf hw hj], h2, h3, h4, fun k hk hn => ?_, h6, h7⟩
  by_cases e : k = w
  · subst e
    rw [pk_us, fb_ep_n (by rw [Nat.mod_eq_of_lt hj]; exact fun z => hn z.symm), fb_rg_lt hj]
    exact h5 j hj (fun z => hn z.symm)
  · rw [pk_un e]
    exact h5 k hk e
theorem fb_i_spread (I : fb_Iv nf uf df tf w pf df3 tf3 uf3) (h8 : 2 ≤ q) (h9 : q ≤ 11) : fb_Iv (fb_gw (fb_sp nf w q 11) w) uf df tf w (fb_sp pf w q 11) df3 tf3 uf3 := by
  obtain ⟨hw, h1, h2, h3, h4, h5, h6, h7⟩ := I
  exact ⟨hw, by rw [fb_gw_ep _ hw]; exact fb_ep_cg (fb_sp_cg q (fun k hk hn => fb_ep_at h1 hk hn) 11), h2, h3, h4, fb_bp_sp h5 h8 h9 11 (Nat.le_refl 11), h6, h7⟩
theorem fb_i_setOften (I : fb_Iv nf uf df tf w pf df3 tf3 uf3) (hv : ¬ (v < 0 ∨ 9 < v)) : fb_Iv nf uf df (upd tf j v) w pf df3 (upd tf3 j v) uf3 :=
  ⟨I.1, I.2.1, I.2.2.1, I.2.2.2.1, fb_ru I.2.2.2.2.1 j v, I.2.2.2.2.2.1, I.2.2.2.2.2.2.1, fb_in_u I.2.2.2.2.2.2.2 (fb_rng hv)⟩
theorem fb_i_setDrift (I : fb_Iv nf uf df tf w pf df3 tf3 uf3) : fb_Iv nf uf (upd df j v) tf w pf (upd df3 j v) tf3 uf3 :=
  ⟨I.1, I.2.1, I.2.2.1, fb_ru I.2.2.2.1 j v, I.2.2.2.2⟩
theorem fb_i_tune (I : fb_Iv nf uf df tf w pf df3 tf3 uf3) : fb_Iv nf (fb_t1 uf j) df tf w pf df3 tf3 (fb_t1 uf3 j) :=
  ⟨I.1, I.2.1, fb_rt1 I.2.2.1 j, I.2.2.2.1, I.2.2.2.2.1, I.2.2.2.2.2.1, fb_in_t1 I.2.2.2.2.2.2.1 j, I.2.2.2.2.2.2.2⟩
theorem fb_i_tuneAll (I : fb_Iv nf uf df tf w pf df3 tf3 uf3) : fb_Iv nf (fb_tu uf w 11) df tf w pf df3 tf3 (fb_tu uf3 w 11) :=
  ⟨I.1, I.2.1, fb_rtu I.2.2.1 w 11, I.2.2.2.1, I.2.2.2.2.1, I.2.2.2.2.2.1, fb_in_tu I.2.2.2.2.2.2.1 w 11, I.2.2.2.2.2.2.2⟩
theorem fb_i_sweeten (I : fb_Iv nf uf df tf w pf df3 tf3 uf3) {x y : Int32} (hxy : x = y) (hv : ¬ (x < (-50) ∨ 50 < x)) : fb_Iv nf (upd uf j x) df tf w pf df3 tf3 (upd uf3 j y) := by
  subst hxy
  exact ⟨I.1, I.2.1, fb_ru I.2.2.1 j x, I.2.2.2.1, I.2.2.2.2.1, I.2.2.2.2.2.1, fb_in_u I.2.2.2.2.2.2.1 (fb_rng hv), I.2.2.2.2.2.2.2⟩
theorem fb_i_pass (I : fb_Iv nf uf df tf w pf df3 tf3 uf3) : fb_Iv nf (fb_dy df uf q) df tf w pf df3 tf3 (fb_dy df3 uf3 q) :=
  ⟨I.1, I.2.1, fb_rdy I.2.2.2.1 I.2.2.1 q, I.2.2.2.1, I.2.2.2.2.1, I.2.2.2.2.2.1, fb_in_dy df I.2.2.2.2.2.2.1 q, I.2.2.2.2.2.2.2⟩
theorem fb_i_copy (I : fb_Iv nf uf df tf w pf df3 tf3 uf3) : fb_Iv nf uf df tf w pf df3 tf3 (fb_cy uf3) :=
  ⟨I.1, I.2.1, (fb_rg_cy uf3).trans I.2.2.1, I.2.2.2⟩
theorem fb_i_plan {pv : Nat → Int32} (I : fb_Iv nf uf df tf w pf df3 tf3 uf3) (h : fb_ep pv w = fb_ep pf w) : fb_Iv nf uf df tf w pv df3 tf3 uf3 := by
  obtain ⟨hw, h1, h2, h3, h4, h5, h6, h7⟩ := I
  refine ⟨hw, by rw [h1, h], h2, h3, h4, fun k hk hn => ?_, h6, h7⟩
  have h8 := congrFun h k
  rw [fb_ep_n (by rw [Nat.mod_eq_of_lt hk]; exact hn), fb_ep_n (by rw [Nat.mod_eq_of_lt hk]; exact hn), fb_rg_lt hk, fb_rg_lt hk] at h8
  rw [h8]
  exact h5 k hk hn
end FBI
/-! no cost that temper meets is -1: all stay small -/
theorem fb_ia {x y : Int32} (h1 : -1000000000 ≤ x.toInt ∧ x.toInt ≤ 1000000000) (h2 : -1000000000 ≤ y.toInt ∧ y.toInt ≤ 1000000000) : (x + y).toInt = x.toInt + y.toInt := by
  rw [Int32.toInt_add]
  exact Int.bmod_eq_of_le (by omega) (by omega)
theorem fb_is {x y : Int32} (h1 : -1000000000 ≤ x.toInt ∧ x.toInt ≤ 1000000000) (h2 : -1000000000 ≤ y.toInt ∧ y.toInt ≤ 1000000000) : (x - y).toInt = x.toInt - y.toInt := by
  rw [Int32.toInt_sub]
  exact Int.bmod_eq_of_le (by omega) (by omega)
theorem fb_im {x y : Int32} (h : -1000000000 ≤ x.toInt * y.toInt ∧ x.toInt * y.toInt ≤ 1000000000) : (x * y).toInt = x.toInt * y.toInt := by
  rw [Int32.toInt_mul]
  exact Int.bmod_eq_of_le (by omega) (by omega)
theorem fb_ab_in {x : Int32} {B : Int} (hB : B ≤ 1000000000) (h : -B ≤ x.toInt ∧ x.toInt ≤ B) : 0 ≤ (fb_ab x).toInt ∧ (fb_ab x).toInt ≤ B := by
  have e0 : (0 : Int32).toInt = 0 := by decide
  unfold fb_ab
  by_cases h0 : 0 ≤ x
  · rw [if_pos h0]
    have h1 := Int32.le_iff_toInt_le.mp h0
    omega
  · rw [if_neg h0]
    have h1 : x.toInt < 0 := by
      have h2 := Int32.lt_iff_toInt_lt.mp (Int32.not_le.mp h0)
      omega
    rw [fb_is (by omega) (by omega)]
    omega
theorem fb_lf_in {p : Nat → Int32} {w : Nat} (h : ∀ k, k < 12 → ¬ k = w → -10 ≤ (p k).toInt ∧ (p k).toInt ≤ 20) : ∀ n : Nat, n ≤ 12 → 24 - 20 * (n : Int) ≤ (fb_lf p w n).toInt ∧ (fb_lf p w n).toInt ≤ 24 + 10 * (n : Int)
  | 0, _ => by
    have e : (fb_lf p w 0).toInt = 24 := (by decide : (24 : Int32).toInt = 24)
    omega
  | n + 1, hn => by
    have ih := fb_lf_in h n (by omega)
    show 24 - 20 * ((n + 1 : Nat) : Int) ≤ ((if n = w then fb_lf p w n else fb_lf p w n - p n) : Int32).toInt ∧ ((if n = w then fb_lf p w n else fb_lf p w n - p n) : Int32).toInt ≤ 24 + 10 * ((n + 1 : Nat) : Int)
    by_cases e : n = w
    · rw [if_pos e]
      omega
    · rw [if_neg e]
      have h2 := h n (by omega) e
      rw [fb_is (by omega) (by omega)]
      omega
theorem fb_ep_in {p : Nat → Int32} {w : Nat} (h : ∀ k, k < 12 → ¬ k = w → -10 ≤ (p k).toInt ∧ (p k).toInt ≤ 20) (k : Nat) : -220 ≤ (fb_ep p w k).toInt ∧ (fb_ep p w k).toInt ≤ 220 := by
  by_cases e : k % 12 = w
  · rw [fb_ep_p e]
    have h2 := fb_lf_in (p := fb_rg p) (w := w) (fun k hk hn => by rw [fb_rg_lt hk]; exact h k hk hn) 12 (Nat.le_refl 12)
    omega
  · rw [fb_ep_n e]
    have h2 := h (k % 12) (Nat.mod_lt _ (by decide)) e
    show -220 ≤ (p (k % 12)).toInt ∧ (p (k % 12)).toInt ≤ 220
    omega
section FBC
variable {P O F : Nat → Int32}
theorem fb_na_in (hP : ∀ k, -220 ≤ (P k).toInt ∧ (P k).toInt ≤ 220) (hO : ∀ k, -50 ≤ (O k).toInt ∧ (O k).toInt ≤ 50) (k : Nat) : -320 ≤ (fb_na P O k).toInt ∧ (fb_na P O k).toInt ≤ 320 := by
  have h1 := hP k
  have h2 := hO k
  have h3 := hO (k + 1)
  unfold fb_na
  have e1 : (P k + O k).toInt = (P k).toInt + (O k).toInt := fb_ia (by omega) (by omega)
  rw [fb_is (by omega) (by omega)]
  omega
theorem fb_mj_in (hP : ∀ k, -220 ≤ (P k).toInt ∧ (P k).toInt ≤ 220) (hO : ∀ k, -50 ≤ (O k).toInt ∧ (O k).toInt ≤ 50) (k : Nat) : ∀ n : Nat, n ≤ 4 → -22 - 320 * (n : Int) ≤ (fb_mj P O k n).toInt ∧ (fb_mj P O k n).toInt ≤ 22 + 320 * (n : Int)
  | 0, _ => by
    have e : (fb_mj P O k 0).toInt = 22 := (by decide : (22 : Int32).toInt = 22)
    omega
  | n + 1, hn => by
    have ih := fb_mj_in hP hO k n (by omega)
    have h2 := fb_na_in hP hO (k + n)
    show -22 - 320 * ((n + 1 : Nat) : Int) ≤ (fb_mj P O k n - fb_na P O (k + n)).toInt ∧ (fb_mj P O k n - fb_na P O (k + n)).toInt ≤ 22 + 320 * ((n + 1 : Nat) : Int)
    rw [fb_is (by omega) (by omega)]
    omega
theorem fb_so_in (hP : ∀ k, -220 ≤ (P k).toInt ∧ (P k).toInt ≤ 220) (hO : ∀ k, -50 ≤ (O k).toInt ∧ (O k).toInt ≤ 50) (k : Nat) : 0 ≤ (fb_so P O k).toInt ∧ (fb_so P O k).toInt ≤ 2000 := by
  have h1 := fb_mj_in hP hO k 4 (Nat.le_refl 4)
  have h2 := fb_ab_in (x := fb_mj P O k 4) (B := 1302) (by omega) (by omega)
  have h3 := fb_ab_in (B := 320) (by omega) (fb_na_in hP hO k)
  have e2 : (2 : Int32).toInt = 2 := by decide
  have e3 : (2 * fb_ab (fb_na P O k)).toInt = 2 * (fb_ab (fb_na P O k)).toInt := by
    rw [fb_im (by rw [e2]; omega), e2]
  unfold fb_so
  rw [fb_ia (by omega) (by omega)]
  omega
theorem fb_co_in (hP : ∀ k, -220 ≤ (P k).toInt ∧ (P k).toInt ≤ 220) (hO : ∀ k, -50 ≤ (O k).toInt ∧ (O k).toInt ≤ 50) (hF : ∀ k, 0 ≤ (F k).toInt ∧ (F k).toInt ≤ 9) : ∀ n : Nat, n ≤ 12 → 0 ≤ (fb_co P O F n).toInt ∧ (fb_co P O F n).toInt ≤ 18000 * (n : Int)
  | 0, _ => by
    have e : (fb_co P O F 0).toInt = 0 := (by decide : (0 : Int32).toInt = 0)
    omega
  | n + 1, hn => by
    have ih := fb_co_in hP hO hF n (by omega)
    have h1 := fb_so_in hP hO n
    have h2 := hF n
    have h3 : 0 ≤ (fb_so P O n).toInt * (F n).toInt := Int.mul_nonneg h1.1 h2.1
    have h4 : (fb_so P O n).toInt * (F n).toInt ≤ (fb_so P O n).toInt * 9 := Int.mul_le_mul_of_nonneg_left h2.2 h1.1
    have e1 : (fb_so P O n * F n).toInt = (fb_so P O n).toInt * (F n).toInt := fb_im (by omega)
    show 0 ≤ (fb_co P O F n + fb_so P O n * F n).toInt ∧ (fb_co P O F n + fb_so P O n * F n).toInt ≤ 18000 * ((n + 1 : Nat) : Int)
    rw [fb_ia (by omega) (by omega)]
    omega
end FBC
theorem fb_tv_in {t : Nat} (h : t < 31) : -10 ≤ (fb_tv t).toInt ∧ (fb_tv t).toInt ≤ 20 := by
  have h2 : ∀ t, t < 31 → -10 ≤ (fb_tv t).toInt ∧ (fb_tv t).toInt ≤ 20 := by decide +kernel
  exact h2 t h
theorem fb_hc {nf uf df tf pf df3 tf3 uf3 : Nat → Int32} {w : Nat} (I : fb_Iv nf uf df tf w pf df3 tf3 uf3) (j : Nat) : ∀ t, t < 31 → ¬ fb_ct (fb_ep pf w) (fb_rg uf3) (fb_rg tf3) w j t = -1 := by
  obtain ⟨hw, h1, h2, h3, h4, h5, h6, h7⟩ := I
  intro t ht e
  have h8 := fb_co_in (P := fb_ep (upd (fb_ep pf w) j (fb_tv t)) w) (O := fb_rg uf3) (F := fb_rg tf3) (fb_ep_in (fun k hk hn => by
      by_cases ek : k = j
      · rw [ek, pk_us]
        exact fb_tv_in ht
      · rw [pk_un ek, fb_ep_n (by rw [Nat.mod_eq_of_lt hk]; exact hn), fb_rg_lt hk]
        exact h5 k hk hn)) (fun k => by rw [h2]; exact h6 (k % 12) (Nat.mod_lt _ (by decide))) (fun k => by rw [h4]; exact h7 (k % 12) (Nat.mod_lt _ (by decide))) 12 (Nat.le_refl 12)
  have e1 : (fb_ct (fb_ep pf w) (fb_rg uf3) (fb_rg tf3) w j t).toInt = -1 := by
    rw [e]
    decide
  have e2 : 0 ≤ (fb_ct (fb_ep pf w) (fb_rg uf3) (fb_rg tf3) w j t).toInt := h8.1
  omega
