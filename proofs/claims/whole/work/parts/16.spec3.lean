theorem fb_t1_lt {uf : Nat → Int32} {j : Nat} (h : j < 12) : upd uf j (fb_rg uf (j + 11)) = fb_t1 uf j := by
  unfold fb_t1
  rw [Nat.mod_eq_of_lt h]
theorem fb_tr_lt {uf : Nat → Int32} {j : Nat} (h : j < 12) : fb_rg uf (j + 11) - fb_rg uf j = fb_tr uf j := by
  unfold fb_tr
  rw [Nat.mod_eq_of_lt h]
theorem fb_t1_at {uf : Nat → Int32} {j : Nat} (h : j < 12) : fb_t1 uf j j = fb_rg uf (j + 11) := by
  rw [← fb_t1_lt h]
  exact pk_us
theorem fb_t1_mod (uf : Nat → Int32) (j : Nat) : fb_t1 uf (j % 12) = fb_t1 uf j := by
  unfold fb_t1
  rw [Nat.mod_mod]
theorem fb_tr_mod (uf : Nat → Int32) (j : Nat) : fb_tr uf (j % 12) = fb_tr uf j := by
  unfold fb_tr
  rw [Nat.mod_mod, fb_rg_mod]
theorem fb_upup {f : Nat → Int32} {j : Nat} {a b : Int32} : upd (upd f j a) j b = upd f j b := by
  funext k
  by_cases h : k = j
  · subst h
    rw [pk_us, pk_us]
  · rw [pk_un h, pk_un h, pk_un h]
theorem fb_upsame {f : Nat → Int32} {j : Nat} {b : Int32} (h : f j = b) : upd f j b = f := by
  funext k
  by_cases e : k = j
  · subst e
    rw [pk_us, h]
  · rw [pk_un e]
theorem fb_tback {uf : Nat → Int32} {j : Nat} (h : j < 12) : upd (fb_t1 uf j) j (fb_rg uf (j + 11) - fb_tr uf j) = uf := by
  rw [← fb_t1_lt h, fb_upup, ← fb_tr_lt h]
  refine fb_upsame ?_
  rw [← fb_rg_lt (f := uf) h]
  generalize fb_rg uf j = x
  generalize fb_rg uf (j + 11) = y
  grind
theorem fb_lx {x y : Int32} : x < y ↔ x.toInt < y.toInt := Int32.lt_iff_toInt_lt
theorem fb_hd_ok {x : Int32} (h : ¬ (x < (-50) ∨ 50 < x)) : fb_hd x = x := by
  have h1 : ¬ x < (-50) := fun z => h (Or.inl z)
  have h2 : ¬ (50 : Int32) < x := fun z => h (Or.inr z)
  have e1 : (-50 : Int32).toInt = -50 := by decide
  have e2 : (50 : Int32).toInt = 50 := by decide
  rw [fb_lx, e1] at h1
  rw [fb_lx, e2] at h2
  unfold fb_hd fb_mx fb_mn
  by_cases c : x < 50
  · rw [if_pos c]
    by_cases c2 : (-50) < x
    · rw [if_pos c2]
    · rw [if_neg c2]
      rw [fb_lx, e1] at c2
      exact Int32.toInt_inj.mp (by rw [e1]; omega)
  · rw [if_neg c]
    rw [fb_lx, e2] at c
    rw [if_pos (by decide)]
    exact Int32.toInt_inj.mp (by rw [e2]; omega)
theorem fb_hd_no {x : Int32} (h : x < (-50) ∨ 50 < x) : ¬ fb_hd x = x := by
  have e1 : (-50 : Int32).toInt = -50 := by decide
  have e2 : (50 : Int32).toInt = 50 := by decide
  intro e
  unfold fb_hd fb_mx fb_mn at e
  by_cases c : x < 50
  · rw [if_pos c] at e
    by_cases c2 : (-50) < x
    · rw [fb_lx, e2] at c
      rw [fb_lx, e1] at c2
      rw [fb_lx, fb_lx, e1, e2] at h
      omega
    · rw [if_neg c2] at e
      rw [← e] at h
      exact absurd h (by decide)
  · rw [if_neg c, if_pos (by decide)] at e
    rw [← e] at h
    exact absurd h (by decide)
theorem fb_svm {q i : Nat} (hq : 2 ≤ q) (hq2 : q ≤ 11) (hi : i < 11) : (if i < q then nI (24 / q) + (if i < 24 % q then 1 else 0) else 0) = fb_sv q i := by
  have h : ∀ q, q < 12 → ∀ i, i < 11 → 2 ≤ q → (if i < q then nI (24 / q) + (if i < 24 % q then 1 else 0) else 0) = fb_sv q i := by decide +kernel
  exact h q (by omega) i hi hq
theorem fb_r1 {q a z : Nat} (h : a ≤ q) (h2 : q ≤ z) (hz : z < 2 ^ 31) : ¬ (nI q < nI a ∨ nI z < nI q) := fun e => e.elim (nI_nlt h (by omega)) (nI_nlt h2 hz)
theorem fb_r0 {q n : Nat} (h2 : q ≤ n) (hn : n < 2 ^ 31) : ¬ (nI q < 0 ∨ nI n < nI q) := fun e => e.elim (nI_pos (by omega)) (nI_nlt h2 hn)
