def fb_tv (t : Nat) : Int32 := nI t - 10
def fb_ca (P O F : Nat → Int32) (w f : Nat) : Int32 := fb_co (fb_sh P w f) O F 12
def fb_ct (P O F : Nat → Int32) (w j t : Nat) : Int32 := fb_co (fb_ep (upd P j (fb_tv t)) w) O F 12
def fb_cn (P O F : Nat → Int32) (i : Nat) : Int32 := fb_co P (fb_rg (fb_t1 O i)) F 12
theorem fb_tv_s (t : Nat) : fb_tv t + 1 = fb_tv (t + 1) := by
  unfold fb_tv
  rw [nI_succ]
  generalize nI t = x
  grind
theorem fb_tv_gt {i : Nat} (hi : i ≤ 31) : (20 : Int32) < fb_tv i ↔ i = 31 := by
  have h : ∀ i, i < 32 → ((20 : Int32) < fb_tv i ↔ i = 31) := by decide +kernel
  exact h i (by omega)
theorem fb_upq {pv pf : Nat → Int32} {j : Nat} {x : Int32} (h : ∀ k, ¬ k = j → pv k = pf k) : upd pv j x = upd pf j x := by
  funext k
  by_cases e : k = j
  · subst e
    rw [pk_us, pk_us]
  · rw [pk_un e, pk_un e]
    exact h k e
theorem fb_upb {pv pf : Nat → Int32} {j : Nat} (h : ∀ k, ¬ k = j → pv k = pf k) (hj : j < 12) : upd pv j (fb_rg pf j) = pf := by
  rw [fb_upq h]
  exact fb_upsame (fb_rg_lt hj).symm
