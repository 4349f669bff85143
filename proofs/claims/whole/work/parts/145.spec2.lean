/-! the reference's words for the same piano -/
def fb_ep (p : Nat → Int32) (w : Nat) : Nat → Int32 := fun k => if k % 12 = w then fb_lf (fb_rg p) w 12 else fb_rg p k
def fb_ns (P O : Nat → Int32) (a b : Nat) : Nat → Int32
  | 0 => O a - O (a + b)
  | i + 1 => fb_ns P O a b i + P (a + i)
def fb_ii (v a z : Int32) : Int32 := if v < a ∨ z < v then 0 else 1
theorem fb_ns_1 (P O : Nat → Int32) (a : Nat) : fb_ns P O a 1 1 = fb_na P O a := by
  show O a - O (a + 1) + P (a + 0) = P a + O a - O (a + 1)
  rw [Nat.add_zero]
  generalize O a = x
  generalize O (a + 1) = y
  generalize P a = z
  grind
theorem fb_ns_4 (P O : Nat → Int32) (a : Nat) : 408 - fb_ns P O a 4 4 - 386 = fb_mj P O a 4 := by
  show (408 : Int32) - (O a - O (a + 4) + P (a + 0) + P (a + 1) + P (a + 2) + P (a + 3)) - 386 = 22 - (P (a + 0) + O (a + 0) - O (a + 0 + 1)) - (P (a + 1) + O (a + 1) - O (a + 1 + 1)) - (P (a + 2) + O (a + 2) - O (a + 2 + 1)) - (P (a + 3) + O (a + 3) - O (a + 3 + 1))
  simp only [Nat.add_zero, Nat.add_assoc, Nat.reduceAdd]
  generalize O a = x0
  generalize O (a + 1) = x1
  generalize O (a + 2) = x2
  generalize O (a + 3) = x3
  generalize O (a + 4) = x4
  generalize P a = y0
  generalize P (a + 1) = y1
  generalize P (a + 2) = y2
  generalize P (a + 3) = y3
  grind
theorem fb_ns_3 (P O : Nat → Int32) (a : Nat) : 294 + fb_ns P O (a + 9) 3 3 - 316 = fb_mi P O a 3 - 316 := by
  show (294 : Int32) + (O (a + 9) - O (a + 9 + 3) + P (a + 9 + 0) + P (a + 9 + 1) + P (a + 9 + 2)) - 316 = 294 + (P (a + (9 + 0)) + O (a + (9 + 0)) - O (a + (9 + 0) + 1)) + (P (a + (9 + 1)) + O (a + (9 + 1)) - O (a + (9 + 1) + 1)) + (P (a + (9 + 2)) + O (a + (9 + 2)) - O (a + (9 + 2) + 1)) - 316
  simp only [Nat.add_zero, Nat.add_assoc, Nat.reduceAdd]
  generalize O (a + 9) = x0
  generalize O (a + 10) = x1
  generalize O (a + 11) = x2
  generalize O (a + 12) = x3
  generalize P (a + 9) = y0
  generalize P (a + 10) = y1
  generalize P (a + 11) = y2
  grind
theorem fb_316 (x : Int32) : 316 + (x - 316) = x := by grind
theorem fb_ns_h1 (P O : Nat → Int32) (b : Nat) : ∀ i, fb_ns P O 0 b i - (O 0 - O (0 + b)) = 702 * nI i - fb_ht P O i + O i - O 0 := by
  intro i
  induction i with
  | zero =>
    show O 0 - O (0 + b) - (O 0 - O (0 + b)) = 702 * nI 0 - 0 + O 0 - O 0
    rw [nI_0]
    generalize O 0 = x
    generalize O (0 + b) = y
    grind
  | succ i ih =>
    show fb_ns P O 0 b i + P (0 + i) - (O 0 - O (0 + b)) = 702 * nI (i + 1) - (fb_ht P O i + (702 - (P i + O i - O (i + 1)))) + O (i + 1) - O 0
    rw [nI_succ, Nat.zero_add] at *
    rw [Nat.zero_add]
    generalize O 0 = x at *
    generalize O b = y at *
    generalize fb_ns P O 0 b i = z at *
    generalize fb_ht P O i = u at *
    generalize O i = v at *
    generalize O (i + 1) = v1 at *
    generalize P i = r at *
    generalize nI i = k at *
    grind
theorem fb_ns_h (P O : Nat → Int32) (j : Nat) : 702 * nI j - fb_ns P O 0 j j = fb_ht P O j := by
  have h := fb_ns_h1 P O j j
  rw [Nat.zero_add] at h
  generalize O 0 = x at *
  generalize O j = y at *
  generalize fb_ns P O 0 j j = z at *
  generalize fb_ht P O j = u at *
  generalize nI j = k at *
  grind
theorem fb_ii_b (v a z : Int32) : narrow .boolean (.int (fb_ii v a z)) = .int (fb_ii v a z) := by
  by_cases h : v < a ∨ z < v
  · rw [show fb_ii v a z = 0 from if_pos h]; decide
  · rw [show fb_ii v a z = 1 from if_neg h]; decide
theorem fb_ii_0 {v a z : Int32} (h : v < a ∨ z < v) : fb_ii v a z = 0 := if_pos h
theorem fb_ii_1 {v a z : Int32} (h : ¬ (v < a ∨ z < v)) : fb_ii v a z = 1 := if_neg h
theorem fb_ii_j {j : Nat} (h : j < 12) : fb_ii (nI j) 0 11 = 1 := by
  have h9 : ∀ j, j < 12 → fb_ii (nI j) 0 11 = 1 := by decide +kernel
  exact h9 j h
