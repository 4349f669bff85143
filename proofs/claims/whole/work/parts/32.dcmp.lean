/-! two means that are alike, compared -/
theorem fb_dec {n : Nat} (h : 9218868437227405312 < n % 9223372036854775808) : FP.Core.decode FP.Core.b64 n = .nan := by
  have h1 : FP.Core.fieldE FP.Core.b64 n = 2047 := by
    show n / 4503599627370496 % 2048 = 2047
    omega
  have h2 : FP.Core.fieldT FP.Core.b64 n = n % 4503599627370496 := rfl
  unfold FP.Core.decode
  rw [h1, if_pos (by decide), if_neg (by rw [h2]; omega)]
theorem fb_val_nan {a : UInt64} (h : isNaN64 a = true) : FP.Core.decode FP.Core.b64 a.toNat = .nan := by
  have h2 : (9218868437227405312 : UInt64) < a &&& 9223372036854775807 := by simpa [isNaN64] using h
  have h3 := UInt64.lt_iff_toNat_lt.mp h2
  rw [UInt64.toNat_and, show (9223372036854775807 : UInt64).toNat = 2 ^ 63 - 1 from by decide, Nat.and_two_pow_sub_one_eq_mod, show (9218868437227405312 : UInt64).toNat = 9218868437227405312 from by decide] at h3
  exact fb_dec (by omega)
theorem fb_dc_nan {a b : UInt64} (h : isNaN64 a = true) : FP.dcmp a b = none := by
  show FP.Core.order (FP.Core.decode FP.Core.b64 a.toNat) (FP.Core.decode FP.Core.b64 b.toNat) = none
  rw [fb_val_nan h]
  rfl
/-- what is not equal to its like is no number -/
theorem fb_dc_ne {a b v : UInt64} (ha : alike64 a v = true) (hb : alike64 b v = true) (h : ¬ Op.cmpValue (FP.dcmp a b) .l = 0) : ¬ Op.cmpValue (FP.dcmp a a) .l = 0 ∧ ¬ Op.cmpValue (FP.dcmp b b) .l = 0 := by
  unfold alike64 at ha hb
  simp only [Bool.or_eq_true, Bool.and_eq_true, decide_eq_true_eq] at ha hb
  rcases ha with ha | ⟨ha, ha2⟩
  · rcases hb with hb | ⟨hb, hb2⟩
    · subst ha
      subst hb
      exact ⟨h, h⟩
    · subst ha
      rw [fb_dc_nan hb2, fb_dc_nan hb]
      exact ⟨by decide, by decide⟩
  · rcases hb with hb | ⟨hb, hb2⟩
    · subst hb
      rw [fb_dc_nan ha, fb_dc_nan ha2]
      exact ⟨by decide, by decide⟩
    · rw [fb_dc_nan ha, fb_dc_nan hb]
      exact ⟨by decide, by decide⟩
