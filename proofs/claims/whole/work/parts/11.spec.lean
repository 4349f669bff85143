/-! what the piano tells, over the plan P and the strings O as functions around the ring -/
def fb_na (P O : Nat → Int32) (k : Nat) : Int32 := P k + O k - O (k + 1)
def fb_mj (P O : Nat → Int32) (k : Nat) : Nat → Int32
  | 0 => 22
  | n + 1 => fb_mj P O k n - fb_na P O (k + n)
def fb_mi (P O : Nat → Int32) (k : Nat) : Nat → Int32
  | 0 => 294
  | n + 1 => fb_mi P O k n + fb_na P O (k + (9 + n))
def fb_ht (P O : Nat → Int32) : Nat → Int32
  | 0 => 0
  | n + 1 => fb_ht P O n + (702 - fb_na P O n)
def fb_sw (k : Nat) : Int32 := fb_swt (7 * k % 12)
def fb_fb (P O : Nat → Int32) (k : Nat) : Int32 := fb_sw k * fb_ab (fb_na P O k) * 100 / 577
def fb_mb (P O : Nat → Int32) (k : Nat) : Int32 := fb_sw k * fb_ab (fb_mj P O k 4) * 100 / 346
def fb_so (P O : Nat → Int32) (k : Nat) : Int32 := fb_ab (fb_mj P O k 4) + 2 * fb_ab (fb_na P O k)
def fb_pl (P O : Nat → Int32) (k : Nat) : Nat → Int32
  | 0 => 1
  | n + 1 => if fb_so P O n < fb_so P O k ∨ (fb_so P O n = fb_so P O k ∧ n < k) then fb_pl P O k n + 1 else fb_pl P O k n
def fb_co (P O F : Nat → Int32) : Nat → Int32
  | 0 => 0
  | n + 1 => fb_co P O F n + fb_so P O n * F n
def fb_su (P O : Nat → Int32) : Nat → Int32
  | 0 => 0
  | n + 1 => fb_su P O n + fb_so P O n
def fb_mm (P O : Nat → Int32) : Nat → Int32
  | 0 => 0
  | n + 1 => fb_mx (fb_mm P O n) (fb_ab (fb_mj P O n 4))
def fb_pu (P O : Nat → Int32) : Nat → Int32
  | 0 => 0
  | n + 1 => if fb_na P O n = 0 then fb_pu P O n + 1 else fb_pu P O n
def fb_mo (O : Nat → Int32) : Nat → Int32
  | 0 => 0
  | n + 1 => fb_mx (fb_mo O n) (fb_ab (O n))
def fb_ao (O : Nat → Int32) : Nat → Int32
  | 0 => 0
  | n + 1 => fb_ao O n + fb_ab (O n)
def fb_fa (P O : Nat → Int32) (w : Nat) : Nat → Int32
  | 0 => 0
  | n + 1 => if n = w then fb_fa P O w n else fb_mx (fb_fa P O w n) (fb_fb P O n)
def fb_tF (P O : Nat → Int32) (w j q : Nat) : Int32 := match q with
  | 0 => P j
  | 1 => fb_na P O j
  | 2 => 702 - fb_na P O j
  | 3 => fb_fb P O j
  | _ => if j = w then 1 else 0
def fb_tM (P O : Nat → Int32) (j q : Nat) : Int32 := match q with
  | 0 => 386 + fb_mj P O j 4
  | 1 => fb_mj P O j 4
  | _ => fb_mb P O j
def fb_tI (P O : Nat → Int32) (j q : Nat) : Int32 := match q with
  | 0 => fb_mi P O j 3
  | _ => fb_mi P O j 3 - 316
def fb_tN (P O D : Nat → Int32) (j q : Nat) : Int32 := match q with
  | 0 => O j
  | 1 => D j
  | 2 => nI (7 * j % 12)
  | 3 => fb_sw j
  | _ => fb_fm (fb_ht P O j) 1200
def fb_tK (P O F : Nat → Int32) (j q : Nat) : Int32 := match q with
  | 0 => F j
  | 1 => fb_so P O j
  | 2 => fb_so P O j * F j
  | _ => fb_pl P O j 12
def fb_tC (P O F : Nat → Int32) (w : Nat) (dy : Int32) (q : Nat) : Int32 := match q with
  | 0 => dy
  | 1 => nI w
  | 2 => fb_co P O F 12
  | 3 => fb_mm P O 12
  | 4 => fb_pu P O 12
  | 5 => fb_ao O 12
  | _ => fb_fa P O w 12
/-! what the piano becomes -/
def fb_hd (x : Int32) : Int32 := fb_mx (-50) (fb_mn 50 x)
def fb_lf (p : Nat → Int32) (w : Nat) : Nat → Int32
  | 0 => 24
  | n + 1 => if n = w then fb_lf p w n else fb_lf p w n - p n
def fb_gw (nf : Nat → Int32) (w : Nat) : Nat → Int32 := upd nf w (fb_lf (fb_rg nf) w 12)
def fb_pn (nf : Nat → Int32) (w j : Nat) (v : Int32) : Nat → Int32 := fb_gw (upd nf j v) w
def fb_mw (nf : Nat → Int32) (w j : Nat) : Nat → Int32 := upd (upd nf j (fb_rg nf w)) w (fb_rg nf j)
def fb_sv (q i : Nat) : Int32 := if i < 24 % q then (if i < q then nI (24 / q) else 0) + 1 else (if i < q then nI (24 / q) else 0)
def fb_sp (nf : Nat → Int32) (w q : Nat) : Nat → (Nat → Int32)
  | 0 => nf
  | i + 1 => upd (fb_sp nf w q i) ((w + 1 + i) % 12) (fb_sv q i)
def fb_t1 (uf : Nat → Int32) (j : Nat) : Nat → Int32 := upd uf (j % 12) (fb_rg uf (j % 12 + 11))
def fb_tr (uf : Nat → Int32) (j : Nat) : Int32 := fb_rg uf (j % 12 + 11) - fb_rg uf j
def fb_tu (uf : Nat → Int32) (w : Nat) : Nat → (Nat → Int32)
  | 0 => uf
  | i + 1 => fb_t1 (fb_tu uf w i) (w + (2 + i))
def fb_tc (uf : Nat → Int32) (w : Nat) : Nat → Int32
  | 0 => 0
  | i + 1 => if fb_tr (fb_tu uf w i) (w + (2 + i)) = 0 then fb_tc uf w i else fb_tc uf w i + 1
def fb_pa (D O : Nat → Int32) (n : Nat) : Nat → Int32 := fun j => if j < n then fb_hd (O j + D j) else O j
def fb_dy (D O : Nat → Int32) : Nat → (Nat → Int32)
  | 0 => O
  | q + 1 => fb_pa D (fb_dy D O q) 12
theorem fb_pa_0 (D O : Nat → Int32) : fb_pa D O 0 = O := by
  funext j
  exact if_neg (Nat.not_lt_zero j)
theorem fb_pa_s (D O : Nat → Int32) (n : Nat) : upd (fb_pa D O n) n (fb_hd (O n + D n)) = fb_pa D O (n + 1) := by
  funext j
  by_cases h : j = n
  · subst h
    rw [show upd (fb_pa D O j) j (fb_hd (O j + D j)) j = fb_hd (O j + D j) from pk_us]
    exact (if_pos (Nat.lt_succ_self j)).symm
  · rw [show upd (fb_pa D O n) n (fb_hd (O n + D n)) j = fb_pa D O n j from pk_un h]
    unfold fb_pa
    by_cases h2 : j < n
    · rw [if_pos h2, if_pos (by omega)]
    · rw [if_neg h2, if_neg (by omega)]
