/-! searches, foldings -/
def fb_le (c : Nat → Int32) : Nat → Int32
  | 0 => c 0
  | i + 1 => if c (i + 1) < fb_le c i then c (i + 1) else fb_le c i
def fb_be (c : Nat → Int32) : Nat → Nat
  | 0 => 0
  | i + 1 => if c (i + 1) < fb_le c i then i + 1 else fb_be c i
theorem fb_be_le (c : Nat → Int32) : ∀ i, fb_be c i ≤ i := by
  intro i
  induction i with
  | zero => exact Nat.le_refl 0
  | succ i ih =>
    show (if c (i + 1) < fb_le c i then i + 1 else fb_be c i) ≤ i + 1
    split <;> omega
theorem fb_le_be (c : Nat → Int32) : ∀ i, fb_le c i = c (fb_be c i) := by
  intro i
  induction i with
  | zero => rfl
  | succ i ih =>
    show (if c (i + 1) < fb_le c i then c (i + 1) else fb_le c i) = c (if c (i + 1) < fb_le c i then i + 1 else fb_be c i)
    by_cases h : c (i + 1) < fb_le c i
    · rw [if_pos h, if_pos h]
    · rw [if_neg h, if_neg h]; exact ih
def fb_bb (g : Nat → Int32) (z : Int32) (c : Nat → Int32) : Nat → Int32 := fun i => match i with
  | 0 => z
  | i + 1 => g (fb_be c i)
def fb_bl (z : Int32) (c : Nat → Int32) : Nat → Int32 := fun i => match i with
  | 0 => z
  | i + 1 => fb_le c i
/-- the search takes the candidate i -/
theorem fb_take {g : Nat → Int32} {z y : Int32} {c : Nat → Int32} : ∀ {i : Nat}, (i = 0 ∨ c i < fb_bl y c i) → fb_bb g z c (i + 1) = g i ∧ fb_bl y c (i + 1) = c i := by
  intro i h
  match i, h with
  | 0, _ => exact ⟨rfl, rfl⟩
  | i + 1, h =>
    have h : c (i + 1) < fb_le c i := h.elim (fun e => absurd e (Nat.succ_ne_zero i)) id
    refine ⟨?_, ?_⟩
    · show g (if c (i + 1) < fb_le c i then i + 1 else fb_be c i) = _
      rw [if_pos h]
    · exact if_pos h
theorem fb_skip {g : Nat → Int32} {z y : Int32} {c : Nat → Int32} : ∀ {i : Nat}, ¬ i = 0 → ¬ c i < fb_bl y c i → fb_bb g z c (i + 1) = fb_bb g z c i ∧ fb_bl y c (i + 1) = fb_bl y c i := by
  intro i h0 h
  match i, h0, h with
  | 0, h0, _ => exact absurd rfl h0
  | i + 1, _, h =>
    have h : ¬ c (i + 1) < fb_le c i := h
    refine ⟨?_, ?_⟩
    · show g (if c (i + 1) < fb_le c i then i + 1 else fb_be c i) = _
      rw [if_neg h]; rfl
    · exact if_neg h
theorem fb_bb_z {c : Nat → Int32} {i : Nat} (hi : i < 13) (h : fb_bb nI (-1) c i = -1) : i = 0 := by
  match i, hi, h with
  | 0, _, _ => rfl
  | i + 1, hi, h =>
    have h : nI (fb_be c i) = -1 := h
    have h2 := fb_be_le c i
    have h3 : (nI (fb_be c i)).toInt = (-1 : Int32).toInt := by rw [h]
    rw [nI_toInt (by omega)] at h3
    have h4 : (-1 : Int32).toInt = -1 := by decide
    omega
theorem fb_bl_z {c : Nat → Int32} {i : Nat} (hc : ∀ t, t < i → ¬ c t = -1) (h : fb_bl (-1) c i = -1) : i = 0 := by
  match i, hc, h with
  | 0, _, _ => rfl
  | i + 1, hc, h =>
    have h : fb_le c i = -1 := h
    rw [fb_le_be] at h
    exact absurd h (hc _ (Nat.lt_succ_of_le (fb_be_le c i)))
/-- the plan with the wolf at another fifth -/
def fb_sh (P : Nat → Int32) (w f : Nat) : Nat → Int32 := fun k => if k % 12 = f then P w else if k % 12 = w then P f else P k
def fb_sm (p : Nat → Int32) : Nat → Int32
  | 0 => 0
  | n + 1 => fb_sm p n + p n
theorem fb_lf_sm (p : Nat → Int32) (w : Nat) : ∀ n, fb_lf p w n = 24 - fb_sm p n + (if w < n then p w else 0) := by
  intro n
  induction n with
  | zero =>
    show (24 : Int32) = 24 - 0 + (if w < 0 then p w else 0)
    rw [if_neg (Nat.not_lt_zero w)]
    decide
  | succ n ih =>
    show (if n = w then fb_lf p w n else fb_lf p w n - p n) = 24 - (fb_sm p n + p n) + (if w < n + 1 then p w else 0)
    by_cases h : n = w
    · subst h
      rw [if_pos rfl, ih, if_neg (Nat.lt_irrefl n), if_pos (Nat.lt_succ_self n)]
      generalize fb_sm p n = x
      generalize p n = y
      grind
    · rw [if_neg h, ih]
      by_cases h2 : w < n
      · rw [if_pos h2, if_pos (by omega)]
        generalize fb_sm p n = x
        generalize p n = y
        generalize p w = z
        grind
      · rw [if_neg h2, if_neg (by omega)]
        generalize fb_sm p n = x
        generalize p n = y
        grind
theorem fb_lf_ex {p q : Nat → Int32} {w : Nat} : ∀ {n : Nat}, (∀ k, k < n → ¬ k = w → p k = q k) → fb_lf p w n = fb_lf q w n := by
  intro n
  induction n with
  | zero => intro _; rfl
  | succ n ih =>
    intro h
    show (if n = w then fb_lf p w n else fb_lf p w n - p n) = (if n = w then fb_lf q w n else fb_lf q w n - q n)
    rw [ih (fun k hk hw => h k (by omega) hw)]
    by_cases e : n = w
    · rw [if_pos e, if_pos e]
    · rw [if_neg e, if_neg e, h n (Nat.lt_succ_self n) e]
theorem fb_sm_up (p : Nat → Int32) (w : Nat) (x : Int32) : ∀ n, fb_sm (upd p w x) n = fb_sm p n + (if w < n then x - p w else 0) := by
  intro n
  induction n with
  | zero =>
    show (0 : Int32) = 0 + (if w < 0 then x - p w else 0)
    rw [if_neg (Nat.not_lt_zero w)]
    decide
  | succ n ih =>
    show fb_sm (upd p w x) n + upd p w x n = fb_sm p n + p n + (if w < n + 1 then x - p w else 0)
    rw [ih]
    by_cases e : n = w
    · subst e
      rw [pk_us, if_neg (Nat.lt_irrefl n), if_pos (Nat.lt_succ_self n)]
      generalize fb_sm p n = a
      generalize p n = b
      grind
    · rw [pk_un e]
      by_cases h2 : w < n
      · rw [if_pos h2, if_pos (by omega)]
        generalize fb_sm p n = a
        generalize p n = b
        generalize p w = z
        grind
      · rw [if_neg h2, if_neg (by omega)]
        generalize fb_sm p n = a
        generalize p n = b
        grind
theorem fb_rg_up (f : Nat → Int32) {j : Nat} (hj : j < 12) (x : Int32) (k : Nat) : fb_rg (upd f j x) k = if k % 12 = j then x else fb_rg f k := by
  show (if k % 12 = j then x else f (k % 12)) = _
  rfl
theorem fb_rg_up2 (f : Nat → Int32) {j : Nat} (hj : j < 12) (x : Int32) {k : Nat} (hk : k < 12) : fb_rg (upd f j x) k = upd (fb_rg f) j x k := by
  rw [fb_rg_up f hj, Nat.mod_eq_of_lt hk]
  rfl
theorem fb_ep_w {p : Nat → Int32} {w : Nat} (hw : w < 12) : fb_ep p w w = fb_lf (fb_rg p) w 12 := if_pos (Nat.mod_eq_of_lt hw)
theorem fb_ep_n {p : Nat → Int32} {w k : Nat} (h : ¬ k % 12 = w) : fb_ep p w k = fb_rg p k := if_neg h
theorem fb_ep_p {p : Nat → Int32} {w k : Nat} (h : k % 12 = w) : fb_ep p w k = fb_lf (fb_rg p) w 12 := if_pos h
theorem fb_rg_ep (p : Nat → Int32) (w : Nat) : fb_rg (fb_ep p w) = fb_ep p w := by
  funext k
  show (if k % 12 % 12 = w then _ else fb_rg p (k % 12)) = (if k % 12 = w then _ else fb_rg p k)
  rw [Nat.mod_mod, fb_rg_mod]
/-- the wolf shifted, by the reference's row -/
theorem fb_ep_sh (p : Nat → Int32) {w f : Nat} (hw : w < 12) (hf : f < 12) : fb_ep (upd p w (fb_ep p w f)) f = fb_sh (fb_ep p w) w f := by
  funext k
  unfold fb_sh
  by_cases h : k % 12 = f
  · rw [if_pos h, fb_ep_p h, fb_ep_w hw]
    by_cases e : f = w
    · subst e
      refine fb_lf_ex (fun i hi hn => ?_)
      rw [fb_rg_up p hf, Nat.mod_eq_of_lt hi, if_neg hn]
    · have e2 : ¬ f % 12 = w := by rw [Nat.mod_eq_of_lt hf]; exact e
      rw [fb_ep_n e2, fb_lf_sm, fb_lf_sm, if_pos hf, if_pos hw]
      have h1 : fb_lf (fb_rg (upd p w (fb_rg p f))) f 12 = fb_lf (upd (fb_rg p) w (fb_rg p f)) f 12 := fb_lf_ex (fun i hi _ => fb_rg_up2 p hw _ hi)
      rw [fb_lf_sm, fb_lf_sm, if_pos hf, if_pos hf] at h1
      rw [h1, fb_sm_up, if_pos hw, pk_un e]
      generalize fb_sm (fb_rg p) 12 = a
      generalize fb_rg p f = b
      generalize fb_rg p w = d
      grind
  · rw [if_neg h, fb_ep_n h, fb_rg_up p hw]
    by_cases h2 : k % 12 = w
    · rw [if_pos h2, if_pos h2]
    · rw [if_neg h2, if_neg h2, fb_ep_n h2]
theorem fb_sh_sh {P : Nat → Int32} {w f : Nat} (hw : w < 12) (hf : f < 12) (hP : fb_rg P = P) : fb_sh (fb_sh P w f) f w = P := by
  funext k
  have hk : P k = P (k % 12) := by
    have := congrFun hP k
    exact this.symm
  have mw : w % 12 = w := Nat.mod_eq_of_lt hw
  have mf : f % 12 = f := Nat.mod_eq_of_lt hf
  unfold fb_sh
  rw [mf, mw, if_pos rfl]
  by_cases h : k % 12 = w
  · rw [if_pos h, hk, h]
  · rw [if_neg h]
    by_cases h2 : k % 12 = f
    · rw [if_pos h2]
      by_cases e : w = f
      · rw [if_pos e, hk, h2, e]
      · rw [if_neg e, if_pos rfl, hk, h2]
    · rw [if_neg h2, if_neg h2, if_neg h]
theorem fb_mw_sh (nf : Nat → Int32) {w f : Nat} (hw : w < 12) (hf : f < 12) : fb_rg (fb_mw nf w f) = fb_sh (fb_rg nf) w f := by
  funext k
  unfold fb_mw fb_sh
  rw [fb_rg_up _ hw, fb_rg_up _ hf]
  by_cases h : k % 12 = w
  · by_cases h2 : k % 12 = f
    · rw [if_pos h, if_pos h2, ← h, ← h2]
    · rw [if_pos h, if_neg h2, if_pos h]
  · by_cases h2 : k % 12 = f
    · rw [if_neg h, if_pos h2, if_pos h2]
    · rw [if_neg h, if_neg h2, if_neg h2, if_neg h]
/-- one fifth's plan set -/
theorem fb_ep_set (p : Nat → Int32) {w j : Nat} (hw : w < 12) (hj : j < 12) (hjw : ¬ j = w) (v : Int32) : fb_ep (upd p j v) w = fb_ep (upd (fb_ep p w) j v) w := by
  funext k
  by_cases h : k % 12 = w
  · rw [fb_ep_p h, fb_ep_p h]
    refine fb_lf_ex (fun i hi hn => ?_)
    rw [fb_rg_up _ hj, fb_rg_up _ hj, fb_rg_ep, fb_ep_n (by rw [Nat.mod_eq_of_lt hi]; exact hn)]
  · rw [fb_ep_n h, fb_ep_n h, fb_rg_up _ hj, fb_rg_up _ hj, fb_rg_ep, fb_ep_n h]
theorem fb_gw_ep (nf : Nat → Int32) {w : Nat} (hw : w < 12) : fb_rg (fb_gw nf w) = fb_ep nf w := by
  funext k
  unfold fb_gw
  rw [fb_rg_up _ hw]
  rfl
theorem fb_ep_rg (p : Nat → Int32) (w : Nat) : fb_ep (fb_rg p) w = fb_ep p w := by
  funext k
  unfold fb_ep
  rw [fb_rg_rg]
theorem fb_ep_cg {p q : Nat → Int32} {w : Nat} (h : ∀ k, k < 12 → ¬ k = w → p k = q k) : fb_ep p w = fb_ep q w := by
  funext k
  by_cases e : k % 12 = w
  · rw [fb_ep_p e, fb_ep_p e]
    refine fb_lf_ex (fun i hi hn => ?_)
    rw [fb_rg_lt hi, fb_rg_lt hi]
    exact h i hi hn
  · rw [fb_ep_n e, fb_ep_n e]
    exact h _ (Nat.mod_lt _ (by decide)) e
theorem fb_rg_t1 (f : Nat → Int32) (j : Nat) : fb_rg (fb_t1 f j) = fb_rg (fb_t1 (fb_rg f) j) := by
  refine fb_rg_eq (fun k hk => ?_)
  unfold fb_t1
  show (if k = j % 12 then fb_rg f (j % 12 + 11) else f k) = (if k = j % 12 then fb_rg (fb_rg f) (j % 12 + 11) else fb_rg f k)
  rw [fb_rg_rg, fb_rg_lt hk]
/-- the note to be tuned next -/
def fb_nl (c : Nat → Int32) (w : Nat) (z : Int32) : Nat → Int32
  | 0 => z
  | i + 1 => if (i + 11) % 12 = w then fb_nl c w z i else if c i < fb_nl c w z i then c i else fb_nl c w z i
def fb_nb (c : Nat → Int32) (w : Nat) (z : Int32) : Nat → Int32
  | 0 => -1
  | i + 1 => if (i + 11) % 12 = w then fb_nb c w z i else if c i < fb_nl c w z i then nI i else fb_nb c w z i
theorem fb_n_s {c : Nat → Int32} {w : Nat} {z : Int32} {i : Nat} (h : (i + 11) % 12 = w ∨ ¬ c i < fb_nl c w z i) : fb_nl c w z (i + 1) = fb_nl c w z i ∧ fb_nb c w z (i + 1) = fb_nb c w z i := by
  constructor
  · show (if (i + 11) % 12 = w then fb_nl c w z i else if c i < fb_nl c w z i then c i else fb_nl c w z i) = _
    by_cases e : (i + 11) % 12 = w
    · rw [if_pos e]
    · rw [if_neg e, if_neg (h.elim (fun q => absurd q e) id)]
  · show (if (i + 11) % 12 = w then fb_nb c w z i else if c i < fb_nl c w z i then nI i else fb_nb c w z i) = _
    by_cases e : (i + 11) % 12 = w
    · rw [if_pos e]
    · rw [if_neg e, if_neg (h.elim (fun q => absurd q e) id)]
theorem fb_n_t {c : Nat → Int32} {w : Nat} {z : Int32} {i : Nat} (e : ¬ (i + 11) % 12 = w) (h : c i < fb_nl c w z i) : fb_nl c w z (i + 1) = c i ∧ fb_nb c w z (i + 1) = nI i := by
  constructor
  · show (if (i + 11) % 12 = w then fb_nl c w z i else if c i < fb_nl c w z i then c i else fb_nl c w z i) = _
    rw [if_neg e, if_pos h]
  · show (if (i + 11) % 12 = w then fb_nb c w z i else if c i < fb_nl c w z i then nI i else fb_nb c w z i) = _
    rw [if_neg e, if_pos h]
/-- the first day on which it beats so fast -/
def fb_us (g : Nat → Int32) (b : Int32) : Nat → Nat → Int32
  | 0, _ => -1
  | n + 1, i => if g i < b then fb_us g b n (i + 1) else nI i
/-- a checksum's stretch -/
def fb_fo (f : Nat → Int32) (d : Int64) : Nat → Int64
  | 0 => d
  | n + 1 => fb_fo f d n * 31 + (f n).toInt64
def fb_dk (P O D F : Nat → Int32) (w : Nat) (d : Int64) : Nat → Int64
  | 0 => d
  | k + 1 => fb_fo (fb_tK P O F k) (fb_fo (fb_tN P O D k) (fb_fo (fb_tI P O k) (fb_fo (fb_tM P O k) (fb_fo (fb_tF P O w k) (fb_dk P O D F w d k) 5) 3) 2) 5) 4
def fb_dg (P O D F : Nat → Int32) (w : Nat) (dy : Int32) : Int64 := fb_dk P O D F w (fb_fo (fb_tC P O F w dy) 1697 7) 12
theorem fb_rg_dy {D O D' O' : Nat → Int32} (hD : ∀ k, k < 12 → D k = D' k) (hO : ∀ k, k < 12 → O k = O' k) : ∀ q, ∀ k, k < 12 → fb_dy D O q k = fb_dy D' O' q k := by
  intro q
  induction q with
  | zero => exact hO
  | succ q ih =>
    intro k hk
    show (if k < 12 then fb_hd (fb_dy D O q k + D k) else fb_dy D O q k) = (if k < 12 then fb_hd (fb_dy D' O' q k + D' k) else fb_dy D' O' q k)
    rw [ih k hk, hD k hk]
