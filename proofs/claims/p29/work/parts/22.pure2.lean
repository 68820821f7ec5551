theorem pg_toI_lt (a b : Int32) : a < b ↔ a.toInt < b.toInt := Int32.lt_iff_toInt_lt
theorem pg_toI_le (a b : Int32) : a ≤ b ↔ a.toInt ≤ b.toInt := Int32.le_iff_toInt_le
theorem pg_in_iff (x lo hi : Int32) : pg_in x lo hi = true ↔ lo.toInt ≤ x.toInt ∧ x.toInt ≤ hi.toInt := by
  simp only [pg_in, Bool.and_eq_true, Bool.not_eq_true', decide_eq_false_iff_not, decide_eq_true_eq, pg_toI_lt, pg_toI_le]
  omega
theorem pg_nb_iff (x n : Int32) : pg_nb x n = true ↔ 0 ≤ x.toInt ∧ x.toInt < n.toInt := by
  simp only [pg_nb, Bool.and_eq_true, Bool.not_eq_true', decide_eq_false_iff_not, decide_eq_true_eq, pg_toI_lt]
  have h0 : (0 : Int32).toInt = 0 := by decide
  omega
theorem pg_bool {a b : Bool} (h : a = true ↔ b = true) : a = b := by cases a <;> cases b <;> simp_all
theorem pg_nb4 (x : Int32) : pg_nb x 4 = pg_in x 0 3 := pg_bool (by
  rw [pg_nb_iff, pg_in_iff, show (4 : Int32).toInt = 4 by decide, show (3 : Int32).toInt = 3 by decide, show (0 : Int32).toInt = 0 by decide]; omega)
theorem pg_nb3 (x : Int32) : pg_nb x 3 = pg_in x 0 2 := pg_bool (by
  rw [pg_nb_iff, pg_in_iff, show (3 : Int32).toInt = 3 by decide, show (2 : Int32).toInt = 2 by decide, show (0 : Int32).toInt = 0 by decide]; omega)
theorem pg_clm (x : Int32) {n : Nat} (h : n ≤ 20) : pg_nb x (nI n) = pg_in x 0 (nI n - 1) := pg_bool (by
  have e1 : (nI n).toInt = (n : Int) := nI_toInt (by omega)
  have e2 : (nI n - 1).toInt = (n : Int) - 1 := by
    have := pk_sub_toInt (a := n) (b := 1) (by omega) (by omega)
    rw [show (1 : Int32) = nI 1 from rfl, this]; rfl
  rw [pg_nb_iff, pg_in_iff, e1, e2, show (0 : Int32).toInt = 0 by decide]; omega)
theorem pg_eq20 {n : Nat} (h : n ≤ 20) : pg_le 20 (nI n) = pg_eq (nI n) 20 := pg_bool (by
  simp only [pg_le, pg_eq, decide_eq_true_eq]
  rw [show (20 : Int32) = nI 20 from rfl, nI_leI (by decide) (by omega), nI_eq (by omega) (by decide)]; omega)
theorem pg_eq4 {n : Nat} (h : n ≤ 4) : pg_le 4 (nI n) = pg_eq (nI n) 4 := pg_bool (by
  simp only [pg_le, pg_eq, decide_eq_true_eq]
  rw [show (4 : Int32) = nI 4 from rfl, nI_leI (by decide) (by omega), nI_eq (by omega) (by decide)]; omega)
theorem pg_antisymm {x y : Int32} (h1 : x ≤ y) (h2 : y ≤ x) : x = y := Int32.le_antisymm h1 h2
/-- the smaller, by the other comparison -/
theorem pg_min_m (x y : Int32) : (if y ≤ x then y else x) = pg_min x y := by
  unfold pg_min
  by_cases h : y < x
  · rw [if_pos h, if_pos (Int32.le_of_lt h)]
  · rw [if_neg h]
    by_cases g : y ≤ x
    · rw [if_pos g]; exact pg_antisymm g (Int32.not_lt.mp h)
    · rw [if_neg g]
theorem pg_max_m (x : Int32) : (if 0 ≤ x then x else 0) = pg_max 0 x := by
  unfold pg_max
  by_cases h : 0 < x
  · rw [if_pos h, if_pos (Int32.le_of_lt h)]
  · rw [if_neg h]
    by_cases g : 0 ≤ x
    · rw [if_pos g]; exact pg_antisymm (Int32.not_lt.mp h) g
    · rw [if_neg g]
theorem pg_0a (x : Int32) : 0 + x = x := Int32.zero_add x
theorem pg_all_m (r : Nat → Nat → Int32) (n : Nat) : pg_due r n 0 + pg_due r n 1 + pg_due r n 2 = pg_all r n := by
  show _ = 0 + pg_due r n 0 + pg_due r n 1 + pg_due r n 2
  rw [pg_0a]
theorem pg_kept_s (u : pg_St) (d : Int32) (i : Nat) : pg_after u.2 d + pg_open u.2 i + (if u.2 10 i = -1 then u.2 8 i else 0) = pg_after u.2 d + pg_open u.2 (i + 1) := Int32.add_assoc _ _ _
theorem pg_owe_m (u : pg_St) (n : Nat) (x : Int32) : (upd (upd (upd u.1 8 (u.1 8 + pg_min x (pg_out u n))) 6 (u.1 6 + (x - pg_min x (pg_out u n)))) 9 (u.1 9 + x), u.2) = pg_owe u n x := by
  unfold pg_owe
  congr 1
  funext k
  simp only [upd]
  by_cases h6 : k = 6
  · subst h6; rfl
  · by_cases h8 : k = 8
    · subst h8; rfl
    · rw [if_neg h6, if_neg h8, if_neg h6, if_neg h8]
/-- days that pass, one by one -/
def pg_adv (u : pg_St) (n : Nat) : Nat → pg_St
  | 0 => u
  | i + 1 => pg_free (upd u.1 3 (u.1 3 + nI (i + 1)), u.2) n (u.1 3 + nI (i + 1))
theorem pg_free_r (u : pg_St) (n : Nat) (d : Int32) : (pg_free u n d).2 = u.2 := by
  by_cases h : u.1 5 ≤ pg_kept u n d
  · rw [pg_free, if_pos h]
  · rw [pg_free, if_neg h]
theorem pg_free_o (u : pg_St) (n : Nat) (d : Int32) {k : Nat} (h5 : k ≠ 5) (h6 : k ≠ 6) : (pg_free u n d).1 k = u.1 k := by
  by_cases h : u.1 5 ≤ pg_kept u n d
  · rw [pg_free, if_pos h]
  · rw [pg_free, if_neg h]; simp only [upd]; rw [if_neg h5, if_neg h6]
theorem pg_adv_r (u : pg_St) (n i : Nat) : (pg_adv u n i).2 = u.2 := by
  cases i with
  | zero => rfl
  | succ i => exact pg_free_r _ _ _
theorem pg_adv_3 (u : pg_St) (n i : Nat) : (pg_adv u n i).1 3 = u.1 3 + nI i := by
  cases i with
  | zero => rw [nI_0, pg_a0]; rfl
  | succ i => rw [pg_adv, pg_free_o _ _ _ (by decide) (by decide)]; rfl
theorem pg_adv_10 (u : pg_St) (n i : Nat) : (pg_adv u n i).1 10 = u.1 10 := by
  cases i with
  | zero => rfl
  | succ i => rw [pg_adv, pg_free_o _ _ _ (by decide) (by decide)]; rfl
theorem pg_upd_upd (f : Nat → Int32) (k : Nat) (x y : Int32) : upd (upd f k x) k y = upd f k y := by
  funext j
  by_cases h : j = k <;> simp [upd, h]
theorem pg_upd_swap (f : Nat → Int32) {k j : Nat} (h : k ≠ j) (x y : Int32) : upd (upd f k x) j y = upd (upd f j y) k x := by
  funext i
  simp only [upd]
  by_cases h1 : i = j
  · by_cases h2 : i = k
    · exact absurd (h2.symm.trans h1) h
    · rw [if_pos h1, if_neg h2, if_pos h1]
  · rw [if_neg h1, if_neg h1]
theorem pg_tele (p h a b : Int32) : p + (h - a) + (a - b) = p + (h - b) := by
  rw [Int32.add_assoc]
  congr 1
  rw [Int32.sub_eq_add_neg, Int32.sub_eq_add_neg, Int32.sub_eq_add_neg, Int32.add_assoc, ← Int32.add_assoc (-a) a, Int32.add_left_neg, Int32.zero_add]
/-- a day later frees the same as if it had come at once -/
theorem pg_free_2 {u : pg_St} {n : Nat} {d e : Int32} (hk : pg_kept u n e ≤ pg_kept u n d) : pg_free (upd (pg_free (upd u.1 3 d, u.2) n d).1 3 e, u.2) n e = pg_free (upd u.1 3 e, u.2) n e := by
  by_cases h : u.1 5 ≤ pg_kept u n d
  · rw [show pg_free (upd u.1 3 d, u.2) n d = (upd u.1 3 d, u.2) from if_pos h]
    show pg_free (upd (upd u.1 3 d) 3 e, u.2) n e = _
    rw [pg_upd_upd]
  · rw [show pg_free (upd u.1 3 d, u.2) n d = (upd (upd (upd u.1 3 d) 6 (u.1 6 + (u.1 5 - pg_kept u n d))) 5 (pg_kept u n d), u.2) from if_neg h]
    show pg_free (upd (upd (upd (upd u.1 3 d) 6 (u.1 6 + (u.1 5 - pg_kept u n d))) 5 (pg_kept u n d)) 3 e, u.2) n e = _
    have hne : ¬ u.1 5 ≤ pg_kept u n e := fun q => h (Int32.le_trans q hk)
    rw [show pg_free (upd u.1 3 e, u.2) n e = (upd (upd (upd u.1 3 e) 6 (u.1 6 + (u.1 5 - pg_kept u n e))) 5 (pg_kept u n e), u.2) from if_neg hne]
    by_cases g : pg_kept u n d ≤ pg_kept u n e
    · rw [show pg_free (upd (upd (upd (upd u.1 3 d) 6 (u.1 6 + (u.1 5 - pg_kept u n d))) 5 (pg_kept u n d)) 3 e, u.2) n e = (upd (upd (upd (upd u.1 3 d) 6 (u.1 6 + (u.1 5 - pg_kept u n d))) 5 (pg_kept u n d)) 3 e, u.2) from if_pos g]
      have e1 : pg_kept u n d = pg_kept u n e := pg_antisymm g hk
      rw [e1, pg_upd_swap _ (show 5 ≠ 3 by decide), pg_upd_swap _ (show 6 ≠ 3 by decide), pg_upd_upd]
    · rw [show pg_free (upd (upd (upd (upd u.1 3 d) 6 (u.1 6 + (u.1 5 - pg_kept u n d))) 5 (pg_kept u n d)) 3 e, u.2) n e = (upd (upd (upd (upd (upd (upd u.1 3 d) 6 (u.1 6 + (u.1 5 - pg_kept u n d))) 5 (pg_kept u n d)) 3 e) 6 (u.1 6 + (u.1 5 - pg_kept u n d) + (pg_kept u n d - pg_kept u n e))) 5 (pg_kept u n e), u.2) from if_neg g]
      rw [pg_tele]
      rw [pg_upd_swap _ (show 5 ≠ 3 by decide), pg_upd_swap _ (show 5 ≠ 6 by decide), pg_upd_upd, pg_upd_swap _ (show 6 ≠ 3 by decide), pg_upd_upd, pg_upd_upd]
theorem pg_adv_s {u : pg_St} {n i : Nat} (hk : pg_kept u n (u.1 3 + nI (i + 1)) ≤ pg_kept u n (u.1 3 + nI i)) : pg_free (upd (pg_adv u n i).1 3 (u.1 3 + nI (i + 1)), u.2) n (u.1 3 + nI (i + 1)) = pg_adv u n (i + 1) := by
  cases i with
  | zero => rfl
  | succ i => exact pg_free_2 hk