theorem pg_a0 (x : Int32) : x + 0 = x := Int32.add_zero x
/-- a sum of the first n -/
def pg_sm (f : Nat → Int32) : Nat → Int32
  | 0 => 0
  | n + 1 => pg_sm f n + f n
theorem pg_sm_cong {f g : Nat → Int32} : ∀ {n : Nat}, (∀ k, k < n → f k = g k) → pg_sm f n = pg_sm g n
  | 0, _ => rfl
  | n + 1, h => by rw [pg_sm, pg_sm, pg_sm_cong (fun k hk => h k (by omega)), h n (by omega)]
/-- in a range -/
def pg_in (x lo hi : Int32) : Bool := !(decide (x < lo)) && decide (x ≤ hi)
/-- a number below a count -/
def pg_nb (x n : Int32) : Bool := !(decide (x < 0)) && decide (x < n)
def pg_le (x y : Int32) : Bool := decide (x ≤ y)
def pg_eq (x y : Int32) : Bool := decide (x = y)
theorem pg_in_t {x lo hi : Int32} (h1 : ¬ x < lo) (h2 : x ≤ hi) : pg_in x lo hi = true := by simp only [pg_in, decide_eq_false h1, decide_eq_true h2]; rfl
theorem pg_in_f1 {x lo hi : Int32} (h1 : x < lo) : pg_in x lo hi = false := by simp only [pg_in, decide_eq_true h1]; rfl
theorem pg_in_f2 {x lo hi : Int32} (h2 : ¬ x ≤ hi) : pg_in x lo hi = false := by simp only [pg_in, decide_eq_false h2, Bool.and_false]
theorem pg_in_e {x lo hi : Int32} (h : pg_in x lo hi = true) : ¬ x < lo ∧ x ≤ hi := by
  simp only [pg_in, Bool.and_eq_true, Bool.not_eq_true', decide_eq_false_iff_not, decide_eq_true_eq] at h
  exact h
theorem pg_nb_t {x n : Int32} (h1 : ¬ x < 0) (h2 : x < n) : pg_nb x n = true := by simp only [pg_nb, decide_eq_false h1, decide_eq_true h2]; rfl
theorem pg_nb_f1 {x n : Int32} (h1 : x < 0) : pg_nb x n = false := by simp only [pg_nb, decide_eq_true h1]; rfl
theorem pg_nb_f2 {x n : Int32} (h2 : ¬ x < n) : pg_nb x n = false := by simp only [pg_nb, decide_eq_false h2, Bool.and_false]
theorem pg_nb_e {x n : Int32} (h : pg_nb x n = true) : ¬ x < 0 ∧ x < n := by
  simp only [pg_nb, Bool.and_eq_true, Bool.not_eq_true', decide_eq_false_iff_not, decide_eq_true_eq] at h
  exact h
theorem pg_le_t {x y : Int32} (h : x ≤ y) : pg_le x y = true := decide_eq_true h
theorem pg_le_f {x y : Int32} (h : ¬ x ≤ y) : pg_le x y = false := decide_eq_false h
theorem pg_eq_t {x y : Int32} (h : x = y) : pg_eq x y = true := decide_eq_true h
theorem pg_eq_f {x y : Int32} (h : ¬ x = y) : pg_eq x y = false := decide_eq_false h
theorem pg_le_e {x y : Int32} (h : pg_le x y = true) : x ≤ y := of_decide_eq_true h
theorem pg_le_n {x y : Int32} (h : pg_le x y = false) : ¬ x ≤ y := of_decide_eq_false h
theorem pg_eq_e {x y : Int32} (h : pg_eq x y = true) : x = y := of_decide_eq_true h
theorem pg_eq_n {x y : Int32} (h : pg_eq x y = false) : ¬ x = y := of_decide_eq_false h
theorem pg_nb_nI {x : Int32} {n : Nat} (hn : n < 2 ^ 31) (h : pg_nb x (nI n) = true) : ∃ j : Nat, j < n ∧ x = nI j := by
  obtain ⟨h1, h2⟩ := pg_nb_e h
  rcases pk_ix x hn with q | q | q
  · exact absurd q h1
  · exact absurd h2 (Int32.not_lt.mpr q)
  · exact q
theorem pg_no {b : Bool} {P : Prop} (h1 : b = true) (h2 : b = false) : P := absurd (h1.symm.trans h2) (by decide)
/-! ## what the sums are -/
/-- parts whose day is later than d -/
def pg_after (r : Nat → Nat → Int32) (d : Int32) : Int32 := pg_sm (fun k => if r 1 k ≤ d then 0 else r 0 k) 4
/-- the open claims' amounts -/
def pg_open (r : Nat → Nat → Int32) (n : Nat) : Int32 := pg_sm (fun k => if r 10 k = -1 then r 8 k else 0) n
/-- what is settled of a kind at its least sum or more -/
def pg_set (r : Nat → Nat → Int32) (n : Nat) (k le : Int32) : Int32 := pg_sm (fun j => if r 7 j = k then (if r 10 j = -1 then 0 else if r 10 j < le then 0 else r 10 j) else 0) n
def pg_past (r : Nat → Nat → Int32) (k : Nat) (s : Int32) : Int32 := if r 4 k = 0 then (if s ≤ r 3 k then 0 else s - r 3 k) else (if s < r 3 k then 0 else s)
def pg_min (x y : Int32) : Int32 := if y < x then y else x
def pg_max (x y : Int32) : Int32 := if x < y then y else x
def pg_due (r : Nat → Nat → Int32) (n : Nat) (k : Nat) : Int32 := pg_min (pg_past r k (pg_set r n (nI k) (r 2 k))) (r 5 k)
def pg_all (r : Nat → Nat → Int32) (n : Nat) : Int32 := pg_sm (pg_due r n) 3
def pg_out (u : pg_St) (n : Nat) : Int32 := pg_all u.2 n - u.1 7 - u.1 8
def pg_kept (u : pg_St) (n : Nat) (d : Int32) : Int32 := pg_after u.2 d + pg_open u.2 n
/-- v with x at place k -/
def pg_free (u : pg_St) (n : Nat) (d : Int32) : pg_St := if u.1 5 ≤ pg_kept u n d then u else (upd (upd u.1 6 (u.1 6 + (u.1 5 - pg_kept u n d))) 5 (pg_kept u n d), u.2)
def pg_back (u : pg_St) (n : Nat) : Int32 := pg_min (pg_out u n) (u.1 5)
def pg_ret (u : pg_St) (n : Nat) : pg_St := (upd (upd u.1 5 (u.1 5 - pg_back u n)) 7 (u.1 7 + pg_back u n), u.2)
def pg_pay (u : pg_St) (n : Nat) (d : Int32) : pg_St := pg_free (pg_ret u n) n d
def pg_row (r : Nat → Nat → Int32) (j : Nat) (f : Nat → Int32) : Nat → Nat → Int32 := fun i => if i = j then f else r i
def pg_owe (u : pg_St) (n : Nat) (x : Int32) : pg_St := (upd (upd (upd u.1 9 (u.1 9 + x)) 8 (u.1 8 + pg_min x (pg_out u n))) 6 (u.1 6 + (x - pg_min x (pg_out u n))), u.2)
/-- the sum of a meeting of the years i to j - 1, and who is met then -/
def pg_msum (r : Nat → Nat → Int32) (i j : Nat) : Int32 := pg_sm (fun k => if k < i then 0 else if r 13 k = 0 then r 12 k else 0) j
def pg_met (r : Nat → Nat → Int32) (i j : Nat) : Nat → Int32 := fun k => if i ≤ k ∧ k < j then (if r 13 k = 0 then 1 else r 13 k) else r 13 k
theorem pg_row_self (r : Nat → Nat → Int32) (j : Nat) : pg_row r j (r j) = r := by
  funext i
  by_cases h : i = j
  · subst h; simp [pg_row]
  · simp [pg_row, h]
theorem pg_row_row (r : Nat → Nat → Int32) (j : Nat) (f g : Nat → Int32) : pg_row (pg_row r j f) j g = pg_row r j g := by
  funext i
  by_cases h : i = j <;> simp [pg_row, h]
theorem pg_met_0 (r : Nat → Nat → Int32) (i : Nat) : pg_met r i i = r 13 := by
  funext k
  simp only [pg_met]
  rw [if_neg (by omega)]
theorem pg_sm_0 {f : Nat → Int32} : ∀ {n : Nat}, (∀ k, k < n → f k = 0) → pg_sm f n = 0
  | 0, _ => rfl
  | n + 1, h => by rw [pg_sm, pg_sm_0 (fun k hk => h k (by omega)), h n (by omega)]; rfl
theorem pg_msum_0 (r : Nat → Nat → Int32) (i : Nat) : pg_msum r i i = 0 := pg_sm_0 (fun k hk => if_pos hk)
theorem pg_met_w {r : Nat → Nat → Int32} {i y : Nat} (h : i ≤ y) (h0 : r 13 y = 0) : upd (pg_met r i y) y 1 = pg_met r i (y + 1) := by
  funext k
  by_cases e : k = y
  · subst e; simp [upd, pg_met, h, h0]
  · simp only [upd, pg_met, if_neg e]
    by_cases g : i ≤ k ∧ k < y
    · rw [if_pos g, if_pos (show i ≤ k ∧ k < y + 1 by omega)]
    · rw [if_neg g, if_neg (show ¬ (i ≤ k ∧ k < y + 1) by omega)]
theorem pg_met_s {r : Nat → Nat → Int32} {i y : Nat} (h0 : ¬ r 13 y = 0) : pg_met r i y = pg_met r i (y + 1) := by
  funext k
  by_cases e : k = y
  · subst e; simp [pg_met, h0]
  · simp only [pg_met]
    by_cases g : i ≤ k ∧ k < y
    · rw [if_pos g, if_pos (show i ≤ k ∧ k < y + 1 by omega)]
    · rw [if_neg g, if_neg (show ¬ (i ≤ k ∧ k < y + 1) by omega)]
theorem pg_met_at {r : Nat → Nat → Int32} {i y : Nat} : pg_met r i y y = r 13 y := by
  simp only [pg_met]
  rw [if_neg (by omega)]
theorem pg_msum_a {r : Nat → Nat → Int32} {i y : Nat} (h : i ≤ y) (h0 : r 13 y = 0) : pg_msum r i y + r 12 y = pg_msum r i (y + 1) := by
  show _ = pg_msum r i y + (if y < i then 0 else if r 13 y = 0 then r 12 y else 0)
  rw [if_neg (by omega), if_pos h0]
theorem pg_msum_b {r : Nat → Nat → Int32} {i y : Nat} (h0 : ¬ r 13 y = 0) : pg_msum r i y = pg_msum r i (y + 1) := by
  show _ = pg_msum r i y + (if y < i then 0 else if r 13 y = 0 then r 12 y else 0)
  by_cases h : y < i
  · rw [if_pos h, pg_a0]
  · rw [if_neg h, if_neg h0, pg_a0]
/-- where a report's meeting begins -/
def pg_tk (u : pg_St) (t : Nat) (x : Int32) : Nat := if u.1 11 = 0 then (if x < u.2 11 t then t + 1 else t) else if u.1 14 + x < u.1 15 + u.2 11 t then (if x < u.2 11 t then t + 1 else t) else 0
def pg_tellr (u : pg_St) (t : Nat) (x : Int32) : Int32 := pg_msum u.2 (pg_tk u t x) (t + 1)
def pg_tell (u : pg_St) (t : Nat) (x : Int32) : pg_St := (upd (upd (upd u.1 13 (nI (t + 1))) 14 (u.1 14 + x)) 15 (u.1 15 + u.2 11 t), pg_row u.2 13 (pg_met u.2 (pg_tk u t x) (t + 1)))
def pg_hasr (u : pg_St) (t : Nat) : Int32 := pg_msum u.2 t 4
def pg_has (u : pg_St) (t : Nat) : pg_St := (upd u.1 12 1, pg_row u.2 13 (pg_met u.2 t 4))
def pg_col (v : Nat → Int32) (d : Int32) : Int32 := if d ≤ v 2 then (if -(v 2) ≤ d then 0 else d + v 2) else d - v 2
theorem pg_stay {i n : Nat} {y : Int32} (hy : y = nI n) (hi : i < 2 ^ 31) (c : ¬ y ≤ nI i) : i < n := Nat.lt_of_not_le fun h => c (by rw [hy]; exact nI_le h hi)
theorem pg_exit {i n : Nat} {y : Int32} (hy : y = nI n) (hn : n < 2 ^ 31) (hi : i ≤ n) (c : y ≤ nI i) : i = n := Nat.le_antisymm hi ((nI_leI hn (Nat.lt_of_le_of_lt hi hn)).mp (by rw [← hy]; exact c))
def pg_fin (u : pg_St) (x y z : Int32) : Int32 := pg_max 0 (u.1 0 + x - y + pg_col u.1 (z - u.1 1))
def pg_hold (u : pg_St) (x y z : Int32) : Int32 := pg_min (pg_sm (u.2 0) 4) (pg_fin u x y z)
def pg_close (u : pg_St) (x y z : Int32) : pg_St := (upd (upd (upd (upd u.1 3 0) 4 (pg_fin u x y z)) 5 (pg_hold u x y z)) 6 (pg_fin u x y z - pg_hold u x y z), u.2)
def pg_claim (u : pg_St) (n : Nat) (k x : Int32) : pg_St := (upd u.1 10 (nI (n + 1)), pg_row (pg_row (pg_row (pg_row u.2 7 (upd (u.2 7) n k)) 8 (upd (u.2 8) n x)) 9 (upd (u.2 9) n (-1))) 10 (upd (u.2 10) n (-1)))
def pg_at (u : pg_St) (c : Nat) (x : Int32) : pg_St := (u.1, pg_row u.2 10 (upd (u.2 10) c x))
/-! ## what is thrown: the place of the exception in the document's list, 0 for none (cl: it is closed) -/
def pg_t_setPrice (cl : Bool) (x y z : Int32) : Int32 := bif pg_in x 0 10000000 then (bif pg_in y (-10000000) 10000000 then (bif pg_in z 0 10000000 then (bif cl then 2 else 0) else 1) else 1) else 1
def pg_t_setPart (cl : Bool) (k x d : Int32) : Int32 := bif pg_nb k 4 then (bif pg_in x 0 10000000 then (bif pg_in d 1 2000 then (bif cl then 3 else 0) else 2) else 2) else 1
def pg_t_setKind (cl : Bool) (k x y z w : Int32) : Int32 := bif pg_nb k 3 then (bif pg_in x 0 10000000 then (bif pg_in y 0 10000000 then (bif pg_in z 0 100000000 then (bif pg_in w 0 2000 then (bif cl then 3 else 0) else 2) else 2) else 2) else 2) else 1
def pg_t_setYear (cl : Bool) (k x d : Int32) : Int32 := bif pg_nb k 4 then (bif pg_in x 0 10000000 then (bif pg_in d 0 10000000 then (bif cl then 3 else 0) else 2) else 2) else 1
def pg_t_setCarry (cl : Bool) : Int32 := bif cl then 1 else 0
def pg_t_close (cl : Bool) (x y z : Int32) : Int32 := bif pg_in x 0 10000000 then (bif pg_in y 0 10000000 then (bif pg_in z (-10000000) 10000000 then (bif cl then 2 else 0) else 1) else 1) else 1
def pg_t_advance (cl : Bool) (d x : Int32) : Int32 := bif pg_in x 1 400 then (bif cl then (bif pg_le (d + x) 4000 then 0 else 2) else 2) else 1
def pg_t_claim (cl : Bool) (d : Int32) (r : Nat → Nat → Int32) (n k x : Int32) : Int32 := bif pg_nb k 3 then (bif pg_in x 1 10000000 then (bif cl then (bif pg_le d (r 6 k.toNatClampNeg) then (bif pg_le 20 n then 3 else 0) else 3) else 3) else 2) else 1
def pg_t_offer (r : Nat → Nat → Int32) (n c x : Int32) : Int32 := bif pg_nb c n then (bif pg_eq (r 10 c.toNatClampNeg) (-1) then (bif pg_in x 0 (r 8 c.toNatClampNeg) then 0 else 3) else 2) else 1
def pg_t_agree (r : Nat → Nat → Int32) (n c : Int32) : Int32 := bif pg_nb c n then (bif pg_eq (r 10 c.toNatClampNeg) (-1) then (bif pg_eq (r 9 c.toNatClampNeg) (-1) then 2 else 0) else 2) else 1
def pg_low (x : Int32) : Int32 := if x = -1 then 0 else x
def pg_t_decide (r : Nat → Nat → Int32) (n c x : Int32) : Int32 := bif pg_nb c n then (bif pg_eq (r 10 c.toNatClampNeg) (-1) then (bif pg_in x (pg_low (r 9 c.toNatClampNeg)) (r 8 c.toNatClampNeg) then 0 else 3) else 2) else 1
def pg_t_report (cl sp : Bool) (t x : Int32) : Int32 := bif pg_in x (-10000000) 10000000 then (bif cl then (bif sp then 2 else (bif pg_le 4 t then 2 else 0)) else 2) else 1
def pg_t_speedUp (cl sp : Bool) : Int32 := bif cl then (bif sp then 1 else 0) else 1
def pg_t_num (k n : Int32) : Int32 := bif pg_nb k n then 0 else 1
