/-- a sum of the first n -/
def pg_sm (f : Nat → Int32) : Nat → Int32
  | 0 => 0
  | n + 1 => pg_sm f n + f n
theorem pg_sm_cong {f g : Nat → Int32} : ∀ {n : Nat}, (∀ k, k < n → f k = g k) → pg_sm f n = pg_sm g n
  | 0, _ => rfl
  | n + 1, h => by rw [pg_sm, pg_sm, pg_sm_cong (fun k hk => h k (by omega)), h n (by omega)]
/-- in a range -/
def pg_in (x lo hi : Int32) : Bool := !(decide (x < lo)) && decide (x ≤ hi)
/-- a number below a count -/
def pg_nb (x n : Int32) : Bool := !(decide (x < 0)) && !(decide (n ≤ x))
def pg_le (x y : Int32) : Bool := decide (x ≤ y)
def pg_eq (x y : Int32) : Bool := decide (x = y)
theorem pg_in_t {x lo hi : Int32} (h1 : ¬ x < lo) (h2 : x ≤ hi) : pg_in x lo hi = true := by simp only [pg_in, decide_eq_false h1, decide_eq_true h2]; rfl
theorem pg_in_f1 {x lo hi : Int32} (h1 : x < lo) : pg_in x lo hi = false := by simp only [pg_in, decide_eq_true h1]; rfl
theorem pg_in_f2 {x lo hi : Int32} (h2 : ¬ x ≤ hi) : pg_in x lo hi = false := by simp only [pg_in, decide_eq_false h2, Bool.and_false]
theorem pg_in_e {x lo hi : Int32} (h : pg_in x lo hi = true) : ¬ x < lo ∧ x ≤ hi := by
  simp only [pg_in, Bool.and_eq_true, Bool.not_eq_true', decide_eq_false_iff_not, decide_eq_true_eq] at h
  exact h
theorem pg_nb_t {x n : Int32} (h1 : ¬ x < 0) (h2 : ¬ n ≤ x) : pg_nb x n = true := by simp only [pg_nb, decide_eq_false h1, decide_eq_false h2]; rfl
theorem pg_nb_f1 {x n : Int32} (h1 : x < 0) : pg_nb x n = false := by simp only [pg_nb, decide_eq_true h1]; rfl
theorem pg_nb_f2 {x n : Int32} (h2 : n ≤ x) : pg_nb x n = false := by simp only [pg_nb, decide_eq_true h2, Bool.not_true, Bool.and_false]
theorem pg_nb_e {x n : Int32} (h : pg_nb x n = true) : ¬ x < 0 ∧ ¬ n ≤ x := by
  simp only [pg_nb, Bool.and_eq_true, Bool.not_eq_true', decide_eq_false_iff_not] at h
  exact h
theorem pg_le_t {x y : Int32} (h : x ≤ y) : pg_le x y = true := decide_eq_true h
theorem pg_le_f {x y : Int32} (h : ¬ x ≤ y) : pg_le x y = false := decide_eq_false h
theorem pg_eq_t {x y : Int32} (h : x = y) : pg_eq x y = true := decide_eq_true h
theorem pg_eq_f {x y : Int32} (h : ¬ x = y) : pg_eq x y = false := decide_eq_false h
theorem pg_le_e {x y : Int32} (h : pg_le x y = true) : x ≤ y := of_decide_eq_true h
theorem pg_le_n {x y : Int32} (h : pg_le x y = false) : ¬ x ≤ y := of_decide_eq_false h
theorem pg_eq_e {x y : Int32} (h : pg_eq x y = true) : x = y := of_decide_eq_true h
theorem pg_eq_n {x y : Int32} (h : pg_eq x y = false) : ¬ x = y := of_decide_eq_false h
theorem pg_nb_nI {x : Int32} {n : Nat} (hn : n < 2 ^ 31) (h : pg_nb x (nI n) = true) : ∃ j : Nat, j < n ∧ x = nI j := by
  obtain ⟨h1, h2⟩ := pg_nb_e h
  rcases pk_ix x hn with q | q | q
  · exact absurd q h1
  · exact absurd q h2
  · exact q
/-! ## what the sums are -/
/-- parts whose day is later than d -/
def pg_after (r : Nat → Nat → Int32) (d : Int32) : Int32 := pg_sm (fun k => if r 1 k ≤ d then 0 else r 0 k) 4
/-- the open claims' amounts -/
def pg_open (r : Nat → Nat → Int32) (n : Nat) : Int32 := pg_sm (fun k => if r 10 k = -1 then r 8 k else 0) n
/-- what is settled of a kind at its least sum or more -/
def pg_set (r : Nat → Nat → Int32) (n : Nat) (k le : Int32) : Int32 := pg_sm (fun j => if r 7 j = k then (if r 10 j = -1 then 0 else if le ≤ r 10 j then r 10 j else 0) else 0) n
def pg_past (r : Nat → Nat → Int32) (k : Nat) (s : Int32) : Int32 := if r 4 k = 0 then (if s ≤ r 3 k then 0 else s - r 3 k) else (if r 3 k ≤ s then s else 0)
def pg_min (x y : Int32) : Int32 := if y < x then y else x
def pg_max (x y : Int32) : Int32 := if x < y then y else x
def pg_due (r : Nat → Nat → Int32) (n : Nat) (k : Nat) : Int32 := pg_min (pg_past r k (pg_set r n (nI k) (r 2 k))) (r 5 k)
def pg_all (r : Nat → Nat → Int32) (n : Nat) : Int32 := pg_sm (pg_due r n) 3
def pg_out (u : pg_St) (n : Nat) : Int32 := pg_all u.2 n - u.1 7 - u.1 8
def pg_kept (u : pg_St) (n : Nat) (d : Int32) : Int32 := pg_after u.2 d + pg_open u.2 n
/-- v with x at place k -/
def pg_free (u : pg_St) (n : Nat) (d : Int32) : pg_St := if u.1 5 ≤ pg_kept u n d then u else (upd (upd u.1 6 (u.1 6 + (u.1 5 - pg_kept u n d))) 5 (pg_kept u n d), u.2)
def pg_back (u : pg_St) (n : Nat) : Int32 := pg_min (pg_out u n) (u.1 5)
def pg_ret (u : pg_St) (n : Nat) : pg_St := (upd (upd u.1 5 (u.1 5 - pg_back u n)) 7 (u.1 7 + pg_back u n), u.2)
def pg_pay (u : pg_St) (n : Nat) (d : Int32) : pg_St := pg_free (pg_ret u n) n d
def pg_row (r : Nat → Nat → Int32) (j : Nat) (f : Nat → Int32) : Nat → Nat → Int32 := fun i => if i = j then f else r i
def pg_owe (u : pg_St) (n : Nat) (x : Int32) : pg_St := (upd (upd (upd u.1 9 (u.1 9 + x)) 8 (u.1 8 + pg_min x (pg_out u n))) 6 (u.1 6 + (x - pg_min x (pg_out u n))), u.2)
/-- the sum of a meeting of the years i to j - 1, and who is met then -/
def pg_msum (r : Nat → Nat → Int32) (i j : Nat) : Int32 := pg_sm (fun k => if k < i then 0 else if r 13 k = 0 then r 12 k else 0) j
def pg_met (r : Nat → Nat → Int32) (i j : Nat) : Nat → Int32 := fun k => if i ≤ k ∧ k < j then 1 else r 13 k
def pg_col (v : Nat → Int32) (d : Int32) : Int32 := if d ≤ v 2 then (if -(v 2) ≤ d then 0 else d + v 2) else d - v 2
