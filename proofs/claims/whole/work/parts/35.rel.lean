/-! the class's state u and the reference's w belong together: n claims, t years told -/
def pg_Sh (u w : pg_St) : Prop := (∀ k, k = 0 ∨ k = 1 ∨ k = 2 ∨ (5 ≤ k ∧ k ≤ 13) → u.1 k = w.1 k) ∧ (∀ j, j < 14 → u.2 j = w.2 j)
def pg_Cl (u w : pg_St) (n t : Nat) : Prop := (w.1 14 = 0 ∧ u.1 3 = -1 ∧ u.1 4 = -1 ∧ w.1 3 = 0 ∧ t = 0 ∧ n = 0) ∨ (w.1 14 = 1 ∧ u.1 3 = w.1 3 ∧ u.1 4 = w.1 4 ∧ ∃ d : Nat, d ≤ 4000 ∧ u.1 3 = nI d)
def pg_Nu (u : pg_St) (n t : Nat) : Prop := u.1 10 = nI n ∧ n ≤ 20 ∧ u.1 13 = nI t ∧ t ≤ 4
def pg_Ea (u w : pg_St) (t : Nat) : Prop := u.1 14 = pg_sm (w.2 14) t ∧ u.1 15 = pg_sm (u.2 11) t ∧ (∀ y, y < 4 → u.2 13 y = 0 ∨ u.2 13 y = 1) ∧ (u.1 12 = 0 → ∀ y, t ≤ y → y < 4 → u.2 13 y = 0)
def pg_bd (x : Int32) : Prop := 0 ≤ x.toInt ∧ x.toInt ≤ 10000000
def pg_Bo (u : pg_St) (n : Nat) : Prop := (∀ k, k < 4 → pg_bd (u.2 0 k)) ∧ (∀ k, k < n → pg_bd (u.2 8 k))
def pg_Rel (u w : pg_St) (n t : Nat) : Prop := pg_Sh u w ∧ pg_Cl u w n t ∧ pg_Nu u n t ∧ pg_Ea u w t ∧ pg_Bo u n
def pg_Inv (u w : pg_St) : Prop := ∃ n t, pg_Rel u w n t
/-! ## the shared part -/
theorem pg_updk (f : Nat → Int32) (k : Nat) (x : Int32) : upd f k x k = x := if_pos rfl
theorem pg_updn (f : Nat → Int32) {k j : Nat} (x : Int32) (h : j ≠ k) : upd f k x j = f j := if_neg h
theorem pg_Sh.u {u w : pg_St} (h : pg_Sh u w) (k : Nat) (x : Int32) : pg_Sh (upd u.1 k x, u.2) (upd w.1 k x, w.2) := by
  refine ⟨fun j hj => ?_, h.2⟩
  show upd u.1 k x j = upd w.1 k x j
  by_cases e : j = k
  · rw [e, pg_updk, pg_updk]
  · rw [pg_updn _ _ e, pg_updn _ _ e]; exact h.1 j hj
theorem pg_Sh.l {u w : pg_St} (h : pg_Sh u w) (k : Nat) (hk : k = 3 ∨ k = 4 ∨ 14 ≤ k) (x : Int32) : pg_Sh (upd u.1 k x, u.2) w := by
  refine ⟨fun j hj => ?_, h.2⟩
  show upd u.1 k x j = w.1 j
  rw [pg_updn _ _ (by omega)]; exact h.1 j hj
theorem pg_Sh.r {u w : pg_St} (h : pg_Sh u w) (k : Nat) (hk : k = 3 ∨ k = 4 ∨ 14 ≤ k) (x : Int32) : pg_Sh u (upd w.1 k x, w.2) := by
  refine ⟨fun j hj => ?_, h.2⟩
  show u.1 j = upd w.1 k x j
  rw [pg_updn _ _ (by omega)]; exact h.1 j hj
theorem pg_rowk (r : Nat → Nat → Int32) (j : Nat) (f : Nat → Int32) : pg_row r j f j = f := if_pos rfl
theorem pg_rown (r : Nat → Nat → Int32) {j i : Nat} (f : Nat → Int32) (h : i ≠ j) : pg_row r j f i = r i := if_neg h
theorem pg_Sh.row {u w : pg_St} (h : pg_Sh u w) (j : Nat) {f g : Nat → Int32} (e : f = g) : pg_Sh (u.1, pg_row u.2 j f) (w.1, pg_row w.2 j g) := by
  refine ⟨h.1, fun i hi => ?_⟩
  show pg_row u.2 j f i = pg_row w.2 j g i
  by_cases q : i = j
  · rw [q, pg_rowk, pg_rowk, e]
  · rw [pg_rown _ _ q, pg_rown _ _ q]; exact h.2 i hi
theorem pg_Sh.row14 {u w : pg_St} (h : pg_Sh u w) (f : Nat → Int32) : pg_Sh u (w.1, pg_row w.2 14 f) := by
  refine ⟨h.1, fun i hi => ?_⟩
  show u.2 i = pg_row w.2 14 f i
  rw [pg_rown _ _ (by omega)]; exact h.2 i hi
theorem pg_Sh.after {u w : pg_St} (h : pg_Sh u w) (d : Int32) : pg_after u.2 d = pg_after w.2 d := by unfold pg_after; rw [h.2 0 (by omega), h.2 1 (by omega)]
theorem pg_Sh.opn {u w : pg_St} (h : pg_Sh u w) (n : Nat) : pg_open u.2 n = pg_open w.2 n := by unfold pg_open; rw [h.2 8 (by omega), h.2 10 (by omega)]
theorem pg_Sh.kept {u w : pg_St} (h : pg_Sh u w) (n : Nat) (d : Int32) : pg_kept u n d = pg_kept w n d := by unfold pg_kept; rw [h.after, h.opn]
theorem pg_Sh.due {u w : pg_St} (h : pg_Sh u w) (n k : Nat) : pg_due u.2 n k = pg_due w.2 n k := by unfold pg_due pg_past pg_set; rw [h.2 2 (by omega), h.2 3 (by omega), h.2 4 (by omega), h.2 5 (by omega), h.2 7 (by omega), h.2 10 (by omega)]
theorem pg_Sh.all {u w : pg_St} (h : pg_Sh u w) (n : Nat) : pg_all u.2 n = pg_all w.2 n := by unfold pg_all; rw [show pg_due u.2 n = pg_due w.2 n from funext (h.due n)]
theorem pg_Sh.out {u w : pg_St} (h : pg_Sh u w) (n : Nat) : pg_out u n = pg_out w n := by unfold pg_out; rw [h.all, h.1 7 (by omega), h.1 8 (by omega)]
theorem pg_Sh.back {u w : pg_St} (h : pg_Sh u w) (n : Nat) : pg_back u n = pg_back w n := by unfold pg_back; rw [h.out, h.1 5 (by omega)]
theorem pg_Sh.free {u w : pg_St} (h : pg_Sh u w) (n : Nat) (d : Int32) : pg_Sh (pg_free u n d) (pg_free w n d) := by
  unfold pg_free
  rw [h.kept, h.1 5 (by omega)]
  by_cases q : w.1 5 ≤ pg_kept w n d
  · rw [if_pos q, if_pos q]; exact h
  · rw [if_neg q, if_neg q, h.1 6 (by omega)]; exact (h.u 6 _).u 5 _
theorem pg_Sh.ret {u w : pg_St} (h : pg_Sh u w) (n : Nat) : pg_Sh (pg_ret u n) (pg_ret w n) := by
  unfold pg_ret
  rw [h.back, h.1 5 (by omega), h.1 7 (by omega)]; exact (h.u 5 _).u 7 _
theorem pg_Sh.pay {u w : pg_St} (h : pg_Sh u w) (n : Nat) {d e : Int32} (hd : d = e) : pg_Sh (pg_pay u n d) (pg_pay w n e) := by rw [hd]; exact (h.ret n).free n e
theorem pg_Sh.owe {u w : pg_St} (h : pg_Sh u w) (n : Nat) {x y : Int32} (e : x = y) : pg_Sh (pg_owe u n x) (pg_owe w n y) := by
  subst e
  unfold pg_owe
  rw [h.out, h.1 9 (by omega), h.1 8 (by omega), h.1 6 (by omega)]; exact ((h.u 9 _).u 8 _).u 6 _
/-! ## what a paying leaves alone -/
theorem pg_pay_o (u : pg_St) (n : Nat) (d : Int32) {k : Nat} (h5 : k ≠ 5) (h6 : k ≠ 6) (h7 : k ≠ 7) : (pg_pay u n d).1 k = u.1 k := by
  rw [pg_pay, pg_free_o _ _ _ h5 h6]
  show upd (upd u.1 5 _) 7 _ k = _
  rw [pg_updn _ _ h7, pg_updn _ _ h5]
theorem pg_pay_r (u : pg_St) (n : Nat) (d : Int32) : (pg_pay u n d).2 = u.2 := pg_free_r _ _ _
theorem pg_owe_o (u : pg_St) (n : Nat) (x : Int32) {k : Nat} (h6 : k ≠ 6) (h8 : k ≠ 8) (h9 : k ≠ 9) : (pg_owe u n x).1 k = u.1 k := by
  show upd (upd (upd u.1 9 _) 8 _) 6 _ k = _
  rw [pg_updn _ _ h6, pg_updn _ _ h8, pg_updn _ _ h9]
/-- the same, where only the shared numbers change -/
theorem pg_Rel.keep {u w u' w' : pg_St} {n t : Nat} (h : pg_Rel u w n t) (hs : pg_Sh u' w') (hr : u'.2 = u.2) (hw : w'.2 = w.2) (hu : ∀ k, k = 3 ∨ k = 4 ∨ k = 10 ∨ (12 ≤ k ∧ k ≤ 15) → u'.1 k = u.1 k) (hv : ∀ k, k = 3 ∨ k = 4 ∨ k = 14 → w'.1 k = w.1 k) : pg_Rel u' w' n t := by
  obtain ⟨-, hc, hn, he, hb⟩ := h
  refine ⟨hs, ?_, ?_, ?_, ?_⟩
  · unfold pg_Cl at hc ⊢; rw [hu 3 (by omega), hu 4 (by omega), hv 3 (by omega), hv 4 (by omega), hv 14 (by omega)]; exact hc
  · unfold pg_Nu at hn ⊢; rw [hu 10 (by omega), hu 13 (by omega)]; exact hn
  · unfold pg_Ea at he ⊢; rw [hu 14 (by omega), hu 15 (by omega), hu 12 (by omega), hr, hw]; exact he
  · unfold pg_Bo at hb ⊢; rw [hr]; exact hb
theorem pg_Rel.thr {u w : pg_St} {n t : Nat} (h : pg_Rel u w n t) (x : Int32) : pg_Rel u (upd w.1 15 x, w.2) n t := h.keep (h.1.r 15 (by omega) x) rfl rfl (fun _ _ => rfl) (fun k hk => pg_updn _ _ (by omega))
/-! ## closed or not -/
theorem pg_nI_m1 {d : Nat} (h : d ≤ 4000) : ¬ nI d = -1 := fun e => by
  have h1 : (nI d).toInt = (d : Int) := nI_toInt (by omega)
  rw [e, show (-1 : Int32).toInt = -1 by decide] at h1; omega
theorem pg_Rel.cl {u w : pg_St} {n t : Nat} (h : pg_Rel u w n t) : (!pg_eq (u.1 3) (-1)) = (!pg_eq (w.1 14) 0) := by
  rcases h.2.1 with ⟨h1, h2, -⟩ | ⟨h1, -, -, d, hd, h2⟩
  · rw [h1, h2]; rfl
  · rw [h1, h2, pg_eq_f (pg_nI_m1 hd), pg_eq_f (by decide)]
/-- closed: the days agree -/
theorem pg_Rel.day {u w : pg_St} {n t : Nat} (h : pg_Rel u w n t) (hc : (!pg_eq (u.1 3) (-1)) = true) : u.1 3 = w.1 3 ∧ u.1 4 = w.1 4 ∧ w.1 14 = 1 ∧ ∃ d : Nat, d ≤ 4000 ∧ u.1 3 = nI d := by
  rcases h.2.1 with ⟨-, h2, -⟩ | ⟨h1, h2, h3, h4⟩
  · rw [h2] at hc; exact absurd hc (by decide)
  · exact ⟨h2, h3, h1, h4⟩
theorem pg_Rel.nocl {u w : pg_St} {n t : Nat} (h : pg_Rel u w n t) (hc : (!pg_eq (u.1 3) (-1)) = false) : w.1 14 = 0 ∧ u.1 3 = -1 ∧ w.1 3 = 0 ∧ t = 0 ∧ u.1 4 = -1 := by
  rcases h.2.1 with ⟨h1, h2, h5, h3, h4, -⟩ | ⟨-, -, -, d, hd, h2⟩
  · exact ⟨h1, h2, h3, h4, h5⟩
  · rw [h2, pg_eq_f (pg_nI_m1 hd)] at hc; exact absurd hc (by decide)
/-! ## numbers -/
theorem pg_bmod {z : Int} (h1 : -2147483648 ≤ z) (h2 : z < 2147483648) : z.bmod (2 ^ 32) = z := by
  rw [Int.bmod_eq_of_le (by omega) (by omega)]
theorem pg_addI {x y : Int32} (h1 : -2147483648 ≤ x.toInt + y.toInt) (h2 : x.toInt + y.toInt < 2147483648) : (x + y).toInt = x.toInt + y.toInt := by
  rw [Int32.toInt_add, pg_bmod h1 h2]
theorem pg_sm_bd {f : Nat → Int32} : ∀ {n : Nat}, n ≤ 20 → (∀ k, k < n → pg_bd (f k)) → 0 ≤ (pg_sm f n).toInt ∧ (pg_sm f n).toInt ≤ n * 10000000
  | 0, _, _ => by simp [pg_sm]
  | n + 1, hn, h => by
    obtain ⟨h1, h2⟩ := pg_sm_bd (n := n) (by omega) (fun k hk => h k (by omega))
    obtain ⟨h3, h4⟩ := h n (by omega)
    have e : (pg_sm f (n + 1)).toInt = (pg_sm f n).toInt + (f n).toInt := pg_addI (by omega) (by omega)
    rw [e]; omega
theorem pg_sm_le {f g : Nat → Int32} : ∀ {n : Nat}, n ≤ 20 → (∀ k, k < n → pg_bd (f k)) → (∀ k, k < n → pg_bd (g k)) → (∀ k, k < n → (f k).toInt ≤ (g k).toInt) → (pg_sm f n).toInt ≤ (pg_sm g n).toInt
  | 0, _, _, _, _ => Int.le_refl _
  | n + 1, hn, hf, hg, h => by
    have i1 := pg_sm_le (n := n) (by omega) (fun k hk => hf k (by omega)) (fun k hk => hg k (by omega)) (fun k hk => h k (by omega))
    obtain ⟨a1, a2⟩ := pg_sm_bd (f := f) (n := n) (by omega) (fun k hk => hf k (by omega))
    obtain ⟨b1, b2⟩ := pg_sm_bd (f := g) (n := n) (by omega) (fun k hk => hg k (by omega))
    obtain ⟨c1, c2⟩ := hf n (by omega)
    obtain ⟨d1, d2⟩ := hg n (by omega)
    have e1 : (pg_sm f (n + 1)).toInt = (pg_sm f n).toInt + (f n).toInt := pg_addI (by omega) (by omega)
    have e2 : (pg_sm g (n + 1)).toInt = (pg_sm g n).toInt + (g n).toInt := pg_addI (by omega) (by omega)
    have := h n (by omega)
    rw [e1, e2]; omega
theorem pg_bd0 : pg_bd 0 := ⟨by decide, by decide⟩
theorem pg_bd_if {c : Prop} [Decidable c] {x y : Int32} (h1 : pg_bd x) (h2 : pg_bd y) : pg_bd (if c then x else y) := by by_cases h : c <;> simp [h, h1, h2]
/-- what is kept can only fall as days pass -/
theorem pg_mono {u : pg_St} {n : Nat} (h20 : n ≤ 20) (hb : pg_Bo u n) {d e : Nat} (hd : d ≤ 8000) (he : e ≤ 8000) (hde : d ≤ e) : pg_kept u n (nI e) ≤ pg_kept u n (nI d) := by
  have ho : ∀ k, k < n → pg_bd (if u.2 10 k = -1 then u.2 8 k else 0) := fun k hk => pg_bd_if (hb.2 k hk) pg_bd0
  have hp : ∀ z : Int32, ∀ k, k < 4 → pg_bd (if u.2 1 k ≤ z then 0 else u.2 0 k) := fun z k hk => pg_bd_if pg_bd0 (hb.1 k hk)
  obtain ⟨o1, o2⟩ := pg_sm_bd h20 ho
  obtain ⟨p1, p2⟩ := pg_sm_bd (by decide) (hp (nI e))
  obtain ⟨q1, q2⟩ := pg_sm_bd (by decide) (hp (nI d))
  have hl := pg_sm_le (by decide) (hp (nI e)) (hp (nI d)) (fun k hk => by
    by_cases h1 : u.2 1 k ≤ nI d
    · rw [if_pos h1, if_pos (Int32.le_trans h1 (nI_le hde (by omega)))]; exact Int.le_refl _
    · rw [if_neg h1]
      by_cases h2 : u.2 1 k ≤ nI e
      · rw [if_pos h2]; exact (hb.1 k hk).1
      · rw [if_neg h2]; exact Int.le_refl _)
  have e1 : (pg_kept u n (nI e)).toInt = (pg_after u.2 (nI e)).toInt + (pg_open u.2 n).toInt := pg_addI (by simp only [pg_after, pg_open]; omega) (by simp only [pg_after, pg_open]; omega)
  have e2 : (pg_kept u n (nI d)).toInt = (pg_after u.2 (nI d)).toInt + (pg_open u.2 n).toInt := pg_addI (by simp only [pg_after, pg_open]; omega) (by simp only [pg_after, pg_open]; omega)
  rw [pg_toI_le, e1, e2]
  simp only [pg_after, pg_open] at hl ⊢
  omega
theorem pg_in_bd {x : Int32} (h : pg_in x 0 10000000 = true) : pg_bd x := by
  rw [pg_in_iff, show (0 : Int32).toInt = 0 by decide, show (10000000 : Int32).toInt = 10000000 by decide] at h; exact h
theorem pg_in_bd1 {x : Int32} (h : pg_in x 1 10000000 = true) : pg_bd x := by
  rw [pg_in_iff, show (1 : Int32).toInt = 1 by decide, show (10000000 : Int32).toInt = 10000000 by decide] at h
  exact ⟨by omega, h.2⟩
theorem pg_bd_upd {f : Nat → Int32} {j k : Nat} {x : Int32} (hx : pg_bd x) (hf : pg_bd (f k)) : pg_bd (upd f j x k) := by
  by_cases e : k = j
  · rw [e, pg_updk]; exact hx
  · rw [pg_updn _ _ e]; exact hf
/-! ## bifs -/
theorem pg_b0 {b : Bool} {x y : Int32} (hy : ¬ y = 0) (h : (bif b then x else y) = 0) : b = true ∧ x = 0 := by
  cases b
  · exact absurd h hy
  · exact ⟨rfl, h⟩
theorem pg_b0' {b : Bool} {x y : Int32} (hx : ¬ x = 0) (h : (bif b then x else y) = 0) : b = false ∧ y = 0 := by
  cases b
  · exact ⟨rfl, h⟩
  · exact absurd h hx
theorem pg_n1 : ¬ (1 : Int32) = 0 := by decide
theorem pg_n2 : ¬ (2 : Int32) = 0 := by decide
theorem pg_n3 : ¬ (3 : Int32) = 0 := by decide
/-! ## each call, where it is fine -/
section
variable {u w : pg_St} {n t : Nat}
theorem pg_I_setPrice (h : pg_Rel u w n t) (x y z : Int32) : pg_Rel (upd (upd (upd u.1 0 x) 1 y) 2 z, u.2) (upd (upd (upd (upd w.1 15 0) 0 x) 1 y) 2 z, w.2) n t :=
  h.keep ((((h.1.r 15 (by omega) 0).u 0 x).u 1 y).u 2 z) rfl rfl (fun k hk => by rcases hk with rfl | rfl | rfl | ⟨h1, h2⟩ <;> first | rfl | (show upd (upd (upd u.1 0 x) 1 y) 2 z k = _; rw [pg_updn _ _ (by omega), pg_updn _ _ (by omega), pg_updn _ _ (by omega)])) (fun k hk => by rcases hk with rfl | rfl | rfl <;> rfl)
theorem pg_I_setPart (h : pg_Rel u w n t) (k x d : Int32) (hx : pg_in x 0 10000000 = true) : pg_Rel (u.1, pg_row (pg_row u.2 0 (upd (u.2 0) k.toNatClampNeg x)) 1 (upd (u.2 1) k.toNatClampNeg d)) (upd w.1 15 0, pg_row (pg_row w.2 0 (upd (w.2 0) k.toNatClampNeg x)) 1 (upd (w.2 1) k.toNatClampNeg d)) n t := by
  obtain ⟨hs, hc, hn, he, hb⟩ := h.thr 0
  refine ⟨(hs.row 0 (by rw [h.1.2 0 (by omega)])).row 1 (by rw [h.1.2 1 (by omega)]), hc, hn, he, fun j hj => ?_, hb.2⟩
  exact pg_bd_upd (pg_in_bd hx) (hb.1 j hj)
theorem pg_I_setKind (h : pg_Rel u w n t) (k x y b z d : Int32) : pg_Rel (u.1, pg_row (pg_row (pg_row (pg_row (pg_row u.2 2 (upd (u.2 2) k.toNatClampNeg x)) 3 (upd (u.2 3) k.toNatClampNeg y)) 4 (upd (u.2 4) k.toNatClampNeg b)) 5 (upd (u.2 5) k.toNatClampNeg z)) 6 (upd (u.2 6) k.toNatClampNeg d))
    (upd w.1 15 0, pg_row (pg_row (pg_row (pg_row (pg_row w.2 2 (upd (w.2 2) k.toNatClampNeg x)) 3 (upd (w.2 3) k.toNatClampNeg y)) 4 (upd (w.2 4) k.toNatClampNeg b)) 5 (upd (w.2 5) k.toNatClampNeg z)) 6 (upd (w.2 6) k.toNatClampNeg d)) n t := by
  obtain ⟨hs, hc, hn, he, hb⟩ := h.thr 0
  exact ⟨((((hs.row 2 (by rw [h.1.2 2 (by omega)])).row 3 (by rw [h.1.2 3 (by omega)])).row 4 (by rw [h.1.2 4 (by omega)])).row 5 (by rw [h.1.2 5 (by omega)])).row 6 (by rw [h.1.2 6 (by omega)]), hc, hn, he, hb⟩
theorem pg_I_setYear (h : pg_Rel u w n t) (hc0 : (!pg_eq (u.1 3) (-1)) = false) (k x d : Int32) : pg_Rel (u.1, pg_row (pg_row u.2 11 (upd (u.2 11) k.toNatClampNeg x)) 12 (upd (u.2 12) k.toNatClampNeg d)) (upd w.1 15 0, pg_row (pg_row w.2 11 (upd (w.2 11) k.toNatClampNeg x)) 12 (upd (w.2 12) k.toNatClampNeg d)) n t := by
  obtain ⟨-, -, -, ht, -⟩ := h.nocl hc0
  obtain ⟨hs, hc, hn, he, hb⟩ := h.thr 0
  subst ht
  exact ⟨(hs.row 11 (by rw [h.1.2 11 (by omega)])).row 12 (by rw [h.1.2 12 (by omega)]), hc, hn, he, hb⟩
theorem pg_I_setCarry (h : pg_Rel u w n t) (b : Int32) : pg_Rel (upd u.1 11 b, u.2) (upd (upd w.1 15 0) 11 b, w.2) n t :=
  h.keep ((h.1.r 15 (by omega) 0).u 11 b) rfl rfl (fun k hk => pg_updn _ _ (by omega)) (fun k hk => by rcases hk with rfl | rfl | rfl <;> rfl)
theorem pg_Sh.fin (h : pg_Sh u w) (x y z : Int32) : pg_fin u x y z = pg_fin w x y z := by unfold pg_fin pg_col; rw [h.1 0 (by omega), h.1 1 (by omega), h.1 2 (by omega)]
theorem pg_Sh.hold (h : pg_Sh u w) (x y z : Int32) : pg_hold u x y z = pg_hold w x y z := by unfold pg_hold; rw [h.fin, h.2 0 (by omega)]
theorem pg_I_close (h : pg_Rel u w n t) (hc0 : (!pg_eq (u.1 3) (-1)) = false) (x y z : Int32) : pg_Rel (pg_close u x y z) (upd (upd (upd (upd (upd w.1 15 0) 4 (pg_fin w x y z)) 5 (pg_hold w x y z)) 6 (pg_fin w x y z - pg_hold w x y z)) 14 1, w.2) n t := by
  obtain ⟨-, -, h3, ht, -⟩ := h.nocl hc0
  obtain ⟨hs, -, hn, he, hb⟩ := h
  refine ⟨?_, Or.inr ⟨rfl, h3.symm, ?_, 0, by omega, rfl⟩, hn, he, hb⟩
  · unfold pg_close
    rw [hs.fin, hs.hold]
    exact (((((hs.l 3 (by omega) 0).r 15 (by omega) 0).u 4 _).u 5 _).u 6 _).r 14 (by omega) 1
  · show pg_fin u x y z = pg_fin w x y z
    exact hs.fin x y z
theorem pg_I_advance (h : pg_Rel u w n t) (hc0 : (!pg_eq (u.1 3) (-1)) = true) {x : Int32} (hx : pg_in x 1 400 = true) (hl : pg_le (u.1 3 + x) 4000 = true) : u.1 3 + x = w.1 3 + x ∧ (∀ i : Nat, i < x.toNatClampNeg → pg_kept w n (w.1 3 + nI (i + 1)) ≤ pg_kept w n (w.1 3 + nI i)) ∧ pg_Rel (pg_free (upd u.1 3 (u.1 3 + x), u.2) n (u.1 3 + x)) (pg_free (upd (upd w.1 15 0) 3 (w.1 3 + x), w.2) n (w.1 3 + x)) n t := by
  obtain ⟨e3, e4, h14, d, hd, hd3⟩ := h.day hc0
  obtain ⟨dn, h1, h4, rfl⟩ := pg_days hx
  refine ⟨by rw [e3], fun i hi => ?_, ?_⟩
  · rw [nI_clamp (by omega)] at hi
    rw [← e3, hd3, nI_add, nI_add, ← h.1.kept, ← h.1.kept]
    exact pg_mono h.2.2.1.2.1 h.2.2.2.2 (by omega) (by omega) (by omega)
  · obtain ⟨hs, -, hn, he, hb⟩ := h
    have hl2 := pg_le_e hl
    rw [hd3, nI_add] at hl2
    have hl3 : d + dn ≤ 4000 := (nI_leI (by omega) (by decide)).mp (show nI (d + dn) ≤ nI 4000 from hl2)
    rw [← e3]
    refine ⟨((hs.r 15 (by omega) 0).u 3 _).free n _, Or.inr ⟨?_, ?_, ?_, d + dn, hl3, ?_⟩, ⟨?_, hn.2.1, ?_, hn.2.2.2⟩, ⟨?_, ?_, ?_, ?_⟩, ⟨?_, ?_⟩⟩
    · rw [pg_free_o _ _ _ (by decide) (by decide)]; exact h14
    · rw [pg_free_o _ _ _ (by decide) (by decide), pg_free_o _ _ _ (by decide) (by decide)]; rfl
    · rw [pg_free_o _ _ _ (by decide) (by decide), pg_free_o _ _ _ (by decide) (by decide)]; exact e4
    · rw [pg_free_o _ _ _ (by decide) (by decide), ← nI_add, ← hd3]; rfl
    · rw [pg_free_o _ _ _ (by decide) (by decide)]; exact hn.1
    · rw [pg_free_o _ _ _ (by decide) (by decide)]; exact hn.2.2.1
    · rw [pg_free_o _ _ _ (by decide) (by decide), pg_free_r]; exact he.1
    · rw [pg_free_o _ _ _ (by decide) (by decide), pg_free_r]; exact he.2.1
    · rw [pg_free_r]; exact he.2.2.1
    · rw [pg_free_o _ _ _ (by decide) (by decide), pg_free_r]; exact he.2.2.2
    · rw [pg_free_r]; exact hb.1
    · rw [pg_free_r]; exact hb.2
theorem pg_I_claim (h : pg_Rel u w n t) (hc0 : (!pg_eq (u.1 3) (-1)) = true) (k : Int32) {x : Int32} (hx : pg_in x 1 10000000 = true) (hn20 : pg_le 20 (nI n) = false) : pg_Rel (pg_claim u n k x) (pg_claim (upd w.1 15 0, w.2) n k x) (n + 1) t := by
  have h20 : n < 20 := by
    have h7 := pg_le_n hn20
    exact (nI_ltI (by have := h.2.2.1.2.1; omega) (by decide)).mp (show nI n < nI 20 from Int32.not_le.mp h7)
  obtain ⟨e3, e4, h14, hd⟩ := h.day hc0
  obtain ⟨hs, -, hn, he, hb⟩ := h
  refine ⟨?_, Or.inr ⟨h14, e3, e4, hd⟩, ⟨rfl, by omega, hn.2.2.1, hn.2.2.2⟩, he, hb.1, fun j hj => ?_⟩
  · exact ((((((hs.r 15 (by omega) 0).u 10 (nI (n + 1))).row 7 (by rw [hs.2 7 (by omega)])).row 8 (by rw [hs.2 8 (by omega)])).row 9 (by rw [hs.2 9 (by omega)])).row 10 (by rw [hs.2 10 (by omega)]))
  · show pg_bd (upd (u.2 8) n x j)
    by_cases e : j = n
    · rw [e, pg_updk]; exact pg_in_bd1 hx
    · rw [pg_updn _ _ e]; exact hb.2 j (by omega)
theorem pg_I_offer (h : pg_Rel u w n t) (k x : Int32) : pg_Rel (u.1, pg_row u.2 9 (upd (u.2 9) k.toNatClampNeg x)) (upd w.1 15 0, pg_row w.2 9 (upd (w.2 9) k.toNatClampNeg x)) n t := by
  obtain ⟨hs, hc, hn, he, hb⟩ := h.thr 0
  exact ⟨hs.row 9 (by rw [h.1.2 9 (by omega)]), hc, hn, he, hb⟩
theorem pg_I_settle (h : pg_Rel u w n t) (hn0 : 0 < n) (c : Nat) {x y : Int32} (e : x = y) : pg_back (pg_at u c x) n = pg_back (pg_at (upd w.1 15 0, w.2) c y) n ∧ pg_Rel (pg_pay (pg_at u c x) n (u.1 3)) (pg_pay (pg_at (upd w.1 15 0, w.2) c y) n (w.1 3)) n t := by
  subst e
  have hsa : pg_Sh (pg_at u c x) (pg_at (upd w.1 15 0, w.2) c x) := (h.1.r 15 (by omega) 0).row 10 (by rw [h.1.2 10 (by omega)])
  refine ⟨hsa.back n, ?_⟩
  have hR : pg_Rel (pg_at u c x) (pg_at (upd w.1 15 0, w.2) c x) n t := ⟨hsa, (h.thr 0).2.1, h.2.2.1, (h.thr 0).2.2.2.1, h.2.2.2.2⟩
  have e3 : u.1 3 = w.1 3 := by
    rcases h.2.1 with ⟨-, -, -, -, -, h0⟩ | ⟨-, h2, -⟩
    · omega
    · exact h2
  exact hR.keep (hsa.pay n e3) (pg_pay_r _ _ _) (pg_pay_r _ _ _) (fun k hk => pg_pay_o _ _ _ (by omega) (by omega) (by omega)) (fun k hk => pg_pay_o _ _ _ (by omega) (by omega) (by omega))
theorem pg_Sh.msum (h : pg_Sh u w) (i j : Nat) : pg_msum u.2 i j = pg_msum w.2 i j := by unfold pg_msum; rw [h.2 12 (by omega), h.2 13 (by omega)]
theorem pg_Sh.met (h : pg_Sh u w) (i j : Nat) : pg_met u.2 i j = pg_met w.2 i j := by unfold pg_met; rw [h.2 13 (by omega)]
theorem pg_e14 (he : pg_Ea u w t) (x : Int32) : pg_sm (upd (w.2 14) t x) (t + 1) = u.1 14 + x := by
  show pg_sm (upd (w.2 14) t x) t + upd (w.2 14) t x t = _
  rw [pg_updk, pg_sm_cong (g := w.2 14) (fun k hk => pg_updn _ _ (by omega)), he.1]
theorem pg_e15 (hs : pg_Sh u w) (he : pg_Ea u w t) : pg_sm (w.2 11) (t + 1) = u.1 15 + u.2 11 t := by
  show pg_sm (w.2 11) t + w.2 11 t = _
  rw [he.2.1, hs.2 11 (by omega)]
theorem pg_tk_m (h : pg_Rel u w n t) (x : Int32) : pg_tk u t x = pg_tkM w t x := by
  unfold pg_tk pg_tkM
  rw [pg_e14 h.2.2.2.1, pg_e15 h.1 h.2.2.2.1, h.1.1 11 (by omega), h.1.2 11 (by omega)]
theorem pg_met_01 {r : Nat → Nat → Int32} {i j y : Nat} (h : r 13 y = 0 ∨ r 13 y = 1) : pg_met r i j y = 0 ∨ pg_met r i j y = 1 := by
  unfold pg_met
  by_cases g : i ≤ y ∧ y < j
  · rw [if_pos g]
    by_cases q : r 13 y = 0
    · rw [if_pos q]; exact Or.inr rfl
    · rw [if_neg q]; exact h
  · rw [if_neg g]; exact h
theorem pg_I_report (h : pg_Rel u w n t) (hc0 : (!pg_eq (u.1 3) (-1)) = true) (ht4 : t < 4) (x : Int32) : pg_tellr u t x = pg_msum w.2 (pg_tkM w t x) (t + 1) ∧ pg_Rel (pg_owe (pg_tell u t x) n (pg_tellr u t x)) (pg_owe (upd (upd w.1 15 0) 13 (nI (t + 1)), pg_row (pg_row w.2 14 (upd (w.2 14) t x)) 13 (pg_met w.2 (pg_tkM w t x) (t + 1))) n (pg_msum w.2 (pg_tkM w t x) (t + 1))) n (t + 1) := by
  have ek := pg_tk_m h x
  have er : pg_tellr u t x = pg_msum w.2 (pg_tkM w t x) (t + 1) := by rw [pg_tellr, ek]; exact h.1.msum _ _
  refine ⟨er, ?_⟩
  obtain ⟨e3, e4, h14, hd⟩ := h.day hc0
  have hR : pg_Rel (pg_tell u t x) (upd (upd w.1 15 0) 13 (nI (t + 1)), pg_row (pg_row w.2 14 (upd (w.2 14) t x)) 13 (pg_met w.2 (pg_tkM w t x) (t + 1))) n (t + 1) := by
    obtain ⟨hs, -, hn, he, hb⟩ := h
    refine ⟨?_, Or.inr ⟨h14, e3, e4, hd⟩, ⟨hn.1, hn.2.1, rfl, by omega⟩, ⟨?_, ?_, fun y hy => ?_, fun h0 y h1 h2 => ?_⟩, hb⟩
    · exact (((((hs.r 15 (by omega) 0).u 13 (nI (t + 1))).l 14 (by omega) _).l 15 (by omega) _).row14 _).row 13 (by rw [ek]; exact hs.met _ _)
    · exact (pg_e14 he x).symm
    · show u.1 15 + u.2 11 t = pg_sm (u.2 11) t + u.2 11 t
      rw [he.2.1]
    · exact pg_met_01 (he.2.2.1 y hy)
    · show pg_met u.2 (pg_tk u t x) (t + 1) y = 0
      unfold pg_met
      rw [if_neg (by omega)]
      exact he.2.2.2 h0 y (by omega) h2
  exact hR.keep (hR.1.owe n er) rfl rfl (fun k hk => pg_owe_o _ _ _ (by omega) (by omega) (by omega)) (fun k hk => pg_owe_o _ _ _ (by omega) (by omega) (by omega))
theorem pg_I_speedUp (h : pg_Rel u w n t) : pg_hasr u t = pg_msum w.2 t 4 ∧ pg_Rel (pg_owe (pg_has u t) n (pg_hasr u t)) (pg_owe (upd (upd w.1 15 0) 12 1, pg_row w.2 13 (pg_met w.2 t 4)) n (pg_msum w.2 t 4)) n t := by
  have er : pg_hasr u t = pg_msum w.2 t 4 := h.1.msum _ _
  refine ⟨er, ?_⟩
  have hR : pg_Rel (pg_has u t) (upd (upd w.1 15 0) 12 1, pg_row w.2 13 (pg_met w.2 t 4)) n t := by
    obtain ⟨hs, hc, hn, he, hb⟩ := h
    refine ⟨?_, hc, hn, ⟨he.1, he.2.1, fun y hy => ?_, fun h0 => ?_⟩, hb⟩
    · exact ((hs.r 15 (by omega) 0).u 12 1).row 13 (hs.met _ _)
    · exact pg_met_01 (he.2.2.1 y hy)
    · exact absurd (show (1 : Int32) = 0 from h0) (by decide)
  exact hR.keep (hR.1.owe n er) rfl rfl (fun k hk => pg_owe_o _ _ _ (by omega) (by omega) (by omega)) (fun k hk => pg_owe_o _ _ _ (by omega) (by omega) (by omega))
/-! ## what is thrown is the same -/
theorem pg_T_advance (h : pg_Rel u w n t) (x : Int32) : pg_t_advance (!pg_eq (u.1 3) (-1)) (u.1 3) x = pg_t_advance (!pg_eq (w.1 14) 0) (w.1 3) x := by
  rw [← h.cl]
  unfold pg_t_advance
  cases hc : (!pg_eq (u.1 3) (-1))
  · simp only [cond_false]
  · rw [(h.day hc).1]
theorem pg_T_claim (h : pg_Rel u w n t) (k x : Int32) : pg_t_claim (!pg_eq (u.1 3) (-1)) (u.1 3) u.2 (nI n) k x = pg_t_claim (!pg_eq (w.1 14) 0) (w.1 3) w.2 (nI n) k x := by
  rw [← h.cl]
  unfold pg_t_claim
  cases hc : (!pg_eq (u.1 3) (-1))
  · simp only [cond_false]
  · rw [(h.day hc).1, h.1.2 6 (by omega)]
theorem pg_T_offer (h : pg_Rel u w n t) (k x : Int32) : pg_t_offer u.2 (nI n) k x = pg_t_offer w.2 (nI n) k x := by unfold pg_t_offer; rw [h.1.2 10 (by omega), h.1.2 8 (by omega)]
theorem pg_T_agree (h : pg_Rel u w n t) (k : Int32) : pg_t_agree u.2 (nI n) k = pg_t_agree w.2 (nI n) k := by unfold pg_t_agree; rw [h.1.2 10 (by omega), h.1.2 9 (by omega)]
theorem pg_T_decide (h : pg_Rel u w n t) (k x : Int32) : pg_t_decide u.2 (nI n) k x = pg_t_decide w.2 (nI n) k x := by unfold pg_t_decide; rw [h.1.2 10 (by omega), h.1.2 9 (by omega), h.1.2 8 (by omega)]
theorem pg_T_report (h : pg_Rel u w n t) (x : Int32) : pg_t_report (!pg_eq (u.1 3) (-1)) (!pg_eq (u.1 12) 0) (nI t) x = pg_t_report (!pg_eq (w.1 14) 0) (!pg_eq (w.1 12) 0) (nI t) x := by rw [h.cl, h.1.1 12 (by omega)]
theorem pg_T_speedUp (h : pg_Rel u w n t) : pg_t_speedUp (!pg_eq (u.1 3) (-1)) (!pg_eq (u.1 12) 0) = pg_t_speedUp (!pg_eq (w.1 14) 0) (!pg_eq (w.1 12) 0) := by rw [h.cl, h.1.1 12 (by omega)]
/-! ## each call, where nothing is thrown -/
theorem pg_J_setPart (h : pg_Rel u w n t) {k x d : Int32} (hthr : pg_t_setPart (!pg_eq (u.1 3) (-1)) k x d = 0) : pg_Rel (u.1, pg_row (pg_row u.2 0 (upd (u.2 0) k.toNatClampNeg x)) 1 (upd (u.2 1) k.toNatClampNeg d)) (upd w.1 15 0, pg_row (pg_row w.2 0 (upd (w.2 0) k.toNatClampNeg x)) 1 (upd (w.2 1) k.toNatClampNeg d)) n t := by
  obtain ⟨-, h1⟩ := pg_b0 pg_n1 hthr
  obtain ⟨hx, -⟩ := pg_b0 pg_n2 h1
  exact pg_I_setPart h k x d hx
theorem pg_J_setYear (h : pg_Rel u w n t) {k x d : Int32} (hthr : pg_t_setYear (!pg_eq (u.1 3) (-1)) k x d = 0) : pg_Rel (u.1, pg_row (pg_row u.2 11 (upd (u.2 11) k.toNatClampNeg x)) 12 (upd (u.2 12) k.toNatClampNeg d)) (upd w.1 15 0, pg_row (pg_row w.2 11 (upd (w.2 11) k.toNatClampNeg x)) 12 (upd (w.2 12) k.toNatClampNeg d)) n t := by
  obtain ⟨-, h1⟩ := pg_b0 pg_n1 hthr
  obtain ⟨-, h2⟩ := pg_b0 pg_n2 h1
  obtain ⟨-, h3⟩ := pg_b0 pg_n2 h2
  exact pg_I_setYear h (pg_b0' pg_n3 h3).1 k x d
theorem pg_J_close (h : pg_Rel u w n t) {x y z : Int32} (hthr : pg_t_close (!pg_eq (u.1 3) (-1)) x y z = 0) : pg_Rel (pg_close u x y z) (upd (upd (upd (upd (upd w.1 15 0) 4 (pg_fin w x y z)) 5 (pg_hold w x y z)) 6 (pg_fin w x y z - pg_hold w x y z)) 14 1, w.2) n t := by
  obtain ⟨-, h1⟩ := pg_b0 pg_n1 hthr
  obtain ⟨-, h2⟩ := pg_b0 pg_n1 h1
  obtain ⟨-, h3⟩ := pg_b0 pg_n1 h2
  exact pg_I_close h (pg_b0' pg_n2 h3).1 x y z
theorem pg_J_advance (h : pg_Rel u w n t) {x : Int32} (hthr : pg_t_advance (!pg_eq (u.1 3) (-1)) (u.1 3) x = 0) : u.1 3 + x = w.1 3 + x ∧ (∀ i : Nat, i < x.toNatClampNeg → pg_kept w n (w.1 3 + nI (i + 1)) ≤ pg_kept w n (w.1 3 + nI i)) ∧ pg_Rel (pg_free (upd u.1 3 (u.1 3 + x), u.2) n (u.1 3 + x)) (pg_free (upd (upd w.1 15 0) 3 (w.1 3 + x), w.2) n (w.1 3 + x)) n t := by
  obtain ⟨hx, h1⟩ := pg_b0 pg_n1 hthr
  obtain ⟨hc, h2⟩ := pg_b0 pg_n2 h1
  exact pg_I_advance h hc hx (pg_b0 pg_n2 h2).1
theorem pg_J_claim (h : pg_Rel u w n t) {k x : Int32} (hthr : pg_t_claim (!pg_eq (u.1 3) (-1)) (u.1 3) u.2 (nI n) k x = 0) : pg_Rel (pg_claim u n k x) (pg_claim (upd w.1 15 0, w.2) n k x) (n + 1) t := by
  obtain ⟨-, h1⟩ := pg_b0 pg_n1 hthr
  obtain ⟨hx, h2⟩ := pg_b0 pg_n2 h1
  obtain ⟨hc, h3⟩ := pg_b0 pg_n3 h2
  obtain ⟨-, h4⟩ := pg_b0 pg_n3 h3
  exact pg_I_claim h hc k hx (pg_b0' pg_n3 h4).1
theorem pg_n0 {k : Int32} (h20 : n ≤ 20) (h : pg_nb k (nI n) = true) : 0 < n := by
  obtain ⟨j, hj, -⟩ := pg_nb_nI (by omega) h
  omega
theorem pg_J_agree (h : pg_Rel u w n t) {k : Int32} (hthr : pg_t_agree u.2 (nI n) k = 0) : pg_back (pg_at u k.toNatClampNeg (u.2 9 k.toNatClampNeg)) n = pg_back (pg_at (upd w.1 15 0, w.2) k.toNatClampNeg (w.2 9 k.toNatClampNeg)) n ∧ pg_Rel (pg_pay (pg_at u k.toNatClampNeg (u.2 9 k.toNatClampNeg)) n (u.1 3)) (pg_pay (pg_at (upd w.1 15 0, w.2) k.toNatClampNeg (w.2 9 k.toNatClampNeg)) n (w.1 3)) n t :=
  pg_I_settle h (pg_n0 h.2.2.1.2.1 (pg_b0 pg_n1 hthr).1) _ (by rw [h.1.2 9 (by omega)])
theorem pg_J_decide (h : pg_Rel u w n t) {k x : Int32} (hthr : pg_t_decide u.2 (nI n) k x = 0) : pg_back (pg_at u k.toNatClampNeg x) n = pg_back (pg_at (upd w.1 15 0, w.2) k.toNatClampNeg x) n ∧ pg_Rel (pg_pay (pg_at u k.toNatClampNeg x) n (u.1 3)) (pg_pay (pg_at (upd w.1 15 0, w.2) k.toNatClampNeg x) n (w.1 3)) n t :=
  pg_I_settle h (pg_n0 h.2.2.1.2.1 (pg_b0 pg_n1 hthr).1) _ rfl
theorem pg_J_report (h : pg_Rel u w n t) {x : Int32} (hthr : pg_t_report (!pg_eq (u.1 3) (-1)) (!pg_eq (u.1 12) 0) (nI t) x = 0) : pg_tellr u t x = pg_msum w.2 (pg_tkM w t x) (t + 1) ∧ pg_Rel (pg_owe (pg_tell u t x) n (pg_tellr u t x)) (pg_owe (upd (upd w.1 15 0) 13 (nI (t + 1)), pg_row (pg_row w.2 14 (upd (w.2 14) t x)) 13 (pg_met w.2 (pg_tkM w t x) (t + 1))) n (pg_msum w.2 (pg_tkM w t x) (t + 1))) n (t + 1) := by
  obtain ⟨-, h1⟩ := pg_b0 pg_n1 hthr
  obtain ⟨hc, h2⟩ := pg_b0 pg_n2 h1
  obtain ⟨-, h3⟩ := pg_b0' pg_n2 h2
  have h4 := pg_le_n (pg_b0' pg_n2 h3).1
  exact pg_I_report h hc ((nI_ltI (by have := h.2.2.1.2.2.2; omega) (by decide)).mp (show nI t < nI 4 from Int32.not_le.mp h4)) x
/-- fine: the places of what may be thrown -/
theorem pg_w15_pay (u : pg_St) (n : Nat) (d : Int32) : (pg_pay u n d).1 15 = u.1 15 := pg_pay_o _ _ _ (by decide) (by decide) (by decide)
theorem pg_w15_free (u : pg_St) (n : Nat) (d : Int32) : (pg_free u n d).1 15 = u.1 15 := pg_free_o _ _ _ (by decide) (by decide)
theorem pg_w15_owe (u : pg_St) (n : Nat) (x : Int32) : (pg_owe u n x).1 15 = u.1 15 := rfl
end
/-! ## how many there are to throw -/
theorem pg_c1 {b : Bool} {x : Int32} {P : Int32 → Prop} (h0 : P x) (h1 : P 1) : P (bif b then x else 1) := by cases b; exact h1; exact h0
theorem pg_cs {b : Bool} {x y : Int32} {P : Int32 → Prop} (h0 : P x) (h1 : P y) : P (bif b then x else y) := by cases b; exact h1; exact h0
def pg_is1 (x : Int32) : Prop := x = 0 ∨ x = 1
def pg_is2 (x : Int32) : Prop := x = 0 ∨ x = 1 ∨ x = 2
def pg_is3 (x : Int32) : Prop := x = 0 ∨ x = 1 ∨ x = 2 ∨ x = 3
theorem pg_20 : pg_is2 0 := Or.inl rfl
theorem pg_21 : pg_is2 1 := Or.inr (Or.inl rfl)
theorem pg_22 : pg_is2 2 := Or.inr (Or.inr rfl)
theorem pg_30 : pg_is3 0 := Or.inl rfl
theorem pg_31 : pg_is3 1 := Or.inr (Or.inl rfl)
theorem pg_32 : pg_is3 2 := Or.inr (Or.inr (Or.inl rfl))
theorem pg_33 : pg_is3 3 := Or.inr (Or.inr (Or.inr rfl))
theorem pg_10 : pg_is1 0 := Or.inl rfl
theorem pg_11 : pg_is1 1 := Or.inr rfl
theorem pg_c_setPrice (cl : Bool) (x y z : Int32) : pg_is2 (pg_t_setPrice cl x y z) := pg_cs (pg_cs (pg_cs (pg_cs pg_22 pg_20) pg_21) pg_21) pg_21
theorem pg_c_setPart (cl : Bool) (k x d : Int32) : pg_is3 (pg_t_setPart cl k x d) := pg_cs (pg_cs (pg_cs (pg_cs pg_33 pg_30) pg_32) pg_32) pg_31
theorem pg_c_setKind (cl : Bool) (k x y z w : Int32) : pg_is3 (pg_t_setKind cl k x y z w) := pg_cs (pg_cs (pg_cs (pg_cs (pg_cs (pg_cs pg_33 pg_30) pg_32) pg_32) pg_32) pg_32) pg_31
theorem pg_c_setYear (cl : Bool) (k x d : Int32) : pg_is3 (pg_t_setYear cl k x d) := pg_cs (pg_cs (pg_cs (pg_cs pg_33 pg_30) pg_32) pg_32) pg_31
theorem pg_c_setCarry (cl : Bool) : pg_is1 (pg_t_setCarry cl) := pg_cs pg_11 pg_10
theorem pg_c_close (cl : Bool) (x y z : Int32) : pg_is2 (pg_t_close cl x y z) := pg_cs (pg_cs (pg_cs (pg_cs pg_22 pg_20) pg_21) pg_21) pg_21
theorem pg_c_advance (cl : Bool) (d x : Int32) : pg_is2 (pg_t_advance cl d x) := pg_cs (pg_cs (pg_cs pg_20 pg_22) pg_22) pg_21
theorem pg_c_claim (cl : Bool) (d : Int32) (r : Nat → Nat → Int32) (n k x : Int32) : pg_is3 (pg_t_claim cl d r n k x) := pg_cs (pg_cs (pg_cs (pg_cs (pg_cs pg_33 pg_30) pg_33) pg_33) pg_32) pg_31
theorem pg_c_offer (r : Nat → Nat → Int32) (n c x : Int32) : pg_is3 (pg_t_offer r n c x) := pg_cs (pg_cs (pg_cs pg_30 pg_33) pg_32) pg_31
theorem pg_c_agree (r : Nat → Nat → Int32) (n c : Int32) : pg_is2 (pg_t_agree r n c) := pg_cs (pg_cs (pg_cs pg_22 pg_20) pg_22) pg_21
theorem pg_c_decide (r : Nat → Nat → Int32) (n c x : Int32) : pg_is3 (pg_t_decide r n c x) := pg_cs (pg_cs (pg_cs pg_30 pg_33) pg_32) pg_31
theorem pg_c_report (cl sp : Bool) (t x : Int32) : pg_is2 (pg_t_report cl sp t x) := pg_cs (pg_cs (pg_cs pg_22 (pg_cs pg_22 pg_20)) pg_22) pg_21
theorem pg_c_speedUp (cl sp : Bool) : pg_is1 (pg_t_speedUp cl sp) := pg_cs (pg_cs pg_11 pg_10) pg_11
theorem pg_c_num (k n : Int32) : pg_is1 (pg_t_num k n) := pg_cs pg_10 pg_11
