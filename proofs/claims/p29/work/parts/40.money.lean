/-! numbers -/
theorem pg_bmod {z : Int} (h1 : -2147483648 ≤ z) (h2 : z < 2147483648) : z.bmod (2 ^ 32) = z := by
  rw [Int.bmod_eq_of_le (by omega) (by omega)]
theorem pg_addI {x y : Int32} (h1 : -2147483648 ≤ x.toInt + y.toInt) (h2 : x.toInt + y.toInt < 2147483648) : (x + y).toInt = x.toInt + y.toInt := by
  rw [Int32.toInt_add, pg_bmod h1 h2]
theorem pg_subI {x y : Int32} (h1 : -2147483648 ≤ x.toInt - y.toInt) (h2 : x.toInt - y.toInt < 2147483648) : (x - y).toInt = x.toInt - y.toInt := by
  rw [Int32.toInt_sub, pg_bmod h1 h2]
theorem pg_i0 : (0 : Int32).toInt = 0 := by decide
theorem pg_im1 : (-1 : Int32).toInt = -1 := by decide
/-- from 0 to N -/
def pg_bb (x : Int32) (N : Nat) : Prop := 0 ≤ x.toInt ∧ x.toInt ≤ (N : Int)
theorem pg_bb0 (N : Nat) : pg_bb 0 N := ⟨by rw [pg_i0]; omega, by rw [pg_i0]; omega⟩
theorem pg_bb.le {x : Int32} {N M : Nat} (h : pg_bb x N) (hm : N ≤ M) : pg_bb x M := ⟨h.1, by have := h.2; omega⟩
theorem pg_bb_if {c : Prop} [Decidable c] {x y : Int32} {N : Nat} (h1 : pg_bb x N) (h2 : pg_bb y N) : pg_bb (if c then x else y) N := by by_cases h : c <;> simp [h, h1, h2]
theorem pg_bb_nI {n N : Nat} (h : n ≤ N) (hN : N < 2147483648) : pg_bb (nI n) N := by
  have e : (nI n).toInt = (n : Int) := nI_toInt (by omega)
  exact ⟨by omega, by omega⟩
theorem pg_sm_bb {f : Nat → Int32} {B : Nat} : ∀ {n : Nat}, n * B < 2147483648 → (∀ k, k < n → pg_bb (f k) B) → pg_bb (pg_sm f n) (n * B)
  | 0, _, _ => pg_bb0 _
  | n + 1, hn, h => by
    have e2 : (n + 1) * B = n * B + B := Nat.succ_mul n B
    rw [e2] at hn ⊢
    obtain ⟨h1, h2⟩ := pg_sm_bb (n := n) (by omega) (fun k hk => h k (by omega))
    obtain ⟨h3, h4⟩ := h n (by omega)
    generalize n * B = M at *
    have e : (pg_sm f (n + 1)).toInt = (pg_sm f n).toInt + (f n).toInt := pg_addI (by omega) (by omega)
    exact ⟨by omega, by omega⟩
theorem pg_sm_mono {f g : Nat → Int32} {B : Nat} : ∀ {n : Nat}, n * B < 2147483648 → (∀ k, k < n → pg_bb (f k) B) → (∀ k, k < n → pg_bb (g k) B) → (∀ k, k < n → (f k).toInt ≤ (g k).toInt) → (pg_sm f n).toInt ≤ (pg_sm g n).toInt
  | 0, _, _, _, _ => Int.le_refl _
  | n + 1, hn, hf, hg, h => by
    have e2 : (n + 1) * B = n * B + B := Nat.succ_mul n B
    rw [e2] at hn
    have i1 := pg_sm_mono (n := n) (by omega) (fun k hk => hf k (by omega)) (fun k hk => hg k (by omega)) (fun k hk => h k (by omega))
    obtain ⟨a1, a2⟩ := pg_sm_bb (f := f) (n := n) (by omega) (fun k hk => hf k (by omega))
    obtain ⟨b1, b2⟩ := pg_sm_bb (f := g) (n := n) (by omega) (fun k hk => hg k (by omega))
    obtain ⟨c1, c2⟩ := hf n (by omega)
    obtain ⟨d1, d2⟩ := hg n (by omega)
    generalize n * B = M at *
    have e1 : (pg_sm f (n + 1)).toInt = (pg_sm f n).toInt + (f n).toInt := pg_addI (by omega) (by omega)
    have e3 : (pg_sm g (n + 1)).toInt = (pg_sm g n).toInt + (g n).toInt := pg_addI (by omega) (by omega)
    have := h n (by omega)
    rw [e1, e3]; omega
theorem pg_minI (x y : Int32) : (pg_min x y).toInt = min x.toInt y.toInt := by
  unfold pg_min
  by_cases h : y < x
  · rw [if_pos h]; have := (pg_toI_lt y x).mp h; omega
  · rw [if_neg h]
    have : ¬ y.toInt < x.toInt := fun q => h ((pg_toI_lt y x).mpr q)
    omega
theorem pg_maxI (x y : Int32) : (pg_max x y).toInt = max x.toInt y.toInt := by
  unfold pg_max
  by_cases h : x < y
  · rw [if_pos h]; have := (pg_toI_lt x y).mp h; omega
  · rw [if_neg h]
    have : ¬ x.toInt < y.toInt := fun q => h ((pg_toI_lt x y).mpr q)
    omega
theorem pg_updk (f : Nat → Int32) (k : Nat) (x : Int32) : upd f k x k = x := if_pos rfl
theorem pg_updn (f : Nat → Int32) {k j : Nat} (x : Int32) (h : j ≠ k) : upd f k x j = f j := if_neg h
theorem pg_rowk (r : Nat → Nat → Int32) (j : Nat) (f : Nat → Int32) : pg_row r j f j = f := if_pos rfl
theorem pg_rown (r : Nat → Nat → Int32) {j i : Nat} (f : Nat → Int32) (h : i ≠ j) : pg_row r j f i = r i := if_neg h
theorem pg_eqI {x y : Int32} (h : x.toInt = y.toInt) : x = y := Int32.toInt_inj.mp h
theorem pg_not_lt {x y : Int32} (h : y.toInt ≤ x.toInt) : ¬ x < y := fun q => by have := (pg_toI_lt x y).mp q; omega
/-! ## what is due -/
def pg_St10 (r : Nat → Nat → Int32) (n : Nat) : Prop := ∀ k, k < n → r 10 k = -1 ∨ pg_bb (r 10 k) 300000
theorem pg_set_tb {r : Nat → Nat → Int32} {n : Nat} (hc : pg_St10 r n) (k le : Int32) : ∀ j, j < n → pg_bb (if r 7 j = k then (if r 10 j = -1 then 0 else if r 10 j < le then 0 else r 10 j) else 0) 300000 := by
  intro j hj
  refine pg_bb_if ?_ (pg_bb0 _)
  rcases hc j hj with h | h
  · rw [if_pos h]; exact pg_bb0 _
  · exact pg_bb_if (pg_bb0 _) (pg_bb_if (pg_bb0 _) h)
theorem pg_set_bb {r : Nat → Nat → Int32} {n : Nat} (h20 : n ≤ 20) (hc : pg_St10 r n) (k le : Int32) : pg_bb (pg_set r n k le) 6000000 :=
  (pg_sm_bb (B := 300000) (by omega) (pg_set_tb hc k le)).le (by omega)
theorem pg_past_bb {r : Nat → Nat → Int32} {k : Nat} {x : Int32} {S : Nat} (hS : S < 2000000000) (hx : pg_bb x S) (hb : pg_bb (r 3 k) 40000) : pg_bb (pg_past r k x) S := by
  unfold pg_past
  obtain ⟨h1, h2⟩ := hx
  obtain ⟨h3, h4⟩ := hb
  by_cases q : r 4 k = 0
  · rw [if_pos q]
    by_cases q2 : x ≤ r 3 k
    · rw [if_pos q2]; exact pg_bb0 _
    · rw [if_neg q2]
      have q3 : ¬ x.toInt ≤ (r 3 k).toInt := fun z => q2 ((pg_toI_le _ _).mpr z)
      have e := pg_subI (x := x) (y := r 3 k) (by omega) (by omega)
      exact ⟨by omega, by omega⟩
  · rw [if_neg q]
    exact pg_bb_if (pg_bb0 _) ⟨h1, h2⟩
theorem pg_past_mono {r : Nat → Nat → Int32} {k : Nat} {x y : Int32} {S : Nat} (hS : S < 2000000000) (hx : pg_bb x S) (hy : pg_bb y S) (hb : pg_bb (r 3 k) 40000) (hxy : x.toInt ≤ y.toInt) : (pg_past r k x).toInt ≤ (pg_past r k y).toInt := by
  have hB := (pg_past_bb (k := k) hS hy hb).1
  unfold pg_past at hB ⊢
  obtain ⟨h1, h2⟩ := hx
  obtain ⟨h5, h6⟩ := hy
  obtain ⟨h3, h4⟩ := hb
  by_cases q : r 4 k = 0
  · rw [if_pos q] at hB ⊢
    rw [if_pos q]
    by_cases q2 : x ≤ r 3 k
    · rw [if_pos q2, pg_i0]; exact hB
    · rw [if_neg q2]
      have q3 : ¬ x.toInt ≤ (r 3 k).toInt := fun z => q2 ((pg_toI_le _ _).mpr z)
      have q4 : ¬ y ≤ r 3 k := fun z => by have := (pg_toI_le _ _).mp z; omega
      rw [if_neg q4]
      have e := pg_subI (x := x) (y := r 3 k) (by omega) (by omega)
      have e2 := pg_subI (x := y) (y := r 3 k) (by omega) (by omega)
      omega
  · rw [if_neg q] at hB ⊢
    rw [if_neg q]
    by_cases q2 : x < r 3 k
    · rw [if_pos q2, pg_i0]; exact hB
    · rw [if_neg q2]
      have q3 : ¬ x.toInt < (r 3 k).toInt := fun z => q2 ((pg_toI_lt _ _).mpr z)
      have q4 : ¬ y < r 3 k := fun z => by have := (pg_toI_lt _ _).mp z; omega
      rw [if_neg q4]; exact hxy
/-- the terms' rows: amounts, baskets, caps, last days, the years' amounts -/
def pg_Tr (r : Nat → Nat → Int32) (ld : Nat → Int32) : Prop := (∀ k, k < 4 → pg_bb (r 0 k) 300000) ∧ (∀ k, k < 3 → pg_bb (r 3 k) 40000) ∧ (∀ k, k < 3 → pg_bb (r 5 k) 500000) ∧ (∀ k, k < 3 → r 6 k = ld k) ∧ (∀ k, k < 4 → pg_bb (r 12 k) 200000)
theorem pg_due_bb {r : Nat → Nat → Int32} {ld : Nat → Int32} {n k : Nat} (h20 : n ≤ 20) (ht : pg_Tr r ld) (hc : pg_St10 r n) (hk : k < 3) : pg_bb (pg_due r n k) 500000 := by
  obtain ⟨h1, h2⟩ := pg_past_bb (k := k) (by decide) (pg_set_bb h20 hc (nI k) (r 2 k)) (ht.2.1 k hk)
  obtain ⟨h3, h4⟩ := ht.2.2.1 k hk
  have e := pg_minI (pg_past r k (pg_set r n (nI k) (r 2 k))) (r 5 k)
  exact ⟨by unfold pg_due; omega, by unfold pg_due; omega⟩
theorem pg_all_bb {r : Nat → Nat → Int32} {ld : Nat → Int32} {n : Nat} (h20 : n ≤ 20) (ht : pg_Tr r ld) (hc : pg_St10 r n) : pg_bb (pg_all r n) 1500000 :=
  (pg_sm_bb (f := pg_due r n) (n := 3) (B := 500000) (by decide) (fun k hk => pg_due_bb h20 ht hc hk)).le (by decide)
theorem pg_all_cong {r r' : Nat → Nat → Int32} (h2 : r' 2 = r 2) (h3 : r' 3 = r 3) (h4 : r' 4 = r 4) (h5 : r' 5 = r 5) {n m : Nat} (hs : ∀ k le, pg_set r' m k le = pg_set r n k le) : pg_all r' m = pg_all r n := by
  unfold pg_all
  rw [show pg_due r' m = pg_due r n from funext fun k => by unfold pg_due pg_past; rw [hs, h2, h3, h4, h5]]
theorem pg_all_same {r r' : Nat → Nat → Int32} (h2 : r' 2 = r 2) (h3 : r' 3 = r 3) (h4 : r' 4 = r 4) (h5 : r' 5 = r 5) (h7 : r' 7 = r 7) (h10 : r' 10 = r 10) (n : Nat) : pg_all r' n = pg_all r n :=
  pg_all_cong h2 h3 h4 h5 (fun k le => by unfold pg_set; rw [h7, h10])
/-- settling raises what is due -/
theorem pg_all_up {r : Nat → Nat → Int32} {ld : Nat → Int32} {n c : Nat} {x : Int32} (h20 : n ≤ 20) (ht : pg_Tr r ld) (hc : pg_St10 r n) (hx : pg_bb x 300000) (h0 : r 10 c = -1) : pg_St10 (pg_row r 10 (upd (r 10) c x)) n ∧ (pg_all r n).toInt ≤ (pg_all (pg_row r 10 (upd (r 10) c x)) n).toInt := by
  have hc2 : pg_St10 (pg_row r 10 (upd (r 10) c x)) n := by
    intro k hk
    rw [pg_rowk]
    by_cases e : k = c
    · rw [e, pg_updk]; exact Or.inr hx
    · rw [pg_updn _ _ e]; exact hc k hk
  have ht2 : pg_Tr (pg_row r 10 (upd (r 10) c x)) ld := ht
  refine ⟨hc2, ?_⟩
  refine pg_sm_mono (f := pg_due r n) (g := pg_due (pg_row r 10 (upd (r 10) c x)) n) (n := 3) (B := 500000) (by decide) (fun k hk => pg_due_bb h20 ht hc hk) (fun k hk => pg_due_bb h20 ht2 hc2 hk) (fun k hk => ?_)
  have hs : (pg_set r n (nI k) (r 2 k)).toInt ≤ (pg_set (pg_row r 10 (upd (r 10) c x)) n (nI k) (r 2 k)).toInt := by
    refine pg_sm_mono (B := 300000) (by omega) (pg_set_tb hc _ _) (pg_set_tb hc2 _ _) (fun j hj => ?_)
    by_cases e : j = c
    · have hz : (if r 7 j = nI k then (if r 10 j = -1 then 0 else if r 10 j < r 2 k then 0 else r 10 j) else 0) = (0 : Int32) := by
        rw [e, h0]; simp
      rw [hz, pg_i0]
      exact (pg_set_tb hc2 (nI k) (r 2 k) j hj).1
    · have e2 : pg_row r 10 (upd (r 10) c x) 10 j = r 10 j := by rw [pg_rowk, pg_updn _ _ e]
      have e3 : pg_row r 10 (upd (r 10) c x) 7 j = r 7 j := rfl
      rw [e2, e3]; exact Int.le_refl _
  have hp := pg_past_mono (r := r) (k := k) (by decide) (pg_set_bb h20 hc (nI k) (r 2 k)) (pg_set_bb h20 hc2 (nI k) (r 2 k)) (ht.2.1 k hk) hs
  have e1 := pg_minI (pg_past r k (pg_set r n (nI k) (r 2 k))) (r 5 k)
  have e2 := pg_minI (pg_past r k (pg_set (pg_row r 10 (upd (r 10) c x)) n (nI k) (r 2 k))) (r 5 k)
  show (pg_min (pg_past r k (pg_set r n (nI k) (r 2 k))) (r 5 k)).toInt ≤ (pg_min (pg_past r k (pg_set (pg_row r 10 (upd (r 10) c x)) n (nI k) (r 2 k))) (r 5 k)).toInt
  omega
/-- a new claim is open: nothing is due of it -/
theorem pg_all_new {u : pg_St} {n : Nat} (k x : Int32) : pg_all (pg_claim u n k x).2 (n + 1) = pg_all u.2 n := by
  have er : ∀ i, i ≠ 7 → i ≠ 8 → i ≠ 9 → i ≠ 10 → (pg_claim u n k x).2 i = u.2 i := fun i a b c d => by
    show pg_row (pg_row (pg_row (pg_row u.2 7 _) 8 _) 9 _) 10 _ i = u.2 i
    rw [pg_rown _ _ d, pg_rown _ _ c, pg_rown _ _ b, pg_rown _ _ a]
  have e10 : ∀ j, (pg_claim u n k x).2 10 j = upd (u.2 10) n (-1) j := fun j => rfl
  have e7 : ∀ j, (pg_claim u n k x).2 7 j = upd (u.2 7) n k j := fun j => rfl
  generalize (pg_claim u n k x).2 = r at er e10 e7 ⊢
  refine pg_all_cong (r := u.2) (r' := r) (er 2 (by decide) (by decide) (by decide) (by decide)) (er 3 (by decide) (by decide) (by decide) (by decide)) (er 4 (by decide) (by decide) (by decide) (by decide)) (er 5 (by decide) (by decide) (by decide) (by decide)) (fun k2 le => ?_)
  show pg_set r n k2 le + (if r 7 n = k2 then (if r 10 n = -1 then 0 else if r 10 n < le then 0 else r 10 n) else 0) = _
  rw [e10 n, pg_updk]
  have hz : (if r 7 n = k2 then (if (-1 : Int32) = -1 then 0 else if (-1 : Int32) < le then 0 else (-1 : Int32)) else 0) = (0 : Int32) := by simp
  rw [hz, pg_a0]
  refine pg_sm_cong (fun j hj => ?_)
  show (if r 7 j = k2 then (if r 10 j = -1 then 0 else if r 10 j < le then 0 else r 10 j) else 0) = _
  rw [e10 j, e7 j, pg_updn _ _ (by omega), pg_updn _ _ (by omega)]
/-! ## what is kept -/
def pg_Am (r : Nat → Nat → Int32) (n : Nat) : Prop := ∀ k, k < n → pg_bb (r 8 k) 300000
theorem pg_kept_bb {u : pg_St} {ld : Nat → Int32} {n : Nat} (h20 : n ≤ 20) (ht : pg_Tr u.2 ld) (ha : pg_Am u.2 n) (d : Int32) : pg_bb (pg_kept u n d) 7200000 := by
  obtain ⟨o1, o2⟩ := (pg_sm_bb (f := fun k => if u.2 10 k = -1 then u.2 8 k else 0) (n := n) (B := 300000) (by omega) (fun k hk => pg_bb_if (ha k hk) (pg_bb0 _))).le (show n * 300000 ≤ 6000000 by omega)
  obtain ⟨p1, p2⟩ := pg_sm_bb (f := fun k => if u.2 1 k ≤ d then 0 else u.2 0 k) (n := 4) (B := 300000) (by decide) (fun k hk => pg_bb_if (pg_bb0 _) (ht.1 k hk))
  have e : (pg_kept u n d).toInt = (pg_after u.2 d).toInt + (pg_open u.2 n).toInt := pg_addI (by simp only [pg_after, pg_open]; omega) (by simp only [pg_after, pg_open]; omega)
  simp only [pg_after, pg_open] at e
  exact ⟨by omega, by omega⟩
/-! ## the money -/
def pg_Mo (u : pg_St) (n d N : Nat) : Prop := u.1 3 = nI d ∧ d ≤ 3700 ∧ 0 ≤ (u.1 5).toInt ∧ 0 ≤ (u.1 7).toInt ∧ (u.1 5).toInt + (u.1 7).toInt ≤ (u.1 4).toInt ∧ (u.1 4).toInt ≤ 5000000 ∧ 0 ≤ (u.1 8).toInt ∧ (u.1 8).toInt ≤ (u.1 9).toInt ∧ (u.1 9).toInt ≤ (N : Int) * 800000 ∧ 0 ≤ (u.1 6).toInt ∧ (u.1 6).toInt + (u.1 5).toInt + (u.1 7).toInt + (u.1 8).toInt = (u.1 4).toInt + (u.1 9).toInt ∧ (u.1 7).toInt + (u.1 8).toInt ≤ (pg_all u.2 n).toInt
/-- the same scalars, and as much due -/
theorem pg_Mo.same {u u' : pg_St} {n n' d N : Nat} (h : pg_Mo u n d N) (hs : ∀ k, 3 ≤ k → k ≤ 9 → u'.1 k = u.1 k) (ha : (pg_all u.2 n).toInt ≤ (pg_all u'.2 n').toInt) : pg_Mo u' n' d N := by
  unfold pg_Mo at h ⊢
  rw [hs 3 (by decide) (by decide), hs 4 (by decide) (by decide), hs 5 (by decide) (by decide), hs 6 (by decide) (by decide), hs 7 (by decide) (by decide), hs 8 (by decide) (by decide), hs 9 (by decide) (by decide)]
  refine ⟨h.1, h.2.1, h.2.2.1, h.2.2.2.1, h.2.2.2.2.1, h.2.2.2.2.2.1, h.2.2.2.2.2.2.1, h.2.2.2.2.2.2.2.1, h.2.2.2.2.2.2.2.2.1, h.2.2.2.2.2.2.2.2.2.1, h.2.2.2.2.2.2.2.2.2.2.1, ?_⟩
  have := h.2.2.2.2.2.2.2.2.2.2.2
  omega
theorem pg_Mo.day {u : pg_St} {n d d' N : Nat} (h : pg_Mo u n d N) (hd : d' ≤ 3700) : pg_Mo (upd u.1 3 (nI d'), u.2) n d' N := ⟨rfl, hd, h.2.2⟩
theorem pg_Mo.free {u : pg_St} {n d N : Nat} (h : pg_Mo u n d N) (hN : N ≤ 5) {x : Int32} (hk : pg_bb (pg_kept u n x) 7200000) : pg_Mo (pg_free u n x) n d N ∧ ((pg_free u n x).1 5).toInt ≤ (u.1 5).toInt := by
  by_cases q : u.1 5 ≤ pg_kept u n x
  · rw [pg_free, if_pos q]; exact ⟨h, Int.le_refl _⟩
  · obtain ⟨k1, k2⟩ := hk
    have q2 : ¬ (u.1 5).toInt ≤ (pg_kept u n x).toInt := fun z => q ((pg_toI_le _ _).mpr z)
    obtain ⟨h1, h2, h3, h4, h5, h6, h7, h8, h9, h10, h11, h12⟩ := h
    have e1 : (u.1 5 - pg_kept u n x).toInt = (u.1 5).toInt - (pg_kept u n x).toInt := pg_subI (by omega) (by omega)
    have e2 : (u.1 6 + (u.1 5 - pg_kept u n x)).toInt = (u.1 6).toInt + (u.1 5 - pg_kept u n x).toInt := pg_addI (by omega) (by omega)
    have f5 : (pg_free u n x).1 5 = pg_kept u n x := by rw [pg_free, if_neg q]; rfl
    have f6 : (pg_free u n x).1 6 = u.1 6 + (u.1 5 - pg_kept u n x) := by rw [pg_free, if_neg q]; rfl
    have fo : ∀ k, k ≠ 5 → k ≠ 6 → (pg_free u n x).1 k = u.1 k := fun k a b => pg_free_o u n x a b
    unfold pg_Mo
    rw [f5, f6, fo 3 (by decide) (by decide), fo 4 (by decide) (by decide), fo 7 (by decide) (by decide), fo 8 (by decide) (by decide), fo 9 (by decide) (by decide), pg_free_r]
    refine ⟨⟨h1, h2, by omega, h4, by omega, h6, h7, h8, h9, by omega, by omega, h12⟩, by omega⟩
theorem pg_outI {u : pg_St} {n d N : Nat} (h : pg_Mo u n d N) (hb : pg_bb (pg_all u.2 n) 1500000) : (pg_out u n).toInt = (pg_all u.2 n).toInt - (u.1 7).toInt - (u.1 8).toInt := by
  obtain ⟨b1, b2⟩ := hb
  obtain ⟨h1, h2, h3, h4, h5, h6, h7, h8, h9, h10, h11, h12⟩ := h
  have e1 : (pg_all u.2 n - u.1 7).toInt = (pg_all u.2 n).toInt - (u.1 7).toInt := pg_subI (by omega) (by omega)
  have e2 : (pg_all u.2 n - u.1 7 - u.1 8).toInt = (pg_all u.2 n - u.1 7).toInt - (u.1 8).toInt := pg_subI (by omega) (by omega)
  show (pg_all u.2 n - u.1 7 - u.1 8).toInt = _
  omega
theorem pg_Mo.ret {u : pg_St} {n d N : Nat} (h : pg_Mo u n d N) (hN : N ≤ 5) (hb : pg_bb (pg_all u.2 n) 1500000) : pg_Mo (pg_ret u n) n d N ∧ (pg_out (pg_ret u n) n = 0 ∨ (pg_ret u n).1 5 = 0) := by
  have e0 := pg_outI h hb
  have h' := h
  obtain ⟨b1, b2⟩ := id hb
  obtain ⟨h1, h2, h3, h4, h5, h6, h7, h8, h9, h10, h11, h12⟩ := h
  have eb : (pg_back u n).toInt = min (pg_out u n).toInt (u.1 5).toInt := pg_minI _ _
  have e5 : (u.1 5 - pg_back u n).toInt = (u.1 5).toInt - (pg_back u n).toInt := pg_subI (by omega) (by omega)
  have e7 : (u.1 7 + pg_back u n).toInt = (u.1 7).toInt + (pg_back u n).toInt := pg_addI (by omega) (by omega)
  have f5 : (pg_ret u n).1 5 = u.1 5 - pg_back u n := rfl
  have f7 : (pg_ret u n).1 7 = u.1 7 + pg_back u n := rfl
  have fo : ∀ k, k ≠ 5 → k ≠ 7 → (pg_ret u n).1 k = u.1 k := fun k a b => by
    show upd (upd u.1 5 _) 7 _ k = _
    rw [pg_updn _ _ b, pg_updn _ _ a]
  have fr : (pg_ret u n).2 = u.2 := rfl
  have hM : pg_Mo (pg_ret u n) n d N := by
    unfold pg_Mo
    rw [f5, f7, fo 3 (by decide) (by decide), fo 4 (by decide) (by decide), fo 6 (by decide) (by decide), fo 8 (by decide) (by decide), fo 9 (by decide) (by decide), fr]
    exact ⟨h1, h2, by omega, by omega, by omega, h6, h7, h8, h9, h10, by omega, by omega⟩
  refine ⟨hM, ?_⟩
  have e1 := pg_outI hM (by rw [fr]; exact hb)
  rw [f7, fo 8 (by decide) (by decide), fr] at e1
  by_cases q : (pg_out u n).toInt ≤ (u.1 5).toInt
  · exact Or.inl (pg_eqI (by rw [pg_i0]; omega))
  · exact Or.inr (pg_eqI (by rw [pg_i0, f5]; omega))
theorem pg_Mo.owe {u : pg_St} {n d N : Nat} (h : pg_Mo u n d N) (hN : N ≤ 4) (hb : pg_bb (pg_all u.2 n) 1500000) {x : Int32} (hx : pg_bb x 800000) : pg_Mo (pg_owe u n x) n d (N + 1) := by
  have e0 := pg_outI h hb
  obtain ⟨b1, b2⟩ := hb
  obtain ⟨x1, x2⟩ := hx
  obtain ⟨h1, h2, h3, h4, h5, h6, h7, h8, h9, h10, h11, h12⟩ := h
  have eb : (pg_min x (pg_out u n)).toInt = min x.toInt (pg_out u n).toInt := pg_minI _ _
  have e9 : (u.1 9 + x).toInt = (u.1 9).toInt + x.toInt := pg_addI (by omega) (by omega)
  have e8 : (u.1 8 + pg_min x (pg_out u n)).toInt = (u.1 8).toInt + (pg_min x (pg_out u n)).toInt := pg_addI (by omega) (by omega)
  have e6a : (x - pg_min x (pg_out u n)).toInt = x.toInt - (pg_min x (pg_out u n)).toInt := pg_subI (by omega) (by omega)
  have e6 : (u.1 6 + (x - pg_min x (pg_out u n))).toInt = (u.1 6).toInt + (x - pg_min x (pg_out u n)).toInt := pg_addI (by omega) (by omega)
  have f6 : (pg_owe u n x).1 6 = u.1 6 + (x - pg_min x (pg_out u n)) := rfl
  have f8 : (pg_owe u n x).1 8 = u.1 8 + pg_min x (pg_out u n) := rfl
  have f9 : (pg_owe u n x).1 9 = u.1 9 + x := rfl
  have fo : ∀ k, k ≠ 6 → k ≠ 8 → k ≠ 9 → (pg_owe u n x).1 k = u.1 k := fun k a b c => by
    show upd (upd (upd u.1 9 _) 8 _) 6 _ k = _
    rw [pg_updn _ _ a, pg_updn _ _ b, pg_updn _ _ c]
  have fr : (pg_owe u n x).2 = u.2 := rfl
  unfold pg_Mo
  rw [f6, f8, f9, fo 3 (by decide) (by decide) (by decide), fo 4 (by decide) (by decide) (by decide), fo 5 (by decide) (by decide) (by decide), fo 7 (by decide) (by decide) (by decide), fr]
  exact ⟨h1, h2, h3, h4, h5, h6, by omega, by omega, by omega, by omega, by omega, by omega⟩
theorem pg_msum_bb {r : Nat → Nat → Int32} {ld : Nat → Int32} (ht : pg_Tr r ld) (i : Nat) {j : Nat} (hj : j ≤ 4) : pg_bb (pg_msum r i j) 800000 :=
  (pg_sm_bb (f := fun k => if k < i then 0 else if r 13 k = 0 then r 12 k else 0) (n := j) (B := 200000) (by omega) (fun k hk => pg_bb_if (pg_bb0 _) (pg_bb_if (ht.2.2.2.2 k (by omega)) (pg_bb0 _)))).le (by omega)
/-! ## the law's invariant: n claims with the amounts am, t years told, z: sped up -/
def pg_Cm (u : pg_St) (n : Nat) (am : Nat → Int32) : Prop := u.1 10 = nI n ∧ n ≤ 20 ∧ (∀ k, k < n → am k = u.2 8 k) ∧ (∀ k, k < n → u.2 9 k = -1 ∨ u.2 9 k = 0) ∧ pg_St10 u.2 n ∧ (∀ k, k < 20 → pg_bb (am k) 300000)
def pg_Yr (u : pg_St) (t z : Nat) : Prop := u.1 13 = nI t ∧ t ≤ 4 ∧ u.1 12 = nI z ∧ z ≤ 1 ∧ ∀ k, k < 4 → u.2 13 k = 0 ∨ u.2 13 k = 1
def pg_J (u : pg_St) (ld am : Nat → Int32) (n t z : Nat) : Prop := pg_Tr u.2 ld ∧ pg_Cm u n am ∧ pg_Yr u t z ∧ ∃ d, pg_Mo u n d (t + z)
section
variable {u : pg_St} {ld am : Nat → Int32} {n t z : Nat}
theorem pg_J.amo (h : pg_J u ld am n t z) : pg_Am u.2 n := fun k hk => by rw [← h.2.1.2.2.1 k hk]; exact h.2.1.2.2.2.2.2 k (by have := h.2.1.2.1; omega)
theorem pg_J.all (h : pg_J u ld am n t z) : pg_bb (pg_all u.2 n) 1500000 := pg_all_bb h.2.1.2.1 h.1 h.2.1.2.2.2.2.1
theorem pg_J.N (h : pg_J u ld am n t z) : t + z ≤ 5 := by have := h.2.2.1.2.1; have := h.2.2.1.2.2.2.1; omega
theorem pg_J.kept (h : pg_J u ld am n t z) (d : Int32) : pg_bb (pg_kept u n d) 7200000 := pg_kept_bb h.2.1.2.1 h.1 h.amo d
/-- what isWhole asks -/
theorem pg_J.whole (h : pg_J u ld am n t z) : u.1 6 + u.1 5 + u.1 7 + u.1 8 = u.1 4 + u.1 9 ∧ ¬ pg_out u n < 0 ∧ ¬ u.1 5 < 0 ∧ ¬ u.1 6 < 0 ∧ ¬ u.1 9 < u.1 8 ∧ ¬ u.1 4 < u.1 7 := by
  have hall := h.all
  have hN := h.N
  obtain ⟨-, -, -, d, hm⟩ := h
  have e0 := pg_outI hm hall
  obtain ⟨b1, b2⟩ := hall
  obtain ⟨h1, h2, h3, h4, h5, h6, h7, h8, h9, h10, h11, h12⟩ := hm
  have a1 : (u.1 6 + u.1 5).toInt = (u.1 6).toInt + (u.1 5).toInt := pg_addI (by omega) (by omega)
  have a2 : (u.1 6 + u.1 5 + u.1 7).toInt = (u.1 6 + u.1 5).toInt + (u.1 7).toInt := pg_addI (by omega) (by omega)
  have a3 : (u.1 6 + u.1 5 + u.1 7 + u.1 8).toInt = (u.1 6 + u.1 5 + u.1 7).toInt + (u.1 8).toInt := pg_addI (by omega) (by omega)
  have a4 : (u.1 4 + u.1 9).toInt = (u.1 4).toInt + (u.1 9).toInt := pg_addI (by omega) (by omega)
  exact ⟨pg_eqI (by omega), pg_not_lt (by rw [pg_i0]; omega), pg_not_lt (by rw [pg_i0]; omega), pg_not_lt (by rw [pg_i0]; omega), pg_not_lt (by omega), pg_not_lt (by omega)⟩
/-- days pass -/
def pz_adv (u : pg_St) (n : Nat) (x : Int32) : pg_St := pg_free (upd u.1 3 (u.1 3 + x), u.2) n (u.1 3 + x)
theorem pg_J.adv (h : pg_J u ld am n t z) {q d : Nat} (hd : u.1 3 = nI d) (hd2 : d < 3500) (hq : q ≤ 200) : pg_J (pz_adv u n (nI q)) ld am n t z ∧ (pz_adv u n (nI q)).1 3 = u.1 3 + nI q ∧ (pz_adv u n (nI q)).1 7 = u.1 7 ∧ ¬ u.1 5 < (pz_adv u n (nI q)).1 5 := by
  have hk := h.kept (u.1 3 + nI q)
  have hN := h.N
  obtain ⟨h1, h2, h3, d0, hm⟩ := h
  have e3 : u.1 3 + nI q = nI (d + q) := by rw [hd, nI_add]
  have hm2 : pg_Mo (upd u.1 3 (u.1 3 + nI q), u.2) n (d + q) (t + z) := by rw [e3]; exact hm.day (by omega)
  obtain ⟨m1, m2⟩ := hm2.free hN (x := u.1 3 + nI q) hk
  have fo : ∀ k, k ≠ 5 → k ≠ 6 → (pz_adv u n (nI q)).1 k = upd u.1 3 (u.1 3 + nI q) k := fun k a b => pg_free_o _ n _ a b
  have fr : (pz_adv u n (nI q)).2 = u.2 := pg_free_r _ n _
  refine ⟨⟨?_, ?_, ?_, d + q, m1⟩, ?_, ?_, pg_not_lt m2⟩
  · rw [fr]; exact h1
  · unfold pg_Cm at h2 ⊢; rw [fr, fo 10 (by decide) (by decide)]; exact h2
  · unfold pg_Yr at h3 ⊢; rw [fr, fo 13 (by decide) (by decide), fo 12 (by decide) (by decide)]; exact h3
  · rw [fo 3 (by decide) (by decide)]; rfl
  · rw [fo 7 (by decide) (by decide)]; rfl
/-- an offer of 0 -/
def pz_off (u : pg_St) (c : Int32) : pg_St := (u.1, pg_row u.2 9 (upd (u.2 9) c.toNatClampNeg 0))
theorem pg_J.off (h : pg_J u ld am n t z) (c : Int32) : pg_J (pz_off u c) ld am n t z := by
  obtain ⟨h1, ⟨c1, c2, c3, c4, c5, c6⟩, h3, d, hm⟩ := h
  refine ⟨h1, ⟨c1, c2, c3, fun k hk => ?_, c5, c6⟩, h3, d, hm.same (fun _ _ _ => rfl) (Int.le_of_eq (congrArg Int32.toInt (pg_all_same (r := u.2) (r' := (pz_off u c).2) rfl rfl rfl rfl rfl rfl n).symm))⟩
  show upd (u.2 9) c.toNatClampNeg 0 k = -1 ∨ upd (u.2 9) c.toNatClampNeg 0 k = 0
  by_cases e : k = c.toNatClampNeg
  · rw [e, pg_updk]; exact Or.inr rfl
  · rw [pg_updn _ _ e]; exact c4 k hk
/-- an expert's number -/
def pz_dec (u : pg_St) (n : Nat) (c x : Int32) : pg_St := pg_pay (pg_at u c.toNatClampNeg x) n (u.1 3)
theorem pg_J.dec (h : pg_J u ld am n t z) {j : Nat} {x : Int32} (hx : pg_bb x 300000) (h0 : u.2 10 j = -1) : pg_J (pg_pay (pg_at u j x) n (u.1 3)) ld am n t z ∧ (pg_pay (pg_at u j x) n (u.1 3)).2 10 j = x ∧ (pg_pay (pg_at u j x) n (u.1 3)).1 7 = u.1 7 + pg_back (pg_at u j x) n ∧ ¬ pg_all (pg_pay (pg_at u j x) n (u.1 3)).2 n < pg_all u.2 n ∧ (pg_out (pg_pay (pg_at u j x) n (u.1 3)) n = 0 ∨ (pg_pay (pg_at u j x) n (u.1 3)).1 5 = 0) := by
  have hN := h.N
  have ham := h.amo
  obtain ⟨h1, h2, h3, d, hm⟩ := h
  obtain ⟨s1, s2⟩ := pg_all_up (c := j) h2.2.1 h1 h2.2.2.2.2.1 hx h0
  have hT1 : pg_Tr (pg_at u j x).2 ld := h1
  have hA1 : pg_Am (pg_at u j x).2 n := ham
  have hb1 : pg_bb (pg_all (pg_at u j x).2 n) 1500000 := pg_all_bb h2.2.1 hT1 s1
  have hm1 : pg_Mo (pg_at u j x) n d (t + z) := hm.same (fun _ _ _ => rfl) s2
  obtain ⟨hm2, ho2⟩ := hm1.ret hN hb1
  have hk2 : pg_bb (pg_kept (pg_ret (pg_at u j x) n) n (u.1 3)) 7200000 := pg_kept_bb (u := pg_ret (pg_at u j x) n) h2.2.1 hT1 hA1 _
  obtain ⟨hm3, hl3⟩ := hm2.free hN hk2
  have fr : (pg_pay (pg_at u j x) n (u.1 3)).2 = pg_row u.2 10 (upd (u.2 10) j x) := pg_free_r _ n _
  have fo : ∀ k, k ≠ 5 → k ≠ 6 → (pg_pay (pg_at u j x) n (u.1 3)).1 k = upd (upd u.1 5 (u.1 5 - pg_back (pg_at u j x) n)) 7 (u.1 7 + pg_back (pg_at u j x) n) k := fun k a b => pg_free_o _ n _ a b
  refine ⟨⟨?_, ?_, ?_, d, hm3⟩, ?_, ?_, ?_, ?_⟩
  · rw [fr]; exact h1
  · unfold pg_Cm at h2 ⊢; rw [fr, fo 10 (by decide) (by decide)]; exact ⟨h2.1, h2.2.1, h2.2.2.1, h2.2.2.2.1, s1, h2.2.2.2.2.2⟩
  · unfold pg_Yr at h3 ⊢; rw [fr, fo 13 (by decide) (by decide), fo 12 (by decide) (by decide)]; exact h3
  · rw [fr, pg_rowk, pg_updk]
  · rw [fo 7 (by decide) (by decide), pg_updk]
  · rw [fr]; exact pg_not_lt s2
  · rcases ho2 with q | q
    · refine Or.inl ?_
      rw [← q]
      show pg_all (pg_free (pg_ret (pg_at u j x) n) n (u.1 3)).2 n - (pg_free (pg_ret (pg_at u j x) n) n (u.1 3)).1 7 - (pg_free (pg_ret (pg_at u j x) n) n (u.1 3)).1 8 = _
      rw [pg_free_r, pg_free_o _ n _ (by decide) (by decide), pg_free_o _ n _ (by decide) (by decide)]
      rfl
    · refine Or.inr (pg_eqI ?_)
      rw [q, pg_i0] at hl3
      have := hm3.2.2.1
      rw [pg_i0]
      show ((pg_free (pg_ret (pg_at u j x) n) n (u.1 3)).1 5).toInt = 0
      omega
/-- a claim -/
theorem pg_J.claim (h : pg_J u ld am n t z) (hn : n < 20) {k x : Int32} (hx : pg_bb x 300000) : pg_J (pg_claim u n k x) ld (upd am n x) (n + 1) t z := by
  obtain ⟨h1, ⟨c1, c2, c3, c4, c5, c6⟩, h3, d, hm⟩ := h
  refine ⟨h1, ⟨rfl, by omega, fun j hj => ?_, fun j hj => ?_, fun j hj => ?_, fun j hj => ?_⟩, h3, d, hm.same (fun k h1 h2 => pg_updn _ _ (by omega)) (Int.le_of_eq (congrArg Int32.toInt (pg_all_new k x).symm))⟩
  · show upd am n x j = upd (u.2 8) n x j
    by_cases e : j = n
    · rw [e, pg_updk, pg_updk]
    · rw [pg_updn _ _ e, pg_updn _ _ e]; exact c3 j (by omega)
  · show upd (u.2 9) n (-1) j = -1 ∨ upd (u.2 9) n (-1) j = 0
    by_cases e : j = n
    · rw [e, pg_updk]; exact Or.inl rfl
    · rw [pg_updn _ _ e]; exact c4 j (by omega)
  · show upd (u.2 10) n (-1) j = -1 ∨ pg_bb (upd (u.2 10) n (-1) j) 300000
    by_cases e : j = n
    · rw [e, pg_updk]; exact Or.inl rfl
    · rw [pg_updn _ _ e]; exact c5 j (by omega)
  · by_cases e : j = n
    · rw [e, pg_updk]; exact hx
    · rw [pg_updn _ _ e]; exact c6 j hj
theorem pg_met_01 {r : Nat → Nat → Int32} {i j y : Nat} (h : r 13 y = 0 ∨ r 13 y = 1) : pg_met r i j y = 0 ∨ pg_met r i j y = 1 := by
  unfold pg_met
  by_cases g : i ≤ y ∧ y < j
  · rw [if_pos g]
    by_cases q : r 13 y = 0
    · rw [if_pos q]; exact Or.inr rfl
    · rw [if_neg q]; exact h
  · rw [if_neg g]; exact h
/-- a report -/
theorem pg_J.rep (h : pg_J u ld am n t z) (ht : t < 4) (x : Int32) : pg_J (pg_owe (pg_tell u t x) n (pg_tellr u t x)) ld am n (t + 1) z ∧ pg_bb (pg_tellr u t x) 800000 := by
  have hall := h.all
  obtain ⟨h1, h2, h3, d, hm⟩ := h
  have hx : pg_bb (pg_tellr u t x) 800000 := pg_msum_bb h1 _ (by omega)
  have hs : pg_all (pg_tell u t x).2 n = pg_all u.2 n := pg_all_same (r := u.2) (r' := (pg_tell u t x).2) rfl rfl rfl rfl rfl rfl n
  have hm1 : pg_Mo (pg_tell u t x) n d (t + z) := hm.same (fun k a b => by
    show upd (upd (upd u.1 13 _) 14 _) 15 _ k = _
    rw [pg_updn _ _ (by omega), pg_updn _ _ (by omega), pg_updn _ _ (by omega)]) (by rw [hs]; exact Int.le_refl _)
  have hm2 := hm1.owe (by have := h3.2.2.2.1; omega) (by rw [hs]; exact hall) hx
  refine ⟨⟨h1, h2, ⟨rfl, by omega, h3.2.2.1, h3.2.2.2.1, fun k hk => pg_met_01 (h3.2.2.2.2 k hk)⟩, d, ?_⟩, hx⟩
  rw [show t + 1 + z = t + z + 1 by omega]; exact hm2
/-- speeding up -/
theorem pg_J.has (h : pg_J u ld am n t 0) : pg_J (pg_owe (pg_has u t) n (pg_hasr u t)) ld am n t 1 ∧ pg_bb (pg_hasr u t) 800000 ∧ (t < 4 → ¬ (pg_owe (pg_has u t) n (pg_hasr u t)).2 13 3 = 0) := by
  have hall := h.all
  obtain ⟨h1, h2, h3, d, hm⟩ := h
  have hx : pg_bb (pg_hasr u t) 800000 := pg_msum_bb h1 _ (by omega)
  have hs : pg_all (pg_has u t).2 n = pg_all u.2 n := pg_all_same (r := u.2) (r' := (pg_has u t).2) rfl rfl rfl rfl rfl rfl n
  have hm1 : pg_Mo (pg_has u t) n d (t + 0) := hm.same (fun k a b => pg_updn _ _ (by omega)) (by rw [hs]; exact Int.le_refl _)
  have hm2 := hm1.owe (by have := h3.2.1; omega) (by rw [hs]; exact hall) hx
  refine ⟨⟨h1, h2, ⟨h3.1, h3.2.1, rfl, by omega, fun k hk => pg_met_01 (h3.2.2.2.2 k hk)⟩, d, hm2⟩, hx, fun ht => ?_⟩
  show ¬ pg_met u.2 t 4 3 = 0
  unfold pg_met
  rw [if_pos ⟨by omega, by decide⟩]
  by_cases q : u.2 13 3 = 0
  · rw [if_pos q]; decide
  · rw [if_neg q]; exact q
end
