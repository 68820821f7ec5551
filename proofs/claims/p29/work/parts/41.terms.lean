/-! what the law reads: told(s, k) -/
def pz_T (xs : Nat → Int32) (L : Nat) (k : Nat) : Nat := (if k < L then xs k else 40009 * (nI k + 5) * (nI k + 6) : Int32).toBitVec.toNat % 2 ^ 31
theorem pz_T_lt (xs : Nat → Int32) (L : Nat) (k : Nat) : pz_T xs L k < 2 ^ 31 := Nat.mod_lt _ (by decide)
/-! the terms, call by call -/
def tm_price (u : pg_St) (x y z : Int32) : pg_St := (upd (upd (upd u.1 0 x) 1 y) 2 z, u.2)
def tm_part (u : pg_St) (k x d : Int32) : pg_St := (u.1, pg_row (pg_row u.2 0 (upd (u.2 0) k.toNatClampNeg x)) 1 (upd (u.2 1) k.toNatClampNeg d))
def tm_year (u : pg_St) (k x d : Int32) : pg_St := (u.1, pg_row (pg_row u.2 11 (upd (u.2 11) k.toNatClampNeg x)) 12 (upd (u.2 12) k.toNatClampNeg d))
def tm_kind (u : pg_St) (k x y b z d : Int32) : pg_St := (u.1, pg_row (pg_row (pg_row (pg_row (pg_row u.2 2 (upd (u.2 2) k.toNatClampNeg x)) 3 (upd (u.2 3) k.toNatClampNeg y)) 4 (upd (u.2 4) k.toNatClampNeg b)) 5 (upd (u.2 5) k.toNatClampNeg z)) 6 (upd (u.2 6) k.toNatClampNeg d))
def tm_carry (u : pg_St) (b : Int32) : pg_St := (upd u.1 11 b, u.2)
def tm_b (v : Nat) : Int32 := if v % 2 = 0 then 1 else 0
def tm_c (v : Nat) : Int32 := if v % 3 = 0 then 0 else 1
def tm_0 (T : Nat → Nat) (u : pg_St) : pg_St := tm_price u (nI (T 0 % 3000000)) (nI (T 1 % 400000) - nI 200000) (nI (T 2 % 50000))
def tm_1 (T : Nat → Nat) (u : pg_St) : Nat → pg_St
  | 0 => u
  | i + 1 => tm_year (tm_part (tm_1 T u i) (nI i) (nI (T (i + 3) % 300000)) (nI (1 + T (i + 3) / 300000 % 900))) (nI i) (nI (T (i + 7) % 90000)) (nI (T (i + 7) / 90000 % 20000 * 10))
def tm_2 (T : Nat → Nat) (u : pg_St) : Nat → pg_St
  | 0 => u
  | i + 1 => tm_kind (tm_2 T u i) (nI i) (nI (T (i + 11) % 3000)) (nI (T (i + 11) / 3000 % 40000)) (tm_b (T (i + 11))) (nI (T (i + 11) / 11 % 500000)) (nI (T (i + 11) / 77 % 1500))
def tm_end (T : Nat → Nat) (u : pg_St) : pg_St := tm_carry (tm_2 T (tm_1 T (tm_0 T u) 4) 3) (tm_c (T 14))
/-- the last days that the law keeps -/
def tm_ld (T : Nat → Nat) (k : Nat) : Int32 := nI (T (k + 11) / 77 % 1500)
theorem tm_1s (T : Nat → Nat) (u : pg_St) : ∀ i, (tm_1 T u i).1 = u.1
  | 0 => rfl
  | i + 1 => tm_1s T u i
theorem tm_2s (T : Nat → Nat) (u : pg_St) : ∀ i, (tm_2 T u i).1 = u.1
  | 0 => rfl
  | i + 1 => tm_2s T u i
/-! ## nothing is thrown -/
theorem pg_inL {n : Nat} {lo hi : Int32} {x y : Int} (h1 : lo.toInt = x) (h2 : hi.toInt = y) (hn : n < 2 ^ 31) (g1 : x ≤ n) (g2 : (n : Int) ≤ y) : pg_in (nI n) lo hi = true := (pg_in_iff _ _ _).mpr ⟨by rw [h1, nI_toInt hn]; exact g1, by rw [h2, nI_toInt hn]; exact g2⟩
theorem pg_nbL {n m : Nat} (h : n < m) (hm : m < 2 ^ 31) : pg_nb (nI n) (nI m) = true := (pg_nb_iff _ _).mpr (by rw [nI_toInt (by omega), nI_toInt hm]; omega)
theorem pg_inS {n m : Nat} {lo hi : Int32} {x y : Int} (h1 : lo.toInt = x) (h2 : hi.toInt = y) (hn : n < 2 ^ 30) (hm : m < 2 ^ 30) (g1 : x ≤ (n : Int) - m) (g2 : (n : Int) - m ≤ y) : pg_in (nI n - nI m) lo hi = true := (pg_in_iff _ _ _).mpr ⟨by rw [h1, pk_sub_toInt hn hm]; exact g1, by rw [h2, pk_sub_toInt hn hm]; exact g2⟩
theorem pg_mod {a m : Nat} (h : 0 < m) : a % m < m := Nat.mod_lt a h
theorem pg_e1 : pg_eq (-1) (-1) = true := by decide
section
variable {u : pg_St} (a b c : Nat)
theorem tm_hPrice (h3 : u.1 3 = -1) : pg_t_setPrice (!pg_eq (u.1 3) (-1)) (nI (a % 3000000)) (nI (b % 400000) - nI 200000) (nI (c % 50000)) = 0 := by
  have e1 : pg_in (nI (a % 3000000)) 0 10000000 = true := pg_inL (x := 0) (y := 10000000) (by decide) (by decide) (by omega) (by omega) (by omega)
  have e2 : pg_in (nI (b % 400000) - nI 200000) (-10000000) 10000000 = true := pg_inS (x := -10000000) (y := 10000000) (by decide) (by decide) (by omega) (by omega) (by omega) (by omega)
  have e3 : pg_in (nI (c % 50000)) 0 10000000 = true := pg_inL (x := 0) (y := 10000000) (by decide) (by decide) (by omega) (by omega) (by omega)
  unfold pg_t_setPrice
  rw [e1, e2, e3, h3, pg_e1]; rfl
theorem tm_hPart (h3 : u.1 3 = -1) {i : Nat} (hi : i < 4) : pg_t_setPart (!pg_eq (u.1 3) (-1)) (nI i) (nI (a % 300000)) (nI (1 + b / 300000 % 900)) = 0 := by
  have e0 : pg_nb (nI i) 4 = true := pg_nbL (m := 4) hi (by decide)
  have e1 : pg_in (nI (a % 300000)) 0 10000000 = true := pg_inL (x := 0) (y := 10000000) (by decide) (by decide) (by omega) (by omega) (by omega)
  have e2 : pg_in (nI (1 + b / 300000 % 900)) 1 2000 = true := pg_inL (x := 1) (y := 2000) (by decide) (by decide) (by omega) (by omega) (by omega)
  unfold pg_t_setPart
  rw [e0, e1, e2, h3, pg_e1]; rfl
theorem tm_hYear (h3 : u.1 3 = -1) {i : Nat} (hi : i < 4) : pg_t_setYear (!pg_eq (u.1 3) (-1)) (nI i) (nI (a % 90000)) (nI (b / 90000 % 20000 * 10)) = 0 := by
  have e0 : pg_nb (nI i) 4 = true := pg_nbL (m := 4) hi (by decide)
  have e1 : pg_in (nI (a % 90000)) 0 10000000 = true := pg_inL (x := 0) (y := 10000000) (by decide) (by decide) (by omega) (by omega) (by omega)
  have e2 : pg_in (nI (b / 90000 % 20000 * 10)) 0 10000000 = true := pg_inL (x := 0) (y := 10000000) (by decide) (by decide) (by omega) (by omega) (by omega)
  unfold pg_t_setYear
  rw [e0, e1, e2, h3, pg_e1]; rfl
theorem tm_hKind (h3 : u.1 3 = -1) {i : Nat} (hi : i < 3) : pg_t_setKind (!pg_eq (u.1 3) (-1)) (nI i) (nI (a % 3000)) (nI (a / 3000 % 40000)) (nI (a / 11 % 500000)) (nI (a / 77 % 1500)) = 0 := by
  have e0 : pg_nb (nI i) 3 = true := pg_nbL (m := 3) hi (by decide)
  have e1 : pg_in (nI (a % 3000)) 0 10000000 = true := pg_inL (x := 0) (y := 10000000) (by decide) (by decide) (by omega) (by omega) (by omega)
  have e2 : pg_in (nI (a / 3000 % 40000)) 0 10000000 = true := pg_inL (x := 0) (y := 10000000) (by decide) (by decide) (by omega) (by omega) (by omega)
  have e4 : pg_in (nI (a / 11 % 500000)) 0 100000000 = true := pg_inL (x := 0) (y := 100000000) (by decide) (by decide) (by omega) (by omega) (by omega)
  have e5 : pg_in (nI (a / 77 % 1500)) 0 2000 = true := pg_inL (x := 0) (y := 2000) (by decide) (by decide) (by omega) (by omega) (by omega)
  unfold pg_t_setKind
  rw [e0, e1, e2, e4, e5, h3, pg_e1]; rfl
theorem tm_hCarry (h3 : u.1 3 = -1) : pg_t_setCarry (!pg_eq (u.1 3) (-1)) = 0 := by
  unfold pg_t_setCarry
  rw [h3, pg_e1]; rfl
theorem tm_hClose (h3 : u.1 3 = -1) : pg_t_close (!pg_eq (u.1 3) (-1)) (nI (a % 500000)) (nI (b % 500000)) (nI (c % 600000) - nI 300000) = 0 := by
  have e1 : pg_in (nI (a % 500000)) 0 10000000 = true := pg_inL (x := 0) (y := 10000000) (by decide) (by decide) (by omega) (by omega) (by omega)
  have e2 : pg_in (nI (b % 500000)) 0 10000000 = true := pg_inL (x := 0) (y := 10000000) (by decide) (by decide) (by omega) (by omega) (by omega)
  have e3 : pg_in (nI (c % 600000) - nI 300000) (-10000000) 10000000 = true := pg_inS (x := -10000000) (y := 10000000) (by decide) (by decide) (by omega) (by omega) (by omega) (by omega)
  unfold pg_t_close
  rw [e1, e2, e3, h3, pg_e1]; rfl
end
theorem tm_b01 (v : Nat) : vp_nar .boolean (tm_b v) = tm_b v := by
  unfold tm_b
  by_cases h : v % 2 = 0
  · rw [if_pos h]; rfl
  · rw [if_neg h]; rfl
theorem tm_c01 (v : Nat) : tm_c v = 0 ∨ tm_c v = 1 := by
  unfold tm_c
  by_cases h : v % 3 = 0
  · exact Or.inl (if_pos h)
  · exact Or.inr (if_neg h)
/-! ## what the terms are -/
theorem pg_upd_nI {f : Nat → Int32} {i k : Nat} {x : Int32} {P : Int32 → Prop} (hi : i < 2 ^ 31) (hx : k = i → P x) (hf : k ≠ i → P (f k)) : P (upd f (nI i).toNatClampNeg x k) := by
  rw [nI_clamp hi]
  by_cases e : k = i
  · rw [e, pg_updk]; exact hx e
  · rw [pg_updn _ _ e]; exact hf e
theorem tm_1r (T : Nat → Nat) (u : pg_St) (h0 : ∀ k, k < 4 → pg_bb (u.2 0 k) 300000) (h12 : ∀ k, k < 4 → pg_bb (u.2 12 k) 200000) : ∀ i, i ≤ 4 → (∀ k, k < 4 → pg_bb ((tm_1 T u i).2 0 k) 300000) ∧ (∀ k, k < 4 → pg_bb ((tm_1 T u i).2 12 k) 200000) ∧ (∀ j, j ≠ 0 → j ≠ 1 → j ≠ 11 → j ≠ 12 → (tm_1 T u i).2 j = u.2 j)
  | 0, _ => ⟨h0, h12, fun _ _ _ _ _ => rfl⟩
  | i + 1, hi => by
    obtain ⟨i1, i2, i3⟩ := tm_1r T u h0 h12 i (by omega)
    have e0 : (tm_1 T u (i + 1)).2 0 = upd ((tm_1 T u i).2 0) (nI i).toNatClampNeg (nI (T (i + 3) % 300000)) := rfl
    have e12 : (tm_1 T u (i + 1)).2 12 = upd ((tm_1 T u i).2 12) (nI i).toNatClampNeg (nI (T (i + 7) / 90000 % 20000 * 10)) := rfl
    refine ⟨fun k hk => ?_, fun k hk => ?_, fun j a b c d => ?_⟩
    · rw [e0]; exact pg_upd_nI (P := fun z => pg_bb z 300000) (by omega) (fun _ => pg_bb_nI (by omega) (by decide)) (fun _ => i1 k hk)
    · rw [e12]; exact pg_upd_nI (P := fun z => pg_bb z 200000) (by omega) (fun _ => pg_bb_nI (by omega) (by decide)) (fun _ => i2 k hk)
    · show pg_row (pg_row (pg_row (pg_row (tm_1 T u i).2 0 _) 1 _) 11 _) 12 _ j = _
      rw [pg_rown _ _ d, pg_rown _ _ c, pg_rown _ _ b, pg_rown _ _ a]; exact i3 j a b c d
theorem tm_2r (T : Nat → Nat) (u : pg_St) (h3 : ∀ k, k < 3 → pg_bb (u.2 3 k) 40000) (h5 : ∀ k, k < 3 → pg_bb (u.2 5 k) 500000) : ∀ i, i ≤ 3 → (∀ k, k < 3 → pg_bb ((tm_2 T u i).2 3 k) 40000) ∧ (∀ k, k < 3 → pg_bb ((tm_2 T u i).2 5 k) 500000) ∧ (∀ k, k < i → (tm_2 T u i).2 6 k = tm_ld T k) ∧ (∀ j, j ≠ 2 → j ≠ 3 → j ≠ 4 → j ≠ 5 → j ≠ 6 → (tm_2 T u i).2 j = u.2 j)
  | 0, _ => ⟨h3, h5, fun k hk => absurd hk (Nat.not_lt_zero k), fun _ _ _ _ _ _ => rfl⟩
  | i + 1, hi => by
    obtain ⟨i1, i2, i3, i4⟩ := tm_2r T u h3 h5 i (by omega)
    have e3 : (tm_2 T u (i + 1)).2 3 = upd ((tm_2 T u i).2 3) (nI i).toNatClampNeg (nI (T (i + 11) / 3000 % 40000)) := rfl
    have e5 : (tm_2 T u (i + 1)).2 5 = upd ((tm_2 T u i).2 5) (nI i).toNatClampNeg (nI (T (i + 11) / 11 % 500000)) := rfl
    have e6 : (tm_2 T u (i + 1)).2 6 = upd ((tm_2 T u i).2 6) (nI i).toNatClampNeg (nI (T (i + 11) / 77 % 1500)) := rfl
    refine ⟨fun k hk => ?_, fun k hk => ?_, fun k hk => ?_, fun j a b c d f => ?_⟩
    · rw [e3]; exact pg_upd_nI (P := fun z => pg_bb z 40000) (by omega) (fun _ => pg_bb_nI (by omega) (by decide)) (fun _ => i1 k hk)
    · rw [e5]; exact pg_upd_nI (P := fun z => pg_bb z 500000) (by omega) (fun _ => pg_bb_nI (by omega) (by decide)) (fun _ => i2 k hk)
    · rw [e6]; exact pg_upd_nI (P := fun z => z = tm_ld T k) (by omega) (fun e => by rw [e]; rfl) (fun e => i3 k (by omega))
    · show pg_row (pg_row (pg_row (pg_row (pg_row (tm_2 T u i).2 2 _) 3 _) 4 _) 5 _) 6 _ j = _
      rw [pg_rown _ _ f, pg_rown _ _ d, pg_rown _ _ c, pg_rown _ _ b, pg_rown _ _ a]; exact i4 j a b c d f
/-- a new object -/
def tm_u0 : pg_St := (upd (upd (fun _ => 0) 3 (-1)) 4 (-1), fun _ _ => 0)
theorem tm_ends (T : Nat → Nat) (u : pg_St) : (tm_end T u).1 = upd (upd (upd (upd u.1 0 (nI (T 0 % 3000000))) 1 (nI (T 1 % 400000) - nI 200000)) 2 (nI (T 2 % 50000))) 11 (tm_c (T 14)) := by
  show upd (tm_2 T (tm_1 T (tm_0 T u) 4) 3).1 11 _ = _
  rw [tm_2s, tm_1s]; rfl
theorem tm_endr (T : Nat → Nat) : pg_Tr (tm_end T tm_u0).2 (tm_ld T) ∧ ∀ k, (tm_end T tm_u0).2 13 k = 0 := by
  obtain ⟨i1, i2, i3⟩ := tm_1r T (tm_0 T tm_u0) (fun _ _ => pg_bb0 _) (fun _ _ => pg_bb0 _) 4 (by decide)
  obtain ⟨j1, j2, j3, j4⟩ := tm_2r T (tm_1 T (tm_0 T tm_u0) 4) (fun k _ => by rw [i3 3 (by decide) (by decide) (by decide) (by decide)]; exact pg_bb0 _) (fun k _ => by rw [i3 5 (by decide) (by decide) (by decide) (by decide)]; exact pg_bb0 _) 3 (by decide)
  have er : (tm_end T tm_u0).2 = (tm_2 T (tm_1 T (tm_0 T tm_u0) 4) 3).2 := rfl
  have e0 : (tm_0 T tm_u0).2 = fun _ _ => 0 := rfl
  rw [er]
  refine ⟨⟨fun k hk => ?_, j1, j2, j3, fun k hk => ?_⟩, fun k => ?_⟩
  · rw [j4 0 (by decide) (by decide) (by decide) (by decide) (by decide)]; exact i1 k hk
  · rw [j4 12 (by decide) (by decide) (by decide) (by decide) (by decide)]; exact i2 k hk
  · rw [j4 13 (by decide) (by decide) (by decide) (by decide) (by decide), i3 13 (by decide) (by decide) (by decide) (by decide), e0]
/-! ## closing -/
theorem pg_colI {v : Nat → Int32} {d : Int32} (hc : pg_bb (v 2) 50000) (h1 : -1000000 ≤ d.toInt) (h2 : d.toInt ≤ 1000000) : -1050000 ≤ (pg_col v d).toInt ∧ (pg_col v d).toInt ≤ 1050000 := by
  obtain ⟨c1, c2⟩ := hc
  unfold pg_col
  have e1 : (d + v 2).toInt = d.toInt + (v 2).toInt := pg_addI (by omega) (by omega)
  have e2 : (d - v 2).toInt = d.toInt - (v 2).toInt := pg_subI (by omega) (by omega)
  by_cases q : d ≤ v 2
  · rw [if_pos q]
    by_cases q2 : -(v 2) ≤ d
    · rw [if_pos q2, pg_i0]; omega
    · rw [if_neg q2]; omega
  · rw [if_neg q]; omega
theorem pg_J0 (T : Nat → Nat) : pg_J (pg_close (tm_end T tm_u0) (nI (T 15 % 500000)) (nI (T 16 % 500000)) (nI (T 17 % 600000) - nI 300000)) (tm_ld T) (fun _ => 0) 0 0 0 := by
  obtain ⟨hT, h13⟩ := tm_endr T
  have hs := tm_ends T tm_u0
  have e0 : (tm_end T tm_u0).1 0 = nI (T 0 % 3000000) := by rw [hs]; rfl
  have e1 : (tm_end T tm_u0).1 1 = nI (T 1 % 400000) - nI 200000 := by rw [hs]; rfl
  have e2 : (tm_end T tm_u0).1 2 = nI (T 2 % 50000) := by rw [hs]; rfl
  have e7 : (tm_end T tm_u0).1 7 = 0 := by rw [hs]; rfl
  have e8 : (tm_end T tm_u0).1 8 = 0 := by rw [hs]; rfl
  have e9 : (tm_end T tm_u0).1 9 = 0 := by rw [hs]; rfl
  have e10 : (tm_end T tm_u0).1 10 = 0 := by rw [hs]; rfl
  have e12 : (tm_end T tm_u0).1 12 = 0 := by rw [hs]; rfl
  have e13 : (tm_end T tm_u0).1 13 = 0 := by rw [hs]; rfl
  generalize tm_end T tm_u0 = u at *
  have b0 : pg_bb (u.1 0) 3000000 := by rw [e0]; exact pg_bb_nI (by omega) (by decide)
  have b1 : (u.1 1).toInt = (T 1 % 400000 : Nat) - (200000 : Nat) := by rw [e1]; exact pk_sub_toInt (by omega) (by decide)
  have b2 : pg_bb (u.1 2) 50000 := by rw [e2]; exact pg_bb_nI (by omega) (by decide)
  have bx : pg_bb (nI (T 15 % 500000)) 500000 := pg_bb_nI (by omega) (by decide)
  have by' : pg_bb (nI (T 16 % 500000)) 500000 := pg_bb_nI (by omega) (by decide)
  have bz : (nI (T 17 % 600000) - nI 300000).toInt = (T 17 % 600000 : Nat) - (300000 : Nat) := pk_sub_toInt (by omega) (by decide)
  have m1 : T 1 % 400000 < 400000 := Nat.mod_lt _ (by decide)
  have m17 : T 17 % 600000 < 600000 := Nat.mod_lt _ (by decide)
  generalize nI (T 15 % 500000) = x at *
  generalize nI (T 16 % 500000) = y at *
  generalize nI (T 17 % 600000) - nI 300000 = z at *
  generalize T 1 % 400000 = p1 at *
  generalize T 17 % 600000 = p17 at *
  obtain ⟨x1, x2⟩ := bx
  obtain ⟨y1, y2⟩ := by'
  obtain ⟨q1, q2⟩ := b0
  have ed : (z - u.1 1).toInt = z.toInt - (u.1 1).toInt := pg_subI (by omega) (by omega)
  obtain ⟨c1, c2⟩ := pg_colI (v := u.1) (d := z - u.1 1) b2 (by omega) (by omega)
  have f1 : (u.1 0 + x).toInt = (u.1 0).toInt + x.toInt := pg_addI (by omega) (by omega)
  have f2 : (u.1 0 + x - y).toInt = (u.1 0 + x).toInt - y.toInt := pg_subI (by omega) (by omega)
  have f3 : (u.1 0 + x - y + pg_col u.1 (z - u.1 1)).toInt = (u.1 0 + x - y).toInt + (pg_col u.1 (z - u.1 1)).toInt := pg_addI (by omega) (by omega)
  have f4 : (pg_fin u x y z).toInt = max (0 : Int32).toInt (u.1 0 + x - y + pg_col u.1 (z - u.1 1)).toInt := pg_maxI _ _
  rw [pg_i0] at f4
  obtain ⟨s1, s2⟩ := pg_sm_bb (f := u.2 0) (n := 4) (B := 300000) (by decide) hT.1
  have f5 : (pg_hold u x y z).toInt = min (pg_sm (u.2 0) 4).toInt (pg_fin u x y z).toInt := pg_minI _ _
  have f6 : (pg_fin u x y z - pg_hold u x y z).toInt = (pg_fin u x y z).toInt - (pg_hold u x y z).toInt := pg_subI (by omega) (by omega)
  have ha := pg_all_bb (n := 0) (by decide) hT (fun k hk => absurd hk (Nat.not_lt_zero k))
  have g3 : (pg_close u x y z).1 3 = 0 := rfl
  have g4 : (pg_close u x y z).1 4 = pg_fin u x y z := rfl
  have g5 : (pg_close u x y z).1 5 = pg_hold u x y z := rfl
  have g6 : (pg_close u x y z).1 6 = pg_fin u x y z - pg_hold u x y z := rfl
  have go : ∀ k, k ≠ 3 → k ≠ 4 → k ≠ 5 → k ≠ 6 → (pg_close u x y z).1 k = u.1 k := fun k a b c d => by
    show upd (upd (upd (upd u.1 3 0) 4 _) 5 _) 6 _ k = u.1 k
    rw [pg_updn _ _ d, pg_updn _ _ c, pg_updn _ _ b, pg_updn _ _ a]
  have gr : (pg_close u x y z).2 = u.2 := rfl
  refine ⟨hT, ⟨?_, by decide, fun k hk => absurd hk (Nat.not_lt_zero k), fun k hk => absurd hk (Nat.not_lt_zero k), fun k hk => absurd hk (Nat.not_lt_zero k), fun _ _ => pg_bb0 _⟩, ⟨?_, by decide, ?_, by decide, fun k _ => Or.inl (h13 k)⟩, 0, ?_⟩
  · rw [go 10 (by decide) (by decide) (by decide) (by decide), e10]; rfl
  · rw [go 13 (by decide) (by decide) (by decide) (by decide), e13]; rfl
  · rw [go 12 (by decide) (by decide) (by decide) (by decide), e12]; rfl
  · unfold pg_Mo
    rw [g3, g4, g5, g6, go 7 (by decide) (by decide) (by decide) (by decide), go 8 (by decide) (by decide) (by decide) (by decide), go 9 (by decide) (by decide) (by decide) (by decide), e7, e8, e9, gr, pg_i0]
    obtain ⟨a1, a2⟩ := ha
    refine ⟨rfl, by decide, by omega, by omega, by omega, by omega, by omega, by omega, by omega, by omega, by omega, by omega⟩
