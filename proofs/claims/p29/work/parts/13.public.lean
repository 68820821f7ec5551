theorem pg_free_3 (u : pg_St) (n : Nat) (d : Int32) : (pg_free u n d).1 3 = u.1 3 := by
  by_cases h : u.1 5 ≤ pg_kept u n d
  · rw [pg_free, if_pos h]
  · rw [pg_free, if_neg h]; rfl
set_option maxHeartbeats 4000000 in
set_option maxRecDepth 100000 in
/-- cc_setPrice: returns -/
theorem cc_setPrice_ok (l : Launch) (D : va_G) (cI cZ : ClassId) (a : Nat → Nat) (sz : Nat) (u : pg_St) (x y1 z : Int32) (hthr : pg_t_setPrice (!pg_eq (u.1 3) (-1)) x y1 z = 0) : Met l yX4_setPrice wsX4_setPrice ({ frames := 1, cells := 0, slots := 0, locals := 22 }) (va_Pc [.ref (a 0), .int x, .int y1, .int z] (pg_B D (pg_ty cI cZ) (pg_wB cI cZ a u) sz)) (va_Qv (fun u' => u' = (upd (upd (upd u.1 0 x) 1 y1) 2 z, u.2)) (pg_E D (pg_ty cI cZ) (va_A (pg_wB cI cZ a u) sz) (pg_wB cI cZ a)) (va_A (pg_wB cI cZ a u) sz)) 0 0 (va_A (pg_wB cI cZ a u) sz) := by
  refine Met.ofW (cc := cX4_setPrice) (maxL := 4) (ret := none) (by decide) rfl ?_
  intro p e s m args below meth c s₁ B hml hv
  obtain ⟨rfl, hsz, hP, hK, hD0⟩ := hv
  have hx := B.exec
  have hb := B.bytes
  have hr := B.returns
  have hts := atoms_spec (ws := wsX4_setPrice) B.pre
  have hown : s.vm.findClass RX4 = some m.cls := findClass_of_methodNamed B.named
  have hlocks := B.notSynchronized
  subst hsz
  have hD := hD0.self (sz := s.heap.size)
  generalize hAe : va_A (pg_wB cI cZ a u) s.heap.size = A at hD ⊢
  have hA : ∀ q : Nat, s.heap.size ≤ q → A q := fun q h => by rw [← hAe]; exact Or.inr h
  have hS : va_S A s.heap s.heap [] := va_S.rf
  have hl := lv_entry ([.ref (a 0), .int x, .int y1, .int z]) (n := 4) (Nat.le_of_ble_eq_true rfl)
  rw [lg_entry_eq]
  generalize (lg_sl ([.ref (a 0), .int x, .int y1, .int z]) ++ List.replicate (4 - (lg_sl ([.ref (a 0), .int x, .int y1, .int z])).length) Slot.unset).toArray = ls at hl ⊢
  have hl : lv_has ls 4 [(0, .ref (a 0)), (1, .int x), (2, .int y1), (3, .int z)] := hl
  have hiX4 : ∀ w ∈ wsX40, w ∈ wsX4_setPrice := fun _ h => List.mem_cons_of_mem _ (List.mem_append_left _ (List.mem_append_left _ (List.mem_append_right _ (h))))
  have hw1 := hts (.constant RX4 44 (10000000)) (List.mem_of_getElem? (i := 1) rfl)
  have hw2 := hts (.constant RX4 49 (-10000000)) (List.mem_of_getElem? (i := 2) rfl)
  have hw3 := hts (.fieldLink RX4 53 "PegBox" "price" "I") (List.mem_of_getElem? (i := 3) rfl)
  have hw4 := hts (.fieldLink RX4 56 "PegBox" "peg" "I") (List.mem_of_getElem? (i := 4) rfl)
  have hw5 := hts (.fieldLink RX4 59 "PegBox" "collar" "I") (List.mem_of_getElem? (i := 5) rfl)
  refine lv_iload_n hx hb dX4_setPrice_0 rfl (lv_at hl 1 rfl) ?_
  refine lv_iconst (v := 0) hx hb dX4_setPrice_1 (by decide) ?_
  refine lv_ldc hx hb hown hw1 dX4_setPrice_2 ?_
  rcases Bool.eq_false_or_eq_true (pg_in x 0 10000000) with c_4 | c_4
  · refine pg_vU (pg_rS (As := [.int x, .int 0, .int 10000000]) (rest := []) ⟨hx, hb, hml, hown, hts⟩ (cc_rng_ok l D (pg_ty cI cZ) (pg_wB cI cZ a u) s.heap.size x 0 10000000 c_4) (va_cwS 3 hts gX4_setPrice_X4_checkRange rfl rfl rfl (by decide +kernel) ⟨Nat.le_of_ble_eq_true rfl, Nat.le_of_ble_eq_true rfl⟩) hK hP hD rfl hl.1 rfl (Nat.le_of_ble_eq_true rfl) dX4_setPrice_4 ⟨Nat.le_of_ble_eq_true rfl, Nat.le_of_ble_eq_true rfl⟩) hD hS hA (fun H locs hP hD hS => ?_)
    refine lv_iload_n hx hb dX4_setPrice_7 rfl (lv_at hl 2 rfl) ?_
    refine lv_ldc hx hb hown hw2 dX4_setPrice_8 ?_
    refine lv_ldc hx hb hown hw1 dX4_setPrice_10 ?_
    rcases Bool.eq_false_or_eq_true (pg_in y1 (-10000000) 10000000) with c_12 | c_12
    · refine pg_vU (pg_rS (As := [.int y1, .int (-10000000), .int 10000000]) (rest := []) ⟨hx, hb, hml, hown, hts⟩ (cc_rng_ok l D (pg_ty cI cZ) (pg_wB cI cZ a u) H.size y1 (-10000000) 10000000 c_12) (va_cwS 3 hts gX4_setPrice_X4_checkRange rfl rfl rfl (by decide +kernel) ⟨Nat.le_of_ble_eq_true rfl, Nat.le_of_ble_eq_true rfl⟩) hK hP hD rfl hl.1 rfl (Nat.le_of_ble_eq_true rfl) dX4_setPrice_12 ⟨Nat.le_of_ble_eq_true rfl, Nat.le_of_ble_eq_true rfl⟩) hD hS hA (fun H locs hP hD hS => ?_)
      refine lv_iload_n hx hb dX4_setPrice_15 rfl (lv_at hl 3 rfl) ?_
      refine lv_iconst (v := 0) hx hb dX4_setPrice_16 (by decide) ?_
      refine lv_ldc hx hb hown hw1 dX4_setPrice_17 ?_
      rcases Bool.eq_false_or_eq_true (pg_in z 0 10000000) with c_19 | c_19
      · refine pg_vU (pg_rS (As := [.int z, .int 0, .int 10000000]) (rest := []) ⟨hx, hb, hml, hown, hts⟩ (cc_rng_ok l D (pg_ty cI cZ) (pg_wB cI cZ a u) H.size z 0 10000000 c_19) (va_cwS 3 hts gX4_setPrice_X4_checkRange rfl rfl rfl (by decide +kernel) ⟨Nat.le_of_ble_eq_true rfl, Nat.le_of_ble_eq_true rfl⟩) hK hP hD rfl hl.1 rfl (Nat.le_of_ble_eq_true rfl) dX4_setPrice_19 ⟨Nat.le_of_ble_eq_true rfl, Nat.le_of_ble_eq_true rfl⟩) hD hS hA (fun H locs hP hD hS => ?_)
        refine lv_aload_n hx hb dX4_setPrice_22 rfl (lv_at hl 0 rfl) ?_
        rcases Bool.eq_false_or_eq_true (pg_eq (u.1 3) (-1)) with c_23 | c_23
        · refine pg_vE (pg_rV (As := []) (rest := []) ⟨hx, hb, hml, hown, hts⟩ (cc_ncl_ok l D cI cZ a H.size u c_23) (cwV 0 hts gX4_setPrice_X4_checkNotClosed rfl rfl rfl (by decide +kernel) ⟨Nat.le_of_ble_eq_true rfl, Nat.le_of_ble_eq_true rfl⟩) hK hP hD 0 (ci := 4) rfl rfl rfl rfl hl.1 rfl (Nat.le_of_ble_eq_true rfl) dX4_setPrice_23 ⟨Nat.le_of_ble_eq_true rfl, Nat.le_of_ble_eq_true rfl⟩) hD hS hA (fun H locs hP hD hS => ?_)
          refine lv_aload_n hx hb dX4_setPrice_26 rfl (lv_at hl 0 rfl) ?_
          refine lv_iload_n hx hb dX4_setPrice_27 rfl (lv_at hl 1 rfl) ?_
          refine va_put (D := D) (ci := 4) (v := .int x) (ty := .int) (C := RX4) (T := TX4) (N := 14) hx hb hts hiX4 tyX4 tyX4_ok nmX4 hown hK hP hD hS 0 rfl rfl 4 (by decide) hw3 (fun _ h9 => h9) rfl (by decide +kernel) rfl rfl (Nat.le_of_ble_eq_true rfl) dX4_setPrice_28 (fun H locs hP hD hS => ?_)
          have hP : va_P D vwCl (pg_wB cI cZ a ((upd u.1 0 x), u.2)) H := hP
          have hD : va_D A (pg_wB cI cZ a ((upd u.1 0 x), u.2)) := hD
          refine lv_aload_n hx hb dX4_setPrice_31 rfl (lv_at hl 0 rfl) ?_
          refine lv_iload_n hx hb dX4_setPrice_32 rfl (lv_at hl 2 rfl) ?_
          refine va_put (D := D) (ci := 4) (v := .int y1) (ty := .int) (C := RX4) (T := TX4) (N := 14) hx hb hts hiX4 tyX4 tyX4_ok nmX4 hown hK hP hD hS 0 rfl rfl 5 (by decide) hw4 (fun _ h9 => h9) rfl (by decide +kernel) rfl rfl (Nat.le_of_ble_eq_true rfl) dX4_setPrice_33 (fun H locs hP hD hS => ?_)
          have hP : va_P D vwCl (pg_wB cI cZ a ((upd (upd u.1 0 x) 1 y1), u.2)) H := hP
          have hD : va_D A (pg_wB cI cZ a ((upd (upd u.1 0 x) 1 y1), u.2)) := hD
          refine lv_aload_n hx hb dX4_setPrice_36 rfl (lv_at hl 0 rfl) ?_
          refine lv_iload_n hx hb dX4_setPrice_37 rfl (lv_at hl 3 rfl) ?_
          refine va_put (D := D) (ci := 4) (v := .int z) (ty := .int) (C := RX4) (T := TX4) (N := 14) hx hb hts hiX4 tyX4 tyX4_ok nmX4 hown hK hP hD hS 0 rfl rfl 6 (by decide) hw5 (fun _ h9 => h9) rfl (by decide +kernel) rfl rfl (Nat.le_of_ble_eq_true rfl) dX4_setPrice_38 (fun H locs hP hD hS => ?_)
          have hP : va_P D vwCl (pg_wB cI cZ a ((upd (upd (upd u.1 0 x) 1 y1) 2 z), u.2)) H := hP
          have hD : va_D A (pg_wB cI cZ a ((upd (upd (upd u.1 0 x) 1 y1) 2 z), u.2)) := hD
          exact W.vret hx hb hr (fun t9 ht9 hW9 => ⟨⟨((upd (upd (upd u.1 0 x) 1 y1) 2 z), u.2), rfl, rfl, by rw [ht9]; exact hP, va_K.moved hW9.alike hK, hD⟩, hS.F ht9⟩) hS.2.2 dX4_setPrice_41
        · exact absurd hthr (by first | (simp only [pg_t_setPrice, c_4, c_12, c_19, c_23, cond_true, cond_false, Bool.not_true, Bool.not_false]; done) | (simp only [pg_t_setPrice, c_4, c_12, c_19, c_23, cond_true, cond_false, Bool.not_true, Bool.not_false]; decide))
      · exact absurd hthr (by first | (simp only [pg_t_setPrice, c_4, c_12, c_19, cond_true, cond_false, Bool.not_true, Bool.not_false]; done) | (simp only [pg_t_setPrice, c_4, c_12, c_19, cond_true, cond_false, Bool.not_true, Bool.not_false]; decide))
    · exact absurd hthr (by first | (simp only [pg_t_setPrice, c_4, c_12, cond_true, cond_false, Bool.not_true, Bool.not_false]; done) | (simp only [pg_t_setPrice, c_4, c_12, cond_true, cond_false, Bool.not_true, Bool.not_false]; decide))
  · exact absurd hthr (by first | (simp only [pg_t_setPrice, c_4, cond_true, cond_false, Bool.not_true, Bool.not_false]; done) | (simp only [pg_t_setPrice, c_4, cond_true, cond_false, Bool.not_true, Bool.not_false]; decide))
set_option maxHeartbeats 4000000 in
set_option maxRecDepth 100000 in
/-- cc_setPrice: throws -/
theorem cc_setPrice_no (l : Launch) (hfl : l.stackTraces = false) (D : va_G) (cI cZ : ClassId) (a : Nat → Nat) (sz : Nat) (u : pg_St) (x y1 z : Int32) (e9 : Int32) (nm : String) (hthr : pg_t_setPrice (!pg_eq (u.1 3) (-1)) x y1 z = e9) (h0 : e9 ≠ 0) (h9_1 : e9 = 1 → nm = pg_ia) (h9_2 : e9 = 2 → nm = pg_is) : vx_Met l yX4_setPrice wsX4_setPrice ({ frames := 7, cells := 1, slots := 6, locals := 108 }) (va_Pc [.ref (a 0), .int x, .int y1, .int z] (pg_T D (pg_ty cI cZ) (pg_wB cI cZ a u) sz)) pg_No (pg_X D (pg_wB cI cZ a u) (va_A (pg_wB cI cZ a u) sz) nm) 1 6 (va_A (pg_wB cI cZ a u) sz) := by
  refine vx_ofW (cc := cX4_setPrice) (maxL := 4) (ret := none) (by decide) rfl ?_
  intro p e s m args below meth c s₁ B hml hout hv
  obtain ⟨rfl, ⟨hsz, hP, hK, hD0⟩, hE⟩ := hv
  have hx := B.exec
  have hb := B.bytes
  have hr := B.returns
  have hts := atoms_spec (ws := wsX4_setPrice) B.pre
  have hown : s.vm.findClass RX4 = some m.cls := findClass_of_methodNamed B.named
  have hlocks := B.notSynchronized
  subst hsz
  have hD := hD0.self (sz := s.heap.size)
  generalize hAe : va_A (pg_wB cI cZ a u) s.heap.size = A at hD hE ⊢
  have hA : ∀ q : Nat, s.heap.size ≤ q → A q := fun q h => by rw [← hAe]; exact Or.inr h
  have hS : va_S A s.heap s.heap [] := va_S.rf
  have hl := lv_entry ([.ref (a 0), .int x, .int y1, .int z]) (n := 4) (Nat.le_of_ble_eq_true rfl)
  rw [lg_entry_eq]
  generalize (lg_sl ([.ref (a 0), .int x, .int y1, .int z]) ++ List.replicate (4 - (lg_sl ([.ref (a 0), .int x, .int y1, .int z])).length) Slot.unset).toArray = ls at hl ⊢
  have hl : lv_has ls 4 [(0, .ref (a 0)), (1, .int x), (2, .int y1), (3, .int z)] := hl
  have hw1 := hts (.constant RX4 44 (10000000)) (List.mem_of_getElem? (i := 1) rfl)
  have hw2 := hts (.constant RX4 49 (-10000000)) (List.mem_of_getElem? (i := 2) rfl)
  refine lv_iload_n hx hb dX4_setPrice_0 rfl (lv_at hl 1 rfl) ?_
  refine lv_iconst (v := 0) hx hb dX4_setPrice_1 (by decide) ?_
  refine lv_ldc hx hb hown hw1 dX4_setPrice_2 ?_
  rcases Bool.eq_false_or_eq_true (pg_in x 0 10000000) with c_4 | c_4
  · refine pg_vU (pg_rS (As := [.int x, .int 0, .int 10000000]) (rest := []) ⟨hx, hb, hml, hown, hts⟩ (cc_rng_ok l D (pg_ty cI cZ) (pg_wB cI cZ a u) s.heap.size x 0 10000000 c_4) (va_cwS 3 hts gX4_setPrice_X4_checkRange rfl rfl rfl (by decide +kernel) ⟨Nat.le_of_ble_eq_true rfl, Nat.le_of_ble_eq_true rfl⟩) hK hP hD rfl hl.1 rfl (Nat.le_of_ble_eq_true rfl) dX4_setPrice_4 ⟨Nat.le_of_ble_eq_true rfl, Nat.le_of_ble_eq_true rfl⟩) hD hS hA (fun H locs hP hD hS => ?_)
    refine lv_iload_n hx hb dX4_setPrice_7 rfl (lv_at hl 2 rfl) ?_
    refine lv_ldc hx hb hown hw2 dX4_setPrice_8 ?_
    refine lv_ldc hx hb hown hw1 dX4_setPrice_10 ?_
    rcases Bool.eq_false_or_eq_true (pg_in y1 (-10000000) 10000000) with c_12 | c_12
    · refine pg_vU (pg_rS (As := [.int y1, .int (-10000000), .int 10000000]) (rest := []) ⟨hx, hb, hml, hown, hts⟩ (cc_rng_ok l D (pg_ty cI cZ) (pg_wB cI cZ a u) H.size y1 (-10000000) 10000000 c_12) (va_cwS 3 hts gX4_setPrice_X4_checkRange rfl rfl rfl (by decide +kernel) ⟨Nat.le_of_ble_eq_true rfl, Nat.le_of_ble_eq_true rfl⟩) hK hP hD rfl hl.1 rfl (Nat.le_of_ble_eq_true rfl) dX4_setPrice_12 ⟨Nat.le_of_ble_eq_true rfl, Nat.le_of_ble_eq_true rfl⟩) hD hS hA (fun H locs hP hD hS => ?_)
      refine lv_iload_n hx hb dX4_setPrice_15 rfl (lv_at hl 3 rfl) ?_
      refine lv_iconst (v := 0) hx hb dX4_setPrice_16 (by decide) ?_
      refine lv_ldc hx hb hown hw1 dX4_setPrice_17 ?_
      rcases Bool.eq_false_or_eq_true (pg_in z 0 10000000) with c_19 | c_19
      · refine pg_vU (pg_rS (As := [.int z, .int 0, .int 10000000]) (rest := []) ⟨hx, hb, hml, hown, hts⟩ (cc_rng_ok l D (pg_ty cI cZ) (pg_wB cI cZ a u) H.size z 0 10000000 c_19) (va_cwS 3 hts gX4_setPrice_X4_checkRange rfl rfl rfl (by decide +kernel) ⟨Nat.le_of_ble_eq_true rfl, Nat.le_of_ble_eq_true rfl⟩) hK hP hD rfl hl.1 rfl (Nat.le_of_ble_eq_true rfl) dX4_setPrice_19 ⟨Nat.le_of_ble_eq_true rfl, Nat.le_of_ble_eq_true rfl⟩) hD hS hA (fun H locs hP hD hS => ?_)
        refine lv_aload_n hx hb dX4_setPrice_22 rfl (lv_at hl 0 rfl) ?_
        rcases Bool.eq_false_or_eq_true (pg_eq (u.1 3) (-1)) with c_23 | c_23
        · exact absurd (hthr.symm.trans (by simp only [pg_t_setPrice, c_4, c_12, c_19, c_23, cond_true, cond_false, Bool.not_true, Bool.not_false])) h0
        · have he : e9 = 2 := hthr.symm.trans (by simp only [pg_t_setPrice, c_4, c_12, c_19, c_23, cond_true, cond_false, Bool.not_true, Bool.not_false])
          obtain rfl := h9_2 he
          exact pg_thru (pg_xV (As := []) (rest := []) ⟨hx, hb, hml, hown, hts⟩ (cc_ncl_no l hfl D cI cZ a H.size u c_23) (cwV 0 hts gX4_setPrice_X4_checkNotClosed rfl rfl rfl (by decide +kernel) ⟨Nat.le_of_ble_eq_true rfl, Nat.le_of_ble_eq_true rfl⟩) hK hP hD hS hA hE 0 (ci := 4) rfl rfl rfl rfl hl.1 rfl (Nat.le_of_ble_eq_true rfl) dX4_setPrice_23 ⟨Nat.le_of_ble_eq_true rfl, Nat.le_of_ble_eq_true rfl⟩) hD hS hA hout hlocks (Nat.le_of_ble_eq_true rfl) (Nat.le_of_ble_eq_true rfl)
      · have he : e9 = 1 := hthr.symm.trans (by simp only [pg_t_setPrice, c_4, c_12, c_19, cond_true, cond_false, Bool.not_true, Bool.not_false])
        obtain rfl := h9_1 he
        exact pg_thru (pg_xS (As := [.int z, .int 0, .int 10000000]) (rest := []) ⟨hx, hb, hml, hown, hts⟩ (cc_rng_no l hfl D (pg_ty cI cZ) (pg_wB cI cZ a u) H.size z 0 10000000 c_19) (va_cwS 3 hts gX4_setPrice_X4_checkRange rfl rfl rfl (by decide +kernel) ⟨Nat.le_of_ble_eq_true rfl, Nat.le_of_ble_eq_true rfl⟩) hK hP hD hS hA hE rfl hl.1 rfl (Nat.le_of_ble_eq_true rfl) dX4_setPrice_19 ⟨Nat.le_of_ble_eq_true rfl, Nat.le_of_ble_eq_true rfl⟩) hD hS hA hout hlocks (Nat.le_of_ble_eq_true rfl) (Nat.le_of_ble_eq_true rfl)
    · have he : e9 = 1 := hthr.symm.trans (by simp only [pg_t_setPrice, c_4, c_12, cond_true, cond_false, Bool.not_true, Bool.not_false])
      obtain rfl := h9_1 he
      exact pg_thru (pg_xS (As := [.int y1, .int (-10000000), .int 10000000]) (rest := []) ⟨hx, hb, hml, hown, hts⟩ (cc_rng_no l hfl D (pg_ty cI cZ) (pg_wB cI cZ a u) H.size y1 (-10000000) 10000000 c_12) (va_cwS 3 hts gX4_setPrice_X4_checkRange rfl rfl rfl (by decide +kernel) ⟨Nat.le_of_ble_eq_true rfl, Nat.le_of_ble_eq_true rfl⟩) hK hP hD hS hA hE rfl hl.1 rfl (Nat.le_of_ble_eq_true rfl) dX4_setPrice_12 ⟨Nat.le_of_ble_eq_true rfl, Nat.le_of_ble_eq_true rfl⟩) hD hS hA hout hlocks (Nat.le_of_ble_eq_true rfl) (Nat.le_of_ble_eq_true rfl)
  · have he : e9 = 1 := hthr.symm.trans (by simp only [pg_t_setPrice, c_4, cond_true, cond_false, Bool.not_true, Bool.not_false])
    obtain rfl := h9_1 he
    exact pg_thru (pg_xS (As := [.int x, .int 0, .int 10000000]) (rest := []) ⟨hx, hb, hml, hown, hts⟩ (cc_rng_no l hfl D (pg_ty cI cZ) (pg_wB cI cZ a u) s.heap.size x 0 10000000 c_4) (va_cwS 3 hts gX4_setPrice_X4_checkRange rfl rfl rfl (by decide +kernel) ⟨Nat.le_of_ble_eq_true rfl, Nat.le_of_ble_eq_true rfl⟩) hK hP hD hS hA hE rfl hl.1 rfl (Nat.le_of_ble_eq_true rfl) dX4_setPrice_4 ⟨Nat.le_of_ble_eq_true rfl, Nat.le_of_ble_eq_true rfl⟩) hD hS hA hout hlocks (Nat.le_of_ble_eq_true rfl) (Nat.le_of_ble_eq_true rfl)
set_option maxHeartbeats 4000000 in
set_option maxRecDepth 100000 in
/-- cc_setPart: returns -/
theorem cc_setPart_ok (l : Launch) (D : va_G) (cI cZ : ClassId) (a : Nat → Nat) (sz : Nat) (u : pg_St) (k x d : Int32) (hthr : pg_t_setPart (!pg_eq (u.1 3) (-1)) k x d = 0) : Met l yX4_setPart wsX4_setPart ({ frames := 1, cells := 0, slots := 0, locals := 22 }) (va_Pc [.ref (a 0), .int k, .int x, .int d] (pg_B D (pg_ty cI cZ) (pg_wB cI cZ a u) sz)) (va_Qv (fun u' => u' = (u.1, pg_row (pg_row u.2 0 (upd (u.2 0) k.toNatClampNeg x)) 1 (upd (u.2 1) k.toNatClampNeg d))) (pg_E D (pg_ty cI cZ) (va_A (pg_wB cI cZ a u) sz) (pg_wB cI cZ a)) (va_A (pg_wB cI cZ a u) sz)) 0 0 (va_A (pg_wB cI cZ a u) sz) := by
  refine Met.ofW (cc := cX4_setPart) (maxL := 4) (ret := none) (by decide) rfl ?_
  intro p e s m args below meth c s₁ B hml hv
  obtain ⟨rfl, hsz, hP, hK, hD0⟩ := hv
  have hx := B.exec
  have hb := B.bytes
  have hr := B.returns
  have hts := atoms_spec (ws := wsX4_setPart) B.pre
  have hown : s.vm.findClass RX4 = some m.cls := findClass_of_methodNamed B.named
  have hlocks := B.notSynchronized
  subst hsz
  have hD := hD0.self (sz := s.heap.size)
  generalize hAe : va_A (pg_wB cI cZ a u) s.heap.size = A at hD ⊢
  have hA : ∀ q : Nat, s.heap.size ≤ q → A q := fun q h => by rw [← hAe]; exact Or.inr h
  have hS : va_S A s.heap s.heap [] := va_S.rf
  have hl := lv_entry ([.ref (a 0), .int k, .int x, .int d]) (n := 4) (Nat.le_of_ble_eq_true rfl)
  rw [lg_entry_eq]
  generalize (lg_sl ([.ref (a 0), .int k, .int x, .int d]) ++ List.replicate (4 - (lg_sl ([.ref (a 0), .int k, .int x, .int d])).length) Slot.unset).toArray = ls at hl ⊢
  have hl : lv_has ls 4 [(0, .ref (a 0)), (1, .int k), (2, .int x), (3, .int d)] := hl
  have hiX2 : ∀ w ∈ wsX20, w ∈ wsX4_setPart := fun _ h => List.mem_cons_of_mem _ (List.mem_append_left _ (List.mem_append_left _ (List.mem_append_left _ (List.mem_append_right _ (h)))))
  have hiX4 : ∀ w ∈ wsX40, w ∈ wsX4_setPart := fun _ h => List.mem_cons_of_mem _ (List.mem_append_left _ (List.mem_append_left _ (List.mem_append_left _ (List.mem_append_left _ (List.mem_append_right _ (h))))))
  have hw1 := hts (.constant RX4 44 (10000000)) (List.mem_of_getElem? (i := 1) rfl)
  have hw2 := hts (.fieldLink RX4 10 "PegBox" "escrow" "LPegBox$Escrow;") (List.mem_of_getElem? (i := 2) rfl)
  have hw3 := hts (.fieldLink RX4 66 "PegBox$Escrow" "amounts" "[I") (List.mem_of_getElem? (i := 3) rfl)
  have hw4 := hts (.fieldLink RX4 70 "PegBox$Escrow" "days" "[I") (List.mem_of_getElem? (i := 4) rfl)
  refine lv_iload_n hx hb dX4_setPart_0 rfl (lv_at hl 1 rfl) ?_
  refine lv_iconst (v := 4) hx hb dX4_setPart_1 (by decide) ?_
  rcases Bool.eq_false_or_eq_true (pg_nb k 4) with c_2 | c_2
  · refine pg_vU (pg_rS (As := [.int k, .int 4]) (rest := []) ⟨hx, hb, hml, hown, hts⟩ (cc_num_ok l D (pg_ty cI cZ) (pg_wB cI cZ a u) s.heap.size k 4 c_2) (va_cwS 2 hts gX4_setPart_X4_checkNumber rfl rfl rfl (by decide +kernel) ⟨Nat.le_of_ble_eq_true rfl, Nat.le_of_ble_eq_true rfl⟩) hK hP hD rfl hl.1 rfl (Nat.le_of_ble_eq_true rfl) dX4_setPart_2 ⟨Nat.le_of_ble_eq_true rfl, Nat.le_of_ble_eq_true rfl⟩) hD hS hA (fun H locs hP hD hS => ?_)
    obtain ⟨j, hj, rfl⟩ := pg_nb_nI (n := 4) (by omega) c_2
    have hcl : (nI j).toNatClampNeg = j := nI_clamp (by omega)
    refine lv_iload_n hx hb dX4_setPart_5 rfl (lv_at hl 2 rfl) ?_
    refine lv_iconst (v := 0) hx hb dX4_setPart_6 (by decide) ?_
    refine lv_ldc hx hb hown hw1 dX4_setPart_7 ?_
    rcases Bool.eq_false_or_eq_true (pg_in x 0 10000000) with c_9 | c_9
    · refine pg_vU (pg_rS (As := [.int x, .int 0, .int 10000000]) (rest := []) ⟨hx, hb, hml, hown, hts⟩ (cc_rng_ok l D (pg_ty cI cZ) (pg_wB cI cZ a u) H.size x 0 10000000 c_9) (va_cwS 3 hts gX4_setPart_X4_checkRange rfl rfl rfl (by decide +kernel) ⟨Nat.le_of_ble_eq_true rfl, Nat.le_of_ble_eq_true rfl⟩) hK hP hD rfl hl.1 rfl (Nat.le_of_ble_eq_true rfl) dX4_setPart_9 ⟨Nat.le_of_ble_eq_true rfl, Nat.le_of_ble_eq_true rfl⟩) hD hS hA (fun H locs hP hD hS => ?_)
      refine lv_iload_n hx hb dX4_setPart_12 rfl (lv_at hl 3 rfl) ?_
      refine lv_iconst (v := 1) hx hb dX4_setPart_13 (by decide) ?_
      refine lv_sipush (v := 2000) hx hb dX4_setPart_14 (by decide) ?_
      rcases Bool.eq_false_or_eq_true (pg_in d 1 2000) with c_17 | c_17
      · refine pg_vU (pg_rS (As := [.int d, .int 1, .int 2000]) (rest := []) ⟨hx, hb, hml, hown, hts⟩ (cc_rng_ok l D (pg_ty cI cZ) (pg_wB cI cZ a u) H.size d 1 2000 c_17) (va_cwS 3 hts gX4_setPart_X4_checkRange rfl rfl rfl (by decide +kernel) ⟨Nat.le_of_ble_eq_true rfl, Nat.le_of_ble_eq_true rfl⟩) hK hP hD rfl hl.1 rfl (Nat.le_of_ble_eq_true rfl) dX4_setPart_17 ⟨Nat.le_of_ble_eq_true rfl, Nat.le_of_ble_eq_true rfl⟩) hD hS hA (fun H locs hP hD hS => ?_)
        refine lv_aload_n hx hb dX4_setPart_20 rfl (lv_at hl 0 rfl) ?_
        rcases Bool.eq_false_or_eq_true (pg_eq (u.1 3) (-1)) with c_21 | c_21
        · refine pg_vE (pg_rV (As := []) (rest := []) ⟨hx, hb, hml, hown, hts⟩ (cc_ncl_ok l D cI cZ a H.size u c_21) (cwV 0 hts gX4_setPart_X4_checkNotClosed rfl rfl rfl (by decide +kernel) ⟨Nat.le_of_ble_eq_true rfl, Nat.le_of_ble_eq_true rfl⟩) hK hP hD 0 (ci := 4) rfl rfl rfl rfl hl.1 rfl (Nat.le_of_ble_eq_true rfl) dX4_setPart_21 ⟨Nat.le_of_ble_eq_true rfl, Nat.le_of_ble_eq_true rfl⟩) hD hS hA (fun H locs hP hD hS => ?_)
          refine lv_aload_n hx hb dX4_setPart_24 rfl (lv_at hl 0 rfl) ?_
          refine va_get (D := D) (ci := 4) (v := .ref (a 1)) (C := RX4) (T := TX4) (N := 14) hx hb hts hiX4 hown hK hP 0 rfl rfl 0 (by decide) hw2 (fun _ h9 => h9) rfl dX4_setPart_25 ?_
          refine va_get (D := D) (ci := 2) (v := .ref (a 5)) (C := RX2) (T := TX2) (N := 2) hx hb hts hiX2 hown hK hP 1 rfl rfl 0 (by decide) hw3 (fun _ h9 => h9) rfl dX4_setPart_28 ?_
          refine lv_iload_n hx hb dX4_setPart_31 rfl (lv_at hl 1 rfl) ?_
          refine lv_iload_n hx hb dX4_setPart_32 rfl (lv_at hl 2 rfl) ?_
          refine pg_ist hx hb hK hP hD hS 5 0 rfl rfl (show j < _ by omega) (by decide) dX4_setPart_33 (fun H locs hP hD hS => ?_)
          have hP : va_P D vwCl (pg_wB cI cZ a (u.1, (pg_row u.2 0 (upd (u.2 0) j x)))) H := hP
          have hD : va_D A (pg_wB cI cZ a (u.1, (pg_row u.2 0 (upd (u.2 0) j x)))) := hD
          refine lv_aload_n hx hb dX4_setPart_34 rfl (lv_at hl 0 rfl) ?_
          refine va_get (D := D) (ci := 4) (v := .ref (a 1)) (C := RX4) (T := TX4) (N := 14) hx hb hts hiX4 hown hK hP 0 rfl rfl 0 (by decide) hw2 (fun _ h9 => h9) rfl dX4_setPart_35 ?_
          refine va_get (D := D) (ci := 2) (v := .ref (a 6)) (C := RX2) (T := TX2) (N := 2) hx hb hts hiX2 hown hK hP 1 rfl rfl 1 (by decide) hw4 (fun _ h9 => h9) rfl dX4_setPart_38 ?_
          refine lv_iload_n hx hb dX4_setPart_41 rfl (lv_at hl 1 rfl) ?_
          refine lv_iload_n hx hb dX4_setPart_42 rfl (lv_at hl 3 rfl) ?_
          refine pg_ist hx hb hK hP hD hS 6 0 rfl rfl (show j < _ by omega) (by decide) dX4_setPart_43 (fun H locs hP hD hS => ?_)
          have hP : va_P D vwCl (pg_wB cI cZ a (u.1, (pg_row (pg_row u.2 0 (upd (u.2 0) j x)) 1 (upd (u.2 1) j d)))) H := hP
          have hD : va_D A (pg_wB cI cZ a (u.1, (pg_row (pg_row u.2 0 (upd (u.2 0) j x)) 1 (upd (u.2 1) j d)))) := hD
          exact W.vret hx hb hr (fun t9 ht9 hW9 => ⟨⟨(u.1, (pg_row (pg_row u.2 0 (upd (u.2 0) j x)) 1 (upd (u.2 1) j d))), rfl, (by rw [hcl]), by rw [ht9]; exact hP, va_K.moved hW9.alike hK, hD⟩, hS.F ht9⟩) hS.2.2 dX4_setPart_44
        · exact absurd hthr (by first | (simp only [pg_t_setPart, c_2, hcl, c_9, c_17, c_21, cond_true, cond_false, Bool.not_true, Bool.not_false]; done) | (simp only [pg_t_setPart, c_2, hcl, c_9, c_17, c_21, cond_true, cond_false, Bool.not_true, Bool.not_false]; decide))
      · exact absurd hthr (by first | (simp only [pg_t_setPart, c_2, hcl, c_9, c_17, cond_true, cond_false, Bool.not_true, Bool.not_false]; done) | (simp only [pg_t_setPart, c_2, hcl, c_9, c_17, cond_true, cond_false, Bool.not_true, Bool.not_false]; decide))
    · exact absurd hthr (by first | (simp only [pg_t_setPart, c_2, hcl, c_9, cond_true, cond_false, Bool.not_true, Bool.not_false]; done) | (simp only [pg_t_setPart, c_2, hcl, c_9, cond_true, cond_false, Bool.not_true, Bool.not_false]; decide))
  · exact absurd hthr (by first | (simp only [pg_t_setPart, c_2, cond_true, cond_false, Bool.not_true, Bool.not_false]; done) | (simp only [pg_t_setPart, c_2, cond_true, cond_false, Bool.not_true, Bool.not_false]; decide))
set_option maxHeartbeats 4000000 in
set_option maxRecDepth 100000 in
/-- cc_setPart: throws -/
theorem cc_setPart_no (l : Launch) (hfl : l.stackTraces = false) (D : va_G) (cI cZ : ClassId) (a : Nat → Nat) (sz : Nat) (u : pg_St) (k x d : Int32) (e9 : Int32) (nm : String) (hthr : pg_t_setPart (!pg_eq (u.1 3) (-1)) k x d = e9) (h0 : e9 ≠ 0) (h9_1 : e9 = 1 → nm = pg_io) (h9_2 : e9 = 2 → nm = pg_ia) (h9_3 : e9 = 3 → nm = pg_is) : vx_Met l yX4_setPart wsX4_setPart ({ frames := 7, cells := 1, slots := 6, locals := 108 }) (va_Pc [.ref (a 0), .int k, .int x, .int d] (pg_T D (pg_ty cI cZ) (pg_wB cI cZ a u) sz)) pg_No (pg_X D (pg_wB cI cZ a u) (va_A (pg_wB cI cZ a u) sz) nm) 1 6 (va_A (pg_wB cI cZ a u) sz) := by
  refine vx_ofW (cc := cX4_setPart) (maxL := 4) (ret := none) (by decide) rfl ?_
  intro p e s m args below meth c s₁ B hml hout hv
  obtain ⟨rfl, ⟨hsz, hP, hK, hD0⟩, hE⟩ := hv
  have hx := B.exec
  have hb := B.bytes
  have hr := B.returns
  have hts := atoms_spec (ws := wsX4_setPart) B.pre
  have hown : s.vm.findClass RX4 = some m.cls := findClass_of_methodNamed B.named
  have hlocks := B.notSynchronized
  subst hsz
  have hD := hD0.self (sz := s.heap.size)
  generalize hAe : va_A (pg_wB cI cZ a u) s.heap.size = A at hD hE ⊢
  have hA : ∀ q : Nat, s.heap.size ≤ q → A q := fun q h => by rw [← hAe]; exact Or.inr h
  have hS : va_S A s.heap s.heap [] := va_S.rf
  have hl := lv_entry ([.ref (a 0), .int k, .int x, .int d]) (n := 4) (Nat.le_of_ble_eq_true rfl)
  rw [lg_entry_eq]
  generalize (lg_sl ([.ref (a 0), .int k, .int x, .int d]) ++ List.replicate (4 - (lg_sl ([.ref (a 0), .int k, .int x, .int d])).length) Slot.unset).toArray = ls at hl ⊢
  have hl : lv_has ls 4 [(0, .ref (a 0)), (1, .int k), (2, .int x), (3, .int d)] := hl
  have hw1 := hts (.constant RX4 44 (10000000)) (List.mem_of_getElem? (i := 1) rfl)
  refine lv_iload_n hx hb dX4_setPart_0 rfl (lv_at hl 1 rfl) ?_
  refine lv_iconst (v := 4) hx hb dX4_setPart_1 (by decide) ?_
  rcases Bool.eq_false_or_eq_true (pg_nb k 4) with c_2 | c_2
  · refine pg_vU (pg_rS (As := [.int k, .int 4]) (rest := []) ⟨hx, hb, hml, hown, hts⟩ (cc_num_ok l D (pg_ty cI cZ) (pg_wB cI cZ a u) s.heap.size k 4 c_2) (va_cwS 2 hts gX4_setPart_X4_checkNumber rfl rfl rfl (by decide +kernel) ⟨Nat.le_of_ble_eq_true rfl, Nat.le_of_ble_eq_true rfl⟩) hK hP hD rfl hl.1 rfl (Nat.le_of_ble_eq_true rfl) dX4_setPart_2 ⟨Nat.le_of_ble_eq_true rfl, Nat.le_of_ble_eq_true rfl⟩) hD hS hA (fun H locs hP hD hS => ?_)
    obtain ⟨j, hj, rfl⟩ := pg_nb_nI (n := 4) (by omega) c_2
    have hcl : (nI j).toNatClampNeg = j := nI_clamp (by omega)
    refine lv_iload_n hx hb dX4_setPart_5 rfl (lv_at hl 2 rfl) ?_
    refine lv_iconst (v := 0) hx hb dX4_setPart_6 (by decide) ?_
    refine lv_ldc hx hb hown hw1 dX4_setPart_7 ?_
    rcases Bool.eq_false_or_eq_true (pg_in x 0 10000000) with c_9 | c_9
    · refine pg_vU (pg_rS (As := [.int x, .int 0, .int 10000000]) (rest := []) ⟨hx, hb, hml, hown, hts⟩ (cc_rng_ok l D (pg_ty cI cZ) (pg_wB cI cZ a u) H.size x 0 10000000 c_9) (va_cwS 3 hts gX4_setPart_X4_checkRange rfl rfl rfl (by decide +kernel) ⟨Nat.le_of_ble_eq_true rfl, Nat.le_of_ble_eq_true rfl⟩) hK hP hD rfl hl.1 rfl (Nat.le_of_ble_eq_true rfl) dX4_setPart_9 ⟨Nat.le_of_ble_eq_true rfl, Nat.le_of_ble_eq_true rfl⟩) hD hS hA (fun H locs hP hD hS => ?_)
      refine lv_iload_n hx hb dX4_setPart_12 rfl (lv_at hl 3 rfl) ?_
      refine lv_iconst (v := 1) hx hb dX4_setPart_13 (by decide) ?_
      refine lv_sipush (v := 2000) hx hb dX4_setPart_14 (by decide) ?_
      rcases Bool.eq_false_or_eq_true (pg_in d 1 2000) with c_17 | c_17
      · refine pg_vU (pg_rS (As := [.int d, .int 1, .int 2000]) (rest := []) ⟨hx, hb, hml, hown, hts⟩ (cc_rng_ok l D (pg_ty cI cZ) (pg_wB cI cZ a u) H.size d 1 2000 c_17) (va_cwS 3 hts gX4_setPart_X4_checkRange rfl rfl rfl (by decide +kernel) ⟨Nat.le_of_ble_eq_true rfl, Nat.le_of_ble_eq_true rfl⟩) hK hP hD rfl hl.1 rfl (Nat.le_of_ble_eq_true rfl) dX4_setPart_17 ⟨Nat.le_of_ble_eq_true rfl, Nat.le_of_ble_eq_true rfl⟩) hD hS hA (fun H locs hP hD hS => ?_)
        refine lv_aload_n hx hb dX4_setPart_20 rfl (lv_at hl 0 rfl) ?_
        rcases Bool.eq_false_or_eq_true (pg_eq (u.1 3) (-1)) with c_21 | c_21
        · exact absurd (hthr.symm.trans (by simp only [pg_t_setPart, c_2, hcl, c_9, c_17, c_21, cond_true, cond_false, Bool.not_true, Bool.not_false])) h0
        · have he : e9 = 3 := hthr.symm.trans (by simp only [pg_t_setPart, c_2, hcl, c_9, c_17, c_21, cond_true, cond_false, Bool.not_true, Bool.not_false])
          obtain rfl := h9_3 he
          exact pg_thru (pg_xV (As := []) (rest := []) ⟨hx, hb, hml, hown, hts⟩ (cc_ncl_no l hfl D cI cZ a H.size u c_21) (cwV 0 hts gX4_setPart_X4_checkNotClosed rfl rfl rfl (by decide +kernel) ⟨Nat.le_of_ble_eq_true rfl, Nat.le_of_ble_eq_true rfl⟩) hK hP hD hS hA hE 0 (ci := 4) rfl rfl rfl rfl hl.1 rfl (Nat.le_of_ble_eq_true rfl) dX4_setPart_21 ⟨Nat.le_of_ble_eq_true rfl, Nat.le_of_ble_eq_true rfl⟩) hD hS hA hout hlocks (Nat.le_of_ble_eq_true rfl) (Nat.le_of_ble_eq_true rfl)
      · have he : e9 = 2 := hthr.symm.trans (by simp only [pg_t_setPart, c_2, hcl, c_9, c_17, cond_true, cond_false, Bool.not_true, Bool.not_false])
        obtain rfl := h9_2 he
        exact pg_thru (pg_xS (As := [.int d, .int 1, .int 2000]) (rest := []) ⟨hx, hb, hml, hown, hts⟩ (cc_rng_no l hfl D (pg_ty cI cZ) (pg_wB cI cZ a u) H.size d 1 2000 c_17) (va_cwS 3 hts gX4_setPart_X4_checkRange rfl rfl rfl (by decide +kernel) ⟨Nat.le_of_ble_eq_true rfl, Nat.le_of_ble_eq_true rfl⟩) hK hP hD hS hA hE rfl hl.1 rfl (Nat.le_of_ble_eq_true rfl) dX4_setPart_17 ⟨Nat.le_of_ble_eq_true rfl, Nat.le_of_ble_eq_true rfl⟩) hD hS hA hout hlocks (Nat.le_of_ble_eq_true rfl) (Nat.le_of_ble_eq_true rfl)
    · have he : e9 = 2 := hthr.symm.trans (by simp only [pg_t_setPart, c_2, hcl, c_9, cond_true, cond_false, Bool.not_true, Bool.not_false])
      obtain rfl := h9_2 he
      exact pg_thru (pg_xS (As := [.int x, .int 0, .int 10000000]) (rest := []) ⟨hx, hb, hml, hown, hts⟩ (cc_rng_no l hfl D (pg_ty cI cZ) (pg_wB cI cZ a u) H.size x 0 10000000 c_9) (va_cwS 3 hts gX4_setPart_X4_checkRange rfl rfl rfl (by decide +kernel) ⟨Nat.le_of_ble_eq_true rfl, Nat.le_of_ble_eq_true rfl⟩) hK hP hD hS hA hE rfl hl.1 rfl (Nat.le_of_ble_eq_true rfl) dX4_setPart_9 ⟨Nat.le_of_ble_eq_true rfl, Nat.le_of_ble_eq_true rfl⟩) hD hS hA hout hlocks (Nat.le_of_ble_eq_true rfl) (Nat.le_of_ble_eq_true rfl)
  · have he : e9 = 1 := hthr.symm.trans (by simp only [pg_t_setPart, c_2, cond_true, cond_false, Bool.not_true, Bool.not_false])
    obtain rfl := h9_1 he
    exact pg_thru (pg_xS (As := [.int k, .int 4]) (rest := []) ⟨hx, hb, hml, hown, hts⟩ (cc_num_no l hfl D (pg_ty cI cZ) (pg_wB cI cZ a u) s.heap.size k 4 c_2) (va_cwS 2 hts gX4_setPart_X4_checkNumber rfl rfl rfl (by decide +kernel) ⟨Nat.le_of_ble_eq_true rfl, Nat.le_of_ble_eq_true rfl⟩) hK hP hD hS hA hE rfl hl.1 rfl (Nat.le_of_ble_eq_true rfl) dX4_setPart_2 ⟨Nat.le_of_ble_eq_true rfl, Nat.le_of_ble_eq_true rfl⟩) hD hS hA hout hlocks (Nat.le_of_ble_eq_true rfl) (Nat.le_of_ble_eq_true rfl)
set_option maxHeartbeats 4000000 in
set_option maxRecDepth 100000 in
/-- cc_setKind: returns -/
theorem cc_setKind_ok (l : Launch) (D : va_G) (cI cZ : ClassId) (a : Nat → Nat) (sz : Nat) (u : pg_St) (k x y1 b z d : Int32) (hb9 : vp_nar .boolean b = b) (hthr : pg_t_setKind (!pg_eq (u.1 3) (-1)) k x y1 z d = 0) : Met l yX4_setKind wsX4_setKind ({ frames := 1, cells := 0, slots := 0, locals := 22 }) (va_Pc [.ref (a 0), .int k, .int x, .int y1, .int b, .int z, .int d] (pg_B D (pg_ty cI cZ) (pg_wB cI cZ a u) sz)) (va_Qv (fun u' => u' = (u.1, pg_row (pg_row (pg_row (pg_row (pg_row u.2 2 (upd (u.2 2) k.toNatClampNeg x)) 3 (upd (u.2 3) k.toNatClampNeg y1)) 4 (upd (u.2 4) k.toNatClampNeg b)) 5 (upd (u.2 5) k.toNatClampNeg z)) 6 (upd (u.2 6) k.toNatClampNeg d))) (pg_E D (pg_ty cI cZ) (va_A (pg_wB cI cZ a u) sz) (pg_wB cI cZ a)) (va_A (pg_wB cI cZ a u) sz)) 0 0 (va_A (pg_wB cI cZ a u) sz) := by
  refine Met.ofW (cc := cX4_setKind) (maxL := 7) (ret := none) (by decide) rfl ?_
  intro p e s m args below meth c s₁ B hml hv
  obtain ⟨rfl, hsz, hP, hK, hD0⟩ := hv
  have hx := B.exec
  have hb := B.bytes
  have hr := B.returns
  have hts := atoms_spec (ws := wsX4_setKind) B.pre
  have hown : s.vm.findClass RX4 = some m.cls := findClass_of_methodNamed B.named
  have hlocks := B.notSynchronized
  subst hsz
  have hD := hD0.self (sz := s.heap.size)
  generalize hAe : va_A (pg_wB cI cZ a u) s.heap.size = A at hD ⊢
  have hA : ∀ q : Nat, s.heap.size ≤ q → A q := fun q h => by rw [← hAe]; exact Or.inr h
  have hS : va_S A s.heap s.heap [] := va_S.rf
  have hl := lv_entry ([.ref (a 0), .int k, .int x, .int y1, .int b, .int z, .int d]) (n := 7) (Nat.le_of_ble_eq_true rfl)
  rw [lg_entry_eq]
  generalize (lg_sl ([.ref (a 0), .int k, .int x, .int y1, .int b, .int z, .int d]) ++ List.replicate (7 - (lg_sl ([.ref (a 0), .int k, .int x, .int y1, .int b, .int z, .int d])).length) Slot.unset).toArray = ls at hl ⊢
  have hl : lv_has ls 7 [(0, .ref (a 0)), (1, .int k), (2, .int x), (3, .int y1), (4, .int b), (5, .int z), (6, .int d)] := hl
  have hiX3 : ∀ w ∈ wsX30, w ∈ wsX4_setKind := fun _ h => List.mem_cons_of_mem _ (List.mem_append_left _ (List.mem_append_left _ (List.mem_append_left _ (List.mem_append_right _ (h)))))
  have hiX4 : ∀ w ∈ wsX40, w ∈ wsX4_setKind := fun _ h => List.mem_cons_of_mem _ (List.mem_append_left _ (List.mem_append_left _ (List.mem_append_left _ (List.mem_append_left _ (List.mem_append_right _ (h))))))
  have hw1 := hts (.constant RX4 44 (10000000)) (List.mem_of_getElem? (i := 1) rfl)
  have hw2 := hts (.constant RX4 73 (100000000)) (List.mem_of_getElem? (i := 2) rfl)
  have hw3 := hts (.fieldLink RX4 19 "PegBox" "kinds" "LPegBox$Kinds;") (List.mem_of_getElem? (i := 3) rfl)
  have hw4 := hts (.fieldLink RX4 74 "PegBox$Kinds" "leasts" "[I") (List.mem_of_getElem? (i := 4) rfl)
  have hw5 := hts (.fieldLink RX4 77 "PegBox$Kinds" "baskets" "[I") (List.mem_of_getElem? (i := 5) rfl)
  have hw6 := hts (.fieldLink RX4 80 "PegBox$Kinds" "wholes" "[Z") (List.mem_of_getElem? (i := 6) rfl)
  have hw7 := hts (.fieldLink RX4 84 "PegBox$Kinds" "caps" "[I") (List.mem_of_getElem? (i := 7) rfl)
  have hw8 := hts (.fieldLink RX4 87 "PegBox$Kinds" "lastDays" "[I") (List.mem_of_getElem? (i := 8) rfl)
  refine lv_iload_n hx hb dX4_setKind_0 rfl (lv_at hl 1 rfl) ?_
  refine lv_iconst (v := 3) hx hb dX4_setKind_1 (by decide) ?_
  rcases Bool.eq_false_or_eq_true (pg_nb k 3) with c_2 | c_2
  · refine pg_vU (pg_rS (As := [.int k, .int 3]) (rest := []) ⟨hx, hb, hml, hown, hts⟩ (cc_num_ok l D (pg_ty cI cZ) (pg_wB cI cZ a u) s.heap.size k 3 c_2) (va_cwS 2 hts gX4_setKind_X4_checkNumber rfl rfl rfl (by decide +kernel) ⟨Nat.le_of_ble_eq_true rfl, Nat.le_of_ble_eq_true rfl⟩) hK hP hD rfl hl.1 rfl (Nat.le_of_ble_eq_true rfl) dX4_setKind_2 ⟨Nat.le_of_ble_eq_true rfl, Nat.le_of_ble_eq_true rfl⟩) hD hS hA (fun H locs hP hD hS => ?_)
    obtain ⟨j, hj, rfl⟩ := pg_nb_nI (n := 3) (by omega) c_2
    have hcl : (nI j).toNatClampNeg = j := nI_clamp (by omega)
    refine lv_iload_n hx hb dX4_setKind_5 rfl (lv_at hl 2 rfl) ?_
    refine lv_iconst (v := 0) hx hb dX4_setKind_6 (by decide) ?_
    refine lv_ldc hx hb hown hw1 dX4_setKind_7 ?_
    rcases Bool.eq_false_or_eq_true (pg_in x 0 10000000) with c_9 | c_9
    · refine pg_vU (pg_rS (As := [.int x, .int 0, .int 10000000]) (rest := []) ⟨hx, hb, hml, hown, hts⟩ (cc_rng_ok l D (pg_ty cI cZ) (pg_wB cI cZ a u) H.size x 0 10000000 c_9) (va_cwS 3 hts gX4_setKind_X4_checkRange rfl rfl rfl (by decide +kernel) ⟨Nat.le_of_ble_eq_true rfl, Nat.le_of_ble_eq_true rfl⟩) hK hP hD rfl hl.1 rfl (Nat.le_of_ble_eq_true rfl) dX4_setKind_9 ⟨Nat.le_of_ble_eq_true rfl, Nat.le_of_ble_eq_true rfl⟩) hD hS hA (fun H locs hP hD hS => ?_)
      refine lv_iload_n hx hb dX4_setKind_12 rfl (lv_at hl 3 rfl) ?_
      refine lv_iconst (v := 0) hx hb dX4_setKind_13 (by decide) ?_
      refine lv_ldc hx hb hown hw1 dX4_setKind_14 ?_
      rcases Bool.eq_false_or_eq_true (pg_in y1 0 10000000) with c_16 | c_16
      · refine pg_vU (pg_rS (As := [.int y1, .int 0, .int 10000000]) (rest := []) ⟨hx, hb, hml, hown, hts⟩ (cc_rng_ok l D (pg_ty cI cZ) (pg_wB cI cZ a u) H.size y1 0 10000000 c_16) (va_cwS 3 hts gX4_setKind_X4_checkRange rfl rfl rfl (by decide +kernel) ⟨Nat.le_of_ble_eq_true rfl, Nat.le_of_ble_eq_true rfl⟩) hK hP hD rfl hl.1 rfl (Nat.le_of_ble_eq_true rfl) dX4_setKind_16 ⟨Nat.le_of_ble_eq_true rfl, Nat.le_of_ble_eq_true rfl⟩) hD hS hA (fun H locs hP hD hS => ?_)
        refine lv_iload hx hb dX4_setKind_19 (lv_at hl 5 rfl) ?_
        refine lv_iconst (v := 0) hx hb dX4_setKind_21 (by decide) ?_
        refine lv_ldc hx hb hown hw2 dX4_setKind_22 ?_
        rcases Bool.eq_false_or_eq_true (pg_in z 0 100000000) with c_24 | c_24
        · refine pg_vU (pg_rS (As := [.int z, .int 0, .int 100000000]) (rest := []) ⟨hx, hb, hml, hown, hts⟩ (cc_rng_ok l D (pg_ty cI cZ) (pg_wB cI cZ a u) H.size z 0 100000000 c_24) (va_cwS 3 hts gX4_setKind_X4_checkRange rfl rfl rfl (by decide +kernel) ⟨Nat.le_of_ble_eq_true rfl, Nat.le_of_ble_eq_true rfl⟩) hK hP hD rfl hl.1 rfl (Nat.le_of_ble_eq_true rfl) dX4_setKind_24 ⟨Nat.le_of_ble_eq_true rfl, Nat.le_of_ble_eq_true rfl⟩) hD hS hA (fun H locs hP hD hS => ?_)
          refine lv_iload hx hb dX4_setKind_27 (lv_at hl 6 rfl) ?_
          refine lv_iconst (v := 0) hx hb dX4_setKind_29 (by decide) ?_
          refine lv_sipush (v := 2000) hx hb dX4_setKind_30 (by decide) ?_
          rcases Bool.eq_false_or_eq_true (pg_in d 0 2000) with c_33 | c_33
          · refine pg_vU (pg_rS (As := [.int d, .int 0, .int 2000]) (rest := []) ⟨hx, hb, hml, hown, hts⟩ (cc_rng_ok l D (pg_ty cI cZ) (pg_wB cI cZ a u) H.size d 0 2000 c_33) (va_cwS 3 hts gX4_setKind_X4_checkRange rfl rfl rfl (by decide +kernel) ⟨Nat.le_of_ble_eq_true rfl, Nat.le_of_ble_eq_true rfl⟩) hK hP hD rfl hl.1 rfl (Nat.le_of_ble_eq_true rfl) dX4_setKind_33 ⟨Nat.le_of_ble_eq_true rfl, Nat.le_of_ble_eq_true rfl⟩) hD hS hA (fun H locs hP hD hS => ?_)
            refine lv_aload_n hx hb dX4_setKind_36 rfl (lv_at hl 0 rfl) ?_
            rcases Bool.eq_false_or_eq_true (pg_eq (u.1 3) (-1)) with c_37 | c_37
            · refine pg_vE (pg_rV (As := []) (rest := []) ⟨hx, hb, hml, hown, hts⟩ (cc_ncl_ok l D cI cZ a H.size u c_37) (cwV 0 hts gX4_setKind_X4_checkNotClosed rfl rfl rfl (by decide +kernel) ⟨Nat.le_of_ble_eq_true rfl, Nat.le_of_ble_eq_true rfl⟩) hK hP hD 0 (ci := 4) rfl rfl rfl rfl hl.1 rfl (Nat.le_of_ble_eq_true rfl) dX4_setKind_37 ⟨Nat.le_of_ble_eq_true rfl, Nat.le_of_ble_eq_true rfl⟩) hD hS hA (fun H locs hP hD hS => ?_)
              refine lv_aload_n hx hb dX4_setKind_40 rfl (lv_at hl 0 rfl) ?_
              refine va_get (D := D) (ci := 4) (v := .ref (a 2)) (C := RX4) (T := TX4) (N := 14) hx hb hts hiX4 hown hK hP 0 rfl rfl 1 (by decide) hw3 (fun _ h9 => h9) rfl dX4_setKind_41 ?_
              refine va_get (D := D) (ci := 3) (v := .ref (a 7)) (C := RX3) (T := TX3) (N := 5) hx hb hts hiX3 hown hK hP 2 rfl rfl 0 (by decide) hw4 (fun _ h9 => h9) rfl dX4_setKind_44 ?_
              refine lv_iload_n hx hb dX4_setKind_47 rfl (lv_at hl 1 rfl) ?_
              refine lv_iload_n hx hb dX4_setKind_48 rfl (lv_at hl 2 rfl) ?_
              refine pg_ist hx hb hK hP hD hS 7 0 rfl rfl (show j < _ by omega) (by decide) dX4_setKind_49 (fun H locs hP hD hS => ?_)
              have hP : va_P D vwCl (pg_wB cI cZ a (u.1, (pg_row u.2 2 (upd (u.2 2) j x)))) H := hP
              have hD : va_D A (pg_wB cI cZ a (u.1, (pg_row u.2 2 (upd (u.2 2) j x)))) := hD
              refine lv_aload_n hx hb dX4_setKind_50 rfl (lv_at hl 0 rfl) ?_
              refine va_get (D := D) (ci := 4) (v := .ref (a 2)) (C := RX4) (T := TX4) (N := 14) hx hb hts hiX4 hown hK hP 0 rfl rfl 1 (by decide) hw3 (fun _ h9 => h9) rfl dX4_setKind_51 ?_
              refine va_get (D := D) (ci := 3) (v := .ref (a 8)) (C := RX3) (T := TX3) (N := 5) hx hb hts hiX3 hown hK hP 2 rfl rfl 1 (by decide) hw5 (fun _ h9 => h9) rfl dX4_setKind_54 ?_
              refine lv_iload_n hx hb dX4_setKind_57 rfl (lv_at hl 1 rfl) ?_
              refine lv_iload_n hx hb dX4_setKind_58 rfl (lv_at hl 3 rfl) ?_
              refine pg_ist hx hb hK hP hD hS 8 0 rfl rfl (show j < _ by omega) (by decide) dX4_setKind_59 (fun H locs hP hD hS => ?_)
              have hP : va_P D vwCl (pg_wB cI cZ a (u.1, (pg_row (pg_row u.2 2 (upd (u.2 2) j x)) 3 (upd (u.2 3) j y1)))) H := hP
              have hD : va_D A (pg_wB cI cZ a (u.1, (pg_row (pg_row u.2 2 (upd (u.2 2) j x)) 3 (upd (u.2 3) j y1)))) := hD
              refine lv_aload_n hx hb dX4_setKind_60 rfl (lv_at hl 0 rfl) ?_
              refine va_get (D := D) (ci := 4) (v := .ref (a 2)) (C := RX4) (T := TX4) (N := 14) hx hb hts hiX4 hown hK hP 0 rfl rfl 1 (by decide) hw3 (fun _ h9 => h9) rfl dX4_setKind_61 ?_
              refine va_get (D := D) (ci := 3) (v := .ref (a 9)) (C := RX3) (T := TX3) (N := 5) hx hb hts hiX3 hown hK hP 2 rfl rfl 2 (by decide) hw6 (fun _ h9 => h9) rfl dX4_setKind_64 ?_
              refine lv_iload_n hx hb dX4_setKind_67 rfl (lv_at hl 1 rfl) ?_
              refine lv_iload hx hb dX4_setKind_68 (lv_at hl 4 rfl) ?_
              refine pg_zst hx hb hK hP hD hS 9 1 rfl rfl (show j < _ by omega) (by decide) hb9 dX4_setKind_70 (fun H locs hP hD hS => ?_)
              have hP : va_P D vwCl (pg_wB cI cZ a (u.1, (pg_row (pg_row (pg_row u.2 2 (upd (u.2 2) j x)) 3 (upd (u.2 3) j y1)) 4 (upd (u.2 4) j b)))) H := hP
              have hD : va_D A (pg_wB cI cZ a (u.1, (pg_row (pg_row (pg_row u.2 2 (upd (u.2 2) j x)) 3 (upd (u.2 3) j y1)) 4 (upd (u.2 4) j b)))) := hD
              refine lv_aload_n hx hb dX4_setKind_71 rfl (lv_at hl 0 rfl) ?_
              refine va_get (D := D) (ci := 4) (v := .ref (a 2)) (C := RX4) (T := TX4) (N := 14) hx hb hts hiX4 hown hK hP 0 rfl rfl 1 (by decide) hw3 (fun _ h9 => h9) rfl dX4_setKind_72 ?_
              refine va_get (D := D) (ci := 3) (v := .ref (a 10)) (C := RX3) (T := TX3) (N := 5) hx hb hts hiX3 hown hK hP 2 rfl rfl 3 (by decide) hw7 (fun _ h9 => h9) rfl dX4_setKind_75 ?_
              refine lv_iload_n hx hb dX4_setKind_78 rfl (lv_at hl 1 rfl) ?_
              refine lv_iload hx hb dX4_setKind_79 (lv_at hl 5 rfl) ?_
              refine pg_ist hx hb hK hP hD hS 10 0 rfl rfl (show j < _ by omega) (by decide) dX4_setKind_81 (fun H locs hP hD hS => ?_)
              have hP : va_P D vwCl (pg_wB cI cZ a (u.1, (pg_row (pg_row (pg_row (pg_row u.2 2 (upd (u.2 2) j x)) 3 (upd (u.2 3) j y1)) 4 (upd (u.2 4) j b)) 5 (upd (u.2 5) j z)))) H := hP
              have hD : va_D A (pg_wB cI cZ a (u.1, (pg_row (pg_row (pg_row (pg_row u.2 2 (upd (u.2 2) j x)) 3 (upd (u.2 3) j y1)) 4 (upd (u.2 4) j b)) 5 (upd (u.2 5) j z)))) := hD
              refine lv_aload_n hx hb dX4_setKind_82 rfl (lv_at hl 0 rfl) ?_
              refine va_get (D := D) (ci := 4) (v := .ref (a 2)) (C := RX4) (T := TX4) (N := 14) hx hb hts hiX4 hown hK hP 0 rfl rfl 1 (by decide) hw3 (fun _ h9 => h9) rfl dX4_setKind_83 ?_
              refine va_get (D := D) (ci := 3) (v := .ref (a 11)) (C := RX3) (T := TX3) (N := 5) hx hb hts hiX3 hown hK hP 2 rfl rfl 4 (by decide) hw8 (fun _ h9 => h9) rfl dX4_setKind_86 ?_
              refine lv_iload_n hx hb dX4_setKind_89 rfl (lv_at hl 1 rfl) ?_
              refine lv_iload hx hb dX4_setKind_90 (lv_at hl 6 rfl) ?_
              refine pg_ist hx hb hK hP hD hS 11 0 rfl rfl (show j < _ by omega) (by decide) dX4_setKind_92 (fun H locs hP hD hS => ?_)
              have hP : va_P D vwCl (pg_wB cI cZ a (u.1, (pg_row (pg_row (pg_row (pg_row (pg_row u.2 2 (upd (u.2 2) j x)) 3 (upd (u.2 3) j y1)) 4 (upd (u.2 4) j b)) 5 (upd (u.2 5) j z)) 6 (upd (u.2 6) j d)))) H := hP
              have hD : va_D A (pg_wB cI cZ a (u.1, (pg_row (pg_row (pg_row (pg_row (pg_row u.2 2 (upd (u.2 2) j x)) 3 (upd (u.2 3) j y1)) 4 (upd (u.2 4) j b)) 5 (upd (u.2 5) j z)) 6 (upd (u.2 6) j d)))) := hD
              exact W.vret hx hb hr (fun t9 ht9 hW9 => ⟨⟨(u.1, (pg_row (pg_row (pg_row (pg_row (pg_row u.2 2 (upd (u.2 2) j x)) 3 (upd (u.2 3) j y1)) 4 (upd (u.2 4) j b)) 5 (upd (u.2 5) j z)) 6 (upd (u.2 6) j d))), rfl, (by rw [hcl]), by rw [ht9]; exact hP, va_K.moved hW9.alike hK, hD⟩, hS.F ht9⟩) hS.2.2 dX4_setKind_93
            · exact absurd hthr (by first | (simp only [pg_t_setKind, c_2, hcl, c_9, c_16, c_24, c_33, c_37, cond_true, cond_false, Bool.not_true, Bool.not_false]; done) | (simp only [pg_t_setKind, c_2, hcl, c_9, c_16, c_24, c_33, c_37, cond_true, cond_false, Bool.not_true, Bool.not_false]; decide))
          · exact absurd hthr (by first | (simp only [pg_t_setKind, c_2, hcl, c_9, c_16, c_24, c_33, cond_true, cond_false, Bool.not_true, Bool.not_false]; done) | (simp only [pg_t_setKind, c_2, hcl, c_9, c_16, c_24, c_33, cond_true, cond_false, Bool.not_true, Bool.not_false]; decide))
        · exact absurd hthr (by first | (simp only [pg_t_setKind, c_2, hcl, c_9, c_16, c_24, cond_true, cond_false, Bool.not_true, Bool.not_false]; done) | (simp only [pg_t_setKind, c_2, hcl, c_9, c_16, c_24, cond_true, cond_false, Bool.not_true, Bool.not_false]; decide))
      · exact absurd hthr (by first | (simp only [pg_t_setKind, c_2, hcl, c_9, c_16, cond_true, cond_false, Bool.not_true, Bool.not_false]; done) | (simp only [pg_t_setKind, c_2, hcl, c_9, c_16, cond_true, cond_false, Bool.not_true, Bool.not_false]; decide))
    · exact absurd hthr (by first | (simp only [pg_t_setKind, c_2, hcl, c_9, cond_true, cond_false, Bool.not_true, Bool.not_false]; done) | (simp only [pg_t_setKind, c_2, hcl, c_9, cond_true, cond_false, Bool.not_true, Bool.not_false]; decide))
  · exact absurd hthr (by first | (simp only [pg_t_setKind, c_2, cond_true, cond_false, Bool.not_true, Bool.not_false]; done) | (simp only [pg_t_setKind, c_2, cond_true, cond_false, Bool.not_true, Bool.not_false]; decide))
set_option maxHeartbeats 4000000 in
set_option maxRecDepth 100000 in
/-- cc_setKind: throws -/
theorem cc_setKind_no (l : Launch) (hfl : l.stackTraces = false) (D : va_G) (cI cZ : ClassId) (a : Nat → Nat) (sz : Nat) (u : pg_St) (k x y1 b z d : Int32) (hb9 : vp_nar .boolean b = b) (e9 : Int32) (nm : String) (hthr : pg_t_setKind (!pg_eq (u.1 3) (-1)) k x y1 z d = e9) (h0 : e9 ≠ 0) (h9_1 : e9 = 1 → nm = pg_io) (h9_2 : e9 = 2 → nm = pg_ia) (h9_3 : e9 = 3 → nm = pg_is) : vx_Met l yX4_setKind wsX4_setKind ({ frames := 7, cells := 1, slots := 6, locals := 108 }) (va_Pc [.ref (a 0), .int k, .int x, .int y1, .int b, .int z, .int d] (pg_T D (pg_ty cI cZ) (pg_wB cI cZ a u) sz)) pg_No (pg_X D (pg_wB cI cZ a u) (va_A (pg_wB cI cZ a u) sz) nm) 1 6 (va_A (pg_wB cI cZ a u) sz) := by
  refine vx_ofW (cc := cX4_setKind) (maxL := 7) (ret := none) (by decide) rfl ?_
  intro p e s m args below meth c s₁ B hml hout hv
  obtain ⟨rfl, ⟨hsz, hP, hK, hD0⟩, hE⟩ := hv
  have hx := B.exec
  have hb := B.bytes
  have hr := B.returns
  have hts := atoms_spec (ws := wsX4_setKind) B.pre
  have hown : s.vm.findClass RX4 = some m.cls := findClass_of_methodNamed B.named
  have hlocks := B.notSynchronized
  subst hsz
  have hD := hD0.self (sz := s.heap.size)
  generalize hAe : va_A (pg_wB cI cZ a u) s.heap.size = A at hD hE ⊢
  have hA : ∀ q : Nat, s.heap.size ≤ q → A q := fun q h => by rw [← hAe]; exact Or.inr h
  have hS : va_S A s.heap s.heap [] := va_S.rf
  have hl := lv_entry ([.ref (a 0), .int k, .int x, .int y1, .int b, .int z, .int d]) (n := 7) (Nat.le_of_ble_eq_true rfl)
  rw [lg_entry_eq]
  generalize (lg_sl ([.ref (a 0), .int k, .int x, .int y1, .int b, .int z, .int d]) ++ List.replicate (7 - (lg_sl ([.ref (a 0), .int k, .int x, .int y1, .int b, .int z, .int d])).length) Slot.unset).toArray = ls at hl ⊢
  have hl : lv_has ls 7 [(0, .ref (a 0)), (1, .int k), (2, .int x), (3, .int y1), (4, .int b), (5, .int z), (6, .int d)] := hl
  have hw1 := hts (.constant RX4 44 (10000000)) (List.mem_of_getElem? (i := 1) rfl)
  have hw2 := hts (.constant RX4 73 (100000000)) (List.mem_of_getElem? (i := 2) rfl)
  refine lv_iload_n hx hb dX4_setKind_0 rfl (lv_at hl 1 rfl) ?_
  refine lv_iconst (v := 3) hx hb dX4_setKind_1 (by decide) ?_
  rcases Bool.eq_false_or_eq_true (pg_nb k 3) with c_2 | c_2
  · refine pg_vU (pg_rS (As := [.int k, .int 3]) (rest := []) ⟨hx, hb, hml, hown, hts⟩ (cc_num_ok l D (pg_ty cI cZ) (pg_wB cI cZ a u) s.heap.size k 3 c_2) (va_cwS 2 hts gX4_setKind_X4_checkNumber rfl rfl rfl (by decide +kernel) ⟨Nat.le_of_ble_eq_true rfl, Nat.le_of_ble_eq_true rfl⟩) hK hP hD rfl hl.1 rfl (Nat.le_of_ble_eq_true rfl) dX4_setKind_2 ⟨Nat.le_of_ble_eq_true rfl, Nat.le_of_ble_eq_true rfl⟩) hD hS hA (fun H locs hP hD hS => ?_)
    obtain ⟨j, hj, rfl⟩ := pg_nb_nI (n := 3) (by omega) c_2
    have hcl : (nI j).toNatClampNeg = j := nI_clamp (by omega)
    refine lv_iload_n hx hb dX4_setKind_5 rfl (lv_at hl 2 rfl) ?_
    refine lv_iconst (v := 0) hx hb dX4_setKind_6 (by decide) ?_
    refine lv_ldc hx hb hown hw1 dX4_setKind_7 ?_
    rcases Bool.eq_false_or_eq_true (pg_in x 0 10000000) with c_9 | c_9
    · refine pg_vU (pg_rS (As := [.int x, .int 0, .int 10000000]) (rest := []) ⟨hx, hb, hml, hown, hts⟩ (cc_rng_ok l D (pg_ty cI cZ) (pg_wB cI cZ a u) H.size x 0 10000000 c_9) (va_cwS 3 hts gX4_setKind_X4_checkRange rfl rfl rfl (by decide +kernel) ⟨Nat.le_of_ble_eq_true rfl, Nat.le_of_ble_eq_true rfl⟩) hK hP hD rfl hl.1 rfl (Nat.le_of_ble_eq_true rfl) dX4_setKind_9 ⟨Nat.le_of_ble_eq_true rfl, Nat.le_of_ble_eq_true rfl⟩) hD hS hA (fun H locs hP hD hS => ?_)
      refine lv_iload_n hx hb dX4_setKind_12 rfl (lv_at hl 3 rfl) ?_
      refine lv_iconst (v := 0) hx hb dX4_setKind_13 (by decide) ?_
      refine lv_ldc hx hb hown hw1 dX4_setKind_14 ?_
      rcases Bool.eq_false_or_eq_true (pg_in y1 0 10000000) with c_16 | c_16
      · refine pg_vU (pg_rS (As := [.int y1, .int 0, .int 10000000]) (rest := []) ⟨hx, hb, hml, hown, hts⟩ (cc_rng_ok l D (pg_ty cI cZ) (pg_wB cI cZ a u) H.size y1 0 10000000 c_16) (va_cwS 3 hts gX4_setKind_X4_checkRange rfl rfl rfl (by decide +kernel) ⟨Nat.le_of_ble_eq_true rfl, Nat.le_of_ble_eq_true rfl⟩) hK hP hD rfl hl.1 rfl (Nat.le_of_ble_eq_true rfl) dX4_setKind_16 ⟨Nat.le_of_ble_eq_true rfl, Nat.le_of_ble_eq_true rfl⟩) hD hS hA (fun H locs hP hD hS => ?_)
        refine lv_iload hx hb dX4_setKind_19 (lv_at hl 5 rfl) ?_
        refine lv_iconst (v := 0) hx hb dX4_setKind_21 (by decide) ?_
        refine lv_ldc hx hb hown hw2 dX4_setKind_22 ?_
        rcases Bool.eq_false_or_eq_true (pg_in z 0 100000000) with c_24 | c_24
        · refine pg_vU (pg_rS (As := [.int z, .int 0, .int 100000000]) (rest := []) ⟨hx, hb, hml, hown, hts⟩ (cc_rng_ok l D (pg_ty cI cZ) (pg_wB cI cZ a u) H.size z 0 100000000 c_24) (va_cwS 3 hts gX4_setKind_X4_checkRange rfl rfl rfl (by decide +kernel) ⟨Nat.le_of_ble_eq_true rfl, Nat.le_of_ble_eq_true rfl⟩) hK hP hD rfl hl.1 rfl (Nat.le_of_ble_eq_true rfl) dX4_setKind_24 ⟨Nat.le_of_ble_eq_true rfl, Nat.le_of_ble_eq_true rfl⟩) hD hS hA (fun H locs hP hD hS => ?_)
          refine lv_iload hx hb dX4_setKind_27 (lv_at hl 6 rfl) ?_
          refine lv_iconst (v := 0) hx hb dX4_setKind_29 (by decide) ?_
          refine lv_sipush (v := 2000) hx hb dX4_setKind_30 (by decide) ?_
          rcases Bool.eq_false_or_eq_true (pg_in d 0 2000) with c_33 | c_33
          · refine pg_vU (pg_rS (As := [.int d, .int 0, .int 2000]) (rest := []) ⟨hx, hb, hml, hown, hts⟩ (cc_rng_ok l D (pg_ty cI cZ) (pg_wB cI cZ a u) H.size d 0 2000 c_33) (va_cwS 3 hts gX4_setKind_X4_checkRange rfl rfl rfl (by decide +kernel) ⟨Nat.le_of_ble_eq_true rfl, Nat.le_of_ble_eq_true rfl⟩) hK hP hD rfl hl.1 rfl (Nat.le_of_ble_eq_true rfl) dX4_setKind_33 ⟨Nat.le_of_ble_eq_true rfl, Nat.le_of_ble_eq_true rfl⟩) hD hS hA (fun H locs hP hD hS => ?_)
            refine lv_aload_n hx hb dX4_setKind_36 rfl (lv_at hl 0 rfl) ?_
            rcases Bool.eq_false_or_eq_true (pg_eq (u.1 3) (-1)) with c_37 | c_37
            · exact absurd (hthr.symm.trans (by simp only [pg_t_setKind, c_2, hcl, c_9, c_16, c_24, c_33, c_37, cond_true, cond_false, Bool.not_true, Bool.not_false])) h0
            · have he : e9 = 3 := hthr.symm.trans (by simp only [pg_t_setKind, c_2, hcl, c_9, c_16, c_24, c_33, c_37, cond_true, cond_false, Bool.not_true, Bool.not_false])
              obtain rfl := h9_3 he
              exact pg_thru (pg_xV (As := []) (rest := []) ⟨hx, hb, hml, hown, hts⟩ (cc_ncl_no l hfl D cI cZ a H.size u c_37) (cwV 0 hts gX4_setKind_X4_checkNotClosed rfl rfl rfl (by decide +kernel) ⟨Nat.le_of_ble_eq_true rfl, Nat.le_of_ble_eq_true rfl⟩) hK hP hD hS hA hE 0 (ci := 4) rfl rfl rfl rfl hl.1 rfl (Nat.le_of_ble_eq_true rfl) dX4_setKind_37 ⟨Nat.le_of_ble_eq_true rfl, Nat.le_of_ble_eq_true rfl⟩) hD hS hA hout hlocks (Nat.le_of_ble_eq_true rfl) (Nat.le_of_ble_eq_true rfl)
          · have he : e9 = 2 := hthr.symm.trans (by simp only [pg_t_setKind, c_2, hcl, c_9, c_16, c_24, c_33, cond_true, cond_false, Bool.not_true, Bool.not_false])
            obtain rfl := h9_2 he
            exact pg_thru (pg_xS (As := [.int d, .int 0, .int 2000]) (rest := []) ⟨hx, hb, hml, hown, hts⟩ (cc_rng_no l hfl D (pg_ty cI cZ) (pg_wB cI cZ a u) H.size d 0 2000 c_33) (va_cwS 3 hts gX4_setKind_X4_checkRange rfl rfl rfl (by decide +kernel) ⟨Nat.le_of_ble_eq_true rfl, Nat.le_of_ble_eq_true rfl⟩) hK hP hD hS hA hE rfl hl.1 rfl (Nat.le_of_ble_eq_true rfl) dX4_setKind_33 ⟨Nat.le_of_ble_eq_true rfl, Nat.le_of_ble_eq_true rfl⟩) hD hS hA hout hlocks (Nat.le_of_ble_eq_true rfl) (Nat.le_of_ble_eq_true rfl)
        · have he : e9 = 2 := hthr.symm.trans (by simp only [pg_t_setKind, c_2, hcl, c_9, c_16, c_24, cond_true, cond_false, Bool.not_true, Bool.not_false])
          obtain rfl := h9_2 he
          exact pg_thru (pg_xS (As := [.int z, .int 0, .int 100000000]) (rest := []) ⟨hx, hb, hml, hown, hts⟩ (cc_rng_no l hfl D (pg_ty cI cZ) (pg_wB cI cZ a u) H.size z 0 100000000 c_24) (va_cwS 3 hts gX4_setKind_X4_checkRange rfl rfl rfl (by decide +kernel) ⟨Nat.le_of_ble_eq_true rfl, Nat.le_of_ble_eq_true rfl⟩) hK hP hD hS hA hE rfl hl.1 rfl (Nat.le_of_ble_eq_true rfl) dX4_setKind_24 ⟨Nat.le_of_ble_eq_true rfl, Nat.le_of_ble_eq_true rfl⟩) hD hS hA hout hlocks (Nat.le_of_ble_eq_true rfl) (Nat.le_of_ble_eq_true rfl)
      · have he : e9 = 2 := hthr.symm.trans (by simp only [pg_t_setKind, c_2, hcl, c_9, c_16, cond_true, cond_false, Bool.not_true, Bool.not_false])
        obtain rfl := h9_2 he
        exact pg_thru (pg_xS (As := [.int y1, .int 0, .int 10000000]) (rest := []) ⟨hx, hb, hml, hown, hts⟩ (cc_rng_no l hfl D (pg_ty cI cZ) (pg_wB cI cZ a u) H.size y1 0 10000000 c_16) (va_cwS 3 hts gX4_setKind_X4_checkRange rfl rfl rfl (by decide +kernel) ⟨Nat.le_of_ble_eq_true rfl, Nat.le_of_ble_eq_true rfl⟩) hK hP hD hS hA hE rfl hl.1 rfl (Nat.le_of_ble_eq_true rfl) dX4_setKind_16 ⟨Nat.le_of_ble_eq_true rfl, Nat.le_of_ble_eq_true rfl⟩) hD hS hA hout hlocks (Nat.le_of_ble_eq_true rfl) (Nat.le_of_ble_eq_true rfl)
    · have he : e9 = 2 := hthr.symm.trans (by simp only [pg_t_setKind, c_2, hcl, c_9, cond_true, cond_false, Bool.not_true, Bool.not_false])
      obtain rfl := h9_2 he
      exact pg_thru (pg_xS (As := [.int x, .int 0, .int 10000000]) (rest := []) ⟨hx, hb, hml, hown, hts⟩ (cc_rng_no l hfl D (pg_ty cI cZ) (pg_wB cI cZ a u) H.size x 0 10000000 c_9) (va_cwS 3 hts gX4_setKind_X4_checkRange rfl rfl rfl (by decide +kernel) ⟨Nat.le_of_ble_eq_true rfl, Nat.le_of_ble_eq_true rfl⟩) hK hP hD hS hA hE rfl hl.1 rfl (Nat.le_of_ble_eq_true rfl) dX4_setKind_9 ⟨Nat.le_of_ble_eq_true rfl, Nat.le_of_ble_eq_true rfl⟩) hD hS hA hout hlocks (Nat.le_of_ble_eq_true rfl) (Nat.le_of_ble_eq_true rfl)
  · have he : e9 = 1 := hthr.symm.trans (by simp only [pg_t_setKind, c_2, cond_true, cond_false, Bool.not_true, Bool.not_false])
    obtain rfl := h9_1 he
    exact pg_thru (pg_xS (As := [.int k, .int 3]) (rest := []) ⟨hx, hb, hml, hown, hts⟩ (cc_num_no l hfl D (pg_ty cI cZ) (pg_wB cI cZ a u) s.heap.size k 3 c_2) (va_cwS 2 hts gX4_setKind_X4_checkNumber rfl rfl rfl (by decide +kernel) ⟨Nat.le_of_ble_eq_true rfl, Nat.le_of_ble_eq_true rfl⟩) hK hP hD hS hA hE rfl hl.1 rfl (Nat.le_of_ble_eq_true rfl) dX4_setKind_2 ⟨Nat.le_of_ble_eq_true rfl, Nat.le_of_ble_eq_true rfl⟩) hD hS hA hout hlocks (Nat.le_of_ble_eq_true rfl) (Nat.le_of_ble_eq_true rfl)
set_option maxHeartbeats 4000000 in
set_option maxRecDepth 100000 in
/-- cc_setYear: returns -/
theorem cc_setYear_ok (l : Launch) (D : va_G) (cI cZ : ClassId) (a : Nat → Nat) (sz : Nat) (u : pg_St) (k x d : Int32) (hthr : pg_t_setYear (!pg_eq (u.1 3) (-1)) k x d = 0) : Met l yX4_setYear wsX4_setYear ({ frames := 1, cells := 0, slots := 0, locals := 22 }) (va_Pc [.ref (a 0), .int k, .int x, .int d] (pg_B D (pg_ty cI cZ) (pg_wB cI cZ a u) sz)) (va_Qv (fun u' => u' = (u.1, pg_row (pg_row u.2 11 (upd (u.2 11) k.toNatClampNeg x)) 12 (upd (u.2 12) k.toNatClampNeg d))) (pg_E D (pg_ty cI cZ) (va_A (pg_wB cI cZ a u) sz) (pg_wB cI cZ a)) (va_A (pg_wB cI cZ a u) sz)) 0 0 (va_A (pg_wB cI cZ a u) sz) := by
  refine Met.ofW (cc := cX4_setYear) (maxL := 4) (ret := none) (by decide) rfl ?_
  intro p e s m args below meth c s₁ B hml hv
  obtain ⟨rfl, hsz, hP, hK, hD0⟩ := hv
  have hx := B.exec
  have hb := B.bytes
  have hr := B.returns
  have hts := atoms_spec (ws := wsX4_setYear) B.pre
  have hown : s.vm.findClass RX4 = some m.cls := findClass_of_methodNamed B.named
  have hlocks := B.notSynchronized
  subst hsz
  have hD := hD0.self (sz := s.heap.size)
  generalize hAe : va_A (pg_wB cI cZ a u) s.heap.size = A at hD ⊢
  have hA : ∀ q : Nat, s.heap.size ≤ q → A q := fun q h => by rw [← hAe]; exact Or.inr h
  have hS : va_S A s.heap s.heap [] := va_S.rf
  have hl := lv_entry ([.ref (a 0), .int k, .int x, .int d]) (n := 4) (Nat.le_of_ble_eq_true rfl)
  rw [lg_entry_eq]
  generalize (lg_sl ([.ref (a 0), .int k, .int x, .int d]) ++ List.replicate (4 - (lg_sl ([.ref (a 0), .int k, .int x, .int d])).length) Slot.unset).toArray = ls at hl ⊢
  have hl : lv_has ls 4 [(0, .ref (a 0)), (1, .int k), (2, .int x), (3, .int d)] := hl
  have hiX1 : ∀ w ∈ wsX10, w ∈ wsX4_setYear := fun _ h => List.mem_cons_of_mem _ (List.mem_append_left _ (List.mem_append_left _ (List.mem_append_left _ (List.mem_append_right _ (h)))))
  have hiX4 : ∀ w ∈ wsX40, w ∈ wsX4_setYear := fun _ h => List.mem_cons_of_mem _ (List.mem_append_left _ (List.mem_append_left _ (List.mem_append_left _ (List.mem_append_left _ (List.mem_append_right _ (h))))))
  have hw1 := hts (.constant RX4 44 (10000000)) (List.mem_of_getElem? (i := 1) rfl)
  have hw2 := hts (.fieldLink RX4 33 "PegBox" "earnOut" "LPegBox$EarnOut;") (List.mem_of_getElem? (i := 2) rfl)
  have hw3 := hts (.fieldLink RX4 90 "PegBox$EarnOut" "targets" "[I") (List.mem_of_getElem? (i := 3) rfl)
  have hw4 := hts (.fieldLink RX4 93 "PegBox$EarnOut" "amounts" "[I") (List.mem_of_getElem? (i := 4) rfl)
  refine lv_iload_n hx hb dX4_setYear_0 rfl (lv_at hl 1 rfl) ?_
  refine lv_iconst (v := 4) hx hb dX4_setYear_1 (by decide) ?_
  rcases Bool.eq_false_or_eq_true (pg_nb k 4) with c_2 | c_2
  · refine pg_vU (pg_rS (As := [.int k, .int 4]) (rest := []) ⟨hx, hb, hml, hown, hts⟩ (cc_num_ok l D (pg_ty cI cZ) (pg_wB cI cZ a u) s.heap.size k 4 c_2) (va_cwS 2 hts gX4_setYear_X4_checkNumber rfl rfl rfl (by decide +kernel) ⟨Nat.le_of_ble_eq_true rfl, Nat.le_of_ble_eq_true rfl⟩) hK hP hD rfl hl.1 rfl (Nat.le_of_ble_eq_true rfl) dX4_setYear_2 ⟨Nat.le_of_ble_eq_true rfl, Nat.le_of_ble_eq_true rfl⟩) hD hS hA (fun H locs hP hD hS => ?_)
    obtain ⟨j, hj, rfl⟩ := pg_nb_nI (n := 4) (by omega) c_2
    have hcl : (nI j).toNatClampNeg = j := nI_clamp (by omega)
    refine lv_iload_n hx hb dX4_setYear_5 rfl (lv_at hl 2 rfl) ?_
    refine lv_iconst (v := 0) hx hb dX4_setYear_6 (by decide) ?_
    refine lv_ldc hx hb hown hw1 dX4_setYear_7 ?_
    rcases Bool.eq_false_or_eq_true (pg_in x 0 10000000) with c_9 | c_9
    · refine pg_vU (pg_rS (As := [.int x, .int 0, .int 10000000]) (rest := []) ⟨hx, hb, hml, hown, hts⟩ (cc_rng_ok l D (pg_ty cI cZ) (pg_wB cI cZ a u) H.size x 0 10000000 c_9) (va_cwS 3 hts gX4_setYear_X4_checkRange rfl rfl rfl (by decide +kernel) ⟨Nat.le_of_ble_eq_true rfl, Nat.le_of_ble_eq_true rfl⟩) hK hP hD rfl hl.1 rfl (Nat.le_of_ble_eq_true rfl) dX4_setYear_9 ⟨Nat.le_of_ble_eq_true rfl, Nat.le_of_ble_eq_true rfl⟩) hD hS hA (fun H locs hP hD hS => ?_)
      refine lv_iload_n hx hb dX4_setYear_12 rfl (lv_at hl 3 rfl) ?_
      refine lv_iconst (v := 0) hx hb dX4_setYear_13 (by decide) ?_
      refine lv_ldc hx hb hown hw1 dX4_setYear_14 ?_
      rcases Bool.eq_false_or_eq_true (pg_in d 0 10000000) with c_16 | c_16
      · refine pg_vU (pg_rS (As := [.int d, .int 0, .int 10000000]) (rest := []) ⟨hx, hb, hml, hown, hts⟩ (cc_rng_ok l D (pg_ty cI cZ) (pg_wB cI cZ a u) H.size d 0 10000000 c_16) (va_cwS 3 hts gX4_setYear_X4_checkRange rfl rfl rfl (by decide +kernel) ⟨Nat.le_of_ble_eq_true rfl, Nat.le_of_ble_eq_true rfl⟩) hK hP hD rfl hl.1 rfl (Nat.le_of_ble_eq_true rfl) dX4_setYear_16 ⟨Nat.le_of_ble_eq_true rfl, Nat.le_of_ble_eq_true rfl⟩) hD hS hA (fun H locs hP hD hS => ?_)
        refine lv_aload_n hx hb dX4_setYear_19 rfl (lv_at hl 0 rfl) ?_
        rcases Bool.eq_false_or_eq_true (pg_eq (u.1 3) (-1)) with c_20 | c_20
        · refine pg_vE (pg_rV (As := []) (rest := []) ⟨hx, hb, hml, hown, hts⟩ (cc_ncl_ok l D cI cZ a H.size u c_20) (cwV 0 hts gX4_setYear_X4_checkNotClosed rfl rfl rfl (by decide +kernel) ⟨Nat.le_of_ble_eq_true rfl, Nat.le_of_ble_eq_true rfl⟩) hK hP hD 0 (ci := 4) rfl rfl rfl rfl hl.1 rfl (Nat.le_of_ble_eq_true rfl) dX4_setYear_20 ⟨Nat.le_of_ble_eq_true rfl, Nat.le_of_ble_eq_true rfl⟩) hD hS hA (fun H locs hP hD hS => ?_)
          refine lv_aload_n hx hb dX4_setYear_23 rfl (lv_at hl 0 rfl) ?_
          refine va_get (D := D) (ci := 4) (v := .ref (a 4)) (C := RX4) (T := TX4) (N := 14) hx hb hts hiX4 hown hK hP 0 rfl rfl 3 (by decide) hw2 (fun _ h9 => h9) rfl dX4_setYear_24 ?_
          refine va_get (D := D) (ci := 1) (v := .ref (a 16)) (C := RX1) (T := TX1) (N := 8) hx hb hts hiX1 hown hK hP 4 rfl rfl 0 (by decide) hw3 (fun _ h9 => h9) rfl dX4_setYear_27 ?_
          refine lv_iload_n hx hb dX4_setYear_30 rfl (lv_at hl 1 rfl) ?_
          refine lv_iload_n hx hb dX4_setYear_31 rfl (lv_at hl 2 rfl) ?_
          refine pg_ist hx hb hK hP hD hS 16 0 rfl rfl (show j < _ by omega) (by decide) dX4_setYear_32 (fun H locs hP hD hS => ?_)
          have hP : va_P D vwCl (pg_wB cI cZ a (u.1, (pg_row u.2 11 (upd (u.2 11) j x)))) H := hP
          have hD : va_D A (pg_wB cI cZ a (u.1, (pg_row u.2 11 (upd (u.2 11) j x)))) := hD
          refine lv_aload_n hx hb dX4_setYear_33 rfl (lv_at hl 0 rfl) ?_
          refine va_get (D := D) (ci := 4) (v := .ref (a 4)) (C := RX4) (T := TX4) (N := 14) hx hb hts hiX4 hown hK hP 0 rfl rfl 3 (by decide) hw2 (fun _ h9 => h9) rfl dX4_setYear_34 ?_
          refine va_get (D := D) (ci := 1) (v := .ref (a 17)) (C := RX1) (T := TX1) (N := 8) hx hb hts hiX1 hown hK hP 4 rfl rfl 1 (by decide) hw4 (fun _ h9 => h9) rfl dX4_setYear_37 ?_
          refine lv_iload_n hx hb dX4_setYear_40 rfl (lv_at hl 1 rfl) ?_
          refine lv_iload_n hx hb dX4_setYear_41 rfl (lv_at hl 3 rfl) ?_
          refine pg_ist hx hb hK hP hD hS 17 0 rfl rfl (show j < _ by omega) (by decide) dX4_setYear_42 (fun H locs hP hD hS => ?_)
          have hP : va_P D vwCl (pg_wB cI cZ a (u.1, (pg_row (pg_row u.2 11 (upd (u.2 11) j x)) 12 (upd (u.2 12) j d)))) H := hP
          have hD : va_D A (pg_wB cI cZ a (u.1, (pg_row (pg_row u.2 11 (upd (u.2 11) j x)) 12 (upd (u.2 12) j d)))) := hD
          exact W.vret hx hb hr (fun t9 ht9 hW9 => ⟨⟨(u.1, (pg_row (pg_row u.2 11 (upd (u.2 11) j x)) 12 (upd (u.2 12) j d))), rfl, (by rw [hcl]), by rw [ht9]; exact hP, va_K.moved hW9.alike hK, hD⟩, hS.F ht9⟩) hS.2.2 dX4_setYear_43
        · exact absurd hthr (by first | (simp only [pg_t_setYear, c_2, hcl, c_9, c_16, c_20, cond_true, cond_false, Bool.not_true, Bool.not_false]; done) | (simp only [pg_t_setYear, c_2, hcl, c_9, c_16, c_20, cond_true, cond_false, Bool.not_true, Bool.not_false]; decide))
      · exact absurd hthr (by first | (simp only [pg_t_setYear, c_2, hcl, c_9, c_16, cond_true, cond_false, Bool.not_true, Bool.not_false]; done) | (simp only [pg_t_setYear, c_2, hcl, c_9, c_16, cond_true, cond_false, Bool.not_true, Bool.not_false]; decide))
    · exact absurd hthr (by first | (simp only [pg_t_setYear, c_2, hcl, c_9, cond_true, cond_false, Bool.not_true, Bool.not_false]; done) | (simp only [pg_t_setYear, c_2, hcl, c_9, cond_true, cond_false, Bool.not_true, Bool.not_false]; decide))
  · exact absurd hthr (by first | (simp only [pg_t_setYear, c_2, cond_true, cond_false, Bool.not_true, Bool.not_false]; done) | (simp only [pg_t_setYear, c_2, cond_true, cond_false, Bool.not_true, Bool.not_false]; decide))
set_option maxHeartbeats 4000000 in
set_option maxRecDepth 100000 in
/-- cc_setYear: throws -/
theorem cc_setYear_no (l : Launch) (hfl : l.stackTraces = false) (D : va_G) (cI cZ : ClassId) (a : Nat → Nat) (sz : Nat) (u : pg_St) (k x d : Int32) (e9 : Int32) (nm : String) (hthr : pg_t_setYear (!pg_eq (u.1 3) (-1)) k x d = e9) (h0 : e9 ≠ 0) (h9_1 : e9 = 1 → nm = pg_io) (h9_2 : e9 = 2 → nm = pg_ia) (h9_3 : e9 = 3 → nm = pg_is) : vx_Met l yX4_setYear wsX4_setYear ({ frames := 7, cells := 1, slots := 6, locals := 108 }) (va_Pc [.ref (a 0), .int k, .int x, .int d] (pg_T D (pg_ty cI cZ) (pg_wB cI cZ a u) sz)) pg_No (pg_X D (pg_wB cI cZ a u) (va_A (pg_wB cI cZ a u) sz) nm) 1 6 (va_A (pg_wB cI cZ a u) sz) := by
  refine vx_ofW (cc := cX4_setYear) (maxL := 4) (ret := none) (by decide) rfl ?_
  intro p e s m args below meth c s₁ B hml hout hv
  obtain ⟨rfl, ⟨hsz, hP, hK, hD0⟩, hE⟩ := hv
  have hx := B.exec
  have hb := B.bytes
  have hr := B.returns
  have hts := atoms_spec (ws := wsX4_setYear) B.pre
  have hown : s.vm.findClass RX4 = some m.cls := findClass_of_methodNamed B.named
  have hlocks := B.notSynchronized
  subst hsz
  have hD := hD0.self (sz := s.heap.size)
  generalize hAe : va_A (pg_wB cI cZ a u) s.heap.size = A at hD hE ⊢
  have hA : ∀ q : Nat, s.heap.size ≤ q → A q := fun q h => by rw [← hAe]; exact Or.inr h
  have hS : va_S A s.heap s.heap [] := va_S.rf
  have hl := lv_entry ([.ref (a 0), .int k, .int x, .int d]) (n := 4) (Nat.le_of_ble_eq_true rfl)
  rw [lg_entry_eq]
  generalize (lg_sl ([.ref (a 0), .int k, .int x, .int d]) ++ List.replicate (4 - (lg_sl ([.ref (a 0), .int k, .int x, .int d])).length) Slot.unset).toArray = ls at hl ⊢
  have hl : lv_has ls 4 [(0, .ref (a 0)), (1, .int k), (2, .int x), (3, .int d)] := hl
  have hw1 := hts (.constant RX4 44 (10000000)) (List.mem_of_getElem? (i := 1) rfl)
  refine lv_iload_n hx hb dX4_setYear_0 rfl (lv_at hl 1 rfl) ?_
  refine lv_iconst (v := 4) hx hb dX4_setYear_1 (by decide) ?_
  rcases Bool.eq_false_or_eq_true (pg_nb k 4) with c_2 | c_2
  · refine pg_vU (pg_rS (As := [.int k, .int 4]) (rest := []) ⟨hx, hb, hml, hown, hts⟩ (cc_num_ok l D (pg_ty cI cZ) (pg_wB cI cZ a u) s.heap.size k 4 c_2) (va_cwS 2 hts gX4_setYear_X4_checkNumber rfl rfl rfl (by decide +kernel) ⟨Nat.le_of_ble_eq_true rfl, Nat.le_of_ble_eq_true rfl⟩) hK hP hD rfl hl.1 rfl (Nat.le_of_ble_eq_true rfl) dX4_setYear_2 ⟨Nat.le_of_ble_eq_true rfl, Nat.le_of_ble_eq_true rfl⟩) hD hS hA (fun H locs hP hD hS => ?_)
    obtain ⟨j, hj, rfl⟩ := pg_nb_nI (n := 4) (by omega) c_2
    have hcl : (nI j).toNatClampNeg = j := nI_clamp (by omega)
    refine lv_iload_n hx hb dX4_setYear_5 rfl (lv_at hl 2 rfl) ?_
    refine lv_iconst (v := 0) hx hb dX4_setYear_6 (by decide) ?_
    refine lv_ldc hx hb hown hw1 dX4_setYear_7 ?_
    rcases Bool.eq_false_or_eq_true (pg_in x 0 10000000) with c_9 | c_9
    · refine pg_vU (pg_rS (As := [.int x, .int 0, .int 10000000]) (rest := []) ⟨hx, hb, hml, hown, hts⟩ (cc_rng_ok l D (pg_ty cI cZ) (pg_wB cI cZ a u) H.size x 0 10000000 c_9) (va_cwS 3 hts gX4_setYear_X4_checkRange rfl rfl rfl (by decide +kernel) ⟨Nat.le_of_ble_eq_true rfl, Nat.le_of_ble_eq_true rfl⟩) hK hP hD rfl hl.1 rfl (Nat.le_of_ble_eq_true rfl) dX4_setYear_9 ⟨Nat.le_of_ble_eq_true rfl, Nat.le_of_ble_eq_true rfl⟩) hD hS hA (fun H locs hP hD hS => ?_)
      refine lv_iload_n hx hb dX4_setYear_12 rfl (lv_at hl 3 rfl) ?_
      refine lv_iconst (v := 0) hx hb dX4_setYear_13 (by decide) ?_
      refine lv_ldc hx hb hown hw1 dX4_setYear_14 ?_
      rcases Bool.eq_false_or_eq_true (pg_in d 0 10000000) with c_16 | c_16
      · refine pg_vU (pg_rS (As := [.int d, .int 0, .int 10000000]) (rest := []) ⟨hx, hb, hml, hown, hts⟩ (cc_rng_ok l D (pg_ty cI cZ) (pg_wB cI cZ a u) H.size d 0 10000000 c_16) (va_cwS 3 hts gX4_setYear_X4_checkRange rfl rfl rfl (by decide +kernel) ⟨Nat.le_of_ble_eq_true rfl, Nat.le_of_ble_eq_true rfl⟩) hK hP hD rfl hl.1 rfl (Nat.le_of_ble_eq_true rfl) dX4_setYear_16 ⟨Nat.le_of_ble_eq_true rfl, Nat.le_of_ble_eq_true rfl⟩) hD hS hA (fun H locs hP hD hS => ?_)
        refine lv_aload_n hx hb dX4_setYear_19 rfl (lv_at hl 0 rfl) ?_
        rcases Bool.eq_false_or_eq_true (pg_eq (u.1 3) (-1)) with c_20 | c_20
        · exact absurd (hthr.symm.trans (by simp only [pg_t_setYear, c_2, hcl, c_9, c_16, c_20, cond_true, cond_false, Bool.not_true, Bool.not_false])) h0
        · have he : e9 = 3 := hthr.symm.trans (by simp only [pg_t_setYear, c_2, hcl, c_9, c_16, c_20, cond_true, cond_false, Bool.not_true, Bool.not_false])
          obtain rfl := h9_3 he
          exact pg_thru (pg_xV (As := []) (rest := []) ⟨hx, hb, hml, hown, hts⟩ (cc_ncl_no l hfl D cI cZ a H.size u c_20) (cwV 0 hts gX4_setYear_X4_checkNotClosed rfl rfl rfl (by decide +kernel) ⟨Nat.le_of_ble_eq_true rfl, Nat.le_of_ble_eq_true rfl⟩) hK hP hD hS hA hE 0 (ci := 4) rfl rfl rfl rfl hl.1 rfl (Nat.le_of_ble_eq_true rfl) dX4_setYear_20 ⟨Nat.le_of_ble_eq_true rfl, Nat.le_of_ble_eq_true rfl⟩) hD hS hA hout hlocks (Nat.le_of_ble_eq_true rfl) (Nat.le_of_ble_eq_true rfl)
      · have he : e9 = 2 := hthr.symm.trans (by simp only [pg_t_setYear, c_2, hcl, c_9, c_16, cond_true, cond_false, Bool.not_true, Bool.not_false])
        obtain rfl := h9_2 he
        exact pg_thru (pg_xS (As := [.int d, .int 0, .int 10000000]) (rest := []) ⟨hx, hb, hml, hown, hts⟩ (cc_rng_no l hfl D (pg_ty cI cZ) (pg_wB cI cZ a u) H.size d 0 10000000 c_16) (va_cwS 3 hts gX4_setYear_X4_checkRange rfl rfl rfl (by decide +kernel) ⟨Nat.le_of_ble_eq_true rfl, Nat.le_of_ble_eq_true rfl⟩) hK hP hD hS hA hE rfl hl.1 rfl (Nat.le_of_ble_eq_true rfl) dX4_setYear_16 ⟨Nat.le_of_ble_eq_true rfl, Nat.le_of_ble_eq_true rfl⟩) hD hS hA hout hlocks (Nat.le_of_ble_eq_true rfl) (Nat.le_of_ble_eq_true rfl)
    · have he : e9 = 2 := hthr.symm.trans (by simp only [pg_t_setYear, c_2, hcl, c_9, cond_true, cond_false, Bool.not_true, Bool.not_false])
      obtain rfl := h9_2 he
      exact pg_thru (pg_xS (As := [.int x, .int 0, .int 10000000]) (rest := []) ⟨hx, hb, hml, hown, hts⟩ (cc_rng_no l hfl D (pg_ty cI cZ) (pg_wB cI cZ a u) H.size x 0 10000000 c_9) (va_cwS 3 hts gX4_setYear_X4_checkRange rfl rfl rfl (by decide +kernel) ⟨Nat.le_of_ble_eq_true rfl, Nat.le_of_ble_eq_true rfl⟩) hK hP hD hS hA hE rfl hl.1 rfl (Nat.le_of_ble_eq_true rfl) dX4_setYear_9 ⟨Nat.le_of_ble_eq_true rfl, Nat.le_of_ble_eq_true rfl⟩) hD hS hA hout hlocks (Nat.le_of_ble_eq_true rfl) (Nat.le_of_ble_eq_true rfl)
  · have he : e9 = 1 := hthr.symm.trans (by simp only [pg_t_setYear, c_2, cond_true, cond_false, Bool.not_true, Bool.not_false])
    obtain rfl := h9_1 he
    exact pg_thru (pg_xS (As := [.int k, .int 4]) (rest := []) ⟨hx, hb, hml, hown, hts⟩ (cc_num_no l hfl D (pg_ty cI cZ) (pg_wB cI cZ a u) s.heap.size k 4 c_2) (va_cwS 2 hts gX4_setYear_X4_checkNumber rfl rfl rfl (by decide +kernel) ⟨Nat.le_of_ble_eq_true rfl, Nat.le_of_ble_eq_true rfl⟩) hK hP hD hS hA hE rfl hl.1 rfl (Nat.le_of_ble_eq_true rfl) dX4_setYear_2 ⟨Nat.le_of_ble_eq_true rfl, Nat.le_of_ble_eq_true rfl⟩) hD hS hA hout hlocks (Nat.le_of_ble_eq_true rfl) (Nat.le_of_ble_eq_true rfl)
set_option maxHeartbeats 4000000 in
set_option maxRecDepth 100000 in
/-- cc_setCarry: returns -/
theorem cc_setCarry_ok (l : Launch) (D : va_G) (cI cZ : ClassId) (a : Nat → Nat) (sz : Nat) (u : pg_St) (b : Int32) (hb9 : b = 0 ∨ b = 1) (hthr : pg_t_setCarry (!pg_eq (u.1 3) (-1)) = 0) : Met l yX4_setCarry wsX4_setCarry ({ frames := 1, cells := 0, slots := 0, locals := 20 }) (va_Pc [.ref (a 0), .int b] (pg_B D (pg_ty cI cZ) (pg_wB cI cZ a u) sz)) (va_Qv (fun u' => u' = (upd u.1 11 b, u.2)) (pg_E D (pg_ty cI cZ) (va_A (pg_wB cI cZ a u) sz) (pg_wB cI cZ a)) (va_A (pg_wB cI cZ a u) sz)) 0 0 (va_A (pg_wB cI cZ a u) sz) := by
  refine Met.ofW (cc := cX4_setCarry) (maxL := 2) (ret := none) (by decide) rfl ?_
  intro p e s m args below meth c s₁ B hml hv
  obtain ⟨rfl, hsz, hP, hK, hD0⟩ := hv
  have hx := B.exec
  have hb := B.bytes
  have hr := B.returns
  have hts := atoms_spec (ws := wsX4_setCarry) B.pre
  have hown : s.vm.findClass RX4 = some m.cls := findClass_of_methodNamed B.named
  have hlocks := B.notSynchronized
  subst hsz
  have hD := hD0.self (sz := s.heap.size)
  generalize hAe : va_A (pg_wB cI cZ a u) s.heap.size = A at hD ⊢
  have hA : ∀ q : Nat, s.heap.size ≤ q → A q := fun q h => by rw [← hAe]; exact Or.inr h
  have hS : va_S A s.heap s.heap [] := va_S.rf
  have hl := lv_entry ([.ref (a 0), .int b]) (n := 2) (Nat.le_of_ble_eq_true rfl)
  rw [lg_entry_eq]
  generalize (lg_sl ([.ref (a 0), .int b]) ++ List.replicate (2 - (lg_sl ([.ref (a 0), .int b])).length) Slot.unset).toArray = ls at hl ⊢
  have hl : lv_has ls 2 [(0, .ref (a 0)), (1, .int b)] := hl
  have hiX1 : ∀ w ∈ wsX10, w ∈ wsX4_setCarry := fun _ h => List.mem_cons_of_mem _ (List.mem_append_left _ (List.mem_append_right _ (h)))
  have hiX4 : ∀ w ∈ wsX40, w ∈ wsX4_setCarry := fun _ h => List.mem_cons_of_mem _ (List.mem_append_left _ (List.mem_append_left _ (List.mem_append_right _ (h))))
  have hw1 := hts (.fieldLink RX4 33 "PegBox" "earnOut" "LPegBox$EarnOut;") (List.mem_of_getElem? (i := 1) rfl)
  have hw2 := hts (.fieldLink RX4 94 "PegBox$EarnOut" "isCarried" "Z") (List.mem_of_getElem? (i := 2) rfl)
  refine lv_aload_n hx hb dX4_setCarry_0 rfl (lv_at hl 0 rfl) ?_
  rcases Bool.eq_false_or_eq_true (pg_eq (u.1 3) (-1)) with c_1 | c_1
  · refine pg_vE (pg_rV (As := []) (rest := []) ⟨hx, hb, hml, hown, hts⟩ (cc_ncl_ok l D cI cZ a s.heap.size u c_1) (cwV 0 hts gX4_setCarry_X4_checkNotClosed rfl rfl rfl (by decide +kernel) ⟨Nat.le_of_ble_eq_true rfl, Nat.le_of_ble_eq_true rfl⟩) hK hP hD 0 (ci := 4) rfl rfl rfl rfl hl.1 rfl (Nat.le_of_ble_eq_true rfl) dX4_setCarry_1 ⟨Nat.le_of_ble_eq_true rfl, Nat.le_of_ble_eq_true rfl⟩) hD hS hA (fun H locs hP hD hS => ?_)
    refine lv_aload_n hx hb dX4_setCarry_4 rfl (lv_at hl 0 rfl) ?_
    refine va_get (D := D) (ci := 4) (v := .ref (a 4)) (C := RX4) (T := TX4) (N := 14) hx hb hts hiX4 hown hK hP 0 rfl rfl 3 (by decide) hw1 (fun _ h9 => h9) rfl dX4_setCarry_5 ?_
    refine lv_iload_n hx hb dX4_setCarry_8 rfl (lv_at hl 1 rfl) ?_
    refine va_put (D := D) (ci := 1) (v := .int b) (ty := .boolean) (C := RX1) (T := TX1) (N := 8) hx hb hts hiX1 tyX1 tyX1_ok nmX1 hown hK hP hD hS 4 rfl rfl 3 (by decide) hw2 (fun _ h9 => h9) rfl (by decide +kernel) (by rcases hb9 with rfl | rfl <;> rfl) (by rcases hb9 with rfl | rfl <;> rfl) (Nat.le_of_ble_eq_true rfl) dX4_setCarry_9 (fun H locs hP hD hS => ?_)
    have hP : va_P D vwCl (pg_wB cI cZ a ((upd u.1 11 b), u.2)) H := hP
    have hD : va_D A (pg_wB cI cZ a ((upd u.1 11 b), u.2)) := hD
    exact W.vret hx hb hr (fun t9 ht9 hW9 => ⟨⟨((upd u.1 11 b), u.2), rfl, rfl, by rw [ht9]; exact hP, va_K.moved hW9.alike hK, hD⟩, hS.F ht9⟩) hS.2.2 dX4_setCarry_12
  · exact absurd hthr (by first | (simp only [pg_t_setCarry, c_1, cond_true, cond_false, Bool.not_true, Bool.not_false]; done) | (simp only [pg_t_setCarry, c_1, cond_true, cond_false, Bool.not_true, Bool.not_false]; decide))
set_option maxHeartbeats 4000000 in
set_option maxRecDepth 100000 in
/-- cc_setCarry: throws -/
theorem cc_setCarry_no (l : Launch) (hfl : l.stackTraces = false) (D : va_G) (cI cZ : ClassId) (a : Nat → Nat) (sz : Nat) (u : pg_St) (b : Int32) (hb9 : b = 0 ∨ b = 1) (e9 : Int32) (nm : String) (hthr : pg_t_setCarry (!pg_eq (u.1 3) (-1)) = e9) (h0 : e9 ≠ 0) (h9_1 : e9 = 1 → nm = pg_is) : vx_Met l yX4_setCarry wsX4_setCarry ({ frames := 7, cells := 1, slots := 6, locals := 106 }) (va_Pc [.ref (a 0), .int b] (pg_T D (pg_ty cI cZ) (pg_wB cI cZ a u) sz)) pg_No (pg_X D (pg_wB cI cZ a u) (va_A (pg_wB cI cZ a u) sz) nm) 1 6 (va_A (pg_wB cI cZ a u) sz) := by
  refine vx_ofW (cc := cX4_setCarry) (maxL := 2) (ret := none) (by decide) rfl ?_
  intro p e s m args below meth c s₁ B hml hout hv
  obtain ⟨rfl, ⟨hsz, hP, hK, hD0⟩, hE⟩ := hv
  have hx := B.exec
  have hb := B.bytes
  have hr := B.returns
  have hts := atoms_spec (ws := wsX4_setCarry) B.pre
  have hown : s.vm.findClass RX4 = some m.cls := findClass_of_methodNamed B.named
  have hlocks := B.notSynchronized
  subst hsz
  have hD := hD0.self (sz := s.heap.size)
  generalize hAe : va_A (pg_wB cI cZ a u) s.heap.size = A at hD hE ⊢
  have hA : ∀ q : Nat, s.heap.size ≤ q → A q := fun q h => by rw [← hAe]; exact Or.inr h
  have hS : va_S A s.heap s.heap [] := va_S.rf
  have hl := lv_entry ([.ref (a 0), .int b]) (n := 2) (Nat.le_of_ble_eq_true rfl)
  rw [lg_entry_eq]
  generalize (lg_sl ([.ref (a 0), .int b]) ++ List.replicate (2 - (lg_sl ([.ref (a 0), .int b])).length) Slot.unset).toArray = ls at hl ⊢
  have hl : lv_has ls 2 [(0, .ref (a 0)), (1, .int b)] := hl
  refine lv_aload_n hx hb dX4_setCarry_0 rfl (lv_at hl 0 rfl) ?_
  rcases Bool.eq_false_or_eq_true (pg_eq (u.1 3) (-1)) with c_1 | c_1
  · exact absurd (hthr.symm.trans (by simp only [pg_t_setCarry, c_1, cond_true, cond_false, Bool.not_true, Bool.not_false])) h0
  · have he : e9 = 1 := hthr.symm.trans (by simp only [pg_t_setCarry, c_1, cond_true, cond_false, Bool.not_true, Bool.not_false])
    obtain rfl := h9_1 he
    exact pg_thru (pg_xV (As := []) (rest := []) ⟨hx, hb, hml, hown, hts⟩ (cc_ncl_no l hfl D cI cZ a s.heap.size u c_1) (cwV 0 hts gX4_setCarry_X4_checkNotClosed rfl rfl rfl (by decide +kernel) ⟨Nat.le_of_ble_eq_true rfl, Nat.le_of_ble_eq_true rfl⟩) hK hP hD hS hA hE 0 (ci := 4) rfl rfl rfl rfl hl.1 rfl (Nat.le_of_ble_eq_true rfl) dX4_setCarry_1 ⟨Nat.le_of_ble_eq_true rfl, Nat.le_of_ble_eq_true rfl⟩) hD hS hA hout hlocks (Nat.le_of_ble_eq_true rfl) (Nat.le_of_ble_eq_true rfl)
set_option maxHeartbeats 4000000 in
set_option maxRecDepth 100000 in
/-- cc_close: throws -/
theorem cc_close_no (l : Launch) (hfl : l.stackTraces = false) (D : va_G) (cI cZ : ClassId) (a : Nat → Nat) (sz : Nat) (u : pg_St) (x y1 z : Int32) (e9 : Int32) (nm : String) (hthr : pg_t_close (!pg_eq (u.1 3) (-1)) x y1 z = e9) (h0 : e9 ≠ 0) (h9_1 : e9 = 1 → nm = pg_ia) (h9_2 : e9 = 2 → nm = pg_is) : vx_Met l yX4_close wsX4_close ({ frames := 7, cells := 1, slots := 6, locals := 108 }) (va_Pc [.ref (a 0), .int x, .int y1, .int z] (pg_T D (pg_ty cI cZ) (pg_wB cI cZ a u) sz)) pg_No (pg_X D (pg_wB cI cZ a u) (va_A (pg_wB cI cZ a u) sz) nm) 1 6 (va_A (pg_wB cI cZ a u) sz) := by
  refine vx_ofW (cc := cX4_close) (maxL := 4) (ret := (some .int)) (by decide) rfl ?_
  intro p e s m args below meth c s₁ B hml hout hv
  obtain ⟨rfl, ⟨hsz, hP, hK, hD0⟩, hE⟩ := hv
  have hx := B.exec
  have hb := B.bytes
  have hr := B.returns
  have hts := atoms_spec (ws := wsX4_close) B.pre
  have hown : s.vm.findClass RX4 = some m.cls := findClass_of_methodNamed B.named
  have hlocks := B.notSynchronized
  subst hsz
  have hD := hD0.self (sz := s.heap.size)
  generalize hAe : va_A (pg_wB cI cZ a u) s.heap.size = A at hD hE ⊢
  have hA : ∀ q : Nat, s.heap.size ≤ q → A q := fun q h => by rw [← hAe]; exact Or.inr h
  have hS : va_S A s.heap s.heap [] := va_S.rf
  have hl := lv_entry ([.ref (a 0), .int x, .int y1, .int z]) (n := 4) (Nat.le_of_ble_eq_true rfl)
  rw [lg_entry_eq]
  generalize (lg_sl ([.ref (a 0), .int x, .int y1, .int z]) ++ List.replicate (4 - (lg_sl ([.ref (a 0), .int x, .int y1, .int z])).length) Slot.unset).toArray = ls at hl ⊢
  have hl : lv_has ls 4 [(0, .ref (a 0)), (1, .int x), (2, .int y1), (3, .int z)] := hl
  have hw1 := hts (.constant RX4 44 (10000000)) (List.mem_of_getElem? (i := 1) rfl)
  have hw2 := hts (.constant RX4 49 (-10000000)) (List.mem_of_getElem? (i := 2) rfl)
  refine lv_iload_n hx hb dX4_close_0 rfl (lv_at hl 1 rfl) ?_
  refine lv_iconst (v := 0) hx hb dX4_close_1 (by decide) ?_
  refine lv_ldc hx hb hown hw1 dX4_close_2 ?_
  rcases Bool.eq_false_or_eq_true (pg_in x 0 10000000) with c_4 | c_4
  · refine pg_vU (pg_rS (As := [.int x, .int 0, .int 10000000]) (rest := []) ⟨hx, hb, hml, hown, hts⟩ (cc_rng_ok l D (pg_ty cI cZ) (pg_wB cI cZ a u) s.heap.size x 0 10000000 c_4) (va_cwS 3 hts gX4_close_X4_checkRange rfl rfl rfl (by decide +kernel) ⟨Nat.le_of_ble_eq_true rfl, Nat.le_of_ble_eq_true rfl⟩) hK hP hD rfl hl.1 rfl (Nat.le_of_ble_eq_true rfl) dX4_close_4 ⟨Nat.le_of_ble_eq_true rfl, Nat.le_of_ble_eq_true rfl⟩) hD hS hA (fun H locs hP hD hS => ?_)
    refine lv_iload_n hx hb dX4_close_7 rfl (lv_at hl 2 rfl) ?_
    refine lv_iconst (v := 0) hx hb dX4_close_8 (by decide) ?_
    refine lv_ldc hx hb hown hw1 dX4_close_9 ?_
    rcases Bool.eq_false_or_eq_true (pg_in y1 0 10000000) with c_11 | c_11
    · refine pg_vU (pg_rS (As := [.int y1, .int 0, .int 10000000]) (rest := []) ⟨hx, hb, hml, hown, hts⟩ (cc_rng_ok l D (pg_ty cI cZ) (pg_wB cI cZ a u) H.size y1 0 10000000 c_11) (va_cwS 3 hts gX4_close_X4_checkRange rfl rfl rfl (by decide +kernel) ⟨Nat.le_of_ble_eq_true rfl, Nat.le_of_ble_eq_true rfl⟩) hK hP hD rfl hl.1 rfl (Nat.le_of_ble_eq_true rfl) dX4_close_11 ⟨Nat.le_of_ble_eq_true rfl, Nat.le_of_ble_eq_true rfl⟩) hD hS hA (fun H locs hP hD hS => ?_)
      refine lv_iload_n hx hb dX4_close_14 rfl (lv_at hl 3 rfl) ?_
      refine lv_ldc hx hb hown hw2 dX4_close_15 ?_
      refine lv_ldc hx hb hown hw1 dX4_close_17 ?_
      rcases Bool.eq_false_or_eq_true (pg_in z (-10000000) 10000000) with c_19 | c_19
      · refine pg_vU (pg_rS (As := [.int z, .int (-10000000), .int 10000000]) (rest := []) ⟨hx, hb, hml, hown, hts⟩ (cc_rng_ok l D (pg_ty cI cZ) (pg_wB cI cZ a u) H.size z (-10000000) 10000000 c_19) (va_cwS 3 hts gX4_close_X4_checkRange rfl rfl rfl (by decide +kernel) ⟨Nat.le_of_ble_eq_true rfl, Nat.le_of_ble_eq_true rfl⟩) hK hP hD rfl hl.1 rfl (Nat.le_of_ble_eq_true rfl) dX4_close_19 ⟨Nat.le_of_ble_eq_true rfl, Nat.le_of_ble_eq_true rfl⟩) hD hS hA (fun H locs hP hD hS => ?_)
        refine lv_aload_n hx hb dX4_close_22 rfl (lv_at hl 0 rfl) ?_
        rcases Bool.eq_false_or_eq_true (pg_eq (u.1 3) (-1)) with c_23 | c_23
        · exact absurd (hthr.symm.trans (by simp only [pg_t_close, c_4, c_11, c_19, c_23, cond_true, cond_false, Bool.not_true, Bool.not_false])) h0
        · have he : e9 = 2 := hthr.symm.trans (by simp only [pg_t_close, c_4, c_11, c_19, c_23, cond_true, cond_false, Bool.not_true, Bool.not_false])
          obtain rfl := h9_2 he
          exact pg_thru (pg_xV (As := []) (rest := []) ⟨hx, hb, hml, hown, hts⟩ (cc_ncl_no l hfl D cI cZ a H.size u c_23) (cwV 0 hts gX4_close_X4_checkNotClosed rfl rfl rfl (by decide +kernel) ⟨Nat.le_of_ble_eq_true rfl, Nat.le_of_ble_eq_true rfl⟩) hK hP hD hS hA hE 0 (ci := 4) rfl rfl rfl rfl hl.1 rfl (Nat.le_of_ble_eq_true rfl) dX4_close_23 ⟨Nat.le_of_ble_eq_true rfl, Nat.le_of_ble_eq_true rfl⟩) hD hS hA hout hlocks (Nat.le_of_ble_eq_true rfl) (Nat.le_of_ble_eq_true rfl)
      · have he : e9 = 1 := hthr.symm.trans (by simp only [pg_t_close, c_4, c_11, c_19, cond_true, cond_false, Bool.not_true, Bool.not_false])
        obtain rfl := h9_1 he
        exact pg_thru (pg_xS (As := [.int z, .int (-10000000), .int 10000000]) (rest := []) ⟨hx, hb, hml, hown, hts⟩ (cc_rng_no l hfl D (pg_ty cI cZ) (pg_wB cI cZ a u) H.size z (-10000000) 10000000 c_19) (va_cwS 3 hts gX4_close_X4_checkRange rfl rfl rfl (by decide +kernel) ⟨Nat.le_of_ble_eq_true rfl, Nat.le_of_ble_eq_true rfl⟩) hK hP hD hS hA hE rfl hl.1 rfl (Nat.le_of_ble_eq_true rfl) dX4_close_19 ⟨Nat.le_of_ble_eq_true rfl, Nat.le_of_ble_eq_true rfl⟩) hD hS hA hout hlocks (Nat.le_of_ble_eq_true rfl) (Nat.le_of_ble_eq_true rfl)
    · have he : e9 = 1 := hthr.symm.trans (by simp only [pg_t_close, c_4, c_11, cond_true, cond_false, Bool.not_true, Bool.not_false])
      obtain rfl := h9_1 he
      exact pg_thru (pg_xS (As := [.int y1, .int 0, .int 10000000]) (rest := []) ⟨hx, hb, hml, hown, hts⟩ (cc_rng_no l hfl D (pg_ty cI cZ) (pg_wB cI cZ a u) H.size y1 0 10000000 c_11) (va_cwS 3 hts gX4_close_X4_checkRange rfl rfl rfl (by decide +kernel) ⟨Nat.le_of_ble_eq_true rfl, Nat.le_of_ble_eq_true rfl⟩) hK hP hD hS hA hE rfl hl.1 rfl (Nat.le_of_ble_eq_true rfl) dX4_close_11 ⟨Nat.le_of_ble_eq_true rfl, Nat.le_of_ble_eq_true rfl⟩) hD hS hA hout hlocks (Nat.le_of_ble_eq_true rfl) (Nat.le_of_ble_eq_true rfl)
  · have he : e9 = 1 := hthr.symm.trans (by simp only [pg_t_close, c_4, cond_true, cond_false, Bool.not_true, Bool.not_false])
    obtain rfl := h9_1 he
    exact pg_thru (pg_xS (As := [.int x, .int 0, .int 10000000]) (rest := []) ⟨hx, hb, hml, hown, hts⟩ (cc_rng_no l hfl D (pg_ty cI cZ) (pg_wB cI cZ a u) s.heap.size x 0 10000000 c_4) (va_cwS 3 hts gX4_close_X4_checkRange rfl rfl rfl (by decide +kernel) ⟨Nat.le_of_ble_eq_true rfl, Nat.le_of_ble_eq_true rfl⟩) hK hP hD hS hA hE rfl hl.1 rfl (Nat.le_of_ble_eq_true rfl) dX4_close_4 ⟨Nat.le_of_ble_eq_true rfl, Nat.le_of_ble_eq_true rfl⟩) hD hS hA hout hlocks (Nat.le_of_ble_eq_true rfl) (Nat.le_of_ble_eq_true rfl)
set_option maxHeartbeats 4000000 in
set_option maxRecDepth 100000 in
/-- cc_advance: returns -/
theorem cc_advance_ok (l : Launch) (D : va_G) (cI cZ : ClassId) (a : Nat → Nat) (sz : Nat) (u : pg_St) (n : Nat) (hn : u.1 10 = nI n) (h20 : n ≤ 20) (x : Int32) (hthr : pg_t_advance (!pg_eq (u.1 3) (-1)) (u.1 3) x = 0) : Met l yX4_advance wsX4_advance ({ frames := 2, cells := 0, slots := 0, locals := 44 }) (va_Pc [.ref (a 0), .int x] (pg_B D (pg_ty cI cZ) (pg_wB cI cZ a u) sz)) (va_Qi (fun r u' => r = u.1 3 + x ∧ u' = pg_free (upd u.1 3 (u.1 3 + x), u.2) n (u.1 3 + x)) (pg_E D (pg_ty cI cZ) (va_A (pg_wB cI cZ a u) sz) (pg_wB cI cZ a)) (va_A (pg_wB cI cZ a u) sz)) 0 0 (va_A (pg_wB cI cZ a u) sz) := by
  refine Met.ofW (cc := cX4_advance) (maxL := 2) (ret := (some .int)) (by decide) rfl ?_
  intro p e s m args below meth c s₁ B hml hv
  obtain ⟨rfl, hsz, hP, hK, hD0⟩ := hv
  have hx := B.exec
  have hb := B.bytes
  have hr := B.returns
  have hts := atoms_spec (ws := wsX4_advance) B.pre
  have hown : s.vm.findClass RX4 = some m.cls := findClass_of_methodNamed B.named
  have hlocks := B.notSynchronized
  subst hsz
  have hD := hD0.self (sz := s.heap.size)
  generalize hAe : va_A (pg_wB cI cZ a u) s.heap.size = A at hD ⊢
  have hA : ∀ q : Nat, s.heap.size ≤ q → A q := fun q h => by rw [← hAe]; exact Or.inr h
  have hS : va_S A s.heap s.heap [] := va_S.rf
  have hl := lv_entry ([.ref (a 0), .int x]) (n := 2) (Nat.le_of_ble_eq_true rfl)
  rw [lg_entry_eq]
  generalize (lg_sl ([.ref (a 0), .int x]) ++ List.replicate (2 - (lg_sl ([.ref (a 0), .int x])).length) Slot.unset).toArray = ls at hl ⊢
  have hl : lv_has ls 2 [(0, .ref (a 0)), (1, .int x)] := hl
  have hiX4 : ∀ w ∈ wsX40, w ∈ wsX4_advance := fun _ h => List.mem_cons_of_mem _ (List.mem_append_left _ (List.mem_append_left _ (List.mem_append_left _ (List.mem_append_left _ (List.mem_append_right _ (h))))))
  have hw3 := hts (.fieldLink RX4 37 "PegBox" "day" "I") (List.mem_of_getElem? (i := 3) rfl)
  refine lv_iload_n hx hb dX4_advance_0 rfl (lv_at hl 1 rfl) ?_
  refine lv_iconst (v := 1) hx hb dX4_advance_1 (by decide) ?_
  refine lv_sipush (v := 400) hx hb dX4_advance_2 (by decide) ?_
  rcases Bool.eq_false_or_eq_true (pg_in x 1 400) with c_5 | c_5
  · refine pg_vU (pg_rS (As := [.int x, .int 1, .int 400]) (rest := []) ⟨hx, hb, hml, hown, hts⟩ (cc_rng_ok l D (pg_ty cI cZ) (pg_wB cI cZ a u) s.heap.size x 1 400 c_5) (va_cwS 3 hts gX4_advance_X4_checkRange rfl rfl rfl (by decide +kernel) ⟨Nat.le_of_ble_eq_true rfl, Nat.le_of_ble_eq_true rfl⟩) hK hP hD rfl hl.1 rfl (Nat.le_of_ble_eq_true rfl) dX4_advance_5 ⟨Nat.le_of_ble_eq_true rfl, Nat.le_of_ble_eq_true rfl⟩) hD hS hA (fun H locs hP hD hS => ?_)
    refine lv_aload_n hx hb dX4_advance_8 rfl (lv_at hl 0 rfl) ?_
    rcases Bool.eq_false_or_eq_true (pg_eq (u.1 3) (-1)) with c_9 | c_9
    · exact absurd hthr (by first | (simp only [pg_t_advance, c_5, c_9, cond_true, cond_false, Bool.not_true, Bool.not_false]; done) | (simp only [pg_t_advance, c_5, c_9, cond_true, cond_false, Bool.not_true, Bool.not_false]; decide))
    · refine pg_vE (pg_rV (As := []) (rest := []) ⟨hx, hb, hml, hown, hts⟩ (cc_cls_ok l D cI cZ a H.size u c_9) (cwV 0 hts gX4_advance_X4_checkClosed rfl rfl rfl (by decide +kernel) ⟨Nat.le_of_ble_eq_true rfl, Nat.le_of_ble_eq_true rfl⟩) hK hP hD 0 (ci := 4) rfl rfl rfl rfl hl.1 rfl (Nat.le_of_ble_eq_true rfl) dX4_advance_9 ⟨Nat.le_of_ble_eq_true rfl, Nat.le_of_ble_eq_true rfl⟩) hD hS hA (fun H locs hP hD hS => ?_)
      refine lv_aload_n hx hb dX4_advance_12 rfl (lv_at hl 0 rfl) ?_
      refine va_get (D := D) (ci := 4) (v := .int (u.1 3)) (C := RX4) (T := TX4) (N := 14) hx hb hts hiX4 hown hK hP 0 rfl rfl 7 (by decide) hw3 (fun _ h9 => h9) rfl dX4_advance_13 ?_
      refine lv_iload_n hx hb dX4_advance_16 rfl (lv_at hl 1 rfl) ?_
      refine lv_iadd hx hb dX4_advance_17 ?_
      refine lv_sipush (v := 4000) hx hb dX4_advance_18 (by decide) ?_
      refine lv_icmp_le (tgt := 34) hx hb dX4_advance_21 (by decide) (fun c_21 => ?_) (fun c_21 => ?_)
      · have d_21 := pg_le_t c_21
        refine lv_aload_n hx hb dX4_advance_34 rfl (lv_at hl 0 rfl) ?_
        refine lv_dup hx hb dX4_advance_35 rfl ?_
        refine va_get (D := D) (ci := 4) (v := .int (u.1 3)) (C := RX4) (T := TX4) (N := 14) hx hb hts hiX4 hown hK hP 0 rfl rfl 7 (by decide) hw3 (fun _ h9 => h9) rfl dX4_advance_36 ?_
        refine lv_iload_n hx hb dX4_advance_39 rfl (lv_at hl 1 rfl) ?_
        refine lv_iadd hx hb dX4_advance_40 ?_
        refine va_put (D := D) (ci := 4) (v := .int ((u.1 3) + x)) (ty := .int) (C := RX4) (T := TX4) (N := 14) hx hb hts hiX4 tyX4 tyX4_ok nmX4 hown hK hP hD hS 0 rfl rfl 7 (by decide) hw3 (fun _ h9 => h9) rfl (by decide +kernel) rfl rfl (Nat.le_of_ble_eq_true rfl) dX4_advance_41 (fun H locs hP hD hS => ?_)
        have hP : va_P D vwCl (pg_wB cI cZ a ((upd u.1 3 ((u.1 3) + x)), u.2)) H := hP
        have hD : va_D A (pg_wB cI cZ a ((upd u.1 3 ((u.1 3) + x)), u.2)) := hD
        refine lv_aload_n hx hb dX4_advance_44 rfl (lv_at hl 0 rfl) ?_
        refine pg_vE (pg_rV (As := []) (rest := []) ⟨hx, hb, hml, hown, hts⟩ (cc_free l D cI cZ a H.size ((upd u.1 3 ((u.1 3) + x)), u.2) n hn h20) (cwV 0 hts gX4_advance_X4_free rfl rfl rfl (by decide +kernel) ⟨Nat.le_of_ble_eq_true rfl, Nat.le_of_ble_eq_true rfl⟩) hK hP hD 0 (ci := 4) rfl rfl rfl rfl hl.1 rfl (Nat.le_of_ble_eq_true rfl) dX4_advance_45 ⟨Nat.le_of_ble_eq_true rfl, Nat.le_of_ble_eq_true rfl⟩) hD hS hA (fun H locs hP hD hS => ?_)
        refine lv_aload_n hx hb dX4_advance_48 rfl (lv_at hl 0 rfl) ?_
        refine va_get (D := D) (ci := 4) (v := .int ((pg_free (upd u.1 3 (u.1 3 + x), u.2) n (u.1 3 + x)).1 3)) (C := RX4) (T := TX4) (N := 14) hx hb hts hiX4 hown hK hP 0 rfl rfl 7 (by decide) hw3 (fun _ h9 => h9) rfl dX4_advance_49 ?_
        exact W.iret (v := (pg_free (upd u.1 3 (u.1 3 + x), u.2) n (u.1 3 + x)).1 3) hx hb hr (fun t9 ht9 hW9 => ⟨⟨(pg_free (upd u.1 3 (u.1 3 + x), u.2) n (u.1 3 + x)).1 3, (pg_free (upd u.1 3 (u.1 3 + x), u.2) n (u.1 3 + x)), rfl, ⟨by rw [pg_free_3]; rfl, rfl⟩, by rw [ht9]; exact hP, va_K.moved hW9.alike hK, hD⟩, hS.F ht9⟩) hS.2.2 dX4_advance_52
      · have d_21 := pg_le_f c_21
        exact absurd hthr (by first | (simp only [pg_t_advance, c_5, c_9, d_21, cond_true, cond_false, Bool.not_true, Bool.not_false]; done) | (simp only [pg_t_advance, c_5, c_9, d_21, cond_true, cond_false, Bool.not_true, Bool.not_false]; decide))
  · exact absurd hthr (by first | (simp only [pg_t_advance, c_5, cond_true, cond_false, Bool.not_true, Bool.not_false]; done) | (simp only [pg_t_advance, c_5, cond_true, cond_false, Bool.not_true, Bool.not_false]; decide))
set_option maxHeartbeats 4000000 in
set_option maxRecDepth 100000 in
/-- cc_advance: throws -/
theorem cc_advance_no (l : Launch) (hfl : l.stackTraces = false) (D : va_G) (cI cZ : ClassId) (a : Nat → Nat) (sz : Nat) (u : pg_St) (n : Nat) (hn : u.1 10 = nI n) (h20 : n ≤ 20) (x : Int32) (e9 : Int32) (nm : String) (hthr : pg_t_advance (!pg_eq (u.1 3) (-1)) (u.1 3) x = e9) (h0 : e9 ≠ 0) (h9_1 : e9 = 1 → nm = pg_ia) (h9_2 : e9 = 2 → nm = pg_is) : vx_Met l yX4_advance wsX4_advance ({ frames := 7, cells := 1, slots := 6, locals := 108 }) (va_Pc [.ref (a 0), .int x] (pg_T D (pg_ty cI cZ) (pg_wB cI cZ a u) sz)) pg_No (pg_X D (pg_wB cI cZ a u) (va_A (pg_wB cI cZ a u) sz) nm) 1 6 (va_A (pg_wB cI cZ a u) sz) := by
  refine vx_ofW (cc := cX4_advance) (maxL := 2) (ret := (some .int)) (by decide) rfl ?_
  intro p e s m args below meth c s₁ B hml hout hv
  obtain ⟨rfl, ⟨hsz, hP, hK, hD0⟩, hE⟩ := hv
  have hx := B.exec
  have hb := B.bytes
  have hr := B.returns
  have hts := atoms_spec (ws := wsX4_advance) B.pre
  have hown : s.vm.findClass RX4 = some m.cls := findClass_of_methodNamed B.named
  have hlocks := B.notSynchronized
  subst hsz
  have hD := hD0.self (sz := s.heap.size)
  generalize hAe : va_A (pg_wB cI cZ a u) s.heap.size = A at hD hE ⊢
  have hA : ∀ q : Nat, s.heap.size ≤ q → A q := fun q h => by rw [← hAe]; exact Or.inr h
  have hS : va_S A s.heap s.heap [] := va_S.rf
  have hl := lv_entry ([.ref (a 0), .int x]) (n := 2) (Nat.le_of_ble_eq_true rfl)
  rw [lg_entry_eq]
  generalize (lg_sl ([.ref (a 0), .int x]) ++ List.replicate (2 - (lg_sl ([.ref (a 0), .int x])).length) Slot.unset).toArray = ls at hl ⊢
  have hl : lv_has ls 2 [(0, .ref (a 0)), (1, .int x)] := hl
  have hiX4 : ∀ w ∈ wsX40, w ∈ wsX4_advance := fun _ h => List.mem_cons_of_mem _ (List.mem_append_left _ (List.mem_append_left _ (List.mem_append_left _ (List.mem_append_left _ (List.mem_append_right _ (h))))))
  have hw1 := hts (.classLink RX4 124 "java/lang/IllegalStateException") (List.mem_of_getElem? (i := 1) rfl)
  have hw2 := hts (.initialized "java/lang/IllegalStateException") (List.mem_of_getElem? (i := 2) rfl)
  have hw3 := hts (.fieldLink RX4 37 "PegBox" "day" "I") (List.mem_of_getElem? (i := 3) rfl)
  refine lv_iload_n hx hb dX4_advance_0 rfl (lv_at hl 1 rfl) ?_
  refine lv_iconst (v := 1) hx hb dX4_advance_1 (by decide) ?_
  refine lv_sipush (v := 400) hx hb dX4_advance_2 (by decide) ?_
  rcases Bool.eq_false_or_eq_true (pg_in x 1 400) with c_5 | c_5
  · refine pg_vU (pg_rS (As := [.int x, .int 1, .int 400]) (rest := []) ⟨hx, hb, hml, hown, hts⟩ (cc_rng_ok l D (pg_ty cI cZ) (pg_wB cI cZ a u) s.heap.size x 1 400 c_5) (va_cwS 3 hts gX4_advance_X4_checkRange rfl rfl rfl (by decide +kernel) ⟨Nat.le_of_ble_eq_true rfl, Nat.le_of_ble_eq_true rfl⟩) hK hP hD rfl hl.1 rfl (Nat.le_of_ble_eq_true rfl) dX4_advance_5 ⟨Nat.le_of_ble_eq_true rfl, Nat.le_of_ble_eq_true rfl⟩) hD hS hA (fun H locs hP hD hS => ?_)
    refine lv_aload_n hx hb dX4_advance_8 rfl (lv_at hl 0 rfl) ?_
    rcases Bool.eq_false_or_eq_true (pg_eq (u.1 3) (-1)) with c_9 | c_9
    · have he : e9 = 2 := hthr.symm.trans (by simp only [pg_t_advance, c_5, c_9, cond_true, cond_false, Bool.not_true, Bool.not_false])
      obtain rfl := h9_2 he
      exact pg_thru (pg_xV (As := []) (rest := []) ⟨hx, hb, hml, hown, hts⟩ (cc_cls_no l hfl D cI cZ a H.size u c_9) (cwV 0 hts gX4_advance_X4_checkClosed rfl rfl rfl (by decide +kernel) ⟨Nat.le_of_ble_eq_true rfl, Nat.le_of_ble_eq_true rfl⟩) hK hP hD hS hA hE 0 (ci := 4) rfl rfl rfl rfl hl.1 rfl (Nat.le_of_ble_eq_true rfl) dX4_advance_9 ⟨Nat.le_of_ble_eq_true rfl, Nat.le_of_ble_eq_true rfl⟩) hD hS hA hout hlocks (Nat.le_of_ble_eq_true rfl) (Nat.le_of_ble_eq_true rfl)
    · refine pg_vE (pg_rV (As := []) (rest := []) ⟨hx, hb, hml, hown, hts⟩ (cc_cls_ok l D cI cZ a H.size u c_9) (cwV 0 hts gX4_advance_X4_checkClosed rfl rfl rfl (by decide +kernel) ⟨Nat.le_of_ble_eq_true rfl, Nat.le_of_ble_eq_true rfl⟩) hK hP hD 0 (ci := 4) rfl rfl rfl rfl hl.1 rfl (Nat.le_of_ble_eq_true rfl) dX4_advance_9 ⟨Nat.le_of_ble_eq_true rfl, Nat.le_of_ble_eq_true rfl⟩) hD hS hA (fun H locs hP hD hS => ?_)
      refine lv_aload_n hx hb dX4_advance_12 rfl (lv_at hl 0 rfl) ?_
      refine va_get (D := D) (ci := 4) (v := .int (u.1 3)) (C := RX4) (T := TX4) (N := 14) hx hb hts hiX4 hown hK hP 0 rfl rfl 7 (by decide) hw3 (fun _ h9 => h9) rfl dX4_advance_13 ?_
      refine lv_iload_n hx hb dX4_advance_16 rfl (lv_at hl 1 rfl) ?_
      refine lv_iadd hx hb dX4_advance_17 ?_
      refine lv_sipush (v := 4000) hx hb dX4_advance_18 (by decide) ?_
      refine lv_icmp_le (tgt := 34) hx hb dX4_advance_21 (by decide) (fun c_21 => ?_) (fun c_21 => ?_)
      · have d_21 := pg_le_t c_21
        exact absurd (hthr.symm.trans (by simp only [pg_t_advance, c_5, c_9, d_21, cond_true, cond_false, Bool.not_true, Bool.not_false])) h0
      · have d_21 := pg_le_f c_21
        have he : e9 = 2 := hthr.symm.trans (by simp only [pg_t_advance, c_5, c_9, d_21, cond_true, cond_false, Bool.not_true, Bool.not_false])
        obtain rfl := h9_2 he
        exact pg_thr (nm := pg_is) (i := 5) hx hb hfl hown (by decide +kernel) hw1 hw2 rfl (fun w9 h => hts w9 (List.mem_cons_of_mem _ (List.mem_append_left _ (List.mem_append_right _ (h))))) pg_h2_is pg_hg_is hE hP hS hA (by rw [hml]; exact hl.1) dX4_advance_24 dX4_advance_27 dX4_advance_28 dX4_advance_30 dX4_advance_33 hout (Nat.le_of_ble_eq_true rfl) (Nat.le_of_ble_eq_true rfl) (Nat.le_of_ble_eq_true rfl) (Nat.le_of_ble_eq_true rfl) hlocks (Nat.le_of_ble_eq_true rfl) (Nat.le_of_ble_eq_true rfl)
  · have he : e9 = 1 := hthr.symm.trans (by simp only [pg_t_advance, c_5, cond_true, cond_false, Bool.not_true, Bool.not_false])
    obtain rfl := h9_1 he
    exact pg_thru (pg_xS (As := [.int x, .int 1, .int 400]) (rest := []) ⟨hx, hb, hml, hown, hts⟩ (cc_rng_no l hfl D (pg_ty cI cZ) (pg_wB cI cZ a u) s.heap.size x 1 400 c_5) (va_cwS 3 hts gX4_advance_X4_checkRange rfl rfl rfl (by decide +kernel) ⟨Nat.le_of_ble_eq_true rfl, Nat.le_of_ble_eq_true rfl⟩) hK hP hD hS hA hE rfl hl.1 rfl (Nat.le_of_ble_eq_true rfl) dX4_advance_5 ⟨Nat.le_of_ble_eq_true rfl, Nat.le_of_ble_eq_true rfl⟩) hD hS hA hout hlocks (Nat.le_of_ble_eq_true rfl) (Nat.le_of_ble_eq_true rfl)
set_option maxHeartbeats 4000000 in
set_option maxRecDepth 100000 in
/-- cc_claim: returns -/
theorem cc_claim_ok (l : Launch) (D : va_G) (cI cZ : ClassId) (a : Nat → Nat) (sz : Nat) (u : pg_St) (n : Nat) (hn : u.1 10 = nI n) (h20 : n ≤ 20) (k x : Int32) (hthr : pg_t_claim (!pg_eq (u.1 3) (-1)) (u.1 3) u.2 (nI n) k x = 0) : Met l yX4_claim wsX4_claim ({ frames := 1, cells := 0, slots := 0, locals := 22 }) (va_Pc [.ref (a 0), .int k, .int x] (pg_B D (pg_ty cI cZ) (pg_wB cI cZ a u) sz)) (va_Qi (fun r u' => r = nI n ∧ u' = pg_claim u n k x) (pg_E D (pg_ty cI cZ) (va_A (pg_wB cI cZ a u) sz) (pg_wB cI cZ a)) (va_A (pg_wB cI cZ a u) sz)) 0 0 (va_A (pg_wB cI cZ a u) sz) := by
  refine Met.ofW (cc := cX4_claim) (maxL := 4) (ret := (some .int)) (by decide) rfl ?_
  intro p e s m args below meth c s₁ B hml hv
  obtain ⟨rfl, hsz, hP, hK, hD0⟩ := hv
  have hx := B.exec
  have hb := B.bytes
  have hr := B.returns
  have hts := atoms_spec (ws := wsX4_claim) B.pre
  have hown : s.vm.findClass RX4 = some m.cls := findClass_of_methodNamed B.named
  have hlocks := B.notSynchronized
  subst hsz
  have hD := hD0.self (sz := s.heap.size)
  generalize hAe : va_A (pg_wB cI cZ a u) s.heap.size = A at hD ⊢
  have hA : ∀ q : Nat, s.heap.size ≤ q → A q := fun q h => by rw [← hAe]; exact Or.inr h
  have hS : va_S A s.heap s.heap [] := va_S.rf
  have hl := lv_entry ([.ref (a 0), .int k, .int x]) (n := 4) (Nat.le_of_ble_eq_true rfl)
  rw [lg_entry_eq]
  generalize (lg_sl ([.ref (a 0), .int k, .int x]) ++ List.replicate (4 - (lg_sl ([.ref (a 0), .int k, .int x])).length) Slot.unset).toArray = ls at hl ⊢
  have hl : lv_has ls 4 [(0, .ref (a 0)), (1, .int k), (2, .int x)] := hl
  have hiX0 : ∀ w ∈ wsX00, w ∈ wsX4_claim := fun _ h => List.mem_cons_of_mem _ (List.mem_append_left _ (List.mem_append_left _ (List.mem_append_left _ (List.mem_append_right _ (h)))))
  have hiX3 : ∀ w ∈ wsX30, w ∈ wsX4_claim := fun _ h => List.mem_cons_of_mem _ (List.mem_append_left _ (List.mem_append_left _ (List.mem_append_left _ (List.mem_append_left _ (List.mem_append_right _ (h))))))
  have hiX4 : ∀ w ∈ wsX40, w ∈ wsX4_claim := fun _ h => List.mem_cons_of_mem _ (List.mem_append_left _ (List.mem_append_left _ (List.mem_append_left _ (List.mem_append_left _ (List.mem_append_left _ (List.mem_append_right _ (h)))))))
  have hw3 := hts (.constant RX4 44 (10000000)) (List.mem_of_getElem? (i := 3) rfl)
  have hw4 := hts (.fieldLink RX4 37 "PegBox" "day" "I") (List.mem_of_getElem? (i := 4) rfl)
  have hw5 := hts (.fieldLink RX4 19 "PegBox" "kinds" "LPegBox$Kinds;") (List.mem_of_getElem? (i := 5) rfl)
  have hw6 := hts (.fieldLink RX4 87 "PegBox$Kinds" "lastDays" "[I") (List.mem_of_getElem? (i := 6) rfl)
  have hw7 := hts (.fieldLink RX4 26 "PegBox" "book" "LPegBox$ClaimBook;") (List.mem_of_getElem? (i := 7) rfl)
  have hw8 := hts (.fieldLink RX4 136 "PegBox$ClaimBook" "count" "I") (List.mem_of_getElem? (i := 8) rfl)
  have hw9 := hts (.fieldLink RX4 141 "PegBox$ClaimBook" "kinds" "[I") (List.mem_of_getElem? (i := 9) rfl)
  have hw10 := hts (.fieldLink RX4 143 "PegBox$ClaimBook" "amounts" "[I") (List.mem_of_getElem? (i := 10) rfl)
  have hw11 := hts (.fieldLink RX4 144 "PegBox$ClaimBook" "offers" "[I") (List.mem_of_getElem? (i := 11) rfl)
  have hw12 := hts (.fieldLink RX4 147 "PegBox$ClaimBook" "settled" "[I") (List.mem_of_getElem? (i := 12) rfl)
  refine lv_iload_n hx hb dX4_claim_0 rfl (lv_at hl 1 rfl) ?_
  refine lv_iconst (v := 3) hx hb dX4_claim_1 (by decide) ?_
  rcases Bool.eq_false_or_eq_true (pg_nb k 3) with c_2 | c_2
  · refine pg_vU (pg_rS (As := [.int k, .int 3]) (rest := []) ⟨hx, hb, hml, hown, hts⟩ (cc_num_ok l D (pg_ty cI cZ) (pg_wB cI cZ a u) s.heap.size k 3 c_2) (va_cwS 2 hts gX4_claim_X4_checkNumber rfl rfl rfl (by decide +kernel) ⟨Nat.le_of_ble_eq_true rfl, Nat.le_of_ble_eq_true rfl⟩) hK hP hD rfl hl.1 rfl (Nat.le_of_ble_eq_true rfl) dX4_claim_2 ⟨Nat.le_of_ble_eq_true rfl, Nat.le_of_ble_eq_true rfl⟩) hD hS hA (fun H locs hP hD hS => ?_)
    obtain ⟨j, hj, rfl⟩ := pg_nb_nI (n := 3) (by omega) c_2
    have hcl : (nI j).toNatClampNeg = j := nI_clamp (by omega)
    refine lv_iload_n hx hb dX4_claim_5 rfl (lv_at hl 2 rfl) ?_
    refine lv_iconst (v := 1) hx hb dX4_claim_6 (by decide) ?_
    refine lv_ldc hx hb hown hw3 dX4_claim_7 ?_
    rcases Bool.eq_false_or_eq_true (pg_in x 1 10000000) with c_9 | c_9
    · refine pg_vU (pg_rS (As := [.int x, .int 1, .int 10000000]) (rest := []) ⟨hx, hb, hml, hown, hts⟩ (cc_rng_ok l D (pg_ty cI cZ) (pg_wB cI cZ a u) H.size x 1 10000000 c_9) (va_cwS 3 hts gX4_claim_X4_checkRange rfl rfl rfl (by decide +kernel) ⟨Nat.le_of_ble_eq_true rfl, Nat.le_of_ble_eq_true rfl⟩) hK hP hD rfl hl.1 rfl (Nat.le_of_ble_eq_true rfl) dX4_claim_9 ⟨Nat.le_of_ble_eq_true rfl, Nat.le_of_ble_eq_true rfl⟩) hD hS hA (fun H locs hP hD hS => ?_)
      refine lv_aload_n hx hb dX4_claim_12 rfl (lv_at hl 0 rfl) ?_
      rcases Bool.eq_false_or_eq_true (pg_eq (u.1 3) (-1)) with c_13 | c_13
      · exact absurd hthr (by first | (simp only [pg_t_claim, c_2, hcl, c_9, c_13, cond_true, cond_false, Bool.not_true, Bool.not_false]; done) | (simp only [pg_t_claim, c_2, hcl, c_9, c_13, cond_true, cond_false, Bool.not_true, Bool.not_false]; decide))
      · refine pg_vE (pg_rV (As := []) (rest := []) ⟨hx, hb, hml, hown, hts⟩ (cc_cls_ok l D cI cZ a H.size u c_13) (cwV 0 hts gX4_claim_X4_checkClosed rfl rfl rfl (by decide +kernel) ⟨Nat.le_of_ble_eq_true rfl, Nat.le_of_ble_eq_true rfl⟩) hK hP hD 0 (ci := 4) rfl rfl rfl rfl hl.1 rfl (Nat.le_of_ble_eq_true rfl) dX4_claim_13 ⟨Nat.le_of_ble_eq_true rfl, Nat.le_of_ble_eq_true rfl⟩) hD hS hA (fun H locs hP hD hS => ?_)
        refine lv_aload_n hx hb dX4_claim_16 rfl (lv_at hl 0 rfl) ?_
        refine va_get (D := D) (ci := 4) (v := .int (u.1 3)) (C := RX4) (T := TX4) (N := 14) hx hb hts hiX4 hown hK hP 0 rfl rfl 7 (by decide) hw4 (fun _ h9 => h9) rfl dX4_claim_17 ?_
        refine lv_aload_n hx hb dX4_claim_20 rfl (lv_at hl 0 rfl) ?_
        refine va_get (D := D) (ci := 4) (v := .ref (a 2)) (C := RX4) (T := TX4) (N := 14) hx hb hts hiX4 hown hK hP 0 rfl rfl 1 (by decide) hw5 (fun _ h9 => h9) rfl dX4_claim_21 ?_
        refine va_get (D := D) (ci := 3) (v := .ref (a 11)) (C := RX3) (T := TX3) (N := 5) hx hb hts hiX3 hown hK hP 2 rfl rfl 4 (by decide) hw6 (fun _ h9 => h9) rfl dX4_claim_24 ?_
        refine lv_iload_n hx hb dX4_claim_27 rfl (lv_at hl 1 rfl) ?_
        refine pg_ild (f := u.2 6) hx hb hK hP 11 0 rfl rfl (show j < _ by omega) (by decide) dX4_claim_28 ?_
        refine lv_icmp_le (tgt := 42) hx hb dX4_claim_29 (by decide) (fun c_29 => ?_) (fun c_29 => ?_)
        · have d_29 := pg_le_t c_29
          refine lv_aload_n hx hb dX4_claim_42 rfl (lv_at hl 0 rfl) ?_
          refine va_get (D := D) (ci := 4) (v := .ref (a 3)) (C := RX4) (T := TX4) (N := 14) hx hb hts hiX4 hown hK hP 0 rfl rfl 2 (by decide) hw7 (fun _ h9 => h9) rfl dX4_claim_43 ?_
          refine va_get (D := D) (ci := 0) (v := .int (u.1 10)) (C := RX0) (T := TX0) (N := 5) hx hb hts hiX0 hown hK hP 3 rfl rfl 4 (by decide) hw8 (fun _ h9 => h9) rfl dX4_claim_46 ?_
          rw [hn]
          refine lv_istore_n (lv' := [(3, .int (nI n)), (0, .ref (a 0)), (1, .int (nI j)), (2, .int x)]) hx hb dX4_claim_49 rfl hl (by decide) rfl (fun ls hl => ?_)
          refine lv_iload_n hx hb dX4_claim_50 rfl (lv_at hl 0 rfl) ?_
          refine lv_bipush (v := 20) hx hb dX4_claim_51 (by decide) ?_
          refine lv_icmp_lt (tgt := 66) hx hb dX4_claim_53 (by decide) (fun c_53 => ?_) (fun c_53 => ?_)
          · have d_53 := pg_le_f (Int32.not_le.mpr c_53)
            have hn20 : n < 20 := (nI_ltI (by omega) (by decide)).mp (show nI n < nI 20 from c_53)
            refine lv_aload_n hx hb dX4_claim_66 rfl (lv_at hl 1 rfl) ?_
            refine va_get (D := D) (ci := 4) (v := .ref (a 3)) (C := RX4) (T := TX4) (N := 14) hx hb hts hiX4 hown hK hP 0 rfl rfl 2 (by decide) hw7 (fun _ h9 => h9) rfl dX4_claim_67 ?_
            refine va_get (D := D) (ci := 0) (v := .ref (a 12)) (C := RX0) (T := TX0) (N := 5) hx hb hts hiX0 hown hK hP 3 rfl rfl 0 (by decide) hw9 (fun _ h9 => h9) rfl dX4_claim_70 ?_
            refine lv_iload_n hx hb dX4_claim_73 rfl (lv_at hl 0 rfl) ?_
            refine lv_iload_n hx hb dX4_claim_74 rfl (lv_at hl 2 rfl) ?_
            refine pg_ist hx hb hK hP hD hS 12 0 rfl rfl (show n < _ by omega) (by decide) dX4_claim_75 (fun H locs hP hD hS => ?_)
            have hP : va_P D vwCl (pg_wB cI cZ a (u.1, (pg_row u.2 7 (upd (u.2 7) n (nI j))))) H := hP
            have hD : va_D A (pg_wB cI cZ a (u.1, (pg_row u.2 7 (upd (u.2 7) n (nI j))))) := hD
            refine lv_aload_n hx hb dX4_claim_76 rfl (lv_at hl 1 rfl) ?_
            refine va_get (D := D) (ci := 4) (v := .ref (a 3)) (C := RX4) (T := TX4) (N := 14) hx hb hts hiX4 hown hK hP 0 rfl rfl 2 (by decide) hw7 (fun _ h9 => h9) rfl dX4_claim_77 ?_
            refine va_get (D := D) (ci := 0) (v := .ref (a 13)) (C := RX0) (T := TX0) (N := 5) hx hb hts hiX0 hown hK hP 3 rfl rfl 1 (by decide) hw10 (fun _ h9 => h9) rfl dX4_claim_80 ?_
            refine lv_iload_n hx hb dX4_claim_83 rfl (lv_at hl 0 rfl) ?_
            refine lv_iload_n hx hb dX4_claim_84 rfl (lv_at hl 3 rfl) ?_
            refine pg_ist hx hb hK hP hD hS 13 0 rfl rfl (show n < _ by omega) (by decide) dX4_claim_85 (fun H locs hP hD hS => ?_)
            have hP : va_P D vwCl (pg_wB cI cZ a (u.1, (pg_row (pg_row u.2 7 (upd (u.2 7) n (nI j))) 8 (upd (u.2 8) n x)))) H := hP
            have hD : va_D A (pg_wB cI cZ a (u.1, (pg_row (pg_row u.2 7 (upd (u.2 7) n (nI j))) 8 (upd (u.2 8) n x)))) := hD
            refine lv_aload_n hx hb dX4_claim_86 rfl (lv_at hl 1 rfl) ?_
            refine va_get (D := D) (ci := 4) (v := .ref (a 3)) (C := RX4) (T := TX4) (N := 14) hx hb hts hiX4 hown hK hP 0 rfl rfl 2 (by decide) hw7 (fun _ h9 => h9) rfl dX4_claim_87 ?_
            refine va_get (D := D) (ci := 0) (v := .ref (a 14)) (C := RX0) (T := TX0) (N := 5) hx hb hts hiX0 hown hK hP 3 rfl rfl 2 (by decide) hw11 (fun _ h9 => h9) rfl dX4_claim_90 ?_
            refine lv_iload_n hx hb dX4_claim_93 rfl (lv_at hl 0 rfl) ?_
            refine lv_iconst (v := (-1)) hx hb dX4_claim_94 (by decide) ?_
            refine pg_ist hx hb hK hP hD hS 14 0 rfl rfl (show n < _ by omega) (by decide) dX4_claim_95 (fun H locs hP hD hS => ?_)
            have hP : va_P D vwCl (pg_wB cI cZ a (u.1, (pg_row (pg_row (pg_row u.2 7 (upd (u.2 7) n (nI j))) 8 (upd (u.2 8) n x)) 9 (upd (u.2 9) n (-1))))) H := hP
            have hD : va_D A (pg_wB cI cZ a (u.1, (pg_row (pg_row (pg_row u.2 7 (upd (u.2 7) n (nI j))) 8 (upd (u.2 8) n x)) 9 (upd (u.2 9) n (-1))))) := hD
            refine lv_aload_n hx hb dX4_claim_96 rfl (lv_at hl 1 rfl) ?_
            refine va_get (D := D) (ci := 4) (v := .ref (a 3)) (C := RX4) (T := TX4) (N := 14) hx hb hts hiX4 hown hK hP 0 rfl rfl 2 (by decide) hw7 (fun _ h9 => h9) rfl dX4_claim_97 ?_
            refine va_get (D := D) (ci := 0) (v := .ref (a 15)) (C := RX0) (T := TX0) (N := 5) hx hb hts hiX0 hown hK hP 3 rfl rfl 3 (by decide) hw12 (fun _ h9 => h9) rfl dX4_claim_100 ?_
            refine lv_iload_n hx hb dX4_claim_103 rfl (lv_at hl 0 rfl) ?_
            refine lv_iconst (v := (-1)) hx hb dX4_claim_104 (by decide) ?_
            refine pg_ist hx hb hK hP hD hS 15 0 rfl rfl (show n < _ by omega) (by decide) dX4_claim_105 (fun H locs hP hD hS => ?_)
            have hP : va_P D vwCl (pg_wB cI cZ a (u.1, (pg_row (pg_row (pg_row (pg_row u.2 7 (upd (u.2 7) n (nI j))) 8 (upd (u.2 8) n x)) 9 (upd (u.2 9) n (-1))) 10 (upd (u.2 10) n (-1))))) H := hP
            have hD : va_D A (pg_wB cI cZ a (u.1, (pg_row (pg_row (pg_row (pg_row u.2 7 (upd (u.2 7) n (nI j))) 8 (upd (u.2 8) n x)) 9 (upd (u.2 9) n (-1))) 10 (upd (u.2 10) n (-1))))) := hD
            refine lv_aload_n hx hb dX4_claim_106 rfl (lv_at hl 1 rfl) ?_
            refine va_get (D := D) (ci := 4) (v := .ref (a 3)) (C := RX4) (T := TX4) (N := 14) hx hb hts hiX4 hown hK hP 0 rfl rfl 2 (by decide) hw7 (fun _ h9 => h9) rfl dX4_claim_107 ?_
            refine lv_iload_n hx hb dX4_claim_110 rfl (lv_at hl 0 rfl) ?_
            refine lv_iconst (v := 1) hx hb dX4_claim_111 (by decide) ?_
            refine lv_iadd hx hb dX4_claim_112 ?_
            rw [← nI_succ n]
            refine va_put (D := D) (ci := 0) (v := .int (nI (n + 1))) (ty := .int) (C := RX0) (T := TX0) (N := 5) hx hb hts hiX0 tyX0 tyX0_ok nmX0 hown hK hP hD hS 3 rfl rfl 4 (by decide) hw8 (fun _ h9 => h9) rfl (by decide +kernel) rfl rfl (Nat.le_of_ble_eq_true rfl) dX4_claim_113 (fun H locs hP hD hS => ?_)
            have hP : va_P D vwCl (pg_wB cI cZ a ((upd u.1 10 (nI (n + 1))), (pg_row (pg_row (pg_row (pg_row u.2 7 (upd (u.2 7) n (nI j))) 8 (upd (u.2 8) n x)) 9 (upd (u.2 9) n (-1))) 10 (upd (u.2 10) n (-1))))) H := hP
            have hD : va_D A (pg_wB cI cZ a ((upd u.1 10 (nI (n + 1))), (pg_row (pg_row (pg_row (pg_row u.2 7 (upd (u.2 7) n (nI j))) 8 (upd (u.2 8) n x)) 9 (upd (u.2 9) n (-1))) 10 (upd (u.2 10) n (-1))))) := hD
            refine lv_iload_n hx hb dX4_claim_116 rfl (lv_at hl 0 rfl) ?_
            exact W.iret (v := nI n) hx hb hr (fun t9 ht9 hW9 => ⟨⟨nI n, ((upd u.1 10 (nI (n + 1))), (pg_row (pg_row (pg_row (pg_row u.2 7 (upd (u.2 7) n (nI j))) 8 (upd (u.2 8) n x)) 9 (upd (u.2 9) n (-1))) 10 (upd (u.2 10) n (-1)))), rfl, ⟨rfl, rfl⟩, by rw [ht9]; exact hP, va_K.moved hW9.alike hK, hD⟩, hS.F ht9⟩) hS.2.2 dX4_claim_117
          · have d_53 := pg_le_t (Int32.not_lt.mp c_53)
            exact absurd hthr (by first | (simp only [pg_t_claim, c_2, hcl, c_9, c_13, d_29, d_53, cond_true, cond_false, Bool.not_true, Bool.not_false]; done) | (simp only [pg_t_claim, c_2, hcl, c_9, c_13, d_29, d_53, cond_true, cond_false, Bool.not_true, Bool.not_false]; decide))
        · have d_29 := pg_le_f c_29
          exact absurd hthr (by first | (simp only [pg_t_claim, c_2, hcl, c_9, c_13, d_29, cond_true, cond_false, Bool.not_true, Bool.not_false]; done) | (simp only [pg_t_claim, c_2, hcl, c_9, c_13, d_29, cond_true, cond_false, Bool.not_true, Bool.not_false]; decide))
    · exact absurd hthr (by first | (simp only [pg_t_claim, c_2, hcl, c_9, cond_true, cond_false, Bool.not_true, Bool.not_false]; done) | (simp only [pg_t_claim, c_2, hcl, c_9, cond_true, cond_false, Bool.not_true, Bool.not_false]; decide))
  · exact absurd hthr (by first | (simp only [pg_t_claim, c_2, cond_true, cond_false, Bool.not_true, Bool.not_false]; done) | (simp only [pg_t_claim, c_2, cond_true, cond_false, Bool.not_true, Bool.not_false]; decide))
set_option maxHeartbeats 4000000 in
set_option maxRecDepth 100000 in
/-- cc_claim: throws -/
theorem cc_claim_no (l : Launch) (hfl : l.stackTraces = false) (D : va_G) (cI cZ : ClassId) (a : Nat → Nat) (sz : Nat) (u : pg_St) (n : Nat) (hn : u.1 10 = nI n) (h20 : n ≤ 20) (k x : Int32) (e9 : Int32) (nm : String) (hthr : pg_t_claim (!pg_eq (u.1 3) (-1)) (u.1 3) u.2 (nI n) k x = e9) (h0 : e9 ≠ 0) (h9_1 : e9 = 1 → nm = pg_io) (h9_2 : e9 = 2 → nm = pg_ia) (h9_3 : e9 = 3 → nm = pg_is) : vx_Met l yX4_claim wsX4_claim ({ frames := 7, cells := 1, slots := 6, locals := 108 }) (va_Pc [.ref (a 0), .int k, .int x] (pg_T D (pg_ty cI cZ) (pg_wB cI cZ a u) sz)) pg_No (pg_X D (pg_wB cI cZ a u) (va_A (pg_wB cI cZ a u) sz) nm) 1 6 (va_A (pg_wB cI cZ a u) sz) := by
  refine vx_ofW (cc := cX4_claim) (maxL := 4) (ret := (some .int)) (by decide) rfl ?_
  intro p e s m args below meth c s₁ B hml hout hv
  obtain ⟨rfl, ⟨hsz, hP, hK, hD0⟩, hE⟩ := hv
  have hx := B.exec
  have hb := B.bytes
  have hr := B.returns
  have hts := atoms_spec (ws := wsX4_claim) B.pre
  have hown : s.vm.findClass RX4 = some m.cls := findClass_of_methodNamed B.named
  have hlocks := B.notSynchronized
  subst hsz
  have hD := hD0.self (sz := s.heap.size)
  generalize hAe : va_A (pg_wB cI cZ a u) s.heap.size = A at hD hE ⊢
  have hA : ∀ q : Nat, s.heap.size ≤ q → A q := fun q h => by rw [← hAe]; exact Or.inr h
  have hS : va_S A s.heap s.heap [] := va_S.rf
  have hl := lv_entry ([.ref (a 0), .int k, .int x]) (n := 4) (Nat.le_of_ble_eq_true rfl)
  rw [lg_entry_eq]
  generalize (lg_sl ([.ref (a 0), .int k, .int x]) ++ List.replicate (4 - (lg_sl ([.ref (a 0), .int k, .int x])).length) Slot.unset).toArray = ls at hl ⊢
  have hl : lv_has ls 4 [(0, .ref (a 0)), (1, .int k), (2, .int x)] := hl
  have hiX0 : ∀ w ∈ wsX00, w ∈ wsX4_claim := fun _ h => List.mem_cons_of_mem _ (List.mem_append_left _ (List.mem_append_left _ (List.mem_append_left _ (List.mem_append_right _ (h)))))
  have hiX3 : ∀ w ∈ wsX30, w ∈ wsX4_claim := fun _ h => List.mem_cons_of_mem _ (List.mem_append_left _ (List.mem_append_left _ (List.mem_append_left _ (List.mem_append_left _ (List.mem_append_right _ (h))))))
  have hiX4 : ∀ w ∈ wsX40, w ∈ wsX4_claim := fun _ h => List.mem_cons_of_mem _ (List.mem_append_left _ (List.mem_append_left _ (List.mem_append_left _ (List.mem_append_left _ (List.mem_append_left _ (List.mem_append_right _ (h)))))))
  have hw1 := hts (.classLink RX4 124 "java/lang/IllegalStateException") (List.mem_of_getElem? (i := 1) rfl)
  have hw2 := hts (.initialized "java/lang/IllegalStateException") (List.mem_of_getElem? (i := 2) rfl)
  have hw3 := hts (.constant RX4 44 (10000000)) (List.mem_of_getElem? (i := 3) rfl)
  have hw4 := hts (.fieldLink RX4 37 "PegBox" "day" "I") (List.mem_of_getElem? (i := 4) rfl)
  have hw5 := hts (.fieldLink RX4 19 "PegBox" "kinds" "LPegBox$Kinds;") (List.mem_of_getElem? (i := 5) rfl)
  have hw6 := hts (.fieldLink RX4 87 "PegBox$Kinds" "lastDays" "[I") (List.mem_of_getElem? (i := 6) rfl)
  have hw7 := hts (.fieldLink RX4 26 "PegBox" "book" "LPegBox$ClaimBook;") (List.mem_of_getElem? (i := 7) rfl)
  have hw8 := hts (.fieldLink RX4 136 "PegBox$ClaimBook" "count" "I") (List.mem_of_getElem? (i := 8) rfl)
  refine lv_iload_n hx hb dX4_claim_0 rfl (lv_at hl 1 rfl) ?_
  refine lv_iconst (v := 3) hx hb dX4_claim_1 (by decide) ?_
  rcases Bool.eq_false_or_eq_true (pg_nb k 3) with c_2 | c_2
  · refine pg_vU (pg_rS (As := [.int k, .int 3]) (rest := []) ⟨hx, hb, hml, hown, hts⟩ (cc_num_ok l D (pg_ty cI cZ) (pg_wB cI cZ a u) s.heap.size k 3 c_2) (va_cwS 2 hts gX4_claim_X4_checkNumber rfl rfl rfl (by decide +kernel) ⟨Nat.le_of_ble_eq_true rfl, Nat.le_of_ble_eq_true rfl⟩) hK hP hD rfl hl.1 rfl (Nat.le_of_ble_eq_true rfl) dX4_claim_2 ⟨Nat.le_of_ble_eq_true rfl, Nat.le_of_ble_eq_true rfl⟩) hD hS hA (fun H locs hP hD hS => ?_)
    obtain ⟨j, hj, rfl⟩ := pg_nb_nI (n := 3) (by omega) c_2
    have hcl : (nI j).toNatClampNeg = j := nI_clamp (by omega)
    refine lv_iload_n hx hb dX4_claim_5 rfl (lv_at hl 2 rfl) ?_
    refine lv_iconst (v := 1) hx hb dX4_claim_6 (by decide) ?_
    refine lv_ldc hx hb hown hw3 dX4_claim_7 ?_
    rcases Bool.eq_false_or_eq_true (pg_in x 1 10000000) with c_9 | c_9
    · refine pg_vU (pg_rS (As := [.int x, .int 1, .int 10000000]) (rest := []) ⟨hx, hb, hml, hown, hts⟩ (cc_rng_ok l D (pg_ty cI cZ) (pg_wB cI cZ a u) H.size x 1 10000000 c_9) (va_cwS 3 hts gX4_claim_X4_checkRange rfl rfl rfl (by decide +kernel) ⟨Nat.le_of_ble_eq_true rfl, Nat.le_of_ble_eq_true rfl⟩) hK hP hD rfl hl.1 rfl (Nat.le_of_ble_eq_true rfl) dX4_claim_9 ⟨Nat.le_of_ble_eq_true rfl, Nat.le_of_ble_eq_true rfl⟩) hD hS hA (fun H locs hP hD hS => ?_)
      refine lv_aload_n hx hb dX4_claim_12 rfl (lv_at hl 0 rfl) ?_
      rcases Bool.eq_false_or_eq_true (pg_eq (u.1 3) (-1)) with c_13 | c_13
      · have he : e9 = 3 := hthr.symm.trans (by simp only [pg_t_claim, c_2, hcl, c_9, c_13, cond_true, cond_false, Bool.not_true, Bool.not_false])
        obtain rfl := h9_3 he
        exact pg_thru (pg_xV (As := []) (rest := []) ⟨hx, hb, hml, hown, hts⟩ (cc_cls_no l hfl D cI cZ a H.size u c_13) (cwV 0 hts gX4_claim_X4_checkClosed rfl rfl rfl (by decide +kernel) ⟨Nat.le_of_ble_eq_true rfl, Nat.le_of_ble_eq_true rfl⟩) hK hP hD hS hA hE 0 (ci := 4) rfl rfl rfl rfl hl.1 rfl (Nat.le_of_ble_eq_true rfl) dX4_claim_13 ⟨Nat.le_of_ble_eq_true rfl, Nat.le_of_ble_eq_true rfl⟩) hD hS hA hout hlocks (Nat.le_of_ble_eq_true rfl) (Nat.le_of_ble_eq_true rfl)
      · refine pg_vE (pg_rV (As := []) (rest := []) ⟨hx, hb, hml, hown, hts⟩ (cc_cls_ok l D cI cZ a H.size u c_13) (cwV 0 hts gX4_claim_X4_checkClosed rfl rfl rfl (by decide +kernel) ⟨Nat.le_of_ble_eq_true rfl, Nat.le_of_ble_eq_true rfl⟩) hK hP hD 0 (ci := 4) rfl rfl rfl rfl hl.1 rfl (Nat.le_of_ble_eq_true rfl) dX4_claim_13 ⟨Nat.le_of_ble_eq_true rfl, Nat.le_of_ble_eq_true rfl⟩) hD hS hA (fun H locs hP hD hS => ?_)
        refine lv_aload_n hx hb dX4_claim_16 rfl (lv_at hl 0 rfl) ?_
        refine va_get (D := D) (ci := 4) (v := .int (u.1 3)) (C := RX4) (T := TX4) (N := 14) hx hb hts hiX4 hown hK hP 0 rfl rfl 7 (by decide) hw4 (fun _ h9 => h9) rfl dX4_claim_17 ?_
        refine lv_aload_n hx hb dX4_claim_20 rfl (lv_at hl 0 rfl) ?_
        refine va_get (D := D) (ci := 4) (v := .ref (a 2)) (C := RX4) (T := TX4) (N := 14) hx hb hts hiX4 hown hK hP 0 rfl rfl 1 (by decide) hw5 (fun _ h9 => h9) rfl dX4_claim_21 ?_
        refine va_get (D := D) (ci := 3) (v := .ref (a 11)) (C := RX3) (T := TX3) (N := 5) hx hb hts hiX3 hown hK hP 2 rfl rfl 4 (by decide) hw6 (fun _ h9 => h9) rfl dX4_claim_24 ?_
        refine lv_iload_n hx hb dX4_claim_27 rfl (lv_at hl 1 rfl) ?_
        refine pg_ild (f := u.2 6) hx hb hK hP 11 0 rfl rfl (show j < _ by omega) (by decide) dX4_claim_28 ?_
        refine lv_icmp_le (tgt := 42) hx hb dX4_claim_29 (by decide) (fun c_29 => ?_) (fun c_29 => ?_)
        · have d_29 := pg_le_t c_29
          refine lv_aload_n hx hb dX4_claim_42 rfl (lv_at hl 0 rfl) ?_
          refine va_get (D := D) (ci := 4) (v := .ref (a 3)) (C := RX4) (T := TX4) (N := 14) hx hb hts hiX4 hown hK hP 0 rfl rfl 2 (by decide) hw7 (fun _ h9 => h9) rfl dX4_claim_43 ?_
          refine va_get (D := D) (ci := 0) (v := .int (u.1 10)) (C := RX0) (T := TX0) (N := 5) hx hb hts hiX0 hown hK hP 3 rfl rfl 4 (by decide) hw8 (fun _ h9 => h9) rfl dX4_claim_46 ?_
          rw [hn]
          refine lv_istore_n (lv' := [(3, .int (nI n)), (0, .ref (a 0)), (1, .int (nI j)), (2, .int x)]) hx hb dX4_claim_49 rfl hl (by decide) rfl (fun ls hl => ?_)
          refine lv_iload_n hx hb dX4_claim_50 rfl (lv_at hl 0 rfl) ?_
          refine lv_bipush (v := 20) hx hb dX4_claim_51 (by decide) ?_
          refine lv_icmp_lt (tgt := 66) hx hb dX4_claim_53 (by decide) (fun c_53 => ?_) (fun c_53 => ?_)
          · have d_53 := pg_le_f (Int32.not_le.mpr c_53)
            exact absurd (hthr.symm.trans (by simp only [pg_t_claim, c_2, hcl, c_9, c_13, d_29, d_53, cond_true, cond_false, Bool.not_true, Bool.not_false])) h0
          · have d_53 := pg_le_t (Int32.not_lt.mp c_53)
            have he : e9 = 3 := hthr.symm.trans (by simp only [pg_t_claim, c_2, hcl, c_9, c_13, d_29, d_53, cond_true, cond_false, Bool.not_true, Bool.not_false])
            obtain rfl := h9_3 he
            exact pg_thr (nm := pg_is) (i := 7) hx hb hfl hown (by decide +kernel) hw1 hw2 rfl (fun w9 h => hts w9 (List.mem_cons_of_mem _ (List.mem_append_left _ (List.mem_append_left _ (List.mem_append_right _ (h)))))) pg_h2_is pg_hg_is hE hP hS hA (by rw [hml]; exact hl.1) dX4_claim_56 dX4_claim_59 dX4_claim_60 dX4_claim_62 dX4_claim_65 hout (Nat.le_of_ble_eq_true rfl) (Nat.le_of_ble_eq_true rfl) (Nat.le_of_ble_eq_true rfl) (Nat.le_of_ble_eq_true rfl) hlocks (Nat.le_of_ble_eq_true rfl) (Nat.le_of_ble_eq_true rfl)
        · have d_29 := pg_le_f c_29
          have he : e9 = 3 := hthr.symm.trans (by simp only [pg_t_claim, c_2, hcl, c_9, c_13, d_29, cond_true, cond_false, Bool.not_true, Bool.not_false])
          obtain rfl := h9_3 he
          exact pg_thr (nm := pg_is) (i := 6) hx hb hfl hown (by decide +kernel) hw1 hw2 rfl (fun w9 h => hts w9 (List.mem_cons_of_mem _ (List.mem_append_left _ (List.mem_append_left _ (List.mem_append_right _ (h)))))) pg_h2_is pg_hg_is hE hP hS hA (by rw [hml]; exact hl.1) dX4_claim_32 dX4_claim_35 dX4_claim_36 dX4_claim_38 dX4_claim_41 hout (Nat.le_of_ble_eq_true rfl) (Nat.le_of_ble_eq_true rfl) (Nat.le_of_ble_eq_true rfl) (Nat.le_of_ble_eq_true rfl) hlocks (Nat.le_of_ble_eq_true rfl) (Nat.le_of_ble_eq_true rfl)
    · have he : e9 = 2 := hthr.symm.trans (by simp only [pg_t_claim, c_2, hcl, c_9, cond_true, cond_false, Bool.not_true, Bool.not_false])
      obtain rfl := h9_2 he
      exact pg_thru (pg_xS (As := [.int x, .int 1, .int 10000000]) (rest := []) ⟨hx, hb, hml, hown, hts⟩ (cc_rng_no l hfl D (pg_ty cI cZ) (pg_wB cI cZ a u) H.size x 1 10000000 c_9) (va_cwS 3 hts gX4_claim_X4_checkRange rfl rfl rfl (by decide +kernel) ⟨Nat.le_of_ble_eq_true rfl, Nat.le_of_ble_eq_true rfl⟩) hK hP hD hS hA hE rfl hl.1 rfl (Nat.le_of_ble_eq_true rfl) dX4_claim_9 ⟨Nat.le_of_ble_eq_true rfl, Nat.le_of_ble_eq_true rfl⟩) hD hS hA hout hlocks (Nat.le_of_ble_eq_true rfl) (Nat.le_of_ble_eq_true rfl)
  · have he : e9 = 1 := hthr.symm.trans (by simp only [pg_t_claim, c_2, cond_true, cond_false, Bool.not_true, Bool.not_false])
    obtain rfl := h9_1 he
    exact pg_thru (pg_xS (As := [.int k, .int 3]) (rest := []) ⟨hx, hb, hml, hown, hts⟩ (cc_num_no l hfl D (pg_ty cI cZ) (pg_wB cI cZ a u) s.heap.size k 3 c_2) (va_cwS 2 hts gX4_claim_X4_checkNumber rfl rfl rfl (by decide +kernel) ⟨Nat.le_of_ble_eq_true rfl, Nat.le_of_ble_eq_true rfl⟩) hK hP hD hS hA hE rfl hl.1 rfl (Nat.le_of_ble_eq_true rfl) dX4_claim_2 ⟨Nat.le_of_ble_eq_true rfl, Nat.le_of_ble_eq_true rfl⟩) hD hS hA hout hlocks (Nat.le_of_ble_eq_true rfl) (Nat.le_of_ble_eq_true rfl)
set_option maxHeartbeats 4000000 in
set_option maxRecDepth 100000 in
/-- cc_offer: returns -/
theorem cc_offer_ok (l : Launch) (D : va_G) (cI cZ : ClassId) (a : Nat → Nat) (sz : Nat) (u : pg_St) (n : Nat) (hn : u.1 10 = nI n) (h20 : n ≤ 20) (k x : Int32) (hthr : pg_t_offer u.2 (nI n) k x = 0) : Met l yX4_offer wsX4_offer ({ frames := 1, cells := 0, slots := 0, locals := 22 }) (va_Pc [.ref (a 0), .int k, .int x] (pg_B D (pg_ty cI cZ) (pg_wB cI cZ a u) sz)) (va_Qi (fun r u' => r = u.2 9 k.toNatClampNeg ∧ u' = (u.1, pg_row u.2 9 (upd (u.2 9) k.toNatClampNeg x))) (pg_E D (pg_ty cI cZ) (va_A (pg_wB cI cZ a u) sz) (pg_wB cI cZ a)) (va_A (pg_wB cI cZ a u) sz)) 0 0 (va_A (pg_wB cI cZ a u) sz) := by
  refine Met.ofW (cc := cX4_offer) (maxL := 4) (ret := (some .int)) (by decide) rfl ?_
  intro p e s m args below meth c s₁ B hml hv
  obtain ⟨rfl, hsz, hP, hK, hD0⟩ := hv
  have hx := B.exec
  have hb := B.bytes
  have hr := B.returns
  have hts := atoms_spec (ws := wsX4_offer) B.pre
  have hown : s.vm.findClass RX4 = some m.cls := findClass_of_methodNamed B.named
  have hlocks := B.notSynchronized
  subst hsz
  have hD := hD0.self (sz := s.heap.size)
  generalize hAe : va_A (pg_wB cI cZ a u) s.heap.size = A at hD ⊢
  have hA : ∀ q : Nat, s.heap.size ≤ q → A q := fun q h => by rw [← hAe]; exact Or.inr h
  have hS : va_S A s.heap s.heap [] := va_S.rf
  have hl := lv_entry ([.ref (a 0), .int k, .int x]) (n := 4) (Nat.le_of_ble_eq_true rfl)
  rw [lg_entry_eq]
  generalize (lg_sl ([.ref (a 0), .int k, .int x]) ++ List.replicate (4 - (lg_sl ([.ref (a 0), .int k, .int x])).length) Slot.unset).toArray = ls at hl ⊢
  have hl : lv_has ls 4 [(0, .ref (a 0)), (1, .int k), (2, .int x)] := hl
  have hiX0 : ∀ w ∈ wsX00, w ∈ wsX4_offer := fun _ h => List.mem_cons_of_mem _ (List.mem_append_left _ (List.mem_append_left _ (List.mem_append_left _ (List.mem_append_right _ (h)))))
  have hiX4 : ∀ w ∈ wsX40, w ∈ wsX4_offer := fun _ h => List.mem_cons_of_mem _ (List.mem_append_left _ (List.mem_append_left _ (List.mem_append_left _ (List.mem_append_left _ (List.mem_append_right _ (h))))))
  have hw1 := hts (.fieldLink RX4 26 "PegBox" "book" "LPegBox$ClaimBook;") (List.mem_of_getElem? (i := 1) rfl)
  have hw2 := hts (.fieldLink RX4 136 "PegBox$ClaimBook" "count" "I") (List.mem_of_getElem? (i := 2) rfl)
  have hw3 := hts (.fieldLink RX4 147 "PegBox$ClaimBook" "settled" "[I") (List.mem_of_getElem? (i := 3) rfl)
  have hw4 := hts (.fieldLink RX4 143 "PegBox$ClaimBook" "amounts" "[I") (List.mem_of_getElem? (i := 4) rfl)
  have hw5 := hts (.fieldLink RX4 144 "PegBox$ClaimBook" "offers" "[I") (List.mem_of_getElem? (i := 5) rfl)
  refine lv_iload_n hx hb dX4_offer_0 rfl (lv_at hl 1 rfl) ?_
  refine lv_aload_n hx hb dX4_offer_1 rfl (lv_at hl 0 rfl) ?_
  refine va_get (D := D) (ci := 4) (v := .ref (a 3)) (C := RX4) (T := TX4) (N := 14) hx hb hts hiX4 hown hK hP 0 rfl rfl 2 (by decide) hw1 (fun _ h9 => h9) rfl dX4_offer_2 ?_
  refine va_get (D := D) (ci := 0) (v := .int (u.1 10)) (C := RX0) (T := TX0) (N := 5) hx hb hts hiX0 hown hK hP 3 rfl rfl 4 (by decide) hw2 (fun _ h9 => h9) rfl dX4_offer_5 ?_
  rw [hn]
  rcases Bool.eq_false_or_eq_true (pg_nb k (nI n)) with c_8 | c_8
  · refine pg_vU (pg_rS (As := [.int k, .int (nI n)]) (rest := []) ⟨hx, hb, hml, hown, hts⟩ (cc_num_ok l D (pg_ty cI cZ) (pg_wB cI cZ a u) s.heap.size k (nI n) c_8) (va_cwS 2 hts gX4_offer_X4_checkNumber rfl rfl rfl (by decide +kernel) ⟨Nat.le_of_ble_eq_true rfl, Nat.le_of_ble_eq_true rfl⟩) hK hP hD rfl hl.1 rfl (Nat.le_of_ble_eq_true rfl) dX4_offer_8 ⟨Nat.le_of_ble_eq_true rfl, Nat.le_of_ble_eq_true rfl⟩) hD hS hA (fun H locs hP hD hS => ?_)
    obtain ⟨j, hj, rfl⟩ := pg_nb_nI (n := n) (by omega) c_8
    have hcl : (nI j).toNatClampNeg = j := nI_clamp (by omega)
    refine lv_aload_n hx hb dX4_offer_11 rfl (lv_at hl 0 rfl) ?_
    refine va_get (D := D) (ci := 4) (v := .ref (a 3)) (C := RX4) (T := TX4) (N := 14) hx hb hts hiX4 hown hK hP 0 rfl rfl 2 (by decide) hw1 (fun _ h9 => h9) rfl dX4_offer_12 ?_
    refine va_get (D := D) (ci := 0) (v := .ref (a 15)) (C := RX0) (T := TX0) (N := 5) hx hb hts hiX0 hown hK hP 3 rfl rfl 3 (by decide) hw3 (fun _ h9 => h9) rfl dX4_offer_15 ?_
    refine lv_iload_n hx hb dX4_offer_18 rfl (lv_at hl 1 rfl) ?_
    refine pg_ild (f := u.2 10) hx hb hK hP 15 0 rfl rfl (show j < _ by omega) (by decide) dX4_offer_19 ?_
    rcases Bool.eq_false_or_eq_true (pg_eq (u.2 10 j) (-1)) with c_20 | c_20
    · refine pg_vU (pg_rS (As := [.int (u.2 10 j)]) (rest := []) ⟨hx, hb, hml, hown, hts⟩ (cc_opn_ok l D (pg_ty cI cZ) (pg_wB cI cZ a u) H.size (u.2 10 j) c_20) (va_cwS 1 hts gX4_offer_X4_checkOpen rfl rfl rfl (by decide +kernel) ⟨Nat.le_of_ble_eq_true rfl, Nat.le_of_ble_eq_true rfl⟩) hK hP hD rfl hl.1 rfl (Nat.le_of_ble_eq_true rfl) dX4_offer_20 ⟨Nat.le_of_ble_eq_true rfl, Nat.le_of_ble_eq_true rfl⟩) hD hS hA (fun H locs hP hD hS => ?_)
      refine lv_iload_n hx hb dX4_offer_23 rfl (lv_at hl 2 rfl) ?_
      refine lv_iconst (v := 0) hx hb dX4_offer_24 (by decide) ?_
      refine lv_aload_n hx hb dX4_offer_25 rfl (lv_at hl 0 rfl) ?_
      refine va_get (D := D) (ci := 4) (v := .ref (a 3)) (C := RX4) (T := TX4) (N := 14) hx hb hts hiX4 hown hK hP 0 rfl rfl 2 (by decide) hw1 (fun _ h9 => h9) rfl dX4_offer_26 ?_
      refine va_get (D := D) (ci := 0) (v := .ref (a 13)) (C := RX0) (T := TX0) (N := 5) hx hb hts hiX0 hown hK hP 3 rfl rfl 1 (by decide) hw4 (fun _ h9 => h9) rfl dX4_offer_29 ?_
      refine lv_iload_n hx hb dX4_offer_32 rfl (lv_at hl 1 rfl) ?_
      refine pg_ild (f := u.2 8) hx hb hK hP 13 0 rfl rfl (show j < _ by omega) (by decide) dX4_offer_33 ?_
      rcases Bool.eq_false_or_eq_true (pg_in x 0 (u.2 8 j)) with c_34 | c_34
      · refine pg_vU (pg_rS (As := [.int x, .int 0, .int (u.2 8 j)]) (rest := []) ⟨hx, hb, hml, hown, hts⟩ (cc_rng_ok l D (pg_ty cI cZ) (pg_wB cI cZ a u) H.size x 0 (u.2 8 j) c_34) (va_cwS 3 hts gX4_offer_X4_checkRange rfl rfl rfl (by decide +kernel) ⟨Nat.le_of_ble_eq_true rfl, Nat.le_of_ble_eq_true rfl⟩) hK hP hD rfl hl.1 rfl (Nat.le_of_ble_eq_true rfl) dX4_offer_34 ⟨Nat.le_of_ble_eq_true rfl, Nat.le_of_ble_eq_true rfl⟩) hD hS hA (fun H locs hP hD hS => ?_)
        refine lv_aload_n hx hb dX4_offer_37 rfl (lv_at hl 0 rfl) ?_
        refine va_get (D := D) (ci := 4) (v := .ref (a 3)) (C := RX4) (T := TX4) (N := 14) hx hb hts hiX4 hown hK hP 0 rfl rfl 2 (by decide) hw1 (fun _ h9 => h9) rfl dX4_offer_38 ?_
        refine va_get (D := D) (ci := 0) (v := .ref (a 14)) (C := RX0) (T := TX0) (N := 5) hx hb hts hiX0 hown hK hP 3 rfl rfl 2 (by decide) hw5 (fun _ h9 => h9) rfl dX4_offer_41 ?_
        refine lv_iload_n hx hb dX4_offer_44 rfl (lv_at hl 1 rfl) ?_
        refine pg_ild (f := u.2 9) hx hb hK hP 14 0 rfl rfl (show j < _ by omega) (by decide) dX4_offer_45 ?_
        refine lv_istore_n (lv' := [(3, .int (u.2 9 j)), (0, .ref (a 0)), (1, .int (nI j)), (2, .int x)]) hx hb dX4_offer_46 rfl hl (by decide) rfl (fun ls hl => ?_)
        refine lv_aload_n hx hb dX4_offer_47 rfl (lv_at hl 1 rfl) ?_
        refine va_get (D := D) (ci := 4) (v := .ref (a 3)) (C := RX4) (T := TX4) (N := 14) hx hb hts hiX4 hown hK hP 0 rfl rfl 2 (by decide) hw1 (fun _ h9 => h9) rfl dX4_offer_48 ?_
        refine va_get (D := D) (ci := 0) (v := .ref (a 14)) (C := RX0) (T := TX0) (N := 5) hx hb hts hiX0 hown hK hP 3 rfl rfl 2 (by decide) hw5 (fun _ h9 => h9) rfl dX4_offer_51 ?_
        refine lv_iload_n hx hb dX4_offer_54 rfl (lv_at hl 2 rfl) ?_
        refine lv_iload_n hx hb dX4_offer_55 rfl (lv_at hl 3 rfl) ?_
        refine pg_ist hx hb hK hP hD hS 14 0 rfl rfl (show j < _ by omega) (by decide) dX4_offer_56 (fun H locs hP hD hS => ?_)
        have hP : va_P D vwCl (pg_wB cI cZ a (u.1, (pg_row u.2 9 (upd (u.2 9) j x)))) H := hP
        have hD : va_D A (pg_wB cI cZ a (u.1, (pg_row u.2 9 (upd (u.2 9) j x)))) := hD
        refine lv_iload_n hx hb dX4_offer_57 rfl (lv_at hl 0 rfl) ?_
        exact W.iret (v := u.2 9 j) hx hb hr (fun t9 ht9 hW9 => ⟨⟨u.2 9 j, (u.1, (pg_row u.2 9 (upd (u.2 9) j x))), rfl, ⟨by rw [hcl], by rw [hcl]⟩, by rw [ht9]; exact hP, va_K.moved hW9.alike hK, hD⟩, hS.F ht9⟩) hS.2.2 dX4_offer_58
      · exact absurd hthr (by first | (simp only [pg_t_offer, c_8, hcl, c_20, c_34, cond_true, cond_false, Bool.not_true, Bool.not_false]; done) | (simp only [pg_t_offer, c_8, hcl, c_20, c_34, cond_true, cond_false, Bool.not_true, Bool.not_false]; decide))
    · exact absurd hthr (by first | (simp only [pg_t_offer, c_8, hcl, c_20, cond_true, cond_false, Bool.not_true, Bool.not_false]; done) | (simp only [pg_t_offer, c_8, hcl, c_20, cond_true, cond_false, Bool.not_true, Bool.not_false]; decide))
  · exact absurd hthr (by first | (simp only [pg_t_offer, c_8, cond_true, cond_false, Bool.not_true, Bool.not_false]; done) | (simp only [pg_t_offer, c_8, cond_true, cond_false, Bool.not_true, Bool.not_false]; decide))
set_option maxHeartbeats 4000000 in
set_option maxRecDepth 100000 in
/-- cc_offer: throws -/
theorem cc_offer_no (l : Launch) (hfl : l.stackTraces = false) (D : va_G) (cI cZ : ClassId) (a : Nat → Nat) (sz : Nat) (u : pg_St) (n : Nat) (hn : u.1 10 = nI n) (h20 : n ≤ 20) (k x : Int32) (e9 : Int32) (nm : String) (hthr : pg_t_offer u.2 (nI n) k x = e9) (h0 : e9 ≠ 0) (h9_1 : e9 = 1 → nm = pg_io) (h9_2 : e9 = 2 → nm = pg_is) (h9_3 : e9 = 3 → nm = pg_ia) : vx_Met l yX4_offer wsX4_offer ({ frames := 7, cells := 1, slots := 6, locals := 108 }) (va_Pc [.ref (a 0), .int k, .int x] (pg_T D (pg_ty cI cZ) (pg_wB cI cZ a u) sz)) pg_No (pg_X D (pg_wB cI cZ a u) (va_A (pg_wB cI cZ a u) sz) nm) 1 6 (va_A (pg_wB cI cZ a u) sz) := by
  refine vx_ofW (cc := cX4_offer) (maxL := 4) (ret := (some .int)) (by decide) rfl ?_
  intro p e s m args below meth c s₁ B hml hout hv
  obtain ⟨rfl, ⟨hsz, hP, hK, hD0⟩, hE⟩ := hv
  have hx := B.exec
  have hb := B.bytes
  have hr := B.returns
  have hts := atoms_spec (ws := wsX4_offer) B.pre
  have hown : s.vm.findClass RX4 = some m.cls := findClass_of_methodNamed B.named
  have hlocks := B.notSynchronized
  subst hsz
  have hD := hD0.self (sz := s.heap.size)
  generalize hAe : va_A (pg_wB cI cZ a u) s.heap.size = A at hD hE ⊢
  have hA : ∀ q : Nat, s.heap.size ≤ q → A q := fun q h => by rw [← hAe]; exact Or.inr h
  have hS : va_S A s.heap s.heap [] := va_S.rf
  have hl := lv_entry ([.ref (a 0), .int k, .int x]) (n := 4) (Nat.le_of_ble_eq_true rfl)
  rw [lg_entry_eq]
  generalize (lg_sl ([.ref (a 0), .int k, .int x]) ++ List.replicate (4 - (lg_sl ([.ref (a 0), .int k, .int x])).length) Slot.unset).toArray = ls at hl ⊢
  have hl : lv_has ls 4 [(0, .ref (a 0)), (1, .int k), (2, .int x)] := hl
  have hiX0 : ∀ w ∈ wsX00, w ∈ wsX4_offer := fun _ h => List.mem_cons_of_mem _ (List.mem_append_left _ (List.mem_append_left _ (List.mem_append_left _ (List.mem_append_right _ (h)))))
  have hiX4 : ∀ w ∈ wsX40, w ∈ wsX4_offer := fun _ h => List.mem_cons_of_mem _ (List.mem_append_left _ (List.mem_append_left _ (List.mem_append_left _ (List.mem_append_left _ (List.mem_append_right _ (h))))))
  have hw1 := hts (.fieldLink RX4 26 "PegBox" "book" "LPegBox$ClaimBook;") (List.mem_of_getElem? (i := 1) rfl)
  have hw2 := hts (.fieldLink RX4 136 "PegBox$ClaimBook" "count" "I") (List.mem_of_getElem? (i := 2) rfl)
  have hw3 := hts (.fieldLink RX4 147 "PegBox$ClaimBook" "settled" "[I") (List.mem_of_getElem? (i := 3) rfl)
  have hw4 := hts (.fieldLink RX4 143 "PegBox$ClaimBook" "amounts" "[I") (List.mem_of_getElem? (i := 4) rfl)
  refine lv_iload_n hx hb dX4_offer_0 rfl (lv_at hl 1 rfl) ?_
  refine lv_aload_n hx hb dX4_offer_1 rfl (lv_at hl 0 rfl) ?_
  refine va_get (D := D) (ci := 4) (v := .ref (a 3)) (C := RX4) (T := TX4) (N := 14) hx hb hts hiX4 hown hK hP 0 rfl rfl 2 (by decide) hw1 (fun _ h9 => h9) rfl dX4_offer_2 ?_
  refine va_get (D := D) (ci := 0) (v := .int (u.1 10)) (C := RX0) (T := TX0) (N := 5) hx hb hts hiX0 hown hK hP 3 rfl rfl 4 (by decide) hw2 (fun _ h9 => h9) rfl dX4_offer_5 ?_
  rw [hn]
  rcases Bool.eq_false_or_eq_true (pg_nb k (nI n)) with c_8 | c_8
  · refine pg_vU (pg_rS (As := [.int k, .int (nI n)]) (rest := []) ⟨hx, hb, hml, hown, hts⟩ (cc_num_ok l D (pg_ty cI cZ) (pg_wB cI cZ a u) s.heap.size k (nI n) c_8) (va_cwS 2 hts gX4_offer_X4_checkNumber rfl rfl rfl (by decide +kernel) ⟨Nat.le_of_ble_eq_true rfl, Nat.le_of_ble_eq_true rfl⟩) hK hP hD rfl hl.1 rfl (Nat.le_of_ble_eq_true rfl) dX4_offer_8 ⟨Nat.le_of_ble_eq_true rfl, Nat.le_of_ble_eq_true rfl⟩) hD hS hA (fun H locs hP hD hS => ?_)
    obtain ⟨j, hj, rfl⟩ := pg_nb_nI (n := n) (by omega) c_8
    have hcl : (nI j).toNatClampNeg = j := nI_clamp (by omega)
    refine lv_aload_n hx hb dX4_offer_11 rfl (lv_at hl 0 rfl) ?_
    refine va_get (D := D) (ci := 4) (v := .ref (a 3)) (C := RX4) (T := TX4) (N := 14) hx hb hts hiX4 hown hK hP 0 rfl rfl 2 (by decide) hw1 (fun _ h9 => h9) rfl dX4_offer_12 ?_
    refine va_get (D := D) (ci := 0) (v := .ref (a 15)) (C := RX0) (T := TX0) (N := 5) hx hb hts hiX0 hown hK hP 3 rfl rfl 3 (by decide) hw3 (fun _ h9 => h9) rfl dX4_offer_15 ?_
    refine lv_iload_n hx hb dX4_offer_18 rfl (lv_at hl 1 rfl) ?_
    refine pg_ild (f := u.2 10) hx hb hK hP 15 0 rfl rfl (show j < _ by omega) (by decide) dX4_offer_19 ?_
    rcases Bool.eq_false_or_eq_true (pg_eq (u.2 10 j) (-1)) with c_20 | c_20
    · refine pg_vU (pg_rS (As := [.int (u.2 10 j)]) (rest := []) ⟨hx, hb, hml, hown, hts⟩ (cc_opn_ok l D (pg_ty cI cZ) (pg_wB cI cZ a u) H.size (u.2 10 j) c_20) (va_cwS 1 hts gX4_offer_X4_checkOpen rfl rfl rfl (by decide +kernel) ⟨Nat.le_of_ble_eq_true rfl, Nat.le_of_ble_eq_true rfl⟩) hK hP hD rfl hl.1 rfl (Nat.le_of_ble_eq_true rfl) dX4_offer_20 ⟨Nat.le_of_ble_eq_true rfl, Nat.le_of_ble_eq_true rfl⟩) hD hS hA (fun H locs hP hD hS => ?_)
      refine lv_iload_n hx hb dX4_offer_23 rfl (lv_at hl 2 rfl) ?_
      refine lv_iconst (v := 0) hx hb dX4_offer_24 (by decide) ?_
      refine lv_aload_n hx hb dX4_offer_25 rfl (lv_at hl 0 rfl) ?_
      refine va_get (D := D) (ci := 4) (v := .ref (a 3)) (C := RX4) (T := TX4) (N := 14) hx hb hts hiX4 hown hK hP 0 rfl rfl 2 (by decide) hw1 (fun _ h9 => h9) rfl dX4_offer_26 ?_
      refine va_get (D := D) (ci := 0) (v := .ref (a 13)) (C := RX0) (T := TX0) (N := 5) hx hb hts hiX0 hown hK hP 3 rfl rfl 1 (by decide) hw4 (fun _ h9 => h9) rfl dX4_offer_29 ?_
      refine lv_iload_n hx hb dX4_offer_32 rfl (lv_at hl 1 rfl) ?_
      refine pg_ild (f := u.2 8) hx hb hK hP 13 0 rfl rfl (show j < _ by omega) (by decide) dX4_offer_33 ?_
      rcases Bool.eq_false_or_eq_true (pg_in x 0 (u.2 8 j)) with c_34 | c_34
      · exact absurd (hthr.symm.trans (by simp only [pg_t_offer, c_8, hcl, c_20, c_34, cond_true, cond_false, Bool.not_true, Bool.not_false])) h0
      · have he : e9 = 3 := hthr.symm.trans (by simp only [pg_t_offer, c_8, hcl, c_20, c_34, cond_true, cond_false, Bool.not_true, Bool.not_false])
        obtain rfl := h9_3 he
        exact pg_thru (pg_xS (As := [.int x, .int 0, .int (u.2 8 j)]) (rest := []) ⟨hx, hb, hml, hown, hts⟩ (cc_rng_no l hfl D (pg_ty cI cZ) (pg_wB cI cZ a u) H.size x 0 (u.2 8 j) c_34) (va_cwS 3 hts gX4_offer_X4_checkRange rfl rfl rfl (by decide +kernel) ⟨Nat.le_of_ble_eq_true rfl, Nat.le_of_ble_eq_true rfl⟩) hK hP hD hS hA hE rfl hl.1 rfl (Nat.le_of_ble_eq_true rfl) dX4_offer_34 ⟨Nat.le_of_ble_eq_true rfl, Nat.le_of_ble_eq_true rfl⟩) hD hS hA hout hlocks (Nat.le_of_ble_eq_true rfl) (Nat.le_of_ble_eq_true rfl)
    · have he : e9 = 2 := hthr.symm.trans (by simp only [pg_t_offer, c_8, hcl, c_20, cond_true, cond_false, Bool.not_true, Bool.not_false])
      obtain rfl := h9_2 he
      exact pg_thru (pg_xS (As := [.int (u.2 10 j)]) (rest := []) ⟨hx, hb, hml, hown, hts⟩ (cc_opn_no l hfl D (pg_ty cI cZ) (pg_wB cI cZ a u) H.size (u.2 10 j) c_20) (va_cwS 1 hts gX4_offer_X4_checkOpen rfl rfl rfl (by decide +kernel) ⟨Nat.le_of_ble_eq_true rfl, Nat.le_of_ble_eq_true rfl⟩) hK hP hD hS hA hE rfl hl.1 rfl (Nat.le_of_ble_eq_true rfl) dX4_offer_20 ⟨Nat.le_of_ble_eq_true rfl, Nat.le_of_ble_eq_true rfl⟩) hD hS hA hout hlocks (Nat.le_of_ble_eq_true rfl) (Nat.le_of_ble_eq_true rfl)
  · have he : e9 = 1 := hthr.symm.trans (by simp only [pg_t_offer, c_8, cond_true, cond_false, Bool.not_true, Bool.not_false])
    obtain rfl := h9_1 he
    exact pg_thru (pg_xS (As := [.int k, .int (nI n)]) (rest := []) ⟨hx, hb, hml, hown, hts⟩ (cc_num_no l hfl D (pg_ty cI cZ) (pg_wB cI cZ a u) s.heap.size k (nI n) c_8) (va_cwS 2 hts gX4_offer_X4_checkNumber rfl rfl rfl (by decide +kernel) ⟨Nat.le_of_ble_eq_true rfl, Nat.le_of_ble_eq_true rfl⟩) hK hP hD hS hA hE rfl hl.1 rfl (Nat.le_of_ble_eq_true rfl) dX4_offer_8 ⟨Nat.le_of_ble_eq_true rfl, Nat.le_of_ble_eq_true rfl⟩) hD hS hA hout hlocks (Nat.le_of_ble_eq_true rfl) (Nat.le_of_ble_eq_true rfl)
set_option maxHeartbeats 4000000 in
set_option maxRecDepth 100000 in
/-- cc_decide: returns -/
theorem cc_decide_ok (l : Launch) (D : va_G) (cI cZ : ClassId) (a : Nat → Nat) (sz : Nat) (u : pg_St) (n : Nat) (hn : u.1 10 = nI n) (h20 : n ≤ 20) (k x : Int32) (hthr : pg_t_decide u.2 (nI n) k x = 0) : Met l yX4_decide wsX4_decide ({ frames := 6, cells := 0, slots := 0, locals := 129 }) (va_Pc [.ref (a 0), .int k, .int x] (pg_B D (pg_ty cI cZ) (pg_wB cI cZ a u) sz)) (va_Qi (fun r u' => r = pg_back (pg_at u k.toNatClampNeg x) n ∧ u' = pg_pay (pg_at u k.toNatClampNeg x) n (u.1 3)) (pg_E D (pg_ty cI cZ) (va_A (pg_wB cI cZ a u) sz) (pg_wB cI cZ a)) (va_A (pg_wB cI cZ a u) sz)) 0 0 (va_A (pg_wB cI cZ a u) sz) := by
  refine Met.ofW (cc := cX4_decide) (maxL := 4) (ret := (some .int)) (by decide) rfl ?_
  intro p e s m args below meth c s₁ B hml hv
  obtain ⟨rfl, hsz, hP, hK, hD0⟩ := hv
  have hx := B.exec
  have hb := B.bytes
  have hr := B.returns
  have hts := atoms_spec (ws := wsX4_decide) B.pre
  have hown : s.vm.findClass RX4 = some m.cls := findClass_of_methodNamed B.named
  have hlocks := B.notSynchronized
  subst hsz
  have hD := hD0.self (sz := s.heap.size)
  generalize hAe : va_A (pg_wB cI cZ a u) s.heap.size = A at hD ⊢
  have hA : ∀ q : Nat, s.heap.size ≤ q → A q := fun q h => by rw [← hAe]; exact Or.inr h
  have hS : va_S A s.heap s.heap [] := va_S.rf
  have hl := lv_entry ([.ref (a 0), .int k, .int x]) (n := 4) (Nat.le_of_ble_eq_true rfl)
  rw [lg_entry_eq]
  generalize (lg_sl ([.ref (a 0), .int k, .int x]) ++ List.replicate (4 - (lg_sl ([.ref (a 0), .int k, .int x])).length) Slot.unset).toArray = ls at hl ⊢
  have hl : lv_has ls 4 [(0, .ref (a 0)), (1, .int k), (2, .int x)] := hl
  have hiX0 : ∀ w ∈ wsX00, w ∈ wsX4_decide := fun _ h => List.mem_cons_of_mem _ (List.mem_append_left _ (List.mem_append_left _ (List.mem_append_left _ (List.mem_append_left _ (List.mem_append_left _ (List.mem_append_right _ (h)))))))
  have hiX4 : ∀ w ∈ wsX40, w ∈ wsX4_decide := fun _ h => List.mem_cons_of_mem _ (List.mem_append_left _ (List.mem_append_left _ (List.mem_append_left _ (List.mem_append_left _ (List.mem_append_left _ (List.mem_append_left _ (List.mem_append_right _ (h))))))))
  have hw1 := hts (.fieldLink RX4 26 "PegBox" "book" "LPegBox$ClaimBook;") (List.mem_of_getElem? (i := 1) rfl)
  have hw2 := hts (.fieldLink RX4 136 "PegBox$ClaimBook" "count" "I") (List.mem_of_getElem? (i := 2) rfl)
  have hw3 := hts (.fieldLink RX4 147 "PegBox$ClaimBook" "settled" "[I") (List.mem_of_getElem? (i := 3) rfl)
  have hw4 := hts (.fieldLink RX4 144 "PegBox$ClaimBook" "offers" "[I") (List.mem_of_getElem? (i := 4) rfl)
  have hw5 := hts (.fieldLink RX4 143 "PegBox$ClaimBook" "amounts" "[I") (List.mem_of_getElem? (i := 5) rfl)
  refine lv_iload_n hx hb dX4_decide_0 rfl (lv_at hl 1 rfl) ?_
  refine lv_aload_n hx hb dX4_decide_1 rfl (lv_at hl 0 rfl) ?_
  refine va_get (D := D) (ci := 4) (v := .ref (a 3)) (C := RX4) (T := TX4) (N := 14) hx hb hts hiX4 hown hK hP 0 rfl rfl 2 (by decide) hw1 (fun _ h9 => h9) rfl dX4_decide_2 ?_
  refine va_get (D := D) (ci := 0) (v := .int (u.1 10)) (C := RX0) (T := TX0) (N := 5) hx hb hts hiX0 hown hK hP 3 rfl rfl 4 (by decide) hw2 (fun _ h9 => h9) rfl dX4_decide_5 ?_
  rw [hn]
  rcases Bool.eq_false_or_eq_true (pg_nb k (nI n)) with c_8 | c_8
  · refine pg_vU (pg_rS (As := [.int k, .int (nI n)]) (rest := []) ⟨hx, hb, hml, hown, hts⟩ (cc_num_ok l D (pg_ty cI cZ) (pg_wB cI cZ a u) s.heap.size k (nI n) c_8) (va_cwS 2 hts gX4_decide_X4_checkNumber rfl rfl rfl (by decide +kernel) ⟨Nat.le_of_ble_eq_true rfl, Nat.le_of_ble_eq_true rfl⟩) hK hP hD rfl hl.1 rfl (Nat.le_of_ble_eq_true rfl) dX4_decide_8 ⟨Nat.le_of_ble_eq_true rfl, Nat.le_of_ble_eq_true rfl⟩) hD hS hA (fun H locs hP hD hS => ?_)
    obtain ⟨j, hj, rfl⟩ := pg_nb_nI (n := n) (by omega) c_8
    have hcl : (nI j).toNatClampNeg = j := nI_clamp (by omega)
    refine lv_aload_n hx hb dX4_decide_11 rfl (lv_at hl 0 rfl) ?_
    refine va_get (D := D) (ci := 4) (v := .ref (a 3)) (C := RX4) (T := TX4) (N := 14) hx hb hts hiX4 hown hK hP 0 rfl rfl 2 (by decide) hw1 (fun _ h9 => h9) rfl dX4_decide_12 ?_
    refine va_get (D := D) (ci := 0) (v := .ref (a 15)) (C := RX0) (T := TX0) (N := 5) hx hb hts hiX0 hown hK hP 3 rfl rfl 3 (by decide) hw3 (fun _ h9 => h9) rfl dX4_decide_15 ?_
    refine lv_iload_n hx hb dX4_decide_18 rfl (lv_at hl 1 rfl) ?_
    refine pg_ild (f := u.2 10) hx hb hK hP 15 0 rfl rfl (show j < _ by omega) (by decide) dX4_decide_19 ?_
    rcases Bool.eq_false_or_eq_true (pg_eq (u.2 10 j) (-1)) with c_20 | c_20
    · refine pg_vU (pg_rS (As := [.int (u.2 10 j)]) (rest := []) ⟨hx, hb, hml, hown, hts⟩ (cc_opn_ok l D (pg_ty cI cZ) (pg_wB cI cZ a u) H.size (u.2 10 j) c_20) (va_cwS 1 hts gX4_decide_X4_checkOpen rfl rfl rfl (by decide +kernel) ⟨Nat.le_of_ble_eq_true rfl, Nat.le_of_ble_eq_true rfl⟩) hK hP hD rfl hl.1 rfl (Nat.le_of_ble_eq_true rfl) dX4_decide_20 ⟨Nat.le_of_ble_eq_true rfl, Nat.le_of_ble_eq_true rfl⟩) hD hS hA (fun H locs hP hD hS => ?_)
      refine lv_aload_n hx hb dX4_decide_23 rfl (lv_at hl 0 rfl) ?_
      refine va_get (D := D) (ci := 4) (v := .ref (a 3)) (C := RX4) (T := TX4) (N := 14) hx hb hts hiX4 hown hK hP 0 rfl rfl 2 (by decide) hw1 (fun _ h9 => h9) rfl dX4_decide_24 ?_
      refine va_get (D := D) (ci := 0) (v := .ref (a 14)) (C := RX0) (T := TX0) (N := 5) hx hb hts hiX0 hown hK hP 3 rfl rfl 2 (by decide) hw4 (fun _ h9 => h9) rfl dX4_decide_27 ?_
      refine lv_iload_n hx hb dX4_decide_30 rfl (lv_at hl 1 rfl) ?_
      refine pg_ild (f := u.2 9) hx hb hK hP 14 0 rfl rfl (show j < _ by omega) (by decide) dX4_decide_31 ?_
      refine lv_istore_n (lv' := [(3, .int (u.2 9 j)), (0, .ref (a 0)), (1, .int (nI j)), (2, .int x)]) hx hb dX4_decide_32 rfl hl (by decide) rfl (fun ls hl => ?_)
      refine lv_iload_n hx hb dX4_decide_33 rfl (lv_at hl 3 rfl) ?_
      refine lv_iload_n hx hb dX4_decide_34 rfl (lv_at hl 0 rfl) ?_
      refine lv_iconst (v := (-1)) hx hb dX4_decide_35 (by decide) ?_
      refine lv_icmp_ne (tgt := 43) hx hb dX4_decide_36 (by decide) (fun c_36 => ?_) (fun c_36 => ?_)
      · have elow : pg_low (u.2 9 j) = u.2 9 j := if_neg c_36
        refine lv_iload_n hx hb dX4_decide_43 rfl (lv_at hl 0 rfl) ?_
        refine W.eq (g2 := F0 m 44 ls [.int (pg_low (u.2 9 j)), .int x]) (by rw [elow]) ?_
        refine lv_aload_n hx hb dX4_decide_44 rfl (lv_at hl 1 rfl) ?_
        refine va_get (D := D) (ci := 4) (v := .ref (a 3)) (C := RX4) (T := TX4) (N := 14) hx hb hts hiX4 hown hK hP 0 rfl rfl 2 (by decide) hw1 (fun _ h9 => h9) rfl dX4_decide_45 ?_
        refine va_get (D := D) (ci := 0) (v := .ref (a 13)) (C := RX0) (T := TX0) (N := 5) hx hb hts hiX0 hown hK hP 3 rfl rfl 1 (by decide) hw5 (fun _ h9 => h9) rfl dX4_decide_48 ?_
        refine lv_iload_n hx hb dX4_decide_51 rfl (lv_at hl 2 rfl) ?_
        refine pg_ild (f := u.2 8) hx hb hK hP 13 0 rfl rfl (show j < _ by omega) (by decide) dX4_decide_52 ?_
        rcases Bool.eq_false_or_eq_true (pg_in x (pg_low (u.2 9 j)) (u.2 8 j)) with c_53 | c_53
        · refine pg_vU (pg_rS (As := [.int x, .int (pg_low (u.2 9 j)), .int (u.2 8 j)]) (rest := []) ⟨hx, hb, hml, hown, hts⟩ (cc_rng_ok l D (pg_ty cI cZ) (pg_wB cI cZ a u) H.size x (pg_low (u.2 9 j)) (u.2 8 j) c_53) (va_cwS 3 hts gX4_decide_X4_checkRange rfl rfl rfl (by decide +kernel) ⟨Nat.le_of_ble_eq_true rfl, Nat.le_of_ble_eq_true rfl⟩) hK hP hD rfl hl.1 rfl (Nat.le_of_ble_eq_true rfl) dX4_decide_53 ⟨Nat.le_of_ble_eq_true rfl, Nat.le_of_ble_eq_true rfl⟩) hD hS hA (fun H locs hP hD hS => ?_)
          refine lv_aload_n hx hb dX4_decide_56 rfl (lv_at hl 1 rfl) ?_
          refine va_get (D := D) (ci := 4) (v := .ref (a 3)) (C := RX4) (T := TX4) (N := 14) hx hb hts hiX4 hown hK hP 0 rfl rfl 2 (by decide) hw1 (fun _ h9 => h9) rfl dX4_decide_57 ?_
          refine va_get (D := D) (ci := 0) (v := .ref (a 15)) (C := RX0) (T := TX0) (N := 5) hx hb hts hiX0 hown hK hP 3 rfl rfl 3 (by decide) hw3 (fun _ h9 => h9) rfl dX4_decide_60 ?_
          refine lv_iload_n hx hb dX4_decide_63 rfl (lv_at hl 2 rfl) ?_
          refine lv_iload_n hx hb dX4_decide_64 rfl (lv_at hl 3 rfl) ?_
          refine pg_ist hx hb hK hP hD hS 15 0 rfl rfl (show j < _ by omega) (by decide) dX4_decide_65 (fun H locs hP hD hS => ?_)
          have hP : va_P D vwCl (pg_wB cI cZ a (u.1, (pg_row u.2 10 (upd (u.2 10) j x)))) H := hP
          have hD : va_D A (pg_wB cI cZ a (u.1, (pg_row u.2 10 (upd (u.2 10) j x)))) := hD
          refine lv_aload_n hx hb dX4_decide_66 rfl (lv_at hl 1 rfl) ?_
          refine pg_iE (pg_rV (As := []) (rest := []) ⟨hx, hb, hml, hown, hts⟩ (cc_payOut l D cI cZ a H.size (u.1, (pg_row u.2 10 (upd (u.2 10) j x))) n hn h20) (cwV 0 hts gX4_decide_X4_payOut rfl rfl rfl (by decide +kernel) ⟨Nat.le_of_ble_eq_true rfl, Nat.le_of_ble_eq_true rfl⟩) hK hP hD 0 (ci := 4) rfl rfl rfl rfl hl.1 rfl (Nat.le_of_ble_eq_true rfl) dX4_decide_67 ⟨Nat.le_of_ble_eq_true rfl, Nat.le_of_ble_eq_true rfl⟩) hD hS hA (fun H locs hP hD hS => ?_)
          exact W.iret (v := pg_back (pg_at u j x) n) hx hb hr (fun t9 ht9 hW9 => ⟨⟨pg_back (pg_at u j x) n, (pg_pay (pg_at u j x) n (u.1 3)), rfl, ⟨by rw [hcl], by rw [hcl]⟩, by rw [ht9]; exact hP, va_K.moved hW9.alike hK, hD⟩, hS.F ht9⟩) hS.2.2 dX4_decide_70
        · exact absurd hthr (by first | (simp only [pg_t_decide, c_8, hcl, c_20, c_53, cond_true, cond_false, Bool.not_true, Bool.not_false]; done) | (simp only [pg_t_decide, c_8, hcl, c_20, c_53, cond_true, cond_false, Bool.not_true, Bool.not_false]; decide))
      · have elow : pg_low (u.2 9 j) = 0 := if_pos c_36
        refine lv_iconst (v := 0) hx hb dX4_decide_39 (by decide) ?_
        refine lv_goto (tgt := 44) hx hb dX4_decide_40 (by decide) ?_
        refine W.eq (g2 := F0 m 44 ls [.int (pg_low (u.2 9 j)), .int x]) (by rw [elow]) ?_
        refine lv_aload_n hx hb dX4_decide_44 rfl (lv_at hl 1 rfl) ?_
        refine va_get (D := D) (ci := 4) (v := .ref (a 3)) (C := RX4) (T := TX4) (N := 14) hx hb hts hiX4 hown hK hP 0 rfl rfl 2 (by decide) hw1 (fun _ h9 => h9) rfl dX4_decide_45 ?_
        refine va_get (D := D) (ci := 0) (v := .ref (a 13)) (C := RX0) (T := TX0) (N := 5) hx hb hts hiX0 hown hK hP 3 rfl rfl 1 (by decide) hw5 (fun _ h9 => h9) rfl dX4_decide_48 ?_
        refine lv_iload_n hx hb dX4_decide_51 rfl (lv_at hl 2 rfl) ?_
        refine pg_ild (f := u.2 8) hx hb hK hP 13 0 rfl rfl (show j < _ by omega) (by decide) dX4_decide_52 ?_
        rcases Bool.eq_false_or_eq_true (pg_in x (pg_low (u.2 9 j)) (u.2 8 j)) with c_53 | c_53
        · refine pg_vU (pg_rS (As := [.int x, .int (pg_low (u.2 9 j)), .int (u.2 8 j)]) (rest := []) ⟨hx, hb, hml, hown, hts⟩ (cc_rng_ok l D (pg_ty cI cZ) (pg_wB cI cZ a u) H.size x (pg_low (u.2 9 j)) (u.2 8 j) c_53) (va_cwS 3 hts gX4_decide_X4_checkRange rfl rfl rfl (by decide +kernel) ⟨Nat.le_of_ble_eq_true rfl, Nat.le_of_ble_eq_true rfl⟩) hK hP hD rfl hl.1 rfl (Nat.le_of_ble_eq_true rfl) dX4_decide_53 ⟨Nat.le_of_ble_eq_true rfl, Nat.le_of_ble_eq_true rfl⟩) hD hS hA (fun H locs hP hD hS => ?_)
          refine lv_aload_n hx hb dX4_decide_56 rfl (lv_at hl 1 rfl) ?_
          refine va_get (D := D) (ci := 4) (v := .ref (a 3)) (C := RX4) (T := TX4) (N := 14) hx hb hts hiX4 hown hK hP 0 rfl rfl 2 (by decide) hw1 (fun _ h9 => h9) rfl dX4_decide_57 ?_
          refine va_get (D := D) (ci := 0) (v := .ref (a 15)) (C := RX0) (T := TX0) (N := 5) hx hb hts hiX0 hown hK hP 3 rfl rfl 3 (by decide) hw3 (fun _ h9 => h9) rfl dX4_decide_60 ?_
          refine lv_iload_n hx hb dX4_decide_63 rfl (lv_at hl 2 rfl) ?_
          refine lv_iload_n hx hb dX4_decide_64 rfl (lv_at hl 3 rfl) ?_
          refine pg_ist hx hb hK hP hD hS 15 0 rfl rfl (show j < _ by omega) (by decide) dX4_decide_65 (fun H locs hP hD hS => ?_)
          have hP : va_P D vwCl (pg_wB cI cZ a (u.1, (pg_row u.2 10 (upd (u.2 10) j x)))) H := hP
          have hD : va_D A (pg_wB cI cZ a (u.1, (pg_row u.2 10 (upd (u.2 10) j x)))) := hD
          refine lv_aload_n hx hb dX4_decide_66 rfl (lv_at hl 1 rfl) ?_
          refine pg_iE (pg_rV (As := []) (rest := []) ⟨hx, hb, hml, hown, hts⟩ (cc_payOut l D cI cZ a H.size (u.1, (pg_row u.2 10 (upd (u.2 10) j x))) n hn h20) (cwV 0 hts gX4_decide_X4_payOut rfl rfl rfl (by decide +kernel) ⟨Nat.le_of_ble_eq_true rfl, Nat.le_of_ble_eq_true rfl⟩) hK hP hD 0 (ci := 4) rfl rfl rfl rfl hl.1 rfl (Nat.le_of_ble_eq_true rfl) dX4_decide_67 ⟨Nat.le_of_ble_eq_true rfl, Nat.le_of_ble_eq_true rfl⟩) hD hS hA (fun H locs hP hD hS => ?_)
          exact W.iret (v := pg_back (pg_at u j x) n) hx hb hr (fun t9 ht9 hW9 => ⟨⟨pg_back (pg_at u j x) n, (pg_pay (pg_at u j x) n (u.1 3)), rfl, ⟨by rw [hcl], by rw [hcl]⟩, by rw [ht9]; exact hP, va_K.moved hW9.alike hK, hD⟩, hS.F ht9⟩) hS.2.2 dX4_decide_70
        · exact absurd hthr (by first | (simp only [pg_t_decide, c_8, hcl, c_20, c_53, cond_true, cond_false, Bool.not_true, Bool.not_false]; done) | (simp only [pg_t_decide, c_8, hcl, c_20, c_53, cond_true, cond_false, Bool.not_true, Bool.not_false]; decide))
    · exact absurd hthr (by first | (simp only [pg_t_decide, c_8, hcl, c_20, cond_true, cond_false, Bool.not_true, Bool.not_false]; done) | (simp only [pg_t_decide, c_8, hcl, c_20, cond_true, cond_false, Bool.not_true, Bool.not_false]; decide))
  · exact absurd hthr (by first | (simp only [pg_t_decide, c_8, cond_true, cond_false, Bool.not_true, Bool.not_false]; done) | (simp only [pg_t_decide, c_8, cond_true, cond_false, Bool.not_true, Bool.not_false]; decide))
set_option maxHeartbeats 4000000 in
set_option maxRecDepth 100000 in
/-- cc_decide: throws -/
theorem cc_decide_no (l : Launch) (hfl : l.stackTraces = false) (D : va_G) (cI cZ : ClassId) (a : Nat → Nat) (sz : Nat) (u : pg_St) (n : Nat) (hn : u.1 10 = nI n) (h20 : n ≤ 20) (k x : Int32) (e9 : Int32) (nm : String) (hthr : pg_t_decide u.2 (nI n) k x = e9) (h0 : e9 ≠ 0) (h9_1 : e9 = 1 → nm = pg_io) (h9_2 : e9 = 2 → nm = pg_is) (h9_3 : e9 = 3 → nm = pg_ia) : vx_Met l yX4_decide wsX4_decide ({ frames := 7, cells := 1, slots := 6, locals := 108 }) (va_Pc [.ref (a 0), .int k, .int x] (pg_T D (pg_ty cI cZ) (pg_wB cI cZ a u) sz)) pg_No (pg_X D (pg_wB cI cZ a u) (va_A (pg_wB cI cZ a u) sz) nm) 1 6 (va_A (pg_wB cI cZ a u) sz) := by
  refine vx_ofW (cc := cX4_decide) (maxL := 4) (ret := (some .int)) (by decide) rfl ?_
  intro p e s m args below meth c s₁ B hml hout hv
  obtain ⟨rfl, ⟨hsz, hP, hK, hD0⟩, hE⟩ := hv
  have hx := B.exec
  have hb := B.bytes
  have hr := B.returns
  have hts := atoms_spec (ws := wsX4_decide) B.pre
  have hown : s.vm.findClass RX4 = some m.cls := findClass_of_methodNamed B.named
  have hlocks := B.notSynchronized
  subst hsz
  have hD := hD0.self (sz := s.heap.size)
  generalize hAe : va_A (pg_wB cI cZ a u) s.heap.size = A at hD hE ⊢
  have hA : ∀ q : Nat, s.heap.size ≤ q → A q := fun q h => by rw [← hAe]; exact Or.inr h
  have hS : va_S A s.heap s.heap [] := va_S.rf
  have hl := lv_entry ([.ref (a 0), .int k, .int x]) (n := 4) (Nat.le_of_ble_eq_true rfl)
  rw [lg_entry_eq]
  generalize (lg_sl ([.ref (a 0), .int k, .int x]) ++ List.replicate (4 - (lg_sl ([.ref (a 0), .int k, .int x])).length) Slot.unset).toArray = ls at hl ⊢
  have hl : lv_has ls 4 [(0, .ref (a 0)), (1, .int k), (2, .int x)] := hl
  have hiX0 : ∀ w ∈ wsX00, w ∈ wsX4_decide := fun _ h => List.mem_cons_of_mem _ (List.mem_append_left _ (List.mem_append_left _ (List.mem_append_left _ (List.mem_append_left _ (List.mem_append_left _ (List.mem_append_right _ (h)))))))
  have hiX4 : ∀ w ∈ wsX40, w ∈ wsX4_decide := fun _ h => List.mem_cons_of_mem _ (List.mem_append_left _ (List.mem_append_left _ (List.mem_append_left _ (List.mem_append_left _ (List.mem_append_left _ (List.mem_append_left _ (List.mem_append_right _ (h))))))))
  have hw1 := hts (.fieldLink RX4 26 "PegBox" "book" "LPegBox$ClaimBook;") (List.mem_of_getElem? (i := 1) rfl)
  have hw2 := hts (.fieldLink RX4 136 "PegBox$ClaimBook" "count" "I") (List.mem_of_getElem? (i := 2) rfl)
  have hw3 := hts (.fieldLink RX4 147 "PegBox$ClaimBook" "settled" "[I") (List.mem_of_getElem? (i := 3) rfl)
  have hw4 := hts (.fieldLink RX4 144 "PegBox$ClaimBook" "offers" "[I") (List.mem_of_getElem? (i := 4) rfl)
  have hw5 := hts (.fieldLink RX4 143 "PegBox$ClaimBook" "amounts" "[I") (List.mem_of_getElem? (i := 5) rfl)
  refine lv_iload_n hx hb dX4_decide_0 rfl (lv_at hl 1 rfl) ?_
  refine lv_aload_n hx hb dX4_decide_1 rfl (lv_at hl 0 rfl) ?_
  refine va_get (D := D) (ci := 4) (v := .ref (a 3)) (C := RX4) (T := TX4) (N := 14) hx hb hts hiX4 hown hK hP 0 rfl rfl 2 (by decide) hw1 (fun _ h9 => h9) rfl dX4_decide_2 ?_
  refine va_get (D := D) (ci := 0) (v := .int (u.1 10)) (C := RX0) (T := TX0) (N := 5) hx hb hts hiX0 hown hK hP 3 rfl rfl 4 (by decide) hw2 (fun _ h9 => h9) rfl dX4_decide_5 ?_
  rw [hn]
  rcases Bool.eq_false_or_eq_true (pg_nb k (nI n)) with c_8 | c_8
  · refine pg_vU (pg_rS (As := [.int k, .int (nI n)]) (rest := []) ⟨hx, hb, hml, hown, hts⟩ (cc_num_ok l D (pg_ty cI cZ) (pg_wB cI cZ a u) s.heap.size k (nI n) c_8) (va_cwS 2 hts gX4_decide_X4_checkNumber rfl rfl rfl (by decide +kernel) ⟨Nat.le_of_ble_eq_true rfl, Nat.le_of_ble_eq_true rfl⟩) hK hP hD rfl hl.1 rfl (Nat.le_of_ble_eq_true rfl) dX4_decide_8 ⟨Nat.le_of_ble_eq_true rfl, Nat.le_of_ble_eq_true rfl⟩) hD hS hA (fun H locs hP hD hS => ?_)
    obtain ⟨j, hj, rfl⟩ := pg_nb_nI (n := n) (by omega) c_8
    have hcl : (nI j).toNatClampNeg = j := nI_clamp (by omega)
    refine lv_aload_n hx hb dX4_decide_11 rfl (lv_at hl 0 rfl) ?_
    refine va_get (D := D) (ci := 4) (v := .ref (a 3)) (C := RX4) (T := TX4) (N := 14) hx hb hts hiX4 hown hK hP 0 rfl rfl 2 (by decide) hw1 (fun _ h9 => h9) rfl dX4_decide_12 ?_
    refine va_get (D := D) (ci := 0) (v := .ref (a 15)) (C := RX0) (T := TX0) (N := 5) hx hb hts hiX0 hown hK hP 3 rfl rfl 3 (by decide) hw3 (fun _ h9 => h9) rfl dX4_decide_15 ?_
    refine lv_iload_n hx hb dX4_decide_18 rfl (lv_at hl 1 rfl) ?_
    refine pg_ild (f := u.2 10) hx hb hK hP 15 0 rfl rfl (show j < _ by omega) (by decide) dX4_decide_19 ?_
    rcases Bool.eq_false_or_eq_true (pg_eq (u.2 10 j) (-1)) with c_20 | c_20
    · refine pg_vU (pg_rS (As := [.int (u.2 10 j)]) (rest := []) ⟨hx, hb, hml, hown, hts⟩ (cc_opn_ok l D (pg_ty cI cZ) (pg_wB cI cZ a u) H.size (u.2 10 j) c_20) (va_cwS 1 hts gX4_decide_X4_checkOpen rfl rfl rfl (by decide +kernel) ⟨Nat.le_of_ble_eq_true rfl, Nat.le_of_ble_eq_true rfl⟩) hK hP hD rfl hl.1 rfl (Nat.le_of_ble_eq_true rfl) dX4_decide_20 ⟨Nat.le_of_ble_eq_true rfl, Nat.le_of_ble_eq_true rfl⟩) hD hS hA (fun H locs hP hD hS => ?_)
      refine lv_aload_n hx hb dX4_decide_23 rfl (lv_at hl 0 rfl) ?_
      refine va_get (D := D) (ci := 4) (v := .ref (a 3)) (C := RX4) (T := TX4) (N := 14) hx hb hts hiX4 hown hK hP 0 rfl rfl 2 (by decide) hw1 (fun _ h9 => h9) rfl dX4_decide_24 ?_
      refine va_get (D := D) (ci := 0) (v := .ref (a 14)) (C := RX0) (T := TX0) (N := 5) hx hb hts hiX0 hown hK hP 3 rfl rfl 2 (by decide) hw4 (fun _ h9 => h9) rfl dX4_decide_27 ?_
      refine lv_iload_n hx hb dX4_decide_30 rfl (lv_at hl 1 rfl) ?_
      refine pg_ild (f := u.2 9) hx hb hK hP 14 0 rfl rfl (show j < _ by omega) (by decide) dX4_decide_31 ?_
      refine lv_istore_n (lv' := [(3, .int (u.2 9 j)), (0, .ref (a 0)), (1, .int (nI j)), (2, .int x)]) hx hb dX4_decide_32 rfl hl (by decide) rfl (fun ls hl => ?_)
      refine lv_iload_n hx hb dX4_decide_33 rfl (lv_at hl 3 rfl) ?_
      refine lv_iload_n hx hb dX4_decide_34 rfl (lv_at hl 0 rfl) ?_
      refine lv_iconst (v := (-1)) hx hb dX4_decide_35 (by decide) ?_
      refine lv_icmp_ne (tgt := 43) hx hb dX4_decide_36 (by decide) (fun c_36 => ?_) (fun c_36 => ?_)
      · have elow : pg_low (u.2 9 j) = u.2 9 j := if_neg c_36
        refine lv_iload_n hx hb dX4_decide_43 rfl (lv_at hl 0 rfl) ?_
        refine W.eq (g2 := F0 m 44 ls [.int (pg_low (u.2 9 j)), .int x]) (by rw [elow]) ?_
        refine lv_aload_n hx hb dX4_decide_44 rfl (lv_at hl 1 rfl) ?_
        refine va_get (D := D) (ci := 4) (v := .ref (a 3)) (C := RX4) (T := TX4) (N := 14) hx hb hts hiX4 hown hK hP 0 rfl rfl 2 (by decide) hw1 (fun _ h9 => h9) rfl dX4_decide_45 ?_
        refine va_get (D := D) (ci := 0) (v := .ref (a 13)) (C := RX0) (T := TX0) (N := 5) hx hb hts hiX0 hown hK hP 3 rfl rfl 1 (by decide) hw5 (fun _ h9 => h9) rfl dX4_decide_48 ?_
        refine lv_iload_n hx hb dX4_decide_51 rfl (lv_at hl 2 rfl) ?_
        refine pg_ild (f := u.2 8) hx hb hK hP 13 0 rfl rfl (show j < _ by omega) (by decide) dX4_decide_52 ?_
        rcases Bool.eq_false_or_eq_true (pg_in x (pg_low (u.2 9 j)) (u.2 8 j)) with c_53 | c_53
        · exact absurd (hthr.symm.trans (by simp only [pg_t_decide, c_8, hcl, c_20, c_53, cond_true, cond_false, Bool.not_true, Bool.not_false])) h0
        · have he : e9 = 3 := hthr.symm.trans (by simp only [pg_t_decide, c_8, hcl, c_20, c_53, cond_true, cond_false, Bool.not_true, Bool.not_false])
          obtain rfl := h9_3 he
          exact pg_thru (pg_xS (As := [.int x, .int (pg_low (u.2 9 j)), .int (u.2 8 j)]) (rest := []) ⟨hx, hb, hml, hown, hts⟩ (cc_rng_no l hfl D (pg_ty cI cZ) (pg_wB cI cZ a u) H.size x (pg_low (u.2 9 j)) (u.2 8 j) c_53) (va_cwS 3 hts gX4_decide_X4_checkRange rfl rfl rfl (by decide +kernel) ⟨Nat.le_of_ble_eq_true rfl, Nat.le_of_ble_eq_true rfl⟩) hK hP hD hS hA hE rfl hl.1 rfl (Nat.le_of_ble_eq_true rfl) dX4_decide_53 ⟨Nat.le_of_ble_eq_true rfl, Nat.le_of_ble_eq_true rfl⟩) hD hS hA hout hlocks (Nat.le_of_ble_eq_true rfl) (Nat.le_of_ble_eq_true rfl)
      · have elow : pg_low (u.2 9 j) = 0 := if_pos c_36
        refine lv_iconst (v := 0) hx hb dX4_decide_39 (by decide) ?_
        refine lv_goto (tgt := 44) hx hb dX4_decide_40 (by decide) ?_
        refine W.eq (g2 := F0 m 44 ls [.int (pg_low (u.2 9 j)), .int x]) (by rw [elow]) ?_
        refine lv_aload_n hx hb dX4_decide_44 rfl (lv_at hl 1 rfl) ?_
        refine va_get (D := D) (ci := 4) (v := .ref (a 3)) (C := RX4) (T := TX4) (N := 14) hx hb hts hiX4 hown hK hP 0 rfl rfl 2 (by decide) hw1 (fun _ h9 => h9) rfl dX4_decide_45 ?_
        refine va_get (D := D) (ci := 0) (v := .ref (a 13)) (C := RX0) (T := TX0) (N := 5) hx hb hts hiX0 hown hK hP 3 rfl rfl 1 (by decide) hw5 (fun _ h9 => h9) rfl dX4_decide_48 ?_
        refine lv_iload_n hx hb dX4_decide_51 rfl (lv_at hl 2 rfl) ?_
        refine pg_ild (f := u.2 8) hx hb hK hP 13 0 rfl rfl (show j < _ by omega) (by decide) dX4_decide_52 ?_
        rcases Bool.eq_false_or_eq_true (pg_in x (pg_low (u.2 9 j)) (u.2 8 j)) with c_53 | c_53
        · exact absurd (hthr.symm.trans (by simp only [pg_t_decide, c_8, hcl, c_20, c_53, cond_true, cond_false, Bool.not_true, Bool.not_false])) h0
        · have he : e9 = 3 := hthr.symm.trans (by simp only [pg_t_decide, c_8, hcl, c_20, c_53, cond_true, cond_false, Bool.not_true, Bool.not_false])
          obtain rfl := h9_3 he
          exact pg_thru (pg_xS (As := [.int x, .int (pg_low (u.2 9 j)), .int (u.2 8 j)]) (rest := []) ⟨hx, hb, hml, hown, hts⟩ (cc_rng_no l hfl D (pg_ty cI cZ) (pg_wB cI cZ a u) H.size x (pg_low (u.2 9 j)) (u.2 8 j) c_53) (va_cwS 3 hts gX4_decide_X4_checkRange rfl rfl rfl (by decide +kernel) ⟨Nat.le_of_ble_eq_true rfl, Nat.le_of_ble_eq_true rfl⟩) hK hP hD hS hA hE rfl hl.1 rfl (Nat.le_of_ble_eq_true rfl) dX4_decide_53 ⟨Nat.le_of_ble_eq_true rfl, Nat.le_of_ble_eq_true rfl⟩) hD hS hA hout hlocks (Nat.le_of_ble_eq_true rfl) (Nat.le_of_ble_eq_true rfl)
    · have he : e9 = 2 := hthr.symm.trans (by simp only [pg_t_decide, c_8, hcl, c_20, cond_true, cond_false, Bool.not_true, Bool.not_false])
      obtain rfl := h9_2 he
      exact pg_thru (pg_xS (As := [.int (u.2 10 j)]) (rest := []) ⟨hx, hb, hml, hown, hts⟩ (cc_opn_no l hfl D (pg_ty cI cZ) (pg_wB cI cZ a u) H.size (u.2 10 j) c_20) (va_cwS 1 hts gX4_decide_X4_checkOpen rfl rfl rfl (by decide +kernel) ⟨Nat.le_of_ble_eq_true rfl, Nat.le_of_ble_eq_true rfl⟩) hK hP hD hS hA hE rfl hl.1 rfl (Nat.le_of_ble_eq_true rfl) dX4_decide_20 ⟨Nat.le_of_ble_eq_true rfl, Nat.le_of_ble_eq_true rfl⟩) hD hS hA hout hlocks (Nat.le_of_ble_eq_true rfl) (Nat.le_of_ble_eq_true rfl)
  · have he : e9 = 1 := hthr.symm.trans (by simp only [pg_t_decide, c_8, cond_true, cond_false, Bool.not_true, Bool.not_false])
    obtain rfl := h9_1 he
    exact pg_thru (pg_xS (As := [.int k, .int (nI n)]) (rest := []) ⟨hx, hb, hml, hown, hts⟩ (cc_num_no l hfl D (pg_ty cI cZ) (pg_wB cI cZ a u) s.heap.size k (nI n) c_8) (va_cwS 2 hts gX4_decide_X4_checkNumber rfl rfl rfl (by decide +kernel) ⟨Nat.le_of_ble_eq_true rfl, Nat.le_of_ble_eq_true rfl⟩) hK hP hD hS hA hE rfl hl.1 rfl (Nat.le_of_ble_eq_true rfl) dX4_decide_8 ⟨Nat.le_of_ble_eq_true rfl, Nat.le_of_ble_eq_true rfl⟩) hD hS hA hout hlocks (Nat.le_of_ble_eq_true rfl) (Nat.le_of_ble_eq_true rfl)
set_option maxHeartbeats 4000000 in
set_option maxRecDepth 100000 in
/-- cc_report: returns -/
theorem cc_report_ok (l : Launch) (D : va_G) (cI cZ : ClassId) (a : Nat → Nat) (sz : Nat) (u : pg_St) (n : Nat) (hn : u.1 10 = nI n) (h20 : n ≤ 20) (t : Nat) (ht : u.1 13 = nI t) (h4 : t ≤ 4) (x : Int32) (hthr : pg_t_report (!pg_eq (u.1 3) (-1)) (!pg_eq (u.1 12) 0) (nI t) x = 0) : Met l yX4_report wsX4_report ({ frames := 6, cells := 0, slots := 0, locals := 130 }) (va_Pc [.ref (a 0), .int x] (pg_B D (pg_ty cI cZ) (pg_wB cI cZ a u) sz)) (va_Qi (fun r u' => r = pg_tellr u t x ∧ u' = pg_owe (pg_tell u t x) n (pg_tellr u t x)) (pg_E D (pg_ty cI cZ) (va_A (pg_wB cI cZ a u) sz) (pg_wB cI cZ a)) (va_A (pg_wB cI cZ a u) sz)) 0 0 (va_A (pg_wB cI cZ a u) sz) := by
  refine Met.ofW (cc := cX4_report) (maxL := 2) (ret := (some .int)) (by decide) rfl ?_
  intro p e s m args below meth c s₁ B hml hv
  obtain ⟨rfl, hsz, hP, hK, hD0⟩ := hv
  have hx := B.exec
  have hb := B.bytes
  have hr := B.returns
  have hts := atoms_spec (ws := wsX4_report) B.pre
  have hown : s.vm.findClass RX4 = some m.cls := findClass_of_methodNamed B.named
  have hlocks := B.notSynchronized
  subst hsz
  have hD := hD0.self (sz := s.heap.size)
  generalize hAe : va_A (pg_wB cI cZ a u) s.heap.size = A at hD ⊢
  have hA : ∀ q : Nat, s.heap.size ≤ q → A q := fun q h => by rw [← hAe]; exact Or.inr h
  have hS : va_S A s.heap s.heap [] := va_S.rf
  have hl := lv_entry ([.ref (a 0), .int x]) (n := 2) (Nat.le_of_ble_eq_true rfl)
  rw [lg_entry_eq]
  generalize (lg_sl ([.ref (a 0), .int x]) ++ List.replicate (2 - (lg_sl ([.ref (a 0), .int x])).length) Slot.unset).toArray = ls at hl ⊢
  have hl : lv_has ls 2 [(0, .ref (a 0)), (1, .int x)] := hl
  have hiX1 : ∀ w ∈ wsX10, w ∈ wsX4_report := fun _ h => List.mem_cons_of_mem _ (List.mem_append_left _ (List.mem_append_left _ (List.mem_append_left _ (List.mem_append_left _ (List.mem_append_right _ (h))))))
  have hiX4 : ∀ w ∈ wsX40, w ∈ wsX4_report := fun _ h => List.mem_cons_of_mem _ (List.mem_append_left _ (List.mem_append_left _ (List.mem_append_left _ (List.mem_append_left _ (List.mem_append_left _ (List.mem_append_right _ (h)))))))
  have hw3 := hts (.constant RX4 49 (-10000000)) (List.mem_of_getElem? (i := 3) rfl)
  have hw4 := hts (.constant RX4 44 (10000000)) (List.mem_of_getElem? (i := 4) rfl)
  have hw5 := hts (.fieldLink RX4 33 "PegBox" "earnOut" "LPegBox$EarnOut;") (List.mem_of_getElem? (i := 5) rfl)
  have hw6 := hts (.fieldLink RX4 159 "PegBox$EarnOut" "isSpedUp" "Z") (List.mem_of_getElem? (i := 6) rfl)
  have hw7 := hts (.fieldLink RX4 164 "PegBox$EarnOut" "told" "I") (List.mem_of_getElem? (i := 7) rfl)
  refine lv_iload_n hx hb dX4_report_0 rfl (lv_at hl 1 rfl) ?_
  refine lv_ldc hx hb hown hw3 dX4_report_1 ?_
  refine lv_ldc hx hb hown hw4 dX4_report_3 ?_
  rcases Bool.eq_false_or_eq_true (pg_in x (-10000000) 10000000) with c_5 | c_5
  · refine pg_vU (pg_rS (As := [.int x, .int (-10000000), .int 10000000]) (rest := []) ⟨hx, hb, hml, hown, hts⟩ (cc_rng_ok l D (pg_ty cI cZ) (pg_wB cI cZ a u) s.heap.size x (-10000000) 10000000 c_5) (va_cwS 3 hts gX4_report_X4_checkRange rfl rfl rfl (by decide +kernel) ⟨Nat.le_of_ble_eq_true rfl, Nat.le_of_ble_eq_true rfl⟩) hK hP hD rfl hl.1 rfl (Nat.le_of_ble_eq_true rfl) dX4_report_5 ⟨Nat.le_of_ble_eq_true rfl, Nat.le_of_ble_eq_true rfl⟩) hD hS hA (fun H locs hP hD hS => ?_)
    refine lv_aload_n hx hb dX4_report_8 rfl (lv_at hl 0 rfl) ?_
    rcases Bool.eq_false_or_eq_true (pg_eq (u.1 3) (-1)) with c_9 | c_9
    · exact absurd hthr (by first | (simp only [pg_t_report, c_5, c_9, cond_true, cond_false, Bool.not_true, Bool.not_false]; done) | (simp only [pg_t_report, c_5, c_9, cond_true, cond_false, Bool.not_true, Bool.not_false]; decide))
    · refine pg_vE (pg_rV (As := []) (rest := []) ⟨hx, hb, hml, hown, hts⟩ (cc_cls_ok l D cI cZ a H.size u c_9) (cwV 0 hts gX4_report_X4_checkClosed rfl rfl rfl (by decide +kernel) ⟨Nat.le_of_ble_eq_true rfl, Nat.le_of_ble_eq_true rfl⟩) hK hP hD 0 (ci := 4) rfl rfl rfl rfl hl.1 rfl (Nat.le_of_ble_eq_true rfl) dX4_report_9 ⟨Nat.le_of_ble_eq_true rfl, Nat.le_of_ble_eq_true rfl⟩) hD hS hA (fun H locs hP hD hS => ?_)
      refine lv_aload_n hx hb dX4_report_12 rfl (lv_at hl 0 rfl) ?_
      refine va_get (D := D) (ci := 4) (v := .ref (a 4)) (C := RX4) (T := TX4) (N := 14) hx hb hts hiX4 hown hK hP 0 rfl rfl 3 (by decide) hw5 (fun _ h9 => h9) rfl dX4_report_13 ?_
      refine va_get (D := D) (ci := 1) (v := .int (u.1 12)) (C := RX1) (T := TX1) (N := 8) hx hb hts hiX1 hown hK hP 4 rfl rfl 4 (by decide) hw6 (fun _ h9 => h9) rfl dX4_report_16 ?_
      refine lv_if_eq (tgt := 32) hx hb dX4_report_19 (by decide) (fun c_19 => ?_) (fun c_19 => ?_)
      · have d_19 := pg_eq_t c_19
        refine lv_aload_n hx hb dX4_report_32 rfl (lv_at hl 0 rfl) ?_
        refine va_get (D := D) (ci := 4) (v := .ref (a 4)) (C := RX4) (T := TX4) (N := 14) hx hb hts hiX4 hown hK hP 0 rfl rfl 3 (by decide) hw5 (fun _ h9 => h9) rfl dX4_report_33 ?_
        refine va_get (D := D) (ci := 1) (v := .int (u.1 13)) (C := RX1) (T := TX1) (N := 8) hx hb hts hiX1 hown hK hP 4 rfl rfl 5 (by decide) hw7 (fun _ h9 => h9) rfl dX4_report_36 ?_
        rw [ht]
        refine lv_iconst (v := 4) hx hb dX4_report_39 (by decide) ?_
        refine lv_icmp_lt (tgt := 53) hx hb dX4_report_40 (by decide) (fun c_40 => ?_) (fun c_40 => ?_)
        · have d_40 := pg_le_f (Int32.not_le.mpr c_40)
          have ht4 : t < 4 := (nI_ltI (by omega) (by decide)).mp (show nI t < nI 4 from c_40)
          refine lv_aload_n hx hb dX4_report_53 rfl (lv_at hl 0 rfl) ?_
          refine lv_aload_n hx hb dX4_report_54 rfl (lv_at hl 0 rfl) ?_
          refine va_get (D := D) (ci := 4) (v := .ref (a 4)) (C := RX4) (T := TX4) (N := 14) hx hb hts hiX4 hown hK hP 0 rfl rfl 3 (by decide) hw5 (fun _ h9 => h9) rfl dX4_report_55 ?_
          refine lv_iload_n hx hb dX4_report_58 rfl (lv_at hl 1 rfl) ?_
          refine pg_iE (pg_rV (As := [.int x]) (rest := [.ref (a 0)]) ⟨hx, hb, hml, hown, hts⟩ (cc_tell l D cI cZ a H.size u t ht ht4 x) (cwV 1 hts gX4_report_X1_tell rfl rfl rfl (by decide +kernel) ⟨Nat.le_of_ble_eq_true rfl, Nat.le_of_ble_eq_true rfl⟩) hK hP hD 4 (ci := 1) rfl rfl rfl rfl hl.1 rfl (Nat.le_of_ble_eq_true rfl) dX4_report_59 ⟨Nat.le_of_ble_eq_true rfl, Nat.le_of_ble_eq_true rfl⟩) hD hS hA (fun H locs hP hD hS => ?_)
          refine pg_iE (pg_rV (As := [.int (pg_tellr u t x)]) (rest := []) ⟨hx, hb, hml, hown, hts⟩ (cc_owe l D cI cZ a H.size (pg_tell u t x) n hn h20 (pg_tellr u t x)) (cwV 1 hts gX4_report_X4_owe rfl rfl rfl (by decide +kernel) ⟨Nat.le_of_ble_eq_true rfl, Nat.le_of_ble_eq_true rfl⟩) hK hP hD 0 (ci := 4) rfl rfl rfl rfl hl.1 rfl (Nat.le_of_ble_eq_true rfl) dX4_report_62 ⟨Nat.le_of_ble_eq_true rfl, Nat.le_of_ble_eq_true rfl⟩) hD hS hA (fun H locs hP hD hS => ?_)
          exact W.iret (v := pg_tellr u t x) hx hb hr (fun t9 ht9 hW9 => ⟨⟨pg_tellr u t x, (pg_owe (pg_tell u t x) n (pg_tellr u t x)), rfl, ⟨rfl, rfl⟩, by rw [ht9]; exact hP, va_K.moved hW9.alike hK, hD⟩, hS.F ht9⟩) hS.2.2 dX4_report_65
        · have d_40 := pg_le_t (Int32.not_lt.mp c_40)
          exact absurd hthr (by first | (simp only [pg_t_report, c_5, c_9, d_19, d_40, cond_true, cond_false, Bool.not_true, Bool.not_false]; done) | (simp only [pg_t_report, c_5, c_9, d_19, d_40, cond_true, cond_false, Bool.not_true, Bool.not_false]; decide))
      · have d_19 := pg_eq_f c_19
        exact absurd hthr (by first | (simp only [pg_t_report, c_5, c_9, d_19, cond_true, cond_false, Bool.not_true, Bool.not_false]; done) | (simp only [pg_t_report, c_5, c_9, d_19, cond_true, cond_false, Bool.not_true, Bool.not_false]; decide))
  · exact absurd hthr (by first | (simp only [pg_t_report, c_5, cond_true, cond_false, Bool.not_true, Bool.not_false]; done) | (simp only [pg_t_report, c_5, cond_true, cond_false, Bool.not_true, Bool.not_false]; decide))
set_option maxHeartbeats 4000000 in
set_option maxRecDepth 100000 in
/-- cc_report: throws -/
theorem cc_report_no (l : Launch) (hfl : l.stackTraces = false) (D : va_G) (cI cZ : ClassId) (a : Nat → Nat) (sz : Nat) (u : pg_St) (n : Nat) (hn : u.1 10 = nI n) (h20 : n ≤ 20) (t : Nat) (ht : u.1 13 = nI t) (h4 : t ≤ 4) (x : Int32) (e9 : Int32) (nm : String) (hthr : pg_t_report (!pg_eq (u.1 3) (-1)) (!pg_eq (u.1 12) 0) (nI t) x = e9) (h0 : e9 ≠ 0) (h9_1 : e9 = 1 → nm = pg_ia) (h9_2 : e9 = 2 → nm = pg_is) : vx_Met l yX4_report wsX4_report ({ frames := 7, cells := 1, slots := 6, locals := 108 }) (va_Pc [.ref (a 0), .int x] (pg_T D (pg_ty cI cZ) (pg_wB cI cZ a u) sz)) pg_No (pg_X D (pg_wB cI cZ a u) (va_A (pg_wB cI cZ a u) sz) nm) 1 6 (va_A (pg_wB cI cZ a u) sz) := by
  refine vx_ofW (cc := cX4_report) (maxL := 2) (ret := (some .int)) (by decide) rfl ?_
  intro p e s m args below meth c s₁ B hml hout hv
  obtain ⟨rfl, ⟨hsz, hP, hK, hD0⟩, hE⟩ := hv
  have hx := B.exec
  have hb := B.bytes
  have hr := B.returns
  have hts := atoms_spec (ws := wsX4_report) B.pre
  have hown : s.vm.findClass RX4 = some m.cls := findClass_of_methodNamed B.named
  have hlocks := B.notSynchronized
  subst hsz
  have hD := hD0.self (sz := s.heap.size)
  generalize hAe : va_A (pg_wB cI cZ a u) s.heap.size = A at hD hE ⊢
  have hA : ∀ q : Nat, s.heap.size ≤ q → A q := fun q h => by rw [← hAe]; exact Or.inr h
  have hS : va_S A s.heap s.heap [] := va_S.rf
  have hl := lv_entry ([.ref (a 0), .int x]) (n := 2) (Nat.le_of_ble_eq_true rfl)
  rw [lg_entry_eq]
  generalize (lg_sl ([.ref (a 0), .int x]) ++ List.replicate (2 - (lg_sl ([.ref (a 0), .int x])).length) Slot.unset).toArray = ls at hl ⊢
  have hl : lv_has ls 2 [(0, .ref (a 0)), (1, .int x)] := hl
  have hiX1 : ∀ w ∈ wsX10, w ∈ wsX4_report := fun _ h => List.mem_cons_of_mem _ (List.mem_append_left _ (List.mem_append_left _ (List.mem_append_left _ (List.mem_append_left _ (List.mem_append_right _ (h))))))
  have hiX4 : ∀ w ∈ wsX40, w ∈ wsX4_report := fun _ h => List.mem_cons_of_mem _ (List.mem_append_left _ (List.mem_append_left _ (List.mem_append_left _ (List.mem_append_left _ (List.mem_append_left _ (List.mem_append_right _ (h)))))))
  have hw1 := hts (.classLink RX4 124 "java/lang/IllegalStateException") (List.mem_of_getElem? (i := 1) rfl)
  have hw2 := hts (.initialized "java/lang/IllegalStateException") (List.mem_of_getElem? (i := 2) rfl)
  have hw3 := hts (.constant RX4 49 (-10000000)) (List.mem_of_getElem? (i := 3) rfl)
  have hw4 := hts (.constant RX4 44 (10000000)) (List.mem_of_getElem? (i := 4) rfl)
  have hw5 := hts (.fieldLink RX4 33 "PegBox" "earnOut" "LPegBox$EarnOut;") (List.mem_of_getElem? (i := 5) rfl)
  have hw6 := hts (.fieldLink RX4 159 "PegBox$EarnOut" "isSpedUp" "Z") (List.mem_of_getElem? (i := 6) rfl)
  have hw7 := hts (.fieldLink RX4 164 "PegBox$EarnOut" "told" "I") (List.mem_of_getElem? (i := 7) rfl)
  refine lv_iload_n hx hb dX4_report_0 rfl (lv_at hl 1 rfl) ?_
  refine lv_ldc hx hb hown hw3 dX4_report_1 ?_
  refine lv_ldc hx hb hown hw4 dX4_report_3 ?_
  rcases Bool.eq_false_or_eq_true (pg_in x (-10000000) 10000000) with c_5 | c_5
  · refine pg_vU (pg_rS (As := [.int x, .int (-10000000), .int 10000000]) (rest := []) ⟨hx, hb, hml, hown, hts⟩ (cc_rng_ok l D (pg_ty cI cZ) (pg_wB cI cZ a u) s.heap.size x (-10000000) 10000000 c_5) (va_cwS 3 hts gX4_report_X4_checkRange rfl rfl rfl (by decide +kernel) ⟨Nat.le_of_ble_eq_true rfl, Nat.le_of_ble_eq_true rfl⟩) hK hP hD rfl hl.1 rfl (Nat.le_of_ble_eq_true rfl) dX4_report_5 ⟨Nat.le_of_ble_eq_true rfl, Nat.le_of_ble_eq_true rfl⟩) hD hS hA (fun H locs hP hD hS => ?_)
    refine lv_aload_n hx hb dX4_report_8 rfl (lv_at hl 0 rfl) ?_
    rcases Bool.eq_false_or_eq_true (pg_eq (u.1 3) (-1)) with c_9 | c_9
    · have he : e9 = 2 := hthr.symm.trans (by simp only [pg_t_report, c_5, c_9, cond_true, cond_false, Bool.not_true, Bool.not_false])
      obtain rfl := h9_2 he
      exact pg_thru (pg_xV (As := []) (rest := []) ⟨hx, hb, hml, hown, hts⟩ (cc_cls_no l hfl D cI cZ a H.size u c_9) (cwV 0 hts gX4_report_X4_checkClosed rfl rfl rfl (by decide +kernel) ⟨Nat.le_of_ble_eq_true rfl, Nat.le_of_ble_eq_true rfl⟩) hK hP hD hS hA hE 0 (ci := 4) rfl rfl rfl rfl hl.1 rfl (Nat.le_of_ble_eq_true rfl) dX4_report_9 ⟨Nat.le_of_ble_eq_true rfl, Nat.le_of_ble_eq_true rfl⟩) hD hS hA hout hlocks (Nat.le_of_ble_eq_true rfl) (Nat.le_of_ble_eq_true rfl)
    · refine pg_vE (pg_rV (As := []) (rest := []) ⟨hx, hb, hml, hown, hts⟩ (cc_cls_ok l D cI cZ a H.size u c_9) (cwV 0 hts gX4_report_X4_checkClosed rfl rfl rfl (by decide +kernel) ⟨Nat.le_of_ble_eq_true rfl, Nat.le_of_ble_eq_true rfl⟩) hK hP hD 0 (ci := 4) rfl rfl rfl rfl hl.1 rfl (Nat.le_of_ble_eq_true rfl) dX4_report_9 ⟨Nat.le_of_ble_eq_true rfl, Nat.le_of_ble_eq_true rfl⟩) hD hS hA (fun H locs hP hD hS => ?_)
      refine lv_aload_n hx hb dX4_report_12 rfl (lv_at hl 0 rfl) ?_
      refine va_get (D := D) (ci := 4) (v := .ref (a 4)) (C := RX4) (T := TX4) (N := 14) hx hb hts hiX4 hown hK hP 0 rfl rfl 3 (by decide) hw5 (fun _ h9 => h9) rfl dX4_report_13 ?_
      refine va_get (D := D) (ci := 1) (v := .int (u.1 12)) (C := RX1) (T := TX1) (N := 8) hx hb hts hiX1 hown hK hP 4 rfl rfl 4 (by decide) hw6 (fun _ h9 => h9) rfl dX4_report_16 ?_
      refine lv_if_eq (tgt := 32) hx hb dX4_report_19 (by decide) (fun c_19 => ?_) (fun c_19 => ?_)
      · have d_19 := pg_eq_t c_19
        refine lv_aload_n hx hb dX4_report_32 rfl (lv_at hl 0 rfl) ?_
        refine va_get (D := D) (ci := 4) (v := .ref (a 4)) (C := RX4) (T := TX4) (N := 14) hx hb hts hiX4 hown hK hP 0 rfl rfl 3 (by decide) hw5 (fun _ h9 => h9) rfl dX4_report_33 ?_
        refine va_get (D := D) (ci := 1) (v := .int (u.1 13)) (C := RX1) (T := TX1) (N := 8) hx hb hts hiX1 hown hK hP 4 rfl rfl 5 (by decide) hw7 (fun _ h9 => h9) rfl dX4_report_36 ?_
        rw [ht]
        refine lv_iconst (v := 4) hx hb dX4_report_39 (by decide) ?_
        refine lv_icmp_lt (tgt := 53) hx hb dX4_report_40 (by decide) (fun c_40 => ?_) (fun c_40 => ?_)
        · have d_40 := pg_le_f (Int32.not_le.mpr c_40)
          exact absurd (hthr.symm.trans (by simp only [pg_t_report, c_5, c_9, d_19, d_40, cond_true, cond_false, Bool.not_true, Bool.not_false])) h0
        · have d_40 := pg_le_t (Int32.not_lt.mp c_40)
          have he : e9 = 2 := hthr.symm.trans (by simp only [pg_t_report, c_5, c_9, d_19, d_40, cond_true, cond_false, Bool.not_true, Bool.not_false])
          obtain rfl := h9_2 he
          exact pg_thr (nm := pg_is) (i := 10) hx hb hfl hown (by decide +kernel) hw1 hw2 rfl (fun w9 h => hts w9 (List.mem_cons_of_mem _ (List.mem_append_left _ (List.mem_append_right _ (h))))) pg_h2_is pg_hg_is hE hP hS hA (by rw [hml]; exact hl.1) dX4_report_43 dX4_report_46 dX4_report_47 dX4_report_49 dX4_report_52 hout (Nat.le_of_ble_eq_true rfl) (Nat.le_of_ble_eq_true rfl) (Nat.le_of_ble_eq_true rfl) (Nat.le_of_ble_eq_true rfl) hlocks (Nat.le_of_ble_eq_true rfl) (Nat.le_of_ble_eq_true rfl)
      · have d_19 := pg_eq_f c_19
        have he : e9 = 2 := hthr.symm.trans (by simp only [pg_t_report, c_5, c_9, d_19, cond_true, cond_false, Bool.not_true, Bool.not_false])
        obtain rfl := h9_2 he
        exact pg_thr (nm := pg_is) (i := 9) hx hb hfl hown (by decide +kernel) hw1 hw2 rfl (fun w9 h => hts w9 (List.mem_cons_of_mem _ (List.mem_append_left _ (List.mem_append_right _ (h))))) pg_h2_is pg_hg_is hE hP hS hA (by rw [hml]; exact hl.1) dX4_report_22 dX4_report_25 dX4_report_26 dX4_report_28 dX4_report_31 hout (Nat.le_of_ble_eq_true rfl) (Nat.le_of_ble_eq_true rfl) (Nat.le_of_ble_eq_true rfl) (Nat.le_of_ble_eq_true rfl) hlocks (Nat.le_of_ble_eq_true rfl) (Nat.le_of_ble_eq_true rfl)
  · have he : e9 = 1 := hthr.symm.trans (by simp only [pg_t_report, c_5, cond_true, cond_false, Bool.not_true, Bool.not_false])
    obtain rfl := h9_1 he
    exact pg_thru (pg_xS (As := [.int x, .int (-10000000), .int 10000000]) (rest := []) ⟨hx, hb, hml, hown, hts⟩ (cc_rng_no l hfl D (pg_ty cI cZ) (pg_wB cI cZ a u) s.heap.size x (-10000000) 10000000 c_5) (va_cwS 3 hts gX4_report_X4_checkRange rfl rfl rfl (by decide +kernel) ⟨Nat.le_of_ble_eq_true rfl, Nat.le_of_ble_eq_true rfl⟩) hK hP hD hS hA hE rfl hl.1 rfl (Nat.le_of_ble_eq_true rfl) dX4_report_5 ⟨Nat.le_of_ble_eq_true rfl, Nat.le_of_ble_eq_true rfl⟩) hD hS hA hout hlocks (Nat.le_of_ble_eq_true rfl) (Nat.le_of_ble_eq_true rfl)
set_option maxHeartbeats 4000000 in
set_option maxRecDepth 100000 in
/-- cc_speedUp: returns -/
theorem cc_speedUp_ok (l : Launch) (D : va_G) (cI cZ : ClassId) (a : Nat → Nat) (sz : Nat) (u : pg_St) (n : Nat) (hn : u.1 10 = nI n) (h20 : n ≤ 20) (t : Nat) (ht : u.1 13 = nI t) (h4 : t ≤ 4)  (hthr : pg_t_speedUp (!pg_eq (u.1 3) (-1)) (!pg_eq (u.1 12) 0) = 0) : Met l yX4_speedUp wsX4_speedUp ({ frames := 6, cells := 0, slots := 0, locals := 130 }) (va_Pc [.ref (a 0)] (pg_B D (pg_ty cI cZ) (pg_wB cI cZ a u) sz)) (va_Qi (fun r u' => r = pg_hasr u t ∧ u' = pg_owe (pg_has u t) n (pg_hasr u t)) (pg_E D (pg_ty cI cZ) (va_A (pg_wB cI cZ a u) sz) (pg_wB cI cZ a)) (va_A (pg_wB cI cZ a u) sz)) 0 0 (va_A (pg_wB cI cZ a u) sz) := by
  refine Met.ofW (cc := cX4_speedUp) (maxL := 1) (ret := (some .int)) (by decide) rfl ?_
  intro p e s m args below meth c s₁ B hml hv
  obtain ⟨rfl, hsz, hP, hK, hD0⟩ := hv
  have hx := B.exec
  have hb := B.bytes
  have hr := B.returns
  have hts := atoms_spec (ws := wsX4_speedUp) B.pre
  have hown : s.vm.findClass RX4 = some m.cls := findClass_of_methodNamed B.named
  have hlocks := B.notSynchronized
  subst hsz
  have hD := hD0.self (sz := s.heap.size)
  generalize hAe : va_A (pg_wB cI cZ a u) s.heap.size = A at hD ⊢
  have hA : ∀ q : Nat, s.heap.size ≤ q → A q := fun q h => by rw [← hAe]; exact Or.inr h
  have hS : va_S A s.heap s.heap [] := va_S.rf
  have hl := lv_entry ([.ref (a 0)]) (n := 1) (Nat.le_of_ble_eq_true rfl)
  rw [lg_entry_eq]
  generalize (lg_sl ([.ref (a 0)]) ++ List.replicate (1 - (lg_sl ([.ref (a 0)])).length) Slot.unset).toArray = ls at hl ⊢
  have hl : lv_has ls 1 [(0, .ref (a 0))] := hl
  have hiX1 : ∀ w ∈ wsX10, w ∈ wsX4_speedUp := fun _ h => List.mem_cons_of_mem _ (List.mem_append_left _ (List.mem_append_left _ (List.mem_append_left _ (List.mem_append_right _ (h)))))
  have hiX4 : ∀ w ∈ wsX40, w ∈ wsX4_speedUp := fun _ h => List.mem_cons_of_mem _ (List.mem_append_left _ (List.mem_append_left _ (List.mem_append_left _ (List.mem_append_left _ (List.mem_append_right _ (h))))))
  have hw3 := hts (.fieldLink RX4 33 "PegBox" "earnOut" "LPegBox$EarnOut;") (List.mem_of_getElem? (i := 3) rfl)
  have hw4 := hts (.fieldLink RX4 159 "PegBox$EarnOut" "isSpedUp" "Z") (List.mem_of_getElem? (i := 4) rfl)
  refine lv_aload_n hx hb dX4_speedUp_0 rfl (lv_at hl 0 rfl) ?_
  rcases Bool.eq_false_or_eq_true (pg_eq (u.1 3) (-1)) with c_1 | c_1
  · exact absurd hthr (by first | (simp only [pg_t_speedUp, c_1, cond_true, cond_false, Bool.not_true, Bool.not_false]; done) | (simp only [pg_t_speedUp, c_1, cond_true, cond_false, Bool.not_true, Bool.not_false]; decide))
  · refine pg_vE (pg_rV (As := []) (rest := []) ⟨hx, hb, hml, hown, hts⟩ (cc_cls_ok l D cI cZ a s.heap.size u c_1) (cwV 0 hts gX4_speedUp_X4_checkClosed rfl rfl rfl (by decide +kernel) ⟨Nat.le_of_ble_eq_true rfl, Nat.le_of_ble_eq_true rfl⟩) hK hP hD 0 (ci := 4) rfl rfl rfl rfl hl.1 rfl (Nat.le_of_ble_eq_true rfl) dX4_speedUp_1 ⟨Nat.le_of_ble_eq_true rfl, Nat.le_of_ble_eq_true rfl⟩) hD hS hA (fun H locs hP hD hS => ?_)
    refine lv_aload_n hx hb dX4_speedUp_4 rfl (lv_at hl 0 rfl) ?_
    refine va_get (D := D) (ci := 4) (v := .ref (a 4)) (C := RX4) (T := TX4) (N := 14) hx hb hts hiX4 hown hK hP 0 rfl rfl 3 (by decide) hw3 (fun _ h9 => h9) rfl dX4_speedUp_5 ?_
    refine va_get (D := D) (ci := 1) (v := .int (u.1 12)) (C := RX1) (T := TX1) (N := 8) hx hb hts hiX1 hown hK hP 4 rfl rfl 4 (by decide) hw4 (fun _ h9 => h9) rfl dX4_speedUp_8 ?_
    refine lv_if_eq (tgt := 24) hx hb dX4_speedUp_11 (by decide) (fun c_11 => ?_) (fun c_11 => ?_)
    · have d_11 := pg_eq_t c_11
      refine lv_aload_n hx hb dX4_speedUp_24 rfl (lv_at hl 0 rfl) ?_
      refine lv_aload_n hx hb dX4_speedUp_25 rfl (lv_at hl 0 rfl) ?_
      refine va_get (D := D) (ci := 4) (v := .ref (a 4)) (C := RX4) (T := TX4) (N := 14) hx hb hts hiX4 hown hK hP 0 rfl rfl 3 (by decide) hw3 (fun _ h9 => h9) rfl dX4_speedUp_26 ?_
      refine pg_iE (pg_rV (As := []) (rest := [.ref (a 0)]) ⟨hx, hb, hml, hown, hts⟩ (cc_hasten l D cI cZ a H.size u t ht h4) (cwV 0 hts gX4_speedUp_X1_hasten rfl rfl rfl (by decide +kernel) ⟨Nat.le_of_ble_eq_true rfl, Nat.le_of_ble_eq_true rfl⟩) hK hP hD 4 (ci := 1) rfl rfl rfl rfl hl.1 rfl (Nat.le_of_ble_eq_true rfl) dX4_speedUp_29 ⟨Nat.le_of_ble_eq_true rfl, Nat.le_of_ble_eq_true rfl⟩) hD hS hA (fun H locs hP hD hS => ?_)
      refine pg_iE (pg_rV (As := [.int (pg_hasr u t)]) (rest := []) ⟨hx, hb, hml, hown, hts⟩ (cc_owe l D cI cZ a H.size (pg_has u t) n hn h20 (pg_hasr u t)) (cwV 1 hts gX4_speedUp_X4_owe rfl rfl rfl (by decide +kernel) ⟨Nat.le_of_ble_eq_true rfl, Nat.le_of_ble_eq_true rfl⟩) hK hP hD 0 (ci := 4) rfl rfl rfl rfl hl.1 rfl (Nat.le_of_ble_eq_true rfl) dX4_speedUp_32 ⟨Nat.le_of_ble_eq_true rfl, Nat.le_of_ble_eq_true rfl⟩) hD hS hA (fun H locs hP hD hS => ?_)
      exact W.iret (v := pg_hasr u t) hx hb hr (fun t9 ht9 hW9 => ⟨⟨pg_hasr u t, (pg_owe (pg_has u t) n (pg_hasr u t)), rfl, ⟨rfl, rfl⟩, by rw [ht9]; exact hP, va_K.moved hW9.alike hK, hD⟩, hS.F ht9⟩) hS.2.2 dX4_speedUp_35
    · have d_11 := pg_eq_f c_11
      exact absurd hthr (by first | (simp only [pg_t_speedUp, c_1, d_11, cond_true, cond_false, Bool.not_true, Bool.not_false]; done) | (simp only [pg_t_speedUp, c_1, d_11, cond_true, cond_false, Bool.not_true, Bool.not_false]; decide))
set_option maxHeartbeats 4000000 in
set_option maxRecDepth 100000 in
/-- cc_speedUp: throws -/
theorem cc_speedUp_no (l : Launch) (hfl : l.stackTraces = false) (D : va_G) (cI cZ : ClassId) (a : Nat → Nat) (sz : Nat) (u : pg_St) (n : Nat) (hn : u.1 10 = nI n) (h20 : n ≤ 20) (t : Nat) (ht : u.1 13 = nI t) (h4 : t ≤ 4)  (e9 : Int32) (nm : String) (hthr : pg_t_speedUp (!pg_eq (u.1 3) (-1)) (!pg_eq (u.1 12) 0) = e9) (h0 : e9 ≠ 0) (h9_1 : e9 = 1 → nm = pg_is) : vx_Met l yX4_speedUp wsX4_speedUp ({ frames := 7, cells := 1, slots := 6, locals := 106 }) (va_Pc [.ref (a 0)] (pg_T D (pg_ty cI cZ) (pg_wB cI cZ a u) sz)) pg_No (pg_X D (pg_wB cI cZ a u) (va_A (pg_wB cI cZ a u) sz) nm) 1 6 (va_A (pg_wB cI cZ a u) sz) := by
  refine vx_ofW (cc := cX4_speedUp) (maxL := 1) (ret := (some .int)) (by decide) rfl ?_
  intro p e s m args below meth c s₁ B hml hout hv
  obtain ⟨rfl, ⟨hsz, hP, hK, hD0⟩, hE⟩ := hv
  have hx := B.exec
  have hb := B.bytes
  have hr := B.returns
  have hts := atoms_spec (ws := wsX4_speedUp) B.pre
  have hown : s.vm.findClass RX4 = some m.cls := findClass_of_methodNamed B.named
  have hlocks := B.notSynchronized
  subst hsz
  have hD := hD0.self (sz := s.heap.size)
  generalize hAe : va_A (pg_wB cI cZ a u) s.heap.size = A at hD hE ⊢
  have hA : ∀ q : Nat, s.heap.size ≤ q → A q := fun q h => by rw [← hAe]; exact Or.inr h
  have hS : va_S A s.heap s.heap [] := va_S.rf
  have hl := lv_entry ([.ref (a 0)]) (n := 1) (Nat.le_of_ble_eq_true rfl)
  rw [lg_entry_eq]
  generalize (lg_sl ([.ref (a 0)]) ++ List.replicate (1 - (lg_sl ([.ref (a 0)])).length) Slot.unset).toArray = ls at hl ⊢
  have hl : lv_has ls 1 [(0, .ref (a 0))] := hl
  have hiX1 : ∀ w ∈ wsX10, w ∈ wsX4_speedUp := fun _ h => List.mem_cons_of_mem _ (List.mem_append_left _ (List.mem_append_left _ (List.mem_append_left _ (List.mem_append_right _ (h)))))
  have hiX4 : ∀ w ∈ wsX40, w ∈ wsX4_speedUp := fun _ h => List.mem_cons_of_mem _ (List.mem_append_left _ (List.mem_append_left _ (List.mem_append_left _ (List.mem_append_left _ (List.mem_append_right _ (h))))))
  have hw1 := hts (.classLink RX4 124 "java/lang/IllegalStateException") (List.mem_of_getElem? (i := 1) rfl)
  have hw2 := hts (.initialized "java/lang/IllegalStateException") (List.mem_of_getElem? (i := 2) rfl)
  have hw3 := hts (.fieldLink RX4 33 "PegBox" "earnOut" "LPegBox$EarnOut;") (List.mem_of_getElem? (i := 3) rfl)
  have hw4 := hts (.fieldLink RX4 159 "PegBox$EarnOut" "isSpedUp" "Z") (List.mem_of_getElem? (i := 4) rfl)
  refine lv_aload_n hx hb dX4_speedUp_0 rfl (lv_at hl 0 rfl) ?_
  rcases Bool.eq_false_or_eq_true (pg_eq (u.1 3) (-1)) with c_1 | c_1
  · have he : e9 = 1 := hthr.symm.trans (by simp only [pg_t_speedUp, c_1, cond_true, cond_false, Bool.not_true, Bool.not_false])
    obtain rfl := h9_1 he
    exact pg_thru (pg_xV (As := []) (rest := []) ⟨hx, hb, hml, hown, hts⟩ (cc_cls_no l hfl D cI cZ a s.heap.size u c_1) (cwV 0 hts gX4_speedUp_X4_checkClosed rfl rfl rfl (by decide +kernel) ⟨Nat.le_of_ble_eq_true rfl, Nat.le_of_ble_eq_true rfl⟩) hK hP hD hS hA hE 0 (ci := 4) rfl rfl rfl rfl hl.1 rfl (Nat.le_of_ble_eq_true rfl) dX4_speedUp_1 ⟨Nat.le_of_ble_eq_true rfl, Nat.le_of_ble_eq_true rfl⟩) hD hS hA hout hlocks (Nat.le_of_ble_eq_true rfl) (Nat.le_of_ble_eq_true rfl)
  · refine pg_vE (pg_rV (As := []) (rest := []) ⟨hx, hb, hml, hown, hts⟩ (cc_cls_ok l D cI cZ a s.heap.size u c_1) (cwV 0 hts gX4_speedUp_X4_checkClosed rfl rfl rfl (by decide +kernel) ⟨Nat.le_of_ble_eq_true rfl, Nat.le_of_ble_eq_true rfl⟩) hK hP hD 0 (ci := 4) rfl rfl rfl rfl hl.1 rfl (Nat.le_of_ble_eq_true rfl) dX4_speedUp_1 ⟨Nat.le_of_ble_eq_true rfl, Nat.le_of_ble_eq_true rfl⟩) hD hS hA (fun H locs hP hD hS => ?_)
    refine lv_aload_n hx hb dX4_speedUp_4 rfl (lv_at hl 0 rfl) ?_
    refine va_get (D := D) (ci := 4) (v := .ref (a 4)) (C := RX4) (T := TX4) (N := 14) hx hb hts hiX4 hown hK hP 0 rfl rfl 3 (by decide) hw3 (fun _ h9 => h9) rfl dX4_speedUp_5 ?_
    refine va_get (D := D) (ci := 1) (v := .int (u.1 12)) (C := RX1) (T := TX1) (N := 8) hx hb hts hiX1 hown hK hP 4 rfl rfl 4 (by decide) hw4 (fun _ h9 => h9) rfl dX4_speedUp_8 ?_
    refine lv_if_eq (tgt := 24) hx hb dX4_speedUp_11 (by decide) (fun c_11 => ?_) (fun c_11 => ?_)
    · have d_11 := pg_eq_t c_11
      exact absurd (hthr.symm.trans (by simp only [pg_t_speedUp, c_1, d_11, cond_true, cond_false, Bool.not_true, Bool.not_false])) h0
    · have d_11 := pg_eq_f c_11
      have he : e9 = 1 := hthr.symm.trans (by simp only [pg_t_speedUp, c_1, d_11, cond_true, cond_false, Bool.not_true, Bool.not_false])
      obtain rfl := h9_1 he
      exact pg_thr (nm := pg_is) (i := 9) hx hb hfl hown (by decide +kernel) hw1 hw2 rfl (fun w9 h => hts w9 (List.mem_cons_of_mem _ (List.mem_append_right _ (h)))) pg_h2_is pg_hg_is hE hP hS hA (by rw [hml]; exact hl.1) dX4_speedUp_14 dX4_speedUp_17 dX4_speedUp_18 dX4_speedUp_20 dX4_speedUp_23 hout (Nat.le_of_ble_eq_true rfl) (Nat.le_of_ble_eq_true rfl) (Nat.le_of_ble_eq_true rfl) (Nat.le_of_ble_eq_true rfl) hlocks (Nat.le_of_ble_eq_true rfl) (Nat.le_of_ble_eq_true rfl)
set_option maxHeartbeats 4000000 in
set_option maxRecDepth 100000 in
theorem cc_day (l : Launch) (D : va_G) (cI cZ : ClassId) (a : Nat → Nat) (sz : Nat) (u : pg_St) : Met l yX4_day wsX4_day ({ frames := 0, cells := 0, slots := 0, locals := 0 }) (va_Pc [.ref (a 0)] (pg_B D (pg_ty cI cZ) (pg_wB cI cZ a u) sz)) (va_Qi (fun r u' => r = u.1 3 ∧ u' = u) (pg_E D (pg_ty cI cZ) (va_A (pg_wB cI cZ a u) sz) (pg_wB cI cZ a)) (va_A (pg_wB cI cZ a u) sz)) 0 0 (va_A (pg_wB cI cZ a u) sz) := by
  refine Met.ofW (cc := cX4_day) (maxL := 1) (ret := (some .int)) (by decide) rfl ?_
  intro p e s m args below meth c s₁ B hml hv
  obtain ⟨rfl, hsz, hP, hK, hD0⟩ := hv
  have hx := B.exec
  have hb := B.bytes
  have hr := B.returns
  have hts := atoms_spec (ws := wsX4_day) B.pre
  have hown : s.vm.findClass RX4 = some m.cls := findClass_of_methodNamed B.named
  have hlocks := B.notSynchronized
  subst hsz
  have hD := hD0.self (sz := s.heap.size)
  generalize hAe : va_A (pg_wB cI cZ a u) s.heap.size = A at hD ⊢
  have hA : ∀ q : Nat, s.heap.size ≤ q → A q := fun q h => by rw [← hAe]; exact Or.inr h
  have hS : va_S A s.heap s.heap [] := va_S.rf
  have hl := lv_entry ([.ref (a 0)]) (n := 1) (Nat.le_of_ble_eq_true rfl)
  rw [lg_entry_eq]
  generalize (lg_sl ([.ref (a 0)]) ++ List.replicate (1 - (lg_sl ([.ref (a 0)])).length) Slot.unset).toArray = ls at hl ⊢
  have hl : lv_has ls 1 [(0, .ref (a 0))] := hl
  have hiX4 : ∀ w ∈ wsX40, w ∈ wsX4_day := fun _ h => List.mem_cons_of_mem _ (List.mem_append_right _ (h))
  have hw1 := hts (.fieldLink RX4 37 "PegBox" "day" "I") (List.mem_of_getElem? (i := 1) rfl)
  refine lv_aload_n hx hb dX4_day_0 rfl (lv_at hl 0 rfl) ?_
  refine va_get (D := D) (ci := 4) (v := .int (u.1 3)) (C := RX4) (T := TX4) (N := 14) hx hb hts hiX4 hown hK hP 0 rfl rfl 7 (by decide) hw1 (fun _ h9 => h9) rfl dX4_day_1 ?_
  exact W.iret (v := u.1 3) hx hb hr (fun t9 ht9 hW9 => ⟨⟨u.1 3, u, rfl, ⟨rfl, rfl⟩, by rw [ht9]; exact hP, va_K.moved hW9.alike hK, hD⟩, hS.F ht9⟩) hS.2.2 dX4_day_4
set_option maxHeartbeats 4000000 in
set_option maxRecDepth 100000 in
theorem cc_finalPrice (l : Launch) (D : va_G) (cI cZ : ClassId) (a : Nat → Nat) (sz : Nat) (u : pg_St) : Met l yX4_finalPrice wsX4_finalPrice ({ frames := 0, cells := 0, slots := 0, locals := 0 }) (va_Pc [.ref (a 0)] (pg_B D (pg_ty cI cZ) (pg_wB cI cZ a u) sz)) (va_Qi (fun r u' => r = u.1 4 ∧ u' = u) (pg_E D (pg_ty cI cZ) (va_A (pg_wB cI cZ a u) sz) (pg_wB cI cZ a)) (va_A (pg_wB cI cZ a u) sz)) 0 0 (va_A (pg_wB cI cZ a u) sz) := by
  refine Met.ofW (cc := cX4_finalPrice) (maxL := 1) (ret := (some .int)) (by decide) rfl ?_
  intro p e s m args below meth c s₁ B hml hv
  obtain ⟨rfl, hsz, hP, hK, hD0⟩ := hv
  have hx := B.exec
  have hb := B.bytes
  have hr := B.returns
  have hts := atoms_spec (ws := wsX4_finalPrice) B.pre
  have hown : s.vm.findClass RX4 = some m.cls := findClass_of_methodNamed B.named
  have hlocks := B.notSynchronized
  subst hsz
  have hD := hD0.self (sz := s.heap.size)
  generalize hAe : va_A (pg_wB cI cZ a u) s.heap.size = A at hD ⊢
  have hA : ∀ q : Nat, s.heap.size ≤ q → A q := fun q h => by rw [← hAe]; exact Or.inr h
  have hS : va_S A s.heap s.heap [] := va_S.rf
  have hl := lv_entry ([.ref (a 0)]) (n := 1) (Nat.le_of_ble_eq_true rfl)
  rw [lg_entry_eq]
  generalize (lg_sl ([.ref (a 0)]) ++ List.replicate (1 - (lg_sl ([.ref (a 0)])).length) Slot.unset).toArray = ls at hl ⊢
  have hl : lv_has ls 1 [(0, .ref (a 0))] := hl
  have hiX4 : ∀ w ∈ wsX40, w ∈ wsX4_finalPrice := fun _ h => List.mem_cons_of_mem _ (List.mem_append_right _ (h))
  have hw1 := hts (.fieldLink RX4 41 "PegBox" "finalPrice" "I") (List.mem_of_getElem? (i := 1) rfl)
  refine lv_aload_n hx hb dX4_finalPrice_0 rfl (lv_at hl 0 rfl) ?_
  refine va_get (D := D) (ci := 4) (v := .int (u.1 4)) (C := RX4) (T := TX4) (N := 14) hx hb hts hiX4 hown hK hP 0 rfl rfl 8 (by decide) hw1 (fun _ h9 => h9) rfl dX4_finalPrice_1 ?_
  exact W.iret (v := u.1 4) hx hb hr (fun t9 ht9 hW9 => ⟨⟨u.1 4, u, rfl, ⟨rfl, rfl⟩, by rw [ht9]; exact hP, va_K.moved hW9.alike hK, hD⟩, hS.F ht9⟩) hS.2.2 dX4_finalPrice_4
set_option maxHeartbeats 4000000 in
set_option maxRecDepth 100000 in
theorem cc_held (l : Launch) (D : va_G) (cI cZ : ClassId) (a : Nat → Nat) (sz : Nat) (u : pg_St) : Met l yX4_held wsX4_held ({ frames := 0, cells := 0, slots := 0, locals := 0 }) (va_Pc [.ref (a 0)] (pg_B D (pg_ty cI cZ) (pg_wB cI cZ a u) sz)) (va_Qi (fun r u' => r = u.1 5 ∧ u' = u) (pg_E D (pg_ty cI cZ) (va_A (pg_wB cI cZ a u) sz) (pg_wB cI cZ a)) (va_A (pg_wB cI cZ a u) sz)) 0 0 (va_A (pg_wB cI cZ a u) sz) := by
  refine Met.ofW (cc := cX4_held) (maxL := 1) (ret := (some .int)) (by decide) rfl ?_
  intro p e s m args below meth c s₁ B hml hv
  obtain ⟨rfl, hsz, hP, hK, hD0⟩ := hv
  have hx := B.exec
  have hb := B.bytes
  have hr := B.returns
  have hts := atoms_spec (ws := wsX4_held) B.pre
  have hown : s.vm.findClass RX4 = some m.cls := findClass_of_methodNamed B.named
  have hlocks := B.notSynchronized
  subst hsz
  have hD := hD0.self (sz := s.heap.size)
  generalize hAe : va_A (pg_wB cI cZ a u) s.heap.size = A at hD ⊢
  have hA : ∀ q : Nat, s.heap.size ≤ q → A q := fun q h => by rw [← hAe]; exact Or.inr h
  have hS : va_S A s.heap s.heap [] := va_S.rf
  have hl := lv_entry ([.ref (a 0)]) (n := 1) (Nat.le_of_ble_eq_true rfl)
  rw [lg_entry_eq]
  generalize (lg_sl ([.ref (a 0)]) ++ List.replicate (1 - (lg_sl ([.ref (a 0)])).length) Slot.unset).toArray = ls at hl ⊢
  have hl : lv_has ls 1 [(0, .ref (a 0))] := hl
  have hiX4 : ∀ w ∈ wsX40, w ∈ wsX4_held := fun _ h => List.mem_cons_of_mem _ (List.mem_append_right _ (h))
  have hw1 := hts (.fieldLink RX4 115 "PegBox" "held" "I") (List.mem_of_getElem? (i := 1) rfl)
  refine lv_aload_n hx hb dX4_held_0 rfl (lv_at hl 0 rfl) ?_
  refine va_get (D := D) (ci := 4) (v := .int (u.1 5)) (C := RX4) (T := TX4) (N := 14) hx hb hts hiX4 hown hK hP 0 rfl rfl 9 (by decide) hw1 (fun _ h9 => h9) rfl dX4_held_1 ?_
  exact W.iret (v := u.1 5) hx hb hr (fun t9 ht9 hW9 => ⟨⟨u.1 5, u, rfl, ⟨rfl, rfl⟩, by rw [ht9]; exact hP, va_K.moved hW9.alike hK, hD⟩, hS.F ht9⟩) hS.2.2 dX4_held_4
set_option maxHeartbeats 4000000 in
set_option maxRecDepth 100000 in
theorem cc_paid (l : Launch) (D : va_G) (cI cZ : ClassId) (a : Nat → Nat) (sz : Nat) (u : pg_St) : Met l yX4_paid wsX4_paid ({ frames := 0, cells := 0, slots := 0, locals := 0 }) (va_Pc [.ref (a 0)] (pg_B D (pg_ty cI cZ) (pg_wB cI cZ a u) sz)) (va_Qi (fun r u' => r = u.1 6 ∧ u' = u) (pg_E D (pg_ty cI cZ) (va_A (pg_wB cI cZ a u) sz) (pg_wB cI cZ a)) (va_A (pg_wB cI cZ a u) sz)) 0 0 (va_A (pg_wB cI cZ a u) sz) := by
  refine Met.ofW (cc := cX4_paid) (maxL := 1) (ret := (some .int)) (by decide) rfl ?_
  intro p e s m args below meth c s₁ B hml hv
  obtain ⟨rfl, hsz, hP, hK, hD0⟩ := hv
  have hx := B.exec
  have hb := B.bytes
  have hr := B.returns
  have hts := atoms_spec (ws := wsX4_paid) B.pre
  have hown : s.vm.findClass RX4 = some m.cls := findClass_of_methodNamed B.named
  have hlocks := B.notSynchronized
  subst hsz
  have hD := hD0.self (sz := s.heap.size)
  generalize hAe : va_A (pg_wB cI cZ a u) s.heap.size = A at hD ⊢
  have hA : ∀ q : Nat, s.heap.size ≤ q → A q := fun q h => by rw [← hAe]; exact Or.inr h
  have hS : va_S A s.heap s.heap [] := va_S.rf
  have hl := lv_entry ([.ref (a 0)]) (n := 1) (Nat.le_of_ble_eq_true rfl)
  rw [lg_entry_eq]
  generalize (lg_sl ([.ref (a 0)]) ++ List.replicate (1 - (lg_sl ([.ref (a 0)])).length) Slot.unset).toArray = ls at hl ⊢
  have hl : lv_has ls 1 [(0, .ref (a 0))] := hl
  have hiX4 : ∀ w ∈ wsX40, w ∈ wsX4_paid := fun _ h => List.mem_cons_of_mem _ (List.mem_append_right _ (h))
  have hw1 := hts (.fieldLink RX4 118 "PegBox" "paid" "I") (List.mem_of_getElem? (i := 1) rfl)
  refine lv_aload_n hx hb dX4_paid_0 rfl (lv_at hl 0 rfl) ?_
  refine va_get (D := D) (ci := 4) (v := .int (u.1 6)) (C := RX4) (T := TX4) (N := 14) hx hb hts hiX4 hown hK hP 0 rfl rfl 10 (by decide) hw1 (fun _ h9 => h9) rfl dX4_paid_1 ?_
  exact W.iret (v := u.1 6) hx hb hr (fun t9 ht9 hW9 => ⟨⟨u.1 6, u, rfl, ⟨rfl, rfl⟩, by rw [ht9]; exact hP, va_K.moved hW9.alike hK, hD⟩, hS.F ht9⟩) hS.2.2 dX4_paid_4
set_option maxHeartbeats 4000000 in
set_option maxRecDepth 100000 in
theorem cc_returned (l : Launch) (D : va_G) (cI cZ : ClassId) (a : Nat → Nat) (sz : Nat) (u : pg_St) : Met l yX4_returned wsX4_returned ({ frames := 0, cells := 0, slots := 0, locals := 0 }) (va_Pc [.ref (a 0)] (pg_B D (pg_ty cI cZ) (pg_wB cI cZ a u) sz)) (va_Qi (fun r u' => r = u.1 7 ∧ u' = u) (pg_E D (pg_ty cI cZ) (va_A (pg_wB cI cZ a u) sz) (pg_wB cI cZ a)) (va_A (pg_wB cI cZ a u) sz)) 0 0 (va_A (pg_wB cI cZ a u) sz) := by
  refine Met.ofW (cc := cX4_returned) (maxL := 1) (ret := (some .int)) (by decide) rfl ?_
  intro p e s m args below meth c s₁ B hml hv
  obtain ⟨rfl, hsz, hP, hK, hD0⟩ := hv
  have hx := B.exec
  have hb := B.bytes
  have hr := B.returns
  have hts := atoms_spec (ws := wsX4_returned) B.pre
  have hown : s.vm.findClass RX4 = some m.cls := findClass_of_methodNamed B.named
  have hlocks := B.notSynchronized
  subst hsz
  have hD := hD0.self (sz := s.heap.size)
  generalize hAe : va_A (pg_wB cI cZ a u) s.heap.size = A at hD ⊢
  have hA : ∀ q : Nat, s.heap.size ≤ q → A q := fun q h => by rw [← hAe]; exact Or.inr h
  have hS : va_S A s.heap s.heap [] := va_S.rf
  have hl := lv_entry ([.ref (a 0)]) (n := 1) (Nat.le_of_ble_eq_true rfl)
  rw [lg_entry_eq]
  generalize (lg_sl ([.ref (a 0)]) ++ List.replicate (1 - (lg_sl ([.ref (a 0)])).length) Slot.unset).toArray = ls at hl ⊢
  have hl : lv_has ls 1 [(0, .ref (a 0))] := hl
  have hiX4 : ∀ w ∈ wsX40, w ∈ wsX4_returned := fun _ h => List.mem_cons_of_mem _ (List.mem_append_right _ (h))
  have hw1 := hts (.fieldLink RX4 178 "PegBox" "returned" "I") (List.mem_of_getElem? (i := 1) rfl)
  refine lv_aload_n hx hb dX4_returned_0 rfl (lv_at hl 0 rfl) ?_
  refine va_get (D := D) (ci := 4) (v := .int (u.1 7)) (C := RX4) (T := TX4) (N := 14) hx hb hts hiX4 hown hK hP 0 rfl rfl 11 (by decide) hw1 (fun _ h9 => h9) rfl dX4_returned_1 ?_
  exact W.iret (v := u.1 7) hx hb hr (fun t9 ht9 hW9 => ⟨⟨u.1 7, u, rfl, ⟨rfl, rfl⟩, by rw [ht9]; exact hP, va_K.moved hW9.alike hK, hD⟩, hS.F ht9⟩) hS.2.2 dX4_returned_4
set_option maxHeartbeats 4000000 in
set_option maxRecDepth 100000 in
theorem cc_setOff (l : Launch) (D : va_G) (cI cZ : ClassId) (a : Nat → Nat) (sz : Nat) (u : pg_St) : Met l yX4_setOff wsX4_setOff ({ frames := 0, cells := 0, slots := 0, locals := 0 }) (va_Pc [.ref (a 0)] (pg_B D (pg_ty cI cZ) (pg_wB cI cZ a u) sz)) (va_Qi (fun r u' => r = u.1 8 ∧ u' = u) (pg_E D (pg_ty cI cZ) (va_A (pg_wB cI cZ a u) sz) (pg_wB cI cZ a)) (va_A (pg_wB cI cZ a u) sz)) 0 0 (va_A (pg_wB cI cZ a u) sz) := by
  refine Met.ofW (cc := cX4_setOff) (maxL := 1) (ret := (some .int)) (by decide) rfl ?_
  intro p e s m args below meth c s₁ B hml hv
  obtain ⟨rfl, hsz, hP, hK, hD0⟩ := hv
  have hx := B.exec
  have hb := B.bytes
  have hr := B.returns
  have hts := atoms_spec (ws := wsX4_setOff) B.pre
  have hown : s.vm.findClass RX4 = some m.cls := findClass_of_methodNamed B.named
  have hlocks := B.notSynchronized
  subst hsz
  have hD := hD0.self (sz := s.heap.size)
  generalize hAe : va_A (pg_wB cI cZ a u) s.heap.size = A at hD ⊢
  have hA : ∀ q : Nat, s.heap.size ≤ q → A q := fun q h => by rw [← hAe]; exact Or.inr h
  have hS : va_S A s.heap s.heap [] := va_S.rf
  have hl := lv_entry ([.ref (a 0)]) (n := 1) (Nat.le_of_ble_eq_true rfl)
  rw [lg_entry_eq]
  generalize (lg_sl ([.ref (a 0)]) ++ List.replicate (1 - (lg_sl ([.ref (a 0)])).length) Slot.unset).toArray = ls at hl ⊢
  have hl : lv_has ls 1 [(0, .ref (a 0))] := hl
  have hiX4 : ∀ w ∈ wsX40, w ∈ wsX4_setOff := fun _ h => List.mem_cons_of_mem _ (List.mem_append_right _ (h))
  have hw1 := hts (.fieldLink RX4 181 "PegBox" "setOff" "I") (List.mem_of_getElem? (i := 1) rfl)
  refine lv_aload_n hx hb dX4_setOff_0 rfl (lv_at hl 0 rfl) ?_
  refine va_get (D := D) (ci := 4) (v := .int (u.1 8)) (C := RX4) (T := TX4) (N := 14) hx hb hts hiX4 hown hK hP 0 rfl rfl 12 (by decide) hw1 (fun _ h9 => h9) rfl dX4_setOff_1 ?_
  exact W.iret (v := u.1 8) hx hb hr (fun t9 ht9 hW9 => ⟨⟨u.1 8, u, rfl, ⟨rfl, rfl⟩, by rw [ht9]; exact hP, va_K.moved hW9.alike hK, hD⟩, hS.F ht9⟩) hS.2.2 dX4_setOff_4
set_option maxHeartbeats 4000000 in
set_option maxRecDepth 100000 in
theorem cc_owed (l : Launch) (D : va_G) (cI cZ : ClassId) (a : Nat → Nat) (sz : Nat) (u : pg_St) : Met l yX4_owed wsX4_owed ({ frames := 0, cells := 0, slots := 0, locals := 0 }) (va_Pc [.ref (a 0)] (pg_B D (pg_ty cI cZ) (pg_wB cI cZ a u) sz)) (va_Qi (fun r u' => r = u.1 9 ∧ u' = u) (pg_E D (pg_ty cI cZ) (va_A (pg_wB cI cZ a u) sz) (pg_wB cI cZ a)) (va_A (pg_wB cI cZ a u) sz)) 0 0 (va_A (pg_wB cI cZ a u) sz) := by
  refine Met.ofW (cc := cX4_owed) (maxL := 1) (ret := (some .int)) (by decide) rfl ?_
  intro p e s m args below meth c s₁ B hml hv
  obtain ⟨rfl, hsz, hP, hK, hD0⟩ := hv
  have hx := B.exec
  have hb := B.bytes
  have hr := B.returns
  have hts := atoms_spec (ws := wsX4_owed) B.pre
  have hown : s.vm.findClass RX4 = some m.cls := findClass_of_methodNamed B.named
  have hlocks := B.notSynchronized
  subst hsz
  have hD := hD0.self (sz := s.heap.size)
  generalize hAe : va_A (pg_wB cI cZ a u) s.heap.size = A at hD ⊢
  have hA : ∀ q : Nat, s.heap.size ≤ q → A q := fun q h => by rw [← hAe]; exact Or.inr h
  have hS : va_S A s.heap s.heap [] := va_S.rf
  have hl := lv_entry ([.ref (a 0)]) (n := 1) (Nat.le_of_ble_eq_true rfl)
  rw [lg_entry_eq]
  generalize (lg_sl ([.ref (a 0)]) ++ List.replicate (1 - (lg_sl ([.ref (a 0)])).length) Slot.unset).toArray = ls at hl ⊢
  have hl : lv_has ls 1 [(0, .ref (a 0))] := hl
  have hiX4 : ∀ w ∈ wsX40, w ∈ wsX4_owed := fun _ h => List.mem_cons_of_mem _ (List.mem_append_right _ (h))
  have hw1 := hts (.fieldLink RX4 184 "PegBox" "owed" "I") (List.mem_of_getElem? (i := 1) rfl)
  refine lv_aload_n hx hb dX4_owed_0 rfl (lv_at hl 0 rfl) ?_
  refine va_get (D := D) (ci := 4) (v := .int (u.1 9)) (C := RX4) (T := TX4) (N := 14) hx hb hts hiX4 hown hK hP 0 rfl rfl 13 (by decide) hw1 (fun _ h9 => h9) rfl dX4_owed_1 ?_
  exact W.iret (v := u.1 9) hx hb hr (fun t9 ht9 hW9 => ⟨⟨u.1 9, u, rfl, ⟨rfl, rfl⟩, by rw [ht9]; exact hP, va_K.moved hW9.alike hK, hD⟩, hS.F ht9⟩) hS.2.2 dX4_owed_4
set_option maxHeartbeats 4000000 in
set_option maxRecDepth 100000 in
theorem cc_claims (l : Launch) (D : va_G) (cI cZ : ClassId) (a : Nat → Nat) (sz : Nat) (u : pg_St) : Met l yX4_claims wsX4_claims ({ frames := 0, cells := 0, slots := 0, locals := 0 }) (va_Pc [.ref (a 0)] (pg_B D (pg_ty cI cZ) (pg_wB cI cZ a u) sz)) (va_Qi (fun r u' => r = u.1 10 ∧ u' = u) (pg_E D (pg_ty cI cZ) (va_A (pg_wB cI cZ a u) sz) (pg_wB cI cZ a)) (va_A (pg_wB cI cZ a u) sz)) 0 0 (va_A (pg_wB cI cZ a u) sz) := by
  refine Met.ofW (cc := cX4_claims) (maxL := 1) (ret := (some .int)) (by decide) rfl ?_
  intro p e s m args below meth c s₁ B hml hv
  obtain ⟨rfl, hsz, hP, hK, hD0⟩ := hv
  have hx := B.exec
  have hb := B.bytes
  have hr := B.returns
  have hts := atoms_spec (ws := wsX4_claims) B.pre
  have hown : s.vm.findClass RX4 = some m.cls := findClass_of_methodNamed B.named
  have hlocks := B.notSynchronized
  subst hsz
  have hD := hD0.self (sz := s.heap.size)
  generalize hAe : va_A (pg_wB cI cZ a u) s.heap.size = A at hD ⊢
  have hA : ∀ q : Nat, s.heap.size ≤ q → A q := fun q h => by rw [← hAe]; exact Or.inr h
  have hS : va_S A s.heap s.heap [] := va_S.rf
  have hl := lv_entry ([.ref (a 0)]) (n := 1) (Nat.le_of_ble_eq_true rfl)
  rw [lg_entry_eq]
  generalize (lg_sl ([.ref (a 0)]) ++ List.replicate (1 - (lg_sl ([.ref (a 0)])).length) Slot.unset).toArray = ls at hl ⊢
  have hl : lv_has ls 1 [(0, .ref (a 0))] := hl
  have hiX0 : ∀ w ∈ wsX00, w ∈ wsX4_claims := fun _ h => List.mem_cons_of_mem _ (List.mem_append_right _ (h))
  have hiX4 : ∀ w ∈ wsX40, w ∈ wsX4_claims := fun _ h => List.mem_cons_of_mem _ (List.mem_append_left _ (List.mem_append_right _ (h)))
  have hw1 := hts (.fieldLink RX4 26 "PegBox" "book" "LPegBox$ClaimBook;") (List.mem_of_getElem? (i := 1) rfl)
  have hw2 := hts (.fieldLink RX4 136 "PegBox$ClaimBook" "count" "I") (List.mem_of_getElem? (i := 2) rfl)
  refine lv_aload_n hx hb dX4_claims_0 rfl (lv_at hl 0 rfl) ?_
  refine va_get (D := D) (ci := 4) (v := .ref (a 3)) (C := RX4) (T := TX4) (N := 14) hx hb hts hiX4 hown hK hP 0 rfl rfl 2 (by decide) hw1 (fun _ h9 => h9) rfl dX4_claims_1 ?_
  refine va_get (D := D) (ci := 0) (v := .int (u.1 10)) (C := RX0) (T := TX0) (N := 5) hx hb hts hiX0 hown hK hP 3 rfl rfl 4 (by decide) hw2 (fun _ h9 => h9) rfl dX4_claims_4 ?_
  exact W.iret (v := u.1 10) hx hb hr (fun t9 ht9 hW9 => ⟨⟨u.1 10, u, rfl, ⟨rfl, rfl⟩, by rw [ht9]; exact hP, va_K.moved hW9.alike hK, hD⟩, hS.F ht9⟩) hS.2.2 dX4_claims_7
set_option maxHeartbeats 4000000 in
set_option maxRecDepth 100000 in
theorem cc_due (l : Launch) (D : va_G) (cI cZ : ClassId) (a : Nat → Nat) (sz : Nat) (u : pg_St) (n : Nat) (hn : u.1 10 = nI n) (h20 : n ≤ 20) : Met l yX4_due wsX4_due ({ frames := 4, cells := 0, slots := 0, locals := 88 }) (va_Pc [.ref (a 0)] (pg_B D (pg_ty cI cZ) (pg_wB cI cZ a u) sz)) (va_Qi (fun r u' => r = pg_all u.2 n ∧ u' = u) (pg_E D (pg_ty cI cZ) (va_A (pg_wB cI cZ a u) sz) (pg_wB cI cZ a)) (va_A (pg_wB cI cZ a u) sz)) 0 0 (va_A (pg_wB cI cZ a u) sz) := by
  refine Met.ofW (cc := cX4_due) (maxL := 1) (ret := (some .int)) (by decide) rfl ?_
  intro p e s m args below meth c s₁ B hml hv
  obtain ⟨rfl, hsz, hP, hK, hD0⟩ := hv
  have hx := B.exec
  have hb := B.bytes
  have hr := B.returns
  have hts := atoms_spec (ws := wsX4_due) B.pre
  have hown : s.vm.findClass RX4 = some m.cls := findClass_of_methodNamed B.named
  have hlocks := B.notSynchronized
  subst hsz
  have hD := hD0.self (sz := s.heap.size)
  generalize hAe : va_A (pg_wB cI cZ a u) s.heap.size = A at hD ⊢
  have hA : ∀ q : Nat, s.heap.size ≤ q → A q := fun q h => by rw [← hAe]; exact Or.inr h
  have hS : va_S A s.heap s.heap [] := va_S.rf
  have hl := lv_entry ([.ref (a 0)]) (n := 1) (Nat.le_of_ble_eq_true rfl)
  rw [lg_entry_eq]
  generalize (lg_sl ([.ref (a 0)]) ++ List.replicate (1 - (lg_sl ([.ref (a 0)])).length) Slot.unset).toArray = ls at hl ⊢
  have hl : lv_has ls 1 [(0, .ref (a 0))] := hl
  refine lv_aload_n hx hb dX4_due_0 rfl (lv_at hl 0 rfl) ?_
  refine pg_iE (pg_rV (As := []) (rest := []) ⟨hx, hb, hml, hown, hts⟩ (cc_dueInAll l D cI cZ a s.heap.size u n hn h20) (cwV 0 hts gX4_due_X4_dueInAll rfl rfl rfl (by decide +kernel) ⟨Nat.le_of_ble_eq_true rfl, Nat.le_of_ble_eq_true rfl⟩) hK hP hD 0 (ci := 4) rfl rfl rfl rfl hl.1 rfl (Nat.le_of_ble_eq_true rfl) dX4_due_1 ⟨Nat.le_of_ble_eq_true rfl, Nat.le_of_ble_eq_true rfl⟩) hD hS hA (fun H locs hP hD hS => ?_)
  exact W.iret (v := pg_all u.2 n) hx hb hr (fun t9 ht9 hW9 => ⟨⟨pg_all u.2 n, u, rfl, ⟨rfl, rfl⟩, by rw [ht9]; exact hP, va_K.moved hW9.alike hK, hD⟩, hS.F ht9⟩) hS.2.2 dX4_due_4
set_option maxHeartbeats 4000000 in
set_option maxRecDepth 100000 in
theorem cc_outstanding (l : Launch) (D : va_G) (cI cZ : ClassId) (a : Nat → Nat) (sz : Nat) (u : pg_St) (n : Nat) (hn : u.1 10 = nI n) (h20 : n ≤ 20) : Met l yX4_outstanding wsX4_outstanding ({ frames := 5, cells := 0, slots := 0, locals := 108 }) (va_Pc [.ref (a 0)] (pg_B D (pg_ty cI cZ) (pg_wB cI cZ a u) sz)) (va_Qi (fun r u' => r = pg_out u n ∧ u' = u) (pg_E D (pg_ty cI cZ) (va_A (pg_wB cI cZ a u) sz) (pg_wB cI cZ a)) (va_A (pg_wB cI cZ a u) sz)) 0 0 (va_A (pg_wB cI cZ a u) sz) := by
  refine Met.ofW (cc := cX4_outstanding) (maxL := 1) (ret := (some .int)) (by decide) rfl ?_
  intro p e s m args below meth c s₁ B hml hv
  obtain ⟨rfl, hsz, hP, hK, hD0⟩ := hv
  have hx := B.exec
  have hb := B.bytes
  have hr := B.returns
  have hts := atoms_spec (ws := wsX4_outstanding) B.pre
  have hown : s.vm.findClass RX4 = some m.cls := findClass_of_methodNamed B.named
  have hlocks := B.notSynchronized
  subst hsz
  have hD := hD0.self (sz := s.heap.size)
  generalize hAe : va_A (pg_wB cI cZ a u) s.heap.size = A at hD ⊢
  have hA : ∀ q : Nat, s.heap.size ≤ q → A q := fun q h => by rw [← hAe]; exact Or.inr h
  have hS : va_S A s.heap s.heap [] := va_S.rf
  have hl := lv_entry ([.ref (a 0)]) (n := 1) (Nat.le_of_ble_eq_true rfl)
  rw [lg_entry_eq]
  generalize (lg_sl ([.ref (a 0)]) ++ List.replicate (1 - (lg_sl ([.ref (a 0)])).length) Slot.unset).toArray = ls at hl ⊢
  have hl : lv_has ls 1 [(0, .ref (a 0))] := hl
  refine lv_aload_n hx hb dX4_outstanding_0 rfl (lv_at hl 0 rfl) ?_
  refine pg_iE (pg_rV (As := []) (rest := []) ⟨hx, hb, hml, hown, hts⟩ (cc_left l D cI cZ a s.heap.size u n hn h20) (cwV 0 hts gX4_outstanding_X4_leftOutstanding rfl rfl rfl (by decide +kernel) ⟨Nat.le_of_ble_eq_true rfl, Nat.le_of_ble_eq_true rfl⟩) hK hP hD 0 (ci := 4) rfl rfl rfl rfl hl.1 rfl (Nat.le_of_ble_eq_true rfl) dX4_outstanding_1 ⟨Nat.le_of_ble_eq_true rfl, Nat.le_of_ble_eq_true rfl⟩) hD hS hA (fun H locs hP hD hS => ?_)
  exact W.iret (v := pg_out u n) hx hb hr (fun t9 ht9 hW9 => ⟨⟨pg_out u n, u, rfl, ⟨rfl, rfl⟩, by rw [ht9]; exact hP, va_K.moved hW9.alike hK, hD⟩, hS.F ht9⟩) hS.2.2 dX4_outstanding_4
set_option maxHeartbeats 4000000 in
set_option maxRecDepth 100000 in
/-- cc_dueOf: returns -/
theorem cc_dueOf_ok (l : Launch) (D : va_G) (cI cZ : ClassId) (a : Nat → Nat) (sz : Nat) (u : pg_St) (n : Nat) (hn : u.1 10 = nI n) (h20 : n ≤ 20) (k : Int32) (hthr : pg_t_num k 3 = 0) : Met l yX4_dueOf wsX4_dueOf ({ frames := 3, cells := 0, slots := 0, locals := 66 }) (va_Pc [.ref (a 0), .int k] (pg_B D (pg_ty cI cZ) (pg_wB cI cZ a u) sz)) (va_Qi (fun r u' => r = pg_due u.2 n k.toNatClampNeg ∧ u' = u) (pg_E D (pg_ty cI cZ) (va_A (pg_wB cI cZ a u) sz) (pg_wB cI cZ a)) (va_A (pg_wB cI cZ a u) sz)) 0 0 (va_A (pg_wB cI cZ a u) sz) := by
  refine Met.ofW (cc := cX4_dueOf) (maxL := 2) (ret := (some .int)) (by decide) rfl ?_
  intro p e s m args below meth c s₁ B hml hv
  obtain ⟨rfl, hsz, hP, hK, hD0⟩ := hv
  have hx := B.exec
  have hb := B.bytes
  have hr := B.returns
  have hts := atoms_spec (ws := wsX4_dueOf) B.pre
  have hown : s.vm.findClass RX4 = some m.cls := findClass_of_methodNamed B.named
  have hlocks := B.notSynchronized
  subst hsz
  have hD := hD0.self (sz := s.heap.size)
  generalize hAe : va_A (pg_wB cI cZ a u) s.heap.size = A at hD ⊢
  have hA : ∀ q : Nat, s.heap.size ≤ q → A q := fun q h => by rw [← hAe]; exact Or.inr h
  have hS : va_S A s.heap s.heap [] := va_S.rf
  have hl := lv_entry ([.ref (a 0), .int k]) (n := 2) (Nat.le_of_ble_eq_true rfl)
  rw [lg_entry_eq]
  generalize (lg_sl ([.ref (a 0), .int k]) ++ List.replicate (2 - (lg_sl ([.ref (a 0), .int k])).length) Slot.unset).toArray = ls at hl ⊢
  have hl : lv_has ls 2 [(0, .ref (a 0)), (1, .int k)] := hl
  refine lv_iload_n hx hb dX4_dueOf_0 rfl (lv_at hl 1 rfl) ?_
  refine lv_iconst (v := 3) hx hb dX4_dueOf_1 (by decide) ?_
  rcases Bool.eq_false_or_eq_true (pg_nb k 3) with c_2 | c_2
  · refine pg_vU (pg_rS (As := [.int k, .int 3]) (rest := []) ⟨hx, hb, hml, hown, hts⟩ (cc_num_ok l D (pg_ty cI cZ) (pg_wB cI cZ a u) s.heap.size k 3 c_2) (va_cwS 2 hts gX4_dueOf_X4_checkNumber rfl rfl rfl (by decide +kernel) ⟨Nat.le_of_ble_eq_true rfl, Nat.le_of_ble_eq_true rfl⟩) hK hP hD rfl hl.1 rfl (Nat.le_of_ble_eq_true rfl) dX4_dueOf_2 ⟨Nat.le_of_ble_eq_true rfl, Nat.le_of_ble_eq_true rfl⟩) hD hS hA (fun H locs hP hD hS => ?_)
    obtain ⟨j, hj, rfl⟩ := pg_nb_nI (n := 3) (by omega) c_2
    have hcl : (nI j).toNatClampNeg = j := nI_clamp (by omega)
    refine lv_aload_n hx hb dX4_dueOf_5 rfl (lv_at hl 0 rfl) ?_
    refine lv_iload_n hx hb dX4_dueOf_6 rfl (lv_at hl 1 rfl) ?_
    refine pg_iE (pg_rV (As := [.int (nI j)]) (rest := []) ⟨hx, hb, hml, hown, hts⟩ (cc_dueOfKind l D cI cZ a H.size u n hn h20 j hj) (cwV 1 hts gX4_dueOf_X4_dueOfKind rfl rfl rfl (by decide +kernel) ⟨Nat.le_of_ble_eq_true rfl, Nat.le_of_ble_eq_true rfl⟩) hK hP hD 0 (ci := 4) rfl rfl rfl rfl hl.1 rfl (Nat.le_of_ble_eq_true rfl) dX4_dueOf_7 ⟨Nat.le_of_ble_eq_true rfl, Nat.le_of_ble_eq_true rfl⟩) hD hS hA (fun H locs hP hD hS => ?_)
    exact W.iret (v := pg_due u.2 n j) hx hb hr (fun t9 ht9 hW9 => ⟨⟨pg_due u.2 n j, u, rfl, ⟨by rw [hcl], rfl⟩, by rw [ht9]; exact hP, va_K.moved hW9.alike hK, hD⟩, hS.F ht9⟩) hS.2.2 dX4_dueOf_10
  · exact absurd hthr (by first | (simp only [pg_t_num, c_2, cond_true, cond_false, Bool.not_true, Bool.not_false]; done) | (simp only [pg_t_num, c_2, cond_true, cond_false, Bool.not_true, Bool.not_false]; decide))
set_option maxHeartbeats 4000000 in
set_option maxRecDepth 100000 in
/-- cc_dueOf: throws -/
theorem cc_dueOf_no (l : Launch) (hfl : l.stackTraces = false) (D : va_G) (cI cZ : ClassId) (a : Nat → Nat) (sz : Nat) (u : pg_St) (n : Nat) (hn : u.1 10 = nI n) (h20 : n ≤ 20) (k : Int32) (e9 : Int32) (nm : String) (hthr : pg_t_num k 3 = e9) (h0 : e9 ≠ 0) (h9_1 : e9 = 1 → nm = pg_io) : vx_Met l yX4_dueOf wsX4_dueOf ({ frames := 7, cells := 1, slots := 6, locals := 108 }) (va_Pc [.ref (a 0), .int k] (pg_T D (pg_ty cI cZ) (pg_wB cI cZ a u) sz)) pg_No (pg_X D (pg_wB cI cZ a u) (va_A (pg_wB cI cZ a u) sz) nm) 1 6 (va_A (pg_wB cI cZ a u) sz) := by
  refine vx_ofW (cc := cX4_dueOf) (maxL := 2) (ret := (some .int)) (by decide) rfl ?_
  intro p e s m args below meth c s₁ B hml hout hv
  obtain ⟨rfl, ⟨hsz, hP, hK, hD0⟩, hE⟩ := hv
  have hx := B.exec
  have hb := B.bytes
  have hr := B.returns
  have hts := atoms_spec (ws := wsX4_dueOf) B.pre
  have hown : s.vm.findClass RX4 = some m.cls := findClass_of_methodNamed B.named
  have hlocks := B.notSynchronized
  subst hsz
  have hD := hD0.self (sz := s.heap.size)
  generalize hAe : va_A (pg_wB cI cZ a u) s.heap.size = A at hD hE ⊢
  have hA : ∀ q : Nat, s.heap.size ≤ q → A q := fun q h => by rw [← hAe]; exact Or.inr h
  have hS : va_S A s.heap s.heap [] := va_S.rf
  have hl := lv_entry ([.ref (a 0), .int k]) (n := 2) (Nat.le_of_ble_eq_true rfl)
  rw [lg_entry_eq]
  generalize (lg_sl ([.ref (a 0), .int k]) ++ List.replicate (2 - (lg_sl ([.ref (a 0), .int k])).length) Slot.unset).toArray = ls at hl ⊢
  have hl : lv_has ls 2 [(0, .ref (a 0)), (1, .int k)] := hl
  refine lv_iload_n hx hb dX4_dueOf_0 rfl (lv_at hl 1 rfl) ?_
  refine lv_iconst (v := 3) hx hb dX4_dueOf_1 (by decide) ?_
  rcases Bool.eq_false_or_eq_true (pg_nb k 3) with c_2 | c_2
  · exact absurd (hthr.symm.trans (by simp only [pg_t_num, c_2, cond_true, cond_false, Bool.not_true, Bool.not_false])) h0
  · have he : e9 = 1 := hthr.symm.trans (by simp only [pg_t_num, c_2, cond_true, cond_false, Bool.not_true, Bool.not_false])
    obtain rfl := h9_1 he
    exact pg_thru (pg_xS (As := [.int k, .int 3]) (rest := []) ⟨hx, hb, hml, hown, hts⟩ (cc_num_no l hfl D (pg_ty cI cZ) (pg_wB cI cZ a u) s.heap.size k 3 c_2) (va_cwS 2 hts gX4_dueOf_X4_checkNumber rfl rfl rfl (by decide +kernel) ⟨Nat.le_of_ble_eq_true rfl, Nat.le_of_ble_eq_true rfl⟩) hK hP hD hS hA hE rfl hl.1 rfl (Nat.le_of_ble_eq_true rfl) dX4_dueOf_2 ⟨Nat.le_of_ble_eq_true rfl, Nat.le_of_ble_eq_true rfl⟩) hD hS hA hout hlocks (Nat.le_of_ble_eq_true rfl) (Nat.le_of_ble_eq_true rfl)
set_option maxHeartbeats 4000000 in
set_option maxRecDepth 100000 in
/-- cc_settledAt: returns -/
theorem cc_settledAt_ok (l : Launch) (D : va_G) (cI cZ : ClassId) (a : Nat → Nat) (sz : Nat) (u : pg_St) (n : Nat) (hn : u.1 10 = nI n) (h20 : n ≤ 20) (k : Int32) (hthr : pg_t_num k (nI n) = 0) : Met l yX4_settledAt wsX4_settledAt ({ frames := 1, cells := 0, slots := 0, locals := 22 }) (va_Pc [.ref (a 0), .int k] (pg_B D (pg_ty cI cZ) (pg_wB cI cZ a u) sz)) (va_Qi (fun r u' => r = u.2 10 k.toNatClampNeg ∧ u' = u) (pg_E D (pg_ty cI cZ) (va_A (pg_wB cI cZ a u) sz) (pg_wB cI cZ a)) (va_A (pg_wB cI cZ a u) sz)) 0 0 (va_A (pg_wB cI cZ a u) sz) := by
  refine Met.ofW (cc := cX4_settledAt) (maxL := 2) (ret := (some .int)) (by decide) rfl ?_
  intro p e s m args below meth c s₁ B hml hv
  obtain ⟨rfl, hsz, hP, hK, hD0⟩ := hv
  have hx := B.exec
  have hb := B.bytes
  have hr := B.returns
  have hts := atoms_spec (ws := wsX4_settledAt) B.pre
  have hown : s.vm.findClass RX4 = some m.cls := findClass_of_methodNamed B.named
  have hlocks := B.notSynchronized
  subst hsz
  have hD := hD0.self (sz := s.heap.size)
  generalize hAe : va_A (pg_wB cI cZ a u) s.heap.size = A at hD ⊢
  have hA : ∀ q : Nat, s.heap.size ≤ q → A q := fun q h => by rw [← hAe]; exact Or.inr h
  have hS : va_S A s.heap s.heap [] := va_S.rf
  have hl := lv_entry ([.ref (a 0), .int k]) (n := 2) (Nat.le_of_ble_eq_true rfl)
  rw [lg_entry_eq]
  generalize (lg_sl ([.ref (a 0), .int k]) ++ List.replicate (2 - (lg_sl ([.ref (a 0), .int k])).length) Slot.unset).toArray = ls at hl ⊢
  have hl : lv_has ls 2 [(0, .ref (a 0)), (1, .int k)] := hl
  have hiX0 : ∀ w ∈ wsX00, w ∈ wsX4_settledAt := fun _ h => List.mem_cons_of_mem _ (List.mem_append_left _ (List.mem_append_right _ (h)))
  have hiX4 : ∀ w ∈ wsX40, w ∈ wsX4_settledAt := fun _ h => List.mem_cons_of_mem _ (List.mem_append_left _ (List.mem_append_left _ (List.mem_append_right _ (h))))
  have hw1 := hts (.fieldLink RX4 26 "PegBox" "book" "LPegBox$ClaimBook;") (List.mem_of_getElem? (i := 1) rfl)
  have hw2 := hts (.fieldLink RX4 136 "PegBox$ClaimBook" "count" "I") (List.mem_of_getElem? (i := 2) rfl)
  have hw3 := hts (.fieldLink RX4 147 "PegBox$ClaimBook" "settled" "[I") (List.mem_of_getElem? (i := 3) rfl)
  refine lv_iload_n hx hb dX4_settledAt_0 rfl (lv_at hl 1 rfl) ?_
  refine lv_aload_n hx hb dX4_settledAt_1 rfl (lv_at hl 0 rfl) ?_
  refine va_get (D := D) (ci := 4) (v := .ref (a 3)) (C := RX4) (T := TX4) (N := 14) hx hb hts hiX4 hown hK hP 0 rfl rfl 2 (by decide) hw1 (fun _ h9 => h9) rfl dX4_settledAt_2 ?_
  refine va_get (D := D) (ci := 0) (v := .int (u.1 10)) (C := RX0) (T := TX0) (N := 5) hx hb hts hiX0 hown hK hP 3 rfl rfl 4 (by decide) hw2 (fun _ h9 => h9) rfl dX4_settledAt_5 ?_
  rw [hn]
  rcases Bool.eq_false_or_eq_true (pg_nb k (nI n)) with c_8 | c_8
  · refine pg_vU (pg_rS (As := [.int k, .int (nI n)]) (rest := []) ⟨hx, hb, hml, hown, hts⟩ (cc_num_ok l D (pg_ty cI cZ) (pg_wB cI cZ a u) s.heap.size k (nI n) c_8) (va_cwS 2 hts gX4_settledAt_X4_checkNumber rfl rfl rfl (by decide +kernel) ⟨Nat.le_of_ble_eq_true rfl, Nat.le_of_ble_eq_true rfl⟩) hK hP hD rfl hl.1 rfl (Nat.le_of_ble_eq_true rfl) dX4_settledAt_8 ⟨Nat.le_of_ble_eq_true rfl, Nat.le_of_ble_eq_true rfl⟩) hD hS hA (fun H locs hP hD hS => ?_)
    obtain ⟨j, hj, rfl⟩ := pg_nb_nI (n := n) (by omega) c_8
    have hcl : (nI j).toNatClampNeg = j := nI_clamp (by omega)
    refine lv_aload_n hx hb dX4_settledAt_11 rfl (lv_at hl 0 rfl) ?_
    refine va_get (D := D) (ci := 4) (v := .ref (a 3)) (C := RX4) (T := TX4) (N := 14) hx hb hts hiX4 hown hK hP 0 rfl rfl 2 (by decide) hw1 (fun _ h9 => h9) rfl dX4_settledAt_12 ?_
    refine va_get (D := D) (ci := 0) (v := .ref (a 15)) (C := RX0) (T := TX0) (N := 5) hx hb hts hiX0 hown hK hP 3 rfl rfl 3 (by decide) hw3 (fun _ h9 => h9) rfl dX4_settledAt_15 ?_
    refine lv_iload_n hx hb dX4_settledAt_18 rfl (lv_at hl 1 rfl) ?_
    refine pg_ild (f := u.2 10) hx hb hK hP 15 0 rfl rfl (show j < _ by omega) (by decide) dX4_settledAt_19 ?_
    exact W.iret (v := u.2 10 j) hx hb hr (fun t9 ht9 hW9 => ⟨⟨u.2 10 j, u, rfl, ⟨by rw [hcl], rfl⟩, by rw [ht9]; exact hP, va_K.moved hW9.alike hK, hD⟩, hS.F ht9⟩) hS.2.2 dX4_settledAt_20
  · exact absurd hthr (by first | (simp only [pg_t_num, c_8, cond_true, cond_false, Bool.not_true, Bool.not_false]; done) | (simp only [pg_t_num, c_8, cond_true, cond_false, Bool.not_true, Bool.not_false]; decide))
set_option maxHeartbeats 4000000 in
set_option maxRecDepth 100000 in
/-- cc_settledAt: throws -/
theorem cc_settledAt_no (l : Launch) (hfl : l.stackTraces = false) (D : va_G) (cI cZ : ClassId) (a : Nat → Nat) (sz : Nat) (u : pg_St) (n : Nat) (hn : u.1 10 = nI n) (h20 : n ≤ 20) (k : Int32) (e9 : Int32) (nm : String) (hthr : pg_t_num k (nI n) = e9) (h0 : e9 ≠ 0) (h9_1 : e9 = 1 → nm = pg_io) : vx_Met l yX4_settledAt wsX4_settledAt ({ frames := 7, cells := 1, slots := 6, locals := 108 }) (va_Pc [.ref (a 0), .int k] (pg_T D (pg_ty cI cZ) (pg_wB cI cZ a u) sz)) pg_No (pg_X D (pg_wB cI cZ a u) (va_A (pg_wB cI cZ a u) sz) nm) 1 6 (va_A (pg_wB cI cZ a u) sz) := by
  refine vx_ofW (cc := cX4_settledAt) (maxL := 2) (ret := (some .int)) (by decide) rfl ?_
  intro p e s m args below meth c s₁ B hml hout hv
  obtain ⟨rfl, ⟨hsz, hP, hK, hD0⟩, hE⟩ := hv
  have hx := B.exec
  have hb := B.bytes
  have hr := B.returns
  have hts := atoms_spec (ws := wsX4_settledAt) B.pre
  have hown : s.vm.findClass RX4 = some m.cls := findClass_of_methodNamed B.named
  have hlocks := B.notSynchronized
  subst hsz
  have hD := hD0.self (sz := s.heap.size)
  generalize hAe : va_A (pg_wB cI cZ a u) s.heap.size = A at hD hE ⊢
  have hA : ∀ q : Nat, s.heap.size ≤ q → A q := fun q h => by rw [← hAe]; exact Or.inr h
  have hS : va_S A s.heap s.heap [] := va_S.rf
  have hl := lv_entry ([.ref (a 0), .int k]) (n := 2) (Nat.le_of_ble_eq_true rfl)
  rw [lg_entry_eq]
  generalize (lg_sl ([.ref (a 0), .int k]) ++ List.replicate (2 - (lg_sl ([.ref (a 0), .int k])).length) Slot.unset).toArray = ls at hl ⊢
  have hl : lv_has ls 2 [(0, .ref (a 0)), (1, .int k)] := hl
  have hiX0 : ∀ w ∈ wsX00, w ∈ wsX4_settledAt := fun _ h => List.mem_cons_of_mem _ (List.mem_append_left _ (List.mem_append_right _ (h)))
  have hiX4 : ∀ w ∈ wsX40, w ∈ wsX4_settledAt := fun _ h => List.mem_cons_of_mem _ (List.mem_append_left _ (List.mem_append_left _ (List.mem_append_right _ (h))))
  have hw1 := hts (.fieldLink RX4 26 "PegBox" "book" "LPegBox$ClaimBook;") (List.mem_of_getElem? (i := 1) rfl)
  have hw2 := hts (.fieldLink RX4 136 "PegBox$ClaimBook" "count" "I") (List.mem_of_getElem? (i := 2) rfl)
  refine lv_iload_n hx hb dX4_settledAt_0 rfl (lv_at hl 1 rfl) ?_
  refine lv_aload_n hx hb dX4_settledAt_1 rfl (lv_at hl 0 rfl) ?_
  refine va_get (D := D) (ci := 4) (v := .ref (a 3)) (C := RX4) (T := TX4) (N := 14) hx hb hts hiX4 hown hK hP 0 rfl rfl 2 (by decide) hw1 (fun _ h9 => h9) rfl dX4_settledAt_2 ?_
  refine va_get (D := D) (ci := 0) (v := .int (u.1 10)) (C := RX0) (T := TX0) (N := 5) hx hb hts hiX0 hown hK hP 3 rfl rfl 4 (by decide) hw2 (fun _ h9 => h9) rfl dX4_settledAt_5 ?_
  rw [hn]
  rcases Bool.eq_false_or_eq_true (pg_nb k (nI n)) with c_8 | c_8
  · exact absurd (hthr.symm.trans (by simp only [pg_t_num, c_8, cond_true, cond_false, Bool.not_true, Bool.not_false])) h0
  · have he : e9 = 1 := hthr.symm.trans (by simp only [pg_t_num, c_8, cond_true, cond_false, Bool.not_true, Bool.not_false])
    obtain rfl := h9_1 he
    exact pg_thru (pg_xS (As := [.int k, .int (nI n)]) (rest := []) ⟨hx, hb, hml, hown, hts⟩ (cc_num_no l hfl D (pg_ty cI cZ) (pg_wB cI cZ a u) s.heap.size k (nI n) c_8) (va_cwS 2 hts gX4_settledAt_X4_checkNumber rfl rfl rfl (by decide +kernel) ⟨Nat.le_of_ble_eq_true rfl, Nat.le_of_ble_eq_true rfl⟩) hK hP hD hS hA hE rfl hl.1 rfl (Nat.le_of_ble_eq_true rfl) dX4_settledAt_8 ⟨Nat.le_of_ble_eq_true rfl, Nat.le_of_ble_eq_true rfl⟩) hD hS hA hout hlocks (Nat.le_of_ble_eq_true rfl) (Nat.le_of_ble_eq_true rfl)
set_option maxHeartbeats 4000000 in
set_option maxRecDepth 100000 in
/-- cc_isMet: returns -/
theorem cc_isMet_ok (l : Launch) (D : va_G) (cI cZ : ClassId) (a : Nat → Nat) (sz : Nat) (u : pg_St) (hm9 : ∀ j, j < 4 → narrow .boolean (.int (u.2 13 j)) = .int (u.2 13 j)) (k : Int32) (hthr : pg_t_num k 4 = 0) : Met l yX4_isMet wsX4_isMet ({ frames := 1, cells := 0, slots := 0, locals := 22 }) (va_Pc [.ref (a 0), .int k] (pg_B D (pg_ty cI cZ) (pg_wB cI cZ a u) sz)) (va_Qi (fun r u' => r = u.2 13 k.toNatClampNeg ∧ u' = u) (pg_E D (pg_ty cI cZ) (va_A (pg_wB cI cZ a u) sz) (pg_wB cI cZ a)) (va_A (pg_wB cI cZ a u) sz)) 0 0 (va_A (pg_wB cI cZ a u) sz) := by
  refine Met.ofW (cc := cX4_isMet) (maxL := 2) (ret := (some .boolean)) (by decide) rfl ?_
  intro p e s m args below meth c s₁ B hml hv
  obtain ⟨rfl, hsz, hP, hK, hD0⟩ := hv
  have hx := B.exec
  have hb := B.bytes
  have hr := B.returns
  have hts := atoms_spec (ws := wsX4_isMet) B.pre
  have hown : s.vm.findClass RX4 = some m.cls := findClass_of_methodNamed B.named
  have hlocks := B.notSynchronized
  subst hsz
  have hD := hD0.self (sz := s.heap.size)
  generalize hAe : va_A (pg_wB cI cZ a u) s.heap.size = A at hD ⊢
  have hA : ∀ q : Nat, s.heap.size ≤ q → A q := fun q h => by rw [← hAe]; exact Or.inr h
  have hS : va_S A s.heap s.heap [] := va_S.rf
  have hl := lv_entry ([.ref (a 0), .int k]) (n := 2) (Nat.le_of_ble_eq_true rfl)
  rw [lg_entry_eq]
  generalize (lg_sl ([.ref (a 0), .int k]) ++ List.replicate (2 - (lg_sl ([.ref (a 0), .int k])).length) Slot.unset).toArray = ls at hl ⊢
  have hl : lv_has ls 2 [(0, .ref (a 0)), (1, .int k)] := hl
  have hiX1 : ∀ w ∈ wsX10, w ∈ wsX4_isMet := fun _ h => List.mem_cons_of_mem _ (List.mem_append_left _ (List.mem_append_right _ (h)))
  have hiX4 : ∀ w ∈ wsX40, w ∈ wsX4_isMet := fun _ h => List.mem_cons_of_mem _ (List.mem_append_left _ (List.mem_append_left _ (List.mem_append_right _ (h))))
  have hw1 := hts (.fieldLink RX4 33 "PegBox" "earnOut" "LPegBox$EarnOut;") (List.mem_of_getElem? (i := 1) rfl)
  have hw2 := hts (.fieldLink RX4 196 "PegBox$EarnOut" "met" "[Z") (List.mem_of_getElem? (i := 2) rfl)
  refine lv_iload_n hx hb dX4_isMet_0 rfl (lv_at hl 1 rfl) ?_
  refine lv_iconst (v := 4) hx hb dX4_isMet_1 (by decide) ?_
  rcases Bool.eq_false_or_eq_true (pg_nb k 4) with c_2 | c_2
  · refine pg_vU (pg_rS (As := [.int k, .int 4]) (rest := []) ⟨hx, hb, hml, hown, hts⟩ (cc_num_ok l D (pg_ty cI cZ) (pg_wB cI cZ a u) s.heap.size k 4 c_2) (va_cwS 2 hts gX4_isMet_X4_checkNumber rfl rfl rfl (by decide +kernel) ⟨Nat.le_of_ble_eq_true rfl, Nat.le_of_ble_eq_true rfl⟩) hK hP hD rfl hl.1 rfl (Nat.le_of_ble_eq_true rfl) dX4_isMet_2 ⟨Nat.le_of_ble_eq_true rfl, Nat.le_of_ble_eq_true rfl⟩) hD hS hA (fun H locs hP hD hS => ?_)
    obtain ⟨j, hj, rfl⟩ := pg_nb_nI (n := 4) (by omega) c_2
    have hcl : (nI j).toNatClampNeg = j := nI_clamp (by omega)
    refine lv_aload_n hx hb dX4_isMet_5 rfl (lv_at hl 0 rfl) ?_
    refine va_get (D := D) (ci := 4) (v := .ref (a 4)) (C := RX4) (T := TX4) (N := 14) hx hb hts hiX4 hown hK hP 0 rfl rfl 3 (by decide) hw1 (fun _ h9 => h9) rfl dX4_isMet_6 ?_
    refine va_get (D := D) (ci := 1) (v := .ref (a 18)) (C := RX1) (T := TX1) (N := 8) hx hb hts hiX1 hown hK hP 4 rfl rfl 2 (by decide) hw2 (fun _ h9 => h9) rfl dX4_isMet_9 ?_
    refine lv_iload_n hx hb dX4_isMet_12 rfl (lv_at hl 1 rfl) ?_
    refine pg_zld (f := u.2 13) hx hb hK hP 18 1 rfl rfl (show j < _ by omega) (by decide) dX4_isMet_13 ?_
    exact W.zret (v := u.2 13 j) hx hb hr (hm9 j hj) (fun t9 ht9 hW9 => ⟨⟨u.2 13 j, u, rfl, ⟨by rw [hcl], rfl⟩, by rw [ht9]; exact hP, va_K.moved hW9.alike hK, hD⟩, hS.F ht9⟩) hS.2.2 dX4_isMet_14
  · exact absurd hthr (by first | (simp only [pg_t_num, c_2, cond_true, cond_false, Bool.not_true, Bool.not_false]; done) | (simp only [pg_t_num, c_2, cond_true, cond_false, Bool.not_true, Bool.not_false]; decide))
set_option maxHeartbeats 4000000 in
set_option maxRecDepth 100000 in
/-- cc_isMet: throws -/
theorem cc_isMet_no (l : Launch) (hfl : l.stackTraces = false) (D : va_G) (cI cZ : ClassId) (a : Nat → Nat) (sz : Nat) (u : pg_St) (hm9 : ∀ j, j < 4 → narrow .boolean (.int (u.2 13 j)) = .int (u.2 13 j)) (k : Int32) (e9 : Int32) (nm : String) (hthr : pg_t_num k 4 = e9) (h0 : e9 ≠ 0) (h9_1 : e9 = 1 → nm = pg_io) : vx_Met l yX4_isMet wsX4_isMet ({ frames := 7, cells := 1, slots := 6, locals := 108 }) (va_Pc [.ref (a 0), .int k] (pg_T D (pg_ty cI cZ) (pg_wB cI cZ a u) sz)) pg_No (pg_X D (pg_wB cI cZ a u) (va_A (pg_wB cI cZ a u) sz) nm) 1 6 (va_A (pg_wB cI cZ a u) sz) := by
  refine vx_ofW (cc := cX4_isMet) (maxL := 2) (ret := (some .boolean)) (by decide) rfl ?_
  intro p e s m args below meth c s₁ B hml hout hv
  obtain ⟨rfl, ⟨hsz, hP, hK, hD0⟩, hE⟩ := hv
  have hx := B.exec
  have hb := B.bytes
  have hr := B.returns
  have hts := atoms_spec (ws := wsX4_isMet) B.pre
  have hown : s.vm.findClass RX4 = some m.cls := findClass_of_methodNamed B.named
  have hlocks := B.notSynchronized
  subst hsz
  have hD := hD0.self (sz := s.heap.size)
  generalize hAe : va_A (pg_wB cI cZ a u) s.heap.size = A at hD hE ⊢
  have hA : ∀ q : Nat, s.heap.size ≤ q → A q := fun q h => by rw [← hAe]; exact Or.inr h
  have hS : va_S A s.heap s.heap [] := va_S.rf
  have hl := lv_entry ([.ref (a 0), .int k]) (n := 2) (Nat.le_of_ble_eq_true rfl)
  rw [lg_entry_eq]
  generalize (lg_sl ([.ref (a 0), .int k]) ++ List.replicate (2 - (lg_sl ([.ref (a 0), .int k])).length) Slot.unset).toArray = ls at hl ⊢
  have hl : lv_has ls 2 [(0, .ref (a 0)), (1, .int k)] := hl
  refine lv_iload_n hx hb dX4_isMet_0 rfl (lv_at hl 1 rfl) ?_
  refine lv_iconst (v := 4) hx hb dX4_isMet_1 (by decide) ?_
  rcases Bool.eq_false_or_eq_true (pg_nb k 4) with c_2 | c_2
  · exact absurd (hthr.symm.trans (by simp only [pg_t_num, c_2, cond_true, cond_false, Bool.not_true, Bool.not_false])) h0
  · have he : e9 = 1 := hthr.symm.trans (by simp only [pg_t_num, c_2, cond_true, cond_false, Bool.not_true, Bool.not_false])
    obtain rfl := h9_1 he
    exact pg_thru (pg_xS (As := [.int k, .int 4]) (rest := []) ⟨hx, hb, hml, hown, hts⟩ (cc_num_no l hfl D (pg_ty cI cZ) (pg_wB cI cZ a u) s.heap.size k 4 c_2) (va_cwS 2 hts gX4_isMet_X4_checkNumber rfl rfl rfl (by decide +kernel) ⟨Nat.le_of_ble_eq_true rfl, Nat.le_of_ble_eq_true rfl⟩) hK hP hD hS hA hE rfl hl.1 rfl (Nat.le_of_ble_eq_true rfl) dX4_isMet_2 ⟨Nat.le_of_ble_eq_true rfl, Nat.le_of_ble_eq_true rfl⟩) hD hS hA hout hlocks (Nat.le_of_ble_eq_true rfl) (Nat.le_of_ble_eq_true rfl)
