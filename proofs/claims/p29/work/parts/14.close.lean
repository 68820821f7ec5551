set_option maxHeartbeats 4000000 in
set_option maxRecDepth 100000 in
/-- cc_close: returns -/
theorem cc_close_ok (l : Launch) (D : va_G) (cI cZ : ClassId) (a : Nat → Nat) (sz : Nat) (u : pg_St) (x y1 z : Int32) (hthr : pg_t_close (!pg_eq (u.1 3) (-1)) x y1 z = 0) : Met l yX4_close wsX4_close ({ frames := 1, cells := 0, slots := 0, locals := 22 }) (va_Pc [.ref (a 0), .int x, .int y1, .int z] (pg_B D (pg_ty cI cZ) (pg_wB cI cZ a u) sz)) (va_Qi (fun r u' => r = pg_fin u x y1 z ∧ u' = pg_close u x y1 z) (pg_E D (pg_ty cI cZ) (va_A (pg_wB cI cZ a u) sz) (pg_wB cI cZ a)) (va_A (pg_wB cI cZ a u) sz)) 0 0 (va_A (pg_wB cI cZ a u) sz) := by
  refine Met.ofW (cc := cX4_close) (maxL := 4) (ret := (some .int)) (by decide) rfl ?_
  intro p e s m args below meth c s₁ B hml hv
  obtain ⟨rfl, hsz, hP, hK, hD0⟩ := hv
  have hx := B.exec
  have hb := B.bytes
  have hr := B.returns
  have hts := atoms_spec (ws := wsX4_close) B.pre
  have hown : s.vm.findClass RX4 = some m.cls := findClass_of_methodNamed B.named
  have hlocks := B.notSynchronized
  subst hsz
  have hD := hD0.self (sz := s.heap.size)
  generalize hAe : va_A (pg_wB cI cZ a u) s.heap.size = A at hD ⊢
  have hA : ∀ q : Nat, s.heap.size ≤ q → A q := fun q h => by rw [← hAe]; exact Or.inr h
  have hS : va_S A s.heap s.heap [] := va_S.rf
  have hl := lv_entry ([.ref (a 0), .int x, .int y1, .int z]) (n := 4) (Nat.le_of_ble_eq_true rfl)
  rw [lg_entry_eq]
  generalize (lg_sl ([.ref (a 0), .int x, .int y1, .int z]) ++ List.replicate (4 - (lg_sl ([.ref (a 0), .int x, .int y1, .int z])).length) Slot.unset).toArray = ls at hl ⊢
  have hl : lv_has ls 4 [(0, .ref (a 0)), (1, .int x), (2, .int y1), (3, .int z)] := hl
  have hiX4 : ∀ w ∈ wsX40, w ∈ wsX4_close := fun _ h => List.mem_cons_of_mem _ (List.mem_append_left _ (List.mem_append_left _ (List.mem_append_left _ (List.mem_append_right _ (h)))))
  have hw1 := hts (.constant RX4 44 (10000000)) (List.mem_of_getElem? (i := 1) rfl)
  have hw2 := hts (.constant RX4 49 (-10000000)) (List.mem_of_getElem? (i := 2) rfl)
  have hw3 := hts (.fieldLink RX4 37 "PegBox" "day" "I") (List.mem_of_getElem? (i := 3) rfl)
  have hw4 := hts (.fieldLink RX4 53 "PegBox" "price" "I") (List.mem_of_getElem? (i := 4) rfl)
  have hw5 := hts (.fieldLink RX4 56 "PegBox" "peg" "I") (List.mem_of_getElem? (i := 5) rfl)
  have hw6 := hts (.methodLink RX4 102 Lib.Math.max.name) (List.mem_of_getElem? (i := 6) rfl)
  have hw7 := hts (.static Lib.Math.max.name) (List.mem_of_getElem? (i := 7) rfl)
  have hw8 := hts (.initialized "java/lang/Math") (List.mem_of_getElem? (i := 8) rfl)
  have hw9 := hts (.code Lib.Math.max.name Lib.Math.max.code 2 (some .int)) (List.mem_of_getElem? (i := 9) rfl)
  have hw10 := hts (.fieldLink RX4 41 "PegBox" "finalPrice" "I") (List.mem_of_getElem? (i := 10) rfl)
  have hw11 := hts (.fieldLink RX4 10 "PegBox" "escrow" "LPegBox$Escrow;") (List.mem_of_getElem? (i := 11) rfl)
  have hw12 := hts (.methodLink RX4 112 Lib.Math.min.name) (List.mem_of_getElem? (i := 12) rfl)
  have hw13 := hts (.static Lib.Math.min.name) (List.mem_of_getElem? (i := 13) rfl)
  have hw14 := hts (.code Lib.Math.min.name Lib.Math.min.code 2 (some .int)) (List.mem_of_getElem? (i := 14) rfl)
  have hw15 := hts (.fieldLink RX4 115 "PegBox" "held" "I") (List.mem_of_getElem? (i := 15) rfl)
  have hw16 := hts (.fieldLink RX4 118 "PegBox" "paid" "I") (List.mem_of_getElem? (i := 16) rfl)
  refine lv_iload_n hx hb dX4_close_0 rfl (lv_at hl 1 rfl) ?_
  refine lv_iconst (v := 0) hx hb dX4_close_1 (by decide) ?_
  refine lv_ldc hx hb hown hw1 dX4_close_2 ?_
  rcases Bool.eq_false_or_eq_true (pg_in x 0 10000000) with c_4 | c_4
  · refine pg_vU (pg_rS (As := [.int x, .int 0, .int 10000000]) (rest := []) ⟨hx, hb, hml, hown, hts⟩ (cc_rng_ok l D (pg_ty cI cZ) (pg_wB cI cZ a u) s.heap.size x 0 10000000 c_4) (va_cwS 3 hts gX4_close_X4_checkRange rfl rfl rfl (by decide +kernel) ⟨Nat.le_of_ble_eq_true rfl, Nat.le_of_ble_eq_true rfl⟩) hK hP hD rfl hl.1 rfl (Nat.le_of_ble_eq_true rfl) dX4_close_4 ⟨Nat.le_of_ble_eq_true rfl, Nat.le_of_ble_eq_true rfl⟩) hD hS hA (fun H locs hP hD hS => ?_)
    refine lv_iload_n hx hb dX4_close_7 rfl (lv_at hl 2 rfl) ?_
    refine lv_iconst (v := 0) hx hb dX4_close_8 (by decide) ?_
    refine lv_ldc hx hb hown hw1 dX4_close_9 ?_
    rcases Bool.eq_false_or_eq_true (pg_in y1 0 10000000) with c_11 | c_11
    · refine pg_vU (pg_rS (As := [.int y1, .int 0, .int 10000000]) (rest := []) ⟨hx, hb, hml, hown, hts⟩ (cc_rng_ok l D (pg_ty cI cZ) (pg_wB cI cZ a u) H.size y1 0 10000000 c_11) (va_cwS 3 hts gX4_close_X4_checkRange rfl rfl rfl (by decide +kernel) ⟨Nat.le_of_ble_eq_true rfl, Nat.le_of_ble_eq_true rfl⟩) hK hP hD rfl hl.1 rfl (Nat.le_of_ble_eq_true rfl) dX4_close_11 ⟨Nat.le_of_ble_eq_true rfl, Nat.le_of_ble_eq_true rfl⟩) hD hS hA (fun H locs hP hD hS => ?_)
      refine lv_iload_n hx hb dX4_close_14 rfl (lv_at hl 3 rfl) ?_
      refine lv_ldc hx hb hown hw2 dX4_close_15 ?_
      refine lv_ldc hx hb hown hw1 dX4_close_17 ?_
      rcases Bool.eq_false_or_eq_true (pg_in z (-10000000) 10000000) with c_19 | c_19
      · refine pg_vU (pg_rS (As := [.int z, .int (-10000000), .int 10000000]) (rest := []) ⟨hx, hb, hml, hown, hts⟩ (cc_rng_ok l D (pg_ty cI cZ) (pg_wB cI cZ a u) H.size z (-10000000) 10000000 c_19) (va_cwS 3 hts gX4_close_X4_checkRange rfl rfl rfl (by decide +kernel) ⟨Nat.le_of_ble_eq_true rfl, Nat.le_of_ble_eq_true rfl⟩) hK hP hD rfl hl.1 rfl (Nat.le_of_ble_eq_true rfl) dX4_close_19 ⟨Nat.le_of_ble_eq_true rfl, Nat.le_of_ble_eq_true rfl⟩) hD hS hA (fun H locs hP hD hS => ?_)
        refine lv_aload_n hx hb dX4_close_22 rfl (lv_at hl 0 rfl) ?_
        rcases Bool.eq_false_or_eq_true (pg_eq (u.1 3) (-1)) with c_23 | c_23
        · refine pg_vE (pg_rV (As := []) (rest := []) ⟨hx, hb, hml, hown, hts⟩ (cc_ncl_ok l D cI cZ a H.size u c_23) (cwV 0 hts gX4_close_X4_checkNotClosed rfl rfl rfl (by decide +kernel) ⟨Nat.le_of_ble_eq_true rfl, Nat.le_of_ble_eq_true rfl⟩) hK hP hD 0 (ci := 4) rfl rfl rfl rfl hl.1 rfl (Nat.le_of_ble_eq_true rfl) dX4_close_23 ⟨Nat.le_of_ble_eq_true rfl, Nat.le_of_ble_eq_true rfl⟩) hD hS hA (fun H locs hP hD hS => ?_)
          refine lv_aload_n hx hb dX4_close_26 rfl (lv_at hl 0 rfl) ?_
          refine lv_iconst (v := 0) hx hb dX4_close_27 (by decide) ?_
          refine va_put (D := D) (ci := 4) (v := .int 0) (ty := .int) (C := RX4) (T := TX4) (N := 14) hx hb hts hiX4 tyX4 tyX4_ok nmX4 hown hK hP hD hS 0 rfl rfl 7 (by decide) hw3 (fun _ h9 => h9) rfl (by decide +kernel) rfl rfl (Nat.le_of_ble_eq_true rfl) dX4_close_28 (fun H locs hP hD hS => ?_)
          have hP : va_P D vwCl (pg_wB cI cZ a ((upd u.1 3 0), u.2)) H := hP
          have hD : va_D A (pg_wB cI cZ a ((upd u.1 3 0), u.2)) := hD
          refine lv_aload_n hx hb dX4_close_31 rfl (lv_at hl 0 rfl) ?_
          refine lv_iconst (v := 0) hx hb dX4_close_32 (by decide) ?_
          refine lv_aload_n hx hb dX4_close_33 rfl (lv_at hl 0 rfl) ?_
          refine va_get (D := D) (ci := 4) (v := .int (u.1 0)) (C := RX4) (T := TX4) (N := 14) hx hb hts hiX4 hown hK hP 0 rfl rfl 4 (by decide) hw4 (fun _ h9 => h9) rfl dX4_close_34 ?_
          refine lv_iload_n hx hb dX4_close_37 rfl (lv_at hl 1 rfl) ?_
          refine lv_iadd hx hb dX4_close_38 ?_
          refine lv_iload_n hx hb dX4_close_39 rfl (lv_at hl 2 rfl) ?_
          refine lv_isub hx hb dX4_close_40 ?_
          refine lv_aload_n hx hb dX4_close_41 rfl (lv_at hl 0 rfl) ?_
          refine lv_iload_n hx hb dX4_close_42 rfl (lv_at hl 3 rfl) ?_
          refine lv_aload_n hx hb dX4_close_43 rfl (lv_at hl 0 rfl) ?_
          refine va_get (D := D) (ci := 4) (v := .int (u.1 1)) (C := RX4) (T := TX4) (N := 14) hx hb hts hiX4 hown hK hP 0 rfl rfl 5 (by decide) hw5 (fun _ h9 => h9) rfl dX4_close_44 ?_
          refine lv_isub hx hb dX4_close_47 ?_
          refine pg_iE (pg_rV (As := [.int (z - (u.1 1))]) (rest := [.int (((u.1 0) + x) - y1), .int 0, .ref (a 0)]) ⟨hx, hb, hml, hown, hts⟩ (cc_col l D cI cZ a H.size ((upd u.1 3 0), u.2) (z - u.1 1)) (cwV 1 hts gX4_close_X4_beyondCollar rfl rfl rfl (by decide +kernel) ⟨Nat.le_of_ble_eq_true rfl, Nat.le_of_ble_eq_true rfl⟩) hK hP hD 0 (ci := 4) rfl rfl rfl rfl hl.1 rfl (Nat.le_of_ble_eq_true rfl) dX4_close_48 ⟨Nat.le_of_ble_eq_true rfl, Nat.le_of_ble_eq_true rfl⟩) hD hS hA (fun H locs hP hD hS => ?_)
          refine lv_topi (fun f0 ef0 => ?_)
          refine lv_iadd hx hb dX4_close_51 ?_
          refine va_mmax hx hb (by rw [hml]; exact hl.1.symm) hown hw6 hw7 hw8 hw9 (Nat.le_of_ble_eq_true rfl) (Nat.le_of_ble_eq_true rfl) (Nat.le_of_ble_eq_true rfl) (Nat.le_of_ble_eq_true rfl) dX4_close_52 ?_
          refine W.eq (g2 := F0 m 55 ls [.int (pg_max 0 ((((u.1 0) + x) - y1) + f0)), .ref (a 0)]) rfl ?_
          refine lv_topi (fun f1 ef1 => ?_)
          refine va_put (D := D) (ci := 4) (v := .int f1) (ty := .int) (C := RX4) (T := TX4) (N := 14) hx hb hts hiX4 tyX4 tyX4_ok nmX4 hown hK hP hD hS 0 rfl rfl 8 (by decide) hw10 (fun _ h9 => h9) rfl (by decide +kernel) rfl rfl (Nat.le_of_ble_eq_true rfl) dX4_close_55 (fun H locs hP hD hS => ?_)
          have hP : va_P D vwCl (pg_wB cI cZ a ((upd (upd u.1 3 0) 4 f1), u.2)) H := hP
          have hD : va_D A (pg_wB cI cZ a ((upd (upd u.1 3 0) 4 f1), u.2)) := hD
          refine lv_aload_n hx hb dX4_close_58 rfl (lv_at hl 0 rfl) ?_
          refine lv_aload_n hx hb dX4_close_59 rfl (lv_at hl 0 rfl) ?_
          refine va_get (D := D) (ci := 4) (v := .ref (a 1)) (C := RX4) (T := TX4) (N := 14) hx hb hts hiX4 hown hK hP 0 rfl rfl 0 (by decide) hw11 (fun _ h9 => h9) rfl dX4_close_60 ?_
          refine pg_iE (pg_rV (As := []) (rest := [.ref (a 0)]) ⟨hx, hb, hml, hown, hts⟩ (cc_total l D cI cZ a H.size ((upd (upd u.1 3 0) 4 f1), u.2) ) (cwV 0 hts gX4_close_X2_total rfl rfl rfl (by decide +kernel) ⟨Nat.le_of_ble_eq_true rfl, Nat.le_of_ble_eq_true rfl⟩) hK hP hD 1 (ci := 2) rfl rfl rfl rfl hl.1 rfl (Nat.le_of_ble_eq_true rfl) dX4_close_63 ⟨Nat.le_of_ble_eq_true rfl, Nat.le_of_ble_eq_true rfl⟩) hD hS hA (fun H locs hP hD hS => ?_)
          refine lv_aload_n hx hb dX4_close_66 rfl (lv_at hl 0 rfl) ?_
          refine va_get (D := D) (ci := 4) (v := .int f1) (C := RX4) (T := TX4) (N := 14) hx hb hts hiX4 hown hK hP 0 rfl rfl 8 (by decide) hw10 (fun _ h9 => h9) rfl dX4_close_67 ?_
          refine va_mmin hx hb (by rw [hml]; exact hl.1.symm) hown hw12 hw13 hw8 hw14 (Nat.le_of_ble_eq_true rfl) (Nat.le_of_ble_eq_true rfl) (Nat.le_of_ble_eq_true rfl) (Nat.le_of_ble_eq_true rfl) dX4_close_70 ?_
          refine W.eq (g2 := F0 m 73 ls [.int (pg_min (pg_sm (u.2 0) 4) f1), .ref (a 0)]) rfl ?_
          refine lv_topi (fun f2 ef2 => ?_)
          refine va_put (D := D) (ci := 4) (v := .int f2) (ty := .int) (C := RX4) (T := TX4) (N := 14) hx hb hts hiX4 tyX4 tyX4_ok nmX4 hown hK hP hD hS 0 rfl rfl 9 (by decide) hw15 (fun _ h9 => h9) rfl (by decide +kernel) rfl rfl (Nat.le_of_ble_eq_true rfl) dX4_close_73 (fun H locs hP hD hS => ?_)
          have hP : va_P D vwCl (pg_wB cI cZ a ((upd (upd (upd u.1 3 0) 4 f1) 5 f2), u.2)) H := hP
          have hD : va_D A (pg_wB cI cZ a ((upd (upd (upd u.1 3 0) 4 f1) 5 f2), u.2)) := hD
          refine lv_aload_n hx hb dX4_close_76 rfl (lv_at hl 0 rfl) ?_
          refine lv_aload_n hx hb dX4_close_77 rfl (lv_at hl 0 rfl) ?_
          refine va_get (D := D) (ci := 4) (v := .int f1) (C := RX4) (T := TX4) (N := 14) hx hb hts hiX4 hown hK hP 0 rfl rfl 8 (by decide) hw10 (fun _ h9 => h9) rfl dX4_close_78 ?_
          refine lv_aload_n hx hb dX4_close_81 rfl (lv_at hl 0 rfl) ?_
          refine va_get (D := D) (ci := 4) (v := .int f2) (C := RX4) (T := TX4) (N := 14) hx hb hts hiX4 hown hK hP 0 rfl rfl 9 (by decide) hw15 (fun _ h9 => h9) rfl dX4_close_82 ?_
          refine lv_isub hx hb dX4_close_85 ?_
          refine va_put (D := D) (ci := 4) (v := .int (f1 - f2)) (ty := .int) (C := RX4) (T := TX4) (N := 14) hx hb hts hiX4 tyX4 tyX4_ok nmX4 hown hK hP hD hS 0 rfl rfl 10 (by decide) hw16 (fun _ h9 => h9) rfl (by decide +kernel) rfl rfl (Nat.le_of_ble_eq_true rfl) dX4_close_86 (fun H locs hP hD hS => ?_)
          have hP : va_P D vwCl (pg_wB cI cZ a ((upd (upd (upd (upd u.1 3 0) 4 f1) 5 f2) 6 (f1 - f2)), u.2)) H := hP
          have hD : va_D A (pg_wB cI cZ a ((upd (upd (upd (upd u.1 3 0) 4 f1) 5 f2) 6 (f1 - f2)), u.2)) := hD
          refine lv_aload_n hx hb dX4_close_89 rfl (lv_at hl 0 rfl) ?_
          refine va_get (D := D) (ci := 4) (v := .int f1) (C := RX4) (T := TX4) (N := 14) hx hb hts hiX4 hown hK hP 0 rfl rfl 8 (by decide) hw10 (fun _ h9 => h9) rfl dX4_close_90 ?_
          have e1 : f1 = pg_fin u x y1 z := by rw [ef1, ef0]; rfl
          have e2 : f2 = pg_hold u x y1 z := by rw [ef2, e1]; rfl
          exact W.iret (v := f1) hx hb hr (fun t9 ht9 hW9 => ⟨⟨f1, ((upd (upd (upd (upd u.1 3 0) 4 f1) 5 f2) 6 (f1 - f2)), u.2), rfl, ⟨e1, by rw [pg_close, ← e1, ← e2]⟩, by rw [ht9]; exact hP, va_K.moved hW9.alike hK, hD⟩, hS.F ht9⟩) hS.2.2 dX4_close_93
        · exact absurd hthr (by first | (simp only [pg_t_close, c_4, c_11, c_19, c_23, cond_true, cond_false, Bool.not_true, Bool.not_false]; done) | (simp only [pg_t_close, c_4, c_11, c_19, c_23, cond_true, cond_false, Bool.not_true, Bool.not_false]; decide))
      · exact absurd hthr (by first | (simp only [pg_t_close, c_4, c_11, c_19, cond_true, cond_false, Bool.not_true, Bool.not_false]; done) | (simp only [pg_t_close, c_4, c_11, c_19, cond_true, cond_false, Bool.not_true, Bool.not_false]; decide))
    · exact absurd hthr (by first | (simp only [pg_t_close, c_4, c_11, cond_true, cond_false, Bool.not_true, Bool.not_false]; done) | (simp only [pg_t_close, c_4, c_11, cond_true, cond_false, Bool.not_true, Bool.not_false]; decide))
  · exact absurd hthr (by first | (simp only [pg_t_close, c_4, cond_true, cond_false, Bool.not_true, Bool.not_false]; done) | (simp only [pg_t_close, c_4, cond_true, cond_false, Bool.not_true, Bool.not_false]; decide))
