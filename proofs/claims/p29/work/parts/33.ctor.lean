set_option maxHeartbeats 4000000 in
set_option maxRecDepth 100000 in
theorem cn_X2 (l : Launch) (D : va_G) (cI cZ : ClassId) (h0 sz : Nat) : Met l yX2_init wsX2_init ({ frames := 1, cells := 2, slots := 8, locals := 12 }) (va_Pc [.ref h0] (pg_B D (pg_ty cI cZ) [(h0, .inr (2, [.null, .null]))] sz)) (va_Qv (fun _ : Nat → Nat => True) (pg_E D (pg_ty cI cZ) (va_A [(h0, .inr (2, [.null, .null]))] sz) (fun b => [(h0, .inr (2, [.ref (b 0), .ref (b 1)])), (b 0, .inl (cI, 4, .inl (fun _ => 0))), (b 1, .inl (cI, 4, .inl (fun _ => 0)))])) (va_A [(h0, .inr (2, [.null, .null]))] sz)) 2 8 (va_A [(h0, .inr (2, [.null, .null]))] sz) := by
  refine Met.ofW (cc := cX2_init) (maxL := 1) (ret := none) (by decide) rfl ?_
  intro p e s m args below meth c s₁ B hml hv
  obtain ⟨rfl, hsz, hP, hK, hD0⟩ := hv
  have hx := B.exec
  have hb := B.bytes
  have hr := B.returns
  have hts := atoms_spec (ws := wsX2_init) B.pre
  have hown : s.vm.findClass RX2 = some m.cls := findClass_of_methodNamed B.named
  have hlocks := B.notSynchronized
  have hin : meth.name = "<init>" := (name_of_methodNamed B.named B.method).1
  subst hsz
  have hD := hD0.self (sz := s.heap.size)
  generalize hAe : va_A [(h0, .inr (2, [.null, .null]))] s.heap.size = A at hD ⊢
  have hA : ∀ q : Nat, s.heap.size ≤ q → A q := fun q h => by rw [← hAe]; exact Or.inr h
  have hS : va_S A s.heap s.heap [] := va_S.rf
  have hl := lv_entry ([.ref h0]) (n := 1) (Nat.le_of_ble_eq_true rfl)
  rw [lg_entry_eq]
  generalize (lg_sl ([.ref h0]) ++ List.replicate (1 - (lg_sl ([.ref h0])).length) Slot.unset).toArray = ls at hl ⊢
  have hl : lv_has ls 1 [(0, .ref h0)] := hl
  have hiX2 : ∀ w ∈ wsX20, w ∈ wsX2_init := fun _ h => List.mem_cons_of_mem _ (List.mem_append_right _ (h))
  have hw1 := hts (.methodLink RX2 3 objectInit) (List.mem_of_getElem? (i := 1) rfl)
  have hw2 := hts (.instanceMethod objectInit) (List.mem_of_getElem? (i := 2) rfl)
  have hw3 := hts (.code objectInit ⟨#[0xb1]⟩ 1 none) (List.mem_of_getElem? (i := 3) rfl)
  have hw4 := hts (.arrayClass .int) (List.mem_of_getElem? (i := 4) rfl)
  have hw5 := hts (.fieldLink RX2 9 "PegBox$Escrow" "amounts" "[I") (List.mem_of_getElem? (i := 5) rfl)
  have hw6 := hts (.fieldLink RX2 15 "PegBox$Escrow" "days" "[I") (List.mem_of_getElem? (i := 6) rfl)
  refine lv_aload_n hx hb dX2_init_0 rfl (lv_at hl 0 rfl) ?_
  refine W.objInit hx hb hown hw1 hw2 hw3 rfl (by rw [hml]; exact hl.1) rfl dX2_init_1 (Nat.le_of_ble_eq_true rfl) (Nat.le_of_ble_eq_true rfl) ?_
  refine W.eq (g2 := F0 m 4 ls []) rfl ?_
  refine lv_aload_n hx hb dX2_init_4 rfl (lv_at hl 0 rfl) ?_
  refine lv_iconst (v := 4) hx hb dX2_init_5 (by decide) ?_
  refine pg_newi hx hb hw4 hK hP hD hS hA 4 (by decide) (by decide) (Nat.le_of_ble_eq_true rfl) (Nat.le_of_ble_eq_true rfl) (Nat.le_of_ble_eq_true rfl) dX2_init_6 (fun q6 H hP hD hS => ?_)
  refine W.widen (k := 1) (n := 4) (Nat.le_of_ble_eq_true rfl) (Nat.le_of_ble_eq_true rfl) ?_
  have hP : va_P D vwCl [(h0, .inr (2, [.null, .null])), (q6, .inl (cI, 4, .inl (fun _ => 0)))] H := hP
  have hD : va_D A [(h0, .inr (2, [.null, .null])), (q6, .inl (cI, 4, .inl (fun _ => 0)))] := hD
  refine va_putF (D := D) (ci := 2) (v := .ref q6) (ty := .array .int) (C := RX2) (T := TX2) (N := 2) hx hb hts hiX2 tyX2 tyX2_ok nmX2 hown hK hP hD hS 0 rfl rfl 0 (by decide) hw5 (fun _ h9 => h9) rfl hin rfl (by decide +kernel) rfl rfl (Nat.le_of_ble_eq_true rfl) dX2_init_8 (fun H locs hP hD hS => ?_)
  have hP : va_P D vwCl [(h0, .inr (2, [.ref q6, .null])), (q6, .inl (cI, 4, .inl (fun _ => 0)))] H := hP
  have hD : va_D A [(h0, .inr (2, [.ref q6, .null])), (q6, .inl (cI, 4, .inl (fun _ => 0)))] := hD
  refine lv_aload_n hx hb dX2_init_11 rfl (lv_at hl 0 rfl) ?_
  refine lv_iconst (v := 4) hx hb dX2_init_12 (by decide) ?_
  refine pg_newi hx hb hw4 hK hP hD hS hA 4 (by decide) (by decide) (Nat.le_of_ble_eq_true rfl) (Nat.le_of_ble_eq_true rfl) (Nat.le_of_ble_eq_true rfl) dX2_init_13 (fun q13 H hP hD hS => ?_)
  refine W.widen (k := 2) (n := 8) (Nat.le_of_ble_eq_true rfl) (Nat.le_of_ble_eq_true rfl) ?_
  have hP : va_P D vwCl [(h0, .inr (2, [.ref q6, .null])), (q6, .inl (cI, 4, .inl (fun _ => 0))), (q13, .inl (cI, 4, .inl (fun _ => 0)))] H := hP
  have hD : va_D A [(h0, .inr (2, [.ref q6, .null])), (q6, .inl (cI, 4, .inl (fun _ => 0))), (q13, .inl (cI, 4, .inl (fun _ => 0)))] := hD
  refine va_putF (D := D) (ci := 2) (v := .ref q13) (ty := .array .int) (C := RX2) (T := TX2) (N := 2) hx hb hts hiX2 tyX2 tyX2_ok nmX2 hown hK hP hD hS 0 rfl rfl 1 (by decide) hw6 (fun _ h9 => h9) rfl hin rfl (by decide +kernel) rfl rfl (Nat.le_of_ble_eq_true rfl) dX2_init_15 (fun H locs hP hD hS => ?_)
  have hP : va_P D vwCl [(h0, .inr (2, [.ref q6, .ref q13])), (q6, .inl (cI, 4, .inl (fun _ => 0))), (q13, .inl (cI, 4, .inl (fun _ => 0)))] H := hP
  have hD : va_D A [(h0, .inr (2, [.ref q6, .ref q13])), (q6, .inl (cI, 4, .inl (fun _ => 0))), (q13, .inl (cI, 4, .inl (fun _ => 0)))] := hD
  exact W.vret hx hb hr (fun t9 ht9 hW9 => ⟨⟨(fun k => ([q6, q13] : List Nat).getD k 0), rfl, trivial, by rw [ht9]; exact hP, va_K.moved hW9.alike hK, hD⟩, hS.F ht9⟩) hS.2.2 dX2_init_18
set_option maxHeartbeats 4000000 in
set_option maxRecDepth 100000 in
theorem cn_X3 (l : Launch) (D : va_G) (cI cZ : ClassId) (h0 sz : Nat) : Met l yX3_init wsX3_init ({ frames := 1, cells := 5, slots := 15, locals := 12 }) (va_Pc [.ref h0] (pg_B D (pg_ty cI cZ) [(h0, .inr (3, [.null, .null, .null, .null, .null]))] sz)) (va_Qv (fun _ : Nat → Nat => True) (pg_E D (pg_ty cI cZ) (va_A [(h0, .inr (3, [.null, .null, .null, .null, .null]))] sz) (fun b => [(h0, .inr (3, [.ref (b 0), .ref (b 1), .ref (b 2), .ref (b 3), .ref (b 4)])), (b 0, .inl (cI, 3, .inl (fun _ => 0))), (b 1, .inl (cI, 3, .inl (fun _ => 0))), (b 2, .inl (cZ, 3, .inl (fun _ => 0))), (b 3, .inl (cI, 3, .inl (fun _ => 0))), (b 4, .inl (cI, 3, .inl (fun _ => 0)))])) (va_A [(h0, .inr (3, [.null, .null, .null, .null, .null]))] sz)) 5 15 (va_A [(h0, .inr (3, [.null, .null, .null, .null, .null]))] sz) := by
  refine Met.ofW (cc := cX3_init) (maxL := 1) (ret := none) (by decide) rfl ?_
  intro p e s m args below meth c s₁ B hml hv
  obtain ⟨rfl, hsz, hP, hK, hD0⟩ := hv
  have hx := B.exec
  have hb := B.bytes
  have hr := B.returns
  have hts := atoms_spec (ws := wsX3_init) B.pre
  have hown : s.vm.findClass RX3 = some m.cls := findClass_of_methodNamed B.named
  have hlocks := B.notSynchronized
  have hin : meth.name = "<init>" := (name_of_methodNamed B.named B.method).1
  subst hsz
  have hD := hD0.self (sz := s.heap.size)
  generalize hAe : va_A [(h0, .inr (3, [.null, .null, .null, .null, .null]))] s.heap.size = A at hD ⊢
  have hA : ∀ q : Nat, s.heap.size ≤ q → A q := fun q h => by rw [← hAe]; exact Or.inr h
  have hS : va_S A s.heap s.heap [] := va_S.rf
  have hl := lv_entry ([.ref h0]) (n := 1) (Nat.le_of_ble_eq_true rfl)
  rw [lg_entry_eq]
  generalize (lg_sl ([.ref h0]) ++ List.replicate (1 - (lg_sl ([.ref h0])).length) Slot.unset).toArray = ls at hl ⊢
  have hl : lv_has ls 1 [(0, .ref h0)] := hl
  have hiX3 : ∀ w ∈ wsX30, w ∈ wsX3_init := fun _ h => List.mem_cons_of_mem _ (List.mem_append_right _ (h))
  have hw1 := hts (.methodLink RX3 3 objectInit) (List.mem_of_getElem? (i := 1) rfl)
  have hw2 := hts (.instanceMethod objectInit) (List.mem_of_getElem? (i := 2) rfl)
  have hw3 := hts (.code objectInit ⟨#[0xb1]⟩ 1 none) (List.mem_of_getElem? (i := 3) rfl)
  have hw4 := hts (.arrayClass .int) (List.mem_of_getElem? (i := 4) rfl)
  have hw5 := hts (.fieldLink RX3 9 "PegBox$Kinds" "leasts" "[I") (List.mem_of_getElem? (i := 5) rfl)
  have hw6 := hts (.fieldLink RX3 15 "PegBox$Kinds" "baskets" "[I") (List.mem_of_getElem? (i := 6) rfl)
  have hw7 := hts (.arrayClass .boolean) (List.mem_of_getElem? (i := 7) rfl)
  have hw8 := hts (.fieldLink RX3 18 "PegBox$Kinds" "wholes" "[Z") (List.mem_of_getElem? (i := 8) rfl)
  have hw9 := hts (.fieldLink RX3 22 "PegBox$Kinds" "caps" "[I") (List.mem_of_getElem? (i := 9) rfl)
  have hw10 := hts (.fieldLink RX3 25 "PegBox$Kinds" "lastDays" "[I") (List.mem_of_getElem? (i := 10) rfl)
  refine lv_aload_n hx hb dX3_init_0 rfl (lv_at hl 0 rfl) ?_
  refine W.objInit hx hb hown hw1 hw2 hw3 rfl (by rw [hml]; exact hl.1) rfl dX3_init_1 (Nat.le_of_ble_eq_true rfl) (Nat.le_of_ble_eq_true rfl) ?_
  refine W.eq (g2 := F0 m 4 ls []) rfl ?_
  refine lv_aload_n hx hb dX3_init_4 rfl (lv_at hl 0 rfl) ?_
  refine lv_iconst (v := 3) hx hb dX3_init_5 (by decide) ?_
  refine pg_newi hx hb hw4 hK hP hD hS hA 3 (by decide) (by decide) (Nat.le_of_ble_eq_true rfl) (Nat.le_of_ble_eq_true rfl) (Nat.le_of_ble_eq_true rfl) dX3_init_6 (fun q6 H hP hD hS => ?_)
  refine W.widen (k := 1) (n := 3) (Nat.le_of_ble_eq_true rfl) (Nat.le_of_ble_eq_true rfl) ?_
  have hP : va_P D vwCl [(h0, .inr (3, [.null, .null, .null, .null, .null])), (q6, .inl (cI, 3, .inl (fun _ => 0)))] H := hP
  have hD : va_D A [(h0, .inr (3, [.null, .null, .null, .null, .null])), (q6, .inl (cI, 3, .inl (fun _ => 0)))] := hD
  refine va_putF (D := D) (ci := 3) (v := .ref q6) (ty := .array .int) (C := RX3) (T := TX3) (N := 5) hx hb hts hiX3 tyX3 tyX3_ok nmX3 hown hK hP hD hS 0 rfl rfl 0 (by decide) hw5 (fun _ h9 => h9) rfl hin rfl (by decide +kernel) rfl rfl (Nat.le_of_ble_eq_true rfl) dX3_init_8 (fun H locs hP hD hS => ?_)
  have hP : va_P D vwCl [(h0, .inr (3, [.ref q6, .null, .null, .null, .null])), (q6, .inl (cI, 3, .inl (fun _ => 0)))] H := hP
  have hD : va_D A [(h0, .inr (3, [.ref q6, .null, .null, .null, .null])), (q6, .inl (cI, 3, .inl (fun _ => 0)))] := hD
  refine lv_aload_n hx hb dX3_init_11 rfl (lv_at hl 0 rfl) ?_
  refine lv_iconst (v := 3) hx hb dX3_init_12 (by decide) ?_
  refine pg_newi hx hb hw4 hK hP hD hS hA 3 (by decide) (by decide) (Nat.le_of_ble_eq_true rfl) (Nat.le_of_ble_eq_true rfl) (Nat.le_of_ble_eq_true rfl) dX3_init_13 (fun q13 H hP hD hS => ?_)
  refine W.widen (k := 2) (n := 6) (Nat.le_of_ble_eq_true rfl) (Nat.le_of_ble_eq_true rfl) ?_
  have hP : va_P D vwCl [(h0, .inr (3, [.ref q6, .null, .null, .null, .null])), (q6, .inl (cI, 3, .inl (fun _ => 0))), (q13, .inl (cI, 3, .inl (fun _ => 0)))] H := hP
  have hD : va_D A [(h0, .inr (3, [.ref q6, .null, .null, .null, .null])), (q6, .inl (cI, 3, .inl (fun _ => 0))), (q13, .inl (cI, 3, .inl (fun _ => 0)))] := hD
  refine va_putF (D := D) (ci := 3) (v := .ref q13) (ty := .array .int) (C := RX3) (T := TX3) (N := 5) hx hb hts hiX3 tyX3 tyX3_ok nmX3 hown hK hP hD hS 0 rfl rfl 1 (by decide) hw6 (fun _ h9 => h9) rfl hin rfl (by decide +kernel) rfl rfl (Nat.le_of_ble_eq_true rfl) dX3_init_15 (fun H locs hP hD hS => ?_)
  have hP : va_P D vwCl [(h0, .inr (3, [.ref q6, .ref q13, .null, .null, .null])), (q6, .inl (cI, 3, .inl (fun _ => 0))), (q13, .inl (cI, 3, .inl (fun _ => 0)))] H := hP
  have hD : va_D A [(h0, .inr (3, [.ref q6, .ref q13, .null, .null, .null])), (q6, .inl (cI, 3, .inl (fun _ => 0))), (q13, .inl (cI, 3, .inl (fun _ => 0)))] := hD
  refine lv_aload_n hx hb dX3_init_18 rfl (lv_at hl 0 rfl) ?_
  refine lv_iconst (v := 3) hx hb dX3_init_19 (by decide) ?_
  refine pg_newz hx hb hw7 hK hP hD hS hA 3 (by decide) (by decide) (Nat.le_of_ble_eq_true rfl) (Nat.le_of_ble_eq_true rfl) (Nat.le_of_ble_eq_true rfl) dX3_init_20 (fun q20 H hP hD hS => ?_)
  refine W.widen (k := 3) (n := 9) (Nat.le_of_ble_eq_true rfl) (Nat.le_of_ble_eq_true rfl) ?_
  have hP : va_P D vwCl [(h0, .inr (3, [.ref q6, .ref q13, .null, .null, .null])), (q6, .inl (cI, 3, .inl (fun _ => 0))), (q13, .inl (cI, 3, .inl (fun _ => 0))), (q20, .inl (cZ, 3, .inl (fun _ => 0)))] H := hP
  have hD : va_D A [(h0, .inr (3, [.ref q6, .ref q13, .null, .null, .null])), (q6, .inl (cI, 3, .inl (fun _ => 0))), (q13, .inl (cI, 3, .inl (fun _ => 0))), (q20, .inl (cZ, 3, .inl (fun _ => 0)))] := hD
  refine va_putF (D := D) (ci := 3) (v := .ref q20) (ty := .array .boolean) (C := RX3) (T := TX3) (N := 5) hx hb hts hiX3 tyX3 tyX3_ok nmX3 hown hK hP hD hS 0 rfl rfl 2 (by decide) hw8 (fun _ h9 => h9) rfl hin rfl (by decide +kernel) rfl rfl (Nat.le_of_ble_eq_true rfl) dX3_init_22 (fun H locs hP hD hS => ?_)
  have hP : va_P D vwCl [(h0, .inr (3, [.ref q6, .ref q13, .ref q20, .null, .null])), (q6, .inl (cI, 3, .inl (fun _ => 0))), (q13, .inl (cI, 3, .inl (fun _ => 0))), (q20, .inl (cZ, 3, .inl (fun _ => 0)))] H := hP
  have hD : va_D A [(h0, .inr (3, [.ref q6, .ref q13, .ref q20, .null, .null])), (q6, .inl (cI, 3, .inl (fun _ => 0))), (q13, .inl (cI, 3, .inl (fun _ => 0))), (q20, .inl (cZ, 3, .inl (fun _ => 0)))] := hD
  refine lv_aload_n hx hb dX3_init_25 rfl (lv_at hl 0 rfl) ?_
  refine lv_iconst (v := 3) hx hb dX3_init_26 (by decide) ?_
  refine pg_newi hx hb hw4 hK hP hD hS hA 3 (by decide) (by decide) (Nat.le_of_ble_eq_true rfl) (Nat.le_of_ble_eq_true rfl) (Nat.le_of_ble_eq_true rfl) dX3_init_27 (fun q27 H hP hD hS => ?_)
  refine W.widen (k := 4) (n := 12) (Nat.le_of_ble_eq_true rfl) (Nat.le_of_ble_eq_true rfl) ?_
  have hP : va_P D vwCl [(h0, .inr (3, [.ref q6, .ref q13, .ref q20, .null, .null])), (q6, .inl (cI, 3, .inl (fun _ => 0))), (q13, .inl (cI, 3, .inl (fun _ => 0))), (q20, .inl (cZ, 3, .inl (fun _ => 0))), (q27, .inl (cI, 3, .inl (fun _ => 0)))] H := hP
  have hD : va_D A [(h0, .inr (3, [.ref q6, .ref q13, .ref q20, .null, .null])), (q6, .inl (cI, 3, .inl (fun _ => 0))), (q13, .inl (cI, 3, .inl (fun _ => 0))), (q20, .inl (cZ, 3, .inl (fun _ => 0))), (q27, .inl (cI, 3, .inl (fun _ => 0)))] := hD
  refine va_putF (D := D) (ci := 3) (v := .ref q27) (ty := .array .int) (C := RX3) (T := TX3) (N := 5) hx hb hts hiX3 tyX3 tyX3_ok nmX3 hown hK hP hD hS 0 rfl rfl 3 (by decide) hw9 (fun _ h9 => h9) rfl hin rfl (by decide +kernel) rfl rfl (Nat.le_of_ble_eq_true rfl) dX3_init_29 (fun H locs hP hD hS => ?_)
  have hP : va_P D vwCl [(h0, .inr (3, [.ref q6, .ref q13, .ref q20, .ref q27, .null])), (q6, .inl (cI, 3, .inl (fun _ => 0))), (q13, .inl (cI, 3, .inl (fun _ => 0))), (q20, .inl (cZ, 3, .inl (fun _ => 0))), (q27, .inl (cI, 3, .inl (fun _ => 0)))] H := hP
  have hD : va_D A [(h0, .inr (3, [.ref q6, .ref q13, .ref q20, .ref q27, .null])), (q6, .inl (cI, 3, .inl (fun _ => 0))), (q13, .inl (cI, 3, .inl (fun _ => 0))), (q20, .inl (cZ, 3, .inl (fun _ => 0))), (q27, .inl (cI, 3, .inl (fun _ => 0)))] := hD
  refine lv_aload_n hx hb dX3_init_32 rfl (lv_at hl 0 rfl) ?_
  refine lv_iconst (v := 3) hx hb dX3_init_33 (by decide) ?_
  refine pg_newi hx hb hw4 hK hP hD hS hA 3 (by decide) (by decide) (Nat.le_of_ble_eq_true rfl) (Nat.le_of_ble_eq_true rfl) (Nat.le_of_ble_eq_true rfl) dX3_init_34 (fun q34 H hP hD hS => ?_)
  refine W.widen (k := 5) (n := 15) (Nat.le_of_ble_eq_true rfl) (Nat.le_of_ble_eq_true rfl) ?_
  have hP : va_P D vwCl [(h0, .inr (3, [.ref q6, .ref q13, .ref q20, .ref q27, .null])), (q6, .inl (cI, 3, .inl (fun _ => 0))), (q13, .inl (cI, 3, .inl (fun _ => 0))), (q20, .inl (cZ, 3, .inl (fun _ => 0))), (q27, .inl (cI, 3, .inl (fun _ => 0))), (q34, .inl (cI, 3, .inl (fun _ => 0)))] H := hP
  have hD : va_D A [(h0, .inr (3, [.ref q6, .ref q13, .ref q20, .ref q27, .null])), (q6, .inl (cI, 3, .inl (fun _ => 0))), (q13, .inl (cI, 3, .inl (fun _ => 0))), (q20, .inl (cZ, 3, .inl (fun _ => 0))), (q27, .inl (cI, 3, .inl (fun _ => 0))), (q34, .inl (cI, 3, .inl (fun _ => 0)))] := hD
  refine va_putF (D := D) (ci := 3) (v := .ref q34) (ty := .array .int) (C := RX3) (T := TX3) (N := 5) hx hb hts hiX3 tyX3 tyX3_ok nmX3 hown hK hP hD hS 0 rfl rfl 4 (by decide) hw10 (fun _ h9 => h9) rfl hin rfl (by decide +kernel) rfl rfl (Nat.le_of_ble_eq_true rfl) dX3_init_36 (fun H locs hP hD hS => ?_)
  have hP : va_P D vwCl [(h0, .inr (3, [.ref q6, .ref q13, .ref q20, .ref q27, .ref q34])), (q6, .inl (cI, 3, .inl (fun _ => 0))), (q13, .inl (cI, 3, .inl (fun _ => 0))), (q20, .inl (cZ, 3, .inl (fun _ => 0))), (q27, .inl (cI, 3, .inl (fun _ => 0))), (q34, .inl (cI, 3, .inl (fun _ => 0)))] H := hP
  have hD : va_D A [(h0, .inr (3, [.ref q6, .ref q13, .ref q20, .ref q27, .ref q34])), (q6, .inl (cI, 3, .inl (fun _ => 0))), (q13, .inl (cI, 3, .inl (fun _ => 0))), (q20, .inl (cZ, 3, .inl (fun _ => 0))), (q27, .inl (cI, 3, .inl (fun _ => 0))), (q34, .inl (cI, 3, .inl (fun _ => 0)))] := hD
  exact W.vret hx hb hr (fun t9 ht9 hW9 => ⟨⟨(fun k => ([q6, q13, q20, q27, q34] : List Nat).getD k 0), rfl, trivial, by rw [ht9]; exact hP, va_K.moved hW9.alike hK, hD⟩, hS.F ht9⟩) hS.2.2 dX3_init_39
set_option maxHeartbeats 4000000 in
set_option maxRecDepth 100000 in
theorem cn_X0 (l : Launch) (D : va_G) (cI cZ : ClassId) (h0 sz : Nat) : Met l yX0_init wsX0_init ({ frames := 1, cells := 4, slots := 80, locals := 12 }) (va_Pc [.ref h0] (pg_B D (pg_ty cI cZ) [(h0, .inr (0, [.null, .null, .null, .null, .int 0]))] sz)) (va_Qv (fun _ : Nat → Nat => True) (pg_E D (pg_ty cI cZ) (va_A [(h0, .inr (0, [.null, .null, .null, .null, .int 0]))] sz) (fun b => [(h0, .inr (0, [.ref (b 0), .ref (b 1), .ref (b 2), .ref (b 3), .int 0])), (b 0, .inl (cI, 20, .inl (fun _ => 0))), (b 1, .inl (cI, 20, .inl (fun _ => 0))), (b 2, .inl (cI, 20, .inl (fun _ => 0))), (b 3, .inl (cI, 20, .inl (fun _ => 0)))])) (va_A [(h0, .inr (0, [.null, .null, .null, .null, .int 0]))] sz)) 4 80 (va_A [(h0, .inr (0, [.null, .null, .null, .null, .int 0]))] sz) := by
  refine Met.ofW (cc := cX0_init) (maxL := 1) (ret := none) (by decide) rfl ?_
  intro p e s m args below meth c s₁ B hml hv
  obtain ⟨rfl, hsz, hP, hK, hD0⟩ := hv
  have hx := B.exec
  have hb := B.bytes
  have hr := B.returns
  have hts := atoms_spec (ws := wsX0_init) B.pre
  have hown : s.vm.findClass RX0 = some m.cls := findClass_of_methodNamed B.named
  have hlocks := B.notSynchronized
  have hin : meth.name = "<init>" := (name_of_methodNamed B.named B.method).1
  subst hsz
  have hD := hD0.self (sz := s.heap.size)
  generalize hAe : va_A [(h0, .inr (0, [.null, .null, .null, .null, .int 0]))] s.heap.size = A at hD ⊢
  have hA : ∀ q : Nat, s.heap.size ≤ q → A q := fun q h => by rw [← hAe]; exact Or.inr h
  have hS : va_S A s.heap s.heap [] := va_S.rf
  have hl := lv_entry ([.ref h0]) (n := 1) (Nat.le_of_ble_eq_true rfl)
  rw [lg_entry_eq]
  generalize (lg_sl ([.ref h0]) ++ List.replicate (1 - (lg_sl ([.ref h0])).length) Slot.unset).toArray = ls at hl ⊢
  have hl : lv_has ls 1 [(0, .ref h0)] := hl
  have hiX0 : ∀ w ∈ wsX00, w ∈ wsX0_init := fun _ h => List.mem_cons_of_mem _ (List.mem_append_right _ (h))
  have hw1 := hts (.methodLink RX0 3 objectInit) (List.mem_of_getElem? (i := 1) rfl)
  have hw2 := hts (.instanceMethod objectInit) (List.mem_of_getElem? (i := 2) rfl)
  have hw3 := hts (.code objectInit ⟨#[0xb1]⟩ 1 none) (List.mem_of_getElem? (i := 3) rfl)
  have hw4 := hts (.arrayClass .int) (List.mem_of_getElem? (i := 4) rfl)
  have hw5 := hts (.fieldLink RX0 9 "PegBox$ClaimBook" "kinds" "[I") (List.mem_of_getElem? (i := 5) rfl)
  have hw6 := hts (.fieldLink RX0 15 "PegBox$ClaimBook" "amounts" "[I") (List.mem_of_getElem? (i := 6) rfl)
  have hw7 := hts (.fieldLink RX0 18 "PegBox$ClaimBook" "offers" "[I") (List.mem_of_getElem? (i := 7) rfl)
  have hw8 := hts (.fieldLink RX0 21 "PegBox$ClaimBook" "settled" "[I") (List.mem_of_getElem? (i := 8) rfl)
  refine lv_aload_n hx hb dX0_init_0 rfl (lv_at hl 0 rfl) ?_
  refine W.objInit hx hb hown hw1 hw2 hw3 rfl (by rw [hml]; exact hl.1) rfl dX0_init_1 (Nat.le_of_ble_eq_true rfl) (Nat.le_of_ble_eq_true rfl) ?_
  refine W.eq (g2 := F0 m 4 ls []) rfl ?_
  refine lv_aload_n hx hb dX0_init_4 rfl (lv_at hl 0 rfl) ?_
  refine lv_bipush (v := 20) hx hb dX0_init_5 (by decide) ?_
  refine pg_newi hx hb hw4 hK hP hD hS hA 20 (by decide) (by decide) (Nat.le_of_ble_eq_true rfl) (Nat.le_of_ble_eq_true rfl) (Nat.le_of_ble_eq_true rfl) dX0_init_7 (fun q7 H hP hD hS => ?_)
  refine W.widen (k := 1) (n := 20) (Nat.le_of_ble_eq_true rfl) (Nat.le_of_ble_eq_true rfl) ?_
  have hP : va_P D vwCl [(h0, .inr (0, [.null, .null, .null, .null, .int 0])), (q7, .inl (cI, 20, .inl (fun _ => 0)))] H := hP
  have hD : va_D A [(h0, .inr (0, [.null, .null, .null, .null, .int 0])), (q7, .inl (cI, 20, .inl (fun _ => 0)))] := hD
  refine va_putF (D := D) (ci := 0) (v := .ref q7) (ty := .array .int) (C := RX0) (T := TX0) (N := 5) hx hb hts hiX0 tyX0 tyX0_ok nmX0 hown hK hP hD hS 0 rfl rfl 0 (by decide) hw5 (fun _ h9 => h9) rfl hin rfl (by decide +kernel) rfl rfl (Nat.le_of_ble_eq_true rfl) dX0_init_9 (fun H locs hP hD hS => ?_)
  have hP : va_P D vwCl [(h0, .inr (0, [.ref q7, .null, .null, .null, .int 0])), (q7, .inl (cI, 20, .inl (fun _ => 0)))] H := hP
  have hD : va_D A [(h0, .inr (0, [.ref q7, .null, .null, .null, .int 0])), (q7, .inl (cI, 20, .inl (fun _ => 0)))] := hD
  refine lv_aload_n hx hb dX0_init_12 rfl (lv_at hl 0 rfl) ?_
  refine lv_bipush (v := 20) hx hb dX0_init_13 (by decide) ?_
  refine pg_newi hx hb hw4 hK hP hD hS hA 20 (by decide) (by decide) (Nat.le_of_ble_eq_true rfl) (Nat.le_of_ble_eq_true rfl) (Nat.le_of_ble_eq_true rfl) dX0_init_15 (fun q15 H hP hD hS => ?_)
  refine W.widen (k := 2) (n := 40) (Nat.le_of_ble_eq_true rfl) (Nat.le_of_ble_eq_true rfl) ?_
  have hP : va_P D vwCl [(h0, .inr (0, [.ref q7, .null, .null, .null, .int 0])), (q7, .inl (cI, 20, .inl (fun _ => 0))), (q15, .inl (cI, 20, .inl (fun _ => 0)))] H := hP
  have hD : va_D A [(h0, .inr (0, [.ref q7, .null, .null, .null, .int 0])), (q7, .inl (cI, 20, .inl (fun _ => 0))), (q15, .inl (cI, 20, .inl (fun _ => 0)))] := hD
  refine va_putF (D := D) (ci := 0) (v := .ref q15) (ty := .array .int) (C := RX0) (T := TX0) (N := 5) hx hb hts hiX0 tyX0 tyX0_ok nmX0 hown hK hP hD hS 0 rfl rfl 1 (by decide) hw6 (fun _ h9 => h9) rfl hin rfl (by decide +kernel) rfl rfl (Nat.le_of_ble_eq_true rfl) dX0_init_17 (fun H locs hP hD hS => ?_)
  have hP : va_P D vwCl [(h0, .inr (0, [.ref q7, .ref q15, .null, .null, .int 0])), (q7, .inl (cI, 20, .inl (fun _ => 0))), (q15, .inl (cI, 20, .inl (fun _ => 0)))] H := hP
  have hD : va_D A [(h0, .inr (0, [.ref q7, .ref q15, .null, .null, .int 0])), (q7, .inl (cI, 20, .inl (fun _ => 0))), (q15, .inl (cI, 20, .inl (fun _ => 0)))] := hD
  refine lv_aload_n hx hb dX0_init_20 rfl (lv_at hl 0 rfl) ?_
  refine lv_bipush (v := 20) hx hb dX0_init_21 (by decide) ?_
  refine pg_newi hx hb hw4 hK hP hD hS hA 20 (by decide) (by decide) (Nat.le_of_ble_eq_true rfl) (Nat.le_of_ble_eq_true rfl) (Nat.le_of_ble_eq_true rfl) dX0_init_23 (fun q23 H hP hD hS => ?_)
  refine W.widen (k := 3) (n := 60) (Nat.le_of_ble_eq_true rfl) (Nat.le_of_ble_eq_true rfl) ?_
  have hP : va_P D vwCl [(h0, .inr (0, [.ref q7, .ref q15, .null, .null, .int 0])), (q7, .inl (cI, 20, .inl (fun _ => 0))), (q15, .inl (cI, 20, .inl (fun _ => 0))), (q23, .inl (cI, 20, .inl (fun _ => 0)))] H := hP
  have hD : va_D A [(h0, .inr (0, [.ref q7, .ref q15, .null, .null, .int 0])), (q7, .inl (cI, 20, .inl (fun _ => 0))), (q15, .inl (cI, 20, .inl (fun _ => 0))), (q23, .inl (cI, 20, .inl (fun _ => 0)))] := hD
  refine va_putF (D := D) (ci := 0) (v := .ref q23) (ty := .array .int) (C := RX0) (T := TX0) (N := 5) hx hb hts hiX0 tyX0 tyX0_ok nmX0 hown hK hP hD hS 0 rfl rfl 2 (by decide) hw7 (fun _ h9 => h9) rfl hin rfl (by decide +kernel) rfl rfl (Nat.le_of_ble_eq_true rfl) dX0_init_25 (fun H locs hP hD hS => ?_)
  have hP : va_P D vwCl [(h0, .inr (0, [.ref q7, .ref q15, .ref q23, .null, .int 0])), (q7, .inl (cI, 20, .inl (fun _ => 0))), (q15, .inl (cI, 20, .inl (fun _ => 0))), (q23, .inl (cI, 20, .inl (fun _ => 0)))] H := hP
  have hD : va_D A [(h0, .inr (0, [.ref q7, .ref q15, .ref q23, .null, .int 0])), (q7, .inl (cI, 20, .inl (fun _ => 0))), (q15, .inl (cI, 20, .inl (fun _ => 0))), (q23, .inl (cI, 20, .inl (fun _ => 0)))] := hD
  refine lv_aload_n hx hb dX0_init_28 rfl (lv_at hl 0 rfl) ?_
  refine lv_bipush (v := 20) hx hb dX0_init_29 (by decide) ?_
  refine pg_newi hx hb hw4 hK hP hD hS hA 20 (by decide) (by decide) (Nat.le_of_ble_eq_true rfl) (Nat.le_of_ble_eq_true rfl) (Nat.le_of_ble_eq_true rfl) dX0_init_31 (fun q31 H hP hD hS => ?_)
  refine W.widen (k := 4) (n := 80) (Nat.le_of_ble_eq_true rfl) (Nat.le_of_ble_eq_true rfl) ?_
  have hP : va_P D vwCl [(h0, .inr (0, [.ref q7, .ref q15, .ref q23, .null, .int 0])), (q7, .inl (cI, 20, .inl (fun _ => 0))), (q15, .inl (cI, 20, .inl (fun _ => 0))), (q23, .inl (cI, 20, .inl (fun _ => 0))), (q31, .inl (cI, 20, .inl (fun _ => 0)))] H := hP
  have hD : va_D A [(h0, .inr (0, [.ref q7, .ref q15, .ref q23, .null, .int 0])), (q7, .inl (cI, 20, .inl (fun _ => 0))), (q15, .inl (cI, 20, .inl (fun _ => 0))), (q23, .inl (cI, 20, .inl (fun _ => 0))), (q31, .inl (cI, 20, .inl (fun _ => 0)))] := hD
  refine va_putF (D := D) (ci := 0) (v := .ref q31) (ty := .array .int) (C := RX0) (T := TX0) (N := 5) hx hb hts hiX0 tyX0 tyX0_ok nmX0 hown hK hP hD hS 0 rfl rfl 3 (by decide) hw8 (fun _ h9 => h9) rfl hin rfl (by decide +kernel) rfl rfl (Nat.le_of_ble_eq_true rfl) dX0_init_33 (fun H locs hP hD hS => ?_)
  have hP : va_P D vwCl [(h0, .inr (0, [.ref q7, .ref q15, .ref q23, .ref q31, .int 0])), (q7, .inl (cI, 20, .inl (fun _ => 0))), (q15, .inl (cI, 20, .inl (fun _ => 0))), (q23, .inl (cI, 20, .inl (fun _ => 0))), (q31, .inl (cI, 20, .inl (fun _ => 0)))] H := hP
  have hD : va_D A [(h0, .inr (0, [.ref q7, .ref q15, .ref q23, .ref q31, .int 0])), (q7, .inl (cI, 20, .inl (fun _ => 0))), (q15, .inl (cI, 20, .inl (fun _ => 0))), (q23, .inl (cI, 20, .inl (fun _ => 0))), (q31, .inl (cI, 20, .inl (fun _ => 0)))] := hD
  exact W.vret hx hb hr (fun t9 ht9 hW9 => ⟨⟨(fun k => ([q7, q15, q23, q31] : List Nat).getD k 0), rfl, trivial, by rw [ht9]; exact hP, va_K.moved hW9.alike hK, hD⟩, hS.F ht9⟩) hS.2.2 dX0_init_36
set_option maxHeartbeats 4000000 in
set_option maxRecDepth 100000 in
theorem cn_X1 (l : Launch) (D : va_G) (cI cZ : ClassId) (h0 sz : Nat) : Met l yX1_init wsX1_init ({ frames := 1, cells := 3, slots := 12, locals := 12 }) (va_Pc [.ref h0] (pg_B D (pg_ty cI cZ) [(h0, .inr (1, [.null, .null, .null, .int 0, .int 0, .int 0, .int 0, .int 0]))] sz)) (va_Qv (fun _ : Nat → Nat => True) (pg_E D (pg_ty cI cZ) (va_A [(h0, .inr (1, [.null, .null, .null, .int 0, .int 0, .int 0, .int 0, .int 0]))] sz) (fun b => [(h0, .inr (1, [.ref (b 0), .ref (b 1), .ref (b 2), .int 0, .int 0, .int 0, .int 0, .int 0])), (b 0, .inl (cI, 4, .inl (fun _ => 0))), (b 1, .inl (cI, 4, .inl (fun _ => 0))), (b 2, .inl (cZ, 4, .inl (fun _ => 0)))])) (va_A [(h0, .inr (1, [.null, .null, .null, .int 0, .int 0, .int 0, .int 0, .int 0]))] sz)) 3 12 (va_A [(h0, .inr (1, [.null, .null, .null, .int 0, .int 0, .int 0, .int 0, .int 0]))] sz) := by
  refine Met.ofW (cc := cX1_init) (maxL := 1) (ret := none) (by decide) rfl ?_
  intro p e s m args below meth c s₁ B hml hv
  obtain ⟨rfl, hsz, hP, hK, hD0⟩ := hv
  have hx := B.exec
  have hb := B.bytes
  have hr := B.returns
  have hts := atoms_spec (ws := wsX1_init) B.pre
  have hown : s.vm.findClass RX1 = some m.cls := findClass_of_methodNamed B.named
  have hlocks := B.notSynchronized
  have hin : meth.name = "<init>" := (name_of_methodNamed B.named B.method).1
  subst hsz
  have hD := hD0.self (sz := s.heap.size)
  generalize hAe : va_A [(h0, .inr (1, [.null, .null, .null, .int 0, .int 0, .int 0, .int 0, .int 0]))] s.heap.size = A at hD ⊢
  have hA : ∀ q : Nat, s.heap.size ≤ q → A q := fun q h => by rw [← hAe]; exact Or.inr h
  have hS : va_S A s.heap s.heap [] := va_S.rf
  have hl := lv_entry ([.ref h0]) (n := 1) (Nat.le_of_ble_eq_true rfl)
  rw [lg_entry_eq]
  generalize (lg_sl ([.ref h0]) ++ List.replicate (1 - (lg_sl ([.ref h0])).length) Slot.unset).toArray = ls at hl ⊢
  have hl : lv_has ls 1 [(0, .ref h0)] := hl
  have hiX1 : ∀ w ∈ wsX10, w ∈ wsX1_init := fun _ h => List.mem_cons_of_mem _ (List.mem_append_right _ (h))
  have hw1 := hts (.methodLink RX1 3 objectInit) (List.mem_of_getElem? (i := 1) rfl)
  have hw2 := hts (.instanceMethod objectInit) (List.mem_of_getElem? (i := 2) rfl)
  have hw3 := hts (.code objectInit ⟨#[0xb1]⟩ 1 none) (List.mem_of_getElem? (i := 3) rfl)
  have hw4 := hts (.arrayClass .int) (List.mem_of_getElem? (i := 4) rfl)
  have hw5 := hts (.fieldLink RX1 9 "PegBox$EarnOut" "targets" "[I") (List.mem_of_getElem? (i := 5) rfl)
  have hw6 := hts (.fieldLink RX1 15 "PegBox$EarnOut" "amounts" "[I") (List.mem_of_getElem? (i := 6) rfl)
  have hw7 := hts (.arrayClass .boolean) (List.mem_of_getElem? (i := 7) rfl)
  have hw8 := hts (.fieldLink RX1 18 "PegBox$EarnOut" "met" "[Z") (List.mem_of_getElem? (i := 8) rfl)
  refine lv_aload_n hx hb dX1_init_0 rfl (lv_at hl 0 rfl) ?_
  refine W.objInit hx hb hown hw1 hw2 hw3 rfl (by rw [hml]; exact hl.1) rfl dX1_init_1 (Nat.le_of_ble_eq_true rfl) (Nat.le_of_ble_eq_true rfl) ?_
  refine W.eq (g2 := F0 m 4 ls []) rfl ?_
  refine lv_aload_n hx hb dX1_init_4 rfl (lv_at hl 0 rfl) ?_
  refine lv_iconst (v := 4) hx hb dX1_init_5 (by decide) ?_
  refine pg_newi hx hb hw4 hK hP hD hS hA 4 (by decide) (by decide) (Nat.le_of_ble_eq_true rfl) (Nat.le_of_ble_eq_true rfl) (Nat.le_of_ble_eq_true rfl) dX1_init_6 (fun q6 H hP hD hS => ?_)
  refine W.widen (k := 1) (n := 4) (Nat.le_of_ble_eq_true rfl) (Nat.le_of_ble_eq_true rfl) ?_
  have hP : va_P D vwCl [(h0, .inr (1, [.null, .null, .null, .int 0, .int 0, .int 0, .int 0, .int 0])), (q6, .inl (cI, 4, .inl (fun _ => 0)))] H := hP
  have hD : va_D A [(h0, .inr (1, [.null, .null, .null, .int 0, .int 0, .int 0, .int 0, .int 0])), (q6, .inl (cI, 4, .inl (fun _ => 0)))] := hD
  refine va_putF (D := D) (ci := 1) (v := .ref q6) (ty := .array .int) (C := RX1) (T := TX1) (N := 8) hx hb hts hiX1 tyX1 tyX1_ok nmX1 hown hK hP hD hS 0 rfl rfl 0 (by decide) hw5 (fun _ h9 => h9) rfl hin rfl (by decide +kernel) rfl rfl (Nat.le_of_ble_eq_true rfl) dX1_init_8 (fun H locs hP hD hS => ?_)
  have hP : va_P D vwCl [(h0, .inr (1, [.ref q6, .null, .null, .int 0, .int 0, .int 0, .int 0, .int 0])), (q6, .inl (cI, 4, .inl (fun _ => 0)))] H := hP
  have hD : va_D A [(h0, .inr (1, [.ref q6, .null, .null, .int 0, .int 0, .int 0, .int 0, .int 0])), (q6, .inl (cI, 4, .inl (fun _ => 0)))] := hD
  refine lv_aload_n hx hb dX1_init_11 rfl (lv_at hl 0 rfl) ?_
  refine lv_iconst (v := 4) hx hb dX1_init_12 (by decide) ?_
  refine pg_newi hx hb hw4 hK hP hD hS hA 4 (by decide) (by decide) (Nat.le_of_ble_eq_true rfl) (Nat.le_of_ble_eq_true rfl) (Nat.le_of_ble_eq_true rfl) dX1_init_13 (fun q13 H hP hD hS => ?_)
  refine W.widen (k := 2) (n := 8) (Nat.le_of_ble_eq_true rfl) (Nat.le_of_ble_eq_true rfl) ?_
  have hP : va_P D vwCl [(h0, .inr (1, [.ref q6, .null, .null, .int 0, .int 0, .int 0, .int 0, .int 0])), (q6, .inl (cI, 4, .inl (fun _ => 0))), (q13, .inl (cI, 4, .inl (fun _ => 0)))] H := hP
  have hD : va_D A [(h0, .inr (1, [.ref q6, .null, .null, .int 0, .int 0, .int 0, .int 0, .int 0])), (q6, .inl (cI, 4, .inl (fun _ => 0))), (q13, .inl (cI, 4, .inl (fun _ => 0)))] := hD
  refine va_putF (D := D) (ci := 1) (v := .ref q13) (ty := .array .int) (C := RX1) (T := TX1) (N := 8) hx hb hts hiX1 tyX1 tyX1_ok nmX1 hown hK hP hD hS 0 rfl rfl 1 (by decide) hw6 (fun _ h9 => h9) rfl hin rfl (by decide +kernel) rfl rfl (Nat.le_of_ble_eq_true rfl) dX1_init_15 (fun H locs hP hD hS => ?_)
  have hP : va_P D vwCl [(h0, .inr (1, [.ref q6, .ref q13, .null, .int 0, .int 0, .int 0, .int 0, .int 0])), (q6, .inl (cI, 4, .inl (fun _ => 0))), (q13, .inl (cI, 4, .inl (fun _ => 0)))] H := hP
  have hD : va_D A [(h0, .inr (1, [.ref q6, .ref q13, .null, .int 0, .int 0, .int 0, .int 0, .int 0])), (q6, .inl (cI, 4, .inl (fun _ => 0))), (q13, .inl (cI, 4, .inl (fun _ => 0)))] := hD
  refine lv_aload_n hx hb dX1_init_18 rfl (lv_at hl 0 rfl) ?_
  refine lv_iconst (v := 4) hx hb dX1_init_19 (by decide) ?_
  refine pg_newz hx hb hw7 hK hP hD hS hA 4 (by decide) (by decide) (Nat.le_of_ble_eq_true rfl) (Nat.le_of_ble_eq_true rfl) (Nat.le_of_ble_eq_true rfl) dX1_init_20 (fun q20 H hP hD hS => ?_)
  refine W.widen (k := 3) (n := 12) (Nat.le_of_ble_eq_true rfl) (Nat.le_of_ble_eq_true rfl) ?_
  have hP : va_P D vwCl [(h0, .inr (1, [.ref q6, .ref q13, .null, .int 0, .int 0, .int 0, .int 0, .int 0])), (q6, .inl (cI, 4, .inl (fun _ => 0))), (q13, .inl (cI, 4, .inl (fun _ => 0))), (q20, .inl (cZ, 4, .inl (fun _ => 0)))] H := hP
  have hD : va_D A [(h0, .inr (1, [.ref q6, .ref q13, .null, .int 0, .int 0, .int 0, .int 0, .int 0])), (q6, .inl (cI, 4, .inl (fun _ => 0))), (q13, .inl (cI, 4, .inl (fun _ => 0))), (q20, .inl (cZ, 4, .inl (fun _ => 0)))] := hD
  refine va_putF (D := D) (ci := 1) (v := .ref q20) (ty := .array .boolean) (C := RX1) (T := TX1) (N := 8) hx hb hts hiX1 tyX1 tyX1_ok nmX1 hown hK hP hD hS 0 rfl rfl 2 (by decide) hw8 (fun _ h9 => h9) rfl hin rfl (by decide +kernel) rfl rfl (Nat.le_of_ble_eq_true rfl) dX1_init_22 (fun H locs hP hD hS => ?_)
  have hP : va_P D vwCl [(h0, .inr (1, [.ref q6, .ref q13, .ref q20, .int 0, .int 0, .int 0, .int 0, .int 0])), (q6, .inl (cI, 4, .inl (fun _ => 0))), (q13, .inl (cI, 4, .inl (fun _ => 0))), (q20, .inl (cZ, 4, .inl (fun _ => 0)))] H := hP
  have hD : va_D A [(h0, .inr (1, [.ref q6, .ref q13, .ref q20, .int 0, .int 0, .int 0, .int 0, .int 0])), (q6, .inl (cI, 4, .inl (fun _ => 0))), (q13, .inl (cI, 4, .inl (fun _ => 0))), (q20, .inl (cZ, 4, .inl (fun _ => 0)))] := hD
  exact W.vret hx hb hr (fun t9 ht9 hW9 => ⟨⟨(fun k => ([q6, q13, q20] : List Nat).getD k 0), rfl, trivial, by rw [ht9]; exact hP, va_K.moved hW9.alike hK, hD⟩, hS.F ht9⟩) hS.2.2 dX1_init_25
set_option maxHeartbeats 4000000 in
set_option maxRecDepth 100000 in
theorem cn_X4 (l : Launch) (D : va_G) (cI cZ : ClassId) (h0 sz : Nat) : Met l yX4_init wsX4_init ({ frames := 2, cells := 18, slots := 135, locals := 32 }) (va_Pc [.ref h0] (pg_B D (pg_ty cI cZ) [(h0, .inr (4, [.null, .null, .null, .null, .int 0, .int 0, .int 0, .int 0, .int 0, .int 0, .int 0, .int 0, .int 0, .int 0]))] sz)) (va_Qv (fun b : Nat → Nat => b 0 = h0) (pg_E D (pg_ty cI cZ) (va_A [(h0, .inr (4, [.null, .null, .null, .null, .int 0, .int 0, .int 0, .int 0, .int 0, .int 0, .int 0, .int 0, .int 0, .int 0]))] sz) (fun b => pg_wB cI cZ b (upd (upd (fun _ => 0) 3 (-1)) 4 (-1), fun _ _ => 0))) (va_A [(h0, .inr (4, [.null, .null, .null, .null, .int 0, .int 0, .int 0, .int 0, .int 0, .int 0, .int 0, .int 0, .int 0, .int 0]))] sz)) 18 135 (va_A [(h0, .inr (4, [.null, .null, .null, .null, .int 0, .int 0, .int 0, .int 0, .int 0, .int 0, .int 0, .int 0, .int 0, .int 0]))] sz) := by
  refine Met.ofW (cc := cX4_init) (maxL := 1) (ret := none) (by decide) rfl ?_
  intro p e s m args below meth c s₁ B hml hv
  obtain ⟨rfl, hsz, hP, hK, hD0⟩ := hv
  have hx := B.exec
  have hb := B.bytes
  have hr := B.returns
  have hts := atoms_spec (ws := wsX4_init) B.pre
  have hown : s.vm.findClass RX4 = some m.cls := findClass_of_methodNamed B.named
  have hlocks := B.notSynchronized
  have hin : meth.name = "<init>" := (name_of_methodNamed B.named B.method).1
  subst hsz
  have hD := hD0.self (sz := s.heap.size)
  generalize hAe : va_A [(h0, .inr (4, [.null, .null, .null, .null, .int 0, .int 0, .int 0, .int 0, .int 0, .int 0, .int 0, .int 0, .int 0, .int 0]))] s.heap.size = A at hD ⊢
  have hA : ∀ q : Nat, s.heap.size ≤ q → A q := fun q h => by rw [← hAe]; exact Or.inr h
  have hS : va_S A s.heap s.heap [] := va_S.rf
  have hl := lv_entry ([.ref h0]) (n := 1) (Nat.le_of_ble_eq_true rfl)
  rw [lg_entry_eq]
  generalize (lg_sl ([.ref h0]) ++ List.replicate (1 - (lg_sl ([.ref h0])).length) Slot.unset).toArray = ls at hl ⊢
  have hl : lv_has ls 1 [(0, .ref h0)] := hl
  have hiX0 : ∀ w ∈ wsX00, w ∈ wsX4_init := fun _ h => List.mem_cons_of_mem _ (List.mem_append_left _ (List.mem_append_right _ (h)))
  have hiX1 : ∀ w ∈ wsX10, w ∈ wsX4_init := fun _ h => List.mem_cons_of_mem _ (List.mem_append_right _ (h))
  have hiX2 : ∀ w ∈ wsX20, w ∈ wsX4_init := fun _ h => List.mem_cons_of_mem _ (List.mem_append_left _ (List.mem_append_left _ (List.mem_append_left _ (List.mem_append_left _ (List.mem_append_right _ (h))))))
  have hiX3 : ∀ w ∈ wsX30, w ∈ wsX4_init := fun _ h => List.mem_cons_of_mem _ (List.mem_append_left _ (List.mem_append_left _ (List.mem_append_right _ (h))))
  have hiX4 : ∀ w ∈ wsX40, w ∈ wsX4_init := fun _ h => List.mem_cons_of_mem _ (List.mem_append_left _ (List.mem_append_left _ (List.mem_append_left _ (List.mem_append_right _ (h)))))
  have hw1 := hts (.methodLink RX4 1 objectInit) (List.mem_of_getElem? (i := 1) rfl)
  have hw2 := hts (.instanceMethod objectInit) (List.mem_of_getElem? (i := 2) rfl)
  have hw3 := hts (.code objectInit ⟨#[0xb1]⟩ 1 none) (List.mem_of_getElem? (i := 3) rfl)
  have hw4 := hts (.classLink RX4 7 RX2) (List.mem_of_getElem? (i := 4) rfl)
  have hw5 := hts (.instantiable RX2 2) (List.mem_of_getElem? (i := 5) rfl)
  have hw6 := hts (.initialized RX2) (List.mem_of_getElem? (i := 6) rfl)
  have hw7 := hts (.fieldLink RX4 10 "PegBox" "escrow" "LPegBox$Escrow;") (List.mem_of_getElem? (i := 7) rfl)
  have hw8 := hts (.classLink RX4 16 RX3) (List.mem_of_getElem? (i := 8) rfl)
  have hw9 := hts (.instantiable RX3 5) (List.mem_of_getElem? (i := 9) rfl)
  have hw10 := hts (.initialized RX3) (List.mem_of_getElem? (i := 10) rfl)
  have hw11 := hts (.fieldLink RX4 19 "PegBox" "kinds" "LPegBox$Kinds;") (List.mem_of_getElem? (i := 11) rfl)
  have hw12 := hts (.classLink RX4 23 RX0) (List.mem_of_getElem? (i := 12) rfl)
  have hw13 := hts (.instantiable RX0 5) (List.mem_of_getElem? (i := 13) rfl)
  have hw14 := hts (.initialized RX0) (List.mem_of_getElem? (i := 14) rfl)
  have hw15 := hts (.fieldLink RX4 26 "PegBox" "book" "LPegBox$ClaimBook;") (List.mem_of_getElem? (i := 15) rfl)
  have hw16 := hts (.classLink RX4 30 RX1) (List.mem_of_getElem? (i := 16) rfl)
  have hw17 := hts (.instantiable RX1 8) (List.mem_of_getElem? (i := 17) rfl)
  have hw18 := hts (.initialized RX1) (List.mem_of_getElem? (i := 18) rfl)
  have hw19 := hts (.fieldLink RX4 33 "PegBox" "earnOut" "LPegBox$EarnOut;") (List.mem_of_getElem? (i := 19) rfl)
  have hw20 := hts (.fieldLink RX4 37 "PegBox" "day" "I") (List.mem_of_getElem? (i := 20) rfl)
  have hw21 := hts (.fieldLink RX4 41 "PegBox" "finalPrice" "I") (List.mem_of_getElem? (i := 21) rfl)
  have hw22 := hts (.methodLink RX4 9 yX2_init) (List.mem_of_getElem? (i := 22) rfl)
  have hw23 := hts (.instanceMethod yX2_init) (List.mem_of_getElem? (i := 23) rfl)
  have hw29 := hts (.methodLink RX4 18 yX3_init) (List.mem_of_getElem? (i := 29) rfl)
  have hw30 := hts (.instanceMethod yX3_init) (List.mem_of_getElem? (i := 30) rfl)
  have hw39 := hts (.methodLink RX4 25 yX0_init) (List.mem_of_getElem? (i := 39) rfl)
  have hw40 := hts (.instanceMethod yX0_init) (List.mem_of_getElem? (i := 40) rfl)
  have hw47 := hts (.methodLink RX4 32 yX1_init) (List.mem_of_getElem? (i := 47) rfl)
  have hw48 := hts (.instanceMethod yX1_init) (List.mem_of_getElem? (i := 48) rfl)
  refine lv_aload_n hx hb dX4_init_0 rfl (lv_at hl 0 rfl) ?_
  refine W.objInit hx hb hown hw1 hw2 hw3 rfl (by rw [hml]; exact hl.1) rfl dX4_init_1 (Nat.le_of_ble_eq_true rfl) (Nat.le_of_ble_eq_true rfl) ?_
  refine W.eq (g2 := F0 m 4 ls []) rfl ?_
  refine lv_aload_n hx hb dX4_init_4 rfl (lv_at hl 0 rfl) ?_
  refine va_new (ci := 2) (fs := [.null, .null]) (C := RX2) (T := TX2) (N := 2) hx hb hts hiX2 tyX2 tyX2_ok hown hw4 hw5 hw6 hK hP hD hS hA rfl (fun j hj => by rcases (show j = 0 ∨ j = 1 by omega) with rfl | rfl <;> rfl) (Nat.le_of_ble_eq_true rfl) (Nat.le_of_ble_eq_true rfl) dX4_init_5 (fun q5 H hP hD hS => ?_)
  refine W.widen (k := 1) (n := 2) (Nat.le_of_ble_eq_true rfl) (Nat.le_of_ble_eq_true rfl) ?_
  have hP : va_P D vwCl [(h0, .inr (4, [.null, .null, .null, .null, .int 0, .int 0, .int 0, .int 0, .int 0, .int 0, .int 0, .int 0, .int 0, .int 0])), (q5, .inr (2, [.null, .null]))] H := hP
  have hD : va_D A [(h0, .inr (4, [.null, .null, .null, .null, .int 0, .int 0, .int 0, .int 0, .int 0, .int 0, .int 0, .int 0, .int 0, .int 0])), (q5, .inr (2, [.null, .null]))] := hD
  refine lv_dup hx hb dX4_init_8 rfl ?_
  have hP : va_P D vwCl ([(h0, .inr (4, [.null, .null, .null, .null, .int 0, .int 0, .int 0, .int 0, .int 0, .int 0, .int 0, .int 0, .int 0, .int 0]))] ++ [(q5, .inr (2, [.null, .null]))]) H := hP
  have hD : va_D A ([(h0, .inr (4, [.null, .null, .null, .null, .int 0, .int 0, .int 0, .int 0, .int 0, .int 0, .int 0, .int 0, .int 0, .int 0]))] ++ [(q5, .inr (2, [.null, .null]))]) := hD
  refine pg_nR (pg_rI (As := []) (rest := [.ref q5, .ref h0]) ⟨hx, hb, hml, hown, hts⟩ (cn_X2 l D cI cZ q5 H.size) (cwI 0 hts gX4_init_X2_init rfl rfl rfl hw6 hw22 hw23 rfl (by decide +kernel) ⟨Nat.le_of_ble_eq_true rfl, Nat.le_of_ble_eq_true rfl⟩) hK (pg_PR hP) (pg_DR hD) rfl hl.1 rfl (Nat.le_of_ble_eq_true rfl) dX4_init_9 ⟨Nat.le_of_ble_eq_true rfl, Nat.le_of_ble_eq_true rfl⟩) hP hD hS hA (fun b9 H locs _ hP hD hS => ?_)
  refine W.widen (k := 3) (n := 10) (Nat.le_of_ble_eq_true rfl) (Nat.le_of_ble_eq_true rfl) ?_
  have hP : va_P D vwCl [(h0, .inr (4, [.null, .null, .null, .null, .int 0, .int 0, .int 0, .int 0, .int 0, .int 0, .int 0, .int 0, .int 0, .int 0])), (q5, .inr (2, [.ref (b9 0), .ref (b9 1)])), (b9 0, .inl (cI, 4, .inl (fun _ => 0))), (b9 1, .inl (cI, 4, .inl (fun _ => 0)))] H := hP
  have hD : va_D A [(h0, .inr (4, [.null, .null, .null, .null, .int 0, .int 0, .int 0, .int 0, .int 0, .int 0, .int 0, .int 0, .int 0, .int 0])), (q5, .inr (2, [.ref (b9 0), .ref (b9 1)])), (b9 0, .inl (cI, 4, .inl (fun _ => 0))), (b9 1, .inl (cI, 4, .inl (fun _ => 0)))] := hD
  refine va_putF (D := D) (ci := 4) (v := .ref q5) (ty := .object "PegBox$Escrow") (C := RX4) (T := TX4) (N := 14) hx hb hts hiX4 tyX4 tyX4_ok nmX4 hown hK hP hD hS 0 rfl rfl 0 (by decide) hw7 (fun _ h9 => h9) rfl hin rfl (by decide +kernel) rfl rfl (Nat.le_of_ble_eq_true rfl) dX4_init_12 (fun H locs hP hD hS => ?_)
  have hP : va_P D vwCl [(h0, .inr (4, [.ref q5, .null, .null, .null, .int 0, .int 0, .int 0, .int 0, .int 0, .int 0, .int 0, .int 0, .int 0, .int 0])), (q5, .inr (2, [.ref (b9 0), .ref (b9 1)])), (b9 0, .inl (cI, 4, .inl (fun _ => 0))), (b9 1, .inl (cI, 4, .inl (fun _ => 0)))] H := hP
  have hD : va_D A [(h0, .inr (4, [.ref q5, .null, .null, .null, .int 0, .int 0, .int 0, .int 0, .int 0, .int 0, .int 0, .int 0, .int 0, .int 0])), (q5, .inr (2, [.ref (b9 0), .ref (b9 1)])), (b9 0, .inl (cI, 4, .inl (fun _ => 0))), (b9 1, .inl (cI, 4, .inl (fun _ => 0)))] := hD
  refine lv_aload_n hx hb dX4_init_15 rfl (lv_at hl 0 rfl) ?_
  refine va_new (ci := 3) (fs := [.null, .null, .null, .null, .null]) (C := RX3) (T := TX3) (N := 5) hx hb hts hiX3 tyX3 tyX3_ok hown hw8 hw9 hw10 hK hP hD hS hA rfl (fun j hj => by rcases (show j = 0 ∨ j = 1 ∨ j = 2 ∨ j = 3 ∨ j = 4 by omega) with rfl | rfl | rfl | rfl | rfl <;> rfl) (Nat.le_of_ble_eq_true rfl) (Nat.le_of_ble_eq_true rfl) dX4_init_16 (fun q16 H hP hD hS => ?_)
  refine W.widen (k := 4) (n := 15) (Nat.le_of_ble_eq_true rfl) (Nat.le_of_ble_eq_true rfl) ?_
  have hP : va_P D vwCl [(h0, .inr (4, [.ref q5, .null, .null, .null, .int 0, .int 0, .int 0, .int 0, .int 0, .int 0, .int 0, .int 0, .int 0, .int 0])), (q5, .inr (2, [.ref (b9 0), .ref (b9 1)])), (b9 0, .inl (cI, 4, .inl (fun _ => 0))), (b9 1, .inl (cI, 4, .inl (fun _ => 0))), (q16, .inr (3, [.null, .null, .null, .null, .null]))] H := hP
  have hD : va_D A [(h0, .inr (4, [.ref q5, .null, .null, .null, .int 0, .int 0, .int 0, .int 0, .int 0, .int 0, .int 0, .int 0, .int 0, .int 0])), (q5, .inr (2, [.ref (b9 0), .ref (b9 1)])), (b9 0, .inl (cI, 4, .inl (fun _ => 0))), (b9 1, .inl (cI, 4, .inl (fun _ => 0))), (q16, .inr (3, [.null, .null, .null, .null, .null]))] := hD
  refine lv_dup hx hb dX4_init_19 rfl ?_
  have hP : va_P D vwCl ([(h0, .inr (4, [.ref q5, .null, .null, .null, .int 0, .int 0, .int 0, .int 0, .int 0, .int 0, .int 0, .int 0, .int 0, .int 0])), (q5, .inr (2, [.ref (b9 0), .ref (b9 1)])), (b9 0, .inl (cI, 4, .inl (fun _ => 0))), (b9 1, .inl (cI, 4, .inl (fun _ => 0)))] ++ [(q16, .inr (3, [.null, .null, .null, .null, .null]))]) H := hP
  have hD : va_D A ([(h0, .inr (4, [.ref q5, .null, .null, .null, .int 0, .int 0, .int 0, .int 0, .int 0, .int 0, .int 0, .int 0, .int 0, .int 0])), (q5, .inr (2, [.ref (b9 0), .ref (b9 1)])), (b9 0, .inl (cI, 4, .inl (fun _ => 0))), (b9 1, .inl (cI, 4, .inl (fun _ => 0)))] ++ [(q16, .inr (3, [.null, .null, .null, .null, .null]))]) := hD
  refine pg_nR (pg_rI (As := []) (rest := [.ref q16, .ref h0]) ⟨hx, hb, hml, hown, hts⟩ (cn_X3 l D cI cZ q16 H.size) (cwI 0 hts gX4_init_X3_init rfl rfl rfl hw10 hw29 hw30 rfl (by decide +kernel) ⟨Nat.le_of_ble_eq_true rfl, Nat.le_of_ble_eq_true rfl⟩) hK (pg_PR hP) (pg_DR hD) rfl hl.1 rfl (Nat.le_of_ble_eq_true rfl) dX4_init_20 ⟨Nat.le_of_ble_eq_true rfl, Nat.le_of_ble_eq_true rfl⟩) hP hD hS hA (fun b20 H locs _ hP hD hS => ?_)
  refine W.widen (k := 9) (n := 30) (Nat.le_of_ble_eq_true rfl) (Nat.le_of_ble_eq_true rfl) ?_
  have hP : va_P D vwCl [(h0, .inr (4, [.ref q5, .null, .null, .null, .int 0, .int 0, .int 0, .int 0, .int 0, .int 0, .int 0, .int 0, .int 0, .int 0])), (q5, .inr (2, [.ref (b9 0), .ref (b9 1)])), (b9 0, .inl (cI, 4, .inl (fun _ => 0))), (b9 1, .inl (cI, 4, .inl (fun _ => 0))), (q16, .inr (3, [.ref (b20 0), .ref (b20 1), .ref (b20 2), .ref (b20 3), .ref (b20 4)])), (b20 0, .inl (cI, 3, .inl (fun _ => 0))), (b20 1, .inl (cI, 3, .inl (fun _ => 0))), (b20 2, .inl (cZ, 3, .inl (fun _ => 0))), (b20 3, .inl (cI, 3, .inl (fun _ => 0))), (b20 4, .inl (cI, 3, .inl (fun _ => 0)))] H := hP
  have hD : va_D A [(h0, .inr (4, [.ref q5, .null, .null, .null, .int 0, .int 0, .int 0, .int 0, .int 0, .int 0, .int 0, .int 0, .int 0, .int 0])), (q5, .inr (2, [.ref (b9 0), .ref (b9 1)])), (b9 0, .inl (cI, 4, .inl (fun _ => 0))), (b9 1, .inl (cI, 4, .inl (fun _ => 0))), (q16, .inr (3, [.ref (b20 0), .ref (b20 1), .ref (b20 2), .ref (b20 3), .ref (b20 4)])), (b20 0, .inl (cI, 3, .inl (fun _ => 0))), (b20 1, .inl (cI, 3, .inl (fun _ => 0))), (b20 2, .inl (cZ, 3, .inl (fun _ => 0))), (b20 3, .inl (cI, 3, .inl (fun _ => 0))), (b20 4, .inl (cI, 3, .inl (fun _ => 0)))] := hD
  refine va_putF (D := D) (ci := 4) (v := .ref q16) (ty := .object "PegBox$Kinds") (C := RX4) (T := TX4) (N := 14) hx hb hts hiX4 tyX4 tyX4_ok nmX4 hown hK hP hD hS 0 rfl rfl 1 (by decide) hw11 (fun _ h9 => h9) rfl hin rfl (by decide +kernel) rfl rfl (Nat.le_of_ble_eq_true rfl) dX4_init_23 (fun H locs hP hD hS => ?_)
  have hP : va_P D vwCl [(h0, .inr (4, [.ref q5, .ref q16, .null, .null, .int 0, .int 0, .int 0, .int 0, .int 0, .int 0, .int 0, .int 0, .int 0, .int 0])), (q5, .inr (2, [.ref (b9 0), .ref (b9 1)])), (b9 0, .inl (cI, 4, .inl (fun _ => 0))), (b9 1, .inl (cI, 4, .inl (fun _ => 0))), (q16, .inr (3, [.ref (b20 0), .ref (b20 1), .ref (b20 2), .ref (b20 3), .ref (b20 4)])), (b20 0, .inl (cI, 3, .inl (fun _ => 0))), (b20 1, .inl (cI, 3, .inl (fun _ => 0))), (b20 2, .inl (cZ, 3, .inl (fun _ => 0))), (b20 3, .inl (cI, 3, .inl (fun _ => 0))), (b20 4, .inl (cI, 3, .inl (fun _ => 0)))] H := hP
  have hD : va_D A [(h0, .inr (4, [.ref q5, .ref q16, .null, .null, .int 0, .int 0, .int 0, .int 0, .int 0, .int 0, .int 0, .int 0, .int 0, .int 0])), (q5, .inr (2, [.ref (b9 0), .ref (b9 1)])), (b9 0, .inl (cI, 4, .inl (fun _ => 0))), (b9 1, .inl (cI, 4, .inl (fun _ => 0))), (q16, .inr (3, [.ref (b20 0), .ref (b20 1), .ref (b20 2), .ref (b20 3), .ref (b20 4)])), (b20 0, .inl (cI, 3, .inl (fun _ => 0))), (b20 1, .inl (cI, 3, .inl (fun _ => 0))), (b20 2, .inl (cZ, 3, .inl (fun _ => 0))), (b20 3, .inl (cI, 3, .inl (fun _ => 0))), (b20 4, .inl (cI, 3, .inl (fun _ => 0)))] := hD
  refine lv_aload_n hx hb dX4_init_26 rfl (lv_at hl 0 rfl) ?_
  refine va_new (ci := 0) (fs := [.null, .null, .null, .null, .int 0]) (C := RX0) (T := TX0) (N := 5) hx hb hts hiX0 tyX0 tyX0_ok hown hw12 hw13 hw14 hK hP hD hS hA rfl (fun j hj => by rcases (show j = 0 ∨ j = 1 ∨ j = 2 ∨ j = 3 ∨ j = 4 by omega) with rfl | rfl | rfl | rfl | rfl <;> rfl) (Nat.le_of_ble_eq_true rfl) (Nat.le_of_ble_eq_true rfl) dX4_init_27 (fun q27 H hP hD hS => ?_)
  refine W.widen (k := 10) (n := 35) (Nat.le_of_ble_eq_true rfl) (Nat.le_of_ble_eq_true rfl) ?_
  have hP : va_P D vwCl [(h0, .inr (4, [.ref q5, .ref q16, .null, .null, .int 0, .int 0, .int 0, .int 0, .int 0, .int 0, .int 0, .int 0, .int 0, .int 0])), (q5, .inr (2, [.ref (b9 0), .ref (b9 1)])), (b9 0, .inl (cI, 4, .inl (fun _ => 0))), (b9 1, .inl (cI, 4, .inl (fun _ => 0))), (q16, .inr (3, [.ref (b20 0), .ref (b20 1), .ref (b20 2), .ref (b20 3), .ref (b20 4)])), (b20 0, .inl (cI, 3, .inl (fun _ => 0))), (b20 1, .inl (cI, 3, .inl (fun _ => 0))), (b20 2, .inl (cZ, 3, .inl (fun _ => 0))), (b20 3, .inl (cI, 3, .inl (fun _ => 0))), (b20 4, .inl (cI, 3, .inl (fun _ => 0))), (q27, .inr (0, [.null, .null, .null, .null, .int 0]))] H := hP
  have hD : va_D A [(h0, .inr (4, [.ref q5, .ref q16, .null, .null, .int 0, .int 0, .int 0, .int 0, .int 0, .int 0, .int 0, .int 0, .int 0, .int 0])), (q5, .inr (2, [.ref (b9 0), .ref (b9 1)])), (b9 0, .inl (cI, 4, .inl (fun _ => 0))), (b9 1, .inl (cI, 4, .inl (fun _ => 0))), (q16, .inr (3, [.ref (b20 0), .ref (b20 1), .ref (b20 2), .ref (b20 3), .ref (b20 4)])), (b20 0, .inl (cI, 3, .inl (fun _ => 0))), (b20 1, .inl (cI, 3, .inl (fun _ => 0))), (b20 2, .inl (cZ, 3, .inl (fun _ => 0))), (b20 3, .inl (cI, 3, .inl (fun _ => 0))), (b20 4, .inl (cI, 3, .inl (fun _ => 0))), (q27, .inr (0, [.null, .null, .null, .null, .int 0]))] := hD
  refine lv_dup hx hb dX4_init_30 rfl ?_
  have hP : va_P D vwCl ([(h0, .inr (4, [.ref q5, .ref q16, .null, .null, .int 0, .int 0, .int 0, .int 0, .int 0, .int 0, .int 0, .int 0, .int 0, .int 0])), (q5, .inr (2, [.ref (b9 0), .ref (b9 1)])), (b9 0, .inl (cI, 4, .inl (fun _ => 0))), (b9 1, .inl (cI, 4, .inl (fun _ => 0))), (q16, .inr (3, [.ref (b20 0), .ref (b20 1), .ref (b20 2), .ref (b20 3), .ref (b20 4)])), (b20 0, .inl (cI, 3, .inl (fun _ => 0))), (b20 1, .inl (cI, 3, .inl (fun _ => 0))), (b20 2, .inl (cZ, 3, .inl (fun _ => 0))), (b20 3, .inl (cI, 3, .inl (fun _ => 0))), (b20 4, .inl (cI, 3, .inl (fun _ => 0)))] ++ [(q27, .inr (0, [.null, .null, .null, .null, .int 0]))]) H := hP
  have hD : va_D A ([(h0, .inr (4, [.ref q5, .ref q16, .null, .null, .int 0, .int 0, .int 0, .int 0, .int 0, .int 0, .int 0, .int 0, .int 0, .int 0])), (q5, .inr (2, [.ref (b9 0), .ref (b9 1)])), (b9 0, .inl (cI, 4, .inl (fun _ => 0))), (b9 1, .inl (cI, 4, .inl (fun _ => 0))), (q16, .inr (3, [.ref (b20 0), .ref (b20 1), .ref (b20 2), .ref (b20 3), .ref (b20 4)])), (b20 0, .inl (cI, 3, .inl (fun _ => 0))), (b20 1, .inl (cI, 3, .inl (fun _ => 0))), (b20 2, .inl (cZ, 3, .inl (fun _ => 0))), (b20 3, .inl (cI, 3, .inl (fun _ => 0))), (b20 4, .inl (cI, 3, .inl (fun _ => 0)))] ++ [(q27, .inr (0, [.null, .null, .null, .null, .int 0]))]) := hD
  refine pg_nR (pg_rI (As := []) (rest := [.ref q27, .ref h0]) ⟨hx, hb, hml, hown, hts⟩ (cn_X0 l D cI cZ q27 H.size) (cwI 0 hts gX4_init_X0_init rfl rfl rfl hw14 hw39 hw40 rfl (by decide +kernel) ⟨Nat.le_of_ble_eq_true rfl, Nat.le_of_ble_eq_true rfl⟩) hK (pg_PR hP) (pg_DR hD) rfl hl.1 rfl (Nat.le_of_ble_eq_true rfl) dX4_init_31 ⟨Nat.le_of_ble_eq_true rfl, Nat.le_of_ble_eq_true rfl⟩) hP hD hS hA (fun b31 H locs _ hP hD hS => ?_)
  refine W.widen (k := 14) (n := 115) (Nat.le_of_ble_eq_true rfl) (Nat.le_of_ble_eq_true rfl) ?_
  have hP : va_P D vwCl [(h0, .inr (4, [.ref q5, .ref q16, .null, .null, .int 0, .int 0, .int 0, .int 0, .int 0, .int 0, .int 0, .int 0, .int 0, .int 0])), (q5, .inr (2, [.ref (b9 0), .ref (b9 1)])), (b9 0, .inl (cI, 4, .inl (fun _ => 0))), (b9 1, .inl (cI, 4, .inl (fun _ => 0))), (q16, .inr (3, [.ref (b20 0), .ref (b20 1), .ref (b20 2), .ref (b20 3), .ref (b20 4)])), (b20 0, .inl (cI, 3, .inl (fun _ => 0))), (b20 1, .inl (cI, 3, .inl (fun _ => 0))), (b20 2, .inl (cZ, 3, .inl (fun _ => 0))), (b20 3, .inl (cI, 3, .inl (fun _ => 0))), (b20 4, .inl (cI, 3, .inl (fun _ => 0))), (q27, .inr (0, [.ref (b31 0), .ref (b31 1), .ref (b31 2), .ref (b31 3), .int 0])), (b31 0, .inl (cI, 20, .inl (fun _ => 0))), (b31 1, .inl (cI, 20, .inl (fun _ => 0))), (b31 2, .inl (cI, 20, .inl (fun _ => 0))), (b31 3, .inl (cI, 20, .inl (fun _ => 0)))] H := hP
  have hD : va_D A [(h0, .inr (4, [.ref q5, .ref q16, .null, .null, .int 0, .int 0, .int 0, .int 0, .int 0, .int 0, .int 0, .int 0, .int 0, .int 0])), (q5, .inr (2, [.ref (b9 0), .ref (b9 1)])), (b9 0, .inl (cI, 4, .inl (fun _ => 0))), (b9 1, .inl (cI, 4, .inl (fun _ => 0))), (q16, .inr (3, [.ref (b20 0), .ref (b20 1), .ref (b20 2), .ref (b20 3), .ref (b20 4)])), (b20 0, .inl (cI, 3, .inl (fun _ => 0))), (b20 1, .inl (cI, 3, .inl (fun _ => 0))), (b20 2, .inl (cZ, 3, .inl (fun _ => 0))), (b20 3, .inl (cI, 3, .inl (fun _ => 0))), (b20 4, .inl (cI, 3, .inl (fun _ => 0))), (q27, .inr (0, [.ref (b31 0), .ref (b31 1), .ref (b31 2), .ref (b31 3), .int 0])), (b31 0, .inl (cI, 20, .inl (fun _ => 0))), (b31 1, .inl (cI, 20, .inl (fun _ => 0))), (b31 2, .inl (cI, 20, .inl (fun _ => 0))), (b31 3, .inl (cI, 20, .inl (fun _ => 0)))] := hD
  refine va_putF (D := D) (ci := 4) (v := .ref q27) (ty := .object "PegBox$ClaimBook") (C := RX4) (T := TX4) (N := 14) hx hb hts hiX4 tyX4 tyX4_ok nmX4 hown hK hP hD hS 0 rfl rfl 2 (by decide) hw15 (fun _ h9 => h9) rfl hin rfl (by decide +kernel) rfl rfl (Nat.le_of_ble_eq_true rfl) dX4_init_34 (fun H locs hP hD hS => ?_)
  have hP : va_P D vwCl [(h0, .inr (4, [.ref q5, .ref q16, .ref q27, .null, .int 0, .int 0, .int 0, .int 0, .int 0, .int 0, .int 0, .int 0, .int 0, .int 0])), (q5, .inr (2, [.ref (b9 0), .ref (b9 1)])), (b9 0, .inl (cI, 4, .inl (fun _ => 0))), (b9 1, .inl (cI, 4, .inl (fun _ => 0))), (q16, .inr (3, [.ref (b20 0), .ref (b20 1), .ref (b20 2), .ref (b20 3), .ref (b20 4)])), (b20 0, .inl (cI, 3, .inl (fun _ => 0))), (b20 1, .inl (cI, 3, .inl (fun _ => 0))), (b20 2, .inl (cZ, 3, .inl (fun _ => 0))), (b20 3, .inl (cI, 3, .inl (fun _ => 0))), (b20 4, .inl (cI, 3, .inl (fun _ => 0))), (q27, .inr (0, [.ref (b31 0), .ref (b31 1), .ref (b31 2), .ref (b31 3), .int 0])), (b31 0, .inl (cI, 20, .inl (fun _ => 0))), (b31 1, .inl (cI, 20, .inl (fun _ => 0))), (b31 2, .inl (cI, 20, .inl (fun _ => 0))), (b31 3, .inl (cI, 20, .inl (fun _ => 0)))] H := hP
  have hD : va_D A [(h0, .inr (4, [.ref q5, .ref q16, .ref q27, .null, .int 0, .int 0, .int 0, .int 0, .int 0, .int 0, .int 0, .int 0, .int 0, .int 0])), (q5, .inr (2, [.ref (b9 0), .ref (b9 1)])), (b9 0, .inl (cI, 4, .inl (fun _ => 0))), (b9 1, .inl (cI, 4, .inl (fun _ => 0))), (q16, .inr (3, [.ref (b20 0), .ref (b20 1), .ref (b20 2), .ref (b20 3), .ref (b20 4)])), (b20 0, .inl (cI, 3, .inl (fun _ => 0))), (b20 1, .inl (cI, 3, .inl (fun _ => 0))), (b20 2, .inl (cZ, 3, .inl (fun _ => 0))), (b20 3, .inl (cI, 3, .inl (fun _ => 0))), (b20 4, .inl (cI, 3, .inl (fun _ => 0))), (q27, .inr (0, [.ref (b31 0), .ref (b31 1), .ref (b31 2), .ref (b31 3), .int 0])), (b31 0, .inl (cI, 20, .inl (fun _ => 0))), (b31 1, .inl (cI, 20, .inl (fun _ => 0))), (b31 2, .inl (cI, 20, .inl (fun _ => 0))), (b31 3, .inl (cI, 20, .inl (fun _ => 0)))] := hD
  refine lv_aload_n hx hb dX4_init_37 rfl (lv_at hl 0 rfl) ?_
  refine va_new (ci := 1) (fs := [.null, .null, .null, .int 0, .int 0, .int 0, .int 0, .int 0]) (C := RX1) (T := TX1) (N := 8) hx hb hts hiX1 tyX1 tyX1_ok hown hw16 hw17 hw18 hK hP hD hS hA rfl (fun j hj => by rcases (show j = 0 ∨ j = 1 ∨ j = 2 ∨ j = 3 ∨ j = 4 ∨ j = 5 ∨ j = 6 ∨ j = 7 by omega) with rfl | rfl | rfl | rfl | rfl | rfl | rfl | rfl <;> rfl) (Nat.le_of_ble_eq_true rfl) (Nat.le_of_ble_eq_true rfl) dX4_init_38 (fun q38 H hP hD hS => ?_)
  refine W.widen (k := 15) (n := 123) (Nat.le_of_ble_eq_true rfl) (Nat.le_of_ble_eq_true rfl) ?_
  have hP : va_P D vwCl [(h0, .inr (4, [.ref q5, .ref q16, .ref q27, .null, .int 0, .int 0, .int 0, .int 0, .int 0, .int 0, .int 0, .int 0, .int 0, .int 0])), (q5, .inr (2, [.ref (b9 0), .ref (b9 1)])), (b9 0, .inl (cI, 4, .inl (fun _ => 0))), (b9 1, .inl (cI, 4, .inl (fun _ => 0))), (q16, .inr (3, [.ref (b20 0), .ref (b20 1), .ref (b20 2), .ref (b20 3), .ref (b20 4)])), (b20 0, .inl (cI, 3, .inl (fun _ => 0))), (b20 1, .inl (cI, 3, .inl (fun _ => 0))), (b20 2, .inl (cZ, 3, .inl (fun _ => 0))), (b20 3, .inl (cI, 3, .inl (fun _ => 0))), (b20 4, .inl (cI, 3, .inl (fun _ => 0))), (q27, .inr (0, [.ref (b31 0), .ref (b31 1), .ref (b31 2), .ref (b31 3), .int 0])), (b31 0, .inl (cI, 20, .inl (fun _ => 0))), (b31 1, .inl (cI, 20, .inl (fun _ => 0))), (b31 2, .inl (cI, 20, .inl (fun _ => 0))), (b31 3, .inl (cI, 20, .inl (fun _ => 0))), (q38, .inr (1, [.null, .null, .null, .int 0, .int 0, .int 0, .int 0, .int 0]))] H := hP
  have hD : va_D A [(h0, .inr (4, [.ref q5, .ref q16, .ref q27, .null, .int 0, .int 0, .int 0, .int 0, .int 0, .int 0, .int 0, .int 0, .int 0, .int 0])), (q5, .inr (2, [.ref (b9 0), .ref (b9 1)])), (b9 0, .inl (cI, 4, .inl (fun _ => 0))), (b9 1, .inl (cI, 4, .inl (fun _ => 0))), (q16, .inr (3, [.ref (b20 0), .ref (b20 1), .ref (b20 2), .ref (b20 3), .ref (b20 4)])), (b20 0, .inl (cI, 3, .inl (fun _ => 0))), (b20 1, .inl (cI, 3, .inl (fun _ => 0))), (b20 2, .inl (cZ, 3, .inl (fun _ => 0))), (b20 3, .inl (cI, 3, .inl (fun _ => 0))), (b20 4, .inl (cI, 3, .inl (fun _ => 0))), (q27, .inr (0, [.ref (b31 0), .ref (b31 1), .ref (b31 2), .ref (b31 3), .int 0])), (b31 0, .inl (cI, 20, .inl (fun _ => 0))), (b31 1, .inl (cI, 20, .inl (fun _ => 0))), (b31 2, .inl (cI, 20, .inl (fun _ => 0))), (b31 3, .inl (cI, 20, .inl (fun _ => 0))), (q38, .inr (1, [.null, .null, .null, .int 0, .int 0, .int 0, .int 0, .int 0]))] := hD
  refine lv_dup hx hb dX4_init_41 rfl ?_
  have hP : va_P D vwCl ([(h0, .inr (4, [.ref q5, .ref q16, .ref q27, .null, .int 0, .int 0, .int 0, .int 0, .int 0, .int 0, .int 0, .int 0, .int 0, .int 0])), (q5, .inr (2, [.ref (b9 0), .ref (b9 1)])), (b9 0, .inl (cI, 4, .inl (fun _ => 0))), (b9 1, .inl (cI, 4, .inl (fun _ => 0))), (q16, .inr (3, [.ref (b20 0), .ref (b20 1), .ref (b20 2), .ref (b20 3), .ref (b20 4)])), (b20 0, .inl (cI, 3, .inl (fun _ => 0))), (b20 1, .inl (cI, 3, .inl (fun _ => 0))), (b20 2, .inl (cZ, 3, .inl (fun _ => 0))), (b20 3, .inl (cI, 3, .inl (fun _ => 0))), (b20 4, .inl (cI, 3, .inl (fun _ => 0))), (q27, .inr (0, [.ref (b31 0), .ref (b31 1), .ref (b31 2), .ref (b31 3), .int 0])), (b31 0, .inl (cI, 20, .inl (fun _ => 0))), (b31 1, .inl (cI, 20, .inl (fun _ => 0))), (b31 2, .inl (cI, 20, .inl (fun _ => 0))), (b31 3, .inl (cI, 20, .inl (fun _ => 0)))] ++ [(q38, .inr (1, [.null, .null, .null, .int 0, .int 0, .int 0, .int 0, .int 0]))]) H := hP
  have hD : va_D A ([(h0, .inr (4, [.ref q5, .ref q16, .ref q27, .null, .int 0, .int 0, .int 0, .int 0, .int 0, .int 0, .int 0, .int 0, .int 0, .int 0])), (q5, .inr (2, [.ref (b9 0), .ref (b9 1)])), (b9 0, .inl (cI, 4, .inl (fun _ => 0))), (b9 1, .inl (cI, 4, .inl (fun _ => 0))), (q16, .inr (3, [.ref (b20 0), .ref (b20 1), .ref (b20 2), .ref (b20 3), .ref (b20 4)])), (b20 0, .inl (cI, 3, .inl (fun _ => 0))), (b20 1, .inl (cI, 3, .inl (fun _ => 0))), (b20 2, .inl (cZ, 3, .inl (fun _ => 0))), (b20 3, .inl (cI, 3, .inl (fun _ => 0))), (b20 4, .inl (cI, 3, .inl (fun _ => 0))), (q27, .inr (0, [.ref (b31 0), .ref (b31 1), .ref (b31 2), .ref (b31 3), .int 0])), (b31 0, .inl (cI, 20, .inl (fun _ => 0))), (b31 1, .inl (cI, 20, .inl (fun _ => 0))), (b31 2, .inl (cI, 20, .inl (fun _ => 0))), (b31 3, .inl (cI, 20, .inl (fun _ => 0)))] ++ [(q38, .inr (1, [.null, .null, .null, .int 0, .int 0, .int 0, .int 0, .int 0]))]) := hD
  refine pg_nR (pg_rI (As := []) (rest := [.ref q38, .ref h0]) ⟨hx, hb, hml, hown, hts⟩ (cn_X1 l D cI cZ q38 H.size) (cwI 0 hts gX4_init_X1_init rfl rfl rfl hw18 hw47 hw48 rfl (by decide +kernel) ⟨Nat.le_of_ble_eq_true rfl, Nat.le_of_ble_eq_true rfl⟩) hK (pg_PR hP) (pg_DR hD) rfl hl.1 rfl (Nat.le_of_ble_eq_true rfl) dX4_init_42 ⟨Nat.le_of_ble_eq_true rfl, Nat.le_of_ble_eq_true rfl⟩) hP hD hS hA (fun b42 H locs _ hP hD hS => ?_)
  refine W.widen (k := 18) (n := 135) (Nat.le_of_ble_eq_true rfl) (Nat.le_of_ble_eq_true rfl) ?_
  have hP : va_P D vwCl [(h0, .inr (4, [.ref q5, .ref q16, .ref q27, .null, .int 0, .int 0, .int 0, .int 0, .int 0, .int 0, .int 0, .int 0, .int 0, .int 0])), (q5, .inr (2, [.ref (b9 0), .ref (b9 1)])), (b9 0, .inl (cI, 4, .inl (fun _ => 0))), (b9 1, .inl (cI, 4, .inl (fun _ => 0))), (q16, .inr (3, [.ref (b20 0), .ref (b20 1), .ref (b20 2), .ref (b20 3), .ref (b20 4)])), (b20 0, .inl (cI, 3, .inl (fun _ => 0))), (b20 1, .inl (cI, 3, .inl (fun _ => 0))), (b20 2, .inl (cZ, 3, .inl (fun _ => 0))), (b20 3, .inl (cI, 3, .inl (fun _ => 0))), (b20 4, .inl (cI, 3, .inl (fun _ => 0))), (q27, .inr (0, [.ref (b31 0), .ref (b31 1), .ref (b31 2), .ref (b31 3), .int 0])), (b31 0, .inl (cI, 20, .inl (fun _ => 0))), (b31 1, .inl (cI, 20, .inl (fun _ => 0))), (b31 2, .inl (cI, 20, .inl (fun _ => 0))), (b31 3, .inl (cI, 20, .inl (fun _ => 0))), (q38, .inr (1, [.ref (b42 0), .ref (b42 1), .ref (b42 2), .int 0, .int 0, .int 0, .int 0, .int 0])), (b42 0, .inl (cI, 4, .inl (fun _ => 0))), (b42 1, .inl (cI, 4, .inl (fun _ => 0))), (b42 2, .inl (cZ, 4, .inl (fun _ => 0)))] H := hP
  have hD : va_D A [(h0, .inr (4, [.ref q5, .ref q16, .ref q27, .null, .int 0, .int 0, .int 0, .int 0, .int 0, .int 0, .int 0, .int 0, .int 0, .int 0])), (q5, .inr (2, [.ref (b9 0), .ref (b9 1)])), (b9 0, .inl (cI, 4, .inl (fun _ => 0))), (b9 1, .inl (cI, 4, .inl (fun _ => 0))), (q16, .inr (3, [.ref (b20 0), .ref (b20 1), .ref (b20 2), .ref (b20 3), .ref (b20 4)])), (b20 0, .inl (cI, 3, .inl (fun _ => 0))), (b20 1, .inl (cI, 3, .inl (fun _ => 0))), (b20 2, .inl (cZ, 3, .inl (fun _ => 0))), (b20 3, .inl (cI, 3, .inl (fun _ => 0))), (b20 4, .inl (cI, 3, .inl (fun _ => 0))), (q27, .inr (0, [.ref (b31 0), .ref (b31 1), .ref (b31 2), .ref (b31 3), .int 0])), (b31 0, .inl (cI, 20, .inl (fun _ => 0))), (b31 1, .inl (cI, 20, .inl (fun _ => 0))), (b31 2, .inl (cI, 20, .inl (fun _ => 0))), (b31 3, .inl (cI, 20, .inl (fun _ => 0))), (q38, .inr (1, [.ref (b42 0), .ref (b42 1), .ref (b42 2), .int 0, .int 0, .int 0, .int 0, .int 0])), (b42 0, .inl (cI, 4, .inl (fun _ => 0))), (b42 1, .inl (cI, 4, .inl (fun _ => 0))), (b42 2, .inl (cZ, 4, .inl (fun _ => 0)))] := hD
  refine va_putF (D := D) (ci := 4) (v := .ref q38) (ty := .object "PegBox$EarnOut") (C := RX4) (T := TX4) (N := 14) hx hb hts hiX4 tyX4 tyX4_ok nmX4 hown hK hP hD hS 0 rfl rfl 3 (by decide) hw19 (fun _ h9 => h9) rfl hin rfl (by decide +kernel) rfl rfl (Nat.le_of_ble_eq_true rfl) dX4_init_45 (fun H locs hP hD hS => ?_)
  have hP : va_P D vwCl [(h0, .inr (4, [.ref q5, .ref q16, .ref q27, .ref q38, .int 0, .int 0, .int 0, .int 0, .int 0, .int 0, .int 0, .int 0, .int 0, .int 0])), (q5, .inr (2, [.ref (b9 0), .ref (b9 1)])), (b9 0, .inl (cI, 4, .inl (fun _ => 0))), (b9 1, .inl (cI, 4, .inl (fun _ => 0))), (q16, .inr (3, [.ref (b20 0), .ref (b20 1), .ref (b20 2), .ref (b20 3), .ref (b20 4)])), (b20 0, .inl (cI, 3, .inl (fun _ => 0))), (b20 1, .inl (cI, 3, .inl (fun _ => 0))), (b20 2, .inl (cZ, 3, .inl (fun _ => 0))), (b20 3, .inl (cI, 3, .inl (fun _ => 0))), (b20 4, .inl (cI, 3, .inl (fun _ => 0))), (q27, .inr (0, [.ref (b31 0), .ref (b31 1), .ref (b31 2), .ref (b31 3), .int 0])), (b31 0, .inl (cI, 20, .inl (fun _ => 0))), (b31 1, .inl (cI, 20, .inl (fun _ => 0))), (b31 2, .inl (cI, 20, .inl (fun _ => 0))), (b31 3, .inl (cI, 20, .inl (fun _ => 0))), (q38, .inr (1, [.ref (b42 0), .ref (b42 1), .ref (b42 2), .int 0, .int 0, .int 0, .int 0, .int 0])), (b42 0, .inl (cI, 4, .inl (fun _ => 0))), (b42 1, .inl (cI, 4, .inl (fun _ => 0))), (b42 2, .inl (cZ, 4, .inl (fun _ => 0)))] H := hP
  have hD : va_D A [(h0, .inr (4, [.ref q5, .ref q16, .ref q27, .ref q38, .int 0, .int 0, .int 0, .int 0, .int 0, .int 0, .int 0, .int 0, .int 0, .int 0])), (q5, .inr (2, [.ref (b9 0), .ref (b9 1)])), (b9 0, .inl (cI, 4, .inl (fun _ => 0))), (b9 1, .inl (cI, 4, .inl (fun _ => 0))), (q16, .inr (3, [.ref (b20 0), .ref (b20 1), .ref (b20 2), .ref (b20 3), .ref (b20 4)])), (b20 0, .inl (cI, 3, .inl (fun _ => 0))), (b20 1, .inl (cI, 3, .inl (fun _ => 0))), (b20 2, .inl (cZ, 3, .inl (fun _ => 0))), (b20 3, .inl (cI, 3, .inl (fun _ => 0))), (b20 4, .inl (cI, 3, .inl (fun _ => 0))), (q27, .inr (0, [.ref (b31 0), .ref (b31 1), .ref (b31 2), .ref (b31 3), .int 0])), (b31 0, .inl (cI, 20, .inl (fun _ => 0))), (b31 1, .inl (cI, 20, .inl (fun _ => 0))), (b31 2, .inl (cI, 20, .inl (fun _ => 0))), (b31 3, .inl (cI, 20, .inl (fun _ => 0))), (q38, .inr (1, [.ref (b42 0), .ref (b42 1), .ref (b42 2), .int 0, .int 0, .int 0, .int 0, .int 0])), (b42 0, .inl (cI, 4, .inl (fun _ => 0))), (b42 1, .inl (cI, 4, .inl (fun _ => 0))), (b42 2, .inl (cZ, 4, .inl (fun _ => 0)))] := hD
  refine lv_aload_n hx hb dX4_init_48 rfl (lv_at hl 0 rfl) ?_
  refine lv_iconst (v := (-1)) hx hb dX4_init_49 (by decide) ?_
  refine va_put (D := D) (ci := 4) (v := .int (-1)) (ty := .int) (C := RX4) (T := TX4) (N := 14) hx hb hts hiX4 tyX4 tyX4_ok nmX4 hown hK hP hD hS 0 rfl rfl 7 (by decide) hw20 (fun _ h9 => h9) rfl (by decide +kernel) rfl rfl (Nat.le_of_ble_eq_true rfl) dX4_init_50 (fun H locs hP hD hS => ?_)
  have hP : va_P D vwCl [(h0, .inr (4, [.ref q5, .ref q16, .ref q27, .ref q38, .int 0, .int 0, .int 0, .int (-1), .int 0, .int 0, .int 0, .int 0, .int 0, .int 0])), (q5, .inr (2, [.ref (b9 0), .ref (b9 1)])), (b9 0, .inl (cI, 4, .inl (fun _ => 0))), (b9 1, .inl (cI, 4, .inl (fun _ => 0))), (q16, .inr (3, [.ref (b20 0), .ref (b20 1), .ref (b20 2), .ref (b20 3), .ref (b20 4)])), (b20 0, .inl (cI, 3, .inl (fun _ => 0))), (b20 1, .inl (cI, 3, .inl (fun _ => 0))), (b20 2, .inl (cZ, 3, .inl (fun _ => 0))), (b20 3, .inl (cI, 3, .inl (fun _ => 0))), (b20 4, .inl (cI, 3, .inl (fun _ => 0))), (q27, .inr (0, [.ref (b31 0), .ref (b31 1), .ref (b31 2), .ref (b31 3), .int 0])), (b31 0, .inl (cI, 20, .inl (fun _ => 0))), (b31 1, .inl (cI, 20, .inl (fun _ => 0))), (b31 2, .inl (cI, 20, .inl (fun _ => 0))), (b31 3, .inl (cI, 20, .inl (fun _ => 0))), (q38, .inr (1, [.ref (b42 0), .ref (b42 1), .ref (b42 2), .int 0, .int 0, .int 0, .int 0, .int 0])), (b42 0, .inl (cI, 4, .inl (fun _ => 0))), (b42 1, .inl (cI, 4, .inl (fun _ => 0))), (b42 2, .inl (cZ, 4, .inl (fun _ => 0)))] H := hP
  have hD : va_D A [(h0, .inr (4, [.ref q5, .ref q16, .ref q27, .ref q38, .int 0, .int 0, .int 0, .int (-1), .int 0, .int 0, .int 0, .int 0, .int 0, .int 0])), (q5, .inr (2, [.ref (b9 0), .ref (b9 1)])), (b9 0, .inl (cI, 4, .inl (fun _ => 0))), (b9 1, .inl (cI, 4, .inl (fun _ => 0))), (q16, .inr (3, [.ref (b20 0), .ref (b20 1), .ref (b20 2), .ref (b20 3), .ref (b20 4)])), (b20 0, .inl (cI, 3, .inl (fun _ => 0))), (b20 1, .inl (cI, 3, .inl (fun _ => 0))), (b20 2, .inl (cZ, 3, .inl (fun _ => 0))), (b20 3, .inl (cI, 3, .inl (fun _ => 0))), (b20 4, .inl (cI, 3, .inl (fun _ => 0))), (q27, .inr (0, [.ref (b31 0), .ref (b31 1), .ref (b31 2), .ref (b31 3), .int 0])), (b31 0, .inl (cI, 20, .inl (fun _ => 0))), (b31 1, .inl (cI, 20, .inl (fun _ => 0))), (b31 2, .inl (cI, 20, .inl (fun _ => 0))), (b31 3, .inl (cI, 20, .inl (fun _ => 0))), (q38, .inr (1, [.ref (b42 0), .ref (b42 1), .ref (b42 2), .int 0, .int 0, .int 0, .int 0, .int 0])), (b42 0, .inl (cI, 4, .inl (fun _ => 0))), (b42 1, .inl (cI, 4, .inl (fun _ => 0))), (b42 2, .inl (cZ, 4, .inl (fun _ => 0)))] := hD
  refine lv_aload_n hx hb dX4_init_53 rfl (lv_at hl 0 rfl) ?_
  refine lv_iconst (v := (-1)) hx hb dX4_init_54 (by decide) ?_
  refine va_put (D := D) (ci := 4) (v := .int (-1)) (ty := .int) (C := RX4) (T := TX4) (N := 14) hx hb hts hiX4 tyX4 tyX4_ok nmX4 hown hK hP hD hS 0 rfl rfl 8 (by decide) hw21 (fun _ h9 => h9) rfl (by decide +kernel) rfl rfl (Nat.le_of_ble_eq_true rfl) dX4_init_55 (fun H locs hP hD hS => ?_)
  have hP : va_P D vwCl [(h0, .inr (4, [.ref q5, .ref q16, .ref q27, .ref q38, .int 0, .int 0, .int 0, .int (-1), .int (-1), .int 0, .int 0, .int 0, .int 0, .int 0])), (q5, .inr (2, [.ref (b9 0), .ref (b9 1)])), (b9 0, .inl (cI, 4, .inl (fun _ => 0))), (b9 1, .inl (cI, 4, .inl (fun _ => 0))), (q16, .inr (3, [.ref (b20 0), .ref (b20 1), .ref (b20 2), .ref (b20 3), .ref (b20 4)])), (b20 0, .inl (cI, 3, .inl (fun _ => 0))), (b20 1, .inl (cI, 3, .inl (fun _ => 0))), (b20 2, .inl (cZ, 3, .inl (fun _ => 0))), (b20 3, .inl (cI, 3, .inl (fun _ => 0))), (b20 4, .inl (cI, 3, .inl (fun _ => 0))), (q27, .inr (0, [.ref (b31 0), .ref (b31 1), .ref (b31 2), .ref (b31 3), .int 0])), (b31 0, .inl (cI, 20, .inl (fun _ => 0))), (b31 1, .inl (cI, 20, .inl (fun _ => 0))), (b31 2, .inl (cI, 20, .inl (fun _ => 0))), (b31 3, .inl (cI, 20, .inl (fun _ => 0))), (q38, .inr (1, [.ref (b42 0), .ref (b42 1), .ref (b42 2), .int 0, .int 0, .int 0, .int 0, .int 0])), (b42 0, .inl (cI, 4, .inl (fun _ => 0))), (b42 1, .inl (cI, 4, .inl (fun _ => 0))), (b42 2, .inl (cZ, 4, .inl (fun _ => 0)))] H := hP
  have hD : va_D A [(h0, .inr (4, [.ref q5, .ref q16, .ref q27, .ref q38, .int 0, .int 0, .int 0, .int (-1), .int (-1), .int 0, .int 0, .int 0, .int 0, .int 0])), (q5, .inr (2, [.ref (b9 0), .ref (b9 1)])), (b9 0, .inl (cI, 4, .inl (fun _ => 0))), (b9 1, .inl (cI, 4, .inl (fun _ => 0))), (q16, .inr (3, [.ref (b20 0), .ref (b20 1), .ref (b20 2), .ref (b20 3), .ref (b20 4)])), (b20 0, .inl (cI, 3, .inl (fun _ => 0))), (b20 1, .inl (cI, 3, .inl (fun _ => 0))), (b20 2, .inl (cZ, 3, .inl (fun _ => 0))), (b20 3, .inl (cI, 3, .inl (fun _ => 0))), (b20 4, .inl (cI, 3, .inl (fun _ => 0))), (q27, .inr (0, [.ref (b31 0), .ref (b31 1), .ref (b31 2), .ref (b31 3), .int 0])), (b31 0, .inl (cI, 20, .inl (fun _ => 0))), (b31 1, .inl (cI, 20, .inl (fun _ => 0))), (b31 2, .inl (cI, 20, .inl (fun _ => 0))), (b31 3, .inl (cI, 20, .inl (fun _ => 0))), (q38, .inr (1, [.ref (b42 0), .ref (b42 1), .ref (b42 2), .int 0, .int 0, .int 0, .int 0, .int 0])), (b42 0, .inl (cI, 4, .inl (fun _ => 0))), (b42 1, .inl (cI, 4, .inl (fun _ => 0))), (b42 2, .inl (cZ, 4, .inl (fun _ => 0)))] := hD
  have hP9 := hP.sub (ws' := (pg_wB cI cZ (fun k => ([h0, q5, q16, q27, q38, b9 0, b9 1, b20 0, b20 1, b20 2, b20 3, b20 4, b31 0, b31 1, b31 2, b31 3, b42 0, b42 1, b42 2] : List Nat).getD k 0) (upd (upd (fun _ => 0) 3 (-1)) 4 (-1), fun _ _ => 0))) [0, 1, 4, 10, 15, 2, 3, 5, 6, 7, 8, 9, 11, 12, 13, 14, 16, 17, 18] rfl
  have hD9 := hD.sub (ws' := (pg_wB cI cZ (fun k => ([h0, q5, q16, q27, q38, b9 0, b9 1, b20 0, b20 1, b20 2, b20 3, b20 4, b31 0, b31 1, b31 2, b31 3, b42 0, b42 1, b42 2] : List Nat).getD k 0) (upd (upd (fun _ => 0) 3 (-1)) 4 (-1), fun _ _ => 0))) [0, 1, 4, 10, 15, 2, 3, 5, 6, 7, 8, 9, 11, 12, 13, 14, 16, 17, 18] (by decide) rfl
  exact W.vret hx hb hr (fun t9 ht9 hW9 => ⟨⟨(fun k => ([h0, q5, q16, q27, q38, b9 0, b9 1, b20 0, b20 1, b20 2, b20 3, b20 4, b31 0, b31 1, b31 2, b31 3, b42 0, b42 1, b42 2] : List Nat).getD k 0), rfl, rfl, by rw [ht9]; exact hP9, va_K.moved hW9.alike hK, hD9⟩, hS.F ht9⟩) hS.2.2 dX4_init_58