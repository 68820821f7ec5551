abbrev pg_tyL (cI cZ cL : ClassId) : List (ClassId × FieldType) := [(cI, .int), (cZ, .boolean), (cL, .long)]
set_option maxHeartbeats 4000000 in
set_option maxRecDepth 100000 in
theorem cw_setPrice_ok (l : Launch) (D : va_G) (cI cZ cL : ClassId) (a : Nat → Nat) (o : Nat) (sz : Nat) (u : pg_St) (f : Nat → Int64) (x y1 z : Int32) (hthr : pg_t_setPrice (!pg_eq (u.1 3) (-1)) x y1 z = 0) : Met l yL_setPrice wsL_setPrice ({ frames := 2, cells := 0, slots := 0, locals := 45 }) (va_Pc [.ref (a 0), .int x, .int y1, .int z] (pg_B D (pg_tyL cI cZ cL) (pg_wB cI cZ a u ++ [(o, .inl (cL, 1, .inr (.inl f)))]) sz)) (va_Qi (fun r z9 => r = 0 ∧ z9 = ((upd (upd (upd u.1 0 x) 1 y1) 2 z, u.2), f)) (pg_E D (pg_tyL cI cZ cL) (va_A (pg_wB cI cZ a u ++ [(o, .inl (cL, 1, .inr (.inl f)))]) sz) (fun z9 : pg_St × (Nat → Int64) => pg_wB cI cZ a z9.1 ++ [(o, .inl (cL, 1, .inr (.inl z9.2)))])) (va_A (pg_wB cI cZ a u ++ [(o, .inl (cL, 1, .inr (.inl f)))]) sz)) 0 0 (va_A (pg_wB cI cZ a u ++ [(o, .inl (cL, 1, .inr (.inl f)))]) sz) := by
  refine pg_ofWH (cc := cL_setPrice) (maxL := 5) (ret := (some .int)) (by decide) rfl ?_
  intro p e s m args below meth c s₁ B hml hv
  obtain ⟨rfl, hsz, hP, hK, hD0⟩ := hv
  have hx := B.exec
  have hb := B.bytes
  have hr := B.returns
  have hts := atoms_spec (ws := wsL_setPrice) B.pre
  have hown : s.vm.findClass RL = some m.cls := findClass_of_methodNamed B.named
  have hlocks := B.notSynchronized
  subst hsz
  have hD := hD0.self (sz := s.heap.size)
  generalize hAe : va_A (pg_wB cI cZ a u ++ [(o, .inl (cL, 1, .inr (.inl f)))]) s.heap.size = A at hD ⊢
  have hA : ∀ q : Nat, s.heap.size ≤ q → A q := fun q h => by rw [← hAe]; exact Or.inr h
  have hS : va_S A s.heap s.heap [] := va_S.rf
  have hl := lv_entry ([.ref (a 0), .int x, .int y1, .int z]) (n := 5) (Nat.le_of_ble_eq_true rfl)
  rw [lg_entry_eq]
  generalize (lg_sl ([.ref (a 0), .int x, .int y1, .int z]) ++ List.replicate (5 - (lg_sl ([.ref (a 0), .int x, .int y1, .int z])).length) Slot.unset).toArray = ls at hl ⊢
  have hl : lv_has ls 5 [(0, .ref (a 0)), (1, .int x), (2, .int y1), (3, .int z)] := hl
  refine lv_aload_n hx hb dL_setPrice_0 rfl (lv_at hl 0 rfl) ?_
  refine lv_iload_n hx hb dL_setPrice_1 rfl (lv_at hl 1 rfl) ?_
  refine lv_iload_n hx hb dL_setPrice_2 rfl (lv_at hl 2 rfl) ?_
  refine lv_iload_n hx hb dL_setPrice_3 rfl (lv_at hl 3 rfl) ?_
  refine pg_vL (pg_rV (As := [.int x, .int y1, .int z]) (rest := []) ⟨hx, hb, hml, hown, hts⟩ (cc_setPrice_ok l D cI cZ a s.heap.size u x y1 z hthr) (cwV 3 hts gL_setPrice_X4_setPrice rfl rfl rfl (by decide +kernel) ⟨Nat.le_of_ble_eq_true rfl, Nat.le_of_ble_eq_true rfl⟩) (hK.sub [0, 1] rfl) (pg_PL hP) (pg_DL hD) 0 (ci := 4) rfl rfl rfl rfl hl.1 rfl (Nat.le_of_ble_eq_true rfl) dL_setPrice_4 ⟨Nat.le_of_ble_eq_true rfl, Nat.le_of_ble_eq_true rfl⟩) hP hD hS hA (fun H locs hP hD hS => ?_)
  have hP : va_P D vwCl (pg_wB cI cZ a (upd (upd (upd u.1 0 x) 1 y1) 2 z, u.2) ++ [(o, .inl (cL, 1, .inr (.inl f)))]) H := hP
  have hD : va_D A (pg_wB cI cZ a (upd (upd (upd u.1 0 x) 1 y1) 2 z, u.2) ++ [(o, .inl (cL, 1, .inr (.inl f)))]) := hD
  refine lv_goto (tgt := 18) hx hb dL_setPrice_7 (by decide) ?_
  refine lv_iconst (v := 0) hx hb dL_setPrice_18 (by decide) ?_
  exact W.iret (v := 0) hx hb hr (fun t9 ht9 hW9 => ⟨⟨0, ((upd (upd (upd u.1 0 x) 1 y1) 2 z, u.2), f), rfl, ⟨rfl, rfl⟩, by rw [ht9]; exact hP, va_K.moved hW9.alike hK, hD⟩, hS.F ht9⟩) hS.2.2 dL_setPrice_19
set_option maxHeartbeats 4000000 in
set_option maxRecDepth 100000 in
theorem cw_setPrice_1 (l : Launch) (hfl : l.stackTraces = false) (D : va_G) (cI cZ cL : ClassId) (a : Nat → Nat) (o : Nat) (sz : Nat) (u : pg_St) (f : Nat → Int64) (x y1 z : Int32) (hthr : pg_t_setPrice (!pg_eq (u.1 3) (-1)) x y1 z = 1) : Met l yL_setPrice wsL_setPrice ({ frames := 8, cells := 1, slots := 6, locals := 131 }) (va_Pc [.ref (a 0), .int x, .int y1, .int z] (pg_T D (pg_tyL cI cZ cL) (pg_wB cI cZ a u ++ [(o, .inl (cL, 1, .inr (.inl f)))]) sz)) (va_Qi (fun r z9 => r = 1 ∧ z9 = (u, f)) (pg_E D (pg_tyL cI cZ cL) (va_A (pg_wB cI cZ a u ++ [(o, .inl (cL, 1, .inr (.inl f)))]) sz) (fun z9 : pg_St × (Nat → Int64) => pg_wB cI cZ a z9.1 ++ [(o, .inl (cL, 1, .inr (.inl z9.2)))])) (va_A (pg_wB cI cZ a u ++ [(o, .inl (cL, 1, .inr (.inl f)))]) sz)) 1 6 (va_A (pg_wB cI cZ a u ++ [(o, .inl (cL, 1, .inr (.inl f)))]) sz) := by
  refine pg_ofWH (cc := cL_setPrice) (maxL := 5) (ret := (some .int)) (by decide) rfl ?_
  intro p e s m args below meth c s₁ B hml hv
  obtain ⟨rfl, ⟨hsz, hP, hK, hD0⟩, hE⟩ := hv
  have hx := B.exec
  have hb := B.bytes
  have hr := B.returns
  have hts := atoms_spec (ws := wsL_setPrice) B.pre
  have hown : s.vm.findClass RL = some m.cls := findClass_of_methodNamed B.named
  have hlocks := B.notSynchronized
  subst hsz
  have hD := hD0.self (sz := s.heap.size)
  generalize hAe : va_A (pg_wB cI cZ a u ++ [(o, .inl (cL, 1, .inr (.inl f)))]) s.heap.size = A at hD hE ⊢
  have hA : ∀ q : Nat, s.heap.size ≤ q → A q := fun q h => by rw [← hAe]; exact Or.inr h
  have hS : va_S A s.heap s.heap [] := va_S.rf
  have hl := lv_entry ([.ref (a 0), .int x, .int y1, .int z]) (n := 5) (Nat.le_of_ble_eq_true rfl)
  rw [lg_entry_eq]
  generalize (lg_sl ([.ref (a 0), .int x, .int y1, .int z]) ++ List.replicate (5 - (lg_sl ([.ref (a 0), .int x, .int y1, .int z])).length) Slot.unset).toArray = ls at hl ⊢
  have hl : lv_has ls 5 [(0, .ref (a 0)), (1, .int x), (2, .int y1), (3, .int z)] := hl
  have htab := vx_table (x := yL_setPrice) B (hts _ List.mem_cons_self)
  obtain ⟨-, -, hE3, hE4, -⟩ := id hE
  have hw1 := hts (.classLink RL 13 "java/lang/IllegalArgumentException") (List.mem_of_getElem? (i := 1) rfl)
  refine lv_aload_n hx hb dL_setPrice_0 rfl (lv_at hl 0 rfl) ?_
  refine lv_iload_n hx hb dL_setPrice_1 rfl (lv_at hl 1 rfl) ?_
  refine lv_iload_n hx hb dL_setPrice_2 rfl (lv_at hl 2 rfl) ?_
  refine lv_iload_n hx hb dL_setPrice_3 rfl (lv_at hl 3 rfl) ?_
  refine pg_catL (pg_xV (As := [.int x, .int y1, .int z]) (rest := []) ⟨hx, hb, hml, hown, hts⟩ (cc_setPrice_no l hfl D cI cZ a s.heap.size u x y1 z 1 pg_ia hthr (by decide) (fun _ => rfl) (fun h9 => absurd h9 (by decide))) (cwV 3 hts gL_setPrice_X4_setPrice rfl rfl rfl (by decide +kernel) ⟨Nat.le_of_ble_eq_true rfl, Nat.le_of_ble_eq_true rfl⟩) (hK.sub [0, 1] rfl) (pg_PL hP) (pg_DL hD) hS hA hE 0 (ci := 4) rfl rfl rfl rfl hl.1 rfl (Nat.le_of_ble_eq_true rfl) dL_setPrice_4 ⟨Nat.le_of_ble_eq_true rfl, Nat.le_of_ble_eq_true rfl⟩) hP hD hS hA (fun ce q9 H locs hP hS hce hcv hcl => ?_)
  refine vx_catch (own := RL) (name := pg_ia) hown [] ⟨0, 7, 10, 13⟩ [⟨0, 7, 14, 15⟩] (by rw [htab]; rfl) (fun _ h9 => nomatch h9) (by decide) (by decide) hw1 (va_Nw.use rfl (hE3 (Cond.castable pg_ia pg_ia) (List.mem_of_getElem? (i := 0) rfl))) hce hcv hcl ?_
  refine W.widen (k := 1) (n := 6) (Nat.le_of_ble_eq_true rfl) (Nat.le_of_ble_eq_true rfl) ?_
  refine W.eq (g2 := F0 m 10 ls [.ref q9]) rfl ?_
  refine lv_astore (lv' := [(4, .ref q9), (0, .ref (a 0)), (1, .int x), (2, .int y1), (3, .int z)]) hx hb dL_setPrice_10 hl (by decide) rfl (fun ls hl => ?_)
  refine lv_iconst (v := 1) hx hb dL_setPrice_12 (by decide) ?_
  exact W.iret (v := 1) hx hb hr (fun t9 ht9 hW9 => ⟨⟨1, (u, f), rfl, ⟨rfl, rfl⟩, by rw [ht9]; exact hP, va_K.moved hW9.alike hK, hD⟩, hS.F ht9⟩) hS.2.2 dL_setPrice_13
set_option maxHeartbeats 4000000 in
set_option maxRecDepth 100000 in
theorem cw_setPrice_2 (l : Launch) (hfl : l.stackTraces = false) (D : va_G) (cI cZ cL : ClassId) (a : Nat → Nat) (o : Nat) (sz : Nat) (u : pg_St) (f : Nat → Int64) (x y1 z : Int32) (hthr : pg_t_setPrice (!pg_eq (u.1 3) (-1)) x y1 z = 2) : Met l yL_setPrice wsL_setPrice ({ frames := 8, cells := 1, slots := 6, locals := 131 }) (va_Pc [.ref (a 0), .int x, .int y1, .int z] (pg_T D (pg_tyL cI cZ cL) (pg_wB cI cZ a u ++ [(o, .inl (cL, 1, .inr (.inl f)))]) sz)) (va_Qi (fun r z9 => r = 2 ∧ z9 = (u, f)) (pg_E D (pg_tyL cI cZ cL) (va_A (pg_wB cI cZ a u ++ [(o, .inl (cL, 1, .inr (.inl f)))]) sz) (fun z9 : pg_St × (Nat → Int64) => pg_wB cI cZ a z9.1 ++ [(o, .inl (cL, 1, .inr (.inl z9.2)))])) (va_A (pg_wB cI cZ a u ++ [(o, .inl (cL, 1, .inr (.inl f)))]) sz)) 1 6 (va_A (pg_wB cI cZ a u ++ [(o, .inl (cL, 1, .inr (.inl f)))]) sz) := by
  refine pg_ofWH (cc := cL_setPrice) (maxL := 5) (ret := (some .int)) (by decide) rfl ?_
  intro p e s m args below meth c s₁ B hml hv
  obtain ⟨rfl, ⟨hsz, hP, hK, hD0⟩, hE⟩ := hv
  have hx := B.exec
  have hb := B.bytes
  have hr := B.returns
  have hts := atoms_spec (ws := wsL_setPrice) B.pre
  have hown : s.vm.findClass RL = some m.cls := findClass_of_methodNamed B.named
  have hlocks := B.notSynchronized
  subst hsz
  have hD := hD0.self (sz := s.heap.size)
  generalize hAe : va_A (pg_wB cI cZ a u ++ [(o, .inl (cL, 1, .inr (.inl f)))]) s.heap.size = A at hD hE ⊢
  have hA : ∀ q : Nat, s.heap.size ≤ q → A q := fun q h => by rw [← hAe]; exact Or.inr h
  have hS : va_S A s.heap s.heap [] := va_S.rf
  have hl := lv_entry ([.ref (a 0), .int x, .int y1, .int z]) (n := 5) (Nat.le_of_ble_eq_true rfl)
  rw [lg_entry_eq]
  generalize (lg_sl ([.ref (a 0), .int x, .int y1, .int z]) ++ List.replicate (5 - (lg_sl ([.ref (a 0), .int x, .int y1, .int z])).length) Slot.unset).toArray = ls at hl ⊢
  have hl : lv_has ls 5 [(0, .ref (a 0)), (1, .int x), (2, .int y1), (3, .int z)] := hl
  have htab := vx_table (x := yL_setPrice) B (hts _ List.mem_cons_self)
  obtain ⟨-, -, hE3, hE4, -⟩ := id hE
  have hw1 := hts (.classLink RL 13 "java/lang/IllegalArgumentException") (List.mem_of_getElem? (i := 1) rfl)
  have hw2 := hts (.classLink RL 15 "java/lang/IllegalStateException") (List.mem_of_getElem? (i := 2) rfl)
  refine lv_aload_n hx hb dL_setPrice_0 rfl (lv_at hl 0 rfl) ?_
  refine lv_iload_n hx hb dL_setPrice_1 rfl (lv_at hl 1 rfl) ?_
  refine lv_iload_n hx hb dL_setPrice_2 rfl (lv_at hl 2 rfl) ?_
  refine lv_iload_n hx hb dL_setPrice_3 rfl (lv_at hl 3 rfl) ?_
  refine pg_catL (pg_xV (As := [.int x, .int y1, .int z]) (rest := []) ⟨hx, hb, hml, hown, hts⟩ (cc_setPrice_no l hfl D cI cZ a s.heap.size u x y1 z 2 pg_is hthr (by decide) (fun h9 => absurd h9 (by decide)) (fun _ => rfl)) (cwV 3 hts gL_setPrice_X4_setPrice rfl rfl rfl (by decide +kernel) ⟨Nat.le_of_ble_eq_true rfl, Nat.le_of_ble_eq_true rfl⟩) (hK.sub [0, 1] rfl) (pg_PL hP) (pg_DL hD) hS hA hE 0 (ci := 4) rfl rfl rfl rfl hl.1 rfl (Nat.le_of_ble_eq_true rfl) dL_setPrice_4 ⟨Nat.le_of_ble_eq_true rfl, Nat.le_of_ble_eq_true rfl⟩) hP hD hS hA (fun ce q9 H locs hP hS hce hcv hcl => ?_)
  refine vx_catch (own := RL) (name := pg_is) hown [⟨0, 7, 10, 13⟩] ⟨0, 7, 14, 15⟩ [] (by rw [htab]; rfl) (fun z9 h9 => by rw [List.mem_singleton.mp h9]; exact Or.inr ⟨by decide, "java/lang/IllegalArgumentException", hw1, hE4 (pg_is, pg_ia) (List.mem_of_getElem? (i := 2) rfl)⟩) (by decide) (by decide) hw2 (va_Nw.use rfl (hE3 (Cond.castable pg_is pg_is) (List.mem_of_getElem? (i := 1) rfl))) hce hcv hcl ?_
  refine W.widen (k := 1) (n := 6) (Nat.le_of_ble_eq_true rfl) (Nat.le_of_ble_eq_true rfl) ?_
  refine W.eq (g2 := F0 m 14 ls [.ref q9]) rfl ?_
  refine lv_astore (lv' := [(4, .ref q9), (0, .ref (a 0)), (1, .int x), (2, .int y1), (3, .int z)]) hx hb dL_setPrice_14 hl (by decide) rfl (fun ls hl => ?_)
  refine lv_iconst (v := 2) hx hb dL_setPrice_16 (by decide) ?_
  exact W.iret (v := 2) hx hb hr (fun t9 ht9 hW9 => ⟨⟨2, (u, f), rfl, ⟨rfl, rfl⟩, by rw [ht9]; exact hP, va_K.moved hW9.alike hK, hD⟩, hS.F ht9⟩) hS.2.2 dL_setPrice_17
set_option maxHeartbeats 4000000 in
set_option maxRecDepth 100000 in
theorem cw_setPart_ok (l : Launch) (D : va_G) (cI cZ cL : ClassId) (a : Nat → Nat) (o : Nat) (sz : Nat) (u : pg_St) (f : Nat → Int64) (k x d : Int32) (hthr : pg_t_setPart (!pg_eq (u.1 3) (-1)) k x d = 0) : Met l yL_setPart wsL_setPart ({ frames := 2, cells := 0, slots := 0, locals := 45 }) (va_Pc [.ref (a 0), .int k, .int x, .int d] (pg_B D (pg_tyL cI cZ cL) (pg_wB cI cZ a u ++ [(o, .inl (cL, 1, .inr (.inl f)))]) sz)) (va_Qi (fun r z9 => r = 0 ∧ z9 = ((u.1, pg_row (pg_row u.2 0 (upd (u.2 0) k.toNatClampNeg x)) 1 (upd (u.2 1) k.toNatClampNeg d)), f)) (pg_E D (pg_tyL cI cZ cL) (va_A (pg_wB cI cZ a u ++ [(o, .inl (cL, 1, .inr (.inl f)))]) sz) (fun z9 : pg_St × (Nat → Int64) => pg_wB cI cZ a z9.1 ++ [(o, .inl (cL, 1, .inr (.inl z9.2)))])) (va_A (pg_wB cI cZ a u ++ [(o, .inl (cL, 1, .inr (.inl f)))]) sz)) 0 0 (va_A (pg_wB cI cZ a u ++ [(o, .inl (cL, 1, .inr (.inl f)))]) sz) := by
  refine pg_ofWH (cc := cL_setPart) (maxL := 5) (ret := (some .int)) (by decide) rfl ?_
  intro p e s m args below meth c s₁ B hml hv
  obtain ⟨rfl, hsz, hP, hK, hD0⟩ := hv
  have hx := B.exec
  have hb := B.bytes
  have hr := B.returns
  have hts := atoms_spec (ws := wsL_setPart) B.pre
  have hown : s.vm.findClass RL = some m.cls := findClass_of_methodNamed B.named
  have hlocks := B.notSynchronized
  subst hsz
  have hD := hD0.self (sz := s.heap.size)
  generalize hAe : va_A (pg_wB cI cZ a u ++ [(o, .inl (cL, 1, .inr (.inl f)))]) s.heap.size = A at hD ⊢
  have hA : ∀ q : Nat, s.heap.size ≤ q → A q := fun q h => by rw [← hAe]; exact Or.inr h
  have hS : va_S A s.heap s.heap [] := va_S.rf
  have hl := lv_entry ([.ref (a 0), .int k, .int x, .int d]) (n := 5) (Nat.le_of_ble_eq_true rfl)
  rw [lg_entry_eq]
  generalize (lg_sl ([.ref (a 0), .int k, .int x, .int d]) ++ List.replicate (5 - (lg_sl ([.ref (a 0), .int k, .int x, .int d])).length) Slot.unset).toArray = ls at hl ⊢
  have hl : lv_has ls 5 [(0, .ref (a 0)), (1, .int k), (2, .int x), (3, .int d)] := hl
  refine lv_aload_n hx hb dL_setPart_0 rfl (lv_at hl 0 rfl) ?_
  refine lv_iload_n hx hb dL_setPart_1 rfl (lv_at hl 1 rfl) ?_
  refine lv_iload_n hx hb dL_setPart_2 rfl (lv_at hl 2 rfl) ?_
  refine lv_iload_n hx hb dL_setPart_3 rfl (lv_at hl 3 rfl) ?_
  refine pg_vL (pg_rV (As := [.int k, .int x, .int d]) (rest := []) ⟨hx, hb, hml, hown, hts⟩ (cc_setPart_ok l D cI cZ a s.heap.size u k x d hthr) (cwV 3 hts gL_setPart_X4_setPart rfl rfl rfl (by decide +kernel) ⟨Nat.le_of_ble_eq_true rfl, Nat.le_of_ble_eq_true rfl⟩) (hK.sub [0, 1] rfl) (pg_PL hP) (pg_DL hD) 0 (ci := 4) rfl rfl rfl rfl hl.1 rfl (Nat.le_of_ble_eq_true rfl) dL_setPart_4 ⟨Nat.le_of_ble_eq_true rfl, Nat.le_of_ble_eq_true rfl⟩) hP hD hS hA (fun H locs hP hD hS => ?_)
  have hP : va_P D vwCl (pg_wB cI cZ a (u.1, pg_row (pg_row u.2 0 (upd (u.2 0) k.toNatClampNeg x)) 1 (upd (u.2 1) k.toNatClampNeg d)) ++ [(o, .inl (cL, 1, .inr (.inl f)))]) H := hP
  have hD : va_D A (pg_wB cI cZ a (u.1, pg_row (pg_row u.2 0 (upd (u.2 0) k.toNatClampNeg x)) 1 (upd (u.2 1) k.toNatClampNeg d)) ++ [(o, .inl (cL, 1, .inr (.inl f)))]) := hD
  refine lv_goto (tgt := 22) hx hb dL_setPart_7 (by decide) ?_
  refine lv_iconst (v := 0) hx hb dL_setPart_22 (by decide) ?_
  exact W.iret (v := 0) hx hb hr (fun t9 ht9 hW9 => ⟨⟨0, ((u.1, pg_row (pg_row u.2 0 (upd (u.2 0) k.toNatClampNeg x)) 1 (upd (u.2 1) k.toNatClampNeg d)), f), rfl, ⟨rfl, rfl⟩, by rw [ht9]; exact hP, va_K.moved hW9.alike hK, hD⟩, hS.F ht9⟩) hS.2.2 dL_setPart_23
set_option maxHeartbeats 4000000 in
set_option maxRecDepth 100000 in
theorem cw_setPart_1 (l : Launch) (hfl : l.stackTraces = false) (D : va_G) (cI cZ cL : ClassId) (a : Nat → Nat) (o : Nat) (sz : Nat) (u : pg_St) (f : Nat → Int64) (k x d : Int32) (hthr : pg_t_setPart (!pg_eq (u.1 3) (-1)) k x d = 1) : Met l yL_setPart wsL_setPart ({ frames := 8, cells := 1, slots := 6, locals := 131 }) (va_Pc [.ref (a 0), .int k, .int x, .int d] (pg_T D (pg_tyL cI cZ cL) (pg_wB cI cZ a u ++ [(o, .inl (cL, 1, .inr (.inl f)))]) sz)) (va_Qi (fun r z9 => r = 1 ∧ z9 = (u, f)) (pg_E D (pg_tyL cI cZ cL) (va_A (pg_wB cI cZ a u ++ [(o, .inl (cL, 1, .inr (.inl f)))]) sz) (fun z9 : pg_St × (Nat → Int64) => pg_wB cI cZ a z9.1 ++ [(o, .inl (cL, 1, .inr (.inl z9.2)))])) (va_A (pg_wB cI cZ a u ++ [(o, .inl (cL, 1, .inr (.inl f)))]) sz)) 1 6 (va_A (pg_wB cI cZ a u ++ [(o, .inl (cL, 1, .inr (.inl f)))]) sz) := by
  refine pg_ofWH (cc := cL_setPart) (maxL := 5) (ret := (some .int)) (by decide) rfl ?_
  intro p e s m args below meth c s₁ B hml hv
  obtain ⟨rfl, ⟨hsz, hP, hK, hD0⟩, hE⟩ := hv
  have hx := B.exec
  have hb := B.bytes
  have hr := B.returns
  have hts := atoms_spec (ws := wsL_setPart) B.pre
  have hown : s.vm.findClass RL = some m.cls := findClass_of_methodNamed B.named
  have hlocks := B.notSynchronized
  subst hsz
  have hD := hD0.self (sz := s.heap.size)
  generalize hAe : va_A (pg_wB cI cZ a u ++ [(o, .inl (cL, 1, .inr (.inl f)))]) s.heap.size = A at hD hE ⊢
  have hA : ∀ q : Nat, s.heap.size ≤ q → A q := fun q h => by rw [← hAe]; exact Or.inr h
  have hS : va_S A s.heap s.heap [] := va_S.rf
  have hl := lv_entry ([.ref (a 0), .int k, .int x, .int d]) (n := 5) (Nat.le_of_ble_eq_true rfl)
  rw [lg_entry_eq]
  generalize (lg_sl ([.ref (a 0), .int k, .int x, .int d]) ++ List.replicate (5 - (lg_sl ([.ref (a 0), .int k, .int x, .int d])).length) Slot.unset).toArray = ls at hl ⊢
  have hl : lv_has ls 5 [(0, .ref (a 0)), (1, .int k), (2, .int x), (3, .int d)] := hl
  have htab := vx_table (x := yL_setPart) B (hts _ List.mem_cons_self)
  obtain ⟨-, -, hE3, hE4, -⟩ := id hE
  have hw1 := hts (.classLink RL 20 "java/lang/IndexOutOfBoundsException") (List.mem_of_getElem? (i := 1) rfl)
  refine lv_aload_n hx hb dL_setPart_0 rfl (lv_at hl 0 rfl) ?_
  refine lv_iload_n hx hb dL_setPart_1 rfl (lv_at hl 1 rfl) ?_
  refine lv_iload_n hx hb dL_setPart_2 rfl (lv_at hl 2 rfl) ?_
  refine lv_iload_n hx hb dL_setPart_3 rfl (lv_at hl 3 rfl) ?_
  refine pg_catL (pg_xV (As := [.int k, .int x, .int d]) (rest := []) ⟨hx, hb, hml, hown, hts⟩ (cc_setPart_no l hfl D cI cZ a s.heap.size u k x d 1 pg_io hthr (by decide) (fun _ => rfl) (fun h9 => absurd h9 (by decide)) (fun h9 => absurd h9 (by decide))) (cwV 3 hts gL_setPart_X4_setPart rfl rfl rfl (by decide +kernel) ⟨Nat.le_of_ble_eq_true rfl, Nat.le_of_ble_eq_true rfl⟩) (hK.sub [0, 1] rfl) (pg_PL hP) (pg_DL hD) hS hA hE 0 (ci := 4) rfl rfl rfl rfl hl.1 rfl (Nat.le_of_ble_eq_true rfl) dL_setPart_4 ⟨Nat.le_of_ble_eq_true rfl, Nat.le_of_ble_eq_true rfl⟩) hP hD hS hA (fun ce q9 H locs hP hS hce hcv hcl => ?_)
  refine vx_catch (own := RL) (name := pg_io) hown [] ⟨0, 7, 10, 20⟩ [⟨0, 7, 14, 13⟩, ⟨0, 7, 18, 15⟩] (by rw [htab]; rfl) (fun _ h9 => nomatch h9) (by decide) (by decide) hw1 (va_Nw.use rfl (hE3 (Cond.castable pg_io pg_io) (List.mem_of_getElem? (i := 2) rfl))) hce hcv hcl ?_
  refine W.widen (k := 1) (n := 6) (Nat.le_of_ble_eq_true rfl) (Nat.le_of_ble_eq_true rfl) ?_
  refine W.eq (g2 := F0 m 10 ls [.ref q9]) rfl ?_
  refine lv_astore (lv' := [(4, .ref q9), (0, .ref (a 0)), (1, .int k), (2, .int x), (3, .int d)]) hx hb dL_setPart_10 hl (by decide) rfl (fun ls hl => ?_)
  refine lv_iconst (v := 1) hx hb dL_setPart_12 (by decide) ?_
  exact W.iret (v := 1) hx hb hr (fun t9 ht9 hW9 => ⟨⟨1, (u, f), rfl, ⟨rfl, rfl⟩, by rw [ht9]; exact hP, va_K.moved hW9.alike hK, hD⟩, hS.F ht9⟩) hS.2.2 dL_setPart_13
set_option maxHeartbeats 4000000 in
set_option maxRecDepth 100000 in
theorem cw_setPart_2 (l : Launch) (hfl : l.stackTraces = false) (D : va_G) (cI cZ cL : ClassId) (a : Nat → Nat) (o : Nat) (sz : Nat) (u : pg_St) (f : Nat → Int64) (k x d : Int32) (hthr : pg_t_setPart (!pg_eq (u.1 3) (-1)) k x d = 2) : Met l yL_setPart wsL_setPart ({ frames := 8, cells := 1, slots := 6, locals := 131 }) (va_Pc [.ref (a 0), .int k, .int x, .int d] (pg_T D (pg_tyL cI cZ cL) (pg_wB cI cZ a u ++ [(o, .inl (cL, 1, .inr (.inl f)))]) sz)) (va_Qi (fun r z9 => r = 2 ∧ z9 = (u, f)) (pg_E D (pg_tyL cI cZ cL) (va_A (pg_wB cI cZ a u ++ [(o, .inl (cL, 1, .inr (.inl f)))]) sz) (fun z9 : pg_St × (Nat → Int64) => pg_wB cI cZ a z9.1 ++ [(o, .inl (cL, 1, .inr (.inl z9.2)))])) (va_A (pg_wB cI cZ a u ++ [(o, .inl (cL, 1, .inr (.inl f)))]) sz)) 1 6 (va_A (pg_wB cI cZ a u ++ [(o, .inl (cL, 1, .inr (.inl f)))]) sz) := by
  refine pg_ofWH (cc := cL_setPart) (maxL := 5) (ret := (some .int)) (by decide) rfl ?_
  intro p e s m args below meth c s₁ B hml hv
  obtain ⟨rfl, ⟨hsz, hP, hK, hD0⟩, hE⟩ := hv
  have hx := B.exec
  have hb := B.bytes
  have hr := B.returns
  have hts := atoms_spec (ws := wsL_setPart) B.pre
  have hown : s.vm.findClass RL = some m.cls := findClass_of_methodNamed B.named
  have hlocks := B.notSynchronized
  subst hsz
  have hD := hD0.self (sz := s.heap.size)
  generalize hAe : va_A (pg_wB cI cZ a u ++ [(o, .inl (cL, 1, .inr (.inl f)))]) s.heap.size = A at hD hE ⊢
  have hA : ∀ q : Nat, s.heap.size ≤ q → A q := fun q h => by rw [← hAe]; exact Or.inr h
  have hS : va_S A s.heap s.heap [] := va_S.rf
  have hl := lv_entry ([.ref (a 0), .int k, .int x, .int d]) (n := 5) (Nat.le_of_ble_eq_true rfl)
  rw [lg_entry_eq]
  generalize (lg_sl ([.ref (a 0), .int k, .int x, .int d]) ++ List.replicate (5 - (lg_sl ([.ref (a 0), .int k, .int x, .int d])).length) Slot.unset).toArray = ls at hl ⊢
  have hl : lv_has ls 5 [(0, .ref (a 0)), (1, .int k), (2, .int x), (3, .int d)] := hl
  have htab := vx_table (x := yL_setPart) B (hts _ List.mem_cons_self)
  obtain ⟨-, -, hE3, hE4, -⟩ := id hE
  have hw1 := hts (.classLink RL 20 "java/lang/IndexOutOfBoundsException") (List.mem_of_getElem? (i := 1) rfl)
  have hw2 := hts (.classLink RL 13 "java/lang/IllegalArgumentException") (List.mem_of_getElem? (i := 2) rfl)
  refine lv_aload_n hx hb dL_setPart_0 rfl (lv_at hl 0 rfl) ?_
  refine lv_iload_n hx hb dL_setPart_1 rfl (lv_at hl 1 rfl) ?_
  refine lv_iload_n hx hb dL_setPart_2 rfl (lv_at hl 2 rfl) ?_
  refine lv_iload_n hx hb dL_setPart_3 rfl (lv_at hl 3 rfl) ?_
  refine pg_catL (pg_xV (As := [.int k, .int x, .int d]) (rest := []) ⟨hx, hb, hml, hown, hts⟩ (cc_setPart_no l hfl D cI cZ a s.heap.size u k x d 2 pg_ia hthr (by decide) (fun h9 => absurd h9 (by decide)) (fun _ => rfl) (fun h9 => absurd h9 (by decide))) (cwV 3 hts gL_setPart_X4_setPart rfl rfl rfl (by decide +kernel) ⟨Nat.le_of_ble_eq_true rfl, Nat.le_of_ble_eq_true rfl⟩) (hK.sub [0, 1] rfl) (pg_PL hP) (pg_DL hD) hS hA hE 0 (ci := 4) rfl rfl rfl rfl hl.1 rfl (Nat.le_of_ble_eq_true rfl) dL_setPart_4 ⟨Nat.le_of_ble_eq_true rfl, Nat.le_of_ble_eq_true rfl⟩) hP hD hS hA (fun ce q9 H locs hP hS hce hcv hcl => ?_)
  refine vx_catch (own := RL) (name := pg_ia) hown [⟨0, 7, 10, 20⟩] ⟨0, 7, 14, 13⟩ [⟨0, 7, 18, 15⟩] (by rw [htab]; rfl) (fun z9 h9 => by rw [List.mem_singleton.mp h9]; exact Or.inr ⟨by decide, "java/lang/IndexOutOfBoundsException", hw1, hE4 (pg_ia, pg_io) (List.mem_of_getElem? (i := 1) rfl)⟩) (by decide) (by decide) hw2 (va_Nw.use rfl (hE3 (Cond.castable pg_ia pg_ia) (List.mem_of_getElem? (i := 0) rfl))) hce hcv hcl ?_
  refine W.widen (k := 1) (n := 6) (Nat.le_of_ble_eq_true rfl) (Nat.le_of_ble_eq_true rfl) ?_
  refine W.eq (g2 := F0 m 14 ls [.ref q9]) rfl ?_
  refine lv_astore (lv' := [(4, .ref q9), (0, .ref (a 0)), (1, .int k), (2, .int x), (3, .int d)]) hx hb dL_setPart_14 hl (by decide) rfl (fun ls hl => ?_)
  refine lv_iconst (v := 2) hx hb dL_setPart_16 (by decide) ?_
  exact W.iret (v := 2) hx hb hr (fun t9 ht9 hW9 => ⟨⟨2, (u, f), rfl, ⟨rfl, rfl⟩, by rw [ht9]; exact hP, va_K.moved hW9.alike hK, hD⟩, hS.F ht9⟩) hS.2.2 dL_setPart_17
set_option maxHeartbeats 4000000 in
set_option maxRecDepth 100000 in
theorem cw_setPart_3 (l : Launch) (hfl : l.stackTraces = false) (D : va_G) (cI cZ cL : ClassId) (a : Nat → Nat) (o : Nat) (sz : Nat) (u : pg_St) (f : Nat → Int64) (k x d : Int32) (hthr : pg_t_setPart (!pg_eq (u.1 3) (-1)) k x d = 3) : Met l yL_setPart wsL_setPart ({ frames := 8, cells := 1, slots := 6, locals := 131 }) (va_Pc [.ref (a 0), .int k, .int x, .int d] (pg_T D (pg_tyL cI cZ cL) (pg_wB cI cZ a u ++ [(o, .inl (cL, 1, .inr (.inl f)))]) sz)) (va_Qi (fun r z9 => r = 3 ∧ z9 = (u, f)) (pg_E D (pg_tyL cI cZ cL) (va_A (pg_wB cI cZ a u ++ [(o, .inl (cL, 1, .inr (.inl f)))]) sz) (fun z9 : pg_St × (Nat → Int64) => pg_wB cI cZ a z9.1 ++ [(o, .inl (cL, 1, .inr (.inl z9.2)))])) (va_A (pg_wB cI cZ a u ++ [(o, .inl (cL, 1, .inr (.inl f)))]) sz)) 1 6 (va_A (pg_wB cI cZ a u ++ [(o, .inl (cL, 1, .inr (.inl f)))]) sz) := by
  refine pg_ofWH (cc := cL_setPart) (maxL := 5) (ret := (some .int)) (by decide) rfl ?_
  intro p e s m args below meth c s₁ B hml hv
  obtain ⟨rfl, ⟨hsz, hP, hK, hD0⟩, hE⟩ := hv
  have hx := B.exec
  have hb := B.bytes
  have hr := B.returns
  have hts := atoms_spec (ws := wsL_setPart) B.pre
  have hown : s.vm.findClass RL = some m.cls := findClass_of_methodNamed B.named
  have hlocks := B.notSynchronized
  subst hsz
  have hD := hD0.self (sz := s.heap.size)
  generalize hAe : va_A (pg_wB cI cZ a u ++ [(o, .inl (cL, 1, .inr (.inl f)))]) s.heap.size = A at hD hE ⊢
  have hA : ∀ q : Nat, s.heap.size ≤ q → A q := fun q h => by rw [← hAe]; exact Or.inr h
  have hS : va_S A s.heap s.heap [] := va_S.rf
  have hl := lv_entry ([.ref (a 0), .int k, .int x, .int d]) (n := 5) (Nat.le_of_ble_eq_true rfl)
  rw [lg_entry_eq]
  generalize (lg_sl ([.ref (a 0), .int k, .int x, .int d]) ++ List.replicate (5 - (lg_sl ([.ref (a 0), .int k, .int x, .int d])).length) Slot.unset).toArray = ls at hl ⊢
  have hl : lv_has ls 5 [(0, .ref (a 0)), (1, .int k), (2, .int x), (3, .int d)] := hl
  have htab := vx_table (x := yL_setPart) B (hts _ List.mem_cons_self)
  obtain ⟨-, -, hE3, hE4, -⟩ := id hE
  have hw1 := hts (.classLink RL 20 "java/lang/IndexOutOfBoundsException") (List.mem_of_getElem? (i := 1) rfl)
  have hw2 := hts (.classLink RL 13 "java/lang/IllegalArgumentException") (List.mem_of_getElem? (i := 2) rfl)
  have hw3 := hts (.classLink RL 15 "java/lang/IllegalStateException") (List.mem_of_getElem? (i := 3) rfl)
  refine lv_aload_n hx hb dL_setPart_0 rfl (lv_at hl 0 rfl) ?_
  refine lv_iload_n hx hb dL_setPart_1 rfl (lv_at hl 1 rfl) ?_
  refine lv_iload_n hx hb dL_setPart_2 rfl (lv_at hl 2 rfl) ?_
  refine lv_iload_n hx hb dL_setPart_3 rfl (lv_at hl 3 rfl) ?_
  refine pg_catL (pg_xV (As := [.int k, .int x, .int d]) (rest := []) ⟨hx, hb, hml, hown, hts⟩ (cc_setPart_no l hfl D cI cZ a s.heap.size u k x d 3 pg_is hthr (by decide) (fun h9 => absurd h9 (by decide)) (fun h9 => absurd h9 (by decide)) (fun _ => rfl)) (cwV 3 hts gL_setPart_X4_setPart rfl rfl rfl (by decide +kernel) ⟨Nat.le_of_ble_eq_true rfl, Nat.le_of_ble_eq_true rfl⟩) (hK.sub [0, 1] rfl) (pg_PL hP) (pg_DL hD) hS hA hE 0 (ci := 4) rfl rfl rfl rfl hl.1 rfl (Nat.le_of_ble_eq_true rfl) dL_setPart_4 ⟨Nat.le_of_ble_eq_true rfl, Nat.le_of_ble_eq_true rfl⟩) hP hD hS hA (fun ce q9 H locs hP hS hce hcv hcl => ?_)
  refine vx_catch (own := RL) (name := pg_is) hown [⟨0, 7, 10, 20⟩, ⟨0, 7, 14, 13⟩] ⟨0, 7, 18, 15⟩ [] (by rw [htab]; rfl) (fun z9 h9 => by rcases List.mem_cons.mp h9 with rfl | h9; exact Or.inr ⟨by decide, "java/lang/IndexOutOfBoundsException", hw1, hE4 (pg_is, pg_io) (List.mem_of_getElem? (i := 3) rfl)⟩; rw [List.mem_singleton.mp h9]; exact Or.inr ⟨by decide, "java/lang/IllegalArgumentException", hw2, hE4 (pg_is, pg_ia) (List.mem_of_getElem? (i := 2) rfl)⟩) (by decide) (by decide) hw3 (va_Nw.use rfl (hE3 (Cond.castable pg_is pg_is) (List.mem_of_getElem? (i := 1) rfl))) hce hcv hcl ?_
  refine W.widen (k := 1) (n := 6) (Nat.le_of_ble_eq_true rfl) (Nat.le_of_ble_eq_true rfl) ?_
  refine W.eq (g2 := F0 m 18 ls [.ref q9]) rfl ?_
  refine lv_astore (lv' := [(4, .ref q9), (0, .ref (a 0)), (1, .int k), (2, .int x), (3, .int d)]) hx hb dL_setPart_18 hl (by decide) rfl (fun ls hl => ?_)
  refine lv_iconst (v := 3) hx hb dL_setPart_20 (by decide) ?_
  exact W.iret (v := 3) hx hb hr (fun t9 ht9 hW9 => ⟨⟨3, (u, f), rfl, ⟨rfl, rfl⟩, by rw [ht9]; exact hP, va_K.moved hW9.alike hK, hD⟩, hS.F ht9⟩) hS.2.2 dL_setPart_21
set_option maxHeartbeats 4000000 in
set_option maxRecDepth 100000 in
theorem cw_setKind_ok (l : Launch) (D : va_G) (cI cZ cL : ClassId) (a : Nat → Nat) (o : Nat) (sz : Nat) (u : pg_St) (f : Nat → Int64) (k x y1 b z d : Int32) (hb9 : vp_nar .boolean b = b) (hthr : pg_t_setKind (!pg_eq (u.1 3) (-1)) k x y1 z d = 0) : Met l yL_setKind wsL_setKind ({ frames := 2, cells := 0, slots := 0, locals := 48 }) (va_Pc [.ref (a 0), .int k, .int x, .int y1, .int b, .int z, .int d] (pg_B D (pg_tyL cI cZ cL) (pg_wB cI cZ a u ++ [(o, .inl (cL, 1, .inr (.inl f)))]) sz)) (va_Qi (fun r z9 => r = 0 ∧ z9 = ((u.1, pg_row (pg_row (pg_row (pg_row (pg_row u.2 2 (upd (u.2 2) k.toNatClampNeg x)) 3 (upd (u.2 3) k.toNatClampNeg y1)) 4 (upd (u.2 4) k.toNatClampNeg b)) 5 (upd (u.2 5) k.toNatClampNeg z)) 6 (upd (u.2 6) k.toNatClampNeg d)), f)) (pg_E D (pg_tyL cI cZ cL) (va_A (pg_wB cI cZ a u ++ [(o, .inl (cL, 1, .inr (.inl f)))]) sz) (fun z9 : pg_St × (Nat → Int64) => pg_wB cI cZ a z9.1 ++ [(o, .inl (cL, 1, .inr (.inl z9.2)))])) (va_A (pg_wB cI cZ a u ++ [(o, .inl (cL, 1, .inr (.inl f)))]) sz)) 0 0 (va_A (pg_wB cI cZ a u ++ [(o, .inl (cL, 1, .inr (.inl f)))]) sz) := by
  refine pg_ofWH (cc := cL_setKind) (maxL := 8) (ret := (some .int)) (by decide) rfl ?_
  intro p e s m args below meth c s₁ B hml hv
  obtain ⟨rfl, hsz, hP, hK, hD0⟩ := hv
  have hx := B.exec
  have hb := B.bytes
  have hr := B.returns
  have hts := atoms_spec (ws := wsL_setKind) B.pre
  have hown : s.vm.findClass RL = some m.cls := findClass_of_methodNamed B.named
  have hlocks := B.notSynchronized
  subst hsz
  have hD := hD0.self (sz := s.heap.size)
  generalize hAe : va_A (pg_wB cI cZ a u ++ [(o, .inl (cL, 1, .inr (.inl f)))]) s.heap.size = A at hD ⊢
  have hA : ∀ q : Nat, s.heap.size ≤ q → A q := fun q h => by rw [← hAe]; exact Or.inr h
  have hS : va_S A s.heap s.heap [] := va_S.rf
  have hl := lv_entry ([.ref (a 0), .int k, .int x, .int y1, .int b, .int z, .int d]) (n := 8) (Nat.le_of_ble_eq_true rfl)
  rw [lg_entry_eq]
  generalize (lg_sl ([.ref (a 0), .int k, .int x, .int y1, .int b, .int z, .int d]) ++ List.replicate (8 - (lg_sl ([.ref (a 0), .int k, .int x, .int y1, .int b, .int z, .int d])).length) Slot.unset).toArray = ls at hl ⊢
  have hl : lv_has ls 8 [(0, .ref (a 0)), (1, .int k), (2, .int x), (3, .int y1), (4, .int b), (5, .int z), (6, .int d)] := hl
  refine lv_aload_n hx hb dL_setKind_0 rfl (lv_at hl 0 rfl) ?_
  refine lv_iload_n hx hb dL_setKind_1 rfl (lv_at hl 1 rfl) ?_
  refine lv_iload_n hx hb dL_setKind_2 rfl (lv_at hl 2 rfl) ?_
  refine lv_iload_n hx hb dL_setKind_3 rfl (lv_at hl 3 rfl) ?_
  refine lv_iload hx hb dL_setKind_4 (lv_at hl 4 rfl) ?_
  refine lv_iload hx hb dL_setKind_6 (lv_at hl 5 rfl) ?_
  refine lv_iload hx hb dL_setKind_8 (lv_at hl 6 rfl) ?_
  refine pg_vL (pg_rV (As := [.int k, .int x, .int y1, .int b, .int z, .int d]) (rest := []) ⟨hx, hb, hml, hown, hts⟩ (cc_setKind_ok l D cI cZ a s.heap.size u k x y1 b z d hb9 hthr) (cwV 6 hts gL_setKind_X4_setKind rfl rfl rfl (by decide +kernel) ⟨Nat.le_of_ble_eq_true rfl, Nat.le_of_ble_eq_true rfl⟩) (hK.sub [0, 1] rfl) (pg_PL hP) (pg_DL hD) 0 (ci := 4) rfl rfl rfl rfl hl.1 rfl (Nat.le_of_ble_eq_true rfl) dL_setKind_10 ⟨Nat.le_of_ble_eq_true rfl, Nat.le_of_ble_eq_true rfl⟩) hP hD hS hA (fun H locs hP hD hS => ?_)
  have hP : va_P D vwCl (pg_wB cI cZ a (u.1, pg_row (pg_row (pg_row (pg_row (pg_row u.2 2 (upd (u.2 2) k.toNatClampNeg x)) 3 (upd (u.2 3) k.toNatClampNeg y1)) 4 (upd (u.2 4) k.toNatClampNeg b)) 5 (upd (u.2 5) k.toNatClampNeg z)) 6 (upd (u.2 6) k.toNatClampNeg d)) ++ [(o, .inl (cL, 1, .inr (.inl f)))]) H := hP
  have hD : va_D A (pg_wB cI cZ a (u.1, pg_row (pg_row (pg_row (pg_row (pg_row u.2 2 (upd (u.2 2) k.toNatClampNeg x)) 3 (upd (u.2 3) k.toNatClampNeg y1)) 4 (upd (u.2 4) k.toNatClampNeg b)) 5 (upd (u.2 5) k.toNatClampNeg z)) 6 (upd (u.2 6) k.toNatClampNeg d)) ++ [(o, .inl (cL, 1, .inr (.inl f)))]) := hD
  refine lv_goto (tgt := 28) hx hb dL_setKind_13 (by decide) ?_
  refine lv_iconst (v := 0) hx hb dL_setKind_28 (by decide) ?_
  exact W.iret (v := 0) hx hb hr (fun t9 ht9 hW9 => ⟨⟨0, ((u.1, pg_row (pg_row (pg_row (pg_row (pg_row u.2 2 (upd (u.2 2) k.toNatClampNeg x)) 3 (upd (u.2 3) k.toNatClampNeg y1)) 4 (upd (u.2 4) k.toNatClampNeg b)) 5 (upd (u.2 5) k.toNatClampNeg z)) 6 (upd (u.2 6) k.toNatClampNeg d)), f), rfl, ⟨rfl, rfl⟩, by rw [ht9]; exact hP, va_K.moved hW9.alike hK, hD⟩, hS.F ht9⟩) hS.2.2 dL_setKind_29
set_option maxHeartbeats 4000000 in
set_option maxRecDepth 100000 in
theorem cw_setKind_1 (l : Launch) (hfl : l.stackTraces = false) (D : va_G) (cI cZ cL : ClassId) (a : Nat → Nat) (o : Nat) (sz : Nat) (u : pg_St) (f : Nat → Int64) (k x y1 b z d : Int32) (hb9 : vp_nar .boolean b = b) (hthr : pg_t_setKind (!pg_eq (u.1 3) (-1)) k x y1 z d = 1) : Met l yL_setKind wsL_setKind ({ frames := 8, cells := 1, slots := 6, locals := 134 }) (va_Pc [.ref (a 0), .int k, .int x, .int y1, .int b, .int z, .int d] (pg_T D (pg_tyL cI cZ cL) (pg_wB cI cZ a u ++ [(o, .inl (cL, 1, .inr (.inl f)))]) sz)) (va_Qi (fun r z9 => r = 1 ∧ z9 = (u, f)) (pg_E D (pg_tyL cI cZ cL) (va_A (pg_wB cI cZ a u ++ [(o, .inl (cL, 1, .inr (.inl f)))]) sz) (fun z9 : pg_St × (Nat → Int64) => pg_wB cI cZ a z9.1 ++ [(o, .inl (cL, 1, .inr (.inl z9.2)))])) (va_A (pg_wB cI cZ a u ++ [(o, .inl (cL, 1, .inr (.inl f)))]) sz)) 1 6 (va_A (pg_wB cI cZ a u ++ [(o, .inl (cL, 1, .inr (.inl f)))]) sz) := by
  refine pg_ofWH (cc := cL_setKind) (maxL := 8) (ret := (some .int)) (by decide) rfl ?_
  intro p e s m args below meth c s₁ B hml hv
  obtain ⟨rfl, ⟨hsz, hP, hK, hD0⟩, hE⟩ := hv
  have hx := B.exec
  have hb := B.bytes
  have hr := B.returns
  have hts := atoms_spec (ws := wsL_setKind) B.pre
  have hown : s.vm.findClass RL = some m.cls := findClass_of_methodNamed B.named
  have hlocks := B.notSynchronized
  subst hsz
  have hD := hD0.self (sz := s.heap.size)
  generalize hAe : va_A (pg_wB cI cZ a u ++ [(o, .inl (cL, 1, .inr (.inl f)))]) s.heap.size = A at hD hE ⊢
  have hA : ∀ q : Nat, s.heap.size ≤ q → A q := fun q h => by rw [← hAe]; exact Or.inr h
  have hS : va_S A s.heap s.heap [] := va_S.rf
  have hl := lv_entry ([.ref (a 0), .int k, .int x, .int y1, .int b, .int z, .int d]) (n := 8) (Nat.le_of_ble_eq_true rfl)
  rw [lg_entry_eq]
  generalize (lg_sl ([.ref (a 0), .int k, .int x, .int y1, .int b, .int z, .int d]) ++ List.replicate (8 - (lg_sl ([.ref (a 0), .int k, .int x, .int y1, .int b, .int z, .int d])).length) Slot.unset).toArray = ls at hl ⊢
  have hl : lv_has ls 8 [(0, .ref (a 0)), (1, .int k), (2, .int x), (3, .int y1), (4, .int b), (5, .int z), (6, .int d)] := hl
  have htab := vx_table (x := yL_setKind) B (hts _ List.mem_cons_self)
  obtain ⟨-, -, hE3, hE4, -⟩ := id hE
  have hw1 := hts (.classLink RL 20 "java/lang/IndexOutOfBoundsException") (List.mem_of_getElem? (i := 1) rfl)
  refine lv_aload_n hx hb dL_setKind_0 rfl (lv_at hl 0 rfl) ?_
  refine lv_iload_n hx hb dL_setKind_1 rfl (lv_at hl 1 rfl) ?_
  refine lv_iload_n hx hb dL_setKind_2 rfl (lv_at hl 2 rfl) ?_
  refine lv_iload_n hx hb dL_setKind_3 rfl (lv_at hl 3 rfl) ?_
  refine lv_iload hx hb dL_setKind_4 (lv_at hl 4 rfl) ?_
  refine lv_iload hx hb dL_setKind_6 (lv_at hl 5 rfl) ?_
  refine lv_iload hx hb dL_setKind_8 (lv_at hl 6 rfl) ?_
  refine pg_catL (pg_xV (As := [.int k, .int x, .int y1, .int b, .int z, .int d]) (rest := []) ⟨hx, hb, hml, hown, hts⟩ (cc_setKind_no l hfl D cI cZ a s.heap.size u k x y1 b z d hb9 1 pg_io hthr (by decide) (fun _ => rfl) (fun h9 => absurd h9 (by decide)) (fun h9 => absurd h9 (by decide))) (cwV 6 hts gL_setKind_X4_setKind rfl rfl rfl (by decide +kernel) ⟨Nat.le_of_ble_eq_true rfl, Nat.le_of_ble_eq_true rfl⟩) (hK.sub [0, 1] rfl) (pg_PL hP) (pg_DL hD) hS hA hE 0 (ci := 4) rfl rfl rfl rfl hl.1 rfl (Nat.le_of_ble_eq_true rfl) dL_setKind_10 ⟨Nat.le_of_ble_eq_true rfl, Nat.le_of_ble_eq_true rfl⟩) hP hD hS hA (fun ce q9 H locs hP hS hce hcv hcl => ?_)
  refine vx_catch (own := RL) (name := pg_io) hown [] ⟨0, 13, 16, 20⟩ [⟨0, 13, 20, 13⟩, ⟨0, 13, 24, 15⟩] (by rw [htab]; rfl) (fun _ h9 => nomatch h9) (by decide) (by decide) hw1 (va_Nw.use rfl (hE3 (Cond.castable pg_io pg_io) (List.mem_of_getElem? (i := 2) rfl))) hce hcv hcl ?_
  refine W.widen (k := 1) (n := 6) (Nat.le_of_ble_eq_true rfl) (Nat.le_of_ble_eq_true rfl) ?_
  refine W.eq (g2 := F0 m 16 ls [.ref q9]) rfl ?_
  refine lv_astore (lv' := [(7, .ref q9), (0, .ref (a 0)), (1, .int k), (2, .int x), (3, .int y1), (4, .int b), (5, .int z), (6, .int d)]) hx hb dL_setKind_16 hl (by decide) rfl (fun ls hl => ?_)
  refine lv_iconst (v := 1) hx hb dL_setKind_18 (by decide) ?_
  exact W.iret (v := 1) hx hb hr (fun t9 ht9 hW9 => ⟨⟨1, (u, f), rfl, ⟨rfl, rfl⟩, by rw [ht9]; exact hP, va_K.moved hW9.alike hK, hD⟩, hS.F ht9⟩) hS.2.2 dL_setKind_19
set_option maxHeartbeats 4000000 in
set_option maxRecDepth 100000 in
theorem cw_setKind_2 (l : Launch) (hfl : l.stackTraces = false) (D : va_G) (cI cZ cL : ClassId) (a : Nat → Nat) (o : Nat) (sz : Nat) (u : pg_St) (f : Nat → Int64) (k x y1 b z d : Int32) (hb9 : vp_nar .boolean b = b) (hthr : pg_t_setKind (!pg_eq (u.1 3) (-1)) k x y1 z d = 2) : Met l yL_setKind wsL_setKind ({ frames := 8, cells := 1, slots := 6, locals := 134 }) (va_Pc [.ref (a 0), .int k, .int x, .int y1, .int b, .int z, .int d] (pg_T D (pg_tyL cI cZ cL) (pg_wB cI cZ a u ++ [(o, .inl (cL, 1, .inr (.inl f)))]) sz)) (va_Qi (fun r z9 => r = 2 ∧ z9 = (u, f)) (pg_E D (pg_tyL cI cZ cL) (va_A (pg_wB cI cZ a u ++ [(o, .inl (cL, 1, .inr (.inl f)))]) sz) (fun z9 : pg_St × (Nat → Int64) => pg_wB cI cZ a z9.1 ++ [(o, .inl (cL, 1, .inr (.inl z9.2)))])) (va_A (pg_wB cI cZ a u ++ [(o, .inl (cL, 1, .inr (.inl f)))]) sz)) 1 6 (va_A (pg_wB cI cZ a u ++ [(o, .inl (cL, 1, .inr (.inl f)))]) sz) := by
  refine pg_ofWH (cc := cL_setKind) (maxL := 8) (ret := (some .int)) (by decide) rfl ?_
  intro p e s m args below meth c s₁ B hml hv
  obtain ⟨rfl, ⟨hsz, hP, hK, hD0⟩, hE⟩ := hv
  have hx := B.exec
  have hb := B.bytes
  have hr := B.returns
  have hts := atoms_spec (ws := wsL_setKind) B.pre
  have hown : s.vm.findClass RL = some m.cls := findClass_of_methodNamed B.named
  have hlocks := B.notSynchronized
  subst hsz
  have hD := hD0.self (sz := s.heap.size)
  generalize hAe : va_A (pg_wB cI cZ a u ++ [(o, .inl (cL, 1, .inr (.inl f)))]) s.heap.size = A at hD hE ⊢
  have hA : ∀ q : Nat, s.heap.size ≤ q → A q := fun q h => by rw [← hAe]; exact Or.inr h
  have hS : va_S A s.heap s.heap [] := va_S.rf
  have hl := lv_entry ([.ref (a 0), .int k, .int x, .int y1, .int b, .int z, .int d]) (n := 8) (Nat.le_of_ble_eq_true rfl)
  rw [lg_entry_eq]
  generalize (lg_sl ([.ref (a 0), .int k, .int x, .int y1, .int b, .int z, .int d]) ++ List.replicate (8 - (lg_sl ([.ref (a 0), .int k, .int x, .int y1, .int b, .int z, .int d])).length) Slot.unset).toArray = ls at hl ⊢
  have hl : lv_has ls 8 [(0, .ref (a 0)), (1, .int k), (2, .int x), (3, .int y1), (4, .int b), (5, .int z), (6, .int d)] := hl
  have htab := vx_table (x := yL_setKind) B (hts _ List.mem_cons_self)
  obtain ⟨-, -, hE3, hE4, -⟩ := id hE
  have hw1 := hts (.classLink RL 20 "java/lang/IndexOutOfBoundsException") (List.mem_of_getElem? (i := 1) rfl)
  have hw2 := hts (.classLink RL 13 "java/lang/IllegalArgumentException") (List.mem_of_getElem? (i := 2) rfl)
  refine lv_aload_n hx hb dL_setKind_0 rfl (lv_at hl 0 rfl) ?_
  refine lv_iload_n hx hb dL_setKind_1 rfl (lv_at hl 1 rfl) ?_
  refine lv_iload_n hx hb dL_setKind_2 rfl (lv_at hl 2 rfl) ?_
  refine lv_iload_n hx hb dL_setKind_3 rfl (lv_at hl 3 rfl) ?_
  refine lv_iload hx hb dL_setKind_4 (lv_at hl 4 rfl) ?_
  refine lv_iload hx hb dL_setKind_6 (lv_at hl 5 rfl) ?_
  refine lv_iload hx hb dL_setKind_8 (lv_at hl 6 rfl) ?_
  refine pg_catL (pg_xV (As := [.int k, .int x, .int y1, .int b, .int z, .int d]) (rest := []) ⟨hx, hb, hml, hown, hts⟩ (cc_setKind_no l hfl D cI cZ a s.heap.size u k x y1 b z d hb9 2 pg_ia hthr (by decide) (fun h9 => absurd h9 (by decide)) (fun _ => rfl) (fun h9 => absurd h9 (by decide))) (cwV 6 hts gL_setKind_X4_setKind rfl rfl rfl (by decide +kernel) ⟨Nat.le_of_ble_eq_true rfl, Nat.le_of_ble_eq_true rfl⟩) (hK.sub [0, 1] rfl) (pg_PL hP) (pg_DL hD) hS hA hE 0 (ci := 4) rfl rfl rfl rfl hl.1 rfl (Nat.le_of_ble_eq_true rfl) dL_setKind_10 ⟨Nat.le_of_ble_eq_true rfl, Nat.le_of_ble_eq_true rfl⟩) hP hD hS hA (fun ce q9 H locs hP hS hce hcv hcl => ?_)
  refine vx_catch (own := RL) (name := pg_ia) hown [⟨0, 13, 16, 20⟩] ⟨0, 13, 20, 13⟩ [⟨0, 13, 24, 15⟩] (by rw [htab]; rfl) (fun z9 h9 => by rw [List.mem_singleton.mp h9]; exact Or.inr ⟨by decide, "java/lang/IndexOutOfBoundsException", hw1, hE4 (pg_ia, pg_io) (List.mem_of_getElem? (i := 1) rfl)⟩) (by decide) (by decide) hw2 (va_Nw.use rfl (hE3 (Cond.castable pg_ia pg_ia) (List.mem_of_getElem? (i := 0) rfl))) hce hcv hcl ?_
  refine W.widen (k := 1) (n := 6) (Nat.le_of_ble_eq_true rfl) (Nat.le_of_ble_eq_true rfl) ?_
  refine W.eq (g2 := F0 m 20 ls [.ref q9]) rfl ?_
  refine lv_astore (lv' := [(7, .ref q9), (0, .ref (a 0)), (1, .int k), (2, .int x), (3, .int y1), (4, .int b), (5, .int z), (6, .int d)]) hx hb dL_setKind_20 hl (by decide) rfl (fun ls hl => ?_)
  refine lv_iconst (v := 2) hx hb dL_setKind_22 (by decide) ?_
  exact W.iret (v := 2) hx hb hr (fun t9 ht9 hW9 => ⟨⟨2, (u, f), rfl, ⟨rfl, rfl⟩, by rw [ht9]; exact hP, va_K.moved hW9.alike hK, hD⟩, hS.F ht9⟩) hS.2.2 dL_setKind_23
set_option maxHeartbeats 4000000 in
set_option maxRecDepth 100000 in
theorem cw_setKind_3 (l : Launch) (hfl : l.stackTraces = false) (D : va_G) (cI cZ cL : ClassId) (a : Nat → Nat) (o : Nat) (sz : Nat) (u : pg_St) (f : Nat → Int64) (k x y1 b z d : Int32) (hb9 : vp_nar .boolean b = b) (hthr : pg_t_setKind (!pg_eq (u.1 3) (-1)) k x y1 z d = 3) : Met l yL_setKind wsL_setKind ({ frames := 8, cells := 1, slots := 6, locals := 134 }) (va_Pc [.ref (a 0), .int k, .int x, .int y1, .int b, .int z, .int d] (pg_T D (pg_tyL cI cZ cL) (pg_wB cI cZ a u ++ [(o, .inl (cL, 1, .inr (.inl f)))]) sz)) (va_Qi (fun r z9 => r = 3 ∧ z9 = (u, f)) (pg_E D (pg_tyL cI cZ cL) (va_A (pg_wB cI cZ a u ++ [(o, .inl (cL, 1, .inr (.inl f)))]) sz) (fun z9 : pg_St × (Nat → Int64) => pg_wB cI cZ a z9.1 ++ [(o, .inl (cL, 1, .inr (.inl z9.2)))])) (va_A (pg_wB cI cZ a u ++ [(o, .inl (cL, 1, .inr (.inl f)))]) sz)) 1 6 (va_A (pg_wB cI cZ a u ++ [(o, .inl (cL, 1, .inr (.inl f)))]) sz) := by
  refine pg_ofWH (cc := cL_setKind) (maxL := 8) (ret := (some .int)) (by decide) rfl ?_
  intro p e s m args below meth c s₁ B hml hv
  obtain ⟨rfl, ⟨hsz, hP, hK, hD0⟩, hE⟩ := hv
  have hx := B.exec
  have hb := B.bytes
  have hr := B.returns
  have hts := atoms_spec (ws := wsL_setKind) B.pre
  have hown : s.vm.findClass RL = some m.cls := findClass_of_methodNamed B.named
  have hlocks := B.notSynchronized
  subst hsz
  have hD := hD0.self (sz := s.heap.size)
  generalize hAe : va_A (pg_wB cI cZ a u ++ [(o, .inl (cL, 1, .inr (.inl f)))]) s.heap.size = A at hD hE ⊢
  have hA : ∀ q : Nat, s.heap.size ≤ q → A q := fun q h => by rw [← hAe]; exact Or.inr h
  have hS : va_S A s.heap s.heap [] := va_S.rf
  have hl := lv_entry ([.ref (a 0), .int k, .int x, .int y1, .int b, .int z, .int d]) (n := 8) (Nat.le_of_ble_eq_true rfl)
  rw [lg_entry_eq]
  generalize (lg_sl ([.ref (a 0), .int k, .int x, .int y1, .int b, .int z, .int d]) ++ List.replicate (8 - (lg_sl ([.ref (a 0), .int k, .int x, .int y1, .int b, .int z, .int d])).length) Slot.unset).toArray = ls at hl ⊢
  have hl : lv_has ls 8 [(0, .ref (a 0)), (1, .int k), (2, .int x), (3, .int y1), (4, .int b), (5, .int z), (6, .int d)] := hl
  have htab := vx_table (x := yL_setKind) B (hts _ List.mem_cons_self)
  obtain ⟨-, -, hE3, hE4, -⟩ := id hE
  have hw1 := hts (.classLink RL 20 "java/lang/IndexOutOfBoundsException") (List.mem_of_getElem? (i := 1) rfl)
  have hw2 := hts (.classLink RL 13 "java/lang/IllegalArgumentException") (List.mem_of_getElem? (i := 2) rfl)
  have hw3 := hts (.classLink RL 15 "java/lang/IllegalStateException") (List.mem_of_getElem? (i := 3) rfl)
  refine lv_aload_n hx hb dL_setKind_0 rfl (lv_at hl 0 rfl) ?_
  refine lv_iload_n hx hb dL_setKind_1 rfl (lv_at hl 1 rfl) ?_
  refine lv_iload_n hx hb dL_setKind_2 rfl (lv_at hl 2 rfl) ?_
  refine lv_iload_n hx hb dL_setKind_3 rfl (lv_at hl 3 rfl) ?_
  refine lv_iload hx hb dL_setKind_4 (lv_at hl 4 rfl) ?_
  refine lv_iload hx hb dL_setKind_6 (lv_at hl 5 rfl) ?_
  refine lv_iload hx hb dL_setKind_8 (lv_at hl 6 rfl) ?_
  refine pg_catL (pg_xV (As := [.int k, .int x, .int y1, .int b, .int z, .int d]) (rest := []) ⟨hx, hb, hml, hown, hts⟩ (cc_setKind_no l hfl D cI cZ a s.heap.size u k x y1 b z d hb9 3 pg_is hthr (by decide) (fun h9 => absurd h9 (by decide)) (fun h9 => absurd h9 (by decide)) (fun _ => rfl)) (cwV 6 hts gL_setKind_X4_setKind rfl rfl rfl (by decide +kernel) ⟨Nat.le_of_ble_eq_true rfl, Nat.le_of_ble_eq_true rfl⟩) (hK.sub [0, 1] rfl) (pg_PL hP) (pg_DL hD) hS hA hE 0 (ci := 4) rfl rfl rfl rfl hl.1 rfl (Nat.le_of_ble_eq_true rfl) dL_setKind_10 ⟨Nat.le_of_ble_eq_true rfl, Nat.le_of_ble_eq_true rfl⟩) hP hD hS hA (fun ce q9 H locs hP hS hce hcv hcl => ?_)
  refine vx_catch (own := RL) (name := pg_is) hown [⟨0, 13, 16, 20⟩, ⟨0, 13, 20, 13⟩] ⟨0, 13, 24, 15⟩ [] (by rw [htab]; rfl) (fun z9 h9 => by rcases List.mem_cons.mp h9 with rfl | h9; exact Or.inr ⟨by decide, "java/lang/IndexOutOfBoundsException", hw1, hE4 (pg_is, pg_io) (List.mem_of_getElem? (i := 3) rfl)⟩; rw [List.mem_singleton.mp h9]; exact Or.inr ⟨by decide, "java/lang/IllegalArgumentException", hw2, hE4 (pg_is, pg_ia) (List.mem_of_getElem? (i := 2) rfl)⟩) (by decide) (by decide) hw3 (va_Nw.use rfl (hE3 (Cond.castable pg_is pg_is) (List.mem_of_getElem? (i := 1) rfl))) hce hcv hcl ?_
  refine W.widen (k := 1) (n := 6) (Nat.le_of_ble_eq_true rfl) (Nat.le_of_ble_eq_true rfl) ?_
  refine W.eq (g2 := F0 m 24 ls [.ref q9]) rfl ?_
  refine lv_astore (lv' := [(7, .ref q9), (0, .ref (a 0)), (1, .int k), (2, .int x), (3, .int y1), (4, .int b), (5, .int z), (6, .int d)]) hx hb dL_setKind_24 hl (by decide) rfl (fun ls hl => ?_)
  refine lv_iconst (v := 3) hx hb dL_setKind_26 (by decide) ?_
  exact W.iret (v := 3) hx hb hr (fun t9 ht9 hW9 => ⟨⟨3, (u, f), rfl, ⟨rfl, rfl⟩, by rw [ht9]; exact hP, va_K.moved hW9.alike hK, hD⟩, hS.F ht9⟩) hS.2.2 dL_setKind_27
set_option maxHeartbeats 4000000 in
set_option maxRecDepth 100000 in
theorem cw_setYear_ok (l : Launch) (D : va_G) (cI cZ cL : ClassId) (a : Nat → Nat) (o : Nat) (sz : Nat) (u : pg_St) (f : Nat → Int64) (k x d : Int32) (hthr : pg_t_setYear (!pg_eq (u.1 3) (-1)) k x d = 0) : Met l yL_setYear wsL_setYear ({ frames := 2, cells := 0, slots := 0, locals := 45 }) (va_Pc [.ref (a 0), .int k, .int x, .int d] (pg_B D (pg_tyL cI cZ cL) (pg_wB cI cZ a u ++ [(o, .inl (cL, 1, .inr (.inl f)))]) sz)) (va_Qi (fun r z9 => r = 0 ∧ z9 = ((u.1, pg_row (pg_row u.2 11 (upd (u.2 11) k.toNatClampNeg x)) 12 (upd (u.2 12) k.toNatClampNeg d)), f)) (pg_E D (pg_tyL cI cZ cL) (va_A (pg_wB cI cZ a u ++ [(o, .inl (cL, 1, .inr (.inl f)))]) sz) (fun z9 : pg_St × (Nat → Int64) => pg_wB cI cZ a z9.1 ++ [(o, .inl (cL, 1, .inr (.inl z9.2)))])) (va_A (pg_wB cI cZ a u ++ [(o, .inl (cL, 1, .inr (.inl f)))]) sz)) 0 0 (va_A (pg_wB cI cZ a u ++ [(o, .inl (cL, 1, .inr (.inl f)))]) sz) := by
  refine pg_ofWH (cc := cL_setYear) (maxL := 5) (ret := (some .int)) (by decide) rfl ?_
  intro p e s m args below meth c s₁ B hml hv
  obtain ⟨rfl, hsz, hP, hK, hD0⟩ := hv
  have hx := B.exec
  have hb := B.bytes
  have hr := B.returns
  have hts := atoms_spec (ws := wsL_setYear) B.pre
  have hown : s.vm.findClass RL = some m.cls := findClass_of_methodNamed B.named
  have hlocks := B.notSynchronized
  subst hsz
  have hD := hD0.self (sz := s.heap.size)
  generalize hAe : va_A (pg_wB cI cZ a u ++ [(o, .inl (cL, 1, .inr (.inl f)))]) s.heap.size = A at hD ⊢
  have hA : ∀ q : Nat, s.heap.size ≤ q → A q := fun q h => by rw [← hAe]; exact Or.inr h
  have hS : va_S A s.heap s.heap [] := va_S.rf
  have hl := lv_entry ([.ref (a 0), .int k, .int x, .int d]) (n := 5) (Nat.le_of_ble_eq_true rfl)
  rw [lg_entry_eq]
  generalize (lg_sl ([.ref (a 0), .int k, .int x, .int d]) ++ List.replicate (5 - (lg_sl ([.ref (a 0), .int k, .int x, .int d])).length) Slot.unset).toArray = ls at hl ⊢
  have hl : lv_has ls 5 [(0, .ref (a 0)), (1, .int k), (2, .int x), (3, .int d)] := hl
  refine lv_aload_n hx hb dL_setYear_0 rfl (lv_at hl 0 rfl) ?_
  refine lv_iload_n hx hb dL_setYear_1 rfl (lv_at hl 1 rfl) ?_
  refine lv_iload_n hx hb dL_setYear_2 rfl (lv_at hl 2 rfl) ?_
  refine lv_iload_n hx hb dL_setYear_3 rfl (lv_at hl 3 rfl) ?_
  refine pg_vL (pg_rV (As := [.int k, .int x, .int d]) (rest := []) ⟨hx, hb, hml, hown, hts⟩ (cc_setYear_ok l D cI cZ a s.heap.size u k x d hthr) (cwV 3 hts gL_setYear_X4_setYear rfl rfl rfl (by decide +kernel) ⟨Nat.le_of_ble_eq_true rfl, Nat.le_of_ble_eq_true rfl⟩) (hK.sub [0, 1] rfl) (pg_PL hP) (pg_DL hD) 0 (ci := 4) rfl rfl rfl rfl hl.1 rfl (Nat.le_of_ble_eq_true rfl) dL_setYear_4 ⟨Nat.le_of_ble_eq_true rfl, Nat.le_of_ble_eq_true rfl⟩) hP hD hS hA (fun H locs hP hD hS => ?_)
  have hP : va_P D vwCl (pg_wB cI cZ a (u.1, pg_row (pg_row u.2 11 (upd (u.2 11) k.toNatClampNeg x)) 12 (upd (u.2 12) k.toNatClampNeg d)) ++ [(o, .inl (cL, 1, .inr (.inl f)))]) H := hP
  have hD : va_D A (pg_wB cI cZ a (u.1, pg_row (pg_row u.2 11 (upd (u.2 11) k.toNatClampNeg x)) 12 (upd (u.2 12) k.toNatClampNeg d)) ++ [(o, .inl (cL, 1, .inr (.inl f)))]) := hD
  refine lv_goto (tgt := 22) hx hb dL_setYear_7 (by decide) ?_
  refine lv_iconst (v := 0) hx hb dL_setYear_22 (by decide) ?_
  exact W.iret (v := 0) hx hb hr (fun t9 ht9 hW9 => ⟨⟨0, ((u.1, pg_row (pg_row u.2 11 (upd (u.2 11) k.toNatClampNeg x)) 12 (upd (u.2 12) k.toNatClampNeg d)), f), rfl, ⟨rfl, rfl⟩, by rw [ht9]; exact hP, va_K.moved hW9.alike hK, hD⟩, hS.F ht9⟩) hS.2.2 dL_setYear_23
set_option maxHeartbeats 4000000 in
set_option maxRecDepth 100000 in
theorem cw_setYear_1 (l : Launch) (hfl : l.stackTraces = false) (D : va_G) (cI cZ cL : ClassId) (a : Nat → Nat) (o : Nat) (sz : Nat) (u : pg_St) (f : Nat → Int64) (k x d : Int32) (hthr : pg_t_setYear (!pg_eq (u.1 3) (-1)) k x d = 1) : Met l yL_setYear wsL_setYear ({ frames := 8, cells := 1, slots := 6, locals := 131 }) (va_Pc [.ref (a 0), .int k, .int x, .int d] (pg_T D (pg_tyL cI cZ cL) (pg_wB cI cZ a u ++ [(o, .inl (cL, 1, .inr (.inl f)))]) sz)) (va_Qi (fun r z9 => r = 1 ∧ z9 = (u, f)) (pg_E D (pg_tyL cI cZ cL) (va_A (pg_wB cI cZ a u ++ [(o, .inl (cL, 1, .inr (.inl f)))]) sz) (fun z9 : pg_St × (Nat → Int64) => pg_wB cI cZ a z9.1 ++ [(o, .inl (cL, 1, .inr (.inl z9.2)))])) (va_A (pg_wB cI cZ a u ++ [(o, .inl (cL, 1, .inr (.inl f)))]) sz)) 1 6 (va_A (pg_wB cI cZ a u ++ [(o, .inl (cL, 1, .inr (.inl f)))]) sz) := by
  refine pg_ofWH (cc := cL_setYear) (maxL := 5) (ret := (some .int)) (by decide) rfl ?_
  intro p e s m args below meth c s₁ B hml hv
  obtain ⟨rfl, ⟨hsz, hP, hK, hD0⟩, hE⟩ := hv
  have hx := B.exec
  have hb := B.bytes
  have hr := B.returns
  have hts := atoms_spec (ws := wsL_setYear) B.pre
  have hown : s.vm.findClass RL = some m.cls := findClass_of_methodNamed B.named
  have hlocks := B.notSynchronized
  subst hsz
  have hD := hD0.self (sz := s.heap.size)
  generalize hAe : va_A (pg_wB cI cZ a u ++ [(o, .inl (cL, 1, .inr (.inl f)))]) s.heap.size = A at hD hE ⊢
  have hA : ∀ q : Nat, s.heap.size ≤ q → A q := fun q h => by rw [← hAe]; exact Or.inr h
  have hS : va_S A s.heap s.heap [] := va_S.rf
  have hl := lv_entry ([.ref (a 0), .int k, .int x, .int d]) (n := 5) (Nat.le_of_ble_eq_true rfl)
  rw [lg_entry_eq]
  generalize (lg_sl ([.ref (a 0), .int k, .int x, .int d]) ++ List.replicate (5 - (lg_sl ([.ref (a 0), .int k, .int x, .int d])).length) Slot.unset).toArray = ls at hl ⊢
  have hl : lv_has ls 5 [(0, .ref (a 0)), (1, .int k), (2, .int x), (3, .int d)] := hl
  have htab := vx_table (x := yL_setYear) B (hts _ List.mem_cons_self)
  obtain ⟨-, -, hE3, hE4, -⟩ := id hE
  have hw1 := hts (.classLink RL 20 "java/lang/IndexOutOfBoundsException") (List.mem_of_getElem? (i := 1) rfl)
  refine lv_aload_n hx hb dL_setYear_0 rfl (lv_at hl 0 rfl) ?_
  refine lv_iload_n hx hb dL_setYear_1 rfl (lv_at hl 1 rfl) ?_
  refine lv_iload_n hx hb dL_setYear_2 rfl (lv_at hl 2 rfl) ?_
  refine lv_iload_n hx hb dL_setYear_3 rfl (lv_at hl 3 rfl) ?_
  refine pg_catL (pg_xV (As := [.int k, .int x, .int d]) (rest := []) ⟨hx, hb, hml, hown, hts⟩ (cc_setYear_no l hfl D cI cZ a s.heap.size u k x d 1 pg_io hthr (by decide) (fun _ => rfl) (fun h9 => absurd h9 (by decide)) (fun h9 => absurd h9 (by decide))) (cwV 3 hts gL_setYear_X4_setYear rfl rfl rfl (by decide +kernel) ⟨Nat.le_of_ble_eq_true rfl, Nat.le_of_ble_eq_true rfl⟩) (hK.sub [0, 1] rfl) (pg_PL hP) (pg_DL hD) hS hA hE 0 (ci := 4) rfl rfl rfl rfl hl.1 rfl (Nat.le_of_ble_eq_true rfl) dL_setYear_4 ⟨Nat.le_of_ble_eq_true rfl, Nat.le_of_ble_eq_true rfl⟩) hP hD hS hA (fun ce q9 H locs hP hS hce hcv hcl => ?_)
  refine vx_catch (own := RL) (name := pg_io) hown [] ⟨0, 7, 10, 20⟩ [⟨0, 7, 14, 13⟩, ⟨0, 7, 18, 15⟩] (by rw [htab]; rfl) (fun _ h9 => nomatch h9) (by decide) (by decide) hw1 (va_Nw.use rfl (hE3 (Cond.castable pg_io pg_io) (List.mem_of_getElem? (i := 2) rfl))) hce hcv hcl ?_
  refine W.widen (k := 1) (n := 6) (Nat.le_of_ble_eq_true rfl) (Nat.le_of_ble_eq_true rfl) ?_
  refine W.eq (g2 := F0 m 10 ls [.ref q9]) rfl ?_
  refine lv_astore (lv' := [(4, .ref q9), (0, .ref (a 0)), (1, .int k), (2, .int x), (3, .int d)]) hx hb dL_setYear_10 hl (by decide) rfl (fun ls hl => ?_)
  refine lv_iconst (v := 1) hx hb dL_setYear_12 (by decide) ?_
  exact W.iret (v := 1) hx hb hr (fun t9 ht9 hW9 => ⟨⟨1, (u, f), rfl, ⟨rfl, rfl⟩, by rw [ht9]; exact hP, va_K.moved hW9.alike hK, hD⟩, hS.F ht9⟩) hS.2.2 dL_setYear_13
set_option maxHeartbeats 4000000 in
set_option maxRecDepth 100000 in
theorem cw_setYear_2 (l : Launch) (hfl : l.stackTraces = false) (D : va_G) (cI cZ cL : ClassId) (a : Nat → Nat) (o : Nat) (sz : Nat) (u : pg_St) (f : Nat → Int64) (k x d : Int32) (hthr : pg_t_setYear (!pg_eq (u.1 3) (-1)) k x d = 2) : Met l yL_setYear wsL_setYear ({ frames := 8, cells := 1, slots := 6, locals := 131 }) (va_Pc [.ref (a 0), .int k, .int x, .int d] (pg_T D (pg_tyL cI cZ cL) (pg_wB cI cZ a u ++ [(o, .inl (cL, 1, .inr (.inl f)))]) sz)) (va_Qi (fun r z9 => r = 2 ∧ z9 = (u, f)) (pg_E D (pg_tyL cI cZ cL) (va_A (pg_wB cI cZ a u ++ [(o, .inl (cL, 1, .inr (.inl f)))]) sz) (fun z9 : pg_St × (Nat → Int64) => pg_wB cI cZ a z9.1 ++ [(o, .inl (cL, 1, .inr (.inl z9.2)))])) (va_A (pg_wB cI cZ a u ++ [(o, .inl (cL, 1, .inr (.inl f)))]) sz)) 1 6 (va_A (pg_wB cI cZ a u ++ [(o, .inl (cL, 1, .inr (.inl f)))]) sz) := by
  refine pg_ofWH (cc := cL_setYear) (maxL := 5) (ret := (some .int)) (by decide) rfl ?_
  intro p e s m args below meth c s₁ B hml hv
  obtain ⟨rfl, ⟨hsz, hP, hK, hD0⟩, hE⟩ := hv
  have hx := B.exec
  have hb := B.bytes
  have hr := B.returns
  have hts := atoms_spec (ws := wsL_setYear) B.pre
  have hown : s.vm.findClass RL = some m.cls := findClass_of_methodNamed B.named
  have hlocks := B.notSynchronized
  subst hsz
  have hD := hD0.self (sz := s.heap.size)
  generalize hAe : va_A (pg_wB cI cZ a u ++ [(o, .inl (cL, 1, .inr (.inl f)))]) s.heap.size = A at hD hE ⊢
  have hA : ∀ q : Nat, s.heap.size ≤ q → A q := fun q h => by rw [← hAe]; exact Or.inr h
  have hS : va_S A s.heap s.heap [] := va_S.rf
  have hl := lv_entry ([.ref (a 0), .int k, .int x, .int d]) (n := 5) (Nat.le_of_ble_eq_true rfl)
  rw [lg_entry_eq]
  generalize (lg_sl ([.ref (a 0), .int k, .int x, .int d]) ++ List.replicate (5 - (lg_sl ([.ref (a 0), .int k, .int x, .int d])).length) Slot.unset).toArray = ls at hl ⊢
  have hl : lv_has ls 5 [(0, .ref (a 0)), (1, .int k), (2, .int x), (3, .int d)] := hl
  have htab := vx_table (x := yL_setYear) B (hts _ List.mem_cons_self)
  obtain ⟨-, -, hE3, hE4, -⟩ := id hE
  have hw1 := hts (.classLink RL 20 "java/lang/IndexOutOfBoundsException") (List.mem_of_getElem? (i := 1) rfl)
  have hw2 := hts (.classLink RL 13 "java/lang/IllegalArgumentException") (List.mem_of_getElem? (i := 2) rfl)
  refine lv_aload_n hx hb dL_setYear_0 rfl (lv_at hl 0 rfl) ?_
  refine lv_iload_n hx hb dL_setYear_1 rfl (lv_at hl 1 rfl) ?_
  refine lv_iload_n hx hb dL_setYear_2 rfl (lv_at hl 2 rfl) ?_
  refine lv_iload_n hx hb dL_setYear_3 rfl (lv_at hl 3 rfl) ?_
  refine pg_catL (pg_xV (As := [.int k, .int x, .int d]) (rest := []) ⟨hx, hb, hml, hown, hts⟩ (cc_setYear_no l hfl D cI cZ a s.heap.size u k x d 2 pg_ia hthr (by decide) (fun h9 => absurd h9 (by decide)) (fun _ => rfl) (fun h9 => absurd h9 (by decide))) (cwV 3 hts gL_setYear_X4_setYear rfl rfl rfl (by decide +kernel) ⟨Nat.le_of_ble_eq_true rfl, Nat.le_of_ble_eq_true rfl⟩) (hK.sub [0, 1] rfl) (pg_PL hP) (pg_DL hD) hS hA hE 0 (ci := 4) rfl rfl rfl rfl hl.1 rfl (Nat.le_of_ble_eq_true rfl) dL_setYear_4 ⟨Nat.le_of_ble_eq_true rfl, Nat.le_of_ble_eq_true rfl⟩) hP hD hS hA (fun ce q9 H locs hP hS hce hcv hcl => ?_)
  refine vx_catch (own := RL) (name := pg_ia) hown [⟨0, 7, 10, 20⟩] ⟨0, 7, 14, 13⟩ [⟨0, 7, 18, 15⟩] (by rw [htab]; rfl) (fun z9 h9 => by rw [List.mem_singleton.mp h9]; exact Or.inr ⟨by decide, "java/lang/IndexOutOfBoundsException", hw1, hE4 (pg_ia, pg_io) (List.mem_of_getElem? (i := 1) rfl)⟩) (by decide) (by decide) hw2 (va_Nw.use rfl (hE3 (Cond.castable pg_ia pg_ia) (List.mem_of_getElem? (i := 0) rfl))) hce hcv hcl ?_
  refine W.widen (k := 1) (n := 6) (Nat.le_of_ble_eq_true rfl) (Nat.le_of_ble_eq_true rfl) ?_
  refine W.eq (g2 := F0 m 14 ls [.ref q9]) rfl ?_
  refine lv_astore (lv' := [(4, .ref q9), (0, .ref (a 0)), (1, .int k), (2, .int x), (3, .int d)]) hx hb dL_setYear_14 hl (by decide) rfl (fun ls hl => ?_)
  refine lv_iconst (v := 2) hx hb dL_setYear_16 (by decide) ?_
  exact W.iret (v := 2) hx hb hr (fun t9 ht9 hW9 => ⟨⟨2, (u, f), rfl, ⟨rfl, rfl⟩, by rw [ht9]; exact hP, va_K.moved hW9.alike hK, hD⟩, hS.F ht9⟩) hS.2.2 dL_setYear_17
set_option maxHeartbeats 4000000 in
set_option maxRecDepth 100000 in
theorem cw_setYear_3 (l : Launch) (hfl : l.stackTraces = false) (D : va_G) (cI cZ cL : ClassId) (a : Nat → Nat) (o : Nat) (sz : Nat) (u : pg_St) (f : Nat → Int64) (k x d : Int32) (hthr : pg_t_setYear (!pg_eq (u.1 3) (-1)) k x d = 3) : Met l yL_setYear wsL_setYear ({ frames := 8, cells := 1, slots := 6, locals := 131 }) (va_Pc [.ref (a 0), .int k, .int x, .int d] (pg_T D (pg_tyL cI cZ cL) (pg_wB cI cZ a u ++ [(o, .inl (cL, 1, .inr (.inl f)))]) sz)) (va_Qi (fun r z9 => r = 3 ∧ z9 = (u, f)) (pg_E D (pg_tyL cI cZ cL) (va_A (pg_wB cI cZ a u ++ [(o, .inl (cL, 1, .inr (.inl f)))]) sz) (fun z9 : pg_St × (Nat → Int64) => pg_wB cI cZ a z9.1 ++ [(o, .inl (cL, 1, .inr (.inl z9.2)))])) (va_A (pg_wB cI cZ a u ++ [(o, .inl (cL, 1, .inr (.inl f)))]) sz)) 1 6 (va_A (pg_wB cI cZ a u ++ [(o, .inl (cL, 1, .inr (.inl f)))]) sz) := by
  refine pg_ofWH (cc := cL_setYear) (maxL := 5) (ret := (some .int)) (by decide) rfl ?_
  intro p e s m args below meth c s₁ B hml hv
  obtain ⟨rfl, ⟨hsz, hP, hK, hD0⟩, hE⟩ := hv
  have hx := B.exec
  have hb := B.bytes
  have hr := B.returns
  have hts := atoms_spec (ws := wsL_setYear) B.pre
  have hown : s.vm.findClass RL = some m.cls := findClass_of_methodNamed B.named
  have hlocks := B.notSynchronized
  subst hsz
  have hD := hD0.self (sz := s.heap.size)
  generalize hAe : va_A (pg_wB cI cZ a u ++ [(o, .inl (cL, 1, .inr (.inl f)))]) s.heap.size = A at hD hE ⊢
  have hA : ∀ q : Nat, s.heap.size ≤ q → A q := fun q h => by rw [← hAe]; exact Or.inr h
  have hS : va_S A s.heap s.heap [] := va_S.rf
  have hl := lv_entry ([.ref (a 0), .int k, .int x, .int d]) (n := 5) (Nat.le_of_ble_eq_true rfl)
  rw [lg_entry_eq]
  generalize (lg_sl ([.ref (a 0), .int k, .int x, .int d]) ++ List.replicate (5 - (lg_sl ([.ref (a 0), .int k, .int x, .int d])).length) Slot.unset).toArray = ls at hl ⊢
  have hl : lv_has ls 5 [(0, .ref (a 0)), (1, .int k), (2, .int x), (3, .int d)] := hl
  have htab := vx_table (x := yL_setYear) B (hts _ List.mem_cons_self)
  obtain ⟨-, -, hE3, hE4, -⟩ := id hE
  have hw1 := hts (.classLink RL 20 "java/lang/IndexOutOfBoundsException") (List.mem_of_getElem? (i := 1) rfl)
  have hw2 := hts (.classLink RL 13 "java/lang/IllegalArgumentException") (List.mem_of_getElem? (i := 2) rfl)
  have hw3 := hts (.classLink RL 15 "java/lang/IllegalStateException") (List.mem_of_getElem? (i := 3) rfl)
  refine lv_aload_n hx hb dL_setYear_0 rfl (lv_at hl 0 rfl) ?_
  refine lv_iload_n hx hb dL_setYear_1 rfl (lv_at hl 1 rfl) ?_
  refine lv_iload_n hx hb dL_setYear_2 rfl (lv_at hl 2 rfl) ?_
  refine lv_iload_n hx hb dL_setYear_3 rfl (lv_at hl 3 rfl) ?_
  refine pg_catL (pg_xV (As := [.int k, .int x, .int d]) (rest := []) ⟨hx, hb, hml, hown, hts⟩ (cc_setYear_no l hfl D cI cZ a s.heap.size u k x d 3 pg_is hthr (by decide) (fun h9 => absurd h9 (by decide)) (fun h9 => absurd h9 (by decide)) (fun _ => rfl)) (cwV 3 hts gL_setYear_X4_setYear rfl rfl rfl (by decide +kernel) ⟨Nat.le_of_ble_eq_true rfl, Nat.le_of_ble_eq_true rfl⟩) (hK.sub [0, 1] rfl) (pg_PL hP) (pg_DL hD) hS hA hE 0 (ci := 4) rfl rfl rfl rfl hl.1 rfl (Nat.le_of_ble_eq_true rfl) dL_setYear_4 ⟨Nat.le_of_ble_eq_true rfl, Nat.le_of_ble_eq_true rfl⟩) hP hD hS hA (fun ce q9 H locs hP hS hce hcv hcl => ?_)
  refine vx_catch (own := RL) (name := pg_is) hown [⟨0, 7, 10, 20⟩, ⟨0, 7, 14, 13⟩] ⟨0, 7, 18, 15⟩ [] (by rw [htab]; rfl) (fun z9 h9 => by rcases List.mem_cons.mp h9 with rfl | h9; exact Or.inr ⟨by decide, "java/lang/IndexOutOfBoundsException", hw1, hE4 (pg_is, pg_io) (List.mem_of_getElem? (i := 3) rfl)⟩; rw [List.mem_singleton.mp h9]; exact Or.inr ⟨by decide, "java/lang/IllegalArgumentException", hw2, hE4 (pg_is, pg_ia) (List.mem_of_getElem? (i := 2) rfl)⟩) (by decide) (by decide) hw3 (va_Nw.use rfl (hE3 (Cond.castable pg_is pg_is) (List.mem_of_getElem? (i := 1) rfl))) hce hcv hcl ?_
  refine W.widen (k := 1) (n := 6) (Nat.le_of_ble_eq_true rfl) (Nat.le_of_ble_eq_true rfl) ?_
  refine W.eq (g2 := F0 m 18 ls [.ref q9]) rfl ?_
  refine lv_astore (lv' := [(4, .ref q9), (0, .ref (a 0)), (1, .int k), (2, .int x), (3, .int d)]) hx hb dL_setYear_18 hl (by decide) rfl (fun ls hl => ?_)
  refine lv_iconst (v := 3) hx hb dL_setYear_20 (by decide) ?_
  exact W.iret (v := 3) hx hb hr (fun t9 ht9 hW9 => ⟨⟨3, (u, f), rfl, ⟨rfl, rfl⟩, by rw [ht9]; exact hP, va_K.moved hW9.alike hK, hD⟩, hS.F ht9⟩) hS.2.2 dL_setYear_21
set_option maxHeartbeats 4000000 in
set_option maxRecDepth 100000 in
theorem cw_setCarry_ok (l : Launch) (D : va_G) (cI cZ cL : ClassId) (a : Nat → Nat) (o : Nat) (sz : Nat) (u : pg_St) (f : Nat → Int64) (b : Int32) (hb9 : b = 0 ∨ b = 1) (hthr : pg_t_setCarry (!pg_eq (u.1 3) (-1)) = 0) : Met l yL_setCarry wsL_setCarry ({ frames := 2, cells := 0, slots := 0, locals := 41 }) (va_Pc [.ref (a 0), .int b] (pg_B D (pg_tyL cI cZ cL) (pg_wB cI cZ a u ++ [(o, .inl (cL, 1, .inr (.inl f)))]) sz)) (va_Qi (fun r z9 => r = 0 ∧ z9 = ((upd u.1 11 b, u.2), f)) (pg_E D (pg_tyL cI cZ cL) (va_A (pg_wB cI cZ a u ++ [(o, .inl (cL, 1, .inr (.inl f)))]) sz) (fun z9 : pg_St × (Nat → Int64) => pg_wB cI cZ a z9.1 ++ [(o, .inl (cL, 1, .inr (.inl z9.2)))])) (va_A (pg_wB cI cZ a u ++ [(o, .inl (cL, 1, .inr (.inl f)))]) sz)) 0 0 (va_A (pg_wB cI cZ a u ++ [(o, .inl (cL, 1, .inr (.inl f)))]) sz) := by
  refine pg_ofWH (cc := cL_setCarry) (maxL := 3) (ret := (some .int)) (by decide) rfl ?_
  intro p e s m args below meth c s₁ B hml hv
  obtain ⟨rfl, hsz, hP, hK, hD0⟩ := hv
  have hx := B.exec
  have hb := B.bytes
  have hr := B.returns
  have hts := atoms_spec (ws := wsL_setCarry) B.pre
  have hown : s.vm.findClass RL = some m.cls := findClass_of_methodNamed B.named
  have hlocks := B.notSynchronized
  subst hsz
  have hD := hD0.self (sz := s.heap.size)
  generalize hAe : va_A (pg_wB cI cZ a u ++ [(o, .inl (cL, 1, .inr (.inl f)))]) s.heap.size = A at hD ⊢
  have hA : ∀ q : Nat, s.heap.size ≤ q → A q := fun q h => by rw [← hAe]; exact Or.inr h
  have hS : va_S A s.heap s.heap [] := va_S.rf
  have hl := lv_entry ([.ref (a 0), .int b]) (n := 3) (Nat.le_of_ble_eq_true rfl)
  rw [lg_entry_eq]
  generalize (lg_sl ([.ref (a 0), .int b]) ++ List.replicate (3 - (lg_sl ([.ref (a 0), .int b])).length) Slot.unset).toArray = ls at hl ⊢
  have hl : lv_has ls 3 [(0, .ref (a 0)), (1, .int b)] := hl
  refine lv_aload_n hx hb dL_setCarry_0 rfl (lv_at hl 0 rfl) ?_
  refine lv_iload_n hx hb dL_setCarry_1 rfl (lv_at hl 1 rfl) ?_
  refine pg_vL (pg_rV (As := [.int b]) (rest := []) ⟨hx, hb, hml, hown, hts⟩ (cc_setCarry_ok l D cI cZ a s.heap.size u b hb9 hthr) (cwV 1 hts gL_setCarry_X4_setCarry rfl rfl rfl (by decide +kernel) ⟨Nat.le_of_ble_eq_true rfl, Nat.le_of_ble_eq_true rfl⟩) (hK.sub [0, 1] rfl) (pg_PL hP) (pg_DL hD) 0 (ci := 4) rfl rfl rfl rfl hl.1 rfl (Nat.le_of_ble_eq_true rfl) dL_setCarry_2 ⟨Nat.le_of_ble_eq_true rfl, Nat.le_of_ble_eq_true rfl⟩) hP hD hS hA (fun H locs hP hD hS => ?_)
  have hP : va_P D vwCl (pg_wB cI cZ a (upd u.1 11 b, u.2) ++ [(o, .inl (cL, 1, .inr (.inl f)))]) H := hP
  have hD : va_D A (pg_wB cI cZ a (upd u.1 11 b, u.2) ++ [(o, .inl (cL, 1, .inr (.inl f)))]) := hD
  refine lv_goto (tgt := 11) hx hb dL_setCarry_5 (by decide) ?_
  refine lv_iconst (v := 0) hx hb dL_setCarry_11 (by decide) ?_
  exact W.iret (v := 0) hx hb hr (fun t9 ht9 hW9 => ⟨⟨0, ((upd u.1 11 b, u.2), f), rfl, ⟨rfl, rfl⟩, by rw [ht9]; exact hP, va_K.moved hW9.alike hK, hD⟩, hS.F ht9⟩) hS.2.2 dL_setCarry_12
set_option maxHeartbeats 4000000 in
set_option maxRecDepth 100000 in
theorem cw_setCarry_1 (l : Launch) (hfl : l.stackTraces = false) (D : va_G) (cI cZ cL : ClassId) (a : Nat → Nat) (o : Nat) (sz : Nat) (u : pg_St) (f : Nat → Int64) (b : Int32) (hb9 : b = 0 ∨ b = 1) (hthr : pg_t_setCarry (!pg_eq (u.1 3) (-1)) = 1) : Met l yL_setCarry wsL_setCarry ({ frames := 8, cells := 1, slots := 6, locals := 127 }) (va_Pc [.ref (a 0), .int b] (pg_T D (pg_tyL cI cZ cL) (pg_wB cI cZ a u ++ [(o, .inl (cL, 1, .inr (.inl f)))]) sz)) (va_Qi (fun r z9 => r = 1 ∧ z9 = (u, f)) (pg_E D (pg_tyL cI cZ cL) (va_A (pg_wB cI cZ a u ++ [(o, .inl (cL, 1, .inr (.inl f)))]) sz) (fun z9 : pg_St × (Nat → Int64) => pg_wB cI cZ a z9.1 ++ [(o, .inl (cL, 1, .inr (.inl z9.2)))])) (va_A (pg_wB cI cZ a u ++ [(o, .inl (cL, 1, .inr (.inl f)))]) sz)) 1 6 (va_A (pg_wB cI cZ a u ++ [(o, .inl (cL, 1, .inr (.inl f)))]) sz) := by
  refine pg_ofWH (cc := cL_setCarry) (maxL := 3) (ret := (some .int)) (by decide) rfl ?_
  intro p e s m args below meth c s₁ B hml hv
  obtain ⟨rfl, ⟨hsz, hP, hK, hD0⟩, hE⟩ := hv
  have hx := B.exec
  have hb := B.bytes
  have hr := B.returns
  have hts := atoms_spec (ws := wsL_setCarry) B.pre
  have hown : s.vm.findClass RL = some m.cls := findClass_of_methodNamed B.named
  have hlocks := B.notSynchronized
  subst hsz
  have hD := hD0.self (sz := s.heap.size)
  generalize hAe : va_A (pg_wB cI cZ a u ++ [(o, .inl (cL, 1, .inr (.inl f)))]) s.heap.size = A at hD hE ⊢
  have hA : ∀ q : Nat, s.heap.size ≤ q → A q := fun q h => by rw [← hAe]; exact Or.inr h
  have hS : va_S A s.heap s.heap [] := va_S.rf
  have hl := lv_entry ([.ref (a 0), .int b]) (n := 3) (Nat.le_of_ble_eq_true rfl)
  rw [lg_entry_eq]
  generalize (lg_sl ([.ref (a 0), .int b]) ++ List.replicate (3 - (lg_sl ([.ref (a 0), .int b])).length) Slot.unset).toArray = ls at hl ⊢
  have hl : lv_has ls 3 [(0, .ref (a 0)), (1, .int b)] := hl
  have htab := vx_table (x := yL_setCarry) B (hts _ List.mem_cons_self)
  obtain ⟨-, -, hE3, hE4, -⟩ := id hE
  have hw1 := hts (.classLink RL 15 "java/lang/IllegalStateException") (List.mem_of_getElem? (i := 1) rfl)
  refine lv_aload_n hx hb dL_setCarry_0 rfl (lv_at hl 0 rfl) ?_
  refine lv_iload_n hx hb dL_setCarry_1 rfl (lv_at hl 1 rfl) ?_
  refine pg_catL (pg_xV (As := [.int b]) (rest := []) ⟨hx, hb, hml, hown, hts⟩ (cc_setCarry_no l hfl D cI cZ a s.heap.size u b hb9 1 pg_is hthr (by decide) (fun _ => rfl)) (cwV 1 hts gL_setCarry_X4_setCarry rfl rfl rfl (by decide +kernel) ⟨Nat.le_of_ble_eq_true rfl, Nat.le_of_ble_eq_true rfl⟩) (hK.sub [0, 1] rfl) (pg_PL hP) (pg_DL hD) hS hA hE 0 (ci := 4) rfl rfl rfl rfl hl.1 rfl (Nat.le_of_ble_eq_true rfl) dL_setCarry_2 ⟨Nat.le_of_ble_eq_true rfl, Nat.le_of_ble_eq_true rfl⟩) hP hD hS hA (fun ce q9 H locs hP hS hce hcv hcl => ?_)
  refine vx_catch (own := RL) (name := pg_is) hown [] ⟨0, 5, 8, 15⟩ [] (by rw [htab]; rfl) (fun _ h9 => nomatch h9) (by decide) (by decide) hw1 (va_Nw.use rfl (hE3 (Cond.castable pg_is pg_is) (List.mem_of_getElem? (i := 1) rfl))) hce hcv hcl ?_
  refine W.widen (k := 1) (n := 6) (Nat.le_of_ble_eq_true rfl) (Nat.le_of_ble_eq_true rfl) ?_
  refine W.eq (g2 := F0 m 8 ls [.ref q9]) rfl ?_
  refine lv_astore_n (lv' := [(2, .ref q9), (0, .ref (a 0)), (1, .int b)]) hx hb dL_setCarry_8 rfl hl (by decide) rfl (fun ls hl => ?_)
  refine lv_iconst (v := 1) hx hb dL_setCarry_9 (by decide) ?_
  exact W.iret (v := 1) hx hb hr (fun t9 ht9 hW9 => ⟨⟨1, (u, f), rfl, ⟨rfl, rfl⟩, by rw [ht9]; exact hP, va_K.moved hW9.alike hK, hD⟩, hS.F ht9⟩) hS.2.2 dL_setCarry_10
set_option maxHeartbeats 4000000 in
set_option maxRecDepth 100000 in
theorem cw_close_ok (l : Launch) (D : va_G) (cI cZ cL : ClassId) (a : Nat → Nat) (o : Nat) (sz : Nat) (u : pg_St) (f : Nat → Int64) (x y1 z : Int32) (hthr : pg_t_close (!pg_eq (u.1 3) (-1)) x y1 z = 0) : Met l yL_close wsL_close ({ frames := 2, cells := 0, slots := 0, locals := 45 }) (va_Pc [.ref (a 0), .int x, .int y1, .int z, .ref o] (pg_B D (pg_tyL cI cZ cL) (pg_wB cI cZ a u ++ [(o, .inl (cL, 1, .inr (.inl f)))]) sz)) (va_Qi (fun r z9 => r = 0 ∧ z9 = (pg_close u x y1 z, vp_updL f 0 (pg_fin u x y1 z).toInt64)) (pg_E D (pg_tyL cI cZ cL) (va_A (pg_wB cI cZ a u ++ [(o, .inl (cL, 1, .inr (.inl f)))]) sz) (fun z9 : pg_St × (Nat → Int64) => pg_wB cI cZ a z9.1 ++ [(o, .inl (cL, 1, .inr (.inl z9.2)))])) (va_A (pg_wB cI cZ a u ++ [(o, .inl (cL, 1, .inr (.inl f)))]) sz)) 0 0 (va_A (pg_wB cI cZ a u ++ [(o, .inl (cL, 1, .inr (.inl f)))]) sz) := by
  refine pg_ofWH (cc := cL_close) (maxL := 6) (ret := (some .int)) (by decide) rfl ?_
  intro p e s m args below meth c s₁ B hml hv
  obtain ⟨rfl, hsz, hP, hK, hD0⟩ := hv
  have hx := B.exec
  have hb := B.bytes
  have hr := B.returns
  have hts := atoms_spec (ws := wsL_close) B.pre
  have hown : s.vm.findClass RL = some m.cls := findClass_of_methodNamed B.named
  have hlocks := B.notSynchronized
  subst hsz
  have hD := hD0.self (sz := s.heap.size)
  generalize hAe : va_A (pg_wB cI cZ a u ++ [(o, .inl (cL, 1, .inr (.inl f)))]) s.heap.size = A at hD ⊢
  have hA : ∀ q : Nat, s.heap.size ≤ q → A q := fun q h => by rw [← hAe]; exact Or.inr h
  have hS : va_S A s.heap s.heap [] := va_S.rf
  have hl := lv_entry ([.ref (a 0), .int x, .int y1, .int z, .ref o]) (n := 6) (Nat.le_of_ble_eq_true rfl)
  rw [lg_entry_eq]
  generalize (lg_sl ([.ref (a 0), .int x, .int y1, .int z, .ref o]) ++ List.replicate (6 - (lg_sl ([.ref (a 0), .int x, .int y1, .int z, .ref o])).length) Slot.unset).toArray = ls at hl ⊢
  have hl : lv_has ls 6 [(0, .ref (a 0)), (1, .int x), (2, .int y1), (3, .int z), (4, .ref o)] := hl
  refine lv_aload hx hb dL_close_0 (lv_at hl 4 rfl) ?_
  refine lv_iconst (v := 0) hx hb dL_close_2 (by decide) ?_
  refine lv_aload_n hx hb dL_close_3 rfl (lv_at hl 0 rfl) ?_
  refine lv_iload_n hx hb dL_close_4 rfl (lv_at hl 1 rfl) ?_
  refine lv_iload_n hx hb dL_close_5 rfl (lv_at hl 2 rfl) ?_
  refine lv_iload_n hx hb dL_close_6 rfl (lv_at hl 3 rfl) ?_
  refine pg_iL (pg_rV (As := [.int x, .int y1, .int z]) (rest := [.int 0, .ref o]) ⟨hx, hb, hml, hown, hts⟩ (cc_close_ok l D cI cZ a s.heap.size u x y1 z hthr) (cwV 3 hts gL_close_X4_close rfl rfl rfl (by decide +kernel) ⟨Nat.le_of_ble_eq_true rfl, Nat.le_of_ble_eq_true rfl⟩) (hK.sub [0, 1] rfl) (pg_PL hP) (pg_DL hD) 0 (ci := 4) rfl rfl rfl rfl hl.1 rfl (Nat.le_of_ble_eq_true rfl) dL_close_7 ⟨Nat.le_of_ble_eq_true rfl, Nat.le_of_ble_eq_true rfl⟩) hP hD hS hA (fun H locs hP hD hS => ?_)
  have hP : va_P D vwCl (pg_wB cI cZ a (pg_close u x y1 z) ++ [(o, .inl (cL, 1, .inr (.inl f)))]) H := hP
  have hD : va_D A (pg_wB cI cZ a (pg_close u x y1 z) ++ [(o, .inl (cL, 1, .inr (.inl f)))]) := hD
  refine lv_i2l (v := (pg_fin u x y1 z).toInt64) hx hb dL_close_10 rfl ?_
  refine va_last hx hb hK hP hD hS 19 2 rfl rfl (show vp_in 0 1 from vp_in_nI (n := 0) (by decide) (by decide)) dL_close_11 (fun H locs hP hD hS => ?_)
  have hP : va_P D vwCl (pg_wB cI cZ a (pg_close u x y1 z) ++ [(o, .inl (cL, 1, .inr (.inl (vp_updL f 0 ((pg_fin u x y1 z).toInt64)))))]) H := hP
  have hD : va_D A (pg_wB cI cZ a (pg_close u x y1 z) ++ [(o, .inl (cL, 1, .inr (.inl (vp_updL f 0 ((pg_fin u x y1 z).toInt64)))))]) := hD
  refine lv_goto (tgt := 23) hx hb dL_close_12 (by decide) ?_
  refine lv_iconst (v := 0) hx hb dL_close_23 (by decide) ?_
  exact W.iret (v := 0) hx hb hr (fun t9 ht9 hW9 => ⟨⟨0, (pg_close u x y1 z, (vp_updL f 0 ((pg_fin u x y1 z).toInt64))), rfl, ⟨rfl, rfl⟩, by rw [ht9]; exact hP, va_K.moved hW9.alike hK, hD⟩, hS.F ht9⟩) hS.2.2 dL_close_24
set_option maxHeartbeats 4000000 in
set_option maxRecDepth 100000 in
theorem cw_close_1 (l : Launch) (hfl : l.stackTraces = false) (D : va_G) (cI cZ cL : ClassId) (a : Nat → Nat) (o : Nat) (sz : Nat) (u : pg_St) (f : Nat → Int64) (x y1 z : Int32) (hthr : pg_t_close (!pg_eq (u.1 3) (-1)) x y1 z = 1) : Met l yL_close wsL_close ({ frames := 8, cells := 1, slots := 6, locals := 131 }) (va_Pc [.ref (a 0), .int x, .int y1, .int z, .ref o] (pg_T D (pg_tyL cI cZ cL) (pg_wB cI cZ a u ++ [(o, .inl (cL, 1, .inr (.inl f)))]) sz)) (va_Qi (fun r z9 => r = 1 ∧ z9 = (u, f)) (pg_E D (pg_tyL cI cZ cL) (va_A (pg_wB cI cZ a u ++ [(o, .inl (cL, 1, .inr (.inl f)))]) sz) (fun z9 : pg_St × (Nat → Int64) => pg_wB cI cZ a z9.1 ++ [(o, .inl (cL, 1, .inr (.inl z9.2)))])) (va_A (pg_wB cI cZ a u ++ [(o, .inl (cL, 1, .inr (.inl f)))]) sz)) 1 6 (va_A (pg_wB cI cZ a u ++ [(o, .inl (cL, 1, .inr (.inl f)))]) sz) := by
  refine pg_ofWH (cc := cL_close) (maxL := 6) (ret := (some .int)) (by decide) rfl ?_
  intro p e s m args below meth c s₁ B hml hv
  obtain ⟨rfl, ⟨hsz, hP, hK, hD0⟩, hE⟩ := hv
  have hx := B.exec
  have hb := B.bytes
  have hr := B.returns
  have hts := atoms_spec (ws := wsL_close) B.pre
  have hown : s.vm.findClass RL = some m.cls := findClass_of_methodNamed B.named
  have hlocks := B.notSynchronized
  subst hsz
  have hD := hD0.self (sz := s.heap.size)
  generalize hAe : va_A (pg_wB cI cZ a u ++ [(o, .inl (cL, 1, .inr (.inl f)))]) s.heap.size = A at hD hE ⊢
  have hA : ∀ q : Nat, s.heap.size ≤ q → A q := fun q h => by rw [← hAe]; exact Or.inr h
  have hS : va_S A s.heap s.heap [] := va_S.rf
  have hl := lv_entry ([.ref (a 0), .int x, .int y1, .int z, .ref o]) (n := 6) (Nat.le_of_ble_eq_true rfl)
  rw [lg_entry_eq]
  generalize (lg_sl ([.ref (a 0), .int x, .int y1, .int z, .ref o]) ++ List.replicate (6 - (lg_sl ([.ref (a 0), .int x, .int y1, .int z, .ref o])).length) Slot.unset).toArray = ls at hl ⊢
  have hl : lv_has ls 6 [(0, .ref (a 0)), (1, .int x), (2, .int y1), (3, .int z), (4, .ref o)] := hl
  have htab := vx_table (x := yL_close) B (hts _ List.mem_cons_self)
  obtain ⟨-, -, hE3, hE4, -⟩ := id hE
  have hw1 := hts (.classLink RL 13 "java/lang/IllegalArgumentException") (List.mem_of_getElem? (i := 1) rfl)
  refine lv_aload hx hb dL_close_0 (lv_at hl 4 rfl) ?_
  refine lv_iconst (v := 0) hx hb dL_close_2 (by decide) ?_
  refine lv_aload_n hx hb dL_close_3 rfl (lv_at hl 0 rfl) ?_
  refine lv_iload_n hx hb dL_close_4 rfl (lv_at hl 1 rfl) ?_
  refine lv_iload_n hx hb dL_close_5 rfl (lv_at hl 2 rfl) ?_
  refine lv_iload_n hx hb dL_close_6 rfl (lv_at hl 3 rfl) ?_
  refine pg_catL (pg_xV (As := [.int x, .int y1, .int z]) (rest := [.int 0, .ref o]) ⟨hx, hb, hml, hown, hts⟩ (cc_close_no l hfl D cI cZ a s.heap.size u x y1 z 1 pg_ia hthr (by decide) (fun _ => rfl) (fun h9 => absurd h9 (by decide))) (cwV 3 hts gL_close_X4_close rfl rfl rfl (by decide +kernel) ⟨Nat.le_of_ble_eq_true rfl, Nat.le_of_ble_eq_true rfl⟩) (hK.sub [0, 1] rfl) (pg_PL hP) (pg_DL hD) hS hA hE 0 (ci := 4) rfl rfl rfl rfl hl.1 rfl (Nat.le_of_ble_eq_true rfl) dL_close_7 ⟨Nat.le_of_ble_eq_true rfl, Nat.le_of_ble_eq_true rfl⟩) hP hD hS hA (fun ce q9 H locs hP hS hce hcv hcl => ?_)
  refine vx_catch (own := RL) (name := pg_ia) hown [] ⟨0, 12, 15, 13⟩ [⟨0, 12, 19, 15⟩] (by rw [htab]; rfl) (fun _ h9 => nomatch h9) (by decide) (by decide) hw1 (va_Nw.use rfl (hE3 (Cond.castable pg_ia pg_ia) (List.mem_of_getElem? (i := 0) rfl))) hce hcv hcl ?_
  refine W.widen (k := 1) (n := 6) (Nat.le_of_ble_eq_true rfl) (Nat.le_of_ble_eq_true rfl) ?_
  refine W.eq (g2 := F0 m 15 ls [.ref q9]) rfl ?_
  refine lv_astore (lv' := [(5, .ref q9), (0, .ref (a 0)), (1, .int x), (2, .int y1), (3, .int z), (4, .ref o)]) hx hb dL_close_15 hl (by decide) rfl (fun ls hl => ?_)
  refine lv_iconst (v := 1) hx hb dL_close_17 (by decide) ?_
  exact W.iret (v := 1) hx hb hr (fun t9 ht9 hW9 => ⟨⟨1, (u, f), rfl, ⟨rfl, rfl⟩, by rw [ht9]; exact hP, va_K.moved hW9.alike hK, hD⟩, hS.F ht9⟩) hS.2.2 dL_close_18
set_option maxHeartbeats 4000000 in
set_option maxRecDepth 100000 in
theorem cw_close_2 (l : Launch) (hfl : l.stackTraces = false) (D : va_G) (cI cZ cL : ClassId) (a : Nat → Nat) (o : Nat) (sz : Nat) (u : pg_St) (f : Nat → Int64) (x y1 z : Int32) (hthr : pg_t_close (!pg_eq (u.1 3) (-1)) x y1 z = 2) : Met l yL_close wsL_close ({ frames := 8, cells := 1, slots := 6, locals := 131 }) (va_Pc [.ref (a 0), .int x, .int y1, .int z, .ref o] (pg_T D (pg_tyL cI cZ cL) (pg_wB cI cZ a u ++ [(o, .inl (cL, 1, .inr (.inl f)))]) sz)) (va_Qi (fun r z9 => r = 2 ∧ z9 = (u, f)) (pg_E D (pg_tyL cI cZ cL) (va_A (pg_wB cI cZ a u ++ [(o, .inl (cL, 1, .inr (.inl f)))]) sz) (fun z9 : pg_St × (Nat → Int64) => pg_wB cI cZ a z9.1 ++ [(o, .inl (cL, 1, .inr (.inl z9.2)))])) (va_A (pg_wB cI cZ a u ++ [(o, .inl (cL, 1, .inr (.inl f)))]) sz)) 1 6 (va_A (pg_wB cI cZ a u ++ [(o, .inl (cL, 1, .inr (.inl f)))]) sz) := by
  refine pg_ofWH (cc := cL_close) (maxL := 6) (ret := (some .int)) (by decide) rfl ?_
  intro p e s m args below meth c s₁ B hml hv
  obtain ⟨rfl, ⟨hsz, hP, hK, hD0⟩, hE⟩ := hv
  have hx := B.exec
  have hb := B.bytes
  have hr := B.returns
  have hts := atoms_spec (ws := wsL_close) B.pre
  have hown : s.vm.findClass RL = some m.cls := findClass_of_methodNamed B.named
  have hlocks := B.notSynchronized
  subst hsz
  have hD := hD0.self (sz := s.heap.size)
  generalize hAe : va_A (pg_wB cI cZ a u ++ [(o, .inl (cL, 1, .inr (.inl f)))]) s.heap.size = A at hD hE ⊢
  have hA : ∀ q : Nat, s.heap.size ≤ q → A q := fun q h => by rw [← hAe]; exact Or.inr h
  have hS : va_S A s.heap s.heap [] := va_S.rf
  have hl := lv_entry ([.ref (a 0), .int x, .int y1, .int z, .ref o]) (n := 6) (Nat.le_of_ble_eq_true rfl)
  rw [lg_entry_eq]
  generalize (lg_sl ([.ref (a 0), .int x, .int y1, .int z, .ref o]) ++ List.replicate (6 - (lg_sl ([.ref (a 0), .int x, .int y1, .int z, .ref o])).length) Slot.unset).toArray = ls at hl ⊢
  have hl : lv_has ls 6 [(0, .ref (a 0)), (1, .int x), (2, .int y1), (3, .int z), (4, .ref o)] := hl
  have htab := vx_table (x := yL_close) B (hts _ List.mem_cons_self)
  obtain ⟨-, -, hE3, hE4, -⟩ := id hE
  have hw1 := hts (.classLink RL 13 "java/lang/IllegalArgumentException") (List.mem_of_getElem? (i := 1) rfl)
  have hw2 := hts (.classLink RL 15 "java/lang/IllegalStateException") (List.mem_of_getElem? (i := 2) rfl)
  refine lv_aload hx hb dL_close_0 (lv_at hl 4 rfl) ?_
  refine lv_iconst (v := 0) hx hb dL_close_2 (by decide) ?_
  refine lv_aload_n hx hb dL_close_3 rfl (lv_at hl 0 rfl) ?_
  refine lv_iload_n hx hb dL_close_4 rfl (lv_at hl 1 rfl) ?_
  refine lv_iload_n hx hb dL_close_5 rfl (lv_at hl 2 rfl) ?_
  refine lv_iload_n hx hb dL_close_6 rfl (lv_at hl 3 rfl) ?_
  refine pg_catL (pg_xV (As := [.int x, .int y1, .int z]) (rest := [.int 0, .ref o]) ⟨hx, hb, hml, hown, hts⟩ (cc_close_no l hfl D cI cZ a s.heap.size u x y1 z 2 pg_is hthr (by decide) (fun h9 => absurd h9 (by decide)) (fun _ => rfl)) (cwV 3 hts gL_close_X4_close rfl rfl rfl (by decide +kernel) ⟨Nat.le_of_ble_eq_true rfl, Nat.le_of_ble_eq_true rfl⟩) (hK.sub [0, 1] rfl) (pg_PL hP) (pg_DL hD) hS hA hE 0 (ci := 4) rfl rfl rfl rfl hl.1 rfl (Nat.le_of_ble_eq_true rfl) dL_close_7 ⟨Nat.le_of_ble_eq_true rfl, Nat.le_of_ble_eq_true rfl⟩) hP hD hS hA (fun ce q9 H locs hP hS hce hcv hcl => ?_)
  refine vx_catch (own := RL) (name := pg_is) hown [⟨0, 12, 15, 13⟩] ⟨0, 12, 19, 15⟩ [] (by rw [htab]; rfl) (fun z9 h9 => by rw [List.mem_singleton.mp h9]; exact Or.inr ⟨by decide, "java/lang/IllegalArgumentException", hw1, hE4 (pg_is, pg_ia) (List.mem_of_getElem? (i := 2) rfl)⟩) (by decide) (by decide) hw2 (va_Nw.use rfl (hE3 (Cond.castable pg_is pg_is) (List.mem_of_getElem? (i := 1) rfl))) hce hcv hcl ?_
  refine W.widen (k := 1) (n := 6) (Nat.le_of_ble_eq_true rfl) (Nat.le_of_ble_eq_true rfl) ?_
  refine W.eq (g2 := F0 m 19 ls [.ref q9]) rfl ?_
  refine lv_astore (lv' := [(5, .ref q9), (0, .ref (a 0)), (1, .int x), (2, .int y1), (3, .int z), (4, .ref o)]) hx hb dL_close_19 hl (by decide) rfl (fun ls hl => ?_)
  refine lv_iconst (v := 2) hx hb dL_close_21 (by decide) ?_
  exact W.iret (v := 2) hx hb hr (fun t9 ht9 hW9 => ⟨⟨2, (u, f), rfl, ⟨rfl, rfl⟩, by rw [ht9]; exact hP, va_K.moved hW9.alike hK, hD⟩, hS.F ht9⟩) hS.2.2 dL_close_22
set_option maxHeartbeats 4000000 in
set_option maxRecDepth 100000 in
theorem cw_advance_ok (l : Launch) (D : va_G) (cI cZ cL : ClassId) (a : Nat → Nat) (o : Nat) (sz : Nat) (u : pg_St) (f : Nat → Int64) (n : Nat) (hn : u.1 10 = nI n) (h20 : n ≤ 20) (x : Int32) (hthr : pg_t_advance (!pg_eq (u.1 3) (-1)) (u.1 3) x = 0) : Met l yL_advance wsL_advance ({ frames := 3, cells := 0, slots := 0, locals := 65 }) (va_Pc [.ref (a 0), .int x, .ref o] (pg_B D (pg_tyL cI cZ cL) (pg_wB cI cZ a u ++ [(o, .inl (cL, 1, .inr (.inl f)))]) sz)) (va_Qi (fun r z9 => r = 0 ∧ z9 = (pg_free (upd u.1 3 (u.1 3 + x), u.2) n (u.1 3 + x), vp_updL f 0 (u.1 3 + x).toInt64)) (pg_E D (pg_tyL cI cZ cL) (va_A (pg_wB cI cZ a u ++ [(o, .inl (cL, 1, .inr (.inl f)))]) sz) (fun z9 : pg_St × (Nat → Int64) => pg_wB cI cZ a z9.1 ++ [(o, .inl (cL, 1, .inr (.inl z9.2)))])) (va_A (pg_wB cI cZ a u ++ [(o, .inl (cL, 1, .inr (.inl f)))]) sz)) 0 0 (va_A (pg_wB cI cZ a u ++ [(o, .inl (cL, 1, .inr (.inl f)))]) sz) := by
  refine pg_ofWH (cc := cL_advance) (maxL := 4) (ret := (some .int)) (by decide) rfl ?_
  intro p e s m args below meth c s₁ B hml hv
  obtain ⟨rfl, hsz, hP, hK, hD0⟩ := hv
  have hx := B.exec
  have hb := B.bytes
  have hr := B.returns
  have hts := atoms_spec (ws := wsL_advance) B.pre
  have hown : s.vm.findClass RL = some m.cls := findClass_of_methodNamed B.named
  have hlocks := B.notSynchronized
  subst hsz
  have hD := hD0.self (sz := s.heap.size)
  generalize hAe : va_A (pg_wB cI cZ a u ++ [(o, .inl (cL, 1, .inr (.inl f)))]) s.heap.size = A at hD ⊢
  have hA : ∀ q : Nat, s.heap.size ≤ q → A q := fun q h => by rw [← hAe]; exact Or.inr h
  have hS : va_S A s.heap s.heap [] := va_S.rf
  have hl := lv_entry ([.ref (a 0), .int x, .ref o]) (n := 4) (Nat.le_of_ble_eq_true rfl)
  rw [lg_entry_eq]
  generalize (lg_sl ([.ref (a 0), .int x, .ref o]) ++ List.replicate (4 - (lg_sl ([.ref (a 0), .int x, .ref o])).length) Slot.unset).toArray = ls at hl ⊢
  have hl : lv_has ls 4 [(0, .ref (a 0)), (1, .int x), (2, .ref o)] := hl
  refine lv_aload_n hx hb dL_advance_0 rfl (lv_at hl 2 rfl) ?_
  refine lv_iconst (v := 0) hx hb dL_advance_1 (by decide) ?_
  refine lv_aload_n hx hb dL_advance_2 rfl (lv_at hl 0 rfl) ?_
  refine lv_iload_n hx hb dL_advance_3 rfl (lv_at hl 1 rfl) ?_
  refine pg_iL (pg_rV (As := [.int x]) (rest := [.int 0, .ref o]) ⟨hx, hb, hml, hown, hts⟩ (cc_advance_ok l D cI cZ a s.heap.size u n hn h20 x hthr) (cwV 1 hts gL_advance_X4_advance rfl rfl rfl (by decide +kernel) ⟨Nat.le_of_ble_eq_true rfl, Nat.le_of_ble_eq_true rfl⟩) (hK.sub [0, 1] rfl) (pg_PL hP) (pg_DL hD) 0 (ci := 4) rfl rfl rfl rfl hl.1 rfl (Nat.le_of_ble_eq_true rfl) dL_advance_4 ⟨Nat.le_of_ble_eq_true rfl, Nat.le_of_ble_eq_true rfl⟩) hP hD hS hA (fun H locs hP hD hS => ?_)
  have hP : va_P D vwCl (pg_wB cI cZ a (pg_free (upd u.1 3 (u.1 3 + x), u.2) n (u.1 3 + x)) ++ [(o, .inl (cL, 1, .inr (.inl f)))]) H := hP
  have hD : va_D A (pg_wB cI cZ a (pg_free (upd u.1 3 (u.1 3 + x), u.2) n (u.1 3 + x)) ++ [(o, .inl (cL, 1, .inr (.inl f)))]) := hD
  refine lv_i2l (v := (u.1 3 + x).toInt64) hx hb dL_advance_7 rfl ?_
  refine va_last hx hb hK hP hD hS 19 2 rfl rfl (show vp_in 0 1 from vp_in_nI (n := 0) (by decide) (by decide)) dL_advance_8 (fun H locs hP hD hS => ?_)
  have hP : va_P D vwCl (pg_wB cI cZ a (pg_free (upd u.1 3 (u.1 3 + x), u.2) n (u.1 3 + x)) ++ [(o, .inl (cL, 1, .inr (.inl (vp_updL f 0 ((u.1 3 + x).toInt64)))))]) H := hP
  have hD : va_D A (pg_wB cI cZ a (pg_free (upd u.1 3 (u.1 3 + x), u.2) n (u.1 3 + x)) ++ [(o, .inl (cL, 1, .inr (.inl (vp_updL f 0 ((u.1 3 + x).toInt64)))))]) := hD
  refine lv_goto (tgt := 18) hx hb dL_advance_9 (by decide) ?_
  refine lv_iconst (v := 0) hx hb dL_advance_18 (by decide) ?_
  exact W.iret (v := 0) hx hb hr (fun t9 ht9 hW9 => ⟨⟨0, (pg_free (upd u.1 3 (u.1 3 + x), u.2) n (u.1 3 + x), (vp_updL f 0 ((u.1 3 + x).toInt64))), rfl, ⟨rfl, rfl⟩, by rw [ht9]; exact hP, va_K.moved hW9.alike hK, hD⟩, hS.F ht9⟩) hS.2.2 dL_advance_19
set_option maxHeartbeats 4000000 in
set_option maxRecDepth 100000 in
theorem cw_advance_1 (l : Launch) (hfl : l.stackTraces = false) (D : va_G) (cI cZ cL : ClassId) (a : Nat → Nat) (o : Nat) (sz : Nat) (u : pg_St) (f : Nat → Int64) (n : Nat) (hn : u.1 10 = nI n) (h20 : n ≤ 20) (x : Int32) (hthr : pg_t_advance (!pg_eq (u.1 3) (-1)) (u.1 3) x = 1) : Met l yL_advance wsL_advance ({ frames := 8, cells := 1, slots := 6, locals := 129 }) (va_Pc [.ref (a 0), .int x, .ref o] (pg_T D (pg_tyL cI cZ cL) (pg_wB cI cZ a u ++ [(o, .inl (cL, 1, .inr (.inl f)))]) sz)) (va_Qi (fun r z9 => r = 1 ∧ z9 = (u, f)) (pg_E D (pg_tyL cI cZ cL) (va_A (pg_wB cI cZ a u ++ [(o, .inl (cL, 1, .inr (.inl f)))]) sz) (fun z9 : pg_St × (Nat → Int64) => pg_wB cI cZ a z9.1 ++ [(o, .inl (cL, 1, .inr (.inl z9.2)))])) (va_A (pg_wB cI cZ a u ++ [(o, .inl (cL, 1, .inr (.inl f)))]) sz)) 1 6 (va_A (pg_wB cI cZ a u ++ [(o, .inl (cL, 1, .inr (.inl f)))]) sz) := by
  refine pg_ofWH (cc := cL_advance) (maxL := 4) (ret := (some .int)) (by decide) rfl ?_
  intro p e s m args below meth c s₁ B hml hv
  obtain ⟨rfl, ⟨hsz, hP, hK, hD0⟩, hE⟩ := hv
  have hx := B.exec
  have hb := B.bytes
  have hr := B.returns
  have hts := atoms_spec (ws := wsL_advance) B.pre
  have hown : s.vm.findClass RL = some m.cls := findClass_of_methodNamed B.named
  have hlocks := B.notSynchronized
  subst hsz
  have hD := hD0.self (sz := s.heap.size)
  generalize hAe : va_A (pg_wB cI cZ a u ++ [(o, .inl (cL, 1, .inr (.inl f)))]) s.heap.size = A at hD hE ⊢
  have hA : ∀ q : Nat, s.heap.size ≤ q → A q := fun q h => by rw [← hAe]; exact Or.inr h
  have hS : va_S A s.heap s.heap [] := va_S.rf
  have hl := lv_entry ([.ref (a 0), .int x, .ref o]) (n := 4) (Nat.le_of_ble_eq_true rfl)
  rw [lg_entry_eq]
  generalize (lg_sl ([.ref (a 0), .int x, .ref o]) ++ List.replicate (4 - (lg_sl ([.ref (a 0), .int x, .ref o])).length) Slot.unset).toArray = ls at hl ⊢
  have hl : lv_has ls 4 [(0, .ref (a 0)), (1, .int x), (2, .ref o)] := hl
  have htab := vx_table (x := yL_advance) B (hts _ List.mem_cons_self)
  obtain ⟨-, -, hE3, hE4, -⟩ := id hE
  have hw1 := hts (.classLink RL 13 "java/lang/IllegalArgumentException") (List.mem_of_getElem? (i := 1) rfl)
  refine lv_aload_n hx hb dL_advance_0 rfl (lv_at hl 2 rfl) ?_
  refine lv_iconst (v := 0) hx hb dL_advance_1 (by decide) ?_
  refine lv_aload_n hx hb dL_advance_2 rfl (lv_at hl 0 rfl) ?_
  refine lv_iload_n hx hb dL_advance_3 rfl (lv_at hl 1 rfl) ?_
  refine pg_catL (pg_xV (As := [.int x]) (rest := [.int 0, .ref o]) ⟨hx, hb, hml, hown, hts⟩ (cc_advance_no l hfl D cI cZ a s.heap.size u n hn h20 x 1 pg_ia hthr (by decide) (fun _ => rfl) (fun h9 => absurd h9 (by decide))) (cwV 1 hts gL_advance_X4_advance rfl rfl rfl (by decide +kernel) ⟨Nat.le_of_ble_eq_true rfl, Nat.le_of_ble_eq_true rfl⟩) (hK.sub [0, 1] rfl) (pg_PL hP) (pg_DL hD) hS hA hE 0 (ci := 4) rfl rfl rfl rfl hl.1 rfl (Nat.le_of_ble_eq_true rfl) dL_advance_4 ⟨Nat.le_of_ble_eq_true rfl, Nat.le_of_ble_eq_true rfl⟩) hP hD hS hA (fun ce q9 H locs hP hS hce hcv hcl => ?_)
  refine vx_catch (own := RL) (name := pg_ia) hown [] ⟨0, 9, 12, 13⟩ [⟨0, 9, 15, 15⟩] (by rw [htab]; rfl) (fun _ h9 => nomatch h9) (by decide) (by decide) hw1 (va_Nw.use rfl (hE3 (Cond.castable pg_ia pg_ia) (List.mem_of_getElem? (i := 0) rfl))) hce hcv hcl ?_
  refine W.widen (k := 1) (n := 6) (Nat.le_of_ble_eq_true rfl) (Nat.le_of_ble_eq_true rfl) ?_
  refine W.eq (g2 := F0 m 12 ls [.ref q9]) rfl ?_
  refine lv_astore_n (lv' := [(3, .ref q9), (0, .ref (a 0)), (1, .int x), (2, .ref o)]) hx hb dL_advance_12 rfl hl (by decide) rfl (fun ls hl => ?_)
  refine lv_iconst (v := 1) hx hb dL_advance_13 (by decide) ?_
  exact W.iret (v := 1) hx hb hr (fun t9 ht9 hW9 => ⟨⟨1, (u, f), rfl, ⟨rfl, rfl⟩, by rw [ht9]; exact hP, va_K.moved hW9.alike hK, hD⟩, hS.F ht9⟩) hS.2.2 dL_advance_14
set_option maxHeartbeats 4000000 in
set_option maxRecDepth 100000 in
theorem cw_advance_2 (l : Launch) (hfl : l.stackTraces = false) (D : va_G) (cI cZ cL : ClassId) (a : Nat → Nat) (o : Nat) (sz : Nat) (u : pg_St) (f : Nat → Int64) (n : Nat) (hn : u.1 10 = nI n) (h20 : n ≤ 20) (x : Int32) (hthr : pg_t_advance (!pg_eq (u.1 3) (-1)) (u.1 3) x = 2) : Met l yL_advance wsL_advance ({ frames := 8, cells := 1, slots := 6, locals := 129 }) (va_Pc [.ref (a 0), .int x, .ref o] (pg_T D (pg_tyL cI cZ cL) (pg_wB cI cZ a u ++ [(o, .inl (cL, 1, .inr (.inl f)))]) sz)) (va_Qi (fun r z9 => r = 2 ∧ z9 = (u, f)) (pg_E D (pg_tyL cI cZ cL) (va_A (pg_wB cI cZ a u ++ [(o, .inl (cL, 1, .inr (.inl f)))]) sz) (fun z9 : pg_St × (Nat → Int64) => pg_wB cI cZ a z9.1 ++ [(o, .inl (cL, 1, .inr (.inl z9.2)))])) (va_A (pg_wB cI cZ a u ++ [(o, .inl (cL, 1, .inr (.inl f)))]) sz)) 1 6 (va_A (pg_wB cI cZ a u ++ [(o, .inl (cL, 1, .inr (.inl f)))]) sz) := by
  refine pg_ofWH (cc := cL_advance) (maxL := 4) (ret := (some .int)) (by decide) rfl ?_
  intro p e s m args below meth c s₁ B hml hv
  obtain ⟨rfl, ⟨hsz, hP, hK, hD0⟩, hE⟩ := hv
  have hx := B.exec
  have hb := B.bytes
  have hr := B.returns
  have hts := atoms_spec (ws := wsL_advance) B.pre
  have hown : s.vm.findClass RL = some m.cls := findClass_of_methodNamed B.named
  have hlocks := B.notSynchronized
  subst hsz
  have hD := hD0.self (sz := s.heap.size)
  generalize hAe : va_A (pg_wB cI cZ a u ++ [(o, .inl (cL, 1, .inr (.inl f)))]) s.heap.size = A at hD hE ⊢
  have hA : ∀ q : Nat, s.heap.size ≤ q → A q := fun q h => by rw [← hAe]; exact Or.inr h
  have hS : va_S A s.heap s.heap [] := va_S.rf
  have hl := lv_entry ([.ref (a 0), .int x, .ref o]) (n := 4) (Nat.le_of_ble_eq_true rfl)
  rw [lg_entry_eq]
  generalize (lg_sl ([.ref (a 0), .int x, .ref o]) ++ List.replicate (4 - (lg_sl ([.ref (a 0), .int x, .ref o])).length) Slot.unset).toArray = ls at hl ⊢
  have hl : lv_has ls 4 [(0, .ref (a 0)), (1, .int x), (2, .ref o)] := hl
  have htab := vx_table (x := yL_advance) B (hts _ List.mem_cons_self)
  obtain ⟨-, -, hE3, hE4, -⟩ := id hE
  have hw1 := hts (.classLink RL 13 "java/lang/IllegalArgumentException") (List.mem_of_getElem? (i := 1) rfl)
  have hw2 := hts (.classLink RL 15 "java/lang/IllegalStateException") (List.mem_of_getElem? (i := 2) rfl)
  refine lv_aload_n hx hb dL_advance_0 rfl (lv_at hl 2 rfl) ?_
  refine lv_iconst (v := 0) hx hb dL_advance_1 (by decide) ?_
  refine lv_aload_n hx hb dL_advance_2 rfl (lv_at hl 0 rfl) ?_
  refine lv_iload_n hx hb dL_advance_3 rfl (lv_at hl 1 rfl) ?_
  refine pg_catL (pg_xV (As := [.int x]) (rest := [.int 0, .ref o]) ⟨hx, hb, hml, hown, hts⟩ (cc_advance_no l hfl D cI cZ a s.heap.size u n hn h20 x 2 pg_is hthr (by decide) (fun h9 => absurd h9 (by decide)) (fun _ => rfl)) (cwV 1 hts gL_advance_X4_advance rfl rfl rfl (by decide +kernel) ⟨Nat.le_of_ble_eq_true rfl, Nat.le_of_ble_eq_true rfl⟩) (hK.sub [0, 1] rfl) (pg_PL hP) (pg_DL hD) hS hA hE 0 (ci := 4) rfl rfl rfl rfl hl.1 rfl (Nat.le_of_ble_eq_true rfl) dL_advance_4 ⟨Nat.le_of_ble_eq_true rfl, Nat.le_of_ble_eq_true rfl⟩) hP hD hS hA (fun ce q9 H locs hP hS hce hcv hcl => ?_)
  refine vx_catch (own := RL) (name := pg_is) hown [⟨0, 9, 12, 13⟩] ⟨0, 9, 15, 15⟩ [] (by rw [htab]; rfl) (fun z9 h9 => by rw [List.mem_singleton.mp h9]; exact Or.inr ⟨by decide, "java/lang/IllegalArgumentException", hw1, hE4 (pg_is, pg_ia) (List.mem_of_getElem? (i := 2) rfl)⟩) (by decide) (by decide) hw2 (va_Nw.use rfl (hE3 (Cond.castable pg_is pg_is) (List.mem_of_getElem? (i := 1) rfl))) hce hcv hcl ?_
  refine W.widen (k := 1) (n := 6) (Nat.le_of_ble_eq_true rfl) (Nat.le_of_ble_eq_true rfl) ?_
  refine W.eq (g2 := F0 m 15 ls [.ref q9]) rfl ?_
  refine lv_astore_n (lv' := [(3, .ref q9), (0, .ref (a 0)), (1, .int x), (2, .ref o)]) hx hb dL_advance_15 rfl hl (by decide) rfl (fun ls hl => ?_)
  refine lv_iconst (v := 2) hx hb dL_advance_16 (by decide) ?_
  exact W.iret (v := 2) hx hb hr (fun t9 ht9 hW9 => ⟨⟨2, (u, f), rfl, ⟨rfl, rfl⟩, by rw [ht9]; exact hP, va_K.moved hW9.alike hK, hD⟩, hS.F ht9⟩) hS.2.2 dL_advance_17
set_option maxHeartbeats 4000000 in
set_option maxRecDepth 100000 in
theorem cw_claim_ok (l : Launch) (D : va_G) (cI cZ cL : ClassId) (a : Nat → Nat) (o : Nat) (sz : Nat) (u : pg_St) (f : Nat → Int64) (n : Nat) (hn : u.1 10 = nI n) (h20 : n ≤ 20) (k x : Int32) (hthr : pg_t_claim (!pg_eq (u.1 3) (-1)) (u.1 3) u.2 (nI n) k x = 0) : Met l yL_claim wsL_claim ({ frames := 2, cells := 0, slots := 0, locals := 45 }) (va_Pc [.ref (a 0), .int k, .int x, .ref o] (pg_B D (pg_tyL cI cZ cL) (pg_wB cI cZ a u ++ [(o, .inl (cL, 1, .inr (.inl f)))]) sz)) (va_Qi (fun r z9 => r = 0 ∧ z9 = (pg_claim u n k x, vp_updL f 0 (nI n).toInt64)) (pg_E D (pg_tyL cI cZ cL) (va_A (pg_wB cI cZ a u ++ [(o, .inl (cL, 1, .inr (.inl f)))]) sz) (fun z9 : pg_St × (Nat → Int64) => pg_wB cI cZ a z9.1 ++ [(o, .inl (cL, 1, .inr (.inl z9.2)))])) (va_A (pg_wB cI cZ a u ++ [(o, .inl (cL, 1, .inr (.inl f)))]) sz)) 0 0 (va_A (pg_wB cI cZ a u ++ [(o, .inl (cL, 1, .inr (.inl f)))]) sz) := by
  refine pg_ofWH (cc := cL_claim) (maxL := 5) (ret := (some .int)) (by decide) rfl ?_
  intro p e s m args below meth c s₁ B hml hv
  obtain ⟨rfl, hsz, hP, hK, hD0⟩ := hv
  have hx := B.exec
  have hb := B.bytes
  have hr := B.returns
  have hts := atoms_spec (ws := wsL_claim) B.pre
  have hown : s.vm.findClass RL = some m.cls := findClass_of_methodNamed B.named
  have hlocks := B.notSynchronized
  subst hsz
  have hD := hD0.self (sz := s.heap.size)
  generalize hAe : va_A (pg_wB cI cZ a u ++ [(o, .inl (cL, 1, .inr (.inl f)))]) s.heap.size = A at hD ⊢
  have hA : ∀ q : Nat, s.heap.size ≤ q → A q := fun q h => by rw [← hAe]; exact Or.inr h
  have hS : va_S A s.heap s.heap [] := va_S.rf
  have hl := lv_entry ([.ref (a 0), .int k, .int x, .ref o]) (n := 5) (Nat.le_of_ble_eq_true rfl)
  rw [lg_entry_eq]
  generalize (lg_sl ([.ref (a 0), .int k, .int x, .ref o]) ++ List.replicate (5 - (lg_sl ([.ref (a 0), .int k, .int x, .ref o])).length) Slot.unset).toArray = ls at hl ⊢
  have hl : lv_has ls 5 [(0, .ref (a 0)), (1, .int k), (2, .int x), (3, .ref o)] := hl
  refine lv_aload_n hx hb dL_claim_0 rfl (lv_at hl 3 rfl) ?_
  refine lv_iconst (v := 0) hx hb dL_claim_1 (by decide) ?_
  refine lv_aload_n hx hb dL_claim_2 rfl (lv_at hl 0 rfl) ?_
  refine lv_iload_n hx hb dL_claim_3 rfl (lv_at hl 1 rfl) ?_
  refine lv_iload_n hx hb dL_claim_4 rfl (lv_at hl 2 rfl) ?_
  refine pg_iL (pg_rV (As := [.int k, .int x]) (rest := [.int 0, .ref o]) ⟨hx, hb, hml, hown, hts⟩ (cc_claim_ok l D cI cZ a s.heap.size u n hn h20 k x hthr) (cwV 2 hts gL_claim_X4_claim rfl rfl rfl (by decide +kernel) ⟨Nat.le_of_ble_eq_true rfl, Nat.le_of_ble_eq_true rfl⟩) (hK.sub [0, 1] rfl) (pg_PL hP) (pg_DL hD) 0 (ci := 4) rfl rfl rfl rfl hl.1 rfl (Nat.le_of_ble_eq_true rfl) dL_claim_5 ⟨Nat.le_of_ble_eq_true rfl, Nat.le_of_ble_eq_true rfl⟩) hP hD hS hA (fun H locs hP hD hS => ?_)
  have hP : va_P D vwCl (pg_wB cI cZ a (pg_claim u n k x) ++ [(o, .inl (cL, 1, .inr (.inl f)))]) H := hP
  have hD : va_D A (pg_wB cI cZ a (pg_claim u n k x) ++ [(o, .inl (cL, 1, .inr (.inl f)))]) := hD
  refine lv_i2l (v := (nI n).toInt64) hx hb dL_claim_8 rfl ?_
  refine va_last hx hb hK hP hD hS 19 2 rfl rfl (show vp_in 0 1 from vp_in_nI (n := 0) (by decide) (by decide)) dL_claim_9 (fun H locs hP hD hS => ?_)
  have hP : va_P D vwCl (pg_wB cI cZ a (pg_claim u n k x) ++ [(o, .inl (cL, 1, .inr (.inl (vp_updL f 0 ((nI n).toInt64)))))]) H := hP
  have hD : va_D A (pg_wB cI cZ a (pg_claim u n k x) ++ [(o, .inl (cL, 1, .inr (.inl (vp_updL f 0 ((nI n).toInt64)))))]) := hD
  refine lv_goto (tgt := 25) hx hb dL_claim_10 (by decide) ?_
  refine lv_iconst (v := 0) hx hb dL_claim_25 (by decide) ?_
  exact W.iret (v := 0) hx hb hr (fun t9 ht9 hW9 => ⟨⟨0, (pg_claim u n k x, (vp_updL f 0 ((nI n).toInt64))), rfl, ⟨rfl, rfl⟩, by rw [ht9]; exact hP, va_K.moved hW9.alike hK, hD⟩, hS.F ht9⟩) hS.2.2 dL_claim_26
set_option maxHeartbeats 4000000 in
set_option maxRecDepth 100000 in
theorem cw_claim_1 (l : Launch) (hfl : l.stackTraces = false) (D : va_G) (cI cZ cL : ClassId) (a : Nat → Nat) (o : Nat) (sz : Nat) (u : pg_St) (f : Nat → Int64) (n : Nat) (hn : u.1 10 = nI n) (h20 : n ≤ 20) (k x : Int32) (hthr : pg_t_claim (!pg_eq (u.1 3) (-1)) (u.1 3) u.2 (nI n) k x = 1) : Met l yL_claim wsL_claim ({ frames := 8, cells := 1, slots := 6, locals := 131 }) (va_Pc [.ref (a 0), .int k, .int x, .ref o] (pg_T D (pg_tyL cI cZ cL) (pg_wB cI cZ a u ++ [(o, .inl (cL, 1, .inr (.inl f)))]) sz)) (va_Qi (fun r z9 => r = 1 ∧ z9 = (u, f)) (pg_E D (pg_tyL cI cZ cL) (va_A (pg_wB cI cZ a u ++ [(o, .inl (cL, 1, .inr (.inl f)))]) sz) (fun z9 : pg_St × (Nat → Int64) => pg_wB cI cZ a z9.1 ++ [(o, .inl (cL, 1, .inr (.inl z9.2)))])) (va_A (pg_wB cI cZ a u ++ [(o, .inl (cL, 1, .inr (.inl f)))]) sz)) 1 6 (va_A (pg_wB cI cZ a u ++ [(o, .inl (cL, 1, .inr (.inl f)))]) sz) := by
  refine pg_ofWH (cc := cL_claim) (maxL := 5) (ret := (some .int)) (by decide) rfl ?_
  intro p e s m args below meth c s₁ B hml hv
  obtain ⟨rfl, ⟨hsz, hP, hK, hD0⟩, hE⟩ := hv
  have hx := B.exec
  have hb := B.bytes
  have hr := B.returns
  have hts := atoms_spec (ws := wsL_claim) B.pre
  have hown : s.vm.findClass RL = some m.cls := findClass_of_methodNamed B.named
  have hlocks := B.notSynchronized
  subst hsz
  have hD := hD0.self (sz := s.heap.size)
  generalize hAe : va_A (pg_wB cI cZ a u ++ [(o, .inl (cL, 1, .inr (.inl f)))]) s.heap.size = A at hD hE ⊢
  have hA : ∀ q : Nat, s.heap.size ≤ q → A q := fun q h => by rw [← hAe]; exact Or.inr h
  have hS : va_S A s.heap s.heap [] := va_S.rf
  have hl := lv_entry ([.ref (a 0), .int k, .int x, .ref o]) (n := 5) (Nat.le_of_ble_eq_true rfl)
  rw [lg_entry_eq]
  generalize (lg_sl ([.ref (a 0), .int k, .int x, .ref o]) ++ List.replicate (5 - (lg_sl ([.ref (a 0), .int k, .int x, .ref o])).length) Slot.unset).toArray = ls at hl ⊢
  have hl : lv_has ls 5 [(0, .ref (a 0)), (1, .int k), (2, .int x), (3, .ref o)] := hl
  have htab := vx_table (x := yL_claim) B (hts _ List.mem_cons_self)
  obtain ⟨-, -, hE3, hE4, -⟩ := id hE
  have hw1 := hts (.classLink RL 20 "java/lang/IndexOutOfBoundsException") (List.mem_of_getElem? (i := 1) rfl)
  refine lv_aload_n hx hb dL_claim_0 rfl (lv_at hl 3 rfl) ?_
  refine lv_iconst (v := 0) hx hb dL_claim_1 (by decide) ?_
  refine lv_aload_n hx hb dL_claim_2 rfl (lv_at hl 0 rfl) ?_
  refine lv_iload_n hx hb dL_claim_3 rfl (lv_at hl 1 rfl) ?_
  refine lv_iload_n hx hb dL_claim_4 rfl (lv_at hl 2 rfl) ?_
  refine pg_catL (pg_xV (As := [.int k, .int x]) (rest := [.int 0, .ref o]) ⟨hx, hb, hml, hown, hts⟩ (cc_claim_no l hfl D cI cZ a s.heap.size u n hn h20 k x 1 pg_io hthr (by decide) (fun _ => rfl) (fun h9 => absurd h9 (by decide)) (fun h9 => absurd h9 (by decide))) (cwV 2 hts gL_claim_X4_claim rfl rfl rfl (by decide +kernel) ⟨Nat.le_of_ble_eq_true rfl, Nat.le_of_ble_eq_true rfl⟩) (hK.sub [0, 1] rfl) (pg_PL hP) (pg_DL hD) hS hA hE 0 (ci := 4) rfl rfl rfl rfl hl.1 rfl (Nat.le_of_ble_eq_true rfl) dL_claim_5 ⟨Nat.le_of_ble_eq_true rfl, Nat.le_of_ble_eq_true rfl⟩) hP hD hS hA (fun ce q9 H locs hP hS hce hcv hcl => ?_)
  refine vx_catch (own := RL) (name := pg_io) hown [] ⟨0, 10, 13, 20⟩ [⟨0, 10, 17, 13⟩, ⟨0, 10, 21, 15⟩] (by rw [htab]; rfl) (fun _ h9 => nomatch h9) (by decide) (by decide) hw1 (va_Nw.use rfl (hE3 (Cond.castable pg_io pg_io) (List.mem_of_getElem? (i := 2) rfl))) hce hcv hcl ?_
  refine W.widen (k := 1) (n := 6) (Nat.le_of_ble_eq_true rfl) (Nat.le_of_ble_eq_true rfl) ?_
  refine W.eq (g2 := F0 m 13 ls [.ref q9]) rfl ?_
  refine lv_astore (lv' := [(4, .ref q9), (0, .ref (a 0)), (1, .int k), (2, .int x), (3, .ref o)]) hx hb dL_claim_13 hl (by decide) rfl (fun ls hl => ?_)
  refine lv_iconst (v := 1) hx hb dL_claim_15 (by decide) ?_
  exact W.iret (v := 1) hx hb hr (fun t9 ht9 hW9 => ⟨⟨1, (u, f), rfl, ⟨rfl, rfl⟩, by rw [ht9]; exact hP, va_K.moved hW9.alike hK, hD⟩, hS.F ht9⟩) hS.2.2 dL_claim_16
set_option maxHeartbeats 4000000 in
set_option maxRecDepth 100000 in
theorem cw_claim_2 (l : Launch) (hfl : l.stackTraces = false) (D : va_G) (cI cZ cL : ClassId) (a : Nat → Nat) (o : Nat) (sz : Nat) (u : pg_St) (f : Nat → Int64) (n : Nat) (hn : u.1 10 = nI n) (h20 : n ≤ 20) (k x : Int32) (hthr : pg_t_claim (!pg_eq (u.1 3) (-1)) (u.1 3) u.2 (nI n) k x = 2) : Met l yL_claim wsL_claim ({ frames := 8, cells := 1, slots := 6, locals := 131 }) (va_Pc [.ref (a 0), .int k, .int x, .ref o] (pg_T D (pg_tyL cI cZ cL) (pg_wB cI cZ a u ++ [(o, .inl (cL, 1, .inr (.inl f)))]) sz)) (va_Qi (fun r z9 => r = 2 ∧ z9 = (u, f)) (pg_E D (pg_tyL cI cZ cL) (va_A (pg_wB cI cZ a u ++ [(o, .inl (cL, 1, .inr (.inl f)))]) sz) (fun z9 : pg_St × (Nat → Int64) => pg_wB cI cZ a z9.1 ++ [(o, .inl (cL, 1, .inr (.inl z9.2)))])) (va_A (pg_wB cI cZ a u ++ [(o, .inl (cL, 1, .inr (.inl f)))]) sz)) 1 6 (va_A (pg_wB cI cZ a u ++ [(o, .inl (cL, 1, .inr (.inl f)))]) sz) := by
  refine pg_ofWH (cc := cL_claim) (maxL := 5) (ret := (some .int)) (by decide) rfl ?_
  intro p e s m args below meth c s₁ B hml hv
  obtain ⟨rfl, ⟨hsz, hP, hK, hD0⟩, hE⟩ := hv
  have hx := B.exec
  have hb := B.bytes
  have hr := B.returns
  have hts := atoms_spec (ws := wsL_claim) B.pre
  have hown : s.vm.findClass RL = some m.cls := findClass_of_methodNamed B.named
  have hlocks := B.notSynchronized
  subst hsz
  have hD := hD0.self (sz := s.heap.size)
  generalize hAe : va_A (pg_wB cI cZ a u ++ [(o, .inl (cL, 1, .inr (.inl f)))]) s.heap.size = A at hD hE ⊢
  have hA : ∀ q : Nat, s.heap.size ≤ q → A q := fun q h => by rw [← hAe]; exact Or.inr h
  have hS : va_S A s.heap s.heap [] := va_S.rf
  have hl := lv_entry ([.ref (a 0), .int k, .int x, .ref o]) (n := 5) (Nat.le_of_ble_eq_true rfl)
  rw [lg_entry_eq]
  generalize (lg_sl ([.ref (a 0), .int k, .int x, .ref o]) ++ List.replicate (5 - (lg_sl ([.ref (a 0), .int k, .int x, .ref o])).length) Slot.unset).toArray = ls at hl ⊢
  have hl : lv_has ls 5 [(0, .ref (a 0)), (1, .int k), (2, .int x), (3, .ref o)] := hl
  have htab := vx_table (x := yL_claim) B (hts _ List.mem_cons_self)
  obtain ⟨-, -, hE3, hE4, -⟩ := id hE
  have hw1 := hts (.classLink RL 20 "java/lang/IndexOutOfBoundsException") (List.mem_of_getElem? (i := 1) rfl)
  have hw2 := hts (.classLink RL 13 "java/lang/IllegalArgumentException") (List.mem_of_getElem? (i := 2) rfl)
  refine lv_aload_n hx hb dL_claim_0 rfl (lv_at hl 3 rfl) ?_
  refine lv_iconst (v := 0) hx hb dL_claim_1 (by decide) ?_
  refine lv_aload_n hx hb dL_claim_2 rfl (lv_at hl 0 rfl) ?_
  refine lv_iload_n hx hb dL_claim_3 rfl (lv_at hl 1 rfl) ?_
  refine lv_iload_n hx hb dL_claim_4 rfl (lv_at hl 2 rfl) ?_
  refine pg_catL (pg_xV (As := [.int k, .int x]) (rest := [.int 0, .ref o]) ⟨hx, hb, hml, hown, hts⟩ (cc_claim_no l hfl D cI cZ a s.heap.size u n hn h20 k x 2 pg_ia hthr (by decide) (fun h9 => absurd h9 (by decide)) (fun _ => rfl) (fun h9 => absurd h9 (by decide))) (cwV 2 hts gL_claim_X4_claim rfl rfl rfl (by decide +kernel) ⟨Nat.le_of_ble_eq_true rfl, Nat.le_of_ble_eq_true rfl⟩) (hK.sub [0, 1] rfl) (pg_PL hP) (pg_DL hD) hS hA hE 0 (ci := 4) rfl rfl rfl rfl hl.1 rfl (Nat.le_of_ble_eq_true rfl) dL_claim_5 ⟨Nat.le_of_ble_eq_true rfl, Nat.le_of_ble_eq_true rfl⟩) hP hD hS hA (fun ce q9 H locs hP hS hce hcv hcl => ?_)
  refine vx_catch (own := RL) (name := pg_ia) hown [⟨0, 10, 13, 20⟩] ⟨0, 10, 17, 13⟩ [⟨0, 10, 21, 15⟩] (by rw [htab]; rfl) (fun z9 h9 => by rw [List.mem_singleton.mp h9]; exact Or.inr ⟨by decide, "java/lang/IndexOutOfBoundsException", hw1, hE4 (pg_ia, pg_io) (List.mem_of_getElem? (i := 1) rfl)⟩) (by decide) (by decide) hw2 (va_Nw.use rfl (hE3 (Cond.castable pg_ia pg_ia) (List.mem_of_getElem? (i := 0) rfl))) hce hcv hcl ?_
  refine W.widen (k := 1) (n := 6) (Nat.le_of_ble_eq_true rfl) (Nat.le_of_ble_eq_true rfl) ?_
  refine W.eq (g2 := F0 m 17 ls [.ref q9]) rfl ?_
  refine lv_astore (lv' := [(4, .ref q9), (0, .ref (a 0)), (1, .int k), (2, .int x), (3, .ref o)]) hx hb dL_claim_17 hl (by decide) rfl (fun ls hl => ?_)
  refine lv_iconst (v := 2) hx hb dL_claim_19 (by decide) ?_
  exact W.iret (v := 2) hx hb hr (fun t9 ht9 hW9 => ⟨⟨2, (u, f), rfl, ⟨rfl, rfl⟩, by rw [ht9]; exact hP, va_K.moved hW9.alike hK, hD⟩, hS.F ht9⟩) hS.2.2 dL_claim_20
set_option maxHeartbeats 4000000 in
set_option maxRecDepth 100000 in
theorem cw_claim_3 (l : Launch) (hfl : l.stackTraces = false) (D : va_G) (cI cZ cL : ClassId) (a : Nat → Nat) (o : Nat) (sz : Nat) (u : pg_St) (f : Nat → Int64) (n : Nat) (hn : u.1 10 = nI n) (h20 : n ≤ 20) (k x : Int32) (hthr : pg_t_claim (!pg_eq (u.1 3) (-1)) (u.1 3) u.2 (nI n) k x = 3) : Met l yL_claim wsL_claim ({ frames := 8, cells := 1, slots := 6, locals := 131 }) (va_Pc [.ref (a 0), .int k, .int x, .ref o] (pg_T D (pg_tyL cI cZ cL) (pg_wB cI cZ a u ++ [(o, .inl (cL, 1, .inr (.inl f)))]) sz)) (va_Qi (fun r z9 => r = 3 ∧ z9 = (u, f)) (pg_E D (pg_tyL cI cZ cL) (va_A (pg_wB cI cZ a u ++ [(o, .inl (cL, 1, .inr (.inl f)))]) sz) (fun z9 : pg_St × (Nat → Int64) => pg_wB cI cZ a z9.1 ++ [(o, .inl (cL, 1, .inr (.inl z9.2)))])) (va_A (pg_wB cI cZ a u ++ [(o, .inl (cL, 1, .inr (.inl f)))]) sz)) 1 6 (va_A (pg_wB cI cZ a u ++ [(o, .inl (cL, 1, .inr (.inl f)))]) sz) := by
  refine pg_ofWH (cc := cL_claim) (maxL := 5) (ret := (some .int)) (by decide) rfl ?_
  intro p e s m args below meth c s₁ B hml hv
  obtain ⟨rfl, ⟨hsz, hP, hK, hD0⟩, hE⟩ := hv
  have hx := B.exec
  have hb := B.bytes
  have hr := B.returns
  have hts := atoms_spec (ws := wsL_claim) B.pre
  have hown : s.vm.findClass RL = some m.cls := findClass_of_methodNamed B.named
  have hlocks := B.notSynchronized
  subst hsz
  have hD := hD0.self (sz := s.heap.size)
  generalize hAe : va_A (pg_wB cI cZ a u ++ [(o, .inl (cL, 1, .inr (.inl f)))]) s.heap.size = A at hD hE ⊢
  have hA : ∀ q : Nat, s.heap.size ≤ q → A q := fun q h => by rw [← hAe]; exact Or.inr h
  have hS : va_S A s.heap s.heap [] := va_S.rf
  have hl := lv_entry ([.ref (a 0), .int k, .int x, .ref o]) (n := 5) (Nat.le_of_ble_eq_true rfl)
  rw [lg_entry_eq]
  generalize (lg_sl ([.ref (a 0), .int k, .int x, .ref o]) ++ List.replicate (5 - (lg_sl ([.ref (a 0), .int k, .int x, .ref o])).length) Slot.unset).toArray = ls at hl ⊢
  have hl : lv_has ls 5 [(0, .ref (a 0)), (1, .int k), (2, .int x), (3, .ref o)] := hl
  have htab := vx_table (x := yL_claim) B (hts _ List.mem_cons_self)
  obtain ⟨-, -, hE3, hE4, -⟩ := id hE
  have hw1 := hts (.classLink RL 20 "java/lang/IndexOutOfBoundsException") (List.mem_of_getElem? (i := 1) rfl)
  have hw2 := hts (.classLink RL 13 "java/lang/IllegalArgumentException") (List.mem_of_getElem? (i := 2) rfl)
  have hw3 := hts (.classLink RL 15 "java/lang/IllegalStateException") (List.mem_of_getElem? (i := 3) rfl)
  refine lv_aload_n hx hb dL_claim_0 rfl (lv_at hl 3 rfl) ?_
  refine lv_iconst (v := 0) hx hb dL_claim_1 (by decide) ?_
  refine lv_aload_n hx hb dL_claim_2 rfl (lv_at hl 0 rfl) ?_
  refine lv_iload_n hx hb dL_claim_3 rfl (lv_at hl 1 rfl) ?_
  refine lv_iload_n hx hb dL_claim_4 rfl (lv_at hl 2 rfl) ?_
  refine pg_catL (pg_xV (As := [.int k, .int x]) (rest := [.int 0, .ref o]) ⟨hx, hb, hml, hown, hts⟩ (cc_claim_no l hfl D cI cZ a s.heap.size u n hn h20 k x 3 pg_is hthr (by decide) (fun h9 => absurd h9 (by decide)) (fun h9 => absurd h9 (by decide)) (fun _ => rfl)) (cwV 2 hts gL_claim_X4_claim rfl rfl rfl (by decide +kernel) ⟨Nat.le_of_ble_eq_true rfl, Nat.le_of_ble_eq_true rfl⟩) (hK.sub [0, 1] rfl) (pg_PL hP) (pg_DL hD) hS hA hE 0 (ci := 4) rfl rfl rfl rfl hl.1 rfl (Nat.le_of_ble_eq_true rfl) dL_claim_5 ⟨Nat.le_of_ble_eq_true rfl, Nat.le_of_ble_eq_true rfl⟩) hP hD hS hA (fun ce q9 H locs hP hS hce hcv hcl => ?_)
  refine vx_catch (own := RL) (name := pg_is) hown [⟨0, 10, 13, 20⟩, ⟨0, 10, 17, 13⟩] ⟨0, 10, 21, 15⟩ [] (by rw [htab]; rfl) (fun z9 h9 => by rcases List.mem_cons.mp h9 with rfl | h9; exact Or.inr ⟨by decide, "java/lang/IndexOutOfBoundsException", hw1, hE4 (pg_is, pg_io) (List.mem_of_getElem? (i := 3) rfl)⟩; rw [List.mem_singleton.mp h9]; exact Or.inr ⟨by decide, "java/lang/IllegalArgumentException", hw2, hE4 (pg_is, pg_ia) (List.mem_of_getElem? (i := 2) rfl)⟩) (by decide) (by decide) hw3 (va_Nw.use rfl (hE3 (Cond.castable pg_is pg_is) (List.mem_of_getElem? (i := 1) rfl))) hce hcv hcl ?_
  refine W.widen (k := 1) (n := 6) (Nat.le_of_ble_eq_true rfl) (Nat.le_of_ble_eq_true rfl) ?_
  refine W.eq (g2 := F0 m 21 ls [.ref q9]) rfl ?_
  refine lv_astore (lv' := [(4, .ref q9), (0, .ref (a 0)), (1, .int k), (2, .int x), (3, .ref o)]) hx hb dL_claim_21 hl (by decide) rfl (fun ls hl => ?_)
  refine lv_iconst (v := 3) hx hb dL_claim_23 (by decide) ?_
  exact W.iret (v := 3) hx hb hr (fun t9 ht9 hW9 => ⟨⟨3, (u, f), rfl, ⟨rfl, rfl⟩, by rw [ht9]; exact hP, va_K.moved hW9.alike hK, hD⟩, hS.F ht9⟩) hS.2.2 dL_claim_24
set_option maxHeartbeats 4000000 in
set_option maxRecDepth 100000 in
theorem cw_offer_ok (l : Launch) (D : va_G) (cI cZ cL : ClassId) (a : Nat → Nat) (o : Nat) (sz : Nat) (u : pg_St) (f : Nat → Int64) (n : Nat) (hn : u.1 10 = nI n) (h20 : n ≤ 20) (k x : Int32) (hthr : pg_t_offer u.2 (nI n) k x = 0) : Met l yL_offer wsL_offer ({ frames := 2, cells := 0, slots := 0, locals := 45 }) (va_Pc [.ref (a 0), .int k, .int x, .ref o] (pg_B D (pg_tyL cI cZ cL) (pg_wB cI cZ a u ++ [(o, .inl (cL, 1, .inr (.inl f)))]) sz)) (va_Qi (fun r z9 => r = 0 ∧ z9 = ((u.1, pg_row u.2 9 (upd (u.2 9) k.toNatClampNeg x)), vp_updL f 0 (u.2 9 k.toNatClampNeg).toInt64)) (pg_E D (pg_tyL cI cZ cL) (va_A (pg_wB cI cZ a u ++ [(o, .inl (cL, 1, .inr (.inl f)))]) sz) (fun z9 : pg_St × (Nat → Int64) => pg_wB cI cZ a z9.1 ++ [(o, .inl (cL, 1, .inr (.inl z9.2)))])) (va_A (pg_wB cI cZ a u ++ [(o, .inl (cL, 1, .inr (.inl f)))]) sz)) 0 0 (va_A (pg_wB cI cZ a u ++ [(o, .inl (cL, 1, .inr (.inl f)))]) sz) := by
  refine pg_ofWH (cc := cL_offer) (maxL := 5) (ret := (some .int)) (by decide) rfl ?_
  intro p e s m args below meth c s₁ B hml hv
  obtain ⟨rfl, hsz, hP, hK, hD0⟩ := hv
  have hx := B.exec
  have hb := B.bytes
  have hr := B.returns
  have hts := atoms_spec (ws := wsL_offer) B.pre
  have hown : s.vm.findClass RL = some m.cls := findClass_of_methodNamed B.named
  have hlocks := B.notSynchronized
  subst hsz
  have hD := hD0.self (sz := s.heap.size)
  generalize hAe : va_A (pg_wB cI cZ a u ++ [(o, .inl (cL, 1, .inr (.inl f)))]) s.heap.size = A at hD ⊢
  have hA : ∀ q : Nat, s.heap.size ≤ q → A q := fun q h => by rw [← hAe]; exact Or.inr h
  have hS : va_S A s.heap s.heap [] := va_S.rf
  have hl := lv_entry ([.ref (a 0), .int k, .int x, .ref o]) (n := 5) (Nat.le_of_ble_eq_true rfl)
  rw [lg_entry_eq]
  generalize (lg_sl ([.ref (a 0), .int k, .int x, .ref o]) ++ List.replicate (5 - (lg_sl ([.ref (a 0), .int k, .int x, .ref o])).length) Slot.unset).toArray = ls at hl ⊢
  have hl : lv_has ls 5 [(0, .ref (a 0)), (1, .int k), (2, .int x), (3, .ref o)] := hl
  refine lv_aload_n hx hb dL_offer_0 rfl (lv_at hl 3 rfl) ?_
  refine lv_iconst (v := 0) hx hb dL_offer_1 (by decide) ?_
  refine lv_aload_n hx hb dL_offer_2 rfl (lv_at hl 0 rfl) ?_
  refine lv_iload_n hx hb dL_offer_3 rfl (lv_at hl 1 rfl) ?_
  refine lv_iload_n hx hb dL_offer_4 rfl (lv_at hl 2 rfl) ?_
  refine pg_iL (pg_rV (As := [.int k, .int x]) (rest := [.int 0, .ref o]) ⟨hx, hb, hml, hown, hts⟩ (cc_offer_ok l D cI cZ a s.heap.size u n hn h20 k x hthr) (cwV 2 hts gL_offer_X4_offer rfl rfl rfl (by decide +kernel) ⟨Nat.le_of_ble_eq_true rfl, Nat.le_of_ble_eq_true rfl⟩) (hK.sub [0, 1] rfl) (pg_PL hP) (pg_DL hD) 0 (ci := 4) rfl rfl rfl rfl hl.1 rfl (Nat.le_of_ble_eq_true rfl) dL_offer_5 ⟨Nat.le_of_ble_eq_true rfl, Nat.le_of_ble_eq_true rfl⟩) hP hD hS hA (fun H locs hP hD hS => ?_)
  have hP : va_P D vwCl (pg_wB cI cZ a (u.1, pg_row u.2 9 (upd (u.2 9) k.toNatClampNeg x)) ++ [(o, .inl (cL, 1, .inr (.inl f)))]) H := hP
  have hD : va_D A (pg_wB cI cZ a (u.1, pg_row u.2 9 (upd (u.2 9) k.toNatClampNeg x)) ++ [(o, .inl (cL, 1, .inr (.inl f)))]) := hD
  refine lv_i2l (v := (u.2 9 k.toNatClampNeg).toInt64) hx hb dL_offer_8 rfl ?_
  refine va_last hx hb hK hP hD hS 19 2 rfl rfl (show vp_in 0 1 from vp_in_nI (n := 0) (by decide) (by decide)) dL_offer_9 (fun H locs hP hD hS => ?_)
  have hP : va_P D vwCl (pg_wB cI cZ a (u.1, pg_row u.2 9 (upd (u.2 9) k.toNatClampNeg x)) ++ [(o, .inl (cL, 1, .inr (.inl (vp_updL f 0 ((u.2 9 k.toNatClampNeg).toInt64)))))]) H := hP
  have hD : va_D A (pg_wB cI cZ a (u.1, pg_row u.2 9 (upd (u.2 9) k.toNatClampNeg x)) ++ [(o, .inl (cL, 1, .inr (.inl (vp_updL f 0 ((u.2 9 k.toNatClampNeg).toInt64)))))]) := hD
  refine lv_goto (tgt := 25) hx hb dL_offer_10 (by decide) ?_
  refine lv_iconst (v := 0) hx hb dL_offer_25 (by decide) ?_
  exact W.iret (v := 0) hx hb hr (fun t9 ht9 hW9 => ⟨⟨0, ((u.1, pg_row u.2 9 (upd (u.2 9) k.toNatClampNeg x)), (vp_updL f 0 ((u.2 9 k.toNatClampNeg).toInt64))), rfl, ⟨rfl, rfl⟩, by rw [ht9]; exact hP, va_K.moved hW9.alike hK, hD⟩, hS.F ht9⟩) hS.2.2 dL_offer_26
set_option maxHeartbeats 4000000 in
set_option maxRecDepth 100000 in
theorem cw_offer_1 (l : Launch) (hfl : l.stackTraces = false) (D : va_G) (cI cZ cL : ClassId) (a : Nat → Nat) (o : Nat) (sz : Nat) (u : pg_St) (f : Nat → Int64) (n : Nat) (hn : u.1 10 = nI n) (h20 : n ≤ 20) (k x : Int32) (hthr : pg_t_offer u.2 (nI n) k x = 1) : Met l yL_offer wsL_offer ({ frames := 8, cells := 1, slots := 6, locals := 131 }) (va_Pc [.ref (a 0), .int k, .int x, .ref o] (pg_T D (pg_tyL cI cZ cL) (pg_wB cI cZ a u ++ [(o, .inl (cL, 1, .inr (.inl f)))]) sz)) (va_Qi (fun r z9 => r = 1 ∧ z9 = (u, f)) (pg_E D (pg_tyL cI cZ cL) (va_A (pg_wB cI cZ a u ++ [(o, .inl (cL, 1, .inr (.inl f)))]) sz) (fun z9 : pg_St × (Nat → Int64) => pg_wB cI cZ a z9.1 ++ [(o, .inl (cL, 1, .inr (.inl z9.2)))])) (va_A (pg_wB cI cZ a u ++ [(o, .inl (cL, 1, .inr (.inl f)))]) sz)) 1 6 (va_A (pg_wB cI cZ a u ++ [(o, .inl (cL, 1, .inr (.inl f)))]) sz) := by
  refine pg_ofWH (cc := cL_offer) (maxL := 5) (ret := (some .int)) (by decide) rfl ?_
  intro p e s m args below meth c s₁ B hml hv
  obtain ⟨rfl, ⟨hsz, hP, hK, hD0⟩, hE⟩ := hv
  have hx := B.exec
  have hb := B.bytes
  have hr := B.returns
  have hts := atoms_spec (ws := wsL_offer) B.pre
  have hown : s.vm.findClass RL = some m.cls := findClass_of_methodNamed B.named
  have hlocks := B.notSynchronized
  subst hsz
  have hD := hD0.self (sz := s.heap.size)
  generalize hAe : va_A (pg_wB cI cZ a u ++ [(o, .inl (cL, 1, .inr (.inl f)))]) s.heap.size = A at hD hE ⊢
  have hA : ∀ q : Nat, s.heap.size ≤ q → A q := fun q h => by rw [← hAe]; exact Or.inr h
  have hS : va_S A s.heap s.heap [] := va_S.rf
  have hl := lv_entry ([.ref (a 0), .int k, .int x, .ref o]) (n := 5) (Nat.le_of_ble_eq_true rfl)
  rw [lg_entry_eq]
  generalize (lg_sl ([.ref (a 0), .int k, .int x, .ref o]) ++ List.replicate (5 - (lg_sl ([.ref (a 0), .int k, .int x, .ref o])).length) Slot.unset).toArray = ls at hl ⊢
  have hl : lv_has ls 5 [(0, .ref (a 0)), (1, .int k), (2, .int x), (3, .ref o)] := hl
  have htab := vx_table (x := yL_offer) B (hts _ List.mem_cons_self)
  obtain ⟨-, -, hE3, hE4, -⟩ := id hE
  have hw1 := hts (.classLink RL 20 "java/lang/IndexOutOfBoundsException") (List.mem_of_getElem? (i := 1) rfl)
  refine lv_aload_n hx hb dL_offer_0 rfl (lv_at hl 3 rfl) ?_
  refine lv_iconst (v := 0) hx hb dL_offer_1 (by decide) ?_
  refine lv_aload_n hx hb dL_offer_2 rfl (lv_at hl 0 rfl) ?_
  refine lv_iload_n hx hb dL_offer_3 rfl (lv_at hl 1 rfl) ?_
  refine lv_iload_n hx hb dL_offer_4 rfl (lv_at hl 2 rfl) ?_
  refine pg_catL (pg_xV (As := [.int k, .int x]) (rest := [.int 0, .ref o]) ⟨hx, hb, hml, hown, hts⟩ (cc_offer_no l hfl D cI cZ a s.heap.size u n hn h20 k x 1 pg_io hthr (by decide) (fun _ => rfl) (fun h9 => absurd h9 (by decide)) (fun h9 => absurd h9 (by decide))) (cwV 2 hts gL_offer_X4_offer rfl rfl rfl (by decide +kernel) ⟨Nat.le_of_ble_eq_true rfl, Nat.le_of_ble_eq_true rfl⟩) (hK.sub [0, 1] rfl) (pg_PL hP) (pg_DL hD) hS hA hE 0 (ci := 4) rfl rfl rfl rfl hl.1 rfl (Nat.le_of_ble_eq_true rfl) dL_offer_5 ⟨Nat.le_of_ble_eq_true rfl, Nat.le_of_ble_eq_true rfl⟩) hP hD hS hA (fun ce q9 H locs hP hS hce hcv hcl => ?_)
  refine vx_catch (own := RL) (name := pg_io) hown [] ⟨0, 10, 13, 20⟩ [⟨0, 10, 17, 15⟩, ⟨0, 10, 21, 13⟩] (by rw [htab]; rfl) (fun _ h9 => nomatch h9) (by decide) (by decide) hw1 (va_Nw.use rfl (hE3 (Cond.castable pg_io pg_io) (List.mem_of_getElem? (i := 2) rfl))) hce hcv hcl ?_
  refine W.widen (k := 1) (n := 6) (Nat.le_of_ble_eq_true rfl) (Nat.le_of_ble_eq_true rfl) ?_
  refine W.eq (g2 := F0 m 13 ls [.ref q9]) rfl ?_
  refine lv_astore (lv' := [(4, .ref q9), (0, .ref (a 0)), (1, .int k), (2, .int x), (3, .ref o)]) hx hb dL_offer_13 hl (by decide) rfl (fun ls hl => ?_)
  refine lv_iconst (v := 1) hx hb dL_offer_15 (by decide) ?_
  exact W.iret (v := 1) hx hb hr (fun t9 ht9 hW9 => ⟨⟨1, (u, f), rfl, ⟨rfl, rfl⟩, by rw [ht9]; exact hP, va_K.moved hW9.alike hK, hD⟩, hS.F ht9⟩) hS.2.2 dL_offer_16
set_option maxHeartbeats 4000000 in
set_option maxRecDepth 100000 in
theorem cw_offer_2 (l : Launch) (hfl : l.stackTraces = false) (D : va_G) (cI cZ cL : ClassId) (a : Nat → Nat) (o : Nat) (sz : Nat) (u : pg_St) (f : Nat → Int64) (n : Nat) (hn : u.1 10 = nI n) (h20 : n ≤ 20) (k x : Int32) (hthr : pg_t_offer u.2 (nI n) k x = 2) : Met l yL_offer wsL_offer ({ frames := 8, cells := 1, slots := 6, locals := 131 }) (va_Pc [.ref (a 0), .int k, .int x, .ref o] (pg_T D (pg_tyL cI cZ cL) (pg_wB cI cZ a u ++ [(o, .inl (cL, 1, .inr (.inl f)))]) sz)) (va_Qi (fun r z9 => r = 2 ∧ z9 = (u, f)) (pg_E D (pg_tyL cI cZ cL) (va_A (pg_wB cI cZ a u ++ [(o, .inl (cL, 1, .inr (.inl f)))]) sz) (fun z9 : pg_St × (Nat → Int64) => pg_wB cI cZ a z9.1 ++ [(o, .inl (cL, 1, .inr (.inl z9.2)))])) (va_A (pg_wB cI cZ a u ++ [(o, .inl (cL, 1, .inr (.inl f)))]) sz)) 1 6 (va_A (pg_wB cI cZ a u ++ [(o, .inl (cL, 1, .inr (.inl f)))]) sz) := by
  refine pg_ofWH (cc := cL_offer) (maxL := 5) (ret := (some .int)) (by decide) rfl ?_
  intro p e s m args below meth c s₁ B hml hv
  obtain ⟨rfl, ⟨hsz, hP, hK, hD0⟩, hE⟩ := hv
  have hx := B.exec
  have hb := B.bytes
  have hr := B.returns
  have hts := atoms_spec (ws := wsL_offer) B.pre
  have hown : s.vm.findClass RL = some m.cls := findClass_of_methodNamed B.named
  have hlocks := B.notSynchronized
  subst hsz
  have hD := hD0.self (sz := s.heap.size)
  generalize hAe : va_A (pg_wB cI cZ a u ++ [(o, .inl (cL, 1, .inr (.inl f)))]) s.heap.size = A at hD hE ⊢
  have hA : ∀ q : Nat, s.heap.size ≤ q → A q := fun q h => by rw [← hAe]; exact Or.inr h
  have hS : va_S A s.heap s.heap [] := va_S.rf
  have hl := lv_entry ([.ref (a 0), .int k, .int x, .ref o]) (n := 5) (Nat.le_of_ble_eq_true rfl)
  rw [lg_entry_eq]
  generalize (lg_sl ([.ref (a 0), .int k, .int x, .ref o]) ++ List.replicate (5 - (lg_sl ([.ref (a 0), .int k, .int x, .ref o])).length) Slot.unset).toArray = ls at hl ⊢
  have hl : lv_has ls 5 [(0, .ref (a 0)), (1, .int k), (2, .int x), (3, .ref o)] := hl
  have htab := vx_table (x := yL_offer) B (hts _ List.mem_cons_self)
  obtain ⟨-, -, hE3, hE4, -⟩ := id hE
  have hw1 := hts (.classLink RL 20 "java/lang/IndexOutOfBoundsException") (List.mem_of_getElem? (i := 1) rfl)
  have hw2 := hts (.classLink RL 15 "java/lang/IllegalStateException") (List.mem_of_getElem? (i := 2) rfl)
  refine lv_aload_n hx hb dL_offer_0 rfl (lv_at hl 3 rfl) ?_
  refine lv_iconst (v := 0) hx hb dL_offer_1 (by decide) ?_
  refine lv_aload_n hx hb dL_offer_2 rfl (lv_at hl 0 rfl) ?_
  refine lv_iload_n hx hb dL_offer_3 rfl (lv_at hl 1 rfl) ?_
  refine lv_iload_n hx hb dL_offer_4 rfl (lv_at hl 2 rfl) ?_
  refine pg_catL (pg_xV (As := [.int k, .int x]) (rest := [.int 0, .ref o]) ⟨hx, hb, hml, hown, hts⟩ (cc_offer_no l hfl D cI cZ a s.heap.size u n hn h20 k x 2 pg_is hthr (by decide) (fun h9 => absurd h9 (by decide)) (fun _ => rfl) (fun h9 => absurd h9 (by decide))) (cwV 2 hts gL_offer_X4_offer rfl rfl rfl (by decide +kernel) ⟨Nat.le_of_ble_eq_true rfl, Nat.le_of_ble_eq_true rfl⟩) (hK.sub [0, 1] rfl) (pg_PL hP) (pg_DL hD) hS hA hE 0 (ci := 4) rfl rfl rfl rfl hl.1 rfl (Nat.le_of_ble_eq_true rfl) dL_offer_5 ⟨Nat.le_of_ble_eq_true rfl, Nat.le_of_ble_eq_true rfl⟩) hP hD hS hA (fun ce q9 H locs hP hS hce hcv hcl => ?_)
  refine vx_catch (own := RL) (name := pg_is) hown [⟨0, 10, 13, 20⟩] ⟨0, 10, 17, 15⟩ [⟨0, 10, 21, 13⟩] (by rw [htab]; rfl) (fun z9 h9 => by rw [List.mem_singleton.mp h9]; exact Or.inr ⟨by decide, "java/lang/IndexOutOfBoundsException", hw1, hE4 (pg_is, pg_io) (List.mem_of_getElem? (i := 3) rfl)⟩) (by decide) (by decide) hw2 (va_Nw.use rfl (hE3 (Cond.castable pg_is pg_is) (List.mem_of_getElem? (i := 1) rfl))) hce hcv hcl ?_
  refine W.widen (k := 1) (n := 6) (Nat.le_of_ble_eq_true rfl) (Nat.le_of_ble_eq_true rfl) ?_
  refine W.eq (g2 := F0 m 17 ls [.ref q9]) rfl ?_
  refine lv_astore (lv' := [(4, .ref q9), (0, .ref (a 0)), (1, .int k), (2, .int x), (3, .ref o)]) hx hb dL_offer_17 hl (by decide) rfl (fun ls hl => ?_)
  refine lv_iconst (v := 2) hx hb dL_offer_19 (by decide) ?_
  exact W.iret (v := 2) hx hb hr (fun t9 ht9 hW9 => ⟨⟨2, (u, f), rfl, ⟨rfl, rfl⟩, by rw [ht9]; exact hP, va_K.moved hW9.alike hK, hD⟩, hS.F ht9⟩) hS.2.2 dL_offer_20
set_option maxHeartbeats 4000000 in
set_option maxRecDepth 100000 in
theorem cw_offer_3 (l : Launch) (hfl : l.stackTraces = false) (D : va_G) (cI cZ cL : ClassId) (a : Nat → Nat) (o : Nat) (sz : Nat) (u : pg_St) (f : Nat → Int64) (n : Nat) (hn : u.1 10 = nI n) (h20 : n ≤ 20) (k x : Int32) (hthr : pg_t_offer u.2 (nI n) k x = 3) : Met l yL_offer wsL_offer ({ frames := 8, cells := 1, slots := 6, locals := 131 }) (va_Pc [.ref (a 0), .int k, .int x, .ref o] (pg_T D (pg_tyL cI cZ cL) (pg_wB cI cZ a u ++ [(o, .inl (cL, 1, .inr (.inl f)))]) sz)) (va_Qi (fun r z9 => r = 3 ∧ z9 = (u, f)) (pg_E D (pg_tyL cI cZ cL) (va_A (pg_wB cI cZ a u ++ [(o, .inl (cL, 1, .inr (.inl f)))]) sz) (fun z9 : pg_St × (Nat → Int64) => pg_wB cI cZ a z9.1 ++ [(o, .inl (cL, 1, .inr (.inl z9.2)))])) (va_A (pg_wB cI cZ a u ++ [(o, .inl (cL, 1, .inr (.inl f)))]) sz)) 1 6 (va_A (pg_wB cI cZ a u ++ [(o, .inl (cL, 1, .inr (.inl f)))]) sz) := by
  refine pg_ofWH (cc := cL_offer) (maxL := 5) (ret := (some .int)) (by decide) rfl ?_
  intro p e s m args below meth c s₁ B hml hv
  obtain ⟨rfl, ⟨hsz, hP, hK, hD0⟩, hE⟩ := hv
  have hx := B.exec
  have hb := B.bytes
  have hr := B.returns
  have hts := atoms_spec (ws := wsL_offer) B.pre
  have hown : s.vm.findClass RL = some m.cls := findClass_of_methodNamed B.named
  have hlocks := B.notSynchronized
  subst hsz
  have hD := hD0.self (sz := s.heap.size)
  generalize hAe : va_A (pg_wB cI cZ a u ++ [(o, .inl (cL, 1, .inr (.inl f)))]) s.heap.size = A at hD hE ⊢
  have hA : ∀ q : Nat, s.heap.size ≤ q → A q := fun q h => by rw [← hAe]; exact Or.inr h
  have hS : va_S A s.heap s.heap [] := va_S.rf
  have hl := lv_entry ([.ref (a 0), .int k, .int x, .ref o]) (n := 5) (Nat.le_of_ble_eq_true rfl)
  rw [lg_entry_eq]
  generalize (lg_sl ([.ref (a 0), .int k, .int x, .ref o]) ++ List.replicate (5 - (lg_sl ([.ref (a 0), .int k, .int x, .ref o])).length) Slot.unset).toArray = ls at hl ⊢
  have hl : lv_has ls 5 [(0, .ref (a 0)), (1, .int k), (2, .int x), (3, .ref o)] := hl
  have htab := vx_table (x := yL_offer) B (hts _ List.mem_cons_self)
  obtain ⟨-, -, hE3, hE4, -⟩ := id hE
  have hw1 := hts (.classLink RL 20 "java/lang/IndexOutOfBoundsException") (List.mem_of_getElem? (i := 1) rfl)
  have hw2 := hts (.classLink RL 15 "java/lang/IllegalStateException") (List.mem_of_getElem? (i := 2) rfl)
  have hw3 := hts (.classLink RL 13 "java/lang/IllegalArgumentException") (List.mem_of_getElem? (i := 3) rfl)
  refine lv_aload_n hx hb dL_offer_0 rfl (lv_at hl 3 rfl) ?_
  refine lv_iconst (v := 0) hx hb dL_offer_1 (by decide) ?_
  refine lv_aload_n hx hb dL_offer_2 rfl (lv_at hl 0 rfl) ?_
  refine lv_iload_n hx hb dL_offer_3 rfl (lv_at hl 1 rfl) ?_
  refine lv_iload_n hx hb dL_offer_4 rfl (lv_at hl 2 rfl) ?_
  refine pg_catL (pg_xV (As := [.int k, .int x]) (rest := [.int 0, .ref o]) ⟨hx, hb, hml, hown, hts⟩ (cc_offer_no l hfl D cI cZ a s.heap.size u n hn h20 k x 3 pg_ia hthr (by decide) (fun h9 => absurd h9 (by decide)) (fun h9 => absurd h9 (by decide)) (fun _ => rfl)) (cwV 2 hts gL_offer_X4_offer rfl rfl rfl (by decide +kernel) ⟨Nat.le_of_ble_eq_true rfl, Nat.le_of_ble_eq_true rfl⟩) (hK.sub [0, 1] rfl) (pg_PL hP) (pg_DL hD) hS hA hE 0 (ci := 4) rfl rfl rfl rfl hl.1 rfl (Nat.le_of_ble_eq_true rfl) dL_offer_5 ⟨Nat.le_of_ble_eq_true rfl, Nat.le_of_ble_eq_true rfl⟩) hP hD hS hA (fun ce q9 H locs hP hS hce hcv hcl => ?_)
  refine vx_catch (own := RL) (name := pg_ia) hown [⟨0, 10, 13, 20⟩, ⟨0, 10, 17, 15⟩] ⟨0, 10, 21, 13⟩ [] (by rw [htab]; rfl) (fun z9 h9 => by rcases List.mem_cons.mp h9 with rfl | h9; exact Or.inr ⟨by decide, "java/lang/IndexOutOfBoundsException", hw1, hE4 (pg_ia, pg_io) (List.mem_of_getElem? (i := 1) rfl)⟩; rw [List.mem_singleton.mp h9]; exact Or.inr ⟨by decide, "java/lang/IllegalStateException", hw2, hE4 (pg_ia, pg_is) (List.mem_of_getElem? (i := 0) rfl)⟩) (by decide) (by decide) hw3 (va_Nw.use rfl (hE3 (Cond.castable pg_ia pg_ia) (List.mem_of_getElem? (i := 0) rfl))) hce hcv hcl ?_
  refine W.widen (k := 1) (n := 6) (Nat.le_of_ble_eq_true rfl) (Nat.le_of_ble_eq_true rfl) ?_
  refine W.eq (g2 := F0 m 21 ls [.ref q9]) rfl ?_
  refine lv_astore (lv' := [(4, .ref q9), (0, .ref (a 0)), (1, .int k), (2, .int x), (3, .ref o)]) hx hb dL_offer_21 hl (by decide) rfl (fun ls hl => ?_)
  refine lv_iconst (v := 3) hx hb dL_offer_23 (by decide) ?_
  exact W.iret (v := 3) hx hb hr (fun t9 ht9 hW9 => ⟨⟨3, (u, f), rfl, ⟨rfl, rfl⟩, by rw [ht9]; exact hP, va_K.moved hW9.alike hK, hD⟩, hS.F ht9⟩) hS.2.2 dL_offer_24
set_option maxHeartbeats 4000000 in
set_option maxRecDepth 100000 in
theorem cw_agree_ok (l : Launch) (D : va_G) (cI cZ cL : ClassId) (a : Nat → Nat) (o : Nat) (sz : Nat) (u : pg_St) (f : Nat → Int64) (n : Nat) (hn : u.1 10 = nI n) (h20 : n ≤ 20) (k : Int32) (hthr : pg_t_agree u.2 (nI n) k = 0) : Met l yL_agree wsL_agree ({ frames := 7, cells := 0, slots := 0, locals := 151 }) (va_Pc [.ref (a 0), .int k, .ref o] (pg_B D (pg_tyL cI cZ cL) (pg_wB cI cZ a u ++ [(o, .inl (cL, 1, .inr (.inl f)))]) sz)) (va_Qi (fun r z9 => r = 0 ∧ z9 = (pg_pay (pg_at u k.toNatClampNeg (u.2 9 k.toNatClampNeg)) n (u.1 3), vp_updL f 0 (pg_back (pg_at u k.toNatClampNeg (u.2 9 k.toNatClampNeg)) n).toInt64)) (pg_E D (pg_tyL cI cZ cL) (va_A (pg_wB cI cZ a u ++ [(o, .inl (cL, 1, .inr (.inl f)))]) sz) (fun z9 : pg_St × (Nat → Int64) => pg_wB cI cZ a z9.1 ++ [(o, .inl (cL, 1, .inr (.inl z9.2)))])) (va_A (pg_wB cI cZ a u ++ [(o, .inl (cL, 1, .inr (.inl f)))]) sz)) 0 0 (va_A (pg_wB cI cZ a u ++ [(o, .inl (cL, 1, .inr (.inl f)))]) sz) := by
  refine pg_ofWH (cc := cL_agree) (maxL := 4) (ret := (some .int)) (by decide) rfl ?_
  intro p e s m args below meth c s₁ B hml hv
  obtain ⟨rfl, hsz, hP, hK, hD0⟩ := hv
  have hx := B.exec
  have hb := B.bytes
  have hr := B.returns
  have hts := atoms_spec (ws := wsL_agree) B.pre
  have hown : s.vm.findClass RL = some m.cls := findClass_of_methodNamed B.named
  have hlocks := B.notSynchronized
  subst hsz
  have hD := hD0.self (sz := s.heap.size)
  generalize hAe : va_A (pg_wB cI cZ a u ++ [(o, .inl (cL, 1, .inr (.inl f)))]) s.heap.size = A at hD ⊢
  have hA : ∀ q : Nat, s.heap.size ≤ q → A q := fun q h => by rw [← hAe]; exact Or.inr h
  have hS : va_S A s.heap s.heap [] := va_S.rf
  have hl := lv_entry ([.ref (a 0), .int k, .ref o]) (n := 4) (Nat.le_of_ble_eq_true rfl)
  rw [lg_entry_eq]
  generalize (lg_sl ([.ref (a 0), .int k, .ref o]) ++ List.replicate (4 - (lg_sl ([.ref (a 0), .int k, .ref o])).length) Slot.unset).toArray = ls at hl ⊢
  have hl : lv_has ls 4 [(0, .ref (a 0)), (1, .int k), (2, .ref o)] := hl
  refine lv_aload_n hx hb dL_agree_0 rfl (lv_at hl 2 rfl) ?_
  refine lv_iconst (v := 0) hx hb dL_agree_1 (by decide) ?_
  refine lv_aload_n hx hb dL_agree_2 rfl (lv_at hl 0 rfl) ?_
  refine lv_iload_n hx hb dL_agree_3 rfl (lv_at hl 1 rfl) ?_
  refine pg_iL (pg_rV (As := [.int k]) (rest := [.int 0, .ref o]) ⟨hx, hb, hml, hown, hts⟩ (cc_agree_ok l D cI cZ a s.heap.size u n hn h20 k hthr) (cwV 1 hts gL_agree_X4_agree rfl rfl rfl (by decide +kernel) ⟨Nat.le_of_ble_eq_true rfl, Nat.le_of_ble_eq_true rfl⟩) (hK.sub [0, 1] rfl) (pg_PL hP) (pg_DL hD) 0 (ci := 4) rfl rfl rfl rfl hl.1 rfl (Nat.le_of_ble_eq_true rfl) dL_agree_4 ⟨Nat.le_of_ble_eq_true rfl, Nat.le_of_ble_eq_true rfl⟩) hP hD hS hA (fun H locs hP hD hS => ?_)
  have hP : va_P D vwCl (pg_wB cI cZ a (pg_pay (pg_at u k.toNatClampNeg (u.2 9 k.toNatClampNeg)) n (u.1 3)) ++ [(o, .inl (cL, 1, .inr (.inl f)))]) H := hP
  have hD : va_D A (pg_wB cI cZ a (pg_pay (pg_at u k.toNatClampNeg (u.2 9 k.toNatClampNeg)) n (u.1 3)) ++ [(o, .inl (cL, 1, .inr (.inl f)))]) := hD
  refine lv_i2l (v := (pg_back (pg_at u k.toNatClampNeg (u.2 9 k.toNatClampNeg)) n).toInt64) hx hb dL_agree_7 rfl ?_
  refine va_last hx hb hK hP hD hS 19 2 rfl rfl (show vp_in 0 1 from vp_in_nI (n := 0) (by decide) (by decide)) dL_agree_8 (fun H locs hP hD hS => ?_)
  have hP : va_P D vwCl (pg_wB cI cZ a (pg_pay (pg_at u k.toNatClampNeg (u.2 9 k.toNatClampNeg)) n (u.1 3)) ++ [(o, .inl (cL, 1, .inr (.inl (vp_updL f 0 ((pg_back (pg_at u k.toNatClampNeg (u.2 9 k.toNatClampNeg)) n).toInt64)))))]) H := hP
  have hD : va_D A (pg_wB cI cZ a (pg_pay (pg_at u k.toNatClampNeg (u.2 9 k.toNatClampNeg)) n (u.1 3)) ++ [(o, .inl (cL, 1, .inr (.inl (vp_updL f 0 ((pg_back (pg_at u k.toNatClampNeg (u.2 9 k.toNatClampNeg)) n).toInt64)))))]) := hD
  refine lv_goto (tgt := 18) hx hb dL_agree_9 (by decide) ?_
  refine lv_iconst (v := 0) hx hb dL_agree_18 (by decide) ?_
  exact W.iret (v := 0) hx hb hr (fun t9 ht9 hW9 => ⟨⟨0, (pg_pay (pg_at u k.toNatClampNeg (u.2 9 k.toNatClampNeg)) n (u.1 3), (vp_updL f 0 ((pg_back (pg_at u k.toNatClampNeg (u.2 9 k.toNatClampNeg)) n).toInt64))), rfl, ⟨rfl, rfl⟩, by rw [ht9]; exact hP, va_K.moved hW9.alike hK, hD⟩, hS.F ht9⟩) hS.2.2 dL_agree_19
set_option maxHeartbeats 4000000 in
set_option maxRecDepth 100000 in
theorem cw_agree_1 (l : Launch) (hfl : l.stackTraces = false) (D : va_G) (cI cZ cL : ClassId) (a : Nat → Nat) (o : Nat) (sz : Nat) (u : pg_St) (f : Nat → Int64) (n : Nat) (hn : u.1 10 = nI n) (h20 : n ≤ 20) (k : Int32) (hthr : pg_t_agree u.2 (nI n) k = 1) : Met l yL_agree wsL_agree ({ frames := 8, cells := 1, slots := 6, locals := 130 }) (va_Pc [.ref (a 0), .int k, .ref o] (pg_T D (pg_tyL cI cZ cL) (pg_wB cI cZ a u ++ [(o, .inl (cL, 1, .inr (.inl f)))]) sz)) (va_Qi (fun r z9 => r = 1 ∧ z9 = (u, f)) (pg_E D (pg_tyL cI cZ cL) (va_A (pg_wB cI cZ a u ++ [(o, .inl (cL, 1, .inr (.inl f)))]) sz) (fun z9 : pg_St × (Nat → Int64) => pg_wB cI cZ a z9.1 ++ [(o, .inl (cL, 1, .inr (.inl z9.2)))])) (va_A (pg_wB cI cZ a u ++ [(o, .inl (cL, 1, .inr (.inl f)))]) sz)) 1 6 (va_A (pg_wB cI cZ a u ++ [(o, .inl (cL, 1, .inr (.inl f)))]) sz) := by
  refine pg_ofWH (cc := cL_agree) (maxL := 4) (ret := (some .int)) (by decide) rfl ?_
  intro p e s m args below meth c s₁ B hml hv
  obtain ⟨rfl, ⟨hsz, hP, hK, hD0⟩, hE⟩ := hv
  have hx := B.exec
  have hb := B.bytes
  have hr := B.returns
  have hts := atoms_spec (ws := wsL_agree) B.pre
  have hown : s.vm.findClass RL = some m.cls := findClass_of_methodNamed B.named
  have hlocks := B.notSynchronized
  subst hsz
  have hD := hD0.self (sz := s.heap.size)
  generalize hAe : va_A (pg_wB cI cZ a u ++ [(o, .inl (cL, 1, .inr (.inl f)))]) s.heap.size = A at hD hE ⊢
  have hA : ∀ q : Nat, s.heap.size ≤ q → A q := fun q h => by rw [← hAe]; exact Or.inr h
  have hS : va_S A s.heap s.heap [] := va_S.rf
  have hl := lv_entry ([.ref (a 0), .int k, .ref o]) (n := 4) (Nat.le_of_ble_eq_true rfl)
  rw [lg_entry_eq]
  generalize (lg_sl ([.ref (a 0), .int k, .ref o]) ++ List.replicate (4 - (lg_sl ([.ref (a 0), .int k, .ref o])).length) Slot.unset).toArray = ls at hl ⊢
  have hl : lv_has ls 4 [(0, .ref (a 0)), (1, .int k), (2, .ref o)] := hl
  have htab := vx_table (x := yL_agree) B (hts _ List.mem_cons_self)
  obtain ⟨-, -, hE3, hE4, -⟩ := id hE
  have hw1 := hts (.classLink RL 20 "java/lang/IndexOutOfBoundsException") (List.mem_of_getElem? (i := 1) rfl)
  refine lv_aload_n hx hb dL_agree_0 rfl (lv_at hl 2 rfl) ?_
  refine lv_iconst (v := 0) hx hb dL_agree_1 (by decide) ?_
  refine lv_aload_n hx hb dL_agree_2 rfl (lv_at hl 0 rfl) ?_
  refine lv_iload_n hx hb dL_agree_3 rfl (lv_at hl 1 rfl) ?_
  refine pg_catL (pg_xV (As := [.int k]) (rest := [.int 0, .ref o]) ⟨hx, hb, hml, hown, hts⟩ (cc_agree_no l hfl D cI cZ a s.heap.size u n hn h20 k 1 pg_io hthr (by decide) (fun _ => rfl) (fun h9 => absurd h9 (by decide))) (cwV 1 hts gL_agree_X4_agree rfl rfl rfl (by decide +kernel) ⟨Nat.le_of_ble_eq_true rfl, Nat.le_of_ble_eq_true rfl⟩) (hK.sub [0, 1] rfl) (pg_PL hP) (pg_DL hD) hS hA hE 0 (ci := 4) rfl rfl rfl rfl hl.1 rfl (Nat.le_of_ble_eq_true rfl) dL_agree_4 ⟨Nat.le_of_ble_eq_true rfl, Nat.le_of_ble_eq_true rfl⟩) hP hD hS hA (fun ce q9 H locs hP hS hce hcv hcl => ?_)
  refine vx_catch (own := RL) (name := pg_io) hown [] ⟨0, 9, 12, 20⟩ [⟨0, 9, 15, 15⟩] (by rw [htab]; rfl) (fun _ h9 => nomatch h9) (by decide) (by decide) hw1 (va_Nw.use rfl (hE3 (Cond.castable pg_io pg_io) (List.mem_of_getElem? (i := 2) rfl))) hce hcv hcl ?_
  refine W.widen (k := 1) (n := 6) (Nat.le_of_ble_eq_true rfl) (Nat.le_of_ble_eq_true rfl) ?_
  refine W.eq (g2 := F0 m 12 ls [.ref q9]) rfl ?_
  refine lv_astore_n (lv' := [(3, .ref q9), (0, .ref (a 0)), (1, .int k), (2, .ref o)]) hx hb dL_agree_12 rfl hl (by decide) rfl (fun ls hl => ?_)
  refine lv_iconst (v := 1) hx hb dL_agree_13 (by decide) ?_
  exact W.iret (v := 1) hx hb hr (fun t9 ht9 hW9 => ⟨⟨1, (u, f), rfl, ⟨rfl, rfl⟩, by rw [ht9]; exact hP, va_K.moved hW9.alike hK, hD⟩, hS.F ht9⟩) hS.2.2 dL_agree_14
set_option maxHeartbeats 4000000 in
set_option maxRecDepth 100000 in
theorem cw_agree_2 (l : Launch) (hfl : l.stackTraces = false) (D : va_G) (cI cZ cL : ClassId) (a : Nat → Nat) (o : Nat) (sz : Nat) (u : pg_St) (f : Nat → Int64) (n : Nat) (hn : u.1 10 = nI n) (h20 : n ≤ 20) (k : Int32) (hthr : pg_t_agree u.2 (nI n) k = 2) : Met l yL_agree wsL_agree ({ frames := 8, cells := 1, slots := 6, locals := 130 }) (va_Pc [.ref (a 0), .int k, .ref o] (pg_T D (pg_tyL cI cZ cL) (pg_wB cI cZ a u ++ [(o, .inl (cL, 1, .inr (.inl f)))]) sz)) (va_Qi (fun r z9 => r = 2 ∧ z9 = (u, f)) (pg_E D (pg_tyL cI cZ cL) (va_A (pg_wB cI cZ a u ++ [(o, .inl (cL, 1, .inr (.inl f)))]) sz) (fun z9 : pg_St × (Nat → Int64) => pg_wB cI cZ a z9.1 ++ [(o, .inl (cL, 1, .inr (.inl z9.2)))])) (va_A (pg_wB cI cZ a u ++ [(o, .inl (cL, 1, .inr (.inl f)))]) sz)) 1 6 (va_A (pg_wB cI cZ a u ++ [(o, .inl (cL, 1, .inr (.inl f)))]) sz) := by
  refine pg_ofWH (cc := cL_agree) (maxL := 4) (ret := (some .int)) (by decide) rfl ?_
  intro p e s m args below meth c s₁ B hml hv
  obtain ⟨rfl, ⟨hsz, hP, hK, hD0⟩, hE⟩ := hv
  have hx := B.exec
  have hb := B.bytes
  have hr := B.returns
  have hts := atoms_spec (ws := wsL_agree) B.pre
  have hown : s.vm.findClass RL = some m.cls := findClass_of_methodNamed B.named
  have hlocks := B.notSynchronized
  subst hsz
  have hD := hD0.self (sz := s.heap.size)
  generalize hAe : va_A (pg_wB cI cZ a u ++ [(o, .inl (cL, 1, .inr (.inl f)))]) s.heap.size = A at hD hE ⊢
  have hA : ∀ q : Nat, s.heap.size ≤ q → A q := fun q h => by rw [← hAe]; exact Or.inr h
  have hS : va_S A s.heap s.heap [] := va_S.rf
  have hl := lv_entry ([.ref (a 0), .int k, .ref o]) (n := 4) (Nat.le_of_ble_eq_true rfl)
  rw [lg_entry_eq]
  generalize (lg_sl ([.ref (a 0), .int k, .ref o]) ++ List.replicate (4 - (lg_sl ([.ref (a 0), .int k, .ref o])).length) Slot.unset).toArray = ls at hl ⊢
  have hl : lv_has ls 4 [(0, .ref (a 0)), (1, .int k), (2, .ref o)] := hl
  have htab := vx_table (x := yL_agree) B (hts _ List.mem_cons_self)
  obtain ⟨-, -, hE3, hE4, -⟩ := id hE
  have hw1 := hts (.classLink RL 20 "java/lang/IndexOutOfBoundsException") (List.mem_of_getElem? (i := 1) rfl)
  have hw2 := hts (.classLink RL 15 "java/lang/IllegalStateException") (List.mem_of_getElem? (i := 2) rfl)
  refine lv_aload_n hx hb dL_agree_0 rfl (lv_at hl 2 rfl) ?_
  refine lv_iconst (v := 0) hx hb dL_agree_1 (by decide) ?_
  refine lv_aload_n hx hb dL_agree_2 rfl (lv_at hl 0 rfl) ?_
  refine lv_iload_n hx hb dL_agree_3 rfl (lv_at hl 1 rfl) ?_
  refine pg_catL (pg_xV (As := [.int k]) (rest := [.int 0, .ref o]) ⟨hx, hb, hml, hown, hts⟩ (cc_agree_no l hfl D cI cZ a s.heap.size u n hn h20 k 2 pg_is hthr (by decide) (fun h9 => absurd h9 (by decide)) (fun _ => rfl)) (cwV 1 hts gL_agree_X4_agree rfl rfl rfl (by decide +kernel) ⟨Nat.le_of_ble_eq_true rfl, Nat.le_of_ble_eq_true rfl⟩) (hK.sub [0, 1] rfl) (pg_PL hP) (pg_DL hD) hS hA hE 0 (ci := 4) rfl rfl rfl rfl hl.1 rfl (Nat.le_of_ble_eq_true rfl) dL_agree_4 ⟨Nat.le_of_ble_eq_true rfl, Nat.le_of_ble_eq_true rfl⟩) hP hD hS hA (fun ce q9 H locs hP hS hce hcv hcl => ?_)
  refine vx_catch (own := RL) (name := pg_is) hown [⟨0, 9, 12, 20⟩] ⟨0, 9, 15, 15⟩ [] (by rw [htab]; rfl) (fun z9 h9 => by rw [List.mem_singleton.mp h9]; exact Or.inr ⟨by decide, "java/lang/IndexOutOfBoundsException", hw1, hE4 (pg_is, pg_io) (List.mem_of_getElem? (i := 3) rfl)⟩) (by decide) (by decide) hw2 (va_Nw.use rfl (hE3 (Cond.castable pg_is pg_is) (List.mem_of_getElem? (i := 1) rfl))) hce hcv hcl ?_
  refine W.widen (k := 1) (n := 6) (Nat.le_of_ble_eq_true rfl) (Nat.le_of_ble_eq_true rfl) ?_
  refine W.eq (g2 := F0 m 15 ls [.ref q9]) rfl ?_
  refine lv_astore_n (lv' := [(3, .ref q9), (0, .ref (a 0)), (1, .int k), (2, .ref o)]) hx hb dL_agree_15 rfl hl (by decide) rfl (fun ls hl => ?_)
  refine lv_iconst (v := 2) hx hb dL_agree_16 (by decide) ?_
  exact W.iret (v := 2) hx hb hr (fun t9 ht9 hW9 => ⟨⟨2, (u, f), rfl, ⟨rfl, rfl⟩, by rw [ht9]; exact hP, va_K.moved hW9.alike hK, hD⟩, hS.F ht9⟩) hS.2.2 dL_agree_17
set_option maxHeartbeats 4000000 in
set_option maxRecDepth 100000 in
theorem cw_decide_ok (l : Launch) (D : va_G) (cI cZ cL : ClassId) (a : Nat → Nat) (o : Nat) (sz : Nat) (u : pg_St) (f : Nat → Int64) (n : Nat) (hn : u.1 10 = nI n) (h20 : n ≤ 20) (k x : Int32) (hthr : pg_t_decide u.2 (nI n) k x = 0) : Met l yL_decide wsL_decide ({ frames := 7, cells := 0, slots := 0, locals := 152 }) (va_Pc [.ref (a 0), .int k, .int x, .ref o] (pg_B D (pg_tyL cI cZ cL) (pg_wB cI cZ a u ++ [(o, .inl (cL, 1, .inr (.inl f)))]) sz)) (va_Qi (fun r z9 => r = 0 ∧ z9 = (pg_pay (pg_at u k.toNatClampNeg x) n (u.1 3), vp_updL f 0 (pg_back (pg_at u k.toNatClampNeg x) n).toInt64)) (pg_E D (pg_tyL cI cZ cL) (va_A (pg_wB cI cZ a u ++ [(o, .inl (cL, 1, .inr (.inl f)))]) sz) (fun z9 : pg_St × (Nat → Int64) => pg_wB cI cZ a z9.1 ++ [(o, .inl (cL, 1, .inr (.inl z9.2)))])) (va_A (pg_wB cI cZ a u ++ [(o, .inl (cL, 1, .inr (.inl f)))]) sz)) 0 0 (va_A (pg_wB cI cZ a u ++ [(o, .inl (cL, 1, .inr (.inl f)))]) sz) := by
  refine pg_ofWH (cc := cL_decide) (maxL := 5) (ret := (some .int)) (by decide) rfl ?_
  intro p e s m args below meth c s₁ B hml hv
  obtain ⟨rfl, hsz, hP, hK, hD0⟩ := hv
  have hx := B.exec
  have hb := B.bytes
  have hr := B.returns
  have hts := atoms_spec (ws := wsL_decide) B.pre
  have hown : s.vm.findClass RL = some m.cls := findClass_of_methodNamed B.named
  have hlocks := B.notSynchronized
  subst hsz
  have hD := hD0.self (sz := s.heap.size)
  generalize hAe : va_A (pg_wB cI cZ a u ++ [(o, .inl (cL, 1, .inr (.inl f)))]) s.heap.size = A at hD ⊢
  have hA : ∀ q : Nat, s.heap.size ≤ q → A q := fun q h => by rw [← hAe]; exact Or.inr h
  have hS : va_S A s.heap s.heap [] := va_S.rf
  have hl := lv_entry ([.ref (a 0), .int k, .int x, .ref o]) (n := 5) (Nat.le_of_ble_eq_true rfl)
  rw [lg_entry_eq]
  generalize (lg_sl ([.ref (a 0), .int k, .int x, .ref o]) ++ List.replicate (5 - (lg_sl ([.ref (a 0), .int k, .int x, .ref o])).length) Slot.unset).toArray = ls at hl ⊢
  have hl : lv_has ls 5 [(0, .ref (a 0)), (1, .int k), (2, .int x), (3, .ref o)] := hl
  refine lv_aload_n hx hb dL_decide_0 rfl (lv_at hl 3 rfl) ?_
  refine lv_iconst (v := 0) hx hb dL_decide_1 (by decide) ?_
  refine lv_aload_n hx hb dL_decide_2 rfl (lv_at hl 0 rfl) ?_
  refine lv_iload_n hx hb dL_decide_3 rfl (lv_at hl 1 rfl) ?_
  refine lv_iload_n hx hb dL_decide_4 rfl (lv_at hl 2 rfl) ?_
  refine pg_iL (pg_rV (As := [.int k, .int x]) (rest := [.int 0, .ref o]) ⟨hx, hb, hml, hown, hts⟩ (cc_decide_ok l D cI cZ a s.heap.size u n hn h20 k x hthr) (cwV 2 hts gL_decide_X4_decide rfl rfl rfl (by decide +kernel) ⟨Nat.le_of_ble_eq_true rfl, Nat.le_of_ble_eq_true rfl⟩) (hK.sub [0, 1] rfl) (pg_PL hP) (pg_DL hD) 0 (ci := 4) rfl rfl rfl rfl hl.1 rfl (Nat.le_of_ble_eq_true rfl) dL_decide_5 ⟨Nat.le_of_ble_eq_true rfl, Nat.le_of_ble_eq_true rfl⟩) hP hD hS hA (fun H locs hP hD hS => ?_)
  have hP : va_P D vwCl (pg_wB cI cZ a (pg_pay (pg_at u k.toNatClampNeg x) n (u.1 3)) ++ [(o, .inl (cL, 1, .inr (.inl f)))]) H := hP
  have hD : va_D A (pg_wB cI cZ a (pg_pay (pg_at u k.toNatClampNeg x) n (u.1 3)) ++ [(o, .inl (cL, 1, .inr (.inl f)))]) := hD
  refine lv_i2l (v := (pg_back (pg_at u k.toNatClampNeg x) n).toInt64) hx hb dL_decide_8 rfl ?_
  refine va_last hx hb hK hP hD hS 19 2 rfl rfl (show vp_in 0 1 from vp_in_nI (n := 0) (by decide) (by decide)) dL_decide_9 (fun H locs hP hD hS => ?_)
  have hP : va_P D vwCl (pg_wB cI cZ a (pg_pay (pg_at u k.toNatClampNeg x) n (u.1 3)) ++ [(o, .inl (cL, 1, .inr (.inl (vp_updL f 0 ((pg_back (pg_at u k.toNatClampNeg x) n).toInt64)))))]) H := hP
  have hD : va_D A (pg_wB cI cZ a (pg_pay (pg_at u k.toNatClampNeg x) n (u.1 3)) ++ [(o, .inl (cL, 1, .inr (.inl (vp_updL f 0 ((pg_back (pg_at u k.toNatClampNeg x) n).toInt64)))))]) := hD
  refine lv_goto (tgt := 25) hx hb dL_decide_10 (by decide) ?_
  refine lv_iconst (v := 0) hx hb dL_decide_25 (by decide) ?_
  exact W.iret (v := 0) hx hb hr (fun t9 ht9 hW9 => ⟨⟨0, (pg_pay (pg_at u k.toNatClampNeg x) n (u.1 3), (vp_updL f 0 ((pg_back (pg_at u k.toNatClampNeg x) n).toInt64))), rfl, ⟨rfl, rfl⟩, by rw [ht9]; exact hP, va_K.moved hW9.alike hK, hD⟩, hS.F ht9⟩) hS.2.2 dL_decide_26
set_option maxHeartbeats 4000000 in
set_option maxRecDepth 100000 in
theorem cw_decide_1 (l : Launch) (hfl : l.stackTraces = false) (D : va_G) (cI cZ cL : ClassId) (a : Nat → Nat) (o : Nat) (sz : Nat) (u : pg_St) (f : Nat → Int64) (n : Nat) (hn : u.1 10 = nI n) (h20 : n ≤ 20) (k x : Int32) (hthr : pg_t_decide u.2 (nI n) k x = 1) : Met l yL_decide wsL_decide ({ frames := 8, cells := 1, slots := 6, locals := 131 }) (va_Pc [.ref (a 0), .int k, .int x, .ref o] (pg_T D (pg_tyL cI cZ cL) (pg_wB cI cZ a u ++ [(o, .inl (cL, 1, .inr (.inl f)))]) sz)) (va_Qi (fun r z9 => r = 1 ∧ z9 = (u, f)) (pg_E D (pg_tyL cI cZ cL) (va_A (pg_wB cI cZ a u ++ [(o, .inl (cL, 1, .inr (.inl f)))]) sz) (fun z9 : pg_St × (Nat → Int64) => pg_wB cI cZ a z9.1 ++ [(o, .inl (cL, 1, .inr (.inl z9.2)))])) (va_A (pg_wB cI cZ a u ++ [(o, .inl (cL, 1, .inr (.inl f)))]) sz)) 1 6 (va_A (pg_wB cI cZ a u ++ [(o, .inl (cL, 1, .inr (.inl f)))]) sz) := by
  refine pg_ofWH (cc := cL_decide) (maxL := 5) (ret := (some .int)) (by decide) rfl ?_
  intro p e s m args below meth c s₁ B hml hv
  obtain ⟨rfl, ⟨hsz, hP, hK, hD0⟩, hE⟩ := hv
  have hx := B.exec
  have hb := B.bytes
  have hr := B.returns
  have hts := atoms_spec (ws := wsL_decide) B.pre
  have hown : s.vm.findClass RL = some m.cls := findClass_of_methodNamed B.named
  have hlocks := B.notSynchronized
  subst hsz
  have hD := hD0.self (sz := s.heap.size)
  generalize hAe : va_A (pg_wB cI cZ a u ++ [(o, .inl (cL, 1, .inr (.inl f)))]) s.heap.size = A at hD hE ⊢
  have hA : ∀ q : Nat, s.heap.size ≤ q → A q := fun q h => by rw [← hAe]; exact Or.inr h
  have hS : va_S A s.heap s.heap [] := va_S.rf
  have hl := lv_entry ([.ref (a 0), .int k, .int x, .ref o]) (n := 5) (Nat.le_of_ble_eq_true rfl)
  rw [lg_entry_eq]
  generalize (lg_sl ([.ref (a 0), .int k, .int x, .ref o]) ++ List.replicate (5 - (lg_sl ([.ref (a 0), .int k, .int x, .ref o])).length) Slot.unset).toArray = ls at hl ⊢
  have hl : lv_has ls 5 [(0, .ref (a 0)), (1, .int k), (2, .int x), (3, .ref o)] := hl
  have htab := vx_table (x := yL_decide) B (hts _ List.mem_cons_self)
  obtain ⟨-, -, hE3, hE4, -⟩ := id hE
  have hw1 := hts (.classLink RL 20 "java/lang/IndexOutOfBoundsException") (List.mem_of_getElem? (i := 1) rfl)
  refine lv_aload_n hx hb dL_decide_0 rfl (lv_at hl 3 rfl) ?_
  refine lv_iconst (v := 0) hx hb dL_decide_1 (by decide) ?_
  refine lv_aload_n hx hb dL_decide_2 rfl (lv_at hl 0 rfl) ?_
  refine lv_iload_n hx hb dL_decide_3 rfl (lv_at hl 1 rfl) ?_
  refine lv_iload_n hx hb dL_decide_4 rfl (lv_at hl 2 rfl) ?_
  refine pg_catL (pg_xV (As := [.int k, .int x]) (rest := [.int 0, .ref o]) ⟨hx, hb, hml, hown, hts⟩ (cc_decide_no l hfl D cI cZ a s.heap.size u n hn h20 k x 1 pg_io hthr (by decide) (fun _ => rfl) (fun h9 => absurd h9 (by decide)) (fun h9 => absurd h9 (by decide))) (cwV 2 hts gL_decide_X4_decide rfl rfl rfl (by decide +kernel) ⟨Nat.le_of_ble_eq_true rfl, Nat.le_of_ble_eq_true rfl⟩) (hK.sub [0, 1] rfl) (pg_PL hP) (pg_DL hD) hS hA hE 0 (ci := 4) rfl rfl rfl rfl hl.1 rfl (Nat.le_of_ble_eq_true rfl) dL_decide_5 ⟨Nat.le_of_ble_eq_true rfl, Nat.le_of_ble_eq_true rfl⟩) hP hD hS hA (fun ce q9 H locs hP hS hce hcv hcl => ?_)
  refine vx_catch (own := RL) (name := pg_io) hown [] ⟨0, 10, 13, 20⟩ [⟨0, 10, 17, 15⟩, ⟨0, 10, 21, 13⟩] (by rw [htab]; rfl) (fun _ h9 => nomatch h9) (by decide) (by decide) hw1 (va_Nw.use rfl (hE3 (Cond.castable pg_io pg_io) (List.mem_of_getElem? (i := 2) rfl))) hce hcv hcl ?_
  refine W.widen (k := 1) (n := 6) (Nat.le_of_ble_eq_true rfl) (Nat.le_of_ble_eq_true rfl) ?_
  refine W.eq (g2 := F0 m 13 ls [.ref q9]) rfl ?_
  refine lv_astore (lv' := [(4, .ref q9), (0, .ref (a 0)), (1, .int k), (2, .int x), (3, .ref o)]) hx hb dL_decide_13 hl (by decide) rfl (fun ls hl => ?_)
  refine lv_iconst (v := 1) hx hb dL_decide_15 (by decide) ?_
  exact W.iret (v := 1) hx hb hr (fun t9 ht9 hW9 => ⟨⟨1, (u, f), rfl, ⟨rfl, rfl⟩, by rw [ht9]; exact hP, va_K.moved hW9.alike hK, hD⟩, hS.F ht9⟩) hS.2.2 dL_decide_16
set_option maxHeartbeats 4000000 in
set_option maxRecDepth 100000 in
theorem cw_decide_2 (l : Launch) (hfl : l.stackTraces = false) (D : va_G) (cI cZ cL : ClassId) (a : Nat → Nat) (o : Nat) (sz : Nat) (u : pg_St) (f : Nat → Int64) (n : Nat) (hn : u.1 10 = nI n) (h20 : n ≤ 20) (k x : Int32) (hthr : pg_t_decide u.2 (nI n) k x = 2) : Met l yL_decide wsL_decide ({ frames := 8, cells := 1, slots := 6, locals := 131 }) (va_Pc [.ref (a 0), .int k, .int x, .ref o] (pg_T D (pg_tyL cI cZ cL) (pg_wB cI cZ a u ++ [(o, .inl (cL, 1, .inr (.inl f)))]) sz)) (va_Qi (fun r z9 => r = 2 ∧ z9 = (u, f)) (pg_E D (pg_tyL cI cZ cL) (va_A (pg_wB cI cZ a u ++ [(o, .inl (cL, 1, .inr (.inl f)))]) sz) (fun z9 : pg_St × (Nat → Int64) => pg_wB cI cZ a z9.1 ++ [(o, .inl (cL, 1, .inr (.inl z9.2)))])) (va_A (pg_wB cI cZ a u ++ [(o, .inl (cL, 1, .inr (.inl f)))]) sz)) 1 6 (va_A (pg_wB cI cZ a u ++ [(o, .inl (cL, 1, .inr (.inl f)))]) sz) := by
  refine pg_ofWH (cc := cL_decide) (maxL := 5) (ret := (some .int)) (by decide) rfl ?_
  intro p e s m args below meth c s₁ B hml hv
  obtain ⟨rfl, ⟨hsz, hP, hK, hD0⟩, hE⟩ := hv
  have hx := B.exec
  have hb := B.bytes
  have hr := B.returns
  have hts := atoms_spec (ws := wsL_decide) B.pre
  have hown : s.vm.findClass RL = some m.cls := findClass_of_methodNamed B.named
  have hlocks := B.notSynchronized
  subst hsz
  have hD := hD0.self (sz := s.heap.size)
  generalize hAe : va_A (pg_wB cI cZ a u ++ [(o, .inl (cL, 1, .inr (.inl f)))]) s.heap.size = A at hD hE ⊢
  have hA : ∀ q : Nat, s.heap.size ≤ q → A q := fun q h => by rw [← hAe]; exact Or.inr h
  have hS : va_S A s.heap s.heap [] := va_S.rf
  have hl := lv_entry ([.ref (a 0), .int k, .int x, .ref o]) (n := 5) (Nat.le_of_ble_eq_true rfl)
  rw [lg_entry_eq]
  generalize (lg_sl ([.ref (a 0), .int k, .int x, .ref o]) ++ List.replicate (5 - (lg_sl ([.ref (a 0), .int k, .int x, .ref o])).length) Slot.unset).toArray = ls at hl ⊢
  have hl : lv_has ls 5 [(0, .ref (a 0)), (1, .int k), (2, .int x), (3, .ref o)] := hl
  have htab := vx_table (x := yL_decide) B (hts _ List.mem_cons_self)
  obtain ⟨-, -, hE3, hE4, -⟩ := id hE
  have hw1 := hts (.classLink RL 20 "java/lang/IndexOutOfBoundsException") (List.mem_of_getElem? (i := 1) rfl)
  have hw2 := hts (.classLink RL 15 "java/lang/IllegalStateException") (List.mem_of_getElem? (i := 2) rfl)
  refine lv_aload_n hx hb dL_decide_0 rfl (lv_at hl 3 rfl) ?_
  refine lv_iconst (v := 0) hx hb dL_decide_1 (by decide) ?_
  refine lv_aload_n hx hb dL_decide_2 rfl (lv_at hl 0 rfl) ?_
  refine lv_iload_n hx hb dL_decide_3 rfl (lv_at hl 1 rfl) ?_
  refine lv_iload_n hx hb dL_decide_4 rfl (lv_at hl 2 rfl) ?_
  refine pg_catL (pg_xV (As := [.int k, .int x]) (rest := [.int 0, .ref o]) ⟨hx, hb, hml, hown, hts⟩ (cc_decide_no l hfl D cI cZ a s.heap.size u n hn h20 k x 2 pg_is hthr (by decide) (fun h9 => absurd h9 (by decide)) (fun _ => rfl) (fun h9 => absurd h9 (by decide))) (cwV 2 hts gL_decide_X4_decide rfl rfl rfl (by decide +kernel) ⟨Nat.le_of_ble_eq_true rfl, Nat.le_of_ble_eq_true rfl⟩) (hK.sub [0, 1] rfl) (pg_PL hP) (pg_DL hD) hS hA hE 0 (ci := 4) rfl rfl rfl rfl hl.1 rfl (Nat.le_of_ble_eq_true rfl) dL_decide_5 ⟨Nat.le_of_ble_eq_true rfl, Nat.le_of_ble_eq_true rfl⟩) hP hD hS hA (fun ce q9 H locs hP hS hce hcv hcl => ?_)
  refine vx_catch (own := RL) (name := pg_is) hown [⟨0, 10, 13, 20⟩] ⟨0, 10, 17, 15⟩ [⟨0, 10, 21, 13⟩] (by rw [htab]; rfl) (fun z9 h9 => by rw [List.mem_singleton.mp h9]; exact Or.inr ⟨by decide, "java/lang/IndexOutOfBoundsException", hw1, hE4 (pg_is, pg_io) (List.mem_of_getElem? (i := 3) rfl)⟩) (by decide) (by decide) hw2 (va_Nw.use rfl (hE3 (Cond.castable pg_is pg_is) (List.mem_of_getElem? (i := 1) rfl))) hce hcv hcl ?_
  refine W.widen (k := 1) (n := 6) (Nat.le_of_ble_eq_true rfl) (Nat.le_of_ble_eq_true rfl) ?_
  refine W.eq (g2 := F0 m 17 ls [.ref q9]) rfl ?_
  refine lv_astore (lv' := [(4, .ref q9), (0, .ref (a 0)), (1, .int k), (2, .int x), (3, .ref o)]) hx hb dL_decide_17 hl (by decide) rfl (fun ls hl => ?_)
  refine lv_iconst (v := 2) hx hb dL_decide_19 (by decide) ?_
  exact W.iret (v := 2) hx hb hr (fun t9 ht9 hW9 => ⟨⟨2, (u, f), rfl, ⟨rfl, rfl⟩, by rw [ht9]; exact hP, va_K.moved hW9.alike hK, hD⟩, hS.F ht9⟩) hS.2.2 dL_decide_20
set_option maxHeartbeats 4000000 in
set_option maxRecDepth 100000 in
theorem cw_decide_3 (l : Launch) (hfl : l.stackTraces = false) (D : va_G) (cI cZ cL : ClassId) (a : Nat → Nat) (o : Nat) (sz : Nat) (u : pg_St) (f : Nat → Int64) (n : Nat) (hn : u.1 10 = nI n) (h20 : n ≤ 20) (k x : Int32) (hthr : pg_t_decide u.2 (nI n) k x = 3) : Met l yL_decide wsL_decide ({ frames := 8, cells := 1, slots := 6, locals := 131 }) (va_Pc [.ref (a 0), .int k, .int x, .ref o] (pg_T D (pg_tyL cI cZ cL) (pg_wB cI cZ a u ++ [(o, .inl (cL, 1, .inr (.inl f)))]) sz)) (va_Qi (fun r z9 => r = 3 ∧ z9 = (u, f)) (pg_E D (pg_tyL cI cZ cL) (va_A (pg_wB cI cZ a u ++ [(o, .inl (cL, 1, .inr (.inl f)))]) sz) (fun z9 : pg_St × (Nat → Int64) => pg_wB cI cZ a z9.1 ++ [(o, .inl (cL, 1, .inr (.inl z9.2)))])) (va_A (pg_wB cI cZ a u ++ [(o, .inl (cL, 1, .inr (.inl f)))]) sz)) 1 6 (va_A (pg_wB cI cZ a u ++ [(o, .inl (cL, 1, .inr (.inl f)))]) sz) := by
  refine pg_ofWH (cc := cL_decide) (maxL := 5) (ret := (some .int)) (by decide) rfl ?_
  intro p e s m args below meth c s₁ B hml hv
  obtain ⟨rfl, ⟨hsz, hP, hK, hD0⟩, hE⟩ := hv
  have hx := B.exec
  have hb := B.bytes
  have hr := B.returns
  have hts := atoms_spec (ws := wsL_decide) B.pre
  have hown : s.vm.findClass RL = some m.cls := findClass_of_methodNamed B.named
  have hlocks := B.notSynchronized
  subst hsz
  have hD := hD0.self (sz := s.heap.size)
  generalize hAe : va_A (pg_wB cI cZ a u ++ [(o, .inl (cL, 1, .inr (.inl f)))]) s.heap.size = A at hD hE ⊢
  have hA : ∀ q : Nat, s.heap.size ≤ q → A q := fun q h => by rw [← hAe]; exact Or.inr h
  have hS : va_S A s.heap s.heap [] := va_S.rf
  have hl := lv_entry ([.ref (a 0), .int k, .int x, .ref o]) (n := 5) (Nat.le_of_ble_eq_true rfl)
  rw [lg_entry_eq]
  generalize (lg_sl ([.ref (a 0), .int k, .int x, .ref o]) ++ List.replicate (5 - (lg_sl ([.ref (a 0), .int k, .int x, .ref o])).length) Slot.unset).toArray = ls at hl ⊢
  have hl : lv_has ls 5 [(0, .ref (a 0)), (1, .int k), (2, .int x), (3, .ref o)] := hl
  have htab := vx_table (x := yL_decide) B (hts _ List.mem_cons_self)
  obtain ⟨-, -, hE3, hE4, -⟩ := id hE
  have hw1 := hts (.classLink RL 20 "java/lang/IndexOutOfBoundsException") (List.mem_of_getElem? (i := 1) rfl)
  have hw2 := hts (.classLink RL 15 "java/lang/IllegalStateException") (List.mem_of_getElem? (i := 2) rfl)
  have hw3 := hts (.classLink RL 13 "java/lang/IllegalArgumentException") (List.mem_of_getElem? (i := 3) rfl)
  refine lv_aload_n hx hb dL_decide_0 rfl (lv_at hl 3 rfl) ?_
  refine lv_iconst (v := 0) hx hb dL_decide_1 (by decide) ?_
  refine lv_aload_n hx hb dL_decide_2 rfl (lv_at hl 0 rfl) ?_
  refine lv_iload_n hx hb dL_decide_3 rfl (lv_at hl 1 rfl) ?_
  refine lv_iload_n hx hb dL_decide_4 rfl (lv_at hl 2 rfl) ?_
  refine pg_catL (pg_xV (As := [.int k, .int x]) (rest := [.int 0, .ref o]) ⟨hx, hb, hml, hown, hts⟩ (cc_decide_no l hfl D cI cZ a s.heap.size u n hn h20 k x 3 pg_ia hthr (by decide) (fun h9 => absurd h9 (by decide)) (fun h9 => absurd h9 (by decide)) (fun _ => rfl)) (cwV 2 hts gL_decide_X4_decide rfl rfl rfl (by decide +kernel) ⟨Nat.le_of_ble_eq_true rfl, Nat.le_of_ble_eq_true rfl⟩) (hK.sub [0, 1] rfl) (pg_PL hP) (pg_DL hD) hS hA hE 0 (ci := 4) rfl rfl rfl rfl hl.1 rfl (Nat.le_of_ble_eq_true rfl) dL_decide_5 ⟨Nat.le_of_ble_eq_true rfl, Nat.le_of_ble_eq_true rfl⟩) hP hD hS hA (fun ce q9 H locs hP hS hce hcv hcl => ?_)
  refine vx_catch (own := RL) (name := pg_ia) hown [⟨0, 10, 13, 20⟩, ⟨0, 10, 17, 15⟩] ⟨0, 10, 21, 13⟩ [] (by rw [htab]; rfl) (fun z9 h9 => by rcases List.mem_cons.mp h9 with rfl | h9; exact Or.inr ⟨by decide, "java/lang/IndexOutOfBoundsException", hw1, hE4 (pg_ia, pg_io) (List.mem_of_getElem? (i := 1) rfl)⟩; rw [List.mem_singleton.mp h9]; exact Or.inr ⟨by decide, "java/lang/IllegalStateException", hw2, hE4 (pg_ia, pg_is) (List.mem_of_getElem? (i := 0) rfl)⟩) (by decide) (by decide) hw3 (va_Nw.use rfl (hE3 (Cond.castable pg_ia pg_ia) (List.mem_of_getElem? (i := 0) rfl))) hce hcv hcl ?_
  refine W.widen (k := 1) (n := 6) (Nat.le_of_ble_eq_true rfl) (Nat.le_of_ble_eq_true rfl) ?_
  refine W.eq (g2 := F0 m 21 ls [.ref q9]) rfl ?_
  refine lv_astore (lv' := [(4, .ref q9), (0, .ref (a 0)), (1, .int k), (2, .int x), (3, .ref o)]) hx hb dL_decide_21 hl (by decide) rfl (fun ls hl => ?_)
  refine lv_iconst (v := 3) hx hb dL_decide_23 (by decide) ?_
  exact W.iret (v := 3) hx hb hr (fun t9 ht9 hW9 => ⟨⟨3, (u, f), rfl, ⟨rfl, rfl⟩, by rw [ht9]; exact hP, va_K.moved hW9.alike hK, hD⟩, hS.F ht9⟩) hS.2.2 dL_decide_24
set_option maxHeartbeats 4000000 in
set_option maxRecDepth 100000 in
theorem cw_report_ok (l : Launch) (D : va_G) (cI cZ cL : ClassId) (a : Nat → Nat) (o : Nat) (sz : Nat) (u : pg_St) (f : Nat → Int64) (n : Nat) (hn : u.1 10 = nI n) (h20 : n ≤ 20) (t : Nat) (ht : u.1 13 = nI t) (h4 : t ≤ 4) (x : Int32) (hthr : pg_t_report (!pg_eq (u.1 3) (-1)) (!pg_eq (u.1 12) 0) (nI t) x = 0) : Met l yL_report wsL_report ({ frames := 7, cells := 0, slots := 0, locals := 151 }) (va_Pc [.ref (a 0), .int x, .ref o] (pg_B D (pg_tyL cI cZ cL) (pg_wB cI cZ a u ++ [(o, .inl (cL, 1, .inr (.inl f)))]) sz)) (va_Qi (fun r z9 => r = 0 ∧ z9 = (pg_owe (pg_tell u t x) n (pg_tellr u t x), vp_updL f 0 (pg_tellr u t x).toInt64)) (pg_E D (pg_tyL cI cZ cL) (va_A (pg_wB cI cZ a u ++ [(o, .inl (cL, 1, .inr (.inl f)))]) sz) (fun z9 : pg_St × (Nat → Int64) => pg_wB cI cZ a z9.1 ++ [(o, .inl (cL, 1, .inr (.inl z9.2)))])) (va_A (pg_wB cI cZ a u ++ [(o, .inl (cL, 1, .inr (.inl f)))]) sz)) 0 0 (va_A (pg_wB cI cZ a u ++ [(o, .inl (cL, 1, .inr (.inl f)))]) sz) := by
  refine pg_ofWH (cc := cL_report) (maxL := 4) (ret := (some .int)) (by decide) rfl ?_
  intro p e s m args below meth c s₁ B hml hv
  obtain ⟨rfl, hsz, hP, hK, hD0⟩ := hv
  have hx := B.exec
  have hb := B.bytes
  have hr := B.returns
  have hts := atoms_spec (ws := wsL_report) B.pre
  have hown : s.vm.findClass RL = some m.cls := findClass_of_methodNamed B.named
  have hlocks := B.notSynchronized
  subst hsz
  have hD := hD0.self (sz := s.heap.size)
  generalize hAe : va_A (pg_wB cI cZ a u ++ [(o, .inl (cL, 1, .inr (.inl f)))]) s.heap.size = A at hD ⊢
  have hA : ∀ q : Nat, s.heap.size ≤ q → A q := fun q h => by rw [← hAe]; exact Or.inr h
  have hS : va_S A s.heap s.heap [] := va_S.rf
  have hl := lv_entry ([.ref (a 0), .int x, .ref o]) (n := 4) (Nat.le_of_ble_eq_true rfl)
  rw [lg_entry_eq]
  generalize (lg_sl ([.ref (a 0), .int x, .ref o]) ++ List.replicate (4 - (lg_sl ([.ref (a 0), .int x, .ref o])).length) Slot.unset).toArray = ls at hl ⊢
  have hl : lv_has ls 4 [(0, .ref (a 0)), (1, .int x), (2, .ref o)] := hl
  refine lv_aload_n hx hb dL_report_0 rfl (lv_at hl 2 rfl) ?_
  refine lv_iconst (v := 0) hx hb dL_report_1 (by decide) ?_
  refine lv_aload_n hx hb dL_report_2 rfl (lv_at hl 0 rfl) ?_
  refine lv_iload_n hx hb dL_report_3 rfl (lv_at hl 1 rfl) ?_
  refine pg_iL (pg_rV (As := [.int x]) (rest := [.int 0, .ref o]) ⟨hx, hb, hml, hown, hts⟩ (cc_report_ok l D cI cZ a s.heap.size u n hn h20 t ht h4 x hthr) (cwV 1 hts gL_report_X4_report rfl rfl rfl (by decide +kernel) ⟨Nat.le_of_ble_eq_true rfl, Nat.le_of_ble_eq_true rfl⟩) (hK.sub [0, 1] rfl) (pg_PL hP) (pg_DL hD) 0 (ci := 4) rfl rfl rfl rfl hl.1 rfl (Nat.le_of_ble_eq_true rfl) dL_report_4 ⟨Nat.le_of_ble_eq_true rfl, Nat.le_of_ble_eq_true rfl⟩) hP hD hS hA (fun H locs hP hD hS => ?_)
  have hP : va_P D vwCl (pg_wB cI cZ a (pg_owe (pg_tell u t x) n (pg_tellr u t x)) ++ [(o, .inl (cL, 1, .inr (.inl f)))]) H := hP
  have hD : va_D A (pg_wB cI cZ a (pg_owe (pg_tell u t x) n (pg_tellr u t x)) ++ [(o, .inl (cL, 1, .inr (.inl f)))]) := hD
  refine lv_i2l (v := (pg_tellr u t x).toInt64) hx hb dL_report_7 rfl ?_
  refine va_last hx hb hK hP hD hS 19 2 rfl rfl (show vp_in 0 1 from vp_in_nI (n := 0) (by decide) (by decide)) dL_report_8 (fun H locs hP hD hS => ?_)
  have hP : va_P D vwCl (pg_wB cI cZ a (pg_owe (pg_tell u t x) n (pg_tellr u t x)) ++ [(o, .inl (cL, 1, .inr (.inl (vp_updL f 0 ((pg_tellr u t x).toInt64)))))]) H := hP
  have hD : va_D A (pg_wB cI cZ a (pg_owe (pg_tell u t x) n (pg_tellr u t x)) ++ [(o, .inl (cL, 1, .inr (.inl (vp_updL f 0 ((pg_tellr u t x).toInt64)))))]) := hD
  refine lv_goto (tgt := 18) hx hb dL_report_9 (by decide) ?_
  refine lv_iconst (v := 0) hx hb dL_report_18 (by decide) ?_
  exact W.iret (v := 0) hx hb hr (fun t9 ht9 hW9 => ⟨⟨0, (pg_owe (pg_tell u t x) n (pg_tellr u t x), (vp_updL f 0 ((pg_tellr u t x).toInt64))), rfl, ⟨rfl, rfl⟩, by rw [ht9]; exact hP, va_K.moved hW9.alike hK, hD⟩, hS.F ht9⟩) hS.2.2 dL_report_19
set_option maxHeartbeats 4000000 in
set_option maxRecDepth 100000 in
theorem cw_report_1 (l : Launch) (hfl : l.stackTraces = false) (D : va_G) (cI cZ cL : ClassId) (a : Nat → Nat) (o : Nat) (sz : Nat) (u : pg_St) (f : Nat → Int64) (n : Nat) (hn : u.1 10 = nI n) (h20 : n ≤ 20) (t : Nat) (ht : u.1 13 = nI t) (h4 : t ≤ 4) (x : Int32) (hthr : pg_t_report (!pg_eq (u.1 3) (-1)) (!pg_eq (u.1 12) 0) (nI t) x = 1) : Met l yL_report wsL_report ({ frames := 8, cells := 1, slots := 6, locals := 129 }) (va_Pc [.ref (a 0), .int x, .ref o] (pg_T D (pg_tyL cI cZ cL) (pg_wB cI cZ a u ++ [(o, .inl (cL, 1, .inr (.inl f)))]) sz)) (va_Qi (fun r z9 => r = 1 ∧ z9 = (u, f)) (pg_E D (pg_tyL cI cZ cL) (va_A (pg_wB cI cZ a u ++ [(o, .inl (cL, 1, .inr (.inl f)))]) sz) (fun z9 : pg_St × (Nat → Int64) => pg_wB cI cZ a z9.1 ++ [(o, .inl (cL, 1, .inr (.inl z9.2)))])) (va_A (pg_wB cI cZ a u ++ [(o, .inl (cL, 1, .inr (.inl f)))]) sz)) 1 6 (va_A (pg_wB cI cZ a u ++ [(o, .inl (cL, 1, .inr (.inl f)))]) sz) := by
  refine pg_ofWH (cc := cL_report) (maxL := 4) (ret := (some .int)) (by decide) rfl ?_
  intro p e s m args below meth c s₁ B hml hv
  obtain ⟨rfl, ⟨hsz, hP, hK, hD0⟩, hE⟩ := hv
  have hx := B.exec
  have hb := B.bytes
  have hr := B.returns
  have hts := atoms_spec (ws := wsL_report) B.pre
  have hown : s.vm.findClass RL = some m.cls := findClass_of_methodNamed B.named
  have hlocks := B.notSynchronized
  subst hsz
  have hD := hD0.self (sz := s.heap.size)
  generalize hAe : va_A (pg_wB cI cZ a u ++ [(o, .inl (cL, 1, .inr (.inl f)))]) s.heap.size = A at hD hE ⊢
  have hA : ∀ q : Nat, s.heap.size ≤ q → A q := fun q h => by rw [← hAe]; exact Or.inr h
  have hS : va_S A s.heap s.heap [] := va_S.rf
  have hl := lv_entry ([.ref (a 0), .int x, .ref o]) (n := 4) (Nat.le_of_ble_eq_true rfl)
  rw [lg_entry_eq]
  generalize (lg_sl ([.ref (a 0), .int x, .ref o]) ++ List.replicate (4 - (lg_sl ([.ref (a 0), .int x, .ref o])).length) Slot.unset).toArray = ls at hl ⊢
  have hl : lv_has ls 4 [(0, .ref (a 0)), (1, .int x), (2, .ref o)] := hl
  have htab := vx_table (x := yL_report) B (hts _ List.mem_cons_self)
  obtain ⟨-, -, hE3, hE4, -⟩ := id hE
  have hw1 := hts (.classLink RL 13 "java/lang/IllegalArgumentException") (List.mem_of_getElem? (i := 1) rfl)
  refine lv_aload_n hx hb dL_report_0 rfl (lv_at hl 2 rfl) ?_
  refine lv_iconst (v := 0) hx hb dL_report_1 (by decide) ?_
  refine lv_aload_n hx hb dL_report_2 rfl (lv_at hl 0 rfl) ?_
  refine lv_iload_n hx hb dL_report_3 rfl (lv_at hl 1 rfl) ?_
  refine pg_catL (pg_xV (As := [.int x]) (rest := [.int 0, .ref o]) ⟨hx, hb, hml, hown, hts⟩ (cc_report_no l hfl D cI cZ a s.heap.size u n hn h20 t ht h4 x 1 pg_ia hthr (by decide) (fun _ => rfl) (fun h9 => absurd h9 (by decide))) (cwV 1 hts gL_report_X4_report rfl rfl rfl (by decide +kernel) ⟨Nat.le_of_ble_eq_true rfl, Nat.le_of_ble_eq_true rfl⟩) (hK.sub [0, 1] rfl) (pg_PL hP) (pg_DL hD) hS hA hE 0 (ci := 4) rfl rfl rfl rfl hl.1 rfl (Nat.le_of_ble_eq_true rfl) dL_report_4 ⟨Nat.le_of_ble_eq_true rfl, Nat.le_of_ble_eq_true rfl⟩) hP hD hS hA (fun ce q9 H locs hP hS hce hcv hcl => ?_)
  refine vx_catch (own := RL) (name := pg_ia) hown [] ⟨0, 9, 12, 13⟩ [⟨0, 9, 15, 15⟩] (by rw [htab]; rfl) (fun _ h9 => nomatch h9) (by decide) (by decide) hw1 (va_Nw.use rfl (hE3 (Cond.castable pg_ia pg_ia) (List.mem_of_getElem? (i := 0) rfl))) hce hcv hcl ?_
  refine W.widen (k := 1) (n := 6) (Nat.le_of_ble_eq_true rfl) (Nat.le_of_ble_eq_true rfl) ?_
  refine W.eq (g2 := F0 m 12 ls [.ref q9]) rfl ?_
  refine lv_astore_n (lv' := [(3, .ref q9), (0, .ref (a 0)), (1, .int x), (2, .ref o)]) hx hb dL_report_12 rfl hl (by decide) rfl (fun ls hl => ?_)
  refine lv_iconst (v := 1) hx hb dL_report_13 (by decide) ?_
  exact W.iret (v := 1) hx hb hr (fun t9 ht9 hW9 => ⟨⟨1, (u, f), rfl, ⟨rfl, rfl⟩, by rw [ht9]; exact hP, va_K.moved hW9.alike hK, hD⟩, hS.F ht9⟩) hS.2.2 dL_report_14
set_option maxHeartbeats 4000000 in
set_option maxRecDepth 100000 in
theorem cw_report_2 (l : Launch) (hfl : l.stackTraces = false) (D : va_G) (cI cZ cL : ClassId) (a : Nat → Nat) (o : Nat) (sz : Nat) (u : pg_St) (f : Nat → Int64) (n : Nat) (hn : u.1 10 = nI n) (h20 : n ≤ 20) (t : Nat) (ht : u.1 13 = nI t) (h4 : t ≤ 4) (x : Int32) (hthr : pg_t_report (!pg_eq (u.1 3) (-1)) (!pg_eq (u.1 12) 0) (nI t) x = 2) : Met l yL_report wsL_report ({ frames := 8, cells := 1, slots := 6, locals := 129 }) (va_Pc [.ref (a 0), .int x, .ref o] (pg_T D (pg_tyL cI cZ cL) (pg_wB cI cZ a u ++ [(o, .inl (cL, 1, .inr (.inl f)))]) sz)) (va_Qi (fun r z9 => r = 2 ∧ z9 = (u, f)) (pg_E D (pg_tyL cI cZ cL) (va_A (pg_wB cI cZ a u ++ [(o, .inl (cL, 1, .inr (.inl f)))]) sz) (fun z9 : pg_St × (Nat → Int64) => pg_wB cI cZ a z9.1 ++ [(o, .inl (cL, 1, .inr (.inl z9.2)))])) (va_A (pg_wB cI cZ a u ++ [(o, .inl (cL, 1, .inr (.inl f)))]) sz)) 1 6 (va_A (pg_wB cI cZ a u ++ [(o, .inl (cL, 1, .inr (.inl f)))]) sz) := by
  refine pg_ofWH (cc := cL_report) (maxL := 4) (ret := (some .int)) (by decide) rfl ?_
  intro p e s m args below meth c s₁ B hml hv
  obtain ⟨rfl, ⟨hsz, hP, hK, hD0⟩, hE⟩ := hv
  have hx := B.exec
  have hb := B.bytes
  have hr := B.returns
  have hts := atoms_spec (ws := wsL_report) B.pre
  have hown : s.vm.findClass RL = some m.cls := findClass_of_methodNamed B.named
  have hlocks := B.notSynchronized
  subst hsz
  have hD := hD0.self (sz := s.heap.size)
  generalize hAe : va_A (pg_wB cI cZ a u ++ [(o, .inl (cL, 1, .inr (.inl f)))]) s.heap.size = A at hD hE ⊢
  have hA : ∀ q : Nat, s.heap.size ≤ q → A q := fun q h => by rw [← hAe]; exact Or.inr h
  have hS : va_S A s.heap s.heap [] := va_S.rf
  have hl := lv_entry ([.ref (a 0), .int x, .ref o]) (n := 4) (Nat.le_of_ble_eq_true rfl)
  rw [lg_entry_eq]
  generalize (lg_sl ([.ref (a 0), .int x, .ref o]) ++ List.replicate (4 - (lg_sl ([.ref (a 0), .int x, .ref o])).length) Slot.unset).toArray = ls at hl ⊢
  have hl : lv_has ls 4 [(0, .ref (a 0)), (1, .int x), (2, .ref o)] := hl
  have htab := vx_table (x := yL_report) B (hts _ List.mem_cons_self)
  obtain ⟨-, -, hE3, hE4, -⟩ := id hE
  have hw1 := hts (.classLink RL 13 "java/lang/IllegalArgumentException") (List.mem_of_getElem? (i := 1) rfl)
  have hw2 := hts (.classLink RL 15 "java/lang/IllegalStateException") (List.mem_of_getElem? (i := 2) rfl)
  refine lv_aload_n hx hb dL_report_0 rfl (lv_at hl 2 rfl) ?_
  refine lv_iconst (v := 0) hx hb dL_report_1 (by decide) ?_
  refine lv_aload_n hx hb dL_report_2 rfl (lv_at hl 0 rfl) ?_
  refine lv_iload_n hx hb dL_report_3 rfl (lv_at hl 1 rfl) ?_
  refine pg_catL (pg_xV (As := [.int x]) (rest := [.int 0, .ref o]) ⟨hx, hb, hml, hown, hts⟩ (cc_report_no l hfl D cI cZ a s.heap.size u n hn h20 t ht h4 x 2 pg_is hthr (by decide) (fun h9 => absurd h9 (by decide)) (fun _ => rfl)) (cwV 1 hts gL_report_X4_report rfl rfl rfl (by decide +kernel) ⟨Nat.le_of_ble_eq_true rfl, Nat.le_of_ble_eq_true rfl⟩) (hK.sub [0, 1] rfl) (pg_PL hP) (pg_DL hD) hS hA hE 0 (ci := 4) rfl rfl rfl rfl hl.1 rfl (Nat.le_of_ble_eq_true rfl) dL_report_4 ⟨Nat.le_of_ble_eq_true rfl, Nat.le_of_ble_eq_true rfl⟩) hP hD hS hA (fun ce q9 H locs hP hS hce hcv hcl => ?_)
  refine vx_catch (own := RL) (name := pg_is) hown [⟨0, 9, 12, 13⟩] ⟨0, 9, 15, 15⟩ [] (by rw [htab]; rfl) (fun z9 h9 => by rw [List.mem_singleton.mp h9]; exact Or.inr ⟨by decide, "java/lang/IllegalArgumentException", hw1, hE4 (pg_is, pg_ia) (List.mem_of_getElem? (i := 2) rfl)⟩) (by decide) (by decide) hw2 (va_Nw.use rfl (hE3 (Cond.castable pg_is pg_is) (List.mem_of_getElem? (i := 1) rfl))) hce hcv hcl ?_
  refine W.widen (k := 1) (n := 6) (Nat.le_of_ble_eq_true rfl) (Nat.le_of_ble_eq_true rfl) ?_
  refine W.eq (g2 := F0 m 15 ls [.ref q9]) rfl ?_
  refine lv_astore_n (lv' := [(3, .ref q9), (0, .ref (a 0)), (1, .int x), (2, .ref o)]) hx hb dL_report_15 rfl hl (by decide) rfl (fun ls hl => ?_)
  refine lv_iconst (v := 2) hx hb dL_report_16 (by decide) ?_
  exact W.iret (v := 2) hx hb hr (fun t9 ht9 hW9 => ⟨⟨2, (u, f), rfl, ⟨rfl, rfl⟩, by rw [ht9]; exact hP, va_K.moved hW9.alike hK, hD⟩, hS.F ht9⟩) hS.2.2 dL_report_17
set_option maxHeartbeats 4000000 in
set_option maxRecDepth 100000 in
theorem cw_speedUp_ok (l : Launch) (D : va_G) (cI cZ cL : ClassId) (a : Nat → Nat) (o : Nat) (sz : Nat) (u : pg_St) (f : Nat → Int64) (n : Nat) (hn : u.1 10 = nI n) (h20 : n ≤ 20) (t : Nat) (ht : u.1 13 = nI t) (h4 : t ≤ 4)  (hthr : pg_t_speedUp (!pg_eq (u.1 3) (-1)) (!pg_eq (u.1 12) 0) = 0) : Met l yL_speedUp wsL_speedUp ({ frames := 7, cells := 0, slots := 0, locals := 150 }) (va_Pc [.ref (a 0), .ref o] (pg_B D (pg_tyL cI cZ cL) (pg_wB cI cZ a u ++ [(o, .inl (cL, 1, .inr (.inl f)))]) sz)) (va_Qi (fun r z9 => r = 0 ∧ z9 = (pg_owe (pg_has u t) n (pg_hasr u t), vp_updL f 0 (pg_hasr u t).toInt64)) (pg_E D (pg_tyL cI cZ cL) (va_A (pg_wB cI cZ a u ++ [(o, .inl (cL, 1, .inr (.inl f)))]) sz) (fun z9 : pg_St × (Nat → Int64) => pg_wB cI cZ a z9.1 ++ [(o, .inl (cL, 1, .inr (.inl z9.2)))])) (va_A (pg_wB cI cZ a u ++ [(o, .inl (cL, 1, .inr (.inl f)))]) sz)) 0 0 (va_A (pg_wB cI cZ a u ++ [(o, .inl (cL, 1, .inr (.inl f)))]) sz) := by
  refine pg_ofWH (cc := cL_speedUp) (maxL := 3) (ret := (some .int)) (by decide) rfl ?_
  intro p e s m args below meth c s₁ B hml hv
  obtain ⟨rfl, hsz, hP, hK, hD0⟩ := hv
  have hx := B.exec
  have hb := B.bytes
  have hr := B.returns
  have hts := atoms_spec (ws := wsL_speedUp) B.pre
  have hown : s.vm.findClass RL = some m.cls := findClass_of_methodNamed B.named
  have hlocks := B.notSynchronized
  subst hsz
  have hD := hD0.self (sz := s.heap.size)
  generalize hAe : va_A (pg_wB cI cZ a u ++ [(o, .inl (cL, 1, .inr (.inl f)))]) s.heap.size = A at hD ⊢
  have hA : ∀ q : Nat, s.heap.size ≤ q → A q := fun q h => by rw [← hAe]; exact Or.inr h
  have hS : va_S A s.heap s.heap [] := va_S.rf
  have hl := lv_entry ([.ref (a 0), .ref o]) (n := 3) (Nat.le_of_ble_eq_true rfl)
  rw [lg_entry_eq]
  generalize (lg_sl ([.ref (a 0), .ref o]) ++ List.replicate (3 - (lg_sl ([.ref (a 0), .ref o])).length) Slot.unset).toArray = ls at hl ⊢
  have hl : lv_has ls 3 [(0, .ref (a 0)), (1, .ref o)] := hl
  refine lv_aload_n hx hb dL_speedUp_0 rfl (lv_at hl 1 rfl) ?_
  refine lv_iconst (v := 0) hx hb dL_speedUp_1 (by decide) ?_
  refine lv_aload_n hx hb dL_speedUp_2 rfl (lv_at hl 0 rfl) ?_
  refine pg_iL (pg_rV (As := []) (rest := [.int 0, .ref o]) ⟨hx, hb, hml, hown, hts⟩ (cc_speedUp_ok l D cI cZ a s.heap.size u n hn h20 t ht h4  hthr) (cwV 0 hts gL_speedUp_X4_speedUp rfl rfl rfl (by decide +kernel) ⟨Nat.le_of_ble_eq_true rfl, Nat.le_of_ble_eq_true rfl⟩) (hK.sub [0, 1] rfl) (pg_PL hP) (pg_DL hD) 0 (ci := 4) rfl rfl rfl rfl hl.1 rfl (Nat.le_of_ble_eq_true rfl) dL_speedUp_3 ⟨Nat.le_of_ble_eq_true rfl, Nat.le_of_ble_eq_true rfl⟩) hP hD hS hA (fun H locs hP hD hS => ?_)
  have hP : va_P D vwCl (pg_wB cI cZ a (pg_owe (pg_has u t) n (pg_hasr u t)) ++ [(o, .inl (cL, 1, .inr (.inl f)))]) H := hP
  have hD : va_D A (pg_wB cI cZ a (pg_owe (pg_has u t) n (pg_hasr u t)) ++ [(o, .inl (cL, 1, .inr (.inl f)))]) := hD
  refine lv_i2l (v := (pg_hasr u t).toInt64) hx hb dL_speedUp_6 rfl ?_
  refine va_last hx hb hK hP hD hS 19 2 rfl rfl (show vp_in 0 1 from vp_in_nI (n := 0) (by decide) (by decide)) dL_speedUp_7 (fun H locs hP hD hS => ?_)
  have hP : va_P D vwCl (pg_wB cI cZ a (pg_owe (pg_has u t) n (pg_hasr u t)) ++ [(o, .inl (cL, 1, .inr (.inl (vp_updL f 0 ((pg_hasr u t).toInt64)))))]) H := hP
  have hD : va_D A (pg_wB cI cZ a (pg_owe (pg_has u t) n (pg_hasr u t)) ++ [(o, .inl (cL, 1, .inr (.inl (vp_updL f 0 ((pg_hasr u t).toInt64)))))]) := hD
  refine lv_goto (tgt := 14) hx hb dL_speedUp_8 (by decide) ?_
  refine lv_iconst (v := 0) hx hb dL_speedUp_14 (by decide) ?_
  exact W.iret (v := 0) hx hb hr (fun t9 ht9 hW9 => ⟨⟨0, (pg_owe (pg_has u t) n (pg_hasr u t), (vp_updL f 0 ((pg_hasr u t).toInt64))), rfl, ⟨rfl, rfl⟩, by rw [ht9]; exact hP, va_K.moved hW9.alike hK, hD⟩, hS.F ht9⟩) hS.2.2 dL_speedUp_15
set_option maxHeartbeats 4000000 in
set_option maxRecDepth 100000 in
theorem cw_speedUp_1 (l : Launch) (hfl : l.stackTraces = false) (D : va_G) (cI cZ cL : ClassId) (a : Nat → Nat) (o : Nat) (sz : Nat) (u : pg_St) (f : Nat → Int64) (n : Nat) (hn : u.1 10 = nI n) (h20 : n ≤ 20) (t : Nat) (ht : u.1 13 = nI t) (h4 : t ≤ 4)  (hthr : pg_t_speedUp (!pg_eq (u.1 3) (-1)) (!pg_eq (u.1 12) 0) = 1) : Met l yL_speedUp wsL_speedUp ({ frames := 8, cells := 1, slots := 6, locals := 126 }) (va_Pc [.ref (a 0), .ref o] (pg_T D (pg_tyL cI cZ cL) (pg_wB cI cZ a u ++ [(o, .inl (cL, 1, .inr (.inl f)))]) sz)) (va_Qi (fun r z9 => r = 1 ∧ z9 = (u, f)) (pg_E D (pg_tyL cI cZ cL) (va_A (pg_wB cI cZ a u ++ [(o, .inl (cL, 1, .inr (.inl f)))]) sz) (fun z9 : pg_St × (Nat → Int64) => pg_wB cI cZ a z9.1 ++ [(o, .inl (cL, 1, .inr (.inl z9.2)))])) (va_A (pg_wB cI cZ a u ++ [(o, .inl (cL, 1, .inr (.inl f)))]) sz)) 1 6 (va_A (pg_wB cI cZ a u ++ [(o, .inl (cL, 1, .inr (.inl f)))]) sz) := by
  refine pg_ofWH (cc := cL_speedUp) (maxL := 3) (ret := (some .int)) (by decide) rfl ?_
  intro p e s m args below meth c s₁ B hml hv
  obtain ⟨rfl, ⟨hsz, hP, hK, hD0⟩, hE⟩ := hv
  have hx := B.exec
  have hb := B.bytes
  have hr := B.returns
  have hts := atoms_spec (ws := wsL_speedUp) B.pre
  have hown : s.vm.findClass RL = some m.cls := findClass_of_methodNamed B.named
  have hlocks := B.notSynchronized
  subst hsz
  have hD := hD0.self (sz := s.heap.size)
  generalize hAe : va_A (pg_wB cI cZ a u ++ [(o, .inl (cL, 1, .inr (.inl f)))]) s.heap.size = A at hD hE ⊢
  have hA : ∀ q : Nat, s.heap.size ≤ q → A q := fun q h => by rw [← hAe]; exact Or.inr h
  have hS : va_S A s.heap s.heap [] := va_S.rf
  have hl := lv_entry ([.ref (a 0), .ref o]) (n := 3) (Nat.le_of_ble_eq_true rfl)
  rw [lg_entry_eq]
  generalize (lg_sl ([.ref (a 0), .ref o]) ++ List.replicate (3 - (lg_sl ([.ref (a 0), .ref o])).length) Slot.unset).toArray = ls at hl ⊢
  have hl : lv_has ls 3 [(0, .ref (a 0)), (1, .ref o)] := hl
  have htab := vx_table (x := yL_speedUp) B (hts _ List.mem_cons_self)
  obtain ⟨-, -, hE3, hE4, -⟩ := id hE
  have hw1 := hts (.classLink RL 15 "java/lang/IllegalStateException") (List.mem_of_getElem? (i := 1) rfl)
  refine lv_aload_n hx hb dL_speedUp_0 rfl (lv_at hl 1 rfl) ?_
  refine lv_iconst (v := 0) hx hb dL_speedUp_1 (by decide) ?_
  refine lv_aload_n hx hb dL_speedUp_2 rfl (lv_at hl 0 rfl) ?_
  refine pg_catL (pg_xV (As := []) (rest := [.int 0, .ref o]) ⟨hx, hb, hml, hown, hts⟩ (cc_speedUp_no l hfl D cI cZ a s.heap.size u n hn h20 t ht h4  1 pg_is hthr (by decide) (fun _ => rfl)) (cwV 0 hts gL_speedUp_X4_speedUp rfl rfl rfl (by decide +kernel) ⟨Nat.le_of_ble_eq_true rfl, Nat.le_of_ble_eq_true rfl⟩) (hK.sub [0, 1] rfl) (pg_PL hP) (pg_DL hD) hS hA hE 0 (ci := 4) rfl rfl rfl rfl hl.1 rfl (Nat.le_of_ble_eq_true rfl) dL_speedUp_3 ⟨Nat.le_of_ble_eq_true rfl, Nat.le_of_ble_eq_true rfl⟩) hP hD hS hA (fun ce q9 H locs hP hS hce hcv hcl => ?_)
  refine vx_catch (own := RL) (name := pg_is) hown [] ⟨0, 8, 11, 15⟩ [] (by rw [htab]; rfl) (fun _ h9 => nomatch h9) (by decide) (by decide) hw1 (va_Nw.use rfl (hE3 (Cond.castable pg_is pg_is) (List.mem_of_getElem? (i := 1) rfl))) hce hcv hcl ?_
  refine W.widen (k := 1) (n := 6) (Nat.le_of_ble_eq_true rfl) (Nat.le_of_ble_eq_true rfl) ?_
  refine W.eq (g2 := F0 m 11 ls [.ref q9]) rfl ?_
  refine lv_astore_n (lv' := [(2, .ref q9), (0, .ref (a 0)), (1, .ref o)]) hx hb dL_speedUp_11 rfl hl (by decide) rfl (fun ls hl => ?_)
  refine lv_iconst (v := 1) hx hb dL_speedUp_12 (by decide) ?_
  exact W.iret (v := 1) hx hb hr (fun t9 ht9 hW9 => ⟨⟨1, (u, f), rfl, ⟨rfl, rfl⟩, by rw [ht9]; exact hP, va_K.moved hW9.alike hK, hD⟩, hS.F ht9⟩) hS.2.2 dL_speedUp_13
set_option maxHeartbeats 4000000 in
set_option maxRecDepth 100000 in
theorem cw_dueOf_ok (l : Launch) (D : va_G) (cI cZ cL : ClassId) (a : Nat → Nat) (o : Nat) (sz : Nat) (u : pg_St) (f : Nat → Int64) (n : Nat) (hn : u.1 10 = nI n) (h20 : n ≤ 20) (k : Int32) (hthr : pg_t_num k 3 = 0) : Met l yL_dueOf wsL_dueOf ({ frames := 4, cells := 0, slots := 0, locals := 87 }) (va_Pc [.ref (a 0), .int k, .ref o] (pg_B D (pg_tyL cI cZ cL) (pg_wB cI cZ a u ++ [(o, .inl (cL, 1, .inr (.inl f)))]) sz)) (va_Qi (fun r z9 => r = 0 ∧ z9 = (u, vp_updL f 0 (pg_due u.2 n k.toNatClampNeg).toInt64)) (pg_E D (pg_tyL cI cZ cL) (va_A (pg_wB cI cZ a u ++ [(o, .inl (cL, 1, .inr (.inl f)))]) sz) (fun z9 : pg_St × (Nat → Int64) => pg_wB cI cZ a z9.1 ++ [(o, .inl (cL, 1, .inr (.inl z9.2)))])) (va_A (pg_wB cI cZ a u ++ [(o, .inl (cL, 1, .inr (.inl f)))]) sz)) 0 0 (va_A (pg_wB cI cZ a u ++ [(o, .inl (cL, 1, .inr (.inl f)))]) sz) := by
  refine pg_ofWH (cc := cL_dueOf) (maxL := 4) (ret := (some .int)) (by decide) rfl ?_
  intro p e s m args below meth c s₁ B hml hv
  obtain ⟨rfl, hsz, hP, hK, hD0⟩ := hv
  have hx := B.exec
  have hb := B.bytes
  have hr := B.returns
  have hts := atoms_spec (ws := wsL_dueOf) B.pre
  have hown : s.vm.findClass RL = some m.cls := findClass_of_methodNamed B.named
  have hlocks := B.notSynchronized
  subst hsz
  have hD := hD0.self (sz := s.heap.size)
  generalize hAe : va_A (pg_wB cI cZ a u ++ [(o, .inl (cL, 1, .inr (.inl f)))]) s.heap.size = A at hD ⊢
  have hA : ∀ q : Nat, s.heap.size ≤ q → A q := fun q h => by rw [← hAe]; exact Or.inr h
  have hS : va_S A s.heap s.heap [] := va_S.rf
  have hl := lv_entry ([.ref (a 0), .int k, .ref o]) (n := 4) (Nat.le_of_ble_eq_true rfl)
  rw [lg_entry_eq]
  generalize (lg_sl ([.ref (a 0), .int k, .ref o]) ++ List.replicate (4 - (lg_sl ([.ref (a 0), .int k, .ref o])).length) Slot.unset).toArray = ls at hl ⊢
  have hl : lv_has ls 4 [(0, .ref (a 0)), (1, .int k), (2, .ref o)] := hl
  refine lv_aload_n hx hb dL_dueOf_0 rfl (lv_at hl 2 rfl) ?_
  refine lv_iconst (v := 0) hx hb dL_dueOf_1 (by decide) ?_
  refine lv_aload_n hx hb dL_dueOf_2 rfl (lv_at hl 0 rfl) ?_
  refine lv_iload_n hx hb dL_dueOf_3 rfl (lv_at hl 1 rfl) ?_
  refine pg_iL (pg_rV (As := [.int k]) (rest := [.int 0, .ref o]) ⟨hx, hb, hml, hown, hts⟩ (cc_dueOf_ok l D cI cZ a s.heap.size u n hn h20 k hthr) (cwV 1 hts gL_dueOf_X4_dueOf rfl rfl rfl (by decide +kernel) ⟨Nat.le_of_ble_eq_true rfl, Nat.le_of_ble_eq_true rfl⟩) (hK.sub [0, 1] rfl) (pg_PL hP) (pg_DL hD) 0 (ci := 4) rfl rfl rfl rfl hl.1 rfl (Nat.le_of_ble_eq_true rfl) dL_dueOf_4 ⟨Nat.le_of_ble_eq_true rfl, Nat.le_of_ble_eq_true rfl⟩) hP hD hS hA (fun H locs hP hD hS => ?_)
  have hP : va_P D vwCl (pg_wB cI cZ a u ++ [(o, .inl (cL, 1, .inr (.inl f)))]) H := hP
  have hD : va_D A (pg_wB cI cZ a u ++ [(o, .inl (cL, 1, .inr (.inl f)))]) := hD
  refine lv_i2l (v := (pg_due u.2 n k.toNatClampNeg).toInt64) hx hb dL_dueOf_7 rfl ?_
  refine va_last hx hb hK hP hD hS 19 2 rfl rfl (show vp_in 0 1 from vp_in_nI (n := 0) (by decide) (by decide)) dL_dueOf_8 (fun H locs hP hD hS => ?_)
  have hP : va_P D vwCl (pg_wB cI cZ a u ++ [(o, .inl (cL, 1, .inr (.inl (vp_updL f 0 ((pg_due u.2 n k.toNatClampNeg).toInt64)))))]) H := hP
  have hD : va_D A (pg_wB cI cZ a u ++ [(o, .inl (cL, 1, .inr (.inl (vp_updL f 0 ((pg_due u.2 n k.toNatClampNeg).toInt64)))))]) := hD
  refine lv_goto (tgt := 15) hx hb dL_dueOf_9 (by decide) ?_
  refine lv_iconst (v := 0) hx hb dL_dueOf_15 (by decide) ?_
  exact W.iret (v := 0) hx hb hr (fun t9 ht9 hW9 => ⟨⟨0, (u, (vp_updL f 0 ((pg_due u.2 n k.toNatClampNeg).toInt64))), rfl, ⟨rfl, rfl⟩, by rw [ht9]; exact hP, va_K.moved hW9.alike hK, hD⟩, hS.F ht9⟩) hS.2.2 dL_dueOf_16
set_option maxHeartbeats 4000000 in
set_option maxRecDepth 100000 in
theorem cw_dueOf_1 (l : Launch) (hfl : l.stackTraces = false) (D : va_G) (cI cZ cL : ClassId) (a : Nat → Nat) (o : Nat) (sz : Nat) (u : pg_St) (f : Nat → Int64) (n : Nat) (hn : u.1 10 = nI n) (h20 : n ≤ 20) (k : Int32) (hthr : pg_t_num k 3 = 1) : Met l yL_dueOf wsL_dueOf ({ frames := 8, cells := 1, slots := 6, locals := 129 }) (va_Pc [.ref (a 0), .int k, .ref o] (pg_T D (pg_tyL cI cZ cL) (pg_wB cI cZ a u ++ [(o, .inl (cL, 1, .inr (.inl f)))]) sz)) (va_Qi (fun r z9 => r = 1 ∧ z9 = (u, f)) (pg_E D (pg_tyL cI cZ cL) (va_A (pg_wB cI cZ a u ++ [(o, .inl (cL, 1, .inr (.inl f)))]) sz) (fun z9 : pg_St × (Nat → Int64) => pg_wB cI cZ a z9.1 ++ [(o, .inl (cL, 1, .inr (.inl z9.2)))])) (va_A (pg_wB cI cZ a u ++ [(o, .inl (cL, 1, .inr (.inl f)))]) sz)) 1 6 (va_A (pg_wB cI cZ a u ++ [(o, .inl (cL, 1, .inr (.inl f)))]) sz) := by
  refine pg_ofWH (cc := cL_dueOf) (maxL := 4) (ret := (some .int)) (by decide) rfl ?_
  intro p e s m args below meth c s₁ B hml hv
  obtain ⟨rfl, ⟨hsz, hP, hK, hD0⟩, hE⟩ := hv
  have hx := B.exec
  have hb := B.bytes
  have hr := B.returns
  have hts := atoms_spec (ws := wsL_dueOf) B.pre
  have hown : s.vm.findClass RL = some m.cls := findClass_of_methodNamed B.named
  have hlocks := B.notSynchronized
  subst hsz
  have hD := hD0.self (sz := s.heap.size)
  generalize hAe : va_A (pg_wB cI cZ a u ++ [(o, .inl (cL, 1, .inr (.inl f)))]) s.heap.size = A at hD hE ⊢
  have hA : ∀ q : Nat, s.heap.size ≤ q → A q := fun q h => by rw [← hAe]; exact Or.inr h
  have hS : va_S A s.heap s.heap [] := va_S.rf
  have hl := lv_entry ([.ref (a 0), .int k, .ref o]) (n := 4) (Nat.le_of_ble_eq_true rfl)
  rw [lg_entry_eq]
  generalize (lg_sl ([.ref (a 0), .int k, .ref o]) ++ List.replicate (4 - (lg_sl ([.ref (a 0), .int k, .ref o])).length) Slot.unset).toArray = ls at hl ⊢
  have hl : lv_has ls 4 [(0, .ref (a 0)), (1, .int k), (2, .ref o)] := hl
  have htab := vx_table (x := yL_dueOf) B (hts _ List.mem_cons_self)
  obtain ⟨-, -, hE3, hE4, -⟩ := id hE
  have hw1 := hts (.classLink RL 20 "java/lang/IndexOutOfBoundsException") (List.mem_of_getElem? (i := 1) rfl)
  refine lv_aload_n hx hb dL_dueOf_0 rfl (lv_at hl 2 rfl) ?_
  refine lv_iconst (v := 0) hx hb dL_dueOf_1 (by decide) ?_
  refine lv_aload_n hx hb dL_dueOf_2 rfl (lv_at hl 0 rfl) ?_
  refine lv_iload_n hx hb dL_dueOf_3 rfl (lv_at hl 1 rfl) ?_
  refine pg_catL (pg_xV (As := [.int k]) (rest := [.int 0, .ref o]) ⟨hx, hb, hml, hown, hts⟩ (cc_dueOf_no l hfl D cI cZ a s.heap.size u n hn h20 k 1 pg_io hthr (by decide) (fun _ => rfl)) (cwV 1 hts gL_dueOf_X4_dueOf rfl rfl rfl (by decide +kernel) ⟨Nat.le_of_ble_eq_true rfl, Nat.le_of_ble_eq_true rfl⟩) (hK.sub [0, 1] rfl) (pg_PL hP) (pg_DL hD) hS hA hE 0 (ci := 4) rfl rfl rfl rfl hl.1 rfl (Nat.le_of_ble_eq_true rfl) dL_dueOf_4 ⟨Nat.le_of_ble_eq_true rfl, Nat.le_of_ble_eq_true rfl⟩) hP hD hS hA (fun ce q9 H locs hP hS hce hcv hcl => ?_)
  refine vx_catch (own := RL) (name := pg_io) hown [] ⟨0, 9, 12, 20⟩ [] (by rw [htab]; rfl) (fun _ h9 => nomatch h9) (by decide) (by decide) hw1 (va_Nw.use rfl (hE3 (Cond.castable pg_io pg_io) (List.mem_of_getElem? (i := 2) rfl))) hce hcv hcl ?_
  refine W.widen (k := 1) (n := 6) (Nat.le_of_ble_eq_true rfl) (Nat.le_of_ble_eq_true rfl) ?_
  refine W.eq (g2 := F0 m 12 ls [.ref q9]) rfl ?_
  refine lv_astore_n (lv' := [(3, .ref q9), (0, .ref (a 0)), (1, .int k), (2, .ref o)]) hx hb dL_dueOf_12 rfl hl (by decide) rfl (fun ls hl => ?_)
  refine lv_iconst (v := 1) hx hb dL_dueOf_13 (by decide) ?_
  exact W.iret (v := 1) hx hb hr (fun t9 ht9 hW9 => ⟨⟨1, (u, f), rfl, ⟨rfl, rfl⟩, by rw [ht9]; exact hP, va_K.moved hW9.alike hK, hD⟩, hS.F ht9⟩) hS.2.2 dL_dueOf_14
set_option maxHeartbeats 4000000 in
set_option maxRecDepth 100000 in
theorem cw_settledAt_ok (l : Launch) (D : va_G) (cI cZ cL : ClassId) (a : Nat → Nat) (o : Nat) (sz : Nat) (u : pg_St) (f : Nat → Int64) (n : Nat) (hn : u.1 10 = nI n) (h20 : n ≤ 20) (k : Int32) (hthr : pg_t_num k (nI n) = 0) : Met l yL_settledAt wsL_settledAt ({ frames := 2, cells := 0, slots := 0, locals := 43 }) (va_Pc [.ref (a 0), .int k, .ref o] (pg_B D (pg_tyL cI cZ cL) (pg_wB cI cZ a u ++ [(o, .inl (cL, 1, .inr (.inl f)))]) sz)) (va_Qi (fun r z9 => r = 0 ∧ z9 = (u, vp_updL f 0 (u.2 10 k.toNatClampNeg).toInt64)) (pg_E D (pg_tyL cI cZ cL) (va_A (pg_wB cI cZ a u ++ [(o, .inl (cL, 1, .inr (.inl f)))]) sz) (fun z9 : pg_St × (Nat → Int64) => pg_wB cI cZ a z9.1 ++ [(o, .inl (cL, 1, .inr (.inl z9.2)))])) (va_A (pg_wB cI cZ a u ++ [(o, .inl (cL, 1, .inr (.inl f)))]) sz)) 0 0 (va_A (pg_wB cI cZ a u ++ [(o, .inl (cL, 1, .inr (.inl f)))]) sz) := by
  refine pg_ofWH (cc := cL_settledAt) (maxL := 4) (ret := (some .int)) (by decide) rfl ?_
  intro p e s m args below meth c s₁ B hml hv
  obtain ⟨rfl, hsz, hP, hK, hD0⟩ := hv
  have hx := B.exec
  have hb := B.bytes
  have hr := B.returns
  have hts := atoms_spec (ws := wsL_settledAt) B.pre
  have hown : s.vm.findClass RL = some m.cls := findClass_of_methodNamed B.named
  have hlocks := B.notSynchronized
  subst hsz
  have hD := hD0.self (sz := s.heap.size)
  generalize hAe : va_A (pg_wB cI cZ a u ++ [(o, .inl (cL, 1, .inr (.inl f)))]) s.heap.size = A at hD ⊢
  have hA : ∀ q : Nat, s.heap.size ≤ q → A q := fun q h => by rw [← hAe]; exact Or.inr h
  have hS : va_S A s.heap s.heap [] := va_S.rf
  have hl := lv_entry ([.ref (a 0), .int k, .ref o]) (n := 4) (Nat.le_of_ble_eq_true rfl)
  rw [lg_entry_eq]
  generalize (lg_sl ([.ref (a 0), .int k, .ref o]) ++ List.replicate (4 - (lg_sl ([.ref (a 0), .int k, .ref o])).length) Slot.unset).toArray = ls at hl ⊢
  have hl : lv_has ls 4 [(0, .ref (a 0)), (1, .int k), (2, .ref o)] := hl
  refine lv_aload_n hx hb dL_settledAt_0 rfl (lv_at hl 2 rfl) ?_
  refine lv_iconst (v := 0) hx hb dL_settledAt_1 (by decide) ?_
  refine lv_aload_n hx hb dL_settledAt_2 rfl (lv_at hl 0 rfl) ?_
  refine lv_iload_n hx hb dL_settledAt_3 rfl (lv_at hl 1 rfl) ?_
  refine pg_iL (pg_rV (As := [.int k]) (rest := [.int 0, .ref o]) ⟨hx, hb, hml, hown, hts⟩ (cc_settledAt_ok l D cI cZ a s.heap.size u n hn h20 k hthr) (cwV 1 hts gL_settledAt_X4_settledAt rfl rfl rfl (by decide +kernel) ⟨Nat.le_of_ble_eq_true rfl, Nat.le_of_ble_eq_true rfl⟩) (hK.sub [0, 1] rfl) (pg_PL hP) (pg_DL hD) 0 (ci := 4) rfl rfl rfl rfl hl.1 rfl (Nat.le_of_ble_eq_true rfl) dL_settledAt_4 ⟨Nat.le_of_ble_eq_true rfl, Nat.le_of_ble_eq_true rfl⟩) hP hD hS hA (fun H locs hP hD hS => ?_)
  have hP : va_P D vwCl (pg_wB cI cZ a u ++ [(o, .inl (cL, 1, .inr (.inl f)))]) H := hP
  have hD : va_D A (pg_wB cI cZ a u ++ [(o, .inl (cL, 1, .inr (.inl f)))]) := hD
  refine lv_i2l (v := (u.2 10 k.toNatClampNeg).toInt64) hx hb dL_settledAt_7 rfl ?_
  refine va_last hx hb hK hP hD hS 19 2 rfl rfl (show vp_in 0 1 from vp_in_nI (n := 0) (by decide) (by decide)) dL_settledAt_8 (fun H locs hP hD hS => ?_)
  have hP : va_P D vwCl (pg_wB cI cZ a u ++ [(o, .inl (cL, 1, .inr (.inl (vp_updL f 0 ((u.2 10 k.toNatClampNeg).toInt64)))))]) H := hP
  have hD : va_D A (pg_wB cI cZ a u ++ [(o, .inl (cL, 1, .inr (.inl (vp_updL f 0 ((u.2 10 k.toNatClampNeg).toInt64)))))]) := hD
  refine lv_goto (tgt := 15) hx hb dL_settledAt_9 (by decide) ?_
  refine lv_iconst (v := 0) hx hb dL_settledAt_15 (by decide) ?_
  exact W.iret (v := 0) hx hb hr (fun t9 ht9 hW9 => ⟨⟨0, (u, (vp_updL f 0 ((u.2 10 k.toNatClampNeg).toInt64))), rfl, ⟨rfl, rfl⟩, by rw [ht9]; exact hP, va_K.moved hW9.alike hK, hD⟩, hS.F ht9⟩) hS.2.2 dL_settledAt_16
set_option maxHeartbeats 4000000 in
set_option maxRecDepth 100000 in
theorem cw_settledAt_1 (l : Launch) (hfl : l.stackTraces = false) (D : va_G) (cI cZ cL : ClassId) (a : Nat → Nat) (o : Nat) (sz : Nat) (u : pg_St) (f : Nat → Int64) (n : Nat) (hn : u.1 10 = nI n) (h20 : n ≤ 20) (k : Int32) (hthr : pg_t_num k (nI n) = 1) : Met l yL_settledAt wsL_settledAt ({ frames := 8, cells := 1, slots := 6, locals := 129 }) (va_Pc [.ref (a 0), .int k, .ref o] (pg_T D (pg_tyL cI cZ cL) (pg_wB cI cZ a u ++ [(o, .inl (cL, 1, .inr (.inl f)))]) sz)) (va_Qi (fun r z9 => r = 1 ∧ z9 = (u, f)) (pg_E D (pg_tyL cI cZ cL) (va_A (pg_wB cI cZ a u ++ [(o, .inl (cL, 1, .inr (.inl f)))]) sz) (fun z9 : pg_St × (Nat → Int64) => pg_wB cI cZ a z9.1 ++ [(o, .inl (cL, 1, .inr (.inl z9.2)))])) (va_A (pg_wB cI cZ a u ++ [(o, .inl (cL, 1, .inr (.inl f)))]) sz)) 1 6 (va_A (pg_wB cI cZ a u ++ [(o, .inl (cL, 1, .inr (.inl f)))]) sz) := by
  refine pg_ofWH (cc := cL_settledAt) (maxL := 4) (ret := (some .int)) (by decide) rfl ?_
  intro p e s m args below meth c s₁ B hml hv
  obtain ⟨rfl, ⟨hsz, hP, hK, hD0⟩, hE⟩ := hv
  have hx := B.exec
  have hb := B.bytes
  have hr := B.returns
  have hts := atoms_spec (ws := wsL_settledAt) B.pre
  have hown : s.vm.findClass RL = some m.cls := findClass_of_methodNamed B.named
  have hlocks := B.notSynchronized
  subst hsz
  have hD := hD0.self (sz := s.heap.size)
  generalize hAe : va_A (pg_wB cI cZ a u ++ [(o, .inl (cL, 1, .inr (.inl f)))]) s.heap.size = A at hD hE ⊢
  have hA : ∀ q : Nat, s.heap.size ≤ q → A q := fun q h => by rw [← hAe]; exact Or.inr h
  have hS : va_S A s.heap s.heap [] := va_S.rf
  have hl := lv_entry ([.ref (a 0), .int k, .ref o]) (n := 4) (Nat.le_of_ble_eq_true rfl)
  rw [lg_entry_eq]
  generalize (lg_sl ([.ref (a 0), .int k, .ref o]) ++ List.replicate (4 - (lg_sl ([.ref (a 0), .int k, .ref o])).length) Slot.unset).toArray = ls at hl ⊢
  have hl : lv_has ls 4 [(0, .ref (a 0)), (1, .int k), (2, .ref o)] := hl
  have htab := vx_table (x := yL_settledAt) B (hts _ List.mem_cons_self)
  obtain ⟨-, -, hE3, hE4, -⟩ := id hE
  have hw1 := hts (.classLink RL 20 "java/lang/IndexOutOfBoundsException") (List.mem_of_getElem? (i := 1) rfl)
  refine lv_aload_n hx hb dL_settledAt_0 rfl (lv_at hl 2 rfl) ?_
  refine lv_iconst (v := 0) hx hb dL_settledAt_1 (by decide) ?_
  refine lv_aload_n hx hb dL_settledAt_2 rfl (lv_at hl 0 rfl) ?_
  refine lv_iload_n hx hb dL_settledAt_3 rfl (lv_at hl 1 rfl) ?_
  refine pg_catL (pg_xV (As := [.int k]) (rest := [.int 0, .ref o]) ⟨hx, hb, hml, hown, hts⟩ (cc_settledAt_no l hfl D cI cZ a s.heap.size u n hn h20 k 1 pg_io hthr (by decide) (fun _ => rfl)) (cwV 1 hts gL_settledAt_X4_settledAt rfl rfl rfl (by decide +kernel) ⟨Nat.le_of_ble_eq_true rfl, Nat.le_of_ble_eq_true rfl⟩) (hK.sub [0, 1] rfl) (pg_PL hP) (pg_DL hD) hS hA hE 0 (ci := 4) rfl rfl rfl rfl hl.1 rfl (Nat.le_of_ble_eq_true rfl) dL_settledAt_4 ⟨Nat.le_of_ble_eq_true rfl, Nat.le_of_ble_eq_true rfl⟩) hP hD hS hA (fun ce q9 H locs hP hS hce hcv hcl => ?_)
  refine vx_catch (own := RL) (name := pg_io) hown [] ⟨0, 9, 12, 20⟩ [] (by rw [htab]; rfl) (fun _ h9 => nomatch h9) (by decide) (by decide) hw1 (va_Nw.use rfl (hE3 (Cond.castable pg_io pg_io) (List.mem_of_getElem? (i := 2) rfl))) hce hcv hcl ?_
  refine W.widen (k := 1) (n := 6) (Nat.le_of_ble_eq_true rfl) (Nat.le_of_ble_eq_true rfl) ?_
  refine W.eq (g2 := F0 m 12 ls [.ref q9]) rfl ?_
  refine lv_astore_n (lv' := [(3, .ref q9), (0, .ref (a 0)), (1, .int k), (2, .ref o)]) hx hb dL_settledAt_12 rfl hl (by decide) rfl (fun ls hl => ?_)
  refine lv_iconst (v := 1) hx hb dL_settledAt_13 (by decide) ?_
  exact W.iret (v := 1) hx hb hr (fun t9 ht9 hW9 => ⟨⟨1, (u, f), rfl, ⟨rfl, rfl⟩, by rw [ht9]; exact hP, va_K.moved hW9.alike hK, hD⟩, hS.F ht9⟩) hS.2.2 dL_settledAt_14
set_option maxHeartbeats 4000000 in
set_option maxRecDepth 100000 in
theorem cw_isMet_ok (l : Launch) (D : va_G) (cI cZ cL : ClassId) (a : Nat → Nat) (o : Nat) (sz : Nat) (u : pg_St) (f : Nat → Int64) (hm9 : ∀ j, j < 4 → narrow .boolean (.int (u.2 13 j)) = .int (u.2 13 j)) (k : Int32) (hthr : pg_t_num k 4 = 0) : Met l yL_isMet wsL_isMet ({ frames := 2, cells := 0, slots := 0, locals := 43 }) (va_Pc [.ref (a 0), .int k, .ref o] (pg_B D (pg_tyL cI cZ cL) (pg_wB cI cZ a u ++ [(o, .inl (cL, 1, .inr (.inl f)))]) sz)) (va_Qi (fun r z9 => r = 0 ∧ z9 = (u, vp_updL f 0 (if u.2 13 k.toNatClampNeg = 0 then 0 else 1))) (pg_E D (pg_tyL cI cZ cL) (va_A (pg_wB cI cZ a u ++ [(o, .inl (cL, 1, .inr (.inl f)))]) sz) (fun z9 : pg_St × (Nat → Int64) => pg_wB cI cZ a z9.1 ++ [(o, .inl (cL, 1, .inr (.inl z9.2)))])) (va_A (pg_wB cI cZ a u ++ [(o, .inl (cL, 1, .inr (.inl f)))]) sz)) 0 0 (va_A (pg_wB cI cZ a u ++ [(o, .inl (cL, 1, .inr (.inl f)))]) sz) := by
  refine pg_ofWH (cc := cL_isMet) (maxL := 4) (ret := (some .int)) (by decide) rfl ?_
  intro p e s m args below meth c s₁ B hml hv
  obtain ⟨rfl, hsz, hP, hK, hD0⟩ := hv
  have hx := B.exec
  have hb := B.bytes
  have hr := B.returns
  have hts := atoms_spec (ws := wsL_isMet) B.pre
  have hown : s.vm.findClass RL = some m.cls := findClass_of_methodNamed B.named
  have hlocks := B.notSynchronized
  subst hsz
  have hD := hD0.self (sz := s.heap.size)
  generalize hAe : va_A (pg_wB cI cZ a u ++ [(o, .inl (cL, 1, .inr (.inl f)))]) s.heap.size = A at hD ⊢
  have hA : ∀ q : Nat, s.heap.size ≤ q → A q := fun q h => by rw [← hAe]; exact Or.inr h
  have hS : va_S A s.heap s.heap [] := va_S.rf
  have hl := lv_entry ([.ref (a 0), .int k, .ref o]) (n := 4) (Nat.le_of_ble_eq_true rfl)
  rw [lg_entry_eq]
  generalize (lg_sl ([.ref (a 0), .int k, .ref o]) ++ List.replicate (4 - (lg_sl ([.ref (a 0), .int k, .ref o])).length) Slot.unset).toArray = ls at hl ⊢
  have hl : lv_has ls 4 [(0, .ref (a 0)), (1, .int k), (2, .ref o)] := hl
  refine lv_aload_n hx hb dL_isMet_0 rfl (lv_at hl 2 rfl) ?_
  refine lv_iconst (v := 0) hx hb dL_isMet_1 (by decide) ?_
  refine lv_aload_n hx hb dL_isMet_2 rfl (lv_at hl 0 rfl) ?_
  refine lv_iload_n hx hb dL_isMet_3 rfl (lv_at hl 1 rfl) ?_
  refine pg_iL (pg_rV (As := [.int k]) (rest := [.int 0, .ref o]) ⟨hx, hb, hml, hown, hts⟩ (cc_isMet_ok l D cI cZ a s.heap.size u hm9 k hthr) (cwV 1 hts gL_isMet_X4_isMet rfl rfl rfl (by decide +kernel) ⟨Nat.le_of_ble_eq_true rfl, Nat.le_of_ble_eq_true rfl⟩) (hK.sub [0, 1] rfl) (pg_PL hP) (pg_DL hD) 0 (ci := 4) rfl rfl rfl rfl hl.1 rfl (Nat.le_of_ble_eq_true rfl) dL_isMet_4 ⟨Nat.le_of_ble_eq_true rfl, Nat.le_of_ble_eq_true rfl⟩) hP hD hS hA (fun H locs hP hD hS => ?_)
  have hP : va_P D vwCl (pg_wB cI cZ a u ++ [(o, .inl (cL, 1, .inr (.inl f)))]) H := hP
  have hD : va_D A (pg_wB cI cZ a u ++ [(o, .inl (cL, 1, .inr (.inl f)))]) := hD
  refine lv_if_eq (tgt := 14) hx hb dL_isMet_7 (by decide) (fun c_7 => ?_) (fun c_7 => ?_)
  · refine lv_lconst (v := 0) hx hb dL_isMet_14 (by decide) ?_
    refine va_last hx hb hK hP hD hS 19 2 rfl rfl (show vp_in 0 1 from vp_in_nI (n := 0) (by decide) (by decide)) dL_isMet_15 (fun H locs hP hD hS => ?_)
    have hP : va_P D vwCl (pg_wB cI cZ a u ++ [(o, .inl (cL, 1, .inr (.inl (vp_updL f 0 0))))]) H := hP
    have hD : va_D A (pg_wB cI cZ a u ++ [(o, .inl (cL, 1, .inr (.inl (vp_updL f 0 0))))]) := hD
    refine lv_goto (tgt := 22) hx hb dL_isMet_16 (by decide) ?_
    refine lv_iconst (v := 0) hx hb dL_isMet_22 (by decide) ?_
    exact W.iret (v := 0) hx hb hr (fun t9 ht9 hW9 => ⟨⟨0, (u, (vp_updL f 0 0)), rfl, ⟨rfl, by rw [if_pos c_7]⟩, by rw [ht9]; exact hP, va_K.moved hW9.alike hK, hD⟩, hS.F ht9⟩) hS.2.2 dL_isMet_23
  · refine lv_lconst (v := 1) hx hb dL_isMet_10 (by decide) ?_
    refine lv_goto (tgt := 15) hx hb dL_isMet_11 (by decide) ?_
    refine va_last hx hb hK hP hD hS 19 2 rfl rfl (show vp_in 0 1 from vp_in_nI (n := 0) (by decide) (by decide)) dL_isMet_15 (fun H locs hP hD hS => ?_)
    have hP : va_P D vwCl (pg_wB cI cZ a u ++ [(o, .inl (cL, 1, .inr (.inl (vp_updL f 0 1))))]) H := hP
    have hD : va_D A (pg_wB cI cZ a u ++ [(o, .inl (cL, 1, .inr (.inl (vp_updL f 0 1))))]) := hD
    refine lv_goto (tgt := 22) hx hb dL_isMet_16 (by decide) ?_
    refine lv_iconst (v := 0) hx hb dL_isMet_22 (by decide) ?_
    exact W.iret (v := 0) hx hb hr (fun t9 ht9 hW9 => ⟨⟨0, (u, (vp_updL f 0 1)), rfl, ⟨rfl, by rw [if_neg c_7]⟩, by rw [ht9]; exact hP, va_K.moved hW9.alike hK, hD⟩, hS.F ht9⟩) hS.2.2 dL_isMet_23
set_option maxHeartbeats 4000000 in
set_option maxRecDepth 100000 in
theorem cw_isMet_1 (l : Launch) (hfl : l.stackTraces = false) (D : va_G) (cI cZ cL : ClassId) (a : Nat → Nat) (o : Nat) (sz : Nat) (u : pg_St) (f : Nat → Int64) (hm9 : ∀ j, j < 4 → narrow .boolean (.int (u.2 13 j)) = .int (u.2 13 j)) (k : Int32) (hthr : pg_t_num k 4 = 1) : Met l yL_isMet wsL_isMet ({ frames := 8, cells := 1, slots := 6, locals := 129 }) (va_Pc [.ref (a 0), .int k, .ref o] (pg_T D (pg_tyL cI cZ cL) (pg_wB cI cZ a u ++ [(o, .inl (cL, 1, .inr (.inl f)))]) sz)) (va_Qi (fun r z9 => r = 1 ∧ z9 = (u, f)) (pg_E D (pg_tyL cI cZ cL) (va_A (pg_wB cI cZ a u ++ [(o, .inl (cL, 1, .inr (.inl f)))]) sz) (fun z9 : pg_St × (Nat → Int64) => pg_wB cI cZ a z9.1 ++ [(o, .inl (cL, 1, .inr (.inl z9.2)))])) (va_A (pg_wB cI cZ a u ++ [(o, .inl (cL, 1, .inr (.inl f)))]) sz)) 1 6 (va_A (pg_wB cI cZ a u ++ [(o, .inl (cL, 1, .inr (.inl f)))]) sz) := by
  refine pg_ofWH (cc := cL_isMet) (maxL := 4) (ret := (some .int)) (by decide) rfl ?_
  intro p e s m args below meth c s₁ B hml hv
  obtain ⟨rfl, ⟨hsz, hP, hK, hD0⟩, hE⟩ := hv
  have hx := B.exec
  have hb := B.bytes
  have hr := B.returns
  have hts := atoms_spec (ws := wsL_isMet) B.pre
  have hown : s.vm.findClass RL = some m.cls := findClass_of_methodNamed B.named
  have hlocks := B.notSynchronized
  subst hsz
  have hD := hD0.self (sz := s.heap.size)
  generalize hAe : va_A (pg_wB cI cZ a u ++ [(o, .inl (cL, 1, .inr (.inl f)))]) s.heap.size = A at hD hE ⊢
  have hA : ∀ q : Nat, s.heap.size ≤ q → A q := fun q h => by rw [← hAe]; exact Or.inr h
  have hS : va_S A s.heap s.heap [] := va_S.rf
  have hl := lv_entry ([.ref (a 0), .int k, .ref o]) (n := 4) (Nat.le_of_ble_eq_true rfl)
  rw [lg_entry_eq]
  generalize (lg_sl ([.ref (a 0), .int k, .ref o]) ++ List.replicate (4 - (lg_sl ([.ref (a 0), .int k, .ref o])).length) Slot.unset).toArray = ls at hl ⊢
  have hl : lv_has ls 4 [(0, .ref (a 0)), (1, .int k), (2, .ref o)] := hl
  have htab := vx_table (x := yL_isMet) B (hts _ List.mem_cons_self)
  obtain ⟨-, -, hE3, hE4, -⟩ := id hE
  have hw1 := hts (.classLink RL 20 "java/lang/IndexOutOfBoundsException") (List.mem_of_getElem? (i := 1) rfl)
  refine lv_aload_n hx hb dL_isMet_0 rfl (lv_at hl 2 rfl) ?_
  refine lv_iconst (v := 0) hx hb dL_isMet_1 (by decide) ?_
  refine lv_aload_n hx hb dL_isMet_2 rfl (lv_at hl 0 rfl) ?_
  refine lv_iload_n hx hb dL_isMet_3 rfl (lv_at hl 1 rfl) ?_
  refine pg_catL (pg_xV (As := [.int k]) (rest := [.int 0, .ref o]) ⟨hx, hb, hml, hown, hts⟩ (cc_isMet_no l hfl D cI cZ a s.heap.size u hm9 k 1 pg_io hthr (by decide) (fun _ => rfl)) (cwV 1 hts gL_isMet_X4_isMet rfl rfl rfl (by decide +kernel) ⟨Nat.le_of_ble_eq_true rfl, Nat.le_of_ble_eq_true rfl⟩) (hK.sub [0, 1] rfl) (pg_PL hP) (pg_DL hD) hS hA hE 0 (ci := 4) rfl rfl rfl rfl hl.1 rfl (Nat.le_of_ble_eq_true rfl) dL_isMet_4 ⟨Nat.le_of_ble_eq_true rfl, Nat.le_of_ble_eq_true rfl⟩) hP hD hS hA (fun ce q9 H locs hP hS hce hcv hcl => ?_)
  refine vx_catch (own := RL) (name := pg_io) hown [] ⟨0, 16, 19, 20⟩ [] (by rw [htab]; rfl) (fun _ h9 => nomatch h9) (by decide) (by decide) hw1 (va_Nw.use rfl (hE3 (Cond.castable pg_io pg_io) (List.mem_of_getElem? (i := 2) rfl))) hce hcv hcl ?_
  refine W.widen (k := 1) (n := 6) (Nat.le_of_ble_eq_true rfl) (Nat.le_of_ble_eq_true rfl) ?_
  refine W.eq (g2 := F0 m 19 ls [.ref q9]) rfl ?_
  refine lv_astore_n (lv' := [(3, .ref q9), (0, .ref (a 0)), (1, .int k), (2, .ref o)]) hx hb dL_isMet_19 rfl hl (by decide) rfl (fun ls hl => ?_)
  refine lv_iconst (v := 1) hx hb dL_isMet_20 (by decide) ?_
  exact W.iret (v := 1) hx hb hr (fun t9 ht9 hW9 => ⟨⟨1, (u, f), rfl, ⟨rfl, rfl⟩, by rw [ht9]; exact hP, va_K.moved hW9.alike hK, hD⟩, hS.F ht9⟩) hS.2.2 dL_isMet_21
