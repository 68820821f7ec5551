theorem pg_days {x : Int32} (h : pg_in x 1 400 = true) : ∃ d : Nat, 1 ≤ d ∧ d ≤ 400 ∧ x = nI d := by
  rw [pg_in_iff, show (1 : Int32).toInt = 1 by decide, show (400 : Int32).toInt = 400 by decide] at h
  obtain ⟨j, h1, rfl⟩ := nI_of (x := x) (by rw [pg_toI_lt, show (0 : Int32).toInt = 0 by decide]; omega)
  rw [nI_toInt h1] at h
  exact ⟨j, by omega, by omega, rfl⟩
theorem pg_pred (t : Nat) : nI (t + 1) - 1 = nI t := nI_pred t
theorem pg_begin {b x : Int32} {r : Nat → Nat → Int32} {t : Nat} (hb : b = 0) : ∀ y, y < t + 1 → ((¬ b = 0 ∨ (y = t ∧ ¬ x < r 11 t)) ↔ (if x < r 11 t then t + 1 else t) ≤ y) := by
  intro y hy
  by_cases h : x < r 11 t
  · rw [if_pos h]
    exact ⟨fun q => q.elim (fun q => absurd hb q) (fun q => absurd h q.2), fun q => absurd q (by omega)⟩
  · rw [if_neg h]
    exact ⟨fun q => q.elim (fun q => absurd hb q) (fun q => by omega), fun q => Or.inr ⟨by omega, h⟩⟩
theorem pg_msum_c {r : Nat → Nat → Int32} {i y : Nat} (h : ¬ i ≤ y) : pg_msum r i y = pg_msum r i (y + 1) := by
  show _ = pg_msum r i y + (if y < i then 0 else if r 13 y = 0 then r 12 y else 0)
  rw [if_pos (by omega), pg_a0]
theorem pg_msum_z (r : Nat → Nat → Int32) (i : Nat) : pg_msum r i 0 = 0 := rfl
theorem pg_met_z (r : Nat → Nat → Int32) (i : Nat) : pg_met r i 0 = r 13 := by
  funext k
  simp only [pg_met]
  rw [if_neg (by omega)]
theorem pg_upd_self (f : Nat → Int32) (k : Nat) {x : Int32} (h : f k = x) : upd f k x = f := by
  funext j
  by_cases e : j = k
  · subst e; simp [upd, h]
  · simp [upd, e]
/-- met before: it stays -/
theorem pg_met_x {r : Nat → Nat → Int32} {i y : Nat} (h01 : r 13 y = 0 ∨ r 13 y = 1) (h0 : ¬ r 13 y = 0) : upd (pg_met r i y) y 1 = pg_met r i (y + 1) := by
  rw [pg_upd_self _ _ (by rw [pg_met_at]; exact h01.resolve_left h0)]
  exact pg_met_s h0
/-- not met by this, nor before -/
theorem pg_met_v {r : Nat → Nat → Int32} {i y : Nat} (h : ¬ i ≤ y) (h0 : r 13 y = 0) : upd (pg_met r i y) y 0 = pg_met r i (y + 1) := by
  rw [pg_upd_self _ _ (by rw [pg_met_at]; exact h0)]
  funext k
  simp only [pg_met]
  by_cases g : i ≤ k ∧ k < y
  · rw [if_pos g, if_pos (show i ≤ k ∧ k < y + 1 by omega)]
  · rw [if_neg g, if_neg (show ¬ (i ≤ k ∧ k < y + 1) by omega)]
set_option maxHeartbeats 4000000 in
set_option maxRecDepth 100000 in
theorem cm_in_t (l : Launch) (D : va_G) (tys : List (ClassId × FieldType)) (ws : va_W) (sz : Nat) (x lo hi : Int32) (h : pg_in x lo hi = true) : Met l yX5_in wsX5_in ({ frames := 0, cells := 0, slots := 0, locals := 0 }) (va_Pc [.int x, .int lo, .int hi] (pg_B D tys (ws) sz)) (va_Qi (fun r (u' : Unit) => r = 1 ∧ u' = ()) (pg_E D tys (va_A (ws) sz) (fun _ : Unit => ws)) (va_A (ws) sz)) 0 0 (va_A (ws) sz) := by
  refine Met.ofW (cc := cX5_in) (maxL := 3) (ret := (some .boolean)) (by decide) rfl ?_
  intro p e s m args below meth c s₁ B hml hv
  obtain ⟨rfl, hsz, hP, hK, hD0⟩ := hv
  have hx := B.exec
  have hb := B.bytes
  have hr := B.returns
  have hts := atoms_spec (ws := wsX5_in) B.pre
  have hown : s.vm.findClass RX5 = some m.cls := findClass_of_methodNamed B.named
  have hlocks := B.notSynchronized
  subst hsz
  have hD := hD0.self (sz := s.heap.size)
  generalize hAe : va_A (ws) s.heap.size = A at hD ⊢
  have hA : ∀ q : Nat, s.heap.size ≤ q → A q := fun q h => by rw [← hAe]; exact Or.inr h
  have hS : va_S A s.heap s.heap [] := va_S.rf
  have hl := lv_entry ([.int x, .int lo, .int hi]) (n := 3) (Nat.le_of_ble_eq_true rfl)
  rw [lg_entry_eq]
  generalize (lg_sl ([.int x, .int lo, .int hi]) ++ List.replicate (3 - (lg_sl ([.int x, .int lo, .int hi])).length) Slot.unset).toArray = ls at hl ⊢
  have hl : lv_has ls 3 [(0, .int x), (1, .int lo), (2, .int hi)] := hl
  refine lv_iload_n hx hb dX5_in_0 rfl (lv_at hl 0 rfl) ?_
  refine lv_iload_n hx hb dX5_in_1 rfl (lv_at hl 1 rfl) ?_
  refine lv_icmp_lt (tgt := 14) hx hb dX5_in_2 (by decide) (fun c_2 => absurd c_2 (pg_in_e h).1) (fun c_2 => ?_)
  refine lv_iload_n hx hb dX5_in_5 rfl (lv_at hl 0 rfl) ?_
  refine lv_iload_n hx hb dX5_in_6 rfl (lv_at hl 2 rfl) ?_
  refine lv_icmp_gt (tgt := 14) hx hb dX5_in_7 (by decide) (fun c_7 => absurd c_7 (Int32.not_lt.mpr (pg_in_e h).2)) (fun c_7 => ?_)
  refine lv_iconst (v := 1) hx hb dX5_in_10 (by decide) ?_
  refine lv_goto (tgt := 15) hx hb dX5_in_11 (by decide) ?_
  exact W.zret (v := 1) hx hb hr rfl (fun t9 ht9 hW9 => ⟨⟨1, (), rfl, ⟨rfl, rfl⟩, by rw [ht9]; exact hP, va_K.moved hW9.alike hK, hD⟩, hS.F ht9⟩) hS.2.2 dX5_in_15
set_option maxHeartbeats 4000000 in
set_option maxRecDepth 100000 in
theorem cm_in_f (l : Launch) (D : va_G) (tys : List (ClassId × FieldType)) (ws : va_W) (sz : Nat) (x lo hi : Int32) (h : pg_in x lo hi = false) : Met l yX5_in wsX5_in ({ frames := 0, cells := 0, slots := 0, locals := 0 }) (va_Pc [.int x, .int lo, .int hi] (pg_B D tys (ws) sz)) (va_Qi (fun r (u' : Unit) => r = 0 ∧ u' = ()) (pg_E D tys (va_A (ws) sz) (fun _ : Unit => ws)) (va_A (ws) sz)) 0 0 (va_A (ws) sz) := by
  refine Met.ofW (cc := cX5_in) (maxL := 3) (ret := (some .boolean)) (by decide) rfl ?_
  intro p e s m args below meth c s₁ B hml hv
  obtain ⟨rfl, hsz, hP, hK, hD0⟩ := hv
  have hx := B.exec
  have hb := B.bytes
  have hr := B.returns
  have hts := atoms_spec (ws := wsX5_in) B.pre
  have hown : s.vm.findClass RX5 = some m.cls := findClass_of_methodNamed B.named
  have hlocks := B.notSynchronized
  subst hsz
  have hD := hD0.self (sz := s.heap.size)
  generalize hAe : va_A (ws) s.heap.size = A at hD ⊢
  have hA : ∀ q : Nat, s.heap.size ≤ q → A q := fun q h => by rw [← hAe]; exact Or.inr h
  have hS : va_S A s.heap s.heap [] := va_S.rf
  have hl := lv_entry ([.int x, .int lo, .int hi]) (n := 3) (Nat.le_of_ble_eq_true rfl)
  rw [lg_entry_eq]
  generalize (lg_sl ([.int x, .int lo, .int hi]) ++ List.replicate (3 - (lg_sl ([.int x, .int lo, .int hi])).length) Slot.unset).toArray = ls at hl ⊢
  have hl : lv_has ls 3 [(0, .int x), (1, .int lo), (2, .int hi)] := hl
  refine lv_iload_n hx hb dX5_in_0 rfl (lv_at hl 0 rfl) ?_
  refine lv_iload_n hx hb dX5_in_1 rfl (lv_at hl 1 rfl) ?_
  refine lv_icmp_lt (tgt := 14) hx hb dX5_in_2 (by decide) (fun c_2 => ?_) (fun c_2 => ?_)
  · refine lv_iconst (v := 0) hx hb dX5_in_14 (by decide) ?_
    exact W.zret (v := 0) hx hb hr rfl (fun t9 ht9 hW9 => ⟨⟨0, (), rfl, ⟨rfl, rfl⟩, by rw [ht9]; exact hP, va_K.moved hW9.alike hK, hD⟩, hS.F ht9⟩) hS.2.2 dX5_in_15
  · refine lv_iload_n hx hb dX5_in_5 rfl (lv_at hl 0 rfl) ?_
    refine lv_iload_n hx hb dX5_in_6 rfl (lv_at hl 2 rfl) ?_
    refine lv_icmp_gt (tgt := 14) hx hb dX5_in_7 (by decide) (fun c_7 => ?_) (fun c_7 => ?_)
    · refine lv_iconst (v := 0) hx hb dX5_in_14 (by decide) ?_
      exact W.zret (v := 0) hx hb hr rfl (fun t9 ht9 hW9 => ⟨⟨0, (), rfl, ⟨rfl, rfl⟩, by rw [ht9]; exact hP, va_K.moved hW9.alike hK, hD⟩, hS.F ht9⟩) hS.2.2 dX5_in_15
    · refine lv_iconst (v := 1) hx hb dX5_in_10 (by decide) ?_
      refine lv_goto (tgt := 15) hx hb dX5_in_11 (by decide) ?_
      exact pg_no (pg_in_t c_2 (Int32.not_lt.mp c_7)) h
set_option maxHeartbeats 4000000 in
set_option maxRecDepth 100000 in
theorem cm_fine0 (l : Launch) (D : va_G) (cI cZ : ClassId) (a : Nat → Nat) (sz : Nat) (u : pg_St) : Met l yX5_isFine wsX5_isFine ({ frames := 0, cells := 0, slots := 0, locals := 0 }) (va_Pc [.ref (a 0), .int 0] (pg_B D (pg_ty cI cZ) (pg_wM cI cZ a u) sz)) (va_Qi (fun r u' => r = 1 ∧ u' = (upd u.1 15 0, u.2)) (pg_E D (pg_ty cI cZ) (va_A (pg_wM cI cZ a u) sz) (pg_wM cI cZ a)) (va_A (pg_wM cI cZ a u) sz)) 0 0 (va_A (pg_wM cI cZ a u) sz) := by
  refine Met.ofW (cc := cX5_isFine) (maxL := 2) (ret := (some .boolean)) (by decide) rfl ?_
  intro p e s m args below meth c s₁ B hml hv
  obtain ⟨rfl, hsz, hP, hK, hD0⟩ := hv
  have hx := B.exec
  have hb := B.bytes
  have hr := B.returns
  have hts := atoms_spec (ws := wsX5_isFine) B.pre
  have hown : s.vm.findClass RX5 = some m.cls := findClass_of_methodNamed B.named
  have hlocks := B.notSynchronized
  subst hsz
  have hD := hD0.self (sz := s.heap.size)
  generalize hAe : va_A (pg_wM cI cZ a u) s.heap.size = A at hD ⊢
  have hA : ∀ q : Nat, s.heap.size ≤ q → A q := fun q h => by rw [← hAe]; exact Or.inr h
  have hS : va_S A s.heap s.heap [] := va_S.rf
  have hl := lv_entry ([.ref (a 0), .int 0]) (n := 2) (Nat.le_of_ble_eq_true rfl)
  rw [lg_entry_eq]
  generalize (lg_sl ([.ref (a 0), .int 0]) ++ List.replicate (2 - (lg_sl ([.ref (a 0), .int 0])).length) Slot.unset).toArray = ls at hl ⊢
  have hl : lv_has ls 2 [(0, .ref (a 0)), (1, .int 0)] := hl
  have hiX5 : ∀ w ∈ wsX50, w ∈ wsX5_isFine := fun _ h => List.mem_cons_of_mem _ (List.mem_append_right _ (h))
  have hw1 := hts (.fieldLink RX5 56 "PegBoxModel" "thrown" "I") (List.mem_of_getElem? (i := 1) rfl)
  refine lv_aload_n hx hb dX5_isFine_0 rfl (lv_at hl 0 rfl) ?_
  refine lv_iload_n hx hb dX5_isFine_1 rfl (lv_at hl 1 rfl) ?_
  refine va_put (D := D) (ci := 5) (v := .int 0) (ty := .int) (C := RX5) (T := TX5) (N := 31) hx hb hts hiX5 tyX5 tyX5_ok nmX5 hown hK hP hD hS 0 rfl rfl 30 (by decide) hw1 (fun _ h9 => h9) rfl (by decide +kernel) rfl rfl (Nat.le_of_ble_eq_true rfl) dX5_isFine_2 (fun H locs hP hD hS => ?_)
  have hP : va_P D vwCl (pg_wM cI cZ a ((upd u.1 15 0), u.2)) H := hP
  have hD : va_D A (pg_wM cI cZ a ((upd u.1 15 0), u.2)) := hD
  refine lv_iload_n hx hb dX5_isFine_5 rfl (lv_at hl 1 rfl) ?_
  refine lv_if_ne (tgt := 13) hx hb dX5_isFine_6 (by decide) (fun c_6 => absurd (by decide) c_6) (fun c_6 => ?_)
  refine lv_iconst (v := 1) hx hb dX5_isFine_9 (by decide) ?_
  refine lv_goto (tgt := 14) hx hb dX5_isFine_10 (by decide) ?_
  exact W.zret (v := 1) hx hb hr rfl (fun t9 ht9 hW9 => ⟨⟨1, ((upd u.1 15 0), u.2), rfl, ⟨rfl, rfl⟩, by rw [ht9]; exact hP, va_K.moved hW9.alike hK, hD⟩, hS.F ht9⟩) hS.2.2 dX5_isFine_14
set_option maxHeartbeats 4000000 in
set_option maxRecDepth 100000 in
theorem cm_fine1 (l : Launch) (D : va_G) (cI cZ : ClassId) (a : Nat → Nat) (sz : Nat) (u : pg_St) (x : Int32) (h : ¬ x = 0) : Met l yX5_isFine wsX5_isFine ({ frames := 0, cells := 0, slots := 0, locals := 0 }) (va_Pc [.ref (a 0), .int x] (pg_B D (pg_ty cI cZ) (pg_wM cI cZ a u) sz)) (va_Qi (fun r u' => r = 0 ∧ u' = (upd u.1 15 x, u.2)) (pg_E D (pg_ty cI cZ) (va_A (pg_wM cI cZ a u) sz) (pg_wM cI cZ a)) (va_A (pg_wM cI cZ a u) sz)) 0 0 (va_A (pg_wM cI cZ a u) sz) := by
  refine Met.ofW (cc := cX5_isFine) (maxL := 2) (ret := (some .boolean)) (by decide) rfl ?_
  intro p e s m args below meth c s₁ B hml hv
  obtain ⟨rfl, hsz, hP, hK, hD0⟩ := hv
  have hx := B.exec
  have hb := B.bytes
  have hr := B.returns
  have hts := atoms_spec (ws := wsX5_isFine) B.pre
  have hown : s.vm.findClass RX5 = some m.cls := findClass_of_methodNamed B.named
  have hlocks := B.notSynchronized
  subst hsz
  have hD := hD0.self (sz := s.heap.size)
  generalize hAe : va_A (pg_wM cI cZ a u) s.heap.size = A at hD ⊢
  have hA : ∀ q : Nat, s.heap.size ≤ q → A q := fun q h => by rw [← hAe]; exact Or.inr h
  have hS : va_S A s.heap s.heap [] := va_S.rf
  have hl := lv_entry ([.ref (a 0), .int x]) (n := 2) (Nat.le_of_ble_eq_true rfl)
  rw [lg_entry_eq]
  generalize (lg_sl ([.ref (a 0), .int x]) ++ List.replicate (2 - (lg_sl ([.ref (a 0), .int x])).length) Slot.unset).toArray = ls at hl ⊢
  have hl : lv_has ls 2 [(0, .ref (a 0)), (1, .int x)] := hl
  have hiX5 : ∀ w ∈ wsX50, w ∈ wsX5_isFine := fun _ h => List.mem_cons_of_mem _ (List.mem_append_right _ (h))
  have hw1 := hts (.fieldLink RX5 56 "PegBoxModel" "thrown" "I") (List.mem_of_getElem? (i := 1) rfl)
  refine lv_aload_n hx hb dX5_isFine_0 rfl (lv_at hl 0 rfl) ?_
  refine lv_iload_n hx hb dX5_isFine_1 rfl (lv_at hl 1 rfl) ?_
  refine va_put (D := D) (ci := 5) (v := .int x) (ty := .int) (C := RX5) (T := TX5) (N := 31) hx hb hts hiX5 tyX5 tyX5_ok nmX5 hown hK hP hD hS 0 rfl rfl 30 (by decide) hw1 (fun _ h9 => h9) rfl (by decide +kernel) rfl rfl (Nat.le_of_ble_eq_true rfl) dX5_isFine_2 (fun H locs hP hD hS => ?_)
  have hP : va_P D vwCl (pg_wM cI cZ a ((upd u.1 15 x), u.2)) H := hP
  have hD : va_D A (pg_wM cI cZ a ((upd u.1 15 x), u.2)) := hD
  refine lv_iload_n hx hb dX5_isFine_5 rfl (lv_at hl 1 rfl) ?_
  refine lv_if_ne (tgt := 13) hx hb dX5_isFine_6 (by decide) (fun c_6 => ?_) (fun c_6 => absurd c_6 h)
  refine lv_iconst (v := 0) hx hb dX5_isFine_13 (by decide) ?_
  exact W.zret (v := 0) hx hb hr rfl (fun t9 ht9 hW9 => ⟨⟨0, ((upd u.1 15 x), u.2), rfl, ⟨rfl, rfl⟩, by rw [ht9]; exact hP, va_K.moved hW9.alike hK, hD⟩, hS.F ht9⟩) hS.2.2 dX5_isFine_14
set_option maxHeartbeats 4000000 in
set_option maxRecDepth 100000 in
theorem cm_thrown (l : Launch) (D : va_G) (cI cZ : ClassId) (a : Nat → Nat) (sz : Nat) (u : pg_St) : Met l yX5_thrown wsX5_thrown ({ frames := 0, cells := 0, slots := 0, locals := 0 }) (va_Pc [.ref (a 0)] (pg_B D (pg_ty cI cZ) (pg_wM cI cZ a u) sz)) (va_Qi (fun r u' => r = u.1 15 ∧ u' = u) (pg_E D (pg_ty cI cZ) (va_A (pg_wM cI cZ a u) sz) (pg_wM cI cZ a)) (va_A (pg_wM cI cZ a u) sz)) 0 0 (va_A (pg_wM cI cZ a u) sz) := by
  refine Met.ofW (cc := cX5_thrown) (maxL := 1) (ret := (some .int)) (by decide) rfl ?_
  intro p e s m args below meth c s₁ B hml hv
  obtain ⟨rfl, hsz, hP, hK, hD0⟩ := hv
  have hx := B.exec
  have hb := B.bytes
  have hr := B.returns
  have hts := atoms_spec (ws := wsX5_thrown) B.pre
  have hown : s.vm.findClass RX5 = some m.cls := findClass_of_methodNamed B.named
  have hlocks := B.notSynchronized
  subst hsz
  have hD := hD0.self (sz := s.heap.size)
  generalize hAe : va_A (pg_wM cI cZ a u) s.heap.size = A at hD ⊢
  have hA : ∀ q : Nat, s.heap.size ≤ q → A q := fun q h => by rw [← hAe]; exact Or.inr h
  have hS : va_S A s.heap s.heap [] := va_S.rf
  have hl := lv_entry ([.ref (a 0)]) (n := 1) (Nat.le_of_ble_eq_true rfl)
  rw [lg_entry_eq]
  generalize (lg_sl ([.ref (a 0)]) ++ List.replicate (1 - (lg_sl ([.ref (a 0)])).length) Slot.unset).toArray = ls at hl ⊢
  have hl : lv_has ls 1 [(0, .ref (a 0))] := hl
  have hiX5 : ∀ w ∈ wsX50, w ∈ wsX5_thrown := fun _ h => List.mem_cons_of_mem _ (List.mem_append_right _ (h))
  have hw1 := hts (.fieldLink RX5 56 "PegBoxModel" "thrown" "I") (List.mem_of_getElem? (i := 1) rfl)
  refine lv_aload_n hx hb dX5_thrown_0 rfl (lv_at hl 0 rfl) ?_
  refine va_get (D := D) (ci := 5) (v := .int (u.1 15)) (C := RX5) (T := TX5) (N := 31) hx hb hts hiX5 hown hK hP 0 rfl rfl 30 (by decide) hw1 (fun _ h9 => h9) rfl dX5_thrown_1 ?_
  exact W.iret (v := u.1 15) hx hb hr (fun t9 ht9 hW9 => ⟨⟨u.1 15, u, rfl, ⟨rfl, rfl⟩, by rw [ht9]; exact hP, va_K.moved hW9.alike hK, hD⟩, hS.F ht9⟩) hS.2.2 dX5_thrown_4
set_option maxHeartbeats 4000000 in
set_option maxRecDepth 100000 in
/-- cm_setPrice: fine -/
theorem cm_setPrice_ok (l : Launch) (D : va_G) (cI cZ : ClassId) (a : Nat → Nat) (sz : Nat) (u : pg_St) (x y1 z : Int32) (hthr : pg_t_setPrice (!pg_eq (u.1 14) 0) x y1 z = 0) : Met l yX5_setPrice wsX5_setPrice ({ frames := 1, cells := 0, slots := 0, locals := 22 }) (va_Pc [.ref (a 0), .int x, .int y1, .int z] (pg_B D (pg_ty cI cZ) (pg_wM cI cZ a u) sz)) (va_Qv (fun u' => u' = (upd (upd (upd (upd u.1 15 0) 0 x) 1 y1) 2 z, u.2)) (pg_E D (pg_ty cI cZ) (va_A (pg_wM cI cZ a u) sz) (pg_wM cI cZ a)) (va_A (pg_wM cI cZ a u) sz)) 0 0 (va_A (pg_wM cI cZ a u) sz) := by
  refine Met.ofW (cc := cX5_setPrice) (maxL := 4) (ret := none) (by decide) rfl ?_
  intro p e s m args below meth c s₁ B hml hv
  obtain ⟨rfl, hsz, hP, hK, hD0⟩ := hv
  have hx := B.exec
  have hb := B.bytes
  have hr := B.returns
  have hts := atoms_spec (ws := wsX5_setPrice) B.pre
  have hown : s.vm.findClass RX5 = some m.cls := findClass_of_methodNamed B.named
  have hlocks := B.notSynchronized
  subst hsz
  have hD := hD0.self (sz := s.heap.size)
  generalize hAe : va_A (pg_wM cI cZ a u) s.heap.size = A at hD ⊢
  have hA : ∀ q : Nat, s.heap.size ≤ q → A q := fun q h => by rw [← hAe]; exact Or.inr h
  have hS : va_S A s.heap s.heap [] := va_S.rf
  have hl := lv_entry ([.ref (a 0), .int x, .int y1, .int z]) (n := 4) (Nat.le_of_ble_eq_true rfl)
  rw [lg_entry_eq]
  generalize (lg_sl ([.ref (a 0), .int x, .int y1, .int z]) ++ List.replicate (4 - (lg_sl ([.ref (a 0), .int x, .int y1, .int z])).length) Slot.unset).toArray = ls at hl ⊢
  have hl : lv_has ls 4 [(0, .ref (a 0)), (1, .int x), (2, .int y1), (3, .int z)] := hl
  have hiX5 : ∀ w ∈ wsX50, w ∈ wsX5_setPrice := fun _ h => List.mem_cons_of_mem _ (List.mem_append_right _ (h))
  have hw1 := hts (.constant RX5 60 (10000000)) (List.mem_of_getElem? (i := 1) rfl)
  have hw2 := hts (.constant RX5 65 (-10000000)) (List.mem_of_getElem? (i := 2) rfl)
  have hw3 := hts (.fieldLink RX5 66 "PegBoxModel" "closed" "Z") (List.mem_of_getElem? (i := 3) rfl)
  have hw4 := hts (.fieldLink RX5 74 "PegBoxModel" "price" "I") (List.mem_of_getElem? (i := 4) rfl)
  have hw5 := hts (.fieldLink RX5 77 "PegBoxModel" "peg" "I") (List.mem_of_getElem? (i := 5) rfl)
  have hw6 := hts (.fieldLink RX5 80 "PegBoxModel" "collar" "I") (List.mem_of_getElem? (i := 6) rfl)
  refine lv_aload_n hx hb dX5_setPrice_0 rfl (lv_at hl 0 rfl) ?_
  refine lv_iload_n hx hb dX5_setPrice_1 rfl (lv_at hl 1 rfl) ?_
  refine lv_iconst (v := 0) hx hb dX5_setPrice_2 (by decide) ?_
  refine lv_ldc hx hb hown hw1 dX5_setPrice_3 ?_
  rcases Bool.eq_false_or_eq_true (pg_in x 0 10000000) with c_5 | c_5
  · refine pg_iE (pg_rS (As := [.int x, .int 0, .int 10000000]) (rest := [.ref (a 0)]) ⟨hx, hb, hml, hown, hts⟩ (cm_in_t l D (pg_ty cI cZ) (pg_wM cI cZ a u) s.heap.size x 0 10000000 c_5) (va_cwS 3 hts gX5_setPrice_X5_in rfl rfl rfl (by decide +kernel) ⟨Nat.le_of_ble_eq_true rfl, Nat.le_of_ble_eq_true rfl⟩) hK hP hD rfl hl.1 rfl (Nat.le_of_ble_eq_true rfl) dX5_setPrice_5 ⟨Nat.le_of_ble_eq_true rfl, Nat.le_of_ble_eq_true rfl⟩) hD hS hA (fun H locs hP hD hS => ?_)
    refine lv_if_eq (tgt := 32) hx hb dX5_setPrice_8 (by decide) (fun c_8 => absurd c_8 (by decide)) (fun c_8 => ?_)
    refine lv_iload_n hx hb dX5_setPrice_11 rfl (lv_at hl 2 rfl) ?_
    refine lv_ldc hx hb hown hw2 dX5_setPrice_12 ?_
    refine lv_ldc hx hb hown hw1 dX5_setPrice_14 ?_
    rcases Bool.eq_false_or_eq_true (pg_in y1 (-10000000) 10000000) with c_16 | c_16
    · refine pg_iE (pg_rS (As := [.int y1, .int (-10000000), .int 10000000]) (rest := [.ref (a 0)]) ⟨hx, hb, hml, hown, hts⟩ (cm_in_t l D (pg_ty cI cZ) (pg_wM cI cZ a u) H.size y1 (-10000000) 10000000 c_16) (va_cwS 3 hts gX5_setPrice_X5_in rfl rfl rfl (by decide +kernel) ⟨Nat.le_of_ble_eq_true rfl, Nat.le_of_ble_eq_true rfl⟩) hK hP hD rfl hl.1 rfl (Nat.le_of_ble_eq_true rfl) dX5_setPrice_16 ⟨Nat.le_of_ble_eq_true rfl, Nat.le_of_ble_eq_true rfl⟩) hD hS hA (fun H locs hP hD hS => ?_)
      refine lv_if_eq (tgt := 32) hx hb dX5_setPrice_19 (by decide) (fun c_19 => absurd c_19 (by decide)) (fun c_19 => ?_)
      refine lv_iload_n hx hb dX5_setPrice_22 rfl (lv_at hl 3 rfl) ?_
      refine lv_iconst (v := 0) hx hb dX5_setPrice_23 (by decide) ?_
      refine lv_ldc hx hb hown hw1 dX5_setPrice_24 ?_
      rcases Bool.eq_false_or_eq_true (pg_in z 0 10000000) with c_26 | c_26
      · refine pg_iE (pg_rS (As := [.int z, .int 0, .int 10000000]) (rest := [.ref (a 0)]) ⟨hx, hb, hml, hown, hts⟩ (cm_in_t l D (pg_ty cI cZ) (pg_wM cI cZ a u) H.size z 0 10000000 c_26) (va_cwS 3 hts gX5_setPrice_X5_in rfl rfl rfl (by decide +kernel) ⟨Nat.le_of_ble_eq_true rfl, Nat.le_of_ble_eq_true rfl⟩) hK hP hD rfl hl.1 rfl (Nat.le_of_ble_eq_true rfl) dX5_setPrice_26 ⟨Nat.le_of_ble_eq_true rfl, Nat.le_of_ble_eq_true rfl⟩) hD hS hA (fun H locs hP hD hS => ?_)
        refine lv_if_ne (tgt := 36) hx hb dX5_setPrice_29 (by decide) (fun c_29 => ?_) (fun c_29 => absurd c_29 (by decide))
        refine lv_aload_n hx hb dX5_setPrice_36 rfl (lv_at hl 0 rfl) ?_
        refine va_get (D := D) (ci := 5) (v := .int (u.1 14)) (C := RX5) (T := TX5) (N := 31) hx hb hts hiX5 hown hK hP 0 rfl rfl 13 (by decide) hw3 (fun _ h9 => h9) rfl dX5_setPrice_37 ?_
        refine lv_if_eq (tgt := 47) hx hb dX5_setPrice_40 (by decide) (fun c_40 => ?_) (fun c_40 => ?_)
        · have d_40 := pg_eq_t c_40
          refine lv_iconst (v := 0) hx hb dX5_setPrice_47 (by decide) ?_
          refine pg_iE (pg_rV (As := [.int 0]) (rest := []) ⟨hx, hb, hml, hown, hts⟩ (cm_fine0 l D cI cZ a H.size u) (cwV 1 hts gX5_setPrice_X5_isFine rfl rfl rfl (by decide +kernel) ⟨Nat.le_of_ble_eq_true rfl, Nat.le_of_ble_eq_true rfl⟩) hK hP hD 0 (ci := 5) rfl rfl rfl rfl hl.1 rfl (Nat.le_of_ble_eq_true rfl) dX5_setPrice_48 ⟨Nat.le_of_ble_eq_true rfl, Nat.le_of_ble_eq_true rfl⟩) hD hS hA (fun H locs hP hD hS => ?_)
          refine lv_if_eq (tgt := 69) hx hb dX5_setPrice_51 (by decide) (fun c_51 => absurd c_51 (by decide)) (fun c_51 => ?_)
          refine lv_aload_n hx hb dX5_setPrice_54 rfl (lv_at hl 0 rfl) ?_
          refine lv_iload_n hx hb dX5_setPrice_55 rfl (lv_at hl 1 rfl) ?_
          refine va_put (D := D) (ci := 5) (v := .int x) (ty := .int) (C := RX5) (T := TX5) (N := 31) hx hb hts hiX5 tyX5 tyX5_ok nmX5 hown hK hP hD hS 0 rfl rfl 0 (by decide) hw4 (fun _ h9 => h9) rfl (by decide +kernel) rfl rfl (Nat.le_of_ble_eq_true rfl) dX5_setPrice_56 (fun H locs hP hD hS => ?_)
          have hP : va_P D vwCl (pg_wM cI cZ a ((upd (upd u.1 15 0) 0 x), u.2)) H := hP
          have hD : va_D A (pg_wM cI cZ a ((upd (upd u.1 15 0) 0 x), u.2)) := hD
          refine lv_aload_n hx hb dX5_setPrice_59 rfl (lv_at hl 0 rfl) ?_
          refine lv_iload_n hx hb dX5_setPrice_60 rfl (lv_at hl 2 rfl) ?_
          refine va_put (D := D) (ci := 5) (v := .int y1) (ty := .int) (C := RX5) (T := TX5) (N := 31) hx hb hts hiX5 tyX5 tyX5_ok nmX5 hown hK hP hD hS 0 rfl rfl 1 (by decide) hw5 (fun _ h9 => h9) rfl (by decide +kernel) rfl rfl (Nat.le_of_ble_eq_true rfl) dX5_setPrice_61 (fun H locs hP hD hS => ?_)
          have hP : va_P D vwCl (pg_wM cI cZ a ((upd (upd (upd u.1 15 0) 0 x) 1 y1), u.2)) H := hP
          have hD : va_D A (pg_wM cI cZ a ((upd (upd (upd u.1 15 0) 0 x) 1 y1), u.2)) := hD
          refine lv_aload_n hx hb dX5_setPrice_64 rfl (lv_at hl 0 rfl) ?_
          refine lv_iload_n hx hb dX5_setPrice_65 rfl (lv_at hl 3 rfl) ?_
          refine va_put (D := D) (ci := 5) (v := .int z) (ty := .int) (C := RX5) (T := TX5) (N := 31) hx hb hts hiX5 tyX5 tyX5_ok nmX5 hown hK hP hD hS 0 rfl rfl 2 (by decide) hw6 (fun _ h9 => h9) rfl (by decide +kernel) rfl rfl (Nat.le_of_ble_eq_true rfl) dX5_setPrice_66 (fun H locs hP hD hS => ?_)
          have hP : va_P D vwCl (pg_wM cI cZ a ((upd (upd (upd (upd u.1 15 0) 0 x) 1 y1) 2 z), u.2)) H := hP
          have hD : va_D A (pg_wM cI cZ a ((upd (upd (upd (upd u.1 15 0) 0 x) 1 y1) 2 z), u.2)) := hD
          exact W.vret hx hb hr (fun t9 ht9 hW9 => ⟨⟨((upd (upd (upd (upd u.1 15 0) 0 x) 1 y1) 2 z), u.2), rfl, rfl, by rw [ht9]; exact hP, va_K.moved hW9.alike hK, hD⟩, hS.F ht9⟩) hS.2.2 dX5_setPrice_69
        · have d_40 := pg_eq_f c_40
          refine lv_iconst (v := 2) hx hb dX5_setPrice_43 (by decide) ?_
          refine lv_goto (tgt := 48) hx hb dX5_setPrice_44 (by decide) ?_
          exact absurd hthr (by first | (simp only [pg_t_setPrice, c_5, c_16, c_26, d_40, cond_true, cond_false, Bool.not_true, Bool.not_false]; done) | (simp only [pg_t_setPrice, c_5, c_16, c_26, d_40, cond_true, cond_false, Bool.not_true, Bool.not_false]; decide))
      · refine pg_iE (pg_rS (As := [.int z, .int 0, .int 10000000]) (rest := [.ref (a 0)]) ⟨hx, hb, hml, hown, hts⟩ (cm_in_f l D (pg_ty cI cZ) (pg_wM cI cZ a u) H.size z 0 10000000 c_26) (va_cwS 3 hts gX5_setPrice_X5_in rfl rfl rfl (by decide +kernel) ⟨Nat.le_of_ble_eq_true rfl, Nat.le_of_ble_eq_true rfl⟩) hK hP hD rfl hl.1 rfl (Nat.le_of_ble_eq_true rfl) dX5_setPrice_26 ⟨Nat.le_of_ble_eq_true rfl, Nat.le_of_ble_eq_true rfl⟩) hD hS hA (fun H locs hP hD hS => ?_)
        refine lv_if_ne (tgt := 36) hx hb dX5_setPrice_29 (by decide) (fun c_29 => absurd (by decide) c_29) (fun c_29 => ?_)
        refine lv_iconst (v := 1) hx hb dX5_setPrice_32 (by decide) ?_
        refine lv_goto (tgt := 48) hx hb dX5_setPrice_33 (by decide) ?_
        exact absurd hthr (by first | (simp only [pg_t_setPrice, c_5, c_16, c_26, cond_true, cond_false, Bool.not_true, Bool.not_false]; done) | (simp only [pg_t_setPrice, c_5, c_16, c_26, cond_true, cond_false, Bool.not_true, Bool.not_false]; decide))
    · refine pg_iE (pg_rS (As := [.int y1, .int (-10000000), .int 10000000]) (rest := [.ref (a 0)]) ⟨hx, hb, hml, hown, hts⟩ (cm_in_f l D (pg_ty cI cZ) (pg_wM cI cZ a u) H.size y1 (-10000000) 10000000 c_16) (va_cwS 3 hts gX5_setPrice_X5_in rfl rfl rfl (by decide +kernel) ⟨Nat.le_of_ble_eq_true rfl, Nat.le_of_ble_eq_true rfl⟩) hK hP hD rfl hl.1 rfl (Nat.le_of_ble_eq_true rfl) dX5_setPrice_16 ⟨Nat.le_of_ble_eq_true rfl, Nat.le_of_ble_eq_true rfl⟩) hD hS hA (fun H locs hP hD hS => ?_)
      refine lv_if_eq (tgt := 32) hx hb dX5_setPrice_19 (by decide) (fun c_19 => ?_) (fun c_19 => absurd (by decide) c_19)
      refine lv_iconst (v := 1) hx hb dX5_setPrice_32 (by decide) ?_
      refine lv_goto (tgt := 48) hx hb dX5_setPrice_33 (by decide) ?_
      exact absurd hthr (by first | (simp only [pg_t_setPrice, c_5, c_16, cond_true, cond_false, Bool.not_true, Bool.not_false]; done) | (simp only [pg_t_setPrice, c_5, c_16, cond_true, cond_false, Bool.not_true, Bool.not_false]; decide))
  · refine pg_iE (pg_rS (As := [.int x, .int 0, .int 10000000]) (rest := [.ref (a 0)]) ⟨hx, hb, hml, hown, hts⟩ (cm_in_f l D (pg_ty cI cZ) (pg_wM cI cZ a u) s.heap.size x 0 10000000 c_5) (va_cwS 3 hts gX5_setPrice_X5_in rfl rfl rfl (by decide +kernel) ⟨Nat.le_of_ble_eq_true rfl, Nat.le_of_ble_eq_true rfl⟩) hK hP hD rfl hl.1 rfl (Nat.le_of_ble_eq_true rfl) dX5_setPrice_5 ⟨Nat.le_of_ble_eq_true rfl, Nat.le_of_ble_eq_true rfl⟩) hD hS hA (fun H locs hP hD hS => ?_)
    refine lv_if_eq (tgt := 32) hx hb dX5_setPrice_8 (by decide) (fun c_8 => ?_) (fun c_8 => absurd (by decide) c_8)
    refine lv_iconst (v := 1) hx hb dX5_setPrice_32 (by decide) ?_
    refine lv_goto (tgt := 48) hx hb dX5_setPrice_33 (by decide) ?_
    exact absurd hthr (by first | (simp only [pg_t_setPrice, c_5, cond_true, cond_false, Bool.not_true, Bool.not_false]; done) | (simp only [pg_t_setPrice, c_5, cond_true, cond_false, Bool.not_true, Bool.not_false]; decide))
set_option maxHeartbeats 4000000 in
set_option maxRecDepth 100000 in
/-- cm_setPrice: not fine -/
theorem cm_setPrice_no (l : Launch) (D : va_G) (cI cZ : ClassId) (a : Nat → Nat) (sz : Nat) (u : pg_St) (x y1 z : Int32) (e9 : Int32) (hthr : pg_t_setPrice (!pg_eq (u.1 14) 0) x y1 z = e9) (h0 : e9 ≠ 0) : Met l yX5_setPrice wsX5_setPrice ({ frames := 1, cells := 0, slots := 0, locals := 22 }) (va_Pc [.ref (a 0), .int x, .int y1, .int z] (pg_B D (pg_ty cI cZ) (pg_wM cI cZ a u) sz)) (va_Qv (fun u' => u' = (upd u.1 15 e9, u.2)) (pg_E D (pg_ty cI cZ) (va_A (pg_wM cI cZ a u) sz) (pg_wM cI cZ a)) (va_A (pg_wM cI cZ a u) sz)) 0 0 (va_A (pg_wM cI cZ a u) sz) := by
  refine Met.ofW (cc := cX5_setPrice) (maxL := 4) (ret := none) (by decide) rfl ?_
  intro p e s m args below meth c s₁ B hml hv
  obtain ⟨rfl, hsz, hP, hK, hD0⟩ := hv
  have hx := B.exec
  have hb := B.bytes
  have hr := B.returns
  have hts := atoms_spec (ws := wsX5_setPrice) B.pre
  have hown : s.vm.findClass RX5 = some m.cls := findClass_of_methodNamed B.named
  have hlocks := B.notSynchronized
  subst hsz
  have hD := hD0.self (sz := s.heap.size)
  generalize hAe : va_A (pg_wM cI cZ a u) s.heap.size = A at hD ⊢
  have hA : ∀ q : Nat, s.heap.size ≤ q → A q := fun q h => by rw [← hAe]; exact Or.inr h
  have hS : va_S A s.heap s.heap [] := va_S.rf
  have hl := lv_entry ([.ref (a 0), .int x, .int y1, .int z]) (n := 4) (Nat.le_of_ble_eq_true rfl)
  rw [lg_entry_eq]
  generalize (lg_sl ([.ref (a 0), .int x, .int y1, .int z]) ++ List.replicate (4 - (lg_sl ([.ref (a 0), .int x, .int y1, .int z])).length) Slot.unset).toArray = ls at hl ⊢
  have hl : lv_has ls 4 [(0, .ref (a 0)), (1, .int x), (2, .int y1), (3, .int z)] := hl
  have hiX5 : ∀ w ∈ wsX50, w ∈ wsX5_setPrice := fun _ h => List.mem_cons_of_mem _ (List.mem_append_right _ (h))
  have hw1 := hts (.constant RX5 60 (10000000)) (List.mem_of_getElem? (i := 1) rfl)
  have hw2 := hts (.constant RX5 65 (-10000000)) (List.mem_of_getElem? (i := 2) rfl)
  have hw3 := hts (.fieldLink RX5 66 "PegBoxModel" "closed" "Z") (List.mem_of_getElem? (i := 3) rfl)
  refine lv_aload_n hx hb dX5_setPrice_0 rfl (lv_at hl 0 rfl) ?_
  refine lv_iload_n hx hb dX5_setPrice_1 rfl (lv_at hl 1 rfl) ?_
  refine lv_iconst (v := 0) hx hb dX5_setPrice_2 (by decide) ?_
  refine lv_ldc hx hb hown hw1 dX5_setPrice_3 ?_
  rcases Bool.eq_false_or_eq_true (pg_in x 0 10000000) with c_5 | c_5
  · refine pg_iE (pg_rS (As := [.int x, .int 0, .int 10000000]) (rest := [.ref (a 0)]) ⟨hx, hb, hml, hown, hts⟩ (cm_in_t l D (pg_ty cI cZ) (pg_wM cI cZ a u) s.heap.size x 0 10000000 c_5) (va_cwS 3 hts gX5_setPrice_X5_in rfl rfl rfl (by decide +kernel) ⟨Nat.le_of_ble_eq_true rfl, Nat.le_of_ble_eq_true rfl⟩) hK hP hD rfl hl.1 rfl (Nat.le_of_ble_eq_true rfl) dX5_setPrice_5 ⟨Nat.le_of_ble_eq_true rfl, Nat.le_of_ble_eq_true rfl⟩) hD hS hA (fun H locs hP hD hS => ?_)
    refine lv_if_eq (tgt := 32) hx hb dX5_setPrice_8 (by decide) (fun c_8 => absurd c_8 (by decide)) (fun c_8 => ?_)
    refine lv_iload_n hx hb dX5_setPrice_11 rfl (lv_at hl 2 rfl) ?_
    refine lv_ldc hx hb hown hw2 dX5_setPrice_12 ?_
    refine lv_ldc hx hb hown hw1 dX5_setPrice_14 ?_
    rcases Bool.eq_false_or_eq_true (pg_in y1 (-10000000) 10000000) with c_16 | c_16
    · refine pg_iE (pg_rS (As := [.int y1, .int (-10000000), .int 10000000]) (rest := [.ref (a 0)]) ⟨hx, hb, hml, hown, hts⟩ (cm_in_t l D (pg_ty cI cZ) (pg_wM cI cZ a u) H.size y1 (-10000000) 10000000 c_16) (va_cwS 3 hts gX5_setPrice_X5_in rfl rfl rfl (by decide +kernel) ⟨Nat.le_of_ble_eq_true rfl, Nat.le_of_ble_eq_true rfl⟩) hK hP hD rfl hl.1 rfl (Nat.le_of_ble_eq_true rfl) dX5_setPrice_16 ⟨Nat.le_of_ble_eq_true rfl, Nat.le_of_ble_eq_true rfl⟩) hD hS hA (fun H locs hP hD hS => ?_)
      refine lv_if_eq (tgt := 32) hx hb dX5_setPrice_19 (by decide) (fun c_19 => absurd c_19 (by decide)) (fun c_19 => ?_)
      refine lv_iload_n hx hb dX5_setPrice_22 rfl (lv_at hl 3 rfl) ?_
      refine lv_iconst (v := 0) hx hb dX5_setPrice_23 (by decide) ?_
      refine lv_ldc hx hb hown hw1 dX5_setPrice_24 ?_
      rcases Bool.eq_false_or_eq_true (pg_in z 0 10000000) with c_26 | c_26
      · refine pg_iE (pg_rS (As := [.int z, .int 0, .int 10000000]) (rest := [.ref (a 0)]) ⟨hx, hb, hml, hown, hts⟩ (cm_in_t l D (pg_ty cI cZ) (pg_wM cI cZ a u) H.size z 0 10000000 c_26) (va_cwS 3 hts gX5_setPrice_X5_in rfl rfl rfl (by decide +kernel) ⟨Nat.le_of_ble_eq_true rfl, Nat.le_of_ble_eq_true rfl⟩) hK hP hD rfl hl.1 rfl (Nat.le_of_ble_eq_true rfl) dX5_setPrice_26 ⟨Nat.le_of_ble_eq_true rfl, Nat.le_of_ble_eq_true rfl⟩) hD hS hA (fun H locs hP hD hS => ?_)
        refine lv_if_ne (tgt := 36) hx hb dX5_setPrice_29 (by decide) (fun c_29 => ?_) (fun c_29 => absurd c_29 (by decide))
        refine lv_aload_n hx hb dX5_setPrice_36 rfl (lv_at hl 0 rfl) ?_
        refine va_get (D := D) (ci := 5) (v := .int (u.1 14)) (C := RX5) (T := TX5) (N := 31) hx hb hts hiX5 hown hK hP 0 rfl rfl 13 (by decide) hw3 (fun _ h9 => h9) rfl dX5_setPrice_37 ?_
        refine lv_if_eq (tgt := 47) hx hb dX5_setPrice_40 (by decide) (fun c_40 => ?_) (fun c_40 => ?_)
        · have d_40 := pg_eq_t c_40
          refine lv_iconst (v := 0) hx hb dX5_setPrice_47 (by decide) ?_
          exact absurd (hthr.symm.trans (by simp only [pg_t_setPrice, c_5, c_16, c_26, d_40, cond_true, cond_false, Bool.not_true, Bool.not_false])) h0
        · have d_40 := pg_eq_f c_40
          refine lv_iconst (v := 2) hx hb dX5_setPrice_43 (by decide) ?_
          refine lv_goto (tgt := 48) hx hb dX5_setPrice_44 (by decide) ?_
          have he : e9 = 2 := hthr.symm.trans (by simp only [pg_t_setPrice, c_5, c_16, c_26, d_40, cond_true, cond_false, Bool.not_true, Bool.not_false])
          refine pg_iE (pg_rV (As := [.int 2]) (rest := []) ⟨hx, hb, hml, hown, hts⟩ (cm_fine1 l D cI cZ a H.size u 2 (by decide)) (cwV 1 hts gX5_setPrice_X5_isFine rfl rfl rfl (by decide +kernel) ⟨Nat.le_of_ble_eq_true rfl, Nat.le_of_ble_eq_true rfl⟩) hK hP hD 0 (ci := 5) rfl rfl rfl rfl hl.1 rfl (Nat.le_of_ble_eq_true rfl) dX5_setPrice_48 ⟨Nat.le_of_ble_eq_true rfl, Nat.le_of_ble_eq_true rfl⟩) hD hS hA (fun H locs hP hD hS => ?_)
          refine lv_if_eq (tgt := 69) hx hb dX5_setPrice_51 (by decide) (fun c_51 => ?_) (fun c_51 => absurd (by decide) c_51)
          exact W.vret hx hb hr (fun t9 ht9 hW9 => ⟨⟨((upd u.1 15 2), u.2), rfl, (by rw [he]), by rw [ht9]; exact hP, va_K.moved hW9.alike hK, hD⟩, hS.F ht9⟩) hS.2.2 dX5_setPrice_69
      · refine pg_iE (pg_rS (As := [.int z, .int 0, .int 10000000]) (rest := [.ref (a 0)]) ⟨hx, hb, hml, hown, hts⟩ (cm_in_f l D (pg_ty cI cZ) (pg_wM cI cZ a u) H.size z 0 10000000 c_26) (va_cwS 3 hts gX5_setPrice_X5_in rfl rfl rfl (by decide +kernel) ⟨Nat.le_of_ble_eq_true rfl, Nat.le_of_ble_eq_true rfl⟩) hK hP hD rfl hl.1 rfl (Nat.le_of_ble_eq_true rfl) dX5_setPrice_26 ⟨Nat.le_of_ble_eq_true rfl, Nat.le_of_ble_eq_true rfl⟩) hD hS hA (fun H locs hP hD hS => ?_)
        refine lv_if_ne (tgt := 36) hx hb dX5_setPrice_29 (by decide) (fun c_29 => absurd (by decide) c_29) (fun c_29 => ?_)
        refine lv_iconst (v := 1) hx hb dX5_setPrice_32 (by decide) ?_
        refine lv_goto (tgt := 48) hx hb dX5_setPrice_33 (by decide) ?_
        have he : e9 = 1 := hthr.symm.trans (by simp only [pg_t_setPrice, c_5, c_16, c_26, cond_true, cond_false, Bool.not_true, Bool.not_false])
        refine pg_iE (pg_rV (As := [.int 1]) (rest := []) ⟨hx, hb, hml, hown, hts⟩ (cm_fine1 l D cI cZ a H.size u 1 (by decide)) (cwV 1 hts gX5_setPrice_X5_isFine rfl rfl rfl (by decide +kernel) ⟨Nat.le_of_ble_eq_true rfl, Nat.le_of_ble_eq_true rfl⟩) hK hP hD 0 (ci := 5) rfl rfl rfl rfl hl.1 rfl (Nat.le_of_ble_eq_true rfl) dX5_setPrice_48 ⟨Nat.le_of_ble_eq_true rfl, Nat.le_of_ble_eq_true rfl⟩) hD hS hA (fun H locs hP hD hS => ?_)
        refine lv_if_eq (tgt := 69) hx hb dX5_setPrice_51 (by decide) (fun c_51 => ?_) (fun c_51 => absurd (by decide) c_51)
        exact W.vret hx hb hr (fun t9 ht9 hW9 => ⟨⟨((upd u.1 15 1), u.2), rfl, (by rw [he]), by rw [ht9]; exact hP, va_K.moved hW9.alike hK, hD⟩, hS.F ht9⟩) hS.2.2 dX5_setPrice_69
    · refine pg_iE (pg_rS (As := [.int y1, .int (-10000000), .int 10000000]) (rest := [.ref (a 0)]) ⟨hx, hb, hml, hown, hts⟩ (cm_in_f l D (pg_ty cI cZ) (pg_wM cI cZ a u) H.size y1 (-10000000) 10000000 c_16) (va_cwS 3 hts gX5_setPrice_X5_in rfl rfl rfl (by decide +kernel) ⟨Nat.le_of_ble_eq_true rfl, Nat.le_of_ble_eq_true rfl⟩) hK hP hD rfl hl.1 rfl (Nat.le_of_ble_eq_true rfl) dX5_setPrice_16 ⟨Nat.le_of_ble_eq_true rfl, Nat.le_of_ble_eq_true rfl⟩) hD hS hA (fun H locs hP hD hS => ?_)
      refine lv_if_eq (tgt := 32) hx hb dX5_setPrice_19 (by decide) (fun c_19 => ?_) (fun c_19 => absurd (by decide) c_19)
      refine lv_iconst (v := 1) hx hb dX5_setPrice_32 (by decide) ?_
      refine lv_goto (tgt := 48) hx hb dX5_setPrice_33 (by decide) ?_
      have he : e9 = 1 := hthr.symm.trans (by simp only [pg_t_setPrice, c_5, c_16, cond_true, cond_false, Bool.not_true, Bool.not_false])
      refine pg_iE (pg_rV (As := [.int 1]) (rest := []) ⟨hx, hb, hml, hown, hts⟩ (cm_fine1 l D cI cZ a H.size u 1 (by decide)) (cwV 1 hts gX5_setPrice_X5_isFine rfl rfl rfl (by decide +kernel) ⟨Nat.le_of_ble_eq_true rfl, Nat.le_of_ble_eq_true rfl⟩) hK hP hD 0 (ci := 5) rfl rfl rfl rfl hl.1 rfl (Nat.le_of_ble_eq_true rfl) dX5_setPrice_48 ⟨Nat.le_of_ble_eq_true rfl, Nat.le_of_ble_eq_true rfl⟩) hD hS hA (fun H locs hP hD hS => ?_)
      refine lv_if_eq (tgt := 69) hx hb dX5_setPrice_51 (by decide) (fun c_51 => ?_) (fun c_51 => absurd (by decide) c_51)
      exact W.vret hx hb hr (fun t9 ht9 hW9 => ⟨⟨((upd u.1 15 1), u.2), rfl, (by rw [he]), by rw [ht9]; exact hP, va_K.moved hW9.alike hK, hD⟩, hS.F ht9⟩) hS.2.2 dX5_setPrice_69
  · refine pg_iE (pg_rS (As := [.int x, .int 0, .int 10000000]) (rest := [.ref (a 0)]) ⟨hx, hb, hml, hown, hts⟩ (cm_in_f l D (pg_ty cI cZ) (pg_wM cI cZ a u) s.heap.size x 0 10000000 c_5) (va_cwS 3 hts gX5_setPrice_X5_in rfl rfl rfl (by decide +kernel) ⟨Nat.le_of_ble_eq_true rfl, Nat.le_of_ble_eq_true rfl⟩) hK hP hD rfl hl.1 rfl (Nat.le_of_ble_eq_true rfl) dX5_setPrice_5 ⟨Nat.le_of_ble_eq_true rfl, Nat.le_of_ble_eq_true rfl⟩) hD hS hA (fun H locs hP hD hS => ?_)
    refine lv_if_eq (tgt := 32) hx hb dX5_setPrice_8 (by decide) (fun c_8 => ?_) (fun c_8 => absurd (by decide) c_8)
    refine lv_iconst (v := 1) hx hb dX5_setPrice_32 (by decide) ?_
    refine lv_goto (tgt := 48) hx hb dX5_setPrice_33 (by decide) ?_
    have he : e9 = 1 := hthr.symm.trans (by simp only [pg_t_setPrice, c_5, cond_true, cond_false, Bool.not_true, Bool.not_false])
    refine pg_iE (pg_rV (As := [.int 1]) (rest := []) ⟨hx, hb, hml, hown, hts⟩ (cm_fine1 l D cI cZ a H.size u 1 (by decide)) (cwV 1 hts gX5_setPrice_X5_isFine rfl rfl rfl (by decide +kernel) ⟨Nat.le_of_ble_eq_true rfl, Nat.le_of_ble_eq_true rfl⟩) hK hP hD 0 (ci := 5) rfl rfl rfl rfl hl.1 rfl (Nat.le_of_ble_eq_true rfl) dX5_setPrice_48 ⟨Nat.le_of_ble_eq_true rfl, Nat.le_of_ble_eq_true rfl⟩) hD hS hA (fun H locs hP hD hS => ?_)
    refine lv_if_eq (tgt := 69) hx hb dX5_setPrice_51 (by decide) (fun c_51 => ?_) (fun c_51 => absurd (by decide) c_51)
    exact W.vret hx hb hr (fun t9 ht9 hW9 => ⟨⟨((upd u.1 15 1), u.2), rfl, (by rw [he]), by rw [ht9]; exact hP, va_K.moved hW9.alike hK, hD⟩, hS.F ht9⟩) hS.2.2 dX5_setPrice_69
set_option maxHeartbeats 4000000 in
set_option maxRecDepth 100000 in
/-- cm_setPart: fine -/
theorem cm_setPart_ok (l : Launch) (D : va_G) (cI cZ : ClassId) (a : Nat → Nat) (sz : Nat) (u : pg_St) (k x d : Int32) (hthr : pg_t_setPart (!pg_eq (u.1 14) 0) k x d = 0) : Met l yX5_setPart wsX5_setPart ({ frames := 1, cells := 0, slots := 0, locals := 22 }) (va_Pc [.ref (a 0), .int k, .int x, .int d] (pg_B D (pg_ty cI cZ) (pg_wM cI cZ a u) sz)) (va_Qv (fun u' => u' = (upd u.1 15 0, pg_row (pg_row u.2 0 (upd (u.2 0) k.toNatClampNeg x)) 1 (upd (u.2 1) k.toNatClampNeg d))) (pg_E D (pg_ty cI cZ) (va_A (pg_wM cI cZ a u) sz) (pg_wM cI cZ a)) (va_A (pg_wM cI cZ a u) sz)) 0 0 (va_A (pg_wM cI cZ a u) sz) := by
  refine Met.ofW (cc := cX5_setPart) (maxL := 4) (ret := none) (by decide) rfl ?_
  intro p e s m args below meth c s₁ B hml hv
  obtain ⟨rfl, hsz, hP, hK, hD0⟩ := hv
  have hx := B.exec
  have hb := B.bytes
  have hr := B.returns
  have hts := atoms_spec (ws := wsX5_setPart) B.pre
  have hown : s.vm.findClass RX5 = some m.cls := findClass_of_methodNamed B.named
  have hlocks := B.notSynchronized
  subst hsz
  have hD := hD0.self (sz := s.heap.size)
  generalize hAe : va_A (pg_wM cI cZ a u) s.heap.size = A at hD ⊢
  have hA : ∀ q : Nat, s.heap.size ≤ q → A q := fun q h => by rw [← hAe]; exact Or.inr h
  have hS : va_S A s.heap s.heap [] := va_S.rf
  have hl := lv_entry ([.ref (a 0), .int k, .int x, .int d]) (n := 4) (Nat.le_of_ble_eq_true rfl)
  rw [lg_entry_eq]
  generalize (lg_sl ([.ref (a 0), .int k, .int x, .int d]) ++ List.replicate (4 - (lg_sl ([.ref (a 0), .int k, .int x, .int d])).length) Slot.unset).toArray = ls at hl ⊢
  have hl : lv_has ls 4 [(0, .ref (a 0)), (1, .int k), (2, .int x), (3, .int d)] := hl
  have hiX5 : ∀ w ∈ wsX50, w ∈ wsX5_setPart := fun _ h => List.mem_cons_of_mem _ (List.mem_append_right _ (h))
  have hw1 := hts (.constant RX5 60 (10000000)) (List.mem_of_getElem? (i := 1) rfl)
  have hw2 := hts (.fieldLink RX5 66 "PegBoxModel" "closed" "Z") (List.mem_of_getElem? (i := 2) rfl)
  have hw3 := hts (.fieldLink RX5 7 "PegBoxModel" "partAmount" "[I") (List.mem_of_getElem? (i := 3) rfl)
  have hw4 := hts (.fieldLink RX5 13 "PegBoxModel" "partDay" "[I") (List.mem_of_getElem? (i := 4) rfl)
  refine lv_aload_n hx hb dX5_setPart_0 rfl (lv_at hl 0 rfl) ?_
  refine lv_iload_n hx hb dX5_setPart_1 rfl (lv_at hl 1 rfl) ?_
  refine lv_iconst (v := 0) hx hb dX5_setPart_2 (by decide) ?_
  refine lv_iconst (v := 3) hx hb dX5_setPart_3 (by decide) ?_
  rcases Bool.eq_false_or_eq_true (pg_in k 0 3) with c_4 | c_4
  · have d_4 : pg_nb k 4 = true := (pg_nb4 k).trans c_4
    refine pg_iE (pg_rS (As := [.int k, .int 0, .int 3]) (rest := [.ref (a 0)]) ⟨hx, hb, hml, hown, hts⟩ (cm_in_t l D (pg_ty cI cZ) (pg_wM cI cZ a u) s.heap.size k 0 3 c_4) (va_cwS 3 hts gX5_setPart_X5_in rfl rfl rfl (by decide +kernel) ⟨Nat.le_of_ble_eq_true rfl, Nat.le_of_ble_eq_true rfl⟩) hK hP hD rfl hl.1 rfl (Nat.le_of_ble_eq_true rfl) dX5_setPart_4 ⟨Nat.le_of_ble_eq_true rfl, Nat.le_of_ble_eq_true rfl⟩) hD hS hA (fun H locs hP hD hS => ?_)
    obtain ⟨j, hj, rfl⟩ := pg_nb_nI (n := 4) (by omega) d_4
    have hcl : (nI j).toNatClampNeg = j := nI_clamp (by omega)
    refine lv_if_ne (tgt := 14) hx hb dX5_setPart_7 (by decide) (fun c_7 => ?_) (fun c_7 => absurd c_7 (by decide))
    refine lv_iload_n hx hb dX5_setPart_14 rfl (lv_at hl 2 rfl) ?_
    refine lv_iconst (v := 0) hx hb dX5_setPart_15 (by decide) ?_
    refine lv_ldc hx hb hown hw1 dX5_setPart_16 ?_
    rcases Bool.eq_false_or_eq_true (pg_in x 0 10000000) with c_18 | c_18
    · refine pg_iE (pg_rS (As := [.int x, .int 0, .int 10000000]) (rest := [.ref (a 0)]) ⟨hx, hb, hml, hown, hts⟩ (cm_in_t l D (pg_ty cI cZ) (pg_wM cI cZ a u) H.size x 0 10000000 c_18) (va_cwS 3 hts gX5_setPart_X5_in rfl rfl rfl (by decide +kernel) ⟨Nat.le_of_ble_eq_true rfl, Nat.le_of_ble_eq_true rfl⟩) hK hP hD rfl hl.1 rfl (Nat.le_of_ble_eq_true rfl) dX5_setPart_18 ⟨Nat.le_of_ble_eq_true rfl, Nat.le_of_ble_eq_true rfl⟩) hD hS hA (fun H locs hP hD hS => ?_)
      refine lv_if_eq (tgt := 35) hx hb dX5_setPart_21 (by decide) (fun c_21 => absurd c_21 (by decide)) (fun c_21 => ?_)
      refine lv_iload_n hx hb dX5_setPart_24 rfl (lv_at hl 3 rfl) ?_
      refine lv_iconst (v := 1) hx hb dX5_setPart_25 (by decide) ?_
      refine lv_sipush (v := 2000) hx hb dX5_setPart_26 (by decide) ?_
      rcases Bool.eq_false_or_eq_true (pg_in d 1 2000) with c_29 | c_29
      · refine pg_iE (pg_rS (As := [.int d, .int 1, .int 2000]) (rest := [.ref (a 0)]) ⟨hx, hb, hml, hown, hts⟩ (cm_in_t l D (pg_ty cI cZ) (pg_wM cI cZ a u) H.size d 1 2000 c_29) (va_cwS 3 hts gX5_setPart_X5_in rfl rfl rfl (by decide +kernel) ⟨Nat.le_of_ble_eq_true rfl, Nat.le_of_ble_eq_true rfl⟩) hK hP hD rfl hl.1 rfl (Nat.le_of_ble_eq_true rfl) dX5_setPart_29 ⟨Nat.le_of_ble_eq_true rfl, Nat.le_of_ble_eq_true rfl⟩) hD hS hA (fun H locs hP hD hS => ?_)
        refine lv_if_ne (tgt := 39) hx hb dX5_setPart_32 (by decide) (fun c_32 => ?_) (fun c_32 => absurd c_32 (by decide))
        refine lv_aload_n hx hb dX5_setPart_39 rfl (lv_at hl 0 rfl) ?_
        refine va_get (D := D) (ci := 5) (v := .int (u.1 14)) (C := RX5) (T := TX5) (N := 31) hx hb hts hiX5 hown hK hP 0 rfl rfl 13 (by decide) hw2 (fun _ h9 => h9) rfl dX5_setPart_40 ?_
        refine lv_if_eq (tgt := 50) hx hb dX5_setPart_43 (by decide) (fun c_43 => ?_) (fun c_43 => ?_)
        · have d_43 := pg_eq_t c_43
          refine lv_iconst (v := 0) hx hb dX5_setPart_50 (by decide) ?_
          refine pg_iE (pg_rV (As := [.int 0]) (rest := []) ⟨hx, hb, hml, hown, hts⟩ (cm_fine0 l D cI cZ a H.size u) (cwV 1 hts gX5_setPart_X5_isFine rfl rfl rfl (by decide +kernel) ⟨Nat.le_of_ble_eq_true rfl, Nat.le_of_ble_eq_true rfl⟩) hK hP hD 0 (ci := 5) rfl rfl rfl rfl hl.1 rfl (Nat.le_of_ble_eq_true rfl) dX5_setPart_51 ⟨Nat.le_of_ble_eq_true rfl, Nat.le_of_ble_eq_true rfl⟩) hD hS hA (fun H locs hP hD hS => ?_)
          refine lv_if_eq (tgt := 71) hx hb dX5_setPart_54 (by decide) (fun c_54 => absurd c_54 (by decide)) (fun c_54 => ?_)
          refine lv_aload_n hx hb dX5_setPart_57 rfl (lv_at hl 0 rfl) ?_
          refine va_get (D := D) (ci := 5) (v := .ref (a 1)) (C := RX5) (T := TX5) (N := 31) hx hb hts hiX5 hown hK hP 0 rfl rfl 3 (by decide) hw3 (fun _ h9 => h9) rfl dX5_setPart_58 ?_
          refine lv_iload_n hx hb dX5_setPart_61 rfl (lv_at hl 1 rfl) ?_
          refine lv_iload_n hx hb dX5_setPart_62 rfl (lv_at hl 2 rfl) ?_
          refine pg_ist hx hb hK hP hD hS 1 0 rfl rfl (show j < _ by omega) (by decide) dX5_setPart_63 (fun H locs hP hD hS => ?_)
          have hP : va_P D vwCl (pg_wM cI cZ a ((upd u.1 15 0), (pg_row u.2 0 (upd (u.2 0) j x)))) H := hP
          have hD : va_D A (pg_wM cI cZ a ((upd u.1 15 0), (pg_row u.2 0 (upd (u.2 0) j x)))) := hD
          refine lv_aload_n hx hb dX5_setPart_64 rfl (lv_at hl 0 rfl) ?_
          refine va_get (D := D) (ci := 5) (v := .ref (a 2)) (C := RX5) (T := TX5) (N := 31) hx hb hts hiX5 hown hK hP 0 rfl rfl 4 (by decide) hw4 (fun _ h9 => h9) rfl dX5_setPart_65 ?_
          refine lv_iload_n hx hb dX5_setPart_68 rfl (lv_at hl 1 rfl) ?_
          refine lv_iload_n hx hb dX5_setPart_69 rfl (lv_at hl 3 rfl) ?_
          refine pg_ist hx hb hK hP hD hS 2 0 rfl rfl (show j < _ by omega) (by decide) dX5_setPart_70 (fun H locs hP hD hS => ?_)
          have hP : va_P D vwCl (pg_wM cI cZ a ((upd u.1 15 0), (pg_row (pg_row u.2 0 (upd (u.2 0) j x)) 1 (upd (u.2 1) j d)))) H := hP
          have hD : va_D A (pg_wM cI cZ a ((upd u.1 15 0), (pg_row (pg_row u.2 0 (upd (u.2 0) j x)) 1 (upd (u.2 1) j d)))) := hD
          exact W.vret hx hb hr (fun t9 ht9 hW9 => ⟨⟨((upd u.1 15 0), (pg_row (pg_row u.2 0 (upd (u.2 0) j x)) 1 (upd (u.2 1) j d))), rfl, (by rw [hcl]), by rw [ht9]; exact hP, va_K.moved hW9.alike hK, hD⟩, hS.F ht9⟩) hS.2.2 dX5_setPart_71
        · have d_43 := pg_eq_f c_43
          refine lv_iconst (v := 3) hx hb dX5_setPart_46 (by decide) ?_
          refine lv_goto (tgt := 51) hx hb dX5_setPart_47 (by decide) ?_
          exact absurd hthr (by first | (simp only [pg_t_setPart, d_4, hcl, c_18, c_29, d_43, cond_true, cond_false, Bool.not_true, Bool.not_false]; done) | (simp only [pg_t_setPart, d_4, hcl, c_18, c_29, d_43, cond_true, cond_false, Bool.not_true, Bool.not_false]; decide))
      · refine pg_iE (pg_rS (As := [.int d, .int 1, .int 2000]) (rest := [.ref (a 0)]) ⟨hx, hb, hml, hown, hts⟩ (cm_in_f l D (pg_ty cI cZ) (pg_wM cI cZ a u) H.size d 1 2000 c_29) (va_cwS 3 hts gX5_setPart_X5_in rfl rfl rfl (by decide +kernel) ⟨Nat.le_of_ble_eq_true rfl, Nat.le_of_ble_eq_true rfl⟩) hK hP hD rfl hl.1 rfl (Nat.le_of_ble_eq_true rfl) dX5_setPart_29 ⟨Nat.le_of_ble_eq_true rfl, Nat.le_of_ble_eq_true rfl⟩) hD hS hA (fun H locs hP hD hS => ?_)
        refine lv_if_ne (tgt := 39) hx hb dX5_setPart_32 (by decide) (fun c_32 => absurd (by decide) c_32) (fun c_32 => ?_)
        refine lv_iconst (v := 2) hx hb dX5_setPart_35 (by decide) ?_
        refine lv_goto (tgt := 51) hx hb dX5_setPart_36 (by decide) ?_
        exact absurd hthr (by first | (simp only [pg_t_setPart, d_4, hcl, c_18, c_29, cond_true, cond_false, Bool.not_true, Bool.not_false]; done) | (simp only [pg_t_setPart, d_4, hcl, c_18, c_29, cond_true, cond_false, Bool.not_true, Bool.not_false]; decide))
    · refine pg_iE (pg_rS (As := [.int x, .int 0, .int 10000000]) (rest := [.ref (a 0)]) ⟨hx, hb, hml, hown, hts⟩ (cm_in_f l D (pg_ty cI cZ) (pg_wM cI cZ a u) H.size x 0 10000000 c_18) (va_cwS 3 hts gX5_setPart_X5_in rfl rfl rfl (by decide +kernel) ⟨Nat.le_of_ble_eq_true rfl, Nat.le_of_ble_eq_true rfl⟩) hK hP hD rfl hl.1 rfl (Nat.le_of_ble_eq_true rfl) dX5_setPart_18 ⟨Nat.le_of_ble_eq_true rfl, Nat.le_of_ble_eq_true rfl⟩) hD hS hA (fun H locs hP hD hS => ?_)
      refine lv_if_eq (tgt := 35) hx hb dX5_setPart_21 (by decide) (fun c_21 => ?_) (fun c_21 => absurd (by decide) c_21)
      refine lv_iconst (v := 2) hx hb dX5_setPart_35 (by decide) ?_
      refine lv_goto (tgt := 51) hx hb dX5_setPart_36 (by decide) ?_
      exact absurd hthr (by first | (simp only [pg_t_setPart, d_4, hcl, c_18, cond_true, cond_false, Bool.not_true, Bool.not_false]; done) | (simp only [pg_t_setPart, d_4, hcl, c_18, cond_true, cond_false, Bool.not_true, Bool.not_false]; decide))
  · have d_4 : pg_nb k 4 = false := (pg_nb4 k).trans c_4
    refine pg_iE (pg_rS (As := [.int k, .int 0, .int 3]) (rest := [.ref (a 0)]) ⟨hx, hb, hml, hown, hts⟩ (cm_in_f l D (pg_ty cI cZ) (pg_wM cI cZ a u) s.heap.size k 0 3 c_4) (va_cwS 3 hts gX5_setPart_X5_in rfl rfl rfl (by decide +kernel) ⟨Nat.le_of_ble_eq_true rfl, Nat.le_of_ble_eq_true rfl⟩) hK hP hD rfl hl.1 rfl (Nat.le_of_ble_eq_true rfl) dX5_setPart_4 ⟨Nat.le_of_ble_eq_true rfl, Nat.le_of_ble_eq_true rfl⟩) hD hS hA (fun H locs hP hD hS => ?_)
    refine lv_if_ne (tgt := 14) hx hb dX5_setPart_7 (by decide) (fun c_7 => absurd (by decide) c_7) (fun c_7 => ?_)
    refine lv_iconst (v := 1) hx hb dX5_setPart_10 (by decide) ?_
    refine lv_goto (tgt := 51) hx hb dX5_setPart_11 (by decide) ?_
    exact absurd hthr (by first | (simp only [pg_t_setPart, d_4, cond_true, cond_false, Bool.not_true, Bool.not_false]; done) | (simp only [pg_t_setPart, d_4, cond_true, cond_false, Bool.not_true, Bool.not_false]; decide))
set_option maxHeartbeats 4000000 in
set_option maxRecDepth 100000 in
/-- cm_setPart: not fine -/
theorem cm_setPart_no (l : Launch) (D : va_G) (cI cZ : ClassId) (a : Nat → Nat) (sz : Nat) (u : pg_St) (k x d : Int32) (e9 : Int32) (hthr : pg_t_setPart (!pg_eq (u.1 14) 0) k x d = e9) (h0 : e9 ≠ 0) : Met l yX5_setPart wsX5_setPart ({ frames := 1, cells := 0, slots := 0, locals := 22 }) (va_Pc [.ref (a 0), .int k, .int x, .int d] (pg_B D (pg_ty cI cZ) (pg_wM cI cZ a u) sz)) (va_Qv (fun u' => u' = (upd u.1 15 e9, u.2)) (pg_E D (pg_ty cI cZ) (va_A (pg_wM cI cZ a u) sz) (pg_wM cI cZ a)) (va_A (pg_wM cI cZ a u) sz)) 0 0 (va_A (pg_wM cI cZ a u) sz) := by
  refine Met.ofW (cc := cX5_setPart) (maxL := 4) (ret := none) (by decide) rfl ?_
  intro p e s m args below meth c s₁ B hml hv
  obtain ⟨rfl, hsz, hP, hK, hD0⟩ := hv
  have hx := B.exec
  have hb := B.bytes
  have hr := B.returns
  have hts := atoms_spec (ws := wsX5_setPart) B.pre
  have hown : s.vm.findClass RX5 = some m.cls := findClass_of_methodNamed B.named
  have hlocks := B.notSynchronized
  subst hsz
  have hD := hD0.self (sz := s.heap.size)
  generalize hAe : va_A (pg_wM cI cZ a u) s.heap.size = A at hD ⊢
  have hA : ∀ q : Nat, s.heap.size ≤ q → A q := fun q h => by rw [← hAe]; exact Or.inr h
  have hS : va_S A s.heap s.heap [] := va_S.rf
  have hl := lv_entry ([.ref (a 0), .int k, .int x, .int d]) (n := 4) (Nat.le_of_ble_eq_true rfl)
  rw [lg_entry_eq]
  generalize (lg_sl ([.ref (a 0), .int k, .int x, .int d]) ++ List.replicate (4 - (lg_sl ([.ref (a 0), .int k, .int x, .int d])).length) Slot.unset).toArray = ls at hl ⊢
  have hl : lv_has ls 4 [(0, .ref (a 0)), (1, .int k), (2, .int x), (3, .int d)] := hl
  have hiX5 : ∀ w ∈ wsX50, w ∈ wsX5_setPart := fun _ h => List.mem_cons_of_mem _ (List.mem_append_right _ (h))
  have hw1 := hts (.constant RX5 60 (10000000)) (List.mem_of_getElem? (i := 1) rfl)
  have hw2 := hts (.fieldLink RX5 66 "PegBoxModel" "closed" "Z") (List.mem_of_getElem? (i := 2) rfl)
  refine lv_aload_n hx hb dX5_setPart_0 rfl (lv_at hl 0 rfl) ?_
  refine lv_iload_n hx hb dX5_setPart_1 rfl (lv_at hl 1 rfl) ?_
  refine lv_iconst (v := 0) hx hb dX5_setPart_2 (by decide) ?_
  refine lv_iconst (v := 3) hx hb dX5_setPart_3 (by decide) ?_
  rcases Bool.eq_false_or_eq_true (pg_in k 0 3) with c_4 | c_4
  · have d_4 : pg_nb k 4 = true := (pg_nb4 k).trans c_4
    refine pg_iE (pg_rS (As := [.int k, .int 0, .int 3]) (rest := [.ref (a 0)]) ⟨hx, hb, hml, hown, hts⟩ (cm_in_t l D (pg_ty cI cZ) (pg_wM cI cZ a u) s.heap.size k 0 3 c_4) (va_cwS 3 hts gX5_setPart_X5_in rfl rfl rfl (by decide +kernel) ⟨Nat.le_of_ble_eq_true rfl, Nat.le_of_ble_eq_true rfl⟩) hK hP hD rfl hl.1 rfl (Nat.le_of_ble_eq_true rfl) dX5_setPart_4 ⟨Nat.le_of_ble_eq_true rfl, Nat.le_of_ble_eq_true rfl⟩) hD hS hA (fun H locs hP hD hS => ?_)
    obtain ⟨j, hj, rfl⟩ := pg_nb_nI (n := 4) (by omega) d_4
    have hcl : (nI j).toNatClampNeg = j := nI_clamp (by omega)
    refine lv_if_ne (tgt := 14) hx hb dX5_setPart_7 (by decide) (fun c_7 => ?_) (fun c_7 => absurd c_7 (by decide))
    refine lv_iload_n hx hb dX5_setPart_14 rfl (lv_at hl 2 rfl) ?_
    refine lv_iconst (v := 0) hx hb dX5_setPart_15 (by decide) ?_
    refine lv_ldc hx hb hown hw1 dX5_setPart_16 ?_
    rcases Bool.eq_false_or_eq_true (pg_in x 0 10000000) with c_18 | c_18
    · refine pg_iE (pg_rS (As := [.int x, .int 0, .int 10000000]) (rest := [.ref (a 0)]) ⟨hx, hb, hml, hown, hts⟩ (cm_in_t l D (pg_ty cI cZ) (pg_wM cI cZ a u) H.size x 0 10000000 c_18) (va_cwS 3 hts gX5_setPart_X5_in rfl rfl rfl (by decide +kernel) ⟨Nat.le_of_ble_eq_true rfl, Nat.le_of_ble_eq_true rfl⟩) hK hP hD rfl hl.1 rfl (Nat.le_of_ble_eq_true rfl) dX5_setPart_18 ⟨Nat.le_of_ble_eq_true rfl, Nat.le_of_ble_eq_true rfl⟩) hD hS hA (fun H locs hP hD hS => ?_)
      refine lv_if_eq (tgt := 35) hx hb dX5_setPart_21 (by decide) (fun c_21 => absurd c_21 (by decide)) (fun c_21 => ?_)
      refine lv_iload_n hx hb dX5_setPart_24 rfl (lv_at hl 3 rfl) ?_
      refine lv_iconst (v := 1) hx hb dX5_setPart_25 (by decide) ?_
      refine lv_sipush (v := 2000) hx hb dX5_setPart_26 (by decide) ?_
      rcases Bool.eq_false_or_eq_true (pg_in d 1 2000) with c_29 | c_29
      · refine pg_iE (pg_rS (As := [.int d, .int 1, .int 2000]) (rest := [.ref (a 0)]) ⟨hx, hb, hml, hown, hts⟩ (cm_in_t l D (pg_ty cI cZ) (pg_wM cI cZ a u) H.size d 1 2000 c_29) (va_cwS 3 hts gX5_setPart_X5_in rfl rfl rfl (by decide +kernel) ⟨Nat.le_of_ble_eq_true rfl, Nat.le_of_ble_eq_true rfl⟩) hK hP hD rfl hl.1 rfl (Nat.le_of_ble_eq_true rfl) dX5_setPart_29 ⟨Nat.le_of_ble_eq_true rfl, Nat.le_of_ble_eq_true rfl⟩) hD hS hA (fun H locs hP hD hS => ?_)
        refine lv_if_ne (tgt := 39) hx hb dX5_setPart_32 (by decide) (fun c_32 => ?_) (fun c_32 => absurd c_32 (by decide))
        refine lv_aload_n hx hb dX5_setPart_39 rfl (lv_at hl 0 rfl) ?_
        refine va_get (D := D) (ci := 5) (v := .int (u.1 14)) (C := RX5) (T := TX5) (N := 31) hx hb hts hiX5 hown hK hP 0 rfl rfl 13 (by decide) hw2 (fun _ h9 => h9) rfl dX5_setPart_40 ?_
        refine lv_if_eq (tgt := 50) hx hb dX5_setPart_43 (by decide) (fun c_43 => ?_) (fun c_43 => ?_)
        · have d_43 := pg_eq_t c_43
          refine lv_iconst (v := 0) hx hb dX5_setPart_50 (by decide) ?_
          exact absurd (hthr.symm.trans (by simp only [pg_t_setPart, d_4, hcl, c_18, c_29, d_43, cond_true, cond_false, Bool.not_true, Bool.not_false])) h0
        · have d_43 := pg_eq_f c_43
          refine lv_iconst (v := 3) hx hb dX5_setPart_46 (by decide) ?_
          refine lv_goto (tgt := 51) hx hb dX5_setPart_47 (by decide) ?_
          have he : e9 = 3 := hthr.symm.trans (by simp only [pg_t_setPart, d_4, hcl, c_18, c_29, d_43, cond_true, cond_false, Bool.not_true, Bool.not_false])
          refine pg_iE (pg_rV (As := [.int 3]) (rest := []) ⟨hx, hb, hml, hown, hts⟩ (cm_fine1 l D cI cZ a H.size u 3 (by decide)) (cwV 1 hts gX5_setPart_X5_isFine rfl rfl rfl (by decide +kernel) ⟨Nat.le_of_ble_eq_true rfl, Nat.le_of_ble_eq_true rfl⟩) hK hP hD 0 (ci := 5) rfl rfl rfl rfl hl.1 rfl (Nat.le_of_ble_eq_true rfl) dX5_setPart_51 ⟨Nat.le_of_ble_eq_true rfl, Nat.le_of_ble_eq_true rfl⟩) hD hS hA (fun H locs hP hD hS => ?_)
          refine lv_if_eq (tgt := 71) hx hb dX5_setPart_54 (by decide) (fun c_54 => ?_) (fun c_54 => absurd (by decide) c_54)
          exact W.vret hx hb hr (fun t9 ht9 hW9 => ⟨⟨((upd u.1 15 3), u.2), rfl, (by rw [he]), by rw [ht9]; exact hP, va_K.moved hW9.alike hK, hD⟩, hS.F ht9⟩) hS.2.2 dX5_setPart_71
      · refine pg_iE (pg_rS (As := [.int d, .int 1, .int 2000]) (rest := [.ref (a 0)]) ⟨hx, hb, hml, hown, hts⟩ (cm_in_f l D (pg_ty cI cZ) (pg_wM cI cZ a u) H.size d 1 2000 c_29) (va_cwS 3 hts gX5_setPart_X5_in rfl rfl rfl (by decide +kernel) ⟨Nat.le_of_ble_eq_true rfl, Nat.le_of_ble_eq_true rfl⟩) hK hP hD rfl hl.1 rfl (Nat.le_of_ble_eq_true rfl) dX5_setPart_29 ⟨Nat.le_of_ble_eq_true rfl, Nat.le_of_ble_eq_true rfl⟩) hD hS hA (fun H locs hP hD hS => ?_)
        refine lv_if_ne (tgt := 39) hx hb dX5_setPart_32 (by decide) (fun c_32 => absurd (by decide) c_32) (fun c_32 => ?_)
        refine lv_iconst (v := 2) hx hb dX5_setPart_35 (by decide) ?_
        refine lv_goto (tgt := 51) hx hb dX5_setPart_36 (by decide) ?_
        have he : e9 = 2 := hthr.symm.trans (by simp only [pg_t_setPart, d_4, hcl, c_18, c_29, cond_true, cond_false, Bool.not_true, Bool.not_false])
        refine pg_iE (pg_rV (As := [.int 2]) (rest := []) ⟨hx, hb, hml, hown, hts⟩ (cm_fine1 l D cI cZ a H.size u 2 (by decide)) (cwV 1 hts gX5_setPart_X5_isFine rfl rfl rfl (by decide +kernel) ⟨Nat.le_of_ble_eq_true rfl, Nat.le_of_ble_eq_true rfl⟩) hK hP hD 0 (ci := 5) rfl rfl rfl rfl hl.1 rfl (Nat.le_of_ble_eq_true rfl) dX5_setPart_51 ⟨Nat.le_of_ble_eq_true rfl, Nat.le_of_ble_eq_true rfl⟩) hD hS hA (fun H locs hP hD hS => ?_)
        refine lv_if_eq (tgt := 71) hx hb dX5_setPart_54 (by decide) (fun c_54 => ?_) (fun c_54 => absurd (by decide) c_54)
        exact W.vret hx hb hr (fun t9 ht9 hW9 => ⟨⟨((upd u.1 15 2), u.2), rfl, (by rw [he]), by rw [ht9]; exact hP, va_K.moved hW9.alike hK, hD⟩, hS.F ht9⟩) hS.2.2 dX5_setPart_71
    · refine pg_iE (pg_rS (As := [.int x, .int 0, .int 10000000]) (rest := [.ref (a 0)]) ⟨hx, hb, hml, hown, hts⟩ (cm_in_f l D (pg_ty cI cZ) (pg_wM cI cZ a u) H.size x 0 10000000 c_18) (va_cwS 3 hts gX5_setPart_X5_in rfl rfl rfl (by decide +kernel) ⟨Nat.le_of_ble_eq_true rfl, Nat.le_of_ble_eq_true rfl⟩) hK hP hD rfl hl.1 rfl (Nat.le_of_ble_eq_true rfl) dX5_setPart_18 ⟨Nat.le_of_ble_eq_true rfl, Nat.le_of_ble_eq_true rfl⟩) hD hS hA (fun H locs hP hD hS => ?_)
      refine lv_if_eq (tgt := 35) hx hb dX5_setPart_21 (by decide) (fun c_21 => ?_) (fun c_21 => absurd (by decide) c_21)
      refine lv_iconst (v := 2) hx hb dX5_setPart_35 (by decide) ?_
      refine lv_goto (tgt := 51) hx hb dX5_setPart_36 (by decide) ?_
      have he : e9 = 2 := hthr.symm.trans (by simp only [pg_t_setPart, d_4, hcl, c_18, cond_true, cond_false, Bool.not_true, Bool.not_false])
      refine pg_iE (pg_rV (As := [.int 2]) (rest := []) ⟨hx, hb, hml, hown, hts⟩ (cm_fine1 l D cI cZ a H.size u 2 (by decide)) (cwV 1 hts gX5_setPart_X5_isFine rfl rfl rfl (by decide +kernel) ⟨Nat.le_of_ble_eq_true rfl, Nat.le_of_ble_eq_true rfl⟩) hK hP hD 0 (ci := 5) rfl rfl rfl rfl hl.1 rfl (Nat.le_of_ble_eq_true rfl) dX5_setPart_51 ⟨Nat.le_of_ble_eq_true rfl, Nat.le_of_ble_eq_true rfl⟩) hD hS hA (fun H locs hP hD hS => ?_)
      refine lv_if_eq (tgt := 71) hx hb dX5_setPart_54 (by decide) (fun c_54 => ?_) (fun c_54 => absurd (by decide) c_54)
      exact W.vret hx hb hr (fun t9 ht9 hW9 => ⟨⟨((upd u.1 15 2), u.2), rfl, (by rw [he]), by rw [ht9]; exact hP, va_K.moved hW9.alike hK, hD⟩, hS.F ht9⟩) hS.2.2 dX5_setPart_71
  · have d_4 : pg_nb k 4 = false := (pg_nb4 k).trans c_4
    refine pg_iE (pg_rS (As := [.int k, .int 0, .int 3]) (rest := [.ref (a 0)]) ⟨hx, hb, hml, hown, hts⟩ (cm_in_f l D (pg_ty cI cZ) (pg_wM cI cZ a u) s.heap.size k 0 3 c_4) (va_cwS 3 hts gX5_setPart_X5_in rfl rfl rfl (by decide +kernel) ⟨Nat.le_of_ble_eq_true rfl, Nat.le_of_ble_eq_true rfl⟩) hK hP hD rfl hl.1 rfl (Nat.le_of_ble_eq_true rfl) dX5_setPart_4 ⟨Nat.le_of_ble_eq_true rfl, Nat.le_of_ble_eq_true rfl⟩) hD hS hA (fun H locs hP hD hS => ?_)
    refine lv_if_ne (tgt := 14) hx hb dX5_setPart_7 (by decide) (fun c_7 => absurd (by decide) c_7) (fun c_7 => ?_)
    refine lv_iconst (v := 1) hx hb dX5_setPart_10 (by decide) ?_
    refine lv_goto (tgt := 51) hx hb dX5_setPart_11 (by decide) ?_
    have he : e9 = 1 := hthr.symm.trans (by simp only [pg_t_setPart, d_4, cond_true, cond_false, Bool.not_true, Bool.not_false])
    refine pg_iE (pg_rV (As := [.int 1]) (rest := []) ⟨hx, hb, hml, hown, hts⟩ (cm_fine1 l D cI cZ a H.size u 1 (by decide)) (cwV 1 hts gX5_setPart_X5_isFine rfl rfl rfl (by decide +kernel) ⟨Nat.le_of_ble_eq_true rfl, Nat.le_of_ble_eq_true rfl⟩) hK hP hD 0 (ci := 5) rfl rfl rfl rfl hl.1 rfl (Nat.le_of_ble_eq_true rfl) dX5_setPart_51 ⟨Nat.le_of_ble_eq_true rfl, Nat.le_of_ble_eq_true rfl⟩) hD hS hA (fun H locs hP hD hS => ?_)
    refine lv_if_eq (tgt := 71) hx hb dX5_setPart_54 (by decide) (fun c_54 => ?_) (fun c_54 => absurd (by decide) c_54)
    exact W.vret hx hb hr (fun t9 ht9 hW9 => ⟨⟨((upd u.1 15 1), u.2), rfl, (by rw [he]), by rw [ht9]; exact hP, va_K.moved hW9.alike hK, hD⟩, hS.F ht9⟩) hS.2.2 dX5_setPart_71
set_option maxHeartbeats 4000000 in
set_option maxRecDepth 100000 in
/-- cm_setKind: fine -/
theorem cm_setKind_ok (l : Launch) (D : va_G) (cI cZ : ClassId) (a : Nat → Nat) (sz : Nat) (u : pg_St) (k x y1 b z d : Int32) (hb9 : vp_nar .boolean b = b) (hthr : pg_t_setKind (!pg_eq (u.1 14) 0) k x y1 z d = 0) : Met l yX5_setKind wsX5_setKind ({ frames := 1, cells := 0, slots := 0, locals := 22 }) (va_Pc [.ref (a 0), .int k, .int x, .int y1, .int b, .int z, .int d] (pg_B D (pg_ty cI cZ) (pg_wM cI cZ a u) sz)) (va_Qv (fun u' => u' = (upd u.1 15 0, pg_row (pg_row (pg_row (pg_row (pg_row u.2 2 (upd (u.2 2) k.toNatClampNeg x)) 3 (upd (u.2 3) k.toNatClampNeg y1)) 4 (upd (u.2 4) k.toNatClampNeg b)) 5 (upd (u.2 5) k.toNatClampNeg z)) 6 (upd (u.2 6) k.toNatClampNeg d))) (pg_E D (pg_ty cI cZ) (va_A (pg_wM cI cZ a u) sz) (pg_wM cI cZ a)) (va_A (pg_wM cI cZ a u) sz)) 0 0 (va_A (pg_wM cI cZ a u) sz) := by
  refine Met.ofW (cc := cX5_setKind) (maxL := 8) (ret := none) (by decide) rfl ?_
  intro p e s m args below meth c s₁ B hml hv
  obtain ⟨rfl, hsz, hP, hK, hD0⟩ := hv
  have hx := B.exec
  have hb := B.bytes
  have hr := B.returns
  have hts := atoms_spec (ws := wsX5_setKind) B.pre
  have hown : s.vm.findClass RX5 = some m.cls := findClass_of_methodNamed B.named
  have hlocks := B.notSynchronized
  subst hsz
  have hD := hD0.self (sz := s.heap.size)
  generalize hAe : va_A (pg_wM cI cZ a u) s.heap.size = A at hD ⊢
  have hA : ∀ q : Nat, s.heap.size ≤ q → A q := fun q h => by rw [← hAe]; exact Or.inr h
  have hS : va_S A s.heap s.heap [] := va_S.rf
  have hl := lv_entry ([.ref (a 0), .int k, .int x, .int y1, .int b, .int z, .int d]) (n := 8) (Nat.le_of_ble_eq_true rfl)
  rw [lg_entry_eq]
  generalize (lg_sl ([.ref (a 0), .int k, .int x, .int y1, .int b, .int z, .int d]) ++ List.replicate (8 - (lg_sl ([.ref (a 0), .int k, .int x, .int y1, .int b, .int z, .int d])).length) Slot.unset).toArray = ls at hl ⊢
  have hl : lv_has ls 8 [(0, .ref (a 0)), (1, .int k), (2, .int x), (3, .int y1), (4, .int b), (5, .int z), (6, .int d)] := hl
  have hiX5 : ∀ w ∈ wsX50, w ∈ wsX5_setKind := fun _ h => List.mem_cons_of_mem _ (List.mem_append_right _ (h))
  have hw1 := hts (.constant RX5 60 (10000000)) (List.mem_of_getElem? (i := 1) rfl)
  have hw2 := hts (.constant RX5 83 (100000000)) (List.mem_of_getElem? (i := 2) rfl)
  have hw3 := hts (.fieldLink RX5 66 "PegBoxModel" "closed" "Z") (List.mem_of_getElem? (i := 3) rfl)
  have hw4 := hts (.fieldLink RX5 16 "PegBoxModel" "least" "[I") (List.mem_of_getElem? (i := 4) rfl)
  have hw5 := hts (.fieldLink RX5 19 "PegBoxModel" "basket" "[I") (List.mem_of_getElem? (i := 5) rfl)
  have hw6 := hts (.fieldLink RX5 22 "PegBoxModel" "whole" "[Z") (List.mem_of_getElem? (i := 6) rfl)
  have hw7 := hts (.fieldLink RX5 26 "PegBoxModel" "cap" "[I") (List.mem_of_getElem? (i := 7) rfl)
  have hw8 := hts (.fieldLink RX5 29 "PegBoxModel" "lastDay" "[I") (List.mem_of_getElem? (i := 8) rfl)
  refine lv_iload_n hx hb dX5_setKind_0 rfl (lv_at hl 2 rfl) ?_
  refine lv_iconst (v := 0) hx hb dX5_setKind_1 (by decide) ?_
  refine lv_ldc hx hb hown hw1 dX5_setKind_2 ?_
  rcases Bool.eq_false_or_eq_true (pg_in x 0 10000000) with c_4 | c_4
  · refine pg_iE (pg_rS (As := [.int x, .int 0, .int 10000000]) (rest := []) ⟨hx, hb, hml, hown, hts⟩ (cm_in_t l D (pg_ty cI cZ) (pg_wM cI cZ a u) s.heap.size x 0 10000000 c_4) (va_cwS 3 hts gX5_setKind_X5_in rfl rfl rfl (by decide +kernel) ⟨Nat.le_of_ble_eq_true rfl, Nat.le_of_ble_eq_true rfl⟩) hK hP hD rfl hl.1 rfl (Nat.le_of_ble_eq_true rfl) dX5_setKind_4 ⟨Nat.le_of_ble_eq_true rfl, Nat.le_of_ble_eq_true rfl⟩) hD hS hA (fun H locs hP hD hS => ?_)
    refine lv_if_eq (tgt := 47) hx hb dX5_setKind_7 (by decide) (fun c_7 => absurd c_7 (by decide)) (fun c_7 => ?_)
    refine lv_iload_n hx hb dX5_setKind_10 rfl (lv_at hl 3 rfl) ?_
    refine lv_iconst (v := 0) hx hb dX5_setKind_11 (by decide) ?_
    refine lv_ldc hx hb hown hw1 dX5_setKind_12 ?_
    rcases Bool.eq_false_or_eq_true (pg_in y1 0 10000000) with c_14 | c_14
    · refine pg_iE (pg_rS (As := [.int y1, .int 0, .int 10000000]) (rest := []) ⟨hx, hb, hml, hown, hts⟩ (cm_in_t l D (pg_ty cI cZ) (pg_wM cI cZ a u) H.size y1 0 10000000 c_14) (va_cwS 3 hts gX5_setKind_X5_in rfl rfl rfl (by decide +kernel) ⟨Nat.le_of_ble_eq_true rfl, Nat.le_of_ble_eq_true rfl⟩) hK hP hD rfl hl.1 rfl (Nat.le_of_ble_eq_true rfl) dX5_setKind_14 ⟨Nat.le_of_ble_eq_true rfl, Nat.le_of_ble_eq_true rfl⟩) hD hS hA (fun H locs hP hD hS => ?_)
      refine lv_if_eq (tgt := 47) hx hb dX5_setKind_17 (by decide) (fun c_17 => absurd c_17 (by decide)) (fun c_17 => ?_)
      refine lv_iload hx hb dX5_setKind_20 (lv_at hl 5 rfl) ?_
      refine lv_iconst (v := 0) hx hb dX5_setKind_22 (by decide) ?_
      refine lv_ldc hx hb hown hw2 dX5_setKind_23 ?_
      rcases Bool.eq_false_or_eq_true (pg_in z 0 100000000) with c_25 | c_25
      · refine pg_iE (pg_rS (As := [.int z, .int 0, .int 100000000]) (rest := []) ⟨hx, hb, hml, hown, hts⟩ (cm_in_t l D (pg_ty cI cZ) (pg_wM cI cZ a u) H.size z 0 100000000 c_25) (va_cwS 3 hts gX5_setKind_X5_in rfl rfl rfl (by decide +kernel) ⟨Nat.le_of_ble_eq_true rfl, Nat.le_of_ble_eq_true rfl⟩) hK hP hD rfl hl.1 rfl (Nat.le_of_ble_eq_true rfl) dX5_setKind_25 ⟨Nat.le_of_ble_eq_true rfl, Nat.le_of_ble_eq_true rfl⟩) hD hS hA (fun H locs hP hD hS => ?_)
        refine lv_if_eq (tgt := 47) hx hb dX5_setKind_28 (by decide) (fun c_28 => absurd c_28 (by decide)) (fun c_28 => ?_)
        refine lv_iload hx hb dX5_setKind_31 (lv_at hl 6 rfl) ?_
        refine lv_iconst (v := 0) hx hb dX5_setKind_33 (by decide) ?_
        refine lv_sipush (v := 2000) hx hb dX5_setKind_34 (by decide) ?_
        rcases Bool.eq_false_or_eq_true (pg_in d 0 2000) with c_37 | c_37
        · refine pg_iE (pg_rS (As := [.int d, .int 0, .int 2000]) (rest := []) ⟨hx, hb, hml, hown, hts⟩ (cm_in_t l D (pg_ty cI cZ) (pg_wM cI cZ a u) H.size d 0 2000 c_37) (va_cwS 3 hts gX5_setKind_X5_in rfl rfl rfl (by decide +kernel) ⟨Nat.le_of_ble_eq_true rfl, Nat.le_of_ble_eq_true rfl⟩) hK hP hD rfl hl.1 rfl (Nat.le_of_ble_eq_true rfl) dX5_setKind_37 ⟨Nat.le_of_ble_eq_true rfl, Nat.le_of_ble_eq_true rfl⟩) hD hS hA (fun H locs hP hD hS => ?_)
          refine lv_if_eq (tgt := 47) hx hb dX5_setKind_40 (by decide) (fun c_40 => absurd c_40 (by decide)) (fun c_40 => ?_)
          refine lv_iconst (v := 1) hx hb dX5_setKind_43 (by decide) ?_
          refine lv_goto (tgt := 48) hx hb dX5_setKind_44 (by decide) ?_
          refine lv_istore (lv' := [(7, .int 1), (0, .ref (a 0)), (1, .int k), (2, .int x), (3, .int y1), (4, .int b), (5, .int z), (6, .int d)]) hx hb dX5_setKind_48 hl (by decide) rfl (fun ls hl => ?_)
          refine lv_aload_n hx hb dX5_setKind_50 rfl (lv_at hl 1 rfl) ?_
          refine lv_iload_n hx hb dX5_setKind_51 rfl (lv_at hl 2 rfl) ?_
          refine lv_iconst (v := 0) hx hb dX5_setKind_52 (by decide) ?_
          refine lv_iconst (v := 2) hx hb dX5_setKind_53 (by decide) ?_
          rcases Bool.eq_false_or_eq_true (pg_in k 0 2) with c_54 | c_54
          · have d_54 : pg_nb k 3 = true := (pg_nb3 k).trans c_54
            refine pg_iE (pg_rS (As := [.int k, .int 0, .int 2]) (rest := [.ref (a 0)]) ⟨hx, hb, hml, hown, hts⟩ (cm_in_t l D (pg_ty cI cZ) (pg_wM cI cZ a u) H.size k 0 2 c_54) (va_cwS 3 hts gX5_setKind_X5_in rfl rfl rfl (by decide +kernel) ⟨Nat.le_of_ble_eq_true rfl, Nat.le_of_ble_eq_true rfl⟩) hK hP hD rfl hl.1 rfl (Nat.le_of_ble_eq_true rfl) dX5_setKind_54 ⟨Nat.le_of_ble_eq_true rfl, Nat.le_of_ble_eq_true rfl⟩) hD hS hA (fun H locs hP hD hS => ?_)
            obtain ⟨j, hj, rfl⟩ := pg_nb_nI (n := 3) (by omega) d_54
            have hcl : (nI j).toNatClampNeg = j := nI_clamp (by omega)
            refine lv_if_ne (tgt := 64) hx hb dX5_setKind_57 (by decide) (fun c_57 => ?_) (fun c_57 => absurd c_57 (by decide))
            refine lv_iload hx hb dX5_setKind_64 (lv_at hl 0 rfl) ?_
            refine lv_if_ne (tgt := 73) hx hb dX5_setKind_66 (by decide) (fun c_66 => ?_) (fun c_66 => absurd c_66 (by decide))
            refine lv_aload_n hx hb dX5_setKind_73 rfl (lv_at hl 1 rfl) ?_
            refine va_get (D := D) (ci := 5) (v := .int (u.1 14)) (C := RX5) (T := TX5) (N := 31) hx hb hts hiX5 hown hK hP 0 rfl rfl 13 (by decide) hw3 (fun _ h9 => h9) rfl dX5_setKind_74 ?_
            refine lv_if_eq (tgt := 84) hx hb dX5_setKind_77 (by decide) (fun c_77 => ?_) (fun c_77 => ?_)
            · have d_77 := pg_eq_t c_77
              refine lv_iconst (v := 0) hx hb dX5_setKind_84 (by decide) ?_
              refine pg_iE (pg_rV (As := [.int 0]) (rest := []) ⟨hx, hb, hml, hown, hts⟩ (cm_fine0 l D cI cZ a H.size u) (cwV 1 hts gX5_setKind_X5_isFine rfl rfl rfl (by decide +kernel) ⟨Nat.le_of_ble_eq_true rfl, Nat.le_of_ble_eq_true rfl⟩) hK hP hD 0 (ci := 5) rfl rfl rfl rfl hl.1 rfl (Nat.le_of_ble_eq_true rfl) dX5_setKind_85 ⟨Nat.le_of_ble_eq_true rfl, Nat.le_of_ble_eq_true rfl⟩) hD hS hA (fun H locs hP hD hS => ?_)
              refine lv_if_eq (tgt := 129) hx hb dX5_setKind_88 (by decide) (fun c_88 => absurd c_88 (by decide)) (fun c_88 => ?_)
              refine lv_aload_n hx hb dX5_setKind_91 rfl (lv_at hl 1 rfl) ?_
              refine va_get (D := D) (ci := 5) (v := .ref (a 3)) (C := RX5) (T := TX5) (N := 31) hx hb hts hiX5 hown hK hP 0 rfl rfl 5 (by decide) hw4 (fun _ h9 => h9) rfl dX5_setKind_92 ?_
              refine lv_iload_n hx hb dX5_setKind_95 rfl (lv_at hl 2 rfl) ?_
              refine lv_iload_n hx hb dX5_setKind_96 rfl (lv_at hl 3 rfl) ?_
              refine pg_ist hx hb hK hP hD hS 3 0 rfl rfl (show j < _ by omega) (by decide) dX5_setKind_97 (fun H locs hP hD hS => ?_)
              have hP : va_P D vwCl (pg_wM cI cZ a ((upd u.1 15 0), (pg_row u.2 2 (upd (u.2 2) j x)))) H := hP
              have hD : va_D A (pg_wM cI cZ a ((upd u.1 15 0), (pg_row u.2 2 (upd (u.2 2) j x)))) := hD
              refine lv_aload_n hx hb dX5_setKind_98 rfl (lv_at hl 1 rfl) ?_
              refine va_get (D := D) (ci := 5) (v := .ref (a 4)) (C := RX5) (T := TX5) (N := 31) hx hb hts hiX5 hown hK hP 0 rfl rfl 6 (by decide) hw5 (fun _ h9 => h9) rfl dX5_setKind_99 ?_
              refine lv_iload_n hx hb dX5_setKind_102 rfl (lv_at hl 2 rfl) ?_
              refine lv_iload_n hx hb dX5_setKind_103 rfl (lv_at hl 4 rfl) ?_
              refine pg_ist hx hb hK hP hD hS 4 0 rfl rfl (show j < _ by omega) (by decide) dX5_setKind_104 (fun H locs hP hD hS => ?_)
              have hP : va_P D vwCl (pg_wM cI cZ a ((upd u.1 15 0), (pg_row (pg_row u.2 2 (upd (u.2 2) j x)) 3 (upd (u.2 3) j y1)))) H := hP
              have hD : va_D A (pg_wM cI cZ a ((upd u.1 15 0), (pg_row (pg_row u.2 2 (upd (u.2 2) j x)) 3 (upd (u.2 3) j y1)))) := hD
              refine lv_aload_n hx hb dX5_setKind_105 rfl (lv_at hl 1 rfl) ?_
              refine va_get (D := D) (ci := 5) (v := .ref (a 5)) (C := RX5) (T := TX5) (N := 31) hx hb hts hiX5 hown hK hP 0 rfl rfl 7 (by decide) hw6 (fun _ h9 => h9) rfl dX5_setKind_106 ?_
              refine lv_iload_n hx hb dX5_setKind_109 rfl (lv_at hl 2 rfl) ?_
              refine lv_iload hx hb dX5_setKind_110 (lv_at hl 5 rfl) ?_
              refine pg_zst hx hb hK hP hD hS 5 1 rfl rfl (show j < _ by omega) (by decide) hb9 dX5_setKind_112 (fun H locs hP hD hS => ?_)
              have hP : va_P D vwCl (pg_wM cI cZ a ((upd u.1 15 0), (pg_row (pg_row (pg_row u.2 2 (upd (u.2 2) j x)) 3 (upd (u.2 3) j y1)) 4 (upd (u.2 4) j b)))) H := hP
              have hD : va_D A (pg_wM cI cZ a ((upd u.1 15 0), (pg_row (pg_row (pg_row u.2 2 (upd (u.2 2) j x)) 3 (upd (u.2 3) j y1)) 4 (upd (u.2 4) j b)))) := hD
              refine lv_aload_n hx hb dX5_setKind_113 rfl (lv_at hl 1 rfl) ?_
              refine va_get (D := D) (ci := 5) (v := .ref (a 6)) (C := RX5) (T := TX5) (N := 31) hx hb hts hiX5 hown hK hP 0 rfl rfl 8 (by decide) hw7 (fun _ h9 => h9) rfl dX5_setKind_114 ?_
              refine lv_iload_n hx hb dX5_setKind_117 rfl (lv_at hl 2 rfl) ?_
              refine lv_iload hx hb dX5_setKind_118 (lv_at hl 6 rfl) ?_
              refine pg_ist hx hb hK hP hD hS 6 0 rfl rfl (show j < _ by omega) (by decide) dX5_setKind_120 (fun H locs hP hD hS => ?_)
              have hP : va_P D vwCl (pg_wM cI cZ a ((upd u.1 15 0), (pg_row (pg_row (pg_row (pg_row u.2 2 (upd (u.2 2) j x)) 3 (upd (u.2 3) j y1)) 4 (upd (u.2 4) j b)) 5 (upd (u.2 5) j z)))) H := hP
              have hD : va_D A (pg_wM cI cZ a ((upd u.1 15 0), (pg_row (pg_row (pg_row (pg_row u.2 2 (upd (u.2 2) j x)) 3 (upd (u.2 3) j y1)) 4 (upd (u.2 4) j b)) 5 (upd (u.2 5) j z)))) := hD
              refine lv_aload_n hx hb dX5_setKind_121 rfl (lv_at hl 1 rfl) ?_
              refine va_get (D := D) (ci := 5) (v := .ref (a 7)) (C := RX5) (T := TX5) (N := 31) hx hb hts hiX5 hown hK hP 0 rfl rfl 9 (by decide) hw8 (fun _ h9 => h9) rfl dX5_setKind_122 ?_
              refine lv_iload_n hx hb dX5_setKind_125 rfl (lv_at hl 2 rfl) ?_
              refine lv_iload hx hb dX5_setKind_126 (lv_at hl 7 rfl) ?_
              refine pg_ist hx hb hK hP hD hS 7 0 rfl rfl (show j < _ by omega) (by decide) dX5_setKind_128 (fun H locs hP hD hS => ?_)
              have hP : va_P D vwCl (pg_wM cI cZ a ((upd u.1 15 0), (pg_row (pg_row (pg_row (pg_row (pg_row u.2 2 (upd (u.2 2) j x)) 3 (upd (u.2 3) j y1)) 4 (upd (u.2 4) j b)) 5 (upd (u.2 5) j z)) 6 (upd (u.2 6) j d)))) H := hP
              have hD : va_D A (pg_wM cI cZ a ((upd u.1 15 0), (pg_row (pg_row (pg_row (pg_row (pg_row u.2 2 (upd (u.2 2) j x)) 3 (upd (u.2 3) j y1)) 4 (upd (u.2 4) j b)) 5 (upd (u.2 5) j z)) 6 (upd (u.2 6) j d)))) := hD
              exact W.vret hx hb hr (fun t9 ht9 hW9 => ⟨⟨((upd u.1 15 0), (pg_row (pg_row (pg_row (pg_row (pg_row u.2 2 (upd (u.2 2) j x)) 3 (upd (u.2 3) j y1)) 4 (upd (u.2 4) j b)) 5 (upd (u.2 5) j z)) 6 (upd (u.2 6) j d))), rfl, (by rw [hcl]), by rw [ht9]; exact hP, va_K.moved hW9.alike hK, hD⟩, hS.F ht9⟩) hS.2.2 dX5_setKind_129
            · have d_77 := pg_eq_f c_77
              refine lv_iconst (v := 3) hx hb dX5_setKind_80 (by decide) ?_
              refine lv_goto (tgt := 85) hx hb dX5_setKind_81 (by decide) ?_
              exact absurd hthr (by first | (simp only [pg_t_setKind, c_4, c_14, c_25, c_37, d_54, hcl, d_77, cond_true, cond_false, Bool.not_true, Bool.not_false]; done) | (simp only [pg_t_setKind, c_4, c_14, c_25, c_37, d_54, hcl, d_77, cond_true, cond_false, Bool.not_true, Bool.not_false]; decide))
          · have d_54 : pg_nb k 3 = false := (pg_nb3 k).trans c_54
            refine pg_iE (pg_rS (As := [.int k, .int 0, .int 2]) (rest := [.ref (a 0)]) ⟨hx, hb, hml, hown, hts⟩ (cm_in_f l D (pg_ty cI cZ) (pg_wM cI cZ a u) H.size k 0 2 c_54) (va_cwS 3 hts gX5_setKind_X5_in rfl rfl rfl (by decide +kernel) ⟨Nat.le_of_ble_eq_true rfl, Nat.le_of_ble_eq_true rfl⟩) hK hP hD rfl hl.1 rfl (Nat.le_of_ble_eq_true rfl) dX5_setKind_54 ⟨Nat.le_of_ble_eq_true rfl, Nat.le_of_ble_eq_true rfl⟩) hD hS hA (fun H locs hP hD hS => ?_)
            refine lv_if_ne (tgt := 64) hx hb dX5_setKind_57 (by decide) (fun c_57 => absurd (by decide) c_57) (fun c_57 => ?_)
            refine lv_iconst (v := 1) hx hb dX5_setKind_60 (by decide) ?_
            refine lv_goto (tgt := 85) hx hb dX5_setKind_61 (by decide) ?_
            exact absurd hthr (by first | (simp only [pg_t_setKind, c_4, c_14, c_25, c_37, d_54, cond_true, cond_false, Bool.not_true, Bool.not_false]; done) | (simp only [pg_t_setKind, c_4, c_14, c_25, c_37, d_54, cond_true, cond_false, Bool.not_true, Bool.not_false]; decide))
        · refine pg_iE (pg_rS (As := [.int d, .int 0, .int 2000]) (rest := []) ⟨hx, hb, hml, hown, hts⟩ (cm_in_f l D (pg_ty cI cZ) (pg_wM cI cZ a u) H.size d 0 2000 c_37) (va_cwS 3 hts gX5_setKind_X5_in rfl rfl rfl (by decide +kernel) ⟨Nat.le_of_ble_eq_true rfl, Nat.le_of_ble_eq_true rfl⟩) hK hP hD rfl hl.1 rfl (Nat.le_of_ble_eq_true rfl) dX5_setKind_37 ⟨Nat.le_of_ble_eq_true rfl, Nat.le_of_ble_eq_true rfl⟩) hD hS hA (fun H locs hP hD hS => ?_)
          refine lv_if_eq (tgt := 47) hx hb dX5_setKind_40 (by decide) (fun c_40 => ?_) (fun c_40 => absurd (by decide) c_40)
          refine lv_iconst (v := 0) hx hb dX5_setKind_47 (by decide) ?_
          refine lv_istore (lv' := [(7, .int 0), (0, .ref (a 0)), (1, .int k), (2, .int x), (3, .int y1), (4, .int b), (5, .int z), (6, .int d)]) hx hb dX5_setKind_48 hl (by decide) rfl (fun ls hl => ?_)
          refine lv_aload_n hx hb dX5_setKind_50 rfl (lv_at hl 1 rfl) ?_
          refine lv_iload_n hx hb dX5_setKind_51 rfl (lv_at hl 2 rfl) ?_
          refine lv_iconst (v := 0) hx hb dX5_setKind_52 (by decide) ?_
          refine lv_iconst (v := 2) hx hb dX5_setKind_53 (by decide) ?_
          rcases Bool.eq_false_or_eq_true (pg_in k 0 2) with c_54 | c_54
          · have d_54 : pg_nb k 3 = true := (pg_nb3 k).trans c_54
            refine pg_iE (pg_rS (As := [.int k, .int 0, .int 2]) (rest := [.ref (a 0)]) ⟨hx, hb, hml, hown, hts⟩ (cm_in_t l D (pg_ty cI cZ) (pg_wM cI cZ a u) H.size k 0 2 c_54) (va_cwS 3 hts gX5_setKind_X5_in rfl rfl rfl (by decide +kernel) ⟨Nat.le_of_ble_eq_true rfl, Nat.le_of_ble_eq_true rfl⟩) hK hP hD rfl hl.1 rfl (Nat.le_of_ble_eq_true rfl) dX5_setKind_54 ⟨Nat.le_of_ble_eq_true rfl, Nat.le_of_ble_eq_true rfl⟩) hD hS hA (fun H locs hP hD hS => ?_)
            obtain ⟨j, hj, rfl⟩ := pg_nb_nI (n := 3) (by omega) d_54
            have hcl : (nI j).toNatClampNeg = j := nI_clamp (by omega)
            refine lv_if_ne (tgt := 64) hx hb dX5_setKind_57 (by decide) (fun c_57 => ?_) (fun c_57 => absurd c_57 (by decide))
            refine lv_iload hx hb dX5_setKind_64 (lv_at hl 0 rfl) ?_
            refine lv_if_ne (tgt := 73) hx hb dX5_setKind_66 (by decide) (fun c_66 => absurd (by decide) c_66) (fun c_66 => ?_)
            refine lv_iconst (v := 2) hx hb dX5_setKind_69 (by decide) ?_
            refine lv_goto (tgt := 85) hx hb dX5_setKind_70 (by decide) ?_
            exact absurd hthr (by first | (simp only [pg_t_setKind, c_4, c_14, c_25, c_37, d_54, hcl, cond_true, cond_false, Bool.not_true, Bool.not_false]; done) | (simp only [pg_t_setKind, c_4, c_14, c_25, c_37, d_54, hcl, cond_true, cond_false, Bool.not_true, Bool.not_false]; decide))
          · have d_54 : pg_nb k 3 = false := (pg_nb3 k).trans c_54
            refine pg_iE (pg_rS (As := [.int k, .int 0, .int 2]) (rest := [.ref (a 0)]) ⟨hx, hb, hml, hown, hts⟩ (cm_in_f l D (pg_ty cI cZ) (pg_wM cI cZ a u) H.size k 0 2 c_54) (va_cwS 3 hts gX5_setKind_X5_in rfl rfl rfl (by decide +kernel) ⟨Nat.le_of_ble_eq_true rfl, Nat.le_of_ble_eq_true rfl⟩) hK hP hD rfl hl.1 rfl (Nat.le_of_ble_eq_true rfl) dX5_setKind_54 ⟨Nat.le_of_ble_eq_true rfl, Nat.le_of_ble_eq_true rfl⟩) hD hS hA (fun H locs hP hD hS => ?_)
            refine lv_if_ne (tgt := 64) hx hb dX5_setKind_57 (by decide) (fun c_57 => absurd (by decide) c_57) (fun c_57 => ?_)
            refine lv_iconst (v := 1) hx hb dX5_setKind_60 (by decide) ?_
            refine lv_goto (tgt := 85) hx hb dX5_setKind_61 (by decide) ?_
            exact absurd hthr (by first | (simp only [pg_t_setKind, c_4, c_14, c_25, c_37, d_54, cond_true, cond_false, Bool.not_true, Bool.not_false]; done) | (simp only [pg_t_setKind, c_4, c_14, c_25, c_37, d_54, cond_true, cond_false, Bool.not_true, Bool.not_false]; decide))
      · refine pg_iE (pg_rS (As := [.int z, .int 0, .int 100000000]) (rest := []) ⟨hx, hb, hml, hown, hts⟩ (cm_in_f l D (pg_ty cI cZ) (pg_wM cI cZ a u) H.size z 0 100000000 c_25) (va_cwS 3 hts gX5_setKind_X5_in rfl rfl rfl (by decide +kernel) ⟨Nat.le_of_ble_eq_true rfl, Nat.le_of_ble_eq_true rfl⟩) hK hP hD rfl hl.1 rfl (Nat.le_of_ble_eq_true rfl) dX5_setKind_25 ⟨Nat.le_of_ble_eq_true rfl, Nat.le_of_ble_eq_true rfl⟩) hD hS hA (fun H locs hP hD hS => ?_)
        refine lv_if_eq (tgt := 47) hx hb dX5_setKind_28 (by decide) (fun c_28 => ?_) (fun c_28 => absurd (by decide) c_28)
        refine lv_iconst (v := 0) hx hb dX5_setKind_47 (by decide) ?_
        refine lv_istore (lv' := [(7, .int 0), (0, .ref (a 0)), (1, .int k), (2, .int x), (3, .int y1), (4, .int b), (5, .int z), (6, .int d)]) hx hb dX5_setKind_48 hl (by decide) rfl (fun ls hl => ?_)
        refine lv_aload_n hx hb dX5_setKind_50 rfl (lv_at hl 1 rfl) ?_
        refine lv_iload_n hx hb dX5_setKind_51 rfl (lv_at hl 2 rfl) ?_
        refine lv_iconst (v := 0) hx hb dX5_setKind_52 (by decide) ?_
        refine lv_iconst (v := 2) hx hb dX5_setKind_53 (by decide) ?_
        rcases Bool.eq_false_or_eq_true (pg_in k 0 2) with c_54 | c_54
        · have d_54 : pg_nb k 3 = true := (pg_nb3 k).trans c_54
          refine pg_iE (pg_rS (As := [.int k, .int 0, .int 2]) (rest := [.ref (a 0)]) ⟨hx, hb, hml, hown, hts⟩ (cm_in_t l D (pg_ty cI cZ) (pg_wM cI cZ a u) H.size k 0 2 c_54) (va_cwS 3 hts gX5_setKind_X5_in rfl rfl rfl (by decide +kernel) ⟨Nat.le_of_ble_eq_true rfl, Nat.le_of_ble_eq_true rfl⟩) hK hP hD rfl hl.1 rfl (Nat.le_of_ble_eq_true rfl) dX5_setKind_54 ⟨Nat.le_of_ble_eq_true rfl, Nat.le_of_ble_eq_true rfl⟩) hD hS hA (fun H locs hP hD hS => ?_)
          obtain ⟨j, hj, rfl⟩ := pg_nb_nI (n := 3) (by omega) d_54
          have hcl : (nI j).toNatClampNeg = j := nI_clamp (by omega)
          refine lv_if_ne (tgt := 64) hx hb dX5_setKind_57 (by decide) (fun c_57 => ?_) (fun c_57 => absurd c_57 (by decide))
          refine lv_iload hx hb dX5_setKind_64 (lv_at hl 0 rfl) ?_
          refine lv_if_ne (tgt := 73) hx hb dX5_setKind_66 (by decide) (fun c_66 => absurd (by decide) c_66) (fun c_66 => ?_)
          refine lv_iconst (v := 2) hx hb dX5_setKind_69 (by decide) ?_
          refine lv_goto (tgt := 85) hx hb dX5_setKind_70 (by decide) ?_
          exact absurd hthr (by first | (simp only [pg_t_setKind, c_4, c_14, c_25, d_54, hcl, cond_true, cond_false, Bool.not_true, Bool.not_false]; done) | (simp only [pg_t_setKind, c_4, c_14, c_25, d_54, hcl, cond_true, cond_false, Bool.not_true, Bool.not_false]; decide))
        · have d_54 : pg_nb k 3 = false := (pg_nb3 k).trans c_54
          refine pg_iE (pg_rS (As := [.int k, .int 0, .int 2]) (rest := [.ref (a 0)]) ⟨hx, hb, hml, hown, hts⟩ (cm_in_f l D (pg_ty cI cZ) (pg_wM cI cZ a u) H.size k 0 2 c_54) (va_cwS 3 hts gX5_setKind_X5_in rfl rfl rfl (by decide +kernel) ⟨Nat.le_of_ble_eq_true rfl, Nat.le_of_ble_eq_true rfl⟩) hK hP hD rfl hl.1 rfl (Nat.le_of_ble_eq_true rfl) dX5_setKind_54 ⟨Nat.le_of_ble_eq_true rfl, Nat.le_of_ble_eq_true rfl⟩) hD hS hA (fun H locs hP hD hS => ?_)
          refine lv_if_ne (tgt := 64) hx hb dX5_setKind_57 (by decide) (fun c_57 => absurd (by decide) c_57) (fun c_57 => ?_)
          refine lv_iconst (v := 1) hx hb dX5_setKind_60 (by decide) ?_
          refine lv_goto (tgt := 85) hx hb dX5_setKind_61 (by decide) ?_
          exact absurd hthr (by first | (simp only [pg_t_setKind, c_4, c_14, c_25, d_54, cond_true, cond_false, Bool.not_true, Bool.not_false]; done) | (simp only [pg_t_setKind, c_4, c_14, c_25, d_54, cond_true, cond_false, Bool.not_true, Bool.not_false]; decide))
    · refine pg_iE (pg_rS (As := [.int y1, .int 0, .int 10000000]) (rest := []) ⟨hx, hb, hml, hown, hts⟩ (cm_in_f l D (pg_ty cI cZ) (pg_wM cI cZ a u) H.size y1 0 10000000 c_14) (va_cwS 3 hts gX5_setKind_X5_in rfl rfl rfl (by decide +kernel) ⟨Nat.le_of_ble_eq_true rfl, Nat.le_of_ble_eq_true rfl⟩) hK hP hD rfl hl.1 rfl (Nat.le_of_ble_eq_true rfl) dX5_setKind_14 ⟨Nat.le_of_ble_eq_true rfl, Nat.le_of_ble_eq_true rfl⟩) hD hS hA (fun H locs hP hD hS => ?_)
      refine lv_if_eq (tgt := 47) hx hb dX5_setKind_17 (by decide) (fun c_17 => ?_) (fun c_17 => absurd (by decide) c_17)
      refine lv_iconst (v := 0) hx hb dX5_setKind_47 (by decide) ?_
      refine lv_istore (lv' := [(7, .int 0), (0, .ref (a 0)), (1, .int k), (2, .int x), (3, .int y1), (4, .int b), (5, .int z), (6, .int d)]) hx hb dX5_setKind_48 hl (by decide) rfl (fun ls hl => ?_)
      refine lv_aload_n hx hb dX5_setKind_50 rfl (lv_at hl 1 rfl) ?_
      refine lv_iload_n hx hb dX5_setKind_51 rfl (lv_at hl 2 rfl) ?_
      refine lv_iconst (v := 0) hx hb dX5_setKind_52 (by decide) ?_
      refine lv_iconst (v := 2) hx hb dX5_setKind_53 (by decide) ?_
      rcases Bool.eq_false_or_eq_true (pg_in k 0 2) with c_54 | c_54
      · have d_54 : pg_nb k 3 = true := (pg_nb3 k).trans c_54
        refine pg_iE (pg_rS (As := [.int k, .int 0, .int 2]) (rest := [.ref (a 0)]) ⟨hx, hb, hml, hown, hts⟩ (cm_in_t l D (pg_ty cI cZ) (pg_wM cI cZ a u) H.size k 0 2 c_54) (va_cwS 3 hts gX5_setKind_X5_in rfl rfl rfl (by decide +kernel) ⟨Nat.le_of_ble_eq_true rfl, Nat.le_of_ble_eq_true rfl⟩) hK hP hD rfl hl.1 rfl (Nat.le_of_ble_eq_true rfl) dX5_setKind_54 ⟨Nat.le_of_ble_eq_true rfl, Nat.le_of_ble_eq_true rfl⟩) hD hS hA (fun H locs hP hD hS => ?_)
        obtain ⟨j, hj, rfl⟩ := pg_nb_nI (n := 3) (by omega) d_54
        have hcl : (nI j).toNatClampNeg = j := nI_clamp (by omega)
        refine lv_if_ne (tgt := 64) hx hb dX5_setKind_57 (by decide) (fun c_57 => ?_) (fun c_57 => absurd c_57 (by decide))
        refine lv_iload hx hb dX5_setKind_64 (lv_at hl 0 rfl) ?_
        refine lv_if_ne (tgt := 73) hx hb dX5_setKind_66 (by decide) (fun c_66 => absurd (by decide) c_66) (fun c_66 => ?_)
        refine lv_iconst (v := 2) hx hb dX5_setKind_69 (by decide) ?_
        refine lv_goto (tgt := 85) hx hb dX5_setKind_70 (by decide) ?_
        exact absurd hthr (by first | (simp only [pg_t_setKind, c_4, c_14, d_54, hcl, cond_true, cond_false, Bool.not_true, Bool.not_false]; done) | (simp only [pg_t_setKind, c_4, c_14, d_54, hcl, cond_true, cond_false, Bool.not_true, Bool.not_false]; decide))
      · have d_54 : pg_nb k 3 = false := (pg_nb3 k).trans c_54
        refine pg_iE (pg_rS (As := [.int k, .int 0, .int 2]) (rest := [.ref (a 0)]) ⟨hx, hb, hml, hown, hts⟩ (cm_in_f l D (pg_ty cI cZ) (pg_wM cI cZ a u) H.size k 0 2 c_54) (va_cwS 3 hts gX5_setKind_X5_in rfl rfl rfl (by decide +kernel) ⟨Nat.le_of_ble_eq_true rfl, Nat.le_of_ble_eq_true rfl⟩) hK hP hD rfl hl.1 rfl (Nat.le_of_ble_eq_true rfl) dX5_setKind_54 ⟨Nat.le_of_ble_eq_true rfl, Nat.le_of_ble_eq_true rfl⟩) hD hS hA (fun H locs hP hD hS => ?_)
        refine lv_if_ne (tgt := 64) hx hb dX5_setKind_57 (by decide) (fun c_57 => absurd (by decide) c_57) (fun c_57 => ?_)
        refine lv_iconst (v := 1) hx hb dX5_setKind_60 (by decide) ?_
        refine lv_goto (tgt := 85) hx hb dX5_setKind_61 (by decide) ?_
        exact absurd hthr (by first | (simp only [pg_t_setKind, c_4, c_14, d_54, cond_true, cond_false, Bool.not_true, Bool.not_false]; done) | (simp only [pg_t_setKind, c_4, c_14, d_54, cond_true, cond_false, Bool.not_true, Bool.not_false]; decide))
  · refine pg_iE (pg_rS (As := [.int x, .int 0, .int 10000000]) (rest := []) ⟨hx, hb, hml, hown, hts⟩ (cm_in_f l D (pg_ty cI cZ) (pg_wM cI cZ a u) s.heap.size x 0 10000000 c_4) (va_cwS 3 hts gX5_setKind_X5_in rfl rfl rfl (by decide +kernel) ⟨Nat.le_of_ble_eq_true rfl, Nat.le_of_ble_eq_true rfl⟩) hK hP hD rfl hl.1 rfl (Nat.le_of_ble_eq_true rfl) dX5_setKind_4 ⟨Nat.le_of_ble_eq_true rfl, Nat.le_of_ble_eq_true rfl⟩) hD hS hA (fun H locs hP hD hS => ?_)
    refine lv_if_eq (tgt := 47) hx hb dX5_setKind_7 (by decide) (fun c_7 => ?_) (fun c_7 => absurd (by decide) c_7)
    refine lv_iconst (v := 0) hx hb dX5_setKind_47 (by decide) ?_
    refine lv_istore (lv' := [(7, .int 0), (0, .ref (a 0)), (1, .int k), (2, .int x), (3, .int y1), (4, .int b), (5, .int z), (6, .int d)]) hx hb dX5_setKind_48 hl (by decide) rfl (fun ls hl => ?_)
    refine lv_aload_n hx hb dX5_setKind_50 rfl (lv_at hl 1 rfl) ?_
    refine lv_iload_n hx hb dX5_setKind_51 rfl (lv_at hl 2 rfl) ?_
    refine lv_iconst (v := 0) hx hb dX5_setKind_52 (by decide) ?_
    refine lv_iconst (v := 2) hx hb dX5_setKind_53 (by decide) ?_
    rcases Bool.eq_false_or_eq_true (pg_in k 0 2) with c_54 | c_54
    · have d_54 : pg_nb k 3 = true := (pg_nb3 k).trans c_54
      refine pg_iE (pg_rS (As := [.int k, .int 0, .int 2]) (rest := [.ref (a 0)]) ⟨hx, hb, hml, hown, hts⟩ (cm_in_t l D (pg_ty cI cZ) (pg_wM cI cZ a u) H.size k 0 2 c_54) (va_cwS 3 hts gX5_setKind_X5_in rfl rfl rfl (by decide +kernel) ⟨Nat.le_of_ble_eq_true rfl, Nat.le_of_ble_eq_true rfl⟩) hK hP hD rfl hl.1 rfl (Nat.le_of_ble_eq_true rfl) dX5_setKind_54 ⟨Nat.le_of_ble_eq_true rfl, Nat.le_of_ble_eq_true rfl⟩) hD hS hA (fun H locs hP hD hS => ?_)
      obtain ⟨j, hj, rfl⟩ := pg_nb_nI (n := 3) (by omega) d_54
      have hcl : (nI j).toNatClampNeg = j := nI_clamp (by omega)
      refine lv_if_ne (tgt := 64) hx hb dX5_setKind_57 (by decide) (fun c_57 => ?_) (fun c_57 => absurd c_57 (by decide))
      refine lv_iload hx hb dX5_setKind_64 (lv_at hl 0 rfl) ?_
      refine lv_if_ne (tgt := 73) hx hb dX5_setKind_66 (by decide) (fun c_66 => absurd (by decide) c_66) (fun c_66 => ?_)
      refine lv_iconst (v := 2) hx hb dX5_setKind_69 (by decide) ?_
      refine lv_goto (tgt := 85) hx hb dX5_setKind_70 (by decide) ?_
      exact absurd hthr (by first | (simp only [pg_t_setKind, c_4, d_54, hcl, cond_true, cond_false, Bool.not_true, Bool.not_false]; done) | (simp only [pg_t_setKind, c_4, d_54, hcl, cond_true, cond_false, Bool.not_true, Bool.not_false]; decide))
    · have d_54 : pg_nb k 3 = false := (pg_nb3 k).trans c_54
      refine pg_iE (pg_rS (As := [.int k, .int 0, .int 2]) (rest := [.ref (a 0)]) ⟨hx, hb, hml, hown, hts⟩ (cm_in_f l D (pg_ty cI cZ) (pg_wM cI cZ a u) H.size k 0 2 c_54) (va_cwS 3 hts gX5_setKind_X5_in rfl rfl rfl (by decide +kernel) ⟨Nat.le_of_ble_eq_true rfl, Nat.le_of_ble_eq_true rfl⟩) hK hP hD rfl hl.1 rfl (Nat.le_of_ble_eq_true rfl) dX5_setKind_54 ⟨Nat.le_of_ble_eq_true rfl, Nat.le_of_ble_eq_true rfl⟩) hD hS hA (fun H locs hP hD hS => ?_)
      refine lv_if_ne (tgt := 64) hx hb dX5_setKind_57 (by decide) (fun c_57 => absurd (by decide) c_57) (fun c_57 => ?_)
      refine lv_iconst (v := 1) hx hb dX5_setKind_60 (by decide) ?_
      refine lv_goto (tgt := 85) hx hb dX5_setKind_61 (by decide) ?_
      exact absurd hthr (by first | (simp only [pg_t_setKind, c_4, d_54, cond_true, cond_false, Bool.not_true, Bool.not_false]; done) | (simp only [pg_t_setKind, c_4, d_54, cond_true, cond_false, Bool.not_true, Bool.not_false]; decide))
set_option maxHeartbeats 4000000 in
set_option maxRecDepth 100000 in
/-- cm_setKind: not fine -/
theorem cm_setKind_no (l : Launch) (D : va_G) (cI cZ : ClassId) (a : Nat → Nat) (sz : Nat) (u : pg_St) (k x y1 b z d : Int32) (hb9 : vp_nar .boolean b = b) (e9 : Int32) (hthr : pg_t_setKind (!pg_eq (u.1 14) 0) k x y1 z d = e9) (h0 : e9 ≠ 0) : Met l yX5_setKind wsX5_setKind ({ frames := 1, cells := 0, slots := 0, locals := 22 }) (va_Pc [.ref (a 0), .int k, .int x, .int y1, .int b, .int z, .int d] (pg_B D (pg_ty cI cZ) (pg_wM cI cZ a u) sz)) (va_Qv (fun u' => u' = (upd u.1 15 e9, u.2)) (pg_E D (pg_ty cI cZ) (va_A (pg_wM cI cZ a u) sz) (pg_wM cI cZ a)) (va_A (pg_wM cI cZ a u) sz)) 0 0 (va_A (pg_wM cI cZ a u) sz) := by
  refine Met.ofW (cc := cX5_setKind) (maxL := 8) (ret := none) (by decide) rfl ?_
  intro p e s m args below meth c s₁ B hml hv
  obtain ⟨rfl, hsz, hP, hK, hD0⟩ := hv
  have hx := B.exec
  have hb := B.bytes
  have hr := B.returns
  have hts := atoms_spec (ws := wsX5_setKind) B.pre
  have hown : s.vm.findClass RX5 = some m.cls := findClass_of_methodNamed B.named
  have hlocks := B.notSynchronized
  subst hsz
  have hD := hD0.self (sz := s.heap.size)
  generalize hAe : va_A (pg_wM cI cZ a u) s.heap.size = A at hD ⊢
  have hA : ∀ q : Nat, s.heap.size ≤ q → A q := fun q h => by rw [← hAe]; exact Or.inr h
  have hS : va_S A s.heap s.heap [] := va_S.rf
  have hl := lv_entry ([.ref (a 0), .int k, .int x, .int y1, .int b, .int z, .int d]) (n := 8) (Nat.le_of_ble_eq_true rfl)
  rw [lg_entry_eq]
  generalize (lg_sl ([.ref (a 0), .int k, .int x, .int y1, .int b, .int z, .int d]) ++ List.replicate (8 - (lg_sl ([.ref (a 0), .int k, .int x, .int y1, .int b, .int z, .int d])).length) Slot.unset).toArray = ls at hl ⊢
  have hl : lv_has ls 8 [(0, .ref (a 0)), (1, .int k), (2, .int x), (3, .int y1), (4, .int b), (5, .int z), (6, .int d)] := hl
  have hiX5 : ∀ w ∈ wsX50, w ∈ wsX5_setKind := fun _ h => List.mem_cons_of_mem _ (List.mem_append_right _ (h))
  have hw1 := hts (.constant RX5 60 (10000000)) (List.mem_of_getElem? (i := 1) rfl)
  have hw2 := hts (.constant RX5 83 (100000000)) (List.mem_of_getElem? (i := 2) rfl)
  have hw3 := hts (.fieldLink RX5 66 "PegBoxModel" "closed" "Z") (List.mem_of_getElem? (i := 3) rfl)
  refine lv_iload_n hx hb dX5_setKind_0 rfl (lv_at hl 2 rfl) ?_
  refine lv_iconst (v := 0) hx hb dX5_setKind_1 (by decide) ?_
  refine lv_ldc hx hb hown hw1 dX5_setKind_2 ?_
  rcases Bool.eq_false_or_eq_true (pg_in x 0 10000000) with c_4 | c_4
  · refine pg_iE (pg_rS (As := [.int x, .int 0, .int 10000000]) (rest := []) ⟨hx, hb, hml, hown, hts⟩ (cm_in_t l D (pg_ty cI cZ) (pg_wM cI cZ a u) s.heap.size x 0 10000000 c_4) (va_cwS 3 hts gX5_setKind_X5_in rfl rfl rfl (by decide +kernel) ⟨Nat.le_of_ble_eq_true rfl, Nat.le_of_ble_eq_true rfl⟩) hK hP hD rfl hl.1 rfl (Nat.le_of_ble_eq_true rfl) dX5_setKind_4 ⟨Nat.le_of_ble_eq_true rfl, Nat.le_of_ble_eq_true rfl⟩) hD hS hA (fun H locs hP hD hS => ?_)
    refine lv_if_eq (tgt := 47) hx hb dX5_setKind_7 (by decide) (fun c_7 => absurd c_7 (by decide)) (fun c_7 => ?_)
    refine lv_iload_n hx hb dX5_setKind_10 rfl (lv_at hl 3 rfl) ?_
    refine lv_iconst (v := 0) hx hb dX5_setKind_11 (by decide) ?_
    refine lv_ldc hx hb hown hw1 dX5_setKind_12 ?_
    rcases Bool.eq_false_or_eq_true (pg_in y1 0 10000000) with c_14 | c_14
    · refine pg_iE (pg_rS (As := [.int y1, .int 0, .int 10000000]) (rest := []) ⟨hx, hb, hml, hown, hts⟩ (cm_in_t l D (pg_ty cI cZ) (pg_wM cI cZ a u) H.size y1 0 10000000 c_14) (va_cwS 3 hts gX5_setKind_X5_in rfl rfl rfl (by decide +kernel) ⟨Nat.le_of_ble_eq_true rfl, Nat.le_of_ble_eq_true rfl⟩) hK hP hD rfl hl.1 rfl (Nat.le_of_ble_eq_true rfl) dX5_setKind_14 ⟨Nat.le_of_ble_eq_true rfl, Nat.le_of_ble_eq_true rfl⟩) hD hS hA (fun H locs hP hD hS => ?_)
      refine lv_if_eq (tgt := 47) hx hb dX5_setKind_17 (by decide) (fun c_17 => absurd c_17 (by decide)) (fun c_17 => ?_)
      refine lv_iload hx hb dX5_setKind_20 (lv_at hl 5 rfl) ?_
      refine lv_iconst (v := 0) hx hb dX5_setKind_22 (by decide) ?_
      refine lv_ldc hx hb hown hw2 dX5_setKind_23 ?_
      rcases Bool.eq_false_or_eq_true (pg_in z 0 100000000) with c_25 | c_25
      · refine pg_iE (pg_rS (As := [.int z, .int 0, .int 100000000]) (rest := []) ⟨hx, hb, hml, hown, hts⟩ (cm_in_t l D (pg_ty cI cZ) (pg_wM cI cZ a u) H.size z 0 100000000 c_25) (va_cwS 3 hts gX5_setKind_X5_in rfl rfl rfl (by decide +kernel) ⟨Nat.le_of_ble_eq_true rfl, Nat.le_of_ble_eq_true rfl⟩) hK hP hD rfl hl.1 rfl (Nat.le_of_ble_eq_true rfl) dX5_setKind_25 ⟨Nat.le_of_ble_eq_true rfl, Nat.le_of_ble_eq_true rfl⟩) hD hS hA (fun H locs hP hD hS => ?_)
        refine lv_if_eq (tgt := 47) hx hb dX5_setKind_28 (by decide) (fun c_28 => absurd c_28 (by decide)) (fun c_28 => ?_)
        refine lv_iload hx hb dX5_setKind_31 (lv_at hl 6 rfl) ?_
        refine lv_iconst (v := 0) hx hb dX5_setKind_33 (by decide) ?_
        refine lv_sipush (v := 2000) hx hb dX5_setKind_34 (by decide) ?_
        rcases Bool.eq_false_or_eq_true (pg_in d 0 2000) with c_37 | c_37
        · refine pg_iE (pg_rS (As := [.int d, .int 0, .int 2000]) (rest := []) ⟨hx, hb, hml, hown, hts⟩ (cm_in_t l D (pg_ty cI cZ) (pg_wM cI cZ a u) H.size d 0 2000 c_37) (va_cwS 3 hts gX5_setKind_X5_in rfl rfl rfl (by decide +kernel) ⟨Nat.le_of_ble_eq_true rfl, Nat.le_of_ble_eq_true rfl⟩) hK hP hD rfl hl.1 rfl (Nat.le_of_ble_eq_true rfl) dX5_setKind_37 ⟨Nat.le_of_ble_eq_true rfl, Nat.le_of_ble_eq_true rfl⟩) hD hS hA (fun H locs hP hD hS => ?_)
          refine lv_if_eq (tgt := 47) hx hb dX5_setKind_40 (by decide) (fun c_40 => absurd c_40 (by decide)) (fun c_40 => ?_)
          refine lv_iconst (v := 1) hx hb dX5_setKind_43 (by decide) ?_
          refine lv_goto (tgt := 48) hx hb dX5_setKind_44 (by decide) ?_
          refine lv_istore (lv' := [(7, .int 1), (0, .ref (a 0)), (1, .int k), (2, .int x), (3, .int y1), (4, .int b), (5, .int z), (6, .int d)]) hx hb dX5_setKind_48 hl (by decide) rfl (fun ls hl => ?_)
          refine lv_aload_n hx hb dX5_setKind_50 rfl (lv_at hl 1 rfl) ?_
          refine lv_iload_n hx hb dX5_setKind_51 rfl (lv_at hl 2 rfl) ?_
          refine lv_iconst (v := 0) hx hb dX5_setKind_52 (by decide) ?_
          refine lv_iconst (v := 2) hx hb dX5_setKind_53 (by decide) ?_
          rcases Bool.eq_false_or_eq_true (pg_in k 0 2) with c_54 | c_54
          · have d_54 : pg_nb k 3 = true := (pg_nb3 k).trans c_54
            refine pg_iE (pg_rS (As := [.int k, .int 0, .int 2]) (rest := [.ref (a 0)]) ⟨hx, hb, hml, hown, hts⟩ (cm_in_t l D (pg_ty cI cZ) (pg_wM cI cZ a u) H.size k 0 2 c_54) (va_cwS 3 hts gX5_setKind_X5_in rfl rfl rfl (by decide +kernel) ⟨Nat.le_of_ble_eq_true rfl, Nat.le_of_ble_eq_true rfl⟩) hK hP hD rfl hl.1 rfl (Nat.le_of_ble_eq_true rfl) dX5_setKind_54 ⟨Nat.le_of_ble_eq_true rfl, Nat.le_of_ble_eq_true rfl⟩) hD hS hA (fun H locs hP hD hS => ?_)
            obtain ⟨j, hj, rfl⟩ := pg_nb_nI (n := 3) (by omega) d_54
            have hcl : (nI j).toNatClampNeg = j := nI_clamp (by omega)
            refine lv_if_ne (tgt := 64) hx hb dX5_setKind_57 (by decide) (fun c_57 => ?_) (fun c_57 => absurd c_57 (by decide))
            refine lv_iload hx hb dX5_setKind_64 (lv_at hl 0 rfl) ?_
            refine lv_if_ne (tgt := 73) hx hb dX5_setKind_66 (by decide) (fun c_66 => ?_) (fun c_66 => absurd c_66 (by decide))
            refine lv_aload_n hx hb dX5_setKind_73 rfl (lv_at hl 1 rfl) ?_
            refine va_get (D := D) (ci := 5) (v := .int (u.1 14)) (C := RX5) (T := TX5) (N := 31) hx hb hts hiX5 hown hK hP 0 rfl rfl 13 (by decide) hw3 (fun _ h9 => h9) rfl dX5_setKind_74 ?_
            refine lv_if_eq (tgt := 84) hx hb dX5_setKind_77 (by decide) (fun c_77 => ?_) (fun c_77 => ?_)
            · have d_77 := pg_eq_t c_77
              refine lv_iconst (v := 0) hx hb dX5_setKind_84 (by decide) ?_
              exact absurd (hthr.symm.trans (by simp only [pg_t_setKind, c_4, c_14, c_25, c_37, d_54, hcl, d_77, cond_true, cond_false, Bool.not_true, Bool.not_false])) h0
            · have d_77 := pg_eq_f c_77
              refine lv_iconst (v := 3) hx hb dX5_setKind_80 (by decide) ?_
              refine lv_goto (tgt := 85) hx hb dX5_setKind_81 (by decide) ?_
              have he : e9 = 3 := hthr.symm.trans (by simp only [pg_t_setKind, c_4, c_14, c_25, c_37, d_54, hcl, d_77, cond_true, cond_false, Bool.not_true, Bool.not_false])
              refine pg_iE (pg_rV (As := [.int 3]) (rest := []) ⟨hx, hb, hml, hown, hts⟩ (cm_fine1 l D cI cZ a H.size u 3 (by decide)) (cwV 1 hts gX5_setKind_X5_isFine rfl rfl rfl (by decide +kernel) ⟨Nat.le_of_ble_eq_true rfl, Nat.le_of_ble_eq_true rfl⟩) hK hP hD 0 (ci := 5) rfl rfl rfl rfl hl.1 rfl (Nat.le_of_ble_eq_true rfl) dX5_setKind_85 ⟨Nat.le_of_ble_eq_true rfl, Nat.le_of_ble_eq_true rfl⟩) hD hS hA (fun H locs hP hD hS => ?_)
              refine lv_if_eq (tgt := 129) hx hb dX5_setKind_88 (by decide) (fun c_88 => ?_) (fun c_88 => absurd (by decide) c_88)
              exact W.vret hx hb hr (fun t9 ht9 hW9 => ⟨⟨((upd u.1 15 3), u.2), rfl, (by rw [he]), by rw [ht9]; exact hP, va_K.moved hW9.alike hK, hD⟩, hS.F ht9⟩) hS.2.2 dX5_setKind_129
          · have d_54 : pg_nb k 3 = false := (pg_nb3 k).trans c_54
            refine pg_iE (pg_rS (As := [.int k, .int 0, .int 2]) (rest := [.ref (a 0)]) ⟨hx, hb, hml, hown, hts⟩ (cm_in_f l D (pg_ty cI cZ) (pg_wM cI cZ a u) H.size k 0 2 c_54) (va_cwS 3 hts gX5_setKind_X5_in rfl rfl rfl (by decide +kernel) ⟨Nat.le_of_ble_eq_true rfl, Nat.le_of_ble_eq_true rfl⟩) hK hP hD rfl hl.1 rfl (Nat.le_of_ble_eq_true rfl) dX5_setKind_54 ⟨Nat.le_of_ble_eq_true rfl, Nat.le_of_ble_eq_true rfl⟩) hD hS hA (fun H locs hP hD hS => ?_)
            refine lv_if_ne (tgt := 64) hx hb dX5_setKind_57 (by decide) (fun c_57 => absurd (by decide) c_57) (fun c_57 => ?_)
            refine lv_iconst (v := 1) hx hb dX5_setKind_60 (by decide) ?_
            refine lv_goto (tgt := 85) hx hb dX5_setKind_61 (by decide) ?_
            have he : e9 = 1 := hthr.symm.trans (by simp only [pg_t_setKind, c_4, c_14, c_25, c_37, d_54, cond_true, cond_false, Bool.not_true, Bool.not_false])
            refine pg_iE (pg_rV (As := [.int 1]) (rest := []) ⟨hx, hb, hml, hown, hts⟩ (cm_fine1 l D cI cZ a H.size u 1 (by decide)) (cwV 1 hts gX5_setKind_X5_isFine rfl rfl rfl (by decide +kernel) ⟨Nat.le_of_ble_eq_true rfl, Nat.le_of_ble_eq_true rfl⟩) hK hP hD 0 (ci := 5) rfl rfl rfl rfl hl.1 rfl (Nat.le_of_ble_eq_true rfl) dX5_setKind_85 ⟨Nat.le_of_ble_eq_true rfl, Nat.le_of_ble_eq_true rfl⟩) hD hS hA (fun H locs hP hD hS => ?_)
            refine lv_if_eq (tgt := 129) hx hb dX5_setKind_88 (by decide) (fun c_88 => ?_) (fun c_88 => absurd (by decide) c_88)
            exact W.vret hx hb hr (fun t9 ht9 hW9 => ⟨⟨((upd u.1 15 1), u.2), rfl, (by rw [he]), by rw [ht9]; exact hP, va_K.moved hW9.alike hK, hD⟩, hS.F ht9⟩) hS.2.2 dX5_setKind_129
        · refine pg_iE (pg_rS (As := [.int d, .int 0, .int 2000]) (rest := []) ⟨hx, hb, hml, hown, hts⟩ (cm_in_f l D (pg_ty cI cZ) (pg_wM cI cZ a u) H.size d 0 2000 c_37) (va_cwS 3 hts gX5_setKind_X5_in rfl rfl rfl (by decide +kernel) ⟨Nat.le_of_ble_eq_true rfl, Nat.le_of_ble_eq_true rfl⟩) hK hP hD rfl hl.1 rfl (Nat.le_of_ble_eq_true rfl) dX5_setKind_37 ⟨Nat.le_of_ble_eq_true rfl, Nat.le_of_ble_eq_true rfl⟩) hD hS hA (fun H locs hP hD hS => ?_)
          refine lv_if_eq (tgt := 47) hx hb dX5_setKind_40 (by decide) (fun c_40 => ?_) (fun c_40 => absurd (by decide) c_40)
          refine lv_iconst (v := 0) hx hb dX5_setKind_47 (by decide) ?_
          refine lv_istore (lv' := [(7, .int 0), (0, .ref (a 0)), (1, .int k), (2, .int x), (3, .int y1), (4, .int b), (5, .int z), (6, .int d)]) hx hb dX5_setKind_48 hl (by decide) rfl (fun ls hl => ?_)
          refine lv_aload_n hx hb dX5_setKind_50 rfl (lv_at hl 1 rfl) ?_
          refine lv_iload_n hx hb dX5_setKind_51 rfl (lv_at hl 2 rfl) ?_
          refine lv_iconst (v := 0) hx hb dX5_setKind_52 (by decide) ?_
          refine lv_iconst (v := 2) hx hb dX5_setKind_53 (by decide) ?_
          rcases Bool.eq_false_or_eq_true (pg_in k 0 2) with c_54 | c_54
          · have d_54 : pg_nb k 3 = true := (pg_nb3 k).trans c_54
            refine pg_iE (pg_rS (As := [.int k, .int 0, .int 2]) (rest := [.ref (a 0)]) ⟨hx, hb, hml, hown, hts⟩ (cm_in_t l D (pg_ty cI cZ) (pg_wM cI cZ a u) H.size k 0 2 c_54) (va_cwS 3 hts gX5_setKind_X5_in rfl rfl rfl (by decide +kernel) ⟨Nat.le_of_ble_eq_true rfl, Nat.le_of_ble_eq_true rfl⟩) hK hP hD rfl hl.1 rfl (Nat.le_of_ble_eq_true rfl) dX5_setKind_54 ⟨Nat.le_of_ble_eq_true rfl, Nat.le_of_ble_eq_true rfl⟩) hD hS hA (fun H locs hP hD hS => ?_)
            obtain ⟨j, hj, rfl⟩ := pg_nb_nI (n := 3) (by omega) d_54
            have hcl : (nI j).toNatClampNeg = j := nI_clamp (by omega)
            refine lv_if_ne (tgt := 64) hx hb dX5_setKind_57 (by decide) (fun c_57 => ?_) (fun c_57 => absurd c_57 (by decide))
            refine lv_iload hx hb dX5_setKind_64 (lv_at hl 0 rfl) ?_
            refine lv_if_ne (tgt := 73) hx hb dX5_setKind_66 (by decide) (fun c_66 => absurd (by decide) c_66) (fun c_66 => ?_)
            refine lv_iconst (v := 2) hx hb dX5_setKind_69 (by decide) ?_
            refine lv_goto (tgt := 85) hx hb dX5_setKind_70 (by decide) ?_
            have he : e9 = 2 := hthr.symm.trans (by simp only [pg_t_setKind, c_4, c_14, c_25, c_37, d_54, hcl, cond_true, cond_false, Bool.not_true, Bool.not_false])
            refine pg_iE (pg_rV (As := [.int 2]) (rest := []) ⟨hx, hb, hml, hown, hts⟩ (cm_fine1 l D cI cZ a H.size u 2 (by decide)) (cwV 1 hts gX5_setKind_X5_isFine rfl rfl rfl (by decide +kernel) ⟨Nat.le_of_ble_eq_true rfl, Nat.le_of_ble_eq_true rfl⟩) hK hP hD 0 (ci := 5) rfl rfl rfl rfl hl.1 rfl (Nat.le_of_ble_eq_true rfl) dX5_setKind_85 ⟨Nat.le_of_ble_eq_true rfl, Nat.le_of_ble_eq_true rfl⟩) hD hS hA (fun H locs hP hD hS => ?_)
            refine lv_if_eq (tgt := 129) hx hb dX5_setKind_88 (by decide) (fun c_88 => ?_) (fun c_88 => absurd (by decide) c_88)
            exact W.vret hx hb hr (fun t9 ht9 hW9 => ⟨⟨((upd u.1 15 2), u.2), rfl, (by rw [he]), by rw [ht9]; exact hP, va_K.moved hW9.alike hK, hD⟩, hS.F ht9⟩) hS.2.2 dX5_setKind_129
          · have d_54 : pg_nb k 3 = false := (pg_nb3 k).trans c_54
            refine pg_iE (pg_rS (As := [.int k, .int 0, .int 2]) (rest := [.ref (a 0)]) ⟨hx, hb, hml, hown, hts⟩ (cm_in_f l D (pg_ty cI cZ) (pg_wM cI cZ a u) H.size k 0 2 c_54) (va_cwS 3 hts gX5_setKind_X5_in rfl rfl rfl (by decide +kernel) ⟨Nat.le_of_ble_eq_true rfl, Nat.le_of_ble_eq_true rfl⟩) hK hP hD rfl hl.1 rfl (Nat.le_of_ble_eq_true rfl) dX5_setKind_54 ⟨Nat.le_of_ble_eq_true rfl, Nat.le_of_ble_eq_true rfl⟩) hD hS hA (fun H locs hP hD hS => ?_)
            refine lv_if_ne (tgt := 64) hx hb dX5_setKind_57 (by decide) (fun c_57 => absurd (by decide) c_57) (fun c_57 => ?_)
            refine lv_iconst (v := 1) hx hb dX5_setKind_60 (by decide) ?_
            refine lv_goto (tgt := 85) hx hb dX5_setKind_61 (by decide) ?_
            have he : e9 = 1 := hthr.symm.trans (by simp only [pg_t_setKind, c_4, c_14, c_25, c_37, d_54, cond_true, cond_false, Bool.not_true, Bool.not_false])
            refine pg_iE (pg_rV (As := [.int 1]) (rest := []) ⟨hx, hb, hml, hown, hts⟩ (cm_fine1 l D cI cZ a H.size u 1 (by decide)) (cwV 1 hts gX5_setKind_X5_isFine rfl rfl rfl (by decide +kernel) ⟨Nat.le_of_ble_eq_true rfl, Nat.le_of_ble_eq_true rfl⟩) hK hP hD 0 (ci := 5) rfl rfl rfl rfl hl.1 rfl (Nat.le_of_ble_eq_true rfl) dX5_setKind_85 ⟨Nat.le_of_ble_eq_true rfl, Nat.le_of_ble_eq_true rfl⟩) hD hS hA (fun H locs hP hD hS => ?_)
            refine lv_if_eq (tgt := 129) hx hb dX5_setKind_88 (by decide) (fun c_88 => ?_) (fun c_88 => absurd (by decide) c_88)
            exact W.vret hx hb hr (fun t9 ht9 hW9 => ⟨⟨((upd u.1 15 1), u.2), rfl, (by rw [he]), by rw [ht9]; exact hP, va_K.moved hW9.alike hK, hD⟩, hS.F ht9⟩) hS.2.2 dX5_setKind_129
      · refine pg_iE (pg_rS (As := [.int z, .int 0, .int 100000000]) (rest := []) ⟨hx, hb, hml, hown, hts⟩ (cm_in_f l D (pg_ty cI cZ) (pg_wM cI cZ a u) H.size z 0 100000000 c_25) (va_cwS 3 hts gX5_setKind_X5_in rfl rfl rfl (by decide +kernel) ⟨Nat.le_of_ble_eq_true rfl, Nat.le_of_ble_eq_true rfl⟩) hK hP hD rfl hl.1 rfl (Nat.le_of_ble_eq_true rfl) dX5_setKind_25 ⟨Nat.le_of_ble_eq_true rfl, Nat.le_of_ble_eq_true rfl⟩) hD hS hA (fun H locs hP hD hS => ?_)
        refine lv_if_eq (tgt := 47) hx hb dX5_setKind_28 (by decide) (fun c_28 => ?_) (fun c_28 => absurd (by decide) c_28)
        refine lv_iconst (v := 0) hx hb dX5_setKind_47 (by decide) ?_
        refine lv_istore (lv' := [(7, .int 0), (0, .ref (a 0)), (1, .int k), (2, .int x), (3, .int y1), (4, .int b), (5, .int z), (6, .int d)]) hx hb dX5_setKind_48 hl (by decide) rfl (fun ls hl => ?_)
        refine lv_aload_n hx hb dX5_setKind_50 rfl (lv_at hl 1 rfl) ?_
        refine lv_iload_n hx hb dX5_setKind_51 rfl (lv_at hl 2 rfl) ?_
        refine lv_iconst (v := 0) hx hb dX5_setKind_52 (by decide) ?_
        refine lv_iconst (v := 2) hx hb dX5_setKind_53 (by decide) ?_
        rcases Bool.eq_false_or_eq_true (pg_in k 0 2) with c_54 | c_54
        · have d_54 : pg_nb k 3 = true := (pg_nb3 k).trans c_54
          refine pg_iE (pg_rS (As := [.int k, .int 0, .int 2]) (rest := [.ref (a 0)]) ⟨hx, hb, hml, hown, hts⟩ (cm_in_t l D (pg_ty cI cZ) (pg_wM cI cZ a u) H.size k 0 2 c_54) (va_cwS 3 hts gX5_setKind_X5_in rfl rfl rfl (by decide +kernel) ⟨Nat.le_of_ble_eq_true rfl, Nat.le_of_ble_eq_true rfl⟩) hK hP hD rfl hl.1 rfl (Nat.le_of_ble_eq_true rfl) dX5_setKind_54 ⟨Nat.le_of_ble_eq_true rfl, Nat.le_of_ble_eq_true rfl⟩) hD hS hA (fun H locs hP hD hS => ?_)
          obtain ⟨j, hj, rfl⟩ := pg_nb_nI (n := 3) (by omega) d_54
          have hcl : (nI j).toNatClampNeg = j := nI_clamp (by omega)
          refine lv_if_ne (tgt := 64) hx hb dX5_setKind_57 (by decide) (fun c_57 => ?_) (fun c_57 => absurd c_57 (by decide))
          refine lv_iload hx hb dX5_setKind_64 (lv_at hl 0 rfl) ?_
          refine lv_if_ne (tgt := 73) hx hb dX5_setKind_66 (by decide) (fun c_66 => absurd (by decide) c_66) (fun c_66 => ?_)
          refine lv_iconst (v := 2) hx hb dX5_setKind_69 (by decide) ?_
          refine lv_goto (tgt := 85) hx hb dX5_setKind_70 (by decide) ?_
          have he : e9 = 2 := hthr.symm.trans (by simp only [pg_t_setKind, c_4, c_14, c_25, d_54, hcl, cond_true, cond_false, Bool.not_true, Bool.not_false])
          refine pg_iE (pg_rV (As := [.int 2]) (rest := []) ⟨hx, hb, hml, hown, hts⟩ (cm_fine1 l D cI cZ a H.size u 2 (by decide)) (cwV 1 hts gX5_setKind_X5_isFine rfl rfl rfl (by decide +kernel) ⟨Nat.le_of_ble_eq_true rfl, Nat.le_of_ble_eq_true rfl⟩) hK hP hD 0 (ci := 5) rfl rfl rfl rfl hl.1 rfl (Nat.le_of_ble_eq_true rfl) dX5_setKind_85 ⟨Nat.le_of_ble_eq_true rfl, Nat.le_of_ble_eq_true rfl⟩) hD hS hA (fun H locs hP hD hS => ?_)
          refine lv_if_eq (tgt := 129) hx hb dX5_setKind_88 (by decide) (fun c_88 => ?_) (fun c_88 => absurd (by decide) c_88)
          exact W.vret hx hb hr (fun t9 ht9 hW9 => ⟨⟨((upd u.1 15 2), u.2), rfl, (by rw [he]), by rw [ht9]; exact hP, va_K.moved hW9.alike hK, hD⟩, hS.F ht9⟩) hS.2.2 dX5_setKind_129
        · have d_54 : pg_nb k 3 = false := (pg_nb3 k).trans c_54
          refine pg_iE (pg_rS (As := [.int k, .int 0, .int 2]) (rest := [.ref (a 0)]) ⟨hx, hb, hml, hown, hts⟩ (cm_in_f l D (pg_ty cI cZ) (pg_wM cI cZ a u) H.size k 0 2 c_54) (va_cwS 3 hts gX5_setKind_X5_in rfl rfl rfl (by decide +kernel) ⟨Nat.le_of_ble_eq_true rfl, Nat.le_of_ble_eq_true rfl⟩) hK hP hD rfl hl.1 rfl (Nat.le_of_ble_eq_true rfl) dX5_setKind_54 ⟨Nat.le_of_ble_eq_true rfl, Nat.le_of_ble_eq_true rfl⟩) hD hS hA (fun H locs hP hD hS => ?_)
          refine lv_if_ne (tgt := 64) hx hb dX5_setKind_57 (by decide) (fun c_57 => absurd (by decide) c_57) (fun c_57 => ?_)
          refine lv_iconst (v := 1) hx hb dX5_setKind_60 (by decide) ?_
          refine lv_goto (tgt := 85) hx hb dX5_setKind_61 (by decide) ?_
          have he : e9 = 1 := hthr.symm.trans (by simp only [pg_t_setKind, c_4, c_14, c_25, d_54, cond_true, cond_false, Bool.not_true, Bool.not_false])
          refine pg_iE (pg_rV (As := [.int 1]) (rest := []) ⟨hx, hb, hml, hown, hts⟩ (cm_fine1 l D cI cZ a H.size u 1 (by decide)) (cwV 1 hts gX5_setKind_X5_isFine rfl rfl rfl (by decide +kernel) ⟨Nat.le_of_ble_eq_true rfl, Nat.le_of_ble_eq_true rfl⟩) hK hP hD 0 (ci := 5) rfl rfl rfl rfl hl.1 rfl (Nat.le_of_ble_eq_true rfl) dX5_setKind_85 ⟨Nat.le_of_ble_eq_true rfl, Nat.le_of_ble_eq_true rfl⟩) hD hS hA (fun H locs hP hD hS => ?_)
          refine lv_if_eq (tgt := 129) hx hb dX5_setKind_88 (by decide) (fun c_88 => ?_) (fun c_88 => absurd (by decide) c_88)
          exact W.vret hx hb hr (fun t9 ht9 hW9 => ⟨⟨((upd u.1 15 1), u.2), rfl, (by rw [he]), by rw [ht9]; exact hP, va_K.moved hW9.alike hK, hD⟩, hS.F ht9⟩) hS.2.2 dX5_setKind_129
    · refine pg_iE (pg_rS (As := [.int y1, .int 0, .int 10000000]) (rest := []) ⟨hx, hb, hml, hown, hts⟩ (cm_in_f l D (pg_ty cI cZ) (pg_wM cI cZ a u) H.size y1 0 10000000 c_14) (va_cwS 3 hts gX5_setKind_X5_in rfl rfl rfl (by decide +kernel) ⟨Nat.le_of_ble_eq_true rfl, Nat.le_of_ble_eq_true rfl⟩) hK hP hD rfl hl.1 rfl (Nat.le_of_ble_eq_true rfl) dX5_setKind_14 ⟨Nat.le_of_ble_eq_true rfl, Nat.le_of_ble_eq_true rfl⟩) hD hS hA (fun H locs hP hD hS => ?_)
      refine lv_if_eq (tgt := 47) hx hb dX5_setKind_17 (by decide) (fun c_17 => ?_) (fun c_17 => absurd (by decide) c_17)
      refine lv_iconst (v := 0) hx hb dX5_setKind_47 (by decide) ?_
      refine lv_istore (lv' := [(7, .int 0), (0, .ref (a 0)), (1, .int k), (2, .int x), (3, .int y1), (4, .int b), (5, .int z), (6, .int d)]) hx hb dX5_setKind_48 hl (by decide) rfl (fun ls hl => ?_)
      refine lv_aload_n hx hb dX5_setKind_50 rfl (lv_at hl 1 rfl) ?_
      refine lv_iload_n hx hb dX5_setKind_51 rfl (lv_at hl 2 rfl) ?_
      refine lv_iconst (v := 0) hx hb dX5_setKind_52 (by decide) ?_
      refine lv_iconst (v := 2) hx hb dX5_setKind_53 (by decide) ?_
      rcases Bool.eq_false_or_eq_true (pg_in k 0 2) with c_54 | c_54
      · have d_54 : pg_nb k 3 = true := (pg_nb3 k).trans c_54
        refine pg_iE (pg_rS (As := [.int k, .int 0, .int 2]) (rest := [.ref (a 0)]) ⟨hx, hb, hml, hown, hts⟩ (cm_in_t l D (pg_ty cI cZ) (pg_wM cI cZ a u) H.size k 0 2 c_54) (va_cwS 3 hts gX5_setKind_X5_in rfl rfl rfl (by decide +kernel) ⟨Nat.le_of_ble_eq_true rfl, Nat.le_of_ble_eq_true rfl⟩) hK hP hD rfl hl.1 rfl (Nat.le_of_ble_eq_true rfl) dX5_setKind_54 ⟨Nat.le_of_ble_eq_true rfl, Nat.le_of_ble_eq_true rfl⟩) hD hS hA (fun H locs hP hD hS => ?_)
        obtain ⟨j, hj, rfl⟩ := pg_nb_nI (n := 3) (by omega) d_54
        have hcl : (nI j).toNatClampNeg = j := nI_clamp (by omega)
        refine lv_if_ne (tgt := 64) hx hb dX5_setKind_57 (by decide) (fun c_57 => ?_) (fun c_57 => absurd c_57 (by decide))
        refine lv_iload hx hb dX5_setKind_64 (lv_at hl 0 rfl) ?_
        refine lv_if_ne (tgt := 73) hx hb dX5_setKind_66 (by decide) (fun c_66 => absurd (by decide) c_66) (fun c_66 => ?_)
        refine lv_iconst (v := 2) hx hb dX5_setKind_69 (by decide) ?_
        refine lv_goto (tgt := 85) hx hb dX5_setKind_70 (by decide) ?_
        have he : e9 = 2 := hthr.symm.trans (by simp only [pg_t_setKind, c_4, c_14, d_54, hcl, cond_true, cond_false, Bool.not_true, Bool.not_false])
        refine pg_iE (pg_rV (As := [.int 2]) (rest := []) ⟨hx, hb, hml, hown, hts⟩ (cm_fine1 l D cI cZ a H.size u 2 (by decide)) (cwV 1 hts gX5_setKind_X5_isFine rfl rfl rfl (by decide +kernel) ⟨Nat.le_of_ble_eq_true rfl, Nat.le_of_ble_eq_true rfl⟩) hK hP hD 0 (ci := 5) rfl rfl rfl rfl hl.1 rfl (Nat.le_of_ble_eq_true rfl) dX5_setKind_85 ⟨Nat.le_of_ble_eq_true rfl, Nat.le_of_ble_eq_true rfl⟩) hD hS hA (fun H locs hP hD hS => ?_)
        refine lv_if_eq (tgt := 129) hx hb dX5_setKind_88 (by decide) (fun c_88 => ?_) (fun c_88 => absurd (by decide) c_88)
        exact W.vret hx hb hr (fun t9 ht9 hW9 => ⟨⟨((upd u.1 15 2), u.2), rfl, (by rw [he]), by rw [ht9]; exact hP, va_K.moved hW9.alike hK, hD⟩, hS.F ht9⟩) hS.2.2 dX5_setKind_129
      · have d_54 : pg_nb k 3 = false := (pg_nb3 k).trans c_54
        refine pg_iE (pg_rS (As := [.int k, .int 0, .int 2]) (rest := [.ref (a 0)]) ⟨hx, hb, hml, hown, hts⟩ (cm_in_f l D (pg_ty cI cZ) (pg_wM cI cZ a u) H.size k 0 2 c_54) (va_cwS 3 hts gX5_setKind_X5_in rfl rfl rfl (by decide +kernel) ⟨Nat.le_of_ble_eq_true rfl, Nat.le_of_ble_eq_true rfl⟩) hK hP hD rfl hl.1 rfl (Nat.le_of_ble_eq_true rfl) dX5_setKind_54 ⟨Nat.le_of_ble_eq_true rfl, Nat.le_of_ble_eq_true rfl⟩) hD hS hA (fun H locs hP hD hS => ?_)
        refine lv_if_ne (tgt := 64) hx hb dX5_setKind_57 (by decide) (fun c_57 => absurd (by decide) c_57) (fun c_57 => ?_)
        refine lv_iconst (v := 1) hx hb dX5_setKind_60 (by decide) ?_
        refine lv_goto (tgt := 85) hx hb dX5_setKind_61 (by decide) ?_
        have he : e9 = 1 := hthr.symm.trans (by simp only [pg_t_setKind, c_4, c_14, d_54, cond_true, cond_false, Bool.not_true, Bool.not_false])
        refine pg_iE (pg_rV (As := [.int 1]) (rest := []) ⟨hx, hb, hml, hown, hts⟩ (cm_fine1 l D cI cZ a H.size u 1 (by decide)) (cwV 1 hts gX5_setKind_X5_isFine rfl rfl rfl (by decide +kernel) ⟨Nat.le_of_ble_eq_true rfl, Nat.le_of_ble_eq_true rfl⟩) hK hP hD 0 (ci := 5) rfl rfl rfl rfl hl.1 rfl (Nat.le_of_ble_eq_true rfl) dX5_setKind_85 ⟨Nat.le_of_ble_eq_true rfl, Nat.le_of_ble_eq_true rfl⟩) hD hS hA (fun H locs hP hD hS => ?_)
        refine lv_if_eq (tgt := 129) hx hb dX5_setKind_88 (by decide) (fun c_88 => ?_) (fun c_88 => absurd (by decide) c_88)
        exact W.vret hx hb hr (fun t9 ht9 hW9 => ⟨⟨((upd u.1 15 1), u.2), rfl, (by rw [he]), by rw [ht9]; exact hP, va_K.moved hW9.alike hK, hD⟩, hS.F ht9⟩) hS.2.2 dX5_setKind_129
  · refine pg_iE (pg_rS (As := [.int x, .int 0, .int 10000000]) (rest := []) ⟨hx, hb, hml, hown, hts⟩ (cm_in_f l D (pg_ty cI cZ) (pg_wM cI cZ a u) s.heap.size x 0 10000000 c_4) (va_cwS 3 hts gX5_setKind_X5_in rfl rfl rfl (by decide +kernel) ⟨Nat.le_of_ble_eq_true rfl, Nat.le_of_ble_eq_true rfl⟩) hK hP hD rfl hl.1 rfl (Nat.le_of_ble_eq_true rfl) dX5_setKind_4 ⟨Nat.le_of_ble_eq_true rfl, Nat.le_of_ble_eq_true rfl⟩) hD hS hA (fun H locs hP hD hS => ?_)
    refine lv_if_eq (tgt := 47) hx hb dX5_setKind_7 (by decide) (fun c_7 => ?_) (fun c_7 => absurd (by decide) c_7)
    refine lv_iconst (v := 0) hx hb dX5_setKind_47 (by decide) ?_
    refine lv_istore (lv' := [(7, .int 0), (0, .ref (a 0)), (1, .int k), (2, .int x), (3, .int y1), (4, .int b), (5, .int z), (6, .int d)]) hx hb dX5_setKind_48 hl (by decide) rfl (fun ls hl => ?_)
    refine lv_aload_n hx hb dX5_setKind_50 rfl (lv_at hl 1 rfl) ?_
    refine lv_iload_n hx hb dX5_setKind_51 rfl (lv_at hl 2 rfl) ?_
    refine lv_iconst (v := 0) hx hb dX5_setKind_52 (by decide) ?_
    refine lv_iconst (v := 2) hx hb dX5_setKind_53 (by decide) ?_
    rcases Bool.eq_false_or_eq_true (pg_in k 0 2) with c_54 | c_54
    · have d_54 : pg_nb k 3 = true := (pg_nb3 k).trans c_54
      refine pg_iE (pg_rS (As := [.int k, .int 0, .int 2]) (rest := [.ref (a 0)]) ⟨hx, hb, hml, hown, hts⟩ (cm_in_t l D (pg_ty cI cZ) (pg_wM cI cZ a u) H.size k 0 2 c_54) (va_cwS 3 hts gX5_setKind_X5_in rfl rfl rfl (by decide +kernel) ⟨Nat.le_of_ble_eq_true rfl, Nat.le_of_ble_eq_true rfl⟩) hK hP hD rfl hl.1 rfl (Nat.le_of_ble_eq_true rfl) dX5_setKind_54 ⟨Nat.le_of_ble_eq_true rfl, Nat.le_of_ble_eq_true rfl⟩) hD hS hA (fun H locs hP hD hS => ?_)
      obtain ⟨j, hj, rfl⟩ := pg_nb_nI (n := 3) (by omega) d_54
      have hcl : (nI j).toNatClampNeg = j := nI_clamp (by omega)
      refine lv_if_ne (tgt := 64) hx hb dX5_setKind_57 (by decide) (fun c_57 => ?_) (fun c_57 => absurd c_57 (by decide))
      refine lv_iload hx hb dX5_setKind_64 (lv_at hl 0 rfl) ?_
      refine lv_if_ne (tgt := 73) hx hb dX5_setKind_66 (by decide) (fun c_66 => absurd (by decide) c_66) (fun c_66 => ?_)
      refine lv_iconst (v := 2) hx hb dX5_setKind_69 (by decide) ?_
      refine lv_goto (tgt := 85) hx hb dX5_setKind_70 (by decide) ?_
      have he : e9 = 2 := hthr.symm.trans (by simp only [pg_t_setKind, c_4, d_54, hcl, cond_true, cond_false, Bool.not_true, Bool.not_false])
      refine pg_iE (pg_rV (As := [.int 2]) (rest := []) ⟨hx, hb, hml, hown, hts⟩ (cm_fine1 l D cI cZ a H.size u 2 (by decide)) (cwV 1 hts gX5_setKind_X5_isFine rfl rfl rfl (by decide +kernel) ⟨Nat.le_of_ble_eq_true rfl, Nat.le_of_ble_eq_true rfl⟩) hK hP hD 0 (ci := 5) rfl rfl rfl rfl hl.1 rfl (Nat.le_of_ble_eq_true rfl) dX5_setKind_85 ⟨Nat.le_of_ble_eq_true rfl, Nat.le_of_ble_eq_true rfl⟩) hD hS hA (fun H locs hP hD hS => ?_)
      refine lv_if_eq (tgt := 129) hx hb dX5_setKind_88 (by decide) (fun c_88 => ?_) (fun c_88 => absurd (by decide) c_88)
      exact W.vret hx hb hr (fun t9 ht9 hW9 => ⟨⟨((upd u.1 15 2), u.2), rfl, (by rw [he]), by rw [ht9]; exact hP, va_K.moved hW9.alike hK, hD⟩, hS.F ht9⟩) hS.2.2 dX5_setKind_129
    · have d_54 : pg_nb k 3 = false := (pg_nb3 k).trans c_54
      refine pg_iE (pg_rS (As := [.int k, .int 0, .int 2]) (rest := [.ref (a 0)]) ⟨hx, hb, hml, hown, hts⟩ (cm_in_f l D (pg_ty cI cZ) (pg_wM cI cZ a u) H.size k 0 2 c_54) (va_cwS 3 hts gX5_setKind_X5_in rfl rfl rfl (by decide +kernel) ⟨Nat.le_of_ble_eq_true rfl, Nat.le_of_ble_eq_true rfl⟩) hK hP hD rfl hl.1 rfl (Nat.le_of_ble_eq_true rfl) dX5_setKind_54 ⟨Nat.le_of_ble_eq_true rfl, Nat.le_of_ble_eq_true rfl⟩) hD hS hA (fun H locs hP hD hS => ?_)
      refine lv_if_ne (tgt := 64) hx hb dX5_setKind_57 (by decide) (fun c_57 => absurd (by decide) c_57) (fun c_57 => ?_)
      refine lv_iconst (v := 1) hx hb dX5_setKind_60 (by decide) ?_
      refine lv_goto (tgt := 85) hx hb dX5_setKind_61 (by decide) ?_
      have he : e9 = 1 := hthr.symm.trans (by simp only [pg_t_setKind, c_4, d_54, cond_true, cond_false, Bool.not_true, Bool.not_false])
      refine pg_iE (pg_rV (As := [.int 1]) (rest := []) ⟨hx, hb, hml, hown, hts⟩ (cm_fine1 l D cI cZ a H.size u 1 (by decide)) (cwV 1 hts gX5_setKind_X5_isFine rfl rfl rfl (by decide +kernel) ⟨Nat.le_of_ble_eq_true rfl, Nat.le_of_ble_eq_true rfl⟩) hK hP hD 0 (ci := 5) rfl rfl rfl rfl hl.1 rfl (Nat.le_of_ble_eq_true rfl) dX5_setKind_85 ⟨Nat.le_of_ble_eq_true rfl, Nat.le_of_ble_eq_true rfl⟩) hD hS hA (fun H locs hP hD hS => ?_)
      refine lv_if_eq (tgt := 129) hx hb dX5_setKind_88 (by decide) (fun c_88 => ?_) (fun c_88 => absurd (by decide) c_88)
      exact W.vret hx hb hr (fun t9 ht9 hW9 => ⟨⟨((upd u.1 15 1), u.2), rfl, (by rw [he]), by rw [ht9]; exact hP, va_K.moved hW9.alike hK, hD⟩, hS.F ht9⟩) hS.2.2 dX5_setKind_129
set_option maxHeartbeats 4000000 in
set_option maxRecDepth 100000 in
/-- cm_setYear: fine -/
theorem cm_setYear_ok (l : Launch) (D : va_G) (cI cZ : ClassId) (a : Nat → Nat) (sz : Nat) (u : pg_St) (k x d : Int32) (hthr : pg_t_setYear (!pg_eq (u.1 14) 0) k x d = 0) : Met l yX5_setYear wsX5_setYear ({ frames := 1, cells := 0, slots := 0, locals := 22 }) (va_Pc [.ref (a 0), .int k, .int x, .int d] (pg_B D (pg_ty cI cZ) (pg_wM cI cZ a u) sz)) (va_Qv (fun u' => u' = (upd u.1 15 0, pg_row (pg_row u.2 11 (upd (u.2 11) k.toNatClampNeg x)) 12 (upd (u.2 12) k.toNatClampNeg d))) (pg_E D (pg_ty cI cZ) (va_A (pg_wM cI cZ a u) sz) (pg_wM cI cZ a)) (va_A (pg_wM cI cZ a u) sz)) 0 0 (va_A (pg_wM cI cZ a u) sz) := by
  refine Met.ofW (cc := cX5_setYear) (maxL := 4) (ret := none) (by decide) rfl ?_
  intro p e s m args below meth c s₁ B hml hv
  obtain ⟨rfl, hsz, hP, hK, hD0⟩ := hv
  have hx := B.exec
  have hb := B.bytes
  have hr := B.returns
  have hts := atoms_spec (ws := wsX5_setYear) B.pre
  have hown : s.vm.findClass RX5 = some m.cls := findClass_of_methodNamed B.named
  have hlocks := B.notSynchronized
  subst hsz
  have hD := hD0.self (sz := s.heap.size)
  generalize hAe : va_A (pg_wM cI cZ a u) s.heap.size = A at hD ⊢
  have hA : ∀ q : Nat, s.heap.size ≤ q → A q := fun q h => by rw [← hAe]; exact Or.inr h
  have hS : va_S A s.heap s.heap [] := va_S.rf
  have hl := lv_entry ([.ref (a 0), .int k, .int x, .int d]) (n := 4) (Nat.le_of_ble_eq_true rfl)
  rw [lg_entry_eq]
  generalize (lg_sl ([.ref (a 0), .int k, .int x, .int d]) ++ List.replicate (4 - (lg_sl ([.ref (a 0), .int k, .int x, .int d])).length) Slot.unset).toArray = ls at hl ⊢
  have hl : lv_has ls 4 [(0, .ref (a 0)), (1, .int k), (2, .int x), (3, .int d)] := hl
  have hiX5 : ∀ w ∈ wsX50, w ∈ wsX5_setYear := fun _ h => List.mem_cons_of_mem _ (List.mem_append_right _ (h))
  have hw1 := hts (.constant RX5 60 (10000000)) (List.mem_of_getElem? (i := 1) rfl)
  have hw2 := hts (.fieldLink RX5 66 "PegBoxModel" "closed" "Z") (List.mem_of_getElem? (i := 2) rfl)
  have hw3 := hts (.fieldLink RX5 32 "PegBoxModel" "target" "[I") (List.mem_of_getElem? (i := 3) rfl)
  have hw4 := hts (.fieldLink RX5 35 "PegBoxModel" "yearAmount" "[I") (List.mem_of_getElem? (i := 4) rfl)
  refine lv_aload_n hx hb dX5_setYear_0 rfl (lv_at hl 0 rfl) ?_
  refine lv_iload_n hx hb dX5_setYear_1 rfl (lv_at hl 1 rfl) ?_
  refine lv_iconst (v := 0) hx hb dX5_setYear_2 (by decide) ?_
  refine lv_iconst (v := 3) hx hb dX5_setYear_3 (by decide) ?_
  rcases Bool.eq_false_or_eq_true (pg_in k 0 3) with c_4 | c_4
  · have d_4 : pg_nb k 4 = true := (pg_nb4 k).trans c_4
    refine pg_iE (pg_rS (As := [.int k, .int 0, .int 3]) (rest := [.ref (a 0)]) ⟨hx, hb, hml, hown, hts⟩ (cm_in_t l D (pg_ty cI cZ) (pg_wM cI cZ a u) s.heap.size k 0 3 c_4) (va_cwS 3 hts gX5_setYear_X5_in rfl rfl rfl (by decide +kernel) ⟨Nat.le_of_ble_eq_true rfl, Nat.le_of_ble_eq_true rfl⟩) hK hP hD rfl hl.1 rfl (Nat.le_of_ble_eq_true rfl) dX5_setYear_4 ⟨Nat.le_of_ble_eq_true rfl, Nat.le_of_ble_eq_true rfl⟩) hD hS hA (fun H locs hP hD hS => ?_)
    obtain ⟨j, hj, rfl⟩ := pg_nb_nI (n := 4) (by omega) d_4
    have hcl : (nI j).toNatClampNeg = j := nI_clamp (by omega)
    refine lv_if_ne (tgt := 14) hx hb dX5_setYear_7 (by decide) (fun c_7 => ?_) (fun c_7 => absurd c_7 (by decide))
    refine lv_iload_n hx hb dX5_setYear_14 rfl (lv_at hl 2 rfl) ?_
    refine lv_iconst (v := 0) hx hb dX5_setYear_15 (by decide) ?_
    refine lv_ldc hx hb hown hw1 dX5_setYear_16 ?_
    rcases Bool.eq_false_or_eq_true (pg_in x 0 10000000) with c_18 | c_18
    · refine pg_iE (pg_rS (As := [.int x, .int 0, .int 10000000]) (rest := [.ref (a 0)]) ⟨hx, hb, hml, hown, hts⟩ (cm_in_t l D (pg_ty cI cZ) (pg_wM cI cZ a u) H.size x 0 10000000 c_18) (va_cwS 3 hts gX5_setYear_X5_in rfl rfl rfl (by decide +kernel) ⟨Nat.le_of_ble_eq_true rfl, Nat.le_of_ble_eq_true rfl⟩) hK hP hD rfl hl.1 rfl (Nat.le_of_ble_eq_true rfl) dX5_setYear_18 ⟨Nat.le_of_ble_eq_true rfl, Nat.le_of_ble_eq_true rfl⟩) hD hS hA (fun H locs hP hD hS => ?_)
      refine lv_if_eq (tgt := 34) hx hb dX5_setYear_21 (by decide) (fun c_21 => absurd c_21 (by decide)) (fun c_21 => ?_)
      refine lv_iload_n hx hb dX5_setYear_24 rfl (lv_at hl 3 rfl) ?_
      refine lv_iconst (v := 0) hx hb dX5_setYear_25 (by decide) ?_
      refine lv_ldc hx hb hown hw1 dX5_setYear_26 ?_
      rcases Bool.eq_false_or_eq_true (pg_in d 0 10000000) with c_28 | c_28
      · refine pg_iE (pg_rS (As := [.int d, .int 0, .int 10000000]) (rest := [.ref (a 0)]) ⟨hx, hb, hml, hown, hts⟩ (cm_in_t l D (pg_ty cI cZ) (pg_wM cI cZ a u) H.size d 0 10000000 c_28) (va_cwS 3 hts gX5_setYear_X5_in rfl rfl rfl (by decide +kernel) ⟨Nat.le_of_ble_eq_true rfl, Nat.le_of_ble_eq_true rfl⟩) hK hP hD rfl hl.1 rfl (Nat.le_of_ble_eq_true rfl) dX5_setYear_28 ⟨Nat.le_of_ble_eq_true rfl, Nat.le_of_ble_eq_true rfl⟩) hD hS hA (fun H locs hP hD hS => ?_)
        refine lv_if_ne (tgt := 38) hx hb dX5_setYear_31 (by decide) (fun c_31 => ?_) (fun c_31 => absurd c_31 (by decide))
        refine lv_aload_n hx hb dX5_setYear_38 rfl (lv_at hl 0 rfl) ?_
        refine va_get (D := D) (ci := 5) (v := .int (u.1 14)) (C := RX5) (T := TX5) (N := 31) hx hb hts hiX5 hown hK hP 0 rfl rfl 13 (by decide) hw2 (fun _ h9 => h9) rfl dX5_setYear_39 ?_
        refine lv_if_eq (tgt := 49) hx hb dX5_setYear_42 (by decide) (fun c_42 => ?_) (fun c_42 => ?_)
        · have d_42 := pg_eq_t c_42
          refine lv_iconst (v := 0) hx hb dX5_setYear_49 (by decide) ?_
          refine pg_iE (pg_rV (As := [.int 0]) (rest := []) ⟨hx, hb, hml, hown, hts⟩ (cm_fine0 l D cI cZ a H.size u) (cwV 1 hts gX5_setYear_X5_isFine rfl rfl rfl (by decide +kernel) ⟨Nat.le_of_ble_eq_true rfl, Nat.le_of_ble_eq_true rfl⟩) hK hP hD 0 (ci := 5) rfl rfl rfl rfl hl.1 rfl (Nat.le_of_ble_eq_true rfl) dX5_setYear_50 ⟨Nat.le_of_ble_eq_true rfl, Nat.le_of_ble_eq_true rfl⟩) hD hS hA (fun H locs hP hD hS => ?_)
          refine lv_if_eq (tgt := 70) hx hb dX5_setYear_53 (by decide) (fun c_53 => absurd c_53 (by decide)) (fun c_53 => ?_)
          refine lv_aload_n hx hb dX5_setYear_56 rfl (lv_at hl 0 rfl) ?_
          refine va_get (D := D) (ci := 5) (v := .ref (a 12)) (C := RX5) (T := TX5) (N := 31) hx hb hts hiX5 hown hK hP 0 rfl rfl 10 (by decide) hw3 (fun _ h9 => h9) rfl dX5_setYear_57 ?_
          refine lv_iload_n hx hb dX5_setYear_60 rfl (lv_at hl 1 rfl) ?_
          refine lv_iload_n hx hb dX5_setYear_61 rfl (lv_at hl 2 rfl) ?_
          refine pg_ist hx hb hK hP hD hS 12 0 rfl rfl (show j < _ by omega) (by decide) dX5_setYear_62 (fun H locs hP hD hS => ?_)
          have hP : va_P D vwCl (pg_wM cI cZ a ((upd u.1 15 0), (pg_row u.2 11 (upd (u.2 11) j x)))) H := hP
          have hD : va_D A (pg_wM cI cZ a ((upd u.1 15 0), (pg_row u.2 11 (upd (u.2 11) j x)))) := hD
          refine lv_aload_n hx hb dX5_setYear_63 rfl (lv_at hl 0 rfl) ?_
          refine va_get (D := D) (ci := 5) (v := .ref (a 13)) (C := RX5) (T := TX5) (N := 31) hx hb hts hiX5 hown hK hP 0 rfl rfl 11 (by decide) hw4 (fun _ h9 => h9) rfl dX5_setYear_64 ?_
          refine lv_iload_n hx hb dX5_setYear_67 rfl (lv_at hl 1 rfl) ?_
          refine lv_iload_n hx hb dX5_setYear_68 rfl (lv_at hl 3 rfl) ?_
          refine pg_ist hx hb hK hP hD hS 13 0 rfl rfl (show j < _ by omega) (by decide) dX5_setYear_69 (fun H locs hP hD hS => ?_)
          have hP : va_P D vwCl (pg_wM cI cZ a ((upd u.1 15 0), (pg_row (pg_row u.2 11 (upd (u.2 11) j x)) 12 (upd (u.2 12) j d)))) H := hP
          have hD : va_D A (pg_wM cI cZ a ((upd u.1 15 0), (pg_row (pg_row u.2 11 (upd (u.2 11) j x)) 12 (upd (u.2 12) j d)))) := hD
          exact W.vret hx hb hr (fun t9 ht9 hW9 => ⟨⟨((upd u.1 15 0), (pg_row (pg_row u.2 11 (upd (u.2 11) j x)) 12 (upd (u.2 12) j d))), rfl, (by rw [hcl]), by rw [ht9]; exact hP, va_K.moved hW9.alike hK, hD⟩, hS.F ht9⟩) hS.2.2 dX5_setYear_70
        · have d_42 := pg_eq_f c_42
          refine lv_iconst (v := 3) hx hb dX5_setYear_45 (by decide) ?_
          refine lv_goto (tgt := 50) hx hb dX5_setYear_46 (by decide) ?_
          exact absurd hthr (by first | (simp only [pg_t_setYear, d_4, hcl, c_18, c_28, d_42, cond_true, cond_false, Bool.not_true, Bool.not_false]; done) | (simp only [pg_t_setYear, d_4, hcl, c_18, c_28, d_42, cond_true, cond_false, Bool.not_true, Bool.not_false]; decide))
      · refine pg_iE (pg_rS (As := [.int d, .int 0, .int 10000000]) (rest := [.ref (a 0)]) ⟨hx, hb, hml, hown, hts⟩ (cm_in_f l D (pg_ty cI cZ) (pg_wM cI cZ a u) H.size d 0 10000000 c_28) (va_cwS 3 hts gX5_setYear_X5_in rfl rfl rfl (by decide +kernel) ⟨Nat.le_of_ble_eq_true rfl, Nat.le_of_ble_eq_true rfl⟩) hK hP hD rfl hl.1 rfl (Nat.le_of_ble_eq_true rfl) dX5_setYear_28 ⟨Nat.le_of_ble_eq_true rfl, Nat.le_of_ble_eq_true rfl⟩) hD hS hA (fun H locs hP hD hS => ?_)
        refine lv_if_ne (tgt := 38) hx hb dX5_setYear_31 (by decide) (fun c_31 => absurd (by decide) c_31) (fun c_31 => ?_)
        refine lv_iconst (v := 2) hx hb dX5_setYear_34 (by decide) ?_
        refine lv_goto (tgt := 50) hx hb dX5_setYear_35 (by decide) ?_
        exact absurd hthr (by first | (simp only [pg_t_setYear, d_4, hcl, c_18, c_28, cond_true, cond_false, Bool.not_true, Bool.not_false]; done) | (simp only [pg_t_setYear, d_4, hcl, c_18, c_28, cond_true, cond_false, Bool.not_true, Bool.not_false]; decide))
    · refine pg_iE (pg_rS (As := [.int x, .int 0, .int 10000000]) (rest := [.ref (a 0)]) ⟨hx, hb, hml, hown, hts⟩ (cm_in_f l D (pg_ty cI cZ) (pg_wM cI cZ a u) H.size x 0 10000000 c_18) (va_cwS 3 hts gX5_setYear_X5_in rfl rfl rfl (by decide +kernel) ⟨Nat.le_of_ble_eq_true rfl, Nat.le_of_ble_eq_true rfl⟩) hK hP hD rfl hl.1 rfl (Nat.le_of_ble_eq_true rfl) dX5_setYear_18 ⟨Nat.le_of_ble_eq_true rfl, Nat.le_of_ble_eq_true rfl⟩) hD hS hA (fun H locs hP hD hS => ?_)
      refine lv_if_eq (tgt := 34) hx hb dX5_setYear_21 (by decide) (fun c_21 => ?_) (fun c_21 => absurd (by decide) c_21)
      refine lv_iconst (v := 2) hx hb dX5_setYear_34 (by decide) ?_
      refine lv_goto (tgt := 50) hx hb dX5_setYear_35 (by decide) ?_
      exact absurd hthr (by first | (simp only [pg_t_setYear, d_4, hcl, c_18, cond_true, cond_false, Bool.not_true, Bool.not_false]; done) | (simp only [pg_t_setYear, d_4, hcl, c_18, cond_true, cond_false, Bool.not_true, Bool.not_false]; decide))
  · have d_4 : pg_nb k 4 = false := (pg_nb4 k).trans c_4
    refine pg_iE (pg_rS (As := [.int k, .int 0, .int 3]) (rest := [.ref (a 0)]) ⟨hx, hb, hml, hown, hts⟩ (cm_in_f l D (pg_ty cI cZ) (pg_wM cI cZ a u) s.heap.size k 0 3 c_4) (va_cwS 3 hts gX5_setYear_X5_in rfl rfl rfl (by decide +kernel) ⟨Nat.le_of_ble_eq_true rfl, Nat.le_of_ble_eq_true rfl⟩) hK hP hD rfl hl.1 rfl (Nat.le_of_ble_eq_true rfl) dX5_setYear_4 ⟨Nat.le_of_ble_eq_true rfl, Nat.le_of_ble_eq_true rfl⟩) hD hS hA (fun H locs hP hD hS => ?_)
    refine lv_if_ne (tgt := 14) hx hb dX5_setYear_7 (by decide) (fun c_7 => absurd (by decide) c_7) (fun c_7 => ?_)
    refine lv_iconst (v := 1) hx hb dX5_setYear_10 (by decide) ?_
    refine lv_goto (tgt := 50) hx hb dX5_setYear_11 (by decide) ?_
    exact absurd hthr (by first | (simp only [pg_t_setYear, d_4, cond_true, cond_false, Bool.not_true, Bool.not_false]; done) | (simp only [pg_t_setYear, d_4, cond_true, cond_false, Bool.not_true, Bool.not_false]; decide))
set_option maxHeartbeats 4000000 in
set_option maxRecDepth 100000 in
/-- cm_setYear: not fine -/
theorem cm_setYear_no (l : Launch) (D : va_G) (cI cZ : ClassId) (a : Nat → Nat) (sz : Nat) (u : pg_St) (k x d : Int32) (e9 : Int32) (hthr : pg_t_setYear (!pg_eq (u.1 14) 0) k x d = e9) (h0 : e9 ≠ 0) : Met l yX5_setYear wsX5_setYear ({ frames := 1, cells := 0, slots := 0, locals := 22 }) (va_Pc [.ref (a 0), .int k, .int x, .int d] (pg_B D (pg_ty cI cZ) (pg_wM cI cZ a u) sz)) (va_Qv (fun u' => u' = (upd u.1 15 e9, u.2)) (pg_E D (pg_ty cI cZ) (va_A (pg_wM cI cZ a u) sz) (pg_wM cI cZ a)) (va_A (pg_wM cI cZ a u) sz)) 0 0 (va_A (pg_wM cI cZ a u) sz) := by
  refine Met.ofW (cc := cX5_setYear) (maxL := 4) (ret := none) (by decide) rfl ?_
  intro p e s m args below meth c s₁ B hml hv
  obtain ⟨rfl, hsz, hP, hK, hD0⟩ := hv
  have hx := B.exec
  have hb := B.bytes
  have hr := B.returns
  have hts := atoms_spec (ws := wsX5_setYear) B.pre
  have hown : s.vm.findClass RX5 = some m.cls := findClass_of_methodNamed B.named
  have hlocks := B.notSynchronized
  subst hsz
  have hD := hD0.self (sz := s.heap.size)
  generalize hAe : va_A (pg_wM cI cZ a u) s.heap.size = A at hD ⊢
  have hA : ∀ q : Nat, s.heap.size ≤ q → A q := fun q h => by rw [← hAe]; exact Or.inr h
  have hS : va_S A s.heap s.heap [] := va_S.rf
  have hl := lv_entry ([.ref (a 0), .int k, .int x, .int d]) (n := 4) (Nat.le_of_ble_eq_true rfl)
  rw [lg_entry_eq]
  generalize (lg_sl ([.ref (a 0), .int k, .int x, .int d]) ++ List.replicate (4 - (lg_sl ([.ref (a 0), .int k, .int x, .int d])).length) Slot.unset).toArray = ls at hl ⊢
  have hl : lv_has ls 4 [(0, .ref (a 0)), (1, .int k), (2, .int x), (3, .int d)] := hl
  have hiX5 : ∀ w ∈ wsX50, w ∈ wsX5_setYear := fun _ h => List.mem_cons_of_mem _ (List.mem_append_right _ (h))
  have hw1 := hts (.constant RX5 60 (10000000)) (List.mem_of_getElem? (i := 1) rfl)
  have hw2 := hts (.fieldLink RX5 66 "PegBoxModel" "closed" "Z") (List.mem_of_getElem? (i := 2) rfl)
  refine lv_aload_n hx hb dX5_setYear_0 rfl (lv_at hl 0 rfl) ?_
  refine lv_iload_n hx hb dX5_setYear_1 rfl (lv_at hl 1 rfl) ?_
  refine lv_iconst (v := 0) hx hb dX5_setYear_2 (by decide) ?_
  refine lv_iconst (v := 3) hx hb dX5_setYear_3 (by decide) ?_
  rcases Bool.eq_false_or_eq_true (pg_in k 0 3) with c_4 | c_4
  · have d_4 : pg_nb k 4 = true := (pg_nb4 k).trans c_4
    refine pg_iE (pg_rS (As := [.int k, .int 0, .int 3]) (rest := [.ref (a 0)]) ⟨hx, hb, hml, hown, hts⟩ (cm_in_t l D (pg_ty cI cZ) (pg_wM cI cZ a u) s.heap.size k 0 3 c_4) (va_cwS 3 hts gX5_setYear_X5_in rfl rfl rfl (by decide +kernel) ⟨Nat.le_of_ble_eq_true rfl, Nat.le_of_ble_eq_true rfl⟩) hK hP hD rfl hl.1 rfl (Nat.le_of_ble_eq_true rfl) dX5_setYear_4 ⟨Nat.le_of_ble_eq_true rfl, Nat.le_of_ble_eq_true rfl⟩) hD hS hA (fun H locs hP hD hS => ?_)
    obtain ⟨j, hj, rfl⟩ := pg_nb_nI (n := 4) (by omega) d_4
    have hcl : (nI j).toNatClampNeg = j := nI_clamp (by omega)
    refine lv_if_ne (tgt := 14) hx hb dX5_setYear_7 (by decide) (fun c_7 => ?_) (fun c_7 => absurd c_7 (by decide))
    refine lv_iload_n hx hb dX5_setYear_14 rfl (lv_at hl 2 rfl) ?_
    refine lv_iconst (v := 0) hx hb dX5_setYear_15 (by decide) ?_
    refine lv_ldc hx hb hown hw1 dX5_setYear_16 ?_
    rcases Bool.eq_false_or_eq_true (pg_in x 0 10000000) with c_18 | c_18
    · refine pg_iE (pg_rS (As := [.int x, .int 0, .int 10000000]) (rest := [.ref (a 0)]) ⟨hx, hb, hml, hown, hts⟩ (cm_in_t l D (pg_ty cI cZ) (pg_wM cI cZ a u) H.size x 0 10000000 c_18) (va_cwS 3 hts gX5_setYear_X5_in rfl rfl rfl (by decide +kernel) ⟨Nat.le_of_ble_eq_true rfl, Nat.le_of_ble_eq_true rfl⟩) hK hP hD rfl hl.1 rfl (Nat.le_of_ble_eq_true rfl) dX5_setYear_18 ⟨Nat.le_of_ble_eq_true rfl, Nat.le_of_ble_eq_true rfl⟩) hD hS hA (fun H locs hP hD hS => ?_)
      refine lv_if_eq (tgt := 34) hx hb dX5_setYear_21 (by decide) (fun c_21 => absurd c_21 (by decide)) (fun c_21 => ?_)
      refine lv_iload_n hx hb dX5_setYear_24 rfl (lv_at hl 3 rfl) ?_
      refine lv_iconst (v := 0) hx hb dX5_setYear_25 (by decide) ?_
      refine lv_ldc hx hb hown hw1 dX5_setYear_26 ?_
      rcases Bool.eq_false_or_eq_true (pg_in d 0 10000000) with c_28 | c_28
      · refine pg_iE (pg_rS (As := [.int d, .int 0, .int 10000000]) (rest := [.ref (a 0)]) ⟨hx, hb, hml, hown, hts⟩ (cm_in_t l D (pg_ty cI cZ) (pg_wM cI cZ a u) H.size d 0 10000000 c_28) (va_cwS 3 hts gX5_setYear_X5_in rfl rfl rfl (by decide +kernel) ⟨Nat.le_of_ble_eq_true rfl, Nat.le_of_ble_eq_true rfl⟩) hK hP hD rfl hl.1 rfl (Nat.le_of_ble_eq_true rfl) dX5_setYear_28 ⟨Nat.le_of_ble_eq_true rfl, Nat.le_of_ble_eq_true rfl⟩) hD hS hA (fun H locs hP hD hS => ?_)
        refine lv_if_ne (tgt := 38) hx hb dX5_setYear_31 (by decide) (fun c_31 => ?_) (fun c_31 => absurd c_31 (by decide))
        refine lv_aload_n hx hb dX5_setYear_38 rfl (lv_at hl 0 rfl) ?_
        refine va_get (D := D) (ci := 5) (v := .int (u.1 14)) (C := RX5) (T := TX5) (N := 31) hx hb hts hiX5 hown hK hP 0 rfl rfl 13 (by decide) hw2 (fun _ h9 => h9) rfl dX5_setYear_39 ?_
        refine lv_if_eq (tgt := 49) hx hb dX5_setYear_42 (by decide) (fun c_42 => ?_) (fun c_42 => ?_)
        · have d_42 := pg_eq_t c_42
          refine lv_iconst (v := 0) hx hb dX5_setYear_49 (by decide) ?_
          exact absurd (hthr.symm.trans (by simp only [pg_t_setYear, d_4, hcl, c_18, c_28, d_42, cond_true, cond_false, Bool.not_true, Bool.not_false])) h0
        · have d_42 := pg_eq_f c_42
          refine lv_iconst (v := 3) hx hb dX5_setYear_45 (by decide) ?_
          refine lv_goto (tgt := 50) hx hb dX5_setYear_46 (by decide) ?_
          have he : e9 = 3 := hthr.symm.trans (by simp only [pg_t_setYear, d_4, hcl, c_18, c_28, d_42, cond_true, cond_false, Bool.not_true, Bool.not_false])
          refine pg_iE (pg_rV (As := [.int 3]) (rest := []) ⟨hx, hb, hml, hown, hts⟩ (cm_fine1 l D cI cZ a H.size u 3 (by decide)) (cwV 1 hts gX5_setYear_X5_isFine rfl rfl rfl (by decide +kernel) ⟨Nat.le_of_ble_eq_true rfl, Nat.le_of_ble_eq_true rfl⟩) hK hP hD 0 (ci := 5) rfl rfl rfl rfl hl.1 rfl (Nat.le_of_ble_eq_true rfl) dX5_setYear_50 ⟨Nat.le_of_ble_eq_true rfl, Nat.le_of_ble_eq_true rfl⟩) hD hS hA (fun H locs hP hD hS => ?_)
          refine lv_if_eq (tgt := 70) hx hb dX5_setYear_53 (by decide) (fun c_53 => ?_) (fun c_53 => absurd (by decide) c_53)
          exact W.vret hx hb hr (fun t9 ht9 hW9 => ⟨⟨((upd u.1 15 3), u.2), rfl, (by rw [he]), by rw [ht9]; exact hP, va_K.moved hW9.alike hK, hD⟩, hS.F ht9⟩) hS.2.2 dX5_setYear_70
      · refine pg_iE (pg_rS (As := [.int d, .int 0, .int 10000000]) (rest := [.ref (a 0)]) ⟨hx, hb, hml, hown, hts⟩ (cm_in_f l D (pg_ty cI cZ) (pg_wM cI cZ a u) H.size d 0 10000000 c_28) (va_cwS 3 hts gX5_setYear_X5_in rfl rfl rfl (by decide +kernel) ⟨Nat.le_of_ble_eq_true rfl, Nat.le_of_ble_eq_true rfl⟩) hK hP hD rfl hl.1 rfl (Nat.le_of_ble_eq_true rfl) dX5_setYear_28 ⟨Nat.le_of_ble_eq_true rfl, Nat.le_of_ble_eq_true rfl⟩) hD hS hA (fun H locs hP hD hS => ?_)
        refine lv_if_ne (tgt := 38) hx hb dX5_setYear_31 (by decide) (fun c_31 => absurd (by decide) c_31) (fun c_31 => ?_)
        refine lv_iconst (v := 2) hx hb dX5_setYear_34 (by decide) ?_
        refine lv_goto (tgt := 50) hx hb dX5_setYear_35 (by decide) ?_
        have he : e9 = 2 := hthr.symm.trans (by simp only [pg_t_setYear, d_4, hcl, c_18, c_28, cond_true, cond_false, Bool.not_true, Bool.not_false])
        refine pg_iE (pg_rV (As := [.int 2]) (rest := []) ⟨hx, hb, hml, hown, hts⟩ (cm_fine1 l D cI cZ a H.size u 2 (by decide)) (cwV 1 hts gX5_setYear_X5_isFine rfl rfl rfl (by decide +kernel) ⟨Nat.le_of_ble_eq_true rfl, Nat.le_of_ble_eq_true rfl⟩) hK hP hD 0 (ci := 5) rfl rfl rfl rfl hl.1 rfl (Nat.le_of_ble_eq_true rfl) dX5_setYear_50 ⟨Nat.le_of_ble_eq_true rfl, Nat.le_of_ble_eq_true rfl⟩) hD hS hA (fun H locs hP hD hS => ?_)
        refine lv_if_eq (tgt := 70) hx hb dX5_setYear_53 (by decide) (fun c_53 => ?_) (fun c_53 => absurd (by decide) c_53)
        exact W.vret hx hb hr (fun t9 ht9 hW9 => ⟨⟨((upd u.1 15 2), u.2), rfl, (by rw [he]), by rw [ht9]; exact hP, va_K.moved hW9.alike hK, hD⟩, hS.F ht9⟩) hS.2.2 dX5_setYear_70
    · refine pg_iE (pg_rS (As := [.int x, .int 0, .int 10000000]) (rest := [.ref (a 0)]) ⟨hx, hb, hml, hown, hts⟩ (cm_in_f l D (pg_ty cI cZ) (pg_wM cI cZ a u) H.size x 0 10000000 c_18) (va_cwS 3 hts gX5_setYear_X5_in rfl rfl rfl (by decide +kernel) ⟨Nat.le_of_ble_eq_true rfl, Nat.le_of_ble_eq_true rfl⟩) hK hP hD rfl hl.1 rfl (Nat.le_of_ble_eq_true rfl) dX5_setYear_18 ⟨Nat.le_of_ble_eq_true rfl, Nat.le_of_ble_eq_true rfl⟩) hD hS hA (fun H locs hP hD hS => ?_)
      refine lv_if_eq (tgt := 34) hx hb dX5_setYear_21 (by decide) (fun c_21 => ?_) (fun c_21 => absurd (by decide) c_21)
      refine lv_iconst (v := 2) hx hb dX5_setYear_34 (by decide) ?_
      refine lv_goto (tgt := 50) hx hb dX5_setYear_35 (by decide) ?_
      have he : e9 = 2 := hthr.symm.trans (by simp only [pg_t_setYear, d_4, hcl, c_18, cond_true, cond_false, Bool.not_true, Bool.not_false])
      refine pg_iE (pg_rV (As := [.int 2]) (rest := []) ⟨hx, hb, hml, hown, hts⟩ (cm_fine1 l D cI cZ a H.size u 2 (by decide)) (cwV 1 hts gX5_setYear_X5_isFine rfl rfl rfl (by decide +kernel) ⟨Nat.le_of_ble_eq_true rfl, Nat.le_of_ble_eq_true rfl⟩) hK hP hD 0 (ci := 5) rfl rfl rfl rfl hl.1 rfl (Nat.le_of_ble_eq_true rfl) dX5_setYear_50 ⟨Nat.le_of_ble_eq_true rfl, Nat.le_of_ble_eq_true rfl⟩) hD hS hA (fun H locs hP hD hS => ?_)
      refine lv_if_eq (tgt := 70) hx hb dX5_setYear_53 (by decide) (fun c_53 => ?_) (fun c_53 => absurd (by decide) c_53)
      exact W.vret hx hb hr (fun t9 ht9 hW9 => ⟨⟨((upd u.1 15 2), u.2), rfl, (by rw [he]), by rw [ht9]; exact hP, va_K.moved hW9.alike hK, hD⟩, hS.F ht9⟩) hS.2.2 dX5_setYear_70
  · have d_4 : pg_nb k 4 = false := (pg_nb4 k).trans c_4
    refine pg_iE (pg_rS (As := [.int k, .int 0, .int 3]) (rest := [.ref (a 0)]) ⟨hx, hb, hml, hown, hts⟩ (cm_in_f l D (pg_ty cI cZ) (pg_wM cI cZ a u) s.heap.size k 0 3 c_4) (va_cwS 3 hts gX5_setYear_X5_in rfl rfl rfl (by decide +kernel) ⟨Nat.le_of_ble_eq_true rfl, Nat.le_of_ble_eq_true rfl⟩) hK hP hD rfl hl.1 rfl (Nat.le_of_ble_eq_true rfl) dX5_setYear_4 ⟨Nat.le_of_ble_eq_true rfl, Nat.le_of_ble_eq_true rfl⟩) hD hS hA (fun H locs hP hD hS => ?_)
    refine lv_if_ne (tgt := 14) hx hb dX5_setYear_7 (by decide) (fun c_7 => absurd (by decide) c_7) (fun c_7 => ?_)
    refine lv_iconst (v := 1) hx hb dX5_setYear_10 (by decide) ?_
    refine lv_goto (tgt := 50) hx hb dX5_setYear_11 (by decide) ?_
    have he : e9 = 1 := hthr.symm.trans (by simp only [pg_t_setYear, d_4, cond_true, cond_false, Bool.not_true, Bool.not_false])
    refine pg_iE (pg_rV (As := [.int 1]) (rest := []) ⟨hx, hb, hml, hown, hts⟩ (cm_fine1 l D cI cZ a H.size u 1 (by decide)) (cwV 1 hts gX5_setYear_X5_isFine rfl rfl rfl (by decide +kernel) ⟨Nat.le_of_ble_eq_true rfl, Nat.le_of_ble_eq_true rfl⟩) hK hP hD 0 (ci := 5) rfl rfl rfl rfl hl.1 rfl (Nat.le_of_ble_eq_true rfl) dX5_setYear_50 ⟨Nat.le_of_ble_eq_true rfl, Nat.le_of_ble_eq_true rfl⟩) hD hS hA (fun H locs hP hD hS => ?_)
    refine lv_if_eq (tgt := 70) hx hb dX5_setYear_53 (by decide) (fun c_53 => ?_) (fun c_53 => absurd (by decide) c_53)
    exact W.vret hx hb hr (fun t9 ht9 hW9 => ⟨⟨((upd u.1 15 1), u.2), rfl, (by rw [he]), by rw [ht9]; exact hP, va_K.moved hW9.alike hK, hD⟩, hS.F ht9⟩) hS.2.2 dX5_setYear_70
set_option maxHeartbeats 4000000 in
set_option maxRecDepth 100000 in
/-- cm_setCarry: fine -/
theorem cm_setCarry_ok (l : Launch) (D : va_G) (cI cZ : ClassId) (a : Nat → Nat) (sz : Nat) (u : pg_St) (b : Int32) (hb9 : b = 0 ∨ b = 1) (hthr : pg_t_setCarry (!pg_eq (u.1 14) 0) = 0) : Met l yX5_setCarry wsX5_setCarry ({ frames := 1, cells := 0, slots := 0, locals := 22 }) (va_Pc [.ref (a 0), .int b] (pg_B D (pg_ty cI cZ) (pg_wM cI cZ a u) sz)) (va_Qv (fun u' => u' = (upd (upd u.1 15 0) 11 b, u.2)) (pg_E D (pg_ty cI cZ) (va_A (pg_wM cI cZ a u) sz) (pg_wM cI cZ a)) (va_A (pg_wM cI cZ a u) sz)) 0 0 (va_A (pg_wM cI cZ a u) sz) := by
  refine Met.ofW (cc := cX5_setCarry) (maxL := 2) (ret := none) (by decide) rfl ?_
  intro p e s m args below meth c s₁ B hml hv
  obtain ⟨rfl, hsz, hP, hK, hD0⟩ := hv
  have hx := B.exec
  have hb := B.bytes
  have hr := B.returns
  have hts := atoms_spec (ws := wsX5_setCarry) B.pre
  have hown : s.vm.findClass RX5 = some m.cls := findClass_of_methodNamed B.named
  have hlocks := B.notSynchronized
  subst hsz
  have hD := hD0.self (sz := s.heap.size)
  generalize hAe : va_A (pg_wM cI cZ a u) s.heap.size = A at hD ⊢
  have hA : ∀ q : Nat, s.heap.size ≤ q → A q := fun q h => by rw [← hAe]; exact Or.inr h
  have hS : va_S A s.heap s.heap [] := va_S.rf
  have hl := lv_entry ([.ref (a 0), .int b]) (n := 2) (Nat.le_of_ble_eq_true rfl)
  rw [lg_entry_eq]
  generalize (lg_sl ([.ref (a 0), .int b]) ++ List.replicate (2 - (lg_sl ([.ref (a 0), .int b])).length) Slot.unset).toArray = ls at hl ⊢
  have hl : lv_has ls 2 [(0, .ref (a 0)), (1, .int b)] := hl
  have hiX5 : ∀ w ∈ wsX50, w ∈ wsX5_setCarry := fun _ h => List.mem_cons_of_mem _ (List.mem_append_right _ (h))
  have hw1 := hts (.fieldLink RX5 66 "PegBoxModel" "closed" "Z") (List.mem_of_getElem? (i := 1) rfl)
  have hw2 := hts (.fieldLink RX5 84 "PegBoxModel" "carried" "Z") (List.mem_of_getElem? (i := 2) rfl)
  refine lv_aload_n hx hb dX5_setCarry_0 rfl (lv_at hl 0 rfl) ?_
  refine lv_aload_n hx hb dX5_setCarry_1 rfl (lv_at hl 0 rfl) ?_
  refine va_get (D := D) (ci := 5) (v := .int (u.1 14)) (C := RX5) (T := TX5) (N := 31) hx hb hts hiX5 hown hK hP 0 rfl rfl 13 (by decide) hw1 (fun _ h9 => h9) rfl dX5_setCarry_2 ?_
  refine lv_if_eq (tgt := 12) hx hb dX5_setCarry_5 (by decide) (fun c_5 => ?_) (fun c_5 => ?_)
  · have d_5 := pg_eq_t c_5
    refine lv_iconst (v := 0) hx hb dX5_setCarry_12 (by decide) ?_
    refine pg_iE (pg_rV (As := [.int 0]) (rest := []) ⟨hx, hb, hml, hown, hts⟩ (cm_fine0 l D cI cZ a s.heap.size u) (cwV 1 hts gX5_setCarry_X5_isFine rfl rfl rfl (by decide +kernel) ⟨Nat.le_of_ble_eq_true rfl, Nat.le_of_ble_eq_true rfl⟩) hK hP hD 0 (ci := 5) rfl rfl rfl rfl hl.1 rfl (Nat.le_of_ble_eq_true rfl) dX5_setCarry_13 ⟨Nat.le_of_ble_eq_true rfl, Nat.le_of_ble_eq_true rfl⟩) hD hS hA (fun H locs hP hD hS => ?_)
    refine lv_if_eq (tgt := 24) hx hb dX5_setCarry_16 (by decide) (fun c_16 => absurd c_16 (by decide)) (fun c_16 => ?_)
    refine lv_aload_n hx hb dX5_setCarry_19 rfl (lv_at hl 0 rfl) ?_
    refine lv_iload_n hx hb dX5_setCarry_20 rfl (lv_at hl 1 rfl) ?_
    refine va_put (D := D) (ci := 5) (v := .int b) (ty := .boolean) (C := RX5) (T := TX5) (N := 31) hx hb hts hiX5 tyX5 tyX5_ok nmX5 hown hK hP hD hS 0 rfl rfl 12 (by decide) hw2 (fun _ h9 => h9) rfl (by decide +kernel) (by rcases hb9 with rfl | rfl <;> rfl) (by rcases hb9 with rfl | rfl <;> rfl) (Nat.le_of_ble_eq_true rfl) dX5_setCarry_21 (fun H locs hP hD hS => ?_)
    have hP : va_P D vwCl (pg_wM cI cZ a ((upd (upd u.1 15 0) 11 b), u.2)) H := hP
    have hD : va_D A (pg_wM cI cZ a ((upd (upd u.1 15 0) 11 b), u.2)) := hD
    exact W.vret hx hb hr (fun t9 ht9 hW9 => ⟨⟨((upd (upd u.1 15 0) 11 b), u.2), rfl, rfl, by rw [ht9]; exact hP, va_K.moved hW9.alike hK, hD⟩, hS.F ht9⟩) hS.2.2 dX5_setCarry_24
  · have d_5 := pg_eq_f c_5
    refine lv_iconst (v := 1) hx hb dX5_setCarry_8 (by decide) ?_
    refine lv_goto (tgt := 13) hx hb dX5_setCarry_9 (by decide) ?_
    exact absurd hthr (by first | (simp only [pg_t_setCarry, d_5, cond_true, cond_false, Bool.not_true, Bool.not_false]; done) | (simp only [pg_t_setCarry, d_5, cond_true, cond_false, Bool.not_true, Bool.not_false]; decide))
set_option maxHeartbeats 4000000 in
set_option maxRecDepth 100000 in
/-- cm_setCarry: not fine -/
theorem cm_setCarry_no (l : Launch) (D : va_G) (cI cZ : ClassId) (a : Nat → Nat) (sz : Nat) (u : pg_St) (b : Int32) (hb9 : b = 0 ∨ b = 1) (e9 : Int32) (hthr : pg_t_setCarry (!pg_eq (u.1 14) 0) = e9) (h0 : e9 ≠ 0) : Met l yX5_setCarry wsX5_setCarry ({ frames := 1, cells := 0, slots := 0, locals := 22 }) (va_Pc [.ref (a 0), .int b] (pg_B D (pg_ty cI cZ) (pg_wM cI cZ a u) sz)) (va_Qv (fun u' => u' = (upd u.1 15 e9, u.2)) (pg_E D (pg_ty cI cZ) (va_A (pg_wM cI cZ a u) sz) (pg_wM cI cZ a)) (va_A (pg_wM cI cZ a u) sz)) 0 0 (va_A (pg_wM cI cZ a u) sz) := by
  refine Met.ofW (cc := cX5_setCarry) (maxL := 2) (ret := none) (by decide) rfl ?_
  intro p e s m args below meth c s₁ B hml hv
  obtain ⟨rfl, hsz, hP, hK, hD0⟩ := hv
  have hx := B.exec
  have hb := B.bytes
  have hr := B.returns
  have hts := atoms_spec (ws := wsX5_setCarry) B.pre
  have hown : s.vm.findClass RX5 = some m.cls := findClass_of_methodNamed B.named
  have hlocks := B.notSynchronized
  subst hsz
  have hD := hD0.self (sz := s.heap.size)
  generalize hAe : va_A (pg_wM cI cZ a u) s.heap.size = A at hD ⊢
  have hA : ∀ q : Nat, s.heap.size ≤ q → A q := fun q h => by rw [← hAe]; exact Or.inr h
  have hS : va_S A s.heap s.heap [] := va_S.rf
  have hl := lv_entry ([.ref (a 0), .int b]) (n := 2) (Nat.le_of_ble_eq_true rfl)
  rw [lg_entry_eq]
  generalize (lg_sl ([.ref (a 0), .int b]) ++ List.replicate (2 - (lg_sl ([.ref (a 0), .int b])).length) Slot.unset).toArray = ls at hl ⊢
  have hl : lv_has ls 2 [(0, .ref (a 0)), (1, .int b)] := hl
  have hiX5 : ∀ w ∈ wsX50, w ∈ wsX5_setCarry := fun _ h => List.mem_cons_of_mem _ (List.mem_append_right _ (h))
  have hw1 := hts (.fieldLink RX5 66 "PegBoxModel" "closed" "Z") (List.mem_of_getElem? (i := 1) rfl)
  refine lv_aload_n hx hb dX5_setCarry_0 rfl (lv_at hl 0 rfl) ?_
  refine lv_aload_n hx hb dX5_setCarry_1 rfl (lv_at hl 0 rfl) ?_
  refine va_get (D := D) (ci := 5) (v := .int (u.1 14)) (C := RX5) (T := TX5) (N := 31) hx hb hts hiX5 hown hK hP 0 rfl rfl 13 (by decide) hw1 (fun _ h9 => h9) rfl dX5_setCarry_2 ?_
  refine lv_if_eq (tgt := 12) hx hb dX5_setCarry_5 (by decide) (fun c_5 => ?_) (fun c_5 => ?_)
  · have d_5 := pg_eq_t c_5
    refine lv_iconst (v := 0) hx hb dX5_setCarry_12 (by decide) ?_
    exact absurd (hthr.symm.trans (by simp only [pg_t_setCarry, d_5, cond_true, cond_false, Bool.not_true, Bool.not_false])) h0
  · have d_5 := pg_eq_f c_5
    refine lv_iconst (v := 1) hx hb dX5_setCarry_8 (by decide) ?_
    refine lv_goto (tgt := 13) hx hb dX5_setCarry_9 (by decide) ?_
    have he : e9 = 1 := hthr.symm.trans (by simp only [pg_t_setCarry, d_5, cond_true, cond_false, Bool.not_true, Bool.not_false])
    refine pg_iE (pg_rV (As := [.int 1]) (rest := []) ⟨hx, hb, hml, hown, hts⟩ (cm_fine1 l D cI cZ a s.heap.size u 1 (by decide)) (cwV 1 hts gX5_setCarry_X5_isFine rfl rfl rfl (by decide +kernel) ⟨Nat.le_of_ble_eq_true rfl, Nat.le_of_ble_eq_true rfl⟩) hK hP hD 0 (ci := 5) rfl rfl rfl rfl hl.1 rfl (Nat.le_of_ble_eq_true rfl) dX5_setCarry_13 ⟨Nat.le_of_ble_eq_true rfl, Nat.le_of_ble_eq_true rfl⟩) hD hS hA (fun H locs hP hD hS => ?_)
    refine lv_if_eq (tgt := 24) hx hb dX5_setCarry_16 (by decide) (fun c_16 => ?_) (fun c_16 => absurd (by decide) c_16)
    exact W.vret hx hb hr (fun t9 ht9 hW9 => ⟨⟨((upd u.1 15 1), u.2), rfl, (by rw [he]), by rw [ht9]; exact hP, va_K.moved hW9.alike hK, hD⟩, hS.F ht9⟩) hS.2.2 dX5_setCarry_24
set_option maxHeartbeats 4000000 in
set_option maxRecDepth 100000 in
/-- frees() -/
theorem cm_frees (l : Launch) (D : va_G) (cI cZ : ClassId) (a : Nat → Nat) (sz : Nat) (u : pg_St) (n : Nat) (hn : u.1 10 = nI n) (h20 : n ≤ 20) : Met l yX5_frees wsX5_frees ({ frames := 0, cells := 0, slots := 0, locals := 0 }) (va_Pc [.ref (a 0)] (pg_B D (pg_ty cI cZ) (pg_wM cI cZ a u) sz)) (va_Qv (fun u' => u' = pg_free u n (u.1 3)) (pg_E D (pg_ty cI cZ) (va_A (pg_wM cI cZ a u) sz) (pg_wM cI cZ a)) (va_A (pg_wM cI cZ a u) sz)) 0 0 (va_A (pg_wM cI cZ a u) sz) := by
  refine Met.ofW (cc := cX5_frees) (maxL := 3) (ret := none) (by decide) rfl ?_
  intro p e s m args below meth c s₁ B hml hv
  obtain ⟨rfl, hsz, hP, hK, hD0⟩ := hv
  have hx := B.exec
  have hb := B.bytes
  have hr := B.returns
  have hts := atoms_spec (ws := wsX5_frees) B.pre
  have hown : s.vm.findClass RX5 = some m.cls := findClass_of_methodNamed B.named
  have hlocks := B.notSynchronized
  subst hsz
  have hD := hD0.self (sz := s.heap.size)
  generalize hAe : va_A (pg_wM cI cZ a u) s.heap.size = A at hD ⊢
  have hA : ∀ q : Nat, s.heap.size ≤ q → A q := fun q h => by rw [← hAe]; exact Or.inr h
  have hS : va_S A s.heap s.heap [] := va_S.rf
  have hl := lv_entry ([.ref (a 0)]) (n := 3) (Nat.le_of_ble_eq_true rfl)
  rw [lg_entry_eq]
  generalize (lg_sl ([.ref (a 0)]) ++ List.replicate (3 - (lg_sl ([.ref (a 0)])).length) Slot.unset).toArray = ls at hl ⊢
  have hl : lv_has ls 3 [(0, .ref (a 0))] := hl
  have hiX5 : ∀ w ∈ wsX50, w ∈ wsX5_frees := fun _ h => List.mem_cons_of_mem _ (List.mem_append_right _ (h))
  have hw1 := hts (.fieldLink RX5 13 "PegBoxModel" "partDay" "[I") (List.mem_of_getElem? (i := 1) rfl)
  have hw2 := hts (.fieldLink RX5 96 "PegBoxModel" "day" "I") (List.mem_of_getElem? (i := 2) rfl)
  have hw3 := hts (.fieldLink RX5 7 "PegBoxModel" "partAmount" "[I") (List.mem_of_getElem? (i := 3) rfl)
  have hw4 := hts (.fieldLink RX5 99 "PegBoxModel" "claims" "I") (List.mem_of_getElem? (i := 4) rfl)
  have hw5 := hts (.fieldLink RX5 47 "PegBoxModel" "settled" "[I") (List.mem_of_getElem? (i := 5) rfl)
  have hw6 := hts (.fieldLink RX5 41 "PegBoxModel" "amount" "[I") (List.mem_of_getElem? (i := 6) rfl)
  have hw7 := hts (.fieldLink RX5 90 "PegBoxModel" "held" "I") (List.mem_of_getElem? (i := 7) rfl)
  have hw8 := hts (.fieldLink RX5 93 "PegBoxModel" "paid" "I") (List.mem_of_getElem? (i := 8) rfl)
  refine lv_iconst (v := 0) hx hb dX5_frees_0 (by decide) ?_
  refine lv_istore_n (lv' := [(1, .int 0), (0, .ref (a 0))]) hx hb dX5_frees_1 rfl hl (by decide) rfl (fun ls hl => ?_)
  refine lv_iconst (v := 0) hx hb dX5_frees_2 (by decide) ?_
  refine lv_istore_n (lv' := [(2, .int 0), (1, .int 0), (0, .ref (a 0))]) hx hb dX5_frees_3 rfl hl (by decide) rfl (fun ls hl => ?_)
  have L4 : ∀ (k9 i : Nat) (x : Int32), i ≤ 4 → 4 < i + k9 → x = pg_sm (fun k => if u.2 1 k ≤ u.1 3 then 0 else u.2 0 k) i → ∀ (H : Heap) (locs : List Loc), va_P D vwCl (pg_wM cI cZ a u) H → va_D A (pg_wM cI cZ a u) → va_S A s.heap H locs → ∀ ls : Array Slot, lv_has ls 3 [(2, .int (nI i)), (1, .int x), (0, .ref (a 0))] → W p l e (headSpec wsX5_frees ({ frames := 0, cells := 0, slots := 0, locals := 0 })).room s m ([.ref (a 0)] : List Value).toArray below meth c H locs 0 0 (MQ below (va_Qv (fun u' => u' = pg_free u n (u.1 3)) (pg_E D (pg_ty cI cZ) A (pg_wM cI cZ a)) A) ([.ref (a 0)] : List Value).toArray s 0 0 A) (F0 m 4 ls []) := by
    intro k9
    induction k9 with
    | zero => intro i x h1 h2; exact absurd h2 (by omega)
    | succ k9 ih =>
      intro i x hi9 hk9 hx9 H locs hP hD hS ls hl
      subst hx9
      refine lv_iload_n hx hb dX5_frees_4 rfl (lv_at hl 0 rfl) ?_
      refine lv_iconst (v := 4) hx hb dX5_frees_5 (by decide) ?_
      refine lv_icmp_ge (tgt := 41) hx hb dX5_frees_6 (by decide) (fun c_6 => ?_) (fun c_6 => ?_)
      · have hiN : i = 4 := pg_exit (rfl) (by decide) hi9 c_6
        refine lv_iconst (v := 0) hx hb dX5_frees_41 (by decide) ?_
        refine lv_istore_n (lv' := [(2, .int 0), (1, .int (pg_sm (fun k => if u.2 1 k ≤ u.1 3 then 0 else u.2 0 k) i)), (0, .ref (a 0))]) hx hb dX5_frees_42 rfl hl (by decide) rfl (fun ls hl => ?_)
        have L43 : ∀ (k9 i2 : Nat) (x2 : Int32), i2 ≤ n → n < i2 + k9 → x2 = pg_after u.2 (u.1 3) + pg_open u.2 i2 → ∀ (H : Heap) (locs : List Loc), va_P D vwCl (pg_wM cI cZ a u) H → va_D A (pg_wM cI cZ a u) → va_S A s.heap H locs → ∀ ls : Array Slot, lv_has ls 3 [(2, .int (nI i2)), (1, .int x2), (0, .ref (a 0))] → W p l e (headSpec wsX5_frees ({ frames := 0, cells := 0, slots := 0, locals := 0 })).room s m ([.ref (a 0)] : List Value).toArray below meth c H locs 0 0 (MQ below (va_Qv (fun u' => u' = pg_free u n (u.1 3)) (pg_E D (pg_ty cI cZ) A (pg_wM cI cZ a)) A) ([.ref (a 0)] : List Value).toArray s 0 0 A) (F0 m 43 ls []) := by
          intro k9
          induction k9 with
          | zero => intro i2 x2 h1 h2; exact absurd h2 (by omega)
          | succ k9 ih =>
            intro i2 x2 hi9 hk9 hx29 H locs hP hD hS ls hl
            subst hx29
            refine lv_iload_n hx hb dX5_frees_43 rfl (lv_at hl 0 rfl) ?_
            refine lv_aload_n hx hb dX5_frees_44 rfl (lv_at hl 2 rfl) ?_
            refine va_get (D := D) (ci := 5) (v := .int (u.1 10)) (C := RX5) (T := TX5) (N := 31) hx hb hts hiX5 hown hK hP 0 rfl rfl 25 (by decide) hw4 (fun _ h9 => h9) rfl dX5_frees_45 ?_
            rw [hn]
            refine lv_icmp_ge (tgt := 80) hx hb dX5_frees_48 (by decide) (fun c_48 => ?_) (fun c_48 => ?_)
            · have hiN : i2 = n := pg_exit (rfl) (by omega) hi9 c_48
              rw [hiN] at hl
              have hl : lv_has ls 3 [(2, .int (nI n)), (1, .int (pg_kept u n (u.1 3))), (0, .ref (a 0))] := hl
              refine lv_aload_n hx hb dX5_frees_80 rfl (lv_at hl 2 rfl) ?_
              refine va_get (D := D) (ci := 5) (v := .int (u.1 5)) (C := RX5) (T := TX5) (N := 31) hx hb hts hiX5 hown hK hP 0 rfl rfl 16 (by decide) hw7 (fun _ h9 => h9) rfl dX5_frees_81 ?_
              refine lv_iload_n hx hb dX5_frees_84 rfl (lv_at hl 1 rfl) ?_
              refine lv_icmp_le (tgt := 108) hx hb dX5_frees_85 (by decide) (fun c_85 => ?_) (fun c_85 => ?_)
              · exact W.vret hx hb hr (fun t9 ht9 hW9 => ⟨⟨u, rfl, (by rw [pg_free, if_pos c_85]), by rw [ht9]; exact hP, va_K.moved hW9.alike hK, hD⟩, hS.F ht9⟩) hS.2.2 dX5_frees_108
              · refine lv_aload_n hx hb dX5_frees_88 rfl (lv_at hl 2 rfl) ?_
                refine lv_dup hx hb dX5_frees_89 rfl ?_
                refine va_get (D := D) (ci := 5) (v := .int (u.1 6)) (C := RX5) (T := TX5) (N := 31) hx hb hts hiX5 hown hK hP 0 rfl rfl 17 (by decide) hw8 (fun _ h9 => h9) rfl dX5_frees_90 ?_
                refine lv_aload_n hx hb dX5_frees_93 rfl (lv_at hl 2 rfl) ?_
                refine va_get (D := D) (ci := 5) (v := .int (u.1 5)) (C := RX5) (T := TX5) (N := 31) hx hb hts hiX5 hown hK hP 0 rfl rfl 16 (by decide) hw7 (fun _ h9 => h9) rfl dX5_frees_94 ?_
                refine lv_iload_n hx hb dX5_frees_97 rfl (lv_at hl 1 rfl) ?_
                refine lv_isub hx hb dX5_frees_98 ?_
                refine lv_iadd hx hb dX5_frees_99 ?_
                refine va_put (D := D) (ci := 5) (v := .int ((u.1 6) + ((u.1 5) - (pg_kept u n (u.1 3))))) (ty := .int) (C := RX5) (T := TX5) (N := 31) hx hb hts hiX5 tyX5 tyX5_ok nmX5 hown hK hP hD hS 0 rfl rfl 17 (by decide) hw8 (fun _ h9 => h9) rfl (by decide +kernel) rfl rfl (Nat.le_of_ble_eq_true rfl) dX5_frees_100 (fun H locs hP hD hS => ?_)
                have hP : va_P D vwCl (pg_wM cI cZ a ((upd u.1 6 ((u.1 6) + ((u.1 5) - (pg_kept u n (u.1 3))))), u.2)) H := hP
                have hD : va_D A (pg_wM cI cZ a ((upd u.1 6 ((u.1 6) + ((u.1 5) - (pg_kept u n (u.1 3))))), u.2)) := hD
                refine lv_aload_n hx hb dX5_frees_103 rfl (lv_at hl 2 rfl) ?_
                refine lv_iload_n hx hb dX5_frees_104 rfl (lv_at hl 1 rfl) ?_
                refine va_put (D := D) (ci := 5) (v := .int (pg_kept u n (u.1 3))) (ty := .int) (C := RX5) (T := TX5) (N := 31) hx hb hts hiX5 tyX5 tyX5_ok nmX5 hown hK hP hD hS 0 rfl rfl 16 (by decide) hw7 (fun _ h9 => h9) rfl (by decide +kernel) rfl rfl (Nat.le_of_ble_eq_true rfl) dX5_frees_105 (fun H locs hP hD hS => ?_)
                have hP : va_P D vwCl (pg_wM cI cZ a ((upd (upd u.1 6 ((u.1 6) + ((u.1 5) - (pg_kept u n (u.1 3))))) 5 (pg_kept u n (u.1 3))), u.2)) H := hP
                have hD : va_D A (pg_wM cI cZ a ((upd (upd u.1 6 ((u.1 6) + ((u.1 5) - (pg_kept u n (u.1 3))))) 5 (pg_kept u n (u.1 3))), u.2)) := hD
                exact W.vret hx hb hr (fun t9 ht9 hW9 => ⟨⟨((upd (upd u.1 6 ((u.1 6) + ((u.1 5) - (pg_kept u n (u.1 3))))) 5 (pg_kept u n (u.1 3))), u.2), rfl, (by rw [pg_free, if_neg c_85]), by rw [ht9]; exact hP, va_K.moved hW9.alike hK, hD⟩, hS.F ht9⟩) hS.2.2 dX5_frees_108
            · have hlt : i2 < n := pg_stay (rfl) (by omega) c_48
              refine lv_iload_n hx hb dX5_frees_51 rfl (lv_at hl 1 rfl) ?_
              refine lv_aload_n hx hb dX5_frees_52 rfl (lv_at hl 2 rfl) ?_
              refine va_get (D := D) (ci := 5) (v := .ref (a 11)) (C := RX5) (T := TX5) (N := 31) hx hb hts hiX5 hown hK hP 0 rfl rfl 24 (by decide) hw5 (fun _ h9 => h9) rfl dX5_frees_53 ?_
              refine lv_iload_n hx hb dX5_frees_56 rfl (lv_at hl 0 rfl) ?_
              refine pg_ild (f := u.2 10) hx hb hK hP 11 0 rfl rfl (show i2 < _ by omega) (by decide) dX5_frees_57 ?_
              refine lv_iconst (v := (-1)) hx hb dX5_frees_58 (by decide) ?_
              refine lv_icmp_ne (tgt := 71) hx hb dX5_frees_59 (by decide) (fun c_59 => ?_) (fun c_59 => ?_)
              · refine lv_iconst (v := 0) hx hb dX5_frees_71 (by decide) ?_
                refine lv_iadd hx hb dX5_frees_72 ?_
                refine lv_istore_n (lv' := [(1, .int ((pg_after u.2 (u.1 3) + pg_open u.2 i2) + 0)), (2, .int (nI i2)), (0, .ref (a 0))]) hx hb dX5_frees_73 rfl hl (by decide) rfl (fun ls hl => ?_)
                refine lv_iinc (v := nI (i2 + 1)) (lv' := [(2, .int (nI (i2 + 1))), (1, .int ((pg_after u.2 (u.1 3) + pg_open u.2 i2) + 0)), (0, .ref (a 0))]) hx hb dX5_frees_74 hl (k := 1) rfl (by rw [nI_succ]; rfl) (by decide) rfl (fun ls hl => ?_)
                refine lv_goto (tgt := 43) hx hb dX5_frees_77 (by decide) ?_
                exact ih (i2 + 1) ((pg_after u.2 (u.1 3) + pg_open u.2 i2) + 0) (by omega) (by omega) (by rw [← pg_kept_s, if_neg c_59]) _ _ hP hD hS ls (lv_sub hl [0, 1, 2] rfl)
              · refine lv_aload_n hx hb dX5_frees_62 rfl (lv_at hl 2 rfl) ?_
                refine va_get (D := D) (ci := 5) (v := .ref (a 9)) (C := RX5) (T := TX5) (N := 31) hx hb hts hiX5 hown hK hP 0 rfl rfl 22 (by decide) hw6 (fun _ h9 => h9) rfl dX5_frees_63 ?_
                refine lv_iload_n hx hb dX5_frees_66 rfl (lv_at hl 0 rfl) ?_
                refine pg_ild (f := u.2 8) hx hb hK hP 9 0 rfl rfl (show i2 < _ by omega) (by decide) dX5_frees_67 ?_
                refine lv_goto (tgt := 72) hx hb dX5_frees_68 (by decide) ?_
                refine lv_iadd hx hb dX5_frees_72 ?_
                refine lv_istore_n (lv' := [(1, .int ((pg_after u.2 (u.1 3) + pg_open u.2 i2) + (u.2 8 i2))), (2, .int (nI i2)), (0, .ref (a 0))]) hx hb dX5_frees_73 rfl hl (by decide) rfl (fun ls hl => ?_)
                refine lv_iinc (v := nI (i2 + 1)) (lv' := [(2, .int (nI (i2 + 1))), (1, .int ((pg_after u.2 (u.1 3) + pg_open u.2 i2) + (u.2 8 i2))), (0, .ref (a 0))]) hx hb dX5_frees_74 hl (k := 1) rfl (by rw [nI_succ]; rfl) (by decide) rfl (fun ls hl => ?_)
                refine lv_goto (tgt := 43) hx hb dX5_frees_77 (by decide) ?_
                exact ih (i2 + 1) ((pg_after u.2 (u.1 3) + pg_open u.2 i2) + (u.2 8 i2)) (by omega) (by omega) (by rw [← pg_kept_s, if_pos c_59]) _ _ hP hD hS ls (lv_sub hl [0, 1, 2] rfl)
        exact L43 (n + 1) 0 (pg_sm (fun k => if u.2 1 k ≤ u.1 3 then 0 else u.2 0 k) i) (by omega) (by omega) (by rw [hiN]; exact (pg_a0 _).symm) _ _ hP hD hS ls hl
      · have hlt : i < 4 := pg_stay (rfl) (by omega) c_6
        refine lv_iload_n hx hb dX5_frees_9 rfl (lv_at hl 1 rfl) ?_
        refine lv_aload_n hx hb dX5_frees_10 rfl (lv_at hl 2 rfl) ?_
        refine va_get (D := D) (ci := 5) (v := .ref (a 2)) (C := RX5) (T := TX5) (N := 31) hx hb hts hiX5 hown hK hP 0 rfl rfl 4 (by decide) hw1 (fun _ h9 => h9) rfl dX5_frees_11 ?_
        refine lv_iload_n hx hb dX5_frees_14 rfl (lv_at hl 0 rfl) ?_
        refine pg_ild (f := u.2 1) hx hb hK hP 2 0 rfl rfl (show i < _ by omega) (by decide) dX5_frees_15 ?_
        refine lv_aload_n hx hb dX5_frees_16 rfl (lv_at hl 2 rfl) ?_
        refine va_get (D := D) (ci := 5) (v := .int (u.1 3)) (C := RX5) (T := TX5) (N := 31) hx hb hts hiX5 hown hK hP 0 rfl rfl 14 (by decide) hw2 (fun _ h9 => h9) rfl dX5_frees_17 ?_
        refine lv_icmp_le (tgt := 32) hx hb dX5_frees_20 (by decide) (fun c_20 => ?_) (fun c_20 => ?_)
        · refine lv_iconst (v := 0) hx hb dX5_frees_32 (by decide) ?_
          refine lv_iadd hx hb dX5_frees_33 ?_
          refine lv_istore_n (lv' := [(1, .int ((pg_sm (fun k => if u.2 1 k ≤ u.1 3 then 0 else u.2 0 k) i) + 0)), (2, .int (nI i)), (0, .ref (a 0))]) hx hb dX5_frees_34 rfl hl (by decide) rfl (fun ls hl => ?_)
          refine lv_iinc (v := nI (i + 1)) (lv' := [(2, .int (nI (i + 1))), (1, .int ((pg_sm (fun k => if u.2 1 k ≤ u.1 3 then 0 else u.2 0 k) i) + 0)), (0, .ref (a 0))]) hx hb dX5_frees_35 hl (k := 1) rfl (by rw [nI_succ]; rfl) (by decide) rfl (fun ls hl => ?_)
          refine lv_goto (tgt := 4) hx hb dX5_frees_38 (by decide) ?_
          exact ih (i + 1) ((pg_sm (fun k => if u.2 1 k ≤ u.1 3 then 0 else u.2 0 k) i) + 0) (by omega) (by omega) (by show pg_sm (fun k => if u.2 1 k ≤ u.1 3 then 0 else u.2 0 k) i + 0 = pg_sm (fun k => if u.2 1 k ≤ u.1 3 then 0 else u.2 0 k) i + (if u.2 1 i ≤ u.1 3 then 0 else u.2 0 i); rw [if_pos c_20]) _ _ hP hD hS ls (lv_sub hl [0, 1, 2] rfl)
        · refine lv_aload_n hx hb dX5_frees_23 rfl (lv_at hl 2 rfl) ?_
          refine va_get (D := D) (ci := 5) (v := .ref (a 1)) (C := RX5) (T := TX5) (N := 31) hx hb hts hiX5 hown hK hP 0 rfl rfl 3 (by decide) hw3 (fun _ h9 => h9) rfl dX5_frees_24 ?_
          refine lv_iload_n hx hb dX5_frees_27 rfl (lv_at hl 0 rfl) ?_
          refine pg_ild (f := u.2 0) hx hb hK hP 1 0 rfl rfl (show i < _ by omega) (by decide) dX5_frees_28 ?_
          refine lv_goto (tgt := 33) hx hb dX5_frees_29 (by decide) ?_
          refine lv_iadd hx hb dX5_frees_33 ?_
          refine lv_istore_n (lv' := [(1, .int ((pg_sm (fun k => if u.2 1 k ≤ u.1 3 then 0 else u.2 0 k) i) + (u.2 0 i))), (2, .int (nI i)), (0, .ref (a 0))]) hx hb dX5_frees_34 rfl hl (by decide) rfl (fun ls hl => ?_)
          refine lv_iinc (v := nI (i + 1)) (lv' := [(2, .int (nI (i + 1))), (1, .int ((pg_sm (fun k => if u.2 1 k ≤ u.1 3 then 0 else u.2 0 k) i) + (u.2 0 i))), (0, .ref (a 0))]) hx hb dX5_frees_35 hl (k := 1) rfl (by rw [nI_succ]; rfl) (by decide) rfl (fun ls hl => ?_)
          refine lv_goto (tgt := 4) hx hb dX5_frees_38 (by decide) ?_
          exact ih (i + 1) ((pg_sm (fun k => if u.2 1 k ≤ u.1 3 then 0 else u.2 0 k) i) + (u.2 0 i)) (by omega) (by omega) (by show pg_sm (fun k => if u.2 1 k ≤ u.1 3 then 0 else u.2 0 k) i + u.2 0 i = pg_sm (fun k => if u.2 1 k ≤ u.1 3 then 0 else u.2 0 k) i + (if u.2 1 i ≤ u.1 3 then 0 else u.2 0 i); rw [if_neg c_20]) _ _ hP hD hS ls (lv_sub hl [0, 1, 2] rfl)
  exact L4 (4 + 1) 0 0 (by omega) (by omega) rfl _ _ hP hD hS ls hl
set_option maxHeartbeats 4000000 in
set_option maxRecDepth 100000 in
/-- cm_close: fine -/
theorem cm_close_ok (l : Launch) (D : va_G) (cI cZ : ClassId) (a : Nat → Nat) (sz : Nat) (u : pg_St) (x y1 z : Int32) (hthr : pg_t_close (!pg_eq (u.1 14) 0) x y1 z = 0) : Met l yX5_close wsX5_close ({ frames := 1, cells := 0, slots := 0, locals := 22 }) (va_Pc [.ref (a 0), .int x, .int y1, .int z] (pg_B D (pg_ty cI cZ) (pg_wM cI cZ a u) sz)) (va_Qi (fun r u' => r = pg_fin u x y1 z ∧ u' = (upd (upd (upd (upd (upd u.1 15 0) 4 (pg_fin u x y1 z)) 5 (pg_hold u x y1 z)) 6 (pg_fin u x y1 z - pg_hold u x y1 z)) 14 1, u.2)) (pg_E D (pg_ty cI cZ) (va_A (pg_wM cI cZ a u) sz) (pg_wM cI cZ a)) (va_A (pg_wM cI cZ a u) sz)) 0 0 (va_A (pg_wM cI cZ a u) sz) := by
  refine Met.ofW (cc := cX5_close) (maxL := 9) (ret := (some .int)) (by decide) rfl ?_
  intro p e s m args below meth c s₁ B hml hv
  obtain ⟨rfl, hsz, hP, hK, hD0⟩ := hv
  have hx := B.exec
  have hb := B.bytes
  have hr := B.returns
  have hts := atoms_spec (ws := wsX5_close) B.pre
  have hown : s.vm.findClass RX5 = some m.cls := findClass_of_methodNamed B.named
  have hlocks := B.notSynchronized
  subst hsz
  have hD := hD0.self (sz := s.heap.size)
  generalize hAe : va_A (pg_wM cI cZ a u) s.heap.size = A at hD ⊢
  have hA : ∀ q : Nat, s.heap.size ≤ q → A q := fun q h => by rw [← hAe]; exact Or.inr h
  have hS : va_S A s.heap s.heap [] := va_S.rf
  have hl := lv_entry ([.ref (a 0), .int x, .int y1, .int z]) (n := 9) (Nat.le_of_ble_eq_true rfl)
  rw [lg_entry_eq]
  generalize (lg_sl ([.ref (a 0), .int x, .int y1, .int z]) ++ List.replicate (9 - (lg_sl ([.ref (a 0), .int x, .int y1, .int z])).length) Slot.unset).toArray = ls at hl ⊢
  have hl : lv_has ls 9 [(0, .ref (a 0)), (1, .int x), (2, .int y1), (3, .int z)] := hl
  have hiX5 : ∀ w ∈ wsX50, w ∈ wsX5_close := fun _ h => List.mem_cons_of_mem _ (List.mem_append_right _ (h))
  have hw1 := hts (.constant RX5 60 (10000000)) (List.mem_of_getElem? (i := 1) rfl)
  have hw2 := hts (.constant RX5 65 (-10000000)) (List.mem_of_getElem? (i := 2) rfl)
  have hw3 := hts (.fieldLink RX5 66 "PegBoxModel" "closed" "Z") (List.mem_of_getElem? (i := 3) rfl)
  have hw4 := hts (.fieldLink RX5 77 "PegBoxModel" "peg" "I") (List.mem_of_getElem? (i := 4) rfl)
  have hw5 := hts (.fieldLink RX5 80 "PegBoxModel" "collar" "I") (List.mem_of_getElem? (i := 5) rfl)
  have hw6 := hts (.fieldLink RX5 74 "PegBoxModel" "price" "I") (List.mem_of_getElem? (i := 6) rfl)
  have hw7 := hts (.fieldLink RX5 87 "PegBoxModel" "finals" "I") (List.mem_of_getElem? (i := 7) rfl)
  have hw8 := hts (.fieldLink RX5 7 "PegBoxModel" "partAmount" "[I") (List.mem_of_getElem? (i := 8) rfl)
  have hw9 := hts (.fieldLink RX5 90 "PegBoxModel" "held" "I") (List.mem_of_getElem? (i := 9) rfl)
  have hw10 := hts (.fieldLink RX5 93 "PegBoxModel" "paid" "I") (List.mem_of_getElem? (i := 10) rfl)
  refine lv_aload_n hx hb dX5_close_0 rfl (lv_at hl 0 rfl) ?_
  refine lv_iload_n hx hb dX5_close_1 rfl (lv_at hl 1 rfl) ?_
  refine lv_iconst (v := 0) hx hb dX5_close_2 (by decide) ?_
  refine lv_ldc hx hb hown hw1 dX5_close_3 ?_
  rcases Bool.eq_false_or_eq_true (pg_in x 0 10000000) with c_5 | c_5
  · refine pg_iE (pg_rS (As := [.int x, .int 0, .int 10000000]) (rest := [.ref (a 0)]) ⟨hx, hb, hml, hown, hts⟩ (cm_in_t l D (pg_ty cI cZ) (pg_wM cI cZ a u) s.heap.size x 0 10000000 c_5) (va_cwS 3 hts gX5_close_X5_in rfl rfl rfl (by decide +kernel) ⟨Nat.le_of_ble_eq_true rfl, Nat.le_of_ble_eq_true rfl⟩) hK hP hD rfl hl.1 rfl (Nat.le_of_ble_eq_true rfl) dX5_close_5 ⟨Nat.le_of_ble_eq_true rfl, Nat.le_of_ble_eq_true rfl⟩) hD hS hA (fun H locs hP hD hS => ?_)
    refine lv_if_eq (tgt := 32) hx hb dX5_close_8 (by decide) (fun c_8 => absurd c_8 (by decide)) (fun c_8 => ?_)
    refine lv_iload_n hx hb dX5_close_11 rfl (lv_at hl 2 rfl) ?_
    refine lv_iconst (v := 0) hx hb dX5_close_12 (by decide) ?_
    refine lv_ldc hx hb hown hw1 dX5_close_13 ?_
    rcases Bool.eq_false_or_eq_true (pg_in y1 0 10000000) with c_15 | c_15
    · refine pg_iE (pg_rS (As := [.int y1, .int 0, .int 10000000]) (rest := [.ref (a 0)]) ⟨hx, hb, hml, hown, hts⟩ (cm_in_t l D (pg_ty cI cZ) (pg_wM cI cZ a u) H.size y1 0 10000000 c_15) (va_cwS 3 hts gX5_close_X5_in rfl rfl rfl (by decide +kernel) ⟨Nat.le_of_ble_eq_true rfl, Nat.le_of_ble_eq_true rfl⟩) hK hP hD rfl hl.1 rfl (Nat.le_of_ble_eq_true rfl) dX5_close_15 ⟨Nat.le_of_ble_eq_true rfl, Nat.le_of_ble_eq_true rfl⟩) hD hS hA (fun H locs hP hD hS => ?_)
      refine lv_if_eq (tgt := 32) hx hb dX5_close_18 (by decide) (fun c_18 => absurd c_18 (by decide)) (fun c_18 => ?_)
      refine lv_iload_n hx hb dX5_close_21 rfl (lv_at hl 3 rfl) ?_
      refine lv_ldc hx hb hown hw2 dX5_close_22 ?_
      refine lv_ldc hx hb hown hw1 dX5_close_24 ?_
      rcases Bool.eq_false_or_eq_true (pg_in z (-10000000) 10000000) with c_26 | c_26
      · refine pg_iE (pg_rS (As := [.int z, .int (-10000000), .int 10000000]) (rest := [.ref (a 0)]) ⟨hx, hb, hml, hown, hts⟩ (cm_in_t l D (pg_ty cI cZ) (pg_wM cI cZ a u) H.size z (-10000000) 10000000 c_26) (va_cwS 3 hts gX5_close_X5_in rfl rfl rfl (by decide +kernel) ⟨Nat.le_of_ble_eq_true rfl, Nat.le_of_ble_eq_true rfl⟩) hK hP hD rfl hl.1 rfl (Nat.le_of_ble_eq_true rfl) dX5_close_26 ⟨Nat.le_of_ble_eq_true rfl, Nat.le_of_ble_eq_true rfl⟩) hD hS hA (fun H locs hP hD hS => ?_)
        refine lv_if_ne (tgt := 36) hx hb dX5_close_29 (by decide) (fun c_29 => ?_) (fun c_29 => absurd c_29 (by decide))
        refine lv_aload_n hx hb dX5_close_36 rfl (lv_at hl 0 rfl) ?_
        refine va_get (D := D) (ci := 5) (v := .int (u.1 14)) (C := RX5) (T := TX5) (N := 31) hx hb hts hiX5 hown hK hP 0 rfl rfl 13 (by decide) hw3 (fun _ h9 => h9) rfl dX5_close_37 ?_
        refine lv_if_eq (tgt := 47) hx hb dX5_close_40 (by decide) (fun c_40 => ?_) (fun c_40 => ?_)
        · have d_40 := pg_eq_t c_40
          refine lv_iconst (v := 0) hx hb dX5_close_47 (by decide) ?_
          refine pg_iE (pg_rV (As := [.int 0]) (rest := []) ⟨hx, hb, hml, hown, hts⟩ (cm_fine0 l D cI cZ a H.size u) (cwV 1 hts gX5_close_X5_isFine rfl rfl rfl (by decide +kernel) ⟨Nat.le_of_ble_eq_true rfl, Nat.le_of_ble_eq_true rfl⟩) hK hP hD 0 (ci := 5) rfl rfl rfl rfl hl.1 rfl (Nat.le_of_ble_eq_true rfl) dX5_close_48 ⟨Nat.le_of_ble_eq_true rfl, Nat.le_of_ble_eq_true rfl⟩) hD hS hA (fun H locs hP hD hS => ?_)
          refine lv_if_ne (tgt := 56) hx hb dX5_close_51 (by decide) (fun c_51 => ?_) (fun c_51 => absurd c_51 (by decide))
          refine lv_iload_n hx hb dX5_close_56 rfl (lv_at hl 3 rfl) ?_
          refine lv_aload_n hx hb dX5_close_57 rfl (lv_at hl 0 rfl) ?_
          refine va_get (D := D) (ci := 5) (v := .int (u.1 1)) (C := RX5) (T := TX5) (N := 31) hx hb hts hiX5 hown hK hP 0 rfl rfl 1 (by decide) hw4 (fun _ h9 => h9) rfl dX5_close_58 ?_
          refine lv_isub hx hb dX5_close_61 ?_
          refine lv_istore (lv' := [(4, .int (z - (u.1 1))), (0, .ref (a 0)), (1, .int x), (2, .int y1), (3, .int z)]) hx hb dX5_close_62 hl (by decide) rfl (fun ls hl => ?_)
          refine lv_iload hx hb dX5_close_64 (lv_at hl 0 rfl) ?_
          refine lv_aload_n hx hb dX5_close_66 rfl (lv_at hl 1 rfl) ?_
          refine va_get (D := D) (ci := 5) (v := .int (u.1 2)) (C := RX5) (T := TX5) (N := 31) hx hb hts hiX5 hown hK hP 0 rfl rfl 2 (by decide) hw5 (fun _ h9 => h9) rfl dX5_close_67 ?_
          refine lv_icmp_le (tgt := 83) hx hb dX5_close_70 (by decide) (fun c_70 => ?_) (fun c_70 => ?_)
          · refine lv_iload hx hb dX5_close_83 (lv_at hl 0 rfl) ?_
            refine lv_aload_n hx hb dX5_close_85 rfl (lv_at hl 1 rfl) ?_
            refine va_get (D := D) (ci := 5) (v := .int (u.1 2)) (C := RX5) (T := TX5) (N := 31) hx hb hts hiX5 hown hK hP 0 rfl rfl 2 (by decide) hw5 (fun _ h9 => h9) rfl dX5_close_86 ?_
            refine lv_ineg hx hb dX5_close_89 ?_
            refine lv_icmp_ge (tgt := 103) hx hb dX5_close_90 (by decide) (fun c_90 => ?_) (fun c_90 => ?_)
            · refine lv_iconst (v := 0) hx hb dX5_close_103 (by decide) ?_
              refine lv_topi (fun f0 ef0 => ?_)
              have e0 : f0 = pg_col u.1 (z - u.1 1) := by rw [ef0, pg_col, if_pos c_70, if_pos c_90]
              refine lv_istore (lv' := [(5, .int f0), (4, .int (z - (u.1 1))), (0, .ref (a 0)), (1, .int x), (2, .int y1), (3, .int z)]) hx hb dX5_close_104 hl (by decide) rfl (fun ls hl => ?_)
              refine lv_aload_n hx hb dX5_close_106 rfl (lv_at hl 2 rfl) ?_
              refine va_get (D := D) (ci := 5) (v := .int (u.1 0)) (C := RX5) (T := TX5) (N := 31) hx hb hts hiX5 hown hK hP 0 rfl rfl 0 (by decide) hw6 (fun _ h9 => h9) rfl dX5_close_107 ?_
              refine lv_iload_n hx hb dX5_close_110 rfl (lv_at hl 3 rfl) ?_
              refine lv_iadd hx hb dX5_close_111 ?_
              refine lv_iload_n hx hb dX5_close_112 rfl (lv_at hl 4 rfl) ?_
              refine lv_isub hx hb dX5_close_113 ?_
              refine lv_iload hx hb dX5_close_114 (lv_at hl 0 rfl) ?_
              refine lv_iadd hx hb dX5_close_116 ?_
              refine lv_istore (lv' := [(6, .int ((((u.1 0) + x) - y1) + f0)), (5, .int f0), (4, .int (z - (u.1 1))), (0, .ref (a 0)), (1, .int x), (2, .int y1), (3, .int z)]) hx hb dX5_close_117 hl (by decide) rfl (fun ls hl => ?_)
              refine lv_aload_n hx hb dX5_close_119 rfl (lv_at hl 3 rfl) ?_
              refine lv_iload hx hb dX5_close_120 (lv_at hl 0 rfl) ?_
              refine lv_if_ge (tgt := 129) hx hb dX5_close_122 (by decide) (fun c_122 => ?_) (fun c_122 => ?_)
              · refine lv_iload hx hb dX5_close_129 (lv_at hl 0 rfl) ?_
                refine lv_topi (fun f1 ef1 => ?_)
                have e1 : f1 = pg_fin u x y1 z := by rw [ef1, e0, pg_fin, ← pg_max_m, if_pos (by rw [← e0]; exact c_122)]
                refine va_put (D := D) (ci := 5) (v := .int f1) (ty := .int) (C := RX5) (T := TX5) (N := 31) hx hb hts hiX5 tyX5 tyX5_ok nmX5 hown hK hP hD hS 0 rfl rfl 15 (by decide) hw7 (fun _ h9 => h9) rfl (by decide +kernel) rfl rfl (Nat.le_of_ble_eq_true rfl) dX5_close_131 (fun H locs hP hD hS => ?_)
                have hP : va_P D vwCl (pg_wM cI cZ a ((upd (upd u.1 15 0) 4 f1), u.2)) H := hP
                have hD : va_D A (pg_wM cI cZ a ((upd (upd u.1 15 0) 4 f1), u.2)) := hD
                refine lv_iconst (v := 0) hx hb dX5_close_134 (by decide) ?_
                refine lv_istore (lv' := [(7, .int 0), (6, .int ((((u.1 0) + x) - y1) + f0)), (5, .int f0), (4, .int (z - (u.1 1))), (0, .ref (a 0)), (1, .int x), (2, .int y1), (3, .int z)]) hx hb dX5_close_135 hl (by decide) rfl (fun ls hl => ?_)
                refine lv_iconst (v := 0) hx hb dX5_close_137 (by decide) ?_
                refine lv_istore (lv' := [(8, .int 0), (7, .int 0), (6, .int ((((u.1 0) + x) - y1) + f0)), (5, .int f0), (4, .int (z - (u.1 1))), (0, .ref (a 0)), (1, .int x), (2, .int y1), (3, .int z)]) hx hb dX5_close_138 hl (by decide) rfl (fun ls hl => ?_)
                have L140 : ∀ (k9 i : Nat) (s9 : Int32), i ≤ 4 → 4 < i + k9 → s9 = pg_sm (u.2 0) i → ∀ (H : Heap) (locs : List Loc), va_P D vwCl (pg_wM cI cZ a ((upd (upd u.1 15 0) 4 f1), u.2)) H → va_D A (pg_wM cI cZ a ((upd (upd u.1 15 0) 4 f1), u.2)) → va_S A s.heap H locs → ∀ ls : Array Slot, lv_has ls 9 [(8, .int (nI i)), (7, .int s9), (6, .int ((((u.1 0) + x) - y1) + f0)), (5, .int f0), (4, .int (z - (u.1 1))), (0, .ref (a 0)), (1, .int x), (2, .int y1), (3, .int z)] → W p l e (headSpec wsX5_close ({ frames := 1, cells := 0, slots := 0, locals := 22 })).room s m ([.ref (a 0), .int x, .int y1, .int z] : List Value).toArray below meth c H locs 0 0 (MQ below (va_Qi (fun r u' => r = pg_fin u x y1 z ∧ u' = (upd (upd (upd (upd (upd u.1 15 0) 4 (pg_fin u x y1 z)) 5 (pg_hold u x y1 z)) 6 (pg_fin u x y1 z - pg_hold u x y1 z)) 14 1, u.2)) (pg_E D (pg_ty cI cZ) A (pg_wM cI cZ a)) A) ([.ref (a 0), .int x, .int y1, .int z] : List Value).toArray s 0 0 A) (F0 m 140 ls []) := by
                  intro k9
                  induction k9 with
                  | zero => intro i s9 h1 h2; exact absurd h2 (by omega)
                  | succ k9 ih =>
                    intro i s9 hi9 hk9 hs99 H locs hP hD hS ls hl
                    subst hs99
                    refine lv_iload hx hb dX5_close_140 (lv_at hl 0 rfl) ?_
                    refine lv_iconst (v := 4) hx hb dX5_close_142 (by decide) ?_
                    refine lv_icmp_ge (tgt := 164) hx hb dX5_close_143 (by decide) (fun c_143 => ?_) (fun c_143 => ?_)
                    · have hiN : i = 4 := pg_exit (rfl) (by decide) hi9 c_143
                      subst hiN
                      refine lv_aload_n hx hb dX5_close_164 rfl (lv_at hl 5 rfl) ?_
                      refine lv_iload hx hb dX5_close_165 (lv_at hl 1 rfl) ?_
                      refine lv_aload_n hx hb dX5_close_167 rfl (lv_at hl 5 rfl) ?_
                      refine va_get (D := D) (ci := 5) (v := .int f1) (C := RX5) (T := TX5) (N := 31) hx hb hts hiX5 hown hK hP 0 rfl rfl 15 (by decide) hw7 (fun _ h9 => h9) rfl dX5_close_168 ?_
                      refine lv_icmp_ge (tgt := 179) hx hb dX5_close_171 (by decide) (fun c_171 => ?_) (fun c_171 => ?_)
                      · refine lv_aload_n hx hb dX5_close_179 rfl (lv_at hl 5 rfl) ?_
                        refine va_get (D := D) (ci := 5) (v := .int f1) (C := RX5) (T := TX5) (N := 31) hx hb hts hiX5 hown hK hP 0 rfl rfl 15 (by decide) hw7 (fun _ h9 => h9) rfl dX5_close_180 ?_
                        refine lv_topi (fun f2 ef2 => ?_)
                        have e2 : f2 = pg_hold u x y1 z := by rw [ef2, pg_hold, ← pg_min_m, ← e1, if_pos c_171]
                        refine va_put (D := D) (ci := 5) (v := .int f2) (ty := .int) (C := RX5) (T := TX5) (N := 31) hx hb hts hiX5 tyX5 tyX5_ok nmX5 hown hK hP hD hS 0 rfl rfl 16 (by decide) hw9 (fun _ h9 => h9) rfl (by decide +kernel) rfl rfl (Nat.le_of_ble_eq_true rfl) dX5_close_183 (fun H locs hP hD hS => ?_)
                        have hP : va_P D vwCl (pg_wM cI cZ a ((upd (upd (upd u.1 15 0) 4 f1) 5 f2), u.2)) H := hP
                        have hD : va_D A (pg_wM cI cZ a ((upd (upd (upd u.1 15 0) 4 f1) 5 f2), u.2)) := hD
                        refine lv_aload_n hx hb dX5_close_186 rfl (lv_at hl 5 rfl) ?_
                        refine lv_aload_n hx hb dX5_close_187 rfl (lv_at hl 5 rfl) ?_
                        refine va_get (D := D) (ci := 5) (v := .int f1) (C := RX5) (T := TX5) (N := 31) hx hb hts hiX5 hown hK hP 0 rfl rfl 15 (by decide) hw7 (fun _ h9 => h9) rfl dX5_close_188 ?_
                        refine lv_aload_n hx hb dX5_close_191 rfl (lv_at hl 5 rfl) ?_
                        refine va_get (D := D) (ci := 5) (v := .int f2) (C := RX5) (T := TX5) (N := 31) hx hb hts hiX5 hown hK hP 0 rfl rfl 16 (by decide) hw9 (fun _ h9 => h9) rfl dX5_close_192 ?_
                        refine lv_isub hx hb dX5_close_195 ?_
                        refine va_put (D := D) (ci := 5) (v := .int (f1 - f2)) (ty := .int) (C := RX5) (T := TX5) (N := 31) hx hb hts hiX5 tyX5 tyX5_ok nmX5 hown hK hP hD hS 0 rfl rfl 17 (by decide) hw10 (fun _ h9 => h9) rfl (by decide +kernel) rfl rfl (Nat.le_of_ble_eq_true rfl) dX5_close_196 (fun H locs hP hD hS => ?_)
                        have hP : va_P D vwCl (pg_wM cI cZ a ((upd (upd (upd (upd u.1 15 0) 4 f1) 5 f2) 6 (f1 - f2)), u.2)) H := hP
                        have hD : va_D A (pg_wM cI cZ a ((upd (upd (upd (upd u.1 15 0) 4 f1) 5 f2) 6 (f1 - f2)), u.2)) := hD
                        refine lv_aload_n hx hb dX5_close_199 rfl (lv_at hl 5 rfl) ?_
                        refine lv_iconst (v := 1) hx hb dX5_close_200 (by decide) ?_
                        refine va_put (D := D) (ci := 5) (v := .int 1) (ty := .boolean) (C := RX5) (T := TX5) (N := 31) hx hb hts hiX5 tyX5 tyX5_ok nmX5 hown hK hP hD hS 0 rfl rfl 13 (by decide) hw3 (fun _ h9 => h9) rfl (by decide +kernel) rfl rfl (Nat.le_of_ble_eq_true rfl) dX5_close_201 (fun H locs hP hD hS => ?_)
                        have hP : va_P D vwCl (pg_wM cI cZ a ((upd (upd (upd (upd (upd u.1 15 0) 4 f1) 5 f2) 6 (f1 - f2)) 14 1), u.2)) H := hP
                        have hD : va_D A (pg_wM cI cZ a ((upd (upd (upd (upd (upd u.1 15 0) 4 f1) 5 f2) 6 (f1 - f2)) 14 1), u.2)) := hD
                        refine lv_aload_n hx hb dX5_close_204 rfl (lv_at hl 5 rfl) ?_
                        refine va_get (D := D) (ci := 5) (v := .int f1) (C := RX5) (T := TX5) (N := 31) hx hb hts hiX5 hown hK hP 0 rfl rfl 15 (by decide) hw7 (fun _ h9 => h9) rfl dX5_close_205 ?_
                        exact W.iret (v := f1) hx hb hr (fun t9 ht9 hW9 => ⟨⟨f1, ((upd (upd (upd (upd (upd u.1 15 0) 4 f1) 5 f2) 6 (f1 - f2)) 14 1), u.2), rfl, ⟨e1, by rw [e1, e2]⟩, by rw [ht9]; exact hP, va_K.moved hW9.alike hK, hD⟩, hS.F ht9⟩) hS.2.2 dX5_close_208
                      · refine lv_iload hx hb dX5_close_174 (lv_at hl 1 rfl) ?_
                        refine lv_goto (tgt := 183) hx hb dX5_close_176 (by decide) ?_
                        refine lv_topi (fun f2 ef2 => ?_)
                        have e2 : f2 = pg_hold u x y1 z := by rw [ef2, pg_hold, ← pg_min_m, ← e1, if_neg c_171]
                        refine va_put (D := D) (ci := 5) (v := .int f2) (ty := .int) (C := RX5) (T := TX5) (N := 31) hx hb hts hiX5 tyX5 tyX5_ok nmX5 hown hK hP hD hS 0 rfl rfl 16 (by decide) hw9 (fun _ h9 => h9) rfl (by decide +kernel) rfl rfl (Nat.le_of_ble_eq_true rfl) dX5_close_183 (fun H locs hP hD hS => ?_)
                        have hP : va_P D vwCl (pg_wM cI cZ a ((upd (upd (upd u.1 15 0) 4 f1) 5 f2), u.2)) H := hP
                        have hD : va_D A (pg_wM cI cZ a ((upd (upd (upd u.1 15 0) 4 f1) 5 f2), u.2)) := hD
                        refine lv_aload_n hx hb dX5_close_186 rfl (lv_at hl 5 rfl) ?_
                        refine lv_aload_n hx hb dX5_close_187 rfl (lv_at hl 5 rfl) ?_
                        refine va_get (D := D) (ci := 5) (v := .int f1) (C := RX5) (T := TX5) (N := 31) hx hb hts hiX5 hown hK hP 0 rfl rfl 15 (by decide) hw7 (fun _ h9 => h9) rfl dX5_close_188 ?_
                        refine lv_aload_n hx hb dX5_close_191 rfl (lv_at hl 5 rfl) ?_
                        refine va_get (D := D) (ci := 5) (v := .int f2) (C := RX5) (T := TX5) (N := 31) hx hb hts hiX5 hown hK hP 0 rfl rfl 16 (by decide) hw9 (fun _ h9 => h9) rfl dX5_close_192 ?_
                        refine lv_isub hx hb dX5_close_195 ?_
                        refine va_put (D := D) (ci := 5) (v := .int (f1 - f2)) (ty := .int) (C := RX5) (T := TX5) (N := 31) hx hb hts hiX5 tyX5 tyX5_ok nmX5 hown hK hP hD hS 0 rfl rfl 17 (by decide) hw10 (fun _ h9 => h9) rfl (by decide +kernel) rfl rfl (Nat.le_of_ble_eq_true rfl) dX5_close_196 (fun H locs hP hD hS => ?_)
                        have hP : va_P D vwCl (pg_wM cI cZ a ((upd (upd (upd (upd u.1 15 0) 4 f1) 5 f2) 6 (f1 - f2)), u.2)) H := hP
                        have hD : va_D A (pg_wM cI cZ a ((upd (upd (upd (upd u.1 15 0) 4 f1) 5 f2) 6 (f1 - f2)), u.2)) := hD
                        refine lv_aload_n hx hb dX5_close_199 rfl (lv_at hl 5 rfl) ?_
                        refine lv_iconst (v := 1) hx hb dX5_close_200 (by decide) ?_
                        refine va_put (D := D) (ci := 5) (v := .int 1) (ty := .boolean) (C := RX5) (T := TX5) (N := 31) hx hb hts hiX5 tyX5 tyX5_ok nmX5 hown hK hP hD hS 0 rfl rfl 13 (by decide) hw3 (fun _ h9 => h9) rfl (by decide +kernel) rfl rfl (Nat.le_of_ble_eq_true rfl) dX5_close_201 (fun H locs hP hD hS => ?_)
                        have hP : va_P D vwCl (pg_wM cI cZ a ((upd (upd (upd (upd (upd u.1 15 0) 4 f1) 5 f2) 6 (f1 - f2)) 14 1), u.2)) H := hP
                        have hD : va_D A (pg_wM cI cZ a ((upd (upd (upd (upd (upd u.1 15 0) 4 f1) 5 f2) 6 (f1 - f2)) 14 1), u.2)) := hD
                        refine lv_aload_n hx hb dX5_close_204 rfl (lv_at hl 5 rfl) ?_
                        refine va_get (D := D) (ci := 5) (v := .int f1) (C := RX5) (T := TX5) (N := 31) hx hb hts hiX5 hown hK hP 0 rfl rfl 15 (by decide) hw7 (fun _ h9 => h9) rfl dX5_close_205 ?_
                        exact W.iret (v := f1) hx hb hr (fun t9 ht9 hW9 => ⟨⟨f1, ((upd (upd (upd (upd (upd u.1 15 0) 4 f1) 5 f2) 6 (f1 - f2)) 14 1), u.2), rfl, ⟨e1, by rw [e1, e2]⟩, by rw [ht9]; exact hP, va_K.moved hW9.alike hK, hD⟩, hS.F ht9⟩) hS.2.2 dX5_close_208
                    · have hlt : i < 4 := pg_stay (rfl) (by omega) c_143
                      refine lv_iload hx hb dX5_close_146 (lv_at hl 1 rfl) ?_
                      refine lv_aload_n hx hb dX5_close_148 rfl (lv_at hl 5 rfl) ?_
                      refine va_get (D := D) (ci := 5) (v := .ref (a 1)) (C := RX5) (T := TX5) (N := 31) hx hb hts hiX5 hown hK hP 0 rfl rfl 3 (by decide) hw8 (fun _ h9 => h9) rfl dX5_close_149 ?_
                      refine lv_iload hx hb dX5_close_152 (lv_at hl 0 rfl) ?_
                      refine pg_ild (f := u.2 0) hx hb hK hP 1 0 rfl rfl (show i < _ by omega) (by decide) dX5_close_154 ?_
                      refine lv_iadd hx hb dX5_close_155 ?_
                      refine lv_istore (lv' := [(7, .int ((pg_sm (u.2 0) i) + (u.2 0 i))), (8, .int (nI i)), (6, .int ((((u.1 0) + x) - y1) + f0)), (5, .int f0), (4, .int (z - (u.1 1))), (0, .ref (a 0)), (1, .int x), (2, .int y1), (3, .int z)]) hx hb dX5_close_156 hl (by decide) rfl (fun ls hl => ?_)
                      refine lv_iinc (v := nI (i + 1)) (lv' := [(8, .int (nI (i + 1))), (7, .int ((pg_sm (u.2 0) i) + (u.2 0 i))), (6, .int ((((u.1 0) + x) - y1) + f0)), (5, .int f0), (4, .int (z - (u.1 1))), (0, .ref (a 0)), (1, .int x), (2, .int y1), (3, .int z)]) hx hb dX5_close_158 hl (k := 1) rfl (by rw [nI_succ]; rfl) (by decide) rfl (fun ls hl => ?_)
                      refine lv_goto (tgt := 140) hx hb dX5_close_161 (by decide) ?_
                      exact ih (i + 1) ((pg_sm (u.2 0) i) + (u.2 0 i)) (by omega) (by omega) rfl _ _ hP hD hS ls (lv_sub hl [0, 1, 2, 3, 4, 5, 6, 7, 8] rfl)
                exact L140 (4 + 1) 0 0 (by omega) (by omega) rfl _ _ hP hD hS ls hl
              · refine lv_iconst (v := 0) hx hb dX5_close_125 (by decide) ?_
                refine lv_goto (tgt := 131) hx hb dX5_close_126 (by decide) ?_
                refine lv_topi (fun f1 ef1 => ?_)
                have e1 : f1 = pg_fin u x y1 z := by rw [ef1, pg_fin, ← pg_max_m, if_neg (by rw [← e0]; exact c_122)]
                refine va_put (D := D) (ci := 5) (v := .int f1) (ty := .int) (C := RX5) (T := TX5) (N := 31) hx hb hts hiX5 tyX5 tyX5_ok nmX5 hown hK hP hD hS 0 rfl rfl 15 (by decide) hw7 (fun _ h9 => h9) rfl (by decide +kernel) rfl rfl (Nat.le_of_ble_eq_true rfl) dX5_close_131 (fun H locs hP hD hS => ?_)
                have hP : va_P D vwCl (pg_wM cI cZ a ((upd (upd u.1 15 0) 4 f1), u.2)) H := hP
                have hD : va_D A (pg_wM cI cZ a ((upd (upd u.1 15 0) 4 f1), u.2)) := hD
                refine lv_iconst (v := 0) hx hb dX5_close_134 (by decide) ?_
                refine lv_istore (lv' := [(7, .int 0), (6, .int ((((u.1 0) + x) - y1) + f0)), (5, .int f0), (4, .int (z - (u.1 1))), (0, .ref (a 0)), (1, .int x), (2, .int y1), (3, .int z)]) hx hb dX5_close_135 hl (by decide) rfl (fun ls hl => ?_)
                refine lv_iconst (v := 0) hx hb dX5_close_137 (by decide) ?_
                refine lv_istore (lv' := [(8, .int 0), (7, .int 0), (6, .int ((((u.1 0) + x) - y1) + f0)), (5, .int f0), (4, .int (z - (u.1 1))), (0, .ref (a 0)), (1, .int x), (2, .int y1), (3, .int z)]) hx hb dX5_close_138 hl (by decide) rfl (fun ls hl => ?_)
                have L140 : ∀ (k9 i : Nat) (s9 : Int32), i ≤ 4 → 4 < i + k9 → s9 = pg_sm (u.2 0) i → ∀ (H : Heap) (locs : List Loc), va_P D vwCl (pg_wM cI cZ a ((upd (upd u.1 15 0) 4 f1), u.2)) H → va_D A (pg_wM cI cZ a ((upd (upd u.1 15 0) 4 f1), u.2)) → va_S A s.heap H locs → ∀ ls : Array Slot, lv_has ls 9 [(8, .int (nI i)), (7, .int s9), (6, .int ((((u.1 0) + x) - y1) + f0)), (5, .int f0), (4, .int (z - (u.1 1))), (0, .ref (a 0)), (1, .int x), (2, .int y1), (3, .int z)] → W p l e (headSpec wsX5_close ({ frames := 1, cells := 0, slots := 0, locals := 22 })).room s m ([.ref (a 0), .int x, .int y1, .int z] : List Value).toArray below meth c H locs 0 0 (MQ below (va_Qi (fun r u' => r = pg_fin u x y1 z ∧ u' = (upd (upd (upd (upd (upd u.1 15 0) 4 (pg_fin u x y1 z)) 5 (pg_hold u x y1 z)) 6 (pg_fin u x y1 z - pg_hold u x y1 z)) 14 1, u.2)) (pg_E D (pg_ty cI cZ) A (pg_wM cI cZ a)) A) ([.ref (a 0), .int x, .int y1, .int z] : List Value).toArray s 0 0 A) (F0 m 140 ls []) := by
                  intro k9
                  induction k9 with
                  | zero => intro i s9 h1 h2; exact absurd h2 (by omega)
                  | succ k9 ih =>
                    intro i s9 hi9 hk9 hs99 H locs hP hD hS ls hl
                    subst hs99
                    refine lv_iload hx hb dX5_close_140 (lv_at hl 0 rfl) ?_
                    refine lv_iconst (v := 4) hx hb dX5_close_142 (by decide) ?_
                    refine lv_icmp_ge (tgt := 164) hx hb dX5_close_143 (by decide) (fun c_143 => ?_) (fun c_143 => ?_)
                    · have hiN : i = 4 := pg_exit (rfl) (by decide) hi9 c_143
                      subst hiN
                      refine lv_aload_n hx hb dX5_close_164 rfl (lv_at hl 5 rfl) ?_
                      refine lv_iload hx hb dX5_close_165 (lv_at hl 1 rfl) ?_
                      refine lv_aload_n hx hb dX5_close_167 rfl (lv_at hl 5 rfl) ?_
                      refine va_get (D := D) (ci := 5) (v := .int f1) (C := RX5) (T := TX5) (N := 31) hx hb hts hiX5 hown hK hP 0 rfl rfl 15 (by decide) hw7 (fun _ h9 => h9) rfl dX5_close_168 ?_
                      refine lv_icmp_ge (tgt := 179) hx hb dX5_close_171 (by decide) (fun c_171 => ?_) (fun c_171 => ?_)
                      · refine lv_aload_n hx hb dX5_close_179 rfl (lv_at hl 5 rfl) ?_
                        refine va_get (D := D) (ci := 5) (v := .int f1) (C := RX5) (T := TX5) (N := 31) hx hb hts hiX5 hown hK hP 0 rfl rfl 15 (by decide) hw7 (fun _ h9 => h9) rfl dX5_close_180 ?_
                        refine lv_topi (fun f2 ef2 => ?_)
                        have e2 : f2 = pg_hold u x y1 z := by rw [ef2, pg_hold, ← pg_min_m, ← e1, if_pos c_171]
                        refine va_put (D := D) (ci := 5) (v := .int f2) (ty := .int) (C := RX5) (T := TX5) (N := 31) hx hb hts hiX5 tyX5 tyX5_ok nmX5 hown hK hP hD hS 0 rfl rfl 16 (by decide) hw9 (fun _ h9 => h9) rfl (by decide +kernel) rfl rfl (Nat.le_of_ble_eq_true rfl) dX5_close_183 (fun H locs hP hD hS => ?_)
                        have hP : va_P D vwCl (pg_wM cI cZ a ((upd (upd (upd u.1 15 0) 4 f1) 5 f2), u.2)) H := hP
                        have hD : va_D A (pg_wM cI cZ a ((upd (upd (upd u.1 15 0) 4 f1) 5 f2), u.2)) := hD
                        refine lv_aload_n hx hb dX5_close_186 rfl (lv_at hl 5 rfl) ?_
                        refine lv_aload_n hx hb dX5_close_187 rfl (lv_at hl 5 rfl) ?_
                        refine va_get (D := D) (ci := 5) (v := .int f1) (C := RX5) (T := TX5) (N := 31) hx hb hts hiX5 hown hK hP 0 rfl rfl 15 (by decide) hw7 (fun _ h9 => h9) rfl dX5_close_188 ?_
                        refine lv_aload_n hx hb dX5_close_191 rfl (lv_at hl 5 rfl) ?_
                        refine va_get (D := D) (ci := 5) (v := .int f2) (C := RX5) (T := TX5) (N := 31) hx hb hts hiX5 hown hK hP 0 rfl rfl 16 (by decide) hw9 (fun _ h9 => h9) rfl dX5_close_192 ?_
                        refine lv_isub hx hb dX5_close_195 ?_
                        refine va_put (D := D) (ci := 5) (v := .int (f1 - f2)) (ty := .int) (C := RX5) (T := TX5) (N := 31) hx hb hts hiX5 tyX5 tyX5_ok nmX5 hown hK hP hD hS 0 rfl rfl 17 (by decide) hw10 (fun _ h9 => h9) rfl (by decide +kernel) rfl rfl (Nat.le_of_ble_eq_true rfl) dX5_close_196 (fun H locs hP hD hS => ?_)
                        have hP : va_P D vwCl (pg_wM cI cZ a ((upd (upd (upd (upd u.1 15 0) 4 f1) 5 f2) 6 (f1 - f2)), u.2)) H := hP
                        have hD : va_D A (pg_wM cI cZ a ((upd (upd (upd (upd u.1 15 0) 4 f1) 5 f2) 6 (f1 - f2)), u.2)) := hD
                        refine lv_aload_n hx hb dX5_close_199 rfl (lv_at hl 5 rfl) ?_
                        refine lv_iconst (v := 1) hx hb dX5_close_200 (by decide) ?_
                        refine va_put (D := D) (ci := 5) (v := .int 1) (ty := .boolean) (C := RX5) (T := TX5) (N := 31) hx hb hts hiX5 tyX5 tyX5_ok nmX5 hown hK hP hD hS 0 rfl rfl 13 (by decide) hw3 (fun _ h9 => h9) rfl (by decide +kernel) rfl rfl (Nat.le_of_ble_eq_true rfl) dX5_close_201 (fun H locs hP hD hS => ?_)
                        have hP : va_P D vwCl (pg_wM cI cZ a ((upd (upd (upd (upd (upd u.1 15 0) 4 f1) 5 f2) 6 (f1 - f2)) 14 1), u.2)) H := hP
                        have hD : va_D A (pg_wM cI cZ a ((upd (upd (upd (upd (upd u.1 15 0) 4 f1) 5 f2) 6 (f1 - f2)) 14 1), u.2)) := hD
                        refine lv_aload_n hx hb dX5_close_204 rfl (lv_at hl 5 rfl) ?_
                        refine va_get (D := D) (ci := 5) (v := .int f1) (C := RX5) (T := TX5) (N := 31) hx hb hts hiX5 hown hK hP 0 rfl rfl 15 (by decide) hw7 (fun _ h9 => h9) rfl dX5_close_205 ?_
                        exact W.iret (v := f1) hx hb hr (fun t9 ht9 hW9 => ⟨⟨f1, ((upd (upd (upd (upd (upd u.1 15 0) 4 f1) 5 f2) 6 (f1 - f2)) 14 1), u.2), rfl, ⟨e1, by rw [e1, e2]⟩, by rw [ht9]; exact hP, va_K.moved hW9.alike hK, hD⟩, hS.F ht9⟩) hS.2.2 dX5_close_208
                      · refine lv_iload hx hb dX5_close_174 (lv_at hl 1 rfl) ?_
                        refine lv_goto (tgt := 183) hx hb dX5_close_176 (by decide) ?_
                        refine lv_topi (fun f2 ef2 => ?_)
                        have e2 : f2 = pg_hold u x y1 z := by rw [ef2, pg_hold, ← pg_min_m, ← e1, if_neg c_171]
                        refine va_put (D := D) (ci := 5) (v := .int f2) (ty := .int) (C := RX5) (T := TX5) (N := 31) hx hb hts hiX5 tyX5 tyX5_ok nmX5 hown hK hP hD hS 0 rfl rfl 16 (by decide) hw9 (fun _ h9 => h9) rfl (by decide +kernel) rfl rfl (Nat.le_of_ble_eq_true rfl) dX5_close_183 (fun H locs hP hD hS => ?_)
                        have hP : va_P D vwCl (pg_wM cI cZ a ((upd (upd (upd u.1 15 0) 4 f1) 5 f2), u.2)) H := hP
                        have hD : va_D A (pg_wM cI cZ a ((upd (upd (upd u.1 15 0) 4 f1) 5 f2), u.2)) := hD
                        refine lv_aload_n hx hb dX5_close_186 rfl (lv_at hl 5 rfl) ?_
                        refine lv_aload_n hx hb dX5_close_187 rfl (lv_at hl 5 rfl) ?_
                        refine va_get (D := D) (ci := 5) (v := .int f1) (C := RX5) (T := TX5) (N := 31) hx hb hts hiX5 hown hK hP 0 rfl rfl 15 (by decide) hw7 (fun _ h9 => h9) rfl dX5_close_188 ?_
                        refine lv_aload_n hx hb dX5_close_191 rfl (lv_at hl 5 rfl) ?_
                        refine va_get (D := D) (ci := 5) (v := .int f2) (C := RX5) (T := TX5) (N := 31) hx hb hts hiX5 hown hK hP 0 rfl rfl 16 (by decide) hw9 (fun _ h9 => h9) rfl dX5_close_192 ?_
                        refine lv_isub hx hb dX5_close_195 ?_
                        refine va_put (D := D) (ci := 5) (v := .int (f1 - f2)) (ty := .int) (C := RX5) (T := TX5) (N := 31) hx hb hts hiX5 tyX5 tyX5_ok nmX5 hown hK hP hD hS 0 rfl rfl 17 (by decide) hw10 (fun _ h9 => h9) rfl (by decide +kernel) rfl rfl (Nat.le_of_ble_eq_true rfl) dX5_close_196 (fun H locs hP hD hS => ?_)
                        have hP : va_P D vwCl (pg_wM cI cZ a ((upd (upd (upd (upd u.1 15 0) 4 f1) 5 f2) 6 (f1 - f2)), u.2)) H := hP
                        have hD : va_D A (pg_wM cI cZ a ((upd (upd (upd (upd u.1 15 0) 4 f1) 5 f2) 6 (f1 - f2)), u.2)) := hD
                        refine lv_aload_n hx hb dX5_close_199 rfl (lv_at hl 5 rfl) ?_
                        refine lv_iconst (v := 1) hx hb dX5_close_200 (by decide) ?_
                        refine va_put (D := D) (ci := 5) (v := .int 1) (ty := .boolean) (C := RX5) (T := TX5) (N := 31) hx hb hts hiX5 tyX5 tyX5_ok nmX5 hown hK hP hD hS 0 rfl rfl 13 (by decide) hw3 (fun _ h9 => h9) rfl (by decide +kernel) rfl rfl (Nat.le_of_ble_eq_true rfl) dX5_close_201 (fun H locs hP hD hS => ?_)
                        have hP : va_P D vwCl (pg_wM cI cZ a ((upd (upd (upd (upd (upd u.1 15 0) 4 f1) 5 f2) 6 (f1 - f2)) 14 1), u.2)) H := hP
                        have hD : va_D A (pg_wM cI cZ a ((upd (upd (upd (upd (upd u.1 15 0) 4 f1) 5 f2) 6 (f1 - f2)) 14 1), u.2)) := hD
                        refine lv_aload_n hx hb dX5_close_204 rfl (lv_at hl 5 rfl) ?_
                        refine va_get (D := D) (ci := 5) (v := .int f1) (C := RX5) (T := TX5) (N := 31) hx hb hts hiX5 hown hK hP 0 rfl rfl 15 (by decide) hw7 (fun _ h9 => h9) rfl dX5_close_205 ?_
                        exact W.iret (v := f1) hx hb hr (fun t9 ht9 hW9 => ⟨⟨f1, ((upd (upd (upd (upd (upd u.1 15 0) 4 f1) 5 f2) 6 (f1 - f2)) 14 1), u.2), rfl, ⟨e1, by rw [e1, e2]⟩, by rw [ht9]; exact hP, va_K.moved hW9.alike hK, hD⟩, hS.F ht9⟩) hS.2.2 dX5_close_208
                    · have hlt : i < 4 := pg_stay (rfl) (by omega) c_143
                      refine lv_iload hx hb dX5_close_146 (lv_at hl 1 rfl) ?_
                      refine lv_aload_n hx hb dX5_close_148 rfl (lv_at hl 5 rfl) ?_
                      refine va_get (D := D) (ci := 5) (v := .ref (a 1)) (C := RX5) (T := TX5) (N := 31) hx hb hts hiX5 hown hK hP 0 rfl rfl 3 (by decide) hw8 (fun _ h9 => h9) rfl dX5_close_149 ?_
                      refine lv_iload hx hb dX5_close_152 (lv_at hl 0 rfl) ?_
                      refine pg_ild (f := u.2 0) hx hb hK hP 1 0 rfl rfl (show i < _ by omega) (by decide) dX5_close_154 ?_
                      refine lv_iadd hx hb dX5_close_155 ?_
                      refine lv_istore (lv' := [(7, .int ((pg_sm (u.2 0) i) + (u.2 0 i))), (8, .int (nI i)), (6, .int ((((u.1 0) + x) - y1) + f0)), (5, .int f0), (4, .int (z - (u.1 1))), (0, .ref (a 0)), (1, .int x), (2, .int y1), (3, .int z)]) hx hb dX5_close_156 hl (by decide) rfl (fun ls hl => ?_)
                      refine lv_iinc (v := nI (i + 1)) (lv' := [(8, .int (nI (i + 1))), (7, .int ((pg_sm (u.2 0) i) + (u.2 0 i))), (6, .int ((((u.1 0) + x) - y1) + f0)), (5, .int f0), (4, .int (z - (u.1 1))), (0, .ref (a 0)), (1, .int x), (2, .int y1), (3, .int z)]) hx hb dX5_close_158 hl (k := 1) rfl (by rw [nI_succ]; rfl) (by decide) rfl (fun ls hl => ?_)
                      refine lv_goto (tgt := 140) hx hb dX5_close_161 (by decide) ?_
                      exact ih (i + 1) ((pg_sm (u.2 0) i) + (u.2 0 i)) (by omega) (by omega) rfl _ _ hP hD hS ls (lv_sub hl [0, 1, 2, 3, 4, 5, 6, 7, 8] rfl)
                exact L140 (4 + 1) 0 0 (by omega) (by omega) rfl _ _ hP hD hS ls hl
            · refine lv_iload hx hb dX5_close_93 (lv_at hl 0 rfl) ?_
              refine lv_aload_n hx hb dX5_close_95 rfl (lv_at hl 1 rfl) ?_
              refine va_get (D := D) (ci := 5) (v := .int (u.1 2)) (C := RX5) (T := TX5) (N := 31) hx hb hts hiX5 hown hK hP 0 rfl rfl 2 (by decide) hw5 (fun _ h9 => h9) rfl dX5_close_96 ?_
              refine lv_iadd hx hb dX5_close_99 ?_
              refine lv_goto (tgt := 104) hx hb dX5_close_100 (by decide) ?_
              refine lv_topi (fun f0 ef0 => ?_)
              have e0 : f0 = pg_col u.1 (z - u.1 1) := by rw [ef0, pg_col, if_pos c_70, if_neg c_90]
              refine lv_istore (lv' := [(5, .int f0), (4, .int (z - (u.1 1))), (0, .ref (a 0)), (1, .int x), (2, .int y1), (3, .int z)]) hx hb dX5_close_104 hl (by decide) rfl (fun ls hl => ?_)
              refine lv_aload_n hx hb dX5_close_106 rfl (lv_at hl 2 rfl) ?_
              refine va_get (D := D) (ci := 5) (v := .int (u.1 0)) (C := RX5) (T := TX5) (N := 31) hx hb hts hiX5 hown hK hP 0 rfl rfl 0 (by decide) hw6 (fun _ h9 => h9) rfl dX5_close_107 ?_
              refine lv_iload_n hx hb dX5_close_110 rfl (lv_at hl 3 rfl) ?_
              refine lv_iadd hx hb dX5_close_111 ?_
              refine lv_iload_n hx hb dX5_close_112 rfl (lv_at hl 4 rfl) ?_
              refine lv_isub hx hb dX5_close_113 ?_
              refine lv_iload hx hb dX5_close_114 (lv_at hl 0 rfl) ?_
              refine lv_iadd hx hb dX5_close_116 ?_
              refine lv_istore (lv' := [(6, .int ((((u.1 0) + x) - y1) + f0)), (5, .int f0), (4, .int (z - (u.1 1))), (0, .ref (a 0)), (1, .int x), (2, .int y1), (3, .int z)]) hx hb dX5_close_117 hl (by decide) rfl (fun ls hl => ?_)
              refine lv_aload_n hx hb dX5_close_119 rfl (lv_at hl 3 rfl) ?_
              refine lv_iload hx hb dX5_close_120 (lv_at hl 0 rfl) ?_
              refine lv_if_ge (tgt := 129) hx hb dX5_close_122 (by decide) (fun c_122 => ?_) (fun c_122 => ?_)
              · refine lv_iload hx hb dX5_close_129 (lv_at hl 0 rfl) ?_
                refine lv_topi (fun f1 ef1 => ?_)
                have e1 : f1 = pg_fin u x y1 z := by rw [ef1, e0, pg_fin, ← pg_max_m, if_pos (by rw [← e0]; exact c_122)]
                refine va_put (D := D) (ci := 5) (v := .int f1) (ty := .int) (C := RX5) (T := TX5) (N := 31) hx hb hts hiX5 tyX5 tyX5_ok nmX5 hown hK hP hD hS 0 rfl rfl 15 (by decide) hw7 (fun _ h9 => h9) rfl (by decide +kernel) rfl rfl (Nat.le_of_ble_eq_true rfl) dX5_close_131 (fun H locs hP hD hS => ?_)
                have hP : va_P D vwCl (pg_wM cI cZ a ((upd (upd u.1 15 0) 4 f1), u.2)) H := hP
                have hD : va_D A (pg_wM cI cZ a ((upd (upd u.1 15 0) 4 f1), u.2)) := hD
                refine lv_iconst (v := 0) hx hb dX5_close_134 (by decide) ?_
                refine lv_istore (lv' := [(7, .int 0), (6, .int ((((u.1 0) + x) - y1) + f0)), (5, .int f0), (4, .int (z - (u.1 1))), (0, .ref (a 0)), (1, .int x), (2, .int y1), (3, .int z)]) hx hb dX5_close_135 hl (by decide) rfl (fun ls hl => ?_)
                refine lv_iconst (v := 0) hx hb dX5_close_137 (by decide) ?_
                refine lv_istore (lv' := [(8, .int 0), (7, .int 0), (6, .int ((((u.1 0) + x) - y1) + f0)), (5, .int f0), (4, .int (z - (u.1 1))), (0, .ref (a 0)), (1, .int x), (2, .int y1), (3, .int z)]) hx hb dX5_close_138 hl (by decide) rfl (fun ls hl => ?_)
                have L140 : ∀ (k9 i : Nat) (s9 : Int32), i ≤ 4 → 4 < i + k9 → s9 = pg_sm (u.2 0) i → ∀ (H : Heap) (locs : List Loc), va_P D vwCl (pg_wM cI cZ a ((upd (upd u.1 15 0) 4 f1), u.2)) H → va_D A (pg_wM cI cZ a ((upd (upd u.1 15 0) 4 f1), u.2)) → va_S A s.heap H locs → ∀ ls : Array Slot, lv_has ls 9 [(8, .int (nI i)), (7, .int s9), (6, .int ((((u.1 0) + x) - y1) + f0)), (5, .int f0), (4, .int (z - (u.1 1))), (0, .ref (a 0)), (1, .int x), (2, .int y1), (3, .int z)] → W p l e (headSpec wsX5_close ({ frames := 1, cells := 0, slots := 0, locals := 22 })).room s m ([.ref (a 0), .int x, .int y1, .int z] : List Value).toArray below meth c H locs 0 0 (MQ below (va_Qi (fun r u' => r = pg_fin u x y1 z ∧ u' = (upd (upd (upd (upd (upd u.1 15 0) 4 (pg_fin u x y1 z)) 5 (pg_hold u x y1 z)) 6 (pg_fin u x y1 z - pg_hold u x y1 z)) 14 1, u.2)) (pg_E D (pg_ty cI cZ) A (pg_wM cI cZ a)) A) ([.ref (a 0), .int x, .int y1, .int z] : List Value).toArray s 0 0 A) (F0 m 140 ls []) := by
                  intro k9
                  induction k9 with
                  | zero => intro i s9 h1 h2; exact absurd h2 (by omega)
                  | succ k9 ih =>
                    intro i s9 hi9 hk9 hs99 H locs hP hD hS ls hl
                    subst hs99
                    refine lv_iload hx hb dX5_close_140 (lv_at hl 0 rfl) ?_
                    refine lv_iconst (v := 4) hx hb dX5_close_142 (by decide) ?_
                    refine lv_icmp_ge (tgt := 164) hx hb dX5_close_143 (by decide) (fun c_143 => ?_) (fun c_143 => ?_)
                    · have hiN : i = 4 := pg_exit (rfl) (by decide) hi9 c_143
                      subst hiN
                      refine lv_aload_n hx hb dX5_close_164 rfl (lv_at hl 5 rfl) ?_
                      refine lv_iload hx hb dX5_close_165 (lv_at hl 1 rfl) ?_
                      refine lv_aload_n hx hb dX5_close_167 rfl (lv_at hl 5 rfl) ?_
                      refine va_get (D := D) (ci := 5) (v := .int f1) (C := RX5) (T := TX5) (N := 31) hx hb hts hiX5 hown hK hP 0 rfl rfl 15 (by decide) hw7 (fun _ h9 => h9) rfl dX5_close_168 ?_
                      refine lv_icmp_ge (tgt := 179) hx hb dX5_close_171 (by decide) (fun c_171 => ?_) (fun c_171 => ?_)
                      · refine lv_aload_n hx hb dX5_close_179 rfl (lv_at hl 5 rfl) ?_
                        refine va_get (D := D) (ci := 5) (v := .int f1) (C := RX5) (T := TX5) (N := 31) hx hb hts hiX5 hown hK hP 0 rfl rfl 15 (by decide) hw7 (fun _ h9 => h9) rfl dX5_close_180 ?_
                        refine lv_topi (fun f2 ef2 => ?_)
                        have e2 : f2 = pg_hold u x y1 z := by rw [ef2, pg_hold, ← pg_min_m, ← e1, if_pos c_171]
                        refine va_put (D := D) (ci := 5) (v := .int f2) (ty := .int) (C := RX5) (T := TX5) (N := 31) hx hb hts hiX5 tyX5 tyX5_ok nmX5 hown hK hP hD hS 0 rfl rfl 16 (by decide) hw9 (fun _ h9 => h9) rfl (by decide +kernel) rfl rfl (Nat.le_of_ble_eq_true rfl) dX5_close_183 (fun H locs hP hD hS => ?_)
                        have hP : va_P D vwCl (pg_wM cI cZ a ((upd (upd (upd u.1 15 0) 4 f1) 5 f2), u.2)) H := hP
                        have hD : va_D A (pg_wM cI cZ a ((upd (upd (upd u.1 15 0) 4 f1) 5 f2), u.2)) := hD
                        refine lv_aload_n hx hb dX5_close_186 rfl (lv_at hl 5 rfl) ?_
                        refine lv_aload_n hx hb dX5_close_187 rfl (lv_at hl 5 rfl) ?_
                        refine va_get (D := D) (ci := 5) (v := .int f1) (C := RX5) (T := TX5) (N := 31) hx hb hts hiX5 hown hK hP 0 rfl rfl 15 (by decide) hw7 (fun _ h9 => h9) rfl dX5_close_188 ?_
                        refine lv_aload_n hx hb dX5_close_191 rfl (lv_at hl 5 rfl) ?_
                        refine va_get (D := D) (ci := 5) (v := .int f2) (C := RX5) (T := TX5) (N := 31) hx hb hts hiX5 hown hK hP 0 rfl rfl 16 (by decide) hw9 (fun _ h9 => h9) rfl dX5_close_192 ?_
                        refine lv_isub hx hb dX5_close_195 ?_
                        refine va_put (D := D) (ci := 5) (v := .int (f1 - f2)) (ty := .int) (C := RX5) (T := TX5) (N := 31) hx hb hts hiX5 tyX5 tyX5_ok nmX5 hown hK hP hD hS 0 rfl rfl 17 (by decide) hw10 (fun _ h9 => h9) rfl (by decide +kernel) rfl rfl (Nat.le_of_ble_eq_true rfl) dX5_close_196 (fun H locs hP hD hS => ?_)
                        have hP : va_P D vwCl (pg_wM cI cZ a ((upd (upd (upd (upd u.1 15 0) 4 f1) 5 f2) 6 (f1 - f2)), u.2)) H := hP
                        have hD : va_D A (pg_wM cI cZ a ((upd (upd (upd (upd u.1 15 0) 4 f1) 5 f2) 6 (f1 - f2)), u.2)) := hD
                        refine lv_aload_n hx hb dX5_close_199 rfl (lv_at hl 5 rfl) ?_
                        refine lv_iconst (v := 1) hx hb dX5_close_200 (by decide) ?_
                        refine va_put (D := D) (ci := 5) (v := .int 1) (ty := .boolean) (C := RX5) (T := TX5) (N := 31) hx hb hts hiX5 tyX5 tyX5_ok nmX5 hown hK hP hD hS 0 rfl rfl 13 (by decide) hw3 (fun _ h9 => h9) rfl (by decide +kernel) rfl rfl (Nat.le_of_ble_eq_true rfl) dX5_close_201 (fun H locs hP hD hS => ?_)
                        have hP : va_P D vwCl (pg_wM cI cZ a ((upd (upd (upd (upd (upd u.1 15 0) 4 f1) 5 f2) 6 (f1 - f2)) 14 1), u.2)) H := hP
                        have hD : va_D A (pg_wM cI cZ a ((upd (upd (upd (upd (upd u.1 15 0) 4 f1) 5 f2) 6 (f1 - f2)) 14 1), u.2)) := hD
                        refine lv_aload_n hx hb dX5_close_204 rfl (lv_at hl 5 rfl) ?_
                        refine va_get (D := D) (ci := 5) (v := .int f1) (C := RX5) (T := TX5) (N := 31) hx hb hts hiX5 hown hK hP 0 rfl rfl 15 (by decide) hw7 (fun _ h9 => h9) rfl dX5_close_205 ?_
                        exact W.iret (v := f1) hx hb hr (fun t9 ht9 hW9 => ⟨⟨f1, ((upd (upd (upd (upd (upd u.1 15 0) 4 f1) 5 f2) 6 (f1 - f2)) 14 1), u.2), rfl, ⟨e1, by rw [e1, e2]⟩, by rw [ht9]; exact hP, va_K.moved hW9.alike hK, hD⟩, hS.F ht9⟩) hS.2.2 dX5_close_208
                      · refine lv_iload hx hb dX5_close_174 (lv_at hl 1 rfl) ?_
                        refine lv_goto (tgt := 183) hx hb dX5_close_176 (by decide) ?_
                        refine lv_topi (fun f2 ef2 => ?_)
                        have e2 : f2 = pg_hold u x y1 z := by rw [ef2, pg_hold, ← pg_min_m, ← e1, if_neg c_171]
                        refine va_put (D := D) (ci := 5) (v := .int f2) (ty := .int) (C := RX5) (T := TX5) (N := 31) hx hb hts hiX5 tyX5 tyX5_ok nmX5 hown hK hP hD hS 0 rfl rfl 16 (by decide) hw9 (fun _ h9 => h9) rfl (by decide +kernel) rfl rfl (Nat.le_of_ble_eq_true rfl) dX5_close_183 (fun H locs hP hD hS => ?_)
                        have hP : va_P D vwCl (pg_wM cI cZ a ((upd (upd (upd u.1 15 0) 4 f1) 5 f2), u.2)) H := hP
                        have hD : va_D A (pg_wM cI cZ a ((upd (upd (upd u.1 15 0) 4 f1) 5 f2), u.2)) := hD
                        refine lv_aload_n hx hb dX5_close_186 rfl (lv_at hl 5 rfl) ?_
                        refine lv_aload_n hx hb dX5_close_187 rfl (lv_at hl 5 rfl) ?_
                        refine va_get (D := D) (ci := 5) (v := .int f1) (C := RX5) (T := TX5) (N := 31) hx hb hts hiX5 hown hK hP 0 rfl rfl 15 (by decide) hw7 (fun _ h9 => h9) rfl dX5_close_188 ?_
                        refine lv_aload_n hx hb dX5_close_191 rfl (lv_at hl 5 rfl) ?_
                        refine va_get (D := D) (ci := 5) (v := .int f2) (C := RX5) (T := TX5) (N := 31) hx hb hts hiX5 hown hK hP 0 rfl rfl 16 (by decide) hw9 (fun _ h9 => h9) rfl dX5_close_192 ?_
                        refine lv_isub hx hb dX5_close_195 ?_
                        refine va_put (D := D) (ci := 5) (v := .int (f1 - f2)) (ty := .int) (C := RX5) (T := TX5) (N := 31) hx hb hts hiX5 tyX5 tyX5_ok nmX5 hown hK hP hD hS 0 rfl rfl 17 (by decide) hw10 (fun _ h9 => h9) rfl (by decide +kernel) rfl rfl (Nat.le_of_ble_eq_true rfl) dX5_close_196 (fun H locs hP hD hS => ?_)
                        have hP : va_P D vwCl (pg_wM cI cZ a ((upd (upd (upd (upd u.1 15 0) 4 f1) 5 f2) 6 (f1 - f2)), u.2)) H := hP
                        have hD : va_D A (pg_wM cI cZ a ((upd (upd (upd (upd u.1 15 0) 4 f1) 5 f2) 6 (f1 - f2)), u.2)) := hD
                        refine lv_aload_n hx hb dX5_close_199 rfl (lv_at hl 5 rfl) ?_
                        refine lv_iconst (v := 1) hx hb dX5_close_200 (by decide) ?_
                        refine va_put (D := D) (ci := 5) (v := .int 1) (ty := .boolean) (C := RX5) (T := TX5) (N := 31) hx hb hts hiX5 tyX5 tyX5_ok nmX5 hown hK hP hD hS 0 rfl rfl 13 (by decide) hw3 (fun _ h9 => h9) rfl (by decide +kernel) rfl rfl (Nat.le_of_ble_eq_true rfl) dX5_close_201 (fun H locs hP hD hS => ?_)
                        have hP : va_P D vwCl (pg_wM cI cZ a ((upd (upd (upd (upd (upd u.1 15 0) 4 f1) 5 f2) 6 (f1 - f2)) 14 1), u.2)) H := hP
                        have hD : va_D A (pg_wM cI cZ a ((upd (upd (upd (upd (upd u.1 15 0) 4 f1) 5 f2) 6 (f1 - f2)) 14 1), u.2)) := hD
                        refine lv_aload_n hx hb dX5_close_204 rfl (lv_at hl 5 rfl) ?_
                        refine va_get (D := D) (ci := 5) (v := .int f1) (C := RX5) (T := TX5) (N := 31) hx hb hts hiX5 hown hK hP 0 rfl rfl 15 (by decide) hw7 (fun _ h9 => h9) rfl dX5_close_205 ?_
                        exact W.iret (v := f1) hx hb hr (fun t9 ht9 hW9 => ⟨⟨f1, ((upd (upd (upd (upd (upd u.1 15 0) 4 f1) 5 f2) 6 (f1 - f2)) 14 1), u.2), rfl, ⟨e1, by rw [e1, e2]⟩, by rw [ht9]; exact hP, va_K.moved hW9.alike hK, hD⟩, hS.F ht9⟩) hS.2.2 dX5_close_208
                    · have hlt : i < 4 := pg_stay (rfl) (by omega) c_143
                      refine lv_iload hx hb dX5_close_146 (lv_at hl 1 rfl) ?_
                      refine lv_aload_n hx hb dX5_close_148 rfl (lv_at hl 5 rfl) ?_
                      refine va_get (D := D) (ci := 5) (v := .ref (a 1)) (C := RX5) (T := TX5) (N := 31) hx hb hts hiX5 hown hK hP 0 rfl rfl 3 (by decide) hw8 (fun _ h9 => h9) rfl dX5_close_149 ?_
                      refine lv_iload hx hb dX5_close_152 (lv_at hl 0 rfl) ?_
                      refine pg_ild (f := u.2 0) hx hb hK hP 1 0 rfl rfl (show i < _ by omega) (by decide) dX5_close_154 ?_
                      refine lv_iadd hx hb dX5_close_155 ?_
                      refine lv_istore (lv' := [(7, .int ((pg_sm (u.2 0) i) + (u.2 0 i))), (8, .int (nI i)), (6, .int ((((u.1 0) + x) - y1) + f0)), (5, .int f0), (4, .int (z - (u.1 1))), (0, .ref (a 0)), (1, .int x), (2, .int y1), (3, .int z)]) hx hb dX5_close_156 hl (by decide) rfl (fun ls hl => ?_)
                      refine lv_iinc (v := nI (i + 1)) (lv' := [(8, .int (nI (i + 1))), (7, .int ((pg_sm (u.2 0) i) + (u.2 0 i))), (6, .int ((((u.1 0) + x) - y1) + f0)), (5, .int f0), (4, .int (z - (u.1 1))), (0, .ref (a 0)), (1, .int x), (2, .int y1), (3, .int z)]) hx hb dX5_close_158 hl (k := 1) rfl (by rw [nI_succ]; rfl) (by decide) rfl (fun ls hl => ?_)
                      refine lv_goto (tgt := 140) hx hb dX5_close_161 (by decide) ?_
                      exact ih (i + 1) ((pg_sm (u.2 0) i) + (u.2 0 i)) (by omega) (by omega) rfl _ _ hP hD hS ls (lv_sub hl [0, 1, 2, 3, 4, 5, 6, 7, 8] rfl)
                exact L140 (4 + 1) 0 0 (by omega) (by omega) rfl _ _ hP hD hS ls hl
              · refine lv_iconst (v := 0) hx hb dX5_close_125 (by decide) ?_
                refine lv_goto (tgt := 131) hx hb dX5_close_126 (by decide) ?_
                refine lv_topi (fun f1 ef1 => ?_)
                have e1 : f1 = pg_fin u x y1 z := by rw [ef1, pg_fin, ← pg_max_m, if_neg (by rw [← e0]; exact c_122)]
                refine va_put (D := D) (ci := 5) (v := .int f1) (ty := .int) (C := RX5) (T := TX5) (N := 31) hx hb hts hiX5 tyX5 tyX5_ok nmX5 hown hK hP hD hS 0 rfl rfl 15 (by decide) hw7 (fun _ h9 => h9) rfl (by decide +kernel) rfl rfl (Nat.le_of_ble_eq_true rfl) dX5_close_131 (fun H locs hP hD hS => ?_)
                have hP : va_P D vwCl (pg_wM cI cZ a ((upd (upd u.1 15 0) 4 f1), u.2)) H := hP
                have hD : va_D A (pg_wM cI cZ a ((upd (upd u.1 15 0) 4 f1), u.2)) := hD
                refine lv_iconst (v := 0) hx hb dX5_close_134 (by decide) ?_
                refine lv_istore (lv' := [(7, .int 0), (6, .int ((((u.1 0) + x) - y1) + f0)), (5, .int f0), (4, .int (z - (u.1 1))), (0, .ref (a 0)), (1, .int x), (2, .int y1), (3, .int z)]) hx hb dX5_close_135 hl (by decide) rfl (fun ls hl => ?_)
                refine lv_iconst (v := 0) hx hb dX5_close_137 (by decide) ?_
                refine lv_istore (lv' := [(8, .int 0), (7, .int 0), (6, .int ((((u.1 0) + x) - y1) + f0)), (5, .int f0), (4, .int (z - (u.1 1))), (0, .ref (a 0)), (1, .int x), (2, .int y1), (3, .int z)]) hx hb dX5_close_138 hl (by decide) rfl (fun ls hl => ?_)
                have L140 : ∀ (k9 i : Nat) (s9 : Int32), i ≤ 4 → 4 < i + k9 → s9 = pg_sm (u.2 0) i → ∀ (H : Heap) (locs : List Loc), va_P D vwCl (pg_wM cI cZ a ((upd (upd u.1 15 0) 4 f1), u.2)) H → va_D A (pg_wM cI cZ a ((upd (upd u.1 15 0) 4 f1), u.2)) → va_S A s.heap H locs → ∀ ls : Array Slot, lv_has ls 9 [(8, .int (nI i)), (7, .int s9), (6, .int ((((u.1 0) + x) - y1) + f0)), (5, .int f0), (4, .int (z - (u.1 1))), (0, .ref (a 0)), (1, .int x), (2, .int y1), (3, .int z)] → W p l e (headSpec wsX5_close ({ frames := 1, cells := 0, slots := 0, locals := 22 })).room s m ([.ref (a 0), .int x, .int y1, .int z] : List Value).toArray below meth c H locs 0 0 (MQ below (va_Qi (fun r u' => r = pg_fin u x y1 z ∧ u' = (upd (upd (upd (upd (upd u.1 15 0) 4 (pg_fin u x y1 z)) 5 (pg_hold u x y1 z)) 6 (pg_fin u x y1 z - pg_hold u x y1 z)) 14 1, u.2)) (pg_E D (pg_ty cI cZ) A (pg_wM cI cZ a)) A) ([.ref (a 0), .int x, .int y1, .int z] : List Value).toArray s 0 0 A) (F0 m 140 ls []) := by
                  intro k9
                  induction k9 with
                  | zero => intro i s9 h1 h2; exact absurd h2 (by omega)
                  | succ k9 ih =>
                    intro i s9 hi9 hk9 hs99 H locs hP hD hS ls hl
                    subst hs99
                    refine lv_iload hx hb dX5_close_140 (lv_at hl 0 rfl) ?_
                    refine lv_iconst (v := 4) hx hb dX5_close_142 (by decide) ?_
                    refine lv_icmp_ge (tgt := 164) hx hb dX5_close_143 (by decide) (fun c_143 => ?_) (fun c_143 => ?_)
                    · have hiN : i = 4 := pg_exit (rfl) (by decide) hi9 c_143
                      subst hiN
                      refine lv_aload_n hx hb dX5_close_164 rfl (lv_at hl 5 rfl) ?_
                      refine lv_iload hx hb dX5_close_165 (lv_at hl 1 rfl) ?_
                      refine lv_aload_n hx hb dX5_close_167 rfl (lv_at hl 5 rfl) ?_
                      refine va_get (D := D) (ci := 5) (v := .int f1) (C := RX5) (T := TX5) (N := 31) hx hb hts hiX5 hown hK hP 0 rfl rfl 15 (by decide) hw7 (fun _ h9 => h9) rfl dX5_close_168 ?_
                      refine lv_icmp_ge (tgt := 179) hx hb dX5_close_171 (by decide) (fun c_171 => ?_) (fun c_171 => ?_)
                      · refine lv_aload_n hx hb dX5_close_179 rfl (lv_at hl 5 rfl) ?_
                        refine va_get (D := D) (ci := 5) (v := .int f1) (C := RX5) (T := TX5) (N := 31) hx hb hts hiX5 hown hK hP 0 rfl rfl 15 (by decide) hw7 (fun _ h9 => h9) rfl dX5_close_180 ?_
                        refine lv_topi (fun f2 ef2 => ?_)
                        have e2 : f2 = pg_hold u x y1 z := by rw [ef2, pg_hold, ← pg_min_m, ← e1, if_pos c_171]
                        refine va_put (D := D) (ci := 5) (v := .int f2) (ty := .int) (C := RX5) (T := TX5) (N := 31) hx hb hts hiX5 tyX5 tyX5_ok nmX5 hown hK hP hD hS 0 rfl rfl 16 (by decide) hw9 (fun _ h9 => h9) rfl (by decide +kernel) rfl rfl (Nat.le_of_ble_eq_true rfl) dX5_close_183 (fun H locs hP hD hS => ?_)
                        have hP : va_P D vwCl (pg_wM cI cZ a ((upd (upd (upd u.1 15 0) 4 f1) 5 f2), u.2)) H := hP
                        have hD : va_D A (pg_wM cI cZ a ((upd (upd (upd u.1 15 0) 4 f1) 5 f2), u.2)) := hD
                        refine lv_aload_n hx hb dX5_close_186 rfl (lv_at hl 5 rfl) ?_
                        refine lv_aload_n hx hb dX5_close_187 rfl (lv_at hl 5 rfl) ?_
                        refine va_get (D := D) (ci := 5) (v := .int f1) (C := RX5) (T := TX5) (N := 31) hx hb hts hiX5 hown hK hP 0 rfl rfl 15 (by decide) hw7 (fun _ h9 => h9) rfl dX5_close_188 ?_
                        refine lv_aload_n hx hb dX5_close_191 rfl (lv_at hl 5 rfl) ?_
                        refine va_get (D := D) (ci := 5) (v := .int f2) (C := RX5) (T := TX5) (N := 31) hx hb hts hiX5 hown hK hP 0 rfl rfl 16 (by decide) hw9 (fun _ h9 => h9) rfl dX5_close_192 ?_
                        refine lv_isub hx hb dX5_close_195 ?_
                        refine va_put (D := D) (ci := 5) (v := .int (f1 - f2)) (ty := .int) (C := RX5) (T := TX5) (N := 31) hx hb hts hiX5 tyX5 tyX5_ok nmX5 hown hK hP hD hS 0 rfl rfl 17 (by decide) hw10 (fun _ h9 => h9) rfl (by decide +kernel) rfl rfl (Nat.le_of_ble_eq_true rfl) dX5_close_196 (fun H locs hP hD hS => ?_)
                        have hP : va_P D vwCl (pg_wM cI cZ a ((upd (upd (upd (upd u.1 15 0) 4 f1) 5 f2) 6 (f1 - f2)), u.2)) H := hP
                        have hD : va_D A (pg_wM cI cZ a ((upd (upd (upd (upd u.1 15 0) 4 f1) 5 f2) 6 (f1 - f2)), u.2)) := hD
                        refine lv_aload_n hx hb dX5_close_199 rfl (lv_at hl 5 rfl) ?_
                        refine lv_iconst (v := 1) hx hb dX5_close_200 (by decide) ?_
                        refine va_put (D := D) (ci := 5) (v := .int 1) (ty := .boolean) (C := RX5) (T := TX5) (N := 31) hx hb hts hiX5 tyX5 tyX5_ok nmX5 hown hK hP hD hS 0 rfl rfl 13 (by decide) hw3 (fun _ h9 => h9) rfl (by decide +kernel) rfl rfl (Nat.le_of_ble_eq_true rfl) dX5_close_201 (fun H locs hP hD hS => ?_)
                        have hP : va_P D vwCl (pg_wM cI cZ a ((upd (upd (upd (upd (upd u.1 15 0) 4 f1) 5 f2) 6 (f1 - f2)) 14 1), u.2)) H := hP
                        have hD : va_D A (pg_wM cI cZ a ((upd (upd (upd (upd (upd u.1 15 0) 4 f1) 5 f2) 6 (f1 - f2)) 14 1), u.2)) := hD
                        refine lv_aload_n hx hb dX5_close_204 rfl (lv_at hl 5 rfl) ?_
                        refine va_get (D := D) (ci := 5) (v := .int f1) (C := RX5) (T := TX5) (N := 31) hx hb hts hiX5 hown hK hP 0 rfl rfl 15 (by decide) hw7 (fun _ h9 => h9) rfl dX5_close_205 ?_
                        exact W.iret (v := f1) hx hb hr (fun t9 ht9 hW9 => ⟨⟨f1, ((upd (upd (upd (upd (upd u.1 15 0) 4 f1) 5 f2) 6 (f1 - f2)) 14 1), u.2), rfl, ⟨e1, by rw [e1, e2]⟩, by rw [ht9]; exact hP, va_K.moved hW9.alike hK, hD⟩, hS.F ht9⟩) hS.2.2 dX5_close_208
                      · refine lv_iload hx hb dX5_close_174 (lv_at hl 1 rfl) ?_
                        refine lv_goto (tgt := 183) hx hb dX5_close_176 (by decide) ?_
                        refine lv_topi (fun f2 ef2 => ?_)
                        have e2 : f2 = pg_hold u x y1 z := by rw [ef2, pg_hold, ← pg_min_m, ← e1, if_neg c_171]
                        refine va_put (D := D) (ci := 5) (v := .int f2) (ty := .int) (C := RX5) (T := TX5) (N := 31) hx hb hts hiX5 tyX5 tyX5_ok nmX5 hown hK hP hD hS 0 rfl rfl 16 (by decide) hw9 (fun _ h9 => h9) rfl (by decide +kernel) rfl rfl (Nat.le_of_ble_eq_true rfl) dX5_close_183 (fun H locs hP hD hS => ?_)
                        have hP : va_P D vwCl (pg_wM cI cZ a ((upd (upd (upd u.1 15 0) 4 f1) 5 f2), u.2)) H := hP
                        have hD : va_D A (pg_wM cI cZ a ((upd (upd (upd u.1 15 0) 4 f1) 5 f2), u.2)) := hD
                        refine lv_aload_n hx hb dX5_close_186 rfl (lv_at hl 5 rfl) ?_
                        refine lv_aload_n hx hb dX5_close_187 rfl (lv_at hl 5 rfl) ?_
                        refine va_get (D := D) (ci := 5) (v := .int f1) (C := RX5) (T := TX5) (N := 31) hx hb hts hiX5 hown hK hP 0 rfl rfl 15 (by decide) hw7 (fun _ h9 => h9) rfl dX5_close_188 ?_
                        refine lv_aload_n hx hb dX5_close_191 rfl (lv_at hl 5 rfl) ?_
                        refine va_get (D := D) (ci := 5) (v := .int f2) (C := RX5) (T := TX5) (N := 31) hx hb hts hiX5 hown hK hP 0 rfl rfl 16 (by decide) hw9 (fun _ h9 => h9) rfl dX5_close_192 ?_
                        refine lv_isub hx hb dX5_close_195 ?_
                        refine va_put (D := D) (ci := 5) (v := .int (f1 - f2)) (ty := .int) (C := RX5) (T := TX5) (N := 31) hx hb hts hiX5 tyX5 tyX5_ok nmX5 hown hK hP hD hS 0 rfl rfl 17 (by decide) hw10 (fun _ h9 => h9) rfl (by decide +kernel) rfl rfl (Nat.le_of_ble_eq_true rfl) dX5_close_196 (fun H locs hP hD hS => ?_)
                        have hP : va_P D vwCl (pg_wM cI cZ a ((upd (upd (upd (upd u.1 15 0) 4 f1) 5 f2) 6 (f1 - f2)), u.2)) H := hP
                        have hD : va_D A (pg_wM cI cZ a ((upd (upd (upd (upd u.1 15 0) 4 f1) 5 f2) 6 (f1 - f2)), u.2)) := hD
                        refine lv_aload_n hx hb dX5_close_199 rfl (lv_at hl 5 rfl) ?_
                        refine lv_iconst (v := 1) hx hb dX5_close_200 (by decide) ?_
                        refine va_put (D := D) (ci := 5) (v := .int 1) (ty := .boolean) (C := RX5) (T := TX5) (N := 31) hx hb hts hiX5 tyX5 tyX5_ok nmX5 hown hK hP hD hS 0 rfl rfl 13 (by decide) hw3 (fun _ h9 => h9) rfl (by decide +kernel) rfl rfl (Nat.le_of_ble_eq_true rfl) dX5_close_201 (fun H locs hP hD hS => ?_)
                        have hP : va_P D vwCl (pg_wM cI cZ a ((upd (upd (upd (upd (upd u.1 15 0) 4 f1) 5 f2) 6 (f1 - f2)) 14 1), u.2)) H := hP
                        have hD : va_D A (pg_wM cI cZ a ((upd (upd (upd (upd (upd u.1 15 0) 4 f1) 5 f2) 6 (f1 - f2)) 14 1), u.2)) := hD
                        refine lv_aload_n hx hb dX5_close_204 rfl (lv_at hl 5 rfl) ?_
                        refine va_get (D := D) (ci := 5) (v := .int f1) (C := RX5) (T := TX5) (N := 31) hx hb hts hiX5 hown hK hP 0 rfl rfl 15 (by decide) hw7 (fun _ h9 => h9) rfl dX5_close_205 ?_
                        exact W.iret (v := f1) hx hb hr (fun t9 ht9 hW9 => ⟨⟨f1, ((upd (upd (upd (upd (upd u.1 15 0) 4 f1) 5 f2) 6 (f1 - f2)) 14 1), u.2), rfl, ⟨e1, by rw [e1, e2]⟩, by rw [ht9]; exact hP, va_K.moved hW9.alike hK, hD⟩, hS.F ht9⟩) hS.2.2 dX5_close_208
                    · have hlt : i < 4 := pg_stay (rfl) (by omega) c_143
                      refine lv_iload hx hb dX5_close_146 (lv_at hl 1 rfl) ?_
                      refine lv_aload_n hx hb dX5_close_148 rfl (lv_at hl 5 rfl) ?_
                      refine va_get (D := D) (ci := 5) (v := .ref (a 1)) (C := RX5) (T := TX5) (N := 31) hx hb hts hiX5 hown hK hP 0 rfl rfl 3 (by decide) hw8 (fun _ h9 => h9) rfl dX5_close_149 ?_
                      refine lv_iload hx hb dX5_close_152 (lv_at hl 0 rfl) ?_
                      refine pg_ild (f := u.2 0) hx hb hK hP 1 0 rfl rfl (show i < _ by omega) (by decide) dX5_close_154 ?_
                      refine lv_iadd hx hb dX5_close_155 ?_
                      refine lv_istore (lv' := [(7, .int ((pg_sm (u.2 0) i) + (u.2 0 i))), (8, .int (nI i)), (6, .int ((((u.1 0) + x) - y1) + f0)), (5, .int f0), (4, .int (z - (u.1 1))), (0, .ref (a 0)), (1, .int x), (2, .int y1), (3, .int z)]) hx hb dX5_close_156 hl (by decide) rfl (fun ls hl => ?_)
                      refine lv_iinc (v := nI (i + 1)) (lv' := [(8, .int (nI (i + 1))), (7, .int ((pg_sm (u.2 0) i) + (u.2 0 i))), (6, .int ((((u.1 0) + x) - y1) + f0)), (5, .int f0), (4, .int (z - (u.1 1))), (0, .ref (a 0)), (1, .int x), (2, .int y1), (3, .int z)]) hx hb dX5_close_158 hl (k := 1) rfl (by rw [nI_succ]; rfl) (by decide) rfl (fun ls hl => ?_)
                      refine lv_goto (tgt := 140) hx hb dX5_close_161 (by decide) ?_
                      exact ih (i + 1) ((pg_sm (u.2 0) i) + (u.2 0 i)) (by omega) (by omega) rfl _ _ hP hD hS ls (lv_sub hl [0, 1, 2, 3, 4, 5, 6, 7, 8] rfl)
                exact L140 (4 + 1) 0 0 (by omega) (by omega) rfl _ _ hP hD hS ls hl
          · refine lv_iload hx hb dX5_close_73 (lv_at hl 0 rfl) ?_
            refine lv_aload_n hx hb dX5_close_75 rfl (lv_at hl 1 rfl) ?_
            refine va_get (D := D) (ci := 5) (v := .int (u.1 2)) (C := RX5) (T := TX5) (N := 31) hx hb hts hiX5 hown hK hP 0 rfl rfl 2 (by decide) hw5 (fun _ h9 => h9) rfl dX5_close_76 ?_
            refine lv_isub hx hb dX5_close_79 ?_
            refine lv_goto (tgt := 104) hx hb dX5_close_80 (by decide) ?_
            refine lv_topi (fun f0 ef0 => ?_)
            have e0 : f0 = pg_col u.1 (z - u.1 1) := by rw [ef0, pg_col, if_neg c_70]
            refine lv_istore (lv' := [(5, .int f0), (4, .int (z - (u.1 1))), (0, .ref (a 0)), (1, .int x), (2, .int y1), (3, .int z)]) hx hb dX5_close_104 hl (by decide) rfl (fun ls hl => ?_)
            refine lv_aload_n hx hb dX5_close_106 rfl (lv_at hl 2 rfl) ?_
            refine va_get (D := D) (ci := 5) (v := .int (u.1 0)) (C := RX5) (T := TX5) (N := 31) hx hb hts hiX5 hown hK hP 0 rfl rfl 0 (by decide) hw6 (fun _ h9 => h9) rfl dX5_close_107 ?_
            refine lv_iload_n hx hb dX5_close_110 rfl (lv_at hl 3 rfl) ?_
            refine lv_iadd hx hb dX5_close_111 ?_
            refine lv_iload_n hx hb dX5_close_112 rfl (lv_at hl 4 rfl) ?_
            refine lv_isub hx hb dX5_close_113 ?_
            refine lv_iload hx hb dX5_close_114 (lv_at hl 0 rfl) ?_
            refine lv_iadd hx hb dX5_close_116 ?_
            refine lv_istore (lv' := [(6, .int ((((u.1 0) + x) - y1) + f0)), (5, .int f0), (4, .int (z - (u.1 1))), (0, .ref (a 0)), (1, .int x), (2, .int y1), (3, .int z)]) hx hb dX5_close_117 hl (by decide) rfl (fun ls hl => ?_)
            refine lv_aload_n hx hb dX5_close_119 rfl (lv_at hl 3 rfl) ?_
            refine lv_iload hx hb dX5_close_120 (lv_at hl 0 rfl) ?_
            refine lv_if_ge (tgt := 129) hx hb dX5_close_122 (by decide) (fun c_122 => ?_) (fun c_122 => ?_)
            · refine lv_iload hx hb dX5_close_129 (lv_at hl 0 rfl) ?_
              refine lv_topi (fun f1 ef1 => ?_)
              have e1 : f1 = pg_fin u x y1 z := by rw [ef1, e0, pg_fin, ← pg_max_m, if_pos (by rw [← e0]; exact c_122)]
              refine va_put (D := D) (ci := 5) (v := .int f1) (ty := .int) (C := RX5) (T := TX5) (N := 31) hx hb hts hiX5 tyX5 tyX5_ok nmX5 hown hK hP hD hS 0 rfl rfl 15 (by decide) hw7 (fun _ h9 => h9) rfl (by decide +kernel) rfl rfl (Nat.le_of_ble_eq_true rfl) dX5_close_131 (fun H locs hP hD hS => ?_)
              have hP : va_P D vwCl (pg_wM cI cZ a ((upd (upd u.1 15 0) 4 f1), u.2)) H := hP
              have hD : va_D A (pg_wM cI cZ a ((upd (upd u.1 15 0) 4 f1), u.2)) := hD
              refine lv_iconst (v := 0) hx hb dX5_close_134 (by decide) ?_
              refine lv_istore (lv' := [(7, .int 0), (6, .int ((((u.1 0) + x) - y1) + f0)), (5, .int f0), (4, .int (z - (u.1 1))), (0, .ref (a 0)), (1, .int x), (2, .int y1), (3, .int z)]) hx hb dX5_close_135 hl (by decide) rfl (fun ls hl => ?_)
              refine lv_iconst (v := 0) hx hb dX5_close_137 (by decide) ?_
              refine lv_istore (lv' := [(8, .int 0), (7, .int 0), (6, .int ((((u.1 0) + x) - y1) + f0)), (5, .int f0), (4, .int (z - (u.1 1))), (0, .ref (a 0)), (1, .int x), (2, .int y1), (3, .int z)]) hx hb dX5_close_138 hl (by decide) rfl (fun ls hl => ?_)
              have L140 : ∀ (k9 i : Nat) (s9 : Int32), i ≤ 4 → 4 < i + k9 → s9 = pg_sm (u.2 0) i → ∀ (H : Heap) (locs : List Loc), va_P D vwCl (pg_wM cI cZ a ((upd (upd u.1 15 0) 4 f1), u.2)) H → va_D A (pg_wM cI cZ a ((upd (upd u.1 15 0) 4 f1), u.2)) → va_S A s.heap H locs → ∀ ls : Array Slot, lv_has ls 9 [(8, .int (nI i)), (7, .int s9), (6, .int ((((u.1 0) + x) - y1) + f0)), (5, .int f0), (4, .int (z - (u.1 1))), (0, .ref (a 0)), (1, .int x), (2, .int y1), (3, .int z)] → W p l e (headSpec wsX5_close ({ frames := 1, cells := 0, slots := 0, locals := 22 })).room s m ([.ref (a 0), .int x, .int y1, .int z] : List Value).toArray below meth c H locs 0 0 (MQ below (va_Qi (fun r u' => r = pg_fin u x y1 z ∧ u' = (upd (upd (upd (upd (upd u.1 15 0) 4 (pg_fin u x y1 z)) 5 (pg_hold u x y1 z)) 6 (pg_fin u x y1 z - pg_hold u x y1 z)) 14 1, u.2)) (pg_E D (pg_ty cI cZ) A (pg_wM cI cZ a)) A) ([.ref (a 0), .int x, .int y1, .int z] : List Value).toArray s 0 0 A) (F0 m 140 ls []) := by
                intro k9
                induction k9 with
                | zero => intro i s9 h1 h2; exact absurd h2 (by omega)
                | succ k9 ih =>
                  intro i s9 hi9 hk9 hs99 H locs hP hD hS ls hl
                  subst hs99
                  refine lv_iload hx hb dX5_close_140 (lv_at hl 0 rfl) ?_
                  refine lv_iconst (v := 4) hx hb dX5_close_142 (by decide) ?_
                  refine lv_icmp_ge (tgt := 164) hx hb dX5_close_143 (by decide) (fun c_143 => ?_) (fun c_143 => ?_)
                  · have hiN : i = 4 := pg_exit (rfl) (by decide) hi9 c_143
                    subst hiN
                    refine lv_aload_n hx hb dX5_close_164 rfl (lv_at hl 5 rfl) ?_
                    refine lv_iload hx hb dX5_close_165 (lv_at hl 1 rfl) ?_
                    refine lv_aload_n hx hb dX5_close_167 rfl (lv_at hl 5 rfl) ?_
                    refine va_get (D := D) (ci := 5) (v := .int f1) (C := RX5) (T := TX5) (N := 31) hx hb hts hiX5 hown hK hP 0 rfl rfl 15 (by decide) hw7 (fun _ h9 => h9) rfl dX5_close_168 ?_
                    refine lv_icmp_ge (tgt := 179) hx hb dX5_close_171 (by decide) (fun c_171 => ?_) (fun c_171 => ?_)
                    · refine lv_aload_n hx hb dX5_close_179 rfl (lv_at hl 5 rfl) ?_
                      refine va_get (D := D) (ci := 5) (v := .int f1) (C := RX5) (T := TX5) (N := 31) hx hb hts hiX5 hown hK hP 0 rfl rfl 15 (by decide) hw7 (fun _ h9 => h9) rfl dX5_close_180 ?_
                      refine lv_topi (fun f2 ef2 => ?_)
                      have e2 : f2 = pg_hold u x y1 z := by rw [ef2, pg_hold, ← pg_min_m, ← e1, if_pos c_171]
                      refine va_put (D := D) (ci := 5) (v := .int f2) (ty := .int) (C := RX5) (T := TX5) (N := 31) hx hb hts hiX5 tyX5 tyX5_ok nmX5 hown hK hP hD hS 0 rfl rfl 16 (by decide) hw9 (fun _ h9 => h9) rfl (by decide +kernel) rfl rfl (Nat.le_of_ble_eq_true rfl) dX5_close_183 (fun H locs hP hD hS => ?_)
                      have hP : va_P D vwCl (pg_wM cI cZ a ((upd (upd (upd u.1 15 0) 4 f1) 5 f2), u.2)) H := hP
                      have hD : va_D A (pg_wM cI cZ a ((upd (upd (upd u.1 15 0) 4 f1) 5 f2), u.2)) := hD
                      refine lv_aload_n hx hb dX5_close_186 rfl (lv_at hl 5 rfl) ?_
                      refine lv_aload_n hx hb dX5_close_187 rfl (lv_at hl 5 rfl) ?_
                      refine va_get (D := D) (ci := 5) (v := .int f1) (C := RX5) (T := TX5) (N := 31) hx hb hts hiX5 hown hK hP 0 rfl rfl 15 (by decide) hw7 (fun _ h9 => h9) rfl dX5_close_188 ?_
                      refine lv_aload_n hx hb dX5_close_191 rfl (lv_at hl 5 rfl) ?_
                      refine va_get (D := D) (ci := 5) (v := .int f2) (C := RX5) (T := TX5) (N := 31) hx hb hts hiX5 hown hK hP 0 rfl rfl 16 (by decide) hw9 (fun _ h9 => h9) rfl dX5_close_192 ?_
                      refine lv_isub hx hb dX5_close_195 ?_
                      refine va_put (D := D) (ci := 5) (v := .int (f1 - f2)) (ty := .int) (C := RX5) (T := TX5) (N := 31) hx hb hts hiX5 tyX5 tyX5_ok nmX5 hown hK hP hD hS 0 rfl rfl 17 (by decide) hw10 (fun _ h9 => h9) rfl (by decide +kernel) rfl rfl (Nat.le_of_ble_eq_true rfl) dX5_close_196 (fun H locs hP hD hS => ?_)
                      have hP : va_P D vwCl (pg_wM cI cZ a ((upd (upd (upd (upd u.1 15 0) 4 f1) 5 f2) 6 (f1 - f2)), u.2)) H := hP
                      have hD : va_D A (pg_wM cI cZ a ((upd (upd (upd (upd u.1 15 0) 4 f1) 5 f2) 6 (f1 - f2)), u.2)) := hD
                      refine lv_aload_n hx hb dX5_close_199 rfl (lv_at hl 5 rfl) ?_
                      refine lv_iconst (v := 1) hx hb dX5_close_200 (by decide) ?_
                      refine va_put (D := D) (ci := 5) (v := .int 1) (ty := .boolean) (C := RX5) (T := TX5) (N := 31) hx hb hts hiX5 tyX5 tyX5_ok nmX5 hown hK hP hD hS 0 rfl rfl 13 (by decide) hw3 (fun _ h9 => h9) rfl (by decide +kernel) rfl rfl (Nat.le_of_ble_eq_true rfl) dX5_close_201 (fun H locs hP hD hS => ?_)
                      have hP : va_P D vwCl (pg_wM cI cZ a ((upd (upd (upd (upd (upd u.1 15 0) 4 f1) 5 f2) 6 (f1 - f2)) 14 1), u.2)) H := hP
                      have hD : va_D A (pg_wM cI cZ a ((upd (upd (upd (upd (upd u.1 15 0) 4 f1) 5 f2) 6 (f1 - f2)) 14 1), u.2)) := hD
                      refine lv_aload_n hx hb dX5_close_204 rfl (lv_at hl 5 rfl) ?_
                      refine va_get (D := D) (ci := 5) (v := .int f1) (C := RX5) (T := TX5) (N := 31) hx hb hts hiX5 hown hK hP 0 rfl rfl 15 (by decide) hw7 (fun _ h9 => h9) rfl dX5_close_205 ?_
                      exact W.iret (v := f1) hx hb hr (fun t9 ht9 hW9 => ⟨⟨f1, ((upd (upd (upd (upd (upd u.1 15 0) 4 f1) 5 f2) 6 (f1 - f2)) 14 1), u.2), rfl, ⟨e1, by rw [e1, e2]⟩, by rw [ht9]; exact hP, va_K.moved hW9.alike hK, hD⟩, hS.F ht9⟩) hS.2.2 dX5_close_208
                    · refine lv_iload hx hb dX5_close_174 (lv_at hl 1 rfl) ?_
                      refine lv_goto (tgt := 183) hx hb dX5_close_176 (by decide) ?_
                      refine lv_topi (fun f2 ef2 => ?_)
                      have e2 : f2 = pg_hold u x y1 z := by rw [ef2, pg_hold, ← pg_min_m, ← e1, if_neg c_171]
                      refine va_put (D := D) (ci := 5) (v := .int f2) (ty := .int) (C := RX5) (T := TX5) (N := 31) hx hb hts hiX5 tyX5 tyX5_ok nmX5 hown hK hP hD hS 0 rfl rfl 16 (by decide) hw9 (fun _ h9 => h9) rfl (by decide +kernel) rfl rfl (Nat.le_of_ble_eq_true rfl) dX5_close_183 (fun H locs hP hD hS => ?_)
                      have hP : va_P D vwCl (pg_wM cI cZ a ((upd (upd (upd u.1 15 0) 4 f1) 5 f2), u.2)) H := hP
                      have hD : va_D A (pg_wM cI cZ a ((upd (upd (upd u.1 15 0) 4 f1) 5 f2), u.2)) := hD
                      refine lv_aload_n hx hb dX5_close_186 rfl (lv_at hl 5 rfl) ?_
                      refine lv_aload_n hx hb dX5_close_187 rfl (lv_at hl 5 rfl) ?_
                      refine va_get (D := D) (ci := 5) (v := .int f1) (C := RX5) (T := TX5) (N := 31) hx hb hts hiX5 hown hK hP 0 rfl rfl 15 (by decide) hw7 (fun _ h9 => h9) rfl dX5_close_188 ?_
                      refine lv_aload_n hx hb dX5_close_191 rfl (lv_at hl 5 rfl) ?_
                      refine va_get (D := D) (ci := 5) (v := .int f2) (C := RX5) (T := TX5) (N := 31) hx hb hts hiX5 hown hK hP 0 rfl rfl 16 (by decide) hw9 (fun _ h9 => h9) rfl dX5_close_192 ?_
                      refine lv_isub hx hb dX5_close_195 ?_
                      refine va_put (D := D) (ci := 5) (v := .int (f1 - f2)) (ty := .int) (C := RX5) (T := TX5) (N := 31) hx hb hts hiX5 tyX5 tyX5_ok nmX5 hown hK hP hD hS 0 rfl rfl 17 (by decide) hw10 (fun _ h9 => h9) rfl (by decide +kernel) rfl rfl (Nat.le_of_ble_eq_true rfl) dX5_close_196 (fun H locs hP hD hS => ?_)
                      have hP : va_P D vwCl (pg_wM cI cZ a ((upd (upd (upd (upd u.1 15 0) 4 f1) 5 f2) 6 (f1 - f2)), u.2)) H := hP
                      have hD : va_D A (pg_wM cI cZ a ((upd (upd (upd (upd u.1 15 0) 4 f1) 5 f2) 6 (f1 - f2)), u.2)) := hD
                      refine lv_aload_n hx hb dX5_close_199 rfl (lv_at hl 5 rfl) ?_
                      refine lv_iconst (v := 1) hx hb dX5_close_200 (by decide) ?_
                      refine va_put (D := D) (ci := 5) (v := .int 1) (ty := .boolean) (C := RX5) (T := TX5) (N := 31) hx hb hts hiX5 tyX5 tyX5_ok nmX5 hown hK hP hD hS 0 rfl rfl 13 (by decide) hw3 (fun _ h9 => h9) rfl (by decide +kernel) rfl rfl (Nat.le_of_ble_eq_true rfl) dX5_close_201 (fun H locs hP hD hS => ?_)
                      have hP : va_P D vwCl (pg_wM cI cZ a ((upd (upd (upd (upd (upd u.1 15 0) 4 f1) 5 f2) 6 (f1 - f2)) 14 1), u.2)) H := hP
                      have hD : va_D A (pg_wM cI cZ a ((upd (upd (upd (upd (upd u.1 15 0) 4 f1) 5 f2) 6 (f1 - f2)) 14 1), u.2)) := hD
                      refine lv_aload_n hx hb dX5_close_204 rfl (lv_at hl 5 rfl) ?_
                      refine va_get (D := D) (ci := 5) (v := .int f1) (C := RX5) (T := TX5) (N := 31) hx hb hts hiX5 hown hK hP 0 rfl rfl 15 (by decide) hw7 (fun _ h9 => h9) rfl dX5_close_205 ?_
                      exact W.iret (v := f1) hx hb hr (fun t9 ht9 hW9 => ⟨⟨f1, ((upd (upd (upd (upd (upd u.1 15 0) 4 f1) 5 f2) 6 (f1 - f2)) 14 1), u.2), rfl, ⟨e1, by rw [e1, e2]⟩, by rw [ht9]; exact hP, va_K.moved hW9.alike hK, hD⟩, hS.F ht9⟩) hS.2.2 dX5_close_208
                  · have hlt : i < 4 := pg_stay (rfl) (by omega) c_143
                    refine lv_iload hx hb dX5_close_146 (lv_at hl 1 rfl) ?_
                    refine lv_aload_n hx hb dX5_close_148 rfl (lv_at hl 5 rfl) ?_
                    refine va_get (D := D) (ci := 5) (v := .ref (a 1)) (C := RX5) (T := TX5) (N := 31) hx hb hts hiX5 hown hK hP 0 rfl rfl 3 (by decide) hw8 (fun _ h9 => h9) rfl dX5_close_149 ?_
                    refine lv_iload hx hb dX5_close_152 (lv_at hl 0 rfl) ?_
                    refine pg_ild (f := u.2 0) hx hb hK hP 1 0 rfl rfl (show i < _ by omega) (by decide) dX5_close_154 ?_
                    refine lv_iadd hx hb dX5_close_155 ?_
                    refine lv_istore (lv' := [(7, .int ((pg_sm (u.2 0) i) + (u.2 0 i))), (8, .int (nI i)), (6, .int ((((u.1 0) + x) - y1) + f0)), (5, .int f0), (4, .int (z - (u.1 1))), (0, .ref (a 0)), (1, .int x), (2, .int y1), (3, .int z)]) hx hb dX5_close_156 hl (by decide) rfl (fun ls hl => ?_)
                    refine lv_iinc (v := nI (i + 1)) (lv' := [(8, .int (nI (i + 1))), (7, .int ((pg_sm (u.2 0) i) + (u.2 0 i))), (6, .int ((((u.1 0) + x) - y1) + f0)), (5, .int f0), (4, .int (z - (u.1 1))), (0, .ref (a 0)), (1, .int x), (2, .int y1), (3, .int z)]) hx hb dX5_close_158 hl (k := 1) rfl (by rw [nI_succ]; rfl) (by decide) rfl (fun ls hl => ?_)
                    refine lv_goto (tgt := 140) hx hb dX5_close_161 (by decide) ?_
                    exact ih (i + 1) ((pg_sm (u.2 0) i) + (u.2 0 i)) (by omega) (by omega) rfl _ _ hP hD hS ls (lv_sub hl [0, 1, 2, 3, 4, 5, 6, 7, 8] rfl)
              exact L140 (4 + 1) 0 0 (by omega) (by omega) rfl _ _ hP hD hS ls hl
            · refine lv_iconst (v := 0) hx hb dX5_close_125 (by decide) ?_
              refine lv_goto (tgt := 131) hx hb dX5_close_126 (by decide) ?_
              refine lv_topi (fun f1 ef1 => ?_)
              have e1 : f1 = pg_fin u x y1 z := by rw [ef1, pg_fin, ← pg_max_m, if_neg (by rw [← e0]; exact c_122)]
              refine va_put (D := D) (ci := 5) (v := .int f1) (ty := .int) (C := RX5) (T := TX5) (N := 31) hx hb hts hiX5 tyX5 tyX5_ok nmX5 hown hK hP hD hS 0 rfl rfl 15 (by decide) hw7 (fun _ h9 => h9) rfl (by decide +kernel) rfl rfl (Nat.le_of_ble_eq_true rfl) dX5_close_131 (fun H locs hP hD hS => ?_)
              have hP : va_P D vwCl (pg_wM cI cZ a ((upd (upd u.1 15 0) 4 f1), u.2)) H := hP
              have hD : va_D A (pg_wM cI cZ a ((upd (upd u.1 15 0) 4 f1), u.2)) := hD
              refine lv_iconst (v := 0) hx hb dX5_close_134 (by decide) ?_
              refine lv_istore (lv' := [(7, .int 0), (6, .int ((((u.1 0) + x) - y1) + f0)), (5, .int f0), (4, .int (z - (u.1 1))), (0, .ref (a 0)), (1, .int x), (2, .int y1), (3, .int z)]) hx hb dX5_close_135 hl (by decide) rfl (fun ls hl => ?_)
              refine lv_iconst (v := 0) hx hb dX5_close_137 (by decide) ?_
              refine lv_istore (lv' := [(8, .int 0), (7, .int 0), (6, .int ((((u.1 0) + x) - y1) + f0)), (5, .int f0), (4, .int (z - (u.1 1))), (0, .ref (a 0)), (1, .int x), (2, .int y1), (3, .int z)]) hx hb dX5_close_138 hl (by decide) rfl (fun ls hl => ?_)
              have L140 : ∀ (k9 i : Nat) (s9 : Int32), i ≤ 4 → 4 < i + k9 → s9 = pg_sm (u.2 0) i → ∀ (H : Heap) (locs : List Loc), va_P D vwCl (pg_wM cI cZ a ((upd (upd u.1 15 0) 4 f1), u.2)) H → va_D A (pg_wM cI cZ a ((upd (upd u.1 15 0) 4 f1), u.2)) → va_S A s.heap H locs → ∀ ls : Array Slot, lv_has ls 9 [(8, .int (nI i)), (7, .int s9), (6, .int ((((u.1 0) + x) - y1) + f0)), (5, .int f0), (4, .int (z - (u.1 1))), (0, .ref (a 0)), (1, .int x), (2, .int y1), (3, .int z)] → W p l e (headSpec wsX5_close ({ frames := 1, cells := 0, slots := 0, locals := 22 })).room s m ([.ref (a 0), .int x, .int y1, .int z] : List Value).toArray below meth c H locs 0 0 (MQ below (va_Qi (fun r u' => r = pg_fin u x y1 z ∧ u' = (upd (upd (upd (upd (upd u.1 15 0) 4 (pg_fin u x y1 z)) 5 (pg_hold u x y1 z)) 6 (pg_fin u x y1 z - pg_hold u x y1 z)) 14 1, u.2)) (pg_E D (pg_ty cI cZ) A (pg_wM cI cZ a)) A) ([.ref (a 0), .int x, .int y1, .int z] : List Value).toArray s 0 0 A) (F0 m 140 ls []) := by
                intro k9
                induction k9 with
                | zero => intro i s9 h1 h2; exact absurd h2 (by omega)
                | succ k9 ih =>
                  intro i s9 hi9 hk9 hs99 H locs hP hD hS ls hl
                  subst hs99
                  refine lv_iload hx hb dX5_close_140 (lv_at hl 0 rfl) ?_
                  refine lv_iconst (v := 4) hx hb dX5_close_142 (by decide) ?_
                  refine lv_icmp_ge (tgt := 164) hx hb dX5_close_143 (by decide) (fun c_143 => ?_) (fun c_143 => ?_)
                  · have hiN : i = 4 := pg_exit (rfl) (by decide) hi9 c_143
                    subst hiN
                    refine lv_aload_n hx hb dX5_close_164 rfl (lv_at hl 5 rfl) ?_
                    refine lv_iload hx hb dX5_close_165 (lv_at hl 1 rfl) ?_
                    refine lv_aload_n hx hb dX5_close_167 rfl (lv_at hl 5 rfl) ?_
                    refine va_get (D := D) (ci := 5) (v := .int f1) (C := RX5) (T := TX5) (N := 31) hx hb hts hiX5 hown hK hP 0 rfl rfl 15 (by decide) hw7 (fun _ h9 => h9) rfl dX5_close_168 ?_
                    refine lv_icmp_ge (tgt := 179) hx hb dX5_close_171 (by decide) (fun c_171 => ?_) (fun c_171 => ?_)
                    · refine lv_aload_n hx hb dX5_close_179 rfl (lv_at hl 5 rfl) ?_
                      refine va_get (D := D) (ci := 5) (v := .int f1) (C := RX5) (T := TX5) (N := 31) hx hb hts hiX5 hown hK hP 0 rfl rfl 15 (by decide) hw7 (fun _ h9 => h9) rfl dX5_close_180 ?_
                      refine lv_topi (fun f2 ef2 => ?_)
                      have e2 : f2 = pg_hold u x y1 z := by rw [ef2, pg_hold, ← pg_min_m, ← e1, if_pos c_171]
                      refine va_put (D := D) (ci := 5) (v := .int f2) (ty := .int) (C := RX5) (T := TX5) (N := 31) hx hb hts hiX5 tyX5 tyX5_ok nmX5 hown hK hP hD hS 0 rfl rfl 16 (by decide) hw9 (fun _ h9 => h9) rfl (by decide +kernel) rfl rfl (Nat.le_of_ble_eq_true rfl) dX5_close_183 (fun H locs hP hD hS => ?_)
                      have hP : va_P D vwCl (pg_wM cI cZ a ((upd (upd (upd u.1 15 0) 4 f1) 5 f2), u.2)) H := hP
                      have hD : va_D A (pg_wM cI cZ a ((upd (upd (upd u.1 15 0) 4 f1) 5 f2), u.2)) := hD
                      refine lv_aload_n hx hb dX5_close_186 rfl (lv_at hl 5 rfl) ?_
                      refine lv_aload_n hx hb dX5_close_187 rfl (lv_at hl 5 rfl) ?_
                      refine va_get (D := D) (ci := 5) (v := .int f1) (C := RX5) (T := TX5) (N := 31) hx hb hts hiX5 hown hK hP 0 rfl rfl 15 (by decide) hw7 (fun _ h9 => h9) rfl dX5_close_188 ?_
                      refine lv_aload_n hx hb dX5_close_191 rfl (lv_at hl 5 rfl) ?_
                      refine va_get (D := D) (ci := 5) (v := .int f2) (C := RX5) (T := TX5) (N := 31) hx hb hts hiX5 hown hK hP 0 rfl rfl 16 (by decide) hw9 (fun _ h9 => h9) rfl dX5_close_192 ?_
                      refine lv_isub hx hb dX5_close_195 ?_
                      refine va_put (D := D) (ci := 5) (v := .int (f1 - f2)) (ty := .int) (C := RX5) (T := TX5) (N := 31) hx hb hts hiX5 tyX5 tyX5_ok nmX5 hown hK hP hD hS 0 rfl rfl 17 (by decide) hw10 (fun _ h9 => h9) rfl (by decide +kernel) rfl rfl (Nat.le_of_ble_eq_true rfl) dX5_close_196 (fun H locs hP hD hS => ?_)
                      have hP : va_P D vwCl (pg_wM cI cZ a ((upd (upd (upd (upd u.1 15 0) 4 f1) 5 f2) 6 (f1 - f2)), u.2)) H := hP
                      have hD : va_D A (pg_wM cI cZ a ((upd (upd (upd (upd u.1 15 0) 4 f1) 5 f2) 6 (f1 - f2)), u.2)) := hD
                      refine lv_aload_n hx hb dX5_close_199 rfl (lv_at hl 5 rfl) ?_
                      refine lv_iconst (v := 1) hx hb dX5_close_200 (by decide) ?_
                      refine va_put (D := D) (ci := 5) (v := .int 1) (ty := .boolean) (C := RX5) (T := TX5) (N := 31) hx hb hts hiX5 tyX5 tyX5_ok nmX5 hown hK hP hD hS 0 rfl rfl 13 (by decide) hw3 (fun _ h9 => h9) rfl (by decide +kernel) rfl rfl (Nat.le_of_ble_eq_true rfl) dX5_close_201 (fun H locs hP hD hS => ?_)
                      have hP : va_P D vwCl (pg_wM cI cZ a ((upd (upd (upd (upd (upd u.1 15 0) 4 f1) 5 f2) 6 (f1 - f2)) 14 1), u.2)) H := hP
                      have hD : va_D A (pg_wM cI cZ a ((upd (upd (upd (upd (upd u.1 15 0) 4 f1) 5 f2) 6 (f1 - f2)) 14 1), u.2)) := hD
                      refine lv_aload_n hx hb dX5_close_204 rfl (lv_at hl 5 rfl) ?_
                      refine va_get (D := D) (ci := 5) (v := .int f1) (C := RX5) (T := TX5) (N := 31) hx hb hts hiX5 hown hK hP 0 rfl rfl 15 (by decide) hw7 (fun _ h9 => h9) rfl dX5_close_205 ?_
                      exact W.iret (v := f1) hx hb hr (fun t9 ht9 hW9 => ⟨⟨f1, ((upd (upd (upd (upd (upd u.1 15 0) 4 f1) 5 f2) 6 (f1 - f2)) 14 1), u.2), rfl, ⟨e1, by rw [e1, e2]⟩, by rw [ht9]; exact hP, va_K.moved hW9.alike hK, hD⟩, hS.F ht9⟩) hS.2.2 dX5_close_208
                    · refine lv_iload hx hb dX5_close_174 (lv_at hl 1 rfl) ?_
                      refine lv_goto (tgt := 183) hx hb dX5_close_176 (by decide) ?_
                      refine lv_topi (fun f2 ef2 => ?_)
                      have e2 : f2 = pg_hold u x y1 z := by rw [ef2, pg_hold, ← pg_min_m, ← e1, if_neg c_171]
                      refine va_put (D := D) (ci := 5) (v := .int f2) (ty := .int) (C := RX5) (T := TX5) (N := 31) hx hb hts hiX5 tyX5 tyX5_ok nmX5 hown hK hP hD hS 0 rfl rfl 16 (by decide) hw9 (fun _ h9 => h9) rfl (by decide +kernel) rfl rfl (Nat.le_of_ble_eq_true rfl) dX5_close_183 (fun H locs hP hD hS => ?_)
                      have hP : va_P D vwCl (pg_wM cI cZ a ((upd (upd (upd u.1 15 0) 4 f1) 5 f2), u.2)) H := hP
                      have hD : va_D A (pg_wM cI cZ a ((upd (upd (upd u.1 15 0) 4 f1) 5 f2), u.2)) := hD
                      refine lv_aload_n hx hb dX5_close_186 rfl (lv_at hl 5 rfl) ?_
                      refine lv_aload_n hx hb dX5_close_187 rfl (lv_at hl 5 rfl) ?_
                      refine va_get (D := D) (ci := 5) (v := .int f1) (C := RX5) (T := TX5) (N := 31) hx hb hts hiX5 hown hK hP 0 rfl rfl 15 (by decide) hw7 (fun _ h9 => h9) rfl dX5_close_188 ?_
                      refine lv_aload_n hx hb dX5_close_191 rfl (lv_at hl 5 rfl) ?_
                      refine va_get (D := D) (ci := 5) (v := .int f2) (C := RX5) (T := TX5) (N := 31) hx hb hts hiX5 hown hK hP 0 rfl rfl 16 (by decide) hw9 (fun _ h9 => h9) rfl dX5_close_192 ?_
                      refine lv_isub hx hb dX5_close_195 ?_
                      refine va_put (D := D) (ci := 5) (v := .int (f1 - f2)) (ty := .int) (C := RX5) (T := TX5) (N := 31) hx hb hts hiX5 tyX5 tyX5_ok nmX5 hown hK hP hD hS 0 rfl rfl 17 (by decide) hw10 (fun _ h9 => h9) rfl (by decide +kernel) rfl rfl (Nat.le_of_ble_eq_true rfl) dX5_close_196 (fun H locs hP hD hS => ?_)
                      have hP : va_P D vwCl (pg_wM cI cZ a ((upd (upd (upd (upd u.1 15 0) 4 f1) 5 f2) 6 (f1 - f2)), u.2)) H := hP
                      have hD : va_D A (pg_wM cI cZ a ((upd (upd (upd (upd u.1 15 0) 4 f1) 5 f2) 6 (f1 - f2)), u.2)) := hD
                      refine lv_aload_n hx hb dX5_close_199 rfl (lv_at hl 5 rfl) ?_
                      refine lv_iconst (v := 1) hx hb dX5_close_200 (by decide) ?_
                      refine va_put (D := D) (ci := 5) (v := .int 1) (ty := .boolean) (C := RX5) (T := TX5) (N := 31) hx hb hts hiX5 tyX5 tyX5_ok nmX5 hown hK hP hD hS 0 rfl rfl 13 (by decide) hw3 (fun _ h9 => h9) rfl (by decide +kernel) rfl rfl (Nat.le_of_ble_eq_true rfl) dX5_close_201 (fun H locs hP hD hS => ?_)
                      have hP : va_P D vwCl (pg_wM cI cZ a ((upd (upd (upd (upd (upd u.1 15 0) 4 f1) 5 f2) 6 (f1 - f2)) 14 1), u.2)) H := hP
                      have hD : va_D A (pg_wM cI cZ a ((upd (upd (upd (upd (upd u.1 15 0) 4 f1) 5 f2) 6 (f1 - f2)) 14 1), u.2)) := hD
                      refine lv_aload_n hx hb dX5_close_204 rfl (lv_at hl 5 rfl) ?_
                      refine va_get (D := D) (ci := 5) (v := .int f1) (C := RX5) (T := TX5) (N := 31) hx hb hts hiX5 hown hK hP 0 rfl rfl 15 (by decide) hw7 (fun _ h9 => h9) rfl dX5_close_205 ?_
                      exact W.iret (v := f1) hx hb hr (fun t9 ht9 hW9 => ⟨⟨f1, ((upd (upd (upd (upd (upd u.1 15 0) 4 f1) 5 f2) 6 (f1 - f2)) 14 1), u.2), rfl, ⟨e1, by rw [e1, e2]⟩, by rw [ht9]; exact hP, va_K.moved hW9.alike hK, hD⟩, hS.F ht9⟩) hS.2.2 dX5_close_208
                  · have hlt : i < 4 := pg_stay (rfl) (by omega) c_143
                    refine lv_iload hx hb dX5_close_146 (lv_at hl 1 rfl) ?_
                    refine lv_aload_n hx hb dX5_close_148 rfl (lv_at hl 5 rfl) ?_
                    refine va_get (D := D) (ci := 5) (v := .ref (a 1)) (C := RX5) (T := TX5) (N := 31) hx hb hts hiX5 hown hK hP 0 rfl rfl 3 (by decide) hw8 (fun _ h9 => h9) rfl dX5_close_149 ?_
                    refine lv_iload hx hb dX5_close_152 (lv_at hl 0 rfl) ?_
                    refine pg_ild (f := u.2 0) hx hb hK hP 1 0 rfl rfl (show i < _ by omega) (by decide) dX5_close_154 ?_
                    refine lv_iadd hx hb dX5_close_155 ?_
                    refine lv_istore (lv' := [(7, .int ((pg_sm (u.2 0) i) + (u.2 0 i))), (8, .int (nI i)), (6, .int ((((u.1 0) + x) - y1) + f0)), (5, .int f0), (4, .int (z - (u.1 1))), (0, .ref (a 0)), (1, .int x), (2, .int y1), (3, .int z)]) hx hb dX5_close_156 hl (by decide) rfl (fun ls hl => ?_)
                    refine lv_iinc (v := nI (i + 1)) (lv' := [(8, .int (nI (i + 1))), (7, .int ((pg_sm (u.2 0) i) + (u.2 0 i))), (6, .int ((((u.1 0) + x) - y1) + f0)), (5, .int f0), (4, .int (z - (u.1 1))), (0, .ref (a 0)), (1, .int x), (2, .int y1), (3, .int z)]) hx hb dX5_close_158 hl (k := 1) rfl (by rw [nI_succ]; rfl) (by decide) rfl (fun ls hl => ?_)
                    refine lv_goto (tgt := 140) hx hb dX5_close_161 (by decide) ?_
                    exact ih (i + 1) ((pg_sm (u.2 0) i) + (u.2 0 i)) (by omega) (by omega) rfl _ _ hP hD hS ls (lv_sub hl [0, 1, 2, 3, 4, 5, 6, 7, 8] rfl)
              exact L140 (4 + 1) 0 0 (by omega) (by omega) rfl _ _ hP hD hS ls hl
        · have d_40 := pg_eq_f c_40
          refine lv_iconst (v := 2) hx hb dX5_close_43 (by decide) ?_
          refine lv_goto (tgt := 48) hx hb dX5_close_44 (by decide) ?_
          exact absurd hthr (by first | (simp only [pg_t_close, c_5, c_15, c_26, d_40, cond_true, cond_false, Bool.not_true, Bool.not_false]; done) | (simp only [pg_t_close, c_5, c_15, c_26, d_40, cond_true, cond_false, Bool.not_true, Bool.not_false]; decide))
      · refine pg_iE (pg_rS (As := [.int z, .int (-10000000), .int 10000000]) (rest := [.ref (a 0)]) ⟨hx, hb, hml, hown, hts⟩ (cm_in_f l D (pg_ty cI cZ) (pg_wM cI cZ a u) H.size z (-10000000) 10000000 c_26) (va_cwS 3 hts gX5_close_X5_in rfl rfl rfl (by decide +kernel) ⟨Nat.le_of_ble_eq_true rfl, Nat.le_of_ble_eq_true rfl⟩) hK hP hD rfl hl.1 rfl (Nat.le_of_ble_eq_true rfl) dX5_close_26 ⟨Nat.le_of_ble_eq_true rfl, Nat.le_of_ble_eq_true rfl⟩) hD hS hA (fun H locs hP hD hS => ?_)
        refine lv_if_ne (tgt := 36) hx hb dX5_close_29 (by decide) (fun c_29 => absurd (by decide) c_29) (fun c_29 => ?_)
        refine lv_iconst (v := 1) hx hb dX5_close_32 (by decide) ?_
        refine lv_goto (tgt := 48) hx hb dX5_close_33 (by decide) ?_
        exact absurd hthr (by first | (simp only [pg_t_close, c_5, c_15, c_26, cond_true, cond_false, Bool.not_true, Bool.not_false]; done) | (simp only [pg_t_close, c_5, c_15, c_26, cond_true, cond_false, Bool.not_true, Bool.not_false]; decide))
    · refine pg_iE (pg_rS (As := [.int y1, .int 0, .int 10000000]) (rest := [.ref (a 0)]) ⟨hx, hb, hml, hown, hts⟩ (cm_in_f l D (pg_ty cI cZ) (pg_wM cI cZ a u) H.size y1 0 10000000 c_15) (va_cwS 3 hts gX5_close_X5_in rfl rfl rfl (by decide +kernel) ⟨Nat.le_of_ble_eq_true rfl, Nat.le_of_ble_eq_true rfl⟩) hK hP hD rfl hl.1 rfl (Nat.le_of_ble_eq_true rfl) dX5_close_15 ⟨Nat.le_of_ble_eq_true rfl, Nat.le_of_ble_eq_true rfl⟩) hD hS hA (fun H locs hP hD hS => ?_)
      refine lv_if_eq (tgt := 32) hx hb dX5_close_18 (by decide) (fun c_18 => ?_) (fun c_18 => absurd (by decide) c_18)
      refine lv_iconst (v := 1) hx hb dX5_close_32 (by decide) ?_
      refine lv_goto (tgt := 48) hx hb dX5_close_33 (by decide) ?_
      exact absurd hthr (by first | (simp only [pg_t_close, c_5, c_15, cond_true, cond_false, Bool.not_true, Bool.not_false]; done) | (simp only [pg_t_close, c_5, c_15, cond_true, cond_false, Bool.not_true, Bool.not_false]; decide))
  · refine pg_iE (pg_rS (As := [.int x, .int 0, .int 10000000]) (rest := [.ref (a 0)]) ⟨hx, hb, hml, hown, hts⟩ (cm_in_f l D (pg_ty cI cZ) (pg_wM cI cZ a u) s.heap.size x 0 10000000 c_5) (va_cwS 3 hts gX5_close_X5_in rfl rfl rfl (by decide +kernel) ⟨Nat.le_of_ble_eq_true rfl, Nat.le_of_ble_eq_true rfl⟩) hK hP hD rfl hl.1 rfl (Nat.le_of_ble_eq_true rfl) dX5_close_5 ⟨Nat.le_of_ble_eq_true rfl, Nat.le_of_ble_eq_true rfl⟩) hD hS hA (fun H locs hP hD hS => ?_)
    refine lv_if_eq (tgt := 32) hx hb dX5_close_8 (by decide) (fun c_8 => ?_) (fun c_8 => absurd (by decide) c_8)
    refine lv_iconst (v := 1) hx hb dX5_close_32 (by decide) ?_
    refine lv_goto (tgt := 48) hx hb dX5_close_33 (by decide) ?_
    exact absurd hthr (by first | (simp only [pg_t_close, c_5, cond_true, cond_false, Bool.not_true, Bool.not_false]; done) | (simp only [pg_t_close, c_5, cond_true, cond_false, Bool.not_true, Bool.not_false]; decide))
set_option maxHeartbeats 4000000 in
set_option maxRecDepth 100000 in
/-- cm_close: not fine -/
theorem cm_close_no (l : Launch) (D : va_G) (cI cZ : ClassId) (a : Nat → Nat) (sz : Nat) (u : pg_St) (x y1 z : Int32) (e9 : Int32) (hthr : pg_t_close (!pg_eq (u.1 14) 0) x y1 z = e9) (h0 : e9 ≠ 0) : Met l yX5_close wsX5_close ({ frames := 1, cells := 0, slots := 0, locals := 22 }) (va_Pc [.ref (a 0), .int x, .int y1, .int z] (pg_B D (pg_ty cI cZ) (pg_wM cI cZ a u) sz)) (va_Qi (fun r u' => r = 0 ∧ u' = (upd u.1 15 e9, u.2)) (pg_E D (pg_ty cI cZ) (va_A (pg_wM cI cZ a u) sz) (pg_wM cI cZ a)) (va_A (pg_wM cI cZ a u) sz)) 0 0 (va_A (pg_wM cI cZ a u) sz) := by
  refine Met.ofW (cc := cX5_close) (maxL := 9) (ret := (some .int)) (by decide) rfl ?_
  intro p e s m args below meth c s₁ B hml hv
  obtain ⟨rfl, hsz, hP, hK, hD0⟩ := hv
  have hx := B.exec
  have hb := B.bytes
  have hr := B.returns
  have hts := atoms_spec (ws := wsX5_close) B.pre
  have hown : s.vm.findClass RX5 = some m.cls := findClass_of_methodNamed B.named
  have hlocks := B.notSynchronized
  subst hsz
  have hD := hD0.self (sz := s.heap.size)
  generalize hAe : va_A (pg_wM cI cZ a u) s.heap.size = A at hD ⊢
  have hA : ∀ q : Nat, s.heap.size ≤ q → A q := fun q h => by rw [← hAe]; exact Or.inr h
  have hS : va_S A s.heap s.heap [] := va_S.rf
  have hl := lv_entry ([.ref (a 0), .int x, .int y1, .int z]) (n := 9) (Nat.le_of_ble_eq_true rfl)
  rw [lg_entry_eq]
  generalize (lg_sl ([.ref (a 0), .int x, .int y1, .int z]) ++ List.replicate (9 - (lg_sl ([.ref (a 0), .int x, .int y1, .int z])).length) Slot.unset).toArray = ls at hl ⊢
  have hl : lv_has ls 9 [(0, .ref (a 0)), (1, .int x), (2, .int y1), (3, .int z)] := hl
  have hiX5 : ∀ w ∈ wsX50, w ∈ wsX5_close := fun _ h => List.mem_cons_of_mem _ (List.mem_append_right _ (h))
  have hw1 := hts (.constant RX5 60 (10000000)) (List.mem_of_getElem? (i := 1) rfl)
  have hw2 := hts (.constant RX5 65 (-10000000)) (List.mem_of_getElem? (i := 2) rfl)
  have hw3 := hts (.fieldLink RX5 66 "PegBoxModel" "closed" "Z") (List.mem_of_getElem? (i := 3) rfl)
  refine lv_aload_n hx hb dX5_close_0 rfl (lv_at hl 0 rfl) ?_
  refine lv_iload_n hx hb dX5_close_1 rfl (lv_at hl 1 rfl) ?_
  refine lv_iconst (v := 0) hx hb dX5_close_2 (by decide) ?_
  refine lv_ldc hx hb hown hw1 dX5_close_3 ?_
  rcases Bool.eq_false_or_eq_true (pg_in x 0 10000000) with c_5 | c_5
  · refine pg_iE (pg_rS (As := [.int x, .int 0, .int 10000000]) (rest := [.ref (a 0)]) ⟨hx, hb, hml, hown, hts⟩ (cm_in_t l D (pg_ty cI cZ) (pg_wM cI cZ a u) s.heap.size x 0 10000000 c_5) (va_cwS 3 hts gX5_close_X5_in rfl rfl rfl (by decide +kernel) ⟨Nat.le_of_ble_eq_true rfl, Nat.le_of_ble_eq_true rfl⟩) hK hP hD rfl hl.1 rfl (Nat.le_of_ble_eq_true rfl) dX5_close_5 ⟨Nat.le_of_ble_eq_true rfl, Nat.le_of_ble_eq_true rfl⟩) hD hS hA (fun H locs hP hD hS => ?_)
    refine lv_if_eq (tgt := 32) hx hb dX5_close_8 (by decide) (fun c_8 => absurd c_8 (by decide)) (fun c_8 => ?_)
    refine lv_iload_n hx hb dX5_close_11 rfl (lv_at hl 2 rfl) ?_
    refine lv_iconst (v := 0) hx hb dX5_close_12 (by decide) ?_
    refine lv_ldc hx hb hown hw1 dX5_close_13 ?_
    rcases Bool.eq_false_or_eq_true (pg_in y1 0 10000000) with c_15 | c_15
    · refine pg_iE (pg_rS (As := [.int y1, .int 0, .int 10000000]) (rest := [.ref (a 0)]) ⟨hx, hb, hml, hown, hts⟩ (cm_in_t l D (pg_ty cI cZ) (pg_wM cI cZ a u) H.size y1 0 10000000 c_15) (va_cwS 3 hts gX5_close_X5_in rfl rfl rfl (by decide +kernel) ⟨Nat.le_of_ble_eq_true rfl, Nat.le_of_ble_eq_true rfl⟩) hK hP hD rfl hl.1 rfl (Nat.le_of_ble_eq_true rfl) dX5_close_15 ⟨Nat.le_of_ble_eq_true rfl, Nat.le_of_ble_eq_true rfl⟩) hD hS hA (fun H locs hP hD hS => ?_)
      refine lv_if_eq (tgt := 32) hx hb dX5_close_18 (by decide) (fun c_18 => absurd c_18 (by decide)) (fun c_18 => ?_)
      refine lv_iload_n hx hb dX5_close_21 rfl (lv_at hl 3 rfl) ?_
      refine lv_ldc hx hb hown hw2 dX5_close_22 ?_
      refine lv_ldc hx hb hown hw1 dX5_close_24 ?_
      rcases Bool.eq_false_or_eq_true (pg_in z (-10000000) 10000000) with c_26 | c_26
      · refine pg_iE (pg_rS (As := [.int z, .int (-10000000), .int 10000000]) (rest := [.ref (a 0)]) ⟨hx, hb, hml, hown, hts⟩ (cm_in_t l D (pg_ty cI cZ) (pg_wM cI cZ a u) H.size z (-10000000) 10000000 c_26) (va_cwS 3 hts gX5_close_X5_in rfl rfl rfl (by decide +kernel) ⟨Nat.le_of_ble_eq_true rfl, Nat.le_of_ble_eq_true rfl⟩) hK hP hD rfl hl.1 rfl (Nat.le_of_ble_eq_true rfl) dX5_close_26 ⟨Nat.le_of_ble_eq_true rfl, Nat.le_of_ble_eq_true rfl⟩) hD hS hA (fun H locs hP hD hS => ?_)
        refine lv_if_ne (tgt := 36) hx hb dX5_close_29 (by decide) (fun c_29 => ?_) (fun c_29 => absurd c_29 (by decide))
        refine lv_aload_n hx hb dX5_close_36 rfl (lv_at hl 0 rfl) ?_
        refine va_get (D := D) (ci := 5) (v := .int (u.1 14)) (C := RX5) (T := TX5) (N := 31) hx hb hts hiX5 hown hK hP 0 rfl rfl 13 (by decide) hw3 (fun _ h9 => h9) rfl dX5_close_37 ?_
        refine lv_if_eq (tgt := 47) hx hb dX5_close_40 (by decide) (fun c_40 => ?_) (fun c_40 => ?_)
        · have d_40 := pg_eq_t c_40
          refine lv_iconst (v := 0) hx hb dX5_close_47 (by decide) ?_
          exact absurd (hthr.symm.trans (by simp only [pg_t_close, c_5, c_15, c_26, d_40, cond_true, cond_false, Bool.not_true, Bool.not_false])) h0
        · have d_40 := pg_eq_f c_40
          refine lv_iconst (v := 2) hx hb dX5_close_43 (by decide) ?_
          refine lv_goto (tgt := 48) hx hb dX5_close_44 (by decide) ?_
          have he : e9 = 2 := hthr.symm.trans (by simp only [pg_t_close, c_5, c_15, c_26, d_40, cond_true, cond_false, Bool.not_true, Bool.not_false])
          refine pg_iE (pg_rV (As := [.int 2]) (rest := []) ⟨hx, hb, hml, hown, hts⟩ (cm_fine1 l D cI cZ a H.size u 2 (by decide)) (cwV 1 hts gX5_close_X5_isFine rfl rfl rfl (by decide +kernel) ⟨Nat.le_of_ble_eq_true rfl, Nat.le_of_ble_eq_true rfl⟩) hK hP hD 0 (ci := 5) rfl rfl rfl rfl hl.1 rfl (Nat.le_of_ble_eq_true rfl) dX5_close_48 ⟨Nat.le_of_ble_eq_true rfl, Nat.le_of_ble_eq_true rfl⟩) hD hS hA (fun H locs hP hD hS => ?_)
          refine lv_if_ne (tgt := 56) hx hb dX5_close_51 (by decide) (fun c_51 => absurd (by decide) c_51) (fun c_51 => ?_)
          refine lv_iconst (v := 0) hx hb dX5_close_54 (by decide) ?_
          exact W.iret (v := 0) hx hb hr (fun t9 ht9 hW9 => ⟨⟨0, ((upd u.1 15 2), u.2), rfl, ⟨rfl, by rw [he]⟩, by rw [ht9]; exact hP, va_K.moved hW9.alike hK, hD⟩, hS.F ht9⟩) hS.2.2 dX5_close_55
      · refine pg_iE (pg_rS (As := [.int z, .int (-10000000), .int 10000000]) (rest := [.ref (a 0)]) ⟨hx, hb, hml, hown, hts⟩ (cm_in_f l D (pg_ty cI cZ) (pg_wM cI cZ a u) H.size z (-10000000) 10000000 c_26) (va_cwS 3 hts gX5_close_X5_in rfl rfl rfl (by decide +kernel) ⟨Nat.le_of_ble_eq_true rfl, Nat.le_of_ble_eq_true rfl⟩) hK hP hD rfl hl.1 rfl (Nat.le_of_ble_eq_true rfl) dX5_close_26 ⟨Nat.le_of_ble_eq_true rfl, Nat.le_of_ble_eq_true rfl⟩) hD hS hA (fun H locs hP hD hS => ?_)
        refine lv_if_ne (tgt := 36) hx hb dX5_close_29 (by decide) (fun c_29 => absurd (by decide) c_29) (fun c_29 => ?_)
        refine lv_iconst (v := 1) hx hb dX5_close_32 (by decide) ?_
        refine lv_goto (tgt := 48) hx hb dX5_close_33 (by decide) ?_
        have he : e9 = 1 := hthr.symm.trans (by simp only [pg_t_close, c_5, c_15, c_26, cond_true, cond_false, Bool.not_true, Bool.not_false])
        refine pg_iE (pg_rV (As := [.int 1]) (rest := []) ⟨hx, hb, hml, hown, hts⟩ (cm_fine1 l D cI cZ a H.size u 1 (by decide)) (cwV 1 hts gX5_close_X5_isFine rfl rfl rfl (by decide +kernel) ⟨Nat.le_of_ble_eq_true rfl, Nat.le_of_ble_eq_true rfl⟩) hK hP hD 0 (ci := 5) rfl rfl rfl rfl hl.1 rfl (Nat.le_of_ble_eq_true rfl) dX5_close_48 ⟨Nat.le_of_ble_eq_true rfl, Nat.le_of_ble_eq_true rfl⟩) hD hS hA (fun H locs hP hD hS => ?_)
        refine lv_if_ne (tgt := 56) hx hb dX5_close_51 (by decide) (fun c_51 => absurd (by decide) c_51) (fun c_51 => ?_)
        refine lv_iconst (v := 0) hx hb dX5_close_54 (by decide) ?_
        exact W.iret (v := 0) hx hb hr (fun t9 ht9 hW9 => ⟨⟨0, ((upd u.1 15 1), u.2), rfl, ⟨rfl, by rw [he]⟩, by rw [ht9]; exact hP, va_K.moved hW9.alike hK, hD⟩, hS.F ht9⟩) hS.2.2 dX5_close_55
    · refine pg_iE (pg_rS (As := [.int y1, .int 0, .int 10000000]) (rest := [.ref (a 0)]) ⟨hx, hb, hml, hown, hts⟩ (cm_in_f l D (pg_ty cI cZ) (pg_wM cI cZ a u) H.size y1 0 10000000 c_15) (va_cwS 3 hts gX5_close_X5_in rfl rfl rfl (by decide +kernel) ⟨Nat.le_of_ble_eq_true rfl, Nat.le_of_ble_eq_true rfl⟩) hK hP hD rfl hl.1 rfl (Nat.le_of_ble_eq_true rfl) dX5_close_15 ⟨Nat.le_of_ble_eq_true rfl, Nat.le_of_ble_eq_true rfl⟩) hD hS hA (fun H locs hP hD hS => ?_)
      refine lv_if_eq (tgt := 32) hx hb dX5_close_18 (by decide) (fun c_18 => ?_) (fun c_18 => absurd (by decide) c_18)
      refine lv_iconst (v := 1) hx hb dX5_close_32 (by decide) ?_
      refine lv_goto (tgt := 48) hx hb dX5_close_33 (by decide) ?_
      have he : e9 = 1 := hthr.symm.trans (by simp only [pg_t_close, c_5, c_15, cond_true, cond_false, Bool.not_true, Bool.not_false])
      refine pg_iE (pg_rV (As := [.int 1]) (rest := []) ⟨hx, hb, hml, hown, hts⟩ (cm_fine1 l D cI cZ a H.size u 1 (by decide)) (cwV 1 hts gX5_close_X5_isFine rfl rfl rfl (by decide +kernel) ⟨Nat.le_of_ble_eq_true rfl, Nat.le_of_ble_eq_true rfl⟩) hK hP hD 0 (ci := 5) rfl rfl rfl rfl hl.1 rfl (Nat.le_of_ble_eq_true rfl) dX5_close_48 ⟨Nat.le_of_ble_eq_true rfl, Nat.le_of_ble_eq_true rfl⟩) hD hS hA (fun H locs hP hD hS => ?_)
      refine lv_if_ne (tgt := 56) hx hb dX5_close_51 (by decide) (fun c_51 => absurd (by decide) c_51) (fun c_51 => ?_)
      refine lv_iconst (v := 0) hx hb dX5_close_54 (by decide) ?_
      exact W.iret (v := 0) hx hb hr (fun t9 ht9 hW9 => ⟨⟨0, ((upd u.1 15 1), u.2), rfl, ⟨rfl, by rw [he]⟩, by rw [ht9]; exact hP, va_K.moved hW9.alike hK, hD⟩, hS.F ht9⟩) hS.2.2 dX5_close_55
  · refine pg_iE (pg_rS (As := [.int x, .int 0, .int 10000000]) (rest := [.ref (a 0)]) ⟨hx, hb, hml, hown, hts⟩ (cm_in_f l D (pg_ty cI cZ) (pg_wM cI cZ a u) s.heap.size x 0 10000000 c_5) (va_cwS 3 hts gX5_close_X5_in rfl rfl rfl (by decide +kernel) ⟨Nat.le_of_ble_eq_true rfl, Nat.le_of_ble_eq_true rfl⟩) hK hP hD rfl hl.1 rfl (Nat.le_of_ble_eq_true rfl) dX5_close_5 ⟨Nat.le_of_ble_eq_true rfl, Nat.le_of_ble_eq_true rfl⟩) hD hS hA (fun H locs hP hD hS => ?_)
    refine lv_if_eq (tgt := 32) hx hb dX5_close_8 (by decide) (fun c_8 => ?_) (fun c_8 => absurd (by decide) c_8)
    refine lv_iconst (v := 1) hx hb dX5_close_32 (by decide) ?_
    refine lv_goto (tgt := 48) hx hb dX5_close_33 (by decide) ?_
    have he : e9 = 1 := hthr.symm.trans (by simp only [pg_t_close, c_5, cond_true, cond_false, Bool.not_true, Bool.not_false])
    refine pg_iE (pg_rV (As := [.int 1]) (rest := []) ⟨hx, hb, hml, hown, hts⟩ (cm_fine1 l D cI cZ a H.size u 1 (by decide)) (cwV 1 hts gX5_close_X5_isFine rfl rfl rfl (by decide +kernel) ⟨Nat.le_of_ble_eq_true rfl, Nat.le_of_ble_eq_true rfl⟩) hK hP hD 0 (ci := 5) rfl rfl rfl rfl hl.1 rfl (Nat.le_of_ble_eq_true rfl) dX5_close_48 ⟨Nat.le_of_ble_eq_true rfl, Nat.le_of_ble_eq_true rfl⟩) hD hS hA (fun H locs hP hD hS => ?_)
    refine lv_if_ne (tgt := 56) hx hb dX5_close_51 (by decide) (fun c_51 => absurd (by decide) c_51) (fun c_51 => ?_)
    refine lv_iconst (v := 0) hx hb dX5_close_54 (by decide) ?_
    exact W.iret (v := 0) hx hb hr (fun t9 ht9 hW9 => ⟨⟨0, ((upd u.1 15 1), u.2), rfl, ⟨rfl, by rw [he]⟩, by rw [ht9]; exact hP, va_K.moved hW9.alike hK, hD⟩, hS.F ht9⟩) hS.2.2 dX5_close_55
set_option maxHeartbeats 4000000 in
set_option maxRecDepth 100000 in
/-- cm_advance: fine -/
theorem cm_advance_ok (l : Launch) (D : va_G) (cI cZ : ClassId) (a : Nat → Nat) (sz : Nat) (u : pg_St) (n : Nat) (hn : u.1 10 = nI n) (h20 : n ≤ 20) (x : Int32) (hmono : ∀ i : Nat, i < x.toNatClampNeg → pg_kept u n (u.1 3 + nI (i + 1)) ≤ pg_kept u n (u.1 3 + nI i)) (hthr : pg_t_advance (!pg_eq (u.1 14) 0) (u.1 3) x = 0) : Met l yX5_advance wsX5_advance ({ frames := 1, cells := 0, slots := 0, locals := 22 }) (va_Pc [.ref (a 0), .int x] (pg_B D (pg_ty cI cZ) (pg_wM cI cZ a u) sz)) (va_Qi (fun r u' => r = u.1 3 + x ∧ u' = pg_free (upd (upd u.1 15 0) 3 (u.1 3 + x), u.2) n (u.1 3 + x)) (pg_E D (pg_ty cI cZ) (va_A (pg_wM cI cZ a u) sz) (pg_wM cI cZ a)) (va_A (pg_wM cI cZ a u) sz)) 0 0 (va_A (pg_wM cI cZ a u) sz) := by
  refine Met.ofW (cc := cX5_advance) (maxL := 3) (ret := (some .int)) (by decide) rfl ?_
  intro p e s m args below meth c s₁ B hml hv
  obtain ⟨rfl, hsz, hP, hK, hD0⟩ := hv
  have hx := B.exec
  have hb := B.bytes
  have hr := B.returns
  have hts := atoms_spec (ws := wsX5_advance) B.pre
  have hown : s.vm.findClass RX5 = some m.cls := findClass_of_methodNamed B.named
  have hlocks := B.notSynchronized
  subst hsz
  have hD := hD0.self (sz := s.heap.size)
  generalize hAe : va_A (pg_wM cI cZ a u) s.heap.size = A at hD ⊢
  have hA : ∀ q : Nat, s.heap.size ≤ q → A q := fun q h => by rw [← hAe]; exact Or.inr h
  have hS : va_S A s.heap s.heap [] := va_S.rf
  have hl := lv_entry ([.ref (a 0), .int x]) (n := 3) (Nat.le_of_ble_eq_true rfl)
  rw [lg_entry_eq]
  generalize (lg_sl ([.ref (a 0), .int x]) ++ List.replicate (3 - (lg_sl ([.ref (a 0), .int x])).length) Slot.unset).toArray = ls at hl ⊢
  have hl : lv_has ls 3 [(0, .ref (a 0)), (1, .int x)] := hl
  have hiX5 : ∀ w ∈ wsX50, w ∈ wsX5_advance := fun _ h => List.mem_cons_of_mem _ (List.mem_append_right _ (h))
  have hw1 := hts (.fieldLink RX5 66 "PegBoxModel" "closed" "Z") (List.mem_of_getElem? (i := 1) rfl)
  have hw2 := hts (.fieldLink RX5 96 "PegBoxModel" "day" "I") (List.mem_of_getElem? (i := 2) rfl)
  refine lv_aload_n hx hb dX5_advance_0 rfl (lv_at hl 0 rfl) ?_
  refine lv_iload_n hx hb dX5_advance_1 rfl (lv_at hl 1 rfl) ?_
  refine lv_iconst (v := 1) hx hb dX5_advance_2 (by decide) ?_
  refine lv_sipush (v := 400) hx hb dX5_advance_3 (by decide) ?_
  rcases Bool.eq_false_or_eq_true (pg_in x 1 400) with c_6 | c_6
  · refine pg_iE (pg_rS (As := [.int x, .int 1, .int 400]) (rest := [.ref (a 0)]) ⟨hx, hb, hml, hown, hts⟩ (cm_in_t l D (pg_ty cI cZ) (pg_wM cI cZ a u) s.heap.size x 1 400 c_6) (va_cwS 3 hts gX5_advance_X5_in rfl rfl rfl (by decide +kernel) ⟨Nat.le_of_ble_eq_true rfl, Nat.le_of_ble_eq_true rfl⟩) hK hP hD rfl hl.1 rfl (Nat.le_of_ble_eq_true rfl) dX5_advance_6 ⟨Nat.le_of_ble_eq_true rfl, Nat.le_of_ble_eq_true rfl⟩) hD hS hA (fun H locs hP hD hS => ?_)
    obtain ⟨dn, hd1, hd4, hxd⟩ := pg_days c_6
    rw [hxd] at hl hthr c_6
    refine lv_if_ne (tgt := 16) hx hb dX5_advance_9 (by decide) (fun c_9 => ?_) (fun c_9 => absurd c_9 (by decide))
    refine lv_aload_n hx hb dX5_advance_16 rfl (lv_at hl 0 rfl) ?_
    refine va_get (D := D) (ci := 5) (v := .int (u.1 14)) (C := RX5) (T := TX5) (N := 31) hx hb hts hiX5 hown hK hP 0 rfl rfl 13 (by decide) hw1 (fun _ h9 => h9) rfl dX5_advance_17 ?_
    refine lv_if_eq (tgt := 35) hx hb dX5_advance_20 (by decide) (fun c_20 => ?_) (fun c_20 => ?_)
    · have d_20 := pg_eq_t c_20
      refine lv_iconst (v := 2) hx hb dX5_advance_35 (by decide) ?_
      refine lv_goto (tgt := 40) hx hb dX5_advance_36 (by decide) ?_
      exact absurd hthr (by first | (simp only [pg_t_advance, c_6, d_20, cond_true, cond_false, Bool.not_true, Bool.not_false]; done) | (simp only [pg_t_advance, c_6, d_20, cond_true, cond_false, Bool.not_true, Bool.not_false]; decide))
    · have d_20 := pg_eq_f c_20
      refine lv_aload_n hx hb dX5_advance_23 rfl (lv_at hl 0 rfl) ?_
      refine va_get (D := D) (ci := 5) (v := .int (u.1 3)) (C := RX5) (T := TX5) (N := 31) hx hb hts hiX5 hown hK hP 0 rfl rfl 14 (by decide) hw2 (fun _ h9 => h9) rfl dX5_advance_24 ?_
      refine lv_iload_n hx hb dX5_advance_27 rfl (lv_at hl 1 rfl) ?_
      refine lv_iadd hx hb dX5_advance_28 ?_
      refine lv_sipush (v := 4000) hx hb dX5_advance_29 (by decide) ?_
      refine lv_icmp_le (tgt := 39) hx hb dX5_advance_32 (by decide) (fun c_32 => ?_) (fun c_32 => ?_)
      · have d_32 := pg_le_t c_32
        refine lv_iconst (v := 0) hx hb dX5_advance_39 (by decide) ?_
        refine pg_iE (pg_rV (As := [.int 0]) (rest := []) ⟨hx, hb, hml, hown, hts⟩ (cm_fine0 l D cI cZ a H.size u) (cwV 1 hts gX5_advance_X5_isFine rfl rfl rfl (by decide +kernel) ⟨Nat.le_of_ble_eq_true rfl, Nat.le_of_ble_eq_true rfl⟩) hK hP hD 0 (ci := 5) rfl rfl rfl rfl hl.1 rfl (Nat.le_of_ble_eq_true rfl) dX5_advance_40 ⟨Nat.le_of_ble_eq_true rfl, Nat.le_of_ble_eq_true rfl⟩) hD hS hA (fun H locs hP hD hS => ?_)
        refine lv_if_ne (tgt := 48) hx hb dX5_advance_43 (by decide) (fun c_43 => ?_) (fun c_43 => absurd c_43 (by decide))
        have hmono : ∀ i : Nat, i < dn → pg_kept u n (u.1 3 + nI (i + 1)) ≤ pg_kept u n (u.1 3 + nI i) := fun i h9 => hmono i (by rw [hxd, nI_clamp (by omega)]; exact h9)
        refine lv_iconst (v := 0) hx hb dX5_advance_48 (by decide) ?_
        refine lv_istore_n (lv' := [(2, .int 0), (0, .ref (a 0)), (1, .int (nI dn))]) hx hb dX5_advance_49 rfl hl (by decide) rfl (fun ls hl => ?_)
        have L50 : ∀ (k9 i : Nat) (w9 : pg_St), i ≤ dn → dn < i + k9 → w9 = (pg_adv (upd u.1 15 0, u.2) n i) → ∀ (H : Heap) (locs : List Loc), va_P D vwCl (pg_wM cI cZ a w9) H → va_D A (pg_wM cI cZ a w9) → va_S A s.heap H locs → ∀ ls : Array Slot, lv_has ls 3 [(2, .int (nI i)), (0, .ref (a 0)), (1, .int (nI dn))] → W p l e (headSpec wsX5_advance ({ frames := 1, cells := 0, slots := 0, locals := 22 })).room s m ([.ref (a 0), .int x] : List Value).toArray below meth c H locs 0 0 (MQ below (va_Qi (fun r u' => r = u.1 3 + x ∧ u' = pg_free (upd (upd u.1 15 0) 3 (u.1 3 + x), u.2) n (u.1 3 + x)) (pg_E D (pg_ty cI cZ) A (pg_wM cI cZ a)) A) ([.ref (a 0), .int x] : List Value).toArray s 0 0 A) (F0 m 50 ls []) := by
          intro k9
          induction k9 with
          | zero => intro i w9 h1 h2; exact absurd h2 (by omega)
          | succ k9 ih =>
            intro i w9 hi9 hk9 hw99 H locs hP hD hS ls hl
            subst hw99
            refine lv_iload_n hx hb dX5_advance_50 rfl (lv_at hl 0 rfl) ?_
            refine lv_iload_n hx hb dX5_advance_51 rfl (lv_at hl 2 rfl) ?_
            refine lv_icmp_ge (tgt := 75) hx hb dX5_advance_52 (by decide) (fun c_52 => ?_) (fun c_52 => ?_)
            · have hiN : i = dn := pg_exit (rfl) (by omega) hi9 c_52
              rw [hiN] at hP hD hl
              refine lv_aload_n hx hb dX5_advance_75 rfl (lv_at hl 1 rfl) ?_
              refine va_get (D := D) (ci := 5) (v := .int ((pg_adv (upd u.1 15 0, u.2) n dn).1 3)) (C := RX5) (T := TX5) (N := 31) hx hb hts hiX5 hown hK hP 0 rfl rfl 14 (by decide) hw2 (fun _ h9 => h9) rfl dX5_advance_76 ?_
              exact W.iret (v := (pg_adv (upd u.1 15 0, u.2) n dn).1 3) hx hb hr (fun t9 ht9 hW9 => ⟨⟨(pg_adv (upd u.1 15 0, u.2) n dn).1 3, (pg_adv (upd u.1 15 0, u.2) n dn), rfl, ⟨by rw [pg_adv_3, hxd]; rfl, by rw [hxd]; obtain ⟨i9, rfl⟩ : ∃ i9, dn = i9 + 1 := ⟨dn - 1, by omega⟩; rfl⟩, by rw [ht9]; exact hP, va_K.moved hW9.alike hK, hD⟩, hS.F ht9⟩) hS.2.2 dX5_advance_79
            · have hlt : i < dn := pg_stay (rfl) (by omega) c_52
              refine lv_aload_n hx hb dX5_advance_55 rfl (lv_at hl 1 rfl) ?_
              refine lv_dup hx hb dX5_advance_56 rfl ?_
              refine va_get (D := D) (ci := 5) (v := .int ((pg_adv (upd u.1 15 0, u.2) n i).1 3)) (C := RX5) (T := TX5) (N := 31) hx hb hts hiX5 hown hK hP 0 rfl rfl 14 (by decide) hw2 (fun _ h9 => h9) rfl dX5_advance_57 ?_
              refine lv_iconst (v := 1) hx hb dX5_advance_60 (by decide) ?_
              refine lv_iadd hx hb dX5_advance_61 ?_
              refine W.eq (g2 := F0 m 62 ls [.int (u.1 3 + nI (i + 1)), .ref (a 0)]) (by rw [pg_adv_3, nI_succ, ← Int32.add_assoc]; rfl) ?_
              refine va_put (D := D) (ci := 5) (v := .int (u.1 3 + nI (i + 1))) (ty := .int) (C := RX5) (T := TX5) (N := 31) hx hb hts hiX5 tyX5 tyX5_ok nmX5 hown hK hP hD hS 0 rfl rfl 14 (by decide) hw2 (fun _ h9 => h9) rfl (by decide +kernel) rfl rfl (Nat.le_of_ble_eq_true rfl) dX5_advance_62 (fun H locs hP hD hS => ?_)
              have hP : va_P D vwCl (pg_wM cI cZ a ((upd (pg_adv (upd u.1 15 0, u.2) n i).1 3 (u.1 3 + nI (i + 1))), (pg_adv (upd u.1 15 0, u.2) n i).2)) H := hP
              have hD : va_D A (pg_wM cI cZ a ((upd (pg_adv (upd u.1 15 0, u.2) n i).1 3 (u.1 3 + nI (i + 1))), (pg_adv (upd u.1 15 0, u.2) n i).2)) := hD
              refine lv_aload_n hx hb dX5_advance_65 rfl (lv_at hl 1 rfl) ?_
              refine pg_vE (pg_rV (As := []) (rest := []) ⟨hx, hb, hml, hown, hts⟩ (cm_frees l D cI cZ a H.size ((upd (pg_adv (upd u.1 15 0, u.2) n i).1 3 (u.1 3 + nI (i + 1))), (pg_adv (upd u.1 15 0, u.2) n i).2) n (by show (upd (pg_adv (upd u.1 15 0, u.2) n i).1 3 (u.1 3 + nI (i + 1))) 10 = nI n; show (pg_adv (upd u.1 15 0, u.2) n i).1 10 = nI n; rw [pg_adv_10]; exact hn) h20) (cwV 0 hts gX5_advance_X5_frees rfl rfl rfl (by decide +kernel) ⟨Nat.le_of_ble_eq_true rfl, Nat.le_of_ble_eq_true rfl⟩) hK hP hD 0 (ci := 5) rfl rfl rfl rfl hl.1 rfl (Nat.le_of_ble_eq_true rfl) dX5_advance_66 ⟨Nat.le_of_ble_eq_true rfl, Nat.le_of_ble_eq_true rfl⟩) hD hS hA (fun H locs hP hD hS => ?_)
              have ea : pg_free (upd (pg_adv (upd u.1 15 0, u.2) n i).1 3 (u.1 3 + nI (i + 1)), (pg_adv (upd u.1 15 0, u.2) n i).2) n (u.1 3 + nI (i + 1)) = pg_adv (upd u.1 15 0, u.2) n (i + 1) := by rw [pg_adv_r]; exact pg_adv_s (u := (upd u.1 15 0, u.2)) (hmono i hlt)
              have hP : va_P D vwCl (pg_wM cI cZ a (pg_adv (upd u.1 15 0, u.2) n (i + 1))) H := by rw [← ea]; exact hP
              have hD : va_D A (pg_wM cI cZ a (pg_adv (upd u.1 15 0, u.2) n (i + 1))) := by rw [← ea]; exact hD
              refine lv_iinc (v := nI (i + 1)) (lv' := [(2, .int (nI (i + 1))), (0, .ref (a 0)), (1, .int (nI dn))]) hx hb dX5_advance_69 hl (k := 0) rfl (by rw [nI_succ]; rfl) (by decide) rfl (fun ls hl => ?_)
              refine lv_goto (tgt := 50) hx hb dX5_advance_72 (by decide) ?_
              exact ih (i + 1) (pg_adv (upd u.1 15 0, u.2) n (i + 1)) (by omega) (by omega) rfl _ _ hP hD hS ls (lv_sub hl [0, 1, 2] rfl)
        exact L50 (dn + 1) 0 ((upd u.1 15 0), u.2) (by omega) (by omega) rfl _ _ hP hD hS ls hl
      · have d_32 := pg_le_f c_32
        refine lv_iconst (v := 2) hx hb dX5_advance_35 (by decide) ?_
        refine lv_goto (tgt := 40) hx hb dX5_advance_36 (by decide) ?_
        exact absurd hthr (by first | (simp only [pg_t_advance, c_6, d_20, d_32, cond_true, cond_false, Bool.not_true, Bool.not_false]; done) | (simp only [pg_t_advance, c_6, d_20, d_32, cond_true, cond_false, Bool.not_true, Bool.not_false]; decide))
  · refine pg_iE (pg_rS (As := [.int x, .int 1, .int 400]) (rest := [.ref (a 0)]) ⟨hx, hb, hml, hown, hts⟩ (cm_in_f l D (pg_ty cI cZ) (pg_wM cI cZ a u) s.heap.size x 1 400 c_6) (va_cwS 3 hts gX5_advance_X5_in rfl rfl rfl (by decide +kernel) ⟨Nat.le_of_ble_eq_true rfl, Nat.le_of_ble_eq_true rfl⟩) hK hP hD rfl hl.1 rfl (Nat.le_of_ble_eq_true rfl) dX5_advance_6 ⟨Nat.le_of_ble_eq_true rfl, Nat.le_of_ble_eq_true rfl⟩) hD hS hA (fun H locs hP hD hS => ?_)
    refine lv_if_ne (tgt := 16) hx hb dX5_advance_9 (by decide) (fun c_9 => absurd (by decide) c_9) (fun c_9 => ?_)
    refine lv_iconst (v := 1) hx hb dX5_advance_12 (by decide) ?_
    refine lv_goto (tgt := 40) hx hb dX5_advance_13 (by decide) ?_
    exact absurd hthr (by first | (simp only [pg_t_advance, c_6, cond_true, cond_false, Bool.not_true, Bool.not_false]; done) | (simp only [pg_t_advance, c_6, cond_true, cond_false, Bool.not_true, Bool.not_false]; decide))
set_option maxHeartbeats 4000000 in
set_option maxRecDepth 100000 in
/-- cm_advance: not fine -/
theorem cm_advance_no (l : Launch) (D : va_G) (cI cZ : ClassId) (a : Nat → Nat) (sz : Nat) (u : pg_St) (n : Nat) (hn : u.1 10 = nI n) (h20 : n ≤ 20) (x : Int32) (hmono : ∀ i : Nat, i < x.toNatClampNeg → pg_kept u n (u.1 3 + nI (i + 1)) ≤ pg_kept u n (u.1 3 + nI i)) (e9 : Int32) (hthr : pg_t_advance (!pg_eq (u.1 14) 0) (u.1 3) x = e9) (h0 : e9 ≠ 0) : Met l yX5_advance wsX5_advance ({ frames := 1, cells := 0, slots := 0, locals := 22 }) (va_Pc [.ref (a 0), .int x] (pg_B D (pg_ty cI cZ) (pg_wM cI cZ a u) sz)) (va_Qi (fun r u' => r = 0 ∧ u' = (upd u.1 15 e9, u.2)) (pg_E D (pg_ty cI cZ) (va_A (pg_wM cI cZ a u) sz) (pg_wM cI cZ a)) (va_A (pg_wM cI cZ a u) sz)) 0 0 (va_A (pg_wM cI cZ a u) sz) := by
  refine Met.ofW (cc := cX5_advance) (maxL := 3) (ret := (some .int)) (by decide) rfl ?_
  intro p e s m args below meth c s₁ B hml hv
  obtain ⟨rfl, hsz, hP, hK, hD0⟩ := hv
  have hx := B.exec
  have hb := B.bytes
  have hr := B.returns
  have hts := atoms_spec (ws := wsX5_advance) B.pre
  have hown : s.vm.findClass RX5 = some m.cls := findClass_of_methodNamed B.named
  have hlocks := B.notSynchronized
  subst hsz
  have hD := hD0.self (sz := s.heap.size)
  generalize hAe : va_A (pg_wM cI cZ a u) s.heap.size = A at hD ⊢
  have hA : ∀ q : Nat, s.heap.size ≤ q → A q := fun q h => by rw [← hAe]; exact Or.inr h
  have hS : va_S A s.heap s.heap [] := va_S.rf
  have hl := lv_entry ([.ref (a 0), .int x]) (n := 3) (Nat.le_of_ble_eq_true rfl)
  rw [lg_entry_eq]
  generalize (lg_sl ([.ref (a 0), .int x]) ++ List.replicate (3 - (lg_sl ([.ref (a 0), .int x])).length) Slot.unset).toArray = ls at hl ⊢
  have hl : lv_has ls 3 [(0, .ref (a 0)), (1, .int x)] := hl
  have hiX5 : ∀ w ∈ wsX50, w ∈ wsX5_advance := fun _ h => List.mem_cons_of_mem _ (List.mem_append_right _ (h))
  have hw1 := hts (.fieldLink RX5 66 "PegBoxModel" "closed" "Z") (List.mem_of_getElem? (i := 1) rfl)
  have hw2 := hts (.fieldLink RX5 96 "PegBoxModel" "day" "I") (List.mem_of_getElem? (i := 2) rfl)
  refine lv_aload_n hx hb dX5_advance_0 rfl (lv_at hl 0 rfl) ?_
  refine lv_iload_n hx hb dX5_advance_1 rfl (lv_at hl 1 rfl) ?_
  refine lv_iconst (v := 1) hx hb dX5_advance_2 (by decide) ?_
  refine lv_sipush (v := 400) hx hb dX5_advance_3 (by decide) ?_
  rcases Bool.eq_false_or_eq_true (pg_in x 1 400) with c_6 | c_6
  · refine pg_iE (pg_rS (As := [.int x, .int 1, .int 400]) (rest := [.ref (a 0)]) ⟨hx, hb, hml, hown, hts⟩ (cm_in_t l D (pg_ty cI cZ) (pg_wM cI cZ a u) s.heap.size x 1 400 c_6) (va_cwS 3 hts gX5_advance_X5_in rfl rfl rfl (by decide +kernel) ⟨Nat.le_of_ble_eq_true rfl, Nat.le_of_ble_eq_true rfl⟩) hK hP hD rfl hl.1 rfl (Nat.le_of_ble_eq_true rfl) dX5_advance_6 ⟨Nat.le_of_ble_eq_true rfl, Nat.le_of_ble_eq_true rfl⟩) hD hS hA (fun H locs hP hD hS => ?_)
    obtain ⟨dn, hd1, hd4, hxd⟩ := pg_days c_6
    rw [hxd] at hl hthr c_6
    refine lv_if_ne (tgt := 16) hx hb dX5_advance_9 (by decide) (fun c_9 => ?_) (fun c_9 => absurd c_9 (by decide))
    refine lv_aload_n hx hb dX5_advance_16 rfl (lv_at hl 0 rfl) ?_
    refine va_get (D := D) (ci := 5) (v := .int (u.1 14)) (C := RX5) (T := TX5) (N := 31) hx hb hts hiX5 hown hK hP 0 rfl rfl 13 (by decide) hw1 (fun _ h9 => h9) rfl dX5_advance_17 ?_
    refine lv_if_eq (tgt := 35) hx hb dX5_advance_20 (by decide) (fun c_20 => ?_) (fun c_20 => ?_)
    · have d_20 := pg_eq_t c_20
      refine lv_iconst (v := 2) hx hb dX5_advance_35 (by decide) ?_
      refine lv_goto (tgt := 40) hx hb dX5_advance_36 (by decide) ?_
      have he : e9 = 2 := hthr.symm.trans (by simp only [pg_t_advance, c_6, d_20, cond_true, cond_false, Bool.not_true, Bool.not_false])
      refine pg_iE (pg_rV (As := [.int 2]) (rest := []) ⟨hx, hb, hml, hown, hts⟩ (cm_fine1 l D cI cZ a H.size u 2 (by decide)) (cwV 1 hts gX5_advance_X5_isFine rfl rfl rfl (by decide +kernel) ⟨Nat.le_of_ble_eq_true rfl, Nat.le_of_ble_eq_true rfl⟩) hK hP hD 0 (ci := 5) rfl rfl rfl rfl hl.1 rfl (Nat.le_of_ble_eq_true rfl) dX5_advance_40 ⟨Nat.le_of_ble_eq_true rfl, Nat.le_of_ble_eq_true rfl⟩) hD hS hA (fun H locs hP hD hS => ?_)
      refine lv_if_ne (tgt := 48) hx hb dX5_advance_43 (by decide) (fun c_43 => absurd (by decide) c_43) (fun c_43 => ?_)
      refine lv_iconst (v := 0) hx hb dX5_advance_46 (by decide) ?_
      exact W.iret (v := 0) hx hb hr (fun t9 ht9 hW9 => ⟨⟨0, ((upd u.1 15 2), u.2), rfl, ⟨rfl, by rw [he]⟩, by rw [ht9]; exact hP, va_K.moved hW9.alike hK, hD⟩, hS.F ht9⟩) hS.2.2 dX5_advance_47
    · have d_20 := pg_eq_f c_20
      refine lv_aload_n hx hb dX5_advance_23 rfl (lv_at hl 0 rfl) ?_
      refine va_get (D := D) (ci := 5) (v := .int (u.1 3)) (C := RX5) (T := TX5) (N := 31) hx hb hts hiX5 hown hK hP 0 rfl rfl 14 (by decide) hw2 (fun _ h9 => h9) rfl dX5_advance_24 ?_
      refine lv_iload_n hx hb dX5_advance_27 rfl (lv_at hl 1 rfl) ?_
      refine lv_iadd hx hb dX5_advance_28 ?_
      refine lv_sipush (v := 4000) hx hb dX5_advance_29 (by decide) ?_
      refine lv_icmp_le (tgt := 39) hx hb dX5_advance_32 (by decide) (fun c_32 => ?_) (fun c_32 => ?_)
      · have d_32 := pg_le_t c_32
        refine lv_iconst (v := 0) hx hb dX5_advance_39 (by decide) ?_
        exact absurd (hthr.symm.trans (by simp only [pg_t_advance, c_6, d_20, d_32, cond_true, cond_false, Bool.not_true, Bool.not_false])) h0
      · have d_32 := pg_le_f c_32
        refine lv_iconst (v := 2) hx hb dX5_advance_35 (by decide) ?_
        refine lv_goto (tgt := 40) hx hb dX5_advance_36 (by decide) ?_
        have he : e9 = 2 := hthr.symm.trans (by simp only [pg_t_advance, c_6, d_20, d_32, cond_true, cond_false, Bool.not_true, Bool.not_false])
        refine pg_iE (pg_rV (As := [.int 2]) (rest := []) ⟨hx, hb, hml, hown, hts⟩ (cm_fine1 l D cI cZ a H.size u 2 (by decide)) (cwV 1 hts gX5_advance_X5_isFine rfl rfl rfl (by decide +kernel) ⟨Nat.le_of_ble_eq_true rfl, Nat.le_of_ble_eq_true rfl⟩) hK hP hD 0 (ci := 5) rfl rfl rfl rfl hl.1 rfl (Nat.le_of_ble_eq_true rfl) dX5_advance_40 ⟨Nat.le_of_ble_eq_true rfl, Nat.le_of_ble_eq_true rfl⟩) hD hS hA (fun H locs hP hD hS => ?_)
        refine lv_if_ne (tgt := 48) hx hb dX5_advance_43 (by decide) (fun c_43 => absurd (by decide) c_43) (fun c_43 => ?_)
        refine lv_iconst (v := 0) hx hb dX5_advance_46 (by decide) ?_
        exact W.iret (v := 0) hx hb hr (fun t9 ht9 hW9 => ⟨⟨0, ((upd u.1 15 2), u.2), rfl, ⟨rfl, by rw [he]⟩, by rw [ht9]; exact hP, va_K.moved hW9.alike hK, hD⟩, hS.F ht9⟩) hS.2.2 dX5_advance_47
  · refine pg_iE (pg_rS (As := [.int x, .int 1, .int 400]) (rest := [.ref (a 0)]) ⟨hx, hb, hml, hown, hts⟩ (cm_in_f l D (pg_ty cI cZ) (pg_wM cI cZ a u) s.heap.size x 1 400 c_6) (va_cwS 3 hts gX5_advance_X5_in rfl rfl rfl (by decide +kernel) ⟨Nat.le_of_ble_eq_true rfl, Nat.le_of_ble_eq_true rfl⟩) hK hP hD rfl hl.1 rfl (Nat.le_of_ble_eq_true rfl) dX5_advance_6 ⟨Nat.le_of_ble_eq_true rfl, Nat.le_of_ble_eq_true rfl⟩) hD hS hA (fun H locs hP hD hS => ?_)
    refine lv_if_ne (tgt := 16) hx hb dX5_advance_9 (by decide) (fun c_9 => absurd (by decide) c_9) (fun c_9 => ?_)
    refine lv_iconst (v := 1) hx hb dX5_advance_12 (by decide) ?_
    refine lv_goto (tgt := 40) hx hb dX5_advance_13 (by decide) ?_
    have he : e9 = 1 := hthr.symm.trans (by simp only [pg_t_advance, c_6, cond_true, cond_false, Bool.not_true, Bool.not_false])
    refine pg_iE (pg_rV (As := [.int 1]) (rest := []) ⟨hx, hb, hml, hown, hts⟩ (cm_fine1 l D cI cZ a H.size u 1 (by decide)) (cwV 1 hts gX5_advance_X5_isFine rfl rfl rfl (by decide +kernel) ⟨Nat.le_of_ble_eq_true rfl, Nat.le_of_ble_eq_true rfl⟩) hK hP hD 0 (ci := 5) rfl rfl rfl rfl hl.1 rfl (Nat.le_of_ble_eq_true rfl) dX5_advance_40 ⟨Nat.le_of_ble_eq_true rfl, Nat.le_of_ble_eq_true rfl⟩) hD hS hA (fun H locs hP hD hS => ?_)
    refine lv_if_ne (tgt := 48) hx hb dX5_advance_43 (by decide) (fun c_43 => absurd (by decide) c_43) (fun c_43 => ?_)
    refine lv_iconst (v := 0) hx hb dX5_advance_46 (by decide) ?_
    exact W.iret (v := 0) hx hb hr (fun t9 ht9 hW9 => ⟨⟨0, ((upd u.1 15 1), u.2), rfl, ⟨rfl, by rw [he]⟩, by rw [ht9]; exact hP, va_K.moved hW9.alike hK, hD⟩, hS.F ht9⟩) hS.2.2 dX5_advance_47
set_option maxHeartbeats 4000000 in
set_option maxRecDepth 100000 in
/-- cm_claim: fine -/
theorem cm_claim_ok (l : Launch) (D : va_G) (cI cZ : ClassId) (a : Nat → Nat) (sz : Nat) (u : pg_St) (n : Nat) (hn : u.1 10 = nI n) (h20 : n ≤ 20) (k x : Int32) (hthr : pg_t_claim (!pg_eq (u.1 14) 0) (u.1 3) u.2 (nI n) k x = 0) : Met l yX5_claim wsX5_claim ({ frames := 1, cells := 0, slots := 0, locals := 22 }) (va_Pc [.ref (a 0), .int k, .int x] (pg_B D (pg_ty cI cZ) (pg_wM cI cZ a u) sz)) (va_Qi (fun r u' => r = nI n ∧ u' = pg_claim (upd u.1 15 0, u.2) n k x) (pg_E D (pg_ty cI cZ) (va_A (pg_wM cI cZ a u) sz) (pg_wM cI cZ a)) (va_A (pg_wM cI cZ a u) sz)) 0 0 (va_A (pg_wM cI cZ a u) sz) := by
  refine Met.ofW (cc := cX5_claim) (maxL := 4) (ret := (some .int)) (by decide) rfl ?_
  intro p e s m args below meth c s₁ B hml hv
  obtain ⟨rfl, hsz, hP, hK, hD0⟩ := hv
  have hx := B.exec
  have hb := B.bytes
  have hr := B.returns
  have hts := atoms_spec (ws := wsX5_claim) B.pre
  have hown : s.vm.findClass RX5 = some m.cls := findClass_of_methodNamed B.named
  have hlocks := B.notSynchronized
  subst hsz
  have hD := hD0.self (sz := s.heap.size)
  generalize hAe : va_A (pg_wM cI cZ a u) s.heap.size = A at hD ⊢
  have hA : ∀ q : Nat, s.heap.size ≤ q → A q := fun q h => by rw [← hAe]; exact Or.inr h
  have hS : va_S A s.heap s.heap [] := va_S.rf
  have hl := lv_entry ([.ref (a 0), .int k, .int x]) (n := 4) (Nat.le_of_ble_eq_true rfl)
  rw [lg_entry_eq]
  generalize (lg_sl ([.ref (a 0), .int k, .int x]) ++ List.replicate (4 - (lg_sl ([.ref (a 0), .int k, .int x])).length) Slot.unset).toArray = ls at hl ⊢
  have hl : lv_has ls 4 [(0, .ref (a 0)), (1, .int k), (2, .int x)] := hl
  have hiX5 : ∀ w ∈ wsX50, w ∈ wsX5_claim := fun _ h => List.mem_cons_of_mem _ (List.mem_append_right _ (h))
  have hw1 := hts (.constant RX5 60 (10000000)) (List.mem_of_getElem? (i := 1) rfl)
  have hw2 := hts (.fieldLink RX5 66 "PegBoxModel" "closed" "Z") (List.mem_of_getElem? (i := 2) rfl)
  have hw3 := hts (.fieldLink RX5 96 "PegBoxModel" "day" "I") (List.mem_of_getElem? (i := 3) rfl)
  have hw4 := hts (.fieldLink RX5 29 "PegBoxModel" "lastDay" "[I") (List.mem_of_getElem? (i := 4) rfl)
  have hw5 := hts (.fieldLink RX5 99 "PegBoxModel" "claims" "I") (List.mem_of_getElem? (i := 5) rfl)
  have hw6 := hts (.fieldLink RX5 38 "PegBoxModel" "kind" "[I") (List.mem_of_getElem? (i := 6) rfl)
  have hw7 := hts (.fieldLink RX5 41 "PegBoxModel" "amount" "[I") (List.mem_of_getElem? (i := 7) rfl)
  have hw8 := hts (.fieldLink RX5 44 "PegBoxModel" "offered" "[I") (List.mem_of_getElem? (i := 8) rfl)
  have hw9 := hts (.fieldLink RX5 47 "PegBoxModel" "settled" "[I") (List.mem_of_getElem? (i := 9) rfl)
  refine lv_iload_n hx hb dX5_claim_0 rfl (lv_at hl 1 rfl) ?_
  refine lv_iconst (v := 0) hx hb dX5_claim_1 (by decide) ?_
  refine lv_iconst (v := 2) hx hb dX5_claim_2 (by decide) ?_
  rcases Bool.eq_false_or_eq_true (pg_in k 0 2) with c_3 | c_3
  · have d_3 : pg_nb k 3 = true := (pg_nb3 k).trans c_3
    refine pg_iE (pg_rS (As := [.int k, .int 0, .int 2]) (rest := []) ⟨hx, hb, hml, hown, hts⟩ (cm_in_t l D (pg_ty cI cZ) (pg_wM cI cZ a u) s.heap.size k 0 2 c_3) (va_cwS 3 hts gX5_claim_X5_in rfl rfl rfl (by decide +kernel) ⟨Nat.le_of_ble_eq_true rfl, Nat.le_of_ble_eq_true rfl⟩) hK hP hD rfl hl.1 rfl (Nat.le_of_ble_eq_true rfl) dX5_claim_3 ⟨Nat.le_of_ble_eq_true rfl, Nat.le_of_ble_eq_true rfl⟩) hD hS hA (fun H locs hP hD hS => ?_)
    obtain ⟨j, hj, rfl⟩ := pg_nb_nI (n := 3) (by omega) d_3
    have hcl : (nI j).toNatClampNeg = j := nI_clamp (by omega)
    refine lv_if_ne (tgt := 13) hx hb dX5_claim_6 (by decide) (fun c_6 => ?_) (fun c_6 => absurd c_6 (by decide))
    refine lv_iload_n hx hb dX5_claim_13 rfl (lv_at hl 2 rfl) ?_
    refine lv_iconst (v := 1) hx hb dX5_claim_14 (by decide) ?_
    refine lv_ldc hx hb hown hw1 dX5_claim_15 ?_
    rcases Bool.eq_false_or_eq_true (pg_in x 1 10000000) with c_17 | c_17
    · refine pg_iE (pg_rS (As := [.int x, .int 1, .int 10000000]) (rest := []) ⟨hx, hb, hml, hown, hts⟩ (cm_in_t l D (pg_ty cI cZ) (pg_wM cI cZ a u) H.size x 1 10000000 c_17) (va_cwS 3 hts gX5_claim_X5_in rfl rfl rfl (by decide +kernel) ⟨Nat.le_of_ble_eq_true rfl, Nat.le_of_ble_eq_true rfl⟩) hK hP hD rfl hl.1 rfl (Nat.le_of_ble_eq_true rfl) dX5_claim_17 ⟨Nat.le_of_ble_eq_true rfl, Nat.le_of_ble_eq_true rfl⟩) hD hS hA (fun H locs hP hD hS => ?_)
      refine lv_if_ne (tgt := 27) hx hb dX5_claim_20 (by decide) (fun c_20 => ?_) (fun c_20 => absurd c_20 (by decide))
      refine lv_iconst (v := 0) hx hb dX5_claim_27 (by decide) ?_
      refine lv_istore_n (lv' := [(3, .int 0), (0, .ref (a 0)), (1, .int (nI j)), (2, .int x)]) hx hb dX5_claim_28 rfl hl (by decide) rfl (fun ls hl => ?_)
      refine lv_aload_n hx hb dX5_claim_29 rfl (lv_at hl 1 rfl) ?_
      refine lv_iload_n hx hb dX5_claim_30 rfl (lv_at hl 0 rfl) ?_
      refine lv_if_ne (tgt := 67) hx hb dX5_claim_31 (by decide) (fun c_31 => absurd (by decide) c_31) (fun c_31 => ?_)
      refine lv_aload_n hx hb dX5_claim_34 rfl (lv_at hl 1 rfl) ?_
      refine va_get (D := D) (ci := 5) (v := .int (u.1 14)) (C := RX5) (T := TX5) (N := 31) hx hb hts hiX5 hown hK hP 0 rfl rfl 13 (by decide) hw2 (fun _ h9 => h9) rfl dX5_claim_35 ?_
      refine lv_if_eq (tgt := 63) hx hb dX5_claim_38 (by decide) (fun c_38 => ?_) (fun c_38 => ?_)
      · have d_38 := pg_eq_t c_38
        refine lv_iconst (v := 3) hx hb dX5_claim_63 (by decide) ?_
        refine lv_goto (tgt := 68) hx hb dX5_claim_64 (by decide) ?_
        exact absurd hthr (by first | (simp only [pg_t_claim, d_3, hcl, c_17, d_38, cond_true, cond_false, Bool.not_true, Bool.not_false]; done) | (simp only [pg_t_claim, d_3, hcl, c_17, d_38, cond_true, cond_false, Bool.not_true, Bool.not_false]; decide))
      · have d_38 := pg_eq_f c_38
        refine lv_aload_n hx hb dX5_claim_41 rfl (lv_at hl 1 rfl) ?_
        refine va_get (D := D) (ci := 5) (v := .int (u.1 3)) (C := RX5) (T := TX5) (N := 31) hx hb hts hiX5 hown hK hP 0 rfl rfl 14 (by decide) hw3 (fun _ h9 => h9) rfl dX5_claim_42 ?_
        refine lv_aload_n hx hb dX5_claim_45 rfl (lv_at hl 1 rfl) ?_
        refine va_get (D := D) (ci := 5) (v := .ref (a 7)) (C := RX5) (T := TX5) (N := 31) hx hb hts hiX5 hown hK hP 0 rfl rfl 9 (by decide) hw4 (fun _ h9 => h9) rfl dX5_claim_46 ?_
        refine lv_iload_n hx hb dX5_claim_49 rfl (lv_at hl 2 rfl) ?_
        refine pg_ild (f := u.2 6) hx hb hK hP 7 0 rfl rfl (show j < _ by omega) (by decide) dX5_claim_50 ?_
        refine lv_icmp_gt (tgt := 63) hx hb dX5_claim_51 (by decide) (fun c_51 => ?_) (fun c_51 => ?_)
        · have d_51 := pg_le_f (Int32.not_le.mpr c_51)
          refine lv_iconst (v := 3) hx hb dX5_claim_63 (by decide) ?_
          refine lv_goto (tgt := 68) hx hb dX5_claim_64 (by decide) ?_
          exact absurd hthr (by first | (simp only [pg_t_claim, d_3, hcl, c_17, d_38, d_51, cond_true, cond_false, Bool.not_true, Bool.not_false]; done) | (simp only [pg_t_claim, d_3, hcl, c_17, d_38, d_51, cond_true, cond_false, Bool.not_true, Bool.not_false]; decide))
        · have d_51 := pg_le_t (Int32.not_lt.mp c_51)
          refine lv_aload_n hx hb dX5_claim_54 rfl (lv_at hl 1 rfl) ?_
          refine va_get (D := D) (ci := 5) (v := .int (u.1 10)) (C := RX5) (T := TX5) (N := 31) hx hb hts hiX5 hown hK hP 0 rfl rfl 25 (by decide) hw5 (fun _ h9 => h9) rfl dX5_claim_55 ?_
          rw [hn]
          refine lv_bipush (v := 20) hx hb dX5_claim_58 (by decide) ?_
          refine lv_icmp_ne (tgt := 67) hx hb dX5_claim_60 (by decide) (fun c_60 => ?_) (fun c_60 => ?_)
          · have d_60 := (pg_eq20 h20).trans (pg_eq_f c_60)
            refine lv_iload_n hx hb dX5_claim_67 rfl (lv_at hl 0 rfl) ?_
            refine pg_iE (pg_rV (As := [.int 0]) (rest := []) ⟨hx, hb, hml, hown, hts⟩ (cm_fine0 l D cI cZ a H.size u) (cwV 1 hts gX5_claim_X5_isFine rfl rfl rfl (by decide +kernel) ⟨Nat.le_of_ble_eq_true rfl, Nat.le_of_ble_eq_true rfl⟩) hK hP hD 0 (ci := 5) rfl rfl rfl rfl hl.1 rfl (Nat.le_of_ble_eq_true rfl) dX5_claim_68 ⟨Nat.le_of_ble_eq_true rfl, Nat.le_of_ble_eq_true rfl⟩) hD hS hA (fun H locs hP hD hS => ?_)
            refine lv_if_ne (tgt := 76) hx hb dX5_claim_71 (by decide) (fun c_71 => ?_) (fun c_71 => absurd c_71 (by decide))
            have hn20 : n < 20 := by have h7 := pg_le_n d_60; exact (nI_ltI (by omega) (by decide)).mp (show nI n < nI 20 from Int32.not_le.mp h7)
            refine lv_aload_n hx hb dX5_claim_76 rfl (lv_at hl 1 rfl) ?_
            refine va_get (D := D) (ci := 5) (v := .ref (a 8)) (C := RX5) (T := TX5) (N := 31) hx hb hts hiX5 hown hK hP 0 rfl rfl 21 (by decide) hw6 (fun _ h9 => h9) rfl dX5_claim_77 ?_
            refine lv_aload_n hx hb dX5_claim_80 rfl (lv_at hl 1 rfl) ?_
            refine va_get (D := D) (ci := 5) (v := .int (u.1 10)) (C := RX5) (T := TX5) (N := 31) hx hb hts hiX5 hown hK hP 0 rfl rfl 25 (by decide) hw5 (fun _ h9 => h9) rfl dX5_claim_81 ?_
            rw [hn]
            refine lv_iload_n hx hb dX5_claim_84 rfl (lv_at hl 2 rfl) ?_
            refine pg_ist hx hb hK hP hD hS 8 0 rfl rfl (show n < _ by omega) (by decide) dX5_claim_85 (fun H locs hP hD hS => ?_)
            have hP : va_P D vwCl (pg_wM cI cZ a ((upd u.1 15 0), (pg_row u.2 7 (upd (u.2 7) n (nI j))))) H := hP
            have hD : va_D A (pg_wM cI cZ a ((upd u.1 15 0), (pg_row u.2 7 (upd (u.2 7) n (nI j))))) := hD
            refine lv_aload_n hx hb dX5_claim_86 rfl (lv_at hl 1 rfl) ?_
            refine va_get (D := D) (ci := 5) (v := .ref (a 9)) (C := RX5) (T := TX5) (N := 31) hx hb hts hiX5 hown hK hP 0 rfl rfl 22 (by decide) hw7 (fun _ h9 => h9) rfl dX5_claim_87 ?_
            refine lv_aload_n hx hb dX5_claim_90 rfl (lv_at hl 1 rfl) ?_
            refine va_get (D := D) (ci := 5) (v := .int (u.1 10)) (C := RX5) (T := TX5) (N := 31) hx hb hts hiX5 hown hK hP 0 rfl rfl 25 (by decide) hw5 (fun _ h9 => h9) rfl dX5_claim_91 ?_
            rw [hn]
            refine lv_iload_n hx hb dX5_claim_94 rfl (lv_at hl 3 rfl) ?_
            refine pg_ist hx hb hK hP hD hS 9 0 rfl rfl (show n < _ by omega) (by decide) dX5_claim_95 (fun H locs hP hD hS => ?_)
            have hP : va_P D vwCl (pg_wM cI cZ a ((upd u.1 15 0), (pg_row (pg_row u.2 7 (upd (u.2 7) n (nI j))) 8 (upd (u.2 8) n x)))) H := hP
            have hD : va_D A (pg_wM cI cZ a ((upd u.1 15 0), (pg_row (pg_row u.2 7 (upd (u.2 7) n (nI j))) 8 (upd (u.2 8) n x)))) := hD
            refine lv_aload_n hx hb dX5_claim_96 rfl (lv_at hl 1 rfl) ?_
            refine va_get (D := D) (ci := 5) (v := .ref (a 10)) (C := RX5) (T := TX5) (N := 31) hx hb hts hiX5 hown hK hP 0 rfl rfl 23 (by decide) hw8 (fun _ h9 => h9) rfl dX5_claim_97 ?_
            refine lv_aload_n hx hb dX5_claim_100 rfl (lv_at hl 1 rfl) ?_
            refine va_get (D := D) (ci := 5) (v := .int (u.1 10)) (C := RX5) (T := TX5) (N := 31) hx hb hts hiX5 hown hK hP 0 rfl rfl 25 (by decide) hw5 (fun _ h9 => h9) rfl dX5_claim_101 ?_
            rw [hn]
            refine lv_iconst (v := (-1)) hx hb dX5_claim_104 (by decide) ?_
            refine pg_ist hx hb hK hP hD hS 10 0 rfl rfl (show n < _ by omega) (by decide) dX5_claim_105 (fun H locs hP hD hS => ?_)
            have hP : va_P D vwCl (pg_wM cI cZ a ((upd u.1 15 0), (pg_row (pg_row (pg_row u.2 7 (upd (u.2 7) n (nI j))) 8 (upd (u.2 8) n x)) 9 (upd (u.2 9) n (-1))))) H := hP
            have hD : va_D A (pg_wM cI cZ a ((upd u.1 15 0), (pg_row (pg_row (pg_row u.2 7 (upd (u.2 7) n (nI j))) 8 (upd (u.2 8) n x)) 9 (upd (u.2 9) n (-1))))) := hD
            refine lv_aload_n hx hb dX5_claim_106 rfl (lv_at hl 1 rfl) ?_
            refine va_get (D := D) (ci := 5) (v := .ref (a 11)) (C := RX5) (T := TX5) (N := 31) hx hb hts hiX5 hown hK hP 0 rfl rfl 24 (by decide) hw9 (fun _ h9 => h9) rfl dX5_claim_107 ?_
            refine lv_aload_n hx hb dX5_claim_110 rfl (lv_at hl 1 rfl) ?_
            refine va_get (D := D) (ci := 5) (v := .int (u.1 10)) (C := RX5) (T := TX5) (N := 31) hx hb hts hiX5 hown hK hP 0 rfl rfl 25 (by decide) hw5 (fun _ h9 => h9) rfl dX5_claim_111 ?_
            rw [hn]
            refine lv_iconst (v := (-1)) hx hb dX5_claim_114 (by decide) ?_
            refine pg_ist hx hb hK hP hD hS 11 0 rfl rfl (show n < _ by omega) (by decide) dX5_claim_115 (fun H locs hP hD hS => ?_)
            have hP : va_P D vwCl (pg_wM cI cZ a ((upd u.1 15 0), (pg_row (pg_row (pg_row (pg_row u.2 7 (upd (u.2 7) n (nI j))) 8 (upd (u.2 8) n x)) 9 (upd (u.2 9) n (-1))) 10 (upd (u.2 10) n (-1))))) H := hP
            have hD : va_D A (pg_wM cI cZ a ((upd u.1 15 0), (pg_row (pg_row (pg_row (pg_row u.2 7 (upd (u.2 7) n (nI j))) 8 (upd (u.2 8) n x)) 9 (upd (u.2 9) n (-1))) 10 (upd (u.2 10) n (-1))))) := hD
            refine lv_aload_n hx hb dX5_claim_116 rfl (lv_at hl 1 rfl) ?_
            refine lv_dup hx hb dX5_claim_117 rfl ?_
            refine va_get (D := D) (ci := 5) (v := .int (u.1 10)) (C := RX5) (T := TX5) (N := 31) hx hb hts hiX5 hown hK hP 0 rfl rfl 25 (by decide) hw5 (fun _ h9 => h9) rfl dX5_claim_118 ?_
            rw [hn]
            refine lv_iconst (v := 1) hx hb dX5_claim_121 (by decide) ?_
            refine lv_iadd hx hb dX5_claim_122 ?_
            rw [← nI_succ n]
            refine va_put (D := D) (ci := 5) (v := .int (nI (n + 1))) (ty := .int) (C := RX5) (T := TX5) (N := 31) hx hb hts hiX5 tyX5 tyX5_ok nmX5 hown hK hP hD hS 0 rfl rfl 25 (by decide) hw5 (fun _ h9 => h9) rfl (by decide +kernel) rfl rfl (Nat.le_of_ble_eq_true rfl) dX5_claim_123 (fun H locs hP hD hS => ?_)
            have hP : va_P D vwCl (pg_wM cI cZ a ((upd (upd u.1 15 0) 10 (nI (n + 1))), (pg_row (pg_row (pg_row (pg_row u.2 7 (upd (u.2 7) n (nI j))) 8 (upd (u.2 8) n x)) 9 (upd (u.2 9) n (-1))) 10 (upd (u.2 10) n (-1))))) H := hP
            have hD : va_D A (pg_wM cI cZ a ((upd (upd u.1 15 0) 10 (nI (n + 1))), (pg_row (pg_row (pg_row (pg_row u.2 7 (upd (u.2 7) n (nI j))) 8 (upd (u.2 8) n x)) 9 (upd (u.2 9) n (-1))) 10 (upd (u.2 10) n (-1))))) := hD
            refine lv_aload_n hx hb dX5_claim_126 rfl (lv_at hl 1 rfl) ?_
            refine va_get (D := D) (ci := 5) (v := .int (nI (n + 1))) (C := RX5) (T := TX5) (N := 31) hx hb hts hiX5 hown hK hP 0 rfl rfl 25 (by decide) hw5 (fun _ h9 => h9) rfl dX5_claim_127 ?_
            refine lv_iconst (v := 1) hx hb dX5_claim_130 (by decide) ?_
            refine lv_isub hx hb dX5_claim_131 ?_
            exact W.iret (v := (nI (n + 1)) - 1) hx hb hr (fun t9 ht9 hW9 => ⟨⟨(nI (n + 1)) - 1, ((upd (upd u.1 15 0) 10 (nI (n + 1))), (pg_row (pg_row (pg_row (pg_row u.2 7 (upd (u.2 7) n (nI j))) 8 (upd (u.2 8) n x)) 9 (upd (u.2 9) n (-1))) 10 (upd (u.2 10) n (-1)))), rfl, ⟨by rw [nI_pred], rfl⟩, by rw [ht9]; exact hP, va_K.moved hW9.alike hK, hD⟩, hS.F ht9⟩) hS.2.2 dX5_claim_132
          · have d_60 := (pg_eq20 h20).trans (pg_eq_t c_60)
            refine lv_iconst (v := 3) hx hb dX5_claim_63 (by decide) ?_
            refine lv_goto (tgt := 68) hx hb dX5_claim_64 (by decide) ?_
            exact absurd hthr (by first | (simp only [pg_t_claim, d_3, hcl, c_17, d_38, d_51, d_60, cond_true, cond_false, Bool.not_true, Bool.not_false]; done) | (simp only [pg_t_claim, d_3, hcl, c_17, d_38, d_51, d_60, cond_true, cond_false, Bool.not_true, Bool.not_false]; decide))
    · refine pg_iE (pg_rS (As := [.int x, .int 1, .int 10000000]) (rest := []) ⟨hx, hb, hml, hown, hts⟩ (cm_in_f l D (pg_ty cI cZ) (pg_wM cI cZ a u) H.size x 1 10000000 c_17) (va_cwS 3 hts gX5_claim_X5_in rfl rfl rfl (by decide +kernel) ⟨Nat.le_of_ble_eq_true rfl, Nat.le_of_ble_eq_true rfl⟩) hK hP hD rfl hl.1 rfl (Nat.le_of_ble_eq_true rfl) dX5_claim_17 ⟨Nat.le_of_ble_eq_true rfl, Nat.le_of_ble_eq_true rfl⟩) hD hS hA (fun H locs hP hD hS => ?_)
      refine lv_if_ne (tgt := 27) hx hb dX5_claim_20 (by decide) (fun c_20 => absurd (by decide) c_20) (fun c_20 => ?_)
      refine lv_iconst (v := 2) hx hb dX5_claim_23 (by decide) ?_
      refine lv_goto (tgt := 28) hx hb dX5_claim_24 (by decide) ?_
      refine lv_istore_n (lv' := [(3, .int 2), (0, .ref (a 0)), (1, .int (nI j)), (2, .int x)]) hx hb dX5_claim_28 rfl hl (by decide) rfl (fun ls hl => ?_)
      refine lv_aload_n hx hb dX5_claim_29 rfl (lv_at hl 1 rfl) ?_
      refine lv_iload_n hx hb dX5_claim_30 rfl (lv_at hl 0 rfl) ?_
      refine lv_if_ne (tgt := 67) hx hb dX5_claim_31 (by decide) (fun c_31 => ?_) (fun c_31 => absurd c_31 (by decide))
      refine lv_iload_n hx hb dX5_claim_67 rfl (lv_at hl 0 rfl) ?_
      exact absurd hthr (by first | (simp only [pg_t_claim, d_3, hcl, c_17, cond_true, cond_false, Bool.not_true, Bool.not_false]; done) | (simp only [pg_t_claim, d_3, hcl, c_17, cond_true, cond_false, Bool.not_true, Bool.not_false]; decide))
  · have d_3 : pg_nb k 3 = false := (pg_nb3 k).trans c_3
    refine pg_iE (pg_rS (As := [.int k, .int 0, .int 2]) (rest := []) ⟨hx, hb, hml, hown, hts⟩ (cm_in_f l D (pg_ty cI cZ) (pg_wM cI cZ a u) s.heap.size k 0 2 c_3) (va_cwS 3 hts gX5_claim_X5_in rfl rfl rfl (by decide +kernel) ⟨Nat.le_of_ble_eq_true rfl, Nat.le_of_ble_eq_true rfl⟩) hK hP hD rfl hl.1 rfl (Nat.le_of_ble_eq_true rfl) dX5_claim_3 ⟨Nat.le_of_ble_eq_true rfl, Nat.le_of_ble_eq_true rfl⟩) hD hS hA (fun H locs hP hD hS => ?_)
    refine lv_if_ne (tgt := 13) hx hb dX5_claim_6 (by decide) (fun c_6 => absurd (by decide) c_6) (fun c_6 => ?_)
    refine lv_iconst (v := 1) hx hb dX5_claim_9 (by decide) ?_
    refine lv_goto (tgt := 28) hx hb dX5_claim_10 (by decide) ?_
    refine lv_istore_n (lv' := [(3, .int 1), (0, .ref (a 0)), (1, .int k), (2, .int x)]) hx hb dX5_claim_28 rfl hl (by decide) rfl (fun ls hl => ?_)
    refine lv_aload_n hx hb dX5_claim_29 rfl (lv_at hl 1 rfl) ?_
    refine lv_iload_n hx hb dX5_claim_30 rfl (lv_at hl 0 rfl) ?_
    refine lv_if_ne (tgt := 67) hx hb dX5_claim_31 (by decide) (fun c_31 => ?_) (fun c_31 => absurd c_31 (by decide))
    refine lv_iload_n hx hb dX5_claim_67 rfl (lv_at hl 0 rfl) ?_
    exact absurd hthr (by first | (simp only [pg_t_claim, d_3, cond_true, cond_false, Bool.not_true, Bool.not_false]; done) | (simp only [pg_t_claim, d_3, cond_true, cond_false, Bool.not_true, Bool.not_false]; decide))
set_option maxHeartbeats 4000000 in
set_option maxRecDepth 100000 in
/-- cm_claim: not fine -/
theorem cm_claim_no (l : Launch) (D : va_G) (cI cZ : ClassId) (a : Nat → Nat) (sz : Nat) (u : pg_St) (n : Nat) (hn : u.1 10 = nI n) (h20 : n ≤ 20) (k x : Int32) (e9 : Int32) (hthr : pg_t_claim (!pg_eq (u.1 14) 0) (u.1 3) u.2 (nI n) k x = e9) (h0 : e9 ≠ 0) : Met l yX5_claim wsX5_claim ({ frames := 1, cells := 0, slots := 0, locals := 22 }) (va_Pc [.ref (a 0), .int k, .int x] (pg_B D (pg_ty cI cZ) (pg_wM cI cZ a u) sz)) (va_Qi (fun r u' => r = 0 ∧ u' = (upd u.1 15 e9, u.2)) (pg_E D (pg_ty cI cZ) (va_A (pg_wM cI cZ a u) sz) (pg_wM cI cZ a)) (va_A (pg_wM cI cZ a u) sz)) 0 0 (va_A (pg_wM cI cZ a u) sz) := by
  refine Met.ofW (cc := cX5_claim) (maxL := 4) (ret := (some .int)) (by decide) rfl ?_
  intro p e s m args below meth c s₁ B hml hv
  obtain ⟨rfl, hsz, hP, hK, hD0⟩ := hv
  have hx := B.exec
  have hb := B.bytes
  have hr := B.returns
  have hts := atoms_spec (ws := wsX5_claim) B.pre
  have hown : s.vm.findClass RX5 = some m.cls := findClass_of_methodNamed B.named
  have hlocks := B.notSynchronized
  subst hsz
  have hD := hD0.self (sz := s.heap.size)
  generalize hAe : va_A (pg_wM cI cZ a u) s.heap.size = A at hD ⊢
  have hA : ∀ q : Nat, s.heap.size ≤ q → A q := fun q h => by rw [← hAe]; exact Or.inr h
  have hS : va_S A s.heap s.heap [] := va_S.rf
  have hl := lv_entry ([.ref (a 0), .int k, .int x]) (n := 4) (Nat.le_of_ble_eq_true rfl)
  rw [lg_entry_eq]
  generalize (lg_sl ([.ref (a 0), .int k, .int x]) ++ List.replicate (4 - (lg_sl ([.ref (a 0), .int k, .int x])).length) Slot.unset).toArray = ls at hl ⊢
  have hl : lv_has ls 4 [(0, .ref (a 0)), (1, .int k), (2, .int x)] := hl
  have hiX5 : ∀ w ∈ wsX50, w ∈ wsX5_claim := fun _ h => List.mem_cons_of_mem _ (List.mem_append_right _ (h))
  have hw1 := hts (.constant RX5 60 (10000000)) (List.mem_of_getElem? (i := 1) rfl)
  have hw2 := hts (.fieldLink RX5 66 "PegBoxModel" "closed" "Z") (List.mem_of_getElem? (i := 2) rfl)
  have hw3 := hts (.fieldLink RX5 96 "PegBoxModel" "day" "I") (List.mem_of_getElem? (i := 3) rfl)
  have hw4 := hts (.fieldLink RX5 29 "PegBoxModel" "lastDay" "[I") (List.mem_of_getElem? (i := 4) rfl)
  have hw5 := hts (.fieldLink RX5 99 "PegBoxModel" "claims" "I") (List.mem_of_getElem? (i := 5) rfl)
  refine lv_iload_n hx hb dX5_claim_0 rfl (lv_at hl 1 rfl) ?_
  refine lv_iconst (v := 0) hx hb dX5_claim_1 (by decide) ?_
  refine lv_iconst (v := 2) hx hb dX5_claim_2 (by decide) ?_
  rcases Bool.eq_false_or_eq_true (pg_in k 0 2) with c_3 | c_3
  · have d_3 : pg_nb k 3 = true := (pg_nb3 k).trans c_3
    refine pg_iE (pg_rS (As := [.int k, .int 0, .int 2]) (rest := []) ⟨hx, hb, hml, hown, hts⟩ (cm_in_t l D (pg_ty cI cZ) (pg_wM cI cZ a u) s.heap.size k 0 2 c_3) (va_cwS 3 hts gX5_claim_X5_in rfl rfl rfl (by decide +kernel) ⟨Nat.le_of_ble_eq_true rfl, Nat.le_of_ble_eq_true rfl⟩) hK hP hD rfl hl.1 rfl (Nat.le_of_ble_eq_true rfl) dX5_claim_3 ⟨Nat.le_of_ble_eq_true rfl, Nat.le_of_ble_eq_true rfl⟩) hD hS hA (fun H locs hP hD hS => ?_)
    obtain ⟨j, hj, rfl⟩ := pg_nb_nI (n := 3) (by omega) d_3
    have hcl : (nI j).toNatClampNeg = j := nI_clamp (by omega)
    refine lv_if_ne (tgt := 13) hx hb dX5_claim_6 (by decide) (fun c_6 => ?_) (fun c_6 => absurd c_6 (by decide))
    refine lv_iload_n hx hb dX5_claim_13 rfl (lv_at hl 2 rfl) ?_
    refine lv_iconst (v := 1) hx hb dX5_claim_14 (by decide) ?_
    refine lv_ldc hx hb hown hw1 dX5_claim_15 ?_
    rcases Bool.eq_false_or_eq_true (pg_in x 1 10000000) with c_17 | c_17
    · refine pg_iE (pg_rS (As := [.int x, .int 1, .int 10000000]) (rest := []) ⟨hx, hb, hml, hown, hts⟩ (cm_in_t l D (pg_ty cI cZ) (pg_wM cI cZ a u) H.size x 1 10000000 c_17) (va_cwS 3 hts gX5_claim_X5_in rfl rfl rfl (by decide +kernel) ⟨Nat.le_of_ble_eq_true rfl, Nat.le_of_ble_eq_true rfl⟩) hK hP hD rfl hl.1 rfl (Nat.le_of_ble_eq_true rfl) dX5_claim_17 ⟨Nat.le_of_ble_eq_true rfl, Nat.le_of_ble_eq_true rfl⟩) hD hS hA (fun H locs hP hD hS => ?_)
      refine lv_if_ne (tgt := 27) hx hb dX5_claim_20 (by decide) (fun c_20 => ?_) (fun c_20 => absurd c_20 (by decide))
      refine lv_iconst (v := 0) hx hb dX5_claim_27 (by decide) ?_
      refine lv_istore_n (lv' := [(3, .int 0), (0, .ref (a 0)), (1, .int (nI j)), (2, .int x)]) hx hb dX5_claim_28 rfl hl (by decide) rfl (fun ls hl => ?_)
      refine lv_aload_n hx hb dX5_claim_29 rfl (lv_at hl 1 rfl) ?_
      refine lv_iload_n hx hb dX5_claim_30 rfl (lv_at hl 0 rfl) ?_
      refine lv_if_ne (tgt := 67) hx hb dX5_claim_31 (by decide) (fun c_31 => absurd (by decide) c_31) (fun c_31 => ?_)
      refine lv_aload_n hx hb dX5_claim_34 rfl (lv_at hl 1 rfl) ?_
      refine va_get (D := D) (ci := 5) (v := .int (u.1 14)) (C := RX5) (T := TX5) (N := 31) hx hb hts hiX5 hown hK hP 0 rfl rfl 13 (by decide) hw2 (fun _ h9 => h9) rfl dX5_claim_35 ?_
      refine lv_if_eq (tgt := 63) hx hb dX5_claim_38 (by decide) (fun c_38 => ?_) (fun c_38 => ?_)
      · have d_38 := pg_eq_t c_38
        refine lv_iconst (v := 3) hx hb dX5_claim_63 (by decide) ?_
        refine lv_goto (tgt := 68) hx hb dX5_claim_64 (by decide) ?_
        have he : e9 = 3 := hthr.symm.trans (by simp only [pg_t_claim, d_3, hcl, c_17, d_38, cond_true, cond_false, Bool.not_true, Bool.not_false])
        refine pg_iE (pg_rV (As := [.int 3]) (rest := []) ⟨hx, hb, hml, hown, hts⟩ (cm_fine1 l D cI cZ a H.size u 3 (by decide)) (cwV 1 hts gX5_claim_X5_isFine rfl rfl rfl (by decide +kernel) ⟨Nat.le_of_ble_eq_true rfl, Nat.le_of_ble_eq_true rfl⟩) hK hP hD 0 (ci := 5) rfl rfl rfl rfl hl.1 rfl (Nat.le_of_ble_eq_true rfl) dX5_claim_68 ⟨Nat.le_of_ble_eq_true rfl, Nat.le_of_ble_eq_true rfl⟩) hD hS hA (fun H locs hP hD hS => ?_)
        refine lv_if_ne (tgt := 76) hx hb dX5_claim_71 (by decide) (fun c_71 => absurd (by decide) c_71) (fun c_71 => ?_)
        refine lv_iconst (v := 0) hx hb dX5_claim_74 (by decide) ?_
        exact W.iret (v := 0) hx hb hr (fun t9 ht9 hW9 => ⟨⟨0, ((upd u.1 15 3), u.2), rfl, ⟨rfl, by rw [he]⟩, by rw [ht9]; exact hP, va_K.moved hW9.alike hK, hD⟩, hS.F ht9⟩) hS.2.2 dX5_claim_75
      · have d_38 := pg_eq_f c_38
        refine lv_aload_n hx hb dX5_claim_41 rfl (lv_at hl 1 rfl) ?_
        refine va_get (D := D) (ci := 5) (v := .int (u.1 3)) (C := RX5) (T := TX5) (N := 31) hx hb hts hiX5 hown hK hP 0 rfl rfl 14 (by decide) hw3 (fun _ h9 => h9) rfl dX5_claim_42 ?_
        refine lv_aload_n hx hb dX5_claim_45 rfl (lv_at hl 1 rfl) ?_
        refine va_get (D := D) (ci := 5) (v := .ref (a 7)) (C := RX5) (T := TX5) (N := 31) hx hb hts hiX5 hown hK hP 0 rfl rfl 9 (by decide) hw4 (fun _ h9 => h9) rfl dX5_claim_46 ?_
        refine lv_iload_n hx hb dX5_claim_49 rfl (lv_at hl 2 rfl) ?_
        refine pg_ild (f := u.2 6) hx hb hK hP 7 0 rfl rfl (show j < _ by omega) (by decide) dX5_claim_50 ?_
        refine lv_icmp_gt (tgt := 63) hx hb dX5_claim_51 (by decide) (fun c_51 => ?_) (fun c_51 => ?_)
        · have d_51 := pg_le_f (Int32.not_le.mpr c_51)
          refine lv_iconst (v := 3) hx hb dX5_claim_63 (by decide) ?_
          refine lv_goto (tgt := 68) hx hb dX5_claim_64 (by decide) ?_
          have he : e9 = 3 := hthr.symm.trans (by simp only [pg_t_claim, d_3, hcl, c_17, d_38, d_51, cond_true, cond_false, Bool.not_true, Bool.not_false])
          refine pg_iE (pg_rV (As := [.int 3]) (rest := []) ⟨hx, hb, hml, hown, hts⟩ (cm_fine1 l D cI cZ a H.size u 3 (by decide)) (cwV 1 hts gX5_claim_X5_isFine rfl rfl rfl (by decide +kernel) ⟨Nat.le_of_ble_eq_true rfl, Nat.le_of_ble_eq_true rfl⟩) hK hP hD 0 (ci := 5) rfl rfl rfl rfl hl.1 rfl (Nat.le_of_ble_eq_true rfl) dX5_claim_68 ⟨Nat.le_of_ble_eq_true rfl, Nat.le_of_ble_eq_true rfl⟩) hD hS hA (fun H locs hP hD hS => ?_)
          refine lv_if_ne (tgt := 76) hx hb dX5_claim_71 (by decide) (fun c_71 => absurd (by decide) c_71) (fun c_71 => ?_)
          refine lv_iconst (v := 0) hx hb dX5_claim_74 (by decide) ?_
          exact W.iret (v := 0) hx hb hr (fun t9 ht9 hW9 => ⟨⟨0, ((upd u.1 15 3), u.2), rfl, ⟨rfl, by rw [he]⟩, by rw [ht9]; exact hP, va_K.moved hW9.alike hK, hD⟩, hS.F ht9⟩) hS.2.2 dX5_claim_75
        · have d_51 := pg_le_t (Int32.not_lt.mp c_51)
          refine lv_aload_n hx hb dX5_claim_54 rfl (lv_at hl 1 rfl) ?_
          refine va_get (D := D) (ci := 5) (v := .int (u.1 10)) (C := RX5) (T := TX5) (N := 31) hx hb hts hiX5 hown hK hP 0 rfl rfl 25 (by decide) hw5 (fun _ h9 => h9) rfl dX5_claim_55 ?_
          rw [hn]
          refine lv_bipush (v := 20) hx hb dX5_claim_58 (by decide) ?_
          refine lv_icmp_ne (tgt := 67) hx hb dX5_claim_60 (by decide) (fun c_60 => ?_) (fun c_60 => ?_)
          · have d_60 := (pg_eq20 h20).trans (pg_eq_f c_60)
            refine lv_iload_n hx hb dX5_claim_67 rfl (lv_at hl 0 rfl) ?_
            exact absurd (hthr.symm.trans (by simp only [pg_t_claim, d_3, hcl, c_17, d_38, d_51, d_60, cond_true, cond_false, Bool.not_true, Bool.not_false])) h0
          · have d_60 := (pg_eq20 h20).trans (pg_eq_t c_60)
            refine lv_iconst (v := 3) hx hb dX5_claim_63 (by decide) ?_
            refine lv_goto (tgt := 68) hx hb dX5_claim_64 (by decide) ?_
            have he : e9 = 3 := hthr.symm.trans (by simp only [pg_t_claim, d_3, hcl, c_17, d_38, d_51, d_60, cond_true, cond_false, Bool.not_true, Bool.not_false])
            refine pg_iE (pg_rV (As := [.int 3]) (rest := []) ⟨hx, hb, hml, hown, hts⟩ (cm_fine1 l D cI cZ a H.size u 3 (by decide)) (cwV 1 hts gX5_claim_X5_isFine rfl rfl rfl (by decide +kernel) ⟨Nat.le_of_ble_eq_true rfl, Nat.le_of_ble_eq_true rfl⟩) hK hP hD 0 (ci := 5) rfl rfl rfl rfl hl.1 rfl (Nat.le_of_ble_eq_true rfl) dX5_claim_68 ⟨Nat.le_of_ble_eq_true rfl, Nat.le_of_ble_eq_true rfl⟩) hD hS hA (fun H locs hP hD hS => ?_)
            refine lv_if_ne (tgt := 76) hx hb dX5_claim_71 (by decide) (fun c_71 => absurd (by decide) c_71) (fun c_71 => ?_)
            refine lv_iconst (v := 0) hx hb dX5_claim_74 (by decide) ?_
            exact W.iret (v := 0) hx hb hr (fun t9 ht9 hW9 => ⟨⟨0, ((upd u.1 15 3), u.2), rfl, ⟨rfl, by rw [he]⟩, by rw [ht9]; exact hP, va_K.moved hW9.alike hK, hD⟩, hS.F ht9⟩) hS.2.2 dX5_claim_75
    · refine pg_iE (pg_rS (As := [.int x, .int 1, .int 10000000]) (rest := []) ⟨hx, hb, hml, hown, hts⟩ (cm_in_f l D (pg_ty cI cZ) (pg_wM cI cZ a u) H.size x 1 10000000 c_17) (va_cwS 3 hts gX5_claim_X5_in rfl rfl rfl (by decide +kernel) ⟨Nat.le_of_ble_eq_true rfl, Nat.le_of_ble_eq_true rfl⟩) hK hP hD rfl hl.1 rfl (Nat.le_of_ble_eq_true rfl) dX5_claim_17 ⟨Nat.le_of_ble_eq_true rfl, Nat.le_of_ble_eq_true rfl⟩) hD hS hA (fun H locs hP hD hS => ?_)
      refine lv_if_ne (tgt := 27) hx hb dX5_claim_20 (by decide) (fun c_20 => absurd (by decide) c_20) (fun c_20 => ?_)
      refine lv_iconst (v := 2) hx hb dX5_claim_23 (by decide) ?_
      refine lv_goto (tgt := 28) hx hb dX5_claim_24 (by decide) ?_
      refine lv_istore_n (lv' := [(3, .int 2), (0, .ref (a 0)), (1, .int (nI j)), (2, .int x)]) hx hb dX5_claim_28 rfl hl (by decide) rfl (fun ls hl => ?_)
      refine lv_aload_n hx hb dX5_claim_29 rfl (lv_at hl 1 rfl) ?_
      refine lv_iload_n hx hb dX5_claim_30 rfl (lv_at hl 0 rfl) ?_
      refine lv_if_ne (tgt := 67) hx hb dX5_claim_31 (by decide) (fun c_31 => ?_) (fun c_31 => absurd c_31 (by decide))
      refine lv_iload_n hx hb dX5_claim_67 rfl (lv_at hl 0 rfl) ?_
      have he : e9 = 2 := hthr.symm.trans (by simp only [pg_t_claim, d_3, hcl, c_17, cond_true, cond_false, Bool.not_true, Bool.not_false])
      refine pg_iE (pg_rV (As := [.int 2]) (rest := []) ⟨hx, hb, hml, hown, hts⟩ (cm_fine1 l D cI cZ a H.size u 2 (by decide)) (cwV 1 hts gX5_claim_X5_isFine rfl rfl rfl (by decide +kernel) ⟨Nat.le_of_ble_eq_true rfl, Nat.le_of_ble_eq_true rfl⟩) hK hP hD 0 (ci := 5) rfl rfl rfl rfl hl.1 rfl (Nat.le_of_ble_eq_true rfl) dX5_claim_68 ⟨Nat.le_of_ble_eq_true rfl, Nat.le_of_ble_eq_true rfl⟩) hD hS hA (fun H locs hP hD hS => ?_)
      refine lv_if_ne (tgt := 76) hx hb dX5_claim_71 (by decide) (fun c_71 => absurd (by decide) c_71) (fun c_71 => ?_)
      refine lv_iconst (v := 0) hx hb dX5_claim_74 (by decide) ?_
      exact W.iret (v := 0) hx hb hr (fun t9 ht9 hW9 => ⟨⟨0, ((upd u.1 15 2), u.2), rfl, ⟨rfl, by rw [he]⟩, by rw [ht9]; exact hP, va_K.moved hW9.alike hK, hD⟩, hS.F ht9⟩) hS.2.2 dX5_claim_75
  · have d_3 : pg_nb k 3 = false := (pg_nb3 k).trans c_3
    refine pg_iE (pg_rS (As := [.int k, .int 0, .int 2]) (rest := []) ⟨hx, hb, hml, hown, hts⟩ (cm_in_f l D (pg_ty cI cZ) (pg_wM cI cZ a u) s.heap.size k 0 2 c_3) (va_cwS 3 hts gX5_claim_X5_in rfl rfl rfl (by decide +kernel) ⟨Nat.le_of_ble_eq_true rfl, Nat.le_of_ble_eq_true rfl⟩) hK hP hD rfl hl.1 rfl (Nat.le_of_ble_eq_true rfl) dX5_claim_3 ⟨Nat.le_of_ble_eq_true rfl, Nat.le_of_ble_eq_true rfl⟩) hD hS hA (fun H locs hP hD hS => ?_)
    refine lv_if_ne (tgt := 13) hx hb dX5_claim_6 (by decide) (fun c_6 => absurd (by decide) c_6) (fun c_6 => ?_)
    refine lv_iconst (v := 1) hx hb dX5_claim_9 (by decide) ?_
    refine lv_goto (tgt := 28) hx hb dX5_claim_10 (by decide) ?_
    refine lv_istore_n (lv' := [(3, .int 1), (0, .ref (a 0)), (1, .int k), (2, .int x)]) hx hb dX5_claim_28 rfl hl (by decide) rfl (fun ls hl => ?_)
    refine lv_aload_n hx hb dX5_claim_29 rfl (lv_at hl 1 rfl) ?_
    refine lv_iload_n hx hb dX5_claim_30 rfl (lv_at hl 0 rfl) ?_
    refine lv_if_ne (tgt := 67) hx hb dX5_claim_31 (by decide) (fun c_31 => ?_) (fun c_31 => absurd c_31 (by decide))
    refine lv_iload_n hx hb dX5_claim_67 rfl (lv_at hl 0 rfl) ?_
    have he : e9 = 1 := hthr.symm.trans (by simp only [pg_t_claim, d_3, cond_true, cond_false, Bool.not_true, Bool.not_false])
    refine pg_iE (pg_rV (As := [.int 1]) (rest := []) ⟨hx, hb, hml, hown, hts⟩ (cm_fine1 l D cI cZ a H.size u 1 (by decide)) (cwV 1 hts gX5_claim_X5_isFine rfl rfl rfl (by decide +kernel) ⟨Nat.le_of_ble_eq_true rfl, Nat.le_of_ble_eq_true rfl⟩) hK hP hD 0 (ci := 5) rfl rfl rfl rfl hl.1 rfl (Nat.le_of_ble_eq_true rfl) dX5_claim_68 ⟨Nat.le_of_ble_eq_true rfl, Nat.le_of_ble_eq_true rfl⟩) hD hS hA (fun H locs hP hD hS => ?_)
    refine lv_if_ne (tgt := 76) hx hb dX5_claim_71 (by decide) (fun c_71 => absurd (by decide) c_71) (fun c_71 => ?_)
    refine lv_iconst (v := 0) hx hb dX5_claim_74 (by decide) ?_
    exact W.iret (v := 0) hx hb hr (fun t9 ht9 hW9 => ⟨⟨0, ((upd u.1 15 1), u.2), rfl, ⟨rfl, by rw [he]⟩, by rw [ht9]; exact hP, va_K.moved hW9.alike hK, hD⟩, hS.F ht9⟩) hS.2.2 dX5_claim_75
set_option maxHeartbeats 4000000 in
set_option maxRecDepth 100000 in
theorem cm_isClaim_t (l : Launch) (D : va_G) (cI cZ : ClassId) (a : Nat → Nat) (sz : Nat) (u : pg_St) (n : Nat) (hn : u.1 10 = nI n) (h20 : n ≤ 20) (x : Int32) (h : pg_nb x (nI n) = true) : Met l yX5_isClaim wsX5_isClaim ({ frames := 1, cells := 0, slots := 0, locals := 22 }) (va_Pc [.ref (a 0), .int x] (pg_B D (pg_ty cI cZ) (pg_wM cI cZ a u) sz)) (va_Qi (fun r u' => r = 1 ∧ u' = u) (pg_E D (pg_ty cI cZ) (va_A (pg_wM cI cZ a u) sz) (pg_wM cI cZ a)) (va_A (pg_wM cI cZ a u) sz)) 0 0 (va_A (pg_wM cI cZ a u) sz) := by
  refine Met.ofW (cc := cX5_isClaim) (maxL := 2) (ret := (some .boolean)) (by decide) rfl ?_
  intro p e s m args below meth c s₁ B hml hv
  obtain ⟨rfl, hsz, hP, hK, hD0⟩ := hv
  have hx := B.exec
  have hb := B.bytes
  have hr := B.returns
  have hts := atoms_spec (ws := wsX5_isClaim) B.pre
  have hown : s.vm.findClass RX5 = some m.cls := findClass_of_methodNamed B.named
  have hlocks := B.notSynchronized
  subst hsz
  have hD := hD0.self (sz := s.heap.size)
  generalize hAe : va_A (pg_wM cI cZ a u) s.heap.size = A at hD ⊢
  have hA : ∀ q : Nat, s.heap.size ≤ q → A q := fun q h => by rw [← hAe]; exact Or.inr h
  have hS : va_S A s.heap s.heap [] := va_S.rf
  have hl := lv_entry ([.ref (a 0), .int x]) (n := 2) (Nat.le_of_ble_eq_true rfl)
  rw [lg_entry_eq]
  generalize (lg_sl ([.ref (a 0), .int x]) ++ List.replicate (2 - (lg_sl ([.ref (a 0), .int x])).length) Slot.unset).toArray = ls at hl ⊢
  have hl : lv_has ls 2 [(0, .ref (a 0)), (1, .int x)] := hl
  have hiX5 : ∀ w ∈ wsX50, w ∈ wsX5_isClaim := fun _ h => List.mem_cons_of_mem _ (List.mem_append_right _ (h))
  have hw1 := hts (.fieldLink RX5 99 "PegBoxModel" "claims" "I") (List.mem_of_getElem? (i := 1) rfl)
  refine lv_iload_n hx hb dX5_isClaim_0 rfl (lv_at hl 1 rfl) ?_
  refine lv_iconst (v := 0) hx hb dX5_isClaim_1 (by decide) ?_
  refine lv_aload_n hx hb dX5_isClaim_2 rfl (lv_at hl 0 rfl) ?_
  refine va_get (D := D) (ci := 5) (v := .int (u.1 10)) (C := RX5) (T := TX5) (N := 31) hx hb hts hiX5 hown hK hP 0 rfl rfl 25 (by decide) hw1 (fun _ h9 => h9) rfl dX5_isClaim_3 ?_
  rw [hn]
  refine lv_iconst (v := 1) hx hb dX5_isClaim_6 (by decide) ?_
  refine lv_isub hx hb dX5_isClaim_7 ?_
  refine pg_iE (pg_rS (As := [.int x, .int 0, .int ((nI n) - 1)]) (rest := []) ⟨hx, hb, hml, hown, hts⟩ (cm_in_t l D (pg_ty cI cZ) (pg_wM cI cZ a u) s.heap.size x 0 (nI n - 1) ((pg_clm x h20).symm.trans h)) (va_cwS 3 hts gX5_isClaim_X5_in rfl rfl rfl (by decide +kernel) ⟨Nat.le_of_ble_eq_true rfl, Nat.le_of_ble_eq_true rfl⟩) hK hP hD rfl hl.1 rfl (Nat.le_of_ble_eq_true rfl) dX5_isClaim_8 ⟨Nat.le_of_ble_eq_true rfl, Nat.le_of_ble_eq_true rfl⟩) hD hS hA (fun H locs hP hD hS => ?_)
  exact W.zret (v := 1) hx hb hr rfl (fun t9 ht9 hW9 => ⟨⟨1, u, rfl, ⟨rfl, rfl⟩, by rw [ht9]; exact hP, va_K.moved hW9.alike hK, hD⟩, hS.F ht9⟩) hS.2.2 dX5_isClaim_11
set_option maxHeartbeats 4000000 in
set_option maxRecDepth 100000 in
theorem cm_isClaim_f (l : Launch) (D : va_G) (cI cZ : ClassId) (a : Nat → Nat) (sz : Nat) (u : pg_St) (n : Nat) (hn : u.1 10 = nI n) (h20 : n ≤ 20) (x : Int32) (h : pg_nb x (nI n) = false) : Met l yX5_isClaim wsX5_isClaim ({ frames := 1, cells := 0, slots := 0, locals := 22 }) (va_Pc [.ref (a 0), .int x] (pg_B D (pg_ty cI cZ) (pg_wM cI cZ a u) sz)) (va_Qi (fun r u' => r = 0 ∧ u' = u) (pg_E D (pg_ty cI cZ) (va_A (pg_wM cI cZ a u) sz) (pg_wM cI cZ a)) (va_A (pg_wM cI cZ a u) sz)) 0 0 (va_A (pg_wM cI cZ a u) sz) := by
  refine Met.ofW (cc := cX5_isClaim) (maxL := 2) (ret := (some .boolean)) (by decide) rfl ?_
  intro p e s m args below meth c s₁ B hml hv
  obtain ⟨rfl, hsz, hP, hK, hD0⟩ := hv
  have hx := B.exec
  have hb := B.bytes
  have hr := B.returns
  have hts := atoms_spec (ws := wsX5_isClaim) B.pre
  have hown : s.vm.findClass RX5 = some m.cls := findClass_of_methodNamed B.named
  have hlocks := B.notSynchronized
  subst hsz
  have hD := hD0.self (sz := s.heap.size)
  generalize hAe : va_A (pg_wM cI cZ a u) s.heap.size = A at hD ⊢
  have hA : ∀ q : Nat, s.heap.size ≤ q → A q := fun q h => by rw [← hAe]; exact Or.inr h
  have hS : va_S A s.heap s.heap [] := va_S.rf
  have hl := lv_entry ([.ref (a 0), .int x]) (n := 2) (Nat.le_of_ble_eq_true rfl)
  rw [lg_entry_eq]
  generalize (lg_sl ([.ref (a 0), .int x]) ++ List.replicate (2 - (lg_sl ([.ref (a 0), .int x])).length) Slot.unset).toArray = ls at hl ⊢
  have hl : lv_has ls 2 [(0, .ref (a 0)), (1, .int x)] := hl
  have hiX5 : ∀ w ∈ wsX50, w ∈ wsX5_isClaim := fun _ h => List.mem_cons_of_mem _ (List.mem_append_right _ (h))
  have hw1 := hts (.fieldLink RX5 99 "PegBoxModel" "claims" "I") (List.mem_of_getElem? (i := 1) rfl)
  refine lv_iload_n hx hb dX5_isClaim_0 rfl (lv_at hl 1 rfl) ?_
  refine lv_iconst (v := 0) hx hb dX5_isClaim_1 (by decide) ?_
  refine lv_aload_n hx hb dX5_isClaim_2 rfl (lv_at hl 0 rfl) ?_
  refine va_get (D := D) (ci := 5) (v := .int (u.1 10)) (C := RX5) (T := TX5) (N := 31) hx hb hts hiX5 hown hK hP 0 rfl rfl 25 (by decide) hw1 (fun _ h9 => h9) rfl dX5_isClaim_3 ?_
  rw [hn]
  refine lv_iconst (v := 1) hx hb dX5_isClaim_6 (by decide) ?_
  refine lv_isub hx hb dX5_isClaim_7 ?_
  refine pg_iE (pg_rS (As := [.int x, .int 0, .int ((nI n) - 1)]) (rest := []) ⟨hx, hb, hml, hown, hts⟩ (cm_in_f l D (pg_ty cI cZ) (pg_wM cI cZ a u) s.heap.size x 0 (nI n - 1) ((pg_clm x h20).symm.trans h)) (va_cwS 3 hts gX5_isClaim_X5_in rfl rfl rfl (by decide +kernel) ⟨Nat.le_of_ble_eq_true rfl, Nat.le_of_ble_eq_true rfl⟩) hK hP hD rfl hl.1 rfl (Nat.le_of_ble_eq_true rfl) dX5_isClaim_8 ⟨Nat.le_of_ble_eq_true rfl, Nat.le_of_ble_eq_true rfl⟩) hD hS hA (fun H locs hP hD hS => ?_)
  exact W.zret (v := 0) hx hb hr rfl (fun t9 ht9 hW9 => ⟨⟨0, u, rfl, ⟨rfl, rfl⟩, by rw [ht9]; exact hP, va_K.moved hW9.alike hK, hD⟩, hS.F ht9⟩) hS.2.2 dX5_isClaim_11
set_option maxHeartbeats 4000000 in
set_option maxRecDepth 100000 in
/-- cm_offer: fine -/
theorem cm_offer_ok (l : Launch) (D : va_G) (cI cZ : ClassId) (a : Nat → Nat) (sz : Nat) (u : pg_St) (n : Nat) (hn : u.1 10 = nI n) (h20 : n ≤ 20) (k x : Int32) (hthr : pg_t_offer u.2 (nI n) k x = 0) : Met l yX5_offer wsX5_offer ({ frames := 2, cells := 0, slots := 0, locals := 43 }) (va_Pc [.ref (a 0), .int k, .int x] (pg_B D (pg_ty cI cZ) (pg_wM cI cZ a u) sz)) (va_Qi (fun r u' => r = u.2 9 k.toNatClampNeg ∧ u' = (upd u.1 15 0, pg_row u.2 9 (upd (u.2 9) k.toNatClampNeg x))) (pg_E D (pg_ty cI cZ) (va_A (pg_wM cI cZ a u) sz) (pg_wM cI cZ a)) (va_A (pg_wM cI cZ a u) sz)) 0 0 (va_A (pg_wM cI cZ a u) sz) := by
  refine Met.ofW (cc := cX5_offer) (maxL := 5) (ret := (some .int)) (by decide) rfl ?_
  intro p e s m args below meth c s₁ B hml hv
  obtain ⟨rfl, hsz, hP, hK, hD0⟩ := hv
  have hx := B.exec
  have hb := B.bytes
  have hr := B.returns
  have hts := atoms_spec (ws := wsX5_offer) B.pre
  have hown : s.vm.findClass RX5 = some m.cls := findClass_of_methodNamed B.named
  have hlocks := B.notSynchronized
  subst hsz
  have hD := hD0.self (sz := s.heap.size)
  generalize hAe : va_A (pg_wM cI cZ a u) s.heap.size = A at hD ⊢
  have hA : ∀ q : Nat, s.heap.size ≤ q → A q := fun q h => by rw [← hAe]; exact Or.inr h
  have hS : va_S A s.heap s.heap [] := va_S.rf
  have hl := lv_entry ([.ref (a 0), .int k, .int x]) (n := 5) (Nat.le_of_ble_eq_true rfl)
  rw [lg_entry_eq]
  generalize (lg_sl ([.ref (a 0), .int k, .int x]) ++ List.replicate (5 - (lg_sl ([.ref (a 0), .int k, .int x])).length) Slot.unset).toArray = ls at hl ⊢
  have hl : lv_has ls 5 [(0, .ref (a 0)), (1, .int k), (2, .int x)] := hl
  have hiX5 : ∀ w ∈ wsX50, w ∈ wsX5_offer := fun _ h => List.mem_cons_of_mem _ (List.mem_append_right _ (h))
  have hw1 := hts (.fieldLink RX5 47 "PegBoxModel" "settled" "[I") (List.mem_of_getElem? (i := 1) rfl)
  have hw2 := hts (.fieldLink RX5 41 "PegBoxModel" "amount" "[I") (List.mem_of_getElem? (i := 2) rfl)
  have hw3 := hts (.fieldLink RX5 44 "PegBoxModel" "offered" "[I") (List.mem_of_getElem? (i := 3) rfl)
  refine lv_aload_n hx hb dX5_offer_0 rfl (lv_at hl 0 rfl) ?_
  refine lv_iload_n hx hb dX5_offer_1 rfl (lv_at hl 1 rfl) ?_
  rcases Bool.eq_false_or_eq_true (pg_nb k (nI n)) with c_2 | c_2
  · refine pg_iE (pg_rV (As := [.int k]) (rest := []) ⟨hx, hb, hml, hown, hts⟩ (cm_isClaim_t l D cI cZ a s.heap.size u n hn h20 k c_2) (cwV 1 hts gX5_offer_X5_isClaim rfl rfl rfl (by decide +kernel) ⟨Nat.le_of_ble_eq_true rfl, Nat.le_of_ble_eq_true rfl⟩) hK hP hD 0 (ci := 5) rfl rfl rfl rfl hl.1 rfl (Nat.le_of_ble_eq_true rfl) dX5_offer_2 ⟨Nat.le_of_ble_eq_true rfl, Nat.le_of_ble_eq_true rfl⟩) hD hS hA (fun H locs hP hD hS => ?_)
    obtain ⟨j, hj, rfl⟩ := pg_nb_nI (n := n) (by omega) c_2
    have hcl : (nI j).toNatClampNeg = j := nI_clamp (by omega)
    refine lv_if_ne (tgt := 12) hx hb dX5_offer_5 (by decide) (fun c_5 => ?_) (fun c_5 => absurd c_5 (by decide))
    refine lv_aload_n hx hb dX5_offer_12 rfl (lv_at hl 0 rfl) ?_
    refine va_get (D := D) (ci := 5) (v := .ref (a 11)) (C := RX5) (T := TX5) (N := 31) hx hb hts hiX5 hown hK hP 0 rfl rfl 24 (by decide) hw1 (fun _ h9 => h9) rfl dX5_offer_13 ?_
    refine lv_iload_n hx hb dX5_offer_16 rfl (lv_at hl 1 rfl) ?_
    refine pg_ild (f := u.2 10) hx hb hK hP 11 0 rfl rfl (show j < _ by omega) (by decide) dX5_offer_17 ?_
    refine lv_iconst (v := (-1)) hx hb dX5_offer_18 (by decide) ?_
    refine lv_icmp_eq (tgt := 26) hx hb dX5_offer_19 (by decide) (fun c_19 => ?_) (fun c_19 => ?_)
    · have d_19 := pg_eq_t c_19
      refine lv_iload_n hx hb dX5_offer_26 rfl (lv_at hl 2 rfl) ?_
      refine lv_iconst (v := 0) hx hb dX5_offer_27 (by decide) ?_
      refine lv_aload_n hx hb dX5_offer_28 rfl (lv_at hl 0 rfl) ?_
      refine va_get (D := D) (ci := 5) (v := .ref (a 9)) (C := RX5) (T := TX5) (N := 31) hx hb hts hiX5 hown hK hP 0 rfl rfl 22 (by decide) hw2 (fun _ h9 => h9) rfl dX5_offer_29 ?_
      refine lv_iload_n hx hb dX5_offer_32 rfl (lv_at hl 1 rfl) ?_
      refine pg_ild (f := u.2 8) hx hb hK hP 9 0 rfl rfl (show j < _ by omega) (by decide) dX5_offer_33 ?_
      rcases Bool.eq_false_or_eq_true (pg_in x 0 (u.2 8 j)) with c_34 | c_34
      · refine pg_iE (pg_rS (As := [.int x, .int 0, .int (u.2 8 j)]) (rest := []) ⟨hx, hb, hml, hown, hts⟩ (cm_in_t l D (pg_ty cI cZ) (pg_wM cI cZ a u) H.size x 0 (u.2 8 j) c_34) (va_cwS 3 hts gX5_offer_X5_in rfl rfl rfl (by decide +kernel) ⟨Nat.le_of_ble_eq_true rfl, Nat.le_of_ble_eq_true rfl⟩) hK hP hD rfl hl.1 rfl (Nat.le_of_ble_eq_true rfl) dX5_offer_34 ⟨Nat.le_of_ble_eq_true rfl, Nat.le_of_ble_eq_true rfl⟩) hD hS hA (fun H locs hP hD hS => ?_)
        refine lv_if_ne (tgt := 44) hx hb dX5_offer_37 (by decide) (fun c_37 => ?_) (fun c_37 => absurd c_37 (by decide))
        refine lv_iconst (v := 0) hx hb dX5_offer_44 (by decide) ?_
        refine lv_istore_n (lv' := [(3, .int 0), (0, .ref (a 0)), (1, .int (nI j)), (2, .int x)]) hx hb dX5_offer_45 rfl hl (by decide) rfl (fun ls hl => ?_)
        refine lv_aload_n hx hb dX5_offer_46 rfl (lv_at hl 1 rfl) ?_
        refine lv_iload_n hx hb dX5_offer_47 rfl (lv_at hl 0 rfl) ?_
        refine pg_iE (pg_rV (As := [.int 0]) (rest := []) ⟨hx, hb, hml, hown, hts⟩ (cm_fine0 l D cI cZ a H.size u) (cwV 1 hts gX5_offer_X5_isFine rfl rfl rfl (by decide +kernel) ⟨Nat.le_of_ble_eq_true rfl, Nat.le_of_ble_eq_true rfl⟩) hK hP hD 0 (ci := 5) rfl rfl rfl rfl hl.1 rfl (Nat.le_of_ble_eq_true rfl) dX5_offer_48 ⟨Nat.le_of_ble_eq_true rfl, Nat.le_of_ble_eq_true rfl⟩) hD hS hA (fun H locs hP hD hS => ?_)
        refine lv_if_ne (tgt := 56) hx hb dX5_offer_51 (by decide) (fun c_51 => ?_) (fun c_51 => absurd c_51 (by decide))
        refine lv_aload_n hx hb dX5_offer_56 rfl (lv_at hl 1 rfl) ?_
        refine va_get (D := D) (ci := 5) (v := .ref (a 10)) (C := RX5) (T := TX5) (N := 31) hx hb hts hiX5 hown hK hP 0 rfl rfl 23 (by decide) hw3 (fun _ h9 => h9) rfl dX5_offer_57 ?_
        refine lv_iload_n hx hb dX5_offer_60 rfl (lv_at hl 2 rfl) ?_
        refine pg_ild (f := u.2 9) hx hb hK hP 10 0 rfl rfl (show j < _ by omega) (by decide) dX5_offer_61 ?_
        refine lv_istore (lv' := [(4, .int (u.2 9 j)), (3, .int 0), (0, .ref (a 0)), (1, .int (nI j)), (2, .int x)]) hx hb dX5_offer_62 hl (by decide) rfl (fun ls hl => ?_)
        refine lv_aload_n hx hb dX5_offer_64 rfl (lv_at hl 2 rfl) ?_
        refine va_get (D := D) (ci := 5) (v := .ref (a 10)) (C := RX5) (T := TX5) (N := 31) hx hb hts hiX5 hown hK hP 0 rfl rfl 23 (by decide) hw3 (fun _ h9 => h9) rfl dX5_offer_65 ?_
        refine lv_iload_n hx hb dX5_offer_68 rfl (lv_at hl 3 rfl) ?_
        refine lv_iload_n hx hb dX5_offer_69 rfl (lv_at hl 4 rfl) ?_
        refine pg_ist hx hb hK hP hD hS 10 0 rfl rfl (show j < _ by omega) (by decide) dX5_offer_70 (fun H locs hP hD hS => ?_)
        have hP : va_P D vwCl (pg_wM cI cZ a ((upd u.1 15 0), (pg_row u.2 9 (upd (u.2 9) j x)))) H := hP
        have hD : va_D A (pg_wM cI cZ a ((upd u.1 15 0), (pg_row u.2 9 (upd (u.2 9) j x)))) := hD
        refine lv_iload hx hb dX5_offer_71 (lv_at hl 0 rfl) ?_
        exact W.iret (v := u.2 9 j) hx hb hr (fun t9 ht9 hW9 => ⟨⟨u.2 9 j, ((upd u.1 15 0), (pg_row u.2 9 (upd (u.2 9) j x))), rfl, ⟨by rw [hcl], by rw [hcl]⟩, by rw [ht9]; exact hP, va_K.moved hW9.alike hK, hD⟩, hS.F ht9⟩) hS.2.2 dX5_offer_73
      · refine pg_iE (pg_rS (As := [.int x, .int 0, .int (u.2 8 j)]) (rest := []) ⟨hx, hb, hml, hown, hts⟩ (cm_in_f l D (pg_ty cI cZ) (pg_wM cI cZ a u) H.size x 0 (u.2 8 j) c_34) (va_cwS 3 hts gX5_offer_X5_in rfl rfl rfl (by decide +kernel) ⟨Nat.le_of_ble_eq_true rfl, Nat.le_of_ble_eq_true rfl⟩) hK hP hD rfl hl.1 rfl (Nat.le_of_ble_eq_true rfl) dX5_offer_34 ⟨Nat.le_of_ble_eq_true rfl, Nat.le_of_ble_eq_true rfl⟩) hD hS hA (fun H locs hP hD hS => ?_)
        refine lv_if_ne (tgt := 44) hx hb dX5_offer_37 (by decide) (fun c_37 => absurd (by decide) c_37) (fun c_37 => ?_)
        refine lv_iconst (v := 3) hx hb dX5_offer_40 (by decide) ?_
        refine lv_goto (tgt := 45) hx hb dX5_offer_41 (by decide) ?_
        refine lv_istore_n (lv' := [(3, .int 3), (0, .ref (a 0)), (1, .int (nI j)), (2, .int x)]) hx hb dX5_offer_45 rfl hl (by decide) rfl (fun ls hl => ?_)
        refine lv_aload_n hx hb dX5_offer_46 rfl (lv_at hl 1 rfl) ?_
        refine lv_iload_n hx hb dX5_offer_47 rfl (lv_at hl 0 rfl) ?_
        exact absurd hthr (by first | (simp only [pg_t_offer, c_2, hcl, d_19, c_34, cond_true, cond_false, Bool.not_true, Bool.not_false]; done) | (simp only [pg_t_offer, c_2, hcl, d_19, c_34, cond_true, cond_false, Bool.not_true, Bool.not_false]; decide))
    · have d_19 := pg_eq_f c_19
      refine lv_iconst (v := 2) hx hb dX5_offer_22 (by decide) ?_
      refine lv_goto (tgt := 45) hx hb dX5_offer_23 (by decide) ?_
      refine lv_istore_n (lv' := [(3, .int 2), (0, .ref (a 0)), (1, .int (nI j)), (2, .int x)]) hx hb dX5_offer_45 rfl hl (by decide) rfl (fun ls hl => ?_)
      refine lv_aload_n hx hb dX5_offer_46 rfl (lv_at hl 1 rfl) ?_
      refine lv_iload_n hx hb dX5_offer_47 rfl (lv_at hl 0 rfl) ?_
      exact absurd hthr (by first | (simp only [pg_t_offer, c_2, hcl, d_19, cond_true, cond_false, Bool.not_true, Bool.not_false]; done) | (simp only [pg_t_offer, c_2, hcl, d_19, cond_true, cond_false, Bool.not_true, Bool.not_false]; decide))
  · refine pg_iE (pg_rV (As := [.int k]) (rest := []) ⟨hx, hb, hml, hown, hts⟩ (cm_isClaim_f l D cI cZ a s.heap.size u n hn h20 k c_2) (cwV 1 hts gX5_offer_X5_isClaim rfl rfl rfl (by decide +kernel) ⟨Nat.le_of_ble_eq_true rfl, Nat.le_of_ble_eq_true rfl⟩) hK hP hD 0 (ci := 5) rfl rfl rfl rfl hl.1 rfl (Nat.le_of_ble_eq_true rfl) dX5_offer_2 ⟨Nat.le_of_ble_eq_true rfl, Nat.le_of_ble_eq_true rfl⟩) hD hS hA (fun H locs hP hD hS => ?_)
    refine lv_if_ne (tgt := 12) hx hb dX5_offer_5 (by decide) (fun c_5 => absurd (by decide) c_5) (fun c_5 => ?_)
    refine lv_iconst (v := 1) hx hb dX5_offer_8 (by decide) ?_
    refine lv_goto (tgt := 45) hx hb dX5_offer_9 (by decide) ?_
    refine lv_istore_n (lv' := [(3, .int 1), (0, .ref (a 0)), (1, .int k), (2, .int x)]) hx hb dX5_offer_45 rfl hl (by decide) rfl (fun ls hl => ?_)
    refine lv_aload_n hx hb dX5_offer_46 rfl (lv_at hl 1 rfl) ?_
    refine lv_iload_n hx hb dX5_offer_47 rfl (lv_at hl 0 rfl) ?_
    exact absurd hthr (by first | (simp only [pg_t_offer, c_2, cond_true, cond_false, Bool.not_true, Bool.not_false]; done) | (simp only [pg_t_offer, c_2, cond_true, cond_false, Bool.not_true, Bool.not_false]; decide))
set_option maxHeartbeats 4000000 in
set_option maxRecDepth 100000 in
/-- cm_offer: not fine -/
theorem cm_offer_no (l : Launch) (D : va_G) (cI cZ : ClassId) (a : Nat → Nat) (sz : Nat) (u : pg_St) (n : Nat) (hn : u.1 10 = nI n) (h20 : n ≤ 20) (k x : Int32) (e9 : Int32) (hthr : pg_t_offer u.2 (nI n) k x = e9) (h0 : e9 ≠ 0) : Met l yX5_offer wsX5_offer ({ frames := 2, cells := 0, slots := 0, locals := 43 }) (va_Pc [.ref (a 0), .int k, .int x] (pg_B D (pg_ty cI cZ) (pg_wM cI cZ a u) sz)) (va_Qi (fun r u' => r = 0 ∧ u' = (upd u.1 15 e9, u.2)) (pg_E D (pg_ty cI cZ) (va_A (pg_wM cI cZ a u) sz) (pg_wM cI cZ a)) (va_A (pg_wM cI cZ a u) sz)) 0 0 (va_A (pg_wM cI cZ a u) sz) := by
  refine Met.ofW (cc := cX5_offer) (maxL := 5) (ret := (some .int)) (by decide) rfl ?_
  intro p e s m args below meth c s₁ B hml hv
  obtain ⟨rfl, hsz, hP, hK, hD0⟩ := hv
  have hx := B.exec
  have hb := B.bytes
  have hr := B.returns
  have hts := atoms_spec (ws := wsX5_offer) B.pre
  have hown : s.vm.findClass RX5 = some m.cls := findClass_of_methodNamed B.named
  have hlocks := B.notSynchronized
  subst hsz
  have hD := hD0.self (sz := s.heap.size)
  generalize hAe : va_A (pg_wM cI cZ a u) s.heap.size = A at hD ⊢
  have hA : ∀ q : Nat, s.heap.size ≤ q → A q := fun q h => by rw [← hAe]; exact Or.inr h
  have hS : va_S A s.heap s.heap [] := va_S.rf
  have hl := lv_entry ([.ref (a 0), .int k, .int x]) (n := 5) (Nat.le_of_ble_eq_true rfl)
  rw [lg_entry_eq]
  generalize (lg_sl ([.ref (a 0), .int k, .int x]) ++ List.replicate (5 - (lg_sl ([.ref (a 0), .int k, .int x])).length) Slot.unset).toArray = ls at hl ⊢
  have hl : lv_has ls 5 [(0, .ref (a 0)), (1, .int k), (2, .int x)] := hl
  have hiX5 : ∀ w ∈ wsX50, w ∈ wsX5_offer := fun _ h => List.mem_cons_of_mem _ (List.mem_append_right _ (h))
  have hw1 := hts (.fieldLink RX5 47 "PegBoxModel" "settled" "[I") (List.mem_of_getElem? (i := 1) rfl)
  have hw2 := hts (.fieldLink RX5 41 "PegBoxModel" "amount" "[I") (List.mem_of_getElem? (i := 2) rfl)
  refine lv_aload_n hx hb dX5_offer_0 rfl (lv_at hl 0 rfl) ?_
  refine lv_iload_n hx hb dX5_offer_1 rfl (lv_at hl 1 rfl) ?_
  rcases Bool.eq_false_or_eq_true (pg_nb k (nI n)) with c_2 | c_2
  · refine pg_iE (pg_rV (As := [.int k]) (rest := []) ⟨hx, hb, hml, hown, hts⟩ (cm_isClaim_t l D cI cZ a s.heap.size u n hn h20 k c_2) (cwV 1 hts gX5_offer_X5_isClaim rfl rfl rfl (by decide +kernel) ⟨Nat.le_of_ble_eq_true rfl, Nat.le_of_ble_eq_true rfl⟩) hK hP hD 0 (ci := 5) rfl rfl rfl rfl hl.1 rfl (Nat.le_of_ble_eq_true rfl) dX5_offer_2 ⟨Nat.le_of_ble_eq_true rfl, Nat.le_of_ble_eq_true rfl⟩) hD hS hA (fun H locs hP hD hS => ?_)
    obtain ⟨j, hj, rfl⟩ := pg_nb_nI (n := n) (by omega) c_2
    have hcl : (nI j).toNatClampNeg = j := nI_clamp (by omega)
    refine lv_if_ne (tgt := 12) hx hb dX5_offer_5 (by decide) (fun c_5 => ?_) (fun c_5 => absurd c_5 (by decide))
    refine lv_aload_n hx hb dX5_offer_12 rfl (lv_at hl 0 rfl) ?_
    refine va_get (D := D) (ci := 5) (v := .ref (a 11)) (C := RX5) (T := TX5) (N := 31) hx hb hts hiX5 hown hK hP 0 rfl rfl 24 (by decide) hw1 (fun _ h9 => h9) rfl dX5_offer_13 ?_
    refine lv_iload_n hx hb dX5_offer_16 rfl (lv_at hl 1 rfl) ?_
    refine pg_ild (f := u.2 10) hx hb hK hP 11 0 rfl rfl (show j < _ by omega) (by decide) dX5_offer_17 ?_
    refine lv_iconst (v := (-1)) hx hb dX5_offer_18 (by decide) ?_
    refine lv_icmp_eq (tgt := 26) hx hb dX5_offer_19 (by decide) (fun c_19 => ?_) (fun c_19 => ?_)
    · have d_19 := pg_eq_t c_19
      refine lv_iload_n hx hb dX5_offer_26 rfl (lv_at hl 2 rfl) ?_
      refine lv_iconst (v := 0) hx hb dX5_offer_27 (by decide) ?_
      refine lv_aload_n hx hb dX5_offer_28 rfl (lv_at hl 0 rfl) ?_
      refine va_get (D := D) (ci := 5) (v := .ref (a 9)) (C := RX5) (T := TX5) (N := 31) hx hb hts hiX5 hown hK hP 0 rfl rfl 22 (by decide) hw2 (fun _ h9 => h9) rfl dX5_offer_29 ?_
      refine lv_iload_n hx hb dX5_offer_32 rfl (lv_at hl 1 rfl) ?_
      refine pg_ild (f := u.2 8) hx hb hK hP 9 0 rfl rfl (show j < _ by omega) (by decide) dX5_offer_33 ?_
      rcases Bool.eq_false_or_eq_true (pg_in x 0 (u.2 8 j)) with c_34 | c_34
      · refine pg_iE (pg_rS (As := [.int x, .int 0, .int (u.2 8 j)]) (rest := []) ⟨hx, hb, hml, hown, hts⟩ (cm_in_t l D (pg_ty cI cZ) (pg_wM cI cZ a u) H.size x 0 (u.2 8 j) c_34) (va_cwS 3 hts gX5_offer_X5_in rfl rfl rfl (by decide +kernel) ⟨Nat.le_of_ble_eq_true rfl, Nat.le_of_ble_eq_true rfl⟩) hK hP hD rfl hl.1 rfl (Nat.le_of_ble_eq_true rfl) dX5_offer_34 ⟨Nat.le_of_ble_eq_true rfl, Nat.le_of_ble_eq_true rfl⟩) hD hS hA (fun H locs hP hD hS => ?_)
        refine lv_if_ne (tgt := 44) hx hb dX5_offer_37 (by decide) (fun c_37 => ?_) (fun c_37 => absurd c_37 (by decide))
        refine lv_iconst (v := 0) hx hb dX5_offer_44 (by decide) ?_
        refine lv_istore_n (lv' := [(3, .int 0), (0, .ref (a 0)), (1, .int (nI j)), (2, .int x)]) hx hb dX5_offer_45 rfl hl (by decide) rfl (fun ls hl => ?_)
        refine lv_aload_n hx hb dX5_offer_46 rfl (lv_at hl 1 rfl) ?_
        refine lv_iload_n hx hb dX5_offer_47 rfl (lv_at hl 0 rfl) ?_
        exact absurd (hthr.symm.trans (by simp only [pg_t_offer, c_2, hcl, d_19, c_34, cond_true, cond_false, Bool.not_true, Bool.not_false])) h0
      · refine pg_iE (pg_rS (As := [.int x, .int 0, .int (u.2 8 j)]) (rest := []) ⟨hx, hb, hml, hown, hts⟩ (cm_in_f l D (pg_ty cI cZ) (pg_wM cI cZ a u) H.size x 0 (u.2 8 j) c_34) (va_cwS 3 hts gX5_offer_X5_in rfl rfl rfl (by decide +kernel) ⟨Nat.le_of_ble_eq_true rfl, Nat.le_of_ble_eq_true rfl⟩) hK hP hD rfl hl.1 rfl (Nat.le_of_ble_eq_true rfl) dX5_offer_34 ⟨Nat.le_of_ble_eq_true rfl, Nat.le_of_ble_eq_true rfl⟩) hD hS hA (fun H locs hP hD hS => ?_)
        refine lv_if_ne (tgt := 44) hx hb dX5_offer_37 (by decide) (fun c_37 => absurd (by decide) c_37) (fun c_37 => ?_)
        refine lv_iconst (v := 3) hx hb dX5_offer_40 (by decide) ?_
        refine lv_goto (tgt := 45) hx hb dX5_offer_41 (by decide) ?_
        refine lv_istore_n (lv' := [(3, .int 3), (0, .ref (a 0)), (1, .int (nI j)), (2, .int x)]) hx hb dX5_offer_45 rfl hl (by decide) rfl (fun ls hl => ?_)
        refine lv_aload_n hx hb dX5_offer_46 rfl (lv_at hl 1 rfl) ?_
        refine lv_iload_n hx hb dX5_offer_47 rfl (lv_at hl 0 rfl) ?_
        have he : e9 = 3 := hthr.symm.trans (by simp only [pg_t_offer, c_2, hcl, d_19, c_34, cond_true, cond_false, Bool.not_true, Bool.not_false])
        refine pg_iE (pg_rV (As := [.int 3]) (rest := []) ⟨hx, hb, hml, hown, hts⟩ (cm_fine1 l D cI cZ a H.size u 3 (by decide)) (cwV 1 hts gX5_offer_X5_isFine rfl rfl rfl (by decide +kernel) ⟨Nat.le_of_ble_eq_true rfl, Nat.le_of_ble_eq_true rfl⟩) hK hP hD 0 (ci := 5) rfl rfl rfl rfl hl.1 rfl (Nat.le_of_ble_eq_true rfl) dX5_offer_48 ⟨Nat.le_of_ble_eq_true rfl, Nat.le_of_ble_eq_true rfl⟩) hD hS hA (fun H locs hP hD hS => ?_)
        refine lv_if_ne (tgt := 56) hx hb dX5_offer_51 (by decide) (fun c_51 => absurd (by decide) c_51) (fun c_51 => ?_)
        refine lv_iconst (v := 0) hx hb dX5_offer_54 (by decide) ?_
        exact W.iret (v := 0) hx hb hr (fun t9 ht9 hW9 => ⟨⟨0, ((upd u.1 15 3), u.2), rfl, ⟨rfl, by rw [he]⟩, by rw [ht9]; exact hP, va_K.moved hW9.alike hK, hD⟩, hS.F ht9⟩) hS.2.2 dX5_offer_55
    · have d_19 := pg_eq_f c_19
      refine lv_iconst (v := 2) hx hb dX5_offer_22 (by decide) ?_
      refine lv_goto (tgt := 45) hx hb dX5_offer_23 (by decide) ?_
      refine lv_istore_n (lv' := [(3, .int 2), (0, .ref (a 0)), (1, .int (nI j)), (2, .int x)]) hx hb dX5_offer_45 rfl hl (by decide) rfl (fun ls hl => ?_)
      refine lv_aload_n hx hb dX5_offer_46 rfl (lv_at hl 1 rfl) ?_
      refine lv_iload_n hx hb dX5_offer_47 rfl (lv_at hl 0 rfl) ?_
      have he : e9 = 2 := hthr.symm.trans (by simp only [pg_t_offer, c_2, hcl, d_19, cond_true, cond_false, Bool.not_true, Bool.not_false])
      refine pg_iE (pg_rV (As := [.int 2]) (rest := []) ⟨hx, hb, hml, hown, hts⟩ (cm_fine1 l D cI cZ a H.size u 2 (by decide)) (cwV 1 hts gX5_offer_X5_isFine rfl rfl rfl (by decide +kernel) ⟨Nat.le_of_ble_eq_true rfl, Nat.le_of_ble_eq_true rfl⟩) hK hP hD 0 (ci := 5) rfl rfl rfl rfl hl.1 rfl (Nat.le_of_ble_eq_true rfl) dX5_offer_48 ⟨Nat.le_of_ble_eq_true rfl, Nat.le_of_ble_eq_true rfl⟩) hD hS hA (fun H locs hP hD hS => ?_)
      refine lv_if_ne (tgt := 56) hx hb dX5_offer_51 (by decide) (fun c_51 => absurd (by decide) c_51) (fun c_51 => ?_)
      refine lv_iconst (v := 0) hx hb dX5_offer_54 (by decide) ?_
      exact W.iret (v := 0) hx hb hr (fun t9 ht9 hW9 => ⟨⟨0, ((upd u.1 15 2), u.2), rfl, ⟨rfl, by rw [he]⟩, by rw [ht9]; exact hP, va_K.moved hW9.alike hK, hD⟩, hS.F ht9⟩) hS.2.2 dX5_offer_55
  · refine pg_iE (pg_rV (As := [.int k]) (rest := []) ⟨hx, hb, hml, hown, hts⟩ (cm_isClaim_f l D cI cZ a s.heap.size u n hn h20 k c_2) (cwV 1 hts gX5_offer_X5_isClaim rfl rfl rfl (by decide +kernel) ⟨Nat.le_of_ble_eq_true rfl, Nat.le_of_ble_eq_true rfl⟩) hK hP hD 0 (ci := 5) rfl rfl rfl rfl hl.1 rfl (Nat.le_of_ble_eq_true rfl) dX5_offer_2 ⟨Nat.le_of_ble_eq_true rfl, Nat.le_of_ble_eq_true rfl⟩) hD hS hA (fun H locs hP hD hS => ?_)
    refine lv_if_ne (tgt := 12) hx hb dX5_offer_5 (by decide) (fun c_5 => absurd (by decide) c_5) (fun c_5 => ?_)
    refine lv_iconst (v := 1) hx hb dX5_offer_8 (by decide) ?_
    refine lv_goto (tgt := 45) hx hb dX5_offer_9 (by decide) ?_
    refine lv_istore_n (lv' := [(3, .int 1), (0, .ref (a 0)), (1, .int k), (2, .int x)]) hx hb dX5_offer_45 rfl hl (by decide) rfl (fun ls hl => ?_)
    refine lv_aload_n hx hb dX5_offer_46 rfl (lv_at hl 1 rfl) ?_
    refine lv_iload_n hx hb dX5_offer_47 rfl (lv_at hl 0 rfl) ?_
    have he : e9 = 1 := hthr.symm.trans (by simp only [pg_t_offer, c_2, cond_true, cond_false, Bool.not_true, Bool.not_false])
    refine pg_iE (pg_rV (As := [.int 1]) (rest := []) ⟨hx, hb, hml, hown, hts⟩ (cm_fine1 l D cI cZ a H.size u 1 (by decide)) (cwV 1 hts gX5_offer_X5_isFine rfl rfl rfl (by decide +kernel) ⟨Nat.le_of_ble_eq_true rfl, Nat.le_of_ble_eq_true rfl⟩) hK hP hD 0 (ci := 5) rfl rfl rfl rfl hl.1 rfl (Nat.le_of_ble_eq_true rfl) dX5_offer_48 ⟨Nat.le_of_ble_eq_true rfl, Nat.le_of_ble_eq_true rfl⟩) hD hS hA (fun H locs hP hD hS => ?_)
    refine lv_if_ne (tgt := 56) hx hb dX5_offer_51 (by decide) (fun c_51 => absurd (by decide) c_51) (fun c_51 => ?_)
    refine lv_iconst (v := 0) hx hb dX5_offer_54 (by decide) ?_
    exact W.iret (v := 0) hx hb hr (fun t9 ht9 hW9 => ⟨⟨0, ((upd u.1 15 1), u.2), rfl, ⟨rfl, by rw [he]⟩, by rw [ht9]; exact hP, va_K.moved hW9.alike hK, hD⟩, hS.F ht9⟩) hS.2.2 dX5_offer_55
set_option maxHeartbeats 4000000 in
set_option maxRecDepth 100000 in
/-- dueFor(kind) -/
theorem cm_dueFor (l : Launch) (D : va_G) (cI cZ : ClassId) (a : Nat → Nat) (sz : Nat) (u : pg_St) (n : Nat) (hn : u.1 10 = nI n) (h20 : n ≤ 20) (k : Nat) (hk : k < 3) : Met l yX5_dueFor wsX5_dueFor ({ frames := 0, cells := 0, slots := 0, locals := 0 }) (va_Pc [.ref (a 0), .int (nI k)] (pg_B D (pg_ty cI cZ) (pg_wM cI cZ a u) sz)) (va_Qi (fun r u' => r = pg_due u.2 n k ∧ u' = u) (pg_E D (pg_ty cI cZ) (va_A (pg_wM cI cZ a u) sz) (pg_wM cI cZ a)) (va_A (pg_wM cI cZ a u) sz)) 0 0 (va_A (pg_wM cI cZ a u) sz) := by
  refine Met.ofW (cc := cX5_dueFor) (maxL := 4) (ret := (some .int)) (by decide) rfl ?_
  intro p e s m args below meth c s₁ B hml hv
  obtain ⟨rfl, hsz, hP, hK, hD0⟩ := hv
  have hx := B.exec
  have hb := B.bytes
  have hr := B.returns
  have hts := atoms_spec (ws := wsX5_dueFor) B.pre
  have hown : s.vm.findClass RX5 = some m.cls := findClass_of_methodNamed B.named
  have hlocks := B.notSynchronized
  subst hsz
  have hD := hD0.self (sz := s.heap.size)
  generalize hAe : va_A (pg_wM cI cZ a u) s.heap.size = A at hD ⊢
  have hA : ∀ q : Nat, s.heap.size ≤ q → A q := fun q h => by rw [← hAe]; exact Or.inr h
  have hS : va_S A s.heap s.heap [] := va_S.rf
  have hl := lv_entry ([.ref (a 0), .int (nI k)]) (n := 4) (Nat.le_of_ble_eq_true rfl)
  rw [lg_entry_eq]
  generalize (lg_sl ([.ref (a 0), .int (nI k)]) ++ List.replicate (4 - (lg_sl ([.ref (a 0), .int (nI k)])).length) Slot.unset).toArray = ls at hl ⊢
  have hl : lv_has ls 4 [(0, .ref (a 0)), (1, .int (nI k))] := hl
  have hiX5 : ∀ w ∈ wsX50, w ∈ wsX5_dueFor := fun _ h => List.mem_cons_of_mem _ (List.mem_append_right _ (h))
  have hw1 := hts (.fieldLink RX5 99 "PegBoxModel" "claims" "I") (List.mem_of_getElem? (i := 1) rfl)
  have hw2 := hts (.fieldLink RX5 38 "PegBoxModel" "kind" "[I") (List.mem_of_getElem? (i := 2) rfl)
  have hw3 := hts (.fieldLink RX5 47 "PegBoxModel" "settled" "[I") (List.mem_of_getElem? (i := 3) rfl)
  have hw4 := hts (.fieldLink RX5 16 "PegBoxModel" "least" "[I") (List.mem_of_getElem? (i := 4) rfl)
  have hw5 := hts (.fieldLink RX5 22 "PegBoxModel" "whole" "[Z") (List.mem_of_getElem? (i := 5) rfl)
  have hw6 := hts (.fieldLink RX5 19 "PegBoxModel" "basket" "[I") (List.mem_of_getElem? (i := 6) rfl)
  have hw7 := hts (.fieldLink RX5 26 "PegBoxModel" "cap" "[I") (List.mem_of_getElem? (i := 7) rfl)
  refine lv_iconst (v := 0) hx hb dX5_dueFor_0 (by decide) ?_
  refine lv_istore_n (lv' := [(2, .int 0), (0, .ref (a 0)), (1, .int (nI k))]) hx hb dX5_dueFor_1 rfl hl (by decide) rfl (fun ls hl => ?_)
  refine lv_iconst (v := 0) hx hb dX5_dueFor_2 (by decide) ?_
  refine lv_istore_n (lv' := [(3, .int 0), (2, .int 0), (0, .ref (a 0)), (1, .int (nI k))]) hx hb dX5_dueFor_3 rfl hl (by decide) rfl (fun ls hl => ?_)
  have L4 : ∀ (k9 i : Nat) (x : Int32), i ≤ n → n < i + k9 → x = pg_set u.2 i (nI k) (u.2 2 k) → ∀ (H : Heap) (locs : List Loc), va_P D vwCl (pg_wM cI cZ a u) H → va_D A (pg_wM cI cZ a u) → va_S A s.heap H locs → ∀ ls : Array Slot, lv_has ls 4 [(3, .int (nI i)), (2, .int x), (0, .ref (a 0)), (1, .int (nI k))] → W p l e (headSpec wsX5_dueFor ({ frames := 0, cells := 0, slots := 0, locals := 0 })).room s m ([.ref (a 0), .int (nI k)] : List Value).toArray below meth c H locs 0 0 (MQ below (va_Qi (fun r u' => r = pg_due u.2 n k ∧ u' = u) (pg_E D (pg_ty cI cZ) A (pg_wM cI cZ a)) A) ([.ref (a 0), .int (nI k)] : List Value).toArray s 0 0 A) (F0 m 4 ls []) := by
    intro k9
    induction k9 with
    | zero => intro i x h1 h2; exact absurd h2 (by omega)
    | succ k9 ih =>
      intro i x hi9 hk9 hx9 H locs hP hD hS ls hl
      subst hx9
      refine lv_iload_n hx hb dX5_dueFor_4 rfl (lv_at hl 0 rfl) ?_
      refine lv_aload_n hx hb dX5_dueFor_5 rfl (lv_at hl 2 rfl) ?_
      refine va_get (D := D) (ci := 5) (v := .int (u.1 10)) (C := RX5) (T := TX5) (N := 31) hx hb hts hiX5 hown hK hP 0 rfl rfl 25 (by decide) hw1 (fun _ h9 => h9) rfl dX5_dueFor_6 ?_
      rw [hn]
      refine lv_icmp_ge (tgt := 66) hx hb dX5_dueFor_9 (by decide) (fun c_9 => ?_) (fun c_9 => ?_)
      · have hiN : i = n := pg_exit (rfl) (by omega) hi9 c_9
        rw [hiN] at hl
        refine lv_aload_n hx hb dX5_dueFor_66 rfl (lv_at hl 2 rfl) ?_
        refine va_get (D := D) (ci := 5) (v := .ref (a 5)) (C := RX5) (T := TX5) (N := 31) hx hb hts hiX5 hown hK hP 0 rfl rfl 7 (by decide) hw5 (fun _ h9 => h9) rfl dX5_dueFor_67 ?_
        refine lv_iload_n hx hb dX5_dueFor_70 rfl (lv_at hl 3 rfl) ?_
        refine pg_zld (f := u.2 4) hx hb hK hP 5 1 rfl rfl (show k < _ by omega) (by decide) dX5_dueFor_71 ?_
        refine lv_if_eq (tgt := 93) hx hb dX5_dueFor_72 (by decide) (fun c_72 => ?_) (fun c_72 => ?_)
        · refine lv_iload_n hx hb dX5_dueFor_93 rfl (lv_at hl 1 rfl) ?_
          refine lv_aload_n hx hb dX5_dueFor_94 rfl (lv_at hl 2 rfl) ?_
          refine va_get (D := D) (ci := 5) (v := .ref (a 4)) (C := RX5) (T := TX5) (N := 31) hx hb hts hiX5 hown hK hP 0 rfl rfl 6 (by decide) hw6 (fun _ h9 => h9) rfl dX5_dueFor_95 ?_
          refine lv_iload_n hx hb dX5_dueFor_98 rfl (lv_at hl 3 rfl) ?_
          refine pg_ild (f := u.2 3) hx hb hK hP 4 0 rfl rfl (show k < _ by omega) (by decide) dX5_dueFor_99 ?_
          refine lv_icmp_le (tgt := 114) hx hb dX5_dueFor_100 (by decide) (fun c_100 => ?_) (fun c_100 => ?_)
          · refine lv_iconst (v := 0) hx hb dX5_dueFor_114 (by decide) ?_
            refine lv_topi (fun f1 ef1 => ?_)
            have e1 : f1 = pg_past u.2 k (pg_set u.2 n (nI k) (u.2 2 k)) := by rw [ef1, pg_past, if_pos c_72, if_pos c_100]
            refine lv_istore_n (lv' := [(3, .int f1), (2, .int (pg_set u.2 n (nI k) (u.2 2 k))), (0, .ref (a 0)), (1, .int (nI k))]) hx hb dX5_dueFor_115 rfl hl (by decide) rfl (fun ls hl => ?_)
            refine lv_iload_n hx hb dX5_dueFor_116 rfl (lv_at hl 0 rfl) ?_
            refine lv_aload_n hx hb dX5_dueFor_117 rfl (lv_at hl 2 rfl) ?_
            refine va_get (D := D) (ci := 5) (v := .ref (a 6)) (C := RX5) (T := TX5) (N := 31) hx hb hts hiX5 hown hK hP 0 rfl rfl 8 (by decide) hw7 (fun _ h9 => h9) rfl dX5_dueFor_118 ?_
            refine lv_iload_n hx hb dX5_dueFor_121 rfl (lv_at hl 3 rfl) ?_
            refine pg_ild (f := u.2 5) hx hb hK hP 6 0 rfl rfl (show k < _ by omega) (by decide) dX5_dueFor_122 ?_
            refine lv_icmp_ge (tgt := 130) hx hb dX5_dueFor_123 (by decide) (fun c_123 => ?_) (fun c_123 => ?_)
            · refine lv_aload_n hx hb dX5_dueFor_130 rfl (lv_at hl 2 rfl) ?_
              refine va_get (D := D) (ci := 5) (v := .ref (a 6)) (C := RX5) (T := TX5) (N := 31) hx hb hts hiX5 hown hK hP 0 rfl rfl 8 (by decide) hw7 (fun _ h9 => h9) rfl dX5_dueFor_131 ?_
              refine lv_iload_n hx hb dX5_dueFor_134 rfl (lv_at hl 3 rfl) ?_
              refine pg_ild (f := u.2 5) hx hb hK hP 6 0 rfl rfl (show k < _ by omega) (by decide) dX5_dueFor_135 ?_
              exact W.iret (v := u.2 5 k) hx hb hr (fun t9 ht9 hW9 => ⟨⟨u.2 5 k, u, rfl, ⟨by rw [pg_due, ← pg_min_m, ← e1, if_pos c_123], rfl⟩, by rw [ht9]; exact hP, va_K.moved hW9.alike hK, hD⟩, hS.F ht9⟩) hS.2.2 dX5_dueFor_136
            · refine lv_iload_n hx hb dX5_dueFor_126 rfl (lv_at hl 0 rfl) ?_
              refine lv_goto (tgt := 136) hx hb dX5_dueFor_127 (by decide) ?_
              exact W.iret (v := f1) hx hb hr (fun t9 ht9 hW9 => ⟨⟨f1, u, rfl, ⟨by rw [pg_due, ← pg_min_m, ← e1, if_neg c_123], rfl⟩, by rw [ht9]; exact hP, va_K.moved hW9.alike hK, hD⟩, hS.F ht9⟩) hS.2.2 dX5_dueFor_136
          · refine lv_iload_n hx hb dX5_dueFor_103 rfl (lv_at hl 1 rfl) ?_
            refine lv_aload_n hx hb dX5_dueFor_104 rfl (lv_at hl 2 rfl) ?_
            refine va_get (D := D) (ci := 5) (v := .ref (a 4)) (C := RX5) (T := TX5) (N := 31) hx hb hts hiX5 hown hK hP 0 rfl rfl 6 (by decide) hw6 (fun _ h9 => h9) rfl dX5_dueFor_105 ?_
            refine lv_iload_n hx hb dX5_dueFor_108 rfl (lv_at hl 3 rfl) ?_
            refine pg_ild (f := u.2 3) hx hb hK hP 4 0 rfl rfl (show k < _ by omega) (by decide) dX5_dueFor_109 ?_
            refine lv_isub hx hb dX5_dueFor_110 ?_
            refine lv_goto (tgt := 115) hx hb dX5_dueFor_111 (by decide) ?_
            refine lv_topi (fun f1 ef1 => ?_)
            have e1 : f1 = pg_past u.2 k (pg_set u.2 n (nI k) (u.2 2 k)) := by rw [ef1, pg_past, if_pos c_72, if_neg c_100]
            refine lv_istore_n (lv' := [(3, .int f1), (2, .int (pg_set u.2 n (nI k) (u.2 2 k))), (0, .ref (a 0)), (1, .int (nI k))]) hx hb dX5_dueFor_115 rfl hl (by decide) rfl (fun ls hl => ?_)
            refine lv_iload_n hx hb dX5_dueFor_116 rfl (lv_at hl 0 rfl) ?_
            refine lv_aload_n hx hb dX5_dueFor_117 rfl (lv_at hl 2 rfl) ?_
            refine va_get (D := D) (ci := 5) (v := .ref (a 6)) (C := RX5) (T := TX5) (N := 31) hx hb hts hiX5 hown hK hP 0 rfl rfl 8 (by decide) hw7 (fun _ h9 => h9) rfl dX5_dueFor_118 ?_
            refine lv_iload_n hx hb dX5_dueFor_121 rfl (lv_at hl 3 rfl) ?_
            refine pg_ild (f := u.2 5) hx hb hK hP 6 0 rfl rfl (show k < _ by omega) (by decide) dX5_dueFor_122 ?_
            refine lv_icmp_ge (tgt := 130) hx hb dX5_dueFor_123 (by decide) (fun c_123 => ?_) (fun c_123 => ?_)
            · refine lv_aload_n hx hb dX5_dueFor_130 rfl (lv_at hl 2 rfl) ?_
              refine va_get (D := D) (ci := 5) (v := .ref (a 6)) (C := RX5) (T := TX5) (N := 31) hx hb hts hiX5 hown hK hP 0 rfl rfl 8 (by decide) hw7 (fun _ h9 => h9) rfl dX5_dueFor_131 ?_
              refine lv_iload_n hx hb dX5_dueFor_134 rfl (lv_at hl 3 rfl) ?_
              refine pg_ild (f := u.2 5) hx hb hK hP 6 0 rfl rfl (show k < _ by omega) (by decide) dX5_dueFor_135 ?_
              exact W.iret (v := u.2 5 k) hx hb hr (fun t9 ht9 hW9 => ⟨⟨u.2 5 k, u, rfl, ⟨by rw [pg_due, ← pg_min_m, ← e1, if_pos c_123], rfl⟩, by rw [ht9]; exact hP, va_K.moved hW9.alike hK, hD⟩, hS.F ht9⟩) hS.2.2 dX5_dueFor_136
            · refine lv_iload_n hx hb dX5_dueFor_126 rfl (lv_at hl 0 rfl) ?_
              refine lv_goto (tgt := 136) hx hb dX5_dueFor_127 (by decide) ?_
              exact W.iret (v := f1) hx hb hr (fun t9 ht9 hW9 => ⟨⟨f1, u, rfl, ⟨by rw [pg_due, ← pg_min_m, ← e1, if_neg c_123], rfl⟩, by rw [ht9]; exact hP, va_K.moved hW9.alike hK, hD⟩, hS.F ht9⟩) hS.2.2 dX5_dueFor_136
        · refine lv_iload_n hx hb dX5_dueFor_75 rfl (lv_at hl 1 rfl) ?_
          refine lv_aload_n hx hb dX5_dueFor_76 rfl (lv_at hl 2 rfl) ?_
          refine va_get (D := D) (ci := 5) (v := .ref (a 4)) (C := RX5) (T := TX5) (N := 31) hx hb hts hiX5 hown hK hP 0 rfl rfl 6 (by decide) hw6 (fun _ h9 => h9) rfl dX5_dueFor_77 ?_
          refine lv_iload_n hx hb dX5_dueFor_80 rfl (lv_at hl 3 rfl) ?_
          refine pg_ild (f := u.2 3) hx hb hK hP 4 0 rfl rfl (show k < _ by omega) (by decide) dX5_dueFor_81 ?_
          refine lv_icmp_lt (tgt := 89) hx hb dX5_dueFor_82 (by decide) (fun c_82 => ?_) (fun c_82 => ?_)
          · refine lv_iconst (v := 0) hx hb dX5_dueFor_89 (by decide) ?_
            refine lv_goto (tgt := 115) hx hb dX5_dueFor_90 (by decide) ?_
            refine lv_topi (fun f1 ef1 => ?_)
            have e1 : f1 = pg_past u.2 k (pg_set u.2 n (nI k) (u.2 2 k)) := by rw [ef1, pg_past, if_neg c_72, if_pos c_82]
            refine lv_istore_n (lv' := [(3, .int f1), (2, .int (pg_set u.2 n (nI k) (u.2 2 k))), (0, .ref (a 0)), (1, .int (nI k))]) hx hb dX5_dueFor_115 rfl hl (by decide) rfl (fun ls hl => ?_)
            refine lv_iload_n hx hb dX5_dueFor_116 rfl (lv_at hl 0 rfl) ?_
            refine lv_aload_n hx hb dX5_dueFor_117 rfl (lv_at hl 2 rfl) ?_
            refine va_get (D := D) (ci := 5) (v := .ref (a 6)) (C := RX5) (T := TX5) (N := 31) hx hb hts hiX5 hown hK hP 0 rfl rfl 8 (by decide) hw7 (fun _ h9 => h9) rfl dX5_dueFor_118 ?_
            refine lv_iload_n hx hb dX5_dueFor_121 rfl (lv_at hl 3 rfl) ?_
            refine pg_ild (f := u.2 5) hx hb hK hP 6 0 rfl rfl (show k < _ by omega) (by decide) dX5_dueFor_122 ?_
            refine lv_icmp_ge (tgt := 130) hx hb dX5_dueFor_123 (by decide) (fun c_123 => ?_) (fun c_123 => ?_)
            · refine lv_aload_n hx hb dX5_dueFor_130 rfl (lv_at hl 2 rfl) ?_
              refine va_get (D := D) (ci := 5) (v := .ref (a 6)) (C := RX5) (T := TX5) (N := 31) hx hb hts hiX5 hown hK hP 0 rfl rfl 8 (by decide) hw7 (fun _ h9 => h9) rfl dX5_dueFor_131 ?_
              refine lv_iload_n hx hb dX5_dueFor_134 rfl (lv_at hl 3 rfl) ?_
              refine pg_ild (f := u.2 5) hx hb hK hP 6 0 rfl rfl (show k < _ by omega) (by decide) dX5_dueFor_135 ?_
              exact W.iret (v := u.2 5 k) hx hb hr (fun t9 ht9 hW9 => ⟨⟨u.2 5 k, u, rfl, ⟨by rw [pg_due, ← pg_min_m, ← e1, if_pos c_123], rfl⟩, by rw [ht9]; exact hP, va_K.moved hW9.alike hK, hD⟩, hS.F ht9⟩) hS.2.2 dX5_dueFor_136
            · refine lv_iload_n hx hb dX5_dueFor_126 rfl (lv_at hl 0 rfl) ?_
              refine lv_goto (tgt := 136) hx hb dX5_dueFor_127 (by decide) ?_
              exact W.iret (v := f1) hx hb hr (fun t9 ht9 hW9 => ⟨⟨f1, u, rfl, ⟨by rw [pg_due, ← pg_min_m, ← e1, if_neg c_123], rfl⟩, by rw [ht9]; exact hP, va_K.moved hW9.alike hK, hD⟩, hS.F ht9⟩) hS.2.2 dX5_dueFor_136
          · refine lv_iload_n hx hb dX5_dueFor_85 rfl (lv_at hl 1 rfl) ?_
            refine lv_goto (tgt := 115) hx hb dX5_dueFor_86 (by decide) ?_
            refine lv_topi (fun f1 ef1 => ?_)
            have e1 : f1 = pg_past u.2 k (pg_set u.2 n (nI k) (u.2 2 k)) := by rw [ef1, pg_past, if_neg c_72, if_neg c_82]
            refine lv_istore_n (lv' := [(3, .int f1), (2, .int (pg_set u.2 n (nI k) (u.2 2 k))), (0, .ref (a 0)), (1, .int (nI k))]) hx hb dX5_dueFor_115 rfl hl (by decide) rfl (fun ls hl => ?_)
            refine lv_iload_n hx hb dX5_dueFor_116 rfl (lv_at hl 0 rfl) ?_
            refine lv_aload_n hx hb dX5_dueFor_117 rfl (lv_at hl 2 rfl) ?_
            refine va_get (D := D) (ci := 5) (v := .ref (a 6)) (C := RX5) (T := TX5) (N := 31) hx hb hts hiX5 hown hK hP 0 rfl rfl 8 (by decide) hw7 (fun _ h9 => h9) rfl dX5_dueFor_118 ?_
            refine lv_iload_n hx hb dX5_dueFor_121 rfl (lv_at hl 3 rfl) ?_
            refine pg_ild (f := u.2 5) hx hb hK hP 6 0 rfl rfl (show k < _ by omega) (by decide) dX5_dueFor_122 ?_
            refine lv_icmp_ge (tgt := 130) hx hb dX5_dueFor_123 (by decide) (fun c_123 => ?_) (fun c_123 => ?_)
            · refine lv_aload_n hx hb dX5_dueFor_130 rfl (lv_at hl 2 rfl) ?_
              refine va_get (D := D) (ci := 5) (v := .ref (a 6)) (C := RX5) (T := TX5) (N := 31) hx hb hts hiX5 hown hK hP 0 rfl rfl 8 (by decide) hw7 (fun _ h9 => h9) rfl dX5_dueFor_131 ?_
              refine lv_iload_n hx hb dX5_dueFor_134 rfl (lv_at hl 3 rfl) ?_
              refine pg_ild (f := u.2 5) hx hb hK hP 6 0 rfl rfl (show k < _ by omega) (by decide) dX5_dueFor_135 ?_
              exact W.iret (v := u.2 5 k) hx hb hr (fun t9 ht9 hW9 => ⟨⟨u.2 5 k, u, rfl, ⟨by rw [pg_due, ← pg_min_m, ← e1, if_pos c_123], rfl⟩, by rw [ht9]; exact hP, va_K.moved hW9.alike hK, hD⟩, hS.F ht9⟩) hS.2.2 dX5_dueFor_136
            · refine lv_iload_n hx hb dX5_dueFor_126 rfl (lv_at hl 0 rfl) ?_
              refine lv_goto (tgt := 136) hx hb dX5_dueFor_127 (by decide) ?_
              exact W.iret (v := f1) hx hb hr (fun t9 ht9 hW9 => ⟨⟨f1, u, rfl, ⟨by rw [pg_due, ← pg_min_m, ← e1, if_neg c_123], rfl⟩, by rw [ht9]; exact hP, va_K.moved hW9.alike hK, hD⟩, hS.F ht9⟩) hS.2.2 dX5_dueFor_136
      · have hlt : i < n := pg_stay (rfl) (by omega) c_9
        refine lv_iload_n hx hb dX5_dueFor_12 rfl (lv_at hl 1 rfl) ?_
        refine lv_aload_n hx hb dX5_dueFor_13 rfl (lv_at hl 2 rfl) ?_
        refine va_get (D := D) (ci := 5) (v := .ref (a 8)) (C := RX5) (T := TX5) (N := 31) hx hb hts hiX5 hown hK hP 0 rfl rfl 21 (by decide) hw2 (fun _ h9 => h9) rfl dX5_dueFor_14 ?_
        refine lv_iload_n hx hb dX5_dueFor_17 rfl (lv_at hl 0 rfl) ?_
        refine pg_ild (f := u.2 7) hx hb hK hP 8 0 rfl rfl (show i < _ by omega) (by decide) dX5_dueFor_18 ?_
        refine lv_iload_n hx hb dX5_dueFor_19 rfl (lv_at hl 3 rfl) ?_
        refine lv_icmp_ne (tgt := 57) hx hb dX5_dueFor_20 (by decide) (fun c_20 => ?_) (fun c_20 => ?_)
        · refine lv_iconst (v := 0) hx hb dX5_dueFor_57 (by decide) ?_
          refine lv_iadd hx hb dX5_dueFor_58 ?_
          refine lv_istore_n (lv' := [(2, .int ((pg_set u.2 i (nI k) (u.2 2 k)) + 0)), (3, .int (nI i)), (0, .ref (a 0)), (1, .int (nI k))]) hx hb dX5_dueFor_59 rfl hl (by decide) rfl (fun ls hl => ?_)
          refine lv_iinc (v := nI (i + 1)) (lv' := [(3, .int (nI (i + 1))), (2, .int ((pg_set u.2 i (nI k) (u.2 2 k)) + 0)), (0, .ref (a 0)), (1, .int (nI k))]) hx hb dX5_dueFor_60 hl (k := 1) rfl (by rw [nI_succ]; rfl) (by decide) rfl (fun ls hl => ?_)
          refine lv_goto (tgt := 4) hx hb dX5_dueFor_63 (by decide) ?_
          exact ih (i + 1) ((pg_set u.2 i (nI k) (u.2 2 k)) + 0) (by omega) (by omega) (by show pg_set u.2 i (nI k) (u.2 2 k) + 0 = pg_set u.2 i (nI k) (u.2 2 k) + (if u.2 7 i = nI k then (if u.2 10 i = -1 then 0 else if u.2 10 i < u.2 2 k then 0 else u.2 10 i) else 0); rw [if_neg c_20]) _ _ hP hD hS ls (lv_sub hl [0, 1, 2, 3] rfl)
        · refine lv_aload_n hx hb dX5_dueFor_23 rfl (lv_at hl 2 rfl) ?_
          refine va_get (D := D) (ci := 5) (v := .ref (a 11)) (C := RX5) (T := TX5) (N := 31) hx hb hts hiX5 hown hK hP 0 rfl rfl 24 (by decide) hw3 (fun _ h9 => h9) rfl dX5_dueFor_24 ?_
          refine lv_iload_n hx hb dX5_dueFor_27 rfl (lv_at hl 0 rfl) ?_
          refine pg_ild (f := u.2 10) hx hb hK hP 11 0 rfl rfl (show i < _ by omega) (by decide) dX5_dueFor_28 ?_
          refine lv_iconst (v := (-1)) hx hb dX5_dueFor_29 (by decide) ?_
          refine lv_icmp_eq (tgt := 57) hx hb dX5_dueFor_30 (by decide) (fun c_30 => ?_) (fun c_30 => ?_)
          · refine lv_iconst (v := 0) hx hb dX5_dueFor_57 (by decide) ?_
            refine lv_iadd hx hb dX5_dueFor_58 ?_
            refine lv_istore_n (lv' := [(2, .int ((pg_set u.2 i (nI k) (u.2 2 k)) + 0)), (3, .int (nI i)), (0, .ref (a 0)), (1, .int (nI k))]) hx hb dX5_dueFor_59 rfl hl (by decide) rfl (fun ls hl => ?_)
            refine lv_iinc (v := nI (i + 1)) (lv' := [(3, .int (nI (i + 1))), (2, .int ((pg_set u.2 i (nI k) (u.2 2 k)) + 0)), (0, .ref (a 0)), (1, .int (nI k))]) hx hb dX5_dueFor_60 hl (k := 1) rfl (by rw [nI_succ]; rfl) (by decide) rfl (fun ls hl => ?_)
            refine lv_goto (tgt := 4) hx hb dX5_dueFor_63 (by decide) ?_
            exact ih (i + 1) ((pg_set u.2 i (nI k) (u.2 2 k)) + 0) (by omega) (by omega) (by show pg_set u.2 i (nI k) (u.2 2 k) + 0 = pg_set u.2 i (nI k) (u.2 2 k) + (if u.2 7 i = nI k then (if u.2 10 i = -1 then 0 else if u.2 10 i < u.2 2 k then 0 else u.2 10 i) else 0); rw [if_pos c_20, if_pos c_30]) _ _ hP hD hS ls (lv_sub hl [0, 1, 2, 3] rfl)
          · refine lv_aload_n hx hb dX5_dueFor_33 rfl (lv_at hl 2 rfl) ?_
            refine va_get (D := D) (ci := 5) (v := .ref (a 11)) (C := RX5) (T := TX5) (N := 31) hx hb hts hiX5 hown hK hP 0 rfl rfl 24 (by decide) hw3 (fun _ h9 => h9) rfl dX5_dueFor_34 ?_
            refine lv_iload_n hx hb dX5_dueFor_37 rfl (lv_at hl 0 rfl) ?_
            refine pg_ild (f := u.2 10) hx hb hK hP 11 0 rfl rfl (show i < _ by omega) (by decide) dX5_dueFor_38 ?_
            refine lv_aload_n hx hb dX5_dueFor_39 rfl (lv_at hl 2 rfl) ?_
            refine va_get (D := D) (ci := 5) (v := .ref (a 3)) (C := RX5) (T := TX5) (N := 31) hx hb hts hiX5 hown hK hP 0 rfl rfl 5 (by decide) hw4 (fun _ h9 => h9) rfl dX5_dueFor_40 ?_
            refine lv_iload_n hx hb dX5_dueFor_43 rfl (lv_at hl 3 rfl) ?_
            refine pg_ild (f := u.2 2) hx hb hK hP 3 0 rfl rfl (show k < _ by omega) (by decide) dX5_dueFor_44 ?_
            refine lv_icmp_lt (tgt := 57) hx hb dX5_dueFor_45 (by decide) (fun c_45 => ?_) (fun c_45 => ?_)
            · refine lv_iconst (v := 0) hx hb dX5_dueFor_57 (by decide) ?_
              refine lv_iadd hx hb dX5_dueFor_58 ?_
              refine lv_istore_n (lv' := [(2, .int ((pg_set u.2 i (nI k) (u.2 2 k)) + 0)), (3, .int (nI i)), (0, .ref (a 0)), (1, .int (nI k))]) hx hb dX5_dueFor_59 rfl hl (by decide) rfl (fun ls hl => ?_)
              refine lv_iinc (v := nI (i + 1)) (lv' := [(3, .int (nI (i + 1))), (2, .int ((pg_set u.2 i (nI k) (u.2 2 k)) + 0)), (0, .ref (a 0)), (1, .int (nI k))]) hx hb dX5_dueFor_60 hl (k := 1) rfl (by rw [nI_succ]; rfl) (by decide) rfl (fun ls hl => ?_)
              refine lv_goto (tgt := 4) hx hb dX5_dueFor_63 (by decide) ?_
              exact ih (i + 1) ((pg_set u.2 i (nI k) (u.2 2 k)) + 0) (by omega) (by omega) (by show pg_set u.2 i (nI k) (u.2 2 k) + 0 = pg_set u.2 i (nI k) (u.2 2 k) + (if u.2 7 i = nI k then (if u.2 10 i = -1 then 0 else if u.2 10 i < u.2 2 k then 0 else u.2 10 i) else 0); rw [if_pos c_20, if_neg c_30, if_pos c_45]) _ _ hP hD hS ls (lv_sub hl [0, 1, 2, 3] rfl)
            · refine lv_aload_n hx hb dX5_dueFor_48 rfl (lv_at hl 2 rfl) ?_
              refine va_get (D := D) (ci := 5) (v := .ref (a 11)) (C := RX5) (T := TX5) (N := 31) hx hb hts hiX5 hown hK hP 0 rfl rfl 24 (by decide) hw3 (fun _ h9 => h9) rfl dX5_dueFor_49 ?_
              refine lv_iload_n hx hb dX5_dueFor_52 rfl (lv_at hl 0 rfl) ?_
              refine pg_ild (f := u.2 10) hx hb hK hP 11 0 rfl rfl (show i < _ by omega) (by decide) dX5_dueFor_53 ?_
              refine lv_goto (tgt := 58) hx hb dX5_dueFor_54 (by decide) ?_
              refine lv_iadd hx hb dX5_dueFor_58 ?_
              refine lv_istore_n (lv' := [(2, .int ((pg_set u.2 i (nI k) (u.2 2 k)) + (u.2 10 i))), (3, .int (nI i)), (0, .ref (a 0)), (1, .int (nI k))]) hx hb dX5_dueFor_59 rfl hl (by decide) rfl (fun ls hl => ?_)
              refine lv_iinc (v := nI (i + 1)) (lv' := [(3, .int (nI (i + 1))), (2, .int ((pg_set u.2 i (nI k) (u.2 2 k)) + (u.2 10 i))), (0, .ref (a 0)), (1, .int (nI k))]) hx hb dX5_dueFor_60 hl (k := 1) rfl (by rw [nI_succ]; rfl) (by decide) rfl (fun ls hl => ?_)
              refine lv_goto (tgt := 4) hx hb dX5_dueFor_63 (by decide) ?_
              exact ih (i + 1) ((pg_set u.2 i (nI k) (u.2 2 k)) + (u.2 10 i)) (by omega) (by omega) (by show pg_set u.2 i (nI k) (u.2 2 k) + u.2 10 i = pg_set u.2 i (nI k) (u.2 2 k) + (if u.2 7 i = nI k then (if u.2 10 i = -1 then 0 else if u.2 10 i < u.2 2 k then 0 else u.2 10 i) else 0); rw [if_pos c_20, if_neg c_30, if_neg c_45]) _ _ hP hD hS ls (lv_sub hl [0, 1, 2, 3] rfl)
  exact L4 (n + 1) 0 0 (by omega) (by omega) rfl _ _ hP hD hS ls hl
set_option maxHeartbeats 4000000 in
set_option maxRecDepth 100000 in
/-- dueAll() -/
theorem cm_dueAll (l : Launch) (D : va_G) (cI cZ : ClassId) (a : Nat → Nat) (sz : Nat) (u : pg_St) (n : Nat) (hn : u.1 10 = nI n) (h20 : n ≤ 20) : Met l yX5_dueAll wsX5_dueAll ({ frames := 1, cells := 0, slots := 0, locals := 23 }) (va_Pc [.ref (a 0)] (pg_B D (pg_ty cI cZ) (pg_wM cI cZ a u) sz)) (va_Qi (fun r u' => r = pg_all u.2 n ∧ u' = u) (pg_E D (pg_ty cI cZ) (va_A (pg_wM cI cZ a u) sz) (pg_wM cI cZ a)) (va_A (pg_wM cI cZ a u) sz)) 0 0 (va_A (pg_wM cI cZ a u) sz) := by
  refine Met.ofW (cc := cX5_dueAll) (maxL := 1) (ret := (some .int)) (by decide) rfl ?_
  intro p e s m args below meth c s₁ B hml hv
  obtain ⟨rfl, hsz, hP, hK, hD0⟩ := hv
  have hx := B.exec
  have hb := B.bytes
  have hr := B.returns
  have hts := atoms_spec (ws := wsX5_dueAll) B.pre
  have hown : s.vm.findClass RX5 = some m.cls := findClass_of_methodNamed B.named
  have hlocks := B.notSynchronized
  subst hsz
  have hD := hD0.self (sz := s.heap.size)
  generalize hAe : va_A (pg_wM cI cZ a u) s.heap.size = A at hD ⊢
  have hA : ∀ q : Nat, s.heap.size ≤ q → A q := fun q h => by rw [← hAe]; exact Or.inr h
  have hS : va_S A s.heap s.heap [] := va_S.rf
  have hl := lv_entry ([.ref (a 0)]) (n := 1) (Nat.le_of_ble_eq_true rfl)
  rw [lg_entry_eq]
  generalize (lg_sl ([.ref (a 0)]) ++ List.replicate (1 - (lg_sl ([.ref (a 0)])).length) Slot.unset).toArray = ls at hl ⊢
  have hl : lv_has ls 1 [(0, .ref (a 0))] := hl
  refine lv_aload_n hx hb dX5_dueAll_0 rfl (lv_at hl 0 rfl) ?_
  refine lv_iconst (v := 0) hx hb dX5_dueAll_1 (by decide) ?_
  refine pg_iE (pg_rV (As := [.int (nI 0)]) (rest := []) ⟨hx, hb, hml, hown, hts⟩ (cm_dueFor l D cI cZ a s.heap.size u n hn h20 0 (by decide)) (cwV 1 hts gX5_dueAll_X5_dueFor rfl rfl rfl (by decide +kernel) ⟨Nat.le_of_ble_eq_true rfl, Nat.le_of_ble_eq_true rfl⟩) hK hP hD 0 (ci := 5) rfl rfl rfl rfl hl.1 rfl (Nat.le_of_ble_eq_true rfl) dX5_dueAll_2 ⟨Nat.le_of_ble_eq_true rfl, Nat.le_of_ble_eq_true rfl⟩) hD hS hA (fun H locs hP hD hS => ?_)
  refine lv_aload_n hx hb dX5_dueAll_5 rfl (lv_at hl 0 rfl) ?_
  refine lv_iconst (v := 1) hx hb dX5_dueAll_6 (by decide) ?_
  refine pg_iE (pg_rV (As := [.int (nI 1)]) (rest := [.int (pg_due u.2 n 0)]) ⟨hx, hb, hml, hown, hts⟩ (cm_dueFor l D cI cZ a H.size u n hn h20 1 (by decide)) (cwV 1 hts gX5_dueAll_X5_dueFor rfl rfl rfl (by decide +kernel) ⟨Nat.le_of_ble_eq_true rfl, Nat.le_of_ble_eq_true rfl⟩) hK hP hD 0 (ci := 5) rfl rfl rfl rfl hl.1 rfl (Nat.le_of_ble_eq_true rfl) dX5_dueAll_7 ⟨Nat.le_of_ble_eq_true rfl, Nat.le_of_ble_eq_true rfl⟩) hD hS hA (fun H locs hP hD hS => ?_)
  refine lv_iadd hx hb dX5_dueAll_10 ?_
  refine lv_aload_n hx hb dX5_dueAll_11 rfl (lv_at hl 0 rfl) ?_
  refine lv_iconst (v := 2) hx hb dX5_dueAll_12 (by decide) ?_
  refine pg_iE (pg_rV (As := [.int (nI 2)]) (rest := [.int ((pg_due u.2 n 0) + (pg_due u.2 n 1))]) ⟨hx, hb, hml, hown, hts⟩ (cm_dueFor l D cI cZ a H.size u n hn h20 2 (by decide)) (cwV 1 hts gX5_dueAll_X5_dueFor rfl rfl rfl (by decide +kernel) ⟨Nat.le_of_ble_eq_true rfl, Nat.le_of_ble_eq_true rfl⟩) hK hP hD 0 (ci := 5) rfl rfl rfl rfl hl.1 rfl (Nat.le_of_ble_eq_true rfl) dX5_dueAll_13 ⟨Nat.le_of_ble_eq_true rfl, Nat.le_of_ble_eq_true rfl⟩) hD hS hA (fun H locs hP hD hS => ?_)
  refine lv_iadd hx hb dX5_dueAll_16 ?_
  exact W.iret (v := ((pg_due u.2 n 0) + (pg_due u.2 n 1)) + (pg_due u.2 n 2)) hx hb hr (fun t9 ht9 hW9 => ⟨⟨((pg_due u.2 n 0) + (pg_due u.2 n 1)) + (pg_due u.2 n 2), u, rfl, ⟨pg_all_m u.2 n, rfl⟩, by rw [ht9]; exact hP, va_K.moved hW9.alike hK, hD⟩, hS.F ht9⟩) hS.2.2 dX5_dueAll_17
set_option maxHeartbeats 4000000 in
set_option maxRecDepth 100000 in
/-- open() -/
theorem cm_open (l : Launch) (D : va_G) (cI cZ : ClassId) (a : Nat → Nat) (sz : Nat) (u : pg_St) (n : Nat) (hn : u.1 10 = nI n) (h20 : n ≤ 20) : Met l yX5_open wsX5_open ({ frames := 2, cells := 0, slots := 0, locals := 43 }) (va_Pc [.ref (a 0)] (pg_B D (pg_ty cI cZ) (pg_wM cI cZ a u) sz)) (va_Qi (fun r u' => r = pg_out u n ∧ u' = u) (pg_E D (pg_ty cI cZ) (va_A (pg_wM cI cZ a u) sz) (pg_wM cI cZ a)) (va_A (pg_wM cI cZ a u) sz)) 0 0 (va_A (pg_wM cI cZ a u) sz) := by
  refine Met.ofW (cc := cX5_open) (maxL := 1) (ret := (some .int)) (by decide) rfl ?_
  intro p e s m args below meth c s₁ B hml hv
  obtain ⟨rfl, hsz, hP, hK, hD0⟩ := hv
  have hx := B.exec
  have hb := B.bytes
  have hr := B.returns
  have hts := atoms_spec (ws := wsX5_open) B.pre
  have hown : s.vm.findClass RX5 = some m.cls := findClass_of_methodNamed B.named
  have hlocks := B.notSynchronized
  subst hsz
  have hD := hD0.self (sz := s.heap.size)
  generalize hAe : va_A (pg_wM cI cZ a u) s.heap.size = A at hD ⊢
  have hA : ∀ q : Nat, s.heap.size ≤ q → A q := fun q h => by rw [← hAe]; exact Or.inr h
  have hS : va_S A s.heap s.heap [] := va_S.rf
  have hl := lv_entry ([.ref (a 0)]) (n := 1) (Nat.le_of_ble_eq_true rfl)
  rw [lg_entry_eq]
  generalize (lg_sl ([.ref (a 0)]) ++ List.replicate (1 - (lg_sl ([.ref (a 0)])).length) Slot.unset).toArray = ls at hl ⊢
  have hl : lv_has ls 1 [(0, .ref (a 0))] := hl
  have hiX5 : ∀ w ∈ wsX50, w ∈ wsX5_open := fun _ h => List.mem_cons_of_mem _ (List.mem_append_right _ (h))
  have hw1 := hts (.fieldLink RX5 116 "PegBoxModel" "returned" "I") (List.mem_of_getElem? (i := 1) rfl)
  have hw2 := hts (.fieldLink RX5 119 "PegBoxModel" "setOff" "I") (List.mem_of_getElem? (i := 2) rfl)
  refine lv_aload_n hx hb dX5_open_0 rfl (lv_at hl 0 rfl) ?_
  refine pg_iE (pg_rV (As := []) (rest := []) ⟨hx, hb, hml, hown, hts⟩ (cm_dueAll l D cI cZ a s.heap.size u n hn h20) (cwV 0 hts gX5_open_X5_dueAll rfl rfl rfl (by decide +kernel) ⟨Nat.le_of_ble_eq_true rfl, Nat.le_of_ble_eq_true rfl⟩) hK hP hD 0 (ci := 5) rfl rfl rfl rfl hl.1 rfl (Nat.le_of_ble_eq_true rfl) dX5_open_1 ⟨Nat.le_of_ble_eq_true rfl, Nat.le_of_ble_eq_true rfl⟩) hD hS hA (fun H locs hP hD hS => ?_)
  refine lv_aload_n hx hb dX5_open_4 rfl (lv_at hl 0 rfl) ?_
  refine va_get (D := D) (ci := 5) (v := .int (u.1 7)) (C := RX5) (T := TX5) (N := 31) hx hb hts hiX5 hown hK hP 0 rfl rfl 18 (by decide) hw1 (fun _ h9 => h9) rfl dX5_open_5 ?_
  refine lv_isub hx hb dX5_open_8 ?_
  refine lv_aload_n hx hb dX5_open_9 rfl (lv_at hl 0 rfl) ?_
  refine va_get (D := D) (ci := 5) (v := .int (u.1 8)) (C := RX5) (T := TX5) (N := 31) hx hb hts hiX5 hown hK hP 0 rfl rfl 19 (by decide) hw2 (fun _ h9 => h9) rfl dX5_open_10 ?_
  refine lv_isub hx hb dX5_open_13 ?_
  exact W.iret (v := ((pg_all u.2 n) - (u.1 7)) - (u.1 8)) hx hb hr (fun t9 ht9 hW9 => ⟨⟨((pg_all u.2 n) - (u.1 7)) - (u.1 8), u, rfl, ⟨rfl, rfl⟩, by rw [ht9]; exact hP, va_K.moved hW9.alike hK, hD⟩, hS.F ht9⟩) hS.2.2 dX5_open_14
set_option maxHeartbeats 4000000 in
set_option maxRecDepth 100000 in
/-- settles(claim, at) -/
theorem cm_settles (l : Launch) (D : va_G) (cI cZ : ClassId) (a : Nat → Nat) (sz : Nat) (u : pg_St) (n : Nat) (hn : u.1 10 = nI n) (h20 : n ≤ 20) (j : Nat) (hj : j < n) (x : Int32) : Met l yX5_settles wsX5_settles ({ frames := 3, cells := 0, slots := 0, locals := 63 }) (va_Pc [.ref (a 0), .int (nI j), .int x] (pg_B D (pg_ty cI cZ) (pg_wM cI cZ a u) sz)) (va_Qi (fun r u' => r = pg_back (pg_at u j x) n ∧ u' = pg_pay (pg_at u j x) n (u.1 3)) (pg_E D (pg_ty cI cZ) (va_A (pg_wM cI cZ a u) sz) (pg_wM cI cZ a)) (va_A (pg_wM cI cZ a u) sz)) 0 0 (va_A (pg_wM cI cZ a u) sz) := by
  refine Met.ofW (cc := cX5_settles) (maxL := 4) (ret := (some .int)) (by decide) rfl ?_
  intro p e s m args below meth c s₁ B hml hv
  obtain ⟨rfl, hsz, hP, hK, hD0⟩ := hv
  have hx := B.exec
  have hb := B.bytes
  have hr := B.returns
  have hts := atoms_spec (ws := wsX5_settles) B.pre
  have hown : s.vm.findClass RX5 = some m.cls := findClass_of_methodNamed B.named
  have hlocks := B.notSynchronized
  subst hsz
  have hD := hD0.self (sz := s.heap.size)
  generalize hAe : va_A (pg_wM cI cZ a u) s.heap.size = A at hD ⊢
  have hA : ∀ q : Nat, s.heap.size ≤ q → A q := fun q h => by rw [← hAe]; exact Or.inr h
  have hS : va_S A s.heap s.heap [] := va_S.rf
  have hl := lv_entry ([.ref (a 0), .int (nI j), .int x]) (n := 4) (Nat.le_of_ble_eq_true rfl)
  rw [lg_entry_eq]
  generalize (lg_sl ([.ref (a 0), .int (nI j), .int x]) ++ List.replicate (4 - (lg_sl ([.ref (a 0), .int (nI j), .int x])).length) Slot.unset).toArray = ls at hl ⊢
  have hl : lv_has ls 4 [(0, .ref (a 0)), (1, .int (nI j)), (2, .int x)] := hl
  have hiX5 : ∀ w ∈ wsX50, w ∈ wsX5_settles := fun _ h => List.mem_cons_of_mem _ (List.mem_append_right _ (h))
  have hw1 := hts (.fieldLink RX5 47 "PegBoxModel" "settled" "[I") (List.mem_of_getElem? (i := 1) rfl)
  have hw2 := hts (.fieldLink RX5 90 "PegBoxModel" "held" "I") (List.mem_of_getElem? (i := 2) rfl)
  have hw3 := hts (.fieldLink RX5 116 "PegBoxModel" "returned" "I") (List.mem_of_getElem? (i := 3) rfl)
  refine lv_aload_n hx hb dX5_settles_0 rfl (lv_at hl 0 rfl) ?_
  refine va_get (D := D) (ci := 5) (v := .ref (a 11)) (C := RX5) (T := TX5) (N := 31) hx hb hts hiX5 hown hK hP 0 rfl rfl 24 (by decide) hw1 (fun _ h9 => h9) rfl dX5_settles_1 ?_
  refine lv_iload_n hx hb dX5_settles_4 rfl (lv_at hl 1 rfl) ?_
  refine lv_iload_n hx hb dX5_settles_5 rfl (lv_at hl 2 rfl) ?_
  refine pg_ist hx hb hK hP hD hS 11 0 rfl rfl (show j < _ by omega) (by decide) dX5_settles_6 (fun H locs hP hD hS => ?_)
  have hP : va_P D vwCl (pg_wM cI cZ a (u.1, (pg_row u.2 10 (upd (u.2 10) j x)))) H := hP
  have hD : va_D A (pg_wM cI cZ a (u.1, (pg_row u.2 10 (upd (u.2 10) j x)))) := hD
  refine lv_aload_n hx hb dX5_settles_7 rfl (lv_at hl 0 rfl) ?_
  refine pg_iE (pg_rV (As := []) (rest := []) ⟨hx, hb, hml, hown, hts⟩ (cm_open l D cI cZ a H.size (u.1, (pg_row u.2 10 (upd (u.2 10) j x))) n hn h20) (cwV 0 hts gX5_settles_X5_open rfl rfl rfl (by decide +kernel) ⟨Nat.le_of_ble_eq_true rfl, Nat.le_of_ble_eq_true rfl⟩) hK hP hD 0 (ci := 5) rfl rfl rfl rfl hl.1 rfl (Nat.le_of_ble_eq_true rfl) dX5_settles_8 ⟨Nat.le_of_ble_eq_true rfl, Nat.le_of_ble_eq_true rfl⟩) hD hS hA (fun H locs hP hD hS => ?_)
  refine lv_aload_n hx hb dX5_settles_11 rfl (lv_at hl 0 rfl) ?_
  refine va_get (D := D) (ci := 5) (v := .int (u.1 5)) (C := RX5) (T := TX5) (N := 31) hx hb hts hiX5 hown hK hP 0 rfl rfl 16 (by decide) hw2 (fun _ h9 => h9) rfl dX5_settles_12 ?_
  refine lv_icmp_ge (tgt := 25) hx hb dX5_settles_15 (by decide) (fun c_15 => ?_) (fun c_15 => ?_)
  · refine lv_aload_n hx hb dX5_settles_25 rfl (lv_at hl 0 rfl) ?_
    refine va_get (D := D) (ci := 5) (v := .int (u.1 5)) (C := RX5) (T := TX5) (N := 31) hx hb hts hiX5 hown hK hP 0 rfl rfl 16 (by decide) hw2 (fun _ h9 => h9) rfl dX5_settles_26 ?_
    refine lv_topi (fun f1 ef1 => ?_)
    have e1 : f1 = pg_back (pg_at u j x) n := by rw [ef1, pg_back, ← pg_min_m]; exact (if_pos c_15).symm
    refine lv_istore_n (lv' := [(3, .int f1), (0, .ref (a 0)), (1, .int (nI j)), (2, .int x)]) hx hb dX5_settles_29 rfl hl (by decide) rfl (fun ls hl => ?_)
    refine lv_aload_n hx hb dX5_settles_30 rfl (lv_at hl 1 rfl) ?_
    refine lv_dup hx hb dX5_settles_31 rfl ?_
    refine va_get (D := D) (ci := 5) (v := .int (u.1 5)) (C := RX5) (T := TX5) (N := 31) hx hb hts hiX5 hown hK hP 0 rfl rfl 16 (by decide) hw2 (fun _ h9 => h9) rfl dX5_settles_32 ?_
    refine lv_iload_n hx hb dX5_settles_35 rfl (lv_at hl 0 rfl) ?_
    refine lv_isub hx hb dX5_settles_36 ?_
    refine va_put (D := D) (ci := 5) (v := .int ((u.1 5) - f1)) (ty := .int) (C := RX5) (T := TX5) (N := 31) hx hb hts hiX5 tyX5 tyX5_ok nmX5 hown hK hP hD hS 0 rfl rfl 16 (by decide) hw2 (fun _ h9 => h9) rfl (by decide +kernel) rfl rfl (Nat.le_of_ble_eq_true rfl) dX5_settles_37 (fun H locs hP hD hS => ?_)
    have hP : va_P D vwCl (pg_wM cI cZ a ((upd u.1 5 ((u.1 5) - f1)), (pg_row u.2 10 (upd (u.2 10) j x)))) H := hP
    have hD : va_D A (pg_wM cI cZ a ((upd u.1 5 ((u.1 5) - f1)), (pg_row u.2 10 (upd (u.2 10) j x)))) := hD
    refine lv_aload_n hx hb dX5_settles_40 rfl (lv_at hl 1 rfl) ?_
    refine lv_dup hx hb dX5_settles_41 rfl ?_
    refine va_get (D := D) (ci := 5) (v := .int (u.1 7)) (C := RX5) (T := TX5) (N := 31) hx hb hts hiX5 hown hK hP 0 rfl rfl 18 (by decide) hw3 (fun _ h9 => h9) rfl dX5_settles_42 ?_
    refine lv_iload_n hx hb dX5_settles_45 rfl (lv_at hl 0 rfl) ?_
    refine lv_iadd hx hb dX5_settles_46 ?_
    refine va_put (D := D) (ci := 5) (v := .int ((u.1 7) + f1)) (ty := .int) (C := RX5) (T := TX5) (N := 31) hx hb hts hiX5 tyX5 tyX5_ok nmX5 hown hK hP hD hS 0 rfl rfl 18 (by decide) hw3 (fun _ h9 => h9) rfl (by decide +kernel) rfl rfl (Nat.le_of_ble_eq_true rfl) dX5_settles_47 (fun H locs hP hD hS => ?_)
    have hP : va_P D vwCl (pg_wM cI cZ a ((upd (upd u.1 5 ((u.1 5) - f1)) 7 ((u.1 7) + f1)), (pg_row u.2 10 (upd (u.2 10) j x)))) H := hP
    have hD : va_D A (pg_wM cI cZ a ((upd (upd u.1 5 ((u.1 5) - f1)) 7 ((u.1 7) + f1)), (pg_row u.2 10 (upd (u.2 10) j x)))) := hD
    refine lv_aload_n hx hb dX5_settles_50 rfl (lv_at hl 1 rfl) ?_
    refine pg_vE (pg_rV (As := []) (rest := []) ⟨hx, hb, hml, hown, hts⟩ (cm_frees l D cI cZ a H.size ((upd (upd u.1 5 ((u.1 5) - f1)) 7 ((u.1 7) + f1)), (pg_row u.2 10 (upd (u.2 10) j x))) n hn h20) (cwV 0 hts gX5_settles_X5_frees rfl rfl rfl (by decide +kernel) ⟨Nat.le_of_ble_eq_true rfl, Nat.le_of_ble_eq_true rfl⟩) hK hP hD 0 (ci := 5) rfl rfl rfl rfl hl.1 rfl (Nat.le_of_ble_eq_true rfl) dX5_settles_51 ⟨Nat.le_of_ble_eq_true rfl, Nat.le_of_ble_eq_true rfl⟩) hD hS hA (fun H locs hP hD hS => ?_)
    refine lv_iload_n hx hb dX5_settles_54 rfl (lv_at hl 0 rfl) ?_
    exact W.iret (v := f1) hx hb hr (fun t9 ht9 hW9 => ⟨⟨f1, (pg_free ((upd (upd u.1 5 ((u.1 5) - f1)) 7 ((u.1 7) + f1)), (pg_row u.2 10 (upd (u.2 10) j x))) n (u.1 3)), rfl, ⟨e1, by rw [e1]; rfl⟩, by rw [ht9]; exact hP, va_K.moved hW9.alike hK, hD⟩, hS.F ht9⟩) hS.2.2 dX5_settles_55
  · refine lv_aload_n hx hb dX5_settles_18 rfl (lv_at hl 0 rfl) ?_
    refine pg_iE (pg_rV (As := []) (rest := []) ⟨hx, hb, hml, hown, hts⟩ (cm_open l D cI cZ a H.size (u.1, (pg_row u.2 10 (upd (u.2 10) j x))) n hn h20) (cwV 0 hts gX5_settles_X5_open rfl rfl rfl (by decide +kernel) ⟨Nat.le_of_ble_eq_true rfl, Nat.le_of_ble_eq_true rfl⟩) hK hP hD 0 (ci := 5) rfl rfl rfl rfl hl.1 rfl (Nat.le_of_ble_eq_true rfl) dX5_settles_19 ⟨Nat.le_of_ble_eq_true rfl, Nat.le_of_ble_eq_true rfl⟩) hD hS hA (fun H locs hP hD hS => ?_)
    refine lv_goto (tgt := 29) hx hb dX5_settles_22 (by decide) ?_
    refine lv_topi (fun f1 ef1 => ?_)
    have e1 : f1 = pg_back (pg_at u j x) n := by rw [ef1, pg_back, ← pg_min_m]; exact (if_neg c_15).symm
    refine lv_istore_n (lv' := [(3, .int f1), (0, .ref (a 0)), (1, .int (nI j)), (2, .int x)]) hx hb dX5_settles_29 rfl hl (by decide) rfl (fun ls hl => ?_)
    refine lv_aload_n hx hb dX5_settles_30 rfl (lv_at hl 1 rfl) ?_
    refine lv_dup hx hb dX5_settles_31 rfl ?_
    refine va_get (D := D) (ci := 5) (v := .int (u.1 5)) (C := RX5) (T := TX5) (N := 31) hx hb hts hiX5 hown hK hP 0 rfl rfl 16 (by decide) hw2 (fun _ h9 => h9) rfl dX5_settles_32 ?_
    refine lv_iload_n hx hb dX5_settles_35 rfl (lv_at hl 0 rfl) ?_
    refine lv_isub hx hb dX5_settles_36 ?_
    refine va_put (D := D) (ci := 5) (v := .int ((u.1 5) - f1)) (ty := .int) (C := RX5) (T := TX5) (N := 31) hx hb hts hiX5 tyX5 tyX5_ok nmX5 hown hK hP hD hS 0 rfl rfl 16 (by decide) hw2 (fun _ h9 => h9) rfl (by decide +kernel) rfl rfl (Nat.le_of_ble_eq_true rfl) dX5_settles_37 (fun H locs hP hD hS => ?_)
    have hP : va_P D vwCl (pg_wM cI cZ a ((upd u.1 5 ((u.1 5) - f1)), (pg_row u.2 10 (upd (u.2 10) j x)))) H := hP
    have hD : va_D A (pg_wM cI cZ a ((upd u.1 5 ((u.1 5) - f1)), (pg_row u.2 10 (upd (u.2 10) j x)))) := hD
    refine lv_aload_n hx hb dX5_settles_40 rfl (lv_at hl 1 rfl) ?_
    refine lv_dup hx hb dX5_settles_41 rfl ?_
    refine va_get (D := D) (ci := 5) (v := .int (u.1 7)) (C := RX5) (T := TX5) (N := 31) hx hb hts hiX5 hown hK hP 0 rfl rfl 18 (by decide) hw3 (fun _ h9 => h9) rfl dX5_settles_42 ?_
    refine lv_iload_n hx hb dX5_settles_45 rfl (lv_at hl 0 rfl) ?_
    refine lv_iadd hx hb dX5_settles_46 ?_
    refine va_put (D := D) (ci := 5) (v := .int ((u.1 7) + f1)) (ty := .int) (C := RX5) (T := TX5) (N := 31) hx hb hts hiX5 tyX5 tyX5_ok nmX5 hown hK hP hD hS 0 rfl rfl 18 (by decide) hw3 (fun _ h9 => h9) rfl (by decide +kernel) rfl rfl (Nat.le_of_ble_eq_true rfl) dX5_settles_47 (fun H locs hP hD hS => ?_)
    have hP : va_P D vwCl (pg_wM cI cZ a ((upd (upd u.1 5 ((u.1 5) - f1)) 7 ((u.1 7) + f1)), (pg_row u.2 10 (upd (u.2 10) j x)))) H := hP
    have hD : va_D A (pg_wM cI cZ a ((upd (upd u.1 5 ((u.1 5) - f1)) 7 ((u.1 7) + f1)), (pg_row u.2 10 (upd (u.2 10) j x)))) := hD
    refine lv_aload_n hx hb dX5_settles_50 rfl (lv_at hl 1 rfl) ?_
    refine pg_vE (pg_rV (As := []) (rest := []) ⟨hx, hb, hml, hown, hts⟩ (cm_frees l D cI cZ a H.size ((upd (upd u.1 5 ((u.1 5) - f1)) 7 ((u.1 7) + f1)), (pg_row u.2 10 (upd (u.2 10) j x))) n hn h20) (cwV 0 hts gX5_settles_X5_frees rfl rfl rfl (by decide +kernel) ⟨Nat.le_of_ble_eq_true rfl, Nat.le_of_ble_eq_true rfl⟩) hK hP hD 0 (ci := 5) rfl rfl rfl rfl hl.1 rfl (Nat.le_of_ble_eq_true rfl) dX5_settles_51 ⟨Nat.le_of_ble_eq_true rfl, Nat.le_of_ble_eq_true rfl⟩) hD hS hA (fun H locs hP hD hS => ?_)
    refine lv_iload_n hx hb dX5_settles_54 rfl (lv_at hl 0 rfl) ?_
    exact W.iret (v := f1) hx hb hr (fun t9 ht9 hW9 => ⟨⟨f1, (pg_free ((upd (upd u.1 5 ((u.1 5) - f1)) 7 ((u.1 7) + f1)), (pg_row u.2 10 (upd (u.2 10) j x))) n (u.1 3)), rfl, ⟨e1, by rw [e1]; rfl⟩, by rw [ht9]; exact hP, va_K.moved hW9.alike hK, hD⟩, hS.F ht9⟩) hS.2.2 dX5_settles_55
set_option maxHeartbeats 4000000 in
set_option maxRecDepth 100000 in
/-- cm_agree: fine -/
theorem cm_agree_ok (l : Launch) (D : va_G) (cI cZ : ClassId) (a : Nat → Nat) (sz : Nat) (u : pg_St) (n : Nat) (hn : u.1 10 = nI n) (h20 : n ≤ 20) (k : Int32) (hthr : pg_t_agree u.2 (nI n) k = 0) : Met l yX5_agree wsX5_agree ({ frames := 4, cells := 0, slots := 0, locals := 86 }) (va_Pc [.ref (a 0), .int k] (pg_B D (pg_ty cI cZ) (pg_wM cI cZ a u) sz)) (va_Qi (fun r u' => r = pg_back (pg_at (upd u.1 15 0, u.2) k.toNatClampNeg (u.2 9 k.toNatClampNeg)) n ∧ u' = pg_pay (pg_at (upd u.1 15 0, u.2) k.toNatClampNeg (u.2 9 k.toNatClampNeg)) n (u.1 3)) (pg_E D (pg_ty cI cZ) (va_A (pg_wM cI cZ a u) sz) (pg_wM cI cZ a)) (va_A (pg_wM cI cZ a u) sz)) 0 0 (va_A (pg_wM cI cZ a u) sz) := by
  refine Met.ofW (cc := cX5_agree) (maxL := 3) (ret := (some .int)) (by decide) rfl ?_
  intro p e s m args below meth c s₁ B hml hv
  obtain ⟨rfl, hsz, hP, hK, hD0⟩ := hv
  have hx := B.exec
  have hb := B.bytes
  have hr := B.returns
  have hts := atoms_spec (ws := wsX5_agree) B.pre
  have hown : s.vm.findClass RX5 = some m.cls := findClass_of_methodNamed B.named
  have hlocks := B.notSynchronized
  subst hsz
  have hD := hD0.self (sz := s.heap.size)
  generalize hAe : va_A (pg_wM cI cZ a u) s.heap.size = A at hD ⊢
  have hA : ∀ q : Nat, s.heap.size ≤ q → A q := fun q h => by rw [← hAe]; exact Or.inr h
  have hS : va_S A s.heap s.heap [] := va_S.rf
  have hl := lv_entry ([.ref (a 0), .int k]) (n := 3) (Nat.le_of_ble_eq_true rfl)
  rw [lg_entry_eq]
  generalize (lg_sl ([.ref (a 0), .int k]) ++ List.replicate (3 - (lg_sl ([.ref (a 0), .int k])).length) Slot.unset).toArray = ls at hl ⊢
  have hl : lv_has ls 3 [(0, .ref (a 0)), (1, .int k)] := hl
  have hiX5 : ∀ w ∈ wsX50, w ∈ wsX5_agree := fun _ h => List.mem_cons_of_mem _ (List.mem_append_right _ (h))
  have hw1 := hts (.fieldLink RX5 47 "PegBoxModel" "settled" "[I") (List.mem_of_getElem? (i := 1) rfl)
  have hw2 := hts (.fieldLink RX5 44 "PegBoxModel" "offered" "[I") (List.mem_of_getElem? (i := 2) rfl)
  refine lv_aload_n hx hb dX5_agree_0 rfl (lv_at hl 0 rfl) ?_
  refine lv_iload_n hx hb dX5_agree_1 rfl (lv_at hl 1 rfl) ?_
  rcases Bool.eq_false_or_eq_true (pg_nb k (nI n)) with c_2 | c_2
  · refine pg_iE (pg_rV (As := [.int k]) (rest := []) ⟨hx, hb, hml, hown, hts⟩ (cm_isClaim_t l D cI cZ a s.heap.size u n hn h20 k c_2) (cwV 1 hts gX5_agree_X5_isClaim rfl rfl rfl (by decide +kernel) ⟨Nat.le_of_ble_eq_true rfl, Nat.le_of_ble_eq_true rfl⟩) hK hP hD 0 (ci := 5) rfl rfl rfl rfl hl.1 rfl (Nat.le_of_ble_eq_true rfl) dX5_agree_2 ⟨Nat.le_of_ble_eq_true rfl, Nat.le_of_ble_eq_true rfl⟩) hD hS hA (fun H locs hP hD hS => ?_)
    obtain ⟨j, hj, rfl⟩ := pg_nb_nI (n := n) (by omega) c_2
    have hcl : (nI j).toNatClampNeg = j := nI_clamp (by omega)
    refine lv_if_ne (tgt := 12) hx hb dX5_agree_5 (by decide) (fun c_5 => ?_) (fun c_5 => absurd c_5 (by decide))
    refine lv_aload_n hx hb dX5_agree_12 rfl (lv_at hl 0 rfl) ?_
    refine va_get (D := D) (ci := 5) (v := .ref (a 11)) (C := RX5) (T := TX5) (N := 31) hx hb hts hiX5 hown hK hP 0 rfl rfl 24 (by decide) hw1 (fun _ h9 => h9) rfl dX5_agree_13 ?_
    refine lv_iload_n hx hb dX5_agree_16 rfl (lv_at hl 1 rfl) ?_
    refine pg_ild (f := u.2 10) hx hb hK hP 11 0 rfl rfl (show j < _ by omega) (by decide) dX5_agree_17 ?_
    refine lv_iconst (v := (-1)) hx hb dX5_agree_18 (by decide) ?_
    refine lv_icmp_ne (tgt := 32) hx hb dX5_agree_19 (by decide) (fun c_19 => ?_) (fun c_19 => ?_)
    · have d_19 := pg_eq_f c_19
      refine lv_iconst (v := 2) hx hb dX5_agree_32 (by decide) ?_
      refine lv_goto (tgt := 37) hx hb dX5_agree_33 (by decide) ?_
      refine lv_istore_n (lv' := [(2, .int 2), (0, .ref (a 0)), (1, .int (nI j))]) hx hb dX5_agree_37 rfl hl (by decide) rfl (fun ls hl => ?_)
      refine lv_aload_n hx hb dX5_agree_38 rfl (lv_at hl 1 rfl) ?_
      refine lv_iload_n hx hb dX5_agree_39 rfl (lv_at hl 0 rfl) ?_
      exact absurd hthr (by first | (simp only [pg_t_agree, c_2, hcl, d_19, cond_true, cond_false, Bool.not_true, Bool.not_false]; done) | (simp only [pg_t_agree, c_2, hcl, d_19, cond_true, cond_false, Bool.not_true, Bool.not_false]; decide))
    · have d_19 := pg_eq_t c_19
      refine lv_aload_n hx hb dX5_agree_22 rfl (lv_at hl 0 rfl) ?_
      refine va_get (D := D) (ci := 5) (v := .ref (a 10)) (C := RX5) (T := TX5) (N := 31) hx hb hts hiX5 hown hK hP 0 rfl rfl 23 (by decide) hw2 (fun _ h9 => h9) rfl dX5_agree_23 ?_
      refine lv_iload_n hx hb dX5_agree_26 rfl (lv_at hl 1 rfl) ?_
      refine pg_ild (f := u.2 9) hx hb hK hP 10 0 rfl rfl (show j < _ by omega) (by decide) dX5_agree_27 ?_
      refine lv_iconst (v := (-1)) hx hb dX5_agree_28 (by decide) ?_
      refine lv_icmp_ne (tgt := 36) hx hb dX5_agree_29 (by decide) (fun c_29 => ?_) (fun c_29 => ?_)
      · have d_29 := pg_eq_f c_29
        refine lv_iconst (v := 0) hx hb dX5_agree_36 (by decide) ?_
        refine lv_istore_n (lv' := [(2, .int 0), (0, .ref (a 0)), (1, .int (nI j))]) hx hb dX5_agree_37 rfl hl (by decide) rfl (fun ls hl => ?_)
        refine lv_aload_n hx hb dX5_agree_38 rfl (lv_at hl 1 rfl) ?_
        refine lv_iload_n hx hb dX5_agree_39 rfl (lv_at hl 0 rfl) ?_
        refine pg_iE (pg_rV (As := [.int 0]) (rest := []) ⟨hx, hb, hml, hown, hts⟩ (cm_fine0 l D cI cZ a H.size u) (cwV 1 hts gX5_agree_X5_isFine rfl rfl rfl (by decide +kernel) ⟨Nat.le_of_ble_eq_true rfl, Nat.le_of_ble_eq_true rfl⟩) hK hP hD 0 (ci := 5) rfl rfl rfl rfl hl.1 rfl (Nat.le_of_ble_eq_true rfl) dX5_agree_40 ⟨Nat.le_of_ble_eq_true rfl, Nat.le_of_ble_eq_true rfl⟩) hD hS hA (fun H locs hP hD hS => ?_)
        refine lv_if_eq (tgt := 60) hx hb dX5_agree_43 (by decide) (fun c_43 => absurd c_43 (by decide)) (fun c_43 => ?_)
        refine lv_aload_n hx hb dX5_agree_46 rfl (lv_at hl 1 rfl) ?_
        refine lv_iload_n hx hb dX5_agree_47 rfl (lv_at hl 2 rfl) ?_
        refine lv_aload_n hx hb dX5_agree_48 rfl (lv_at hl 1 rfl) ?_
        refine va_get (D := D) (ci := 5) (v := .ref (a 10)) (C := RX5) (T := TX5) (N := 31) hx hb hts hiX5 hown hK hP 0 rfl rfl 23 (by decide) hw2 (fun _ h9 => h9) rfl dX5_agree_49 ?_
        refine lv_iload_n hx hb dX5_agree_52 rfl (lv_at hl 2 rfl) ?_
        refine pg_ild (f := u.2 9) hx hb hK hP 10 0 rfl rfl (show j < _ by omega) (by decide) dX5_agree_53 ?_
        refine pg_iE (pg_rV (As := [.int (nI j), .int (u.2 9 j)]) (rest := []) ⟨hx, hb, hml, hown, hts⟩ (cm_settles l D cI cZ a H.size ((upd u.1 15 0), u.2) n hn h20 j hj (u.2 9 j)) (cwV 2 hts gX5_agree_X5_settles rfl rfl rfl (by decide +kernel) ⟨Nat.le_of_ble_eq_true rfl, Nat.le_of_ble_eq_true rfl⟩) hK hP hD 0 (ci := 5) rfl rfl rfl rfl hl.1 rfl (Nat.le_of_ble_eq_true rfl) dX5_agree_54 ⟨Nat.le_of_ble_eq_true rfl, Nat.le_of_ble_eq_true rfl⟩) hD hS hA (fun H locs hP hD hS => ?_)
        refine lv_goto (tgt := 61) hx hb dX5_agree_57 (by decide) ?_
        exact W.iret (v := pg_back (pg_at (upd u.1 15 0, u.2) j (u.2 9 j)) n) hx hb hr (fun t9 ht9 hW9 => ⟨⟨pg_back (pg_at (upd u.1 15 0, u.2) j (u.2 9 j)) n, (pg_pay (pg_at (upd u.1 15 0, u.2) j (u.2 9 j)) n (u.1 3)), rfl, ⟨by rw [hcl], by rw [hcl]⟩, by rw [ht9]; exact hP, va_K.moved hW9.alike hK, hD⟩, hS.F ht9⟩) hS.2.2 dX5_agree_61
      · have d_29 := pg_eq_t c_29
        refine lv_iconst (v := 2) hx hb dX5_agree_32 (by decide) ?_
        refine lv_goto (tgt := 37) hx hb dX5_agree_33 (by decide) ?_
        refine lv_istore_n (lv' := [(2, .int 2), (0, .ref (a 0)), (1, .int (nI j))]) hx hb dX5_agree_37 rfl hl (by decide) rfl (fun ls hl => ?_)
        refine lv_aload_n hx hb dX5_agree_38 rfl (lv_at hl 1 rfl) ?_
        refine lv_iload_n hx hb dX5_agree_39 rfl (lv_at hl 0 rfl) ?_
        exact absurd hthr (by first | (simp only [pg_t_agree, c_2, hcl, d_19, d_29, cond_true, cond_false, Bool.not_true, Bool.not_false]; done) | (simp only [pg_t_agree, c_2, hcl, d_19, d_29, cond_true, cond_false, Bool.not_true, Bool.not_false]; decide))
  · refine pg_iE (pg_rV (As := [.int k]) (rest := []) ⟨hx, hb, hml, hown, hts⟩ (cm_isClaim_f l D cI cZ a s.heap.size u n hn h20 k c_2) (cwV 1 hts gX5_agree_X5_isClaim rfl rfl rfl (by decide +kernel) ⟨Nat.le_of_ble_eq_true rfl, Nat.le_of_ble_eq_true rfl⟩) hK hP hD 0 (ci := 5) rfl rfl rfl rfl hl.1 rfl (Nat.le_of_ble_eq_true rfl) dX5_agree_2 ⟨Nat.le_of_ble_eq_true rfl, Nat.le_of_ble_eq_true rfl⟩) hD hS hA (fun H locs hP hD hS => ?_)
    refine lv_if_ne (tgt := 12) hx hb dX5_agree_5 (by decide) (fun c_5 => absurd (by decide) c_5) (fun c_5 => ?_)
    refine lv_iconst (v := 1) hx hb dX5_agree_8 (by decide) ?_
    refine lv_goto (tgt := 37) hx hb dX5_agree_9 (by decide) ?_
    refine lv_istore_n (lv' := [(2, .int 1), (0, .ref (a 0)), (1, .int k)]) hx hb dX5_agree_37 rfl hl (by decide) rfl (fun ls hl => ?_)
    refine lv_aload_n hx hb dX5_agree_38 rfl (lv_at hl 1 rfl) ?_
    refine lv_iload_n hx hb dX5_agree_39 rfl (lv_at hl 0 rfl) ?_
    exact absurd hthr (by first | (simp only [pg_t_agree, c_2, cond_true, cond_false, Bool.not_true, Bool.not_false]; done) | (simp only [pg_t_agree, c_2, cond_true, cond_false, Bool.not_true, Bool.not_false]; decide))
set_option maxHeartbeats 4000000 in
set_option maxRecDepth 100000 in
/-- cm_agree: not fine -/
theorem cm_agree_no (l : Launch) (D : va_G) (cI cZ : ClassId) (a : Nat → Nat) (sz : Nat) (u : pg_St) (n : Nat) (hn : u.1 10 = nI n) (h20 : n ≤ 20) (k : Int32) (e9 : Int32) (hthr : pg_t_agree u.2 (nI n) k = e9) (h0 : e9 ≠ 0) : Met l yX5_agree wsX5_agree ({ frames := 4, cells := 0, slots := 0, locals := 86 }) (va_Pc [.ref (a 0), .int k] (pg_B D (pg_ty cI cZ) (pg_wM cI cZ a u) sz)) (va_Qi (fun r u' => r = 0 ∧ u' = (upd u.1 15 e9, u.2)) (pg_E D (pg_ty cI cZ) (va_A (pg_wM cI cZ a u) sz) (pg_wM cI cZ a)) (va_A (pg_wM cI cZ a u) sz)) 0 0 (va_A (pg_wM cI cZ a u) sz) := by
  refine Met.ofW (cc := cX5_agree) (maxL := 3) (ret := (some .int)) (by decide) rfl ?_
  intro p e s m args below meth c s₁ B hml hv
  obtain ⟨rfl, hsz, hP, hK, hD0⟩ := hv
  have hx := B.exec
  have hb := B.bytes
  have hr := B.returns
  have hts := atoms_spec (ws := wsX5_agree) B.pre
  have hown : s.vm.findClass RX5 = some m.cls := findClass_of_methodNamed B.named
  have hlocks := B.notSynchronized
  subst hsz
  have hD := hD0.self (sz := s.heap.size)
  generalize hAe : va_A (pg_wM cI cZ a u) s.heap.size = A at hD ⊢
  have hA : ∀ q : Nat, s.heap.size ≤ q → A q := fun q h => by rw [← hAe]; exact Or.inr h
  have hS : va_S A s.heap s.heap [] := va_S.rf
  have hl := lv_entry ([.ref (a 0), .int k]) (n := 3) (Nat.le_of_ble_eq_true rfl)
  rw [lg_entry_eq]
  generalize (lg_sl ([.ref (a 0), .int k]) ++ List.replicate (3 - (lg_sl ([.ref (a 0), .int k])).length) Slot.unset).toArray = ls at hl ⊢
  have hl : lv_has ls 3 [(0, .ref (a 0)), (1, .int k)] := hl
  have hiX5 : ∀ w ∈ wsX50, w ∈ wsX5_agree := fun _ h => List.mem_cons_of_mem _ (List.mem_append_right _ (h))
  have hw1 := hts (.fieldLink RX5 47 "PegBoxModel" "settled" "[I") (List.mem_of_getElem? (i := 1) rfl)
  have hw2 := hts (.fieldLink RX5 44 "PegBoxModel" "offered" "[I") (List.mem_of_getElem? (i := 2) rfl)
  refine lv_aload_n hx hb dX5_agree_0 rfl (lv_at hl 0 rfl) ?_
  refine lv_iload_n hx hb dX5_agree_1 rfl (lv_at hl 1 rfl) ?_
  rcases Bool.eq_false_or_eq_true (pg_nb k (nI n)) with c_2 | c_2
  · refine pg_iE (pg_rV (As := [.int k]) (rest := []) ⟨hx, hb, hml, hown, hts⟩ (cm_isClaim_t l D cI cZ a s.heap.size u n hn h20 k c_2) (cwV 1 hts gX5_agree_X5_isClaim rfl rfl rfl (by decide +kernel) ⟨Nat.le_of_ble_eq_true rfl, Nat.le_of_ble_eq_true rfl⟩) hK hP hD 0 (ci := 5) rfl rfl rfl rfl hl.1 rfl (Nat.le_of_ble_eq_true rfl) dX5_agree_2 ⟨Nat.le_of_ble_eq_true rfl, Nat.le_of_ble_eq_true rfl⟩) hD hS hA (fun H locs hP hD hS => ?_)
    obtain ⟨j, hj, rfl⟩ := pg_nb_nI (n := n) (by omega) c_2
    have hcl : (nI j).toNatClampNeg = j := nI_clamp (by omega)
    refine lv_if_ne (tgt := 12) hx hb dX5_agree_5 (by decide) (fun c_5 => ?_) (fun c_5 => absurd c_5 (by decide))
    refine lv_aload_n hx hb dX5_agree_12 rfl (lv_at hl 0 rfl) ?_
    refine va_get (D := D) (ci := 5) (v := .ref (a 11)) (C := RX5) (T := TX5) (N := 31) hx hb hts hiX5 hown hK hP 0 rfl rfl 24 (by decide) hw1 (fun _ h9 => h9) rfl dX5_agree_13 ?_
    refine lv_iload_n hx hb dX5_agree_16 rfl (lv_at hl 1 rfl) ?_
    refine pg_ild (f := u.2 10) hx hb hK hP 11 0 rfl rfl (show j < _ by omega) (by decide) dX5_agree_17 ?_
    refine lv_iconst (v := (-1)) hx hb dX5_agree_18 (by decide) ?_
    refine lv_icmp_ne (tgt := 32) hx hb dX5_agree_19 (by decide) (fun c_19 => ?_) (fun c_19 => ?_)
    · have d_19 := pg_eq_f c_19
      refine lv_iconst (v := 2) hx hb dX5_agree_32 (by decide) ?_
      refine lv_goto (tgt := 37) hx hb dX5_agree_33 (by decide) ?_
      refine lv_istore_n (lv' := [(2, .int 2), (0, .ref (a 0)), (1, .int (nI j))]) hx hb dX5_agree_37 rfl hl (by decide) rfl (fun ls hl => ?_)
      refine lv_aload_n hx hb dX5_agree_38 rfl (lv_at hl 1 rfl) ?_
      refine lv_iload_n hx hb dX5_agree_39 rfl (lv_at hl 0 rfl) ?_
      have he : e9 = 2 := hthr.symm.trans (by simp only [pg_t_agree, c_2, hcl, d_19, cond_true, cond_false, Bool.not_true, Bool.not_false])
      refine pg_iE (pg_rV (As := [.int 2]) (rest := []) ⟨hx, hb, hml, hown, hts⟩ (cm_fine1 l D cI cZ a H.size u 2 (by decide)) (cwV 1 hts gX5_agree_X5_isFine rfl rfl rfl (by decide +kernel) ⟨Nat.le_of_ble_eq_true rfl, Nat.le_of_ble_eq_true rfl⟩) hK hP hD 0 (ci := 5) rfl rfl rfl rfl hl.1 rfl (Nat.le_of_ble_eq_true rfl) dX5_agree_40 ⟨Nat.le_of_ble_eq_true rfl, Nat.le_of_ble_eq_true rfl⟩) hD hS hA (fun H locs hP hD hS => ?_)
      refine lv_if_eq (tgt := 60) hx hb dX5_agree_43 (by decide) (fun c_43 => ?_) (fun c_43 => absurd (by decide) c_43)
      refine lv_iconst (v := 0) hx hb dX5_agree_60 (by decide) ?_
      exact W.iret (v := 0) hx hb hr (fun t9 ht9 hW9 => ⟨⟨0, ((upd u.1 15 2), u.2), rfl, ⟨rfl, by rw [he]⟩, by rw [ht9]; exact hP, va_K.moved hW9.alike hK, hD⟩, hS.F ht9⟩) hS.2.2 dX5_agree_61
    · have d_19 := pg_eq_t c_19
      refine lv_aload_n hx hb dX5_agree_22 rfl (lv_at hl 0 rfl) ?_
      refine va_get (D := D) (ci := 5) (v := .ref (a 10)) (C := RX5) (T := TX5) (N := 31) hx hb hts hiX5 hown hK hP 0 rfl rfl 23 (by decide) hw2 (fun _ h9 => h9) rfl dX5_agree_23 ?_
      refine lv_iload_n hx hb dX5_agree_26 rfl (lv_at hl 1 rfl) ?_
      refine pg_ild (f := u.2 9) hx hb hK hP 10 0 rfl rfl (show j < _ by omega) (by decide) dX5_agree_27 ?_
      refine lv_iconst (v := (-1)) hx hb dX5_agree_28 (by decide) ?_
      refine lv_icmp_ne (tgt := 36) hx hb dX5_agree_29 (by decide) (fun c_29 => ?_) (fun c_29 => ?_)
      · have d_29 := pg_eq_f c_29
        refine lv_iconst (v := 0) hx hb dX5_agree_36 (by decide) ?_
        refine lv_istore_n (lv' := [(2, .int 0), (0, .ref (a 0)), (1, .int (nI j))]) hx hb dX5_agree_37 rfl hl (by decide) rfl (fun ls hl => ?_)
        refine lv_aload_n hx hb dX5_agree_38 rfl (lv_at hl 1 rfl) ?_
        refine lv_iload_n hx hb dX5_agree_39 rfl (lv_at hl 0 rfl) ?_
        exact absurd (hthr.symm.trans (by simp only [pg_t_agree, c_2, hcl, d_19, d_29, cond_true, cond_false, Bool.not_true, Bool.not_false])) h0
      · have d_29 := pg_eq_t c_29
        refine lv_iconst (v := 2) hx hb dX5_agree_32 (by decide) ?_
        refine lv_goto (tgt := 37) hx hb dX5_agree_33 (by decide) ?_
        refine lv_istore_n (lv' := [(2, .int 2), (0, .ref (a 0)), (1, .int (nI j))]) hx hb dX5_agree_37 rfl hl (by decide) rfl (fun ls hl => ?_)
        refine lv_aload_n hx hb dX5_agree_38 rfl (lv_at hl 1 rfl) ?_
        refine lv_iload_n hx hb dX5_agree_39 rfl (lv_at hl 0 rfl) ?_
        have he : e9 = 2 := hthr.symm.trans (by simp only [pg_t_agree, c_2, hcl, d_19, d_29, cond_true, cond_false, Bool.not_true, Bool.not_false])
        refine pg_iE (pg_rV (As := [.int 2]) (rest := []) ⟨hx, hb, hml, hown, hts⟩ (cm_fine1 l D cI cZ a H.size u 2 (by decide)) (cwV 1 hts gX5_agree_X5_isFine rfl rfl rfl (by decide +kernel) ⟨Nat.le_of_ble_eq_true rfl, Nat.le_of_ble_eq_true rfl⟩) hK hP hD 0 (ci := 5) rfl rfl rfl rfl hl.1 rfl (Nat.le_of_ble_eq_true rfl) dX5_agree_40 ⟨Nat.le_of_ble_eq_true rfl, Nat.le_of_ble_eq_true rfl⟩) hD hS hA (fun H locs hP hD hS => ?_)
        refine lv_if_eq (tgt := 60) hx hb dX5_agree_43 (by decide) (fun c_43 => ?_) (fun c_43 => absurd (by decide) c_43)
        refine lv_iconst (v := 0) hx hb dX5_agree_60 (by decide) ?_
        exact W.iret (v := 0) hx hb hr (fun t9 ht9 hW9 => ⟨⟨0, ((upd u.1 15 2), u.2), rfl, ⟨rfl, by rw [he]⟩, by rw [ht9]; exact hP, va_K.moved hW9.alike hK, hD⟩, hS.F ht9⟩) hS.2.2 dX5_agree_61
  · refine pg_iE (pg_rV (As := [.int k]) (rest := []) ⟨hx, hb, hml, hown, hts⟩ (cm_isClaim_f l D cI cZ a s.heap.size u n hn h20 k c_2) (cwV 1 hts gX5_agree_X5_isClaim rfl rfl rfl (by decide +kernel) ⟨Nat.le_of_ble_eq_true rfl, Nat.le_of_ble_eq_true rfl⟩) hK hP hD 0 (ci := 5) rfl rfl rfl rfl hl.1 rfl (Nat.le_of_ble_eq_true rfl) dX5_agree_2 ⟨Nat.le_of_ble_eq_true rfl, Nat.le_of_ble_eq_true rfl⟩) hD hS hA (fun H locs hP hD hS => ?_)
    refine lv_if_ne (tgt := 12) hx hb dX5_agree_5 (by decide) (fun c_5 => absurd (by decide) c_5) (fun c_5 => ?_)
    refine lv_iconst (v := 1) hx hb dX5_agree_8 (by decide) ?_
    refine lv_goto (tgt := 37) hx hb dX5_agree_9 (by decide) ?_
    refine lv_istore_n (lv' := [(2, .int 1), (0, .ref (a 0)), (1, .int k)]) hx hb dX5_agree_37 rfl hl (by decide) rfl (fun ls hl => ?_)
    refine lv_aload_n hx hb dX5_agree_38 rfl (lv_at hl 1 rfl) ?_
    refine lv_iload_n hx hb dX5_agree_39 rfl (lv_at hl 0 rfl) ?_
    have he : e9 = 1 := hthr.symm.trans (by simp only [pg_t_agree, c_2, cond_true, cond_false, Bool.not_true, Bool.not_false])
    refine pg_iE (pg_rV (As := [.int 1]) (rest := []) ⟨hx, hb, hml, hown, hts⟩ (cm_fine1 l D cI cZ a H.size u 1 (by decide)) (cwV 1 hts gX5_agree_X5_isFine rfl rfl rfl (by decide +kernel) ⟨Nat.le_of_ble_eq_true rfl, Nat.le_of_ble_eq_true rfl⟩) hK hP hD 0 (ci := 5) rfl rfl rfl rfl hl.1 rfl (Nat.le_of_ble_eq_true rfl) dX5_agree_40 ⟨Nat.le_of_ble_eq_true rfl, Nat.le_of_ble_eq_true rfl⟩) hD hS hA (fun H locs hP hD hS => ?_)
    refine lv_if_eq (tgt := 60) hx hb dX5_agree_43 (by decide) (fun c_43 => ?_) (fun c_43 => absurd (by decide) c_43)
    refine lv_iconst (v := 0) hx hb dX5_agree_60 (by decide) ?_
    exact W.iret (v := 0) hx hb hr (fun t9 ht9 hW9 => ⟨⟨0, ((upd u.1 15 1), u.2), rfl, ⟨rfl, by rw [he]⟩, by rw [ht9]; exact hP, va_K.moved hW9.alike hK, hD⟩, hS.F ht9⟩) hS.2.2 dX5_agree_61
set_option maxHeartbeats 4000000 in
set_option maxRecDepth 100000 in
/-- cm_decide: fine -/
theorem cm_decide_ok (l : Launch) (D : va_G) (cI cZ : ClassId) (a : Nat → Nat) (sz : Nat) (u : pg_St) (n : Nat) (hn : u.1 10 = nI n) (h20 : n ≤ 20) (k x : Int32) (hthr : pg_t_decide u.2 (nI n) k x = 0) : Met l yX5_decide wsX5_decide ({ frames := 4, cells := 0, slots := 0, locals := 86 }) (va_Pc [.ref (a 0), .int k, .int x] (pg_B D (pg_ty cI cZ) (pg_wM cI cZ a u) sz)) (va_Qi (fun r u' => r = pg_back (pg_at (upd u.1 15 0, u.2) k.toNatClampNeg x) n ∧ u' = pg_pay (pg_at (upd u.1 15 0, u.2) k.toNatClampNeg x) n (u.1 3)) (pg_E D (pg_ty cI cZ) (va_A (pg_wM cI cZ a u) sz) (pg_wM cI cZ a)) (va_A (pg_wM cI cZ a u) sz)) 0 0 (va_A (pg_wM cI cZ a u) sz) := by
  refine Met.ofW (cc := cX5_decide) (maxL := 4) (ret := (some .int)) (by decide) rfl ?_
  intro p e s m args below meth c s₁ B hml hv
  obtain ⟨rfl, hsz, hP, hK, hD0⟩ := hv
  have hx := B.exec
  have hb := B.bytes
  have hr := B.returns
  have hts := atoms_spec (ws := wsX5_decide) B.pre
  have hown : s.vm.findClass RX5 = some m.cls := findClass_of_methodNamed B.named
  have hlocks := B.notSynchronized
  subst hsz
  have hD := hD0.self (sz := s.heap.size)
  generalize hAe : va_A (pg_wM cI cZ a u) s.heap.size = A at hD ⊢
  have hA : ∀ q : Nat, s.heap.size ≤ q → A q := fun q h => by rw [← hAe]; exact Or.inr h
  have hS : va_S A s.heap s.heap [] := va_S.rf
  have hl := lv_entry ([.ref (a 0), .int k, .int x]) (n := 4) (Nat.le_of_ble_eq_true rfl)
  rw [lg_entry_eq]
  generalize (lg_sl ([.ref (a 0), .int k, .int x]) ++ List.replicate (4 - (lg_sl ([.ref (a 0), .int k, .int x])).length) Slot.unset).toArray = ls at hl ⊢
  have hl : lv_has ls 4 [(0, .ref (a 0)), (1, .int k), (2, .int x)] := hl
  have hiX5 : ∀ w ∈ wsX50, w ∈ wsX5_decide := fun _ h => List.mem_cons_of_mem _ (List.mem_append_right _ (h))
  have hw1 := hts (.fieldLink RX5 47 "PegBoxModel" "settled" "[I") (List.mem_of_getElem? (i := 1) rfl)
  have hw2 := hts (.fieldLink RX5 44 "PegBoxModel" "offered" "[I") (List.mem_of_getElem? (i := 2) rfl)
  have hw3 := hts (.fieldLink RX5 41 "PegBoxModel" "amount" "[I") (List.mem_of_getElem? (i := 3) rfl)
  refine lv_aload_n hx hb dX5_decide_0 rfl (lv_at hl 0 rfl) ?_
  refine lv_iload_n hx hb dX5_decide_1 rfl (lv_at hl 1 rfl) ?_
  rcases Bool.eq_false_or_eq_true (pg_nb k (nI n)) with c_2 | c_2
  · refine pg_iE (pg_rV (As := [.int k]) (rest := []) ⟨hx, hb, hml, hown, hts⟩ (cm_isClaim_t l D cI cZ a s.heap.size u n hn h20 k c_2) (cwV 1 hts gX5_decide_X5_isClaim rfl rfl rfl (by decide +kernel) ⟨Nat.le_of_ble_eq_true rfl, Nat.le_of_ble_eq_true rfl⟩) hK hP hD 0 (ci := 5) rfl rfl rfl rfl hl.1 rfl (Nat.le_of_ble_eq_true rfl) dX5_decide_2 ⟨Nat.le_of_ble_eq_true rfl, Nat.le_of_ble_eq_true rfl⟩) hD hS hA (fun H locs hP hD hS => ?_)
    obtain ⟨j, hj, rfl⟩ := pg_nb_nI (n := n) (by omega) c_2
    have hcl : (nI j).toNatClampNeg = j := nI_clamp (by omega)
    refine lv_if_ne (tgt := 12) hx hb dX5_decide_5 (by decide) (fun c_5 => ?_) (fun c_5 => absurd c_5 (by decide))
    refine lv_aload_n hx hb dX5_decide_12 rfl (lv_at hl 0 rfl) ?_
    refine va_get (D := D) (ci := 5) (v := .ref (a 11)) (C := RX5) (T := TX5) (N := 31) hx hb hts hiX5 hown hK hP 0 rfl rfl 24 (by decide) hw1 (fun _ h9 => h9) rfl dX5_decide_13 ?_
    refine lv_iload_n hx hb dX5_decide_16 rfl (lv_at hl 1 rfl) ?_
    refine pg_ild (f := u.2 10) hx hb hK hP 11 0 rfl rfl (show j < _ by omega) (by decide) dX5_decide_17 ?_
    refine lv_iconst (v := (-1)) hx hb dX5_decide_18 (by decide) ?_
    refine lv_icmp_eq (tgt := 26) hx hb dX5_decide_19 (by decide) (fun c_19 => ?_) (fun c_19 => ?_)
    · have d_19 := pg_eq_t c_19
      refine lv_iconst (v := 0) hx hb dX5_decide_26 (by decide) ?_
      refine lv_istore_n (lv' := [(3, .int 0), (0, .ref (a 0)), (1, .int (nI j)), (2, .int x)]) hx hb dX5_decide_27 rfl hl (by decide) rfl (fun ls hl => ?_)
      refine lv_iload_n hx hb dX5_decide_28 rfl (lv_at hl 0 rfl) ?_
      refine lv_if_ne (tgt := 67) hx hb dX5_decide_29 (by decide) (fun c_29 => absurd (by decide) c_29) (fun c_29 => ?_)
      refine lv_iload_n hx hb dX5_decide_32 rfl (lv_at hl 3 rfl) ?_
      refine lv_aload_n hx hb dX5_decide_33 rfl (lv_at hl 1 rfl) ?_
      refine va_get (D := D) (ci := 5) (v := .ref (a 10)) (C := RX5) (T := TX5) (N := 31) hx hb hts hiX5 hown hK hP 0 rfl rfl 23 (by decide) hw2 (fun _ h9 => h9) rfl dX5_decide_34 ?_
      refine lv_iload_n hx hb dX5_decide_37 rfl (lv_at hl 2 rfl) ?_
      refine pg_ild (f := u.2 9) hx hb hK hP 10 0 rfl rfl (show j < _ by omega) (by decide) dX5_decide_38 ?_
      refine lv_iconst (v := (-1)) hx hb dX5_decide_39 (by decide) ?_
      refine lv_icmp_ne (tgt := 47) hx hb dX5_decide_40 (by decide) (fun c_40 => ?_) (fun c_40 => ?_)
      · refine lv_aload_n hx hb dX5_decide_47 rfl (lv_at hl 1 rfl) ?_
        refine va_get (D := D) (ci := 5) (v := .ref (a 10)) (C := RX5) (T := TX5) (N := 31) hx hb hts hiX5 hown hK hP 0 rfl rfl 23 (by decide) hw2 (fun _ h9 => h9) rfl dX5_decide_48 ?_
        refine lv_iload_n hx hb dX5_decide_51 rfl (lv_at hl 2 rfl) ?_
        refine pg_ild (f := u.2 9) hx hb hK hP 10 0 rfl rfl (show j < _ by omega) (by decide) dX5_decide_52 ?_
        have elow : pg_low (u.2 9 j) = u.2 9 j := if_neg c_40
        refine W.eq (g2 := F0 m 53 ls [.int (pg_low (u.2 9 j)), .int x]) (by rw [elow]) ?_
        refine lv_aload_n hx hb dX5_decide_53 rfl (lv_at hl 1 rfl) ?_
        refine va_get (D := D) (ci := 5) (v := .ref (a 9)) (C := RX5) (T := TX5) (N := 31) hx hb hts hiX5 hown hK hP 0 rfl rfl 22 (by decide) hw3 (fun _ h9 => h9) rfl dX5_decide_54 ?_
        refine lv_iload_n hx hb dX5_decide_57 rfl (lv_at hl 2 rfl) ?_
        refine pg_ild (f := u.2 8) hx hb hK hP 9 0 rfl rfl (show j < _ by omega) (by decide) dX5_decide_58 ?_
        rcases Bool.eq_false_or_eq_true (pg_in x (pg_low (u.2 9 j)) (u.2 8 j)) with c_59 | c_59
        · refine pg_iE (pg_rS (As := [.int x, .int (pg_low (u.2 9 j)), .int (u.2 8 j)]) (rest := []) ⟨hx, hb, hml, hown, hts⟩ (cm_in_t l D (pg_ty cI cZ) (pg_wM cI cZ a u) H.size x (pg_low (u.2 9 j)) (u.2 8 j) c_59) (va_cwS 3 hts gX5_decide_X5_in rfl rfl rfl (by decide +kernel) ⟨Nat.le_of_ble_eq_true rfl, Nat.le_of_ble_eq_true rfl⟩) hK hP hD rfl hl.1 rfl (Nat.le_of_ble_eq_true rfl) dX5_decide_59 ⟨Nat.le_of_ble_eq_true rfl, Nat.le_of_ble_eq_true rfl⟩) hD hS hA (fun H locs hP hD hS => ?_)
          refine lv_if_ne (tgt := 67) hx hb dX5_decide_62 (by decide) (fun c_62 => ?_) (fun c_62 => absurd c_62 (by decide))
          refine lv_aload_n hx hb dX5_decide_67 rfl (lv_at hl 1 rfl) ?_
          refine lv_iload_n hx hb dX5_decide_68 rfl (lv_at hl 0 rfl) ?_
          refine pg_iE (pg_rV (As := [.int 0]) (rest := []) ⟨hx, hb, hml, hown, hts⟩ (cm_fine0 l D cI cZ a H.size u) (cwV 1 hts gX5_decide_X5_isFine rfl rfl rfl (by decide +kernel) ⟨Nat.le_of_ble_eq_true rfl, Nat.le_of_ble_eq_true rfl⟩) hK hP hD 0 (ci := 5) rfl rfl rfl rfl hl.1 rfl (Nat.le_of_ble_eq_true rfl) dX5_decide_69 ⟨Nat.le_of_ble_eq_true rfl, Nat.le_of_ble_eq_true rfl⟩) hD hS hA (fun H locs hP hD hS => ?_)
          refine lv_if_eq (tgt := 84) hx hb dX5_decide_72 (by decide) (fun c_72 => absurd c_72 (by decide)) (fun c_72 => ?_)
          refine lv_aload_n hx hb dX5_decide_75 rfl (lv_at hl 1 rfl) ?_
          refine lv_iload_n hx hb dX5_decide_76 rfl (lv_at hl 2 rfl) ?_
          refine lv_iload_n hx hb dX5_decide_77 rfl (lv_at hl 3 rfl) ?_
          refine pg_iE (pg_rV (As := [.int (nI j), .int x]) (rest := []) ⟨hx, hb, hml, hown, hts⟩ (cm_settles l D cI cZ a H.size ((upd u.1 15 0), u.2) n hn h20 j hj x) (cwV 2 hts gX5_decide_X5_settles rfl rfl rfl (by decide +kernel) ⟨Nat.le_of_ble_eq_true rfl, Nat.le_of_ble_eq_true rfl⟩) hK hP hD 0 (ci := 5) rfl rfl rfl rfl hl.1 rfl (Nat.le_of_ble_eq_true rfl) dX5_decide_78 ⟨Nat.le_of_ble_eq_true rfl, Nat.le_of_ble_eq_true rfl⟩) hD hS hA (fun H locs hP hD hS => ?_)
          refine lv_goto (tgt := 85) hx hb dX5_decide_81 (by decide) ?_
          exact W.iret (v := pg_back (pg_at (upd u.1 15 0, u.2) j x) n) hx hb hr (fun t9 ht9 hW9 => ⟨⟨pg_back (pg_at (upd u.1 15 0, u.2) j x) n, (pg_pay (pg_at (upd u.1 15 0, u.2) j x) n (u.1 3)), rfl, ⟨by rw [hcl], by rw [hcl]⟩, by rw [ht9]; exact hP, va_K.moved hW9.alike hK, hD⟩, hS.F ht9⟩) hS.2.2 dX5_decide_85
        · refine pg_iE (pg_rS (As := [.int x, .int (pg_low (u.2 9 j)), .int (u.2 8 j)]) (rest := []) ⟨hx, hb, hml, hown, hts⟩ (cm_in_f l D (pg_ty cI cZ) (pg_wM cI cZ a u) H.size x (pg_low (u.2 9 j)) (u.2 8 j) c_59) (va_cwS 3 hts gX5_decide_X5_in rfl rfl rfl (by decide +kernel) ⟨Nat.le_of_ble_eq_true rfl, Nat.le_of_ble_eq_true rfl⟩) hK hP hD rfl hl.1 rfl (Nat.le_of_ble_eq_true rfl) dX5_decide_59 ⟨Nat.le_of_ble_eq_true rfl, Nat.le_of_ble_eq_true rfl⟩) hD hS hA (fun H locs hP hD hS => ?_)
          refine lv_if_ne (tgt := 67) hx hb dX5_decide_62 (by decide) (fun c_62 => absurd (by decide) c_62) (fun c_62 => ?_)
          refine lv_iconst (v := 3) hx hb dX5_decide_65 (by decide) ?_
          refine lv_istore_n (lv' := [(3, .int 3), (0, .ref (a 0)), (1, .int (nI j)), (2, .int x)]) hx hb dX5_decide_66 rfl hl (by decide) rfl (fun ls hl => ?_)
          refine lv_aload_n hx hb dX5_decide_67 rfl (lv_at hl 1 rfl) ?_
          refine lv_iload_n hx hb dX5_decide_68 rfl (lv_at hl 0 rfl) ?_
          exact absurd hthr (by first | (simp only [pg_t_decide, c_2, hcl, d_19, c_59, cond_true, cond_false, Bool.not_true, Bool.not_false]; done) | (simp only [pg_t_decide, c_2, hcl, d_19, c_59, cond_true, cond_false, Bool.not_true, Bool.not_false]; decide))
      · refine lv_iconst (v := 0) hx hb dX5_decide_43 (by decide) ?_
        refine lv_goto (tgt := 53) hx hb dX5_decide_44 (by decide) ?_
        have elow : pg_low (u.2 9 j) = 0 := if_pos c_40
        refine W.eq (g2 := F0 m 53 ls [.int (pg_low (u.2 9 j)), .int x]) (by rw [elow]) ?_
        refine lv_aload_n hx hb dX5_decide_53 rfl (lv_at hl 1 rfl) ?_
        refine va_get (D := D) (ci := 5) (v := .ref (a 9)) (C := RX5) (T := TX5) (N := 31) hx hb hts hiX5 hown hK hP 0 rfl rfl 22 (by decide) hw3 (fun _ h9 => h9) rfl dX5_decide_54 ?_
        refine lv_iload_n hx hb dX5_decide_57 rfl (lv_at hl 2 rfl) ?_
        refine pg_ild (f := u.2 8) hx hb hK hP 9 0 rfl rfl (show j < _ by omega) (by decide) dX5_decide_58 ?_
        rcases Bool.eq_false_or_eq_true (pg_in x (pg_low (u.2 9 j)) (u.2 8 j)) with c_59 | c_59
        · refine pg_iE (pg_rS (As := [.int x, .int (pg_low (u.2 9 j)), .int (u.2 8 j)]) (rest := []) ⟨hx, hb, hml, hown, hts⟩ (cm_in_t l D (pg_ty cI cZ) (pg_wM cI cZ a u) H.size x (pg_low (u.2 9 j)) (u.2 8 j) c_59) (va_cwS 3 hts gX5_decide_X5_in rfl rfl rfl (by decide +kernel) ⟨Nat.le_of_ble_eq_true rfl, Nat.le_of_ble_eq_true rfl⟩) hK hP hD rfl hl.1 rfl (Nat.le_of_ble_eq_true rfl) dX5_decide_59 ⟨Nat.le_of_ble_eq_true rfl, Nat.le_of_ble_eq_true rfl⟩) hD hS hA (fun H locs hP hD hS => ?_)
          refine lv_if_ne (tgt := 67) hx hb dX5_decide_62 (by decide) (fun c_62 => ?_) (fun c_62 => absurd c_62 (by decide))
          refine lv_aload_n hx hb dX5_decide_67 rfl (lv_at hl 1 rfl) ?_
          refine lv_iload_n hx hb dX5_decide_68 rfl (lv_at hl 0 rfl) ?_
          refine pg_iE (pg_rV (As := [.int 0]) (rest := []) ⟨hx, hb, hml, hown, hts⟩ (cm_fine0 l D cI cZ a H.size u) (cwV 1 hts gX5_decide_X5_isFine rfl rfl rfl (by decide +kernel) ⟨Nat.le_of_ble_eq_true rfl, Nat.le_of_ble_eq_true rfl⟩) hK hP hD 0 (ci := 5) rfl rfl rfl rfl hl.1 rfl (Nat.le_of_ble_eq_true rfl) dX5_decide_69 ⟨Nat.le_of_ble_eq_true rfl, Nat.le_of_ble_eq_true rfl⟩) hD hS hA (fun H locs hP hD hS => ?_)
          refine lv_if_eq (tgt := 84) hx hb dX5_decide_72 (by decide) (fun c_72 => absurd c_72 (by decide)) (fun c_72 => ?_)
          refine lv_aload_n hx hb dX5_decide_75 rfl (lv_at hl 1 rfl) ?_
          refine lv_iload_n hx hb dX5_decide_76 rfl (lv_at hl 2 rfl) ?_
          refine lv_iload_n hx hb dX5_decide_77 rfl (lv_at hl 3 rfl) ?_
          refine pg_iE (pg_rV (As := [.int (nI j), .int x]) (rest := []) ⟨hx, hb, hml, hown, hts⟩ (cm_settles l D cI cZ a H.size ((upd u.1 15 0), u.2) n hn h20 j hj x) (cwV 2 hts gX5_decide_X5_settles rfl rfl rfl (by decide +kernel) ⟨Nat.le_of_ble_eq_true rfl, Nat.le_of_ble_eq_true rfl⟩) hK hP hD 0 (ci := 5) rfl rfl rfl rfl hl.1 rfl (Nat.le_of_ble_eq_true rfl) dX5_decide_78 ⟨Nat.le_of_ble_eq_true rfl, Nat.le_of_ble_eq_true rfl⟩) hD hS hA (fun H locs hP hD hS => ?_)
          refine lv_goto (tgt := 85) hx hb dX5_decide_81 (by decide) ?_
          exact W.iret (v := pg_back (pg_at (upd u.1 15 0, u.2) j x) n) hx hb hr (fun t9 ht9 hW9 => ⟨⟨pg_back (pg_at (upd u.1 15 0, u.2) j x) n, (pg_pay (pg_at (upd u.1 15 0, u.2) j x) n (u.1 3)), rfl, ⟨by rw [hcl], by rw [hcl]⟩, by rw [ht9]; exact hP, va_K.moved hW9.alike hK, hD⟩, hS.F ht9⟩) hS.2.2 dX5_decide_85
        · refine pg_iE (pg_rS (As := [.int x, .int (pg_low (u.2 9 j)), .int (u.2 8 j)]) (rest := []) ⟨hx, hb, hml, hown, hts⟩ (cm_in_f l D (pg_ty cI cZ) (pg_wM cI cZ a u) H.size x (pg_low (u.2 9 j)) (u.2 8 j) c_59) (va_cwS 3 hts gX5_decide_X5_in rfl rfl rfl (by decide +kernel) ⟨Nat.le_of_ble_eq_true rfl, Nat.le_of_ble_eq_true rfl⟩) hK hP hD rfl hl.1 rfl (Nat.le_of_ble_eq_true rfl) dX5_decide_59 ⟨Nat.le_of_ble_eq_true rfl, Nat.le_of_ble_eq_true rfl⟩) hD hS hA (fun H locs hP hD hS => ?_)
          refine lv_if_ne (tgt := 67) hx hb dX5_decide_62 (by decide) (fun c_62 => absurd (by decide) c_62) (fun c_62 => ?_)
          refine lv_iconst (v := 3) hx hb dX5_decide_65 (by decide) ?_
          refine lv_istore_n (lv' := [(3, .int 3), (0, .ref (a 0)), (1, .int (nI j)), (2, .int x)]) hx hb dX5_decide_66 rfl hl (by decide) rfl (fun ls hl => ?_)
          refine lv_aload_n hx hb dX5_decide_67 rfl (lv_at hl 1 rfl) ?_
          refine lv_iload_n hx hb dX5_decide_68 rfl (lv_at hl 0 rfl) ?_
          exact absurd hthr (by first | (simp only [pg_t_decide, c_2, hcl, d_19, c_59, cond_true, cond_false, Bool.not_true, Bool.not_false]; done) | (simp only [pg_t_decide, c_2, hcl, d_19, c_59, cond_true, cond_false, Bool.not_true, Bool.not_false]; decide))
    · have d_19 := pg_eq_f c_19
      refine lv_iconst (v := 2) hx hb dX5_decide_22 (by decide) ?_
      refine lv_goto (tgt := 27) hx hb dX5_decide_23 (by decide) ?_
      refine lv_istore_n (lv' := [(3, .int 2), (0, .ref (a 0)), (1, .int (nI j)), (2, .int x)]) hx hb dX5_decide_27 rfl hl (by decide) rfl (fun ls hl => ?_)
      refine lv_iload_n hx hb dX5_decide_28 rfl (lv_at hl 0 rfl) ?_
      refine lv_if_ne (tgt := 67) hx hb dX5_decide_29 (by decide) (fun c_29 => ?_) (fun c_29 => absurd c_29 (by decide))
      refine lv_aload_n hx hb dX5_decide_67 rfl (lv_at hl 1 rfl) ?_
      refine lv_iload_n hx hb dX5_decide_68 rfl (lv_at hl 0 rfl) ?_
      exact absurd hthr (by first | (simp only [pg_t_decide, c_2, hcl, d_19, cond_true, cond_false, Bool.not_true, Bool.not_false]; done) | (simp only [pg_t_decide, c_2, hcl, d_19, cond_true, cond_false, Bool.not_true, Bool.not_false]; decide))
  · refine pg_iE (pg_rV (As := [.int k]) (rest := []) ⟨hx, hb, hml, hown, hts⟩ (cm_isClaim_f l D cI cZ a s.heap.size u n hn h20 k c_2) (cwV 1 hts gX5_decide_X5_isClaim rfl rfl rfl (by decide +kernel) ⟨Nat.le_of_ble_eq_true rfl, Nat.le_of_ble_eq_true rfl⟩) hK hP hD 0 (ci := 5) rfl rfl rfl rfl hl.1 rfl (Nat.le_of_ble_eq_true rfl) dX5_decide_2 ⟨Nat.le_of_ble_eq_true rfl, Nat.le_of_ble_eq_true rfl⟩) hD hS hA (fun H locs hP hD hS => ?_)
    refine lv_if_ne (tgt := 12) hx hb dX5_decide_5 (by decide) (fun c_5 => absurd (by decide) c_5) (fun c_5 => ?_)
    refine lv_iconst (v := 1) hx hb dX5_decide_8 (by decide) ?_
    refine lv_goto (tgt := 27) hx hb dX5_decide_9 (by decide) ?_
    refine lv_istore_n (lv' := [(3, .int 1), (0, .ref (a 0)), (1, .int k), (2, .int x)]) hx hb dX5_decide_27 rfl hl (by decide) rfl (fun ls hl => ?_)
    refine lv_iload_n hx hb dX5_decide_28 rfl (lv_at hl 0 rfl) ?_
    refine lv_if_ne (tgt := 67) hx hb dX5_decide_29 (by decide) (fun c_29 => ?_) (fun c_29 => absurd c_29 (by decide))
    refine lv_aload_n hx hb dX5_decide_67 rfl (lv_at hl 1 rfl) ?_
    refine lv_iload_n hx hb dX5_decide_68 rfl (lv_at hl 0 rfl) ?_
    exact absurd hthr (by first | (simp only [pg_t_decide, c_2, cond_true, cond_false, Bool.not_true, Bool.not_false]; done) | (simp only [pg_t_decide, c_2, cond_true, cond_false, Bool.not_true, Bool.not_false]; decide))
set_option maxHeartbeats 4000000 in
set_option maxRecDepth 100000 in
/-- cm_decide: not fine -/
theorem cm_decide_no (l : Launch) (D : va_G) (cI cZ : ClassId) (a : Nat → Nat) (sz : Nat) (u : pg_St) (n : Nat) (hn : u.1 10 = nI n) (h20 : n ≤ 20) (k x : Int32) (e9 : Int32) (hthr : pg_t_decide u.2 (nI n) k x = e9) (h0 : e9 ≠ 0) : Met l yX5_decide wsX5_decide ({ frames := 4, cells := 0, slots := 0, locals := 86 }) (va_Pc [.ref (a 0), .int k, .int x] (pg_B D (pg_ty cI cZ) (pg_wM cI cZ a u) sz)) (va_Qi (fun r u' => r = 0 ∧ u' = (upd u.1 15 e9, u.2)) (pg_E D (pg_ty cI cZ) (va_A (pg_wM cI cZ a u) sz) (pg_wM cI cZ a)) (va_A (pg_wM cI cZ a u) sz)) 0 0 (va_A (pg_wM cI cZ a u) sz) := by
  refine Met.ofW (cc := cX5_decide) (maxL := 4) (ret := (some .int)) (by decide) rfl ?_
  intro p e s m args below meth c s₁ B hml hv
  obtain ⟨rfl, hsz, hP, hK, hD0⟩ := hv
  have hx := B.exec
  have hb := B.bytes
  have hr := B.returns
  have hts := atoms_spec (ws := wsX5_decide) B.pre
  have hown : s.vm.findClass RX5 = some m.cls := findClass_of_methodNamed B.named
  have hlocks := B.notSynchronized
  subst hsz
  have hD := hD0.self (sz := s.heap.size)
  generalize hAe : va_A (pg_wM cI cZ a u) s.heap.size = A at hD ⊢
  have hA : ∀ q : Nat, s.heap.size ≤ q → A q := fun q h => by rw [← hAe]; exact Or.inr h
  have hS : va_S A s.heap s.heap [] := va_S.rf
  have hl := lv_entry ([.ref (a 0), .int k, .int x]) (n := 4) (Nat.le_of_ble_eq_true rfl)
  rw [lg_entry_eq]
  generalize (lg_sl ([.ref (a 0), .int k, .int x]) ++ List.replicate (4 - (lg_sl ([.ref (a 0), .int k, .int x])).length) Slot.unset).toArray = ls at hl ⊢
  have hl : lv_has ls 4 [(0, .ref (a 0)), (1, .int k), (2, .int x)] := hl
  have hiX5 : ∀ w ∈ wsX50, w ∈ wsX5_decide := fun _ h => List.mem_cons_of_mem _ (List.mem_append_right _ (h))
  have hw1 := hts (.fieldLink RX5 47 "PegBoxModel" "settled" "[I") (List.mem_of_getElem? (i := 1) rfl)
  have hw2 := hts (.fieldLink RX5 44 "PegBoxModel" "offered" "[I") (List.mem_of_getElem? (i := 2) rfl)
  have hw3 := hts (.fieldLink RX5 41 "PegBoxModel" "amount" "[I") (List.mem_of_getElem? (i := 3) rfl)
  refine lv_aload_n hx hb dX5_decide_0 rfl (lv_at hl 0 rfl) ?_
  refine lv_iload_n hx hb dX5_decide_1 rfl (lv_at hl 1 rfl) ?_
  rcases Bool.eq_false_or_eq_true (pg_nb k (nI n)) with c_2 | c_2
  · refine pg_iE (pg_rV (As := [.int k]) (rest := []) ⟨hx, hb, hml, hown, hts⟩ (cm_isClaim_t l D cI cZ a s.heap.size u n hn h20 k c_2) (cwV 1 hts gX5_decide_X5_isClaim rfl rfl rfl (by decide +kernel) ⟨Nat.le_of_ble_eq_true rfl, Nat.le_of_ble_eq_true rfl⟩) hK hP hD 0 (ci := 5) rfl rfl rfl rfl hl.1 rfl (Nat.le_of_ble_eq_true rfl) dX5_decide_2 ⟨Nat.le_of_ble_eq_true rfl, Nat.le_of_ble_eq_true rfl⟩) hD hS hA (fun H locs hP hD hS => ?_)
    obtain ⟨j, hj, rfl⟩ := pg_nb_nI (n := n) (by omega) c_2
    have hcl : (nI j).toNatClampNeg = j := nI_clamp (by omega)
    refine lv_if_ne (tgt := 12) hx hb dX5_decide_5 (by decide) (fun c_5 => ?_) (fun c_5 => absurd c_5 (by decide))
    refine lv_aload_n hx hb dX5_decide_12 rfl (lv_at hl 0 rfl) ?_
    refine va_get (D := D) (ci := 5) (v := .ref (a 11)) (C := RX5) (T := TX5) (N := 31) hx hb hts hiX5 hown hK hP 0 rfl rfl 24 (by decide) hw1 (fun _ h9 => h9) rfl dX5_decide_13 ?_
    refine lv_iload_n hx hb dX5_decide_16 rfl (lv_at hl 1 rfl) ?_
    refine pg_ild (f := u.2 10) hx hb hK hP 11 0 rfl rfl (show j < _ by omega) (by decide) dX5_decide_17 ?_
    refine lv_iconst (v := (-1)) hx hb dX5_decide_18 (by decide) ?_
    refine lv_icmp_eq (tgt := 26) hx hb dX5_decide_19 (by decide) (fun c_19 => ?_) (fun c_19 => ?_)
    · have d_19 := pg_eq_t c_19
      refine lv_iconst (v := 0) hx hb dX5_decide_26 (by decide) ?_
      refine lv_istore_n (lv' := [(3, .int 0), (0, .ref (a 0)), (1, .int (nI j)), (2, .int x)]) hx hb dX5_decide_27 rfl hl (by decide) rfl (fun ls hl => ?_)
      refine lv_iload_n hx hb dX5_decide_28 rfl (lv_at hl 0 rfl) ?_
      refine lv_if_ne (tgt := 67) hx hb dX5_decide_29 (by decide) (fun c_29 => absurd (by decide) c_29) (fun c_29 => ?_)
      refine lv_iload_n hx hb dX5_decide_32 rfl (lv_at hl 3 rfl) ?_
      refine lv_aload_n hx hb dX5_decide_33 rfl (lv_at hl 1 rfl) ?_
      refine va_get (D := D) (ci := 5) (v := .ref (a 10)) (C := RX5) (T := TX5) (N := 31) hx hb hts hiX5 hown hK hP 0 rfl rfl 23 (by decide) hw2 (fun _ h9 => h9) rfl dX5_decide_34 ?_
      refine lv_iload_n hx hb dX5_decide_37 rfl (lv_at hl 2 rfl) ?_
      refine pg_ild (f := u.2 9) hx hb hK hP 10 0 rfl rfl (show j < _ by omega) (by decide) dX5_decide_38 ?_
      refine lv_iconst (v := (-1)) hx hb dX5_decide_39 (by decide) ?_
      refine lv_icmp_ne (tgt := 47) hx hb dX5_decide_40 (by decide) (fun c_40 => ?_) (fun c_40 => ?_)
      · refine lv_aload_n hx hb dX5_decide_47 rfl (lv_at hl 1 rfl) ?_
        refine va_get (D := D) (ci := 5) (v := .ref (a 10)) (C := RX5) (T := TX5) (N := 31) hx hb hts hiX5 hown hK hP 0 rfl rfl 23 (by decide) hw2 (fun _ h9 => h9) rfl dX5_decide_48 ?_
        refine lv_iload_n hx hb dX5_decide_51 rfl (lv_at hl 2 rfl) ?_
        refine pg_ild (f := u.2 9) hx hb hK hP 10 0 rfl rfl (show j < _ by omega) (by decide) dX5_decide_52 ?_
        have elow : pg_low (u.2 9 j) = u.2 9 j := if_neg c_40
        refine W.eq (g2 := F0 m 53 ls [.int (pg_low (u.2 9 j)), .int x]) (by rw [elow]) ?_
        refine lv_aload_n hx hb dX5_decide_53 rfl (lv_at hl 1 rfl) ?_
        refine va_get (D := D) (ci := 5) (v := .ref (a 9)) (C := RX5) (T := TX5) (N := 31) hx hb hts hiX5 hown hK hP 0 rfl rfl 22 (by decide) hw3 (fun _ h9 => h9) rfl dX5_decide_54 ?_
        refine lv_iload_n hx hb dX5_decide_57 rfl (lv_at hl 2 rfl) ?_
        refine pg_ild (f := u.2 8) hx hb hK hP 9 0 rfl rfl (show j < _ by omega) (by decide) dX5_decide_58 ?_
        rcases Bool.eq_false_or_eq_true (pg_in x (pg_low (u.2 9 j)) (u.2 8 j)) with c_59 | c_59
        · refine pg_iE (pg_rS (As := [.int x, .int (pg_low (u.2 9 j)), .int (u.2 8 j)]) (rest := []) ⟨hx, hb, hml, hown, hts⟩ (cm_in_t l D (pg_ty cI cZ) (pg_wM cI cZ a u) H.size x (pg_low (u.2 9 j)) (u.2 8 j) c_59) (va_cwS 3 hts gX5_decide_X5_in rfl rfl rfl (by decide +kernel) ⟨Nat.le_of_ble_eq_true rfl, Nat.le_of_ble_eq_true rfl⟩) hK hP hD rfl hl.1 rfl (Nat.le_of_ble_eq_true rfl) dX5_decide_59 ⟨Nat.le_of_ble_eq_true rfl, Nat.le_of_ble_eq_true rfl⟩) hD hS hA (fun H locs hP hD hS => ?_)
          refine lv_if_ne (tgt := 67) hx hb dX5_decide_62 (by decide) (fun c_62 => ?_) (fun c_62 => absurd c_62 (by decide))
          refine lv_aload_n hx hb dX5_decide_67 rfl (lv_at hl 1 rfl) ?_
          refine lv_iload_n hx hb dX5_decide_68 rfl (lv_at hl 0 rfl) ?_
          exact absurd (hthr.symm.trans (by simp only [pg_t_decide, c_2, hcl, d_19, c_59, cond_true, cond_false, Bool.not_true, Bool.not_false])) h0
        · refine pg_iE (pg_rS (As := [.int x, .int (pg_low (u.2 9 j)), .int (u.2 8 j)]) (rest := []) ⟨hx, hb, hml, hown, hts⟩ (cm_in_f l D (pg_ty cI cZ) (pg_wM cI cZ a u) H.size x (pg_low (u.2 9 j)) (u.2 8 j) c_59) (va_cwS 3 hts gX5_decide_X5_in rfl rfl rfl (by decide +kernel) ⟨Nat.le_of_ble_eq_true rfl, Nat.le_of_ble_eq_true rfl⟩) hK hP hD rfl hl.1 rfl (Nat.le_of_ble_eq_true rfl) dX5_decide_59 ⟨Nat.le_of_ble_eq_true rfl, Nat.le_of_ble_eq_true rfl⟩) hD hS hA (fun H locs hP hD hS => ?_)
          refine lv_if_ne (tgt := 67) hx hb dX5_decide_62 (by decide) (fun c_62 => absurd (by decide) c_62) (fun c_62 => ?_)
          refine lv_iconst (v := 3) hx hb dX5_decide_65 (by decide) ?_
          refine lv_istore_n (lv' := [(3, .int 3), (0, .ref (a 0)), (1, .int (nI j)), (2, .int x)]) hx hb dX5_decide_66 rfl hl (by decide) rfl (fun ls hl => ?_)
          refine lv_aload_n hx hb dX5_decide_67 rfl (lv_at hl 1 rfl) ?_
          refine lv_iload_n hx hb dX5_decide_68 rfl (lv_at hl 0 rfl) ?_
          have he : e9 = 3 := hthr.symm.trans (by simp only [pg_t_decide, c_2, hcl, d_19, c_59, cond_true, cond_false, Bool.not_true, Bool.not_false])
          refine pg_iE (pg_rV (As := [.int 3]) (rest := []) ⟨hx, hb, hml, hown, hts⟩ (cm_fine1 l D cI cZ a H.size u 3 (by decide)) (cwV 1 hts gX5_decide_X5_isFine rfl rfl rfl (by decide +kernel) ⟨Nat.le_of_ble_eq_true rfl, Nat.le_of_ble_eq_true rfl⟩) hK hP hD 0 (ci := 5) rfl rfl rfl rfl hl.1 rfl (Nat.le_of_ble_eq_true rfl) dX5_decide_69 ⟨Nat.le_of_ble_eq_true rfl, Nat.le_of_ble_eq_true rfl⟩) hD hS hA (fun H locs hP hD hS => ?_)
          refine lv_if_eq (tgt := 84) hx hb dX5_decide_72 (by decide) (fun c_72 => ?_) (fun c_72 => absurd (by decide) c_72)
          refine lv_iconst (v := 0) hx hb dX5_decide_84 (by decide) ?_
          exact W.iret (v := 0) hx hb hr (fun t9 ht9 hW9 => ⟨⟨0, ((upd u.1 15 3), u.2), rfl, ⟨rfl, by rw [he]⟩, by rw [ht9]; exact hP, va_K.moved hW9.alike hK, hD⟩, hS.F ht9⟩) hS.2.2 dX5_decide_85
      · refine lv_iconst (v := 0) hx hb dX5_decide_43 (by decide) ?_
        refine lv_goto (tgt := 53) hx hb dX5_decide_44 (by decide) ?_
        have elow : pg_low (u.2 9 j) = 0 := if_pos c_40
        refine W.eq (g2 := F0 m 53 ls [.int (pg_low (u.2 9 j)), .int x]) (by rw [elow]) ?_
        refine lv_aload_n hx hb dX5_decide_53 rfl (lv_at hl 1 rfl) ?_
        refine va_get (D := D) (ci := 5) (v := .ref (a 9)) (C := RX5) (T := TX5) (N := 31) hx hb hts hiX5 hown hK hP 0 rfl rfl 22 (by decide) hw3 (fun _ h9 => h9) rfl dX5_decide_54 ?_
        refine lv_iload_n hx hb dX5_decide_57 rfl (lv_at hl 2 rfl) ?_
        refine pg_ild (f := u.2 8) hx hb hK hP 9 0 rfl rfl (show j < _ by omega) (by decide) dX5_decide_58 ?_
        rcases Bool.eq_false_or_eq_true (pg_in x (pg_low (u.2 9 j)) (u.2 8 j)) with c_59 | c_59
        · refine pg_iE (pg_rS (As := [.int x, .int (pg_low (u.2 9 j)), .int (u.2 8 j)]) (rest := []) ⟨hx, hb, hml, hown, hts⟩ (cm_in_t l D (pg_ty cI cZ) (pg_wM cI cZ a u) H.size x (pg_low (u.2 9 j)) (u.2 8 j) c_59) (va_cwS 3 hts gX5_decide_X5_in rfl rfl rfl (by decide +kernel) ⟨Nat.le_of_ble_eq_true rfl, Nat.le_of_ble_eq_true rfl⟩) hK hP hD rfl hl.1 rfl (Nat.le_of_ble_eq_true rfl) dX5_decide_59 ⟨Nat.le_of_ble_eq_true rfl, Nat.le_of_ble_eq_true rfl⟩) hD hS hA (fun H locs hP hD hS => ?_)
          refine lv_if_ne (tgt := 67) hx hb dX5_decide_62 (by decide) (fun c_62 => ?_) (fun c_62 => absurd c_62 (by decide))
          refine lv_aload_n hx hb dX5_decide_67 rfl (lv_at hl 1 rfl) ?_
          refine lv_iload_n hx hb dX5_decide_68 rfl (lv_at hl 0 rfl) ?_
          exact absurd (hthr.symm.trans (by simp only [pg_t_decide, c_2, hcl, d_19, c_59, cond_true, cond_false, Bool.not_true, Bool.not_false])) h0
        · refine pg_iE (pg_rS (As := [.int x, .int (pg_low (u.2 9 j)), .int (u.2 8 j)]) (rest := []) ⟨hx, hb, hml, hown, hts⟩ (cm_in_f l D (pg_ty cI cZ) (pg_wM cI cZ a u) H.size x (pg_low (u.2 9 j)) (u.2 8 j) c_59) (va_cwS 3 hts gX5_decide_X5_in rfl rfl rfl (by decide +kernel) ⟨Nat.le_of_ble_eq_true rfl, Nat.le_of_ble_eq_true rfl⟩) hK hP hD rfl hl.1 rfl (Nat.le_of_ble_eq_true rfl) dX5_decide_59 ⟨Nat.le_of_ble_eq_true rfl, Nat.le_of_ble_eq_true rfl⟩) hD hS hA (fun H locs hP hD hS => ?_)
          refine lv_if_ne (tgt := 67) hx hb dX5_decide_62 (by decide) (fun c_62 => absurd (by decide) c_62) (fun c_62 => ?_)
          refine lv_iconst (v := 3) hx hb dX5_decide_65 (by decide) ?_
          refine lv_istore_n (lv' := [(3, .int 3), (0, .ref (a 0)), (1, .int (nI j)), (2, .int x)]) hx hb dX5_decide_66 rfl hl (by decide) rfl (fun ls hl => ?_)
          refine lv_aload_n hx hb dX5_decide_67 rfl (lv_at hl 1 rfl) ?_
          refine lv_iload_n hx hb dX5_decide_68 rfl (lv_at hl 0 rfl) ?_
          have he : e9 = 3 := hthr.symm.trans (by simp only [pg_t_decide, c_2, hcl, d_19, c_59, cond_true, cond_false, Bool.not_true, Bool.not_false])
          refine pg_iE (pg_rV (As := [.int 3]) (rest := []) ⟨hx, hb, hml, hown, hts⟩ (cm_fine1 l D cI cZ a H.size u 3 (by decide)) (cwV 1 hts gX5_decide_X5_isFine rfl rfl rfl (by decide +kernel) ⟨Nat.le_of_ble_eq_true rfl, Nat.le_of_ble_eq_true rfl⟩) hK hP hD 0 (ci := 5) rfl rfl rfl rfl hl.1 rfl (Nat.le_of_ble_eq_true rfl) dX5_decide_69 ⟨Nat.le_of_ble_eq_true rfl, Nat.le_of_ble_eq_true rfl⟩) hD hS hA (fun H locs hP hD hS => ?_)
          refine lv_if_eq (tgt := 84) hx hb dX5_decide_72 (by decide) (fun c_72 => ?_) (fun c_72 => absurd (by decide) c_72)
          refine lv_iconst (v := 0) hx hb dX5_decide_84 (by decide) ?_
          exact W.iret (v := 0) hx hb hr (fun t9 ht9 hW9 => ⟨⟨0, ((upd u.1 15 3), u.2), rfl, ⟨rfl, by rw [he]⟩, by rw [ht9]; exact hP, va_K.moved hW9.alike hK, hD⟩, hS.F ht9⟩) hS.2.2 dX5_decide_85
    · have d_19 := pg_eq_f c_19
      refine lv_iconst (v := 2) hx hb dX5_decide_22 (by decide) ?_
      refine lv_goto (tgt := 27) hx hb dX5_decide_23 (by decide) ?_
      refine lv_istore_n (lv' := [(3, .int 2), (0, .ref (a 0)), (1, .int (nI j)), (2, .int x)]) hx hb dX5_decide_27 rfl hl (by decide) rfl (fun ls hl => ?_)
      refine lv_iload_n hx hb dX5_decide_28 rfl (lv_at hl 0 rfl) ?_
      refine lv_if_ne (tgt := 67) hx hb dX5_decide_29 (by decide) (fun c_29 => ?_) (fun c_29 => absurd c_29 (by decide))
      refine lv_aload_n hx hb dX5_decide_67 rfl (lv_at hl 1 rfl) ?_
      refine lv_iload_n hx hb dX5_decide_68 rfl (lv_at hl 0 rfl) ?_
      have he : e9 = 2 := hthr.symm.trans (by simp only [pg_t_decide, c_2, hcl, d_19, cond_true, cond_false, Bool.not_true, Bool.not_false])
      refine pg_iE (pg_rV (As := [.int 2]) (rest := []) ⟨hx, hb, hml, hown, hts⟩ (cm_fine1 l D cI cZ a H.size u 2 (by decide)) (cwV 1 hts gX5_decide_X5_isFine rfl rfl rfl (by decide +kernel) ⟨Nat.le_of_ble_eq_true rfl, Nat.le_of_ble_eq_true rfl⟩) hK hP hD 0 (ci := 5) rfl rfl rfl rfl hl.1 rfl (Nat.le_of_ble_eq_true rfl) dX5_decide_69 ⟨Nat.le_of_ble_eq_true rfl, Nat.le_of_ble_eq_true rfl⟩) hD hS hA (fun H locs hP hD hS => ?_)
      refine lv_if_eq (tgt := 84) hx hb dX5_decide_72 (by decide) (fun c_72 => ?_) (fun c_72 => absurd (by decide) c_72)
      refine lv_iconst (v := 0) hx hb dX5_decide_84 (by decide) ?_
      exact W.iret (v := 0) hx hb hr (fun t9 ht9 hW9 => ⟨⟨0, ((upd u.1 15 2), u.2), rfl, ⟨rfl, by rw [he]⟩, by rw [ht9]; exact hP, va_K.moved hW9.alike hK, hD⟩, hS.F ht9⟩) hS.2.2 dX5_decide_85
  · refine pg_iE (pg_rV (As := [.int k]) (rest := []) ⟨hx, hb, hml, hown, hts⟩ (cm_isClaim_f l D cI cZ a s.heap.size u n hn h20 k c_2) (cwV 1 hts gX5_decide_X5_isClaim rfl rfl rfl (by decide +kernel) ⟨Nat.le_of_ble_eq_true rfl, Nat.le_of_ble_eq_true rfl⟩) hK hP hD 0 (ci := 5) rfl rfl rfl rfl hl.1 rfl (Nat.le_of_ble_eq_true rfl) dX5_decide_2 ⟨Nat.le_of_ble_eq_true rfl, Nat.le_of_ble_eq_true rfl⟩) hD hS hA (fun H locs hP hD hS => ?_)
    refine lv_if_ne (tgt := 12) hx hb dX5_decide_5 (by decide) (fun c_5 => absurd (by decide) c_5) (fun c_5 => ?_)
    refine lv_iconst (v := 1) hx hb dX5_decide_8 (by decide) ?_
    refine lv_goto (tgt := 27) hx hb dX5_decide_9 (by decide) ?_
    refine lv_istore_n (lv' := [(3, .int 1), (0, .ref (a 0)), (1, .int k), (2, .int x)]) hx hb dX5_decide_27 rfl hl (by decide) rfl (fun ls hl => ?_)
    refine lv_iload_n hx hb dX5_decide_28 rfl (lv_at hl 0 rfl) ?_
    refine lv_if_ne (tgt := 67) hx hb dX5_decide_29 (by decide) (fun c_29 => ?_) (fun c_29 => absurd c_29 (by decide))
    refine lv_aload_n hx hb dX5_decide_67 rfl (lv_at hl 1 rfl) ?_
    refine lv_iload_n hx hb dX5_decide_68 rfl (lv_at hl 0 rfl) ?_
    have he : e9 = 1 := hthr.symm.trans (by simp only [pg_t_decide, c_2, cond_true, cond_false, Bool.not_true, Bool.not_false])
    refine pg_iE (pg_rV (As := [.int 1]) (rest := []) ⟨hx, hb, hml, hown, hts⟩ (cm_fine1 l D cI cZ a H.size u 1 (by decide)) (cwV 1 hts gX5_decide_X5_isFine rfl rfl rfl (by decide +kernel) ⟨Nat.le_of_ble_eq_true rfl, Nat.le_of_ble_eq_true rfl⟩) hK hP hD 0 (ci := 5) rfl rfl rfl rfl hl.1 rfl (Nat.le_of_ble_eq_true rfl) dX5_decide_69 ⟨Nat.le_of_ble_eq_true rfl, Nat.le_of_ble_eq_true rfl⟩) hD hS hA (fun H locs hP hD hS => ?_)
    refine lv_if_eq (tgt := 84) hx hb dX5_decide_72 (by decide) (fun c_72 => ?_) (fun c_72 => absurd (by decide) c_72)
    refine lv_iconst (v := 0) hx hb dX5_decide_84 (by decide) ?_
    exact W.iret (v := 0) hx hb hr (fun t9 ht9 hW9 => ⟨⟨0, ((upd u.1 15 1), u.2), rfl, ⟨rfl, by rw [he]⟩, by rw [ht9]; exact hP, va_K.moved hW9.alike hK, hD⟩, hS.F ht9⟩) hS.2.2 dX5_decide_85
set_option maxHeartbeats 4000000 in
set_option maxRecDepth 100000 in
/-- owes(sum) -/
theorem cm_owes (l : Launch) (D : va_G) (cI cZ : ClassId) (a : Nat → Nat) (sz : Nat) (u : pg_St) (n : Nat) (hn : u.1 10 = nI n) (h20 : n ≤ 20) (x : Int32) : Met l yX5_owes wsX5_owes ({ frames := 3, cells := 0, slots := 0, locals := 63 }) (va_Pc [.ref (a 0), .int x] (pg_B D (pg_ty cI cZ) (pg_wM cI cZ a u) sz)) (va_Qi (fun r u' => r = x ∧ u' = pg_owe u n x) (pg_E D (pg_ty cI cZ) (va_A (pg_wM cI cZ a u) sz) (pg_wM cI cZ a)) (va_A (pg_wM cI cZ a u) sz)) 0 0 (va_A (pg_wM cI cZ a u) sz) := by
  refine Met.ofW (cc := cX5_owes) (maxL := 3) (ret := (some .int)) (by decide) rfl ?_
  intro p e s m args below meth c s₁ B hml hv
  obtain ⟨rfl, hsz, hP, hK, hD0⟩ := hv
  have hx := B.exec
  have hb := B.bytes
  have hr := B.returns
  have hts := atoms_spec (ws := wsX5_owes) B.pre
  have hown : s.vm.findClass RX5 = some m.cls := findClass_of_methodNamed B.named
  have hlocks := B.notSynchronized
  subst hsz
  have hD := hD0.self (sz := s.heap.size)
  generalize hAe : va_A (pg_wM cI cZ a u) s.heap.size = A at hD ⊢
  have hA : ∀ q : Nat, s.heap.size ≤ q → A q := fun q h => by rw [← hAe]; exact Or.inr h
  have hS : va_S A s.heap s.heap [] := va_S.rf
  have hl := lv_entry ([.ref (a 0), .int x]) (n := 3) (Nat.le_of_ble_eq_true rfl)
  rw [lg_entry_eq]
  generalize (lg_sl ([.ref (a 0), .int x]) ++ List.replicate (3 - (lg_sl ([.ref (a 0), .int x])).length) Slot.unset).toArray = ls at hl ⊢
  have hl : lv_has ls 3 [(0, .ref (a 0)), (1, .int x)] := hl
  have hiX5 : ∀ w ∈ wsX50, w ∈ wsX5_owes := fun _ h => List.mem_cons_of_mem _ (List.mem_append_right _ (h))
  have hw1 := hts (.fieldLink RX5 119 "PegBoxModel" "setOff" "I") (List.mem_of_getElem? (i := 1) rfl)
  have hw2 := hts (.fieldLink RX5 93 "PegBoxModel" "paid" "I") (List.mem_of_getElem? (i := 2) rfl)
  have hw3 := hts (.fieldLink RX5 129 "PegBoxModel" "owed" "I") (List.mem_of_getElem? (i := 3) rfl)
  refine lv_aload_n hx hb dX5_owes_0 rfl (lv_at hl 0 rfl) ?_
  refine pg_iE (pg_rV (As := []) (rest := []) ⟨hx, hb, hml, hown, hts⟩ (cm_open l D cI cZ a s.heap.size u n hn h20) (cwV 0 hts gX5_owes_X5_open rfl rfl rfl (by decide +kernel) ⟨Nat.le_of_ble_eq_true rfl, Nat.le_of_ble_eq_true rfl⟩) hK hP hD 0 (ci := 5) rfl rfl rfl rfl hl.1 rfl (Nat.le_of_ble_eq_true rfl) dX5_owes_1 ⟨Nat.le_of_ble_eq_true rfl, Nat.le_of_ble_eq_true rfl⟩) hD hS hA (fun H locs hP hD hS => ?_)
  refine lv_iload_n hx hb dX5_owes_4 rfl (lv_at hl 1 rfl) ?_
  refine lv_icmp_ge (tgt := 15) hx hb dX5_owes_5 (by decide) (fun c_5 => ?_) (fun c_5 => ?_)
  · refine lv_iload_n hx hb dX5_owes_15 rfl (lv_at hl 1 rfl) ?_
    refine lv_topi (fun f1 ef1 => ?_)
    have e1 : f1 = pg_min x (pg_out u n) := by rw [ef1, pg_min]; exact (if_neg (Int32.not_lt.mpr c_5)).symm
    refine lv_istore_n (lv' := [(2, .int f1), (0, .ref (a 0)), (1, .int x)]) hx hb dX5_owes_16 rfl hl (by decide) rfl (fun ls hl => ?_)
    refine lv_aload_n hx hb dX5_owes_17 rfl (lv_at hl 1 rfl) ?_
    refine lv_dup hx hb dX5_owes_18 rfl ?_
    refine va_get (D := D) (ci := 5) (v := .int (u.1 8)) (C := RX5) (T := TX5) (N := 31) hx hb hts hiX5 hown hK hP 0 rfl rfl 19 (by decide) hw1 (fun _ h9 => h9) rfl dX5_owes_19 ?_
    refine lv_iload_n hx hb dX5_owes_22 rfl (lv_at hl 0 rfl) ?_
    refine lv_iadd hx hb dX5_owes_23 ?_
    refine va_put (D := D) (ci := 5) (v := .int ((u.1 8) + f1)) (ty := .int) (C := RX5) (T := TX5) (N := 31) hx hb hts hiX5 tyX5 tyX5_ok nmX5 hown hK hP hD hS 0 rfl rfl 19 (by decide) hw1 (fun _ h9 => h9) rfl (by decide +kernel) rfl rfl (Nat.le_of_ble_eq_true rfl) dX5_owes_24 (fun H locs hP hD hS => ?_)
    have hP : va_P D vwCl (pg_wM cI cZ a ((upd u.1 8 ((u.1 8) + f1)), u.2)) H := hP
    have hD : va_D A (pg_wM cI cZ a ((upd u.1 8 ((u.1 8) + f1)), u.2)) := hD
    refine lv_aload_n hx hb dX5_owes_27 rfl (lv_at hl 1 rfl) ?_
    refine lv_dup hx hb dX5_owes_28 rfl ?_
    refine va_get (D := D) (ci := 5) (v := .int (u.1 6)) (C := RX5) (T := TX5) (N := 31) hx hb hts hiX5 hown hK hP 0 rfl rfl 17 (by decide) hw2 (fun _ h9 => h9) rfl dX5_owes_29 ?_
    refine lv_iload_n hx hb dX5_owes_32 rfl (lv_at hl 2 rfl) ?_
    refine lv_iload_n hx hb dX5_owes_33 rfl (lv_at hl 0 rfl) ?_
    refine lv_isub hx hb dX5_owes_34 ?_
    refine lv_iadd hx hb dX5_owes_35 ?_
    refine va_put (D := D) (ci := 5) (v := .int ((u.1 6) + (x - f1))) (ty := .int) (C := RX5) (T := TX5) (N := 31) hx hb hts hiX5 tyX5 tyX5_ok nmX5 hown hK hP hD hS 0 rfl rfl 17 (by decide) hw2 (fun _ h9 => h9) rfl (by decide +kernel) rfl rfl (Nat.le_of_ble_eq_true rfl) dX5_owes_36 (fun H locs hP hD hS => ?_)
    have hP : va_P D vwCl (pg_wM cI cZ a ((upd (upd u.1 8 ((u.1 8) + f1)) 6 ((u.1 6) + (x - f1))), u.2)) H := hP
    have hD : va_D A (pg_wM cI cZ a ((upd (upd u.1 8 ((u.1 8) + f1)) 6 ((u.1 6) + (x - f1))), u.2)) := hD
    refine lv_aload_n hx hb dX5_owes_39 rfl (lv_at hl 1 rfl) ?_
    refine lv_dup hx hb dX5_owes_40 rfl ?_
    refine va_get (D := D) (ci := 5) (v := .int (u.1 9)) (C := RX5) (T := TX5) (N := 31) hx hb hts hiX5 hown hK hP 0 rfl rfl 20 (by decide) hw3 (fun _ h9 => h9) rfl dX5_owes_41 ?_
    refine lv_iload_n hx hb dX5_owes_44 rfl (lv_at hl 2 rfl) ?_
    refine lv_iadd hx hb dX5_owes_45 ?_
    refine va_put (D := D) (ci := 5) (v := .int ((u.1 9) + x)) (ty := .int) (C := RX5) (T := TX5) (N := 31) hx hb hts hiX5 tyX5 tyX5_ok nmX5 hown hK hP hD hS 0 rfl rfl 20 (by decide) hw3 (fun _ h9 => h9) rfl (by decide +kernel) rfl rfl (Nat.le_of_ble_eq_true rfl) dX5_owes_46 (fun H locs hP hD hS => ?_)
    have hP : va_P D vwCl (pg_wM cI cZ a ((upd (upd (upd u.1 8 ((u.1 8) + f1)) 6 ((u.1 6) + (x - f1))) 9 ((u.1 9) + x)), u.2)) H := hP
    have hD : va_D A (pg_wM cI cZ a ((upd (upd (upd u.1 8 ((u.1 8) + f1)) 6 ((u.1 6) + (x - f1))) 9 ((u.1 9) + x)), u.2)) := hD
    refine lv_iload_n hx hb dX5_owes_49 rfl (lv_at hl 2 rfl) ?_
    exact W.iret (v := x) hx hb hr (fun t9 ht9 hW9 => ⟨⟨x, ((upd (upd (upd u.1 8 ((u.1 8) + f1)) 6 ((u.1 6) + (x - f1))) 9 ((u.1 9) + x)), u.2), rfl, ⟨rfl, by rw [e1]; exact pg_owe_m u n x⟩, by rw [ht9]; exact hP, va_K.moved hW9.alike hK, hD⟩, hS.F ht9⟩) hS.2.2 dX5_owes_50
  · refine lv_aload_n hx hb dX5_owes_8 rfl (lv_at hl 0 rfl) ?_
    refine pg_iE (pg_rV (As := []) (rest := []) ⟨hx, hb, hml, hown, hts⟩ (cm_open l D cI cZ a H.size u n hn h20) (cwV 0 hts gX5_owes_X5_open rfl rfl rfl (by decide +kernel) ⟨Nat.le_of_ble_eq_true rfl, Nat.le_of_ble_eq_true rfl⟩) hK hP hD 0 (ci := 5) rfl rfl rfl rfl hl.1 rfl (Nat.le_of_ble_eq_true rfl) dX5_owes_9 ⟨Nat.le_of_ble_eq_true rfl, Nat.le_of_ble_eq_true rfl⟩) hD hS hA (fun H locs hP hD hS => ?_)
    refine lv_goto (tgt := 16) hx hb dX5_owes_12 (by decide) ?_
    refine lv_topi (fun f1 ef1 => ?_)
    have e1 : f1 = pg_min x (pg_out u n) := by rw [ef1, pg_min]; exact (if_pos (Int32.not_le.mp c_5)).symm
    refine lv_istore_n (lv' := [(2, .int f1), (0, .ref (a 0)), (1, .int x)]) hx hb dX5_owes_16 rfl hl (by decide) rfl (fun ls hl => ?_)
    refine lv_aload_n hx hb dX5_owes_17 rfl (lv_at hl 1 rfl) ?_
    refine lv_dup hx hb dX5_owes_18 rfl ?_
    refine va_get (D := D) (ci := 5) (v := .int (u.1 8)) (C := RX5) (T := TX5) (N := 31) hx hb hts hiX5 hown hK hP 0 rfl rfl 19 (by decide) hw1 (fun _ h9 => h9) rfl dX5_owes_19 ?_
    refine lv_iload_n hx hb dX5_owes_22 rfl (lv_at hl 0 rfl) ?_
    refine lv_iadd hx hb dX5_owes_23 ?_
    refine va_put (D := D) (ci := 5) (v := .int ((u.1 8) + f1)) (ty := .int) (C := RX5) (T := TX5) (N := 31) hx hb hts hiX5 tyX5 tyX5_ok nmX5 hown hK hP hD hS 0 rfl rfl 19 (by decide) hw1 (fun _ h9 => h9) rfl (by decide +kernel) rfl rfl (Nat.le_of_ble_eq_true rfl) dX5_owes_24 (fun H locs hP hD hS => ?_)
    have hP : va_P D vwCl (pg_wM cI cZ a ((upd u.1 8 ((u.1 8) + f1)), u.2)) H := hP
    have hD : va_D A (pg_wM cI cZ a ((upd u.1 8 ((u.1 8) + f1)), u.2)) := hD
    refine lv_aload_n hx hb dX5_owes_27 rfl (lv_at hl 1 rfl) ?_
    refine lv_dup hx hb dX5_owes_28 rfl ?_
    refine va_get (D := D) (ci := 5) (v := .int (u.1 6)) (C := RX5) (T := TX5) (N := 31) hx hb hts hiX5 hown hK hP 0 rfl rfl 17 (by decide) hw2 (fun _ h9 => h9) rfl dX5_owes_29 ?_
    refine lv_iload_n hx hb dX5_owes_32 rfl (lv_at hl 2 rfl) ?_
    refine lv_iload_n hx hb dX5_owes_33 rfl (lv_at hl 0 rfl) ?_
    refine lv_isub hx hb dX5_owes_34 ?_
    refine lv_iadd hx hb dX5_owes_35 ?_
    refine va_put (D := D) (ci := 5) (v := .int ((u.1 6) + (x - f1))) (ty := .int) (C := RX5) (T := TX5) (N := 31) hx hb hts hiX5 tyX5 tyX5_ok nmX5 hown hK hP hD hS 0 rfl rfl 17 (by decide) hw2 (fun _ h9 => h9) rfl (by decide +kernel) rfl rfl (Nat.le_of_ble_eq_true rfl) dX5_owes_36 (fun H locs hP hD hS => ?_)
    have hP : va_P D vwCl (pg_wM cI cZ a ((upd (upd u.1 8 ((u.1 8) + f1)) 6 ((u.1 6) + (x - f1))), u.2)) H := hP
    have hD : va_D A (pg_wM cI cZ a ((upd (upd u.1 8 ((u.1 8) + f1)) 6 ((u.1 6) + (x - f1))), u.2)) := hD
    refine lv_aload_n hx hb dX5_owes_39 rfl (lv_at hl 1 rfl) ?_
    refine lv_dup hx hb dX5_owes_40 rfl ?_
    refine va_get (D := D) (ci := 5) (v := .int (u.1 9)) (C := RX5) (T := TX5) (N := 31) hx hb hts hiX5 hown hK hP 0 rfl rfl 20 (by decide) hw3 (fun _ h9 => h9) rfl dX5_owes_41 ?_
    refine lv_iload_n hx hb dX5_owes_44 rfl (lv_at hl 2 rfl) ?_
    refine lv_iadd hx hb dX5_owes_45 ?_
    refine va_put (D := D) (ci := 5) (v := .int ((u.1 9) + x)) (ty := .int) (C := RX5) (T := TX5) (N := 31) hx hb hts hiX5 tyX5 tyX5_ok nmX5 hown hK hP hD hS 0 rfl rfl 20 (by decide) hw3 (fun _ h9 => h9) rfl (by decide +kernel) rfl rfl (Nat.le_of_ble_eq_true rfl) dX5_owes_46 (fun H locs hP hD hS => ?_)
    have hP : va_P D vwCl (pg_wM cI cZ a ((upd (upd (upd u.1 8 ((u.1 8) + f1)) 6 ((u.1 6) + (x - f1))) 9 ((u.1 9) + x)), u.2)) H := hP
    have hD : va_D A (pg_wM cI cZ a ((upd (upd (upd u.1 8 ((u.1 8) + f1)) 6 ((u.1 6) + (x - f1))) 9 ((u.1 9) + x)), u.2)) := hD
    refine lv_iload_n hx hb dX5_owes_49 rfl (lv_at hl 2 rfl) ?_
    exact W.iret (v := x) hx hb hr (fun t9 ht9 hW9 => ⟨⟨x, ((upd (upd (upd u.1 8 ((u.1 8) + f1)) 6 ((u.1 6) + (x - f1))) 9 ((u.1 9) + x)), u.2), rfl, ⟨rfl, by rw [e1]; exact pg_owe_m u n x⟩, by rw [ht9]; exact hP, va_K.moved hW9.alike hK, hD⟩, hS.F ht9⟩) hS.2.2 dX5_owes_50
set_option maxHeartbeats 4000000 in
set_option maxRecDepth 100000 in
/-- cm_report: fine -/
theorem cm_report_ok (l : Launch) (D : va_G) (cI cZ : ClassId) (a : Nat → Nat) (sz : Nat) (u : pg_St) (n : Nat) (hn : u.1 10 = nI n) (h20 : n ≤ 20) (t : Nat) (ht : u.1 13 = nI t) (h4 : t ≤ 4) (hm : ∀ y : Nat, y < 4 → u.2 13 y = 0 ∨ u.2 13 y = 1) (x : Int32) (hthr : pg_t_report (!pg_eq (u.1 14) 0) (!pg_eq (u.1 12) 0) (nI t) x = 0) : Met l yX5_report wsX5_report ({ frames := 4, cells := 0, slots := 0, locals := 85 }) (va_Pc [.ref (a 0), .int x] (pg_B D (pg_ty cI cZ) (pg_wM cI cZ a u) sz)) (va_Qi (fun r u' => r = pg_msum u.2 (pg_tkM u t x) (t + 1) ∧ u' = pg_owe (upd (upd u.1 15 0) 13 (nI (t + 1)), pg_row (pg_row u.2 14 (upd (u.2 14) t x)) 13 (pg_met u.2 (pg_tkM u t x) (t + 1))) n (pg_msum u.2 (pg_tkM u t x) (t + 1))) (pg_E D (pg_ty cI cZ) (va_A (pg_wM cI cZ a u) sz) (pg_wM cI cZ a)) (va_A (pg_wM cI cZ a u) sz)) 0 0 (va_A (pg_wM cI cZ a u) sz) := by
  refine Met.ofW (cc := cX5_report) (maxL := 8) (ret := (some .int)) (by decide) rfl ?_
  intro p e s m args below meth c s₁ B hml hv
  obtain ⟨rfl, hsz, hP, hK, hD0⟩ := hv
  have hx := B.exec
  have hb := B.bytes
  have hr := B.returns
  have hts := atoms_spec (ws := wsX5_report) B.pre
  have hown : s.vm.findClass RX5 = some m.cls := findClass_of_methodNamed B.named
  have hlocks := B.notSynchronized
  subst hsz
  have hD := hD0.self (sz := s.heap.size)
  generalize hAe : va_A (pg_wM cI cZ a u) s.heap.size = A at hD ⊢
  have hA : ∀ q : Nat, s.heap.size ≤ q → A q := fun q h => by rw [← hAe]; exact Or.inr h
  have hS : va_S A s.heap s.heap [] := va_S.rf
  have hl := lv_entry ([.ref (a 0), .int x]) (n := 8) (Nat.le_of_ble_eq_true rfl)
  rw [lg_entry_eq]
  generalize (lg_sl ([.ref (a 0), .int x]) ++ List.replicate (8 - (lg_sl ([.ref (a 0), .int x])).length) Slot.unset).toArray = ls at hl ⊢
  have hl : lv_has ls 8 [(0, .ref (a 0)), (1, .int x)] := hl
  have hiX5 : ∀ w ∈ wsX50, w ∈ wsX5_report := fun _ h => List.mem_cons_of_mem _ (List.mem_append_right _ (h))
  have hw1 := hts (.constant RX5 65 (-10000000)) (List.mem_of_getElem? (i := 1) rfl)
  have hw2 := hts (.constant RX5 60 (10000000)) (List.mem_of_getElem? (i := 2) rfl)
  have hw3 := hts (.fieldLink RX5 66 "PegBoxModel" "closed" "Z") (List.mem_of_getElem? (i := 3) rfl)
  have hw4 := hts (.fieldLink RX5 132 "PegBoxModel" "told" "I") (List.mem_of_getElem? (i := 4) rfl)
  have hw5 := hts (.fieldLink RX5 135 "PegBoxModel" "sped" "Z") (List.mem_of_getElem? (i := 5) rfl)
  have hw6 := hts (.fieldLink RX5 50 "PegBoxModel" "results" "[I") (List.mem_of_getElem? (i := 6) rfl)
  have hw7 := hts (.fieldLink RX5 32 "PegBoxModel" "target" "[I") (List.mem_of_getElem? (i := 7) rfl)
  have hw8 := hts (.fieldLink RX5 84 "PegBoxModel" "carried" "Z") (List.mem_of_getElem? (i := 8) rfl)
  have hw9 := hts (.fieldLink RX5 53 "PegBoxModel" "met" "[Z") (List.mem_of_getElem? (i := 9) rfl)
  have hw10 := hts (.fieldLink RX5 35 "PegBoxModel" "yearAmount" "[I") (List.mem_of_getElem? (i := 10) rfl)
  refine lv_aload_n hx hb dX5_report_0 rfl (lv_at hl 0 rfl) ?_
  refine lv_iload_n hx hb dX5_report_1 rfl (lv_at hl 1 rfl) ?_
  refine lv_ldc hx hb hown hw1 dX5_report_2 ?_
  refine lv_ldc hx hb hown hw2 dX5_report_4 ?_
  rcases Bool.eq_false_or_eq_true (pg_in x (-10000000) 10000000) with c_6 | c_6
  · refine pg_iE (pg_rS (As := [.int x, .int (-10000000), .int 10000000]) (rest := [.ref (a 0)]) ⟨hx, hb, hml, hown, hts⟩ (cm_in_t l D (pg_ty cI cZ) (pg_wM cI cZ a u) s.heap.size x (-10000000) 10000000 c_6) (va_cwS 3 hts gX5_report_X5_in rfl rfl rfl (by decide +kernel) ⟨Nat.le_of_ble_eq_true rfl, Nat.le_of_ble_eq_true rfl⟩) hK hP hD rfl hl.1 rfl (Nat.le_of_ble_eq_true rfl) dX5_report_6 ⟨Nat.le_of_ble_eq_true rfl, Nat.le_of_ble_eq_true rfl⟩) hD hS hA (fun H locs hP hD hS => ?_)
    refine lv_if_ne (tgt := 16) hx hb dX5_report_9 (by decide) (fun c_9 => ?_) (fun c_9 => absurd c_9 (by decide))
    refine lv_aload_n hx hb dX5_report_16 rfl (lv_at hl 0 rfl) ?_
    refine va_get (D := D) (ci := 5) (v := .int (u.1 14)) (C := RX5) (T := TX5) (N := 31) hx hb hts hiX5 hown hK hP 0 rfl rfl 13 (by decide) hw3 (fun _ h9 => h9) rfl dX5_report_17 ?_
    refine lv_if_eq (tgt := 38) hx hb dX5_report_20 (by decide) (fun c_20 => ?_) (fun c_20 => ?_)
    · have d_20 := pg_eq_t c_20
      refine lv_iconst (v := 2) hx hb dX5_report_38 (by decide) ?_
      refine lv_goto (tgt := 43) hx hb dX5_report_39 (by decide) ?_
      exact absurd hthr (by first | (simp only [pg_t_report, c_6, d_20, cond_true, cond_false, Bool.not_true, Bool.not_false, Bool.cond_self]; done) | (simp only [pg_t_report, c_6, d_20, cond_true, cond_false, Bool.not_true, Bool.not_false, Bool.cond_self]; decide))
    · have d_20 := pg_eq_f c_20
      refine lv_aload_n hx hb dX5_report_23 rfl (lv_at hl 0 rfl) ?_
      refine va_get (D := D) (ci := 5) (v := .int (u.1 13)) (C := RX5) (T := TX5) (N := 31) hx hb hts hiX5 hown hK hP 0 rfl rfl 28 (by decide) hw4 (fun _ h9 => h9) rfl dX5_report_24 ?_
      rw [ht]
      refine lv_iconst (v := 4) hx hb dX5_report_27 (by decide) ?_
      refine lv_icmp_eq (tgt := 38) hx hb dX5_report_28 (by decide) (fun c_28 => ?_) (fun c_28 => ?_)
      · have d_28 := (pg_eq4 h4).trans (pg_eq_t c_28)
        refine lv_iconst (v := 2) hx hb dX5_report_38 (by decide) ?_
        refine lv_goto (tgt := 43) hx hb dX5_report_39 (by decide) ?_
        exact absurd hthr (by first | (simp only [pg_t_report, c_6, d_20, d_28, cond_true, cond_false, Bool.not_true, Bool.not_false, Bool.cond_self]; done) | (simp only [pg_t_report, c_6, d_20, d_28, cond_true, cond_false, Bool.not_true, Bool.not_false, Bool.cond_self]; decide))
      · have d_28 := (pg_eq4 h4).trans (pg_eq_f c_28)
        refine lv_aload_n hx hb dX5_report_31 rfl (lv_at hl 0 rfl) ?_
        refine va_get (D := D) (ci := 5) (v := .int (u.1 12)) (C := RX5) (T := TX5) (N := 31) hx hb hts hiX5 hown hK hP 0 rfl rfl 29 (by decide) hw5 (fun _ h9 => h9) rfl dX5_report_32 ?_
        refine lv_if_eq (tgt := 42) hx hb dX5_report_35 (by decide) (fun c_35 => ?_) (fun c_35 => ?_)
        · have d_35 := pg_eq_t c_35
          refine lv_iconst (v := 0) hx hb dX5_report_42 (by decide) ?_
          refine pg_iE (pg_rV (As := [.int 0]) (rest := []) ⟨hx, hb, hml, hown, hts⟩ (cm_fine0 l D cI cZ a H.size u) (cwV 1 hts gX5_report_X5_isFine rfl rfl rfl (by decide +kernel) ⟨Nat.le_of_ble_eq_true rfl, Nat.le_of_ble_eq_true rfl⟩) hK hP hD 0 (ci := 5) rfl rfl rfl rfl hl.1 rfl (Nat.le_of_ble_eq_true rfl) dX5_report_43 ⟨Nat.le_of_ble_eq_true rfl, Nat.le_of_ble_eq_true rfl⟩) hD hS hA (fun H locs hP hD hS => ?_)
          refine lv_if_ne (tgt := 51) hx hb dX5_report_46 (by decide) (fun c_46 => ?_) (fun c_46 => absurd c_46 (by decide))
          have ht4 : t < 4 := by have h7 := pg_le_n d_28; exact (nI_ltI (by omega) (by decide)).mp (show nI t < nI 4 from Int32.not_le.mp h7)
          refine lv_aload_n hx hb dX5_report_51 rfl (lv_at hl 0 rfl) ?_
          refine va_get (D := D) (ci := 5) (v := .ref (a 15)) (C := RX5) (T := TX5) (N := 31) hx hb hts hiX5 hown hK hP 0 rfl rfl 26 (by decide) hw6 (fun _ h9 => h9) rfl dX5_report_52 ?_
          refine lv_aload_n hx hb dX5_report_55 rfl (lv_at hl 0 rfl) ?_
          refine va_get (D := D) (ci := 5) (v := .int (u.1 13)) (C := RX5) (T := TX5) (N := 31) hx hb hts hiX5 hown hK hP 0 rfl rfl 28 (by decide) hw4 (fun _ h9 => h9) rfl dX5_report_56 ?_
          rw [ht]
          refine lv_iload_n hx hb dX5_report_59 rfl (lv_at hl 1 rfl) ?_
          refine pg_ist hx hb hK hP hD hS 15 0 rfl rfl (show t < _ by omega) (by decide) dX5_report_60 (fun H locs hP hD hS => ?_)
          have hP : va_P D vwCl (pg_wM cI cZ a ((upd u.1 15 0), (pg_row u.2 14 (upd (u.2 14) t x)))) H := hP
          have hD : va_D A (pg_wM cI cZ a ((upd u.1 15 0), (pg_row u.2 14 (upd (u.2 14) t x)))) := hD
          refine lv_aload_n hx hb dX5_report_61 rfl (lv_at hl 0 rfl) ?_
          refine lv_dup hx hb dX5_report_62 rfl ?_
          refine va_get (D := D) (ci := 5) (v := .int (u.1 13)) (C := RX5) (T := TX5) (N := 31) hx hb hts hiX5 hown hK hP 0 rfl rfl 28 (by decide) hw4 (fun _ h9 => h9) rfl dX5_report_63 ?_
          rw [ht]
          refine lv_iconst (v := 1) hx hb dX5_report_66 (by decide) ?_
          refine lv_iadd hx hb dX5_report_67 ?_
          rw [← nI_succ t]
          refine va_put (D := D) (ci := 5) (v := .int (nI (t + 1))) (ty := .int) (C := RX5) (T := TX5) (N := 31) hx hb hts hiX5 tyX5 tyX5_ok nmX5 hown hK hP hD hS 0 rfl rfl 28 (by decide) hw4 (fun _ h9 => h9) rfl (by decide +kernel) rfl rfl (Nat.le_of_ble_eq_true rfl) dX5_report_68 (fun H locs hP hD hS => ?_)
          have hP : va_P D vwCl (pg_wM cI cZ a ((upd (upd u.1 15 0) 13 (nI (t + 1))), (pg_row u.2 14 (upd (u.2 14) t x)))) H := hP
          have hD : va_D A (pg_wM cI cZ a ((upd (upd u.1 15 0) 13 (nI (t + 1))), (pg_row u.2 14 (upd (u.2 14) t x)))) := hD
          refine lv_iconst (v := 0) hx hb dX5_report_71 (by decide) ?_
          refine lv_istore_n (lv' := [(2, .int 0), (0, .ref (a 0)), (1, .int x)]) hx hb dX5_report_72 rfl hl (by decide) rfl (fun ls hl => ?_)
          refine lv_iconst (v := 0) hx hb dX5_report_73 (by decide) ?_
          refine lv_istore_n (lv' := [(3, .int 0), (2, .int 0), (0, .ref (a 0)), (1, .int x)]) hx hb dX5_report_74 rfl hl (by decide) rfl (fun ls hl => ?_)
          refine lv_iconst (v := 0) hx hb dX5_report_75 (by decide) ?_
          refine lv_istore (lv' := [(4, .int 0), (3, .int 0), (2, .int 0), (0, .ref (a 0)), (1, .int x)]) hx hb dX5_report_76 hl (by decide) rfl (fun ls hl => ?_)
          have L78 : ∀ (k9 i : Nat) (s1 : Int32) (s2 : Int32), i ≤ (t + 1) → (t + 1) < i + k9 → s1 = pg_sm (upd (u.2 14) t x) i → s2 = pg_sm (u.2 11) i → ∀ (H : Heap) (locs : List Loc), va_P D vwCl (pg_wM cI cZ a ((upd (upd u.1 15 0) 13 (nI (t + 1))), (pg_row u.2 14 (upd (u.2 14) t x)))) H → va_D A (pg_wM cI cZ a ((upd (upd u.1 15 0) 13 (nI (t + 1))), (pg_row u.2 14 (upd (u.2 14) t x)))) → va_S A s.heap H locs → ∀ ls : Array Slot, lv_has ls 8 [(4, .int (nI i)), (3, .int s2), (2, .int s1), (0, .ref (a 0)), (1, .int x)] → W p l e (headSpec wsX5_report ({ frames := 4, cells := 0, slots := 0, locals := 85 })).room s m ([.ref (a 0), .int x] : List Value).toArray below meth c H locs 0 0 (MQ below (va_Qi (fun r u' => r = pg_msum u.2 (pg_tkM u t x) (t + 1) ∧ u' = pg_owe (upd (upd u.1 15 0) 13 (nI (t + 1)), pg_row (pg_row u.2 14 (upd (u.2 14) t x)) 13 (pg_met u.2 (pg_tkM u t x) (t + 1))) n (pg_msum u.2 (pg_tkM u t x) (t + 1))) (pg_E D (pg_ty cI cZ) A (pg_wM cI cZ a)) A) ([.ref (a 0), .int x] : List Value).toArray s 0 0 A) (F0 m 78 ls []) := by
            intro k9
            induction k9 with
            | zero => intro i s1 s2 h1 h2; exact absurd h2 (by omega)
            | succ k9 ih =>
              intro i s1 s2 hi9 hk9 hs19 hs29 H locs hP hD hS ls hl
              subst hs19
              subst hs29
              refine lv_iload hx hb dX5_report_78 (lv_at hl 0 rfl) ?_
              refine lv_aload_n hx hb dX5_report_80 rfl (lv_at hl 3 rfl) ?_
              refine va_get (D := D) (ci := 5) (v := .int (nI (t + 1))) (C := RX5) (T := TX5) (N := 31) hx hb hts hiX5 hown hK hP 0 rfl rfl 28 (by decide) hw4 (fun _ h9 => h9) rfl dX5_report_81 ?_
              refine lv_icmp_ge (tgt := 113) hx hb dX5_report_84 (by decide) (fun c_84 => ?_) (fun c_84 => ?_)
              · have hiN : i = (t + 1) := pg_exit (rfl) (by omega) hi9 c_84
                subst hiN
                refine lv_aload_n hx hb dX5_report_113 rfl (lv_at hl 3 rfl) ?_
                refine va_get (D := D) (ci := 5) (v := .int (u.1 11)) (C := RX5) (T := TX5) (N := 31) hx hb hts hiX5 hown hK hP 0 rfl rfl 12 (by decide) hw8 (fun _ h9 => h9) rfl dX5_report_114 ?_
                refine lv_if_eq (tgt := 129) hx hb dX5_report_117 (by decide) (fun c_117 => ?_) (fun c_117 => ?_)
                · refine lv_iconst (v := 0) hx hb dX5_report_129 (by decide) ?_
                  refine lv_topi (fun b9 eb9 => ?_)
                  obtain ⟨k0, ek0⟩ : ∃ z, z = pg_tkM u t x := ⟨_, rfl⟩
                  have hk0 : ∀ y, y < t + 1 → ((¬ b9 = 0 ∨ (y = t ∧ ¬ x < u.2 11 t)) ↔ k0 ≤ y) := by
                    rw [ek0, pg_tkM, if_pos c_117]
                    exact pg_begin eb9
                  refine lv_istore (lv' := [(4, .int b9), (3, .int (pg_sm (u.2 11) (t + 1))), (2, .int (pg_sm (upd (u.2 14) t x) (t + 1))), (0, .ref (a 0)), (1, .int x)]) hx hb dX5_report_130 hl (by decide) rfl (fun ls hl => ?_)
                  refine lv_iconst (v := 0) hx hb dX5_report_132 (by decide) ?_
                  refine lv_istore (lv' := [(5, .int 0), (4, .int b9), (3, .int (pg_sm (u.2 11) (t + 1))), (2, .int (pg_sm (upd (u.2 14) t x) (t + 1))), (0, .ref (a 0)), (1, .int x)]) hx hb dX5_report_133 hl (by decide) rfl (fun ls hl => ?_)
                  refine lv_iconst (v := 0) hx hb dX5_report_135 (by decide) ?_
                  refine lv_istore (lv' := [(6, .int 0), (5, .int 0), (4, .int b9), (3, .int (pg_sm (u.2 11) (t + 1))), (2, .int (pg_sm (upd (u.2 14) t x) (t + 1))), (0, .ref (a 0)), (1, .int x)]) hx hb dX5_report_136 hl (by decide) rfl (fun ls hl => ?_)
                  have L138 : ∀ (k9 y : Nat) (s3 : Int32) (w9 : pg_St), y ≤ (t + 1) → (t + 1) < y + k9 → s3 = pg_msum u.2 k0 y → w9 = (upd (upd u.1 15 0) 13 (nI (t + 1)), pg_row (pg_row u.2 14 (upd (u.2 14) t x)) 13 (pg_met u.2 k0 y)) → ∀ (H : Heap) (locs : List Loc), va_P D vwCl (pg_wM cI cZ a w9) H → va_D A (pg_wM cI cZ a w9) → va_S A s.heap H locs → ∀ ls : Array Slot, lv_has ls 8 [(6, .int (nI y)), (5, .int s3), (4, .int b9), (3, .int (pg_sm (u.2 11) (t + 1))), (2, .int (pg_sm (upd (u.2 14) t x) (t + 1))), (0, .ref (a 0)), (1, .int x)] → W p l e (headSpec wsX5_report ({ frames := 4, cells := 0, slots := 0, locals := 85 })).room s m ([.ref (a 0), .int x] : List Value).toArray below meth c H locs 0 0 (MQ below (va_Qi (fun r u' => r = pg_msum u.2 (pg_tkM u t x) (t + 1) ∧ u' = pg_owe (upd (upd u.1 15 0) 13 (nI (t + 1)), pg_row (pg_row u.2 14 (upd (u.2 14) t x)) 13 (pg_met u.2 (pg_tkM u t x) (t + 1))) n (pg_msum u.2 (pg_tkM u t x) (t + 1))) (pg_E D (pg_ty cI cZ) A (pg_wM cI cZ a)) A) ([.ref (a 0), .int x] : List Value).toArray s 0 0 A) (F0 m 138 ls []) := by
                    intro k9
                    induction k9 with
                    | zero => intro y s3 w9 h1 h2; exact absurd h2 (by omega)
                    | succ k9 ih =>
                      intro y s3 w9 hi9 hk9 hs39 hw99 H locs hP hD hS ls hl
                      subst hs39
                      subst hw99
                      refine lv_iload hx hb dX5_report_138 (lv_at hl 0 rfl) ?_
                      refine lv_aload_n hx hb dX5_report_140 rfl (lv_at hl 5 rfl) ?_
                      refine va_get (D := D) (ci := 5) (v := .int (nI (t + 1))) (C := RX5) (T := TX5) (N := 31) hx hb hts hiX5 hown hK hP 0 rfl rfl 28 (by decide) hw4 (fun _ h9 => h9) rfl dX5_report_141 ?_
                      refine lv_icmp_ge (tgt := 245) hx hb dX5_report_144 (by decide) (fun c_144 => ?_) (fun c_144 => ?_)
                      · have hiN : y = (t + 1) := pg_exit (rfl) (by omega) hi9 c_144
                        subst hiN
                        refine lv_aload_n hx hb dX5_report_245 rfl (lv_at hl 5 rfl) ?_
                        refine lv_iload hx hb dX5_report_246 (lv_at hl 1 rfl) ?_
                        refine pg_iE (pg_rV (As := [.int (pg_msum u.2 k0 (t + 1))]) (rest := []) ⟨hx, hb, hml, hown, hts⟩ (cm_owes l D cI cZ a H.size (upd (upd u.1 15 0) 13 (nI (t + 1)), pg_row (pg_row u.2 14 (upd (u.2 14) t x)) 13 (pg_met u.2 k0 (t + 1))) n hn h20 (pg_msum u.2 k0 (t + 1))) (cwV 1 hts gX5_report_X5_owes rfl rfl rfl (by decide +kernel) ⟨Nat.le_of_ble_eq_true rfl, Nat.le_of_ble_eq_true rfl⟩) hK hP hD 0 (ci := 5) rfl rfl rfl rfl hl.1 rfl (Nat.le_of_ble_eq_true rfl) dX5_report_248 ⟨Nat.le_of_ble_eq_true rfl, Nat.le_of_ble_eq_true rfl⟩) hD hS hA (fun H locs hP hD hS => ?_)
                        exact W.iret (v := pg_msum u.2 k0 (t + 1)) hx hb hr (fun t9 ht9 hW9 => ⟨⟨pg_msum u.2 k0 (t + 1), (pg_owe (upd (upd u.1 15 0) 13 (nI (t + 1)), pg_row (pg_row u.2 14 (upd (u.2 14) t x)) 13 (pg_met u.2 k0 (t + 1))) n (pg_msum u.2 k0 (t + 1))), rfl, ⟨by rw [ek0], by rw [ek0]⟩, by rw [ht9]; exact hP, va_K.moved hW9.alike hK, hD⟩, hS.F ht9⟩) hS.2.2 dX5_report_251
                      · have hlt : y < (t + 1) := pg_stay (rfl) (by omega) c_144
                        refine lv_iload hx hb dX5_report_147 (lv_at hl 2 rfl) ?_
                        refine lv_if_ne (tgt := 174) hx hb dX5_report_149 (by decide) (fun c_149 => ?_) (fun c_149 => ?_)
                        · refine lv_iconst (v := 1) hx hb dX5_report_174 (by decide) ?_
                          refine lv_goto (tgt := 179) hx hb dX5_report_175 (by decide) ?_
                          refine lv_topi (fun m9 em9 => ?_)
                          have hm1 : k0 ≤ y := (hk0 y (by omega)).mp (Or.inl c_149)
                          refine lv_istore (lv' := [(7, .int m9), (6, .int (nI y)), (5, .int (pg_msum u.2 k0 y)), (4, .int b9), (3, .int (pg_sm (u.2 11) (t + 1))), (2, .int (pg_sm (upd (u.2 14) t x) (t + 1))), (0, .ref (a 0)), (1, .int x)]) hx hb dX5_report_179 hl (by decide) rfl (fun ls hl => ?_)
                          refine lv_iload hx hb dX5_report_181 (lv_at hl 2 rfl) ?_
                          refine lv_iload hx hb dX5_report_183 (lv_at hl 0 rfl) ?_
                          refine lv_if_eq (tgt := 208) hx hb dX5_report_185 (by decide) (fun c_185 => absurd c_185 (by rw [em9]; decide)) (fun c_185 => ?_)
                          refine lv_aload_n hx hb dX5_report_188 rfl (lv_at hl 6 rfl) ?_
                          refine va_get (D := D) (ci := 5) (v := .ref (a 14)) (C := RX5) (T := TX5) (N := 31) hx hb hts hiX5 hown hK hP 0 rfl rfl 27 (by decide) hw9 (fun _ h9 => h9) rfl dX5_report_189 ?_
                          refine lv_iload hx hb dX5_report_192 (lv_at hl 1 rfl) ?_
                          refine pg_zld (f := (pg_met u.2 k0 y)) hx hb hK hP 14 1 rfl rfl (show y < _ by omega) (by decide) dX5_report_194 ?_
                          refine lv_if_ne (tgt := 208) hx hb dX5_report_195 (by decide) (fun c_195 => ?_) (fun c_195 => ?_)
                          · refine lv_iconst (v := 0) hx hb dX5_report_208 (by decide) ?_
                            refine lv_iadd hx hb dX5_report_209 ?_
                            refine lv_istore (lv' := [(5, .int ((pg_msum u.2 k0 y) + 0)), (7, .int m9), (6, .int (nI y)), (4, .int b9), (3, .int (pg_sm (u.2 11) (t + 1))), (2, .int (pg_sm (upd (u.2 14) t x) (t + 1))), (0, .ref (a 0)), (1, .int x)]) hx hb dX5_report_210 hl (by decide) rfl (fun ls hl => ?_)
                            refine lv_aload_n hx hb dX5_report_212 rfl (lv_at hl 6 rfl) ?_
                            refine va_get (D := D) (ci := 5) (v := .ref (a 14)) (C := RX5) (T := TX5) (N := 31) hx hb hts hiX5 hown hK hP 0 rfl rfl 27 (by decide) hw9 (fun _ h9 => h9) rfl dX5_report_213 ?_
                            refine lv_iload hx hb dX5_report_216 (lv_at hl 2 rfl) ?_
                            refine lv_aload_n hx hb dX5_report_218 rfl (lv_at hl 6 rfl) ?_
                            refine va_get (D := D) (ci := 5) (v := .ref (a 14)) (C := RX5) (T := TX5) (N := 31) hx hb hts hiX5 hown hK hP 0 rfl rfl 27 (by decide) hw9 (fun _ h9 => h9) rfl dX5_report_219 ?_
                            refine lv_iload hx hb dX5_report_222 (lv_at hl 2 rfl) ?_
                            refine pg_zld (f := (pg_met u.2 k0 y)) hx hb hK hP 14 1 rfl rfl (show y < _ by omega) (by decide) dX5_report_224 ?_
                            refine lv_if_ne (tgt := 233) hx hb dX5_report_225 (by decide) (fun c_225 => ?_) (fun c_225 => absurd c_225 c_195)
                            refine lv_iconst (v := 1) hx hb dX5_report_233 (by decide) ?_
                            refine lv_goto (tgt := 238) hx hb dX5_report_234 (by decide) ?_
                            refine pg_zst hx hb hK hP hD hS 14 1 rfl rfl (show y < _ by omega) (by decide) rfl dX5_report_238 (fun H locs hP hD hS => ?_)
                            have hP : va_P D vwCl (pg_wM cI cZ a ((upd (upd u.1 15 0) 13 (nI (t + 1))), (pg_row (pg_row (pg_row u.2 14 (upd (u.2 14) t x)) 13 (pg_met u.2 k0 y)) 13 (upd ((pg_met u.2 k0 y)) y 1)))) H := hP
                            have hD : va_D A (pg_wM cI cZ a ((upd (upd u.1 15 0) 13 (nI (t + 1))), (pg_row (pg_row (pg_row u.2 14 (upd (u.2 14) t x)) 13 (pg_met u.2 k0 y)) 13 (upd ((pg_met u.2 k0 y)) y 1)))) := hD
                            refine lv_iinc (v := nI (y + 1)) (lv' := [(6, .int (nI (y + 1))), (5, .int ((pg_msum u.2 k0 y) + 0)), (7, .int m9), (4, .int b9), (3, .int (pg_sm (u.2 11) (t + 1))), (2, .int (pg_sm (upd (u.2 14) t x) (t + 1))), (0, .ref (a 0)), (1, .int x)]) hx hb dX5_report_239 hl (k := 2) rfl (by rw [nI_succ]; rfl) (by decide) rfl (fun ls hl => ?_)
                            refine lv_goto (tgt := 138) hx hb dX5_report_242 (by decide) ?_
                            rw [pg_met_at] at c_195
                            exact ih (y + 1) ((pg_msum u.2 k0 y) + 0) ((upd (upd u.1 15 0) 13 (nI (t + 1))), (pg_row (pg_row (pg_row u.2 14 (upd (u.2 14) t x)) 13 (pg_met u.2 k0 y)) 13 (upd ((pg_met u.2 k0 y)) y 1))) (by omega) (by omega) (by rw [pg_a0]; exact pg_msum_b c_195) (by rw [pg_row_row, pg_met_x (hm y (by omega)) c_195]) _ _ hP hD hS ls (lv_sub hl [0, 1, 3, 4, 5, 6, 7] rfl)
                          · refine lv_aload_n hx hb dX5_report_198 rfl (lv_at hl 6 rfl) ?_
                            refine va_get (D := D) (ci := 5) (v := .ref (a 13)) (C := RX5) (T := TX5) (N := 31) hx hb hts hiX5 hown hK hP 0 rfl rfl 11 (by decide) hw10 (fun _ h9 => h9) rfl dX5_report_199 ?_
                            refine lv_iload hx hb dX5_report_202 (lv_at hl 1 rfl) ?_
                            refine pg_ild (f := u.2 12) hx hb hK hP 13 0 rfl rfl (show y < _ by omega) (by decide) dX5_report_204 ?_
                            refine lv_goto (tgt := 209) hx hb dX5_report_205 (by decide) ?_
                            refine lv_iadd hx hb dX5_report_209 ?_
                            refine lv_istore (lv' := [(5, .int ((pg_msum u.2 k0 y) + (u.2 12 y))), (7, .int m9), (6, .int (nI y)), (4, .int b9), (3, .int (pg_sm (u.2 11) (t + 1))), (2, .int (pg_sm (upd (u.2 14) t x) (t + 1))), (0, .ref (a 0)), (1, .int x)]) hx hb dX5_report_210 hl (by decide) rfl (fun ls hl => ?_)
                            refine lv_aload_n hx hb dX5_report_212 rfl (lv_at hl 6 rfl) ?_
                            refine va_get (D := D) (ci := 5) (v := .ref (a 14)) (C := RX5) (T := TX5) (N := 31) hx hb hts hiX5 hown hK hP 0 rfl rfl 27 (by decide) hw9 (fun _ h9 => h9) rfl dX5_report_213 ?_
                            refine lv_iload hx hb dX5_report_216 (lv_at hl 2 rfl) ?_
                            refine lv_aload_n hx hb dX5_report_218 rfl (lv_at hl 6 rfl) ?_
                            refine va_get (D := D) (ci := 5) (v := .ref (a 14)) (C := RX5) (T := TX5) (N := 31) hx hb hts hiX5 hown hK hP 0 rfl rfl 27 (by decide) hw9 (fun _ h9 => h9) rfl dX5_report_219 ?_
                            refine lv_iload hx hb dX5_report_222 (lv_at hl 2 rfl) ?_
                            refine pg_zld (f := (pg_met u.2 k0 y)) hx hb hK hP 14 1 rfl rfl (show y < _ by omega) (by decide) dX5_report_224 ?_
                            refine lv_if_ne (tgt := 233) hx hb dX5_report_225 (by decide) (fun c_225 => absurd c_195 c_225) (fun c_225 => ?_)
                            refine lv_iload hx hb dX5_report_228 (lv_at hl 1 rfl) ?_
                            refine lv_if_eq (tgt := 237) hx hb dX5_report_230 (by decide) (fun c_230 => absurd c_230 (by rw [em9]; decide)) (fun c_230 => ?_)
                            refine lv_iconst (v := 1) hx hb dX5_report_233 (by decide) ?_
                            refine lv_goto (tgt := 238) hx hb dX5_report_234 (by decide) ?_
                            refine pg_zst hx hb hK hP hD hS 14 1 rfl rfl (show y < _ by omega) (by decide) rfl dX5_report_238 (fun H locs hP hD hS => ?_)
                            have hP : va_P D vwCl (pg_wM cI cZ a ((upd (upd u.1 15 0) 13 (nI (t + 1))), (pg_row (pg_row (pg_row u.2 14 (upd (u.2 14) t x)) 13 (pg_met u.2 k0 y)) 13 (upd ((pg_met u.2 k0 y)) y 1)))) H := hP
                            have hD : va_D A (pg_wM cI cZ a ((upd (upd u.1 15 0) 13 (nI (t + 1))), (pg_row (pg_row (pg_row u.2 14 (upd (u.2 14) t x)) 13 (pg_met u.2 k0 y)) 13 (upd ((pg_met u.2 k0 y)) y 1)))) := hD
                            refine lv_iinc (v := nI (y + 1)) (lv' := [(6, .int (nI (y + 1))), (5, .int ((pg_msum u.2 k0 y) + (u.2 12 y))), (7, .int m9), (4, .int b9), (3, .int (pg_sm (u.2 11) (t + 1))), (2, .int (pg_sm (upd (u.2 14) t x) (t + 1))), (0, .ref (a 0)), (1, .int x)]) hx hb dX5_report_239 hl (k := 2) rfl (by rw [nI_succ]; rfl) (by decide) rfl (fun ls hl => ?_)
                            refine lv_goto (tgt := 138) hx hb dX5_report_242 (by decide) ?_
                            rw [pg_met_at] at c_195
                            exact ih (y + 1) ((pg_msum u.2 k0 y) + (u.2 12 y)) ((upd (upd u.1 15 0) 13 (nI (t + 1))), (pg_row (pg_row (pg_row u.2 14 (upd (u.2 14) t x)) 13 (pg_met u.2 k0 y)) 13 (upd ((pg_met u.2 k0 y)) y 1))) (by omega) (by omega) (pg_msum_a hm1 c_195) (by rw [pg_row_row, pg_met_w hm1 c_195]) _ _ hP hD hS ls (lv_sub hl [0, 1, 3, 4, 5, 6, 7] rfl)
                        · refine lv_iload hx hb dX5_report_152 (lv_at hl 0 rfl) ?_
                          refine lv_aload_n hx hb dX5_report_154 rfl (lv_at hl 5 rfl) ?_
                          refine va_get (D := D) (ci := 5) (v := .int (nI (t + 1))) (C := RX5) (T := TX5) (N := 31) hx hb hts hiX5 hown hK hP 0 rfl rfl 28 (by decide) hw4 (fun _ h9 => h9) rfl dX5_report_155 ?_
                          refine lv_iconst (v := 1) hx hb dX5_report_158 (by decide) ?_
                          refine lv_isub hx hb dX5_report_159 ?_
                          rw [pg_pred t]
                          refine lv_icmp_ne (tgt := 178) hx hb dX5_report_160 (by decide) (fun c_160 => ?_) (fun c_160 => ?_)
                          · refine lv_iconst (v := 0) hx hb dX5_report_178 (by decide) ?_
                            refine lv_topi (fun m9 em9 => ?_)
                            have hm0 : ¬ k0 ≤ y := fun h7 => ((hk0 y (by omega)).mpr h7).elim (fun h8 => h8 c_149) (fun h8 => c_160 (by rw [h8.1]))
                            refine lv_istore (lv' := [(7, .int m9), (6, .int (nI y)), (5, .int (pg_msum u.2 k0 y)), (4, .int b9), (3, .int (pg_sm (u.2 11) (t + 1))), (2, .int (pg_sm (upd (u.2 14) t x) (t + 1))), (0, .ref (a 0)), (1, .int x)]) hx hb dX5_report_179 hl (by decide) rfl (fun ls hl => ?_)
                            refine lv_iload hx hb dX5_report_181 (lv_at hl 2 rfl) ?_
                            refine lv_iload hx hb dX5_report_183 (lv_at hl 0 rfl) ?_
                            refine lv_if_eq (tgt := 208) hx hb dX5_report_185 (by decide) (fun c_185 => ?_) (fun c_185 => absurd em9 c_185)
                            refine lv_iconst (v := 0) hx hb dX5_report_208 (by decide) ?_
                            refine lv_iadd hx hb dX5_report_209 ?_
                            refine lv_istore (lv' := [(5, .int ((pg_msum u.2 k0 y) + 0)), (7, .int m9), (6, .int (nI y)), (4, .int b9), (3, .int (pg_sm (u.2 11) (t + 1))), (2, .int (pg_sm (upd (u.2 14) t x) (t + 1))), (0, .ref (a 0)), (1, .int x)]) hx hb dX5_report_210 hl (by decide) rfl (fun ls hl => ?_)
                            refine lv_aload_n hx hb dX5_report_212 rfl (lv_at hl 6 rfl) ?_
                            refine va_get (D := D) (ci := 5) (v := .ref (a 14)) (C := RX5) (T := TX5) (N := 31) hx hb hts hiX5 hown hK hP 0 rfl rfl 27 (by decide) hw9 (fun _ h9 => h9) rfl dX5_report_213 ?_
                            refine lv_iload hx hb dX5_report_216 (lv_at hl 2 rfl) ?_
                            refine lv_aload_n hx hb dX5_report_218 rfl (lv_at hl 6 rfl) ?_
                            refine va_get (D := D) (ci := 5) (v := .ref (a 14)) (C := RX5) (T := TX5) (N := 31) hx hb hts hiX5 hown hK hP 0 rfl rfl 27 (by decide) hw9 (fun _ h9 => h9) rfl dX5_report_219 ?_
                            refine lv_iload hx hb dX5_report_222 (lv_at hl 2 rfl) ?_
                            refine pg_zld (f := (pg_met u.2 k0 y)) hx hb hK hP 14 1 rfl rfl (show y < _ by omega) (by decide) dX5_report_224 ?_
                            refine lv_if_ne (tgt := 233) hx hb dX5_report_225 (by decide) (fun c_225 => ?_) (fun c_225 => ?_)
                            · refine lv_iconst (v := 1) hx hb dX5_report_233 (by decide) ?_
                              refine lv_goto (tgt := 238) hx hb dX5_report_234 (by decide) ?_
                              refine pg_zst hx hb hK hP hD hS 14 1 rfl rfl (show y < _ by omega) (by decide) rfl dX5_report_238 (fun H locs hP hD hS => ?_)
                              have hP : va_P D vwCl (pg_wM cI cZ a ((upd (upd u.1 15 0) 13 (nI (t + 1))), (pg_row (pg_row (pg_row u.2 14 (upd (u.2 14) t x)) 13 (pg_met u.2 k0 y)) 13 (upd ((pg_met u.2 k0 y)) y 1)))) H := hP
                              have hD : va_D A (pg_wM cI cZ a ((upd (upd u.1 15 0) 13 (nI (t + 1))), (pg_row (pg_row (pg_row u.2 14 (upd (u.2 14) t x)) 13 (pg_met u.2 k0 y)) 13 (upd ((pg_met u.2 k0 y)) y 1)))) := hD
                              refine lv_iinc (v := nI (y + 1)) (lv' := [(6, .int (nI (y + 1))), (5, .int ((pg_msum u.2 k0 y) + 0)), (7, .int m9), (4, .int b9), (3, .int (pg_sm (u.2 11) (t + 1))), (2, .int (pg_sm (upd (u.2 14) t x) (t + 1))), (0, .ref (a 0)), (1, .int x)]) hx hb dX5_report_239 hl (k := 2) rfl (by rw [nI_succ]; rfl) (by decide) rfl (fun ls hl => ?_)
                              refine lv_goto (tgt := 138) hx hb dX5_report_242 (by decide) ?_
                              rw [pg_met_at] at c_225
                              exact ih (y + 1) ((pg_msum u.2 k0 y) + 0) ((upd (upd u.1 15 0) 13 (nI (t + 1))), (pg_row (pg_row (pg_row u.2 14 (upd (u.2 14) t x)) 13 (pg_met u.2 k0 y)) 13 (upd ((pg_met u.2 k0 y)) y 1))) (by omega) (by omega) (by rw [pg_a0]; exact pg_msum_c hm0) (by rw [pg_row_row, pg_met_x (hm y (by omega)) c_225]) _ _ hP hD hS ls (lv_sub hl [0, 1, 3, 4, 5, 6, 7] rfl)
                            · refine lv_iload hx hb dX5_report_228 (lv_at hl 1 rfl) ?_
                              refine lv_if_eq (tgt := 237) hx hb dX5_report_230 (by decide) (fun c_230 => ?_) (fun c_230 => absurd em9 c_230)
                              refine lv_iconst (v := 0) hx hb dX5_report_237 (by decide) ?_
                              refine pg_zst hx hb hK hP hD hS 14 1 rfl rfl (show y < _ by omega) (by decide) rfl dX5_report_238 (fun H locs hP hD hS => ?_)
                              have hP : va_P D vwCl (pg_wM cI cZ a ((upd (upd u.1 15 0) 13 (nI (t + 1))), (pg_row (pg_row (pg_row u.2 14 (upd (u.2 14) t x)) 13 (pg_met u.2 k0 y)) 13 (upd ((pg_met u.2 k0 y)) y 0)))) H := hP
                              have hD : va_D A (pg_wM cI cZ a ((upd (upd u.1 15 0) 13 (nI (t + 1))), (pg_row (pg_row (pg_row u.2 14 (upd (u.2 14) t x)) 13 (pg_met u.2 k0 y)) 13 (upd ((pg_met u.2 k0 y)) y 0)))) := hD
                              refine lv_iinc (v := nI (y + 1)) (lv' := [(6, .int (nI (y + 1))), (5, .int ((pg_msum u.2 k0 y) + 0)), (7, .int m9), (4, .int b9), (3, .int (pg_sm (u.2 11) (t + 1))), (2, .int (pg_sm (upd (u.2 14) t x) (t + 1))), (0, .ref (a 0)), (1, .int x)]) hx hb dX5_report_239 hl (k := 2) rfl (by rw [nI_succ]; rfl) (by decide) rfl (fun ls hl => ?_)
                              refine lv_goto (tgt := 138) hx hb dX5_report_242 (by decide) ?_
                              rw [pg_met_at] at c_225
                              exact ih (y + 1) ((pg_msum u.2 k0 y) + 0) ((upd (upd u.1 15 0) 13 (nI (t + 1))), (pg_row (pg_row (pg_row u.2 14 (upd (u.2 14) t x)) 13 (pg_met u.2 k0 y)) 13 (upd ((pg_met u.2 k0 y)) y 0))) (by omega) (by omega) (by rw [pg_a0]; exact pg_msum_c hm0) (by rw [pg_row_row, pg_met_v hm0 c_225]) _ _ hP hD hS ls (lv_sub hl [0, 1, 3, 4, 5, 6, 7] rfl)
                          · refine lv_iload_n hx hb dX5_report_163 rfl (lv_at hl 6 rfl) ?_
                            refine lv_aload_n hx hb dX5_report_164 rfl (lv_at hl 5 rfl) ?_
                            refine va_get (D := D) (ci := 5) (v := .ref (a 12)) (C := RX5) (T := TX5) (N := 31) hx hb hts hiX5 hown hK hP 0 rfl rfl 10 (by decide) hw7 (fun _ h9 => h9) rfl dX5_report_165 ?_
                            refine lv_iload hx hb dX5_report_168 (lv_at hl 0 rfl) ?_
                            refine pg_ild (f := u.2 11) hx hb hK hP 12 0 rfl rfl (show y < _ by omega) (by decide) dX5_report_170 ?_
                            refine lv_icmp_lt (tgt := 178) hx hb dX5_report_171 (by decide) (fun c_171 => ?_) (fun c_171 => ?_)
                            · refine lv_iconst (v := 0) hx hb dX5_report_178 (by decide) ?_
                              refine lv_topi (fun m9 em9 => ?_)
                              have hm0 : ¬ k0 ≤ y := fun h7 => ((hk0 y (by omega)).mpr h7).elim (fun h8 => h8 c_149) (fun h8 => h8.2 (by rw [← h8.1]; exact c_171))
                              refine lv_istore (lv' := [(7, .int m9), (6, .int (nI y)), (5, .int (pg_msum u.2 k0 y)), (4, .int b9), (3, .int (pg_sm (u.2 11) (t + 1))), (2, .int (pg_sm (upd (u.2 14) t x) (t + 1))), (0, .ref (a 0)), (1, .int x)]) hx hb dX5_report_179 hl (by decide) rfl (fun ls hl => ?_)
                              refine lv_iload hx hb dX5_report_181 (lv_at hl 2 rfl) ?_
                              refine lv_iload hx hb dX5_report_183 (lv_at hl 0 rfl) ?_
                              refine lv_if_eq (tgt := 208) hx hb dX5_report_185 (by decide) (fun c_185 => ?_) (fun c_185 => absurd em9 c_185)
                              refine lv_iconst (v := 0) hx hb dX5_report_208 (by decide) ?_
                              refine lv_iadd hx hb dX5_report_209 ?_
                              refine lv_istore (lv' := [(5, .int ((pg_msum u.2 k0 y) + 0)), (7, .int m9), (6, .int (nI y)), (4, .int b9), (3, .int (pg_sm (u.2 11) (t + 1))), (2, .int (pg_sm (upd (u.2 14) t x) (t + 1))), (0, .ref (a 0)), (1, .int x)]) hx hb dX5_report_210 hl (by decide) rfl (fun ls hl => ?_)
                              refine lv_aload_n hx hb dX5_report_212 rfl (lv_at hl 6 rfl) ?_
                              refine va_get (D := D) (ci := 5) (v := .ref (a 14)) (C := RX5) (T := TX5) (N := 31) hx hb hts hiX5 hown hK hP 0 rfl rfl 27 (by decide) hw9 (fun _ h9 => h9) rfl dX5_report_213 ?_
                              refine lv_iload hx hb dX5_report_216 (lv_at hl 2 rfl) ?_
                              refine lv_aload_n hx hb dX5_report_218 rfl (lv_at hl 6 rfl) ?_
                              refine va_get (D := D) (ci := 5) (v := .ref (a 14)) (C := RX5) (T := TX5) (N := 31) hx hb hts hiX5 hown hK hP 0 rfl rfl 27 (by decide) hw9 (fun _ h9 => h9) rfl dX5_report_219 ?_
                              refine lv_iload hx hb dX5_report_222 (lv_at hl 2 rfl) ?_
                              refine pg_zld (f := (pg_met u.2 k0 y)) hx hb hK hP 14 1 rfl rfl (show y < _ by omega) (by decide) dX5_report_224 ?_
                              refine lv_if_ne (tgt := 233) hx hb dX5_report_225 (by decide) (fun c_225 => ?_) (fun c_225 => ?_)
                              · refine lv_iconst (v := 1) hx hb dX5_report_233 (by decide) ?_
                                refine lv_goto (tgt := 238) hx hb dX5_report_234 (by decide) ?_
                                refine pg_zst hx hb hK hP hD hS 14 1 rfl rfl (show y < _ by omega) (by decide) rfl dX5_report_238 (fun H locs hP hD hS => ?_)
                                have hP : va_P D vwCl (pg_wM cI cZ a ((upd (upd u.1 15 0) 13 (nI (t + 1))), (pg_row (pg_row (pg_row u.2 14 (upd (u.2 14) t x)) 13 (pg_met u.2 k0 y)) 13 (upd ((pg_met u.2 k0 y)) y 1)))) H := hP
                                have hD : va_D A (pg_wM cI cZ a ((upd (upd u.1 15 0) 13 (nI (t + 1))), (pg_row (pg_row (pg_row u.2 14 (upd (u.2 14) t x)) 13 (pg_met u.2 k0 y)) 13 (upd ((pg_met u.2 k0 y)) y 1)))) := hD
                                refine lv_iinc (v := nI (y + 1)) (lv' := [(6, .int (nI (y + 1))), (5, .int ((pg_msum u.2 k0 y) + 0)), (7, .int m9), (4, .int b9), (3, .int (pg_sm (u.2 11) (t + 1))), (2, .int (pg_sm (upd (u.2 14) t x) (t + 1))), (0, .ref (a 0)), (1, .int x)]) hx hb dX5_report_239 hl (k := 2) rfl (by rw [nI_succ]; rfl) (by decide) rfl (fun ls hl => ?_)
                                refine lv_goto (tgt := 138) hx hb dX5_report_242 (by decide) ?_
                                rw [pg_met_at] at c_225
                                exact ih (y + 1) ((pg_msum u.2 k0 y) + 0) ((upd (upd u.1 15 0) 13 (nI (t + 1))), (pg_row (pg_row (pg_row u.2 14 (upd (u.2 14) t x)) 13 (pg_met u.2 k0 y)) 13 (upd ((pg_met u.2 k0 y)) y 1))) (by omega) (by omega) (by rw [pg_a0]; exact pg_msum_c hm0) (by rw [pg_row_row, pg_met_x (hm y (by omega)) c_225]) _ _ hP hD hS ls (lv_sub hl [0, 1, 3, 4, 5, 6, 7] rfl)
                              · refine lv_iload hx hb dX5_report_228 (lv_at hl 1 rfl) ?_
                                refine lv_if_eq (tgt := 237) hx hb dX5_report_230 (by decide) (fun c_230 => ?_) (fun c_230 => absurd em9 c_230)
                                refine lv_iconst (v := 0) hx hb dX5_report_237 (by decide) ?_
                                refine pg_zst hx hb hK hP hD hS 14 1 rfl rfl (show y < _ by omega) (by decide) rfl dX5_report_238 (fun H locs hP hD hS => ?_)
                                have hP : va_P D vwCl (pg_wM cI cZ a ((upd (upd u.1 15 0) 13 (nI (t + 1))), (pg_row (pg_row (pg_row u.2 14 (upd (u.2 14) t x)) 13 (pg_met u.2 k0 y)) 13 (upd ((pg_met u.2 k0 y)) y 0)))) H := hP
                                have hD : va_D A (pg_wM cI cZ a ((upd (upd u.1 15 0) 13 (nI (t + 1))), (pg_row (pg_row (pg_row u.2 14 (upd (u.2 14) t x)) 13 (pg_met u.2 k0 y)) 13 (upd ((pg_met u.2 k0 y)) y 0)))) := hD
                                refine lv_iinc (v := nI (y + 1)) (lv' := [(6, .int (nI (y + 1))), (5, .int ((pg_msum u.2 k0 y) + 0)), (7, .int m9), (4, .int b9), (3, .int (pg_sm (u.2 11) (t + 1))), (2, .int (pg_sm (upd (u.2 14) t x) (t + 1))), (0, .ref (a 0)), (1, .int x)]) hx hb dX5_report_239 hl (k := 2) rfl (by rw [nI_succ]; rfl) (by decide) rfl (fun ls hl => ?_)
                                refine lv_goto (tgt := 138) hx hb dX5_report_242 (by decide) ?_
                                rw [pg_met_at] at c_225
                                exact ih (y + 1) ((pg_msum u.2 k0 y) + 0) ((upd (upd u.1 15 0) 13 (nI (t + 1))), (pg_row (pg_row (pg_row u.2 14 (upd (u.2 14) t x)) 13 (pg_met u.2 k0 y)) 13 (upd ((pg_met u.2 k0 y)) y 0))) (by omega) (by omega) (by rw [pg_a0]; exact pg_msum_c hm0) (by rw [pg_row_row, pg_met_v hm0 c_225]) _ _ hP hD hS ls (lv_sub hl [0, 1, 3, 4, 5, 6, 7] rfl)
                            · refine lv_iconst (v := 1) hx hb dX5_report_174 (by decide) ?_
                              refine lv_goto (tgt := 179) hx hb dX5_report_175 (by decide) ?_
                              refine lv_topi (fun m9 em9 => ?_)
                              have hm1 : k0 ≤ y := (hk0 y (by omega)).mp (Or.inr ⟨(nI_eq (by omega) (by omega)).mp c_160, by rw [← (nI_eq (by omega) (by omega)).mp c_160]; exact c_171⟩)
                              refine lv_istore (lv' := [(7, .int m9), (6, .int (nI y)), (5, .int (pg_msum u.2 k0 y)), (4, .int b9), (3, .int (pg_sm (u.2 11) (t + 1))), (2, .int (pg_sm (upd (u.2 14) t x) (t + 1))), (0, .ref (a 0)), (1, .int x)]) hx hb dX5_report_179 hl (by decide) rfl (fun ls hl => ?_)
                              refine lv_iload hx hb dX5_report_181 (lv_at hl 2 rfl) ?_
                              refine lv_iload hx hb dX5_report_183 (lv_at hl 0 rfl) ?_
                              refine lv_if_eq (tgt := 208) hx hb dX5_report_185 (by decide) (fun c_185 => absurd c_185 (by rw [em9]; decide)) (fun c_185 => ?_)
                              refine lv_aload_n hx hb dX5_report_188 rfl (lv_at hl 6 rfl) ?_
                              refine va_get (D := D) (ci := 5) (v := .ref (a 14)) (C := RX5) (T := TX5) (N := 31) hx hb hts hiX5 hown hK hP 0 rfl rfl 27 (by decide) hw9 (fun _ h9 => h9) rfl dX5_report_189 ?_
                              refine lv_iload hx hb dX5_report_192 (lv_at hl 1 rfl) ?_
                              refine pg_zld (f := (pg_met u.2 k0 y)) hx hb hK hP 14 1 rfl rfl (show y < _ by omega) (by decide) dX5_report_194 ?_
                              refine lv_if_ne (tgt := 208) hx hb dX5_report_195 (by decide) (fun c_195 => ?_) (fun c_195 => ?_)
                              · refine lv_iconst (v := 0) hx hb dX5_report_208 (by decide) ?_
                                refine lv_iadd hx hb dX5_report_209 ?_
                                refine lv_istore (lv' := [(5, .int ((pg_msum u.2 k0 y) + 0)), (7, .int m9), (6, .int (nI y)), (4, .int b9), (3, .int (pg_sm (u.2 11) (t + 1))), (2, .int (pg_sm (upd (u.2 14) t x) (t + 1))), (0, .ref (a 0)), (1, .int x)]) hx hb dX5_report_210 hl (by decide) rfl (fun ls hl => ?_)
                                refine lv_aload_n hx hb dX5_report_212 rfl (lv_at hl 6 rfl) ?_
                                refine va_get (D := D) (ci := 5) (v := .ref (a 14)) (C := RX5) (T := TX5) (N := 31) hx hb hts hiX5 hown hK hP 0 rfl rfl 27 (by decide) hw9 (fun _ h9 => h9) rfl dX5_report_213 ?_
                                refine lv_iload hx hb dX5_report_216 (lv_at hl 2 rfl) ?_
                                refine lv_aload_n hx hb dX5_report_218 rfl (lv_at hl 6 rfl) ?_
                                refine va_get (D := D) (ci := 5) (v := .ref (a 14)) (C := RX5) (T := TX5) (N := 31) hx hb hts hiX5 hown hK hP 0 rfl rfl 27 (by decide) hw9 (fun _ h9 => h9) rfl dX5_report_219 ?_
                                refine lv_iload hx hb dX5_report_222 (lv_at hl 2 rfl) ?_
                                refine pg_zld (f := (pg_met u.2 k0 y)) hx hb hK hP 14 1 rfl rfl (show y < _ by omega) (by decide) dX5_report_224 ?_
                                refine lv_if_ne (tgt := 233) hx hb dX5_report_225 (by decide) (fun c_225 => ?_) (fun c_225 => absurd c_225 c_195)
                                refine lv_iconst (v := 1) hx hb dX5_report_233 (by decide) ?_
                                refine lv_goto (tgt := 238) hx hb dX5_report_234 (by decide) ?_
                                refine pg_zst hx hb hK hP hD hS 14 1 rfl rfl (show y < _ by omega) (by decide) rfl dX5_report_238 (fun H locs hP hD hS => ?_)
                                have hP : va_P D vwCl (pg_wM cI cZ a ((upd (upd u.1 15 0) 13 (nI (t + 1))), (pg_row (pg_row (pg_row u.2 14 (upd (u.2 14) t x)) 13 (pg_met u.2 k0 y)) 13 (upd ((pg_met u.2 k0 y)) y 1)))) H := hP
                                have hD : va_D A (pg_wM cI cZ a ((upd (upd u.1 15 0) 13 (nI (t + 1))), (pg_row (pg_row (pg_row u.2 14 (upd (u.2 14) t x)) 13 (pg_met u.2 k0 y)) 13 (upd ((pg_met u.2 k0 y)) y 1)))) := hD
                                refine lv_iinc (v := nI (y + 1)) (lv' := [(6, .int (nI (y + 1))), (5, .int ((pg_msum u.2 k0 y) + 0)), (7, .int m9), (4, .int b9), (3, .int (pg_sm (u.2 11) (t + 1))), (2, .int (pg_sm (upd (u.2 14) t x) (t + 1))), (0, .ref (a 0)), (1, .int x)]) hx hb dX5_report_239 hl (k := 2) rfl (by rw [nI_succ]; rfl) (by decide) rfl (fun ls hl => ?_)
                                refine lv_goto (tgt := 138) hx hb dX5_report_242 (by decide) ?_
                                rw [pg_met_at] at c_195
                                exact ih (y + 1) ((pg_msum u.2 k0 y) + 0) ((upd (upd u.1 15 0) 13 (nI (t + 1))), (pg_row (pg_row (pg_row u.2 14 (upd (u.2 14) t x)) 13 (pg_met u.2 k0 y)) 13 (upd ((pg_met u.2 k0 y)) y 1))) (by omega) (by omega) (by rw [pg_a0]; exact pg_msum_b c_195) (by rw [pg_row_row, pg_met_x (hm y (by omega)) c_195]) _ _ hP hD hS ls (lv_sub hl [0, 1, 3, 4, 5, 6, 7] rfl)
                              · refine lv_aload_n hx hb dX5_report_198 rfl (lv_at hl 6 rfl) ?_
                                refine va_get (D := D) (ci := 5) (v := .ref (a 13)) (C := RX5) (T := TX5) (N := 31) hx hb hts hiX5 hown hK hP 0 rfl rfl 11 (by decide) hw10 (fun _ h9 => h9) rfl dX5_report_199 ?_
                                refine lv_iload hx hb dX5_report_202 (lv_at hl 1 rfl) ?_
                                refine pg_ild (f := u.2 12) hx hb hK hP 13 0 rfl rfl (show y < _ by omega) (by decide) dX5_report_204 ?_
                                refine lv_goto (tgt := 209) hx hb dX5_report_205 (by decide) ?_
                                refine lv_iadd hx hb dX5_report_209 ?_
                                refine lv_istore (lv' := [(5, .int ((pg_msum u.2 k0 y) + (u.2 12 y))), (7, .int m9), (6, .int (nI y)), (4, .int b9), (3, .int (pg_sm (u.2 11) (t + 1))), (2, .int (pg_sm (upd (u.2 14) t x) (t + 1))), (0, .ref (a 0)), (1, .int x)]) hx hb dX5_report_210 hl (by decide) rfl (fun ls hl => ?_)
                                refine lv_aload_n hx hb dX5_report_212 rfl (lv_at hl 6 rfl) ?_
                                refine va_get (D := D) (ci := 5) (v := .ref (a 14)) (C := RX5) (T := TX5) (N := 31) hx hb hts hiX5 hown hK hP 0 rfl rfl 27 (by decide) hw9 (fun _ h9 => h9) rfl dX5_report_213 ?_
                                refine lv_iload hx hb dX5_report_216 (lv_at hl 2 rfl) ?_
                                refine lv_aload_n hx hb dX5_report_218 rfl (lv_at hl 6 rfl) ?_
                                refine va_get (D := D) (ci := 5) (v := .ref (a 14)) (C := RX5) (T := TX5) (N := 31) hx hb hts hiX5 hown hK hP 0 rfl rfl 27 (by decide) hw9 (fun _ h9 => h9) rfl dX5_report_219 ?_
                                refine lv_iload hx hb dX5_report_222 (lv_at hl 2 rfl) ?_
                                refine pg_zld (f := (pg_met u.2 k0 y)) hx hb hK hP 14 1 rfl rfl (show y < _ by omega) (by decide) dX5_report_224 ?_
                                refine lv_if_ne (tgt := 233) hx hb dX5_report_225 (by decide) (fun c_225 => absurd c_195 c_225) (fun c_225 => ?_)
                                refine lv_iload hx hb dX5_report_228 (lv_at hl 1 rfl) ?_
                                refine lv_if_eq (tgt := 237) hx hb dX5_report_230 (by decide) (fun c_230 => absurd c_230 (by rw [em9]; decide)) (fun c_230 => ?_)
                                refine lv_iconst (v := 1) hx hb dX5_report_233 (by decide) ?_
                                refine lv_goto (tgt := 238) hx hb dX5_report_234 (by decide) ?_
                                refine pg_zst hx hb hK hP hD hS 14 1 rfl rfl (show y < _ by omega) (by decide) rfl dX5_report_238 (fun H locs hP hD hS => ?_)
                                have hP : va_P D vwCl (pg_wM cI cZ a ((upd (upd u.1 15 0) 13 (nI (t + 1))), (pg_row (pg_row (pg_row u.2 14 (upd (u.2 14) t x)) 13 (pg_met u.2 k0 y)) 13 (upd ((pg_met u.2 k0 y)) y 1)))) H := hP
                                have hD : va_D A (pg_wM cI cZ a ((upd (upd u.1 15 0) 13 (nI (t + 1))), (pg_row (pg_row (pg_row u.2 14 (upd (u.2 14) t x)) 13 (pg_met u.2 k0 y)) 13 (upd ((pg_met u.2 k0 y)) y 1)))) := hD
                                refine lv_iinc (v := nI (y + 1)) (lv' := [(6, .int (nI (y + 1))), (5, .int ((pg_msum u.2 k0 y) + (u.2 12 y))), (7, .int m9), (4, .int b9), (3, .int (pg_sm (u.2 11) (t + 1))), (2, .int (pg_sm (upd (u.2 14) t x) (t + 1))), (0, .ref (a 0)), (1, .int x)]) hx hb dX5_report_239 hl (k := 2) rfl (by rw [nI_succ]; rfl) (by decide) rfl (fun ls hl => ?_)
                                refine lv_goto (tgt := 138) hx hb dX5_report_242 (by decide) ?_
                                rw [pg_met_at] at c_195
                                exact ih (y + 1) ((pg_msum u.2 k0 y) + (u.2 12 y)) ((upd (upd u.1 15 0) 13 (nI (t + 1))), (pg_row (pg_row (pg_row u.2 14 (upd (u.2 14) t x)) 13 (pg_met u.2 k0 y)) 13 (upd ((pg_met u.2 k0 y)) y 1))) (by omega) (by omega) (pg_msum_a hm1 c_195) (by rw [pg_row_row, pg_met_w hm1 c_195]) _ _ hP hD hS ls (lv_sub hl [0, 1, 3, 4, 5, 6, 7] rfl)
                  exact L138 ((t + 1) + 1) 0 0 ((upd (upd u.1 15 0) 13 (nI (t + 1))), (pg_row u.2 14 (upd (u.2 14) t x))) (by omega) (by omega) (pg_msum_z u.2 k0).symm (by rw [pg_met_z]; exact congrArg _ (pg_row_self _ _).symm) _ _ hP hD hS ls hl
                · refine lv_iload_n hx hb dX5_report_120 rfl (lv_at hl 2 rfl) ?_
                  refine lv_iload_n hx hb dX5_report_121 rfl (lv_at hl 1 rfl) ?_
                  refine lv_icmp_lt (tgt := 129) hx hb dX5_report_122 (by decide) (fun c_122 => ?_) (fun c_122 => ?_)
                  · refine lv_iconst (v := 0) hx hb dX5_report_129 (by decide) ?_
                    refine lv_topi (fun b9 eb9 => ?_)
                    obtain ⟨k0, ek0⟩ : ∃ z, z = pg_tkM u t x := ⟨_, rfl⟩
                    have hk0 : ∀ y, y < t + 1 → ((¬ b9 = 0 ∨ (y = t ∧ ¬ x < u.2 11 t)) ↔ k0 ≤ y) := by
                      rw [ek0, pg_tkM, if_neg c_117, if_pos c_122]
                      exact pg_begin eb9
                    refine lv_istore (lv' := [(4, .int b9), (3, .int (pg_sm (u.2 11) (t + 1))), (2, .int (pg_sm (upd (u.2 14) t x) (t + 1))), (0, .ref (a 0)), (1, .int x)]) hx hb dX5_report_130 hl (by decide) rfl (fun ls hl => ?_)
                    refine lv_iconst (v := 0) hx hb dX5_report_132 (by decide) ?_
                    refine lv_istore (lv' := [(5, .int 0), (4, .int b9), (3, .int (pg_sm (u.2 11) (t + 1))), (2, .int (pg_sm (upd (u.2 14) t x) (t + 1))), (0, .ref (a 0)), (1, .int x)]) hx hb dX5_report_133 hl (by decide) rfl (fun ls hl => ?_)
                    refine lv_iconst (v := 0) hx hb dX5_report_135 (by decide) ?_
                    refine lv_istore (lv' := [(6, .int 0), (5, .int 0), (4, .int b9), (3, .int (pg_sm (u.2 11) (t + 1))), (2, .int (pg_sm (upd (u.2 14) t x) (t + 1))), (0, .ref (a 0)), (1, .int x)]) hx hb dX5_report_136 hl (by decide) rfl (fun ls hl => ?_)
                    have L138 : ∀ (k9 y : Nat) (s3 : Int32) (w9 : pg_St), y ≤ (t + 1) → (t + 1) < y + k9 → s3 = pg_msum u.2 k0 y → w9 = (upd (upd u.1 15 0) 13 (nI (t + 1)), pg_row (pg_row u.2 14 (upd (u.2 14) t x)) 13 (pg_met u.2 k0 y)) → ∀ (H : Heap) (locs : List Loc), va_P D vwCl (pg_wM cI cZ a w9) H → va_D A (pg_wM cI cZ a w9) → va_S A s.heap H locs → ∀ ls : Array Slot, lv_has ls 8 [(6, .int (nI y)), (5, .int s3), (4, .int b9), (3, .int (pg_sm (u.2 11) (t + 1))), (2, .int (pg_sm (upd (u.2 14) t x) (t + 1))), (0, .ref (a 0)), (1, .int x)] → W p l e (headSpec wsX5_report ({ frames := 4, cells := 0, slots := 0, locals := 85 })).room s m ([.ref (a 0), .int x] : List Value).toArray below meth c H locs 0 0 (MQ below (va_Qi (fun r u' => r = pg_msum u.2 (pg_tkM u t x) (t + 1) ∧ u' = pg_owe (upd (upd u.1 15 0) 13 (nI (t + 1)), pg_row (pg_row u.2 14 (upd (u.2 14) t x)) 13 (pg_met u.2 (pg_tkM u t x) (t + 1))) n (pg_msum u.2 (pg_tkM u t x) (t + 1))) (pg_E D (pg_ty cI cZ) A (pg_wM cI cZ a)) A) ([.ref (a 0), .int x] : List Value).toArray s 0 0 A) (F0 m 138 ls []) := by
                      intro k9
                      induction k9 with
                      | zero => intro y s3 w9 h1 h2; exact absurd h2 (by omega)
                      | succ k9 ih =>
                        intro y s3 w9 hi9 hk9 hs39 hw99 H locs hP hD hS ls hl
                        subst hs39
                        subst hw99
                        refine lv_iload hx hb dX5_report_138 (lv_at hl 0 rfl) ?_
                        refine lv_aload_n hx hb dX5_report_140 rfl (lv_at hl 5 rfl) ?_
                        refine va_get (D := D) (ci := 5) (v := .int (nI (t + 1))) (C := RX5) (T := TX5) (N := 31) hx hb hts hiX5 hown hK hP 0 rfl rfl 28 (by decide) hw4 (fun _ h9 => h9) rfl dX5_report_141 ?_
                        refine lv_icmp_ge (tgt := 245) hx hb dX5_report_144 (by decide) (fun c_144 => ?_) (fun c_144 => ?_)
                        · have hiN : y = (t + 1) := pg_exit (rfl) (by omega) hi9 c_144
                          subst hiN
                          refine lv_aload_n hx hb dX5_report_245 rfl (lv_at hl 5 rfl) ?_
                          refine lv_iload hx hb dX5_report_246 (lv_at hl 1 rfl) ?_
                          refine pg_iE (pg_rV (As := [.int (pg_msum u.2 k0 (t + 1))]) (rest := []) ⟨hx, hb, hml, hown, hts⟩ (cm_owes l D cI cZ a H.size (upd (upd u.1 15 0) 13 (nI (t + 1)), pg_row (pg_row u.2 14 (upd (u.2 14) t x)) 13 (pg_met u.2 k0 (t + 1))) n hn h20 (pg_msum u.2 k0 (t + 1))) (cwV 1 hts gX5_report_X5_owes rfl rfl rfl (by decide +kernel) ⟨Nat.le_of_ble_eq_true rfl, Nat.le_of_ble_eq_true rfl⟩) hK hP hD 0 (ci := 5) rfl rfl rfl rfl hl.1 rfl (Nat.le_of_ble_eq_true rfl) dX5_report_248 ⟨Nat.le_of_ble_eq_true rfl, Nat.le_of_ble_eq_true rfl⟩) hD hS hA (fun H locs hP hD hS => ?_)
                          exact W.iret (v := pg_msum u.2 k0 (t + 1)) hx hb hr (fun t9 ht9 hW9 => ⟨⟨pg_msum u.2 k0 (t + 1), (pg_owe (upd (upd u.1 15 0) 13 (nI (t + 1)), pg_row (pg_row u.2 14 (upd (u.2 14) t x)) 13 (pg_met u.2 k0 (t + 1))) n (pg_msum u.2 k0 (t + 1))), rfl, ⟨by rw [ek0], by rw [ek0]⟩, by rw [ht9]; exact hP, va_K.moved hW9.alike hK, hD⟩, hS.F ht9⟩) hS.2.2 dX5_report_251
                        · have hlt : y < (t + 1) := pg_stay (rfl) (by omega) c_144
                          refine lv_iload hx hb dX5_report_147 (lv_at hl 2 rfl) ?_
                          refine lv_if_ne (tgt := 174) hx hb dX5_report_149 (by decide) (fun c_149 => ?_) (fun c_149 => ?_)
                          · refine lv_iconst (v := 1) hx hb dX5_report_174 (by decide) ?_
                            refine lv_goto (tgt := 179) hx hb dX5_report_175 (by decide) ?_
                            refine lv_topi (fun m9 em9 => ?_)
                            have hm1 : k0 ≤ y := (hk0 y (by omega)).mp (Or.inl c_149)
                            refine lv_istore (lv' := [(7, .int m9), (6, .int (nI y)), (5, .int (pg_msum u.2 k0 y)), (4, .int b9), (3, .int (pg_sm (u.2 11) (t + 1))), (2, .int (pg_sm (upd (u.2 14) t x) (t + 1))), (0, .ref (a 0)), (1, .int x)]) hx hb dX5_report_179 hl (by decide) rfl (fun ls hl => ?_)
                            refine lv_iload hx hb dX5_report_181 (lv_at hl 2 rfl) ?_
                            refine lv_iload hx hb dX5_report_183 (lv_at hl 0 rfl) ?_
                            refine lv_if_eq (tgt := 208) hx hb dX5_report_185 (by decide) (fun c_185 => absurd c_185 (by rw [em9]; decide)) (fun c_185 => ?_)
                            refine lv_aload_n hx hb dX5_report_188 rfl (lv_at hl 6 rfl) ?_
                            refine va_get (D := D) (ci := 5) (v := .ref (a 14)) (C := RX5) (T := TX5) (N := 31) hx hb hts hiX5 hown hK hP 0 rfl rfl 27 (by decide) hw9 (fun _ h9 => h9) rfl dX5_report_189 ?_
                            refine lv_iload hx hb dX5_report_192 (lv_at hl 1 rfl) ?_
                            refine pg_zld (f := (pg_met u.2 k0 y)) hx hb hK hP 14 1 rfl rfl (show y < _ by omega) (by decide) dX5_report_194 ?_
                            refine lv_if_ne (tgt := 208) hx hb dX5_report_195 (by decide) (fun c_195 => ?_) (fun c_195 => ?_)
                            · refine lv_iconst (v := 0) hx hb dX5_report_208 (by decide) ?_
                              refine lv_iadd hx hb dX5_report_209 ?_
                              refine lv_istore (lv' := [(5, .int ((pg_msum u.2 k0 y) + 0)), (7, .int m9), (6, .int (nI y)), (4, .int b9), (3, .int (pg_sm (u.2 11) (t + 1))), (2, .int (pg_sm (upd (u.2 14) t x) (t + 1))), (0, .ref (a 0)), (1, .int x)]) hx hb dX5_report_210 hl (by decide) rfl (fun ls hl => ?_)
                              refine lv_aload_n hx hb dX5_report_212 rfl (lv_at hl 6 rfl) ?_
                              refine va_get (D := D) (ci := 5) (v := .ref (a 14)) (C := RX5) (T := TX5) (N := 31) hx hb hts hiX5 hown hK hP 0 rfl rfl 27 (by decide) hw9 (fun _ h9 => h9) rfl dX5_report_213 ?_
                              refine lv_iload hx hb dX5_report_216 (lv_at hl 2 rfl) ?_
                              refine lv_aload_n hx hb dX5_report_218 rfl (lv_at hl 6 rfl) ?_
                              refine va_get (D := D) (ci := 5) (v := .ref (a 14)) (C := RX5) (T := TX5) (N := 31) hx hb hts hiX5 hown hK hP 0 rfl rfl 27 (by decide) hw9 (fun _ h9 => h9) rfl dX5_report_219 ?_
                              refine lv_iload hx hb dX5_report_222 (lv_at hl 2 rfl) ?_
                              refine pg_zld (f := (pg_met u.2 k0 y)) hx hb hK hP 14 1 rfl rfl (show y < _ by omega) (by decide) dX5_report_224 ?_
                              refine lv_if_ne (tgt := 233) hx hb dX5_report_225 (by decide) (fun c_225 => ?_) (fun c_225 => absurd c_225 c_195)
                              refine lv_iconst (v := 1) hx hb dX5_report_233 (by decide) ?_
                              refine lv_goto (tgt := 238) hx hb dX5_report_234 (by decide) ?_
                              refine pg_zst hx hb hK hP hD hS 14 1 rfl rfl (show y < _ by omega) (by decide) rfl dX5_report_238 (fun H locs hP hD hS => ?_)
                              have hP : va_P D vwCl (pg_wM cI cZ a ((upd (upd u.1 15 0) 13 (nI (t + 1))), (pg_row (pg_row (pg_row u.2 14 (upd (u.2 14) t x)) 13 (pg_met u.2 k0 y)) 13 (upd ((pg_met u.2 k0 y)) y 1)))) H := hP
                              have hD : va_D A (pg_wM cI cZ a ((upd (upd u.1 15 0) 13 (nI (t + 1))), (pg_row (pg_row (pg_row u.2 14 (upd (u.2 14) t x)) 13 (pg_met u.2 k0 y)) 13 (upd ((pg_met u.2 k0 y)) y 1)))) := hD
                              refine lv_iinc (v := nI (y + 1)) (lv' := [(6, .int (nI (y + 1))), (5, .int ((pg_msum u.2 k0 y) + 0)), (7, .int m9), (4, .int b9), (3, .int (pg_sm (u.2 11) (t + 1))), (2, .int (pg_sm (upd (u.2 14) t x) (t + 1))), (0, .ref (a 0)), (1, .int x)]) hx hb dX5_report_239 hl (k := 2) rfl (by rw [nI_succ]; rfl) (by decide) rfl (fun ls hl => ?_)
                              refine lv_goto (tgt := 138) hx hb dX5_report_242 (by decide) ?_
                              rw [pg_met_at] at c_195
                              exact ih (y + 1) ((pg_msum u.2 k0 y) + 0) ((upd (upd u.1 15 0) 13 (nI (t + 1))), (pg_row (pg_row (pg_row u.2 14 (upd (u.2 14) t x)) 13 (pg_met u.2 k0 y)) 13 (upd ((pg_met u.2 k0 y)) y 1))) (by omega) (by omega) (by rw [pg_a0]; exact pg_msum_b c_195) (by rw [pg_row_row, pg_met_x (hm y (by omega)) c_195]) _ _ hP hD hS ls (lv_sub hl [0, 1, 3, 4, 5, 6, 7] rfl)
                            · refine lv_aload_n hx hb dX5_report_198 rfl (lv_at hl 6 rfl) ?_
                              refine va_get (D := D) (ci := 5) (v := .ref (a 13)) (C := RX5) (T := TX5) (N := 31) hx hb hts hiX5 hown hK hP 0 rfl rfl 11 (by decide) hw10 (fun _ h9 => h9) rfl dX5_report_199 ?_
                              refine lv_iload hx hb dX5_report_202 (lv_at hl 1 rfl) ?_
                              refine pg_ild (f := u.2 12) hx hb hK hP 13 0 rfl rfl (show y < _ by omega) (by decide) dX5_report_204 ?_
                              refine lv_goto (tgt := 209) hx hb dX5_report_205 (by decide) ?_
                              refine lv_iadd hx hb dX5_report_209 ?_
                              refine lv_istore (lv' := [(5, .int ((pg_msum u.2 k0 y) + (u.2 12 y))), (7, .int m9), (6, .int (nI y)), (4, .int b9), (3, .int (pg_sm (u.2 11) (t + 1))), (2, .int (pg_sm (upd (u.2 14) t x) (t + 1))), (0, .ref (a 0)), (1, .int x)]) hx hb dX5_report_210 hl (by decide) rfl (fun ls hl => ?_)
                              refine lv_aload_n hx hb dX5_report_212 rfl (lv_at hl 6 rfl) ?_
                              refine va_get (D := D) (ci := 5) (v := .ref (a 14)) (C := RX5) (T := TX5) (N := 31) hx hb hts hiX5 hown hK hP 0 rfl rfl 27 (by decide) hw9 (fun _ h9 => h9) rfl dX5_report_213 ?_
                              refine lv_iload hx hb dX5_report_216 (lv_at hl 2 rfl) ?_
                              refine lv_aload_n hx hb dX5_report_218 rfl (lv_at hl 6 rfl) ?_
                              refine va_get (D := D) (ci := 5) (v := .ref (a 14)) (C := RX5) (T := TX5) (N := 31) hx hb hts hiX5 hown hK hP 0 rfl rfl 27 (by decide) hw9 (fun _ h9 => h9) rfl dX5_report_219 ?_
                              refine lv_iload hx hb dX5_report_222 (lv_at hl 2 rfl) ?_
                              refine pg_zld (f := (pg_met u.2 k0 y)) hx hb hK hP 14 1 rfl rfl (show y < _ by omega) (by decide) dX5_report_224 ?_
                              refine lv_if_ne (tgt := 233) hx hb dX5_report_225 (by decide) (fun c_225 => absurd c_195 c_225) (fun c_225 => ?_)
                              refine lv_iload hx hb dX5_report_228 (lv_at hl 1 rfl) ?_
                              refine lv_if_eq (tgt := 237) hx hb dX5_report_230 (by decide) (fun c_230 => absurd c_230 (by rw [em9]; decide)) (fun c_230 => ?_)
                              refine lv_iconst (v := 1) hx hb dX5_report_233 (by decide) ?_
                              refine lv_goto (tgt := 238) hx hb dX5_report_234 (by decide) ?_
                              refine pg_zst hx hb hK hP hD hS 14 1 rfl rfl (show y < _ by omega) (by decide) rfl dX5_report_238 (fun H locs hP hD hS => ?_)
                              have hP : va_P D vwCl (pg_wM cI cZ a ((upd (upd u.1 15 0) 13 (nI (t + 1))), (pg_row (pg_row (pg_row u.2 14 (upd (u.2 14) t x)) 13 (pg_met u.2 k0 y)) 13 (upd ((pg_met u.2 k0 y)) y 1)))) H := hP
                              have hD : va_D A (pg_wM cI cZ a ((upd (upd u.1 15 0) 13 (nI (t + 1))), (pg_row (pg_row (pg_row u.2 14 (upd (u.2 14) t x)) 13 (pg_met u.2 k0 y)) 13 (upd ((pg_met u.2 k0 y)) y 1)))) := hD
                              refine lv_iinc (v := nI (y + 1)) (lv' := [(6, .int (nI (y + 1))), (5, .int ((pg_msum u.2 k0 y) + (u.2 12 y))), (7, .int m9), (4, .int b9), (3, .int (pg_sm (u.2 11) (t + 1))), (2, .int (pg_sm (upd (u.2 14) t x) (t + 1))), (0, .ref (a 0)), (1, .int x)]) hx hb dX5_report_239 hl (k := 2) rfl (by rw [nI_succ]; rfl) (by decide) rfl (fun ls hl => ?_)
                              refine lv_goto (tgt := 138) hx hb dX5_report_242 (by decide) ?_
                              rw [pg_met_at] at c_195
                              exact ih (y + 1) ((pg_msum u.2 k0 y) + (u.2 12 y)) ((upd (upd u.1 15 0) 13 (nI (t + 1))), (pg_row (pg_row (pg_row u.2 14 (upd (u.2 14) t x)) 13 (pg_met u.2 k0 y)) 13 (upd ((pg_met u.2 k0 y)) y 1))) (by omega) (by omega) (pg_msum_a hm1 c_195) (by rw [pg_row_row, pg_met_w hm1 c_195]) _ _ hP hD hS ls (lv_sub hl [0, 1, 3, 4, 5, 6, 7] rfl)
                          · refine lv_iload hx hb dX5_report_152 (lv_at hl 0 rfl) ?_
                            refine lv_aload_n hx hb dX5_report_154 rfl (lv_at hl 5 rfl) ?_
                            refine va_get (D := D) (ci := 5) (v := .int (nI (t + 1))) (C := RX5) (T := TX5) (N := 31) hx hb hts hiX5 hown hK hP 0 rfl rfl 28 (by decide) hw4 (fun _ h9 => h9) rfl dX5_report_155 ?_
                            refine lv_iconst (v := 1) hx hb dX5_report_158 (by decide) ?_
                            refine lv_isub hx hb dX5_report_159 ?_
                            rw [pg_pred t]
                            refine lv_icmp_ne (tgt := 178) hx hb dX5_report_160 (by decide) (fun c_160 => ?_) (fun c_160 => ?_)
                            · refine lv_iconst (v := 0) hx hb dX5_report_178 (by decide) ?_
                              refine lv_topi (fun m9 em9 => ?_)
                              have hm0 : ¬ k0 ≤ y := fun h7 => ((hk0 y (by omega)).mpr h7).elim (fun h8 => h8 c_149) (fun h8 => c_160 (by rw [h8.1]))
                              refine lv_istore (lv' := [(7, .int m9), (6, .int (nI y)), (5, .int (pg_msum u.2 k0 y)), (4, .int b9), (3, .int (pg_sm (u.2 11) (t + 1))), (2, .int (pg_sm (upd (u.2 14) t x) (t + 1))), (0, .ref (a 0)), (1, .int x)]) hx hb dX5_report_179 hl (by decide) rfl (fun ls hl => ?_)
                              refine lv_iload hx hb dX5_report_181 (lv_at hl 2 rfl) ?_
                              refine lv_iload hx hb dX5_report_183 (lv_at hl 0 rfl) ?_
                              refine lv_if_eq (tgt := 208) hx hb dX5_report_185 (by decide) (fun c_185 => ?_) (fun c_185 => absurd em9 c_185)
                              refine lv_iconst (v := 0) hx hb dX5_report_208 (by decide) ?_
                              refine lv_iadd hx hb dX5_report_209 ?_
                              refine lv_istore (lv' := [(5, .int ((pg_msum u.2 k0 y) + 0)), (7, .int m9), (6, .int (nI y)), (4, .int b9), (3, .int (pg_sm (u.2 11) (t + 1))), (2, .int (pg_sm (upd (u.2 14) t x) (t + 1))), (0, .ref (a 0)), (1, .int x)]) hx hb dX5_report_210 hl (by decide) rfl (fun ls hl => ?_)
                              refine lv_aload_n hx hb dX5_report_212 rfl (lv_at hl 6 rfl) ?_
                              refine va_get (D := D) (ci := 5) (v := .ref (a 14)) (C := RX5) (T := TX5) (N := 31) hx hb hts hiX5 hown hK hP 0 rfl rfl 27 (by decide) hw9 (fun _ h9 => h9) rfl dX5_report_213 ?_
                              refine lv_iload hx hb dX5_report_216 (lv_at hl 2 rfl) ?_
                              refine lv_aload_n hx hb dX5_report_218 rfl (lv_at hl 6 rfl) ?_
                              refine va_get (D := D) (ci := 5) (v := .ref (a 14)) (C := RX5) (T := TX5) (N := 31) hx hb hts hiX5 hown hK hP 0 rfl rfl 27 (by decide) hw9 (fun _ h9 => h9) rfl dX5_report_219 ?_
                              refine lv_iload hx hb dX5_report_222 (lv_at hl 2 rfl) ?_
                              refine pg_zld (f := (pg_met u.2 k0 y)) hx hb hK hP 14 1 rfl rfl (show y < _ by omega) (by decide) dX5_report_224 ?_
                              refine lv_if_ne (tgt := 233) hx hb dX5_report_225 (by decide) (fun c_225 => ?_) (fun c_225 => ?_)
                              · refine lv_iconst (v := 1) hx hb dX5_report_233 (by decide) ?_
                                refine lv_goto (tgt := 238) hx hb dX5_report_234 (by decide) ?_
                                refine pg_zst hx hb hK hP hD hS 14 1 rfl rfl (show y < _ by omega) (by decide) rfl dX5_report_238 (fun H locs hP hD hS => ?_)
                                have hP : va_P D vwCl (pg_wM cI cZ a ((upd (upd u.1 15 0) 13 (nI (t + 1))), (pg_row (pg_row (pg_row u.2 14 (upd (u.2 14) t x)) 13 (pg_met u.2 k0 y)) 13 (upd ((pg_met u.2 k0 y)) y 1)))) H := hP
                                have hD : va_D A (pg_wM cI cZ a ((upd (upd u.1 15 0) 13 (nI (t + 1))), (pg_row (pg_row (pg_row u.2 14 (upd (u.2 14) t x)) 13 (pg_met u.2 k0 y)) 13 (upd ((pg_met u.2 k0 y)) y 1)))) := hD
                                refine lv_iinc (v := nI (y + 1)) (lv' := [(6, .int (nI (y + 1))), (5, .int ((pg_msum u.2 k0 y) + 0)), (7, .int m9), (4, .int b9), (3, .int (pg_sm (u.2 11) (t + 1))), (2, .int (pg_sm (upd (u.2 14) t x) (t + 1))), (0, .ref (a 0)), (1, .int x)]) hx hb dX5_report_239 hl (k := 2) rfl (by rw [nI_succ]; rfl) (by decide) rfl (fun ls hl => ?_)
                                refine lv_goto (tgt := 138) hx hb dX5_report_242 (by decide) ?_
                                rw [pg_met_at] at c_225
                                exact ih (y + 1) ((pg_msum u.2 k0 y) + 0) ((upd (upd u.1 15 0) 13 (nI (t + 1))), (pg_row (pg_row (pg_row u.2 14 (upd (u.2 14) t x)) 13 (pg_met u.2 k0 y)) 13 (upd ((pg_met u.2 k0 y)) y 1))) (by omega) (by omega) (by rw [pg_a0]; exact pg_msum_c hm0) (by rw [pg_row_row, pg_met_x (hm y (by omega)) c_225]) _ _ hP hD hS ls (lv_sub hl [0, 1, 3, 4, 5, 6, 7] rfl)
                              · refine lv_iload hx hb dX5_report_228 (lv_at hl 1 rfl) ?_
                                refine lv_if_eq (tgt := 237) hx hb dX5_report_230 (by decide) (fun c_230 => ?_) (fun c_230 => absurd em9 c_230)
                                refine lv_iconst (v := 0) hx hb dX5_report_237 (by decide) ?_
                                refine pg_zst hx hb hK hP hD hS 14 1 rfl rfl (show y < _ by omega) (by decide) rfl dX5_report_238 (fun H locs hP hD hS => ?_)
                                have hP : va_P D vwCl (pg_wM cI cZ a ((upd (upd u.1 15 0) 13 (nI (t + 1))), (pg_row (pg_row (pg_row u.2 14 (upd (u.2 14) t x)) 13 (pg_met u.2 k0 y)) 13 (upd ((pg_met u.2 k0 y)) y 0)))) H := hP
                                have hD : va_D A (pg_wM cI cZ a ((upd (upd u.1 15 0) 13 (nI (t + 1))), (pg_row (pg_row (pg_row u.2 14 (upd (u.2 14) t x)) 13 (pg_met u.2 k0 y)) 13 (upd ((pg_met u.2 k0 y)) y 0)))) := hD
                                refine lv_iinc (v := nI (y + 1)) (lv' := [(6, .int (nI (y + 1))), (5, .int ((pg_msum u.2 k0 y) + 0)), (7, .int m9), (4, .int b9), (3, .int (pg_sm (u.2 11) (t + 1))), (2, .int (pg_sm (upd (u.2 14) t x) (t + 1))), (0, .ref (a 0)), (1, .int x)]) hx hb dX5_report_239 hl (k := 2) rfl (by rw [nI_succ]; rfl) (by decide) rfl (fun ls hl => ?_)
                                refine lv_goto (tgt := 138) hx hb dX5_report_242 (by decide) ?_
                                rw [pg_met_at] at c_225
                                exact ih (y + 1) ((pg_msum u.2 k0 y) + 0) ((upd (upd u.1 15 0) 13 (nI (t + 1))), (pg_row (pg_row (pg_row u.2 14 (upd (u.2 14) t x)) 13 (pg_met u.2 k0 y)) 13 (upd ((pg_met u.2 k0 y)) y 0))) (by omega) (by omega) (by rw [pg_a0]; exact pg_msum_c hm0) (by rw [pg_row_row, pg_met_v hm0 c_225]) _ _ hP hD hS ls (lv_sub hl [0, 1, 3, 4, 5, 6, 7] rfl)
                            · refine lv_iload_n hx hb dX5_report_163 rfl (lv_at hl 6 rfl) ?_
                              refine lv_aload_n hx hb dX5_report_164 rfl (lv_at hl 5 rfl) ?_
                              refine va_get (D := D) (ci := 5) (v := .ref (a 12)) (C := RX5) (T := TX5) (N := 31) hx hb hts hiX5 hown hK hP 0 rfl rfl 10 (by decide) hw7 (fun _ h9 => h9) rfl dX5_report_165 ?_
                              refine lv_iload hx hb dX5_report_168 (lv_at hl 0 rfl) ?_
                              refine pg_ild (f := u.2 11) hx hb hK hP 12 0 rfl rfl (show y < _ by omega) (by decide) dX5_report_170 ?_
                              refine lv_icmp_lt (tgt := 178) hx hb dX5_report_171 (by decide) (fun c_171 => ?_) (fun c_171 => ?_)
                              · refine lv_iconst (v := 0) hx hb dX5_report_178 (by decide) ?_
                                refine lv_topi (fun m9 em9 => ?_)
                                have hm0 : ¬ k0 ≤ y := fun h7 => ((hk0 y (by omega)).mpr h7).elim (fun h8 => h8 c_149) (fun h8 => h8.2 (by rw [← h8.1]; exact c_171))
                                refine lv_istore (lv' := [(7, .int m9), (6, .int (nI y)), (5, .int (pg_msum u.2 k0 y)), (4, .int b9), (3, .int (pg_sm (u.2 11) (t + 1))), (2, .int (pg_sm (upd (u.2 14) t x) (t + 1))), (0, .ref (a 0)), (1, .int x)]) hx hb dX5_report_179 hl (by decide) rfl (fun ls hl => ?_)
                                refine lv_iload hx hb dX5_report_181 (lv_at hl 2 rfl) ?_
                                refine lv_iload hx hb dX5_report_183 (lv_at hl 0 rfl) ?_
                                refine lv_if_eq (tgt := 208) hx hb dX5_report_185 (by decide) (fun c_185 => ?_) (fun c_185 => absurd em9 c_185)
                                refine lv_iconst (v := 0) hx hb dX5_report_208 (by decide) ?_
                                refine lv_iadd hx hb dX5_report_209 ?_
                                refine lv_istore (lv' := [(5, .int ((pg_msum u.2 k0 y) + 0)), (7, .int m9), (6, .int (nI y)), (4, .int b9), (3, .int (pg_sm (u.2 11) (t + 1))), (2, .int (pg_sm (upd (u.2 14) t x) (t + 1))), (0, .ref (a 0)), (1, .int x)]) hx hb dX5_report_210 hl (by decide) rfl (fun ls hl => ?_)
                                refine lv_aload_n hx hb dX5_report_212 rfl (lv_at hl 6 rfl) ?_
                                refine va_get (D := D) (ci := 5) (v := .ref (a 14)) (C := RX5) (T := TX5) (N := 31) hx hb hts hiX5 hown hK hP 0 rfl rfl 27 (by decide) hw9 (fun _ h9 => h9) rfl dX5_report_213 ?_
                                refine lv_iload hx hb dX5_report_216 (lv_at hl 2 rfl) ?_
                                refine lv_aload_n hx hb dX5_report_218 rfl (lv_at hl 6 rfl) ?_
                                refine va_get (D := D) (ci := 5) (v := .ref (a 14)) (C := RX5) (T := TX5) (N := 31) hx hb hts hiX5 hown hK hP 0 rfl rfl 27 (by decide) hw9 (fun _ h9 => h9) rfl dX5_report_219 ?_
                                refine lv_iload hx hb dX5_report_222 (lv_at hl 2 rfl) ?_
                                refine pg_zld (f := (pg_met u.2 k0 y)) hx hb hK hP 14 1 rfl rfl (show y < _ by omega) (by decide) dX5_report_224 ?_
                                refine lv_if_ne (tgt := 233) hx hb dX5_report_225 (by decide) (fun c_225 => ?_) (fun c_225 => ?_)
                                · refine lv_iconst (v := 1) hx hb dX5_report_233 (by decide) ?_
                                  refine lv_goto (tgt := 238) hx hb dX5_report_234 (by decide) ?_
                                  refine pg_zst hx hb hK hP hD hS 14 1 rfl rfl (show y < _ by omega) (by decide) rfl dX5_report_238 (fun H locs hP hD hS => ?_)
                                  have hP : va_P D vwCl (pg_wM cI cZ a ((upd (upd u.1 15 0) 13 (nI (t + 1))), (pg_row (pg_row (pg_row u.2 14 (upd (u.2 14) t x)) 13 (pg_met u.2 k0 y)) 13 (upd ((pg_met u.2 k0 y)) y 1)))) H := hP
                                  have hD : va_D A (pg_wM cI cZ a ((upd (upd u.1 15 0) 13 (nI (t + 1))), (pg_row (pg_row (pg_row u.2 14 (upd (u.2 14) t x)) 13 (pg_met u.2 k0 y)) 13 (upd ((pg_met u.2 k0 y)) y 1)))) := hD
                                  refine lv_iinc (v := nI (y + 1)) (lv' := [(6, .int (nI (y + 1))), (5, .int ((pg_msum u.2 k0 y) + 0)), (7, .int m9), (4, .int b9), (3, .int (pg_sm (u.2 11) (t + 1))), (2, .int (pg_sm (upd (u.2 14) t x) (t + 1))), (0, .ref (a 0)), (1, .int x)]) hx hb dX5_report_239 hl (k := 2) rfl (by rw [nI_succ]; rfl) (by decide) rfl (fun ls hl => ?_)
                                  refine lv_goto (tgt := 138) hx hb dX5_report_242 (by decide) ?_
                                  rw [pg_met_at] at c_225
                                  exact ih (y + 1) ((pg_msum u.2 k0 y) + 0) ((upd (upd u.1 15 0) 13 (nI (t + 1))), (pg_row (pg_row (pg_row u.2 14 (upd (u.2 14) t x)) 13 (pg_met u.2 k0 y)) 13 (upd ((pg_met u.2 k0 y)) y 1))) (by omega) (by omega) (by rw [pg_a0]; exact pg_msum_c hm0) (by rw [pg_row_row, pg_met_x (hm y (by omega)) c_225]) _ _ hP hD hS ls (lv_sub hl [0, 1, 3, 4, 5, 6, 7] rfl)
                                · refine lv_iload hx hb dX5_report_228 (lv_at hl 1 rfl) ?_
                                  refine lv_if_eq (tgt := 237) hx hb dX5_report_230 (by decide) (fun c_230 => ?_) (fun c_230 => absurd em9 c_230)
                                  refine lv_iconst (v := 0) hx hb dX5_report_237 (by decide) ?_
                                  refine pg_zst hx hb hK hP hD hS 14 1 rfl rfl (show y < _ by omega) (by decide) rfl dX5_report_238 (fun H locs hP hD hS => ?_)
                                  have hP : va_P D vwCl (pg_wM cI cZ a ((upd (upd u.1 15 0) 13 (nI (t + 1))), (pg_row (pg_row (pg_row u.2 14 (upd (u.2 14) t x)) 13 (pg_met u.2 k0 y)) 13 (upd ((pg_met u.2 k0 y)) y 0)))) H := hP
                                  have hD : va_D A (pg_wM cI cZ a ((upd (upd u.1 15 0) 13 (nI (t + 1))), (pg_row (pg_row (pg_row u.2 14 (upd (u.2 14) t x)) 13 (pg_met u.2 k0 y)) 13 (upd ((pg_met u.2 k0 y)) y 0)))) := hD
                                  refine lv_iinc (v := nI (y + 1)) (lv' := [(6, .int (nI (y + 1))), (5, .int ((pg_msum u.2 k0 y) + 0)), (7, .int m9), (4, .int b9), (3, .int (pg_sm (u.2 11) (t + 1))), (2, .int (pg_sm (upd (u.2 14) t x) (t + 1))), (0, .ref (a 0)), (1, .int x)]) hx hb dX5_report_239 hl (k := 2) rfl (by rw [nI_succ]; rfl) (by decide) rfl (fun ls hl => ?_)
                                  refine lv_goto (tgt := 138) hx hb dX5_report_242 (by decide) ?_
                                  rw [pg_met_at] at c_225
                                  exact ih (y + 1) ((pg_msum u.2 k0 y) + 0) ((upd (upd u.1 15 0) 13 (nI (t + 1))), (pg_row (pg_row (pg_row u.2 14 (upd (u.2 14) t x)) 13 (pg_met u.2 k0 y)) 13 (upd ((pg_met u.2 k0 y)) y 0))) (by omega) (by omega) (by rw [pg_a0]; exact pg_msum_c hm0) (by rw [pg_row_row, pg_met_v hm0 c_225]) _ _ hP hD hS ls (lv_sub hl [0, 1, 3, 4, 5, 6, 7] rfl)
                              · refine lv_iconst (v := 1) hx hb dX5_report_174 (by decide) ?_
                                refine lv_goto (tgt := 179) hx hb dX5_report_175 (by decide) ?_
                                refine lv_topi (fun m9 em9 => ?_)
                                have hm1 : k0 ≤ y := (hk0 y (by omega)).mp (Or.inr ⟨(nI_eq (by omega) (by omega)).mp c_160, by rw [← (nI_eq (by omega) (by omega)).mp c_160]; exact c_171⟩)
                                refine lv_istore (lv' := [(7, .int m9), (6, .int (nI y)), (5, .int (pg_msum u.2 k0 y)), (4, .int b9), (3, .int (pg_sm (u.2 11) (t + 1))), (2, .int (pg_sm (upd (u.2 14) t x) (t + 1))), (0, .ref (a 0)), (1, .int x)]) hx hb dX5_report_179 hl (by decide) rfl (fun ls hl => ?_)
                                refine lv_iload hx hb dX5_report_181 (lv_at hl 2 rfl) ?_
                                refine lv_iload hx hb dX5_report_183 (lv_at hl 0 rfl) ?_
                                refine lv_if_eq (tgt := 208) hx hb dX5_report_185 (by decide) (fun c_185 => absurd c_185 (by rw [em9]; decide)) (fun c_185 => ?_)
                                refine lv_aload_n hx hb dX5_report_188 rfl (lv_at hl 6 rfl) ?_
                                refine va_get (D := D) (ci := 5) (v := .ref (a 14)) (C := RX5) (T := TX5) (N := 31) hx hb hts hiX5 hown hK hP 0 rfl rfl 27 (by decide) hw9 (fun _ h9 => h9) rfl dX5_report_189 ?_
                                refine lv_iload hx hb dX5_report_192 (lv_at hl 1 rfl) ?_
                                refine pg_zld (f := (pg_met u.2 k0 y)) hx hb hK hP 14 1 rfl rfl (show y < _ by omega) (by decide) dX5_report_194 ?_
                                refine lv_if_ne (tgt := 208) hx hb dX5_report_195 (by decide) (fun c_195 => ?_) (fun c_195 => ?_)
                                · refine lv_iconst (v := 0) hx hb dX5_report_208 (by decide) ?_
                                  refine lv_iadd hx hb dX5_report_209 ?_
                                  refine lv_istore (lv' := [(5, .int ((pg_msum u.2 k0 y) + 0)), (7, .int m9), (6, .int (nI y)), (4, .int b9), (3, .int (pg_sm (u.2 11) (t + 1))), (2, .int (pg_sm (upd (u.2 14) t x) (t + 1))), (0, .ref (a 0)), (1, .int x)]) hx hb dX5_report_210 hl (by decide) rfl (fun ls hl => ?_)
                                  refine lv_aload_n hx hb dX5_report_212 rfl (lv_at hl 6 rfl) ?_
                                  refine va_get (D := D) (ci := 5) (v := .ref (a 14)) (C := RX5) (T := TX5) (N := 31) hx hb hts hiX5 hown hK hP 0 rfl rfl 27 (by decide) hw9 (fun _ h9 => h9) rfl dX5_report_213 ?_
                                  refine lv_iload hx hb dX5_report_216 (lv_at hl 2 rfl) ?_
                                  refine lv_aload_n hx hb dX5_report_218 rfl (lv_at hl 6 rfl) ?_
                                  refine va_get (D := D) (ci := 5) (v := .ref (a 14)) (C := RX5) (T := TX5) (N := 31) hx hb hts hiX5 hown hK hP 0 rfl rfl 27 (by decide) hw9 (fun _ h9 => h9) rfl dX5_report_219 ?_
                                  refine lv_iload hx hb dX5_report_222 (lv_at hl 2 rfl) ?_
                                  refine pg_zld (f := (pg_met u.2 k0 y)) hx hb hK hP 14 1 rfl rfl (show y < _ by omega) (by decide) dX5_report_224 ?_
                                  refine lv_if_ne (tgt := 233) hx hb dX5_report_225 (by decide) (fun c_225 => ?_) (fun c_225 => absurd c_225 c_195)
                                  refine lv_iconst (v := 1) hx hb dX5_report_233 (by decide) ?_
                                  refine lv_goto (tgt := 238) hx hb dX5_report_234 (by decide) ?_
                                  refine pg_zst hx hb hK hP hD hS 14 1 rfl rfl (show y < _ by omega) (by decide) rfl dX5_report_238 (fun H locs hP hD hS => ?_)
                                  have hP : va_P D vwCl (pg_wM cI cZ a ((upd (upd u.1 15 0) 13 (nI (t + 1))), (pg_row (pg_row (pg_row u.2 14 (upd (u.2 14) t x)) 13 (pg_met u.2 k0 y)) 13 (upd ((pg_met u.2 k0 y)) y 1)))) H := hP
                                  have hD : va_D A (pg_wM cI cZ a ((upd (upd u.1 15 0) 13 (nI (t + 1))), (pg_row (pg_row (pg_row u.2 14 (upd (u.2 14) t x)) 13 (pg_met u.2 k0 y)) 13 (upd ((pg_met u.2 k0 y)) y 1)))) := hD
                                  refine lv_iinc (v := nI (y + 1)) (lv' := [(6, .int (nI (y + 1))), (5, .int ((pg_msum u.2 k0 y) + 0)), (7, .int m9), (4, .int b9), (3, .int (pg_sm (u.2 11) (t + 1))), (2, .int (pg_sm (upd (u.2 14) t x) (t + 1))), (0, .ref (a 0)), (1, .int x)]) hx hb dX5_report_239 hl (k := 2) rfl (by rw [nI_succ]; rfl) (by decide) rfl (fun ls hl => ?_)
                                  refine lv_goto (tgt := 138) hx hb dX5_report_242 (by decide) ?_
                                  rw [pg_met_at] at c_195
                                  exact ih (y + 1) ((pg_msum u.2 k0 y) + 0) ((upd (upd u.1 15 0) 13 (nI (t + 1))), (pg_row (pg_row (pg_row u.2 14 (upd (u.2 14) t x)) 13 (pg_met u.2 k0 y)) 13 (upd ((pg_met u.2 k0 y)) y 1))) (by omega) (by omega) (by rw [pg_a0]; exact pg_msum_b c_195) (by rw [pg_row_row, pg_met_x (hm y (by omega)) c_195]) _ _ hP hD hS ls (lv_sub hl [0, 1, 3, 4, 5, 6, 7] rfl)
                                · refine lv_aload_n hx hb dX5_report_198 rfl (lv_at hl 6 rfl) ?_
                                  refine va_get (D := D) (ci := 5) (v := .ref (a 13)) (C := RX5) (T := TX5) (N := 31) hx hb hts hiX5 hown hK hP 0 rfl rfl 11 (by decide) hw10 (fun _ h9 => h9) rfl dX5_report_199 ?_
                                  refine lv_iload hx hb dX5_report_202 (lv_at hl 1 rfl) ?_
                                  refine pg_ild (f := u.2 12) hx hb hK hP 13 0 rfl rfl (show y < _ by omega) (by decide) dX5_report_204 ?_
                                  refine lv_goto (tgt := 209) hx hb dX5_report_205 (by decide) ?_
                                  refine lv_iadd hx hb dX5_report_209 ?_
                                  refine lv_istore (lv' := [(5, .int ((pg_msum u.2 k0 y) + (u.2 12 y))), (7, .int m9), (6, .int (nI y)), (4, .int b9), (3, .int (pg_sm (u.2 11) (t + 1))), (2, .int (pg_sm (upd (u.2 14) t x) (t + 1))), (0, .ref (a 0)), (1, .int x)]) hx hb dX5_report_210 hl (by decide) rfl (fun ls hl => ?_)
                                  refine lv_aload_n hx hb dX5_report_212 rfl (lv_at hl 6 rfl) ?_
                                  refine va_get (D := D) (ci := 5) (v := .ref (a 14)) (C := RX5) (T := TX5) (N := 31) hx hb hts hiX5 hown hK hP 0 rfl rfl 27 (by decide) hw9 (fun _ h9 => h9) rfl dX5_report_213 ?_
                                  refine lv_iload hx hb dX5_report_216 (lv_at hl 2 rfl) ?_
                                  refine lv_aload_n hx hb dX5_report_218 rfl (lv_at hl 6 rfl) ?_
                                  refine va_get (D := D) (ci := 5) (v := .ref (a 14)) (C := RX5) (T := TX5) (N := 31) hx hb hts hiX5 hown hK hP 0 rfl rfl 27 (by decide) hw9 (fun _ h9 => h9) rfl dX5_report_219 ?_
                                  refine lv_iload hx hb dX5_report_222 (lv_at hl 2 rfl) ?_
                                  refine pg_zld (f := (pg_met u.2 k0 y)) hx hb hK hP 14 1 rfl rfl (show y < _ by omega) (by decide) dX5_report_224 ?_
                                  refine lv_if_ne (tgt := 233) hx hb dX5_report_225 (by decide) (fun c_225 => absurd c_195 c_225) (fun c_225 => ?_)
                                  refine lv_iload hx hb dX5_report_228 (lv_at hl 1 rfl) ?_
                                  refine lv_if_eq (tgt := 237) hx hb dX5_report_230 (by decide) (fun c_230 => absurd c_230 (by rw [em9]; decide)) (fun c_230 => ?_)
                                  refine lv_iconst (v := 1) hx hb dX5_report_233 (by decide) ?_
                                  refine lv_goto (tgt := 238) hx hb dX5_report_234 (by decide) ?_
                                  refine pg_zst hx hb hK hP hD hS 14 1 rfl rfl (show y < _ by omega) (by decide) rfl dX5_report_238 (fun H locs hP hD hS => ?_)
                                  have hP : va_P D vwCl (pg_wM cI cZ a ((upd (upd u.1 15 0) 13 (nI (t + 1))), (pg_row (pg_row (pg_row u.2 14 (upd (u.2 14) t x)) 13 (pg_met u.2 k0 y)) 13 (upd ((pg_met u.2 k0 y)) y 1)))) H := hP
                                  have hD : va_D A (pg_wM cI cZ a ((upd (upd u.1 15 0) 13 (nI (t + 1))), (pg_row (pg_row (pg_row u.2 14 (upd (u.2 14) t x)) 13 (pg_met u.2 k0 y)) 13 (upd ((pg_met u.2 k0 y)) y 1)))) := hD
                                  refine lv_iinc (v := nI (y + 1)) (lv' := [(6, .int (nI (y + 1))), (5, .int ((pg_msum u.2 k0 y) + (u.2 12 y))), (7, .int m9), (4, .int b9), (3, .int (pg_sm (u.2 11) (t + 1))), (2, .int (pg_sm (upd (u.2 14) t x) (t + 1))), (0, .ref (a 0)), (1, .int x)]) hx hb dX5_report_239 hl (k := 2) rfl (by rw [nI_succ]; rfl) (by decide) rfl (fun ls hl => ?_)
                                  refine lv_goto (tgt := 138) hx hb dX5_report_242 (by decide) ?_
                                  rw [pg_met_at] at c_195
                                  exact ih (y + 1) ((pg_msum u.2 k0 y) + (u.2 12 y)) ((upd (upd u.1 15 0) 13 (nI (t + 1))), (pg_row (pg_row (pg_row u.2 14 (upd (u.2 14) t x)) 13 (pg_met u.2 k0 y)) 13 (upd ((pg_met u.2 k0 y)) y 1))) (by omega) (by omega) (pg_msum_a hm1 c_195) (by rw [pg_row_row, pg_met_w hm1 c_195]) _ _ hP hD hS ls (lv_sub hl [0, 1, 3, 4, 5, 6, 7] rfl)
                    exact L138 ((t + 1) + 1) 0 0 ((upd (upd u.1 15 0) 13 (nI (t + 1))), (pg_row u.2 14 (upd (u.2 14) t x))) (by omega) (by omega) (pg_msum_z u.2 k0).symm (by rw [pg_met_z]; exact congrArg _ (pg_row_self _ _).symm) _ _ hP hD hS ls hl
                  · refine lv_iconst (v := 1) hx hb dX5_report_125 (by decide) ?_
                    refine lv_goto (tgt := 130) hx hb dX5_report_126 (by decide) ?_
                    refine lv_topi (fun b9 eb9 => ?_)
                    obtain ⟨k0, ek0⟩ : ∃ z, z = pg_tkM u t x := ⟨_, rfl⟩
                    have hk0 : ∀ y, y < t + 1 → ((¬ b9 = 0 ∨ (y = t ∧ ¬ x < u.2 11 t)) ↔ k0 ≤ y) := by
                      rw [ek0, pg_tkM, if_neg c_117, if_neg c_122]
                      intro y9 h9; exact ⟨fun _ => Nat.zero_le _, fun _ => Or.inl (by rw [eb9]; decide)⟩
                    refine lv_istore (lv' := [(4, .int b9), (3, .int (pg_sm (u.2 11) (t + 1))), (2, .int (pg_sm (upd (u.2 14) t x) (t + 1))), (0, .ref (a 0)), (1, .int x)]) hx hb dX5_report_130 hl (by decide) rfl (fun ls hl => ?_)
                    refine lv_iconst (v := 0) hx hb dX5_report_132 (by decide) ?_
                    refine lv_istore (lv' := [(5, .int 0), (4, .int b9), (3, .int (pg_sm (u.2 11) (t + 1))), (2, .int (pg_sm (upd (u.2 14) t x) (t + 1))), (0, .ref (a 0)), (1, .int x)]) hx hb dX5_report_133 hl (by decide) rfl (fun ls hl => ?_)
                    refine lv_iconst (v := 0) hx hb dX5_report_135 (by decide) ?_
                    refine lv_istore (lv' := [(6, .int 0), (5, .int 0), (4, .int b9), (3, .int (pg_sm (u.2 11) (t + 1))), (2, .int (pg_sm (upd (u.2 14) t x) (t + 1))), (0, .ref (a 0)), (1, .int x)]) hx hb dX5_report_136 hl (by decide) rfl (fun ls hl => ?_)
                    have L138 : ∀ (k9 y : Nat) (s3 : Int32) (w9 : pg_St), y ≤ (t + 1) → (t + 1) < y + k9 → s3 = pg_msum u.2 k0 y → w9 = (upd (upd u.1 15 0) 13 (nI (t + 1)), pg_row (pg_row u.2 14 (upd (u.2 14) t x)) 13 (pg_met u.2 k0 y)) → ∀ (H : Heap) (locs : List Loc), va_P D vwCl (pg_wM cI cZ a w9) H → va_D A (pg_wM cI cZ a w9) → va_S A s.heap H locs → ∀ ls : Array Slot, lv_has ls 8 [(6, .int (nI y)), (5, .int s3), (4, .int b9), (3, .int (pg_sm (u.2 11) (t + 1))), (2, .int (pg_sm (upd (u.2 14) t x) (t + 1))), (0, .ref (a 0)), (1, .int x)] → W p l e (headSpec wsX5_report ({ frames := 4, cells := 0, slots := 0, locals := 85 })).room s m ([.ref (a 0), .int x] : List Value).toArray below meth c H locs 0 0 (MQ below (va_Qi (fun r u' => r = pg_msum u.2 (pg_tkM u t x) (t + 1) ∧ u' = pg_owe (upd (upd u.1 15 0) 13 (nI (t + 1)), pg_row (pg_row u.2 14 (upd (u.2 14) t x)) 13 (pg_met u.2 (pg_tkM u t x) (t + 1))) n (pg_msum u.2 (pg_tkM u t x) (t + 1))) (pg_E D (pg_ty cI cZ) A (pg_wM cI cZ a)) A) ([.ref (a 0), .int x] : List Value).toArray s 0 0 A) (F0 m 138 ls []) := by
                      intro k9
                      induction k9 with
                      | zero => intro y s3 w9 h1 h2; exact absurd h2 (by omega)
                      | succ k9 ih =>
                        intro y s3 w9 hi9 hk9 hs39 hw99 H locs hP hD hS ls hl
                        subst hs39
                        subst hw99
                        refine lv_iload hx hb dX5_report_138 (lv_at hl 0 rfl) ?_
                        refine lv_aload_n hx hb dX5_report_140 rfl (lv_at hl 5 rfl) ?_
                        refine va_get (D := D) (ci := 5) (v := .int (nI (t + 1))) (C := RX5) (T := TX5) (N := 31) hx hb hts hiX5 hown hK hP 0 rfl rfl 28 (by decide) hw4 (fun _ h9 => h9) rfl dX5_report_141 ?_
                        refine lv_icmp_ge (tgt := 245) hx hb dX5_report_144 (by decide) (fun c_144 => ?_) (fun c_144 => ?_)
                        · have hiN : y = (t + 1) := pg_exit (rfl) (by omega) hi9 c_144
                          subst hiN
                          refine lv_aload_n hx hb dX5_report_245 rfl (lv_at hl 5 rfl) ?_
                          refine lv_iload hx hb dX5_report_246 (lv_at hl 1 rfl) ?_
                          refine pg_iE (pg_rV (As := [.int (pg_msum u.2 k0 (t + 1))]) (rest := []) ⟨hx, hb, hml, hown, hts⟩ (cm_owes l D cI cZ a H.size (upd (upd u.1 15 0) 13 (nI (t + 1)), pg_row (pg_row u.2 14 (upd (u.2 14) t x)) 13 (pg_met u.2 k0 (t + 1))) n hn h20 (pg_msum u.2 k0 (t + 1))) (cwV 1 hts gX5_report_X5_owes rfl rfl rfl (by decide +kernel) ⟨Nat.le_of_ble_eq_true rfl, Nat.le_of_ble_eq_true rfl⟩) hK hP hD 0 (ci := 5) rfl rfl rfl rfl hl.1 rfl (Nat.le_of_ble_eq_true rfl) dX5_report_248 ⟨Nat.le_of_ble_eq_true rfl, Nat.le_of_ble_eq_true rfl⟩) hD hS hA (fun H locs hP hD hS => ?_)
                          exact W.iret (v := pg_msum u.2 k0 (t + 1)) hx hb hr (fun t9 ht9 hW9 => ⟨⟨pg_msum u.2 k0 (t + 1), (pg_owe (upd (upd u.1 15 0) 13 (nI (t + 1)), pg_row (pg_row u.2 14 (upd (u.2 14) t x)) 13 (pg_met u.2 k0 (t + 1))) n (pg_msum u.2 k0 (t + 1))), rfl, ⟨by rw [ek0], by rw [ek0]⟩, by rw [ht9]; exact hP, va_K.moved hW9.alike hK, hD⟩, hS.F ht9⟩) hS.2.2 dX5_report_251
                        · have hlt : y < (t + 1) := pg_stay (rfl) (by omega) c_144
                          refine lv_iload hx hb dX5_report_147 (lv_at hl 2 rfl) ?_
                          refine lv_if_ne (tgt := 174) hx hb dX5_report_149 (by decide) (fun c_149 => ?_) (fun c_149 => ?_)
                          · refine lv_iconst (v := 1) hx hb dX5_report_174 (by decide) ?_
                            refine lv_goto (tgt := 179) hx hb dX5_report_175 (by decide) ?_
                            refine lv_topi (fun m9 em9 => ?_)
                            have hm1 : k0 ≤ y := (hk0 y (by omega)).mp (Or.inl c_149)
                            refine lv_istore (lv' := [(7, .int m9), (6, .int (nI y)), (5, .int (pg_msum u.2 k0 y)), (4, .int b9), (3, .int (pg_sm (u.2 11) (t + 1))), (2, .int (pg_sm (upd (u.2 14) t x) (t + 1))), (0, .ref (a 0)), (1, .int x)]) hx hb dX5_report_179 hl (by decide) rfl (fun ls hl => ?_)
                            refine lv_iload hx hb dX5_report_181 (lv_at hl 2 rfl) ?_
                            refine lv_iload hx hb dX5_report_183 (lv_at hl 0 rfl) ?_
                            refine lv_if_eq (tgt := 208) hx hb dX5_report_185 (by decide) (fun c_185 => absurd c_185 (by rw [em9]; decide)) (fun c_185 => ?_)
                            refine lv_aload_n hx hb dX5_report_188 rfl (lv_at hl 6 rfl) ?_
                            refine va_get (D := D) (ci := 5) (v := .ref (a 14)) (C := RX5) (T := TX5) (N := 31) hx hb hts hiX5 hown hK hP 0 rfl rfl 27 (by decide) hw9 (fun _ h9 => h9) rfl dX5_report_189 ?_
                            refine lv_iload hx hb dX5_report_192 (lv_at hl 1 rfl) ?_
                            refine pg_zld (f := (pg_met u.2 k0 y)) hx hb hK hP 14 1 rfl rfl (show y < _ by omega) (by decide) dX5_report_194 ?_
                            refine lv_if_ne (tgt := 208) hx hb dX5_report_195 (by decide) (fun c_195 => ?_) (fun c_195 => ?_)
                            · refine lv_iconst (v := 0) hx hb dX5_report_208 (by decide) ?_
                              refine lv_iadd hx hb dX5_report_209 ?_
                              refine lv_istore (lv' := [(5, .int ((pg_msum u.2 k0 y) + 0)), (7, .int m9), (6, .int (nI y)), (4, .int b9), (3, .int (pg_sm (u.2 11) (t + 1))), (2, .int (pg_sm (upd (u.2 14) t x) (t + 1))), (0, .ref (a 0)), (1, .int x)]) hx hb dX5_report_210 hl (by decide) rfl (fun ls hl => ?_)
                              refine lv_aload_n hx hb dX5_report_212 rfl (lv_at hl 6 rfl) ?_
                              refine va_get (D := D) (ci := 5) (v := .ref (a 14)) (C := RX5) (T := TX5) (N := 31) hx hb hts hiX5 hown hK hP 0 rfl rfl 27 (by decide) hw9 (fun _ h9 => h9) rfl dX5_report_213 ?_
                              refine lv_iload hx hb dX5_report_216 (lv_at hl 2 rfl) ?_
                              refine lv_aload_n hx hb dX5_report_218 rfl (lv_at hl 6 rfl) ?_
                              refine va_get (D := D) (ci := 5) (v := .ref (a 14)) (C := RX5) (T := TX5) (N := 31) hx hb hts hiX5 hown hK hP 0 rfl rfl 27 (by decide) hw9 (fun _ h9 => h9) rfl dX5_report_219 ?_
                              refine lv_iload hx hb dX5_report_222 (lv_at hl 2 rfl) ?_
                              refine pg_zld (f := (pg_met u.2 k0 y)) hx hb hK hP 14 1 rfl rfl (show y < _ by omega) (by decide) dX5_report_224 ?_
                              refine lv_if_ne (tgt := 233) hx hb dX5_report_225 (by decide) (fun c_225 => ?_) (fun c_225 => absurd c_225 c_195)
                              refine lv_iconst (v := 1) hx hb dX5_report_233 (by decide) ?_
                              refine lv_goto (tgt := 238) hx hb dX5_report_234 (by decide) ?_
                              refine pg_zst hx hb hK hP hD hS 14 1 rfl rfl (show y < _ by omega) (by decide) rfl dX5_report_238 (fun H locs hP hD hS => ?_)
                              have hP : va_P D vwCl (pg_wM cI cZ a ((upd (upd u.1 15 0) 13 (nI (t + 1))), (pg_row (pg_row (pg_row u.2 14 (upd (u.2 14) t x)) 13 (pg_met u.2 k0 y)) 13 (upd ((pg_met u.2 k0 y)) y 1)))) H := hP
                              have hD : va_D A (pg_wM cI cZ a ((upd (upd u.1 15 0) 13 (nI (t + 1))), (pg_row (pg_row (pg_row u.2 14 (upd (u.2 14) t x)) 13 (pg_met u.2 k0 y)) 13 (upd ((pg_met u.2 k0 y)) y 1)))) := hD
                              refine lv_iinc (v := nI (y + 1)) (lv' := [(6, .int (nI (y + 1))), (5, .int ((pg_msum u.2 k0 y) + 0)), (7, .int m9), (4, .int b9), (3, .int (pg_sm (u.2 11) (t + 1))), (2, .int (pg_sm (upd (u.2 14) t x) (t + 1))), (0, .ref (a 0)), (1, .int x)]) hx hb dX5_report_239 hl (k := 2) rfl (by rw [nI_succ]; rfl) (by decide) rfl (fun ls hl => ?_)
                              refine lv_goto (tgt := 138) hx hb dX5_report_242 (by decide) ?_
                              rw [pg_met_at] at c_195
                              exact ih (y + 1) ((pg_msum u.2 k0 y) + 0) ((upd (upd u.1 15 0) 13 (nI (t + 1))), (pg_row (pg_row (pg_row u.2 14 (upd (u.2 14) t x)) 13 (pg_met u.2 k0 y)) 13 (upd ((pg_met u.2 k0 y)) y 1))) (by omega) (by omega) (by rw [pg_a0]; exact pg_msum_b c_195) (by rw [pg_row_row, pg_met_x (hm y (by omega)) c_195]) _ _ hP hD hS ls (lv_sub hl [0, 1, 3, 4, 5, 6, 7] rfl)
                            · refine lv_aload_n hx hb dX5_report_198 rfl (lv_at hl 6 rfl) ?_
                              refine va_get (D := D) (ci := 5) (v := .ref (a 13)) (C := RX5) (T := TX5) (N := 31) hx hb hts hiX5 hown hK hP 0 rfl rfl 11 (by decide) hw10 (fun _ h9 => h9) rfl dX5_report_199 ?_
                              refine lv_iload hx hb dX5_report_202 (lv_at hl 1 rfl) ?_
                              refine pg_ild (f := u.2 12) hx hb hK hP 13 0 rfl rfl (show y < _ by omega) (by decide) dX5_report_204 ?_
                              refine lv_goto (tgt := 209) hx hb dX5_report_205 (by decide) ?_
                              refine lv_iadd hx hb dX5_report_209 ?_
                              refine lv_istore (lv' := [(5, .int ((pg_msum u.2 k0 y) + (u.2 12 y))), (7, .int m9), (6, .int (nI y)), (4, .int b9), (3, .int (pg_sm (u.2 11) (t + 1))), (2, .int (pg_sm (upd (u.2 14) t x) (t + 1))), (0, .ref (a 0)), (1, .int x)]) hx hb dX5_report_210 hl (by decide) rfl (fun ls hl => ?_)
                              refine lv_aload_n hx hb dX5_report_212 rfl (lv_at hl 6 rfl) ?_
                              refine va_get (D := D) (ci := 5) (v := .ref (a 14)) (C := RX5) (T := TX5) (N := 31) hx hb hts hiX5 hown hK hP 0 rfl rfl 27 (by decide) hw9 (fun _ h9 => h9) rfl dX5_report_213 ?_
                              refine lv_iload hx hb dX5_report_216 (lv_at hl 2 rfl) ?_
                              refine lv_aload_n hx hb dX5_report_218 rfl (lv_at hl 6 rfl) ?_
                              refine va_get (D := D) (ci := 5) (v := .ref (a 14)) (C := RX5) (T := TX5) (N := 31) hx hb hts hiX5 hown hK hP 0 rfl rfl 27 (by decide) hw9 (fun _ h9 => h9) rfl dX5_report_219 ?_
                              refine lv_iload hx hb dX5_report_222 (lv_at hl 2 rfl) ?_
                              refine pg_zld (f := (pg_met u.2 k0 y)) hx hb hK hP 14 1 rfl rfl (show y < _ by omega) (by decide) dX5_report_224 ?_
                              refine lv_if_ne (tgt := 233) hx hb dX5_report_225 (by decide) (fun c_225 => absurd c_195 c_225) (fun c_225 => ?_)
                              refine lv_iload hx hb dX5_report_228 (lv_at hl 1 rfl) ?_
                              refine lv_if_eq (tgt := 237) hx hb dX5_report_230 (by decide) (fun c_230 => absurd c_230 (by rw [em9]; decide)) (fun c_230 => ?_)
                              refine lv_iconst (v := 1) hx hb dX5_report_233 (by decide) ?_
                              refine lv_goto (tgt := 238) hx hb dX5_report_234 (by decide) ?_
                              refine pg_zst hx hb hK hP hD hS 14 1 rfl rfl (show y < _ by omega) (by decide) rfl dX5_report_238 (fun H locs hP hD hS => ?_)
                              have hP : va_P D vwCl (pg_wM cI cZ a ((upd (upd u.1 15 0) 13 (nI (t + 1))), (pg_row (pg_row (pg_row u.2 14 (upd (u.2 14) t x)) 13 (pg_met u.2 k0 y)) 13 (upd ((pg_met u.2 k0 y)) y 1)))) H := hP
                              have hD : va_D A (pg_wM cI cZ a ((upd (upd u.1 15 0) 13 (nI (t + 1))), (pg_row (pg_row (pg_row u.2 14 (upd (u.2 14) t x)) 13 (pg_met u.2 k0 y)) 13 (upd ((pg_met u.2 k0 y)) y 1)))) := hD
                              refine lv_iinc (v := nI (y + 1)) (lv' := [(6, .int (nI (y + 1))), (5, .int ((pg_msum u.2 k0 y) + (u.2 12 y))), (7, .int m9), (4, .int b9), (3, .int (pg_sm (u.2 11) (t + 1))), (2, .int (pg_sm (upd (u.2 14) t x) (t + 1))), (0, .ref (a 0)), (1, .int x)]) hx hb dX5_report_239 hl (k := 2) rfl (by rw [nI_succ]; rfl) (by decide) rfl (fun ls hl => ?_)
                              refine lv_goto (tgt := 138) hx hb dX5_report_242 (by decide) ?_
                              rw [pg_met_at] at c_195
                              exact ih (y + 1) ((pg_msum u.2 k0 y) + (u.2 12 y)) ((upd (upd u.1 15 0) 13 (nI (t + 1))), (pg_row (pg_row (pg_row u.2 14 (upd (u.2 14) t x)) 13 (pg_met u.2 k0 y)) 13 (upd ((pg_met u.2 k0 y)) y 1))) (by omega) (by omega) (pg_msum_a hm1 c_195) (by rw [pg_row_row, pg_met_w hm1 c_195]) _ _ hP hD hS ls (lv_sub hl [0, 1, 3, 4, 5, 6, 7] rfl)
                          · refine lv_iload hx hb dX5_report_152 (lv_at hl 0 rfl) ?_
                            refine lv_aload_n hx hb dX5_report_154 rfl (lv_at hl 5 rfl) ?_
                            refine va_get (D := D) (ci := 5) (v := .int (nI (t + 1))) (C := RX5) (T := TX5) (N := 31) hx hb hts hiX5 hown hK hP 0 rfl rfl 28 (by decide) hw4 (fun _ h9 => h9) rfl dX5_report_155 ?_
                            refine lv_iconst (v := 1) hx hb dX5_report_158 (by decide) ?_
                            refine lv_isub hx hb dX5_report_159 ?_
                            rw [pg_pred t]
                            refine lv_icmp_ne (tgt := 178) hx hb dX5_report_160 (by decide) (fun c_160 => ?_) (fun c_160 => ?_)
                            · refine lv_iconst (v := 0) hx hb dX5_report_178 (by decide) ?_
                              refine lv_topi (fun m9 em9 => ?_)
                              have hm0 : ¬ k0 ≤ y := fun h7 => ((hk0 y (by omega)).mpr h7).elim (fun h8 => h8 c_149) (fun h8 => c_160 (by rw [h8.1]))
                              refine lv_istore (lv' := [(7, .int m9), (6, .int (nI y)), (5, .int (pg_msum u.2 k0 y)), (4, .int b9), (3, .int (pg_sm (u.2 11) (t + 1))), (2, .int (pg_sm (upd (u.2 14) t x) (t + 1))), (0, .ref (a 0)), (1, .int x)]) hx hb dX5_report_179 hl (by decide) rfl (fun ls hl => ?_)
                              refine lv_iload hx hb dX5_report_181 (lv_at hl 2 rfl) ?_
                              refine lv_iload hx hb dX5_report_183 (lv_at hl 0 rfl) ?_
                              refine lv_if_eq (tgt := 208) hx hb dX5_report_185 (by decide) (fun c_185 => ?_) (fun c_185 => absurd em9 c_185)
                              refine lv_iconst (v := 0) hx hb dX5_report_208 (by decide) ?_
                              refine lv_iadd hx hb dX5_report_209 ?_
                              refine lv_istore (lv' := [(5, .int ((pg_msum u.2 k0 y) + 0)), (7, .int m9), (6, .int (nI y)), (4, .int b9), (3, .int (pg_sm (u.2 11) (t + 1))), (2, .int (pg_sm (upd (u.2 14) t x) (t + 1))), (0, .ref (a 0)), (1, .int x)]) hx hb dX5_report_210 hl (by decide) rfl (fun ls hl => ?_)
                              refine lv_aload_n hx hb dX5_report_212 rfl (lv_at hl 6 rfl) ?_
                              refine va_get (D := D) (ci := 5) (v := .ref (a 14)) (C := RX5) (T := TX5) (N := 31) hx hb hts hiX5 hown hK hP 0 rfl rfl 27 (by decide) hw9 (fun _ h9 => h9) rfl dX5_report_213 ?_
                              refine lv_iload hx hb dX5_report_216 (lv_at hl 2 rfl) ?_
                              refine lv_aload_n hx hb dX5_report_218 rfl (lv_at hl 6 rfl) ?_
                              refine va_get (D := D) (ci := 5) (v := .ref (a 14)) (C := RX5) (T := TX5) (N := 31) hx hb hts hiX5 hown hK hP 0 rfl rfl 27 (by decide) hw9 (fun _ h9 => h9) rfl dX5_report_219 ?_
                              refine lv_iload hx hb dX5_report_222 (lv_at hl 2 rfl) ?_
                              refine pg_zld (f := (pg_met u.2 k0 y)) hx hb hK hP 14 1 rfl rfl (show y < _ by omega) (by decide) dX5_report_224 ?_
                              refine lv_if_ne (tgt := 233) hx hb dX5_report_225 (by decide) (fun c_225 => ?_) (fun c_225 => ?_)
                              · refine lv_iconst (v := 1) hx hb dX5_report_233 (by decide) ?_
                                refine lv_goto (tgt := 238) hx hb dX5_report_234 (by decide) ?_
                                refine pg_zst hx hb hK hP hD hS 14 1 rfl rfl (show y < _ by omega) (by decide) rfl dX5_report_238 (fun H locs hP hD hS => ?_)
                                have hP : va_P D vwCl (pg_wM cI cZ a ((upd (upd u.1 15 0) 13 (nI (t + 1))), (pg_row (pg_row (pg_row u.2 14 (upd (u.2 14) t x)) 13 (pg_met u.2 k0 y)) 13 (upd ((pg_met u.2 k0 y)) y 1)))) H := hP
                                have hD : va_D A (pg_wM cI cZ a ((upd (upd u.1 15 0) 13 (nI (t + 1))), (pg_row (pg_row (pg_row u.2 14 (upd (u.2 14) t x)) 13 (pg_met u.2 k0 y)) 13 (upd ((pg_met u.2 k0 y)) y 1)))) := hD
                                refine lv_iinc (v := nI (y + 1)) (lv' := [(6, .int (nI (y + 1))), (5, .int ((pg_msum u.2 k0 y) + 0)), (7, .int m9), (4, .int b9), (3, .int (pg_sm (u.2 11) (t + 1))), (2, .int (pg_sm (upd (u.2 14) t x) (t + 1))), (0, .ref (a 0)), (1, .int x)]) hx hb dX5_report_239 hl (k := 2) rfl (by rw [nI_succ]; rfl) (by decide) rfl (fun ls hl => ?_)
                                refine lv_goto (tgt := 138) hx hb dX5_report_242 (by decide) ?_
                                rw [pg_met_at] at c_225
                                exact ih (y + 1) ((pg_msum u.2 k0 y) + 0) ((upd (upd u.1 15 0) 13 (nI (t + 1))), (pg_row (pg_row (pg_row u.2 14 (upd (u.2 14) t x)) 13 (pg_met u.2 k0 y)) 13 (upd ((pg_met u.2 k0 y)) y 1))) (by omega) (by omega) (by rw [pg_a0]; exact pg_msum_c hm0) (by rw [pg_row_row, pg_met_x (hm y (by omega)) c_225]) _ _ hP hD hS ls (lv_sub hl [0, 1, 3, 4, 5, 6, 7] rfl)
                              · refine lv_iload hx hb dX5_report_228 (lv_at hl 1 rfl) ?_
                                refine lv_if_eq (tgt := 237) hx hb dX5_report_230 (by decide) (fun c_230 => ?_) (fun c_230 => absurd em9 c_230)
                                refine lv_iconst (v := 0) hx hb dX5_report_237 (by decide) ?_
                                refine pg_zst hx hb hK hP hD hS 14 1 rfl rfl (show y < _ by omega) (by decide) rfl dX5_report_238 (fun H locs hP hD hS => ?_)
                                have hP : va_P D vwCl (pg_wM cI cZ a ((upd (upd u.1 15 0) 13 (nI (t + 1))), (pg_row (pg_row (pg_row u.2 14 (upd (u.2 14) t x)) 13 (pg_met u.2 k0 y)) 13 (upd ((pg_met u.2 k0 y)) y 0)))) H := hP
                                have hD : va_D A (pg_wM cI cZ a ((upd (upd u.1 15 0) 13 (nI (t + 1))), (pg_row (pg_row (pg_row u.2 14 (upd (u.2 14) t x)) 13 (pg_met u.2 k0 y)) 13 (upd ((pg_met u.2 k0 y)) y 0)))) := hD
                                refine lv_iinc (v := nI (y + 1)) (lv' := [(6, .int (nI (y + 1))), (5, .int ((pg_msum u.2 k0 y) + 0)), (7, .int m9), (4, .int b9), (3, .int (pg_sm (u.2 11) (t + 1))), (2, .int (pg_sm (upd (u.2 14) t x) (t + 1))), (0, .ref (a 0)), (1, .int x)]) hx hb dX5_report_239 hl (k := 2) rfl (by rw [nI_succ]; rfl) (by decide) rfl (fun ls hl => ?_)
                                refine lv_goto (tgt := 138) hx hb dX5_report_242 (by decide) ?_
                                rw [pg_met_at] at c_225
                                exact ih (y + 1) ((pg_msum u.2 k0 y) + 0) ((upd (upd u.1 15 0) 13 (nI (t + 1))), (pg_row (pg_row (pg_row u.2 14 (upd (u.2 14) t x)) 13 (pg_met u.2 k0 y)) 13 (upd ((pg_met u.2 k0 y)) y 0))) (by omega) (by omega) (by rw [pg_a0]; exact pg_msum_c hm0) (by rw [pg_row_row, pg_met_v hm0 c_225]) _ _ hP hD hS ls (lv_sub hl [0, 1, 3, 4, 5, 6, 7] rfl)
                            · refine lv_iload_n hx hb dX5_report_163 rfl (lv_at hl 6 rfl) ?_
                              refine lv_aload_n hx hb dX5_report_164 rfl (lv_at hl 5 rfl) ?_
                              refine va_get (D := D) (ci := 5) (v := .ref (a 12)) (C := RX5) (T := TX5) (N := 31) hx hb hts hiX5 hown hK hP 0 rfl rfl 10 (by decide) hw7 (fun _ h9 => h9) rfl dX5_report_165 ?_
                              refine lv_iload hx hb dX5_report_168 (lv_at hl 0 rfl) ?_
                              refine pg_ild (f := u.2 11) hx hb hK hP 12 0 rfl rfl (show y < _ by omega) (by decide) dX5_report_170 ?_
                              refine lv_icmp_lt (tgt := 178) hx hb dX5_report_171 (by decide) (fun c_171 => ?_) (fun c_171 => ?_)
                              · refine lv_iconst (v := 0) hx hb dX5_report_178 (by decide) ?_
                                refine lv_topi (fun m9 em9 => ?_)
                                have hm0 : ¬ k0 ≤ y := fun h7 => ((hk0 y (by omega)).mpr h7).elim (fun h8 => h8 c_149) (fun h8 => h8.2 (by rw [← h8.1]; exact c_171))
                                refine lv_istore (lv' := [(7, .int m9), (6, .int (nI y)), (5, .int (pg_msum u.2 k0 y)), (4, .int b9), (3, .int (pg_sm (u.2 11) (t + 1))), (2, .int (pg_sm (upd (u.2 14) t x) (t + 1))), (0, .ref (a 0)), (1, .int x)]) hx hb dX5_report_179 hl (by decide) rfl (fun ls hl => ?_)
                                refine lv_iload hx hb dX5_report_181 (lv_at hl 2 rfl) ?_
                                refine lv_iload hx hb dX5_report_183 (lv_at hl 0 rfl) ?_
                                refine lv_if_eq (tgt := 208) hx hb dX5_report_185 (by decide) (fun c_185 => ?_) (fun c_185 => absurd em9 c_185)
                                refine lv_iconst (v := 0) hx hb dX5_report_208 (by decide) ?_
                                refine lv_iadd hx hb dX5_report_209 ?_
                                refine lv_istore (lv' := [(5, .int ((pg_msum u.2 k0 y) + 0)), (7, .int m9), (6, .int (nI y)), (4, .int b9), (3, .int (pg_sm (u.2 11) (t + 1))), (2, .int (pg_sm (upd (u.2 14) t x) (t + 1))), (0, .ref (a 0)), (1, .int x)]) hx hb dX5_report_210 hl (by decide) rfl (fun ls hl => ?_)
                                refine lv_aload_n hx hb dX5_report_212 rfl (lv_at hl 6 rfl) ?_
                                refine va_get (D := D) (ci := 5) (v := .ref (a 14)) (C := RX5) (T := TX5) (N := 31) hx hb hts hiX5 hown hK hP 0 rfl rfl 27 (by decide) hw9 (fun _ h9 => h9) rfl dX5_report_213 ?_
                                refine lv_iload hx hb dX5_report_216 (lv_at hl 2 rfl) ?_
                                refine lv_aload_n hx hb dX5_report_218 rfl (lv_at hl 6 rfl) ?_
                                refine va_get (D := D) (ci := 5) (v := .ref (a 14)) (C := RX5) (T := TX5) (N := 31) hx hb hts hiX5 hown hK hP 0 rfl rfl 27 (by decide) hw9 (fun _ h9 => h9) rfl dX5_report_219 ?_
                                refine lv_iload hx hb dX5_report_222 (lv_at hl 2 rfl) ?_
                                refine pg_zld (f := (pg_met u.2 k0 y)) hx hb hK hP 14 1 rfl rfl (show y < _ by omega) (by decide) dX5_report_224 ?_
                                refine lv_if_ne (tgt := 233) hx hb dX5_report_225 (by decide) (fun c_225 => ?_) (fun c_225 => ?_)
                                · refine lv_iconst (v := 1) hx hb dX5_report_233 (by decide) ?_
                                  refine lv_goto (tgt := 238) hx hb dX5_report_234 (by decide) ?_
                                  refine pg_zst hx hb hK hP hD hS 14 1 rfl rfl (show y < _ by omega) (by decide) rfl dX5_report_238 (fun H locs hP hD hS => ?_)
                                  have hP : va_P D vwCl (pg_wM cI cZ a ((upd (upd u.1 15 0) 13 (nI (t + 1))), (pg_row (pg_row (pg_row u.2 14 (upd (u.2 14) t x)) 13 (pg_met u.2 k0 y)) 13 (upd ((pg_met u.2 k0 y)) y 1)))) H := hP
                                  have hD : va_D A (pg_wM cI cZ a ((upd (upd u.1 15 0) 13 (nI (t + 1))), (pg_row (pg_row (pg_row u.2 14 (upd (u.2 14) t x)) 13 (pg_met u.2 k0 y)) 13 (upd ((pg_met u.2 k0 y)) y 1)))) := hD
                                  refine lv_iinc (v := nI (y + 1)) (lv' := [(6, .int (nI (y + 1))), (5, .int ((pg_msum u.2 k0 y) + 0)), (7, .int m9), (4, .int b9), (3, .int (pg_sm (u.2 11) (t + 1))), (2, .int (pg_sm (upd (u.2 14) t x) (t + 1))), (0, .ref (a 0)), (1, .int x)]) hx hb dX5_report_239 hl (k := 2) rfl (by rw [nI_succ]; rfl) (by decide) rfl (fun ls hl => ?_)
                                  refine lv_goto (tgt := 138) hx hb dX5_report_242 (by decide) ?_
                                  rw [pg_met_at] at c_225
                                  exact ih (y + 1) ((pg_msum u.2 k0 y) + 0) ((upd (upd u.1 15 0) 13 (nI (t + 1))), (pg_row (pg_row (pg_row u.2 14 (upd (u.2 14) t x)) 13 (pg_met u.2 k0 y)) 13 (upd ((pg_met u.2 k0 y)) y 1))) (by omega) (by omega) (by rw [pg_a0]; exact pg_msum_c hm0) (by rw [pg_row_row, pg_met_x (hm y (by omega)) c_225]) _ _ hP hD hS ls (lv_sub hl [0, 1, 3, 4, 5, 6, 7] rfl)
                                · refine lv_iload hx hb dX5_report_228 (lv_at hl 1 rfl) ?_
                                  refine lv_if_eq (tgt := 237) hx hb dX5_report_230 (by decide) (fun c_230 => ?_) (fun c_230 => absurd em9 c_230)
                                  refine lv_iconst (v := 0) hx hb dX5_report_237 (by decide) ?_
                                  refine pg_zst hx hb hK hP hD hS 14 1 rfl rfl (show y < _ by omega) (by decide) rfl dX5_report_238 (fun H locs hP hD hS => ?_)
                                  have hP : va_P D vwCl (pg_wM cI cZ a ((upd (upd u.1 15 0) 13 (nI (t + 1))), (pg_row (pg_row (pg_row u.2 14 (upd (u.2 14) t x)) 13 (pg_met u.2 k0 y)) 13 (upd ((pg_met u.2 k0 y)) y 0)))) H := hP
                                  have hD : va_D A (pg_wM cI cZ a ((upd (upd u.1 15 0) 13 (nI (t + 1))), (pg_row (pg_row (pg_row u.2 14 (upd (u.2 14) t x)) 13 (pg_met u.2 k0 y)) 13 (upd ((pg_met u.2 k0 y)) y 0)))) := hD
                                  refine lv_iinc (v := nI (y + 1)) (lv' := [(6, .int (nI (y + 1))), (5, .int ((pg_msum u.2 k0 y) + 0)), (7, .int m9), (4, .int b9), (3, .int (pg_sm (u.2 11) (t + 1))), (2, .int (pg_sm (upd (u.2 14) t x) (t + 1))), (0, .ref (a 0)), (1, .int x)]) hx hb dX5_report_239 hl (k := 2) rfl (by rw [nI_succ]; rfl) (by decide) rfl (fun ls hl => ?_)
                                  refine lv_goto (tgt := 138) hx hb dX5_report_242 (by decide) ?_
                                  rw [pg_met_at] at c_225
                                  exact ih (y + 1) ((pg_msum u.2 k0 y) + 0) ((upd (upd u.1 15 0) 13 (nI (t + 1))), (pg_row (pg_row (pg_row u.2 14 (upd (u.2 14) t x)) 13 (pg_met u.2 k0 y)) 13 (upd ((pg_met u.2 k0 y)) y 0))) (by omega) (by omega) (by rw [pg_a0]; exact pg_msum_c hm0) (by rw [pg_row_row, pg_met_v hm0 c_225]) _ _ hP hD hS ls (lv_sub hl [0, 1, 3, 4, 5, 6, 7] rfl)
                              · refine lv_iconst (v := 1) hx hb dX5_report_174 (by decide) ?_
                                refine lv_goto (tgt := 179) hx hb dX5_report_175 (by decide) ?_
                                refine lv_topi (fun m9 em9 => ?_)
                                have hm1 : k0 ≤ y := (hk0 y (by omega)).mp (Or.inr ⟨(nI_eq (by omega) (by omega)).mp c_160, by rw [← (nI_eq (by omega) (by omega)).mp c_160]; exact c_171⟩)
                                refine lv_istore (lv' := [(7, .int m9), (6, .int (nI y)), (5, .int (pg_msum u.2 k0 y)), (4, .int b9), (3, .int (pg_sm (u.2 11) (t + 1))), (2, .int (pg_sm (upd (u.2 14) t x) (t + 1))), (0, .ref (a 0)), (1, .int x)]) hx hb dX5_report_179 hl (by decide) rfl (fun ls hl => ?_)
                                refine lv_iload hx hb dX5_report_181 (lv_at hl 2 rfl) ?_
                                refine lv_iload hx hb dX5_report_183 (lv_at hl 0 rfl) ?_
                                refine lv_if_eq (tgt := 208) hx hb dX5_report_185 (by decide) (fun c_185 => absurd c_185 (by rw [em9]; decide)) (fun c_185 => ?_)
                                refine lv_aload_n hx hb dX5_report_188 rfl (lv_at hl 6 rfl) ?_
                                refine va_get (D := D) (ci := 5) (v := .ref (a 14)) (C := RX5) (T := TX5) (N := 31) hx hb hts hiX5 hown hK hP 0 rfl rfl 27 (by decide) hw9 (fun _ h9 => h9) rfl dX5_report_189 ?_
                                refine lv_iload hx hb dX5_report_192 (lv_at hl 1 rfl) ?_
                                refine pg_zld (f := (pg_met u.2 k0 y)) hx hb hK hP 14 1 rfl rfl (show y < _ by omega) (by decide) dX5_report_194 ?_
                                refine lv_if_ne (tgt := 208) hx hb dX5_report_195 (by decide) (fun c_195 => ?_) (fun c_195 => ?_)
                                · refine lv_iconst (v := 0) hx hb dX5_report_208 (by decide) ?_
                                  refine lv_iadd hx hb dX5_report_209 ?_
                                  refine lv_istore (lv' := [(5, .int ((pg_msum u.2 k0 y) + 0)), (7, .int m9), (6, .int (nI y)), (4, .int b9), (3, .int (pg_sm (u.2 11) (t + 1))), (2, .int (pg_sm (upd (u.2 14) t x) (t + 1))), (0, .ref (a 0)), (1, .int x)]) hx hb dX5_report_210 hl (by decide) rfl (fun ls hl => ?_)
                                  refine lv_aload_n hx hb dX5_report_212 rfl (lv_at hl 6 rfl) ?_
                                  refine va_get (D := D) (ci := 5) (v := .ref (a 14)) (C := RX5) (T := TX5) (N := 31) hx hb hts hiX5 hown hK hP 0 rfl rfl 27 (by decide) hw9 (fun _ h9 => h9) rfl dX5_report_213 ?_
                                  refine lv_iload hx hb dX5_report_216 (lv_at hl 2 rfl) ?_
                                  refine lv_aload_n hx hb dX5_report_218 rfl (lv_at hl 6 rfl) ?_
                                  refine va_get (D := D) (ci := 5) (v := .ref (a 14)) (C := RX5) (T := TX5) (N := 31) hx hb hts hiX5 hown hK hP 0 rfl rfl 27 (by decide) hw9 (fun _ h9 => h9) rfl dX5_report_219 ?_
                                  refine lv_iload hx hb dX5_report_222 (lv_at hl 2 rfl) ?_
                                  refine pg_zld (f := (pg_met u.2 k0 y)) hx hb hK hP 14 1 rfl rfl (show y < _ by omega) (by decide) dX5_report_224 ?_
                                  refine lv_if_ne (tgt := 233) hx hb dX5_report_225 (by decide) (fun c_225 => ?_) (fun c_225 => absurd c_225 c_195)
                                  refine lv_iconst (v := 1) hx hb dX5_report_233 (by decide) ?_
                                  refine lv_goto (tgt := 238) hx hb dX5_report_234 (by decide) ?_
                                  refine pg_zst hx hb hK hP hD hS 14 1 rfl rfl (show y < _ by omega) (by decide) rfl dX5_report_238 (fun H locs hP hD hS => ?_)
                                  have hP : va_P D vwCl (pg_wM cI cZ a ((upd (upd u.1 15 0) 13 (nI (t + 1))), (pg_row (pg_row (pg_row u.2 14 (upd (u.2 14) t x)) 13 (pg_met u.2 k0 y)) 13 (upd ((pg_met u.2 k0 y)) y 1)))) H := hP
                                  have hD : va_D A (pg_wM cI cZ a ((upd (upd u.1 15 0) 13 (nI (t + 1))), (pg_row (pg_row (pg_row u.2 14 (upd (u.2 14) t x)) 13 (pg_met u.2 k0 y)) 13 (upd ((pg_met u.2 k0 y)) y 1)))) := hD
                                  refine lv_iinc (v := nI (y + 1)) (lv' := [(6, .int (nI (y + 1))), (5, .int ((pg_msum u.2 k0 y) + 0)), (7, .int m9), (4, .int b9), (3, .int (pg_sm (u.2 11) (t + 1))), (2, .int (pg_sm (upd (u.2 14) t x) (t + 1))), (0, .ref (a 0)), (1, .int x)]) hx hb dX5_report_239 hl (k := 2) rfl (by rw [nI_succ]; rfl) (by decide) rfl (fun ls hl => ?_)
                                  refine lv_goto (tgt := 138) hx hb dX5_report_242 (by decide) ?_
                                  rw [pg_met_at] at c_195
                                  exact ih (y + 1) ((pg_msum u.2 k0 y) + 0) ((upd (upd u.1 15 0) 13 (nI (t + 1))), (pg_row (pg_row (pg_row u.2 14 (upd (u.2 14) t x)) 13 (pg_met u.2 k0 y)) 13 (upd ((pg_met u.2 k0 y)) y 1))) (by omega) (by omega) (by rw [pg_a0]; exact pg_msum_b c_195) (by rw [pg_row_row, pg_met_x (hm y (by omega)) c_195]) _ _ hP hD hS ls (lv_sub hl [0, 1, 3, 4, 5, 6, 7] rfl)
                                · refine lv_aload_n hx hb dX5_report_198 rfl (lv_at hl 6 rfl) ?_
                                  refine va_get (D := D) (ci := 5) (v := .ref (a 13)) (C := RX5) (T := TX5) (N := 31) hx hb hts hiX5 hown hK hP 0 rfl rfl 11 (by decide) hw10 (fun _ h9 => h9) rfl dX5_report_199 ?_
                                  refine lv_iload hx hb dX5_report_202 (lv_at hl 1 rfl) ?_
                                  refine pg_ild (f := u.2 12) hx hb hK hP 13 0 rfl rfl (show y < _ by omega) (by decide) dX5_report_204 ?_
                                  refine lv_goto (tgt := 209) hx hb dX5_report_205 (by decide) ?_
                                  refine lv_iadd hx hb dX5_report_209 ?_
                                  refine lv_istore (lv' := [(5, .int ((pg_msum u.2 k0 y) + (u.2 12 y))), (7, .int m9), (6, .int (nI y)), (4, .int b9), (3, .int (pg_sm (u.2 11) (t + 1))), (2, .int (pg_sm (upd (u.2 14) t x) (t + 1))), (0, .ref (a 0)), (1, .int x)]) hx hb dX5_report_210 hl (by decide) rfl (fun ls hl => ?_)
                                  refine lv_aload_n hx hb dX5_report_212 rfl (lv_at hl 6 rfl) ?_
                                  refine va_get (D := D) (ci := 5) (v := .ref (a 14)) (C := RX5) (T := TX5) (N := 31) hx hb hts hiX5 hown hK hP 0 rfl rfl 27 (by decide) hw9 (fun _ h9 => h9) rfl dX5_report_213 ?_
                                  refine lv_iload hx hb dX5_report_216 (lv_at hl 2 rfl) ?_
                                  refine lv_aload_n hx hb dX5_report_218 rfl (lv_at hl 6 rfl) ?_
                                  refine va_get (D := D) (ci := 5) (v := .ref (a 14)) (C := RX5) (T := TX5) (N := 31) hx hb hts hiX5 hown hK hP 0 rfl rfl 27 (by decide) hw9 (fun _ h9 => h9) rfl dX5_report_219 ?_
                                  refine lv_iload hx hb dX5_report_222 (lv_at hl 2 rfl) ?_
                                  refine pg_zld (f := (pg_met u.2 k0 y)) hx hb hK hP 14 1 rfl rfl (show y < _ by omega) (by decide) dX5_report_224 ?_
                                  refine lv_if_ne (tgt := 233) hx hb dX5_report_225 (by decide) (fun c_225 => absurd c_195 c_225) (fun c_225 => ?_)
                                  refine lv_iload hx hb dX5_report_228 (lv_at hl 1 rfl) ?_
                                  refine lv_if_eq (tgt := 237) hx hb dX5_report_230 (by decide) (fun c_230 => absurd c_230 (by rw [em9]; decide)) (fun c_230 => ?_)
                                  refine lv_iconst (v := 1) hx hb dX5_report_233 (by decide) ?_
                                  refine lv_goto (tgt := 238) hx hb dX5_report_234 (by decide) ?_
                                  refine pg_zst hx hb hK hP hD hS 14 1 rfl rfl (show y < _ by omega) (by decide) rfl dX5_report_238 (fun H locs hP hD hS => ?_)
                                  have hP : va_P D vwCl (pg_wM cI cZ a ((upd (upd u.1 15 0) 13 (nI (t + 1))), (pg_row (pg_row (pg_row u.2 14 (upd (u.2 14) t x)) 13 (pg_met u.2 k0 y)) 13 (upd ((pg_met u.2 k0 y)) y 1)))) H := hP
                                  have hD : va_D A (pg_wM cI cZ a ((upd (upd u.1 15 0) 13 (nI (t + 1))), (pg_row (pg_row (pg_row u.2 14 (upd (u.2 14) t x)) 13 (pg_met u.2 k0 y)) 13 (upd ((pg_met u.2 k0 y)) y 1)))) := hD
                                  refine lv_iinc (v := nI (y + 1)) (lv' := [(6, .int (nI (y + 1))), (5, .int ((pg_msum u.2 k0 y) + (u.2 12 y))), (7, .int m9), (4, .int b9), (3, .int (pg_sm (u.2 11) (t + 1))), (2, .int (pg_sm (upd (u.2 14) t x) (t + 1))), (0, .ref (a 0)), (1, .int x)]) hx hb dX5_report_239 hl (k := 2) rfl (by rw [nI_succ]; rfl) (by decide) rfl (fun ls hl => ?_)
                                  refine lv_goto (tgt := 138) hx hb dX5_report_242 (by decide) ?_
                                  rw [pg_met_at] at c_195
                                  exact ih (y + 1) ((pg_msum u.2 k0 y) + (u.2 12 y)) ((upd (upd u.1 15 0) 13 (nI (t + 1))), (pg_row (pg_row (pg_row u.2 14 (upd (u.2 14) t x)) 13 (pg_met u.2 k0 y)) 13 (upd ((pg_met u.2 k0 y)) y 1))) (by omega) (by omega) (pg_msum_a hm1 c_195) (by rw [pg_row_row, pg_met_w hm1 c_195]) _ _ hP hD hS ls (lv_sub hl [0, 1, 3, 4, 5, 6, 7] rfl)
                    exact L138 ((t + 1) + 1) 0 0 ((upd (upd u.1 15 0) 13 (nI (t + 1))), (pg_row u.2 14 (upd (u.2 14) t x))) (by omega) (by omega) (pg_msum_z u.2 k0).symm (by rw [pg_met_z]; exact congrArg _ (pg_row_self _ _).symm) _ _ hP hD hS ls hl
              · have hlt : i < (t + 1) := pg_stay (rfl) (by omega) c_84
                refine lv_iload_n hx hb dX5_report_87 rfl (lv_at hl 2 rfl) ?_
                refine lv_aload_n hx hb dX5_report_88 rfl (lv_at hl 3 rfl) ?_
                refine va_get (D := D) (ci := 5) (v := .ref (a 15)) (C := RX5) (T := TX5) (N := 31) hx hb hts hiX5 hown hK hP 0 rfl rfl 26 (by decide) hw6 (fun _ h9 => h9) rfl dX5_report_89 ?_
                refine lv_iload hx hb dX5_report_92 (lv_at hl 0 rfl) ?_
                refine pg_ild (f := (upd (u.2 14) t x)) hx hb hK hP 15 0 rfl rfl (show i < _ by omega) (by decide) dX5_report_94 ?_
                refine lv_iadd hx hb dX5_report_95 ?_
                refine lv_istore_n (lv' := [(2, .int ((pg_sm (upd (u.2 14) t x) i) + ((upd (u.2 14) t x) i))), (4, .int (nI i)), (3, .int (pg_sm (u.2 11) i)), (0, .ref (a 0)), (1, .int x)]) hx hb dX5_report_96 rfl hl (by decide) rfl (fun ls hl => ?_)
                refine lv_iload_n hx hb dX5_report_97 rfl (lv_at hl 2 rfl) ?_
                refine lv_aload_n hx hb dX5_report_98 rfl (lv_at hl 3 rfl) ?_
                refine va_get (D := D) (ci := 5) (v := .ref (a 12)) (C := RX5) (T := TX5) (N := 31) hx hb hts hiX5 hown hK hP 0 rfl rfl 10 (by decide) hw7 (fun _ h9 => h9) rfl dX5_report_99 ?_
                refine lv_iload hx hb dX5_report_102 (lv_at hl 1 rfl) ?_
                refine pg_ild (f := u.2 11) hx hb hK hP 12 0 rfl rfl (show i < _ by omega) (by decide) dX5_report_104 ?_
                refine lv_iadd hx hb dX5_report_105 ?_
                refine lv_istore_n (lv' := [(3, .int ((pg_sm (u.2 11) i) + (u.2 11 i))), (2, .int ((pg_sm (upd (u.2 14) t x) i) + ((upd (u.2 14) t x) i))), (4, .int (nI i)), (0, .ref (a 0)), (1, .int x)]) hx hb dX5_report_106 rfl hl (by decide) rfl (fun ls hl => ?_)
                refine lv_iinc (v := nI (i + 1)) (lv' := [(4, .int (nI (i + 1))), (3, .int ((pg_sm (u.2 11) i) + (u.2 11 i))), (2, .int ((pg_sm (upd (u.2 14) t x) i) + ((upd (u.2 14) t x) i))), (0, .ref (a 0)), (1, .int x)]) hx hb dX5_report_107 hl (k := 2) rfl (by rw [nI_succ]; rfl) (by decide) rfl (fun ls hl => ?_)
                refine lv_goto (tgt := 78) hx hb dX5_report_110 (by decide) ?_
                exact ih (i + 1) ((pg_sm (upd (u.2 14) t x) i) + ((upd (u.2 14) t x) i)) ((pg_sm (u.2 11) i) + (u.2 11 i)) (by omega) (by omega) rfl rfl _ _ hP hD hS ls (lv_sub hl [0, 1, 2, 3, 4] rfl)
          exact L78 ((t + 1) + 1) 0 0 0 (by omega) (by omega) rfl rfl _ _ hP hD hS ls hl
        · have d_35 := pg_eq_f c_35
          refine lv_iconst (v := 2) hx hb dX5_report_38 (by decide) ?_
          refine lv_goto (tgt := 43) hx hb dX5_report_39 (by decide) ?_
          exact absurd hthr (by first | (simp only [pg_t_report, c_6, d_20, d_28, d_35, cond_true, cond_false, Bool.not_true, Bool.not_false, Bool.cond_self]; done) | (simp only [pg_t_report, c_6, d_20, d_28, d_35, cond_true, cond_false, Bool.not_true, Bool.not_false, Bool.cond_self]; decide))
  · refine pg_iE (pg_rS (As := [.int x, .int (-10000000), .int 10000000]) (rest := [.ref (a 0)]) ⟨hx, hb, hml, hown, hts⟩ (cm_in_f l D (pg_ty cI cZ) (pg_wM cI cZ a u) s.heap.size x (-10000000) 10000000 c_6) (va_cwS 3 hts gX5_report_X5_in rfl rfl rfl (by decide +kernel) ⟨Nat.le_of_ble_eq_true rfl, Nat.le_of_ble_eq_true rfl⟩) hK hP hD rfl hl.1 rfl (Nat.le_of_ble_eq_true rfl) dX5_report_6 ⟨Nat.le_of_ble_eq_true rfl, Nat.le_of_ble_eq_true rfl⟩) hD hS hA (fun H locs hP hD hS => ?_)
    refine lv_if_ne (tgt := 16) hx hb dX5_report_9 (by decide) (fun c_9 => absurd (by decide) c_9) (fun c_9 => ?_)
    refine lv_iconst (v := 1) hx hb dX5_report_12 (by decide) ?_
    refine lv_goto (tgt := 43) hx hb dX5_report_13 (by decide) ?_
    exact absurd hthr (by first | (simp only [pg_t_report, c_6, cond_true, cond_false, Bool.not_true, Bool.not_false, Bool.cond_self]; done) | (simp only [pg_t_report, c_6, cond_true, cond_false, Bool.not_true, Bool.not_false, Bool.cond_self]; decide))
set_option maxHeartbeats 4000000 in
set_option maxRecDepth 100000 in
/-- cm_report: not fine -/
theorem cm_report_no (l : Launch) (D : va_G) (cI cZ : ClassId) (a : Nat → Nat) (sz : Nat) (u : pg_St) (n : Nat) (hn : u.1 10 = nI n) (h20 : n ≤ 20) (t : Nat) (ht : u.1 13 = nI t) (h4 : t ≤ 4) (hm : ∀ y : Nat, y < 4 → u.2 13 y = 0 ∨ u.2 13 y = 1) (x : Int32) (e9 : Int32) (hthr : pg_t_report (!pg_eq (u.1 14) 0) (!pg_eq (u.1 12) 0) (nI t) x = e9) (h0 : e9 ≠ 0) : Met l yX5_report wsX5_report ({ frames := 4, cells := 0, slots := 0, locals := 85 }) (va_Pc [.ref (a 0), .int x] (pg_B D (pg_ty cI cZ) (pg_wM cI cZ a u) sz)) (va_Qi (fun r u' => r = 0 ∧ u' = (upd u.1 15 e9, u.2)) (pg_E D (pg_ty cI cZ) (va_A (pg_wM cI cZ a u) sz) (pg_wM cI cZ a)) (va_A (pg_wM cI cZ a u) sz)) 0 0 (va_A (pg_wM cI cZ a u) sz) := by
  refine Met.ofW (cc := cX5_report) (maxL := 8) (ret := (some .int)) (by decide) rfl ?_
  intro p e s m args below meth c s₁ B hml hv
  obtain ⟨rfl, hsz, hP, hK, hD0⟩ := hv
  have hx := B.exec
  have hb := B.bytes
  have hr := B.returns
  have hts := atoms_spec (ws := wsX5_report) B.pre
  have hown : s.vm.findClass RX5 = some m.cls := findClass_of_methodNamed B.named
  have hlocks := B.notSynchronized
  subst hsz
  have hD := hD0.self (sz := s.heap.size)
  generalize hAe : va_A (pg_wM cI cZ a u) s.heap.size = A at hD ⊢
  have hA : ∀ q : Nat, s.heap.size ≤ q → A q := fun q h => by rw [← hAe]; exact Or.inr h
  have hS : va_S A s.heap s.heap [] := va_S.rf
  have hl := lv_entry ([.ref (a 0), .int x]) (n := 8) (Nat.le_of_ble_eq_true rfl)
  rw [lg_entry_eq]
  generalize (lg_sl ([.ref (a 0), .int x]) ++ List.replicate (8 - (lg_sl ([.ref (a 0), .int x])).length) Slot.unset).toArray = ls at hl ⊢
  have hl : lv_has ls 8 [(0, .ref (a 0)), (1, .int x)] := hl
  have hiX5 : ∀ w ∈ wsX50, w ∈ wsX5_report := fun _ h => List.mem_cons_of_mem _ (List.mem_append_right _ (h))
  have hw1 := hts (.constant RX5 65 (-10000000)) (List.mem_of_getElem? (i := 1) rfl)
  have hw2 := hts (.constant RX5 60 (10000000)) (List.mem_of_getElem? (i := 2) rfl)
  have hw3 := hts (.fieldLink RX5 66 "PegBoxModel" "closed" "Z") (List.mem_of_getElem? (i := 3) rfl)
  have hw4 := hts (.fieldLink RX5 132 "PegBoxModel" "told" "I") (List.mem_of_getElem? (i := 4) rfl)
  have hw5 := hts (.fieldLink RX5 135 "PegBoxModel" "sped" "Z") (List.mem_of_getElem? (i := 5) rfl)
  refine lv_aload_n hx hb dX5_report_0 rfl (lv_at hl 0 rfl) ?_
  refine lv_iload_n hx hb dX5_report_1 rfl (lv_at hl 1 rfl) ?_
  refine lv_ldc hx hb hown hw1 dX5_report_2 ?_
  refine lv_ldc hx hb hown hw2 dX5_report_4 ?_
  rcases Bool.eq_false_or_eq_true (pg_in x (-10000000) 10000000) with c_6 | c_6
  · refine pg_iE (pg_rS (As := [.int x, .int (-10000000), .int 10000000]) (rest := [.ref (a 0)]) ⟨hx, hb, hml, hown, hts⟩ (cm_in_t l D (pg_ty cI cZ) (pg_wM cI cZ a u) s.heap.size x (-10000000) 10000000 c_6) (va_cwS 3 hts gX5_report_X5_in rfl rfl rfl (by decide +kernel) ⟨Nat.le_of_ble_eq_true rfl, Nat.le_of_ble_eq_true rfl⟩) hK hP hD rfl hl.1 rfl (Nat.le_of_ble_eq_true rfl) dX5_report_6 ⟨Nat.le_of_ble_eq_true rfl, Nat.le_of_ble_eq_true rfl⟩) hD hS hA (fun H locs hP hD hS => ?_)
    refine lv_if_ne (tgt := 16) hx hb dX5_report_9 (by decide) (fun c_9 => ?_) (fun c_9 => absurd c_9 (by decide))
    refine lv_aload_n hx hb dX5_report_16 rfl (lv_at hl 0 rfl) ?_
    refine va_get (D := D) (ci := 5) (v := .int (u.1 14)) (C := RX5) (T := TX5) (N := 31) hx hb hts hiX5 hown hK hP 0 rfl rfl 13 (by decide) hw3 (fun _ h9 => h9) rfl dX5_report_17 ?_
    refine lv_if_eq (tgt := 38) hx hb dX5_report_20 (by decide) (fun c_20 => ?_) (fun c_20 => ?_)
    · have d_20 := pg_eq_t c_20
      refine lv_iconst (v := 2) hx hb dX5_report_38 (by decide) ?_
      refine lv_goto (tgt := 43) hx hb dX5_report_39 (by decide) ?_
      have he : e9 = 2 := hthr.symm.trans (by simp only [pg_t_report, c_6, d_20, cond_true, cond_false, Bool.not_true, Bool.not_false, Bool.cond_self])
      refine pg_iE (pg_rV (As := [.int 2]) (rest := []) ⟨hx, hb, hml, hown, hts⟩ (cm_fine1 l D cI cZ a H.size u 2 (by decide)) (cwV 1 hts gX5_report_X5_isFine rfl rfl rfl (by decide +kernel) ⟨Nat.le_of_ble_eq_true rfl, Nat.le_of_ble_eq_true rfl⟩) hK hP hD 0 (ci := 5) rfl rfl rfl rfl hl.1 rfl (Nat.le_of_ble_eq_true rfl) dX5_report_43 ⟨Nat.le_of_ble_eq_true rfl, Nat.le_of_ble_eq_true rfl⟩) hD hS hA (fun H locs hP hD hS => ?_)
      refine lv_if_ne (tgt := 51) hx hb dX5_report_46 (by decide) (fun c_46 => absurd (by decide) c_46) (fun c_46 => ?_)
      refine lv_iconst (v := 0) hx hb dX5_report_49 (by decide) ?_
      exact W.iret (v := 0) hx hb hr (fun t9 ht9 hW9 => ⟨⟨0, ((upd u.1 15 2), u.2), rfl, ⟨rfl, by rw [he]⟩, by rw [ht9]; exact hP, va_K.moved hW9.alike hK, hD⟩, hS.F ht9⟩) hS.2.2 dX5_report_50
    · have d_20 := pg_eq_f c_20
      refine lv_aload_n hx hb dX5_report_23 rfl (lv_at hl 0 rfl) ?_
      refine va_get (D := D) (ci := 5) (v := .int (u.1 13)) (C := RX5) (T := TX5) (N := 31) hx hb hts hiX5 hown hK hP 0 rfl rfl 28 (by decide) hw4 (fun _ h9 => h9) rfl dX5_report_24 ?_
      rw [ht]
      refine lv_iconst (v := 4) hx hb dX5_report_27 (by decide) ?_
      refine lv_icmp_eq (tgt := 38) hx hb dX5_report_28 (by decide) (fun c_28 => ?_) (fun c_28 => ?_)
      · have d_28 := (pg_eq4 h4).trans (pg_eq_t c_28)
        refine lv_iconst (v := 2) hx hb dX5_report_38 (by decide) ?_
        refine lv_goto (tgt := 43) hx hb dX5_report_39 (by decide) ?_
        have he : e9 = 2 := hthr.symm.trans (by simp only [pg_t_report, c_6, d_20, d_28, cond_true, cond_false, Bool.not_true, Bool.not_false, Bool.cond_self])
        refine pg_iE (pg_rV (As := [.int 2]) (rest := []) ⟨hx, hb, hml, hown, hts⟩ (cm_fine1 l D cI cZ a H.size u 2 (by decide)) (cwV 1 hts gX5_report_X5_isFine rfl rfl rfl (by decide +kernel) ⟨Nat.le_of_ble_eq_true rfl, Nat.le_of_ble_eq_true rfl⟩) hK hP hD 0 (ci := 5) rfl rfl rfl rfl hl.1 rfl (Nat.le_of_ble_eq_true rfl) dX5_report_43 ⟨Nat.le_of_ble_eq_true rfl, Nat.le_of_ble_eq_true rfl⟩) hD hS hA (fun H locs hP hD hS => ?_)
        refine lv_if_ne (tgt := 51) hx hb dX5_report_46 (by decide) (fun c_46 => absurd (by decide) c_46) (fun c_46 => ?_)
        refine lv_iconst (v := 0) hx hb dX5_report_49 (by decide) ?_
        exact W.iret (v := 0) hx hb hr (fun t9 ht9 hW9 => ⟨⟨0, ((upd u.1 15 2), u.2), rfl, ⟨rfl, by rw [he]⟩, by rw [ht9]; exact hP, va_K.moved hW9.alike hK, hD⟩, hS.F ht9⟩) hS.2.2 dX5_report_50
      · have d_28 := (pg_eq4 h4).trans (pg_eq_f c_28)
        refine lv_aload_n hx hb dX5_report_31 rfl (lv_at hl 0 rfl) ?_
        refine va_get (D := D) (ci := 5) (v := .int (u.1 12)) (C := RX5) (T := TX5) (N := 31) hx hb hts hiX5 hown hK hP 0 rfl rfl 29 (by decide) hw5 (fun _ h9 => h9) rfl dX5_report_32 ?_
        refine lv_if_eq (tgt := 42) hx hb dX5_report_35 (by decide) (fun c_35 => ?_) (fun c_35 => ?_)
        · have d_35 := pg_eq_t c_35
          refine lv_iconst (v := 0) hx hb dX5_report_42 (by decide) ?_
          exact absurd (hthr.symm.trans (by simp only [pg_t_report, c_6, d_20, d_28, d_35, cond_true, cond_false, Bool.not_true, Bool.not_false, Bool.cond_self])) h0
        · have d_35 := pg_eq_f c_35
          refine lv_iconst (v := 2) hx hb dX5_report_38 (by decide) ?_
          refine lv_goto (tgt := 43) hx hb dX5_report_39 (by decide) ?_
          have he : e9 = 2 := hthr.symm.trans (by simp only [pg_t_report, c_6, d_20, d_28, d_35, cond_true, cond_false, Bool.not_true, Bool.not_false, Bool.cond_self])
          refine pg_iE (pg_rV (As := [.int 2]) (rest := []) ⟨hx, hb, hml, hown, hts⟩ (cm_fine1 l D cI cZ a H.size u 2 (by decide)) (cwV 1 hts gX5_report_X5_isFine rfl rfl rfl (by decide +kernel) ⟨Nat.le_of_ble_eq_true rfl, Nat.le_of_ble_eq_true rfl⟩) hK hP hD 0 (ci := 5) rfl rfl rfl rfl hl.1 rfl (Nat.le_of_ble_eq_true rfl) dX5_report_43 ⟨Nat.le_of_ble_eq_true rfl, Nat.le_of_ble_eq_true rfl⟩) hD hS hA (fun H locs hP hD hS => ?_)
          refine lv_if_ne (tgt := 51) hx hb dX5_report_46 (by decide) (fun c_46 => absurd (by decide) c_46) (fun c_46 => ?_)
          refine lv_iconst (v := 0) hx hb dX5_report_49 (by decide) ?_
          exact W.iret (v := 0) hx hb hr (fun t9 ht9 hW9 => ⟨⟨0, ((upd u.1 15 2), u.2), rfl, ⟨rfl, by rw [he]⟩, by rw [ht9]; exact hP, va_K.moved hW9.alike hK, hD⟩, hS.F ht9⟩) hS.2.2 dX5_report_50
  · refine pg_iE (pg_rS (As := [.int x, .int (-10000000), .int 10000000]) (rest := [.ref (a 0)]) ⟨hx, hb, hml, hown, hts⟩ (cm_in_f l D (pg_ty cI cZ) (pg_wM cI cZ a u) s.heap.size x (-10000000) 10000000 c_6) (va_cwS 3 hts gX5_report_X5_in rfl rfl rfl (by decide +kernel) ⟨Nat.le_of_ble_eq_true rfl, Nat.le_of_ble_eq_true rfl⟩) hK hP hD rfl hl.1 rfl (Nat.le_of_ble_eq_true rfl) dX5_report_6 ⟨Nat.le_of_ble_eq_true rfl, Nat.le_of_ble_eq_true rfl⟩) hD hS hA (fun H locs hP hD hS => ?_)
    refine lv_if_ne (tgt := 16) hx hb dX5_report_9 (by decide) (fun c_9 => absurd (by decide) c_9) (fun c_9 => ?_)
    refine lv_iconst (v := 1) hx hb dX5_report_12 (by decide) ?_
    refine lv_goto (tgt := 43) hx hb dX5_report_13 (by decide) ?_
    have he : e9 = 1 := hthr.symm.trans (by simp only [pg_t_report, c_6, cond_true, cond_false, Bool.not_true, Bool.not_false, Bool.cond_self])
    refine pg_iE (pg_rV (As := [.int 1]) (rest := []) ⟨hx, hb, hml, hown, hts⟩ (cm_fine1 l D cI cZ a H.size u 1 (by decide)) (cwV 1 hts gX5_report_X5_isFine rfl rfl rfl (by decide +kernel) ⟨Nat.le_of_ble_eq_true rfl, Nat.le_of_ble_eq_true rfl⟩) hK hP hD 0 (ci := 5) rfl rfl rfl rfl hl.1 rfl (Nat.le_of_ble_eq_true rfl) dX5_report_43 ⟨Nat.le_of_ble_eq_true rfl, Nat.le_of_ble_eq_true rfl⟩) hD hS hA (fun H locs hP hD hS => ?_)
    refine lv_if_ne (tgt := 51) hx hb dX5_report_46 (by decide) (fun c_46 => absurd (by decide) c_46) (fun c_46 => ?_)
    refine lv_iconst (v := 0) hx hb dX5_report_49 (by decide) ?_
    exact W.iret (v := 0) hx hb hr (fun t9 ht9 hW9 => ⟨⟨0, ((upd u.1 15 1), u.2), rfl, ⟨rfl, by rw [he]⟩, by rw [ht9]; exact hP, va_K.moved hW9.alike hK, hD⟩, hS.F ht9⟩) hS.2.2 dX5_report_50
set_option maxHeartbeats 4000000 in
set_option maxRecDepth 100000 in
/-- cm_speedUp: fine -/
theorem cm_speedUp_ok (l : Launch) (D : va_G) (cI cZ : ClassId) (a : Nat → Nat) (sz : Nat) (u : pg_St) (n : Nat) (hn : u.1 10 = nI n) (h20 : n ≤ 20) (t : Nat) (ht : u.1 13 = nI t) (h4 : t ≤ 4) (hz : u.1 12 = 0 → ∀ y : Nat, t ≤ y → y < 4 → u.2 13 y = 0) (hthr : pg_t_speedUp (!pg_eq (u.1 14) 0) (!pg_eq (u.1 12) 0) = 0) : Met l yX5_speedUp wsX5_speedUp ({ frames := 4, cells := 0, slots := 0, locals := 85 }) (va_Pc [.ref (a 0)] (pg_B D (pg_ty cI cZ) (pg_wM cI cZ a u) sz)) (va_Qi (fun r u' => r = pg_msum u.2 t 4 ∧ u' = pg_owe (upd (upd u.1 15 0) 12 1, pg_row u.2 13 (pg_met u.2 t 4)) n (pg_msum u.2 t 4)) (pg_E D (pg_ty cI cZ) (va_A (pg_wM cI cZ a u) sz) (pg_wM cI cZ a)) (va_A (pg_wM cI cZ a u) sz)) 0 0 (va_A (pg_wM cI cZ a u) sz) := by
  refine Met.ofW (cc := cX5_speedUp) (maxL := 3) (ret := (some .int)) (by decide) rfl ?_
  intro p e s m args below meth c s₁ B hml hv
  obtain ⟨rfl, hsz, hP, hK, hD0⟩ := hv
  have hx := B.exec
  have hb := B.bytes
  have hr := B.returns
  have hts := atoms_spec (ws := wsX5_speedUp) B.pre
  have hown : s.vm.findClass RX5 = some m.cls := findClass_of_methodNamed B.named
  have hlocks := B.notSynchronized
  subst hsz
  have hD := hD0.self (sz := s.heap.size)
  generalize hAe : va_A (pg_wM cI cZ a u) s.heap.size = A at hD ⊢
  have hA : ∀ q : Nat, s.heap.size ≤ q → A q := fun q h => by rw [← hAe]; exact Or.inr h
  have hS : va_S A s.heap s.heap [] := va_S.rf
  have hl := lv_entry ([.ref (a 0)]) (n := 3) (Nat.le_of_ble_eq_true rfl)
  rw [lg_entry_eq]
  generalize (lg_sl ([.ref (a 0)]) ++ List.replicate (3 - (lg_sl ([.ref (a 0)])).length) Slot.unset).toArray = ls at hl ⊢
  have hl : lv_has ls 3 [(0, .ref (a 0))] := hl
  have hiX5 : ∀ w ∈ wsX50, w ∈ wsX5_speedUp := fun _ h => List.mem_cons_of_mem _ (List.mem_append_right _ (h))
  have hw1 := hts (.fieldLink RX5 66 "PegBoxModel" "closed" "Z") (List.mem_of_getElem? (i := 1) rfl)
  have hw2 := hts (.fieldLink RX5 135 "PegBoxModel" "sped" "Z") (List.mem_of_getElem? (i := 2) rfl)
  have hw3 := hts (.fieldLink RX5 132 "PegBoxModel" "told" "I") (List.mem_of_getElem? (i := 3) rfl)
  have hw4 := hts (.fieldLink RX5 53 "PegBoxModel" "met" "[Z") (List.mem_of_getElem? (i := 4) rfl)
  have hw5 := hts (.fieldLink RX5 35 "PegBoxModel" "yearAmount" "[I") (List.mem_of_getElem? (i := 5) rfl)
  refine lv_aload_n hx hb dX5_speedUp_0 rfl (lv_at hl 0 rfl) ?_
  refine lv_aload_n hx hb dX5_speedUp_1 rfl (lv_at hl 0 rfl) ?_
  refine va_get (D := D) (ci := 5) (v := .int (u.1 14)) (C := RX5) (T := TX5) (N := 31) hx hb hts hiX5 hown hK hP 0 rfl rfl 13 (by decide) hw1 (fun _ h9 => h9) rfl dX5_speedUp_2 ?_
  refine lv_if_eq (tgt := 15) hx hb dX5_speedUp_5 (by decide) (fun c_5 => ?_) (fun c_5 => ?_)
  · have d_5 := pg_eq_t c_5
    refine lv_iconst (v := 1) hx hb dX5_speedUp_15 (by decide) ?_
    refine lv_goto (tgt := 20) hx hb dX5_speedUp_16 (by decide) ?_
    exact absurd hthr (by first | (simp only [pg_t_speedUp, d_5, cond_true, cond_false, Bool.not_true, Bool.not_false]; done) | (simp only [pg_t_speedUp, d_5, cond_true, cond_false, Bool.not_true, Bool.not_false]; decide))
  · have d_5 := pg_eq_f c_5
    refine lv_aload_n hx hb dX5_speedUp_8 rfl (lv_at hl 0 rfl) ?_
    refine va_get (D := D) (ci := 5) (v := .int (u.1 12)) (C := RX5) (T := TX5) (N := 31) hx hb hts hiX5 hown hK hP 0 rfl rfl 29 (by decide) hw2 (fun _ h9 => h9) rfl dX5_speedUp_9 ?_
    refine lv_if_eq (tgt := 19) hx hb dX5_speedUp_12 (by decide) (fun c_12 => ?_) (fun c_12 => ?_)
    · have d_12 := pg_eq_t c_12
      refine lv_iconst (v := 0) hx hb dX5_speedUp_19 (by decide) ?_
      refine pg_iE (pg_rV (As := [.int 0]) (rest := []) ⟨hx, hb, hml, hown, hts⟩ (cm_fine0 l D cI cZ a s.heap.size u) (cwV 1 hts gX5_speedUp_X5_isFine rfl rfl rfl (by decide +kernel) ⟨Nat.le_of_ble_eq_true rfl, Nat.le_of_ble_eq_true rfl⟩) hK hP hD 0 (ci := 5) rfl rfl rfl rfl hl.1 rfl (Nat.le_of_ble_eq_true rfl) dX5_speedUp_20 ⟨Nat.le_of_ble_eq_true rfl, Nat.le_of_ble_eq_true rfl⟩) hD hS hA (fun H locs hP hD hS => ?_)
      refine lv_if_ne (tgt := 28) hx hb dX5_speedUp_23 (by decide) (fun c_23 => ?_) (fun c_23 => absurd c_23 (by decide))
      have hz : ∀ y : Nat, t ≤ y → y < 4 → u.2 13 y = 0 := hz (pg_eq_e d_12)
      refine lv_aload_n hx hb dX5_speedUp_28 rfl (lv_at hl 0 rfl) ?_
      refine lv_iconst (v := 1) hx hb dX5_speedUp_29 (by decide) ?_
      refine va_put (D := D) (ci := 5) (v := .int 1) (ty := .boolean) (C := RX5) (T := TX5) (N := 31) hx hb hts hiX5 tyX5 tyX5_ok nmX5 hown hK hP hD hS 0 rfl rfl 29 (by decide) hw2 (fun _ h9 => h9) rfl (by decide +kernel) rfl rfl (Nat.le_of_ble_eq_true rfl) dX5_speedUp_30 (fun H locs hP hD hS => ?_)
      have hP : va_P D vwCl (pg_wM cI cZ a ((upd (upd u.1 15 0) 12 1), u.2)) H := hP
      have hD : va_D A (pg_wM cI cZ a ((upd (upd u.1 15 0) 12 1), u.2)) := hD
      refine lv_iconst (v := 0) hx hb dX5_speedUp_33 (by decide) ?_
      refine lv_istore_n (lv' := [(1, .int 0), (0, .ref (a 0))]) hx hb dX5_speedUp_34 rfl hl (by decide) rfl (fun ls hl => ?_)
      refine lv_aload_n hx hb dX5_speedUp_35 rfl (lv_at hl 1 rfl) ?_
      refine va_get (D := D) (ci := 5) (v := .int (u.1 13)) (C := RX5) (T := TX5) (N := 31) hx hb hts hiX5 hown hK hP 0 rfl rfl 28 (by decide) hw3 (fun _ h9 => h9) rfl dX5_speedUp_36 ?_
      rw [ht]
      refine lv_istore_n (lv' := [(2, .int (nI t)), (1, .int 0), (0, .ref (a 0))]) hx hb dX5_speedUp_39 rfl hl (by decide) rfl (fun ls hl => ?_)
      have L40 : ∀ (k9 i : Nat) (x : Int32) (w9 : pg_St), i ≤ 4 → 4 < i + k9 → t ≤ i → x = pg_msum u.2 t i → w9 = (upd (upd u.1 15 0) 12 1, pg_row u.2 13 (pg_met u.2 t i)) → ∀ (H : Heap) (locs : List Loc), va_P D vwCl (pg_wM cI cZ a w9) H → va_D A (pg_wM cI cZ a w9) → va_S A s.heap H locs → ∀ ls : Array Slot, lv_has ls 3 [(2, .int (nI i)), (1, .int x), (0, .ref (a 0))] → W p l e (headSpec wsX5_speedUp ({ frames := 4, cells := 0, slots := 0, locals := 85 })).room s m ([.ref (a 0)] : List Value).toArray below meth c H locs 0 0 (MQ below (va_Qi (fun r u' => r = pg_msum u.2 t 4 ∧ u' = pg_owe (upd (upd u.1 15 0) 12 1, pg_row u.2 13 (pg_met u.2 t 4)) n (pg_msum u.2 t 4)) (pg_E D (pg_ty cI cZ) A (pg_wM cI cZ a)) A) ([.ref (a 0)] : List Value).toArray s 0 0 A) (F0 m 40 ls []) := by
        intro k9
        induction k9 with
        | zero => intro i x w9 h1 h2; exact absurd h2 (by omega)
        | succ k9 ih =>
          intro i x w9 hi9 hk9 hlo9 hx9 hw99 H locs hP hD hS ls hl
          subst hx9
          subst hw99
          refine lv_iload_n hx hb dX5_speedUp_40 rfl (lv_at hl 0 rfl) ?_
          refine lv_iconst (v := 4) hx hb dX5_speedUp_41 (by decide) ?_
          refine lv_icmp_ge (tgt := 67) hx hb dX5_speedUp_42 (by decide) (fun c_42 => ?_) (fun c_42 => ?_)
          · have hiN : i = 4 := pg_exit (rfl) (by decide) hi9 c_42
            subst hiN
            refine lv_aload_n hx hb dX5_speedUp_67 rfl (lv_at hl 2 rfl) ?_
            refine lv_iload_n hx hb dX5_speedUp_68 rfl (lv_at hl 1 rfl) ?_
            refine pg_iE (pg_rV (As := [.int (pg_msum u.2 t 4)]) (rest := []) ⟨hx, hb, hml, hown, hts⟩ (cm_owes l D cI cZ a H.size (upd (upd u.1 15 0) 12 1, pg_row u.2 13 (pg_met u.2 t 4)) n hn h20 (pg_msum u.2 t 4)) (cwV 1 hts gX5_speedUp_X5_owes rfl rfl rfl (by decide +kernel) ⟨Nat.le_of_ble_eq_true rfl, Nat.le_of_ble_eq_true rfl⟩) hK hP hD 0 (ci := 5) rfl rfl rfl rfl hl.1 rfl (Nat.le_of_ble_eq_true rfl) dX5_speedUp_69 ⟨Nat.le_of_ble_eq_true rfl, Nat.le_of_ble_eq_true rfl⟩) hD hS hA (fun H locs hP hD hS => ?_)
            exact W.iret (v := pg_msum u.2 t 4) hx hb hr (fun t9 ht9 hW9 => ⟨⟨pg_msum u.2 t 4, (pg_owe (upd (upd u.1 15 0) 12 1, pg_row u.2 13 (pg_met u.2 t 4)) n (pg_msum u.2 t 4)), rfl, ⟨rfl, rfl⟩, by rw [ht9]; exact hP, va_K.moved hW9.alike hK, hD⟩, hS.F ht9⟩) hS.2.2 dX5_speedUp_72
          · have hlt : i < 4 := pg_stay (rfl) (by omega) c_42
            refine lv_aload_n hx hb dX5_speedUp_45 rfl (lv_at hl 2 rfl) ?_
            refine va_get (D := D) (ci := 5) (v := .ref (a 14)) (C := RX5) (T := TX5) (N := 31) hx hb hts hiX5 hown hK hP 0 rfl rfl 27 (by decide) hw4 (fun _ h9 => h9) rfl dX5_speedUp_46 ?_
            refine lv_iload_n hx hb dX5_speedUp_49 rfl (lv_at hl 0 rfl) ?_
            refine lv_iconst (v := 1) hx hb dX5_speedUp_50 (by decide) ?_
            refine pg_zst hx hb hK hP hD hS 14 1 rfl rfl (show i < _ by omega) (by decide) rfl dX5_speedUp_51 (fun H locs hP hD hS => ?_)
            have hP : va_P D vwCl (pg_wM cI cZ a ((upd (upd u.1 15 0) 12 1), (pg_row (pg_row u.2 13 (pg_met u.2 t i)) 13 (upd ((pg_met u.2 t i)) i 1)))) H := hP
            have hD : va_D A (pg_wM cI cZ a ((upd (upd u.1 15 0) 12 1), (pg_row (pg_row u.2 13 (pg_met u.2 t i)) 13 (upd ((pg_met u.2 t i)) i 1)))) := hD
            refine lv_iload_n hx hb dX5_speedUp_52 rfl (lv_at hl 1 rfl) ?_
            refine lv_aload_n hx hb dX5_speedUp_53 rfl (lv_at hl 2 rfl) ?_
            refine va_get (D := D) (ci := 5) (v := .ref (a 13)) (C := RX5) (T := TX5) (N := 31) hx hb hts hiX5 hown hK hP 0 rfl rfl 11 (by decide) hw5 (fun _ h9 => h9) rfl dX5_speedUp_54 ?_
            refine lv_iload_n hx hb dX5_speedUp_57 rfl (lv_at hl 0 rfl) ?_
            refine pg_ild (f := u.2 12) hx hb hK hP 13 0 rfl rfl (show i < _ by omega) (by decide) dX5_speedUp_58 ?_
            refine lv_iadd hx hb dX5_speedUp_59 ?_
            refine lv_istore_n (lv' := [(1, .int ((pg_msum u.2 t i) + (u.2 12 i))), (2, .int (nI i)), (0, .ref (a 0))]) hx hb dX5_speedUp_60 rfl hl (by decide) rfl (fun ls hl => ?_)
            refine lv_iinc (v := nI (i + 1)) (lv' := [(2, .int (nI (i + 1))), (1, .int ((pg_msum u.2 t i) + (u.2 12 i))), (0, .ref (a 0))]) hx hb dX5_speedUp_61 hl (k := 1) rfl (by rw [nI_succ]; rfl) (by decide) rfl (fun ls hl => ?_)
            refine lv_goto (tgt := 40) hx hb dX5_speedUp_64 (by decide) ?_
            exact ih (i + 1) ((pg_msum u.2 t i) + (u.2 12 i)) ((upd (upd u.1 15 0) 12 1), (pg_row (pg_row u.2 13 (pg_met u.2 t i)) 13 (upd ((pg_met u.2 t i)) i 1))) (by omega) (by omega) (by omega) (pg_msum_a hlo9 (hz i hlo9 (by omega))) (by rw [pg_row_row, pg_met_w hlo9 (hz i hlo9 (by omega))]) _ _ hP hD hS ls (lv_sub hl [0, 1, 2] rfl)
      exact L40 (4 + 1) t 0 ((upd (upd u.1 15 0) 12 1), u.2) (by omega) (by omega) (by omega) (pg_msum_0 u.2 t).symm (by rw [pg_met_0, pg_row_self]) _ _ hP hD hS ls hl
    · have d_12 := pg_eq_f c_12
      refine lv_iconst (v := 1) hx hb dX5_speedUp_15 (by decide) ?_
      refine lv_goto (tgt := 20) hx hb dX5_speedUp_16 (by decide) ?_
      exact absurd hthr (by first | (simp only [pg_t_speedUp, d_5, d_12, cond_true, cond_false, Bool.not_true, Bool.not_false]; done) | (simp only [pg_t_speedUp, d_5, d_12, cond_true, cond_false, Bool.not_true, Bool.not_false]; decide))
set_option maxHeartbeats 4000000 in
set_option maxRecDepth 100000 in
/-- cm_speedUp: not fine -/
theorem cm_speedUp_no (l : Launch) (D : va_G) (cI cZ : ClassId) (a : Nat → Nat) (sz : Nat) (u : pg_St) (n : Nat) (hn : u.1 10 = nI n) (h20 : n ≤ 20) (t : Nat) (ht : u.1 13 = nI t) (h4 : t ≤ 4) (hz : u.1 12 = 0 → ∀ y : Nat, t ≤ y → y < 4 → u.2 13 y = 0) (e9 : Int32) (hthr : pg_t_speedUp (!pg_eq (u.1 14) 0) (!pg_eq (u.1 12) 0) = e9) (h0 : e9 ≠ 0) : Met l yX5_speedUp wsX5_speedUp ({ frames := 4, cells := 0, slots := 0, locals := 85 }) (va_Pc [.ref (a 0)] (pg_B D (pg_ty cI cZ) (pg_wM cI cZ a u) sz)) (va_Qi (fun r u' => r = 0 ∧ u' = (upd u.1 15 e9, u.2)) (pg_E D (pg_ty cI cZ) (va_A (pg_wM cI cZ a u) sz) (pg_wM cI cZ a)) (va_A (pg_wM cI cZ a u) sz)) 0 0 (va_A (pg_wM cI cZ a u) sz) := by
  refine Met.ofW (cc := cX5_speedUp) (maxL := 3) (ret := (some .int)) (by decide) rfl ?_
  intro p e s m args below meth c s₁ B hml hv
  obtain ⟨rfl, hsz, hP, hK, hD0⟩ := hv
  have hx := B.exec
  have hb := B.bytes
  have hr := B.returns
  have hts := atoms_spec (ws := wsX5_speedUp) B.pre
  have hown : s.vm.findClass RX5 = some m.cls := findClass_of_methodNamed B.named
  have hlocks := B.notSynchronized
  subst hsz
  have hD := hD0.self (sz := s.heap.size)
  generalize hAe : va_A (pg_wM cI cZ a u) s.heap.size = A at hD ⊢
  have hA : ∀ q : Nat, s.heap.size ≤ q → A q := fun q h => by rw [← hAe]; exact Or.inr h
  have hS : va_S A s.heap s.heap [] := va_S.rf
  have hl := lv_entry ([.ref (a 0)]) (n := 3) (Nat.le_of_ble_eq_true rfl)
  rw [lg_entry_eq]
  generalize (lg_sl ([.ref (a 0)]) ++ List.replicate (3 - (lg_sl ([.ref (a 0)])).length) Slot.unset).toArray = ls at hl ⊢
  have hl : lv_has ls 3 [(0, .ref (a 0))] := hl
  have hiX5 : ∀ w ∈ wsX50, w ∈ wsX5_speedUp := fun _ h => List.mem_cons_of_mem _ (List.mem_append_right _ (h))
  have hw1 := hts (.fieldLink RX5 66 "PegBoxModel" "closed" "Z") (List.mem_of_getElem? (i := 1) rfl)
  have hw2 := hts (.fieldLink RX5 135 "PegBoxModel" "sped" "Z") (List.mem_of_getElem? (i := 2) rfl)
  refine lv_aload_n hx hb dX5_speedUp_0 rfl (lv_at hl 0 rfl) ?_
  refine lv_aload_n hx hb dX5_speedUp_1 rfl (lv_at hl 0 rfl) ?_
  refine va_get (D := D) (ci := 5) (v := .int (u.1 14)) (C := RX5) (T := TX5) (N := 31) hx hb hts hiX5 hown hK hP 0 rfl rfl 13 (by decide) hw1 (fun _ h9 => h9) rfl dX5_speedUp_2 ?_
  refine lv_if_eq (tgt := 15) hx hb dX5_speedUp_5 (by decide) (fun c_5 => ?_) (fun c_5 => ?_)
  · have d_5 := pg_eq_t c_5
    refine lv_iconst (v := 1) hx hb dX5_speedUp_15 (by decide) ?_
    refine lv_goto (tgt := 20) hx hb dX5_speedUp_16 (by decide) ?_
    have he : e9 = 1 := hthr.symm.trans (by simp only [pg_t_speedUp, d_5, cond_true, cond_false, Bool.not_true, Bool.not_false])
    refine pg_iE (pg_rV (As := [.int 1]) (rest := []) ⟨hx, hb, hml, hown, hts⟩ (cm_fine1 l D cI cZ a s.heap.size u 1 (by decide)) (cwV 1 hts gX5_speedUp_X5_isFine rfl rfl rfl (by decide +kernel) ⟨Nat.le_of_ble_eq_true rfl, Nat.le_of_ble_eq_true rfl⟩) hK hP hD 0 (ci := 5) rfl rfl rfl rfl hl.1 rfl (Nat.le_of_ble_eq_true rfl) dX5_speedUp_20 ⟨Nat.le_of_ble_eq_true rfl, Nat.le_of_ble_eq_true rfl⟩) hD hS hA (fun H locs hP hD hS => ?_)
    refine lv_if_ne (tgt := 28) hx hb dX5_speedUp_23 (by decide) (fun c_23 => absurd (by decide) c_23) (fun c_23 => ?_)
    refine lv_iconst (v := 0) hx hb dX5_speedUp_26 (by decide) ?_
    exact W.iret (v := 0) hx hb hr (fun t9 ht9 hW9 => ⟨⟨0, ((upd u.1 15 1), u.2), rfl, ⟨rfl, by rw [he]⟩, by rw [ht9]; exact hP, va_K.moved hW9.alike hK, hD⟩, hS.F ht9⟩) hS.2.2 dX5_speedUp_27
  · have d_5 := pg_eq_f c_5
    refine lv_aload_n hx hb dX5_speedUp_8 rfl (lv_at hl 0 rfl) ?_
    refine va_get (D := D) (ci := 5) (v := .int (u.1 12)) (C := RX5) (T := TX5) (N := 31) hx hb hts hiX5 hown hK hP 0 rfl rfl 29 (by decide) hw2 (fun _ h9 => h9) rfl dX5_speedUp_9 ?_
    refine lv_if_eq (tgt := 19) hx hb dX5_speedUp_12 (by decide) (fun c_12 => ?_) (fun c_12 => ?_)
    · have d_12 := pg_eq_t c_12
      refine lv_iconst (v := 0) hx hb dX5_speedUp_19 (by decide) ?_
      exact absurd (hthr.symm.trans (by simp only [pg_t_speedUp, d_5, d_12, cond_true, cond_false, Bool.not_true, Bool.not_false])) h0
    · have d_12 := pg_eq_f c_12
      refine lv_iconst (v := 1) hx hb dX5_speedUp_15 (by decide) ?_
      refine lv_goto (tgt := 20) hx hb dX5_speedUp_16 (by decide) ?_
      have he : e9 = 1 := hthr.symm.trans (by simp only [pg_t_speedUp, d_5, d_12, cond_true, cond_false, Bool.not_true, Bool.not_false])
      refine pg_iE (pg_rV (As := [.int 1]) (rest := []) ⟨hx, hb, hml, hown, hts⟩ (cm_fine1 l D cI cZ a s.heap.size u 1 (by decide)) (cwV 1 hts gX5_speedUp_X5_isFine rfl rfl rfl (by decide +kernel) ⟨Nat.le_of_ble_eq_true rfl, Nat.le_of_ble_eq_true rfl⟩) hK hP hD 0 (ci := 5) rfl rfl rfl rfl hl.1 rfl (Nat.le_of_ble_eq_true rfl) dX5_speedUp_20 ⟨Nat.le_of_ble_eq_true rfl, Nat.le_of_ble_eq_true rfl⟩) hD hS hA (fun H locs hP hD hS => ?_)
      refine lv_if_ne (tgt := 28) hx hb dX5_speedUp_23 (by decide) (fun c_23 => absurd (by decide) c_23) (fun c_23 => ?_)
      refine lv_iconst (v := 0) hx hb dX5_speedUp_26 (by decide) ?_
      exact W.iret (v := 0) hx hb hr (fun t9 ht9 hW9 => ⟨⟨0, ((upd u.1 15 1), u.2), rfl, ⟨rfl, by rw [he]⟩, by rw [ht9]; exact hP, va_K.moved hW9.alike hK, hD⟩, hS.F ht9⟩) hS.2.2 dX5_speedUp_27
set_option maxHeartbeats 4000000 in
set_option maxRecDepth 100000 in
theorem cm_held (l : Launch) (D : va_G) (cI cZ : ClassId) (a : Nat → Nat) (sz : Nat) (u : pg_St) : Met l yX5_held wsX5_held ({ frames := 0, cells := 0, slots := 0, locals := 0 }) (va_Pc [.ref (a 0)] (pg_B D (pg_ty cI cZ) (pg_wM cI cZ a u) sz)) (va_Qi (fun r u' => r = u.1 5 ∧ u' = (upd u.1 15 0, u.2)) (pg_E D (pg_ty cI cZ) (va_A (pg_wM cI cZ a u) sz) (pg_wM cI cZ a)) (va_A (pg_wM cI cZ a u) sz)) 0 0 (va_A (pg_wM cI cZ a u) sz) := by
  refine Met.ofW (cc := cX5_held) (maxL := 1) (ret := (some .int)) (by decide) rfl ?_
  intro p e s m args below meth c s₁ B hml hv
  obtain ⟨rfl, hsz, hP, hK, hD0⟩ := hv
  have hx := B.exec
  have hb := B.bytes
  have hr := B.returns
  have hts := atoms_spec (ws := wsX5_held) B.pre
  have hown : s.vm.findClass RX5 = some m.cls := findClass_of_methodNamed B.named
  have hlocks := B.notSynchronized
  subst hsz
  have hD := hD0.self (sz := s.heap.size)
  generalize hAe : va_A (pg_wM cI cZ a u) s.heap.size = A at hD ⊢
  have hA : ∀ q : Nat, s.heap.size ≤ q → A q := fun q h => by rw [← hAe]; exact Or.inr h
  have hS : va_S A s.heap s.heap [] := va_S.rf
  have hl := lv_entry ([.ref (a 0)]) (n := 1) (Nat.le_of_ble_eq_true rfl)
  rw [lg_entry_eq]
  generalize (lg_sl ([.ref (a 0)]) ++ List.replicate (1 - (lg_sl ([.ref (a 0)])).length) Slot.unset).toArray = ls at hl ⊢
  have hl : lv_has ls 1 [(0, .ref (a 0))] := hl
  have hiX5 : ∀ w ∈ wsX50, w ∈ wsX5_held := fun _ h => List.mem_cons_of_mem _ (List.mem_append_right _ (h))
  have hw1 := hts (.fieldLink RX5 56 "PegBoxModel" "thrown" "I") (List.mem_of_getElem? (i := 1) rfl)
  have hw2 := hts (.fieldLink RX5 90 "PegBoxModel" "held" "I") (List.mem_of_getElem? (i := 2) rfl)
  refine lv_aload_n hx hb dX5_held_0 rfl (lv_at hl 0 rfl) ?_
  refine lv_iconst (v := 0) hx hb dX5_held_1 (by decide) ?_
  refine va_put (D := D) (ci := 5) (v := .int 0) (ty := .int) (C := RX5) (T := TX5) (N := 31) hx hb hts hiX5 tyX5 tyX5_ok nmX5 hown hK hP hD hS 0 rfl rfl 30 (by decide) hw1 (fun _ h9 => h9) rfl (by decide +kernel) rfl rfl (Nat.le_of_ble_eq_true rfl) dX5_held_2 (fun H locs hP hD hS => ?_)
  have hP : va_P D vwCl (pg_wM cI cZ a ((upd u.1 15 0), u.2)) H := hP
  have hD : va_D A (pg_wM cI cZ a ((upd u.1 15 0), u.2)) := hD
  refine lv_aload_n hx hb dX5_held_5 rfl (lv_at hl 0 rfl) ?_
  refine va_get (D := D) (ci := 5) (v := .int (u.1 5)) (C := RX5) (T := TX5) (N := 31) hx hb hts hiX5 hown hK hP 0 rfl rfl 16 (by decide) hw2 (fun _ h9 => h9) rfl dX5_held_6 ?_
  exact W.iret (v := u.1 5) hx hb hr (fun t9 ht9 hW9 => ⟨⟨u.1 5, ((upd u.1 15 0), u.2), rfl, ⟨rfl, rfl⟩, by rw [ht9]; exact hP, va_K.moved hW9.alike hK, hD⟩, hS.F ht9⟩) hS.2.2 dX5_held_9
set_option maxHeartbeats 4000000 in
set_option maxRecDepth 100000 in
theorem cm_paid (l : Launch) (D : va_G) (cI cZ : ClassId) (a : Nat → Nat) (sz : Nat) (u : pg_St) : Met l yX5_paid wsX5_paid ({ frames := 0, cells := 0, slots := 0, locals := 0 }) (va_Pc [.ref (a 0)] (pg_B D (pg_ty cI cZ) (pg_wM cI cZ a u) sz)) (va_Qi (fun r u' => r = u.1 6 ∧ u' = (upd u.1 15 0, u.2)) (pg_E D (pg_ty cI cZ) (va_A (pg_wM cI cZ a u) sz) (pg_wM cI cZ a)) (va_A (pg_wM cI cZ a u) sz)) 0 0 (va_A (pg_wM cI cZ a u) sz) := by
  refine Met.ofW (cc := cX5_paid) (maxL := 1) (ret := (some .int)) (by decide) rfl ?_
  intro p e s m args below meth c s₁ B hml hv
  obtain ⟨rfl, hsz, hP, hK, hD0⟩ := hv
  have hx := B.exec
  have hb := B.bytes
  have hr := B.returns
  have hts := atoms_spec (ws := wsX5_paid) B.pre
  have hown : s.vm.findClass RX5 = some m.cls := findClass_of_methodNamed B.named
  have hlocks := B.notSynchronized
  subst hsz
  have hD := hD0.self (sz := s.heap.size)
  generalize hAe : va_A (pg_wM cI cZ a u) s.heap.size = A at hD ⊢
  have hA : ∀ q : Nat, s.heap.size ≤ q → A q := fun q h => by rw [← hAe]; exact Or.inr h
  have hS : va_S A s.heap s.heap [] := va_S.rf
  have hl := lv_entry ([.ref (a 0)]) (n := 1) (Nat.le_of_ble_eq_true rfl)
  rw [lg_entry_eq]
  generalize (lg_sl ([.ref (a 0)]) ++ List.replicate (1 - (lg_sl ([.ref (a 0)])).length) Slot.unset).toArray = ls at hl ⊢
  have hl : lv_has ls 1 [(0, .ref (a 0))] := hl
  have hiX5 : ∀ w ∈ wsX50, w ∈ wsX5_paid := fun _ h => List.mem_cons_of_mem _ (List.mem_append_right _ (h))
  have hw1 := hts (.fieldLink RX5 56 "PegBoxModel" "thrown" "I") (List.mem_of_getElem? (i := 1) rfl)
  have hw2 := hts (.fieldLink RX5 93 "PegBoxModel" "paid" "I") (List.mem_of_getElem? (i := 2) rfl)
  refine lv_aload_n hx hb dX5_paid_0 rfl (lv_at hl 0 rfl) ?_
  refine lv_iconst (v := 0) hx hb dX5_paid_1 (by decide) ?_
  refine va_put (D := D) (ci := 5) (v := .int 0) (ty := .int) (C := RX5) (T := TX5) (N := 31) hx hb hts hiX5 tyX5 tyX5_ok nmX5 hown hK hP hD hS 0 rfl rfl 30 (by decide) hw1 (fun _ h9 => h9) rfl (by decide +kernel) rfl rfl (Nat.le_of_ble_eq_true rfl) dX5_paid_2 (fun H locs hP hD hS => ?_)
  have hP : va_P D vwCl (pg_wM cI cZ a ((upd u.1 15 0), u.2)) H := hP
  have hD : va_D A (pg_wM cI cZ a ((upd u.1 15 0), u.2)) := hD
  refine lv_aload_n hx hb dX5_paid_5 rfl (lv_at hl 0 rfl) ?_
  refine va_get (D := D) (ci := 5) (v := .int (u.1 6)) (C := RX5) (T := TX5) (N := 31) hx hb hts hiX5 hown hK hP 0 rfl rfl 17 (by decide) hw2 (fun _ h9 => h9) rfl dX5_paid_6 ?_
  exact W.iret (v := u.1 6) hx hb hr (fun t9 ht9 hW9 => ⟨⟨u.1 6, ((upd u.1 15 0), u.2), rfl, ⟨rfl, rfl⟩, by rw [ht9]; exact hP, va_K.moved hW9.alike hK, hD⟩, hS.F ht9⟩) hS.2.2 dX5_paid_9
set_option maxHeartbeats 4000000 in
set_option maxRecDepth 100000 in
theorem cm_returned (l : Launch) (D : va_G) (cI cZ : ClassId) (a : Nat → Nat) (sz : Nat) (u : pg_St) : Met l yX5_returned wsX5_returned ({ frames := 0, cells := 0, slots := 0, locals := 0 }) (va_Pc [.ref (a 0)] (pg_B D (pg_ty cI cZ) (pg_wM cI cZ a u) sz)) (va_Qi (fun r u' => r = u.1 7 ∧ u' = (upd u.1 15 0, u.2)) (pg_E D (pg_ty cI cZ) (va_A (pg_wM cI cZ a u) sz) (pg_wM cI cZ a)) (va_A (pg_wM cI cZ a u) sz)) 0 0 (va_A (pg_wM cI cZ a u) sz) := by
  refine Met.ofW (cc := cX5_returned) (maxL := 1) (ret := (some .int)) (by decide) rfl ?_
  intro p e s m args below meth c s₁ B hml hv
  obtain ⟨rfl, hsz, hP, hK, hD0⟩ := hv
  have hx := B.exec
  have hb := B.bytes
  have hr := B.returns
  have hts := atoms_spec (ws := wsX5_returned) B.pre
  have hown : s.vm.findClass RX5 = some m.cls := findClass_of_methodNamed B.named
  have hlocks := B.notSynchronized
  subst hsz
  have hD := hD0.self (sz := s.heap.size)
  generalize hAe : va_A (pg_wM cI cZ a u) s.heap.size = A at hD ⊢
  have hA : ∀ q : Nat, s.heap.size ≤ q → A q := fun q h => by rw [← hAe]; exact Or.inr h
  have hS : va_S A s.heap s.heap [] := va_S.rf
  have hl := lv_entry ([.ref (a 0)]) (n := 1) (Nat.le_of_ble_eq_true rfl)
  rw [lg_entry_eq]
  generalize (lg_sl ([.ref (a 0)]) ++ List.replicate (1 - (lg_sl ([.ref (a 0)])).length) Slot.unset).toArray = ls at hl ⊢
  have hl : lv_has ls 1 [(0, .ref (a 0))] := hl
  have hiX5 : ∀ w ∈ wsX50, w ∈ wsX5_returned := fun _ h => List.mem_cons_of_mem _ (List.mem_append_right _ (h))
  have hw1 := hts (.fieldLink RX5 56 "PegBoxModel" "thrown" "I") (List.mem_of_getElem? (i := 1) rfl)
  have hw2 := hts (.fieldLink RX5 116 "PegBoxModel" "returned" "I") (List.mem_of_getElem? (i := 2) rfl)
  refine lv_aload_n hx hb dX5_returned_0 rfl (lv_at hl 0 rfl) ?_
  refine lv_iconst (v := 0) hx hb dX5_returned_1 (by decide) ?_
  refine va_put (D := D) (ci := 5) (v := .int 0) (ty := .int) (C := RX5) (T := TX5) (N := 31) hx hb hts hiX5 tyX5 tyX5_ok nmX5 hown hK hP hD hS 0 rfl rfl 30 (by decide) hw1 (fun _ h9 => h9) rfl (by decide +kernel) rfl rfl (Nat.le_of_ble_eq_true rfl) dX5_returned_2 (fun H locs hP hD hS => ?_)
  have hP : va_P D vwCl (pg_wM cI cZ a ((upd u.1 15 0), u.2)) H := hP
  have hD : va_D A (pg_wM cI cZ a ((upd u.1 15 0), u.2)) := hD
  refine lv_aload_n hx hb dX5_returned_5 rfl (lv_at hl 0 rfl) ?_
  refine va_get (D := D) (ci := 5) (v := .int (u.1 7)) (C := RX5) (T := TX5) (N := 31) hx hb hts hiX5 hown hK hP 0 rfl rfl 18 (by decide) hw2 (fun _ h9 => h9) rfl dX5_returned_6 ?_
  exact W.iret (v := u.1 7) hx hb hr (fun t9 ht9 hW9 => ⟨⟨u.1 7, ((upd u.1 15 0), u.2), rfl, ⟨rfl, rfl⟩, by rw [ht9]; exact hP, va_K.moved hW9.alike hK, hD⟩, hS.F ht9⟩) hS.2.2 dX5_returned_9
set_option maxHeartbeats 4000000 in
set_option maxRecDepth 100000 in
theorem cm_setOff (l : Launch) (D : va_G) (cI cZ : ClassId) (a : Nat → Nat) (sz : Nat) (u : pg_St) : Met l yX5_setOff wsX5_setOff ({ frames := 0, cells := 0, slots := 0, locals := 0 }) (va_Pc [.ref (a 0)] (pg_B D (pg_ty cI cZ) (pg_wM cI cZ a u) sz)) (va_Qi (fun r u' => r = u.1 8 ∧ u' = (upd u.1 15 0, u.2)) (pg_E D (pg_ty cI cZ) (va_A (pg_wM cI cZ a u) sz) (pg_wM cI cZ a)) (va_A (pg_wM cI cZ a u) sz)) 0 0 (va_A (pg_wM cI cZ a u) sz) := by
  refine Met.ofW (cc := cX5_setOff) (maxL := 1) (ret := (some .int)) (by decide) rfl ?_
  intro p e s m args below meth c s₁ B hml hv
  obtain ⟨rfl, hsz, hP, hK, hD0⟩ := hv
  have hx := B.exec
  have hb := B.bytes
  have hr := B.returns
  have hts := atoms_spec (ws := wsX5_setOff) B.pre
  have hown : s.vm.findClass RX5 = some m.cls := findClass_of_methodNamed B.named
  have hlocks := B.notSynchronized
  subst hsz
  have hD := hD0.self (sz := s.heap.size)
  generalize hAe : va_A (pg_wM cI cZ a u) s.heap.size = A at hD ⊢
  have hA : ∀ q : Nat, s.heap.size ≤ q → A q := fun q h => by rw [← hAe]; exact Or.inr h
  have hS : va_S A s.heap s.heap [] := va_S.rf
  have hl := lv_entry ([.ref (a 0)]) (n := 1) (Nat.le_of_ble_eq_true rfl)
  rw [lg_entry_eq]
  generalize (lg_sl ([.ref (a 0)]) ++ List.replicate (1 - (lg_sl ([.ref (a 0)])).length) Slot.unset).toArray = ls at hl ⊢
  have hl : lv_has ls 1 [(0, .ref (a 0))] := hl
  have hiX5 : ∀ w ∈ wsX50, w ∈ wsX5_setOff := fun _ h => List.mem_cons_of_mem _ (List.mem_append_right _ (h))
  have hw1 := hts (.fieldLink RX5 56 "PegBoxModel" "thrown" "I") (List.mem_of_getElem? (i := 1) rfl)
  have hw2 := hts (.fieldLink RX5 119 "PegBoxModel" "setOff" "I") (List.mem_of_getElem? (i := 2) rfl)
  refine lv_aload_n hx hb dX5_setOff_0 rfl (lv_at hl 0 rfl) ?_
  refine lv_iconst (v := 0) hx hb dX5_setOff_1 (by decide) ?_
  refine va_put (D := D) (ci := 5) (v := .int 0) (ty := .int) (C := RX5) (T := TX5) (N := 31) hx hb hts hiX5 tyX5 tyX5_ok nmX5 hown hK hP hD hS 0 rfl rfl 30 (by decide) hw1 (fun _ h9 => h9) rfl (by decide +kernel) rfl rfl (Nat.le_of_ble_eq_true rfl) dX5_setOff_2 (fun H locs hP hD hS => ?_)
  have hP : va_P D vwCl (pg_wM cI cZ a ((upd u.1 15 0), u.2)) H := hP
  have hD : va_D A (pg_wM cI cZ a ((upd u.1 15 0), u.2)) := hD
  refine lv_aload_n hx hb dX5_setOff_5 rfl (lv_at hl 0 rfl) ?_
  refine va_get (D := D) (ci := 5) (v := .int (u.1 8)) (C := RX5) (T := TX5) (N := 31) hx hb hts hiX5 hown hK hP 0 rfl rfl 19 (by decide) hw2 (fun _ h9 => h9) rfl dX5_setOff_6 ?_
  exact W.iret (v := u.1 8) hx hb hr (fun t9 ht9 hW9 => ⟨⟨u.1 8, ((upd u.1 15 0), u.2), rfl, ⟨rfl, rfl⟩, by rw [ht9]; exact hP, va_K.moved hW9.alike hK, hD⟩, hS.F ht9⟩) hS.2.2 dX5_setOff_9
set_option maxHeartbeats 4000000 in
set_option maxRecDepth 100000 in
theorem cm_owed (l : Launch) (D : va_G) (cI cZ : ClassId) (a : Nat → Nat) (sz : Nat) (u : pg_St) : Met l yX5_owed wsX5_owed ({ frames := 0, cells := 0, slots := 0, locals := 0 }) (va_Pc [.ref (a 0)] (pg_B D (pg_ty cI cZ) (pg_wM cI cZ a u) sz)) (va_Qi (fun r u' => r = u.1 9 ∧ u' = (upd u.1 15 0, u.2)) (pg_E D (pg_ty cI cZ) (va_A (pg_wM cI cZ a u) sz) (pg_wM cI cZ a)) (va_A (pg_wM cI cZ a u) sz)) 0 0 (va_A (pg_wM cI cZ a u) sz) := by
  refine Met.ofW (cc := cX5_owed) (maxL := 1) (ret := (some .int)) (by decide) rfl ?_
  intro p e s m args below meth c s₁ B hml hv
  obtain ⟨rfl, hsz, hP, hK, hD0⟩ := hv
  have hx := B.exec
  have hb := B.bytes
  have hr := B.returns
  have hts := atoms_spec (ws := wsX5_owed) B.pre
  have hown : s.vm.findClass RX5 = some m.cls := findClass_of_methodNamed B.named
  have hlocks := B.notSynchronized
  subst hsz
  have hD := hD0.self (sz := s.heap.size)
  generalize hAe : va_A (pg_wM cI cZ a u) s.heap.size = A at hD ⊢
  have hA : ∀ q : Nat, s.heap.size ≤ q → A q := fun q h => by rw [← hAe]; exact Or.inr h
  have hS : va_S A s.heap s.heap [] := va_S.rf
  have hl := lv_entry ([.ref (a 0)]) (n := 1) (Nat.le_of_ble_eq_true rfl)
  rw [lg_entry_eq]
  generalize (lg_sl ([.ref (a 0)]) ++ List.replicate (1 - (lg_sl ([.ref (a 0)])).length) Slot.unset).toArray = ls at hl ⊢
  have hl : lv_has ls 1 [(0, .ref (a 0))] := hl
  have hiX5 : ∀ w ∈ wsX50, w ∈ wsX5_owed := fun _ h => List.mem_cons_of_mem _ (List.mem_append_right _ (h))
  have hw1 := hts (.fieldLink RX5 56 "PegBoxModel" "thrown" "I") (List.mem_of_getElem? (i := 1) rfl)
  have hw2 := hts (.fieldLink RX5 129 "PegBoxModel" "owed" "I") (List.mem_of_getElem? (i := 2) rfl)
  refine lv_aload_n hx hb dX5_owed_0 rfl (lv_at hl 0 rfl) ?_
  refine lv_iconst (v := 0) hx hb dX5_owed_1 (by decide) ?_
  refine va_put (D := D) (ci := 5) (v := .int 0) (ty := .int) (C := RX5) (T := TX5) (N := 31) hx hb hts hiX5 tyX5 tyX5_ok nmX5 hown hK hP hD hS 0 rfl rfl 30 (by decide) hw1 (fun _ h9 => h9) rfl (by decide +kernel) rfl rfl (Nat.le_of_ble_eq_true rfl) dX5_owed_2 (fun H locs hP hD hS => ?_)
  have hP : va_P D vwCl (pg_wM cI cZ a ((upd u.1 15 0), u.2)) H := hP
  have hD : va_D A (pg_wM cI cZ a ((upd u.1 15 0), u.2)) := hD
  refine lv_aload_n hx hb dX5_owed_5 rfl (lv_at hl 0 rfl) ?_
  refine va_get (D := D) (ci := 5) (v := .int (u.1 9)) (C := RX5) (T := TX5) (N := 31) hx hb hts hiX5 hown hK hP 0 rfl rfl 20 (by decide) hw2 (fun _ h9 => h9) rfl dX5_owed_6 ?_
  exact W.iret (v := u.1 9) hx hb hr (fun t9 ht9 hW9 => ⟨⟨u.1 9, ((upd u.1 15 0), u.2), rfl, ⟨rfl, rfl⟩, by rw [ht9]; exact hP, va_K.moved hW9.alike hK, hD⟩, hS.F ht9⟩) hS.2.2 dX5_owed_9
set_option maxHeartbeats 4000000 in
set_option maxRecDepth 100000 in
theorem cm_claims (l : Launch) (D : va_G) (cI cZ : ClassId) (a : Nat → Nat) (sz : Nat) (u : pg_St) : Met l yX5_claims wsX5_claims ({ frames := 0, cells := 0, slots := 0, locals := 0 }) (va_Pc [.ref (a 0)] (pg_B D (pg_ty cI cZ) (pg_wM cI cZ a u) sz)) (va_Qi (fun r u' => r = u.1 10 ∧ u' = (upd u.1 15 0, u.2)) (pg_E D (pg_ty cI cZ) (va_A (pg_wM cI cZ a u) sz) (pg_wM cI cZ a)) (va_A (pg_wM cI cZ a u) sz)) 0 0 (va_A (pg_wM cI cZ a u) sz) := by
  refine Met.ofW (cc := cX5_claims) (maxL := 1) (ret := (some .int)) (by decide) rfl ?_
  intro p e s m args below meth c s₁ B hml hv
  obtain ⟨rfl, hsz, hP, hK, hD0⟩ := hv
  have hx := B.exec
  have hb := B.bytes
  have hr := B.returns
  have hts := atoms_spec (ws := wsX5_claims) B.pre
  have hown : s.vm.findClass RX5 = some m.cls := findClass_of_methodNamed B.named
  have hlocks := B.notSynchronized
  subst hsz
  have hD := hD0.self (sz := s.heap.size)
  generalize hAe : va_A (pg_wM cI cZ a u) s.heap.size = A at hD ⊢
  have hA : ∀ q : Nat, s.heap.size ≤ q → A q := fun q h => by rw [← hAe]; exact Or.inr h
  have hS : va_S A s.heap s.heap [] := va_S.rf
  have hl := lv_entry ([.ref (a 0)]) (n := 1) (Nat.le_of_ble_eq_true rfl)
  rw [lg_entry_eq]
  generalize (lg_sl ([.ref (a 0)]) ++ List.replicate (1 - (lg_sl ([.ref (a 0)])).length) Slot.unset).toArray = ls at hl ⊢
  have hl : lv_has ls 1 [(0, .ref (a 0))] := hl
  have hiX5 : ∀ w ∈ wsX50, w ∈ wsX5_claims := fun _ h => List.mem_cons_of_mem _ (List.mem_append_right _ (h))
  have hw1 := hts (.fieldLink RX5 56 "PegBoxModel" "thrown" "I") (List.mem_of_getElem? (i := 1) rfl)
  have hw2 := hts (.fieldLink RX5 99 "PegBoxModel" "claims" "I") (List.mem_of_getElem? (i := 2) rfl)
  refine lv_aload_n hx hb dX5_claims_0 rfl (lv_at hl 0 rfl) ?_
  refine lv_iconst (v := 0) hx hb dX5_claims_1 (by decide) ?_
  refine va_put (D := D) (ci := 5) (v := .int 0) (ty := .int) (C := RX5) (T := TX5) (N := 31) hx hb hts hiX5 tyX5 tyX5_ok nmX5 hown hK hP hD hS 0 rfl rfl 30 (by decide) hw1 (fun _ h9 => h9) rfl (by decide +kernel) rfl rfl (Nat.le_of_ble_eq_true rfl) dX5_claims_2 (fun H locs hP hD hS => ?_)
  have hP : va_P D vwCl (pg_wM cI cZ a ((upd u.1 15 0), u.2)) H := hP
  have hD : va_D A (pg_wM cI cZ a ((upd u.1 15 0), u.2)) := hD
  refine lv_aload_n hx hb dX5_claims_5 rfl (lv_at hl 0 rfl) ?_
  refine va_get (D := D) (ci := 5) (v := .int (u.1 10)) (C := RX5) (T := TX5) (N := 31) hx hb hts hiX5 hown hK hP 0 rfl rfl 25 (by decide) hw2 (fun _ h9 => h9) rfl dX5_claims_6 ?_
  exact W.iret (v := u.1 10) hx hb hr (fun t9 ht9 hW9 => ⟨⟨u.1 10, ((upd u.1 15 0), u.2), rfl, ⟨rfl, rfl⟩, by rw [ht9]; exact hP, va_K.moved hW9.alike hK, hD⟩, hS.F ht9⟩) hS.2.2 dX5_claims_9
set_option maxHeartbeats 4000000 in
set_option maxRecDepth 100000 in
theorem cm_day (l : Launch) (D : va_G) (cI cZ : ClassId) (a : Nat → Nat) (sz : Nat) (u : pg_St) : Met l yX5_day wsX5_day ({ frames := 0, cells := 0, slots := 0, locals := 0 }) (va_Pc [.ref (a 0)] (pg_B D (pg_ty cI cZ) (pg_wM cI cZ a u) sz)) (va_Qi (fun r u' => r = (if u.1 14 = 0 then -1 else u.1 3) ∧ u' = (upd u.1 15 0, u.2)) (pg_E D (pg_ty cI cZ) (va_A (pg_wM cI cZ a u) sz) (pg_wM cI cZ a)) (va_A (pg_wM cI cZ a u) sz)) 0 0 (va_A (pg_wM cI cZ a u) sz) := by
  refine Met.ofW (cc := cX5_day) (maxL := 1) (ret := (some .int)) (by decide) rfl ?_
  intro p e s m args below meth c s₁ B hml hv
  obtain ⟨rfl, hsz, hP, hK, hD0⟩ := hv
  have hx := B.exec
  have hb := B.bytes
  have hr := B.returns
  have hts := atoms_spec (ws := wsX5_day) B.pre
  have hown : s.vm.findClass RX5 = some m.cls := findClass_of_methodNamed B.named
  have hlocks := B.notSynchronized
  subst hsz
  have hD := hD0.self (sz := s.heap.size)
  generalize hAe : va_A (pg_wM cI cZ a u) s.heap.size = A at hD ⊢
  have hA : ∀ q : Nat, s.heap.size ≤ q → A q := fun q h => by rw [← hAe]; exact Or.inr h
  have hS : va_S A s.heap s.heap [] := va_S.rf
  have hl := lv_entry ([.ref (a 0)]) (n := 1) (Nat.le_of_ble_eq_true rfl)
  rw [lg_entry_eq]
  generalize (lg_sl ([.ref (a 0)]) ++ List.replicate (1 - (lg_sl ([.ref (a 0)])).length) Slot.unset).toArray = ls at hl ⊢
  have hl : lv_has ls 1 [(0, .ref (a 0))] := hl
  have hiX5 : ∀ w ∈ wsX50, w ∈ wsX5_day := fun _ h => List.mem_cons_of_mem _ (List.mem_append_right _ (h))
  have hw1 := hts (.fieldLink RX5 56 "PegBoxModel" "thrown" "I") (List.mem_of_getElem? (i := 1) rfl)
  have hw2 := hts (.fieldLink RX5 66 "PegBoxModel" "closed" "Z") (List.mem_of_getElem? (i := 2) rfl)
  have hw3 := hts (.fieldLink RX5 96 "PegBoxModel" "day" "I") (List.mem_of_getElem? (i := 3) rfl)
  refine lv_aload_n hx hb dX5_day_0 rfl (lv_at hl 0 rfl) ?_
  refine lv_iconst (v := 0) hx hb dX5_day_1 (by decide) ?_
  refine va_put (D := D) (ci := 5) (v := .int 0) (ty := .int) (C := RX5) (T := TX5) (N := 31) hx hb hts hiX5 tyX5 tyX5_ok nmX5 hown hK hP hD hS 0 rfl rfl 30 (by decide) hw1 (fun _ h9 => h9) rfl (by decide +kernel) rfl rfl (Nat.le_of_ble_eq_true rfl) dX5_day_2 (fun H locs hP hD hS => ?_)
  have hP : va_P D vwCl (pg_wM cI cZ a ((upd u.1 15 0), u.2)) H := hP
  have hD : va_D A (pg_wM cI cZ a ((upd u.1 15 0), u.2)) := hD
  refine lv_aload_n hx hb dX5_day_5 rfl (lv_at hl 0 rfl) ?_
  refine va_get (D := D) (ci := 5) (v := .int (u.1 14)) (C := RX5) (T := TX5) (N := 31) hx hb hts hiX5 hown hK hP 0 rfl rfl 13 (by decide) hw2 (fun _ h9 => h9) rfl dX5_day_6 ?_
  refine lv_if_eq (tgt := 19) hx hb dX5_day_9 (by decide) (fun c_9 => ?_) (fun c_9 => ?_)
  · refine lv_iconst (v := (-1)) hx hb dX5_day_19 (by decide) ?_
    exact W.iret (v := (-1)) hx hb hr (fun t9 ht9 hW9 => ⟨⟨(-1), ((upd u.1 15 0), u.2), rfl, ⟨by rw [if_pos c_9], rfl⟩, by rw [ht9]; exact hP, va_K.moved hW9.alike hK, hD⟩, hS.F ht9⟩) hS.2.2 dX5_day_20
  · refine lv_aload_n hx hb dX5_day_12 rfl (lv_at hl 0 rfl) ?_
    refine va_get (D := D) (ci := 5) (v := .int (u.1 3)) (C := RX5) (T := TX5) (N := 31) hx hb hts hiX5 hown hK hP 0 rfl rfl 14 (by decide) hw3 (fun _ h9 => h9) rfl dX5_day_13 ?_
    refine lv_goto (tgt := 20) hx hb dX5_day_16 (by decide) ?_
    exact W.iret (v := u.1 3) hx hb hr (fun t9 ht9 hW9 => ⟨⟨u.1 3, ((upd u.1 15 0), u.2), rfl, ⟨by rw [if_neg c_9], rfl⟩, by rw [ht9]; exact hP, va_K.moved hW9.alike hK, hD⟩, hS.F ht9⟩) hS.2.2 dX5_day_20
set_option maxHeartbeats 4000000 in
set_option maxRecDepth 100000 in
theorem cm_finalPrice (l : Launch) (D : va_G) (cI cZ : ClassId) (a : Nat → Nat) (sz : Nat) (u : pg_St) : Met l yX5_finalPrice wsX5_finalPrice ({ frames := 0, cells := 0, slots := 0, locals := 0 }) (va_Pc [.ref (a 0)] (pg_B D (pg_ty cI cZ) (pg_wM cI cZ a u) sz)) (va_Qi (fun r u' => r = (if u.1 14 = 0 then -1 else u.1 4) ∧ u' = (upd u.1 15 0, u.2)) (pg_E D (pg_ty cI cZ) (va_A (pg_wM cI cZ a u) sz) (pg_wM cI cZ a)) (va_A (pg_wM cI cZ a u) sz)) 0 0 (va_A (pg_wM cI cZ a u) sz) := by
  refine Met.ofW (cc := cX5_finalPrice) (maxL := 1) (ret := (some .int)) (by decide) rfl ?_
  intro p e s m args below meth c s₁ B hml hv
  obtain ⟨rfl, hsz, hP, hK, hD0⟩ := hv
  have hx := B.exec
  have hb := B.bytes
  have hr := B.returns
  have hts := atoms_spec (ws := wsX5_finalPrice) B.pre
  have hown : s.vm.findClass RX5 = some m.cls := findClass_of_methodNamed B.named
  have hlocks := B.notSynchronized
  subst hsz
  have hD := hD0.self (sz := s.heap.size)
  generalize hAe : va_A (pg_wM cI cZ a u) s.heap.size = A at hD ⊢
  have hA : ∀ q : Nat, s.heap.size ≤ q → A q := fun q h => by rw [← hAe]; exact Or.inr h
  have hS : va_S A s.heap s.heap [] := va_S.rf
  have hl := lv_entry ([.ref (a 0)]) (n := 1) (Nat.le_of_ble_eq_true rfl)
  rw [lg_entry_eq]
  generalize (lg_sl ([.ref (a 0)]) ++ List.replicate (1 - (lg_sl ([.ref (a 0)])).length) Slot.unset).toArray = ls at hl ⊢
  have hl : lv_has ls 1 [(0, .ref (a 0))] := hl
  have hiX5 : ∀ w ∈ wsX50, w ∈ wsX5_finalPrice := fun _ h => List.mem_cons_of_mem _ (List.mem_append_right _ (h))
  have hw1 := hts (.fieldLink RX5 56 "PegBoxModel" "thrown" "I") (List.mem_of_getElem? (i := 1) rfl)
  have hw2 := hts (.fieldLink RX5 66 "PegBoxModel" "closed" "Z") (List.mem_of_getElem? (i := 2) rfl)
  have hw3 := hts (.fieldLink RX5 87 "PegBoxModel" "finals" "I") (List.mem_of_getElem? (i := 3) rfl)
  refine lv_aload_n hx hb dX5_finalPrice_0 rfl (lv_at hl 0 rfl) ?_
  refine lv_iconst (v := 0) hx hb dX5_finalPrice_1 (by decide) ?_
  refine va_put (D := D) (ci := 5) (v := .int 0) (ty := .int) (C := RX5) (T := TX5) (N := 31) hx hb hts hiX5 tyX5 tyX5_ok nmX5 hown hK hP hD hS 0 rfl rfl 30 (by decide) hw1 (fun _ h9 => h9) rfl (by decide +kernel) rfl rfl (Nat.le_of_ble_eq_true rfl) dX5_finalPrice_2 (fun H locs hP hD hS => ?_)
  have hP : va_P D vwCl (pg_wM cI cZ a ((upd u.1 15 0), u.2)) H := hP
  have hD : va_D A (pg_wM cI cZ a ((upd u.1 15 0), u.2)) := hD
  refine lv_aload_n hx hb dX5_finalPrice_5 rfl (lv_at hl 0 rfl) ?_
  refine va_get (D := D) (ci := 5) (v := .int (u.1 14)) (C := RX5) (T := TX5) (N := 31) hx hb hts hiX5 hown hK hP 0 rfl rfl 13 (by decide) hw2 (fun _ h9 => h9) rfl dX5_finalPrice_6 ?_
  refine lv_if_eq (tgt := 19) hx hb dX5_finalPrice_9 (by decide) (fun c_9 => ?_) (fun c_9 => ?_)
  · refine lv_iconst (v := (-1)) hx hb dX5_finalPrice_19 (by decide) ?_
    exact W.iret (v := (-1)) hx hb hr (fun t9 ht9 hW9 => ⟨⟨(-1), ((upd u.1 15 0), u.2), rfl, ⟨by rw [if_pos c_9], rfl⟩, by rw [ht9]; exact hP, va_K.moved hW9.alike hK, hD⟩, hS.F ht9⟩) hS.2.2 dX5_finalPrice_20
  · refine lv_aload_n hx hb dX5_finalPrice_12 rfl (lv_at hl 0 rfl) ?_
    refine va_get (D := D) (ci := 5) (v := .int (u.1 4)) (C := RX5) (T := TX5) (N := 31) hx hb hts hiX5 hown hK hP 0 rfl rfl 15 (by decide) hw3 (fun _ h9 => h9) rfl dX5_finalPrice_13 ?_
    refine lv_goto (tgt := 20) hx hb dX5_finalPrice_16 (by decide) ?_
    exact W.iret (v := u.1 4) hx hb hr (fun t9 ht9 hW9 => ⟨⟨u.1 4, ((upd u.1 15 0), u.2), rfl, ⟨by rw [if_neg c_9], rfl⟩, by rw [ht9]; exact hP, va_K.moved hW9.alike hK, hD⟩, hS.F ht9⟩) hS.2.2 dX5_finalPrice_20
set_option maxHeartbeats 4000000 in
set_option maxRecDepth 100000 in
theorem cm_due (l : Launch) (D : va_G) (cI cZ : ClassId) (a : Nat → Nat) (sz : Nat) (u : pg_St) (n : Nat) (hn : u.1 10 = nI n) (h20 : n ≤ 20) : Met l yX5_due wsX5_due ({ frames := 2, cells := 0, slots := 0, locals := 43 }) (va_Pc [.ref (a 0)] (pg_B D (pg_ty cI cZ) (pg_wM cI cZ a u) sz)) (va_Qi (fun r u' => r = pg_all u.2 n ∧ u' = (upd u.1 15 0, u.2)) (pg_E D (pg_ty cI cZ) (va_A (pg_wM cI cZ a u) sz) (pg_wM cI cZ a)) (va_A (pg_wM cI cZ a u) sz)) 0 0 (va_A (pg_wM cI cZ a u) sz) := by
  refine Met.ofW (cc := cX5_due) (maxL := 1) (ret := (some .int)) (by decide) rfl ?_
  intro p e s m args below meth c s₁ B hml hv
  obtain ⟨rfl, hsz, hP, hK, hD0⟩ := hv
  have hx := B.exec
  have hb := B.bytes
  have hr := B.returns
  have hts := atoms_spec (ws := wsX5_due) B.pre
  have hown : s.vm.findClass RX5 = some m.cls := findClass_of_methodNamed B.named
  have hlocks := B.notSynchronized
  subst hsz
  have hD := hD0.self (sz := s.heap.size)
  generalize hAe : va_A (pg_wM cI cZ a u) s.heap.size = A at hD ⊢
  have hA : ∀ q : Nat, s.heap.size ≤ q → A q := fun q h => by rw [← hAe]; exact Or.inr h
  have hS : va_S A s.heap s.heap [] := va_S.rf
  have hl := lv_entry ([.ref (a 0)]) (n := 1) (Nat.le_of_ble_eq_true rfl)
  rw [lg_entry_eq]
  generalize (lg_sl ([.ref (a 0)]) ++ List.replicate (1 - (lg_sl ([.ref (a 0)])).length) Slot.unset).toArray = ls at hl ⊢
  have hl : lv_has ls 1 [(0, .ref (a 0))] := hl
  have hiX5 : ∀ w ∈ wsX50, w ∈ wsX5_due := fun _ h => List.mem_cons_of_mem _ (List.mem_append_right _ (h))
  have hw1 := hts (.fieldLink RX5 56 "PegBoxModel" "thrown" "I") (List.mem_of_getElem? (i := 1) rfl)
  refine lv_aload_n hx hb dX5_due_0 rfl (lv_at hl 0 rfl) ?_
  refine lv_iconst (v := 0) hx hb dX5_due_1 (by decide) ?_
  refine va_put (D := D) (ci := 5) (v := .int 0) (ty := .int) (C := RX5) (T := TX5) (N := 31) hx hb hts hiX5 tyX5 tyX5_ok nmX5 hown hK hP hD hS 0 rfl rfl 30 (by decide) hw1 (fun _ h9 => h9) rfl (by decide +kernel) rfl rfl (Nat.le_of_ble_eq_true rfl) dX5_due_2 (fun H locs hP hD hS => ?_)
  have hP : va_P D vwCl (pg_wM cI cZ a ((upd u.1 15 0), u.2)) H := hP
  have hD : va_D A (pg_wM cI cZ a ((upd u.1 15 0), u.2)) := hD
  refine lv_aload_n hx hb dX5_due_5 rfl (lv_at hl 0 rfl) ?_
  refine pg_iE (pg_rV (As := []) (rest := []) ⟨hx, hb, hml, hown, hts⟩ (cm_dueAll l D cI cZ a H.size ((upd u.1 15 0), u.2) n hn h20) (cwV 0 hts gX5_due_X5_dueAll rfl rfl rfl (by decide +kernel) ⟨Nat.le_of_ble_eq_true rfl, Nat.le_of_ble_eq_true rfl⟩) hK hP hD 0 (ci := 5) rfl rfl rfl rfl hl.1 rfl (Nat.le_of_ble_eq_true rfl) dX5_due_6 ⟨Nat.le_of_ble_eq_true rfl, Nat.le_of_ble_eq_true rfl⟩) hD hS hA (fun H locs hP hD hS => ?_)
  exact W.iret (v := pg_all u.2 n) hx hb hr (fun t9 ht9 hW9 => ⟨⟨pg_all u.2 n, ((upd u.1 15 0), u.2), rfl, ⟨rfl, rfl⟩, by rw [ht9]; exact hP, va_K.moved hW9.alike hK, hD⟩, hS.F ht9⟩) hS.2.2 dX5_due_9
set_option maxHeartbeats 4000000 in
set_option maxRecDepth 100000 in
theorem cm_outstanding (l : Launch) (D : va_G) (cI cZ : ClassId) (a : Nat → Nat) (sz : Nat) (u : pg_St) (n : Nat) (hn : u.1 10 = nI n) (h20 : n ≤ 20) : Met l yX5_outstanding wsX5_outstanding ({ frames := 3, cells := 0, slots := 0, locals := 63 }) (va_Pc [.ref (a 0)] (pg_B D (pg_ty cI cZ) (pg_wM cI cZ a u) sz)) (va_Qi (fun r u' => r = pg_out u n ∧ u' = (upd u.1 15 0, u.2)) (pg_E D (pg_ty cI cZ) (va_A (pg_wM cI cZ a u) sz) (pg_wM cI cZ a)) (va_A (pg_wM cI cZ a u) sz)) 0 0 (va_A (pg_wM cI cZ a u) sz) := by
  refine Met.ofW (cc := cX5_outstanding) (maxL := 1) (ret := (some .int)) (by decide) rfl ?_
  intro p e s m args below meth c s₁ B hml hv
  obtain ⟨rfl, hsz, hP, hK, hD0⟩ := hv
  have hx := B.exec
  have hb := B.bytes
  have hr := B.returns
  have hts := atoms_spec (ws := wsX5_outstanding) B.pre
  have hown : s.vm.findClass RX5 = some m.cls := findClass_of_methodNamed B.named
  have hlocks := B.notSynchronized
  subst hsz
  have hD := hD0.self (sz := s.heap.size)
  generalize hAe : va_A (pg_wM cI cZ a u) s.heap.size = A at hD ⊢
  have hA : ∀ q : Nat, s.heap.size ≤ q → A q := fun q h => by rw [← hAe]; exact Or.inr h
  have hS : va_S A s.heap s.heap [] := va_S.rf
  have hl := lv_entry ([.ref (a 0)]) (n := 1) (Nat.le_of_ble_eq_true rfl)
  rw [lg_entry_eq]
  generalize (lg_sl ([.ref (a 0)]) ++ List.replicate (1 - (lg_sl ([.ref (a 0)])).length) Slot.unset).toArray = ls at hl ⊢
  have hl : lv_has ls 1 [(0, .ref (a 0))] := hl
  have hiX5 : ∀ w ∈ wsX50, w ∈ wsX5_outstanding := fun _ h => List.mem_cons_of_mem _ (List.mem_append_right _ (h))
  have hw1 := hts (.fieldLink RX5 56 "PegBoxModel" "thrown" "I") (List.mem_of_getElem? (i := 1) rfl)
  refine lv_aload_n hx hb dX5_outstanding_0 rfl (lv_at hl 0 rfl) ?_
  refine lv_iconst (v := 0) hx hb dX5_outstanding_1 (by decide) ?_
  refine va_put (D := D) (ci := 5) (v := .int 0) (ty := .int) (C := RX5) (T := TX5) (N := 31) hx hb hts hiX5 tyX5 tyX5_ok nmX5 hown hK hP hD hS 0 rfl rfl 30 (by decide) hw1 (fun _ h9 => h9) rfl (by decide +kernel) rfl rfl (Nat.le_of_ble_eq_true rfl) dX5_outstanding_2 (fun H locs hP hD hS => ?_)
  have hP : va_P D vwCl (pg_wM cI cZ a ((upd u.1 15 0), u.2)) H := hP
  have hD : va_D A (pg_wM cI cZ a ((upd u.1 15 0), u.2)) := hD
  refine lv_aload_n hx hb dX5_outstanding_5 rfl (lv_at hl 0 rfl) ?_
  refine pg_iE (pg_rV (As := []) (rest := []) ⟨hx, hb, hml, hown, hts⟩ (cm_open l D cI cZ a H.size ((upd u.1 15 0), u.2) n hn h20) (cwV 0 hts gX5_outstanding_X5_open rfl rfl rfl (by decide +kernel) ⟨Nat.le_of_ble_eq_true rfl, Nat.le_of_ble_eq_true rfl⟩) hK hP hD 0 (ci := 5) rfl rfl rfl rfl hl.1 rfl (Nat.le_of_ble_eq_true rfl) dX5_outstanding_6 ⟨Nat.le_of_ble_eq_true rfl, Nat.le_of_ble_eq_true rfl⟩) hD hS hA (fun H locs hP hD hS => ?_)
  exact W.iret (v := pg_out u n) hx hb hr (fun t9 ht9 hW9 => ⟨⟨pg_out u n, ((upd u.1 15 0), u.2), rfl, ⟨rfl, rfl⟩, by rw [ht9]; exact hP, va_K.moved hW9.alike hK, hD⟩, hS.F ht9⟩) hS.2.2 dX5_outstanding_9
set_option maxHeartbeats 4000000 in
set_option maxRecDepth 100000 in
/-- cm_dueOf: fine -/
theorem cm_dueOf_ok (l : Launch) (D : va_G) (cI cZ : ClassId) (a : Nat → Nat) (sz : Nat) (u : pg_St) (n : Nat) (hn : u.1 10 = nI n) (h20 : n ≤ 20) (k : Int32) (hthr : pg_t_num k 3 = 0) : Met l yX5_dueOf wsX5_dueOf ({ frames := 1, cells := 0, slots := 0, locals := 23 }) (va_Pc [.ref (a 0), .int k] (pg_B D (pg_ty cI cZ) (pg_wM cI cZ a u) sz)) (va_Qi (fun r u' => r = pg_due u.2 n k.toNatClampNeg ∧ u' = (upd u.1 15 0, u.2)) (pg_E D (pg_ty cI cZ) (va_A (pg_wM cI cZ a u) sz) (pg_wM cI cZ a)) (va_A (pg_wM cI cZ a u) sz)) 0 0 (va_A (pg_wM cI cZ a u) sz) := by
  refine Met.ofW (cc := cX5_dueOf) (maxL := 2) (ret := (some .int)) (by decide) rfl ?_
  intro p e s m args below meth c s₁ B hml hv
  obtain ⟨rfl, hsz, hP, hK, hD0⟩ := hv
  have hx := B.exec
  have hb := B.bytes
  have hr := B.returns
  have hts := atoms_spec (ws := wsX5_dueOf) B.pre
  have hown : s.vm.findClass RX5 = some m.cls := findClass_of_methodNamed B.named
  have hlocks := B.notSynchronized
  subst hsz
  have hD := hD0.self (sz := s.heap.size)
  generalize hAe : va_A (pg_wM cI cZ a u) s.heap.size = A at hD ⊢
  have hA : ∀ q : Nat, s.heap.size ≤ q → A q := fun q h => by rw [← hAe]; exact Or.inr h
  have hS : va_S A s.heap s.heap [] := va_S.rf
  have hl := lv_entry ([.ref (a 0), .int k]) (n := 2) (Nat.le_of_ble_eq_true rfl)
  rw [lg_entry_eq]
  generalize (lg_sl ([.ref (a 0), .int k]) ++ List.replicate (2 - (lg_sl ([.ref (a 0), .int k])).length) Slot.unset).toArray = ls at hl ⊢
  have hl : lv_has ls 2 [(0, .ref (a 0)), (1, .int k)] := hl
  refine lv_aload_n hx hb dX5_dueOf_0 rfl (lv_at hl 0 rfl) ?_
  refine lv_iload_n hx hb dX5_dueOf_1 rfl (lv_at hl 1 rfl) ?_
  refine lv_iconst (v := 0) hx hb dX5_dueOf_2 (by decide) ?_
  refine lv_iconst (v := 2) hx hb dX5_dueOf_3 (by decide) ?_
  rcases Bool.eq_false_or_eq_true (pg_in k 0 2) with c_4 | c_4
  · have d_4 : pg_nb k 3 = true := (pg_nb3 k).trans c_4
    refine pg_iE (pg_rS (As := [.int k, .int 0, .int 2]) (rest := [.ref (a 0)]) ⟨hx, hb, hml, hown, hts⟩ (cm_in_t l D (pg_ty cI cZ) (pg_wM cI cZ a u) s.heap.size k 0 2 c_4) (va_cwS 3 hts gX5_dueOf_X5_in rfl rfl rfl (by decide +kernel) ⟨Nat.le_of_ble_eq_true rfl, Nat.le_of_ble_eq_true rfl⟩) hK hP hD rfl hl.1 rfl (Nat.le_of_ble_eq_true rfl) dX5_dueOf_4 ⟨Nat.le_of_ble_eq_true rfl, Nat.le_of_ble_eq_true rfl⟩) hD hS hA (fun H locs hP hD hS => ?_)
    obtain ⟨j, hj, rfl⟩ := pg_nb_nI (n := 3) (by omega) d_4
    have hcl : (nI j).toNatClampNeg = j := nI_clamp (by omega)
    refine lv_if_eq (tgt := 14) hx hb dX5_dueOf_7 (by decide) (fun c_7 => absurd c_7 (by decide)) (fun c_7 => ?_)
    refine lv_iconst (v := 0) hx hb dX5_dueOf_10 (by decide) ?_
    refine lv_goto (tgt := 15) hx hb dX5_dueOf_11 (by decide) ?_
    refine pg_iE (pg_rV (As := [.int 0]) (rest := []) ⟨hx, hb, hml, hown, hts⟩ (cm_fine0 l D cI cZ a H.size u) (cwV 1 hts gX5_dueOf_X5_isFine rfl rfl rfl (by decide +kernel) ⟨Nat.le_of_ble_eq_true rfl, Nat.le_of_ble_eq_true rfl⟩) hK hP hD 0 (ci := 5) rfl rfl rfl rfl hl.1 rfl (Nat.le_of_ble_eq_true rfl) dX5_dueOf_15 ⟨Nat.le_of_ble_eq_true rfl, Nat.le_of_ble_eq_true rfl⟩) hD hS hA (fun H locs hP hD hS => ?_)
    refine lv_if_eq (tgt := 29) hx hb dX5_dueOf_18 (by decide) (fun c_18 => absurd c_18 (by decide)) (fun c_18 => ?_)
    refine lv_aload_n hx hb dX5_dueOf_21 rfl (lv_at hl 0 rfl) ?_
    refine lv_iload_n hx hb dX5_dueOf_22 rfl (lv_at hl 1 rfl) ?_
    refine pg_iE (pg_rV (As := [.int (nI j)]) (rest := []) ⟨hx, hb, hml, hown, hts⟩ (cm_dueFor l D cI cZ a H.size ((upd u.1 15 0), u.2) n hn h20 j hj) (cwV 1 hts gX5_dueOf_X5_dueFor rfl rfl rfl (by decide +kernel) ⟨Nat.le_of_ble_eq_true rfl, Nat.le_of_ble_eq_true rfl⟩) hK hP hD 0 (ci := 5) rfl rfl rfl rfl hl.1 rfl (Nat.le_of_ble_eq_true rfl) dX5_dueOf_23 ⟨Nat.le_of_ble_eq_true rfl, Nat.le_of_ble_eq_true rfl⟩) hD hS hA (fun H locs hP hD hS => ?_)
    refine lv_goto (tgt := 30) hx hb dX5_dueOf_26 (by decide) ?_
    exact W.iret (v := pg_due u.2 n j) hx hb hr (fun t9 ht9 hW9 => ⟨⟨pg_due u.2 n j, ((upd u.1 15 0), u.2), rfl, ⟨by rw [hcl], rfl⟩, by rw [ht9]; exact hP, va_K.moved hW9.alike hK, hD⟩, hS.F ht9⟩) hS.2.2 dX5_dueOf_30
  · have d_4 : pg_nb k 3 = false := (pg_nb3 k).trans c_4
    refine pg_iE (pg_rS (As := [.int k, .int 0, .int 2]) (rest := [.ref (a 0)]) ⟨hx, hb, hml, hown, hts⟩ (cm_in_f l D (pg_ty cI cZ) (pg_wM cI cZ a u) s.heap.size k 0 2 c_4) (va_cwS 3 hts gX5_dueOf_X5_in rfl rfl rfl (by decide +kernel) ⟨Nat.le_of_ble_eq_true rfl, Nat.le_of_ble_eq_true rfl⟩) hK hP hD rfl hl.1 rfl (Nat.le_of_ble_eq_true rfl) dX5_dueOf_4 ⟨Nat.le_of_ble_eq_true rfl, Nat.le_of_ble_eq_true rfl⟩) hD hS hA (fun H locs hP hD hS => ?_)
    refine lv_if_eq (tgt := 14) hx hb dX5_dueOf_7 (by decide) (fun c_7 => ?_) (fun c_7 => absurd (by decide) c_7)
    refine lv_iconst (v := 1) hx hb dX5_dueOf_14 (by decide) ?_
    exact absurd hthr (by first | (simp only [pg_t_num, d_4, cond_true, cond_false, Bool.not_true, Bool.not_false]; done) | (simp only [pg_t_num, d_4, cond_true, cond_false, Bool.not_true, Bool.not_false]; decide))
set_option maxHeartbeats 4000000 in
set_option maxRecDepth 100000 in
/-- cm_dueOf: not fine -/
theorem cm_dueOf_no (l : Launch) (D : va_G) (cI cZ : ClassId) (a : Nat → Nat) (sz : Nat) (u : pg_St) (n : Nat) (hn : u.1 10 = nI n) (h20 : n ≤ 20) (k : Int32) (e9 : Int32) (hthr : pg_t_num k 3 = e9) (h0 : e9 ≠ 0) : Met l yX5_dueOf wsX5_dueOf ({ frames := 1, cells := 0, slots := 0, locals := 23 }) (va_Pc [.ref (a 0), .int k] (pg_B D (pg_ty cI cZ) (pg_wM cI cZ a u) sz)) (va_Qi (fun r u' => r = 0 ∧ u' = (upd u.1 15 e9, u.2)) (pg_E D (pg_ty cI cZ) (va_A (pg_wM cI cZ a u) sz) (pg_wM cI cZ a)) (va_A (pg_wM cI cZ a u) sz)) 0 0 (va_A (pg_wM cI cZ a u) sz) := by
  refine Met.ofW (cc := cX5_dueOf) (maxL := 2) (ret := (some .int)) (by decide) rfl ?_
  intro p e s m args below meth c s₁ B hml hv
  obtain ⟨rfl, hsz, hP, hK, hD0⟩ := hv
  have hx := B.exec
  have hb := B.bytes
  have hr := B.returns
  have hts := atoms_spec (ws := wsX5_dueOf) B.pre
  have hown : s.vm.findClass RX5 = some m.cls := findClass_of_methodNamed B.named
  have hlocks := B.notSynchronized
  subst hsz
  have hD := hD0.self (sz := s.heap.size)
  generalize hAe : va_A (pg_wM cI cZ a u) s.heap.size = A at hD ⊢
  have hA : ∀ q : Nat, s.heap.size ≤ q → A q := fun q h => by rw [← hAe]; exact Or.inr h
  have hS : va_S A s.heap s.heap [] := va_S.rf
  have hl := lv_entry ([.ref (a 0), .int k]) (n := 2) (Nat.le_of_ble_eq_true rfl)
  rw [lg_entry_eq]
  generalize (lg_sl ([.ref (a 0), .int k]) ++ List.replicate (2 - (lg_sl ([.ref (a 0), .int k])).length) Slot.unset).toArray = ls at hl ⊢
  have hl : lv_has ls 2 [(0, .ref (a 0)), (1, .int k)] := hl
  refine lv_aload_n hx hb dX5_dueOf_0 rfl (lv_at hl 0 rfl) ?_
  refine lv_iload_n hx hb dX5_dueOf_1 rfl (lv_at hl 1 rfl) ?_
  refine lv_iconst (v := 0) hx hb dX5_dueOf_2 (by decide) ?_
  refine lv_iconst (v := 2) hx hb dX5_dueOf_3 (by decide) ?_
  rcases Bool.eq_false_or_eq_true (pg_in k 0 2) with c_4 | c_4
  · have d_4 : pg_nb k 3 = true := (pg_nb3 k).trans c_4
    refine pg_iE (pg_rS (As := [.int k, .int 0, .int 2]) (rest := [.ref (a 0)]) ⟨hx, hb, hml, hown, hts⟩ (cm_in_t l D (pg_ty cI cZ) (pg_wM cI cZ a u) s.heap.size k 0 2 c_4) (va_cwS 3 hts gX5_dueOf_X5_in rfl rfl rfl (by decide +kernel) ⟨Nat.le_of_ble_eq_true rfl, Nat.le_of_ble_eq_true rfl⟩) hK hP hD rfl hl.1 rfl (Nat.le_of_ble_eq_true rfl) dX5_dueOf_4 ⟨Nat.le_of_ble_eq_true rfl, Nat.le_of_ble_eq_true rfl⟩) hD hS hA (fun H locs hP hD hS => ?_)
    obtain ⟨j, hj, rfl⟩ := pg_nb_nI (n := 3) (by omega) d_4
    have hcl : (nI j).toNatClampNeg = j := nI_clamp (by omega)
    refine lv_if_eq (tgt := 14) hx hb dX5_dueOf_7 (by decide) (fun c_7 => absurd c_7 (by decide)) (fun c_7 => ?_)
    refine lv_iconst (v := 0) hx hb dX5_dueOf_10 (by decide) ?_
    refine lv_goto (tgt := 15) hx hb dX5_dueOf_11 (by decide) ?_
    exact absurd (hthr.symm.trans (by simp only [pg_t_num, d_4, hcl, cond_true, cond_false, Bool.not_true, Bool.not_false])) h0
  · have d_4 : pg_nb k 3 = false := (pg_nb3 k).trans c_4
    refine pg_iE (pg_rS (As := [.int k, .int 0, .int 2]) (rest := [.ref (a 0)]) ⟨hx, hb, hml, hown, hts⟩ (cm_in_f l D (pg_ty cI cZ) (pg_wM cI cZ a u) s.heap.size k 0 2 c_4) (va_cwS 3 hts gX5_dueOf_X5_in rfl rfl rfl (by decide +kernel) ⟨Nat.le_of_ble_eq_true rfl, Nat.le_of_ble_eq_true rfl⟩) hK hP hD rfl hl.1 rfl (Nat.le_of_ble_eq_true rfl) dX5_dueOf_4 ⟨Nat.le_of_ble_eq_true rfl, Nat.le_of_ble_eq_true rfl⟩) hD hS hA (fun H locs hP hD hS => ?_)
    refine lv_if_eq (tgt := 14) hx hb dX5_dueOf_7 (by decide) (fun c_7 => ?_) (fun c_7 => absurd (by decide) c_7)
    refine lv_iconst (v := 1) hx hb dX5_dueOf_14 (by decide) ?_
    have he : e9 = 1 := hthr.symm.trans (by simp only [pg_t_num, d_4, cond_true, cond_false, Bool.not_true, Bool.not_false])
    refine pg_iE (pg_rV (As := [.int 1]) (rest := []) ⟨hx, hb, hml, hown, hts⟩ (cm_fine1 l D cI cZ a H.size u 1 (by decide)) (cwV 1 hts gX5_dueOf_X5_isFine rfl rfl rfl (by decide +kernel) ⟨Nat.le_of_ble_eq_true rfl, Nat.le_of_ble_eq_true rfl⟩) hK hP hD 0 (ci := 5) rfl rfl rfl rfl hl.1 rfl (Nat.le_of_ble_eq_true rfl) dX5_dueOf_15 ⟨Nat.le_of_ble_eq_true rfl, Nat.le_of_ble_eq_true rfl⟩) hD hS hA (fun H locs hP hD hS => ?_)
    refine lv_if_eq (tgt := 29) hx hb dX5_dueOf_18 (by decide) (fun c_18 => ?_) (fun c_18 => absurd (by decide) c_18)
    refine lv_iconst (v := 0) hx hb dX5_dueOf_29 (by decide) ?_
    exact W.iret (v := 0) hx hb hr (fun t9 ht9 hW9 => ⟨⟨0, ((upd u.1 15 1), u.2), rfl, ⟨rfl, by rw [he]⟩, by rw [ht9]; exact hP, va_K.moved hW9.alike hK, hD⟩, hS.F ht9⟩) hS.2.2 dX5_dueOf_30
set_option maxHeartbeats 4000000 in
set_option maxRecDepth 100000 in
/-- cm_settledAt: fine -/
theorem cm_settledAt_ok (l : Launch) (D : va_G) (cI cZ : ClassId) (a : Nat → Nat) (sz : Nat) (u : pg_St) (n : Nat) (hn : u.1 10 = nI n) (h20 : n ≤ 20) (k : Int32) (hthr : pg_t_num k (nI n) = 0) : Met l yX5_settledAt wsX5_settledAt ({ frames := 2, cells := 0, slots := 0, locals := 43 }) (va_Pc [.ref (a 0), .int k] (pg_B D (pg_ty cI cZ) (pg_wM cI cZ a u) sz)) (va_Qi (fun r u' => r = u.2 10 k.toNatClampNeg ∧ u' = (upd u.1 15 0, u.2)) (pg_E D (pg_ty cI cZ) (va_A (pg_wM cI cZ a u) sz) (pg_wM cI cZ a)) (va_A (pg_wM cI cZ a u) sz)) 0 0 (va_A (pg_wM cI cZ a u) sz) := by
  refine Met.ofW (cc := cX5_settledAt) (maxL := 2) (ret := (some .int)) (by decide) rfl ?_
  intro p e s m args below meth c s₁ B hml hv
  obtain ⟨rfl, hsz, hP, hK, hD0⟩ := hv
  have hx := B.exec
  have hb := B.bytes
  have hr := B.returns
  have hts := atoms_spec (ws := wsX5_settledAt) B.pre
  have hown : s.vm.findClass RX5 = some m.cls := findClass_of_methodNamed B.named
  have hlocks := B.notSynchronized
  subst hsz
  have hD := hD0.self (sz := s.heap.size)
  generalize hAe : va_A (pg_wM cI cZ a u) s.heap.size = A at hD ⊢
  have hA : ∀ q : Nat, s.heap.size ≤ q → A q := fun q h => by rw [← hAe]; exact Or.inr h
  have hS : va_S A s.heap s.heap [] := va_S.rf
  have hl := lv_entry ([.ref (a 0), .int k]) (n := 2) (Nat.le_of_ble_eq_true rfl)
  rw [lg_entry_eq]
  generalize (lg_sl ([.ref (a 0), .int k]) ++ List.replicate (2 - (lg_sl ([.ref (a 0), .int k])).length) Slot.unset).toArray = ls at hl ⊢
  have hl : lv_has ls 2 [(0, .ref (a 0)), (1, .int k)] := hl
  have hiX5 : ∀ w ∈ wsX50, w ∈ wsX5_settledAt := fun _ h => List.mem_cons_of_mem _ (List.mem_append_right _ (h))
  have hw1 := hts (.fieldLink RX5 47 "PegBoxModel" "settled" "[I") (List.mem_of_getElem? (i := 1) rfl)
  refine lv_aload_n hx hb dX5_settledAt_0 rfl (lv_at hl 0 rfl) ?_
  refine lv_aload_n hx hb dX5_settledAt_1 rfl (lv_at hl 0 rfl) ?_
  refine lv_iload_n hx hb dX5_settledAt_2 rfl (lv_at hl 1 rfl) ?_
  rcases Bool.eq_false_or_eq_true (pg_nb k (nI n)) with c_3 | c_3
  · refine pg_iE (pg_rV (As := [.int k]) (rest := [.ref (a 0)]) ⟨hx, hb, hml, hown, hts⟩ (cm_isClaim_t l D cI cZ a s.heap.size u n hn h20 k c_3) (cwV 1 hts gX5_settledAt_X5_isClaim rfl rfl rfl (by decide +kernel) ⟨Nat.le_of_ble_eq_true rfl, Nat.le_of_ble_eq_true rfl⟩) hK hP hD 0 (ci := 5) rfl rfl rfl rfl hl.1 rfl (Nat.le_of_ble_eq_true rfl) dX5_settledAt_3 ⟨Nat.le_of_ble_eq_true rfl, Nat.le_of_ble_eq_true rfl⟩) hD hS hA (fun H locs hP hD hS => ?_)
    obtain ⟨j, hj, rfl⟩ := pg_nb_nI (n := n) (by omega) c_3
    have hcl : (nI j).toNatClampNeg = j := nI_clamp (by omega)
    refine lv_if_eq (tgt := 13) hx hb dX5_settledAt_6 (by decide) (fun c_6 => absurd c_6 (by decide)) (fun c_6 => ?_)
    refine lv_iconst (v := 0) hx hb dX5_settledAt_9 (by decide) ?_
    refine lv_goto (tgt := 14) hx hb dX5_settledAt_10 (by decide) ?_
    refine pg_iE (pg_rV (As := [.int 0]) (rest := []) ⟨hx, hb, hml, hown, hts⟩ (cm_fine0 l D cI cZ a H.size u) (cwV 1 hts gX5_settledAt_X5_isFine rfl rfl rfl (by decide +kernel) ⟨Nat.le_of_ble_eq_true rfl, Nat.le_of_ble_eq_true rfl⟩) hK hP hD 0 (ci := 5) rfl rfl rfl rfl hl.1 rfl (Nat.le_of_ble_eq_true rfl) dX5_settledAt_14 ⟨Nat.le_of_ble_eq_true rfl, Nat.le_of_ble_eq_true rfl⟩) hD hS hA (fun H locs hP hD hS => ?_)
    refine lv_if_eq (tgt := 29) hx hb dX5_settledAt_17 (by decide) (fun c_17 => absurd c_17 (by decide)) (fun c_17 => ?_)
    refine lv_aload_n hx hb dX5_settledAt_20 rfl (lv_at hl 0 rfl) ?_
    refine va_get (D := D) (ci := 5) (v := .ref (a 11)) (C := RX5) (T := TX5) (N := 31) hx hb hts hiX5 hown hK hP 0 rfl rfl 24 (by decide) hw1 (fun _ h9 => h9) rfl dX5_settledAt_21 ?_
    refine lv_iload_n hx hb dX5_settledAt_24 rfl (lv_at hl 1 rfl) ?_
    refine pg_ild (f := u.2 10) hx hb hK hP 11 0 rfl rfl (show j < _ by omega) (by decide) dX5_settledAt_25 ?_
    refine lv_goto (tgt := 30) hx hb dX5_settledAt_26 (by decide) ?_
    exact W.iret (v := u.2 10 j) hx hb hr (fun t9 ht9 hW9 => ⟨⟨u.2 10 j, ((upd u.1 15 0), u.2), rfl, ⟨by rw [hcl], rfl⟩, by rw [ht9]; exact hP, va_K.moved hW9.alike hK, hD⟩, hS.F ht9⟩) hS.2.2 dX5_settledAt_30
  · refine pg_iE (pg_rV (As := [.int k]) (rest := [.ref (a 0)]) ⟨hx, hb, hml, hown, hts⟩ (cm_isClaim_f l D cI cZ a s.heap.size u n hn h20 k c_3) (cwV 1 hts gX5_settledAt_X5_isClaim rfl rfl rfl (by decide +kernel) ⟨Nat.le_of_ble_eq_true rfl, Nat.le_of_ble_eq_true rfl⟩) hK hP hD 0 (ci := 5) rfl rfl rfl rfl hl.1 rfl (Nat.le_of_ble_eq_true rfl) dX5_settledAt_3 ⟨Nat.le_of_ble_eq_true rfl, Nat.le_of_ble_eq_true rfl⟩) hD hS hA (fun H locs hP hD hS => ?_)
    refine lv_if_eq (tgt := 13) hx hb dX5_settledAt_6 (by decide) (fun c_6 => ?_) (fun c_6 => absurd (by decide) c_6)
    refine lv_iconst (v := 1) hx hb dX5_settledAt_13 (by decide) ?_
    exact absurd hthr (by first | (simp only [pg_t_num, c_3, cond_true, cond_false, Bool.not_true, Bool.not_false]; done) | (simp only [pg_t_num, c_3, cond_true, cond_false, Bool.not_true, Bool.not_false]; decide))
set_option maxHeartbeats 4000000 in
set_option maxRecDepth 100000 in
/-- cm_settledAt: not fine -/
theorem cm_settledAt_no (l : Launch) (D : va_G) (cI cZ : ClassId) (a : Nat → Nat) (sz : Nat) (u : pg_St) (n : Nat) (hn : u.1 10 = nI n) (h20 : n ≤ 20) (k : Int32) (e9 : Int32) (hthr : pg_t_num k (nI n) = e9) (h0 : e9 ≠ 0) : Met l yX5_settledAt wsX5_settledAt ({ frames := 2, cells := 0, slots := 0, locals := 43 }) (va_Pc [.ref (a 0), .int k] (pg_B D (pg_ty cI cZ) (pg_wM cI cZ a u) sz)) (va_Qi (fun r u' => r = 0 ∧ u' = (upd u.1 15 e9, u.2)) (pg_E D (pg_ty cI cZ) (va_A (pg_wM cI cZ a u) sz) (pg_wM cI cZ a)) (va_A (pg_wM cI cZ a u) sz)) 0 0 (va_A (pg_wM cI cZ a u) sz) := by
  refine Met.ofW (cc := cX5_settledAt) (maxL := 2) (ret := (some .int)) (by decide) rfl ?_
  intro p e s m args below meth c s₁ B hml hv
  obtain ⟨rfl, hsz, hP, hK, hD0⟩ := hv
  have hx := B.exec
  have hb := B.bytes
  have hr := B.returns
  have hts := atoms_spec (ws := wsX5_settledAt) B.pre
  have hown : s.vm.findClass RX5 = some m.cls := findClass_of_methodNamed B.named
  have hlocks := B.notSynchronized
  subst hsz
  have hD := hD0.self (sz := s.heap.size)
  generalize hAe : va_A (pg_wM cI cZ a u) s.heap.size = A at hD ⊢
  have hA : ∀ q : Nat, s.heap.size ≤ q → A q := fun q h => by rw [← hAe]; exact Or.inr h
  have hS : va_S A s.heap s.heap [] := va_S.rf
  have hl := lv_entry ([.ref (a 0), .int k]) (n := 2) (Nat.le_of_ble_eq_true rfl)
  rw [lg_entry_eq]
  generalize (lg_sl ([.ref (a 0), .int k]) ++ List.replicate (2 - (lg_sl ([.ref (a 0), .int k])).length) Slot.unset).toArray = ls at hl ⊢
  have hl : lv_has ls 2 [(0, .ref (a 0)), (1, .int k)] := hl
  refine lv_aload_n hx hb dX5_settledAt_0 rfl (lv_at hl 0 rfl) ?_
  refine lv_aload_n hx hb dX5_settledAt_1 rfl (lv_at hl 0 rfl) ?_
  refine lv_iload_n hx hb dX5_settledAt_2 rfl (lv_at hl 1 rfl) ?_
  rcases Bool.eq_false_or_eq_true (pg_nb k (nI n)) with c_3 | c_3
  · refine pg_iE (pg_rV (As := [.int k]) (rest := [.ref (a 0)]) ⟨hx, hb, hml, hown, hts⟩ (cm_isClaim_t l D cI cZ a s.heap.size u n hn h20 k c_3) (cwV 1 hts gX5_settledAt_X5_isClaim rfl rfl rfl (by decide +kernel) ⟨Nat.le_of_ble_eq_true rfl, Nat.le_of_ble_eq_true rfl⟩) hK hP hD 0 (ci := 5) rfl rfl rfl rfl hl.1 rfl (Nat.le_of_ble_eq_true rfl) dX5_settledAt_3 ⟨Nat.le_of_ble_eq_true rfl, Nat.le_of_ble_eq_true rfl⟩) hD hS hA (fun H locs hP hD hS => ?_)
    obtain ⟨j, hj, rfl⟩ := pg_nb_nI (n := n) (by omega) c_3
    have hcl : (nI j).toNatClampNeg = j := nI_clamp (by omega)
    refine lv_if_eq (tgt := 13) hx hb dX5_settledAt_6 (by decide) (fun c_6 => absurd c_6 (by decide)) (fun c_6 => ?_)
    refine lv_iconst (v := 0) hx hb dX5_settledAt_9 (by decide) ?_
    refine lv_goto (tgt := 14) hx hb dX5_settledAt_10 (by decide) ?_
    exact absurd (hthr.symm.trans (by simp only [pg_t_num, c_3, hcl, cond_true, cond_false, Bool.not_true, Bool.not_false])) h0
  · refine pg_iE (pg_rV (As := [.int k]) (rest := [.ref (a 0)]) ⟨hx, hb, hml, hown, hts⟩ (cm_isClaim_f l D cI cZ a s.heap.size u n hn h20 k c_3) (cwV 1 hts gX5_settledAt_X5_isClaim rfl rfl rfl (by decide +kernel) ⟨Nat.le_of_ble_eq_true rfl, Nat.le_of_ble_eq_true rfl⟩) hK hP hD 0 (ci := 5) rfl rfl rfl rfl hl.1 rfl (Nat.le_of_ble_eq_true rfl) dX5_settledAt_3 ⟨Nat.le_of_ble_eq_true rfl, Nat.le_of_ble_eq_true rfl⟩) hD hS hA (fun H locs hP hD hS => ?_)
    refine lv_if_eq (tgt := 13) hx hb dX5_settledAt_6 (by decide) (fun c_6 => ?_) (fun c_6 => absurd (by decide) c_6)
    refine lv_iconst (v := 1) hx hb dX5_settledAt_13 (by decide) ?_
    have he : e9 = 1 := hthr.symm.trans (by simp only [pg_t_num, c_3, cond_true, cond_false, Bool.not_true, Bool.not_false])
    refine pg_iE (pg_rV (As := [.int 1]) (rest := []) ⟨hx, hb, hml, hown, hts⟩ (cm_fine1 l D cI cZ a H.size u 1 (by decide)) (cwV 1 hts gX5_settledAt_X5_isFine rfl rfl rfl (by decide +kernel) ⟨Nat.le_of_ble_eq_true rfl, Nat.le_of_ble_eq_true rfl⟩) hK hP hD 0 (ci := 5) rfl rfl rfl rfl hl.1 rfl (Nat.le_of_ble_eq_true rfl) dX5_settledAt_14 ⟨Nat.le_of_ble_eq_true rfl, Nat.le_of_ble_eq_true rfl⟩) hD hS hA (fun H locs hP hD hS => ?_)
    refine lv_if_eq (tgt := 29) hx hb dX5_settledAt_17 (by decide) (fun c_17 => ?_) (fun c_17 => absurd (by decide) c_17)
    refine lv_iconst (v := 0) hx hb dX5_settledAt_29 (by decide) ?_
    exact W.iret (v := 0) hx hb hr (fun t9 ht9 hW9 => ⟨⟨0, ((upd u.1 15 1), u.2), rfl, ⟨rfl, by rw [he]⟩, by rw [ht9]; exact hP, va_K.moved hW9.alike hK, hD⟩, hS.F ht9⟩) hS.2.2 dX5_settledAt_30
set_option maxHeartbeats 4000000 in
set_option maxRecDepth 100000 in
/-- cm_isMet: fine -/
theorem cm_isMet_ok (l : Launch) (D : va_G) (cI cZ : ClassId) (a : Nat → Nat) (sz : Nat) (u : pg_St) (k : Int32) (hthr : pg_t_num k 4 = 0) : Met l yX5_isMet wsX5_isMet ({ frames := 1, cells := 0, slots := 0, locals := 22 }) (va_Pc [.ref (a 0), .int k] (pg_B D (pg_ty cI cZ) (pg_wM cI cZ a u) sz)) (va_Qi (fun r u' => r = (if u.2 13 k.toNatClampNeg = 0 then 0 else 1) ∧ u' = (upd u.1 15 0, u.2)) (pg_E D (pg_ty cI cZ) (va_A (pg_wM cI cZ a u) sz) (pg_wM cI cZ a)) (va_A (pg_wM cI cZ a u) sz)) 0 0 (va_A (pg_wM cI cZ a u) sz) := by
  refine Met.ofW (cc := cX5_isMet) (maxL := 2) (ret := (some .boolean)) (by decide) rfl ?_
  intro p e s m args below meth c s₁ B hml hv
  obtain ⟨rfl, hsz, hP, hK, hD0⟩ := hv
  have hx := B.exec
  have hb := B.bytes
  have hr := B.returns
  have hts := atoms_spec (ws := wsX5_isMet) B.pre
  have hown : s.vm.findClass RX5 = some m.cls := findClass_of_methodNamed B.named
  have hlocks := B.notSynchronized
  subst hsz
  have hD := hD0.self (sz := s.heap.size)
  generalize hAe : va_A (pg_wM cI cZ a u) s.heap.size = A at hD ⊢
  have hA : ∀ q : Nat, s.heap.size ≤ q → A q := fun q h => by rw [← hAe]; exact Or.inr h
  have hS : va_S A s.heap s.heap [] := va_S.rf
  have hl := lv_entry ([.ref (a 0), .int k]) (n := 2) (Nat.le_of_ble_eq_true rfl)
  rw [lg_entry_eq]
  generalize (lg_sl ([.ref (a 0), .int k]) ++ List.replicate (2 - (lg_sl ([.ref (a 0), .int k])).length) Slot.unset).toArray = ls at hl ⊢
  have hl : lv_has ls 2 [(0, .ref (a 0)), (1, .int k)] := hl
  have hiX5 : ∀ w ∈ wsX50, w ∈ wsX5_isMet := fun _ h => List.mem_cons_of_mem _ (List.mem_append_right _ (h))
  have hw1 := hts (.fieldLink RX5 53 "PegBoxModel" "met" "[Z") (List.mem_of_getElem? (i := 1) rfl)
  refine lv_aload_n hx hb dX5_isMet_0 rfl (lv_at hl 0 rfl) ?_
  refine lv_iload_n hx hb dX5_isMet_1 rfl (lv_at hl 1 rfl) ?_
  refine lv_iconst (v := 0) hx hb dX5_isMet_2 (by decide) ?_
  refine lv_iconst (v := 3) hx hb dX5_isMet_3 (by decide) ?_
  rcases Bool.eq_false_or_eq_true (pg_in k 0 3) with c_4 | c_4
  · have d_4 : pg_nb k 4 = true := (pg_nb4 k).trans c_4
    refine pg_iE (pg_rS (As := [.int k, .int 0, .int 3]) (rest := [.ref (a 0)]) ⟨hx, hb, hml, hown, hts⟩ (cm_in_t l D (pg_ty cI cZ) (pg_wM cI cZ a u) s.heap.size k 0 3 c_4) (va_cwS 3 hts gX5_isMet_X5_in rfl rfl rfl (by decide +kernel) ⟨Nat.le_of_ble_eq_true rfl, Nat.le_of_ble_eq_true rfl⟩) hK hP hD rfl hl.1 rfl (Nat.le_of_ble_eq_true rfl) dX5_isMet_4 ⟨Nat.le_of_ble_eq_true rfl, Nat.le_of_ble_eq_true rfl⟩) hD hS hA (fun H locs hP hD hS => ?_)
    obtain ⟨j, hj, rfl⟩ := pg_nb_nI (n := 4) (by omega) d_4
    have hcl : (nI j).toNatClampNeg = j := nI_clamp (by omega)
    refine lv_if_eq (tgt := 14) hx hb dX5_isMet_7 (by decide) (fun c_7 => absurd c_7 (by decide)) (fun c_7 => ?_)
    refine lv_iconst (v := 0) hx hb dX5_isMet_10 (by decide) ?_
    refine lv_goto (tgt := 15) hx hb dX5_isMet_11 (by decide) ?_
    refine pg_iE (pg_rV (As := [.int 0]) (rest := []) ⟨hx, hb, hml, hown, hts⟩ (cm_fine0 l D cI cZ a H.size u) (cwV 1 hts gX5_isMet_X5_isFine rfl rfl rfl (by decide +kernel) ⟨Nat.le_of_ble_eq_true rfl, Nat.le_of_ble_eq_true rfl⟩) hK hP hD 0 (ci := 5) rfl rfl rfl rfl hl.1 rfl (Nat.le_of_ble_eq_true rfl) dX5_isMet_15 ⟨Nat.le_of_ble_eq_true rfl, Nat.le_of_ble_eq_true rfl⟩) hD hS hA (fun H locs hP hD hS => ?_)
    refine lv_if_eq (tgt := 34) hx hb dX5_isMet_18 (by decide) (fun c_18 => absurd c_18 (by decide)) (fun c_18 => ?_)
    refine lv_aload_n hx hb dX5_isMet_21 rfl (lv_at hl 0 rfl) ?_
    refine va_get (D := D) (ci := 5) (v := .ref (a 14)) (C := RX5) (T := TX5) (N := 31) hx hb hts hiX5 hown hK hP 0 rfl rfl 27 (by decide) hw1 (fun _ h9 => h9) rfl dX5_isMet_22 ?_
    refine lv_iload_n hx hb dX5_isMet_25 rfl (lv_at hl 1 rfl) ?_
    refine pg_zld (f := u.2 13) hx hb hK hP 14 1 rfl rfl (show j < _ by omega) (by decide) dX5_isMet_26 ?_
    refine lv_if_eq (tgt := 34) hx hb dX5_isMet_27 (by decide) (fun c_27 => ?_) (fun c_27 => ?_)
    · refine lv_iconst (v := 0) hx hb dX5_isMet_34 (by decide) ?_
      exact W.zret (v := 0) hx hb hr rfl (fun t9 ht9 hW9 => ⟨⟨0, ((upd u.1 15 0), u.2), rfl, ⟨by rw [hcl, if_pos c_27], rfl⟩, by rw [ht9]; exact hP, va_K.moved hW9.alike hK, hD⟩, hS.F ht9⟩) hS.2.2 dX5_isMet_35
    · refine lv_iconst (v := 1) hx hb dX5_isMet_30 (by decide) ?_
      refine lv_goto (tgt := 35) hx hb dX5_isMet_31 (by decide) ?_
      exact W.zret (v := 1) hx hb hr rfl (fun t9 ht9 hW9 => ⟨⟨1, ((upd u.1 15 0), u.2), rfl, ⟨by rw [hcl, if_neg c_27], rfl⟩, by rw [ht9]; exact hP, va_K.moved hW9.alike hK, hD⟩, hS.F ht9⟩) hS.2.2 dX5_isMet_35
  · have d_4 : pg_nb k 4 = false := (pg_nb4 k).trans c_4
    refine pg_iE (pg_rS (As := [.int k, .int 0, .int 3]) (rest := [.ref (a 0)]) ⟨hx, hb, hml, hown, hts⟩ (cm_in_f l D (pg_ty cI cZ) (pg_wM cI cZ a u) s.heap.size k 0 3 c_4) (va_cwS 3 hts gX5_isMet_X5_in rfl rfl rfl (by decide +kernel) ⟨Nat.le_of_ble_eq_true rfl, Nat.le_of_ble_eq_true rfl⟩) hK hP hD rfl hl.1 rfl (Nat.le_of_ble_eq_true rfl) dX5_isMet_4 ⟨Nat.le_of_ble_eq_true rfl, Nat.le_of_ble_eq_true rfl⟩) hD hS hA (fun H locs hP hD hS => ?_)
    refine lv_if_eq (tgt := 14) hx hb dX5_isMet_7 (by decide) (fun c_7 => ?_) (fun c_7 => absurd (by decide) c_7)
    refine lv_iconst (v := 1) hx hb dX5_isMet_14 (by decide) ?_
    exact absurd hthr (by first | (simp only [pg_t_num, d_4, cond_true, cond_false, Bool.not_true, Bool.not_false]; done) | (simp only [pg_t_num, d_4, cond_true, cond_false, Bool.not_true, Bool.not_false]; decide))
set_option maxHeartbeats 4000000 in
set_option maxRecDepth 100000 in
/-- cm_isMet: not fine -/
theorem cm_isMet_no (l : Launch) (D : va_G) (cI cZ : ClassId) (a : Nat → Nat) (sz : Nat) (u : pg_St) (k : Int32) (e9 : Int32) (hthr : pg_t_num k 4 = e9) (h0 : e9 ≠ 0) : Met l yX5_isMet wsX5_isMet ({ frames := 1, cells := 0, slots := 0, locals := 22 }) (va_Pc [.ref (a 0), .int k] (pg_B D (pg_ty cI cZ) (pg_wM cI cZ a u) sz)) (va_Qi (fun r u' => r = 0 ∧ u' = (upd u.1 15 e9, u.2)) (pg_E D (pg_ty cI cZ) (va_A (pg_wM cI cZ a u) sz) (pg_wM cI cZ a)) (va_A (pg_wM cI cZ a u) sz)) 0 0 (va_A (pg_wM cI cZ a u) sz) := by
  refine Met.ofW (cc := cX5_isMet) (maxL := 2) (ret := (some .boolean)) (by decide) rfl ?_
  intro p e s m args below meth c s₁ B hml hv
  obtain ⟨rfl, hsz, hP, hK, hD0⟩ := hv
  have hx := B.exec
  have hb := B.bytes
  have hr := B.returns
  have hts := atoms_spec (ws := wsX5_isMet) B.pre
  have hown : s.vm.findClass RX5 = some m.cls := findClass_of_methodNamed B.named
  have hlocks := B.notSynchronized
  subst hsz
  have hD := hD0.self (sz := s.heap.size)
  generalize hAe : va_A (pg_wM cI cZ a u) s.heap.size = A at hD ⊢
  have hA : ∀ q : Nat, s.heap.size ≤ q → A q := fun q h => by rw [← hAe]; exact Or.inr h
  have hS : va_S A s.heap s.heap [] := va_S.rf
  have hl := lv_entry ([.ref (a 0), .int k]) (n := 2) (Nat.le_of_ble_eq_true rfl)
  rw [lg_entry_eq]
  generalize (lg_sl ([.ref (a 0), .int k]) ++ List.replicate (2 - (lg_sl ([.ref (a 0), .int k])).length) Slot.unset).toArray = ls at hl ⊢
  have hl : lv_has ls 2 [(0, .ref (a 0)), (1, .int k)] := hl
  refine lv_aload_n hx hb dX5_isMet_0 rfl (lv_at hl 0 rfl) ?_
  refine lv_iload_n hx hb dX5_isMet_1 rfl (lv_at hl 1 rfl) ?_
  refine lv_iconst (v := 0) hx hb dX5_isMet_2 (by decide) ?_
  refine lv_iconst (v := 3) hx hb dX5_isMet_3 (by decide) ?_
  rcases Bool.eq_false_or_eq_true (pg_in k 0 3) with c_4 | c_4
  · have d_4 : pg_nb k 4 = true := (pg_nb4 k).trans c_4
    refine pg_iE (pg_rS (As := [.int k, .int 0, .int 3]) (rest := [.ref (a 0)]) ⟨hx, hb, hml, hown, hts⟩ (cm_in_t l D (pg_ty cI cZ) (pg_wM cI cZ a u) s.heap.size k 0 3 c_4) (va_cwS 3 hts gX5_isMet_X5_in rfl rfl rfl (by decide +kernel) ⟨Nat.le_of_ble_eq_true rfl, Nat.le_of_ble_eq_true rfl⟩) hK hP hD rfl hl.1 rfl (Nat.le_of_ble_eq_true rfl) dX5_isMet_4 ⟨Nat.le_of_ble_eq_true rfl, Nat.le_of_ble_eq_true rfl⟩) hD hS hA (fun H locs hP hD hS => ?_)
    obtain ⟨j, hj, rfl⟩ := pg_nb_nI (n := 4) (by omega) d_4
    have hcl : (nI j).toNatClampNeg = j := nI_clamp (by omega)
    refine lv_if_eq (tgt := 14) hx hb dX5_isMet_7 (by decide) (fun c_7 => absurd c_7 (by decide)) (fun c_7 => ?_)
    refine lv_iconst (v := 0) hx hb dX5_isMet_10 (by decide) ?_
    refine lv_goto (tgt := 15) hx hb dX5_isMet_11 (by decide) ?_
    exact absurd (hthr.symm.trans (by simp only [pg_t_num, d_4, hcl, cond_true, cond_false, Bool.not_true, Bool.not_false])) h0
  · have d_4 : pg_nb k 4 = false := (pg_nb4 k).trans c_4
    refine pg_iE (pg_rS (As := [.int k, .int 0, .int 3]) (rest := [.ref (a 0)]) ⟨hx, hb, hml, hown, hts⟩ (cm_in_f l D (pg_ty cI cZ) (pg_wM cI cZ a u) s.heap.size k 0 3 c_4) (va_cwS 3 hts gX5_isMet_X5_in rfl rfl rfl (by decide +kernel) ⟨Nat.le_of_ble_eq_true rfl, Nat.le_of_ble_eq_true rfl⟩) hK hP hD rfl hl.1 rfl (Nat.le_of_ble_eq_true rfl) dX5_isMet_4 ⟨Nat.le_of_ble_eq_true rfl, Nat.le_of_ble_eq_true rfl⟩) hD hS hA (fun H locs hP hD hS => ?_)
    refine lv_if_eq (tgt := 14) hx hb dX5_isMet_7 (by decide) (fun c_7 => ?_) (fun c_7 => absurd (by decide) c_7)
    refine lv_iconst (v := 1) hx hb dX5_isMet_14 (by decide) ?_
    have he : e9 = 1 := hthr.symm.trans (by simp only [pg_t_num, d_4, cond_true, cond_false, Bool.not_true, Bool.not_false])
    refine pg_iE (pg_rV (As := [.int 1]) (rest := []) ⟨hx, hb, hml, hown, hts⟩ (cm_fine1 l D cI cZ a H.size u 1 (by decide)) (cwV 1 hts gX5_isMet_X5_isFine rfl rfl rfl (by decide +kernel) ⟨Nat.le_of_ble_eq_true rfl, Nat.le_of_ble_eq_true rfl⟩) hK hP hD 0 (ci := 5) rfl rfl rfl rfl hl.1 rfl (Nat.le_of_ble_eq_true rfl) dX5_isMet_15 ⟨Nat.le_of_ble_eq_true rfl, Nat.le_of_ble_eq_true rfl⟩) hD hS hA (fun H locs hP hD hS => ?_)
    refine lv_if_eq (tgt := 34) hx hb dX5_isMet_18 (by decide) (fun c_18 => ?_) (fun c_18 => absurd (by decide) c_18)
    refine lv_iconst (v := 0) hx hb dX5_isMet_34 (by decide) ?_
    exact W.zret (v := 0) hx hb hr rfl (fun t9 ht9 hW9 => ⟨⟨0, ((upd u.1 15 1), u.2), rfl, ⟨rfl, by rw [he]⟩, by rw [ht9]; exact hP, va_K.moved hW9.alike hK, hD⟩, hS.F ht9⟩) hS.2.2 dX5_isMet_35
