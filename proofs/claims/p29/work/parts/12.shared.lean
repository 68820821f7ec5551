theorem pg_h2_io : ∀ w ∈ (vx_atS RX4 203 "java/lang/IndexOutOfBoundsException" ["java/lang/RuntimeException", "java/lang/Exception"]).filter (fun w => !goodWord w), w ∈ pg_nw := by decide +kernel
theorem pg_hg_io : ∀ w ∈ Cond.classLink RX4 199 "java/lang/IndexOutOfBoundsException" :: Cond.initialized "java/lang/IndexOutOfBoundsException" :: vx_atS RX4 203 "java/lang/IndexOutOfBoundsException" ["java/lang/RuntimeException", "java/lang/Exception"], vx_ot w = true := by decide +kernel
theorem pg_h2_ia : ∀ w ∈ (vx_atS RX4 208 "java/lang/IllegalArgumentException" ["java/lang/RuntimeException", "java/lang/Exception"]).filter (fun w => !goodWord w), w ∈ pg_nw := by decide +kernel
theorem pg_hg_ia : ∀ w ∈ Cond.classLink RX4 204 "java/lang/IllegalArgumentException" :: Cond.initialized "java/lang/IllegalArgumentException" :: vx_atS RX4 208 "java/lang/IllegalArgumentException" ["java/lang/RuntimeException", "java/lang/Exception"], vx_ot w = true := by decide +kernel
theorem pg_h2_is : ∀ w ∈ (vx_atS RX4 128 "java/lang/IllegalStateException" ["java/lang/RuntimeException", "java/lang/Exception"]).filter (fun w => !goodWord w), w ∈ pg_nw := by decide +kernel
theorem pg_hg_is : ∀ w ∈ Cond.classLink RX4 124 "java/lang/IllegalStateException" :: Cond.initialized "java/lang/IllegalStateException" :: vx_atS RX4 128 "java/lang/IllegalStateException" ["java/lang/RuntimeException", "java/lang/Exception"], vx_ot w = true := by decide +kernel
set_option maxHeartbeats 4000000 in
set_option maxRecDepth 100000 in
/-- EarnOut.meet(first, end) -/
theorem cc_meet (l : Launch) (D : va_G) (cI cZ : ClassId) (a : Nat → Nat) (sz : Nat) (u : pg_St) (i0 j : Nat) (hij : i0 ≤ j) (hj : j ≤ 4) : Met l yX1_meet wsX1_meet ({ frames := 0, cells := 0, slots := 0, locals := 0 }) (va_Pc [.ref (a 4), .int (nI i0), .int (nI j)] (pg_B D (pg_ty cI cZ) (pg_wB cI cZ a u) sz)) (va_Qi (fun r u' => r = pg_msum u.2 i0 j ∧ u' = (u.1, pg_row u.2 13 (pg_met u.2 i0 j))) (pg_E D (pg_ty cI cZ) (va_A (pg_wB cI cZ a u) sz) (pg_wB cI cZ a)) (va_A (pg_wB cI cZ a u) sz)) 0 0 (va_A (pg_wB cI cZ a u) sz) := by
  refine Met.ofW (cc := cX1_meet) (maxL := 5) (ret := (some .int)) (by decide) rfl ?_
  intro p e s m args below meth c s₁ B hml hv
  obtain ⟨rfl, hsz, hP, hK, hD0⟩ := hv
  have hx := B.exec
  have hb := B.bytes
  have hr := B.returns
  have hts := atoms_spec (ws := wsX1_meet) B.pre
  have hown : s.vm.findClass RX1 = some m.cls := findClass_of_methodNamed B.named
  have hlocks := B.notSynchronized
  subst hsz
  have hD := hD0.self (sz := s.heap.size)
  generalize hAe : va_A (pg_wB cI cZ a u) s.heap.size = A at hD ⊢
  have hA : ∀ q : Nat, s.heap.size ≤ q → A q := fun q h => by rw [← hAe]; exact Or.inr h
  have hS : va_S A s.heap s.heap [] := va_S.rf
  have hl := lv_entry ([.ref (a 4), .int (nI i0), .int (nI j)]) (n := 5) (Nat.le_of_ble_eq_true rfl)
  rw [lg_entry_eq]
  generalize (lg_sl ([.ref (a 4), .int (nI i0), .int (nI j)]) ++ List.replicate (5 - (lg_sl ([.ref (a 4), .int (nI i0), .int (nI j)])).length) Slot.unset).toArray = ls at hl ⊢
  have hl : lv_has ls 5 [(0, .ref (a 4)), (1, .int (nI i0)), (2, .int (nI j))] := hl
  have hiX1 : ∀ w ∈ wsX10, w ∈ wsX1_meet := fun _ h => List.mem_cons_of_mem _ (List.mem_append_right _ (h))
  have hw1 := hts (.fieldLink RX1 18 "PegBox$EarnOut" "met" "[Z") (List.mem_of_getElem? (i := 1) rfl)
  have hw2 := hts (.fieldLink RX1 15 "PegBox$EarnOut" "amounts" "[I") (List.mem_of_getElem? (i := 2) rfl)
  refine lv_iconst (v := 0) hx hb dX1_meet_0 (by decide) ?_
  refine lv_istore_n (lv' := [(3, .int 0), (0, .ref (a 4)), (1, .int (nI i0)), (2, .int (nI j))]) hx hb dX1_meet_1 rfl hl (by decide) rfl (fun ls hl => ?_)
  refine lv_iload_n hx hb dX1_meet_2 rfl (lv_at hl 2 rfl) ?_
  refine lv_istore (lv' := [(4, .int (nI i0)), (3, .int 0), (0, .ref (a 4)), (1, .int (nI i0)), (2, .int (nI j))]) hx hb dX1_meet_3 hl (by decide) rfl (fun ls hl => ?_)
  have L5 : ∀ (k9 i : Nat) (x : Int32) (w9 : pg_St), i ≤ j → j < i + k9 → i0 ≤ i → x = pg_msum u.2 i0 i → w9 = (u.1, pg_row u.2 13 (pg_met u.2 i0 i)) → ∀ (H : Heap) (locs : List Loc), va_P D vwCl (pg_wB cI cZ a w9) H → va_D A (pg_wB cI cZ a w9) → va_S A s.heap H locs → ∀ ls : Array Slot, lv_has ls 5 [(4, .int (nI i)), (3, .int x), (0, .ref (a 4)), (1, .int (nI i0)), (2, .int (nI j))] → W p l e (headSpec wsX1_meet ({ frames := 0, cells := 0, slots := 0, locals := 0 })).room s m ([.ref (a 4), .int (nI i0), .int (nI j)] : List Value).toArray below meth c H locs 0 0 (MQ below (va_Qi (fun r u' => r = pg_msum u.2 i0 j ∧ u' = (u.1, pg_row u.2 13 (pg_met u.2 i0 j))) (pg_E D (pg_ty cI cZ) A (pg_wB cI cZ a)) A) ([.ref (a 4), .int (nI i0), .int (nI j)] : List Value).toArray s 0 0 A) (F0 m 5 ls []) := by
    intro k9
    induction k9 with
    | zero => intro i x w9 h1 h2; exact absurd h2 (by omega)
    | succ k9 ih =>
      intro i x w9 hi9 hk9 hlo9 hx9 hw99 H locs hP hD hS ls hl
      subst hx9
      subst hw99
      refine lv_iload hx hb dX1_meet_5 (lv_at hl 0 rfl) ?_
      refine lv_iload_n hx hb dX1_meet_7 rfl (lv_at hl 4 rfl) ?_
      refine lv_icmp_ge (tgt := 45) hx hb dX1_meet_8 (by decide) (fun c_8 => ?_) (fun c_8 => ?_)
      · have hiN : i = j := pg_exit (rfl) (by omega) hi9 c_8
        refine lv_iload_n hx hb dX1_meet_45 rfl (lv_at hl 1 rfl) ?_
        exact W.iret (v := pg_msum u.2 i0 i) hx hb hr (fun t9 ht9 hW9 => ⟨⟨pg_msum u.2 i0 i, (u.1, (pg_row u.2 13 (pg_met u.2 i0 i))), rfl, ⟨by rw [hiN], by rw [hiN]⟩, by rw [ht9]; exact hP, va_K.moved hW9.alike hK, hD⟩, hS.F ht9⟩) hS.2.2 dX1_meet_46
      · have hlt : i < j := pg_stay (rfl) (by omega) c_8
        refine lv_aload_n hx hb dX1_meet_11 rfl (lv_at hl 2 rfl) ?_
        refine va_get (D := D) (ci := 1) (v := .ref (a 18)) (C := RX1) (T := TX1) (N := 8) hx hb hts hiX1 hown hK hP 4 rfl rfl 2 (by decide) hw1 (fun _ h9 => h9) rfl dX1_meet_12 ?_
        refine lv_iload hx hb dX1_meet_15 (lv_at hl 0 rfl) ?_
        refine pg_zld (f := (pg_met u.2 i0 i)) hx hb hK hP 18 1 rfl rfl (show i < _ by omega) (by decide) dX1_meet_17 ?_
        refine lv_if_ne (tgt := 39) hx hb dX1_meet_18 (by decide) (fun c_18 => ?_) (fun c_18 => ?_)
        · refine lv_iinc (v := nI (i + 1)) (lv' := [(4, .int (nI (i + 1))), (3, .int (pg_msum u.2 i0 i)), (0, .ref (a 4)), (1, .int (nI i0)), (2, .int (nI j))]) hx hb dX1_meet_39 hl (k := 0) rfl (by rw [nI_succ]; rfl) (by decide) rfl (fun ls hl => ?_)
          refine lv_goto (tgt := 5) hx hb dX1_meet_42 (by decide) ?_
          rw [pg_met_at] at c_18
          exact ih (i + 1) (pg_msum u.2 i0 i) (u.1, (pg_row u.2 13 (pg_met u.2 i0 i))) (by omega) (by omega) (by omega) (pg_msum_b c_18) (by rw [pg_met_s c_18]) _ _ hP hD hS ls (lv_sub hl [0, 1, 2, 3, 4] rfl)
        · refine lv_aload_n hx hb dX1_meet_21 rfl (lv_at hl 2 rfl) ?_
          refine va_get (D := D) (ci := 1) (v := .ref (a 18)) (C := RX1) (T := TX1) (N := 8) hx hb hts hiX1 hown hK hP 4 rfl rfl 2 (by decide) hw1 (fun _ h9 => h9) rfl dX1_meet_22 ?_
          refine lv_iload hx hb dX1_meet_25 (lv_at hl 0 rfl) ?_
          refine lv_iconst (v := 1) hx hb dX1_meet_27 (by decide) ?_
          refine pg_zst hx hb hK hP hD hS 18 1 rfl rfl (show i < _ by omega) (by decide) rfl dX1_meet_28 (fun H locs hP hD hS => ?_)
          have hP : va_P D vwCl (pg_wB cI cZ a (u.1, (pg_row (pg_row u.2 13 (pg_met u.2 i0 i)) 13 (upd ((pg_met u.2 i0 i)) i 1)))) H := hP
          have hD : va_D A (pg_wB cI cZ a (u.1, (pg_row (pg_row u.2 13 (pg_met u.2 i0 i)) 13 (upd ((pg_met u.2 i0 i)) i 1)))) := hD
          refine lv_iload_n hx hb dX1_meet_29 rfl (lv_at hl 1 rfl) ?_
          refine lv_aload_n hx hb dX1_meet_30 rfl (lv_at hl 2 rfl) ?_
          refine va_get (D := D) (ci := 1) (v := .ref (a 17)) (C := RX1) (T := TX1) (N := 8) hx hb hts hiX1 hown hK hP 4 rfl rfl 1 (by decide) hw2 (fun _ h9 => h9) rfl dX1_meet_31 ?_
          refine lv_iload hx hb dX1_meet_34 (lv_at hl 0 rfl) ?_
          refine pg_ild (f := u.2 12) hx hb hK hP 17 0 rfl rfl (show i < _ by omega) (by decide) dX1_meet_36 ?_
          refine lv_iadd hx hb dX1_meet_37 ?_
          refine lv_istore_n (lv' := [(3, .int ((pg_msum u.2 i0 i) + (u.2 12 i))), (4, .int (nI i)), (0, .ref (a 4)), (1, .int (nI i0)), (2, .int (nI j))]) hx hb dX1_meet_38 rfl hl (by decide) rfl (fun ls hl => ?_)
          refine lv_iinc (v := nI (i + 1)) (lv' := [(4, .int (nI (i + 1))), (3, .int ((pg_msum u.2 i0 i) + (u.2 12 i))), (0, .ref (a 4)), (1, .int (nI i0)), (2, .int (nI j))]) hx hb dX1_meet_39 hl (k := 1) rfl (by rw [nI_succ]; rfl) (by decide) rfl (fun ls hl => ?_)
          refine lv_goto (tgt := 5) hx hb dX1_meet_42 (by decide) ?_
          rw [pg_met_at] at c_18
          exact ih (i + 1) ((pg_msum u.2 i0 i) + (u.2 12 i)) (u.1, (pg_row (pg_row u.2 13 (pg_met u.2 i0 i)) 13 (upd ((pg_met u.2 i0 i)) i 1))) (by omega) (by omega) (by omega) (pg_msum_a hlo9 c_18) (by rw [pg_row_row, pg_met_w hlo9 c_18]) _ _ hP hD hS ls (lv_sub hl [0, 1, 2, 3, 4] rfl)
  exact L5 (j + 1) i0 0 u (by omega) (by omega) (by omega) (pg_msum_0 u.2 i0).symm (by rw [pg_met_0, pg_row_self]) _ _ hP hD hS ls hl
set_option maxHeartbeats 4000000 in
set_option maxRecDepth 100000 in
/-- EarnOut.tell(result) -/
theorem cc_tell (l : Launch) (D : va_G) (cI cZ : ClassId) (a : Nat → Nat) (sz : Nat) (u : pg_St) (t : Nat) (ht : u.1 13 = nI t) (h4 : t < 4) (x : Int32) : Met l yX1_tell wsX1_tell ({ frames := 1, cells := 0, slots := 0, locals := 24 }) (va_Pc [.ref (a 4), .int x] (pg_B D (pg_ty cI cZ) (pg_wB cI cZ a u) sz)) (va_Qi (fun r u' => r = pg_tellr u t x ∧ u' = pg_tell u t x) (pg_E D (pg_ty cI cZ) (va_A (pg_wB cI cZ a u) sz) (pg_wB cI cZ a)) (va_A (pg_wB cI cZ a u) sz)) 0 0 (va_A (pg_wB cI cZ a u) sz) := by
  refine Met.ofW (cc := cX1_tell) (maxL := 3) (ret := (some .int)) (by decide) rfl ?_
  intro p e s m args below meth c s₁ B hml hv
  obtain ⟨rfl, hsz, hP, hK, hD0⟩ := hv
  have hx := B.exec
  have hb := B.bytes
  have hr := B.returns
  have hts := atoms_spec (ws := wsX1_tell) B.pre
  have hown : s.vm.findClass RX1 = some m.cls := findClass_of_methodNamed B.named
  have hlocks := B.notSynchronized
  subst hsz
  have hD := hD0.self (sz := s.heap.size)
  generalize hAe : va_A (pg_wB cI cZ a u) s.heap.size = A at hD ⊢
  have hA : ∀ q : Nat, s.heap.size ≤ q → A q := fun q h => by rw [← hAe]; exact Or.inr h
  have hS : va_S A s.heap s.heap [] := va_S.rf
  have hl := lv_entry ([.ref (a 4), .int x]) (n := 3) (Nat.le_of_ble_eq_true rfl)
  rw [lg_entry_eq]
  generalize (lg_sl ([.ref (a 4), .int x]) ++ List.replicate (3 - (lg_sl ([.ref (a 4), .int x])).length) Slot.unset).toArray = ls at hl ⊢
  have hl : lv_has ls 3 [(0, .ref (a 4)), (1, .int x)] := hl
  have hiX1 : ∀ w ∈ wsX10, w ∈ wsX1_tell := fun _ h => List.mem_cons_of_mem _ (List.mem_append_right _ (h))
  have hw1 := hts (.fieldLink RX1 22 "PegBox$EarnOut" "told" "I") (List.mem_of_getElem? (i := 1) rfl)
  have hw2 := hts (.fieldLink RX1 26 "PegBox$EarnOut" "resultSum" "I") (List.mem_of_getElem? (i := 2) rfl)
  have hw3 := hts (.fieldLink RX1 29 "PegBox$EarnOut" "targetSum" "I") (List.mem_of_getElem? (i := 3) rfl)
  have hw4 := hts (.fieldLink RX1 9 "PegBox$EarnOut" "targets" "[I") (List.mem_of_getElem? (i := 4) rfl)
  have hw5 := hts (.fieldLink RX1 32 "PegBox$EarnOut" "isCarried" "Z") (List.mem_of_getElem? (i := 5) rfl)
  refine lv_aload_n hx hb dX1_tell_0 rfl (lv_at hl 0 rfl) ?_
  refine va_get (D := D) (ci := 1) (v := .int (u.1 13)) (C := RX1) (T := TX1) (N := 8) hx hb hts hiX1 hown hK hP 4 rfl rfl 5 (by decide) hw1 (fun _ h9 => h9) rfl dX1_tell_1 ?_
  rw [ht]
  refine lv_istore_n (lv' := [(2, .int (nI t)), (0, .ref (a 4)), (1, .int x)]) hx hb dX1_tell_4 rfl hl (by decide) rfl (fun ls hl => ?_)
  refine lv_iload_n hx hb dX1_tell_5 rfl (lv_at hl 0 rfl) ?_
  refine lv_iconst (v := 4) hx hb dX1_tell_6 (by decide) ?_
  refine lv_icmp_lt (tgt := 12) hx hb dX1_tell_7 (by decide) (fun c_7 => ?_) (fun c_7 => absurd (show nI t < 4 from nI_lt (b := 4) h4 (by decide)) c_7)
  refine lv_aload_n hx hb dX1_tell_12 rfl (lv_at hl 1 rfl) ?_
  refine lv_iload_n hx hb dX1_tell_13 rfl (lv_at hl 0 rfl) ?_
  refine lv_iconst (v := 1) hx hb dX1_tell_14 (by decide) ?_
  refine lv_iadd hx hb dX1_tell_15 ?_
  rw [← nI_succ t]
  refine va_put (D := D) (ci := 1) (v := .int (nI (t + 1))) (ty := .int) (C := RX1) (T := TX1) (N := 8) hx hb hts hiX1 tyX1 tyX1_ok nmX1 hown hK hP hD hS 4 rfl rfl 5 (by decide) hw1 (fun _ h9 => h9) rfl (by decide +kernel) rfl rfl (Nat.le_of_ble_eq_true rfl) dX1_tell_16 (fun H locs hP hD hS => ?_)
  have hP : va_P D vwCl (pg_wB cI cZ a ((upd u.1 13 (nI (t + 1))), u.2)) H := hP
  have hD : va_D A (pg_wB cI cZ a ((upd u.1 13 (nI (t + 1))), u.2)) := hD
  refine lv_aload_n hx hb dX1_tell_19 rfl (lv_at hl 1 rfl) ?_
  refine lv_dup hx hb dX1_tell_20 rfl ?_
  refine va_get (D := D) (ci := 1) (v := .int (u.1 14)) (C := RX1) (T := TX1) (N := 8) hx hb hts hiX1 hown hK hP 4 rfl rfl 6 (by decide) hw2 (fun _ h9 => h9) rfl dX1_tell_21 ?_
  refine lv_iload_n hx hb dX1_tell_24 rfl (lv_at hl 2 rfl) ?_
  refine lv_iadd hx hb dX1_tell_25 ?_
  refine va_put (D := D) (ci := 1) (v := .int ((u.1 14) + x)) (ty := .int) (C := RX1) (T := TX1) (N := 8) hx hb hts hiX1 tyX1 tyX1_ok nmX1 hown hK hP hD hS 4 rfl rfl 6 (by decide) hw2 (fun _ h9 => h9) rfl (by decide +kernel) rfl rfl (Nat.le_of_ble_eq_true rfl) dX1_tell_26 (fun H locs hP hD hS => ?_)
  have hP : va_P D vwCl (pg_wB cI cZ a ((upd (upd u.1 13 (nI (t + 1))) 14 ((u.1 14) + x)), u.2)) H := hP
  have hD : va_D A (pg_wB cI cZ a ((upd (upd u.1 13 (nI (t + 1))) 14 ((u.1 14) + x)), u.2)) := hD
  refine lv_aload_n hx hb dX1_tell_29 rfl (lv_at hl 1 rfl) ?_
  refine lv_dup hx hb dX1_tell_30 rfl ?_
  refine va_get (D := D) (ci := 1) (v := .int (u.1 15)) (C := RX1) (T := TX1) (N := 8) hx hb hts hiX1 hown hK hP 4 rfl rfl 7 (by decide) hw3 (fun _ h9 => h9) rfl dX1_tell_31 ?_
  refine lv_aload_n hx hb dX1_tell_34 rfl (lv_at hl 1 rfl) ?_
  refine va_get (D := D) (ci := 1) (v := .ref (a 16)) (C := RX1) (T := TX1) (N := 8) hx hb hts hiX1 hown hK hP 4 rfl rfl 0 (by decide) hw4 (fun _ h9 => h9) rfl dX1_tell_35 ?_
  refine lv_iload_n hx hb dX1_tell_38 rfl (lv_at hl 0 rfl) ?_
  refine pg_ild (f := u.2 11) hx hb hK hP 16 0 rfl rfl (show t < _ by omega) (by decide) dX1_tell_39 ?_
  refine lv_iadd hx hb dX1_tell_40 ?_
  refine va_put (D := D) (ci := 1) (v := .int ((u.1 15) + (u.2 11 t))) (ty := .int) (C := RX1) (T := TX1) (N := 8) hx hb hts hiX1 tyX1 tyX1_ok nmX1 hown hK hP hD hS 4 rfl rfl 7 (by decide) hw3 (fun _ h9 => h9) rfl (by decide +kernel) rfl rfl (Nat.le_of_ble_eq_true rfl) dX1_tell_41 (fun H locs hP hD hS => ?_)
  have hP : va_P D vwCl (pg_wB cI cZ a ((upd (upd (upd u.1 13 (nI (t + 1))) 14 ((u.1 14) + x)) 15 ((u.1 15) + (u.2 11 t))), u.2)) H := hP
  have hD : va_D A (pg_wB cI cZ a ((upd (upd (upd u.1 13 (nI (t + 1))) 14 ((u.1 14) + x)) 15 ((u.1 15) + (u.2 11 t))), u.2)) := hD
  refine lv_aload_n hx hb dX1_tell_44 rfl (lv_at hl 1 rfl) ?_
  refine va_get (D := D) (ci := 1) (v := .int (u.1 11)) (C := RX1) (T := TX1) (N := 8) hx hb hts hiX1 hown hK hP 4 rfl rfl 3 (by decide) hw5 (fun _ h9 => h9) rfl dX1_tell_45 ?_
  refine lv_if_eq (tgt := 72) hx hb dX1_tell_48 (by decide) (fun c_48 => ?_) (fun c_48 => ?_)
  · refine lv_iload_n hx hb dX1_tell_72 rfl (lv_at hl 2 rfl) ?_
    refine lv_aload_n hx hb dX1_tell_73 rfl (lv_at hl 1 rfl) ?_
    refine va_get (D := D) (ci := 1) (v := .ref (a 16)) (C := RX1) (T := TX1) (N := 8) hx hb hts hiX1 hown hK hP 4 rfl rfl 0 (by decide) hw4 (fun _ h9 => h9) rfl dX1_tell_74 ?_
    refine lv_iload_n hx hb dX1_tell_77 rfl (lv_at hl 0 rfl) ?_
    refine pg_ild (f := u.2 11) hx hb hK hP 16 0 rfl rfl (show t < _ by omega) (by decide) dX1_tell_78 ?_
    refine lv_icmp_lt (tgt := 94) hx hb dX1_tell_79 (by decide) (fun c_79 => ?_) (fun c_79 => ?_)
    · refine lv_iconst (v := 0) hx hb dX1_tell_94 (by decide) ?_
      have ek : pg_tk u t x = t + 1 := by rw [pg_tk, if_pos c_48, if_pos c_79]
      exact W.iret (v := 0) hx hb hr (fun t9 ht9 hW9 => ⟨⟨0, ((upd (upd (upd u.1 13 (nI (t + 1))) 14 ((u.1 14) + x)) 15 ((u.1 15) + (u.2 11 t))), u.2), rfl, ⟨by rw [pg_tellr, ek, pg_msum_0], by rw [pg_tell, ek, pg_met_0, pg_row_self]⟩, by rw [ht9]; exact hP, va_K.moved hW9.alike hK, hD⟩, hS.F ht9⟩) hS.2.2 dX1_tell_95
    · refine lv_aload_n hx hb dX1_tell_82 rfl (lv_at hl 1 rfl) ?_
      refine lv_iload_n hx hb dX1_tell_83 rfl (lv_at hl 0 rfl) ?_
      refine lv_aload_n hx hb dX1_tell_84 rfl (lv_at hl 1 rfl) ?_
      refine va_get (D := D) (ci := 1) (v := .int (nI (t + 1))) (C := RX1) (T := TX1) (N := 8) hx hb hts hiX1 hown hK hP 4 rfl rfl 5 (by decide) hw1 (fun _ h9 => h9) rfl dX1_tell_85 ?_
      refine pg_iE (pg_rV (As := [.int (nI t), .int (nI (t + 1))]) (rest := []) ⟨hx, hb, hml, hown, hts⟩ (cc_meet l D cI cZ a H.size ((upd (upd (upd u.1 13 (nI (t + 1))) 14 ((u.1 14) + x)) 15 ((u.1 15) + (u.2 11 t))), u.2) t (t + 1) (by omega) (by omega)) (cwV 2 hts gX1_tell_X1_meet rfl rfl rfl (by decide +kernel) ⟨Nat.le_of_ble_eq_true rfl, Nat.le_of_ble_eq_true rfl⟩) hK hP hD 4 (ci := 1) rfl rfl rfl rfl hl.1 rfl (Nat.le_of_ble_eq_true rfl) dX1_tell_88 ⟨Nat.le_of_ble_eq_true rfl, Nat.le_of_ble_eq_true rfl⟩) hD hS hA (fun H locs hP hD hS => ?_)
      refine lv_goto (tgt := 95) hx hb dX1_tell_91 (by decide) ?_
      have ek : pg_tk u t x = t := by rw [pg_tk, if_pos c_48, if_neg c_79]
      exact W.iret (v := pg_msum u.2 t (t + 1)) hx hb hr (fun t9 ht9 hW9 => ⟨⟨pg_msum u.2 t (t + 1), ((upd (upd (upd u.1 13 (nI (t + 1))) 14 ((u.1 14) + x)) 15 ((u.1 15) + (u.2 11 t))), pg_row u.2 13 (pg_met u.2 t (t + 1))), rfl, ⟨by rw [pg_tellr, ek], by rw [pg_tell, ek]⟩, by rw [ht9]; exact hP, va_K.moved hW9.alike hK, hD⟩, hS.F ht9⟩) hS.2.2 dX1_tell_95
  · refine lv_aload_n hx hb dX1_tell_51 rfl (lv_at hl 1 rfl) ?_
    refine va_get (D := D) (ci := 1) (v := .int ((u.1 14) + x)) (C := RX1) (T := TX1) (N := 8) hx hb hts hiX1 hown hK hP 4 rfl rfl 6 (by decide) hw2 (fun _ h9 => h9) rfl dX1_tell_52 ?_
    refine lv_aload_n hx hb dX1_tell_55 rfl (lv_at hl 1 rfl) ?_
    refine va_get (D := D) (ci := 1) (v := .int ((u.1 15) + (u.2 11 t))) (C := RX1) (T := TX1) (N := 8) hx hb hts hiX1 hown hK hP 4 rfl rfl 7 (by decide) hw3 (fun _ h9 => h9) rfl dX1_tell_56 ?_
    refine lv_icmp_lt (tgt := 72) hx hb dX1_tell_59 (by decide) (fun c_59 => ?_) (fun c_59 => ?_)
    · refine lv_iload_n hx hb dX1_tell_72 rfl (lv_at hl 2 rfl) ?_
      refine lv_aload_n hx hb dX1_tell_73 rfl (lv_at hl 1 rfl) ?_
      refine va_get (D := D) (ci := 1) (v := .ref (a 16)) (C := RX1) (T := TX1) (N := 8) hx hb hts hiX1 hown hK hP 4 rfl rfl 0 (by decide) hw4 (fun _ h9 => h9) rfl dX1_tell_74 ?_
      refine lv_iload_n hx hb dX1_tell_77 rfl (lv_at hl 0 rfl) ?_
      refine pg_ild (f := u.2 11) hx hb hK hP 16 0 rfl rfl (show t < _ by omega) (by decide) dX1_tell_78 ?_
      refine lv_icmp_lt (tgt := 94) hx hb dX1_tell_79 (by decide) (fun c_79 => ?_) (fun c_79 => ?_)
      · refine lv_iconst (v := 0) hx hb dX1_tell_94 (by decide) ?_
        have ek : pg_tk u t x = t + 1 := by rw [pg_tk, if_neg c_48, if_pos c_59, if_pos c_79]
        exact W.iret (v := 0) hx hb hr (fun t9 ht9 hW9 => ⟨⟨0, ((upd (upd (upd u.1 13 (nI (t + 1))) 14 ((u.1 14) + x)) 15 ((u.1 15) + (u.2 11 t))), u.2), rfl, ⟨by rw [pg_tellr, ek, pg_msum_0], by rw [pg_tell, ek, pg_met_0, pg_row_self]⟩, by rw [ht9]; exact hP, va_K.moved hW9.alike hK, hD⟩, hS.F ht9⟩) hS.2.2 dX1_tell_95
      · refine lv_aload_n hx hb dX1_tell_82 rfl (lv_at hl 1 rfl) ?_
        refine lv_iload_n hx hb dX1_tell_83 rfl (lv_at hl 0 rfl) ?_
        refine lv_aload_n hx hb dX1_tell_84 rfl (lv_at hl 1 rfl) ?_
        refine va_get (D := D) (ci := 1) (v := .int (nI (t + 1))) (C := RX1) (T := TX1) (N := 8) hx hb hts hiX1 hown hK hP 4 rfl rfl 5 (by decide) hw1 (fun _ h9 => h9) rfl dX1_tell_85 ?_
        refine pg_iE (pg_rV (As := [.int (nI t), .int (nI (t + 1))]) (rest := []) ⟨hx, hb, hml, hown, hts⟩ (cc_meet l D cI cZ a H.size ((upd (upd (upd u.1 13 (nI (t + 1))) 14 ((u.1 14) + x)) 15 ((u.1 15) + (u.2 11 t))), u.2) t (t + 1) (by omega) (by omega)) (cwV 2 hts gX1_tell_X1_meet rfl rfl rfl (by decide +kernel) ⟨Nat.le_of_ble_eq_true rfl, Nat.le_of_ble_eq_true rfl⟩) hK hP hD 4 (ci := 1) rfl rfl rfl rfl hl.1 rfl (Nat.le_of_ble_eq_true rfl) dX1_tell_88 ⟨Nat.le_of_ble_eq_true rfl, Nat.le_of_ble_eq_true rfl⟩) hD hS hA (fun H locs hP hD hS => ?_)
        refine lv_goto (tgt := 95) hx hb dX1_tell_91 (by decide) ?_
        have ek : pg_tk u t x = t := by rw [pg_tk, if_neg c_48, if_pos c_59, if_neg c_79]
        exact W.iret (v := pg_msum u.2 t (t + 1)) hx hb hr (fun t9 ht9 hW9 => ⟨⟨pg_msum u.2 t (t + 1), ((upd (upd (upd u.1 13 (nI (t + 1))) 14 ((u.1 14) + x)) 15 ((u.1 15) + (u.2 11 t))), pg_row u.2 13 (pg_met u.2 t (t + 1))), rfl, ⟨by rw [pg_tellr, ek], by rw [pg_tell, ek]⟩, by rw [ht9]; exact hP, va_K.moved hW9.alike hK, hD⟩, hS.F ht9⟩) hS.2.2 dX1_tell_95
    · refine lv_aload_n hx hb dX1_tell_62 rfl (lv_at hl 1 rfl) ?_
      refine lv_iconst (v := 0) hx hb dX1_tell_63 (by decide) ?_
      refine lv_aload_n hx hb dX1_tell_64 rfl (lv_at hl 1 rfl) ?_
      refine va_get (D := D) (ci := 1) (v := .int (nI (t + 1))) (C := RX1) (T := TX1) (N := 8) hx hb hts hiX1 hown hK hP 4 rfl rfl 5 (by decide) hw1 (fun _ h9 => h9) rfl dX1_tell_65 ?_
      refine pg_iE (pg_rV (As := [.int (nI 0), .int (nI (t + 1))]) (rest := []) ⟨hx, hb, hml, hown, hts⟩ (cc_meet l D cI cZ a H.size ((upd (upd (upd u.1 13 (nI (t + 1))) 14 ((u.1 14) + x)) 15 ((u.1 15) + (u.2 11 t))), u.2) 0 (t + 1) (by omega) (by omega)) (cwV 2 hts gX1_tell_X1_meet rfl rfl rfl (by decide +kernel) ⟨Nat.le_of_ble_eq_true rfl, Nat.le_of_ble_eq_true rfl⟩) hK hP hD 4 (ci := 1) rfl rfl rfl rfl hl.1 rfl (Nat.le_of_ble_eq_true rfl) dX1_tell_68 ⟨Nat.le_of_ble_eq_true rfl, Nat.le_of_ble_eq_true rfl⟩) hD hS hA (fun H locs hP hD hS => ?_)
      have ek : pg_tk u t x = 0 := by rw [pg_tk, if_neg c_48, if_neg c_59]
      exact W.iret (v := pg_msum u.2 0 (t + 1)) hx hb hr (fun t9 ht9 hW9 => ⟨⟨pg_msum u.2 0 (t + 1), ((upd (upd (upd u.1 13 (nI (t + 1))) 14 ((u.1 14) + x)) 15 ((u.1 15) + (u.2 11 t))), pg_row u.2 13 (pg_met u.2 0 (t + 1))), rfl, ⟨by rw [pg_tellr, ek], by rw [pg_tell, ek]⟩, by rw [ht9]; exact hP, va_K.moved hW9.alike hK, hD⟩, hS.F ht9⟩) hS.2.2 dX1_tell_71
set_option maxHeartbeats 4000000 in
set_option maxRecDepth 100000 in
/-- EarnOut.hasten() -/
theorem cc_hasten (l : Launch) (D : va_G) (cI cZ : ClassId) (a : Nat → Nat) (sz : Nat) (u : pg_St) (t : Nat) (ht : u.1 13 = nI t) (h4 : t ≤ 4) : Met l yX1_hasten wsX1_hasten ({ frames := 1, cells := 0, slots := 0, locals := 24 }) (va_Pc [.ref (a 4)] (pg_B D (pg_ty cI cZ) (pg_wB cI cZ a u) sz)) (va_Qi (fun r u' => r = pg_hasr u t ∧ u' = pg_has u t) (pg_E D (pg_ty cI cZ) (va_A (pg_wB cI cZ a u) sz) (pg_wB cI cZ a)) (va_A (pg_wB cI cZ a u) sz)) 0 0 (va_A (pg_wB cI cZ a u) sz) := by
  refine Met.ofW (cc := cX1_hasten) (maxL := 1) (ret := (some .int)) (by decide) rfl ?_
  intro p e s m args below meth c s₁ B hml hv
  obtain ⟨rfl, hsz, hP, hK, hD0⟩ := hv
  have hx := B.exec
  have hb := B.bytes
  have hr := B.returns
  have hts := atoms_spec (ws := wsX1_hasten) B.pre
  have hown : s.vm.findClass RX1 = some m.cls := findClass_of_methodNamed B.named
  have hlocks := B.notSynchronized
  subst hsz
  have hD := hD0.self (sz := s.heap.size)
  generalize hAe : va_A (pg_wB cI cZ a u) s.heap.size = A at hD ⊢
  have hA : ∀ q : Nat, s.heap.size ≤ q → A q := fun q h => by rw [← hAe]; exact Or.inr h
  have hS : va_S A s.heap s.heap [] := va_S.rf
  have hl := lv_entry ([.ref (a 4)]) (n := 1) (Nat.le_of_ble_eq_true rfl)
  rw [lg_entry_eq]
  generalize (lg_sl ([.ref (a 4)]) ++ List.replicate (1 - (lg_sl ([.ref (a 4)])).length) Slot.unset).toArray = ls at hl ⊢
  have hl : lv_has ls 1 [(0, .ref (a 4))] := hl
  have hiX1 : ∀ w ∈ wsX10, w ∈ wsX1_hasten := fun _ h => List.mem_cons_of_mem _ (List.mem_append_right _ (h))
  have hw1 := hts (.fieldLink RX1 40 "PegBox$EarnOut" "isSpedUp" "Z") (List.mem_of_getElem? (i := 1) rfl)
  have hw2 := hts (.fieldLink RX1 22 "PegBox$EarnOut" "told" "I") (List.mem_of_getElem? (i := 2) rfl)
  refine lv_aload_n hx hb dX1_hasten_0 rfl (lv_at hl 0 rfl) ?_
  refine lv_iconst (v := 1) hx hb dX1_hasten_1 (by decide) ?_
  refine va_put (D := D) (ci := 1) (v := .int 1) (ty := .boolean) (C := RX1) (T := TX1) (N := 8) hx hb hts hiX1 tyX1 tyX1_ok nmX1 hown hK hP hD hS 4 rfl rfl 4 (by decide) hw1 (fun _ h9 => h9) rfl (by decide +kernel) rfl rfl (Nat.le_of_ble_eq_true rfl) dX1_hasten_2 (fun H locs hP hD hS => ?_)
  have hP : va_P D vwCl (pg_wB cI cZ a ((upd u.1 12 1), u.2)) H := hP
  have hD : va_D A (pg_wB cI cZ a ((upd u.1 12 1), u.2)) := hD
  refine lv_aload_n hx hb dX1_hasten_5 rfl (lv_at hl 0 rfl) ?_
  refine lv_aload_n hx hb dX1_hasten_6 rfl (lv_at hl 0 rfl) ?_
  refine va_get (D := D) (ci := 1) (v := .int (u.1 13)) (C := RX1) (T := TX1) (N := 8) hx hb hts hiX1 hown hK hP 4 rfl rfl 5 (by decide) hw2 (fun _ h9 => h9) rfl dX1_hasten_7 ?_
  rw [ht]
  refine lv_iconst (v := 4) hx hb dX1_hasten_10 (by decide) ?_
  refine pg_iE (pg_rV (As := [.int (nI t), .int (nI 4)]) (rest := []) ⟨hx, hb, hml, hown, hts⟩ (cc_meet l D cI cZ a H.size ((upd u.1 12 1), u.2) t 4 h4 (by omega)) (cwV 2 hts gX1_hasten_X1_meet rfl rfl rfl (by decide +kernel) ⟨Nat.le_of_ble_eq_true rfl, Nat.le_of_ble_eq_true rfl⟩) hK hP hD 4 (ci := 1) rfl rfl rfl rfl hl.1 rfl (Nat.le_of_ble_eq_true rfl) dX1_hasten_11 ⟨Nat.le_of_ble_eq_true rfl, Nat.le_of_ble_eq_true rfl⟩) hD hS hA (fun H locs hP hD hS => ?_)
  exact W.iret (v := pg_msum u.2 t 4) hx hb hr (fun t9 ht9 hW9 => ⟨⟨pg_msum u.2 t 4, ((upd u.1 12 1), pg_row u.2 13 (pg_met u.2 t 4)), rfl, ⟨rfl, rfl⟩, by rw [ht9]; exact hP, va_K.moved hW9.alike hK, hD⟩, hS.F ht9⟩) hS.2.2 dX1_hasten_14
set_option maxHeartbeats 4000000 in
set_option maxRecDepth 100000 in
theorem cc_num_ok (l : Launch) (D : va_G) (tys : List (ClassId × FieldType)) (ws : va_W) (sz : Nat) (x n : Int32) (h : pg_nb x n = true) : Met l yX4_checkNumber wsX4_checkNumber ({ frames := 0, cells := 0, slots := 0, locals := 0 }) (va_Pc [.int x, .int n] (pg_B D tys (ws) sz)) (va_Qv (fun _ : Unit => True) (pg_E D tys (va_A (ws) sz) (fun _ : Unit => ws)) (va_A (ws) sz)) 0 0 (va_A (ws) sz) := by
  refine Met.ofW (cc := cX4_checkNumber) (maxL := 2) (ret := none) (by decide) rfl ?_
  intro p e s m args below meth c s₁ B hml hv
  obtain ⟨rfl, hsz, hP, hK, hD0⟩ := hv
  have hx := B.exec
  have hb := B.bytes
  have hr := B.returns
  have hts := atoms_spec (ws := wsX4_checkNumber) B.pre
  have hown : s.vm.findClass RX4 = some m.cls := findClass_of_methodNamed B.named
  have hlocks := B.notSynchronized
  subst hsz
  have hD := hD0.self (sz := s.heap.size)
  generalize hAe : va_A (ws) s.heap.size = A at hD ⊢
  have hA : ∀ q : Nat, s.heap.size ≤ q → A q := fun q h => by rw [← hAe]; exact Or.inr h
  have hS : va_S A s.heap s.heap [] := va_S.rf
  have hl := lv_entry ([.int x, .int n]) (n := 2) (Nat.le_of_ble_eq_true rfl)
  rw [lg_entry_eq]
  generalize (lg_sl ([.int x, .int n]) ++ List.replicate (2 - (lg_sl ([.int x, .int n])).length) Slot.unset).toArray = ls at hl ⊢
  have hl : lv_has ls 2 [(0, .int x), (1, .int n)] := hl
  refine lv_iload_n hx hb dX4_checkNumber_0 rfl (lv_at hl 0 rfl) ?_
  refine lv_if_lt (tgt := 9) hx hb dX4_checkNumber_1 (by decide) (fun c_1 => absurd c_1 (pg_nb_e h).1) (fun c_1 => ?_)
  refine lv_iload_n hx hb dX4_checkNumber_4 rfl (lv_at hl 0 rfl) ?_
  refine lv_iload_n hx hb dX4_checkNumber_5 rfl (lv_at hl 1 rfl) ?_
  refine lv_icmp_lt (tgt := 19) hx hb dX4_checkNumber_6 (by decide) (fun c_6 => ?_) (fun c_6 => absurd (pg_nb_e h).2 c_6)
  exact W.vret hx hb hr (fun t9 ht9 hW9 => ⟨⟨(), rfl, trivial, by rw [ht9]; exact hP, va_K.moved hW9.alike hK, hD⟩, hS.F ht9⟩) hS.2.2 dX4_checkNumber_19
set_option maxHeartbeats 4000000 in
set_option maxRecDepth 100000 in
theorem cc_num_no (l : Launch) (hfl : l.stackTraces = false) (D : va_G) (tys : List (ClassId × FieldType)) (ws : va_W) (sz : Nat) (x n : Int32) (h : pg_nb x n = false) : vx_Met l yX4_checkNumber wsX4_checkNumber ({ frames := 6, cells := 1, slots := 6, locals := 86 }) (va_Pc [.int x, .int n] (pg_T D tys (ws) sz)) pg_No (pg_X D (ws) (va_A (ws) sz) pg_io) 1 6 (va_A (ws) sz) := by
  refine vx_ofW (cc := cX4_checkNumber) (maxL := 2) (ret := none) (by decide) rfl ?_
  intro p e s m args below meth c s₁ B hml hout hv
  obtain ⟨rfl, ⟨hsz, hP, hK, hD0⟩, hE⟩ := hv
  have hx := B.exec
  have hb := B.bytes
  have hr := B.returns
  have hts := atoms_spec (ws := wsX4_checkNumber) B.pre
  have hown : s.vm.findClass RX4 = some m.cls := findClass_of_methodNamed B.named
  have hlocks := B.notSynchronized
  subst hsz
  have hD := hD0.self (sz := s.heap.size)
  generalize hAe : va_A (ws) s.heap.size = A at hD hE ⊢
  have hA : ∀ q : Nat, s.heap.size ≤ q → A q := fun q h => by rw [← hAe]; exact Or.inr h
  have hS : va_S A s.heap s.heap [] := va_S.rf
  have hl := lv_entry ([.int x, .int n]) (n := 2) (Nat.le_of_ble_eq_true rfl)
  rw [lg_entry_eq]
  generalize (lg_sl ([.int x, .int n]) ++ List.replicate (2 - (lg_sl ([.int x, .int n])).length) Slot.unset).toArray = ls at hl ⊢
  have hl : lv_has ls 2 [(0, .int x), (1, .int n)] := hl
  have hw1 := hts (.classLink RX4 199 "java/lang/IndexOutOfBoundsException") (List.mem_of_getElem? (i := 1) rfl)
  have hw2 := hts (.initialized "java/lang/IndexOutOfBoundsException") (List.mem_of_getElem? (i := 2) rfl)
  refine lv_iload_n hx hb dX4_checkNumber_0 rfl (lv_at hl 0 rfl) ?_
  refine lv_if_lt (tgt := 9) hx hb dX4_checkNumber_1 (by decide) (fun c_1 => ?_) (fun c_1 => ?_)
  · exact pg_thr (nm := pg_io) (i := 0) hx hb hfl hown (by decide +kernel) hw1 hw2 rfl (fun w9 h => hts w9 (List.mem_cons_of_mem _ (List.mem_append_right _ (h)))) pg_h2_io pg_hg_io hE hP hS hA (by rw [hml]; exact hl.1) dX4_checkNumber_9 dX4_checkNumber_12 dX4_checkNumber_13 dX4_checkNumber_15 dX4_checkNumber_18 hout (Nat.le_of_ble_eq_true rfl) (Nat.le_of_ble_eq_true rfl) (Nat.le_of_ble_eq_true rfl) (Nat.le_of_ble_eq_true rfl) hlocks (Nat.le_of_ble_eq_true rfl) (Nat.le_of_ble_eq_true rfl)
  · refine lv_iload_n hx hb dX4_checkNumber_4 rfl (lv_at hl 0 rfl) ?_
    refine lv_iload_n hx hb dX4_checkNumber_5 rfl (lv_at hl 1 rfl) ?_
    refine lv_icmp_lt (tgt := 19) hx hb dX4_checkNumber_6 (by decide) (fun c_6 => ?_) (fun c_6 => ?_)
    · exact pg_no (pg_nb_t c_1 c_6) h
    · exact pg_thr (nm := pg_io) (i := 0) hx hb hfl hown (by decide +kernel) hw1 hw2 rfl (fun w9 h => hts w9 (List.mem_cons_of_mem _ (List.mem_append_right _ (h)))) pg_h2_io pg_hg_io hE hP hS hA (by rw [hml]; exact hl.1) dX4_checkNumber_9 dX4_checkNumber_12 dX4_checkNumber_13 dX4_checkNumber_15 dX4_checkNumber_18 hout (Nat.le_of_ble_eq_true rfl) (Nat.le_of_ble_eq_true rfl) (Nat.le_of_ble_eq_true rfl) (Nat.le_of_ble_eq_true rfl) hlocks (Nat.le_of_ble_eq_true rfl) (Nat.le_of_ble_eq_true rfl)
set_option maxHeartbeats 4000000 in
set_option maxRecDepth 100000 in
theorem cc_rng_ok (l : Launch) (D : va_G) (tys : List (ClassId × FieldType)) (ws : va_W) (sz : Nat) (x lo hi : Int32) (h : pg_in x lo hi = true) : Met l yX4_checkRange wsX4_checkRange ({ frames := 0, cells := 0, slots := 0, locals := 0 }) (va_Pc [.int x, .int lo, .int hi] (pg_B D tys (ws) sz)) (va_Qv (fun _ : Unit => True) (pg_E D tys (va_A (ws) sz) (fun _ : Unit => ws)) (va_A (ws) sz)) 0 0 (va_A (ws) sz) := by
  refine Met.ofW (cc := cX4_checkRange) (maxL := 3) (ret := none) (by decide) rfl ?_
  intro p e s m args below meth c s₁ B hml hv
  obtain ⟨rfl, hsz, hP, hK, hD0⟩ := hv
  have hx := B.exec
  have hb := B.bytes
  have hr := B.returns
  have hts := atoms_spec (ws := wsX4_checkRange) B.pre
  have hown : s.vm.findClass RX4 = some m.cls := findClass_of_methodNamed B.named
  have hlocks := B.notSynchronized
  subst hsz
  have hD := hD0.self (sz := s.heap.size)
  generalize hAe : va_A (ws) s.heap.size = A at hD ⊢
  have hA : ∀ q : Nat, s.heap.size ≤ q → A q := fun q h => by rw [← hAe]; exact Or.inr h
  have hS : va_S A s.heap s.heap [] := va_S.rf
  have hl := lv_entry ([.int x, .int lo, .int hi]) (n := 3) (Nat.le_of_ble_eq_true rfl)
  rw [lg_entry_eq]
  generalize (lg_sl ([.int x, .int lo, .int hi]) ++ List.replicate (3 - (lg_sl ([.int x, .int lo, .int hi])).length) Slot.unset).toArray = ls at hl ⊢
  have hl : lv_has ls 3 [(0, .int x), (1, .int lo), (2, .int hi)] := hl
  refine lv_iload_n hx hb dX4_checkRange_0 rfl (lv_at hl 0 rfl) ?_
  refine lv_iload_n hx hb dX4_checkRange_1 rfl (lv_at hl 1 rfl) ?_
  refine lv_icmp_lt (tgt := 10) hx hb dX4_checkRange_2 (by decide) (fun c_2 => absurd c_2 (pg_in_e h).1) (fun c_2 => ?_)
  refine lv_iload_n hx hb dX4_checkRange_5 rfl (lv_at hl 0 rfl) ?_
  refine lv_iload_n hx hb dX4_checkRange_6 rfl (lv_at hl 2 rfl) ?_
  refine lv_icmp_le (tgt := 20) hx hb dX4_checkRange_7 (by decide) (fun c_7 => ?_) (fun c_7 => absurd (pg_in_e h).2 c_7)
  exact W.vret hx hb hr (fun t9 ht9 hW9 => ⟨⟨(), rfl, trivial, by rw [ht9]; exact hP, va_K.moved hW9.alike hK, hD⟩, hS.F ht9⟩) hS.2.2 dX4_checkRange_20
set_option maxHeartbeats 4000000 in
set_option maxRecDepth 100000 in
theorem cc_rng_no (l : Launch) (hfl : l.stackTraces = false) (D : va_G) (tys : List (ClassId × FieldType)) (ws : va_W) (sz : Nat) (x lo hi : Int32) (h : pg_in x lo hi = false) : vx_Met l yX4_checkRange wsX4_checkRange ({ frames := 6, cells := 1, slots := 6, locals := 86 }) (va_Pc [.int x, .int lo, .int hi] (pg_T D tys (ws) sz)) pg_No (pg_X D (ws) (va_A (ws) sz) pg_ia) 1 6 (va_A (ws) sz) := by
  refine vx_ofW (cc := cX4_checkRange) (maxL := 3) (ret := none) (by decide) rfl ?_
  intro p e s m args below meth c s₁ B hml hout hv
  obtain ⟨rfl, ⟨hsz, hP, hK, hD0⟩, hE⟩ := hv
  have hx := B.exec
  have hb := B.bytes
  have hr := B.returns
  have hts := atoms_spec (ws := wsX4_checkRange) B.pre
  have hown : s.vm.findClass RX4 = some m.cls := findClass_of_methodNamed B.named
  have hlocks := B.notSynchronized
  subst hsz
  have hD := hD0.self (sz := s.heap.size)
  generalize hAe : va_A (ws) s.heap.size = A at hD hE ⊢
  have hA : ∀ q : Nat, s.heap.size ≤ q → A q := fun q h => by rw [← hAe]; exact Or.inr h
  have hS : va_S A s.heap s.heap [] := va_S.rf
  have hl := lv_entry ([.int x, .int lo, .int hi]) (n := 3) (Nat.le_of_ble_eq_true rfl)
  rw [lg_entry_eq]
  generalize (lg_sl ([.int x, .int lo, .int hi]) ++ List.replicate (3 - (lg_sl ([.int x, .int lo, .int hi])).length) Slot.unset).toArray = ls at hl ⊢
  have hl : lv_has ls 3 [(0, .int x), (1, .int lo), (2, .int hi)] := hl
  have hw1 := hts (.classLink RX4 204 "java/lang/IllegalArgumentException") (List.mem_of_getElem? (i := 1) rfl)
  have hw2 := hts (.initialized "java/lang/IllegalArgumentException") (List.mem_of_getElem? (i := 2) rfl)
  refine lv_iload_n hx hb dX4_checkRange_0 rfl (lv_at hl 0 rfl) ?_
  refine lv_iload_n hx hb dX4_checkRange_1 rfl (lv_at hl 1 rfl) ?_
  refine lv_icmp_lt (tgt := 10) hx hb dX4_checkRange_2 (by decide) (fun c_2 => ?_) (fun c_2 => ?_)
  · exact pg_thr (nm := pg_ia) (i := 1) hx hb hfl hown (by decide +kernel) hw1 hw2 rfl (fun w9 h => hts w9 (List.mem_cons_of_mem _ (List.mem_append_right _ (h)))) pg_h2_ia pg_hg_ia hE hP hS hA (by rw [hml]; exact hl.1) dX4_checkRange_10 dX4_checkRange_13 dX4_checkRange_14 dX4_checkRange_16 dX4_checkRange_19 hout (Nat.le_of_ble_eq_true rfl) (Nat.le_of_ble_eq_true rfl) (Nat.le_of_ble_eq_true rfl) (Nat.le_of_ble_eq_true rfl) hlocks (Nat.le_of_ble_eq_true rfl) (Nat.le_of_ble_eq_true rfl)
  · refine lv_iload_n hx hb dX4_checkRange_5 rfl (lv_at hl 0 rfl) ?_
    refine lv_iload_n hx hb dX4_checkRange_6 rfl (lv_at hl 2 rfl) ?_
    refine lv_icmp_le (tgt := 20) hx hb dX4_checkRange_7 (by decide) (fun c_7 => ?_) (fun c_7 => ?_)
    · exact pg_no (pg_in_t c_2 c_7) h
    · exact pg_thr (nm := pg_ia) (i := 1) hx hb hfl hown (by decide +kernel) hw1 hw2 rfl (fun w9 h => hts w9 (List.mem_cons_of_mem _ (List.mem_append_right _ (h)))) pg_h2_ia pg_hg_ia hE hP hS hA (by rw [hml]; exact hl.1) dX4_checkRange_10 dX4_checkRange_13 dX4_checkRange_14 dX4_checkRange_16 dX4_checkRange_19 hout (Nat.le_of_ble_eq_true rfl) (Nat.le_of_ble_eq_true rfl) (Nat.le_of_ble_eq_true rfl) (Nat.le_of_ble_eq_true rfl) hlocks (Nat.le_of_ble_eq_true rfl) (Nat.le_of_ble_eq_true rfl)
set_option maxHeartbeats 4000000 in
set_option maxRecDepth 100000 in
theorem cc_opn_ok (l : Launch) (D : va_G) (tys : List (ClassId × FieldType)) (ws : va_W) (sz : Nat) (x : Int32) (h : pg_eq x (-1) = true) : Met l yX4_checkOpen wsX4_checkOpen ({ frames := 0, cells := 0, slots := 0, locals := 0 }) (va_Pc [.int x] (pg_B D tys (ws) sz)) (va_Qv (fun _ : Unit => True) (pg_E D tys (va_A (ws) sz) (fun _ : Unit => ws)) (va_A (ws) sz)) 0 0 (va_A (ws) sz) := by
  refine Met.ofW (cc := cX4_checkOpen) (maxL := 1) (ret := none) (by decide) rfl ?_
  intro p e s m args below meth c s₁ B hml hv
  obtain ⟨rfl, hsz, hP, hK, hD0⟩ := hv
  have hx := B.exec
  have hb := B.bytes
  have hr := B.returns
  have hts := atoms_spec (ws := wsX4_checkOpen) B.pre
  have hown : s.vm.findClass RX4 = some m.cls := findClass_of_methodNamed B.named
  have hlocks := B.notSynchronized
  subst hsz
  have hD := hD0.self (sz := s.heap.size)
  generalize hAe : va_A (ws) s.heap.size = A at hD ⊢
  have hA : ∀ q : Nat, s.heap.size ≤ q → A q := fun q h => by rw [← hAe]; exact Or.inr h
  have hS : va_S A s.heap s.heap [] := va_S.rf
  have hl := lv_entry ([.int x]) (n := 1) (Nat.le_of_ble_eq_true rfl)
  rw [lg_entry_eq]
  generalize (lg_sl ([.int x]) ++ List.replicate (1 - (lg_sl ([.int x])).length) Slot.unset).toArray = ls at hl ⊢
  have hl : lv_has ls 1 [(0, .int x)] := hl
  refine lv_iload_n hx hb dX4_checkOpen_0 rfl (lv_at hl 0 rfl) ?_
  refine lv_iconst (v := (-1)) hx hb dX4_checkOpen_1 (by decide) ?_
  refine lv_icmp_eq (tgt := 15) hx hb dX4_checkOpen_2 (by decide) (fun c_2 => ?_) (fun c_2 => absurd (pg_eq_e h) c_2)
  exact W.vret hx hb hr (fun t9 ht9 hW9 => ⟨⟨(), rfl, trivial, by rw [ht9]; exact hP, va_K.moved hW9.alike hK, hD⟩, hS.F ht9⟩) hS.2.2 dX4_checkOpen_15
set_option maxHeartbeats 4000000 in
set_option maxRecDepth 100000 in
theorem cc_opn_no (l : Launch) (hfl : l.stackTraces = false) (D : va_G) (tys : List (ClassId × FieldType)) (ws : va_W) (sz : Nat) (x : Int32) (h : pg_eq x (-1) = false) : vx_Met l yX4_checkOpen wsX4_checkOpen ({ frames := 6, cells := 1, slots := 6, locals := 86 }) (va_Pc [.int x] (pg_T D tys (ws) sz)) pg_No (pg_X D (ws) (va_A (ws) sz) pg_is) 1 6 (va_A (ws) sz) := by
  refine vx_ofW (cc := cX4_checkOpen) (maxL := 1) (ret := none) (by decide) rfl ?_
  intro p e s m args below meth c s₁ B hml hout hv
  obtain ⟨rfl, ⟨hsz, hP, hK, hD0⟩, hE⟩ := hv
  have hx := B.exec
  have hb := B.bytes
  have hr := B.returns
  have hts := atoms_spec (ws := wsX4_checkOpen) B.pre
  have hown : s.vm.findClass RX4 = some m.cls := findClass_of_methodNamed B.named
  have hlocks := B.notSynchronized
  subst hsz
  have hD := hD0.self (sz := s.heap.size)
  generalize hAe : va_A (ws) s.heap.size = A at hD hE ⊢
  have hA : ∀ q : Nat, s.heap.size ≤ q → A q := fun q h => by rw [← hAe]; exact Or.inr h
  have hS : va_S A s.heap s.heap [] := va_S.rf
  have hl := lv_entry ([.int x]) (n := 1) (Nat.le_of_ble_eq_true rfl)
  rw [lg_entry_eq]
  generalize (lg_sl ([.int x]) ++ List.replicate (1 - (lg_sl ([.int x])).length) Slot.unset).toArray = ls at hl ⊢
  have hl : lv_has ls 1 [(0, .int x)] := hl
  have hw1 := hts (.classLink RX4 124 "java/lang/IllegalStateException") (List.mem_of_getElem? (i := 1) rfl)
  have hw2 := hts (.initialized "java/lang/IllegalStateException") (List.mem_of_getElem? (i := 2) rfl)
  refine lv_iload_n hx hb dX4_checkOpen_0 rfl (lv_at hl 0 rfl) ?_
  refine lv_iconst (v := (-1)) hx hb dX4_checkOpen_1 (by decide) ?_
  refine lv_icmp_eq (tgt := 15) hx hb dX4_checkOpen_2 (by decide) (fun c_2 => absurd c_2 (pg_eq_n h)) (fun c_2 => ?_)
  exact pg_thr (nm := pg_is) (i := 2) hx hb hfl hown (by decide +kernel) hw1 hw2 rfl (fun w9 h => hts w9 (List.mem_cons_of_mem _ (List.mem_append_right _ (h)))) pg_h2_is pg_hg_is hE hP hS hA (by rw [hml]; exact hl.1) dX4_checkOpen_5 dX4_checkOpen_8 dX4_checkOpen_9 dX4_checkOpen_11 dX4_checkOpen_14 hout (Nat.le_of_ble_eq_true rfl) (Nat.le_of_ble_eq_true rfl) (Nat.le_of_ble_eq_true rfl) (Nat.le_of_ble_eq_true rfl) hlocks (Nat.le_of_ble_eq_true rfl) (Nat.le_of_ble_eq_true rfl)
set_option maxHeartbeats 4000000 in
set_option maxRecDepth 100000 in
theorem cc_ncl_ok (l : Launch) (D : va_G) (cI cZ : ClassId) (a : Nat → Nat) (sz : Nat) (u : pg_St) (h : pg_eq (u.1 3) (-1) = true) : Met l yX4_checkNotClosed wsX4_checkNotClosed ({ frames := 0, cells := 0, slots := 0, locals := 0 }) (va_Pc [.ref (a 0)] (pg_B D (pg_ty cI cZ) (pg_wB cI cZ a u) sz)) (va_Qv (fun u' => u' = u) (pg_E D (pg_ty cI cZ) (va_A (pg_wB cI cZ a u) sz) (pg_wB cI cZ a)) (va_A (pg_wB cI cZ a u) sz)) 0 0 (va_A (pg_wB cI cZ a u) sz) := by
  refine Met.ofW (cc := cX4_checkNotClosed) (maxL := 1) (ret := none) (by decide) rfl ?_
  intro p e s m args below meth c s₁ B hml hv
  obtain ⟨rfl, hsz, hP, hK, hD0⟩ := hv
  have hx := B.exec
  have hb := B.bytes
  have hr := B.returns
  have hts := atoms_spec (ws := wsX4_checkNotClosed) B.pre
  have hown : s.vm.findClass RX4 = some m.cls := findClass_of_methodNamed B.named
  have hlocks := B.notSynchronized
  subst hsz
  have hD := hD0.self (sz := s.heap.size)
  generalize hAe : va_A (pg_wB cI cZ a u) s.heap.size = A at hD ⊢
  have hA : ∀ q : Nat, s.heap.size ≤ q → A q := fun q h => by rw [← hAe]; exact Or.inr h
  have hS : va_S A s.heap s.heap [] := va_S.rf
  have hl := lv_entry ([.ref (a 0)]) (n := 1) (Nat.le_of_ble_eq_true rfl)
  rw [lg_entry_eq]
  generalize (lg_sl ([.ref (a 0)]) ++ List.replicate (1 - (lg_sl ([.ref (a 0)])).length) Slot.unset).toArray = ls at hl ⊢
  have hl : lv_has ls 1 [(0, .ref (a 0))] := hl
  have hiX4 : ∀ w ∈ wsX40, w ∈ wsX4_checkNotClosed := fun _ h => List.mem_cons_of_mem _ (List.mem_append_left _ (List.mem_append_right _ (h)))
  have hw3 := hts (.fieldLink RX4 37 "PegBox" "day" "I") (List.mem_of_getElem? (i := 3) rfl)
  refine lv_aload_n hx hb dX4_checkNotClosed_0 rfl (lv_at hl 0 rfl) ?_
  refine va_get (D := D) (ci := 4) (v := .int (u.1 3)) (C := RX4) (T := TX4) (N := 14) hx hb hts hiX4 hown hK hP 0 rfl rfl 7 (by decide) hw3 (fun _ h9 => h9) rfl dX4_checkNotClosed_1 ?_
  refine lv_iconst (v := (-1)) hx hb dX4_checkNotClosed_4 (by decide) ?_
  refine lv_icmp_eq (tgt := 18) hx hb dX4_checkNotClosed_5 (by decide) (fun c_5 => ?_) (fun c_5 => absurd (pg_eq_e h) c_5)
  exact W.vret hx hb hr (fun t9 ht9 hW9 => ⟨⟨u, rfl, rfl, by rw [ht9]; exact hP, va_K.moved hW9.alike hK, hD⟩, hS.F ht9⟩) hS.2.2 dX4_checkNotClosed_18
set_option maxHeartbeats 4000000 in
set_option maxRecDepth 100000 in
theorem cc_ncl_no (l : Launch) (hfl : l.stackTraces = false) (D : va_G) (cI cZ : ClassId) (a : Nat → Nat) (sz : Nat) (u : pg_St) (h : pg_eq (u.1 3) (-1) = false) : vx_Met l yX4_checkNotClosed wsX4_checkNotClosed ({ frames := 6, cells := 1, slots := 6, locals := 86 }) (va_Pc [.ref (a 0)] (pg_T D (pg_ty cI cZ) (pg_wB cI cZ a u) sz)) pg_No (pg_X D (pg_wB cI cZ a u) (va_A (pg_wB cI cZ a u) sz) pg_is) 1 6 (va_A (pg_wB cI cZ a u) sz) := by
  refine vx_ofW (cc := cX4_checkNotClosed) (maxL := 1) (ret := none) (by decide) rfl ?_
  intro p e s m args below meth c s₁ B hml hout hv
  obtain ⟨rfl, ⟨hsz, hP, hK, hD0⟩, hE⟩ := hv
  have hx := B.exec
  have hb := B.bytes
  have hr := B.returns
  have hts := atoms_spec (ws := wsX4_checkNotClosed) B.pre
  have hown : s.vm.findClass RX4 = some m.cls := findClass_of_methodNamed B.named
  have hlocks := B.notSynchronized
  subst hsz
  have hD := hD0.self (sz := s.heap.size)
  generalize hAe : va_A (pg_wB cI cZ a u) s.heap.size = A at hD hE ⊢
  have hA : ∀ q : Nat, s.heap.size ≤ q → A q := fun q h => by rw [← hAe]; exact Or.inr h
  have hS : va_S A s.heap s.heap [] := va_S.rf
  have hl := lv_entry ([.ref (a 0)]) (n := 1) (Nat.le_of_ble_eq_true rfl)
  rw [lg_entry_eq]
  generalize (lg_sl ([.ref (a 0)]) ++ List.replicate (1 - (lg_sl ([.ref (a 0)])).length) Slot.unset).toArray = ls at hl ⊢
  have hl : lv_has ls 1 [(0, .ref (a 0))] := hl
  have hiX4 : ∀ w ∈ wsX40, w ∈ wsX4_checkNotClosed := fun _ h => List.mem_cons_of_mem _ (List.mem_append_left _ (List.mem_append_right _ (h)))
  have hw1 := hts (.classLink RX4 124 "java/lang/IllegalStateException") (List.mem_of_getElem? (i := 1) rfl)
  have hw2 := hts (.initialized "java/lang/IllegalStateException") (List.mem_of_getElem? (i := 2) rfl)
  have hw3 := hts (.fieldLink RX4 37 "PegBox" "day" "I") (List.mem_of_getElem? (i := 3) rfl)
  refine lv_aload_n hx hb dX4_checkNotClosed_0 rfl (lv_at hl 0 rfl) ?_
  refine va_get (D := D) (ci := 4) (v := .int (u.1 3)) (C := RX4) (T := TX4) (N := 14) hx hb hts hiX4 hown hK hP 0 rfl rfl 7 (by decide) hw3 (fun _ h9 => h9) rfl dX4_checkNotClosed_1 ?_
  refine lv_iconst (v := (-1)) hx hb dX4_checkNotClosed_4 (by decide) ?_
  refine lv_icmp_eq (tgt := 18) hx hb dX4_checkNotClosed_5 (by decide) (fun c_5 => absurd c_5 (pg_eq_n h)) (fun c_5 => ?_)
  exact pg_thr (nm := pg_is) (i := 3) hx hb hfl hown (by decide +kernel) hw1 hw2 rfl (fun w9 h => hts w9 (List.mem_cons_of_mem _ (List.mem_append_right _ (h)))) pg_h2_is pg_hg_is hE hP hS hA (by rw [hml]; exact hl.1) dX4_checkNotClosed_8 dX4_checkNotClosed_11 dX4_checkNotClosed_12 dX4_checkNotClosed_14 dX4_checkNotClosed_17 hout (Nat.le_of_ble_eq_true rfl) (Nat.le_of_ble_eq_true rfl) (Nat.le_of_ble_eq_true rfl) (Nat.le_of_ble_eq_true rfl) hlocks (Nat.le_of_ble_eq_true rfl) (Nat.le_of_ble_eq_true rfl)
set_option maxHeartbeats 4000000 in
set_option maxRecDepth 100000 in
theorem cc_cls_ok (l : Launch) (D : va_G) (cI cZ : ClassId) (a : Nat → Nat) (sz : Nat) (u : pg_St) (h : pg_eq (u.1 3) (-1) = false) : Met l yX4_checkClosed wsX4_checkClosed ({ frames := 0, cells := 0, slots := 0, locals := 0 }) (va_Pc [.ref (a 0)] (pg_B D (pg_ty cI cZ) (pg_wB cI cZ a u) sz)) (va_Qv (fun u' => u' = u) (pg_E D (pg_ty cI cZ) (va_A (pg_wB cI cZ a u) sz) (pg_wB cI cZ a)) (va_A (pg_wB cI cZ a u) sz)) 0 0 (va_A (pg_wB cI cZ a u) sz) := by
  refine Met.ofW (cc := cX4_checkClosed) (maxL := 1) (ret := none) (by decide) rfl ?_
  intro p e s m args below meth c s₁ B hml hv
  obtain ⟨rfl, hsz, hP, hK, hD0⟩ := hv
  have hx := B.exec
  have hb := B.bytes
  have hr := B.returns
  have hts := atoms_spec (ws := wsX4_checkClosed) B.pre
  have hown : s.vm.findClass RX4 = some m.cls := findClass_of_methodNamed B.named
  have hlocks := B.notSynchronized
  subst hsz
  have hD := hD0.self (sz := s.heap.size)
  generalize hAe : va_A (pg_wB cI cZ a u) s.heap.size = A at hD ⊢
  have hA : ∀ q : Nat, s.heap.size ≤ q → A q := fun q h => by rw [← hAe]; exact Or.inr h
  have hS : va_S A s.heap s.heap [] := va_S.rf
  have hl := lv_entry ([.ref (a 0)]) (n := 1) (Nat.le_of_ble_eq_true rfl)
  rw [lg_entry_eq]
  generalize (lg_sl ([.ref (a 0)]) ++ List.replicate (1 - (lg_sl ([.ref (a 0)])).length) Slot.unset).toArray = ls at hl ⊢
  have hl : lv_has ls 1 [(0, .ref (a 0))] := hl
  have hiX4 : ∀ w ∈ wsX40, w ∈ wsX4_checkClosed := fun _ h => List.mem_cons_of_mem _ (List.mem_append_left _ (List.mem_append_right _ (h)))
  have hw3 := hts (.fieldLink RX4 37 "PegBox" "day" "I") (List.mem_of_getElem? (i := 3) rfl)
  refine lv_aload_n hx hb dX4_checkClosed_0 rfl (lv_at hl 0 rfl) ?_
  refine va_get (D := D) (ci := 4) (v := .int (u.1 3)) (C := RX4) (T := TX4) (N := 14) hx hb hts hiX4 hown hK hP 0 rfl rfl 7 (by decide) hw3 (fun _ h9 => h9) rfl dX4_checkClosed_1 ?_
  refine lv_iconst (v := (-1)) hx hb dX4_checkClosed_4 (by decide) ?_
  refine lv_icmp_ne (tgt := 18) hx hb dX4_checkClosed_5 (by decide) (fun c_5 => ?_) (fun c_5 => absurd c_5 (pg_eq_n h))
  exact W.vret hx hb hr (fun t9 ht9 hW9 => ⟨⟨u, rfl, rfl, by rw [ht9]; exact hP, va_K.moved hW9.alike hK, hD⟩, hS.F ht9⟩) hS.2.2 dX4_checkClosed_18
set_option maxHeartbeats 4000000 in
set_option maxRecDepth 100000 in
theorem cc_cls_no (l : Launch) (hfl : l.stackTraces = false) (D : va_G) (cI cZ : ClassId) (a : Nat → Nat) (sz : Nat) (u : pg_St) (h : pg_eq (u.1 3) (-1) = true) : vx_Met l yX4_checkClosed wsX4_checkClosed ({ frames := 6, cells := 1, slots := 6, locals := 86 }) (va_Pc [.ref (a 0)] (pg_T D (pg_ty cI cZ) (pg_wB cI cZ a u) sz)) pg_No (pg_X D (pg_wB cI cZ a u) (va_A (pg_wB cI cZ a u) sz) pg_is) 1 6 (va_A (pg_wB cI cZ a u) sz) := by
  refine vx_ofW (cc := cX4_checkClosed) (maxL := 1) (ret := none) (by decide) rfl ?_
  intro p e s m args below meth c s₁ B hml hout hv
  obtain ⟨rfl, ⟨hsz, hP, hK, hD0⟩, hE⟩ := hv
  have hx := B.exec
  have hb := B.bytes
  have hr := B.returns
  have hts := atoms_spec (ws := wsX4_checkClosed) B.pre
  have hown : s.vm.findClass RX4 = some m.cls := findClass_of_methodNamed B.named
  have hlocks := B.notSynchronized
  subst hsz
  have hD := hD0.self (sz := s.heap.size)
  generalize hAe : va_A (pg_wB cI cZ a u) s.heap.size = A at hD hE ⊢
  have hA : ∀ q : Nat, s.heap.size ≤ q → A q := fun q h => by rw [← hAe]; exact Or.inr h
  have hS : va_S A s.heap s.heap [] := va_S.rf
  have hl := lv_entry ([.ref (a 0)]) (n := 1) (Nat.le_of_ble_eq_true rfl)
  rw [lg_entry_eq]
  generalize (lg_sl ([.ref (a 0)]) ++ List.replicate (1 - (lg_sl ([.ref (a 0)])).length) Slot.unset).toArray = ls at hl ⊢
  have hl : lv_has ls 1 [(0, .ref (a 0))] := hl
  have hiX4 : ∀ w ∈ wsX40, w ∈ wsX4_checkClosed := fun _ h => List.mem_cons_of_mem _ (List.mem_append_left _ (List.mem_append_right _ (h)))
  have hw1 := hts (.classLink RX4 124 "java/lang/IllegalStateException") (List.mem_of_getElem? (i := 1) rfl)
  have hw2 := hts (.initialized "java/lang/IllegalStateException") (List.mem_of_getElem? (i := 2) rfl)
  have hw3 := hts (.fieldLink RX4 37 "PegBox" "day" "I") (List.mem_of_getElem? (i := 3) rfl)
  refine lv_aload_n hx hb dX4_checkClosed_0 rfl (lv_at hl 0 rfl) ?_
  refine va_get (D := D) (ci := 4) (v := .int (u.1 3)) (C := RX4) (T := TX4) (N := 14) hx hb hts hiX4 hown hK hP 0 rfl rfl 7 (by decide) hw3 (fun _ h9 => h9) rfl dX4_checkClosed_1 ?_
  refine lv_iconst (v := (-1)) hx hb dX4_checkClosed_4 (by decide) ?_
  refine lv_icmp_ne (tgt := 18) hx hb dX4_checkClosed_5 (by decide) (fun c_5 => absurd (pg_eq_e h) c_5) (fun c_5 => ?_)
  exact pg_thr (nm := pg_is) (i := 4) hx hb hfl hown (by decide +kernel) hw1 hw2 rfl (fun w9 h => hts w9 (List.mem_cons_of_mem _ (List.mem_append_right _ (h)))) pg_h2_is pg_hg_is hE hP hS hA (by rw [hml]; exact hl.1) dX4_checkClosed_8 dX4_checkClosed_11 dX4_checkClosed_12 dX4_checkClosed_14 dX4_checkClosed_17 hout (Nat.le_of_ble_eq_true rfl) (Nat.le_of_ble_eq_true rfl) (Nat.le_of_ble_eq_true rfl) (Nat.le_of_ble_eq_true rfl) hlocks (Nat.le_of_ble_eq_true rfl) (Nat.le_of_ble_eq_true rfl)
set_option maxHeartbeats 4000000 in
set_option maxRecDepth 100000 in
/-- beyondCollar(d) -/
theorem cc_col (l : Launch) (D : va_G) (cI cZ : ClassId) (a : Nat → Nat) (sz : Nat) (u : pg_St) (d : Int32) : Met l yX4_beyondCollar wsX4_beyondCollar ({ frames := 0, cells := 0, slots := 0, locals := 0 }) (va_Pc [.ref (a 0), .int d] (pg_B D (pg_ty cI cZ) (pg_wB cI cZ a u) sz)) (va_Qi (fun r u' => r = pg_col u.1 d ∧ u' = u) (pg_E D (pg_ty cI cZ) (va_A (pg_wB cI cZ a u) sz) (pg_wB cI cZ a)) (va_A (pg_wB cI cZ a u) sz)) 0 0 (va_A (pg_wB cI cZ a u) sz) := by
  refine Met.ofW (cc := cX4_beyondCollar) (maxL := 2) (ret := (some .int)) (by decide) rfl ?_
  intro p e s m args below meth c s₁ B hml hv
  obtain ⟨rfl, hsz, hP, hK, hD0⟩ := hv
  have hx := B.exec
  have hb := B.bytes
  have hr := B.returns
  have hts := atoms_spec (ws := wsX4_beyondCollar) B.pre
  have hown : s.vm.findClass RX4 = some m.cls := findClass_of_methodNamed B.named
  have hlocks := B.notSynchronized
  subst hsz
  have hD := hD0.self (sz := s.heap.size)
  generalize hAe : va_A (pg_wB cI cZ a u) s.heap.size = A at hD ⊢
  have hA : ∀ q : Nat, s.heap.size ≤ q → A q := fun q h => by rw [← hAe]; exact Or.inr h
  have hS : va_S A s.heap s.heap [] := va_S.rf
  have hl := lv_entry ([.ref (a 0), .int d]) (n := 2) (Nat.le_of_ble_eq_true rfl)
  rw [lg_entry_eq]
  generalize (lg_sl ([.ref (a 0), .int d]) ++ List.replicate (2 - (lg_sl ([.ref (a 0), .int d])).length) Slot.unset).toArray = ls at hl ⊢
  have hl : lv_has ls 2 [(0, .ref (a 0)), (1, .int d)] := hl
  have hiX4 : ∀ w ∈ wsX40, w ∈ wsX4_beyondCollar := fun _ h => List.mem_cons_of_mem _ (List.mem_append_right _ (h))
  have hw1 := hts (.fieldLink RX4 59 "PegBox" "collar" "I") (List.mem_of_getElem? (i := 1) rfl)
  refine lv_iload_n hx hb dX4_beyondCollar_0 rfl (lv_at hl 1 rfl) ?_
  refine lv_aload_n hx hb dX4_beyondCollar_1 rfl (lv_at hl 0 rfl) ?_
  refine va_get (D := D) (ci := 4) (v := .int (u.1 2)) (C := RX4) (T := TX4) (N := 14) hx hb hts hiX4 hown hK hP 0 rfl rfl 6 (by decide) hw1 (fun _ h9 => h9) rfl dX4_beyondCollar_2 ?_
  refine lv_icmp_le (tgt := 15) hx hb dX4_beyondCollar_5 (by decide) (fun c_5 => ?_) (fun c_5 => ?_)
  · refine lv_iload_n hx hb dX4_beyondCollar_15 rfl (lv_at hl 1 rfl) ?_
    refine lv_aload_n hx hb dX4_beyondCollar_16 rfl (lv_at hl 0 rfl) ?_
    refine va_get (D := D) (ci := 4) (v := .int (u.1 2)) (C := RX4) (T := TX4) (N := 14) hx hb hts hiX4 hown hK hP 0 rfl rfl 6 (by decide) hw1 (fun _ h9 => h9) rfl dX4_beyondCollar_17 ?_
    refine lv_ineg hx hb dX4_beyondCollar_20 ?_
    refine lv_icmp_ge (tgt := 31) hx hb dX4_beyondCollar_21 (by decide) (fun c_21 => ?_) (fun c_21 => ?_)
    · refine lv_iconst (v := 0) hx hb dX4_beyondCollar_31 (by decide) ?_
      exact W.iret (v := 0) hx hb hr (fun t9 ht9 hW9 => ⟨⟨0, u, rfl, ⟨by rw [pg_col, if_pos c_5, if_pos c_21], rfl⟩, by rw [ht9]; exact hP, va_K.moved hW9.alike hK, hD⟩, hS.F ht9⟩) hS.2.2 dX4_beyondCollar_32
    · refine lv_iload_n hx hb dX4_beyondCollar_24 rfl (lv_at hl 1 rfl) ?_
      refine lv_aload_n hx hb dX4_beyondCollar_25 rfl (lv_at hl 0 rfl) ?_
      refine va_get (D := D) (ci := 4) (v := .int (u.1 2)) (C := RX4) (T := TX4) (N := 14) hx hb hts hiX4 hown hK hP 0 rfl rfl 6 (by decide) hw1 (fun _ h9 => h9) rfl dX4_beyondCollar_26 ?_
      refine lv_iadd hx hb dX4_beyondCollar_29 ?_
      exact W.iret (v := d + (u.1 2)) hx hb hr (fun t9 ht9 hW9 => ⟨⟨d + (u.1 2), u, rfl, ⟨by rw [pg_col, if_pos c_5, if_neg c_21], rfl⟩, by rw [ht9]; exact hP, va_K.moved hW9.alike hK, hD⟩, hS.F ht9⟩) hS.2.2 dX4_beyondCollar_30
  · refine lv_iload_n hx hb dX4_beyondCollar_8 rfl (lv_at hl 1 rfl) ?_
    refine lv_aload_n hx hb dX4_beyondCollar_9 rfl (lv_at hl 0 rfl) ?_
    refine va_get (D := D) (ci := 4) (v := .int (u.1 2)) (C := RX4) (T := TX4) (N := 14) hx hb hts hiX4 hown hK hP 0 rfl rfl 6 (by decide) hw1 (fun _ h9 => h9) rfl dX4_beyondCollar_10 ?_
    refine lv_isub hx hb dX4_beyondCollar_13 ?_
    exact W.iret (v := d - (u.1 2)) hx hb hr (fun t9 ht9 hW9 => ⟨⟨d - (u.1 2), u, rfl, ⟨by rw [pg_col, if_neg c_5], rfl⟩, by rw [ht9]; exact hP, va_K.moved hW9.alike hK, hD⟩, hS.F ht9⟩) hS.2.2 dX4_beyondCollar_14
set_option maxHeartbeats 4000000 in
set_option maxRecDepth 100000 in
/-- dueOfKind(kind) -/
theorem cc_dueOfKind (l : Launch) (D : va_G) (cI cZ : ClassId) (a : Nat → Nat) (sz : Nat) (u : pg_St) (n : Nat) (hn : u.1 10 = nI n) (h20 : n ≤ 20) (k : Nat) (hk : k < 3) : Met l yX4_dueOfKind wsX4_dueOfKind ({ frames := 2, cells := 0, slots := 0, locals := 45 }) (va_Pc [.ref (a 0), .int (nI k)] (pg_B D (pg_ty cI cZ) (pg_wB cI cZ a u) sz)) (va_Qi (fun r u' => r = pg_due u.2 n k ∧ u' = u) (pg_E D (pg_ty cI cZ) (va_A (pg_wB cI cZ a u) sz) (pg_wB cI cZ a)) (va_A (pg_wB cI cZ a u) sz)) 0 0 (va_A (pg_wB cI cZ a u) sz) := by
  refine Met.ofW (cc := cX4_dueOfKind) (maxL := 2) (ret := (some .int)) (by decide) rfl ?_
  intro p e s m args below meth c s₁ B hml hv
  obtain ⟨rfl, hsz, hP, hK, hD0⟩ := hv
  have hx := B.exec
  have hb := B.bytes
  have hr := B.returns
  have hts := atoms_spec (ws := wsX4_dueOfKind) B.pre
  have hown : s.vm.findClass RX4 = some m.cls := findClass_of_methodNamed B.named
  have hlocks := B.notSynchronized
  subst hsz
  have hD := hD0.self (sz := s.heap.size)
  generalize hAe : va_A (pg_wB cI cZ a u) s.heap.size = A at hD ⊢
  have hA : ∀ q : Nat, s.heap.size ≤ q → A q := fun q h => by rw [← hAe]; exact Or.inr h
  have hS : va_S A s.heap s.heap [] := va_S.rf
  have hl := lv_entry ([.ref (a 0), .int (nI k)]) (n := 2) (Nat.le_of_ble_eq_true rfl)
  rw [lg_entry_eq]
  generalize (lg_sl ([.ref (a 0), .int (nI k)]) ++ List.replicate (2 - (lg_sl ([.ref (a 0), .int (nI k)])).length) Slot.unset).toArray = ls at hl ⊢
  have hl : lv_has ls 2 [(0, .ref (a 0)), (1, .int (nI k))] := hl
  have hiX3 : ∀ w ∈ wsX30, w ∈ wsX4_dueOfKind := fun _ h => List.mem_cons_of_mem _ (List.mem_append_left _ (List.mem_append_right _ (h)))
  have hiX4 : ∀ w ∈ wsX40, w ∈ wsX4_dueOfKind := fun _ h => List.mem_cons_of_mem _ (List.mem_append_left _ (List.mem_append_left _ (List.mem_append_right _ (h))))
  have hw1 := hts (.fieldLink RX4 19 "PegBox" "kinds" "LPegBox$Kinds;") (List.mem_of_getElem? (i := 1) rfl)
  have hw2 := hts (.fieldLink RX4 26 "PegBox" "book" "LPegBox$ClaimBook;") (List.mem_of_getElem? (i := 2) rfl)
  have hw3 := hts (.fieldLink RX4 74 "PegBox$Kinds" "leasts" "[I") (List.mem_of_getElem? (i := 3) rfl)
  refine lv_aload_n hx hb dX4_dueOfKind_0 rfl (lv_at hl 0 rfl) ?_
  refine va_get (D := D) (ci := 4) (v := .ref (a 2)) (C := RX4) (T := TX4) (N := 14) hx hb hts hiX4 hown hK hP 0 rfl rfl 1 (by decide) hw1 (fun _ h9 => h9) rfl dX4_dueOfKind_1 ?_
  refine lv_iload_n hx hb dX4_dueOfKind_4 rfl (lv_at hl 1 rfl) ?_
  refine lv_aload_n hx hb dX4_dueOfKind_5 rfl (lv_at hl 0 rfl) ?_
  refine va_get (D := D) (ci := 4) (v := .ref (a 3)) (C := RX4) (T := TX4) (N := 14) hx hb hts hiX4 hown hK hP 0 rfl rfl 2 (by decide) hw2 (fun _ h9 => h9) rfl dX4_dueOfKind_6 ?_
  refine lv_iload_n hx hb dX4_dueOfKind_9 rfl (lv_at hl 1 rfl) ?_
  refine lv_aload_n hx hb dX4_dueOfKind_10 rfl (lv_at hl 0 rfl) ?_
  refine va_get (D := D) (ci := 4) (v := .ref (a 2)) (C := RX4) (T := TX4) (N := 14) hx hb hts hiX4 hown hK hP 0 rfl rfl 1 (by decide) hw1 (fun _ h9 => h9) rfl dX4_dueOfKind_11 ?_
  refine va_get (D := D) (ci := 3) (v := .ref (a 7)) (C := RX3) (T := TX3) (N := 5) hx hb hts hiX3 hown hK hP 2 rfl rfl 0 (by decide) hw3 (fun _ h9 => h9) rfl dX4_dueOfKind_14 ?_
  refine lv_iload_n hx hb dX4_dueOfKind_17 rfl (lv_at hl 1 rfl) ?_
  refine pg_ild (f := u.2 2) hx hb hK hP 7 0 rfl rfl (show k < _ by omega) (by decide) dX4_dueOfKind_18 ?_
  refine pg_iE (pg_rV (As := [.int (nI k), .int (u.2 2 k)]) (rest := [.int (nI k), .ref (a 2)]) ⟨hx, hb, hml, hown, hts⟩ (cc_settledSum l D cI cZ a s.heap.size u n hn h20 (nI k) (u.2 2 k)) (cwV 2 hts gX4_dueOfKind_X0_settledSum rfl rfl rfl (by decide +kernel) ⟨Nat.le_of_ble_eq_true rfl, Nat.le_of_ble_eq_true rfl⟩) hK hP hD 3 (ci := 0) rfl rfl rfl rfl hl.1 rfl (Nat.le_of_ble_eq_true rfl) dX4_dueOfKind_19 ⟨Nat.le_of_ble_eq_true rfl, Nat.le_of_ble_eq_true rfl⟩) hD hS hA (fun H locs hP hD hS => ?_)
  refine pg_iE (pg_rV (As := [.int (nI k), .int (pg_set u.2 n (nI k) (u.2 2 k))]) (rest := []) ⟨hx, hb, hml, hown, hts⟩ (cc_limit l D cI cZ a H.size u k hk (pg_set u.2 n (nI k) (u.2 2 k))) (cwV 2 hts gX4_dueOfKind_X3_limit rfl rfl rfl (by decide +kernel) ⟨Nat.le_of_ble_eq_true rfl, Nat.le_of_ble_eq_true rfl⟩) hK hP hD 2 (ci := 3) rfl rfl rfl rfl hl.1 rfl (Nat.le_of_ble_eq_true rfl) dX4_dueOfKind_22 ⟨Nat.le_of_ble_eq_true rfl, Nat.le_of_ble_eq_true rfl⟩) hD hS hA (fun H locs hP hD hS => ?_)
  exact W.iret (v := pg_due u.2 n k) hx hb hr (fun t9 ht9 hW9 => ⟨⟨pg_due u.2 n k, u, rfl, ⟨rfl, rfl⟩, by rw [ht9]; exact hP, va_K.moved hW9.alike hK, hD⟩, hS.F ht9⟩) hS.2.2 dX4_dueOfKind_25
set_option maxHeartbeats 4000000 in
set_option maxRecDepth 100000 in
/-- dueInAll() -/
theorem cc_dueInAll (l : Launch) (D : va_G) (cI cZ : ClassId) (a : Nat → Nat) (sz : Nat) (u : pg_St) (n : Nat) (hn : u.1 10 = nI n) (h20 : n ≤ 20) : Met l yX4_dueInAll wsX4_dueInAll ({ frames := 3, cells := 0, slots := 0, locals := 66 }) (va_Pc [.ref (a 0)] (pg_B D (pg_ty cI cZ) (pg_wB cI cZ a u) sz)) (va_Qi (fun r u' => r = pg_all u.2 n ∧ u' = u) (pg_E D (pg_ty cI cZ) (va_A (pg_wB cI cZ a u) sz) (pg_wB cI cZ a)) (va_A (pg_wB cI cZ a u) sz)) 0 0 (va_A (pg_wB cI cZ a u) sz) := by
  refine Met.ofW (cc := cX4_dueInAll) (maxL := 3) (ret := (some .int)) (by decide) rfl ?_
  intro p e s m args below meth c s₁ B hml hv
  obtain ⟨rfl, hsz, hP, hK, hD0⟩ := hv
  have hx := B.exec
  have hb := B.bytes
  have hr := B.returns
  have hts := atoms_spec (ws := wsX4_dueInAll) B.pre
  have hown : s.vm.findClass RX4 = some m.cls := findClass_of_methodNamed B.named
  have hlocks := B.notSynchronized
  subst hsz
  have hD := hD0.self (sz := s.heap.size)
  generalize hAe : va_A (pg_wB cI cZ a u) s.heap.size = A at hD ⊢
  have hA : ∀ q : Nat, s.heap.size ≤ q → A q := fun q h => by rw [← hAe]; exact Or.inr h
  have hS : va_S A s.heap s.heap [] := va_S.rf
  have hl := lv_entry ([.ref (a 0)]) (n := 3) (Nat.le_of_ble_eq_true rfl)
  rw [lg_entry_eq]
  generalize (lg_sl ([.ref (a 0)]) ++ List.replicate (3 - (lg_sl ([.ref (a 0)])).length) Slot.unset).toArray = ls at hl ⊢
  have hl : lv_has ls 3 [(0, .ref (a 0))] := hl
  refine lv_iconst (v := 0) hx hb dX4_dueInAll_0 (by decide) ?_
  refine lv_istore_n (lv' := [(1, .int 0), (0, .ref (a 0))]) hx hb dX4_dueInAll_1 rfl hl (by decide) rfl (fun ls hl => ?_)
  refine lv_iconst (v := 0) hx hb dX4_dueInAll_2 (by decide) ?_
  refine lv_istore_n (lv' := [(2, .int 0), (1, .int 0), (0, .ref (a 0))]) hx hb dX4_dueInAll_3 rfl hl (by decide) rfl (fun ls hl => ?_)
  have L4 : ∀ (k9 i : Nat) (x : Int32), i ≤ 3 → 3 < i + k9 → x = pg_sm (pg_due u.2 n) i → ∀ (H : Heap) (locs : List Loc), va_P D vwCl (pg_wB cI cZ a u) H → va_D A (pg_wB cI cZ a u) → va_S A s.heap H locs → ∀ ls : Array Slot, lv_has ls 3 [(2, .int (nI i)), (1, .int x), (0, .ref (a 0))] → W p l e (headSpec wsX4_dueInAll ({ frames := 3, cells := 0, slots := 0, locals := 66 })).room s m ([.ref (a 0)] : List Value).toArray below meth c H locs 0 0 (MQ below (va_Qi (fun r u' => r = pg_all u.2 n ∧ u' = u) (pg_E D (pg_ty cI cZ) A (pg_wB cI cZ a)) A) ([.ref (a 0)] : List Value).toArray s 0 0 A) (F0 m 4 ls []) := by
    intro k9
    induction k9 with
    | zero => intro i x h1 h2; exact absurd h2 (by omega)
    | succ k9 ih =>
      intro i x hi9 hk9 hx9 H locs hP hD hS ls hl
      subst hx9
      refine lv_iload_n hx hb dX4_dueInAll_4 rfl (lv_at hl 0 rfl) ?_
      refine lv_iconst (v := 3) hx hb dX4_dueInAll_5 (by decide) ?_
      refine lv_icmp_ge (tgt := 23) hx hb dX4_dueInAll_6 (by decide) (fun c_6 => ?_) (fun c_6 => ?_)
      · have hiN : i = 3 := pg_exit (rfl) (by decide) hi9 c_6
        refine lv_iload_n hx hb dX4_dueInAll_23 rfl (lv_at hl 1 rfl) ?_
        exact W.iret (v := pg_sm (pg_due u.2 n) i) hx hb hr (fun t9 ht9 hW9 => ⟨⟨pg_sm (pg_due u.2 n) i, u, rfl, ⟨by rw [hiN]; rfl, rfl⟩, by rw [ht9]; exact hP, va_K.moved hW9.alike hK, hD⟩, hS.F ht9⟩) hS.2.2 dX4_dueInAll_24
      · have hlt : i < 3 := pg_stay (rfl) (by omega) c_6
        refine lv_iload_n hx hb dX4_dueInAll_9 rfl (lv_at hl 1 rfl) ?_
        refine lv_aload_n hx hb dX4_dueInAll_10 rfl (lv_at hl 2 rfl) ?_
        refine lv_iload_n hx hb dX4_dueInAll_11 rfl (lv_at hl 0 rfl) ?_
        refine pg_iE (pg_rV (As := [.int (nI i)]) (rest := [.int (pg_sm (pg_due u.2 n) i)]) ⟨hx, hb, hml, hown, hts⟩ (cc_dueOfKind l D cI cZ a H.size u n hn h20 i (by omega)) (cwV 1 hts gX4_dueInAll_X4_dueOfKind rfl rfl rfl (by decide +kernel) ⟨Nat.le_of_ble_eq_true rfl, Nat.le_of_ble_eq_true rfl⟩) hK hP hD 0 (ci := 4) rfl rfl rfl rfl hl.1 rfl (Nat.le_of_ble_eq_true rfl) dX4_dueInAll_12 ⟨Nat.le_of_ble_eq_true rfl, Nat.le_of_ble_eq_true rfl⟩) hD hS hA (fun H locs hP hD hS => ?_)
        refine lv_iadd hx hb dX4_dueInAll_15 ?_
        refine lv_istore_n (lv' := [(1, .int ((pg_sm (pg_due u.2 n) i) + (pg_due u.2 n i))), (2, .int (nI i)), (0, .ref (a 0))]) hx hb dX4_dueInAll_16 rfl hl (by decide) rfl (fun ls hl => ?_)
        refine lv_iinc (v := nI (i + 1)) (lv' := [(2, .int (nI (i + 1))), (1, .int ((pg_sm (pg_due u.2 n) i) + (pg_due u.2 n i))), (0, .ref (a 0))]) hx hb dX4_dueInAll_17 hl (k := 1) rfl (by rw [nI_succ]; rfl) (by decide) rfl (fun ls hl => ?_)
        refine lv_goto (tgt := 4) hx hb dX4_dueInAll_20 (by decide) ?_
        exact ih (i + 1) ((pg_sm (pg_due u.2 n) i) + (pg_due u.2 n i)) (by omega) (by omega) rfl _ _ hP hD hS ls (lv_sub hl [0, 1, 2] rfl)
  exact L4 (3 + 1) 0 0 (by omega) (by omega) rfl _ _ hP hD hS ls hl
set_option maxHeartbeats 4000000 in
set_option maxRecDepth 100000 in
/-- leftOutstanding() -/
theorem cc_left (l : Launch) (D : va_G) (cI cZ : ClassId) (a : Nat → Nat) (sz : Nat) (u : pg_St) (n : Nat) (hn : u.1 10 = nI n) (h20 : n ≤ 20) : Met l yX4_leftOutstanding wsX4_leftOutstanding ({ frames := 4, cells := 0, slots := 0, locals := 88 }) (va_Pc [.ref (a 0)] (pg_B D (pg_ty cI cZ) (pg_wB cI cZ a u) sz)) (va_Qi (fun r u' => r = pg_out u n ∧ u' = u) (pg_E D (pg_ty cI cZ) (va_A (pg_wB cI cZ a u) sz) (pg_wB cI cZ a)) (va_A (pg_wB cI cZ a u) sz)) 0 0 (va_A (pg_wB cI cZ a u) sz) := by
  refine Met.ofW (cc := cX4_leftOutstanding) (maxL := 1) (ret := (some .int)) (by decide) rfl ?_
  intro p e s m args below meth c s₁ B hml hv
  obtain ⟨rfl, hsz, hP, hK, hD0⟩ := hv
  have hx := B.exec
  have hb := B.bytes
  have hr := B.returns
  have hts := atoms_spec (ws := wsX4_leftOutstanding) B.pre
  have hown : s.vm.findClass RX4 = some m.cls := findClass_of_methodNamed B.named
  have hlocks := B.notSynchronized
  subst hsz
  have hD := hD0.self (sz := s.heap.size)
  generalize hAe : va_A (pg_wB cI cZ a u) s.heap.size = A at hD ⊢
  have hA : ∀ q : Nat, s.heap.size ≤ q → A q := fun q h => by rw [← hAe]; exact Or.inr h
  have hS : va_S A s.heap s.heap [] := va_S.rf
  have hl := lv_entry ([.ref (a 0)]) (n := 1) (Nat.le_of_ble_eq_true rfl)
  rw [lg_entry_eq]
  generalize (lg_sl ([.ref (a 0)]) ++ List.replicate (1 - (lg_sl ([.ref (a 0)])).length) Slot.unset).toArray = ls at hl ⊢
  have hl : lv_has ls 1 [(0, .ref (a 0))] := hl
  have hiX4 : ∀ w ∈ wsX40, w ∈ wsX4_leftOutstanding := fun _ h => List.mem_cons_of_mem _ (List.mem_append_left _ (List.mem_append_left _ (List.mem_append_right _ (h))))
  have hw1 := hts (.fieldLink RX4 178 "PegBox" "returned" "I") (List.mem_of_getElem? (i := 1) rfl)
  have hw2 := hts (.fieldLink RX4 181 "PegBox" "setOff" "I") (List.mem_of_getElem? (i := 2) rfl)
  refine lv_aload_n hx hb dX4_leftOutstanding_0 rfl (lv_at hl 0 rfl) ?_
  refine pg_iE (pg_rV (As := []) (rest := []) ⟨hx, hb, hml, hown, hts⟩ (cc_dueInAll l D cI cZ a s.heap.size u n hn h20) (cwV 0 hts gX4_leftOutstanding_X4_dueInAll rfl rfl rfl (by decide +kernel) ⟨Nat.le_of_ble_eq_true rfl, Nat.le_of_ble_eq_true rfl⟩) hK hP hD 0 (ci := 4) rfl rfl rfl rfl hl.1 rfl (Nat.le_of_ble_eq_true rfl) dX4_leftOutstanding_1 ⟨Nat.le_of_ble_eq_true rfl, Nat.le_of_ble_eq_true rfl⟩) hD hS hA (fun H locs hP hD hS => ?_)
  refine lv_aload_n hx hb dX4_leftOutstanding_4 rfl (lv_at hl 0 rfl) ?_
  refine va_get (D := D) (ci := 4) (v := .int (u.1 7)) (C := RX4) (T := TX4) (N := 14) hx hb hts hiX4 hown hK hP 0 rfl rfl 11 (by decide) hw1 (fun _ h9 => h9) rfl dX4_leftOutstanding_5 ?_
  refine lv_isub hx hb dX4_leftOutstanding_8 ?_
  refine lv_aload_n hx hb dX4_leftOutstanding_9 rfl (lv_at hl 0 rfl) ?_
  refine va_get (D := D) (ci := 4) (v := .int (u.1 8)) (C := RX4) (T := TX4) (N := 14) hx hb hts hiX4 hown hK hP 0 rfl rfl 12 (by decide) hw2 (fun _ h9 => h9) rfl dX4_leftOutstanding_10 ?_
  refine lv_isub hx hb dX4_leftOutstanding_13 ?_
  exact W.iret (v := ((pg_all u.2 n) - (u.1 7)) - (u.1 8)) hx hb hr (fun t9 ht9 hW9 => ⟨⟨((pg_all u.2 n) - (u.1 7)) - (u.1 8), u, rfl, ⟨rfl, rfl⟩, by rw [ht9]; exact hP, va_K.moved hW9.alike hK, hD⟩, hS.F ht9⟩) hS.2.2 dX4_leftOutstanding_14
set_option maxHeartbeats 4000000 in
set_option maxRecDepth 100000 in
/-- free() -/
theorem cc_free (l : Launch) (D : va_G) (cI cZ : ClassId) (a : Nat → Nat) (sz : Nat) (u : pg_St) (n : Nat) (hn : u.1 10 = nI n) (h20 : n ≤ 20) : Met l yX4_free wsX4_free ({ frames := 1, cells := 0, slots := 0, locals := 23 }) (va_Pc [.ref (a 0)] (pg_B D (pg_ty cI cZ) (pg_wB cI cZ a u) sz)) (va_Qv (fun u' => u' = pg_free u n (u.1 3)) (pg_E D (pg_ty cI cZ) (va_A (pg_wB cI cZ a u) sz) (pg_wB cI cZ a)) (va_A (pg_wB cI cZ a u) sz)) 0 0 (va_A (pg_wB cI cZ a u) sz) := by
  refine Met.ofW (cc := cX4_free) (maxL := 2) (ret := none) (by decide) rfl ?_
  intro p e s m args below meth c s₁ B hml hv
  obtain ⟨rfl, hsz, hP, hK, hD0⟩ := hv
  have hx := B.exec
  have hb := B.bytes
  have hr := B.returns
  have hts := atoms_spec (ws := wsX4_free) B.pre
  have hown : s.vm.findClass RX4 = some m.cls := findClass_of_methodNamed B.named
  have hlocks := B.notSynchronized
  subst hsz
  have hD := hD0.self (sz := s.heap.size)
  generalize hAe : va_A (pg_wB cI cZ a u) s.heap.size = A at hD ⊢
  have hA : ∀ q : Nat, s.heap.size ≤ q → A q := fun q h => by rw [← hAe]; exact Or.inr h
  have hS : va_S A s.heap s.heap [] := va_S.rf
  have hl := lv_entry ([.ref (a 0)]) (n := 2) (Nat.le_of_ble_eq_true rfl)
  rw [lg_entry_eq]
  generalize (lg_sl ([.ref (a 0)]) ++ List.replicate (2 - (lg_sl ([.ref (a 0)])).length) Slot.unset).toArray = ls at hl ⊢
  have hl : lv_has ls 2 [(0, .ref (a 0))] := hl
  have hiX4 : ∀ w ∈ wsX40, w ∈ wsX4_free := fun _ h => List.mem_cons_of_mem _ (List.mem_append_left _ (List.mem_append_left _ (List.mem_append_right _ (h))))
  have hw1 := hts (.fieldLink RX4 10 "PegBox" "escrow" "LPegBox$Escrow;") (List.mem_of_getElem? (i := 1) rfl)
  have hw2 := hts (.fieldLink RX4 37 "PegBox" "day" "I") (List.mem_of_getElem? (i := 2) rfl)
  have hw3 := hts (.fieldLink RX4 26 "PegBox" "book" "LPegBox$ClaimBook;") (List.mem_of_getElem? (i := 3) rfl)
  have hw4 := hts (.fieldLink RX4 115 "PegBox" "held" "I") (List.mem_of_getElem? (i := 4) rfl)
  have hw5 := hts (.fieldLink RX4 118 "PegBox" "paid" "I") (List.mem_of_getElem? (i := 5) rfl)
  refine lv_aload_n hx hb dX4_free_0 rfl (lv_at hl 0 rfl) ?_
  refine va_get (D := D) (ci := 4) (v := .ref (a 1)) (C := RX4) (T := TX4) (N := 14) hx hb hts hiX4 hown hK hP 0 rfl rfl 0 (by decide) hw1 (fun _ h9 => h9) rfl dX4_free_1 ?_
  refine lv_aload_n hx hb dX4_free_4 rfl (lv_at hl 0 rfl) ?_
  refine va_get (D := D) (ci := 4) (v := .int (u.1 3)) (C := RX4) (T := TX4) (N := 14) hx hb hts hiX4 hown hK hP 0 rfl rfl 7 (by decide) hw2 (fun _ h9 => h9) rfl dX4_free_5 ?_
  refine pg_iE (pg_rV (As := [.int (u.1 3)]) (rest := []) ⟨hx, hb, hml, hown, hts⟩ (cc_totalAfter l D cI cZ a s.heap.size u (u.1 3)) (cwV 1 hts gX4_free_X2_totalAfter rfl rfl rfl (by decide +kernel) ⟨Nat.le_of_ble_eq_true rfl, Nat.le_of_ble_eq_true rfl⟩) hK hP hD 1 (ci := 2) rfl rfl rfl rfl hl.1 rfl (Nat.le_of_ble_eq_true rfl) dX4_free_8 ⟨Nat.le_of_ble_eq_true rfl, Nat.le_of_ble_eq_true rfl⟩) hD hS hA (fun H locs hP hD hS => ?_)
  refine lv_aload_n hx hb dX4_free_11 rfl (lv_at hl 0 rfl) ?_
  refine va_get (D := D) (ci := 4) (v := .ref (a 3)) (C := RX4) (T := TX4) (N := 14) hx hb hts hiX4 hown hK hP 0 rfl rfl 2 (by decide) hw3 (fun _ h9 => h9) rfl dX4_free_12 ?_
  refine pg_iE (pg_rV (As := []) (rest := [.int (pg_after u.2 (u.1 3))]) ⟨hx, hb, hml, hown, hts⟩ (cc_openSum l D cI cZ a H.size u n hn h20) (cwV 0 hts gX4_free_X0_openSum rfl rfl rfl (by decide +kernel) ⟨Nat.le_of_ble_eq_true rfl, Nat.le_of_ble_eq_true rfl⟩) hK hP hD 3 (ci := 0) rfl rfl rfl rfl hl.1 rfl (Nat.le_of_ble_eq_true rfl) dX4_free_15 ⟨Nat.le_of_ble_eq_true rfl, Nat.le_of_ble_eq_true rfl⟩) hD hS hA (fun H locs hP hD hS => ?_)
  refine lv_iadd hx hb dX4_free_18 ?_
  refine W.eq (g2 := F0 m 19 ls [.int (pg_kept u n (u.1 3))]) rfl ?_
  refine lv_istore_n (lv' := [(1, .int (pg_kept u n (u.1 3))), (0, .ref (a 0))]) hx hb dX4_free_19 rfl hl (by decide) rfl (fun ls hl => ?_)
  refine lv_aload_n hx hb dX4_free_20 rfl (lv_at hl 1 rfl) ?_
  refine va_get (D := D) (ci := 4) (v := .int (u.1 5)) (C := RX4) (T := TX4) (N := 14) hx hb hts hiX4 hown hK hP 0 rfl rfl 9 (by decide) hw4 (fun _ h9 => h9) rfl dX4_free_21 ?_
  refine lv_iload_n hx hb dX4_free_24 rfl (lv_at hl 0 rfl) ?_
  refine lv_icmp_le (tgt := 48) hx hb dX4_free_25 (by decide) (fun c_25 => ?_) (fun c_25 => ?_)
  · exact W.vret hx hb hr (fun t9 ht9 hW9 => ⟨⟨u, rfl, (by rw [pg_free, if_pos c_25]), by rw [ht9]; exact hP, va_K.moved hW9.alike hK, hD⟩, hS.F ht9⟩) hS.2.2 dX4_free_48
  · refine lv_aload_n hx hb dX4_free_28 rfl (lv_at hl 1 rfl) ?_
    refine lv_dup hx hb dX4_free_29 rfl ?_
    refine va_get (D := D) (ci := 4) (v := .int (u.1 6)) (C := RX4) (T := TX4) (N := 14) hx hb hts hiX4 hown hK hP 0 rfl rfl 10 (by decide) hw5 (fun _ h9 => h9) rfl dX4_free_30 ?_
    refine lv_aload_n hx hb dX4_free_33 rfl (lv_at hl 1 rfl) ?_
    refine va_get (D := D) (ci := 4) (v := .int (u.1 5)) (C := RX4) (T := TX4) (N := 14) hx hb hts hiX4 hown hK hP 0 rfl rfl 9 (by decide) hw4 (fun _ h9 => h9) rfl dX4_free_34 ?_
    refine lv_iload_n hx hb dX4_free_37 rfl (lv_at hl 0 rfl) ?_
    refine lv_isub hx hb dX4_free_38 ?_
    refine lv_iadd hx hb dX4_free_39 ?_
    refine va_put (D := D) (ci := 4) (v := .int ((u.1 6) + ((u.1 5) - (pg_kept u n (u.1 3))))) (ty := .int) (C := RX4) (T := TX4) (N := 14) hx hb hts hiX4 tyX4 tyX4_ok nmX4 hown hK hP hD hS 0 rfl rfl 10 (by decide) hw5 (fun _ h9 => h9) rfl (by decide +kernel) rfl rfl (Nat.le_of_ble_eq_true rfl) dX4_free_40 (fun H locs hP hD hS => ?_)
    have hP : va_P D vwCl (pg_wB cI cZ a ((upd u.1 6 ((u.1 6) + ((u.1 5) - (pg_kept u n (u.1 3))))), u.2)) H := hP
    have hD : va_D A (pg_wB cI cZ a ((upd u.1 6 ((u.1 6) + ((u.1 5) - (pg_kept u n (u.1 3))))), u.2)) := hD
    refine lv_aload_n hx hb dX4_free_43 rfl (lv_at hl 1 rfl) ?_
    refine lv_iload_n hx hb dX4_free_44 rfl (lv_at hl 0 rfl) ?_
    refine va_put (D := D) (ci := 4) (v := .int (pg_kept u n (u.1 3))) (ty := .int) (C := RX4) (T := TX4) (N := 14) hx hb hts hiX4 tyX4 tyX4_ok nmX4 hown hK hP hD hS 0 rfl rfl 9 (by decide) hw4 (fun _ h9 => h9) rfl (by decide +kernel) rfl rfl (Nat.le_of_ble_eq_true rfl) dX4_free_45 (fun H locs hP hD hS => ?_)
    have hP : va_P D vwCl (pg_wB cI cZ a ((upd (upd u.1 6 ((u.1 6) + ((u.1 5) - (pg_kept u n (u.1 3))))) 5 (pg_kept u n (u.1 3))), u.2)) H := hP
    have hD : va_D A (pg_wB cI cZ a ((upd (upd u.1 6 ((u.1 6) + ((u.1 5) - (pg_kept u n (u.1 3))))) 5 (pg_kept u n (u.1 3))), u.2)) := hD
    exact W.vret hx hb hr (fun t9 ht9 hW9 => ⟨⟨((upd (upd u.1 6 ((u.1 6) + ((u.1 5) - (pg_kept u n (u.1 3))))) 5 (pg_kept u n (u.1 3))), u.2), rfl, (by rw [pg_free, if_neg c_25]), by rw [ht9]; exact hP, va_K.moved hW9.alike hK, hD⟩, hS.F ht9⟩) hS.2.2 dX4_free_48
set_option maxHeartbeats 4000000 in
set_option maxRecDepth 100000 in
/-- payOut() -/
theorem cc_payOut (l : Launch) (D : va_G) (cI cZ : ClassId) (a : Nat → Nat) (sz : Nat) (u : pg_St) (n : Nat) (hn : u.1 10 = nI n) (h20 : n ≤ 20) : Met l yX4_payOut wsX4_payOut ({ frames := 5, cells := 0, slots := 0, locals := 108 }) (va_Pc [.ref (a 0)] (pg_B D (pg_ty cI cZ) (pg_wB cI cZ a u) sz)) (va_Qi (fun r u' => r = pg_back u n ∧ u' = pg_pay u n (u.1 3)) (pg_E D (pg_ty cI cZ) (va_A (pg_wB cI cZ a u) sz) (pg_wB cI cZ a)) (va_A (pg_wB cI cZ a u) sz)) 0 0 (va_A (pg_wB cI cZ a u) sz) := by
  refine Met.ofW (cc := cX4_payOut) (maxL := 2) (ret := (some .int)) (by decide) rfl ?_
  intro p e s m args below meth c s₁ B hml hv
  obtain ⟨rfl, hsz, hP, hK, hD0⟩ := hv
  have hx := B.exec
  have hb := B.bytes
  have hr := B.returns
  have hts := atoms_spec (ws := wsX4_payOut) B.pre
  have hown : s.vm.findClass RX4 = some m.cls := findClass_of_methodNamed B.named
  have hlocks := B.notSynchronized
  subst hsz
  have hD := hD0.self (sz := s.heap.size)
  generalize hAe : va_A (pg_wB cI cZ a u) s.heap.size = A at hD ⊢
  have hA : ∀ q : Nat, s.heap.size ≤ q → A q := fun q h => by rw [← hAe]; exact Or.inr h
  have hS : va_S A s.heap s.heap [] := va_S.rf
  have hl := lv_entry ([.ref (a 0)]) (n := 2) (Nat.le_of_ble_eq_true rfl)
  rw [lg_entry_eq]
  generalize (lg_sl ([.ref (a 0)]) ++ List.replicate (2 - (lg_sl ([.ref (a 0)])).length) Slot.unset).toArray = ls at hl ⊢
  have hl : lv_has ls 2 [(0, .ref (a 0))] := hl
  have hiX4 : ∀ w ∈ wsX40, w ∈ wsX4_payOut := fun _ h => List.mem_cons_of_mem _ (List.mem_append_left _ (List.mem_append_left _ (List.mem_append_left _ (List.mem_append_right _ (h)))))
  have hw1 := hts (.fieldLink RX4 115 "PegBox" "held" "I") (List.mem_of_getElem? (i := 1) rfl)
  have hw2 := hts (.methodLink RX4 112 Lib.Math.min.name) (List.mem_of_getElem? (i := 2) rfl)
  have hw3 := hts (.static Lib.Math.min.name) (List.mem_of_getElem? (i := 3) rfl)
  have hw4 := hts (.initialized "java/lang/Math") (List.mem_of_getElem? (i := 4) rfl)
  have hw5 := hts (.code Lib.Math.min.name Lib.Math.min.code 2 (some .int)) (List.mem_of_getElem? (i := 5) rfl)
  have hw6 := hts (.fieldLink RX4 178 "PegBox" "returned" "I") (List.mem_of_getElem? (i := 6) rfl)
  refine lv_aload_n hx hb dX4_payOut_0 rfl (lv_at hl 0 rfl) ?_
  refine pg_iE (pg_rV (As := []) (rest := []) ⟨hx, hb, hml, hown, hts⟩ (cc_left l D cI cZ a s.heap.size u n hn h20) (cwV 0 hts gX4_payOut_X4_leftOutstanding rfl rfl rfl (by decide +kernel) ⟨Nat.le_of_ble_eq_true rfl, Nat.le_of_ble_eq_true rfl⟩) hK hP hD 0 (ci := 4) rfl rfl rfl rfl hl.1 rfl (Nat.le_of_ble_eq_true rfl) dX4_payOut_1 ⟨Nat.le_of_ble_eq_true rfl, Nat.le_of_ble_eq_true rfl⟩) hD hS hA (fun H locs hP hD hS => ?_)
  refine lv_aload_n hx hb dX4_payOut_4 rfl (lv_at hl 0 rfl) ?_
  refine va_get (D := D) (ci := 4) (v := .int (u.1 5)) (C := RX4) (T := TX4) (N := 14) hx hb hts hiX4 hown hK hP 0 rfl rfl 9 (by decide) hw1 (fun _ h9 => h9) rfl dX4_payOut_5 ?_
  refine va_mmin hx hb (by rw [hml]; exact hl.1.symm) hown hw2 hw3 hw4 hw5 (Nat.le_of_ble_eq_true rfl) (Nat.le_of_ble_eq_true rfl) (Nat.le_of_ble_eq_true rfl) (Nat.le_of_ble_eq_true rfl) dX4_payOut_8 ?_
  refine W.eq (g2 := F0 m 11 ls [.int (pg_min (pg_out u n) (u.1 5))]) rfl ?_
  refine W.eq (g2 := F0 m 11 ls [.int (pg_back u n)]) rfl ?_
  refine lv_istore_n (lv' := [(1, .int (pg_back u n)), (0, .ref (a 0))]) hx hb dX4_payOut_11 rfl hl (by decide) rfl (fun ls hl => ?_)
  refine lv_aload_n hx hb dX4_payOut_12 rfl (lv_at hl 1 rfl) ?_
  refine lv_dup hx hb dX4_payOut_13 rfl ?_
  refine va_get (D := D) (ci := 4) (v := .int (u.1 5)) (C := RX4) (T := TX4) (N := 14) hx hb hts hiX4 hown hK hP 0 rfl rfl 9 (by decide) hw1 (fun _ h9 => h9) rfl dX4_payOut_14 ?_
  refine lv_iload_n hx hb dX4_payOut_17 rfl (lv_at hl 0 rfl) ?_
  refine lv_isub hx hb dX4_payOut_18 ?_
  refine va_put (D := D) (ci := 4) (v := .int ((u.1 5) - (pg_back u n))) (ty := .int) (C := RX4) (T := TX4) (N := 14) hx hb hts hiX4 tyX4 tyX4_ok nmX4 hown hK hP hD hS 0 rfl rfl 9 (by decide) hw1 (fun _ h9 => h9) rfl (by decide +kernel) rfl rfl (Nat.le_of_ble_eq_true rfl) dX4_payOut_19 (fun H locs hP hD hS => ?_)
  have hP : va_P D vwCl (pg_wB cI cZ a ((upd u.1 5 ((u.1 5) - (pg_back u n))), u.2)) H := hP
  have hD : va_D A (pg_wB cI cZ a ((upd u.1 5 ((u.1 5) - (pg_back u n))), u.2)) := hD
  refine lv_aload_n hx hb dX4_payOut_22 rfl (lv_at hl 1 rfl) ?_
  refine lv_dup hx hb dX4_payOut_23 rfl ?_
  refine va_get (D := D) (ci := 4) (v := .int (u.1 7)) (C := RX4) (T := TX4) (N := 14) hx hb hts hiX4 hown hK hP 0 rfl rfl 11 (by decide) hw6 (fun _ h9 => h9) rfl dX4_payOut_24 ?_
  refine lv_iload_n hx hb dX4_payOut_27 rfl (lv_at hl 0 rfl) ?_
  refine lv_iadd hx hb dX4_payOut_28 ?_
  refine va_put (D := D) (ci := 4) (v := .int ((u.1 7) + (pg_back u n))) (ty := .int) (C := RX4) (T := TX4) (N := 14) hx hb hts hiX4 tyX4 tyX4_ok nmX4 hown hK hP hD hS 0 rfl rfl 11 (by decide) hw6 (fun _ h9 => h9) rfl (by decide +kernel) rfl rfl (Nat.le_of_ble_eq_true rfl) dX4_payOut_29 (fun H locs hP hD hS => ?_)
  have hP : va_P D vwCl (pg_wB cI cZ a ((upd (upd u.1 5 ((u.1 5) - (pg_back u n))) 7 ((u.1 7) + (pg_back u n))), u.2)) H := hP
  have hD : va_D A (pg_wB cI cZ a ((upd (upd u.1 5 ((u.1 5) - (pg_back u n))) 7 ((u.1 7) + (pg_back u n))), u.2)) := hD
  refine lv_aload_n hx hb dX4_payOut_32 rfl (lv_at hl 1 rfl) ?_
  refine pg_vE (pg_rV (As := []) (rest := []) ⟨hx, hb, hml, hown, hts⟩ (cc_free l D cI cZ a H.size ((upd (upd u.1 5 ((u.1 5) - (pg_back u n))) 7 ((u.1 7) + (pg_back u n))), u.2) n hn h20) (cwV 0 hts gX4_payOut_X4_free rfl rfl rfl (by decide +kernel) ⟨Nat.le_of_ble_eq_true rfl, Nat.le_of_ble_eq_true rfl⟩) hK hP hD 0 (ci := 4) rfl rfl rfl rfl hl.1 rfl (Nat.le_of_ble_eq_true rfl) dX4_payOut_33 ⟨Nat.le_of_ble_eq_true rfl, Nat.le_of_ble_eq_true rfl⟩) hD hS hA (fun H locs hP hD hS => ?_)
  refine lv_iload_n hx hb dX4_payOut_36 rfl (lv_at hl 0 rfl) ?_
  exact W.iret (v := pg_back u n) hx hb hr (fun t9 ht9 hW9 => ⟨⟨pg_back u n, (pg_free (pg_ret u n) n (u.1 3)), rfl, ⟨rfl, rfl⟩, by rw [ht9]; exact hP, va_K.moved hW9.alike hK, hD⟩, hS.F ht9⟩) hS.2.2 dX4_payOut_37
set_option maxHeartbeats 4000000 in
set_option maxRecDepth 100000 in
/-- owe(amount) -/
theorem cc_owe (l : Launch) (D : va_G) (cI cZ : ClassId) (a : Nat → Nat) (sz : Nat) (u : pg_St) (n : Nat) (hn : u.1 10 = nI n) (h20 : n ≤ 20) (x : Int32) : Met l yX4_owe wsX4_owe ({ frames := 5, cells := 0, slots := 0, locals := 108 }) (va_Pc [.ref (a 0), .int x] (pg_B D (pg_ty cI cZ) (pg_wB cI cZ a u) sz)) (va_Qi (fun r u' => r = x ∧ u' = pg_owe u n x) (pg_E D (pg_ty cI cZ) (va_A (pg_wB cI cZ a u) sz) (pg_wB cI cZ a)) (va_A (pg_wB cI cZ a u) sz)) 0 0 (va_A (pg_wB cI cZ a u) sz) := by
  refine Met.ofW (cc := cX4_owe) (maxL := 3) (ret := (some .int)) (by decide) rfl ?_
  intro p e s m args below meth c s₁ B hml hv
  obtain ⟨rfl, hsz, hP, hK, hD0⟩ := hv
  have hx := B.exec
  have hb := B.bytes
  have hr := B.returns
  have hts := atoms_spec (ws := wsX4_owe) B.pre
  have hown : s.vm.findClass RX4 = some m.cls := findClass_of_methodNamed B.named
  have hlocks := B.notSynchronized
  subst hsz
  have hD := hD0.self (sz := s.heap.size)
  generalize hAe : va_A (pg_wB cI cZ a u) s.heap.size = A at hD ⊢
  have hA : ∀ q : Nat, s.heap.size ≤ q → A q := fun q h => by rw [← hAe]; exact Or.inr h
  have hS : va_S A s.heap s.heap [] := va_S.rf
  have hl := lv_entry ([.ref (a 0), .int x]) (n := 3) (Nat.le_of_ble_eq_true rfl)
  rw [lg_entry_eq]
  generalize (lg_sl ([.ref (a 0), .int x]) ++ List.replicate (3 - (lg_sl ([.ref (a 0), .int x])).length) Slot.unset).toArray = ls at hl ⊢
  have hl : lv_has ls 3 [(0, .ref (a 0)), (1, .int x)] := hl
  have hiX4 : ∀ w ∈ wsX40, w ∈ wsX4_owe := fun _ h => List.mem_cons_of_mem _ (List.mem_append_left _ (List.mem_append_left _ (List.mem_append_right _ (h))))
  have hw1 := hts (.methodLink RX4 112 Lib.Math.min.name) (List.mem_of_getElem? (i := 1) rfl)
  have hw2 := hts (.static Lib.Math.min.name) (List.mem_of_getElem? (i := 2) rfl)
  have hw3 := hts (.initialized "java/lang/Math") (List.mem_of_getElem? (i := 3) rfl)
  have hw4 := hts (.code Lib.Math.min.name Lib.Math.min.code 2 (some .int)) (List.mem_of_getElem? (i := 4) rfl)
  have hw5 := hts (.fieldLink RX4 184 "PegBox" "owed" "I") (List.mem_of_getElem? (i := 5) rfl)
  have hw6 := hts (.fieldLink RX4 181 "PegBox" "setOff" "I") (List.mem_of_getElem? (i := 6) rfl)
  have hw7 := hts (.fieldLink RX4 118 "PegBox" "paid" "I") (List.mem_of_getElem? (i := 7) rfl)
  refine lv_iload_n hx hb dX4_owe_0 rfl (lv_at hl 1 rfl) ?_
  refine lv_aload_n hx hb dX4_owe_1 rfl (lv_at hl 0 rfl) ?_
  refine pg_iE (pg_rV (As := []) (rest := [.int x]) ⟨hx, hb, hml, hown, hts⟩ (cc_left l D cI cZ a s.heap.size u n hn h20) (cwV 0 hts gX4_owe_X4_leftOutstanding rfl rfl rfl (by decide +kernel) ⟨Nat.le_of_ble_eq_true rfl, Nat.le_of_ble_eq_true rfl⟩) hK hP hD 0 (ci := 4) rfl rfl rfl rfl hl.1 rfl (Nat.le_of_ble_eq_true rfl) dX4_owe_2 ⟨Nat.le_of_ble_eq_true rfl, Nat.le_of_ble_eq_true rfl⟩) hD hS hA (fun H locs hP hD hS => ?_)
  refine va_mmin hx hb (by rw [hml]; exact hl.1.symm) hown hw1 hw2 hw3 hw4 (Nat.le_of_ble_eq_true rfl) (Nat.le_of_ble_eq_true rfl) (Nat.le_of_ble_eq_true rfl) (Nat.le_of_ble_eq_true rfl) dX4_owe_5 ?_
  refine W.eq (g2 := F0 m 8 ls [.int (pg_min x (pg_out u n))]) rfl ?_
  refine lv_istore_n (lv' := [(2, .int (pg_min x (pg_out u n))), (0, .ref (a 0)), (1, .int x)]) hx hb dX4_owe_8 rfl hl (by decide) rfl (fun ls hl => ?_)
  refine lv_aload_n hx hb dX4_owe_9 rfl (lv_at hl 1 rfl) ?_
  refine lv_dup hx hb dX4_owe_10 rfl ?_
  refine va_get (D := D) (ci := 4) (v := .int (u.1 9)) (C := RX4) (T := TX4) (N := 14) hx hb hts hiX4 hown hK hP 0 rfl rfl 13 (by decide) hw5 (fun _ h9 => h9) rfl dX4_owe_11 ?_
  refine lv_iload_n hx hb dX4_owe_14 rfl (lv_at hl 2 rfl) ?_
  refine lv_iadd hx hb dX4_owe_15 ?_
  refine va_put (D := D) (ci := 4) (v := .int ((u.1 9) + x)) (ty := .int) (C := RX4) (T := TX4) (N := 14) hx hb hts hiX4 tyX4 tyX4_ok nmX4 hown hK hP hD hS 0 rfl rfl 13 (by decide) hw5 (fun _ h9 => h9) rfl (by decide +kernel) rfl rfl (Nat.le_of_ble_eq_true rfl) dX4_owe_16 (fun H locs hP hD hS => ?_)
  have hP : va_P D vwCl (pg_wB cI cZ a ((upd u.1 9 ((u.1 9) + x)), u.2)) H := hP
  have hD : va_D A (pg_wB cI cZ a ((upd u.1 9 ((u.1 9) + x)), u.2)) := hD
  refine lv_aload_n hx hb dX4_owe_19 rfl (lv_at hl 1 rfl) ?_
  refine lv_dup hx hb dX4_owe_20 rfl ?_
  refine va_get (D := D) (ci := 4) (v := .int (u.1 8)) (C := RX4) (T := TX4) (N := 14) hx hb hts hiX4 hown hK hP 0 rfl rfl 12 (by decide) hw6 (fun _ h9 => h9) rfl dX4_owe_21 ?_
  refine lv_iload_n hx hb dX4_owe_24 rfl (lv_at hl 0 rfl) ?_
  refine lv_iadd hx hb dX4_owe_25 ?_
  refine va_put (D := D) (ci := 4) (v := .int ((u.1 8) + (pg_min x (pg_out u n)))) (ty := .int) (C := RX4) (T := TX4) (N := 14) hx hb hts hiX4 tyX4 tyX4_ok nmX4 hown hK hP hD hS 0 rfl rfl 12 (by decide) hw6 (fun _ h9 => h9) rfl (by decide +kernel) rfl rfl (Nat.le_of_ble_eq_true rfl) dX4_owe_26 (fun H locs hP hD hS => ?_)
  have hP : va_P D vwCl (pg_wB cI cZ a ((upd (upd u.1 9 ((u.1 9) + x)) 8 ((u.1 8) + (pg_min x (pg_out u n)))), u.2)) H := hP
  have hD : va_D A (pg_wB cI cZ a ((upd (upd u.1 9 ((u.1 9) + x)) 8 ((u.1 8) + (pg_min x (pg_out u n)))), u.2)) := hD
  refine lv_aload_n hx hb dX4_owe_29 rfl (lv_at hl 1 rfl) ?_
  refine lv_dup hx hb dX4_owe_30 rfl ?_
  refine va_get (D := D) (ci := 4) (v := .int (u.1 6)) (C := RX4) (T := TX4) (N := 14) hx hb hts hiX4 hown hK hP 0 rfl rfl 10 (by decide) hw7 (fun _ h9 => h9) rfl dX4_owe_31 ?_
  refine lv_iload_n hx hb dX4_owe_34 rfl (lv_at hl 2 rfl) ?_
  refine lv_iload_n hx hb dX4_owe_35 rfl (lv_at hl 0 rfl) ?_
  refine lv_isub hx hb dX4_owe_36 ?_
  refine lv_iadd hx hb dX4_owe_37 ?_
  refine va_put (D := D) (ci := 4) (v := .int ((u.1 6) + (x - (pg_min x (pg_out u n))))) (ty := .int) (C := RX4) (T := TX4) (N := 14) hx hb hts hiX4 tyX4 tyX4_ok nmX4 hown hK hP hD hS 0 rfl rfl 10 (by decide) hw7 (fun _ h9 => h9) rfl (by decide +kernel) rfl rfl (Nat.le_of_ble_eq_true rfl) dX4_owe_38 (fun H locs hP hD hS => ?_)
  have hP : va_P D vwCl (pg_wB cI cZ a ((upd (upd (upd u.1 9 ((u.1 9) + x)) 8 ((u.1 8) + (pg_min x (pg_out u n)))) 6 ((u.1 6) + (x - (pg_min x (pg_out u n))))), u.2)) H := hP
  have hD : va_D A (pg_wB cI cZ a ((upd (upd (upd u.1 9 ((u.1 9) + x)) 8 ((u.1 8) + (pg_min x (pg_out u n)))) 6 ((u.1 6) + (x - (pg_min x (pg_out u n))))), u.2)) := hD
  refine lv_iload_n hx hb dX4_owe_41 rfl (lv_at hl 2 rfl) ?_
  exact W.iret (v := x) hx hb hr (fun t9 ht9 hW9 => ⟨⟨x, ((upd (upd (upd u.1 9 ((u.1 9) + x)) 8 ((u.1 8) + (pg_min x (pg_out u n)))) 6 ((u.1 6) + (x - (pg_min x (pg_out u n))))), u.2), rfl, ⟨rfl, rfl⟩, by rw [ht9]; exact hP, va_K.moved hW9.alike hK, hD⟩, hS.F ht9⟩) hS.2.2 dX4_owe_42
