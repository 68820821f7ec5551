set_option maxHeartbeats 4000000 in
set_option maxRecDepth 100000 in
/-- ClaimBook.openSum() -/
theorem cc_openSum (l : Launch) (D : va_G) (cI cZ : ClassId) (a : Nat → Nat) (sz : Nat) (u : pg_St) (n : Nat) (hn : u.1 10 = nI n) (h20 : n ≤ 20) : Met l yX0_openSum wsX0_openSum ({ frames := 0, cells := 0, slots := 0, locals := 0 }) (va_Pc [.ref (a 3)] (pg_B D (pg_ty cI cZ) (pg_wB cI cZ a u) sz)) (va_Qi (fun r u' => r = pg_open u.2 n ∧ u' = u) (pg_E D (pg_ty cI cZ) (va_A (pg_wB cI cZ a u) sz) (pg_wB cI cZ a)) (va_A (pg_wB cI cZ a u) sz)) 0 0 (va_A (pg_wB cI cZ a u) sz) := by
  refine Met.ofW (cc := cX0_openSum) (maxL := 3) (ret := (some .int)) (by decide) rfl ?_
  intro p e s m args below meth c s₁ B hml hv
  obtain ⟨rfl, hsz, hP, hK, hD0⟩ := hv
  have hx := B.exec
  have hb := B.bytes
  have hr := B.returns
  have hts := atoms_spec (ws := wsX0_openSum) B.pre
  have hown : s.vm.findClass RX0 = some m.cls := findClass_of_methodNamed B.named
  have hlocks := B.notSynchronized
  subst hsz
  have hD := hD0.self (sz := s.heap.size)
  generalize hAe : va_A (pg_wB cI cZ a u) s.heap.size = A at hD ⊢
  have hA : ∀ q : Nat, s.heap.size ≤ q → A q := fun q h => by rw [← hAe]; exact Or.inr h
  have hS : va_S A s.heap s.heap [] := va_S.rf
  have hl := lv_entry ([.ref (a 3)]) (n := 3) (Nat.le_of_ble_eq_true rfl)
  rw [lg_entry_eq]
  generalize (lg_sl ([.ref (a 3)]) ++ List.replicate (3 - (lg_sl ([.ref (a 3)])).length) Slot.unset).toArray = ls at hl ⊢
  have hl : lv_has ls 3 [(0, .ref (a 3))] := hl
  have hiX0 : ∀ w ∈ wsX00, w ∈ wsX0_openSum := fun _ h => List.mem_cons_of_mem _ (List.mem_append_right _ (h))
  have hw1 := hts (.fieldLink RX0 24 "PegBox$ClaimBook" "count" "I") (List.mem_of_getElem? (i := 1) rfl)
  have hw2 := hts (.fieldLink RX0 21 "PegBox$ClaimBook" "settled" "[I") (List.mem_of_getElem? (i := 2) rfl)
  have hw3 := hts (.fieldLink RX0 15 "PegBox$ClaimBook" "amounts" "[I") (List.mem_of_getElem? (i := 3) rfl)
  refine lv_iconst (v := 0) hx hb dX0_openSum_0 (by decide) ?_
  refine lv_istore_n (lv' := [(1, .int 0), (0, .ref (a 3))]) hx hb dX0_openSum_1 rfl hl (by decide) rfl (fun ls hl => ?_)
  refine lv_iconst (v := 0) hx hb dX0_openSum_2 (by decide) ?_
  refine lv_istore_n (lv' := [(2, .int 0), (1, .int 0), (0, .ref (a 3))]) hx hb dX0_openSum_3 rfl hl (by decide) rfl (fun ls hl => ?_)
  have L4 : ∀ (k9 i : Nat) (x : Int32), i ≤ n → n < i + k9 → x = pg_open u.2 i → ∀ (H : Heap) (locs : List Loc), va_P D vwCl (pg_wB cI cZ a u) H → va_D A (pg_wB cI cZ a u) → va_S A s.heap H locs → ∀ ls : Array Slot, lv_has ls 3 [(2, .int (nI i)), (1, .int x), (0, .ref (a 3))] → W p l e (headSpec wsX0_openSum ({ frames := 0, cells := 0, slots := 0, locals := 0 })).room s m ([.ref (a 3)] : List Value).toArray below meth c H locs 0 0 (MQ below (va_Qi (fun r u' => r = pg_open u.2 n ∧ u' = u) (pg_E D (pg_ty cI cZ) A (pg_wB cI cZ a)) A) ([.ref (a 3)] : List Value).toArray s 0 0 A) (F0 m 4 ls []) := by
    intro k9
    induction k9 with
    | zero => intro i x h1 h2; exact absurd h2 (by omega)
    | succ k9 ih =>
      intro i x hi9 hk9 hx9 H locs hP hD hS ls hl
      subst hx9
      refine lv_iload_n hx hb dX0_openSum_4 rfl (lv_at hl 0 rfl) ?_
      refine lv_aload_n hx hb dX0_openSum_5 rfl (lv_at hl 2 rfl) ?_
      refine va_get (D := D) (ci := 0) (v := .int (u.1 10)) (C := RX0) (T := TX0) (N := 5) hx hb hts hiX0 hown hK hP 3 rfl rfl 4 (by decide) hw1 (fun _ h9 => h9) rfl dX0_openSum_6 ?_
      refine lv_icmp_ge (tgt := 37) hx hb dX0_openSum_9 (by decide) (fun c_9 => ?_) (fun c_9 => ?_)
      · have hiN : i = n := pg_exit (hn) (by omega) hi9 c_9
        refine lv_iload_n hx hb dX0_openSum_37 rfl (lv_at hl 1 rfl) ?_
        exact W.iret (v := pg_open u.2 i) hx hb hr (fun t9 ht9 hW9 => ⟨⟨pg_open u.2 i, u, rfl, ⟨by rw [hiN], rfl⟩, by rw [ht9]; exact hP, va_K.moved hW9.alike hK, hD⟩, hS.F ht9⟩) hS.2.2 dX0_openSum_38
      · have hlt : i < n := pg_stay (hn) (by omega) c_9
        refine lv_aload_n hx hb dX0_openSum_12 rfl (lv_at hl 2 rfl) ?_
        refine va_get (D := D) (ci := 0) (v := .ref (a 15)) (C := RX0) (T := TX0) (N := 5) hx hb hts hiX0 hown hK hP 3 rfl rfl 3 (by decide) hw2 (fun _ h9 => h9) rfl dX0_openSum_13 ?_
        refine lv_iload_n hx hb dX0_openSum_16 rfl (lv_at hl 0 rfl) ?_
        refine pg_ild (f := u.2 10) hx hb hK hP 15 0 rfl rfl (show i < _ by omega) (by decide) dX0_openSum_17 ?_
        refine lv_iconst (v := (-1)) hx hb dX0_openSum_18 (by decide) ?_
        refine lv_icmp_ne (tgt := 31) hx hb dX0_openSum_19 (by decide) (fun c_19 => ?_) (fun c_19 => ?_)
        · refine lv_iinc (v := nI (i + 1)) (lv' := [(2, .int (nI (i + 1))), (1, .int (pg_open u.2 i)), (0, .ref (a 3))]) hx hb dX0_openSum_31 hl (k := 0) rfl (by rw [nI_succ]; rfl) (by decide) rfl (fun ls hl => ?_)
          refine lv_goto (tgt := 4) hx hb dX0_openSum_34 (by decide) ?_
          exact ih (i + 1) (pg_open u.2 i) (by omega) (by omega) (by show pg_open u.2 i = pg_open u.2 i + (if u.2 10 i = -1 then u.2 8 i else 0); rw [if_neg c_19, pg_a0]) _ _ hP hD hS ls (lv_sub hl [0, 1, 2] rfl)
        · refine lv_iload_n hx hb dX0_openSum_22 rfl (lv_at hl 1 rfl) ?_
          refine lv_aload_n hx hb dX0_openSum_23 rfl (lv_at hl 2 rfl) ?_
          refine va_get (D := D) (ci := 0) (v := .ref (a 13)) (C := RX0) (T := TX0) (N := 5) hx hb hts hiX0 hown hK hP 3 rfl rfl 1 (by decide) hw3 (fun _ h9 => h9) rfl dX0_openSum_24 ?_
          refine lv_iload_n hx hb dX0_openSum_27 rfl (lv_at hl 0 rfl) ?_
          refine pg_ild (f := u.2 8) hx hb hK hP 13 0 rfl rfl (show i < _ by omega) (by decide) dX0_openSum_28 ?_
          refine lv_iadd hx hb dX0_openSum_29 ?_
          refine lv_istore_n (lv' := [(1, .int ((pg_open u.2 i) + (u.2 8 i))), (2, .int (nI i)), (0, .ref (a 3))]) hx hb dX0_openSum_30 rfl hl (by decide) rfl (fun ls hl => ?_)
          refine lv_iinc (v := nI (i + 1)) (lv' := [(2, .int (nI (i + 1))), (1, .int ((pg_open u.2 i) + (u.2 8 i))), (0, .ref (a 3))]) hx hb dX0_openSum_31 hl (k := 1) rfl (by rw [nI_succ]; rfl) (by decide) rfl (fun ls hl => ?_)
          refine lv_goto (tgt := 4) hx hb dX0_openSum_34 (by decide) ?_
          exact ih (i + 1) ((pg_open u.2 i) + (u.2 8 i)) (by omega) (by omega) (by show pg_open u.2 i + u.2 8 i = pg_open u.2 i + (if u.2 10 i = -1 then u.2 8 i else 0); rw [if_pos c_19]) _ _ hP hD hS ls (lv_sub hl [0, 1, 2] rfl)
  exact L4 (n + 1) 0 0 (by omega) (by omega) rfl _ _ hP hD hS ls hl
set_option maxHeartbeats 4000000 in
set_option maxRecDepth 100000 in
/-- ClaimBook.settledSum(kind, least) -/
theorem cc_settledSum (l : Launch) (D : va_G) (cI cZ : ClassId) (a : Nat → Nat) (sz : Nat) (u : pg_St) (n : Nat) (hn : u.1 10 = nI n) (h20 : n ≤ 20) (k le : Int32) : Met l yX0_settledSum wsX0_settledSum ({ frames := 0, cells := 0, slots := 0, locals := 0 }) (va_Pc [.ref (a 3), .int k, .int le] (pg_B D (pg_ty cI cZ) (pg_wB cI cZ a u) sz)) (va_Qi (fun r u' => r = pg_set u.2 n k le ∧ u' = u) (pg_E D (pg_ty cI cZ) (va_A (pg_wB cI cZ a u) sz) (pg_wB cI cZ a)) (va_A (pg_wB cI cZ a u) sz)) 0 0 (va_A (pg_wB cI cZ a u) sz) := by
  refine Met.ofW (cc := cX0_settledSum) (maxL := 5) (ret := (some .int)) (by decide) rfl ?_
  intro p e s m args below meth c s₁ B hml hv
  obtain ⟨rfl, hsz, hP, hK, hD0⟩ := hv
  have hx := B.exec
  have hb := B.bytes
  have hr := B.returns
  have hts := atoms_spec (ws := wsX0_settledSum) B.pre
  have hown : s.vm.findClass RX0 = some m.cls := findClass_of_methodNamed B.named
  have hlocks := B.notSynchronized
  subst hsz
  have hD := hD0.self (sz := s.heap.size)
  generalize hAe : va_A (pg_wB cI cZ a u) s.heap.size = A at hD ⊢
  have hA : ∀ q : Nat, s.heap.size ≤ q → A q := fun q h => by rw [← hAe]; exact Or.inr h
  have hS : va_S A s.heap s.heap [] := va_S.rf
  have hl := lv_entry ([.ref (a 3), .int k, .int le]) (n := 5) (Nat.le_of_ble_eq_true rfl)
  rw [lg_entry_eq]
  generalize (lg_sl ([.ref (a 3), .int k, .int le]) ++ List.replicate (5 - (lg_sl ([.ref (a 3), .int k, .int le])).length) Slot.unset).toArray = ls at hl ⊢
  have hl : lv_has ls 5 [(0, .ref (a 3)), (1, .int k), (2, .int le)] := hl
  have hiX0 : ∀ w ∈ wsX00, w ∈ wsX0_settledSum := fun _ h => List.mem_cons_of_mem _ (List.mem_append_right _ (h))
  have hw1 := hts (.fieldLink RX0 24 "PegBox$ClaimBook" "count" "I") (List.mem_of_getElem? (i := 1) rfl)
  have hw2 := hts (.fieldLink RX0 9 "PegBox$ClaimBook" "kinds" "[I") (List.mem_of_getElem? (i := 2) rfl)
  have hw3 := hts (.fieldLink RX0 21 "PegBox$ClaimBook" "settled" "[I") (List.mem_of_getElem? (i := 3) rfl)
  refine lv_iconst (v := 0) hx hb dX0_settledSum_0 (by decide) ?_
  refine lv_istore_n (lv' := [(3, .int 0), (0, .ref (a 3)), (1, .int k), (2, .int le)]) hx hb dX0_settledSum_1 rfl hl (by decide) rfl (fun ls hl => ?_)
  refine lv_iconst (v := 0) hx hb dX0_settledSum_2 (by decide) ?_
  refine lv_istore (lv' := [(4, .int 0), (3, .int 0), (0, .ref (a 3)), (1, .int k), (2, .int le)]) hx hb dX0_settledSum_3 hl (by decide) rfl (fun ls hl => ?_)
  have L5 : ∀ (k9 i : Nat) (x : Int32), i ≤ n → n < i + k9 → x = pg_set u.2 i k le → ∀ (H : Heap) (locs : List Loc), va_P D vwCl (pg_wB cI cZ a u) H → va_D A (pg_wB cI cZ a u) → va_S A s.heap H locs → ∀ ls : Array Slot, lv_has ls 5 [(4, .int (nI i)), (3, .int x), (0, .ref (a 3)), (1, .int k), (2, .int le)] → W p l e (headSpec wsX0_settledSum ({ frames := 0, cells := 0, slots := 0, locals := 0 })).room s m ([.ref (a 3), .int k, .int le] : List Value).toArray below meth c H locs 0 0 (MQ below (va_Qi (fun r u' => r = pg_set u.2 n k le ∧ u' = u) (pg_E D (pg_ty cI cZ) A (pg_wB cI cZ a)) A) ([.ref (a 3), .int k, .int le] : List Value).toArray s 0 0 A) (F0 m 5 ls []) := by
    intro k9
    induction k9 with
    | zero => intro i x h1 h2; exact absurd h2 (by omega)
    | succ k9 ih =>
      intro i x hi9 hk9 hx9 H locs hP hD hS ls hl
      subst hx9
      refine lv_iload hx hb dX0_settledSum_5 (lv_at hl 0 rfl) ?_
      refine lv_aload_n hx hb dX0_settledSum_7 rfl (lv_at hl 2 rfl) ?_
      refine va_get (D := D) (ci := 0) (v := .int (u.1 10)) (C := RX0) (T := TX0) (N := 5) hx hb hts hiX0 hown hK hP 3 rfl rfl 4 (by decide) hw1 (fun _ h9 => h9) rfl dX0_settledSum_8 ?_
      refine lv_icmp_ge (tgt := 63) hx hb dX0_settledSum_11 (by decide) (fun c_11 => ?_) (fun c_11 => ?_)
      · have hiN : i = n := pg_exit (hn) (by omega) hi9 c_11
        refine lv_iload_n hx hb dX0_settledSum_63 rfl (lv_at hl 1 rfl) ?_
        exact W.iret (v := pg_set u.2 i k le) hx hb hr (fun t9 ht9 hW9 => ⟨⟨pg_set u.2 i k le, u, rfl, ⟨by rw [hiN], rfl⟩, by rw [ht9]; exact hP, va_K.moved hW9.alike hK, hD⟩, hS.F ht9⟩) hS.2.2 dX0_settledSum_64
      · have hlt : i < n := pg_stay (hn) (by omega) c_11
        refine lv_aload_n hx hb dX0_settledSum_14 rfl (lv_at hl 2 rfl) ?_
        refine va_get (D := D) (ci := 0) (v := .ref (a 12)) (C := RX0) (T := TX0) (N := 5) hx hb hts hiX0 hown hK hP 3 rfl rfl 0 (by decide) hw2 (fun _ h9 => h9) rfl dX0_settledSum_15 ?_
        refine lv_iload hx hb dX0_settledSum_18 (lv_at hl 0 rfl) ?_
        refine pg_ild (f := u.2 7) hx hb hK hP 12 0 rfl rfl (show i < _ by omega) (by decide) dX0_settledSum_20 ?_
        refine lv_iload_n hx hb dX0_settledSum_21 rfl (lv_at hl 3 rfl) ?_
        refine lv_icmp_ne (tgt := 57) hx hb dX0_settledSum_22 (by decide) (fun c_22 => ?_) (fun c_22 => ?_)
        · refine lv_iinc (v := nI (i + 1)) (lv' := [(4, .int (nI (i + 1))), (3, .int (pg_set u.2 i k le)), (0, .ref (a 3)), (1, .int k), (2, .int le)]) hx hb dX0_settledSum_57 hl (k := 0) rfl (by rw [nI_succ]; rfl) (by decide) rfl (fun ls hl => ?_)
          refine lv_goto (tgt := 5) hx hb dX0_settledSum_60 (by decide) ?_
          exact ih (i + 1) (pg_set u.2 i k le) (by omega) (by omega) (by show pg_set u.2 i k le = pg_set u.2 i k le + (if u.2 7 i = k then (if u.2 10 i = -1 then 0 else if u.2 10 i < le then 0 else u.2 10 i) else 0); rw [if_neg c_22, pg_a0]) _ _ hP hD hS ls (lv_sub hl [0, 1, 2, 3, 4] rfl)
        · refine lv_aload_n hx hb dX0_settledSum_25 rfl (lv_at hl 2 rfl) ?_
          refine va_get (D := D) (ci := 0) (v := .ref (a 15)) (C := RX0) (T := TX0) (N := 5) hx hb hts hiX0 hown hK hP 3 rfl rfl 3 (by decide) hw3 (fun _ h9 => h9) rfl dX0_settledSum_26 ?_
          refine lv_iload hx hb dX0_settledSum_29 (lv_at hl 0 rfl) ?_
          refine pg_ild (f := u.2 10) hx hb hK hP 15 0 rfl rfl (show i < _ by omega) (by decide) dX0_settledSum_31 ?_
          refine lv_iconst (v := (-1)) hx hb dX0_settledSum_32 (by decide) ?_
          refine lv_icmp_eq (tgt := 57) hx hb dX0_settledSum_33 (by decide) (fun c_33 => ?_) (fun c_33 => ?_)
          · refine lv_iinc (v := nI (i + 1)) (lv' := [(4, .int (nI (i + 1))), (3, .int (pg_set u.2 i k le)), (0, .ref (a 3)), (1, .int k), (2, .int le)]) hx hb dX0_settledSum_57 hl (k := 0) rfl (by rw [nI_succ]; rfl) (by decide) rfl (fun ls hl => ?_)
            refine lv_goto (tgt := 5) hx hb dX0_settledSum_60 (by decide) ?_
            exact ih (i + 1) (pg_set u.2 i k le) (by omega) (by omega) (by show pg_set u.2 i k le = pg_set u.2 i k le + (if u.2 7 i = k then (if u.2 10 i = -1 then 0 else if u.2 10 i < le then 0 else u.2 10 i) else 0); rw [if_pos c_22, if_pos c_33, pg_a0]) _ _ hP hD hS ls (lv_sub hl [0, 1, 2, 3, 4] rfl)
          · refine lv_aload_n hx hb dX0_settledSum_36 rfl (lv_at hl 2 rfl) ?_
            refine va_get (D := D) (ci := 0) (v := .ref (a 15)) (C := RX0) (T := TX0) (N := 5) hx hb hts hiX0 hown hK hP 3 rfl rfl 3 (by decide) hw3 (fun _ h9 => h9) rfl dX0_settledSum_37 ?_
            refine lv_iload hx hb dX0_settledSum_40 (lv_at hl 0 rfl) ?_
            refine pg_ild (f := u.2 10) hx hb hK hP 15 0 rfl rfl (show i < _ by omega) (by decide) dX0_settledSum_42 ?_
            refine lv_iload_n hx hb dX0_settledSum_43 rfl (lv_at hl 4 rfl) ?_
            refine lv_icmp_lt (tgt := 57) hx hb dX0_settledSum_44 (by decide) (fun c_44 => ?_) (fun c_44 => ?_)
            · refine lv_iinc (v := nI (i + 1)) (lv' := [(4, .int (nI (i + 1))), (3, .int (pg_set u.2 i k le)), (0, .ref (a 3)), (1, .int k), (2, .int le)]) hx hb dX0_settledSum_57 hl (k := 0) rfl (by rw [nI_succ]; rfl) (by decide) rfl (fun ls hl => ?_)
              refine lv_goto (tgt := 5) hx hb dX0_settledSum_60 (by decide) ?_
              exact ih (i + 1) (pg_set u.2 i k le) (by omega) (by omega) (by show pg_set u.2 i k le = pg_set u.2 i k le + (if u.2 7 i = k then (if u.2 10 i = -1 then 0 else if u.2 10 i < le then 0 else u.2 10 i) else 0); rw [if_pos c_22, if_neg c_33, if_pos c_44, pg_a0]) _ _ hP hD hS ls (lv_sub hl [0, 1, 2, 3, 4] rfl)
            · refine lv_iload_n hx hb dX0_settledSum_47 rfl (lv_at hl 1 rfl) ?_
              refine lv_aload_n hx hb dX0_settledSum_48 rfl (lv_at hl 2 rfl) ?_
              refine va_get (D := D) (ci := 0) (v := .ref (a 15)) (C := RX0) (T := TX0) (N := 5) hx hb hts hiX0 hown hK hP 3 rfl rfl 3 (by decide) hw3 (fun _ h9 => h9) rfl dX0_settledSum_49 ?_
              refine lv_iload hx hb dX0_settledSum_52 (lv_at hl 0 rfl) ?_
              refine pg_ild (f := u.2 10) hx hb hK hP 15 0 rfl rfl (show i < _ by omega) (by decide) dX0_settledSum_54 ?_
              refine lv_iadd hx hb dX0_settledSum_55 ?_
              refine lv_istore_n (lv' := [(3, .int ((pg_set u.2 i k le) + (u.2 10 i))), (4, .int (nI i)), (0, .ref (a 3)), (1, .int k), (2, .int le)]) hx hb dX0_settledSum_56 rfl hl (by decide) rfl (fun ls hl => ?_)
              refine lv_iinc (v := nI (i + 1)) (lv' := [(4, .int (nI (i + 1))), (3, .int ((pg_set u.2 i k le) + (u.2 10 i))), (0, .ref (a 3)), (1, .int k), (2, .int le)]) hx hb dX0_settledSum_57 hl (k := 1) rfl (by rw [nI_succ]; rfl) (by decide) rfl (fun ls hl => ?_)
              refine lv_goto (tgt := 5) hx hb dX0_settledSum_60 (by decide) ?_
              exact ih (i + 1) ((pg_set u.2 i k le) + (u.2 10 i)) (by omega) (by omega) (by show pg_set u.2 i k le + u.2 10 i = pg_set u.2 i k le + (if u.2 7 i = k then (if u.2 10 i = -1 then 0 else if u.2 10 i < le then 0 else u.2 10 i) else 0); rw [if_pos c_22, if_neg c_33, if_neg c_44]) _ _ hP hD hS ls (lv_sub hl [0, 1, 2, 3, 4] rfl)
  exact L5 (n + 1) 0 0 (by omega) (by omega) rfl _ _ hP hD hS ls hl
set_option maxHeartbeats 4000000 in
set_option maxRecDepth 100000 in
/-- Escrow.total() -/
theorem cc_total (l : Launch) (D : va_G) (cI cZ : ClassId) (a : Nat → Nat) (sz : Nat) (u : pg_St) : Met l yX2_total wsX2_total ({ frames := 0, cells := 0, slots := 0, locals := 0 }) (va_Pc [.ref (a 1)] (pg_B D (pg_ty cI cZ) (pg_wB cI cZ a u) sz)) (va_Qi (fun r u' => r = pg_sm (u.2 0) 4 ∧ u' = u) (pg_E D (pg_ty cI cZ) (va_A (pg_wB cI cZ a u) sz) (pg_wB cI cZ a)) (va_A (pg_wB cI cZ a u) sz)) 0 0 (va_A (pg_wB cI cZ a u) sz) := by
  refine Met.ofW (cc := cX2_total) (maxL := 3) (ret := (some .int)) (by decide) rfl ?_
  intro p e s m args below meth c s₁ B hml hv
  obtain ⟨rfl, hsz, hP, hK, hD0⟩ := hv
  have hx := B.exec
  have hb := B.bytes
  have hr := B.returns
  have hts := atoms_spec (ws := wsX2_total) B.pre
  have hown : s.vm.findClass RX2 = some m.cls := findClass_of_methodNamed B.named
  have hlocks := B.notSynchronized
  subst hsz
  have hD := hD0.self (sz := s.heap.size)
  generalize hAe : va_A (pg_wB cI cZ a u) s.heap.size = A at hD ⊢
  have hA : ∀ q : Nat, s.heap.size ≤ q → A q := fun q h => by rw [← hAe]; exact Or.inr h
  have hS : va_S A s.heap s.heap [] := va_S.rf
  have hl := lv_entry ([.ref (a 1)]) (n := 3) (Nat.le_of_ble_eq_true rfl)
  rw [lg_entry_eq]
  generalize (lg_sl ([.ref (a 1)]) ++ List.replicate (3 - (lg_sl ([.ref (a 1)])).length) Slot.unset).toArray = ls at hl ⊢
  have hl : lv_has ls 3 [(0, .ref (a 1))] := hl
  have hiX2 : ∀ w ∈ wsX20, w ∈ wsX2_total := fun _ h => List.mem_cons_of_mem _ (List.mem_append_right _ (h))
  have hw1 := hts (.fieldLink RX2 9 "PegBox$Escrow" "amounts" "[I") (List.mem_of_getElem? (i := 1) rfl)
  refine lv_iconst (v := 0) hx hb dX2_total_0 (by decide) ?_
  refine lv_istore_n (lv' := [(1, .int 0), (0, .ref (a 1))]) hx hb dX2_total_1 rfl hl (by decide) rfl (fun ls hl => ?_)
  refine lv_iconst (v := 0) hx hb dX2_total_2 (by decide) ?_
  refine lv_istore_n (lv' := [(2, .int 0), (1, .int 0), (0, .ref (a 1))]) hx hb dX2_total_3 rfl hl (by decide) rfl (fun ls hl => ?_)
  have L4 : ∀ (k9 i : Nat) (x : Int32), i ≤ 4 → 4 < i + k9 → x = pg_sm (u.2 0) i → ∀ (H : Heap) (locs : List Loc), va_P D vwCl (pg_wB cI cZ a u) H → va_D A (pg_wB cI cZ a u) → va_S A s.heap H locs → ∀ ls : Array Slot, lv_has ls 3 [(2, .int (nI i)), (1, .int x), (0, .ref (a 1))] → W p l e (headSpec wsX2_total ({ frames := 0, cells := 0, slots := 0, locals := 0 })).room s m ([.ref (a 1)] : List Value).toArray below meth c H locs 0 0 (MQ below (va_Qi (fun r u' => r = pg_sm (u.2 0) 4 ∧ u' = u) (pg_E D (pg_ty cI cZ) A (pg_wB cI cZ a)) A) ([.ref (a 1)] : List Value).toArray s 0 0 A) (F0 m 4 ls []) := by
    intro k9
    induction k9 with
    | zero => intro i x h1 h2; exact absurd h2 (by omega)
    | succ k9 ih =>
      intro i x hi9 hk9 hx9 H locs hP hD hS ls hl
      subst hx9
      refine lv_iload_n hx hb dX2_total_4 rfl (lv_at hl 0 rfl) ?_
      refine lv_iconst (v := 4) hx hb dX2_total_5 (by decide) ?_
      refine lv_icmp_ge (tgt := 24) hx hb dX2_total_6 (by decide) (fun c_6 => ?_) (fun c_6 => ?_)
      · have hiN : i = 4 := pg_exit (rfl) (by decide) hi9 c_6
        refine lv_iload_n hx hb dX2_total_24 rfl (lv_at hl 1 rfl) ?_
        exact W.iret (v := pg_sm (u.2 0) i) hx hb hr (fun t9 ht9 hW9 => ⟨⟨pg_sm (u.2 0) i, u, rfl, ⟨by rw [hiN], rfl⟩, by rw [ht9]; exact hP, va_K.moved hW9.alike hK, hD⟩, hS.F ht9⟩) hS.2.2 dX2_total_25
      · have hlt : i < 4 := pg_stay (rfl) (by omega) c_6
        refine lv_iload_n hx hb dX2_total_9 rfl (lv_at hl 1 rfl) ?_
        refine lv_aload_n hx hb dX2_total_10 rfl (lv_at hl 2 rfl) ?_
        refine va_get (D := D) (ci := 2) (v := .ref (a 5)) (C := RX2) (T := TX2) (N := 2) hx hb hts hiX2 hown hK hP 1 rfl rfl 0 (by decide) hw1 (fun _ h9 => h9) rfl dX2_total_11 ?_
        refine lv_iload_n hx hb dX2_total_14 rfl (lv_at hl 0 rfl) ?_
        refine pg_ild (f := u.2 0) hx hb hK hP 5 0 rfl rfl (show i < _ by omega) (by decide) dX2_total_15 ?_
        refine lv_iadd hx hb dX2_total_16 ?_
        refine lv_istore_n (lv' := [(1, .int ((pg_sm (u.2 0) i) + (u.2 0 i))), (2, .int (nI i)), (0, .ref (a 1))]) hx hb dX2_total_17 rfl hl (by decide) rfl (fun ls hl => ?_)
        refine lv_iinc (v := nI (i + 1)) (lv' := [(2, .int (nI (i + 1))), (1, .int ((pg_sm (u.2 0) i) + (u.2 0 i))), (0, .ref (a 1))]) hx hb dX2_total_18 hl (k := 1) rfl (by rw [nI_succ]; rfl) (by decide) rfl (fun ls hl => ?_)
        refine lv_goto (tgt := 4) hx hb dX2_total_21 (by decide) ?_
        exact ih (i + 1) ((pg_sm (u.2 0) i) + (u.2 0 i)) (by omega) (by omega) rfl _ _ hP hD hS ls (lv_sub hl [0, 1, 2] rfl)
  exact L4 (4 + 1) 0 0 (by omega) (by omega) rfl _ _ hP hD hS ls hl
set_option maxHeartbeats 4000000 in
set_option maxRecDepth 100000 in
/-- Escrow.totalAfter(day) -/
theorem cc_totalAfter (l : Launch) (D : va_G) (cI cZ : ClassId) (a : Nat → Nat) (sz : Nat) (u : pg_St) (d : Int32) : Met l yX2_totalAfter wsX2_totalAfter ({ frames := 0, cells := 0, slots := 0, locals := 0 }) (va_Pc [.ref (a 1), .int d] (pg_B D (pg_ty cI cZ) (pg_wB cI cZ a u) sz)) (va_Qi (fun r u' => r = pg_after u.2 d ∧ u' = u) (pg_E D (pg_ty cI cZ) (va_A (pg_wB cI cZ a u) sz) (pg_wB cI cZ a)) (va_A (pg_wB cI cZ a u) sz)) 0 0 (va_A (pg_wB cI cZ a u) sz) := by
  refine Met.ofW (cc := cX2_totalAfter) (maxL := 4) (ret := (some .int)) (by decide) rfl ?_
  intro p e s m args below meth c s₁ B hml hv
  obtain ⟨rfl, hsz, hP, hK, hD0⟩ := hv
  have hx := B.exec
  have hb := B.bytes
  have hr := B.returns
  have hts := atoms_spec (ws := wsX2_totalAfter) B.pre
  have hown : s.vm.findClass RX2 = some m.cls := findClass_of_methodNamed B.named
  have hlocks := B.notSynchronized
  subst hsz
  have hD := hD0.self (sz := s.heap.size)
  generalize hAe : va_A (pg_wB cI cZ a u) s.heap.size = A at hD ⊢
  have hA : ∀ q : Nat, s.heap.size ≤ q → A q := fun q h => by rw [← hAe]; exact Or.inr h
  have hS : va_S A s.heap s.heap [] := va_S.rf
  have hl := lv_entry ([.ref (a 1), .int d]) (n := 4) (Nat.le_of_ble_eq_true rfl)
  rw [lg_entry_eq]
  generalize (lg_sl ([.ref (a 1), .int d]) ++ List.replicate (4 - (lg_sl ([.ref (a 1), .int d])).length) Slot.unset).toArray = ls at hl ⊢
  have hl : lv_has ls 4 [(0, .ref (a 1)), (1, .int d)] := hl
  have hiX2 : ∀ w ∈ wsX20, w ∈ wsX2_totalAfter := fun _ h => List.mem_cons_of_mem _ (List.mem_append_right _ (h))
  have hw1 := hts (.fieldLink RX2 15 "PegBox$Escrow" "days" "[I") (List.mem_of_getElem? (i := 1) rfl)
  have hw2 := hts (.fieldLink RX2 9 "PegBox$Escrow" "amounts" "[I") (List.mem_of_getElem? (i := 2) rfl)
  refine lv_iconst (v := 0) hx hb dX2_totalAfter_0 (by decide) ?_
  refine lv_istore_n (lv' := [(2, .int 0), (0, .ref (a 1)), (1, .int d)]) hx hb dX2_totalAfter_1 rfl hl (by decide) rfl (fun ls hl => ?_)
  refine lv_iconst (v := 0) hx hb dX2_totalAfter_2 (by decide) ?_
  refine lv_istore_n (lv' := [(3, .int 0), (2, .int 0), (0, .ref (a 1)), (1, .int d)]) hx hb dX2_totalAfter_3 rfl hl (by decide) rfl (fun ls hl => ?_)
  have L4 : ∀ (k9 i : Nat) (x : Int32), i ≤ 4 → 4 < i + k9 → x = pg_sm (fun k => if u.2 1 k ≤ d then 0 else u.2 0 k) i → ∀ (H : Heap) (locs : List Loc), va_P D vwCl (pg_wB cI cZ a u) H → va_D A (pg_wB cI cZ a u) → va_S A s.heap H locs → ∀ ls : Array Slot, lv_has ls 4 [(3, .int (nI i)), (2, .int x), (0, .ref (a 1)), (1, .int d)] → W p l e (headSpec wsX2_totalAfter ({ frames := 0, cells := 0, slots := 0, locals := 0 })).room s m ([.ref (a 1), .int d] : List Value).toArray below meth c H locs 0 0 (MQ below (va_Qi (fun r u' => r = pg_after u.2 d ∧ u' = u) (pg_E D (pg_ty cI cZ) A (pg_wB cI cZ a)) A) ([.ref (a 1), .int d] : List Value).toArray s 0 0 A) (F0 m 4 ls []) := by
    intro k9
    induction k9 with
    | zero => intro i x h1 h2; exact absurd h2 (by omega)
    | succ k9 ih =>
      intro i x hi9 hk9 hx9 H locs hP hD hS ls hl
      subst hx9
      refine lv_iload_n hx hb dX2_totalAfter_4 rfl (lv_at hl 0 rfl) ?_
      refine lv_iconst (v := 4) hx hb dX2_totalAfter_5 (by decide) ?_
      refine lv_icmp_ge (tgt := 34) hx hb dX2_totalAfter_6 (by decide) (fun c_6 => ?_) (fun c_6 => ?_)
      · have hiN : i = 4 := pg_exit (rfl) (by decide) hi9 c_6
        refine lv_iload_n hx hb dX2_totalAfter_34 rfl (lv_at hl 1 rfl) ?_
        exact W.iret (v := pg_sm (fun k => if u.2 1 k ≤ d then 0 else u.2 0 k) i) hx hb hr (fun t9 ht9 hW9 => ⟨⟨pg_sm (fun k => if u.2 1 k ≤ d then 0 else u.2 0 k) i, u, rfl, ⟨by rw [hiN]; rfl, rfl⟩, by rw [ht9]; exact hP, va_K.moved hW9.alike hK, hD⟩, hS.F ht9⟩) hS.2.2 dX2_totalAfter_35
      · have hlt : i < 4 := pg_stay (rfl) (by omega) c_6
        refine lv_aload_n hx hb dX2_totalAfter_9 rfl (lv_at hl 2 rfl) ?_
        refine va_get (D := D) (ci := 2) (v := .ref (a 6)) (C := RX2) (T := TX2) (N := 2) hx hb hts hiX2 hown hK hP 1 rfl rfl 1 (by decide) hw1 (fun _ h9 => h9) rfl dX2_totalAfter_10 ?_
        refine lv_iload_n hx hb dX2_totalAfter_13 rfl (lv_at hl 0 rfl) ?_
        refine pg_ild (f := u.2 1) hx hb hK hP 6 0 rfl rfl (show i < _ by omega) (by decide) dX2_totalAfter_14 ?_
        refine lv_iload_n hx hb dX2_totalAfter_15 rfl (lv_at hl 3 rfl) ?_
        refine lv_icmp_le (tgt := 28) hx hb dX2_totalAfter_16 (by decide) (fun c_16 => ?_) (fun c_16 => ?_)
        · refine lv_iinc (v := nI (i + 1)) (lv' := [(3, .int (nI (i + 1))), (2, .int (pg_sm (fun k => if u.2 1 k ≤ d then 0 else u.2 0 k) i)), (0, .ref (a 1)), (1, .int d)]) hx hb dX2_totalAfter_28 hl (k := 0) rfl (by rw [nI_succ]; rfl) (by decide) rfl (fun ls hl => ?_)
          refine lv_goto (tgt := 4) hx hb dX2_totalAfter_31 (by decide) ?_
          exact ih (i + 1) (pg_sm (fun k => if u.2 1 k ≤ d then 0 else u.2 0 k) i) (by omega) (by omega) (by show pg_sm (fun k => if u.2 1 k ≤ d then 0 else u.2 0 k) i = pg_sm (fun k => if u.2 1 k ≤ d then 0 else u.2 0 k) i + (if u.2 1 i ≤ d then 0 else u.2 0 i); rw [if_pos c_16, pg_a0]) _ _ hP hD hS ls (lv_sub hl [0, 1, 2, 3] rfl)
        · refine lv_iload_n hx hb dX2_totalAfter_19 rfl (lv_at hl 1 rfl) ?_
          refine lv_aload_n hx hb dX2_totalAfter_20 rfl (lv_at hl 2 rfl) ?_
          refine va_get (D := D) (ci := 2) (v := .ref (a 5)) (C := RX2) (T := TX2) (N := 2) hx hb hts hiX2 hown hK hP 1 rfl rfl 0 (by decide) hw2 (fun _ h9 => h9) rfl dX2_totalAfter_21 ?_
          refine lv_iload_n hx hb dX2_totalAfter_24 rfl (lv_at hl 0 rfl) ?_
          refine pg_ild (f := u.2 0) hx hb hK hP 5 0 rfl rfl (show i < _ by omega) (by decide) dX2_totalAfter_25 ?_
          refine lv_iadd hx hb dX2_totalAfter_26 ?_
          refine lv_istore_n (lv' := [(2, .int ((pg_sm (fun k => if u.2 1 k ≤ d then 0 else u.2 0 k) i) + (u.2 0 i))), (3, .int (nI i)), (0, .ref (a 1)), (1, .int d)]) hx hb dX2_totalAfter_27 rfl hl (by decide) rfl (fun ls hl => ?_)
          refine lv_iinc (v := nI (i + 1)) (lv' := [(3, .int (nI (i + 1))), (2, .int ((pg_sm (fun k => if u.2 1 k ≤ d then 0 else u.2 0 k) i) + (u.2 0 i))), (0, .ref (a 1)), (1, .int d)]) hx hb dX2_totalAfter_28 hl (k := 1) rfl (by rw [nI_succ]; rfl) (by decide) rfl (fun ls hl => ?_)
          refine lv_goto (tgt := 4) hx hb dX2_totalAfter_31 (by decide) ?_
          exact ih (i + 1) ((pg_sm (fun k => if u.2 1 k ≤ d then 0 else u.2 0 k) i) + (u.2 0 i)) (by omega) (by omega) (by show pg_sm (fun k => if u.2 1 k ≤ d then 0 else u.2 0 k) i + u.2 0 i = pg_sm (fun k => if u.2 1 k ≤ d then 0 else u.2 0 k) i + (if u.2 1 i ≤ d then 0 else u.2 0 i); rw [if_neg c_16]) _ _ hP hD hS ls (lv_sub hl [0, 1, 2, 3] rfl)
  exact L4 (4 + 1) 0 0 (by omega) (by omega) rfl _ _ hP hD hS ls hl
set_option maxHeartbeats 4000000 in
set_option maxRecDepth 100000 in
/-- Kinds.pastBasket(kind, sum) -/
theorem cc_pastBasket (l : Launch) (D : va_G) (cI cZ : ClassId) (a : Nat → Nat) (sz : Nat) (u : pg_St) (k : Nat) (hk : k < 3) (s1 : Int32) : Met l yX3_pastBasket wsX3_pastBasket ({ frames := 0, cells := 0, slots := 0, locals := 0 }) (va_Pc [.ref (a 2), .int (nI k), .int s1] (pg_B D (pg_ty cI cZ) (pg_wB cI cZ a u) sz)) (va_Qi (fun r u' => r = pg_past u.2 k s1 ∧ u' = u) (pg_E D (pg_ty cI cZ) (va_A (pg_wB cI cZ a u) sz) (pg_wB cI cZ a)) (va_A (pg_wB cI cZ a u) sz)) 0 0 (va_A (pg_wB cI cZ a u) sz) := by
  refine Met.ofW (cc := cX3_pastBasket) (maxL := 4) (ret := (some .int)) (by decide) rfl ?_
  intro p e s m args below meth c s₁ B hml hv
  obtain ⟨rfl, hsz, hP, hK, hD0⟩ := hv
  have hx := B.exec
  have hb := B.bytes
  have hr := B.returns
  have hts := atoms_spec (ws := wsX3_pastBasket) B.pre
  have hown : s.vm.findClass RX3 = some m.cls := findClass_of_methodNamed B.named
  have hlocks := B.notSynchronized
  subst hsz
  have hD := hD0.self (sz := s.heap.size)
  generalize hAe : va_A (pg_wB cI cZ a u) s.heap.size = A at hD ⊢
  have hA : ∀ q : Nat, s.heap.size ≤ q → A q := fun q h => by rw [← hAe]; exact Or.inr h
  have hS : va_S A s.heap s.heap [] := va_S.rf
  have hl := lv_entry ([.ref (a 2), .int (nI k), .int s1]) (n := 4) (Nat.le_of_ble_eq_true rfl)
  rw [lg_entry_eq]
  generalize (lg_sl ([.ref (a 2), .int (nI k), .int s1]) ++ List.replicate (4 - (lg_sl ([.ref (a 2), .int (nI k), .int s1])).length) Slot.unset).toArray = ls at hl ⊢
  have hl : lv_has ls 4 [(0, .ref (a 2)), (1, .int (nI k)), (2, .int s1)] := hl
  have hiX3 : ∀ w ∈ wsX30, w ∈ wsX3_pastBasket := fun _ h => List.mem_cons_of_mem _ (List.mem_append_right _ (h))
  have hw1 := hts (.fieldLink RX3 15 "PegBox$Kinds" "baskets" "[I") (List.mem_of_getElem? (i := 1) rfl)
  have hw2 := hts (.fieldLink RX3 18 "PegBox$Kinds" "wholes" "[Z") (List.mem_of_getElem? (i := 2) rfl)
  refine lv_aload_n hx hb dX3_pastBasket_0 rfl (lv_at hl 0 rfl) ?_
  refine va_get (D := D) (ci := 3) (v := .ref (a 8)) (C := RX3) (T := TX3) (N := 5) hx hb hts hiX3 hown hK hP 2 rfl rfl 1 (by decide) hw1 (fun _ h9 => h9) rfl dX3_pastBasket_1 ?_
  refine lv_iload_n hx hb dX3_pastBasket_4 rfl (lv_at hl 1 rfl) ?_
  refine pg_ild (f := u.2 3) hx hb hK hP 8 0 rfl rfl (show k < _ by omega) (by decide) dX3_pastBasket_5 ?_
  refine lv_istore_n (lv' := [(3, .int (u.2 3 k)), (0, .ref (a 2)), (1, .int (nI k)), (2, .int s1)]) hx hb dX3_pastBasket_6 rfl hl (by decide) rfl (fun ls hl => ?_)
  refine lv_aload_n hx hb dX3_pastBasket_7 rfl (lv_at hl 1 rfl) ?_
  refine va_get (D := D) (ci := 3) (v := .ref (a 9)) (C := RX3) (T := TX3) (N := 5) hx hb hts hiX3 hown hK hP 2 rfl rfl 2 (by decide) hw2 (fun _ h9 => h9) rfl dX3_pastBasket_8 ?_
  refine lv_iload_n hx hb dX3_pastBasket_11 rfl (lv_at hl 2 rfl) ?_
  refine pg_zld (f := u.2 4) hx hb hK hP 9 1 rfl rfl (show k < _ by omega) (by decide) dX3_pastBasket_12 ?_
  refine lv_if_eq (tgt := 27) hx hb dX3_pastBasket_13 (by decide) (fun c_13 => ?_) (fun c_13 => ?_)
  · refine lv_iload_n hx hb dX3_pastBasket_27 rfl (lv_at hl 3 rfl) ?_
    refine lv_iload_n hx hb dX3_pastBasket_28 rfl (lv_at hl 0 rfl) ?_
    refine lv_icmp_le (tgt := 38) hx hb dX3_pastBasket_29 (by decide) (fun c_29 => ?_) (fun c_29 => ?_)
    · refine lv_iconst (v := 0) hx hb dX3_pastBasket_38 (by decide) ?_
      exact W.iret (v := 0) hx hb hr (fun t9 ht9 hW9 => ⟨⟨0, u, rfl, ⟨by rw [pg_past, if_pos c_13, if_pos c_29], rfl⟩, by rw [ht9]; exact hP, va_K.moved hW9.alike hK, hD⟩, hS.F ht9⟩) hS.2.2 dX3_pastBasket_39
    · refine lv_iload_n hx hb dX3_pastBasket_32 rfl (lv_at hl 3 rfl) ?_
      refine lv_iload_n hx hb dX3_pastBasket_33 rfl (lv_at hl 0 rfl) ?_
      refine lv_isub hx hb dX3_pastBasket_34 ?_
      refine lv_goto (tgt := 39) hx hb dX3_pastBasket_35 (by decide) ?_
      exact W.iret (v := s1 - (u.2 3 k)) hx hb hr (fun t9 ht9 hW9 => ⟨⟨s1 - (u.2 3 k), u, rfl, ⟨by rw [pg_past, if_pos c_13, if_neg c_29], rfl⟩, by rw [ht9]; exact hP, va_K.moved hW9.alike hK, hD⟩, hS.F ht9⟩) hS.2.2 dX3_pastBasket_39
  · refine lv_iload_n hx hb dX3_pastBasket_16 rfl (lv_at hl 3 rfl) ?_
    refine lv_iload_n hx hb dX3_pastBasket_17 rfl (lv_at hl 0 rfl) ?_
    refine lv_icmp_lt (tgt := 25) hx hb dX3_pastBasket_18 (by decide) (fun c_18 => ?_) (fun c_18 => ?_)
    · refine lv_iconst (v := 0) hx hb dX3_pastBasket_25 (by decide) ?_
      exact W.iret (v := 0) hx hb hr (fun t9 ht9 hW9 => ⟨⟨0, u, rfl, ⟨by rw [pg_past, if_neg c_13, if_pos c_18], rfl⟩, by rw [ht9]; exact hP, va_K.moved hW9.alike hK, hD⟩, hS.F ht9⟩) hS.2.2 dX3_pastBasket_26
    · refine lv_iload_n hx hb dX3_pastBasket_21 rfl (lv_at hl 3 rfl) ?_
      refine lv_goto (tgt := 26) hx hb dX3_pastBasket_22 (by decide) ?_
      exact W.iret (v := s1) hx hb hr (fun t9 ht9 hW9 => ⟨⟨s1, u, rfl, ⟨by rw [pg_past, if_neg c_13, if_neg c_18], rfl⟩, by rw [ht9]; exact hP, va_K.moved hW9.alike hK, hD⟩, hS.F ht9⟩) hS.2.2 dX3_pastBasket_26
set_option maxHeartbeats 4000000 in
set_option maxRecDepth 100000 in
/-- Kinds.limit(kind, sum) -/
theorem cc_limit (l : Launch) (D : va_G) (cI cZ : ClassId) (a : Nat → Nat) (sz : Nat) (u : pg_St) (k : Nat) (hk : k < 3) (s1 : Int32) : Met l yX3_limit wsX3_limit ({ frames := 1, cells := 0, slots := 0, locals := 23 }) (va_Pc [.ref (a 2), .int (nI k), .int s1] (pg_B D (pg_ty cI cZ) (pg_wB cI cZ a u) sz)) (va_Qi (fun r u' => r = pg_min (pg_past u.2 k s1) (u.2 5 k) ∧ u' = u) (pg_E D (pg_ty cI cZ) (va_A (pg_wB cI cZ a u) sz) (pg_wB cI cZ a)) (va_A (pg_wB cI cZ a u) sz)) 0 0 (va_A (pg_wB cI cZ a u) sz) := by
  refine Met.ofW (cc := cX3_limit) (maxL := 3) (ret := (some .int)) (by decide) rfl ?_
  intro p e s m args below meth c s₁ B hml hv
  obtain ⟨rfl, hsz, hP, hK, hD0⟩ := hv
  have hx := B.exec
  have hb := B.bytes
  have hr := B.returns
  have hts := atoms_spec (ws := wsX3_limit) B.pre
  have hown : s.vm.findClass RX3 = some m.cls := findClass_of_methodNamed B.named
  have hlocks := B.notSynchronized
  subst hsz
  have hD := hD0.self (sz := s.heap.size)
  generalize hAe : va_A (pg_wB cI cZ a u) s.heap.size = A at hD ⊢
  have hA : ∀ q : Nat, s.heap.size ≤ q → A q := fun q h => by rw [← hAe]; exact Or.inr h
  have hS : va_S A s.heap s.heap [] := va_S.rf
  have hl := lv_entry ([.ref (a 2), .int (nI k), .int s1]) (n := 3) (Nat.le_of_ble_eq_true rfl)
  rw [lg_entry_eq]
  generalize (lg_sl ([.ref (a 2), .int (nI k), .int s1]) ++ List.replicate (3 - (lg_sl ([.ref (a 2), .int (nI k), .int s1])).length) Slot.unset).toArray = ls at hl ⊢
  have hl : lv_has ls 3 [(0, .ref (a 2)), (1, .int (nI k)), (2, .int s1)] := hl
  have hiX3 : ∀ w ∈ wsX30, w ∈ wsX3_limit := fun _ h => List.mem_cons_of_mem _ (List.mem_append_right _ (h))
  have hw1 := hts (.fieldLink RX3 22 "PegBox$Kinds" "caps" "[I") (List.mem_of_getElem? (i := 1) rfl)
  have hw2 := hts (.methodLink RX3 32 Lib.Math.min.name) (List.mem_of_getElem? (i := 2) rfl)
  have hw3 := hts (.static Lib.Math.min.name) (List.mem_of_getElem? (i := 3) rfl)
  have hw4 := hts (.initialized "java/lang/Math") (List.mem_of_getElem? (i := 4) rfl)
  have hw5 := hts (.code Lib.Math.min.name Lib.Math.min.code 2 (some .int)) (List.mem_of_getElem? (i := 5) rfl)
  refine lv_aload_n hx hb dX3_limit_0 rfl (lv_at hl 0 rfl) ?_
  refine lv_iload_n hx hb dX3_limit_1 rfl (lv_at hl 1 rfl) ?_
  refine lv_iload_n hx hb dX3_limit_2 rfl (lv_at hl 2 rfl) ?_
  refine pg_iE (pg_rV (As := [.int (nI k), .int s1]) (rest := []) ⟨hx, hb, hml, hown, hts⟩ (cc_pastBasket l D cI cZ a s.heap.size u k hk s1) (cwV 2 hts gX3_limit_X3_pastBasket rfl rfl rfl (by decide +kernel) ⟨Nat.le_of_ble_eq_true rfl, Nat.le_of_ble_eq_true rfl⟩) hK hP hD 2 (ci := 3) rfl rfl rfl rfl hl.1 rfl (Nat.le_of_ble_eq_true rfl) dX3_limit_3 ⟨Nat.le_of_ble_eq_true rfl, Nat.le_of_ble_eq_true rfl⟩) hD hS hA (fun H locs hP hD hS => ?_)
  refine lv_aload_n hx hb dX3_limit_6 rfl (lv_at hl 0 rfl) ?_
  refine va_get (D := D) (ci := 3) (v := .ref (a 10)) (C := RX3) (T := TX3) (N := 5) hx hb hts hiX3 hown hK hP 2 rfl rfl 3 (by decide) hw1 (fun _ h9 => h9) rfl dX3_limit_7 ?_
  refine lv_iload_n hx hb dX3_limit_10 rfl (lv_at hl 1 rfl) ?_
  refine pg_ild (f := u.2 5) hx hb hK hP 10 0 rfl rfl (show k < _ by omega) (by decide) dX3_limit_11 ?_
  refine va_mmin hx hb (by rw [hml]; exact hl.1.symm) hown hw2 hw3 hw4 hw5 (Nat.le_of_ble_eq_true rfl) (Nat.le_of_ble_eq_true rfl) (Nat.le_of_ble_eq_true rfl) (Nat.le_of_ble_eq_true rfl) dX3_limit_12 ?_
  refine W.eq (g2 := F0 m 15 ls [.int (pg_min (pg_past u.2 k s1) (u.2 5 k))]) rfl ?_
  exact W.iret (v := pg_min (pg_past u.2 k s1) (u.2 5 k)) hx hb hr (fun t9 ht9 hW9 => ⟨⟨pg_min (pg_past u.2 k s1) (u.2 5 k), u, rfl, ⟨rfl, rfl⟩, by rw [ht9]; exact hP, va_K.moved hW9.alike hK, hD⟩, hS.F ht9⟩) hS.2.2 dX3_limit_15
