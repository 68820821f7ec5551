set_option maxHeartbeats 4000000 in
set_option maxRecDepth 100000 in
/-- terms(o, s) -/
theorem ct_terms (l : Launch) (D : va_G) (cI cZ : ClassId) (a : Nat → Nat) (b L : Nat) (xs : Nat → Int32) (hL : L ≤ 260) (T : Nat → Nat) (hTe : T = pz_T xs L) (hT : ∀ k, T k < 2 ^ 31) (sz : Nat) (u : pg_St) (h3 : u.1 3 = -1) : Met l yL_terms wsL_terms ({ frames := 2, cells := 0, slots := 0, locals := 48 }) (va_Pc [.ref (a 0), .ref b] (pg_BX D (pg_ty cI cZ) (pg_wB cI cZ a u) sz b L xs)) (va_Qv (fun u' => u' = tm_end T u) (pg_E D (pg_ty cI cZ) (va_A (pg_wB cI cZ a u) sz) (pg_wB cI cZ a)) (va_A (pg_wB cI cZ a u) sz)) 0 0 (va_A (pg_wB cI cZ a u) sz) := by
  refine Met.ofW (cc := cL_terms) (maxL := 4) (ret := none) (by decide) rfl ?_
  intro p e s m args below meth c s₁ B hml hv
  obtain ⟨rfl, ⟨hsz, hP, hK, hD0⟩, hX, hbl, hbA⟩ := hv
  have hx := B.exec
  have hb := B.bytes
  have hr := B.returns
  have hts := atoms_spec (ws := wsL_terms) B.pre
  have hown : s.vm.findClass RL = some m.cls := findClass_of_methodNamed B.named
  have hlocks := B.notSynchronized
  subst hsz
  have hD := hD0.self (sz := s.heap.size)
  generalize hAe : va_A (pg_wB cI cZ a u) s.heap.size = A at hD hbA ⊢
  have hA : ∀ q : Nat, s.heap.size ≤ q → A q := fun q h => by rw [← hAe]; exact Or.inr h
  have hS : va_S A s.heap s.heap [] := va_S.rf
  have hl := lv_entry ([.ref (a 0), .ref b]) (n := 4) (Nat.le_of_ble_eq_true rfl)
  rw [lg_entry_eq]
  generalize (lg_sl ([.ref (a 0), .ref b]) ++ List.replicate (4 - (lg_sl ([.ref (a 0), .ref b])).length) Slot.unset).toArray = ls at hl ⊢
  have hl : lv_has ls 4 [(0, .ref (a 0)), (1, .ref b)] := hl
  have hw1 := hts (.constant RL 15 (3000000)) (List.mem_of_getElem? (i := 1) rfl)
  have hw2 := hts (.constant RL 16 (400000)) (List.mem_of_getElem? (i := 2) rfl)
  have hw3 := hts (.constant RL 17 (200000)) (List.mem_of_getElem? (i := 3) rfl)
  have hw4 := hts (.constant RL 18 (50000)) (List.mem_of_getElem? (i := 4) rfl)
  have hw5 := hts (.constant RL 25 (300000)) (List.mem_of_getElem? (i := 5) rfl)
  have hw6 := hts (.constant RL 29 (90000)) (List.mem_of_getElem? (i := 6) rfl)
  have hw7 := hts (.constant RL 33 (40000)) (List.mem_of_getElem? (i := 7) rfl)
  have hw8 := hts (.constant RL 34 (500000)) (List.mem_of_getElem? (i := 8) rfl)
  refine lv_aload_n hx hb dL_terms_0 rfl (lv_at hl 0 rfl) ?_
  refine lv_aload_n hx hb dL_terms_1 rfl (lv_at hl 1 rfl) ?_
  refine lv_iconst (v := 0) hx hb dL_terms_2 (by decide) ?_
  refine pg_told (rest := [.ref (a 0)]) (k := 0) ⟨hx, hb, hml, hown, hts⟩ (va_cwS 2 hts gL_terms_L_told rfl rfl rfl (by decide +kernel) ⟨Nat.le_of_ble_eq_true rfl, Nat.le_of_ble_eq_true rfl⟩) hX hbl hbA hL hP hS hA hTe (by omega) hl.1 (Nat.le_of_ble_eq_true rfl) dL_terms_3 ⟨Nat.le_of_ble_eq_true rfl, Nat.le_of_ble_eq_true rfl⟩ (fun H locs hP hS => ?_)
  refine lv_ldc hx hb hown hw1 dL_terms_6 ?_
  refine pg_iremM (k := (T 0)) (j := 3000000) hx hb rfl rfl (by have := hT 0; omega) (by omega) (by omega) dL_terms_8 ?_
  refine lv_aload_n hx hb dL_terms_9 rfl (lv_at hl 1 rfl) ?_
  refine lv_iconst (v := 1) hx hb dL_terms_10 (by decide) ?_
  refine pg_told (rest := [.int (nI ((T 0) % 3000000)), .ref (a 0)]) (k := 1) ⟨hx, hb, hml, hown, hts⟩ (va_cwS 2 hts gL_terms_L_told rfl rfl rfl (by decide +kernel) ⟨Nat.le_of_ble_eq_true rfl, Nat.le_of_ble_eq_true rfl⟩) hX hbl hbA hL hP hS hA hTe (by omega) hl.1 (Nat.le_of_ble_eq_true rfl) dL_terms_11 ⟨Nat.le_of_ble_eq_true rfl, Nat.le_of_ble_eq_true rfl⟩ (fun H locs hP hS => ?_)
  refine lv_ldc hx hb hown hw2 dL_terms_14 ?_
  refine pg_iremM (k := (T 1)) (j := 400000) hx hb rfl rfl (by have := hT 1; omega) (by omega) (by omega) dL_terms_16 ?_
  refine lv_ldc hx hb hown hw3 dL_terms_17 ?_
  refine pg_isubM (k := ((T 1) % 400000)) (j := 200000) hx hb rfl rfl dL_terms_19 ?_
  refine lv_aload_n hx hb dL_terms_20 rfl (lv_at hl 1 rfl) ?_
  refine lv_iconst (v := 2) hx hb dL_terms_21 (by decide) ?_
  refine pg_told (rest := [.int (nI ((T 1) % 400000) - nI 200000), .int (nI ((T 0) % 3000000)), .ref (a 0)]) (k := 2) ⟨hx, hb, hml, hown, hts⟩ (va_cwS 2 hts gL_terms_L_told rfl rfl rfl (by decide +kernel) ⟨Nat.le_of_ble_eq_true rfl, Nat.le_of_ble_eq_true rfl⟩) hX hbl hbA hL hP hS hA hTe (by omega) hl.1 (Nat.le_of_ble_eq_true rfl) dL_terms_22 ⟨Nat.le_of_ble_eq_true rfl, Nat.le_of_ble_eq_true rfl⟩ (fun H locs hP hS => ?_)
  refine lv_ldc hx hb hown hw4 dL_terms_25 ?_
  refine pg_iremM (k := (T 2)) (j := 50000) hx hb rfl rfl (by have := hT 2; omega) (by omega) (by omega) dL_terms_27 ?_
  refine pg_vE (pg_rV (As := [.int (nI ((T 0) % 3000000)), .int (nI ((T 1) % 400000) - nI 200000), .int (nI ((T 2) % 50000))]) (rest := []) ⟨hx, hb, hml, hown, hts⟩ (cc_setPrice_ok l D cI cZ a H.size u (nI ((T 0) % 3000000)) (nI ((T 1) % 400000) - nI 200000) (nI ((T 2) % 50000)) (tm_hPrice (T 0) (T 1) (T 2) h3)) (cwV 3 hts gL_terms_X4_setPrice rfl rfl rfl (by decide +kernel) ⟨Nat.le_of_ble_eq_true rfl, Nat.le_of_ble_eq_true rfl⟩) hK hP hD 0 (ci := 4) rfl rfl rfl rfl hl.1 rfl (Nat.le_of_ble_eq_true rfl) dL_terms_28 ⟨Nat.le_of_ble_eq_true rfl, Nat.le_of_ble_eq_true rfl⟩) hD hS hA (fun H locs hP hD hS => ?_)
  have hP : va_P D vwCl (pg_wB cI cZ a (tm_0 T u)) H := hP
  have hD : va_D A (pg_wB cI cZ a (tm_0 T u)) := hD
  refine lv_iconst (v := 0) hx hb dL_terms_31 (by decide) ?_
  refine lv_istore_n (lv' := [(2, .int 0), (0, .ref (a 0)), (1, .ref b)]) hx hb dL_terms_32 rfl hl (by decide) rfl (fun ls hl => ?_)
  have L33 : ∀ (k9 i : Nat) (w9 : pg_St), i ≤ 4 → 4 < i + k9 → w9 = (tm_1 T (tm_0 T u) i) → ∀ (H : Heap) (locs : List Loc), va_P D vwCl (pg_wB cI cZ a w9) H → va_D A (pg_wB cI cZ a w9) → va_S A s.heap H locs → ∀ ls : Array Slot, lv_has ls 4 [(2, .int (nI i)), (0, .ref (a 0)), (1, .ref b)] → W p l e (headSpec wsL_terms ({ frames := 2, cells := 0, slots := 0, locals := 48 })).room s m ([.ref (a 0), .ref b] : List Value).toArray below meth c H locs 0 0 (MQ below (va_Qv (fun u' => u' = tm_end T u) (pg_E D (pg_ty cI cZ) A (pg_wB cI cZ a)) A) ([.ref (a 0), .ref b] : List Value).toArray s 0 0 A) (F0 m 33 ls []) := by
    intro k9
    induction k9 with
    | zero => intro i w9 h1 h2; exact absurd h2 (by omega)
    | succ k9 ih =>
      intro i w9 hi9 hk9 hw99 H locs hP hD hS ls hl
      subst hw99
      refine lv_iload_n hx hb dL_terms_33 rfl (lv_at hl 0 rfl) ?_
      refine lv_iconst (v := 4) hx hb dL_terms_34 (by decide) ?_
      refine lv_icmp_ge (tgt := 109) hx hb dL_terms_35 (by decide) (fun c_35 => ?_) (fun c_35 => ?_)
      · have hiN : i = 4 := pg_exit (rfl) (by decide) hi9 c_35
        subst hiN
        refine lv_iconst (v := 0) hx hb dL_terms_109 (by decide) ?_
        refine lv_istore_n (lv' := [(2, .int 0), (0, .ref (a 0)), (1, .ref b)]) hx hb dL_terms_110 rfl hl (by decide) rfl (fun ls hl => ?_)
        have L111 : ∀ (k9 i : Nat) (w9 : pg_St), i ≤ 3 → 3 < i + k9 → w9 = (tm_2 T (tm_1 T (tm_0 T u) 4) i) → ∀ (H : Heap) (locs : List Loc), va_P D vwCl (pg_wB cI cZ a w9) H → va_D A (pg_wB cI cZ a w9) → va_S A s.heap H locs → ∀ ls : Array Slot, lv_has ls 4 [(2, .int (nI i)), (0, .ref (a 0)), (1, .ref b)] → W p l e (headSpec wsL_terms ({ frames := 2, cells := 0, slots := 0, locals := 48 })).room s m ([.ref (a 0), .ref b] : List Value).toArray below meth c H locs 0 0 (MQ below (va_Qv (fun u' => u' = tm_end T u) (pg_E D (pg_ty cI cZ) A (pg_wB cI cZ a)) A) ([.ref (a 0), .ref b] : List Value).toArray s 0 0 A) (F0 m 111 ls []) := by
          intro k9
          induction k9 with
          | zero => intro i w9 h1 h2; exact absurd h2 (by omega)
          | succ k9 ih =>
            intro i w9 hi9 hk9 hw99 H locs hP hD hS ls hl
            subst hw99
            refine lv_iload_n hx hb dL_terms_111 rfl (lv_at hl 0 rfl) ?_
            refine lv_iconst (v := 3) hx hb dL_terms_112 (by decide) ?_
            refine lv_icmp_ge (tgt := 175) hx hb dL_terms_113 (by decide) (fun c_113 => ?_) (fun c_113 => ?_)
            · have hiN : i = 3 := pg_exit (rfl) (by decide) hi9 c_113
              subst hiN
              refine lv_aload_n hx hb dL_terms_175 rfl (lv_at hl 1 rfl) ?_
              refine lv_aload_n hx hb dL_terms_176 rfl (lv_at hl 2 rfl) ?_
              refine lv_bipush (v := 14) hx hb dL_terms_177 (by decide) ?_
              refine pg_told (rest := [.ref (a 0)]) (k := 14) ⟨hx, hb, hml, hown, hts⟩ (va_cwS 2 hts gL_terms_L_told rfl rfl rfl (by decide +kernel) ⟨Nat.le_of_ble_eq_true rfl, Nat.le_of_ble_eq_true rfl⟩) hX hbl hbA hL hP hS hA hTe (by omega) hl.1 (Nat.le_of_ble_eq_true rfl) dL_terms_179 ⟨Nat.le_of_ble_eq_true rfl, Nat.le_of_ble_eq_true rfl⟩ (fun H locs hP hS => ?_)
              refine lv_iconst (v := 3) hx hb dL_terms_182 (by decide) ?_
              refine pg_iremM (k := (T 14)) (j := 3) hx hb rfl rfl (by have := hT 14; omega) (by omega) (by omega) dL_terms_183 ?_
              refine lv_if_le (tgt := 191) hx hb dL_terms_184 (by decide) (fun c_184 => ?_) (fun c_184 => ?_)
              · have eb : tm_c (T 14) = 0 := if_pos (pg_nle0 (by have := hT 14; omega) c_184)
                refine lv_iconst (v := 0) hx hb dL_terms_191 (by decide) ?_
                refine W.eq (g2 := F0 m 192 ls [.int (tm_c (T 14)), .ref (a 0)]) (by rw [eb]) ?_
                refine pg_vE (pg_rV (As := [.int (tm_c (T 14))]) (rest := []) ⟨hx, hb, hml, hown, hts⟩ (cc_setCarry_ok l D cI cZ a H.size (tm_2 T (tm_1 T (tm_0 T u) 4) 3) (tm_c (T 14)) (tm_c01 _) (tm_hCarry ((congrFun ((tm_2s T (tm_1 T (tm_0 T u) 4) 3).trans (tm_1s T (tm_0 T u) 4)) 3).trans h3))) (cwV 1 hts gL_terms_X4_setCarry rfl rfl rfl (by decide +kernel) ⟨Nat.le_of_ble_eq_true rfl, Nat.le_of_ble_eq_true rfl⟩) hK hP hD 0 (ci := 4) rfl rfl rfl rfl hl.1 rfl (Nat.le_of_ble_eq_true rfl) dL_terms_192 ⟨Nat.le_of_ble_eq_true rfl, Nat.le_of_ble_eq_true rfl⟩) hD hS hA (fun H locs hP hD hS => ?_)
                have hP : va_P D vwCl (pg_wB cI cZ a (tm_end T u)) H := hP
                have hD : va_D A (pg_wB cI cZ a (tm_end T u)) := hD
                exact W.vret hx hb hr (fun t9 ht9 hW9 => ⟨⟨(tm_end T u), rfl, rfl, by rw [ht9]; exact hP, va_K.moved hW9.alike hK, hD⟩, hS.F ht9⟩) hS.2.2 dL_terms_195
              · have eb : tm_c (T 14) = 1 := if_neg (pg_nle0n c_184)
                refine lv_iconst (v := 1) hx hb dL_terms_187 (by decide) ?_
                refine lv_goto (tgt := 192) hx hb dL_terms_188 (by decide) ?_
                refine W.eq (g2 := F0 m 192 ls [.int (tm_c (T 14)), .ref (a 0)]) (by rw [eb]) ?_
                refine pg_vE (pg_rV (As := [.int (tm_c (T 14))]) (rest := []) ⟨hx, hb, hml, hown, hts⟩ (cc_setCarry_ok l D cI cZ a H.size (tm_2 T (tm_1 T (tm_0 T u) 4) 3) (tm_c (T 14)) (tm_c01 _) (tm_hCarry ((congrFun ((tm_2s T (tm_1 T (tm_0 T u) 4) 3).trans (tm_1s T (tm_0 T u) 4)) 3).trans h3))) (cwV 1 hts gL_terms_X4_setCarry rfl rfl rfl (by decide +kernel) ⟨Nat.le_of_ble_eq_true rfl, Nat.le_of_ble_eq_true rfl⟩) hK hP hD 0 (ci := 4) rfl rfl rfl rfl hl.1 rfl (Nat.le_of_ble_eq_true rfl) dL_terms_192 ⟨Nat.le_of_ble_eq_true rfl, Nat.le_of_ble_eq_true rfl⟩) hD hS hA (fun H locs hP hD hS => ?_)
                have hP : va_P D vwCl (pg_wB cI cZ a (tm_end T u)) H := hP
                have hD : va_D A (pg_wB cI cZ a (tm_end T u)) := hD
                exact W.vret hx hb hr (fun t9 ht9 hW9 => ⟨⟨(tm_end T u), rfl, rfl, by rw [ht9]; exact hP, va_K.moved hW9.alike hK, hD⟩, hS.F ht9⟩) hS.2.2 dL_terms_195
            · have hlt : i < 3 := pg_stay (rfl) (by omega) c_113
              refine lv_aload_n hx hb dL_terms_116 rfl (lv_at hl 2 rfl) ?_
              refine lv_iload_n hx hb dL_terms_117 rfl (lv_at hl 0 rfl) ?_
              refine lv_bipush (v := 11) hx hb dL_terms_118 (by decide) ?_
              refine pg_iaddM (k := i) (j := 11) hx hb rfl rfl dL_terms_120 ?_
              refine pg_told (rest := []) (k := (i + 11)) ⟨hx, hb, hml, hown, hts⟩ (va_cwS 2 hts gL_terms_L_told rfl rfl rfl (by decide +kernel) ⟨Nat.le_of_ble_eq_true rfl, Nat.le_of_ble_eq_true rfl⟩) hX hbl hbA hL hP hS hA hTe (by omega) hl.1 (Nat.le_of_ble_eq_true rfl) dL_terms_121 ⟨Nat.le_of_ble_eq_true rfl, Nat.le_of_ble_eq_true rfl⟩ (fun H locs hP hS => ?_)
              refine lv_istore_n (lv' := [(3, .int (nI (T (i + 11)))), (2, .int (nI i)), (0, .ref (a 0)), (1, .ref b)]) hx hb dL_terms_124 rfl hl (by decide) rfl (fun ls hl => ?_)
              refine lv_aload_n hx hb dL_terms_125 rfl (lv_at hl 2 rfl) ?_
              refine lv_iload_n hx hb dL_terms_126 rfl (lv_at hl 1 rfl) ?_
              refine lv_iload_n hx hb dL_terms_127 rfl (lv_at hl 0 rfl) ?_
              refine lv_sipush (v := 3000) hx hb dL_terms_128 (by decide) ?_
              refine pg_iremM (k := (T (i + 11))) (j := 3000) hx hb rfl rfl (by have := hT (i + 11); omega) (by omega) (by omega) dL_terms_131 ?_
              refine lv_iload_n hx hb dL_terms_132 rfl (lv_at hl 0 rfl) ?_
              refine lv_sipush (v := 3000) hx hb dL_terms_133 (by decide) ?_
              refine pg_idivM (k := (T (i + 11))) (j := 3000) hx hb rfl rfl (by have := hT (i + 11); omega) (by omega) (by omega) dL_terms_136 ?_
              refine lv_ldc hx hb hown hw7 dL_terms_137 ?_
              refine pg_iremM (k := ((T (i + 11)) / 3000)) (j := 40000) hx hb rfl rfl (by have := hT (i + 11); omega) (by omega) (by omega) dL_terms_139 ?_
              refine lv_iload_n hx hb dL_terms_140 rfl (lv_at hl 0 rfl) ?_
              refine lv_iconst (v := 2) hx hb dL_terms_141 (by decide) ?_
              refine pg_iremM (k := (T (i + 11))) (j := 2) hx hb rfl rfl (by have := hT (i + 11); omega) (by omega) (by omega) dL_terms_142 ?_
              refine lv_if_ne (tgt := 150) hx hb dL_terms_143 (by decide) (fun c_143 => ?_) (fun c_143 => ?_)
              · have eb : tm_b (T (i + 11)) = 0 := if_neg (pg_n0n c_143)
                refine lv_iconst (v := 0) hx hb dL_terms_150 (by decide) ?_
                refine W.eq (g2 := F0 m 151 ls [.int (tm_b (T (i + 11))), .int (nI (((T (i + 11)) / 3000) % 40000)), .int (nI ((T (i + 11)) % 3000)), .int (nI i), .ref (a 0)]) (by rw [eb]) ?_
                refine lv_iload_n hx hb dL_terms_151 rfl (lv_at hl 0 rfl) ?_
                refine lv_bipush (v := 11) hx hb dL_terms_152 (by decide) ?_
                refine pg_idivM (k := (T (i + 11))) (j := 11) hx hb rfl rfl (by have := hT (i + 11); omega) (by omega) (by omega) dL_terms_154 ?_
                refine lv_ldc hx hb hown hw8 dL_terms_155 ?_
                refine pg_iremM (k := ((T (i + 11)) / 11)) (j := 500000) hx hb rfl rfl (by have := hT (i + 11); omega) (by omega) (by omega) dL_terms_157 ?_
                refine lv_iload_n hx hb dL_terms_158 rfl (lv_at hl 0 rfl) ?_
                refine lv_bipush (v := 77) hx hb dL_terms_159 (by decide) ?_
                refine pg_idivM (k := (T (i + 11))) (j := 77) hx hb rfl rfl (by have := hT (i + 11); omega) (by omega) (by omega) dL_terms_161 ?_
                refine lv_sipush (v := 1500) hx hb dL_terms_162 (by decide) ?_
                refine pg_iremM (k := ((T (i + 11)) / 77)) (j := 1500) hx hb rfl rfl (by have := hT (i + 11); omega) (by omega) (by omega) dL_terms_165 ?_
                refine pg_vE (pg_rV (As := [.int (nI i), .int (nI ((T (i + 11)) % 3000)), .int (nI (((T (i + 11)) / 3000) % 40000)), .int (tm_b (T (i + 11))), .int (nI (((T (i + 11)) / 11) % 500000)), .int (nI (((T (i + 11)) / 77) % 1500))]) (rest := []) ⟨hx, hb, hml, hown, hts⟩ (cc_setKind_ok l D cI cZ a H.size (tm_2 T (tm_1 T (tm_0 T u) 4) i) (nI i) (nI ((T (i + 11)) % 3000)) (nI (((T (i + 11)) / 3000) % 40000)) (tm_b (T (i + 11))) (nI (((T (i + 11)) / 11) % 500000)) (nI (((T (i + 11)) / 77) % 1500)) (tm_b01 _) (tm_hKind (T (i + 11)) ((congrFun ((tm_2s T (tm_1 T (tm_0 T u) 4) i).trans (tm_1s T (tm_0 T u) 4)) 3).trans h3) hlt)) (cwV 6 hts gL_terms_X4_setKind rfl rfl rfl (by decide +kernel) ⟨Nat.le_of_ble_eq_true rfl, Nat.le_of_ble_eq_true rfl⟩) hK hP hD 0 (ci := 4) rfl rfl rfl rfl hl.1 rfl (Nat.le_of_ble_eq_true rfl) dL_terms_166 ⟨Nat.le_of_ble_eq_true rfl, Nat.le_of_ble_eq_true rfl⟩) hD hS hA (fun H locs hP hD hS => ?_)
                have hP : va_P D vwCl (pg_wB cI cZ a (tm_2 T (tm_1 T (tm_0 T u) 4) (i + 1))) H := hP
                have hD : va_D A (pg_wB cI cZ a (tm_2 T (tm_1 T (tm_0 T u) 4) (i + 1))) := hD
                refine lv_iinc (v := nI (i + 1)) (lv' := [(2, .int (nI (i + 1))), (3, .int (nI (T (i + 11)))), (0, .ref (a 0)), (1, .ref b)]) hx hb dL_terms_169 hl (k := 1) rfl (by rw [nI_succ]; rfl) (by decide) rfl (fun ls hl => ?_)
                refine lv_goto (tgt := 111) hx hb dL_terms_172 (by decide) ?_
                exact ih (i + 1) (tm_2 T (tm_1 T (tm_0 T u) 4) (i + 1)) (by omega) (by omega) rfl _ _ hP hD hS ls (lv_sub hl [0, 2, 3] rfl)
              · have eb : tm_b (T (i + 11)) = 1 := if_pos (pg_n0i (by have := hT (i + 11); omega) c_143)
                refine lv_iconst (v := 1) hx hb dL_terms_146 (by decide) ?_
                refine lv_goto (tgt := 151) hx hb dL_terms_147 (by decide) ?_
                refine W.eq (g2 := F0 m 151 ls [.int (tm_b (T (i + 11))), .int (nI (((T (i + 11)) / 3000) % 40000)), .int (nI ((T (i + 11)) % 3000)), .int (nI i), .ref (a 0)]) (by rw [eb]) ?_
                refine lv_iload_n hx hb dL_terms_151 rfl (lv_at hl 0 rfl) ?_
                refine lv_bipush (v := 11) hx hb dL_terms_152 (by decide) ?_
                refine pg_idivM (k := (T (i + 11))) (j := 11) hx hb rfl rfl (by have := hT (i + 11); omega) (by omega) (by omega) dL_terms_154 ?_
                refine lv_ldc hx hb hown hw8 dL_terms_155 ?_
                refine pg_iremM (k := ((T (i + 11)) / 11)) (j := 500000) hx hb rfl rfl (by have := hT (i + 11); omega) (by omega) (by omega) dL_terms_157 ?_
                refine lv_iload_n hx hb dL_terms_158 rfl (lv_at hl 0 rfl) ?_
                refine lv_bipush (v := 77) hx hb dL_terms_159 (by decide) ?_
                refine pg_idivM (k := (T (i + 11))) (j := 77) hx hb rfl rfl (by have := hT (i + 11); omega) (by omega) (by omega) dL_terms_161 ?_
                refine lv_sipush (v := 1500) hx hb dL_terms_162 (by decide) ?_
                refine pg_iremM (k := ((T (i + 11)) / 77)) (j := 1500) hx hb rfl rfl (by have := hT (i + 11); omega) (by omega) (by omega) dL_terms_165 ?_
                refine pg_vE (pg_rV (As := [.int (nI i), .int (nI ((T (i + 11)) % 3000)), .int (nI (((T (i + 11)) / 3000) % 40000)), .int (tm_b (T (i + 11))), .int (nI (((T (i + 11)) / 11) % 500000)), .int (nI (((T (i + 11)) / 77) % 1500))]) (rest := []) ⟨hx, hb, hml, hown, hts⟩ (cc_setKind_ok l D cI cZ a H.size (tm_2 T (tm_1 T (tm_0 T u) 4) i) (nI i) (nI ((T (i + 11)) % 3000)) (nI (((T (i + 11)) / 3000) % 40000)) (tm_b (T (i + 11))) (nI (((T (i + 11)) / 11) % 500000)) (nI (((T (i + 11)) / 77) % 1500)) (tm_b01 _) (tm_hKind (T (i + 11)) ((congrFun ((tm_2s T (tm_1 T (tm_0 T u) 4) i).trans (tm_1s T (tm_0 T u) 4)) 3).trans h3) hlt)) (cwV 6 hts gL_terms_X4_setKind rfl rfl rfl (by decide +kernel) ⟨Nat.le_of_ble_eq_true rfl, Nat.le_of_ble_eq_true rfl⟩) hK hP hD 0 (ci := 4) rfl rfl rfl rfl hl.1 rfl (Nat.le_of_ble_eq_true rfl) dL_terms_166 ⟨Nat.le_of_ble_eq_true rfl, Nat.le_of_ble_eq_true rfl⟩) hD hS hA (fun H locs hP hD hS => ?_)
                have hP : va_P D vwCl (pg_wB cI cZ a (tm_2 T (tm_1 T (tm_0 T u) 4) (i + 1))) H := hP
                have hD : va_D A (pg_wB cI cZ a (tm_2 T (tm_1 T (tm_0 T u) 4) (i + 1))) := hD
                refine lv_iinc (v := nI (i + 1)) (lv' := [(2, .int (nI (i + 1))), (3, .int (nI (T (i + 11)))), (0, .ref (a 0)), (1, .ref b)]) hx hb dL_terms_169 hl (k := 1) rfl (by rw [nI_succ]; rfl) (by decide) rfl (fun ls hl => ?_)
                refine lv_goto (tgt := 111) hx hb dL_terms_172 (by decide) ?_
                exact ih (i + 1) (tm_2 T (tm_1 T (tm_0 T u) 4) (i + 1)) (by omega) (by omega) rfl _ _ hP hD hS ls (lv_sub hl [0, 2, 3] rfl)
        exact L111 (3 + 1) 0 (tm_1 T (tm_0 T u) 4) (by omega) (by omega) rfl _ _ hP hD hS ls hl
      · have hlt : i < 4 := pg_stay (rfl) (by omega) c_35
        refine lv_aload_n hx hb dL_terms_38 rfl (lv_at hl 1 rfl) ?_
        refine lv_iload_n hx hb dL_terms_39 rfl (lv_at hl 0 rfl) ?_
        refine lv_aload_n hx hb dL_terms_40 rfl (lv_at hl 2 rfl) ?_
        refine lv_iload_n hx hb dL_terms_41 rfl (lv_at hl 0 rfl) ?_
        refine lv_iconst (v := 3) hx hb dL_terms_42 (by decide) ?_
        refine pg_iaddM (k := i) (j := 3) hx hb rfl rfl dL_terms_43 ?_
        refine pg_told (rest := [.int (nI i), .ref (a 0)]) (k := (i + 3)) ⟨hx, hb, hml, hown, hts⟩ (va_cwS 2 hts gL_terms_L_told rfl rfl rfl (by decide +kernel) ⟨Nat.le_of_ble_eq_true rfl, Nat.le_of_ble_eq_true rfl⟩) hX hbl hbA hL hP hS hA hTe (by omega) hl.1 (Nat.le_of_ble_eq_true rfl) dL_terms_44 ⟨Nat.le_of_ble_eq_true rfl, Nat.le_of_ble_eq_true rfl⟩ (fun H locs hP hS => ?_)
        refine lv_ldc hx hb hown hw5 dL_terms_47 ?_
        refine pg_iremM (k := (T (i + 3))) (j := 300000) hx hb rfl rfl (by have := hT (i + 3); omega) (by omega) (by omega) dL_terms_49 ?_
        refine lv_iconst (v := 1) hx hb dL_terms_50 (by decide) ?_
        refine lv_aload_n hx hb dL_terms_51 rfl (lv_at hl 2 rfl) ?_
        refine lv_iload_n hx hb dL_terms_52 rfl (lv_at hl 0 rfl) ?_
        refine lv_iconst (v := 3) hx hb dL_terms_53 (by decide) ?_
        refine pg_iaddM (k := i) (j := 3) hx hb rfl rfl dL_terms_54 ?_
        refine pg_told (rest := [.int 1, .int (nI ((T (i + 3)) % 300000)), .int (nI i), .ref (a 0)]) (k := (i + 3)) ⟨hx, hb, hml, hown, hts⟩ (va_cwS 2 hts gL_terms_L_told rfl rfl rfl (by decide +kernel) ⟨Nat.le_of_ble_eq_true rfl, Nat.le_of_ble_eq_true rfl⟩) hX hbl hbA hL hP hS hA hTe (by omega) hl.1 (Nat.le_of_ble_eq_true rfl) dL_terms_55 ⟨Nat.le_of_ble_eq_true rfl, Nat.le_of_ble_eq_true rfl⟩ (fun H locs hP hS => ?_)
        refine lv_ldc hx hb hown hw5 dL_terms_58 ?_
        refine pg_idivM (k := (T (i + 3))) (j := 300000) hx hb rfl rfl (by have := hT (i + 3); omega) (by omega) (by omega) dL_terms_60 ?_
        refine lv_sipush (v := 900) hx hb dL_terms_61 (by decide) ?_
        refine pg_iremM (k := ((T (i + 3)) / 300000)) (j := 900) hx hb rfl rfl (by have := hT (i + 3); omega) (by omega) (by omega) dL_terms_64 ?_
        refine pg_iaddM (k := 1) (j := (((T (i + 3)) / 300000) % 900)) hx hb rfl rfl dL_terms_65 ?_
        refine pg_vE (pg_rV (As := [.int (nI i), .int (nI ((T (i + 3)) % 300000)), .int (nI (1 + (((T (i + 3)) / 300000) % 900)))]) (rest := []) ⟨hx, hb, hml, hown, hts⟩ (cc_setPart_ok l D cI cZ a H.size (tm_1 T (tm_0 T u) i) (nI i) (nI ((T (i + 3)) % 300000)) (nI (1 + (((T (i + 3)) / 300000) % 900))) (tm_hPart (T (i + 3)) (T (i + 3)) ((congrFun (tm_1s T (tm_0 T u) i) 3).trans h3) hlt)) (cwV 3 hts gL_terms_X4_setPart rfl rfl rfl (by decide +kernel) ⟨Nat.le_of_ble_eq_true rfl, Nat.le_of_ble_eq_true rfl⟩) hK hP hD 0 (ci := 4) rfl rfl rfl rfl hl.1 rfl (Nat.le_of_ble_eq_true rfl) dL_terms_66 ⟨Nat.le_of_ble_eq_true rfl, Nat.le_of_ble_eq_true rfl⟩) hD hS hA (fun H locs hP hD hS => ?_)
        have hP : va_P D vwCl (pg_wB cI cZ a (tm_part (tm_1 T (tm_0 T u) i) (nI i) (nI ((T (i + 3)) % 300000)) (nI (1 + (((T (i + 3)) / 300000) % 900))))) H := hP
        have hD : va_D A (pg_wB cI cZ a (tm_part (tm_1 T (tm_0 T u) i) (nI i) (nI ((T (i + 3)) % 300000)) (nI (1 + (((T (i + 3)) / 300000) % 900))))) := hD
        refine lv_aload_n hx hb dL_terms_69 rfl (lv_at hl 1 rfl) ?_
        refine lv_iload_n hx hb dL_terms_70 rfl (lv_at hl 0 rfl) ?_
        refine lv_aload_n hx hb dL_terms_71 rfl (lv_at hl 2 rfl) ?_
        refine lv_iload_n hx hb dL_terms_72 rfl (lv_at hl 0 rfl) ?_
        refine lv_bipush (v := 7) hx hb dL_terms_73 (by decide) ?_
        refine pg_iaddM (k := i) (j := 7) hx hb rfl rfl dL_terms_75 ?_
        refine pg_told (rest := [.int (nI i), .ref (a 0)]) (k := (i + 7)) ⟨hx, hb, hml, hown, hts⟩ (va_cwS 2 hts gL_terms_L_told rfl rfl rfl (by decide +kernel) ⟨Nat.le_of_ble_eq_true rfl, Nat.le_of_ble_eq_true rfl⟩) hX hbl hbA hL hP hS hA hTe (by omega) hl.1 (Nat.le_of_ble_eq_true rfl) dL_terms_76 ⟨Nat.le_of_ble_eq_true rfl, Nat.le_of_ble_eq_true rfl⟩ (fun H locs hP hS => ?_)
        refine lv_ldc hx hb hown hw6 dL_terms_79 ?_
        refine pg_iremM (k := (T (i + 7))) (j := 90000) hx hb rfl rfl (by have := hT (i + 7); omega) (by omega) (by omega) dL_terms_81 ?_
        refine lv_aload_n hx hb dL_terms_82 rfl (lv_at hl 2 rfl) ?_
        refine lv_iload_n hx hb dL_terms_83 rfl (lv_at hl 0 rfl) ?_
        refine lv_bipush (v := 7) hx hb dL_terms_84 (by decide) ?_
        refine pg_iaddM (k := i) (j := 7) hx hb rfl rfl dL_terms_86 ?_
        refine pg_told (rest := [.int (nI ((T (i + 7)) % 90000)), .int (nI i), .ref (a 0)]) (k := (i + 7)) ⟨hx, hb, hml, hown, hts⟩ (va_cwS 2 hts gL_terms_L_told rfl rfl rfl (by decide +kernel) ⟨Nat.le_of_ble_eq_true rfl, Nat.le_of_ble_eq_true rfl⟩) hX hbl hbA hL hP hS hA hTe (by omega) hl.1 (Nat.le_of_ble_eq_true rfl) dL_terms_87 ⟨Nat.le_of_ble_eq_true rfl, Nat.le_of_ble_eq_true rfl⟩ (fun H locs hP hS => ?_)
        refine lv_ldc hx hb hown hw6 dL_terms_90 ?_
        refine pg_idivM (k := (T (i + 7))) (j := 90000) hx hb rfl rfl (by have := hT (i + 7); omega) (by omega) (by omega) dL_terms_92 ?_
        refine lv_sipush (v := 20000) hx hb dL_terms_93 (by decide) ?_
        refine pg_iremM (k := ((T (i + 7)) / 90000)) (j := 20000) hx hb rfl rfl (by have := hT (i + 7); omega) (by omega) (by omega) dL_terms_96 ?_
        refine lv_bipush (v := 10) hx hb dL_terms_97 (by decide) ?_
        refine pg_imulM (k := (((T (i + 7)) / 90000) % 20000)) (j := 10) hx hb rfl rfl dL_terms_99 ?_
        refine pg_vE (pg_rV (As := [.int (nI i), .int (nI ((T (i + 7)) % 90000)), .int (nI ((((T (i + 7)) / 90000) % 20000) * 10))]) (rest := []) ⟨hx, hb, hml, hown, hts⟩ (cc_setYear_ok l D cI cZ a H.size (tm_part (tm_1 T (tm_0 T u) i) (nI i) (nI ((T (i + 3)) % 300000)) (nI (1 + (((T (i + 3)) / 300000) % 900)))) (nI i) (nI ((T (i + 7)) % 90000)) (nI ((((T (i + 7)) / 90000) % 20000) * 10)) (tm_hYear (T (i + 7)) (T (i + 7)) ((congrFun (tm_1s T (tm_0 T u) i) 3).trans h3) hlt)) (cwV 3 hts gL_terms_X4_setYear rfl rfl rfl (by decide +kernel) ⟨Nat.le_of_ble_eq_true rfl, Nat.le_of_ble_eq_true rfl⟩) hK hP hD 0 (ci := 4) rfl rfl rfl rfl hl.1 rfl (Nat.le_of_ble_eq_true rfl) dL_terms_100 ⟨Nat.le_of_ble_eq_true rfl, Nat.le_of_ble_eq_true rfl⟩) hD hS hA (fun H locs hP hD hS => ?_)
        have hP : va_P D vwCl (pg_wB cI cZ a (tm_1 T (tm_0 T u) (i + 1))) H := hP
        have hD : va_D A (pg_wB cI cZ a (tm_1 T (tm_0 T u) (i + 1))) := hD
        refine lv_iinc (v := nI (i + 1)) (lv' := [(2, .int (nI (i + 1))), (0, .ref (a 0)), (1, .ref b)]) hx hb dL_terms_103 hl (k := 0) rfl (by rw [nI_succ]; rfl) (by decide) rfl (fun ls hl => ?_)
        refine lv_goto (tgt := 33) hx hb dL_terms_106 (by decide) ?_
        exact ih (i + 1) (tm_1 T (tm_0 T u) (i + 1)) (by omega) (by omega) rfl _ _ hP hD hS ls (lv_sub hl [0, 1, 2] rfl)
  exact L33 (4 + 1) 0 (tm_0 T u) (by omega) (by omega) rfl _ _ hP hD hS ls hl
