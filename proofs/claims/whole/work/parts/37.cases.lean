section LAWC
variable {p : Program} {e : Env} {s : State} {m : MethodId} {below : List Frame} {meth : Method} {c : Code} {l : Launch} {b L : Nat} {xs : Nat → Int32} {D : va_G} {cI cZ cL : ClassId} {a a' : Nat → Nat} {o : Nat} {H : Heap} {locs : List Loc} {cells slots i : Nat} {ls : Array Slot} {u w : pg_St} {f : Nat → Int64} {Q : State → Prop}
set_option maxHeartbeats 4000000 in
set_option maxRecDepth 100000 in
theorem lc_0 (hfl : l.stackTraces = false) (hL : L ≤ 3584) (C0 : lw_At p s m meth c b L xs) (hK : va_K D vwCl (pg_tyL cI cZ cL) s) (hE : pg_Env (fun q : Nat => s.heap.size ≤ q) s s.heap) (hi : 7 * i + 7 ≤ L) (hc : cells + 1 ≤ 1072) (hs : slots + 6 ≤ 8564) (hI : pg_Inv u w) (hP : va_P D vwCl (lw_W cI cZ cL a a' o u w f) H) (hD : va_D (fun q : Nat => s.heap.size ≤ q) (lw_W cI cZ cL a a' o u w f)) (hS : va_S (fun q : Nat => s.heap.size ≤ q) s.heap H locs) (hl : lv_has ls 7 [(0, .ref b), (1, .ref (a 0)), (2, .ref (a' 0)), (3, .ref o), (4, .int (nI (7 * i)))])
    (kk : ∀ (H : Heap) (locs : List Loc) (ls : Array Slot) (u w : pg_St) (f : Nat → Int64), pg_Inv u w → va_P D vwCl (lw_W cI cZ cL a a' o u w f) H → va_D (fun q : Nat => s.heap.size ≤ q) (lw_W cI cZ cL a a' o u w f) → va_S (fun q : Nat => s.heap.size ≤ q) s.heap H locs → lv_has ls 7 [(0, .ref b), (1, .ref (a 0)), (2, .ref (a' 0)), (3, .ref o), (4, .int (nI (7 * i)))] → W p l e room_1 s m #[Value.ref b] below meth c H locs (cells + 1) (slots + 6) Q (F0 m 1307 ls [])) :
    W p l e room_1 s m #[Value.ref b] below meth c H locs cells slots Q (F0 m 160 ls []) := by
  obtain ⟨hx, hb, hr, hml, hown, hts, hX, hbl, hlocks, hgv⟩ := id C0
  have hts := fun w h => hts w (wsL_law_in w h)
  have hown : s.vm.findClass RL = some m.cls := hown
  have hb : c.code = cL_law := hb
  have hA : ∀ q : Nat, s.heap.size ≤ q → (fun q : Nat => s.heap.size ≤ q) q := fun _ h => h
  have hbA : ¬ (fun q : Nat => s.heap.size ≤ q) b := Nat.not_le.mpr hbl
  have hc0 : cells + 0 ≤ 1072 := by omega
  have hs0 : slots + 0 ≤ 8564 := by omega
  obtain ⟨n, t, hR⟩ := hI
  obtain ⟨-, -, ⟨hn, h20, ht, h4⟩, ⟨-, -, hmet, hzer⟩, -⟩ := id hR
  have hnw : w.1 10 = nI n := (hR.1.1 10 (by decide)).symm.trans hn
  have htw : w.1 13 = nI t := (hR.1.1 13 (by decide)).symm.trans ht
  rcases pg_c_setPrice (!pg_eq (u.1 3) (-1)) (xs (7 * i + 1)) (xs (7 * i + 2)) (xs (7 * i + 3)) with hthr | hthr | hthr
  · refine lv_aload_n hx hb dL_law_160 rfl (lv_at hl 1 rfl) ?_
    refine lv_aload_n hx hb dL_law_161 rfl (lv_at hl 0 rfl) ?_
    refine lv_iload hx hb dL_law_162 (lv_at hl 4 rfl) ?_
    refine lv_iconst (v := 1) hx hb dL_law_164 (by decide) ?_
    refine pg_iaddN (k := 7 * i) (j := 1) hx hb (by decide) dL_law_165 ?_
    refine pg_sld hx hb hX hbl hbA hS (show 7 * i + 1 < L by omega) hL dL_law_166 ?_
    refine lv_aload_n hx hb dL_law_167 rfl (lv_at hl 0 rfl) ?_
    refine lv_iload hx hb dL_law_168 (lv_at hl 4 rfl) ?_
    refine lv_iconst (v := 2) hx hb dL_law_170 (by decide) ?_
    refine pg_iaddN (k := 7 * i) (j := 2) hx hb (by decide) dL_law_171 ?_
    refine pg_sld hx hb hX hbl hbA hS (show 7 * i + 2 < L by omega) hL dL_law_172 ?_
    refine lv_aload_n hx hb dL_law_173 rfl (lv_at hl 0 rfl) ?_
    refine lv_iload hx hb dL_law_174 (lv_at hl 4 rfl) ?_
    refine lv_iconst (v := 3) hx hb dL_law_176 (by decide) ?_
    refine pg_iaddN (k := 7 * i) (j := 3) hx hb (by decide) dL_law_177 ?_
    refine pg_sld hx hb hX hbl hbA hS (show 7 * i + 3 < L by omega) hL dL_law_178 ?_
    refine pg_iL (pg_rSW (As := [.ref (a 0), .int (xs (7 * i + 1)), .int (xs (7 * i + 2)), .int (xs (7 * i + 3))]) (rest := []) ⟨hx, hb, hml, hown, hts⟩ (cw_setPrice_ok l D cI cZ cL a o H.size u f (xs (7 * i + 1)) (xs (7 * i + 2)) (xs (7 * i + 3)) hthr) (vx_cwSW 4 hts gL_law_L_setPrice rfl rfl rfl (by decide +kernel) ⟨Nat.le_of_ble_eq_true rfl, Nat.le_of_ble_eq_true rfl⟩) hK (pg_PL hP) (pg_DL hD) rfl hl.1 rfl (Nat.le_of_ble_eq_true rfl) dL_law_179 ⟨hc0, hs0⟩) hP hD hS hA (fun H locs hP hD hS => ?_)
    have hP : va_P D vwCl (lw_W cI cZ cL a a' o (upd (upd (upd u.1 0 (xs (7 * i + 1))) 1 (xs (7 * i + 2))) 2 (xs (7 * i + 3)), u.2) w f) H := hP
    have hD : va_D (fun q : Nat => s.heap.size ≤ q) (lw_W cI cZ cL a a' o (upd (upd (upd u.1 0 (xs (7 * i + 1))) 1 (xs (7 * i + 2))) 2 (xs (7 * i + 3)), u.2) w f) := hD
    refine W.widen (k := cells + 1) (n := slots + 6) (by omega) (by omega) ?_
    refine lv_istore (lv' := [(5, .int 0), (0, .ref b), (1, .ref (a 0)), (2, .ref (a' 0)), (3, .ref o), (4, .int (nI (7 * i)))]) hx hb dL_law_182 hl (by decide) rfl (fun ls hl => ?_)
    refine lv_aload_n hx hb dL_law_184 rfl (lv_at hl 3 rfl) ?_
    refine lv_aload_n hx hb dL_law_185 rfl (lv_at hl 1 rfl) ?_
    refine lv_iload hx hb dL_law_186 (lv_at hl 5 rfl) ?_
    refine lv_iconst (v := 1) hx hb dL_law_188 (by decide) ?_
    refine pg_iaddN (k := 7 * i) (j := 1) hx hb (by decide) dL_law_189 ?_
    refine pg_sld hx hb hX hbl hbA hS (show 7 * i + 1 < L by omega) hL dL_law_190 ?_
    refine lv_aload_n hx hb dL_law_191 rfl (lv_at hl 1 rfl) ?_
    refine lv_iload hx hb dL_law_192 (lv_at hl 5 rfl) ?_
    refine lv_iconst (v := 2) hx hb dL_law_194 (by decide) ?_
    refine pg_iaddN (k := 7 * i) (j := 2) hx hb (by decide) dL_law_195 ?_
    refine pg_sld hx hb hX hbl hbA hS (show 7 * i + 2 < L by omega) hL dL_law_196 ?_
    refine lv_aload_n hx hb dL_law_197 rfl (lv_at hl 1 rfl) ?_
    refine lv_iload hx hb dL_law_198 (lv_at hl 5 rfl) ?_
    refine lv_iconst (v := 3) hx hb dL_law_200 (by decide) ?_
    refine pg_iaddN (k := 7 * i) (j := 3) hx hb (by decide) dL_law_201 ?_
    refine pg_sld hx hb hX hbl hbA hS (show 7 * i + 3 < L by omega) hL dL_law_202 ?_
    refine pg_vR (pg_rV (As := [.int (xs (7 * i + 1)), .int (xs (7 * i + 2)), .int (xs (7 * i + 3))]) (rest := []) ⟨hx, hb, hml, hown, hts⟩ (cm_setPrice_ok l D cI cZ a' H.size w (xs (7 * i + 1)) (xs (7 * i + 2)) (xs (7 * i + 3)) (by rw [← hR.cl]; exact hthr)) (cwV 3 hts gL_law_X5_setPrice rfl rfl rfl (by decide +kernel) ⟨Nat.le_of_ble_eq_true rfl, Nat.le_of_ble_eq_true rfl⟩) (hK.sub [0, 1] rfl) (pg_PR hP) (pg_DR hD) 0 (ci := 5) rfl rfl rfl rfl hl.1 rfl (Nat.le_of_ble_eq_true rfl) dL_law_203 ⟨hc, hs⟩) hP hD hS hA (fun H locs hP hD hS => ?_)
    have hP : va_P D vwCl (lw_W cI cZ cL a a' o (upd (upd (upd u.1 0 (xs (7 * i + 1))) 1 (xs (7 * i + 2))) 2 (xs (7 * i + 3)), u.2) (upd (upd (upd (upd w.1 15 0) 0 (xs (7 * i + 1))) 1 (xs (7 * i + 2))) 2 (xs (7 * i + 3)), w.2) f) H := hP
    have hD : va_D (fun q : Nat => s.heap.size ≤ q) (lw_W cI cZ cL a a' o (upd (upd (upd u.1 0 (xs (7 * i + 1))) 1 (xs (7 * i + 2))) 2 (xs (7 * i + 3)), u.2) (upd (upd (upd (upd w.1 15 0) 0 (xs (7 * i + 1))) 1 (xs (7 * i + 2))) 2 (xs (7 * i + 3)), w.2) f) := hD
    refine lv_aload_n hx hb dL_law_206 rfl (lv_at hl 3 rfl) ?_
    refine pg_iR (pg_rV (As := []) (rest := []) ⟨hx, hb, hml, hown, hts⟩ (cm_thrown l D cI cZ a' H.size (upd (upd (upd (upd w.1 15 0) 0 (xs (7 * i + 1))) 1 (xs (7 * i + 2))) 2 (xs (7 * i + 3)), w.2)) (cwV 0 hts gL_law_X5_thrown rfl rfl rfl (by decide +kernel) ⟨Nat.le_of_ble_eq_true rfl, Nat.le_of_ble_eq_true rfl⟩) (hK.sub [0, 1] rfl) (pg_PR hP) (pg_DR hD) 0 (ci := 5) rfl rfl rfl rfl hl.1 rfl (Nat.le_of_ble_eq_true rfl) dL_law_207 ⟨hc, hs⟩) hP hD hS hA (fun H locs hP hD hS => ?_)
    have hP : va_P D vwCl (lw_W cI cZ cL a a' o (upd (upd (upd u.1 0 (xs (7 * i + 1))) 1 (xs (7 * i + 2))) 2 (xs (7 * i + 3)), u.2) (upd (upd (upd (upd w.1 15 0) 0 (xs (7 * i + 1))) 1 (xs (7 * i + 2))) 2 (xs (7 * i + 3)), w.2) f) H := hP
    have hD : va_D (fun q : Nat => s.heap.size ≤ q) (lw_W cI cZ cL a a' o (upd (upd (upd u.1 0 (xs (7 * i + 1))) 1 (xs (7 * i + 2))) 2 (xs (7 * i + 3)), u.2) (upd (upd (upd (upd w.1 15 0) 0 (xs (7 * i + 1))) 1 (xs (7 * i + 2))) 2 (xs (7 * i + 3)), w.2) f) := hD
    refine lv_iload hx hb dL_law_210 (lv_at hl 0 rfl) ?_
    refine lv_icmp_eq (tgt := 217) hx hb dL_law_212 (by decide) (fun _ => ?_) (fun h9 => (h9 (rfl)).elim)
    refine lv_goto (tgt := 1307) hx hb dL_law_217 (by decide) ?_
    exact kk H locs ls _ _ _ ⟨_, _, pg_I_setPrice hR (xs (7 * i + 1)) (xs (7 * i + 2)) (xs (7 * i + 3))⟩ hP hD hS (lv_sub hl [1, 2, 3, 4, 5] rfl)
  · refine lv_aload_n hx hb dL_law_160 rfl (lv_at hl 1 rfl) ?_
    refine lv_aload_n hx hb dL_law_161 rfl (lv_at hl 0 rfl) ?_
    refine lv_iload hx hb dL_law_162 (lv_at hl 4 rfl) ?_
    refine lv_iconst (v := 1) hx hb dL_law_164 (by decide) ?_
    refine pg_iaddN (k := 7 * i) (j := 1) hx hb (by decide) dL_law_165 ?_
    refine pg_sld hx hb hX hbl hbA hS (show 7 * i + 1 < L by omega) hL dL_law_166 ?_
    refine lv_aload_n hx hb dL_law_167 rfl (lv_at hl 0 rfl) ?_
    refine lv_iload hx hb dL_law_168 (lv_at hl 4 rfl) ?_
    refine lv_iconst (v := 2) hx hb dL_law_170 (by decide) ?_
    refine pg_iaddN (k := 7 * i) (j := 2) hx hb (by decide) dL_law_171 ?_
    refine pg_sld hx hb hX hbl hbA hS (show 7 * i + 2 < L by omega) hL dL_law_172 ?_
    refine lv_aload_n hx hb dL_law_173 rfl (lv_at hl 0 rfl) ?_
    refine lv_iload hx hb dL_law_174 (lv_at hl 4 rfl) ?_
    refine lv_iconst (v := 3) hx hb dL_law_176 (by decide) ?_
    refine pg_iaddN (k := 7 * i) (j := 3) hx hb (by decide) dL_law_177 ?_
    refine pg_sld hx hb hX hbl hbA hS (show 7 * i + 3 < L by omega) hL dL_law_178 ?_
    refine pg_iL (pg_rSWT (As := [.ref (a 0), .int (xs (7 * i + 1)), .int (xs (7 * i + 2)), .int (xs (7 * i + 3))]) (rest := []) ⟨hx, hb, hml, hown, hts⟩ (cw_setPrice_1 l hfl D cI cZ cL a o H.size u f (xs (7 * i + 1)) (xs (7 * i + 2)) (xs (7 * i + 3)) hthr) (vx_cwSW 4 hts gL_law_L_setPrice rfl rfl rfl (by decide +kernel) ⟨Nat.le_of_ble_eq_true rfl, Nat.le_of_ble_eq_true rfl⟩) hK (pg_PL hP) (pg_DL hD) hS hA hE rfl hl.1 rfl (Nat.le_of_ble_eq_true rfl) dL_law_179 ⟨hc, hs⟩) hP hD hS hA (fun H locs hP hD hS => ?_)
    have hP : va_P D vwCl (lw_W cI cZ cL a a' o u w f) H := hP
    have hD : va_D (fun q : Nat => s.heap.size ≤ q) (lw_W cI cZ cL a a' o u w f) := hD
    refine lv_istore (lv' := [(5, .int 1), (0, .ref b), (1, .ref (a 0)), (2, .ref (a' 0)), (3, .ref o), (4, .int (nI (7 * i)))]) hx hb dL_law_182 hl (by decide) rfl (fun ls hl => ?_)
    refine lv_aload_n hx hb dL_law_184 rfl (lv_at hl 3 rfl) ?_
    refine lv_aload_n hx hb dL_law_185 rfl (lv_at hl 1 rfl) ?_
    refine lv_iload hx hb dL_law_186 (lv_at hl 5 rfl) ?_
    refine lv_iconst (v := 1) hx hb dL_law_188 (by decide) ?_
    refine pg_iaddN (k := 7 * i) (j := 1) hx hb (by decide) dL_law_189 ?_
    refine pg_sld hx hb hX hbl hbA hS (show 7 * i + 1 < L by omega) hL dL_law_190 ?_
    refine lv_aload_n hx hb dL_law_191 rfl (lv_at hl 1 rfl) ?_
    refine lv_iload hx hb dL_law_192 (lv_at hl 5 rfl) ?_
    refine lv_iconst (v := 2) hx hb dL_law_194 (by decide) ?_
    refine pg_iaddN (k := 7 * i) (j := 2) hx hb (by decide) dL_law_195 ?_
    refine pg_sld hx hb hX hbl hbA hS (show 7 * i + 2 < L by omega) hL dL_law_196 ?_
    refine lv_aload_n hx hb dL_law_197 rfl (lv_at hl 1 rfl) ?_
    refine lv_iload hx hb dL_law_198 (lv_at hl 5 rfl) ?_
    refine lv_iconst (v := 3) hx hb dL_law_200 (by decide) ?_
    refine pg_iaddN (k := 7 * i) (j := 3) hx hb (by decide) dL_law_201 ?_
    refine pg_sld hx hb hX hbl hbA hS (show 7 * i + 3 < L by omega) hL dL_law_202 ?_
    refine pg_vR (pg_rV (As := [.int (xs (7 * i + 1)), .int (xs (7 * i + 2)), .int (xs (7 * i + 3))]) (rest := []) ⟨hx, hb, hml, hown, hts⟩ (cm_setPrice_no l D cI cZ a' H.size w (xs (7 * i + 1)) (xs (7 * i + 2)) (xs (7 * i + 3)) 1 (by rw [← hR.cl]; exact hthr) (by decide)) (cwV 3 hts gL_law_X5_setPrice rfl rfl rfl (by decide +kernel) ⟨Nat.le_of_ble_eq_true rfl, Nat.le_of_ble_eq_true rfl⟩) (hK.sub [0, 1] rfl) (pg_PR hP) (pg_DR hD) 0 (ci := 5) rfl rfl rfl rfl hl.1 rfl (Nat.le_of_ble_eq_true rfl) dL_law_203 ⟨hc, hs⟩) hP hD hS hA (fun H locs hP hD hS => ?_)
    have hP : va_P D vwCl (lw_W cI cZ cL a a' o u (upd w.1 15 1, w.2) f) H := hP
    have hD : va_D (fun q : Nat => s.heap.size ≤ q) (lw_W cI cZ cL a a' o u (upd w.1 15 1, w.2) f) := hD
    refine lv_aload_n hx hb dL_law_206 rfl (lv_at hl 3 rfl) ?_
    refine pg_iR (pg_rV (As := []) (rest := []) ⟨hx, hb, hml, hown, hts⟩ (cm_thrown l D cI cZ a' H.size (upd w.1 15 1, w.2)) (cwV 0 hts gL_law_X5_thrown rfl rfl rfl (by decide +kernel) ⟨Nat.le_of_ble_eq_true rfl, Nat.le_of_ble_eq_true rfl⟩) (hK.sub [0, 1] rfl) (pg_PR hP) (pg_DR hD) 0 (ci := 5) rfl rfl rfl rfl hl.1 rfl (Nat.le_of_ble_eq_true rfl) dL_law_207 ⟨hc, hs⟩) hP hD hS hA (fun H locs hP hD hS => ?_)
    have hP : va_P D vwCl (lw_W cI cZ cL a a' o u (upd w.1 15 1, w.2) f) H := hP
    have hD : va_D (fun q : Nat => s.heap.size ≤ q) (lw_W cI cZ cL a a' o u (upd w.1 15 1, w.2) f) := hD
    refine lv_iload hx hb dL_law_210 (lv_at hl 0 rfl) ?_
    refine lv_icmp_eq (tgt := 217) hx hb dL_law_212 (by decide) (fun _ => ?_) (fun h9 => (h9 (pg_updk w.1 15 1)).elim)
    refine lv_goto (tgt := 1307) hx hb dL_law_217 (by decide) ?_
    exact kk H locs ls _ _ _ ⟨_, _, hR.thr 1⟩ hP hD hS (lv_sub hl [1, 2, 3, 4, 5] rfl)
  · refine lv_aload_n hx hb dL_law_160 rfl (lv_at hl 1 rfl) ?_
    refine lv_aload_n hx hb dL_law_161 rfl (lv_at hl 0 rfl) ?_
    refine lv_iload hx hb dL_law_162 (lv_at hl 4 rfl) ?_
    refine lv_iconst (v := 1) hx hb dL_law_164 (by decide) ?_
    refine pg_iaddN (k := 7 * i) (j := 1) hx hb (by decide) dL_law_165 ?_
    refine pg_sld hx hb hX hbl hbA hS (show 7 * i + 1 < L by omega) hL dL_law_166 ?_
    refine lv_aload_n hx hb dL_law_167 rfl (lv_at hl 0 rfl) ?_
    refine lv_iload hx hb dL_law_168 (lv_at hl 4 rfl) ?_
    refine lv_iconst (v := 2) hx hb dL_law_170 (by decide) ?_
    refine pg_iaddN (k := 7 * i) (j := 2) hx hb (by decide) dL_law_171 ?_
    refine pg_sld hx hb hX hbl hbA hS (show 7 * i + 2 < L by omega) hL dL_law_172 ?_
    refine lv_aload_n hx hb dL_law_173 rfl (lv_at hl 0 rfl) ?_
    refine lv_iload hx hb dL_law_174 (lv_at hl 4 rfl) ?_
    refine lv_iconst (v := 3) hx hb dL_law_176 (by decide) ?_
    refine pg_iaddN (k := 7 * i) (j := 3) hx hb (by decide) dL_law_177 ?_
    refine pg_sld hx hb hX hbl hbA hS (show 7 * i + 3 < L by omega) hL dL_law_178 ?_
    refine pg_iL (pg_rSWT (As := [.ref (a 0), .int (xs (7 * i + 1)), .int (xs (7 * i + 2)), .int (xs (7 * i + 3))]) (rest := []) ⟨hx, hb, hml, hown, hts⟩ (cw_setPrice_2 l hfl D cI cZ cL a o H.size u f (xs (7 * i + 1)) (xs (7 * i + 2)) (xs (7 * i + 3)) hthr) (vx_cwSW 4 hts gL_law_L_setPrice rfl rfl rfl (by decide +kernel) ⟨Nat.le_of_ble_eq_true rfl, Nat.le_of_ble_eq_true rfl⟩) hK (pg_PL hP) (pg_DL hD) hS hA hE rfl hl.1 rfl (Nat.le_of_ble_eq_true rfl) dL_law_179 ⟨hc, hs⟩) hP hD hS hA (fun H locs hP hD hS => ?_)
    have hP : va_P D vwCl (lw_W cI cZ cL a a' o u w f) H := hP
    have hD : va_D (fun q : Nat => s.heap.size ≤ q) (lw_W cI cZ cL a a' o u w f) := hD
    refine lv_istore (lv' := [(5, .int 2), (0, .ref b), (1, .ref (a 0)), (2, .ref (a' 0)), (3, .ref o), (4, .int (nI (7 * i)))]) hx hb dL_law_182 hl (by decide) rfl (fun ls hl => ?_)
    refine lv_aload_n hx hb dL_law_184 rfl (lv_at hl 3 rfl) ?_
    refine lv_aload_n hx hb dL_law_185 rfl (lv_at hl 1 rfl) ?_
    refine lv_iload hx hb dL_law_186 (lv_at hl 5 rfl) ?_
    refine lv_iconst (v := 1) hx hb dL_law_188 (by decide) ?_
    refine pg_iaddN (k := 7 * i) (j := 1) hx hb (by decide) dL_law_189 ?_
    refine pg_sld hx hb hX hbl hbA hS (show 7 * i + 1 < L by omega) hL dL_law_190 ?_
    refine lv_aload_n hx hb dL_law_191 rfl (lv_at hl 1 rfl) ?_
    refine lv_iload hx hb dL_law_192 (lv_at hl 5 rfl) ?_
    refine lv_iconst (v := 2) hx hb dL_law_194 (by decide) ?_
    refine pg_iaddN (k := 7 * i) (j := 2) hx hb (by decide) dL_law_195 ?_
    refine pg_sld hx hb hX hbl hbA hS (show 7 * i + 2 < L by omega) hL dL_law_196 ?_
    refine lv_aload_n hx hb dL_law_197 rfl (lv_at hl 1 rfl) ?_
    refine lv_iload hx hb dL_law_198 (lv_at hl 5 rfl) ?_
    refine lv_iconst (v := 3) hx hb dL_law_200 (by decide) ?_
    refine pg_iaddN (k := 7 * i) (j := 3) hx hb (by decide) dL_law_201 ?_
    refine pg_sld hx hb hX hbl hbA hS (show 7 * i + 3 < L by omega) hL dL_law_202 ?_
    refine pg_vR (pg_rV (As := [.int (xs (7 * i + 1)), .int (xs (7 * i + 2)), .int (xs (7 * i + 3))]) (rest := []) ⟨hx, hb, hml, hown, hts⟩ (cm_setPrice_no l D cI cZ a' H.size w (xs (7 * i + 1)) (xs (7 * i + 2)) (xs (7 * i + 3)) 2 (by rw [← hR.cl]; exact hthr) (by decide)) (cwV 3 hts gL_law_X5_setPrice rfl rfl rfl (by decide +kernel) ⟨Nat.le_of_ble_eq_true rfl, Nat.le_of_ble_eq_true rfl⟩) (hK.sub [0, 1] rfl) (pg_PR hP) (pg_DR hD) 0 (ci := 5) rfl rfl rfl rfl hl.1 rfl (Nat.le_of_ble_eq_true rfl) dL_law_203 ⟨hc, hs⟩) hP hD hS hA (fun H locs hP hD hS => ?_)
    have hP : va_P D vwCl (lw_W cI cZ cL a a' o u (upd w.1 15 2, w.2) f) H := hP
    have hD : va_D (fun q : Nat => s.heap.size ≤ q) (lw_W cI cZ cL a a' o u (upd w.1 15 2, w.2) f) := hD
    refine lv_aload_n hx hb dL_law_206 rfl (lv_at hl 3 rfl) ?_
    refine pg_iR (pg_rV (As := []) (rest := []) ⟨hx, hb, hml, hown, hts⟩ (cm_thrown l D cI cZ a' H.size (upd w.1 15 2, w.2)) (cwV 0 hts gL_law_X5_thrown rfl rfl rfl (by decide +kernel) ⟨Nat.le_of_ble_eq_true rfl, Nat.le_of_ble_eq_true rfl⟩) (hK.sub [0, 1] rfl) (pg_PR hP) (pg_DR hD) 0 (ci := 5) rfl rfl rfl rfl hl.1 rfl (Nat.le_of_ble_eq_true rfl) dL_law_207 ⟨hc, hs⟩) hP hD hS hA (fun H locs hP hD hS => ?_)
    have hP : va_P D vwCl (lw_W cI cZ cL a a' o u (upd w.1 15 2, w.2) f) H := hP
    have hD : va_D (fun q : Nat => s.heap.size ≤ q) (lw_W cI cZ cL a a' o u (upd w.1 15 2, w.2) f) := hD
    refine lv_iload hx hb dL_law_210 (lv_at hl 0 rfl) ?_
    refine lv_icmp_eq (tgt := 217) hx hb dL_law_212 (by decide) (fun _ => ?_) (fun h9 => (h9 (pg_updk w.1 15 2)).elim)
    refine lv_goto (tgt := 1307) hx hb dL_law_217 (by decide) ?_
    exact kk H locs ls _ _ _ ⟨_, _, hR.thr 2⟩ hP hD hS (lv_sub hl [1, 2, 3, 4, 5] rfl)
set_option maxHeartbeats 4000000 in
set_option maxRecDepth 100000 in
theorem lc_1 (hfl : l.stackTraces = false) (hL : L ≤ 3584) (C0 : lw_At p s m meth c b L xs) (hK : va_K D vwCl (pg_tyL cI cZ cL) s) (hE : pg_Env (fun q : Nat => s.heap.size ≤ q) s s.heap) (hi : 7 * i + 7 ≤ L) (hc : cells + 1 ≤ 1072) (hs : slots + 6 ≤ 8564) (hI : pg_Inv u w) (hP : va_P D vwCl (lw_W cI cZ cL a a' o u w f) H) (hD : va_D (fun q : Nat => s.heap.size ≤ q) (lw_W cI cZ cL a a' o u w f)) (hS : va_S (fun q : Nat => s.heap.size ≤ q) s.heap H locs) (hl : lv_has ls 7 [(0, .ref b), (1, .ref (a 0)), (2, .ref (a' 0)), (3, .ref o), (4, .int (nI (7 * i)))])
    (kk : ∀ (H : Heap) (locs : List Loc) (ls : Array Slot) (u w : pg_St) (f : Nat → Int64), pg_Inv u w → va_P D vwCl (lw_W cI cZ cL a a' o u w f) H → va_D (fun q : Nat => s.heap.size ≤ q) (lw_W cI cZ cL a a' o u w f) → va_S (fun q : Nat => s.heap.size ≤ q) s.heap H locs → lv_has ls 7 [(0, .ref b), (1, .ref (a 0)), (2, .ref (a' 0)), (3, .ref o), (4, .int (nI (7 * i)))] → W p l e room_1 s m #[Value.ref b] below meth c H locs (cells + 1) (slots + 6) Q (F0 m 1307 ls [])) :
    W p l e room_1 s m #[Value.ref b] below meth c H locs cells slots Q (F0 m 220 ls []) := by
  obtain ⟨hx, hb, hr, hml, hown, hts, hX, hbl, hlocks, hgv⟩ := id C0
  have hts := fun w h => hts w (wsL_law_in w h)
  have hown : s.vm.findClass RL = some m.cls := hown
  have hb : c.code = cL_law := hb
  have hA : ∀ q : Nat, s.heap.size ≤ q → (fun q : Nat => s.heap.size ≤ q) q := fun _ h => h
  have hbA : ¬ (fun q : Nat => s.heap.size ≤ q) b := Nat.not_le.mpr hbl
  have hc0 : cells + 0 ≤ 1072 := by omega
  have hs0 : slots + 0 ≤ 8564 := by omega
  obtain ⟨n, t, hR⟩ := hI
  obtain ⟨-, -, ⟨hn, h20, ht, h4⟩, ⟨-, -, hmet, hzer⟩, -⟩ := id hR
  have hnw : w.1 10 = nI n := (hR.1.1 10 (by decide)).symm.trans hn
  have htw : w.1 13 = nI t := (hR.1.1 13 (by decide)).symm.trans ht
  rcases pg_c_setPart (!pg_eq (u.1 3) (-1)) (xs (7 * i + 1)) (xs (7 * i + 2)) (xs (7 * i + 3)) with hthr | hthr | hthr | hthr
  · refine lv_aload_n hx hb dL_law_220 rfl (lv_at hl 1 rfl) ?_
    refine lv_aload_n hx hb dL_law_221 rfl (lv_at hl 0 rfl) ?_
    refine lv_iload hx hb dL_law_222 (lv_at hl 4 rfl) ?_
    refine lv_iconst (v := 1) hx hb dL_law_224 (by decide) ?_
    refine pg_iaddN (k := 7 * i) (j := 1) hx hb (by decide) dL_law_225 ?_
    refine pg_sld hx hb hX hbl hbA hS (show 7 * i + 1 < L by omega) hL dL_law_226 ?_
    refine lv_aload_n hx hb dL_law_227 rfl (lv_at hl 0 rfl) ?_
    refine lv_iload hx hb dL_law_228 (lv_at hl 4 rfl) ?_
    refine lv_iconst (v := 2) hx hb dL_law_230 (by decide) ?_
    refine pg_iaddN (k := 7 * i) (j := 2) hx hb (by decide) dL_law_231 ?_
    refine pg_sld hx hb hX hbl hbA hS (show 7 * i + 2 < L by omega) hL dL_law_232 ?_
    refine lv_aload_n hx hb dL_law_233 rfl (lv_at hl 0 rfl) ?_
    refine lv_iload hx hb dL_law_234 (lv_at hl 4 rfl) ?_
    refine lv_iconst (v := 3) hx hb dL_law_236 (by decide) ?_
    refine pg_iaddN (k := 7 * i) (j := 3) hx hb (by decide) dL_law_237 ?_
    refine pg_sld hx hb hX hbl hbA hS (show 7 * i + 3 < L by omega) hL dL_law_238 ?_
    refine pg_iL (pg_rSW (As := [.ref (a 0), .int (xs (7 * i + 1)), .int (xs (7 * i + 2)), .int (xs (7 * i + 3))]) (rest := []) ⟨hx, hb, hml, hown, hts⟩ (cw_setPart_ok l D cI cZ cL a o H.size u f (xs (7 * i + 1)) (xs (7 * i + 2)) (xs (7 * i + 3)) hthr) (vx_cwSW 4 hts gL_law_L_setPart rfl rfl rfl (by decide +kernel) ⟨Nat.le_of_ble_eq_true rfl, Nat.le_of_ble_eq_true rfl⟩) hK (pg_PL hP) (pg_DL hD) rfl hl.1 rfl (Nat.le_of_ble_eq_true rfl) dL_law_239 ⟨hc0, hs0⟩) hP hD hS hA (fun H locs hP hD hS => ?_)
    have hP : va_P D vwCl (lw_W cI cZ cL a a' o (u.1, pg_row (pg_row u.2 0 (upd (u.2 0) (xs (7 * i + 1)).toNatClampNeg (xs (7 * i + 2)))) 1 (upd (u.2 1) (xs (7 * i + 1)).toNatClampNeg (xs (7 * i + 3)))) w f) H := hP
    have hD : va_D (fun q : Nat => s.heap.size ≤ q) (lw_W cI cZ cL a a' o (u.1, pg_row (pg_row u.2 0 (upd (u.2 0) (xs (7 * i + 1)).toNatClampNeg (xs (7 * i + 2)))) 1 (upd (u.2 1) (xs (7 * i + 1)).toNatClampNeg (xs (7 * i + 3)))) w f) := hD
    refine W.widen (k := cells + 1) (n := slots + 6) (by omega) (by omega) ?_
    refine lv_istore (lv' := [(5, .int 0), (0, .ref b), (1, .ref (a 0)), (2, .ref (a' 0)), (3, .ref o), (4, .int (nI (7 * i)))]) hx hb dL_law_242 hl (by decide) rfl (fun ls hl => ?_)
    refine lv_aload_n hx hb dL_law_244 rfl (lv_at hl 3 rfl) ?_
    refine lv_aload_n hx hb dL_law_245 rfl (lv_at hl 1 rfl) ?_
    refine lv_iload hx hb dL_law_246 (lv_at hl 5 rfl) ?_
    refine lv_iconst (v := 1) hx hb dL_law_248 (by decide) ?_
    refine pg_iaddN (k := 7 * i) (j := 1) hx hb (by decide) dL_law_249 ?_
    refine pg_sld hx hb hX hbl hbA hS (show 7 * i + 1 < L by omega) hL dL_law_250 ?_
    refine lv_aload_n hx hb dL_law_251 rfl (lv_at hl 1 rfl) ?_
    refine lv_iload hx hb dL_law_252 (lv_at hl 5 rfl) ?_
    refine lv_iconst (v := 2) hx hb dL_law_254 (by decide) ?_
    refine pg_iaddN (k := 7 * i) (j := 2) hx hb (by decide) dL_law_255 ?_
    refine pg_sld hx hb hX hbl hbA hS (show 7 * i + 2 < L by omega) hL dL_law_256 ?_
    refine lv_aload_n hx hb dL_law_257 rfl (lv_at hl 1 rfl) ?_
    refine lv_iload hx hb dL_law_258 (lv_at hl 5 rfl) ?_
    refine lv_iconst (v := 3) hx hb dL_law_260 (by decide) ?_
    refine pg_iaddN (k := 7 * i) (j := 3) hx hb (by decide) dL_law_261 ?_
    refine pg_sld hx hb hX hbl hbA hS (show 7 * i + 3 < L by omega) hL dL_law_262 ?_
    refine pg_vR (pg_rV (As := [.int (xs (7 * i + 1)), .int (xs (7 * i + 2)), .int (xs (7 * i + 3))]) (rest := []) ⟨hx, hb, hml, hown, hts⟩ (cm_setPart_ok l D cI cZ a' H.size w (xs (7 * i + 1)) (xs (7 * i + 2)) (xs (7 * i + 3)) (by rw [← hR.cl]; exact hthr)) (cwV 3 hts gL_law_X5_setPart rfl rfl rfl (by decide +kernel) ⟨Nat.le_of_ble_eq_true rfl, Nat.le_of_ble_eq_true rfl⟩) (hK.sub [0, 1] rfl) (pg_PR hP) (pg_DR hD) 0 (ci := 5) rfl rfl rfl rfl hl.1 rfl (Nat.le_of_ble_eq_true rfl) dL_law_263 ⟨hc, hs⟩) hP hD hS hA (fun H locs hP hD hS => ?_)
    have hP : va_P D vwCl (lw_W cI cZ cL a a' o (u.1, pg_row (pg_row u.2 0 (upd (u.2 0) (xs (7 * i + 1)).toNatClampNeg (xs (7 * i + 2)))) 1 (upd (u.2 1) (xs (7 * i + 1)).toNatClampNeg (xs (7 * i + 3)))) (upd w.1 15 0, pg_row (pg_row w.2 0 (upd (w.2 0) (xs (7 * i + 1)).toNatClampNeg (xs (7 * i + 2)))) 1 (upd (w.2 1) (xs (7 * i + 1)).toNatClampNeg (xs (7 * i + 3)))) f) H := hP
    have hD : va_D (fun q : Nat => s.heap.size ≤ q) (lw_W cI cZ cL a a' o (u.1, pg_row (pg_row u.2 0 (upd (u.2 0) (xs (7 * i + 1)).toNatClampNeg (xs (7 * i + 2)))) 1 (upd (u.2 1) (xs (7 * i + 1)).toNatClampNeg (xs (7 * i + 3)))) (upd w.1 15 0, pg_row (pg_row w.2 0 (upd (w.2 0) (xs (7 * i + 1)).toNatClampNeg (xs (7 * i + 2)))) 1 (upd (w.2 1) (xs (7 * i + 1)).toNatClampNeg (xs (7 * i + 3)))) f) := hD
    refine lv_aload_n hx hb dL_law_266 rfl (lv_at hl 3 rfl) ?_
    refine pg_iR (pg_rV (As := []) (rest := []) ⟨hx, hb, hml, hown, hts⟩ (cm_thrown l D cI cZ a' H.size (upd w.1 15 0, pg_row (pg_row w.2 0 (upd (w.2 0) (xs (7 * i + 1)).toNatClampNeg (xs (7 * i + 2)))) 1 (upd (w.2 1) (xs (7 * i + 1)).toNatClampNeg (xs (7 * i + 3))))) (cwV 0 hts gL_law_X5_thrown rfl rfl rfl (by decide +kernel) ⟨Nat.le_of_ble_eq_true rfl, Nat.le_of_ble_eq_true rfl⟩) (hK.sub [0, 1] rfl) (pg_PR hP) (pg_DR hD) 0 (ci := 5) rfl rfl rfl rfl hl.1 rfl (Nat.le_of_ble_eq_true rfl) dL_law_267 ⟨hc, hs⟩) hP hD hS hA (fun H locs hP hD hS => ?_)
    have hP : va_P D vwCl (lw_W cI cZ cL a a' o (u.1, pg_row (pg_row u.2 0 (upd (u.2 0) (xs (7 * i + 1)).toNatClampNeg (xs (7 * i + 2)))) 1 (upd (u.2 1) (xs (7 * i + 1)).toNatClampNeg (xs (7 * i + 3)))) (upd w.1 15 0, pg_row (pg_row w.2 0 (upd (w.2 0) (xs (7 * i + 1)).toNatClampNeg (xs (7 * i + 2)))) 1 (upd (w.2 1) (xs (7 * i + 1)).toNatClampNeg (xs (7 * i + 3)))) f) H := hP
    have hD : va_D (fun q : Nat => s.heap.size ≤ q) (lw_W cI cZ cL a a' o (u.1, pg_row (pg_row u.2 0 (upd (u.2 0) (xs (7 * i + 1)).toNatClampNeg (xs (7 * i + 2)))) 1 (upd (u.2 1) (xs (7 * i + 1)).toNatClampNeg (xs (7 * i + 3)))) (upd w.1 15 0, pg_row (pg_row w.2 0 (upd (w.2 0) (xs (7 * i + 1)).toNatClampNeg (xs (7 * i + 2)))) 1 (upd (w.2 1) (xs (7 * i + 1)).toNatClampNeg (xs (7 * i + 3)))) f) := hD
    refine lv_iload hx hb dL_law_270 (lv_at hl 0 rfl) ?_
    refine lv_icmp_eq (tgt := 277) hx hb dL_law_272 (by decide) (fun _ => ?_) (fun h9 => (h9 (rfl)).elim)
    refine lv_goto (tgt := 1307) hx hb dL_law_277 (by decide) ?_
    exact kk H locs ls _ _ _ ⟨_, _, pg_J_setPart hR hthr⟩ hP hD hS (lv_sub hl [1, 2, 3, 4, 5] rfl)
  · refine lv_aload_n hx hb dL_law_220 rfl (lv_at hl 1 rfl) ?_
    refine lv_aload_n hx hb dL_law_221 rfl (lv_at hl 0 rfl) ?_
    refine lv_iload hx hb dL_law_222 (lv_at hl 4 rfl) ?_
    refine lv_iconst (v := 1) hx hb dL_law_224 (by decide) ?_
    refine pg_iaddN (k := 7 * i) (j := 1) hx hb (by decide) dL_law_225 ?_
    refine pg_sld hx hb hX hbl hbA hS (show 7 * i + 1 < L by omega) hL dL_law_226 ?_
    refine lv_aload_n hx hb dL_law_227 rfl (lv_at hl 0 rfl) ?_
    refine lv_iload hx hb dL_law_228 (lv_at hl 4 rfl) ?_
    refine lv_iconst (v := 2) hx hb dL_law_230 (by decide) ?_
    refine pg_iaddN (k := 7 * i) (j := 2) hx hb (by decide) dL_law_231 ?_
    refine pg_sld hx hb hX hbl hbA hS (show 7 * i + 2 < L by omega) hL dL_law_232 ?_
    refine lv_aload_n hx hb dL_law_233 rfl (lv_at hl 0 rfl) ?_
    refine lv_iload hx hb dL_law_234 (lv_at hl 4 rfl) ?_
    refine lv_iconst (v := 3) hx hb dL_law_236 (by decide) ?_
    refine pg_iaddN (k := 7 * i) (j := 3) hx hb (by decide) dL_law_237 ?_
    refine pg_sld hx hb hX hbl hbA hS (show 7 * i + 3 < L by omega) hL dL_law_238 ?_
    refine pg_iL (pg_rSWT (As := [.ref (a 0), .int (xs (7 * i + 1)), .int (xs (7 * i + 2)), .int (xs (7 * i + 3))]) (rest := []) ⟨hx, hb, hml, hown, hts⟩ (cw_setPart_1 l hfl D cI cZ cL a o H.size u f (xs (7 * i + 1)) (xs (7 * i + 2)) (xs (7 * i + 3)) hthr) (vx_cwSW 4 hts gL_law_L_setPart rfl rfl rfl (by decide +kernel) ⟨Nat.le_of_ble_eq_true rfl, Nat.le_of_ble_eq_true rfl⟩) hK (pg_PL hP) (pg_DL hD) hS hA hE rfl hl.1 rfl (Nat.le_of_ble_eq_true rfl) dL_law_239 ⟨hc, hs⟩) hP hD hS hA (fun H locs hP hD hS => ?_)
    have hP : va_P D vwCl (lw_W cI cZ cL a a' o u w f) H := hP
    have hD : va_D (fun q : Nat => s.heap.size ≤ q) (lw_W cI cZ cL a a' o u w f) := hD
    refine lv_istore (lv' := [(5, .int 1), (0, .ref b), (1, .ref (a 0)), (2, .ref (a' 0)), (3, .ref o), (4, .int (nI (7 * i)))]) hx hb dL_law_242 hl (by decide) rfl (fun ls hl => ?_)
    refine lv_aload_n hx hb dL_law_244 rfl (lv_at hl 3 rfl) ?_
    refine lv_aload_n hx hb dL_law_245 rfl (lv_at hl 1 rfl) ?_
    refine lv_iload hx hb dL_law_246 (lv_at hl 5 rfl) ?_
    refine lv_iconst (v := 1) hx hb dL_law_248 (by decide) ?_
    refine pg_iaddN (k := 7 * i) (j := 1) hx hb (by decide) dL_law_249 ?_
    refine pg_sld hx hb hX hbl hbA hS (show 7 * i + 1 < L by omega) hL dL_law_250 ?_
    refine lv_aload_n hx hb dL_law_251 rfl (lv_at hl 1 rfl) ?_
    refine lv_iload hx hb dL_law_252 (lv_at hl 5 rfl) ?_
    refine lv_iconst (v := 2) hx hb dL_law_254 (by decide) ?_
    refine pg_iaddN (k := 7 * i) (j := 2) hx hb (by decide) dL_law_255 ?_
    refine pg_sld hx hb hX hbl hbA hS (show 7 * i + 2 < L by omega) hL dL_law_256 ?_
    refine lv_aload_n hx hb dL_law_257 rfl (lv_at hl 1 rfl) ?_
    refine lv_iload hx hb dL_law_258 (lv_at hl 5 rfl) ?_
    refine lv_iconst (v := 3) hx hb dL_law_260 (by decide) ?_
    refine pg_iaddN (k := 7 * i) (j := 3) hx hb (by decide) dL_law_261 ?_
    refine pg_sld hx hb hX hbl hbA hS (show 7 * i + 3 < L by omega) hL dL_law_262 ?_
    refine pg_vR (pg_rV (As := [.int (xs (7 * i + 1)), .int (xs (7 * i + 2)), .int (xs (7 * i + 3))]) (rest := []) ⟨hx, hb, hml, hown, hts⟩ (cm_setPart_no l D cI cZ a' H.size w (xs (7 * i + 1)) (xs (7 * i + 2)) (xs (7 * i + 3)) 1 (by rw [← hR.cl]; exact hthr) (by decide)) (cwV 3 hts gL_law_X5_setPart rfl rfl rfl (by decide +kernel) ⟨Nat.le_of_ble_eq_true rfl, Nat.le_of_ble_eq_true rfl⟩) (hK.sub [0, 1] rfl) (pg_PR hP) (pg_DR hD) 0 (ci := 5) rfl rfl rfl rfl hl.1 rfl (Nat.le_of_ble_eq_true rfl) dL_law_263 ⟨hc, hs⟩) hP hD hS hA (fun H locs hP hD hS => ?_)
    have hP : va_P D vwCl (lw_W cI cZ cL a a' o u (upd w.1 15 1, w.2) f) H := hP
    have hD : va_D (fun q : Nat => s.heap.size ≤ q) (lw_W cI cZ cL a a' o u (upd w.1 15 1, w.2) f) := hD
    refine lv_aload_n hx hb dL_law_266 rfl (lv_at hl 3 rfl) ?_
    refine pg_iR (pg_rV (As := []) (rest := []) ⟨hx, hb, hml, hown, hts⟩ (cm_thrown l D cI cZ a' H.size (upd w.1 15 1, w.2)) (cwV 0 hts gL_law_X5_thrown rfl rfl rfl (by decide +kernel) ⟨Nat.le_of_ble_eq_true rfl, Nat.le_of_ble_eq_true rfl⟩) (hK.sub [0, 1] rfl) (pg_PR hP) (pg_DR hD) 0 (ci := 5) rfl rfl rfl rfl hl.1 rfl (Nat.le_of_ble_eq_true rfl) dL_law_267 ⟨hc, hs⟩) hP hD hS hA (fun H locs hP hD hS => ?_)
    have hP : va_P D vwCl (lw_W cI cZ cL a a' o u (upd w.1 15 1, w.2) f) H := hP
    have hD : va_D (fun q : Nat => s.heap.size ≤ q) (lw_W cI cZ cL a a' o u (upd w.1 15 1, w.2) f) := hD
    refine lv_iload hx hb dL_law_270 (lv_at hl 0 rfl) ?_
    refine lv_icmp_eq (tgt := 277) hx hb dL_law_272 (by decide) (fun _ => ?_) (fun h9 => (h9 (pg_updk w.1 15 1)).elim)
    refine lv_goto (tgt := 1307) hx hb dL_law_277 (by decide) ?_
    exact kk H locs ls _ _ _ ⟨_, _, hR.thr 1⟩ hP hD hS (lv_sub hl [1, 2, 3, 4, 5] rfl)
  · refine lv_aload_n hx hb dL_law_220 rfl (lv_at hl 1 rfl) ?_
    refine lv_aload_n hx hb dL_law_221 rfl (lv_at hl 0 rfl) ?_
    refine lv_iload hx hb dL_law_222 (lv_at hl 4 rfl) ?_
    refine lv_iconst (v := 1) hx hb dL_law_224 (by decide) ?_
    refine pg_iaddN (k := 7 * i) (j := 1) hx hb (by decide) dL_law_225 ?_
    refine pg_sld hx hb hX hbl hbA hS (show 7 * i + 1 < L by omega) hL dL_law_226 ?_
    refine lv_aload_n hx hb dL_law_227 rfl (lv_at hl 0 rfl) ?_
    refine lv_iload hx hb dL_law_228 (lv_at hl 4 rfl) ?_
    refine lv_iconst (v := 2) hx hb dL_law_230 (by decide) ?_
    refine pg_iaddN (k := 7 * i) (j := 2) hx hb (by decide) dL_law_231 ?_
    refine pg_sld hx hb hX hbl hbA hS (show 7 * i + 2 < L by omega) hL dL_law_232 ?_
    refine lv_aload_n hx hb dL_law_233 rfl (lv_at hl 0 rfl) ?_
    refine lv_iload hx hb dL_law_234 (lv_at hl 4 rfl) ?_
    refine lv_iconst (v := 3) hx hb dL_law_236 (by decide) ?_
    refine pg_iaddN (k := 7 * i) (j := 3) hx hb (by decide) dL_law_237 ?_
    refine pg_sld hx hb hX hbl hbA hS (show 7 * i + 3 < L by omega) hL dL_law_238 ?_
    refine pg_iL (pg_rSWT (As := [.ref (a 0), .int (xs (7 * i + 1)), .int (xs (7 * i + 2)), .int (xs (7 * i + 3))]) (rest := []) ⟨hx, hb, hml, hown, hts⟩ (cw_setPart_2 l hfl D cI cZ cL a o H.size u f (xs (7 * i + 1)) (xs (7 * i + 2)) (xs (7 * i + 3)) hthr) (vx_cwSW 4 hts gL_law_L_setPart rfl rfl rfl (by decide +kernel) ⟨Nat.le_of_ble_eq_true rfl, Nat.le_of_ble_eq_true rfl⟩) hK (pg_PL hP) (pg_DL hD) hS hA hE rfl hl.1 rfl (Nat.le_of_ble_eq_true rfl) dL_law_239 ⟨hc, hs⟩) hP hD hS hA (fun H locs hP hD hS => ?_)
    have hP : va_P D vwCl (lw_W cI cZ cL a a' o u w f) H := hP
    have hD : va_D (fun q : Nat => s.heap.size ≤ q) (lw_W cI cZ cL a a' o u w f) := hD
    refine lv_istore (lv' := [(5, .int 2), (0, .ref b), (1, .ref (a 0)), (2, .ref (a' 0)), (3, .ref o), (4, .int (nI (7 * i)))]) hx hb dL_law_242 hl (by decide) rfl (fun ls hl => ?_)
    refine lv_aload_n hx hb dL_law_244 rfl (lv_at hl 3 rfl) ?_
    refine lv_aload_n hx hb dL_law_245 rfl (lv_at hl 1 rfl) ?_
    refine lv_iload hx hb dL_law_246 (lv_at hl 5 rfl) ?_
    refine lv_iconst (v := 1) hx hb dL_law_248 (by decide) ?_
    refine pg_iaddN (k := 7 * i) (j := 1) hx hb (by decide) dL_law_249 ?_
    refine pg_sld hx hb hX hbl hbA hS (show 7 * i + 1 < L by omega) hL dL_law_250 ?_
    refine lv_aload_n hx hb dL_law_251 rfl (lv_at hl 1 rfl) ?_
    refine lv_iload hx hb dL_law_252 (lv_at hl 5 rfl) ?_
    refine lv_iconst (v := 2) hx hb dL_law_254 (by decide) ?_
    refine pg_iaddN (k := 7 * i) (j := 2) hx hb (by decide) dL_law_255 ?_
    refine pg_sld hx hb hX hbl hbA hS (show 7 * i + 2 < L by omega) hL dL_law_256 ?_
    refine lv_aload_n hx hb dL_law_257 rfl (lv_at hl 1 rfl) ?_
    refine lv_iload hx hb dL_law_258 (lv_at hl 5 rfl) ?_
    refine lv_iconst (v := 3) hx hb dL_law_260 (by decide) ?_
    refine pg_iaddN (k := 7 * i) (j := 3) hx hb (by decide) dL_law_261 ?_
    refine pg_sld hx hb hX hbl hbA hS (show 7 * i + 3 < L by omega) hL dL_law_262 ?_
    refine pg_vR (pg_rV (As := [.int (xs (7 * i + 1)), .int (xs (7 * i + 2)), .int (xs (7 * i + 3))]) (rest := []) ⟨hx, hb, hml, hown, hts⟩ (cm_setPart_no l D cI cZ a' H.size w (xs (7 * i + 1)) (xs (7 * i + 2)) (xs (7 * i + 3)) 2 (by rw [← hR.cl]; exact hthr) (by decide)) (cwV 3 hts gL_law_X5_setPart rfl rfl rfl (by decide +kernel) ⟨Nat.le_of_ble_eq_true rfl, Nat.le_of_ble_eq_true rfl⟩) (hK.sub [0, 1] rfl) (pg_PR hP) (pg_DR hD) 0 (ci := 5) rfl rfl rfl rfl hl.1 rfl (Nat.le_of_ble_eq_true rfl) dL_law_263 ⟨hc, hs⟩) hP hD hS hA (fun H locs hP hD hS => ?_)
    have hP : va_P D vwCl (lw_W cI cZ cL a a' o u (upd w.1 15 2, w.2) f) H := hP
    have hD : va_D (fun q : Nat => s.heap.size ≤ q) (lw_W cI cZ cL a a' o u (upd w.1 15 2, w.2) f) := hD
    refine lv_aload_n hx hb dL_law_266 rfl (lv_at hl 3 rfl) ?_
    refine pg_iR (pg_rV (As := []) (rest := []) ⟨hx, hb, hml, hown, hts⟩ (cm_thrown l D cI cZ a' H.size (upd w.1 15 2, w.2)) (cwV 0 hts gL_law_X5_thrown rfl rfl rfl (by decide +kernel) ⟨Nat.le_of_ble_eq_true rfl, Nat.le_of_ble_eq_true rfl⟩) (hK.sub [0, 1] rfl) (pg_PR hP) (pg_DR hD) 0 (ci := 5) rfl rfl rfl rfl hl.1 rfl (Nat.le_of_ble_eq_true rfl) dL_law_267 ⟨hc, hs⟩) hP hD hS hA (fun H locs hP hD hS => ?_)
    have hP : va_P D vwCl (lw_W cI cZ cL a a' o u (upd w.1 15 2, w.2) f) H := hP
    have hD : va_D (fun q : Nat => s.heap.size ≤ q) (lw_W cI cZ cL a a' o u (upd w.1 15 2, w.2) f) := hD
    refine lv_iload hx hb dL_law_270 (lv_at hl 0 rfl) ?_
    refine lv_icmp_eq (tgt := 277) hx hb dL_law_272 (by decide) (fun _ => ?_) (fun h9 => (h9 (pg_updk w.1 15 2)).elim)
    refine lv_goto (tgt := 1307) hx hb dL_law_277 (by decide) ?_
    exact kk H locs ls _ _ _ ⟨_, _, hR.thr 2⟩ hP hD hS (lv_sub hl [1, 2, 3, 4, 5] rfl)
  · refine lv_aload_n hx hb dL_law_220 rfl (lv_at hl 1 rfl) ?_
    refine lv_aload_n hx hb dL_law_221 rfl (lv_at hl 0 rfl) ?_
    refine lv_iload hx hb dL_law_222 (lv_at hl 4 rfl) ?_
    refine lv_iconst (v := 1) hx hb dL_law_224 (by decide) ?_
    refine pg_iaddN (k := 7 * i) (j := 1) hx hb (by decide) dL_law_225 ?_
    refine pg_sld hx hb hX hbl hbA hS (show 7 * i + 1 < L by omega) hL dL_law_226 ?_
    refine lv_aload_n hx hb dL_law_227 rfl (lv_at hl 0 rfl) ?_
    refine lv_iload hx hb dL_law_228 (lv_at hl 4 rfl) ?_
    refine lv_iconst (v := 2) hx hb dL_law_230 (by decide) ?_
    refine pg_iaddN (k := 7 * i) (j := 2) hx hb (by decide) dL_law_231 ?_
    refine pg_sld hx hb hX hbl hbA hS (show 7 * i + 2 < L by omega) hL dL_law_232 ?_
    refine lv_aload_n hx hb dL_law_233 rfl (lv_at hl 0 rfl) ?_
    refine lv_iload hx hb dL_law_234 (lv_at hl 4 rfl) ?_
    refine lv_iconst (v := 3) hx hb dL_law_236 (by decide) ?_
    refine pg_iaddN (k := 7 * i) (j := 3) hx hb (by decide) dL_law_237 ?_
    refine pg_sld hx hb hX hbl hbA hS (show 7 * i + 3 < L by omega) hL dL_law_238 ?_
    refine pg_iL (pg_rSWT (As := [.ref (a 0), .int (xs (7 * i + 1)), .int (xs (7 * i + 2)), .int (xs (7 * i + 3))]) (rest := []) ⟨hx, hb, hml, hown, hts⟩ (cw_setPart_3 l hfl D cI cZ cL a o H.size u f (xs (7 * i + 1)) (xs (7 * i + 2)) (xs (7 * i + 3)) hthr) (vx_cwSW 4 hts gL_law_L_setPart rfl rfl rfl (by decide +kernel) ⟨Nat.le_of_ble_eq_true rfl, Nat.le_of_ble_eq_true rfl⟩) hK (pg_PL hP) (pg_DL hD) hS hA hE rfl hl.1 rfl (Nat.le_of_ble_eq_true rfl) dL_law_239 ⟨hc, hs⟩) hP hD hS hA (fun H locs hP hD hS => ?_)
    have hP : va_P D vwCl (lw_W cI cZ cL a a' o u w f) H := hP
    have hD : va_D (fun q : Nat => s.heap.size ≤ q) (lw_W cI cZ cL a a' o u w f) := hD
    refine lv_istore (lv' := [(5, .int 3), (0, .ref b), (1, .ref (a 0)), (2, .ref (a' 0)), (3, .ref o), (4, .int (nI (7 * i)))]) hx hb dL_law_242 hl (by decide) rfl (fun ls hl => ?_)
    refine lv_aload_n hx hb dL_law_244 rfl (lv_at hl 3 rfl) ?_
    refine lv_aload_n hx hb dL_law_245 rfl (lv_at hl 1 rfl) ?_
    refine lv_iload hx hb dL_law_246 (lv_at hl 5 rfl) ?_
    refine lv_iconst (v := 1) hx hb dL_law_248 (by decide) ?_
    refine pg_iaddN (k := 7 * i) (j := 1) hx hb (by decide) dL_law_249 ?_
    refine pg_sld hx hb hX hbl hbA hS (show 7 * i + 1 < L by omega) hL dL_law_250 ?_
    refine lv_aload_n hx hb dL_law_251 rfl (lv_at hl 1 rfl) ?_
    refine lv_iload hx hb dL_law_252 (lv_at hl 5 rfl) ?_
    refine lv_iconst (v := 2) hx hb dL_law_254 (by decide) ?_
    refine pg_iaddN (k := 7 * i) (j := 2) hx hb (by decide) dL_law_255 ?_
    refine pg_sld hx hb hX hbl hbA hS (show 7 * i + 2 < L by omega) hL dL_law_256 ?_
    refine lv_aload_n hx hb dL_law_257 rfl (lv_at hl 1 rfl) ?_
    refine lv_iload hx hb dL_law_258 (lv_at hl 5 rfl) ?_
    refine lv_iconst (v := 3) hx hb dL_law_260 (by decide) ?_
    refine pg_iaddN (k := 7 * i) (j := 3) hx hb (by decide) dL_law_261 ?_
    refine pg_sld hx hb hX hbl hbA hS (show 7 * i + 3 < L by omega) hL dL_law_262 ?_
    refine pg_vR (pg_rV (As := [.int (xs (7 * i + 1)), .int (xs (7 * i + 2)), .int (xs (7 * i + 3))]) (rest := []) ⟨hx, hb, hml, hown, hts⟩ (cm_setPart_no l D cI cZ a' H.size w (xs (7 * i + 1)) (xs (7 * i + 2)) (xs (7 * i + 3)) 3 (by rw [← hR.cl]; exact hthr) (by decide)) (cwV 3 hts gL_law_X5_setPart rfl rfl rfl (by decide +kernel) ⟨Nat.le_of_ble_eq_true rfl, Nat.le_of_ble_eq_true rfl⟩) (hK.sub [0, 1] rfl) (pg_PR hP) (pg_DR hD) 0 (ci := 5) rfl rfl rfl rfl hl.1 rfl (Nat.le_of_ble_eq_true rfl) dL_law_263 ⟨hc, hs⟩) hP hD hS hA (fun H locs hP hD hS => ?_)
    have hP : va_P D vwCl (lw_W cI cZ cL a a' o u (upd w.1 15 3, w.2) f) H := hP
    have hD : va_D (fun q : Nat => s.heap.size ≤ q) (lw_W cI cZ cL a a' o u (upd w.1 15 3, w.2) f) := hD
    refine lv_aload_n hx hb dL_law_266 rfl (lv_at hl 3 rfl) ?_
    refine pg_iR (pg_rV (As := []) (rest := []) ⟨hx, hb, hml, hown, hts⟩ (cm_thrown l D cI cZ a' H.size (upd w.1 15 3, w.2)) (cwV 0 hts gL_law_X5_thrown rfl rfl rfl (by decide +kernel) ⟨Nat.le_of_ble_eq_true rfl, Nat.le_of_ble_eq_true rfl⟩) (hK.sub [0, 1] rfl) (pg_PR hP) (pg_DR hD) 0 (ci := 5) rfl rfl rfl rfl hl.1 rfl (Nat.le_of_ble_eq_true rfl) dL_law_267 ⟨hc, hs⟩) hP hD hS hA (fun H locs hP hD hS => ?_)
    have hP : va_P D vwCl (lw_W cI cZ cL a a' o u (upd w.1 15 3, w.2) f) H := hP
    have hD : va_D (fun q : Nat => s.heap.size ≤ q) (lw_W cI cZ cL a a' o u (upd w.1 15 3, w.2) f) := hD
    refine lv_iload hx hb dL_law_270 (lv_at hl 0 rfl) ?_
    refine lv_icmp_eq (tgt := 277) hx hb dL_law_272 (by decide) (fun _ => ?_) (fun h9 => (h9 (pg_updk w.1 15 3)).elim)
    refine lv_goto (tgt := 1307) hx hb dL_law_277 (by decide) ?_
    exact kk H locs ls _ _ _ ⟨_, _, hR.thr 3⟩ hP hD hS (lv_sub hl [1, 2, 3, 4, 5] rfl)
set_option maxHeartbeats 4000000 in
set_option maxRecDepth 100000 in
theorem lc_2 (hfl : l.stackTraces = false) (hL : L ≤ 3584) (C0 : lw_At p s m meth c b L xs) (hK : va_K D vwCl (pg_tyL cI cZ cL) s) (hE : pg_Env (fun q : Nat => s.heap.size ≤ q) s s.heap) (hi : 7 * i + 7 ≤ L) (hc : cells + 1 ≤ 1072) (hs : slots + 6 ≤ 8564) (hI : pg_Inv u w) (hP : va_P D vwCl (lw_W cI cZ cL a a' o u w f) H) (hD : va_D (fun q : Nat => s.heap.size ≤ q) (lw_W cI cZ cL a a' o u w f)) (hS : va_S (fun q : Nat => s.heap.size ≤ q) s.heap H locs) (hl : lv_has ls 7 [(0, .ref b), (1, .ref (a 0)), (2, .ref (a' 0)), (3, .ref o), (4, .int (nI (7 * i)))])
    (kk : ∀ (H : Heap) (locs : List Loc) (ls : Array Slot) (u w : pg_St) (f : Nat → Int64), pg_Inv u w → va_P D vwCl (lw_W cI cZ cL a a' o u w f) H → va_D (fun q : Nat => s.heap.size ≤ q) (lw_W cI cZ cL a a' o u w f) → va_S (fun q : Nat => s.heap.size ≤ q) s.heap H locs → lv_has ls 7 [(0, .ref b), (1, .ref (a 0)), (2, .ref (a' 0)), (3, .ref o), (4, .int (nI (7 * i)))] → W p l e room_1 s m #[Value.ref b] below meth c H locs (cells + 1) (slots + 6) Q (F0 m 1307 ls [])) :
    W p l e room_1 s m #[Value.ref b] below meth c H locs cells slots Q (F0 m 280 ls []) := by
  obtain ⟨hx, hb, hr, hml, hown, hts, hX, hbl, hlocks, hgv⟩ := id C0
  have hts := fun w h => hts w (wsL_law_in w h)
  have hown : s.vm.findClass RL = some m.cls := hown
  have hb : c.code = cL_law := hb
  have hA : ∀ q : Nat, s.heap.size ≤ q → (fun q : Nat => s.heap.size ≤ q) q := fun _ h => h
  have hbA : ¬ (fun q : Nat => s.heap.size ≤ q) b := Nat.not_le.mpr hbl
  have hc0 : cells + 0 ≤ 1072 := by omega
  have hs0 : slots + 0 ≤ 8564 := by omega
  obtain ⟨n, t, hR⟩ := hI
  obtain ⟨-, -, ⟨hn, h20, ht, h4⟩, ⟨-, -, hmet, hzer⟩, -⟩ := id hR
  have hnw : w.1 10 = nI n := (hR.1.1 10 (by decide)).symm.trans hn
  have htw : w.1 13 = nI t := (hR.1.1 13 (by decide)).symm.trans ht
  by_cases hbo : (xs (7 * i + 4)) = 0
  · rcases pg_c_setKind (!pg_eq (u.1 3) (-1)) (xs (7 * i + 1)) (xs (7 * i + 2)) (xs (7 * i + 3)) (xs (7 * i + 5)) (xs (7 * i + 6)) with hthr | hthr | hthr | hthr
    · refine lv_aload_n hx hb dL_law_280 rfl (lv_at hl 1 rfl) ?_
      refine lv_aload_n hx hb dL_law_281 rfl (lv_at hl 0 rfl) ?_
      refine lv_iload hx hb dL_law_282 (lv_at hl 4 rfl) ?_
      refine lv_iconst (v := 1) hx hb dL_law_284 (by decide) ?_
      refine pg_iaddN (k := 7 * i) (j := 1) hx hb (by decide) dL_law_285 ?_
      refine pg_sld hx hb hX hbl hbA hS (show 7 * i + 1 < L by omega) hL dL_law_286 ?_
      refine lv_aload_n hx hb dL_law_287 rfl (lv_at hl 0 rfl) ?_
      refine lv_iload hx hb dL_law_288 (lv_at hl 4 rfl) ?_
      refine lv_iconst (v := 2) hx hb dL_law_290 (by decide) ?_
      refine pg_iaddN (k := 7 * i) (j := 2) hx hb (by decide) dL_law_291 ?_
      refine pg_sld hx hb hX hbl hbA hS (show 7 * i + 2 < L by omega) hL dL_law_292 ?_
      refine lv_aload_n hx hb dL_law_293 rfl (lv_at hl 0 rfl) ?_
      refine lv_iload hx hb dL_law_294 (lv_at hl 4 rfl) ?_
      refine lv_iconst (v := 3) hx hb dL_law_296 (by decide) ?_
      refine pg_iaddN (k := 7 * i) (j := 3) hx hb (by decide) dL_law_297 ?_
      refine pg_sld hx hb hX hbl hbA hS (show 7 * i + 3 < L by omega) hL dL_law_298 ?_
      refine lv_aload_n hx hb dL_law_299 rfl (lv_at hl 0 rfl) ?_
      refine lv_iload hx hb dL_law_300 (lv_at hl 4 rfl) ?_
      refine lv_iconst (v := 4) hx hb dL_law_302 (by decide) ?_
      refine pg_iaddN (k := 7 * i) (j := 4) hx hb (by decide) dL_law_303 ?_
      refine pg_sld hx hb hX hbl hbA hS (show 7 * i + 4 < L by omega) hL dL_law_304 ?_
      refine lv_if_eq (tgt := 312) hx hb dL_law_305 (by decide) (fun _ => ?_) (fun h9 => absurd hbo h9)
      refine lv_iconst (v := 0) hx hb dL_law_312 (by decide) ?_
      refine lv_aload_n hx hb dL_law_313 rfl (lv_at hl 0 rfl) ?_
      refine lv_iload hx hb dL_law_314 (lv_at hl 4 rfl) ?_
      refine lv_iconst (v := 5) hx hb dL_law_316 (by decide) ?_
      refine pg_iaddN (k := 7 * i) (j := 5) hx hb (by decide) dL_law_317 ?_
      refine pg_sld hx hb hX hbl hbA hS (show 7 * i + 5 < L by omega) hL dL_law_318 ?_
      refine lv_aload_n hx hb dL_law_319 rfl (lv_at hl 0 rfl) ?_
      refine lv_iload hx hb dL_law_320 (lv_at hl 4 rfl) ?_
      refine lv_bipush (v := 6) hx hb dL_law_322 (by decide) ?_
      refine pg_iaddN (k := 7 * i) (j := 6) hx hb (by decide) dL_law_324 ?_
      refine pg_sld hx hb hX hbl hbA hS (show 7 * i + 6 < L by omega) hL dL_law_325 ?_
      refine pg_iL (pg_rSW (As := [.ref (a 0), .int (xs (7 * i + 1)), .int (xs (7 * i + 2)), .int (xs (7 * i + 3)), .int 0, .int (xs (7 * i + 5)), .int (xs (7 * i + 6))]) (rest := []) ⟨hx, hb, hml, hown, hts⟩ (cw_setKind_ok l D cI cZ cL a o H.size u f (xs (7 * i + 1)) (xs (7 * i + 2)) (xs (7 * i + 3)) 0 (xs (7 * i + 5)) (xs (7 * i + 6)) rfl hthr) (vx_cwSW 7 hts gL_law_L_setKind rfl rfl rfl (by decide +kernel) ⟨Nat.le_of_ble_eq_true rfl, Nat.le_of_ble_eq_true rfl⟩) hK (pg_PL hP) (pg_DL hD) rfl hl.1 rfl (Nat.le_of_ble_eq_true rfl) dL_law_326 ⟨hc0, hs0⟩) hP hD hS hA (fun H locs hP hD hS => ?_)
      have hP : va_P D vwCl (lw_W cI cZ cL a a' o (u.1, pg_row (pg_row (pg_row (pg_row (pg_row u.2 2 (upd (u.2 2) (xs (7 * i + 1)).toNatClampNeg (xs (7 * i + 2)))) 3 (upd (u.2 3) (xs (7 * i + 1)).toNatClampNeg (xs (7 * i + 3)))) 4 (upd (u.2 4) (xs (7 * i + 1)).toNatClampNeg 0)) 5 (upd (u.2 5) (xs (7 * i + 1)).toNatClampNeg (xs (7 * i + 5)))) 6 (upd (u.2 6) (xs (7 * i + 1)).toNatClampNeg (xs (7 * i + 6)))) w f) H := hP
      have hD : va_D (fun q : Nat => s.heap.size ≤ q) (lw_W cI cZ cL a a' o (u.1, pg_row (pg_row (pg_row (pg_row (pg_row u.2 2 (upd (u.2 2) (xs (7 * i + 1)).toNatClampNeg (xs (7 * i + 2)))) 3 (upd (u.2 3) (xs (7 * i + 1)).toNatClampNeg (xs (7 * i + 3)))) 4 (upd (u.2 4) (xs (7 * i + 1)).toNatClampNeg 0)) 5 (upd (u.2 5) (xs (7 * i + 1)).toNatClampNeg (xs (7 * i + 5)))) 6 (upd (u.2 6) (xs (7 * i + 1)).toNatClampNeg (xs (7 * i + 6)))) w f) := hD
      refine W.widen (k := cells + 1) (n := slots + 6) (by omega) (by omega) ?_
      refine lv_istore (lv' := [(5, .int 0), (0, .ref b), (1, .ref (a 0)), (2, .ref (a' 0)), (3, .ref o), (4, .int (nI (7 * i)))]) hx hb dL_law_329 hl (by decide) rfl (fun ls hl => ?_)
      refine lv_aload_n hx hb dL_law_331 rfl (lv_at hl 3 rfl) ?_
      refine lv_aload_n hx hb dL_law_332 rfl (lv_at hl 1 rfl) ?_
      refine lv_iload hx hb dL_law_333 (lv_at hl 5 rfl) ?_
      refine lv_iconst (v := 1) hx hb dL_law_335 (by decide) ?_
      refine pg_iaddN (k := 7 * i) (j := 1) hx hb (by decide) dL_law_336 ?_
      refine pg_sld hx hb hX hbl hbA hS (show 7 * i + 1 < L by omega) hL dL_law_337 ?_
      refine lv_aload_n hx hb dL_law_338 rfl (lv_at hl 1 rfl) ?_
      refine lv_iload hx hb dL_law_339 (lv_at hl 5 rfl) ?_
      refine lv_iconst (v := 2) hx hb dL_law_341 (by decide) ?_
      refine pg_iaddN (k := 7 * i) (j := 2) hx hb (by decide) dL_law_342 ?_
      refine pg_sld hx hb hX hbl hbA hS (show 7 * i + 2 < L by omega) hL dL_law_343 ?_
      refine lv_aload_n hx hb dL_law_344 rfl (lv_at hl 1 rfl) ?_
      refine lv_iload hx hb dL_law_345 (lv_at hl 5 rfl) ?_
      refine lv_iconst (v := 3) hx hb dL_law_347 (by decide) ?_
      refine pg_iaddN (k := 7 * i) (j := 3) hx hb (by decide) dL_law_348 ?_
      refine pg_sld hx hb hX hbl hbA hS (show 7 * i + 3 < L by omega) hL dL_law_349 ?_
      refine lv_aload_n hx hb dL_law_350 rfl (lv_at hl 1 rfl) ?_
      refine lv_iload hx hb dL_law_351 (lv_at hl 5 rfl) ?_
      refine lv_iconst (v := 4) hx hb dL_law_353 (by decide) ?_
      refine pg_iaddN (k := 7 * i) (j := 4) hx hb (by decide) dL_law_354 ?_
      refine pg_sld hx hb hX hbl hbA hS (show 7 * i + 4 < L by omega) hL dL_law_355 ?_
      refine lv_if_eq (tgt := 363) hx hb dL_law_356 (by decide) (fun _ => ?_) (fun h9 => absurd hbo h9)
      refine lv_iconst (v := 0) hx hb dL_law_363 (by decide) ?_
      refine lv_aload_n hx hb dL_law_364 rfl (lv_at hl 1 rfl) ?_
      refine lv_iload hx hb dL_law_365 (lv_at hl 5 rfl) ?_
      refine lv_iconst (v := 5) hx hb dL_law_367 (by decide) ?_
      refine pg_iaddN (k := 7 * i) (j := 5) hx hb (by decide) dL_law_368 ?_
      refine pg_sld hx hb hX hbl hbA hS (show 7 * i + 5 < L by omega) hL dL_law_369 ?_
      refine lv_aload_n hx hb dL_law_370 rfl (lv_at hl 1 rfl) ?_
      refine lv_iload hx hb dL_law_371 (lv_at hl 5 rfl) ?_
      refine lv_bipush (v := 6) hx hb dL_law_373 (by decide) ?_
      refine pg_iaddN (k := 7 * i) (j := 6) hx hb (by decide) dL_law_375 ?_
      refine pg_sld hx hb hX hbl hbA hS (show 7 * i + 6 < L by omega) hL dL_law_376 ?_
      refine pg_vR (pg_rV (As := [.int (xs (7 * i + 1)), .int (xs (7 * i + 2)), .int (xs (7 * i + 3)), .int 0, .int (xs (7 * i + 5)), .int (xs (7 * i + 6))]) (rest := []) ⟨hx, hb, hml, hown, hts⟩ (cm_setKind_ok l D cI cZ a' H.size w (xs (7 * i + 1)) (xs (7 * i + 2)) (xs (7 * i + 3)) 0 (xs (7 * i + 5)) (xs (7 * i + 6)) rfl (by rw [← hR.cl]; exact hthr)) (cwV 6 hts gL_law_X5_setKind rfl rfl rfl (by decide +kernel) ⟨Nat.le_of_ble_eq_true rfl, Nat.le_of_ble_eq_true rfl⟩) (hK.sub [0, 1] rfl) (pg_PR hP) (pg_DR hD) 0 (ci := 5) rfl rfl rfl rfl hl.1 rfl (Nat.le_of_ble_eq_true rfl) dL_law_377 ⟨hc, hs⟩) hP hD hS hA (fun H locs hP hD hS => ?_)
      have hP : va_P D vwCl (lw_W cI cZ cL a a' o (u.1, pg_row (pg_row (pg_row (pg_row (pg_row u.2 2 (upd (u.2 2) (xs (7 * i + 1)).toNatClampNeg (xs (7 * i + 2)))) 3 (upd (u.2 3) (xs (7 * i + 1)).toNatClampNeg (xs (7 * i + 3)))) 4 (upd (u.2 4) (xs (7 * i + 1)).toNatClampNeg 0)) 5 (upd (u.2 5) (xs (7 * i + 1)).toNatClampNeg (xs (7 * i + 5)))) 6 (upd (u.2 6) (xs (7 * i + 1)).toNatClampNeg (xs (7 * i + 6)))) (upd w.1 15 0, pg_row (pg_row (pg_row (pg_row (pg_row w.2 2 (upd (w.2 2) (xs (7 * i + 1)).toNatClampNeg (xs (7 * i + 2)))) 3 (upd (w.2 3) (xs (7 * i + 1)).toNatClampNeg (xs (7 * i + 3)))) 4 (upd (w.2 4) (xs (7 * i + 1)).toNatClampNeg 0)) 5 (upd (w.2 5) (xs (7 * i + 1)).toNatClampNeg (xs (7 * i + 5)))) 6 (upd (w.2 6) (xs (7 * i + 1)).toNatClampNeg (xs (7 * i + 6)))) f) H := hP
      have hD : va_D (fun q : Nat => s.heap.size ≤ q) (lw_W cI cZ cL a a' o (u.1, pg_row (pg_row (pg_row (pg_row (pg_row u.2 2 (upd (u.2 2) (xs (7 * i + 1)).toNatClampNeg (xs (7 * i + 2)))) 3 (upd (u.2 3) (xs (7 * i + 1)).toNatClampNeg (xs (7 * i + 3)))) 4 (upd (u.2 4) (xs (7 * i + 1)).toNatClampNeg 0)) 5 (upd (u.2 5) (xs (7 * i + 1)).toNatClampNeg (xs (7 * i + 5)))) 6 (upd (u.2 6) (xs (7 * i + 1)).toNatClampNeg (xs (7 * i + 6)))) (upd w.1 15 0, pg_row (pg_row (pg_row (pg_row (pg_row w.2 2 (upd (w.2 2) (xs (7 * i + 1)).toNatClampNeg (xs (7 * i + 2)))) 3 (upd (w.2 3) (xs (7 * i + 1)).toNatClampNeg (xs (7 * i + 3)))) 4 (upd (w.2 4) (xs (7 * i + 1)).toNatClampNeg 0)) 5 (upd (w.2 5) (xs (7 * i + 1)).toNatClampNeg (xs (7 * i + 5)))) 6 (upd (w.2 6) (xs (7 * i + 1)).toNatClampNeg (xs (7 * i + 6)))) f) := hD
      refine lv_aload_n hx hb dL_law_380 rfl (lv_at hl 3 rfl) ?_
      refine pg_iR (pg_rV (As := []) (rest := []) ⟨hx, hb, hml, hown, hts⟩ (cm_thrown l D cI cZ a' H.size (upd w.1 15 0, pg_row (pg_row (pg_row (pg_row (pg_row w.2 2 (upd (w.2 2) (xs (7 * i + 1)).toNatClampNeg (xs (7 * i + 2)))) 3 (upd (w.2 3) (xs (7 * i + 1)).toNatClampNeg (xs (7 * i + 3)))) 4 (upd (w.2 4) (xs (7 * i + 1)).toNatClampNeg 0)) 5 (upd (w.2 5) (xs (7 * i + 1)).toNatClampNeg (xs (7 * i + 5)))) 6 (upd (w.2 6) (xs (7 * i + 1)).toNatClampNeg (xs (7 * i + 6))))) (cwV 0 hts gL_law_X5_thrown rfl rfl rfl (by decide +kernel) ⟨Nat.le_of_ble_eq_true rfl, Nat.le_of_ble_eq_true rfl⟩) (hK.sub [0, 1] rfl) (pg_PR hP) (pg_DR hD) 0 (ci := 5) rfl rfl rfl rfl hl.1 rfl (Nat.le_of_ble_eq_true rfl) dL_law_381 ⟨hc, hs⟩) hP hD hS hA (fun H locs hP hD hS => ?_)
      have hP : va_P D vwCl (lw_W cI cZ cL a a' o (u.1, pg_row (pg_row (pg_row (pg_row (pg_row u.2 2 (upd (u.2 2) (xs (7 * i + 1)).toNatClampNeg (xs (7 * i + 2)))) 3 (upd (u.2 3) (xs (7 * i + 1)).toNatClampNeg (xs (7 * i + 3)))) 4 (upd (u.2 4) (xs (7 * i + 1)).toNatClampNeg 0)) 5 (upd (u.2 5) (xs (7 * i + 1)).toNatClampNeg (xs (7 * i + 5)))) 6 (upd (u.2 6) (xs (7 * i + 1)).toNatClampNeg (xs (7 * i + 6)))) (upd w.1 15 0, pg_row (pg_row (pg_row (pg_row (pg_row w.2 2 (upd (w.2 2) (xs (7 * i + 1)).toNatClampNeg (xs (7 * i + 2)))) 3 (upd (w.2 3) (xs (7 * i + 1)).toNatClampNeg (xs (7 * i + 3)))) 4 (upd (w.2 4) (xs (7 * i + 1)).toNatClampNeg 0)) 5 (upd (w.2 5) (xs (7 * i + 1)).toNatClampNeg (xs (7 * i + 5)))) 6 (upd (w.2 6) (xs (7 * i + 1)).toNatClampNeg (xs (7 * i + 6)))) f) H := hP
      have hD : va_D (fun q : Nat => s.heap.size ≤ q) (lw_W cI cZ cL a a' o (u.1, pg_row (pg_row (pg_row (pg_row (pg_row u.2 2 (upd (u.2 2) (xs (7 * i + 1)).toNatClampNeg (xs (7 * i + 2)))) 3 (upd (u.2 3) (xs (7 * i + 1)).toNatClampNeg (xs (7 * i + 3)))) 4 (upd (u.2 4) (xs (7 * i + 1)).toNatClampNeg 0)) 5 (upd (u.2 5) (xs (7 * i + 1)).toNatClampNeg (xs (7 * i + 5)))) 6 (upd (u.2 6) (xs (7 * i + 1)).toNatClampNeg (xs (7 * i + 6)))) (upd w.1 15 0, pg_row (pg_row (pg_row (pg_row (pg_row w.2 2 (upd (w.2 2) (xs (7 * i + 1)).toNatClampNeg (xs (7 * i + 2)))) 3 (upd (w.2 3) (xs (7 * i + 1)).toNatClampNeg (xs (7 * i + 3)))) 4 (upd (w.2 4) (xs (7 * i + 1)).toNatClampNeg 0)) 5 (upd (w.2 5) (xs (7 * i + 1)).toNatClampNeg (xs (7 * i + 5)))) 6 (upd (w.2 6) (xs (7 * i + 1)).toNatClampNeg (xs (7 * i + 6)))) f) := hD
      refine lv_iload hx hb dL_law_384 (lv_at hl 0 rfl) ?_
      refine lv_icmp_eq (tgt := 391) hx hb dL_law_386 (by decide) (fun _ => ?_) (fun h9 => (h9 (rfl)).elim)
      refine lv_goto (tgt := 1307) hx hb dL_law_391 (by decide) ?_
      exact kk H locs ls _ _ _ ⟨_, _, pg_I_setKind hR (xs (7 * i + 1)) (xs (7 * i + 2)) (xs (7 * i + 3)) 0 (xs (7 * i + 5)) (xs (7 * i + 6))⟩ hP hD hS (lv_sub hl [1, 2, 3, 4, 5] rfl)
    · refine lv_aload_n hx hb dL_law_280 rfl (lv_at hl 1 rfl) ?_
      refine lv_aload_n hx hb dL_law_281 rfl (lv_at hl 0 rfl) ?_
      refine lv_iload hx hb dL_law_282 (lv_at hl 4 rfl) ?_
      refine lv_iconst (v := 1) hx hb dL_law_284 (by decide) ?_
      refine pg_iaddN (k := 7 * i) (j := 1) hx hb (by decide) dL_law_285 ?_
      refine pg_sld hx hb hX hbl hbA hS (show 7 * i + 1 < L by omega) hL dL_law_286 ?_
      refine lv_aload_n hx hb dL_law_287 rfl (lv_at hl 0 rfl) ?_
      refine lv_iload hx hb dL_law_288 (lv_at hl 4 rfl) ?_
      refine lv_iconst (v := 2) hx hb dL_law_290 (by decide) ?_
      refine pg_iaddN (k := 7 * i) (j := 2) hx hb (by decide) dL_law_291 ?_
      refine pg_sld hx hb hX hbl hbA hS (show 7 * i + 2 < L by omega) hL dL_law_292 ?_
      refine lv_aload_n hx hb dL_law_293 rfl (lv_at hl 0 rfl) ?_
      refine lv_iload hx hb dL_law_294 (lv_at hl 4 rfl) ?_
      refine lv_iconst (v := 3) hx hb dL_law_296 (by decide) ?_
      refine pg_iaddN (k := 7 * i) (j := 3) hx hb (by decide) dL_law_297 ?_
      refine pg_sld hx hb hX hbl hbA hS (show 7 * i + 3 < L by omega) hL dL_law_298 ?_
      refine lv_aload_n hx hb dL_law_299 rfl (lv_at hl 0 rfl) ?_
      refine lv_iload hx hb dL_law_300 (lv_at hl 4 rfl) ?_
      refine lv_iconst (v := 4) hx hb dL_law_302 (by decide) ?_
      refine pg_iaddN (k := 7 * i) (j := 4) hx hb (by decide) dL_law_303 ?_
      refine pg_sld hx hb hX hbl hbA hS (show 7 * i + 4 < L by omega) hL dL_law_304 ?_
      refine lv_if_eq (tgt := 312) hx hb dL_law_305 (by decide) (fun _ => ?_) (fun h9 => absurd hbo h9)
      refine lv_iconst (v := 0) hx hb dL_law_312 (by decide) ?_
      refine lv_aload_n hx hb dL_law_313 rfl (lv_at hl 0 rfl) ?_
      refine lv_iload hx hb dL_law_314 (lv_at hl 4 rfl) ?_
      refine lv_iconst (v := 5) hx hb dL_law_316 (by decide) ?_
      refine pg_iaddN (k := 7 * i) (j := 5) hx hb (by decide) dL_law_317 ?_
      refine pg_sld hx hb hX hbl hbA hS (show 7 * i + 5 < L by omega) hL dL_law_318 ?_
      refine lv_aload_n hx hb dL_law_319 rfl (lv_at hl 0 rfl) ?_
      refine lv_iload hx hb dL_law_320 (lv_at hl 4 rfl) ?_
      refine lv_bipush (v := 6) hx hb dL_law_322 (by decide) ?_
      refine pg_iaddN (k := 7 * i) (j := 6) hx hb (by decide) dL_law_324 ?_
      refine pg_sld hx hb hX hbl hbA hS (show 7 * i + 6 < L by omega) hL dL_law_325 ?_
      refine pg_iL (pg_rSWT (As := [.ref (a 0), .int (xs (7 * i + 1)), .int (xs (7 * i + 2)), .int (xs (7 * i + 3)), .int 0, .int (xs (7 * i + 5)), .int (xs (7 * i + 6))]) (rest := []) ⟨hx, hb, hml, hown, hts⟩ (cw_setKind_1 l hfl D cI cZ cL a o H.size u f (xs (7 * i + 1)) (xs (7 * i + 2)) (xs (7 * i + 3)) 0 (xs (7 * i + 5)) (xs (7 * i + 6)) rfl hthr) (vx_cwSW 7 hts gL_law_L_setKind rfl rfl rfl (by decide +kernel) ⟨Nat.le_of_ble_eq_true rfl, Nat.le_of_ble_eq_true rfl⟩) hK (pg_PL hP) (pg_DL hD) hS hA hE rfl hl.1 rfl (Nat.le_of_ble_eq_true rfl) dL_law_326 ⟨hc, hs⟩) hP hD hS hA (fun H locs hP hD hS => ?_)
      have hP : va_P D vwCl (lw_W cI cZ cL a a' o u w f) H := hP
      have hD : va_D (fun q : Nat => s.heap.size ≤ q) (lw_W cI cZ cL a a' o u w f) := hD
      refine lv_istore (lv' := [(5, .int 1), (0, .ref b), (1, .ref (a 0)), (2, .ref (a' 0)), (3, .ref o), (4, .int (nI (7 * i)))]) hx hb dL_law_329 hl (by decide) rfl (fun ls hl => ?_)
      refine lv_aload_n hx hb dL_law_331 rfl (lv_at hl 3 rfl) ?_
      refine lv_aload_n hx hb dL_law_332 rfl (lv_at hl 1 rfl) ?_
      refine lv_iload hx hb dL_law_333 (lv_at hl 5 rfl) ?_
      refine lv_iconst (v := 1) hx hb dL_law_335 (by decide) ?_
      refine pg_iaddN (k := 7 * i) (j := 1) hx hb (by decide) dL_law_336 ?_
      refine pg_sld hx hb hX hbl hbA hS (show 7 * i + 1 < L by omega) hL dL_law_337 ?_
      refine lv_aload_n hx hb dL_law_338 rfl (lv_at hl 1 rfl) ?_
      refine lv_iload hx hb dL_law_339 (lv_at hl 5 rfl) ?_
      refine lv_iconst (v := 2) hx hb dL_law_341 (by decide) ?_
      refine pg_iaddN (k := 7 * i) (j := 2) hx hb (by decide) dL_law_342 ?_
      refine pg_sld hx hb hX hbl hbA hS (show 7 * i + 2 < L by omega) hL dL_law_343 ?_
      refine lv_aload_n hx hb dL_law_344 rfl (lv_at hl 1 rfl) ?_
      refine lv_iload hx hb dL_law_345 (lv_at hl 5 rfl) ?_
      refine lv_iconst (v := 3) hx hb dL_law_347 (by decide) ?_
      refine pg_iaddN (k := 7 * i) (j := 3) hx hb (by decide) dL_law_348 ?_
      refine pg_sld hx hb hX hbl hbA hS (show 7 * i + 3 < L by omega) hL dL_law_349 ?_
      refine lv_aload_n hx hb dL_law_350 rfl (lv_at hl 1 rfl) ?_
      refine lv_iload hx hb dL_law_351 (lv_at hl 5 rfl) ?_
      refine lv_iconst (v := 4) hx hb dL_law_353 (by decide) ?_
      refine pg_iaddN (k := 7 * i) (j := 4) hx hb (by decide) dL_law_354 ?_
      refine pg_sld hx hb hX hbl hbA hS (show 7 * i + 4 < L by omega) hL dL_law_355 ?_
      refine lv_if_eq (tgt := 363) hx hb dL_law_356 (by decide) (fun _ => ?_) (fun h9 => absurd hbo h9)
      refine lv_iconst (v := 0) hx hb dL_law_363 (by decide) ?_
      refine lv_aload_n hx hb dL_law_364 rfl (lv_at hl 1 rfl) ?_
      refine lv_iload hx hb dL_law_365 (lv_at hl 5 rfl) ?_
      refine lv_iconst (v := 5) hx hb dL_law_367 (by decide) ?_
      refine pg_iaddN (k := 7 * i) (j := 5) hx hb (by decide) dL_law_368 ?_
      refine pg_sld hx hb hX hbl hbA hS (show 7 * i + 5 < L by omega) hL dL_law_369 ?_
      refine lv_aload_n hx hb dL_law_370 rfl (lv_at hl 1 rfl) ?_
      refine lv_iload hx hb dL_law_371 (lv_at hl 5 rfl) ?_
      refine lv_bipush (v := 6) hx hb dL_law_373 (by decide) ?_
      refine pg_iaddN (k := 7 * i) (j := 6) hx hb (by decide) dL_law_375 ?_
      refine pg_sld hx hb hX hbl hbA hS (show 7 * i + 6 < L by omega) hL dL_law_376 ?_
      refine pg_vR (pg_rV (As := [.int (xs (7 * i + 1)), .int (xs (7 * i + 2)), .int (xs (7 * i + 3)), .int 0, .int (xs (7 * i + 5)), .int (xs (7 * i + 6))]) (rest := []) ⟨hx, hb, hml, hown, hts⟩ (cm_setKind_no l D cI cZ a' H.size w (xs (7 * i + 1)) (xs (7 * i + 2)) (xs (7 * i + 3)) 0 (xs (7 * i + 5)) (xs (7 * i + 6)) rfl 1 (by rw [← hR.cl]; exact hthr) (by decide)) (cwV 6 hts gL_law_X5_setKind rfl rfl rfl (by decide +kernel) ⟨Nat.le_of_ble_eq_true rfl, Nat.le_of_ble_eq_true rfl⟩) (hK.sub [0, 1] rfl) (pg_PR hP) (pg_DR hD) 0 (ci := 5) rfl rfl rfl rfl hl.1 rfl (Nat.le_of_ble_eq_true rfl) dL_law_377 ⟨hc, hs⟩) hP hD hS hA (fun H locs hP hD hS => ?_)
      have hP : va_P D vwCl (lw_W cI cZ cL a a' o u (upd w.1 15 1, w.2) f) H := hP
      have hD : va_D (fun q : Nat => s.heap.size ≤ q) (lw_W cI cZ cL a a' o u (upd w.1 15 1, w.2) f) := hD
      refine lv_aload_n hx hb dL_law_380 rfl (lv_at hl 3 rfl) ?_
      refine pg_iR (pg_rV (As := []) (rest := []) ⟨hx, hb, hml, hown, hts⟩ (cm_thrown l D cI cZ a' H.size (upd w.1 15 1, w.2)) (cwV 0 hts gL_law_X5_thrown rfl rfl rfl (by decide +kernel) ⟨Nat.le_of_ble_eq_true rfl, Nat.le_of_ble_eq_true rfl⟩) (hK.sub [0, 1] rfl) (pg_PR hP) (pg_DR hD) 0 (ci := 5) rfl rfl rfl rfl hl.1 rfl (Nat.le_of_ble_eq_true rfl) dL_law_381 ⟨hc, hs⟩) hP hD hS hA (fun H locs hP hD hS => ?_)
      have hP : va_P D vwCl (lw_W cI cZ cL a a' o u (upd w.1 15 1, w.2) f) H := hP
      have hD : va_D (fun q : Nat => s.heap.size ≤ q) (lw_W cI cZ cL a a' o u (upd w.1 15 1, w.2) f) := hD
      refine lv_iload hx hb dL_law_384 (lv_at hl 0 rfl) ?_
      refine lv_icmp_eq (tgt := 391) hx hb dL_law_386 (by decide) (fun _ => ?_) (fun h9 => (h9 (pg_updk w.1 15 1)).elim)
      refine lv_goto (tgt := 1307) hx hb dL_law_391 (by decide) ?_
      exact kk H locs ls _ _ _ ⟨_, _, hR.thr 1⟩ hP hD hS (lv_sub hl [1, 2, 3, 4, 5] rfl)
    · refine lv_aload_n hx hb dL_law_280 rfl (lv_at hl 1 rfl) ?_
      refine lv_aload_n hx hb dL_law_281 rfl (lv_at hl 0 rfl) ?_
      refine lv_iload hx hb dL_law_282 (lv_at hl 4 rfl) ?_
      refine lv_iconst (v := 1) hx hb dL_law_284 (by decide) ?_
      refine pg_iaddN (k := 7 * i) (j := 1) hx hb (by decide) dL_law_285 ?_
      refine pg_sld hx hb hX hbl hbA hS (show 7 * i + 1 < L by omega) hL dL_law_286 ?_
      refine lv_aload_n hx hb dL_law_287 rfl (lv_at hl 0 rfl) ?_
      refine lv_iload hx hb dL_law_288 (lv_at hl 4 rfl) ?_
      refine lv_iconst (v := 2) hx hb dL_law_290 (by decide) ?_
      refine pg_iaddN (k := 7 * i) (j := 2) hx hb (by decide) dL_law_291 ?_
      refine pg_sld hx hb hX hbl hbA hS (show 7 * i + 2 < L by omega) hL dL_law_292 ?_
      refine lv_aload_n hx hb dL_law_293 rfl (lv_at hl 0 rfl) ?_
      refine lv_iload hx hb dL_law_294 (lv_at hl 4 rfl) ?_
      refine lv_iconst (v := 3) hx hb dL_law_296 (by decide) ?_
      refine pg_iaddN (k := 7 * i) (j := 3) hx hb (by decide) dL_law_297 ?_
      refine pg_sld hx hb hX hbl hbA hS (show 7 * i + 3 < L by omega) hL dL_law_298 ?_
      refine lv_aload_n hx hb dL_law_299 rfl (lv_at hl 0 rfl) ?_
      refine lv_iload hx hb dL_law_300 (lv_at hl 4 rfl) ?_
      refine lv_iconst (v := 4) hx hb dL_law_302 (by decide) ?_
      refine pg_iaddN (k := 7 * i) (j := 4) hx hb (by decide) dL_law_303 ?_
      refine pg_sld hx hb hX hbl hbA hS (show 7 * i + 4 < L by omega) hL dL_law_304 ?_
      refine lv_if_eq (tgt := 312) hx hb dL_law_305 (by decide) (fun _ => ?_) (fun h9 => absurd hbo h9)
      refine lv_iconst (v := 0) hx hb dL_law_312 (by decide) ?_
      refine lv_aload_n hx hb dL_law_313 rfl (lv_at hl 0 rfl) ?_
      refine lv_iload hx hb dL_law_314 (lv_at hl 4 rfl) ?_
      refine lv_iconst (v := 5) hx hb dL_law_316 (by decide) ?_
      refine pg_iaddN (k := 7 * i) (j := 5) hx hb (by decide) dL_law_317 ?_
      refine pg_sld hx hb hX hbl hbA hS (show 7 * i + 5 < L by omega) hL dL_law_318 ?_
      refine lv_aload_n hx hb dL_law_319 rfl (lv_at hl 0 rfl) ?_
      refine lv_iload hx hb dL_law_320 (lv_at hl 4 rfl) ?_
      refine lv_bipush (v := 6) hx hb dL_law_322 (by decide) ?_
      refine pg_iaddN (k := 7 * i) (j := 6) hx hb (by decide) dL_law_324 ?_
      refine pg_sld hx hb hX hbl hbA hS (show 7 * i + 6 < L by omega) hL dL_law_325 ?_
      refine pg_iL (pg_rSWT (As := [.ref (a 0), .int (xs (7 * i + 1)), .int (xs (7 * i + 2)), .int (xs (7 * i + 3)), .int 0, .int (xs (7 * i + 5)), .int (xs (7 * i + 6))]) (rest := []) ⟨hx, hb, hml, hown, hts⟩ (cw_setKind_2 l hfl D cI cZ cL a o H.size u f (xs (7 * i + 1)) (xs (7 * i + 2)) (xs (7 * i + 3)) 0 (xs (7 * i + 5)) (xs (7 * i + 6)) rfl hthr) (vx_cwSW 7 hts gL_law_L_setKind rfl rfl rfl (by decide +kernel) ⟨Nat.le_of_ble_eq_true rfl, Nat.le_of_ble_eq_true rfl⟩) hK (pg_PL hP) (pg_DL hD) hS hA hE rfl hl.1 rfl (Nat.le_of_ble_eq_true rfl) dL_law_326 ⟨hc, hs⟩) hP hD hS hA (fun H locs hP hD hS => ?_)
      have hP : va_P D vwCl (lw_W cI cZ cL a a' o u w f) H := hP
      have hD : va_D (fun q : Nat => s.heap.size ≤ q) (lw_W cI cZ cL a a' o u w f) := hD
      refine lv_istore (lv' := [(5, .int 2), (0, .ref b), (1, .ref (a 0)), (2, .ref (a' 0)), (3, .ref o), (4, .int (nI (7 * i)))]) hx hb dL_law_329 hl (by decide) rfl (fun ls hl => ?_)
      refine lv_aload_n hx hb dL_law_331 rfl (lv_at hl 3 rfl) ?_
      refine lv_aload_n hx hb dL_law_332 rfl (lv_at hl 1 rfl) ?_
      refine lv_iload hx hb dL_law_333 (lv_at hl 5 rfl) ?_
      refine lv_iconst (v := 1) hx hb dL_law_335 (by decide) ?_
      refine pg_iaddN (k := 7 * i) (j := 1) hx hb (by decide) dL_law_336 ?_
      refine pg_sld hx hb hX hbl hbA hS (show 7 * i + 1 < L by omega) hL dL_law_337 ?_
      refine lv_aload_n hx hb dL_law_338 rfl (lv_at hl 1 rfl) ?_
      refine lv_iload hx hb dL_law_339 (lv_at hl 5 rfl) ?_
      refine lv_iconst (v := 2) hx hb dL_law_341 (by decide) ?_
      refine pg_iaddN (k := 7 * i) (j := 2) hx hb (by decide) dL_law_342 ?_
      refine pg_sld hx hb hX hbl hbA hS (show 7 * i + 2 < L by omega) hL dL_law_343 ?_
      refine lv_aload_n hx hb dL_law_344 rfl (lv_at hl 1 rfl) ?_
      refine lv_iload hx hb dL_law_345 (lv_at hl 5 rfl) ?_
      refine lv_iconst (v := 3) hx hb dL_law_347 (by decide) ?_
      refine pg_iaddN (k := 7 * i) (j := 3) hx hb (by decide) dL_law_348 ?_
      refine pg_sld hx hb hX hbl hbA hS (show 7 * i + 3 < L by omega) hL dL_law_349 ?_
      refine lv_aload_n hx hb dL_law_350 rfl (lv_at hl 1 rfl) ?_
      refine lv_iload hx hb dL_law_351 (lv_at hl 5 rfl) ?_
      refine lv_iconst (v := 4) hx hb dL_law_353 (by decide) ?_
      refine pg_iaddN (k := 7 * i) (j := 4) hx hb (by decide) dL_law_354 ?_
      refine pg_sld hx hb hX hbl hbA hS (show 7 * i + 4 < L by omega) hL dL_law_355 ?_
      refine lv_if_eq (tgt := 363) hx hb dL_law_356 (by decide) (fun _ => ?_) (fun h9 => absurd hbo h9)
      refine lv_iconst (v := 0) hx hb dL_law_363 (by decide) ?_
      refine lv_aload_n hx hb dL_law_364 rfl (lv_at hl 1 rfl) ?_
      refine lv_iload hx hb dL_law_365 (lv_at hl 5 rfl) ?_
      refine lv_iconst (v := 5) hx hb dL_law_367 (by decide) ?_
      refine pg_iaddN (k := 7 * i) (j := 5) hx hb (by decide) dL_law_368 ?_
      refine pg_sld hx hb hX hbl hbA hS (show 7 * i + 5 < L by omega) hL dL_law_369 ?_
      refine lv_aload_n hx hb dL_law_370 rfl (lv_at hl 1 rfl) ?_
      refine lv_iload hx hb dL_law_371 (lv_at hl 5 rfl) ?_
      refine lv_bipush (v := 6) hx hb dL_law_373 (by decide) ?_
      refine pg_iaddN (k := 7 * i) (j := 6) hx hb (by decide) dL_law_375 ?_
      refine pg_sld hx hb hX hbl hbA hS (show 7 * i + 6 < L by omega) hL dL_law_376 ?_
      refine pg_vR (pg_rV (As := [.int (xs (7 * i + 1)), .int (xs (7 * i + 2)), .int (xs (7 * i + 3)), .int 0, .int (xs (7 * i + 5)), .int (xs (7 * i + 6))]) (rest := []) ⟨hx, hb, hml, hown, hts⟩ (cm_setKind_no l D cI cZ a' H.size w (xs (7 * i + 1)) (xs (7 * i + 2)) (xs (7 * i + 3)) 0 (xs (7 * i + 5)) (xs (7 * i + 6)) rfl 2 (by rw [← hR.cl]; exact hthr) (by decide)) (cwV 6 hts gL_law_X5_setKind rfl rfl rfl (by decide +kernel) ⟨Nat.le_of_ble_eq_true rfl, Nat.le_of_ble_eq_true rfl⟩) (hK.sub [0, 1] rfl) (pg_PR hP) (pg_DR hD) 0 (ci := 5) rfl rfl rfl rfl hl.1 rfl (Nat.le_of_ble_eq_true rfl) dL_law_377 ⟨hc, hs⟩) hP hD hS hA (fun H locs hP hD hS => ?_)
      have hP : va_P D vwCl (lw_W cI cZ cL a a' o u (upd w.1 15 2, w.2) f) H := hP
      have hD : va_D (fun q : Nat => s.heap.size ≤ q) (lw_W cI cZ cL a a' o u (upd w.1 15 2, w.2) f) := hD
      refine lv_aload_n hx hb dL_law_380 rfl (lv_at hl 3 rfl) ?_
      refine pg_iR (pg_rV (As := []) (rest := []) ⟨hx, hb, hml, hown, hts⟩ (cm_thrown l D cI cZ a' H.size (upd w.1 15 2, w.2)) (cwV 0 hts gL_law_X5_thrown rfl rfl rfl (by decide +kernel) ⟨Nat.le_of_ble_eq_true rfl, Nat.le_of_ble_eq_true rfl⟩) (hK.sub [0, 1] rfl) (pg_PR hP) (pg_DR hD) 0 (ci := 5) rfl rfl rfl rfl hl.1 rfl (Nat.le_of_ble_eq_true rfl) dL_law_381 ⟨hc, hs⟩) hP hD hS hA (fun H locs hP hD hS => ?_)
      have hP : va_P D vwCl (lw_W cI cZ cL a a' o u (upd w.1 15 2, w.2) f) H := hP
      have hD : va_D (fun q : Nat => s.heap.size ≤ q) (lw_W cI cZ cL a a' o u (upd w.1 15 2, w.2) f) := hD
      refine lv_iload hx hb dL_law_384 (lv_at hl 0 rfl) ?_
      refine lv_icmp_eq (tgt := 391) hx hb dL_law_386 (by decide) (fun _ => ?_) (fun h9 => (h9 (pg_updk w.1 15 2)).elim)
      refine lv_goto (tgt := 1307) hx hb dL_law_391 (by decide) ?_
      exact kk H locs ls _ _ _ ⟨_, _, hR.thr 2⟩ hP hD hS (lv_sub hl [1, 2, 3, 4, 5] rfl)
    · refine lv_aload_n hx hb dL_law_280 rfl (lv_at hl 1 rfl) ?_
      refine lv_aload_n hx hb dL_law_281 rfl (lv_at hl 0 rfl) ?_
      refine lv_iload hx hb dL_law_282 (lv_at hl 4 rfl) ?_
      refine lv_iconst (v := 1) hx hb dL_law_284 (by decide) ?_
      refine pg_iaddN (k := 7 * i) (j := 1) hx hb (by decide) dL_law_285 ?_
      refine pg_sld hx hb hX hbl hbA hS (show 7 * i + 1 < L by omega) hL dL_law_286 ?_
      refine lv_aload_n hx hb dL_law_287 rfl (lv_at hl 0 rfl) ?_
      refine lv_iload hx hb dL_law_288 (lv_at hl 4 rfl) ?_
      refine lv_iconst (v := 2) hx hb dL_law_290 (by decide) ?_
      refine pg_iaddN (k := 7 * i) (j := 2) hx hb (by decide) dL_law_291 ?_
      refine pg_sld hx hb hX hbl hbA hS (show 7 * i + 2 < L by omega) hL dL_law_292 ?_
      refine lv_aload_n hx hb dL_law_293 rfl (lv_at hl 0 rfl) ?_
      refine lv_iload hx hb dL_law_294 (lv_at hl 4 rfl) ?_
      refine lv_iconst (v := 3) hx hb dL_law_296 (by decide) ?_
      refine pg_iaddN (k := 7 * i) (j := 3) hx hb (by decide) dL_law_297 ?_
      refine pg_sld hx hb hX hbl hbA hS (show 7 * i + 3 < L by omega) hL dL_law_298 ?_
      refine lv_aload_n hx hb dL_law_299 rfl (lv_at hl 0 rfl) ?_
      refine lv_iload hx hb dL_law_300 (lv_at hl 4 rfl) ?_
      refine lv_iconst (v := 4) hx hb dL_law_302 (by decide) ?_
      refine pg_iaddN (k := 7 * i) (j := 4) hx hb (by decide) dL_law_303 ?_
      refine pg_sld hx hb hX hbl hbA hS (show 7 * i + 4 < L by omega) hL dL_law_304 ?_
      refine lv_if_eq (tgt := 312) hx hb dL_law_305 (by decide) (fun _ => ?_) (fun h9 => absurd hbo h9)
      refine lv_iconst (v := 0) hx hb dL_law_312 (by decide) ?_
      refine lv_aload_n hx hb dL_law_313 rfl (lv_at hl 0 rfl) ?_
      refine lv_iload hx hb dL_law_314 (lv_at hl 4 rfl) ?_
      refine lv_iconst (v := 5) hx hb dL_law_316 (by decide) ?_
      refine pg_iaddN (k := 7 * i) (j := 5) hx hb (by decide) dL_law_317 ?_
      refine pg_sld hx hb hX hbl hbA hS (show 7 * i + 5 < L by omega) hL dL_law_318 ?_
      refine lv_aload_n hx hb dL_law_319 rfl (lv_at hl 0 rfl) ?_
      refine lv_iload hx hb dL_law_320 (lv_at hl 4 rfl) ?_
      refine lv_bipush (v := 6) hx hb dL_law_322 (by decide) ?_
      refine pg_iaddN (k := 7 * i) (j := 6) hx hb (by decide) dL_law_324 ?_
      refine pg_sld hx hb hX hbl hbA hS (show 7 * i + 6 < L by omega) hL dL_law_325 ?_
      refine pg_iL (pg_rSWT (As := [.ref (a 0), .int (xs (7 * i + 1)), .int (xs (7 * i + 2)), .int (xs (7 * i + 3)), .int 0, .int (xs (7 * i + 5)), .int (xs (7 * i + 6))]) (rest := []) ⟨hx, hb, hml, hown, hts⟩ (cw_setKind_3 l hfl D cI cZ cL a o H.size u f (xs (7 * i + 1)) (xs (7 * i + 2)) (xs (7 * i + 3)) 0 (xs (7 * i + 5)) (xs (7 * i + 6)) rfl hthr) (vx_cwSW 7 hts gL_law_L_setKind rfl rfl rfl (by decide +kernel) ⟨Nat.le_of_ble_eq_true rfl, Nat.le_of_ble_eq_true rfl⟩) hK (pg_PL hP) (pg_DL hD) hS hA hE rfl hl.1 rfl (Nat.le_of_ble_eq_true rfl) dL_law_326 ⟨hc, hs⟩) hP hD hS hA (fun H locs hP hD hS => ?_)
      have hP : va_P D vwCl (lw_W cI cZ cL a a' o u w f) H := hP
      have hD : va_D (fun q : Nat => s.heap.size ≤ q) (lw_W cI cZ cL a a' o u w f) := hD
      refine lv_istore (lv' := [(5, .int 3), (0, .ref b), (1, .ref (a 0)), (2, .ref (a' 0)), (3, .ref o), (4, .int (nI (7 * i)))]) hx hb dL_law_329 hl (by decide) rfl (fun ls hl => ?_)
      refine lv_aload_n hx hb dL_law_331 rfl (lv_at hl 3 rfl) ?_
      refine lv_aload_n hx hb dL_law_332 rfl (lv_at hl 1 rfl) ?_
      refine lv_iload hx hb dL_law_333 (lv_at hl 5 rfl) ?_
      refine lv_iconst (v := 1) hx hb dL_law_335 (by decide) ?_
      refine pg_iaddN (k := 7 * i) (j := 1) hx hb (by decide) dL_law_336 ?_
      refine pg_sld hx hb hX hbl hbA hS (show 7 * i + 1 < L by omega) hL dL_law_337 ?_
      refine lv_aload_n hx hb dL_law_338 rfl (lv_at hl 1 rfl) ?_
      refine lv_iload hx hb dL_law_339 (lv_at hl 5 rfl) ?_
      refine lv_iconst (v := 2) hx hb dL_law_341 (by decide) ?_
      refine pg_iaddN (k := 7 * i) (j := 2) hx hb (by decide) dL_law_342 ?_
      refine pg_sld hx hb hX hbl hbA hS (show 7 * i + 2 < L by omega) hL dL_law_343 ?_
      refine lv_aload_n hx hb dL_law_344 rfl (lv_at hl 1 rfl) ?_
      refine lv_iload hx hb dL_law_345 (lv_at hl 5 rfl) ?_
      refine lv_iconst (v := 3) hx hb dL_law_347 (by decide) ?_
      refine pg_iaddN (k := 7 * i) (j := 3) hx hb (by decide) dL_law_348 ?_
      refine pg_sld hx hb hX hbl hbA hS (show 7 * i + 3 < L by omega) hL dL_law_349 ?_
      refine lv_aload_n hx hb dL_law_350 rfl (lv_at hl 1 rfl) ?_
      refine lv_iload hx hb dL_law_351 (lv_at hl 5 rfl) ?_
      refine lv_iconst (v := 4) hx hb dL_law_353 (by decide) ?_
      refine pg_iaddN (k := 7 * i) (j := 4) hx hb (by decide) dL_law_354 ?_
      refine pg_sld hx hb hX hbl hbA hS (show 7 * i + 4 < L by omega) hL dL_law_355 ?_
      refine lv_if_eq (tgt := 363) hx hb dL_law_356 (by decide) (fun _ => ?_) (fun h9 => absurd hbo h9)
      refine lv_iconst (v := 0) hx hb dL_law_363 (by decide) ?_
      refine lv_aload_n hx hb dL_law_364 rfl (lv_at hl 1 rfl) ?_
      refine lv_iload hx hb dL_law_365 (lv_at hl 5 rfl) ?_
      refine lv_iconst (v := 5) hx hb dL_law_367 (by decide) ?_
      refine pg_iaddN (k := 7 * i) (j := 5) hx hb (by decide) dL_law_368 ?_
      refine pg_sld hx hb hX hbl hbA hS (show 7 * i + 5 < L by omega) hL dL_law_369 ?_
      refine lv_aload_n hx hb dL_law_370 rfl (lv_at hl 1 rfl) ?_
      refine lv_iload hx hb dL_law_371 (lv_at hl 5 rfl) ?_
      refine lv_bipush (v := 6) hx hb dL_law_373 (by decide) ?_
      refine pg_iaddN (k := 7 * i) (j := 6) hx hb (by decide) dL_law_375 ?_
      refine pg_sld hx hb hX hbl hbA hS (show 7 * i + 6 < L by omega) hL dL_law_376 ?_
      refine pg_vR (pg_rV (As := [.int (xs (7 * i + 1)), .int (xs (7 * i + 2)), .int (xs (7 * i + 3)), .int 0, .int (xs (7 * i + 5)), .int (xs (7 * i + 6))]) (rest := []) ⟨hx, hb, hml, hown, hts⟩ (cm_setKind_no l D cI cZ a' H.size w (xs (7 * i + 1)) (xs (7 * i + 2)) (xs (7 * i + 3)) 0 (xs (7 * i + 5)) (xs (7 * i + 6)) rfl 3 (by rw [← hR.cl]; exact hthr) (by decide)) (cwV 6 hts gL_law_X5_setKind rfl rfl rfl (by decide +kernel) ⟨Nat.le_of_ble_eq_true rfl, Nat.le_of_ble_eq_true rfl⟩) (hK.sub [0, 1] rfl) (pg_PR hP) (pg_DR hD) 0 (ci := 5) rfl rfl rfl rfl hl.1 rfl (Nat.le_of_ble_eq_true rfl) dL_law_377 ⟨hc, hs⟩) hP hD hS hA (fun H locs hP hD hS => ?_)
      have hP : va_P D vwCl (lw_W cI cZ cL a a' o u (upd w.1 15 3, w.2) f) H := hP
      have hD : va_D (fun q : Nat => s.heap.size ≤ q) (lw_W cI cZ cL a a' o u (upd w.1 15 3, w.2) f) := hD
      refine lv_aload_n hx hb dL_law_380 rfl (lv_at hl 3 rfl) ?_
      refine pg_iR (pg_rV (As := []) (rest := []) ⟨hx, hb, hml, hown, hts⟩ (cm_thrown l D cI cZ a' H.size (upd w.1 15 3, w.2)) (cwV 0 hts gL_law_X5_thrown rfl rfl rfl (by decide +kernel) ⟨Nat.le_of_ble_eq_true rfl, Nat.le_of_ble_eq_true rfl⟩) (hK.sub [0, 1] rfl) (pg_PR hP) (pg_DR hD) 0 (ci := 5) rfl rfl rfl rfl hl.1 rfl (Nat.le_of_ble_eq_true rfl) dL_law_381 ⟨hc, hs⟩) hP hD hS hA (fun H locs hP hD hS => ?_)
      have hP : va_P D vwCl (lw_W cI cZ cL a a' o u (upd w.1 15 3, w.2) f) H := hP
      have hD : va_D (fun q : Nat => s.heap.size ≤ q) (lw_W cI cZ cL a a' o u (upd w.1 15 3, w.2) f) := hD
      refine lv_iload hx hb dL_law_384 (lv_at hl 0 rfl) ?_
      refine lv_icmp_eq (tgt := 391) hx hb dL_law_386 (by decide) (fun _ => ?_) (fun h9 => (h9 (pg_updk w.1 15 3)).elim)
      refine lv_goto (tgt := 1307) hx hb dL_law_391 (by decide) ?_
      exact kk H locs ls _ _ _ ⟨_, _, hR.thr 3⟩ hP hD hS (lv_sub hl [1, 2, 3, 4, 5] rfl)
  · rcases pg_c_setKind (!pg_eq (u.1 3) (-1)) (xs (7 * i + 1)) (xs (7 * i + 2)) (xs (7 * i + 3)) (xs (7 * i + 5)) (xs (7 * i + 6)) with hthr | hthr | hthr | hthr
    · refine lv_aload_n hx hb dL_law_280 rfl (lv_at hl 1 rfl) ?_
      refine lv_aload_n hx hb dL_law_281 rfl (lv_at hl 0 rfl) ?_
      refine lv_iload hx hb dL_law_282 (lv_at hl 4 rfl) ?_
      refine lv_iconst (v := 1) hx hb dL_law_284 (by decide) ?_
      refine pg_iaddN (k := 7 * i) (j := 1) hx hb (by decide) dL_law_285 ?_
      refine pg_sld hx hb hX hbl hbA hS (show 7 * i + 1 < L by omega) hL dL_law_286 ?_
      refine lv_aload_n hx hb dL_law_287 rfl (lv_at hl 0 rfl) ?_
      refine lv_iload hx hb dL_law_288 (lv_at hl 4 rfl) ?_
      refine lv_iconst (v := 2) hx hb dL_law_290 (by decide) ?_
      refine pg_iaddN (k := 7 * i) (j := 2) hx hb (by decide) dL_law_291 ?_
      refine pg_sld hx hb hX hbl hbA hS (show 7 * i + 2 < L by omega) hL dL_law_292 ?_
      refine lv_aload_n hx hb dL_law_293 rfl (lv_at hl 0 rfl) ?_
      refine lv_iload hx hb dL_law_294 (lv_at hl 4 rfl) ?_
      refine lv_iconst (v := 3) hx hb dL_law_296 (by decide) ?_
      refine pg_iaddN (k := 7 * i) (j := 3) hx hb (by decide) dL_law_297 ?_
      refine pg_sld hx hb hX hbl hbA hS (show 7 * i + 3 < L by omega) hL dL_law_298 ?_
      refine lv_aload_n hx hb dL_law_299 rfl (lv_at hl 0 rfl) ?_
      refine lv_iload hx hb dL_law_300 (lv_at hl 4 rfl) ?_
      refine lv_iconst (v := 4) hx hb dL_law_302 (by decide) ?_
      refine pg_iaddN (k := 7 * i) (j := 4) hx hb (by decide) dL_law_303 ?_
      refine pg_sld hx hb hX hbl hbA hS (show 7 * i + 4 < L by omega) hL dL_law_304 ?_
      refine lv_if_eq (tgt := 312) hx hb dL_law_305 (by decide) (fun h9 => absurd h9 hbo) (fun _ => ?_)
      refine lv_iconst (v := 1) hx hb dL_law_308 (by decide) ?_
      refine lv_goto (tgt := 313) hx hb dL_law_309 (by decide) ?_
      refine lv_aload_n hx hb dL_law_313 rfl (lv_at hl 0 rfl) ?_
      refine lv_iload hx hb dL_law_314 (lv_at hl 4 rfl) ?_
      refine lv_iconst (v := 5) hx hb dL_law_316 (by decide) ?_
      refine pg_iaddN (k := 7 * i) (j := 5) hx hb (by decide) dL_law_317 ?_
      refine pg_sld hx hb hX hbl hbA hS (show 7 * i + 5 < L by omega) hL dL_law_318 ?_
      refine lv_aload_n hx hb dL_law_319 rfl (lv_at hl 0 rfl) ?_
      refine lv_iload hx hb dL_law_320 (lv_at hl 4 rfl) ?_
      refine lv_bipush (v := 6) hx hb dL_law_322 (by decide) ?_
      refine pg_iaddN (k := 7 * i) (j := 6) hx hb (by decide) dL_law_324 ?_
      refine pg_sld hx hb hX hbl hbA hS (show 7 * i + 6 < L by omega) hL dL_law_325 ?_
      refine pg_iL (pg_rSW (As := [.ref (a 0), .int (xs (7 * i + 1)), .int (xs (7 * i + 2)), .int (xs (7 * i + 3)), .int 1, .int (xs (7 * i + 5)), .int (xs (7 * i + 6))]) (rest := []) ⟨hx, hb, hml, hown, hts⟩ (cw_setKind_ok l D cI cZ cL a o H.size u f (xs (7 * i + 1)) (xs (7 * i + 2)) (xs (7 * i + 3)) 1 (xs (7 * i + 5)) (xs (7 * i + 6)) rfl hthr) (vx_cwSW 7 hts gL_law_L_setKind rfl rfl rfl (by decide +kernel) ⟨Nat.le_of_ble_eq_true rfl, Nat.le_of_ble_eq_true rfl⟩) hK (pg_PL hP) (pg_DL hD) rfl hl.1 rfl (Nat.le_of_ble_eq_true rfl) dL_law_326 ⟨hc0, hs0⟩) hP hD hS hA (fun H locs hP hD hS => ?_)
      have hP : va_P D vwCl (lw_W cI cZ cL a a' o (u.1, pg_row (pg_row (pg_row (pg_row (pg_row u.2 2 (upd (u.2 2) (xs (7 * i + 1)).toNatClampNeg (xs (7 * i + 2)))) 3 (upd (u.2 3) (xs (7 * i + 1)).toNatClampNeg (xs (7 * i + 3)))) 4 (upd (u.2 4) (xs (7 * i + 1)).toNatClampNeg 1)) 5 (upd (u.2 5) (xs (7 * i + 1)).toNatClampNeg (xs (7 * i + 5)))) 6 (upd (u.2 6) (xs (7 * i + 1)).toNatClampNeg (xs (7 * i + 6)))) w f) H := hP
      have hD : va_D (fun q : Nat => s.heap.size ≤ q) (lw_W cI cZ cL a a' o (u.1, pg_row (pg_row (pg_row (pg_row (pg_row u.2 2 (upd (u.2 2) (xs (7 * i + 1)).toNatClampNeg (xs (7 * i + 2)))) 3 (upd (u.2 3) (xs (7 * i + 1)).toNatClampNeg (xs (7 * i + 3)))) 4 (upd (u.2 4) (xs (7 * i + 1)).toNatClampNeg 1)) 5 (upd (u.2 5) (xs (7 * i + 1)).toNatClampNeg (xs (7 * i + 5)))) 6 (upd (u.2 6) (xs (7 * i + 1)).toNatClampNeg (xs (7 * i + 6)))) w f) := hD
      refine W.widen (k := cells + 1) (n := slots + 6) (by omega) (by omega) ?_
      refine lv_istore (lv' := [(5, .int 0), (0, .ref b), (1, .ref (a 0)), (2, .ref (a' 0)), (3, .ref o), (4, .int (nI (7 * i)))]) hx hb dL_law_329 hl (by decide) rfl (fun ls hl => ?_)
      refine lv_aload_n hx hb dL_law_331 rfl (lv_at hl 3 rfl) ?_
      refine lv_aload_n hx hb dL_law_332 rfl (lv_at hl 1 rfl) ?_
      refine lv_iload hx hb dL_law_333 (lv_at hl 5 rfl) ?_
      refine lv_iconst (v := 1) hx hb dL_law_335 (by decide) ?_
      refine pg_iaddN (k := 7 * i) (j := 1) hx hb (by decide) dL_law_336 ?_
      refine pg_sld hx hb hX hbl hbA hS (show 7 * i + 1 < L by omega) hL dL_law_337 ?_
      refine lv_aload_n hx hb dL_law_338 rfl (lv_at hl 1 rfl) ?_
      refine lv_iload hx hb dL_law_339 (lv_at hl 5 rfl) ?_
      refine lv_iconst (v := 2) hx hb dL_law_341 (by decide) ?_
      refine pg_iaddN (k := 7 * i) (j := 2) hx hb (by decide) dL_law_342 ?_
      refine pg_sld hx hb hX hbl hbA hS (show 7 * i + 2 < L by omega) hL dL_law_343 ?_
      refine lv_aload_n hx hb dL_law_344 rfl (lv_at hl 1 rfl) ?_
      refine lv_iload hx hb dL_law_345 (lv_at hl 5 rfl) ?_
      refine lv_iconst (v := 3) hx hb dL_law_347 (by decide) ?_
      refine pg_iaddN (k := 7 * i) (j := 3) hx hb (by decide) dL_law_348 ?_
      refine pg_sld hx hb hX hbl hbA hS (show 7 * i + 3 < L by omega) hL dL_law_349 ?_
      refine lv_aload_n hx hb dL_law_350 rfl (lv_at hl 1 rfl) ?_
      refine lv_iload hx hb dL_law_351 (lv_at hl 5 rfl) ?_
      refine lv_iconst (v := 4) hx hb dL_law_353 (by decide) ?_
      refine pg_iaddN (k := 7 * i) (j := 4) hx hb (by decide) dL_law_354 ?_
      refine pg_sld hx hb hX hbl hbA hS (show 7 * i + 4 < L by omega) hL dL_law_355 ?_
      refine lv_if_eq (tgt := 363) hx hb dL_law_356 (by decide) (fun h9 => absurd h9 hbo) (fun _ => ?_)
      refine lv_iconst (v := 1) hx hb dL_law_359 (by decide) ?_
      refine lv_goto (tgt := 364) hx hb dL_law_360 (by decide) ?_
      refine lv_aload_n hx hb dL_law_364 rfl (lv_at hl 1 rfl) ?_
      refine lv_iload hx hb dL_law_365 (lv_at hl 5 rfl) ?_
      refine lv_iconst (v := 5) hx hb dL_law_367 (by decide) ?_
      refine pg_iaddN (k := 7 * i) (j := 5) hx hb (by decide) dL_law_368 ?_
      refine pg_sld hx hb hX hbl hbA hS (show 7 * i + 5 < L by omega) hL dL_law_369 ?_
      refine lv_aload_n hx hb dL_law_370 rfl (lv_at hl 1 rfl) ?_
      refine lv_iload hx hb dL_law_371 (lv_at hl 5 rfl) ?_
      refine lv_bipush (v := 6) hx hb dL_law_373 (by decide) ?_
      refine pg_iaddN (k := 7 * i) (j := 6) hx hb (by decide) dL_law_375 ?_
      refine pg_sld hx hb hX hbl hbA hS (show 7 * i + 6 < L by omega) hL dL_law_376 ?_
      refine pg_vR (pg_rV (As := [.int (xs (7 * i + 1)), .int (xs (7 * i + 2)), .int (xs (7 * i + 3)), .int 1, .int (xs (7 * i + 5)), .int (xs (7 * i + 6))]) (rest := []) ⟨hx, hb, hml, hown, hts⟩ (cm_setKind_ok l D cI cZ a' H.size w (xs (7 * i + 1)) (xs (7 * i + 2)) (xs (7 * i + 3)) 1 (xs (7 * i + 5)) (xs (7 * i + 6)) rfl (by rw [← hR.cl]; exact hthr)) (cwV 6 hts gL_law_X5_setKind rfl rfl rfl (by decide +kernel) ⟨Nat.le_of_ble_eq_true rfl, Nat.le_of_ble_eq_true rfl⟩) (hK.sub [0, 1] rfl) (pg_PR hP) (pg_DR hD) 0 (ci := 5) rfl rfl rfl rfl hl.1 rfl (Nat.le_of_ble_eq_true rfl) dL_law_377 ⟨hc, hs⟩) hP hD hS hA (fun H locs hP hD hS => ?_)
      have hP : va_P D vwCl (lw_W cI cZ cL a a' o (u.1, pg_row (pg_row (pg_row (pg_row (pg_row u.2 2 (upd (u.2 2) (xs (7 * i + 1)).toNatClampNeg (xs (7 * i + 2)))) 3 (upd (u.2 3) (xs (7 * i + 1)).toNatClampNeg (xs (7 * i + 3)))) 4 (upd (u.2 4) (xs (7 * i + 1)).toNatClampNeg 1)) 5 (upd (u.2 5) (xs (7 * i + 1)).toNatClampNeg (xs (7 * i + 5)))) 6 (upd (u.2 6) (xs (7 * i + 1)).toNatClampNeg (xs (7 * i + 6)))) (upd w.1 15 0, pg_row (pg_row (pg_row (pg_row (pg_row w.2 2 (upd (w.2 2) (xs (7 * i + 1)).toNatClampNeg (xs (7 * i + 2)))) 3 (upd (w.2 3) (xs (7 * i + 1)).toNatClampNeg (xs (7 * i + 3)))) 4 (upd (w.2 4) (xs (7 * i + 1)).toNatClampNeg 1)) 5 (upd (w.2 5) (xs (7 * i + 1)).toNatClampNeg (xs (7 * i + 5)))) 6 (upd (w.2 6) (xs (7 * i + 1)).toNatClampNeg (xs (7 * i + 6)))) f) H := hP
      have hD : va_D (fun q : Nat => s.heap.size ≤ q) (lw_W cI cZ cL a a' o (u.1, pg_row (pg_row (pg_row (pg_row (pg_row u.2 2 (upd (u.2 2) (xs (7 * i + 1)).toNatClampNeg (xs (7 * i + 2)))) 3 (upd (u.2 3) (xs (7 * i + 1)).toNatClampNeg (xs (7 * i + 3)))) 4 (upd (u.2 4) (xs (7 * i + 1)).toNatClampNeg 1)) 5 (upd (u.2 5) (xs (7 * i + 1)).toNatClampNeg (xs (7 * i + 5)))) 6 (upd (u.2 6) (xs (7 * i + 1)).toNatClampNeg (xs (7 * i + 6)))) (upd w.1 15 0, pg_row (pg_row (pg_row (pg_row (pg_row w.2 2 (upd (w.2 2) (xs (7 * i + 1)).toNatClampNeg (xs (7 * i + 2)))) 3 (upd (w.2 3) (xs (7 * i + 1)).toNatClampNeg (xs (7 * i + 3)))) 4 (upd (w.2 4) (xs (7 * i + 1)).toNatClampNeg 1)) 5 (upd (w.2 5) (xs (7 * i + 1)).toNatClampNeg (xs (7 * i + 5)))) 6 (upd (w.2 6) (xs (7 * i + 1)).toNatClampNeg (xs (7 * i + 6)))) f) := hD
      refine lv_aload_n hx hb dL_law_380 rfl (lv_at hl 3 rfl) ?_
      refine pg_iR (pg_rV (As := []) (rest := []) ⟨hx, hb, hml, hown, hts⟩ (cm_thrown l D cI cZ a' H.size (upd w.1 15 0, pg_row (pg_row (pg_row (pg_row (pg_row w.2 2 (upd (w.2 2) (xs (7 * i + 1)).toNatClampNeg (xs (7 * i + 2)))) 3 (upd (w.2 3) (xs (7 * i + 1)).toNatClampNeg (xs (7 * i + 3)))) 4 (upd (w.2 4) (xs (7 * i + 1)).toNatClampNeg 1)) 5 (upd (w.2 5) (xs (7 * i + 1)).toNatClampNeg (xs (7 * i + 5)))) 6 (upd (w.2 6) (xs (7 * i + 1)).toNatClampNeg (xs (7 * i + 6))))) (cwV 0 hts gL_law_X5_thrown rfl rfl rfl (by decide +kernel) ⟨Nat.le_of_ble_eq_true rfl, Nat.le_of_ble_eq_true rfl⟩) (hK.sub [0, 1] rfl) (pg_PR hP) (pg_DR hD) 0 (ci := 5) rfl rfl rfl rfl hl.1 rfl (Nat.le_of_ble_eq_true rfl) dL_law_381 ⟨hc, hs⟩) hP hD hS hA (fun H locs hP hD hS => ?_)
      have hP : va_P D vwCl (lw_W cI cZ cL a a' o (u.1, pg_row (pg_row (pg_row (pg_row (pg_row u.2 2 (upd (u.2 2) (xs (7 * i + 1)).toNatClampNeg (xs (7 * i + 2)))) 3 (upd (u.2 3) (xs (7 * i + 1)).toNatClampNeg (xs (7 * i + 3)))) 4 (upd (u.2 4) (xs (7 * i + 1)).toNatClampNeg 1)) 5 (upd (u.2 5) (xs (7 * i + 1)).toNatClampNeg (xs (7 * i + 5)))) 6 (upd (u.2 6) (xs (7 * i + 1)).toNatClampNeg (xs (7 * i + 6)))) (upd w.1 15 0, pg_row (pg_row (pg_row (pg_row (pg_row w.2 2 (upd (w.2 2) (xs (7 * i + 1)).toNatClampNeg (xs (7 * i + 2)))) 3 (upd (w.2 3) (xs (7 * i + 1)).toNatClampNeg (xs (7 * i + 3)))) 4 (upd (w.2 4) (xs (7 * i + 1)).toNatClampNeg 1)) 5 (upd (w.2 5) (xs (7 * i + 1)).toNatClampNeg (xs (7 * i + 5)))) 6 (upd (w.2 6) (xs (7 * i + 1)).toNatClampNeg (xs (7 * i + 6)))) f) H := hP
      have hD : va_D (fun q : Nat => s.heap.size ≤ q) (lw_W cI cZ cL a a' o (u.1, pg_row (pg_row (pg_row (pg_row (pg_row u.2 2 (upd (u.2 2) (xs (7 * i + 1)).toNatClampNeg (xs (7 * i + 2)))) 3 (upd (u.2 3) (xs (7 * i + 1)).toNatClampNeg (xs (7 * i + 3)))) 4 (upd (u.2 4) (xs (7 * i + 1)).toNatClampNeg 1)) 5 (upd (u.2 5) (xs (7 * i + 1)).toNatClampNeg (xs (7 * i + 5)))) 6 (upd (u.2 6) (xs (7 * i + 1)).toNatClampNeg (xs (7 * i + 6)))) (upd w.1 15 0, pg_row (pg_row (pg_row (pg_row (pg_row w.2 2 (upd (w.2 2) (xs (7 * i + 1)).toNatClampNeg (xs (7 * i + 2)))) 3 (upd (w.2 3) (xs (7 * i + 1)).toNatClampNeg (xs (7 * i + 3)))) 4 (upd (w.2 4) (xs (7 * i + 1)).toNatClampNeg 1)) 5 (upd (w.2 5) (xs (7 * i + 1)).toNatClampNeg (xs (7 * i + 5)))) 6 (upd (w.2 6) (xs (7 * i + 1)).toNatClampNeg (xs (7 * i + 6)))) f) := hD
      refine lv_iload hx hb dL_law_384 (lv_at hl 0 rfl) ?_
      refine lv_icmp_eq (tgt := 391) hx hb dL_law_386 (by decide) (fun _ => ?_) (fun h9 => (h9 (rfl)).elim)
      refine lv_goto (tgt := 1307) hx hb dL_law_391 (by decide) ?_
      exact kk H locs ls _ _ _ ⟨_, _, pg_I_setKind hR (xs (7 * i + 1)) (xs (7 * i + 2)) (xs (7 * i + 3)) 1 (xs (7 * i + 5)) (xs (7 * i + 6))⟩ hP hD hS (lv_sub hl [1, 2, 3, 4, 5] rfl)
    · refine lv_aload_n hx hb dL_law_280 rfl (lv_at hl 1 rfl) ?_
      refine lv_aload_n hx hb dL_law_281 rfl (lv_at hl 0 rfl) ?_
      refine lv_iload hx hb dL_law_282 (lv_at hl 4 rfl) ?_
      refine lv_iconst (v := 1) hx hb dL_law_284 (by decide) ?_
      refine pg_iaddN (k := 7 * i) (j := 1) hx hb (by decide) dL_law_285 ?_
      refine pg_sld hx hb hX hbl hbA hS (show 7 * i + 1 < L by omega) hL dL_law_286 ?_
      refine lv_aload_n hx hb dL_law_287 rfl (lv_at hl 0 rfl) ?_
      refine lv_iload hx hb dL_law_288 (lv_at hl 4 rfl) ?_
      refine lv_iconst (v := 2) hx hb dL_law_290 (by decide) ?_
      refine pg_iaddN (k := 7 * i) (j := 2) hx hb (by decide) dL_law_291 ?_
      refine pg_sld hx hb hX hbl hbA hS (show 7 * i + 2 < L by omega) hL dL_law_292 ?_
      refine lv_aload_n hx hb dL_law_293 rfl (lv_at hl 0 rfl) ?_
      refine lv_iload hx hb dL_law_294 (lv_at hl 4 rfl) ?_
      refine lv_iconst (v := 3) hx hb dL_law_296 (by decide) ?_
      refine pg_iaddN (k := 7 * i) (j := 3) hx hb (by decide) dL_law_297 ?_
      refine pg_sld hx hb hX hbl hbA hS (show 7 * i + 3 < L by omega) hL dL_law_298 ?_
      refine lv_aload_n hx hb dL_law_299 rfl (lv_at hl 0 rfl) ?_
      refine lv_iload hx hb dL_law_300 (lv_at hl 4 rfl) ?_
      refine lv_iconst (v := 4) hx hb dL_law_302 (by decide) ?_
      refine pg_iaddN (k := 7 * i) (j := 4) hx hb (by decide) dL_law_303 ?_
      refine pg_sld hx hb hX hbl hbA hS (show 7 * i + 4 < L by omega) hL dL_law_304 ?_
      refine lv_if_eq (tgt := 312) hx hb dL_law_305 (by decide) (fun h9 => absurd h9 hbo) (fun _ => ?_)
      refine lv_iconst (v := 1) hx hb dL_law_308 (by decide) ?_
      refine lv_goto (tgt := 313) hx hb dL_law_309 (by decide) ?_
      refine lv_aload_n hx hb dL_law_313 rfl (lv_at hl 0 rfl) ?_
      refine lv_iload hx hb dL_law_314 (lv_at hl 4 rfl) ?_
      refine lv_iconst (v := 5) hx hb dL_law_316 (by decide) ?_
      refine pg_iaddN (k := 7 * i) (j := 5) hx hb (by decide) dL_law_317 ?_
      refine pg_sld hx hb hX hbl hbA hS (show 7 * i + 5 < L by omega) hL dL_law_318 ?_
      refine lv_aload_n hx hb dL_law_319 rfl (lv_at hl 0 rfl) ?_
      refine lv_iload hx hb dL_law_320 (lv_at hl 4 rfl) ?_
      refine lv_bipush (v := 6) hx hb dL_law_322 (by decide) ?_
      refine pg_iaddN (k := 7 * i) (j := 6) hx hb (by decide) dL_law_324 ?_
      refine pg_sld hx hb hX hbl hbA hS (show 7 * i + 6 < L by omega) hL dL_law_325 ?_
      refine pg_iL (pg_rSWT (As := [.ref (a 0), .int (xs (7 * i + 1)), .int (xs (7 * i + 2)), .int (xs (7 * i + 3)), .int 1, .int (xs (7 * i + 5)), .int (xs (7 * i + 6))]) (rest := []) ⟨hx, hb, hml, hown, hts⟩ (cw_setKind_1 l hfl D cI cZ cL a o H.size u f (xs (7 * i + 1)) (xs (7 * i + 2)) (xs (7 * i + 3)) 1 (xs (7 * i + 5)) (xs (7 * i + 6)) rfl hthr) (vx_cwSW 7 hts gL_law_L_setKind rfl rfl rfl (by decide +kernel) ⟨Nat.le_of_ble_eq_true rfl, Nat.le_of_ble_eq_true rfl⟩) hK (pg_PL hP) (pg_DL hD) hS hA hE rfl hl.1 rfl (Nat.le_of_ble_eq_true rfl) dL_law_326 ⟨hc, hs⟩) hP hD hS hA (fun H locs hP hD hS => ?_)
      have hP : va_P D vwCl (lw_W cI cZ cL a a' o u w f) H := hP
      have hD : va_D (fun q : Nat => s.heap.size ≤ q) (lw_W cI cZ cL a a' o u w f) := hD
      refine lv_istore (lv' := [(5, .int 1), (0, .ref b), (1, .ref (a 0)), (2, .ref (a' 0)), (3, .ref o), (4, .int (nI (7 * i)))]) hx hb dL_law_329 hl (by decide) rfl (fun ls hl => ?_)
      refine lv_aload_n hx hb dL_law_331 rfl (lv_at hl 3 rfl) ?_
      refine lv_aload_n hx hb dL_law_332 rfl (lv_at hl 1 rfl) ?_
      refine lv_iload hx hb dL_law_333 (lv_at hl 5 rfl) ?_
      refine lv_iconst (v := 1) hx hb dL_law_335 (by decide) ?_
      refine pg_iaddN (k := 7 * i) (j := 1) hx hb (by decide) dL_law_336 ?_
      refine pg_sld hx hb hX hbl hbA hS (show 7 * i + 1 < L by omega) hL dL_law_337 ?_
      refine lv_aload_n hx hb dL_law_338 rfl (lv_at hl 1 rfl) ?_
      refine lv_iload hx hb dL_law_339 (lv_at hl 5 rfl) ?_
      refine lv_iconst (v := 2) hx hb dL_law_341 (by decide) ?_
      refine pg_iaddN (k := 7 * i) (j := 2) hx hb (by decide) dL_law_342 ?_
      refine pg_sld hx hb hX hbl hbA hS (show 7 * i + 2 < L by omega) hL dL_law_343 ?_
      refine lv_aload_n hx hb dL_law_344 rfl (lv_at hl 1 rfl) ?_
      refine lv_iload hx hb dL_law_345 (lv_at hl 5 rfl) ?_
      refine lv_iconst (v := 3) hx hb dL_law_347 (by decide) ?_
      refine pg_iaddN (k := 7 * i) (j := 3) hx hb (by decide) dL_law_348 ?_
      refine pg_sld hx hb hX hbl hbA hS (show 7 * i + 3 < L by omega) hL dL_law_349 ?_
      refine lv_aload_n hx hb dL_law_350 rfl (lv_at hl 1 rfl) ?_
      refine lv_iload hx hb dL_law_351 (lv_at hl 5 rfl) ?_
      refine lv_iconst (v := 4) hx hb dL_law_353 (by decide) ?_
      refine pg_iaddN (k := 7 * i) (j := 4) hx hb (by decide) dL_law_354 ?_
      refine pg_sld hx hb hX hbl hbA hS (show 7 * i + 4 < L by omega) hL dL_law_355 ?_
      refine lv_if_eq (tgt := 363) hx hb dL_law_356 (by decide) (fun h9 => absurd h9 hbo) (fun _ => ?_)
      refine lv_iconst (v := 1) hx hb dL_law_359 (by decide) ?_
      refine lv_goto (tgt := 364) hx hb dL_law_360 (by decide) ?_
      refine lv_aload_n hx hb dL_law_364 rfl (lv_at hl 1 rfl) ?_
      refine lv_iload hx hb dL_law_365 (lv_at hl 5 rfl) ?_
      refine lv_iconst (v := 5) hx hb dL_law_367 (by decide) ?_
      refine pg_iaddN (k := 7 * i) (j := 5) hx hb (by decide) dL_law_368 ?_
      refine pg_sld hx hb hX hbl hbA hS (show 7 * i + 5 < L by omega) hL dL_law_369 ?_
      refine lv_aload_n hx hb dL_law_370 rfl (lv_at hl 1 rfl) ?_
      refine lv_iload hx hb dL_law_371 (lv_at hl 5 rfl) ?_
      refine lv_bipush (v := 6) hx hb dL_law_373 (by decide) ?_
      refine pg_iaddN (k := 7 * i) (j := 6) hx hb (by decide) dL_law_375 ?_
      refine pg_sld hx hb hX hbl hbA hS (show 7 * i + 6 < L by omega) hL dL_law_376 ?_
      refine pg_vR (pg_rV (As := [.int (xs (7 * i + 1)), .int (xs (7 * i + 2)), .int (xs (7 * i + 3)), .int 1, .int (xs (7 * i + 5)), .int (xs (7 * i + 6))]) (rest := []) ⟨hx, hb, hml, hown, hts⟩ (cm_setKind_no l D cI cZ a' H.size w (xs (7 * i + 1)) (xs (7 * i + 2)) (xs (7 * i + 3)) 1 (xs (7 * i + 5)) (xs (7 * i + 6)) rfl 1 (by rw [← hR.cl]; exact hthr) (by decide)) (cwV 6 hts gL_law_X5_setKind rfl rfl rfl (by decide +kernel) ⟨Nat.le_of_ble_eq_true rfl, Nat.le_of_ble_eq_true rfl⟩) (hK.sub [0, 1] rfl) (pg_PR hP) (pg_DR hD) 0 (ci := 5) rfl rfl rfl rfl hl.1 rfl (Nat.le_of_ble_eq_true rfl) dL_law_377 ⟨hc, hs⟩) hP hD hS hA (fun H locs hP hD hS => ?_)
      have hP : va_P D vwCl (lw_W cI cZ cL a a' o u (upd w.1 15 1, w.2) f) H := hP
      have hD : va_D (fun q : Nat => s.heap.size ≤ q) (lw_W cI cZ cL a a' o u (upd w.1 15 1, w.2) f) := hD
      refine lv_aload_n hx hb dL_law_380 rfl (lv_at hl 3 rfl) ?_
      refine pg_iR (pg_rV (As := []) (rest := []) ⟨hx, hb, hml, hown, hts⟩ (cm_thrown l D cI cZ a' H.size (upd w.1 15 1, w.2)) (cwV 0 hts gL_law_X5_thrown rfl rfl rfl (by decide +kernel) ⟨Nat.le_of_ble_eq_true rfl, Nat.le_of_ble_eq_true rfl⟩) (hK.sub [0, 1] rfl) (pg_PR hP) (pg_DR hD) 0 (ci := 5) rfl rfl rfl rfl hl.1 rfl (Nat.le_of_ble_eq_true rfl) dL_law_381 ⟨hc, hs⟩) hP hD hS hA (fun H locs hP hD hS => ?_)
      have hP : va_P D vwCl (lw_W cI cZ cL a a' o u (upd w.1 15 1, w.2) f) H := hP
      have hD : va_D (fun q : Nat => s.heap.size ≤ q) (lw_W cI cZ cL a a' o u (upd w.1 15 1, w.2) f) := hD
      refine lv_iload hx hb dL_law_384 (lv_at hl 0 rfl) ?_
      refine lv_icmp_eq (tgt := 391) hx hb dL_law_386 (by decide) (fun _ => ?_) (fun h9 => (h9 (pg_updk w.1 15 1)).elim)
      refine lv_goto (tgt := 1307) hx hb dL_law_391 (by decide) ?_
      exact kk H locs ls _ _ _ ⟨_, _, hR.thr 1⟩ hP hD hS (lv_sub hl [1, 2, 3, 4, 5] rfl)
    · refine lv_aload_n hx hb dL_law_280 rfl (lv_at hl 1 rfl) ?_
      refine lv_aload_n hx hb dL_law_281 rfl (lv_at hl 0 rfl) ?_
      refine lv_iload hx hb dL_law_282 (lv_at hl 4 rfl) ?_
      refine lv_iconst (v := 1) hx hb dL_law_284 (by decide) ?_
      refine pg_iaddN (k := 7 * i) (j := 1) hx hb (by decide) dL_law_285 ?_
      refine pg_sld hx hb hX hbl hbA hS (show 7 * i + 1 < L by omega) hL dL_law_286 ?_
      refine lv_aload_n hx hb dL_law_287 rfl (lv_at hl 0 rfl) ?_
      refine lv_iload hx hb dL_law_288 (lv_at hl 4 rfl) ?_
      refine lv_iconst (v := 2) hx hb dL_law_290 (by decide) ?_
      refine pg_iaddN (k := 7 * i) (j := 2) hx hb (by decide) dL_law_291 ?_
      refine pg_sld hx hb hX hbl hbA hS (show 7 * i + 2 < L by omega) hL dL_law_292 ?_
      refine lv_aload_n hx hb dL_law_293 rfl (lv_at hl 0 rfl) ?_
      refine lv_iload hx hb dL_law_294 (lv_at hl 4 rfl) ?_
      refine lv_iconst (v := 3) hx hb dL_law_296 (by decide) ?_
      refine pg_iaddN (k := 7 * i) (j := 3) hx hb (by decide) dL_law_297 ?_
      refine pg_sld hx hb hX hbl hbA hS (show 7 * i + 3 < L by omega) hL dL_law_298 ?_
      refine lv_aload_n hx hb dL_law_299 rfl (lv_at hl 0 rfl) ?_
      refine lv_iload hx hb dL_law_300 (lv_at hl 4 rfl) ?_
      refine lv_iconst (v := 4) hx hb dL_law_302 (by decide) ?_
      refine pg_iaddN (k := 7 * i) (j := 4) hx hb (by decide) dL_law_303 ?_
      refine pg_sld hx hb hX hbl hbA hS (show 7 * i + 4 < L by omega) hL dL_law_304 ?_
      refine lv_if_eq (tgt := 312) hx hb dL_law_305 (by decide) (fun h9 => absurd h9 hbo) (fun _ => ?_)
      refine lv_iconst (v := 1) hx hb dL_law_308 (by decide) ?_
      refine lv_goto (tgt := 313) hx hb dL_law_309 (by decide) ?_
      refine lv_aload_n hx hb dL_law_313 rfl (lv_at hl 0 rfl) ?_
      refine lv_iload hx hb dL_law_314 (lv_at hl 4 rfl) ?_
      refine lv_iconst (v := 5) hx hb dL_law_316 (by decide) ?_
      refine pg_iaddN (k := 7 * i) (j := 5) hx hb (by decide) dL_law_317 ?_
      refine pg_sld hx hb hX hbl hbA hS (show 7 * i + 5 < L by omega) hL dL_law_318 ?_
      refine lv_aload_n hx hb dL_law_319 rfl (lv_at hl 0 rfl) ?_
      refine lv_iload hx hb dL_law_320 (lv_at hl 4 rfl) ?_
      refine lv_bipush (v := 6) hx hb dL_law_322 (by decide) ?_
      refine pg_iaddN (k := 7 * i) (j := 6) hx hb (by decide) dL_law_324 ?_
      refine pg_sld hx hb hX hbl hbA hS (show 7 * i + 6 < L by omega) hL dL_law_325 ?_
      refine pg_iL (pg_rSWT (As := [.ref (a 0), .int (xs (7 * i + 1)), .int (xs (7 * i + 2)), .int (xs (7 * i + 3)), .int 1, .int (xs (7 * i + 5)), .int (xs (7 * i + 6))]) (rest := []) ⟨hx, hb, hml, hown, hts⟩ (cw_setKind_2 l hfl D cI cZ cL a o H.size u f (xs (7 * i + 1)) (xs (7 * i + 2)) (xs (7 * i + 3)) 1 (xs (7 * i + 5)) (xs (7 * i + 6)) rfl hthr) (vx_cwSW 7 hts gL_law_L_setKind rfl rfl rfl (by decide +kernel) ⟨Nat.le_of_ble_eq_true rfl, Nat.le_of_ble_eq_true rfl⟩) hK (pg_PL hP) (pg_DL hD) hS hA hE rfl hl.1 rfl (Nat.le_of_ble_eq_true rfl) dL_law_326 ⟨hc, hs⟩) hP hD hS hA (fun H locs hP hD hS => ?_)
      have hP : va_P D vwCl (lw_W cI cZ cL a a' o u w f) H := hP
      have hD : va_D (fun q : Nat => s.heap.size ≤ q) (lw_W cI cZ cL a a' o u w f) := hD
      refine lv_istore (lv' := [(5, .int 2), (0, .ref b), (1, .ref (a 0)), (2, .ref (a' 0)), (3, .ref o), (4, .int (nI (7 * i)))]) hx hb dL_law_329 hl (by decide) rfl (fun ls hl => ?_)
      refine lv_aload_n hx hb dL_law_331 rfl (lv_at hl 3 rfl) ?_
      refine lv_aload_n hx hb dL_law_332 rfl (lv_at hl 1 rfl) ?_
      refine lv_iload hx hb dL_law_333 (lv_at hl 5 rfl) ?_
      refine lv_iconst (v := 1) hx hb dL_law_335 (by decide) ?_
      refine pg_iaddN (k := 7 * i) (j := 1) hx hb (by decide) dL_law_336 ?_
      refine pg_sld hx hb hX hbl hbA hS (show 7 * i + 1 < L by omega) hL dL_law_337 ?_
      refine lv_aload_n hx hb dL_law_338 rfl (lv_at hl 1 rfl) ?_
      refine lv_iload hx hb dL_law_339 (lv_at hl 5 rfl) ?_
      refine lv_iconst (v := 2) hx hb dL_law_341 (by decide) ?_
      refine pg_iaddN (k := 7 * i) (j := 2) hx hb (by decide) dL_law_342 ?_
      refine pg_sld hx hb hX hbl hbA hS (show 7 * i + 2 < L by omega) hL dL_law_343 ?_
      refine lv_aload_n hx hb dL_law_344 rfl (lv_at hl 1 rfl) ?_
      refine lv_iload hx hb dL_law_345 (lv_at hl 5 rfl) ?_
      refine lv_iconst (v := 3) hx hb dL_law_347 (by decide) ?_
      refine pg_iaddN (k := 7 * i) (j := 3) hx hb (by decide) dL_law_348 ?_
      refine pg_sld hx hb hX hbl hbA hS (show 7 * i + 3 < L by omega) hL dL_law_349 ?_
      refine lv_aload_n hx hb dL_law_350 rfl (lv_at hl 1 rfl) ?_
      refine lv_iload hx hb dL_law_351 (lv_at hl 5 rfl) ?_
      refine lv_iconst (v := 4) hx hb dL_law_353 (by decide) ?_
      refine pg_iaddN (k := 7 * i) (j := 4) hx hb (by decide) dL_law_354 ?_
      refine pg_sld hx hb hX hbl hbA hS (show 7 * i + 4 < L by omega) hL dL_law_355 ?_
      refine lv_if_eq (tgt := 363) hx hb dL_law_356 (by decide) (fun h9 => absurd h9 hbo) (fun _ => ?_)
      refine lv_iconst (v := 1) hx hb dL_law_359 (by decide) ?_
      refine lv_goto (tgt := 364) hx hb dL_law_360 (by decide) ?_
      refine lv_aload_n hx hb dL_law_364 rfl (lv_at hl 1 rfl) ?_
      refine lv_iload hx hb dL_law_365 (lv_at hl 5 rfl) ?_
      refine lv_iconst (v := 5) hx hb dL_law_367 (by decide) ?_
      refine pg_iaddN (k := 7 * i) (j := 5) hx hb (by decide) dL_law_368 ?_
      refine pg_sld hx hb hX hbl hbA hS (show 7 * i + 5 < L by omega) hL dL_law_369 ?_
      refine lv_aload_n hx hb dL_law_370 rfl (lv_at hl 1 rfl) ?_
      refine lv_iload hx hb dL_law_371 (lv_at hl 5 rfl) ?_
      refine lv_bipush (v := 6) hx hb dL_law_373 (by decide) ?_
      refine pg_iaddN (k := 7 * i) (j := 6) hx hb (by decide) dL_law_375 ?_
      refine pg_sld hx hb hX hbl hbA hS (show 7 * i + 6 < L by omega) hL dL_law_376 ?_
      refine pg_vR (pg_rV (As := [.int (xs (7 * i + 1)), .int (xs (7 * i + 2)), .int (xs (7 * i + 3)), .int 1, .int (xs (7 * i + 5)), .int (xs (7 * i + 6))]) (rest := []) ⟨hx, hb, hml, hown, hts⟩ (cm_setKind_no l D cI cZ a' H.size w (xs (7 * i + 1)) (xs (7 * i + 2)) (xs (7 * i + 3)) 1 (xs (7 * i + 5)) (xs (7 * i + 6)) rfl 2 (by rw [← hR.cl]; exact hthr) (by decide)) (cwV 6 hts gL_law_X5_setKind rfl rfl rfl (by decide +kernel) ⟨Nat.le_of_ble_eq_true rfl, Nat.le_of_ble_eq_true rfl⟩) (hK.sub [0, 1] rfl) (pg_PR hP) (pg_DR hD) 0 (ci := 5) rfl rfl rfl rfl hl.1 rfl (Nat.le_of_ble_eq_true rfl) dL_law_377 ⟨hc, hs⟩) hP hD hS hA (fun H locs hP hD hS => ?_)
      have hP : va_P D vwCl (lw_W cI cZ cL a a' o u (upd w.1 15 2, w.2) f) H := hP
      have hD : va_D (fun q : Nat => s.heap.size ≤ q) (lw_W cI cZ cL a a' o u (upd w.1 15 2, w.2) f) := hD
      refine lv_aload_n hx hb dL_law_380 rfl (lv_at hl 3 rfl) ?_
      refine pg_iR (pg_rV (As := []) (rest := []) ⟨hx, hb, hml, hown, hts⟩ (cm_thrown l D cI cZ a' H.size (upd w.1 15 2, w.2)) (cwV 0 hts gL_law_X5_thrown rfl rfl rfl (by decide +kernel) ⟨Nat.le_of_ble_eq_true rfl, Nat.le_of_ble_eq_true rfl⟩) (hK.sub [0, 1] rfl) (pg_PR hP) (pg_DR hD) 0 (ci := 5) rfl rfl rfl rfl hl.1 rfl (Nat.le_of_ble_eq_true rfl) dL_law_381 ⟨hc, hs⟩) hP hD hS hA (fun H locs hP hD hS => ?_)
      have hP : va_P D vwCl (lw_W cI cZ cL a a' o u (upd w.1 15 2, w.2) f) H := hP
      have hD : va_D (fun q : Nat => s.heap.size ≤ q) (lw_W cI cZ cL a a' o u (upd w.1 15 2, w.2) f) := hD
      refine lv_iload hx hb dL_law_384 (lv_at hl 0 rfl) ?_
      refine lv_icmp_eq (tgt := 391) hx hb dL_law_386 (by decide) (fun _ => ?_) (fun h9 => (h9 (pg_updk w.1 15 2)).elim)
      refine lv_goto (tgt := 1307) hx hb dL_law_391 (by decide) ?_
      exact kk H locs ls _ _ _ ⟨_, _, hR.thr 2⟩ hP hD hS (lv_sub hl [1, 2, 3, 4, 5] rfl)
    · refine lv_aload_n hx hb dL_law_280 rfl (lv_at hl 1 rfl) ?_
      refine lv_aload_n hx hb dL_law_281 rfl (lv_at hl 0 rfl) ?_
      refine lv_iload hx hb dL_law_282 (lv_at hl 4 rfl) ?_
      refine lv_iconst (v := 1) hx hb dL_law_284 (by decide) ?_
      refine pg_iaddN (k := 7 * i) (j := 1) hx hb (by decide) dL_law_285 ?_
      refine pg_sld hx hb hX hbl hbA hS (show 7 * i + 1 < L by omega) hL dL_law_286 ?_
      refine lv_aload_n hx hb dL_law_287 rfl (lv_at hl 0 rfl) ?_
      refine lv_iload hx hb dL_law_288 (lv_at hl 4 rfl) ?_
      refine lv_iconst (v := 2) hx hb dL_law_290 (by decide) ?_
      refine pg_iaddN (k := 7 * i) (j := 2) hx hb (by decide) dL_law_291 ?_
      refine pg_sld hx hb hX hbl hbA hS (show 7 * i + 2 < L by omega) hL dL_law_292 ?_
      refine lv_aload_n hx hb dL_law_293 rfl (lv_at hl 0 rfl) ?_
      refine lv_iload hx hb dL_law_294 (lv_at hl 4 rfl) ?_
      refine lv_iconst (v := 3) hx hb dL_law_296 (by decide) ?_
      refine pg_iaddN (k := 7 * i) (j := 3) hx hb (by decide) dL_law_297 ?_
      refine pg_sld hx hb hX hbl hbA hS (show 7 * i + 3 < L by omega) hL dL_law_298 ?_
      refine lv_aload_n hx hb dL_law_299 rfl (lv_at hl 0 rfl) ?_
      refine lv_iload hx hb dL_law_300 (lv_at hl 4 rfl) ?_
      refine lv_iconst (v := 4) hx hb dL_law_302 (by decide) ?_
      refine pg_iaddN (k := 7 * i) (j := 4) hx hb (by decide) dL_law_303 ?_
      refine pg_sld hx hb hX hbl hbA hS (show 7 * i + 4 < L by omega) hL dL_law_304 ?_
      refine lv_if_eq (tgt := 312) hx hb dL_law_305 (by decide) (fun h9 => absurd h9 hbo) (fun _ => ?_)
      refine lv_iconst (v := 1) hx hb dL_law_308 (by decide) ?_
      refine lv_goto (tgt := 313) hx hb dL_law_309 (by decide) ?_
      refine lv_aload_n hx hb dL_law_313 rfl (lv_at hl 0 rfl) ?_
      refine lv_iload hx hb dL_law_314 (lv_at hl 4 rfl) ?_
      refine lv_iconst (v := 5) hx hb dL_law_316 (by decide) ?_
      refine pg_iaddN (k := 7 * i) (j := 5) hx hb (by decide) dL_law_317 ?_
      refine pg_sld hx hb hX hbl hbA hS (show 7 * i + 5 < L by omega) hL dL_law_318 ?_
      refine lv_aload_n hx hb dL_law_319 rfl (lv_at hl 0 rfl) ?_
      refine lv_iload hx hb dL_law_320 (lv_at hl 4 rfl) ?_
      refine lv_bipush (v := 6) hx hb dL_law_322 (by decide) ?_
      refine pg_iaddN (k := 7 * i) (j := 6) hx hb (by decide) dL_law_324 ?_
      refine pg_sld hx hb hX hbl hbA hS (show 7 * i + 6 < L by omega) hL dL_law_325 ?_
      refine pg_iL (pg_rSWT (As := [.ref (a 0), .int (xs (7 * i + 1)), .int (xs (7 * i + 2)), .int (xs (7 * i + 3)), .int 1, .int (xs (7 * i + 5)), .int (xs (7 * i + 6))]) (rest := []) ⟨hx, hb, hml, hown, hts⟩ (cw_setKind_3 l hfl D cI cZ cL a o H.size u f (xs (7 * i + 1)) (xs (7 * i + 2)) (xs (7 * i + 3)) 1 (xs (7 * i + 5)) (xs (7 * i + 6)) rfl hthr) (vx_cwSW 7 hts gL_law_L_setKind rfl rfl rfl (by decide +kernel) ⟨Nat.le_of_ble_eq_true rfl, Nat.le_of_ble_eq_true rfl⟩) hK (pg_PL hP) (pg_DL hD) hS hA hE rfl hl.1 rfl (Nat.le_of_ble_eq_true rfl) dL_law_326 ⟨hc, hs⟩) hP hD hS hA (fun H locs hP hD hS => ?_)
      have hP : va_P D vwCl (lw_W cI cZ cL a a' o u w f) H := hP
      have hD : va_D (fun q : Nat => s.heap.size ≤ q) (lw_W cI cZ cL a a' o u w f) := hD
      refine lv_istore (lv' := [(5, .int 3), (0, .ref b), (1, .ref (a 0)), (2, .ref (a' 0)), (3, .ref o), (4, .int (nI (7 * i)))]) hx hb dL_law_329 hl (by decide) rfl (fun ls hl => ?_)
      refine lv_aload_n hx hb dL_law_331 rfl (lv_at hl 3 rfl) ?_
      refine lv_aload_n hx hb dL_law_332 rfl (lv_at hl 1 rfl) ?_
      refine lv_iload hx hb dL_law_333 (lv_at hl 5 rfl) ?_
      refine lv_iconst (v := 1) hx hb dL_law_335 (by decide) ?_
      refine pg_iaddN (k := 7 * i) (j := 1) hx hb (by decide) dL_law_336 ?_
      refine pg_sld hx hb hX hbl hbA hS (show 7 * i + 1 < L by omega) hL dL_law_337 ?_
      refine lv_aload_n hx hb dL_law_338 rfl (lv_at hl 1 rfl) ?_
      refine lv_iload hx hb dL_law_339 (lv_at hl 5 rfl) ?_
      refine lv_iconst (v := 2) hx hb dL_law_341 (by decide) ?_
      refine pg_iaddN (k := 7 * i) (j := 2) hx hb (by decide) dL_law_342 ?_
      refine pg_sld hx hb hX hbl hbA hS (show 7 * i + 2 < L by omega) hL dL_law_343 ?_
      refine lv_aload_n hx hb dL_law_344 rfl (lv_at hl 1 rfl) ?_
      refine lv_iload hx hb dL_law_345 (lv_at hl 5 rfl) ?_
      refine lv_iconst (v := 3) hx hb dL_law_347 (by decide) ?_
      refine pg_iaddN (k := 7 * i) (j := 3) hx hb (by decide) dL_law_348 ?_
      refine pg_sld hx hb hX hbl hbA hS (show 7 * i + 3 < L by omega) hL dL_law_349 ?_
      refine lv_aload_n hx hb dL_law_350 rfl (lv_at hl 1 rfl) ?_
      refine lv_iload hx hb dL_law_351 (lv_at hl 5 rfl) ?_
      refine lv_iconst (v := 4) hx hb dL_law_353 (by decide) ?_
      refine pg_iaddN (k := 7 * i) (j := 4) hx hb (by decide) dL_law_354 ?_
      refine pg_sld hx hb hX hbl hbA hS (show 7 * i + 4 < L by omega) hL dL_law_355 ?_
      refine lv_if_eq (tgt := 363) hx hb dL_law_356 (by decide) (fun h9 => absurd h9 hbo) (fun _ => ?_)
      refine lv_iconst (v := 1) hx hb dL_law_359 (by decide) ?_
      refine lv_goto (tgt := 364) hx hb dL_law_360 (by decide) ?_
      refine lv_aload_n hx hb dL_law_364 rfl (lv_at hl 1 rfl) ?_
      refine lv_iload hx hb dL_law_365 (lv_at hl 5 rfl) ?_
      refine lv_iconst (v := 5) hx hb dL_law_367 (by decide) ?_
      refine pg_iaddN (k := 7 * i) (j := 5) hx hb (by decide) dL_law_368 ?_
      refine pg_sld hx hb hX hbl hbA hS (show 7 * i + 5 < L by omega) hL dL_law_369 ?_
      refine lv_aload_n hx hb dL_law_370 rfl (lv_at hl 1 rfl) ?_
      refine lv_iload hx hb dL_law_371 (lv_at hl 5 rfl) ?_
      refine lv_bipush (v := 6) hx hb dL_law_373 (by decide) ?_
      refine pg_iaddN (k := 7 * i) (j := 6) hx hb (by decide) dL_law_375 ?_
      refine pg_sld hx hb hX hbl hbA hS (show 7 * i + 6 < L by omega) hL dL_law_376 ?_
      refine pg_vR (pg_rV (As := [.int (xs (7 * i + 1)), .int (xs (7 * i + 2)), .int (xs (7 * i + 3)), .int 1, .int (xs (7 * i + 5)), .int (xs (7 * i + 6))]) (rest := []) ⟨hx, hb, hml, hown, hts⟩ (cm_setKind_no l D cI cZ a' H.size w (xs (7 * i + 1)) (xs (7 * i + 2)) (xs (7 * i + 3)) 1 (xs (7 * i + 5)) (xs (7 * i + 6)) rfl 3 (by rw [← hR.cl]; exact hthr) (by decide)) (cwV 6 hts gL_law_X5_setKind rfl rfl rfl (by decide +kernel) ⟨Nat.le_of_ble_eq_true rfl, Nat.le_of_ble_eq_true rfl⟩) (hK.sub [0, 1] rfl) (pg_PR hP) (pg_DR hD) 0 (ci := 5) rfl rfl rfl rfl hl.1 rfl (Nat.le_of_ble_eq_true rfl) dL_law_377 ⟨hc, hs⟩) hP hD hS hA (fun H locs hP hD hS => ?_)
      have hP : va_P D vwCl (lw_W cI cZ cL a a' o u (upd w.1 15 3, w.2) f) H := hP
      have hD : va_D (fun q : Nat => s.heap.size ≤ q) (lw_W cI cZ cL a a' o u (upd w.1 15 3, w.2) f) := hD
      refine lv_aload_n hx hb dL_law_380 rfl (lv_at hl 3 rfl) ?_
      refine pg_iR (pg_rV (As := []) (rest := []) ⟨hx, hb, hml, hown, hts⟩ (cm_thrown l D cI cZ a' H.size (upd w.1 15 3, w.2)) (cwV 0 hts gL_law_X5_thrown rfl rfl rfl (by decide +kernel) ⟨Nat.le_of_ble_eq_true rfl, Nat.le_of_ble_eq_true rfl⟩) (hK.sub [0, 1] rfl) (pg_PR hP) (pg_DR hD) 0 (ci := 5) rfl rfl rfl rfl hl.1 rfl (Nat.le_of_ble_eq_true rfl) dL_law_381 ⟨hc, hs⟩) hP hD hS hA (fun H locs hP hD hS => ?_)
      have hP : va_P D vwCl (lw_W cI cZ cL a a' o u (upd w.1 15 3, w.2) f) H := hP
      have hD : va_D (fun q : Nat => s.heap.size ≤ q) (lw_W cI cZ cL a a' o u (upd w.1 15 3, w.2) f) := hD
      refine lv_iload hx hb dL_law_384 (lv_at hl 0 rfl) ?_
      refine lv_icmp_eq (tgt := 391) hx hb dL_law_386 (by decide) (fun _ => ?_) (fun h9 => (h9 (pg_updk w.1 15 3)).elim)
      refine lv_goto (tgt := 1307) hx hb dL_law_391 (by decide) ?_
      exact kk H locs ls _ _ _ ⟨_, _, hR.thr 3⟩ hP hD hS (lv_sub hl [1, 2, 3, 4, 5] rfl)
set_option maxHeartbeats 4000000 in
set_option maxRecDepth 100000 in
theorem lc_3 (hfl : l.stackTraces = false) (hL : L ≤ 3584) (C0 : lw_At p s m meth c b L xs) (hK : va_K D vwCl (pg_tyL cI cZ cL) s) (hE : pg_Env (fun q : Nat => s.heap.size ≤ q) s s.heap) (hi : 7 * i + 7 ≤ L) (hc : cells + 1 ≤ 1072) (hs : slots + 6 ≤ 8564) (hI : pg_Inv u w) (hP : va_P D vwCl (lw_W cI cZ cL a a' o u w f) H) (hD : va_D (fun q : Nat => s.heap.size ≤ q) (lw_W cI cZ cL a a' o u w f)) (hS : va_S (fun q : Nat => s.heap.size ≤ q) s.heap H locs) (hl : lv_has ls 7 [(0, .ref b), (1, .ref (a 0)), (2, .ref (a' 0)), (3, .ref o), (4, .int (nI (7 * i)))])
    (kk : ∀ (H : Heap) (locs : List Loc) (ls : Array Slot) (u w : pg_St) (f : Nat → Int64), pg_Inv u w → va_P D vwCl (lw_W cI cZ cL a a' o u w f) H → va_D (fun q : Nat => s.heap.size ≤ q) (lw_W cI cZ cL a a' o u w f) → va_S (fun q : Nat => s.heap.size ≤ q) s.heap H locs → lv_has ls 7 [(0, .ref b), (1, .ref (a 0)), (2, .ref (a' 0)), (3, .ref o), (4, .int (nI (7 * i)))] → W p l e room_1 s m #[Value.ref b] below meth c H locs (cells + 1) (slots + 6) Q (F0 m 1307 ls [])) :
    W p l e room_1 s m #[Value.ref b] below meth c H locs cells slots Q (F0 m 394 ls []) := by
  obtain ⟨hx, hb, hr, hml, hown, hts, hX, hbl, hlocks, hgv⟩ := id C0
  have hts := fun w h => hts w (wsL_law_in w h)
  have hown : s.vm.findClass RL = some m.cls := hown
  have hb : c.code = cL_law := hb
  have hA : ∀ q : Nat, s.heap.size ≤ q → (fun q : Nat => s.heap.size ≤ q) q := fun _ h => h
  have hbA : ¬ (fun q : Nat => s.heap.size ≤ q) b := Nat.not_le.mpr hbl
  have hc0 : cells + 0 ≤ 1072 := by omega
  have hs0 : slots + 0 ≤ 8564 := by omega
  obtain ⟨n, t, hR⟩ := hI
  obtain ⟨-, -, ⟨hn, h20, ht, h4⟩, ⟨-, -, hmet, hzer⟩, -⟩ := id hR
  have hnw : w.1 10 = nI n := (hR.1.1 10 (by decide)).symm.trans hn
  have htw : w.1 13 = nI t := (hR.1.1 13 (by decide)).symm.trans ht
  rcases pg_c_setYear (!pg_eq (u.1 3) (-1)) (xs (7 * i + 1)) (xs (7 * i + 2)) (xs (7 * i + 3)) with hthr | hthr | hthr | hthr
  · refine lv_aload_n hx hb dL_law_394 rfl (lv_at hl 1 rfl) ?_
    refine lv_aload_n hx hb dL_law_395 rfl (lv_at hl 0 rfl) ?_
    refine lv_iload hx hb dL_law_396 (lv_at hl 4 rfl) ?_
    refine lv_iconst (v := 1) hx hb dL_law_398 (by decide) ?_
    refine pg_iaddN (k := 7 * i) (j := 1) hx hb (by decide) dL_law_399 ?_
    refine pg_sld hx hb hX hbl hbA hS (show 7 * i + 1 < L by omega) hL dL_law_400 ?_
    refine lv_aload_n hx hb dL_law_401 rfl (lv_at hl 0 rfl) ?_
    refine lv_iload hx hb dL_law_402 (lv_at hl 4 rfl) ?_
    refine lv_iconst (v := 2) hx hb dL_law_404 (by decide) ?_
    refine pg_iaddN (k := 7 * i) (j := 2) hx hb (by decide) dL_law_405 ?_
    refine pg_sld hx hb hX hbl hbA hS (show 7 * i + 2 < L by omega) hL dL_law_406 ?_
    refine lv_aload_n hx hb dL_law_407 rfl (lv_at hl 0 rfl) ?_
    refine lv_iload hx hb dL_law_408 (lv_at hl 4 rfl) ?_
    refine lv_iconst (v := 3) hx hb dL_law_410 (by decide) ?_
    refine pg_iaddN (k := 7 * i) (j := 3) hx hb (by decide) dL_law_411 ?_
    refine pg_sld hx hb hX hbl hbA hS (show 7 * i + 3 < L by omega) hL dL_law_412 ?_
    refine pg_iL (pg_rSW (As := [.ref (a 0), .int (xs (7 * i + 1)), .int (xs (7 * i + 2)), .int (xs (7 * i + 3))]) (rest := []) ⟨hx, hb, hml, hown, hts⟩ (cw_setYear_ok l D cI cZ cL a o H.size u f (xs (7 * i + 1)) (xs (7 * i + 2)) (xs (7 * i + 3)) hthr) (vx_cwSW 4 hts gL_law_L_setYear rfl rfl rfl (by decide +kernel) ⟨Nat.le_of_ble_eq_true rfl, Nat.le_of_ble_eq_true rfl⟩) hK (pg_PL hP) (pg_DL hD) rfl hl.1 rfl (Nat.le_of_ble_eq_true rfl) dL_law_413 ⟨hc0, hs0⟩) hP hD hS hA (fun H locs hP hD hS => ?_)
    have hP : va_P D vwCl (lw_W cI cZ cL a a' o (u.1, pg_row (pg_row u.2 11 (upd (u.2 11) (xs (7 * i + 1)).toNatClampNeg (xs (7 * i + 2)))) 12 (upd (u.2 12) (xs (7 * i + 1)).toNatClampNeg (xs (7 * i + 3)))) w f) H := hP
    have hD : va_D (fun q : Nat => s.heap.size ≤ q) (lw_W cI cZ cL a a' o (u.1, pg_row (pg_row u.2 11 (upd (u.2 11) (xs (7 * i + 1)).toNatClampNeg (xs (7 * i + 2)))) 12 (upd (u.2 12) (xs (7 * i + 1)).toNatClampNeg (xs (7 * i + 3)))) w f) := hD
    refine W.widen (k := cells + 1) (n := slots + 6) (by omega) (by omega) ?_
    refine lv_istore (lv' := [(5, .int 0), (0, .ref b), (1, .ref (a 0)), (2, .ref (a' 0)), (3, .ref o), (4, .int (nI (7 * i)))]) hx hb dL_law_416 hl (by decide) rfl (fun ls hl => ?_)
    refine lv_aload_n hx hb dL_law_418 rfl (lv_at hl 3 rfl) ?_
    refine lv_aload_n hx hb dL_law_419 rfl (lv_at hl 1 rfl) ?_
    refine lv_iload hx hb dL_law_420 (lv_at hl 5 rfl) ?_
    refine lv_iconst (v := 1) hx hb dL_law_422 (by decide) ?_
    refine pg_iaddN (k := 7 * i) (j := 1) hx hb (by decide) dL_law_423 ?_
    refine pg_sld hx hb hX hbl hbA hS (show 7 * i + 1 < L by omega) hL dL_law_424 ?_
    refine lv_aload_n hx hb dL_law_425 rfl (lv_at hl 1 rfl) ?_
    refine lv_iload hx hb dL_law_426 (lv_at hl 5 rfl) ?_
    refine lv_iconst (v := 2) hx hb dL_law_428 (by decide) ?_
    refine pg_iaddN (k := 7 * i) (j := 2) hx hb (by decide) dL_law_429 ?_
    refine pg_sld hx hb hX hbl hbA hS (show 7 * i + 2 < L by omega) hL dL_law_430 ?_
    refine lv_aload_n hx hb dL_law_431 rfl (lv_at hl 1 rfl) ?_
    refine lv_iload hx hb dL_law_432 (lv_at hl 5 rfl) ?_
    refine lv_iconst (v := 3) hx hb dL_law_434 (by decide) ?_
    refine pg_iaddN (k := 7 * i) (j := 3) hx hb (by decide) dL_law_435 ?_
    refine pg_sld hx hb hX hbl hbA hS (show 7 * i + 3 < L by omega) hL dL_law_436 ?_
    refine pg_vR (pg_rV (As := [.int (xs (7 * i + 1)), .int (xs (7 * i + 2)), .int (xs (7 * i + 3))]) (rest := []) ⟨hx, hb, hml, hown, hts⟩ (cm_setYear_ok l D cI cZ a' H.size w (xs (7 * i + 1)) (xs (7 * i + 2)) (xs (7 * i + 3)) (by rw [← hR.cl]; exact hthr)) (cwV 3 hts gL_law_X5_setYear rfl rfl rfl (by decide +kernel) ⟨Nat.le_of_ble_eq_true rfl, Nat.le_of_ble_eq_true rfl⟩) (hK.sub [0, 1] rfl) (pg_PR hP) (pg_DR hD) 0 (ci := 5) rfl rfl rfl rfl hl.1 rfl (Nat.le_of_ble_eq_true rfl) dL_law_437 ⟨hc, hs⟩) hP hD hS hA (fun H locs hP hD hS => ?_)
    have hP : va_P D vwCl (lw_W cI cZ cL a a' o (u.1, pg_row (pg_row u.2 11 (upd (u.2 11) (xs (7 * i + 1)).toNatClampNeg (xs (7 * i + 2)))) 12 (upd (u.2 12) (xs (7 * i + 1)).toNatClampNeg (xs (7 * i + 3)))) (upd w.1 15 0, pg_row (pg_row w.2 11 (upd (w.2 11) (xs (7 * i + 1)).toNatClampNeg (xs (7 * i + 2)))) 12 (upd (w.2 12) (xs (7 * i + 1)).toNatClampNeg (xs (7 * i + 3)))) f) H := hP
    have hD : va_D (fun q : Nat => s.heap.size ≤ q) (lw_W cI cZ cL a a' o (u.1, pg_row (pg_row u.2 11 (upd (u.2 11) (xs (7 * i + 1)).toNatClampNeg (xs (7 * i + 2)))) 12 (upd (u.2 12) (xs (7 * i + 1)).toNatClampNeg (xs (7 * i + 3)))) (upd w.1 15 0, pg_row (pg_row w.2 11 (upd (w.2 11) (xs (7 * i + 1)).toNatClampNeg (xs (7 * i + 2)))) 12 (upd (w.2 12) (xs (7 * i + 1)).toNatClampNeg (xs (7 * i + 3)))) f) := hD
    refine lv_aload_n hx hb dL_law_440 rfl (lv_at hl 3 rfl) ?_
    refine pg_iR (pg_rV (As := []) (rest := []) ⟨hx, hb, hml, hown, hts⟩ (cm_thrown l D cI cZ a' H.size (upd w.1 15 0, pg_row (pg_row w.2 11 (upd (w.2 11) (xs (7 * i + 1)).toNatClampNeg (xs (7 * i + 2)))) 12 (upd (w.2 12) (xs (7 * i + 1)).toNatClampNeg (xs (7 * i + 3))))) (cwV 0 hts gL_law_X5_thrown rfl rfl rfl (by decide +kernel) ⟨Nat.le_of_ble_eq_true rfl, Nat.le_of_ble_eq_true rfl⟩) (hK.sub [0, 1] rfl) (pg_PR hP) (pg_DR hD) 0 (ci := 5) rfl rfl rfl rfl hl.1 rfl (Nat.le_of_ble_eq_true rfl) dL_law_441 ⟨hc, hs⟩) hP hD hS hA (fun H locs hP hD hS => ?_)
    have hP : va_P D vwCl (lw_W cI cZ cL a a' o (u.1, pg_row (pg_row u.2 11 (upd (u.2 11) (xs (7 * i + 1)).toNatClampNeg (xs (7 * i + 2)))) 12 (upd (u.2 12) (xs (7 * i + 1)).toNatClampNeg (xs (7 * i + 3)))) (upd w.1 15 0, pg_row (pg_row w.2 11 (upd (w.2 11) (xs (7 * i + 1)).toNatClampNeg (xs (7 * i + 2)))) 12 (upd (w.2 12) (xs (7 * i + 1)).toNatClampNeg (xs (7 * i + 3)))) f) H := hP
    have hD : va_D (fun q : Nat => s.heap.size ≤ q) (lw_W cI cZ cL a a' o (u.1, pg_row (pg_row u.2 11 (upd (u.2 11) (xs (7 * i + 1)).toNatClampNeg (xs (7 * i + 2)))) 12 (upd (u.2 12) (xs (7 * i + 1)).toNatClampNeg (xs (7 * i + 3)))) (upd w.1 15 0, pg_row (pg_row w.2 11 (upd (w.2 11) (xs (7 * i + 1)).toNatClampNeg (xs (7 * i + 2)))) 12 (upd (w.2 12) (xs (7 * i + 1)).toNatClampNeg (xs (7 * i + 3)))) f) := hD
    refine lv_iload hx hb dL_law_444 (lv_at hl 0 rfl) ?_
    refine lv_icmp_eq (tgt := 451) hx hb dL_law_446 (by decide) (fun _ => ?_) (fun h9 => (h9 (rfl)).elim)
    refine lv_goto (tgt := 1307) hx hb dL_law_451 (by decide) ?_
    exact kk H locs ls _ _ _ ⟨_, _, pg_J_setYear hR hthr⟩ hP hD hS (lv_sub hl [1, 2, 3, 4, 5] rfl)
  · refine lv_aload_n hx hb dL_law_394 rfl (lv_at hl 1 rfl) ?_
    refine lv_aload_n hx hb dL_law_395 rfl (lv_at hl 0 rfl) ?_
    refine lv_iload hx hb dL_law_396 (lv_at hl 4 rfl) ?_
    refine lv_iconst (v := 1) hx hb dL_law_398 (by decide) ?_
    refine pg_iaddN (k := 7 * i) (j := 1) hx hb (by decide) dL_law_399 ?_
    refine pg_sld hx hb hX hbl hbA hS (show 7 * i + 1 < L by omega) hL dL_law_400 ?_
    refine lv_aload_n hx hb dL_law_401 rfl (lv_at hl 0 rfl) ?_
    refine lv_iload hx hb dL_law_402 (lv_at hl 4 rfl) ?_
    refine lv_iconst (v := 2) hx hb dL_law_404 (by decide) ?_
    refine pg_iaddN (k := 7 * i) (j := 2) hx hb (by decide) dL_law_405 ?_
    refine pg_sld hx hb hX hbl hbA hS (show 7 * i + 2 < L by omega) hL dL_law_406 ?_
    refine lv_aload_n hx hb dL_law_407 rfl (lv_at hl 0 rfl) ?_
    refine lv_iload hx hb dL_law_408 (lv_at hl 4 rfl) ?_
    refine lv_iconst (v := 3) hx hb dL_law_410 (by decide) ?_
    refine pg_iaddN (k := 7 * i) (j := 3) hx hb (by decide) dL_law_411 ?_
    refine pg_sld hx hb hX hbl hbA hS (show 7 * i + 3 < L by omega) hL dL_law_412 ?_
    refine pg_iL (pg_rSWT (As := [.ref (a 0), .int (xs (7 * i + 1)), .int (xs (7 * i + 2)), .int (xs (7 * i + 3))]) (rest := []) ⟨hx, hb, hml, hown, hts⟩ (cw_setYear_1 l hfl D cI cZ cL a o H.size u f (xs (7 * i + 1)) (xs (7 * i + 2)) (xs (7 * i + 3)) hthr) (vx_cwSW 4 hts gL_law_L_setYear rfl rfl rfl (by decide +kernel) ⟨Nat.le_of_ble_eq_true rfl, Nat.le_of_ble_eq_true rfl⟩) hK (pg_PL hP) (pg_DL hD) hS hA hE rfl hl.1 rfl (Nat.le_of_ble_eq_true rfl) dL_law_413 ⟨hc, hs⟩) hP hD hS hA (fun H locs hP hD hS => ?_)
    have hP : va_P D vwCl (lw_W cI cZ cL a a' o u w f) H := hP
    have hD : va_D (fun q : Nat => s.heap.size ≤ q) (lw_W cI cZ cL a a' o u w f) := hD
    refine lv_istore (lv' := [(5, .int 1), (0, .ref b), (1, .ref (a 0)), (2, .ref (a' 0)), (3, .ref o), (4, .int (nI (7 * i)))]) hx hb dL_law_416 hl (by decide) rfl (fun ls hl => ?_)
    refine lv_aload_n hx hb dL_law_418 rfl (lv_at hl 3 rfl) ?_
    refine lv_aload_n hx hb dL_law_419 rfl (lv_at hl 1 rfl) ?_
    refine lv_iload hx hb dL_law_420 (lv_at hl 5 rfl) ?_
    refine lv_iconst (v := 1) hx hb dL_law_422 (by decide) ?_
    refine pg_iaddN (k := 7 * i) (j := 1) hx hb (by decide) dL_law_423 ?_
    refine pg_sld hx hb hX hbl hbA hS (show 7 * i + 1 < L by omega) hL dL_law_424 ?_
    refine lv_aload_n hx hb dL_law_425 rfl (lv_at hl 1 rfl) ?_
    refine lv_iload hx hb dL_law_426 (lv_at hl 5 rfl) ?_
    refine lv_iconst (v := 2) hx hb dL_law_428 (by decide) ?_
    refine pg_iaddN (k := 7 * i) (j := 2) hx hb (by decide) dL_law_429 ?_
    refine pg_sld hx hb hX hbl hbA hS (show 7 * i + 2 < L by omega) hL dL_law_430 ?_
    refine lv_aload_n hx hb dL_law_431 rfl (lv_at hl 1 rfl) ?_
    refine lv_iload hx hb dL_law_432 (lv_at hl 5 rfl) ?_
    refine lv_iconst (v := 3) hx hb dL_law_434 (by decide) ?_
    refine pg_iaddN (k := 7 * i) (j := 3) hx hb (by decide) dL_law_435 ?_
    refine pg_sld hx hb hX hbl hbA hS (show 7 * i + 3 < L by omega) hL dL_law_436 ?_
    refine pg_vR (pg_rV (As := [.int (xs (7 * i + 1)), .int (xs (7 * i + 2)), .int (xs (7 * i + 3))]) (rest := []) ⟨hx, hb, hml, hown, hts⟩ (cm_setYear_no l D cI cZ a' H.size w (xs (7 * i + 1)) (xs (7 * i + 2)) (xs (7 * i + 3)) 1 (by rw [← hR.cl]; exact hthr) (by decide)) (cwV 3 hts gL_law_X5_setYear rfl rfl rfl (by decide +kernel) ⟨Nat.le_of_ble_eq_true rfl, Nat.le_of_ble_eq_true rfl⟩) (hK.sub [0, 1] rfl) (pg_PR hP) (pg_DR hD) 0 (ci := 5) rfl rfl rfl rfl hl.1 rfl (Nat.le_of_ble_eq_true rfl) dL_law_437 ⟨hc, hs⟩) hP hD hS hA (fun H locs hP hD hS => ?_)
    have hP : va_P D vwCl (lw_W cI cZ cL a a' o u (upd w.1 15 1, w.2) f) H := hP
    have hD : va_D (fun q : Nat => s.heap.size ≤ q) (lw_W cI cZ cL a a' o u (upd w.1 15 1, w.2) f) := hD
    refine lv_aload_n hx hb dL_law_440 rfl (lv_at hl 3 rfl) ?_
    refine pg_iR (pg_rV (As := []) (rest := []) ⟨hx, hb, hml, hown, hts⟩ (cm_thrown l D cI cZ a' H.size (upd w.1 15 1, w.2)) (cwV 0 hts gL_law_X5_thrown rfl rfl rfl (by decide +kernel) ⟨Nat.le_of_ble_eq_true rfl, Nat.le_of_ble_eq_true rfl⟩) (hK.sub [0, 1] rfl) (pg_PR hP) (pg_DR hD) 0 (ci := 5) rfl rfl rfl rfl hl.1 rfl (Nat.le_of_ble_eq_true rfl) dL_law_441 ⟨hc, hs⟩) hP hD hS hA (fun H locs hP hD hS => ?_)
    have hP : va_P D vwCl (lw_W cI cZ cL a a' o u (upd w.1 15 1, w.2) f) H := hP
    have hD : va_D (fun q : Nat => s.heap.size ≤ q) (lw_W cI cZ cL a a' o u (upd w.1 15 1, w.2) f) := hD
    refine lv_iload hx hb dL_law_444 (lv_at hl 0 rfl) ?_
    refine lv_icmp_eq (tgt := 451) hx hb dL_law_446 (by decide) (fun _ => ?_) (fun h9 => (h9 (pg_updk w.1 15 1)).elim)
    refine lv_goto (tgt := 1307) hx hb dL_law_451 (by decide) ?_
    exact kk H locs ls _ _ _ ⟨_, _, hR.thr 1⟩ hP hD hS (lv_sub hl [1, 2, 3, 4, 5] rfl)
  · refine lv_aload_n hx hb dL_law_394 rfl (lv_at hl 1 rfl) ?_
    refine lv_aload_n hx hb dL_law_395 rfl (lv_at hl 0 rfl) ?_
    refine lv_iload hx hb dL_law_396 (lv_at hl 4 rfl) ?_
    refine lv_iconst (v := 1) hx hb dL_law_398 (by decide) ?_
    refine pg_iaddN (k := 7 * i) (j := 1) hx hb (by decide) dL_law_399 ?_
    refine pg_sld hx hb hX hbl hbA hS (show 7 * i + 1 < L by omega) hL dL_law_400 ?_
    refine lv_aload_n hx hb dL_law_401 rfl (lv_at hl 0 rfl) ?_
    refine lv_iload hx hb dL_law_402 (lv_at hl 4 rfl) ?_
    refine lv_iconst (v := 2) hx hb dL_law_404 (by decide) ?_
    refine pg_iaddN (k := 7 * i) (j := 2) hx hb (by decide) dL_law_405 ?_
    refine pg_sld hx hb hX hbl hbA hS (show 7 * i + 2 < L by omega) hL dL_law_406 ?_
    refine lv_aload_n hx hb dL_law_407 rfl (lv_at hl 0 rfl) ?_
    refine lv_iload hx hb dL_law_408 (lv_at hl 4 rfl) ?_
    refine lv_iconst (v := 3) hx hb dL_law_410 (by decide) ?_
    refine pg_iaddN (k := 7 * i) (j := 3) hx hb (by decide) dL_law_411 ?_
    refine pg_sld hx hb hX hbl hbA hS (show 7 * i + 3 < L by omega) hL dL_law_412 ?_
    refine pg_iL (pg_rSWT (As := [.ref (a 0), .int (xs (7 * i + 1)), .int (xs (7 * i + 2)), .int (xs (7 * i + 3))]) (rest := []) ⟨hx, hb, hml, hown, hts⟩ (cw_setYear_2 l hfl D cI cZ cL a o H.size u f (xs (7 * i + 1)) (xs (7 * i + 2)) (xs (7 * i + 3)) hthr) (vx_cwSW 4 hts gL_law_L_setYear rfl rfl rfl (by decide +kernel) ⟨Nat.le_of_ble_eq_true rfl, Nat.le_of_ble_eq_true rfl⟩) hK (pg_PL hP) (pg_DL hD) hS hA hE rfl hl.1 rfl (Nat.le_of_ble_eq_true rfl) dL_law_413 ⟨hc, hs⟩) hP hD hS hA (fun H locs hP hD hS => ?_)
    have hP : va_P D vwCl (lw_W cI cZ cL a a' o u w f) H := hP
    have hD : va_D (fun q : Nat => s.heap.size ≤ q) (lw_W cI cZ cL a a' o u w f) := hD
    refine lv_istore (lv' := [(5, .int 2), (0, .ref b), (1, .ref (a 0)), (2, .ref (a' 0)), (3, .ref o), (4, .int (nI (7 * i)))]) hx hb dL_law_416 hl (by decide) rfl (fun ls hl => ?_)
    refine lv_aload_n hx hb dL_law_418 rfl (lv_at hl 3 rfl) ?_
    refine lv_aload_n hx hb dL_law_419 rfl (lv_at hl 1 rfl) ?_
    refine lv_iload hx hb dL_law_420 (lv_at hl 5 rfl) ?_
    refine lv_iconst (v := 1) hx hb dL_law_422 (by decide) ?_
    refine pg_iaddN (k := 7 * i) (j := 1) hx hb (by decide) dL_law_423 ?_
    refine pg_sld hx hb hX hbl hbA hS (show 7 * i + 1 < L by omega) hL dL_law_424 ?_
    refine lv_aload_n hx hb dL_law_425 rfl (lv_at hl 1 rfl) ?_
    refine lv_iload hx hb dL_law_426 (lv_at hl 5 rfl) ?_
    refine lv_iconst (v := 2) hx hb dL_law_428 (by decide) ?_
    refine pg_iaddN (k := 7 * i) (j := 2) hx hb (by decide) dL_law_429 ?_
    refine pg_sld hx hb hX hbl hbA hS (show 7 * i + 2 < L by omega) hL dL_law_430 ?_
    refine lv_aload_n hx hb dL_law_431 rfl (lv_at hl 1 rfl) ?_
    refine lv_iload hx hb dL_law_432 (lv_at hl 5 rfl) ?_
    refine lv_iconst (v := 3) hx hb dL_law_434 (by decide) ?_
    refine pg_iaddN (k := 7 * i) (j := 3) hx hb (by decide) dL_law_435 ?_
    refine pg_sld hx hb hX hbl hbA hS (show 7 * i + 3 < L by omega) hL dL_law_436 ?_
    refine pg_vR (pg_rV (As := [.int (xs (7 * i + 1)), .int (xs (7 * i + 2)), .int (xs (7 * i + 3))]) (rest := []) ⟨hx, hb, hml, hown, hts⟩ (cm_setYear_no l D cI cZ a' H.size w (xs (7 * i + 1)) (xs (7 * i + 2)) (xs (7 * i + 3)) 2 (by rw [← hR.cl]; exact hthr) (by decide)) (cwV 3 hts gL_law_X5_setYear rfl rfl rfl (by decide +kernel) ⟨Nat.le_of_ble_eq_true rfl, Nat.le_of_ble_eq_true rfl⟩) (hK.sub [0, 1] rfl) (pg_PR hP) (pg_DR hD) 0 (ci := 5) rfl rfl rfl rfl hl.1 rfl (Nat.le_of_ble_eq_true rfl) dL_law_437 ⟨hc, hs⟩) hP hD hS hA (fun H locs hP hD hS => ?_)
    have hP : va_P D vwCl (lw_W cI cZ cL a a' o u (upd w.1 15 2, w.2) f) H := hP
    have hD : va_D (fun q : Nat => s.heap.size ≤ q) (lw_W cI cZ cL a a' o u (upd w.1 15 2, w.2) f) := hD
    refine lv_aload_n hx hb dL_law_440 rfl (lv_at hl 3 rfl) ?_
    refine pg_iR (pg_rV (As := []) (rest := []) ⟨hx, hb, hml, hown, hts⟩ (cm_thrown l D cI cZ a' H.size (upd w.1 15 2, w.2)) (cwV 0 hts gL_law_X5_thrown rfl rfl rfl (by decide +kernel) ⟨Nat.le_of_ble_eq_true rfl, Nat.le_of_ble_eq_true rfl⟩) (hK.sub [0, 1] rfl) (pg_PR hP) (pg_DR hD) 0 (ci := 5) rfl rfl rfl rfl hl.1 rfl (Nat.le_of_ble_eq_true rfl) dL_law_441 ⟨hc, hs⟩) hP hD hS hA (fun H locs hP hD hS => ?_)
    have hP : va_P D vwCl (lw_W cI cZ cL a a' o u (upd w.1 15 2, w.2) f) H := hP
    have hD : va_D (fun q : Nat => s.heap.size ≤ q) (lw_W cI cZ cL a a' o u (upd w.1 15 2, w.2) f) := hD
    refine lv_iload hx hb dL_law_444 (lv_at hl 0 rfl) ?_
    refine lv_icmp_eq (tgt := 451) hx hb dL_law_446 (by decide) (fun _ => ?_) (fun h9 => (h9 (pg_updk w.1 15 2)).elim)
    refine lv_goto (tgt := 1307) hx hb dL_law_451 (by decide) ?_
    exact kk H locs ls _ _ _ ⟨_, _, hR.thr 2⟩ hP hD hS (lv_sub hl [1, 2, 3, 4, 5] rfl)
  · refine lv_aload_n hx hb dL_law_394 rfl (lv_at hl 1 rfl) ?_
    refine lv_aload_n hx hb dL_law_395 rfl (lv_at hl 0 rfl) ?_
    refine lv_iload hx hb dL_law_396 (lv_at hl 4 rfl) ?_
    refine lv_iconst (v := 1) hx hb dL_law_398 (by decide) ?_
    refine pg_iaddN (k := 7 * i) (j := 1) hx hb (by decide) dL_law_399 ?_
    refine pg_sld hx hb hX hbl hbA hS (show 7 * i + 1 < L by omega) hL dL_law_400 ?_
    refine lv_aload_n hx hb dL_law_401 rfl (lv_at hl 0 rfl) ?_
    refine lv_iload hx hb dL_law_402 (lv_at hl 4 rfl) ?_
    refine lv_iconst (v := 2) hx hb dL_law_404 (by decide) ?_
    refine pg_iaddN (k := 7 * i) (j := 2) hx hb (by decide) dL_law_405 ?_
    refine pg_sld hx hb hX hbl hbA hS (show 7 * i + 2 < L by omega) hL dL_law_406 ?_
    refine lv_aload_n hx hb dL_law_407 rfl (lv_at hl 0 rfl) ?_
    refine lv_iload hx hb dL_law_408 (lv_at hl 4 rfl) ?_
    refine lv_iconst (v := 3) hx hb dL_law_410 (by decide) ?_
    refine pg_iaddN (k := 7 * i) (j := 3) hx hb (by decide) dL_law_411 ?_
    refine pg_sld hx hb hX hbl hbA hS (show 7 * i + 3 < L by omega) hL dL_law_412 ?_
    refine pg_iL (pg_rSWT (As := [.ref (a 0), .int (xs (7 * i + 1)), .int (xs (7 * i + 2)), .int (xs (7 * i + 3))]) (rest := []) ⟨hx, hb, hml, hown, hts⟩ (cw_setYear_3 l hfl D cI cZ cL a o H.size u f (xs (7 * i + 1)) (xs (7 * i + 2)) (xs (7 * i + 3)) hthr) (vx_cwSW 4 hts gL_law_L_setYear rfl rfl rfl (by decide +kernel) ⟨Nat.le_of_ble_eq_true rfl, Nat.le_of_ble_eq_true rfl⟩) hK (pg_PL hP) (pg_DL hD) hS hA hE rfl hl.1 rfl (Nat.le_of_ble_eq_true rfl) dL_law_413 ⟨hc, hs⟩) hP hD hS hA (fun H locs hP hD hS => ?_)
    have hP : va_P D vwCl (lw_W cI cZ cL a a' o u w f) H := hP
    have hD : va_D (fun q : Nat => s.heap.size ≤ q) (lw_W cI cZ cL a a' o u w f) := hD
    refine lv_istore (lv' := [(5, .int 3), (0, .ref b), (1, .ref (a 0)), (2, .ref (a' 0)), (3, .ref o), (4, .int (nI (7 * i)))]) hx hb dL_law_416 hl (by decide) rfl (fun ls hl => ?_)
    refine lv_aload_n hx hb dL_law_418 rfl (lv_at hl 3 rfl) ?_
    refine lv_aload_n hx hb dL_law_419 rfl (lv_at hl 1 rfl) ?_
    refine lv_iload hx hb dL_law_420 (lv_at hl 5 rfl) ?_
    refine lv_iconst (v := 1) hx hb dL_law_422 (by decide) ?_
    refine pg_iaddN (k := 7 * i) (j := 1) hx hb (by decide) dL_law_423 ?_
    refine pg_sld hx hb hX hbl hbA hS (show 7 * i + 1 < L by omega) hL dL_law_424 ?_
    refine lv_aload_n hx hb dL_law_425 rfl (lv_at hl 1 rfl) ?_
    refine lv_iload hx hb dL_law_426 (lv_at hl 5 rfl) ?_
    refine lv_iconst (v := 2) hx hb dL_law_428 (by decide) ?_
    refine pg_iaddN (k := 7 * i) (j := 2) hx hb (by decide) dL_law_429 ?_
    refine pg_sld hx hb hX hbl hbA hS (show 7 * i + 2 < L by omega) hL dL_law_430 ?_
    refine lv_aload_n hx hb dL_law_431 rfl (lv_at hl 1 rfl) ?_
    refine lv_iload hx hb dL_law_432 (lv_at hl 5 rfl) ?_
    refine lv_iconst (v := 3) hx hb dL_law_434 (by decide) ?_
    refine pg_iaddN (k := 7 * i) (j := 3) hx hb (by decide) dL_law_435 ?_
    refine pg_sld hx hb hX hbl hbA hS (show 7 * i + 3 < L by omega) hL dL_law_436 ?_
    refine pg_vR (pg_rV (As := [.int (xs (7 * i + 1)), .int (xs (7 * i + 2)), .int (xs (7 * i + 3))]) (rest := []) ⟨hx, hb, hml, hown, hts⟩ (cm_setYear_no l D cI cZ a' H.size w (xs (7 * i + 1)) (xs (7 * i + 2)) (xs (7 * i + 3)) 3 (by rw [← hR.cl]; exact hthr) (by decide)) (cwV 3 hts gL_law_X5_setYear rfl rfl rfl (by decide +kernel) ⟨Nat.le_of_ble_eq_true rfl, Nat.le_of_ble_eq_true rfl⟩) (hK.sub [0, 1] rfl) (pg_PR hP) (pg_DR hD) 0 (ci := 5) rfl rfl rfl rfl hl.1 rfl (Nat.le_of_ble_eq_true rfl) dL_law_437 ⟨hc, hs⟩) hP hD hS hA (fun H locs hP hD hS => ?_)
    have hP : va_P D vwCl (lw_W cI cZ cL a a' o u (upd w.1 15 3, w.2) f) H := hP
    have hD : va_D (fun q : Nat => s.heap.size ≤ q) (lw_W cI cZ cL a a' o u (upd w.1 15 3, w.2) f) := hD
    refine lv_aload_n hx hb dL_law_440 rfl (lv_at hl 3 rfl) ?_
    refine pg_iR (pg_rV (As := []) (rest := []) ⟨hx, hb, hml, hown, hts⟩ (cm_thrown l D cI cZ a' H.size (upd w.1 15 3, w.2)) (cwV 0 hts gL_law_X5_thrown rfl rfl rfl (by decide +kernel) ⟨Nat.le_of_ble_eq_true rfl, Nat.le_of_ble_eq_true rfl⟩) (hK.sub [0, 1] rfl) (pg_PR hP) (pg_DR hD) 0 (ci := 5) rfl rfl rfl rfl hl.1 rfl (Nat.le_of_ble_eq_true rfl) dL_law_441 ⟨hc, hs⟩) hP hD hS hA (fun H locs hP hD hS => ?_)
    have hP : va_P D vwCl (lw_W cI cZ cL a a' o u (upd w.1 15 3, w.2) f) H := hP
    have hD : va_D (fun q : Nat => s.heap.size ≤ q) (lw_W cI cZ cL a a' o u (upd w.1 15 3, w.2) f) := hD
    refine lv_iload hx hb dL_law_444 (lv_at hl 0 rfl) ?_
    refine lv_icmp_eq (tgt := 451) hx hb dL_law_446 (by decide) (fun _ => ?_) (fun h9 => (h9 (pg_updk w.1 15 3)).elim)
    refine lv_goto (tgt := 1307) hx hb dL_law_451 (by decide) ?_
    exact kk H locs ls _ _ _ ⟨_, _, hR.thr 3⟩ hP hD hS (lv_sub hl [1, 2, 3, 4, 5] rfl)
set_option maxHeartbeats 4000000 in
set_option maxRecDepth 100000 in
theorem lc_4 (hfl : l.stackTraces = false) (hL : L ≤ 3584) (C0 : lw_At p s m meth c b L xs) (hK : va_K D vwCl (pg_tyL cI cZ cL) s) (hE : pg_Env (fun q : Nat => s.heap.size ≤ q) s s.heap) (hi : 7 * i + 7 ≤ L) (hc : cells + 1 ≤ 1072) (hs : slots + 6 ≤ 8564) (hI : pg_Inv u w) (hP : va_P D vwCl (lw_W cI cZ cL a a' o u w f) H) (hD : va_D (fun q : Nat => s.heap.size ≤ q) (lw_W cI cZ cL a a' o u w f)) (hS : va_S (fun q : Nat => s.heap.size ≤ q) s.heap H locs) (hl : lv_has ls 7 [(0, .ref b), (1, .ref (a 0)), (2, .ref (a' 0)), (3, .ref o), (4, .int (nI (7 * i)))])
    (kk : ∀ (H : Heap) (locs : List Loc) (ls : Array Slot) (u w : pg_St) (f : Nat → Int64), pg_Inv u w → va_P D vwCl (lw_W cI cZ cL a a' o u w f) H → va_D (fun q : Nat => s.heap.size ≤ q) (lw_W cI cZ cL a a' o u w f) → va_S (fun q : Nat => s.heap.size ≤ q) s.heap H locs → lv_has ls 7 [(0, .ref b), (1, .ref (a 0)), (2, .ref (a' 0)), (3, .ref o), (4, .int (nI (7 * i)))] → W p l e room_1 s m #[Value.ref b] below meth c H locs (cells + 1) (slots + 6) Q (F0 m 1307 ls [])) :
    W p l e room_1 s m #[Value.ref b] below meth c H locs cells slots Q (F0 m 454 ls []) := by
  obtain ⟨hx, hb, hr, hml, hown, hts, hX, hbl, hlocks, hgv⟩ := id C0
  have hts := fun w h => hts w (wsL_law_in w h)
  have hown : s.vm.findClass RL = some m.cls := hown
  have hb : c.code = cL_law := hb
  have hA : ∀ q : Nat, s.heap.size ≤ q → (fun q : Nat => s.heap.size ≤ q) q := fun _ h => h
  have hbA : ¬ (fun q : Nat => s.heap.size ≤ q) b := Nat.not_le.mpr hbl
  have hc0 : cells + 0 ≤ 1072 := by omega
  have hs0 : slots + 0 ≤ 8564 := by omega
  obtain ⟨n, t, hR⟩ := hI
  obtain ⟨-, -, ⟨hn, h20, ht, h4⟩, ⟨-, -, hmet, hzer⟩, -⟩ := id hR
  have hnw : w.1 10 = nI n := (hR.1.1 10 (by decide)).symm.trans hn
  have htw : w.1 13 = nI t := (hR.1.1 13 (by decide)).symm.trans ht
  by_cases hbo : (xs (7 * i + 1)) = 0
  · rcases pg_c_setCarry (!pg_eq (u.1 3) (-1)) with hthr | hthr
    · refine lv_aload_n hx hb dL_law_454 rfl (lv_at hl 1 rfl) ?_
      refine lv_aload_n hx hb dL_law_455 rfl (lv_at hl 0 rfl) ?_
      refine lv_iload hx hb dL_law_456 (lv_at hl 4 rfl) ?_
      refine lv_iconst (v := 1) hx hb dL_law_458 (by decide) ?_
      refine pg_iaddN (k := 7 * i) (j := 1) hx hb (by decide) dL_law_459 ?_
      refine pg_sld hx hb hX hbl hbA hS (show 7 * i + 1 < L by omega) hL dL_law_460 ?_
      refine lv_if_eq (tgt := 468) hx hb dL_law_461 (by decide) (fun _ => ?_) (fun h9 => absurd hbo h9)
      refine lv_iconst (v := 0) hx hb dL_law_468 (by decide) ?_
      refine pg_iL (pg_rSW (As := [.ref (a 0), .int 0]) (rest := []) ⟨hx, hb, hml, hown, hts⟩ (cw_setCarry_ok l D cI cZ cL a o H.size u f 0 (Or.inl rfl) hthr) (vx_cwSW 2 hts gL_law_L_setCarry rfl rfl rfl (by decide +kernel) ⟨Nat.le_of_ble_eq_true rfl, Nat.le_of_ble_eq_true rfl⟩) hK (pg_PL hP) (pg_DL hD) rfl hl.1 rfl (Nat.le_of_ble_eq_true rfl) dL_law_469 ⟨hc0, hs0⟩) hP hD hS hA (fun H locs hP hD hS => ?_)
      have hP : va_P D vwCl (lw_W cI cZ cL a a' o (upd u.1 11 0, u.2) w f) H := hP
      have hD : va_D (fun q : Nat => s.heap.size ≤ q) (lw_W cI cZ cL a a' o (upd u.1 11 0, u.2) w f) := hD
      refine W.widen (k := cells + 1) (n := slots + 6) (by omega) (by omega) ?_
      refine lv_istore (lv' := [(5, .int 0), (0, .ref b), (1, .ref (a 0)), (2, .ref (a' 0)), (3, .ref o), (4, .int (nI (7 * i)))]) hx hb dL_law_472 hl (by decide) rfl (fun ls hl => ?_)
      refine lv_aload_n hx hb dL_law_474 rfl (lv_at hl 3 rfl) ?_
      refine lv_aload_n hx hb dL_law_475 rfl (lv_at hl 1 rfl) ?_
      refine lv_iload hx hb dL_law_476 (lv_at hl 5 rfl) ?_
      refine lv_iconst (v := 1) hx hb dL_law_478 (by decide) ?_
      refine pg_iaddN (k := 7 * i) (j := 1) hx hb (by decide) dL_law_479 ?_
      refine pg_sld hx hb hX hbl hbA hS (show 7 * i + 1 < L by omega) hL dL_law_480 ?_
      refine lv_if_eq (tgt := 488) hx hb dL_law_481 (by decide) (fun _ => ?_) (fun h9 => absurd hbo h9)
      refine lv_iconst (v := 0) hx hb dL_law_488 (by decide) ?_
      refine pg_vR (pg_rV (As := [.int 0]) (rest := []) ⟨hx, hb, hml, hown, hts⟩ (cm_setCarry_ok l D cI cZ a' H.size w 0 (Or.inl rfl) (by rw [← hR.cl]; exact hthr)) (cwV 1 hts gL_law_X5_setCarry rfl rfl rfl (by decide +kernel) ⟨Nat.le_of_ble_eq_true rfl, Nat.le_of_ble_eq_true rfl⟩) (hK.sub [0, 1] rfl) (pg_PR hP) (pg_DR hD) 0 (ci := 5) rfl rfl rfl rfl hl.1 rfl (Nat.le_of_ble_eq_true rfl) dL_law_489 ⟨hc, hs⟩) hP hD hS hA (fun H locs hP hD hS => ?_)
      have hP : va_P D vwCl (lw_W cI cZ cL a a' o (upd u.1 11 0, u.2) (upd (upd w.1 15 0) 11 0, w.2) f) H := hP
      have hD : va_D (fun q : Nat => s.heap.size ≤ q) (lw_W cI cZ cL a a' o (upd u.1 11 0, u.2) (upd (upd w.1 15 0) 11 0, w.2) f) := hD
      refine lv_aload_n hx hb dL_law_492 rfl (lv_at hl 3 rfl) ?_
      refine pg_iR (pg_rV (As := []) (rest := []) ⟨hx, hb, hml, hown, hts⟩ (cm_thrown l D cI cZ a' H.size (upd (upd w.1 15 0) 11 0, w.2)) (cwV 0 hts gL_law_X5_thrown rfl rfl rfl (by decide +kernel) ⟨Nat.le_of_ble_eq_true rfl, Nat.le_of_ble_eq_true rfl⟩) (hK.sub [0, 1] rfl) (pg_PR hP) (pg_DR hD) 0 (ci := 5) rfl rfl rfl rfl hl.1 rfl (Nat.le_of_ble_eq_true rfl) dL_law_493 ⟨hc, hs⟩) hP hD hS hA (fun H locs hP hD hS => ?_)
      have hP : va_P D vwCl (lw_W cI cZ cL a a' o (upd u.1 11 0, u.2) (upd (upd w.1 15 0) 11 0, w.2) f) H := hP
      have hD : va_D (fun q : Nat => s.heap.size ≤ q) (lw_W cI cZ cL a a' o (upd u.1 11 0, u.2) (upd (upd w.1 15 0) 11 0, w.2) f) := hD
      refine lv_iload hx hb dL_law_496 (lv_at hl 0 rfl) ?_
      refine lv_icmp_eq (tgt := 503) hx hb dL_law_498 (by decide) (fun _ => ?_) (fun h9 => (h9 (rfl)).elim)
      refine lv_goto (tgt := 1307) hx hb dL_law_503 (by decide) ?_
      exact kk H locs ls _ _ _ ⟨_, _, pg_I_setCarry hR 0⟩ hP hD hS (lv_sub hl [1, 2, 3, 4, 5] rfl)
    · refine lv_aload_n hx hb dL_law_454 rfl (lv_at hl 1 rfl) ?_
      refine lv_aload_n hx hb dL_law_455 rfl (lv_at hl 0 rfl) ?_
      refine lv_iload hx hb dL_law_456 (lv_at hl 4 rfl) ?_
      refine lv_iconst (v := 1) hx hb dL_law_458 (by decide) ?_
      refine pg_iaddN (k := 7 * i) (j := 1) hx hb (by decide) dL_law_459 ?_
      refine pg_sld hx hb hX hbl hbA hS (show 7 * i + 1 < L by omega) hL dL_law_460 ?_
      refine lv_if_eq (tgt := 468) hx hb dL_law_461 (by decide) (fun _ => ?_) (fun h9 => absurd hbo h9)
      refine lv_iconst (v := 0) hx hb dL_law_468 (by decide) ?_
      refine pg_iL (pg_rSWT (As := [.ref (a 0), .int 0]) (rest := []) ⟨hx, hb, hml, hown, hts⟩ (cw_setCarry_1 l hfl D cI cZ cL a o H.size u f 0 (Or.inl rfl) hthr) (vx_cwSW 2 hts gL_law_L_setCarry rfl rfl rfl (by decide +kernel) ⟨Nat.le_of_ble_eq_true rfl, Nat.le_of_ble_eq_true rfl⟩) hK (pg_PL hP) (pg_DL hD) hS hA hE rfl hl.1 rfl (Nat.le_of_ble_eq_true rfl) dL_law_469 ⟨hc, hs⟩) hP hD hS hA (fun H locs hP hD hS => ?_)
      have hP : va_P D vwCl (lw_W cI cZ cL a a' o u w f) H := hP
      have hD : va_D (fun q : Nat => s.heap.size ≤ q) (lw_W cI cZ cL a a' o u w f) := hD
      refine lv_istore (lv' := [(5, .int 1), (0, .ref b), (1, .ref (a 0)), (2, .ref (a' 0)), (3, .ref o), (4, .int (nI (7 * i)))]) hx hb dL_law_472 hl (by decide) rfl (fun ls hl => ?_)
      refine lv_aload_n hx hb dL_law_474 rfl (lv_at hl 3 rfl) ?_
      refine lv_aload_n hx hb dL_law_475 rfl (lv_at hl 1 rfl) ?_
      refine lv_iload hx hb dL_law_476 (lv_at hl 5 rfl) ?_
      refine lv_iconst (v := 1) hx hb dL_law_478 (by decide) ?_
      refine pg_iaddN (k := 7 * i) (j := 1) hx hb (by decide) dL_law_479 ?_
      refine pg_sld hx hb hX hbl hbA hS (show 7 * i + 1 < L by omega) hL dL_law_480 ?_
      refine lv_if_eq (tgt := 488) hx hb dL_law_481 (by decide) (fun _ => ?_) (fun h9 => absurd hbo h9)
      refine lv_iconst (v := 0) hx hb dL_law_488 (by decide) ?_
      refine pg_vR (pg_rV (As := [.int 0]) (rest := []) ⟨hx, hb, hml, hown, hts⟩ (cm_setCarry_no l D cI cZ a' H.size w 0 (Or.inl rfl) 1 (by rw [← hR.cl]; exact hthr) (by decide)) (cwV 1 hts gL_law_X5_setCarry rfl rfl rfl (by decide +kernel) ⟨Nat.le_of_ble_eq_true rfl, Nat.le_of_ble_eq_true rfl⟩) (hK.sub [0, 1] rfl) (pg_PR hP) (pg_DR hD) 0 (ci := 5) rfl rfl rfl rfl hl.1 rfl (Nat.le_of_ble_eq_true rfl) dL_law_489 ⟨hc, hs⟩) hP hD hS hA (fun H locs hP hD hS => ?_)
      have hP : va_P D vwCl (lw_W cI cZ cL a a' o u (upd w.1 15 1, w.2) f) H := hP
      have hD : va_D (fun q : Nat => s.heap.size ≤ q) (lw_W cI cZ cL a a' o u (upd w.1 15 1, w.2) f) := hD
      refine lv_aload_n hx hb dL_law_492 rfl (lv_at hl 3 rfl) ?_
      refine pg_iR (pg_rV (As := []) (rest := []) ⟨hx, hb, hml, hown, hts⟩ (cm_thrown l D cI cZ a' H.size (upd w.1 15 1, w.2)) (cwV 0 hts gL_law_X5_thrown rfl rfl rfl (by decide +kernel) ⟨Nat.le_of_ble_eq_true rfl, Nat.le_of_ble_eq_true rfl⟩) (hK.sub [0, 1] rfl) (pg_PR hP) (pg_DR hD) 0 (ci := 5) rfl rfl rfl rfl hl.1 rfl (Nat.le_of_ble_eq_true rfl) dL_law_493 ⟨hc, hs⟩) hP hD hS hA (fun H locs hP hD hS => ?_)
      have hP : va_P D vwCl (lw_W cI cZ cL a a' o u (upd w.1 15 1, w.2) f) H := hP
      have hD : va_D (fun q : Nat => s.heap.size ≤ q) (lw_W cI cZ cL a a' o u (upd w.1 15 1, w.2) f) := hD
      refine lv_iload hx hb dL_law_496 (lv_at hl 0 rfl) ?_
      refine lv_icmp_eq (tgt := 503) hx hb dL_law_498 (by decide) (fun _ => ?_) (fun h9 => (h9 (pg_updk w.1 15 1)).elim)
      refine lv_goto (tgt := 1307) hx hb dL_law_503 (by decide) ?_
      exact kk H locs ls _ _ _ ⟨_, _, hR.thr 1⟩ hP hD hS (lv_sub hl [1, 2, 3, 4, 5] rfl)
  · rcases pg_c_setCarry (!pg_eq (u.1 3) (-1)) with hthr | hthr
    · refine lv_aload_n hx hb dL_law_454 rfl (lv_at hl 1 rfl) ?_
      refine lv_aload_n hx hb dL_law_455 rfl (lv_at hl 0 rfl) ?_
      refine lv_iload hx hb dL_law_456 (lv_at hl 4 rfl) ?_
      refine lv_iconst (v := 1) hx hb dL_law_458 (by decide) ?_
      refine pg_iaddN (k := 7 * i) (j := 1) hx hb (by decide) dL_law_459 ?_
      refine pg_sld hx hb hX hbl hbA hS (show 7 * i + 1 < L by omega) hL dL_law_460 ?_
      refine lv_if_eq (tgt := 468) hx hb dL_law_461 (by decide) (fun h9 => absurd h9 hbo) (fun _ => ?_)
      refine lv_iconst (v := 1) hx hb dL_law_464 (by decide) ?_
      refine lv_goto (tgt := 469) hx hb dL_law_465 (by decide) ?_
      refine pg_iL (pg_rSW (As := [.ref (a 0), .int 1]) (rest := []) ⟨hx, hb, hml, hown, hts⟩ (cw_setCarry_ok l D cI cZ cL a o H.size u f 1 (Or.inr rfl) hthr) (vx_cwSW 2 hts gL_law_L_setCarry rfl rfl rfl (by decide +kernel) ⟨Nat.le_of_ble_eq_true rfl, Nat.le_of_ble_eq_true rfl⟩) hK (pg_PL hP) (pg_DL hD) rfl hl.1 rfl (Nat.le_of_ble_eq_true rfl) dL_law_469 ⟨hc0, hs0⟩) hP hD hS hA (fun H locs hP hD hS => ?_)
      have hP : va_P D vwCl (lw_W cI cZ cL a a' o (upd u.1 11 1, u.2) w f) H := hP
      have hD : va_D (fun q : Nat => s.heap.size ≤ q) (lw_W cI cZ cL a a' o (upd u.1 11 1, u.2) w f) := hD
      refine W.widen (k := cells + 1) (n := slots + 6) (by omega) (by omega) ?_
      refine lv_istore (lv' := [(5, .int 0), (0, .ref b), (1, .ref (a 0)), (2, .ref (a' 0)), (3, .ref o), (4, .int (nI (7 * i)))]) hx hb dL_law_472 hl (by decide) rfl (fun ls hl => ?_)
      refine lv_aload_n hx hb dL_law_474 rfl (lv_at hl 3 rfl) ?_
      refine lv_aload_n hx hb dL_law_475 rfl (lv_at hl 1 rfl) ?_
      refine lv_iload hx hb dL_law_476 (lv_at hl 5 rfl) ?_
      refine lv_iconst (v := 1) hx hb dL_law_478 (by decide) ?_
      refine pg_iaddN (k := 7 * i) (j := 1) hx hb (by decide) dL_law_479 ?_
      refine pg_sld hx hb hX hbl hbA hS (show 7 * i + 1 < L by omega) hL dL_law_480 ?_
      refine lv_if_eq (tgt := 488) hx hb dL_law_481 (by decide) (fun h9 => absurd h9 hbo) (fun _ => ?_)
      refine lv_iconst (v := 1) hx hb dL_law_484 (by decide) ?_
      refine lv_goto (tgt := 489) hx hb dL_law_485 (by decide) ?_
      refine pg_vR (pg_rV (As := [.int 1]) (rest := []) ⟨hx, hb, hml, hown, hts⟩ (cm_setCarry_ok l D cI cZ a' H.size w 1 (Or.inr rfl) (by rw [← hR.cl]; exact hthr)) (cwV 1 hts gL_law_X5_setCarry rfl rfl rfl (by decide +kernel) ⟨Nat.le_of_ble_eq_true rfl, Nat.le_of_ble_eq_true rfl⟩) (hK.sub [0, 1] rfl) (pg_PR hP) (pg_DR hD) 0 (ci := 5) rfl rfl rfl rfl hl.1 rfl (Nat.le_of_ble_eq_true rfl) dL_law_489 ⟨hc, hs⟩) hP hD hS hA (fun H locs hP hD hS => ?_)
      have hP : va_P D vwCl (lw_W cI cZ cL a a' o (upd u.1 11 1, u.2) (upd (upd w.1 15 0) 11 1, w.2) f) H := hP
      have hD : va_D (fun q : Nat => s.heap.size ≤ q) (lw_W cI cZ cL a a' o (upd u.1 11 1, u.2) (upd (upd w.1 15 0) 11 1, w.2) f) := hD
      refine lv_aload_n hx hb dL_law_492 rfl (lv_at hl 3 rfl) ?_
      refine pg_iR (pg_rV (As := []) (rest := []) ⟨hx, hb, hml, hown, hts⟩ (cm_thrown l D cI cZ a' H.size (upd (upd w.1 15 0) 11 1, w.2)) (cwV 0 hts gL_law_X5_thrown rfl rfl rfl (by decide +kernel) ⟨Nat.le_of_ble_eq_true rfl, Nat.le_of_ble_eq_true rfl⟩) (hK.sub [0, 1] rfl) (pg_PR hP) (pg_DR hD) 0 (ci := 5) rfl rfl rfl rfl hl.1 rfl (Nat.le_of_ble_eq_true rfl) dL_law_493 ⟨hc, hs⟩) hP hD hS hA (fun H locs hP hD hS => ?_)
      have hP : va_P D vwCl (lw_W cI cZ cL a a' o (upd u.1 11 1, u.2) (upd (upd w.1 15 0) 11 1, w.2) f) H := hP
      have hD : va_D (fun q : Nat => s.heap.size ≤ q) (lw_W cI cZ cL a a' o (upd u.1 11 1, u.2) (upd (upd w.1 15 0) 11 1, w.2) f) := hD
      refine lv_iload hx hb dL_law_496 (lv_at hl 0 rfl) ?_
      refine lv_icmp_eq (tgt := 503) hx hb dL_law_498 (by decide) (fun _ => ?_) (fun h9 => (h9 (rfl)).elim)
      refine lv_goto (tgt := 1307) hx hb dL_law_503 (by decide) ?_
      exact kk H locs ls _ _ _ ⟨_, _, pg_I_setCarry hR 1⟩ hP hD hS (lv_sub hl [1, 2, 3, 4, 5] rfl)
    · refine lv_aload_n hx hb dL_law_454 rfl (lv_at hl 1 rfl) ?_
      refine lv_aload_n hx hb dL_law_455 rfl (lv_at hl 0 rfl) ?_
      refine lv_iload hx hb dL_law_456 (lv_at hl 4 rfl) ?_
      refine lv_iconst (v := 1) hx hb dL_law_458 (by decide) ?_
      refine pg_iaddN (k := 7 * i) (j := 1) hx hb (by decide) dL_law_459 ?_
      refine pg_sld hx hb hX hbl hbA hS (show 7 * i + 1 < L by omega) hL dL_law_460 ?_
      refine lv_if_eq (tgt := 468) hx hb dL_law_461 (by decide) (fun h9 => absurd h9 hbo) (fun _ => ?_)
      refine lv_iconst (v := 1) hx hb dL_law_464 (by decide) ?_
      refine lv_goto (tgt := 469) hx hb dL_law_465 (by decide) ?_
      refine pg_iL (pg_rSWT (As := [.ref (a 0), .int 1]) (rest := []) ⟨hx, hb, hml, hown, hts⟩ (cw_setCarry_1 l hfl D cI cZ cL a o H.size u f 1 (Or.inr rfl) hthr) (vx_cwSW 2 hts gL_law_L_setCarry rfl rfl rfl (by decide +kernel) ⟨Nat.le_of_ble_eq_true rfl, Nat.le_of_ble_eq_true rfl⟩) hK (pg_PL hP) (pg_DL hD) hS hA hE rfl hl.1 rfl (Nat.le_of_ble_eq_true rfl) dL_law_469 ⟨hc, hs⟩) hP hD hS hA (fun H locs hP hD hS => ?_)
      have hP : va_P D vwCl (lw_W cI cZ cL a a' o u w f) H := hP
      have hD : va_D (fun q : Nat => s.heap.size ≤ q) (lw_W cI cZ cL a a' o u w f) := hD
      refine lv_istore (lv' := [(5, .int 1), (0, .ref b), (1, .ref (a 0)), (2, .ref (a' 0)), (3, .ref o), (4, .int (nI (7 * i)))]) hx hb dL_law_472 hl (by decide) rfl (fun ls hl => ?_)
      refine lv_aload_n hx hb dL_law_474 rfl (lv_at hl 3 rfl) ?_
      refine lv_aload_n hx hb dL_law_475 rfl (lv_at hl 1 rfl) ?_
      refine lv_iload hx hb dL_law_476 (lv_at hl 5 rfl) ?_
      refine lv_iconst (v := 1) hx hb dL_law_478 (by decide) ?_
      refine pg_iaddN (k := 7 * i) (j := 1) hx hb (by decide) dL_law_479 ?_
      refine pg_sld hx hb hX hbl hbA hS (show 7 * i + 1 < L by omega) hL dL_law_480 ?_
      refine lv_if_eq (tgt := 488) hx hb dL_law_481 (by decide) (fun h9 => absurd h9 hbo) (fun _ => ?_)
      refine lv_iconst (v := 1) hx hb dL_law_484 (by decide) ?_
      refine lv_goto (tgt := 489) hx hb dL_law_485 (by decide) ?_
      refine pg_vR (pg_rV (As := [.int 1]) (rest := []) ⟨hx, hb, hml, hown, hts⟩ (cm_setCarry_no l D cI cZ a' H.size w 1 (Or.inr rfl) 1 (by rw [← hR.cl]; exact hthr) (by decide)) (cwV 1 hts gL_law_X5_setCarry rfl rfl rfl (by decide +kernel) ⟨Nat.le_of_ble_eq_true rfl, Nat.le_of_ble_eq_true rfl⟩) (hK.sub [0, 1] rfl) (pg_PR hP) (pg_DR hD) 0 (ci := 5) rfl rfl rfl rfl hl.1 rfl (Nat.le_of_ble_eq_true rfl) dL_law_489 ⟨hc, hs⟩) hP hD hS hA (fun H locs hP hD hS => ?_)
      have hP : va_P D vwCl (lw_W cI cZ cL a a' o u (upd w.1 15 1, w.2) f) H := hP
      have hD : va_D (fun q : Nat => s.heap.size ≤ q) (lw_W cI cZ cL a a' o u (upd w.1 15 1, w.2) f) := hD
      refine lv_aload_n hx hb dL_law_492 rfl (lv_at hl 3 rfl) ?_
      refine pg_iR (pg_rV (As := []) (rest := []) ⟨hx, hb, hml, hown, hts⟩ (cm_thrown l D cI cZ a' H.size (upd w.1 15 1, w.2)) (cwV 0 hts gL_law_X5_thrown rfl rfl rfl (by decide +kernel) ⟨Nat.le_of_ble_eq_true rfl, Nat.le_of_ble_eq_true rfl⟩) (hK.sub [0, 1] rfl) (pg_PR hP) (pg_DR hD) 0 (ci := 5) rfl rfl rfl rfl hl.1 rfl (Nat.le_of_ble_eq_true rfl) dL_law_493 ⟨hc, hs⟩) hP hD hS hA (fun H locs hP hD hS => ?_)
      have hP : va_P D vwCl (lw_W cI cZ cL a a' o u (upd w.1 15 1, w.2) f) H := hP
      have hD : va_D (fun q : Nat => s.heap.size ≤ q) (lw_W cI cZ cL a a' o u (upd w.1 15 1, w.2) f) := hD
      refine lv_iload hx hb dL_law_496 (lv_at hl 0 rfl) ?_
      refine lv_icmp_eq (tgt := 503) hx hb dL_law_498 (by decide) (fun _ => ?_) (fun h9 => (h9 (pg_updk w.1 15 1)).elim)
      refine lv_goto (tgt := 1307) hx hb dL_law_503 (by decide) ?_
      exact kk H locs ls _ _ _ ⟨_, _, hR.thr 1⟩ hP hD hS (lv_sub hl [1, 2, 3, 4, 5] rfl)
set_option maxHeartbeats 4000000 in
set_option maxRecDepth 100000 in
theorem lc_5 (hfl : l.stackTraces = false) (hL : L ≤ 3584) (C0 : lw_At p s m meth c b L xs) (hK : va_K D vwCl (pg_tyL cI cZ cL) s) (hE : pg_Env (fun q : Nat => s.heap.size ≤ q) s s.heap) (hi : 7 * i + 7 ≤ L) (hc : cells + 1 ≤ 1072) (hs : slots + 6 ≤ 8564) (hI : pg_Inv u w) (hP : va_P D vwCl (lw_W cI cZ cL a a' o u w f) H) (hD : va_D (fun q : Nat => s.heap.size ≤ q) (lw_W cI cZ cL a a' o u w f)) (hS : va_S (fun q : Nat => s.heap.size ≤ q) s.heap H locs) (hl : lv_has ls 7 [(0, .ref b), (1, .ref (a 0)), (2, .ref (a' 0)), (3, .ref o), (4, .int (nI (7 * i)))])
    (kk : ∀ (H : Heap) (locs : List Loc) (ls : Array Slot) (u w : pg_St) (f : Nat → Int64), pg_Inv u w → va_P D vwCl (lw_W cI cZ cL a a' o u w f) H → va_D (fun q : Nat => s.heap.size ≤ q) (lw_W cI cZ cL a a' o u w f) → va_S (fun q : Nat => s.heap.size ≤ q) s.heap H locs → lv_has ls 7 [(0, .ref b), (1, .ref (a 0)), (2, .ref (a' 0)), (3, .ref o), (4, .int (nI (7 * i)))] → W p l e room_1 s m #[Value.ref b] below meth c H locs (cells + 1) (slots + 6) Q (F0 m 1307 ls [])) :
    W p l e room_1 s m #[Value.ref b] below meth c H locs cells slots Q (F0 m 506 ls []) := by
  obtain ⟨hx, hb, hr, hml, hown, hts, hX, hbl, hlocks, hgv⟩ := id C0
  have hts := fun w h => hts w (wsL_law_in w h)
  have hown : s.vm.findClass RL = some m.cls := hown
  have hb : c.code = cL_law := hb
  have hA : ∀ q : Nat, s.heap.size ≤ q → (fun q : Nat => s.heap.size ≤ q) q := fun _ h => h
  have hbA : ¬ (fun q : Nat => s.heap.size ≤ q) b := Nat.not_le.mpr hbl
  have hc0 : cells + 0 ≤ 1072 := by omega
  have hs0 : slots + 0 ≤ 8564 := by omega
  obtain ⟨n, t, hR⟩ := hI
  obtain ⟨-, -, ⟨hn, h20, ht, h4⟩, ⟨-, -, hmet, hzer⟩, -⟩ := id hR
  have hnw : w.1 10 = nI n := (hR.1.1 10 (by decide)).symm.trans hn
  have htw : w.1 13 = nI t := (hR.1.1 13 (by decide)).symm.trans ht
  rcases pg_c_close (!pg_eq (u.1 3) (-1)) (xs (7 * i + 1)) (xs (7 * i + 2)) (xs (7 * i + 3)) with hthr | hthr | hthr
  · refine lv_aload_n hx hb dL_law_506 rfl (lv_at hl 1 rfl) ?_
    refine lv_aload_n hx hb dL_law_507 rfl (lv_at hl 0 rfl) ?_
    refine lv_iload hx hb dL_law_508 (lv_at hl 4 rfl) ?_
    refine lv_iconst (v := 1) hx hb dL_law_510 (by decide) ?_
    refine pg_iaddN (k := 7 * i) (j := 1) hx hb (by decide) dL_law_511 ?_
    refine pg_sld hx hb hX hbl hbA hS (show 7 * i + 1 < L by omega) hL dL_law_512 ?_
    refine lv_aload_n hx hb dL_law_513 rfl (lv_at hl 0 rfl) ?_
    refine lv_iload hx hb dL_law_514 (lv_at hl 4 rfl) ?_
    refine lv_iconst (v := 2) hx hb dL_law_516 (by decide) ?_
    refine pg_iaddN (k := 7 * i) (j := 2) hx hb (by decide) dL_law_517 ?_
    refine pg_sld hx hb hX hbl hbA hS (show 7 * i + 2 < L by omega) hL dL_law_518 ?_
    refine lv_aload_n hx hb dL_law_519 rfl (lv_at hl 0 rfl) ?_
    refine lv_iload hx hb dL_law_520 (lv_at hl 4 rfl) ?_
    refine lv_iconst (v := 3) hx hb dL_law_522 (by decide) ?_
    refine pg_iaddN (k := 7 * i) (j := 3) hx hb (by decide) dL_law_523 ?_
    refine pg_sld hx hb hX hbl hbA hS (show 7 * i + 3 < L by omega) hL dL_law_524 ?_
    refine lv_aload_n hx hb dL_law_525 rfl (lv_at hl 3 rfl) ?_
    refine pg_iL (pg_rSW (As := [.ref (a 0), .int (xs (7 * i + 1)), .int (xs (7 * i + 2)), .int (xs (7 * i + 3)), .ref o]) (rest := []) ⟨hx, hb, hml, hown, hts⟩ (cw_close_ok l D cI cZ cL a o H.size u f (xs (7 * i + 1)) (xs (7 * i + 2)) (xs (7 * i + 3)) hthr) (vx_cwSW 5 hts gL_law_L_close rfl rfl rfl (by decide +kernel) ⟨Nat.le_of_ble_eq_true rfl, Nat.le_of_ble_eq_true rfl⟩) hK (pg_PL hP) (pg_DL hD) rfl hl.1 rfl (Nat.le_of_ble_eq_true rfl) dL_law_526 ⟨hc0, hs0⟩) hP hD hS hA (fun H locs hP hD hS => ?_)
    have hP : va_P D vwCl (lw_W cI cZ cL a a' o (pg_close u (xs (7 * i + 1)) (xs (7 * i + 2)) (xs (7 * i + 3))) w (vp_updL f 0 (pg_fin u (xs (7 * i + 1)) (xs (7 * i + 2)) (xs (7 * i + 3))).toInt64)) H := hP
    have hD : va_D (fun q : Nat => s.heap.size ≤ q) (lw_W cI cZ cL a a' o (pg_close u (xs (7 * i + 1)) (xs (7 * i + 2)) (xs (7 * i + 3))) w (vp_updL f 0 (pg_fin u (xs (7 * i + 1)) (xs (7 * i + 2)) (xs (7 * i + 3))).toInt64)) := hD
    refine W.widen (k := cells + 1) (n := slots + 6) (by omega) (by omega) ?_
    refine lv_istore (lv' := [(5, .int 0), (0, .ref b), (1, .ref (a 0)), (2, .ref (a' 0)), (3, .ref o), (4, .int (nI (7 * i)))]) hx hb dL_law_529 hl (by decide) rfl (fun ls hl => ?_)
    refine lv_aload_n hx hb dL_law_531 rfl (lv_at hl 3 rfl) ?_
    refine lv_aload_n hx hb dL_law_532 rfl (lv_at hl 1 rfl) ?_
    refine lv_iload hx hb dL_law_533 (lv_at hl 5 rfl) ?_
    refine lv_iconst (v := 1) hx hb dL_law_535 (by decide) ?_
    refine pg_iaddN (k := 7 * i) (j := 1) hx hb (by decide) dL_law_536 ?_
    refine pg_sld hx hb hX hbl hbA hS (show 7 * i + 1 < L by omega) hL dL_law_537 ?_
    refine lv_aload_n hx hb dL_law_538 rfl (lv_at hl 1 rfl) ?_
    refine lv_iload hx hb dL_law_539 (lv_at hl 5 rfl) ?_
    refine lv_iconst (v := 2) hx hb dL_law_541 (by decide) ?_
    refine pg_iaddN (k := 7 * i) (j := 2) hx hb (by decide) dL_law_542 ?_
    refine pg_sld hx hb hX hbl hbA hS (show 7 * i + 2 < L by omega) hL dL_law_543 ?_
    refine lv_aload_n hx hb dL_law_544 rfl (lv_at hl 1 rfl) ?_
    refine lv_iload hx hb dL_law_545 (lv_at hl 5 rfl) ?_
    refine lv_iconst (v := 3) hx hb dL_law_547 (by decide) ?_
    refine pg_iaddN (k := 7 * i) (j := 3) hx hb (by decide) dL_law_548 ?_
    refine pg_sld hx hb hX hbl hbA hS (show 7 * i + 3 < L by omega) hL dL_law_549 ?_
    refine pg_iR (pg_rV (As := [.int (xs (7 * i + 1)), .int (xs (7 * i + 2)), .int (xs (7 * i + 3))]) (rest := []) ⟨hx, hb, hml, hown, hts⟩ (cm_close_ok l D cI cZ a' H.size w (xs (7 * i + 1)) (xs (7 * i + 2)) (xs (7 * i + 3)) (by rw [← hR.cl]; exact hthr)) (cwV 3 hts gL_law_X5_close rfl rfl rfl (by decide +kernel) ⟨Nat.le_of_ble_eq_true rfl, Nat.le_of_ble_eq_true rfl⟩) (hK.sub [0, 1] rfl) (pg_PR hP) (pg_DR hD) 0 (ci := 5) rfl rfl rfl rfl hl.1 rfl (Nat.le_of_ble_eq_true rfl) dL_law_550 ⟨hc, hs⟩) hP hD hS hA (fun H locs hP hD hS => ?_)
    have hP : va_P D vwCl (lw_W cI cZ cL a a' o (pg_close u (xs (7 * i + 1)) (xs (7 * i + 2)) (xs (7 * i + 3))) (upd (upd (upd (upd (upd w.1 15 0) 4 (pg_fin w (xs (7 * i + 1)) (xs (7 * i + 2)) (xs (7 * i + 3)))) 5 (pg_hold w (xs (7 * i + 1)) (xs (7 * i + 2)) (xs (7 * i + 3)))) 6 (pg_fin w (xs (7 * i + 1)) (xs (7 * i + 2)) (xs (7 * i + 3)) - pg_hold w (xs (7 * i + 1)) (xs (7 * i + 2)) (xs (7 * i + 3)))) 14 1, w.2) (vp_updL f 0 (pg_fin u (xs (7 * i + 1)) (xs (7 * i + 2)) (xs (7 * i + 3))).toInt64)) H := hP
    have hD : va_D (fun q : Nat => s.heap.size ≤ q) (lw_W cI cZ cL a a' o (pg_close u (xs (7 * i + 1)) (xs (7 * i + 2)) (xs (7 * i + 3))) (upd (upd (upd (upd (upd w.1 15 0) 4 (pg_fin w (xs (7 * i + 1)) (xs (7 * i + 2)) (xs (7 * i + 3)))) 5 (pg_hold w (xs (7 * i + 1)) (xs (7 * i + 2)) (xs (7 * i + 3)))) 6 (pg_fin w (xs (7 * i + 1)) (xs (7 * i + 2)) (xs (7 * i + 3)) - pg_hold w (xs (7 * i + 1)) (xs (7 * i + 2)) (xs (7 * i + 3)))) 14 1, w.2) (vp_updL f 0 (pg_fin u (xs (7 * i + 1)) (xs (7 * i + 2)) (xs (7 * i + 3))).toInt64)) := hD
    refine lv_istore (lv' := [(6, .int (pg_fin w (xs (7 * i + 1)) (xs (7 * i + 2)) (xs (7 * i + 3)))), (5, .int 0), (0, .ref b), (1, .ref (a 0)), (2, .ref (a' 0)), (3, .ref o), (4, .int (nI (7 * i)))]) hx hb dL_law_553 hl (by decide) rfl (fun ls hl => ?_)
    refine lv_aload_n hx hb dL_law_555 rfl (lv_at hl 4 rfl) ?_
    refine pg_iR (pg_rV (As := []) (rest := []) ⟨hx, hb, hml, hown, hts⟩ (cm_thrown l D cI cZ a' H.size (upd (upd (upd (upd (upd w.1 15 0) 4 (pg_fin w (xs (7 * i + 1)) (xs (7 * i + 2)) (xs (7 * i + 3)))) 5 (pg_hold w (xs (7 * i + 1)) (xs (7 * i + 2)) (xs (7 * i + 3)))) 6 (pg_fin w (xs (7 * i + 1)) (xs (7 * i + 2)) (xs (7 * i + 3)) - pg_hold w (xs (7 * i + 1)) (xs (7 * i + 2)) (xs (7 * i + 3)))) 14 1, w.2)) (cwV 0 hts gL_law_X5_thrown rfl rfl rfl (by decide +kernel) ⟨Nat.le_of_ble_eq_true rfl, Nat.le_of_ble_eq_true rfl⟩) (hK.sub [0, 1] rfl) (pg_PR hP) (pg_DR hD) 0 (ci := 5) rfl rfl rfl rfl hl.1 rfl (Nat.le_of_ble_eq_true rfl) dL_law_556 ⟨hc, hs⟩) hP hD hS hA (fun H locs hP hD hS => ?_)
    have hP : va_P D vwCl (lw_W cI cZ cL a a' o (pg_close u (xs (7 * i + 1)) (xs (7 * i + 2)) (xs (7 * i + 3))) (upd (upd (upd (upd (upd w.1 15 0) 4 (pg_fin w (xs (7 * i + 1)) (xs (7 * i + 2)) (xs (7 * i + 3)))) 5 (pg_hold w (xs (7 * i + 1)) (xs (7 * i + 2)) (xs (7 * i + 3)))) 6 (pg_fin w (xs (7 * i + 1)) (xs (7 * i + 2)) (xs (7 * i + 3)) - pg_hold w (xs (7 * i + 1)) (xs (7 * i + 2)) (xs (7 * i + 3)))) 14 1, w.2) (vp_updL f 0 (pg_fin u (xs (7 * i + 1)) (xs (7 * i + 2)) (xs (7 * i + 3))).toInt64)) H := hP
    have hD : va_D (fun q : Nat => s.heap.size ≤ q) (lw_W cI cZ cL a a' o (pg_close u (xs (7 * i + 1)) (xs (7 * i + 2)) (xs (7 * i + 3))) (upd (upd (upd (upd (upd w.1 15 0) 4 (pg_fin w (xs (7 * i + 1)) (xs (7 * i + 2)) (xs (7 * i + 3)))) 5 (pg_hold w (xs (7 * i + 1)) (xs (7 * i + 2)) (xs (7 * i + 3)))) 6 (pg_fin w (xs (7 * i + 1)) (xs (7 * i + 2)) (xs (7 * i + 3)) - pg_hold w (xs (7 * i + 1)) (xs (7 * i + 2)) (xs (7 * i + 3)))) 14 1, w.2) (vp_updL f 0 (pg_fin u (xs (7 * i + 1)) (xs (7 * i + 2)) (xs (7 * i + 3))).toInt64)) := hD
    refine lv_iload hx hb dL_law_559 (lv_at hl 1 rfl) ?_
    refine lv_icmp_eq (tgt := 566) hx hb dL_law_561 (by decide) (fun _ => ?_) (fun h9 => (h9 (rfl)).elim)
    refine lv_iload hx hb dL_law_566 (lv_at hl 1 rfl) ?_
    refine lv_if_ne (tgt := 583) hx hb dL_law_568 (by decide) (fun h9 => (h9 rfl).elim) (fun _ => ?_)
    refine lv_aload_n hx hb dL_law_571 rfl (lv_at hl 5 rfl) ?_
    refine lv_iconst (v := 0) hx hb dL_law_572 (by decide) ?_
    refine va_lald hx hb hK hP 19 2 rfl rfl (show vp_in 0 1 from vp_in_nI (n := 0) (by decide) (by decide)) dL_law_573 ?_
    refine lv_iload hx hb dL_law_574 (lv_at hl 0 rfl) ?_
    refine lv_i2l (v := (pg_fin w (xs (7 * i + 1)) (xs (7 * i + 2)) (xs (7 * i + 3))).toInt64) hx hb dL_law_576 rfl ?_
    refine pg_lcmpE hx hb ((pg_updL0 f _).trans (congrArg Int32.toInt64 (hR.1.fin (xs (7 * i + 1)) (xs (7 * i + 2)) (xs (7 * i + 3))))) dL_law_577 ?_
    refine lv_if_eq (tgt := 583) hx hb dL_law_578 (by decide) (fun _ => ?_) (fun h9 => (h9 rfl).elim)
    refine lv_goto (tgt := 1307) hx hb dL_law_583 (by decide) ?_
    exact kk H locs ls _ _ _ ⟨_, _, pg_J_close hR hthr⟩ hP hD hS (lv_sub hl [2, 3, 4, 5, 6] rfl)
  · refine lv_aload_n hx hb dL_law_506 rfl (lv_at hl 1 rfl) ?_
    refine lv_aload_n hx hb dL_law_507 rfl (lv_at hl 0 rfl) ?_
    refine lv_iload hx hb dL_law_508 (lv_at hl 4 rfl) ?_
    refine lv_iconst (v := 1) hx hb dL_law_510 (by decide) ?_
    refine pg_iaddN (k := 7 * i) (j := 1) hx hb (by decide) dL_law_511 ?_
    refine pg_sld hx hb hX hbl hbA hS (show 7 * i + 1 < L by omega) hL dL_law_512 ?_
    refine lv_aload_n hx hb dL_law_513 rfl (lv_at hl 0 rfl) ?_
    refine lv_iload hx hb dL_law_514 (lv_at hl 4 rfl) ?_
    refine lv_iconst (v := 2) hx hb dL_law_516 (by decide) ?_
    refine pg_iaddN (k := 7 * i) (j := 2) hx hb (by decide) dL_law_517 ?_
    refine pg_sld hx hb hX hbl hbA hS (show 7 * i + 2 < L by omega) hL dL_law_518 ?_
    refine lv_aload_n hx hb dL_law_519 rfl (lv_at hl 0 rfl) ?_
    refine lv_iload hx hb dL_law_520 (lv_at hl 4 rfl) ?_
    refine lv_iconst (v := 3) hx hb dL_law_522 (by decide) ?_
    refine pg_iaddN (k := 7 * i) (j := 3) hx hb (by decide) dL_law_523 ?_
    refine pg_sld hx hb hX hbl hbA hS (show 7 * i + 3 < L by omega) hL dL_law_524 ?_
    refine lv_aload_n hx hb dL_law_525 rfl (lv_at hl 3 rfl) ?_
    refine pg_iL (pg_rSWT (As := [.ref (a 0), .int (xs (7 * i + 1)), .int (xs (7 * i + 2)), .int (xs (7 * i + 3)), .ref o]) (rest := []) ⟨hx, hb, hml, hown, hts⟩ (cw_close_1 l hfl D cI cZ cL a o H.size u f (xs (7 * i + 1)) (xs (7 * i + 2)) (xs (7 * i + 3)) hthr) (vx_cwSW 5 hts gL_law_L_close rfl rfl rfl (by decide +kernel) ⟨Nat.le_of_ble_eq_true rfl, Nat.le_of_ble_eq_true rfl⟩) hK (pg_PL hP) (pg_DL hD) hS hA hE rfl hl.1 rfl (Nat.le_of_ble_eq_true rfl) dL_law_526 ⟨hc, hs⟩) hP hD hS hA (fun H locs hP hD hS => ?_)
    have hP : va_P D vwCl (lw_W cI cZ cL a a' o u w f) H := hP
    have hD : va_D (fun q : Nat => s.heap.size ≤ q) (lw_W cI cZ cL a a' o u w f) := hD
    refine lv_istore (lv' := [(5, .int 1), (0, .ref b), (1, .ref (a 0)), (2, .ref (a' 0)), (3, .ref o), (4, .int (nI (7 * i)))]) hx hb dL_law_529 hl (by decide) rfl (fun ls hl => ?_)
    refine lv_aload_n hx hb dL_law_531 rfl (lv_at hl 3 rfl) ?_
    refine lv_aload_n hx hb dL_law_532 rfl (lv_at hl 1 rfl) ?_
    refine lv_iload hx hb dL_law_533 (lv_at hl 5 rfl) ?_
    refine lv_iconst (v := 1) hx hb dL_law_535 (by decide) ?_
    refine pg_iaddN (k := 7 * i) (j := 1) hx hb (by decide) dL_law_536 ?_
    refine pg_sld hx hb hX hbl hbA hS (show 7 * i + 1 < L by omega) hL dL_law_537 ?_
    refine lv_aload_n hx hb dL_law_538 rfl (lv_at hl 1 rfl) ?_
    refine lv_iload hx hb dL_law_539 (lv_at hl 5 rfl) ?_
    refine lv_iconst (v := 2) hx hb dL_law_541 (by decide) ?_
    refine pg_iaddN (k := 7 * i) (j := 2) hx hb (by decide) dL_law_542 ?_
    refine pg_sld hx hb hX hbl hbA hS (show 7 * i + 2 < L by omega) hL dL_law_543 ?_
    refine lv_aload_n hx hb dL_law_544 rfl (lv_at hl 1 rfl) ?_
    refine lv_iload hx hb dL_law_545 (lv_at hl 5 rfl) ?_
    refine lv_iconst (v := 3) hx hb dL_law_547 (by decide) ?_
    refine pg_iaddN (k := 7 * i) (j := 3) hx hb (by decide) dL_law_548 ?_
    refine pg_sld hx hb hX hbl hbA hS (show 7 * i + 3 < L by omega) hL dL_law_549 ?_
    refine pg_iR (pg_rV (As := [.int (xs (7 * i + 1)), .int (xs (7 * i + 2)), .int (xs (7 * i + 3))]) (rest := []) ⟨hx, hb, hml, hown, hts⟩ (cm_close_no l D cI cZ a' H.size w (xs (7 * i + 1)) (xs (7 * i + 2)) (xs (7 * i + 3)) 1 (by rw [← hR.cl]; exact hthr) (by decide)) (cwV 3 hts gL_law_X5_close rfl rfl rfl (by decide +kernel) ⟨Nat.le_of_ble_eq_true rfl, Nat.le_of_ble_eq_true rfl⟩) (hK.sub [0, 1] rfl) (pg_PR hP) (pg_DR hD) 0 (ci := 5) rfl rfl rfl rfl hl.1 rfl (Nat.le_of_ble_eq_true rfl) dL_law_550 ⟨hc, hs⟩) hP hD hS hA (fun H locs hP hD hS => ?_)
    have hP : va_P D vwCl (lw_W cI cZ cL a a' o u (upd w.1 15 1, w.2) f) H := hP
    have hD : va_D (fun q : Nat => s.heap.size ≤ q) (lw_W cI cZ cL a a' o u (upd w.1 15 1, w.2) f) := hD
    refine lv_istore (lv' := [(6, .int 0), (5, .int 1), (0, .ref b), (1, .ref (a 0)), (2, .ref (a' 0)), (3, .ref o), (4, .int (nI (7 * i)))]) hx hb dL_law_553 hl (by decide) rfl (fun ls hl => ?_)
    refine lv_aload_n hx hb dL_law_555 rfl (lv_at hl 4 rfl) ?_
    refine pg_iR (pg_rV (As := []) (rest := []) ⟨hx, hb, hml, hown, hts⟩ (cm_thrown l D cI cZ a' H.size (upd w.1 15 1, w.2)) (cwV 0 hts gL_law_X5_thrown rfl rfl rfl (by decide +kernel) ⟨Nat.le_of_ble_eq_true rfl, Nat.le_of_ble_eq_true rfl⟩) (hK.sub [0, 1] rfl) (pg_PR hP) (pg_DR hD) 0 (ci := 5) rfl rfl rfl rfl hl.1 rfl (Nat.le_of_ble_eq_true rfl) dL_law_556 ⟨hc, hs⟩) hP hD hS hA (fun H locs hP hD hS => ?_)
    have hP : va_P D vwCl (lw_W cI cZ cL a a' o u (upd w.1 15 1, w.2) f) H := hP
    have hD : va_D (fun q : Nat => s.heap.size ≤ q) (lw_W cI cZ cL a a' o u (upd w.1 15 1, w.2) f) := hD
    refine lv_iload hx hb dL_law_559 (lv_at hl 1 rfl) ?_
    refine lv_icmp_eq (tgt := 566) hx hb dL_law_561 (by decide) (fun _ => ?_) (fun h9 => (h9 (pg_updk w.1 15 1)).elim)
    refine lv_iload hx hb dL_law_566 (lv_at hl 1 rfl) ?_
    refine lv_if_ne (tgt := 583) hx hb dL_law_568 (by decide) (fun _ => ?_) (fun h9 => absurd h9 (by decide))
    refine lv_goto (tgt := 1307) hx hb dL_law_583 (by decide) ?_
    exact kk H locs ls _ _ _ ⟨_, _, hR.thr 1⟩ hP hD hS (lv_sub hl [2, 3, 4, 5, 6] rfl)
  · refine lv_aload_n hx hb dL_law_506 rfl (lv_at hl 1 rfl) ?_
    refine lv_aload_n hx hb dL_law_507 rfl (lv_at hl 0 rfl) ?_
    refine lv_iload hx hb dL_law_508 (lv_at hl 4 rfl) ?_
    refine lv_iconst (v := 1) hx hb dL_law_510 (by decide) ?_
    refine pg_iaddN (k := 7 * i) (j := 1) hx hb (by decide) dL_law_511 ?_
    refine pg_sld hx hb hX hbl hbA hS (show 7 * i + 1 < L by omega) hL dL_law_512 ?_
    refine lv_aload_n hx hb dL_law_513 rfl (lv_at hl 0 rfl) ?_
    refine lv_iload hx hb dL_law_514 (lv_at hl 4 rfl) ?_
    refine lv_iconst (v := 2) hx hb dL_law_516 (by decide) ?_
    refine pg_iaddN (k := 7 * i) (j := 2) hx hb (by decide) dL_law_517 ?_
    refine pg_sld hx hb hX hbl hbA hS (show 7 * i + 2 < L by omega) hL dL_law_518 ?_
    refine lv_aload_n hx hb dL_law_519 rfl (lv_at hl 0 rfl) ?_
    refine lv_iload hx hb dL_law_520 (lv_at hl 4 rfl) ?_
    refine lv_iconst (v := 3) hx hb dL_law_522 (by decide) ?_
    refine pg_iaddN (k := 7 * i) (j := 3) hx hb (by decide) dL_law_523 ?_
    refine pg_sld hx hb hX hbl hbA hS (show 7 * i + 3 < L by omega) hL dL_law_524 ?_
    refine lv_aload_n hx hb dL_law_525 rfl (lv_at hl 3 rfl) ?_
    refine pg_iL (pg_rSWT (As := [.ref (a 0), .int (xs (7 * i + 1)), .int (xs (7 * i + 2)), .int (xs (7 * i + 3)), .ref o]) (rest := []) ⟨hx, hb, hml, hown, hts⟩ (cw_close_2 l hfl D cI cZ cL a o H.size u f (xs (7 * i + 1)) (xs (7 * i + 2)) (xs (7 * i + 3)) hthr) (vx_cwSW 5 hts gL_law_L_close rfl rfl rfl (by decide +kernel) ⟨Nat.le_of_ble_eq_true rfl, Nat.le_of_ble_eq_true rfl⟩) hK (pg_PL hP) (pg_DL hD) hS hA hE rfl hl.1 rfl (Nat.le_of_ble_eq_true rfl) dL_law_526 ⟨hc, hs⟩) hP hD hS hA (fun H locs hP hD hS => ?_)
    have hP : va_P D vwCl (lw_W cI cZ cL a a' o u w f) H := hP
    have hD : va_D (fun q : Nat => s.heap.size ≤ q) (lw_W cI cZ cL a a' o u w f) := hD
    refine lv_istore (lv' := [(5, .int 2), (0, .ref b), (1, .ref (a 0)), (2, .ref (a' 0)), (3, .ref o), (4, .int (nI (7 * i)))]) hx hb dL_law_529 hl (by decide) rfl (fun ls hl => ?_)
    refine lv_aload_n hx hb dL_law_531 rfl (lv_at hl 3 rfl) ?_
    refine lv_aload_n hx hb dL_law_532 rfl (lv_at hl 1 rfl) ?_
    refine lv_iload hx hb dL_law_533 (lv_at hl 5 rfl) ?_
    refine lv_iconst (v := 1) hx hb dL_law_535 (by decide) ?_
    refine pg_iaddN (k := 7 * i) (j := 1) hx hb (by decide) dL_law_536 ?_
    refine pg_sld hx hb hX hbl hbA hS (show 7 * i + 1 < L by omega) hL dL_law_537 ?_
    refine lv_aload_n hx hb dL_law_538 rfl (lv_at hl 1 rfl) ?_
    refine lv_iload hx hb dL_law_539 (lv_at hl 5 rfl) ?_
    refine lv_iconst (v := 2) hx hb dL_law_541 (by decide) ?_
    refine pg_iaddN (k := 7 * i) (j := 2) hx hb (by decide) dL_law_542 ?_
    refine pg_sld hx hb hX hbl hbA hS (show 7 * i + 2 < L by omega) hL dL_law_543 ?_
    refine lv_aload_n hx hb dL_law_544 rfl (lv_at hl 1 rfl) ?_
    refine lv_iload hx hb dL_law_545 (lv_at hl 5 rfl) ?_
    refine lv_iconst (v := 3) hx hb dL_law_547 (by decide) ?_
    refine pg_iaddN (k := 7 * i) (j := 3) hx hb (by decide) dL_law_548 ?_
    refine pg_sld hx hb hX hbl hbA hS (show 7 * i + 3 < L by omega) hL dL_law_549 ?_
    refine pg_iR (pg_rV (As := [.int (xs (7 * i + 1)), .int (xs (7 * i + 2)), .int (xs (7 * i + 3))]) (rest := []) ⟨hx, hb, hml, hown, hts⟩ (cm_close_no l D cI cZ a' H.size w (xs (7 * i + 1)) (xs (7 * i + 2)) (xs (7 * i + 3)) 2 (by rw [← hR.cl]; exact hthr) (by decide)) (cwV 3 hts gL_law_X5_close rfl rfl rfl (by decide +kernel) ⟨Nat.le_of_ble_eq_true rfl, Nat.le_of_ble_eq_true rfl⟩) (hK.sub [0, 1] rfl) (pg_PR hP) (pg_DR hD) 0 (ci := 5) rfl rfl rfl rfl hl.1 rfl (Nat.le_of_ble_eq_true rfl) dL_law_550 ⟨hc, hs⟩) hP hD hS hA (fun H locs hP hD hS => ?_)
    have hP : va_P D vwCl (lw_W cI cZ cL a a' o u (upd w.1 15 2, w.2) f) H := hP
    have hD : va_D (fun q : Nat => s.heap.size ≤ q) (lw_W cI cZ cL a a' o u (upd w.1 15 2, w.2) f) := hD
    refine lv_istore (lv' := [(6, .int 0), (5, .int 2), (0, .ref b), (1, .ref (a 0)), (2, .ref (a' 0)), (3, .ref o), (4, .int (nI (7 * i)))]) hx hb dL_law_553 hl (by decide) rfl (fun ls hl => ?_)
    refine lv_aload_n hx hb dL_law_555 rfl (lv_at hl 4 rfl) ?_
    refine pg_iR (pg_rV (As := []) (rest := []) ⟨hx, hb, hml, hown, hts⟩ (cm_thrown l D cI cZ a' H.size (upd w.1 15 2, w.2)) (cwV 0 hts gL_law_X5_thrown rfl rfl rfl (by decide +kernel) ⟨Nat.le_of_ble_eq_true rfl, Nat.le_of_ble_eq_true rfl⟩) (hK.sub [0, 1] rfl) (pg_PR hP) (pg_DR hD) 0 (ci := 5) rfl rfl rfl rfl hl.1 rfl (Nat.le_of_ble_eq_true rfl) dL_law_556 ⟨hc, hs⟩) hP hD hS hA (fun H locs hP hD hS => ?_)
    have hP : va_P D vwCl (lw_W cI cZ cL a a' o u (upd w.1 15 2, w.2) f) H := hP
    have hD : va_D (fun q : Nat => s.heap.size ≤ q) (lw_W cI cZ cL a a' o u (upd w.1 15 2, w.2) f) := hD
    refine lv_iload hx hb dL_law_559 (lv_at hl 1 rfl) ?_
    refine lv_icmp_eq (tgt := 566) hx hb dL_law_561 (by decide) (fun _ => ?_) (fun h9 => (h9 (pg_updk w.1 15 2)).elim)
    refine lv_iload hx hb dL_law_566 (lv_at hl 1 rfl) ?_
    refine lv_if_ne (tgt := 583) hx hb dL_law_568 (by decide) (fun _ => ?_) (fun h9 => absurd h9 (by decide))
    refine lv_goto (tgt := 1307) hx hb dL_law_583 (by decide) ?_
    exact kk H locs ls _ _ _ ⟨_, _, hR.thr 2⟩ hP hD hS (lv_sub hl [2, 3, 4, 5, 6] rfl)
set_option maxHeartbeats 4000000 in
set_option maxRecDepth 100000 in
theorem lc_6 (hfl : l.stackTraces = false) (hL : L ≤ 3584) (C0 : lw_At p s m meth c b L xs) (hK : va_K D vwCl (pg_tyL cI cZ cL) s) (hE : pg_Env (fun q : Nat => s.heap.size ≤ q) s s.heap) (hi : 7 * i + 7 ≤ L) (hc : cells + 1 ≤ 1072) (hs : slots + 6 ≤ 8564) (hI : pg_Inv u w) (hP : va_P D vwCl (lw_W cI cZ cL a a' o u w f) H) (hD : va_D (fun q : Nat => s.heap.size ≤ q) (lw_W cI cZ cL a a' o u w f)) (hS : va_S (fun q : Nat => s.heap.size ≤ q) s.heap H locs) (hl : lv_has ls 7 [(0, .ref b), (1, .ref (a 0)), (2, .ref (a' 0)), (3, .ref o), (4, .int (nI (7 * i)))])
    (kk : ∀ (H : Heap) (locs : List Loc) (ls : Array Slot) (u w : pg_St) (f : Nat → Int64), pg_Inv u w → va_P D vwCl (lw_W cI cZ cL a a' o u w f) H → va_D (fun q : Nat => s.heap.size ≤ q) (lw_W cI cZ cL a a' o u w f) → va_S (fun q : Nat => s.heap.size ≤ q) s.heap H locs → lv_has ls 7 [(0, .ref b), (1, .ref (a 0)), (2, .ref (a' 0)), (3, .ref o), (4, .int (nI (7 * i)))] → W p l e room_1 s m #[Value.ref b] below meth c H locs (cells + 1) (slots + 6) Q (F0 m 1307 ls [])) :
    W p l e room_1 s m #[Value.ref b] below meth c H locs cells slots Q (F0 m 586 ls []) := by
  obtain ⟨hx, hb, hr, hml, hown, hts, hX, hbl, hlocks, hgv⟩ := id C0
  have hts := fun w h => hts w (wsL_law_in w h)
  have hown : s.vm.findClass RL = some m.cls := hown
  have hb : c.code = cL_law := hb
  have hA : ∀ q : Nat, s.heap.size ≤ q → (fun q : Nat => s.heap.size ≤ q) q := fun _ h => h
  have hbA : ¬ (fun q : Nat => s.heap.size ≤ q) b := Nat.not_le.mpr hbl
  have hc0 : cells + 0 ≤ 1072 := by omega
  have hs0 : slots + 0 ≤ 8564 := by omega
  obtain ⟨n, t, hR⟩ := hI
  obtain ⟨-, -, ⟨hn, h20, ht, h4⟩, ⟨-, -, hmet, hzer⟩, -⟩ := id hR
  have hnw : w.1 10 = nI n := (hR.1.1 10 (by decide)).symm.trans hn
  have htw : w.1 13 = nI t := (hR.1.1 13 (by decide)).symm.trans ht
  rcases pg_c_advance (!pg_eq (u.1 3) (-1)) (u.1 3) (xs (7 * i + 1)) with hthr | hthr | hthr
  · have hJ := pg_J_advance hR hthr
    refine lv_aload_n hx hb dL_law_586 rfl (lv_at hl 1 rfl) ?_
    refine lv_aload_n hx hb dL_law_587 rfl (lv_at hl 0 rfl) ?_
    refine lv_iload hx hb dL_law_588 (lv_at hl 4 rfl) ?_
    refine lv_iconst (v := 1) hx hb dL_law_590 (by decide) ?_
    refine pg_iaddN (k := 7 * i) (j := 1) hx hb (by decide) dL_law_591 ?_
    refine pg_sld hx hb hX hbl hbA hS (show 7 * i + 1 < L by omega) hL dL_law_592 ?_
    refine lv_aload_n hx hb dL_law_593 rfl (lv_at hl 3 rfl) ?_
    refine pg_iL (pg_rSW (As := [.ref (a 0), .int (xs (7 * i + 1)), .ref o]) (rest := []) ⟨hx, hb, hml, hown, hts⟩ (cw_advance_ok l D cI cZ cL a o H.size u f n hn h20 (xs (7 * i + 1)) hthr) (vx_cwSW 3 hts gL_law_L_advance rfl rfl rfl (by decide +kernel) ⟨Nat.le_of_ble_eq_true rfl, Nat.le_of_ble_eq_true rfl⟩) hK (pg_PL hP) (pg_DL hD) rfl hl.1 rfl (Nat.le_of_ble_eq_true rfl) dL_law_594 ⟨hc0, hs0⟩) hP hD hS hA (fun H locs hP hD hS => ?_)
    have hP : va_P D vwCl (lw_W cI cZ cL a a' o (pg_free (upd u.1 3 (u.1 3 + (xs (7 * i + 1))), u.2) n (u.1 3 + (xs (7 * i + 1)))) w (vp_updL f 0 (u.1 3 + (xs (7 * i + 1))).toInt64)) H := hP
    have hD : va_D (fun q : Nat => s.heap.size ≤ q) (lw_W cI cZ cL a a' o (pg_free (upd u.1 3 (u.1 3 + (xs (7 * i + 1))), u.2) n (u.1 3 + (xs (7 * i + 1)))) w (vp_updL f 0 (u.1 3 + (xs (7 * i + 1))).toInt64)) := hD
    refine W.widen (k := cells + 1) (n := slots + 6) (by omega) (by omega) ?_
    refine lv_istore (lv' := [(5, .int 0), (0, .ref b), (1, .ref (a 0)), (2, .ref (a' 0)), (3, .ref o), (4, .int (nI (7 * i)))]) hx hb dL_law_597 hl (by decide) rfl (fun ls hl => ?_)
    refine lv_aload_n hx hb dL_law_599 rfl (lv_at hl 3 rfl) ?_
    refine lv_aload_n hx hb dL_law_600 rfl (lv_at hl 1 rfl) ?_
    refine lv_iload hx hb dL_law_601 (lv_at hl 5 rfl) ?_
    refine lv_iconst (v := 1) hx hb dL_law_603 (by decide) ?_
    refine pg_iaddN (k := 7 * i) (j := 1) hx hb (by decide) dL_law_604 ?_
    refine pg_sld hx hb hX hbl hbA hS (show 7 * i + 1 < L by omega) hL dL_law_605 ?_
    refine pg_iR (pg_rV (As := [.int (xs (7 * i + 1))]) (rest := []) ⟨hx, hb, hml, hown, hts⟩ (cm_advance_ok l D cI cZ a' H.size w n hnw h20 (xs (7 * i + 1)) hJ.2.1 ((pg_T_advance hR (xs (7 * i + 1))).symm.trans hthr)) (cwV 1 hts gL_law_X5_advance rfl rfl rfl (by decide +kernel) ⟨Nat.le_of_ble_eq_true rfl, Nat.le_of_ble_eq_true rfl⟩) (hK.sub [0, 1] rfl) (pg_PR hP) (pg_DR hD) 0 (ci := 5) rfl rfl rfl rfl hl.1 rfl (Nat.le_of_ble_eq_true rfl) dL_law_606 ⟨hc, hs⟩) hP hD hS hA (fun H locs hP hD hS => ?_)
    have hP : va_P D vwCl (lw_W cI cZ cL a a' o (pg_free (upd u.1 3 (u.1 3 + (xs (7 * i + 1))), u.2) n (u.1 3 + (xs (7 * i + 1)))) (pg_free (upd (upd w.1 15 0) 3 (w.1 3 + (xs (7 * i + 1))), w.2) n (w.1 3 + (xs (7 * i + 1)))) (vp_updL f 0 (u.1 3 + (xs (7 * i + 1))).toInt64)) H := hP
    have hD : va_D (fun q : Nat => s.heap.size ≤ q) (lw_W cI cZ cL a a' o (pg_free (upd u.1 3 (u.1 3 + (xs (7 * i + 1))), u.2) n (u.1 3 + (xs (7 * i + 1)))) (pg_free (upd (upd w.1 15 0) 3 (w.1 3 + (xs (7 * i + 1))), w.2) n (w.1 3 + (xs (7 * i + 1)))) (vp_updL f 0 (u.1 3 + (xs (7 * i + 1))).toInt64)) := hD
    refine lv_istore (lv' := [(6, .int (w.1 3 + (xs (7 * i + 1)))), (5, .int 0), (0, .ref b), (1, .ref (a 0)), (2, .ref (a' 0)), (3, .ref o), (4, .int (nI (7 * i)))]) hx hb dL_law_609 hl (by decide) rfl (fun ls hl => ?_)
    refine lv_aload_n hx hb dL_law_611 rfl (lv_at hl 4 rfl) ?_
    refine pg_iR (pg_rV (As := []) (rest := []) ⟨hx, hb, hml, hown, hts⟩ (cm_thrown l D cI cZ a' H.size (pg_free (upd (upd w.1 15 0) 3 (w.1 3 + (xs (7 * i + 1))), w.2) n (w.1 3 + (xs (7 * i + 1))))) (cwV 0 hts gL_law_X5_thrown rfl rfl rfl (by decide +kernel) ⟨Nat.le_of_ble_eq_true rfl, Nat.le_of_ble_eq_true rfl⟩) (hK.sub [0, 1] rfl) (pg_PR hP) (pg_DR hD) 0 (ci := 5) rfl rfl rfl rfl hl.1 rfl (Nat.le_of_ble_eq_true rfl) dL_law_612 ⟨hc, hs⟩) hP hD hS hA (fun H locs hP hD hS => ?_)
    have hP : va_P D vwCl (lw_W cI cZ cL a a' o (pg_free (upd u.1 3 (u.1 3 + (xs (7 * i + 1))), u.2) n (u.1 3 + (xs (7 * i + 1)))) (pg_free (upd (upd w.1 15 0) 3 (w.1 3 + (xs (7 * i + 1))), w.2) n (w.1 3 + (xs (7 * i + 1)))) (vp_updL f 0 (u.1 3 + (xs (7 * i + 1))).toInt64)) H := hP
    have hD : va_D (fun q : Nat => s.heap.size ≤ q) (lw_W cI cZ cL a a' o (pg_free (upd u.1 3 (u.1 3 + (xs (7 * i + 1))), u.2) n (u.1 3 + (xs (7 * i + 1)))) (pg_free (upd (upd w.1 15 0) 3 (w.1 3 + (xs (7 * i + 1))), w.2) n (w.1 3 + (xs (7 * i + 1)))) (vp_updL f 0 (u.1 3 + (xs (7 * i + 1))).toInt64)) := hD
    refine lv_iload hx hb dL_law_615 (lv_at hl 1 rfl) ?_
    refine lv_icmp_eq (tgt := 622) hx hb dL_law_617 (by decide) (fun _ => ?_) (fun h9 => (h9 (pg_w15_free _ _ _)).elim)
    refine lv_iload hx hb dL_law_622 (lv_at hl 1 rfl) ?_
    refine lv_if_ne (tgt := 639) hx hb dL_law_624 (by decide) (fun h9 => (h9 rfl).elim) (fun _ => ?_)
    refine lv_aload_n hx hb dL_law_627 rfl (lv_at hl 5 rfl) ?_
    refine lv_iconst (v := 0) hx hb dL_law_628 (by decide) ?_
    refine va_lald hx hb hK hP 19 2 rfl rfl (show vp_in 0 1 from vp_in_nI (n := 0) (by decide) (by decide)) dL_law_629 ?_
    refine lv_iload hx hb dL_law_630 (lv_at hl 0 rfl) ?_
    refine lv_i2l (v := (w.1 3 + (xs (7 * i + 1))).toInt64) hx hb dL_law_632 rfl ?_
    refine pg_lcmpE hx hb ((pg_updL0 f _).trans (congrArg Int32.toInt64 (hJ.1))) dL_law_633 ?_
    refine lv_if_eq (tgt := 639) hx hb dL_law_634 (by decide) (fun _ => ?_) (fun h9 => (h9 rfl).elim)
    refine lv_goto (tgt := 1307) hx hb dL_law_639 (by decide) ?_
    exact kk H locs ls _ _ _ ⟨_, _, hJ.2.2⟩ hP hD hS (lv_sub hl [2, 3, 4, 5, 6] rfl)
  · refine lv_aload_n hx hb dL_law_586 rfl (lv_at hl 1 rfl) ?_
    refine lv_aload_n hx hb dL_law_587 rfl (lv_at hl 0 rfl) ?_
    refine lv_iload hx hb dL_law_588 (lv_at hl 4 rfl) ?_
    refine lv_iconst (v := 1) hx hb dL_law_590 (by decide) ?_
    refine pg_iaddN (k := 7 * i) (j := 1) hx hb (by decide) dL_law_591 ?_
    refine pg_sld hx hb hX hbl hbA hS (show 7 * i + 1 < L by omega) hL dL_law_592 ?_
    refine lv_aload_n hx hb dL_law_593 rfl (lv_at hl 3 rfl) ?_
    refine pg_iL (pg_rSWT (As := [.ref (a 0), .int (xs (7 * i + 1)), .ref o]) (rest := []) ⟨hx, hb, hml, hown, hts⟩ (cw_advance_1 l hfl D cI cZ cL a o H.size u f n hn h20 (xs (7 * i + 1)) hthr) (vx_cwSW 3 hts gL_law_L_advance rfl rfl rfl (by decide +kernel) ⟨Nat.le_of_ble_eq_true rfl, Nat.le_of_ble_eq_true rfl⟩) hK (pg_PL hP) (pg_DL hD) hS hA hE rfl hl.1 rfl (Nat.le_of_ble_eq_true rfl) dL_law_594 ⟨hc, hs⟩) hP hD hS hA (fun H locs hP hD hS => ?_)
    have hP : va_P D vwCl (lw_W cI cZ cL a a' o u w f) H := hP
    have hD : va_D (fun q : Nat => s.heap.size ≤ q) (lw_W cI cZ cL a a' o u w f) := hD
    refine lv_istore (lv' := [(5, .int 1), (0, .ref b), (1, .ref (a 0)), (2, .ref (a' 0)), (3, .ref o), (4, .int (nI (7 * i)))]) hx hb dL_law_597 hl (by decide) rfl (fun ls hl => ?_)
    refine lv_aload_n hx hb dL_law_599 rfl (lv_at hl 3 rfl) ?_
    refine lv_aload_n hx hb dL_law_600 rfl (lv_at hl 1 rfl) ?_
    refine lv_iload hx hb dL_law_601 (lv_at hl 5 rfl) ?_
    refine lv_iconst (v := 1) hx hb dL_law_603 (by decide) ?_
    refine pg_iaddN (k := 7 * i) (j := 1) hx hb (by decide) dL_law_604 ?_
    refine pg_sld hx hb hX hbl hbA hS (show 7 * i + 1 < L by omega) hL dL_law_605 ?_
    refine pg_iR (pg_rV (As := [.int (xs (7 * i + 1))]) (rest := []) ⟨hx, hb, hml, hown, hts⟩ (cm_advance_no2 l D cI cZ a' H.size w n hnw h20 (xs (7 * i + 1)) 1 ((pg_T_advance hR (xs (7 * i + 1))).symm.trans hthr) (by decide)) (cwV 1 hts gL_law_X5_advance rfl rfl rfl (by decide +kernel) ⟨Nat.le_of_ble_eq_true rfl, Nat.le_of_ble_eq_true rfl⟩) (hK.sub [0, 1] rfl) (pg_PR hP) (pg_DR hD) 0 (ci := 5) rfl rfl rfl rfl hl.1 rfl (Nat.le_of_ble_eq_true rfl) dL_law_606 ⟨hc, hs⟩) hP hD hS hA (fun H locs hP hD hS => ?_)
    have hP : va_P D vwCl (lw_W cI cZ cL a a' o u (upd w.1 15 1, w.2) f) H := hP
    have hD : va_D (fun q : Nat => s.heap.size ≤ q) (lw_W cI cZ cL a a' o u (upd w.1 15 1, w.2) f) := hD
    refine lv_istore (lv' := [(6, .int 0), (5, .int 1), (0, .ref b), (1, .ref (a 0)), (2, .ref (a' 0)), (3, .ref o), (4, .int (nI (7 * i)))]) hx hb dL_law_609 hl (by decide) rfl (fun ls hl => ?_)
    refine lv_aload_n hx hb dL_law_611 rfl (lv_at hl 4 rfl) ?_
    refine pg_iR (pg_rV (As := []) (rest := []) ⟨hx, hb, hml, hown, hts⟩ (cm_thrown l D cI cZ a' H.size (upd w.1 15 1, w.2)) (cwV 0 hts gL_law_X5_thrown rfl rfl rfl (by decide +kernel) ⟨Nat.le_of_ble_eq_true rfl, Nat.le_of_ble_eq_true rfl⟩) (hK.sub [0, 1] rfl) (pg_PR hP) (pg_DR hD) 0 (ci := 5) rfl rfl rfl rfl hl.1 rfl (Nat.le_of_ble_eq_true rfl) dL_law_612 ⟨hc, hs⟩) hP hD hS hA (fun H locs hP hD hS => ?_)
    have hP : va_P D vwCl (lw_W cI cZ cL a a' o u (upd w.1 15 1, w.2) f) H := hP
    have hD : va_D (fun q : Nat => s.heap.size ≤ q) (lw_W cI cZ cL a a' o u (upd w.1 15 1, w.2) f) := hD
    refine lv_iload hx hb dL_law_615 (lv_at hl 1 rfl) ?_
    refine lv_icmp_eq (tgt := 622) hx hb dL_law_617 (by decide) (fun _ => ?_) (fun h9 => (h9 (pg_updk w.1 15 1)).elim)
    refine lv_iload hx hb dL_law_622 (lv_at hl 1 rfl) ?_
    refine lv_if_ne (tgt := 639) hx hb dL_law_624 (by decide) (fun _ => ?_) (fun h9 => absurd h9 (by decide))
    refine lv_goto (tgt := 1307) hx hb dL_law_639 (by decide) ?_
    exact kk H locs ls _ _ _ ⟨_, _, hR.thr 1⟩ hP hD hS (lv_sub hl [2, 3, 4, 5, 6] rfl)
  · refine lv_aload_n hx hb dL_law_586 rfl (lv_at hl 1 rfl) ?_
    refine lv_aload_n hx hb dL_law_587 rfl (lv_at hl 0 rfl) ?_
    refine lv_iload hx hb dL_law_588 (lv_at hl 4 rfl) ?_
    refine lv_iconst (v := 1) hx hb dL_law_590 (by decide) ?_
    refine pg_iaddN (k := 7 * i) (j := 1) hx hb (by decide) dL_law_591 ?_
    refine pg_sld hx hb hX hbl hbA hS (show 7 * i + 1 < L by omega) hL dL_law_592 ?_
    refine lv_aload_n hx hb dL_law_593 rfl (lv_at hl 3 rfl) ?_
    refine pg_iL (pg_rSWT (As := [.ref (a 0), .int (xs (7 * i + 1)), .ref o]) (rest := []) ⟨hx, hb, hml, hown, hts⟩ (cw_advance_2 l hfl D cI cZ cL a o H.size u f n hn h20 (xs (7 * i + 1)) hthr) (vx_cwSW 3 hts gL_law_L_advance rfl rfl rfl (by decide +kernel) ⟨Nat.le_of_ble_eq_true rfl, Nat.le_of_ble_eq_true rfl⟩) hK (pg_PL hP) (pg_DL hD) hS hA hE rfl hl.1 rfl (Nat.le_of_ble_eq_true rfl) dL_law_594 ⟨hc, hs⟩) hP hD hS hA (fun H locs hP hD hS => ?_)
    have hP : va_P D vwCl (lw_W cI cZ cL a a' o u w f) H := hP
    have hD : va_D (fun q : Nat => s.heap.size ≤ q) (lw_W cI cZ cL a a' o u w f) := hD
    refine lv_istore (lv' := [(5, .int 2), (0, .ref b), (1, .ref (a 0)), (2, .ref (a' 0)), (3, .ref o), (4, .int (nI (7 * i)))]) hx hb dL_law_597 hl (by decide) rfl (fun ls hl => ?_)
    refine lv_aload_n hx hb dL_law_599 rfl (lv_at hl 3 rfl) ?_
    refine lv_aload_n hx hb dL_law_600 rfl (lv_at hl 1 rfl) ?_
    refine lv_iload hx hb dL_law_601 (lv_at hl 5 rfl) ?_
    refine lv_iconst (v := 1) hx hb dL_law_603 (by decide) ?_
    refine pg_iaddN (k := 7 * i) (j := 1) hx hb (by decide) dL_law_604 ?_
    refine pg_sld hx hb hX hbl hbA hS (show 7 * i + 1 < L by omega) hL dL_law_605 ?_
    refine pg_iR (pg_rV (As := [.int (xs (7 * i + 1))]) (rest := []) ⟨hx, hb, hml, hown, hts⟩ (cm_advance_no2 l D cI cZ a' H.size w n hnw h20 (xs (7 * i + 1)) 2 ((pg_T_advance hR (xs (7 * i + 1))).symm.trans hthr) (by decide)) (cwV 1 hts gL_law_X5_advance rfl rfl rfl (by decide +kernel) ⟨Nat.le_of_ble_eq_true rfl, Nat.le_of_ble_eq_true rfl⟩) (hK.sub [0, 1] rfl) (pg_PR hP) (pg_DR hD) 0 (ci := 5) rfl rfl rfl rfl hl.1 rfl (Nat.le_of_ble_eq_true rfl) dL_law_606 ⟨hc, hs⟩) hP hD hS hA (fun H locs hP hD hS => ?_)
    have hP : va_P D vwCl (lw_W cI cZ cL a a' o u (upd w.1 15 2, w.2) f) H := hP
    have hD : va_D (fun q : Nat => s.heap.size ≤ q) (lw_W cI cZ cL a a' o u (upd w.1 15 2, w.2) f) := hD
    refine lv_istore (lv' := [(6, .int 0), (5, .int 2), (0, .ref b), (1, .ref (a 0)), (2, .ref (a' 0)), (3, .ref o), (4, .int (nI (7 * i)))]) hx hb dL_law_609 hl (by decide) rfl (fun ls hl => ?_)
    refine lv_aload_n hx hb dL_law_611 rfl (lv_at hl 4 rfl) ?_
    refine pg_iR (pg_rV (As := []) (rest := []) ⟨hx, hb, hml, hown, hts⟩ (cm_thrown l D cI cZ a' H.size (upd w.1 15 2, w.2)) (cwV 0 hts gL_law_X5_thrown rfl rfl rfl (by decide +kernel) ⟨Nat.le_of_ble_eq_true rfl, Nat.le_of_ble_eq_true rfl⟩) (hK.sub [0, 1] rfl) (pg_PR hP) (pg_DR hD) 0 (ci := 5) rfl rfl rfl rfl hl.1 rfl (Nat.le_of_ble_eq_true rfl) dL_law_612 ⟨hc, hs⟩) hP hD hS hA (fun H locs hP hD hS => ?_)
    have hP : va_P D vwCl (lw_W cI cZ cL a a' o u (upd w.1 15 2, w.2) f) H := hP
    have hD : va_D (fun q : Nat => s.heap.size ≤ q) (lw_W cI cZ cL a a' o u (upd w.1 15 2, w.2) f) := hD
    refine lv_iload hx hb dL_law_615 (lv_at hl 1 rfl) ?_
    refine lv_icmp_eq (tgt := 622) hx hb dL_law_617 (by decide) (fun _ => ?_) (fun h9 => (h9 (pg_updk w.1 15 2)).elim)
    refine lv_iload hx hb dL_law_622 (lv_at hl 1 rfl) ?_
    refine lv_if_ne (tgt := 639) hx hb dL_law_624 (by decide) (fun _ => ?_) (fun h9 => absurd h9 (by decide))
    refine lv_goto (tgt := 1307) hx hb dL_law_639 (by decide) ?_
    exact kk H locs ls _ _ _ ⟨_, _, hR.thr 2⟩ hP hD hS (lv_sub hl [2, 3, 4, 5, 6] rfl)
set_option maxHeartbeats 4000000 in
set_option maxRecDepth 100000 in
theorem lc_7 (hfl : l.stackTraces = false) (hL : L ≤ 3584) (C0 : lw_At p s m meth c b L xs) (hK : va_K D vwCl (pg_tyL cI cZ cL) s) (hE : pg_Env (fun q : Nat => s.heap.size ≤ q) s s.heap) (hi : 7 * i + 7 ≤ L) (hc : cells + 1 ≤ 1072) (hs : slots + 6 ≤ 8564) (hI : pg_Inv u w) (hP : va_P D vwCl (lw_W cI cZ cL a a' o u w f) H) (hD : va_D (fun q : Nat => s.heap.size ≤ q) (lw_W cI cZ cL a a' o u w f)) (hS : va_S (fun q : Nat => s.heap.size ≤ q) s.heap H locs) (hl : lv_has ls 7 [(0, .ref b), (1, .ref (a 0)), (2, .ref (a' 0)), (3, .ref o), (4, .int (nI (7 * i)))])
    (kk : ∀ (H : Heap) (locs : List Loc) (ls : Array Slot) (u w : pg_St) (f : Nat → Int64), pg_Inv u w → va_P D vwCl (lw_W cI cZ cL a a' o u w f) H → va_D (fun q : Nat => s.heap.size ≤ q) (lw_W cI cZ cL a a' o u w f) → va_S (fun q : Nat => s.heap.size ≤ q) s.heap H locs → lv_has ls 7 [(0, .ref b), (1, .ref (a 0)), (2, .ref (a' 0)), (3, .ref o), (4, .int (nI (7 * i)))] → W p l e room_1 s m #[Value.ref b] below meth c H locs (cells + 1) (slots + 6) Q (F0 m 1307 ls [])) :
    W p l e room_1 s m #[Value.ref b] below meth c H locs cells slots Q (F0 m 642 ls []) := by
  obtain ⟨hx, hb, hr, hml, hown, hts, hX, hbl, hlocks, hgv⟩ := id C0
  have hts := fun w h => hts w (wsL_law_in w h)
  have hown : s.vm.findClass RL = some m.cls := hown
  have hb : c.code = cL_law := hb
  have hA : ∀ q : Nat, s.heap.size ≤ q → (fun q : Nat => s.heap.size ≤ q) q := fun _ h => h
  have hbA : ¬ (fun q : Nat => s.heap.size ≤ q) b := Nat.not_le.mpr hbl
  have hc0 : cells + 0 ≤ 1072 := by omega
  have hs0 : slots + 0 ≤ 8564 := by omega
  obtain ⟨n, t, hR⟩ := hI
  obtain ⟨-, -, ⟨hn, h20, ht, h4⟩, ⟨-, -, hmet, hzer⟩, -⟩ := id hR
  have hnw : w.1 10 = nI n := (hR.1.1 10 (by decide)).symm.trans hn
  have htw : w.1 13 = nI t := (hR.1.1 13 (by decide)).symm.trans ht
  rcases pg_c_claim (!pg_eq (u.1 3) (-1)) (u.1 3) u.2 (nI n) (xs (7 * i + 1)) (xs (7 * i + 2)) with hthr | hthr | hthr | hthr
  · refine lv_aload_n hx hb dL_law_642 rfl (lv_at hl 1 rfl) ?_
    refine lv_aload_n hx hb dL_law_643 rfl (lv_at hl 0 rfl) ?_
    refine lv_iload hx hb dL_law_644 (lv_at hl 4 rfl) ?_
    refine lv_iconst (v := 1) hx hb dL_law_646 (by decide) ?_
    refine pg_iaddN (k := 7 * i) (j := 1) hx hb (by decide) dL_law_647 ?_
    refine pg_sld hx hb hX hbl hbA hS (show 7 * i + 1 < L by omega) hL dL_law_648 ?_
    refine lv_aload_n hx hb dL_law_649 rfl (lv_at hl 0 rfl) ?_
    refine lv_iload hx hb dL_law_650 (lv_at hl 4 rfl) ?_
    refine lv_iconst (v := 2) hx hb dL_law_652 (by decide) ?_
    refine pg_iaddN (k := 7 * i) (j := 2) hx hb (by decide) dL_law_653 ?_
    refine pg_sld hx hb hX hbl hbA hS (show 7 * i + 2 < L by omega) hL dL_law_654 ?_
    refine lv_aload_n hx hb dL_law_655 rfl (lv_at hl 3 rfl) ?_
    refine pg_iL (pg_rSW (As := [.ref (a 0), .int (xs (7 * i + 1)), .int (xs (7 * i + 2)), .ref o]) (rest := []) ⟨hx, hb, hml, hown, hts⟩ (cw_claim_ok l D cI cZ cL a o H.size u f n hn h20 (xs (7 * i + 1)) (xs (7 * i + 2)) hthr) (vx_cwSW 4 hts gL_law_L_claim rfl rfl rfl (by decide +kernel) ⟨Nat.le_of_ble_eq_true rfl, Nat.le_of_ble_eq_true rfl⟩) hK (pg_PL hP) (pg_DL hD) rfl hl.1 rfl (Nat.le_of_ble_eq_true rfl) dL_law_656 ⟨hc0, hs0⟩) hP hD hS hA (fun H locs hP hD hS => ?_)
    have hP : va_P D vwCl (lw_W cI cZ cL a a' o (pg_claim u n (xs (7 * i + 1)) (xs (7 * i + 2))) w (vp_updL f 0 (nI n).toInt64)) H := hP
    have hD : va_D (fun q : Nat => s.heap.size ≤ q) (lw_W cI cZ cL a a' o (pg_claim u n (xs (7 * i + 1)) (xs (7 * i + 2))) w (vp_updL f 0 (nI n).toInt64)) := hD
    refine W.widen (k := cells + 1) (n := slots + 6) (by omega) (by omega) ?_
    refine lv_istore (lv' := [(5, .int 0), (0, .ref b), (1, .ref (a 0)), (2, .ref (a' 0)), (3, .ref o), (4, .int (nI (7 * i)))]) hx hb dL_law_659 hl (by decide) rfl (fun ls hl => ?_)
    refine lv_aload_n hx hb dL_law_661 rfl (lv_at hl 3 rfl) ?_
    refine lv_aload_n hx hb dL_law_662 rfl (lv_at hl 1 rfl) ?_
    refine lv_iload hx hb dL_law_663 (lv_at hl 5 rfl) ?_
    refine lv_iconst (v := 1) hx hb dL_law_665 (by decide) ?_
    refine pg_iaddN (k := 7 * i) (j := 1) hx hb (by decide) dL_law_666 ?_
    refine pg_sld hx hb hX hbl hbA hS (show 7 * i + 1 < L by omega) hL dL_law_667 ?_
    refine lv_aload_n hx hb dL_law_668 rfl (lv_at hl 1 rfl) ?_
    refine lv_iload hx hb dL_law_669 (lv_at hl 5 rfl) ?_
    refine lv_iconst (v := 2) hx hb dL_law_671 (by decide) ?_
    refine pg_iaddN (k := 7 * i) (j := 2) hx hb (by decide) dL_law_672 ?_
    refine pg_sld hx hb hX hbl hbA hS (show 7 * i + 2 < L by omega) hL dL_law_673 ?_
    refine pg_iR (pg_rV (As := [.int (xs (7 * i + 1)), .int (xs (7 * i + 2))]) (rest := []) ⟨hx, hb, hml, hown, hts⟩ (cm_claim_ok l D cI cZ a' H.size w n hnw h20 (xs (7 * i + 1)) (xs (7 * i + 2)) ((pg_T_claim hR (xs (7 * i + 1)) (xs (7 * i + 2))).symm.trans hthr)) (cwV 2 hts gL_law_X5_claim rfl rfl rfl (by decide +kernel) ⟨Nat.le_of_ble_eq_true rfl, Nat.le_of_ble_eq_true rfl⟩) (hK.sub [0, 1] rfl) (pg_PR hP) (pg_DR hD) 0 (ci := 5) rfl rfl rfl rfl hl.1 rfl (Nat.le_of_ble_eq_true rfl) dL_law_674 ⟨hc, hs⟩) hP hD hS hA (fun H locs hP hD hS => ?_)
    have hP : va_P D vwCl (lw_W cI cZ cL a a' o (pg_claim u n (xs (7 * i + 1)) (xs (7 * i + 2))) (pg_claim (upd w.1 15 0, w.2) n (xs (7 * i + 1)) (xs (7 * i + 2))) (vp_updL f 0 (nI n).toInt64)) H := hP
    have hD : va_D (fun q : Nat => s.heap.size ≤ q) (lw_W cI cZ cL a a' o (pg_claim u n (xs (7 * i + 1)) (xs (7 * i + 2))) (pg_claim (upd w.1 15 0, w.2) n (xs (7 * i + 1)) (xs (7 * i + 2))) (vp_updL f 0 (nI n).toInt64)) := hD
    refine lv_istore (lv' := [(6, .int (nI n)), (5, .int 0), (0, .ref b), (1, .ref (a 0)), (2, .ref (a' 0)), (3, .ref o), (4, .int (nI (7 * i)))]) hx hb dL_law_677 hl (by decide) rfl (fun ls hl => ?_)
    refine lv_aload_n hx hb dL_law_679 rfl (lv_at hl 4 rfl) ?_
    refine pg_iR (pg_rV (As := []) (rest := []) ⟨hx, hb, hml, hown, hts⟩ (cm_thrown l D cI cZ a' H.size (pg_claim (upd w.1 15 0, w.2) n (xs (7 * i + 1)) (xs (7 * i + 2)))) (cwV 0 hts gL_law_X5_thrown rfl rfl rfl (by decide +kernel) ⟨Nat.le_of_ble_eq_true rfl, Nat.le_of_ble_eq_true rfl⟩) (hK.sub [0, 1] rfl) (pg_PR hP) (pg_DR hD) 0 (ci := 5) rfl rfl rfl rfl hl.1 rfl (Nat.le_of_ble_eq_true rfl) dL_law_680 ⟨hc, hs⟩) hP hD hS hA (fun H locs hP hD hS => ?_)
    have hP : va_P D vwCl (lw_W cI cZ cL a a' o (pg_claim u n (xs (7 * i + 1)) (xs (7 * i + 2))) (pg_claim (upd w.1 15 0, w.2) n (xs (7 * i + 1)) (xs (7 * i + 2))) (vp_updL f 0 (nI n).toInt64)) H := hP
    have hD : va_D (fun q : Nat => s.heap.size ≤ q) (lw_W cI cZ cL a a' o (pg_claim u n (xs (7 * i + 1)) (xs (7 * i + 2))) (pg_claim (upd w.1 15 0, w.2) n (xs (7 * i + 1)) (xs (7 * i + 2))) (vp_updL f 0 (nI n).toInt64)) := hD
    refine lv_iload hx hb dL_law_683 (lv_at hl 1 rfl) ?_
    refine lv_icmp_eq (tgt := 690) hx hb dL_law_685 (by decide) (fun _ => ?_) (fun h9 => (h9 (rfl)).elim)
    refine lv_iload hx hb dL_law_690 (lv_at hl 1 rfl) ?_
    refine lv_if_ne (tgt := 707) hx hb dL_law_692 (by decide) (fun h9 => (h9 rfl).elim) (fun _ => ?_)
    refine lv_aload_n hx hb dL_law_695 rfl (lv_at hl 5 rfl) ?_
    refine lv_iconst (v := 0) hx hb dL_law_696 (by decide) ?_
    refine va_lald hx hb hK hP 19 2 rfl rfl (show vp_in 0 1 from vp_in_nI (n := 0) (by decide) (by decide)) dL_law_697 ?_
    refine lv_iload hx hb dL_law_698 (lv_at hl 0 rfl) ?_
    refine lv_i2l (v := (nI n).toInt64) hx hb dL_law_700 rfl ?_
    refine pg_lcmpE hx hb ((pg_updL0 f _).trans (congrArg Int32.toInt64 (rfl))) dL_law_701 ?_
    refine lv_if_eq (tgt := 707) hx hb dL_law_702 (by decide) (fun _ => ?_) (fun h9 => (h9 rfl).elim)
    refine lv_goto (tgt := 1307) hx hb dL_law_707 (by decide) ?_
    exact kk H locs ls _ _ _ ⟨_, _, pg_J_claim hR hthr⟩ hP hD hS (lv_sub hl [2, 3, 4, 5, 6] rfl)
  · refine lv_aload_n hx hb dL_law_642 rfl (lv_at hl 1 rfl) ?_
    refine lv_aload_n hx hb dL_law_643 rfl (lv_at hl 0 rfl) ?_
    refine lv_iload hx hb dL_law_644 (lv_at hl 4 rfl) ?_
    refine lv_iconst (v := 1) hx hb dL_law_646 (by decide) ?_
    refine pg_iaddN (k := 7 * i) (j := 1) hx hb (by decide) dL_law_647 ?_
    refine pg_sld hx hb hX hbl hbA hS (show 7 * i + 1 < L by omega) hL dL_law_648 ?_
    refine lv_aload_n hx hb dL_law_649 rfl (lv_at hl 0 rfl) ?_
    refine lv_iload hx hb dL_law_650 (lv_at hl 4 rfl) ?_
    refine lv_iconst (v := 2) hx hb dL_law_652 (by decide) ?_
    refine pg_iaddN (k := 7 * i) (j := 2) hx hb (by decide) dL_law_653 ?_
    refine pg_sld hx hb hX hbl hbA hS (show 7 * i + 2 < L by omega) hL dL_law_654 ?_
    refine lv_aload_n hx hb dL_law_655 rfl (lv_at hl 3 rfl) ?_
    refine pg_iL (pg_rSWT (As := [.ref (a 0), .int (xs (7 * i + 1)), .int (xs (7 * i + 2)), .ref o]) (rest := []) ⟨hx, hb, hml, hown, hts⟩ (cw_claim_1 l hfl D cI cZ cL a o H.size u f n hn h20 (xs (7 * i + 1)) (xs (7 * i + 2)) hthr) (vx_cwSW 4 hts gL_law_L_claim rfl rfl rfl (by decide +kernel) ⟨Nat.le_of_ble_eq_true rfl, Nat.le_of_ble_eq_true rfl⟩) hK (pg_PL hP) (pg_DL hD) hS hA hE rfl hl.1 rfl (Nat.le_of_ble_eq_true rfl) dL_law_656 ⟨hc, hs⟩) hP hD hS hA (fun H locs hP hD hS => ?_)
    have hP : va_P D vwCl (lw_W cI cZ cL a a' o u w f) H := hP
    have hD : va_D (fun q : Nat => s.heap.size ≤ q) (lw_W cI cZ cL a a' o u w f) := hD
    refine lv_istore (lv' := [(5, .int 1), (0, .ref b), (1, .ref (a 0)), (2, .ref (a' 0)), (3, .ref o), (4, .int (nI (7 * i)))]) hx hb dL_law_659 hl (by decide) rfl (fun ls hl => ?_)
    refine lv_aload_n hx hb dL_law_661 rfl (lv_at hl 3 rfl) ?_
    refine lv_aload_n hx hb dL_law_662 rfl (lv_at hl 1 rfl) ?_
    refine lv_iload hx hb dL_law_663 (lv_at hl 5 rfl) ?_
    refine lv_iconst (v := 1) hx hb dL_law_665 (by decide) ?_
    refine pg_iaddN (k := 7 * i) (j := 1) hx hb (by decide) dL_law_666 ?_
    refine pg_sld hx hb hX hbl hbA hS (show 7 * i + 1 < L by omega) hL dL_law_667 ?_
    refine lv_aload_n hx hb dL_law_668 rfl (lv_at hl 1 rfl) ?_
    refine lv_iload hx hb dL_law_669 (lv_at hl 5 rfl) ?_
    refine lv_iconst (v := 2) hx hb dL_law_671 (by decide) ?_
    refine pg_iaddN (k := 7 * i) (j := 2) hx hb (by decide) dL_law_672 ?_
    refine pg_sld hx hb hX hbl hbA hS (show 7 * i + 2 < L by omega) hL dL_law_673 ?_
    refine pg_iR (pg_rV (As := [.int (xs (7 * i + 1)), .int (xs (7 * i + 2))]) (rest := []) ⟨hx, hb, hml, hown, hts⟩ (cm_claim_no l D cI cZ a' H.size w n hnw h20 (xs (7 * i + 1)) (xs (7 * i + 2)) 1 ((pg_T_claim hR (xs (7 * i + 1)) (xs (7 * i + 2))).symm.trans hthr) (by decide)) (cwV 2 hts gL_law_X5_claim rfl rfl rfl (by decide +kernel) ⟨Nat.le_of_ble_eq_true rfl, Nat.le_of_ble_eq_true rfl⟩) (hK.sub [0, 1] rfl) (pg_PR hP) (pg_DR hD) 0 (ci := 5) rfl rfl rfl rfl hl.1 rfl (Nat.le_of_ble_eq_true rfl) dL_law_674 ⟨hc, hs⟩) hP hD hS hA (fun H locs hP hD hS => ?_)
    have hP : va_P D vwCl (lw_W cI cZ cL a a' o u (upd w.1 15 1, w.2) f) H := hP
    have hD : va_D (fun q : Nat => s.heap.size ≤ q) (lw_W cI cZ cL a a' o u (upd w.1 15 1, w.2) f) := hD
    refine lv_istore (lv' := [(6, .int 0), (5, .int 1), (0, .ref b), (1, .ref (a 0)), (2, .ref (a' 0)), (3, .ref o), (4, .int (nI (7 * i)))]) hx hb dL_law_677 hl (by decide) rfl (fun ls hl => ?_)
    refine lv_aload_n hx hb dL_law_679 rfl (lv_at hl 4 rfl) ?_
    refine pg_iR (pg_rV (As := []) (rest := []) ⟨hx, hb, hml, hown, hts⟩ (cm_thrown l D cI cZ a' H.size (upd w.1 15 1, w.2)) (cwV 0 hts gL_law_X5_thrown rfl rfl rfl (by decide +kernel) ⟨Nat.le_of_ble_eq_true rfl, Nat.le_of_ble_eq_true rfl⟩) (hK.sub [0, 1] rfl) (pg_PR hP) (pg_DR hD) 0 (ci := 5) rfl rfl rfl rfl hl.1 rfl (Nat.le_of_ble_eq_true rfl) dL_law_680 ⟨hc, hs⟩) hP hD hS hA (fun H locs hP hD hS => ?_)
    have hP : va_P D vwCl (lw_W cI cZ cL a a' o u (upd w.1 15 1, w.2) f) H := hP
    have hD : va_D (fun q : Nat => s.heap.size ≤ q) (lw_W cI cZ cL a a' o u (upd w.1 15 1, w.2) f) := hD
    refine lv_iload hx hb dL_law_683 (lv_at hl 1 rfl) ?_
    refine lv_icmp_eq (tgt := 690) hx hb dL_law_685 (by decide) (fun _ => ?_) (fun h9 => (h9 (pg_updk w.1 15 1)).elim)
    refine lv_iload hx hb dL_law_690 (lv_at hl 1 rfl) ?_
    refine lv_if_ne (tgt := 707) hx hb dL_law_692 (by decide) (fun _ => ?_) (fun h9 => absurd h9 (by decide))
    refine lv_goto (tgt := 1307) hx hb dL_law_707 (by decide) ?_
    exact kk H locs ls _ _ _ ⟨_, _, hR.thr 1⟩ hP hD hS (lv_sub hl [2, 3, 4, 5, 6] rfl)
  · refine lv_aload_n hx hb dL_law_642 rfl (lv_at hl 1 rfl) ?_
    refine lv_aload_n hx hb dL_law_643 rfl (lv_at hl 0 rfl) ?_
    refine lv_iload hx hb dL_law_644 (lv_at hl 4 rfl) ?_
    refine lv_iconst (v := 1) hx hb dL_law_646 (by decide) ?_
    refine pg_iaddN (k := 7 * i) (j := 1) hx hb (by decide) dL_law_647 ?_
    refine pg_sld hx hb hX hbl hbA hS (show 7 * i + 1 < L by omega) hL dL_law_648 ?_
    refine lv_aload_n hx hb dL_law_649 rfl (lv_at hl 0 rfl) ?_
    refine lv_iload hx hb dL_law_650 (lv_at hl 4 rfl) ?_
    refine lv_iconst (v := 2) hx hb dL_law_652 (by decide) ?_
    refine pg_iaddN (k := 7 * i) (j := 2) hx hb (by decide) dL_law_653 ?_
    refine pg_sld hx hb hX hbl hbA hS (show 7 * i + 2 < L by omega) hL dL_law_654 ?_
    refine lv_aload_n hx hb dL_law_655 rfl (lv_at hl 3 rfl) ?_
    refine pg_iL (pg_rSWT (As := [.ref (a 0), .int (xs (7 * i + 1)), .int (xs (7 * i + 2)), .ref o]) (rest := []) ⟨hx, hb, hml, hown, hts⟩ (cw_claim_2 l hfl D cI cZ cL a o H.size u f n hn h20 (xs (7 * i + 1)) (xs (7 * i + 2)) hthr) (vx_cwSW 4 hts gL_law_L_claim rfl rfl rfl (by decide +kernel) ⟨Nat.le_of_ble_eq_true rfl, Nat.le_of_ble_eq_true rfl⟩) hK (pg_PL hP) (pg_DL hD) hS hA hE rfl hl.1 rfl (Nat.le_of_ble_eq_true rfl) dL_law_656 ⟨hc, hs⟩) hP hD hS hA (fun H locs hP hD hS => ?_)
    have hP : va_P D vwCl (lw_W cI cZ cL a a' o u w f) H := hP
    have hD : va_D (fun q : Nat => s.heap.size ≤ q) (lw_W cI cZ cL a a' o u w f) := hD
    refine lv_istore (lv' := [(5, .int 2), (0, .ref b), (1, .ref (a 0)), (2, .ref (a' 0)), (3, .ref o), (4, .int (nI (7 * i)))]) hx hb dL_law_659 hl (by decide) rfl (fun ls hl => ?_)
    refine lv_aload_n hx hb dL_law_661 rfl (lv_at hl 3 rfl) ?_
    refine lv_aload_n hx hb dL_law_662 rfl (lv_at hl 1 rfl) ?_
    refine lv_iload hx hb dL_law_663 (lv_at hl 5 rfl) ?_
    refine lv_iconst (v := 1) hx hb dL_law_665 (by decide) ?_
    refine pg_iaddN (k := 7 * i) (j := 1) hx hb (by decide) dL_law_666 ?_
    refine pg_sld hx hb hX hbl hbA hS (show 7 * i + 1 < L by omega) hL dL_law_667 ?_
    refine lv_aload_n hx hb dL_law_668 rfl (lv_at hl 1 rfl) ?_
    refine lv_iload hx hb dL_law_669 (lv_at hl 5 rfl) ?_
    refine lv_iconst (v := 2) hx hb dL_law_671 (by decide) ?_
    refine pg_iaddN (k := 7 * i) (j := 2) hx hb (by decide) dL_law_672 ?_
    refine pg_sld hx hb hX hbl hbA hS (show 7 * i + 2 < L by omega) hL dL_law_673 ?_
    refine pg_iR (pg_rV (As := [.int (xs (7 * i + 1)), .int (xs (7 * i + 2))]) (rest := []) ⟨hx, hb, hml, hown, hts⟩ (cm_claim_no l D cI cZ a' H.size w n hnw h20 (xs (7 * i + 1)) (xs (7 * i + 2)) 2 ((pg_T_claim hR (xs (7 * i + 1)) (xs (7 * i + 2))).symm.trans hthr) (by decide)) (cwV 2 hts gL_law_X5_claim rfl rfl rfl (by decide +kernel) ⟨Nat.le_of_ble_eq_true rfl, Nat.le_of_ble_eq_true rfl⟩) (hK.sub [0, 1] rfl) (pg_PR hP) (pg_DR hD) 0 (ci := 5) rfl rfl rfl rfl hl.1 rfl (Nat.le_of_ble_eq_true rfl) dL_law_674 ⟨hc, hs⟩) hP hD hS hA (fun H locs hP hD hS => ?_)
    have hP : va_P D vwCl (lw_W cI cZ cL a a' o u (upd w.1 15 2, w.2) f) H := hP
    have hD : va_D (fun q : Nat => s.heap.size ≤ q) (lw_W cI cZ cL a a' o u (upd w.1 15 2, w.2) f) := hD
    refine lv_istore (lv' := [(6, .int 0), (5, .int 2), (0, .ref b), (1, .ref (a 0)), (2, .ref (a' 0)), (3, .ref o), (4, .int (nI (7 * i)))]) hx hb dL_law_677 hl (by decide) rfl (fun ls hl => ?_)
    refine lv_aload_n hx hb dL_law_679 rfl (lv_at hl 4 rfl) ?_
    refine pg_iR (pg_rV (As := []) (rest := []) ⟨hx, hb, hml, hown, hts⟩ (cm_thrown l D cI cZ a' H.size (upd w.1 15 2, w.2)) (cwV 0 hts gL_law_X5_thrown rfl rfl rfl (by decide +kernel) ⟨Nat.le_of_ble_eq_true rfl, Nat.le_of_ble_eq_true rfl⟩) (hK.sub [0, 1] rfl) (pg_PR hP) (pg_DR hD) 0 (ci := 5) rfl rfl rfl rfl hl.1 rfl (Nat.le_of_ble_eq_true rfl) dL_law_680 ⟨hc, hs⟩) hP hD hS hA (fun H locs hP hD hS => ?_)
    have hP : va_P D vwCl (lw_W cI cZ cL a a' o u (upd w.1 15 2, w.2) f) H := hP
    have hD : va_D (fun q : Nat => s.heap.size ≤ q) (lw_W cI cZ cL a a' o u (upd w.1 15 2, w.2) f) := hD
    refine lv_iload hx hb dL_law_683 (lv_at hl 1 rfl) ?_
    refine lv_icmp_eq (tgt := 690) hx hb dL_law_685 (by decide) (fun _ => ?_) (fun h9 => (h9 (pg_updk w.1 15 2)).elim)
    refine lv_iload hx hb dL_law_690 (lv_at hl 1 rfl) ?_
    refine lv_if_ne (tgt := 707) hx hb dL_law_692 (by decide) (fun _ => ?_) (fun h9 => absurd h9 (by decide))
    refine lv_goto (tgt := 1307) hx hb dL_law_707 (by decide) ?_
    exact kk H locs ls _ _ _ ⟨_, _, hR.thr 2⟩ hP hD hS (lv_sub hl [2, 3, 4, 5, 6] rfl)
  · refine lv_aload_n hx hb dL_law_642 rfl (lv_at hl 1 rfl) ?_
    refine lv_aload_n hx hb dL_law_643 rfl (lv_at hl 0 rfl) ?_
    refine lv_iload hx hb dL_law_644 (lv_at hl 4 rfl) ?_
    refine lv_iconst (v := 1) hx hb dL_law_646 (by decide) ?_
    refine pg_iaddN (k := 7 * i) (j := 1) hx hb (by decide) dL_law_647 ?_
    refine pg_sld hx hb hX hbl hbA hS (show 7 * i + 1 < L by omega) hL dL_law_648 ?_
    refine lv_aload_n hx hb dL_law_649 rfl (lv_at hl 0 rfl) ?_
    refine lv_iload hx hb dL_law_650 (lv_at hl 4 rfl) ?_
    refine lv_iconst (v := 2) hx hb dL_law_652 (by decide) ?_
    refine pg_iaddN (k := 7 * i) (j := 2) hx hb (by decide) dL_law_653 ?_
    refine pg_sld hx hb hX hbl hbA hS (show 7 * i + 2 < L by omega) hL dL_law_654 ?_
    refine lv_aload_n hx hb dL_law_655 rfl (lv_at hl 3 rfl) ?_
    refine pg_iL (pg_rSWT (As := [.ref (a 0), .int (xs (7 * i + 1)), .int (xs (7 * i + 2)), .ref o]) (rest := []) ⟨hx, hb, hml, hown, hts⟩ (cw_claim_3 l hfl D cI cZ cL a o H.size u f n hn h20 (xs (7 * i + 1)) (xs (7 * i + 2)) hthr) (vx_cwSW 4 hts gL_law_L_claim rfl rfl rfl (by decide +kernel) ⟨Nat.le_of_ble_eq_true rfl, Nat.le_of_ble_eq_true rfl⟩) hK (pg_PL hP) (pg_DL hD) hS hA hE rfl hl.1 rfl (Nat.le_of_ble_eq_true rfl) dL_law_656 ⟨hc, hs⟩) hP hD hS hA (fun H locs hP hD hS => ?_)
    have hP : va_P D vwCl (lw_W cI cZ cL a a' o u w f) H := hP
    have hD : va_D (fun q : Nat => s.heap.size ≤ q) (lw_W cI cZ cL a a' o u w f) := hD
    refine lv_istore (lv' := [(5, .int 3), (0, .ref b), (1, .ref (a 0)), (2, .ref (a' 0)), (3, .ref o), (4, .int (nI (7 * i)))]) hx hb dL_law_659 hl (by decide) rfl (fun ls hl => ?_)
    refine lv_aload_n hx hb dL_law_661 rfl (lv_at hl 3 rfl) ?_
    refine lv_aload_n hx hb dL_law_662 rfl (lv_at hl 1 rfl) ?_
    refine lv_iload hx hb dL_law_663 (lv_at hl 5 rfl) ?_
    refine lv_iconst (v := 1) hx hb dL_law_665 (by decide) ?_
    refine pg_iaddN (k := 7 * i) (j := 1) hx hb (by decide) dL_law_666 ?_
    refine pg_sld hx hb hX hbl hbA hS (show 7 * i + 1 < L by omega) hL dL_law_667 ?_
    refine lv_aload_n hx hb dL_law_668 rfl (lv_at hl 1 rfl) ?_
    refine lv_iload hx hb dL_law_669 (lv_at hl 5 rfl) ?_
    refine lv_iconst (v := 2) hx hb dL_law_671 (by decide) ?_
    refine pg_iaddN (k := 7 * i) (j := 2) hx hb (by decide) dL_law_672 ?_
    refine pg_sld hx hb hX hbl hbA hS (show 7 * i + 2 < L by omega) hL dL_law_673 ?_
    refine pg_iR (pg_rV (As := [.int (xs (7 * i + 1)), .int (xs (7 * i + 2))]) (rest := []) ⟨hx, hb, hml, hown, hts⟩ (cm_claim_no l D cI cZ a' H.size w n hnw h20 (xs (7 * i + 1)) (xs (7 * i + 2)) 3 ((pg_T_claim hR (xs (7 * i + 1)) (xs (7 * i + 2))).symm.trans hthr) (by decide)) (cwV 2 hts gL_law_X5_claim rfl rfl rfl (by decide +kernel) ⟨Nat.le_of_ble_eq_true rfl, Nat.le_of_ble_eq_true rfl⟩) (hK.sub [0, 1] rfl) (pg_PR hP) (pg_DR hD) 0 (ci := 5) rfl rfl rfl rfl hl.1 rfl (Nat.le_of_ble_eq_true rfl) dL_law_674 ⟨hc, hs⟩) hP hD hS hA (fun H locs hP hD hS => ?_)
    have hP : va_P D vwCl (lw_W cI cZ cL a a' o u (upd w.1 15 3, w.2) f) H := hP
    have hD : va_D (fun q : Nat => s.heap.size ≤ q) (lw_W cI cZ cL a a' o u (upd w.1 15 3, w.2) f) := hD
    refine lv_istore (lv' := [(6, .int 0), (5, .int 3), (0, .ref b), (1, .ref (a 0)), (2, .ref (a' 0)), (3, .ref o), (4, .int (nI (7 * i)))]) hx hb dL_law_677 hl (by decide) rfl (fun ls hl => ?_)
    refine lv_aload_n hx hb dL_law_679 rfl (lv_at hl 4 rfl) ?_
    refine pg_iR (pg_rV (As := []) (rest := []) ⟨hx, hb, hml, hown, hts⟩ (cm_thrown l D cI cZ a' H.size (upd w.1 15 3, w.2)) (cwV 0 hts gL_law_X5_thrown rfl rfl rfl (by decide +kernel) ⟨Nat.le_of_ble_eq_true rfl, Nat.le_of_ble_eq_true rfl⟩) (hK.sub [0, 1] rfl) (pg_PR hP) (pg_DR hD) 0 (ci := 5) rfl rfl rfl rfl hl.1 rfl (Nat.le_of_ble_eq_true rfl) dL_law_680 ⟨hc, hs⟩) hP hD hS hA (fun H locs hP hD hS => ?_)
    have hP : va_P D vwCl (lw_W cI cZ cL a a' o u (upd w.1 15 3, w.2) f) H := hP
    have hD : va_D (fun q : Nat => s.heap.size ≤ q) (lw_W cI cZ cL a a' o u (upd w.1 15 3, w.2) f) := hD
    refine lv_iload hx hb dL_law_683 (lv_at hl 1 rfl) ?_
    refine lv_icmp_eq (tgt := 690) hx hb dL_law_685 (by decide) (fun _ => ?_) (fun h9 => (h9 (pg_updk w.1 15 3)).elim)
    refine lv_iload hx hb dL_law_690 (lv_at hl 1 rfl) ?_
    refine lv_if_ne (tgt := 707) hx hb dL_law_692 (by decide) (fun _ => ?_) (fun h9 => absurd h9 (by decide))
    refine lv_goto (tgt := 1307) hx hb dL_law_707 (by decide) ?_
    exact kk H locs ls _ _ _ ⟨_, _, hR.thr 3⟩ hP hD hS (lv_sub hl [2, 3, 4, 5, 6] rfl)
set_option maxHeartbeats 4000000 in
set_option maxRecDepth 100000 in
theorem lc_8 (hfl : l.stackTraces = false) (hL : L ≤ 3584) (C0 : lw_At p s m meth c b L xs) (hK : va_K D vwCl (pg_tyL cI cZ cL) s) (hE : pg_Env (fun q : Nat => s.heap.size ≤ q) s s.heap) (hi : 7 * i + 7 ≤ L) (hc : cells + 1 ≤ 1072) (hs : slots + 6 ≤ 8564) (hI : pg_Inv u w) (hP : va_P D vwCl (lw_W cI cZ cL a a' o u w f) H) (hD : va_D (fun q : Nat => s.heap.size ≤ q) (lw_W cI cZ cL a a' o u w f)) (hS : va_S (fun q : Nat => s.heap.size ≤ q) s.heap H locs) (hl : lv_has ls 7 [(0, .ref b), (1, .ref (a 0)), (2, .ref (a' 0)), (3, .ref o), (4, .int (nI (7 * i)))])
    (kk : ∀ (H : Heap) (locs : List Loc) (ls : Array Slot) (u w : pg_St) (f : Nat → Int64), pg_Inv u w → va_P D vwCl (lw_W cI cZ cL a a' o u w f) H → va_D (fun q : Nat => s.heap.size ≤ q) (lw_W cI cZ cL a a' o u w f) → va_S (fun q : Nat => s.heap.size ≤ q) s.heap H locs → lv_has ls 7 [(0, .ref b), (1, .ref (a 0)), (2, .ref (a' 0)), (3, .ref o), (4, .int (nI (7 * i)))] → W p l e room_1 s m #[Value.ref b] below meth c H locs (cells + 1) (slots + 6) Q (F0 m 1307 ls [])) :
    W p l e room_1 s m #[Value.ref b] below meth c H locs cells slots Q (F0 m 710 ls []) := by
  obtain ⟨hx, hb, hr, hml, hown, hts, hX, hbl, hlocks, hgv⟩ := id C0
  have hts := fun w h => hts w (wsL_law_in w h)
  have hown : s.vm.findClass RL = some m.cls := hown
  have hb : c.code = cL_law := hb
  have hA : ∀ q : Nat, s.heap.size ≤ q → (fun q : Nat => s.heap.size ≤ q) q := fun _ h => h
  have hbA : ¬ (fun q : Nat => s.heap.size ≤ q) b := Nat.not_le.mpr hbl
  have hc0 : cells + 0 ≤ 1072 := by omega
  have hs0 : slots + 0 ≤ 8564 := by omega
  obtain ⟨n, t, hR⟩ := hI
  obtain ⟨-, -, ⟨hn, h20, ht, h4⟩, ⟨-, -, hmet, hzer⟩, -⟩ := id hR
  have hnw : w.1 10 = nI n := (hR.1.1 10 (by decide)).symm.trans hn
  have htw : w.1 13 = nI t := (hR.1.1 13 (by decide)).symm.trans ht
  rcases pg_c_offer u.2 (nI n) (xs (7 * i + 1)) (xs (7 * i + 2)) with hthr | hthr | hthr | hthr
  · refine lv_aload_n hx hb dL_law_710 rfl (lv_at hl 1 rfl) ?_
    refine lv_aload_n hx hb dL_law_711 rfl (lv_at hl 0 rfl) ?_
    refine lv_iload hx hb dL_law_712 (lv_at hl 4 rfl) ?_
    refine lv_iconst (v := 1) hx hb dL_law_714 (by decide) ?_
    refine pg_iaddN (k := 7 * i) (j := 1) hx hb (by decide) dL_law_715 ?_
    refine pg_sld hx hb hX hbl hbA hS (show 7 * i + 1 < L by omega) hL dL_law_716 ?_
    refine lv_aload_n hx hb dL_law_717 rfl (lv_at hl 0 rfl) ?_
    refine lv_iload hx hb dL_law_718 (lv_at hl 4 rfl) ?_
    refine lv_iconst (v := 2) hx hb dL_law_720 (by decide) ?_
    refine pg_iaddN (k := 7 * i) (j := 2) hx hb (by decide) dL_law_721 ?_
    refine pg_sld hx hb hX hbl hbA hS (show 7 * i + 2 < L by omega) hL dL_law_722 ?_
    refine lv_aload_n hx hb dL_law_723 rfl (lv_at hl 3 rfl) ?_
    refine pg_iL (pg_rSW (As := [.ref (a 0), .int (xs (7 * i + 1)), .int (xs (7 * i + 2)), .ref o]) (rest := []) ⟨hx, hb, hml, hown, hts⟩ (cw_offer_ok l D cI cZ cL a o H.size u f n hn h20 (xs (7 * i + 1)) (xs (7 * i + 2)) hthr) (vx_cwSW 4 hts gL_law_L_offer rfl rfl rfl (by decide +kernel) ⟨Nat.le_of_ble_eq_true rfl, Nat.le_of_ble_eq_true rfl⟩) hK (pg_PL hP) (pg_DL hD) rfl hl.1 rfl (Nat.le_of_ble_eq_true rfl) dL_law_724 ⟨hc0, hs0⟩) hP hD hS hA (fun H locs hP hD hS => ?_)
    have hP : va_P D vwCl (lw_W cI cZ cL a a' o (u.1, pg_row u.2 9 (upd (u.2 9) (xs (7 * i + 1)).toNatClampNeg (xs (7 * i + 2)))) w (vp_updL f 0 (u.2 9 (xs (7 * i + 1)).toNatClampNeg).toInt64)) H := hP
    have hD : va_D (fun q : Nat => s.heap.size ≤ q) (lw_W cI cZ cL a a' o (u.1, pg_row u.2 9 (upd (u.2 9) (xs (7 * i + 1)).toNatClampNeg (xs (7 * i + 2)))) w (vp_updL f 0 (u.2 9 (xs (7 * i + 1)).toNatClampNeg).toInt64)) := hD
    refine W.widen (k := cells + 1) (n := slots + 6) (by omega) (by omega) ?_
    refine lv_istore (lv' := [(5, .int 0), (0, .ref b), (1, .ref (a 0)), (2, .ref (a' 0)), (3, .ref o), (4, .int (nI (7 * i)))]) hx hb dL_law_727 hl (by decide) rfl (fun ls hl => ?_)
    refine lv_aload_n hx hb dL_law_729 rfl (lv_at hl 3 rfl) ?_
    refine lv_aload_n hx hb dL_law_730 rfl (lv_at hl 1 rfl) ?_
    refine lv_iload hx hb dL_law_731 (lv_at hl 5 rfl) ?_
    refine lv_iconst (v := 1) hx hb dL_law_733 (by decide) ?_
    refine pg_iaddN (k := 7 * i) (j := 1) hx hb (by decide) dL_law_734 ?_
    refine pg_sld hx hb hX hbl hbA hS (show 7 * i + 1 < L by omega) hL dL_law_735 ?_
    refine lv_aload_n hx hb dL_law_736 rfl (lv_at hl 1 rfl) ?_
    refine lv_iload hx hb dL_law_737 (lv_at hl 5 rfl) ?_
    refine lv_iconst (v := 2) hx hb dL_law_739 (by decide) ?_
    refine pg_iaddN (k := 7 * i) (j := 2) hx hb (by decide) dL_law_740 ?_
    refine pg_sld hx hb hX hbl hbA hS (show 7 * i + 2 < L by omega) hL dL_law_741 ?_
    refine pg_iR (pg_rV (As := [.int (xs (7 * i + 1)), .int (xs (7 * i + 2))]) (rest := []) ⟨hx, hb, hml, hown, hts⟩ (cm_offer_ok l D cI cZ a' H.size w n hnw h20 (xs (7 * i + 1)) (xs (7 * i + 2)) ((pg_T_offer hR (xs (7 * i + 1)) (xs (7 * i + 2))).symm.trans hthr)) (cwV 2 hts gL_law_X5_offer rfl rfl rfl (by decide +kernel) ⟨Nat.le_of_ble_eq_true rfl, Nat.le_of_ble_eq_true rfl⟩) (hK.sub [0, 1] rfl) (pg_PR hP) (pg_DR hD) 0 (ci := 5) rfl rfl rfl rfl hl.1 rfl (Nat.le_of_ble_eq_true rfl) dL_law_742 ⟨hc, hs⟩) hP hD hS hA (fun H locs hP hD hS => ?_)
    have hP : va_P D vwCl (lw_W cI cZ cL a a' o (u.1, pg_row u.2 9 (upd (u.2 9) (xs (7 * i + 1)).toNatClampNeg (xs (7 * i + 2)))) (upd w.1 15 0, pg_row w.2 9 (upd (w.2 9) (xs (7 * i + 1)).toNatClampNeg (xs (7 * i + 2)))) (vp_updL f 0 (u.2 9 (xs (7 * i + 1)).toNatClampNeg).toInt64)) H := hP
    have hD : va_D (fun q : Nat => s.heap.size ≤ q) (lw_W cI cZ cL a a' o (u.1, pg_row u.2 9 (upd (u.2 9) (xs (7 * i + 1)).toNatClampNeg (xs (7 * i + 2)))) (upd w.1 15 0, pg_row w.2 9 (upd (w.2 9) (xs (7 * i + 1)).toNatClampNeg (xs (7 * i + 2)))) (vp_updL f 0 (u.2 9 (xs (7 * i + 1)).toNatClampNeg).toInt64)) := hD
    refine lv_istore (lv' := [(6, .int (w.2 9 (xs (7 * i + 1)).toNatClampNeg)), (5, .int 0), (0, .ref b), (1, .ref (a 0)), (2, .ref (a' 0)), (3, .ref o), (4, .int (nI (7 * i)))]) hx hb dL_law_745 hl (by decide) rfl (fun ls hl => ?_)
    refine lv_aload_n hx hb dL_law_747 rfl (lv_at hl 4 rfl) ?_
    refine pg_iR (pg_rV (As := []) (rest := []) ⟨hx, hb, hml, hown, hts⟩ (cm_thrown l D cI cZ a' H.size (upd w.1 15 0, pg_row w.2 9 (upd (w.2 9) (xs (7 * i + 1)).toNatClampNeg (xs (7 * i + 2))))) (cwV 0 hts gL_law_X5_thrown rfl rfl rfl (by decide +kernel) ⟨Nat.le_of_ble_eq_true rfl, Nat.le_of_ble_eq_true rfl⟩) (hK.sub [0, 1] rfl) (pg_PR hP) (pg_DR hD) 0 (ci := 5) rfl rfl rfl rfl hl.1 rfl (Nat.le_of_ble_eq_true rfl) dL_law_748 ⟨hc, hs⟩) hP hD hS hA (fun H locs hP hD hS => ?_)
    have hP : va_P D vwCl (lw_W cI cZ cL a a' o (u.1, pg_row u.2 9 (upd (u.2 9) (xs (7 * i + 1)).toNatClampNeg (xs (7 * i + 2)))) (upd w.1 15 0, pg_row w.2 9 (upd (w.2 9) (xs (7 * i + 1)).toNatClampNeg (xs (7 * i + 2)))) (vp_updL f 0 (u.2 9 (xs (7 * i + 1)).toNatClampNeg).toInt64)) H := hP
    have hD : va_D (fun q : Nat => s.heap.size ≤ q) (lw_W cI cZ cL a a' o (u.1, pg_row u.2 9 (upd (u.2 9) (xs (7 * i + 1)).toNatClampNeg (xs (7 * i + 2)))) (upd w.1 15 0, pg_row w.2 9 (upd (w.2 9) (xs (7 * i + 1)).toNatClampNeg (xs (7 * i + 2)))) (vp_updL f 0 (u.2 9 (xs (7 * i + 1)).toNatClampNeg).toInt64)) := hD
    refine lv_iload hx hb dL_law_751 (lv_at hl 1 rfl) ?_
    refine lv_icmp_eq (tgt := 758) hx hb dL_law_753 (by decide) (fun _ => ?_) (fun h9 => (h9 (rfl)).elim)
    refine lv_iload hx hb dL_law_758 (lv_at hl 1 rfl) ?_
    refine lv_if_ne (tgt := 775) hx hb dL_law_760 (by decide) (fun h9 => (h9 rfl).elim) (fun _ => ?_)
    refine lv_aload_n hx hb dL_law_763 rfl (lv_at hl 5 rfl) ?_
    refine lv_iconst (v := 0) hx hb dL_law_764 (by decide) ?_
    refine va_lald hx hb hK hP 19 2 rfl rfl (show vp_in 0 1 from vp_in_nI (n := 0) (by decide) (by decide)) dL_law_765 ?_
    refine lv_iload hx hb dL_law_766 (lv_at hl 0 rfl) ?_
    refine lv_i2l (v := (w.2 9 (xs (7 * i + 1)).toNatClampNeg).toInt64) hx hb dL_law_768 rfl ?_
    refine pg_lcmpE hx hb ((pg_updL0 f _).trans (congrArg Int32.toInt64 (congrFun (hR.1.2 9 (by decide)) _))) dL_law_769 ?_
    refine lv_if_eq (tgt := 775) hx hb dL_law_770 (by decide) (fun _ => ?_) (fun h9 => (h9 rfl).elim)
    refine lv_goto (tgt := 1307) hx hb dL_law_775 (by decide) ?_
    exact kk H locs ls _ _ _ ⟨_, _, pg_I_offer hR (xs (7 * i + 1)) (xs (7 * i + 2))⟩ hP hD hS (lv_sub hl [2, 3, 4, 5, 6] rfl)
  · refine lv_aload_n hx hb dL_law_710 rfl (lv_at hl 1 rfl) ?_
    refine lv_aload_n hx hb dL_law_711 rfl (lv_at hl 0 rfl) ?_
    refine lv_iload hx hb dL_law_712 (lv_at hl 4 rfl) ?_
    refine lv_iconst (v := 1) hx hb dL_law_714 (by decide) ?_
    refine pg_iaddN (k := 7 * i) (j := 1) hx hb (by decide) dL_law_715 ?_
    refine pg_sld hx hb hX hbl hbA hS (show 7 * i + 1 < L by omega) hL dL_law_716 ?_
    refine lv_aload_n hx hb dL_law_717 rfl (lv_at hl 0 rfl) ?_
    refine lv_iload hx hb dL_law_718 (lv_at hl 4 rfl) ?_
    refine lv_iconst (v := 2) hx hb dL_law_720 (by decide) ?_
    refine pg_iaddN (k := 7 * i) (j := 2) hx hb (by decide) dL_law_721 ?_
    refine pg_sld hx hb hX hbl hbA hS (show 7 * i + 2 < L by omega) hL dL_law_722 ?_
    refine lv_aload_n hx hb dL_law_723 rfl (lv_at hl 3 rfl) ?_
    refine pg_iL (pg_rSWT (As := [.ref (a 0), .int (xs (7 * i + 1)), .int (xs (7 * i + 2)), .ref o]) (rest := []) ⟨hx, hb, hml, hown, hts⟩ (cw_offer_1 l hfl D cI cZ cL a o H.size u f n hn h20 (xs (7 * i + 1)) (xs (7 * i + 2)) hthr) (vx_cwSW 4 hts gL_law_L_offer rfl rfl rfl (by decide +kernel) ⟨Nat.le_of_ble_eq_true rfl, Nat.le_of_ble_eq_true rfl⟩) hK (pg_PL hP) (pg_DL hD) hS hA hE rfl hl.1 rfl (Nat.le_of_ble_eq_true rfl) dL_law_724 ⟨hc, hs⟩) hP hD hS hA (fun H locs hP hD hS => ?_)
    have hP : va_P D vwCl (lw_W cI cZ cL a a' o u w f) H := hP
    have hD : va_D (fun q : Nat => s.heap.size ≤ q) (lw_W cI cZ cL a a' o u w f) := hD
    refine lv_istore (lv' := [(5, .int 1), (0, .ref b), (1, .ref (a 0)), (2, .ref (a' 0)), (3, .ref o), (4, .int (nI (7 * i)))]) hx hb dL_law_727 hl (by decide) rfl (fun ls hl => ?_)
    refine lv_aload_n hx hb dL_law_729 rfl (lv_at hl 3 rfl) ?_
    refine lv_aload_n hx hb dL_law_730 rfl (lv_at hl 1 rfl) ?_
    refine lv_iload hx hb dL_law_731 (lv_at hl 5 rfl) ?_
    refine lv_iconst (v := 1) hx hb dL_law_733 (by decide) ?_
    refine pg_iaddN (k := 7 * i) (j := 1) hx hb (by decide) dL_law_734 ?_
    refine pg_sld hx hb hX hbl hbA hS (show 7 * i + 1 < L by omega) hL dL_law_735 ?_
    refine lv_aload_n hx hb dL_law_736 rfl (lv_at hl 1 rfl) ?_
    refine lv_iload hx hb dL_law_737 (lv_at hl 5 rfl) ?_
    refine lv_iconst (v := 2) hx hb dL_law_739 (by decide) ?_
    refine pg_iaddN (k := 7 * i) (j := 2) hx hb (by decide) dL_law_740 ?_
    refine pg_sld hx hb hX hbl hbA hS (show 7 * i + 2 < L by omega) hL dL_law_741 ?_
    refine pg_iR (pg_rV (As := [.int (xs (7 * i + 1)), .int (xs (7 * i + 2))]) (rest := []) ⟨hx, hb, hml, hown, hts⟩ (cm_offer_no l D cI cZ a' H.size w n hnw h20 (xs (7 * i + 1)) (xs (7 * i + 2)) 1 ((pg_T_offer hR (xs (7 * i + 1)) (xs (7 * i + 2))).symm.trans hthr) (by decide)) (cwV 2 hts gL_law_X5_offer rfl rfl rfl (by decide +kernel) ⟨Nat.le_of_ble_eq_true rfl, Nat.le_of_ble_eq_true rfl⟩) (hK.sub [0, 1] rfl) (pg_PR hP) (pg_DR hD) 0 (ci := 5) rfl rfl rfl rfl hl.1 rfl (Nat.le_of_ble_eq_true rfl) dL_law_742 ⟨hc, hs⟩) hP hD hS hA (fun H locs hP hD hS => ?_)
    have hP : va_P D vwCl (lw_W cI cZ cL a a' o u (upd w.1 15 1, w.2) f) H := hP
    have hD : va_D (fun q : Nat => s.heap.size ≤ q) (lw_W cI cZ cL a a' o u (upd w.1 15 1, w.2) f) := hD
    refine lv_istore (lv' := [(6, .int 0), (5, .int 1), (0, .ref b), (1, .ref (a 0)), (2, .ref (a' 0)), (3, .ref o), (4, .int (nI (7 * i)))]) hx hb dL_law_745 hl (by decide) rfl (fun ls hl => ?_)
    refine lv_aload_n hx hb dL_law_747 rfl (lv_at hl 4 rfl) ?_
    refine pg_iR (pg_rV (As := []) (rest := []) ⟨hx, hb, hml, hown, hts⟩ (cm_thrown l D cI cZ a' H.size (upd w.1 15 1, w.2)) (cwV 0 hts gL_law_X5_thrown rfl rfl rfl (by decide +kernel) ⟨Nat.le_of_ble_eq_true rfl, Nat.le_of_ble_eq_true rfl⟩) (hK.sub [0, 1] rfl) (pg_PR hP) (pg_DR hD) 0 (ci := 5) rfl rfl rfl rfl hl.1 rfl (Nat.le_of_ble_eq_true rfl) dL_law_748 ⟨hc, hs⟩) hP hD hS hA (fun H locs hP hD hS => ?_)
    have hP : va_P D vwCl (lw_W cI cZ cL a a' o u (upd w.1 15 1, w.2) f) H := hP
    have hD : va_D (fun q : Nat => s.heap.size ≤ q) (lw_W cI cZ cL a a' o u (upd w.1 15 1, w.2) f) := hD
    refine lv_iload hx hb dL_law_751 (lv_at hl 1 rfl) ?_
    refine lv_icmp_eq (tgt := 758) hx hb dL_law_753 (by decide) (fun _ => ?_) (fun h9 => (h9 (pg_updk w.1 15 1)).elim)
    refine lv_iload hx hb dL_law_758 (lv_at hl 1 rfl) ?_
    refine lv_if_ne (tgt := 775) hx hb dL_law_760 (by decide) (fun _ => ?_) (fun h9 => absurd h9 (by decide))
    refine lv_goto (tgt := 1307) hx hb dL_law_775 (by decide) ?_
    exact kk H locs ls _ _ _ ⟨_, _, hR.thr 1⟩ hP hD hS (lv_sub hl [2, 3, 4, 5, 6] rfl)
  · refine lv_aload_n hx hb dL_law_710 rfl (lv_at hl 1 rfl) ?_
    refine lv_aload_n hx hb dL_law_711 rfl (lv_at hl 0 rfl) ?_
    refine lv_iload hx hb dL_law_712 (lv_at hl 4 rfl) ?_
    refine lv_iconst (v := 1) hx hb dL_law_714 (by decide) ?_
    refine pg_iaddN (k := 7 * i) (j := 1) hx hb (by decide) dL_law_715 ?_
    refine pg_sld hx hb hX hbl hbA hS (show 7 * i + 1 < L by omega) hL dL_law_716 ?_
    refine lv_aload_n hx hb dL_law_717 rfl (lv_at hl 0 rfl) ?_
    refine lv_iload hx hb dL_law_718 (lv_at hl 4 rfl) ?_
    refine lv_iconst (v := 2) hx hb dL_law_720 (by decide) ?_
    refine pg_iaddN (k := 7 * i) (j := 2) hx hb (by decide) dL_law_721 ?_
    refine pg_sld hx hb hX hbl hbA hS (show 7 * i + 2 < L by omega) hL dL_law_722 ?_
    refine lv_aload_n hx hb dL_law_723 rfl (lv_at hl 3 rfl) ?_
    refine pg_iL (pg_rSWT (As := [.ref (a 0), .int (xs (7 * i + 1)), .int (xs (7 * i + 2)), .ref o]) (rest := []) ⟨hx, hb, hml, hown, hts⟩ (cw_offer_2 l hfl D cI cZ cL a o H.size u f n hn h20 (xs (7 * i + 1)) (xs (7 * i + 2)) hthr) (vx_cwSW 4 hts gL_law_L_offer rfl rfl rfl (by decide +kernel) ⟨Nat.le_of_ble_eq_true rfl, Nat.le_of_ble_eq_true rfl⟩) hK (pg_PL hP) (pg_DL hD) hS hA hE rfl hl.1 rfl (Nat.le_of_ble_eq_true rfl) dL_law_724 ⟨hc, hs⟩) hP hD hS hA (fun H locs hP hD hS => ?_)
    have hP : va_P D vwCl (lw_W cI cZ cL a a' o u w f) H := hP
    have hD : va_D (fun q : Nat => s.heap.size ≤ q) (lw_W cI cZ cL a a' o u w f) := hD
    refine lv_istore (lv' := [(5, .int 2), (0, .ref b), (1, .ref (a 0)), (2, .ref (a' 0)), (3, .ref o), (4, .int (nI (7 * i)))]) hx hb dL_law_727 hl (by decide) rfl (fun ls hl => ?_)
    refine lv_aload_n hx hb dL_law_729 rfl (lv_at hl 3 rfl) ?_
    refine lv_aload_n hx hb dL_law_730 rfl (lv_at hl 1 rfl) ?_
    refine lv_iload hx hb dL_law_731 (lv_at hl 5 rfl) ?_
    refine lv_iconst (v := 1) hx hb dL_law_733 (by decide) ?_
    refine pg_iaddN (k := 7 * i) (j := 1) hx hb (by decide) dL_law_734 ?_
    refine pg_sld hx hb hX hbl hbA hS (show 7 * i + 1 < L by omega) hL dL_law_735 ?_
    refine lv_aload_n hx hb dL_law_736 rfl (lv_at hl 1 rfl) ?_
    refine lv_iload hx hb dL_law_737 (lv_at hl 5 rfl) ?_
    refine lv_iconst (v := 2) hx hb dL_law_739 (by decide) ?_
    refine pg_iaddN (k := 7 * i) (j := 2) hx hb (by decide) dL_law_740 ?_
    refine pg_sld hx hb hX hbl hbA hS (show 7 * i + 2 < L by omega) hL dL_law_741 ?_
    refine pg_iR (pg_rV (As := [.int (xs (7 * i + 1)), .int (xs (7 * i + 2))]) (rest := []) ⟨hx, hb, hml, hown, hts⟩ (cm_offer_no l D cI cZ a' H.size w n hnw h20 (xs (7 * i + 1)) (xs (7 * i + 2)) 2 ((pg_T_offer hR (xs (7 * i + 1)) (xs (7 * i + 2))).symm.trans hthr) (by decide)) (cwV 2 hts gL_law_X5_offer rfl rfl rfl (by decide +kernel) ⟨Nat.le_of_ble_eq_true rfl, Nat.le_of_ble_eq_true rfl⟩) (hK.sub [0, 1] rfl) (pg_PR hP) (pg_DR hD) 0 (ci := 5) rfl rfl rfl rfl hl.1 rfl (Nat.le_of_ble_eq_true rfl) dL_law_742 ⟨hc, hs⟩) hP hD hS hA (fun H locs hP hD hS => ?_)
    have hP : va_P D vwCl (lw_W cI cZ cL a a' o u (upd w.1 15 2, w.2) f) H := hP
    have hD : va_D (fun q : Nat => s.heap.size ≤ q) (lw_W cI cZ cL a a' o u (upd w.1 15 2, w.2) f) := hD
    refine lv_istore (lv' := [(6, .int 0), (5, .int 2), (0, .ref b), (1, .ref (a 0)), (2, .ref (a' 0)), (3, .ref o), (4, .int (nI (7 * i)))]) hx hb dL_law_745 hl (by decide) rfl (fun ls hl => ?_)
    refine lv_aload_n hx hb dL_law_747 rfl (lv_at hl 4 rfl) ?_
    refine pg_iR (pg_rV (As := []) (rest := []) ⟨hx, hb, hml, hown, hts⟩ (cm_thrown l D cI cZ a' H.size (upd w.1 15 2, w.2)) (cwV 0 hts gL_law_X5_thrown rfl rfl rfl (by decide +kernel) ⟨Nat.le_of_ble_eq_true rfl, Nat.le_of_ble_eq_true rfl⟩) (hK.sub [0, 1] rfl) (pg_PR hP) (pg_DR hD) 0 (ci := 5) rfl rfl rfl rfl hl.1 rfl (Nat.le_of_ble_eq_true rfl) dL_law_748 ⟨hc, hs⟩) hP hD hS hA (fun H locs hP hD hS => ?_)
    have hP : va_P D vwCl (lw_W cI cZ cL a a' o u (upd w.1 15 2, w.2) f) H := hP
    have hD : va_D (fun q : Nat => s.heap.size ≤ q) (lw_W cI cZ cL a a' o u (upd w.1 15 2, w.2) f) := hD
    refine lv_iload hx hb dL_law_751 (lv_at hl 1 rfl) ?_
    refine lv_icmp_eq (tgt := 758) hx hb dL_law_753 (by decide) (fun _ => ?_) (fun h9 => (h9 (pg_updk w.1 15 2)).elim)
    refine lv_iload hx hb dL_law_758 (lv_at hl 1 rfl) ?_
    refine lv_if_ne (tgt := 775) hx hb dL_law_760 (by decide) (fun _ => ?_) (fun h9 => absurd h9 (by decide))
    refine lv_goto (tgt := 1307) hx hb dL_law_775 (by decide) ?_
    exact kk H locs ls _ _ _ ⟨_, _, hR.thr 2⟩ hP hD hS (lv_sub hl [2, 3, 4, 5, 6] rfl)
  · refine lv_aload_n hx hb dL_law_710 rfl (lv_at hl 1 rfl) ?_
    refine lv_aload_n hx hb dL_law_711 rfl (lv_at hl 0 rfl) ?_
    refine lv_iload hx hb dL_law_712 (lv_at hl 4 rfl) ?_
    refine lv_iconst (v := 1) hx hb dL_law_714 (by decide) ?_
    refine pg_iaddN (k := 7 * i) (j := 1) hx hb (by decide) dL_law_715 ?_
    refine pg_sld hx hb hX hbl hbA hS (show 7 * i + 1 < L by omega) hL dL_law_716 ?_
    refine lv_aload_n hx hb dL_law_717 rfl (lv_at hl 0 rfl) ?_
    refine lv_iload hx hb dL_law_718 (lv_at hl 4 rfl) ?_
    refine lv_iconst (v := 2) hx hb dL_law_720 (by decide) ?_
    refine pg_iaddN (k := 7 * i) (j := 2) hx hb (by decide) dL_law_721 ?_
    refine pg_sld hx hb hX hbl hbA hS (show 7 * i + 2 < L by omega) hL dL_law_722 ?_
    refine lv_aload_n hx hb dL_law_723 rfl (lv_at hl 3 rfl) ?_
    refine pg_iL (pg_rSWT (As := [.ref (a 0), .int (xs (7 * i + 1)), .int (xs (7 * i + 2)), .ref o]) (rest := []) ⟨hx, hb, hml, hown, hts⟩ (cw_offer_3 l hfl D cI cZ cL a o H.size u f n hn h20 (xs (7 * i + 1)) (xs (7 * i + 2)) hthr) (vx_cwSW 4 hts gL_law_L_offer rfl rfl rfl (by decide +kernel) ⟨Nat.le_of_ble_eq_true rfl, Nat.le_of_ble_eq_true rfl⟩) hK (pg_PL hP) (pg_DL hD) hS hA hE rfl hl.1 rfl (Nat.le_of_ble_eq_true rfl) dL_law_724 ⟨hc, hs⟩) hP hD hS hA (fun H locs hP hD hS => ?_)
    have hP : va_P D vwCl (lw_W cI cZ cL a a' o u w f) H := hP
    have hD : va_D (fun q : Nat => s.heap.size ≤ q) (lw_W cI cZ cL a a' o u w f) := hD
    refine lv_istore (lv' := [(5, .int 3), (0, .ref b), (1, .ref (a 0)), (2, .ref (a' 0)), (3, .ref o), (4, .int (nI (7 * i)))]) hx hb dL_law_727 hl (by decide) rfl (fun ls hl => ?_)
    refine lv_aload_n hx hb dL_law_729 rfl (lv_at hl 3 rfl) ?_
    refine lv_aload_n hx hb dL_law_730 rfl (lv_at hl 1 rfl) ?_
    refine lv_iload hx hb dL_law_731 (lv_at hl 5 rfl) ?_
    refine lv_iconst (v := 1) hx hb dL_law_733 (by decide) ?_
    refine pg_iaddN (k := 7 * i) (j := 1) hx hb (by decide) dL_law_734 ?_
    refine pg_sld hx hb hX hbl hbA hS (show 7 * i + 1 < L by omega) hL dL_law_735 ?_
    refine lv_aload_n hx hb dL_law_736 rfl (lv_at hl 1 rfl) ?_
    refine lv_iload hx hb dL_law_737 (lv_at hl 5 rfl) ?_
    refine lv_iconst (v := 2) hx hb dL_law_739 (by decide) ?_
    refine pg_iaddN (k := 7 * i) (j := 2) hx hb (by decide) dL_law_740 ?_
    refine pg_sld hx hb hX hbl hbA hS (show 7 * i + 2 < L by omega) hL dL_law_741 ?_
    refine pg_iR (pg_rV (As := [.int (xs (7 * i + 1)), .int (xs (7 * i + 2))]) (rest := []) ⟨hx, hb, hml, hown, hts⟩ (cm_offer_no l D cI cZ a' H.size w n hnw h20 (xs (7 * i + 1)) (xs (7 * i + 2)) 3 ((pg_T_offer hR (xs (7 * i + 1)) (xs (7 * i + 2))).symm.trans hthr) (by decide)) (cwV 2 hts gL_law_X5_offer rfl rfl rfl (by decide +kernel) ⟨Nat.le_of_ble_eq_true rfl, Nat.le_of_ble_eq_true rfl⟩) (hK.sub [0, 1] rfl) (pg_PR hP) (pg_DR hD) 0 (ci := 5) rfl rfl rfl rfl hl.1 rfl (Nat.le_of_ble_eq_true rfl) dL_law_742 ⟨hc, hs⟩) hP hD hS hA (fun H locs hP hD hS => ?_)
    have hP : va_P D vwCl (lw_W cI cZ cL a a' o u (upd w.1 15 3, w.2) f) H := hP
    have hD : va_D (fun q : Nat => s.heap.size ≤ q) (lw_W cI cZ cL a a' o u (upd w.1 15 3, w.2) f) := hD
    refine lv_istore (lv' := [(6, .int 0), (5, .int 3), (0, .ref b), (1, .ref (a 0)), (2, .ref (a' 0)), (3, .ref o), (4, .int (nI (7 * i)))]) hx hb dL_law_745 hl (by decide) rfl (fun ls hl => ?_)
    refine lv_aload_n hx hb dL_law_747 rfl (lv_at hl 4 rfl) ?_
    refine pg_iR (pg_rV (As := []) (rest := []) ⟨hx, hb, hml, hown, hts⟩ (cm_thrown l D cI cZ a' H.size (upd w.1 15 3, w.2)) (cwV 0 hts gL_law_X5_thrown rfl rfl rfl (by decide +kernel) ⟨Nat.le_of_ble_eq_true rfl, Nat.le_of_ble_eq_true rfl⟩) (hK.sub [0, 1] rfl) (pg_PR hP) (pg_DR hD) 0 (ci := 5) rfl rfl rfl rfl hl.1 rfl (Nat.le_of_ble_eq_true rfl) dL_law_748 ⟨hc, hs⟩) hP hD hS hA (fun H locs hP hD hS => ?_)
    have hP : va_P D vwCl (lw_W cI cZ cL a a' o u (upd w.1 15 3, w.2) f) H := hP
    have hD : va_D (fun q : Nat => s.heap.size ≤ q) (lw_W cI cZ cL a a' o u (upd w.1 15 3, w.2) f) := hD
    refine lv_iload hx hb dL_law_751 (lv_at hl 1 rfl) ?_
    refine lv_icmp_eq (tgt := 758) hx hb dL_law_753 (by decide) (fun _ => ?_) (fun h9 => (h9 (pg_updk w.1 15 3)).elim)
    refine lv_iload hx hb dL_law_758 (lv_at hl 1 rfl) ?_
    refine lv_if_ne (tgt := 775) hx hb dL_law_760 (by decide) (fun _ => ?_) (fun h9 => absurd h9 (by decide))
    refine lv_goto (tgt := 1307) hx hb dL_law_775 (by decide) ?_
    exact kk H locs ls _ _ _ ⟨_, _, hR.thr 3⟩ hP hD hS (lv_sub hl [2, 3, 4, 5, 6] rfl)
set_option maxHeartbeats 4000000 in
set_option maxRecDepth 100000 in
theorem lc_9 (hfl : l.stackTraces = false) (hL : L ≤ 3584) (C0 : lw_At p s m meth c b L xs) (hK : va_K D vwCl (pg_tyL cI cZ cL) s) (hE : pg_Env (fun q : Nat => s.heap.size ≤ q) s s.heap) (hi : 7 * i + 7 ≤ L) (hc : cells + 1 ≤ 1072) (hs : slots + 6 ≤ 8564) (hI : pg_Inv u w) (hP : va_P D vwCl (lw_W cI cZ cL a a' o u w f) H) (hD : va_D (fun q : Nat => s.heap.size ≤ q) (lw_W cI cZ cL a a' o u w f)) (hS : va_S (fun q : Nat => s.heap.size ≤ q) s.heap H locs) (hl : lv_has ls 7 [(0, .ref b), (1, .ref (a 0)), (2, .ref (a' 0)), (3, .ref o), (4, .int (nI (7 * i)))])
    (kk : ∀ (H : Heap) (locs : List Loc) (ls : Array Slot) (u w : pg_St) (f : Nat → Int64), pg_Inv u w → va_P D vwCl (lw_W cI cZ cL a a' o u w f) H → va_D (fun q : Nat => s.heap.size ≤ q) (lw_W cI cZ cL a a' o u w f) → va_S (fun q : Nat => s.heap.size ≤ q) s.heap H locs → lv_has ls 7 [(0, .ref b), (1, .ref (a 0)), (2, .ref (a' 0)), (3, .ref o), (4, .int (nI (7 * i)))] → W p l e room_1 s m #[Value.ref b] below meth c H locs (cells + 1) (slots + 6) Q (F0 m 1307 ls [])) :
    W p l e room_1 s m #[Value.ref b] below meth c H locs cells slots Q (F0 m 778 ls []) := by
  obtain ⟨hx, hb, hr, hml, hown, hts, hX, hbl, hlocks, hgv⟩ := id C0
  have hts := fun w h => hts w (wsL_law_in w h)
  have hown : s.vm.findClass RL = some m.cls := hown
  have hb : c.code = cL_law := hb
  have hA : ∀ q : Nat, s.heap.size ≤ q → (fun q : Nat => s.heap.size ≤ q) q := fun _ h => h
  have hbA : ¬ (fun q : Nat => s.heap.size ≤ q) b := Nat.not_le.mpr hbl
  have hc0 : cells + 0 ≤ 1072 := by omega
  have hs0 : slots + 0 ≤ 8564 := by omega
  obtain ⟨n, t, hR⟩ := hI
  obtain ⟨-, -, ⟨hn, h20, ht, h4⟩, ⟨-, -, hmet, hzer⟩, -⟩ := id hR
  have hnw : w.1 10 = nI n := (hR.1.1 10 (by decide)).symm.trans hn
  have htw : w.1 13 = nI t := (hR.1.1 13 (by decide)).symm.trans ht
  rcases pg_c_agree u.2 (nI n) (xs (7 * i + 1)) with hthr | hthr | hthr
  · have hJ := pg_J_agree hR hthr
    refine lv_aload_n hx hb dL_law_778 rfl (lv_at hl 1 rfl) ?_
    refine lv_aload_n hx hb dL_law_779 rfl (lv_at hl 0 rfl) ?_
    refine lv_iload hx hb dL_law_780 (lv_at hl 4 rfl) ?_
    refine lv_iconst (v := 1) hx hb dL_law_782 (by decide) ?_
    refine pg_iaddN (k := 7 * i) (j := 1) hx hb (by decide) dL_law_783 ?_
    refine pg_sld hx hb hX hbl hbA hS (show 7 * i + 1 < L by omega) hL dL_law_784 ?_
    refine lv_aload_n hx hb dL_law_785 rfl (lv_at hl 3 rfl) ?_
    refine pg_iL (pg_rSW (As := [.ref (a 0), .int (xs (7 * i + 1)), .ref o]) (rest := []) ⟨hx, hb, hml, hown, hts⟩ (cw_agree_ok l D cI cZ cL a o H.size u f n hn h20 (xs (7 * i + 1)) hthr) (vx_cwSW 3 hts gL_law_L_agree rfl rfl rfl (by decide +kernel) ⟨Nat.le_of_ble_eq_true rfl, Nat.le_of_ble_eq_true rfl⟩) hK (pg_PL hP) (pg_DL hD) rfl hl.1 rfl (Nat.le_of_ble_eq_true rfl) dL_law_786 ⟨hc0, hs0⟩) hP hD hS hA (fun H locs hP hD hS => ?_)
    have hP : va_P D vwCl (lw_W cI cZ cL a a' o (pg_pay (pg_at u (xs (7 * i + 1)).toNatClampNeg (u.2 9 (xs (7 * i + 1)).toNatClampNeg)) n (u.1 3)) w (vp_updL f 0 (pg_back (pg_at u (xs (7 * i + 1)).toNatClampNeg (u.2 9 (xs (7 * i + 1)).toNatClampNeg)) n).toInt64)) H := hP
    have hD : va_D (fun q : Nat => s.heap.size ≤ q) (lw_W cI cZ cL a a' o (pg_pay (pg_at u (xs (7 * i + 1)).toNatClampNeg (u.2 9 (xs (7 * i + 1)).toNatClampNeg)) n (u.1 3)) w (vp_updL f 0 (pg_back (pg_at u (xs (7 * i + 1)).toNatClampNeg (u.2 9 (xs (7 * i + 1)).toNatClampNeg)) n).toInt64)) := hD
    refine W.widen (k := cells + 1) (n := slots + 6) (by omega) (by omega) ?_
    refine lv_istore (lv' := [(5, .int 0), (0, .ref b), (1, .ref (a 0)), (2, .ref (a' 0)), (3, .ref o), (4, .int (nI (7 * i)))]) hx hb dL_law_789 hl (by decide) rfl (fun ls hl => ?_)
    refine lv_aload_n hx hb dL_law_791 rfl (lv_at hl 3 rfl) ?_
    refine lv_aload_n hx hb dL_law_792 rfl (lv_at hl 1 rfl) ?_
    refine lv_iload hx hb dL_law_793 (lv_at hl 5 rfl) ?_
    refine lv_iconst (v := 1) hx hb dL_law_795 (by decide) ?_
    refine pg_iaddN (k := 7 * i) (j := 1) hx hb (by decide) dL_law_796 ?_
    refine pg_sld hx hb hX hbl hbA hS (show 7 * i + 1 < L by omega) hL dL_law_797 ?_
    refine pg_iR (pg_rV (As := [.int (xs (7 * i + 1))]) (rest := []) ⟨hx, hb, hml, hown, hts⟩ (cm_agree_ok l D cI cZ a' H.size w n hnw h20 (xs (7 * i + 1)) ((pg_T_agree hR (xs (7 * i + 1))).symm.trans hthr)) (cwV 1 hts gL_law_X5_agree rfl rfl rfl (by decide +kernel) ⟨Nat.le_of_ble_eq_true rfl, Nat.le_of_ble_eq_true rfl⟩) (hK.sub [0, 1] rfl) (pg_PR hP) (pg_DR hD) 0 (ci := 5) rfl rfl rfl rfl hl.1 rfl (Nat.le_of_ble_eq_true rfl) dL_law_798 ⟨hc, hs⟩) hP hD hS hA (fun H locs hP hD hS => ?_)
    have hP : va_P D vwCl (lw_W cI cZ cL a a' o (pg_pay (pg_at u (xs (7 * i + 1)).toNatClampNeg (u.2 9 (xs (7 * i + 1)).toNatClampNeg)) n (u.1 3)) (pg_pay (pg_at (upd w.1 15 0, w.2) (xs (7 * i + 1)).toNatClampNeg (w.2 9 (xs (7 * i + 1)).toNatClampNeg)) n (w.1 3)) (vp_updL f 0 (pg_back (pg_at u (xs (7 * i + 1)).toNatClampNeg (u.2 9 (xs (7 * i + 1)).toNatClampNeg)) n).toInt64)) H := hP
    have hD : va_D (fun q : Nat => s.heap.size ≤ q) (lw_W cI cZ cL a a' o (pg_pay (pg_at u (xs (7 * i + 1)).toNatClampNeg (u.2 9 (xs (7 * i + 1)).toNatClampNeg)) n (u.1 3)) (pg_pay (pg_at (upd w.1 15 0, w.2) (xs (7 * i + 1)).toNatClampNeg (w.2 9 (xs (7 * i + 1)).toNatClampNeg)) n (w.1 3)) (vp_updL f 0 (pg_back (pg_at u (xs (7 * i + 1)).toNatClampNeg (u.2 9 (xs (7 * i + 1)).toNatClampNeg)) n).toInt64)) := hD
    refine lv_istore (lv' := [(6, .int (pg_back (pg_at (upd w.1 15 0, w.2) (xs (7 * i + 1)).toNatClampNeg (w.2 9 (xs (7 * i + 1)).toNatClampNeg)) n)), (5, .int 0), (0, .ref b), (1, .ref (a 0)), (2, .ref (a' 0)), (3, .ref o), (4, .int (nI (7 * i)))]) hx hb dL_law_801 hl (by decide) rfl (fun ls hl => ?_)
    refine lv_aload_n hx hb dL_law_803 rfl (lv_at hl 4 rfl) ?_
    refine pg_iR (pg_rV (As := []) (rest := []) ⟨hx, hb, hml, hown, hts⟩ (cm_thrown l D cI cZ a' H.size (pg_pay (pg_at (upd w.1 15 0, w.2) (xs (7 * i + 1)).toNatClampNeg (w.2 9 (xs (7 * i + 1)).toNatClampNeg)) n (w.1 3))) (cwV 0 hts gL_law_X5_thrown rfl rfl rfl (by decide +kernel) ⟨Nat.le_of_ble_eq_true rfl, Nat.le_of_ble_eq_true rfl⟩) (hK.sub [0, 1] rfl) (pg_PR hP) (pg_DR hD) 0 (ci := 5) rfl rfl rfl rfl hl.1 rfl (Nat.le_of_ble_eq_true rfl) dL_law_804 ⟨hc, hs⟩) hP hD hS hA (fun H locs hP hD hS => ?_)
    have hP : va_P D vwCl (lw_W cI cZ cL a a' o (pg_pay (pg_at u (xs (7 * i + 1)).toNatClampNeg (u.2 9 (xs (7 * i + 1)).toNatClampNeg)) n (u.1 3)) (pg_pay (pg_at (upd w.1 15 0, w.2) (xs (7 * i + 1)).toNatClampNeg (w.2 9 (xs (7 * i + 1)).toNatClampNeg)) n (w.1 3)) (vp_updL f 0 (pg_back (pg_at u (xs (7 * i + 1)).toNatClampNeg (u.2 9 (xs (7 * i + 1)).toNatClampNeg)) n).toInt64)) H := hP
    have hD : va_D (fun q : Nat => s.heap.size ≤ q) (lw_W cI cZ cL a a' o (pg_pay (pg_at u (xs (7 * i + 1)).toNatClampNeg (u.2 9 (xs (7 * i + 1)).toNatClampNeg)) n (u.1 3)) (pg_pay (pg_at (upd w.1 15 0, w.2) (xs (7 * i + 1)).toNatClampNeg (w.2 9 (xs (7 * i + 1)).toNatClampNeg)) n (w.1 3)) (vp_updL f 0 (pg_back (pg_at u (xs (7 * i + 1)).toNatClampNeg (u.2 9 (xs (7 * i + 1)).toNatClampNeg)) n).toInt64)) := hD
    refine lv_iload hx hb dL_law_807 (lv_at hl 1 rfl) ?_
    refine lv_icmp_eq (tgt := 814) hx hb dL_law_809 (by decide) (fun _ => ?_) (fun h9 => (h9 (pg_w15_pay _ _ _)).elim)
    refine lv_iload hx hb dL_law_814 (lv_at hl 1 rfl) ?_
    refine lv_if_ne (tgt := 831) hx hb dL_law_816 (by decide) (fun h9 => (h9 rfl).elim) (fun _ => ?_)
    refine lv_aload_n hx hb dL_law_819 rfl (lv_at hl 5 rfl) ?_
    refine lv_iconst (v := 0) hx hb dL_law_820 (by decide) ?_
    refine va_lald hx hb hK hP 19 2 rfl rfl (show vp_in 0 1 from vp_in_nI (n := 0) (by decide) (by decide)) dL_law_821 ?_
    refine lv_iload hx hb dL_law_822 (lv_at hl 0 rfl) ?_
    refine lv_i2l (v := (pg_back (pg_at (upd w.1 15 0, w.2) (xs (7 * i + 1)).toNatClampNeg (w.2 9 (xs (7 * i + 1)).toNatClampNeg)) n).toInt64) hx hb dL_law_824 rfl ?_
    refine pg_lcmpE hx hb ((pg_updL0 f _).trans (congrArg Int32.toInt64 (hJ.1))) dL_law_825 ?_
    refine lv_if_eq (tgt := 831) hx hb dL_law_826 (by decide) (fun _ => ?_) (fun h9 => (h9 rfl).elim)
    refine lv_goto (tgt := 1307) hx hb dL_law_831 (by decide) ?_
    exact kk H locs ls _ _ _ ⟨_, _, hJ.2⟩ hP hD hS (lv_sub hl [2, 3, 4, 5, 6] rfl)
  · refine lv_aload_n hx hb dL_law_778 rfl (lv_at hl 1 rfl) ?_
    refine lv_aload_n hx hb dL_law_779 rfl (lv_at hl 0 rfl) ?_
    refine lv_iload hx hb dL_law_780 (lv_at hl 4 rfl) ?_
    refine lv_iconst (v := 1) hx hb dL_law_782 (by decide) ?_
    refine pg_iaddN (k := 7 * i) (j := 1) hx hb (by decide) dL_law_783 ?_
    refine pg_sld hx hb hX hbl hbA hS (show 7 * i + 1 < L by omega) hL dL_law_784 ?_
    refine lv_aload_n hx hb dL_law_785 rfl (lv_at hl 3 rfl) ?_
    refine pg_iL (pg_rSWT (As := [.ref (a 0), .int (xs (7 * i + 1)), .ref o]) (rest := []) ⟨hx, hb, hml, hown, hts⟩ (cw_agree_1 l hfl D cI cZ cL a o H.size u f n hn h20 (xs (7 * i + 1)) hthr) (vx_cwSW 3 hts gL_law_L_agree rfl rfl rfl (by decide +kernel) ⟨Nat.le_of_ble_eq_true rfl, Nat.le_of_ble_eq_true rfl⟩) hK (pg_PL hP) (pg_DL hD) hS hA hE rfl hl.1 rfl (Nat.le_of_ble_eq_true rfl) dL_law_786 ⟨hc, hs⟩) hP hD hS hA (fun H locs hP hD hS => ?_)
    have hP : va_P D vwCl (lw_W cI cZ cL a a' o u w f) H := hP
    have hD : va_D (fun q : Nat => s.heap.size ≤ q) (lw_W cI cZ cL a a' o u w f) := hD
    refine lv_istore (lv' := [(5, .int 1), (0, .ref b), (1, .ref (a 0)), (2, .ref (a' 0)), (3, .ref o), (4, .int (nI (7 * i)))]) hx hb dL_law_789 hl (by decide) rfl (fun ls hl => ?_)
    refine lv_aload_n hx hb dL_law_791 rfl (lv_at hl 3 rfl) ?_
    refine lv_aload_n hx hb dL_law_792 rfl (lv_at hl 1 rfl) ?_
    refine lv_iload hx hb dL_law_793 (lv_at hl 5 rfl) ?_
    refine lv_iconst (v := 1) hx hb dL_law_795 (by decide) ?_
    refine pg_iaddN (k := 7 * i) (j := 1) hx hb (by decide) dL_law_796 ?_
    refine pg_sld hx hb hX hbl hbA hS (show 7 * i + 1 < L by omega) hL dL_law_797 ?_
    refine pg_iR (pg_rV (As := [.int (xs (7 * i + 1))]) (rest := []) ⟨hx, hb, hml, hown, hts⟩ (cm_agree_no l D cI cZ a' H.size w n hnw h20 (xs (7 * i + 1)) 1 ((pg_T_agree hR (xs (7 * i + 1))).symm.trans hthr) (by decide)) (cwV 1 hts gL_law_X5_agree rfl rfl rfl (by decide +kernel) ⟨Nat.le_of_ble_eq_true rfl, Nat.le_of_ble_eq_true rfl⟩) (hK.sub [0, 1] rfl) (pg_PR hP) (pg_DR hD) 0 (ci := 5) rfl rfl rfl rfl hl.1 rfl (Nat.le_of_ble_eq_true rfl) dL_law_798 ⟨hc, hs⟩) hP hD hS hA (fun H locs hP hD hS => ?_)
    have hP : va_P D vwCl (lw_W cI cZ cL a a' o u (upd w.1 15 1, w.2) f) H := hP
    have hD : va_D (fun q : Nat => s.heap.size ≤ q) (lw_W cI cZ cL a a' o u (upd w.1 15 1, w.2) f) := hD
    refine lv_istore (lv' := [(6, .int 0), (5, .int 1), (0, .ref b), (1, .ref (a 0)), (2, .ref (a' 0)), (3, .ref o), (4, .int (nI (7 * i)))]) hx hb dL_law_801 hl (by decide) rfl (fun ls hl => ?_)
    refine lv_aload_n hx hb dL_law_803 rfl (lv_at hl 4 rfl) ?_
    refine pg_iR (pg_rV (As := []) (rest := []) ⟨hx, hb, hml, hown, hts⟩ (cm_thrown l D cI cZ a' H.size (upd w.1 15 1, w.2)) (cwV 0 hts gL_law_X5_thrown rfl rfl rfl (by decide +kernel) ⟨Nat.le_of_ble_eq_true rfl, Nat.le_of_ble_eq_true rfl⟩) (hK.sub [0, 1] rfl) (pg_PR hP) (pg_DR hD) 0 (ci := 5) rfl rfl rfl rfl hl.1 rfl (Nat.le_of_ble_eq_true rfl) dL_law_804 ⟨hc, hs⟩) hP hD hS hA (fun H locs hP hD hS => ?_)
    have hP : va_P D vwCl (lw_W cI cZ cL a a' o u (upd w.1 15 1, w.2) f) H := hP
    have hD : va_D (fun q : Nat => s.heap.size ≤ q) (lw_W cI cZ cL a a' o u (upd w.1 15 1, w.2) f) := hD
    refine lv_iload hx hb dL_law_807 (lv_at hl 1 rfl) ?_
    refine lv_icmp_eq (tgt := 814) hx hb dL_law_809 (by decide) (fun _ => ?_) (fun h9 => (h9 (pg_updk w.1 15 1)).elim)
    refine lv_iload hx hb dL_law_814 (lv_at hl 1 rfl) ?_
    refine lv_if_ne (tgt := 831) hx hb dL_law_816 (by decide) (fun _ => ?_) (fun h9 => absurd h9 (by decide))
    refine lv_goto (tgt := 1307) hx hb dL_law_831 (by decide) ?_
    exact kk H locs ls _ _ _ ⟨_, _, hR.thr 1⟩ hP hD hS (lv_sub hl [2, 3, 4, 5, 6] rfl)
  · refine lv_aload_n hx hb dL_law_778 rfl (lv_at hl 1 rfl) ?_
    refine lv_aload_n hx hb dL_law_779 rfl (lv_at hl 0 rfl) ?_
    refine lv_iload hx hb dL_law_780 (lv_at hl 4 rfl) ?_
    refine lv_iconst (v := 1) hx hb dL_law_782 (by decide) ?_
    refine pg_iaddN (k := 7 * i) (j := 1) hx hb (by decide) dL_law_783 ?_
    refine pg_sld hx hb hX hbl hbA hS (show 7 * i + 1 < L by omega) hL dL_law_784 ?_
    refine lv_aload_n hx hb dL_law_785 rfl (lv_at hl 3 rfl) ?_
    refine pg_iL (pg_rSWT (As := [.ref (a 0), .int (xs (7 * i + 1)), .ref o]) (rest := []) ⟨hx, hb, hml, hown, hts⟩ (cw_agree_2 l hfl D cI cZ cL a o H.size u f n hn h20 (xs (7 * i + 1)) hthr) (vx_cwSW 3 hts gL_law_L_agree rfl rfl rfl (by decide +kernel) ⟨Nat.le_of_ble_eq_true rfl, Nat.le_of_ble_eq_true rfl⟩) hK (pg_PL hP) (pg_DL hD) hS hA hE rfl hl.1 rfl (Nat.le_of_ble_eq_true rfl) dL_law_786 ⟨hc, hs⟩) hP hD hS hA (fun H locs hP hD hS => ?_)
    have hP : va_P D vwCl (lw_W cI cZ cL a a' o u w f) H := hP
    have hD : va_D (fun q : Nat => s.heap.size ≤ q) (lw_W cI cZ cL a a' o u w f) := hD
    refine lv_istore (lv' := [(5, .int 2), (0, .ref b), (1, .ref (a 0)), (2, .ref (a' 0)), (3, .ref o), (4, .int (nI (7 * i)))]) hx hb dL_law_789 hl (by decide) rfl (fun ls hl => ?_)
    refine lv_aload_n hx hb dL_law_791 rfl (lv_at hl 3 rfl) ?_
    refine lv_aload_n hx hb dL_law_792 rfl (lv_at hl 1 rfl) ?_
    refine lv_iload hx hb dL_law_793 (lv_at hl 5 rfl) ?_
    refine lv_iconst (v := 1) hx hb dL_law_795 (by decide) ?_
    refine pg_iaddN (k := 7 * i) (j := 1) hx hb (by decide) dL_law_796 ?_
    refine pg_sld hx hb hX hbl hbA hS (show 7 * i + 1 < L by omega) hL dL_law_797 ?_
    refine pg_iR (pg_rV (As := [.int (xs (7 * i + 1))]) (rest := []) ⟨hx, hb, hml, hown, hts⟩ (cm_agree_no l D cI cZ a' H.size w n hnw h20 (xs (7 * i + 1)) 2 ((pg_T_agree hR (xs (7 * i + 1))).symm.trans hthr) (by decide)) (cwV 1 hts gL_law_X5_agree rfl rfl rfl (by decide +kernel) ⟨Nat.le_of_ble_eq_true rfl, Nat.le_of_ble_eq_true rfl⟩) (hK.sub [0, 1] rfl) (pg_PR hP) (pg_DR hD) 0 (ci := 5) rfl rfl rfl rfl hl.1 rfl (Nat.le_of_ble_eq_true rfl) dL_law_798 ⟨hc, hs⟩) hP hD hS hA (fun H locs hP hD hS => ?_)
    have hP : va_P D vwCl (lw_W cI cZ cL a a' o u (upd w.1 15 2, w.2) f) H := hP
    have hD : va_D (fun q : Nat => s.heap.size ≤ q) (lw_W cI cZ cL a a' o u (upd w.1 15 2, w.2) f) := hD
    refine lv_istore (lv' := [(6, .int 0), (5, .int 2), (0, .ref b), (1, .ref (a 0)), (2, .ref (a' 0)), (3, .ref o), (4, .int (nI (7 * i)))]) hx hb dL_law_801 hl (by decide) rfl (fun ls hl => ?_)
    refine lv_aload_n hx hb dL_law_803 rfl (lv_at hl 4 rfl) ?_
    refine pg_iR (pg_rV (As := []) (rest := []) ⟨hx, hb, hml, hown, hts⟩ (cm_thrown l D cI cZ a' H.size (upd w.1 15 2, w.2)) (cwV 0 hts gL_law_X5_thrown rfl rfl rfl (by decide +kernel) ⟨Nat.le_of_ble_eq_true rfl, Nat.le_of_ble_eq_true rfl⟩) (hK.sub [0, 1] rfl) (pg_PR hP) (pg_DR hD) 0 (ci := 5) rfl rfl rfl rfl hl.1 rfl (Nat.le_of_ble_eq_true rfl) dL_law_804 ⟨hc, hs⟩) hP hD hS hA (fun H locs hP hD hS => ?_)
    have hP : va_P D vwCl (lw_W cI cZ cL a a' o u (upd w.1 15 2, w.2) f) H := hP
    have hD : va_D (fun q : Nat => s.heap.size ≤ q) (lw_W cI cZ cL a a' o u (upd w.1 15 2, w.2) f) := hD
    refine lv_iload hx hb dL_law_807 (lv_at hl 1 rfl) ?_
    refine lv_icmp_eq (tgt := 814) hx hb dL_law_809 (by decide) (fun _ => ?_) (fun h9 => (h9 (pg_updk w.1 15 2)).elim)
    refine lv_iload hx hb dL_law_814 (lv_at hl 1 rfl) ?_
    refine lv_if_ne (tgt := 831) hx hb dL_law_816 (by decide) (fun _ => ?_) (fun h9 => absurd h9 (by decide))
    refine lv_goto (tgt := 1307) hx hb dL_law_831 (by decide) ?_
    exact kk H locs ls _ _ _ ⟨_, _, hR.thr 2⟩ hP hD hS (lv_sub hl [2, 3, 4, 5, 6] rfl)
set_option maxHeartbeats 4000000 in
set_option maxRecDepth 100000 in
theorem lc_10 (hfl : l.stackTraces = false) (hL : L ≤ 3584) (C0 : lw_At p s m meth c b L xs) (hK : va_K D vwCl (pg_tyL cI cZ cL) s) (hE : pg_Env (fun q : Nat => s.heap.size ≤ q) s s.heap) (hi : 7 * i + 7 ≤ L) (hc : cells + 1 ≤ 1072) (hs : slots + 6 ≤ 8564) (hI : pg_Inv u w) (hP : va_P D vwCl (lw_W cI cZ cL a a' o u w f) H) (hD : va_D (fun q : Nat => s.heap.size ≤ q) (lw_W cI cZ cL a a' o u w f)) (hS : va_S (fun q : Nat => s.heap.size ≤ q) s.heap H locs) (hl : lv_has ls 7 [(0, .ref b), (1, .ref (a 0)), (2, .ref (a' 0)), (3, .ref o), (4, .int (nI (7 * i)))])
    (kk : ∀ (H : Heap) (locs : List Loc) (ls : Array Slot) (u w : pg_St) (f : Nat → Int64), pg_Inv u w → va_P D vwCl (lw_W cI cZ cL a a' o u w f) H → va_D (fun q : Nat => s.heap.size ≤ q) (lw_W cI cZ cL a a' o u w f) → va_S (fun q : Nat => s.heap.size ≤ q) s.heap H locs → lv_has ls 7 [(0, .ref b), (1, .ref (a 0)), (2, .ref (a' 0)), (3, .ref o), (4, .int (nI (7 * i)))] → W p l e room_1 s m #[Value.ref b] below meth c H locs (cells + 1) (slots + 6) Q (F0 m 1307 ls [])) :
    W p l e room_1 s m #[Value.ref b] below meth c H locs cells slots Q (F0 m 834 ls []) := by
  obtain ⟨hx, hb, hr, hml, hown, hts, hX, hbl, hlocks, hgv⟩ := id C0
  have hts := fun w h => hts w (wsL_law_in w h)
  have hown : s.vm.findClass RL = some m.cls := hown
  have hb : c.code = cL_law := hb
  have hA : ∀ q : Nat, s.heap.size ≤ q → (fun q : Nat => s.heap.size ≤ q) q := fun _ h => h
  have hbA : ¬ (fun q : Nat => s.heap.size ≤ q) b := Nat.not_le.mpr hbl
  have hc0 : cells + 0 ≤ 1072 := by omega
  have hs0 : slots + 0 ≤ 8564 := by omega
  obtain ⟨n, t, hR⟩ := hI
  obtain ⟨-, -, ⟨hn, h20, ht, h4⟩, ⟨-, -, hmet, hzer⟩, -⟩ := id hR
  have hnw : w.1 10 = nI n := (hR.1.1 10 (by decide)).symm.trans hn
  have htw : w.1 13 = nI t := (hR.1.1 13 (by decide)).symm.trans ht
  rcases pg_c_decide u.2 (nI n) (xs (7 * i + 1)) (xs (7 * i + 2)) with hthr | hthr | hthr | hthr
  · have hJ := pg_J_decide hR hthr
    refine lv_aload_n hx hb dL_law_834 rfl (lv_at hl 1 rfl) ?_
    refine lv_aload_n hx hb dL_law_835 rfl (lv_at hl 0 rfl) ?_
    refine lv_iload hx hb dL_law_836 (lv_at hl 4 rfl) ?_
    refine lv_iconst (v := 1) hx hb dL_law_838 (by decide) ?_
    refine pg_iaddN (k := 7 * i) (j := 1) hx hb (by decide) dL_law_839 ?_
    refine pg_sld hx hb hX hbl hbA hS (show 7 * i + 1 < L by omega) hL dL_law_840 ?_
    refine lv_aload_n hx hb dL_law_841 rfl (lv_at hl 0 rfl) ?_
    refine lv_iload hx hb dL_law_842 (lv_at hl 4 rfl) ?_
    refine lv_iconst (v := 2) hx hb dL_law_844 (by decide) ?_
    refine pg_iaddN (k := 7 * i) (j := 2) hx hb (by decide) dL_law_845 ?_
    refine pg_sld hx hb hX hbl hbA hS (show 7 * i + 2 < L by omega) hL dL_law_846 ?_
    refine lv_aload_n hx hb dL_law_847 rfl (lv_at hl 3 rfl) ?_
    refine pg_iL (pg_rSW (As := [.ref (a 0), .int (xs (7 * i + 1)), .int (xs (7 * i + 2)), .ref o]) (rest := []) ⟨hx, hb, hml, hown, hts⟩ (cw_decide_ok l D cI cZ cL a o H.size u f n hn h20 (xs (7 * i + 1)) (xs (7 * i + 2)) hthr) (vx_cwSW 4 hts gL_law_L_decide rfl rfl rfl (by decide +kernel) ⟨Nat.le_of_ble_eq_true rfl, Nat.le_of_ble_eq_true rfl⟩) hK (pg_PL hP) (pg_DL hD) rfl hl.1 rfl (Nat.le_of_ble_eq_true rfl) dL_law_848 ⟨hc0, hs0⟩) hP hD hS hA (fun H locs hP hD hS => ?_)
    have hP : va_P D vwCl (lw_W cI cZ cL a a' o (pg_pay (pg_at u (xs (7 * i + 1)).toNatClampNeg (xs (7 * i + 2))) n (u.1 3)) w (vp_updL f 0 (pg_back (pg_at u (xs (7 * i + 1)).toNatClampNeg (xs (7 * i + 2))) n).toInt64)) H := hP
    have hD : va_D (fun q : Nat => s.heap.size ≤ q) (lw_W cI cZ cL a a' o (pg_pay (pg_at u (xs (7 * i + 1)).toNatClampNeg (xs (7 * i + 2))) n (u.1 3)) w (vp_updL f 0 (pg_back (pg_at u (xs (7 * i + 1)).toNatClampNeg (xs (7 * i + 2))) n).toInt64)) := hD
    refine W.widen (k := cells + 1) (n := slots + 6) (by omega) (by omega) ?_
    refine lv_istore (lv' := [(5, .int 0), (0, .ref b), (1, .ref (a 0)), (2, .ref (a' 0)), (3, .ref o), (4, .int (nI (7 * i)))]) hx hb dL_law_851 hl (by decide) rfl (fun ls hl => ?_)
    refine lv_aload_n hx hb dL_law_853 rfl (lv_at hl 3 rfl) ?_
    refine lv_aload_n hx hb dL_law_854 rfl (lv_at hl 1 rfl) ?_
    refine lv_iload hx hb dL_law_855 (lv_at hl 5 rfl) ?_
    refine lv_iconst (v := 1) hx hb dL_law_857 (by decide) ?_
    refine pg_iaddN (k := 7 * i) (j := 1) hx hb (by decide) dL_law_858 ?_
    refine pg_sld hx hb hX hbl hbA hS (show 7 * i + 1 < L by omega) hL dL_law_859 ?_
    refine lv_aload_n hx hb dL_law_860 rfl (lv_at hl 1 rfl) ?_
    refine lv_iload hx hb dL_law_861 (lv_at hl 5 rfl) ?_
    refine lv_iconst (v := 2) hx hb dL_law_863 (by decide) ?_
    refine pg_iaddN (k := 7 * i) (j := 2) hx hb (by decide) dL_law_864 ?_
    refine pg_sld hx hb hX hbl hbA hS (show 7 * i + 2 < L by omega) hL dL_law_865 ?_
    refine pg_iR (pg_rV (As := [.int (xs (7 * i + 1)), .int (xs (7 * i + 2))]) (rest := []) ⟨hx, hb, hml, hown, hts⟩ (cm_decide_ok l D cI cZ a' H.size w n hnw h20 (xs (7 * i + 1)) (xs (7 * i + 2)) ((pg_T_decide hR (xs (7 * i + 1)) (xs (7 * i + 2))).symm.trans hthr)) (cwV 2 hts gL_law_X5_decide rfl rfl rfl (by decide +kernel) ⟨Nat.le_of_ble_eq_true rfl, Nat.le_of_ble_eq_true rfl⟩) (hK.sub [0, 1] rfl) (pg_PR hP) (pg_DR hD) 0 (ci := 5) rfl rfl rfl rfl hl.1 rfl (Nat.le_of_ble_eq_true rfl) dL_law_866 ⟨hc, hs⟩) hP hD hS hA (fun H locs hP hD hS => ?_)
    have hP : va_P D vwCl (lw_W cI cZ cL a a' o (pg_pay (pg_at u (xs (7 * i + 1)).toNatClampNeg (xs (7 * i + 2))) n (u.1 3)) (pg_pay (pg_at (upd w.1 15 0, w.2) (xs (7 * i + 1)).toNatClampNeg (xs (7 * i + 2))) n (w.1 3)) (vp_updL f 0 (pg_back (pg_at u (xs (7 * i + 1)).toNatClampNeg (xs (7 * i + 2))) n).toInt64)) H := hP
    have hD : va_D (fun q : Nat => s.heap.size ≤ q) (lw_W cI cZ cL a a' o (pg_pay (pg_at u (xs (7 * i + 1)).toNatClampNeg (xs (7 * i + 2))) n (u.1 3)) (pg_pay (pg_at (upd w.1 15 0, w.2) (xs (7 * i + 1)).toNatClampNeg (xs (7 * i + 2))) n (w.1 3)) (vp_updL f 0 (pg_back (pg_at u (xs (7 * i + 1)).toNatClampNeg (xs (7 * i + 2))) n).toInt64)) := hD
    refine lv_istore (lv' := [(6, .int (pg_back (pg_at (upd w.1 15 0, w.2) (xs (7 * i + 1)).toNatClampNeg (xs (7 * i + 2))) n)), (5, .int 0), (0, .ref b), (1, .ref (a 0)), (2, .ref (a' 0)), (3, .ref o), (4, .int (nI (7 * i)))]) hx hb dL_law_869 hl (by decide) rfl (fun ls hl => ?_)
    refine lv_aload_n hx hb dL_law_871 rfl (lv_at hl 4 rfl) ?_
    refine pg_iR (pg_rV (As := []) (rest := []) ⟨hx, hb, hml, hown, hts⟩ (cm_thrown l D cI cZ a' H.size (pg_pay (pg_at (upd w.1 15 0, w.2) (xs (7 * i + 1)).toNatClampNeg (xs (7 * i + 2))) n (w.1 3))) (cwV 0 hts gL_law_X5_thrown rfl rfl rfl (by decide +kernel) ⟨Nat.le_of_ble_eq_true rfl, Nat.le_of_ble_eq_true rfl⟩) (hK.sub [0, 1] rfl) (pg_PR hP) (pg_DR hD) 0 (ci := 5) rfl rfl rfl rfl hl.1 rfl (Nat.le_of_ble_eq_true rfl) dL_law_872 ⟨hc, hs⟩) hP hD hS hA (fun H locs hP hD hS => ?_)
    have hP : va_P D vwCl (lw_W cI cZ cL a a' o (pg_pay (pg_at u (xs (7 * i + 1)).toNatClampNeg (xs (7 * i + 2))) n (u.1 3)) (pg_pay (pg_at (upd w.1 15 0, w.2) (xs (7 * i + 1)).toNatClampNeg (xs (7 * i + 2))) n (w.1 3)) (vp_updL f 0 (pg_back (pg_at u (xs (7 * i + 1)).toNatClampNeg (xs (7 * i + 2))) n).toInt64)) H := hP
    have hD : va_D (fun q : Nat => s.heap.size ≤ q) (lw_W cI cZ cL a a' o (pg_pay (pg_at u (xs (7 * i + 1)).toNatClampNeg (xs (7 * i + 2))) n (u.1 3)) (pg_pay (pg_at (upd w.1 15 0, w.2) (xs (7 * i + 1)).toNatClampNeg (xs (7 * i + 2))) n (w.1 3)) (vp_updL f 0 (pg_back (pg_at u (xs (7 * i + 1)).toNatClampNeg (xs (7 * i + 2))) n).toInt64)) := hD
    refine lv_iload hx hb dL_law_875 (lv_at hl 1 rfl) ?_
    refine lv_icmp_eq (tgt := 882) hx hb dL_law_877 (by decide) (fun _ => ?_) (fun h9 => (h9 (pg_w15_pay _ _ _)).elim)
    refine lv_iload hx hb dL_law_882 (lv_at hl 1 rfl) ?_
    refine lv_if_ne (tgt := 899) hx hb dL_law_884 (by decide) (fun h9 => (h9 rfl).elim) (fun _ => ?_)
    refine lv_aload_n hx hb dL_law_887 rfl (lv_at hl 5 rfl) ?_
    refine lv_iconst (v := 0) hx hb dL_law_888 (by decide) ?_
    refine va_lald hx hb hK hP 19 2 rfl rfl (show vp_in 0 1 from vp_in_nI (n := 0) (by decide) (by decide)) dL_law_889 ?_
    refine lv_iload hx hb dL_law_890 (lv_at hl 0 rfl) ?_
    refine lv_i2l (v := (pg_back (pg_at (upd w.1 15 0, w.2) (xs (7 * i + 1)).toNatClampNeg (xs (7 * i + 2))) n).toInt64) hx hb dL_law_892 rfl ?_
    refine pg_lcmpE hx hb ((pg_updL0 f _).trans (congrArg Int32.toInt64 (hJ.1))) dL_law_893 ?_
    refine lv_if_eq (tgt := 899) hx hb dL_law_894 (by decide) (fun _ => ?_) (fun h9 => (h9 rfl).elim)
    refine lv_goto (tgt := 1307) hx hb dL_law_899 (by decide) ?_
    exact kk H locs ls _ _ _ ⟨_, _, hJ.2⟩ hP hD hS (lv_sub hl [2, 3, 4, 5, 6] rfl)
  · refine lv_aload_n hx hb dL_law_834 rfl (lv_at hl 1 rfl) ?_
    refine lv_aload_n hx hb dL_law_835 rfl (lv_at hl 0 rfl) ?_
    refine lv_iload hx hb dL_law_836 (lv_at hl 4 rfl) ?_
    refine lv_iconst (v := 1) hx hb dL_law_838 (by decide) ?_
    refine pg_iaddN (k := 7 * i) (j := 1) hx hb (by decide) dL_law_839 ?_
    refine pg_sld hx hb hX hbl hbA hS (show 7 * i + 1 < L by omega) hL dL_law_840 ?_
    refine lv_aload_n hx hb dL_law_841 rfl (lv_at hl 0 rfl) ?_
    refine lv_iload hx hb dL_law_842 (lv_at hl 4 rfl) ?_
    refine lv_iconst (v := 2) hx hb dL_law_844 (by decide) ?_
    refine pg_iaddN (k := 7 * i) (j := 2) hx hb (by decide) dL_law_845 ?_
    refine pg_sld hx hb hX hbl hbA hS (show 7 * i + 2 < L by omega) hL dL_law_846 ?_
    refine lv_aload_n hx hb dL_law_847 rfl (lv_at hl 3 rfl) ?_
    refine pg_iL (pg_rSWT (As := [.ref (a 0), .int (xs (7 * i + 1)), .int (xs (7 * i + 2)), .ref o]) (rest := []) ⟨hx, hb, hml, hown, hts⟩ (cw_decide_1 l hfl D cI cZ cL a o H.size u f n hn h20 (xs (7 * i + 1)) (xs (7 * i + 2)) hthr) (vx_cwSW 4 hts gL_law_L_decide rfl rfl rfl (by decide +kernel) ⟨Nat.le_of_ble_eq_true rfl, Nat.le_of_ble_eq_true rfl⟩) hK (pg_PL hP) (pg_DL hD) hS hA hE rfl hl.1 rfl (Nat.le_of_ble_eq_true rfl) dL_law_848 ⟨hc, hs⟩) hP hD hS hA (fun H locs hP hD hS => ?_)
    have hP : va_P D vwCl (lw_W cI cZ cL a a' o u w f) H := hP
    have hD : va_D (fun q : Nat => s.heap.size ≤ q) (lw_W cI cZ cL a a' o u w f) := hD
    refine lv_istore (lv' := [(5, .int 1), (0, .ref b), (1, .ref (a 0)), (2, .ref (a' 0)), (3, .ref o), (4, .int (nI (7 * i)))]) hx hb dL_law_851 hl (by decide) rfl (fun ls hl => ?_)
    refine lv_aload_n hx hb dL_law_853 rfl (lv_at hl 3 rfl) ?_
    refine lv_aload_n hx hb dL_law_854 rfl (lv_at hl 1 rfl) ?_
    refine lv_iload hx hb dL_law_855 (lv_at hl 5 rfl) ?_
    refine lv_iconst (v := 1) hx hb dL_law_857 (by decide) ?_
    refine pg_iaddN (k := 7 * i) (j := 1) hx hb (by decide) dL_law_858 ?_
    refine pg_sld hx hb hX hbl hbA hS (show 7 * i + 1 < L by omega) hL dL_law_859 ?_
    refine lv_aload_n hx hb dL_law_860 rfl (lv_at hl 1 rfl) ?_
    refine lv_iload hx hb dL_law_861 (lv_at hl 5 rfl) ?_
    refine lv_iconst (v := 2) hx hb dL_law_863 (by decide) ?_
    refine pg_iaddN (k := 7 * i) (j := 2) hx hb (by decide) dL_law_864 ?_
    refine pg_sld hx hb hX hbl hbA hS (show 7 * i + 2 < L by omega) hL dL_law_865 ?_
    refine pg_iR (pg_rV (As := [.int (xs (7 * i + 1)), .int (xs (7 * i + 2))]) (rest := []) ⟨hx, hb, hml, hown, hts⟩ (cm_decide_no l D cI cZ a' H.size w n hnw h20 (xs (7 * i + 1)) (xs (7 * i + 2)) 1 ((pg_T_decide hR (xs (7 * i + 1)) (xs (7 * i + 2))).symm.trans hthr) (by decide)) (cwV 2 hts gL_law_X5_decide rfl rfl rfl (by decide +kernel) ⟨Nat.le_of_ble_eq_true rfl, Nat.le_of_ble_eq_true rfl⟩) (hK.sub [0, 1] rfl) (pg_PR hP) (pg_DR hD) 0 (ci := 5) rfl rfl rfl rfl hl.1 rfl (Nat.le_of_ble_eq_true rfl) dL_law_866 ⟨hc, hs⟩) hP hD hS hA (fun H locs hP hD hS => ?_)
    have hP : va_P D vwCl (lw_W cI cZ cL a a' o u (upd w.1 15 1, w.2) f) H := hP
    have hD : va_D (fun q : Nat => s.heap.size ≤ q) (lw_W cI cZ cL a a' o u (upd w.1 15 1, w.2) f) := hD
    refine lv_istore (lv' := [(6, .int 0), (5, .int 1), (0, .ref b), (1, .ref (a 0)), (2, .ref (a' 0)), (3, .ref o), (4, .int (nI (7 * i)))]) hx hb dL_law_869 hl (by decide) rfl (fun ls hl => ?_)
    refine lv_aload_n hx hb dL_law_871 rfl (lv_at hl 4 rfl) ?_
    refine pg_iR (pg_rV (As := []) (rest := []) ⟨hx, hb, hml, hown, hts⟩ (cm_thrown l D cI cZ a' H.size (upd w.1 15 1, w.2)) (cwV 0 hts gL_law_X5_thrown rfl rfl rfl (by decide +kernel) ⟨Nat.le_of_ble_eq_true rfl, Nat.le_of_ble_eq_true rfl⟩) (hK.sub [0, 1] rfl) (pg_PR hP) (pg_DR hD) 0 (ci := 5) rfl rfl rfl rfl hl.1 rfl (Nat.le_of_ble_eq_true rfl) dL_law_872 ⟨hc, hs⟩) hP hD hS hA (fun H locs hP hD hS => ?_)
    have hP : va_P D vwCl (lw_W cI cZ cL a a' o u (upd w.1 15 1, w.2) f) H := hP
    have hD : va_D (fun q : Nat => s.heap.size ≤ q) (lw_W cI cZ cL a a' o u (upd w.1 15 1, w.2) f) := hD
    refine lv_iload hx hb dL_law_875 (lv_at hl 1 rfl) ?_
    refine lv_icmp_eq (tgt := 882) hx hb dL_law_877 (by decide) (fun _ => ?_) (fun h9 => (h9 (pg_updk w.1 15 1)).elim)
    refine lv_iload hx hb dL_law_882 (lv_at hl 1 rfl) ?_
    refine lv_if_ne (tgt := 899) hx hb dL_law_884 (by decide) (fun _ => ?_) (fun h9 => absurd h9 (by decide))
    refine lv_goto (tgt := 1307) hx hb dL_law_899 (by decide) ?_
    exact kk H locs ls _ _ _ ⟨_, _, hR.thr 1⟩ hP hD hS (lv_sub hl [2, 3, 4, 5, 6] rfl)
  · refine lv_aload_n hx hb dL_law_834 rfl (lv_at hl 1 rfl) ?_
    refine lv_aload_n hx hb dL_law_835 rfl (lv_at hl 0 rfl) ?_
    refine lv_iload hx hb dL_law_836 (lv_at hl 4 rfl) ?_
    refine lv_iconst (v := 1) hx hb dL_law_838 (by decide) ?_
    refine pg_iaddN (k := 7 * i) (j := 1) hx hb (by decide) dL_law_839 ?_
    refine pg_sld hx hb hX hbl hbA hS (show 7 * i + 1 < L by omega) hL dL_law_840 ?_
    refine lv_aload_n hx hb dL_law_841 rfl (lv_at hl 0 rfl) ?_
    refine lv_iload hx hb dL_law_842 (lv_at hl 4 rfl) ?_
    refine lv_iconst (v := 2) hx hb dL_law_844 (by decide) ?_
    refine pg_iaddN (k := 7 * i) (j := 2) hx hb (by decide) dL_law_845 ?_
    refine pg_sld hx hb hX hbl hbA hS (show 7 * i + 2 < L by omega) hL dL_law_846 ?_
    refine lv_aload_n hx hb dL_law_847 rfl (lv_at hl 3 rfl) ?_
    refine pg_iL (pg_rSWT (As := [.ref (a 0), .int (xs (7 * i + 1)), .int (xs (7 * i + 2)), .ref o]) (rest := []) ⟨hx, hb, hml, hown, hts⟩ (cw_decide_2 l hfl D cI cZ cL a o H.size u f n hn h20 (xs (7 * i + 1)) (xs (7 * i + 2)) hthr) (vx_cwSW 4 hts gL_law_L_decide rfl rfl rfl (by decide +kernel) ⟨Nat.le_of_ble_eq_true rfl, Nat.le_of_ble_eq_true rfl⟩) hK (pg_PL hP) (pg_DL hD) hS hA hE rfl hl.1 rfl (Nat.le_of_ble_eq_true rfl) dL_law_848 ⟨hc, hs⟩) hP hD hS hA (fun H locs hP hD hS => ?_)
    have hP : va_P D vwCl (lw_W cI cZ cL a a' o u w f) H := hP
    have hD : va_D (fun q : Nat => s.heap.size ≤ q) (lw_W cI cZ cL a a' o u w f) := hD
    refine lv_istore (lv' := [(5, .int 2), (0, .ref b), (1, .ref (a 0)), (2, .ref (a' 0)), (3, .ref o), (4, .int (nI (7 * i)))]) hx hb dL_law_851 hl (by decide) rfl (fun ls hl => ?_)
    refine lv_aload_n hx hb dL_law_853 rfl (lv_at hl 3 rfl) ?_
    refine lv_aload_n hx hb dL_law_854 rfl (lv_at hl 1 rfl) ?_
    refine lv_iload hx hb dL_law_855 (lv_at hl 5 rfl) ?_
    refine lv_iconst (v := 1) hx hb dL_law_857 (by decide) ?_
    refine pg_iaddN (k := 7 * i) (j := 1) hx hb (by decide) dL_law_858 ?_
    refine pg_sld hx hb hX hbl hbA hS (show 7 * i + 1 < L by omega) hL dL_law_859 ?_
    refine lv_aload_n hx hb dL_law_860 rfl (lv_at hl 1 rfl) ?_
    refine lv_iload hx hb dL_law_861 (lv_at hl 5 rfl) ?_
    refine lv_iconst (v := 2) hx hb dL_law_863 (by decide) ?_
    refine pg_iaddN (k := 7 * i) (j := 2) hx hb (by decide) dL_law_864 ?_
    refine pg_sld hx hb hX hbl hbA hS (show 7 * i + 2 < L by omega) hL dL_law_865 ?_
    refine pg_iR (pg_rV (As := [.int (xs (7 * i + 1)), .int (xs (7 * i + 2))]) (rest := []) ⟨hx, hb, hml, hown, hts⟩ (cm_decide_no l D cI cZ a' H.size w n hnw h20 (xs (7 * i + 1)) (xs (7 * i + 2)) 2 ((pg_T_decide hR (xs (7 * i + 1)) (xs (7 * i + 2))).symm.trans hthr) (by decide)) (cwV 2 hts gL_law_X5_decide rfl rfl rfl (by decide +kernel) ⟨Nat.le_of_ble_eq_true rfl, Nat.le_of_ble_eq_true rfl⟩) (hK.sub [0, 1] rfl) (pg_PR hP) (pg_DR hD) 0 (ci := 5) rfl rfl rfl rfl hl.1 rfl (Nat.le_of_ble_eq_true rfl) dL_law_866 ⟨hc, hs⟩) hP hD hS hA (fun H locs hP hD hS => ?_)
    have hP : va_P D vwCl (lw_W cI cZ cL a a' o u (upd w.1 15 2, w.2) f) H := hP
    have hD : va_D (fun q : Nat => s.heap.size ≤ q) (lw_W cI cZ cL a a' o u (upd w.1 15 2, w.2) f) := hD
    refine lv_istore (lv' := [(6, .int 0), (5, .int 2), (0, .ref b), (1, .ref (a 0)), (2, .ref (a' 0)), (3, .ref o), (4, .int (nI (7 * i)))]) hx hb dL_law_869 hl (by decide) rfl (fun ls hl => ?_)
    refine lv_aload_n hx hb dL_law_871 rfl (lv_at hl 4 rfl) ?_
    refine pg_iR (pg_rV (As := []) (rest := []) ⟨hx, hb, hml, hown, hts⟩ (cm_thrown l D cI cZ a' H.size (upd w.1 15 2, w.2)) (cwV 0 hts gL_law_X5_thrown rfl rfl rfl (by decide +kernel) ⟨Nat.le_of_ble_eq_true rfl, Nat.le_of_ble_eq_true rfl⟩) (hK.sub [0, 1] rfl) (pg_PR hP) (pg_DR hD) 0 (ci := 5) rfl rfl rfl rfl hl.1 rfl (Nat.le_of_ble_eq_true rfl) dL_law_872 ⟨hc, hs⟩) hP hD hS hA (fun H locs hP hD hS => ?_)
    have hP : va_P D vwCl (lw_W cI cZ cL a a' o u (upd w.1 15 2, w.2) f) H := hP
    have hD : va_D (fun q : Nat => s.heap.size ≤ q) (lw_W cI cZ cL a a' o u (upd w.1 15 2, w.2) f) := hD
    refine lv_iload hx hb dL_law_875 (lv_at hl 1 rfl) ?_
    refine lv_icmp_eq (tgt := 882) hx hb dL_law_877 (by decide) (fun _ => ?_) (fun h9 => (h9 (pg_updk w.1 15 2)).elim)
    refine lv_iload hx hb dL_law_882 (lv_at hl 1 rfl) ?_
    refine lv_if_ne (tgt := 899) hx hb dL_law_884 (by decide) (fun _ => ?_) (fun h9 => absurd h9 (by decide))
    refine lv_goto (tgt := 1307) hx hb dL_law_899 (by decide) ?_
    exact kk H locs ls _ _ _ ⟨_, _, hR.thr 2⟩ hP hD hS (lv_sub hl [2, 3, 4, 5, 6] rfl)
  · refine lv_aload_n hx hb dL_law_834 rfl (lv_at hl 1 rfl) ?_
    refine lv_aload_n hx hb dL_law_835 rfl (lv_at hl 0 rfl) ?_
    refine lv_iload hx hb dL_law_836 (lv_at hl 4 rfl) ?_
    refine lv_iconst (v := 1) hx hb dL_law_838 (by decide) ?_
    refine pg_iaddN (k := 7 * i) (j := 1) hx hb (by decide) dL_law_839 ?_
    refine pg_sld hx hb hX hbl hbA hS (show 7 * i + 1 < L by omega) hL dL_law_840 ?_
    refine lv_aload_n hx hb dL_law_841 rfl (lv_at hl 0 rfl) ?_
    refine lv_iload hx hb dL_law_842 (lv_at hl 4 rfl) ?_
    refine lv_iconst (v := 2) hx hb dL_law_844 (by decide) ?_
    refine pg_iaddN (k := 7 * i) (j := 2) hx hb (by decide) dL_law_845 ?_
    refine pg_sld hx hb hX hbl hbA hS (show 7 * i + 2 < L by omega) hL dL_law_846 ?_
    refine lv_aload_n hx hb dL_law_847 rfl (lv_at hl 3 rfl) ?_
    refine pg_iL (pg_rSWT (As := [.ref (a 0), .int (xs (7 * i + 1)), .int (xs (7 * i + 2)), .ref o]) (rest := []) ⟨hx, hb, hml, hown, hts⟩ (cw_decide_3 l hfl D cI cZ cL a o H.size u f n hn h20 (xs (7 * i + 1)) (xs (7 * i + 2)) hthr) (vx_cwSW 4 hts gL_law_L_decide rfl rfl rfl (by decide +kernel) ⟨Nat.le_of_ble_eq_true rfl, Nat.le_of_ble_eq_true rfl⟩) hK (pg_PL hP) (pg_DL hD) hS hA hE rfl hl.1 rfl (Nat.le_of_ble_eq_true rfl) dL_law_848 ⟨hc, hs⟩) hP hD hS hA (fun H locs hP hD hS => ?_)
    have hP : va_P D vwCl (lw_W cI cZ cL a a' o u w f) H := hP
    have hD : va_D (fun q : Nat => s.heap.size ≤ q) (lw_W cI cZ cL a a' o u w f) := hD
    refine lv_istore (lv' := [(5, .int 3), (0, .ref b), (1, .ref (a 0)), (2, .ref (a' 0)), (3, .ref o), (4, .int (nI (7 * i)))]) hx hb dL_law_851 hl (by decide) rfl (fun ls hl => ?_)
    refine lv_aload_n hx hb dL_law_853 rfl (lv_at hl 3 rfl) ?_
    refine lv_aload_n hx hb dL_law_854 rfl (lv_at hl 1 rfl) ?_
    refine lv_iload hx hb dL_law_855 (lv_at hl 5 rfl) ?_
    refine lv_iconst (v := 1) hx hb dL_law_857 (by decide) ?_
    refine pg_iaddN (k := 7 * i) (j := 1) hx hb (by decide) dL_law_858 ?_
    refine pg_sld hx hb hX hbl hbA hS (show 7 * i + 1 < L by omega) hL dL_law_859 ?_
    refine lv_aload_n hx hb dL_law_860 rfl (lv_at hl 1 rfl) ?_
    refine lv_iload hx hb dL_law_861 (lv_at hl 5 rfl) ?_
    refine lv_iconst (v := 2) hx hb dL_law_863 (by decide) ?_
    refine pg_iaddN (k := 7 * i) (j := 2) hx hb (by decide) dL_law_864 ?_
    refine pg_sld hx hb hX hbl hbA hS (show 7 * i + 2 < L by omega) hL dL_law_865 ?_
    refine pg_iR (pg_rV (As := [.int (xs (7 * i + 1)), .int (xs (7 * i + 2))]) (rest := []) ⟨hx, hb, hml, hown, hts⟩ (cm_decide_no l D cI cZ a' H.size w n hnw h20 (xs (7 * i + 1)) (xs (7 * i + 2)) 3 ((pg_T_decide hR (xs (7 * i + 1)) (xs (7 * i + 2))).symm.trans hthr) (by decide)) (cwV 2 hts gL_law_X5_decide rfl rfl rfl (by decide +kernel) ⟨Nat.le_of_ble_eq_true rfl, Nat.le_of_ble_eq_true rfl⟩) (hK.sub [0, 1] rfl) (pg_PR hP) (pg_DR hD) 0 (ci := 5) rfl rfl rfl rfl hl.1 rfl (Nat.le_of_ble_eq_true rfl) dL_law_866 ⟨hc, hs⟩) hP hD hS hA (fun H locs hP hD hS => ?_)
    have hP : va_P D vwCl (lw_W cI cZ cL a a' o u (upd w.1 15 3, w.2) f) H := hP
    have hD : va_D (fun q : Nat => s.heap.size ≤ q) (lw_W cI cZ cL a a' o u (upd w.1 15 3, w.2) f) := hD
    refine lv_istore (lv' := [(6, .int 0), (5, .int 3), (0, .ref b), (1, .ref (a 0)), (2, .ref (a' 0)), (3, .ref o), (4, .int (nI (7 * i)))]) hx hb dL_law_869 hl (by decide) rfl (fun ls hl => ?_)
    refine lv_aload_n hx hb dL_law_871 rfl (lv_at hl 4 rfl) ?_
    refine pg_iR (pg_rV (As := []) (rest := []) ⟨hx, hb, hml, hown, hts⟩ (cm_thrown l D cI cZ a' H.size (upd w.1 15 3, w.2)) (cwV 0 hts gL_law_X5_thrown rfl rfl rfl (by decide +kernel) ⟨Nat.le_of_ble_eq_true rfl, Nat.le_of_ble_eq_true rfl⟩) (hK.sub [0, 1] rfl) (pg_PR hP) (pg_DR hD) 0 (ci := 5) rfl rfl rfl rfl hl.1 rfl (Nat.le_of_ble_eq_true rfl) dL_law_872 ⟨hc, hs⟩) hP hD hS hA (fun H locs hP hD hS => ?_)
    have hP : va_P D vwCl (lw_W cI cZ cL a a' o u (upd w.1 15 3, w.2) f) H := hP
    have hD : va_D (fun q : Nat => s.heap.size ≤ q) (lw_W cI cZ cL a a' o u (upd w.1 15 3, w.2) f) := hD
    refine lv_iload hx hb dL_law_875 (lv_at hl 1 rfl) ?_
    refine lv_icmp_eq (tgt := 882) hx hb dL_law_877 (by decide) (fun _ => ?_) (fun h9 => (h9 (pg_updk w.1 15 3)).elim)
    refine lv_iload hx hb dL_law_882 (lv_at hl 1 rfl) ?_
    refine lv_if_ne (tgt := 899) hx hb dL_law_884 (by decide) (fun _ => ?_) (fun h9 => absurd h9 (by decide))
    refine lv_goto (tgt := 1307) hx hb dL_law_899 (by decide) ?_
    exact kk H locs ls _ _ _ ⟨_, _, hR.thr 3⟩ hP hD hS (lv_sub hl [2, 3, 4, 5, 6] rfl)
set_option maxHeartbeats 4000000 in
set_option maxRecDepth 100000 in
theorem lc_11 (hfl : l.stackTraces = false) (hL : L ≤ 3584) (C0 : lw_At p s m meth c b L xs) (hK : va_K D vwCl (pg_tyL cI cZ cL) s) (hE : pg_Env (fun q : Nat => s.heap.size ≤ q) s s.heap) (hi : 7 * i + 7 ≤ L) (hc : cells + 1 ≤ 1072) (hs : slots + 6 ≤ 8564) (hI : pg_Inv u w) (hP : va_P D vwCl (lw_W cI cZ cL a a' o u w f) H) (hD : va_D (fun q : Nat => s.heap.size ≤ q) (lw_W cI cZ cL a a' o u w f)) (hS : va_S (fun q : Nat => s.heap.size ≤ q) s.heap H locs) (hl : lv_has ls 7 [(0, .ref b), (1, .ref (a 0)), (2, .ref (a' 0)), (3, .ref o), (4, .int (nI (7 * i)))])
    (kk : ∀ (H : Heap) (locs : List Loc) (ls : Array Slot) (u w : pg_St) (f : Nat → Int64), pg_Inv u w → va_P D vwCl (lw_W cI cZ cL a a' o u w f) H → va_D (fun q : Nat => s.heap.size ≤ q) (lw_W cI cZ cL a a' o u w f) → va_S (fun q : Nat => s.heap.size ≤ q) s.heap H locs → lv_has ls 7 [(0, .ref b), (1, .ref (a 0)), (2, .ref (a' 0)), (3, .ref o), (4, .int (nI (7 * i)))] → W p l e room_1 s m #[Value.ref b] below meth c H locs (cells + 1) (slots + 6) Q (F0 m 1307 ls [])) :
    W p l e room_1 s m #[Value.ref b] below meth c H locs cells slots Q (F0 m 902 ls []) := by
  obtain ⟨hx, hb, hr, hml, hown, hts, hX, hbl, hlocks, hgv⟩ := id C0
  have hts := fun w h => hts w (wsL_law_in w h)
  have hown : s.vm.findClass RL = some m.cls := hown
  have hb : c.code = cL_law := hb
  have hA : ∀ q : Nat, s.heap.size ≤ q → (fun q : Nat => s.heap.size ≤ q) q := fun _ h => h
  have hbA : ¬ (fun q : Nat => s.heap.size ≤ q) b := Nat.not_le.mpr hbl
  have hc0 : cells + 0 ≤ 1072 := by omega
  have hs0 : slots + 0 ≤ 8564 := by omega
  obtain ⟨n, t, hR⟩ := hI
  obtain ⟨-, -, ⟨hn, h20, ht, h4⟩, ⟨-, -, hmet, hzer⟩, -⟩ := id hR
  have hnw : w.1 10 = nI n := (hR.1.1 10 (by decide)).symm.trans hn
  have htw : w.1 13 = nI t := (hR.1.1 13 (by decide)).symm.trans ht
  have hm : ∀ y : Nat, y < 4 → w.2 13 y = 0 ∨ w.2 13 y = 1 := fun y hy => by rw [← hR.1.2 13 (by decide)]; exact hmet y hy
  rcases pg_c_report (!pg_eq (u.1 3) (-1)) (!pg_eq (u.1 12) 0) (nI t) (xs (7 * i + 1)) with hthr | hthr | hthr
  · have hJ := pg_J_report hR hthr
    refine lv_aload_n hx hb dL_law_902 rfl (lv_at hl 1 rfl) ?_
    refine lv_aload_n hx hb dL_law_903 rfl (lv_at hl 0 rfl) ?_
    refine lv_iload hx hb dL_law_904 (lv_at hl 4 rfl) ?_
    refine lv_iconst (v := 1) hx hb dL_law_906 (by decide) ?_
    refine pg_iaddN (k := 7 * i) (j := 1) hx hb (by decide) dL_law_907 ?_
    refine pg_sld hx hb hX hbl hbA hS (show 7 * i + 1 < L by omega) hL dL_law_908 ?_
    refine lv_aload_n hx hb dL_law_909 rfl (lv_at hl 3 rfl) ?_
    refine pg_iL (pg_rSW (As := [.ref (a 0), .int (xs (7 * i + 1)), .ref o]) (rest := []) ⟨hx, hb, hml, hown, hts⟩ (cw_report_ok l D cI cZ cL a o H.size u f n hn h20 t ht h4 (xs (7 * i + 1)) hthr) (vx_cwSW 3 hts gL_law_L_report rfl rfl rfl (by decide +kernel) ⟨Nat.le_of_ble_eq_true rfl, Nat.le_of_ble_eq_true rfl⟩) hK (pg_PL hP) (pg_DL hD) rfl hl.1 rfl (Nat.le_of_ble_eq_true rfl) dL_law_910 ⟨hc0, hs0⟩) hP hD hS hA (fun H locs hP hD hS => ?_)
    have hP : va_P D vwCl (lw_W cI cZ cL a a' o (pg_owe (pg_tell u t (xs (7 * i + 1))) n (pg_tellr u t (xs (7 * i + 1)))) w (vp_updL f 0 (pg_tellr u t (xs (7 * i + 1))).toInt64)) H := hP
    have hD : va_D (fun q : Nat => s.heap.size ≤ q) (lw_W cI cZ cL a a' o (pg_owe (pg_tell u t (xs (7 * i + 1))) n (pg_tellr u t (xs (7 * i + 1)))) w (vp_updL f 0 (pg_tellr u t (xs (7 * i + 1))).toInt64)) := hD
    refine W.widen (k := cells + 1) (n := slots + 6) (by omega) (by omega) ?_
    refine lv_istore (lv' := [(5, .int 0), (0, .ref b), (1, .ref (a 0)), (2, .ref (a' 0)), (3, .ref o), (4, .int (nI (7 * i)))]) hx hb dL_law_913 hl (by decide) rfl (fun ls hl => ?_)
    refine lv_aload_n hx hb dL_law_915 rfl (lv_at hl 3 rfl) ?_
    refine lv_aload_n hx hb dL_law_916 rfl (lv_at hl 1 rfl) ?_
    refine lv_iload hx hb dL_law_917 (lv_at hl 5 rfl) ?_
    refine lv_iconst (v := 1) hx hb dL_law_919 (by decide) ?_
    refine pg_iaddN (k := 7 * i) (j := 1) hx hb (by decide) dL_law_920 ?_
    refine pg_sld hx hb hX hbl hbA hS (show 7 * i + 1 < L by omega) hL dL_law_921 ?_
    refine pg_iR (pg_rV (As := [.int (xs (7 * i + 1))]) (rest := []) ⟨hx, hb, hml, hown, hts⟩ (cm_report_ok l D cI cZ a' H.size w n hnw h20 t htw h4 hm (xs (7 * i + 1)) ((pg_T_report hR (xs (7 * i + 1))).symm.trans hthr)) (cwV 1 hts gL_law_X5_report rfl rfl rfl (by decide +kernel) ⟨Nat.le_of_ble_eq_true rfl, Nat.le_of_ble_eq_true rfl⟩) (hK.sub [0, 1] rfl) (pg_PR hP) (pg_DR hD) 0 (ci := 5) rfl rfl rfl rfl hl.1 rfl (Nat.le_of_ble_eq_true rfl) dL_law_922 ⟨hc, hs⟩) hP hD hS hA (fun H locs hP hD hS => ?_)
    have hP : va_P D vwCl (lw_W cI cZ cL a a' o (pg_owe (pg_tell u t (xs (7 * i + 1))) n (pg_tellr u t (xs (7 * i + 1)))) (pg_owe (upd (upd w.1 15 0) 13 (nI (t + 1)), pg_row (pg_row w.2 14 (upd (w.2 14) t (xs (7 * i + 1)))) 13 (pg_met w.2 (pg_tkM w t (xs (7 * i + 1))) (t + 1))) n (pg_msum w.2 (pg_tkM w t (xs (7 * i + 1))) (t + 1))) (vp_updL f 0 (pg_tellr u t (xs (7 * i + 1))).toInt64)) H := hP
    have hD : va_D (fun q : Nat => s.heap.size ≤ q) (lw_W cI cZ cL a a' o (pg_owe (pg_tell u t (xs (7 * i + 1))) n (pg_tellr u t (xs (7 * i + 1)))) (pg_owe (upd (upd w.1 15 0) 13 (nI (t + 1)), pg_row (pg_row w.2 14 (upd (w.2 14) t (xs (7 * i + 1)))) 13 (pg_met w.2 (pg_tkM w t (xs (7 * i + 1))) (t + 1))) n (pg_msum w.2 (pg_tkM w t (xs (7 * i + 1))) (t + 1))) (vp_updL f 0 (pg_tellr u t (xs (7 * i + 1))).toInt64)) := hD
    refine lv_istore (lv' := [(6, .int (pg_msum w.2 (pg_tkM w t (xs (7 * i + 1))) (t + 1))), (5, .int 0), (0, .ref b), (1, .ref (a 0)), (2, .ref (a' 0)), (3, .ref o), (4, .int (nI (7 * i)))]) hx hb dL_law_925 hl (by decide) rfl (fun ls hl => ?_)
    refine lv_aload_n hx hb dL_law_927 rfl (lv_at hl 4 rfl) ?_
    refine pg_iR (pg_rV (As := []) (rest := []) ⟨hx, hb, hml, hown, hts⟩ (cm_thrown l D cI cZ a' H.size (pg_owe (upd (upd w.1 15 0) 13 (nI (t + 1)), pg_row (pg_row w.2 14 (upd (w.2 14) t (xs (7 * i + 1)))) 13 (pg_met w.2 (pg_tkM w t (xs (7 * i + 1))) (t + 1))) n (pg_msum w.2 (pg_tkM w t (xs (7 * i + 1))) (t + 1)))) (cwV 0 hts gL_law_X5_thrown rfl rfl rfl (by decide +kernel) ⟨Nat.le_of_ble_eq_true rfl, Nat.le_of_ble_eq_true rfl⟩) (hK.sub [0, 1] rfl) (pg_PR hP) (pg_DR hD) 0 (ci := 5) rfl rfl rfl rfl hl.1 rfl (Nat.le_of_ble_eq_true rfl) dL_law_928 ⟨hc, hs⟩) hP hD hS hA (fun H locs hP hD hS => ?_)
    have hP : va_P D vwCl (lw_W cI cZ cL a a' o (pg_owe (pg_tell u t (xs (7 * i + 1))) n (pg_tellr u t (xs (7 * i + 1)))) (pg_owe (upd (upd w.1 15 0) 13 (nI (t + 1)), pg_row (pg_row w.2 14 (upd (w.2 14) t (xs (7 * i + 1)))) 13 (pg_met w.2 (pg_tkM w t (xs (7 * i + 1))) (t + 1))) n (pg_msum w.2 (pg_tkM w t (xs (7 * i + 1))) (t + 1))) (vp_updL f 0 (pg_tellr u t (xs (7 * i + 1))).toInt64)) H := hP
    have hD : va_D (fun q : Nat => s.heap.size ≤ q) (lw_W cI cZ cL a a' o (pg_owe (pg_tell u t (xs (7 * i + 1))) n (pg_tellr u t (xs (7 * i + 1)))) (pg_owe (upd (upd w.1 15 0) 13 (nI (t + 1)), pg_row (pg_row w.2 14 (upd (w.2 14) t (xs (7 * i + 1)))) 13 (pg_met w.2 (pg_tkM w t (xs (7 * i + 1))) (t + 1))) n (pg_msum w.2 (pg_tkM w t (xs (7 * i + 1))) (t + 1))) (vp_updL f 0 (pg_tellr u t (xs (7 * i + 1))).toInt64)) := hD
    refine lv_iload hx hb dL_law_931 (lv_at hl 1 rfl) ?_
    refine lv_icmp_eq (tgt := 938) hx hb dL_law_933 (by decide) (fun _ => ?_) (fun h9 => (h9 (rfl)).elim)
    refine lv_iload hx hb dL_law_938 (lv_at hl 1 rfl) ?_
    refine lv_if_ne (tgt := 955) hx hb dL_law_940 (by decide) (fun h9 => (h9 rfl).elim) (fun _ => ?_)
    refine lv_aload_n hx hb dL_law_943 rfl (lv_at hl 5 rfl) ?_
    refine lv_iconst (v := 0) hx hb dL_law_944 (by decide) ?_
    refine va_lald hx hb hK hP 19 2 rfl rfl (show vp_in 0 1 from vp_in_nI (n := 0) (by decide) (by decide)) dL_law_945 ?_
    refine lv_iload hx hb dL_law_946 (lv_at hl 0 rfl) ?_
    refine lv_i2l (v := (pg_msum w.2 (pg_tkM w t (xs (7 * i + 1))) (t + 1)).toInt64) hx hb dL_law_948 rfl ?_
    refine pg_lcmpE hx hb ((pg_updL0 f _).trans (congrArg Int32.toInt64 (hJ.1))) dL_law_949 ?_
    refine lv_if_eq (tgt := 955) hx hb dL_law_950 (by decide) (fun _ => ?_) (fun h9 => (h9 rfl).elim)
    refine lv_goto (tgt := 1307) hx hb dL_law_955 (by decide) ?_
    exact kk H locs ls _ _ _ ⟨_, _, hJ.2⟩ hP hD hS (lv_sub hl [2, 3, 4, 5, 6] rfl)
  · refine lv_aload_n hx hb dL_law_902 rfl (lv_at hl 1 rfl) ?_
    refine lv_aload_n hx hb dL_law_903 rfl (lv_at hl 0 rfl) ?_
    refine lv_iload hx hb dL_law_904 (lv_at hl 4 rfl) ?_
    refine lv_iconst (v := 1) hx hb dL_law_906 (by decide) ?_
    refine pg_iaddN (k := 7 * i) (j := 1) hx hb (by decide) dL_law_907 ?_
    refine pg_sld hx hb hX hbl hbA hS (show 7 * i + 1 < L by omega) hL dL_law_908 ?_
    refine lv_aload_n hx hb dL_law_909 rfl (lv_at hl 3 rfl) ?_
    refine pg_iL (pg_rSWT (As := [.ref (a 0), .int (xs (7 * i + 1)), .ref o]) (rest := []) ⟨hx, hb, hml, hown, hts⟩ (cw_report_1 l hfl D cI cZ cL a o H.size u f n hn h20 t ht h4 (xs (7 * i + 1)) hthr) (vx_cwSW 3 hts gL_law_L_report rfl rfl rfl (by decide +kernel) ⟨Nat.le_of_ble_eq_true rfl, Nat.le_of_ble_eq_true rfl⟩) hK (pg_PL hP) (pg_DL hD) hS hA hE rfl hl.1 rfl (Nat.le_of_ble_eq_true rfl) dL_law_910 ⟨hc, hs⟩) hP hD hS hA (fun H locs hP hD hS => ?_)
    have hP : va_P D vwCl (lw_W cI cZ cL a a' o u w f) H := hP
    have hD : va_D (fun q : Nat => s.heap.size ≤ q) (lw_W cI cZ cL a a' o u w f) := hD
    refine lv_istore (lv' := [(5, .int 1), (0, .ref b), (1, .ref (a 0)), (2, .ref (a' 0)), (3, .ref o), (4, .int (nI (7 * i)))]) hx hb dL_law_913 hl (by decide) rfl (fun ls hl => ?_)
    refine lv_aload_n hx hb dL_law_915 rfl (lv_at hl 3 rfl) ?_
    refine lv_aload_n hx hb dL_law_916 rfl (lv_at hl 1 rfl) ?_
    refine lv_iload hx hb dL_law_917 (lv_at hl 5 rfl) ?_
    refine lv_iconst (v := 1) hx hb dL_law_919 (by decide) ?_
    refine pg_iaddN (k := 7 * i) (j := 1) hx hb (by decide) dL_law_920 ?_
    refine pg_sld hx hb hX hbl hbA hS (show 7 * i + 1 < L by omega) hL dL_law_921 ?_
    refine pg_iR (pg_rV (As := [.int (xs (7 * i + 1))]) (rest := []) ⟨hx, hb, hml, hown, hts⟩ (cm_report_no l D cI cZ a' H.size w n hnw h20 t htw h4 hm (xs (7 * i + 1)) 1 ((pg_T_report hR (xs (7 * i + 1))).symm.trans hthr) (by decide)) (cwV 1 hts gL_law_X5_report rfl rfl rfl (by decide +kernel) ⟨Nat.le_of_ble_eq_true rfl, Nat.le_of_ble_eq_true rfl⟩) (hK.sub [0, 1] rfl) (pg_PR hP) (pg_DR hD) 0 (ci := 5) rfl rfl rfl rfl hl.1 rfl (Nat.le_of_ble_eq_true rfl) dL_law_922 ⟨hc, hs⟩) hP hD hS hA (fun H locs hP hD hS => ?_)
    have hP : va_P D vwCl (lw_W cI cZ cL a a' o u (upd w.1 15 1, w.2) f) H := hP
    have hD : va_D (fun q : Nat => s.heap.size ≤ q) (lw_W cI cZ cL a a' o u (upd w.1 15 1, w.2) f) := hD
    refine lv_istore (lv' := [(6, .int 0), (5, .int 1), (0, .ref b), (1, .ref (a 0)), (2, .ref (a' 0)), (3, .ref o), (4, .int (nI (7 * i)))]) hx hb dL_law_925 hl (by decide) rfl (fun ls hl => ?_)
    refine lv_aload_n hx hb dL_law_927 rfl (lv_at hl 4 rfl) ?_
    refine pg_iR (pg_rV (As := []) (rest := []) ⟨hx, hb, hml, hown, hts⟩ (cm_thrown l D cI cZ a' H.size (upd w.1 15 1, w.2)) (cwV 0 hts gL_law_X5_thrown rfl rfl rfl (by decide +kernel) ⟨Nat.le_of_ble_eq_true rfl, Nat.le_of_ble_eq_true rfl⟩) (hK.sub [0, 1] rfl) (pg_PR hP) (pg_DR hD) 0 (ci := 5) rfl rfl rfl rfl hl.1 rfl (Nat.le_of_ble_eq_true rfl) dL_law_928 ⟨hc, hs⟩) hP hD hS hA (fun H locs hP hD hS => ?_)
    have hP : va_P D vwCl (lw_W cI cZ cL a a' o u (upd w.1 15 1, w.2) f) H := hP
    have hD : va_D (fun q : Nat => s.heap.size ≤ q) (lw_W cI cZ cL a a' o u (upd w.1 15 1, w.2) f) := hD
    refine lv_iload hx hb dL_law_931 (lv_at hl 1 rfl) ?_
    refine lv_icmp_eq (tgt := 938) hx hb dL_law_933 (by decide) (fun _ => ?_) (fun h9 => (h9 (pg_updk w.1 15 1)).elim)
    refine lv_iload hx hb dL_law_938 (lv_at hl 1 rfl) ?_
    refine lv_if_ne (tgt := 955) hx hb dL_law_940 (by decide) (fun _ => ?_) (fun h9 => absurd h9 (by decide))
    refine lv_goto (tgt := 1307) hx hb dL_law_955 (by decide) ?_
    exact kk H locs ls _ _ _ ⟨_, _, hR.thr 1⟩ hP hD hS (lv_sub hl [2, 3, 4, 5, 6] rfl)
  · refine lv_aload_n hx hb dL_law_902 rfl (lv_at hl 1 rfl) ?_
    refine lv_aload_n hx hb dL_law_903 rfl (lv_at hl 0 rfl) ?_
    refine lv_iload hx hb dL_law_904 (lv_at hl 4 rfl) ?_
    refine lv_iconst (v := 1) hx hb dL_law_906 (by decide) ?_
    refine pg_iaddN (k := 7 * i) (j := 1) hx hb (by decide) dL_law_907 ?_
    refine pg_sld hx hb hX hbl hbA hS (show 7 * i + 1 < L by omega) hL dL_law_908 ?_
    refine lv_aload_n hx hb dL_law_909 rfl (lv_at hl 3 rfl) ?_
    refine pg_iL (pg_rSWT (As := [.ref (a 0), .int (xs (7 * i + 1)), .ref o]) (rest := []) ⟨hx, hb, hml, hown, hts⟩ (cw_report_2 l hfl D cI cZ cL a o H.size u f n hn h20 t ht h4 (xs (7 * i + 1)) hthr) (vx_cwSW 3 hts gL_law_L_report rfl rfl rfl (by decide +kernel) ⟨Nat.le_of_ble_eq_true rfl, Nat.le_of_ble_eq_true rfl⟩) hK (pg_PL hP) (pg_DL hD) hS hA hE rfl hl.1 rfl (Nat.le_of_ble_eq_true rfl) dL_law_910 ⟨hc, hs⟩) hP hD hS hA (fun H locs hP hD hS => ?_)
    have hP : va_P D vwCl (lw_W cI cZ cL a a' o u w f) H := hP
    have hD : va_D (fun q : Nat => s.heap.size ≤ q) (lw_W cI cZ cL a a' o u w f) := hD
    refine lv_istore (lv' := [(5, .int 2), (0, .ref b), (1, .ref (a 0)), (2, .ref (a' 0)), (3, .ref o), (4, .int (nI (7 * i)))]) hx hb dL_law_913 hl (by decide) rfl (fun ls hl => ?_)
    refine lv_aload_n hx hb dL_law_915 rfl (lv_at hl 3 rfl) ?_
    refine lv_aload_n hx hb dL_law_916 rfl (lv_at hl 1 rfl) ?_
    refine lv_iload hx hb dL_law_917 (lv_at hl 5 rfl) ?_
    refine lv_iconst (v := 1) hx hb dL_law_919 (by decide) ?_
    refine pg_iaddN (k := 7 * i) (j := 1) hx hb (by decide) dL_law_920 ?_
    refine pg_sld hx hb hX hbl hbA hS (show 7 * i + 1 < L by omega) hL dL_law_921 ?_
    refine pg_iR (pg_rV (As := [.int (xs (7 * i + 1))]) (rest := []) ⟨hx, hb, hml, hown, hts⟩ (cm_report_no l D cI cZ a' H.size w n hnw h20 t htw h4 hm (xs (7 * i + 1)) 2 ((pg_T_report hR (xs (7 * i + 1))).symm.trans hthr) (by decide)) (cwV 1 hts gL_law_X5_report rfl rfl rfl (by decide +kernel) ⟨Nat.le_of_ble_eq_true rfl, Nat.le_of_ble_eq_true rfl⟩) (hK.sub [0, 1] rfl) (pg_PR hP) (pg_DR hD) 0 (ci := 5) rfl rfl rfl rfl hl.1 rfl (Nat.le_of_ble_eq_true rfl) dL_law_922 ⟨hc, hs⟩) hP hD hS hA (fun H locs hP hD hS => ?_)
    have hP : va_P D vwCl (lw_W cI cZ cL a a' o u (upd w.1 15 2, w.2) f) H := hP
    have hD : va_D (fun q : Nat => s.heap.size ≤ q) (lw_W cI cZ cL a a' o u (upd w.1 15 2, w.2) f) := hD
    refine lv_istore (lv' := [(6, .int 0), (5, .int 2), (0, .ref b), (1, .ref (a 0)), (2, .ref (a' 0)), (3, .ref o), (4, .int (nI (7 * i)))]) hx hb dL_law_925 hl (by decide) rfl (fun ls hl => ?_)
    refine lv_aload_n hx hb dL_law_927 rfl (lv_at hl 4 rfl) ?_
    refine pg_iR (pg_rV (As := []) (rest := []) ⟨hx, hb, hml, hown, hts⟩ (cm_thrown l D cI cZ a' H.size (upd w.1 15 2, w.2)) (cwV 0 hts gL_law_X5_thrown rfl rfl rfl (by decide +kernel) ⟨Nat.le_of_ble_eq_true rfl, Nat.le_of_ble_eq_true rfl⟩) (hK.sub [0, 1] rfl) (pg_PR hP) (pg_DR hD) 0 (ci := 5) rfl rfl rfl rfl hl.1 rfl (Nat.le_of_ble_eq_true rfl) dL_law_928 ⟨hc, hs⟩) hP hD hS hA (fun H locs hP hD hS => ?_)
    have hP : va_P D vwCl (lw_W cI cZ cL a a' o u (upd w.1 15 2, w.2) f) H := hP
    have hD : va_D (fun q : Nat => s.heap.size ≤ q) (lw_W cI cZ cL a a' o u (upd w.1 15 2, w.2) f) := hD
    refine lv_iload hx hb dL_law_931 (lv_at hl 1 rfl) ?_
    refine lv_icmp_eq (tgt := 938) hx hb dL_law_933 (by decide) (fun _ => ?_) (fun h9 => (h9 (pg_updk w.1 15 2)).elim)
    refine lv_iload hx hb dL_law_938 (lv_at hl 1 rfl) ?_
    refine lv_if_ne (tgt := 955) hx hb dL_law_940 (by decide) (fun _ => ?_) (fun h9 => absurd h9 (by decide))
    refine lv_goto (tgt := 1307) hx hb dL_law_955 (by decide) ?_
    exact kk H locs ls _ _ _ ⟨_, _, hR.thr 2⟩ hP hD hS (lv_sub hl [2, 3, 4, 5, 6] rfl)
set_option maxHeartbeats 4000000 in
set_option maxRecDepth 100000 in
theorem lc_12 (hfl : l.stackTraces = false) (hL : L ≤ 3584) (C0 : lw_At p s m meth c b L xs) (hK : va_K D vwCl (pg_tyL cI cZ cL) s) (hE : pg_Env (fun q : Nat => s.heap.size ≤ q) s s.heap) (hi : 7 * i + 7 ≤ L) (hc : cells + 1 ≤ 1072) (hs : slots + 6 ≤ 8564) (hI : pg_Inv u w) (hP : va_P D vwCl (lw_W cI cZ cL a a' o u w f) H) (hD : va_D (fun q : Nat => s.heap.size ≤ q) (lw_W cI cZ cL a a' o u w f)) (hS : va_S (fun q : Nat => s.heap.size ≤ q) s.heap H locs) (hl : lv_has ls 7 [(0, .ref b), (1, .ref (a 0)), (2, .ref (a' 0)), (3, .ref o), (4, .int (nI (7 * i)))])
    (kk : ∀ (H : Heap) (locs : List Loc) (ls : Array Slot) (u w : pg_St) (f : Nat → Int64), pg_Inv u w → va_P D vwCl (lw_W cI cZ cL a a' o u w f) H → va_D (fun q : Nat => s.heap.size ≤ q) (lw_W cI cZ cL a a' o u w f) → va_S (fun q : Nat => s.heap.size ≤ q) s.heap H locs → lv_has ls 7 [(0, .ref b), (1, .ref (a 0)), (2, .ref (a' 0)), (3, .ref o), (4, .int (nI (7 * i)))] → W p l e room_1 s m #[Value.ref b] below meth c H locs (cells + 1) (slots + 6) Q (F0 m 1307 ls [])) :
    W p l e room_1 s m #[Value.ref b] below meth c H locs cells slots Q (F0 m 958 ls []) := by
  obtain ⟨hx, hb, hr, hml, hown, hts, hX, hbl, hlocks, hgv⟩ := id C0
  have hts := fun w h => hts w (wsL_law_in w h)
  have hown : s.vm.findClass RL = some m.cls := hown
  have hb : c.code = cL_law := hb
  have hA : ∀ q : Nat, s.heap.size ≤ q → (fun q : Nat => s.heap.size ≤ q) q := fun _ h => h
  have hbA : ¬ (fun q : Nat => s.heap.size ≤ q) b := Nat.not_le.mpr hbl
  have hc0 : cells + 0 ≤ 1072 := by omega
  have hs0 : slots + 0 ≤ 8564 := by omega
  obtain ⟨n, t, hR⟩ := hI
  obtain ⟨-, -, ⟨hn, h20, ht, h4⟩, ⟨-, -, hmet, hzer⟩, -⟩ := id hR
  have hnw : w.1 10 = nI n := (hR.1.1 10 (by decide)).symm.trans hn
  have htw : w.1 13 = nI t := (hR.1.1 13 (by decide)).symm.trans ht
  have hz : w.1 12 = 0 → ∀ y : Nat, t ≤ y → y < 4 → w.2 13 y = 0 := by rw [← hR.1.2 13 (by decide), ← hR.1.1 12 (by decide)]; exact hzer
  rcases pg_c_speedUp (!pg_eq (u.1 3) (-1)) (!pg_eq (u.1 12) 0) with hthr | hthr
  · have hJ := pg_I_speedUp hR
    refine lv_aload_n hx hb dL_law_958 rfl (lv_at hl 1 rfl) ?_
    refine lv_aload_n hx hb dL_law_959 rfl (lv_at hl 3 rfl) ?_
    refine pg_iL (pg_rSW (As := [.ref (a 0), .ref o]) (rest := []) ⟨hx, hb, hml, hown, hts⟩ (cw_speedUp_ok l D cI cZ cL a o H.size u f n hn h20 t ht h4 hthr) (vx_cwSW 2 hts gL_law_L_speedUp rfl rfl rfl (by decide +kernel) ⟨Nat.le_of_ble_eq_true rfl, Nat.le_of_ble_eq_true rfl⟩) hK (pg_PL hP) (pg_DL hD) rfl hl.1 rfl (Nat.le_of_ble_eq_true rfl) dL_law_960 ⟨hc0, hs0⟩) hP hD hS hA (fun H locs hP hD hS => ?_)
    have hP : va_P D vwCl (lw_W cI cZ cL a a' o (pg_owe (pg_has u t) n (pg_hasr u t)) w (vp_updL f 0 (pg_hasr u t).toInt64)) H := hP
    have hD : va_D (fun q : Nat => s.heap.size ≤ q) (lw_W cI cZ cL a a' o (pg_owe (pg_has u t) n (pg_hasr u t)) w (vp_updL f 0 (pg_hasr u t).toInt64)) := hD
    refine W.widen (k := cells + 1) (n := slots + 6) (by omega) (by omega) ?_
    refine lv_istore (lv' := [(5, .int 0), (0, .ref b), (1, .ref (a 0)), (2, .ref (a' 0)), (3, .ref o), (4, .int (nI (7 * i)))]) hx hb dL_law_963 hl (by decide) rfl (fun ls hl => ?_)
    refine lv_aload_n hx hb dL_law_965 rfl (lv_at hl 3 rfl) ?_
    refine pg_iR (pg_rV (As := []) (rest := []) ⟨hx, hb, hml, hown, hts⟩ (cm_speedUp_ok l D cI cZ a' H.size w n hnw h20 t htw h4 hz ((pg_T_speedUp hR).symm.trans hthr)) (cwV 0 hts gL_law_X5_speedUp rfl rfl rfl (by decide +kernel) ⟨Nat.le_of_ble_eq_true rfl, Nat.le_of_ble_eq_true rfl⟩) (hK.sub [0, 1] rfl) (pg_PR hP) (pg_DR hD) 0 (ci := 5) rfl rfl rfl rfl hl.1 rfl (Nat.le_of_ble_eq_true rfl) dL_law_966 ⟨hc, hs⟩) hP hD hS hA (fun H locs hP hD hS => ?_)
    have hP : va_P D vwCl (lw_W cI cZ cL a a' o (pg_owe (pg_has u t) n (pg_hasr u t)) (pg_owe (upd (upd w.1 15 0) 12 1, pg_row w.2 13 (pg_met w.2 t 4)) n (pg_msum w.2 t 4)) (vp_updL f 0 (pg_hasr u t).toInt64)) H := hP
    have hD : va_D (fun q : Nat => s.heap.size ≤ q) (lw_W cI cZ cL a a' o (pg_owe (pg_has u t) n (pg_hasr u t)) (pg_owe (upd (upd w.1 15 0) 12 1, pg_row w.2 13 (pg_met w.2 t 4)) n (pg_msum w.2 t 4)) (vp_updL f 0 (pg_hasr u t).toInt64)) := hD
    refine lv_istore (lv' := [(6, .int (pg_msum w.2 t 4)), (5, .int 0), (0, .ref b), (1, .ref (a 0)), (2, .ref (a' 0)), (3, .ref o), (4, .int (nI (7 * i)))]) hx hb dL_law_969 hl (by decide) rfl (fun ls hl => ?_)
    refine lv_aload_n hx hb dL_law_971 rfl (lv_at hl 4 rfl) ?_
    refine pg_iR (pg_rV (As := []) (rest := []) ⟨hx, hb, hml, hown, hts⟩ (cm_thrown l D cI cZ a' H.size (pg_owe (upd (upd w.1 15 0) 12 1, pg_row w.2 13 (pg_met w.2 t 4)) n (pg_msum w.2 t 4))) (cwV 0 hts gL_law_X5_thrown rfl rfl rfl (by decide +kernel) ⟨Nat.le_of_ble_eq_true rfl, Nat.le_of_ble_eq_true rfl⟩) (hK.sub [0, 1] rfl) (pg_PR hP) (pg_DR hD) 0 (ci := 5) rfl rfl rfl rfl hl.1 rfl (Nat.le_of_ble_eq_true rfl) dL_law_972 ⟨hc, hs⟩) hP hD hS hA (fun H locs hP hD hS => ?_)
    have hP : va_P D vwCl (lw_W cI cZ cL a a' o (pg_owe (pg_has u t) n (pg_hasr u t)) (pg_owe (upd (upd w.1 15 0) 12 1, pg_row w.2 13 (pg_met w.2 t 4)) n (pg_msum w.2 t 4)) (vp_updL f 0 (pg_hasr u t).toInt64)) H := hP
    have hD : va_D (fun q : Nat => s.heap.size ≤ q) (lw_W cI cZ cL a a' o (pg_owe (pg_has u t) n (pg_hasr u t)) (pg_owe (upd (upd w.1 15 0) 12 1, pg_row w.2 13 (pg_met w.2 t 4)) n (pg_msum w.2 t 4)) (vp_updL f 0 (pg_hasr u t).toInt64)) := hD
    refine lv_iload hx hb dL_law_975 (lv_at hl 1 rfl) ?_
    refine lv_icmp_eq (tgt := 982) hx hb dL_law_977 (by decide) (fun _ => ?_) (fun h9 => (h9 (rfl)).elim)
    refine lv_iload hx hb dL_law_982 (lv_at hl 1 rfl) ?_
    refine lv_if_ne (tgt := 999) hx hb dL_law_984 (by decide) (fun h9 => (h9 rfl).elim) (fun _ => ?_)
    refine lv_aload_n hx hb dL_law_987 rfl (lv_at hl 5 rfl) ?_
    refine lv_iconst (v := 0) hx hb dL_law_988 (by decide) ?_
    refine va_lald hx hb hK hP 19 2 rfl rfl (show vp_in 0 1 from vp_in_nI (n := 0) (by decide) (by decide)) dL_law_989 ?_
    refine lv_iload hx hb dL_law_990 (lv_at hl 0 rfl) ?_
    refine lv_i2l (v := (pg_msum w.2 t 4).toInt64) hx hb dL_law_992 rfl ?_
    refine pg_lcmpE hx hb ((pg_updL0 f _).trans (congrArg Int32.toInt64 (hJ.1))) dL_law_993 ?_
    refine lv_if_eq (tgt := 999) hx hb dL_law_994 (by decide) (fun _ => ?_) (fun h9 => (h9 rfl).elim)
    refine lv_goto (tgt := 1307) hx hb dL_law_999 (by decide) ?_
    exact kk H locs ls _ _ _ ⟨_, _, hJ.2⟩ hP hD hS (lv_sub hl [2, 3, 4, 5, 6] rfl)
  · refine lv_aload_n hx hb dL_law_958 rfl (lv_at hl 1 rfl) ?_
    refine lv_aload_n hx hb dL_law_959 rfl (lv_at hl 3 rfl) ?_
    refine pg_iL (pg_rSWT (As := [.ref (a 0), .ref o]) (rest := []) ⟨hx, hb, hml, hown, hts⟩ (cw_speedUp_1 l hfl D cI cZ cL a o H.size u f n hn h20 t ht h4 hthr) (vx_cwSW 2 hts gL_law_L_speedUp rfl rfl rfl (by decide +kernel) ⟨Nat.le_of_ble_eq_true rfl, Nat.le_of_ble_eq_true rfl⟩) hK (pg_PL hP) (pg_DL hD) hS hA hE rfl hl.1 rfl (Nat.le_of_ble_eq_true rfl) dL_law_960 ⟨hc, hs⟩) hP hD hS hA (fun H locs hP hD hS => ?_)
    have hP : va_P D vwCl (lw_W cI cZ cL a a' o u w f) H := hP
    have hD : va_D (fun q : Nat => s.heap.size ≤ q) (lw_W cI cZ cL a a' o u w f) := hD
    refine lv_istore (lv' := [(5, .int 1), (0, .ref b), (1, .ref (a 0)), (2, .ref (a' 0)), (3, .ref o), (4, .int (nI (7 * i)))]) hx hb dL_law_963 hl (by decide) rfl (fun ls hl => ?_)
    refine lv_aload_n hx hb dL_law_965 rfl (lv_at hl 3 rfl) ?_
    refine pg_iR (pg_rV (As := []) (rest := []) ⟨hx, hb, hml, hown, hts⟩ (cm_speedUp_no l D cI cZ a' H.size w n hnw h20 t htw h4 hz 1 ((pg_T_speedUp hR).symm.trans hthr) (by decide)) (cwV 0 hts gL_law_X5_speedUp rfl rfl rfl (by decide +kernel) ⟨Nat.le_of_ble_eq_true rfl, Nat.le_of_ble_eq_true rfl⟩) (hK.sub [0, 1] rfl) (pg_PR hP) (pg_DR hD) 0 (ci := 5) rfl rfl rfl rfl hl.1 rfl (Nat.le_of_ble_eq_true rfl) dL_law_966 ⟨hc, hs⟩) hP hD hS hA (fun H locs hP hD hS => ?_)
    have hP : va_P D vwCl (lw_W cI cZ cL a a' o u (upd w.1 15 1, w.2) f) H := hP
    have hD : va_D (fun q : Nat => s.heap.size ≤ q) (lw_W cI cZ cL a a' o u (upd w.1 15 1, w.2) f) := hD
    refine lv_istore (lv' := [(6, .int 0), (5, .int 1), (0, .ref b), (1, .ref (a 0)), (2, .ref (a' 0)), (3, .ref o), (4, .int (nI (7 * i)))]) hx hb dL_law_969 hl (by decide) rfl (fun ls hl => ?_)
    refine lv_aload_n hx hb dL_law_971 rfl (lv_at hl 4 rfl) ?_
    refine pg_iR (pg_rV (As := []) (rest := []) ⟨hx, hb, hml, hown, hts⟩ (cm_thrown l D cI cZ a' H.size (upd w.1 15 1, w.2)) (cwV 0 hts gL_law_X5_thrown rfl rfl rfl (by decide +kernel) ⟨Nat.le_of_ble_eq_true rfl, Nat.le_of_ble_eq_true rfl⟩) (hK.sub [0, 1] rfl) (pg_PR hP) (pg_DR hD) 0 (ci := 5) rfl rfl rfl rfl hl.1 rfl (Nat.le_of_ble_eq_true rfl) dL_law_972 ⟨hc, hs⟩) hP hD hS hA (fun H locs hP hD hS => ?_)
    have hP : va_P D vwCl (lw_W cI cZ cL a a' o u (upd w.1 15 1, w.2) f) H := hP
    have hD : va_D (fun q : Nat => s.heap.size ≤ q) (lw_W cI cZ cL a a' o u (upd w.1 15 1, w.2) f) := hD
    refine lv_iload hx hb dL_law_975 (lv_at hl 1 rfl) ?_
    refine lv_icmp_eq (tgt := 982) hx hb dL_law_977 (by decide) (fun _ => ?_) (fun h9 => (h9 (pg_updk w.1 15 1)).elim)
    refine lv_iload hx hb dL_law_982 (lv_at hl 1 rfl) ?_
    refine lv_if_ne (tgt := 999) hx hb dL_law_984 (by decide) (fun _ => ?_) (fun h9 => absurd h9 (by decide))
    refine lv_goto (tgt := 1307) hx hb dL_law_999 (by decide) ?_
    exact kk H locs ls _ _ _ ⟨_, _, hR.thr 1⟩ hP hD hS (lv_sub hl [2, 3, 4, 5, 6] rfl)
set_option maxHeartbeats 4000000 in
set_option maxRecDepth 100000 in
theorem lc_13 (hfl : l.stackTraces = false) (hL : L ≤ 3584) (C0 : lw_At p s m meth c b L xs) (hK : va_K D vwCl (pg_tyL cI cZ cL) s) (hE : pg_Env (fun q : Nat => s.heap.size ≤ q) s s.heap) (hi : 7 * i + 7 ≤ L) (hc : cells + 1 ≤ 1072) (hs : slots + 6 ≤ 8564) (hI : pg_Inv u w) (hP : va_P D vwCl (lw_W cI cZ cL a a' o u w f) H) (hD : va_D (fun q : Nat => s.heap.size ≤ q) (lw_W cI cZ cL a a' o u w f)) (hS : va_S (fun q : Nat => s.heap.size ≤ q) s.heap H locs) (hl : lv_has ls 7 [(0, .ref b), (1, .ref (a 0)), (2, .ref (a' 0)), (3, .ref o), (4, .int (nI (7 * i)))])
    (kk : ∀ (H : Heap) (locs : List Loc) (ls : Array Slot) (u w : pg_St) (f : Nat → Int64), pg_Inv u w → va_P D vwCl (lw_W cI cZ cL a a' o u w f) H → va_D (fun q : Nat => s.heap.size ≤ q) (lw_W cI cZ cL a a' o u w f) → va_S (fun q : Nat => s.heap.size ≤ q) s.heap H locs → lv_has ls 7 [(0, .ref b), (1, .ref (a 0)), (2, .ref (a' 0)), (3, .ref o), (4, .int (nI (7 * i)))] → W p l e room_1 s m #[Value.ref b] below meth c H locs (cells + 1) (slots + 6) Q (F0 m 1307 ls [])) :
    W p l e room_1 s m #[Value.ref b] below meth c H locs cells slots Q (F0 m 1002 ls []) := by
  obtain ⟨hx, hb, hr, hml, hown, hts, hX, hbl, hlocks, hgv⟩ := id C0
  have hts := fun w h => hts w (wsL_law_in w h)
  have hown : s.vm.findClass RL = some m.cls := hown
  have hb : c.code = cL_law := hb
  have hA : ∀ q : Nat, s.heap.size ≤ q → (fun q : Nat => s.heap.size ≤ q) q := fun _ h => h
  have hbA : ¬ (fun q : Nat => s.heap.size ≤ q) b := Nat.not_le.mpr hbl
  have hc0 : cells + 0 ≤ 1072 := by omega
  have hs0 : slots + 0 ≤ 8564 := by omega
  obtain ⟨n, t, hR⟩ := hI
  obtain ⟨-, -, ⟨hn, h20, ht, h4⟩, ⟨-, -, hmet, hzer⟩, -⟩ := id hR
  have hnw : w.1 10 = nI n := (hR.1.1 10 (by decide)).symm.trans hn
  have htw : w.1 13 = nI t := (hR.1.1 13 (by decide)).symm.trans ht
  refine lv_aload_n hx hb dL_law_1002 rfl (lv_at hl 1 rfl) ?_
  have hP := pg_asP hP
  have hD := pg_asD hD
  refine pg_iL (pg_rV (As := []) (rest := []) ⟨hx, hb, hml, hown, hts⟩ (cc_day l D cI cZ a H.size u) (cwV 0 hts gL_law_X4_day rfl rfl rfl (by decide +kernel) ⟨Nat.le_of_ble_eq_true rfl, Nat.le_of_ble_eq_true rfl⟩) (hK.sub [0, 1] rfl) (pg_PL hP) (pg_DL hD) 0 (ci := 4) rfl rfl rfl rfl hl.1 rfl (Nat.le_of_ble_eq_true rfl) dL_law_1003 ⟨hc0, hs0⟩) hP hD hS hA (fun H locs hP hD hS => ?_)
  have hP : va_P D vwCl (lw_W cI cZ cL a a' o u w f) H := pg_asP2 hP
  have hD : va_D (fun q : Nat => s.heap.size ≤ q) (lw_W cI cZ cL a a' o u w f) := pg_asD2 hD
  refine W.widen (k := cells + 1) (n := slots + 6) (by omega) (by omega) ?_
  refine lv_aload_n hx hb dL_law_1006 rfl (lv_at hl 2 rfl) ?_
  refine pg_iR (pg_rV (As := []) (rest := [.int (u.1 3)]) ⟨hx, hb, hml, hown, hts⟩ (cm_day l D cI cZ a' H.size w) (cwV 0 hts gL_law_X5_day rfl rfl rfl (by decide +kernel) ⟨Nat.le_of_ble_eq_true rfl, Nat.le_of_ble_eq_true rfl⟩) (hK.sub [0, 1] rfl) (pg_PR hP) (pg_DR hD) 0 (ci := 5) rfl rfl rfl rfl hl.1 rfl (Nat.le_of_ble_eq_true rfl) dL_law_1007 ⟨hc, hs⟩) hP hD hS hA (fun H locs hP hD hS => ?_)
  have hP : va_P D vwCl (lw_W cI cZ cL a a' o u (upd w.1 15 0, w.2) f) H := hP
  have hD : va_D (fun q : Nat => s.heap.size ≤ q) (lw_W cI cZ cL a a' o u (upd w.1 15 0, w.2) f) := hD
  refine lv_icmp_eq (tgt := 1307) hx hb dL_law_1010 (by decide) (fun _ => ?_) (fun h9 => (h9 (pg_dayE hR)).elim)
  exact kk H locs ls _ _ _ ⟨_, _, hR.thr 0⟩ hP hD hS hl
set_option maxHeartbeats 4000000 in
set_option maxRecDepth 100000 in
theorem lc_14 (hfl : l.stackTraces = false) (hL : L ≤ 3584) (C0 : lw_At p s m meth c b L xs) (hK : va_K D vwCl (pg_tyL cI cZ cL) s) (hE : pg_Env (fun q : Nat => s.heap.size ≤ q) s s.heap) (hi : 7 * i + 7 ≤ L) (hc : cells + 1 ≤ 1072) (hs : slots + 6 ≤ 8564) (hI : pg_Inv u w) (hP : va_P D vwCl (lw_W cI cZ cL a a' o u w f) H) (hD : va_D (fun q : Nat => s.heap.size ≤ q) (lw_W cI cZ cL a a' o u w f)) (hS : va_S (fun q : Nat => s.heap.size ≤ q) s.heap H locs) (hl : lv_has ls 7 [(0, .ref b), (1, .ref (a 0)), (2, .ref (a' 0)), (3, .ref o), (4, .int (nI (7 * i)))])
    (kk : ∀ (H : Heap) (locs : List Loc) (ls : Array Slot) (u w : pg_St) (f : Nat → Int64), pg_Inv u w → va_P D vwCl (lw_W cI cZ cL a a' o u w f) H → va_D (fun q : Nat => s.heap.size ≤ q) (lw_W cI cZ cL a a' o u w f) → va_S (fun q : Nat => s.heap.size ≤ q) s.heap H locs → lv_has ls 7 [(0, .ref b), (1, .ref (a 0)), (2, .ref (a' 0)), (3, .ref o), (4, .int (nI (7 * i)))] → W p l e room_1 s m #[Value.ref b] below meth c H locs (cells + 1) (slots + 6) Q (F0 m 1307 ls [])) :
    W p l e room_1 s m #[Value.ref b] below meth c H locs cells slots Q (F0 m 1015 ls []) := by
  obtain ⟨hx, hb, hr, hml, hown, hts, hX, hbl, hlocks, hgv⟩ := id C0
  have hts := fun w h => hts w (wsL_law_in w h)
  have hown : s.vm.findClass RL = some m.cls := hown
  have hb : c.code = cL_law := hb
  have hA : ∀ q : Nat, s.heap.size ≤ q → (fun q : Nat => s.heap.size ≤ q) q := fun _ h => h
  have hbA : ¬ (fun q : Nat => s.heap.size ≤ q) b := Nat.not_le.mpr hbl
  have hc0 : cells + 0 ≤ 1072 := by omega
  have hs0 : slots + 0 ≤ 8564 := by omega
  obtain ⟨n, t, hR⟩ := hI
  obtain ⟨-, -, ⟨hn, h20, ht, h4⟩, ⟨-, -, hmet, hzer⟩, -⟩ := id hR
  have hnw : w.1 10 = nI n := (hR.1.1 10 (by decide)).symm.trans hn
  have htw : w.1 13 = nI t := (hR.1.1 13 (by decide)).symm.trans ht
  refine lv_aload_n hx hb dL_law_1015 rfl (lv_at hl 1 rfl) ?_
  have hP := pg_asP hP
  have hD := pg_asD hD
  refine pg_iL (pg_rV (As := []) (rest := []) ⟨hx, hb, hml, hown, hts⟩ (cc_finalPrice l D cI cZ a H.size u) (cwV 0 hts gL_law_X4_finalPrice rfl rfl rfl (by decide +kernel) ⟨Nat.le_of_ble_eq_true rfl, Nat.le_of_ble_eq_true rfl⟩) (hK.sub [0, 1] rfl) (pg_PL hP) (pg_DL hD) 0 (ci := 4) rfl rfl rfl rfl hl.1 rfl (Nat.le_of_ble_eq_true rfl) dL_law_1016 ⟨hc0, hs0⟩) hP hD hS hA (fun H locs hP hD hS => ?_)
  have hP : va_P D vwCl (lw_W cI cZ cL a a' o u w f) H := pg_asP2 hP
  have hD : va_D (fun q : Nat => s.heap.size ≤ q) (lw_W cI cZ cL a a' o u w f) := pg_asD2 hD
  refine W.widen (k := cells + 1) (n := slots + 6) (by omega) (by omega) ?_
  refine lv_aload_n hx hb dL_law_1019 rfl (lv_at hl 2 rfl) ?_
  refine pg_iR (pg_rV (As := []) (rest := [.int (u.1 4)]) ⟨hx, hb, hml, hown, hts⟩ (cm_finalPrice l D cI cZ a' H.size w) (cwV 0 hts gL_law_X5_finalPrice rfl rfl rfl (by decide +kernel) ⟨Nat.le_of_ble_eq_true rfl, Nat.le_of_ble_eq_true rfl⟩) (hK.sub [0, 1] rfl) (pg_PR hP) (pg_DR hD) 0 (ci := 5) rfl rfl rfl rfl hl.1 rfl (Nat.le_of_ble_eq_true rfl) dL_law_1020 ⟨hc, hs⟩) hP hD hS hA (fun H locs hP hD hS => ?_)
  have hP : va_P D vwCl (lw_W cI cZ cL a a' o u (upd w.1 15 0, w.2) f) H := hP
  have hD : va_D (fun q : Nat => s.heap.size ≤ q) (lw_W cI cZ cL a a' o u (upd w.1 15 0, w.2) f) := hD
  refine lv_icmp_eq (tgt := 1307) hx hb dL_law_1023 (by decide) (fun _ => ?_) (fun h9 => (h9 (pg_finE hR)).elim)
  exact kk H locs ls _ _ _ ⟨_, _, hR.thr 0⟩ hP hD hS hl
set_option maxHeartbeats 4000000 in
set_option maxRecDepth 100000 in
theorem lc_15 (hfl : l.stackTraces = false) (hL : L ≤ 3584) (C0 : lw_At p s m meth c b L xs) (hK : va_K D vwCl (pg_tyL cI cZ cL) s) (hE : pg_Env (fun q : Nat => s.heap.size ≤ q) s s.heap) (hi : 7 * i + 7 ≤ L) (hc : cells + 1 ≤ 1072) (hs : slots + 6 ≤ 8564) (hI : pg_Inv u w) (hP : va_P D vwCl (lw_W cI cZ cL a a' o u w f) H) (hD : va_D (fun q : Nat => s.heap.size ≤ q) (lw_W cI cZ cL a a' o u w f)) (hS : va_S (fun q : Nat => s.heap.size ≤ q) s.heap H locs) (hl : lv_has ls 7 [(0, .ref b), (1, .ref (a 0)), (2, .ref (a' 0)), (3, .ref o), (4, .int (nI (7 * i)))])
    (kk : ∀ (H : Heap) (locs : List Loc) (ls : Array Slot) (u w : pg_St) (f : Nat → Int64), pg_Inv u w → va_P D vwCl (lw_W cI cZ cL a a' o u w f) H → va_D (fun q : Nat => s.heap.size ≤ q) (lw_W cI cZ cL a a' o u w f) → va_S (fun q : Nat => s.heap.size ≤ q) s.heap H locs → lv_has ls 7 [(0, .ref b), (1, .ref (a 0)), (2, .ref (a' 0)), (3, .ref o), (4, .int (nI (7 * i)))] → W p l e room_1 s m #[Value.ref b] below meth c H locs (cells + 1) (slots + 6) Q (F0 m 1307 ls [])) :
    W p l e room_1 s m #[Value.ref b] below meth c H locs cells slots Q (F0 m 1028 ls []) := by
  obtain ⟨hx, hb, hr, hml, hown, hts, hX, hbl, hlocks, hgv⟩ := id C0
  have hts := fun w h => hts w (wsL_law_in w h)
  have hown : s.vm.findClass RL = some m.cls := hown
  have hb : c.code = cL_law := hb
  have hA : ∀ q : Nat, s.heap.size ≤ q → (fun q : Nat => s.heap.size ≤ q) q := fun _ h => h
  have hbA : ¬ (fun q : Nat => s.heap.size ≤ q) b := Nat.not_le.mpr hbl
  have hc0 : cells + 0 ≤ 1072 := by omega
  have hs0 : slots + 0 ≤ 8564 := by omega
  obtain ⟨n, t, hR⟩ := hI
  obtain ⟨-, -, ⟨hn, h20, ht, h4⟩, ⟨-, -, hmet, hzer⟩, -⟩ := id hR
  have hnw : w.1 10 = nI n := (hR.1.1 10 (by decide)).symm.trans hn
  have htw : w.1 13 = nI t := (hR.1.1 13 (by decide)).symm.trans ht
  refine lv_aload_n hx hb dL_law_1028 rfl (lv_at hl 1 rfl) ?_
  have hP := pg_asP hP
  have hD := pg_asD hD
  refine pg_iL (pg_rV (As := []) (rest := []) ⟨hx, hb, hml, hown, hts⟩ (cc_held l D cI cZ a H.size u) (cwV 0 hts gL_law_X4_held rfl rfl rfl (by decide +kernel) ⟨Nat.le_of_ble_eq_true rfl, Nat.le_of_ble_eq_true rfl⟩) (hK.sub [0, 1] rfl) (pg_PL hP) (pg_DL hD) 0 (ci := 4) rfl rfl rfl rfl hl.1 rfl (Nat.le_of_ble_eq_true rfl) dL_law_1029 ⟨hc0, hs0⟩) hP hD hS hA (fun H locs hP hD hS => ?_)
  have hP : va_P D vwCl (lw_W cI cZ cL a a' o u w f) H := pg_asP2 hP
  have hD : va_D (fun q : Nat => s.heap.size ≤ q) (lw_W cI cZ cL a a' o u w f) := pg_asD2 hD
  refine W.widen (k := cells + 1) (n := slots + 6) (by omega) (by omega) ?_
  refine lv_aload_n hx hb dL_law_1032 rfl (lv_at hl 2 rfl) ?_
  refine pg_iR (pg_rV (As := []) (rest := [.int (u.1 5)]) ⟨hx, hb, hml, hown, hts⟩ (cm_held l D cI cZ a' H.size w) (cwV 0 hts gL_law_X5_held rfl rfl rfl (by decide +kernel) ⟨Nat.le_of_ble_eq_true rfl, Nat.le_of_ble_eq_true rfl⟩) (hK.sub [0, 1] rfl) (pg_PR hP) (pg_DR hD) 0 (ci := 5) rfl rfl rfl rfl hl.1 rfl (Nat.le_of_ble_eq_true rfl) dL_law_1033 ⟨hc, hs⟩) hP hD hS hA (fun H locs hP hD hS => ?_)
  have hP : va_P D vwCl (lw_W cI cZ cL a a' o u (upd w.1 15 0, w.2) f) H := hP
  have hD : va_D (fun q : Nat => s.heap.size ≤ q) (lw_W cI cZ cL a a' o u (upd w.1 15 0, w.2) f) := hD
  refine lv_icmp_eq (tgt := 1307) hx hb dL_law_1036 (by decide) (fun _ => ?_) (fun h9 => (h9 (hR.1.1 5 (by decide))).elim)
  exact kk H locs ls _ _ _ ⟨_, _, hR.thr 0⟩ hP hD hS hl
set_option maxHeartbeats 4000000 in
set_option maxRecDepth 100000 in
theorem lc_16 (hfl : l.stackTraces = false) (hL : L ≤ 3584) (C0 : lw_At p s m meth c b L xs) (hK : va_K D vwCl (pg_tyL cI cZ cL) s) (hE : pg_Env (fun q : Nat => s.heap.size ≤ q) s s.heap) (hi : 7 * i + 7 ≤ L) (hc : cells + 1 ≤ 1072) (hs : slots + 6 ≤ 8564) (hI : pg_Inv u w) (hP : va_P D vwCl (lw_W cI cZ cL a a' o u w f) H) (hD : va_D (fun q : Nat => s.heap.size ≤ q) (lw_W cI cZ cL a a' o u w f)) (hS : va_S (fun q : Nat => s.heap.size ≤ q) s.heap H locs) (hl : lv_has ls 7 [(0, .ref b), (1, .ref (a 0)), (2, .ref (a' 0)), (3, .ref o), (4, .int (nI (7 * i)))])
    (kk : ∀ (H : Heap) (locs : List Loc) (ls : Array Slot) (u w : pg_St) (f : Nat → Int64), pg_Inv u w → va_P D vwCl (lw_W cI cZ cL a a' o u w f) H → va_D (fun q : Nat => s.heap.size ≤ q) (lw_W cI cZ cL a a' o u w f) → va_S (fun q : Nat => s.heap.size ≤ q) s.heap H locs → lv_has ls 7 [(0, .ref b), (1, .ref (a 0)), (2, .ref (a' 0)), (3, .ref o), (4, .int (nI (7 * i)))] → W p l e room_1 s m #[Value.ref b] below meth c H locs (cells + 1) (slots + 6) Q (F0 m 1307 ls [])) :
    W p l e room_1 s m #[Value.ref b] below meth c H locs cells slots Q (F0 m 1041 ls []) := by
  obtain ⟨hx, hb, hr, hml, hown, hts, hX, hbl, hlocks, hgv⟩ := id C0
  have hts := fun w h => hts w (wsL_law_in w h)
  have hown : s.vm.findClass RL = some m.cls := hown
  have hb : c.code = cL_law := hb
  have hA : ∀ q : Nat, s.heap.size ≤ q → (fun q : Nat => s.heap.size ≤ q) q := fun _ h => h
  have hbA : ¬ (fun q : Nat => s.heap.size ≤ q) b := Nat.not_le.mpr hbl
  have hc0 : cells + 0 ≤ 1072 := by omega
  have hs0 : slots + 0 ≤ 8564 := by omega
  obtain ⟨n, t, hR⟩ := hI
  obtain ⟨-, -, ⟨hn, h20, ht, h4⟩, ⟨-, -, hmet, hzer⟩, -⟩ := id hR
  have hnw : w.1 10 = nI n := (hR.1.1 10 (by decide)).symm.trans hn
  have htw : w.1 13 = nI t := (hR.1.1 13 (by decide)).symm.trans ht
  refine lv_aload_n hx hb dL_law_1041 rfl (lv_at hl 1 rfl) ?_
  have hP := pg_asP hP
  have hD := pg_asD hD
  refine pg_iL (pg_rV (As := []) (rest := []) ⟨hx, hb, hml, hown, hts⟩ (cc_paid l D cI cZ a H.size u) (cwV 0 hts gL_law_X4_paid rfl rfl rfl (by decide +kernel) ⟨Nat.le_of_ble_eq_true rfl, Nat.le_of_ble_eq_true rfl⟩) (hK.sub [0, 1] rfl) (pg_PL hP) (pg_DL hD) 0 (ci := 4) rfl rfl rfl rfl hl.1 rfl (Nat.le_of_ble_eq_true rfl) dL_law_1042 ⟨hc0, hs0⟩) hP hD hS hA (fun H locs hP hD hS => ?_)
  have hP : va_P D vwCl (lw_W cI cZ cL a a' o u w f) H := pg_asP2 hP
  have hD : va_D (fun q : Nat => s.heap.size ≤ q) (lw_W cI cZ cL a a' o u w f) := pg_asD2 hD
  refine W.widen (k := cells + 1) (n := slots + 6) (by omega) (by omega) ?_
  refine lv_aload_n hx hb dL_law_1045 rfl (lv_at hl 2 rfl) ?_
  refine pg_iR (pg_rV (As := []) (rest := [.int (u.1 6)]) ⟨hx, hb, hml, hown, hts⟩ (cm_paid l D cI cZ a' H.size w) (cwV 0 hts gL_law_X5_paid rfl rfl rfl (by decide +kernel) ⟨Nat.le_of_ble_eq_true rfl, Nat.le_of_ble_eq_true rfl⟩) (hK.sub [0, 1] rfl) (pg_PR hP) (pg_DR hD) 0 (ci := 5) rfl rfl rfl rfl hl.1 rfl (Nat.le_of_ble_eq_true rfl) dL_law_1046 ⟨hc, hs⟩) hP hD hS hA (fun H locs hP hD hS => ?_)
  have hP : va_P D vwCl (lw_W cI cZ cL a a' o u (upd w.1 15 0, w.2) f) H := hP
  have hD : va_D (fun q : Nat => s.heap.size ≤ q) (lw_W cI cZ cL a a' o u (upd w.1 15 0, w.2) f) := hD
  refine lv_icmp_eq (tgt := 1307) hx hb dL_law_1049 (by decide) (fun _ => ?_) (fun h9 => (h9 (hR.1.1 6 (by decide))).elim)
  exact kk H locs ls _ _ _ ⟨_, _, hR.thr 0⟩ hP hD hS hl
set_option maxHeartbeats 4000000 in
set_option maxRecDepth 100000 in
theorem lc_17 (hfl : l.stackTraces = false) (hL : L ≤ 3584) (C0 : lw_At p s m meth c b L xs) (hK : va_K D vwCl (pg_tyL cI cZ cL) s) (hE : pg_Env (fun q : Nat => s.heap.size ≤ q) s s.heap) (hi : 7 * i + 7 ≤ L) (hc : cells + 1 ≤ 1072) (hs : slots + 6 ≤ 8564) (hI : pg_Inv u w) (hP : va_P D vwCl (lw_W cI cZ cL a a' o u w f) H) (hD : va_D (fun q : Nat => s.heap.size ≤ q) (lw_W cI cZ cL a a' o u w f)) (hS : va_S (fun q : Nat => s.heap.size ≤ q) s.heap H locs) (hl : lv_has ls 7 [(0, .ref b), (1, .ref (a 0)), (2, .ref (a' 0)), (3, .ref o), (4, .int (nI (7 * i)))])
    (kk : ∀ (H : Heap) (locs : List Loc) (ls : Array Slot) (u w : pg_St) (f : Nat → Int64), pg_Inv u w → va_P D vwCl (lw_W cI cZ cL a a' o u w f) H → va_D (fun q : Nat => s.heap.size ≤ q) (lw_W cI cZ cL a a' o u w f) → va_S (fun q : Nat => s.heap.size ≤ q) s.heap H locs → lv_has ls 7 [(0, .ref b), (1, .ref (a 0)), (2, .ref (a' 0)), (3, .ref o), (4, .int (nI (7 * i)))] → W p l e room_1 s m #[Value.ref b] below meth c H locs (cells + 1) (slots + 6) Q (F0 m 1307 ls [])) :
    W p l e room_1 s m #[Value.ref b] below meth c H locs cells slots Q (F0 m 1054 ls []) := by
  obtain ⟨hx, hb, hr, hml, hown, hts, hX, hbl, hlocks, hgv⟩ := id C0
  have hts := fun w h => hts w (wsL_law_in w h)
  have hown : s.vm.findClass RL = some m.cls := hown
  have hb : c.code = cL_law := hb
  have hA : ∀ q : Nat, s.heap.size ≤ q → (fun q : Nat => s.heap.size ≤ q) q := fun _ h => h
  have hbA : ¬ (fun q : Nat => s.heap.size ≤ q) b := Nat.not_le.mpr hbl
  have hc0 : cells + 0 ≤ 1072 := by omega
  have hs0 : slots + 0 ≤ 8564 := by omega
  obtain ⟨n, t, hR⟩ := hI
  obtain ⟨-, -, ⟨hn, h20, ht, h4⟩, ⟨-, -, hmet, hzer⟩, -⟩ := id hR
  have hnw : w.1 10 = nI n := (hR.1.1 10 (by decide)).symm.trans hn
  have htw : w.1 13 = nI t := (hR.1.1 13 (by decide)).symm.trans ht
  refine lv_aload_n hx hb dL_law_1054 rfl (lv_at hl 1 rfl) ?_
  have hP := pg_asP hP
  have hD := pg_asD hD
  refine pg_iL (pg_rV (As := []) (rest := []) ⟨hx, hb, hml, hown, hts⟩ (cc_returned l D cI cZ a H.size u) (cwV 0 hts gL_law_X4_returned rfl rfl rfl (by decide +kernel) ⟨Nat.le_of_ble_eq_true rfl, Nat.le_of_ble_eq_true rfl⟩) (hK.sub [0, 1] rfl) (pg_PL hP) (pg_DL hD) 0 (ci := 4) rfl rfl rfl rfl hl.1 rfl (Nat.le_of_ble_eq_true rfl) dL_law_1055 ⟨hc0, hs0⟩) hP hD hS hA (fun H locs hP hD hS => ?_)
  have hP : va_P D vwCl (lw_W cI cZ cL a a' o u w f) H := pg_asP2 hP
  have hD : va_D (fun q : Nat => s.heap.size ≤ q) (lw_W cI cZ cL a a' o u w f) := pg_asD2 hD
  refine W.widen (k := cells + 1) (n := slots + 6) (by omega) (by omega) ?_
  refine lv_aload_n hx hb dL_law_1058 rfl (lv_at hl 2 rfl) ?_
  refine pg_iR (pg_rV (As := []) (rest := [.int (u.1 7)]) ⟨hx, hb, hml, hown, hts⟩ (cm_returned l D cI cZ a' H.size w) (cwV 0 hts gL_law_X5_returned rfl rfl rfl (by decide +kernel) ⟨Nat.le_of_ble_eq_true rfl, Nat.le_of_ble_eq_true rfl⟩) (hK.sub [0, 1] rfl) (pg_PR hP) (pg_DR hD) 0 (ci := 5) rfl rfl rfl rfl hl.1 rfl (Nat.le_of_ble_eq_true rfl) dL_law_1059 ⟨hc, hs⟩) hP hD hS hA (fun H locs hP hD hS => ?_)
  have hP : va_P D vwCl (lw_W cI cZ cL a a' o u (upd w.1 15 0, w.2) f) H := hP
  have hD : va_D (fun q : Nat => s.heap.size ≤ q) (lw_W cI cZ cL a a' o u (upd w.1 15 0, w.2) f) := hD
  refine lv_icmp_eq (tgt := 1307) hx hb dL_law_1062 (by decide) (fun _ => ?_) (fun h9 => (h9 (hR.1.1 7 (by decide))).elim)
  exact kk H locs ls _ _ _ ⟨_, _, hR.thr 0⟩ hP hD hS hl
set_option maxHeartbeats 4000000 in
set_option maxRecDepth 100000 in
theorem lc_18 (hfl : l.stackTraces = false) (hL : L ≤ 3584) (C0 : lw_At p s m meth c b L xs) (hK : va_K D vwCl (pg_tyL cI cZ cL) s) (hE : pg_Env (fun q : Nat => s.heap.size ≤ q) s s.heap) (hi : 7 * i + 7 ≤ L) (hc : cells + 1 ≤ 1072) (hs : slots + 6 ≤ 8564) (hI : pg_Inv u w) (hP : va_P D vwCl (lw_W cI cZ cL a a' o u w f) H) (hD : va_D (fun q : Nat => s.heap.size ≤ q) (lw_W cI cZ cL a a' o u w f)) (hS : va_S (fun q : Nat => s.heap.size ≤ q) s.heap H locs) (hl : lv_has ls 7 [(0, .ref b), (1, .ref (a 0)), (2, .ref (a' 0)), (3, .ref o), (4, .int (nI (7 * i)))])
    (kk : ∀ (H : Heap) (locs : List Loc) (ls : Array Slot) (u w : pg_St) (f : Nat → Int64), pg_Inv u w → va_P D vwCl (lw_W cI cZ cL a a' o u w f) H → va_D (fun q : Nat => s.heap.size ≤ q) (lw_W cI cZ cL a a' o u w f) → va_S (fun q : Nat => s.heap.size ≤ q) s.heap H locs → lv_has ls 7 [(0, .ref b), (1, .ref (a 0)), (2, .ref (a' 0)), (3, .ref o), (4, .int (nI (7 * i)))] → W p l e room_1 s m #[Value.ref b] below meth c H locs (cells + 1) (slots + 6) Q (F0 m 1307 ls [])) :
    W p l e room_1 s m #[Value.ref b] below meth c H locs cells slots Q (F0 m 1067 ls []) := by
  obtain ⟨hx, hb, hr, hml, hown, hts, hX, hbl, hlocks, hgv⟩ := id C0
  have hts := fun w h => hts w (wsL_law_in w h)
  have hown : s.vm.findClass RL = some m.cls := hown
  have hb : c.code = cL_law := hb
  have hA : ∀ q : Nat, s.heap.size ≤ q → (fun q : Nat => s.heap.size ≤ q) q := fun _ h => h
  have hbA : ¬ (fun q : Nat => s.heap.size ≤ q) b := Nat.not_le.mpr hbl
  have hc0 : cells + 0 ≤ 1072 := by omega
  have hs0 : slots + 0 ≤ 8564 := by omega
  obtain ⟨n, t, hR⟩ := hI
  obtain ⟨-, -, ⟨hn, h20, ht, h4⟩, ⟨-, -, hmet, hzer⟩, -⟩ := id hR
  have hnw : w.1 10 = nI n := (hR.1.1 10 (by decide)).symm.trans hn
  have htw : w.1 13 = nI t := (hR.1.1 13 (by decide)).symm.trans ht
  refine lv_aload_n hx hb dL_law_1067 rfl (lv_at hl 1 rfl) ?_
  have hP := pg_asP hP
  have hD := pg_asD hD
  refine pg_iL (pg_rV (As := []) (rest := []) ⟨hx, hb, hml, hown, hts⟩ (cc_setOff l D cI cZ a H.size u) (cwV 0 hts gL_law_X4_setOff rfl rfl rfl (by decide +kernel) ⟨Nat.le_of_ble_eq_true rfl, Nat.le_of_ble_eq_true rfl⟩) (hK.sub [0, 1] rfl) (pg_PL hP) (pg_DL hD) 0 (ci := 4) rfl rfl rfl rfl hl.1 rfl (Nat.le_of_ble_eq_true rfl) dL_law_1068 ⟨hc0, hs0⟩) hP hD hS hA (fun H locs hP hD hS => ?_)
  have hP : va_P D vwCl (lw_W cI cZ cL a a' o u w f) H := pg_asP2 hP
  have hD : va_D (fun q : Nat => s.heap.size ≤ q) (lw_W cI cZ cL a a' o u w f) := pg_asD2 hD
  refine W.widen (k := cells + 1) (n := slots + 6) (by omega) (by omega) ?_
  refine lv_aload_n hx hb dL_law_1071 rfl (lv_at hl 2 rfl) ?_
  refine pg_iR (pg_rV (As := []) (rest := [.int (u.1 8)]) ⟨hx, hb, hml, hown, hts⟩ (cm_setOff l D cI cZ a' H.size w) (cwV 0 hts gL_law_X5_setOff rfl rfl rfl (by decide +kernel) ⟨Nat.le_of_ble_eq_true rfl, Nat.le_of_ble_eq_true rfl⟩) (hK.sub [0, 1] rfl) (pg_PR hP) (pg_DR hD) 0 (ci := 5) rfl rfl rfl rfl hl.1 rfl (Nat.le_of_ble_eq_true rfl) dL_law_1072 ⟨hc, hs⟩) hP hD hS hA (fun H locs hP hD hS => ?_)
  have hP : va_P D vwCl (lw_W cI cZ cL a a' o u (upd w.1 15 0, w.2) f) H := hP
  have hD : va_D (fun q : Nat => s.heap.size ≤ q) (lw_W cI cZ cL a a' o u (upd w.1 15 0, w.2) f) := hD
  refine lv_icmp_eq (tgt := 1307) hx hb dL_law_1075 (by decide) (fun _ => ?_) (fun h9 => (h9 (hR.1.1 8 (by decide))).elim)
  exact kk H locs ls _ _ _ ⟨_, _, hR.thr 0⟩ hP hD hS hl
set_option maxHeartbeats 4000000 in
set_option maxRecDepth 100000 in
theorem lc_19 (hfl : l.stackTraces = false) (hL : L ≤ 3584) (C0 : lw_At p s m meth c b L xs) (hK : va_K D vwCl (pg_tyL cI cZ cL) s) (hE : pg_Env (fun q : Nat => s.heap.size ≤ q) s s.heap) (hi : 7 * i + 7 ≤ L) (hc : cells + 1 ≤ 1072) (hs : slots + 6 ≤ 8564) (hI : pg_Inv u w) (hP : va_P D vwCl (lw_W cI cZ cL a a' o u w f) H) (hD : va_D (fun q : Nat => s.heap.size ≤ q) (lw_W cI cZ cL a a' o u w f)) (hS : va_S (fun q : Nat => s.heap.size ≤ q) s.heap H locs) (hl : lv_has ls 7 [(0, .ref b), (1, .ref (a 0)), (2, .ref (a' 0)), (3, .ref o), (4, .int (nI (7 * i)))])
    (kk : ∀ (H : Heap) (locs : List Loc) (ls : Array Slot) (u w : pg_St) (f : Nat → Int64), pg_Inv u w → va_P D vwCl (lw_W cI cZ cL a a' o u w f) H → va_D (fun q : Nat => s.heap.size ≤ q) (lw_W cI cZ cL a a' o u w f) → va_S (fun q : Nat => s.heap.size ≤ q) s.heap H locs → lv_has ls 7 [(0, .ref b), (1, .ref (a 0)), (2, .ref (a' 0)), (3, .ref o), (4, .int (nI (7 * i)))] → W p l e room_1 s m #[Value.ref b] below meth c H locs (cells + 1) (slots + 6) Q (F0 m 1307 ls [])) :
    W p l e room_1 s m #[Value.ref b] below meth c H locs cells slots Q (F0 m 1080 ls []) := by
  obtain ⟨hx, hb, hr, hml, hown, hts, hX, hbl, hlocks, hgv⟩ := id C0
  have hts := fun w h => hts w (wsL_law_in w h)
  have hown : s.vm.findClass RL = some m.cls := hown
  have hb : c.code = cL_law := hb
  have hA : ∀ q : Nat, s.heap.size ≤ q → (fun q : Nat => s.heap.size ≤ q) q := fun _ h => h
  have hbA : ¬ (fun q : Nat => s.heap.size ≤ q) b := Nat.not_le.mpr hbl
  have hc0 : cells + 0 ≤ 1072 := by omega
  have hs0 : slots + 0 ≤ 8564 := by omega
  obtain ⟨n, t, hR⟩ := hI
  obtain ⟨-, -, ⟨hn, h20, ht, h4⟩, ⟨-, -, hmet, hzer⟩, -⟩ := id hR
  have hnw : w.1 10 = nI n := (hR.1.1 10 (by decide)).symm.trans hn
  have htw : w.1 13 = nI t := (hR.1.1 13 (by decide)).symm.trans ht
  refine lv_aload_n hx hb dL_law_1080 rfl (lv_at hl 1 rfl) ?_
  have hP := pg_asP hP
  have hD := pg_asD hD
  refine pg_iL (pg_rV (As := []) (rest := []) ⟨hx, hb, hml, hown, hts⟩ (cc_owed l D cI cZ a H.size u) (cwV 0 hts gL_law_X4_owed rfl rfl rfl (by decide +kernel) ⟨Nat.le_of_ble_eq_true rfl, Nat.le_of_ble_eq_true rfl⟩) (hK.sub [0, 1] rfl) (pg_PL hP) (pg_DL hD) 0 (ci := 4) rfl rfl rfl rfl hl.1 rfl (Nat.le_of_ble_eq_true rfl) dL_law_1081 ⟨hc0, hs0⟩) hP hD hS hA (fun H locs hP hD hS => ?_)
  have hP : va_P D vwCl (lw_W cI cZ cL a a' o u w f) H := pg_asP2 hP
  have hD : va_D (fun q : Nat => s.heap.size ≤ q) (lw_W cI cZ cL a a' o u w f) := pg_asD2 hD
  refine W.widen (k := cells + 1) (n := slots + 6) (by omega) (by omega) ?_
  refine lv_aload_n hx hb dL_law_1084 rfl (lv_at hl 2 rfl) ?_
  refine pg_iR (pg_rV (As := []) (rest := [.int (u.1 9)]) ⟨hx, hb, hml, hown, hts⟩ (cm_owed l D cI cZ a' H.size w) (cwV 0 hts gL_law_X5_owed rfl rfl rfl (by decide +kernel) ⟨Nat.le_of_ble_eq_true rfl, Nat.le_of_ble_eq_true rfl⟩) (hK.sub [0, 1] rfl) (pg_PR hP) (pg_DR hD) 0 (ci := 5) rfl rfl rfl rfl hl.1 rfl (Nat.le_of_ble_eq_true rfl) dL_law_1085 ⟨hc, hs⟩) hP hD hS hA (fun H locs hP hD hS => ?_)
  have hP : va_P D vwCl (lw_W cI cZ cL a a' o u (upd w.1 15 0, w.2) f) H := hP
  have hD : va_D (fun q : Nat => s.heap.size ≤ q) (lw_W cI cZ cL a a' o u (upd w.1 15 0, w.2) f) := hD
  refine lv_icmp_eq (tgt := 1307) hx hb dL_law_1088 (by decide) (fun _ => ?_) (fun h9 => (h9 (hR.1.1 9 (by decide))).elim)
  exact kk H locs ls _ _ _ ⟨_, _, hR.thr 0⟩ hP hD hS hl
set_option maxHeartbeats 4000000 in
set_option maxRecDepth 100000 in
theorem lc_20 (hfl : l.stackTraces = false) (hL : L ≤ 3584) (C0 : lw_At p s m meth c b L xs) (hK : va_K D vwCl (pg_tyL cI cZ cL) s) (hE : pg_Env (fun q : Nat => s.heap.size ≤ q) s s.heap) (hi : 7 * i + 7 ≤ L) (hc : cells + 1 ≤ 1072) (hs : slots + 6 ≤ 8564) (hI : pg_Inv u w) (hP : va_P D vwCl (lw_W cI cZ cL a a' o u w f) H) (hD : va_D (fun q : Nat => s.heap.size ≤ q) (lw_W cI cZ cL a a' o u w f)) (hS : va_S (fun q : Nat => s.heap.size ≤ q) s.heap H locs) (hl : lv_has ls 7 [(0, .ref b), (1, .ref (a 0)), (2, .ref (a' 0)), (3, .ref o), (4, .int (nI (7 * i)))])
    (kk : ∀ (H : Heap) (locs : List Loc) (ls : Array Slot) (u w : pg_St) (f : Nat → Int64), pg_Inv u w → va_P D vwCl (lw_W cI cZ cL a a' o u w f) H → va_D (fun q : Nat => s.heap.size ≤ q) (lw_W cI cZ cL a a' o u w f) → va_S (fun q : Nat => s.heap.size ≤ q) s.heap H locs → lv_has ls 7 [(0, .ref b), (1, .ref (a 0)), (2, .ref (a' 0)), (3, .ref o), (4, .int (nI (7 * i)))] → W p l e room_1 s m #[Value.ref b] below meth c H locs (cells + 1) (slots + 6) Q (F0 m 1307 ls [])) :
    W p l e room_1 s m #[Value.ref b] below meth c H locs cells slots Q (F0 m 1093 ls []) := by
  obtain ⟨hx, hb, hr, hml, hown, hts, hX, hbl, hlocks, hgv⟩ := id C0
  have hts := fun w h => hts w (wsL_law_in w h)
  have hown : s.vm.findClass RL = some m.cls := hown
  have hb : c.code = cL_law := hb
  have hA : ∀ q : Nat, s.heap.size ≤ q → (fun q : Nat => s.heap.size ≤ q) q := fun _ h => h
  have hbA : ¬ (fun q : Nat => s.heap.size ≤ q) b := Nat.not_le.mpr hbl
  have hc0 : cells + 0 ≤ 1072 := by omega
  have hs0 : slots + 0 ≤ 8564 := by omega
  obtain ⟨n, t, hR⟩ := hI
  obtain ⟨-, -, ⟨hn, h20, ht, h4⟩, ⟨-, -, hmet, hzer⟩, -⟩ := id hR
  have hnw : w.1 10 = nI n := (hR.1.1 10 (by decide)).symm.trans hn
  have htw : w.1 13 = nI t := (hR.1.1 13 (by decide)).symm.trans ht
  refine lv_aload_n hx hb dL_law_1093 rfl (lv_at hl 1 rfl) ?_
  have hP := pg_asP hP
  have hD := pg_asD hD
  refine pg_iL (pg_rV (As := []) (rest := []) ⟨hx, hb, hml, hown, hts⟩ (cc_due l D cI cZ a H.size u n hn h20) (cwV 0 hts gL_law_X4_due rfl rfl rfl (by decide +kernel) ⟨Nat.le_of_ble_eq_true rfl, Nat.le_of_ble_eq_true rfl⟩) (hK.sub [0, 1] rfl) (pg_PL hP) (pg_DL hD) 0 (ci := 4) rfl rfl rfl rfl hl.1 rfl (Nat.le_of_ble_eq_true rfl) dL_law_1094 ⟨hc0, hs0⟩) hP hD hS hA (fun H locs hP hD hS => ?_)
  have hP : va_P D vwCl (lw_W cI cZ cL a a' o u w f) H := pg_asP2 hP
  have hD : va_D (fun q : Nat => s.heap.size ≤ q) (lw_W cI cZ cL a a' o u w f) := pg_asD2 hD
  refine W.widen (k := cells + 1) (n := slots + 6) (by omega) (by omega) ?_
  refine lv_aload_n hx hb dL_law_1097 rfl (lv_at hl 2 rfl) ?_
  refine pg_iR (pg_rV (As := []) (rest := [.int (pg_all u.2 n)]) ⟨hx, hb, hml, hown, hts⟩ (cm_due l D cI cZ a' H.size w n hnw h20) (cwV 0 hts gL_law_X5_due rfl rfl rfl (by decide +kernel) ⟨Nat.le_of_ble_eq_true rfl, Nat.le_of_ble_eq_true rfl⟩) (hK.sub [0, 1] rfl) (pg_PR hP) (pg_DR hD) 0 (ci := 5) rfl rfl rfl rfl hl.1 rfl (Nat.le_of_ble_eq_true rfl) dL_law_1098 ⟨hc, hs⟩) hP hD hS hA (fun H locs hP hD hS => ?_)
  have hP : va_P D vwCl (lw_W cI cZ cL a a' o u (upd w.1 15 0, w.2) f) H := hP
  have hD : va_D (fun q : Nat => s.heap.size ≤ q) (lw_W cI cZ cL a a' o u (upd w.1 15 0, w.2) f) := hD
  refine lv_icmp_eq (tgt := 1307) hx hb dL_law_1101 (by decide) (fun _ => ?_) (fun h9 => (h9 (hR.1.all n)).elim)
  exact kk H locs ls _ _ _ ⟨_, _, hR.thr 0⟩ hP hD hS hl
set_option maxHeartbeats 4000000 in
set_option maxRecDepth 100000 in
theorem lc_21 (hfl : l.stackTraces = false) (hL : L ≤ 3584) (C0 : lw_At p s m meth c b L xs) (hK : va_K D vwCl (pg_tyL cI cZ cL) s) (hE : pg_Env (fun q : Nat => s.heap.size ≤ q) s s.heap) (hi : 7 * i + 7 ≤ L) (hc : cells + 1 ≤ 1072) (hs : slots + 6 ≤ 8564) (hI : pg_Inv u w) (hP : va_P D vwCl (lw_W cI cZ cL a a' o u w f) H) (hD : va_D (fun q : Nat => s.heap.size ≤ q) (lw_W cI cZ cL a a' o u w f)) (hS : va_S (fun q : Nat => s.heap.size ≤ q) s.heap H locs) (hl : lv_has ls 7 [(0, .ref b), (1, .ref (a 0)), (2, .ref (a' 0)), (3, .ref o), (4, .int (nI (7 * i)))])
    (kk : ∀ (H : Heap) (locs : List Loc) (ls : Array Slot) (u w : pg_St) (f : Nat → Int64), pg_Inv u w → va_P D vwCl (lw_W cI cZ cL a a' o u w f) H → va_D (fun q : Nat => s.heap.size ≤ q) (lw_W cI cZ cL a a' o u w f) → va_S (fun q : Nat => s.heap.size ≤ q) s.heap H locs → lv_has ls 7 [(0, .ref b), (1, .ref (a 0)), (2, .ref (a' 0)), (3, .ref o), (4, .int (nI (7 * i)))] → W p l e room_1 s m #[Value.ref b] below meth c H locs (cells + 1) (slots + 6) Q (F0 m 1307 ls [])) :
    W p l e room_1 s m #[Value.ref b] below meth c H locs cells slots Q (F0 m 1106 ls []) := by
  obtain ⟨hx, hb, hr, hml, hown, hts, hX, hbl, hlocks, hgv⟩ := id C0
  have hts := fun w h => hts w (wsL_law_in w h)
  have hown : s.vm.findClass RL = some m.cls := hown
  have hb : c.code = cL_law := hb
  have hA : ∀ q : Nat, s.heap.size ≤ q → (fun q : Nat => s.heap.size ≤ q) q := fun _ h => h
  have hbA : ¬ (fun q : Nat => s.heap.size ≤ q) b := Nat.not_le.mpr hbl
  have hc0 : cells + 0 ≤ 1072 := by omega
  have hs0 : slots + 0 ≤ 8564 := by omega
  obtain ⟨n, t, hR⟩ := hI
  obtain ⟨-, -, ⟨hn, h20, ht, h4⟩, ⟨-, -, hmet, hzer⟩, -⟩ := id hR
  have hnw : w.1 10 = nI n := (hR.1.1 10 (by decide)).symm.trans hn
  have htw : w.1 13 = nI t := (hR.1.1 13 (by decide)).symm.trans ht
  refine lv_aload_n hx hb dL_law_1106 rfl (lv_at hl 1 rfl) ?_
  have hP := pg_asP hP
  have hD := pg_asD hD
  refine pg_iL (pg_rV (As := []) (rest := []) ⟨hx, hb, hml, hown, hts⟩ (cc_outstanding l D cI cZ a H.size u n hn h20) (cwV 0 hts gL_law_X4_outstanding rfl rfl rfl (by decide +kernel) ⟨Nat.le_of_ble_eq_true rfl, Nat.le_of_ble_eq_true rfl⟩) (hK.sub [0, 1] rfl) (pg_PL hP) (pg_DL hD) 0 (ci := 4) rfl rfl rfl rfl hl.1 rfl (Nat.le_of_ble_eq_true rfl) dL_law_1107 ⟨hc0, hs0⟩) hP hD hS hA (fun H locs hP hD hS => ?_)
  have hP : va_P D vwCl (lw_W cI cZ cL a a' o u w f) H := pg_asP2 hP
  have hD : va_D (fun q : Nat => s.heap.size ≤ q) (lw_W cI cZ cL a a' o u w f) := pg_asD2 hD
  refine W.widen (k := cells + 1) (n := slots + 6) (by omega) (by omega) ?_
  refine lv_aload_n hx hb dL_law_1110 rfl (lv_at hl 2 rfl) ?_
  refine pg_iR (pg_rV (As := []) (rest := [.int (pg_out u n)]) ⟨hx, hb, hml, hown, hts⟩ (cm_outstanding l D cI cZ a' H.size w n hnw h20) (cwV 0 hts gL_law_X5_outstanding rfl rfl rfl (by decide +kernel) ⟨Nat.le_of_ble_eq_true rfl, Nat.le_of_ble_eq_true rfl⟩) (hK.sub [0, 1] rfl) (pg_PR hP) (pg_DR hD) 0 (ci := 5) rfl rfl rfl rfl hl.1 rfl (Nat.le_of_ble_eq_true rfl) dL_law_1111 ⟨hc, hs⟩) hP hD hS hA (fun H locs hP hD hS => ?_)
  have hP : va_P D vwCl (lw_W cI cZ cL a a' o u (upd w.1 15 0, w.2) f) H := hP
  have hD : va_D (fun q : Nat => s.heap.size ≤ q) (lw_W cI cZ cL a a' o u (upd w.1 15 0, w.2) f) := hD
  refine lv_icmp_eq (tgt := 1307) hx hb dL_law_1114 (by decide) (fun _ => ?_) (fun h9 => (h9 (hR.1.out n)).elim)
  exact kk H locs ls _ _ _ ⟨_, _, hR.thr 0⟩ hP hD hS hl
set_option maxHeartbeats 4000000 in
set_option maxRecDepth 100000 in
theorem lc_22 (hfl : l.stackTraces = false) (hL : L ≤ 3584) (C0 : lw_At p s m meth c b L xs) (hK : va_K D vwCl (pg_tyL cI cZ cL) s) (hE : pg_Env (fun q : Nat => s.heap.size ≤ q) s s.heap) (hi : 7 * i + 7 ≤ L) (hc : cells + 1 ≤ 1072) (hs : slots + 6 ≤ 8564) (hI : pg_Inv u w) (hP : va_P D vwCl (lw_W cI cZ cL a a' o u w f) H) (hD : va_D (fun q : Nat => s.heap.size ≤ q) (lw_W cI cZ cL a a' o u w f)) (hS : va_S (fun q : Nat => s.heap.size ≤ q) s.heap H locs) (hl : lv_has ls 7 [(0, .ref b), (1, .ref (a 0)), (2, .ref (a' 0)), (3, .ref o), (4, .int (nI (7 * i)))])
    (kk : ∀ (H : Heap) (locs : List Loc) (ls : Array Slot) (u w : pg_St) (f : Nat → Int64), pg_Inv u w → va_P D vwCl (lw_W cI cZ cL a a' o u w f) H → va_D (fun q : Nat => s.heap.size ≤ q) (lw_W cI cZ cL a a' o u w f) → va_S (fun q : Nat => s.heap.size ≤ q) s.heap H locs → lv_has ls 7 [(0, .ref b), (1, .ref (a 0)), (2, .ref (a' 0)), (3, .ref o), (4, .int (nI (7 * i)))] → W p l e room_1 s m #[Value.ref b] below meth c H locs (cells + 1) (slots + 6) Q (F0 m 1307 ls [])) :
    W p l e room_1 s m #[Value.ref b] below meth c H locs cells slots Q (F0 m 1119 ls []) := by
  obtain ⟨hx, hb, hr, hml, hown, hts, hX, hbl, hlocks, hgv⟩ := id C0
  have hts := fun w h => hts w (wsL_law_in w h)
  have hown : s.vm.findClass RL = some m.cls := hown
  have hb : c.code = cL_law := hb
  have hA : ∀ q : Nat, s.heap.size ≤ q → (fun q : Nat => s.heap.size ≤ q) q := fun _ h => h
  have hbA : ¬ (fun q : Nat => s.heap.size ≤ q) b := Nat.not_le.mpr hbl
  have hc0 : cells + 0 ≤ 1072 := by omega
  have hs0 : slots + 0 ≤ 8564 := by omega
  obtain ⟨n, t, hR⟩ := hI
  obtain ⟨-, -, ⟨hn, h20, ht, h4⟩, ⟨-, -, hmet, hzer⟩, -⟩ := id hR
  have hnw : w.1 10 = nI n := (hR.1.1 10 (by decide)).symm.trans hn
  have htw : w.1 13 = nI t := (hR.1.1 13 (by decide)).symm.trans ht
  rcases pg_c_num (xs (7 * i + 1)) 3 with hthr | hthr
  · refine lv_aload_n hx hb dL_law_1119 rfl (lv_at hl 1 rfl) ?_
    refine lv_aload_n hx hb dL_law_1120 rfl (lv_at hl 0 rfl) ?_
    refine lv_iload hx hb dL_law_1121 (lv_at hl 4 rfl) ?_
    refine lv_iconst (v := 1) hx hb dL_law_1123 (by decide) ?_
    refine pg_iaddN (k := 7 * i) (j := 1) hx hb (by decide) dL_law_1124 ?_
    refine pg_sld hx hb hX hbl hbA hS (show 7 * i + 1 < L by omega) hL dL_law_1125 ?_
    refine lv_aload_n hx hb dL_law_1126 rfl (lv_at hl 3 rfl) ?_
    refine pg_iL (pg_rSW (As := [.ref (a 0), .int (xs (7 * i + 1)), .ref o]) (rest := []) ⟨hx, hb, hml, hown, hts⟩ (cw_dueOf_ok l D cI cZ cL a o H.size u f n hn h20 (xs (7 * i + 1)) hthr) (vx_cwSW 3 hts gL_law_L_dueOf rfl rfl rfl (by decide +kernel) ⟨Nat.le_of_ble_eq_true rfl, Nat.le_of_ble_eq_true rfl⟩) hK (pg_PL hP) (pg_DL hD) rfl hl.1 rfl (Nat.le_of_ble_eq_true rfl) dL_law_1127 ⟨hc0, hs0⟩) hP hD hS hA (fun H locs hP hD hS => ?_)
    have hP : va_P D vwCl (lw_W cI cZ cL a a' o u w (vp_updL f 0 (pg_due u.2 n (xs (7 * i + 1)).toNatClampNeg).toInt64)) H := hP
    have hD : va_D (fun q : Nat => s.heap.size ≤ q) (lw_W cI cZ cL a a' o u w (vp_updL f 0 (pg_due u.2 n (xs (7 * i + 1)).toNatClampNeg).toInt64)) := hD
    refine W.widen (k := cells + 1) (n := slots + 6) (by omega) (by omega) ?_
    refine lv_istore (lv' := [(5, .int 0), (0, .ref b), (1, .ref (a 0)), (2, .ref (a' 0)), (3, .ref o), (4, .int (nI (7 * i)))]) hx hb dL_law_1130 hl (by decide) rfl (fun ls hl => ?_)
    refine lv_aload_n hx hb dL_law_1132 rfl (lv_at hl 3 rfl) ?_
    refine lv_aload_n hx hb dL_law_1133 rfl (lv_at hl 1 rfl) ?_
    refine lv_iload hx hb dL_law_1134 (lv_at hl 5 rfl) ?_
    refine lv_iconst (v := 1) hx hb dL_law_1136 (by decide) ?_
    refine pg_iaddN (k := 7 * i) (j := 1) hx hb (by decide) dL_law_1137 ?_
    refine pg_sld hx hb hX hbl hbA hS (show 7 * i + 1 < L by omega) hL dL_law_1138 ?_
    refine pg_iR (pg_rV (As := [.int (xs (7 * i + 1))]) (rest := []) ⟨hx, hb, hml, hown, hts⟩ (cm_dueOf_ok l D cI cZ a' H.size w n hnw h20 (xs (7 * i + 1)) (hthr)) (cwV 1 hts gL_law_X5_dueOf rfl rfl rfl (by decide +kernel) ⟨Nat.le_of_ble_eq_true rfl, Nat.le_of_ble_eq_true rfl⟩) (hK.sub [0, 1] rfl) (pg_PR hP) (pg_DR hD) 0 (ci := 5) rfl rfl rfl rfl hl.1 rfl (Nat.le_of_ble_eq_true rfl) dL_law_1139 ⟨hc, hs⟩) hP hD hS hA (fun H locs hP hD hS => ?_)
    have hP : va_P D vwCl (lw_W cI cZ cL a a' o u (upd w.1 15 0, w.2) (vp_updL f 0 (pg_due u.2 n (xs (7 * i + 1)).toNatClampNeg).toInt64)) H := hP
    have hD : va_D (fun q : Nat => s.heap.size ≤ q) (lw_W cI cZ cL a a' o u (upd w.1 15 0, w.2) (vp_updL f 0 (pg_due u.2 n (xs (7 * i + 1)).toNatClampNeg).toInt64)) := hD
    refine lv_istore (lv' := [(6, .int (pg_due w.2 n (xs (7 * i + 1)).toNatClampNeg)), (5, .int 0), (0, .ref b), (1, .ref (a 0)), (2, .ref (a' 0)), (3, .ref o), (4, .int (nI (7 * i)))]) hx hb dL_law_1142 hl (by decide) rfl (fun ls hl => ?_)
    refine lv_aload_n hx hb dL_law_1144 rfl (lv_at hl 4 rfl) ?_
    refine pg_iR (pg_rV (As := []) (rest := []) ⟨hx, hb, hml, hown, hts⟩ (cm_thrown l D cI cZ a' H.size (upd w.1 15 0, w.2)) (cwV 0 hts gL_law_X5_thrown rfl rfl rfl (by decide +kernel) ⟨Nat.le_of_ble_eq_true rfl, Nat.le_of_ble_eq_true rfl⟩) (hK.sub [0, 1] rfl) (pg_PR hP) (pg_DR hD) 0 (ci := 5) rfl rfl rfl rfl hl.1 rfl (Nat.le_of_ble_eq_true rfl) dL_law_1145 ⟨hc, hs⟩) hP hD hS hA (fun H locs hP hD hS => ?_)
    have hP : va_P D vwCl (lw_W cI cZ cL a a' o u (upd w.1 15 0, w.2) (vp_updL f 0 (pg_due u.2 n (xs (7 * i + 1)).toNatClampNeg).toInt64)) H := hP
    have hD : va_D (fun q : Nat => s.heap.size ≤ q) (lw_W cI cZ cL a a' o u (upd w.1 15 0, w.2) (vp_updL f 0 (pg_due u.2 n (xs (7 * i + 1)).toNatClampNeg).toInt64)) := hD
    refine lv_iload hx hb dL_law_1148 (lv_at hl 1 rfl) ?_
    refine lv_icmp_eq (tgt := 1155) hx hb dL_law_1150 (by decide) (fun _ => ?_) (fun h9 => (h9 (rfl)).elim)
    refine lv_iload hx hb dL_law_1155 (lv_at hl 1 rfl) ?_
    refine lv_if_ne (tgt := 1172) hx hb dL_law_1157 (by decide) (fun h9 => (h9 rfl).elim) (fun _ => ?_)
    refine lv_aload_n hx hb dL_law_1160 rfl (lv_at hl 5 rfl) ?_
    refine lv_iconst (v := 0) hx hb dL_law_1161 (by decide) ?_
    refine va_lald hx hb hK hP 19 2 rfl rfl (show vp_in 0 1 from vp_in_nI (n := 0) (by decide) (by decide)) dL_law_1162 ?_
    refine lv_iload hx hb dL_law_1163 (lv_at hl 0 rfl) ?_
    refine lv_i2l (v := (pg_due w.2 n (xs (7 * i + 1)).toNatClampNeg).toInt64) hx hb dL_law_1165 rfl ?_
    refine pg_lcmpE hx hb ((pg_updL0 f _).trans (congrArg Int32.toInt64 (hR.1.due n _))) dL_law_1166 ?_
    refine lv_if_eq (tgt := 1172) hx hb dL_law_1167 (by decide) (fun _ => ?_) (fun h9 => (h9 rfl).elim)
    refine lv_goto (tgt := 1307) hx hb dL_law_1172 (by decide) ?_
    exact kk H locs ls _ _ _ ⟨_, _, hR.thr 0⟩ hP hD hS (lv_sub hl [2, 3, 4, 5, 6] rfl)
  · refine lv_aload_n hx hb dL_law_1119 rfl (lv_at hl 1 rfl) ?_
    refine lv_aload_n hx hb dL_law_1120 rfl (lv_at hl 0 rfl) ?_
    refine lv_iload hx hb dL_law_1121 (lv_at hl 4 rfl) ?_
    refine lv_iconst (v := 1) hx hb dL_law_1123 (by decide) ?_
    refine pg_iaddN (k := 7 * i) (j := 1) hx hb (by decide) dL_law_1124 ?_
    refine pg_sld hx hb hX hbl hbA hS (show 7 * i + 1 < L by omega) hL dL_law_1125 ?_
    refine lv_aload_n hx hb dL_law_1126 rfl (lv_at hl 3 rfl) ?_
    refine pg_iL (pg_rSWT (As := [.ref (a 0), .int (xs (7 * i + 1)), .ref o]) (rest := []) ⟨hx, hb, hml, hown, hts⟩ (cw_dueOf_1 l hfl D cI cZ cL a o H.size u f n hn h20 (xs (7 * i + 1)) hthr) (vx_cwSW 3 hts gL_law_L_dueOf rfl rfl rfl (by decide +kernel) ⟨Nat.le_of_ble_eq_true rfl, Nat.le_of_ble_eq_true rfl⟩) hK (pg_PL hP) (pg_DL hD) hS hA hE rfl hl.1 rfl (Nat.le_of_ble_eq_true rfl) dL_law_1127 ⟨hc, hs⟩) hP hD hS hA (fun H locs hP hD hS => ?_)
    have hP : va_P D vwCl (lw_W cI cZ cL a a' o u w f) H := hP
    have hD : va_D (fun q : Nat => s.heap.size ≤ q) (lw_W cI cZ cL a a' o u w f) := hD
    refine lv_istore (lv' := [(5, .int 1), (0, .ref b), (1, .ref (a 0)), (2, .ref (a' 0)), (3, .ref o), (4, .int (nI (7 * i)))]) hx hb dL_law_1130 hl (by decide) rfl (fun ls hl => ?_)
    refine lv_aload_n hx hb dL_law_1132 rfl (lv_at hl 3 rfl) ?_
    refine lv_aload_n hx hb dL_law_1133 rfl (lv_at hl 1 rfl) ?_
    refine lv_iload hx hb dL_law_1134 (lv_at hl 5 rfl) ?_
    refine lv_iconst (v := 1) hx hb dL_law_1136 (by decide) ?_
    refine pg_iaddN (k := 7 * i) (j := 1) hx hb (by decide) dL_law_1137 ?_
    refine pg_sld hx hb hX hbl hbA hS (show 7 * i + 1 < L by omega) hL dL_law_1138 ?_
    refine pg_iR (pg_rV (As := [.int (xs (7 * i + 1))]) (rest := []) ⟨hx, hb, hml, hown, hts⟩ (cm_dueOf_no l D cI cZ a' H.size w n hnw h20 (xs (7 * i + 1)) 1 (hthr) (by decide)) (cwV 1 hts gL_law_X5_dueOf rfl rfl rfl (by decide +kernel) ⟨Nat.le_of_ble_eq_true rfl, Nat.le_of_ble_eq_true rfl⟩) (hK.sub [0, 1] rfl) (pg_PR hP) (pg_DR hD) 0 (ci := 5) rfl rfl rfl rfl hl.1 rfl (Nat.le_of_ble_eq_true rfl) dL_law_1139 ⟨hc, hs⟩) hP hD hS hA (fun H locs hP hD hS => ?_)
    have hP : va_P D vwCl (lw_W cI cZ cL a a' o u (upd w.1 15 1, w.2) f) H := hP
    have hD : va_D (fun q : Nat => s.heap.size ≤ q) (lw_W cI cZ cL a a' o u (upd w.1 15 1, w.2) f) := hD
    refine lv_istore (lv' := [(6, .int 0), (5, .int 1), (0, .ref b), (1, .ref (a 0)), (2, .ref (a' 0)), (3, .ref o), (4, .int (nI (7 * i)))]) hx hb dL_law_1142 hl (by decide) rfl (fun ls hl => ?_)
    refine lv_aload_n hx hb dL_law_1144 rfl (lv_at hl 4 rfl) ?_
    refine pg_iR (pg_rV (As := []) (rest := []) ⟨hx, hb, hml, hown, hts⟩ (cm_thrown l D cI cZ a' H.size (upd w.1 15 1, w.2)) (cwV 0 hts gL_law_X5_thrown rfl rfl rfl (by decide +kernel) ⟨Nat.le_of_ble_eq_true rfl, Nat.le_of_ble_eq_true rfl⟩) (hK.sub [0, 1] rfl) (pg_PR hP) (pg_DR hD) 0 (ci := 5) rfl rfl rfl rfl hl.1 rfl (Nat.le_of_ble_eq_true rfl) dL_law_1145 ⟨hc, hs⟩) hP hD hS hA (fun H locs hP hD hS => ?_)
    have hP : va_P D vwCl (lw_W cI cZ cL a a' o u (upd w.1 15 1, w.2) f) H := hP
    have hD : va_D (fun q : Nat => s.heap.size ≤ q) (lw_W cI cZ cL a a' o u (upd w.1 15 1, w.2) f) := hD
    refine lv_iload hx hb dL_law_1148 (lv_at hl 1 rfl) ?_
    refine lv_icmp_eq (tgt := 1155) hx hb dL_law_1150 (by decide) (fun _ => ?_) (fun h9 => (h9 (pg_updk w.1 15 1)).elim)
    refine lv_iload hx hb dL_law_1155 (lv_at hl 1 rfl) ?_
    refine lv_if_ne (tgt := 1172) hx hb dL_law_1157 (by decide) (fun _ => ?_) (fun h9 => absurd h9 (by decide))
    refine lv_goto (tgt := 1307) hx hb dL_law_1172 (by decide) ?_
    exact kk H locs ls _ _ _ ⟨_, _, hR.thr 1⟩ hP hD hS (lv_sub hl [2, 3, 4, 5, 6] rfl)
set_option maxHeartbeats 4000000 in
set_option maxRecDepth 100000 in
theorem lc_23 (hfl : l.stackTraces = false) (hL : L ≤ 3584) (C0 : lw_At p s m meth c b L xs) (hK : va_K D vwCl (pg_tyL cI cZ cL) s) (hE : pg_Env (fun q : Nat => s.heap.size ≤ q) s s.heap) (hi : 7 * i + 7 ≤ L) (hc : cells + 1 ≤ 1072) (hs : slots + 6 ≤ 8564) (hI : pg_Inv u w) (hP : va_P D vwCl (lw_W cI cZ cL a a' o u w f) H) (hD : va_D (fun q : Nat => s.heap.size ≤ q) (lw_W cI cZ cL a a' o u w f)) (hS : va_S (fun q : Nat => s.heap.size ≤ q) s.heap H locs) (hl : lv_has ls 7 [(0, .ref b), (1, .ref (a 0)), (2, .ref (a' 0)), (3, .ref o), (4, .int (nI (7 * i)))])
    (kk : ∀ (H : Heap) (locs : List Loc) (ls : Array Slot) (u w : pg_St) (f : Nat → Int64), pg_Inv u w → va_P D vwCl (lw_W cI cZ cL a a' o u w f) H → va_D (fun q : Nat => s.heap.size ≤ q) (lw_W cI cZ cL a a' o u w f) → va_S (fun q : Nat => s.heap.size ≤ q) s.heap H locs → lv_has ls 7 [(0, .ref b), (1, .ref (a 0)), (2, .ref (a' 0)), (3, .ref o), (4, .int (nI (7 * i)))] → W p l e room_1 s m #[Value.ref b] below meth c H locs (cells + 1) (slots + 6) Q (F0 m 1307 ls [])) :
    W p l e room_1 s m #[Value.ref b] below meth c H locs cells slots Q (F0 m 1175 ls []) := by
  obtain ⟨hx, hb, hr, hml, hown, hts, hX, hbl, hlocks, hgv⟩ := id C0
  have hts := fun w h => hts w (wsL_law_in w h)
  have hown : s.vm.findClass RL = some m.cls := hown
  have hb : c.code = cL_law := hb
  have hA : ∀ q : Nat, s.heap.size ≤ q → (fun q : Nat => s.heap.size ≤ q) q := fun _ h => h
  have hbA : ¬ (fun q : Nat => s.heap.size ≤ q) b := Nat.not_le.mpr hbl
  have hc0 : cells + 0 ≤ 1072 := by omega
  have hs0 : slots + 0 ≤ 8564 := by omega
  obtain ⟨n, t, hR⟩ := hI
  obtain ⟨-, -, ⟨hn, h20, ht, h4⟩, ⟨-, -, hmet, hzer⟩, -⟩ := id hR
  have hnw : w.1 10 = nI n := (hR.1.1 10 (by decide)).symm.trans hn
  have htw : w.1 13 = nI t := (hR.1.1 13 (by decide)).symm.trans ht
  refine lv_aload_n hx hb dL_law_1175 rfl (lv_at hl 1 rfl) ?_
  have hP := pg_asP hP
  have hD := pg_asD hD
  refine pg_iL (pg_rV (As := []) (rest := []) ⟨hx, hb, hml, hown, hts⟩ (cc_claims l D cI cZ a H.size u) (cwV 0 hts gL_law_X4_claims rfl rfl rfl (by decide +kernel) ⟨Nat.le_of_ble_eq_true rfl, Nat.le_of_ble_eq_true rfl⟩) (hK.sub [0, 1] rfl) (pg_PL hP) (pg_DL hD) 0 (ci := 4) rfl rfl rfl rfl hl.1 rfl (Nat.le_of_ble_eq_true rfl) dL_law_1176 ⟨hc0, hs0⟩) hP hD hS hA (fun H locs hP hD hS => ?_)
  have hP : va_P D vwCl (lw_W cI cZ cL a a' o u w f) H := pg_asP2 hP
  have hD : va_D (fun q : Nat => s.heap.size ≤ q) (lw_W cI cZ cL a a' o u w f) := pg_asD2 hD
  refine W.widen (k := cells + 1) (n := slots + 6) (by omega) (by omega) ?_
  refine lv_aload_n hx hb dL_law_1179 rfl (lv_at hl 2 rfl) ?_
  refine pg_iR (pg_rV (As := []) (rest := [.int (u.1 10)]) ⟨hx, hb, hml, hown, hts⟩ (cm_claims l D cI cZ a' H.size w) (cwV 0 hts gL_law_X5_claims rfl rfl rfl (by decide +kernel) ⟨Nat.le_of_ble_eq_true rfl, Nat.le_of_ble_eq_true rfl⟩) (hK.sub [0, 1] rfl) (pg_PR hP) (pg_DR hD) 0 (ci := 5) rfl rfl rfl rfl hl.1 rfl (Nat.le_of_ble_eq_true rfl) dL_law_1180 ⟨hc, hs⟩) hP hD hS hA (fun H locs hP hD hS => ?_)
  have hP : va_P D vwCl (lw_W cI cZ cL a a' o u (upd w.1 15 0, w.2) f) H := hP
  have hD : va_D (fun q : Nat => s.heap.size ≤ q) (lw_W cI cZ cL a a' o u (upd w.1 15 0, w.2) f) := hD
  refine lv_icmp_eq (tgt := 1307) hx hb dL_law_1183 (by decide) (fun _ => ?_) (fun h9 => (h9 (hR.1.1 10 (by decide))).elim)
  exact kk H locs ls _ _ _ ⟨_, _, hR.thr 0⟩ hP hD hS hl
set_option maxHeartbeats 4000000 in
set_option maxRecDepth 100000 in
theorem lc_24 (hfl : l.stackTraces = false) (hL : L ≤ 3584) (C0 : lw_At p s m meth c b L xs) (hK : va_K D vwCl (pg_tyL cI cZ cL) s) (hE : pg_Env (fun q : Nat => s.heap.size ≤ q) s s.heap) (hi : 7 * i + 7 ≤ L) (hc : cells + 1 ≤ 1072) (hs : slots + 6 ≤ 8564) (hI : pg_Inv u w) (hP : va_P D vwCl (lw_W cI cZ cL a a' o u w f) H) (hD : va_D (fun q : Nat => s.heap.size ≤ q) (lw_W cI cZ cL a a' o u w f)) (hS : va_S (fun q : Nat => s.heap.size ≤ q) s.heap H locs) (hl : lv_has ls 7 [(0, .ref b), (1, .ref (a 0)), (2, .ref (a' 0)), (3, .ref o), (4, .int (nI (7 * i)))])
    (kk : ∀ (H : Heap) (locs : List Loc) (ls : Array Slot) (u w : pg_St) (f : Nat → Int64), pg_Inv u w → va_P D vwCl (lw_W cI cZ cL a a' o u w f) H → va_D (fun q : Nat => s.heap.size ≤ q) (lw_W cI cZ cL a a' o u w f) → va_S (fun q : Nat => s.heap.size ≤ q) s.heap H locs → lv_has ls 7 [(0, .ref b), (1, .ref (a 0)), (2, .ref (a' 0)), (3, .ref o), (4, .int (nI (7 * i)))] → W p l e room_1 s m #[Value.ref b] below meth c H locs (cells + 1) (slots + 6) Q (F0 m 1307 ls [])) :
    W p l e room_1 s m #[Value.ref b] below meth c H locs cells slots Q (F0 m 1188 ls []) := by
  obtain ⟨hx, hb, hr, hml, hown, hts, hX, hbl, hlocks, hgv⟩ := id C0
  have hts := fun w h => hts w (wsL_law_in w h)
  have hown : s.vm.findClass RL = some m.cls := hown
  have hb : c.code = cL_law := hb
  have hA : ∀ q : Nat, s.heap.size ≤ q → (fun q : Nat => s.heap.size ≤ q) q := fun _ h => h
  have hbA : ¬ (fun q : Nat => s.heap.size ≤ q) b := Nat.not_le.mpr hbl
  have hc0 : cells + 0 ≤ 1072 := by omega
  have hs0 : slots + 0 ≤ 8564 := by omega
  obtain ⟨n, t, hR⟩ := hI
  obtain ⟨-, -, ⟨hn, h20, ht, h4⟩, ⟨-, -, hmet, hzer⟩, -⟩ := id hR
  have hnw : w.1 10 = nI n := (hR.1.1 10 (by decide)).symm.trans hn
  have htw : w.1 13 = nI t := (hR.1.1 13 (by decide)).symm.trans ht
  rcases pg_c_num (xs (7 * i + 1)) (nI n) with hthr | hthr
  · refine lv_aload_n hx hb dL_law_1188 rfl (lv_at hl 1 rfl) ?_
    refine lv_aload_n hx hb dL_law_1189 rfl (lv_at hl 0 rfl) ?_
    refine lv_iload hx hb dL_law_1190 (lv_at hl 4 rfl) ?_
    refine lv_iconst (v := 1) hx hb dL_law_1192 (by decide) ?_
    refine pg_iaddN (k := 7 * i) (j := 1) hx hb (by decide) dL_law_1193 ?_
    refine pg_sld hx hb hX hbl hbA hS (show 7 * i + 1 < L by omega) hL dL_law_1194 ?_
    refine lv_aload_n hx hb dL_law_1195 rfl (lv_at hl 3 rfl) ?_
    refine pg_iL (pg_rSW (As := [.ref (a 0), .int (xs (7 * i + 1)), .ref o]) (rest := []) ⟨hx, hb, hml, hown, hts⟩ (cw_settledAt_ok l D cI cZ cL a o H.size u f n hn h20 (xs (7 * i + 1)) hthr) (vx_cwSW 3 hts gL_law_L_settledAt rfl rfl rfl (by decide +kernel) ⟨Nat.le_of_ble_eq_true rfl, Nat.le_of_ble_eq_true rfl⟩) hK (pg_PL hP) (pg_DL hD) rfl hl.1 rfl (Nat.le_of_ble_eq_true rfl) dL_law_1196 ⟨hc0, hs0⟩) hP hD hS hA (fun H locs hP hD hS => ?_)
    have hP : va_P D vwCl (lw_W cI cZ cL a a' o u w (vp_updL f 0 (u.2 10 (xs (7 * i + 1)).toNatClampNeg).toInt64)) H := hP
    have hD : va_D (fun q : Nat => s.heap.size ≤ q) (lw_W cI cZ cL a a' o u w (vp_updL f 0 (u.2 10 (xs (7 * i + 1)).toNatClampNeg).toInt64)) := hD
    refine W.widen (k := cells + 1) (n := slots + 6) (by omega) (by omega) ?_
    refine lv_istore (lv' := [(5, .int 0), (0, .ref b), (1, .ref (a 0)), (2, .ref (a' 0)), (3, .ref o), (4, .int (nI (7 * i)))]) hx hb dL_law_1199 hl (by decide) rfl (fun ls hl => ?_)
    refine lv_aload_n hx hb dL_law_1201 rfl (lv_at hl 3 rfl) ?_
    refine lv_aload_n hx hb dL_law_1202 rfl (lv_at hl 1 rfl) ?_
    refine lv_iload hx hb dL_law_1203 (lv_at hl 5 rfl) ?_
    refine lv_iconst (v := 1) hx hb dL_law_1205 (by decide) ?_
    refine pg_iaddN (k := 7 * i) (j := 1) hx hb (by decide) dL_law_1206 ?_
    refine pg_sld hx hb hX hbl hbA hS (show 7 * i + 1 < L by omega) hL dL_law_1207 ?_
    refine pg_iR (pg_rV (As := [.int (xs (7 * i + 1))]) (rest := []) ⟨hx, hb, hml, hown, hts⟩ (cm_settledAt_ok l D cI cZ a' H.size w n hnw h20 (xs (7 * i + 1)) (hthr)) (cwV 1 hts gL_law_X5_settledAt rfl rfl rfl (by decide +kernel) ⟨Nat.le_of_ble_eq_true rfl, Nat.le_of_ble_eq_true rfl⟩) (hK.sub [0, 1] rfl) (pg_PR hP) (pg_DR hD) 0 (ci := 5) rfl rfl rfl rfl hl.1 rfl (Nat.le_of_ble_eq_true rfl) dL_law_1208 ⟨hc, hs⟩) hP hD hS hA (fun H locs hP hD hS => ?_)
    have hP : va_P D vwCl (lw_W cI cZ cL a a' o u (upd w.1 15 0, w.2) (vp_updL f 0 (u.2 10 (xs (7 * i + 1)).toNatClampNeg).toInt64)) H := hP
    have hD : va_D (fun q : Nat => s.heap.size ≤ q) (lw_W cI cZ cL a a' o u (upd w.1 15 0, w.2) (vp_updL f 0 (u.2 10 (xs (7 * i + 1)).toNatClampNeg).toInt64)) := hD
    refine lv_istore (lv' := [(6, .int (w.2 10 (xs (7 * i + 1)).toNatClampNeg)), (5, .int 0), (0, .ref b), (1, .ref (a 0)), (2, .ref (a' 0)), (3, .ref o), (4, .int (nI (7 * i)))]) hx hb dL_law_1211 hl (by decide) rfl (fun ls hl => ?_)
    refine lv_aload_n hx hb dL_law_1213 rfl (lv_at hl 4 rfl) ?_
    refine pg_iR (pg_rV (As := []) (rest := []) ⟨hx, hb, hml, hown, hts⟩ (cm_thrown l D cI cZ a' H.size (upd w.1 15 0, w.2)) (cwV 0 hts gL_law_X5_thrown rfl rfl rfl (by decide +kernel) ⟨Nat.le_of_ble_eq_true rfl, Nat.le_of_ble_eq_true rfl⟩) (hK.sub [0, 1] rfl) (pg_PR hP) (pg_DR hD) 0 (ci := 5) rfl rfl rfl rfl hl.1 rfl (Nat.le_of_ble_eq_true rfl) dL_law_1214 ⟨hc, hs⟩) hP hD hS hA (fun H locs hP hD hS => ?_)
    have hP : va_P D vwCl (lw_W cI cZ cL a a' o u (upd w.1 15 0, w.2) (vp_updL f 0 (u.2 10 (xs (7 * i + 1)).toNatClampNeg).toInt64)) H := hP
    have hD : va_D (fun q : Nat => s.heap.size ≤ q) (lw_W cI cZ cL a a' o u (upd w.1 15 0, w.2) (vp_updL f 0 (u.2 10 (xs (7 * i + 1)).toNatClampNeg).toInt64)) := hD
    refine lv_iload hx hb dL_law_1217 (lv_at hl 1 rfl) ?_
    refine lv_icmp_eq (tgt := 1224) hx hb dL_law_1219 (by decide) (fun _ => ?_) (fun h9 => (h9 (rfl)).elim)
    refine lv_iload hx hb dL_law_1224 (lv_at hl 1 rfl) ?_
    refine lv_if_ne (tgt := 1241) hx hb dL_law_1226 (by decide) (fun h9 => (h9 rfl).elim) (fun _ => ?_)
    refine lv_aload_n hx hb dL_law_1229 rfl (lv_at hl 5 rfl) ?_
    refine lv_iconst (v := 0) hx hb dL_law_1230 (by decide) ?_
    refine va_lald hx hb hK hP 19 2 rfl rfl (show vp_in 0 1 from vp_in_nI (n := 0) (by decide) (by decide)) dL_law_1231 ?_
    refine lv_iload hx hb dL_law_1232 (lv_at hl 0 rfl) ?_
    refine lv_i2l (v := (w.2 10 (xs (7 * i + 1)).toNatClampNeg).toInt64) hx hb dL_law_1234 rfl ?_
    refine pg_lcmpE hx hb ((pg_updL0 f _).trans (congrArg Int32.toInt64 (congrFun (hR.1.2 10 (by decide)) _))) dL_law_1235 ?_
    refine lv_if_eq (tgt := 1241) hx hb dL_law_1236 (by decide) (fun _ => ?_) (fun h9 => (h9 rfl).elim)
    refine lv_goto (tgt := 1307) hx hb dL_law_1241 (by decide) ?_
    exact kk H locs ls _ _ _ ⟨_, _, hR.thr 0⟩ hP hD hS (lv_sub hl [2, 3, 4, 5, 6] rfl)
  · refine lv_aload_n hx hb dL_law_1188 rfl (lv_at hl 1 rfl) ?_
    refine lv_aload_n hx hb dL_law_1189 rfl (lv_at hl 0 rfl) ?_
    refine lv_iload hx hb dL_law_1190 (lv_at hl 4 rfl) ?_
    refine lv_iconst (v := 1) hx hb dL_law_1192 (by decide) ?_
    refine pg_iaddN (k := 7 * i) (j := 1) hx hb (by decide) dL_law_1193 ?_
    refine pg_sld hx hb hX hbl hbA hS (show 7 * i + 1 < L by omega) hL dL_law_1194 ?_
    refine lv_aload_n hx hb dL_law_1195 rfl (lv_at hl 3 rfl) ?_
    refine pg_iL (pg_rSWT (As := [.ref (a 0), .int (xs (7 * i + 1)), .ref o]) (rest := []) ⟨hx, hb, hml, hown, hts⟩ (cw_settledAt_1 l hfl D cI cZ cL a o H.size u f n hn h20 (xs (7 * i + 1)) hthr) (vx_cwSW 3 hts gL_law_L_settledAt rfl rfl rfl (by decide +kernel) ⟨Nat.le_of_ble_eq_true rfl, Nat.le_of_ble_eq_true rfl⟩) hK (pg_PL hP) (pg_DL hD) hS hA hE rfl hl.1 rfl (Nat.le_of_ble_eq_true rfl) dL_law_1196 ⟨hc, hs⟩) hP hD hS hA (fun H locs hP hD hS => ?_)
    have hP : va_P D vwCl (lw_W cI cZ cL a a' o u w f) H := hP
    have hD : va_D (fun q : Nat => s.heap.size ≤ q) (lw_W cI cZ cL a a' o u w f) := hD
    refine lv_istore (lv' := [(5, .int 1), (0, .ref b), (1, .ref (a 0)), (2, .ref (a' 0)), (3, .ref o), (4, .int (nI (7 * i)))]) hx hb dL_law_1199 hl (by decide) rfl (fun ls hl => ?_)
    refine lv_aload_n hx hb dL_law_1201 rfl (lv_at hl 3 rfl) ?_
    refine lv_aload_n hx hb dL_law_1202 rfl (lv_at hl 1 rfl) ?_
    refine lv_iload hx hb dL_law_1203 (lv_at hl 5 rfl) ?_
    refine lv_iconst (v := 1) hx hb dL_law_1205 (by decide) ?_
    refine pg_iaddN (k := 7 * i) (j := 1) hx hb (by decide) dL_law_1206 ?_
    refine pg_sld hx hb hX hbl hbA hS (show 7 * i + 1 < L by omega) hL dL_law_1207 ?_
    refine pg_iR (pg_rV (As := [.int (xs (7 * i + 1))]) (rest := []) ⟨hx, hb, hml, hown, hts⟩ (cm_settledAt_no l D cI cZ a' H.size w n hnw h20 (xs (7 * i + 1)) 1 (hthr) (by decide)) (cwV 1 hts gL_law_X5_settledAt rfl rfl rfl (by decide +kernel) ⟨Nat.le_of_ble_eq_true rfl, Nat.le_of_ble_eq_true rfl⟩) (hK.sub [0, 1] rfl) (pg_PR hP) (pg_DR hD) 0 (ci := 5) rfl rfl rfl rfl hl.1 rfl (Nat.le_of_ble_eq_true rfl) dL_law_1208 ⟨hc, hs⟩) hP hD hS hA (fun H locs hP hD hS => ?_)
    have hP : va_P D vwCl (lw_W cI cZ cL a a' o u (upd w.1 15 1, w.2) f) H := hP
    have hD : va_D (fun q : Nat => s.heap.size ≤ q) (lw_W cI cZ cL a a' o u (upd w.1 15 1, w.2) f) := hD
    refine lv_istore (lv' := [(6, .int 0), (5, .int 1), (0, .ref b), (1, .ref (a 0)), (2, .ref (a' 0)), (3, .ref o), (4, .int (nI (7 * i)))]) hx hb dL_law_1211 hl (by decide) rfl (fun ls hl => ?_)
    refine lv_aload_n hx hb dL_law_1213 rfl (lv_at hl 4 rfl) ?_
    refine pg_iR (pg_rV (As := []) (rest := []) ⟨hx, hb, hml, hown, hts⟩ (cm_thrown l D cI cZ a' H.size (upd w.1 15 1, w.2)) (cwV 0 hts gL_law_X5_thrown rfl rfl rfl (by decide +kernel) ⟨Nat.le_of_ble_eq_true rfl, Nat.le_of_ble_eq_true rfl⟩) (hK.sub [0, 1] rfl) (pg_PR hP) (pg_DR hD) 0 (ci := 5) rfl rfl rfl rfl hl.1 rfl (Nat.le_of_ble_eq_true rfl) dL_law_1214 ⟨hc, hs⟩) hP hD hS hA (fun H locs hP hD hS => ?_)
    have hP : va_P D vwCl (lw_W cI cZ cL a a' o u (upd w.1 15 1, w.2) f) H := hP
    have hD : va_D (fun q : Nat => s.heap.size ≤ q) (lw_W cI cZ cL a a' o u (upd w.1 15 1, w.2) f) := hD
    refine lv_iload hx hb dL_law_1217 (lv_at hl 1 rfl) ?_
    refine lv_icmp_eq (tgt := 1224) hx hb dL_law_1219 (by decide) (fun _ => ?_) (fun h9 => (h9 (pg_updk w.1 15 1)).elim)
    refine lv_iload hx hb dL_law_1224 (lv_at hl 1 rfl) ?_
    refine lv_if_ne (tgt := 1241) hx hb dL_law_1226 (by decide) (fun _ => ?_) (fun h9 => absurd h9 (by decide))
    refine lv_goto (tgt := 1307) hx hb dL_law_1241 (by decide) ?_
    exact kk H locs ls _ _ _ ⟨_, _, hR.thr 1⟩ hP hD hS (lv_sub hl [2, 3, 4, 5, 6] rfl)
set_option maxHeartbeats 4000000 in
set_option maxRecDepth 100000 in
theorem lc_25 (hfl : l.stackTraces = false) (hL : L ≤ 3584) (C0 : lw_At p s m meth c b L xs) (hK : va_K D vwCl (pg_tyL cI cZ cL) s) (hE : pg_Env (fun q : Nat => s.heap.size ≤ q) s s.heap) (hi : 7 * i + 7 ≤ L) (hc : cells + 1 ≤ 1072) (hs : slots + 6 ≤ 8564) (hI : pg_Inv u w) (hP : va_P D vwCl (lw_W cI cZ cL a a' o u w f) H) (hD : va_D (fun q : Nat => s.heap.size ≤ q) (lw_W cI cZ cL a a' o u w f)) (hS : va_S (fun q : Nat => s.heap.size ≤ q) s.heap H locs) (hl : lv_has ls 7 [(0, .ref b), (1, .ref (a 0)), (2, .ref (a' 0)), (3, .ref o), (4, .int (nI (7 * i)))])
    (kk : ∀ (H : Heap) (locs : List Loc) (ls : Array Slot) (u w : pg_St) (f : Nat → Int64), pg_Inv u w → va_P D vwCl (lw_W cI cZ cL a a' o u w f) H → va_D (fun q : Nat => s.heap.size ≤ q) (lw_W cI cZ cL a a' o u w f) → va_S (fun q : Nat => s.heap.size ≤ q) s.heap H locs → lv_has ls 7 [(0, .ref b), (1, .ref (a 0)), (2, .ref (a' 0)), (3, .ref o), (4, .int (nI (7 * i)))] → W p l e room_1 s m #[Value.ref b] below meth c H locs (cells + 1) (slots + 6) Q (F0 m 1307 ls [])) :
    W p l e room_1 s m #[Value.ref b] below meth c H locs cells slots Q (F0 m 1244 ls []) := by
  obtain ⟨hx, hb, hr, hml, hown, hts, hX, hbl, hlocks, hgv⟩ := id C0
  have hts := fun w h => hts w (wsL_law_in w h)
  have hown : s.vm.findClass RL = some m.cls := hown
  have hb : c.code = cL_law := hb
  have hA : ∀ q : Nat, s.heap.size ≤ q → (fun q : Nat => s.heap.size ≤ q) q := fun _ h => h
  have hbA : ¬ (fun q : Nat => s.heap.size ≤ q) b := Nat.not_le.mpr hbl
  have hc0 : cells + 0 ≤ 1072 := by omega
  have hs0 : slots + 0 ≤ 8564 := by omega
  obtain ⟨n, t, hR⟩ := hI
  obtain ⟨-, -, ⟨hn, h20, ht, h4⟩, ⟨-, -, hmet, hzer⟩, -⟩ := id hR
  have hnw : w.1 10 = nI n := (hR.1.1 10 (by decide)).symm.trans hn
  have htw : w.1 13 = nI t := (hR.1.1 13 (by decide)).symm.trans ht
  have hm9 : ∀ j, j < 4 → narrow .boolean (.int (u.2 13 j)) = .int (u.2 13 j) := fun j hj => by rcases hmet j hj with h9 | h9 <;> rw [h9] <;> rfl
  rcases pg_c_num (xs (7 * i + 1)) 4 with hthr | hthr
  · by_cases hbo : w.2 13 (xs (7 * i + 1)).toNatClampNeg = 0
    · refine lv_aload_n hx hb dL_law_1244 rfl (lv_at hl 1 rfl) ?_
      refine lv_aload_n hx hb dL_law_1245 rfl (lv_at hl 0 rfl) ?_
      refine lv_iload hx hb dL_law_1246 (lv_at hl 4 rfl) ?_
      refine lv_iconst (v := 1) hx hb dL_law_1248 (by decide) ?_
      refine pg_iaddN (k := 7 * i) (j := 1) hx hb (by decide) dL_law_1249 ?_
      refine pg_sld hx hb hX hbl hbA hS (show 7 * i + 1 < L by omega) hL dL_law_1250 ?_
      refine lv_aload_n hx hb dL_law_1251 rfl (lv_at hl 3 rfl) ?_
      refine pg_iL (pg_rSW (As := [.ref (a 0), .int (xs (7 * i + 1)), .ref o]) (rest := []) ⟨hx, hb, hml, hown, hts⟩ (cw_isMet_ok l D cI cZ cL a o H.size u f hm9 (xs (7 * i + 1)) hthr) (vx_cwSW 3 hts gL_law_L_isMet rfl rfl rfl (by decide +kernel) ⟨Nat.le_of_ble_eq_true rfl, Nat.le_of_ble_eq_true rfl⟩) hK (pg_PL hP) (pg_DL hD) rfl hl.1 rfl (Nat.le_of_ble_eq_true rfl) dL_law_1252 ⟨hc0, hs0⟩) hP hD hS hA (fun H locs hP hD hS => ?_)
      have hP : va_P D vwCl (lw_W cI cZ cL a a' o u w (vp_updL f 0 (if u.2 13 (xs (7 * i + 1)).toNatClampNeg = 0 then 0 else 1))) H := hP
      have hD : va_D (fun q : Nat => s.heap.size ≤ q) (lw_W cI cZ cL a a' o u w (vp_updL f 0 (if u.2 13 (xs (7 * i + 1)).toNatClampNeg = 0 then 0 else 1))) := hD
      refine W.widen (k := cells + 1) (n := slots + 6) (by omega) (by omega) ?_
      refine lv_istore (lv' := [(5, .int 0), (0, .ref b), (1, .ref (a 0)), (2, .ref (a' 0)), (3, .ref o), (4, .int (nI (7 * i)))]) hx hb dL_law_1255 hl (by decide) rfl (fun ls hl => ?_)
      refine lv_aload_n hx hb dL_law_1257 rfl (lv_at hl 3 rfl) ?_
      refine lv_aload_n hx hb dL_law_1258 rfl (lv_at hl 1 rfl) ?_
      refine lv_iload hx hb dL_law_1259 (lv_at hl 5 rfl) ?_
      refine lv_iconst (v := 1) hx hb dL_law_1261 (by decide) ?_
      refine pg_iaddN (k := 7 * i) (j := 1) hx hb (by decide) dL_law_1262 ?_
      refine pg_sld hx hb hX hbl hbA hS (show 7 * i + 1 < L by omega) hL dL_law_1263 ?_
      refine pg_iR (pg_rV (As := [.int (xs (7 * i + 1))]) (rest := []) ⟨hx, hb, hml, hown, hts⟩ (cm_isMet_ok l D cI cZ a' H.size w (xs (7 * i + 1)) (hthr)) (cwV 1 hts gL_law_X5_isMet rfl rfl rfl (by decide +kernel) ⟨Nat.le_of_ble_eq_true rfl, Nat.le_of_ble_eq_true rfl⟩) (hK.sub [0, 1] rfl) (pg_PR hP) (pg_DR hD) 0 (ci := 5) rfl rfl rfl rfl hl.1 rfl (Nat.le_of_ble_eq_true rfl) dL_law_1264 ⟨hc, hs⟩) hP hD hS hA (fun H locs hP hD hS => ?_)
      have hP : va_P D vwCl (lw_W cI cZ cL a a' o u (upd w.1 15 0, w.2) (vp_updL f 0 (if u.2 13 (xs (7 * i + 1)).toNatClampNeg = 0 then 0 else 1))) H := hP
      have hD : va_D (fun q : Nat => s.heap.size ≤ q) (lw_W cI cZ cL a a' o u (upd w.1 15 0, w.2) (vp_updL f 0 (if u.2 13 (xs (7 * i + 1)).toNatClampNeg = 0 then 0 else 1))) := hD
      refine lv_istore (lv' := [(6, .int (if w.2 13 (xs (7 * i + 1)).toNatClampNeg = 0 then 0 else 1)), (5, .int 0), (0, .ref b), (1, .ref (a 0)), (2, .ref (a' 0)), (3, .ref o), (4, .int (nI (7 * i)))]) hx hb dL_law_1267 hl (by decide) rfl (fun ls hl => ?_)
      refine lv_aload_n hx hb dL_law_1269 rfl (lv_at hl 4 rfl) ?_
      refine pg_iR (pg_rV (As := []) (rest := []) ⟨hx, hb, hml, hown, hts⟩ (cm_thrown l D cI cZ a' H.size (upd w.1 15 0, w.2)) (cwV 0 hts gL_law_X5_thrown rfl rfl rfl (by decide +kernel) ⟨Nat.le_of_ble_eq_true rfl, Nat.le_of_ble_eq_true rfl⟩) (hK.sub [0, 1] rfl) (pg_PR hP) (pg_DR hD) 0 (ci := 5) rfl rfl rfl rfl hl.1 rfl (Nat.le_of_ble_eq_true rfl) dL_law_1270 ⟨hc, hs⟩) hP hD hS hA (fun H locs hP hD hS => ?_)
      have hP : va_P D vwCl (lw_W cI cZ cL a a' o u (upd w.1 15 0, w.2) (vp_updL f 0 (if u.2 13 (xs (7 * i + 1)).toNatClampNeg = 0 then 0 else 1))) H := hP
      have hD : va_D (fun q : Nat => s.heap.size ≤ q) (lw_W cI cZ cL a a' o u (upd w.1 15 0, w.2) (vp_updL f 0 (if u.2 13 (xs (7 * i + 1)).toNatClampNeg = 0 then 0 else 1))) := hD
      refine lv_iload hx hb dL_law_1273 (lv_at hl 1 rfl) ?_
      refine lv_icmp_eq (tgt := 1280) hx hb dL_law_1275 (by decide) (fun _ => ?_) (fun h9 => (h9 (rfl)).elim)
      refine lv_iload hx hb dL_law_1280 (lv_at hl 1 rfl) ?_
      refine lv_if_ne (tgt := 1304) hx hb dL_law_1282 (by decide) (fun h9 => (h9 rfl).elim) (fun _ => ?_)
      refine lv_aload_n hx hb dL_law_1285 rfl (lv_at hl 5 rfl) ?_
      refine lv_iconst (v := 0) hx hb dL_law_1286 (by decide) ?_
      refine va_lald hx hb hK hP 19 2 rfl rfl (show vp_in 0 1 from vp_in_nI (n := 0) (by decide) (by decide)) dL_law_1287 ?_
      refine lv_iload hx hb dL_law_1288 (lv_at hl 0 rfl) ?_
      refine lv_if_eq (tgt := 1297) hx hb dL_law_1290 (by decide) (fun _ => ?_) (fun h9 => (h9 (if_pos hbo)).elim)
      refine lv_lconst (v := 0) hx hb dL_law_1297 (by decide) ?_
      refine pg_lcmpE hx hb ((pg_updL0 f _).trans (by rw [hR.1.2 13 (by decide)]; exact if_pos hbo)) dL_law_1298 ?_
      refine lv_if_eq (tgt := 1304) hx hb dL_law_1299 (by decide) (fun _ => ?_) (fun h9 => (h9 rfl).elim)
      refine lv_goto (tgt := 1307) hx hb dL_law_1304 (by decide) ?_
      exact kk H locs ls _ _ _ ⟨_, _, hR.thr 0⟩ hP hD hS (lv_sub hl [2, 3, 4, 5, 6] rfl)
    · refine lv_aload_n hx hb dL_law_1244 rfl (lv_at hl 1 rfl) ?_
      refine lv_aload_n hx hb dL_law_1245 rfl (lv_at hl 0 rfl) ?_
      refine lv_iload hx hb dL_law_1246 (lv_at hl 4 rfl) ?_
      refine lv_iconst (v := 1) hx hb dL_law_1248 (by decide) ?_
      refine pg_iaddN (k := 7 * i) (j := 1) hx hb (by decide) dL_law_1249 ?_
      refine pg_sld hx hb hX hbl hbA hS (show 7 * i + 1 < L by omega) hL dL_law_1250 ?_
      refine lv_aload_n hx hb dL_law_1251 rfl (lv_at hl 3 rfl) ?_
      refine pg_iL (pg_rSW (As := [.ref (a 0), .int (xs (7 * i + 1)), .ref o]) (rest := []) ⟨hx, hb, hml, hown, hts⟩ (cw_isMet_ok l D cI cZ cL a o H.size u f hm9 (xs (7 * i + 1)) hthr) (vx_cwSW 3 hts gL_law_L_isMet rfl rfl rfl (by decide +kernel) ⟨Nat.le_of_ble_eq_true rfl, Nat.le_of_ble_eq_true rfl⟩) hK (pg_PL hP) (pg_DL hD) rfl hl.1 rfl (Nat.le_of_ble_eq_true rfl) dL_law_1252 ⟨hc0, hs0⟩) hP hD hS hA (fun H locs hP hD hS => ?_)
      have hP : va_P D vwCl (lw_W cI cZ cL a a' o u w (vp_updL f 0 (if u.2 13 (xs (7 * i + 1)).toNatClampNeg = 0 then 0 else 1))) H := hP
      have hD : va_D (fun q : Nat => s.heap.size ≤ q) (lw_W cI cZ cL a a' o u w (vp_updL f 0 (if u.2 13 (xs (7 * i + 1)).toNatClampNeg = 0 then 0 else 1))) := hD
      refine W.widen (k := cells + 1) (n := slots + 6) (by omega) (by omega) ?_
      refine lv_istore (lv' := [(5, .int 0), (0, .ref b), (1, .ref (a 0)), (2, .ref (a' 0)), (3, .ref o), (4, .int (nI (7 * i)))]) hx hb dL_law_1255 hl (by decide) rfl (fun ls hl => ?_)
      refine lv_aload_n hx hb dL_law_1257 rfl (lv_at hl 3 rfl) ?_
      refine lv_aload_n hx hb dL_law_1258 rfl (lv_at hl 1 rfl) ?_
      refine lv_iload hx hb dL_law_1259 (lv_at hl 5 rfl) ?_
      refine lv_iconst (v := 1) hx hb dL_law_1261 (by decide) ?_
      refine pg_iaddN (k := 7 * i) (j := 1) hx hb (by decide) dL_law_1262 ?_
      refine pg_sld hx hb hX hbl hbA hS (show 7 * i + 1 < L by omega) hL dL_law_1263 ?_
      refine pg_iR (pg_rV (As := [.int (xs (7 * i + 1))]) (rest := []) ⟨hx, hb, hml, hown, hts⟩ (cm_isMet_ok l D cI cZ a' H.size w (xs (7 * i + 1)) (hthr)) (cwV 1 hts gL_law_X5_isMet rfl rfl rfl (by decide +kernel) ⟨Nat.le_of_ble_eq_true rfl, Nat.le_of_ble_eq_true rfl⟩) (hK.sub [0, 1] rfl) (pg_PR hP) (pg_DR hD) 0 (ci := 5) rfl rfl rfl rfl hl.1 rfl (Nat.le_of_ble_eq_true rfl) dL_law_1264 ⟨hc, hs⟩) hP hD hS hA (fun H locs hP hD hS => ?_)
      have hP : va_P D vwCl (lw_W cI cZ cL a a' o u (upd w.1 15 0, w.2) (vp_updL f 0 (if u.2 13 (xs (7 * i + 1)).toNatClampNeg = 0 then 0 else 1))) H := hP
      have hD : va_D (fun q : Nat => s.heap.size ≤ q) (lw_W cI cZ cL a a' o u (upd w.1 15 0, w.2) (vp_updL f 0 (if u.2 13 (xs (7 * i + 1)).toNatClampNeg = 0 then 0 else 1))) := hD
      refine lv_istore (lv' := [(6, .int (if w.2 13 (xs (7 * i + 1)).toNatClampNeg = 0 then 0 else 1)), (5, .int 0), (0, .ref b), (1, .ref (a 0)), (2, .ref (a' 0)), (3, .ref o), (4, .int (nI (7 * i)))]) hx hb dL_law_1267 hl (by decide) rfl (fun ls hl => ?_)
      refine lv_aload_n hx hb dL_law_1269 rfl (lv_at hl 4 rfl) ?_
      refine pg_iR (pg_rV (As := []) (rest := []) ⟨hx, hb, hml, hown, hts⟩ (cm_thrown l D cI cZ a' H.size (upd w.1 15 0, w.2)) (cwV 0 hts gL_law_X5_thrown rfl rfl rfl (by decide +kernel) ⟨Nat.le_of_ble_eq_true rfl, Nat.le_of_ble_eq_true rfl⟩) (hK.sub [0, 1] rfl) (pg_PR hP) (pg_DR hD) 0 (ci := 5) rfl rfl rfl rfl hl.1 rfl (Nat.le_of_ble_eq_true rfl) dL_law_1270 ⟨hc, hs⟩) hP hD hS hA (fun H locs hP hD hS => ?_)
      have hP : va_P D vwCl (lw_W cI cZ cL a a' o u (upd w.1 15 0, w.2) (vp_updL f 0 (if u.2 13 (xs (7 * i + 1)).toNatClampNeg = 0 then 0 else 1))) H := hP
      have hD : va_D (fun q : Nat => s.heap.size ≤ q) (lw_W cI cZ cL a a' o u (upd w.1 15 0, w.2) (vp_updL f 0 (if u.2 13 (xs (7 * i + 1)).toNatClampNeg = 0 then 0 else 1))) := hD
      refine lv_iload hx hb dL_law_1273 (lv_at hl 1 rfl) ?_
      refine lv_icmp_eq (tgt := 1280) hx hb dL_law_1275 (by decide) (fun _ => ?_) (fun h9 => (h9 (rfl)).elim)
      refine lv_iload hx hb dL_law_1280 (lv_at hl 1 rfl) ?_
      refine lv_if_ne (tgt := 1304) hx hb dL_law_1282 (by decide) (fun h9 => (h9 rfl).elim) (fun _ => ?_)
      refine lv_aload_n hx hb dL_law_1285 rfl (lv_at hl 5 rfl) ?_
      refine lv_iconst (v := 0) hx hb dL_law_1286 (by decide) ?_
      refine va_lald hx hb hK hP 19 2 rfl rfl (show vp_in 0 1 from vp_in_nI (n := 0) (by decide) (by decide)) dL_law_1287 ?_
      refine lv_iload hx hb dL_law_1288 (lv_at hl 0 rfl) ?_
      refine lv_if_eq (tgt := 1297) hx hb dL_law_1290 (by decide) (fun h9 => absurd h9 (by rw [if_neg hbo]; decide)) (fun _ => ?_)
      refine lv_lconst (v := 1) hx hb dL_law_1293 (by decide) ?_
      refine lv_goto (tgt := 1298) hx hb dL_law_1294 (by decide) ?_
      refine pg_lcmpE hx hb ((pg_updL0 f _).trans (by rw [hR.1.2 13 (by decide)]; exact if_neg hbo)) dL_law_1298 ?_
      refine lv_if_eq (tgt := 1304) hx hb dL_law_1299 (by decide) (fun _ => ?_) (fun h9 => (h9 rfl).elim)
      refine lv_goto (tgt := 1307) hx hb dL_law_1304 (by decide) ?_
      exact kk H locs ls _ _ _ ⟨_, _, hR.thr 0⟩ hP hD hS (lv_sub hl [2, 3, 4, 5, 6] rfl)
  · refine lv_aload_n hx hb dL_law_1244 rfl (lv_at hl 1 rfl) ?_
    refine lv_aload_n hx hb dL_law_1245 rfl (lv_at hl 0 rfl) ?_
    refine lv_iload hx hb dL_law_1246 (lv_at hl 4 rfl) ?_
    refine lv_iconst (v := 1) hx hb dL_law_1248 (by decide) ?_
    refine pg_iaddN (k := 7 * i) (j := 1) hx hb (by decide) dL_law_1249 ?_
    refine pg_sld hx hb hX hbl hbA hS (show 7 * i + 1 < L by omega) hL dL_law_1250 ?_
    refine lv_aload_n hx hb dL_law_1251 rfl (lv_at hl 3 rfl) ?_
    refine pg_iL (pg_rSWT (As := [.ref (a 0), .int (xs (7 * i + 1)), .ref o]) (rest := []) ⟨hx, hb, hml, hown, hts⟩ (cw_isMet_1 l hfl D cI cZ cL a o H.size u f hm9 (xs (7 * i + 1)) hthr) (vx_cwSW 3 hts gL_law_L_isMet rfl rfl rfl (by decide +kernel) ⟨Nat.le_of_ble_eq_true rfl, Nat.le_of_ble_eq_true rfl⟩) hK (pg_PL hP) (pg_DL hD) hS hA hE rfl hl.1 rfl (Nat.le_of_ble_eq_true rfl) dL_law_1252 ⟨hc, hs⟩) hP hD hS hA (fun H locs hP hD hS => ?_)
    have hP : va_P D vwCl (lw_W cI cZ cL a a' o u w f) H := hP
    have hD : va_D (fun q : Nat => s.heap.size ≤ q) (lw_W cI cZ cL a a' o u w f) := hD
    refine lv_istore (lv' := [(5, .int 1), (0, .ref b), (1, .ref (a 0)), (2, .ref (a' 0)), (3, .ref o), (4, .int (nI (7 * i)))]) hx hb dL_law_1255 hl (by decide) rfl (fun ls hl => ?_)
    refine lv_aload_n hx hb dL_law_1257 rfl (lv_at hl 3 rfl) ?_
    refine lv_aload_n hx hb dL_law_1258 rfl (lv_at hl 1 rfl) ?_
    refine lv_iload hx hb dL_law_1259 (lv_at hl 5 rfl) ?_
    refine lv_iconst (v := 1) hx hb dL_law_1261 (by decide) ?_
    refine pg_iaddN (k := 7 * i) (j := 1) hx hb (by decide) dL_law_1262 ?_
    refine pg_sld hx hb hX hbl hbA hS (show 7 * i + 1 < L by omega) hL dL_law_1263 ?_
    refine pg_iR (pg_rV (As := [.int (xs (7 * i + 1))]) (rest := []) ⟨hx, hb, hml, hown, hts⟩ (cm_isMet_no l D cI cZ a' H.size w (xs (7 * i + 1)) 1 (hthr) (by decide)) (cwV 1 hts gL_law_X5_isMet rfl rfl rfl (by decide +kernel) ⟨Nat.le_of_ble_eq_true rfl, Nat.le_of_ble_eq_true rfl⟩) (hK.sub [0, 1] rfl) (pg_PR hP) (pg_DR hD) 0 (ci := 5) rfl rfl rfl rfl hl.1 rfl (Nat.le_of_ble_eq_true rfl) dL_law_1264 ⟨hc, hs⟩) hP hD hS hA (fun H locs hP hD hS => ?_)
    have hP : va_P D vwCl (lw_W cI cZ cL a a' o u (upd w.1 15 1, w.2) f) H := hP
    have hD : va_D (fun q : Nat => s.heap.size ≤ q) (lw_W cI cZ cL a a' o u (upd w.1 15 1, w.2) f) := hD
    refine lv_istore (lv' := [(6, .int 0), (5, .int 1), (0, .ref b), (1, .ref (a 0)), (2, .ref (a' 0)), (3, .ref o), (4, .int (nI (7 * i)))]) hx hb dL_law_1267 hl (by decide) rfl (fun ls hl => ?_)
    refine lv_aload_n hx hb dL_law_1269 rfl (lv_at hl 4 rfl) ?_
    refine pg_iR (pg_rV (As := []) (rest := []) ⟨hx, hb, hml, hown, hts⟩ (cm_thrown l D cI cZ a' H.size (upd w.1 15 1, w.2)) (cwV 0 hts gL_law_X5_thrown rfl rfl rfl (by decide +kernel) ⟨Nat.le_of_ble_eq_true rfl, Nat.le_of_ble_eq_true rfl⟩) (hK.sub [0, 1] rfl) (pg_PR hP) (pg_DR hD) 0 (ci := 5) rfl rfl rfl rfl hl.1 rfl (Nat.le_of_ble_eq_true rfl) dL_law_1270 ⟨hc, hs⟩) hP hD hS hA (fun H locs hP hD hS => ?_)
    have hP : va_P D vwCl (lw_W cI cZ cL a a' o u (upd w.1 15 1, w.2) f) H := hP
    have hD : va_D (fun q : Nat => s.heap.size ≤ q) (lw_W cI cZ cL a a' o u (upd w.1 15 1, w.2) f) := hD
    refine lv_iload hx hb dL_law_1273 (lv_at hl 1 rfl) ?_
    refine lv_icmp_eq (tgt := 1280) hx hb dL_law_1275 (by decide) (fun _ => ?_) (fun h9 => (h9 (pg_updk w.1 15 1)).elim)
    refine lv_iload hx hb dL_law_1280 (lv_at hl 1 rfl) ?_
    refine lv_if_ne (tgt := 1304) hx hb dL_law_1282 (by decide) (fun _ => ?_) (fun h9 => absurd h9 (by decide))
    refine lv_goto (tgt := 1307) hx hb dL_law_1304 (by decide) ?_
    exact kk H locs ls _ _ _ ⟨_, _, hR.thr 1⟩ hP hD hS (lv_sub hl [2, 3, 4, 5, 6] rfl)
end LAWC
