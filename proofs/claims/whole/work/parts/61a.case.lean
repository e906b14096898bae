set_option maxRecDepth 100000 in
set_option maxHeartbeats 4000000 in
theorem la_kind {p : Program} {l : Launch} {e : Env} {s : State} {m : MethodId} {below : List Frame} {meth : Method} {c : Code} {H : Heap} {locs : List Loc} {cells slots : Nat} {Q : State → Prop} {ls : Array Slot} {D : va_G} {g : Nat → ClassId} {lv : Nat → Bool} {a : Nat → Nat} {R : RS} {M : MS} {b L i : Nat} {xs : Nat → Int32} (X : LX p l s m c D g b L xs) (hJ : J lv a R M) (hi : i + 5 ≤ L) (hc : rc D g (lwA s) s.heap lv a R H locs) (hl : lv_has ls 7 [(0, .ref (b)), (1, .ref (a 0)), (2, .ref (a 100)), (3, .ref (a 200)), (4, .int (nI (i)))]) (h1 : cells + 6 ≤ 603072) (h2 : slots + 83 ≤ 7181976)
    (kk : ∀ (lv' : Nat → Bool) (a' : Nat → Nat) (R' : RS) (M' : MS) (H' : Heap) (locs' : List Loc) (ls' : Array Slot), J lv' a' R' M' → rc D g (lwA s) s.heap lv' a' R' H' locs' → lv_has ls' 7 [(0, .ref (b)), (1, .ref (a' 0)), (2, .ref (a' 100)), (3, .ref (a' 200)), (4, .int (nI (i)))] → W p l e room_1 s m #[Value.ref b] below meth c H' locs' (cells + 6) (slots + 83) Q (F0 m 1252 ls' [])) : W p l e room_1 s m #[Value.ref b] below meth c H locs cells slots Q (F0 m 140 ls []) := by
  obtain ⟨hx, hb, hml, hown, hts, hK, hZ, hX, hbl, hl9, hL31⟩ := X
  have hA : ∀ q, s.heap.size ≤ q → lwA s q := fun _ h => h
  have h4 := ob_kind M (xs (i + 1)) (xs (i + 2)) (xs (i + 3)) (xs (i + 4))
  refine lv_aload_n hx hb dL_law_140 rfl (lv_at hl 1 rfl) ?_
  refine lv_aload_n hx hb dL_law_141 rfl (lv_at hl 0 rfl) ?_
  refine lv_iload hx hb dL_law_142 (lv_at hl 4 rfl) ?_
  refine lv_iconst (v := nI (1)) hx hb dL_law_144 (by decide) ?_
  refine nv_iadd hx hb dL_law_145 ?_
  refine r_scr (j := i + 1) hx hb hX hbl hc.2.2 (by omega) hL31 dL_law_146 ?_
  refine lv_aload_n hx hb dL_law_147 rfl (lv_at hl 0 rfl) ?_
  refine lv_iload hx hb dL_law_148 (lv_at hl 4 rfl) ?_
  refine lv_iconst (v := nI (2)) hx hb dL_law_150 (by decide) ?_
  refine nv_iadd hx hb dL_law_151 ?_
  refine r_scr (j := i + 2) hx hb hX hbl hc.2.2 (by omega) hL31 dL_law_152 ?_
  refine lv_aload_n hx hb dL_law_153 rfl (lv_at hl 0 rfl) ?_
  refine lv_iload hx hb dL_law_154 (lv_at hl 4 rfl) ?_
  refine lv_iconst (v := nI (3)) hx hb dL_law_156 (by decide) ?_
  refine nv_iadd hx hb dL_law_157 ?_
  refine r_scr (j := i + 3) hx hb hX hbl hc.2.2 (by omega) hL31 dL_law_158 ?_
  refine lv_aload_n hx hb dL_law_159 rfl (lv_at hl 0 rfl) ?_
  refine lv_iload hx hb dL_law_160 (lv_at hl 4 rfl) ?_
  refine lv_iconst (v := nI (4)) hx hb dL_law_162 (by decide) ?_
  refine nv_iadd hx hb dL_law_163 ?_
  refine r_scr (j := i + 4) hx hb hX hbl hc.2.2 (by omega) hL31 dL_law_164 ?_
  refine lv_aload_n hx hb dL_law_165 rfl (lv_at hl 3 rfl) ?_
  refine r_tryA (post := fun r lv' a' R' => LQ lv a R true (oKind M (xs (i + 1)) (xs (i + 2)) (xs (i + 3)) (xs (i + 4))) r lv' a' R') (xp := fun _ _ => False) hc hA (vx_runSX (hh := [(0, 14, 17, 13), (0, 14, 21, 15)]) (As := [.ref (a 0), .int (xs (i + 1)), .int (xs (i + 2)), .int (xs (i + 3)), .int (xs (i + 4)), .ref (a 200)]) (rest := []) ⟨hx, hb, hml, hown, hts⟩ (c_L_kind l hl9 D g lv a R M hJ.1 hJ.2.1 hJ.2.2.2.2.1 hJ.2.2.2.2.2 (xs (i + 1)) (xs (i + 2)) (xs (i + 3)) (xs (i + 4)) _) (vx_cwSW 6 hts (glw gL_law_L_kind) rfl rfl rfl (by decide +kernel) ⟨Nat.le_of_ble_eq_true rfl, Nat.le_of_ble_eq_true rfl⟩) (r_preS hK hZ hc hA) rfl rfl hl.1 rfl (lv_room (Nat.le_of_ble_eq_true rfl)) dL_law_166 ⟨h1, h2⟩) (fun E ce q9 R' H locs hp => hp.elim) (fun r lv1 a1 R1 H locs hp hc => ?_)
  have hr1 := hp.1
  subst hr1
  have hs9 := sm_kind hJ.2.2.2.2.1 (xs (i + 1)) (xs (i + 2)) (xs (i + 3)) (xs (i + 4))
  obtain ⟨hm1, hm2, hm3, e0, e1, e2⟩ := j_1 hJ hp
  have hl : lv_has ls 7 [(0, .ref (b)), (1, .ref (a1 0)), (2, .ref (a1 100)), (3, .ref (a1 200)), (4, .int (nI (i)))] := by rw [e0, e1, e2]; exact hl
  refine lv_istore (lv' := [(5, .int (nI ((oKind M (xs (i + 1)) (xs (i + 2)) (xs (i + 3)) (xs (i + 4))).1))), (0, .ref (b)), (1, .ref (a1 0)), (2, .ref (a1 100)), (3, .ref (a1 200)), (4, .int (nI (i)))]) hx hb dL_law_169 hl (by decide) rfl (fun ls hl => ?_)
  refine lv_aload_n hx hb dL_law_171 rfl (lv_at hl 3 rfl) ?_
  refine lv_aload_n hx hb dL_law_172 rfl (lv_at hl 1 rfl) ?_
  refine lv_iload hx hb dL_law_173 (lv_at hl 5 rfl) ?_
  refine lv_iconst (v := nI (1)) hx hb dL_law_175 (by decide) ?_
  refine nv_iadd hx hb dL_law_176 ?_
  refine r_scr (j := i + 1) hx hb hX hbl hc.2.2 (by omega) hL31 dL_law_177 ?_
  refine lv_aload_n hx hb dL_law_178 rfl (lv_at hl 1 rfl) ?_
  refine lv_iload hx hb dL_law_179 (lv_at hl 5 rfl) ?_
  refine lv_iconst (v := nI (2)) hx hb dL_law_181 (by decide) ?_
  refine nv_iadd hx hb dL_law_182 ?_
  refine r_scr (j := i + 2) hx hb hX hbl hc.2.2 (by omega) hL31 dL_law_183 ?_
  refine lv_aload_n hx hb dL_law_184 rfl (lv_at hl 1 rfl) ?_
  refine lv_iload hx hb dL_law_185 (lv_at hl 5 rfl) ?_
  refine lv_iconst (v := nI (3)) hx hb dL_law_187 (by decide) ?_
  refine nv_iadd hx hb dL_law_188 ?_
  refine r_scr (j := i + 3) hx hb hX hbl hc.2.2 (by omega) hL31 dL_law_189 ?_
  refine lv_aload_n hx hb dL_law_190 rfl (lv_at hl 1 rfl) ?_
  refine lv_iload hx hb dL_law_191 (lv_at hl 5 rfl) ?_
  refine lv_iconst (v := nI (4)) hx hb dL_law_193 (by decide) ?_
  refine nv_iadd hx hb dL_law_194 ?_
  refine r_scr (j := i + 4) hx hb hX hbl hc.2.2 (by omega) hL31 dL_law_195 ?_
  refine r_calli (post := QM R1 (oKind M (xs (i + 1)) (xs (i + 2)) (xs (i + 3)) (xs (i + 4)))) hc hA (va_runV (As := [.int (xs (i + 1)), .int (xs (i + 2)), .int (xs (i + 3)), .int (xs (i + 4))]) (rest := []) ⟨hx, hb, hml, hown, hts⟩ (c_X4_kind l D g lv1 a1 R1 M hm2 hm1 hJ.2.2.2.2.1 (xs (i + 1)) (xs (i + 2)) (xs (i + 3)) (xs (i + 4)) _) (cwV 4 hts (glw gL_law_X4_kind) rfl rfl rfl (by decide +kernel) ⟨Nat.le_of_ble_eq_true rfl, Nat.le_of_ble_eq_true rfl⟩) (r_preV hK hZ hc hA (hm2.1 100 rfl) (rfl) rfl) rfl rfl hl.1 rfl (lv_room (Nat.le_of_ble_eq_true rfl)) dL_law_196 ⟨h1, h2⟩) (fun r R2 H locs hp2 hc => ?_)
  obtain ⟨hJ2, ht2, ho2⟩ := j_2 hp hs9.1 hm2 hm3 hp2
  have hr2 := hp2.1
  subst hr2
  refine lv_istore (lv' := [(6, .int ((oKind M (xs (i + 1)) (xs (i + 2)) (xs (i + 3)) (xs (i + 4))).2.1)), (5, .int (nI ((oKind M (xs (i + 1)) (xs (i + 2)) (xs (i + 3)) (xs (i + 4))).1))), (0, .ref (b)), (1, .ref (a1 0)), (2, .ref (a1 100)), (3, .ref (a1 200)), (4, .int (nI (i)))]) hx hb dL_law_199 hl (by decide) rfl (fun ls hl => ?_)
  refine lv_aload_n hx hb dL_law_201 rfl (lv_at hl 4 rfl) ?_
  refine r_calli (post := fun r R' => r = fi R2 100 5 ∧ R' = R2) hc hA (va_runV (As := []) (rest := []) ⟨hx, hb, hml, hown, hts⟩ (c_X4_thrown l D g lv1 a1 R2 _ hJ2.2.2.2.1 hJ2.2.2.1 hJ2.2.2.2.2.1 _) (cwV 0 hts (glw gL_law_X4_thrown) rfl rfl rfl (by decide +kernel) ⟨Nat.le_of_ble_eq_true rfl, Nat.le_of_ble_eq_true rfl⟩) (r_preV hK hZ hc hA (hm2.1 100 rfl) (rfl) rfl) rfl rfl hl.1 rfl (lv_room (Nat.le_of_ble_eq_true rfl)) dL_law_202 ⟨h1, h2⟩) (fun r R3 H locs hp3 hc => ?_)
  obtain ⟨hre, hRe⟩ := hp3
  rw [hRe] at hc
  rw [hre, ht2]
  refine lv_iload hx hb dL_law_205 (lv_at hl 1 rfl) ?_
  refine lv_icmp_eq (tgt := 212) hx hb dL_law_207 (by decide) (fun hq_1 => ?_) (fun hq_1 => absurd rfl hq_1)
  refine lv_iload hx hb dL_law_212 (lv_at hl 1 rfl) ?_
  refine lv_if_ne (tgt := 229) hx hb dL_law_214 (by decide) (fun hq_2 => ?_) (fun hq_2 => ?_)
  · have hq_2 : ¬ (((oKind M (xs (i + 1)) (xs (i + 2)) (xs (i + 3)) (xs (i + 4))).1) = 0) := fun z => hq_2 ((nI_eq (a := ((oKind M (xs (i + 1)) (xs (i + 2)) (xs (i + 3)) (xs (i + 4))).1)) (b := 0) (by omega) (by omega)).mpr z)
    refine lv_goto (tgt := 1252) hx hb dL_law_229 (by decide) ?_
    exact kk lv1 a1 R2 (oKind M (xs (i + 1)) (xs (i + 2)) (xs (i + 3)) (xs (i + 4))).2.2 _ _ ls hJ2 hc (lv_sub hl [2, 3, 4, 5, 6] rfl)
  · have hq_2 : ((oKind M (xs (i + 1)) (xs (i + 2)) (xs (i + 3)) (xs (i + 4))).1) = 0 := (nI_eq (a := ((oKind M (xs (i + 1)) (xs (i + 2)) (xs (i + 3)) (xs (i + 4))).1)) (b := 0) (by omega) (by omega)).mp hq_2
    have h0 := hq_2
    refine lv_aload_n hx hb dL_law_217 rfl (lv_at hl 5 rfl) ?_
    refine lv_iconst (v := nI (0)) hx hb dL_law_218 (by decide) ?_
    refine r_lald (v := ((oKind M (xs (i + 1)) (xs (i + 2)) (xs (i + 3)) (xs (i + 4))).2.1).toInt64) hx hb hK.1 hc (hm3) (rfl) (by decide) (by omega) dL_law_219 (ho2 h0 rfl) ?_
    refine lv_iload hx hb dL_law_220 (lv_at hl 0 rfl) ?_
    refine lv_i2l hx hb dL_law_222 rfl ?_
    refine W.lcmp hx hb dL_law_223 ?_
    refine lv_if_eq (tgt := 229) hx hb dL_law_224 (by decide) (fun hq_3 => ?_) (fun hq_3 => absurd (lg_0.mpr rfl) hq_3)
    refine lv_goto (tgt := 1252) hx hb dL_law_229 (by decide) ?_
    exact kk lv1 a1 R2 (oKind M (xs (i + 1)) (xs (i + 2)) (xs (i + 3)) (xs (i + 4))).2.2 _ _ ls hJ2 hc (lv_sub hl [2, 3, 4, 5, 6] rfl)
set_option maxRecDepth 100000 in
set_option maxHeartbeats 4000000 in
theorem la_search {p : Program} {l : Launch} {e : Env} {s : State} {m : MethodId} {below : List Frame} {meth : Method} {c : Code} {H : Heap} {locs : List Loc} {cells slots : Nat} {Q : State → Prop} {ls : Array Slot} {D : va_G} {g : Nat → ClassId} {lv : Nat → Bool} {a : Nat → Nat} {R : RS} {M : MS} {b L i : Nat} {xs : Nat → Int32} (X : LX p l s m c D g b L xs) (hJ : J lv a R M) (hi : i + 5 ≤ L) (hc : rc D g (lwA s) s.heap lv a R H locs) (hl : lv_has ls 7 [(0, .ref (b)), (1, .ref (a 0)), (2, .ref (a 100)), (3, .ref (a 200)), (4, .int (nI (i)))]) (h1 : cells + 6 ≤ 603072) (h2 : slots + 83 ≤ 7181976)
    (kk : ∀ (lv' : Nat → Bool) (a' : Nat → Nat) (R' : RS) (M' : MS) (H' : Heap) (locs' : List Loc) (ls' : Array Slot), J lv' a' R' M' → rc D g (lwA s) s.heap lv' a' R' H' locs' → lv_has ls' 7 [(0, .ref (b)), (1, .ref (a' 0)), (2, .ref (a' 100)), (3, .ref (a' 200)), (4, .int (nI (i)))] → W p l e room_1 s m #[Value.ref b] below meth c H' locs' (cells + 6) (slots + 83) Q (F0 m 1252 ls' [])) : W p l e room_1 s m #[Value.ref b] below meth c H locs cells slots Q (F0 m 232 ls []) := by
  obtain ⟨hx, hb, hml, hown, hts, hK, hZ, hX, hbl, hl9, hL31⟩ := X
  have hA : ∀ q, s.heap.size ≤ q → lwA s q := fun _ h => h
  have h4 := ob_search M (xs (i + 1)) (xs (i + 2))
  refine lv_aload_n hx hb dL_law_232 rfl (lv_at hl 1 rfl) ?_
  refine lv_aload_n hx hb dL_law_233 rfl (lv_at hl 0 rfl) ?_
  refine lv_iload hx hb dL_law_234 (lv_at hl 4 rfl) ?_
  refine lv_iconst (v := nI (1)) hx hb dL_law_236 (by decide) ?_
  refine nv_iadd hx hb dL_law_237 ?_
  refine r_scr (j := i + 1) hx hb hX hbl hc.2.2 (by omega) hL31 dL_law_238 ?_
  refine lv_aload_n hx hb dL_law_239 rfl (lv_at hl 0 rfl) ?_
  refine lv_iload hx hb dL_law_240 (lv_at hl 4 rfl) ?_
  refine lv_iconst (v := nI (2)) hx hb dL_law_242 (by decide) ?_
  refine nv_iadd hx hb dL_law_243 ?_
  refine r_scr (j := i + 2) hx hb hX hbl hc.2.2 (by omega) hL31 dL_law_244 ?_
  refine lv_aload_n hx hb dL_law_245 rfl (lv_at hl 3 rfl) ?_
  refine r_tryA (post := fun r lv' a' R' => LQ lv a R true (oSearch M (xs (i + 1)) (xs (i + 2))) r lv' a' R') (xp := fun _ _ => False) hc hA (vx_runSX (hh := [(0, 10, 13, 21), (0, 10, 17, 13), (0, 10, 21, 23)]) (As := [.ref (a 0), .int (xs (i + 1)), .int (xs (i + 2)), .ref (a 200)]) (rest := []) ⟨hx, hb, hml, hown, hts⟩ (c_L_search l hl9 D g lv a R M hJ.1 hJ.2.1 hJ.2.2.2.2.1 hJ.2.2.2.2.2 (xs (i + 1)) (xs (i + 2)) _) (vx_cwSW 4 hts (glw gL_law_L_search) rfl rfl rfl (by decide +kernel) ⟨Nat.le_of_ble_eq_true rfl, Nat.le_of_ble_eq_true rfl⟩) (r_preS hK hZ hc hA) rfl rfl hl.1 rfl (lv_room (Nat.le_of_ble_eq_true rfl)) dL_law_246 ⟨h1, h2⟩) (fun E ce q9 R' H locs hp => hp.elim) (fun r lv1 a1 R1 H locs hp hc => ?_)
  have hr1 := hp.1
  subst hr1
  have hs9 := sm_search hJ.2.2.2.2.1 (xs (i + 1)) (xs (i + 2))
  obtain ⟨hm1, hm2, hm3, e0, e1, e2⟩ := j_1 hJ hp
  have hl : lv_has ls 7 [(0, .ref (b)), (1, .ref (a1 0)), (2, .ref (a1 100)), (3, .ref (a1 200)), (4, .int (nI (i)))] := by rw [e0, e1, e2]; exact hl
  refine lv_istore (lv' := [(5, .int (nI ((oSearch M (xs (i + 1)) (xs (i + 2))).1))), (0, .ref (b)), (1, .ref (a1 0)), (2, .ref (a1 100)), (3, .ref (a1 200)), (4, .int (nI (i)))]) hx hb dL_law_249 hl (by decide) rfl (fun ls hl => ?_)
  refine lv_aload_n hx hb dL_law_251 rfl (lv_at hl 3 rfl) ?_
  refine lv_aload_n hx hb dL_law_252 rfl (lv_at hl 1 rfl) ?_
  refine lv_iload hx hb dL_law_253 (lv_at hl 5 rfl) ?_
  refine lv_iconst (v := nI (1)) hx hb dL_law_255 (by decide) ?_
  refine nv_iadd hx hb dL_law_256 ?_
  refine r_scr (j := i + 1) hx hb hX hbl hc.2.2 (by omega) hL31 dL_law_257 ?_
  refine lv_aload_n hx hb dL_law_258 rfl (lv_at hl 1 rfl) ?_
  refine lv_iload hx hb dL_law_259 (lv_at hl 5 rfl) ?_
  refine lv_iconst (v := nI (2)) hx hb dL_law_261 (by decide) ?_
  refine nv_iadd hx hb dL_law_262 ?_
  refine r_scr (j := i + 2) hx hb hX hbl hc.2.2 (by omega) hL31 dL_law_263 ?_
  refine r_calli (post := QM R1 (oSearch M (xs (i + 1)) (xs (i + 2)))) hc hA (va_runV (As := [.int (xs (i + 1)), .int (xs (i + 2))]) (rest := []) ⟨hx, hb, hml, hown, hts⟩ (c_X4_search l D g lv1 a1 R1 M hm2 hm1 hJ.2.2.2.2.1 (xs (i + 1)) (xs (i + 2)) _) (cwV 2 hts (glw gL_law_X4_search) rfl rfl rfl (by decide +kernel) ⟨Nat.le_of_ble_eq_true rfl, Nat.le_of_ble_eq_true rfl⟩) (r_preV hK hZ hc hA (hm2.1 100 rfl) (rfl) rfl) rfl rfl hl.1 rfl (lv_room (Nat.le_of_ble_eq_true rfl)) dL_law_264 ⟨h1, h2⟩) (fun r R2 H locs hp2 hc => ?_)
  obtain ⟨hJ2, ht2, ho2⟩ := j_2 hp hs9.1.1 hm2 hm3 hp2
  have hr2 := hp2.1
  subst hr2
  refine lv_istore (lv' := [(6, .int ((oSearch M (xs (i + 1)) (xs (i + 2))).2.1)), (5, .int (nI ((oSearch M (xs (i + 1)) (xs (i + 2))).1))), (0, .ref (b)), (1, .ref (a1 0)), (2, .ref (a1 100)), (3, .ref (a1 200)), (4, .int (nI (i)))]) hx hb dL_law_267 hl (by decide) rfl (fun ls hl => ?_)
  refine lv_aload_n hx hb dL_law_269 rfl (lv_at hl 4 rfl) ?_
  refine r_calli (post := fun r R' => r = fi R2 100 5 ∧ R' = R2) hc hA (va_runV (As := []) (rest := []) ⟨hx, hb, hml, hown, hts⟩ (c_X4_thrown l D g lv1 a1 R2 _ hJ2.2.2.2.1 hJ2.2.2.1 hJ2.2.2.2.2.1 _) (cwV 0 hts (glw gL_law_X4_thrown) rfl rfl rfl (by decide +kernel) ⟨Nat.le_of_ble_eq_true rfl, Nat.le_of_ble_eq_true rfl⟩) (r_preV hK hZ hc hA (hm2.1 100 rfl) (rfl) rfl) rfl rfl hl.1 rfl (lv_room (Nat.le_of_ble_eq_true rfl)) dL_law_270 ⟨h1, h2⟩) (fun r R3 H locs hp3 hc => ?_)
  obtain ⟨hre, hRe⟩ := hp3
  rw [hRe] at hc
  rw [hre, ht2]
  refine lv_iload hx hb dL_law_273 (lv_at hl 1 rfl) ?_
  refine lv_icmp_eq (tgt := 280) hx hb dL_law_275 (by decide) (fun hq_1 => ?_) (fun hq_1 => absurd rfl hq_1)
  refine lv_iload hx hb dL_law_280 (lv_at hl 1 rfl) ?_
  refine lv_if_ne (tgt := 297) hx hb dL_law_282 (by decide) (fun hq_2 => ?_) (fun hq_2 => ?_)
  · have hq_2 : ¬ (((oSearch M (xs (i + 1)) (xs (i + 2))).1) = 0) := fun z => hq_2 ((nI_eq (a := ((oSearch M (xs (i + 1)) (xs (i + 2))).1)) (b := 0) (by omega) (by omega)).mpr z)
    refine lv_goto (tgt := 1252) hx hb dL_law_297 (by decide) ?_
    exact kk lv1 a1 R2 (oSearch M (xs (i + 1)) (xs (i + 2))).2.2 _ _ ls hJ2 hc (lv_sub hl [2, 3, 4, 5, 6] rfl)
  · have hq_2 : ((oSearch M (xs (i + 1)) (xs (i + 2))).1) = 0 := (nI_eq (a := ((oSearch M (xs (i + 1)) (xs (i + 2))).1)) (b := 0) (by omega) (by omega)).mp hq_2
    have h0 := hq_2
    refine lv_aload_n hx hb dL_law_285 rfl (lv_at hl 5 rfl) ?_
    refine lv_iconst (v := nI (0)) hx hb dL_law_286 (by decide) ?_
    refine r_lald (v := ((oSearch M (xs (i + 1)) (xs (i + 2))).2.1).toInt64) hx hb hK.1 hc (hm3) (rfl) (by decide) (by omega) dL_law_287 (ho2 h0 rfl) ?_
    refine lv_iload hx hb dL_law_288 (lv_at hl 0 rfl) ?_
    refine lv_i2l hx hb dL_law_290 rfl ?_
    refine W.lcmp hx hb dL_law_291 ?_
    refine lv_if_eq (tgt := 297) hx hb dL_law_292 (by decide) (fun hq_3 => ?_) (fun hq_3 => absurd (lg_0.mpr rfl) hq_3)
    refine lv_goto (tgt := 1252) hx hb dL_law_297 (by decide) ?_
    exact kk lv1 a1 R2 (oSearch M (xs (i + 1)) (xs (i + 2))).2.2 _ _ ls hJ2 hc (lv_sub hl [2, 3, 4, 5, 6] rfl)
set_option maxRecDepth 100000 in
set_option maxHeartbeats 4000000 in
theorem la_pattern {p : Program} {l : Launch} {e : Env} {s : State} {m : MethodId} {below : List Frame} {meth : Method} {c : Code} {H : Heap} {locs : List Loc} {cells slots : Nat} {Q : State → Prop} {ls : Array Slot} {D : va_G} {g : Nat → ClassId} {lv : Nat → Bool} {a : Nat → Nat} {R : RS} {M : MS} {b L i : Nat} {xs : Nat → Int32} (X : LX p l s m c D g b L xs) (hJ : J lv a R M) (hi : i + 5 ≤ L) (hc : rc D g (lwA s) s.heap lv a R H locs) (hl : lv_has ls 7 [(0, .ref (b)), (1, .ref (a 0)), (2, .ref (a 100)), (3, .ref (a 200)), (4, .int (nI (i)))]) (h1 : cells + 6 ≤ 603072) (h2 : slots + 83 ≤ 7181976)
    (kk : ∀ (lv' : Nat → Bool) (a' : Nat → Nat) (R' : RS) (M' : MS) (H' : Heap) (locs' : List Loc) (ls' : Array Slot), J lv' a' R' M' → rc D g (lwA s) s.heap lv' a' R' H' locs' → lv_has ls' 7 [(0, .ref (b)), (1, .ref (a' 0)), (2, .ref (a' 100)), (3, .ref (a' 200)), (4, .int (nI (i)))] → W p l e room_1 s m #[Value.ref b] below meth c H' locs' (cells + 6) (slots + 83) Q (F0 m 1252 ls' [])) : W p l e room_1 s m #[Value.ref b] below meth c H locs cells slots Q (F0 m 300 ls []) := by
  obtain ⟨hx, hb, hml, hown, hts, hK, hZ, hX, hbl, hl9, hL31⟩ := X
  have hA : ∀ q, s.heap.size ≤ q → lwA s q := fun _ h => h
  have h4 := ob_pattern M (xs (i + 1)) (xs (i + 2)) (xs (i + 3))
  refine lv_aload_n hx hb dL_law_300 rfl (lv_at hl 1 rfl) ?_
  refine lv_aload_n hx hb dL_law_301 rfl (lv_at hl 0 rfl) ?_
  refine lv_iload hx hb dL_law_302 (lv_at hl 4 rfl) ?_
  refine lv_iconst (v := nI (1)) hx hb dL_law_304 (by decide) ?_
  refine nv_iadd hx hb dL_law_305 ?_
  refine r_scr (j := i + 1) hx hb hX hbl hc.2.2 (by omega) hL31 dL_law_306 ?_
  refine lv_aload_n hx hb dL_law_307 rfl (lv_at hl 0 rfl) ?_
  refine lv_iload hx hb dL_law_308 (lv_at hl 4 rfl) ?_
  refine lv_iconst (v := nI (2)) hx hb dL_law_310 (by decide) ?_
  refine nv_iadd hx hb dL_law_311 ?_
  refine r_scr (j := i + 2) hx hb hX hbl hc.2.2 (by omega) hL31 dL_law_312 ?_
  refine lv_aload_n hx hb dL_law_313 rfl (lv_at hl 0 rfl) ?_
  refine lv_iload hx hb dL_law_314 (lv_at hl 4 rfl) ?_
  refine lv_iconst (v := nI (3)) hx hb dL_law_316 (by decide) ?_
  refine nv_iadd hx hb dL_law_317 ?_
  refine r_scr (j := i + 3) hx hb hX hbl hc.2.2 (by omega) hL31 dL_law_318 ?_
  refine lv_aload_n hx hb dL_law_319 rfl (lv_at hl 3 rfl) ?_
  refine r_tryA (post := fun r lv' a' R' => LQ lv a R true (oPattern M (xs (i + 1)) (xs (i + 2)) (xs (i + 3))) r lv' a' R') (xp := fun _ _ => False) hc hA (vx_runSX (hh := [(0, 12, 15, 21), (0, 12, 19, 13), (0, 12, 23, 29)]) (As := [.ref (a 0), .int (xs (i + 1)), .int (xs (i + 2)), .int (xs (i + 3)), .ref (a 200)]) (rest := []) ⟨hx, hb, hml, hown, hts⟩ (c_L_pattern l hl9 D g lv a R M hJ.1 hJ.2.1 hJ.2.2.2.2.1 hJ.2.2.2.2.2 (xs (i + 1)) (xs (i + 2)) (xs (i + 3)) _) (vx_cwSW 5 hts glwP rfl rfl rfl (by decide +kernel) ⟨Nat.le_of_ble_eq_true rfl, Nat.le_of_ble_eq_true rfl⟩) (r_preS hK hZ hc hA) rfl rfl hl.1 rfl (lv_room (Nat.le_of_ble_eq_true rfl)) dL_law_320 ⟨h1, h2⟩) (fun E ce q9 R' H locs hp => hp.elim) (fun r lv1 a1 R1 H locs hp hc => ?_)
  have hr1 := hp.1
  subst hr1
  have hs9 := sm_pattern hJ.2.2.2.2.1 (xs (i + 1)) (xs (i + 2)) (xs (i + 3))
  obtain ⟨hm1, hm2, hm3, e0, e1, e2⟩ := j_1 hJ hp
  have hl : lv_has ls 7 [(0, .ref (b)), (1, .ref (a1 0)), (2, .ref (a1 100)), (3, .ref (a1 200)), (4, .int (nI (i)))] := by rw [e0, e1, e2]; exact hl
  refine lv_istore (lv' := [(5, .int (nI ((oPattern M (xs (i + 1)) (xs (i + 2)) (xs (i + 3))).1))), (0, .ref (b)), (1, .ref (a1 0)), (2, .ref (a1 100)), (3, .ref (a1 200)), (4, .int (nI (i)))]) hx hb dL_law_323 hl (by decide) rfl (fun ls hl => ?_)
  refine lv_aload_n hx hb dL_law_325 rfl (lv_at hl 3 rfl) ?_
  refine lv_aload_n hx hb dL_law_326 rfl (lv_at hl 1 rfl) ?_
  refine lv_iload hx hb dL_law_327 (lv_at hl 5 rfl) ?_
  refine lv_iconst (v := nI (1)) hx hb dL_law_329 (by decide) ?_
  refine nv_iadd hx hb dL_law_330 ?_
  refine r_scr (j := i + 1) hx hb hX hbl hc.2.2 (by omega) hL31 dL_law_331 ?_
  refine lv_aload_n hx hb dL_law_332 rfl (lv_at hl 1 rfl) ?_
  refine lv_iload hx hb dL_law_333 (lv_at hl 5 rfl) ?_
  refine lv_iconst (v := nI (2)) hx hb dL_law_335 (by decide) ?_
  refine nv_iadd hx hb dL_law_336 ?_
  refine r_scr (j := i + 2) hx hb hX hbl hc.2.2 (by omega) hL31 dL_law_337 ?_
  refine lv_aload_n hx hb dL_law_338 rfl (lv_at hl 1 rfl) ?_
  refine lv_iload hx hb dL_law_339 (lv_at hl 5 rfl) ?_
  refine lv_iconst (v := nI (3)) hx hb dL_law_341 (by decide) ?_
  refine nv_iadd hx hb dL_law_342 ?_
  refine r_scr (j := i + 3) hx hb hX hbl hc.2.2 (by omega) hL31 dL_law_343 ?_
  refine r_calli (post := QM R1 (oPattern M (xs (i + 1)) (xs (i + 2)) (xs (i + 3)))) hc hA (va_runV (As := [.int (xs (i + 1)), .int (xs (i + 2)), .int (xs (i + 3))]) (rest := []) ⟨hx, hb, hml, hown, hts⟩ (c_X4_pattern l D g lv1 a1 R1 M hm2 hm1 hJ.2.2.2.2.1 (xs (i + 1)) (xs (i + 2)) (xs (i + 3)) _) (cwV 3 hts (glw gL_law_X4_pattern) rfl rfl rfl (by decide +kernel) ⟨Nat.le_of_ble_eq_true rfl, Nat.le_of_ble_eq_true rfl⟩) (r_preV hK hZ hc hA (hm2.1 100 rfl) (rfl) rfl) rfl rfl hl.1 rfl (lv_room (Nat.le_of_ble_eq_true rfl)) dL_law_344 ⟨h1, h2⟩) (fun r R2 H locs hp2 hc => ?_)
  obtain ⟨hJ2, ht2, ho2⟩ := j_2 hp hs9.1.1 hm2 hm3 hp2
  have hr2 := hp2.1
  subst hr2
  refine lv_istore (lv' := [(6, .int ((oPattern M (xs (i + 1)) (xs (i + 2)) (xs (i + 3))).2.1)), (5, .int (nI ((oPattern M (xs (i + 1)) (xs (i + 2)) (xs (i + 3))).1))), (0, .ref (b)), (1, .ref (a1 0)), (2, .ref (a1 100)), (3, .ref (a1 200)), (4, .int (nI (i)))]) hx hb dL_law_347 hl (by decide) rfl (fun ls hl => ?_)
  refine lv_aload_n hx hb dL_law_349 rfl (lv_at hl 4 rfl) ?_
  refine r_calli (post := fun r R' => r = fi R2 100 5 ∧ R' = R2) hc hA (va_runV (As := []) (rest := []) ⟨hx, hb, hml, hown, hts⟩ (c_X4_thrown l D g lv1 a1 R2 _ hJ2.2.2.2.1 hJ2.2.2.1 hJ2.2.2.2.2.1 _) (cwV 0 hts (glw gL_law_X4_thrown) rfl rfl rfl (by decide +kernel) ⟨Nat.le_of_ble_eq_true rfl, Nat.le_of_ble_eq_true rfl⟩) (r_preV hK hZ hc hA (hm2.1 100 rfl) (rfl) rfl) rfl rfl hl.1 rfl (lv_room (Nat.le_of_ble_eq_true rfl)) dL_law_350 ⟨h1, h2⟩) (fun r R3 H locs hp3 hc => ?_)
  obtain ⟨hre, hRe⟩ := hp3
  rw [hRe] at hc
  rw [hre, ht2]
  refine lv_iload hx hb dL_law_353 (lv_at hl 1 rfl) ?_
  refine lv_icmp_eq (tgt := 360) hx hb dL_law_355 (by decide) (fun hq_1 => ?_) (fun hq_1 => absurd rfl hq_1)
  refine lv_iload hx hb dL_law_360 (lv_at hl 1 rfl) ?_
  refine lv_if_ne (tgt := 377) hx hb dL_law_362 (by decide) (fun hq_2 => ?_) (fun hq_2 => ?_)
  · have hq_2 : ¬ (((oPattern M (xs (i + 1)) (xs (i + 2)) (xs (i + 3))).1) = 0) := fun z => hq_2 ((nI_eq (a := ((oPattern M (xs (i + 1)) (xs (i + 2)) (xs (i + 3))).1)) (b := 0) (by omega) (by omega)).mpr z)
    refine lv_goto (tgt := 1252) hx hb dL_law_377 (by decide) ?_
    exact kk lv1 a1 R2 (oPattern M (xs (i + 1)) (xs (i + 2)) (xs (i + 3))).2.2 _ _ ls hJ2 hc (lv_sub hl [2, 3, 4, 5, 6] rfl)
  · have hq_2 : ((oPattern M (xs (i + 1)) (xs (i + 2)) (xs (i + 3))).1) = 0 := (nI_eq (a := ((oPattern M (xs (i + 1)) (xs (i + 2)) (xs (i + 3))).1)) (b := 0) (by omega) (by omega)).mp hq_2
    have h0 := hq_2
    refine lv_aload_n hx hb dL_law_365 rfl (lv_at hl 5 rfl) ?_
    refine lv_iconst (v := nI (0)) hx hb dL_law_366 (by decide) ?_
    refine r_lald (v := ((oPattern M (xs (i + 1)) (xs (i + 2)) (xs (i + 3))).2.1).toInt64) hx hb hK.1 hc (hm3) (rfl) (by decide) (by omega) dL_law_367 (ho2 h0 rfl) ?_
    refine lv_iload hx hb dL_law_368 (lv_at hl 0 rfl) ?_
    refine lv_i2l hx hb dL_law_370 rfl ?_
    refine W.lcmp hx hb dL_law_371 ?_
    refine lv_if_eq (tgt := 377) hx hb dL_law_372 (by decide) (fun hq_3 => ?_) (fun hq_3 => absurd (lg_0.mpr rfl) hq_3)
    refine lv_goto (tgt := 1252) hx hb dL_law_377 (by decide) ?_
    exact kk lv1 a1 R2 (oPattern M (xs (i + 1)) (xs (i + 2)) (xs (i + 3))).2.2 _ _ ls hJ2 hc (lv_sub hl [2, 3, 4, 5, 6] rfl)
set_option maxRecDepth 100000 in
set_option maxHeartbeats 4000000 in
theorem la_exact {p : Program} {l : Launch} {e : Env} {s : State} {m : MethodId} {below : List Frame} {meth : Method} {c : Code} {H : Heap} {locs : List Loc} {cells slots : Nat} {Q : State → Prop} {ls : Array Slot} {D : va_G} {g : Nat → ClassId} {lv : Nat → Bool} {a : Nat → Nat} {R : RS} {M : MS} {b L i : Nat} {xs : Nat → Int32} (X : LX p l s m c D g b L xs) (hJ : J lv a R M) (hi : i + 5 ≤ L) (hc : rc D g (lwA s) s.heap lv a R H locs) (hl : lv_has ls 7 [(0, .ref (b)), (1, .ref (a 0)), (2, .ref (a 100)), (3, .ref (a 200)), (4, .int (nI (i)))]) (h1 : cells + 6 ≤ 603072) (h2 : slots + 83 ≤ 7181976)
    (kk : ∀ (lv' : Nat → Bool) (a' : Nat → Nat) (R' : RS) (M' : MS) (H' : Heap) (locs' : List Loc) (ls' : Array Slot), J lv' a' R' M' → rc D g (lwA s) s.heap lv' a' R' H' locs' → lv_has ls' 7 [(0, .ref (b)), (1, .ref (a' 0)), (2, .ref (a' 100)), (3, .ref (a' 200)), (4, .int (nI (i)))] → W p l e room_1 s m #[Value.ref b] below meth c H' locs' (cells + 6) (slots + 83) Q (F0 m 1252 ls' [])) : W p l e room_1 s m #[Value.ref b] below meth c H locs cells slots Q (F0 m 380 ls []) := by
  obtain ⟨hx, hb, hml, hown, hts, hK, hZ, hX, hbl, hl9, hL31⟩ := X
  have hA : ∀ q, s.heap.size ≤ q → lwA s q := fun _ h => h
  have h4 := ob_exact M (xs (i + 1))
  refine lv_aload_n hx hb dL_law_380 rfl (lv_at hl 1 rfl) ?_
  refine lv_aload_n hx hb dL_law_381 rfl (lv_at hl 0 rfl) ?_
  refine lv_iload hx hb dL_law_382 (lv_at hl 4 rfl) ?_
  refine lv_iconst (v := nI (1)) hx hb dL_law_384 (by decide) ?_
  refine nv_iadd hx hb dL_law_385 ?_
  refine r_scr (j := i + 1) hx hb hX hbl hc.2.2 (by omega) hL31 dL_law_386 ?_
  refine lv_aload_n hx hb dL_law_387 rfl (lv_at hl 3 rfl) ?_
  refine r_tryA (post := fun r lv' a' R' => LQ lv a R true (oExact M (xs (i + 1))) r lv' a' R') (xp := fun _ _ => False) hc hA (vx_runSX (hh := [(0, 16, 19, 21)]) (As := [.ref (a 0), .int (xs (i + 1)), .ref (a 200)]) (rest := []) ⟨hx, hb, hml, hown, hts⟩ (c_L_exact l hl9 D g lv a R M hJ.1 hJ.2.1 hJ.2.2.2.2.1 hJ.2.2.2.2.2 (xs (i + 1)) _) (vx_cwSW 3 hts (glw gL_law_L_exact) rfl rfl rfl (by decide +kernel) ⟨Nat.le_of_ble_eq_true rfl, Nat.le_of_ble_eq_true rfl⟩) (r_preS hK hZ hc hA) rfl rfl hl.1 rfl (lv_room (Nat.le_of_ble_eq_true rfl)) dL_law_388 ⟨h1, h2⟩) (fun E ce q9 R' H locs hp => hp.elim) (fun r lv1 a1 R1 H locs hp hc => ?_)
  have hr1 := hp.1
  subst hr1
  have hs9 := sm_exact hJ.2.2.2.2.1 (xs (i + 1))
  obtain ⟨hm1, hm2, hm3, e0, e1, e2⟩ := j_1 hJ hp
  have hl : lv_has ls 7 [(0, .ref (b)), (1, .ref (a1 0)), (2, .ref (a1 100)), (3, .ref (a1 200)), (4, .int (nI (i)))] := by rw [e0, e1, e2]; exact hl
  refine lv_istore (lv' := [(5, .int (nI ((oExact M (xs (i + 1))).1))), (0, .ref (b)), (1, .ref (a1 0)), (2, .ref (a1 100)), (3, .ref (a1 200)), (4, .int (nI (i)))]) hx hb dL_law_391 hl (by decide) rfl (fun ls hl => ?_)
  refine lv_aload_n hx hb dL_law_393 rfl (lv_at hl 3 rfl) ?_
  refine lv_aload_n hx hb dL_law_394 rfl (lv_at hl 1 rfl) ?_
  refine lv_iload hx hb dL_law_395 (lv_at hl 5 rfl) ?_
  refine lv_iconst (v := nI (1)) hx hb dL_law_397 (by decide) ?_
  refine nv_iadd hx hb dL_law_398 ?_
  refine r_scr (j := i + 1) hx hb hX hbl hc.2.2 (by omega) hL31 dL_law_399 ?_
  refine r_calli (post := QM R1 (oExact M (xs (i + 1)))) hc hA (va_runV (As := [.int (xs (i + 1))]) (rest := []) ⟨hx, hb, hml, hown, hts⟩ (c_X4_exact l D g lv1 a1 R1 M hm2 hm1 hJ.2.2.2.2.1 (xs (i + 1)) _) (cwV 1 hts (glw gL_law_X4_exact) rfl rfl rfl (by decide +kernel) ⟨Nat.le_of_ble_eq_true rfl, Nat.le_of_ble_eq_true rfl⟩) (r_preV hK hZ hc hA (hm2.1 100 rfl) (rfl) rfl) rfl rfl hl.1 rfl (lv_room (Nat.le_of_ble_eq_true rfl)) dL_law_400 ⟨h1, h2⟩) (fun r R2 H locs hp2 hc => ?_)
  obtain ⟨hJ2, ht2, ho2⟩ := j_2 hp hs9.1.1 hm2 hm3 hp2
  have hr2 := hp2.1
  subst hr2
  refine lv_istore (lv' := [(6, .int ((oExact M (xs (i + 1))).2.1)), (5, .int (nI ((oExact M (xs (i + 1))).1))), (0, .ref (b)), (1, .ref (a1 0)), (2, .ref (a1 100)), (3, .ref (a1 200)), (4, .int (nI (i)))]) hx hb dL_law_403 hl (by decide) rfl (fun ls hl => ?_)
  refine lv_aload_n hx hb dL_law_405 rfl (lv_at hl 4 rfl) ?_
  refine r_calli (post := fun r R' => r = fi R2 100 5 ∧ R' = R2) hc hA (va_runV (As := []) (rest := []) ⟨hx, hb, hml, hown, hts⟩ (c_X4_thrown l D g lv1 a1 R2 _ hJ2.2.2.2.1 hJ2.2.2.1 hJ2.2.2.2.2.1 _) (cwV 0 hts (glw gL_law_X4_thrown) rfl rfl rfl (by decide +kernel) ⟨Nat.le_of_ble_eq_true rfl, Nat.le_of_ble_eq_true rfl⟩) (r_preV hK hZ hc hA (hm2.1 100 rfl) (rfl) rfl) rfl rfl hl.1 rfl (lv_room (Nat.le_of_ble_eq_true rfl)) dL_law_406 ⟨h1, h2⟩) (fun r R3 H locs hp3 hc => ?_)
  obtain ⟨hre, hRe⟩ := hp3
  rw [hRe] at hc
  rw [hre, ht2]
  refine lv_iload hx hb dL_law_409 (lv_at hl 1 rfl) ?_
  refine lv_icmp_eq (tgt := 416) hx hb dL_law_411 (by decide) (fun hq_1 => ?_) (fun hq_1 => absurd rfl hq_1)
  refine lv_iload hx hb dL_law_416 (lv_at hl 1 rfl) ?_
  refine lv_if_ne (tgt := 440) hx hb dL_law_418 (by decide) (fun hq_2 => ?_) (fun hq_2 => ?_)
  · have hq_2 : ¬ (((oExact M (xs (i + 1))).1) = 0) := fun z => hq_2 ((nI_eq (a := ((oExact M (xs (i + 1))).1)) (b := 0) (by omega) (by omega)).mpr z)
    refine lv_goto (tgt := 1252) hx hb dL_law_440 (by decide) ?_
    exact kk lv1 a1 R2 (oExact M (xs (i + 1))).2.2 _ _ ls hJ2 hc (lv_sub hl [2, 3, 4, 5, 6] rfl)
  · have hq_2 : ((oExact M (xs (i + 1))).1) = 0 := (nI_eq (a := ((oExact M (xs (i + 1))).1)) (b := 0) (by omega) (by omega)).mp hq_2
    have h0 := hq_2
    refine lv_aload_n hx hb dL_law_421 rfl (lv_at hl 5 rfl) ?_
    refine lv_iconst (v := nI (0)) hx hb dL_law_422 (by decide) ?_
    refine r_lald (v := ((oExact M (xs (i + 1))).2.1).toInt64) hx hb hK.1 hc (hm3) (rfl) (by decide) (by omega) dL_law_423 (ho2 h0 rfl) ?_
    refine lv_iload hx hb dL_law_424 (lv_at hl 0 rfl) ?_
    rcases ex_01 hJ.2.2.2.2.1 h0 with h9 | h9
    · refine w_st (st2 := [.int (nI (0)), .long (((oExact M (xs (i + 1))).2.1).toInt64)]) (by rw [h9]) ?_
      refine lv_if_eq (tgt := 433) hx hb dL_law_426 (by decide) (fun hq_3 => ?_) (fun hq_3 => absurd hq_3 (by decide))
      refine lv_lconst (v := lN 0) hx hb dL_law_433 (by decide) ?_
      refine W.lcmp hx hb dL_law_434 ?_
      refine lv_if_eq (tgt := 440) hx hb dL_law_435 (by decide) (fun hq_4 => ?_) (fun hq_4 => absurd (lg_0.mpr (by rw [h9]; decide)) hq_4)
      refine lv_goto (tgt := 1252) hx hb dL_law_440 (by decide) ?_
      exact kk lv1 a1 R2 (oExact M (xs (i + 1))).2.2 _ _ ls hJ2 hc (lv_sub hl [2, 3, 4, 5, 6] rfl)
    · refine w_st (st2 := [.int (nI (1)), .long (((oExact M (xs (i + 1))).2.1).toInt64)]) (by rw [h9]) ?_
      refine lv_if_eq (tgt := 433) hx hb dL_law_426 (by decide) (fun hq_5 => absurd hq_5 (by decide)) (fun hq_5 => ?_)
      refine lv_lconst (v := lN 1) hx hb dL_law_429 (by decide) ?_
      refine lv_goto (tgt := 434) hx hb dL_law_430 (by decide) ?_
      refine W.lcmp hx hb dL_law_434 ?_
      refine lv_if_eq (tgt := 440) hx hb dL_law_435 (by decide) (fun hq_6 => ?_) (fun hq_6 => absurd (lg_0.mpr (by rw [h9]; decide)) hq_6)
      refine lv_goto (tgt := 1252) hx hb dL_law_440 (by decide) ?_
      exact kk lv1 a1 R2 (oExact M (xs (i + 1))).2.2 _ _ ls hJ2 hc (lv_sub hl [2, 3, 4, 5, 6] rfl)
set_option maxRecDepth 100000 in
set_option maxHeartbeats 4000000 in
theorem la_bound {p : Program} {l : Launch} {e : Env} {s : State} {m : MethodId} {below : List Frame} {meth : Method} {c : Code} {H : Heap} {locs : List Loc} {cells slots : Nat} {Q : State → Prop} {ls : Array Slot} {D : va_G} {g : Nat → ClassId} {lv : Nat → Bool} {a : Nat → Nat} {R : RS} {M : MS} {b L i : Nat} {xs : Nat → Int32} (X : LX p l s m c D g b L xs) (hJ : J lv a R M) (hi : i + 5 ≤ L) (hc : rc D g (lwA s) s.heap lv a R H locs) (hl : lv_has ls 7 [(0, .ref (b)), (1, .ref (a 0)), (2, .ref (a 100)), (3, .ref (a 200)), (4, .int (nI (i)))]) (h1 : cells + 6 ≤ 603072) (h2 : slots + 83 ≤ 7181976)
    (kk : ∀ (lv' : Nat → Bool) (a' : Nat → Nat) (R' : RS) (M' : MS) (H' : Heap) (locs' : List Loc) (ls' : Array Slot), J lv' a' R' M' → rc D g (lwA s) s.heap lv' a' R' H' locs' → lv_has ls' 7 [(0, .ref (b)), (1, .ref (a' 0)), (2, .ref (a' 100)), (3, .ref (a' 200)), (4, .int (nI (i)))] → W p l e room_1 s m #[Value.ref b] below meth c H' locs' (cells + 6) (slots + 83) Q (F0 m 1252 ls' [])) : W p l e room_1 s m #[Value.ref b] below meth c H locs cells slots Q (F0 m 443 ls []) := by
  obtain ⟨hx, hb, hml, hown, hts, hK, hZ, hX, hbl, hl9, hL31⟩ := X
  have hA : ∀ q, s.heap.size ≤ q → lwA s q := fun _ h => h
  have h4 := ob_bound M (xs (i + 1))
  refine lv_aload_n hx hb dL_law_443 rfl (lv_at hl 1 rfl) ?_
  refine lv_aload_n hx hb dL_law_444 rfl (lv_at hl 0 rfl) ?_
  refine lv_iload hx hb dL_law_445 (lv_at hl 4 rfl) ?_
  refine lv_iconst (v := nI (1)) hx hb dL_law_447 (by decide) ?_
  refine nv_iadd hx hb dL_law_448 ?_
  refine r_scr (j := i + 1) hx hb hX hbl hc.2.2 (by omega) hL31 dL_law_449 ?_
  refine lv_aload_n hx hb dL_law_450 rfl (lv_at hl 3 rfl) ?_
  refine r_tryA (post := fun r lv' a' R' => LQ lv a R true (oBound M (xs (i + 1))) r lv' a' R') (xp := fun _ _ => False) hc hA (vx_runSX (hh := [(0, 9, 12, 21)]) (As := [.ref (a 0), .int (xs (i + 1)), .ref (a 200)]) (rest := []) ⟨hx, hb, hml, hown, hts⟩ (c_L_bound l hl9 D g lv a R M hJ.1 hJ.2.1 hJ.2.2.2.2.1 hJ.2.2.2.2.2 (xs (i + 1)) _) (vx_cwSW 3 hts (glw gL_law_L_bound) rfl rfl rfl (by decide +kernel) ⟨Nat.le_of_ble_eq_true rfl, Nat.le_of_ble_eq_true rfl⟩) (r_preS hK hZ hc hA) rfl rfl hl.1 rfl (lv_room (Nat.le_of_ble_eq_true rfl)) dL_law_451 ⟨h1, h2⟩) (fun E ce q9 R' H locs hp => hp.elim) (fun r lv1 a1 R1 H locs hp hc => ?_)
  have hr1 := hp.1
  subst hr1
  have hs9 := sm_bound hJ.2.2.2.2.1 (xs (i + 1))
  obtain ⟨hm1, hm2, hm3, e0, e1, e2⟩ := j_1 hJ hp
  have hl : lv_has ls 7 [(0, .ref (b)), (1, .ref (a1 0)), (2, .ref (a1 100)), (3, .ref (a1 200)), (4, .int (nI (i)))] := by rw [e0, e1, e2]; exact hl
  refine lv_istore (lv' := [(5, .int (nI ((oBound M (xs (i + 1))).1))), (0, .ref (b)), (1, .ref (a1 0)), (2, .ref (a1 100)), (3, .ref (a1 200)), (4, .int (nI (i)))]) hx hb dL_law_454 hl (by decide) rfl (fun ls hl => ?_)
  refine lv_aload_n hx hb dL_law_456 rfl (lv_at hl 3 rfl) ?_
  refine lv_aload_n hx hb dL_law_457 rfl (lv_at hl 1 rfl) ?_
  refine lv_iload hx hb dL_law_458 (lv_at hl 5 rfl) ?_
  refine lv_iconst (v := nI (1)) hx hb dL_law_460 (by decide) ?_
  refine nv_iadd hx hb dL_law_461 ?_
  refine r_scr (j := i + 1) hx hb hX hbl hc.2.2 (by omega) hL31 dL_law_462 ?_
  refine r_calli (post := QM R1 (oBound M (xs (i + 1)))) hc hA (va_runV (As := [.int (xs (i + 1))]) (rest := []) ⟨hx, hb, hml, hown, hts⟩ (c_X4_bound l D g lv1 a1 R1 M hm2 hm1 hJ.2.2.2.2.1 (xs (i + 1)) _) (cwV 1 hts (glw gL_law_X4_bound) rfl rfl rfl (by decide +kernel) ⟨Nat.le_of_ble_eq_true rfl, Nat.le_of_ble_eq_true rfl⟩) (r_preV hK hZ hc hA (hm2.1 100 rfl) (rfl) rfl) rfl rfl hl.1 rfl (lv_room (Nat.le_of_ble_eq_true rfl)) dL_law_463 ⟨h1, h2⟩) (fun r R2 H locs hp2 hc => ?_)
  obtain ⟨hJ2, ht2, ho2⟩ := j_2 hp hs9.1.1 hm2 hm3 hp2
  have hr2 := hp2.1
  subst hr2
  refine lv_istore (lv' := [(6, .int ((oBound M (xs (i + 1))).2.1)), (5, .int (nI ((oBound M (xs (i + 1))).1))), (0, .ref (b)), (1, .ref (a1 0)), (2, .ref (a1 100)), (3, .ref (a1 200)), (4, .int (nI (i)))]) hx hb dL_law_466 hl (by decide) rfl (fun ls hl => ?_)
  refine lv_aload_n hx hb dL_law_468 rfl (lv_at hl 4 rfl) ?_
  refine r_calli (post := fun r R' => r = fi R2 100 5 ∧ R' = R2) hc hA (va_runV (As := []) (rest := []) ⟨hx, hb, hml, hown, hts⟩ (c_X4_thrown l D g lv1 a1 R2 _ hJ2.2.2.2.1 hJ2.2.2.1 hJ2.2.2.2.2.1 _) (cwV 0 hts (glw gL_law_X4_thrown) rfl rfl rfl (by decide +kernel) ⟨Nat.le_of_ble_eq_true rfl, Nat.le_of_ble_eq_true rfl⟩) (r_preV hK hZ hc hA (hm2.1 100 rfl) (rfl) rfl) rfl rfl hl.1 rfl (lv_room (Nat.le_of_ble_eq_true rfl)) dL_law_469 ⟨h1, h2⟩) (fun r R3 H locs hp3 hc => ?_)
  obtain ⟨hre, hRe⟩ := hp3
  rw [hRe] at hc
  rw [hre, ht2]
  refine lv_iload hx hb dL_law_472 (lv_at hl 1 rfl) ?_
  refine lv_icmp_eq (tgt := 479) hx hb dL_law_474 (by decide) (fun hq_1 => ?_) (fun hq_1 => absurd rfl hq_1)
  refine lv_iload hx hb dL_law_479 (lv_at hl 1 rfl) ?_
  refine lv_if_ne (tgt := 496) hx hb dL_law_481 (by decide) (fun hq_2 => ?_) (fun hq_2 => ?_)
  · have hq_2 : ¬ (((oBound M (xs (i + 1))).1) = 0) := fun z => hq_2 ((nI_eq (a := ((oBound M (xs (i + 1))).1)) (b := 0) (by omega) (by omega)).mpr z)
    refine lv_goto (tgt := 1252) hx hb dL_law_496 (by decide) ?_
    exact kk lv1 a1 R2 (oBound M (xs (i + 1))).2.2 _ _ ls hJ2 hc (lv_sub hl [2, 3, 4, 5, 6] rfl)
  · have hq_2 : ((oBound M (xs (i + 1))).1) = 0 := (nI_eq (a := ((oBound M (xs (i + 1))).1)) (b := 0) (by omega) (by omega)).mp hq_2
    have h0 := hq_2
    refine lv_aload_n hx hb dL_law_484 rfl (lv_at hl 5 rfl) ?_
    refine lv_iconst (v := nI (0)) hx hb dL_law_485 (by decide) ?_
    refine r_lald (v := ((oBound M (xs (i + 1))).2.1).toInt64) hx hb hK.1 hc (hm3) (rfl) (by decide) (by omega) dL_law_486 (ho2 h0 rfl) ?_
    refine lv_iload hx hb dL_law_487 (lv_at hl 0 rfl) ?_
    refine lv_i2l hx hb dL_law_489 rfl ?_
    refine W.lcmp hx hb dL_law_490 ?_
    refine lv_if_eq (tgt := 496) hx hb dL_law_491 (by decide) (fun hq_3 => ?_) (fun hq_3 => absurd (lg_0.mpr rfl) hq_3)
    refine lv_goto (tgt := 1252) hx hb dL_law_496 (by decide) ?_
    exact kk lv1 a1 R2 (oBound M (xs (i + 1))).2.2 _ _ ls hJ2 hc (lv_sub hl [2, 3, 4, 5, 6] rfl)
set_option maxRecDepth 100000 in
set_option maxHeartbeats 4000000 in
theorem la_rules {p : Program} {l : Launch} {e : Env} {s : State} {m : MethodId} {below : List Frame} {meth : Method} {c : Code} {H : Heap} {locs : List Loc} {cells slots : Nat} {Q : State → Prop} {ls : Array Slot} {D : va_G} {g : Nat → ClassId} {lv : Nat → Bool} {a : Nat → Nat} {R : RS} {M : MS} {b L i : Nat} {xs : Nat → Int32} (X : LX p l s m c D g b L xs) (hJ : J lv a R M) (hi : i + 5 ≤ L) (hc : rc D g (lwA s) s.heap lv a R H locs) (hl : lv_has ls 7 [(0, .ref (b)), (1, .ref (a 0)), (2, .ref (a 100)), (3, .ref (a 200)), (4, .int (nI (i)))]) (h1 : cells + 6 ≤ 603072) (h2 : slots + 83 ≤ 7181976)
    (kk : ∀ (lv' : Nat → Bool) (a' : Nat → Nat) (R' : RS) (M' : MS) (H' : Heap) (locs' : List Loc) (ls' : Array Slot), J lv' a' R' M' → rc D g (lwA s) s.heap lv' a' R' H' locs' → lv_has ls' 7 [(0, .ref (b)), (1, .ref (a' 0)), (2, .ref (a' 100)), (3, .ref (a' 200)), (4, .int (nI (i)))] → W p l e room_1 s m #[Value.ref b] below meth c H' locs' (cells + 6) (slots + 83) Q (F0 m 1252 ls' [])) : W p l e room_1 s m #[Value.ref b] below meth c H locs cells slots Q (F0 m 499 ls []) := by
  obtain ⟨hx, hb, hml, hown, hts, hK, hZ, hX, hbl, hl9, hL31⟩ := X
  have hA : ∀ q, s.heap.size ≤ q → lwA s q := fun _ h => h
  have h4 := ob_rules M (xs (i + 1)) (xs (i + 2)) (xs (i + 3))
  refine lv_aload_n hx hb dL_law_499 rfl (lv_at hl 1 rfl) ?_
  refine lv_aload_n hx hb dL_law_500 rfl (lv_at hl 0 rfl) ?_
  refine lv_iload hx hb dL_law_501 (lv_at hl 4 rfl) ?_
  refine lv_iconst (v := nI (1)) hx hb dL_law_503 (by decide) ?_
  refine nv_iadd hx hb dL_law_504 ?_
  refine r_scr (j := i + 1) hx hb hX hbl hc.2.2 (by omega) hL31 dL_law_505 ?_
  refine lv_aload_n hx hb dL_law_506 rfl (lv_at hl 0 rfl) ?_
  refine lv_iload hx hb dL_law_507 (lv_at hl 4 rfl) ?_
  refine lv_iconst (v := nI (2)) hx hb dL_law_509 (by decide) ?_
  refine nv_iadd hx hb dL_law_510 ?_
  refine r_scr (j := i + 2) hx hb hX hbl hc.2.2 (by omega) hL31 dL_law_511 ?_
  refine lv_aload_n hx hb dL_law_512 rfl (lv_at hl 0 rfl) ?_
  refine lv_iload hx hb dL_law_513 (lv_at hl 4 rfl) ?_
  refine lv_iconst (v := nI (3)) hx hb dL_law_515 (by decide) ?_
  refine nv_iadd hx hb dL_law_516 ?_
  refine r_scr (j := i + 3) hx hb hX hbl hc.2.2 (by omega) hL31 dL_law_517 ?_
  refine r_tryA (post := fun r lv' a' R' => LQ lv a R false (oRules M (xs (i + 1)) (xs (i + 2)) (xs (i + 3))) r lv' a' R') (xp := fun _ _ => False) hc hA (vx_runSX (hh := [(0, 7, 10, 13)]) (As := [.ref (a 0), .int (xs (i + 1)), .int (xs (i + 2)), .int (xs (i + 3))]) (rest := []) ⟨hx, hb, hml, hown, hts⟩ (c_L_rules l hl9 D g lv a R M hJ.1 hJ.2.1 hJ.2.2.2.2.1 hJ.2.2.2.2.2 (xs (i + 1)) (xs (i + 2)) (xs (i + 3)) _) (vx_cwSW 4 hts (glw gL_law_L_rules) rfl rfl rfl (by decide +kernel) ⟨Nat.le_of_ble_eq_true rfl, Nat.le_of_ble_eq_true rfl⟩) (r_preS hK hZ hc hA) rfl rfl hl.1 rfl (lv_room (Nat.le_of_ble_eq_true rfl)) dL_law_518 ⟨h1, h2⟩) (fun E ce q9 R' H locs hp => hp.elim) (fun r lv1 a1 R1 H locs hp hc => ?_)
  have hr1 := hp.1
  subst hr1
  have hs9 := sm_rules hJ.2.2.2.2.1 (xs (i + 1)) (xs (i + 2)) (xs (i + 3))
  obtain ⟨hm1, hm2, hm3, e0, e1, e2⟩ := j_1 hJ hp
  have hl : lv_has ls 7 [(0, .ref (b)), (1, .ref (a1 0)), (2, .ref (a1 100)), (3, .ref (a1 200)), (4, .int (nI (i)))] := by rw [e0, e1, e2]; exact hl
  refine lv_istore (lv' := [(5, .int (nI ((oRules M (xs (i + 1)) (xs (i + 2)) (xs (i + 3))).1))), (0, .ref (b)), (1, .ref (a1 0)), (2, .ref (a1 100)), (3, .ref (a1 200)), (4, .int (nI (i)))]) hx hb dL_law_521 hl (by decide) rfl (fun ls hl => ?_)
  refine lv_aload_n hx hb dL_law_523 rfl (lv_at hl 3 rfl) ?_
  refine lv_aload_n hx hb dL_law_524 rfl (lv_at hl 1 rfl) ?_
  refine lv_iload hx hb dL_law_525 (lv_at hl 5 rfl) ?_
  refine lv_iconst (v := nI (1)) hx hb dL_law_527 (by decide) ?_
  refine nv_iadd hx hb dL_law_528 ?_
  refine r_scr (j := i + 1) hx hb hX hbl hc.2.2 (by omega) hL31 dL_law_529 ?_
  refine lv_aload_n hx hb dL_law_530 rfl (lv_at hl 1 rfl) ?_
  refine lv_iload hx hb dL_law_531 (lv_at hl 5 rfl) ?_
  refine lv_iconst (v := nI (2)) hx hb dL_law_533 (by decide) ?_
  refine nv_iadd hx hb dL_law_534 ?_
  refine r_scr (j := i + 2) hx hb hX hbl hc.2.2 (by omega) hL31 dL_law_535 ?_
  refine lv_aload_n hx hb dL_law_536 rfl (lv_at hl 1 rfl) ?_
  refine lv_iload hx hb dL_law_537 (lv_at hl 5 rfl) ?_
  refine lv_iconst (v := nI (3)) hx hb dL_law_539 (by decide) ?_
  refine nv_iadd hx hb dL_law_540 ?_
  refine r_scr (j := i + 3) hx hb hX hbl hc.2.2 (by omega) hL31 dL_law_541 ?_
  refine r_callv (post := fun R' => QM R1 (oRules M (xs (i + 1)) (xs (i + 2)) (xs (i + 3))) (nI 0) R') hc hA (va_runV (As := [.int (xs (i + 1)), .int (xs (i + 2)), .int (xs (i + 3))]) (rest := []) ⟨hx, hb, hml, hown, hts⟩ (c_X4_rules l D g lv1 a1 R1 M hm2 hm1 hJ.2.2.2.2.1 (xs (i + 1)) (xs (i + 2)) (xs (i + 3)) _) (cwV 3 hts (glw gL_law_X4_rules) rfl rfl rfl (by decide +kernel) ⟨Nat.le_of_ble_eq_true rfl, Nat.le_of_ble_eq_true rfl⟩) (r_preV hK hZ hc hA (hm2.1 100 rfl) (rfl) rfl) rfl rfl hl.1 rfl (lv_room (Nat.le_of_ble_eq_true rfl)) dL_law_542 ⟨h1, h2⟩) (fun R2 H locs hp2 hc => ?_)
  obtain ⟨hJ2, ht2, ho2⟩ := j_2 hp hs9.1.1 hm2 hm3 hp2
  refine lv_aload_n hx hb dL_law_545 rfl (lv_at hl 3 rfl) ?_
  refine r_calli (post := fun r R' => r = fi R2 100 5 ∧ R' = R2) hc hA (va_runV (As := []) (rest := []) ⟨hx, hb, hml, hown, hts⟩ (c_X4_thrown l D g lv1 a1 R2 _ hJ2.2.2.2.1 hJ2.2.2.1 hJ2.2.2.2.2.1 _) (cwV 0 hts (glw gL_law_X4_thrown) rfl rfl rfl (by decide +kernel) ⟨Nat.le_of_ble_eq_true rfl, Nat.le_of_ble_eq_true rfl⟩) (r_preV hK hZ hc hA (hm2.1 100 rfl) (rfl) rfl) rfl rfl hl.1 rfl (lv_room (Nat.le_of_ble_eq_true rfl)) dL_law_546 ⟨h1, h2⟩) (fun r R3 H locs hp3 hc => ?_)
  obtain ⟨hre, hRe⟩ := hp3
  rw [hRe] at hc
  rw [hre, ht2]
  refine lv_iload hx hb dL_law_549 (lv_at hl 0 rfl) ?_
  refine lv_icmp_eq (tgt := 556) hx hb dL_law_551 (by decide) (fun hq_1 => ?_) (fun hq_1 => absurd rfl hq_1)
  refine lv_goto (tgt := 1252) hx hb dL_law_556 (by decide) ?_
  exact kk lv1 a1 R2 (oRules M (xs (i + 1)) (xs (i + 2)) (xs (i + 3))).2.2 _ _ ls hJ2 hc (lv_sub hl [1, 2, 3, 4, 5] rfl)
