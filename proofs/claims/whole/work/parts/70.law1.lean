/-! the law's cases -/
section ZL
variable {p : Program} {l : Launch} {e : Env} {s : State} {m : MethodId} {below : List Frame} {meth : Method} {c : Code} {b L : Nat} {xs : Nat → Int32} {G : zc_G} {ba na : Nat → Nat} {pa : Nat → Nat → Nat} {ma : Nat → Nat} {Q : State → Prop} {H : Heap} {locs : List Loc} {ls : Array Slot} {x3 : Int32} {v : zc_B} {u : zc_M} {T : Int}
set_option maxHeartbeats 8000000 in
set_option maxRecDepth 100000 in
theorem zl_told (F : z_Fix p s m c b L xs G ba na pa ma) (Nw : z_Now s G ba na pa ma v u H locs) (hl : lv_has ls 4 [(0, .ref b), (1, .ref (ba 0)), (2, .ref (ma 0)), (3, .int x3)]) (hi : zInv T v u) (hT : T + 4000 ≤ 1100000) (h1 : vp_in (x3 + 1) L) (h2 : vp_in (x3 + 2) L) (h3 : vp_in (x3 + 3) L) (kk : ∀ (v' : zc_B) (u' : zc_M) (H' : Heap) (locs' : List Loc), zInv (T + 2000) v' u' → z_Now s G ba na pa ma v' u' H' locs' → W p l e room_1 s m #[Value.ref b] below meth c H' locs' 173 2503 Q (F0 m 841 ls [])) : W p l e room_1 s m #[Value.ref b] below meth c H locs 173 2503 Q (F0 m 148 ls []) := by
  obtain ⟨hx, hb, hml, hown, hts, hXb, hK, hDb, hDm, hap⟩ := id F
  obtain ⟨hPb, hPm, hS⟩ := id Nw
  obtain ⟨r, e2, e3⟩ := X_told (N := 100001) hi (by decide) (xs (x3 + 1).toNatClampNeg)
  refine lv_aload_n hx hb dL_law_148 rfl (lv_at hl 1 rfl) ?_
  refine z_arg F Nw hl (w := 1) (by decide) h1 dL_law_149 dL_law_150 dL_law_151 dL_law_152 dL_law_153 ?_
  refine zc_ci (va_runV (As := [.int _]) ⟨hx, hb, hml, hown, hts⟩ (kX2_told l G ba na pa e2) (cwV 1 hts gL_law_X2_told rfl rfl rfl (by decide +kernel) ⟨Nat.le_of_ble_eq_true rfl, Nat.le_of_ble_eq_true rfl⟩) (zc_preV hK hPb 0 rfl rfl) rfl rfl hl.1 rfl (lv_room (Nat.le_of_ble_eq_true rfl)) dL_law_154 ⟨Nat.le_of_ble_eq_true rfl, Nat.le_of_ble_eq_true rfl⟩) ?_
  refine lv_aload_n hx hb dL_law_157 rfl (lv_at hl 2 rfl) ?_
  refine z_arg F Nw hl (w := 1) (by decide) h1 dL_law_158 dL_law_159 dL_law_160 dL_law_161 dL_law_162 ?_
  refine zc_ci (va_runV (As := [.int _]) ⟨hx, hb, hml, hown, hts⟩ (kX3_told l G ma e3) (cwV 1 hts gL_law_X3_told rfl rfl rfl (by decide +kernel) ⟨Nat.le_of_ble_eq_true rfl, Nat.le_of_ble_eq_true rfl⟩) (zc_preV hK hPm 0 rfl rfl) rfl rfl hl.1 rfl (lv_room (Nat.le_of_ble_eq_true rfl)) dL_law_163 ⟨Nat.le_of_ble_eq_true rfl, Nat.le_of_ble_eq_true rfl⟩) ?_
  exact lv_icmp_eq (tgt := 841) hx hb dL_law_166 (by decide) (fun _ => kk v u H locs (hi.mono (by omega) (by omega)) Nw) (fun h => absurd rfl h)
set_option maxHeartbeats 8000000 in
set_option maxRecDepth 100000 in
theorem zl_time (F : z_Fix p s m c b L xs G ba na pa ma) (Nw : z_Now s G ba na pa ma v u H locs) (hl : lv_has ls 4 [(0, .ref b), (1, .ref (ba 0)), (2, .ref (ma 0)), (3, .int x3)]) (hi : zInv T v u) (hT : T + 4000 ≤ 1100000) (h1 : vp_in (x3 + 1) L) (h2 : vp_in (x3 + 2) L) (h3 : vp_in (x3 + 3) L) (kk : ∀ (v' : zc_B) (u' : zc_M) (H' : Heap) (locs' : List Loc), zInv (T + 2000) v' u' → z_Now s G ba na pa ma v' u' H' locs' → W p l e room_1 s m #[Value.ref b] below meth c H' locs' 173 2503 Q (F0 m 841 ls [])) : W p l e room_1 s m #[Value.ref b] below meth c H locs 173 2503 Q (F0 m 171 ls []) := by
  obtain ⟨hx, hb, hml, hown, hts, hXb, hK, hDb, hDm, hap⟩ := id F
  obtain ⟨hPb, hPm, hS⟩ := id Nw
  obtain ⟨r, e2, e3⟩ := X_time hi (xs (x3 + 1).toNatClampNeg)
  refine lv_aload_n hx hb dL_law_171 rfl (lv_at hl 1 rfl) ?_
  refine z_arg F Nw hl (w := 1) (by decide) h1 dL_law_172 dL_law_173 dL_law_174 dL_law_175 dL_law_176 ?_
  refine zc_cl (va_runV (As := [.int _]) ⟨hx, hb, hml, hown, hts⟩ (kX2_time l G ba na pa e2) (cwV 1 hts gL_law_X2_time rfl rfl rfl (by decide +kernel) ⟨Nat.le_of_ble_eq_true rfl, Nat.le_of_ble_eq_true rfl⟩) (zc_preV hK hPb 0 rfl rfl) rfl rfl hl.1 rfl (lv_room (Nat.le_of_ble_eq_true rfl)) dL_law_177 ⟨Nat.le_of_ble_eq_true rfl, Nat.le_of_ble_eq_true rfl⟩) ?_
  refine lv_aload_n hx hb dL_law_180 rfl (lv_at hl 2 rfl) ?_
  refine z_arg F Nw hl (w := 1) (by decide) h1 dL_law_181 dL_law_182 dL_law_183 dL_law_184 dL_law_185 ?_
  refine zc_cl (va_runV (As := [.int _]) ⟨hx, hb, hml, hown, hts⟩ (kX3_time l G ma e3) (cwV 1 hts gL_law_X3_time rfl rfl rfl (by decide +kernel) ⟨Nat.le_of_ble_eq_true rfl, Nat.le_of_ble_eq_true rfl⟩) (zc_preV hK hPm 0 rfl rfl) rfl rfl hl.1 rfl (lv_room (Nat.le_of_ble_eq_true rfl)) dL_law_186 ⟨Nat.le_of_ble_eq_true rfl, Nat.le_of_ble_eq_true rfl⟩) ?_
  refine W.lcmp hx hb dL_law_189 ?_
  exact lv_if_eq (tgt := 841) hx hb dL_law_190 (by decide) (fun _ => kk v u H locs (hi.mono (by omega) (by omega)) Nw) (fun h => absurd (by rw [lg_cmp_eq]) h)
set_option maxHeartbeats 8000000 in
set_option maxRecDepth 100000 in
theorem zl_calendar (F : z_Fix p s m c b L xs G ba na pa ma) (Nw : z_Now s G ba na pa ma v u H locs) (hl : lv_has ls 4 [(0, .ref b), (1, .ref (ba 0)), (2, .ref (ma 0)), (3, .int x3)]) (hi : zInv T v u) (hT : T + 4000 ≤ 1100000) (h1 : vp_in (x3 + 1) L) (h2 : vp_in (x3 + 2) L) (h3 : vp_in (x3 + 3) L) (kk : ∀ (v' : zc_B) (u' : zc_M) (H' : Heap) (locs' : List Loc), zInv (T + 2000) v' u' → z_Now s G ba na pa ma v' u' H' locs' → W p l e room_1 s m #[Value.ref b] below meth c H' locs' 173 2503 Q (F0 m 841 ls [])) : W p l e room_1 s m #[Value.ref b] below meth c H locs 173 2503 Q (F0 m 195 ls []) := by
  obtain ⟨hx, hb, hml, hown, hts, hXb, hK, hDb, hDm, hap⟩ := id F
  obtain ⟨hPb, hPm, hS⟩ := id Nw
  obtain ⟨r, e2, e3⟩ := X_calendar hi (xs (x3 + 1).toNatClampNeg)
  refine lv_aload_n hx hb dL_law_195 rfl (lv_at hl 1 rfl) ?_
  refine z_arg F Nw hl (w := 1) (by decide) h1 dL_law_196 dL_law_197 dL_law_198 dL_law_199 dL_law_200 ?_
  refine zc_ci (va_runV (As := [.int _]) ⟨hx, hb, hml, hown, hts⟩ (kX2_calendar l G ba na pa e2) (cwV 1 hts gL_law_X2_calendar rfl rfl rfl (by decide +kernel) ⟨Nat.le_of_ble_eq_true rfl, Nat.le_of_ble_eq_true rfl⟩) (zc_preV hK hPb 0 rfl rfl) rfl rfl hl.1 rfl (lv_room (Nat.le_of_ble_eq_true rfl)) dL_law_201 ⟨Nat.le_of_ble_eq_true rfl, Nat.le_of_ble_eq_true rfl⟩) ?_
  refine lv_aload_n hx hb dL_law_204 rfl (lv_at hl 2 rfl) ?_
  refine z_arg F Nw hl (w := 1) (by decide) h1 dL_law_205 dL_law_206 dL_law_207 dL_law_208 dL_law_209 ?_
  refine zc_ci (va_runV (As := [.int _]) ⟨hx, hb, hml, hown, hts⟩ (kX3_calendar l G ma e3) (cwV 1 hts gL_law_X3_calendar rfl rfl rfl (by decide +kernel) ⟨Nat.le_of_ble_eq_true rfl, Nat.le_of_ble_eq_true rfl⟩) (zc_preV hK hPm 0 rfl rfl) rfl rfl hl.1 rfl (lv_room (Nat.le_of_ble_eq_true rfl)) dL_law_210 ⟨Nat.le_of_ble_eq_true rfl, Nat.le_of_ble_eq_true rfl⟩) ?_
  exact lv_icmp_eq (tgt := 841) hx hb dL_law_213 (by decide) (fun _ => kk v u H locs (hi.mono (by omega) (by omega)) Nw) (fun h => absurd rfl h)
set_option maxHeartbeats 8000000 in
set_option maxRecDepth 100000 in
theorem zl_span (F : z_Fix p s m c b L xs G ba na pa ma) (Nw : z_Now s G ba na pa ma v u H locs) (hl : lv_has ls 4 [(0, .ref b), (1, .ref (ba 0)), (2, .ref (ma 0)), (3, .int x3)]) (hi : zInv T v u) (hT : T + 4000 ≤ 1100000) (h1 : vp_in (x3 + 1) L) (h2 : vp_in (x3 + 2) L) (h3 : vp_in (x3 + 3) L) (kk : ∀ (v' : zc_B) (u' : zc_M) (H' : Heap) (locs' : List Loc), zInv (T + 2000) v' u' → z_Now s G ba na pa ma v' u' H' locs' → W p l e room_1 s m #[Value.ref b] below meth c H' locs' 173 2503 Q (F0 m 841 ls [])) : W p l e room_1 s m #[Value.ref b] below meth c H locs 173 2503 Q (F0 m 218 ls []) := by
  obtain ⟨hx, hb, hml, hown, hts, hXb, hK, hDb, hDm, hap⟩ := id F
  obtain ⟨hPb, hPm, hS⟩ := id Nw
  obtain ⟨r, e2, e3⟩ := X_span hi (xs (x3 + 1).toNatClampNeg) (xs (x3 + 2).toNatClampNeg)
  refine lv_aload_n hx hb dL_law_218 rfl (lv_at hl 1 rfl) ?_
  refine z_arg F Nw hl (w := 1) (by decide) h1 dL_law_219 dL_law_220 dL_law_221 dL_law_222 dL_law_223 ?_
  refine z_arg F Nw hl (w := 2) (by decide) h2 dL_law_224 dL_law_225 dL_law_226 dL_law_227 dL_law_228 ?_
  refine zc_ci (va_runV (As := [.int _, .int _]) ⟨hx, hb, hml, hown, hts⟩ (kX2_span l G ba na pa e2) (cwV 2 hts gL_law_X2_span rfl rfl rfl (by decide +kernel) ⟨Nat.le_of_ble_eq_true rfl, Nat.le_of_ble_eq_true rfl⟩) (zc_preV hK hPb 0 rfl rfl) rfl rfl hl.1 rfl (lv_room (Nat.le_of_ble_eq_true rfl)) dL_law_229 ⟨Nat.le_of_ble_eq_true rfl, Nat.le_of_ble_eq_true rfl⟩) ?_
  refine lv_aload_n hx hb dL_law_232 rfl (lv_at hl 2 rfl) ?_
  refine z_arg F Nw hl (w := 1) (by decide) h1 dL_law_233 dL_law_234 dL_law_235 dL_law_236 dL_law_237 ?_
  refine z_arg F Nw hl (w := 2) (by decide) h2 dL_law_238 dL_law_239 dL_law_240 dL_law_241 dL_law_242 ?_
  refine zc_ci (va_runV (As := [.int _, .int _]) ⟨hx, hb, hml, hown, hts⟩ (kX3_span l G ma e3) (cwV 2 hts gL_law_X3_span rfl rfl rfl (by decide +kernel) ⟨Nat.le_of_ble_eq_true rfl, Nat.le_of_ble_eq_true rfl⟩) (zc_preV hK hPm 0 rfl rfl) rfl rfl hl.1 rfl (lv_room (Nat.le_of_ble_eq_true rfl)) dL_law_243 ⟨Nat.le_of_ble_eq_true rfl, Nat.le_of_ble_eq_true rfl⟩) ?_
  exact lv_icmp_eq (tgt := 841) hx hb dL_law_246 (by decide) (fun _ => kk v u H locs (hi.mono (by omega) (by omega)) Nw) (fun h => absurd rfl h)
set_option maxHeartbeats 8000000 in
set_option maxRecDepth 100000 in
theorem zl_alarmAt (F : z_Fix p s m c b L xs G ba na pa ma) (Nw : z_Now s G ba na pa ma v u H locs) (hl : lv_has ls 4 [(0, .ref b), (1, .ref (ba 0)), (2, .ref (ma 0)), (3, .int x3)]) (hi : zInv T v u) (hT : T + 4000 ≤ 1100000) (h1 : vp_in (x3 + 1) L) (h2 : vp_in (x3 + 2) L) (h3 : vp_in (x3 + 3) L) (kk : ∀ (v' : zc_B) (u' : zc_M) (H' : Heap) (locs' : List Loc), zInv (T + 2000) v' u' → z_Now s G ba na pa ma v' u' H' locs' → W p l e room_1 s m #[Value.ref b] below meth c H' locs' 173 2503 Q (F0 m 841 ls [])) : W p l e room_1 s m #[Value.ref b] below meth c H locs 173 2503 Q (F0 m 251 ls []) := by
  obtain ⟨hx, hb, hml, hown, hts, hXb, hK, hDb, hDm, hap⟩ := id F
  obtain ⟨hPb, hPm, hS⟩ := id Nw
  obtain ⟨r, e2, e3⟩ := X_alarmAt (N := 100001) hi (by decide) (xs (x3 + 1).toNatClampNeg) (xs (x3 + 2).toNatClampNeg)
  refine lv_aload_n hx hb dL_law_251 rfl (lv_at hl 1 rfl) ?_
  refine z_arg F Nw hl (w := 1) (by decide) h1 dL_law_252 dL_law_253 dL_law_254 dL_law_255 dL_law_256 ?_
  refine z_arg F Nw hl (w := 2) (by decide) h2 dL_law_257 dL_law_258 dL_law_259 dL_law_260 dL_law_261 ?_
  refine zc_ci (va_runV (As := [.int _, .int _]) ⟨hx, hb, hml, hown, hts⟩ (kX2_alarmAt l G ba na pa e2) (cwV 2 hts gL_law_X2_alarmAt rfl rfl rfl (by decide +kernel) ⟨Nat.le_of_ble_eq_true rfl, Nat.le_of_ble_eq_true rfl⟩) (zc_preV hK hPb 0 rfl rfl) rfl rfl hl.1 rfl (lv_room (Nat.le_of_ble_eq_true rfl)) dL_law_262 ⟨Nat.le_of_ble_eq_true rfl, Nat.le_of_ble_eq_true rfl⟩) ?_
  refine lv_aload_n hx hb dL_law_265 rfl (lv_at hl 2 rfl) ?_
  refine z_arg F Nw hl (w := 1) (by decide) h1 dL_law_266 dL_law_267 dL_law_268 dL_law_269 dL_law_270 ?_
  refine z_arg F Nw hl (w := 2) (by decide) h2 dL_law_271 dL_law_272 dL_law_273 dL_law_274 dL_law_275 ?_
  refine zc_ci (va_runV (As := [.int _, .int _]) ⟨hx, hb, hml, hown, hts⟩ (kX3_alarmAt l G ma e3) (cwV 2 hts gL_law_X3_alarmAt rfl rfl rfl (by decide +kernel) ⟨Nat.le_of_ble_eq_true rfl, Nat.le_of_ble_eq_true rfl⟩) (zc_preV hK hPm 0 rfl rfl) rfl rfl hl.1 rfl (lv_room (Nat.le_of_ble_eq_true rfl)) dL_law_276 ⟨Nat.le_of_ble_eq_true rfl, Nat.le_of_ble_eq_true rfl⟩) ?_
  exact lv_icmp_eq (tgt := 841) hx hb dL_law_279 (by decide) (fun _ => kk v u H locs (hi.mono (by omega) (by omega)) Nw) (fun h => absurd rfl h)
end ZL
