/-! ===== the law, case by case ===== -/
theorem lg_cmp_self (x : Int64) : lg_cmp x x = 0 := by
  unfold lg_cmp
  rw [if_neg (fun q => Int64.lt_irrefl q), if_pos rfl]
section
variable {cx : pm_CX} {p : Program} {e : Env} {s : State} {m : MethodId} {below : List Frame} {meth : Method} {c : Code} {b : Nat} {xs : Nat → Int32} {al : Nat → Nat} {H : Heap} {locs : List Loc} {mu : pm_I} {nu : pm_J} {cells slots : Nat} {ls : Array Slot}
-- beds
set_option maxRecDepth 100000 in
set_option maxHeartbeats 2000000 in
theorem law_c0 (hC : lw_C cx p s m meth c b 3 xs) (hD : lw_D cx s al H locs (sh_ none none []) mu nu) (hl : lv_has ls 4 [(3, .int 0), (2, .ref (al 19)), (1, .ref (al 0)), (0, .ref b)]) (hX0 : X0 mu) (hM : MA z0 mu) (hc : cells ≤ 1000) (hs : slots ≤ 1000000) : W p cx.1 e room_1 s m #[Value.ref b] below meth c H locs cells slots (lw_Z below #[Value.ref b] s) (F0 m 148 ls []) := by
  obtain ⟨⟨hx, hb, hr, hml, hown, hts, hX, hbl, hlocks, hgv⟩, hK, hN⟩ := id hC
  have hbA : ¬ lw_A s b := Nat.not_le.mpr hbl
  have hS := hD.2.2
  refine lv_aload_n hx hb dL_law_148 rfl (lv_at hl 2 rfl) ?_
  refine lv_aload_n hx hb dL_law_149 rfl (lv_at hl 3 rfl) ?_
  refine lv_iload_n hx hb dL_law_150 rfl (lv_at hl 0 rfl) ?_
  refine lv_iconst (v := 1) hx hb dL_law_151 (by decide) ?_
  refine lv_iadd hx hb dL_law_152 ?_
  refine va_sld hx hb hX hbl hbA hS (vp_in_nI (n := 1) (N := 3) (by omega) (by omega)) dL_law_153 ?_
  refine lw_cv (mj := mX10_beds) (k := 13) (kb := 0) (as := [.int (xs 1)]) (rest := []) (by exact okX10_beds) hC hD hl.1 dL_law_154 (by decide +kernel) (by exact arX10_beds) (P_beds (d := 30) (xs 1) hX0 (by omega)) rfl rfl rfl (by omega) (Nat.le_of_ble_eq_true rfl) ⟨by omega, by omega⟩ (fun r sg' mu' nu' al' H' locs' hQ hal hn hD' => ?_)
  obtain ⟨rfl, ⟨i0, i1, ex, rfl⟩, hf⟩ := hQ
  have hl : lv_has ls 4 [(3, .int 0), (2, .ref (al' 19)), (1, .ref (al' 0)), (0, .ref b)] := by
    rw [hal 19 (Nat.le_of_ble_eq_true rfl), hal 0 (Nat.le_of_ble_eq_true rfl)]
    exact hl
  have hM : MA z0 mu' := hM.same (fun j hj => by rw [hf 19 (by omega) (by omega)]) (fun k h1 h2 => hf k (by omega) (by omega)) (hf 38 (by omega) (by omega)) (hf 39 (by omega) (by omega))
  have hS := hD'.2.2
  refine lv_aload_n hx hb dL_law_157 rfl (lv_at hl 1 rfl) ?_
  refine lv_aload_n hx hb dL_law_158 rfl (lv_at hl 3 rfl) ?_
  refine lv_iload_n hx hb dL_law_159 rfl (lv_at hl 0 rfl) ?_
  refine lv_iconst (v := 1) hx hb dL_law_160 (by decide) ?_
  refine lv_iadd hx hb dL_law_161 ?_
  refine va_sld hx hb hX hbl hbA hS (vp_in_nI (n := 1) (N := 3) (by omega) (by omega)) dL_law_162 ?_
  refine lw_cv (mj := mX11_beds) (k := 17) (kb := 19) (as := [.int (xs 1)]) (rest := [.int (sp_beds z0 (xs 1)).1]) (by exact okX11_beds) hC hD' hl.1 dL_law_163 (by decide +kernel) (by exact arX11_beds) (M_beds (d := 30) (z := z0) (xs 1) hM (by omega)) rfl rfl rfl (by omega) (Nat.le_of_ble_eq_true rfl) ⟨by omega, by omega⟩ (fun r2 sg2 mu2 nu2 al2 H2 locs2 hQ2 hal2 hn2 hD2 => ?_)
  obtain ⟨rfl, rfl, -, -⟩ := hQ2
  have hl : lv_has ls 4 [(3, .int 0), (2, .ref (al2 19)), (1, .ref (al2 0)), (0, .ref b)] := by
    rw [hal2 19 (Nat.le_of_ble_eq_true rfl), hal2 0 (Nat.le_of_ble_eq_true rfl)]
    exact hl
  show W _ _ _ _ _ _ _ _ _ _ _ _ _ _ _ (F0 m 166 ls [.int (sp_beds z0 (xs 1)).1, .int (sp_beds z0 (xs 1)).1])
  refine lv_icmp_eq (tgt := 715) hx hb dL_law_166 (by decide) (fun q => ?_) (fun q => absurd rfl q)
  exact law_next hC hD2.2.2 hl (by omega) (by omega)
-- colour
set_option maxRecDepth 100000 in
set_option maxHeartbeats 2000000 in
theorem law_c1 (hC : lw_C cx p s m meth c b 3 xs) (hD : lw_D cx s al H locs (sh_ none none []) mu nu) (hl : lv_has ls 4 [(3, .int 0), (2, .ref (al 19)), (1, .ref (al 0)), (0, .ref b)]) (hX0 : X0 mu) (hM : MA z0 mu) (hc : cells ≤ 1000) (hs : slots ≤ 1000000) : W p cx.1 e room_1 s m #[Value.ref b] below meth c H locs cells slots (lw_Z below #[Value.ref b] s) (F0 m 171 ls []) := by
  obtain ⟨⟨hx, hb, hr, hml, hown, hts, hX, hbl, hlocks, hgv⟩, hK, hN⟩ := id hC
  have hbA : ¬ lw_A s b := Nat.not_le.mpr hbl
  have hS := hD.2.2
  refine lv_aload_n hx hb dL_law_171 rfl (lv_at hl 2 rfl) ?_
  refine lv_aload_n hx hb dL_law_172 rfl (lv_at hl 3 rfl) ?_
  refine lv_iload_n hx hb dL_law_173 rfl (lv_at hl 0 rfl) ?_
  refine lv_iconst (v := 1) hx hb dL_law_174 (by decide) ?_
  refine lv_iadd hx hb dL_law_175 ?_
  refine va_sld hx hb hX hbl hbA hS (vp_in_nI (n := 1) (N := 3) (by omega) (by omega)) dL_law_176 ?_
  refine lv_aload_n hx hb dL_law_177 rfl (lv_at hl 3 rfl) ?_
  refine lv_iload_n hx hb dL_law_178 rfl (lv_at hl 0 rfl) ?_
  refine lv_iconst (v := 2) hx hb dL_law_179 (by decide) ?_
  refine lv_iadd hx hb dL_law_180 ?_
  refine va_sld hx hb hX hbl hbA hS (vp_in_nI (n := 2) (N := 3) (by omega) (by omega)) dL_law_181 ?_
  refine lw_cv (mj := mX10_colour) (k := 18) (kb := 0) (as := [.int (xs 1), .int (xs 2)]) (rest := []) (by exact okX10_colour) hC hD hl.1 dL_law_182 (by decide +kernel) (by exact arX10_colour) (P_colour (d := 30) (xs 1) (xs 2) hX0 (by omega)) rfl rfl rfl (by omega) (Nat.le_of_ble_eq_true rfl) ⟨by omega, by omega⟩ (fun r sg' mu' nu' al' H' locs' hQ hal hn hD' => ?_)
  obtain ⟨rfl, ⟨i0, i1, ex, rfl⟩, hf⟩ := hQ
  have hl : lv_has ls 4 [(3, .int 0), (2, .ref (al' 19)), (1, .ref (al' 0)), (0, .ref b)] := by
    rw [hal 19 (Nat.le_of_ble_eq_true rfl), hal 0 (Nat.le_of_ble_eq_true rfl)]
    exact hl
  have hM : MA z0 mu' := hM.same (fun j hj => by rw [hf 19 (by omega) (by omega)]) (fun k h1 h2 => hf k (by omega) (by omega)) (hf 38 (by omega) (by omega)) (hf 39 (by omega) (by omega))
  have hS := hD'.2.2
  refine lv_aload_n hx hb dL_law_185 rfl (lv_at hl 1 rfl) ?_
  refine lv_aload_n hx hb dL_law_186 rfl (lv_at hl 3 rfl) ?_
  refine lv_iload_n hx hb dL_law_187 rfl (lv_at hl 0 rfl) ?_
  refine lv_iconst (v := 1) hx hb dL_law_188 (by decide) ?_
  refine lv_iadd hx hb dL_law_189 ?_
  refine va_sld hx hb hX hbl hbA hS (vp_in_nI (n := 1) (N := 3) (by omega) (by omega)) dL_law_190 ?_
  refine lv_aload_n hx hb dL_law_191 rfl (lv_at hl 3 rfl) ?_
  refine lv_iload_n hx hb dL_law_192 rfl (lv_at hl 0 rfl) ?_
  refine lv_iconst (v := 2) hx hb dL_law_193 (by decide) ?_
  refine lv_iadd hx hb dL_law_194 ?_
  refine va_sld hx hb hX hbl hbA hS (vp_in_nI (n := 2) (N := 3) (by omega) (by omega)) dL_law_195 ?_
  refine lw_cv (mj := mX11_colour) (k := 22) (kb := 19) (as := [.int (xs 1), .int (xs 2)]) (rest := [.int (sp_colour z0 (xs 1) (xs 2)).1]) (by exact okX11_colour) hC hD' hl.1 dL_law_196 (by decide +kernel) (by exact arX11_colour) (M_colour (d := 30) (z := z0) (xs 1) (xs 2) z0_OK hM (by omega)) rfl rfl rfl (by omega) (Nat.le_of_ble_eq_true rfl) ⟨by omega, by omega⟩ (fun r2 sg2 mu2 nu2 al2 H2 locs2 hQ2 hal2 hn2 hD2 => ?_)
  obtain ⟨rfl, rfl, -, -⟩ := hQ2
  have hl : lv_has ls 4 [(3, .int 0), (2, .ref (al2 19)), (1, .ref (al2 0)), (0, .ref b)] := by
    rw [hal2 19 (Nat.le_of_ble_eq_true rfl), hal2 0 (Nat.le_of_ble_eq_true rfl)]
    exact hl
  show W _ _ _ _ _ _ _ _ _ _ _ _ _ _ _ (F0 m 199 ls [.int (sp_colour z0 (xs 1) (xs 2)).1, .int (sp_colour z0 (xs 1) (xs 2)).1])
  refine lv_icmp_eq (tgt := 715) hx hb dL_law_199 (by decide) (fun q => ?_) (fun q => absurd rfl q)
  exact law_next hC hD2.2.2 hl (by omega) (by omega)
-- past
set_option maxRecDepth 100000 in
set_option maxHeartbeats 2000000 in
theorem law_c2 (hC : lw_C cx p s m meth c b 3 xs) (hD : lw_D cx s al H locs (sh_ none none []) mu nu) (hl : lv_has ls 4 [(3, .int 0), (2, .ref (al 19)), (1, .ref (al 0)), (0, .ref b)]) (hX0 : X0 mu) (hM : MA z0 mu) (hc : cells ≤ 1000) (hs : slots ≤ 1000000) : W p cx.1 e room_1 s m #[Value.ref b] below meth c H locs cells slots (lw_Z below #[Value.ref b] s) (F0 m 204 ls []) := by
  obtain ⟨⟨hx, hb, hr, hml, hown, hts, hX, hbl, hlocks, hgv⟩, hK, hN⟩ := id hC
  have hbA : ¬ lw_A s b := Nat.not_le.mpr hbl
  have hS := hD.2.2
  refine lv_aload_n hx hb dL_law_204 rfl (lv_at hl 2 rfl) ?_
  refine lv_aload_n hx hb dL_law_205 rfl (lv_at hl 3 rfl) ?_
  refine lv_iload_n hx hb dL_law_206 rfl (lv_at hl 0 rfl) ?_
  refine lv_iconst (v := 1) hx hb dL_law_207 (by decide) ?_
  refine lv_iadd hx hb dL_law_208 ?_
  refine va_sld hx hb hX hbl hbA hS (vp_in_nI (n := 1) (N := 3) (by omega) (by omega)) dL_law_209 ?_
  refine lv_aload_n hx hb dL_law_210 rfl (lv_at hl 3 rfl) ?_
  refine lv_iload_n hx hb dL_law_211 rfl (lv_at hl 0 rfl) ?_
  refine lv_iconst (v := 2) hx hb dL_law_212 (by decide) ?_
  refine lv_iadd hx hb dL_law_213 ?_
  refine va_sld hx hb hX hbl hbA hS (vp_in_nI (n := 2) (N := 3) (by omega) (by omega)) dL_law_214 ?_
  refine lw_cv (mj := mX10_past) (k := 23) (kb := 0) (as := [.int (xs 1), .int (xs 2)]) (rest := []) (by exact okX10_past) hC hD hl.1 dL_law_215 (by decide +kernel) (by exact arX10_past) (P_past (d := 30) (xs 1) (xs 2) hX0 (by omega)) rfl rfl rfl (by omega) (Nat.le_of_ble_eq_true rfl) ⟨by omega, by omega⟩ (fun r sg' mu' nu' al' H' locs' hQ hal hn hD' => ?_)
  obtain ⟨rfl, ⟨i0, i1, ex, rfl⟩, hf⟩ := hQ
  have hl : lv_has ls 4 [(3, .int 0), (2, .ref (al' 19)), (1, .ref (al' 0)), (0, .ref b)] := by
    rw [hal 19 (Nat.le_of_ble_eq_true rfl), hal 0 (Nat.le_of_ble_eq_true rfl)]
    exact hl
  have hM : MA z0 mu' := hM.same (fun j hj => by rw [hf 19 (by omega) (by omega)]) (fun k h1 h2 => hf k (by omega) (by omega)) (hf 38 (by omega) (by omega)) (hf 39 (by omega) (by omega))
  have hS := hD'.2.2
  refine lv_aload_n hx hb dL_law_218 rfl (lv_at hl 1 rfl) ?_
  refine lv_aload_n hx hb dL_law_219 rfl (lv_at hl 3 rfl) ?_
  refine lv_iload_n hx hb dL_law_220 rfl (lv_at hl 0 rfl) ?_
  refine lv_iconst (v := 1) hx hb dL_law_221 (by decide) ?_
  refine lv_iadd hx hb dL_law_222 ?_
  refine va_sld hx hb hX hbl hbA hS (vp_in_nI (n := 1) (N := 3) (by omega) (by omega)) dL_law_223 ?_
  refine lv_aload_n hx hb dL_law_224 rfl (lv_at hl 3 rfl) ?_
  refine lv_iload_n hx hb dL_law_225 rfl (lv_at hl 0 rfl) ?_
  refine lv_iconst (v := 2) hx hb dL_law_226 (by decide) ?_
  refine lv_iadd hx hb dL_law_227 ?_
  refine va_sld hx hb hX hbl hbA hS (vp_in_nI (n := 2) (N := 3) (by omega) (by omega)) dL_law_228 ?_
  refine lw_cv (mj := mX11_past) (k := 26) (kb := 19) (as := [.int (xs 1), .int (xs 2)]) (rest := [.int (sp_past z0 (xs 1) (xs 2)).1]) (by exact okX11_past) hC hD' hl.1 dL_law_229 (by decide +kernel) (by exact arX11_past) (M_past (d := 30) (z := z0) (xs 1) (xs 2) z0_OK hM (by omega)) rfl rfl rfl (by omega) (Nat.le_of_ble_eq_true rfl) ⟨by omega, by omega⟩ (fun r2 sg2 mu2 nu2 al2 H2 locs2 hQ2 hal2 hn2 hD2 => ?_)
  obtain ⟨rfl, rfl, -, -⟩ := hQ2
  have hl : lv_has ls 4 [(3, .int 0), (2, .ref (al2 19)), (1, .ref (al2 0)), (0, .ref b)] := by
    rw [hal2 19 (Nat.le_of_ble_eq_true rfl), hal2 0 (Nat.le_of_ble_eq_true rfl)]
    exact hl
  show W _ _ _ _ _ _ _ _ _ _ _ _ _ _ _ (F0 m 232 ls [.int (sp_past z0 (xs 1) (xs 2)).1, .int (sp_past z0 (xs 1) (xs 2)).1])
  refine lv_icmp_eq (tgt := 715) hx hb dL_law_232 (by decide) (fun q => ?_) (fun q => absurd rfl q)
  exact law_next hC hD2.2.2 hl (by omega) (by omega)
-- set
set_option maxRecDepth 100000 in
set_option maxHeartbeats 2000000 in
theorem law_c3 (hC : lw_C cx p s m meth c b 3 xs) (hD : lw_D cx s al H locs (sh_ none none []) mu nu) (hl : lv_has ls 4 [(3, .int 0), (2, .ref (al 19)), (1, .ref (al 0)), (0, .ref b)]) (hX0 : X0 mu) (hM : MA z0 mu) (hc : cells ≤ 1000) (hs : slots ≤ 1000000) : W p cx.1 e room_1 s m #[Value.ref b] below meth c H locs cells slots (lw_Z below #[Value.ref b] s) (F0 m 237 ls []) := by
  obtain ⟨⟨hx, hb, hr, hml, hown, hts, hX, hbl, hlocks, hgv⟩, hK, hN⟩ := id hC
  have hbA : ¬ lw_A s b := Nat.not_le.mpr hbl
  have hS := hD.2.2
  refine lv_aload_n hx hb dL_law_237 rfl (lv_at hl 2 rfl) ?_
  refine lv_aload_n hx hb dL_law_238 rfl (lv_at hl 3 rfl) ?_
  refine lv_iload_n hx hb dL_law_239 rfl (lv_at hl 0 rfl) ?_
  refine lv_iconst (v := 1) hx hb dL_law_240 (by decide) ?_
  refine lv_iadd hx hb dL_law_241 ?_
  refine va_sld hx hb hX hbl hbA hS (vp_in_nI (n := 1) (N := 3) (by omega) (by omega)) dL_law_242 ?_
  refine lv_aload_n hx hb dL_law_243 rfl (lv_at hl 3 rfl) ?_
  refine lv_iload_n hx hb dL_law_244 rfl (lv_at hl 0 rfl) ?_
  refine lv_iconst (v := 2) hx hb dL_law_245 (by decide) ?_
  refine lv_iadd hx hb dL_law_246 ?_
  refine va_sld hx hb hX hbl hbA hS (vp_in_nI (n := 2) (N := 3) (by omega) (by omega)) dL_law_247 ?_
  refine lw_cv (mj := mX10_set) (k := 27) (kb := 0) (as := [.int (xs 1), .int (xs 2)]) (rest := []) (by exact okX10_set) hC hD hl.1 dL_law_248 (by decide +kernel) (by exact arX10_set) (P_set (d := 30) (xs 1) (xs 2) hX0 (by omega)) rfl rfl rfl (by omega) (Nat.le_of_ble_eq_true rfl) ⟨by omega, by omega⟩ (fun r sg' mu' nu' al' H' locs' hQ hal hn hD' => ?_)
  obtain ⟨rfl, ⟨i0, i1, ex, rfl⟩, hf⟩ := hQ
  have hl : lv_has ls 4 [(3, .int 0), (2, .ref (al' 19)), (1, .ref (al' 0)), (0, .ref b)] := by
    rw [hal 19 (Nat.le_of_ble_eq_true rfl), hal 0 (Nat.le_of_ble_eq_true rfl)]
    exact hl
  have hM : MA z0 mu' := hM.same (fun j hj => by rw [hf 19 (by omega) (by omega)]) (fun k h1 h2 => hf k (by omega) (by omega)) (hf 38 (by omega) (by omega)) (hf 39 (by omega) (by omega))
  have hS := hD'.2.2
  refine lv_aload_n hx hb dL_law_251 rfl (lv_at hl 1 rfl) ?_
  refine lv_aload_n hx hb dL_law_252 rfl (lv_at hl 3 rfl) ?_
  refine lv_iload_n hx hb dL_law_253 rfl (lv_at hl 0 rfl) ?_
  refine lv_iconst (v := 1) hx hb dL_law_254 (by decide) ?_
  refine lv_iadd hx hb dL_law_255 ?_
  refine va_sld hx hb hX hbl hbA hS (vp_in_nI (n := 1) (N := 3) (by omega) (by omega)) dL_law_256 ?_
  refine lv_aload_n hx hb dL_law_257 rfl (lv_at hl 3 rfl) ?_
  refine lv_iload_n hx hb dL_law_258 rfl (lv_at hl 0 rfl) ?_
  refine lv_iconst (v := 2) hx hb dL_law_259 (by decide) ?_
  refine lv_iadd hx hb dL_law_260 ?_
  refine va_sld hx hb hX hbl hbA hS (vp_in_nI (n := 2) (N := 3) (by omega) (by omega)) dL_law_261 ?_
  refine lw_cv (mj := mX11_set) (k := 30) (kb := 19) (as := [.int (xs 1), .int (xs 2)]) (rest := [.int (sp_set z0 (xs 1) (xs 2)).1]) (by exact okX11_set) hC hD' hl.1 dL_law_262 (by decide +kernel) (by exact arX11_set) (M_set (d := 30) (z := z0) (xs 1) (xs 2) hM (by omega)) rfl rfl rfl (by omega) (Nat.le_of_ble_eq_true rfl) ⟨by omega, by omega⟩ (fun r2 sg2 mu2 nu2 al2 H2 locs2 hQ2 hal2 hn2 hD2 => ?_)
  obtain ⟨rfl, rfl, -, -⟩ := hQ2
  have hl : lv_has ls 4 [(3, .int 0), (2, .ref (al2 19)), (1, .ref (al2 0)), (0, .ref b)] := by
    rw [hal2 19 (Nat.le_of_ble_eq_true rfl), hal2 0 (Nat.le_of_ble_eq_true rfl)]
    exact hl
  show W _ _ _ _ _ _ _ _ _ _ _ _ _ _ _ (F0 m 265 ls [.int (sp_set z0 (xs 1) (xs 2)).1, .int (sp_set z0 (xs 1) (xs 2)).1])
  refine lv_icmp_eq (tgt := 715) hx hb dL_law_265 (by decide) (fun q => ?_) (fun q => absurd rfl q)
  exact law_next hC hD2.2.2 hl (by omega) (by omega)
-- say
set_option maxRecDepth 100000 in
set_option maxHeartbeats 2000000 in
theorem law_c4 (hC : lw_C cx p s m meth c b 3 xs) (hD : lw_D cx s al H locs (sh_ none none []) mu nu) (hl : lv_has ls 4 [(3, .int 0), (2, .ref (al 19)), (1, .ref (al 0)), (0, .ref b)]) (hX0 : X0 mu) (hM : MA z0 mu) (hc : cells ≤ 1000) (hs : slots ≤ 1000000) : W p cx.1 e room_1 s m #[Value.ref b] below meth c H locs cells slots (lw_Z below #[Value.ref b] s) (F0 m 270 ls []) := by
  obtain ⟨⟨hx, hb, hr, hml, hown, hts, hX, hbl, hlocks, hgv⟩, hK, hN⟩ := id hC
  have hbA : ¬ lw_A s b := Nat.not_le.mpr hbl
  have hS := hD.2.2
  refine lv_aload_n hx hb dL_law_270 rfl (lv_at hl 2 rfl) ?_
  refine lv_aload_n hx hb dL_law_271 rfl (lv_at hl 3 rfl) ?_
  refine lv_iload_n hx hb dL_law_272 rfl (lv_at hl 0 rfl) ?_
  refine lv_iconst (v := 1) hx hb dL_law_273 (by decide) ?_
  refine lv_iadd hx hb dL_law_274 ?_
  refine va_sld hx hb hX hbl hbA hS (vp_in_nI (n := 1) (N := 3) (by omega) (by omega)) dL_law_275 ?_
  refine lw_cv (mj := mX10_say) (k := 31) (kb := 0) (as := [.int (xs 1)]) (rest := []) (by exact okX10_say) hC hD hl.1 dL_law_276 (by decide +kernel) (by exact arX10_say) (P_say (d := 30) (xs 1) hX0 (by omega)) rfl rfl rfl (by omega) (Nat.le_of_ble_eq_true rfl) ⟨by omega, by omega⟩ (fun r sg' mu' nu' al' H' locs' hQ hal hn hD' => ?_)
  obtain ⟨rfl, ⟨i0, i1, ex, rfl⟩, hf⟩ := hQ
  have hl : lv_has ls 4 [(3, .int 0), (2, .ref (al' 19)), (1, .ref (al' 0)), (0, .ref b)] := by
    rw [hal 19 (Nat.le_of_ble_eq_true rfl), hal 0 (Nat.le_of_ble_eq_true rfl)]
    exact hl
  have hM : MA z0 mu' := hM.same (fun j hj => by rw [hf 19 (by omega) (by omega)]) (fun k h1 h2 => hf k (by omega) (by omega)) (hf 38 (by omega) (by omega)) (hf 39 (by omega) (by omega))
  have hS := hD'.2.2
  refine lv_aload_n hx hb dL_law_279 rfl (lv_at hl 1 rfl) ?_
  refine lv_aload_n hx hb dL_law_280 rfl (lv_at hl 3 rfl) ?_
  refine lv_iload_n hx hb dL_law_281 rfl (lv_at hl 0 rfl) ?_
  refine lv_iconst (v := 1) hx hb dL_law_282 (by decide) ?_
  refine lv_iadd hx hb dL_law_283 ?_
  refine va_sld hx hb hX hbl hbA hS (vp_in_nI (n := 1) (N := 3) (by omega) (by omega)) dL_law_284 ?_
  refine lw_cv (mj := mX11_say) (k := 34) (kb := 19) (as := [.int (xs 1)]) (rest := [.int (sp_say z0 (xs 1)).1]) (by exact okX11_say) hC hD' hl.1 dL_law_285 (by decide +kernel) (by exact arX11_say) (M_say (d := 30) (z := z0) (xs 1) z0_OK hM (by omega)) rfl rfl rfl (by omega) (Nat.le_of_ble_eq_true rfl) ⟨by omega, by omega⟩ (fun r2 sg2 mu2 nu2 al2 H2 locs2 hQ2 hal2 hn2 hD2 => ?_)
  obtain ⟨rfl, rfl, -, -⟩ := hQ2
  have hl : lv_has ls 4 [(3, .int 0), (2, .ref (al2 19)), (1, .ref (al2 0)), (0, .ref b)] := by
    rw [hal2 19 (Nat.le_of_ble_eq_true rfl), hal2 0 (Nat.le_of_ble_eq_true rfl)]
    exact hl
  show W _ _ _ _ _ _ _ _ _ _ _ _ _ _ _ (F0 m 288 ls [.int (sp_say z0 (xs 1)).1, .int (sp_say z0 (xs 1)).1])
  refine lv_icmp_eq (tgt := 715) hx hb dL_law_288 (by decide) (fun q => ?_) (fun q => absurd rfl q)
  exact law_next hC hD2.2.2 hl (by omega) (by omega)
-- wipe
set_option maxRecDepth 100000 in
set_option maxHeartbeats 2000000 in
theorem law_c5 (hC : lw_C cx p s m meth c b 3 xs) (hD : lw_D cx s al H locs (sh_ none none []) mu nu) (hl : lv_has ls 4 [(3, .int 0), (2, .ref (al 19)), (1, .ref (al 0)), (0, .ref b)]) (hX0 : X0 mu) (hM : MA z0 mu) (hc : cells ≤ 1000) (hs : slots ≤ 1000000) : W p cx.1 e room_1 s m #[Value.ref b] below meth c H locs cells slots (lw_Z below #[Value.ref b] s) (F0 m 293 ls []) := by
  obtain ⟨⟨hx, hb, hr, hml, hown, hts, hX, hbl, hlocks, hgv⟩, hK, hN⟩ := id hC
  have hbA : ¬ lw_A s b := Nat.not_le.mpr hbl
  have hS := hD.2.2
  refine lv_aload_n hx hb dL_law_293 rfl (lv_at hl 2 rfl) ?_
  refine lw_cv (mj := mX10_wipe) (k := 35) (kb := 0) (as := []) (rest := []) (by exact okX10_wipe) hC hD hl.1 dL_law_294 (by decide +kernel) (by exact arX10_wipe) (P_wipe (d := 30) hX0 (by omega)) rfl rfl rfl (by omega) (Nat.le_of_ble_eq_true rfl) ⟨by omega, by omega⟩ (fun r sg' mu' nu' al' H' locs' hQ hal hn hD' => ?_)
  obtain ⟨rfl, ⟨i0, i1, ex, rfl⟩, hf⟩ := hQ
  have hl : lv_has ls 4 [(3, .int 0), (2, .ref (al' 19)), (1, .ref (al' 0)), (0, .ref b)] := by
    rw [hal 19 (Nat.le_of_ble_eq_true rfl), hal 0 (Nat.le_of_ble_eq_true rfl)]
    exact hl
  have hM : MA z0 mu' := hM.same (fun j hj => by rw [hf 19 (by omega) (by omega)]) (fun k h1 h2 => hf k (by omega) (by omega)) (hf 38 (by omega) (by omega)) (hf 39 (by omega) (by omega))
  have hS := hD'.2.2
  refine lv_aload_n hx hb dL_law_297 rfl (lv_at hl 1 rfl) ?_
  refine lw_cv (mj := mX11_wipe) (k := 39) (kb := 19) (as := []) (rest := [.int (nI z0.2.1.length)]) (by exact okX11_wipe) hC hD' hl.1 dL_law_298 (by decide +kernel) (by exact arX11_wipe) (M_wipe (d := 30) (z := z0) hM) rfl rfl rfl (by omega) (Nat.le_of_ble_eq_true rfl) ⟨by omega, by omega⟩ (fun r2 sg2 mu2 nu2 al2 H2 locs2 hQ2 hal2 hn2 hD2 => ?_)
  obtain ⟨rfl, rfl, -, -⟩ := hQ2
  have hl : lv_has ls 4 [(3, .int 0), (2, .ref (al2 19)), (1, .ref (al2 0)), (0, .ref b)] := by
    rw [hal2 19 (Nat.le_of_ble_eq_true rfl), hal2 0 (Nat.le_of_ble_eq_true rfl)]
    exact hl
  show W _ _ _ _ _ _ _ _ _ _ _ _ _ _ _ (F0 m 301 ls [.int (nI z0.2.1.length), .int (nI z0.2.1.length)])
  refine lv_icmp_eq (tgt := 715) hx hb dL_law_301 (by decide) (fun q => ?_) (fun q => absurd rfl q)
  exact law_next hC hD2.2.2 hl (by omega) (by omega)
-- fault
set_option maxRecDepth 100000 in
set_option maxHeartbeats 2000000 in
theorem law_c6 (hC : lw_C cx p s m meth c b 3 xs) (hD : lw_D cx s al H locs (sh_ none none []) mu nu) (hl : lv_has ls 4 [(3, .int 0), (2, .ref (al 19)), (1, .ref (al 0)), (0, .ref b)]) (hX0 : X0 mu) (hM : MA z0 mu) (hc : cells ≤ 1000) (hs : slots ≤ 1000000) : W p cx.1 e room_1 s m #[Value.ref b] below meth c H locs cells slots (lw_Z below #[Value.ref b] s) (F0 m 306 ls []) := by
  obtain ⟨⟨hx, hb, hr, hml, hown, hts, hX, hbl, hlocks, hgv⟩, hK, hN⟩ := id hC
  have hbA : ¬ lw_A s b := Nat.not_le.mpr hbl
  have hS := hD.2.2
  refine lv_aload_n hx hb dL_law_306 rfl (lv_at hl 2 rfl) ?_
  refine lv_aload_n hx hb dL_law_307 rfl (lv_at hl 3 rfl) ?_
  refine lv_iload_n hx hb dL_law_308 rfl (lv_at hl 0 rfl) ?_
  refine lv_iconst (v := 1) hx hb dL_law_309 (by decide) ?_
  refine lv_iadd hx hb dL_law_310 ?_
  refine va_sld hx hb hX hbl hbA hS (vp_in_nI (n := 1) (N := 3) (by omega) (by omega)) dL_law_311 ?_
  refine lw_cv (mj := mX10_fault) (k := 40) (kb := 0) (as := [.int (xs 1)]) (rest := []) (by exact okX10_fault) hC hD hl.1 dL_law_312 (by decide +kernel) (by exact arX10_fault) (P_fault (d := 30) (xs 1) hX0 (by omega)) rfl rfl rfl (by omega) (Nat.le_of_ble_eq_true rfl) ⟨by omega, by omega⟩ (fun r sg' mu' nu' al' H' locs' hQ hal hn hD' => ?_)
  obtain ⟨rfl, ⟨i0, i1, ex, rfl⟩, hf⟩ := hQ
  have hl : lv_has ls 4 [(3, .int 0), (2, .ref (al' 19)), (1, .ref (al' 0)), (0, .ref b)] := by
    rw [hal 19 (Nat.le_of_ble_eq_true rfl), hal 0 (Nat.le_of_ble_eq_true rfl)]
    exact hl
  have hM : MA z0 mu' := hM.same (fun j hj => by rw [hf 19 (by omega) (by omega)]) (fun k h1 h2 => hf k (by omega) (by omega)) (hf 38 (by omega) (by omega)) (hf 39 (by omega) (by omega))
  have hS := hD'.2.2
  refine lv_aload_n hx hb dL_law_315 rfl (lv_at hl 1 rfl) ?_
  refine lv_aload_n hx hb dL_law_316 rfl (lv_at hl 3 rfl) ?_
  refine lv_iload_n hx hb dL_law_317 rfl (lv_at hl 0 rfl) ?_
  refine lv_iconst (v := 1) hx hb dL_law_318 (by decide) ?_
  refine lv_iadd hx hb dL_law_319 ?_
  refine va_sld hx hb hX hbl hbA hS (vp_in_nI (n := 1) (N := 3) (by omega) (by omega)) dL_law_320 ?_
  refine lw_cv (mj := mX11_fault) (k := 43) (kb := 19) (as := [.int (xs 1)]) (rest := [.int (sp_fault z0 (xs 1))]) (by exact okX11_fault) hC hD' hl.1 dL_law_321 (by decide +kernel) (by exact arX11_fault) (M_fault (d := 30) (z := z0) (xs 1) z0_OK hM (by omega)) rfl rfl rfl (by omega) (Nat.le_of_ble_eq_true rfl) ⟨by omega, by omega⟩ (fun r2 sg2 mu2 nu2 al2 H2 locs2 hQ2 hal2 hn2 hD2 => ?_)
  obtain ⟨rfl, rfl, -, -⟩ := hQ2
  have hl : lv_has ls 4 [(3, .int 0), (2, .ref (al2 19)), (1, .ref (al2 0)), (0, .ref b)] := by
    rw [hal2 19 (Nat.le_of_ble_eq_true rfl), hal2 0 (Nat.le_of_ble_eq_true rfl)]
    exact hl
  show W _ _ _ _ _ _ _ _ _ _ _ _ _ _ _ (F0 m 324 ls [.int (sp_fault z0 (xs 1)), .int (sp_fault z0 (xs 1))])
  refine lv_icmp_eq (tgt := 715) hx hb dL_law_324 (by decide) (fun q => ?_) (fun q => absurd rfl q)
  exact law_next hC hD2.2.2 hl (by omega) (by omega)
-- judge
set_option maxRecDepth 100000 in
set_option maxHeartbeats 2000000 in
theorem law_c7 (hC : lw_C cx p s m meth c b 3 xs) (hD : lw_D cx s al H locs (sh_ none none []) mu nu) (hl : lv_has ls 4 [(3, .int 0), (2, .ref (al 19)), (1, .ref (al 0)), (0, .ref b)]) (hX0 : X0 mu) (hM : MA z0 mu) (hc : cells ≤ 1000) (hs : slots ≤ 1000000) : W p cx.1 e room_1 s m #[Value.ref b] below meth c H locs cells slots (lw_Z below #[Value.ref b] s) (F0 m 329 ls []) := by
  obtain ⟨⟨hx, hb, hr, hml, hown, hts, hX, hbl, hlocks, hgv⟩, hK, hN⟩ := id hC
  have hbA : ¬ lw_A s b := Nat.not_le.mpr hbl
  have hS := hD.2.2
  refine lv_aload_n hx hb dL_law_329 rfl (lv_at hl 2 rfl) ?_
  refine lv_aload_n hx hb dL_law_330 rfl (lv_at hl 3 rfl) ?_
  refine lv_iload_n hx hb dL_law_331 rfl (lv_at hl 0 rfl) ?_
  refine lv_iconst (v := 1) hx hb dL_law_332 (by decide) ?_
  refine lv_iadd hx hb dL_law_333 ?_
  refine va_sld hx hb hX hbl hbA hS (vp_in_nI (n := 1) (N := 3) (by omega) (by omega)) dL_law_334 ?_
  refine lw_cv (mj := mX10_judge) (k := 44) (kb := 0) (as := [.int (xs 1)]) (rest := []) (by exact okX10_judge) hC hD hl.1 dL_law_335 (by decide +kernel) (by exact arX10_judge) (P_judge (d := 30) (xs 1) hX0 (by omega)) rfl rfl rfl (by omega) (Nat.le_of_ble_eq_true rfl) ⟨by omega, by omega⟩ (fun r sg' mu' nu' al' H' locs' hQ hal hn hD' => ?_)
  obtain ⟨rfl, ⟨i0, i1, ex, rfl⟩, hf⟩ := hQ
  have hl : lv_has ls 4 [(3, .int 0), (2, .ref (al' 19)), (1, .ref (al' 0)), (0, .ref b)] := by
    rw [hal 19 (Nat.le_of_ble_eq_true rfl), hal 0 (Nat.le_of_ble_eq_true rfl)]
    exact hl
  have hM : MA z0 mu' := hM.same (fun j hj => by rw [hf 19 (by omega) (by omega)]) (fun k h1 h2 => hf k (by omega) (by omega)) (hf 38 (by omega) (by omega)) (hf 39 (by omega) (by omega))
  have hS := hD'.2.2
  refine lv_aload_n hx hb dL_law_338 rfl (lv_at hl 1 rfl) ?_
  refine lv_aload_n hx hb dL_law_339 rfl (lv_at hl 3 rfl) ?_
  refine lv_iload_n hx hb dL_law_340 rfl (lv_at hl 0 rfl) ?_
  refine lv_iconst (v := 1) hx hb dL_law_341 (by decide) ?_
  refine lv_iadd hx hb dL_law_342 ?_
  refine va_sld hx hb hX hbl hbA hS (vp_in_nI (n := 1) (N := 3) (by omega) (by omega)) dL_law_343 ?_
  refine lw_cv (mj := mX11_judge) (k := 47) (kb := 19) (as := [.int (xs 1)]) (rest := [.int (sp_judge z0 (xs 1))]) (by exact okX11_judge) hC hD' hl.1 dL_law_344 (by decide +kernel) (by exact arX11_judge) (M_judge (d := 30) (z := z0) (xs 1) z0_OK hM (by omega)) rfl rfl rfl (by omega) (Nat.le_of_ble_eq_true rfl) ⟨by omega, by omega⟩ (fun r2 sg2 mu2 nu2 al2 H2 locs2 hQ2 hal2 hn2 hD2 => ?_)
  obtain ⟨rfl, rfl, -, -⟩ := hQ2
  have hl : lv_has ls 4 [(3, .int 0), (2, .ref (al2 19)), (1, .ref (al2 0)), (0, .ref b)] := by
    rw [hal2 19 (Nat.le_of_ble_eq_true rfl), hal2 0 (Nat.le_of_ble_eq_true rfl)]
    exact hl
  show W _ _ _ _ _ _ _ _ _ _ _ _ _ _ _ (F0 m 347 ls [.int (sp_judge z0 (xs 1)), .int (sp_judge z0 (xs 1))])
  refine lv_icmp_eq (tgt := 715) hx hb dL_law_347 (by decide) (fun q => ?_) (fun q => absurd rfl q)
  exact law_next hC hD2.2.2 hl (by omega) (by omega)
-- week
set_option maxRecDepth 100000 in
set_option maxHeartbeats 2000000 in
theorem law_c8 (hC : lw_C cx p s m meth c b 3 xs) (hD : lw_D cx s al H locs (sh_ none none []) mu nu) (hl : lv_has ls 4 [(3, .int 0), (2, .ref (al 19)), (1, .ref (al 0)), (0, .ref b)]) (hX0 : X0 mu) (hM : MA z0 mu) (hc : cells ≤ 1000) (hs : slots ≤ 1000000) : W p cx.1 e room_1 s m #[Value.ref b] below meth c H locs cells slots (lw_Z below #[Value.ref b] s) (F0 m 352 ls []) := by
  obtain ⟨⟨hx, hb, hr, hml, hown, hts, hX, hbl, hlocks, hgv⟩, hK, hN⟩ := id hC
  have hbA : ¬ lw_A s b := Nat.not_le.mpr hbl
  have hS := hD.2.2
  refine lv_aload_n hx hb dL_law_352 rfl (lv_at hl 2 rfl) ?_
  refine lw_cv (mj := mX10_week) (k := 48) (kb := 0) (as := []) (rest := []) (by exact okX10_week) hC hD hl.1 dL_law_353 (by decide +kernel) (by exact arX10_week) (P_week (d := 30) hX0 (by omega)) rfl rfl rfl (by omega) (Nat.le_of_ble_eq_true rfl) ⟨by omega, by omega⟩ (fun r sg' mu' nu' al' H' locs' hQ hal hn hD' => ?_)
  obtain ⟨rfl, ⟨i0, i1, ex, rfl⟩, hf⟩ := hQ
  have hl : lv_has ls 4 [(3, .int 0), (2, .ref (al' 19)), (1, .ref (al' 0)), (0, .ref b)] := by
    rw [hal 19 (Nat.le_of_ble_eq_true rfl), hal 0 (Nat.le_of_ble_eq_true rfl)]
    exact hl
  have hM : MA z0 mu' := hM.same (fun j hj => by rw [hf 19 (by omega) (by omega)]) (fun k h1 h2 => hf k (by omega) (by omega)) (hf 38 (by omega) (by omega)) (hf 39 (by omega) (by omega))
  have hS := hD'.2.2
  refine lv_aload_n hx hb dL_law_356 rfl (lv_at hl 1 rfl) ?_
  refine lw_cv (mj := mX11_week) (k := 51) (kb := 19) (as := []) (rest := [.int (sp_week z0).1]) (by exact okX11_week) hC hD' hl.1 dL_law_357 (by decide +kernel) (by exact arX11_week) (M_week (d := 30) (z := z0) z0_OK hM (by omega)) rfl rfl rfl (by omega) (Nat.le_of_ble_eq_true rfl) ⟨by omega, by omega⟩ (fun r2 sg2 mu2 nu2 al2 H2 locs2 hQ2 hal2 hn2 hD2 => ?_)
  obtain ⟨rfl, rfl, -, -⟩ := hQ2
  have hl : lv_has ls 4 [(3, .int 0), (2, .ref (al2 19)), (1, .ref (al2 0)), (0, .ref b)] := by
    rw [hal2 19 (Nat.le_of_ble_eq_true rfl), hal2 0 (Nat.le_of_ble_eq_true rfl)]
    exact hl
  show W _ _ _ _ _ _ _ _ _ _ _ _ _ _ _ (F0 m 360 ls [.int (sp_week z0).1, .int (sp_week z0).1])
  refine lv_icmp_eq (tgt := 715) hx hb dL_law_360 (by decide) (fun q => ?_) (fun q => absurd rfl q)
  exact law_next hC hD2.2.2 hl (by omega) (by omega)
end
