theorem d_La_law_152 : decode code 152 = .ok (.aload_n 1, 1) := by decide +kernel
theorem d_La_law_153 : decode code 153 = .ok (.aload_n 0, 1) := by decide +kernel
theorem d_La_law_154 : decode code 154 = .ok (.iload_n 3, 1) := by decide +kernel
theorem d_La_law_155 : decode code 155 = .ok (.iconst 1, 1) := by decide +kernel
theorem d_La_law_156 : decode code 156 = .ok (.iadd, 1) := by decide +kernel
theorem d_La_law_157 : decode code 157 = .ok (.iaload, 1) := by decide +kernel
theorem d_La_law_158 : decode code 158 = .ok (.aload_n 0, 1) := by decide +kernel
theorem d_La_law_159 : decode code 159 = .ok (.iload_n 3, 1) := by decide +kernel
theorem d_La_law_160 : decode code 160 = .ok (.iconst 2, 1) := by decide +kernel
theorem d_La_law_161 : decode code 161 = .ok (.iadd, 1) := by decide +kernel
theorem d_La_law_162 : decode code 162 = .ok (.iaload, 1) := by decide +kernel
theorem d_La_law_163 : decode code 163 = .ok (.aload_n 0, 1) := by decide +kernel
theorem d_La_law_164 : decode code 164 = .ok (.iload_n 3, 1) := by decide +kernel
theorem d_La_law_165 : decode code 165 = .ok (.iconst 3, 1) := by decide +kernel
theorem d_La_law_166 : decode code 166 = .ok (.iadd, 1) := by decide +kernel
theorem d_La_law_167 : decode code 167 = .ok (.iaload, 1) := by decide +kernel
theorem d_La_law_168 : decode code 168 = .ok (.invokevirtual 21, 3) := by decide +kernel
theorem d_La_law_171 : decode code 171 = .ok (.aload_n 2, 1) := by decide +kernel
theorem d_La_law_172 : decode code 172 = .ok (.aload_n 0, 1) := by decide +kernel
theorem d_La_law_173 : decode code 173 = .ok (.iload_n 3, 1) := by decide +kernel
theorem d_La_law_174 : decode code 174 = .ok (.iconst 1, 1) := by decide +kernel
theorem d_La_law_175 : decode code 175 = .ok (.iadd, 1) := by decide +kernel
theorem d_La_law_176 : decode code 176 = .ok (.iaload, 1) := by decide +kernel
theorem d_La_law_177 : decode code 177 = .ok (.aload_n 0, 1) := by decide +kernel
theorem d_La_law_178 : decode code 178 = .ok (.iload_n 3, 1) := by decide +kernel
theorem d_La_law_179 : decode code 179 = .ok (.iconst 2, 1) := by decide +kernel
theorem d_La_law_180 : decode code 180 = .ok (.iadd, 1) := by decide +kernel
theorem d_La_law_181 : decode code 181 = .ok (.iaload, 1) := by decide +kernel
theorem d_La_law_182 : decode code 182 = .ok (.aload_n 0, 1) := by decide +kernel
theorem d_La_law_183 : decode code 183 = .ok (.iload_n 3, 1) := by decide +kernel
theorem d_La_law_184 : decode code 184 = .ok (.iconst 3, 1) := by decide +kernel
theorem d_La_law_185 : decode code 185 = .ok (.iadd, 1) := by decide +kernel
theorem d_La_law_186 : decode code 186 = .ok (.iaload, 1) := by decide +kernel
theorem d_La_law_187 : decode code 187 = .ok (.invokevirtual 25, 3) := by decide +kernel
theorem d_La_law_190 : decode code 190 = .ok (.if_icmp .eq (741), 3) := by decide +kernel
theorem d_La_law_193 : decode code 193 = .ok (.iconst 0, 1) := by decide +kernel
theorem d_La_law_194 : decode code 194 = .ok (.ireturn, 1) := by decide +kernel
set_option maxHeartbeats 4000000 in
set_option maxRecDepth 100000 in
theorem La_c0 {p : Program} {l : Launch} {e : Env} {s : State} {m : MethodId} {below : List Frame} {meth : Method} {c : Code} {b L : Nat} {xs : Nat → Int32} {dC : Nat → ClassId} {dI : Nat → Nat → Nat} {cI cJ cG cZ : ClassId} {a a' : Nat → Nat} {nc ns : Nat} {Rel : zw_Z → zw_Z → Prop} {k : Nat} (hL : L ≤ 2561) (C0 : lw_At p s m meth c b L xs) (hN : zw_N s) (hK : va_K (dC, dI) vwCl [(cI, .int), (cJ, .long), (cG, .array .int), (cZ, .boolean)] s) (hnc : nc ≤ 600000) (hns : ns ≤ 7302250) (hk : k + 5 ≤ L) (hst : st_part Rel) (hg : La_G p l e s m below meth c b dC dI cI cJ cG cZ a a' nc ns Rel 931 k) : La_G p l e s m below meth c b dC dI cI cJ cG cZ a a' nc ns Rel 152 k := by
  obtain ⟨hx, hb, hr, hml, hown0, hts0, hX, hbl, hlocks, hgv⟩ := id C0
  have hown : s.vm.findClass R_La = some m.cls := hown0
  have hA : ∀ q : Nat, s.heap.size ≤ q → (fun q : Nat => s.heap.size ≤ q) q := fun _ h => h
  have hbA : ¬ (fun q : Nat => s.heap.size ≤ q) b := Nat.not_le.mpr hbl
  have ht : ∀ w ∈ zw_tbl, w.before #[Value.ref b] s = true := fun w h => hts0 w (List.mem_filter.mp h).1
  have hts : ∀ w ∈ (Cond.initialized R_La :: zw_tbl), w.before #[Value.ref b] s = true := fun w h => (List.mem_cons.mp h).elim (fun q => q ▸ ht _ kw_0) (ht w)
  intro fi fl ai al gi gl bi bl H locs ls hR hPA hPB hD hS hl
  have h_1 : vp_in (nI k + (1 : Int32)) L := La_in (j := 1) (by omega) hL
  have h_2 : vp_in (nI k + (2 : Int32)) L := La_in (j := 2) (by omega) hL
  have h_3 : vp_in (nI k + (3 : Int32)) L := La_in (j := 3) (by omega) hL
  have hw := hst fi fl ai al gi gl bi bl (xs (nI k + (1 : Int32)).toNatClampNeg) (xs (nI k + (2 : Int32)).toNatClampNeg) (xs (nI k + (3 : Int32)).toNatClampNeg) hR
  refine lv_aload_n hx hb d_La_law_152 rfl (lv_at hl 1 rfl) ?_
  refine lv_aload_n hx hb d_La_law_153 rfl (lv_at hl 0 rfl) ?_
  refine lv_iload_n hx hb d_La_law_154 rfl (lv_at hl 3 rfl) ?_
  refine lv_iconst (v := (1 : Int32)) hx hb d_La_law_155 (by decide) ?_
  refine lv_iadd hx hb d_La_law_156 ?_
  refine va_sld hx hb hX hbl hbA hS h_1 d_La_law_157 ?_
  refine lv_aload_n hx hb d_La_law_158 rfl (lv_at hl 0 rfl) ?_
  refine lv_iload_n hx hb d_La_law_159 rfl (lv_at hl 3 rfl) ?_
  refine lv_iconst (v := (2 : Int32)) hx hb d_La_law_160 (by decide) ?_
  refine lv_iadd hx hb d_La_law_161 ?_
  refine va_sld hx hb hX hbl hbA hS h_2 d_La_law_162 ?_
  refine lv_aload_n hx hb d_La_law_163 rfl (lv_at hl 0 rfl) ?_
  refine lv_iload_n hx hb d_La_law_164 rfl (lv_at hl 3 rfl) ?_
  refine lv_iconst (v := (3 : Int32)) hx hb d_La_law_165 (by decide) ?_
  refine lv_iadd hx hb d_La_law_166 ?_
  refine va_sld hx hb hX hbl hbA hS h_3 d_La_law_167 ?_
  refine zw_lAi (va_runV (As := [.int (xs (nI k + (1 : Int32)).toNatClampNeg), .int (xs (nI k + (2 : Int32)).toNatClampNeg), .int (xs (nI k + (3 : Int32)).toNatClampNeg)]) (rest := []) ⟨hx, hb, hml, hown, hts⟩ (c_SS_part l dC dI cI cJ cG cZ a H.size fi fl ai al (xs (nI k + (1 : Int32)).toNatClampNeg) (xs (nI k + (2 : Int32)).toNatClampNeg) (xs (nI k + (3 : Int32)).toNatClampNeg) _ hw) (cwV 3 hts (zw_goodV kw_270 kw_271 kw_272 kw_1 kw_273) rfl rfl rfl hd_SS_part ⟨Nat.le_of_ble_eq_true rfl, Nat.le_of_ble_eq_true rfl⟩) (zw_preVw (ci := 0) (q0 := 0) hK hN hPA (zw_DL hD) rfl rfl) rfl rfl hl.1 rfl (lv_room (Nat.le_of_ble_eq_true rfl)) d_La_law_168 ⟨hnc, hns⟩) hPB hD hS hA (fun rA fi' fl' ai' al' H locs hw hPA hPB hD hS => ?_)
  obtain ⟨rfl, rfl, rfl, hw⟩ := hw
  refine lv_aload_n hx hb d_La_law_171 rfl (lv_at hl 2 rfl) ?_
  refine lv_aload_n hx hb d_La_law_172 rfl (lv_at hl 0 rfl) ?_
  refine lv_iload_n hx hb d_La_law_173 rfl (lv_at hl 3 rfl) ?_
  refine lv_iconst (v := (1 : Int32)) hx hb d_La_law_174 (by decide) ?_
  refine lv_iadd hx hb d_La_law_175 ?_
  refine va_sld hx hb hX hbl hbA hS h_1 d_La_law_176 ?_
  refine lv_aload_n hx hb d_La_law_177 rfl (lv_at hl 0 rfl) ?_
  refine lv_iload_n hx hb d_La_law_178 rfl (lv_at hl 3 rfl) ?_
  refine lv_iconst (v := (2 : Int32)) hx hb d_La_law_179 (by decide) ?_
  refine lv_iadd hx hb d_La_law_180 ?_
  refine va_sld hx hb hX hbl hbA hS h_2 d_La_law_181 ?_
  refine lv_aload_n hx hb d_La_law_182 rfl (lv_at hl 0 rfl) ?_
  refine lv_iload_n hx hb d_La_law_183 rfl (lv_at hl 3 rfl) ?_
  refine lv_iconst (v := (3 : Int32)) hx hb d_La_law_184 (by decide) ?_
  refine lv_iadd hx hb d_La_law_185 ?_
  refine va_sld hx hb hX hbl hbA hS h_3 d_La_law_186 ?_
  refine zw_lBi (va_runV (As := [.int (xs (nI k + (1 : Int32)).toNatClampNeg), .int (xs (nI k + (2 : Int32)).toNatClampNeg), .int (xs (nI k + (3 : Int32)).toNatClampNeg)]) (rest := [.int rA]) ⟨hx, hb, hml, hown, hts⟩ (c_Mo_part l dC dI cI cJ cG cZ a' H.size gi gl bi bl (xs (nI k + (1 : Int32)).toNatClampNeg) (xs (nI k + (2 : Int32)).toNatClampNeg) (xs (nI k + (3 : Int32)).toNatClampNeg) _ hw) (cwV 3 hts (zw_goodV kw_723 kw_724 kw_725 kw_9 kw_726) rfl rfl rfl hd_Mo_part ⟨Nat.le_of_ble_eq_true rfl, Nat.le_of_ble_eq_true rfl⟩) (zw_preVw (ci := 7) (q0 := 0) hK hN hPB (zw_DR hD) rfl rfl) rfl rfl hl.1 rfl (lv_room (Nat.le_of_ble_eq_true rfl)) d_La_law_187 ⟨hnc, hns⟩) hPA hD hS hA (fun rB gi' gl' bi' bl' H locs hw hPA hPB hD hS => ?_)
  obtain ⟨rfl, rfl, rfl, hw⟩ := hw
  obtain ⟨hEq, hR⟩ := hw
  refine lv_icmp_eq (tgt := 931) hx hb d_La_law_190 (by decide) (fun c9 => ?_) (fun c9 => absurd hEq c9)
  exact hg fi fl ai' al gi gl bi' bl H locs ls hR hPA hPB hD hS hl
theorem d_La_law_195 : decode code 195 = .ok (.aload_n 1, 1) := by decide +kernel
theorem d_La_law_196 : decode code 196 = .ok (.aload_n 0, 1) := by decide +kernel
theorem d_La_law_197 : decode code 197 = .ok (.iload_n 3, 1) := by decide +kernel
theorem d_La_law_198 : decode code 198 = .ok (.iconst 1, 1) := by decide +kernel
theorem d_La_law_199 : decode code 199 = .ok (.iadd, 1) := by decide +kernel
theorem d_La_law_200 : decode code 200 = .ok (.iaload, 1) := by decide +kernel
theorem d_La_law_201 : decode code 201 = .ok (.aload_n 0, 1) := by decide +kernel
theorem d_La_law_202 : decode code 202 = .ok (.iload_n 3, 1) := by decide +kernel
theorem d_La_law_203 : decode code 203 = .ok (.iconst 2, 1) := by decide +kernel
theorem d_La_law_204 : decode code 204 = .ok (.iadd, 1) := by decide +kernel
theorem d_La_law_205 : decode code 205 = .ok (.iaload, 1) := by decide +kernel
theorem d_La_law_206 : decode code 206 = .ok (.aload_n 0, 1) := by decide +kernel
theorem d_La_law_207 : decode code 207 = .ok (.iload_n 3, 1) := by decide +kernel
theorem d_La_law_208 : decode code 208 = .ok (.iconst 3, 1) := by decide +kernel
theorem d_La_law_209 : decode code 209 = .ok (.iadd, 1) := by decide +kernel
theorem d_La_law_210 : decode code 210 = .ok (.iaload, 1) := by decide +kernel
theorem d_La_law_211 : decode code 211 = .ok (.aload_n 0, 1) := by decide +kernel
theorem d_La_law_212 : decode code 212 = .ok (.iload_n 3, 1) := by decide +kernel
theorem d_La_law_213 : decode code 213 = .ok (.iconst 4, 1) := by decide +kernel
theorem d_La_law_214 : decode code 214 = .ok (.iadd, 1) := by decide +kernel
theorem d_La_law_215 : decode code 215 = .ok (.iaload, 1) := by decide +kernel
theorem d_La_law_216 : decode code 216 = .ok (.invokevirtual 26, 3) := by decide +kernel
theorem d_La_law_219 : decode code 219 = .ok (.aload_n 2, 1) := by decide +kernel
theorem d_La_law_220 : decode code 220 = .ok (.aload_n 0, 1) := by decide +kernel
theorem d_La_law_221 : decode code 221 = .ok (.iload_n 3, 1) := by decide +kernel
theorem d_La_law_222 : decode code 222 = .ok (.iconst 1, 1) := by decide +kernel
theorem d_La_law_223 : decode code 223 = .ok (.iadd, 1) := by decide +kernel
theorem d_La_law_224 : decode code 224 = .ok (.iaload, 1) := by decide +kernel
theorem d_La_law_225 : decode code 225 = .ok (.aload_n 0, 1) := by decide +kernel
theorem d_La_law_226 : decode code 226 = .ok (.iload_n 3, 1) := by decide +kernel
theorem d_La_law_227 : decode code 227 = .ok (.iconst 2, 1) := by decide +kernel
theorem d_La_law_228 : decode code 228 = .ok (.iadd, 1) := by decide +kernel
theorem d_La_law_229 : decode code 229 = .ok (.iaload, 1) := by decide +kernel
theorem d_La_law_230 : decode code 230 = .ok (.aload_n 0, 1) := by decide +kernel
theorem d_La_law_231 : decode code 231 = .ok (.iload_n 3, 1) := by decide +kernel
theorem d_La_law_232 : decode code 232 = .ok (.iconst 3, 1) := by decide +kernel
theorem d_La_law_233 : decode code 233 = .ok (.iadd, 1) := by decide +kernel
theorem d_La_law_234 : decode code 234 = .ok (.iaload, 1) := by decide +kernel
theorem d_La_law_235 : decode code 235 = .ok (.aload_n 0, 1) := by decide +kernel
theorem d_La_law_236 : decode code 236 = .ok (.iload_n 3, 1) := by decide +kernel
theorem d_La_law_237 : decode code 237 = .ok (.iconst 4, 1) := by decide +kernel
theorem d_La_law_238 : decode code 238 = .ok (.iadd, 1) := by decide +kernel
theorem d_La_law_239 : decode code 239 = .ok (.iaload, 1) := by decide +kernel
theorem d_La_law_240 : decode code 240 = .ok (.invokevirtual 30, 3) := by decide +kernel
theorem d_La_law_243 : decode code 243 = .ok (.if_icmp .eq (688), 3) := by decide +kernel
theorem d_La_law_246 : decode code 246 = .ok (.iconst 0, 1) := by decide +kernel
theorem d_La_law_247 : decode code 247 = .ok (.ireturn, 1) := by decide +kernel
set_option maxHeartbeats 4000000 in
set_option maxRecDepth 100000 in
theorem La_c1 {p : Program} {l : Launch} {e : Env} {s : State} {m : MethodId} {below : List Frame} {meth : Method} {c : Code} {b L : Nat} {xs : Nat → Int32} {dC : Nat → ClassId} {dI : Nat → Nat → Nat} {cI cJ cG cZ : ClassId} {a a' : Nat → Nat} {nc ns : Nat} {Rel : zw_Z → zw_Z → Prop} {k : Nat} (hL : L ≤ 2561) (C0 : lw_At p s m meth c b L xs) (hN : zw_N s) (hK : va_K (dC, dI) vwCl [(cI, .int), (cJ, .long), (cG, .array .int), (cZ, .boolean)] s) (hnc : nc ≤ 600000) (hns : ns ≤ 7302250) (hk : k + 5 ≤ L) (hst : st_flex Rel) (hg : La_G p l e s m below meth c b dC dI cI cJ cG cZ a a' nc ns Rel 931 k) : La_G p l e s m below meth c b dC dI cI cJ cG cZ a a' nc ns Rel 195 k := by
  obtain ⟨hx, hb, hr, hml, hown0, hts0, hX, hbl, hlocks, hgv⟩ := id C0
  have hown : s.vm.findClass R_La = some m.cls := hown0
  have hA : ∀ q : Nat, s.heap.size ≤ q → (fun q : Nat => s.heap.size ≤ q) q := fun _ h => h
  have hbA : ¬ (fun q : Nat => s.heap.size ≤ q) b := Nat.not_le.mpr hbl
  have ht : ∀ w ∈ zw_tbl, w.before #[Value.ref b] s = true := fun w h => hts0 w (List.mem_filter.mp h).1
  have hts : ∀ w ∈ (Cond.initialized R_La :: zw_tbl), w.before #[Value.ref b] s = true := fun w h => (List.mem_cons.mp h).elim (fun q => q ▸ ht _ kw_0) (ht w)
  intro fi fl ai al gi gl bi bl H locs ls hR hPA hPB hD hS hl
  have h_1 : vp_in (nI k + (1 : Int32)) L := La_in (j := 1) (by omega) hL
  have h_2 : vp_in (nI k + (2 : Int32)) L := La_in (j := 2) (by omega) hL
  have h_3 : vp_in (nI k + (3 : Int32)) L := La_in (j := 3) (by omega) hL
  have h_4 : vp_in (nI k + (4 : Int32)) L := La_in (j := 4) (by omega) hL
  have hw := hst fi fl ai al gi gl bi bl (xs (nI k + (1 : Int32)).toNatClampNeg) (xs (nI k + (2 : Int32)).toNatClampNeg) (xs (nI k + (3 : Int32)).toNatClampNeg) (xs (nI k + (4 : Int32)).toNatClampNeg) hR
  refine lv_aload_n hx hb d_La_law_195 rfl (lv_at hl 1 rfl) ?_
  refine lv_aload_n hx hb d_La_law_196 rfl (lv_at hl 0 rfl) ?_
  refine lv_iload_n hx hb d_La_law_197 rfl (lv_at hl 3 rfl) ?_
  refine lv_iconst (v := (1 : Int32)) hx hb d_La_law_198 (by decide) ?_
  refine lv_iadd hx hb d_La_law_199 ?_
  refine va_sld hx hb hX hbl hbA hS h_1 d_La_law_200 ?_
  refine lv_aload_n hx hb d_La_law_201 rfl (lv_at hl 0 rfl) ?_
  refine lv_iload_n hx hb d_La_law_202 rfl (lv_at hl 3 rfl) ?_
  refine lv_iconst (v := (2 : Int32)) hx hb d_La_law_203 (by decide) ?_
  refine lv_iadd hx hb d_La_law_204 ?_
  refine va_sld hx hb hX hbl hbA hS h_2 d_La_law_205 ?_
  refine lv_aload_n hx hb d_La_law_206 rfl (lv_at hl 0 rfl) ?_
  refine lv_iload_n hx hb d_La_law_207 rfl (lv_at hl 3 rfl) ?_
  refine lv_iconst (v := (3 : Int32)) hx hb d_La_law_208 (by decide) ?_
  refine lv_iadd hx hb d_La_law_209 ?_
  refine va_sld hx hb hX hbl hbA hS h_3 d_La_law_210 ?_
  refine lv_aload_n hx hb d_La_law_211 rfl (lv_at hl 0 rfl) ?_
  refine lv_iload_n hx hb d_La_law_212 rfl (lv_at hl 3 rfl) ?_
  refine lv_iconst (v := (4 : Int32)) hx hb d_La_law_213 (by decide) ?_
  refine lv_iadd hx hb d_La_law_214 ?_
  refine va_sld hx hb hX hbl hbA hS h_4 d_La_law_215 ?_
  refine zw_lAi (va_runV (As := [.int (xs (nI k + (1 : Int32)).toNatClampNeg), .int (xs (nI k + (2 : Int32)).toNatClampNeg), .int (xs (nI k + (3 : Int32)).toNatClampNeg), .int (xs (nI k + (4 : Int32)).toNatClampNeg)]) (rest := []) ⟨hx, hb, hml, hown, hts⟩ (c_SS_flex l dC dI cI cJ cG cZ a H.size fi fl ai al (xs (nI k + (1 : Int32)).toNatClampNeg) (xs (nI k + (2 : Int32)).toNatClampNeg) (xs (nI k + (3 : Int32)).toNatClampNeg) (xs (nI k + (4 : Int32)).toNatClampNeg) _ hw) (cwV 4 hts (zw_goodV kw_284 kw_285 kw_286 kw_1 kw_287) rfl rfl rfl hd_SS_flex ⟨Nat.le_of_ble_eq_true rfl, Nat.le_of_ble_eq_true rfl⟩) (zw_preVw (ci := 0) (q0 := 0) hK hN hPA (zw_DL hD) rfl rfl) rfl rfl hl.1 rfl (lv_room (Nat.le_of_ble_eq_true rfl)) d_La_law_216 ⟨hnc, hns⟩) hPB hD hS hA (fun rA fi' fl' ai' al' H locs hw hPA hPB hD hS => ?_)
  obtain ⟨rfl, rfl, rfl, hw⟩ := hw
  refine lv_aload_n hx hb d_La_law_219 rfl (lv_at hl 2 rfl) ?_
  refine lv_aload_n hx hb d_La_law_220 rfl (lv_at hl 0 rfl) ?_
  refine lv_iload_n hx hb d_La_law_221 rfl (lv_at hl 3 rfl) ?_
  refine lv_iconst (v := (1 : Int32)) hx hb d_La_law_222 (by decide) ?_
  refine lv_iadd hx hb d_La_law_223 ?_
  refine va_sld hx hb hX hbl hbA hS h_1 d_La_law_224 ?_
  refine lv_aload_n hx hb d_La_law_225 rfl (lv_at hl 0 rfl) ?_
  refine lv_iload_n hx hb d_La_law_226 rfl (lv_at hl 3 rfl) ?_
  refine lv_iconst (v := (2 : Int32)) hx hb d_La_law_227 (by decide) ?_
  refine lv_iadd hx hb d_La_law_228 ?_
  refine va_sld hx hb hX hbl hbA hS h_2 d_La_law_229 ?_
  refine lv_aload_n hx hb d_La_law_230 rfl (lv_at hl 0 rfl) ?_
  refine lv_iload_n hx hb d_La_law_231 rfl (lv_at hl 3 rfl) ?_
  refine lv_iconst (v := (3 : Int32)) hx hb d_La_law_232 (by decide) ?_
  refine lv_iadd hx hb d_La_law_233 ?_
  refine va_sld hx hb hX hbl hbA hS h_3 d_La_law_234 ?_
  refine lv_aload_n hx hb d_La_law_235 rfl (lv_at hl 0 rfl) ?_
  refine lv_iload_n hx hb d_La_law_236 rfl (lv_at hl 3 rfl) ?_
  refine lv_iconst (v := (4 : Int32)) hx hb d_La_law_237 (by decide) ?_
  refine lv_iadd hx hb d_La_law_238 ?_
  refine va_sld hx hb hX hbl hbA hS h_4 d_La_law_239 ?_
  refine zw_lBi (va_runV (As := [.int (xs (nI k + (1 : Int32)).toNatClampNeg), .int (xs (nI k + (2 : Int32)).toNatClampNeg), .int (xs (nI k + (3 : Int32)).toNatClampNeg), .int (xs (nI k + (4 : Int32)).toNatClampNeg)]) (rest := [.int rA]) ⟨hx, hb, hml, hown, hts⟩ (c_Mo_flex l dC dI cI cJ cG cZ a' H.size gi gl bi bl (xs (nI k + (1 : Int32)).toNatClampNeg) (xs (nI k + (2 : Int32)).toNatClampNeg) (xs (nI k + (3 : Int32)).toNatClampNeg) (xs (nI k + (4 : Int32)).toNatClampNeg) _ hw) (cwV 4 hts (zw_goodV kw_737 kw_738 kw_739 kw_9 kw_740) rfl rfl rfl hd_Mo_flex ⟨Nat.le_of_ble_eq_true rfl, Nat.le_of_ble_eq_true rfl⟩) (zw_preVw (ci := 7) (q0 := 0) hK hN hPB (zw_DR hD) rfl rfl) rfl rfl hl.1 rfl (lv_room (Nat.le_of_ble_eq_true rfl)) d_La_law_240 ⟨hnc, hns⟩) hPA hD hS hA (fun rB gi' gl' bi' bl' H locs hw hPA hPB hD hS => ?_)
  obtain ⟨rfl, rfl, rfl, hw⟩ := hw
  obtain ⟨hEq, hR⟩ := hw
  refine lv_icmp_eq (tgt := 931) hx hb d_La_law_243 (by decide) (fun c9 => ?_) (fun c9 => absurd hEq c9)
  exact hg fi fl ai' al gi gl bi' bl H locs ls hR hPA hPB hD hS hl
theorem d_La_law_248 : decode code 248 = .ok (.aload_n 1, 1) := by decide +kernel
theorem d_La_law_249 : decode code 249 = .ok (.aload_n 0, 1) := by decide +kernel
theorem d_La_law_250 : decode code 250 = .ok (.iload_n 3, 1) := by decide +kernel
theorem d_La_law_251 : decode code 251 = .ok (.iconst 1, 1) := by decide +kernel
theorem d_La_law_252 : decode code 252 = .ok (.iadd, 1) := by decide +kernel
theorem d_La_law_253 : decode code 253 = .ok (.iaload, 1) := by decide +kernel
theorem d_La_law_254 : decode code 254 = .ok (.aload_n 0, 1) := by decide +kernel
theorem d_La_law_255 : decode code 255 = .ok (.iload_n 3, 1) := by decide +kernel
theorem d_La_law_256 : decode code 256 = .ok (.iconst 2, 1) := by decide +kernel
theorem d_La_law_257 : decode code 257 = .ok (.iadd, 1) := by decide +kernel
theorem d_La_law_258 : decode code 258 = .ok (.iaload, 1) := by decide +kernel
theorem d_La_law_259 : decode code 259 = .ok (.aload_n 0, 1) := by decide +kernel
theorem d_La_law_260 : decode code 260 = .ok (.iload_n 3, 1) := by decide +kernel
theorem d_La_law_261 : decode code 261 = .ok (.iconst 3, 1) := by decide +kernel
theorem d_La_law_262 : decode code 262 = .ok (.iadd, 1) := by decide +kernel
theorem d_La_law_263 : decode code 263 = .ok (.iaload, 1) := by decide +kernel
theorem d_La_law_264 : decode code 264 = .ok (.invokevirtual 31, 3) := by decide +kernel
theorem d_La_law_267 : decode code 267 = .ok (.aload_n 2, 1) := by decide +kernel
theorem d_La_law_268 : decode code 268 = .ok (.aload_n 0, 1) := by decide +kernel
theorem d_La_law_269 : decode code 269 = .ok (.iload_n 3, 1) := by decide +kernel
theorem d_La_law_270 : decode code 270 = .ok (.iconst 1, 1) := by decide +kernel
theorem d_La_law_271 : decode code 271 = .ok (.iadd, 1) := by decide +kernel
theorem d_La_law_272 : decode code 272 = .ok (.iaload, 1) := by decide +kernel
theorem d_La_law_273 : decode code 273 = .ok (.aload_n 0, 1) := by decide +kernel
theorem d_La_law_274 : decode code 274 = .ok (.iload_n 3, 1) := by decide +kernel
theorem d_La_law_275 : decode code 275 = .ok (.iconst 2, 1) := by decide +kernel
theorem d_La_law_276 : decode code 276 = .ok (.iadd, 1) := by decide +kernel
theorem d_La_law_277 : decode code 277 = .ok (.iaload, 1) := by decide +kernel
theorem d_La_law_278 : decode code 278 = .ok (.aload_n 0, 1) := by decide +kernel
theorem d_La_law_279 : decode code 279 = .ok (.iload_n 3, 1) := by decide +kernel
theorem d_La_law_280 : decode code 280 = .ok (.iconst 3, 1) := by decide +kernel
theorem d_La_law_281 : decode code 281 = .ok (.iadd, 1) := by decide +kernel
theorem d_La_law_282 : decode code 282 = .ok (.iaload, 1) := by decide +kernel
theorem d_La_law_283 : decode code 283 = .ok (.invokevirtual 34, 3) := by decide +kernel
theorem d_La_law_286 : decode code 286 = .ok (.if_icmp .eq (645), 3) := by decide +kernel
theorem d_La_law_289 : decode code 289 = .ok (.iconst 0, 1) := by decide +kernel
theorem d_La_law_290 : decode code 290 = .ok (.ireturn, 1) := by decide +kernel
set_option maxHeartbeats 4000000 in
set_option maxRecDepth 100000 in
theorem La_c2 {p : Program} {l : Launch} {e : Env} {s : State} {m : MethodId} {below : List Frame} {meth : Method} {c : Code} {b L : Nat} {xs : Nat → Int32} {dC : Nat → ClassId} {dI : Nat → Nat → Nat} {cI cJ cG cZ : ClassId} {a a' : Nat → Nat} {nc ns : Nat} {Rel : zw_Z → zw_Z → Prop} {k : Nat} (hL : L ≤ 2561) (C0 : lw_At p s m meth c b L xs) (hN : zw_N s) (hK : va_K (dC, dI) vwCl [(cI, .int), (cJ, .long), (cG, .array .int), (cZ, .boolean)] s) (hnc : nc ≤ 600000) (hns : ns ≤ 7302250) (hk : k + 5 ≤ L) (hst : st_share Rel) (hg : La_G p l e s m below meth c b dC dI cI cJ cG cZ a a' nc ns Rel 931 k) : La_G p l e s m below meth c b dC dI cI cJ cG cZ a a' nc ns Rel 248 k := by
  obtain ⟨hx, hb, hr, hml, hown0, hts0, hX, hbl, hlocks, hgv⟩ := id C0
  have hown : s.vm.findClass R_La = some m.cls := hown0
  have hA : ∀ q : Nat, s.heap.size ≤ q → (fun q : Nat => s.heap.size ≤ q) q := fun _ h => h
  have hbA : ¬ (fun q : Nat => s.heap.size ≤ q) b := Nat.not_le.mpr hbl
  have ht : ∀ w ∈ zw_tbl, w.before #[Value.ref b] s = true := fun w h => hts0 w (List.mem_filter.mp h).1
  have hts : ∀ w ∈ (Cond.initialized R_La :: zw_tbl), w.before #[Value.ref b] s = true := fun w h => (List.mem_cons.mp h).elim (fun q => q ▸ ht _ kw_0) (ht w)
  intro fi fl ai al gi gl bi bl H locs ls hR hPA hPB hD hS hl
  have h_1 : vp_in (nI k + (1 : Int32)) L := La_in (j := 1) (by omega) hL
  have h_2 : vp_in (nI k + (2 : Int32)) L := La_in (j := 2) (by omega) hL
  have h_3 : vp_in (nI k + (3 : Int32)) L := La_in (j := 3) (by omega) hL
  have hw := hst fi fl ai al gi gl bi bl (xs (nI k + (1 : Int32)).toNatClampNeg) (xs (nI k + (2 : Int32)).toNatClampNeg) (xs (nI k + (3 : Int32)).toNatClampNeg) hR
  refine lv_aload_n hx hb d_La_law_248 rfl (lv_at hl 1 rfl) ?_
  refine lv_aload_n hx hb d_La_law_249 rfl (lv_at hl 0 rfl) ?_
  refine lv_iload_n hx hb d_La_law_250 rfl (lv_at hl 3 rfl) ?_
  refine lv_iconst (v := (1 : Int32)) hx hb d_La_law_251 (by decide) ?_
  refine lv_iadd hx hb d_La_law_252 ?_
  refine va_sld hx hb hX hbl hbA hS h_1 d_La_law_253 ?_
  refine lv_aload_n hx hb d_La_law_254 rfl (lv_at hl 0 rfl) ?_
  refine lv_iload_n hx hb d_La_law_255 rfl (lv_at hl 3 rfl) ?_
  refine lv_iconst (v := (2 : Int32)) hx hb d_La_law_256 (by decide) ?_
  refine lv_iadd hx hb d_La_law_257 ?_
  refine va_sld hx hb hX hbl hbA hS h_2 d_La_law_258 ?_
  refine lv_aload_n hx hb d_La_law_259 rfl (lv_at hl 0 rfl) ?_
  refine lv_iload_n hx hb d_La_law_260 rfl (lv_at hl 3 rfl) ?_
  refine lv_iconst (v := (3 : Int32)) hx hb d_La_law_261 (by decide) ?_
  refine lv_iadd hx hb d_La_law_262 ?_
  refine va_sld hx hb hX hbl hbA hS h_3 d_La_law_263 ?_
  refine zw_lAi (va_runV (As := [.int (xs (nI k + (1 : Int32)).toNatClampNeg), .int (xs (nI k + (2 : Int32)).toNatClampNeg), .int (xs (nI k + (3 : Int32)).toNatClampNeg)]) (rest := []) ⟨hx, hb, hml, hown, hts⟩ (c_SS_share l dC dI cI cJ cG cZ a H.size fi fl ai al (xs (nI k + (1 : Int32)).toNatClampNeg) (xs (nI k + (2 : Int32)).toNatClampNeg) (xs (nI k + (3 : Int32)).toNatClampNeg) _ hw) (cwV 3 hts (zw_goodV kw_291 kw_292 kw_293 kw_1 kw_294) rfl rfl rfl hd_SS_share ⟨Nat.le_of_ble_eq_true rfl, Nat.le_of_ble_eq_true rfl⟩) (zw_preVw (ci := 0) (q0 := 0) hK hN hPA (zw_DL hD) rfl rfl) rfl rfl hl.1 rfl (lv_room (Nat.le_of_ble_eq_true rfl)) d_La_law_264 ⟨hnc, hns⟩) hPB hD hS hA (fun rA fi' fl' ai' al' H locs hw hPA hPB hD hS => ?_)
  obtain ⟨rfl, rfl, rfl, hw⟩ := hw
  refine lv_aload_n hx hb d_La_law_267 rfl (lv_at hl 2 rfl) ?_
  refine lv_aload_n hx hb d_La_law_268 rfl (lv_at hl 0 rfl) ?_
  refine lv_iload_n hx hb d_La_law_269 rfl (lv_at hl 3 rfl) ?_
  refine lv_iconst (v := (1 : Int32)) hx hb d_La_law_270 (by decide) ?_
  refine lv_iadd hx hb d_La_law_271 ?_
  refine va_sld hx hb hX hbl hbA hS h_1 d_La_law_272 ?_
  refine lv_aload_n hx hb d_La_law_273 rfl (lv_at hl 0 rfl) ?_
  refine lv_iload_n hx hb d_La_law_274 rfl (lv_at hl 3 rfl) ?_
  refine lv_iconst (v := (2 : Int32)) hx hb d_La_law_275 (by decide) ?_
  refine lv_iadd hx hb d_La_law_276 ?_
  refine va_sld hx hb hX hbl hbA hS h_2 d_La_law_277 ?_
  refine lv_aload_n hx hb d_La_law_278 rfl (lv_at hl 0 rfl) ?_
  refine lv_iload_n hx hb d_La_law_279 rfl (lv_at hl 3 rfl) ?_
  refine lv_iconst (v := (3 : Int32)) hx hb d_La_law_280 (by decide) ?_
  refine lv_iadd hx hb d_La_law_281 ?_
  refine va_sld hx hb hX hbl hbA hS h_3 d_La_law_282 ?_
  refine zw_lBi (va_runV (As := [.int (xs (nI k + (1 : Int32)).toNatClampNeg), .int (xs (nI k + (2 : Int32)).toNatClampNeg), .int (xs (nI k + (3 : Int32)).toNatClampNeg)]) (rest := [.int rA]) ⟨hx, hb, hml, hown, hts⟩ (c_Mo_share l dC dI cI cJ cG cZ a' H.size gi gl bi bl (xs (nI k + (1 : Int32)).toNatClampNeg) (xs (nI k + (2 : Int32)).toNatClampNeg) (xs (nI k + (3 : Int32)).toNatClampNeg) _ hw) (cwV 3 hts (zw_goodV kw_743 kw_744 kw_745 kw_9 kw_746) rfl rfl rfl hd_Mo_share ⟨Nat.le_of_ble_eq_true rfl, Nat.le_of_ble_eq_true rfl⟩) (zw_preVw (ci := 7) (q0 := 0) hK hN hPB (zw_DR hD) rfl rfl) rfl rfl hl.1 rfl (lv_room (Nat.le_of_ble_eq_true rfl)) d_La_law_283 ⟨hnc, hns⟩) hPA hD hS hA (fun rB gi' gl' bi' bl' H locs hw hPA hPB hD hS => ?_)
  obtain ⟨rfl, rfl, rfl, hw⟩ := hw
  obtain ⟨hEq, hR⟩ := hw
  refine lv_icmp_eq (tgt := 931) hx hb d_La_law_286 (by decide) (fun c9 => ?_) (fun c9 => absurd hEq c9)
  exact hg fi fl ai' al gi gl bi' bl H locs ls hR hPA hPB hD hS hl
theorem d_La_law_291 : decode code 291 = .ok (.aload_n 1, 1) := by decide +kernel
theorem d_La_law_292 : decode code 292 = .ok (.aload_n 0, 1) := by decide +kernel
theorem d_La_law_293 : decode code 293 = .ok (.iload_n 3, 1) := by decide +kernel
theorem d_La_law_294 : decode code 294 = .ok (.iconst 1, 1) := by decide +kernel
theorem d_La_law_295 : decode code 295 = .ok (.iadd, 1) := by decide +kernel
theorem d_La_law_296 : decode code 296 = .ok (.iaload, 1) := by decide +kernel
theorem d_La_law_297 : decode code 297 = .ok (.aload_n 0, 1) := by decide +kernel
theorem d_La_law_298 : decode code 298 = .ok (.iload_n 3, 1) := by decide +kernel
theorem d_La_law_299 : decode code 299 = .ok (.iconst 2, 1) := by decide +kernel
theorem d_La_law_300 : decode code 300 = .ok (.iadd, 1) := by decide +kernel
theorem d_La_law_301 : decode code 301 = .ok (.iaload, 1) := by decide +kernel
theorem d_La_law_302 : decode code 302 = .ok (.aload_n 0, 1) := by decide +kernel
theorem d_La_law_303 : decode code 303 = .ok (.iload_n 3, 1) := by decide +kernel
theorem d_La_law_304 : decode code 304 = .ok (.iconst 3, 1) := by decide +kernel
theorem d_La_law_305 : decode code 305 = .ok (.iadd, 1) := by decide +kernel
theorem d_La_law_306 : decode code 306 = .ok (.iaload, 1) := by decide +kernel
theorem d_La_law_307 : decode code 307 = .ok (.invokevirtual 35, 3) := by decide +kernel
theorem d_La_law_310 : decode code 310 = .ok (.aload_n 2, 1) := by decide +kernel
theorem d_La_law_311 : decode code 311 = .ok (.aload_n 0, 1) := by decide +kernel
theorem d_La_law_312 : decode code 312 = .ok (.iload_n 3, 1) := by decide +kernel
theorem d_La_law_313 : decode code 313 = .ok (.iconst 1, 1) := by decide +kernel
theorem d_La_law_314 : decode code 314 = .ok (.iadd, 1) := by decide +kernel
theorem d_La_law_315 : decode code 315 = .ok (.iaload, 1) := by decide +kernel
theorem d_La_law_316 : decode code 316 = .ok (.aload_n 0, 1) := by decide +kernel
theorem d_La_law_317 : decode code 317 = .ok (.iload_n 3, 1) := by decide +kernel
theorem d_La_law_318 : decode code 318 = .ok (.iconst 2, 1) := by decide +kernel
theorem d_La_law_319 : decode code 319 = .ok (.iadd, 1) := by decide +kernel
theorem d_La_law_320 : decode code 320 = .ok (.iaload, 1) := by decide +kernel
theorem d_La_law_321 : decode code 321 = .ok (.aload_n 0, 1) := by decide +kernel
theorem d_La_law_322 : decode code 322 = .ok (.iload_n 3, 1) := by decide +kernel
theorem d_La_law_323 : decode code 323 = .ok (.iconst 3, 1) := by decide +kernel
theorem d_La_law_324 : decode code 324 = .ok (.iadd, 1) := by decide +kernel
theorem d_La_law_325 : decode code 325 = .ok (.iaload, 1) := by decide +kernel
theorem d_La_law_326 : decode code 326 = .ok (.invokevirtual 38, 3) := by decide +kernel
theorem d_La_law_329 : decode code 329 = .ok (.if_icmp .eq (602), 3) := by decide +kernel
theorem d_La_law_332 : decode code 332 = .ok (.iconst 0, 1) := by decide +kernel
theorem d_La_law_333 : decode code 333 = .ok (.ireturn, 1) := by decide +kernel
set_option maxHeartbeats 4000000 in
set_option maxRecDepth 100000 in
theorem La_c3 {p : Program} {l : Launch} {e : Env} {s : State} {m : MethodId} {below : List Frame} {meth : Method} {c : Code} {b L : Nat} {xs : Nat → Int32} {dC : Nat → ClassId} {dI : Nat → Nat → Nat} {cI cJ cG cZ : ClassId} {a a' : Nat → Nat} {nc ns : Nat} {Rel : zw_Z → zw_Z → Prop} {k : Nat} (hL : L ≤ 2561) (C0 : lw_At p s m meth c b L xs) (hN : zw_N s) (hK : va_K (dC, dI) vwCl [(cI, .int), (cJ, .long), (cG, .array .int), (cZ, .boolean)] s) (hnc : nc ≤ 600000) (hns : ns ≤ 7302250) (hk : k + 5 ≤ L) (hst : st_release Rel) (hg : La_G p l e s m below meth c b dC dI cI cJ cG cZ a a' nc ns Rel 931 k) : La_G p l e s m below meth c b dC dI cI cJ cG cZ a a' nc ns Rel 291 k := by
  obtain ⟨hx, hb, hr, hml, hown0, hts0, hX, hbl, hlocks, hgv⟩ := id C0
  have hown : s.vm.findClass R_La = some m.cls := hown0
  have hA : ∀ q : Nat, s.heap.size ≤ q → (fun q : Nat => s.heap.size ≤ q) q := fun _ h => h
  have hbA : ¬ (fun q : Nat => s.heap.size ≤ q) b := Nat.not_le.mpr hbl
  have ht : ∀ w ∈ zw_tbl, w.before #[Value.ref b] s = true := fun w h => hts0 w (List.mem_filter.mp h).1
  have hts : ∀ w ∈ (Cond.initialized R_La :: zw_tbl), w.before #[Value.ref b] s = true := fun w h => (List.mem_cons.mp h).elim (fun q => q ▸ ht _ kw_0) (ht w)
  intro fi fl ai al gi gl bi bl H locs ls hR hPA hPB hD hS hl
  have h_1 : vp_in (nI k + (1 : Int32)) L := La_in (j := 1) (by omega) hL
  have h_2 : vp_in (nI k + (2 : Int32)) L := La_in (j := 2) (by omega) hL
  have h_3 : vp_in (nI k + (3 : Int32)) L := La_in (j := 3) (by omega) hL
  have hw := hst fi fl ai al gi gl bi bl (xs (nI k + (1 : Int32)).toNatClampNeg) (xs (nI k + (2 : Int32)).toNatClampNeg) (xs (nI k + (3 : Int32)).toNatClampNeg) hR
  refine lv_aload_n hx hb d_La_law_291 rfl (lv_at hl 1 rfl) ?_
  refine lv_aload_n hx hb d_La_law_292 rfl (lv_at hl 0 rfl) ?_
  refine lv_iload_n hx hb d_La_law_293 rfl (lv_at hl 3 rfl) ?_
  refine lv_iconst (v := (1 : Int32)) hx hb d_La_law_294 (by decide) ?_
  refine lv_iadd hx hb d_La_law_295 ?_
  refine va_sld hx hb hX hbl hbA hS h_1 d_La_law_296 ?_
  refine lv_aload_n hx hb d_La_law_297 rfl (lv_at hl 0 rfl) ?_
  refine lv_iload_n hx hb d_La_law_298 rfl (lv_at hl 3 rfl) ?_
  refine lv_iconst (v := (2 : Int32)) hx hb d_La_law_299 (by decide) ?_
  refine lv_iadd hx hb d_La_law_300 ?_
  refine va_sld hx hb hX hbl hbA hS h_2 d_La_law_301 ?_
  refine lv_aload_n hx hb d_La_law_302 rfl (lv_at hl 0 rfl) ?_
  refine lv_iload_n hx hb d_La_law_303 rfl (lv_at hl 3 rfl) ?_
  refine lv_iconst (v := (3 : Int32)) hx hb d_La_law_304 (by decide) ?_
  refine lv_iadd hx hb d_La_law_305 ?_
  refine va_sld hx hb hX hbl hbA hS h_3 d_La_law_306 ?_
  refine zw_lAi (va_runV (As := [.int (xs (nI k + (1 : Int32)).toNatClampNeg), .int (xs (nI k + (2 : Int32)).toNatClampNeg), .int (xs (nI k + (3 : Int32)).toNatClampNeg)]) (rest := []) ⟨hx, hb, hml, hown, hts⟩ (c_SS_release l dC dI cI cJ cG cZ a H.size fi fl ai al (xs (nI k + (1 : Int32)).toNatClampNeg) (xs (nI k + (2 : Int32)).toNatClampNeg) (xs (nI k + (3 : Int32)).toNatClampNeg) _ hw) (cwV 3 hts (zw_goodV kw_298 kw_299 kw_300 kw_1 kw_301) rfl rfl rfl hd_SS_release ⟨Nat.le_of_ble_eq_true rfl, Nat.le_of_ble_eq_true rfl⟩) (zw_preVw (ci := 0) (q0 := 0) hK hN hPA (zw_DL hD) rfl rfl) rfl rfl hl.1 rfl (lv_room (Nat.le_of_ble_eq_true rfl)) d_La_law_307 ⟨hnc, hns⟩) hPB hD hS hA (fun rA fi' fl' ai' al' H locs hw hPA hPB hD hS => ?_)
  obtain ⟨rfl, rfl, rfl, hw⟩ := hw
  refine lv_aload_n hx hb d_La_law_310 rfl (lv_at hl 2 rfl) ?_
  refine lv_aload_n hx hb d_La_law_311 rfl (lv_at hl 0 rfl) ?_
  refine lv_iload_n hx hb d_La_law_312 rfl (lv_at hl 3 rfl) ?_
  refine lv_iconst (v := (1 : Int32)) hx hb d_La_law_313 (by decide) ?_
  refine lv_iadd hx hb d_La_law_314 ?_
  refine va_sld hx hb hX hbl hbA hS h_1 d_La_law_315 ?_
  refine lv_aload_n hx hb d_La_law_316 rfl (lv_at hl 0 rfl) ?_
  refine lv_iload_n hx hb d_La_law_317 rfl (lv_at hl 3 rfl) ?_
  refine lv_iconst (v := (2 : Int32)) hx hb d_La_law_318 (by decide) ?_
  refine lv_iadd hx hb d_La_law_319 ?_
  refine va_sld hx hb hX hbl hbA hS h_2 d_La_law_320 ?_
  refine lv_aload_n hx hb d_La_law_321 rfl (lv_at hl 0 rfl) ?_
  refine lv_iload_n hx hb d_La_law_322 rfl (lv_at hl 3 rfl) ?_
  refine lv_iconst (v := (3 : Int32)) hx hb d_La_law_323 (by decide) ?_
  refine lv_iadd hx hb d_La_law_324 ?_
  refine va_sld hx hb hX hbl hbA hS h_3 d_La_law_325 ?_
  refine zw_lBi (va_runV (As := [.int (xs (nI k + (1 : Int32)).toNatClampNeg), .int (xs (nI k + (2 : Int32)).toNatClampNeg), .int (xs (nI k + (3 : Int32)).toNatClampNeg)]) (rest := [.int rA]) ⟨hx, hb, hml, hown, hts⟩ (c_Mo_release l dC dI cI cJ cG cZ a' H.size gi gl bi bl (xs (nI k + (1 : Int32)).toNatClampNeg) (xs (nI k + (2 : Int32)).toNatClampNeg) (xs (nI k + (3 : Int32)).toNatClampNeg) _ hw) (cwV 3 hts (zw_goodV kw_748 kw_749 kw_750 kw_9 kw_751) rfl rfl rfl hd_Mo_release ⟨Nat.le_of_ble_eq_true rfl, Nat.le_of_ble_eq_true rfl⟩) (zw_preVw (ci := 7) (q0 := 0) hK hN hPB (zw_DR hD) rfl rfl) rfl rfl hl.1 rfl (lv_room (Nat.le_of_ble_eq_true rfl)) d_La_law_326 ⟨hnc, hns⟩) hPA hD hS hA (fun rB gi' gl' bi' bl' H locs hw hPA hPB hD hS => ?_)
  obtain ⟨rfl, rfl, rfl, hw⟩ := hw
  obtain ⟨hEq, hR⟩ := hw
  refine lv_icmp_eq (tgt := 931) hx hb d_La_law_329 (by decide) (fun c9 => ?_) (fun c9 => absurd hEq c9)
  exact hg fi fl ai' al gi gl bi' bl H locs ls hR hPA hPB hD hS hl
