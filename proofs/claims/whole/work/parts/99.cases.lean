/-! the law, call by call -/
abbrev l_ck (al : Nat → Bool) : Nat := if al 5 = true then 7 else 0
abbrev l_cs (al : Nat → Bool) : Nat := if al 5 = true then 19360 else 0
theorem alX_5 {n : Nat} {sB tB : Bool} : alX n sB tB 5 = sB := by cases sB <;> cases tB <;> rfl
theorem alX_6 {n : Nat} {sB tB : Bool} : alX n sB tB 6 = tB := by cases sB <;> cases tB <;> rfl
theorem l_ckX {n : Nat} {sB tB : Bool} : l_ck (alX n sB tB) = if sB = true then 7 else 0 := by unfold l_ck; rw [alX_5]
theorem l_csX {n : Nat} {sB tB : Bool} : l_cs (alX n sB tB) = if sB = true then 19360 else 0 := by unfold l_cs; rw [alX_5]
theorem alX_100 {n : Nat} {sB tB : Bool} (h10 : n ≤ 10) : ∀ x, alX n sB tB x = true → x < 100 := fun x hx => by have := alX_fin h10 x hx; omega
theorem s_in {j L k : Nat} (h : 6 * j + k < L) (hL : L ≤ 3072) : vp_in (nI (6 * j) + nI k) L := by rw [nI_add]; exact vp_in_nI h (by omega)
theorem s_in0 {j L : Nat} (h : 6 * j < L) (hL : L ≤ 3072) : vp_in (nI (6 * j)) L := vp_in_nI h (by omega)
theorem x_R.many {n t : Nat} {tB : Bool} {f : Nat → Nat → Int32} {g : Nat → Nat → Int64} {F : Nat → Nat → Int32} {G : Nat → Nat → Int64} (h : x_R n t tB f g F G) : ∃ m : Nat, m ≤ 360 ∧ F 0 46 = nI m := by
  rcases h.dig with ⟨-, q⟩ | ⟨-, d, hd, q, -⟩
  · exact ⟨0, by decide, q⟩
  · exact ⟨d, by omega, q⟩
/-- where a call has been compared -/
abbrev l_K (C : q_Ctx) (b j kc ks : Nat) (al : Nat → Bool) : Prop := ∀ (al2 : Nat → Bool) (hx hm : PH) (ad2 : Nat → Nat) (kc2 ks2 : Nat), x_Q al2 hx hm → q_Ev C cL_law 4 RL (alW al2) ad2 6 136 → ad2 200 = b → kc2 + l_ck al ≤ kc + 6 + l_ck al2 → ks2 + l_cs al ≤ ks + 1504 + l_cs al2 → gg C tyW 4 kc2 ks2 (alW al2) ad2 1041 [some (.ref 200), some (.ref 0), some (.ref 100), some (.int (nI (6 * j)))] [] (hW hx hm)
set_option maxHeartbeats 4000000 in
set_option maxRecDepth 100000 in
theorem w_terms {C : q_Ctx} {ad : Nat → Nat} {b L j n t kc ks : Nat} {xs : Nat → Int32} {sB tB : Bool} {f : Nat → Nat → Int32} {g : Nat → Nat → Int64} {F : Nat → Nat → Int32} {G : Nat → Nat → Int64} (E : q_Ev C cL_law 4 RL (alW (alX n sB tB)) ad 6 136) (V : q_Nv C 600000 7302250) (S : q_Sc C b L xs) (hb : ad 200 = b) (h : x_R n t tB f g F G) (hj : 6 * j + 5 < L) (hL : L ≤ 3072) (hkc : kc ≤ 500000) (hks : ks ≤ 7000000) (K : l_K C b j kc ks (alX n sB tB)) : gg C tyW 4 kc ks (alW (alX n sB tB)) ad 156 [some (.ref 200), some (.ref 0), some (.ref 100), some (.int (nI (6 * j)))] [] (hW (f, g, rfX n sB tB) (F, G, rfM)) := by
  refine g_aload_1 (pc := 156) E dL_law_156 ?_
  refine g_aload_0 (pc := 157) E dL_law_157 ?_
  refine g_iload_3 (pc := 158) E dL_law_158 ?_
  refine g_iconst (pc := 159) (v := 1) E dL_law_159 (by decide) ?_
  refine g_iadd (pc := 160) E dL_law_160 ?_
  refine g_sld (pc := 161) E S hb (s_in (k := 1) (by omega) hL) dL_law_161 ?_
  refine g_aload_0 (pc := 162) E dL_law_162 ?_
  refine g_iload_3 (pc := 163) E dL_law_163 ?_
  refine g_iconst (pc := 164) (v := 2) E dL_law_164 (by decide) ?_
  refine g_iadd (pc := 165) E dL_law_165 ?_
  refine g_sld (pc := 166) E S hb (s_in (k := 2) (by omega) hL) dL_law_166 ?_
  refine g_aload_0 (pc := 167) E dL_law_167 ?_
  refine g_iload_3 (pc := 168) E dL_law_168 ?_
  refine g_iconst (pc := 169) (v := 3) E dL_law_169 (by decide) ?_
  refine g_iadd (pc := 170) E dL_law_170 ?_
  refine g_sld (pc := 171) E S hb (s_in (k := 3) (by omega) hL) dL_law_171 ?_
  refine g_aload_0 (pc := 172) E dL_law_172 ?_
  refine g_iload_3 (pc := 173) E dL_law_173 ?_
  refine g_iconst (pc := 174) (v := 4) E dL_law_174 (by decide) ?_
  refine g_iadd (pc := 175) E dL_law_175 ?_
  refine g_sld (pc := 176) E S hb (s_in (k := 4) (by omega) hL) dL_law_176 ?_
  refine l_X (pc := 177) E V (c_X7_terms _ _ _ _) cw_L_13 rfl rfl (by decide) (by decide) rfl (Nat.le_of_ble_eq_true rfl) (alX_100 h.n10) rfl (fun r2 h2 hp => ?_) dL_law_177 rfl (fun r2 h2 hp ad1 hd1 E => ?_)
  · obtain ⟨v, rfl, hp⟩ := hp
    have e : h2.2.2 = rfX n sB tB := by
      (repeat' (first | (obtain ⟨_, hp⟩ := (hp : _ ∧ _)) | (obtain ⟨_, hp⟩ := (hp : ∃ _, _)) | (obtain hp | hp := (hp : _ ∨ _))))
      all_goals (rw [hp])
    exact ⟨fun x k c q => rfX_lt h.n10 (by rw [e] at q; exact q), rfl⟩
  obtain ⟨vx, rfl, px⟩ := hp
  have hrx : ∀ x k c, h2.2.2 x k = some c → c < 100 := by
    have e : h2.2.2 = rfX n sB tB := by
      have hp := px
      (repeat' (first | (obtain ⟨_, hp⟩ := (hp : _ ∧ _)) | (obtain ⟨_, hp⟩ := (hp : ∃ _, _)) | (obtain hp | hp := (hp : _ ∨ _))))
      all_goals (rw [hp])
    exact fun x k c q => rfX_lt h.n10 (by rw [e] at q; exact q)
  have hb0 := hb
  have hb := hd1.trans hb0
  refine g_aload_2 (pc := 180) E dL_law_180 ?_
  refine g_aload_0 (pc := 181) E dL_law_181 ?_
  refine g_iload_3 (pc := 182) E dL_law_182 ?_
  refine g_iconst (pc := 183) (v := 1) E dL_law_183 (by decide) ?_
  refine g_iadd (pc := 184) E dL_law_184 ?_
  refine g_sld (pc := 185) E S hb (s_in (k := 1) (by omega) hL) dL_law_185 ?_
  refine g_aload_0 (pc := 186) E dL_law_186 ?_
  refine g_iload_3 (pc := 187) E dL_law_187 ?_
  refine g_iconst (pc := 188) (v := 2) E dL_law_188 (by decide) ?_
  refine g_iadd (pc := 189) E dL_law_189 ?_
  refine g_sld (pc := 190) E S hb (s_in (k := 2) (by omega) hL) dL_law_190 ?_
  refine g_aload_0 (pc := 191) E dL_law_191 ?_
  refine g_iload_3 (pc := 192) E dL_law_192 ?_
  refine g_iconst (pc := 193) (v := 3) E dL_law_193 (by decide) ?_
  refine g_iadd (pc := 194) E dL_law_194 ?_
  refine g_sld (pc := 195) E S hb (s_in (k := 3) (by omega) hL) dL_law_195 ?_
  refine g_aload_0 (pc := 196) E dL_law_196 ?_
  refine g_iload_3 (pc := 197) E dL_law_197 ?_
  refine g_iconst (pc := 198) (v := 4) E dL_law_198 (by decide) ?_
  refine g_iadd (pc := 199) E dL_law_199 ?_
  refine g_sld (pc := 200) E S hb (s_in (k := 4) (by omega) hL) dL_law_200 ?_
  have hb := hb0
  refine l_M (pc := 201) E V (c_X8_terms h.t0 _ _ _ _) cw_L_17 rfl rfl (by decide) (by decide) (Nat.le_of_ble_eq_true rfl) hrx rfl (fun r3 h3 hp => ?_) dL_law_201 rfl (fun r3 h3 hp ad2 hd2 E => ?_)
  · obtain ⟨v, rfl, hp⟩ := hp
    have e : h3.2.2 = rfM := by
      (repeat' (first | (obtain ⟨_, hp⟩ := (hp : _ ∧ _)) | (obtain ⟨_, hp⟩ := (hp : ∃ _, _)) | (obtain hp | hp := (hp : _ ∨ _))))
      all_goals (rw [hp])
    exact ⟨fun x k c q => rfM_lt (by rw [e] at q; exact q), rfl⟩
  obtain ⟨vm, rfl, pm⟩ := hp
  obtain ⟨hve, hq⟩ := r_terms h px pm
  refine g_icmp_eq (pc := 204) (tgt := 1041) E dL_law_204 (by decide) (fun cc0 => ?_) (fun cc0 => ?_)
  · exact K _ _ _ _ _ _ hq E (hd2.trans (hd1.trans hb)) (by omega) (by omega)
  · exact absurd hve cc0
set_option maxHeartbeats 4000000 in
set_option maxRecDepth 100000 in
theorem w_cell {C : q_Ctx} {ad : Nat → Nat} {b L j n t kc ks : Nat} {xs : Nat → Int32} {sB tB : Bool} {f : Nat → Nat → Int32} {g : Nat → Nat → Int64} {F : Nat → Nat → Int32} {G : Nat → Nat → Int64} (E : q_Ev C cL_law 4 RL (alW (alX n sB tB)) ad 6 136) (V : q_Nv C 600000 7302250) (S : q_Sc C b L xs) (hb : ad 200 = b) (h : x_R n t tB f g F G) (hj : 6 * j + 5 < L) (hL : L ≤ 3072) (hkc : kc ≤ 500000) (hks : ks ≤ 7000000) (K : l_K C b j kc ks (alX n sB tB)) : gg C tyW 4 kc ks (alW (alX n sB tB)) ad 209 [some (.ref 200), some (.ref 0), some (.ref 100), some (.int (nI (6 * j)))] [] (hW (f, g, rfX n sB tB) (F, G, rfM)) := by
  refine g_aload_1 (pc := 209) E dL_law_209 ?_
  refine g_aload_0 (pc := 210) E dL_law_210 ?_
  refine g_iload_3 (pc := 211) E dL_law_211 ?_
  refine g_iconst (pc := 212) (v := 1) E dL_law_212 (by decide) ?_
  refine g_iadd (pc := 213) E dL_law_213 ?_
  refine g_sld (pc := 214) E S hb (s_in (k := 1) (by omega) hL) dL_law_214 ?_
  refine g_aload_0 (pc := 215) E dL_law_215 ?_
  refine g_iload_3 (pc := 216) E dL_law_216 ?_
  refine g_iconst (pc := 217) (v := 2) E dL_law_217 (by decide) ?_
  refine g_iadd (pc := 218) E dL_law_218 ?_
  refine g_sld (pc := 219) E S hb (s_in (k := 2) (by omega) hL) dL_law_219 ?_
  refine g_aload_0 (pc := 220) E dL_law_220 ?_
  refine g_iload_3 (pc := 221) E dL_law_221 ?_
  refine g_iconst (pc := 222) (v := 3) E dL_law_222 (by decide) ?_
  refine g_iadd (pc := 223) E dL_law_223 ?_
  refine g_sld (pc := 224) E S hb (s_in (k := 3) (by omega) hL) dL_law_224 ?_
  refine g_aload_0 (pc := 225) E dL_law_225 ?_
  refine g_iload_3 (pc := 226) E dL_law_226 ?_
  refine g_iconst (pc := 227) (v := 4) E dL_law_227 (by decide) ?_
  refine g_iadd (pc := 228) E dL_law_228 ?_
  refine g_sld (pc := 229) E S hb (s_in (k := 4) (by omega) hL) dL_law_229 ?_
  have n10 := h.n10
  refine l_XN (pc := 230) E V (c_X7_cell h.cX h.n10 _ _ _ _) cw_L_18 rfl rfl (by decide) (by decide) (by first | omega | (split <;> omega)) (by first | omega | (split <;> omega)) rfl (Nat.le_of_ble_eq_true rfl) (alX_100 h.n10) rfl (fun r2 al2 h2 hp => ?_) dL_law_230 rfl (fun r2 al2 h2 px ad1 hd1 E => ?_)
  · rcases hp with ⟨-, h9, rfl, rfl, rfl⟩ | ⟨-, -, rfl, rfl, rfl⟩ | ⟨-, rfl, rfl, rfl⟩
    · exact ⟨alX_100 (by omega), fun x k c q => rfX_lt (show n + 1 ≤ 10 by omega) q, rfl⟩
    · exact ⟨alX_100 n10, fun x k c q => rfX_lt n10 q, rfl⟩
    · exact ⟨alX_100 n10, fun x k c q => rfX_lt n10 q, rfl⟩
  have hz : (∃ vx : Int32, r2 = some (.int vx)) ∧ (∀ x k c, h2.2.2 x k = some c → c < 100) ∧ kc + 2 + l_ck (alX n sB tB) ≤ kc + 6 + l_ck al2 ∧ ks + 37 + l_cs (alX n sB tB) ≤ ks + 1504 + l_cs al2 := by
    rcases px with ⟨-, h9, rfl, rfl, rfl⟩ | ⟨-, -, rfl, rfl, rfl⟩ | ⟨-, rfl, rfl, rfl⟩
    · exact ⟨⟨_, rfl⟩, fun x k c q => rfX_lt (show n + 1 ≤ 10 by omega) q, by rw [l_ckX, l_ckX]; omega, by rw [l_csX, l_csX]; omega⟩
    · exact ⟨⟨_, rfl⟩, fun x k c q => rfX_lt n10 q, by omega, by omega⟩
    · exact ⟨⟨_, rfl⟩, fun x k c q => rfX_lt n10 q, by omega, by omega⟩
  obtain ⟨⟨vx, rfl⟩, hrx, hck, hcs⟩ := hz
  have hb0 := hb
  have hb := hd1.trans hb0
  refine g_aload_2 (pc := 233) E dL_law_233 ?_
  refine g_aload_0 (pc := 234) E dL_law_234 ?_
  refine g_iload_3 (pc := 235) E dL_law_235 ?_
  refine g_iconst (pc := 236) (v := 1) E dL_law_236 (by decide) ?_
  refine g_iadd (pc := 237) E dL_law_237 ?_
  refine g_sld (pc := 238) E S hb (s_in (k := 1) (by omega) hL) dL_law_238 ?_
  refine g_aload_0 (pc := 239) E dL_law_239 ?_
  refine g_iload_3 (pc := 240) E dL_law_240 ?_
  refine g_iconst (pc := 241) (v := 2) E dL_law_241 (by decide) ?_
  refine g_iadd (pc := 242) E dL_law_242 ?_
  refine g_sld (pc := 243) E S hb (s_in (k := 2) (by omega) hL) dL_law_243 ?_
  refine g_aload_0 (pc := 244) E dL_law_244 ?_
  refine g_iload_3 (pc := 245) E dL_law_245 ?_
  refine g_iconst (pc := 246) (v := 3) E dL_law_246 (by decide) ?_
  refine g_iadd (pc := 247) E dL_law_247 ?_
  refine g_sld (pc := 248) E S hb (s_in (k := 3) (by omega) hL) dL_law_248 ?_
  refine g_aload_0 (pc := 249) E dL_law_249 ?_
  refine g_iload_3 (pc := 250) E dL_law_250 ?_
  refine g_iconst (pc := 251) (v := 4) E dL_law_251 (by decide) ?_
  refine g_iadd (pc := 252) E dL_law_252 ?_
  refine g_sld (pc := 253) E S hb (s_in (k := 4) (by omega) hL) dL_law_253 ?_
  have hb := hb0
  refine l_M (pc := 254) E V (c_X8_cell h.t0 n h.cM h.n10 _ _ _ _) cw_L_21 rfl rfl (by decide) (by decide) (Nat.le_of_ble_eq_true rfl) hrx rfl (fun r3 h3 hp => ?_) dL_law_254 rfl (fun r3 h3 hp ad2 hd2 E => ?_)
  · obtain ⟨v, rfl, hp⟩ := hp
    have e : h3.2.2 = rfM := by
      (repeat' (first | (obtain ⟨_, hp⟩ := (hp : _ ∧ _)) | (obtain ⟨_, hp⟩ := (hp : ∃ _, _)) | (obtain hp | hp := (hp : _ ∨ _))))
      all_goals (rw [hp])
    exact ⟨fun x k c q => rfM_lt (by rw [e] at q; exact q), rfl⟩
  obtain ⟨vm, rfl, pm⟩ := hp
  obtain ⟨hve, hq⟩ := r_cell h px pm
  cases hve
  refine g_icmp_eq (pc := 257) (tgt := 1041) E dL_law_257 (by decide) (fun cc0 => ?_) (fun cc0 => ?_)
  · exact K _ _ _ _ _ _ hq E (hd2.trans (hd1.trans hb)) hck hcs
  · exact absurd rfl cc0
set_option maxHeartbeats 4000000 in
set_option maxRecDepth 100000 in
theorem w_forbid {C : q_Ctx} {ad : Nat → Nat} {b L j n t kc ks : Nat} {xs : Nat → Int32} {sB tB : Bool} {f : Nat → Nat → Int32} {g : Nat → Nat → Int64} {F : Nat → Nat → Int32} {G : Nat → Nat → Int64} (E : q_Ev C cL_law 4 RL (alW (alX n sB tB)) ad 6 136) (V : q_Nv C 600000 7302250) (S : q_Sc C b L xs) (hb : ad 200 = b) (h : x_R n t tB f g F G) (hj : 6 * j + 5 < L) (hL : L ≤ 3072) (hkc : kc ≤ 500000) (hks : ks ≤ 7000000) (K : l_K C b j kc ks (alX n sB tB)) : gg C tyW 4 kc ks (alW (alX n sB tB)) ad 262 [some (.ref 200), some (.ref 0), some (.ref 100), some (.int (nI (6 * j)))] [] (hW (f, g, rfX n sB tB) (F, G, rfM)) := by
  refine g_aload_1 (pc := 262) E dL_law_262 ?_
  refine g_aload_0 (pc := 263) E dL_law_263 ?_
  refine g_iload_3 (pc := 264) E dL_law_264 ?_
  refine g_iconst (pc := 265) (v := 1) E dL_law_265 (by decide) ?_
  refine g_iadd (pc := 266) E dL_law_266 ?_
  refine g_sld (pc := 267) E S hb (s_in (k := 1) (by omega) hL) dL_law_267 ?_
  refine g_aload_0 (pc := 268) E dL_law_268 ?_
  refine g_iload_3 (pc := 269) E dL_law_269 ?_
  refine g_iconst (pc := 270) (v := 2) E dL_law_270 (by decide) ?_
  refine g_iadd (pc := 271) E dL_law_271 ?_
  refine g_sld (pc := 272) E S hb (s_in (k := 2) (by omega) hL) dL_law_272 ?_
  refine g_aload_0 (pc := 273) E dL_law_273 ?_
  refine g_iload_3 (pc := 274) E dL_law_274 ?_
  refine g_iconst (pc := 275) (v := 3) E dL_law_275 (by decide) ?_
  refine g_iadd (pc := 276) E dL_law_276 ?_
  refine g_sld (pc := 277) E S hb (s_in (k := 3) (by omega) hL) dL_law_277 ?_
  refine g_if_eq (pc := 278) (tgt := 285) E dL_law_278 (by decide) (fun c1 => ?_) (fun c1 => ?_)
  · refine g_iconst (pc := 285) (v := 0) E dL_law_285 (by decide) ?_
    refine l_X (pc := 286) E V (c_X7_forbid h.cX h.n10 _ _ _ (Or.inl rfl)) cw_L_22 rfl rfl (by decide) (by decide) rfl (Nat.le_of_ble_eq_true rfl) (alX_100 h.n10) rfl (fun r2 h2 hp => ?_) dL_law_286 rfl (fun r2 h2 hp ad1 hd1 E => ?_)
    · obtain ⟨v, rfl, hp⟩ := hp
      have e : h2.2.2 = rfX n sB tB := by
        (repeat' (first | (obtain ⟨_, hp⟩ := (hp : _ ∧ _)) | (obtain ⟨_, hp⟩ := (hp : ∃ _, _)) | (obtain hp | hp := (hp : _ ∨ _))))
        all_goals (rw [hp])
      exact ⟨fun x k c q => rfX_lt h.n10 (by rw [e] at q; exact q), rfl⟩
    obtain ⟨vx, rfl, px⟩ := hp
    have hrx : ∀ x k c, h2.2.2 x k = some c → c < 100 := by
      have e : h2.2.2 = rfX n sB tB := by
        have hp := px
        (repeat' (first | (obtain ⟨_, hp⟩ := (hp : _ ∧ _)) | (obtain ⟨_, hp⟩ := (hp : ∃ _, _)) | (obtain hp | hp := (hp : _ ∨ _))))
        all_goals (rw [hp])
      exact fun x k c q => rfX_lt h.n10 (by rw [e] at q; exact q)
    have hb0 := hb
    have hb := hd1.trans hb0
    refine g_aload_2 (pc := 289) E dL_law_289 ?_
    refine g_aload_0 (pc := 290) E dL_law_290 ?_
    refine g_iload_3 (pc := 291) E dL_law_291 ?_
    refine g_iconst (pc := 292) (v := 1) E dL_law_292 (by decide) ?_
    refine g_iadd (pc := 293) E dL_law_293 ?_
    refine g_sld (pc := 294) E S hb (s_in (k := 1) (by omega) hL) dL_law_294 ?_
    refine g_aload_0 (pc := 295) E dL_law_295 ?_
    refine g_iload_3 (pc := 296) E dL_law_296 ?_
    refine g_iconst (pc := 297) (v := 2) E dL_law_297 (by decide) ?_
    refine g_iadd (pc := 298) E dL_law_298 ?_
    refine g_sld (pc := 299) E S hb (s_in (k := 2) (by omega) hL) dL_law_299 ?_
    refine g_aload_0 (pc := 300) E dL_law_300 ?_
    refine g_iload_3 (pc := 301) E dL_law_301 ?_
    refine g_iconst (pc := 302) (v := 3) E dL_law_302 (by decide) ?_
    refine g_iadd (pc := 303) E dL_law_303 ?_
    refine g_sld (pc := 304) E S hb (s_in (k := 3) (by omega) hL) dL_law_304 ?_
    have hb := hb0
    refine g_if_eq (pc := 305) (tgt := 312) E dL_law_305 (by decide) (fun c2 => ?_) (fun c2 => ?_)
    · refine g_iconst (pc := 312) (v := 0) E dL_law_312 (by decide) ?_
      refine l_M (pc := 313) E V (c_X8_forbid h.t0 n h.cM h.n10 _ _ _ (Or.inl rfl)) cw_L_26 rfl rfl (by decide) (by decide) (Nat.le_of_ble_eq_true rfl) hrx rfl (fun r3 h3 hp => ?_) dL_law_313 rfl (fun r3 h3 hp ad2 hd2 E => ?_)
      · obtain ⟨v, rfl, hp⟩ := hp
        have e : h3.2.2 = rfM := by
          (repeat' (first | (obtain ⟨_, hp⟩ := (hp : _ ∧ _)) | (obtain ⟨_, hp⟩ := (hp : ∃ _, _)) | (obtain hp | hp := (hp : _ ∨ _))))
          all_goals (rw [hp])
        exact ⟨fun x k c q => rfM_lt (by rw [e] at q; exact q), rfl⟩
      obtain ⟨vm, rfl, pm⟩ := hp
      obtain ⟨hve, hq⟩ := r_forbid h (Or.inl rfl) px pm
      refine g_icmp_eq (pc := 316) (tgt := 1041) E dL_law_316 (by decide) (fun cc0 => ?_) (fun cc0 => ?_)
      · exact K _ _ _ _ _ _ hq E (hd2.trans (hd1.trans hb)) (by omega) (by omega)
      · exact absurd hve cc0
    · exact absurd c1 c2
  · refine g_iconst (pc := 281) (v := 1) E dL_law_281 (by decide) ?_
    refine g_goto (pc := 282) (tgt := 286) E dL_law_282 (by decide) ?_
    refine l_X (pc := 286) E V (c_X7_forbid h.cX h.n10 _ _ _ (Or.inr rfl)) cw_L_22 rfl rfl (by decide) (by decide) rfl (Nat.le_of_ble_eq_true rfl) (alX_100 h.n10) rfl (fun r2 h2 hp => ?_) dL_law_286 rfl (fun r2 h2 hp ad1 hd1 E => ?_)
    · obtain ⟨v, rfl, hp⟩ := hp
      have e : h2.2.2 = rfX n sB tB := by
        (repeat' (first | (obtain ⟨_, hp⟩ := (hp : _ ∧ _)) | (obtain ⟨_, hp⟩ := (hp : ∃ _, _)) | (obtain hp | hp := (hp : _ ∨ _))))
        all_goals (rw [hp])
      exact ⟨fun x k c q => rfX_lt h.n10 (by rw [e] at q; exact q), rfl⟩
    obtain ⟨vx, rfl, px⟩ := hp
    have hrx : ∀ x k c, h2.2.2 x k = some c → c < 100 := by
      have e : h2.2.2 = rfX n sB tB := by
        have hp := px
        (repeat' (first | (obtain ⟨_, hp⟩ := (hp : _ ∧ _)) | (obtain ⟨_, hp⟩ := (hp : ∃ _, _)) | (obtain hp | hp := (hp : _ ∨ _))))
        all_goals (rw [hp])
      exact fun x k c q => rfX_lt h.n10 (by rw [e] at q; exact q)
    have hb0 := hb
    have hb := hd1.trans hb0
    refine g_aload_2 (pc := 289) E dL_law_289 ?_
    refine g_aload_0 (pc := 290) E dL_law_290 ?_
    refine g_iload_3 (pc := 291) E dL_law_291 ?_
    refine g_iconst (pc := 292) (v := 1) E dL_law_292 (by decide) ?_
    refine g_iadd (pc := 293) E dL_law_293 ?_
    refine g_sld (pc := 294) E S hb (s_in (k := 1) (by omega) hL) dL_law_294 ?_
    refine g_aload_0 (pc := 295) E dL_law_295 ?_
    refine g_iload_3 (pc := 296) E dL_law_296 ?_
    refine g_iconst (pc := 297) (v := 2) E dL_law_297 (by decide) ?_
    refine g_iadd (pc := 298) E dL_law_298 ?_
    refine g_sld (pc := 299) E S hb (s_in (k := 2) (by omega) hL) dL_law_299 ?_
    refine g_aload_0 (pc := 300) E dL_law_300 ?_
    refine g_iload_3 (pc := 301) E dL_law_301 ?_
    refine g_iconst (pc := 302) (v := 3) E dL_law_302 (by decide) ?_
    refine g_iadd (pc := 303) E dL_law_303 ?_
    refine g_sld (pc := 304) E S hb (s_in (k := 3) (by omega) hL) dL_law_304 ?_
    have hb := hb0
    refine g_if_eq (pc := 305) (tgt := 312) E dL_law_305 (by decide) (fun c2 => ?_) (fun c2 => ?_)
    · exact absurd c2 c1
    · refine g_iconst (pc := 308) (v := 1) E dL_law_308 (by decide) ?_
      refine g_goto (pc := 309) (tgt := 313) E dL_law_309 (by decide) ?_
      refine l_M (pc := 313) E V (c_X8_forbid h.t0 n h.cM h.n10 _ _ _ (Or.inr rfl)) cw_L_26 rfl rfl (by decide) (by decide) (Nat.le_of_ble_eq_true rfl) hrx rfl (fun r3 h3 hp => ?_) dL_law_313 rfl (fun r3 h3 hp ad2 hd2 E => ?_)
      · obtain ⟨v, rfl, hp⟩ := hp
        have e : h3.2.2 = rfM := by
          (repeat' (first | (obtain ⟨_, hp⟩ := (hp : _ ∧ _)) | (obtain ⟨_, hp⟩ := (hp : ∃ _, _)) | (obtain hp | hp := (hp : _ ∨ _))))
          all_goals (rw [hp])
        exact ⟨fun x k c q => rfM_lt (by rw [e] at q; exact q), rfl⟩
      obtain ⟨vm, rfl, pm⟩ := hp
      obtain ⟨hve, hq⟩ := r_forbid h (Or.inr rfl) px pm
      refine g_icmp_eq (pc := 316) (tgt := 1041) E dL_law_316 (by decide) (fun cc0 => ?_) (fun cc0 => ?_)
      · exact K _ _ _ _ _ _ hq E (hd2.trans (hd1.trans hb)) (by omega) (by omega)
      · exact absurd hve cc0
set_option maxHeartbeats 4000000 in
set_option maxRecDepth 100000 in
theorem w_rain {C : q_Ctx} {ad : Nat → Nat} {b L j n t kc ks : Nat} {xs : Nat → Int32} {sB tB : Bool} {f : Nat → Nat → Int32} {g : Nat → Nat → Int64} {F : Nat → Nat → Int32} {G : Nat → Nat → Int64} (E : q_Ev C cL_law 4 RL (alW (alX n sB tB)) ad 6 136) (V : q_Nv C 600000 7302250) (S : q_Sc C b L xs) (hb : ad 200 = b) (h : x_R n t tB f g F G) (hj : 6 * j + 5 < L) (hL : L ≤ 3072) (hkc : kc ≤ 500000) (hks : ks ≤ 7000000) (K : l_K C b j kc ks (alX n sB tB)) : gg C tyW 4 kc ks (alW (alX n sB tB)) ad 321 [some (.ref 200), some (.ref 0), some (.ref 100), some (.int (nI (6 * j)))] [] (hW (f, g, rfX n sB tB) (F, G, rfM)) := by
  refine g_aload_1 (pc := 321) E dL_law_321 ?_
  refine g_aload_0 (pc := 322) E dL_law_322 ?_
  refine g_iload_3 (pc := 323) E dL_law_323 ?_
  refine g_iconst (pc := 324) (v := 1) E dL_law_324 (by decide) ?_
  refine g_iadd (pc := 325) E dL_law_325 ?_
  refine g_sld (pc := 326) E S hb (s_in (k := 1) (by omega) hL) dL_law_326 ?_
  refine g_aload_0 (pc := 327) E dL_law_327 ?_
  refine g_iload_3 (pc := 328) E dL_law_328 ?_
  refine g_iconst (pc := 329) (v := 2) E dL_law_329 (by decide) ?_
  refine g_iadd (pc := 330) E dL_law_330 ?_
  refine g_sld (pc := 331) E S hb (s_in (k := 2) (by omega) hL) dL_law_331 ?_
  refine l_X (pc := 332) E V (c_X7_rain h.cX h.n10 _ _) cw_L_27 rfl rfl (by decide) (by decide) rfl (Nat.le_of_ble_eq_true rfl) (alX_100 h.n10) rfl (fun r2 h2 hp => ?_) dL_law_332 rfl (fun r2 h2 hp ad1 hd1 E => ?_)
  · obtain ⟨v, rfl, hp⟩ := hp
    have e : h2.2.2 = rfX n sB tB := by
      (repeat' (first | (obtain ⟨_, hp⟩ := (hp : _ ∧ _)) | (obtain ⟨_, hp⟩ := (hp : ∃ _, _)) | (obtain hp | hp := (hp : _ ∨ _))))
      all_goals (rw [hp])
    exact ⟨fun x k c q => rfX_lt h.n10 (by rw [e] at q; exact q), rfl⟩
  obtain ⟨vx, rfl, px⟩ := hp
  have hrx : ∀ x k c, h2.2.2 x k = some c → c < 100 := by
    have e : h2.2.2 = rfX n sB tB := by
      have hp := px
      (repeat' (first | (obtain ⟨_, hp⟩ := (hp : _ ∧ _)) | (obtain ⟨_, hp⟩ := (hp : ∃ _, _)) | (obtain hp | hp := (hp : _ ∨ _))))
      all_goals (rw [hp])
    exact fun x k c q => rfX_lt h.n10 (by rw [e] at q; exact q)
  have hb0 := hb
  have hb := hd1.trans hb0
  refine g_aload_2 (pc := 335) E dL_law_335 ?_
  refine g_aload_0 (pc := 336) E dL_law_336 ?_
  refine g_iload_3 (pc := 337) E dL_law_337 ?_
  refine g_iconst (pc := 338) (v := 1) E dL_law_338 (by decide) ?_
  refine g_iadd (pc := 339) E dL_law_339 ?_
  refine g_sld (pc := 340) E S hb (s_in (k := 1) (by omega) hL) dL_law_340 ?_
  refine g_aload_0 (pc := 341) E dL_law_341 ?_
  refine g_iload_3 (pc := 342) E dL_law_342 ?_
  refine g_iconst (pc := 343) (v := 2) E dL_law_343 (by decide) ?_
  refine g_iadd (pc := 344) E dL_law_344 ?_
  refine g_sld (pc := 345) E S hb (s_in (k := 2) (by omega) hL) dL_law_345 ?_
  have hb := hb0
  refine l_M (pc := 346) E V (c_X8_rain h.t0 n h.cM h.n10 _ _) cw_L_31 rfl rfl (by decide) (by decide) (Nat.le_of_ble_eq_true rfl) hrx rfl (fun r3 h3 hp => ?_) dL_law_346 rfl (fun r3 h3 hp ad2 hd2 E => ?_)
  · obtain ⟨v, rfl, hp⟩ := hp
    have e : h3.2.2 = rfM := by
      (repeat' (first | (obtain ⟨_, hp⟩ := (hp : _ ∧ _)) | (obtain ⟨_, hp⟩ := (hp : ∃ _, _)) | (obtain hp | hp := (hp : _ ∨ _))))
      all_goals (rw [hp])
    exact ⟨fun x k c q => rfM_lt (by rw [e] at q; exact q), rfl⟩
  obtain ⟨vm, rfl, pm⟩ := hp
  obtain ⟨hve, hq⟩ := r_rain h px pm
  refine g_icmp_eq (pc := 349) (tgt := 1041) E dL_law_349 (by decide) (fun cc0 => ?_) (fun cc0 => ?_)
  · exact K _ _ _ _ _ _ hq E (hd2.trans (hd1.trans hb)) (by omega) (by omega)
  · exact absurd hve cc0
set_option maxHeartbeats 4000000 in
set_option maxRecDepth 100000 in
theorem w_gateway {C : q_Ctx} {ad : Nat → Nat} {b L j n t kc ks : Nat} {xs : Nat → Int32} {sB tB : Bool} {f : Nat → Nat → Int32} {g : Nat → Nat → Int64} {F : Nat → Nat → Int32} {G : Nat → Nat → Int64} (E : q_Ev C cL_law 4 RL (alW (alX n sB tB)) ad 6 136) (V : q_Nv C 600000 7302250) (S : q_Sc C b L xs) (hb : ad 200 = b) (h : x_R n t tB f g F G) (hj : 6 * j + 5 < L) (hL : L ≤ 3072) (hkc : kc ≤ 500000) (hks : ks ≤ 7000000) (K : l_K C b j kc ks (alX n sB tB)) : gg C tyW 4 kc ks (alW (alX n sB tB)) ad 354 [some (.ref 200), some (.ref 0), some (.ref 100), some (.int (nI (6 * j)))] [] (hW (f, g, rfX n sB tB) (F, G, rfM)) := by
  refine g_aload_1 (pc := 354) E dL_law_354 ?_
  refine g_aload_0 (pc := 355) E dL_law_355 ?_
  refine g_iload_3 (pc := 356) E dL_law_356 ?_
  refine g_iconst (pc := 357) (v := 1) E dL_law_357 (by decide) ?_
  refine g_iadd (pc := 358) E dL_law_358 ?_
  refine g_sld (pc := 359) E S hb (s_in (k := 1) (by omega) hL) dL_law_359 ?_
  refine g_aload_0 (pc := 360) E dL_law_360 ?_
  refine g_iload_3 (pc := 361) E dL_law_361 ?_
  refine g_iconst (pc := 362) (v := 2) E dL_law_362 (by decide) ?_
  refine g_iadd (pc := 363) E dL_law_363 ?_
  refine g_sld (pc := 364) E S hb (s_in (k := 2) (by omega) hL) dL_law_364 ?_
  refine g_aload_0 (pc := 365) E dL_law_365 ?_
  refine g_iload_3 (pc := 366) E dL_law_366 ?_
  refine g_iconst (pc := 367) (v := 3) E dL_law_367 (by decide) ?_
  refine g_iadd (pc := 368) E dL_law_368 ?_
  refine g_sld (pc := 369) E S hb (s_in (k := 3) (by omega) hL) dL_law_369 ?_
  refine g_if_eq (pc := 370) (tgt := 377) E dL_law_370 (by decide) (fun c1 => ?_) (fun c1 => ?_)
  · refine g_iconst (pc := 377) (v := 0) E dL_law_377 (by decide) ?_
    refine l_X (pc := 378) E V (c_X7_gateway _ _ _ (Or.inl rfl)) cw_L_32 rfl rfl (by decide) (by decide) rfl (Nat.le_of_ble_eq_true rfl) (alX_100 h.n10) rfl (fun r2 h2 hp => ?_) dL_law_378 rfl (fun r2 h2 hp ad1 hd1 E => ?_)
    · obtain ⟨v, rfl, hp⟩ := hp
      have e : h2.2.2 = rfX n sB tB := by
        (repeat' (first | (obtain ⟨_, hp⟩ := (hp : _ ∧ _)) | (obtain ⟨_, hp⟩ := (hp : ∃ _, _)) | (obtain hp | hp := (hp : _ ∨ _))))
        all_goals (rw [hp])
      exact ⟨fun x k c q => rfX_lt h.n10 (by rw [e] at q; exact q), rfl⟩
    obtain ⟨vx, rfl, px⟩ := hp
    have hrx : ∀ x k c, h2.2.2 x k = some c → c < 100 := by
      have e : h2.2.2 = rfX n sB tB := by
        have hp := px
        (repeat' (first | (obtain ⟨_, hp⟩ := (hp : _ ∧ _)) | (obtain ⟨_, hp⟩ := (hp : ∃ _, _)) | (obtain hp | hp := (hp : _ ∨ _))))
        all_goals (rw [hp])
      exact fun x k c q => rfX_lt h.n10 (by rw [e] at q; exact q)
    have hb0 := hb
    have hb := hd1.trans hb0
    refine g_aload_2 (pc := 381) E dL_law_381 ?_
    refine g_aload_0 (pc := 382) E dL_law_382 ?_
    refine g_iload_3 (pc := 383) E dL_law_383 ?_
    refine g_iconst (pc := 384) (v := 1) E dL_law_384 (by decide) ?_
    refine g_iadd (pc := 385) E dL_law_385 ?_
    refine g_sld (pc := 386) E S hb (s_in (k := 1) (by omega) hL) dL_law_386 ?_
    refine g_aload_0 (pc := 387) E dL_law_387 ?_
    refine g_iload_3 (pc := 388) E dL_law_388 ?_
    refine g_iconst (pc := 389) (v := 2) E dL_law_389 (by decide) ?_
    refine g_iadd (pc := 390) E dL_law_390 ?_
    refine g_sld (pc := 391) E S hb (s_in (k := 2) (by omega) hL) dL_law_391 ?_
    refine g_aload_0 (pc := 392) E dL_law_392 ?_
    refine g_iload_3 (pc := 393) E dL_law_393 ?_
    refine g_iconst (pc := 394) (v := 3) E dL_law_394 (by decide) ?_
    refine g_iadd (pc := 395) E dL_law_395 ?_
    refine g_sld (pc := 396) E S hb (s_in (k := 3) (by omega) hL) dL_law_396 ?_
    have hb := hb0
    refine g_if_eq (pc := 397) (tgt := 404) E dL_law_397 (by decide) (fun c2 => ?_) (fun c2 => ?_)
    · refine g_iconst (pc := 404) (v := 0) E dL_law_404 (by decide) ?_
      refine l_M (pc := 405) E V (c_X8_gateway h.t0 _ _ _ (Or.inl rfl)) cw_L_36 rfl rfl (by decide) (by decide) (Nat.le_of_ble_eq_true rfl) hrx rfl (fun r3 h3 hp => ?_) dL_law_405 rfl (fun r3 h3 hp ad2 hd2 E => ?_)
      · obtain ⟨v, rfl, hp⟩ := hp
        have e : h3.2.2 = rfM := by
          (repeat' (first | (obtain ⟨_, hp⟩ := (hp : _ ∧ _)) | (obtain ⟨_, hp⟩ := (hp : ∃ _, _)) | (obtain hp | hp := (hp : _ ∨ _))))
          all_goals (rw [hp])
        exact ⟨fun x k c q => rfM_lt (by rw [e] at q; exact q), rfl⟩
      obtain ⟨vm, rfl, pm⟩ := hp
      obtain ⟨hve, hq⟩ := r_gateway h px pm
      refine g_icmp_eq (pc := 408) (tgt := 1041) E dL_law_408 (by decide) (fun cc0 => ?_) (fun cc0 => ?_)
      · exact K _ _ _ _ _ _ hq E (hd2.trans (hd1.trans hb)) (by omega) (by omega)
      · exact absurd hve cc0
    · exact absurd c1 c2
  · refine g_iconst (pc := 373) (v := 1) E dL_law_373 (by decide) ?_
    refine g_goto (pc := 374) (tgt := 378) E dL_law_374 (by decide) ?_
    refine l_X (pc := 378) E V (c_X7_gateway _ _ _ (Or.inr rfl)) cw_L_32 rfl rfl (by decide) (by decide) rfl (Nat.le_of_ble_eq_true rfl) (alX_100 h.n10) rfl (fun r2 h2 hp => ?_) dL_law_378 rfl (fun r2 h2 hp ad1 hd1 E => ?_)
    · obtain ⟨v, rfl, hp⟩ := hp
      have e : h2.2.2 = rfX n sB tB := by
        (repeat' (first | (obtain ⟨_, hp⟩ := (hp : _ ∧ _)) | (obtain ⟨_, hp⟩ := (hp : ∃ _, _)) | (obtain hp | hp := (hp : _ ∨ _))))
        all_goals (rw [hp])
      exact ⟨fun x k c q => rfX_lt h.n10 (by rw [e] at q; exact q), rfl⟩
    obtain ⟨vx, rfl, px⟩ := hp
    have hrx : ∀ x k c, h2.2.2 x k = some c → c < 100 := by
      have e : h2.2.2 = rfX n sB tB := by
        have hp := px
        (repeat' (first | (obtain ⟨_, hp⟩ := (hp : _ ∧ _)) | (obtain ⟨_, hp⟩ := (hp : ∃ _, _)) | (obtain hp | hp := (hp : _ ∨ _))))
        all_goals (rw [hp])
      exact fun x k c q => rfX_lt h.n10 (by rw [e] at q; exact q)
    have hb0 := hb
    have hb := hd1.trans hb0
    refine g_aload_2 (pc := 381) E dL_law_381 ?_
    refine g_aload_0 (pc := 382) E dL_law_382 ?_
    refine g_iload_3 (pc := 383) E dL_law_383 ?_
    refine g_iconst (pc := 384) (v := 1) E dL_law_384 (by decide) ?_
    refine g_iadd (pc := 385) E dL_law_385 ?_
    refine g_sld (pc := 386) E S hb (s_in (k := 1) (by omega) hL) dL_law_386 ?_
    refine g_aload_0 (pc := 387) E dL_law_387 ?_
    refine g_iload_3 (pc := 388) E dL_law_388 ?_
    refine g_iconst (pc := 389) (v := 2) E dL_law_389 (by decide) ?_
    refine g_iadd (pc := 390) E dL_law_390 ?_
    refine g_sld (pc := 391) E S hb (s_in (k := 2) (by omega) hL) dL_law_391 ?_
    refine g_aload_0 (pc := 392) E dL_law_392 ?_
    refine g_iload_3 (pc := 393) E dL_law_393 ?_
    refine g_iconst (pc := 394) (v := 3) E dL_law_394 (by decide) ?_
    refine g_iadd (pc := 395) E dL_law_395 ?_
    refine g_sld (pc := 396) E S hb (s_in (k := 3) (by omega) hL) dL_law_396 ?_
    have hb := hb0
    refine g_if_eq (pc := 397) (tgt := 404) E dL_law_397 (by decide) (fun c2 => ?_) (fun c2 => ?_)
    · exact absurd c2 c1
    · refine g_iconst (pc := 400) (v := 1) E dL_law_400 (by decide) ?_
      refine g_goto (pc := 401) (tgt := 405) E dL_law_401 (by decide) ?_
      refine l_M (pc := 405) E V (c_X8_gateway h.t0 _ _ _ (Or.inr rfl)) cw_L_36 rfl rfl (by decide) (by decide) (Nat.le_of_ble_eq_true rfl) hrx rfl (fun r3 h3 hp => ?_) dL_law_405 rfl (fun r3 h3 hp ad2 hd2 E => ?_)
      · obtain ⟨v, rfl, hp⟩ := hp
        have e : h3.2.2 = rfM := by
          (repeat' (first | (obtain ⟨_, hp⟩ := (hp : _ ∧ _)) | (obtain ⟨_, hp⟩ := (hp : ∃ _, _)) | (obtain hp | hp := (hp : _ ∨ _))))
          all_goals (rw [hp])
        exact ⟨fun x k c q => rfM_lt (by rw [e] at q; exact q), rfl⟩
      obtain ⟨vm, rfl, pm⟩ := hp
      obtain ⟨hve, hq⟩ := r_gateway h px pm
      refine g_icmp_eq (pc := 408) (tgt := 1041) E dL_law_408 (by decide) (fun cc0 => ?_) (fun cc0 => ?_)
      · exact K _ _ _ _ _ _ hq E (hd2.trans (hd1.trans hb)) (by omega) (by omega)
      · exact absurd hve cc0
set_option maxHeartbeats 4000000 in
set_option maxRecDepth 100000 in
theorem w_swap {C : q_Ctx} {ad : Nat → Nat} {b L j n t kc ks : Nat} {xs : Nat → Int32} {sB tB : Bool} {f : Nat → Nat → Int32} {g : Nat → Nat → Int64} {F : Nat → Nat → Int32} {G : Nat → Nat → Int64} (E : q_Ev C cL_law 4 RL (alW (alX n sB tB)) ad 6 136) (V : q_Nv C 600000 7302250) (S : q_Sc C b L xs) (hb : ad 200 = b) (h : x_R n t tB f g F G) (hj : 6 * j + 5 < L) (hL : L ≤ 3072) (hkc : kc ≤ 500000) (hks : ks ≤ 7000000) (K : l_K C b j kc ks (alX n sB tB)) : gg C tyW 4 kc ks (alW (alX n sB tB)) ad 413 [some (.ref 200), some (.ref 0), some (.ref 100), some (.int (nI (6 * j)))] [] (hW (f, g, rfX n sB tB) (F, G, rfM)) := by
  refine g_aload_1 (pc := 413) E dL_law_413 ?_
  refine g_aload_0 (pc := 414) E dL_law_414 ?_
  refine g_iload_3 (pc := 415) E dL_law_415 ?_
  refine g_iconst (pc := 416) (v := 1) E dL_law_416 (by decide) ?_
  refine g_iadd (pc := 417) E dL_law_417 ?_
  refine g_sld (pc := 418) E S hb (s_in (k := 1) (by omega) hL) dL_law_418 ?_
  refine g_aload_0 (pc := 419) E dL_law_419 ?_
  refine g_iload_3 (pc := 420) E dL_law_420 ?_
  refine g_iconst (pc := 421) (v := 2) E dL_law_421 (by decide) ?_
  refine g_iadd (pc := 422) E dL_law_422 ?_
  refine g_sld (pc := 423) E S hb (s_in (k := 2) (by omega) hL) dL_law_423 ?_
  refine l_X (pc := 424) E V (c_X7_swap h.cX h.n10 _ _) cw_L_37 rfl rfl (by decide) (by decide) rfl (Nat.le_of_ble_eq_true rfl) (alX_100 h.n10) rfl (fun r2 h2 hp => ?_) dL_law_424 rfl (fun r2 h2 hp ad1 hd1 E => ?_)
  · obtain ⟨v, rfl, hp⟩ := hp
    have e : h2.2.2 = rfX n sB tB := by
      (repeat' (first | (obtain ⟨_, hp⟩ := (hp : _ ∧ _)) | (obtain ⟨_, hp⟩ := (hp : ∃ _, _)) | (obtain hp | hp := (hp : _ ∨ _))))
      all_goals (rw [hp])
    exact ⟨fun x k c q => rfX_lt h.n10 (by rw [e] at q; exact q), rfl⟩
  obtain ⟨vx, rfl, px⟩ := hp
  have hrx : ∀ x k c, h2.2.2 x k = some c → c < 100 := by
    have e : h2.2.2 = rfX n sB tB := by
      have hp := px
      (repeat' (first | (obtain ⟨_, hp⟩ := (hp : _ ∧ _)) | (obtain ⟨_, hp⟩ := (hp : ∃ _, _)) | (obtain hp | hp := (hp : _ ∨ _))))
      all_goals (rw [hp])
    exact fun x k c q => rfX_lt h.n10 (by rw [e] at q; exact q)
  have hb0 := hb
  have hb := hd1.trans hb0
  refine g_aload_2 (pc := 427) E dL_law_427 ?_
  refine g_aload_0 (pc := 428) E dL_law_428 ?_
  refine g_iload_3 (pc := 429) E dL_law_429 ?_
  refine g_iconst (pc := 430) (v := 1) E dL_law_430 (by decide) ?_
  refine g_iadd (pc := 431) E dL_law_431 ?_
  refine g_sld (pc := 432) E S hb (s_in (k := 1) (by omega) hL) dL_law_432 ?_
  refine g_aload_0 (pc := 433) E dL_law_433 ?_
  refine g_iload_3 (pc := 434) E dL_law_434 ?_
  refine g_iconst (pc := 435) (v := 2) E dL_law_435 (by decide) ?_
  refine g_iadd (pc := 436) E dL_law_436 ?_
  refine g_sld (pc := 437) E S hb (s_in (k := 2) (by omega) hL) dL_law_437 ?_
  have hb := hb0
  refine l_M (pc := 438) E V (c_X8_swap h.t0 n h.cM h.n10 _ _) cw_L_40 rfl rfl (by decide) (by decide) (Nat.le_of_ble_eq_true rfl) hrx rfl (fun r3 h3 hp => ?_) dL_law_438 rfl (fun r3 h3 hp ad2 hd2 E => ?_)
  · obtain ⟨v, rfl, hp⟩ := hp
    have e : h3.2.2 = rfM := by
      (repeat' (first | (obtain ⟨_, hp⟩ := (hp : _ ∧ _)) | (obtain ⟨_, hp⟩ := (hp : ∃ _, _)) | (obtain hp | hp := (hp : _ ∨ _))))
      all_goals (rw [hp])
    exact ⟨fun x k c q => rfM_lt (by rw [e] at q; exact q), rfl⟩
  obtain ⟨vm, rfl, pm⟩ := hp
  obtain ⟨hve, hq⟩ := r_swap h px pm
  refine g_icmp_eq (pc := 441) (tgt := 1041) E dL_law_441 (by decide) (fun cc0 => ?_) (fun cc0 => ?_)
  · exact K _ _ _ _ _ _ hq E (hd2.trans (hd1.trans hb)) (by omega) (by omega)
  · exact absurd hve cc0
set_option maxHeartbeats 4000000 in
set_option maxRecDepth 100000 in
theorem w_needs {C : q_Ctx} {ad : Nat → Nat} {b L j n t kc ks : Nat} {xs : Nat → Int32} {sB tB : Bool} {f : Nat → Nat → Int32} {g : Nat → Nat → Int64} {F : Nat → Nat → Int32} {G : Nat → Nat → Int64} (E : q_Ev C cL_law 4 RL (alW (alX n sB tB)) ad 6 136) (V : q_Nv C 600000 7302250) (S : q_Sc C b L xs) (hb : ad 200 = b) (h : x_R n t tB f g F G) (hj : 6 * j + 5 < L) (hL : L ≤ 3072) (hkc : kc ≤ 500000) (hks : ks ≤ 7000000) (K : l_K C b j kc ks (alX n sB tB)) : gg C tyW 4 kc ks (alW (alX n sB tB)) ad 446 [some (.ref 200), some (.ref 0), some (.ref 100), some (.int (nI (6 * j)))] [] (hW (f, g, rfX n sB tB) (F, G, rfM)) := by
  refine g_aload_1 (pc := 446) E dL_law_446 ?_
  refine g_aload_0 (pc := 447) E dL_law_447 ?_
  refine g_iload_3 (pc := 448) E dL_law_448 ?_
  refine g_iconst (pc := 449) (v := 1) E dL_law_449 (by decide) ?_
  refine g_iadd (pc := 450) E dL_law_450 ?_
  refine g_sld (pc := 451) E S hb (s_in (k := 1) (by omega) hL) dL_law_451 ?_
  refine l_X (pc := 452) E V (c_X7_needs h.cX h.n10 h.hlen _) cw_L_41 rfl rfl (by decide) (by decide) rfl (Nat.le_of_ble_eq_true rfl) (alX_100 h.n10) rfl (fun r2 h2 hp => ?_) dL_law_452 rfl (fun r2 h2 hp ad1 hd1 E => ?_)
  · obtain ⟨v, rfl, hp⟩ := hp
    have e : h2.2.2 = rfX n sB tB := by
      (repeat' (first | (obtain ⟨_, hp⟩ := (hp : _ ∧ _)) | (obtain ⟨_, hp⟩ := (hp : ∃ _, _)) | (obtain hp | hp := (hp : _ ∨ _))))
      all_goals (rw [hp])
    exact ⟨fun x k c q => rfX_lt h.n10 (by rw [e] at q; exact q), rfl⟩
  obtain ⟨vx, rfl, px⟩ := hp
  have hrx : ∀ x k c, h2.2.2 x k = some c → c < 100 := by
    have e : h2.2.2 = rfX n sB tB := by
      have hp := px
      (repeat' (first | (obtain ⟨_, hp⟩ := (hp : _ ∧ _)) | (obtain ⟨_, hp⟩ := (hp : ∃ _, _)) | (obtain hp | hp := (hp : _ ∨ _))))
      all_goals (rw [hp])
    exact fun x k c q => rfX_lt h.n10 (by rw [e] at q; exact q)
  have hb0 := hb
  have hb := hd1.trans hb0
  refine g_aload_2 (pc := 455) E dL_law_455 ?_
  refine g_aload_0 (pc := 456) E dL_law_456 ?_
  refine g_iload_3 (pc := 457) E dL_law_457 ?_
  refine g_iconst (pc := 458) (v := 1) E dL_law_458 (by decide) ?_
  refine g_iadd (pc := 459) E dL_law_459 ?_
  refine g_sld (pc := 460) E S hb (s_in (k := 1) (by omega) hL) dL_law_460 ?_
  have hb := hb0
  refine l_M (pc := 461) E V (c_X8_needs h.t0 n h.cM h.n10 _) cw_L_45 rfl rfl (by decide) (by decide) (Nat.le_of_ble_eq_true rfl) hrx rfl (fun r3 h3 hp => ?_) dL_law_461 rfl (fun r3 h3 hp ad2 hd2 E => ?_)
  · obtain ⟨v, rfl, hp⟩ := hp
    have e : h3.2.2 = rfM := by
      (repeat' (first | (obtain ⟨_, hp⟩ := (hp : _ ∧ _)) | (obtain ⟨_, hp⟩ := (hp : ∃ _, _)) | (obtain hp | hp := (hp : _ ∨ _))))
      all_goals (rw [hp])
    exact ⟨fun x k c q => rfM_lt (by rw [e] at q; exact q), rfl⟩
  obtain ⟨vm, rfl, pm⟩ := hp
  obtain ⟨hve, hq⟩ := r_needs h px pm
  refine g_icmp_eq (pc := 464) (tgt := 1041) E dL_law_464 (by decide) (fun cc0 => ?_) (fun cc0 => ?_)
  · exact K _ _ _ _ _ _ hq E (hd2.trans (hd1.trans hb)) (by omega) (by omega)
  · exact absurd hve cc0
set_option maxHeartbeats 4000000 in
set_option maxRecDepth 100000 in
theorem w_asks {C : q_Ctx} {ad : Nat → Nat} {b L j n t kc ks : Nat} {xs : Nat → Int32} {sB tB : Bool} {f : Nat → Nat → Int32} {g : Nat → Nat → Int64} {F : Nat → Nat → Int32} {G : Nat → Nat → Int64} (E : q_Ev C cL_law 4 RL (alW (alX n sB tB)) ad 6 136) (V : q_Nv C 600000 7302250) (S : q_Sc C b L xs) (hb : ad 200 = b) (h : x_R n t tB f g F G) (hj : 6 * j + 5 < L) (hL : L ≤ 3072) (hkc : kc ≤ 500000) (hks : ks ≤ 7000000) (K : l_K C b j kc ks (alX n sB tB)) : gg C tyW 4 kc ks (alW (alX n sB tB)) ad 469 [some (.ref 200), some (.ref 0), some (.ref 100), some (.int (nI (6 * j)))] [] (hW (f, g, rfX n sB tB) (F, G, rfM)) := by
  refine g_aload_1 (pc := 469) E dL_law_469 ?_
  refine g_aload_0 (pc := 470) E dL_law_470 ?_
  refine g_iload_3 (pc := 471) E dL_law_471 ?_
  refine g_iconst (pc := 472) (v := 1) E dL_law_472 (by decide) ?_
  refine g_iadd (pc := 473) E dL_law_473 ?_
  refine g_sld (pc := 474) E S hb (s_in (k := 1) (by omega) hL) dL_law_474 ?_
  refine l_X (pc := 475) E V (c_X7_asks h.cX h.n10 h.hlen _) cw_L_46 rfl rfl (by decide) (by decide) rfl (Nat.le_of_ble_eq_true rfl) (alX_100 h.n10) rfl (fun r2 h2 hp => ?_) dL_law_475 rfl (fun r2 h2 hp ad1 hd1 E => ?_)
  · obtain ⟨v, rfl, hp⟩ := hp
    have e : h2.2.2 = rfX n sB tB := by
      (repeat' (first | (obtain ⟨_, hp⟩ := (hp : _ ∧ _)) | (obtain ⟨_, hp⟩ := (hp : ∃ _, _)) | (obtain hp | hp := (hp : _ ∨ _))))
      all_goals (rw [hp])
    exact ⟨fun x k c q => rfX_lt h.n10 (by rw [e] at q; exact q), rfl⟩
  obtain ⟨vx, rfl, px⟩ := hp
  have hrx : ∀ x k c, h2.2.2 x k = some c → c < 100 := by
    have e : h2.2.2 = rfX n sB tB := by
      have hp := px
      (repeat' (first | (obtain ⟨_, hp⟩ := (hp : _ ∧ _)) | (obtain ⟨_, hp⟩ := (hp : ∃ _, _)) | (obtain hp | hp := (hp : _ ∨ _))))
      all_goals (rw [hp])
    exact fun x k c q => rfX_lt h.n10 (by rw [e] at q; exact q)
  have hb0 := hb
  have hb := hd1.trans hb0
  refine g_aload_2 (pc := 478) E dL_law_478 ?_
  refine g_aload_0 (pc := 479) E dL_law_479 ?_
  refine g_iload_3 (pc := 480) E dL_law_480 ?_
  refine g_iconst (pc := 481) (v := 1) E dL_law_481 (by decide) ?_
  refine g_iadd (pc := 482) E dL_law_482 ?_
  refine g_sld (pc := 483) E S hb (s_in (k := 1) (by omega) hL) dL_law_483 ?_
  have hb := hb0
  refine l_M (pc := 484) E V (c_X8_asks h.t0 n h.cM h.n10 _) cw_L_49 rfl rfl (by decide) (by decide) (Nat.le_of_ble_eq_true rfl) hrx rfl (fun r3 h3 hp => ?_) dL_law_484 rfl (fun r3 h3 hp ad2 hd2 E => ?_)
  · obtain ⟨v, rfl, hp⟩ := hp
    have e : h3.2.2 = rfM := by
      (repeat' (first | (obtain ⟨_, hp⟩ := (hp : _ ∧ _)) | (obtain ⟨_, hp⟩ := (hp : ∃ _, _)) | (obtain hp | hp := (hp : _ ∨ _))))
      all_goals (rw [hp])
    exact ⟨fun x k c q => rfM_lt (by rw [e] at q; exact q), rfl⟩
  obtain ⟨vm, rfl, pm⟩ := hp
  obtain ⟨hve, hq⟩ := r_asks h px pm
  refine g_icmp_eq (pc := 487) (tgt := 1041) E dL_law_487 (by decide) (fun cc0 => ?_) (fun cc0 => ?_)
  · exact K _ _ _ _ _ _ hq E (hd2.trans (hd1.trans hb)) (by omega) (by omega)
  · exact absurd hve cc0
set_option maxHeartbeats 4000000 in
set_option maxRecDepth 100000 in
theorem w_legal {C : q_Ctx} {ad : Nat → Nat} {b L j n t kc ks : Nat} {xs : Nat → Int32} {sB tB : Bool} {f : Nat → Nat → Int32} {g : Nat → Nat → Int64} {F : Nat → Nat → Int32} {G : Nat → Nat → Int64} (E : q_Ev C cL_law 4 RL (alW (alX n sB tB)) ad 6 136) (V : q_Nv C 600000 7302250) (S : q_Sc C b L xs) (hb : ad 200 = b) (h : x_R n t tB f g F G) (hj : 6 * j + 5 < L) (hL : L ≤ 3072) (hkc : kc ≤ 500000) (hks : ks ≤ 7000000) (K : l_K C b j kc ks (alX n sB tB)) : gg C tyW 4 kc ks (alW (alX n sB tB)) ad 492 [some (.ref 200), some (.ref 0), some (.ref 100), some (.int (nI (6 * j)))] [] (hW (f, g, rfX n sB tB) (F, G, rfM)) := by
  refine g_aload_1 (pc := 492) E dL_law_492 ?_
  refine g_aload_0 (pc := 493) E dL_law_493 ?_
  refine g_iload_3 (pc := 494) E dL_law_494 ?_
  refine g_iconst (pc := 495) (v := 1) E dL_law_495 (by decide) ?_
  refine g_iadd (pc := 496) E dL_law_496 ?_
  refine g_sld (pc := 497) E S hb (s_in (k := 1) (by omega) hL) dL_law_497 ?_
  refine l_X (pc := 498) E V (c_X7_legal h.cX h.n10 h.gtX h.hbm _) cw_L_50 rfl rfl (by decide) (by decide) rfl (Nat.le_of_ble_eq_true rfl) (alX_100 h.n10) rfl (fun r2 h2 hp => ?_) dL_law_498 rfl (fun r2 h2 hp ad1 hd1 E => ?_)
  · obtain ⟨v, rfl, hp⟩ := hp
    have e : h2.2.2 = rfX n sB tB := by
      (repeat' (first | (obtain ⟨_, hp⟩ := (hp : _ ∧ _)) | (obtain ⟨_, hp⟩ := (hp : ∃ _, _)) | (obtain hp | hp := (hp : _ ∨ _))))
      all_goals (rw [hp])
    exact ⟨fun x k c q => rfX_lt h.n10 (by rw [e] at q; exact q), rfl⟩
  obtain ⟨vx, rfl, px⟩ := hp
  have hrx : ∀ x k c, h2.2.2 x k = some c → c < 100 := by
    have e : h2.2.2 = rfX n sB tB := by
      have hp := px
      (repeat' (first | (obtain ⟨_, hp⟩ := (hp : _ ∧ _)) | (obtain ⟨_, hp⟩ := (hp : ∃ _, _)) | (obtain hp | hp := (hp : _ ∨ _))))
      all_goals (rw [hp])
    exact fun x k c q => rfX_lt h.n10 (by rw [e] at q; exact q)
  have hb0 := hb
  have hb := hd1.trans hb0
  refine g_aload_2 (pc := 501) E dL_law_501 ?_
  refine g_aload_0 (pc := 502) E dL_law_502 ?_
  refine g_iload_3 (pc := 503) E dL_law_503 ?_
  refine g_iconst (pc := 504) (v := 1) E dL_law_504 (by decide) ?_
  refine g_iadd (pc := 505) E dL_law_505 ?_
  refine g_sld (pc := 506) E S hb (s_in (k := 1) (by omega) hL) dL_law_506 ?_
  have hb := hb0
  refine l_M (pc := 507) E V (c_X8_legal h.t0 n h.cM h.n10 h.gtM _) cw_L_53 rfl rfl (by decide) (by decide) (Nat.le_of_ble_eq_true rfl) hrx rfl (fun r3 h3 hp => ?_) dL_law_507 rfl (fun r3 h3 hp ad2 hd2 E => ?_)
  · obtain ⟨v, rfl, hp⟩ := hp
    have e : h3.2.2 = rfM := by
      (repeat' (first | (obtain ⟨_, hp⟩ := (hp : _ ∧ _)) | (obtain ⟨_, hp⟩ := (hp : ∃ _, _)) | (obtain hp | hp := (hp : _ ∨ _))))
      all_goals (rw [hp])
    exact ⟨fun x k c q => rfM_lt (by rw [e] at q; exact q), rfl⟩
  obtain ⟨vm, rfl, pm⟩ := hp
  obtain ⟨hve, hq⟩ := r_legal h px pm
  refine g_icmp_eq (pc := 510) (tgt := 1041) E dL_law_510 (by decide) (fun cc0 => ?_) (fun cc0 => ?_)
  · exact K _ _ _ _ _ _ hq E (hd2.trans (hd1.trans hb)) (by omega) (by omega)
  · exact absurd hve cc0
set_option maxHeartbeats 4000000 in
set_option maxRecDepth 100000 in
theorem w_sets {C : q_Ctx} {ad : Nat → Nat} {b L j n t kc ks : Nat} {xs : Nat → Int32} {sB tB : Bool} {f : Nat → Nat → Int32} {g : Nat → Nat → Int64} {F : Nat → Nat → Int32} {G : Nat → Nat → Int64} (E : q_Ev C cL_law 4 RL (alW (alX n sB tB)) ad 6 136) (V : q_Nv C 600000 7302250) (S : q_Sc C b L xs) (hb : ad 200 = b) (h : x_R n t tB f g F G) (hj : 6 * j + 5 < L) (hL : L ≤ 3072) (hkc : kc ≤ 500000) (hks : ks ≤ 7000000) (K : l_K C b j kc ks (alX n sB tB)) : gg C tyW 4 kc ks (alW (alX n sB tB)) ad 515 [some (.ref 200), some (.ref 0), some (.ref 100), some (.int (nI (6 * j)))] [] (hW (f, g, rfX n sB tB) (F, G, rfM)) := by
  refine g_aload_1 (pc := 515) E dL_law_515 ?_
  refine l_X (pc := 516) E V (c_X7_sets h.cX h.n10 h.gtX h.hbm) cw_L_54 rfl rfl (by decide) (by decide) rfl (Nat.le_of_ble_eq_true rfl) (alX_100 h.n10) rfl (fun r2 h2 hp => ?_) dL_law_516 rfl (fun r2 h2 hp ad1 hd1 E => ?_)
  · obtain ⟨v, rfl, hp⟩ := hp
    have e : h2.2.2 = rfX n sB tB := by
      (repeat' (first | (obtain ⟨_, hp⟩ := (hp : _ ∧ _)) | (obtain ⟨_, hp⟩ := (hp : ∃ _, _)) | (obtain hp | hp := (hp : _ ∨ _))))
      all_goals (rw [hp])
    exact ⟨fun x k c q => rfX_lt h.n10 (by rw [e] at q; exact q), rfl⟩
  obtain ⟨vx, rfl, px⟩ := hp
  have hrx : ∀ x k c, h2.2.2 x k = some c → c < 100 := by
    have e : h2.2.2 = rfX n sB tB := by
      have hp := px
      (repeat' (first | (obtain ⟨_, hp⟩ := (hp : _ ∧ _)) | (obtain ⟨_, hp⟩ := (hp : ∃ _, _)) | (obtain hp | hp := (hp : _ ∨ _))))
      all_goals (rw [hp])
    exact fun x k c q => rfX_lt h.n10 (by rw [e] at q; exact q)
  have hb0 := hb
  have hb := hd1.trans hb0
  refine g_aload_2 (pc := 519) E dL_law_519 ?_
  have hb := hb0
  refine l_M (pc := 520) E V (c_X8_sets h.t0 n h.cM h.n10 h.gtM) cw_L_58 rfl rfl (by decide) (by decide) (Nat.le_of_ble_eq_true rfl) hrx rfl (fun r3 h3 hp => ?_) dL_law_520 rfl (fun r3 h3 hp ad2 hd2 E => ?_)
  · obtain ⟨v, rfl, hp⟩ := hp
    have e : h3.2.2 = rfM := by
      (repeat' (first | (obtain ⟨_, hp⟩ := (hp : _ ∧ _)) | (obtain ⟨_, hp⟩ := (hp : ∃ _, _)) | (obtain hp | hp := (hp : _ ∨ _))))
      all_goals (rw [hp])
    exact ⟨fun x k c q => rfM_lt (by rw [e] at q; exact q), rfl⟩
  obtain ⟨vm, rfl, pm⟩ := hp
  obtain ⟨hve, hq⟩ := r_sets h px pm
  refine g_icmp_eq (pc := 523) (tgt := 1041) E dL_law_523 (by decide) (fun cc0 => ?_) (fun cc0 => ?_)
  · exact K _ _ _ _ _ _ hq E (hd2.trans (hd1.trans hb)) (by omega) (by omega)
  · exact absurd hve cc0
set_option maxHeartbeats 4000000 in
set_option maxRecDepth 100000 in
theorem w_fewest {C : q_Ctx} {ad : Nat → Nat} {b L j n t kc ks : Nat} {xs : Nat → Int32} {sB tB : Bool} {f : Nat → Nat → Int32} {g : Nat → Nat → Int64} {F : Nat → Nat → Int32} {G : Nat → Nat → Int64} (E : q_Ev C cL_law 4 RL (alW (alX n sB tB)) ad 6 136) (V : q_Nv C 600000 7302250) (S : q_Sc C b L xs) (hb : ad 200 = b) (h : x_R n t tB f g F G) (hj : 6 * j + 5 < L) (hL : L ≤ 3072) (hkc : kc ≤ 500000) (hks : ks ≤ 7000000) (K : l_K C b j kc ks (alX n sB tB)) : gg C tyW 4 kc ks (alW (alX n sB tB)) ad 528 [some (.ref 200), some (.ref 0), some (.ref 100), some (.int (nI (6 * j)))] [] (hW (f, g, rfX n sB tB) (F, G, rfM)) := by
  obtain ⟨nd, hndX, hndM, hnd0⟩ := h.need
  obtain ⟨R, hR⟩ : ∃ R, b_all n (z_p n f) 5001 0 (b_S0 (z_enc nd 10)) = R := ⟨_, rfl⟩
  have hRb : ¬ z_enc nd 10 = 0 → (∀ c, c < n → 0 < nd c → z_p n f (2 ^ c) = true) → b_ok n (z_enc nd 10) R.2.2.2 ∧ (R.1 = 1 ∨ R.1 = 2) ∧ (R.1 = 1 → R.2.1 < R.2.2.2.1 ∧ R.2.2.1 < 1024 ∧ b_d R.2.2.2.2.2.1 R.2.1 ≤ 89) := fun hne hall => b_R rfl h.n10 (fun c hc => (hndX c hc).2) hnd0 hne hall hR
  obtain ⟨mcF, msF, hmF, hm7, hm0⟩ : ∃ mcF msF : Nat, (sB = false → ¬ z_enc nd 10 = 0 → (∀ c, c < n → 0 < nd c → z_p n f (2 ^ c) = true) → 7 ≤ mcF ∧ 19360 ≤ msF) ∧ (mcF ≤ 7 ∧ msF ≤ 19360) ∧ (¬ (sB = false ∧ ¬ z_enc nd 10 = 0 ∧ ∀ c, c < n → 0 < nd c → z_p n f (2 ^ c) = true) → mcF = 0 ∧ msF = 0) := by
    by_cases q : sB = false ∧ ¬ z_enc nd 10 = 0 ∧ ∀ c, c < n → 0 < nd c → z_p n f (2 ^ c) = true
    · exact ⟨7, 19360, fun _ _ _ => ⟨Nat.le_refl _, Nat.le_refl _⟩, ⟨Nat.le_refl _, Nat.le_refl _⟩, fun z => absurd q z⟩
    · exact ⟨0, 0, fun a1 a2 a3 => absurd ⟨a1, a2, a3⟩ q, ⟨by decide, by decide⟩, fun _ => ⟨rfl, rfl⟩⟩
  refine g_aload_1 (pc := 528) E dL_law_528 ?_
  have n10 := h.n10
  refine l_XN (pc := 529) E V (c_X7_fewest h.cX h.n10 h.gtX h.hbm nd hndX hnd0 h.x11 (z_p n f) rfl R hR hRb (b_R1 hR) mcF msF hmF) cw_L_59 rfl rfl (by decide) (by decide) (by first | omega | (split <;> omega)) (by first | omega | (split <;> omega)) rfl (Nat.le_of_ble_eq_true rfl) (alX_100 h.n10) rfl (fun r2 al2 h2 hp => ?_) dL_law_529 rfl (fun r2 al2 h2 px ad1 hd1 E => ?_)
  · rcases hp with ⟨-, rfl, rfl, rfl⟩ | ⟨-, -, rfl, rfl, rfl⟩ | ⟨-, -, rfl, F2, G2, -, -, hc, rfl⟩
    · exact ⟨alX_100 n10, fun x k c q => rfX_lt n10 q, rfl⟩
    · exact ⟨alX_100 n10, fun x k c q => rfX_lt n10 q, rfl⟩
    · refine ⟨alX_100 n10, fun x k c q => rfX_lt n10 q, ?_⟩
      rcases hc with ⟨-, rfl, -⟩ | ⟨-, rfl, -⟩ <;> rfl
  have hz : (∃ vx : Int32, r2 = some (.int vx)) ∧ (∀ x k c, h2.2.2 x k = some c → c < 100) ∧ kc + mcF + l_ck (alX n sB tB) ≤ kc + 6 + l_ck al2 ∧ ks + msF + l_cs (alX n sB tB) ≤ ks + 1504 + l_cs al2 := by
    rcases px with ⟨z1, rfl, rfl, rfl⟩ | ⟨-, ⟨c, c1, c2, c3⟩, rfl, rfl, rfl⟩ | ⟨-, -, rfl, F2, G2, -, -, hc, rfl⟩
    · obtain ⟨m1, m2⟩ := hm0 (fun q => q.2.1 z1)
      exact ⟨⟨_, rfl⟩, fun x k c q => rfX_lt n10 q, by omega, by omega⟩
    · obtain ⟨m1, m2⟩ := hm0 (fun q => c3 (q.2.2 c c1 c2))
      exact ⟨⟨_, rfl⟩, fun x k c q => rfX_lt n10 q, by omega, by omega⟩
    · refine ⟨?_, fun x k c q => rfX_lt n10 q, ?_, ?_⟩
      · rcases hc with ⟨-, rfl, -⟩ | ⟨-, rfl, -⟩ <;> exact ⟨_, rfl⟩
      · have e2 : l_ck (alX n true tB) = 7 := by rw [l_ckX]; rfl
        rw [e2, l_ckX]
        by_cases q : sB = true
        · obtain ⟨m1, m2⟩ := hm0 (fun z => by rw [z.1] at q; cases q)
          rw [if_pos q]; omega
        · rw [if_neg q]; omega
      · have e2 : l_cs (alX n true tB) = 19360 := by rw [l_csX]; rfl
        rw [e2, l_csX]
        by_cases q : sB = true
        · obtain ⟨m1, m2⟩ := hm0 (fun z => by rw [z.1] at q; cases q)
          rw [if_pos q]; omega
        · rw [if_neg q]; omega
  obtain ⟨⟨vx, rfl⟩, hrx, hck, hcs⟩ := hz
  have hb0 := hb
  have hb := hd1.trans hb0
  refine g_aload_2 (pc := 532) E dL_law_532 ?_
  have hb := hb0
  refine l_M (pc := 533) E V (c_X8_fewest h.t0 n h.cM h.n10 h.gtM nd hndM hnd0 (z_p n f) h.pM R hR (fun q => Nat.le_trans (b_dep9 h.n10 (fun c hc => (hndX c hc).2) hnd0 hR q) (by decide))) cw_L_62 rfl rfl (by decide) (by decide) (Nat.le_of_ble_eq_true rfl) hrx rfl (fun r3 h3 hp => ?_) dL_law_533 rfl (fun r3 h3 hp ad2 hd2 E => ?_)
  · obtain ⟨v, rfl, hp⟩ := hp
    have e : h3.2.2 = rfM := by
      rcases hp with ⟨-, -, F2, -, -, rfl⟩ | ⟨hall, ⟨-, -, F2, -, -, rfl⟩ | ⟨hne, ⟨-, -, F2, -, -, rfl⟩ | ⟨-, -, F2, -, -, rfl⟩ | h33⟩⟩
      · rfl
      · rfl
      · rfl
      · rfl
      · have := (hRb hne hall).2.1
        omega
    exact ⟨fun x k c q => rfM_lt (by rw [e] at q; exact q), rfl⟩
  obtain ⟨vm, rfl, pm⟩ := hp
  obtain ⟨hve, hq⟩ := r_fewest h hRb (b_Rby hR) px pm
  cases hve
  refine g_icmp_eq (pc := 536) (tgt := 1041) E dL_law_536 (by decide) (fun cc0 => ?_) (fun cc0 => ?_)
  · exact K _ _ _ _ _ _ hq E (hd2.trans (hd1.trans hb)) hck hcs
  · exact absurd rfl cc0
set_option maxHeartbeats 4000000 in
set_option maxRecDepth 100000 in
theorem w_frame {C : q_Ctx} {ad : Nat → Nat} {b L j n t kc ks : Nat} {xs : Nat → Int32} {sB tB : Bool} {f : Nat → Nat → Int32} {g : Nat → Nat → Int64} {F : Nat → Nat → Int32} {G : Nat → Nat → Int64} (E : q_Ev C cL_law 4 RL (alW (alX n sB tB)) ad 6 136) (V : q_Nv C 600000 7302250) (S : q_Sc C b L xs) (hb : ad 200 = b) (h : x_R n t tB f g F G) (hj : 6 * j + 5 < L) (hL : L ≤ 3072) (hkc : kc ≤ 500000) (hks : ks ≤ 7000000) (K : l_K C b j kc ks (alX n sB tB)) : gg C tyW 4 kc ks (alW (alX n sB tB)) ad 541 [some (.ref 200), some (.ref 0), some (.ref 100), some (.int (nI (6 * j)))] [] (hW (f, g, rfX n sB tB) (F, G, rfM)) := by
  obtain ⟨m, hm9, hm1, hm2, -⟩ := h.frm
  refine g_aload_1 (pc := 541) E dL_law_541 ?_
  refine g_aload_0 (pc := 542) E dL_law_542 ?_
  refine g_iload_3 (pc := 543) E dL_law_543 ?_
  refine g_iconst (pc := 544) (v := 1) E dL_law_544 (by decide) ?_
  refine g_iadd (pc := 545) E dL_law_545 ?_
  refine g_sld (pc := 546) E S hb (s_in (k := 1) (by omega) hL) dL_law_546 ?_
  refine l_X (pc := 547) E V (c_X7_frame m hm1 hm9 _) cw_L_63 rfl rfl (by decide) (by decide) rfl (Nat.le_of_ble_eq_true rfl) (alX_100 h.n10) rfl (fun r2 h2 hp => ?_) dL_law_547 rfl (fun r2 h2 hp ad1 hd1 E => ?_)
  · obtain ⟨v, rfl, hp⟩ := hp
    have e : h2.2.2 = rfX n sB tB := by
      (repeat' (first | (obtain ⟨_, hp⟩ := (hp : _ ∧ _)) | (obtain ⟨_, hp⟩ := (hp : ∃ _, _)) | (obtain hp | hp := (hp : _ ∨ _))))
      all_goals (rw [hp])
    exact ⟨fun x k c q => rfX_lt h.n10 (by rw [e] at q; exact q), rfl⟩
  obtain ⟨vx, rfl, px⟩ := hp
  have hrx : ∀ x k c, h2.2.2 x k = some c → c < 100 := by
    have e : h2.2.2 = rfX n sB tB := by
      have hp := px
      (repeat' (first | (obtain ⟨_, hp⟩ := (hp : _ ∧ _)) | (obtain ⟨_, hp⟩ := (hp : ∃ _, _)) | (obtain hp | hp := (hp : _ ∨ _))))
      all_goals (rw [hp])
    exact fun x k c q => rfX_lt h.n10 (by rw [e] at q; exact q)
  have hb0 := hb
  have hb := hd1.trans hb0
  refine g_aload_2 (pc := 550) E dL_law_550 ?_
  refine g_aload_0 (pc := 551) E dL_law_551 ?_
  refine g_iload_3 (pc := 552) E dL_law_552 ?_
  refine g_iconst (pc := 553) (v := 1) E dL_law_553 (by decide) ?_
  refine g_iadd (pc := 554) E dL_law_554 ?_
  refine g_sld (pc := 555) E S hb (s_in (k := 1) (by omega) hL) dL_law_555 ?_
  have hb := hb0
  refine l_M (pc := 556) E V (c_X8_frame h.t0 m hm2 (by omega) _) cw_L_66 rfl rfl (by decide) (by decide) (Nat.le_of_ble_eq_true rfl) hrx rfl (fun r3 h3 hp => ?_) dL_law_556 rfl (fun r3 h3 hp ad2 hd2 E => ?_)
  · obtain ⟨v, rfl, hp⟩ := hp
    have e : h3.2.2 = rfM := by
      (repeat' (first | (obtain ⟨_, hp⟩ := (hp : _ ∧ _)) | (obtain ⟨_, hp⟩ := (hp : ∃ _, _)) | (obtain hp | hp := (hp : _ ∨ _))))
      all_goals (rw [hp])
    exact ⟨fun x k c q => rfM_lt (by rw [e] at q; exact q), rfl⟩
  obtain ⟨vm, rfl, pm⟩ := hp
  obtain ⟨hve, hq⟩ := r_frame h hm1 hm9 hm2 (by omega) px pm
  refine g_icmp_eq (pc := 559) (tgt := 1041) E dL_law_559 (by decide) (fun cc0 => ?_) (fun cc0 => ?_)
  · exact K _ _ _ _ _ _ hq E (hd2.trans (hd1.trans hb)) (by omega) (by omega)
  · exact absurd hve cc0
set_option maxHeartbeats 4000000 in
set_option maxRecDepth 100000 in
theorem w_frameOf {C : q_Ctx} {ad : Nat → Nat} {b L j n t kc ks : Nat} {xs : Nat → Int32} {sB tB : Bool} {f : Nat → Nat → Int32} {g : Nat → Nat → Int64} {F : Nat → Nat → Int32} {G : Nat → Nat → Int64} (E : q_Ev C cL_law 4 RL (alW (alX n sB tB)) ad 6 136) (V : q_Nv C 600000 7302250) (S : q_Sc C b L xs) (hb : ad 200 = b) (h : x_R n t tB f g F G) (hj : 6 * j + 5 < L) (hL : L ≤ 3072) (hkc : kc ≤ 500000) (hks : ks ≤ 7000000) (K : l_K C b j kc ks (alX n sB tB)) : gg C tyW 4 kc ks (alW (alX n sB tB)) ad 564 [some (.ref 200), some (.ref 0), some (.ref 100), some (.int (nI (6 * j)))] [] (hW (f, g, rfX n sB tB) (F, G, rfM)) := by
  refine g_aload_1 (pc := 564) E dL_law_564 ?_
  refine g_aload_0 (pc := 565) E dL_law_565 ?_
  refine g_iload_3 (pc := 566) E dL_law_566 ?_
  refine g_iconst (pc := 567) (v := 1) E dL_law_567 (by decide) ?_
  refine g_iadd (pc := 568) E dL_law_568 ?_
  refine g_sld (pc := 569) E S hb (s_in (k := 1) (by omega) hL) dL_law_569 ?_
  refine l_X (pc := 570) E V (c_X7_frameOf h.cX h.n10 h.hlen _) cw_L_67 rfl rfl (by decide) (by decide) rfl (Nat.le_of_ble_eq_true rfl) (alX_100 h.n10) rfl (fun r2 h2 hp => ?_) dL_law_570 rfl (fun r2 h2 hp ad1 hd1 E => ?_)
  · obtain ⟨v, rfl, hp⟩ := hp
    have e : h2.2.2 = rfX n sB tB := by
      (repeat' (first | (obtain ⟨_, hp⟩ := (hp : _ ∧ _)) | (obtain ⟨_, hp⟩ := (hp : ∃ _, _)) | (obtain hp | hp := (hp : _ ∨ _))))
      all_goals (rw [hp])
    exact ⟨fun x k c q => rfX_lt h.n10 (by rw [e] at q; exact q), rfl⟩
  obtain ⟨vx, rfl, px⟩ := hp
  have hrx : ∀ x k c, h2.2.2 x k = some c → c < 100 := by
    have e : h2.2.2 = rfX n sB tB := by
      have hp := px
      (repeat' (first | (obtain ⟨_, hp⟩ := (hp : _ ∧ _)) | (obtain ⟨_, hp⟩ := (hp : ∃ _, _)) | (obtain hp | hp := (hp : _ ∨ _))))
      all_goals (rw [hp])
    exact fun x k c q => rfX_lt h.n10 (by rw [e] at q; exact q)
  have hb0 := hb
  have hb := hd1.trans hb0
  refine g_aload_2 (pc := 573) E dL_law_573 ?_
  refine g_aload_0 (pc := 574) E dL_law_574 ?_
  refine g_iload_3 (pc := 575) E dL_law_575 ?_
  refine g_iconst (pc := 576) (v := 1) E dL_law_576 (by decide) ?_
  refine g_iadd (pc := 577) E dL_law_577 ?_
  refine g_sld (pc := 578) E S hb (s_in (k := 1) (by omega) hL) dL_law_578 ?_
  have hb := hb0
  refine l_M (pc := 579) E V (c_X8_frameOf h.t0 n h.cM h.n10 h.hsz _) cw_L_70 rfl rfl (by decide) (by decide) (Nat.le_of_ble_eq_true rfl) hrx rfl (fun r3 h3 hp => ?_) dL_law_579 rfl (fun r3 h3 hp ad2 hd2 E => ?_)
  · obtain ⟨v, rfl, hp⟩ := hp
    have e : h3.2.2 = rfM := by
      (repeat' (first | (obtain ⟨_, hp⟩ := (hp : _ ∧ _)) | (obtain ⟨_, hp⟩ := (hp : ∃ _, _)) | (obtain hp | hp := (hp : _ ∨ _))))
      all_goals (rw [hp])
    exact ⟨fun x k c q => rfM_lt (by rw [e] at q; exact q), rfl⟩
  obtain ⟨vm, rfl, pm⟩ := hp
  obtain ⟨hve, hq⟩ := r_frameOf h px pm
  refine g_icmp_eq (pc := 582) (tgt := 1041) E dL_law_582 (by decide) (fun cc0 => ?_) (fun cc0 => ?_)
  · exact K _ _ _ _ _ _ hq E (hd2.trans (hd1.trans hb)) (by omega) (by omega)
  · exact absurd hve cc0
set_option maxHeartbeats 4000000 in
set_option maxRecDepth 100000 in
theorem w_proof {C : q_Ctx} {ad : Nat → Nat} {b L j n t kc ks : Nat} {xs : Nat → Int32} {sB tB : Bool} {f : Nat → Nat → Int32} {g : Nat → Nat → Int64} {F : Nat → Nat → Int32} {G : Nat → Nat → Int64} (E : q_Ev C cL_law 4 RL (alW (alX n sB tB)) ad 6 136) (V : q_Nv C 600000 7302250) (S : q_Sc C b L xs) (hb : ad 200 = b) (h : x_R n t tB f g F G) (hj : 6 * j + 5 < L) (hL : L ≤ 3072) (hkc : kc ≤ 500000) (hks : ks ≤ 7000000) (K : l_K C b j kc ks (alX n sB tB)) : gg C tyW 4 kc ks (alW (alX n sB tB)) ad 587 [some (.ref 200), some (.ref 0), some (.ref 100), some (.int (nI (6 * j)))] [] (hW (f, g, rfX n sB tB) (F, G, rfM)) := by
  refine g_aload_1 (pc := 587) E dL_law_587 ?_
  refine g_aload_0 (pc := 588) E dL_law_588 ?_
  refine g_iload_3 (pc := 589) E dL_law_589 ?_
  refine g_iconst (pc := 590) (v := 1) E dL_law_590 (by decide) ?_
  refine g_iadd (pc := 591) E dL_law_591 ?_
  refine g_sld (pc := 592) E S hb (s_in (k := 1) (by omega) hL) dL_law_592 ?_
  refine l_X (pc := 593) E V (c_X7_proof h.cX h.n10 h.hlen h.gtX h.hbm h.dn h.x13 _) cw_L_71 rfl rfl (by decide) (by decide) rfl (Nat.le_of_ble_eq_true rfl) (alX_100 h.n10) rfl (fun r2 h2 hp => ?_) dL_law_593 rfl (fun r2 h2 hp ad1 hd1 E => ?_)
  · obtain ⟨v, rfl, hp⟩ := hp
    have e : h2.2.2 = rfX n sB tB := by
      (repeat' (first | (obtain ⟨_, hp⟩ := (hp : _ ∧ _)) | (obtain ⟨_, hp⟩ := (hp : ∃ _, _)) | (obtain hp | hp := (hp : _ ∨ _))))
      all_goals (rw [hp])
    exact ⟨fun x k c q => rfX_lt h.n10 (by rw [e] at q; exact q), rfl⟩
  obtain ⟨vx, rfl, px⟩ := hp
  have hrx : ∀ x k c, h2.2.2 x k = some c → c < 100 := by
    have e : h2.2.2 = rfX n sB tB := by
      have hp := px
      (repeat' (first | (obtain ⟨_, hp⟩ := (hp : _ ∧ _)) | (obtain ⟨_, hp⟩ := (hp : ∃ _, _)) | (obtain hp | hp := (hp : _ ∨ _))))
      all_goals (rw [hp])
    exact fun x k c q => rfX_lt h.n10 (by rw [e] at q; exact q)
  have hb0 := hb
  have hb := hd1.trans hb0
  refine g_aload_2 (pc := 596) E dL_law_596 ?_
  refine g_aload_0 (pc := 597) E dL_law_597 ?_
  refine g_iload_3 (pc := 598) E dL_law_598 ?_
  refine g_iconst (pc := 599) (v := 1) E dL_law_599 (by decide) ?_
  refine g_iadd (pc := 600) E dL_law_600 ?_
  refine g_sld (pc := 601) E S hb (s_in (k := 1) (by omega) hL) dL_law_601 ?_
  have hb := hb0
  refine l_M (pc := 602) E V (c_X8_proof h.t0 n h.cM h.n10 h.gtM _) cw_L_75 rfl rfl (by decide) (by decide) (Nat.le_of_ble_eq_true rfl) hrx rfl (fun r3 h3 hp => ?_) dL_law_602 rfl (fun r3 h3 hp ad2 hd2 E => ?_)
  · obtain ⟨v, rfl, hp⟩ := hp
    have e : h3.2.2 = rfM := by
      (repeat' (first | (obtain ⟨_, hp⟩ := (hp : _ ∧ _)) | (obtain ⟨_, hp⟩ := (hp : ∃ _, _)) | (obtain hp | hp := (hp : _ ∨ _))))
      all_goals (rw [hp])
    exact ⟨fun x k c q => rfM_lt (by rw [e] at q; exact q), rfl⟩
  obtain ⟨vm, rfl, pm⟩ := hp
  obtain ⟨hve, hq⟩ := r_proof h px pm
  refine g_lcmp (pc := 605) E dL_law_605 ?_
  refine g_if_eq (pc := 606) (tgt := 1041) E dL_law_606 (by decide) (fun cc0 => ?_) (fun cc0 => ?_)
  · exact K _ _ _ _ _ _ hq E (hd2.trans (hd1.trans hb)) (by omega) (by omega)
  · exact absurd (w_ceq.mpr hve) cc0
set_option maxHeartbeats 4000000 in
set_option maxRecDepth 100000 in
theorem w_ways {C : q_Ctx} {ad : Nat → Nat} {b L j n t kc ks : Nat} {xs : Nat → Int32} {sB tB : Bool} {f : Nat → Nat → Int32} {g : Nat → Nat → Int64} {F : Nat → Nat → Int32} {G : Nat → Nat → Int64} (E : q_Ev C cL_law 4 RL (alW (alX n sB tB)) ad 6 136) (V : q_Nv C 600000 7302250) (S : q_Sc C b L xs) (hb : ad 200 = b) (h : x_R n t tB f g F G) (hj : 6 * j + 5 < L) (hL : L ≤ 3072) (hkc : kc ≤ 500000) (hks : ks ≤ 7000000) (K : l_K C b j kc ks (alX n sB tB)) : gg C tyW 4 kc ks (alW (alX n sB tB)) ad 611 [some (.ref 200), some (.ref 0), some (.ref 100), some (.int (nI (6 * j)))] [] (hW (f, g, rfX n sB tB) (F, G, rfM)) := by
  refine g_aload_1 (pc := 611) E dL_law_611 ?_
  refine g_aload_0 (pc := 612) E dL_law_612 ?_
  refine g_iload_3 (pc := 613) E dL_law_613 ?_
  refine g_iconst (pc := 614) (v := 1) E dL_law_614 (by decide) ?_
  refine g_iadd (pc := 615) E dL_law_615 ?_
  refine g_sld (pc := 616) E S hb (s_in (k := 1) (by omega) hL) dL_law_616 ?_
  have n10 := h.n10
  refine l_XN (pc := 617) E V (c_X7_ways h.cX h.n10 h.gtX h.hbm _) cw_L_76 rfl rfl (by decide) (by decide) (by first | omega | (split <;> omega)) (by first | omega | (split <;> omega)) rfl (Nat.le_of_ble_eq_true rfl) (alX_100 h.n10) rfl (fun r2 al2 h2 hp => ?_) dL_law_617 rfl (fun r2 al2 h2 px ad1 hd1 E => ?_)
  · rcases hp with ⟨-, rfl, rfl, rfl⟩ | ⟨e, -, -, rfl, rfl, F2, G2, -, -, rfl⟩
    · exact ⟨alX_100 n10, fun x k c q => rfX_lt n10 q, rfl⟩
    · exact ⟨alX_100 n10, fun x k c q => rfX_lt n10 q, rfl⟩
  have hz : (∃ vx : Int32, r2 = some (.int vx)) ∧ (∀ x k c, h2.2.2 x k = some c → c < 100) ∧ kc + (if tB = true then 0 else 6) + l_ck (alX n sB tB) ≤ kc + 6 + l_ck al2 ∧ ks + (if tB = true then 0 else 1504) + l_cs (alX n sB tB) ≤ ks + 1504 + l_cs al2 := by
    have u1 : (if tB = true then 0 else 6) ≤ 6 := by split <;> omega
    have u2 : (if tB = true then 0 else 1504) ≤ 1504 := by split <;> omega
    rcases px with ⟨-, rfl, rfl, rfl⟩ | ⟨e, -, -, rfl, rfl, F2, G2, -, -, rfl⟩
    · exact ⟨⟨_, rfl⟩, fun x k c q => rfX_lt n10 q, by omega, by omega⟩
    · exact ⟨⟨_, rfl⟩, fun x k c q => rfX_lt n10 q, by rw [l_ckX, l_ckX]; omega, by rw [l_csX, l_csX]; omega⟩
  obtain ⟨⟨vx, rfl⟩, hrx, hck, hcs⟩ := hz
  have hb0 := hb
  have hb := hd1.trans hb0
  refine g_aload_2 (pc := 620) E dL_law_620 ?_
  refine g_aload_0 (pc := 621) E dL_law_621 ?_
  refine g_iload_3 (pc := 622) E dL_law_622 ?_
  refine g_iconst (pc := 623) (v := 1) E dL_law_623 (by decide) ?_
  refine g_iadd (pc := 624) E dL_law_624 ?_
  refine g_sld (pc := 625) E S hb (s_in (k := 1) (by omega) hL) dL_law_625 ?_
  have hb := hb0
  refine l_M (pc := 626) E V (c_X8_ways h.t0 n h.cM h.n10 h.gtM _) cw_L_79 rfl rfl (by decide) (by decide) (Nat.le_of_ble_eq_true rfl) hrx rfl (fun r3 h3 hp => ?_) dL_law_626 rfl (fun r3 h3 hp ad2 hd2 E => ?_)
  · obtain ⟨v, rfl, hp⟩ := hp
    have e : h3.2.2 = rfM := by
      (repeat' (first | (obtain ⟨_, hp⟩ := (hp : _ ∧ _)) | (obtain ⟨_, hp⟩ := (hp : ∃ _, _)) | (obtain hp | hp := (hp : _ ∨ _))))
      all_goals (rw [hp])
    exact ⟨fun x k c q => rfM_lt (by rw [e] at q; exact q), rfl⟩
  obtain ⟨vm, rfl, pm⟩ := hp
  obtain ⟨hve, hq⟩ := r_ways h px pm
  cases hve
  refine g_icmp_eq (pc := 629) (tgt := 1041) E dL_law_629 (by decide) (fun cc0 => ?_) (fun cc0 => ?_)
  · exact K _ _ _ _ _ _ hq E (hd2.trans (hd1.trans hb)) hck hcs
  · exact absurd rfl cc0
set_option maxHeartbeats 4000000 in
set_option maxRecDepth 100000 in
theorem w_digit {C : q_Ctx} {ad : Nat → Nat} {b L j n t kc ks : Nat} {xs : Nat → Int32} {sB tB : Bool} {f : Nat → Nat → Int32} {g : Nat → Nat → Int64} {F : Nat → Nat → Int32} {G : Nat → Nat → Int64} (E : q_Ev C cL_law 4 RL (alW (alX n sB tB)) ad 6 136) (V : q_Nv C 600000 7302250) (S : q_Sc C b L xs) (hb : ad 200 = b) (h : x_R n t tB f g F G) (hj : 6 * j + 5 < L) (hL : L ≤ 3072) (hkc : kc ≤ 500000) (hks : ks ≤ 7000000) (K : l_K C b j kc ks (alX n sB tB)) : gg C tyW 4 kc ks (alW (alX n sB tB)) ad 634 [some (.ref 200), some (.ref 0), some (.ref 100), some (.int (nI (6 * j)))] [] (hW (f, g, rfX n sB tB) (F, G, rfM)) := by
  obtain ⟨m, hm9, hm1⟩ := h.many
  refine g_aload_1 (pc := 634) E dL_law_634 ?_
  refine g_aload_0 (pc := 635) E dL_law_635 ?_
  refine g_iload_3 (pc := 636) E dL_law_636 ?_
  refine g_iconst (pc := 637) (v := 1) E dL_law_637 (by decide) ?_
  refine g_iadd (pc := 638) E dL_law_638 ?_
  refine g_sld (pc := 639) E S hb (s_in (k := 1) (by omega) hL) dL_law_639 ?_
  refine l_X (pc := 640) E V (c_X7_digit _) cw_L_80 rfl rfl (by decide) (by decide) rfl (Nat.le_of_ble_eq_true rfl) (alX_100 h.n10) rfl (fun r2 h2 hp => ?_) dL_law_640 rfl (fun r2 h2 hp ad1 hd1 E => ?_)
  · obtain ⟨v, rfl, hp⟩ := hp
    have e : h2.2.2 = rfX n sB tB := by
      (repeat' (first | (obtain ⟨_, hp⟩ := (hp : _ ∧ _)) | (obtain ⟨_, hp⟩ := (hp : ∃ _, _)) | (obtain hp | hp := (hp : _ ∨ _))))
      all_goals (rw [hp])
    exact ⟨fun x k c q => rfX_lt h.n10 (by rw [e] at q; exact q), rfl⟩
  obtain ⟨vx, rfl, px⟩ := hp
  have hrx : ∀ x k c, h2.2.2 x k = some c → c < 100 := by
    have e : h2.2.2 = rfX n sB tB := by
      have hp := px
      (repeat' (first | (obtain ⟨_, hp⟩ := (hp : _ ∧ _)) | (obtain ⟨_, hp⟩ := (hp : ∃ _, _)) | (obtain hp | hp := (hp : _ ∨ _))))
      all_goals (rw [hp])
    exact fun x k c q => rfX_lt h.n10 (by rw [e] at q; exact q)
  have hb0 := hb
  have hb := hd1.trans hb0
  refine g_aload_2 (pc := 643) E dL_law_643 ?_
  refine g_aload_0 (pc := 644) E dL_law_644 ?_
  refine g_iload_3 (pc := 645) E dL_law_645 ?_
  refine g_iconst (pc := 646) (v := 1) E dL_law_646 (by decide) ?_
  refine g_iadd (pc := 647) E dL_law_647 ?_
  refine g_sld (pc := 648) E S hb (s_in (k := 1) (by omega) hL) dL_law_648 ?_
  have hb := hb0
  refine l_M (pc := 649) E V (c_X8_digit h.t0 m hm1 hm9 _) cw_L_83 rfl rfl (by decide) (by decide) (Nat.le_of_ble_eq_true rfl) hrx rfl (fun r3 h3 hp => ?_) dL_law_649 rfl (fun r3 h3 hp ad2 hd2 E => ?_)
  · obtain ⟨v, rfl, hp⟩ := hp
    have e : h3.2.2 = rfM := by
      (repeat' (first | (obtain ⟨_, hp⟩ := (hp : _ ∧ _)) | (obtain ⟨_, hp⟩ := (hp : ∃ _, _)) | (obtain hp | hp := (hp : _ ∨ _))))
      all_goals (rw [hp])
    exact ⟨fun x k c q => rfM_lt (by rw [e] at q; exact q), rfl⟩
  obtain ⟨vm, rfl, pm⟩ := hp
  obtain ⟨hve, hq⟩ := r_digit h hm1 hm9 px pm
  refine g_icmp_eq (pc := 652) (tgt := 1041) E dL_law_652 (by decide) (fun cc0 => ?_) (fun cc0 => ?_)
  · exact K _ _ _ _ _ _ hq E (hd2.trans (hd1.trans hb)) (by omega) (by omega)
  · exact absurd hve cc0
set_option maxHeartbeats 4000000 in
set_option maxRecDepth 100000 in
theorem w_rule {C : q_Ctx} {ad : Nat → Nat} {b L j n t kc ks : Nat} {xs : Nat → Int32} {sB tB : Bool} {f : Nat → Nat → Int32} {g : Nat → Nat → Int64} {F : Nat → Nat → Int32} {G : Nat → Nat → Int64} (E : q_Ev C cL_law 4 RL (alW (alX n sB tB)) ad 6 136) (V : q_Nv C 600000 7302250) (S : q_Sc C b L xs) (hb : ad 200 = b) (h : x_R n t tB f g F G) (hj : 6 * j + 5 < L) (hL : L ≤ 3072) (hkc : kc ≤ 500000) (hks : ks ≤ 7000000) (K : l_K C b j kc ks (alX n sB tB)) : gg C tyW 4 kc ks (alW (alX n sB tB)) ad 657 [some (.ref 200), some (.ref 0), some (.ref 100), some (.int (nI (6 * j)))] [] (hW (f, g, rfX n sB tB) (F, G, rfM)) := by
  refine g_aload_1 (pc := 657) E dL_law_657 ?_
  refine g_aload_0 (pc := 658) E dL_law_658 ?_
  refine g_iload_3 (pc := 659) E dL_law_659 ?_
  refine g_iconst (pc := 660) (v := 1) E dL_law_660 (by decide) ?_
  refine g_iadd (pc := 661) E dL_law_661 ?_
  refine g_sld (pc := 662) E S hb (s_in (k := 1) (by omega) hL) dL_law_662 ?_
  refine l_X (pc := 663) E V (c_X7_rule _) cw_L_84 rfl rfl (by decide) (by decide) rfl (Nat.le_of_ble_eq_true rfl) (alX_100 h.n10) rfl (fun r2 h2 hp => ?_) dL_law_663 rfl (fun r2 h2 hp ad1 hd1 E => ?_)
  · obtain ⟨v, rfl, hp⟩ := hp
    have e : h2.2.2 = rfX n sB tB := by
      (repeat' (first | (obtain ⟨_, hp⟩ := (hp : _ ∧ _)) | (obtain ⟨_, hp⟩ := (hp : ∃ _, _)) | (obtain hp | hp := (hp : _ ∨ _))))
      all_goals (rw [hp])
    exact ⟨fun x k c q => rfX_lt h.n10 (by rw [e] at q; exact q), rfl⟩
  obtain ⟨vx, rfl, px⟩ := hp
  have hrx : ∀ x k c, h2.2.2 x k = some c → c < 100 := by
    have e : h2.2.2 = rfX n sB tB := by
      have hp := px
      (repeat' (first | (obtain ⟨_, hp⟩ := (hp : _ ∧ _)) | (obtain ⟨_, hp⟩ := (hp : ∃ _, _)) | (obtain hp | hp := (hp : _ ∨ _))))
      all_goals (rw [hp])
    exact fun x k c q => rfX_lt h.n10 (by rw [e] at q; exact q)
  have hb0 := hb
  have hb := hd1.trans hb0
  refine g_aload_2 (pc := 666) E dL_law_666 ?_
  refine g_aload_0 (pc := 667) E dL_law_667 ?_
  refine g_iload_3 (pc := 668) E dL_law_668 ?_
  refine g_iconst (pc := 669) (v := 1) E dL_law_669 (by decide) ?_
  refine g_iadd (pc := 670) E dL_law_670 ?_
  refine g_sld (pc := 671) E S hb (s_in (k := 1) (by omega) hL) dL_law_671 ?_
  have hb := hb0
  refine l_M (pc := 672) E V (c_X8_rule h.t0 _) cw_L_87 rfl rfl (by decide) (by decide) (Nat.le_of_ble_eq_true rfl) hrx rfl (fun r3 h3 hp => ?_) dL_law_672 rfl (fun r3 h3 hp ad2 hd2 E => ?_)
  · obtain ⟨v, rfl, hp⟩ := hp
    have e : h3.2.2 = rfM := by
      (repeat' (first | (obtain ⟨_, hp⟩ := (hp : _ ∧ _)) | (obtain ⟨_, hp⟩ := (hp : ∃ _, _)) | (obtain hp | hp := (hp : _ ∨ _))))
      all_goals (rw [hp])
    exact ⟨fun x k c q => rfM_lt (by rw [e] at q; exact q), rfl⟩
  obtain ⟨vm, rfl, pm⟩ := hp
  obtain ⟨hve, hq⟩ := r_rule h px pm
  refine g_icmp_eq (pc := 675) (tgt := 1041) E dL_law_675 (by decide) (fun cc0 => ?_) (fun cc0 => ?_)
  · exact K _ _ _ _ _ _ hq E (hd2.trans (hd1.trans hb)) (by omega) (by omega)
  · exact absurd hve cc0
set_option maxHeartbeats 4000000 in
set_option maxRecDepth 100000 in
theorem w_go {C : q_Ctx} {ad : Nat → Nat} {b L j n t kc ks : Nat} {xs : Nat → Int32} {sB tB : Bool} {f : Nat → Nat → Int32} {g : Nat → Nat → Int64} {F : Nat → Nat → Int32} {G : Nat → Nat → Int64} (E : q_Ev C cL_law 4 RL (alW (alX n sB tB)) ad 6 136) (V : q_Nv C 600000 7302250) (S : q_Sc C b L xs) (hb : ad 200 = b) (h : x_R n t tB f g F G) (hj : 6 * j + 5 < L) (hL : L ≤ 3072) (hkc : kc ≤ 500000) (hks : ks ≤ 7000000) (K : l_K C b j kc ks (alX n sB tB)) : gg C tyW 4 kc ks (alW (alX n sB tB)) ad 680 [some (.ref 200), some (.ref 0), some (.ref 100), some (.int (nI (6 * j)))] [] (hW (f, g, rfX n sB tB) (F, G, rfM)) := by
  obtain ⟨m, hm9, hm1, hm2, hmi⟩ := h.frm
  obtain ⟨LL, hL1, hL2, hLX, hLM⟩ := h.la
  have p10 : 2 ^ n ≤ 2 ^ 10 := Nat.pow_le_pow_right (by decide) h.n10
  have hfrM : ∀ i, i < m → ∃ s : Nat, s < 1024 ∧ F 29 i = nI s := fun i hi => by
    obtain ⟨e, s, hs, es⟩ := hmi i hi
    exact ⟨s, by omega, e ▸ es⟩
  refine g_aload_1 (pc := 680) E dL_law_680 ?_
  refine g_aload_0 (pc := 681) E dL_law_681 ?_
  refine g_iload_3 (pc := 682) E dL_law_682 ?_
  refine g_iconst (pc := 683) (v := 1) E dL_law_683 (by decide) ?_
  refine g_iadd (pc := 684) E dL_law_684 ?_
  refine g_sld (pc := 685) E S hb (s_in (k := 1) (by omega) hL) dL_law_685 ?_
  refine l_X (pc := 686) E V (c_X7_go h.cX h.n10 h.gtX h.hbm m LL t h.sX h.t20 _ (x_Inv n t m LL tB F G) (x_Inv_0 h hLX hm1) (fun k F' G' h1 h2 hI => x_Inv_s hL1 hL2 hm9 k F' G' h1 hI) (fun k F' G' hI => hI.1.sX)) cw_L_88 rfl rfl (by decide) (by decide) rfl (Nat.le_of_ble_eq_true rfl) (alX_100 h.n10) rfl (fun r2 h2 hp => ?_) dL_law_686 rfl (fun r2 h2 hp ad1 hd1 E => ?_)
  · obtain ⟨v, rfl, hp⟩ := hp
    have e : h2.2.2 = rfX n sB tB := by
      (repeat' (first | (obtain ⟨_, hp⟩ := (hp : _ ∧ _)) | (obtain ⟨_, hp⟩ := (hp : ∃ _, _)) | (obtain hp | hp := (hp : _ ∨ _))))
      all_goals (rw [hp])
    exact ⟨fun x k c q => rfX_lt h.n10 (by rw [e] at q; exact q), rfl⟩
  obtain ⟨vx, rfl, px⟩ := hp
  have hrx : ∀ x k c, h2.2.2 x k = some c → c < 100 := by
    have e : h2.2.2 = rfX n sB tB := by
      have hp := px
      (repeat' (first | (obtain ⟨_, hp⟩ := (hp : _ ∧ _)) | (obtain ⟨_, hp⟩ := (hp : ∃ _, _)) | (obtain hp | hp := (hp : _ ∨ _))))
      all_goals (rw [hp])
    exact fun x k c q => rfX_lt h.n10 (by rw [e] at q; exact q)
  have hb0 := hb
  have hb := hd1.trans hb0
  refine g_aload_2 (pc := 689) E dL_law_689 ?_
  refine g_aload_0 (pc := 690) E dL_law_690 ?_
  refine g_iload_3 (pc := 691) E dL_law_691 ?_
  refine g_iconst (pc := 692) (v := 1) E dL_law_692 (by decide) ?_
  refine g_iadd (pc := 693) E dL_law_693 ?_
  refine g_sld (pc := 694) E S hb (s_in (k := 1) (by omega) hL) dL_law_694 ?_
  have hb := hb0
  refine l_M (pc := 695) E V (c_X8_go h.t0 n h.cM h.n10 h.gtM m hm2 (by omega) hfrM t h.sM h.t20 LL hLM hL1 hL2 _) cw_L_91 rfl rfl (by decide) (by decide) (Nat.le_of_ble_eq_true rfl) hrx rfl (fun r3 h3 hp => ?_) dL_law_695 rfl (fun r3 h3 hp ad2 hd2 E => ?_)
  · obtain ⟨v, rfl, hp⟩ := hp
    have e : h3.2.2 = rfM := by
      (repeat' (first | (obtain ⟨_, hp⟩ := (hp : _ ∧ _)) | (obtain ⟨_, hp⟩ := (hp : ∃ _, _)) | (obtain hp | hp := (hp : _ ∨ _))))
      all_goals (rw [hp])
    exact ⟨fun x k c q => rfM_lt (by rw [e] at q; exact q), rfl⟩
  obtain ⟨vm, rfl, pm⟩ := hp
  obtain ⟨hve, hq⟩ := r_go h px pm
  refine g_icmp_eq (pc := 698) (tgt := 1041) E dL_law_698 (by decide) (fun cc0 => ?_) (fun cc0 => ?_)
  · exact K _ _ _ _ _ _ hq E (hd2.trans (hd1.trans hb)) (by omega) (by omega)
  · exact absurd hve cc0
set_option maxHeartbeats 4000000 in
set_option maxRecDepth 100000 in
theorem w_lit {C : q_Ctx} {ad : Nat → Nat} {b L j n t kc ks : Nat} {xs : Nat → Int32} {sB tB : Bool} {f : Nat → Nat → Int32} {g : Nat → Nat → Int64} {F : Nat → Nat → Int32} {G : Nat → Nat → Int64} (E : q_Ev C cL_law 4 RL (alW (alX n sB tB)) ad 6 136) (V : q_Nv C 600000 7302250) (S : q_Sc C b L xs) (hb : ad 200 = b) (h : x_R n t tB f g F G) (hj : 6 * j + 5 < L) (hL : L ≤ 3072) (hkc : kc ≤ 500000) (hks : ks ≤ 7000000) (K : l_K C b j kc ks (alX n sB tB)) : gg C tyW 4 kc ks (alW (alX n sB tB)) ad 703 [some (.ref 200), some (.ref 0), some (.ref 100), some (.int (nI (6 * j)))] [] (hW (f, g, rfX n sB tB) (F, G, rfM)) := by
  refine g_aload_1 (pc := 703) E dL_law_703 ?_
  refine l_X (pc := 704) E V (c_X7_lit ) cw_L_92 rfl rfl (by decide) (by decide) rfl (Nat.le_of_ble_eq_true rfl) (alX_100 h.n10) rfl (fun r2 h2 hp => ?_) dL_law_704 rfl (fun r2 h2 hp ad1 hd1 E => ?_)
  · obtain ⟨v, rfl, hp⟩ := hp
    have e : h2.2.2 = rfX n sB tB := by
      (repeat' (first | (obtain ⟨_, hp⟩ := (hp : _ ∧ _)) | (obtain ⟨_, hp⟩ := (hp : ∃ _, _)) | (obtain hp | hp := (hp : _ ∨ _))))
      all_goals (rw [hp])
    exact ⟨fun x k c q => rfX_lt h.n10 (by rw [e] at q; exact q), rfl⟩
  obtain ⟨vx, rfl, px⟩ := hp
  have hrx : ∀ x k c, h2.2.2 x k = some c → c < 100 := by
    have e : h2.2.2 = rfX n sB tB := by
      have hp := px
      (repeat' (first | (obtain ⟨_, hp⟩ := (hp : _ ∧ _)) | (obtain ⟨_, hp⟩ := (hp : ∃ _, _)) | (obtain hp | hp := (hp : _ ∨ _))))
      all_goals (rw [hp])
    exact fun x k c q => rfX_lt h.n10 (by rw [e] at q; exact q)
  have hb0 := hb
  have hb := hd1.trans hb0
  refine g_aload_2 (pc := 707) E dL_law_707 ?_
  have hb := hb0
  refine l_M (pc := 708) E V (c_X8_lit h.t0) cw_L_95 rfl rfl (by decide) (by decide) (Nat.le_of_ble_eq_true rfl) hrx rfl (fun r3 h3 hp => ?_) dL_law_708 rfl (fun r3 h3 hp ad2 hd2 E => ?_)
  · obtain ⟨v, rfl, hp⟩ := hp
    have e : h3.2.2 = rfM := by
      (repeat' (first | (obtain ⟨_, hp⟩ := (hp : _ ∧ _)) | (obtain ⟨_, hp⟩ := (hp : ∃ _, _)) | (obtain hp | hp := (hp : _ ∨ _))))
      all_goals (rw [hp])
    exact ⟨fun x k c q => rfM_lt (by rw [e] at q; exact q), rfl⟩
  obtain ⟨vm, rfl, pm⟩ := hp
  obtain ⟨hve, hq⟩ := r_lit h px pm
  refine g_icmp_eq (pc := 711) (tgt := 1041) E dL_law_711 (by decide) (fun cc0 => ?_) (fun cc0 => ?_)
  · exact K _ _ _ _ _ _ hq E (hd2.trans (hd1.trans hb)) (by omega) (by omega)
  · exact absurd hve cc0
set_option maxHeartbeats 4000000 in
set_option maxRecDepth 100000 in
theorem w_cellOf {C : q_Ctx} {ad : Nat → Nat} {b L j n t kc ks : Nat} {xs : Nat → Int32} {sB tB : Bool} {f : Nat → Nat → Int32} {g : Nat → Nat → Int64} {F : Nat → Nat → Int32} {G : Nat → Nat → Int64} (E : q_Ev C cL_law 4 RL (alW (alX n sB tB)) ad 6 136) (V : q_Nv C 600000 7302250) (S : q_Sc C b L xs) (hb : ad 200 = b) (h : x_R n t tB f g F G) (hj : 6 * j + 5 < L) (hL : L ≤ 3072) (hkc : kc ≤ 500000) (hks : ks ≤ 7000000) (K : l_K C b j kc ks (alX n sB tB)) : gg C tyW 4 kc ks (alW (alX n sB tB)) ad 716 [some (.ref 200), some (.ref 0), some (.ref 100), some (.int (nI (6 * j)))] [] (hW (f, g, rfX n sB tB) (F, G, rfM)) := by
  refine g_aload_1 (pc := 716) E dL_law_716 ?_
  refine g_aload_0 (pc := 717) E dL_law_717 ?_
  refine g_iload_3 (pc := 718) E dL_law_718 ?_
  refine g_iconst (pc := 719) (v := 1) E dL_law_719 (by decide) ?_
  refine g_iadd (pc := 720) E dL_law_720 ?_
  refine g_sld (pc := 721) E S hb (s_in (k := 1) (by omega) hL) dL_law_721 ?_
  refine g_aload_0 (pc := 722) E dL_law_722 ?_
  refine g_iload_3 (pc := 723) E dL_law_723 ?_
  refine g_iconst (pc := 724) (v := 2) E dL_law_724 (by decide) ?_
  refine g_iadd (pc := 725) E dL_law_725 ?_
  refine g_sld (pc := 726) E S hb (s_in (k := 2) (by omega) hL) dL_law_726 ?_
  refine l_X (pc := 727) E V (c_X7_cellOf h.cX h.n10 _ _) cw_L_96 rfl rfl (by decide) (by decide) rfl (Nat.le_of_ble_eq_true rfl) (alX_100 h.n10) rfl (fun r2 h2 hp => ?_) dL_law_727 rfl (fun r2 h2 hp ad1 hd1 E => ?_)
  · obtain ⟨v, rfl, hp⟩ := hp
    have e : h2.2.2 = rfX n sB tB := by
      (repeat' (first | (obtain ⟨_, hp⟩ := (hp : _ ∧ _)) | (obtain ⟨_, hp⟩ := (hp : ∃ _, _)) | (obtain hp | hp := (hp : _ ∨ _))))
      all_goals (rw [hp])
    exact ⟨fun x k c q => rfX_lt h.n10 (by rw [e] at q; exact q), rfl⟩
  obtain ⟨vx, rfl, px⟩ := hp
  have hrx : ∀ x k c, h2.2.2 x k = some c → c < 100 := by
    have e : h2.2.2 = rfX n sB tB := by
      have hp := px
      (repeat' (first | (obtain ⟨_, hp⟩ := (hp : _ ∧ _)) | (obtain ⟨_, hp⟩ := (hp : ∃ _, _)) | (obtain hp | hp := (hp : _ ∨ _))))
      all_goals (rw [hp])
    exact fun x k c q => rfX_lt h.n10 (by rw [e] at q; exact q)
  have hb0 := hb
  have hb := hd1.trans hb0
  refine g_aload_2 (pc := 730) E dL_law_730 ?_
  refine g_aload_0 (pc := 731) E dL_law_731 ?_
  refine g_iload_3 (pc := 732) E dL_law_732 ?_
  refine g_iconst (pc := 733) (v := 1) E dL_law_733 (by decide) ?_
  refine g_iadd (pc := 734) E dL_law_734 ?_
  refine g_sld (pc := 735) E S hb (s_in (k := 1) (by omega) hL) dL_law_735 ?_
  refine g_aload_0 (pc := 736) E dL_law_736 ?_
  refine g_iload_3 (pc := 737) E dL_law_737 ?_
  refine g_iconst (pc := 738) (v := 2) E dL_law_738 (by decide) ?_
  refine g_iadd (pc := 739) E dL_law_739 ?_
  refine g_sld (pc := 740) E S hb (s_in (k := 2) (by omega) hL) dL_law_740 ?_
  have hb := hb0
  refine l_M (pc := 741) E V (c_X8_cellOf h.t0 n h.cM h.n10 _ _) cw_L_99 rfl rfl (by decide) (by decide) (Nat.le_of_ble_eq_true rfl) hrx rfl (fun r3 h3 hp => ?_) dL_law_741 rfl (fun r3 h3 hp ad2 hd2 E => ?_)
  · obtain ⟨v, rfl, hp⟩ := hp
    have e : h3.2.2 = rfM := by
      (repeat' (first | (obtain ⟨_, hp⟩ := (hp : _ ∧ _)) | (obtain ⟨_, hp⟩ := (hp : ∃ _, _)) | (obtain hp | hp := (hp : _ ∨ _))))
      all_goals (rw [hp])
    exact ⟨fun x k c q => rfM_lt (by rw [e] at q; exact q), rfl⟩
  obtain ⟨vm, rfl, pm⟩ := hp
  obtain ⟨hve, hq⟩ := r_cellOf h px pm
  refine g_icmp_eq (pc := 744) (tgt := 1041) E dL_law_744 (by decide) (fun cc0 => ?_) (fun cc0 => ?_)
  · exact K _ _ _ _ _ _ hq E (hd2.trans (hd1.trans hb)) (by omega) (by omega)
  · exact absurd hve cc0
set_option maxHeartbeats 4000000 in
set_option maxRecDepth 100000 in
theorem w_units {C : q_Ctx} {ad : Nat → Nat} {b L j n t kc ks : Nat} {xs : Nat → Int32} {sB tB : Bool} {f : Nat → Nat → Int32} {g : Nat → Nat → Int64} {F : Nat → Nat → Int32} {G : Nat → Nat → Int64} (E : q_Ev C cL_law 4 RL (alW (alX n sB tB)) ad 6 136) (V : q_Nv C 600000 7302250) (S : q_Sc C b L xs) (hb : ad 200 = b) (h : x_R n t tB f g F G) (hj : 6 * j + 5 < L) (hL : L ≤ 3072) (hkc : kc ≤ 500000) (hks : ks ≤ 7000000) (K : l_K C b j kc ks (alX n sB tB)) : gg C tyW 4 kc ks (alW (alX n sB tB)) ad 749 [some (.ref 200), some (.ref 0), some (.ref 100), some (.int (nI (6 * j)))] [] (hW (f, g, rfX n sB tB) (F, G, rfM)) := by
  refine g_aload_1 (pc := 749) E dL_law_749 ?_
  refine g_aload_0 (pc := 750) E dL_law_750 ?_
  refine g_iload_3 (pc := 751) E dL_law_751 ?_
  refine g_iconst (pc := 752) (v := 1) E dL_law_752 (by decide) ?_
  refine g_iadd (pc := 753) E dL_law_753 ?_
  refine g_sld (pc := 754) E S hb (s_in (k := 1) (by omega) hL) dL_law_754 ?_
  refine g_aload_0 (pc := 755) E dL_law_755 ?_
  refine g_iload_3 (pc := 756) E dL_law_756 ?_
  refine g_iconst (pc := 757) (v := 2) E dL_law_757 (by decide) ?_
  refine g_iadd (pc := 758) E dL_law_758 ?_
  refine g_sld (pc := 759) E S hb (s_in (k := 2) (by omega) hL) dL_law_759 ?_
  refine l_X (pc := 760) E V (c_X7_units h.cX h.n10 _ _) cw_L_100 rfl rfl (by decide) (by decide) rfl (Nat.le_of_ble_eq_true rfl) (alX_100 h.n10) rfl (fun r2 h2 hp => ?_) dL_law_760 rfl (fun r2 h2 hp ad1 hd1 E => ?_)
  · obtain ⟨v, rfl, hp⟩ := hp
    have e : h2.2.2 = rfX n sB tB := by
      (repeat' (first | (obtain ⟨_, hp⟩ := (hp : _ ∧ _)) | (obtain ⟨_, hp⟩ := (hp : ∃ _, _)) | (obtain hp | hp := (hp : _ ∨ _))))
      all_goals (rw [hp])
    exact ⟨fun x k c q => rfX_lt h.n10 (by rw [e] at q; exact q), rfl⟩
  obtain ⟨vx, rfl, px⟩ := hp
  have hrx : ∀ x k c, h2.2.2 x k = some c → c < 100 := by
    have e : h2.2.2 = rfX n sB tB := by
      have hp := px
      (repeat' (first | (obtain ⟨_, hp⟩ := (hp : _ ∧ _)) | (obtain ⟨_, hp⟩ := (hp : ∃ _, _)) | (obtain hp | hp := (hp : _ ∨ _))))
      all_goals (rw [hp])
    exact fun x k c q => rfX_lt h.n10 (by rw [e] at q; exact q)
  have hb0 := hb
  have hb := hd1.trans hb0
  refine g_aload_2 (pc := 763) E dL_law_763 ?_
  refine g_aload_0 (pc := 764) E dL_law_764 ?_
  refine g_iload_3 (pc := 765) E dL_law_765 ?_
  refine g_iconst (pc := 766) (v := 1) E dL_law_766 (by decide) ?_
  refine g_iadd (pc := 767) E dL_law_767 ?_
  refine g_sld (pc := 768) E S hb (s_in (k := 1) (by omega) hL) dL_law_768 ?_
  refine g_aload_0 (pc := 769) E dL_law_769 ?_
  refine g_iload_3 (pc := 770) E dL_law_770 ?_
  refine g_iconst (pc := 771) (v := 2) E dL_law_771 (by decide) ?_
  refine g_iadd (pc := 772) E dL_law_772 ?_
  refine g_sld (pc := 773) E S hb (s_in (k := 2) (by omega) hL) dL_law_773 ?_
  have hb := hb0
  refine l_M (pc := 774) E V (c_X8_units h.t0 n h.cM h.n10 _ _) cw_L_104 rfl rfl (by decide) (by decide) (Nat.le_of_ble_eq_true rfl) hrx rfl (fun r3 h3 hp => ?_) dL_law_774 rfl (fun r3 h3 hp ad2 hd2 E => ?_)
  · obtain ⟨v, rfl, hp⟩ := hp
    have e : h3.2.2 = rfM := by
      (repeat' (first | (obtain ⟨_, hp⟩ := (hp : _ ∧ _)) | (obtain ⟨_, hp⟩ := (hp : ∃ _, _)) | (obtain hp | hp := (hp : _ ∨ _))))
      all_goals (rw [hp])
    exact ⟨fun x k c q => rfM_lt (by rw [e] at q; exact q), rfl⟩
  obtain ⟨vm, rfl, pm⟩ := hp
  obtain ⟨hve, hq⟩ := r_units h px pm
  refine g_lcmp (pc := 777) E dL_law_777 ?_
  refine g_if_eq (pc := 778) (tgt := 1041) E dL_law_778 (by decide) (fun cc0 => ?_) (fun cc0 => ?_)
  · exact K _ _ _ _ _ _ hq E (hd2.trans (hd1.trans hb)) (by omega) (by omega)
  · exact absurd (w_ceq.mpr hve) cc0
set_option maxHeartbeats 4000000 in
set_option maxRecDepth 100000 in
theorem w_count {C : q_Ctx} {ad : Nat → Nat} {b L j n t kc ks : Nat} {xs : Nat → Int32} {sB tB : Bool} {f : Nat → Nat → Int32} {g : Nat → Nat → Int64} {F : Nat → Nat → Int32} {G : Nat → Nat → Int64} (E : q_Ev C cL_law 4 RL (alW (alX n sB tB)) ad 6 136) (V : q_Nv C 600000 7302250) (S : q_Sc C b L xs) (hb : ad 200 = b) (h : x_R n t tB f g F G) (hj : 6 * j + 5 < L) (hL : L ≤ 3072) (hkc : kc ≤ 500000) (hks : ks ≤ 7000000) (K : l_K C b j kc ks (alX n sB tB)) : gg C tyW 4 kc ks (alW (alX n sB tB)) ad 783 [some (.ref 200), some (.ref 0), some (.ref 100), some (.int (nI (6 * j)))] [] (hW (f, g, rfX n sB tB) (F, G, rfM)) := by
  refine g_aload_1 (pc := 783) E dL_law_783 ?_
  refine g_aload_0 (pc := 784) E dL_law_784 ?_
  refine g_iload_3 (pc := 785) E dL_law_785 ?_
  refine g_iconst (pc := 786) (v := 1) E dL_law_786 (by decide) ?_
  refine g_iadd (pc := 787) E dL_law_787 ?_
  refine g_sld (pc := 788) E S hb (s_in (k := 1) (by omega) hL) dL_law_788 ?_
  refine l_X (pc := 789) E V (c_X7_count _) cw_L_105 rfl rfl (by decide) (by decide) rfl (Nat.le_of_ble_eq_true rfl) (alX_100 h.n10) rfl (fun r2 h2 hp => ?_) dL_law_789 rfl (fun r2 h2 hp ad1 hd1 E => ?_)
  · obtain ⟨v, rfl, hp⟩ := hp
    have e : h2.2.2 = rfX n sB tB := by
      (repeat' (first | (obtain ⟨_, hp⟩ := (hp : _ ∧ _)) | (obtain ⟨_, hp⟩ := (hp : ∃ _, _)) | (obtain hp | hp := (hp : _ ∨ _))))
      all_goals (rw [hp])
    exact ⟨fun x k c q => rfX_lt h.n10 (by rw [e] at q; exact q), rfl⟩
  obtain ⟨vx, rfl, px⟩ := hp
  have hrx : ∀ x k c, h2.2.2 x k = some c → c < 100 := by
    have e : h2.2.2 = rfX n sB tB := by
      have hp := px
      (repeat' (first | (obtain ⟨_, hp⟩ := (hp : _ ∧ _)) | (obtain ⟨_, hp⟩ := (hp : ∃ _, _)) | (obtain hp | hp := (hp : _ ∨ _))))
      all_goals (rw [hp])
    exact fun x k c q => rfX_lt h.n10 (by rw [e] at q; exact q)
  have hb0 := hb
  have hb := hd1.trans hb0
  refine g_aload_2 (pc := 792) E dL_law_792 ?_
  refine g_aload_0 (pc := 793) E dL_law_793 ?_
  refine g_iload_3 (pc := 794) E dL_law_794 ?_
  refine g_iconst (pc := 795) (v := 1) E dL_law_795 (by decide) ?_
  refine g_iadd (pc := 796) E dL_law_796 ?_
  refine g_sld (pc := 797) E S hb (s_in (k := 1) (by omega) hL) dL_law_797 ?_
  have hb := hb0
  refine l_M (pc := 798) E V (c_X8_count h.t0 _) cw_L_108 rfl rfl (by decide) (by decide) (Nat.le_of_ble_eq_true rfl) hrx rfl (fun r3 h3 hp => ?_) dL_law_798 rfl (fun r3 h3 hp ad2 hd2 E => ?_)
  · obtain ⟨v, rfl, hp⟩ := hp
    have e : h3.2.2 = rfM := by
      (repeat' (first | (obtain ⟨_, hp⟩ := (hp : _ ∧ _)) | (obtain ⟨_, hp⟩ := (hp : ∃ _, _)) | (obtain hp | hp := (hp : _ ∨ _))))
      all_goals (rw [hp])
    exact ⟨fun x k c q => rfM_lt (by rw [e] at q; exact q), rfl⟩
  obtain ⟨vm, rfl, pm⟩ := hp
  obtain ⟨hve, hq⟩ := r_count h px pm
  refine g_icmp_eq (pc := 801) (tgt := 1041) E dL_law_801 (by decide) (fun cc0 => ?_) (fun cc0 => ?_)
  · exact K _ _ _ _ _ _ hq E (hd2.trans (hd1.trans hb)) (by omega) (by omega)
  · exact absurd hve cc0
set_option maxHeartbeats 4000000 in
set_option maxRecDepth 100000 in
theorem w_gatewayOf {C : q_Ctx} {ad : Nat → Nat} {b L j n t kc ks : Nat} {xs : Nat → Int32} {sB tB : Bool} {f : Nat → Nat → Int32} {g : Nat → Nat → Int64} {F : Nat → Nat → Int32} {G : Nat → Nat → Int64} (E : q_Ev C cL_law 4 RL (alW (alX n sB tB)) ad 6 136) (V : q_Nv C 600000 7302250) (S : q_Sc C b L xs) (hb : ad 200 = b) (h : x_R n t tB f g F G) (hj : 6 * j + 5 < L) (hL : L ≤ 3072) (hkc : kc ≤ 500000) (hks : ks ≤ 7000000) (K : l_K C b j kc ks (alX n sB tB)) : gg C tyW 4 kc ks (alW (alX n sB tB)) ad 806 [some (.ref 200), some (.ref 0), some (.ref 100), some (.int (nI (6 * j)))] [] (hW (f, g, rfX n sB tB) (F, G, rfM)) := by
  refine g_aload_1 (pc := 806) E dL_law_806 ?_
  refine g_aload_0 (pc := 807) E dL_law_807 ?_
  refine g_iload_3 (pc := 808) E dL_law_808 ?_
  refine g_iconst (pc := 809) (v := 1) E dL_law_809 (by decide) ?_
  refine g_iadd (pc := 810) E dL_law_810 ?_
  refine g_sld (pc := 811) E S hb (s_in (k := 1) (by omega) hL) dL_law_811 ?_
  refine g_aload_0 (pc := 812) E dL_law_812 ?_
  refine g_iload_3 (pc := 813) E dL_law_813 ?_
  refine g_iconst (pc := 814) (v := 2) E dL_law_814 (by decide) ?_
  refine g_iadd (pc := 815) E dL_law_815 ?_
  refine g_sld (pc := 816) E S hb (s_in (k := 2) (by omega) hL) dL_law_816 ?_
  refine l_X (pc := 817) E V (c_X7_gatewayOf h.cX h.n10 _ _) cw_L_109 rfl rfl (by decide) (by decide) rfl (Nat.le_of_ble_eq_true rfl) (alX_100 h.n10) rfl (fun r2 h2 hp => ?_) dL_law_817 rfl (fun r2 h2 hp ad1 hd1 E => ?_)
  · obtain ⟨v, rfl, hp⟩ := hp
    have e : h2.2.2 = rfX n sB tB := by
      (repeat' (first | (obtain ⟨_, hp⟩ := (hp : _ ∧ _)) | (obtain ⟨_, hp⟩ := (hp : ∃ _, _)) | (obtain hp | hp := (hp : _ ∨ _))))
      all_goals (rw [hp])
    exact ⟨fun x k c q => rfX_lt h.n10 (by rw [e] at q; exact q), rfl⟩
  obtain ⟨vx, rfl, px⟩ := hp
  have hrx : ∀ x k c, h2.2.2 x k = some c → c < 100 := by
    have e : h2.2.2 = rfX n sB tB := by
      have hp := px
      (repeat' (first | (obtain ⟨_, hp⟩ := (hp : _ ∧ _)) | (obtain ⟨_, hp⟩ := (hp : ∃ _, _)) | (obtain hp | hp := (hp : _ ∨ _))))
      all_goals (rw [hp])
    exact fun x k c q => rfX_lt h.n10 (by rw [e] at q; exact q)
  have hb0 := hb
  have hb := hd1.trans hb0
  refine g_aload_2 (pc := 820) E dL_law_820 ?_
  refine g_aload_0 (pc := 821) E dL_law_821 ?_
  refine g_iload_3 (pc := 822) E dL_law_822 ?_
  refine g_iconst (pc := 823) (v := 1) E dL_law_823 (by decide) ?_
  refine g_iadd (pc := 824) E dL_law_824 ?_
  refine g_sld (pc := 825) E S hb (s_in (k := 1) (by omega) hL) dL_law_825 ?_
  refine g_aload_0 (pc := 826) E dL_law_826 ?_
  refine g_iload_3 (pc := 827) E dL_law_827 ?_
  refine g_iconst (pc := 828) (v := 2) E dL_law_828 (by decide) ?_
  refine g_iadd (pc := 829) E dL_law_829 ?_
  refine g_sld (pc := 830) E S hb (s_in (k := 2) (by omega) hL) dL_law_830 ?_
  have hb := hb0
  refine l_M (pc := 831) E V (c_X8_gatewayOf h.t0 n h.cM h.n10 _ _) cw_L_112 rfl rfl (by decide) (by decide) (Nat.le_of_ble_eq_true rfl) hrx rfl (fun r3 h3 hp => ?_) dL_law_831 rfl (fun r3 h3 hp ad2 hd2 E => ?_)
  · obtain ⟨v, rfl, hp⟩ := hp
    have e : h3.2.2 = rfM := by
      (repeat' (first | (obtain ⟨_, hp⟩ := (hp : _ ∧ _)) | (obtain ⟨_, hp⟩ := (hp : ∃ _, _)) | (obtain hp | hp := (hp : _ ∨ _))))
      all_goals (rw [hp])
    exact ⟨fun x k c q => rfM_lt (by rw [e] at q; exact q), rfl⟩
  obtain ⟨vm, rfl, pm⟩ := hp
  obtain ⟨hve, hq⟩ := r_gatewayOf h px pm
  refine g_icmp_eq (pc := 834) (tgt := 1041) E dL_law_834 (by decide) (fun cc0 => ?_) (fun cc0 => ?_)
  · exact K _ _ _ _ _ _ hq E (hd2.trans (hd1.trans hb)) (by omega) (by omega)
  · exact absurd hve cc0
set_option maxHeartbeats 4000000 in
set_option maxRecDepth 100000 in
theorem w_row {C : q_Ctx} {ad : Nat → Nat} {b L j n t kc ks : Nat} {xs : Nat → Int32} {sB tB : Bool} {f : Nat → Nat → Int32} {g : Nat → Nat → Int64} {F : Nat → Nat → Int32} {G : Nat → Nat → Int64} (E : q_Ev C cL_law 4 RL (alW (alX n sB tB)) ad 6 136) (V : q_Nv C 600000 7302250) (S : q_Sc C b L xs) (hb : ad 200 = b) (h : x_R n t tB f g F G) (hj : 6 * j + 5 < L) (hL : L ≤ 3072) (hkc : kc ≤ 500000) (hks : ks ≤ 7000000) (K : l_K C b j kc ks (alX n sB tB)) : gg C tyW 4 kc ks (alW (alX n sB tB)) ad 839 [some (.ref 200), some (.ref 0), some (.ref 100), some (.int (nI (6 * j)))] [] (hW (f, g, rfX n sB tB) (F, G, rfM)) := by
  refine g_aload_1 (pc := 839) E dL_law_839 ?_
  refine g_aload_0 (pc := 840) E dL_law_840 ?_
  refine g_iload_3 (pc := 841) E dL_law_841 ?_
  refine g_iconst (pc := 842) (v := 1) E dL_law_842 (by decide) ?_
  refine g_iadd (pc := 843) E dL_law_843 ?_
  refine g_sld (pc := 844) E S hb (s_in (k := 1) (by omega) hL) dL_law_844 ?_
  refine g_aload_0 (pc := 845) E dL_law_845 ?_
  refine g_iload_3 (pc := 846) E dL_law_846 ?_
  refine g_iconst (pc := 847) (v := 2) E dL_law_847 (by decide) ?_
  refine g_iadd (pc := 848) E dL_law_848 ?_
  refine g_sld (pc := 849) E S hb (s_in (k := 2) (by omega) hL) dL_law_849 ?_
  refine g_aload_0 (pc := 850) E dL_law_850 ?_
  refine g_iload_3 (pc := 851) E dL_law_851 ?_
  refine g_iconst (pc := 852) (v := 3) E dL_law_852 (by decide) ?_
  refine g_iadd (pc := 853) E dL_law_853 ?_
  refine g_sld (pc := 854) E S hb (s_in (k := 3) (by omega) hL) dL_law_854 ?_
  refine l_X (pc := 855) E V (c_X7_row _ _ _) cw_L_113 rfl rfl (by decide) (by decide) rfl (Nat.le_of_ble_eq_true rfl) (alX_100 h.n10) rfl (fun r2 h2 hp => ?_) dL_law_855 rfl (fun r2 h2 hp ad1 hd1 E => ?_)
  · obtain ⟨v, rfl, hp⟩ := hp
    have e : h2.2.2 = rfX n sB tB := by
      (repeat' (first | (obtain ⟨_, hp⟩ := (hp : _ ∧ _)) | (obtain ⟨_, hp⟩ := (hp : ∃ _, _)) | (obtain hp | hp := (hp : _ ∨ _))))
      all_goals (rw [hp])
    exact ⟨fun x k c q => rfX_lt h.n10 (by rw [e] at q; exact q), rfl⟩
  obtain ⟨vx, rfl, px⟩ := hp
  have hrx : ∀ x k c, h2.2.2 x k = some c → c < 100 := by
    have e : h2.2.2 = rfX n sB tB := by
      have hp := px
      (repeat' (first | (obtain ⟨_, hp⟩ := (hp : _ ∧ _)) | (obtain ⟨_, hp⟩ := (hp : ∃ _, _)) | (obtain hp | hp := (hp : _ ∨ _))))
      all_goals (rw [hp])
    exact fun x k c q => rfX_lt h.n10 (by rw [e] at q; exact q)
  have hb0 := hb
  have hb := hd1.trans hb0
  refine g_aload_2 (pc := 858) E dL_law_858 ?_
  refine g_aload_0 (pc := 859) E dL_law_859 ?_
  refine g_iload_3 (pc := 860) E dL_law_860 ?_
  refine g_iconst (pc := 861) (v := 1) E dL_law_861 (by decide) ?_
  refine g_iadd (pc := 862) E dL_law_862 ?_
  refine g_sld (pc := 863) E S hb (s_in (k := 1) (by omega) hL) dL_law_863 ?_
  refine g_aload_0 (pc := 864) E dL_law_864 ?_
  refine g_iload_3 (pc := 865) E dL_law_865 ?_
  refine g_iconst (pc := 866) (v := 2) E dL_law_866 (by decide) ?_
  refine g_iadd (pc := 867) E dL_law_867 ?_
  refine g_sld (pc := 868) E S hb (s_in (k := 2) (by omega) hL) dL_law_868 ?_
  refine g_aload_0 (pc := 869) E dL_law_869 ?_
  refine g_iload_3 (pc := 870) E dL_law_870 ?_
  refine g_iconst (pc := 871) (v := 3) E dL_law_871 (by decide) ?_
  refine g_iadd (pc := 872) E dL_law_872 ?_
  refine g_sld (pc := 873) E S hb (s_in (k := 3) (by omega) hL) dL_law_873 ?_
  have hb := hb0
  refine l_M (pc := 874) E V (c_X8_row h.t0 _ _ _) cw_L_117 rfl rfl (by decide) (by decide) (Nat.le_of_ble_eq_true rfl) hrx rfl (fun r3 h3 hp => ?_) dL_law_874 rfl (fun r3 h3 hp ad2 hd2 E => ?_)
  · obtain ⟨v, rfl, hp⟩ := hp
    have e : h3.2.2 = rfM := by
      (repeat' (first | (obtain ⟨_, hp⟩ := (hp : _ ∧ _)) | (obtain ⟨_, hp⟩ := (hp : ∃ _, _)) | (obtain hp | hp := (hp : _ ∨ _))))
      all_goals (rw [hp])
    exact ⟨fun x k c q => rfM_lt (by rw [e] at q; exact q), rfl⟩
  obtain ⟨vm, rfl, pm⟩ := hp
  obtain ⟨hve, hq⟩ := r_row h px pm
  refine g_icmp_eq (pc := 877) (tgt := 1041) E dL_law_877 (by decide) (fun cc0 => ?_) (fun cc0 => ?_)
  · exact K _ _ _ _ _ _ hq E (hd2.trans (hd1.trans hb)) (by omega) (by omega)
  · exact absurd hve cc0
set_option maxHeartbeats 4000000 in
set_option maxRecDepth 100000 in
theorem w_tear {C : q_Ctx} {ad : Nat → Nat} {b L j n t kc ks : Nat} {xs : Nat → Int32} {sB tB : Bool} {f : Nat → Nat → Int32} {g : Nat → Nat → Int64} {F : Nat → Nat → Int32} {G : Nat → Nat → Int64} (E : q_Ev C cL_law 4 RL (alW (alX n sB tB)) ad 6 136) (V : q_Nv C 600000 7302250) (S : q_Sc C b L xs) (hb : ad 200 = b) (h : x_R n t tB f g F G) (hj : 6 * j + 5 < L) (hL : L ≤ 3072) (hkc : kc ≤ 500000) (hks : ks ≤ 7000000) (K : l_K C b j kc ks (alX n sB tB)) : gg C tyW 4 kc ks (alW (alX n sB tB)) ad 882 [some (.ref 200), some (.ref 0), some (.ref 100), some (.int (nI (6 * j)))] [] (hW (f, g, rfX n sB tB) (F, G, rfM)) := by
  refine g_aload_1 (pc := 882) E dL_law_882 ?_
  refine g_aload_0 (pc := 883) E dL_law_883 ?_
  refine g_iload_3 (pc := 884) E dL_law_884 ?_
  refine g_iconst (pc := 885) (v := 1) E dL_law_885 (by decide) ?_
  refine g_iadd (pc := 886) E dL_law_886 ?_
  refine g_sld (pc := 887) E S hb (s_in (k := 1) (by omega) hL) dL_law_887 ?_
  refine l_X (pc := 888) E V (c_X7_tear _) cw_L_118 rfl rfl (by decide) (by decide) rfl (Nat.le_of_ble_eq_true rfl) (alX_100 h.n10) rfl (fun r2 h2 hp => ?_) dL_law_888 rfl (fun r2 h2 hp ad1 hd1 E => ?_)
  · obtain ⟨v, rfl, hp⟩ := hp
    have e : h2.2.2 = rfX n sB tB := by
      (repeat' (first | (obtain ⟨_, hp⟩ := (hp : _ ∧ _)) | (obtain ⟨_, hp⟩ := (hp : ∃ _, _)) | (obtain hp | hp := (hp : _ ∨ _))))
      all_goals (rw [hp])
    exact ⟨fun x k c q => rfX_lt h.n10 (by rw [e] at q; exact q), rfl⟩
  obtain ⟨vx, rfl, px⟩ := hp
  have hrx : ∀ x k c, h2.2.2 x k = some c → c < 100 := by
    have e : h2.2.2 = rfX n sB tB := by
      have hp := px
      (repeat' (first | (obtain ⟨_, hp⟩ := (hp : _ ∧ _)) | (obtain ⟨_, hp⟩ := (hp : ∃ _, _)) | (obtain hp | hp := (hp : _ ∨ _))))
      all_goals (rw [hp])
    exact fun x k c q => rfX_lt h.n10 (by rw [e] at q; exact q)
  have hb0 := hb
  have hb := hd1.trans hb0
  refine g_aload_2 (pc := 891) E dL_law_891 ?_
  refine g_aload_0 (pc := 892) E dL_law_892 ?_
  refine g_iload_3 (pc := 893) E dL_law_893 ?_
  refine g_iconst (pc := 894) (v := 1) E dL_law_894 (by decide) ?_
  refine g_iadd (pc := 895) E dL_law_895 ?_
  refine g_sld (pc := 896) E S hb (s_in (k := 1) (by omega) hL) dL_law_896 ?_
  have hb := hb0
  refine l_M (pc := 897) E V (c_X8_tear h.t0 _) cw_L_122 rfl rfl (by decide) (by decide) (Nat.le_of_ble_eq_true rfl) hrx rfl (fun r3 h3 hp => ?_) dL_law_897 rfl (fun r3 h3 hp ad2 hd2 E => ?_)
  · obtain ⟨v, rfl, hp⟩ := hp
    have e : h3.2.2 = rfM := by
      (repeat' (first | (obtain ⟨_, hp⟩ := (hp : _ ∧ _)) | (obtain ⟨_, hp⟩ := (hp : ∃ _, _)) | (obtain hp | hp := (hp : _ ∨ _))))
      all_goals (rw [hp])
    exact ⟨fun x k c q => rfM_lt (by rw [e] at q; exact q), rfl⟩
  obtain ⟨vm, rfl, pm⟩ := hp
  obtain ⟨hve, hq⟩ := r_tear h px pm
  refine g_icmp_eq (pc := 900) (tgt := 1041) E dL_law_900 (by decide) (fun cc0 => ?_) (fun cc0 => ?_)
  · exact K _ _ _ _ _ _ hq E (hd2.trans (hd1.trans hb)) (by omega) (by omega)
  · exact absurd hve cc0
set_option maxHeartbeats 4000000 in
set_option maxRecDepth 100000 in
theorem w_write {C : q_Ctx} {ad : Nat → Nat} {b L j n t kc ks : Nat} {xs : Nat → Int32} {sB tB : Bool} {f : Nat → Nat → Int32} {g : Nat → Nat → Int64} {F : Nat → Nat → Int32} {G : Nat → Nat → Int64} (E : q_Ev C cL_law 4 RL (alW (alX n sB tB)) ad 6 136) (V : q_Nv C 600000 7302250) (S : q_Sc C b L xs) (hb : ad 200 = b) (h : x_R n t tB f g F G) (hj : 6 * j + 5 < L) (hL : L ≤ 3072) (hkc : kc ≤ 500000) (hks : ks ≤ 7000000) (K : l_K C b j kc ks (alX n sB tB)) : gg C tyW 4 kc ks (alW (alX n sB tB)) ad 905 [some (.ref 200), some (.ref 0), some (.ref 100), some (.int (nI (6 * j)))] [] (hW (f, g, rfX n sB tB) (F, G, rfM)) := by
  refine g_aload_1 (pc := 905) E dL_law_905 ?_
  refine g_aload_0 (pc := 906) E dL_law_906 ?_
  refine g_iload_3 (pc := 907) E dL_law_907 ?_
  refine g_iconst (pc := 908) (v := 1) E dL_law_908 (by decide) ?_
  refine g_iadd (pc := 909) E dL_law_909 ?_
  refine g_sld (pc := 910) E S hb (s_in (k := 1) (by omega) hL) dL_law_910 ?_
  refine g_aload_0 (pc := 911) E dL_law_911 ?_
  refine g_iload_3 (pc := 912) E dL_law_912 ?_
  refine g_iconst (pc := 913) (v := 2) E dL_law_913 (by decide) ?_
  refine g_iadd (pc := 914) E dL_law_914 ?_
  refine g_sld (pc := 915) E S hb (s_in (k := 2) (by omega) hL) dL_law_915 ?_
  refine g_aload_0 (pc := 916) E dL_law_916 ?_
  refine g_iload_3 (pc := 917) E dL_law_917 ?_
  refine g_iconst (pc := 918) (v := 3) E dL_law_918 (by decide) ?_
  refine g_iadd (pc := 919) E dL_law_919 ?_
  refine g_sld (pc := 920) E S hb (s_in (k := 3) (by omega) hL) dL_law_920 ?_
  refine g_i2l (pc := 921) E dL_law_921 ?_
  refine g_bipush (pc := 922) (v := 32) E dL_law_922 (by decide) ?_
  refine g_lshl (pc := 924) E dL_law_924 ?_
  refine g_aload_0 (pc := 925) E dL_law_925 ?_
  refine g_iload_3 (pc := 926) E dL_law_926 ?_
  refine g_iconst (pc := 927) (v := 4) E dL_law_927 (by decide) ?_
  refine g_iadd (pc := 928) E dL_law_928 ?_
  refine g_sld (pc := 929) E S hb (s_in (k := 4) (by omega) hL) dL_law_929 ?_
  refine g_i2l (pc := 930) E dL_law_930 ?_
  refine g_ldc2 (pc := 931) E kw_L_123 dL_law_931 ?_
  refine g_land (pc := 934) E dL_law_934 ?_
  refine g_lor (pc := 935) E dL_law_935 ?_
  refine l_X (pc := 936) E V (c_X7_write h.hlen _ _ _) cw_L_125 rfl rfl (by decide) (by decide) rfl (Nat.le_of_ble_eq_true rfl) (alX_100 h.n10) rfl (fun r2 h2 hp => ?_) dL_law_936 rfl (fun r2 h2 hp ad1 hd1 E => ?_)
  · obtain ⟨v, rfl, hp⟩ := hp
    have e : h2.2.2 = rfX n sB tB := by
      (repeat' (first | (obtain ⟨_, hp⟩ := (hp : _ ∧ _)) | (obtain ⟨_, hp⟩ := (hp : ∃ _, _)) | (obtain hp | hp := (hp : _ ∨ _))))
      all_goals (rw [hp])
    exact ⟨fun x k c q => rfX_lt h.n10 (by rw [e] at q; exact q), rfl⟩
  obtain ⟨vx, rfl, px⟩ := hp
  have hrx : ∀ x k c, h2.2.2 x k = some c → c < 100 := by
    have e : h2.2.2 = rfX n sB tB := by
      have hp := px
      (repeat' (first | (obtain ⟨_, hp⟩ := (hp : _ ∧ _)) | (obtain ⟨_, hp⟩ := (hp : ∃ _, _)) | (obtain hp | hp := (hp : _ ∨ _))))
      all_goals (rw [hp])
    exact fun x k c q => rfX_lt h.n10 (by rw [e] at q; exact q)
  have hb0 := hb
  have hb := hd1.trans hb0
  refine g_aload_2 (pc := 939) E dL_law_939 ?_
  refine g_aload_0 (pc := 940) E dL_law_940 ?_
  refine g_iload_3 (pc := 941) E dL_law_941 ?_
  refine g_iconst (pc := 942) (v := 1) E dL_law_942 (by decide) ?_
  refine g_iadd (pc := 943) E dL_law_943 ?_
  refine g_sld (pc := 944) E S hb (s_in (k := 1) (by omega) hL) dL_law_944 ?_
  refine g_aload_0 (pc := 945) E dL_law_945 ?_
  refine g_iload_3 (pc := 946) E dL_law_946 ?_
  refine g_iconst (pc := 947) (v := 2) E dL_law_947 (by decide) ?_
  refine g_iadd (pc := 948) E dL_law_948 ?_
  refine g_sld (pc := 949) E S hb (s_in (k := 2) (by omega) hL) dL_law_949 ?_
  refine g_aload_0 (pc := 950) E dL_law_950 ?_
  refine g_iload_3 (pc := 951) E dL_law_951 ?_
  refine g_iconst (pc := 952) (v := 3) E dL_law_952 (by decide) ?_
  refine g_iadd (pc := 953) E dL_law_953 ?_
  refine g_sld (pc := 954) E S hb (s_in (k := 3) (by omega) hL) dL_law_954 ?_
  refine g_i2l (pc := 955) E dL_law_955 ?_
  refine g_bipush (pc := 956) (v := 32) E dL_law_956 (by decide) ?_
  refine g_lshl (pc := 958) E dL_law_958 ?_
  refine g_aload_0 (pc := 959) E dL_law_959 ?_
  refine g_iload_3 (pc := 960) E dL_law_960 ?_
  refine g_iconst (pc := 961) (v := 4) E dL_law_961 (by decide) ?_
  refine g_iadd (pc := 962) E dL_law_962 ?_
  refine g_sld (pc := 963) E S hb (s_in (k := 4) (by omega) hL) dL_law_963 ?_
  refine g_i2l (pc := 964) E dL_law_964 ?_
  refine g_ldc2 (pc := 965) E kw_L_123 dL_law_965 ?_
  refine g_land (pc := 968) E dL_law_968 ?_
  refine g_lor (pc := 969) E dL_law_969 ?_
  have hb := hb0
  refine l_M (pc := 970) E V (c_X8_write h.t0 h.hsz _ _ _) cw_L_129 rfl rfl (by decide) (by decide) (Nat.le_of_ble_eq_true rfl) hrx rfl (fun r3 h3 hp => ?_) dL_law_970 rfl (fun r3 h3 hp ad2 hd2 E => ?_)
  · obtain ⟨v, rfl, hp⟩ := hp
    have e : h3.2.2 = rfM := by
      (repeat' (first | (obtain ⟨_, hp⟩ := (hp : _ ∧ _)) | (obtain ⟨_, hp⟩ := (hp : ∃ _, _)) | (obtain hp | hp := (hp : _ ∨ _))))
      all_goals (rw [hp])
    exact ⟨fun x k c q => rfM_lt (by rw [e] at q; exact q), rfl⟩
  obtain ⟨vm, rfl, pm⟩ := hp
  obtain ⟨hve, hq⟩ := r_write h px pm
  refine g_icmp_eq (pc := 973) (tgt := 1041) E dL_law_973 (by decide) (fun cc0 => ?_) (fun cc0 => ?_)
  · exact K _ _ _ _ _ _ hq E (hd2.trans (hd1.trans hb)) (by omega) (by omega)
  · exact absurd hve cc0
set_option maxHeartbeats 4000000 in
set_option maxRecDepth 100000 in
theorem w_paste {C : q_Ctx} {ad : Nat → Nat} {b L j n t kc ks : Nat} {xs : Nat → Int32} {sB tB : Bool} {f : Nat → Nat → Int32} {g : Nat → Nat → Int64} {F : Nat → Nat → Int32} {G : Nat → Nat → Int64} (E : q_Ev C cL_law 4 RL (alW (alX n sB tB)) ad 6 136) (V : q_Nv C 600000 7302250) (S : q_Sc C b L xs) (hb : ad 200 = b) (h : x_R n t tB f g F G) (hj : 6 * j + 5 < L) (hL : L ≤ 3072) (hkc : kc ≤ 500000) (hks : ks ≤ 7000000) (K : l_K C b j kc ks (alX n sB tB)) : gg C tyW 4 kc ks (alW (alX n sB tB)) ad 978 [some (.ref 200), some (.ref 0), some (.ref 100), some (.int (nI (6 * j)))] [] (hW (f, g, rfX n sB tB) (F, G, rfM)) := by
  refine g_aload_1 (pc := 978) E dL_law_978 ?_
  refine g_aload_0 (pc := 979) E dL_law_979 ?_
  refine g_iload_3 (pc := 980) E dL_law_980 ?_
  refine g_iconst (pc := 981) (v := 1) E dL_law_981 (by decide) ?_
  refine g_iadd (pc := 982) E dL_law_982 ?_
  refine g_sld (pc := 983) E S hb (s_in (k := 1) (by omega) hL) dL_law_983 ?_
  refine g_aload_0 (pc := 984) E dL_law_984 ?_
  refine g_iload_3 (pc := 985) E dL_law_985 ?_
  refine g_iconst (pc := 986) (v := 2) E dL_law_986 (by decide) ?_
  refine g_iadd (pc := 987) E dL_law_987 ?_
  refine g_sld (pc := 988) E S hb (s_in (k := 2) (by omega) hL) dL_law_988 ?_
  refine g_aload_0 (pc := 989) E dL_law_989 ?_
  refine g_iload_3 (pc := 990) E dL_law_990 ?_
  refine g_iconst (pc := 991) (v := 3) E dL_law_991 (by decide) ?_
  refine g_iadd (pc := 992) E dL_law_992 ?_
  refine g_sld (pc := 993) E S hb (s_in (k := 3) (by omega) hL) dL_law_993 ?_
  refine g_aload_0 (pc := 994) E dL_law_994 ?_
  refine g_iload_3 (pc := 995) E dL_law_995 ?_
  refine g_iconst (pc := 996) (v := 4) E dL_law_996 (by decide) ?_
  refine g_iadd (pc := 997) E dL_law_997 ?_
  refine g_sld (pc := 998) E S hb (s_in (k := 4) (by omega) hL) dL_law_998 ?_
  refine g_aload_0 (pc := 999) E dL_law_999 ?_
  refine g_iload_3 (pc := 1000) E dL_law_1000 ?_
  refine g_iconst (pc := 1001) (v := 5) E dL_law_1001 (by decide) ?_
  refine g_iadd (pc := 1002) E dL_law_1002 ?_
  refine g_sld (pc := 1003) E S hb (s_in (k := 5) (by omega) hL) dL_law_1003 ?_
  refine l_X (pc := 1004) E V (c_X7_paste h.n10 h.hlen _ _ _ _ _) cw_L_130 rfl rfl (by decide) (by decide) rfl (Nat.le_of_ble_eq_true rfl) (alX_100 h.n10) rfl (fun r2 h2 hp => ?_) dL_law_1004 rfl (fun r2 h2 hp ad1 hd1 E => ?_)
  · obtain ⟨v, rfl, hp⟩ := hp
    have e : h2.2.2 = rfX n sB tB := by
      (repeat' (first | (obtain ⟨_, hp⟩ := (hp : _ ∧ _)) | (obtain ⟨_, hp⟩ := (hp : ∃ _, _)) | (obtain hp | hp := (hp : _ ∨ _))))
      all_goals (rw [hp])
    exact ⟨fun x k c q => rfX_lt h.n10 (by rw [e] at q; exact q), rfl⟩
  obtain ⟨vx, rfl, px⟩ := hp
  have hrx : ∀ x k c, h2.2.2 x k = some c → c < 100 := by
    have e : h2.2.2 = rfX n sB tB := by
      have hp := px
      (repeat' (first | (obtain ⟨_, hp⟩ := (hp : _ ∧ _)) | (obtain ⟨_, hp⟩ := (hp : ∃ _, _)) | (obtain hp | hp := (hp : _ ∨ _))))
      all_goals (rw [hp])
    exact fun x k c q => rfX_lt h.n10 (by rw [e] at q; exact q)
  have hb0 := hb
  have hb := hd1.trans hb0
  refine g_aload_2 (pc := 1007) E dL_law_1007 ?_
  refine g_aload_0 (pc := 1008) E dL_law_1008 ?_
  refine g_iload_3 (pc := 1009) E dL_law_1009 ?_
  refine g_iconst (pc := 1010) (v := 1) E dL_law_1010 (by decide) ?_
  refine g_iadd (pc := 1011) E dL_law_1011 ?_
  refine g_sld (pc := 1012) E S hb (s_in (k := 1) (by omega) hL) dL_law_1012 ?_
  refine g_aload_0 (pc := 1013) E dL_law_1013 ?_
  refine g_iload_3 (pc := 1014) E dL_law_1014 ?_
  refine g_iconst (pc := 1015) (v := 2) E dL_law_1015 (by decide) ?_
  refine g_iadd (pc := 1016) E dL_law_1016 ?_
  refine g_sld (pc := 1017) E S hb (s_in (k := 2) (by omega) hL) dL_law_1017 ?_
  refine g_aload_0 (pc := 1018) E dL_law_1018 ?_
  refine g_iload_3 (pc := 1019) E dL_law_1019 ?_
  refine g_iconst (pc := 1020) (v := 3) E dL_law_1020 (by decide) ?_
  refine g_iadd (pc := 1021) E dL_law_1021 ?_
  refine g_sld (pc := 1022) E S hb (s_in (k := 3) (by omega) hL) dL_law_1022 ?_
  refine g_aload_0 (pc := 1023) E dL_law_1023 ?_
  refine g_iload_3 (pc := 1024) E dL_law_1024 ?_
  refine g_iconst (pc := 1025) (v := 4) E dL_law_1025 (by decide) ?_
  refine g_iadd (pc := 1026) E dL_law_1026 ?_
  refine g_sld (pc := 1027) E S hb (s_in (k := 4) (by omega) hL) dL_law_1027 ?_
  refine g_aload_0 (pc := 1028) E dL_law_1028 ?_
  refine g_iload_3 (pc := 1029) E dL_law_1029 ?_
  refine g_iconst (pc := 1030) (v := 5) E dL_law_1030 (by decide) ?_
  refine g_iadd (pc := 1031) E dL_law_1031 ?_
  refine g_sld (pc := 1032) E S hb (s_in (k := 5) (by omega) hL) dL_law_1032 ?_
  have hb := hb0
  refine l_M (pc := 1033) E V (c_X8_paste h.t0 h.hsz _ _ _ _ _) cw_L_134 rfl rfl (by decide) (by decide) (Nat.le_of_ble_eq_true rfl) hrx rfl (fun r3 h3 hp => ?_) dL_law_1033 rfl (fun r3 h3 hp ad2 hd2 E => ?_)
  · obtain ⟨v, rfl, hp⟩ := hp
    have e : h3.2.2 = rfM := by
      (repeat' (first | (obtain ⟨_, hp⟩ := (hp : _ ∧ _)) | (obtain ⟨_, hp⟩ := (hp : ∃ _, _)) | (obtain hp | hp := (hp : _ ∨ _))))
      all_goals (rw [hp])
    exact ⟨fun x k c q => rfM_lt (by rw [e] at q; exact q), rfl⟩
  obtain ⟨vm, rfl, pm⟩ := hp
  obtain ⟨hve, hq⟩ := r_paste h px pm
  refine g_icmp_eq (pc := 1036) (tgt := 1041) E dL_law_1036 (by decide) (fun cc0 => ?_) (fun cc0 => ?_)
  · exact K _ _ _ _ _ _ hq E (hd2.trans (hd1.trans hb)) (by omega) (by omega)
  · exact absurd hve cc0
