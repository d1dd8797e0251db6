/-! ===== the law, call by call ===== -/
abbrev ML : MI := ("NeedNotJoinLaw", cL_law, 4, some .boolean, 24, 600000, 7302250, false)
abbrev lsL (sb o m i : Nat) : List (Option Value) := [some (.ref sb), some (.ref o), some (.ref m), some (.int (nI i))]
section LAWA
variable {h h2 : AH} {o m : Nat} {x y : Sx} {ik : Bool} {len : Nat} {f : Nat → Nat} {ft fp : Int32}
theorem PSh.far {E : Nat} (q : PSh h E) (e : ∀ a, E ≤ a → a < E + 90 → h2 a = h a) : PSh h2 E := ⟨q.1.far (fun a p r => e a p (by omega)), (e _ (by omega) (by omega)).trans q.2⟩
theorem XAt.kp (hX : XAt h o x y ik len f ft fp) (e : ∀ a, o ≤ a → a < o + 303 → h2 a = h a) : XAt h2 o x y ik len f ft fp := by
  obtain ⟨a0, ⟨σ, a1⟩, ⟨τ, a2⟩, a3, a4, a5, ⟨S, a6⟩, W, g, a7, a8⟩ := hX
  exact ⟨(e _ (by omega) (by omega)).trans a0, ⟨σ, a1.far (fun a p q => e a (by omega) (by omega))⟩, ⟨τ, a2.far (fun a p q => e a (by omega) (by omega))⟩, a3.kp (fun a p q => e a (by omega) (by omega)), a4.far (fun a p q => e a (by omega) (by omega)), a5.far (fun a p q => e a (by omega) (by omega)), ⟨S, a6.far (fun a p q => e a (by omega) (by omega))⟩, W, g, a7.kp (fun a p q => e a (by omega) (by omega)), a8⟩
theorem XAt.sx (hX : XAt h o x y ik len f ft fp) : SxOk x := by
  obtain ⟨-, ⟨σ, a1⟩, -⟩ := hX
  exact a1.2.2.1
theorem XAt.sy (hX : XAt h o x y ik len f ft fp) : SxOk y := by
  obtain ⟨-, -, ⟨σ, a1⟩, -⟩ := hX
  exact a1.2.2.1
theorem XAt.tap (hX : XAt h o x y ik len f ft fp) : ∀ t, t < len → f t < 256 := by
  obtain ⟨-, -, -, ⟨-, ⟨-, g, -, a⟩, -⟩, -⟩ := hX
  exact fun t ht => (a t ht).2
theorem XAt.lenOk (hX : XAt h o x y ik len f ft fp) : len ≤ 600 := by
  obtain ⟨-, -, -, ⟨-, ⟨a, -⟩, -⟩, -⟩ := hX
  exact a
theorem MAt.hd (hM : MAt h m x y ik len f ft fp) : ∃ fs, h m = some (ob 10 fs) := by
  obtain ⟨⟨p, n, q, s, a, -⟩, -⟩ := hM
  exact ⟨_, a⟩
theorem MAt.kp (hM : MAt h m x y ik len f ft fp) (e : ∀ a, m ≤ a → a < m + 107 → h2 a = h a) : MAt h2 m x y ik len f ft fp := by
  obtain ⟨⟨p, n, q, s, a, b⟩, hR, ⟨g, hw, hg⟩, ⟨g2, hw2, hg2⟩, hl, g3, h3, h4⟩ := hM
  exact ⟨⟨p, n, q, s, (e _ (by omega) (by omega)).trans a, b⟩, hR.keep (fun k hk => Or.inl (e _ (by omega) (by have := hk.2.1; omega))) (fun a ha => e _ (by omega) (by omega)), ⟨g, (e _ (by omega) (by omega)).trans hw, hg⟩, ⟨g2, (e _ (by omega) (by omega)).trans hw2, hg2⟩, hl, g3, (e _ (by omega) (by omega)).trans h3, h4⟩
end LAWA
/-- both sides stand, in one state -/
def Both (h : AH) (o m : Nat) : Prop := ∃ x y ik len f ft fp, XAt h o x y ik len f ft fp ∧ MAt h m x y ik len f ft fp
section LAW
variable {sb sL o m i : Nat} {sx : Nat → Int32} {Post : Option Value → AH → Nat → Prop} {al : Nat × Nat × Nat} {h : AH}
theorem w_feed (B : Both h o m) (hm : o + 303 ≤ m) (hi : i + 6 ≤ sL) (hL : sL ≤ 3072) (hl1 : al.2.1 ≤ 600000) (hl2 : al.2.2 ≤ 7302250) (K : ∀ h2, Both h2 o m → VS sb sL sx ML Post al h2 1238 (lsL sb o m i) []) : VS sb sL sx ML Post al h 152 (lsL sb o m i) [] := by
  obtain ⟨x, y, ik, len, f, ft, fp, hX, hM⟩ := B
  refine ze_aload_n (pc := 152) dL_law_152 rfl rfl ?_
  refine ze_aload_n (pc := 153) dL_law_153 rfl rfl ?_
  refine ze_iload_n (pc := 154) dL_law_154 rfl rfl ?_
  refine zn_iconst (pc := 155) 1 dL_law_155 (by decide) ?_
  refine zn_iadd (pc := 156) dL_law_156 ?_
  refine ze_sld (pc := 157) _ dL_law_157 rfl (by omega) (by omega) ?_
  refine ze_aload_n (pc := 158) dL_law_158 rfl rfl ?_
  refine ze_iload_n (pc := 159) dL_law_159 rfl rfl ?_
  refine zn_iconst (pc := 160) 2 dL_law_160 (by decide) ?_
  refine zn_iadd (pc := 161) dL_law_161 ?_
  refine ze_sld (pc := 162) _ dL_law_162 rfl (by omega) (by omega) ?_
  refine ze_aload_n (pc := 163) dL_law_163 rfl rfl ?_
  refine ze_iload_n (pc := 164) dL_law_164 rfl rfl ?_
  refine zn_iconst (pc := 165) 3 dL_law_165 (by decide) ?_
  refine zn_iadd (pc := 166) dL_law_166 ?_
  refine ze_sld (pc := 167) _ dL_law_167 rfl (by omega) (by omega) ?_
  refine ze_aload_n (pc := 168) dL_law_168 rfl rfl ?_
  refine ze_iload_n (pc := 169) dL_law_169 rfl rfl ?_
  refine zn_iconst (pc := 170) 4 dL_law_170 (by decide) ?_
  refine zn_iadd (pc := 171) dL_law_171 ?_
  refine ze_sld (pc := 172) _ dL_law_172 rfl (by omega) (by omega) ?_
  refine ze_aload_n (pc := 173) dL_law_173 rfl rfl ?_
  refine ze_iload_n (pc := 174) dL_law_174 rfl rfl ?_
  refine zn_iconst (pc := 175) 5 dL_law_175 (by decide) ?_
  refine zn_iadd (pc := 176) dL_law_176 ?_
  refine ze_sld (pc := 177) _ dL_law_177 rfl (by omega) (by omega) ?_
  refine zn_V (pc := 178) (c_X10_feed hX (sx (i + 1)) (sx (i + 2)) (sx (i + 3)) (sx (i + 4)) (sx (i + 5))) bX10_feed q_i_X10_feed q_s_X10_feed q_m_L_13 dL_law_178 rfl rfl (hX.1) rfl rfl (by exact Nat.le_of_ble_eq_true rfl) ⟨by decide, by decide⟩ ⟨rfl, rfl, hl1, hl2⟩ (fun z1 h1 hp1 => ?_)
  obtain ⟨q1, e1⟩ := hp1
  have hM1 := hM.kp (fun a p q => e1 a (by omega))
  obtain ⟨fsM, hhM⟩ := hM1.hd
  refine ze_aload_n (pc := 181) dL_law_181 rfl rfl ?_
  refine ze_aload_n (pc := 182) dL_law_182 rfl rfl ?_
  refine ze_iload_n (pc := 183) dL_law_183 rfl rfl ?_
  refine zn_iconst (pc := 184) 1 dL_law_184 (by decide) ?_
  refine zn_iadd (pc := 185) dL_law_185 ?_
  refine ze_sld (pc := 186) _ dL_law_186 rfl (by omega) (by omega) ?_
  refine ze_aload_n (pc := 187) dL_law_187 rfl rfl ?_
  refine ze_iload_n (pc := 188) dL_law_188 rfl rfl ?_
  refine zn_iconst (pc := 189) 2 dL_law_189 (by decide) ?_
  refine zn_iadd (pc := 190) dL_law_190 ?_
  refine ze_sld (pc := 191) _ dL_law_191 rfl (by omega) (by omega) ?_
  refine ze_aload_n (pc := 192) dL_law_192 rfl rfl ?_
  refine ze_iload_n (pc := 193) dL_law_193 rfl rfl ?_
  refine zn_iconst (pc := 194) 3 dL_law_194 (by decide) ?_
  refine zn_iadd (pc := 195) dL_law_195 ?_
  refine ze_sld (pc := 196) _ dL_law_196 rfl (by omega) (by omega) ?_
  refine ze_aload_n (pc := 197) dL_law_197 rfl rfl ?_
  refine ze_iload_n (pc := 198) dL_law_198 rfl rfl ?_
  refine zn_iconst (pc := 199) 4 dL_law_199 (by decide) ?_
  refine zn_iadd (pc := 200) dL_law_200 ?_
  refine ze_sld (pc := 201) _ dL_law_201 rfl (by omega) (by omega) ?_
  refine ze_aload_n (pc := 202) dL_law_202 rfl rfl ?_
  refine ze_iload_n (pc := 203) dL_law_203 rfl rfl ?_
  refine zn_iconst (pc := 204) 5 dL_law_204 (by decide) ?_
  refine zn_iadd (pc := 205) dL_law_205 ?_
  refine ze_sld (pc := 206) _ dL_law_206 rfl (by omega) (by omega) ?_
  refine zn_V (pc := 207) (c_X11_feed hM1 (sx (i + 1)) (sx (i + 2)) (sx (i + 3)) (sx (i + 4)) (sx (i + 5))) bX11_feed q_i_X11_feed q_s_X11_feed q_m_L_17 dL_law_207 rfl rfl hhM rfl rfl (by exact Nat.le_of_ble_eq_true rfl) ⟨by decide, by decide⟩ ⟨rfl, rfl, hl1, hl2⟩ (fun z2 h2 hp2 => ?_)
  obtain ⟨q2, e2⟩ := hp2
  rcases q1 with ⟨l1, r1, hX1⟩ | ⟨l1, r1, hX1⟩ <;> rcases q2 with ⟨l2, r2, hM2⟩ | ⟨l2, r2, hM2⟩
  · refine ze_icmp_eq (pc := 210) (tgt := 1238) dL_law_210 (by decide) (fun _ => K _ ⟨_, _, _, _, _, _, _, hX1.kp (fun a p q => e2 a (by omega)), hM2⟩) (fun c => absurd (r1.trans r2.symm) c)
  · exact absurd l1 l2
  · exact absurd l2 l1
  · refine ze_icmp_eq (pc := 210) (tgt := 1238) dL_law_210 (by decide) (fun _ => K _ ⟨_, _, _, _, _, _, _, hX1.kp (fun a p q => e2 a (by omega)), hM2⟩) (fun c => absurd (r1.trans r2.symm) c)
theorem w_end (B : Both h o m) (hm : o + 303 ≤ m) (hi : i + 6 ≤ sL) (hL : sL ≤ 3072) (hl1 : al.2.1 ≤ 600000) (hl2 : al.2.2 ≤ 7302250) (K : ∀ h2, Both h2 o m → VS sb sL sx ML Post al h2 1238 (lsL sb o m i) []) : VS sb sL sx ML Post al h 215 (lsL sb o m i) [] := by
  obtain ⟨x, y, ik, len, f, ft, fp, hX, hM⟩ := B
  refine ze_aload_n (pc := 215) dL_law_215 rfl rfl ?_
  refine ze_aload_n (pc := 216) dL_law_216 rfl rfl ?_
  refine ze_iload_n (pc := 217) dL_law_217 rfl rfl ?_
  refine zn_iconst (pc := 218) 1 dL_law_218 (by decide) ?_
  refine zn_iadd (pc := 219) dL_law_219 ?_
  refine ze_sld (pc := 220) _ dL_law_220 rfl (by omega) (by omega) ?_
  refine zn_V (pc := 221) (c_X10_end hX (sx (i + 1))) bX10_end q_i_X10_end q_s_X10_end q_m_L_18 dL_law_221 rfl rfl (hX.1) rfl rfl (by exact Nat.le_of_ble_eq_true rfl) ⟨by decide, by decide⟩ ⟨rfl, rfl, hl1, hl2⟩ (fun z1 h1 hp1 => ?_)
  obtain ⟨q1, e1⟩ := hp1
  have hM1 := hM.kp (fun a p q => e1 a (by omega))
  obtain ⟨fsM, hhM⟩ := hM1.hd
  refine ze_aload_n (pc := 224) dL_law_224 rfl rfl ?_
  refine ze_aload_n (pc := 225) dL_law_225 rfl rfl ?_
  refine ze_iload_n (pc := 226) dL_law_226 rfl rfl ?_
  refine zn_iconst (pc := 227) 1 dL_law_227 (by decide) ?_
  refine zn_iadd (pc := 228) dL_law_228 ?_
  refine ze_sld (pc := 229) _ dL_law_229 rfl (by omega) (by omega) ?_
  refine zn_V (pc := 230) (c_X11_end hM1 (sx (i + 1))) bX11_end q_i_X11_end q_s_X11_end q_m_L_22 dL_law_230 rfl rfl hhM rfl rfl (by exact Nat.le_of_ble_eq_true rfl) ⟨by decide, by decide⟩ ⟨rfl, rfl, hl1, hl2⟩ (fun z2 h2 hp2 => ?_)
  obtain ⟨q2, e2⟩ := hp2
  have l6 := hX.lenOk
  rcases q1 with ⟨k1, n1, l1, r1, hX1⟩ | ⟨l1, r1, hX1⟩ <;> rcases q2 with ⟨k2, n2, l2, r2, hM2⟩ | ⟨l2, r2, hM2⟩
  · have ek : k1 = k2 := nI_j2 (by omega) (by omega) (n1.symm.trans n2)
    subst ek
    refine ze_icmp_eq (pc := 233) (tgt := 1238) dL_law_233 (by decide) (fun _ => K _ ⟨_, _, _, _, _, _, _, hX1.kp (fun a p q => e2 a (by omega)), hM2⟩) (fun c => absurd (r1.trans r2.symm) c)
  · rw [n1, okI_nat (by omega) (by omega)] at l2; cases l2
  · rw [n2, okI_nat (by omega) (by omega)] at l1; cases l1
  · refine ze_icmp_eq (pc := 233) (tgt := 1238) dL_law_233 (by decide) (fun _ => K _ ⟨_, _, _, _, _, _, _, hX1.kp (fun a p q => e2 a (by omega)), hM2⟩) (fun c => absurd (r1.trans r2.symm) c)
theorem w_text (B : Both h o m) (hm : o + 303 ≤ m) (hi : i + 6 ≤ sL) (hL : sL ≤ 3072) (hl1 : al.2.1 ≤ 600000) (hl2 : al.2.2 ≤ 7302250) (K : ∀ h2, Both h2 o m → VS sb sL sx ML Post al h2 1238 (lsL sb o m i) []) : VS sb sL sx ML Post al h 238 (lsL sb o m i) [] := by
  obtain ⟨x, y, ik, len, f, ft, fp, hX, hM⟩ := B
  refine ze_aload_n (pc := 238) dL_law_238 rfl rfl ?_
  refine ze_aload_n (pc := 239) dL_law_239 rfl rfl ?_
  refine ze_iload_n (pc := 240) dL_law_240 rfl rfl ?_
  refine zn_iconst (pc := 241) 1 dL_law_241 (by decide) ?_
  refine zn_iadd (pc := 242) dL_law_242 ?_
  refine ze_sld (pc := 243) _ dL_law_243 rfl (by omega) (by omega) ?_
  refine zn_V (pc := 244) (c_X10_text hX (sx (i + 1))) bX10_text q_i_X10_text q_s_X10_text q_m_L_23 dL_law_244 rfl rfl (hX.1) rfl rfl (by exact Nat.le_of_ble_eq_true rfl) ⟨by decide, by decide⟩ ⟨rfl, rfl, hl1, hl2⟩ (fun z1 h1 hp1 => ?_)
  obtain ⟨x1, ft1, fp1, q1, hX1, e1⟩ := hp1
  have hM1 := hM.kp (fun a p q => e1 a (by omega))
  obtain ⟨fsM, hhM⟩ := hM1.hd
  refine ze_aload_n (pc := 247) dL_law_247 rfl rfl ?_
  refine ze_aload_n (pc := 248) dL_law_248 rfl rfl ?_
  refine ze_iload_n (pc := 249) dL_law_249 rfl rfl ?_
  refine zn_iconst (pc := 250) 1 dL_law_250 (by decide) ?_
  refine zn_iadd (pc := 251) dL_law_251 ?_
  refine ze_sld (pc := 252) _ dL_law_252 rfl (by omega) (by omega) ?_
  refine zn_V (pc := 253) (c_X11_text hM1 hX.sx hX.tap (sx (i + 1))) bX11_text q_i_X11_text q_s_X11_text q_m_L_27 dL_law_253 rfl rfl hhM rfl rfl (by exact Nat.le_of_ble_eq_true rfl) ⟨by decide, by decide⟩ ⟨rfl, rfl, hl1, hl2⟩ (fun z2 h2 hp2 => ?_)
  obtain ⟨x2, ft2, fp2, q2, hM2, e2⟩ := hp2
  obtain ⟨f1, rfl, rfl, rfl⟩ := F_text q1 q2
  refine ze_icmp_eq (pc := 256) (tgt := 1238) dL_law_256 (by decide) (fun _ => K _ ⟨_, _, _, _, _, _, _, hX1.kp (fun a p q => e2 a (by omega)), hM2⟩) (fun c => absurd f1 c)
theorem w_fault (B : Both h o m) (hm : o + 303 ≤ m) (hi : i + 6 ≤ sL) (hL : sL ≤ 3072) (hl1 : al.2.1 ≤ 600000) (hl2 : al.2.2 ≤ 7302250) (K : ∀ h2, Both h2 o m → VS sb sL sx ML Post al h2 1238 (lsL sb o m i) []) : VS sb sL sx ML Post al h 261 (lsL sb o m i) [] := by
  obtain ⟨x, y, ik, len, f, ft, fp, hX, hM⟩ := B
  refine ze_aload_n (pc := 261) dL_law_261 rfl rfl ?_
  refine ze_aload_n (pc := 262) dL_law_262 rfl rfl ?_
  refine ze_iload_n (pc := 263) dL_law_263 rfl rfl ?_
  refine zn_iconst (pc := 264) 1 dL_law_264 (by decide) ?_
  refine zn_iadd (pc := 265) dL_law_265 ?_
  refine ze_sld (pc := 266) _ dL_law_266 rfl (by omega) (by omega) ?_
  refine zn_V (pc := 267) (c_X10_fault hX (sx (i + 1))) bX10_fault q_i_X10_fault q_s_X10_fault q_m_L_28 dL_law_267 rfl rfl (hX.1) rfl rfl (by exact Nat.le_of_ble_eq_true rfl) ⟨by decide, by decide⟩ ⟨rfl, rfl, hl1, hl2⟩ (fun z1 h1 hp1 => ?_)
  obtain ⟨q1, rfl⟩ := hp1
  obtain ⟨fsM, hhM⟩ := hM.hd
  refine ze_aload_n (pc := 270) dL_law_270 rfl rfl ?_
  refine ze_aload_n (pc := 271) dL_law_271 rfl rfl ?_
  refine ze_iload_n (pc := 272) dL_law_272 rfl rfl ?_
  refine zn_iconst (pc := 273) 1 dL_law_273 (by decide) ?_
  refine zn_iadd (pc := 274) dL_law_274 ?_
  refine ze_sld (pc := 275) _ dL_law_275 rfl (by omega) (by omega) ?_
  refine zn_V (pc := 276) (c_X11_fault hM (sx (i + 1))) bX11_fault q_i_X11_fault q_s_X11_fault q_m_L_31 dL_law_276 rfl rfl hhM rfl rfl (by exact Nat.le_of_ble_eq_true rfl) ⟨by decide, by decide⟩ ⟨rfl, rfl, hl1, hl2⟩ (fun z2 h2 hp2 => ?_)
  obtain ⟨q2, rfl⟩ := hp2
  refine ze_icmp_eq (pc := 279) (tgt := 1238) dL_law_279 (by decide) (fun _ => K _ ⟨_, _, _, _, _, _, _, hX, hM⟩) (fun c => absurd (F_fault q1 q2) c)
theorem w_digit (B : Both h o m) (hm : o + 303 ≤ m) (hi : i + 6 ≤ sL) (hL : sL ≤ 3072) (hl1 : al.2.1 ≤ 600000) (hl2 : al.2.2 ≤ 7302250) (K : ∀ h2, Both h2 o m → VS sb sL sx ML Post al h2 1238 (lsL sb o m i) []) : VS sb sL sx ML Post al h 284 (lsL sb o m i) [] := by
  obtain ⟨x, y, ik, len, f, ft, fp, hX, hM⟩ := B
  refine ze_aload_n (pc := 284) dL_law_284 rfl rfl ?_
  refine ze_aload_n (pc := 285) dL_law_285 rfl rfl ?_
  refine ze_iload_n (pc := 286) dL_law_286 rfl rfl ?_
  refine zn_iconst (pc := 287) 1 dL_law_287 (by decide) ?_
  refine zn_iadd (pc := 288) dL_law_288 ?_
  refine ze_sld (pc := 289) _ dL_law_289 rfl (by omega) (by omega) ?_
  refine ze_aload_n (pc := 290) dL_law_290 rfl rfl ?_
  refine ze_iload_n (pc := 291) dL_law_291 rfl rfl ?_
  refine zn_iconst (pc := 292) 2 dL_law_292 (by decide) ?_
  refine zn_iadd (pc := 293) dL_law_293 ?_
  refine ze_sld (pc := 294) _ dL_law_294 rfl (by omega) (by omega) ?_
  refine ze_aload_n (pc := 295) dL_law_295 rfl rfl ?_
  refine ze_iload_n (pc := 296) dL_law_296 rfl rfl ?_
  refine zn_iconst (pc := 297) 3 dL_law_297 (by decide) ?_
  refine zn_iadd (pc := 298) dL_law_298 ?_
  refine ze_sld (pc := 299) _ dL_law_299 rfl (by omega) (by omega) ?_
  refine ze_aload_n (pc := 300) dL_law_300 rfl rfl ?_
  refine ze_iload_n (pc := 301) dL_law_301 rfl rfl ?_
  refine zn_iconst (pc := 302) 4 dL_law_302 (by decide) ?_
  refine zn_iadd (pc := 303) dL_law_303 ?_
  refine ze_sld (pc := 304) _ dL_law_304 rfl (by omega) (by omega) ?_
  refine ze_aload_n (pc := 305) dL_law_305 rfl rfl ?_
  refine ze_iload_n (pc := 306) dL_law_306 rfl rfl ?_
  refine zn_iconst (pc := 307) 5 dL_law_307 (by decide) ?_
  refine zn_iadd (pc := 308) dL_law_308 ?_
  refine ze_sld (pc := 309) _ dL_law_309 rfl (by omega) (by omega) ?_
  refine zn_V (pc := 310) (c_X10_digit hX (sx (i + 1)) (sx (i + 2)) (sx (i + 3)) (sx (i + 4)) (sx (i + 5))) bX10_digit q_i_X10_digit q_s_X10_digit q_m_L_32 dL_law_310 rfl rfl (hX.1) rfl rfl (by exact Nat.le_of_ble_eq_true rfl) ⟨by decide, by decide⟩ ⟨rfl, rfl, hl1, hl2⟩ (fun z1 h1 hp1 => ?_)
  obtain ⟨x1, q1, hX1, e1⟩ := hp1
  have hM1 := hM.kp (fun a p q => e1 a (by omega))
  obtain ⟨fsM, hhM⟩ := hM1.hd
  refine ze_aload_n (pc := 313) dL_law_313 rfl rfl ?_
  refine ze_aload_n (pc := 314) dL_law_314 rfl rfl ?_
  refine ze_iload_n (pc := 315) dL_law_315 rfl rfl ?_
  refine zn_iconst (pc := 316) 1 dL_law_316 (by decide) ?_
  refine zn_iadd (pc := 317) dL_law_317 ?_
  refine ze_sld (pc := 318) _ dL_law_318 rfl (by omega) (by omega) ?_
  refine ze_aload_n (pc := 319) dL_law_319 rfl rfl ?_
  refine ze_iload_n (pc := 320) dL_law_320 rfl rfl ?_
  refine zn_iconst (pc := 321) 2 dL_law_321 (by decide) ?_
  refine zn_iadd (pc := 322) dL_law_322 ?_
  refine ze_sld (pc := 323) _ dL_law_323 rfl (by omega) (by omega) ?_
  refine ze_aload_n (pc := 324) dL_law_324 rfl rfl ?_
  refine ze_iload_n (pc := 325) dL_law_325 rfl rfl ?_
  refine zn_iconst (pc := 326) 3 dL_law_326 (by decide) ?_
  refine zn_iadd (pc := 327) dL_law_327 ?_
  refine ze_sld (pc := 328) _ dL_law_328 rfl (by omega) (by omega) ?_
  refine ze_aload_n (pc := 329) dL_law_329 rfl rfl ?_
  refine ze_iload_n (pc := 330) dL_law_330 rfl rfl ?_
  refine zn_iconst (pc := 331) 4 dL_law_331 (by decide) ?_
  refine zn_iadd (pc := 332) dL_law_332 ?_
  refine ze_sld (pc := 333) _ dL_law_333 rfl (by omega) (by omega) ?_
  refine ze_aload_n (pc := 334) dL_law_334 rfl rfl ?_
  refine ze_iload_n (pc := 335) dL_law_335 rfl rfl ?_
  refine zn_iconst (pc := 336) 5 dL_law_336 (by decide) ?_
  refine zn_iadd (pc := 337) dL_law_337 ?_
  refine ze_sld (pc := 338) _ dL_law_338 rfl (by omega) (by omega) ?_
  refine zn_V (pc := 339) (c_X11_digit hM1 hX.sx (sx (i + 1)) (sx (i + 2)) (sx (i + 3)) (sx (i + 4)) (sx (i + 5))) bX11_digit q_i_X11_digit q_s_X11_digit q_m_L_36 dL_law_339 rfl rfl hhM rfl rfl (by exact Nat.le_of_ble_eq_true rfl) ⟨by decide, by decide⟩ ⟨rfl, rfl, hl1, hl2⟩ (fun z2 h2 hp2 => ?_)
  obtain ⟨x2, q2, hM2, e2⟩ := hp2
  obtain ⟨f1, rfl⟩ := F_digit q1 q2
  refine ze_icmp_eq (pc := 342) (tgt := 1238) dL_law_342 (by decide) (fun _ => K _ ⟨_, _, _, _, _, _, _, hX1.kp (fun a p q => e2 a (by omega)), hM2⟩) (fun c => absurd f1 c)
theorem w_cube (B : Both h o m) (hm : o + 303 ≤ m) (hi : i + 6 ≤ sL) (hL : sL ≤ 3072) (hl1 : al.2.1 ≤ 600000) (hl2 : al.2.2 ≤ 7302250) (K : ∀ h2, Both h2 o m → VS sb sL sx ML Post al h2 1238 (lsL sb o m i) []) : VS sb sL sx ML Post al h 347 (lsL sb o m i) [] := by
  obtain ⟨x, y, ik, len, f, ft, fp, hX, hM⟩ := B
  refine ze_aload_n (pc := 347) dL_law_347 rfl rfl ?_
  refine ze_aload_n (pc := 348) dL_law_348 rfl rfl ?_
  refine ze_iload_n (pc := 349) dL_law_349 rfl rfl ?_
  refine zn_iconst (pc := 350) 1 dL_law_350 (by decide) ?_
  refine zn_iadd (pc := 351) dL_law_351 ?_
  refine ze_sld (pc := 352) _ dL_law_352 rfl (by omega) (by omega) ?_
  refine ze_aload_n (pc := 353) dL_law_353 rfl rfl ?_
  refine ze_iload_n (pc := 354) dL_law_354 rfl rfl ?_
  refine zn_iconst (pc := 355) 2 dL_law_355 (by decide) ?_
  refine zn_iadd (pc := 356) dL_law_356 ?_
  refine ze_sld (pc := 357) _ dL_law_357 rfl (by omega) (by omega) ?_
  refine ze_aload_n (pc := 358) dL_law_358 rfl rfl ?_
  refine ze_iload_n (pc := 359) dL_law_359 rfl rfl ?_
  refine zn_iconst (pc := 360) 3 dL_law_360 (by decide) ?_
  refine zn_iadd (pc := 361) dL_law_361 ?_
  refine ze_sld (pc := 362) _ dL_law_362 rfl (by omega) (by omega) ?_
  refine ze_aload_n (pc := 363) dL_law_363 rfl rfl ?_
  refine ze_iload_n (pc := 364) dL_law_364 rfl rfl ?_
  refine zn_iconst (pc := 365) 4 dL_law_365 (by decide) ?_
  refine zn_iadd (pc := 366) dL_law_366 ?_
  refine ze_sld (pc := 367) _ dL_law_367 rfl (by omega) (by omega) ?_
  refine zn_V (pc := 368) (c_X10_cube hX (sx (i + 1)) (sx (i + 2)) (sx (i + 3)) (sx (i + 4))) bX10_cube q_i_X10_cube q_s_X10_cube q_m_L_37 dL_law_368 rfl rfl (hX.1) rfl rfl (by exact Nat.le_of_ble_eq_true rfl) ⟨by decide, by decide⟩ ⟨rfl, rfl, hl1, hl2⟩ (fun z1 h1 hp1 => ?_)
  obtain ⟨q1, hX1, e1⟩ := hp1
  have hM1 := hM.kp (fun a p q => e1 a (by omega))
  obtain ⟨fsM, hhM⟩ := hM1.hd
  refine ze_aload_n (pc := 371) dL_law_371 rfl rfl ?_
  refine ze_aload_n (pc := 372) dL_law_372 rfl rfl ?_
  refine ze_iload_n (pc := 373) dL_law_373 rfl rfl ?_
  refine zn_iconst (pc := 374) 1 dL_law_374 (by decide) ?_
  refine zn_iadd (pc := 375) dL_law_375 ?_
  refine ze_sld (pc := 376) _ dL_law_376 rfl (by omega) (by omega) ?_
  refine ze_aload_n (pc := 377) dL_law_377 rfl rfl ?_
  refine ze_iload_n (pc := 378) dL_law_378 rfl rfl ?_
  refine zn_iconst (pc := 379) 2 dL_law_379 (by decide) ?_
  refine zn_iadd (pc := 380) dL_law_380 ?_
  refine ze_sld (pc := 381) _ dL_law_381 rfl (by omega) (by omega) ?_
  refine ze_aload_n (pc := 382) dL_law_382 rfl rfl ?_
  refine ze_iload_n (pc := 383) dL_law_383 rfl rfl ?_
  refine zn_iconst (pc := 384) 3 dL_law_384 (by decide) ?_
  refine zn_iadd (pc := 385) dL_law_385 ?_
  refine ze_sld (pc := 386) _ dL_law_386 rfl (by omega) (by omega) ?_
  refine ze_aload_n (pc := 387) dL_law_387 rfl rfl ?_
  refine ze_iload_n (pc := 388) dL_law_388 rfl rfl ?_
  refine zn_iconst (pc := 389) 4 dL_law_389 (by decide) ?_
  refine zn_iadd (pc := 390) dL_law_390 ?_
  refine ze_sld (pc := 391) _ dL_law_391 rfl (by omega) (by omega) ?_
  refine zn_V (pc := 392) (c_X11_cube hM1 hX.sx (sx (i + 1)) (sx (i + 2)) (sx (i + 3)) (sx (i + 4))) bX11_cube q_i_X11_cube q_s_X11_cube q_m_L_41 dL_law_392 rfl rfl hhM rfl rfl (by exact Nat.le_of_ble_eq_true rfl) ⟨by decide, by decide⟩ ⟨rfl, rfl, hl1, hl2⟩ (fun z2 h2 hp2 => ?_)
  obtain ⟨q2, hM2, e2⟩ := hp2
  refine ze_icmp_eq (pc := 395) (tgt := 1238) dL_law_395 (by decide) (fun _ => K _ ⟨_, _, _, _, _, _, _, hX1.kp (fun a p q => e2 a (by omega)), hM2⟩) (fun c => absurd (F_cube q1 q2) c)
theorem w_of (B : Both h o m) (hm : o + 303 ≤ m) (hi : i + 6 ≤ sL) (hL : sL ≤ 3072) (hl1 : al.2.1 ≤ 600000) (hl2 : al.2.2 ≤ 7302250) (K : ∀ h2, Both h2 o m → VS sb sL sx ML Post al h2 1238 (lsL sb o m i) []) : VS sb sL sx ML Post al h 400 (lsL sb o m i) [] := by
  obtain ⟨x, y, ik, len, f, ft, fp, hX, hM⟩ := B
  refine ze_aload_n (pc := 400) dL_law_400 rfl rfl ?_
  refine ze_aload_n (pc := 401) dL_law_401 rfl rfl ?_
  refine ze_iload_n (pc := 402) dL_law_402 rfl rfl ?_
  refine zn_iconst (pc := 403) 1 dL_law_403 (by decide) ?_
  refine zn_iadd (pc := 404) dL_law_404 ?_
  refine ze_sld (pc := 405) _ dL_law_405 rfl (by omega) (by omega) ?_
  refine ze_aload_n (pc := 406) dL_law_406 rfl rfl ?_
  refine ze_iload_n (pc := 407) dL_law_407 rfl rfl ?_
  refine zn_iconst (pc := 408) 2 dL_law_408 (by decide) ?_
  refine zn_iadd (pc := 409) dL_law_409 ?_
  refine ze_sld (pc := 410) _ dL_law_410 rfl (by omega) (by omega) ?_
  refine zn_V (pc := 411) (c_X10_of hX (sx (i + 1)) (sx (i + 2))) bX10_of q_i_X10_of q_s_X10_of q_m_L_42 dL_law_411 rfl rfl (hX.1) rfl rfl (by exact Nat.le_of_ble_eq_true rfl) ⟨by decide, by decide⟩ ⟨rfl, rfl, hl1, hl2⟩ (fun z1 h1 hp1 => ?_)
  obtain ⟨q1, hX1, e1⟩ := hp1
  have hM1 := hM.kp (fun a p q => e1 a (by omega))
  obtain ⟨fsM, hhM⟩ := hM1.hd
  refine ze_aload_n (pc := 414) dL_law_414 rfl rfl ?_
  refine ze_aload_n (pc := 415) dL_law_415 rfl rfl ?_
  refine ze_iload_n (pc := 416) dL_law_416 rfl rfl ?_
  refine zn_iconst (pc := 417) 1 dL_law_417 (by decide) ?_
  refine zn_iadd (pc := 418) dL_law_418 ?_
  refine ze_sld (pc := 419) _ dL_law_419 rfl (by omega) (by omega) ?_
  refine ze_aload_n (pc := 420) dL_law_420 rfl rfl ?_
  refine ze_iload_n (pc := 421) dL_law_421 rfl rfl ?_
  refine zn_iconst (pc := 422) 2 dL_law_422 (by decide) ?_
  refine zn_iadd (pc := 423) dL_law_423 ?_
  refine ze_sld (pc := 424) _ dL_law_424 rfl (by omega) (by omega) ?_
  refine zn_V (pc := 425) (c_X11_of hM1 hX.sx (sx (i + 1)) (sx (i + 2))) bX11_of q_i_X11_of q_s_X11_of q_m_L_46 dL_law_425 rfl rfl hhM rfl rfl (by exact Nat.le_of_ble_eq_true rfl) ⟨by decide, by decide⟩ ⟨rfl, rfl, hl1, hl2⟩ (fun z2 h2 hp2 => ?_)
  obtain ⟨q2, hM2, e2⟩ := hp2
  refine ze_icmp_eq (pc := 428) (tgt := 1238) dL_law_428 (by decide) (fun _ => K _ ⟨_, _, _, _, _, _, _, hX1.kp (fun a p q => e2 a (by omega)), hM2⟩) (fun c => absurd (F_of q1 q2) c)
theorem w_product (B : Both h o m) (hm : o + 303 ≤ m) (hi : i + 6 ≤ sL) (hL : sL ≤ 3072) (hl1 : al.2.1 ≤ 600000) (hl2 : al.2.2 ≤ 7302250) (K : ∀ h2, Both h2 o m → VS sb sL sx ML Post al h2 1238 (lsL sb o m i) []) : VS sb sL sx ML Post al h 433 (lsL sb o m i) [] := by
  obtain ⟨x, y, ik, len, f, ft, fp, hX, hM⟩ := B
  refine ze_aload_n (pc := 433) dL_law_433 rfl rfl ?_
  refine ze_aload_n (pc := 434) dL_law_434 rfl rfl ?_
  refine ze_iload_n (pc := 435) dL_law_435 rfl rfl ?_
  refine zn_iconst (pc := 436) 1 dL_law_436 (by decide) ?_
  refine zn_iadd (pc := 437) dL_law_437 ?_
  refine ze_sld (pc := 438) _ dL_law_438 rfl (by omega) (by omega) ?_
  refine ze_aload_n (pc := 439) dL_law_439 rfl rfl ?_
  refine ze_iload_n (pc := 440) dL_law_440 rfl rfl ?_
  refine zn_iconst (pc := 441) 2 dL_law_441 (by decide) ?_
  refine zn_iadd (pc := 442) dL_law_442 ?_
  refine ze_sld (pc := 443) _ dL_law_443 rfl (by omega) (by omega) ?_
  refine ze_aload_n (pc := 444) dL_law_444 rfl rfl ?_
  refine ze_iload_n (pc := 445) dL_law_445 rfl rfl ?_
  refine zn_iconst (pc := 446) 3 dL_law_446 (by decide) ?_
  refine zn_iadd (pc := 447) dL_law_447 ?_
  refine ze_sld (pc := 448) _ dL_law_448 rfl (by omega) (by omega) ?_
  refine zn_V (pc := 449) (c_X10_product hX (sx (i + 1)) (sx (i + 2)) (sx (i + 3))) bX10_product q_i_X10_product q_s_X10_product q_m_L_47 dL_law_449 rfl rfl (hX.1) rfl rfl (by exact Nat.le_of_ble_eq_true rfl) ⟨by decide, by decide⟩ ⟨rfl, rfl, hl1, hl2⟩ (fun z1 h1 hp1 => ?_)
  obtain ⟨q1, hX1, e1⟩ := hp1
  have hM1 := hM.kp (fun a p q => e1 a (by omega))
  obtain ⟨fsM, hhM⟩ := hM1.hd
  refine ze_aload_n (pc := 452) dL_law_452 rfl rfl ?_
  refine ze_aload_n (pc := 453) dL_law_453 rfl rfl ?_
  refine ze_iload_n (pc := 454) dL_law_454 rfl rfl ?_
  refine zn_iconst (pc := 455) 1 dL_law_455 (by decide) ?_
  refine zn_iadd (pc := 456) dL_law_456 ?_
  refine ze_sld (pc := 457) _ dL_law_457 rfl (by omega) (by omega) ?_
  refine ze_aload_n (pc := 458) dL_law_458 rfl rfl ?_
  refine ze_iload_n (pc := 459) dL_law_459 rfl rfl ?_
  refine zn_iconst (pc := 460) 2 dL_law_460 (by decide) ?_
  refine zn_iadd (pc := 461) dL_law_461 ?_
  refine ze_sld (pc := 462) _ dL_law_462 rfl (by omega) (by omega) ?_
  refine ze_aload_n (pc := 463) dL_law_463 rfl rfl ?_
  refine ze_iload_n (pc := 464) dL_law_464 rfl rfl ?_
  refine zn_iconst (pc := 465) 3 dL_law_465 (by decide) ?_
  refine zn_iadd (pc := 466) dL_law_466 ?_
  refine ze_sld (pc := 467) _ dL_law_467 rfl (by omega) (by omega) ?_
  refine zn_V (pc := 468) (c_X11_product hM1 hX.sx (sx (i + 1)) (sx (i + 2)) (sx (i + 3))) bX11_product q_i_X11_product q_s_X11_product q_m_L_51 dL_law_468 rfl rfl hhM rfl rfl (by exact Nat.le_of_ble_eq_true rfl) ⟨by decide, by decide⟩ ⟨rfl, rfl, hl1, hl2⟩ (fun z2 h2 hp2 => ?_)
  obtain ⟨q2, hM2, e2⟩ := hp2
  refine ze_icmp_eq (pc := 471) (tgt := 1238) dL_law_471 (by decide) (fun _ => K _ ⟨_, _, _, _, _, _, _, hX1.kp (fun a p q => e2 a (by omega)), hM2⟩) (fun c => absurd (F_prod q1 q2) c)
theorem w_quotient (B : Both h o m) (hm : o + 303 ≤ m) (hi : i + 6 ≤ sL) (hL : sL ≤ 3072) (hl1 : al.2.1 ≤ 600000) (hl2 : al.2.2 ≤ 7302250) (K : ∀ h2, Both h2 o m → VS sb sL sx ML Post al h2 1238 (lsL sb o m i) []) : VS sb sL sx ML Post al h 476 (lsL sb o m i) [] := by
  obtain ⟨x, y, ik, len, f, ft, fp, hX, hM⟩ := B
  refine ze_aload_n (pc := 476) dL_law_476 rfl rfl ?_
  refine ze_aload_n (pc := 477) dL_law_477 rfl rfl ?_
  refine ze_iload_n (pc := 478) dL_law_478 rfl rfl ?_
  refine zn_iconst (pc := 479) 1 dL_law_479 (by decide) ?_
  refine zn_iadd (pc := 480) dL_law_480 ?_
  refine ze_sld (pc := 481) _ dL_law_481 rfl (by omega) (by omega) ?_
  refine ze_aload_n (pc := 482) dL_law_482 rfl rfl ?_
  refine ze_iload_n (pc := 483) dL_law_483 rfl rfl ?_
  refine zn_iconst (pc := 484) 2 dL_law_484 (by decide) ?_
  refine zn_iadd (pc := 485) dL_law_485 ?_
  refine ze_sld (pc := 486) _ dL_law_486 rfl (by omega) (by omega) ?_
  refine ze_aload_n (pc := 487) dL_law_487 rfl rfl ?_
  refine ze_iload_n (pc := 488) dL_law_488 rfl rfl ?_
  refine zn_iconst (pc := 489) 3 dL_law_489 (by decide) ?_
  refine zn_iadd (pc := 490) dL_law_490 ?_
  refine ze_sld (pc := 491) _ dL_law_491 rfl (by omega) (by omega) ?_
  refine ze_aload_n (pc := 492) dL_law_492 rfl rfl ?_
  refine ze_iload_n (pc := 493) dL_law_493 rfl rfl ?_
  refine zn_iconst (pc := 494) 4 dL_law_494 (by decide) ?_
  refine zn_iadd (pc := 495) dL_law_495 ?_
  refine ze_sld (pc := 496) _ dL_law_496 rfl (by omega) (by omega) ?_
  refine ze_bool (pc := 497) dL_law_497 dL_law_500 dL_law_501 dL_law_504 ?_
  refine zn_V (pc := 505) (c_X10_quotient hX (sx (i + 1)) (sx (i + 2)) (sx (i + 3)) (!decide (sx (i + 4) = 0))) bX10_quotient q_i_X10_quotient q_s_X10_quotient q_m_L_52 dL_law_505 rfl rfl (hX.1) rfl rfl (by exact Nat.le_of_ble_eq_true rfl) ⟨by decide, by decide⟩ ⟨rfl, rfl, hl1, hl2⟩ (fun z1 h1 hp1 => ?_)
  obtain ⟨q1, hX1, e1⟩ := hp1
  have hM1 := hM.kp (fun a p q => e1 a (by omega))
  obtain ⟨fsM, hhM⟩ := hM1.hd
  refine ze_aload_n (pc := 508) dL_law_508 rfl rfl ?_
  refine ze_aload_n (pc := 509) dL_law_509 rfl rfl ?_
  refine ze_iload_n (pc := 510) dL_law_510 rfl rfl ?_
  refine zn_iconst (pc := 511) 1 dL_law_511 (by decide) ?_
  refine zn_iadd (pc := 512) dL_law_512 ?_
  refine ze_sld (pc := 513) _ dL_law_513 rfl (by omega) (by omega) ?_
  refine ze_aload_n (pc := 514) dL_law_514 rfl rfl ?_
  refine ze_iload_n (pc := 515) dL_law_515 rfl rfl ?_
  refine zn_iconst (pc := 516) 2 dL_law_516 (by decide) ?_
  refine zn_iadd (pc := 517) dL_law_517 ?_
  refine ze_sld (pc := 518) _ dL_law_518 rfl (by omega) (by omega) ?_
  refine ze_aload_n (pc := 519) dL_law_519 rfl rfl ?_
  refine ze_iload_n (pc := 520) dL_law_520 rfl rfl ?_
  refine zn_iconst (pc := 521) 3 dL_law_521 (by decide) ?_
  refine zn_iadd (pc := 522) dL_law_522 ?_
  refine ze_sld (pc := 523) _ dL_law_523 rfl (by omega) (by omega) ?_
  refine ze_aload_n (pc := 524) dL_law_524 rfl rfl ?_
  refine ze_iload_n (pc := 525) dL_law_525 rfl rfl ?_
  refine zn_iconst (pc := 526) 4 dL_law_526 (by decide) ?_
  refine zn_iadd (pc := 527) dL_law_527 ?_
  refine ze_sld (pc := 528) _ dL_law_528 rfl (by omega) (by omega) ?_
  refine ze_bool (pc := 529) dL_law_529 dL_law_532 dL_law_533 dL_law_536 ?_
  refine zn_V (pc := 537) (c_X11_quotient hM1 hX.sx (sx (i + 1)) (sx (i + 2)) (sx (i + 3)) (!decide (sx (i + 4) = 0))) bX11_quotient q_i_X11_quotient q_s_X11_quotient q_m_L_56 dL_law_537 rfl rfl hhM rfl rfl (by exact Nat.le_of_ble_eq_true rfl) ⟨by decide, by decide⟩ ⟨rfl, rfl, hl1, hl2⟩ (fun z2 h2 hp2 => ?_)
  obtain ⟨q2, hM2, e2⟩ := hp2
  refine ze_icmp_eq (pc := 540) (tgt := 1238) dL_law_540 (by decide) (fun _ => K _ ⟨_, _, _, _, _, _, _, hX1.kp (fun a p q => e2 a (by omega)), hM2⟩) (fun c => absurd (F_quot q1 q2) c)
theorem w_ranks (B : Both h o m) (hm : o + 303 ≤ m) (hi : i + 6 ≤ sL) (hL : sL ≤ 3072) (hl1 : al.2.1 ≤ 600000) (hl2 : al.2.2 ≤ 7302250) (K : ∀ h2, Both h2 o m → VS sb sL sx ML Post al h2 1238 (lsL sb o m i) []) : VS sb sL sx ML Post al h 545 (lsL sb o m i) [] := by
  obtain ⟨x, y, ik, len, f, ft, fp, hX, hM⟩ := B
  refine ze_aload_n (pc := 545) dL_law_545 rfl rfl ?_
  refine ze_aload_n (pc := 546) dL_law_546 rfl rfl ?_
  refine ze_iload_n (pc := 547) dL_law_547 rfl rfl ?_
  refine zn_iconst (pc := 548) 1 dL_law_548 (by decide) ?_
  refine zn_iadd (pc := 549) dL_law_549 ?_
  refine ze_sld (pc := 550) _ dL_law_550 rfl (by omega) (by omega) ?_
  refine ze_aload_n (pc := 551) dL_law_551 rfl rfl ?_
  refine ze_iload_n (pc := 552) dL_law_552 rfl rfl ?_
  refine zn_iconst (pc := 553) 2 dL_law_553 (by decide) ?_
  refine zn_iadd (pc := 554) dL_law_554 ?_
  refine ze_sld (pc := 555) _ dL_law_555 rfl (by omega) (by omega) ?_
  refine ze_aload_n (pc := 556) dL_law_556 rfl rfl ?_
  refine ze_iload_n (pc := 557) dL_law_557 rfl rfl ?_
  refine zn_iconst (pc := 558) 3 dL_law_558 (by decide) ?_
  refine zn_iadd (pc := 559) dL_law_559 ?_
  refine ze_sld (pc := 560) _ dL_law_560 rfl (by omega) (by omega) ?_
  refine zn_V (pc := 561) (c_X10_ranks hX (sx (i + 1)) (sx (i + 2)) (sx (i + 3))) bX10_ranks q_i_X10_ranks q_s_X10_ranks q_m_L_57 dL_law_561 rfl rfl (hX.1) rfl rfl (by exact Nat.le_of_ble_eq_true rfl) ⟨by decide, by decide⟩ ⟨rfl, rfl, hl1, hl2⟩ (fun z1 h1 hp1 => ?_)
  obtain ⟨q1, hX1, e1⟩ := hp1
  have hM1 := hM.kp (fun a p q => e1 a (by omega))
  obtain ⟨fsM, hhM⟩ := hM1.hd
  refine ze_aload_n (pc := 564) dL_law_564 rfl rfl ?_
  refine ze_aload_n (pc := 565) dL_law_565 rfl rfl ?_
  refine ze_iload_n (pc := 566) dL_law_566 rfl rfl ?_
  refine zn_iconst (pc := 567) 1 dL_law_567 (by decide) ?_
  refine zn_iadd (pc := 568) dL_law_568 ?_
  refine ze_sld (pc := 569) _ dL_law_569 rfl (by omega) (by omega) ?_
  refine ze_aload_n (pc := 570) dL_law_570 rfl rfl ?_
  refine ze_iload_n (pc := 571) dL_law_571 rfl rfl ?_
  refine zn_iconst (pc := 572) 2 dL_law_572 (by decide) ?_
  refine zn_iadd (pc := 573) dL_law_573 ?_
  refine ze_sld (pc := 574) _ dL_law_574 rfl (by omega) (by omega) ?_
  refine ze_aload_n (pc := 575) dL_law_575 rfl rfl ?_
  refine ze_iload_n (pc := 576) dL_law_576 rfl rfl ?_
  refine zn_iconst (pc := 577) 3 dL_law_577 (by decide) ?_
  refine zn_iadd (pc := 578) dL_law_578 ?_
  refine ze_sld (pc := 579) _ dL_law_579 rfl (by omega) (by omega) ?_
  refine zn_V (pc := 580) (c_X11_ranks hM1 hX.sx (sx (i + 1)) (sx (i + 2)) (sx (i + 3))) bX11_ranks q_i_X11_ranks q_s_X11_ranks q_m_L_60 dL_law_580 rfl rfl hhM rfl rfl (by exact Nat.le_of_ble_eq_true rfl) ⟨by decide, by decide⟩ ⟨rfl, rfl, hl1, hl2⟩ (fun z2 h2 hp2 => ?_)
  obtain ⟨q2, hM2, e2⟩ := hp2
  refine ze_icmp_eq (pc := 583) (tgt := 1238) dL_law_583 (by decide) (fun _ => K _ ⟨_, _, _, _, _, _, _, hX1.kp (fun a p q => e2 a (by omega)), hM2⟩) (fun c => absurd (F_ranks q1 q2) c)
theorem w_powers (B : Both h o m) (hm : o + 303 ≤ m) (hi : i + 6 ≤ sL) (hL : sL ≤ 3072) (hl1 : al.2.1 ≤ 600000) (hl2 : al.2.2 ≤ 7302250) (K : ∀ h2, Both h2 o m → VS sb sL sx ML Post al h2 1238 (lsL sb o m i) []) : VS sb sL sx ML Post al h 588 (lsL sb o m i) [] := by
  obtain ⟨x, y, ik, len, f, ft, fp, hX, hM⟩ := B
  refine ze_aload_n (pc := 588) dL_law_588 rfl rfl ?_
  refine ze_aload_n (pc := 589) dL_law_589 rfl rfl ?_
  refine ze_iload_n (pc := 590) dL_law_590 rfl rfl ?_
  refine zn_iconst (pc := 591) 1 dL_law_591 (by decide) ?_
  refine zn_iadd (pc := 592) dL_law_592 ?_
  refine ze_sld (pc := 593) _ dL_law_593 rfl (by omega) (by omega) ?_
  refine ze_aload_n (pc := 594) dL_law_594 rfl rfl ?_
  refine ze_iload_n (pc := 595) dL_law_595 rfl rfl ?_
  refine zn_iconst (pc := 596) 2 dL_law_596 (by decide) ?_
  refine zn_iadd (pc := 597) dL_law_597 ?_
  refine ze_sld (pc := 598) _ dL_law_598 rfl (by omega) (by omega) ?_
  refine zn_V (pc := 599) (c_X10_powers hX (sx (i + 1)) (sx (i + 2))) bX10_powers q_i_X10_powers q_s_X10_powers q_m_L_61 dL_law_599 rfl rfl (hX.1) rfl rfl (by exact Nat.le_of_ble_eq_true rfl) ⟨by decide, by decide⟩ ⟨rfl, rfl, hl1, hl2⟩ (fun z1 h1 hp1 => ?_)
  obtain ⟨q1, hX1, e1⟩ := hp1
  have hM1 := hM.kp (fun a p q => e1 a (by omega))
  obtain ⟨fsM, hhM⟩ := hM1.hd
  refine ze_aload_n (pc := 602) dL_law_602 rfl rfl ?_
  refine ze_aload_n (pc := 603) dL_law_603 rfl rfl ?_
  refine ze_iload_n (pc := 604) dL_law_604 rfl rfl ?_
  refine zn_iconst (pc := 605) 1 dL_law_605 (by decide) ?_
  refine zn_iadd (pc := 606) dL_law_606 ?_
  refine ze_sld (pc := 607) _ dL_law_607 rfl (by omega) (by omega) ?_
  refine ze_aload_n (pc := 608) dL_law_608 rfl rfl ?_
  refine ze_iload_n (pc := 609) dL_law_609 rfl rfl ?_
  refine zn_iconst (pc := 610) 2 dL_law_610 (by decide) ?_
  refine zn_iadd (pc := 611) dL_law_611 ?_
  refine ze_sld (pc := 612) _ dL_law_612 rfl (by omega) (by omega) ?_
  refine zn_V (pc := 613) (c_X11_powers hM1 hX.sx (sx (i + 1)) (sx (i + 2))) bX11_powers q_i_X11_powers q_s_X11_powers q_m_L_64 dL_law_613 rfl rfl hhM rfl rfl (by exact Nat.le_of_ble_eq_true rfl) ⟨by decide, by decide⟩ ⟨rfl, rfl, hl1, hl2⟩ (fun z2 h2 hp2 => ?_)
  obtain ⟨q2, hM2, e2⟩ := hp2
  refine ze_icmp_eq (pc := 616) (tgt := 1238) dL_law_616 (by decide) (fun _ => K _ ⟨_, _, _, _, _, _, _, hX1.kp (fun a p q => e2 a (by omega)), hM2⟩) (fun c => absurd (F_pow q1 q2) c)
theorem w_span (B : Both h o m) (hm : o + 303 ≤ m) (hi : i + 6 ≤ sL) (hL : sL ≤ 3072) (hl1 : al.2.1 ≤ 600000) (hl2 : al.2.2 ≤ 7302250) (K : ∀ h2, Both h2 o m → VS sb sL sx ML Post al h2 1238 (lsL sb o m i) []) : VS sb sL sx ML Post al h 621 (lsL sb o m i) [] := by
  obtain ⟨x, y, ik, len, f, ft, fp, hX, hM⟩ := B
  refine ze_aload_n (pc := 621) dL_law_621 rfl rfl ?_
  refine ze_aload_n (pc := 622) dL_law_622 rfl rfl ?_
  refine ze_iload_n (pc := 623) dL_law_623 rfl rfl ?_
  refine zn_iconst (pc := 624) 1 dL_law_624 (by decide) ?_
  refine zn_iadd (pc := 625) dL_law_625 ?_
  refine ze_sld (pc := 626) _ dL_law_626 rfl (by omega) (by omega) ?_
  refine ze_aload_n (pc := 627) dL_law_627 rfl rfl ?_
  refine ze_iload_n (pc := 628) dL_law_628 rfl rfl ?_
  refine zn_iconst (pc := 629) 2 dL_law_629 (by decide) ?_
  refine zn_iadd (pc := 630) dL_law_630 ?_
  refine ze_sld (pc := 631) _ dL_law_631 rfl (by omega) (by omega) ?_
  refine ze_aload_n (pc := 632) dL_law_632 rfl rfl ?_
  refine ze_iload_n (pc := 633) dL_law_633 rfl rfl ?_
  refine zn_iconst (pc := 634) 3 dL_law_634 (by decide) ?_
  refine zn_iadd (pc := 635) dL_law_635 ?_
  refine ze_sld (pc := 636) _ dL_law_636 rfl (by omega) (by omega) ?_
  refine zn_V (pc := 637) (c_X10_span hX (sx (i + 1)) (sx (i + 2)) (sx (i + 3))) bX10_span q_i_X10_span q_s_X10_span q_m_L_65 dL_law_637 rfl rfl (hX.1) rfl rfl (by exact Nat.le_of_ble_eq_true rfl) ⟨by decide, by decide⟩ ⟨rfl, rfl, hl1, hl2⟩ (fun z1 h1 hp1 => ?_)
  obtain ⟨q1, hX1, e1⟩ := hp1
  have hM1 := hM.kp (fun a p q => e1 a (by omega))
  obtain ⟨fsM, hhM⟩ := hM1.hd
  refine ze_aload_n (pc := 640) dL_law_640 rfl rfl ?_
  refine ze_aload_n (pc := 641) dL_law_641 rfl rfl ?_
  refine ze_iload_n (pc := 642) dL_law_642 rfl rfl ?_
  refine zn_iconst (pc := 643) 1 dL_law_643 (by decide) ?_
  refine zn_iadd (pc := 644) dL_law_644 ?_
  refine ze_sld (pc := 645) _ dL_law_645 rfl (by omega) (by omega) ?_
  refine ze_aload_n (pc := 646) dL_law_646 rfl rfl ?_
  refine ze_iload_n (pc := 647) dL_law_647 rfl rfl ?_
  refine zn_iconst (pc := 648) 2 dL_law_648 (by decide) ?_
  refine zn_iadd (pc := 649) dL_law_649 ?_
  refine ze_sld (pc := 650) _ dL_law_650 rfl (by omega) (by omega) ?_
  refine ze_aload_n (pc := 651) dL_law_651 rfl rfl ?_
  refine ze_iload_n (pc := 652) dL_law_652 rfl rfl ?_
  refine zn_iconst (pc := 653) 3 dL_law_653 (by decide) ?_
  refine zn_iadd (pc := 654) dL_law_654 ?_
  refine ze_sld (pc := 655) _ dL_law_655 rfl (by omega) (by omega) ?_
  refine zn_V (pc := 656) (c_X11_span hM1 hX.sx (sx (i + 1)) (sx (i + 2)) (sx (i + 3))) bX11_span q_i_X11_span q_s_X11_span q_m_L_68 dL_law_656 rfl rfl hhM rfl rfl (by exact Nat.le_of_ble_eq_true rfl) ⟨by decide, by decide⟩ ⟨rfl, rfl, hl1, hl2⟩ (fun z2 h2 hp2 => ?_)
  obtain ⟨q2, hM2, e2⟩ := hp2
  refine ze_icmp_eq (pc := 659) (tgt := 1238) dL_law_659 (by decide) (fun _ => K _ ⟨_, _, _, _, _, _, _, hX1.kp (fun a p q => e2 a (by omega)), hM2⟩) (fun c => absurd (F_span hX.sx q1 q2) c)
theorem w_fano (B : Both h o m) (hm : o + 303 ≤ m) (hi : i + 6 ≤ sL) (hL : sL ≤ 3072) (hl1 : al.2.1 ≤ 600000) (hl2 : al.2.2 ≤ 7302250) (K : ∀ h2, Both h2 o m → VS sb sL sx ML Post al h2 1238 (lsL sb o m i) []) : VS sb sL sx ML Post al h 664 (lsL sb o m i) [] := by
  obtain ⟨x, y, ik, len, f, ft, fp, hX, hM⟩ := B
  refine ze_aload_n (pc := 664) dL_law_664 rfl rfl ?_
  refine ze_aload_n (pc := 665) dL_law_665 rfl rfl ?_
  refine ze_iload_n (pc := 666) dL_law_666 rfl rfl ?_
  refine zn_iconst (pc := 667) 1 dL_law_667 (by decide) ?_
  refine zn_iadd (pc := 668) dL_law_668 ?_
  refine ze_sld (pc := 669) _ dL_law_669 rfl (by omega) (by omega) ?_
  refine ze_aload_n (pc := 670) dL_law_670 rfl rfl ?_
  refine ze_iload_n (pc := 671) dL_law_671 rfl rfl ?_
  refine zn_iconst (pc := 672) 2 dL_law_672 (by decide) ?_
  refine zn_iadd (pc := 673) dL_law_673 ?_
  refine ze_sld (pc := 674) _ dL_law_674 rfl (by omega) (by omega) ?_
  refine ze_aload_n (pc := 675) dL_law_675 rfl rfl ?_
  refine ze_iload_n (pc := 676) dL_law_676 rfl rfl ?_
  refine zn_iconst (pc := 677) 3 dL_law_677 (by decide) ?_
  refine zn_iadd (pc := 678) dL_law_678 ?_
  refine ze_sld (pc := 679) _ dL_law_679 rfl (by omega) (by omega) ?_
  refine ze_aload_n (pc := 680) dL_law_680 rfl rfl ?_
  refine ze_iload_n (pc := 681) dL_law_681 rfl rfl ?_
  refine zn_iconst (pc := 682) 4 dL_law_682 (by decide) ?_
  refine zn_iadd (pc := 683) dL_law_683 ?_
  refine ze_sld (pc := 684) _ dL_law_684 rfl (by omega) (by omega) ?_
  refine ze_aload_n (pc := 685) dL_law_685 rfl rfl ?_
  refine ze_iload_n (pc := 686) dL_law_686 rfl rfl ?_
  refine zn_iconst (pc := 687) 5 dL_law_687 (by decide) ?_
  refine zn_iadd (pc := 688) dL_law_688 ?_
  refine ze_sld (pc := 689) _ dL_law_689 rfl (by omega) (by omega) ?_
  refine zn_V (pc := 690) (c_X10_fano hX (sx (i + 1)) (sx (i + 2)) (sx (i + 3)) (sx (i + 4)) (sx (i + 5))) bX10_fano q_i_X10_fano q_s_X10_fano q_m_L_69 dL_law_690 rfl rfl (hX.1) rfl rfl (by exact Nat.le_of_ble_eq_true rfl) ⟨by decide, by decide⟩ ⟨rfl, rfl, hl1, hl2⟩ (fun z1 h1 hp1 => ?_)
  obtain ⟨q1, hX1, e1⟩ := hp1
  have hM1 := hM.kp (fun a p q => e1 a (by omega))
  obtain ⟨fsM, hhM⟩ := hM1.hd
  refine ze_aload_n (pc := 693) dL_law_693 rfl rfl ?_
  refine ze_aload_n (pc := 694) dL_law_694 rfl rfl ?_
  refine ze_iload_n (pc := 695) dL_law_695 rfl rfl ?_
  refine zn_iconst (pc := 696) 1 dL_law_696 (by decide) ?_
  refine zn_iadd (pc := 697) dL_law_697 ?_
  refine ze_sld (pc := 698) _ dL_law_698 rfl (by omega) (by omega) ?_
  refine ze_aload_n (pc := 699) dL_law_699 rfl rfl ?_
  refine ze_iload_n (pc := 700) dL_law_700 rfl rfl ?_
  refine zn_iconst (pc := 701) 2 dL_law_701 (by decide) ?_
  refine zn_iadd (pc := 702) dL_law_702 ?_
  refine ze_sld (pc := 703) _ dL_law_703 rfl (by omega) (by omega) ?_
  refine ze_aload_n (pc := 704) dL_law_704 rfl rfl ?_
  refine ze_iload_n (pc := 705) dL_law_705 rfl rfl ?_
  refine zn_iconst (pc := 706) 3 dL_law_706 (by decide) ?_
  refine zn_iadd (pc := 707) dL_law_707 ?_
  refine ze_sld (pc := 708) _ dL_law_708 rfl (by omega) (by omega) ?_
  refine ze_aload_n (pc := 709) dL_law_709 rfl rfl ?_
  refine ze_iload_n (pc := 710) dL_law_710 rfl rfl ?_
  refine zn_iconst (pc := 711) 4 dL_law_711 (by decide) ?_
  refine zn_iadd (pc := 712) dL_law_712 ?_
  refine ze_sld (pc := 713) _ dL_law_713 rfl (by omega) (by omega) ?_
  refine ze_aload_n (pc := 714) dL_law_714 rfl rfl ?_
  refine ze_iload_n (pc := 715) dL_law_715 rfl rfl ?_
  refine zn_iconst (pc := 716) 5 dL_law_716 (by decide) ?_
  refine zn_iadd (pc := 717) dL_law_717 ?_
  refine ze_sld (pc := 718) _ dL_law_718 rfl (by omega) (by omega) ?_
  refine zn_V (pc := 719) (c_X11_fano hM1 hX.sx (sx (i + 1)) (sx (i + 2)) (sx (i + 3)) (sx (i + 4)) (sx (i + 5))) bX11_fano q_i_X11_fano q_s_X11_fano q_m_L_72 dL_law_719 rfl rfl hhM rfl rfl (by exact Nat.le_of_ble_eq_true rfl) ⟨by decide, by decide⟩ ⟨rfl, rfl, hl1, hl2⟩ (fun z2 h2 hp2 => ?_)
  obtain ⟨q2, hM2, e2⟩ := hp2
  refine ze_icmp_eq (pc := 722) (tgt := 1238) dL_law_722 (by decide) (fun _ => K _ ⟨_, _, _, _, _, _, _, hX1.kp (fun a p q => e2 a (by omega)), hM2⟩) (fun c => absurd (F_fano hX.sx q1 q2) c)
theorem w_parted (B : Both h o m) (hm : o + 303 ≤ m) (hi : i + 6 ≤ sL) (hL : sL ≤ 3072) (hl1 : al.2.1 ≤ 600000) (hl2 : al.2.2 ≤ 7302250) (K : ∀ h2, Both h2 o m → VS sb sL sx ML Post al h2 1238 (lsL sb o m i) []) : VS sb sL sx ML Post al h 727 (lsL sb o m i) [] := by
  obtain ⟨x, y, ik, len, f, ft, fp, hX, hM⟩ := B
  refine ze_aload_n (pc := 727) dL_law_727 rfl rfl ?_
  refine ze_aload_n (pc := 728) dL_law_728 rfl rfl ?_
  refine ze_iload_n (pc := 729) dL_law_729 rfl rfl ?_
  refine zn_iconst (pc := 730) 1 dL_law_730 (by decide) ?_
  refine zn_iadd (pc := 731) dL_law_731 ?_
  refine ze_sld (pc := 732) _ dL_law_732 rfl (by omega) (by omega) ?_
  refine ze_aload_n (pc := 733) dL_law_733 rfl rfl ?_
  refine ze_iload_n (pc := 734) dL_law_734 rfl rfl ?_
  refine zn_iconst (pc := 735) 2 dL_law_735 (by decide) ?_
  refine zn_iadd (pc := 736) dL_law_736 ?_
  refine ze_sld (pc := 737) _ dL_law_737 rfl (by omega) (by omega) ?_
  refine zn_V (pc := 738) (c_X10_parted hX (sx (i + 1)) (sx (i + 2))) bX10_parted q_i_X10_parted q_s_X10_parted q_m_L_73 dL_law_738 rfl rfl (hX.1) rfl rfl (by exact Nat.le_of_ble_eq_true rfl) ⟨by decide, by decide⟩ ⟨rfl, rfl, hl1, hl2⟩ (fun z1 h1 hp1 => ?_)
  obtain ⟨q1, hX1, e1⟩ := hp1
  have hM1 := hM.kp (fun a p q => e1 a (by omega))
  obtain ⟨fsM, hhM⟩ := hM1.hd
  refine ze_aload_n (pc := 741) dL_law_741 rfl rfl ?_
  refine ze_aload_n (pc := 742) dL_law_742 rfl rfl ?_
  refine ze_iload_n (pc := 743) dL_law_743 rfl rfl ?_
  refine zn_iconst (pc := 744) 1 dL_law_744 (by decide) ?_
  refine zn_iadd (pc := 745) dL_law_745 ?_
  refine ze_sld (pc := 746) _ dL_law_746 rfl (by omega) (by omega) ?_
  refine ze_aload_n (pc := 747) dL_law_747 rfl rfl ?_
  refine ze_iload_n (pc := 748) dL_law_748 rfl rfl ?_
  refine zn_iconst (pc := 749) 2 dL_law_749 (by decide) ?_
  refine zn_iadd (pc := 750) dL_law_750 ?_
  refine ze_sld (pc := 751) _ dL_law_751 rfl (by omega) (by omega) ?_
  refine zn_V (pc := 752) (c_X11_parted hM1 hX.sx (sx (i + 1)) (sx (i + 2))) bX11_parted q_i_X11_parted q_s_X11_parted q_m_L_76 dL_law_752 rfl rfl hhM rfl rfl (by exact Nat.le_of_ble_eq_true rfl) ⟨by decide, by decide⟩ ⟨rfl, rfl, hl1, hl2⟩ (fun z2 h2 hp2 => ?_)
  obtain ⟨q2, hM2, e2⟩ := hp2
  refine ze_icmp_eq (pc := 755) (tgt := 1238) dL_law_755 (by decide) (fun _ => K _ ⟨_, _, _, _, _, _, _, hX1.kp (fun a p q => e2 a (by omega)), hM2⟩) (fun c => absurd (F_parted q1 q2) c)
theorem w_turn (B : Both h o m) (hm : o + 303 ≤ m) (hi : i + 6 ≤ sL) (hL : sL ≤ 3072) (hl1 : al.2.1 ≤ 600000) (hl2 : al.2.2 ≤ 7302250) (K : ∀ h2, Both h2 o m → VS sb sL sx ML Post al h2 1238 (lsL sb o m i) []) : VS sb sL sx ML Post al h 760 (lsL sb o m i) [] := by
  obtain ⟨x, y, ik, len, f, ft, fp, hX, hM⟩ := B
  refine ze_aload_n (pc := 760) dL_law_760 rfl rfl ?_
  refine ze_aload_n (pc := 761) dL_law_761 rfl rfl ?_
  refine ze_iload_n (pc := 762) dL_law_762 rfl rfl ?_
  refine zn_iconst (pc := 763) 1 dL_law_763 (by decide) ?_
  refine zn_iadd (pc := 764) dL_law_764 ?_
  refine ze_sld (pc := 765) _ dL_law_765 rfl (by omega) (by omega) ?_
  refine ze_aload_n (pc := 766) dL_law_766 rfl rfl ?_
  refine ze_iload_n (pc := 767) dL_law_767 rfl rfl ?_
  refine zn_iconst (pc := 768) 2 dL_law_768 (by decide) ?_
  refine zn_iadd (pc := 769) dL_law_769 ?_
  refine ze_sld (pc := 770) _ dL_law_770 rfl (by omega) (by omega) ?_
  refine ze_aload_n (pc := 771) dL_law_771 rfl rfl ?_
  refine ze_iload_n (pc := 772) dL_law_772 rfl rfl ?_
  refine zn_iconst (pc := 773) 3 dL_law_773 (by decide) ?_
  refine zn_iadd (pc := 774) dL_law_774 ?_
  refine ze_sld (pc := 775) _ dL_law_775 rfl (by omega) (by omega) ?_
  refine zn_V (pc := 776) (c_X10_turn hX (sx (i + 1)) (sx (i + 2)) (sx (i + 3))) bX10_turn q_i_X10_turn q_s_X10_turn q_m_L_77 dL_law_776 rfl rfl (hX.1) rfl rfl (by exact Nat.le_of_ble_eq_true rfl) ⟨by decide, by decide⟩ ⟨rfl, rfl, hl1, hl2⟩ (fun z1 h1 hp1 => ?_)
  obtain ⟨x1, q1, hX1, e1⟩ := hp1
  have hM1 := hM.kp (fun a p q => e1 a (by omega))
  obtain ⟨fsM, hhM⟩ := hM1.hd
  refine ze_aload_n (pc := 779) dL_law_779 rfl rfl ?_
  refine ze_aload_n (pc := 780) dL_law_780 rfl rfl ?_
  refine ze_iload_n (pc := 781) dL_law_781 rfl rfl ?_
  refine zn_iconst (pc := 782) 1 dL_law_782 (by decide) ?_
  refine zn_iadd (pc := 783) dL_law_783 ?_
  refine ze_sld (pc := 784) _ dL_law_784 rfl (by omega) (by omega) ?_
  refine ze_aload_n (pc := 785) dL_law_785 rfl rfl ?_
  refine ze_iload_n (pc := 786) dL_law_786 rfl rfl ?_
  refine zn_iconst (pc := 787) 2 dL_law_787 (by decide) ?_
  refine zn_iadd (pc := 788) dL_law_788 ?_
  refine ze_sld (pc := 789) _ dL_law_789 rfl (by omega) (by omega) ?_
  refine ze_aload_n (pc := 790) dL_law_790 rfl rfl ?_
  refine ze_iload_n (pc := 791) dL_law_791 rfl rfl ?_
  refine zn_iconst (pc := 792) 3 dL_law_792 (by decide) ?_
  refine zn_iadd (pc := 793) dL_law_793 ?_
  refine ze_sld (pc := 794) _ dL_law_794 rfl (by omega) (by omega) ?_
  refine zn_V (pc := 795) (c_X11_turn hM1 hX.sx (sx (i + 1)) (sx (i + 2)) (sx (i + 3))) bX11_turn q_i_X11_turn q_s_X11_turn q_m_L_81 dL_law_795 rfl rfl hhM rfl rfl (by exact Nat.le_of_ble_eq_true rfl) ⟨by decide, by decide⟩ ⟨rfl, rfl, hl1, hl2⟩ (fun z2 h2 hp2 => ?_)
  obtain ⟨x2, q2, hM2, e2⟩ := hp2
  obtain ⟨f1, rfl⟩ := F_turn q1 q2
  refine ze_icmp_eq (pc := 798) (tgt := 1238) dL_law_798 (by decide) (fun _ => K _ ⟨_, _, _, _, _, _, _, hX1.kp (fun a p q => e2 a (by omega)), hM2⟩) (fun c => absurd f1 c)
theorem w_unital (B : Both h o m) (hm : o + 303 ≤ m) (hi : i + 6 ≤ sL) (hL : sL ≤ 3072) (hl1 : al.2.1 ≤ 600000) (hl2 : al.2.2 ≤ 7302250) (K : ∀ h2, Both h2 o m → VS sb sL sx ML Post al h2 1238 (lsL sb o m i) []) : VS sb sL sx ML Post al h 803 (lsL sb o m i) [] := by
  obtain ⟨x, y, ik, len, f, ft, fp, hX, hM⟩ := B
  refine ze_aload_n (pc := 803) dL_law_803 rfl rfl ?_
  refine ze_aload_n (pc := 804) dL_law_804 rfl rfl ?_
  refine ze_iload_n (pc := 805) dL_law_805 rfl rfl ?_
  refine zn_iconst (pc := 806) 1 dL_law_806 (by decide) ?_
  refine zn_iadd (pc := 807) dL_law_807 ?_
  refine ze_sld (pc := 808) _ dL_law_808 rfl (by omega) (by omega) ?_
  refine ze_aload_n (pc := 809) dL_law_809 rfl rfl ?_
  refine ze_iload_n (pc := 810) dL_law_810 rfl rfl ?_
  refine zn_iconst (pc := 811) 2 dL_law_811 (by decide) ?_
  refine zn_iadd (pc := 812) dL_law_812 ?_
  refine ze_sld (pc := 813) _ dL_law_813 rfl (by omega) (by omega) ?_
  refine ze_aload_n (pc := 814) dL_law_814 rfl rfl ?_
  refine ze_iload_n (pc := 815) dL_law_815 rfl rfl ?_
  refine zn_iconst (pc := 816) 3 dL_law_816 (by decide) ?_
  refine zn_iadd (pc := 817) dL_law_817 ?_
  refine ze_sld (pc := 818) _ dL_law_818 rfl (by omega) (by omega) ?_
  refine zn_V (pc := 819) (c_X10_unital hX (sx (i + 1)) (sx (i + 2)) (sx (i + 3))) bX10_unital q_i_X10_unital q_s_X10_unital q_m_L_82 dL_law_819 rfl rfl (hX.1) rfl rfl (by exact Nat.le_of_ble_eq_true rfl) ⟨by decide, by decide⟩ ⟨rfl, rfl, hl1, hl2⟩ (fun z1 h1 hp1 => ?_)
  obtain ⟨x1, q1, hX1, e1⟩ := hp1
  have hM1 := hM.kp (fun a p q => e1 a (by omega))
  obtain ⟨fsM, hhM⟩ := hM1.hd
  refine ze_aload_n (pc := 822) dL_law_822 rfl rfl ?_
  refine ze_aload_n (pc := 823) dL_law_823 rfl rfl ?_
  refine ze_iload_n (pc := 824) dL_law_824 rfl rfl ?_
  refine zn_iconst (pc := 825) 1 dL_law_825 (by decide) ?_
  refine zn_iadd (pc := 826) dL_law_826 ?_
  refine ze_sld (pc := 827) _ dL_law_827 rfl (by omega) (by omega) ?_
  refine ze_aload_n (pc := 828) dL_law_828 rfl rfl ?_
  refine ze_iload_n (pc := 829) dL_law_829 rfl rfl ?_
  refine zn_iconst (pc := 830) 2 dL_law_830 (by decide) ?_
  refine zn_iadd (pc := 831) dL_law_831 ?_
  refine ze_sld (pc := 832) _ dL_law_832 rfl (by omega) (by omega) ?_
  refine ze_aload_n (pc := 833) dL_law_833 rfl rfl ?_
  refine ze_iload_n (pc := 834) dL_law_834 rfl rfl ?_
  refine zn_iconst (pc := 835) 3 dL_law_835 (by decide) ?_
  refine zn_iadd (pc := 836) dL_law_836 ?_
  refine ze_sld (pc := 837) _ dL_law_837 rfl (by omega) (by omega) ?_
  refine zn_V (pc := 838) (c_X11_unital hM1 hX.sx (sx (i + 1)) (sx (i + 2)) (sx (i + 3))) bX11_unital q_i_X11_unital q_s_X11_unital q_m_L_85 dL_law_838 rfl rfl hhM rfl rfl (by exact Nat.le_of_ble_eq_true rfl) ⟨by decide, by decide⟩ ⟨rfl, rfl, hl1, hl2⟩ (fun z2 h2 hp2 => ?_)
  obtain ⟨x2, q2, hM2, e2⟩ := hp2
  obtain ⟨f1, rfl⟩ := F_uni q1 q2
  refine ze_icmp_eq (pc := 841) (tgt := 1238) dL_law_841 (by decide) (fun _ => K _ ⟨_, _, _, _, _, _, _, hX1.kp (fun a p q => e2 a (by omega)), hM2⟩) (fun c => absurd f1 c)
theorem w_undo (B : Both h o m) (hm : o + 303 ≤ m) (hi : i + 6 ≤ sL) (hL : sL ≤ 3072) (hl1 : al.2.1 ≤ 600000) (hl2 : al.2.2 ≤ 7302250) (K : ∀ h2, Both h2 o m → VS sb sL sx ML Post al h2 1238 (lsL sb o m i) []) : VS sb sL sx ML Post al h 846 (lsL sb o m i) [] := by
  obtain ⟨x, y, ik, len, f, ft, fp, hX, hM⟩ := B
  refine ze_aload_n (pc := 846) dL_law_846 rfl rfl ?_
  refine ze_aload_n (pc := 847) dL_law_847 rfl rfl ?_
  refine ze_iload_n (pc := 848) dL_law_848 rfl rfl ?_
  refine zn_iconst (pc := 849) 1 dL_law_849 (by decide) ?_
  refine zn_iadd (pc := 850) dL_law_850 ?_
  refine ze_sld (pc := 851) _ dL_law_851 rfl (by omega) (by omega) ?_
  refine ze_bool (pc := 852) dL_law_852 dL_law_855 dL_law_856 dL_law_859 ?_
  refine zn_V (pc := 860) (c_X10_undo hX (!decide (sx (i + 1) = 0))) bX10_undo q_i_X10_undo q_s_X10_undo q_m_L_86 dL_law_860 rfl rfl (hX.1) rfl rfl (by exact Nat.le_of_ble_eq_true rfl) ⟨by decide, by decide⟩ ⟨rfl, rfl, hl1, hl2⟩ (fun z1 h1 hp1 => ?_)
  obtain ⟨x1, q1, hX1, e1⟩ := hp1
  have hM1 := hM.kp (fun a p q => e1 a (by omega))
  obtain ⟨fsM, hhM⟩ := hM1.hd
  have hM1c := hM1
  obtain ⟨⟨mp, mn, mq, ms, hH, hs⟩, hR, ⟨g, hw, hg⟩, -⟩ := hM1c
  refine ze_aload_n (pc := 863) dL_law_863 rfl rfl ?_
  refine ze_aload_n (pc := 864) dL_law_864 rfl rfl ?_
  refine ze_iload_n (pc := 865) dL_law_865 rfl rfl ?_
  refine zn_iconst (pc := 866) 1 dL_law_866 (by decide) ?_
  refine zn_iadd (pc := 867) dL_law_867 ?_
  refine ze_sld (pc := 868) _ dL_law_868 rfl (by omega) (by omega) ?_
  refine ze_bool (pc := 869) dL_law_869 dL_law_872 dL_law_873 dL_law_876 ?_
  refine zn_V (pc := 877) (c_X11_undo hH hw hX.sx hg (!decide (sx (i + 1) = 0))) bX11_undo q_i_X11_undo q_s_X11_undo q_m_L_90 dL_law_877 rfl rfl hhM rfl rfl (by exact Nat.le_of_ble_eq_true rfl) ⟨by decide, by decide⟩ ⟨rfl, rfl, hl1, hl2⟩ (fun z2 h2 hp2 => ?_)
  obtain ⟨g2, x2, q2, e2, hg2⟩ := hp2
  obtain ⟨hM2, e2⟩ := hM1.nw e2 hg2
  obtain ⟨f1, rfl⟩ := F_undo q1 q2
  refine ze_icmp_eq (pc := 880) (tgt := 1238) dL_law_880 (by decide) (fun _ => K _ ⟨_, _, _, _, _, _, _, hX1.kp (fun a p q => e2 a (by omega)), hM2⟩) (fun c => absurd f1 c)
theorem w_map (B : Both h o m) (hm : o + 303 ≤ m) (hi : i + 6 ≤ sL) (hL : sL ≤ 3072) (hl1 : al.2.1 ≤ 600000) (hl2 : al.2.2 ≤ 7302250) (K : ∀ h2, Both h2 o m → VS sb sL sx ML Post al h2 1238 (lsL sb o m i) []) : VS sb sL sx ML Post al h 885 (lsL sb o m i) [] := by
  obtain ⟨x, y, ik, len, f, ft, fp, hX, hM⟩ := B
  refine ze_aload_n (pc := 885) dL_law_885 rfl rfl ?_
  refine ze_aload_n (pc := 886) dL_law_886 rfl rfl ?_
  refine ze_iload_n (pc := 887) dL_law_887 rfl rfl ?_
  refine zn_iconst (pc := 888) 1 dL_law_888 (by decide) ?_
  refine zn_iadd (pc := 889) dL_law_889 ?_
  refine ze_sld (pc := 890) _ dL_law_890 rfl (by omega) (by omega) ?_
  refine ze_aload_n (pc := 891) dL_law_891 rfl rfl ?_
  refine ze_iload_n (pc := 892) dL_law_892 rfl rfl ?_
  refine zn_iconst (pc := 893) 2 dL_law_893 (by decide) ?_
  refine zn_iadd (pc := 894) dL_law_894 ?_
  refine ze_sld (pc := 895) _ dL_law_895 rfl (by omega) (by omega) ?_
  refine ze_aload_n (pc := 896) dL_law_896 rfl rfl ?_
  refine ze_iload_n (pc := 897) dL_law_897 rfl rfl ?_
  refine zn_iconst (pc := 898) 3 dL_law_898 (by decide) ?_
  refine zn_iadd (pc := 899) dL_law_899 ?_
  refine ze_sld (pc := 900) _ dL_law_900 rfl (by omega) (by omega) ?_
  refine zn_V (pc := 901) (c_X10_map hX (sx (i + 1)) (sx (i + 2)) (sx (i + 3))) bX10_map q_i_X10_map q_s_X10_map q_m_L_91 dL_law_901 rfl rfl (hX.1) rfl rfl (by exact Nat.le_of_ble_eq_true rfl) ⟨by decide, by decide⟩ ⟨rfl, rfl, hl1, hl2⟩ (fun z1 h1 hp1 => ?_)
  obtain ⟨x1, q1, hX1, e1⟩ := hp1
  have hM1 := hM.kp (fun a p q => e1 a (by omega))
  obtain ⟨fsM, hhM⟩ := hM1.hd
  refine ze_aload_n (pc := 904) dL_law_904 rfl rfl ?_
  refine ze_aload_n (pc := 905) dL_law_905 rfl rfl ?_
  refine ze_iload_n (pc := 906) dL_law_906 rfl rfl ?_
  refine zn_iconst (pc := 907) 1 dL_law_907 (by decide) ?_
  refine zn_iadd (pc := 908) dL_law_908 ?_
  refine ze_sld (pc := 909) _ dL_law_909 rfl (by omega) (by omega) ?_
  refine ze_aload_n (pc := 910) dL_law_910 rfl rfl ?_
  refine ze_iload_n (pc := 911) dL_law_911 rfl rfl ?_
  refine zn_iconst (pc := 912) 2 dL_law_912 (by decide) ?_
  refine zn_iadd (pc := 913) dL_law_913 ?_
  refine ze_sld (pc := 914) _ dL_law_914 rfl (by omega) (by omega) ?_
  refine ze_aload_n (pc := 915) dL_law_915 rfl rfl ?_
  refine ze_iload_n (pc := 916) dL_law_916 rfl rfl ?_
  refine zn_iconst (pc := 917) 3 dL_law_917 (by decide) ?_
  refine zn_iadd (pc := 918) dL_law_918 ?_
  refine ze_sld (pc := 919) _ dL_law_919 rfl (by omega) (by omega) ?_
  refine zn_V (pc := 920) (c_X11_map hM1 hX.sx (sx (i + 1)) (sx (i + 2)) (sx (i + 3))) bX11_map q_i_X11_map q_s_X11_map q_m_L_94 dL_law_920 rfl rfl hhM rfl rfl (by exact Nat.le_of_ble_eq_true rfl) ⟨by decide, by decide⟩ ⟨rfl, rfl, hl1, hl2⟩ (fun z2 h2 hp2 => ?_)
  obtain ⟨x2, q2, hM2, e2⟩ := hp2
  obtain ⟨f1, rfl⟩ := F_map q1 q2
  refine ze_icmp_eq (pc := 923) (tgt := 1238) dL_law_923 (by decide) (fun _ => K _ ⟨_, _, _, _, _, _, _, hX1.kp (fun a p q => e2 a (by omega)), hM2⟩) (fun c => absurd f1 c)
theorem w_carry (B : Both h o m) (hm : o + 303 ≤ m) (hi : i + 6 ≤ sL) (hL : sL ≤ 3072) (hl1 : al.2.1 ≤ 600000) (hl2 : al.2.2 ≤ 7302250) (K : ∀ h2, Both h2 o m → VS sb sL sx ML Post al h2 1238 (lsL sb o m i) []) : VS sb sL sx ML Post al h 928 (lsL sb o m i) [] := by
  obtain ⟨x, y, ik, len, f, ft, fp, hX, hM⟩ := B
  refine ze_aload_n (pc := 928) dL_law_928 rfl rfl ?_
  refine ze_aload_n (pc := 929) dL_law_929 rfl rfl ?_
  refine ze_iload_n (pc := 930) dL_law_930 rfl rfl ?_
  refine zn_iconst (pc := 931) 1 dL_law_931 (by decide) ?_
  refine zn_iadd (pc := 932) dL_law_932 ?_
  refine ze_sld (pc := 933) _ dL_law_933 rfl (by omega) (by omega) ?_
  refine ze_aload_n (pc := 934) dL_law_934 rfl rfl ?_
  refine ze_iload_n (pc := 935) dL_law_935 rfl rfl ?_
  refine zn_iconst (pc := 936) 2 dL_law_936 (by decide) ?_
  refine zn_iadd (pc := 937) dL_law_937 ?_
  refine ze_sld (pc := 938) _ dL_law_938 rfl (by omega) (by omega) ?_
  refine zn_V (pc := 939) (c_X10_carry hX (sx (i + 1)) (sx (i + 2))) bX10_carry q_i_X10_carry q_s_X10_carry q_m_L_95 dL_law_939 rfl rfl (hX.1) rfl rfl (by exact Nat.le_of_ble_eq_true rfl) ⟨by decide, by decide⟩ ⟨rfl, rfl, hl1, hl2⟩ (fun z1 h1 hp1 => ?_)
  obtain ⟨q1, hX1, e1⟩ := hp1
  have hM1 := hM.kp (fun a p q => e1 a (by omega))
  obtain ⟨fsM, hhM⟩ := hM1.hd
  refine ze_aload_n (pc := 942) dL_law_942 rfl rfl ?_
  refine ze_aload_n (pc := 943) dL_law_943 rfl rfl ?_
  refine ze_iload_n (pc := 944) dL_law_944 rfl rfl ?_
  refine zn_iconst (pc := 945) 1 dL_law_945 (by decide) ?_
  refine zn_iadd (pc := 946) dL_law_946 ?_
  refine ze_sld (pc := 947) _ dL_law_947 rfl (by omega) (by omega) ?_
  refine ze_aload_n (pc := 948) dL_law_948 rfl rfl ?_
  refine ze_iload_n (pc := 949) dL_law_949 rfl rfl ?_
  refine zn_iconst (pc := 950) 2 dL_law_950 (by decide) ?_
  refine zn_iadd (pc := 951) dL_law_951 ?_
  refine ze_sld (pc := 952) _ dL_law_952 rfl (by omega) (by omega) ?_
  refine zn_V (pc := 953) (c_X11_carry hM1 hX.sx (sx (i + 1)) (sx (i + 2))) bX11_carry q_i_X11_carry q_s_X11_carry q_m_L_98 dL_law_953 rfl rfl hhM rfl rfl (by exact Nat.le_of_ble_eq_true rfl) ⟨by decide, by decide⟩ ⟨rfl, rfl, hl1, hl2⟩ (fun z2 h2 hp2 => ?_)
  obtain ⟨q2, hM2, e2⟩ := hp2
  refine ze_icmp_eq (pc := 956) (tgt := 1238) dL_law_956 (by decide) (fun _ => K _ ⟨_, _, _, _, _, _, _, hX1.kp (fun a p q => e2 a (by omega)), hM2⟩) (fun c => absurd (F_carry q1 q2) c)
theorem w_same (B : Both h o m) (hm : o + 303 ≤ m) (hi : i + 6 ≤ sL) (hL : sL ≤ 3072) (hl1 : al.2.1 ≤ 600000) (hl2 : al.2.2 ≤ 7302250) (K : ∀ h2, Both h2 o m → VS sb sL sx ML Post al h2 1238 (lsL sb o m i) []) : VS sb sL sx ML Post al h 961 (lsL sb o m i) [] := by
  obtain ⟨x, y, ik, len, f, ft, fp, hX, hM⟩ := B
  refine ze_aload_n (pc := 961) dL_law_961 rfl rfl ?_
  refine ze_aload_n (pc := 962) dL_law_962 rfl rfl ?_
  refine ze_iload_n (pc := 963) dL_law_963 rfl rfl ?_
  refine zn_iconst (pc := 964) 1 dL_law_964 (by decide) ?_
  refine zn_iadd (pc := 965) dL_law_965 ?_
  refine ze_sld (pc := 966) _ dL_law_966 rfl (by omega) (by omega) ?_
  refine ze_aload_n (pc := 967) dL_law_967 rfl rfl ?_
  refine ze_iload_n (pc := 968) dL_law_968 rfl rfl ?_
  refine zn_iconst (pc := 969) 2 dL_law_969 (by decide) ?_
  refine zn_iadd (pc := 970) dL_law_970 ?_
  refine ze_sld (pc := 971) _ dL_law_971 rfl (by omega) (by omega) ?_
  refine zn_V (pc := 972) (c_X10_same hX (sx (i + 1)) (sx (i + 2))) bX10_same q_i_X10_same q_s_X10_same q_m_L_99 dL_law_972 rfl rfl (hX.1) rfl rfl (by exact Nat.le_of_ble_eq_true rfl) ⟨by decide, by decide⟩ ⟨rfl, rfl, hl1, hl2⟩ (fun z1 h1 hp1 => ?_)
  obtain ⟨q1, hX1, e1⟩ := hp1
  have hM1 := hM.kp (fun a p q => e1 a (by omega))
  obtain ⟨fsM, hhM⟩ := hM1.hd
  refine ze_aload_n (pc := 975) dL_law_975 rfl rfl ?_
  refine ze_aload_n (pc := 976) dL_law_976 rfl rfl ?_
  refine ze_iload_n (pc := 977) dL_law_977 rfl rfl ?_
  refine zn_iconst (pc := 978) 1 dL_law_978 (by decide) ?_
  refine zn_iadd (pc := 979) dL_law_979 ?_
  refine ze_sld (pc := 980) _ dL_law_980 rfl (by omega) (by omega) ?_
  refine ze_aload_n (pc := 981) dL_law_981 rfl rfl ?_
  refine ze_iload_n (pc := 982) dL_law_982 rfl rfl ?_
  refine zn_iconst (pc := 983) 2 dL_law_983 (by decide) ?_
  refine zn_iadd (pc := 984) dL_law_984 ?_
  refine ze_sld (pc := 985) _ dL_law_985 rfl (by omega) (by omega) ?_
  refine zn_V (pc := 986) (c_X11_same hM1 hX.sx (sx (i + 1)) (sx (i + 2))) bX11_same q_i_X11_same q_s_X11_same q_m_L_102 dL_law_986 rfl rfl hhM rfl rfl (by exact Nat.le_of_ble_eq_true rfl) ⟨by decide, by decide⟩ ⟨rfl, rfl, hl1, hl2⟩ (fun z2 h2 hp2 => ?_)
  obtain ⟨q2, hM2, e2⟩ := hp2
  refine ze_icmp_eq (pc := 989) (tgt := 1238) dL_law_989 (by decide) (fun _ => K _ ⟨_, _, _, _, _, _, _, hX1.kp (fun a p q => e2 a (by omega)), hM2⟩) (fun c => absurd (F_same q1 q2) c)
theorem w_isotopes (B : Both h o m) (hm : o + 303 ≤ m) (hi : i + 6 ≤ sL) (hL : sL ≤ 3072) (hl1 : al.2.1 ≤ 600000) (hl2 : al.2.2 ≤ 7302250) (K : ∀ h2, Both h2 o m → VS sb sL sx ML Post al h2 1238 (lsL sb o m i) []) : VS sb sL sx ML Post al h 994 (lsL sb o m i) [] := by
  obtain ⟨x, y, ik, len, f, ft, fp, hX, hM⟩ := B
  refine ze_aload_n (pc := 994) dL_law_994 rfl rfl ?_
  refine ze_aload_n (pc := 995) dL_law_995 rfl rfl ?_
  refine ze_iload_n (pc := 996) dL_law_996 rfl rfl ?_
  refine zn_iconst (pc := 997) 1 dL_law_997 (by decide) ?_
  refine zn_iadd (pc := 998) dL_law_998 ?_
  refine ze_sld (pc := 999) _ dL_law_999 rfl (by omega) (by omega) ?_
  refine ze_aload_n (pc := 1000) dL_law_1000 rfl rfl ?_
  refine ze_iload_n (pc := 1001) dL_law_1001 rfl rfl ?_
  refine zn_iconst (pc := 1002) 2 dL_law_1002 (by decide) ?_
  refine zn_iadd (pc := 1003) dL_law_1003 ?_
  refine ze_sld (pc := 1004) _ dL_law_1004 rfl (by omega) (by omega) ?_
  refine zn_V (pc := 1005) (c_X10_isotopes hX (sx (i + 1)) (sx (i + 2))) bX10_isotopes q_i_X10_isotopes q_s_X10_isotopes q_m_L_103 dL_law_1005 rfl rfl (hX.1) rfl rfl (by exact Nat.le_of_ble_eq_true rfl) ⟨by decide, by decide⟩ ⟨rfl, rfl, hl1, hl2⟩ (fun z1 h1 hp1 => ?_)
  obtain ⟨q1, hX1, e1⟩ := hp1
  have hM1 := hM.kp (fun a p q => e1 a (by omega))
  obtain ⟨fsM, hhM⟩ := hM1.hd
  refine ze_aload_n (pc := 1008) dL_law_1008 rfl rfl ?_
  refine ze_aload_n (pc := 1009) dL_law_1009 rfl rfl ?_
  refine ze_iload_n (pc := 1010) dL_law_1010 rfl rfl ?_
  refine zn_iconst (pc := 1011) 1 dL_law_1011 (by decide) ?_
  refine zn_iadd (pc := 1012) dL_law_1012 ?_
  refine ze_sld (pc := 1013) _ dL_law_1013 rfl (by omega) (by omega) ?_
  refine ze_aload_n (pc := 1014) dL_law_1014 rfl rfl ?_
  refine ze_iload_n (pc := 1015) dL_law_1015 rfl rfl ?_
  refine zn_iconst (pc := 1016) 2 dL_law_1016 (by decide) ?_
  refine zn_iadd (pc := 1017) dL_law_1017 ?_
  refine ze_sld (pc := 1018) _ dL_law_1018 rfl (by omega) (by omega) ?_
  refine zn_V (pc := 1019) (c_X11_isotopes hM1 hX.sx (sx (i + 1)) (sx (i + 2))) bX11_isotopes q_i_X11_isotopes q_s_X11_isotopes q_m_L_106 dL_law_1019 rfl rfl hhM rfl rfl (by exact Nat.le_of_ble_eq_true rfl) ⟨by decide, by decide⟩ ⟨rfl, rfl, hl1, hl2⟩ (fun z2 h2 hp2 => ?_)
  obtain ⟨q2, hM2, e2⟩ := hp2
  refine ze_icmp_eq (pc := 1022) (tgt := 1238) dL_law_1022 (by decide) (fun _ => K _ ⟨_, _, _, _, _, _, _, hX1.kp (fun a p q => e2 a (by omega)), hM2⟩) (fun c => absurd (F_iso q1 q2) c)
theorem w_plane (B : Both h o m) (hm : o + 303 ≤ m) (hi : i + 6 ≤ sL) (hL : sL ≤ 3072) (hl1 : al.2.1 ≤ 600000) (hl2 : al.2.2 ≤ 7302250) (K : ∀ h2, Both h2 o m → VS sb sL sx ML Post al h2 1238 (lsL sb o m i) []) : VS sb sL sx ML Post al h 1027 (lsL sb o m i) [] := by
  obtain ⟨x, y, ik, len, f, ft, fp, hX, hM⟩ := B
  refine ze_aload_n (pc := 1027) dL_law_1027 rfl rfl ?_
  refine ze_aload_n (pc := 1028) dL_law_1028 rfl rfl ?_
  refine ze_iload_n (pc := 1029) dL_law_1029 rfl rfl ?_
  refine zn_iconst (pc := 1030) 1 dL_law_1030 (by decide) ?_
  refine zn_iadd (pc := 1031) dL_law_1031 ?_
  refine ze_sld (pc := 1032) _ dL_law_1032 rfl (by omega) (by omega) ?_
  refine ze_aload_n (pc := 1033) dL_law_1033 rfl rfl ?_
  refine ze_iload_n (pc := 1034) dL_law_1034 rfl rfl ?_
  refine zn_iconst (pc := 1035) 2 dL_law_1035 (by decide) ?_
  refine zn_iadd (pc := 1036) dL_law_1036 ?_
  refine ze_sld (pc := 1037) _ dL_law_1037 rfl (by omega) (by omega) ?_
  refine ze_aload_n (pc := 1038) dL_law_1038 rfl rfl ?_
  refine ze_iload_n (pc := 1039) dL_law_1039 rfl rfl ?_
  refine zn_iconst (pc := 1040) 3 dL_law_1040 (by decide) ?_
  refine zn_iadd (pc := 1041) dL_law_1041 ?_
  refine ze_sld (pc := 1042) _ dL_law_1042 rfl (by omega) (by omega) ?_
  refine ze_aload_n (pc := 1043) dL_law_1043 rfl rfl ?_
  refine ze_iload_n (pc := 1044) dL_law_1044 rfl rfl ?_
  refine zn_iconst (pc := 1045) 4 dL_law_1045 (by decide) ?_
  refine zn_iadd (pc := 1046) dL_law_1046 ?_
  refine ze_sld (pc := 1047) _ dL_law_1047 rfl (by omega) (by omega) ?_
  refine zn_V (pc := 1048) (c_X10_plane hX (sx (i + 1)) (sx (i + 2)) (sx (i + 3)) (sx (i + 4))) bX10_plane q_i_X10_plane q_s_X10_plane q_m_L_107 dL_law_1048 rfl rfl (hX.1) rfl rfl (by exact Nat.le_of_ble_eq_true rfl) ⟨by decide, by decide⟩ ⟨rfl, rfl, hl1, hl2⟩ (fun z1 h1 hp1 => ?_)
  obtain ⟨q1, hX1, e1⟩ := hp1
  have hM1 := hM.kp (fun a p q => e1 a (by omega))
  obtain ⟨fsM, hhM⟩ := hM1.hd
  refine ze_aload_n (pc := 1051) dL_law_1051 rfl rfl ?_
  refine ze_aload_n (pc := 1052) dL_law_1052 rfl rfl ?_
  refine ze_iload_n (pc := 1053) dL_law_1053 rfl rfl ?_
  refine zn_iconst (pc := 1054) 1 dL_law_1054 (by decide) ?_
  refine zn_iadd (pc := 1055) dL_law_1055 ?_
  refine ze_sld (pc := 1056) _ dL_law_1056 rfl (by omega) (by omega) ?_
  refine ze_aload_n (pc := 1057) dL_law_1057 rfl rfl ?_
  refine ze_iload_n (pc := 1058) dL_law_1058 rfl rfl ?_
  refine zn_iconst (pc := 1059) 2 dL_law_1059 (by decide) ?_
  refine zn_iadd (pc := 1060) dL_law_1060 ?_
  refine ze_sld (pc := 1061) _ dL_law_1061 rfl (by omega) (by omega) ?_
  refine ze_aload_n (pc := 1062) dL_law_1062 rfl rfl ?_
  refine ze_iload_n (pc := 1063) dL_law_1063 rfl rfl ?_
  refine zn_iconst (pc := 1064) 3 dL_law_1064 (by decide) ?_
  refine zn_iadd (pc := 1065) dL_law_1065 ?_
  refine ze_sld (pc := 1066) _ dL_law_1066 rfl (by omega) (by omega) ?_
  refine ze_aload_n (pc := 1067) dL_law_1067 rfl rfl ?_
  refine ze_iload_n (pc := 1068) dL_law_1068 rfl rfl ?_
  refine zn_iconst (pc := 1069) 4 dL_law_1069 (by decide) ?_
  refine zn_iadd (pc := 1070) dL_law_1070 ?_
  refine ze_sld (pc := 1071) _ dL_law_1071 rfl (by omega) (by omega) ?_
  refine zn_V (pc := 1072) (c_X11_plane hM1 hX.sx (sx (i + 1)) (sx (i + 2)) (sx (i + 3)) (sx (i + 4))) bX11_plane q_i_X11_plane q_s_X11_plane q_m_L_110 dL_law_1072 rfl rfl hhM rfl rfl (by exact Nat.le_of_ble_eq_true rfl) ⟨by decide, by decide⟩ ⟨rfl, rfl, hl1, hl2⟩ (fun z2 h2 hp2 => ?_)
  obtain ⟨q2, hM2, e2⟩ := hp2
  refine ze_icmp_eq (pc := 1075) (tgt := 1238) dL_law_1075 (by decide) (fun _ => K _ ⟨_, _, _, _, _, _, _, hX1.kp (fun a p q => e2 a (by omega)), hM2⟩) (fun c => absurd (F_plane q1 q2) c)
theorem w_list (B : Both h o m) (hm : o + 303 ≤ m) (hi : i + 6 ≤ sL) (hL : sL ≤ 3072) (hl1 : al.2.1 ≤ 600000) (hl2 : al.2.2 ≤ 7302250) (K : ∀ h2, Both h2 o m → VS sb sL sx ML Post al h2 1238 (lsL sb o m i) []) : VS sb sL sx ML Post al h 1080 (lsL sb o m i) [] := by
  obtain ⟨x, y, ik, len, f, ft, fp, hX, hM⟩ := B
  refine ze_aload_n (pc := 1080) dL_law_1080 rfl rfl ?_
  refine ze_aload_n (pc := 1081) dL_law_1081 rfl rfl ?_
  refine ze_iload_n (pc := 1082) dL_law_1082 rfl rfl ?_
  refine zn_iconst (pc := 1083) 1 dL_law_1083 (by decide) ?_
  refine zn_iadd (pc := 1084) dL_law_1084 ?_
  refine ze_sld (pc := 1085) _ dL_law_1085 rfl (by omega) (by omega) ?_
  refine ze_aload_n (pc := 1086) dL_law_1086 rfl rfl ?_
  refine ze_iload_n (pc := 1087) dL_law_1087 rfl rfl ?_
  refine zn_iconst (pc := 1088) 2 dL_law_1088 (by decide) ?_
  refine zn_iadd (pc := 1089) dL_law_1089 ?_
  refine ze_sld (pc := 1090) _ dL_law_1090 rfl (by omega) (by omega) ?_
  refine ze_aload_n (pc := 1091) dL_law_1091 rfl rfl ?_
  refine ze_iload_n (pc := 1092) dL_law_1092 rfl rfl ?_
  refine zn_iconst (pc := 1093) 3 dL_law_1093 (by decide) ?_
  refine zn_iadd (pc := 1094) dL_law_1094 ?_
  refine ze_sld (pc := 1095) _ dL_law_1095 rfl (by omega) (by omega) ?_
  refine zn_V (pc := 1096) (c_X10_list hX (sx (i + 1)) (sx (i + 2)) (sx (i + 3))) bX10_list q_i_X10_list q_s_X10_list q_m_L_111 dL_law_1096 rfl rfl (hX.1) rfl rfl (by exact Nat.le_of_ble_eq_true rfl) ⟨by decide, by decide⟩ ⟨rfl, rfl, hl1, hl2⟩ (fun z1 h1 hp1 => ?_)
  obtain ⟨q1, hX1, e1⟩ := hp1
  have hM1 := hM.kp (fun a p q => e1 a (by omega))
  obtain ⟨fsM, hhM⟩ := hM1.hd
  refine ze_aload_n (pc := 1099) dL_law_1099 rfl rfl ?_
  refine ze_aload_n (pc := 1100) dL_law_1100 rfl rfl ?_
  refine ze_iload_n (pc := 1101) dL_law_1101 rfl rfl ?_
  refine zn_iconst (pc := 1102) 1 dL_law_1102 (by decide) ?_
  refine zn_iadd (pc := 1103) dL_law_1103 ?_
  refine ze_sld (pc := 1104) _ dL_law_1104 rfl (by omega) (by omega) ?_
  refine ze_aload_n (pc := 1105) dL_law_1105 rfl rfl ?_
  refine ze_iload_n (pc := 1106) dL_law_1106 rfl rfl ?_
  refine zn_iconst (pc := 1107) 2 dL_law_1107 (by decide) ?_
  refine zn_iadd (pc := 1108) dL_law_1108 ?_
  refine ze_sld (pc := 1109) _ dL_law_1109 rfl (by omega) (by omega) ?_
  refine ze_aload_n (pc := 1110) dL_law_1110 rfl rfl ?_
  refine ze_iload_n (pc := 1111) dL_law_1111 rfl rfl ?_
  refine zn_iconst (pc := 1112) 3 dL_law_1112 (by decide) ?_
  refine zn_iadd (pc := 1113) dL_law_1113 ?_
  refine ze_sld (pc := 1114) _ dL_law_1114 rfl (by omega) (by omega) ?_
  refine zn_V (pc := 1115) (c_X11_list hM1 (sx (i + 1)) (sx (i + 2)) (sx (i + 3))) bX11_list q_i_X11_list q_s_X11_list q_m_L_114 dL_law_1115 rfl rfl hhM rfl rfl (by exact Nat.le_of_ble_eq_true rfl) ⟨by decide, by decide⟩ ⟨rfl, rfl, hl1, hl2⟩ (fun z2 h2 hp2 => ?_)
  obtain ⟨q2, hM2, e2⟩ := hp2
  refine ze_icmp_eq (pc := 1118) (tgt := 1238) dL_law_1118 (by decide) (fun _ => K _ ⟨_, _, _, _, _, _, _, hX1.kp (fun a p q => e2 a (by omega)), hM2⟩) (fun c => absurd (LstC_F q1 q2) c)
theorem w_take (B : Both h o m) (hm : o + 303 ≤ m) (hi : i + 6 ≤ sL) (hL : sL ≤ 3072) (hl1 : al.2.1 ≤ 600000) (hl2 : al.2.2 ≤ 7302250) (K : ∀ h2, Both h2 o m → VS sb sL sx ML Post al h2 1238 (lsL sb o m i) []) : VS sb sL sx ML Post al h 1123 (lsL sb o m i) [] := by
  obtain ⟨x, y, ik, len, f, ft, fp, hX, hM⟩ := B
  refine ze_aload_n (pc := 1123) dL_law_1123 rfl rfl ?_
  refine ze_aload_n (pc := 1124) dL_law_1124 rfl rfl ?_
  refine ze_iload_n (pc := 1125) dL_law_1125 rfl rfl ?_
  refine zn_iconst (pc := 1126) 1 dL_law_1126 (by decide) ?_
  refine zn_iadd (pc := 1127) dL_law_1127 ?_
  refine ze_sld (pc := 1128) _ dL_law_1128 rfl (by omega) (by omega) ?_
  refine ze_aload_n (pc := 1129) dL_law_1129 rfl rfl ?_
  refine ze_iload_n (pc := 1130) dL_law_1130 rfl rfl ?_
  refine zn_iconst (pc := 1131) 2 dL_law_1131 (by decide) ?_
  refine zn_iadd (pc := 1132) dL_law_1132 ?_
  refine ze_sld (pc := 1133) _ dL_law_1133 rfl (by omega) (by omega) ?_
  refine ze_aload_n (pc := 1134) dL_law_1134 rfl rfl ?_
  refine ze_iload_n (pc := 1135) dL_law_1135 rfl rfl ?_
  refine zn_iconst (pc := 1136) 3 dL_law_1136 (by decide) ?_
  refine zn_iadd (pc := 1137) dL_law_1137 ?_
  refine ze_sld (pc := 1138) _ dL_law_1138 rfl (by omega) (by omega) ?_
  refine ze_aload_n (pc := 1139) dL_law_1139 rfl rfl ?_
  refine ze_iload_n (pc := 1140) dL_law_1140 rfl rfl ?_
  refine zn_iconst (pc := 1141) 4 dL_law_1141 (by decide) ?_
  refine zn_iadd (pc := 1142) dL_law_1142 ?_
  refine ze_sld (pc := 1143) _ dL_law_1143 rfl (by omega) (by omega) ?_
  refine zn_V (pc := 1144) (c_X10_take hX (sx (i + 1)) (sx (i + 2)) (sx (i + 3)) (sx (i + 4))) bX10_take q_i_X10_take q_s_X10_take q_m_L_115 dL_law_1144 rfl rfl (hX.1) rfl rfl (by exact Nat.le_of_ble_eq_true rfl) ⟨by decide, by decide⟩ ⟨rfl, rfl, hl1, hl2⟩ (fun z1 h1 hp1 => ?_)
  obtain ⟨x1, q1, hX1, e1⟩ := hp1
  have hM1 := hM.kp (fun a p q => e1 a (by omega))
  obtain ⟨fsM, hhM⟩ := hM1.hd
  refine ze_aload_n (pc := 1147) dL_law_1147 rfl rfl ?_
  refine ze_aload_n (pc := 1148) dL_law_1148 rfl rfl ?_
  refine ze_iload_n (pc := 1149) dL_law_1149 rfl rfl ?_
  refine zn_iconst (pc := 1150) 1 dL_law_1150 (by decide) ?_
  refine zn_iadd (pc := 1151) dL_law_1151 ?_
  refine ze_sld (pc := 1152) _ dL_law_1152 rfl (by omega) (by omega) ?_
  refine ze_aload_n (pc := 1153) dL_law_1153 rfl rfl ?_
  refine ze_iload_n (pc := 1154) dL_law_1154 rfl rfl ?_
  refine zn_iconst (pc := 1155) 2 dL_law_1155 (by decide) ?_
  refine zn_iadd (pc := 1156) dL_law_1156 ?_
  refine ze_sld (pc := 1157) _ dL_law_1157 rfl (by omega) (by omega) ?_
  refine ze_aload_n (pc := 1158) dL_law_1158 rfl rfl ?_
  refine ze_iload_n (pc := 1159) dL_law_1159 rfl rfl ?_
  refine zn_iconst (pc := 1160) 3 dL_law_1160 (by decide) ?_
  refine zn_iadd (pc := 1161) dL_law_1161 ?_
  refine ze_sld (pc := 1162) _ dL_law_1162 rfl (by omega) (by omega) ?_
  refine ze_aload_n (pc := 1163) dL_law_1163 rfl rfl ?_
  refine ze_iload_n (pc := 1164) dL_law_1164 rfl rfl ?_
  refine zn_iconst (pc := 1165) 4 dL_law_1165 (by decide) ?_
  refine zn_iadd (pc := 1166) dL_law_1166 ?_
  refine ze_sld (pc := 1167) _ dL_law_1167 rfl (by omega) (by omega) ?_
  refine zn_V (pc := 1168) (c_X11_take hM1 hX.sx (sx (i + 1)) (sx (i + 2)) (sx (i + 3)) (sx (i + 4))) bX11_take q_i_X11_take q_s_X11_take q_m_L_119 dL_law_1168 rfl rfl hhM rfl rfl (by exact Nat.le_of_ble_eq_true rfl) ⟨by decide, by decide⟩ ⟨rfl, rfl, hl1, hl2⟩ (fun z2 h2 hp2 => ?_)
  obtain ⟨x2, q2, hM2, e2⟩ := hp2
  obtain ⟨f1, rfl⟩ := Take_F q1 q2
  refine ze_icmp_eq (pc := 1171) (tgt := 1238) dL_law_1171 (by decide) (fun _ => K _ ⟨_, _, _, _, _, _, _, hX1.kp (fun a p q => e2 a (by omega)), hM2⟩) (fun c => absurd f1 c)
theorem w_image (B : Both h o m) (hm : o + 303 ≤ m) (hi : i + 6 ≤ sL) (hL : sL ≤ 3072) (hl1 : al.2.1 ≤ 600000) (hl2 : al.2.2 ≤ 7302250) (K : ∀ h2, Both h2 o m → VS sb sL sx ML Post al h2 1238 (lsL sb o m i) []) : VS sb sL sx ML Post al h 1176 (lsL sb o m i) [] := by
  obtain ⟨x, y, ik, len, f, ft, fp, hX, hM⟩ := B
  refine ze_aload_n (pc := 1176) dL_law_1176 rfl rfl ?_
  refine ze_aload_n (pc := 1177) dL_law_1177 rfl rfl ?_
  refine ze_iload_n (pc := 1178) dL_law_1178 rfl rfl ?_
  refine zn_iconst (pc := 1179) 1 dL_law_1179 (by decide) ?_
  refine zn_iadd (pc := 1180) dL_law_1180 ?_
  refine ze_sld (pc := 1181) _ dL_law_1181 rfl (by omega) (by omega) ?_
  refine ze_bool (pc := 1182) dL_law_1182 dL_law_1185 dL_law_1186 dL_law_1189 ?_
  refine zn_V (pc := 1190) (c_X10_image hX (!decide (sx (i + 1) = 0))) bX10_image q_i_X10_image q_s_X10_image q_m_L_120 dL_law_1190 rfl rfl (hX.1) rfl rfl (by exact Nat.le_of_ble_eq_true rfl) ⟨by decide, by decide⟩ ⟨rfl, rfl, hl1, hl2⟩ (fun z1 h1 hp1 => ?_)
  obtain ⟨q1, e1⟩ := hp1
  have hM1 := hM.kp (fun a p q => e1 a (by omega))
  obtain ⟨fsM, hhM⟩ := hM1.hd
  refine ze_aload_n (pc := 1193) dL_law_1193 rfl rfl ?_
  refine ze_aload_n (pc := 1194) dL_law_1194 rfl rfl ?_
  refine ze_iload_n (pc := 1195) dL_law_1195 rfl rfl ?_
  refine zn_iconst (pc := 1196) 1 dL_law_1196 (by decide) ?_
  refine zn_iadd (pc := 1197) dL_law_1197 ?_
  refine ze_sld (pc := 1198) _ dL_law_1198 rfl (by omega) (by omega) ?_
  refine ze_bool (pc := 1199) dL_law_1199 dL_law_1202 dL_law_1203 dL_law_1206 ?_
  refine zn_V (pc := 1207) (c_X11_image hM1 hX.sx hX.sy (!decide (sx (i + 1) = 0))) bX11_image q_i_X11_image q_s_X11_image q_m_L_124 dL_law_1207 rfl rfl hhM rfl rfl (by exact Nat.le_of_ble_eq_true rfl) ⟨by decide, by decide⟩ ⟨rfl, rfl, hl1, hl2⟩ (fun z2 h2 hp2 => ?_)
  obtain ⟨q2, e2⟩ := hp2
  generalize (!decide (sx (i + 1) = 0)) = bb at q1 q2
  rcases q1 with ⟨l1, r1, hX1⟩ | ⟨l1, k1, r1, hX1⟩ | ⟨l1, k1, r1, hX1⟩ <;> rcases q2 with ⟨l2, r2, hM2⟩ | ⟨l2, k2, r2, hM2⟩ | ⟨l2, k2, r2, hM2⟩
  · refine ze_icmp_eq (pc := 1210) (tgt := 1238) dL_law_1210 (by decide) (fun _ => K _ ⟨_, _, _, _, _, _, _, hX1.kp (fun a p q => e2 a (by omega)), hM2⟩) (fun c => absurd (r1.trans r2.symm) c)
  · rw [l1] at l2; cases l2
  · rw [l1] at l2; cases l2
  · rw [l1] at l2; cases l2
  · refine ze_icmp_eq (pc := 1210) (tgt := 1238) dL_law_1210 (by decide) (fun _ => K _ ⟨_, _, _, _, _, _, _, hX1.kp (fun a p q => e2 a (by omega)), hM2⟩) (fun c => absurd (r1.trans r2.symm) c)
  · rw [k1] at k2; cases k2
  · rw [l1] at l2; cases l2
  · rw [k1] at k2; cases k2
  · refine ze_icmp_eq (pc := 1210) (tgt := 1238) dL_law_1210 (by decide) (fun _ => K _ ⟨_, _, _, _, _, _, _, hX1.kp (fun a p q => e2 a (by omega)), hM2⟩) (fun c => absurd (r1.trans r2.symm) c)
theorem w_look (B : Both h o m) (hm : o + 303 ≤ m) (hi : i + 6 ≤ sL) (hL : sL ≤ 3072) (hl1 : al.2.1 ≤ 600000) (hl2 : al.2.2 ≤ 7302250) (K : ∀ h2, Both h2 o m → VS sb sL sx ML Post al h2 1238 (lsL sb o m i) []) : VS sb sL sx ML Post al h 1215 (lsL sb o m i) [] := by
  obtain ⟨x, y, ik, len, f, ft, fp, hX, hM⟩ := B
  refine ze_aload_n (pc := 1215) dL_law_1215 rfl rfl ?_
  refine ze_aload_n (pc := 1216) dL_law_1216 rfl rfl ?_
  refine ze_iload_n (pc := 1217) dL_law_1217 rfl rfl ?_
  refine zn_iconst (pc := 1218) 1 dL_law_1218 (by decide) ?_
  refine zn_iadd (pc := 1219) dL_law_1219 ?_
  refine ze_sld (pc := 1220) _ dL_law_1220 rfl (by omega) (by omega) ?_
  refine zn_V (pc := 1221) (c_X10_look hX (sx (i + 1))) bX10_look q_i_X10_look q_s_X10_look q_m_L_125 dL_law_1221 rfl rfl (hX.1) rfl rfl (by exact Nat.le_of_ble_eq_true rfl) ⟨by decide, by decide⟩ ⟨rfl, rfl, hl1, hl2⟩ (fun z1 h1 hp1 => ?_)
  obtain ⟨q1, rfl⟩ := hp1
  obtain ⟨fsM, hhM⟩ := hM.hd
  refine ze_aload_n (pc := 1224) dL_law_1224 rfl rfl ?_
  refine ze_aload_n (pc := 1225) dL_law_1225 rfl rfl ?_
  refine ze_iload_n (pc := 1226) dL_law_1226 rfl rfl ?_
  refine zn_iconst (pc := 1227) 1 dL_law_1227 (by decide) ?_
  refine zn_iadd (pc := 1228) dL_law_1228 ?_
  refine ze_sld (pc := 1229) _ dL_law_1229 rfl (by omega) (by omega) ?_
  refine zn_V (pc := 1230) (c_X11_look hM (sx (i + 1))) bX11_look q_i_X11_look q_s_X11_look q_m_L_128 dL_law_1230 rfl rfl hhM rfl rfl (by exact Nat.le_of_ble_eq_true rfl) ⟨by decide, by decide⟩ ⟨rfl, rfl, hl1, hl2⟩ (fun z2 h2 hp2 => ?_)
  obtain ⟨q2, rfl⟩ := hp2
  refine ze_icmp_eq (pc := 1233) (tgt := 1238) dL_law_1233 (by decide) (fun _ => K _ ⟨_, _, _, _, _, _, _, hX, hM⟩) (fun c => absurd (F_look q1 q2) c)
theorem and31 (v : Int32) : ∃ n, n < 32 ∧ v &&& nI 31 = nI n := by
  have e : v = nI v.toBitVec.toNat := by
    apply Int32.toBitVec_inj.1
    show v.toBitVec = BitVec.ofNat 32 v.toBitVec.toNat
    simp
  refine ⟨v.toBitVec.toNat &&& 31, Nat.lt_of_le_of_lt Nat.and_le_right (by omega), ?_⟩
  rw [← nx_and, ← e]
theorem cmp6 {L k : Nat} (hL : L ≤ 3072) (hk : 6 * k ≤ L + 6) (c : ¬ nI L - nI 6 < nI (6 * k)) : 6 * k + 6 ≤ L := by
  by_cases g : 6 ≤ L
  · have e : nI L - nI 6 = nI (L - 6) := by
      rw [show L = (L - 6) + 6 by omega, ← nI_add, Int32.add_sub_cancel, show L - 6 + 6 - 6 = L - 6 by omega]
    rw [e] at c
    have : ¬ L - 6 < 6 * k := fun q => c (nI_lt q (by omega))
    omega
  · exfalso
    have h0 : nI L - nI 6 < 0 := by
      have : L = 0 ∨ L = 1 ∨ L = 2 ∨ L = 3 ∨ L = 4 ∨ L = 5 := by omega
      rcases this with rfl | rfl | rfl | rfl | rfl | rfl <;> decide
    exact c (Int32.lt_of_lt_of_le h0 (nI_pos' (by omega)))
theorem l_disp {n : Nat} (hn : n < 32) (B : Both h o m) (hm : o + 303 ≤ m) (hi : i + 6 ≤ sL) (hL : sL ≤ 3072) (hl1 : al.2.1 ≤ 600000) (hl2 : al.2.2 ≤ 7302250) (K : ∀ h2, Both h2 o m → VS sb sL sx ML Post al h2 1238 (lsL sb o m i) []) : VS sb sL sx ML Post al h 33 (lsL sb o m i) [.int (nI n)] := by
  match n, hn with
  | 0, _ => exact ze_switchIn (tgt := 152) (off := 119) dL_law_33 (by decide) (by decide) (by rfl) (by decide) (w_feed B hm hi hL hl1 hl2 K)
  | 1, _ => exact ze_switchIn (tgt := 215) (off := 182) dL_law_33 (by decide) (by decide) (by rfl) (by decide) (w_end B hm hi hL hl1 hl2 K)
  | 2, _ => exact ze_switchIn (tgt := 238) (off := 205) dL_law_33 (by decide) (by decide) (by rfl) (by decide) (w_text B hm hi hL hl1 hl2 K)
  | 3, _ => exact ze_switchIn (tgt := 261) (off := 228) dL_law_33 (by decide) (by decide) (by rfl) (by decide) (w_fault B hm hi hL hl1 hl2 K)
  | 4, _ => exact ze_switchIn (tgt := 284) (off := 251) dL_law_33 (by decide) (by decide) (by rfl) (by decide) (w_digit B hm hi hL hl1 hl2 K)
  | 5, _ => exact ze_switchIn (tgt := 347) (off := 314) dL_law_33 (by decide) (by decide) (by rfl) (by decide) (w_cube B hm hi hL hl1 hl2 K)
  | 6, _ => exact ze_switchIn (tgt := 400) (off := 367) dL_law_33 (by decide) (by decide) (by rfl) (by decide) (w_of B hm hi hL hl1 hl2 K)
  | 7, _ => exact ze_switchIn (tgt := 433) (off := 400) dL_law_33 (by decide) (by decide) (by rfl) (by decide) (w_product B hm hi hL hl1 hl2 K)
  | 8, _ => exact ze_switchIn (tgt := 476) (off := 443) dL_law_33 (by decide) (by decide) (by rfl) (by decide) (w_quotient B hm hi hL hl1 hl2 K)
  | 9, _ => exact ze_switchIn (tgt := 545) (off := 512) dL_law_33 (by decide) (by decide) (by rfl) (by decide) (w_ranks B hm hi hL hl1 hl2 K)
  | 10, _ => exact ze_switchIn (tgt := 588) (off := 555) dL_law_33 (by decide) (by decide) (by rfl) (by decide) (w_powers B hm hi hL hl1 hl2 K)
  | 11, _ => exact ze_switchIn (tgt := 621) (off := 588) dL_law_33 (by decide) (by decide) (by rfl) (by decide) (w_span B hm hi hL hl1 hl2 K)
  | 12, _ => exact ze_switchIn (tgt := 664) (off := 631) dL_law_33 (by decide) (by decide) (by rfl) (by decide) (w_fano B hm hi hL hl1 hl2 K)
  | 13, _ => exact ze_switchIn (tgt := 727) (off := 694) dL_law_33 (by decide) (by decide) (by rfl) (by decide) (w_parted B hm hi hL hl1 hl2 K)
  | 14, _ => exact ze_switchIn (tgt := 760) (off := 727) dL_law_33 (by decide) (by decide) (by rfl) (by decide) (w_turn B hm hi hL hl1 hl2 K)
  | 15, _ => exact ze_switchIn (tgt := 803) (off := 770) dL_law_33 (by decide) (by decide) (by rfl) (by decide) (w_unital B hm hi hL hl1 hl2 K)
  | 16, _ => exact ze_switchIn (tgt := 846) (off := 813) dL_law_33 (by decide) (by decide) (by rfl) (by decide) (w_undo B hm hi hL hl1 hl2 K)
  | 17, _ => exact ze_switchIn (tgt := 885) (off := 852) dL_law_33 (by decide) (by decide) (by rfl) (by decide) (w_map B hm hi hL hl1 hl2 K)
  | 18, _ => exact ze_switchIn (tgt := 928) (off := 895) dL_law_33 (by decide) (by decide) (by rfl) (by decide) (w_carry B hm hi hL hl1 hl2 K)
  | 19, _ => exact ze_switchIn (tgt := 961) (off := 928) dL_law_33 (by decide) (by decide) (by rfl) (by decide) (w_same B hm hi hL hl1 hl2 K)
  | 20, _ => exact ze_switchIn (tgt := 994) (off := 961) dL_law_33 (by decide) (by decide) (by rfl) (by decide) (w_isotopes B hm hi hL hl1 hl2 K)
  | 21, _ => exact ze_switchIn (tgt := 1027) (off := 994) dL_law_33 (by decide) (by decide) (by rfl) (by decide) (w_plane B hm hi hL hl1 hl2 K)
  | 22, _ => exact ze_switchIn (tgt := 1080) (off := 1047) dL_law_33 (by decide) (by decide) (by rfl) (by decide) (w_list B hm hi hL hl1 hl2 K)
  | 23, _ => exact ze_switchIn (tgt := 1123) (off := 1090) dL_law_33 (by decide) (by decide) (by rfl) (by decide) (w_take B hm hi hL hl1 hl2 K)
  | 24, _ => exact ze_switchIn (tgt := 1176) (off := 1143) dL_law_33 (by decide) (by decide) (by rfl) (by decide) (w_image B hm hi hL hl1 hl2 K)
  | 25, _ => exact ze_switchIn (tgt := 1215) (off := 1182) dL_law_33 (by decide) (by decide) (by rfl) (by decide) (w_look B hm hi hL hl1 hl2 K)
  | n + 26, hn => exact ze_switchOut (tgt := 1238) dL_law_33 (Or.inr (by rw [nI_toInt (by omega)]; omega)) (by decide) (K h B)
theorem l_loop (hm : o + 303 ≤ m) (hL : sL ≤ 3072) (hl1 : al.2.1 ≤ 600000) (hl2 : al.2.2 ≤ 7302250) (hP : ∀ h' z, Post (some (.int (nI 1))) h' z) (r : Nat) : ∀ k h, sL ≤ 6 * k + 6 * r + 5 → 6 * k ≤ sL + 6 → Both h o m → VS sb sL sx ML Post al h 18 (lsL sb o m (6 * k)) [] := by
  have fin : ∀ k h, VS sb sL sx ML Post al h 1244 (lsL sb o m (6 * k)) [] := fun k h => by
    refine zn_iconst (pc := 1244) 1 dL_law_1244 (by decide) ?_
    exact ze_zret dL_law_1245 rfl (by rfl) ⟨hl1, hl2⟩ (hP _ _)
  have head : ∀ k h, 6 * k ≤ sL + 6 → (6 * k + 6 ≤ sL → VS sb sL sx ML Post al h 27 (lsL sb o m (6 * k)) []) → VS sb sL sx ML Post al h 18 (lsL sb o m (6 * k)) [] := fun k h hk K => by
    refine ze_iload_n (pc := 18) dL_law_18 rfl rfl ?_
    refine ze_aload_n (pc := 19) dL_law_19 rfl rfl ?_
    refine ze_slen (pc := 20) dL_law_20 ?_
    refine zn_bipush (pc := 21) 6 dL_law_21 (by decide) ?_
    refine ze_isub (pc := 23) dL_law_23 ?_
    refine ze_icmp_gt (pc := 24) (tgt := 1244) dL_law_24 (by decide) (fun _ => fin k h) (fun c => K (cmp6 hL hk c))
  induction r with
  | zero => exact fun k h h1 h2 _ => head k h h2 (fun q => absurd q (by omega))
  | succ r ih =>
    intro k h h1 h2 B
    refine head k h h2 (fun q => ?_)
    refine ze_aload_n (pc := 27) dL_law_27 rfl rfl ?_
    refine ze_iload_n (pc := 28) dL_law_28 rfl rfl ?_
    refine ze_sld (pc := 29) _ dL_law_29 rfl (by omega) (by omega) ?_
    refine zn_bipush (pc := 30) 31 dL_law_30 (by decide) ?_
    refine ze_iand (pc := 32) dL_law_32 ?_
    obtain ⟨n, hn, en⟩ := and31 (sx (6 * k))
    refine ze_top en ?_
    refine l_disp hn B hm q hL hl1 hl2 (fun h2 B2 => ?_)
    refine ze_iinc (pc := 1238) (i := 3) (x := nI (6 * k)) (v := nI (6 * (k + 1))) dL_law_1238 rfl (by rw [show Int32.ofInt 6 = nI 6 by decide, nI_add]; rfl) (by decide) ?_
    refine ze_goto (pc := 1241) (tgt := 18) dL_law_1241 (by decide) ?_
    exact ih (k + 1) h2 (by omega) (by omega) B2
theorem zl_new {idx ci2 K z c s c2 s2 pc : Nat} {fs0 : List Value} {ls : List (Option Value)} {st : List Value} (fq : NW "NeedNotJoinLaw" idx ci2 K fs0) (hd : decode cL_law pc = .ok (.new idx, 3)) (e2 : c + 1 = c2) (e3 : s + K = s2) (hlim : c2 ≤ 600000 ∧ s2 ≤ 7302250) (k : VS sb sL sx ML Post (z + 1, c2, s2) (hset h z (ob ci2 fs0)) (pc + 3) ls (.ref z :: st)) : VS sb sL sx ML Post (z, c, s) h pc ls st := by
  subst e2; subst e3
  exact ze_new (al := (z, c, s)) fq hd hlim k
theorem zl_ctor {y : MethodName} {M2 : MI} {idx b z c s c2 s2 pc : Nat} {ls : List (Option Value)} {st : List Value} {Post2 : Option Value → AH → Nat → Prop} (C : Cn y M2 [.ref b] z h Post2) (by0 : BY y M2 0) (hrt : MI.rt M2 = none) (hy1 : y.name = "<init>") (hi : (Cond.instanceMethod y) ∈ lw_good) (hlk : (Cond.methodLink "NeedNotJoinLaw" idx y) ∈ lw_good) (hd : decode cL_law pc = .ok (.invokespecial idx, 3))
    (hst : (st.map fun v => v.category).sum ≤ 8) (hdp : MI.dp M2 + 1 ≤ 24 ∧ MI.nL M2 ≤ 41) (e2 : c + MI.mc M2 = c2) (e3 : s + MI.ms M2 = s2) (hlim : c2 ≤ 600000 ∧ s2 ≤ 7302250)
    (k : ∀ (r : Option Value) (h2 : AH) (z2 : Nat), Post2 r h2 z2 → VS sb sL sx ML Post (z2, c2, s2) h2 (pc + 3) ls (r.toList ++ st)) : VS sb sL sx ML Post (z, c, s) h pc ls (.ref b :: st) := by
  subst e2; subst e3
  exact ze_callI (al := (z, c, s)) (As := []) C by0 hrt hy1 hi hlk hd rfl hst hdp hlim k
theorem l_whole (hL : sL ≤ 3072) (z : Nat) : VS sb sL sx ML (fun r _ _ => r = some (.int (nI 1))) (z, 0, 0) (fun _ => none) 0 [some (.ref sb), none, none, none] [] := by
  refine zl_new (pc := 0) (c2 := 1) (s2 := 11) nw_L_7 dL_law_0 rfl rfl ⟨by decide, by decide⟩ ?_
  refine ze_dup (pc := 3) dL_law_3 rfl ?_
  refine zl_ctor (pc := 4) (c2 := 303) (s2 := 16872) (c_X10_init z _ (hset_eq _ _ _)) bX10_init rfl rfl q_i_X10_init q_m_L_9 dL_law_4 (by exact Nat.le_of_ble_eq_true rfl) ⟨by decide, by decide⟩ rfl rfl ⟨by decide, by decide⟩ ?_
  rintro r h2 z2 ⟨rfl, rfl, rfl⟩
  refine ze_astore_n (pc := 7) dL_law_7 rfl (by decide) ?_
  refine zl_new (pc := 8) (c2 := 304) (s2 := 16914) nw_L_10 dL_law_8 rfl rfl ⟨by decide, by decide⟩ ?_
  refine ze_dup (pc := 11) dL_law_11 rfl ?_
  refine zl_ctor (pc := 12) (c2 := 410) (s2 := 36602) (c_X11_init _ (z + 1 + 302) (hset_eq _ _ _)) bX11_init rfl rfl q_i_X11_init q_m_L_12 dL_law_12 (by exact Nat.le_of_ble_eq_true rfl) ⟨by decide, by decide⟩ rfl rfl ⟨by decide, by decide⟩ ?_
  rintro r h3 z3 ⟨rfl, rfl, g, hg, rfl⟩
  refine ze_astore_n (pc := 15) dL_law_15 rfl (by decide) ?_
  refine zn_iconst (pc := 16) 0 dL_law_16 (by decide) ?_
  refine ze_istore_n (pc := 17) dL_law_17 rfl (by decide) ?_
  refine l_loop (o := z) (m := z + 1 + 302) (by omega) hL (by show 410 ≤ 600000; omega) (by show 36602 ≤ 7302250; omega) (fun _ _ => rfl) sL 0 _ (by omega) (by omega) ?_
  exact ⟨x0, x0, false, 0, fun _ => 0, 0, -1, XAt_0.kp (fun a p q => (bk_out (Or.inl (by omega))).trans (hset_ne _ _ (by omega))), MAt_0 hg⟩
end LAW
