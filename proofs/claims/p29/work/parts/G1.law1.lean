/-! ===== the law: products, nuclei ===== -/
abbrev ML_law : MI := (RL, cL_law, 17, some .boolean, 13, 600000, 7302250, false)
/-- the round's world and its table -/
def Rt (h : AH) (o w tb z : Nat) (X : Wd) : Prop := LW h w X (.ref tb) ∧ Tb h tb (X.1 ^ X.2.1) (mul X) ∧ o + 303 ≤ w ∧ w + 31 < tb ∧ tb + X.1 ^ X.2.1 < z
theorem q_prod {x : Sx} {W : Wd} {r a b : Nat} {z : Int32} (hx : x.ws r = W) (hr : r < 6) (ha : a < W.1 ^ W.2.1) (hb : b < W.1 ^ W.2.1) (hq : W.1 ^ W.2.1 ≤ 27) (q : Q_prod x (nI r) (nI a) (nI b) z) : z = nI (mul W a b) := by
  have q2 := q_then (by rw [wld_nI hx hr, ok6 hr, okq ha (by omega), okq hb (by omega)]; rfl) q
  rw [wld_nI hx hr, cl_nI (show a < 2 ^ 31 by omega), cl_nI (show b < 2 ^ 31 by omega)] at q2
  exact q2
section LV
variable {ro : RT} {Post : Option Value → AH → Nat → Prop} {h h2 : AH} {sb o r w tb z z2 c s len : Nat} {x y : Sx} {X : Wd} {ik : Bool} {f : Nat → Nat} {ft fp : Int32}
theorem Rt.kept (hR : Rt h o w tb z X) (hz : z ≤ z2) (e : ∀ q, o + 303 ≤ q → q < z → h2 q = h q) : Rt h2 o w tb z2 X := by
  obtain ⟨r1, r2, r3, r4, r5⟩ := hR
  exact ⟨r1.kept (fun q q1 q2 => e q (by omega) (by omega)), r2.kept (fun q q1 q2 => e q (by omega) (by omega)), r3, r4, by omega⟩
theorem Rt.sm (hR : Rt h o w tb z X) (hI : SmI h h2 o x y ik len f ft fp) : Rt h2 o w tb z X := hR.kept (Nat.le_refl _) (fun q q1 _ => hI.2 q (Or.inr q1))
theorem l_pr_b {a : Nat} (hR : Rt h o w tb z X) (hk : Wok X) (hq : X.1 ^ X.2.1 ≤ 27) (hx : x.ws r = X) (hr : r < 6) (ha : a < X.1 ^ X.2.1) (hc : c ≤ 600000) (hs : s ≤ 7302250)
    (kk : ∀ h2, SmI h h2 o x y ik len f ft fp → VS ro ML_law Post (z, c, s) h2 103 [some (.ref sb), some (.ref o), some (.int (nI r)), some (.ref w), some (.int (nI (X.1 ^ X.2.1))), some (.ref tb), some (.int (nI a)), none, none, none, none, none, none, none, none, none, none] []) :
    ∀ (m b : Nat), m = X.1 ^ X.2.1 - b → b ≤ X.1 ^ X.2.1 → ∀ h2, SmI h h2 o x y ik len f ft fp → VS ro ML_law Post (z, c, s) h2 68 [some (.ref sb), some (.ref o), some (.int (nI r)), some (.ref w), some (.int (nI (X.1 ^ X.2.1))), some (.ref tb), some (.int (nI a)), some (.int (nI b)), none, none, none, none, none, none, none, none, none] [] := by
  intro m
  induction m with
  | zero =>
    intro b e1 e2 h2 hI
    have : b = X.1 ^ X.2.1 := by omega
    subst this
    refine ze_iload (pc := 68) dL_law_68 rfl ?_
    refine ze_iload (pc := 70) dL_law_70 rfl ?_
    refine zn_icmp_ge (pc := 72) (tgt := 103) dL_law_72 (by decide) (by omega) (by omega) (fun cc => ?_) (fun c => absurd c (by omega))
    refine VS.mask [true, true, true, true, true, true, true, false, false, false, false, false, false, false, false, false, false] ?_
    exact kk h2 hI
  | succ m ih =>
    intro b e1 e2 h2 hI
    obtain ⟨x1, -⟩ := id hI.1
    have hm := mul_lt hk a b
    refine ze_iload (pc := 68) dL_law_68 rfl ?_
    refine ze_iload (pc := 70) dL_law_70 rfl ?_
    refine zn_icmp_ge (pc := 72) (tgt := 103) dL_law_72 (by decide) (by omega) (by omega) (fun c => absurd c (by omega)) (fun cc => ?_)
    refine ze_aload_n (pc := 75) dL_law_75 rfl rfl ?_
    refine ze_iload_n (pc := 76) dL_law_76 rfl rfl ?_
    refine ze_iload (pc := 77) dL_law_77 rfl ?_
    refine ze_iload (pc := 79) dL_law_79 rfl ?_
    refine zn_V (pc := 81) ((c_X10_product hI.1 (nI r) (nI a) (nI b)).toS) bX10_product q_i_X10_product q_s_X10_product q_m_L_142 dL_law_81 rfl rfl (by repeat (first | assumption | exact hset_eq _ _ _ | rw [hset_ne _ _ (by omega)])) rfl rfl (by exact Nat.le_of_ble_eq_true rfl) ⟨by decide, by decide⟩ ⟨rfl, rfl, by show _ ≤ 600000; first | omega | (dsimp only; omega) | dsimp only | exact Nat.le_of_ble_eq_true rfl, by show _ ≤ 7302250; first | omega | (dsimp only; omega) | dsimp only | exact Nat.le_of_ble_eq_true rfl⟩ (fun v h3 hp => ?_)
    obtain ⟨p1, p2, p3⟩ := hp
    have hI3 : SmI h h3 o x y ik len f ft fp := ⟨p2, hI.2.tr p3⟩
    obtain ⟨-, ⟨t1, t2⟩, -⟩ := id (hR.sm hI3)
    obtain ⟨g, g1, g2⟩ := t2 a ha
    have e := q_prod hx hr ha (by omega) hq p1
    subst e
    refine ze_aload (pc := 84) dL_law_84 rfl ?_
    refine ze_iload (pc := 86) dL_law_86 rfl ?_
    refine ze_aldGS (pc := 88) (a) dL_law_88 (by repeat (first | assumption | exact hset_eq _ _ _ | rw [hset_ne _ _ (by omega)])) (by rfl) (by omega) (by first | decide | omega) (by exact if_pos ha) ?_
    refine ze_iload (pc := 89) dL_law_89 rfl ?_
    refine ze_ialdN (pc := 91) (b) dL_law_91 (by repeat (first | assumption | exact hset_eq _ _ _ | rw [hset_ne _ _ (by omega)])) (by rfl) (by omega) (by first | decide | omega) ?_
    refine ze_top (g2 b (by omega)) ?_
    refine zn_icmp_eq (pc := 92) (tgt := 97) dL_law_92 (by decide) (by omega) (by omega) (fun cc2 => ?_) (fun c => absurd c (by omega))
    refine zn_inc (pc := 97) dL_law_97 rfl (by decide) ?_
    refine ze_goto (pc := 100) (tgt := 68) dL_law_100 (by decide) ?_
    exact ih (b + 1) (by omega) (by omega) h3 hI3
theorem l_pr_a (hR : Rt h o w tb z X) (hk : Wok X) (hq : X.1 ^ X.2.1 ≤ 27) (hx : x.ws r = X) (hr : r < 6) (hc : c ≤ 600000) (hs : s ≤ 7302250)
    (kk : ∀ h2, SmI h h2 o x y ik len f ft fp → VS ro ML_law Post (z, c, s) h2 109 [some (.ref sb), some (.ref o), some (.int (nI r)), some (.ref w), some (.int (nI (X.1 ^ X.2.1))), some (.ref tb), none, none, none, none, none, none, none, none, none, none, none] []) :
    ∀ (m a : Nat), m = X.1 ^ X.2.1 - a → a ≤ X.1 ^ X.2.1 → ∀ h2, SmI h h2 o x y ik len f ft fp → VS ro ML_law Post (z, c, s) h2 58 [some (.ref sb), some (.ref o), some (.int (nI r)), some (.ref w), some (.int (nI (X.1 ^ X.2.1))), some (.ref tb), some (.int (nI a)), none, none, none, none, none, none, none, none, none, none] [] := by
  intro m
  induction m with
  | zero =>
    intro a e1 e2 h2 hI
    have : a = X.1 ^ X.2.1 := by omega
    subst this
    refine ze_iload (pc := 58) dL_law_58 rfl ?_
    refine ze_iload (pc := 60) dL_law_60 rfl ?_
    refine zn_icmp_ge (pc := 62) (tgt := 109) dL_law_62 (by decide) (by omega) (by omega) (fun cc => ?_) (fun c => absurd c (by omega))
    refine VS.mask [true, true, true, true, true, true, false, false, false, false, false, false, false, false, false, false, false] ?_
    exact kk h2 hI
  | succ m ih =>
    intro a e1 e2 h2 hI
    refine ze_iload (pc := 58) dL_law_58 rfl ?_
    refine ze_iload (pc := 60) dL_law_60 rfl ?_
    refine zn_icmp_ge (pc := 62) (tgt := 109) dL_law_62 (by decide) (by omega) (by omega) (fun c => absurd c (by omega)) (fun cc => ?_)
    refine zn_iconst (pc := 65) 0 dL_law_65 (by decide) ?_
    refine ze_istore (pc := 66) dL_law_66 (by decide) ?_
    refine l_pr_b hR hk hq hx hr (by omega) hc hs (fun h3 hI3 => ?_) (X.1 ^ X.2.1) 0 (by omega) (by omega) h2 hI
    refine zn_inc (pc := 103) dL_law_103 rfl (by decide) ?_
    refine ze_goto (pc := 106) (tgt := 58) dL_law_106 (by decide) ?_
    exact ih (a + 1) (by omega) (by omega) h3 hI3
end LV
/-- a truth as the machine has it -/
noncomputable def tI (P : Prop) : Int32 := bI (bl P)
theorem tI_t {P : Prop} (h : P) : tI P = nI 1 := by unfold tI; rw [bl_t h]; rfl
theorem tI_f {P : Prop} (h : ¬ P) : tI P = nI 0 := by unfold tI; rw [bl_f h]; rfl
theorem tI_c {P Q : Prop} (h : P ↔ Q) : tI P = tI Q := by rw [propext h]
theorem tI_nar {P : Prop} : vp_nar .boolean (tI P) = tI P := by
  by_cases h : P
  · rw [tI_t h]; rfl
  · rw [tI_f h]; rfl
section LW1
variable {ro : RT} {Post : Option Value → AH → Nat → Prop} {h h2 : AH} {sb o r w tb z z2 c s ib nb a b d : Nat} {X : Wd} {P : Prop} {gi : Nat → Int32} {v6 v7 : Value}
theorem l_nu_0 (hR : Rt h o w tb z2 X) (hk : Wok X) (hq : X.1 ^ X.2.1 ≤ 27) (hi : h ib = some (aZ 4 gi)) (hg : gi 0 = tI P) (ha : a < X.1 ^ X.2.1) (hb : b < X.1 ^ X.2.1) (hd : d < X.1 ^ X.2.1)
    (kk : VS ro ML_law Post (z, c, s) (hset h ib (aZ 4 (upd gi 0 (tI (P ∧ eJ X 0 a b d = lJ X 0 a b d))))) 261 [some (.ref sb), some (.ref o), some (.int (nI r)), some (.ref w), some (.int (nI (X.1 ^ X.2.1))), some (.ref tb), some (v6), some (v7), some (.ref nb), some (.int (nI a)), some (.ref ib), some (.int (nI b)), some (.int (nI d)), none, none, none, none] []) : VS ro ML_law Post (z, c, s) h 214 [some (.ref sb), some (.ref o), some (.int (nI r)), some (.ref w), some (.int (nI (X.1 ^ X.2.1))), some (.ref tb), some (v6), some (v7), some (.ref nb), some (.int (nI a)), some (.ref ib), some (.int (nI b)), some (.int (nI d)), none, none, none, none] [] := by
  obtain ⟨-, ⟨t1, t2⟩, -⟩ := id hR
  have m1 := mul_lt hk a b
  have m2 := mul_lt hk b d
  have m3 := mul_lt hk (mul X a b) d
  have m4 := mul_lt hk a (mul X b d)
  obtain ⟨ga, ga1, ga2⟩ := t2 _ ha
  obtain ⟨gb, gb1, gb2⟩ := t2 _ hb
  obtain ⟨gm, gm1, gm2⟩ := t2 _ m1
  have fin : ∀ Q : Prop, (Q ↔ P ∧ eJ X 0 a b d = lJ X 0 a b d) → VS ro ML_law Post (z, c, s) h 260 [some (.ref sb), some (.ref o), some (.int (nI r)), some (.ref w), some (.int (nI (X.1 ^ X.2.1))), some (.ref tb), some (v6), some (v7), some (.ref nb), some (.int (nI a)), some (.ref ib), some (.int (nI b)), some (.int (nI d)), none, none, none, none] [.int (tI Q), .int (nI 0), .ref ib] := fun Q hQ => by
    refine ze_zastN (pc := 260) 0 dL_law_260 hi rfl (by omega) (by decide) ?_
    rw [tI_nar, tI_c hQ]
    exact kk
  refine ze_aload (pc := 214) dL_law_214 rfl ?_
  refine zn_iconst (pc := 216) 0 dL_law_216 (by decide) ?_
  refine ze_aload (pc := 217) dL_law_217 rfl ?_
  refine zn_iconst (pc := 219) 0 dL_law_219 (by decide) ?_
  refine ze_zaldN (pc := 220) (0) dL_law_220 (by repeat (first | assumption | exact hset_eq _ _ _ | rw [hset_ne _ _ (by omega)])) (by rfl) (by omega) (by first | decide | omega) ?_
  by_cases hP : P
  · refine ze_top (hg.trans (tI_t hP)) ?_
    refine zn_if_eq (pc := 221) (tgt := 259) dL_law_221 (by decide) (by omega) (fun q => absurd q (by omega)) (fun _ => ?_)
    refine ze_aload (pc := 224) dL_law_224 rfl ?_
    refine ze_aload (pc := 226) dL_law_226 rfl ?_
    refine ze_iload (pc := 228) dL_law_228 rfl ?_
    refine ze_aldGS (pc := 230) (a) dL_law_230 (by repeat (first | assumption | exact hset_eq _ _ _ | rw [hset_ne _ _ (by omega)])) (by rfl) (by omega) (by first | decide | omega) (by exact if_pos ha) ?_
    refine ze_iload (pc := 231) dL_law_231 rfl ?_
    refine ze_ialdN (pc := 233) (b) dL_law_233 (by repeat (first | assumption | exact hset_eq _ _ _ | rw [hset_ne _ _ (by omega)])) (by rfl) (by omega) (by first | decide | omega) ?_
    refine ze_top (ga2 b hb) ?_
    refine ze_aldGS (pc := 234) (mul X a b) dL_law_234 (by repeat (first | assumption | exact hset_eq _ _ _ | rw [hset_ne _ _ (by omega)])) (by rfl) (by omega) (by first | decide | omega) (by exact if_pos m1) ?_
    refine ze_iload (pc := 235) dL_law_235 rfl ?_
    refine ze_ialdN (pc := 237) (d) dL_law_237 (by repeat (first | assumption | exact hset_eq _ _ _ | rw [hset_ne _ _ (by omega)])) (by rfl) (by omega) (by first | decide | omega) ?_
    refine ze_top (gm2 d hd) ?_
    refine ze_aload (pc := 238) dL_law_238 rfl ?_
    refine ze_iload (pc := 240) dL_law_240 rfl ?_
    refine ze_aldGS (pc := 242) (a) dL_law_242 (by repeat (first | assumption | exact hset_eq _ _ _ | rw [hset_ne _ _ (by omega)])) (by rfl) (by omega) (by first | decide | omega) (by exact if_pos ha) ?_
    refine ze_aload (pc := 243) dL_law_243 rfl ?_
    refine ze_iload (pc := 245) dL_law_245 rfl ?_
    refine ze_aldGS (pc := 247) (b) dL_law_247 (by repeat (first | assumption | exact hset_eq _ _ _ | rw [hset_ne _ _ (by omega)])) (by rfl) (by omega) (by first | decide | omega) (by exact if_pos hb) ?_
    refine ze_iload (pc := 248) dL_law_248 rfl ?_
    refine ze_ialdN (pc := 250) (d) dL_law_250 (by repeat (first | assumption | exact hset_eq _ _ _ | rw [hset_ne _ _ (by omega)])) (by rfl) (by omega) (by first | decide | omega) ?_
    refine ze_top (gb2 d hd) ?_
    refine ze_ialdN (pc := 251) (mul X b d) dL_law_251 (by repeat (first | assumption | exact hset_eq _ _ _ | rw [hset_ne _ _ (by omega)])) (by rfl) (by omega) (by first | decide | omega) ?_
    refine ze_top (ga2 _ m2) ?_
    refine zn_icmp_ne (pc := 252) (tgt := 259) dL_law_252 (by decide) (by omega) (by omega) (fun q => ?_) (fun q => ?_)
    · refine zn_iconst (pc := 259) 0 dL_law_259 (by decide) ?_
      refine ze_top (tI_f (P := P ∧ eJ X 0 a b d = lJ X 0 a b d) (fun zz => q zz.2)).symm ?_
      exact fin _ Iff.rfl
    · refine zn_iconst (pc := 255) 1 dL_law_255 (by decide) ?_
      refine ze_goto (pc := 256) (tgt := 260) dL_law_256 (by decide) ?_
      refine ze_top (tI_t (P := P ∧ eJ X 0 a b d = lJ X 0 a b d) ⟨hP, q⟩).symm ?_
      exact fin _ Iff.rfl
  · refine ze_top (hg.trans (tI_f hP)) ?_
    refine zn_if_eq (pc := 221) (tgt := 259) dL_law_221 (by decide) (by omega) (fun _ => ?_) (fun q => absurd rfl q)
    refine zn_iconst (pc := 259) 0 dL_law_259 (by decide) ?_
    refine ze_top (tI_f (P := P ∧ eJ X 0 a b d = lJ X 0 a b d) (fun zz => hP zz.1)).symm ?_
    exact fin _ Iff.rfl
theorem l_nu_1 (hR : Rt h o w tb z2 X) (hk : Wok X) (hq : X.1 ^ X.2.1 ≤ 27) (hi : h ib = some (aZ 4 gi)) (hg : gi 1 = tI P) (ha : a < X.1 ^ X.2.1) (hb : b < X.1 ^ X.2.1) (hd : d < X.1 ^ X.2.1)
    (kk : VS ro ML_law Post (z, c, s) (hset h ib (aZ 4 (upd gi 1 (tI (P ∧ eJ X 1 a b d = lJ X 1 a b d))))) 308 [some (.ref sb), some (.ref o), some (.int (nI r)), some (.ref w), some (.int (nI (X.1 ^ X.2.1))), some (.ref tb), some (v6), some (v7), some (.ref nb), some (.int (nI a)), some (.ref ib), some (.int (nI b)), some (.int (nI d)), none, none, none, none] []) : VS ro ML_law Post (z, c, s) h 261 [some (.ref sb), some (.ref o), some (.int (nI r)), some (.ref w), some (.int (nI (X.1 ^ X.2.1))), some (.ref tb), some (v6), some (v7), some (.ref nb), some (.int (nI a)), some (.ref ib), some (.int (nI b)), some (.int (nI d)), none, none, none, none] [] := by
  obtain ⟨-, ⟨t1, t2⟩, -⟩ := id hR
  have m1 := mul_lt hk b a
  have m2 := mul_lt hk a d
  have m3 := mul_lt hk (mul X b a) d
  have m4 := mul_lt hk b (mul X a d)
  obtain ⟨ga, ga1, ga2⟩ := t2 _ ha
  obtain ⟨gb, gb1, gb2⟩ := t2 _ hb
  obtain ⟨gm, gm1, gm2⟩ := t2 _ m1
  have fin : ∀ Q : Prop, (Q ↔ P ∧ eJ X 1 a b d = lJ X 1 a b d) → VS ro ML_law Post (z, c, s) h 307 [some (.ref sb), some (.ref o), some (.int (nI r)), some (.ref w), some (.int (nI (X.1 ^ X.2.1))), some (.ref tb), some (v6), some (v7), some (.ref nb), some (.int (nI a)), some (.ref ib), some (.int (nI b)), some (.int (nI d)), none, none, none, none] [.int (tI Q), .int (nI 1), .ref ib] := fun Q hQ => by
    refine ze_zastN (pc := 307) 1 dL_law_307 hi rfl (by omega) (by decide) ?_
    rw [tI_nar, tI_c hQ]
    exact kk
  refine ze_aload (pc := 261) dL_law_261 rfl ?_
  refine zn_iconst (pc := 263) 1 dL_law_263 (by decide) ?_
  refine ze_aload (pc := 264) dL_law_264 rfl ?_
  refine zn_iconst (pc := 266) 1 dL_law_266 (by decide) ?_
  refine ze_zaldN (pc := 267) (1) dL_law_267 (by repeat (first | assumption | exact hset_eq _ _ _ | rw [hset_ne _ _ (by omega)])) (by rfl) (by omega) (by first | decide | omega) ?_
  by_cases hP : P
  · refine ze_top (hg.trans (tI_t hP)) ?_
    refine zn_if_eq (pc := 268) (tgt := 306) dL_law_268 (by decide) (by omega) (fun q => absurd q (by omega)) (fun _ => ?_)
    refine ze_aload (pc := 271) dL_law_271 rfl ?_
    refine ze_aload (pc := 273) dL_law_273 rfl ?_
    refine ze_iload (pc := 275) dL_law_275 rfl ?_
    refine ze_aldGS (pc := 277) (b) dL_law_277 (by repeat (first | assumption | exact hset_eq _ _ _ | rw [hset_ne _ _ (by omega)])) (by rfl) (by omega) (by first | decide | omega) (by exact if_pos hb) ?_
    refine ze_iload (pc := 278) dL_law_278 rfl ?_
    refine ze_ialdN (pc := 280) (a) dL_law_280 (by repeat (first | assumption | exact hset_eq _ _ _ | rw [hset_ne _ _ (by omega)])) (by rfl) (by omega) (by first | decide | omega) ?_
    refine ze_top (gb2 a ha) ?_
    refine ze_aldGS (pc := 281) (mul X b a) dL_law_281 (by repeat (first | assumption | exact hset_eq _ _ _ | rw [hset_ne _ _ (by omega)])) (by rfl) (by omega) (by first | decide | omega) (by exact if_pos m1) ?_
    refine ze_iload (pc := 282) dL_law_282 rfl ?_
    refine ze_ialdN (pc := 284) (d) dL_law_284 (by repeat (first | assumption | exact hset_eq _ _ _ | rw [hset_ne _ _ (by omega)])) (by rfl) (by omega) (by first | decide | omega) ?_
    refine ze_top (gm2 d hd) ?_
    refine ze_aload (pc := 285) dL_law_285 rfl ?_
    refine ze_iload (pc := 287) dL_law_287 rfl ?_
    refine ze_aldGS (pc := 289) (b) dL_law_289 (by repeat (first | assumption | exact hset_eq _ _ _ | rw [hset_ne _ _ (by omega)])) (by rfl) (by omega) (by first | decide | omega) (by exact if_pos hb) ?_
    refine ze_aload (pc := 290) dL_law_290 rfl ?_
    refine ze_iload (pc := 292) dL_law_292 rfl ?_
    refine ze_aldGS (pc := 294) (a) dL_law_294 (by repeat (first | assumption | exact hset_eq _ _ _ | rw [hset_ne _ _ (by omega)])) (by rfl) (by omega) (by first | decide | omega) (by exact if_pos ha) ?_
    refine ze_iload (pc := 295) dL_law_295 rfl ?_
    refine ze_ialdN (pc := 297) (d) dL_law_297 (by repeat (first | assumption | exact hset_eq _ _ _ | rw [hset_ne _ _ (by omega)])) (by rfl) (by omega) (by first | decide | omega) ?_
    refine ze_top (ga2 d hd) ?_
    refine ze_ialdN (pc := 298) (mul X a d) dL_law_298 (by repeat (first | assumption | exact hset_eq _ _ _ | rw [hset_ne _ _ (by omega)])) (by rfl) (by omega) (by first | decide | omega) ?_
    refine ze_top (gb2 _ m2) ?_
    refine zn_icmp_ne (pc := 299) (tgt := 306) dL_law_299 (by decide) (by omega) (by omega) (fun q => ?_) (fun q => ?_)
    · refine zn_iconst (pc := 306) 0 dL_law_306 (by decide) ?_
      refine ze_top (tI_f (P := P ∧ eJ X 1 a b d = lJ X 1 a b d) (fun zz => q zz.2)).symm ?_
      exact fin _ Iff.rfl
    · refine zn_iconst (pc := 302) 1 dL_law_302 (by decide) ?_
      refine ze_goto (pc := 303) (tgt := 307) dL_law_303 (by decide) ?_
      refine ze_top (tI_t (P := P ∧ eJ X 1 a b d = lJ X 1 a b d) ⟨hP, q⟩).symm ?_
      exact fin _ Iff.rfl
  · refine ze_top (hg.trans (tI_f hP)) ?_
    refine zn_if_eq (pc := 268) (tgt := 306) dL_law_268 (by decide) (by omega) (fun _ => ?_) (fun q => absurd rfl q)
    refine zn_iconst (pc := 306) 0 dL_law_306 (by decide) ?_
    refine ze_top (tI_f (P := P ∧ eJ X 1 a b d = lJ X 1 a b d) (fun zz => hP zz.1)).symm ?_
    exact fin _ Iff.rfl
theorem l_nu_2 (hR : Rt h o w tb z2 X) (hk : Wok X) (hq : X.1 ^ X.2.1 ≤ 27) (hi : h ib = some (aZ 4 gi)) (hg : gi 2 = tI P) (ha : a < X.1 ^ X.2.1) (hb : b < X.1 ^ X.2.1) (hd : d < X.1 ^ X.2.1)
    (kk : VS ro ML_law Post (z, c, s) (hset h ib (aZ 4 (upd gi 2 (tI (P ∧ eJ X 2 a b d = lJ X 2 a b d))))) 355 [some (.ref sb), some (.ref o), some (.int (nI r)), some (.ref w), some (.int (nI (X.1 ^ X.2.1))), some (.ref tb), some (v6), some (v7), some (.ref nb), some (.int (nI a)), some (.ref ib), some (.int (nI b)), some (.int (nI d)), none, none, none, none] []) : VS ro ML_law Post (z, c, s) h 308 [some (.ref sb), some (.ref o), some (.int (nI r)), some (.ref w), some (.int (nI (X.1 ^ X.2.1))), some (.ref tb), some (v6), some (v7), some (.ref nb), some (.int (nI a)), some (.ref ib), some (.int (nI b)), some (.int (nI d)), none, none, none, none] [] := by
  obtain ⟨-, ⟨t1, t2⟩, -⟩ := id hR
  have m1 := mul_lt hk b d
  have m2 := mul_lt hk d a
  have m3 := mul_lt hk (mul X b d) a
  have m4 := mul_lt hk b (mul X d a)
  obtain ⟨gd, gd1, gd2⟩ := t2 _ hd
  obtain ⟨gb, gb1, gb2⟩ := t2 _ hb
  obtain ⟨gm, gm1, gm2⟩ := t2 _ m1
  have fin : ∀ Q : Prop, (Q ↔ P ∧ eJ X 2 a b d = lJ X 2 a b d) → VS ro ML_law Post (z, c, s) h 354 [some (.ref sb), some (.ref o), some (.int (nI r)), some (.ref w), some (.int (nI (X.1 ^ X.2.1))), some (.ref tb), some (v6), some (v7), some (.ref nb), some (.int (nI a)), some (.ref ib), some (.int (nI b)), some (.int (nI d)), none, none, none, none] [.int (tI Q), .int (nI 2), .ref ib] := fun Q hQ => by
    refine ze_zastN (pc := 354) 2 dL_law_354 hi rfl (by omega) (by decide) ?_
    rw [tI_nar, tI_c hQ]
    exact kk
  refine ze_aload (pc := 308) dL_law_308 rfl ?_
  refine zn_iconst (pc := 310) 2 dL_law_310 (by decide) ?_
  refine ze_aload (pc := 311) dL_law_311 rfl ?_
  refine zn_iconst (pc := 313) 2 dL_law_313 (by decide) ?_
  refine ze_zaldN (pc := 314) (2) dL_law_314 (by repeat (first | assumption | exact hset_eq _ _ _ | rw [hset_ne _ _ (by omega)])) (by rfl) (by omega) (by first | decide | omega) ?_
  by_cases hP : P
  · refine ze_top (hg.trans (tI_t hP)) ?_
    refine zn_if_eq (pc := 315) (tgt := 353) dL_law_315 (by decide) (by omega) (fun q => absurd q (by omega)) (fun _ => ?_)
    refine ze_aload (pc := 318) dL_law_318 rfl ?_
    refine ze_aload (pc := 320) dL_law_320 rfl ?_
    refine ze_iload (pc := 322) dL_law_322 rfl ?_
    refine ze_aldGS (pc := 324) (b) dL_law_324 (by repeat (first | assumption | exact hset_eq _ _ _ | rw [hset_ne _ _ (by omega)])) (by rfl) (by omega) (by first | decide | omega) (by exact if_pos hb) ?_
    refine ze_iload (pc := 325) dL_law_325 rfl ?_
    refine ze_ialdN (pc := 327) (d) dL_law_327 (by repeat (first | assumption | exact hset_eq _ _ _ | rw [hset_ne _ _ (by omega)])) (by rfl) (by omega) (by first | decide | omega) ?_
    refine ze_top (gb2 d hd) ?_
    refine ze_aldGS (pc := 328) (mul X b d) dL_law_328 (by repeat (first | assumption | exact hset_eq _ _ _ | rw [hset_ne _ _ (by omega)])) (by rfl) (by omega) (by first | decide | omega) (by exact if_pos m1) ?_
    refine ze_iload (pc := 329) dL_law_329 rfl ?_
    refine ze_ialdN (pc := 331) (a) dL_law_331 (by repeat (first | assumption | exact hset_eq _ _ _ | rw [hset_ne _ _ (by omega)])) (by rfl) (by omega) (by first | decide | omega) ?_
    refine ze_top (gm2 a ha) ?_
    refine ze_aload (pc := 332) dL_law_332 rfl ?_
    refine ze_iload (pc := 334) dL_law_334 rfl ?_
    refine ze_aldGS (pc := 336) (b) dL_law_336 (by repeat (first | assumption | exact hset_eq _ _ _ | rw [hset_ne _ _ (by omega)])) (by rfl) (by omega) (by first | decide | omega) (by exact if_pos hb) ?_
    refine ze_aload (pc := 337) dL_law_337 rfl ?_
    refine ze_iload (pc := 339) dL_law_339 rfl ?_
    refine ze_aldGS (pc := 341) (d) dL_law_341 (by repeat (first | assumption | exact hset_eq _ _ _ | rw [hset_ne _ _ (by omega)])) (by rfl) (by omega) (by first | decide | omega) (by exact if_pos hd) ?_
    refine ze_iload (pc := 342) dL_law_342 rfl ?_
    refine ze_ialdN (pc := 344) (a) dL_law_344 (by repeat (first | assumption | exact hset_eq _ _ _ | rw [hset_ne _ _ (by omega)])) (by rfl) (by omega) (by first | decide | omega) ?_
    refine ze_top (gd2 a ha) ?_
    refine ze_ialdN (pc := 345) (mul X d a) dL_law_345 (by repeat (first | assumption | exact hset_eq _ _ _ | rw [hset_ne _ _ (by omega)])) (by rfl) (by omega) (by first | decide | omega) ?_
    refine ze_top (gb2 _ m2) ?_
    refine zn_icmp_ne (pc := 346) (tgt := 353) dL_law_346 (by decide) (by omega) (by omega) (fun q => ?_) (fun q => ?_)
    · refine zn_iconst (pc := 353) 0 dL_law_353 (by decide) ?_
      refine ze_top (tI_f (P := P ∧ eJ X 2 a b d = lJ X 2 a b d) (fun zz => q zz.2)).symm ?_
      exact fin _ Iff.rfl
    · refine zn_iconst (pc := 349) 1 dL_law_349 (by decide) ?_
      refine ze_goto (pc := 350) (tgt := 354) dL_law_350 (by decide) ?_
      refine ze_top (tI_t (P := P ∧ eJ X 2 a b d = lJ X 2 a b d) ⟨hP, q⟩).symm ?_
      exact fin _ Iff.rfl
  · refine ze_top (hg.trans (tI_f hP)) ?_
    refine zn_if_eq (pc := 315) (tgt := 353) dL_law_315 (by decide) (by omega) (fun _ => ?_) (fun q => absurd rfl q)
    refine zn_iconst (pc := 353) 0 dL_law_353 (by decide) ?_
    refine ze_top (tI_f (P := P ∧ eJ X 2 a b d = lJ X 2 a b d) (fun zz => hP zz.1)).symm ?_
    exact fin _ Iff.rfl
end LW1
