/-! ===== a drawn text: field ===== -/
theorem Sz.be {p n : Nat} (h : Sz p n) : canBe p n ∧ n ≤ 4 ∧ p ^ n ≤ 27 ∧ 1 ≤ n ∧ 2 ≤ p ∧ p ≤ 5 := by
  obtain ⟨h1, h2⟩ := h
  have e : p = 2 ∧ n = 1 ∨ p = 2 ∧ n = 2 ∨ p = 2 ∧ n = 3 ∨ p = 2 ∧ n = 4 ∨ p = 3 ∧ n = 1 ∨ p = 3 ∧ n = 2 ∨ p = 3 ∧ n = 3 ∨ p = 5 ∧ n = 1 ∨ p = 5 ∧ n = 2 := by omega
  unfold canBe
  rcases e with ⟨rfl, rfl⟩ | ⟨rfl, rfl⟩ | ⟨rfl, rfl⟩ | ⟨rfl, rfl⟩ | ⟨rfl, rfl⟩ | ⟨rfl, rfl⟩ | ⟨rfl, rfl⟩ | ⟨rfl, rfl⟩ | ⟨rfl, rfl⟩ <;> decide
theorem Fds.cs {n p : Nat} {g : Nat → Int32} (hp : p ≤ 5) (hg : Fds n p g) : ∀ t, t < n → g t = nI ((g t).toNatClampNeg) ∧ (g t).toNatClampNeg < p := fun t ht => by
  obtain ⟨v, v1, v2⟩ := hg t ht
  rw [v2, cl_nI (by omega)]
  exact ⟨rfl, v1⟩
def vsr (cs : Nat → Nat) (d : Nat) : List Nat := (List.range d).map cs
theorem vsr_len (cs : Nat → Nat) (d : Nat) : (vsr cs d).length = d := by unfold vsr; rw [List.length_map, List.length_range]
theorem vsr_succ (cs : Nat → Nat) (d : Nat) : vsr cs (d + 1) = vsr cs d ++ [cs d] := by unfold vsr; rw [List.range_succ, List.map_append]; rfl
theorem vsr_get {cs : Nat → Nat} : ∀ {d t : Nat}, t < d → (vsr cs d).getD t 0 = cs t
  | 0, _, h => absurd h (by omega)
  | d + 1, t, h => by
    rw [vsr_succ]
    by_cases e : t = d
    · subst e
      have := getD_app_r (A := vsr cs t) (B := [cs t]) (j := 0)
      rw [vsr_len] at this
      exact this
    · rw [getD_app_l (by rw [vsr_len]; omega)]
      exact vsr_get (by omega)
theorem vsr_mem {cs : Nat → Nat} {d p : Nat} (h : ∀ t, t < d → cs t < p) : ∀ v ∈ vsr cs d, v < p := fun v hv => by
  unfold vsr at hv
  obtain ⟨t, t1, rfl⟩ := List.mem_map.mp hv
  exact h t (List.mem_range.mp t1)
section LN
variable {ro : RT} {Post : Option Value → AH → Nat → Prop} {h h0 h2 : AH} {o sb fr r z0 z z2 p n many k c s x x2 t t2 fa : Nat} {x0 : Int32} {T T2 : List Nat} {X F X2 : Wd} {hf : Bool} {fv : Value}
theorem Wi.old (hW : Wi h0 h z0 z p n T X F hf x t fv) (e : ∀ q, q < z → h2 q = h q) (hz : z ≤ z2) : Wi h0 h2 z0 z2 p n T X F hf x t fv := by
  obtain ⟨w1, w2, w3, w4, w5, w6, w7, w8, w9, w10, w11, w12⟩ := hW
  exact ⟨w1.kept (e _ (by omega)) (e _ (by omega)), w2, by omega, w4.kept (fun q q1 q2 => e q (by omega)), w5, by omega, w7, w8.kept (Nat.le_refl _) (fun q q1 q2 => e q (by omega)), w9, w10, w11, fun q hq => (e q (by omega)).trans (w12 q hq)⟩
theorem l_fl_i {y : Int32} (hp : 2 ≤ p ∧ p ≤ 5) (hn : n ≤ 4) (hc : c ≤ 3000) (hs : s ≤ 300000)
    (kk : ∀ g, Fds n p g → VS ro ML_world Post (z, c, s) (hset h fa (aI n g)) 228 [some (.ref o), some (.ref sb), some (.int (nI fr)), some (.int (nI r)), none, some (.int x0), none, some (.int (nI p)), some (.int (nI n)), some (.ref x), some (.ref t), some (fv), some (.int (nI many)), some (.int (nI (k))), none, none, some (.ref fa), none, none, none, none, none, none, none, none] []) :
    ∀ (m i : Nat), m = n - i → i ≤ n → ∀ g, Fds n p g → VS ro ML_world Post (z, c, s) (hset h fa (aI n g)) 195 [some (.ref o), some (.ref sb), some (.int (nI fr)), some (.int (nI r)), none, some (.int x0), none, some (.int (nI p)), some (.int (nI n)), some (.ref x), some (.ref t), some (fv), some (.int (nI many)), some (.int (nI (k))), some (.int y), none, some (.ref fa), some (.int (nI i)), none, none, none, none, none, none, none] [] := by
  intro m
  induction m with
  | zero =>
    intro i e3 e4 g hg
    have : i = n := by omega
    subst this
    refine ze_iload (pc := 195) dL_world_195 rfl ?_
    refine ze_iload (pc := 197) dL_world_197 rfl ?_
    refine zn_icmp_ge (pc := 199) (tgt := 228) dL_world_199 (by decide) (by omega) (by omega) (fun cc => ?_) (fun c => absurd c (by omega))
    refine VS.mask [true, true, true, true, false, true, false, true, true, true, true, true, true, true, false, false, true, false, false, false, false, false, false, false, false] ?_
    exact kk g hg
  | succ m ih =>
    intro i e3 e4 g hg
    refine ze_iload (pc := 195) dL_world_195 rfl ?_
    refine ze_iload (pc := 197) dL_world_197 rfl ?_
    refine zn_icmp_ge (pc := 199) (tgt := 228) dL_world_199 (by decide) (by omega) (by omega) (fun c => absurd c (by omega)) (fun cc => ?_)
    refine ze_aload (pc := 202) dL_world_202 rfl ?_
    refine ze_iload (pc := 204) dL_world_204 rfl ?_
    refine ze_iload (pc := 206) dL_world_206 rfl ?_
    refine zn_iconst (pc := 208) 4 dL_world_208 (by decide) ?_
    refine ze_iload (pc := 209) dL_world_209 rfl ?_
    refine zn_iadd (pc := 211) dL_world_211 ?_
    refine ze_ishr (pc := 212) dL_world_212 ?_
    refine zn_iconst (pc := 213) 0 dL_world_213 (by decide) ?_
    refine ze_iload (pc := 214) dL_world_214 rfl ?_
    refine zn_iconst (pc := 216) 1 dL_world_216 (by decide) ?_
    refine zn_isub (pc := 217) dL_world_217 (by omega) ?_
    refine zs_btw (pc := 218) (by omega) (by omega) (by exact Nat.le_of_ble_eq_true rfl) dL_world_218 (by omega) (by omega) (fun v _ hvp => ?_)
    refine ze_iastN (pc := 221) (i) dL_world_221 (by repeat (first | assumption | exact hset_eq _ _ _ | rw [hset_ne _ _ (by omega)])) (by rfl) (by omega) (by first | decide | omega) ?_
    rw [hset_hset]
    refine zn_inc (pc := 222) dL_world_222 rfl (by decide) ?_
    refine ze_goto (pc := 225) (tgt := 195) dL_world_225 (by decide) ?_
    refine ih (i + 1) (by omega) (by omega) _ (fun a ha => ?_)
    unfold upd
    by_cases e : a = i
    · rw [if_pos e]; exact ⟨v, by omega, rfl⟩
    · rw [if_neg e]; exact hg a ha
theorem l_fl_d {cs : Nat → Nat} {g : Nat → Int32} (hL : LTx ro) (hD : DT ro) (hp : 2 ≤ p ∧ p ≤ 5) (hn : n ≤ 4) (hcs : ∀ t, t < n → g t = nI (cs t) ∧ cs t < p) (hl : T.length ≤ 80) (hc : c + 50 ≤ 3000) (hs : s + 10000 ≤ 300000)
    (kk : ∀ z2 h2 t2, fa < z2 → h2 fa = some (aI n g) → Wi h0 h2 z0 z2 p n (T ++ nms (vsr cs n)) X F hf x t2 fv → VS ro ML_world Post (z2, c + 7 * n, s + 1624 * n) h2 309 [some (.ref o), some (.ref sb), some (.int (nI fr)), some (.int (nI r)), none, some (.int x0), none, some (.int (nI p)), some (.int (nI n)), some (.ref x), some (.ref t2), some (fv), some (.int (nI many)), some (.int (nI (k))), none, none, some (.ref fa), none, none, none, none, none, none, none, none] []) :
    ∀ (m d : Nat), m = n - d → d ≤ n → ∀ z h t, fa < z → h fa = some (aI n g) → Wi h0 h z0 z p n (T ++ nms (vsr cs d)) X F hf x t fv → VS ro ML_world Post (z, c + 7 * d, s + 1624 * d) h 262 [some (.ref o), some (.ref sb), some (.int (nI fr)), some (.int (nI r)), none, some (.int x0), none, some (.int (nI p)), some (.int (nI n)), some (.ref x), some (.ref t), some (fv), some (.int (nI many)), some (.int (nI (k))), none, none, some (.ref fa), some (.ref fa), some (.int (nI n)), some (.int (nI d)), none, none, none, none, none] [] := by
  intro m
  induction m with
  | zero =>
    intro d e3 e4 z h t hfz hfa hW
    have : d = n := by omega
    subst this
    refine ze_iload (pc := 262) dL_world_262 rfl ?_
    refine ze_iload (pc := 264) dL_world_264 rfl ?_
    refine zn_icmp_ge (pc := 266) (tgt := 309) dL_world_266 (by decide) (by omega) (by omega) (fun cc => ?_) (fun c => absurd c (by omega))
    refine VS.mask [true, true, true, true, false, true, false, true, true, true, true, true, true, true, false, false, true, false, false, false, false, false, false, false, false] ?_
    exact kk z h t hfz hfa hW
  | succ m ih =>
    intro d e3 e4 z h t hfz hfa hW
    obtain ⟨w1, w2, w3, w4, w5, w6, w7, w8, w9, w10, w11, w12⟩ := id hW
    have hv : ∀ v ∈ vsr cs d, v < p := vsr_mem (fun t ht => (hcs t (by omega)).2)
    have nl := nms_len (vsr cs d) (fun v hq => by have := hv v hq; omega)
    have vl := vsr_len cs d
    obtain ⟨cd1, cd2⟩ := hcs d (by omega)
    have dv := dgn_1 (w := cs d) (by omega)
    refine ze_iload (pc := 262) dL_world_262 rfl ?_
    refine ze_iload (pc := 264) dL_world_264 rfl ?_
    refine zn_icmp_ge (pc := 266) (tgt := 309) dL_world_266 (by decide) (by omega) (by omega) (fun c => absurd c (by omega)) (fun cc => ?_)
    refine ze_aload (pc := 269) dL_world_269 rfl ?_
    refine ze_iload (pc := 271) dL_world_271 rfl ?_
    refine ze_ialdN (pc := 273) (d) dL_world_273 (by repeat (first | assumption | exact hset_eq _ _ _ | rw [hset_ne _ _ (by omega)])) (by rfl) (by omega) (by first | decide | omega) ?_
    refine ze_top cd1 ?_
    refine ze_istore (pc := 274) dL_world_274 (by decide) ?_
    refine zs_new (pc := 276) dL_world_276 dL_world_279 dL_world_280 (by omega) (by omega) (fun h1 hB => ?_)
    refine ze_aload (pc := 283) dL_world_283 rfl ?_
    refine zs_S (pc := 285) hB (w1.str (by omega)) (by simp only [List.length_append, List.length_cons, List.length_nil, dec_len]; omega) dL_world_285 (by omega) (by omega) (fun h1 z1 hB => ?_)
    refine ze_ldcS (pc := 288) (tx := " ") (i := 1) rfl (by decide +kernel) dL_world_288 ?_
    refine zs_S (pc := 290) hB (hL.s (i := 1) (S := [32]) (by decide) rfl) (by simp only [List.length_append, List.length_cons, List.length_nil, dec_len]; omega) dL_world_290 (by omega) (by omega) (fun h1 z1 hB => ?_)
    refine ze_iload (pc := 293) dL_world_293 rfl ?_
    refine zs_N (pc := 295) hD (by omega) hB (by simp only [List.length_append, List.length_cons, List.length_nil, dec_len]; omega) dL_world_295 (by omega) (by omega) (fun h1 z1 hB => ?_)
    refine zs_E (pc := 298) hB dL_world_298 (by omega) (by omega) (fun h4 t4 ht4 hM4 hf4 => ?_)
    refine ze_astore (pc := 301) dL_world_301 (by decide) ?_
    refine zn_inc (pc := 303) dL_world_303 rfl (by decide) ?_
    refine ze_goto (pc := 306) (tgt := 262) dL_world_306 (by decide) ?_
    refine VS.widen (c2 := c + 7 * (d + 1)) (s2 := s + 1624 * (d + 1)) (by first | (dsimp only; omega) | dsimp only) (by first | (dsimp only; omega) | dsimp only) ?_
    have hW3 := hW.txt hf4 ht4 hM4
    rw [show [] ++ (T ++ nms (vsr cs d)) ++ [32] ++ dec (cs d) = T ++ nms (vsr cs (d + 1)) by rw [vsr_succ, nms_snoc]; simp] at hW3
    refine VS.mask [true, true, true, true, false, true, false, true, true, true, true, true, true, true, false, false, true, true, true, true, false, false, false, false, false] ?_
    exact ih (d + 1) (by omega) (by omega) _ _ _ (by omega) ((hf4 fa hfz).trans hfa) hW3
theorem l_w_field {y : Int32} (hL : LTx ro) (hD : DT ro) (hS : Sz p n) (hW : Wi h0 h z0 z p n T X F hf x t fv) (hP : PF T (k + 1) X F hf) (hl : T.length ≤ 60) (hk : k < 4) (hc : c + 250 ≤ 3000) (hs : s + 40000 ≤ 300000)
    (kk : ∀ z2 h2 x2 t2 X2 F2 hf2 fv2 T2, Wi h0 h2 z0 z2 p n T2 X2 F2 hf2 x2 t2 fv2 → PF T2 (k + 2) X2 F2 hf2 → T.length ≤ T2.length → T2.length ≤ T.length + 16 → VS ro ML_world Post (z2, c + 250, s + 40000) h2 107 [some (.ref o), some (.ref sb), some (.int (nI fr)), some (.int (nI r)), none, some (.int x0), none, some (.int (nI p)), some (.int (nI n)), some (.ref x2), some (.ref t2), some (fv2), some (.int (nI many)), some (.int (nI (k + 1))), none, none, none, none, none, none, none, none, none, none, none] []) : VS ro ML_world Post (z, c, s) h 173 [some (.ref o), some (.ref sb), some (.int (nI fr)), some (.int (nI r)), none, some (.int x0), none, some (.int (nI p)), some (.int (nI n)), some (.ref x), some (.ref t), some (fv), some (.int (nI many)), some (.int (nI (k))), some (.int y), some (.int (nI 0)), none, none, none, none, none, none, none, none, none] [] := by
  obtain ⟨hbe, n4, q27, n1, p2, p5⟩ := hS.be
  have go : ∀ g, Fds n p g → VS ro ML_world Post (z + 1, c + 1, s + 4) (hset h z (aI n g)) 228 [some (.ref o), some (.ref sb), some (.int (nI fr)), some (.int (nI r)), none, some (.int x0), none, some (.int (nI p)), some (.int (nI n)), some (.ref x), some (.ref t), some (fv), some (.int (nI many)), some (.int (nI (k))), none, none, some (.ref z), none, none, none, none, none, none, none, none] [] := fun g hg => by
    have hcs := hg.cs p5
    have hW1 : Wi h0 (hset h z (aI n g)) z0 (z + 1) p n T X F hf x t fv := hW.old (fun q hq => hset_ne _ _ (by omega)) (by omega)
    obtain ⟨w1, w2, w3, w4, w5, w6, w7, w8, w9, w10, w11, w12⟩ := id hW1
    have hv : ∀ v ∈ vsr (fun t => (g t).toNatClampNeg) n, v < p := vsr_mem (fun t ht => (hcs t ht).2)
    have nl := nms_len (vsr (fun t => (g t).toNatClampNeg) n) (fun v hq => by have := hv v hq; omega)
    have vl := vsr_len (fun t => (g t).toNatClampNeg) n
    refine zs_new (pc := 228) dL_world_228 dL_world_231 dL_world_232 (by omega) (by omega) (fun h1 hB => ?_)
    refine ze_aload (pc := 235) dL_world_235 rfl ?_
    refine zs_S (pc := 237) hB (w1.str (by omega)) (by simp only [List.length_append, List.length_cons, List.length_nil, dec_len]; omega) dL_world_237 (by omega) (by omega) (fun h1 z1 hB => ?_)
    refine ze_ldcS (pc := 240) (tx := "field") (i := 3) rfl (by decide +kernel) dL_world_240 ?_
    refine zs_S (pc := 242) hB (hL.s (i := 3) (S := [102, 105, 101, 108, 100]) (by decide) rfl) (by simp only [List.length_append, List.length_cons, List.length_nil, dec_len]; omega) dL_world_242 (by omega) (by omega) (fun h1 z1 hB => ?_)
    refine zs_E (pc := 245) hB dL_world_245 (by omega) (by omega) (fun h4 t4 ht4 hM4 hf4 => ?_)
    have hfa : h4 z = some (aI n g) := (hf4 z (by omega)).trans (hset_eq _ _ _)
    have hW2 := hW1.txt hf4 ht4 hM4
    refine ze_astore (pc := 248) dL_world_248 (by decide) ?_
    refine ze_aload (pc := 250) dL_world_250 rfl ?_
    refine ze_astore (pc := 252) dL_world_252 (by decide) ?_
    refine ze_aload (pc := 254) dL_world_254 rfl ?_
    refine ze_alenI (pc := 256) dL_world_256 (by repeat (first | assumption | exact hset_eq _ _ _ | rw [hset_ne _ _ (by omega)])) ?_
    refine ze_istore (pc := 257) dL_world_257 (by decide) ?_
    refine zn_iconst (pc := 259) 0 dL_world_259 (by decide) ?_
    refine ze_istore (pc := 260) dL_world_260 (by decide) ?_
    refine VS.widen (c2 := c + 7 + 7 * 0) (s2 := s + 1228 + 1624 * 0) (by first | (dsimp only; omega) | dsimp only) (by first | (dsimp only; omega) | dsimp only) ?_
    refine VS.mask [true, true, true, true, false, true, false, true, true, true, true, true, true, true, false, false, true, true, true, true, false, false, false, false, false] ?_
    refine l_fl_d (cs := fun t => (g t).toNatClampNeg) (T := [] ++ T ++ [102, 105, 101, 108, 100]) hL hD ⟨p2, p5⟩ n4 hcs (by simp only [List.length_append, List.length_cons, List.length_nil]; omega) (by omega) (by omega) (fun z5 h5 t5 hz5 hfa5 hW5 => ?_) n 0 (by omega) (by omega) _ _ _ (by omega) hfa (by rw [show nms (vsr (fun t => (g t).toNatClampNeg) 0) = [] from rfl, List.append_nil]; exact hW2)
    obtain ⟨a1, a2, a3, a4, a5, a6, a7, a8, a9, a10, a11, a12⟩ := id hW5
    refine ze_iload (pc := 309) dL_world_309 rfl ?_
    refine ze_iload (pc := 311) dL_world_311 rfl ?_
    refine ze_aload (pc := 313) dL_world_313 rfl ?_
    refine ze_callS (pc := 315) (c_L_field (zq := z5) hbe n4 q27 hcs hfa5 hz5) bL_field q_st_L_field q_m_L_84 dL_world_315 rfl rfl (by exact Nat.le_of_ble_eq_true rfl) ⟨by decide, by decide⟩ ⟨by show _ + 80 ≤ 3000; first | omega | (dsimp only; omega) | dsimp only | exact Nat.le_of_ble_eq_true rfl, by show _ + 1200 ≤ 300000; first | omega | (dsimp only; omega) | dsimp only | exact Nat.le_of_ble_eq_true rfl⟩ (fun rr h6 z6 hp => ?_)
    (try dsimp only [MI.mc, MI.ms, ML_field, Nat.add_zero])
    obtain ⟨rfl, hT6, hz6, hf6⟩ := hp
    obtain ⟨tb6, t61, t62, t63, t64⟩ := id hT6
    obtain ⟨u61, -⟩ := id t61
    refine ze_astore (pc := 318) dL_world_318 (by decide) ?_
    refine ze_aload (pc := 320) dL_world_320 rfl ?_
    refine ze_callV (pc := 322) (c_X11_copy (zq := z6) t61 (by omega) ⟨p2, p5⟩ (show n ≤ 5 by omega)) bX11_copy q_i_X11_copy q_s_X11_copy q_m_L_87 dL_world_322 rfl rfl (by repeat (first | assumption | exact hset_eq _ _ _ | rw [hset_ne _ _ (by omega)])) rfl rfl (by exact Nat.le_of_ble_eq_true rfl) ⟨by decide, by decide⟩ ⟨by show _ + 32 ≤ 3000; first | omega | (dsimp only; omega) | dsimp only | exact Nat.le_of_ble_eq_true rfl, by show _ + 160 ≤ 300000; first | omega | (dsimp only; omega) | dsimp only | exact Nat.le_of_ble_eq_true rfl⟩ (fun rr h7 z7 hp => ?_)
    (try dsimp only [MI.mc, MI.ms, MX11_copy, Nat.add_zero])
    obtain ⟨rfl, rfl, hX7, hf7⟩ := hp
    refine ze_astore (pc := 325) dL_world_325 (by decide) ?_
    refine ze_goto (pc := 327) (tgt := 791) dL_world_327 (by decide) ?_
    refine VS.widen (c2 := c + 160) (s2 := s + 10000) (by first | (dsimp only; omega) | dsimp only) (by first | (dsimp only; omega) | dsimp only) ?_
    refine VS.mask [true, true, true, true, false, true, false, true, true, true, true, true, true, true, false, false, false, false, false, false, false, false, false, false, false] ?_
    have hW7 : Wi h0 h7 z0 (z6 + 32) p n ([] ++ T ++ [102, 105, 101, 108, 100] ++ nms (vsr (fun t => (g t).toNatClampNeg) n)) (polyW p n (fun t => (g t).toNatClampNeg)) (polyW p n (fun t => (g t).toNatClampNeg)) true z6 t5 (.ref z5) := by
      have e7 : ∀ q, q < z5 → h7 q = h5 q := fun q hq => (hf7 q (by omega)).trans (hf6 q hq)
      exact ⟨a1.kept (e7 _ (by omega)) (e7 _ (by omega)), a2, by omega, hX7, by omega, by omega, Or.inl (by omega), Or.inr ⟨z5, z6, rfl, rfl, hT6.kept (Nat.le_refl _) (fun q q1 q2 => hf7 q (by omega)), by omega, Nat.le_refl _, rfl, rfl, polyW_ok hbe⟩, rfl, rfl, polyW_ok hbe, fun q hq => (e7 q (by omega)).trans (a12 q hq)⟩
    refine l_w_tail hL hW7 (by simp only [List.length_append, List.length_cons, List.length_nil]; omega) (by omega) (by omega) (fun z8 h8 t8 hW8 => ?_)
    have hlen : ([] ++ T ++ [102, 105, 101, 108, 100] ++ nms (vsr (fun t => (g t).toNatClampNeg) n) ++ [32, 59]).length ≤ T.length + 16 := by simp only [List.length_append, List.length_cons, List.length_nil]; omega
    have eT : [] ++ T ++ [102, 105, 101, 108, 100] ++ nms (vsr (fun t => (g t).toNatClampNeg) n) ++ [32, 59] = T ++ stx 0 2 (vsr (fun t => (g t).toNatClampNeg) n) 1 := by simp [stx, wd]
    rw [eT] at hlen hW8
    refine VS.widen (c2 := c + 250) (s2 := s + 40000) (by first | (dsimp only; omega) | dsimp only) (by first | (dsimp only; omega) | dsimp only) ?_
    refine kk _ _ _ _ _ _ _ _ _ hW8 ?_ (by rw [List.length_append]; omega) hlen
    have eX : sWn X F 2 (vsr (fun t => (g t).toNatClampNeg) n) = polyW p n (fun t => (g t).toNatClampNeg) := by
      show polyW X.1 X.2.1 (fun t => (vsr (fun t => (g t).toNatClampNeg) n).getD t 0) = _
      rw [w9, w10]
      exact polyW_congr (fun t ht => vsr_get ht)
    have := PF.step (b := 0) (c := 1) (k := 2) (ns := vsr (fun t => (g t).toNatClampNeg) n) hP (by decide) ⟨fun q => by omega, fun q => by omega⟩ (by omega) (fun q => by omega) ⟨fun v hv' => by have := hv v hv'; omega, by show _ = X.2.1; omega, fun q hq => ?_⟩
    · rw [eX] at this
      exact this
    · show _ < X.1
      rw [w9]
      exact hv _ (getD_mem hq)
  refine ze_iload (pc := 173) dL_world_173 rfl ?_
  refine ze_iload (pc := 175) dL_world_175 rfl ?_
  refine ze_callS (pc := 177) (c_L_goodField (zq := z) hS) bL_goodField q_st_L_goodField q_m_L_78 dL_world_177 rfl rfl (by exact Nat.le_of_ble_eq_true rfl) ⟨by decide, by decide⟩ ⟨by show _ + 1 ≤ 3000; first | omega | (dsimp only; omega) | dsimp only | exact Nat.le_of_ble_eq_true rfl, by show _ + 4 ≤ 300000; first | omega | (dsimp only; omega) | dsimp only | exact Nat.le_of_ble_eq_true rfl⟩ (fun rr h6 z6 hp => ?_)
  (try dsimp only [MI.mc, MI.ms, ML_goodField, Nat.add_zero])
  obtain ⟨rfl, rfl, g, rfl, hg⟩ := hp
  refine VS.widen (c2 := c + 1) (s2 := s + 4) (by first | (dsimp only; omega) | dsimp only) (by first | (dsimp only; omega) | dsimp only) ?_
  refine ze_astore (pc := 180) dL_world_180 (by decide) ?_
  refine ze_iload (pc := 182) dL_world_182 rfl ?_
  refine zn_iconst (pc := 184) 3 dL_world_184 (by decide) ?_
  refine ze_ishr (pc := 185) dL_world_185 ?_
  refine zn_bipush (pc := 186) 7 dL_world_186 (by decide) ?_
  refine ze_iand (pc := 188) dL_world_188 ?_
  refine ze_if_ne (pc := 189) (tgt := 228) dL_world_189 (by decide) (fun cc => ?_) (fun cc => ?_)
  · refine VS.mask [true, true, true, true, false, true, false, true, true, true, true, true, true, true, false, false, true, false, false, false, false, false, false, false, false] ?_
    exact go g hg
  · refine zn_iconst (pc := 192) 0 dL_world_192 (by decide) ?_
    refine ze_istore (pc := 193) dL_world_193 (by decide) ?_
    refine VS.mask [true, true, true, true, false, true, false, true, true, true, true, true, true, true, true, false, true, true, false, false, false, false, false, false, false] ?_
    exact l_fl_i (z := z + 1) ⟨p2, p5⟩ n4 (by omega) (by omega) go n 0 (by omega) (by omega) g hg
end LN
