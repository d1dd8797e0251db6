/-! ===== world: a text is drawn, told, and read by the class ===== -/
/-- what world leaves behind -/
def WPost (sx sy : Sx) (ik : Bool) (o r zq : Nat) (h : AH) (rr : Option Value) (h' : AH) (z : Nat) : Prop := ∃ (w : Nat) (X : Wd) (tb : Nat) (ft2 fp2 : Int32) (f2 : Nat → Nat), rr = some (.ref w) ∧ LW h' w X (.ref tb) ∧ Tb h' tb (X.1 ^ X.2.1) (mul X) ∧ Wok X ∧ X.1 ^ X.2.1 ≤ 27 ∧ X.2.1 ≤ 4 ∧ zq ≤ w ∧ w + 31 < tb ∧ tb + X.1 ^ X.2.1 < z ∧ XAt h' o (sx.tellW r X) sy ik 0 f2 ft2 fp2 ∧ ∀ q, q < zq → (q < o ∨ o + 303 ≤ q) → h' q = h q
section LQ
variable {ro : RT} {h0 : AH} {o sb fr r zq p n many c s sL : Nat} {x0 : Int32} {xs : Nat → Int32} {sx sy : Sx} {ik : Bool} {f : Nat → Nat} {ft fp : Int32}
theorem l_wr_end (hS : Sz p n) (hX : XAt h0 o sx sy ik 0 f ft fp) (ho : o + 303 ≤ zq) (hr : r < 6) (hm : many ≤ 4) (hc : c + 100 ≤ 3000) (hs : s + 1000 ≤ 300000) :
    ∀ z h x t X F hf fv T, Wi h0 h zq z p n T X F hf x t fv → PF T (many + 1) X F hf → T.length ≤ 80 → 10 ≤ T.length → VS ro ML_world (WPost sx sy ik o r zq h0) (z, c, s) h 819 [some (.ref o), some (.ref sb), some (.int (nI fr)), some (.int (nI r)), none, some (.int x0), none, some (.int (nI p)), some (.int (nI n)), some (.ref x), some (.ref t), some (fv), some (.int (nI many)), some (.int (nI (many))), none, none, none, none, none, none, none, none, none, none, none] [] := by
  intro z h x t X F hf fv T hW hP hl hl0
  obtain ⟨hbe, n4, q27, n1, p2, p5⟩ := hS.be
  obtain ⟨w1, w2, w3, w4, w5, w6, w7, w8, w9, w10, w11, w12⟩ := id hW
  have hq : X.1 ^ X.2.1 = p ^ n := by rw [w9, w10]
  have hX2 : XAt h o sx sy ik 0 f ft fp := hX.far (fun q q1 q2 => w12 q (by omega))
  refine ze_aload_n (pc := 819) dL_world_819 rfl rfl ?_
  refine ze_aload (pc := 820) dL_world_820 rfl ?_
  refine ze_callS (pc := 822) (c_L_say (zq := z) hX2 w1 w3 (by omega) (show T.length ≤ 100 by omega) (by omega)) bL_say q_st_L_say q_m_L_125 dL_world_822 rfl rfl (by exact Nat.le_of_ble_eq_true rfl) ⟨by decide, by decide⟩ ⟨by show _ + 20 ≤ 3000; first | omega | (dsimp only; omega) | dsimp only | exact Nat.le_of_ble_eq_true rfl, by show _ + 100 ≤ 300000; first | omega | (dsimp only; omega) | dsimp only | exact Nat.le_of_ble_eq_true rfl⟩ (fun rr h3 z3 hp => ?_)
  (try dsimp only [MI.mc, MI.ms, ML_say, Nat.add_zero])
  obtain ⟨rfl, z31, z32, ⟨f2, hX3, hf2⟩, hq3⟩ := hp
  obtain ⟨x1, -⟩ := id hX3
  refine ze_aload_n (pc := 825) dL_world_825 rfl rfl ?_
  refine ze_iload_n (pc := 826) dL_world_826 rfl rfl ?_
  refine zn_V (pc := 827) ((c_X10_text hX3 (nI r)).toS) bX10_text q_i_X10_text q_s_X10_text q_m_L_129 dL_world_827 rfl rfl (by repeat (first | assumption | exact hset_eq _ _ _ | rw [hset_ne _ _ (by omega)])) rfl rfl (by exact Nat.le_of_ble_eq_true rfl) ⟨by decide, by decide⟩ ⟨rfl, rfl, by show _ ≤ 3000; first | omega | (dsimp only; omega) | dsimp only | exact Nat.le_of_ble_eq_true rfl, by show _ ≤ 300000; first | omega | (dsimp only; omega) | dsimp only | exact Nat.le_of_ble_eq_true rfl⟩ (fun v h4 hp => ?_)
  obtain ⟨x2, ft2, fp2, hQ, hX4, hE⟩ := hp
  have e4 : ∀ q, q < z → (q < o ∨ o + 303 ≤ q) → h4 q = h q := fun q q1 q2 => (hE q q2).trans (hq3 q q1 q2)
  have w44 := w4.kept (h2 := h4) (fun q q1 q2 => e4 q (by omega) (by omega))
  obtain ⟨u1, -⟩ := id w44
  have hfin := PF.fin hP (by omega) hf2
  have hQ2 := q_then (ok6 hr) hQ
  rw [hfin] at hQ2
  obtain ⟨v1, v2, -, -⟩ := hQ2
  rw [cl_nI (by omega)] at v2
  subst v1
  subst v2
  refine ze_aload (pc := 830) dL_world_830 rfl ?_
  refine ze_getN (pc := 832) (kf := 2) rfl (by decide) (by decide) rfl dL_world_832 (by repeat (first | assumption | exact hset_eq _ _ _ | rw [hset_ne _ _ (by omega)])) (by rfl) ?_
  refine zn_icmp_eq (pc := 835) (tgt := 840) dL_world_835 (by decide) (by omega) (by omega) (fun c => ?_) (fun c => absurd c (by omega))
  refine ze_aload (pc := 840) dL_world_840 rfl ?_
  refine ze_callV (pc := 842) (c_X11_lays (zq := z3) w44 w11 (by omega) (by omega)) bX11_lays q_i_X11_lays q_s_X11_lays q_m_L_39 dL_world_842 rfl rfl (by repeat (first | assumption | exact hset_eq _ _ _ | rw [hset_ne _ _ (by omega)])) rfl rfl (by exact Nat.le_of_ble_eq_true rfl) ⟨by decide, by decide⟩ ⟨by show _ + 30 ≤ 3000; first | omega | (dsimp only; omega) | dsimp only | exact Nat.le_of_ble_eq_true rfl, by show _ + 800 ≤ 300000; first | omega | (dsimp only; omega) | dsimp only | exact Nat.le_of_ble_eq_true rfl⟩ (fun rr h5 z5 hp => ?_)
  (try dsimp only [MI.mc, MI.ms, MX11_lays, Nat.add_zero])
  obtain ⟨rfl, rfl, k1, k2, k3⟩ := hp
  refine ze_aload (pc := 845) dL_world_845 rfl ?_
  refine ze_aretR dL_world_847 (Or.inl ⟨_, rfl⟩) ⟨by show _ ≤ 3000; first | omega | (dsimp only; omega), by show _ ≤ 300000; first | omega | (dsimp only; omega)⟩ ⟨x, X, z3, ft2, fp2, f2, rfl, k1, k2, w11, by omega, by omega, w5, by omega, by show z3 + X.1 ^ X.2.1 < z3 + X.1 ^ X.2.1 + 2; omega, hX4.far (fun q q1 q2 => k3 q (by omega) (by omega)), fun q q1 q2 => (k3 q (by omega) (by omega)).trans ((e4 q (by omega) q2).trans (w12 q q1))⟩
theorem c_L_world (hL : LTx ro) (hD : DT ro) (hsb : ro.1 sb = some (aI sL xs)) (hsL : sL ≤ 260) (hfr : fr ≤ 100) (hX : XAt h0 o sx sy ik 0 f ft fp) (ho : o + 303 ≤ zq) (hr : r < 6) : CnS ro yL_world ML_world [.ref o, .ref sb, .int (nI fr), .int (nI r), .int (nI 9)] zq h0 (WPost sx sy ik o r zq h0) := by
  refine CnS.ofVS (by decide) rfl (fun q => by cases q) (by simp [Value.category]) (by exact Nat.le_of_ble_eq_true rfl) ?_
  refine ze_aload_n (pc := 0) dL_world_0 rfl rfl ?_
  refine ze_iload_n (pc := 1) dL_world_1 rfl rfl ?_
  refine zn_S (pc := 2) (c_L_cell hsb hsL (show fr < 1000 by omega)) bL_cell q_st_L_cell q_m_L_44 dL_world_2 rfl rfl (by exact Nat.le_of_ble_eq_true rfl) ⟨by decide, by decide⟩ ⟨rfl, rfl, by show _ ≤ 3000; first | omega | (dsimp only; omega) | dsimp only | exact Nat.le_of_ble_eq_true rfl, by show _ ≤ 300000; first | omega | (dsimp only; omega) | dsimp only | exact Nat.le_of_ble_eq_true rfl⟩ (fun x0 h9 hp => ?_)
  rw [hp]
  refine ze_istore (pc := 5) dL_world_5 (by decide) ?_
  refine ze_callS (pc := 7) (c_L_SIZES (zq := zq)) bL_SIZES q_st_L_SIZES q_m_L_50 dL_world_7 rfl rfl (by exact Nat.le_of_ble_eq_true rfl) ⟨by decide, by decide⟩ ⟨by show _ + 10 ≤ 3000; first | omega | (dsimp only; omega) | dsimp only | exact Nat.le_of_ble_eq_true rfl, by show _ + 27 ≤ 300000; first | omega | (dsimp only; omega) | dsimp only | exact Nat.le_of_ble_eq_true rfl⟩ (fun rr h1 z1 hp => ?_)
  (try dsimp only [MI.mc, MI.ms, ML_SIZES, Nat.add_zero])
  obtain ⟨rfl, rfl, ⟨s1, s2⟩, hf1⟩ := hp
  refine ze_iload (pc := 10) dL_world_10 rfl ?_
  refine zn_iconst (pc := 12) 0 dL_world_12 (by decide) ?_
  refine ze_iload (pc := 13) dL_world_13 rfl ?_
  refine zn_iconst (pc := 15) 1 dL_world_15 (by decide) ?_
  refine zn_isub (pc := 16) dL_world_16 (by omega) ?_
  refine VS.widen (c2 := 10) (s2 := 27) (by first | (dsimp only; omega) | dsimp only) (by first | (dsimp only; omega) | dsimp only) ?_
  refine zs_btw (pc := 17) (by omega) (by omega) (by exact Nat.le_of_ble_eq_true rfl) dL_world_17 (by omega) (by omega) (fun i _ hi => ?_)
  obtain ⟨g, p, n, g1, g2, g3, hS⟩ := s2 i (by omega)
  obtain ⟨hbe, n4, q27, n1, p2, p5⟩ := hS.be
  refine ze_aldGS (pc := 20) (i) dL_world_20 (by repeat (first | assumption | exact hset_eq _ _ _ | rw [hset_ne _ _ (by omega)])) (by rfl) (by omega) (by first | decide | omega) (by exact if_pos (show i < 9 by omega)) ?_
  refine ze_astore (pc := 21) dL_world_21 (by decide) ?_
  refine ze_aload (pc := 23) dL_world_23 rfl ?_
  refine zn_iconst (pc := 25) 0 dL_world_25 (by decide) ?_
  refine ze_ialdN (pc := 26) (0) dL_world_26 (by repeat (first | assumption | exact hset_eq _ _ _ | rw [hset_ne _ _ (by omega)])) (by rfl) (by omega) (by first | decide | omega) ?_
  refine ze_top g2 ?_
  refine ze_istore (pc := 27) dL_world_27 (by decide) ?_
  refine ze_aload (pc := 29) dL_world_29 rfl ?_
  refine zn_iconst (pc := 31) 1 dL_world_31 (by decide) ?_
  refine ze_ialdN (pc := 32) (1) dL_world_32 (by repeat (first | assumption | exact hset_eq _ _ _ | rw [hset_ne _ _ (by omega)])) (by rfl) (by omega) (by first | decide | omega) ?_
  refine ze_top g3 ?_
  refine ze_istore (pc := 33) dL_world_33 (by decide) ?_
  refine ze_new (pc := 35) nw_L_28 dL_world_35 ⟨by show 10 + 1 ≤ 3000; omega, by show 27 + 5 ≤ 300000; omega⟩ ?_
  dsimp only
  refine ze_dup (pc := 38) dL_world_38 rfl ?_
  refine ze_callIN (pc := 39) (host := "NeedNotJoinLaw") (c_X11_init (w := zq + 10) (hset_eq _ _ _)) bX11_init rfl rfl q_i_X11_init (by decide) dL_world_39 rfl rfl (by exact Nat.le_of_ble_eq_true rfl) ⟨by decide, by decide⟩ ⟨by show _ + 31 ≤ 3000; first | omega | (dsimp only; omega) | dsimp only | exact Nat.le_of_ble_eq_true rfl, by show _ + 155 ≤ 300000; first | omega | (dsimp only; omega) | dsimp only | exact Nat.le_of_ble_eq_true rfl⟩ (fun rr h2 z2 hp => ?_)
  (try dsimp only [MI.mc, MI.ms, MX11_init, Nat.add_zero])
  obtain ⟨rfl, rfl, hL2, hf2⟩ := hp
  obtain ⟨l1, l2⟩ := hL2
  refine ze_astore (pc := 42) dL_world_42 (by decide) ?_
  refine ze_aload (pc := 44) dL_world_44 rfl ?_
  refine ze_iload (pc := 46) dL_world_46 rfl ?_
  refine ze_iload (pc := 48) dL_world_48 rfl ?_
  refine zn_Vv (pc := 50) (c_X11_sizes l1 ⟨p2, p5⟩ (show n ≤ 5 by omega)) bX11_sizes q_i_X11_sizes q_s_X11_sizes q_m_L_31 dL_world_50 rfl rfl (by repeat (first | assumption | exact hset_eq _ _ _ | rw [hset_ne _ _ (by omega)])) rfl rfl (by exact Nat.le_of_ble_eq_true rfl) ⟨by decide, by decide⟩ ⟨rfl, rfl, by show _ ≤ 3000; first | omega | (dsimp only; omega) | dsimp only | exact Nat.le_of_ble_eq_true rfl, by show _ ≤ 300000; first | omega | (dsimp only; omega) | dsimp only | exact Nat.le_of_ble_eq_true rfl⟩ (fun h3 hp => ?_)
  rw [hp]
  have hB3 : ∀ q, q < zq → hset h2 (zq + 10) (ob 10 [.int (nI p), .int (nI n), .int (nI (p ^ n)), .ref (zq + 10 + 1), .null]) q = h0 q := fun q hq => by rw [hset_ne _ _ (by omega), hf2 q (by omega), hset_ne _ _ (by omega), hf1 q hq]
  have hX3 : LW (hset h2 (zq + 10) (ob 10 [.int (nI p), .int (nI n), .int (nI (p ^ n)), .ref (zq + 10 + 1), .null])) (zq + 10) (p, n, fun _ => 0) .null := ⟨hset_eq _ _ _, l2.kept (fun q q1 q2 => hset_ne _ _ (by omega))⟩
  have dp := dgn_1 (w := p) (by omega)
  have dn := dgn_1 (w := n) (by omega)
  have hk0 : Wok (p, n, fun _ => 0) := ⟨hbe.1, hbe.2.1, hbe.2.2.1, hbe.2.2.2, fun _ => ⟨by show 0 < p; omega, fun _ => rfl⟩⟩
  refine VS.widen (c2 := 50) (s2 := 300) (by first | (dsimp only; omega) | dsimp only) (by first | (dsimp only; omega) | dsimp only) ?_
  dsimp only
  refine zs_new (pc := 53) dL_world_53 dL_world_56 dL_world_57 (by omega) (by omega) (fun h1 hB => ?_)
  refine ze_ldcS (pc := 60) (tx := "order ") (i := 0) rfl (by decide +kernel) dL_world_60 ?_
  refine zs_S (pc := 62) hB (hL.s (i := 0) (S := [111, 114, 100, 101, 114, 32]) (by decide) rfl) (by simp only [List.length_append, List.length_cons, List.length_nil, dec_len]; omega) dL_world_62 (by omega) (by omega) (fun h1 z1 hB => ?_)
  refine ze_iload (pc := 65) dL_world_65 rfl ?_
  refine zs_N (pc := 67) hD (by omega) hB (by simp only [List.length_append, List.length_cons, List.length_nil, dec_len]; omega) dL_world_67 (by omega) (by omega) (fun h1 z1 hB => ?_)
  refine ze_ldcS (pc := 70) (tx := " ") (i := 1) rfl (by decide +kernel) dL_world_70 ?_
  refine zs_S (pc := 72) hB (hL.s (i := 1) (S := [32]) (by decide) rfl) (by simp only [List.length_append, List.length_cons, List.length_nil, dec_len]; omega) dL_world_72 (by omega) (by omega) (fun h1 z1 hB => ?_)
  refine ze_iload (pc := 75) dL_world_75 rfl ?_
  refine zs_N (pc := 77) hD (by omega) hB (by simp only [List.length_append, List.length_cons, List.length_nil, dec_len]; omega) dL_world_77 (by omega) (by omega) (fun h1 z1 hB => ?_)
  refine ze_ldcS (pc := 80) (tx := ";") (i := 2) rfl (by decide +kernel) dL_world_80 ?_
  refine zs_S (pc := 82) hB (hL.s (i := 2) (S := [59]) (by decide) rfl) (by simp only [List.length_append, List.length_cons, List.length_nil, dec_len]; omega) dL_world_82 (by omega) (by omega) (fun h1 z1 hB => ?_)
  refine zs_E (pc := 85) hB dL_world_85 (by omega) (by omega) (fun h4 t4 ht4 hM4 hf4 => ?_)
  refine ze_astore (pc := 88) dL_world_88 (by decide) ?_
  refine ze_null (pc := 90) dL_world_90 ?_
  refine ze_astoreN (pc := 91) dL_world_91 (by decide) ?_
  refine ze_iload (pc := 93) dL_world_93 rfl ?_
  refine zn_iconst (pc := 95) 5 dL_world_95 (by decide) ?_
  refine ze_ishr (pc := 96) dL_world_96 ?_
  refine zn_iconst (pc := 97) 1 dL_world_97 (by decide) ?_
  refine zn_iconst (pc := 98) 4 dL_world_98 (by decide) ?_
  refine zs_btw (pc := 99) (by omega) (by omega) (by exact Nat.le_of_ble_eq_true rfl) dL_world_99 (by omega) (by omega) (fun many _ hm => ?_)
  refine ze_istore (pc := 102) dL_world_102 (by decide) ?_
  refine zn_iconst (pc := 104) 0 dL_world_104 (by decide) ?_
  refine ze_istore (pc := 105) dL_world_105 (by decide) ?_
  refine VS.widen (c2 := 100 + 250 * 0) (s2 := 4000 + 40000 * 0) (by first | (dsimp only; omega) | dsimp only) (by first | (dsimp only; omega) | dsimp only) ?_
  refine VS.mask [true, true, true, true, false, true, false, true, true, true, true, true, true, true, false, false, false, false, false, false, false, false, false, false, false] ?_
  have hW : Wi h0 h4 zq (t4 + 2) p n ([] ++ [111, 114, 100, 101, 114, 32] ++ dec p ++ [32] ++ dec n ++ [59]) (p, n, fun _ => 0) (2, 1, fun _ => 0) false (zq + 10) t4 .null := ⟨hM4, by omega, by omega, hX3.kept (fun q q1 q2 => hf4 q (by omega)), by omega, by omega, Or.inr (by omega), Or.inl ⟨rfl, rfl⟩, rfl, rfl, hk0, fun q hq => (hf4 q (by omega)).trans (hB3 q hq)⟩
  have hlen : ([] ++ [111, 114, 100, 101, 114, 32] ++ dec p ++ [32] ++ dec n ++ [59]).length = 10 := by simp only [List.length_append, List.length_cons, List.length_nil, dec_len]; omega
  have hP := PF.step (b := 0) (c := 0) (k := 0) (ns := [p, n]) PF.start (by decide) ⟨fun _ => rfl, fun _ => rfl⟩ (by omega) (fun q => by omega) ⟨fun v hv' => ?_, rfl, hbe⟩
  · have eT : [] ++ [111, 114, 100, 101, 114, 32] ++ dec p ++ [32] ++ dec n ++ [59] = [] ++ stx 0 0 [p, n] 0 := by simp [stx, wd, nms]
    rw [← eT] at hP
    refine l_w_loop hL hD hS hsb hsL hfr hm (by omega) (by omega) ?_ many 0 (by omega) (by omega) _ _ _ _ _ _ _ _ _ hW hP (by omega) (by omega)
    exact l_wr_end hS hX ho hr hm (by omega) (by omega)
  · rcases List.mem_cons.mp hv' with rfl | hv'
    · omega
    · rw [List.mem_singleton.mp hv']; omega
end LQ
