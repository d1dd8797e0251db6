/-! ===== the law: round by round ===== -/
theorem nw_L_19 : NW RL 19 9 11 fzX10 := ⟨RX10, TX10, tyX10, rfl, uX10, tyX10_ok, q_cl_L_19, q_ib_X10, q_in_X10, by decide⟩
theorem tellW_ws {x : Sx} {r : Nat} {W : Wd} : (x.tellW r W).ws r = W := by
  unfold Sx.tellW
  split
  · exact if_pos rfl
  · exact if_pos rfl
theorem tellW_dn {x : Sx} {r : Nat} {W : Wd} (h : x.dn < 20) : (x.tellW r W).dn = x.dn + 1 := by
  unfold Sx.tellW
  rw [if_neg (by omega)]
  rfl
theorem okI_m1 (q : Nat) : okI (-1) q = false := by
  unfold okI
  rw [decide_eq_true (show (-1 : Int32) < 0 by decide)]
  rfl
section MA
variable {ro : RT} {Post : Option Value → AH → Nat → Prop} {h h2 : AH} {sb o r w tb z z0 z2 c s len da sL : Nat} {x y : Sx} {X : Wd} {ik : Bool} {f : Nat → Nat} {ft fp : Int32} {g xs : Nat → Int32}
theorem l_ck (hd : Du X g 15) (hx : x.ws r = X) (hr : r < 6) (hda : o + 303 ≤ da) (hg : h da = some (aI 15 g)) (hc : c ≤ 600000) (hs : s ≤ 7302250)
    (kk : ∀ h2, SmI h h2 o x y ik len f ft fp → VS ro ML_law Post (z, c, s) h2 880 [some (.ref sb), some (.ref o), some (.int (nI r)), some (.ref w), some (.int (nI (X.1 ^ X.2.1))), some (.ref tb), none, none, none, none, none, none, none, none, none, none, none] []) :
    ∀ (m k : Nat), m = 15 - k → k ≤ 15 → ∀ h2, SmI h h2 o x y ik len f ft fp → VS ro ML_law Post (z, c, s) h2 849 [some (.ref sb), some (.ref o), some (.int (nI r)), some (.ref w), some (.int (nI (X.1 ^ X.2.1))), some (.ref tb), none, none, none, none, none, some (.ref da), some (.int (nI k)), none, none, none, none] [] := by
  intro m
  induction m with
  | zero =>
    intro k e1 e2 h2 hI
    have : k = 15 := by omega
    subst this
    have g1 : h2 da = some (aI 15 g) := (hI.2 da (Or.inr hda)).trans hg
    refine ze_iload (pc := 849) dL_law_849 rfl ?_
    refine ze_aload (pc := 851) dL_law_851 rfl ?_
    refine ze_alenI (pc := 853) dL_law_853 (by repeat (first | assumption | exact hset_eq _ _ _ | rw [hset_ne _ _ (by omega)])) ?_
    refine zn_icmp_ge (pc := 854) (tgt := 880) dL_law_854 (by decide) (by omega) (by omega) (fun cc => ?_) (fun c => absurd c (by omega))
    refine VS.mask [true, true, true, true, true, true, false, false, false, false, false, false, false, false, false, false, false] ?_
    exact kk h2 hI
  | succ m ih =>
    intro k e1 e2 h2 hI
    have g1 : h2 da = some (aI 15 g) := (hI.2 da (Or.inr hda)).trans hg
    obtain ⟨x1, -⟩ := id hI.1
    refine ze_iload (pc := 849) dL_law_849 rfl ?_
    refine ze_aload (pc := 851) dL_law_851 rfl ?_
    refine ze_alenI (pc := 853) dL_law_853 (by repeat (first | assumption | exact hset_eq _ _ _ | rw [hset_ne _ _ (by omega)])) ?_
    refine zn_icmp_ge (pc := 854) (tgt := 880) dL_law_854 (by decide) (by omega) (by omega) (fun c => absurd c (by omega)) (fun cc => ?_)
    refine ze_aload_n (pc := 857) dL_law_857 rfl rfl ?_
    refine ze_iload_n (pc := 858) dL_law_858 rfl rfl ?_
    refine ze_iload (pc := 859) dL_law_859 rfl ?_
    refine zn_V (pc := 861) ((c_X10_of hI.1 (nI r) (nI k)).toS) bX10_of q_i_X10_of q_s_X10_of q_m_L_160 dL_law_861 rfl rfl (by repeat (first | assumption | exact hset_eq _ _ _ | rw [hset_ne _ _ (by omega)])) rfl rfl (by exact Nat.le_of_ble_eq_true rfl) ⟨by decide, by decide⟩ ⟨rfl, rfl, by show _ ≤ 600000; first | omega | (dsimp only; omega) | dsimp only | exact Nat.le_of_ble_eq_true rfl, by show _ ≤ 7302250; first | omega | (dsimp only; omega) | dsimp only | exact Nat.le_of_ble_eq_true rfl⟩ (fun v h3 hp => ?_)
    obtain ⟨p1, p2, p3⟩ := hp
    have hI3 : SmI h h3 o x y ik len f ft fp := ⟨p2, hI.2.tr p3⟩
    have g3 : h3 da = some (aI 15 g) := (hI3.2 da (Or.inr hda)).trans hg
    have e : v = g k := F_of p1 (qT (ok6 hr) (by rw [wld_nI hx hr]; exact hd k (by omega)))
    subst e
    refine ze_aload (pc := 864) dL_law_864 rfl ?_
    refine ze_iload (pc := 866) dL_law_866 rfl ?_
    refine ze_ialdN (pc := 868) (k) dL_law_868 (by repeat (first | assumption | exact hset_eq _ _ _ | rw [hset_ne _ _ (by omega)])) (by rfl) (by omega) (by first | decide | omega) ?_
    refine ze_icmp_eq (pc := 869) (tgt := 874) dL_law_869 (by decide) (fun _ => ?_) (fun q => absurd rfl q)
    refine zn_inc (pc := 874) dL_law_874 rfl (by decide) ?_
    refine ze_goto (pc := 877) (tgt := 849) dL_law_877 (by decide) ?_
    exact ih (k + 1) (by omega) (by omega) h3 hI3
theorem l_out (hx : x.ws r = X) (hr : r < 6) (hq : X.1 ^ X.2.1 ≤ 27) (hI : SmI h h2 o x y ik len f ft fp) (hc : c ≤ 600000) (hs : s ≤ 7302250)
    (kk : ∀ h2, SmI h h2 o x y ik len f ft fp → VS ro ML_law Post (z, c, s) h2 917 [some (.ref sb), some (.ref o), some (.int (nI r)), some (.ref w), some (.int (nI (X.1 ^ X.2.1))), some (.ref tb), none, none, none, none, none, none, none, none, none, none, none] []) : VS ro ML_law Post (z, c, s) h2 880 [some (.ref sb), some (.ref o), some (.int (nI r)), some (.ref w), some (.int (nI (X.1 ^ X.2.1))), some (.ref tb), none, none, none, none, none, none, none, none, none, none, none] [] := by
  obtain ⟨x1, -⟩ := id hI.1
  refine ze_aload_n (pc := 880) dL_law_880 rfl rfl ?_
  refine ze_iload_n (pc := 881) dL_law_881 rfl rfl ?_
  refine zn_bipush (pc := 882) 18 dL_law_882 (by decide) ?_
  refine zn_V (pc := 884) ((c_X10_of hI.1 (nI r) (nI 18)).toS) bX10_of q_i_X10_of q_s_X10_of q_m_L_160 dL_law_884 rfl rfl (by repeat (first | assumption | exact hset_eq _ _ _ | rw [hset_ne _ _ (by omega)])) rfl rfl (by exact Nat.le_of_ble_eq_true rfl) ⟨by decide, by decide⟩ ⟨rfl, rfl, by show _ ≤ 600000; first | omega | (dsimp only; omega) | dsimp only | exact Nat.le_of_ble_eq_true rfl, by show _ ≤ 7302250; first | omega | (dsimp only; omega) | dsimp only | exact Nat.le_of_ble_eq_true rfl⟩ (fun v h3 hp => ?_)
  obtain ⟨p1, p2, p3⟩ := hp
  have hI3 : SmI h h3 o x y ik len f ft fp := ⟨p2, hI.2.tr p3⟩
  obtain ⟨x3, -⟩ := id hI3.1
  have e : v = -2 := F_of p1 (qT (ok6 hr) (OfP_out (okO (Nat.le_refl _) (by omega))))
  subst e
  refine ze_bipush (pc := 887) (v := -2) dL_law_887 (by decide) ?_
  refine ze_icmp_ne (pc := 889) (tgt := 915) dL_law_889 (by decide) (fun q => absurd rfl q) (fun _ => ?_)
  refine ze_aload_n (pc := 892) dL_law_892 rfl rfl ?_
  refine ze_iload_n (pc := 893) dL_law_893 rfl rfl ?_
  refine ze_iload (pc := 894) dL_law_894 rfl ?_
  refine zn_iconst (pc := 896) 0 dL_law_896 (by decide) ?_
  refine zn_V (pc := 897) ((c_X10_product hI3.1 (nI r) (nI (X.1 ^ X.2.1)) (nI 0)).toS) bX10_product q_i_X10_product q_s_X10_product q_m_L_142 dL_law_897 rfl rfl (by repeat (first | assumption | exact hset_eq _ _ _ | rw [hset_ne _ _ (by omega)])) rfl rfl (by exact Nat.le_of_ble_eq_true rfl) ⟨by decide, by decide⟩ ⟨rfl, rfl, by show _ ≤ 600000; first | omega | (dsimp only; omega) | dsimp only | exact Nat.le_of_ble_eq_true rfl, by show _ ≤ 7302250; first | omega | (dsimp only; omega) | dsimp only | exact Nat.le_of_ble_eq_true rfl⟩ (fun v h4 hp => ?_)
  obtain ⟨p1, p2, p3⟩ := hp
  have hI4 : SmI h h4 o x y ik len f ft fp := ⟨p2, hI3.2.tr p3⟩
  obtain ⟨x4, -⟩ := id hI4.1
  have e : v = -1 := q_else (by rw [wld_nI hx hr, okO (Nat.le_refl _) (by omega), Bool.false_and, Bool.and_false]) p1
  subst e
  refine ze_iconst (pc := 900) (v := -1) dL_law_900 (by decide) ?_
  refine ze_icmp_ne (pc := 901) (tgt := 915) dL_law_901 (by decide) (fun q => absurd rfl q) (fun _ => ?_)
  refine ze_aload_n (pc := 904) dL_law_904 rfl rfl ?_
  refine ze_iload_n (pc := 905) dL_law_905 rfl rfl ?_
  refine zn_iconst (pc := 906) 0 dL_law_906 (by decide) ?_
  refine ze_iconst (pc := 907) (v := -1) dL_law_907 (by decide) ?_
  refine zn_V (pc := 908) ((c_X10_product hI4.1 (nI r) (nI 0) (-1)).toS) bX10_product q_i_X10_product q_s_X10_product q_m_L_142 dL_law_908 rfl rfl (by repeat (first | assumption | exact hset_eq _ _ _ | rw [hset_ne _ _ (by omega)])) rfl rfl (by exact Nat.le_of_ble_eq_true rfl) ⟨by decide, by decide⟩ ⟨rfl, rfl, by show _ ≤ 600000; first | omega | (dsimp only; omega) | dsimp only | exact Nat.le_of_ble_eq_true rfl, by show _ ≤ 7302250; first | omega | (dsimp only; omega) | dsimp only | exact Nat.le_of_ble_eq_true rfl⟩ (fun v h5 hp => ?_)
  obtain ⟨p1, p2, p3⟩ := hp
  have hI5 : SmI h h5 o x y ik len f ft fp := ⟨p2, hI4.2.tr p3⟩
  have e : v = -1 := q_else (by rw [wld_nI hx hr, okI_m1, Bool.and_false, Bool.and_false]) p1
  subst e
  refine ze_iconst (pc := 911) (v := -1) dL_law_911 (by decide) ?_
  refine ze_icmp_eq (pc := 912) (tgt := 917) dL_law_912 (by decide) (fun _ => ?_) (fun q => absurd rfl q)
  exact kk h5 hI5
theorem l_round (hL : LTx ro) (hD : DT ro) (hsb : ro.1 sb = some (aI sL xs)) (hsL : sL ≤ 260) (hX : XAt h o x y ik 0 f ft fp) (ho : o + 303 ≤ z) (hr : r < 4) (hc : c + 4000 ≤ 600000) (hs : s + 400000 ≤ 7302250)
    (kk : ∀ z2 h2 X f2 ft2 fp2, z ≤ z2 → XAt h2 o (x.tellW r X) y ik 0 f2 ft2 fp2 → VS ro ML_law Post (z2, c + 4000, s + 400000) h2 10 [some (.ref sb), some (.ref o), some (.int (nI (r + 1))), none, none, none, none, none, none, none, none, none, none, none, none, none, none] []) : VS ro ML_law Post (z, c, s) h 10 [some (.ref sb), some (.ref o), some (.int (nI r)), none, none, none, none, none, none, none, none, none, none, none, none, none, none] [] := by
  obtain ⟨x0', -⟩ := id hX
  refine ze_iload_n (pc := 10) dL_law_10 rfl rfl ?_
  refine zn_iconst (pc := 11) 4 dL_law_11 (by decide) ?_
  refine zn_icmp_ge (pc := 12) (tgt := 923) dL_law_12 (by decide) (by omega) (by omega) (fun c => absurd c (by omega)) (fun cc => ?_)
  refine ze_aload_n (pc := 15) dL_law_15 rfl rfl ?_
  refine ze_aload_n (pc := 16) dL_law_16 rfl rfl ?_
  refine zn_bipush (pc := 17) 6 dL_law_17 (by decide) ?_
  refine ze_iload_n (pc := 19) dL_law_19 rfl rfl ?_
  refine zn_imul (pc := 20) dL_law_20 ?_
  refine ze_iload_n (pc := 21) dL_law_21 rfl rfl ?_
  refine zn_bipush (pc := 22) 9 dL_law_22 (by decide) ?_
  refine ze_callS (pc := 24) (c_L_world (zq := z) (fr := 6 * r) hL hD hsb hsL (by omega) hX ho (show r < 6 by omega)) bL_world q_st_L_world q_m_L_134 dL_law_24 rfl rfl (by exact Nat.le_of_ble_eq_true rfl) ⟨by decide, by decide⟩ ⟨by show _ + 3000 ≤ 600000; first | omega | (dsimp only; omega) | dsimp only | exact Nat.le_of_ble_eq_true rfl, by show _ + 300000 ≤ 7302250; first | omega | (dsimp only; omega) | dsimp only | exact Nat.le_of_ble_eq_true rfl⟩ (fun rr h2 z2 hp => ?_)
  (try dsimp only [MI.mc, MI.ms, ML_world, Nat.add_zero])
  obtain ⟨w, X, tb, ft2, fp2, f2, rfl, hW, hT, hk, hq, n4, zw, wtb, tbz, hX2, hf2⟩ := hp
  have bb := hk.b
  have hx : (x.tellW r X).ws r = X := tellW_ws
  have hR2 : Rt h2 o w tb z2 X := ⟨hW, hT, by omega, wtb, tbz⟩
  obtain ⟨w1, -⟩ := id hW
  refine ze_astore_n (pc := 27) dL_law_27 rfl (by decide) ?_
  refine ze_aload_n (pc := 28) dL_law_28 rfl rfl ?_
  refine ze_ifnull (pc := 29) dL_law_29 ?_
  refine ze_aload_n (pc := 32) dL_law_32 rfl rfl ?_
  refine ze_aload_n (pc := 33) dL_law_33 rfl rfl ?_
  refine ze_iload_n (pc := 34) dL_law_34 rfl rfl ?_
  refine zn_V (pc := 35) (c_X11_isSame hX2 hW hk (show r < 6 by omega) hx (show o + 303 ≤ w by omega)) bX11_isSame q_i_X11_isSame q_s_X11_isSame q_m_L_138 dL_law_35 rfl rfl (by repeat (first | assumption | exact hset_eq _ _ _ | rw [hset_ne _ _ (by omega)])) rfl rfl (by exact Nat.le_of_ble_eq_true rfl) ⟨by decide, by decide⟩ ⟨rfl, rfl, by show _ ≤ 600000; first | omega | (dsimp only; omega) | dsimp only | exact Nat.le_of_ble_eq_true rfl, by show _ ≤ 7302250; first | omega | (dsimp only; omega) | dsimp only | exact Nat.le_of_ble_eq_true rfl⟩ (fun v h3 hp => ?_)
  obtain ⟨rfl, hI3⟩ := hp
  obtain ⟨⟨w3, -⟩, -⟩ := id (hR2.sm hI3)
  refine zn_if_ne (pc := 38) (tgt := 43) dL_law_38 (by decide) (by omega) (fun _ => ?_) (fun q => absurd q (by omega))
  refine ze_aload_n (pc := 43) dL_law_43 rfl rfl ?_
  refine ze_getN (pc := 44) (kf := 2) rfl (by decide) (by decide) rfl dL_law_44 (by repeat (first | assumption | exact hset_eq _ _ _ | rw [hset_ne _ _ (by omega)])) (by rfl) ?_
  refine ze_istore (pc := 47) dL_law_47 (by decide) ?_
  refine ze_aload_n (pc := 49) dL_law_49 rfl rfl ?_
  refine ze_getN (pc := 50) (kf := 4) rfl (by decide) (by decide) rfl dL_law_50 (by repeat (first | assumption | exact hset_eq _ _ _ | rw [hset_ne _ _ (by omega)])) (by rfl) ?_
  refine ze_astore (pc := 53) dL_law_53 (by decide) ?_
  refine zn_iconst (pc := 55) 0 dL_law_55 (by decide) ?_
  refine ze_istore (pc := 56) dL_law_56 (by decide) ?_
  refine VS.widen (c2 := c + 3000) (s2 := s + 300000) (by first | (dsimp only; omega) | dsimp only) (by first | (dsimp only; omega) | dsimp only) ?_
  refine l_pr_a hR2 hk hq hx (by omega) (by omega) (by omega) (fun h4 hI4 => ?_) (X.1 ^ X.2.1) 0 (by omega) (by omega) h3 hI3
  refine zn_iconst (pc := 109) 1 dL_law_109 (by decide) ?_
  refine ze_top (tI_t (P := Cm X 0 0) (fun u v _ _ q => absurd q (by omega))).symm ?_
  refine ze_istore (pc := 110) dL_law_110 (by decide) ?_
  refine zn_iconst (pc := 112) 0 dL_law_112 (by decide) ?_
  refine ze_istore (pc := 113) dL_law_113 (by decide) ?_
  refine zn_iconst (pc := 115) 4 dL_law_115 (by decide) ?_
  refine ze_newI (pc := 116) dL_law_116 rfl (by omega) ⟨by show c + 3000 + 1 ≤ 600000; omega, by show s + 300000 + 4 ≤ 7302250; omega⟩ ?_
  dsimp only
  refine ze_astore (pc := 118) dL_law_118 (by decide) ?_
  refine zn_iconst (pc := 120) 0 dL_law_120 (by decide) ?_
  refine ze_istore (pc := 121) dL_law_121 (by decide) ?_
  have e5 : ∀ q, q < z2 → hset h4 z2 (aI 4 (fun _ => 0)) q = h4 q := fun q hq => hset_ne _ _ (by omega)
  have hR5 : Rt (hset h4 z2 (aI 4 (fun _ => 0))) o w tb z2 X := (hR2.sm hI4).kept (Nat.le_refl _) (fun q _ q2 => e5 q q2)
  refine VS.widen (c2 := c + 3010 + 0) (s2 := s + 300010 + 4 * 0) (by first | (dsimp only; omega) | dsimp only) (by first | (dsimp only; omega) | dsimp only) ?_
  refine l_nu_a (h := hset h4 z2 (aI 4 (fun _ => 0))) (nb := z2) hR5 hk hq (by omega) (by omega) (fun z6 h6 g6 hz6 he6 hg6 hN6 => ?_) (X.1 ^ X.2.1) 0 (by omega) (by omega) (z2 + 1) _ (fun _ => 0) (by omega) (fun _ _ => rfl) (hset_eq _ _ _) ⟨fun u hu => by rw [if_neg (by omega)]; exact nI_0.symm, nI_0.symm⟩
  have hR6 : Rt h6 o w tb z2 X := hR5.kept (Nat.le_refl _) (fun q _ q2 => he6 q q2)
  refine ze_iconst (pc := 441) (v := -1) dL_law_441 (by decide) ?_
  refine ze_istore (pc := 442) dL_law_442 (by decide) ?_
  refine zn_bipush (pc := 444) 124 dL_law_444 (by decide) ?_
  refine ze_istore (pc := 446) dL_law_446 (by decide) ?_
  refine l_ap (z0 := z2) hR6 hk hq (by omega) (by omega) (fun va hva => ?_) 124 (-1) (by omega) (Or.inr ⟨rfl, fun j j1 j2 => absurd j2 (by omega)⟩)
  refine zn_iconst (pc := 578) 1 dL_law_578 (by decide) ?_
  refine ze_top (tI_t (P := PlA X 1) (fun d d1 d2 => absurd d2 (by omega))).symm ?_
  refine ze_istore (pc := 579) dL_law_579 (by decide) ?_
  refine zn_iconst (pc := 581) 1 dL_law_581 (by decide) ?_
  refine ze_istore (pc := 582) dL_law_582 (by decide) ?_
  refine VS.widen (c2 := c + 3100 + 1) (s2 := s + 300300 + 27 * 1) (by first | (dsimp only; omega) | dsimp only) (by first | (dsimp only; omega) | dsimp only) ?_
  refine l_pl_a (h := h6) (z0 := z2 + 1) (hR6.kept (by omega) (fun _ _ _ => rfl)) hk hq (by omega) (by omega) (fun z7 h7 hz7 he7 => ?_) (X.1 ^ X.2.1 - 1) 1 rfl (by omega) hk.pos z6 h6 (by omega) (fun _ _ => rfl)
  have hR7 : Rt h7 o w tb (z2 + 1) X := (hR6.kept (by omega) (fun _ _ _ => rfl)).kept (Nat.le_refl _) (fun q _ q2 => he7 q q2)
  refine l_du_a (z0 := z2 + 1) hR7 hz7 hk hq (by omega) (by omega) (fun g8 hd8 => ?_)
  refine l_du_b (z0 := z2 + 1) hR7 hz7 hk hq (by omega) (by omega) hd8 (fun g9 hd9 => ?_)
  refine l_du_c (show z2 ≠ z7 by omega) ((he7 z2 (by omega)).trans hg6) hN6 hk hva hd9 (fun g10 hd10 => ?_)
  refine l_du_d (z0 := z2 + 1) hR7 hz7 hk hd10 (fun g11 hd11 => ?_)
  refine zn_iconst (pc := 846) 0 dL_law_846 (by decide) ?_
  refine ze_istore (pc := 847) dL_law_847 (by decide) ?_
  have hX8 : XAt (hset h7 z7 (aI 15 g11)) o (x.tellW r X) y ik 0 f2 ft2 fp2 := hI4.1.far (fun q q1 q2 => by rw [hset_ne _ _ (by omega), he7 q (by omega), he6 q (by omega), e5 q (by omega)])
  refine l_ck (h := hset h7 z7 (aI 15 g11)) hd11 hx (by omega) (show o + 303 ≤ z7 by omega) (hset_eq _ _ _) (by omega) (by omega) (fun h9 hI9 => ?_) 15 0 (by omega) (by omega) _ ⟨hX8, Er.rf _ _ _⟩
  refine l_out hx (by omega) hq hI9 (by omega) (by omega) (fun h10 hI10 => ?_)
  refine zn_inc (pc := 917) dL_law_917 rfl (by decide) ?_
  refine ze_goto (pc := 920) (tgt := 10) dL_law_920 (by decide) ?_
  refine VS.widen (c2 := c + 4000) (s2 := s + 400000) (by first | (dsimp only; omega) | dsimp only) (by first | (dsimp only; omega) | dsimp only) ?_
  refine VS.mask [true, true, true, false, false, false, false, false, false, false, false, false, false, false, false, false, false] ?_
  exact kk _ h10 X f2 ft2 fp2 (by omega) hI10.1
theorem l_fin (hX : XAt h o x y ik 0 f ft fp) (hdn : x.dn = 4) (hc : c ≤ 600000) (hs : s ≤ 7302250) (hP : ∀ h2 z, Post (some (.int (nI 1))) h2 z) : VS ro ML_law Post (z, c, s) h 923 [some (.ref sb), some (.ref o), some (.int (nI 4)), none, none, none, none, none, none, none, none, none, none, none, none, none, none] [] := by
  have o6 : okI (nI 6) 6 = false := okO (Nat.le_refl _) (by omega)
  obtain ⟨x1, -⟩ := id hX
  refine ze_aload_n (pc := 923) dL_law_923 rfl rfl ?_
  refine zn_bipush (pc := 924) 6 dL_law_924 (by decide) ?_
  refine zn_iconst (pc := 926) 0 dL_law_926 (by decide) ?_
  refine zn_V (pc := 927) ((c_X10_of hX (nI 6) (nI 0)).toS) bX10_of q_i_X10_of q_s_X10_of q_m_L_160 dL_law_927 rfl rfl (by repeat (first | assumption | exact hset_eq _ _ _ | rw [hset_ne _ _ (by omega)])) rfl rfl (by exact Nat.le_of_ble_eq_true rfl) ⟨by decide, by decide⟩ ⟨rfl, rfl, by show _ ≤ 600000; first | omega | (dsimp only; omega) | dsimp only | exact Nat.le_of_ble_eq_true rfl, by show _ ≤ 7302250; first | omega | (dsimp only; omega) | dsimp only | exact Nat.le_of_ble_eq_true rfl⟩ (fun v h3 hp => ?_)
  obtain ⟨p1, p2, p3⟩ := hp
  obtain ⟨x3, -⟩ := id p2
  have e : v = -2 := q_else o6 p1
  subst e
  refine ze_bipush (pc := 930) (v := -2) dL_law_930 (by decide) ?_
  refine ze_icmp_ne (pc := 932) (tgt := 973) dL_law_932 (by decide) (fun q => absurd rfl q) (fun _ => ?_)
  refine ze_aload_n (pc := 935) dL_law_935 rfl rfl ?_
  refine zn_bipush (pc := 936) 6 dL_law_936 (by decide) ?_
  refine zn_iconst (pc := 938) 0 dL_law_938 (by decide) ?_
  refine zn_iconst (pc := 939) 0 dL_law_939 (by decide) ?_
  refine zn_V (pc := 940) ((c_X10_product p2 (nI 6) (nI 0) (nI 0)).toS) bX10_product q_i_X10_product q_s_X10_product q_m_L_142 dL_law_940 rfl rfl (by repeat (first | assumption | exact hset_eq _ _ _ | rw [hset_ne _ _ (by omega)])) rfl rfl (by exact Nat.le_of_ble_eq_true rfl) ⟨by decide, by decide⟩ ⟨rfl, rfl, by show _ ≤ 600000; first | omega | (dsimp only; omega) | dsimp only | exact Nat.le_of_ble_eq_true rfl, by show _ ≤ 7302250; first | omega | (dsimp only; omega) | dsimp only | exact Nat.le_of_ble_eq_true rfl⟩ (fun v h4 hp => ?_)
  obtain ⟨p1, p4, p3⟩ := hp
  obtain ⟨x4, -⟩ := id p4
  have e : v = -1 := q_else (by rw [o6, Bool.false_and]) p1
  subst e
  refine ze_iconst (pc := 943) (v := -1) dL_law_943 (by decide) ?_
  refine ze_icmp_ne (pc := 944) (tgt := 973) dL_law_944 (by decide) (fun q => absurd rfl q) (fun _ => ?_)
  refine ze_aload_n (pc := 947) dL_law_947 rfl rfl ?_
  refine zn_bipush (pc := 948) 6 dL_law_948 (by decide) ?_
  refine zn_iconst (pc := 950) 0 dL_law_950 (by decide) ?_
  refine zn_iconst (pc := 951) 0 dL_law_951 (by decide) ?_
  refine zn_iconst (pc := 952) 0 dL_law_952 (by decide) ?_
  refine zn_V (pc := 953) ((c_X10_cube p4 (nI 6) (nI 0) (nI 0) (nI 0)).toS) bX10_cube q_i_X10_cube q_s_X10_cube q_m_L_163 dL_law_953 rfl rfl (by repeat (first | assumption | exact hset_eq _ _ _ | rw [hset_ne _ _ (by omega)])) rfl rfl (by exact Nat.le_of_ble_eq_true rfl) ⟨by decide, by decide⟩ ⟨rfl, rfl, by show _ ≤ 600000; first | omega | (dsimp only; omega) | dsimp only | exact Nat.le_of_ble_eq_true rfl, by show _ ≤ 7302250; first | omega | (dsimp only; omega) | dsimp only | exact Nat.le_of_ble_eq_true rfl⟩ (fun v h5 hp => ?_)
  obtain ⟨p1, p5, p3⟩ := hp
  obtain ⟨x5, -⟩ := id p5
  have e : v = -1 := q_else (by rw [o6, Bool.false_and]) p1
  subst e
  refine ze_iconst (pc := 956) (v := -1) dL_law_956 (by decide) ?_
  refine ze_icmp_ne (pc := 957) (tgt := 973) dL_law_957 (by decide) (fun q => absurd rfl q) (fun _ => ?_)
  refine ze_aload_n (pc := 960) dL_law_960 rfl rfl ?_
  refine zn_iconst (pc := 961) 0 dL_law_961 (by decide) ?_
  refine zn_V (pc := 962) ((c_X10_look p5 (nI 0)).toS) bX10_look q_i_X10_look q_s_X10_look q_m_L_167 dL_law_962 rfl rfl (by repeat (first | assumption | exact hset_eq _ _ _ | rw [hset_ne _ _ (by omega)])) rfl rfl (by exact Nat.le_of_ble_eq_true rfl) ⟨by decide, by decide⟩ ⟨rfl, rfl, by show _ ≤ 600000; first | omega | (dsimp only; omega) | dsimp only | exact Nat.le_of_ble_eq_true rfl, by show _ ≤ 7302250; first | omega | (dsimp only; omega) | dsimp only | exact Nat.le_of_ble_eq_true rfl⟩ (fun v h6 hp => ?_)
  obtain ⟨p1, p6⟩ := hp
  rw [p6]
  unfold Q_look at p1
  rw [if_pos rfl, hdn] at p1
  subst p1
  refine zn_iconst (pc := 965) 4 dL_law_965 (by decide) ?_
  refine zn_icmp_ne (pc := 966) (tgt := 973) dL_law_966 (by decide) (by omega) (by omega) (fun q => absurd rfl q) (fun _ => ?_)
  refine zn_iconst (pc := 969) 1 dL_law_969 (by decide) ?_
  refine ze_goto (pc := 970) (tgt := 974) dL_law_970 (by decide) ?_
  exact ze_zret dL_law_974 rfl (by rfl) ⟨hc, hs⟩ (hP _ _)
theorem l_rounds (hL : LTx ro) (hD : DT ro) (hsb : ro.1 sb = some (aI sL xs)) (hsL : sL ≤ 260) (hP : ∀ h2 z, Post (some (.int (nI 1))) h2 z) :
    ∀ (m r : Nat), m = 4 - r → r ≤ 4 → ∀ z h x f ft fp, XAt h o x y ik 0 f ft fp → x.dn = r → o + 303 ≤ z → VS ro ML_law Post (z, 1000 + 4000 * r, 20000 + 400000 * r) h 10 [some (.ref sb), some (.ref o), some (.int (nI r)), none, none, none, none, none, none, none, none, none, none, none, none, none, none] [] := by
  intro m
  induction m with
  | zero =>
    intro r e1 e2 z h x f ft fp hX hdn hz
    have : r = 4 := by omega
    subst this
    refine ze_iload_n (pc := 10) dL_law_10 rfl rfl ?_
    refine zn_iconst (pc := 11) 4 dL_law_11 (by decide) ?_
    refine zn_icmp_ge (pc := 12) (tgt := 923) dL_law_12 (by decide) (by omega) (by omega) (fun _ => ?_) (fun q => absurd q (by omega))
    exact l_fin hX hdn (by omega) (by omega) hP
  | succ m ih =>
    intro r e1 e2 z h x f ft fp hX hdn hz
    refine l_round hL hD hsb hsL hX hz (by omega) (by omega) (by omega) (fun z2 h2 X f2 ft2 fp2 hz2 hX2 => ?_)
    refine VS.widen (c2 := 1000 + 4000 * (r + 1)) (s2 := 20000 + 400000 * (r + 1)) (by first | (dsimp only; omega) | dsimp only) (by first | (dsimp only; omega) | dsimp only) ?_
    exact ih (r + 1) (by omega) (by omega) z2 h2 _ f2 ft2 fp2 hX2 (by rw [tellW_dn (by omega), hdn]) (by omega)
theorem l_whole (hL : LTx ro) (hD : DT ro) (hsb : ro.1 sb = some (aI sL xs)) (hsL : sL ≤ 260) (z : Nat) : VS ro ML_law (fun r _ _ => r = some (.int (nI 1))) (z, 0, 0) (fun _ => none) 0 [some (.ref sb), none, none, none, none, none, none, none, none, none, none, none, none, none, none, none, none] [] := by
  refine ze_new (pc := 0) nw_L_19 dL_law_0 ⟨by exact Nat.le_of_ble_eq_true rfl, by exact Nat.le_of_ble_eq_true rfl⟩ ?_
  dsimp only
  refine ze_dup (pc := 3) dL_law_3 rfl ?_
  refine ze_callI (pc := 4) ((c_X10_init z _ (hset_eq _ _ _)).toS) bX10_init rfl rfl q_i_X10_init q_m_L_133 dL_law_4 rfl rfl (by exact Nat.le_of_ble_eq_true rfl) ⟨by decide, by decide⟩ ⟨by show _ + 302 ≤ 600000; first | omega | (dsimp only; omega) | dsimp only | exact Nat.le_of_ble_eq_true rfl, by show _ + 16861 ≤ 7302250; first | omega | (dsimp only; omega) | dsimp only | exact Nat.le_of_ble_eq_true rfl⟩ (fun rr h2 z2 hp => ?_)
  (try dsimp only [MI.mc, MI.ms, MX10_init, Nat.add_zero])
  obtain ⟨rfl, rfl, rfl⟩ := hp
  refine ze_astore_n (pc := 7) dL_law_7 rfl (by decide) ?_
  refine zn_iconst (pc := 8) 0 dL_law_8 (by decide) ?_
  refine ze_istore_n (pc := 9) dL_law_9 rfl (by decide) ?_
  refine VS.widen (c2 := 1000 + 4000 * 0) (s2 := 20000 + 400000 * 0) (by first | (dsimp only; omega) | dsimp only) (by first | (dsimp only; omega) | dsimp only) ?_
  exact l_rounds hL hD hsb hsL (fun _ _ => rfl) 4 0 (by omega) (by omega) (z + 1 + 302) _ x0 (fun _ => 0) 0 (-1) XAt_0 rfl (by omega)
end MA
