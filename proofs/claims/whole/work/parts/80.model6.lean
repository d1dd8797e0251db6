/-! ===== the reference: cubes told and turned, maps told, what is looked at ===== -/
section M6
variable {h : AH} {m : Nat} {x y : Sx} {ik : Bool} {len : Nat} {f : Nat → Nat} {ft fp : Int32}
/-- the row of worlds has changed -/
theorem MAt.nw {h2 : AH} {x2 : Sx} {g2 : Nat → Int32} (hX : MAt h m x y ik len f ft fp) (e : h2 = hset h (m + 1) (aI 6070 g2)) (hg : WR g2 x2) : MAt h2 m x2 y ik len f ft fp ∧ Er m (m + 107) h h2 := by
  subst e
  obtain ⟨⟨p, n, q, s, hM, hs⟩, hR, -, ⟨g3, a3, a4⟩, a5, g4, a6, a7⟩ := hX
  exact ⟨⟨⟨p, n, q, s, (hset_ne _ _ (by omega)).trans hM, hs⟩, hR.set (isR_d 1 (by decide)) rfl, ⟨g2, hset_eq _ _ _, hg⟩, ⟨g3, (hset_ne _ _ (by omega)).trans a3, a4⟩, a5, g4, (hset_ne _ _ (by omega)).trans a6, a7⟩, (Er.rf _ _ h).set (by omega)⟩
theorem Er.tr' {lo hi : Nat} {h h1 h2 : AH} (a : Er lo hi h h1) (b : Er lo hi h1 h2) : Er lo hi h h2 := a.tr b
theorem c_X11_cube (hX : MAt h m x y ik len f ft fp) (hx : SxOk x) (w i j k : Int32) : CI yX11_cube MX11_cube [.ref m, .int w, .int i, .int j, .int k] h (fun z h' => Q_cube x w i j k z ∧ MAt h' m x y ik len f ft fp ∧ Er m (m + 107) h h') := by
  obtain ⟨⟨p, n, q, s, hM, hs⟩, hR, ⟨g, hw, hg⟩, -⟩ := id hX
  have no : (okI w 6 && (okI i (wld x w).2.1 && okI j (wld x w).2.1 && okI k (wld x w).2.1)) = false → ∀ (sz : Nat) (l : List (Option Value)), VI MX11_cube sz (fun z h' => Q_cube x w i j k z ∧ MAt h' m x y ik len f ft fp ∧ Er m (m + 107) h h') h 83 l [] := fun q sz l => by
    refine e_iconst (pc := 83) (v := -1) dX11_cube_83 (by decide) ?_
    exact n_iret (pc := 84) dX11_cube_84 rfl ⟨qF q rfl, hX, Er.rf _ _ _⟩
  refine CI.ofV (by decide) rfl rfl (by simp [Value.category]) (by exact Nat.le_of_ble_eq_true rfl) (fun sz => ?_)
  refine e_iload_n (pc := 0) dX11_cube_0 rfl rfl ?_
  refine n_SP (pc := 1) (c_X11_isWorld w) bX11_isWorld q_st_X11_isWorld q_m_X11_143 dX11_cube_1 rfl rfl (by exact Nat.le_of_ble_eq_true rfl) ⟨by decide, by decide⟩ ⟨rfl, rfl, Nat.zero_le _, Nat.zero_le _⟩ ?_
  refine n_bif_ne (pc := 4) (tgt := 9) dX11_cube_4 (by decide) (fun c => ?_) (fun c => ?_)
  · obtain ⟨a, ha, rfl⟩ := okI_of (by decide) c
    have wk := hx.1 a (by omega)
    have b := wk.b
    obtain ⟨w1, w2, w3⟩ := hg.1 a ha
    rw [wld_nI ha, ok6 ha, Bool.true_and] at no
    refine e_aload_n (pc := 9) dX11_cube_9 rfl rfl ?_
    refine e_get (pc := 10) fl_X11_7 dX11_cube_10 (by repeat (first | assumption | exact hset_eq _ _ _ | (apply Lay.hd; assumption) | rw [hset_ne _ _ (by omega)])) (by rfl) ?_
    refine n_sipush (pc := 13) 130 dX11_cube_13 (by decide) ?_
    refine e_iload_n (pc := 16) dX11_cube_16 rfl rfl ?_
    refine n_imul (pc := 17) dX11_cube_17 ?_
    refine n_iconst (pc := 18) 1 dX11_cube_18 (by decide) ?_
    refine n_iadd (pc := 19) dX11_cube_19 ?_
    refine e_ialdN (pc := 20) (130 * a + 1) dX11_cube_20 (by repeat (first | assumption | exact hset_eq _ _ _ | (apply Lay.hd; assumption) | rw [hset_ne _ _ (by omega)])) (by rfl) (by omega) (by first | decide | omega) ?_
    rw [w2]
    refine n_iconst (pc := 21) 1 dX11_cube_21 (by decide) ?_
    refine n_isub (pc := 22) dX11_cube_22 (by omega) ?_
    refine e_istore (pc := 23) dX11_cube_23 (by decide) ?_
    refine e_iload_n (pc := 25) dX11_cube_25 rfl rfl ?_
    refine n_iconst (pc := 26) 0 dX11_cube_26 (by decide) ?_
    refine e_iload (pc := 27) dX11_cube_27 rfl ?_
    refine n_SP (pc := 29) (c_X11_isIn i (nI 0) (nI ((x.ws a).2.1 - 1))) bX11_isIn q_st_X11_isIn q_m_X11_98 dX11_cube_29 rfl rfl (by exact Nat.le_of_ble_eq_true rfl) ⟨by decide, by decide⟩ ⟨rfl, rfl, Nat.zero_le _, Nat.zero_le _⟩ ?_
    rw [inB_m b.2.2.1 (by omega)]
    refine n_bif_eq (pc := 32) (tgt := 83) dX11_cube_32 (by decide) (fun c1 => ?_) (fun c1 => ?_)
    · exact no (by rw [c1]; rfl) sz _
    refine e_iload_n (pc := 35) dX11_cube_35 rfl rfl ?_
    refine n_iconst (pc := 36) 0 dX11_cube_36 (by decide) ?_
    refine e_iload (pc := 37) dX11_cube_37 rfl ?_
    refine n_SP (pc := 39) (c_X11_isIn j (nI 0) (nI ((x.ws a).2.1 - 1))) bX11_isIn q_st_X11_isIn q_m_X11_98 dX11_cube_39 rfl rfl (by exact Nat.le_of_ble_eq_true rfl) ⟨by decide, by decide⟩ ⟨rfl, rfl, Nat.zero_le _, Nat.zero_le _⟩ ?_
    rw [inB_m b.2.2.1 (by omega)]
    refine n_bif_eq (pc := 42) (tgt := 83) dX11_cube_42 (by decide) (fun c2 => ?_) (fun c2 => ?_)
    · exact no (by rw [c2, Bool.and_false]; rfl) sz _
    refine e_iload (pc := 45) dX11_cube_45 rfl ?_
    refine n_iconst (pc := 47) 0 dX11_cube_47 (by decide) ?_
    refine e_iload (pc := 48) dX11_cube_48 rfl ?_
    refine n_SP (pc := 50) (c_X11_isIn k (nI 0) (nI ((x.ws a).2.1 - 1))) bX11_isIn q_st_X11_isIn q_m_X11_98 dX11_cube_50 rfl rfl (by exact Nat.le_of_ble_eq_true rfl) ⟨by decide, by decide⟩ ⟨rfl, rfl, Nat.zero_le _, Nat.zero_le _⟩ ?_
    rw [inB_m b.2.2.1 (by omega)]
    refine n_bif_eq (pc := 53) (tgt := 83) dX11_cube_53 (by decide) (fun c3 => ?_) (fun c3 => ?_)
    · exact no (by rw [c3, Bool.and_false]) sz _
    obtain ⟨i', hi, rfl⟩ := okI_of (by omega) c1
    obtain ⟨j', hj, rfl⟩ := okI_of (by omega) c2
    obtain ⟨k', hk, rfl⟩ := okI_of (by omega) c3
    have z := w3 (25 * i' + 5 * j' + k') (by omega)
    refine e_aload_n (pc := 56) dX11_cube_56 rfl rfl ?_
    refine e_get (pc := 57) fl_X11_7 dX11_cube_57 (by repeat (first | assumption | exact hset_eq _ _ _ | (apply Lay.hd; assumption) | rw [hset_ne _ _ (by omega)])) (by rfl) ?_
    refine n_sipush (pc := 60) 130 dX11_cube_60 (by decide) ?_
    refine e_iload_n (pc := 63) dX11_cube_63 rfl rfl ?_
    refine n_imul (pc := 64) dX11_cube_64 ?_
    refine n_iconst (pc := 65) 2 dX11_cube_65 (by decide) ?_
    refine n_iadd (pc := 66) dX11_cube_66 ?_
    refine n_bipush (pc := 67) 25 dX11_cube_67 (by decide) ?_
    refine e_iload_n (pc := 69) dX11_cube_69 rfl rfl ?_
    refine n_imul (pc := 70) dX11_cube_70 ?_
    refine n_iadd (pc := 71) dX11_cube_71 ?_
    refine n_iconst (pc := 72) 5 dX11_cube_72 (by decide) ?_
    refine e_iload_n (pc := 73) dX11_cube_73 rfl rfl ?_
    refine n_imul (pc := 74) dX11_cube_74 ?_
    refine n_iadd (pc := 75) dX11_cube_75 ?_
    refine e_iload (pc := 76) dX11_cube_76 rfl ?_
    refine n_iadd (pc := 78) dX11_cube_78 ?_
    refine e_ialdN (pc := 79) (130 * a + 2 + (25 * i' + 5 * j' + k')) dX11_cube_79 (by repeat (first | assumption | exact hset_eq _ _ _ | (apply Lay.hd; assumption) | rw [hset_ne _ _ (by omega)])) (congrArg nI (by omega)) (by omega) (by first | decide | omega) ?_
    rw [z]
    refine e_goto (pc := 80) (tgt := 84) dX11_cube_80 (by decide) ?_
    refine n_iret (pc := 84) dX11_cube_84 rfl ⟨qT (by rw [wld_nI ha, ok6 ha, c1, c2, c3]; rfl) ?_, hX, Er.rf _ _ _⟩
    rw [wld_nI ha, cl_nI (by omega), cl_nI (by omega), cl_nI (by omega)]
  · refine e_iconst (pc := 7) (v := -1) dX11_cube_7 (by decide) ?_
    exact n_iret (pc := 8) dX11_cube_8 rfl ⟨qF (by rw [c]; rfl) rfl, hX, Er.rf _ _ _⟩
theorem c_X11_digit (hX : MAt h m x y ik len f ft fp) (hx : SxOk x) (w i j k v : Int32) : CI yX11_digit MX11_digit [.ref m, .int w, .int i, .int j, .int k, .int v] h (fun z h' => ∃ x2, QS_digit x w i j k v z x2 ∧ MAt h' m x2 y ik len f ft fp ∧ Er m (m + 107) h h') := by
  obtain ⟨⟨p, n, q, s, hM, hs⟩, hR, ⟨g, hw, hg⟩, -⟩ := id hX
  have no : (okI w 6 && (okI i (wld x w).2.1 && okI j (wld x w).2.1 && okI k (wld x w).2.1 && okI v (wld x w).1)) = false → ∀ (sz : Nat) (l : List (Option Value)), VI MX11_digit sz (fun z h' => ∃ x2, QS_digit x w i j k v z x2 ∧ MAt h' m x2 y ik len f ft fp ∧ Er m (m + 107) h h') h 79 l [] := fun q sz l => by
    refine n_iconst (pc := 79) 0 dX11_digit_79 (by decide) ?_
    exact n_zret (pc := 80) dX11_digit_80 rfl rfl ⟨x, qF q ⟨rfl, rfl⟩, hX, Er.rf _ _ _⟩
  refine CI.ofV (by decide) rfl rfl (by simp [Value.category]) (by exact Nat.le_of_ble_eq_true rfl) (fun sz => ?_)
  refine e_iload_n (pc := 0) dX11_digit_0 rfl rfl ?_
  refine n_SP (pc := 1) (c_X11_isWorld w) bX11_isWorld q_st_X11_isWorld q_m_X11_143 dX11_digit_1 rfl rfl (by exact Nat.le_of_ble_eq_true rfl) ⟨by decide, by decide⟩ ⟨rfl, rfl, Nat.zero_le _, Nat.zero_le _⟩ ?_
  refine n_bif_ne (pc := 4) (tgt := 9) dX11_digit_4 (by decide) (fun c => ?_) (fun c => ?_)
  · obtain ⟨a, ha, rfl⟩ := okI_of (by decide) c
    have wk := hx.1 a (by omega)
    have b := wk.b
    obtain ⟨w1, w2, w3⟩ := hg.1 a ha
    rw [wld_nI ha, ok6 ha, Bool.true_and] at no
    refine e_aload_n (pc := 9) dX11_digit_9 rfl rfl ?_
    refine e_get (pc := 10) fl_X11_7 dX11_digit_10 (by repeat (first | assumption | exact hset_eq _ _ _ | (apply Lay.hd; assumption) | rw [hset_ne _ _ (by omega)])) (by rfl) ?_
    refine n_sipush (pc := 13) 130 dX11_digit_13 (by decide) ?_
    refine e_iload_n (pc := 16) dX11_digit_16 rfl rfl ?_
    refine n_imul (pc := 17) dX11_digit_17 ?_
    refine n_iconst (pc := 18) 1 dX11_digit_18 (by decide) ?_
    refine n_iadd (pc := 19) dX11_digit_19 ?_
    refine e_ialdN (pc := 20) (130 * a + 1) dX11_digit_20 (by repeat (first | assumption | exact hset_eq _ _ _ | (apply Lay.hd; assumption) | rw [hset_ne _ _ (by omega)])) (by rfl) (by omega) (by first | decide | omega) ?_
    rw [w2]
    refine n_iconst (pc := 21) 1 dX11_digit_21 (by decide) ?_
    refine n_isub (pc := 22) dX11_digit_22 (by omega) ?_
    refine e_istore (pc := 23) dX11_digit_23 (by decide) ?_
    refine e_iload_n (pc := 25) dX11_digit_25 rfl rfl ?_
    refine n_iconst (pc := 26) 0 dX11_digit_26 (by decide) ?_
    refine e_iload (pc := 27) dX11_digit_27 rfl ?_
    refine n_SP (pc := 29) (c_X11_isIn i (nI 0) (nI ((x.ws a).2.1 - 1))) bX11_isIn q_st_X11_isIn q_m_X11_98 dX11_digit_29 rfl rfl (by exact Nat.le_of_ble_eq_true rfl) ⟨by decide, by decide⟩ ⟨rfl, rfl, Nat.zero_le _, Nat.zero_le _⟩ ?_
    rw [inB_m b.2.2.1 (by omega)]
    refine n_bif_eq (pc := 32) (tgt := 79) dX11_digit_32 (by decide) (fun c1 => ?_) (fun c1 => ?_)
    · exact no (by rw [c1]; rfl) sz _
    refine e_iload_n (pc := 35) dX11_digit_35 rfl rfl ?_
    refine n_iconst (pc := 36) 0 dX11_digit_36 (by decide) ?_
    refine e_iload (pc := 37) dX11_digit_37 rfl ?_
    refine n_SP (pc := 39) (c_X11_isIn j (nI 0) (nI ((x.ws a).2.1 - 1))) bX11_isIn q_st_X11_isIn q_m_X11_98 dX11_digit_39 rfl rfl (by exact Nat.le_of_ble_eq_true rfl) ⟨by decide, by decide⟩ ⟨rfl, rfl, Nat.zero_le _, Nat.zero_le _⟩ ?_
    rw [inB_m b.2.2.1 (by omega)]
    refine n_bif_eq (pc := 42) (tgt := 79) dX11_digit_42 (by decide) (fun c2 => ?_) (fun c2 => ?_)
    · exact no (by rw [c2, Bool.and_false]; rfl) sz _
    refine e_iload (pc := 45) dX11_digit_45 rfl ?_
    refine n_iconst (pc := 47) 0 dX11_digit_47 (by decide) ?_
    refine e_iload (pc := 48) dX11_digit_48 rfl ?_
    refine n_SP (pc := 50) (c_X11_isIn k (nI 0) (nI ((x.ws a).2.1 - 1))) bX11_isIn q_st_X11_isIn q_m_X11_98 dX11_digit_50 rfl rfl (by exact Nat.le_of_ble_eq_true rfl) ⟨by decide, by decide⟩ ⟨rfl, rfl, Nat.zero_le _, Nat.zero_le _⟩ ?_
    rw [inB_m b.2.2.1 (by omega)]
    refine n_bif_eq (pc := 53) (tgt := 79) dX11_digit_53 (by decide) (fun c3 => ?_) (fun c3 => ?_)
    · exact no (by rw [c3, Bool.and_false, Bool.false_and]) sz _
    refine e_iload (pc := 56) dX11_digit_56 rfl ?_
    refine n_iconst (pc := 58) 0 dX11_digit_58 (by decide) ?_
    refine e_aload_n (pc := 59) dX11_digit_59 rfl rfl ?_
    refine e_get (pc := 60) fl_X11_7 dX11_digit_60 (by repeat (first | assumption | exact hset_eq _ _ _ | (apply Lay.hd; assumption) | rw [hset_ne _ _ (by omega)])) (by rfl) ?_
    refine n_sipush (pc := 63) 130 dX11_digit_63 (by decide) ?_
    refine e_iload_n (pc := 66) dX11_digit_66 rfl rfl ?_
    refine n_imul (pc := 67) dX11_digit_67 ?_
    refine n_iconst (pc := 68) 0 dX11_digit_68 (by decide) ?_
    refine n_iadd (pc := 69) dX11_digit_69 ?_
    refine e_ialdN (pc := 70) (130 * a) dX11_digit_70 (by repeat (first | assumption | exact hset_eq _ _ _ | (apply Lay.hd; assumption) | rw [hset_ne _ _ (by omega)])) (by rfl) (by omega) (by first | decide | omega) ?_
    rw [w1]
    refine n_iconst (pc := 71) 1 dX11_digit_71 (by decide) ?_
    refine n_isub (pc := 72) dX11_digit_72 (by omega) ?_
    refine n_SP (pc := 73) (c_X11_isIn v (nI 0) (nI ((x.ws a).1 - 1))) bX11_isIn q_st_X11_isIn q_m_X11_98 dX11_digit_73 rfl rfl (by exact Nat.le_of_ble_eq_true rfl) ⟨by decide, by decide⟩ ⟨rfl, rfl, Nat.zero_le _, Nat.zero_le _⟩ ?_
    rw [inB_m (by omega) (by omega)]
    refine n_bif_ne (pc := 76) (tgt := 81) dX11_digit_76 (by decide) (fun c4 => ?_) (fun c4 => no (by rw [c4, Bool.and_false]) sz _)
    obtain ⟨i', hi, rfl⟩ := okI_of (by omega) c1
    obtain ⟨j', hj, rfl⟩ := okI_of (by omega) c2
    obtain ⟨k', hk, rfl⟩ := okI_of (by omega) c3
    obtain ⟨v', hv, rfl⟩ := okI_of (by omega) c4
    refine e_aload_n (pc := 81) dX11_digit_81 rfl rfl ?_
    refine e_iload_n (pc := 82) dX11_digit_82 rfl rfl ?_
    refine n_Vv (pc := 83) (c_X11_acts hM hw hx hg ha) bX11_acts q_i_X11_acts q_s_X11_acts q_m_X11_139 dX11_digit_83 rfl rfl (by repeat (first | assumption | exact hset_eq _ _ _ | (apply Lay.hd; assumption) | rw [hset_ne _ _ (by omega)])) rfl rfl (by exact Nat.le_of_ble_eq_true rfl) ⟨by decide, by decide⟩ ⟨rfl, rfl, Nat.zero_le _, Nat.zero_le _⟩ (fun h2 hp => ?_)
    obtain ⟨g2, rfl, q1, q2⟩ := hp
    have hM2 : MH (hset h (m + 1) (aI 6070 g2)) m p n q s := (hset_ne _ _ (by omega)).trans hM
    refine e_aload_n (pc := 86) dX11_digit_86 rfl rfl ?_
    refine e_get (pc := 87) fl_X11_7 dX11_digit_87 (by repeat (first | assumption | exact hset_eq _ _ _ | (apply Lay.hd; assumption) | rw [hset_ne _ _ (by omega)])) (by rfl) ?_
    refine n_sipush (pc := 90) 130 dX11_digit_90 (by decide) ?_
    refine e_iload_n (pc := 93) dX11_digit_93 rfl rfl ?_
    refine n_imul (pc := 94) dX11_digit_94 ?_
    refine n_iconst (pc := 95) 2 dX11_digit_95 (by decide) ?_
    refine n_iadd (pc := 96) dX11_digit_96 ?_
    refine n_bipush (pc := 97) 25 dX11_digit_97 (by decide) ?_
    refine e_iload_n (pc := 99) dX11_digit_99 rfl rfl ?_
    refine n_imul (pc := 100) dX11_digit_100 ?_
    refine n_iadd (pc := 101) dX11_digit_101 ?_
    refine n_iconst (pc := 102) 5 dX11_digit_102 (by decide) ?_
    refine e_iload_n (pc := 103) dX11_digit_103 rfl rfl ?_
    refine n_imul (pc := 104) dX11_digit_104 ?_
    refine n_iadd (pc := 105) dX11_digit_105 ?_
    refine e_iload (pc := 106) dX11_digit_106 rfl ?_
    refine n_iadd (pc := 108) dX11_digit_108 ?_
    refine e_iload (pc := 109) dX11_digit_109 rfl ?_
    refine e_iastN (pc := 111) (130 * a + 2 + (25 * i' + 5 * j' + k')) dX11_digit_111 (by repeat (first | assumption | exact hset_eq _ _ _ | (apply Lay.hd; assumption) | rw [hset_ne _ _ (by omega)])) (congrArg nI (by omega)) (by omega) (by first | decide | omega) ?_
    refine n_iconst (pc := 112) 1 dX11_digit_112 (by decide) ?_
    have q3 := q2 (upd g2 (130 * a + 2 + (25 * i' + 5 * j' + k')) (nI v')) (wput (x.ws a) i' j' k' v') ⟨by rw [pk_un (by omega), q1 _ (by omega)]; exact w1, by rw [pk_un (by omega), q1 _ (by omega)]; exact w2, fun c hc => by
      show _ = nI (if c = 25 * i' + 5 * j' + k' then v' else (x.ws a).2.2 c)
      by_cases e : c = 25 * i' + 5 * j' + k'
      · rw [if_pos e, e, pk_us]
      · rw [if_neg e, pk_un (by omega), q1 _ (by omega)]; exact w3 c hc⟩ (fun t ht => pk_un (by omega))
    have up := hX.nw (hset_hset h (m + 1) (aI 6070 g2) (aI 6070 (upd g2 (130 * a + 2 + (25 * i' + 5 * j' + k')) (nI v')))) q3
    refine n_zret (pc := 113) dX11_digit_113 rfl rfl ⟨_, qT (by rw [wld_nI ha, ok6 ha, c1, c2, c3, c4]; rfl) ⟨rfl, ?_⟩, up⟩
    rw [wld_nI ha, cl_nI (by omega), cl_nI (by omega), cl_nI (by omega), cl_nI (by omega), cl_nI (by omega)]
  · refine n_iconst (pc := 7) 0 dX11_digit_7 (by decide) ?_
    exact n_zret (pc := 8) dX11_digit_8 rfl rfl ⟨x, qF (by rw [c]; rfl) ⟨rfl, rfl⟩, hX, Er.rf _ _ _⟩
def tnC (W : Wd) (w t : Nat) : Nat := W.2.2 (tix w (t / 25) (t / 5 % 5) (t % 5))
theorem tix_in {n w i j k : Nat} (hw : w < 6) (hi : i < 5) (hj : j < 5) (hk : k < 5) (q : inC n (tix w i j k)) : i < n ∧ j < n ∧ k < n := by
  have e : w = 0 ∨ w = 1 ∨ w = 2 ∨ w = 3 ∨ w = 4 ∨ w = 5 := by omega
  rcases e with rfl | rfl | rfl | rfl | rfl | rfl
  all_goals
    unfold inC at q
    simp only [tix] at q
    omega
theorem tnC_w {W : Wd} {w t : Nat} (hk : Wok W) (hw : w < 6) (ht : t < 125) : tnC W w t = (wturn W w).2.2 t := by
  show _ = if inC W.2.1 t ∧ t < 125 then W.2.2 (tix w (t / 25) (t / 5 % 5) (t % 5)) else 0
  by_cases e : inC W.2.1 t
  · rw [if_pos ⟨e, ht⟩]; rfl
  · rw [if_neg (fun q => e q.1)]
    refine (hk.2.2.2.2 _).2 (fun q => e ?_)
    obtain ⟨q1, q2, q3⟩ := tix_in hw (show t / 25 < 5 by omega) (show t / 5 % 5 < 5 by omega) (show t % 5 < 5 by omega) q
    exact ⟨by omega, by omega, by omega, by omega⟩
theorem l_tn_f {sz c w i j k : Nat} {g6 : Option Value} {Pr : AH → Prop} (hw : w < 6) (hi : i < 5) (hj : j < 5) (hk : k < 5)
    (kk : VV MX11_turns sz Pr h 136 [some (.ref m), some (.ref c), some (.int (nI w)), some (.int (nI i)), some (.int (nI j)), some (.int (nI k)), g6] [.int (nI (tix w i j k))]) : VV MX11_turns sz Pr h 25 [some (.ref m), some (.ref c), some (.int (nI w)), some (.int (nI i)), some (.int (nI j)), some (.int (nI k)), g6] [] := by
  have e : w = 0 ∨ w = 1 ∨ w = 2 ∨ w = 3 ∨ w = 4 ∨ w = 5 := by omega
  refine e_iload_n (pc := 25) dX11_turns_25 rfl rfl ?_
  rcases e with rfl | rfl | rfl | rfl | rfl | rfl
  · refine n_if_ne (pc := 26) (tgt := 44) dX11_turns_26 (by decide) (by omega) (fun c => absurd c (by omega)) (fun hb_ => ?_)
    refine n_bipush (pc := 29) 25 dX11_turns_29 (by decide) ?_
    refine e_iload_n (pc := 31) dX11_turns_31 rfl rfl ?_
    refine n_imul (pc := 32) dX11_turns_32 ?_
    refine n_iconst (pc := 33) 5 dX11_turns_33 (by decide) ?_
    refine e_iload (pc := 34) dX11_turns_34 rfl ?_
    refine n_imul (pc := 36) dX11_turns_36 ?_
    refine n_iadd (pc := 37) dX11_turns_37 ?_
    refine e_iload (pc := 38) dX11_turns_38 rfl ?_
    refine n_iadd (pc := 40) dX11_turns_40 ?_
    refine e_goto (pc := 41) (tgt := 136) dX11_turns_41 (by decide) ?_
    exact kk
  · refine n_if_ne (pc := 26) (tgt := 44) dX11_turns_26 (by decide) (by omega) (fun hb_ => ?_) (fun c => absurd c (by omega))
    refine e_iload_n (pc := 44) dX11_turns_44 rfl rfl ?_
    refine n_iconst (pc := 45) 1 dX11_turns_45 (by decide) ?_
    refine n_icmp_ne (pc := 46) (tgt := 64) dX11_turns_46 (by decide) (by omega) (by omega) (fun c => absurd c (by omega)) (fun hb_ => ?_)
    refine n_bipush (pc := 49) 25 dX11_turns_49 (by decide) ?_
    refine e_iload (pc := 51) dX11_turns_51 rfl ?_
    refine n_imul (pc := 53) dX11_turns_53 ?_
    refine n_iconst (pc := 54) 5 dX11_turns_54 (by decide) ?_
    refine e_iload_n (pc := 55) dX11_turns_55 rfl rfl ?_
    refine n_imul (pc := 56) dX11_turns_56 ?_
    refine n_iadd (pc := 57) dX11_turns_57 ?_
    refine e_iload (pc := 58) dX11_turns_58 rfl ?_
    refine n_iadd (pc := 60) dX11_turns_60 ?_
    refine e_goto (pc := 61) (tgt := 136) dX11_turns_61 (by decide) ?_
    exact kk
  · refine n_if_ne (pc := 26) (tgt := 44) dX11_turns_26 (by decide) (by omega) (fun hb_ => ?_) (fun c => absurd c (by omega))
    refine e_iload_n (pc := 44) dX11_turns_44 rfl rfl ?_
    refine n_iconst (pc := 45) 1 dX11_turns_45 (by decide) ?_
    refine n_icmp_ne (pc := 46) (tgt := 64) dX11_turns_46 (by decide) (by omega) (by omega) (fun hb_ => ?_) (fun c => absurd c (by omega))
    refine e_iload_n (pc := 64) dX11_turns_64 rfl rfl ?_
    refine n_iconst (pc := 65) 2 dX11_turns_65 (by decide) ?_
    refine n_icmp_ne (pc := 66) (tgt := 84) dX11_turns_66 (by decide) (by omega) (by omega) (fun c => absurd c (by omega)) (fun hb_ => ?_)
    refine n_bipush (pc := 69) 25 dX11_turns_69 (by decide) ?_
    refine e_iload (pc := 71) dX11_turns_71 rfl ?_
    refine n_imul (pc := 73) dX11_turns_73 ?_
    refine n_iconst (pc := 74) 5 dX11_turns_74 (by decide) ?_
    refine e_iload (pc := 75) dX11_turns_75 rfl ?_
    refine n_imul (pc := 77) dX11_turns_77 ?_
    refine n_iadd (pc := 78) dX11_turns_78 ?_
    refine e_iload_n (pc := 79) dX11_turns_79 rfl rfl ?_
    refine n_iadd (pc := 80) dX11_turns_80 ?_
    refine e_goto (pc := 81) (tgt := 136) dX11_turns_81 (by decide) ?_
    exact kk
  · refine n_if_ne (pc := 26) (tgt := 44) dX11_turns_26 (by decide) (by omega) (fun hb_ => ?_) (fun c => absurd c (by omega))
    refine e_iload_n (pc := 44) dX11_turns_44 rfl rfl ?_
    refine n_iconst (pc := 45) 1 dX11_turns_45 (by decide) ?_
    refine n_icmp_ne (pc := 46) (tgt := 64) dX11_turns_46 (by decide) (by omega) (by omega) (fun hb_ => ?_) (fun c => absurd c (by omega))
    refine e_iload_n (pc := 64) dX11_turns_64 rfl rfl ?_
    refine n_iconst (pc := 65) 2 dX11_turns_65 (by decide) ?_
    refine n_icmp_ne (pc := 66) (tgt := 84) dX11_turns_66 (by decide) (by omega) (by omega) (fun hb_ => ?_) (fun c => absurd c (by omega))
    refine e_iload_n (pc := 84) dX11_turns_84 rfl rfl ?_
    refine n_iconst (pc := 85) 3 dX11_turns_85 (by decide) ?_
    refine n_icmp_ne (pc := 86) (tgt := 104) dX11_turns_86 (by decide) (by omega) (by omega) (fun c => absurd c (by omega)) (fun hb_ => ?_)
    refine n_bipush (pc := 89) 25 dX11_turns_89 (by decide) ?_
    refine e_iload_n (pc := 91) dX11_turns_91 rfl rfl ?_
    refine n_imul (pc := 92) dX11_turns_92 ?_
    refine n_iconst (pc := 93) 5 dX11_turns_93 (by decide) ?_
    refine e_iload (pc := 94) dX11_turns_94 rfl ?_
    refine n_imul (pc := 96) dX11_turns_96 ?_
    refine n_iadd (pc := 97) dX11_turns_97 ?_
    refine e_iload (pc := 98) dX11_turns_98 rfl ?_
    refine n_iadd (pc := 100) dX11_turns_100 ?_
    refine e_goto (pc := 101) (tgt := 136) dX11_turns_101 (by decide) ?_
    exact kk
  · refine n_if_ne (pc := 26) (tgt := 44) dX11_turns_26 (by decide) (by omega) (fun hb_ => ?_) (fun c => absurd c (by omega))
    refine e_iload_n (pc := 44) dX11_turns_44 rfl rfl ?_
    refine n_iconst (pc := 45) 1 dX11_turns_45 (by decide) ?_
    refine n_icmp_ne (pc := 46) (tgt := 64) dX11_turns_46 (by decide) (by omega) (by omega) (fun hb_ => ?_) (fun c => absurd c (by omega))
    refine e_iload_n (pc := 64) dX11_turns_64 rfl rfl ?_
    refine n_iconst (pc := 65) 2 dX11_turns_65 (by decide) ?_
    refine n_icmp_ne (pc := 66) (tgt := 84) dX11_turns_66 (by decide) (by omega) (by omega) (fun hb_ => ?_) (fun c => absurd c (by omega))
    refine e_iload_n (pc := 84) dX11_turns_84 rfl rfl ?_
    refine n_iconst (pc := 85) 3 dX11_turns_85 (by decide) ?_
    refine n_icmp_ne (pc := 86) (tgt := 104) dX11_turns_86 (by decide) (by omega) (by omega) (fun hb_ => ?_) (fun c => absurd c (by omega))
    refine e_iload_n (pc := 104) dX11_turns_104 rfl rfl ?_
    refine n_iconst (pc := 105) 4 dX11_turns_105 (by decide) ?_
    refine n_icmp_ne (pc := 106) (tgt := 124) dX11_turns_106 (by decide) (by omega) (by omega) (fun c => absurd c (by omega)) (fun hb_ => ?_)
    refine n_bipush (pc := 109) 25 dX11_turns_109 (by decide) ?_
    refine e_iload (pc := 111) dX11_turns_111 rfl ?_
    refine n_imul (pc := 113) dX11_turns_113 ?_
    refine n_iconst (pc := 114) 5 dX11_turns_114 (by decide) ?_
    refine e_iload_n (pc := 115) dX11_turns_115 rfl rfl ?_
    refine n_imul (pc := 116) dX11_turns_116 ?_
    refine n_iadd (pc := 117) dX11_turns_117 ?_
    refine e_iload (pc := 118) dX11_turns_118 rfl ?_
    refine n_iadd (pc := 120) dX11_turns_120 ?_
    refine e_goto (pc := 121) (tgt := 136) dX11_turns_121 (by decide) ?_
    exact kk
  · refine n_if_ne (pc := 26) (tgt := 44) dX11_turns_26 (by decide) (by omega) (fun hb_ => ?_) (fun c => absurd c (by omega))
    refine e_iload_n (pc := 44) dX11_turns_44 rfl rfl ?_
    refine n_iconst (pc := 45) 1 dX11_turns_45 (by decide) ?_
    refine n_icmp_ne (pc := 46) (tgt := 64) dX11_turns_46 (by decide) (by omega) (by omega) (fun hb_ => ?_) (fun c => absurd c (by omega))
    refine e_iload_n (pc := 64) dX11_turns_64 rfl rfl ?_
    refine n_iconst (pc := 65) 2 dX11_turns_65 (by decide) ?_
    refine n_icmp_ne (pc := 66) (tgt := 84) dX11_turns_66 (by decide) (by omega) (by omega) (fun hb_ => ?_) (fun c => absurd c (by omega))
    refine e_iload_n (pc := 84) dX11_turns_84 rfl rfl ?_
    refine n_iconst (pc := 85) 3 dX11_turns_85 (by decide) ?_
    refine n_icmp_ne (pc := 86) (tgt := 104) dX11_turns_86 (by decide) (by omega) (by omega) (fun hb_ => ?_) (fun c => absurd c (by omega))
    refine e_iload_n (pc := 104) dX11_turns_104 rfl rfl ?_
    refine n_iconst (pc := 105) 4 dX11_turns_105 (by decide) ?_
    refine n_icmp_ne (pc := 106) (tgt := 124) dX11_turns_106 (by decide) (by omega) (by omega) (fun hb_ => ?_) (fun c => absurd c (by omega))
    refine n_bipush (pc := 124) 25 dX11_turns_124 (by decide) ?_
    refine e_iload (pc := 126) dX11_turns_126 rfl ?_
    refine n_imul (pc := 128) dX11_turns_128 ?_
    refine n_iconst (pc := 129) 5 dX11_turns_129 (by decide) ?_
    refine e_iload (pc := 130) dX11_turns_130 rfl ?_
    refine n_imul (pc := 132) dX11_turns_132 ?_
    refine n_iadd (pc := 133) dX11_turns_133 ?_
    refine e_iload_n (pc := 134) dX11_turns_134 rfl rfl ?_
    refine n_iadd (pc := 135) dX11_turns_135 ?_
    exact kk
theorem tix_lt {w i j k : Nat} (hw : w < 6) (hi : i < 5) (hj : j < 5) (hk : k < 5) : tix w i j k < 125 := by
  have e : w = 0 ∨ w = 1 ∨ w = 2 ∨ w = 3 ∨ w = 4 ∨ w = 5 := by omega
  rcases e with rfl | rfl | rfl | rfl | rfl | rfl
  all_goals
    simp only [tix]
    omega
section TN
variable {p n q : Nat} {s : Ms} {W : Wd} {c w sz : Nat} {gc : Nat → Int32} {Pr : AH → Prop}
theorem l_tn_k (hM : MH h m p n q s) (hc : h c = some (aI 125 gc)) (hg : ∀ k, k < 125 → gc k = nI (W.2.2 k)) (hcm : c ≠ m + 7) (hw : w < 6) {i j : Nat} (hi : i < 5) (hj : j < 5)
    (kk : ∀ g, (∀ t, t < 25 * i + 5 * (j + 1) → g t = nI (tnC W w t)) → VV MX11_turns sz Pr (hset h (m + 7) (aI 125 g)) 165 [some (.ref m), some (.ref c), some (.int (nI w)), some (.int (nI i)), some (.int (nI j)), none, none] []) :
    ∀ (t k : Nat), t = 5 - k → k ≤ 5 → ∀ g l6, (∀ t, t < 25 * i + 5 * j + k → g t = nI (tnC W w t)) → VV MX11_turns sz Pr (hset h (m + 7) (aI 125 g)) 19 [some (.ref m), some (.ref c), some (.int (nI w)), some (.int (nI i)), some (.int (nI j)), some (.int (nI k)), l6] [] := by
  intro t
  induction t with
  | zero =>
    intro k e1 e2 g l6 h1
    have e' : k = 5 := by omega
    subst e'
    refine e_iload (pc := 19) dX11_turns_19 rfl ?_
    refine n_iconst (pc := 21) 5 dX11_turns_21 (by decide) ?_
    refine n_icmp_ge (pc := 22) (tgt := 165) dX11_turns_22 (by decide) (by omega) (by omega) (fun hb_ => ?_) (fun c => absurd c (by omega))
    refine V.mask [true, true, true, true, true, false, false] ?_
    exact kk g (fun t ht => h1 t (by omega))
  | succ t ih =>
    intro k e1 e2 g l6 h1
    have hM1 : MH (hset h (m + 7) (aI 125 g)) m p n q s := (hset_ne _ _ (by omega)).trans hM
    have tl := tix_lt hw hi hj (show k < 5 by omega)
    have z := hg (tix w i j k) tl
    refine e_iload (pc := 19) dX11_turns_19 rfl ?_
    refine n_iconst (pc := 21) 5 dX11_turns_21 (by decide) ?_
    refine n_icmp_ge (pc := 22) (tgt := 165) dX11_turns_22 (by decide) (by omega) (by omega) (fun c => absurd c (by omega)) (fun hb_ => ?_)
    refine l_tn_f hw hi hj (by omega) ?_
    refine e_istore (pc := 136) dX11_turns_136 (by decide) ?_
    refine e_aload_n (pc := 138) dX11_turns_138 rfl rfl ?_
    refine e_get (pc := 139) fl_X11_28 dX11_turns_139 (by repeat (first | assumption | exact hset_eq _ _ _ | (apply Lay.hd; assumption) | rw [hset_ne _ _ (by omega)])) (by rfl) ?_
    refine n_bipush (pc := 142) 25 dX11_turns_142 (by decide) ?_
    refine e_iload_n (pc := 144) dX11_turns_144 rfl rfl ?_
    refine n_imul (pc := 145) dX11_turns_145 ?_
    refine n_iconst (pc := 146) 5 dX11_turns_146 (by decide) ?_
    refine e_iload (pc := 147) dX11_turns_147 rfl ?_
    refine n_imul (pc := 149) dX11_turns_149 ?_
    refine n_iadd (pc := 150) dX11_turns_150 ?_
    refine e_iload (pc := 151) dX11_turns_151 rfl ?_
    refine n_iadd (pc := 153) dX11_turns_153 ?_
    refine e_aload_n (pc := 154) dX11_turns_154 rfl rfl ?_
    refine e_iload (pc := 155) dX11_turns_155 rfl ?_
    refine e_ialdN (pc := 157) (tix w i j k) dX11_turns_157 (by repeat (first | assumption | exact hset_eq _ _ _ | (apply Lay.hd; assumption) | rw [hset_ne _ _ (by omega)])) (by rfl) (by omega) (by first | decide | omega) ?_
    rw [z]
    refine e_iastN (pc := 158) (25 * i + 5 * j + k) dX11_turns_158 (by repeat (first | assumption | exact hset_eq _ _ _ | (apply Lay.hd; assumption) | rw [hset_ne _ _ (by omega)])) (by rfl) (by omega) (by first | decide | omega) ?_
    refine e_heap (hset_hset h (m + 7) _ _) ?_
    refine n_inc (pc := 159) dX11_turns_159 rfl (by decide) ?_
    refine e_goto (pc := 162) (tgt := 19) dX11_turns_162 (by decide) ?_
    refine ih (k + 1) (by omega) (by omega) _ _ (fun t ht => ?_)
    by_cases e : t = 25 * i + 5 * j + k
    · rw [e, pk_us]
      unfold tnC
      rw [show (25 * i + 5 * j + k) / 25 = i by omega, show (25 * i + 5 * j + k) / 5 % 5 = j by omega, show (25 * i + 5 * j + k) % 5 = k by omega]
    · rw [pk_un e]; exact h1 t (by omega)
theorem l_tn_j (hM : MH h m p n q s) (hc : h c = some (aI 125 gc)) (hg : ∀ k, k < 125 → gc k = nI (W.2.2 k)) (hcm : c ≠ m + 7) (hw : w < 6) {i : Nat} (hi : i < 5)
    (kk : ∀ g, (∀ t, t < 25 * (i + 1) → g t = nI (tnC W w t)) → VV MX11_turns sz Pr (hset h (m + 7) (aI 125 g)) 171 [some (.ref m), some (.ref c), some (.int (nI w)), some (.int (nI i)), none, none, none] []) :
    ∀ (t j : Nat), t = 5 - j → j ≤ 5 → ∀ g, (∀ t, t < 25 * i + 5 * j → g t = nI (tnC W w t)) → VV MX11_turns sz Pr (hset h (m + 7) (aI 125 g)) 10 [some (.ref m), some (.ref c), some (.int (nI w)), some (.int (nI i)), some (.int (nI j)), none, none] [] := by
  intro t
  induction t with
  | zero =>
    intro j e1 e2 g h1
    have e' : j = 5 := by omega
    subst e'
    refine e_iload (pc := 10) dX11_turns_10 rfl ?_
    refine n_iconst (pc := 12) 5 dX11_turns_12 (by decide) ?_
    refine n_icmp_ge (pc := 13) (tgt := 171) dX11_turns_13 (by decide) (by omega) (by omega) (fun hb_ => ?_) (fun c => absurd c (by omega))
    refine V.mask [true, true, true, true, false, false, false] ?_
    exact kk g (fun t ht => h1 t (by omega))
  | succ t ih =>
    intro j e1 e2 g h1
    refine e_iload (pc := 10) dX11_turns_10 rfl ?_
    refine n_iconst (pc := 12) 5 dX11_turns_12 (by decide) ?_
    refine n_icmp_ge (pc := 13) (tgt := 171) dX11_turns_13 (by decide) (by omega) (by omega) (fun c => absurd c (by omega)) (fun hb_ => ?_)
    refine n_iconst (pc := 16) 0 dX11_turns_16 (by decide) ?_
    refine e_istore (pc := 17) dX11_turns_17 (by decide) ?_
    refine l_tn_k hM hc hg hcm hw hi (show j < 5 by omega) (fun g2 hg2 => ?_) 5 0 rfl (Nat.zero_le _) g none (fun t ht => h1 t (by omega))
    refine n_inc (pc := 165) dX11_turns_165 rfl (by decide) ?_
    refine e_goto (pc := 168) (tgt := 10) dX11_turns_168 (by decide) ?_
    exact ih (j + 1) (by omega) (by omega) g2 hg2
theorem l_tn_i (hM : MH h m p n q s) (hc : h c = some (aI 125 gc)) (hg : ∀ k, k < 125 → gc k = nI (W.2.2 k)) (hcm : c ≠ m + 7) (hw : w < 6) :
    ∀ (t i : Nat), t = 5 - i → i ≤ 5 → ∀ g, (∀ t, t < 25 * i → g t = nI (tnC W w t)) → VV MX11_turns sz (fun h' => ∃ g, h' = hset h (m + 7) (aI 125 g) ∧ ∀ t, t < 125 → g t = nI (tnC W w t)) (hset h (m + 7) (aI 125 g)) 2 [some (.ref m), some (.ref c), some (.int (nI w)), some (.int (nI i)), none, none, none] [] := by
  intro t
  induction t with
  | zero =>
    intro i e1 e2 g h1
    have e' : i = 5 := by omega
    subst e'
    refine e_iload_n (pc := 2) dX11_turns_2 rfl rfl ?_
    refine n_iconst (pc := 3) 5 dX11_turns_3 (by decide) ?_
    refine n_icmp_ge (pc := 4) (tgt := 177) dX11_turns_4 (by decide) (by omega) (by omega) (fun hb_ => ?_) (fun c => absurd c (by omega))
    exact n_vret (pc := 177) dX11_turns_177 rfl ⟨g, rfl, h1⟩
  | succ t ih =>
    intro i e1 e2 g h1
    refine e_iload_n (pc := 2) dX11_turns_2 rfl rfl ?_
    refine n_iconst (pc := 3) 5 dX11_turns_3 (by decide) ?_
    refine n_icmp_ge (pc := 4) (tgt := 177) dX11_turns_4 (by decide) (by omega) (by omega) (fun c => absurd c (by omega)) (fun hb_ => ?_)
    refine n_iconst (pc := 7) 0 dX11_turns_7 (by decide) ?_
    refine e_istore (pc := 8) dX11_turns_8 (by decide) ?_
    refine l_tn_j hM hc hg hcm hw (show i < 5 by omega) (fun g2 hg2 => ?_) 5 0 rfl (Nat.zero_le _) g h1
    refine n_inc (pc := 171) dX11_turns_171 rfl (by decide) ?_
    refine e_goto (pc := 174) (tgt := 2) dX11_turns_174 (by decide) ?_
    exact ih (i + 1) (by omega) (by omega) g2 hg2
theorem c_X11_turns (hM : MH h m p n q s) (hc : CuA h c W) (hk : Wok W) (hcm : c ≠ m + 7) (hw : w < 6) {g0 : Nat → Int32} (h7 : h (m + 7) = some (aI 125 g0)) : CV yX11_turns MX11_turns [.ref m, .ref c, .int (nI w)] h (fun h' => ∃ g, h' = hset h (m + 7) (aI 125 g) ∧ ∀ t, t < 125 → g t = nI ((wturn W w).2.2 t)) := by
  obtain ⟨gc, c1, c2⟩ := hc
  refine CV.ofV (by decide) rfl rfl (by simp [Value.category]) (by exact Nat.le_of_ble_eq_true rfl) (fun sz => ?_)
  refine n_iconst (pc := 0) 0 dX11_turns_0 (by decide) ?_
  refine e_istore_n (pc := 1) dX11_turns_1 rfl (by decide) ?_
  refine e_heap (hset_self h7).symm ?_
  refine V.post ?_ (l_tn_i (W := W) hM c1 c2 hcm hw 5 0 rfl (Nat.zero_le _) g0 (fun t ht => absurd ht (Nat.not_lt_zero t)))
  intro r h' z qq
  obtain ⟨e1, e2, g, rfl, e3⟩ := qq
  exact ⟨e1, e2, g, rfl, fun t ht => by rw [e3 t ht, tnC_w hk hw ht]⟩
end TN
theorem c_X11_turn (hX : MAt h m x y ik len f ft fp) (hx : SxOk x) (a b w : Int32) : CI yX11_turn MX11_turn [.ref m, .int a, .int b, .int w] h (fun z h' => ∃ x2, QS_turn x a b w z x2 ∧ MAt h' m x2 y ik len f ft fp ∧ Er m (m + 107) h h') := by
  obtain ⟨⟨p, n, q, s, hM, hs⟩, hR, ⟨g, hw, hg⟩, -⟩ := id hX
  have no : (okI a 6 && (okI b 6 && okI w 6)) = false → ∀ (sz : Nat) (l : List (Option Value)), VI MX11_turn sz (fun z h' => ∃ x2, QS_turn x a b w z x2 ∧ MAt h' m x2 y ik len f ft fp ∧ Er m (m + 107) h h') h 23 l [] := fun q sz l => by
    refine n_iconst (pc := 23) 0 dX11_turn_23 (by decide) ?_
    exact n_zret (pc := 24) dX11_turn_24 rfl rfl ⟨x, qF q ⟨rfl, rfl⟩, hX, Er.rf _ _ _⟩
  refine CI.ofV (by decide) rfl rfl (by simp [Value.category]) (by exact Nat.le_of_ble_eq_true rfl) (fun sz => ?_)
  refine e_iload_n (pc := 0) dX11_turn_0 rfl rfl ?_
  refine n_SP (pc := 1) (c_X11_isWorld a) bX11_isWorld q_st_X11_isWorld q_m_X11_143 dX11_turn_1 rfl rfl (by exact Nat.le_of_ble_eq_true rfl) ⟨by decide, by decide⟩ ⟨rfl, rfl, Nat.zero_le _, Nat.zero_le _⟩ ?_
  refine n_bif_eq (pc := 4) (tgt := 23) dX11_turn_4 (by decide) (fun c1 => ?_) (fun c1 => ?_)
  · exact no (by rw [c1]; rfl) sz _
  refine e_iload_n (pc := 7) dX11_turn_7 rfl rfl ?_
  refine n_SP (pc := 8) (c_X11_isWorld b) bX11_isWorld q_st_X11_isWorld q_m_X11_143 dX11_turn_8 rfl rfl (by exact Nat.le_of_ble_eq_true rfl) ⟨by decide, by decide⟩ ⟨rfl, rfl, Nat.zero_le _, Nat.zero_le _⟩ ?_
  refine n_bif_eq (pc := 11) (tgt := 23) dX11_turn_11 (by decide) (fun c2 => ?_) (fun c2 => ?_)
  · exact no (by rw [c2, Bool.false_and, Bool.and_false]) sz _
  refine e_iload_n (pc := 14) dX11_turn_14 rfl rfl ?_
  refine n_iconst (pc := 15) 0 dX11_turn_15 (by decide) ?_
  refine n_iconst (pc := 16) 5 dX11_turn_16 (by decide) ?_
  refine n_SP (pc := 17) (c_X11_isIn w (nI 0) (nI 5)) bX11_isIn q_st_X11_isIn q_m_X11_98 dX11_turn_17 rfl rfl (by exact Nat.le_of_ble_eq_true rfl) ⟨by decide, by decide⟩ ⟨rfl, rfl, Nat.zero_le _, Nat.zero_le _⟩ ?_
  rw [inB_ok (by decide)]
  refine n_bif_ne (pc := 20) (tgt := 25) dX11_turn_20 (by decide) (fun c3 => ?_) (fun c3 => no (by rw [c3, Bool.and_false, Bool.and_false]) sz _)
  obtain ⟨a', ha, rfl⟩ := okI_of (by decide) c1
  obtain ⟨b', hb, rfl⟩ := okI_of (by decide) c2
  obtain ⟨w', hw', rfl⟩ := okI_of (by decide) c3
  have wk := hx.1 a' (by omega)
  refine e_aload_n (pc := 25) dX11_turn_25 rfl rfl ?_
  refine e_iload_n (pc := 26) dX11_turn_26 rfl rfl ?_
  refine n_Vv (pc := 27) (c_X11_laysOut hM hR hw (hg.1 a' ha) wk ha) bX11_laysOut q_i_X11_laysOut q_s_X11_laysOut q_m_X11_147 dX11_turn_27 rfl rfl (by repeat (first | assumption | exact hset_eq _ _ _ | (apply Lay.hd; assumption) | rw [hset_ne _ _ (by omega)])) rfl rfl (by exact Nat.le_of_ble_eq_true rfl) ⟨by decide, by decide⟩ ⟨rfl, rfl, Nat.zero_le _, Nat.zero_le _⟩ (fun h2 hp => ?_)
  obtain ⟨hX2, q2⟩ := hX.laid (p := p) (n := n) (q := q) hs hp
  obtain ⟨l2, -⟩ := id hp
  obtain ⟨g7, h7⟩ := l2.2.2.row (k := 7) (isR_d _ (by decide))
  refine e_aload_n (pc := 30) dX11_turn_30 rfl rfl ?_
  refine e_aload_n (pc := 31) dX11_turn_31 rfl rfl ?_
  refine e_get (pc := 32) fl_X11_16 dX11_turn_32 (by repeat (first | assumption | exact hset_eq _ _ _ | (apply Lay.hd; assumption) | rw [hset_ne _ _ (by omega)])) (by rfl) ?_
  refine e_iload_n (pc := 35) dX11_turn_35 rfl rfl ?_
  refine n_Vv (pc := 36) (c_X11_turns l2.1 l2.2.1 wk (by omega) hw' h7) bX11_turns q_i_X11_turns q_s_X11_turns q_m_X11_150 dX11_turn_36 rfl rfl (by repeat (first | assumption | exact hset_eq _ _ _ | (apply Lay.hd; assumption) | rw [hset_ne _ _ (by omega)])) rfl rfl (by exact Nat.le_of_ble_eq_true rfl) ⟨by decide, by decide⟩ ⟨rfl, rfl, Nat.zero_le _, Nat.zero_le _⟩ (fun h3 hp => ?_)
  obtain ⟨gt, rfl, q3⟩ := hp
  have hM3 : MH (hset h2 (m + 7) (aI 125 gt)) m (wturn (x.ws a') w').1 (wturn (x.ws a') w').2.1 ((x.ws a').1 ^ (x.ws a').2.1) s := (hset_ne _ _ (by omega)).trans l2.1
  have hX3 := hX2.re hM3 hs (l2.2.2.set (isR_d 7 (by decide)) rfl) ((FmC.rf m h2).set (by omega))
  refine e_aload_n (pc := 39) dX11_turn_39 rfl rfl ?_
  refine e_iload_n (pc := 40) dX11_turn_40 rfl rfl ?_
  refine e_aload_n (pc := 41) dX11_turn_41 rfl rfl ?_
  refine e_get (pc := 42) fl_X11_28 dX11_turn_42 (by repeat (first | assumption | exact hset_eq _ _ _ | (apply Lay.hd; assumption) | rw [hset_ne _ _ (by omega)])) (by rfl) ?_
  refine n_Vv (pc := 45) (c_X11_becomes (W := wturn (x.ws a') w') hM3 ((q2.set (k := 7) (by omega) _ (by omega)).trans hw) hx hg hb ⟨gt, hset_eq _ _ _, q3⟩ (by omega)) bX11_becomes q_i_X11_becomes q_s_X11_becomes q_m_X11_154 dX11_turn_45 rfl rfl (by repeat (first | assumption | exact hset_eq _ _ _ | (apply Lay.hd; assumption) | rw [hset_ne _ _ (by omega)])) rfl rfl (by exact Nat.le_of_ble_eq_true rfl) ⟨by decide, by decide⟩ ⟨rfl, rfl, Nat.zero_le _, Nat.zero_le _⟩ (fun h4 hp => ?_)
  obtain ⟨g4, p1, p2⟩ := hp
  have up := hX3.nw p1 p2
  refine n_iconst (pc := 48) 1 dX11_turn_48 (by decide) ?_
  refine n_zret (pc := 49) dX11_turn_49 rfl rfl ⟨_, qT (by rw [ok6 ha, ok6 hb, c3]; rfl) ⟨rfl, ?_⟩, up.1, ((q2.set (k := 7) (by omega)).er).tr up.2⟩
  rw [wld_nI ha, cl_nI (by omega), cl_nI (by omega)]
end M6
