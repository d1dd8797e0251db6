/-! ===== the reference: questions of the plane ===== -/
section MPQ
variable {h : AH} {m : Nat} {x y : Sx} {ik : Bool} {len : Nat} {f : Nat → Nat} {ft fp : Int32}
theorem c_X11_one (b : Bool) : CP yX11_one MX11_one [.int (bI b)] h (bI b) := by
  refine CI.ofV (by decide) rfl rfl (by simp [Value.category]) (by exact Nat.le_of_ble_eq_true rfl) (fun sz => ?_)
  refine e_iload_n (pc := 0) dX11_one_0 rfl rfl ?_
  refine n_bif_eq (pc := 1) (tgt := 8) dX11_one_1 (by decide) (fun c => ?_) (fun c => ?_)
  · subst c
    refine n_iconst (pc := 8) 0 dX11_one_8 (by decide) ?_
    exact n_iret (pc := 9) dX11_one_9 rfl ⟨rfl, rfl⟩
  · subst c
    refine n_iconst (pc := 4) 1 dX11_one_4 (by decide) ?_
    refine e_goto (pc := 5) (tgt := 9) dX11_one_5 (by decide) ?_
    exact n_iret (pc := 9) dX11_one_9 rfl ⟨rfl, rfl⟩
theorem c_X11_plane (hX : MAt h m x y ik len f ft fp) (hx : SxOk x) (w u v t : Int32) : CI yX11_plane MX11_plane [.ref m, .int w, .int u, .int v, .int t] h (fun z h' => Q_plane x w u v t z ∧ MAt h' m x y ik len f ft fp ∧ Er m (m + 107) h h') := by
  obtain ⟨⟨p, n, q, s, hM, hs⟩, hR, ⟨g, hw, hg⟩, -⟩ := id hX
  refine CI.ofV (by decide) rfl rfl (by simp [Value.category]) (by exact Nat.le_of_ble_eq_true rfl) (fun sz => ?_)
  refine e_iload_n (pc := 0) dX11_plane_0 rfl rfl ?_
  refine n_SP (pc := 1) (c_X11_isWorld w) bX11_isWorld q_st_X11_isWorld q_m_X11_143 dX11_plane_1 rfl rfl (by exact Nat.le_of_ble_eq_true rfl) ⟨by decide, by decide⟩ ⟨rfl, rfl, Nat.zero_le _, Nat.zero_le _⟩ ?_
  refine n_bif_eq (pc := 4) (tgt := 17) dX11_plane_4 (by decide) (fun c => ?_) (fun c => ?_)
  · refine e_iconst (pc := 17) (v := -1) dX11_plane_17 (by decide) ?_
    exact n_iret (pc := 18) dX11_plane_18 rfl ⟨qF (by rw [c]; rfl) rfl, hX, Er.rf _ _ _⟩
  obtain ⟨a, ha, rfl⟩ := okI_of (by decide) c
  have wk := hx.1 a (by omega)
  obtain ⟨b1, b2, b3, b4, b5⟩ := wk.b
  have pos := wk.pos
  have qq : (x.ws a).1 ^ (x.ws a).2.1 * (x.ws a).1 ^ (x.ws a).2.1 ≤ 243 * 243 := Nat.mul_le_mul b5 b5
  have hl : lastP (x.ws a) = (x.ws a).1 ^ (x.ws a).2.1 * (x.ws a).1 ^ (x.ws a).2.1 + (x.ws a).1 ^ (x.ws a).2.1 := rfl
  refine e_iload (pc := 7) dX11_plane_7 rfl ?_
  refine n_iconst (pc := 9) 0 dX11_plane_9 (by decide) ?_
  refine n_iconst (pc := 10) 2 dX11_plane_10 (by decide) ?_
  refine n_SP (pc := 11) (c_X11_isIn t (nI 0) (nI 2)) bX11_isIn q_st_X11_isIn q_m_X11_98 dX11_plane_11 rfl rfl (by exact Nat.le_of_ble_eq_true rfl) ⟨by decide, by decide⟩ ⟨rfl, rfl, Nat.zero_le _, Nat.zero_le _⟩ ?_
  rw [inB_ok (by decide)]
  refine n_bif_ne (pc := 14) (tgt := 19) dX11_plane_14 (by decide) (fun c2 => ?_) (fun c2 => ?_)
  rotate_left
  · have nt : ∀ k, k < 3 → t ≠ nI k := fun k hk q => by rw [q, okq hk (by omega)] at c2; cases c2
    refine e_iconst (pc := 17) (v := -1) dX11_plane_17 (by decide) ?_
    refine n_iret (pc := 18) dX11_plane_18 rfl ⟨?_, hX, Er.rf _ _ _⟩
    unfold Q_plane
    split
    · unfold PlP
      rw [if_neg (nt 0 (by decide)), if_neg (nt 1 (by decide)), if_neg (nt 2 (by decide))]
    · rfl
  obtain ⟨t', ht, rfl⟩ := okI_of (by decide) c2
  refine e_aload_n (pc := 19) dX11_plane_19 rfl rfl ?_
  refine e_iload_n (pc := 20) dX11_plane_20 rfl rfl ?_
  refine n_Vv (pc := 21) (c_X11_laysOut hM hR hw (hg.1 a ha) wk ha) bX11_laysOut q_i_X11_laysOut q_s_X11_laysOut q_m_X11_147 dX11_plane_21 rfl rfl (by repeat (first | assumption | exact hset_eq _ _ _ | (apply Lay.hd; assumption) | rw [hset_ne _ _ (by omega)])) rfl rfl (by exact Nat.le_of_ble_eq_true rfl) ⟨by decide, by decide⟩ ⟨rfl, rfl, Nat.zero_le _, Nat.zero_le _⟩ (fun h2 hp => ?_)
  obtain ⟨l2, -⟩ := id hp
  obtain ⟨hX2, q2⟩ := hX.laid (p := p) (n := n) (q := q) hs hp
  have no : ∀ h3, Lay h3 m (x.ws a) s → FmC m h2 h3 → ((bl (Div (x.ws a)) && (okI u (lastP (x.ws a) + 1) && okI v (lastP (x.ws a) + 1))) = false ∨ (t' < 2 ∧ u = v)) → ∀ (sz : Nat) (l : List (Option Value)), VI MX11_plane sz (fun z h' => Q_plane x (nI a) u v (nI t') z ∧ MAt h' m x y ik len f ft fp ∧ Er m (m + 107) h h') h3 87 l [] := fun h3 l3 f3 hq sz l => by
    refine e_iconst (pc := 87) (v := -1) dX11_plane_87 (by decide) ?_
    refine n_iret (pc := 88) dX11_plane_88 rfl ⟨?_, hX2.re l3.1 hs l3.2.2 f3, (q2.tr f3).er⟩
    unfold Q_plane
    rw [wld_nI ha, ok6 ha, Bool.true_and]
    rcases hq with hq | ⟨hq, rfl⟩
    · rw [if_neg (by rw [hq]; decide)]
    · split
      · unfold PlP
        have e : t' = 0 ∨ t' = 1 := by omega
        rcases e with rfl | rfl
        · rw [if_pos rfl, if_pos rfl]
        · rw [if_neg (by decide), if_pos rfl, if_pos rfl]
      · rfl
  refine e_iload_n (pc := 24) dX11_plane_24 rfl rfl ?_
  refine n_iconst (pc := 25) 0 dX11_plane_25 (by decide) ?_
  refine e_aload_n (pc := 26) dX11_plane_26 rfl rfl ?_
  refine e_get (pc := 27) fl_X11_112 dX11_plane_27 (by repeat (first | assumption | exact hset_eq _ _ _ | (apply Lay.hd; assumption) | rw [hset_ne _ _ (by omega)])) (by rfl) ?_
  refine e_aload_n (pc := 30) dX11_plane_30 rfl rfl ?_
  refine e_get (pc := 31) fl_X11_112 dX11_plane_31 (by repeat (first | assumption | exact hset_eq _ _ _ | (apply Lay.hd; assumption) | rw [hset_ne _ _ (by omega)])) (by rfl) ?_
  refine n_imul (pc := 34) dX11_plane_34 ?_
  refine e_aload_n (pc := 35) dX11_plane_35 rfl rfl ?_
  refine e_get (pc := 36) fl_X11_112 dX11_plane_36 (by repeat (first | assumption | exact hset_eq _ _ _ | (apply Lay.hd; assumption) | rw [hset_ne _ _ (by omega)])) (by rfl) ?_
  refine n_iadd (pc := 39) dX11_plane_39 ?_
  refine n_SP (pc := 40) (c_X11_isIn u (nI 0) (nI ((x.ws a).1 ^ (x.ws a).2.1 * (x.ws a).1 ^ (x.ws a).2.1 + (x.ws a).1 ^ (x.ws a).2.1))) bX11_isIn q_st_X11_isIn q_m_X11_98 dX11_plane_40 rfl rfl (by exact Nat.le_of_ble_eq_true rfl) ⟨by decide, by decide⟩ ⟨rfl, rfl, Nat.zero_le _, Nat.zero_le _⟩ ?_
  rw [inB_ok (by omega), ← hl]
  refine n_bif_eq (pc := 43) (tgt := 87) dX11_plane_43 (by decide) (fun c3 => ?_) (fun c3 => ?_)
  · exact no h2 l2 (FmC.rf _ _) (Or.inl (by rw [c3, Bool.false_and, Bool.and_false])) sz _
  refine e_iload_n (pc := 46) dX11_plane_46 rfl rfl ?_
  refine n_iconst (pc := 47) 0 dX11_plane_47 (by decide) ?_
  refine e_aload_n (pc := 48) dX11_plane_48 rfl rfl ?_
  refine e_get (pc := 49) fl_X11_112 dX11_plane_49 (by repeat (first | assumption | exact hset_eq _ _ _ | (apply Lay.hd; assumption) | rw [hset_ne _ _ (by omega)])) (by rfl) ?_
  refine e_aload_n (pc := 52) dX11_plane_52 rfl rfl ?_
  refine e_get (pc := 53) fl_X11_112 dX11_plane_53 (by repeat (first | assumption | exact hset_eq _ _ _ | (apply Lay.hd; assumption) | rw [hset_ne _ _ (by omega)])) (by rfl) ?_
  refine n_imul (pc := 56) dX11_plane_56 ?_
  refine e_aload_n (pc := 57) dX11_plane_57 rfl rfl ?_
  refine e_get (pc := 58) fl_X11_112 dX11_plane_58 (by repeat (first | assumption | exact hset_eq _ _ _ | (apply Lay.hd; assumption) | rw [hset_ne _ _ (by omega)])) (by rfl) ?_
  refine n_iadd (pc := 61) dX11_plane_61 ?_
  refine n_SP (pc := 62) (c_X11_isIn v (nI 0) (nI ((x.ws a).1 ^ (x.ws a).2.1 * (x.ws a).1 ^ (x.ws a).2.1 + (x.ws a).1 ^ (x.ws a).2.1))) bX11_isIn q_st_X11_isIn q_m_X11_98 dX11_plane_62 rfl rfl (by exact Nat.le_of_ble_eq_true rfl) ⟨by decide, by decide⟩ ⟨rfl, rfl, Nat.zero_le _, Nat.zero_le _⟩ ?_
  rw [inB_ok (by omega), ← hl]
  refine n_bif_eq (pc := 65) (tgt := 87) dX11_plane_65 (by decide) (fun c4 => ?_) (fun c4 => ?_)
  · exact no h2 l2 (FmC.rf _ _) (Or.inl (by rw [c4, Bool.and_false, Bool.and_false])) sz _
  obtain ⟨u', hu, rfl⟩ := okI_of (by omega) c3
  obtain ⟨v', hv, rfl⟩ := okI_of (by omega) c4
  have rest : ¬ (t' < 2 ∧ u' = v') → VI MX11_plane sz (fun z h' => Q_plane x (nI a) (nI u') (nI v') (nI t') z ∧ MAt h' m x y ik len f ft fp ∧ Er m (m + 107) h h') h2 79 [some (.ref m), some (.int (nI a)), some (.int (nI u')), some (.int (nI v')), some (.int (nI t'))] [] := fun hn => by
    refine e_aload_n (pc := 79) dX11_plane_79 rfl rfl ?_
    refine n_V (pc := 80) (c_X11_firstFail l2 wk) bX11_firstFail q_i_X11_firstFail q_s_X11_firstFail q_m_X11_275 dX11_plane_80 rfl rfl (by repeat (first | assumption | exact hset_eq _ _ _ | (apply Lay.hd; assumption) | rw [hset_ne _ _ (by omega)])) rfl rfl (by exact Nat.le_of_ble_eq_true rfl) ⟨by decide, by decide⟩ ⟨rfl, rfl, Nat.zero_le _, Nat.zero_le _⟩ (fun z h3 hp3 => ?_)
    obtain ⟨p1, l3, f3⟩ := hp3
    refine e_iconst (pc := 83) (v := -1) dX11_plane_83 (by decide) ?_
    refine e_icmp_eq (pc := 84) (tgt := 89) dX11_plane_84 (by decide) (fun c5 => ?_) (fun c5 => ?_)
    · have hD : Div (x.ws a) := (p1.div wk).mp c5
      have fin : ∀ z h', PlP (x.ws a) u' v' (nI t') z → Lay h' m (x.ws a) s → FdM m h3 h' → Q_plane x (nI a) (nI u') (nI v') (nI t') z ∧ MAt h' m x y ik len f ft fp ∧ Er m (m + 107) h h' := fun z h' k1 k2 k3 => by
        refine ⟨qT (by rw [wld_nI ha, ok6 ha, bl_t hD, c3, c4]; rfl) ?_, hX2.re k2.1 hs k2.2.2 (f3.qf.tr k3.ff.qf), (q2.tr (f3.qf.tr k3.ff.qf)).er⟩
        rw [wld_nI ha, cl_nI (by omega), cl_nI (by omega)]
        exact k1
      have e : t' = 0 ∨ t' = 1 ∨ t' = 2 := by omega
      rcases e with rfl | rfl | rfl
      · refine e_iload (pc := 89) dX11_plane_89 rfl ?_
        refine n_if_ne (pc := 91) (tgt := 103) dX11_plane_91 (by decide) (by omega) (fun c => absurd c (by omega)) (fun hb_ => ?_)
        refine e_aload_n (pc := 94) dX11_plane_94 rfl rfl ?_
        refine e_iload_n (pc := 95) dX11_plane_95 rfl rfl ?_
        refine e_iload_n (pc := 96) dX11_plane_96 rfl rfl ?_
        refine n_V (pc := 97) (c_join (d := 10) (by decide) l3 wk hD (show u' ≠ v' by omega) (show u' ≤ lastP (x.ws a) by omega) (show v' ≤ lastP (x.ws a) by omega)) bX11_join q_i_X11_join q_s_X11_join q_m_X11_347 dX11_plane_97 rfl rfl (by repeat (first | assumption | exact hset_eq _ _ _ | (apply Lay.hd; assumption) | rw [hset_ne _ _ (by omega)])) rfl rfl (by exact Nat.le_of_ble_eq_true rfl) ⟨by decide, by decide⟩ ⟨rfl, rfl, Nat.zero_le _, Nat.zero_le _⟩ (fun z h4 hp4 => ?_)
        obtain ⟨rfl, l4, d4⟩ := hp4
        refine e_goto (pc := 100) (tgt := 127) dX11_plane_100 (by decide) ?_
        exact n_iret (pc := 127) dX11_plane_127 rfl (fin _ _ (by unfold PlP; rw [if_pos rfl, if_neg (by omega)]) l4 d4)
      · refine e_iload (pc := 89) dX11_plane_89 rfl ?_
        refine n_if_ne (pc := 91) (tgt := 103) dX11_plane_91 (by decide) (by omega) (fun hb_ => ?_) (fun c => absurd c (by omega))
        refine e_iload (pc := 103) dX11_plane_103 rfl ?_
        refine n_iconst (pc := 105) 1 dX11_plane_105 (by decide) ?_
        refine n_icmp_ne (pc := 106) (tgt := 118) dX11_plane_106 (by decide) (by omega) (by omega) (fun c => absurd c (by omega)) (fun hb_ => ?_)
        refine e_aload_n (pc := 109) dX11_plane_109 rfl rfl ?_
        refine e_iload_n (pc := 110) dX11_plane_110 rfl rfl ?_
        refine e_iload_n (pc := 111) dX11_plane_111 rfl rfl ?_
        refine n_V (pc := 112) (c_meet (d := 10) (by decide) l3 wk hD (show u' ≠ v' by omega) (show u' ≤ lastP (x.ws a) by omega) (show v' ≤ lastP (x.ws a) by omega)) bX11_meet q_i_X11_meet q_s_X11_meet q_m_X11_356 dX11_plane_112 rfl rfl (by repeat (first | assumption | exact hset_eq _ _ _ | (apply Lay.hd; assumption) | rw [hset_ne _ _ (by omega)])) rfl rfl (by exact Nat.le_of_ble_eq_true rfl) ⟨by decide, by decide⟩ ⟨rfl, rfl, Nat.zero_le _, Nat.zero_le _⟩ (fun z h4 hp4 => ?_)
        obtain ⟨rfl, l4, d4⟩ := hp4
        refine e_goto (pc := 115) (tgt := 127) dX11_plane_115 (by decide) ?_
        exact n_iret (pc := 127) dX11_plane_127 rfl (fin _ _ (by unfold PlP; rw [if_neg (by decide), if_pos rfl, if_neg (by omega)]) l4 d4)
      · refine e_iload (pc := 89) dX11_plane_89 rfl ?_
        refine n_if_ne (pc := 91) (tgt := 103) dX11_plane_91 (by decide) (by omega) (fun hb_ => ?_) (fun c => absurd c (by omega))
        refine e_iload (pc := 103) dX11_plane_103 rfl ?_
        refine n_iconst (pc := 105) 1 dX11_plane_105 (by decide) ?_
        refine n_icmp_ne (pc := 106) (tgt := 118) dX11_plane_106 (by decide) (by omega) (by omega) (fun hb_ => ?_) (fun c => absurd c (by omega))
        refine e_aload_n (pc := 118) dX11_plane_118 rfl rfl ?_
        refine e_iload_n (pc := 119) dX11_plane_119 rfl rfl ?_
        refine e_iload_n (pc := 120) dX11_plane_120 rfl rfl ?_
        refine n_V (pc := 121) (c_X11_isOn l3 wk (show u' ≤ lastP (x.ws a) by omega) (show v' ≤ lastP (x.ws a) by omega)) bX11_isOn q_i_X11_isOn q_s_X11_isOn q_m_X11_353 dX11_plane_121 rfl rfl (by repeat (first | assumption | exact hset_eq _ _ _ | (apply Lay.hd; assumption) | rw [hset_ne _ _ (by omega)])) rfl rfl (by exact Nat.le_of_ble_eq_true rfl) ⟨by decide, by decide⟩ ⟨rfl, rfl, Nat.zero_le _, Nat.zero_le _⟩ (fun z h4 hp4 => ?_)
        obtain ⟨rfl, l4, d4⟩ := hp4
        refine n_SP (pc := 124) (c_X11_one (bl (OnP (x.ws a) u' v'))) bX11_one q_st_X11_one q_m_X11_278 dX11_plane_124 rfl rfl (by exact Nat.le_of_ble_eq_true rfl) ⟨by decide, by decide⟩ ⟨rfl, rfl, Nat.zero_le _, Nat.zero_le _⟩ ?_
        exact n_iret (pc := 127) dX11_plane_127 rfl (fin _ _ (by unfold PlP; rw [if_neg (by decide), if_neg (by decide), if_pos rfl]) l4 d4)
    · have hD : ¬ Div (x.ws a) := fun z => c5 ((p1.div wk).mpr z)
      exact no h3 l3 f3.qf (Or.inl (by rw [bl_f hD]; rfl)) sz _
  refine e_iload (pc := 68) dX11_plane_68 rfl ?_
  refine n_iconst (pc := 70) 2 dX11_plane_70 (by decide) ?_
  refine n_icmp_ge (pc := 71) (tgt := 79) dX11_plane_71 (by decide) (by omega) (by omega) (fun c6 => ?_) (fun c6 => ?_)
  · exact rest (by omega)
  · refine e_iload_n (pc := 74) dX11_plane_74 rfl rfl ?_
    refine e_iload_n (pc := 75) dX11_plane_75 rfl rfl ?_
    refine n_icmp_eq (pc := 76) (tgt := 87) dX11_plane_76 (by decide) (by omega) (by omega) (fun c7 => ?_) (fun c7 => ?_)
    · exact no h2 l2 (FmC.rf _ _) (Or.inr ⟨by omega, by rw [c7]⟩) sz _
    · exact rest (by omega)
end MPQ
