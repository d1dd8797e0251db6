/-! ===== the reference: of ===== -/
section MOF
variable {h : AH} {m : Nat} {x y : Sx} {ik : Bool} {len : Nat} {f : Nat → Nat} {ft fp : Int32}
theorem c_X11_of (hX : MAt h m x y ik len f ft fp) (hx : SxOk x) (w t : Int32) : CI yX11_of MX11_of [.ref m, .int w, .int t] h (fun z h' => Q_of x w t z ∧ MAt h' m x y ik len f ft fp ∧ Er m (m + 107) h h') := by
  obtain ⟨⟨p, n, q, s, hM, hs⟩, hR, ⟨g, hw, hg⟩, -⟩ := id hX
  refine CI.ofV (by decide) rfl rfl (by simp [Value.category]) (by exact Nat.le_of_ble_eq_true rfl) (fun sz => ?_)
  refine e_iload_n (pc := 0) dX11_of_0 rfl rfl ?_
  refine n_SP (pc := 1) (c_X11_isWorld w) bX11_isWorld q_st_X11_isWorld q_m_X11_143 dX11_of_1 rfl rfl (by exact Nat.le_of_ble_eq_true rfl) ⟨by decide, by decide⟩ ⟨rfl, rfl, Nat.zero_le _, Nat.zero_le _⟩ ?_
  refine n_bif_ne (pc := 4) (tgt := 10) dX11_of_4 (by decide) (fun c => ?_) (fun c => ?_)
  · obtain ⟨a, ha, rfl⟩ := okI_of (by decide) c
    have wk := hx.1 a (by omega)
    have b := wk.b
    have cl : wld x (nI a) = x.ws a := wld_nI ha
    have o6 := ok6 ha
    have n2 : (x.ws a).2.1 * (x.ws a).2.1 ≤ 5 * 5 := Nat.mul_le_mul b.2.2.2.1 b.2.2.2.1
    refine e_aload_n (pc := 10) dX11_of_10 rfl rfl ?_
    refine e_iload_n (pc := 11) dX11_of_11 rfl rfl ?_
    refine n_Vv (pc := 12) (c_X11_laysOut hM hR hw (hg.1 a ha) wk ha) bX11_laysOut q_i_X11_laysOut q_s_X11_laysOut q_m_X11_147 dX11_of_12 rfl rfl (by repeat (first | assumption | exact hset_eq _ _ _ | (apply Lay.hd; assumption) | rw [hset_ne _ _ (by omega)])) rfl rfl (by exact Nat.le_of_ble_eq_true rfl) ⟨by decide, by decide⟩ ⟨rfl, rfl, Nat.zero_le _, Nat.zero_le _⟩ (fun h2 hp => ?_)
    obtain ⟨hL, -⟩ := id hp
    have fin : ∀ {h3 : AH} {z : Int32}, OfP (x.ws a) t z → Lay h3 m (x.ws a) s → FmC m h2 h3 → Q_of x (nI a) t z ∧ MAt h3 m x y ik len f ft fp ∧ Er m (m + 107) h h3 := fun {h3 z} q1 q2 q3 => ⟨qT o6 (by rw [cl]; exact q1), hX.qd hs hp q2 q3⟩
    refine e_iload_n (pc := 15) dX11_of_15 rfl rfl ?_
    cases ht : okI t (17 + 1) with
    | false =>
      refine e_switchOut (pc := 16) (tgt := 239) dX11_of_16 (sw_out (n := 17) (by decide) ht) (by decide) ?_
      refine e_bipush (pc := 239) (v := -2) dX11_of_239 (by decide) ?_
      exact n_iret (pc := 241) dX11_of_241 rfl (fin (OfP_out ht) hL (FmC.rf _ _))
    | true =>
      obtain ⟨t', t1, rfl⟩ := okI_of (by omega) ht
      match t', t1 with
      | 0, _ =>
        refine e_switchIn (pc := 16) (off := 88) (tgt := 104) dX11_of_16 (by decide) (by decide) (by decide) (by decide) ?_
        refine e_aload_n (pc := 104) dX11_of_104 rfl rfl ?_
        refine e_get (pc := 105) fl_X11_106 dX11_of_105 (by repeat (first | assumption | exact hset_eq _ _ _ | (apply Lay.hd; assumption) | rw [hset_ne _ _ (by omega)])) (by rfl) ?_
        refine n_iret (pc := 108) dX11_of_108 rfl (fin ?_ hL (FmC.rf _ _))
        unfold OfP; rw [if_pos rfl]
      | 1, _ =>
        refine e_switchIn (pc := 16) (off := 93) (tgt := 109) dX11_of_16 (by decide) (by decide) (by decide) (by decide) ?_
        refine e_aload_n (pc := 109) dX11_of_109 rfl rfl ?_
        refine e_get (pc := 110) fl_X11_109 dX11_of_110 (by repeat (first | assumption | exact hset_eq _ _ _ | (apply Lay.hd; assumption) | rw [hset_ne _ _ (by omega)])) (by rfl) ?_
        refine n_iret (pc := 113) dX11_of_113 rfl (fin ?_ hL (FmC.rf _ _))
        unfold OfP; rw [if_neg (by decide), if_pos rfl]
      | 2, _ =>
        refine e_switchIn (pc := 16) (off := 98) (tgt := 114) dX11_of_16 (by decide) (by decide) (by decide) (by decide) ?_
        refine e_aload_n (pc := 114) dX11_of_114 rfl rfl ?_
        refine e_get (pc := 115) fl_X11_112 dX11_of_115 (by repeat (first | assumption | exact hset_eq _ _ _ | (apply Lay.hd; assumption) | rw [hset_ne _ _ (by omega)])) (by rfl) ?_
        refine n_iret (pc := 118) dX11_of_118 rfl (fin ?_ hL (FmC.rf _ _))
        unfold OfP; rw [if_neg (by decide), if_neg (by decide), if_pos rfl]
      | 3, _ =>
        refine e_switchIn (pc := 16) (off := 103) (tgt := 119) dX11_of_16 (by decide) (by decide) (by decide) (by decide) ?_
        refine e_aload_n (pc := 119) dX11_of_119 rfl rfl ?_
        refine n_V (pc := 120) (c_X11_firstFail hL wk) bX11_firstFail q_i_X11_firstFail q_s_X11_firstFail q_m_X11_275 dX11_of_120 rfl rfl (by repeat (first | assumption | exact hset_eq _ _ _ | (apply Lay.hd; assumption) | rw [hset_ne _ _ (by omega)])) rfl rfl (by exact Nat.le_of_ble_eq_true rfl) ⟨by decide, by decide⟩ ⟨rfl, rfl, Nat.zero_le _, Nat.zero_le _⟩ (fun z h3 hp => ?_)
        obtain ⟨p1, p2, p3⟩ := hp
        have hL3 := p2
        refine e_iconst (pc := 123) (v := -1) dX11_of_123 (by decide) ?_
        by_cases hD : Div (x.ws a)
        · have e := (p1.div wk).mpr hD
          subst e
          refine e_icmp_ne (pc := 124) (tgt := 131) dX11_of_124 (by decide) (fun q => absurd rfl q) (fun _ => ?_)
          refine n_iconst (pc := 127) 1 dX11_of_127 (by decide) ?_
          refine e_goto (pc := 128) (tgt := 132) dX11_of_128 (by decide) ?_
          refine n_SP (pc := 132) (c_X11_one true) bX11_one q_st_X11_one q_m_X11_278 dX11_of_132 rfl rfl (by exact Nat.le_of_ble_eq_true rfl) ⟨by decide, by decide⟩ ⟨rfl, rfl, Nat.zero_le _, Nat.zero_le _⟩ ?_
          refine n_iret (pc := 135) dX11_of_135 rfl (fin ?_ p2 p3.qf)
          unfold OfP; rw [if_neg (by decide), if_neg (by decide), if_neg (by decide), if_pos rfl]
          rw [bl_t hD]
        · have ne : z ≠ -1 := fun e => hD ((p1.div wk).mp e)
          refine e_icmp_ne (pc := 124) (tgt := 131) dX11_of_124 (by decide) (fun _ => ?_) (fun q => absurd q ne)
          refine n_iconst (pc := 131) 0 dX11_of_131 (by decide) ?_
          refine n_SP (pc := 132) (c_X11_one false) bX11_one q_st_X11_one q_m_X11_278 dX11_of_132 rfl rfl (by exact Nat.le_of_ble_eq_true rfl) ⟨by decide, by decide⟩ ⟨rfl, rfl, Nat.zero_le _, Nat.zero_le _⟩ ?_
          refine n_iret (pc := 135) dX11_of_135 rfl (fin ?_ p2 p3.qf)
          unfold OfP; rw [if_neg (by decide), if_neg (by decide), if_neg (by decide), if_pos rfl]
          rw [bl_f hD]
      | 4, _ =>
        refine e_switchIn (pc := 16) (off := 120) (tgt := 136) dX11_of_16 (by decide) (by decide) (by decide) (by decide) ?_
        refine e_aload_n (pc := 136) dX11_of_136 rfl rfl ?_
        refine n_V (pc := 137) (c_X11_firstFail hL wk) bX11_firstFail q_i_X11_firstFail q_s_X11_firstFail q_m_X11_275 dX11_of_137 rfl rfl (by repeat (first | assumption | exact hset_eq _ _ _ | (apply Lay.hd; assumption) | rw [hset_ne _ _ (by omega)])) rfl rfl (by exact Nat.le_of_ble_eq_true rfl) ⟨by decide, by decide⟩ ⟨rfl, rfl, Nat.zero_le _, Nat.zero_le _⟩ (fun z h3 hp => ?_)
        obtain ⟨p1, p2, p3⟩ := hp
        refine n_iret (pc := 140) dX11_of_140 rfl (fin ?_ p2 p3.qf)
        unfold OfP; rw [if_neg (by decide), if_neg (by decide), if_neg (by decide), if_neg (by decide), if_pos rfl]
        exact p1
      | 5, _ =>
        refine e_switchIn (pc := 16) (off := 125) (tgt := 141) dX11_of_16 (by decide) (by decide) (by decide) (by decide) ?_
        refine e_aload_n (pc := 141) dX11_of_141 rfl rfl ?_
        refine n_V (pc := 142) (c_X11_unit hL wk) bX11_unit q_i_X11_unit q_s_X11_unit q_m_X11_282 dX11_of_142 rfl rfl (by repeat (first | assumption | exact hset_eq _ _ _ | (apply Lay.hd; assumption) | rw [hset_ne _ _ (by omega)])) rfl rfl (by exact Nat.le_of_ble_eq_true rfl) ⟨by decide, by decide⟩ ⟨rfl, rfl, Nat.zero_le _, Nat.zero_le _⟩ (fun z h3 hp => ?_)
        obtain ⟨p1, p2, p3⟩ := hp
        refine n_iret (pc := 145) dX11_of_145 rfl (fin ?_ p2 p3.qf)
        unfold OfP; rw [if_neg (by decide), if_neg (by decide), if_neg (by decide), if_neg (by decide), if_neg (by decide), if_pos rfl]
        exact p1
      | 6, _ =>
        refine e_switchIn (pc := 16) (off := 130) (tgt := 146) dX11_of_16 (by decide) (by decide) (by decide) (by decide) ?_
        refine e_aload_n (pc := 146) dX11_of_146 rfl rfl ?_
        refine n_VP (pc := 147) (c_X11_commutes hL wk) bX11_commutes q_i_X11_commutes q_s_X11_commutes q_m_X11_285 dX11_of_147 rfl rfl (by repeat (first | assumption | exact hset_eq _ _ _ | (apply Lay.hd; assumption) | rw [hset_ne _ _ (by omega)])) rfl rfl (by exact Nat.le_of_ble_eq_true rfl) ⟨by decide, by decide⟩ ⟨rfl, rfl, Nat.zero_le _, Nat.zero_le _⟩ ?_
        refine n_SP (pc := 150) (c_X11_one (bl (Wcom (x.ws a)))) bX11_one q_st_X11_one q_m_X11_278 dX11_of_150 rfl rfl (by exact Nat.le_of_ble_eq_true rfl) ⟨by decide, by decide⟩ ⟨rfl, rfl, Nat.zero_le _, Nat.zero_le _⟩ ?_
        refine n_iret (pc := 153) dX11_of_153 rfl (fin ?_ hL (FmC.rf _ _))
        unfold OfP; rw [if_neg (by decide), if_neg (by decide), if_neg (by decide), if_neg (by decide), if_neg (by decide), if_neg (by decide), if_pos rfl]
      | 7, _ =>
        refine e_switchIn (pc := 16) (off := 138) (tgt := 154) dX11_of_16 (by decide) (by decide) (by decide) (by decide) ?_
        refine e_aload_n (pc := 154) dX11_of_154 rfl rfl ?_
        refine n_V (pc := 155) (c_X11_firstApart hL wk) bX11_firstApart q_i_X11_firstApart q_s_X11_firstApart q_m_X11_288 dX11_of_155 rfl rfl (by repeat (first | assumption | exact hset_eq _ _ _ | (apply Lay.hd; assumption) | rw [hset_ne _ _ (by omega)])) rfl rfl (by exact Nat.le_of_ble_eq_true rfl) ⟨by decide, by decide⟩ ⟨rfl, rfl, Nat.zero_le _, Nat.zero_le _⟩ (fun z h3 hp => ?_)
        obtain ⟨p1, p2, p3⟩ := hp
        refine e_iconst (pc := 158) (v := -1) dX11_of_158 (by decide) ?_
        rcases p1 with ⟨i, j, k, rfl, i1, j1, k1, hn, -⟩ | ⟨rfl, hj⟩
        · refine e_icmp_ne (pc := 159) (tgt := 166) dX11_of_159 (by decide) (fun _ => ?_) (fun q => absurd q (nI_ne (by omega)))
          refine n_iconst (pc := 166) 0 dX11_of_166 (by decide) ?_
          refine n_SP (pc := 167) (c_X11_one false) bX11_one q_st_X11_one q_m_X11_278 dX11_of_167 rfl rfl (by exact Nat.le_of_ble_eq_true rfl) ⟨by decide, by decide⟩ ⟨rfl, rfl, Nat.zero_le _, Nat.zero_le _⟩ ?_
          refine n_iret (pc := 170) dX11_of_170 rfl (fin ?_ p2 p3.qf)
          unfold OfP; rw [if_neg (by decide), if_neg (by decide), if_neg (by decide), if_neg (by decide), if_neg (by decide), if_neg (by decide), if_neg (by decide), if_pos rfl]
          rw [bl_f (fun q => hn (q i j k i1 j1 k1))]
        · refine e_icmp_ne (pc := 159) (tgt := 166) dX11_of_159 (by decide) (fun q => absurd rfl q) (fun _ => ?_)
          refine n_iconst (pc := 162) 1 dX11_of_162 (by decide) ?_
          refine e_goto (pc := 163) (tgt := 167) dX11_of_163 (by decide) ?_
          refine n_SP (pc := 167) (c_X11_one true) bX11_one q_st_X11_one q_m_X11_278 dX11_of_167 rfl rfl (by exact Nat.le_of_ble_eq_true rfl) ⟨by decide, by decide⟩ ⟨rfl, rfl, Nat.zero_le _, Nat.zero_le _⟩ ?_
          refine n_iret (pc := 170) dX11_of_170 rfl (fin ?_ p2 p3.qf)
          unfold OfP; rw [if_neg (by decide), if_neg (by decide), if_neg (by decide), if_neg (by decide), if_neg (by decide), if_neg (by decide), if_neg (by decide), if_pos rfl]
          rw [bl_t (show Joi (x.ws a) from hj)]
      | 8, _ =>
        refine e_switchIn (pc := 16) (off := 155) (tgt := 171) dX11_of_16 (by decide) (by decide) (by decide) (by decide) ?_
        refine e_aload_n (pc := 171) dX11_of_171 rfl rfl ?_
        refine n_V (pc := 172) (c_X11_firstApart hL wk) bX11_firstApart q_i_X11_firstApart q_s_X11_firstApart q_m_X11_288 dX11_of_172 rfl rfl (by repeat (first | assumption | exact hset_eq _ _ _ | (apply Lay.hd; assumption) | rw [hset_ne _ _ (by omega)])) rfl rfl (by exact Nat.le_of_ble_eq_true rfl) ⟨by decide, by decide⟩ ⟨rfl, rfl, Nat.zero_le _, Nat.zero_le _⟩ (fun z h3 hp => ?_)
        obtain ⟨p1, p2, p3⟩ := hp
        refine n_iret (pc := 175) dX11_of_175 rfl (fin ?_ p2 p3.qf)
        unfold OfP; rw [if_neg (by decide), if_neg (by decide), if_neg (by decide), if_neg (by decide), if_neg (by decide), if_neg (by decide), if_neg (by decide), if_neg (by decide), if_pos rfl]
        exact p1
      | 9, _ =>
        refine e_switchIn (pc := 16) (off := 160) (tgt := 176) dX11_of_16 (by decide) (by decide) (by decide) (by decide) ?_
        refine e_aload_n (pc := 176) dX11_of_176 rfl rfl ?_
        refine e_iload_n (pc := 177) dX11_of_177 rfl rfl ?_
        refine n_bipush (pc := 178) 9 dX11_of_178 (by decide) ?_
        refine n_isub (pc := 180) dX11_of_180 (by omega) ?_
        refine n_V (pc := 181) (c_X11_nucleus (side := 0) hL wk (by decide)) bX11_nucleus q_i_X11_nucleus q_s_X11_nucleus q_m_X11_291 dX11_of_181 rfl rfl (by repeat (first | assumption | exact hset_eq _ _ _ | (apply Lay.hd; assumption) | rw [hset_ne _ _ (by omega)])) rfl rfl (by exact Nat.le_of_ble_eq_true rfl) ⟨by decide, by decide⟩ ⟨rfl, rfl, Nat.zero_le _, Nat.zero_le _⟩ (fun z h3 hp => ?_)
        obtain ⟨p1, p2, p3⟩ := hp
        refine n_iret (pc := 184) dX11_of_184 rfl (fin ?_ p2 p3.qf)
        unfold OfP; rw [if_neg (by decide), if_neg (by decide), if_neg (by decide), if_neg (by decide), if_neg (by decide), if_neg (by decide), if_neg (by decide), if_neg (by decide), if_neg (by decide), if_pos rfl]
        exact p1
      | 10, _ =>
        refine e_switchIn (pc := 16) (off := 160) (tgt := 176) dX11_of_16 (by decide) (by decide) (by decide) (by decide) ?_
        refine e_aload_n (pc := 176) dX11_of_176 rfl rfl ?_
        refine e_iload_n (pc := 177) dX11_of_177 rfl rfl ?_
        refine n_bipush (pc := 178) 9 dX11_of_178 (by decide) ?_
        refine n_isub (pc := 180) dX11_of_180 (by omega) ?_
        refine n_V (pc := 181) (c_X11_nucleus (side := 1) hL wk (by decide)) bX11_nucleus q_i_X11_nucleus q_s_X11_nucleus q_m_X11_291 dX11_of_181 rfl rfl (by repeat (first | assumption | exact hset_eq _ _ _ | (apply Lay.hd; assumption) | rw [hset_ne _ _ (by omega)])) rfl rfl (by exact Nat.le_of_ble_eq_true rfl) ⟨by decide, by decide⟩ ⟨rfl, rfl, Nat.zero_le _, Nat.zero_le _⟩ (fun z h3 hp => ?_)
        obtain ⟨p1, p2, p3⟩ := hp
        refine n_iret (pc := 184) dX11_of_184 rfl (fin ?_ p2 p3.qf)
        unfold OfP; rw [if_neg (by decide), if_neg (by decide), if_neg (by decide), if_neg (by decide), if_neg (by decide), if_neg (by decide), if_neg (by decide), if_neg (by decide), if_neg (by decide), if_neg (by decide), if_pos rfl]
        exact p1
      | 11, _ =>
        refine e_switchIn (pc := 16) (off := 160) (tgt := 176) dX11_of_16 (by decide) (by decide) (by decide) (by decide) ?_
        refine e_aload_n (pc := 176) dX11_of_176 rfl rfl ?_
        refine e_iload_n (pc := 177) dX11_of_177 rfl rfl ?_
        refine n_bipush (pc := 178) 9 dX11_of_178 (by decide) ?_
        refine n_isub (pc := 180) dX11_of_180 (by omega) ?_
        refine n_V (pc := 181) (c_X11_nucleus (side := 2) hL wk (by decide)) bX11_nucleus q_i_X11_nucleus q_s_X11_nucleus q_m_X11_291 dX11_of_181 rfl rfl (by repeat (first | assumption | exact hset_eq _ _ _ | (apply Lay.hd; assumption) | rw [hset_ne _ _ (by omega)])) rfl rfl (by exact Nat.le_of_ble_eq_true rfl) ⟨by decide, by decide⟩ ⟨rfl, rfl, Nat.zero_le _, Nat.zero_le _⟩ (fun z h3 hp => ?_)
        obtain ⟨p1, p2, p3⟩ := hp
        refine n_iret (pc := 184) dX11_of_184 rfl (fin ?_ p2 p3.qf)
        unfold OfP; rw [if_neg (by decide), if_neg (by decide), if_neg (by decide), if_neg (by decide), if_neg (by decide), if_neg (by decide), if_neg (by decide), if_neg (by decide), if_neg (by decide), if_neg (by decide), if_neg (by decide), if_pos rfl]
        exact p1
      | 12, _ =>
        refine e_switchIn (pc := 16) (off := 169) (tgt := 185) dX11_of_16 (by decide) (by decide) (by decide) (by decide) ?_
        refine e_aload_n (pc := 185) dX11_of_185 rfl rfl ?_
        refine n_V (pc := 186) (c_X11_centre hL wk) bX11_centre q_i_X11_centre q_s_X11_centre q_m_X11_294 dX11_of_186 rfl rfl (by repeat (first | assumption | exact hset_eq _ _ _ | (apply Lay.hd; assumption) | rw [hset_ne _ _ (by omega)])) rfl rfl (by exact Nat.le_of_ble_eq_true rfl) ⟨by decide, by decide⟩ ⟨rfl, rfl, Nat.zero_le _, Nat.zero_le _⟩ (fun z h3 hp => ?_)
        obtain ⟨p1, p2, p3⟩ := hp
        refine n_iret (pc := 189) dX11_of_189 rfl (fin ?_ p2 p3.qf)
        unfold OfP; rw [if_neg (by decide), if_neg (by decide), if_neg (by decide), if_neg (by decide), if_neg (by decide), if_neg (by decide), if_neg (by decide), if_neg (by decide), if_neg (by decide), if_neg (by decide), if_neg (by decide), if_neg (by decide), if_pos rfl]
        exact p1
      | 13, _ =>
        refine e_switchIn (pc := 16) (off := 174) (tgt := 190) dX11_of_16 (by decide) (by decide) (by decide) (by decide) ?_
        refine e_aload_n (pc := 190) dX11_of_190 rfl rfl ?_
        refine n_V (pc := 191) (c_X11_idempotent hL wk) bX11_idempotent q_i_X11_idempotent q_s_X11_idempotent q_m_X11_297 dX11_of_191 rfl rfl (by repeat (first | assumption | exact hset_eq _ _ _ | (apply Lay.hd; assumption) | rw [hset_ne _ _ (by omega)])) rfl rfl (by exact Nat.le_of_ble_eq_true rfl) ⟨by decide, by decide⟩ ⟨rfl, rfl, Nat.zero_le _, Nat.zero_le _⟩ (fun z h3 hp => ?_)
        obtain ⟨p1, p2, p3⟩ := hp
        refine n_iret (pc := 194) dX11_of_194 rfl (fin ?_ p2 p3.qf)
        unfold OfP; rw [if_neg (by decide), if_neg (by decide), if_neg (by decide), if_neg (by decide), if_neg (by decide), if_neg (by decide), if_neg (by decide), if_neg (by decide), if_neg (by decide), if_neg (by decide), if_neg (by decide), if_neg (by decide), if_neg (by decide), if_pos rfl]
        exact p1
      | 14, _ =>
        refine e_switchIn (pc := 16) (off := 179) (tgt := 195) dX11_of_16 (by decide) (by decide) (by decide) (by decide) ?_
        refine e_aload_n (pc := 195) dX11_of_195 rfl rfl ?_
        refine n_V (pc := 196) (c_X11_planar hL wk) bX11_planar q_i_X11_planar q_s_X11_planar q_m_X11_300 dX11_of_196 rfl rfl (by repeat (first | assumption | exact hset_eq _ _ _ | (apply Lay.hd; assumption) | rw [hset_ne _ _ (by omega)])) rfl rfl (by exact Nat.le_of_ble_eq_true rfl) ⟨by decide, by decide⟩ ⟨rfl, rfl, Nat.zero_le _, Nat.zero_le _⟩ (fun z h3 hp => ?_)
        obtain ⟨p1, p2, p3⟩ := hp
        refine n_iret (pc := 199) dX11_of_199 rfl (fin ?_ p2 p3.qf)
        unfold OfP; rw [if_neg (by decide), if_neg (by decide), if_neg (by decide), if_neg (by decide), if_neg (by decide), if_neg (by decide), if_neg (by decide), if_neg (by decide), if_neg (by decide), if_neg (by decide), if_neg (by decide), if_neg (by decide), if_neg (by decide), if_neg (by decide), if_pos rfl]
        exact p1
      | 15, _ =>
        refine e_switchIn (pc := 16) (off := 184) (tgt := 200) dX11_of_16 (by decide) (by decide) (by decide) (by decide) ?_
        refine e_aload_n (pc := 200) dX11_of_200 rfl rfl ?_
        refine n_V (pc := 201) (c_X11_squares hL wk) bX11_squares q_i_X11_squares q_s_X11_squares q_m_X11_303 dX11_of_201 rfl rfl (by repeat (first | assumption | exact hset_eq _ _ _ | (apply Lay.hd; assumption) | rw [hset_ne _ _ (by omega)])) rfl rfl (by exact Nat.le_of_ble_eq_true rfl) ⟨by decide, by decide⟩ ⟨rfl, rfl, Nat.zero_le _, Nat.zero_le _⟩ (fun z h3 hp => ?_)
        obtain ⟨p1, p2, p3⟩ := hp
        refine n_iret (pc := 204) dX11_of_204 rfl (fin ?_ p2 p3.qf)
        unfold OfP; rw [if_neg (by decide), if_neg (by decide), if_neg (by decide), if_neg (by decide), if_neg (by decide), if_neg (by decide), if_neg (by decide), if_neg (by decide), if_neg (by decide), if_neg (by decide), if_neg (by decide), if_neg (by decide), if_neg (by decide), if_neg (by decide), if_neg (by decide), if_pos rfl]
        exact p1
      | 16, _ =>
        refine e_switchIn (pc := 16) (off := 189) (tgt := 205) dX11_of_16 (by decide) (by decide) (by decide) (by decide) ?_
        refine e_aload_n (pc := 205) dX11_of_205 rfl rfl ?_
        refine e_get (pc := 206) fl_X11_109 dX11_of_206 (by repeat (first | assumption | exact hset_eq _ _ _ | (apply Lay.hd; assumption) | rw [hset_ne _ _ (by omega)])) (by rfl) ?_
        refine e_aload_n (pc := 209) dX11_of_209 rfl rfl ?_
        refine e_get (pc := 210) fl_X11_109 dX11_of_210 (by repeat (first | assumption | exact hset_eq _ _ _ | (apply Lay.hd; assumption) | rw [hset_ne _ _ (by omega)])) (by rfl) ?_
        refine n_imul (pc := 213) dX11_of_213 ?_
        refine e_aload_n (pc := 214) dX11_of_214 rfl rfl ?_
        refine n_iconst (pc := 215) 0 dX11_of_215 (by decide) ?_
        refine n_V (pc := 216) (c_X11_equations (b := false) hL wk) bX11_equations q_i_X11_equations q_s_X11_equations q_m_X11_306 dX11_of_216 rfl rfl (by repeat (first | assumption | exact hset_eq _ _ _ | (apply Lay.hd; assumption) | rw [hset_ne _ _ (by omega)])) rfl rfl (by exact Nat.le_of_ble_eq_true rfl) ⟨by decide, by decide⟩ ⟨rfl, rfl, Nat.zero_le _, Nat.zero_le _⟩ (fun z h3 hp => ?_)
        obtain ⟨rfl, p0, p2, p3⟩ := hp
        have p0 : rkD (x.ws a) ((x.ws a).2.1 * (x.ws a).2.1) 0 0 ≤ (x.ws a).2.1 * (x.ws a).2.1 := p0
        refine n_isub (pc := 219) dX11_of_219 p0 ?_
        refine n_iret (pc := 220) dX11_of_220 rfl (fin ?_ p2 p3.qf)
        unfold OfP; rw [if_neg (by decide), if_neg (by decide), if_neg (by decide), if_neg (by decide), if_neg (by decide), if_neg (by decide), if_neg (by decide), if_neg (by decide), if_neg (by decide), if_neg (by decide), if_neg (by decide), if_neg (by decide), if_neg (by decide), if_neg (by decide), if_neg (by decide), if_neg (by decide), if_pos rfl]
        rfl
      | 17, _ =>
        refine e_switchIn (pc := 16) (off := 205) (tgt := 221) dX11_of_16 (by decide) (by decide) (by decide) (by decide) ?_
        refine n_iconst (pc := 221) 3 dX11_of_221 (by decide) ?_
        refine e_aload_n (pc := 222) dX11_of_222 rfl rfl ?_
        refine e_get (pc := 223) fl_X11_109 dX11_of_223 (by repeat (first | assumption | exact hset_eq _ _ _ | (apply Lay.hd; assumption) | rw [hset_ne _ _ (by omega)])) (by rfl) ?_
        refine n_imul (pc := 226) dX11_of_226 ?_
        refine e_aload_n (pc := 227) dX11_of_227 rfl rfl ?_
        refine e_get (pc := 228) fl_X11_109 dX11_of_228 (by repeat (first | assumption | exact hset_eq _ _ _ | (apply Lay.hd; assumption) | rw [hset_ne _ _ (by omega)])) (by rfl) ?_
        refine n_imul (pc := 231) dX11_of_231 ?_
        rw [show 3 * (x.ws a).2.1 * (x.ws a).2.1 = 3 * ((x.ws a).2.1 * (x.ws a).2.1) from Nat.mul_assoc _ _ _]
        refine e_aload_n (pc := 232) dX11_of_232 rfl rfl ?_
        refine n_iconst (pc := 233) 1 dX11_of_233 (by decide) ?_
        refine n_V (pc := 234) (c_X11_equations (b := true) hL wk) bX11_equations q_i_X11_equations q_s_X11_equations q_m_X11_306 dX11_of_234 rfl rfl (by repeat (first | assumption | exact hset_eq _ _ _ | (apply Lay.hd; assumption) | rw [hset_ne _ _ (by omega)])) rfl rfl (by exact Nat.le_of_ble_eq_true rfl) ⟨by decide, by decide⟩ ⟨rfl, rfl, Nat.zero_le _, Nat.zero_le _⟩ (fun z h3 hp => ?_)
        obtain ⟨rfl, p0, p2, p3⟩ := hp
        have p0 : rkD (x.ws a) (3 * ((x.ws a).2.1 * (x.ws a).2.1)) ((x.ws a).2.1 * (x.ws a).2.1) (2 * ((x.ws a).2.1 * (x.ws a).2.1)) ≤ 3 * ((x.ws a).2.1 * (x.ws a).2.1) := p0
        refine n_isub (pc := 237) dX11_of_237 p0 ?_
        refine n_iret (pc := 238) dX11_of_238 rfl (fin ?_ p2 p3.qf)
        unfold OfP; rw [if_neg (by decide), if_neg (by decide), if_neg (by decide), if_neg (by decide), if_neg (by decide), if_neg (by decide), if_neg (by decide), if_neg (by decide), if_neg (by decide), if_neg (by decide), if_neg (by decide), if_neg (by decide), if_neg (by decide), if_neg (by decide), if_neg (by decide), if_neg (by decide), if_neg (by decide), if_pos rfl]
        rfl
      | t' + 18, h18 => exact absurd h18 (by omega)
  · refine e_bipush (pc := 7) (v := -2) dX11_of_7 (by decide) ?_
    exact n_iret (pc := 9) dX11_of_9 rfl ⟨qF c rfl, hX, Er.rf _ _ _⟩
end MOF
