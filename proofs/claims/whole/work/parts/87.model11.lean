/-! ===== the reference: joining, nuclei, centre, idempotents, squares ===== -/
section MJ
variable {m : Nat} {s : Ms} {W : Wd} {sz : Nat} {hh : AH}
def jX (side a b : Nat) : Nat := match side with
  | 0 => a
  | _ => b
def jY (side a b c : Nat) : Nat := match side with
  | 0 => b
  | 1 => a
  | _ => c
def jZ (side a c : Nat) : Nat := match side with
  | 2 => a
  | _ => c
theorem j_e {side a b c : Nat} (hs : side < 3) : eJ W side a b c = mul W (mul W (jX side a b) (jY side a b c)) (jZ side a c) := by
  have e : side = 0 ∨ side = 1 ∨ side = 2 := by omega
  rcases e with rfl | rfl | rfl <;> rfl
theorem j_l {side a b c : Nat} (hs : side < 3) : lJ W side a b c = mul W (jX side a b) (mul W (jY side a b c) (jZ side a c)) := by
  have e : side = 0 ∨ side = 1 ∨ side = 2 := by omega
  rcases e with rfl | rfl | rfl <;> rfl
theorem l_jo_c {h : AH} {a i j side : Nat} {Pr : Int32 → AH → Prop} (hL : Lay h m W s) (hs : side < 3) (hi : i < 5) (hj : j < 5)
    (kk : VI MX11_joins sz Pr h 83 [some (.ref m), some (.int (nI a)), some (.int (nI side)), some (.int (nI i)), some (.int (nI j)), some (.int (nI (jX side a (W.1 ^ i)))), some (.int (nI (jY side a (W.1 ^ i) (W.1 ^ j)))), some (.int (nI (jZ side a (W.1 ^ j))))] []) : VI MX11_joins sz Pr h 22 [some (.ref m), some (.int (nI a)), some (.int (nI side)), some (.int (nI i)), some (.int (nI j)), none, none, none] [] := by
  have e : side = 0 ∨ side = 1 ∨ side = 2 := by omega
  rcases e with rfl | rfl | rfl
  · refine e_iload_n (pc := 22) dX11_joins_22 rfl rfl ?_
    refine n_if_ne (pc := 23) (tgt := 30) dX11_joins_23 (by decide) (by omega) (fun c => absurd c (by omega)) (fun hb_ => ?_)
    refine e_iload_n (pc := 26) dX11_joins_26 rfl rfl ?_
    refine e_goto (pc := 27) (tgt := 35) dX11_joins_27 (by decide) ?_
    refine e_istore (pc := 35) dX11_joins_35 (by decide) ?_
    refine e_iload_n (pc := 37) dX11_joins_37 rfl rfl ?_
    refine n_iconst (pc := 38) 1 dX11_joins_38 (by decide) ?_
    refine n_icmp_ne (pc := 39) (tgt := 46) dX11_joins_39 (by decide) (by omega) (by omega) (fun hb_ => ?_) (fun c => absurd c (by omega))
    refine e_iload_n (pc := 46) dX11_joins_46 rfl rfl ?_
    refine n_if_ne (pc := 47) (tgt := 58) dX11_joins_47 (by decide) (by omega) (fun c => absurd c (by omega)) (fun hb_ => ?_)
    refine e_aload_n (pc := 50) dX11_joins_50 rfl rfl ?_
    refine e_iload_n (pc := 51) dX11_joins_51 rfl rfl ?_
    refine n_VP (pc := 52) (hL.base (show i < 2 ^ 31 by omega)) bX11_base q_i_X11_base q_s_X11_base q_m_X11_223 dX11_joins_52 rfl rfl (by repeat (first | assumption | exact hset_eq _ _ _ | (apply Lay.hd; assumption) | rw [hset_ne _ _ (by omega)])) rfl rfl (by exact Nat.le_of_ble_eq_true rfl) ⟨by decide, by decide⟩ ⟨rfl, rfl, Nat.zero_le _, Nat.zero_le _⟩ ?_
    refine e_goto (pc := 55) (tgt := 64) dX11_joins_55 (by decide) ?_
    refine e_istore (pc := 64) dX11_joins_64 (by decide) ?_
    refine e_iload_n (pc := 66) dX11_joins_66 rfl rfl ?_
    refine n_iconst (pc := 67) 2 dX11_joins_67 (by decide) ?_
    refine n_icmp_ne (pc := 68) (tgt := 75) dX11_joins_68 (by decide) (by omega) (by omega) (fun hb_ => ?_) (fun c => absurd c (by omega))
    refine e_aload_n (pc := 75) dX11_joins_75 rfl rfl ?_
    refine e_iload (pc := 76) dX11_joins_76 rfl ?_
    refine n_VP (pc := 78) (hL.base (show j < 2 ^ 31 by omega)) bX11_base q_i_X11_base q_s_X11_base q_m_X11_223 dX11_joins_78 rfl rfl (by repeat (first | assumption | exact hset_eq _ _ _ | (apply Lay.hd; assumption) | rw [hset_ne _ _ (by omega)])) rfl rfl (by exact Nat.le_of_ble_eq_true rfl) ⟨by decide, by decide⟩ ⟨rfl, rfl, Nat.zero_le _, Nat.zero_le _⟩ ?_
    refine e_istore (pc := 81) dX11_joins_81 (by decide) ?_
    exact kk
  · refine e_iload_n (pc := 22) dX11_joins_22 rfl rfl ?_
    refine n_if_ne (pc := 23) (tgt := 30) dX11_joins_23 (by decide) (by omega) (fun hb_ => ?_) (fun c => absurd c (by omega))
    refine e_aload_n (pc := 30) dX11_joins_30 rfl rfl ?_
    refine e_iload_n (pc := 31) dX11_joins_31 rfl rfl ?_
    refine n_VP (pc := 32) (hL.base (show i < 2 ^ 31 by omega)) bX11_base q_i_X11_base q_s_X11_base q_m_X11_223 dX11_joins_32 rfl rfl (by repeat (first | assumption | exact hset_eq _ _ _ | (apply Lay.hd; assumption) | rw [hset_ne _ _ (by omega)])) rfl rfl (by exact Nat.le_of_ble_eq_true rfl) ⟨by decide, by decide⟩ ⟨rfl, rfl, Nat.zero_le _, Nat.zero_le _⟩ ?_
    refine e_istore (pc := 35) dX11_joins_35 (by decide) ?_
    refine e_iload_n (pc := 37) dX11_joins_37 rfl rfl ?_
    refine n_iconst (pc := 38) 1 dX11_joins_38 (by decide) ?_
    refine n_icmp_ne (pc := 39) (tgt := 46) dX11_joins_39 (by decide) (by omega) (by omega) (fun c => absurd c (by omega)) (fun hb_ => ?_)
    refine e_iload_n (pc := 42) dX11_joins_42 rfl rfl ?_
    refine e_goto (pc := 43) (tgt := 64) dX11_joins_43 (by decide) ?_
    refine e_istore (pc := 64) dX11_joins_64 (by decide) ?_
    refine e_iload_n (pc := 66) dX11_joins_66 rfl rfl ?_
    refine n_iconst (pc := 67) 2 dX11_joins_67 (by decide) ?_
    refine n_icmp_ne (pc := 68) (tgt := 75) dX11_joins_68 (by decide) (by omega) (by omega) (fun hb_ => ?_) (fun c => absurd c (by omega))
    refine e_aload_n (pc := 75) dX11_joins_75 rfl rfl ?_
    refine e_iload (pc := 76) dX11_joins_76 rfl ?_
    refine n_VP (pc := 78) (hL.base (show j < 2 ^ 31 by omega)) bX11_base q_i_X11_base q_s_X11_base q_m_X11_223 dX11_joins_78 rfl rfl (by repeat (first | assumption | exact hset_eq _ _ _ | (apply Lay.hd; assumption) | rw [hset_ne _ _ (by omega)])) rfl rfl (by exact Nat.le_of_ble_eq_true rfl) ⟨by decide, by decide⟩ ⟨rfl, rfl, Nat.zero_le _, Nat.zero_le _⟩ ?_
    refine e_istore (pc := 81) dX11_joins_81 (by decide) ?_
    exact kk
  · refine e_iload_n (pc := 22) dX11_joins_22 rfl rfl ?_
    refine n_if_ne (pc := 23) (tgt := 30) dX11_joins_23 (by decide) (by omega) (fun hb_ => ?_) (fun c => absurd c (by omega))
    refine e_aload_n (pc := 30) dX11_joins_30 rfl rfl ?_
    refine e_iload_n (pc := 31) dX11_joins_31 rfl rfl ?_
    refine n_VP (pc := 32) (hL.base (show i < 2 ^ 31 by omega)) bX11_base q_i_X11_base q_s_X11_base q_m_X11_223 dX11_joins_32 rfl rfl (by repeat (first | assumption | exact hset_eq _ _ _ | (apply Lay.hd; assumption) | rw [hset_ne _ _ (by omega)])) rfl rfl (by exact Nat.le_of_ble_eq_true rfl) ⟨by decide, by decide⟩ ⟨rfl, rfl, Nat.zero_le _, Nat.zero_le _⟩ ?_
    refine e_istore (pc := 35) dX11_joins_35 (by decide) ?_
    refine e_iload_n (pc := 37) dX11_joins_37 rfl rfl ?_
    refine n_iconst (pc := 38) 1 dX11_joins_38 (by decide) ?_
    refine n_icmp_ne (pc := 39) (tgt := 46) dX11_joins_39 (by decide) (by omega) (by omega) (fun hb_ => ?_) (fun c => absurd c (by omega))
    refine e_iload_n (pc := 46) dX11_joins_46 rfl rfl ?_
    refine n_if_ne (pc := 47) (tgt := 58) dX11_joins_47 (by decide) (by omega) (fun hb_ => ?_) (fun c => absurd c (by omega))
    refine e_aload_n (pc := 58) dX11_joins_58 rfl rfl ?_
    refine e_iload (pc := 59) dX11_joins_59 rfl ?_
    refine n_VP (pc := 61) (hL.base (show j < 2 ^ 31 by omega)) bX11_base q_i_X11_base q_s_X11_base q_m_X11_223 dX11_joins_61 rfl rfl (by repeat (first | assumption | exact hset_eq _ _ _ | (apply Lay.hd; assumption) | rw [hset_ne _ _ (by omega)])) rfl rfl (by exact Nat.le_of_ble_eq_true rfl) ⟨by decide, by decide⟩ ⟨rfl, rfl, Nat.zero_le _, Nat.zero_le _⟩ ?_
    refine e_istore (pc := 64) dX11_joins_64 (by decide) ?_
    refine e_iload_n (pc := 66) dX11_joins_66 rfl rfl ?_
    refine n_iconst (pc := 67) 2 dX11_joins_67 (by decide) ?_
    refine n_icmp_ne (pc := 68) (tgt := 75) dX11_joins_68 (by decide) (by omega) (by omega) (fun c => absurd c (by omega)) (fun hb_ => ?_)
    refine e_iload_n (pc := 71) dX11_joins_71 rfl rfl ?_
    refine e_goto (pc := 72) (tgt := 81) dX11_joins_72 (by decide) ?_
    refine e_istore (pc := 81) dX11_joins_81 (by decide) ?_
    exact kk
theorem l_jo_j {a i side : Nat} {Pr : Int32 → AH → Prop} (hk : Wok W) (hs : side < 3) (ha : a < W.1 ^ W.2.1) (hi : i < W.2.1)
    (kf : ∀ h, Lay h m W s → FmA m hh h → ¬ Joins W side a → Pr 0 h)
    (kk : ∀ h, Lay h m W s → FmA m hh h → (∀ j, j < W.2.1 → eJ W side a (W.1 ^ i) (W.1 ^ j) = lJ W side a (W.1 ^ i) (W.1 ^ j)) → VI MX11_joins sz Pr h 122 [some (.ref m), some (.int (nI a)), some (.int (nI side)), some (.int (nI i)), none, none, none, none] []) :
    ∀ (t j : Nat), t = W.2.1 - j → j ≤ W.2.1 → ∀ h, Lay h m W s → FmA m hh h → (∀ b, b < j → eJ W side a (W.1 ^ i) (W.1 ^ b) = lJ W side a (W.1 ^ i) (W.1 ^ b)) → VI MX11_joins sz Pr h 13 [some (.ref m), some (.int (nI a)), some (.int (nI side)), some (.int (nI i)), some (.int (nI j)), none, none, none] [] := by
  obtain ⟨b1, b2, b3, b4, b5⟩ := hk.b
  intro t
  induction t with
  | zero =>
    intro j e1 e2 h hL fm h0
    have e' : j = W.2.1 := by omega
    subst e'
    refine e_iload (pc := 13) dX11_joins_13 rfl ?_
    refine e_aload_n (pc := 15) dX11_joins_15 rfl rfl ?_
    refine e_get (pc := 16) fl_X11_109 dX11_joins_16 (by repeat (first | assumption | exact hset_eq _ _ _ | (apply Lay.hd; assumption) | rw [hset_ne _ _ (by omega)])) (by rfl) ?_
    refine n_icmp_ge (pc := 19) (tgt := 122) dX11_joins_19 (by decide) (by omega) (by omega) (fun hb_ => ?_) (fun c => absurd c (by omega))
    refine V.mask [true, true, true, true, false, false, false, false] ?_
    exact kk h hL fm h0
  | succ t ih =>
    intro j e1 e2 h hL fm h0
    have qi := pow_q hk hi
    have qj := pow_q hk (show j < W.2.1 by omega)
    have lx : jX side a (W.1 ^ i) < W.1 ^ W.2.1 := by unfold jX; split <;> omega
    have ly : jY side a (W.1 ^ i) (W.1 ^ j) < W.1 ^ W.2.1 := by unfold jY; split <;> omega
    have lz : jZ side a (W.1 ^ j) < W.1 ^ W.2.1 := by unfold jZ; split <;> omega
    have m1 := mul_lt hk (jX side a (W.1 ^ i)) (jY side a (W.1 ^ i) (W.1 ^ j))
    have m2 := mul_lt hk (jY side a (W.1 ^ i) (W.1 ^ j)) (jZ side a (W.1 ^ j))
    have m3 := eJ_lt hk side a (W.1 ^ i) (W.1 ^ j)
    have m4 := lJ_lt hk side a (W.1 ^ i) (W.1 ^ j)
    refine e_iload (pc := 13) dX11_joins_13 rfl ?_
    refine e_aload_n (pc := 15) dX11_joins_15 rfl rfl ?_
    refine e_get (pc := 16) fl_X11_109 dX11_joins_16 (by repeat (first | assumption | exact hset_eq _ _ _ | (apply Lay.hd; assumption) | rw [hset_ne _ _ (by omega)])) (by rfl) ?_
    refine n_icmp_ge (pc := 19) (tgt := 122) dX11_joins_19 (by decide) (by omega) (by omega) (fun c => absurd c (by omega)) (fun hb_ => ?_)
    refine l_jo_c hL hs (by omega) (by omega) ?_
    refine e_aload_n (pc := 83) dX11_joins_83 rfl rfl ?_
    refine e_aload_n (pc := 84) dX11_joins_84 rfl rfl ?_
    refine e_iload (pc := 85) dX11_joins_85 rfl ?_
    refine e_iload (pc := 87) dX11_joins_87 rfl ?_
    refine n_V (pc := 89) (c_X11_times hL hk (show jX side a (W.1 ^ i) < 2 ^ 31 by omega) (show jY side a (W.1 ^ i) (W.1 ^ j) < 2 ^ 31 by omega)) bX11_times q_i_X11_times q_s_X11_times q_m_X11_266 dX11_joins_89 rfl rfl (by repeat (first | assumption | exact hset_eq _ _ _ | (apply Lay.hd; assumption) | rw [hset_ne _ _ (by omega)])) rfl rfl (by exact Nat.le_of_ble_eq_true rfl) ⟨by decide, by decide⟩ ⟨rfl, rfl, Nat.zero_le _, Nat.zero_le _⟩ (fun z h2 hp => ?_)
    obtain ⟨rfl, p1, q1⟩ := hp
    refine e_iload (pc := 92) dX11_joins_92 rfl ?_
    refine n_V (pc := 94) (c_X11_times p1 hk (show mul W (jX side a (W.1 ^ i)) (jY side a (W.1 ^ i) (W.1 ^ j)) < 2 ^ 31 by omega) (show jZ side a (W.1 ^ j) < 2 ^ 31 by omega)) bX11_times q_i_X11_times q_s_X11_times q_m_X11_266 dX11_joins_94 rfl rfl (by repeat (first | assumption | exact hset_eq _ _ _ | (apply Lay.hd; assumption) | rw [hset_ne _ _ (by omega)])) rfl rfl (by exact Nat.le_of_ble_eq_true rfl) ⟨by decide, by decide⟩ ⟨rfl, rfl, Nat.zero_le _, Nat.zero_le _⟩ (fun z h3 hp => ?_)
    obtain ⟨rfl, p2, q2⟩ := hp
    refine e_aload_n (pc := 97) dX11_joins_97 rfl rfl ?_
    refine e_iload (pc := 98) dX11_joins_98 rfl ?_
    refine e_aload_n (pc := 100) dX11_joins_100 rfl rfl ?_
    refine e_iload (pc := 101) dX11_joins_101 rfl ?_
    refine e_iload (pc := 103) dX11_joins_103 rfl ?_
    refine n_V (pc := 105) (c_X11_times p2 hk (show jY side a (W.1 ^ i) (W.1 ^ j) < 2 ^ 31 by omega) (show jZ side a (W.1 ^ j) < 2 ^ 31 by omega)) bX11_times q_i_X11_times q_s_X11_times q_m_X11_266 dX11_joins_105 rfl rfl (by repeat (first | assumption | exact hset_eq _ _ _ | (apply Lay.hd; assumption) | rw [hset_ne _ _ (by omega)])) rfl rfl (by exact Nat.le_of_ble_eq_true rfl) ⟨by decide, by decide⟩ ⟨rfl, rfl, Nat.zero_le _, Nat.zero_le _⟩ (fun z h4 hp => ?_)
    obtain ⟨rfl, p3, q3⟩ := hp
    refine n_V (pc := 108) (c_X11_times p3 hk (show jX side a (W.1 ^ i) < 2 ^ 31 by omega) (show mul W (jY side a (W.1 ^ i) (W.1 ^ j)) (jZ side a (W.1 ^ j)) < 2 ^ 31 by omega)) bX11_times q_i_X11_times q_s_X11_times q_m_X11_266 dX11_joins_108 rfl rfl (by repeat (first | assumption | exact hset_eq _ _ _ | (apply Lay.hd; assumption) | rw [hset_ne _ _ (by omega)])) rfl rfl (by exact Nat.le_of_ble_eq_true rfl) ⟨by decide, by decide⟩ ⟨rfl, rfl, Nat.zero_le _, Nat.zero_le _⟩ (fun z h5 hp => ?_)
    obtain ⟨rfl, p4, q4⟩ := hp
    have f5 := (((fm.tr q1.ff).tr q2.ff).tr q3.ff).tr q4.ff
    rw [← j_e hs, ← j_l hs]
    refine n_icmp_eq (pc := 111) (tgt := 116) dX11_joins_111 (by decide) (by omega) (by omega) (fun c => ?_) (fun c => ?_)
    · refine n_inc (pc := 116) dX11_joins_116 rfl (by decide) ?_
      refine e_goto (pc := 119) (tgt := 13) dX11_joins_119 (by decide) ?_
      refine V.mask [true, true, true, true, true, false, false, false] ?_
      refine ih (j + 1) (by omega) (by omega) h5 p4 f5 (fun b hb => ?_)
      by_cases e : b = j
      · rw [e]; exact c
      · exact h0 b (by omega)
    · refine n_iconst (pc := 114) 0 dX11_joins_114 (by decide) ?_
      exact n_zret (pc := 115) dX11_joins_115 rfl rfl (kf h5 p4 f5 (fun q => c (q i j hi (by omega))))
theorem l_jo_i {a side : Nat} (hk : Wok W) (hs : side < 3) (ha : a < W.1 ^ W.2.1) :
    ∀ (t i : Nat), t = W.2.1 - i → i ≤ W.2.1 → ∀ h, Lay h m W s → FmA m hh h → (∀ b c, b < i → c < W.2.1 → eJ W side a (W.1 ^ b) (W.1 ^ c) = lJ W side a (W.1 ^ b) (W.1 ^ c)) → VI MX11_joins sz (fun z h' => z = bI (bl (Joins W side a)) ∧ Lay h' m W s ∧ FmA m hh h') h 2 [some (.ref m), some (.int (nI a)), some (.int (nI side)), some (.int (nI i)), none, none, none, none] [] := by
  obtain ⟨b1, b2, b3, b4, b5⟩ := hk.b
  intro t
  induction t with
  | zero =>
    intro i e1 e2 h hL fm h0
    have e' : i = W.2.1 := by omega
    subst e'
    refine e_iload_n (pc := 2) dX11_joins_2 rfl rfl ?_
    refine e_aload_n (pc := 3) dX11_joins_3 rfl rfl ?_
    refine e_get (pc := 4) fl_X11_109 dX11_joins_4 (by repeat (first | assumption | exact hset_eq _ _ _ | (apply Lay.hd; assumption) | rw [hset_ne _ _ (by omega)])) (by rfl) ?_
    refine n_icmp_ge (pc := 7) (tgt := 128) dX11_joins_7 (by decide) (by omega) (by omega) (fun hb_ => ?_) (fun c => absurd c (by omega))
    refine n_iconst (pc := 128) 1 dX11_joins_128 (by decide) ?_
    exact n_zret (pc := 129) dX11_joins_129 rfl rfl ⟨by rw [bl_t (show Joins W side a from h0)]; rfl, hL, fm⟩
  | succ t ih =>
    intro i e1 e2 h hL fm h0
    refine e_iload_n (pc := 2) dX11_joins_2 rfl rfl ?_
    refine e_aload_n (pc := 3) dX11_joins_3 rfl rfl ?_
    refine e_get (pc := 4) fl_X11_109 dX11_joins_4 (by repeat (first | assumption | exact hset_eq _ _ _ | (apply Lay.hd; assumption) | rw [hset_ne _ _ (by omega)])) (by rfl) ?_
    refine n_icmp_ge (pc := 7) (tgt := 128) dX11_joins_7 (by decide) (by omega) (by omega) (fun c => absurd c (by omega)) (fun hb_ => ?_)
    refine n_iconst (pc := 10) 0 dX11_joins_10 (by decide) ?_
    refine e_istore (pc := 11) dX11_joins_11 (by decide) ?_
    refine l_jo_j hk hs ha (show i < W.2.1 by omega) (fun h2 l2 f2 q => ⟨by rw [bl_f q]; rfl, l2, f2⟩) (fun h2 l2 f2 q => ?_) W.2.1 0 rfl (Nat.zero_le _) h hL fm (fun j hj => absurd hj (Nat.not_lt_zero j))
    refine n_inc (pc := 122) dX11_joins_122 rfl (by decide) ?_
    refine e_goto (pc := 125) (tgt := 2) dX11_joins_125 (by decide) ?_
    refine ih (i + 1) (by omega) (by omega) h2 l2 f2 (fun b c hb hc => ?_)
    by_cases e : b = i
    · rw [e]; exact q c hc
    · exact h0 b c (by omega) hc
theorem c_X11_joins {h : AH} {a side : Nat} (hL : Lay h m W s) (hk : Wok W) (hs : side < 3) (ha : a < W.1 ^ W.2.1) : CI yX11_joins MX11_joins [.ref m, .int (nI a), .int (nI side)] h (fun z h' => z = bI (bl (Joins W side a)) ∧ Lay h' m W s ∧ FmA m h h') := by
  refine CI.ofV (by decide) rfl rfl (by simp [Value.category]) (by exact Nat.le_of_ble_eq_true rfl) (fun sz => ?_)
  refine n_iconst (pc := 0) 0 dX11_joins_0 (by decide) ?_
  refine e_istore_n (pc := 1) dX11_joins_1 rfl (by decide) ?_
  exact l_jo_i hk hs ha W.2.1 0 rfl (Nat.zero_le _) h hL (FmA.rf _ _) (fun b c hb => absurd hb (Nat.not_lt_zero b))
theorem cn_s (n : Nat) (P : Nat → Bool) : cn (n + 1) P = cn n P + (if P n = true then 1 else 0) := rfl
theorem l_nuc {side : Nat} (hk : Wok W) (hs : side < 3) :
    ∀ (t a : Nat), t = W.1 ^ W.2.1 - a → a ≤ W.1 ^ W.2.1 → ∀ h, Lay h m W s → FmA m hh h → VI MX11_nucleus sz (fun z h' => z = nI (cn (W.1 ^ W.2.1) (fun x => bl (Joins W side x))) ∧ Lay h' m W s ∧ FmA m hh h') h 4 [some (.ref m), some (.int (nI side)), some (.int (nI (cn a (fun x => bl (Joins W side x))))), some (.int (nI a))] [] := by
  obtain ⟨b1, b2, b3, b4, b5⟩ := hk.b
  intro t
  induction t with
  | zero =>
    intro a e1 e2 h hL fm
    have e' : a = W.1 ^ W.2.1 := by omega
    refine e_iload_n (pc := 4) dX11_nucleus_4 rfl rfl ?_
    refine e_aload_n (pc := 5) dX11_nucleus_5 rfl rfl ?_
    refine e_get (pc := 6) fl_X11_112 dX11_nucleus_6 (by repeat (first | assumption | exact hset_eq _ _ _ | (apply Lay.hd; assumption) | rw [hset_ne _ _ (by omega)])) (by rfl) ?_
    refine n_icmp_ge (pc := 9) (tgt := 35) dX11_nucleus_9 (by decide) (by omega) (by omega) (fun hb_ => ?_) (fun c => absurd c (by omega))
    refine e_iload_n (pc := 35) dX11_nucleus_35 rfl rfl ?_
    exact n_iret (pc := 36) dX11_nucleus_36 rfl ⟨by rw [e'], hL, fm⟩
  | succ t ih =>
    intro a e1 e2 h hL fm
    refine e_iload_n (pc := 4) dX11_nucleus_4 rfl rfl ?_
    refine e_aload_n (pc := 5) dX11_nucleus_5 rfl rfl ?_
    refine e_get (pc := 6) fl_X11_112 dX11_nucleus_6 (by repeat (first | assumption | exact hset_eq _ _ _ | (apply Lay.hd; assumption) | rw [hset_ne _ _ (by omega)])) (by rfl) ?_
    refine n_icmp_ge (pc := 9) (tgt := 35) dX11_nucleus_9 (by decide) (by omega) (by omega) (fun c => absurd c (by omega)) (fun hb_ => ?_)
    refine e_iload_n (pc := 12) dX11_nucleus_12 rfl rfl ?_
    refine e_aload_n (pc := 13) dX11_nucleus_13 rfl rfl ?_
    refine e_iload_n (pc := 14) dX11_nucleus_14 rfl rfl ?_
    refine e_iload_n (pc := 15) dX11_nucleus_15 rfl rfl ?_
    refine n_V (pc := 16) (c_X11_joins hL hk hs (show a < W.1 ^ W.2.1 by omega)) bX11_joins q_i_X11_joins q_s_X11_joins q_m_X11_269 dX11_nucleus_16 rfl rfl (by repeat (first | assumption | exact hset_eq _ _ _ | (apply Lay.hd; assumption) | rw [hset_ne _ _ (by omega)])) rfl rfl (by exact Nat.le_of_ble_eq_true rfl) ⟨by decide, by decide⟩ ⟨rfl, rfl, Nat.zero_le _, Nat.zero_le _⟩ (fun z h2 hp => ?_)
    obtain ⟨rfl, p1, p2⟩ := hp
    have q := ih (a + 1) (by omega) (by omega) h2 p1 (fm.tr p2)
    rw [cn_s] at q
    refine n_bif_eq (pc := 19) (tgt := 26) dX11_nucleus_19 (by decide) (fun c => ?_) (fun c => ?_)
    · rw [if_neg (by rw [c]; decide)] at q
      refine n_iconst (pc := 26) 0 dX11_nucleus_26 (by decide) ?_
      refine n_iadd (pc := 27) dX11_nucleus_27 ?_
      refine e_istore_n (pc := 28) dX11_nucleus_28 rfl (by decide) ?_
      refine n_inc (pc := 29) dX11_nucleus_29 rfl (by decide) ?_
      refine e_goto (pc := 32) (tgt := 4) dX11_nucleus_32 (by decide) ?_
      exact q
    · rw [if_pos c] at q
      refine n_iconst (pc := 22) 1 dX11_nucleus_22 (by decide) ?_
      refine e_goto (pc := 23) (tgt := 27) dX11_nucleus_23 (by decide) ?_
      refine n_iadd (pc := 27) dX11_nucleus_27 ?_
      refine e_istore_n (pc := 28) dX11_nucleus_28 rfl (by decide) ?_
      refine n_inc (pc := 29) dX11_nucleus_29 rfl (by decide) ?_
      refine e_goto (pc := 32) (tgt := 4) dX11_nucleus_32 (by decide) ?_
      exact q
theorem c_X11_nucleus {h : AH} {side : Nat} (hL : Lay h m W s) (hk : Wok W) (hs : side < 3) : CI yX11_nucleus MX11_nucleus [.ref m, .int (nI side)] h (fun z h' => z = nI (cn (W.1 ^ W.2.1) (fun x => bl (Joins W side x))) ∧ Lay h' m W s ∧ FmA m h h') := by
  refine CI.ofV (by decide) rfl rfl (by simp [Value.category]) (by exact Nat.le_of_ble_eq_true rfl) (fun sz => ?_)
  refine n_iconst (pc := 0) 0 dX11_nucleus_0 (by decide) ?_
  refine e_istore_n (pc := 1) dX11_nucleus_1 rfl (by decide) ?_
  refine n_iconst (pc := 2) 0 dX11_nucleus_2 (by decide) ?_
  refine e_istore_n (pc := 3) dX11_nucleus_3 rfl (by decide) ?_
  exact l_nuc hk hs (W.1 ^ W.2.1) 0 rfl (Nat.zero_le _) h hL (FmA.rf _ _)
theorem l_cen_i {a v : Nat} {Pr : Int32 → AH → Prop} (hk : Wok W) (ha : a < W.1 ^ W.2.1)
    (kf : ∀ h, Lay h m W s → FmA m hh h → ¬ Comm W a → VI MX11_centre sz Pr h 103 [some (.ref m), some (.int (nI v)), some (.int (nI a)), none, none] [.int (nI v)])
    (kk : ∀ h, Lay h m W s → FmA m hh h → Comm W a → VI MX11_centre sz Pr h 72 [some (.ref m), some (.int (nI v)), some (.int (nI a)), none, none] [.int (nI v)]) :
    ∀ (t i : Nat), t = W.2.1 - i → i ≤ W.2.1 → ∀ h, Lay h m W s → FmA m hh h → (∀ j, j < i → mul W a (W.1 ^ j) = mul W (W.1 ^ j) a) → VI MX11_centre sz Pr h 17 [some (.ref m), some (.int (nI v)), some (.int (nI a)), some (.int (nI 1)), some (.int (nI i))] [] := by
  obtain ⟨b1, b2, b3, b4, b5⟩ := hk.b
  intro t
  induction t with
  | zero =>
    intro i e1 e2 h hL fm h0
    have e' : i = W.2.1 := by omega
    subst e'
    refine e_iload (pc := 17) dX11_centre_17 rfl ?_
    refine e_aload_n (pc := 19) dX11_centre_19 rfl rfl ?_
    refine e_get (pc := 20) fl_X11_109 dX11_centre_20 (by repeat (first | assumption | exact hset_eq _ _ _ | (apply Lay.hd; assumption) | rw [hset_ne _ _ (by omega)])) (by rfl) ?_
    refine n_icmp_ge (pc := 23) (tgt := 67) dX11_centre_23 (by decide) (by omega) (by omega) (fun hb_ => ?_) (fun c => absurd c (by omega))
    refine e_iload_n (pc := 67) dX11_centre_67 rfl rfl ?_
    refine e_iload_n (pc := 68) dX11_centre_68 rfl rfl ?_
    refine n_if_eq (pc := 69) (tgt := 103) dX11_centre_69 (by decide) (by omega) (fun c => absurd c (by omega)) (fun hb_ => ?_)
    refine V.mask [true, true, true, false, false] ?_
    exact kk h hL fm h0
  | succ t ih =>
    intro i e1 e2 h hL fm h0
    have qi := pow_q hk (show i < W.2.1 by omega)
    have m1 := mul_lt hk a (W.1 ^ i)
    have m2 := mul_lt hk (W.1 ^ i) a
    refine e_iload (pc := 17) dX11_centre_17 rfl ?_
    refine e_aload_n (pc := 19) dX11_centre_19 rfl rfl ?_
    refine e_get (pc := 20) fl_X11_109 dX11_centre_20 (by repeat (first | assumption | exact hset_eq _ _ _ | (apply Lay.hd; assumption) | rw [hset_ne _ _ (by omega)])) (by rfl) ?_
    refine n_icmp_ge (pc := 23) (tgt := 67) dX11_centre_23 (by decide) (by omega) (by omega) (fun c => absurd c (by omega)) (fun hb_ => ?_)
    refine e_iload_n (pc := 26) dX11_centre_26 rfl rfl ?_
    refine n_if_eq (pc := 27) (tgt := 67) dX11_centre_27 (by decide) (by omega) (fun c => absurd c (by omega)) (fun hb_ => ?_)
    refine e_aload_n (pc := 30) dX11_centre_30 rfl rfl ?_
    refine e_iload_n (pc := 31) dX11_centre_31 rfl rfl ?_
    refine e_aload_n (pc := 32) dX11_centre_32 rfl rfl ?_
    refine e_iload (pc := 33) dX11_centre_33 rfl ?_
    refine n_VP (pc := 35) (hL.base (show i < 2 ^ 31 by omega)) bX11_base q_i_X11_base q_s_X11_base q_m_X11_223 dX11_centre_35 rfl rfl (by repeat (first | assumption | exact hset_eq _ _ _ | (apply Lay.hd; assumption) | rw [hset_ne _ _ (by omega)])) rfl rfl (by exact Nat.le_of_ble_eq_true rfl) ⟨by decide, by decide⟩ ⟨rfl, rfl, Nat.zero_le _, Nat.zero_le _⟩ ?_
    refine n_V (pc := 38) (c_X11_times hL hk (show a < 2 ^ 31 by omega) (show W.1 ^ i < 2 ^ 31 by omega)) bX11_times q_i_X11_times q_s_X11_times q_m_X11_266 dX11_centre_38 rfl rfl (by repeat (first | assumption | exact hset_eq _ _ _ | (apply Lay.hd; assumption) | rw [hset_ne _ _ (by omega)])) rfl rfl (by exact Nat.le_of_ble_eq_true rfl) ⟨by decide, by decide⟩ ⟨rfl, rfl, Nat.zero_le _, Nat.zero_le _⟩ (fun z h2 hp => ?_)
    obtain ⟨rfl, p1, q1⟩ := hp
    refine e_aload_n (pc := 41) dX11_centre_41 rfl rfl ?_
    refine e_aload_n (pc := 42) dX11_centre_42 rfl rfl ?_
    refine e_iload (pc := 43) dX11_centre_43 rfl ?_
    refine n_VP (pc := 45) (p1.base (show i < 2 ^ 31 by omega)) bX11_base q_i_X11_base q_s_X11_base q_m_X11_223 dX11_centre_45 rfl rfl (by repeat (first | assumption | exact hset_eq _ _ _ | (apply Lay.hd; assumption) | rw [hset_ne _ _ (by omega)])) rfl rfl (by exact Nat.le_of_ble_eq_true rfl) ⟨by decide, by decide⟩ ⟨rfl, rfl, Nat.zero_le _, Nat.zero_le _⟩ ?_
    refine e_iload_n (pc := 48) dX11_centre_48 rfl rfl ?_
    refine n_V (pc := 49) (c_X11_times p1 hk (show W.1 ^ i < 2 ^ 31 by omega) (show a < 2 ^ 31 by omega)) bX11_times q_i_X11_times q_s_X11_times q_m_X11_266 dX11_centre_49 rfl rfl (by repeat (first | assumption | exact hset_eq _ _ _ | (apply Lay.hd; assumption) | rw [hset_ne _ _ (by omega)])) rfl rfl (by exact Nat.le_of_ble_eq_true rfl) ⟨by decide, by decide⟩ ⟨rfl, rfl, Nat.zero_le _, Nat.zero_le _⟩ (fun z h3 hp => ?_)
    obtain ⟨rfl, p2, q2⟩ := hp
    have f3 := (fm.tr q1.ff).tr q2.ff
    refine n_icmp_ne (pc := 52) (tgt := 59) dX11_centre_52 (by decide) (by omega) (by omega) (fun c => ?_) (fun c => ?_)
    · have nu : ¬ Comm W a := fun q => c (q i (by omega))
      refine n_iconst (pc := 59) 0 dX11_centre_59 (by decide) ?_
      refine e_istore_n (pc := 60) dX11_centre_60 rfl (by decide) ?_
      refine n_inc (pc := 61) dX11_centre_61 rfl (by decide) ?_
      refine e_goto (pc := 64) (tgt := 17) dX11_centre_64 (by decide) ?_
      refine e_iload (pc := 17) dX11_centre_17 rfl ?_
      refine e_aload_n (pc := 19) dX11_centre_19 rfl rfl ?_
      refine e_get (pc := 20) fl_X11_109 dX11_centre_20 (by repeat (first | assumption | exact hset_eq _ _ _ | (apply Lay.hd; assumption) | rw [hset_ne _ _ (by omega)])) (by rfl) ?_
      refine n_icmp_ge (pc := 23) (tgt := 67) dX11_centre_23 (by decide) (by omega) (by omega) (fun d => ?_) (fun d => ?_)
      · refine e_iload_n (pc := 67) dX11_centre_67 rfl rfl ?_
        refine e_iload_n (pc := 68) dX11_centre_68 rfl rfl ?_
        refine n_if_eq (pc := 69) (tgt := 103) dX11_centre_69 (by decide) (by omega) (fun hb_ => ?_) (fun c => absurd c (by omega))
        refine V.mask [true, true, true, false, false] ?_
        exact kf h3 p2 f3 nu
      · refine e_iload_n (pc := 26) dX11_centre_26 rfl rfl ?_
        refine n_if_eq (pc := 27) (tgt := 67) dX11_centre_27 (by decide) (by omega) (fun hb_ => ?_) (fun c => absurd c (by omega))
        refine e_iload_n (pc := 67) dX11_centre_67 rfl rfl ?_
        refine e_iload_n (pc := 68) dX11_centre_68 rfl rfl ?_
        refine n_if_eq (pc := 69) (tgt := 103) dX11_centre_69 (by decide) (by omega) (fun hb_ => ?_) (fun c => absurd c (by omega))
        refine V.mask [true, true, true, false, false] ?_
        exact kf h3 p2 f3 nu
    · refine n_iconst (pc := 55) 1 dX11_centre_55 (by decide) ?_
      refine e_goto (pc := 56) (tgt := 60) dX11_centre_56 (by decide) ?_
      refine e_istore_n (pc := 60) dX11_centre_60 rfl (by decide) ?_
      refine n_inc (pc := 61) dX11_centre_61 rfl (by decide) ?_
      refine e_goto (pc := 64) (tgt := 17) dX11_centre_64 (by decide) ?_
      refine ih (i + 1) (by omega) (by omega) h3 p2 f3 (fun j hj => ?_)
      by_cases e : j = i
      · rw [e]; exact c
      · exact h0 j (by omega)
theorem l_cen (hk : Wok W) :
    ∀ (t a : Nat), t = W.1 ^ W.2.1 - a → a ≤ W.1 ^ W.2.1 → ∀ h, Lay h m W s → FmA m hh h → VI MX11_centre sz (fun z h' => z = nI (cn (W.1 ^ W.2.1) (fun x => bl (InC W x))) ∧ Lay h' m W s ∧ FmA m hh h') h 4 [some (.ref m), some (.int (nI (cn a (fun x => bl (InC W x))))), some (.int (nI a)), none, none] [] := by
  obtain ⟨b1, b2, b3, b4, b5⟩ := hk.b
  intro t
  induction t with
  | zero =>
    intro a e1 e2 h hL fm
    have e' : a = W.1 ^ W.2.1 := by omega
    refine e_iload_n (pc := 4) dX11_centre_4 rfl rfl ?_
    refine e_aload_n (pc := 5) dX11_centre_5 rfl rfl ?_
    refine e_get (pc := 6) fl_X11_112 dX11_centre_6 (by repeat (first | assumption | exact hset_eq _ _ _ | (apply Lay.hd; assumption) | rw [hset_ne _ _ (by omega)])) (by rfl) ?_
    refine n_icmp_ge (pc := 9) (tgt := 112) dX11_centre_9 (by decide) (by omega) (by omega) (fun hb_ => ?_) (fun c => absurd c (by omega))
    refine e_iload_n (pc := 112) dX11_centre_112 rfl rfl ?_
    exact n_iret (pc := 113) dX11_centre_113 rfl ⟨by rw [e'], hL, fm⟩
  | succ t ih =>
    intro a e1 e2 h hL fm
    have ha : a < W.1 ^ W.2.1 := by omega
    have no : ∀ h2, Lay h2 m W s → FmA m hh h2 → ¬ InC W a → VI MX11_centre sz (fun z h' => z = nI (cn (W.1 ^ W.2.1) (fun x => bl (InC W x))) ∧ Lay h' m W s ∧ FmA m hh h') h2 103 [some (.ref m), some (.int (nI (cn a (fun x => bl (InC W x))))), some (.int (nI a)), none, none] [.int (nI (cn a (fun x => bl (InC W x))))] := fun h2 l2 f2 nu => by
      have q := ih (a + 1) (by omega) (by omega) h2 l2 f2
      rw [cn_s, if_neg (by rw [bl_f nu]; decide)] at q
      refine n_iconst (pc := 103) 0 dX11_centre_103 (by decide) ?_
      refine n_iadd (pc := 104) dX11_centre_104 ?_
      refine e_istore_n (pc := 105) dX11_centre_105 rfl (by decide) ?_
      refine n_inc (pc := 106) dX11_centre_106 rfl (by decide) ?_
      refine e_goto (pc := 109) (tgt := 4) dX11_centre_109 (by decide) ?_
      exact q
    refine e_iload_n (pc := 4) dX11_centre_4 rfl rfl ?_
    refine e_aload_n (pc := 5) dX11_centre_5 rfl rfl ?_
    refine e_get (pc := 6) fl_X11_112 dX11_centre_6 (by repeat (first | assumption | exact hset_eq _ _ _ | (apply Lay.hd; assumption) | rw [hset_ne _ _ (by omega)])) (by rfl) ?_
    refine n_icmp_ge (pc := 9) (tgt := 112) dX11_centre_9 (by decide) (by omega) (by omega) (fun c => absurd c (by omega)) (fun hb_ => ?_)
    refine n_iconst (pc := 12) 1 dX11_centre_12 (by decide) ?_
    refine e_istore_n (pc := 13) dX11_centre_13 rfl (by decide) ?_
    refine n_iconst (pc := 14) 0 dX11_centre_14 (by decide) ?_
    refine e_istore (pc := 15) dX11_centre_15 (by decide) ?_
    refine l_cen_i hk ha (fun h2 l2 f2 nu => no h2 l2 f2 (fun q => nu q.2.2.2)) (fun h2 l2 f2 hc => ?_) W.2.1 0 rfl (Nat.zero_le _) h hL fm (fun j hj => absurd hj (Nat.not_lt_zero j))
    refine e_aload_n (pc := 72) dX11_centre_72 rfl rfl ?_
    refine e_iload_n (pc := 73) dX11_centre_73 rfl rfl ?_
    refine n_iconst (pc := 74) 0 dX11_centre_74 (by decide) ?_
    refine n_V (pc := 75) (c_X11_joins (side := 0) l2 hk (by decide) ha) bX11_joins q_i_X11_joins q_s_X11_joins q_m_X11_269 dX11_centre_75 rfl rfl (by repeat (first | assumption | exact hset_eq _ _ _ | (apply Lay.hd; assumption) | rw [hset_ne _ _ (by omega)])) rfl rfl (by exact Nat.le_of_ble_eq_true rfl) ⟨by decide, by decide⟩ ⟨rfl, rfl, Nat.zero_le _, Nat.zero_le _⟩ (fun z h3 hp => ?_)
    obtain ⟨rfl, p1, q1⟩ := hp
    refine n_bif_eq (pc := 78) (tgt := 103) dX11_centre_78 (by decide) (fun c0 => ?_) (fun c0 => ?_)
    · exact no h3 p1 (f2.tr q1) (fun q => by rw [bl_t q.1] at c0; cases c0)
    refine e_aload_n (pc := 81) dX11_centre_81 rfl rfl ?_
    refine e_iload_n (pc := 82) dX11_centre_82 rfl rfl ?_
    refine n_iconst (pc := 83) 1 dX11_centre_83 (by decide) ?_
    refine n_V (pc := 84) (c_X11_joins (side := 1) p1 hk (by decide) ha) bX11_joins q_i_X11_joins q_s_X11_joins q_m_X11_269 dX11_centre_84 rfl rfl (by repeat (first | assumption | exact hset_eq _ _ _ | (apply Lay.hd; assumption) | rw [hset_ne _ _ (by omega)])) rfl rfl (by exact Nat.le_of_ble_eq_true rfl) ⟨by decide, by decide⟩ ⟨rfl, rfl, Nat.zero_le _, Nat.zero_le _⟩ (fun z h4 hp => ?_)
    obtain ⟨rfl, p2, q2⟩ := hp
    refine n_bif_eq (pc := 87) (tgt := 103) dX11_centre_87 (by decide) (fun c1 => ?_) (fun c1 => ?_)
    · exact no h4 p2 ((f2.tr q1).tr q2) (fun q => by rw [bl_t q.2.1] at c1; cases c1)
    refine e_aload_n (pc := 90) dX11_centre_90 rfl rfl ?_
    refine e_iload_n (pc := 91) dX11_centre_91 rfl rfl ?_
    refine n_iconst (pc := 92) 2 dX11_centre_92 (by decide) ?_
    refine n_V (pc := 93) (c_X11_joins (side := 2) p2 hk (by decide) ha) bX11_joins q_i_X11_joins q_s_X11_joins q_m_X11_269 dX11_centre_93 rfl rfl (by repeat (first | assumption | exact hset_eq _ _ _ | (apply Lay.hd; assumption) | rw [hset_ne _ _ (by omega)])) rfl rfl (by exact Nat.le_of_ble_eq_true rfl) ⟨by decide, by decide⟩ ⟨rfl, rfl, Nat.zero_le _, Nat.zero_le _⟩ (fun z h5 hp => ?_)
    obtain ⟨rfl, p3, q3⟩ := hp
    refine n_bif_eq (pc := 96) (tgt := 103) dX11_centre_96 (by decide) (fun c2 => ?_) (fun c2 => ?_)
    · exact no h5 p3 (((f2.tr q1).tr q2).tr q3) (fun q => by rw [bl_t q.2.2.1] at c2; cases c2)
    have q := ih (a + 1) (by omega) (by omega) h5 p3 (((f2.tr q1).tr q2).tr q3)
    rw [cn_s, if_pos (bl_t (show InC W a from ⟨bl_iff.mp c0, bl_iff.mp c1, bl_iff.mp c2, hc⟩))] at q
    refine n_iconst (pc := 99) 1 dX11_centre_99 (by decide) ?_
    refine e_goto (pc := 100) (tgt := 104) dX11_centre_100 (by decide) ?_
    refine n_iadd (pc := 104) dX11_centre_104 ?_
    refine e_istore_n (pc := 105) dX11_centre_105 rfl (by decide) ?_
    refine n_inc (pc := 106) dX11_centre_106 rfl (by decide) ?_
    refine e_goto (pc := 109) (tgt := 4) dX11_centre_109 (by decide) ?_
    exact q
theorem c_X11_centre {h : AH} (hL : Lay h m W s) (hk : Wok W) : CI yX11_centre MX11_centre [.ref m] h (fun z h' => z = nI (cn (W.1 ^ W.2.1) (fun x => bl (InC W x))) ∧ Lay h' m W s ∧ FmA m h h') := by
  refine CI.ofV (by decide) rfl rfl (by simp [Value.category]) (by exact Nat.le_of_ble_eq_true rfl) (fun sz => ?_)
  refine n_iconst (pc := 0) 0 dX11_centre_0 (by decide) ?_
  refine e_istore_n (pc := 1) dX11_centre_1 rfl (by decide) ?_
  refine n_iconst (pc := 2) 0 dX11_centre_2 (by decide) ?_
  refine e_istore_n (pc := 3) dX11_centre_3 rfl (by decide) ?_
  exact l_cen hk (W.1 ^ W.2.1) 0 rfl (Nat.zero_le _) h hL (FmA.rf _ _)
theorem l_ide (hk : Wok W) :
    ∀ (t a : Nat), t = W.1 ^ W.2.1 - a → a ≤ W.1 ^ W.2.1 → ∀ h, Lay h m W s → FmA m hh h → VI MX11_idempotent sz (fun z h' => z = nI (cn (W.1 ^ W.2.1) (fun x => decide (mul W x x = x))) ∧ Lay h' m W s ∧ FmA m hh h') h 4 [some (.ref m), some (.int (nI (cn a (fun x => decide (mul W x x = x))))), some (.int (nI a))] [] := by
  obtain ⟨b1, b2, b3, b4, b5⟩ := hk.b
  intro t
  induction t with
  | zero =>
    intro a e1 e2 h hL fm
    have e' : a = W.1 ^ W.2.1 := by omega
    refine e_iload_n (pc := 4) dX11_idempotent_4 rfl rfl ?_
    refine e_aload_n (pc := 5) dX11_idempotent_5 rfl rfl ?_
    refine e_get (pc := 6) fl_X11_112 dX11_idempotent_6 (by repeat (first | assumption | exact hset_eq _ _ _ | (apply Lay.hd; assumption) | rw [hset_ne _ _ (by omega)])) (by rfl) ?_
    refine n_icmp_ge (pc := 9) (tgt := 36) dX11_idempotent_9 (by decide) (by omega) (by omega) (fun hb_ => ?_) (fun c => absurd c (by omega))
    refine e_iload_n (pc := 36) dX11_idempotent_36 rfl rfl ?_
    exact n_iret (pc := 37) dX11_idempotent_37 rfl ⟨by rw [e'], hL, fm⟩
  | succ t ih =>
    intro a e1 e2 h hL fm
    have ml := mul_lt hk a a
    refine e_iload_n (pc := 4) dX11_idempotent_4 rfl rfl ?_
    refine e_aload_n (pc := 5) dX11_idempotent_5 rfl rfl ?_
    refine e_get (pc := 6) fl_X11_112 dX11_idempotent_6 (by repeat (first | assumption | exact hset_eq _ _ _ | (apply Lay.hd; assumption) | rw [hset_ne _ _ (by omega)])) (by rfl) ?_
    refine n_icmp_ge (pc := 9) (tgt := 36) dX11_idempotent_9 (by decide) (by omega) (by omega) (fun c => absurd c (by omega)) (fun hb_ => ?_)
    refine e_iload_n (pc := 12) dX11_idempotent_12 rfl rfl ?_
    refine e_aload_n (pc := 13) dX11_idempotent_13 rfl rfl ?_
    refine e_iload_n (pc := 14) dX11_idempotent_14 rfl rfl ?_
    refine e_iload_n (pc := 15) dX11_idempotent_15 rfl rfl ?_
    refine n_V (pc := 16) (c_X11_times hL hk (show a < 2 ^ 31 by omega) (show a < 2 ^ 31 by omega)) bX11_times q_i_X11_times q_s_X11_times q_m_X11_266 dX11_idempotent_16 rfl rfl (by repeat (first | assumption | exact hset_eq _ _ _ | (apply Lay.hd; assumption) | rw [hset_ne _ _ (by omega)])) rfl rfl (by exact Nat.le_of_ble_eq_true rfl) ⟨by decide, by decide⟩ ⟨rfl, rfl, Nat.zero_le _, Nat.zero_le _⟩ (fun z h2 hp => ?_)
    obtain ⟨rfl, p1, p2⟩ := hp
    have q := ih (a + 1) (by omega) (by omega) h2 p1 (fm.tr p2.ff)
    rw [cn_s] at q
    refine e_iload_n (pc := 19) dX11_idempotent_19 rfl rfl ?_
    refine n_icmp_ne (pc := 20) (tgt := 27) dX11_idempotent_20 (by decide) (by omega) (by omega) (fun c => ?_) (fun c => ?_)
    · rw [if_neg (by rw [decide_eq_false c]; decide)] at q
      refine n_iconst (pc := 27) 0 dX11_idempotent_27 (by decide) ?_
      refine n_iadd (pc := 28) dX11_idempotent_28 ?_
      refine e_istore_n (pc := 29) dX11_idempotent_29 rfl (by decide) ?_
      refine n_inc (pc := 30) dX11_idempotent_30 rfl (by decide) ?_
      refine e_goto (pc := 33) (tgt := 4) dX11_idempotent_33 (by decide) ?_
      exact q
    · rw [if_pos (decide_eq_true c)] at q
      refine n_iconst (pc := 23) 1 dX11_idempotent_23 (by decide) ?_
      refine e_goto (pc := 24) (tgt := 28) dX11_idempotent_24 (by decide) ?_
      refine n_iadd (pc := 28) dX11_idempotent_28 ?_
      refine e_istore_n (pc := 29) dX11_idempotent_29 rfl (by decide) ?_
      refine n_inc (pc := 30) dX11_idempotent_30 rfl (by decide) ?_
      refine e_goto (pc := 33) (tgt := 4) dX11_idempotent_33 (by decide) ?_
      exact q
theorem c_X11_idempotent {h : AH} (hL : Lay h m W s) (hk : Wok W) : CI yX11_idempotent MX11_idempotent [.ref m] h (fun z h' => z = nI (cn (W.1 ^ W.2.1) (fun x => decide (mul W x x = x))) ∧ Lay h' m W s ∧ FmA m h h') := by
  refine CI.ofV (by decide) rfl rfl (by simp [Value.category]) (by exact Nat.le_of_ble_eq_true rfl) (fun sz => ?_)
  refine n_iconst (pc := 0) 0 dX11_idempotent_0 (by decide) ?_
  refine e_istore_n (pc := 1) dX11_idempotent_1 rfl (by decide) ?_
  refine n_iconst (pc := 2) 0 dX11_idempotent_2 (by decide) ?_
  refine e_istore_n (pc := 3) dX11_idempotent_3 rfl (by decide) ?_
  exact l_ide hk (W.1 ^ W.2.1) 0 rfl (Nat.zero_le _) h hL (FmA.rf _ _)
/-- the marks -/
def SeA (h : AH) (m : Nat) (P : Nat → Bool) (q : Nat) : Prop := ∃ g, h (m + 95) = some (aZ 243 g) ∧ ∀ t, t < q → g t = bI (P t)
theorem MRo.seen {h : AH} (r : MRo h m) (g : Nat → Int32) : MRo (hset h (m + 95) (aZ 243 g)) m := by
  obtain ⟨q1, q2, q3, q4, π, p1, p2, f5, q5, q6⟩ := r
  refine ⟨fun k hk => ?_, ?_, ⟨g, hset_eq _ _ _⟩, (hset_ne _ _ (by omega)).trans q4, π, p1, p2, f5, (hset_ne _ _ (by omega)).trans q5, q6⟩
  · obtain ⟨g3, hg⟩ := q1 k hk
    exact ⟨g3, (hset_ne _ _ (by have := hk.2.2.2.2.2; omega)).trans hg⟩
  · obtain ⟨g3, hg⟩ := q2
    exact ⟨g3, (hset_ne _ _ (by omega)).trans hg⟩
theorem Lay.seen {h : AH} (l : Lay h m W s) (g : Nat → Int32) : Lay (hset h (m + 95) (aZ 243 g)) m W s := l.fq ((FmB.rf m h).set (k := 95) (by omega)) (l.2.2.seen g)
theorem l_sq_1 (hk : Wok W) {Pr : Int32 → AH → Prop}
    (kk : ∀ h, Lay h m W s → FmB m hh h → SeA h m (fun _ => false) (W.1 ^ W.2.1) → VI MX11_squares sz Pr h 23 [some (.ref m), none, none] []) :
    ∀ (t x : Nat), t = W.1 ^ W.2.1 - x → x ≤ W.1 ^ W.2.1 → ∀ h, Lay h m W s → FmB m hh h → SeA h m (fun _ => false) x → VI MX11_squares sz Pr h 2 [some (.ref m), some (.int (nI x)), none] [] := by
  obtain ⟨b1, b2, b3, b4, b5⟩ := hk.b
  intro t
  induction t with
  | zero =>
    intro x e1 e2 h hL fm h0
    have e' : x = W.1 ^ W.2.1 := by omega
    refine e_iload_n (pc := 2) dX11_squares_2 rfl rfl ?_
    refine e_aload_n (pc := 3) dX11_squares_3 rfl rfl ?_
    refine e_get (pc := 4) fl_X11_112 dX11_squares_4 (by repeat (first | assumption | exact hset_eq _ _ _ | (apply Lay.hd; assumption) | rw [hset_ne _ _ (by omega)])) (by rfl) ?_
    refine n_icmp_ge (pc := 7) (tgt := 23) dX11_squares_7 (by decide) (by omega) (by omega) (fun hb_ => ?_) (fun c => absurd c (by omega))
    refine V.mask [true, false, false] ?_
    exact kk h hL fm (by rw [← e']; exact h0)
  | succ t ih =>
    intro x e1 e2 h hL fm h0
    obtain ⟨g, g1, g2⟩ := h0
    refine e_iload_n (pc := 2) dX11_squares_2 rfl rfl ?_
    refine e_aload_n (pc := 3) dX11_squares_3 rfl rfl ?_
    refine e_get (pc := 4) fl_X11_112 dX11_squares_4 (by repeat (first | assumption | exact hset_eq _ _ _ | (apply Lay.hd; assumption) | rw [hset_ne _ _ (by omega)])) (by rfl) ?_
    refine n_icmp_ge (pc := 7) (tgt := 23) dX11_squares_7 (by decide) (by omega) (by omega) (fun c => absurd c (by omega)) (fun hb_ => ?_)
    refine e_aload_n (pc := 10) dX11_squares_10 rfl rfl ?_
    refine e_get (pc := 11) fl_X11_59 dX11_squares_11 (by repeat (first | assumption | exact hset_eq _ _ _ | (apply Lay.hd; assumption) | rw [hset_ne _ _ (by omega)])) (by rfl) ?_
    refine e_iload_n (pc := 14) dX11_squares_14 rfl rfl ?_
    refine n_iconst (pc := 15) 0 dX11_squares_15 (by decide) ?_
    refine e_zastN (pc := 16) x dX11_squares_16 (by repeat (first | assumption | exact hset_eq _ _ _ | (apply Lay.hd; assumption) | rw [hset_ne _ _ (by omega)])) (by rfl) (by omega) (by first | decide | omega) ?_
    refine n_inc (pc := 17) dX11_squares_17 rfl (by decide) ?_
    refine e_goto (pc := 20) (tgt := 2) dX11_squares_20 (by decide) ?_
    refine ih (x + 1) (by omega) (by omega) _ (hL.seen _) (fm.set (by omega)) ⟨_, hset_eq _ _ _, fun t ht => ?_⟩
    by_cases e : t = x
    · subst e; rw [pk_us]; rfl
    · rw [pk_un e]; exact g2 t (by omega)
theorem l_sq_2 (hk : Wok W) {Pr : Int32 → AH → Prop}
    (kk : ∀ h, Lay h m W s → FmB m hh h → SeA h m (sqs W (W.1 ^ W.2.1)) (W.1 ^ W.2.1) → VI MX11_squares sz Pr h 51 [some (.ref m), none, none] []) :
    ∀ (t x : Nat), t = W.1 ^ W.2.1 - x → x ≤ W.1 ^ W.2.1 → ∀ h, Lay h m W s → FmB m hh h → SeA h m (sqs W x) (W.1 ^ W.2.1) → VI MX11_squares sz Pr h 25 [some (.ref m), some (.int (nI x)), none] [] := by
  obtain ⟨b1, b2, b3, b4, b5⟩ := hk.b
  intro t
  induction t with
  | zero =>
    intro x e1 e2 h hL fm h0
    have e' : x = W.1 ^ W.2.1 := by omega
    refine e_iload_n (pc := 25) dX11_squares_25 rfl rfl ?_
    refine e_aload_n (pc := 26) dX11_squares_26 rfl rfl ?_
    refine e_get (pc := 27) fl_X11_112 dX11_squares_27 (by repeat (first | assumption | exact hset_eq _ _ _ | (apply Lay.hd; assumption) | rw [hset_ne _ _ (by omega)])) (by rfl) ?_
    refine n_icmp_ge (pc := 30) (tgt := 51) dX11_squares_30 (by decide) (by omega) (by omega) (fun hb_ => ?_) (fun c => absurd c (by omega))
    refine V.mask [true, false, false] ?_
    exact kk h hL fm (by rw [e'] at h0; exact h0)
  | succ t ih =>
    intro x e1 e2 h hL fm h0
    have ml := mul_lt hk x x
    refine e_iload_n (pc := 25) dX11_squares_25 rfl rfl ?_
    refine e_aload_n (pc := 26) dX11_squares_26 rfl rfl ?_
    refine e_get (pc := 27) fl_X11_112 dX11_squares_27 (by repeat (first | assumption | exact hset_eq _ _ _ | (apply Lay.hd; assumption) | rw [hset_ne _ _ (by omega)])) (by rfl) ?_
    refine n_icmp_ge (pc := 30) (tgt := 51) dX11_squares_30 (by decide) (by omega) (by omega) (fun c => absurd c (by omega)) (fun hb_ => ?_)
    refine e_aload_n (pc := 33) dX11_squares_33 rfl rfl ?_
    refine e_get (pc := 34) fl_X11_59 dX11_squares_34 (by repeat (first | assumption | exact hset_eq _ _ _ | (apply Lay.hd; assumption) | rw [hset_ne _ _ (by omega)])) (by rfl) ?_
    refine e_aload_n (pc := 37) dX11_squares_37 rfl rfl ?_
    refine e_iload_n (pc := 38) dX11_squares_38 rfl rfl ?_
    refine e_iload_n (pc := 39) dX11_squares_39 rfl rfl ?_
    refine n_V (pc := 40) (c_X11_times hL hk (show x < 2 ^ 31 by omega) (show x < 2 ^ 31 by omega)) bX11_times q_i_X11_times q_s_X11_times q_m_X11_266 dX11_squares_40 rfl rfl (by repeat (first | assumption | exact hset_eq _ _ _ | (apply Lay.hd; assumption) | rw [hset_ne _ _ (by omega)])) rfl rfl (by exact Nat.le_of_ble_eq_true rfl) ⟨by decide, by decide⟩ ⟨rfl, rfl, Nat.zero_le _, Nat.zero_le _⟩ (fun z h2 hp => ?_)
    obtain ⟨rfl, p1, p2⟩ := hp
    obtain ⟨g, g1, g2⟩ := h0
    have g1' : h2 (m + 95) = some (aZ 243 g) := (p2 _ (by omega) (by omega) (by omega)).trans g1
    refine n_iconst (pc := 43) 1 dX11_squares_43 (by decide) ?_
    refine e_zastN (pc := 44) (mul W x x) dX11_squares_44 (by repeat (first | assumption | exact hset_eq _ _ _ | (apply Lay.hd; assumption) | rw [hset_ne _ _ (by omega)])) (by rfl) (by omega) (by first | decide | omega) ?_
    refine n_inc (pc := 45) dX11_squares_45 rfl (by decide) ?_
    refine e_goto (pc := 48) (tgt := 25) dX11_squares_48 (by decide) ?_
    refine ih (x + 1) (by omega) (by omega) _ (p1.seen _) ((fm.tr p2.ff.fq).set (by omega)) ⟨_, hset_eq _ _ _, fun t ht => ?_⟩
    by_cases e : t = mul W x x
    · subst e
      rw [pk_us]
      unfold sqs
      rw [bl_t ⟨x, by omega, rfl⟩]; rfl
    · rw [pk_un e, g2 t ht]
      unfold sqs
      refine congrArg bI (bl_congr ⟨fun ⟨a, a1, a2⟩ => ⟨a, by omega, a2⟩, fun ⟨a, a1, a2⟩ => ?_⟩)
      by_cases ea : a = x
      · subst ea; exact absurd a2.symm e
      · exact ⟨a, by omega, a2⟩
theorem l_sq_3 {h : AH} {P : Nat → Bool} {Pr : Int32 → AH → Prop} (hk : Wok W) (hL : Lay h m W s) (hS : SeA h m P (W.1 ^ W.2.1)) (kk : Pr (nI (cn (W.1 ^ W.2.1) P)) h) :
    ∀ (t x : Nat), t = W.1 ^ W.2.1 - x → x ≤ W.1 ^ W.2.1 → VI MX11_squares sz Pr h 55 [some (.ref m), some (.int (nI (cn x P))), some (.int (nI x))] [] := by
  obtain ⟨b1, b2, b3, b4, b5⟩ := hk.b
  obtain ⟨g, g1, g2⟩ := hS
  intro t
  induction t with
  | zero =>
    intro x e1 e2
    have e' : x = W.1 ^ W.2.1 := by omega
    refine e_iload_n (pc := 55) dX11_squares_55 rfl rfl ?_
    refine e_aload_n (pc := 56) dX11_squares_56 rfl rfl ?_
    refine e_get (pc := 57) fl_X11_112 dX11_squares_57 (by repeat (first | assumption | exact hset_eq _ _ _ | (apply Lay.hd; assumption) | rw [hset_ne _ _ (by omega)])) (by rfl) ?_
    refine n_icmp_ge (pc := 60) (tgt := 86) dX11_squares_60 (by decide) (by omega) (by omega) (fun hb_ => ?_) (fun c => absurd c (by omega))
    refine e_iload_n (pc := 86) dX11_squares_86 rfl rfl ?_
    exact n_iret (pc := 87) dX11_squares_87 rfl (by rw [e']; exact kk)
  | succ t ih =>
    intro x e1 e2
    have z := g2 x (by omega)
    have q := ih (x + 1) (by omega) (by omega)
    rw [cn_s] at q
    refine e_iload_n (pc := 55) dX11_squares_55 rfl rfl ?_
    refine e_aload_n (pc := 56) dX11_squares_56 rfl rfl ?_
    refine e_get (pc := 57) fl_X11_112 dX11_squares_57 (by repeat (first | assumption | exact hset_eq _ _ _ | (apply Lay.hd; assumption) | rw [hset_ne _ _ (by omega)])) (by rfl) ?_
    refine n_icmp_ge (pc := 60) (tgt := 86) dX11_squares_60 (by decide) (by omega) (by omega) (fun c => absurd c (by omega)) (fun hb_ => ?_)
    refine e_iload_n (pc := 63) dX11_squares_63 rfl rfl ?_
    refine e_aload_n (pc := 64) dX11_squares_64 rfl rfl ?_
    refine e_get (pc := 65) fl_X11_59 dX11_squares_65 (by repeat (first | assumption | exact hset_eq _ _ _ | (apply Lay.hd; assumption) | rw [hset_ne _ _ (by omega)])) (by rfl) ?_
    refine e_iload_n (pc := 68) dX11_squares_68 rfl rfl ?_
    refine e_zaldN (pc := 69) x dX11_squares_69 (by repeat (first | assumption | exact hset_eq _ _ _ | (apply Lay.hd; assumption) | rw [hset_ne _ _ (by omega)])) (by rfl) (by omega) (by first | decide | omega) ?_
    rw [z]
    refine n_bif_eq (pc := 70) (tgt := 77) dX11_squares_70 (by decide) (fun c => ?_) (fun c => ?_)
    · rw [if_neg (by rw [c]; decide)] at q
      refine n_iconst (pc := 77) 0 dX11_squares_77 (by decide) ?_
      refine n_iadd (pc := 78) dX11_squares_78 ?_
      refine e_istore_n (pc := 79) dX11_squares_79 rfl (by decide) ?_
      refine n_inc (pc := 80) dX11_squares_80 rfl (by decide) ?_
      refine e_goto (pc := 83) (tgt := 55) dX11_squares_83 (by decide) ?_
      exact q
    · rw [if_pos c] at q
      refine n_iconst (pc := 73) 1 dX11_squares_73 (by decide) ?_
      refine e_goto (pc := 74) (tgt := 78) dX11_squares_74 (by decide) ?_
      refine n_iadd (pc := 78) dX11_squares_78 ?_
      refine e_istore_n (pc := 79) dX11_squares_79 rfl (by decide) ?_
      refine n_inc (pc := 80) dX11_squares_80 rfl (by decide) ?_
      refine e_goto (pc := 83) (tgt := 55) dX11_squares_83 (by decide) ?_
      exact q
theorem c_X11_squares {h : AH} (hL : Lay h m W s) (hk : Wok W) : CI yX11_squares MX11_squares [.ref m] h (fun z h' => z = nI (cn (W.1 ^ W.2.1) (sqs W (W.1 ^ W.2.1))) ∧ Lay h' m W s ∧ FmB m h h') := by
  have b := hk.b
  obtain ⟨-, -, ⟨g, hg⟩, -⟩ := id hL.2.2
  refine CI.ofV (by decide) rfl rfl (by simp [Value.category]) (by exact Nat.le_of_ble_eq_true rfl) (fun sz => ?_)
  refine n_iconst (pc := 0) 0 dX11_squares_0 (by decide) ?_
  refine e_istore_n (pc := 1) dX11_squares_1 rfl (by decide) ?_
  refine l_sq_1 (hh := h) hk (fun h2 l2 f2 s2 => ?_) (W.1 ^ W.2.1) 0 rfl (Nat.zero_le _) h hL (FmB.rf _ _) ⟨g, hg, fun t ht => absurd ht (Nat.not_lt_zero t)⟩
  refine n_iconst (pc := 23) 0 dX11_squares_23 (by decide) ?_
  refine e_istore_n (pc := 24) dX11_squares_24 rfl (by decide) ?_
  have e0 : sqs W 0 = fun _ => false := by
    funext t
    exact bl_f (fun ⟨a, ha, _⟩ => absurd ha (Nat.not_lt_zero a))
  refine l_sq_2 (hh := h) hk (fun h3 l3 f3 s3 => ?_) (W.1 ^ W.2.1) 0 rfl (Nat.zero_le _) h2 l2 f2 (by rw [e0]; exact s2)
  refine n_iconst (pc := 51) 0 dX11_squares_51 (by decide) ?_
  refine e_istore_n (pc := 52) dX11_squares_52 rfl (by decide) ?_
  refine n_iconst (pc := 53) 0 dX11_squares_53 (by decide) ?_
  refine e_istore_n (pc := 54) dX11_squares_54 rfl (by decide) ?_
  exact l_sq_3 hk l3 s3 ⟨rfl, l3, f3⟩ (W.1 ^ W.2.1) 0 rfl (Nat.zero_le _)
end MJ
