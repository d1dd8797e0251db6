/-! ===== the reference: maps counted ===== -/
abbrev mxp (d : Nat) : MI := (RX11, cX11_maps, 4, (Option.some FieldType.int), d, 0, 0, false)
section MP
variable {m : Nat} {s : Ms} {W W2 : Wd} {sz d fx : Nat} {hh : AH}
abbrev Ms.wa (s : Ms) : Int32 := s.2.2.2.2.2.2.2.2.2.2.2.2
/-- digits, the matrix and the images tried have changed -/
def FmT (m : Nat) (h h' : AH) : Prop := ∀ b, (b < m + 4 ∨ (m + 7 ≤ b ∧ b < m + 11) ∨ (m + 17 ≤ b ∧ b ≠ m + 104)) → h' b = h b
theorem FmT.rf (m : Nat) (h : AH) : FmT m h h := fun _ _ => rfl
theorem FmT.tr {m : Nat} {h h1 h2 : AH} (a : FmT m h h1) (b : FmT m h1 h2) : FmT m h h2 := fun q y => (b q y).trans (a q y)
theorem FmA.t {m : Nat} {h h1 : AH} (a : FmA m h h1) : FmT m h h1 := fun b y => a b (by omega)
theorem FmT.fq {m : Nat} {h h1 : AH} (a : FmT m h h1) : FmB m h h1 := fun b y => a b (by omega)
theorem FmT.set {m : Nat} {h h1 : AH} {x : AE} (a : FmT m h h1) : FmT m h (hset h1 (m + 104) x) := fun b q => by
  rw [hset_ne _ _ (by omega)]
  exact a b q
/-- the first of the images tried -/
def Trd (h : AH) (m i : Nat) (c : Nat → Nat) : Prop := ∃ g, h (m + 104) = some (aI 5 g) ∧ ∀ j, j < i → g j = nI (c j)
theorem Trd.keep {h h2 : AH} {i : Nat} {c : Nat → Nat} (q : Trd h m i c) (e : h2 (m + 104) = h (m + 104)) : Trd h2 m i c := by
  obtain ⟨g, g1, g2⟩ := q
  exact ⟨g, e.trans g1, g2⟩
/-- what is wanted of the first image -/
def Wnt (s : Ms) (fx q : Nat) : Prop := (fx = 0 ∧ s.wa = -1) ∨ (0 < fx ∧ fx < q ∧ s.wa = nI fx)
def PMs (W W2 : Wd) (fx : Nat) : (Nat → Nat) → Prop := PM W (mul W2) (fun i => W.1 ^ i) id fx
theorem l_mp_b {a : Nat} {c : Nat → Nat} {Pr : Int32 → AH → Prop} (hd : 7 ≤ d) (hk : Wok W) (hk2 : Wok W2) (he : W2.1 = W.1 ∧ W2.2.1 = W.2.1) (ha : a < W.2.1) (hc : ∀ j, j < W.2.1 → c j < W.1 ^ W.2.1)
    (kf : ∀ h, Lay h m W s → FmA m hh h → Trd h m W.2.1 c → ¬ PMs W W2 fx c → Pr (nI 0) h)
    (kk : ∀ h, Lay h m W s → FmA m hh h → CuI h (m + 103) W2 → Trd h m W.2.1 c → (∀ b, b < W.2.1 → mul W2 (c a) (c b) = lin W.1 W.2.1 c (mul W (W.1 ^ a) (W.1 ^ b))) → VI (mxp d) sz Pr h 81 [some (.ref m), some (.int (nI W.2.1)), some (.int (nI a)), none] []) :
    ∀ (t b : Nat), t = W.2.1 - b → b ≤ W.2.1 → ∀ h, Lay h m W s → FmA m hh h → CuI h (m + 103) W2 → Trd h m W.2.1 c → (∀ j, j < b → mul W2 (c a) (c j) = lin W.1 W.2.1 c (mul W (W.1 ^ a) (W.1 ^ j))) → VI (mxp d) sz Pr h 20 [some (.ref m), some (.int (nI W.2.1)), some (.int (nI a)), some (.int (nI b))] [] := by
  obtain ⟨b1, b2, b3, b4, b5⟩ := hk.b
  intro t
  induction t with
  | zero =>
    intro b e1 e2 h hL fm hC hT h0
    have e' : b = W.2.1 := by omega
    subst e'
    refine e_iload_n (pc := 20) dX11_maps_20 rfl rfl ?_
    refine e_aload_n (pc := 21) dX11_maps_21 rfl rfl ?_
    refine e_get (pc := 22) fl_X11_109 dX11_maps_22 (by repeat (first | assumption | exact hset_eq _ _ _ | (apply Lay.hd; assumption) | rw [hset_ne _ _ (by omega)])) (by rfl) ?_
    refine n_icmp_ge (pc := 25) (tgt := 81) dX11_maps_25 (by decide) (by omega) (by omega) (fun hb_ => ?_) (fun c => absurd c (by omega))
    refine V.mask [true, true, true, false] ?_
    exact kk h hL fm hC hT h0
  | succ t ih =>
    intro b e1 e2 h hL fm hC hT h0
    have hb : b < W.2.1 := by omega
    have pi := pow_q hk ha
    have pj := pow_q hk hb
    have o0 := hc a ha
    have o1 := hc b hb
    have ml := mul_lt hk (W.1 ^ a) (W.1 ^ b)
    have m2 := mul_lt hk2 (c a) (c b)
    rw [he.1, he.2] at m2
    have ll : lin W.1 W.2.1 c (mul W (W.1 ^ a) (W.1 ^ b)) < W.1 ^ W.2.1 := lin_lt (by omega) b4 hc
    obtain ⟨g, g1, g2⟩ := id hT
    have z0 := g2 a ha
    have z1 := g2 b hb
    refine e_iload_n (pc := 20) dX11_maps_20 rfl rfl ?_
    refine e_aload_n (pc := 21) dX11_maps_21 rfl rfl ?_
    refine e_get (pc := 22) fl_X11_109 dX11_maps_22 (by repeat (first | assumption | exact hset_eq _ _ _ | (apply Lay.hd; assumption) | rw [hset_ne _ _ (by omega)])) (by rfl) ?_
    refine n_icmp_ge (pc := 25) (tgt := 81) dX11_maps_25 (by decide) (by omega) (by omega) (fun c => absurd c (by omega)) (fun hb_ => ?_)
    refine e_aload_n (pc := 28) dX11_maps_28 rfl rfl ?_
    refine e_aload_n (pc := 29) dX11_maps_29 rfl rfl ?_
    refine e_get (pc := 30) fl_X11_83 dX11_maps_30 (by repeat (first | assumption | exact hset_eq _ _ _ | (apply Lay.hd; assumption) | rw [hset_ne _ _ (by omega)])) (by rfl) ?_
    refine e_aload_n (pc := 33) dX11_maps_33 rfl rfl ?_
    refine e_get (pc := 34) fl_X11_86 dX11_maps_34 (by repeat (first | assumption | exact hset_eq _ _ _ | (apply Lay.hd; assumption) | rw [hset_ne _ _ (by omega)])) (by rfl) ?_
    refine e_iload_n (pc := 37) dX11_maps_37 rfl rfl ?_
    refine e_ialdN (pc := 38) a dX11_maps_38 (by repeat (first | assumption | exact hset_eq _ _ _ | (apply Lay.hd; assumption) | rw [hset_ne _ _ (by omega)])) (by rfl) (by omega) (by first | decide | omega) ?_
    rw [z0]
    refine e_aload_n (pc := 39) dX11_maps_39 rfl rfl ?_
    refine e_get (pc := 40) fl_X11_86 dX11_maps_40 (by repeat (first | assumption | exact hset_eq _ _ _ | (apply Lay.hd; assumption) | rw [hset_ne _ _ (by omega)])) (by rfl) ?_
    refine e_iload_n (pc := 43) dX11_maps_43 rfl rfl ?_
    refine e_ialdN (pc := 44) b dX11_maps_44 (by repeat (first | assumption | exact hset_eq _ _ _ | (apply Lay.hd; assumption) | rw [hset_ne _ _ (by omega)])) (by rfl) (by omega) (by first | decide | omega) ?_
    rw [z1]
    refine n_V (pc := 45) (c_timesK hL hC hk2 he (show c a < 2 ^ 31 by omega) (show c b < 2 ^ 31 by omega) (by omega)) bX11_timesBy q_i_X11_timesBy q_s_X11_timesBy q_m_X11_123 dX11_maps_45 rfl rfl (by repeat (first | assumption | exact hset_eq _ _ _ | (apply Lay.hd; assumption) | rw [hset_ne _ _ (by omega)])) rfl rfl (by exact Nat.le_of_ble_eq_true rfl) ⟨by show 5 + 1 ≤ d; omega, by exact Nat.le_of_ble_eq_true rfl⟩ ⟨rfl, rfl, Nat.zero_le _, Nat.zero_le _⟩ (fun z h2 hp => ?_)
    obtain ⟨rfl, l2, d2⟩ := hp
    refine e_aload_n (pc := 48) dX11_maps_48 rfl rfl ?_
    refine e_aload_n (pc := 49) dX11_maps_49 rfl rfl ?_
    refine e_aload_n (pc := 50) dX11_maps_50 rfl rfl ?_
    refine e_iload_n (pc := 51) dX11_maps_51 rfl rfl ?_
    refine n_VP (pc := 52) (l2.base (show a < 2 ^ 31 by omega)) bX11_base q_i_X11_base q_s_X11_base q_m_X11_223 dX11_maps_52 rfl rfl (by repeat (first | assumption | exact hset_eq _ _ _ | (apply Lay.hd; assumption) | rw [hset_ne _ _ (by omega)])) rfl rfl (by exact Nat.le_of_ble_eq_true rfl) ⟨by show 5 + 1 ≤ d; omega, by exact Nat.le_of_ble_eq_true rfl⟩ ⟨rfl, rfl, Nat.zero_le _, Nat.zero_le _⟩ ?_
    refine e_aload_n (pc := 55) dX11_maps_55 rfl rfl ?_
    refine e_iload_n (pc := 56) dX11_maps_56 rfl rfl ?_
    refine n_VP (pc := 57) (l2.base (show b < 2 ^ 31 by omega)) bX11_base q_i_X11_base q_s_X11_base q_m_X11_223 dX11_maps_57 rfl rfl (by repeat (first | assumption | exact hset_eq _ _ _ | (apply Lay.hd; assumption) | rw [hset_ne _ _ (by omega)])) rfl rfl (by exact Nat.le_of_ble_eq_true rfl) ⟨by show 5 + 1 ≤ d; omega, by exact Nat.le_of_ble_eq_true rfl⟩ ⟨rfl, rfl, Nat.zero_le _, Nat.zero_le _⟩ ?_
    refine n_V (pc := 60) (c_X11_times l2 hk (show W.1 ^ a < 2 ^ 31 by omega) (show W.1 ^ b < 2 ^ 31 by omega)) bX11_times q_i_X11_times q_s_X11_times q_m_X11_266 dX11_maps_60 rfl rfl (by repeat (first | assumption | exact hset_eq _ _ _ | (apply Lay.hd; assumption) | rw [hset_ne _ _ (by omega)])) rfl rfl (by exact Nat.le_of_ble_eq_true rfl) ⟨by show 6 + 1 ≤ d; omega, by exact Nat.le_of_ble_eq_true rfl⟩ ⟨rfl, rfl, Nat.zero_le _, Nat.zero_le _⟩ (fun z h3 hp => ?_)
    obtain ⟨rfl, l3, d3⟩ := hp
    have g3 : h3 (m + 104) = some (aI 5 g) := (d3 _ (by omega) (by omega) (by omega)).trans ((d2 _ (by omega) (by omega) (by omega)).trans g1)
    refine e_aload_n (pc := 63) dX11_maps_63 rfl rfl ?_
    refine e_get (pc := 64) fl_X11_86 dX11_maps_64 (by repeat (first | assumption | exact hset_eq _ _ _ | (apply Lay.hd; assumption) | rw [hset_ne _ _ (by omega)])) (by rfl) ?_
    refine n_V (pc := 67) (c_X11_mapped (bs := c) l3 hk (by omega) g3 g2 hc (show mul W (W.1 ^ a) (W.1 ^ b) < 2 ^ 31 by omega)) bX11_mapped q_i_X11_mapped q_s_X11_mapped q_m_X11_334 dX11_maps_67 rfl rfl (by repeat (first | assumption | exact hset_eq _ _ _ | (apply Lay.hd; assumption) | rw [hset_ne _ _ (by omega)])) rfl rfl (by exact Nat.le_of_ble_eq_true rfl) ⟨by show 6 + 1 ≤ d; omega, by exact Nat.le_of_ble_eq_true rfl⟩ ⟨rfl, rfl, Nat.zero_le _, Nat.zero_le _⟩ (fun z h4 hp => ?_)
    obtain ⟨rfl, l4, d4⟩ := hp
    have d5 : FdM m h h4 := (d2.tr d3).tr d4
    have f4 := fm.tr d5.ff
    have t4 : Trd h4 m W.2.1 c := hT.keep (d5 _ (by omega) (by omega) (by omega))
    refine n_icmp_eq (pc := 70) (tgt := 75) dX11_maps_70 (by decide) (by omega) (by omega) (fun cc => ?_) (fun cc => ?_)
    · refine n_inc (pc := 75) dX11_maps_75 rfl (by exact Nat.le_of_ble_eq_true rfl) ?_
      refine e_goto (pc := 78) (tgt := 20) dX11_maps_78 (by decide) ?_
      refine ih (b + 1) (by omega) (by omega) h4 l4 f4 (hC.keep (d5 _ (by omega) (by omega) (by omega))) t4 (fun j hj => ?_)
      by_cases e : j = b
      · subst e; exact cc
      · exact h0 j (by omega)
    · refine n_iconst (pc := 73) 0 dX11_maps_73 (by decide) ?_
      exact n_iret (pc := 74) dX11_maps_74 rfl (kf h4 l4 f4 t4 (fun q => cc (q.2.2.2 a b ha hb)))
theorem l_mp_a {c : Nat → Nat} {Pr : Int32 → AH → Prop} (hd : 7 ≤ d) (hk : Wok W) (hk2 : Wok W2) (he : W2.1 = W.1 ∧ W2.2.1 = W.2.1) (hc : ∀ j, j < W.2.1 → c j < W.1 ^ W.2.1)
    (kf : ∀ h, Lay h m W s → FmA m hh h → Trd h m W.2.1 c → ¬ PMs W W2 fx c → Pr (nI 0) h)
    (kk : ∀ h, Lay h m W s → FmA m hh h → CuI h (m + 103) W2 → Trd h m W.2.1 c → (∀ a b, a < W.2.1 → b < W.2.1 → mul W2 (c a) (c b) = lin W.1 W.2.1 c (mul W (W.1 ^ a) (W.1 ^ b))) → VI (mxp d) sz Pr h 87 [some (.ref m), some (.int (nI W.2.1)), none, none] []) :
    ∀ (t a : Nat), t = W.2.1 - a → a ≤ W.2.1 → ∀ h, Lay h m W s → FmA m hh h → CuI h (m + 103) W2 → Trd h m W.2.1 c → (∀ i j, i < a → j < W.2.1 → mul W2 (c i) (c j) = lin W.1 W.2.1 c (mul W (W.1 ^ i) (W.1 ^ j))) → VI (mxp d) sz Pr h 10 [some (.ref m), some (.int (nI W.2.1)), some (.int (nI a)), none] [] := by
  obtain ⟨b1, b2, b3, b4, b5⟩ := hk.b
  intro t
  induction t with
  | zero =>
    intro a e1 e2 h hL fm hC hT h0
    have e' : a = W.2.1 := by omega
    subst e'
    refine e_iload_n (pc := 10) dX11_maps_10 rfl rfl ?_
    refine e_aload_n (pc := 11) dX11_maps_11 rfl rfl ?_
    refine e_get (pc := 12) fl_X11_109 dX11_maps_12 (by repeat (first | assumption | exact hset_eq _ _ _ | (apply Lay.hd; assumption) | rw [hset_ne _ _ (by omega)])) (by rfl) ?_
    refine n_icmp_ge (pc := 15) (tgt := 87) dX11_maps_15 (by decide) (by omega) (by omega) (fun hb_ => ?_) (fun c => absurd c (by omega))
    refine V.mask [true, true, false, false] ?_
    exact kk h hL fm hC hT h0
  | succ t ih =>
    intro a e1 e2 h hL fm hC hT h0
    refine e_iload_n (pc := 10) dX11_maps_10 rfl rfl ?_
    refine e_aload_n (pc := 11) dX11_maps_11 rfl rfl ?_
    refine e_get (pc := 12) fl_X11_109 dX11_maps_12 (by repeat (first | assumption | exact hset_eq _ _ _ | (apply Lay.hd; assumption) | rw [hset_ne _ _ (by omega)])) (by rfl) ?_
    refine n_icmp_ge (pc := 15) (tgt := 87) dX11_maps_15 (by decide) (by omega) (by omega) (fun c => absurd c (by omega)) (fun hb_ => ?_)
    refine n_iconst (pc := 18) 0 dX11_maps_18 (by decide) ?_
    refine e_istore_n (pc := 19) dX11_maps_19 rfl (by exact Nat.le_of_ble_eq_true rfl) ?_
    refine l_mp_b (fx := fx) (hh := hh) hd hk hk2 he (show a < W.2.1 by omega) hc kf (fun h2 l2 f2 c2 t2 q2 => ?_) W.2.1 0 rfl (Nat.zero_le _) h hL fm hC hT (fun j hj => absurd hj (Nat.not_lt_zero j))
    refine n_inc (pc := 81) dX11_maps_81 rfl (by exact Nat.le_of_ble_eq_true rfl) ?_
    refine e_goto (pc := 84) (tgt := 10) dX11_maps_84 (by decide) ?_
    refine ih (a + 1) (by omega) (by omega) h2 l2 f2 c2 t2 (fun i j hi hj => ?_)
    by_cases e : i = a
    · subst e; exact q2 j hj
    · exact h0 i j (by omega) hj
/-- all images are told -/
theorem c_maps_n {h : AH} {c : Nat → Nat} (hd : 7 ≤ d) (hL : Lay h m W s) (hk : Wok W) (hk2 : Wok W2) (he : W2.1 = W.1 ∧ W2.2.1 = W.2.1) (hC : CuI h (m + 103) W2) (hT : Trd h m W.2.1 c) (hc : ∀ j, j < W.2.1 → c j < W.1 ^ W.2.1) (hw : 0 < fx → c 0 = fx) : CI yX11_maps (mxp d) [.ref m, .int (nI W.2.1)] h (fun z h' => z = nI (TC (W.1 ^ W.2.1) W.2.1 W.2.1 c (PMs W W2 fx)) ∧ Lay h' m W s ∧ FmT m h h' ∧ Trd h' m W.2.1 c) := by
  obtain ⟨b1, b2, b3, b4, b5⟩ := hk.b
  have tcn : TC (W.1 ^ W.2.1) W.2.1 W.2.1 c (PMs W W2 fx) = if bl (PMs W W2 fx c) = true then 1 else 0 := TC_n (PM_loc (by omega))
  refine CI.ofV (by decide) rfl rfl (by simp [Value.category]) (by exact Nat.le_of_ble_eq_true rfl) (fun sz => ?_)
  refine e_iload_n (pc := 0) dX11_maps_0 rfl rfl ?_
  refine e_aload_n (pc := 1) dX11_maps_1 rfl rfl ?_
  refine e_get (pc := 2) fl_X11_109 dX11_maps_2 (by repeat (first | assumption | exact hset_eq _ _ _ | (apply Lay.hd; assumption) | rw [hset_ne _ _ (by omega)])) (by rfl) ?_
  refine n_icmp_ne (pc := 5) (tgt := 104) dX11_maps_5 (by decide) (by omega) (by omega) (fun c => absurd c (by omega)) (fun hb_ => ?_)
  refine n_iconst (pc := 8) 0 dX11_maps_8 (by decide) ?_
  refine e_istore_n (pc := 9) dX11_maps_9 rfl (by exact Nat.le_of_ble_eq_true rfl) ?_
  refine l_mp_a (fx := fx) (hh := h) (c := c) hd hk hk2 he hc (fun h2 l2 f2 t2 nq => ⟨by rw [tcn, if_neg (fun q => nq (bl_iff.mp q))], l2, f2.t, t2⟩) (fun h2 l2 f2 c2 t2 q2 => ?_) W.2.1 0 rfl (Nat.zero_le _) h hL (FmA.rf _ _) hC hT (fun i j hi => absurd hi (Nat.not_lt_zero i))
  · obtain ⟨g, g1, g2⟩ := id t2
    refine e_aload_n (pc := 87) dX11_maps_87 rfl rfl ?_
    refine e_aload_n (pc := 88) dX11_maps_88 rfl rfl ?_
    refine e_get (pc := 89) fl_X11_86 dX11_maps_89 (by repeat (first | assumption | exact hset_eq _ _ _ | (apply Lay.hd; assumption) | rw [hset_ne _ _ (by omega)])) (by rfl) ?_
    refine n_V (pc := 92) (c_X11_isOneToOne (bs := c) l2 hk (by omega) g1 g2 (fun i hi => by have := hc i hi; omega)) bX11_isOneToOne q_i_X11_isOneToOne q_s_X11_isOneToOne q_m_X11_330 dX11_maps_92 rfl rfl (by repeat (first | assumption | exact hset_eq _ _ _ | (apply Lay.hd; assumption) | rw [hset_ne _ _ (by omega)])) rfl rfl (by exact Nat.le_of_ble_eq_true rfl) ⟨by show 5 + 1 ≤ d; omega, by exact Nat.le_of_ble_eq_true rfl⟩ ⟨rfl, rfl, Nat.zero_le _, Nat.zero_le _⟩ (fun z h3 hp => ?_)
    obtain ⟨rfl, rn, l3, f3⟩ := hp
    have fin : FmT m h h3 := (f2.tr f3).t
    have t3 : Trd h3 m W.2.1 c := t2.keep (f3 _ (by omega))
    refine n_bif_eq (pc := 95) (tgt := 102) dX11_maps_95 (by decide) (fun cb => ?_) (fun cb => ?_)
    · have nI0 : ¬ PMs W W2 fx c := fun q => of_decide_eq_false cb ((one_rkf hk hc).mpr q.2.1)
      refine n_iconst (pc := 102) 0 dX11_maps_102 (by decide) ?_
      exact n_iret (pc := 103) dX11_maps_103 rfl ⟨by rw [tcn, if_neg (fun q => nI0 (bl_iff.mp q))], l3, fin, t3⟩
    · have yes : PMs W W2 fx c := ⟨hc, (one_rkf hk hc).mp (of_decide_eq_true cb), hw, fun i j hi hj => q2 i j hi hj⟩
      refine n_iconst (pc := 98) 1 dX11_maps_98 (by decide) ?_
      refine e_goto (pc := 99) (tgt := 103) dX11_maps_99 (by decide) ?_
      exact n_iret (pc := 103) dX11_maps_103 rfl ⟨by rw [tcn, if_pos (bl_t yes)], l3, fin, t3⟩
theorem l_mp_x {i : Nat} {c : Nat → Nat} (hd : 8 ≤ d) (hk : Wok W) (hi : i < W.2.1) (hc : ∀ j, j < i → c j < W.1 ^ W.2.1) (hw : Wnt s fx (W.1 ^ W.2.1)) (hw0 : 0 < fx → 0 < i → c 0 = fx)
    (rec : ∀ h c2, (∀ j, j < i + 1 → c2 j < W.1 ^ W.2.1) → (0 < fx → c2 0 = fx) → Lay h m W s → CuI h (m + 103) W2 → Trd h m (i + 1) c2 → CI yX11_maps (mxp (d - 1)) [.ref m, .int (nI (i + 1))] h (fun z h' => z = nI (TC (W.1 ^ W.2.1) W.2.1 (i + 1) c2 (PMs W W2 fx)) ∧ Lay h' m W s ∧ FmT m h h' ∧ Trd h' m (i + 1) c2)) :
    ∀ (t x : Nat), t = W.1 ^ W.2.1 - x → 0 < x → x ≤ W.1 ^ W.2.1 → ∀ h, Lay h m W s → FmT m hh h → CuI h (m + 103) W2 → Trd h m i c → VI (mxp d) sz (fun z h' => z = nI (sg (W.1 ^ W.2.1) (fun x => TC (W.1 ^ W.2.1) W.2.1 (i + 1) (cput c i x) (PMs W W2 fx))) ∧ Lay h' m W s ∧ FmT m hh h' ∧ Trd h' m i c) h 108 [some (.ref m), some (.int (nI i)), some (.int (nI (sg x (fun x => TC (W.1 ^ W.2.1) W.2.1 (i + 1) (cput c i x) (PMs W W2 fx))))), some (.int (nI x))] [] := by
  obtain ⟨b1, b2, b3, b4, b5⟩ := hk.b
  intro t
  induction t with
  | zero =>
    intro x e1 e0 e2 h hL fm hC hT
    have e' : x = W.1 ^ W.2.1 := by omega
    refine e_iload_n (pc := 108) dX11_maps_108 rfl rfl ?_
    refine e_aload_n (pc := 109) dX11_maps_109 rfl rfl ?_
    refine e_get (pc := 110) fl_X11_112 dX11_maps_110 (by repeat (first | assumption | exact hset_eq _ _ _ | (apply Lay.hd; assumption) | rw [hset_ne _ _ (by omega)])) (by rfl) ?_
    refine n_icmp_ge (pc := 113) (tgt := 170) dX11_maps_113 (by decide) (by omega) (by omega) (fun hb_ => ?_) (fun c => absurd c (by omega))
    refine e_iload_n (pc := 170) dX11_maps_170 rfl rfl ?_
    exact n_iret (pc := 171) dX11_maps_171 rfl ⟨by rw [e'], hL, fm, hT⟩
  | succ t ih =>
    intro x e1 e0 e2 h hL fm hC hT
    have hx : x < W.1 ^ W.2.1 := by omega
    have skip : ∀ h2, Lay h2 m W s → FmT m hh h2 → CuI h2 (m + 103) W2 → Trd h2 m i c → TC (W.1 ^ W.2.1) W.2.1 (i + 1) (cput c i x) (PMs W W2 fx) = 0 → VI (mxp d) sz (fun z h' => z = nI (sg (W.1 ^ W.2.1) (fun x => TC (W.1 ^ W.2.1) W.2.1 (i + 1) (cput c i x) (PMs W W2 fx))) ∧ Lay h' m W s ∧ FmT m hh h' ∧ Trd h' m i c) h2 164 [some (.ref m), some (.int (nI i)), some (.int (nI (sg x (fun x => TC (W.1 ^ W.2.1) W.2.1 (i + 1) (cput c i x) (PMs W W2 fx))))), some (.int (nI x))] [] := fun h2 l2 f2 c2 t2 z => by
      refine n_inc (pc := 164) dX11_maps_164 rfl (by exact Nat.le_of_ble_eq_true rfl) ?_
      refine e_goto (pc := 167) (tgt := 108) dX11_maps_167 (by decide) ?_
      have q := ih (x + 1) (by omega) (by omega) (by omega) h2 l2 f2 c2 t2
      rw [show sg (x + 1) (fun x => TC (W.1 ^ W.2.1) W.2.1 (i + 1) (cput c i x) (PMs W W2 fx)) = sg x (fun x => TC (W.1 ^ W.2.1) W.2.1 (i + 1) (cput c i x) (PMs W W2 fx)) + TC (W.1 ^ W.2.1) W.2.1 (i + 1) (cput c i x) (PMs W W2 fx) from rfl, z, Nat.add_zero] at q
      exact q
    have go : (0 < fx → i = 0 → x = fx) → VI (mxp d) sz (fun z h' => z = nI (sg (W.1 ^ W.2.1) (fun x => TC (W.1 ^ W.2.1) W.2.1 (i + 1) (cput c i x) (PMs W W2 fx))) ∧ Lay h' m W s ∧ FmT m hh h' ∧ Trd h' m i c) h 139 [some (.ref m), some (.int (nI i)), some (.int (nI (sg x (fun x => TC (W.1 ^ W.2.1) W.2.1 (i + 1) (cput c i x) (PMs W W2 fx))))), some (.int (nI x))] [] := fun hwx => by
      obtain ⟨g, g1, g2⟩ := id hT
      have cl : ∀ j, j < i + 1 → cput c i x j < W.1 ^ W.2.1 := fun j hj => by
        unfold cput
        by_cases e : j = i
        · rw [if_pos e]; exact hx
        · rw [if_neg e]; exact hc j (by omega)
      have c0 : 0 < fx → cput c i x 0 = fx := fun q => by
        unfold cput
        by_cases e : 0 = i
        · rw [if_pos e]; exact hwx q e.symm
        · rw [if_neg e]; exact hw0 q (by omega)
      refine e_aload_n (pc := 139) dX11_maps_139 rfl rfl ?_
      refine e_get (pc := 140) fl_X11_86 dX11_maps_140 (by repeat (first | assumption | exact hset_eq _ _ _ | (apply Lay.hd; assumption) | rw [hset_ne _ _ (by omega)])) (by rfl) ?_
      refine e_iload_n (pc := 143) dX11_maps_143 rfl rfl ?_
      refine e_iload_n (pc := 144) dX11_maps_144 rfl rfl ?_
      refine e_iastN (pc := 145) i dX11_maps_145 (by repeat (first | assumption | exact hset_eq _ _ _ | (apply Lay.hd; assumption) | rw [hset_ne _ _ (by omega)])) (by rfl) (by omega) (by first | decide | omega) ?_
      have l1 : Lay (hset h (m + 104) (aI 5 (upd g i (nI x)))) m W s := hL.row (isR_d 104 (by decide)) rfl (by decide) (by decide)
      have f1 : FmT m hh (hset h (m + 104) (aI 5 (upd g i (nI x)))) := fm.set
      have c1 : CuI (hset h (m + 104) (aI 5 (upd g i (nI x)))) (m + 103) W2 := hC.keep (hset_ne _ _ (by omega))
      have t1 : hset h (m + 104) (aI 5 (upd g i (nI x))) (m + 104) = some (aI 5 (upd g i (nI x))) := hset_eq _ _ _
      have t2 : ∀ j, j < i + 1 → upd g i (nI x) j = nI (cput c i x j) := fun j hj => by
        unfold cput
        by_cases e : j = i
        · subst e; rw [pk_us, if_pos rfl]
        · rw [pk_un e, if_neg e]; exact g2 j (by omega)
      generalize hset h (m + 104) (aI 5 (upd g i (nI x))) = h1 at l1 f1 c1 t1 ⊢
      refine e_aload_n (pc := 146) dX11_maps_146 rfl rfl ?_
      refine e_iload_n (pc := 147) dX11_maps_147 rfl rfl ?_
      refine n_V (pc := 148) (c_X11_isFree (c := cput c i x) l1 hk hi t1 (fun j hj => t2 j (by omega)) (fun j hj => cl j (by omega))) bX11_isFree q_i_X11_isFree q_s_X11_isFree q_m_X11_338 dX11_maps_148 rfl rfl (by repeat (first | assumption | exact hset_eq _ _ _ | (apply Lay.hd; assumption) | rw [hset_ne _ _ (by omega)])) rfl rfl (by exact Nat.le_of_ble_eq_true rfl) ⟨by show 5 + 1 ≤ d; omega, by exact Nat.le_of_ble_eq_true rfl⟩ ⟨rfl, rfl, Nat.zero_le _, Nat.zero_le _⟩ (fun z h2 hp => ?_)
      obtain ⟨⟨bb, rfl, nf⟩, l2, f2⟩ := hp
      have tr2 : Trd h2 m (i + 1) (cput c i x) := ⟨_, (f2 _ (by omega)).trans t1, t2⟩
      have low : ∀ h3, Trd h3 m (i + 1) (cput c i x) → Trd h3 m i c := fun h3 q => by
        obtain ⟨g', p1, p2⟩ := q
        refine ⟨g', p1, fun j hj => ?_⟩
        rw [p2 j (by omega)]
        unfold cput
        rw [if_neg (by omega)]
      have c2 : CuI h2 (m + 103) W2 := c1.keep (f2 _ (by omega))
      refine n_bif_eq (pc := 151) (tgt := 164) dX11_maps_151 (by decide) (fun cb => ?_) (fun cb => ?_)
      · refine skip h2 l2 (f1.tr f2.t) c2 (low h2 tr2) (TC_0 (fun dd hdd hP => ?_))
        exact nf cb dd (fun t ht => hdd t (by omega)) (fun t ht => hP.1 t ht) hP.2.1
      · refine e_iload_n (pc := 154) dX11_maps_154 rfl rfl ?_
        refine e_aload_n (pc := 155) dX11_maps_155 rfl rfl ?_
        refine e_iload_n (pc := 156) dX11_maps_156 rfl rfl ?_
        refine n_iconst (pc := 157) 1 dX11_maps_157 (by decide) ?_
        refine n_iadd (pc := 158) dX11_maps_158 ?_
        refine n_V (pc := 159) (rec h2 (cput c i x) cl c0 l2 c2 tr2) bX11_maps q_i_X11_maps q_s_X11_maps q_m_X11_341 dX11_maps_159 rfl rfl (by repeat (first | assumption | exact hset_eq _ _ _ | (apply Lay.hd; assumption) | rw [hset_ne _ _ (by omega)])) rfl rfl (by exact Nat.le_of_ble_eq_true rfl) ⟨by show (d-1) + 1 ≤ d; omega, by exact Nat.le_of_ble_eq_true rfl⟩ ⟨rfl, rfl, Nat.zero_le _, Nat.zero_le _⟩ (fun z h3 hp => ?_)
        obtain ⟨rfl, l3, f3, t3⟩ := hp
        refine n_iadd (pc := 162) dX11_maps_162 ?_
        refine e_istore_n (pc := 163) dX11_maps_163 rfl (by exact Nat.le_of_ble_eq_true rfl) ?_
        refine n_inc (pc := 164) dX11_maps_164 rfl (by exact Nat.le_of_ble_eq_true rfl) ?_
        refine e_goto (pc := 167) (tgt := 108) dX11_maps_167 (by decide) ?_
        exact ih (x + 1) (by omega) (by omega) (by omega) h3 l3 ((f1.tr f2.t).tr f3) (c2.keep (f3 _ (by omega))) (low h3 t3)
    refine e_iload_n (pc := 108) dX11_maps_108 rfl rfl ?_
    refine e_aload_n (pc := 109) dX11_maps_109 rfl rfl ?_
    refine e_get (pc := 110) fl_X11_112 dX11_maps_110 (by repeat (first | assumption | exact hset_eq _ _ _ | (apply Lay.hd; assumption) | rw [hset_ne _ _ (by omega)])) (by rfl) ?_
    refine n_icmp_ge (pc := 113) (tgt := 170) dX11_maps_113 (by decide) (by omega) (by omega) (fun c => absurd c (by omega)) (fun hb_ => ?_)
    rcases hw with ⟨w1, w2⟩ | ⟨w1, w2, w3⟩
    · refine e_aload_n (pc := 116) dX11_maps_116 rfl rfl ?_
      refine e_get (pc := 117) fl_X11_89 dX11_maps_117 (by repeat (first | assumption | exact hset_eq _ _ _ | (apply Lay.hd; assumption) | rw [hset_ne _ _ (by omega)])) (by rfl) ?_
      rw [show s.2.2.2.2.2.2.2.2.2.2.2.2 = -1 from w2]
      refine e_iconst (pc := 120) (v := -1) dX11_maps_120 (by decide) ?_
      refine e_icmp_eq (pc := 121) (tgt := 139) dX11_maps_121 (by decide) (fun _ => ?_) (fun q => absurd rfl q)
      exact go (fun q => by omega)
    · refine e_aload_n (pc := 116) dX11_maps_116 rfl rfl ?_
      refine e_get (pc := 117) fl_X11_89 dX11_maps_117 (by repeat (first | assumption | exact hset_eq _ _ _ | (apply Lay.hd; assumption) | rw [hset_ne _ _ (by omega)])) (by rfl) ?_
      rw [show s.2.2.2.2.2.2.2.2.2.2.2.2 = nI fx from w3]
      refine e_iconst (pc := 120) (v := -1) dX11_maps_120 (by decide) ?_
      refine e_icmp_eq (pc := 121) (tgt := 139) dX11_maps_121 (by decide) (fun q => absurd q (nI_ne (by omega))) (fun _ => ?_)
      refine e_iload_n (pc := 124) dX11_maps_124 rfl rfl ?_
      refine n_if_ne (pc := 125) (tgt := 139) dX11_maps_125 (by decide) (by omega) (fun c1 => ?_) (fun c1 => ?_)
      · exact go (fun _ q => absurd q c1)
      · refine e_iload_n (pc := 128) dX11_maps_128 rfl rfl ?_
        refine e_aload_n (pc := 129) dX11_maps_129 rfl rfl ?_
        refine e_get (pc := 130) fl_X11_89 dX11_maps_130 (by repeat (first | assumption | exact hset_eq _ _ _ | (apply Lay.hd; assumption) | rw [hset_ne _ _ (by omega)])) (by rfl) ?_
        rw [show s.2.2.2.2.2.2.2.2.2.2.2.2 = nI fx from w3]
        refine n_icmp_eq (pc := 133) (tgt := 139) dX11_maps_133 (by decide) (by omega) (by omega) (fun c2 => ?_) (fun c2 => ?_)
        · exact go (fun _ _ => c2)
        · refine e_goto (pc := 136) (tgt := 164) dX11_maps_136 (by decide) ?_
          refine skip h hL fm hC hT (TC_0 (fun dd hdd hP => c2 ?_))
          have q1 := hdd 0 (by omega)
          have q2 := hP.2.2.1 w1
          unfold cput at q1
          rw [if_pos c1.symm] at q1
          omega
theorem c_maps (hk : Wok W) (hk2 : Wok W2) (he : W2.1 = W.1 ∧ W2.2.1 = W.2.1) (hw : Wnt s fx (W.1 ^ W.2.1)) :
    ∀ (k i : Nat), k = W.2.1 - i → i ≤ W.2.1 → ∀ d, 7 + k ≤ d → ∀ h c, (∀ j, j < i → c j < W.1 ^ W.2.1) → (0 < fx → 0 < i → c 0 = fx) → Lay h m W s → CuI h (m + 103) W2 → Trd h m i c → CI yX11_maps (mxp d) [.ref m, .int (nI i)] h (fun z h' => z = nI (TC (W.1 ^ W.2.1) W.2.1 i c (PMs W W2 fx)) ∧ Lay h' m W s ∧ FmT m h h' ∧ Trd h' m i c) := by
  obtain ⟨b1, b2, b3, b4, b5⟩ := hk.b
  have hq := hk.pos
  intro k
  induction k with
  | zero =>
    intro i e1 e2 d hd h c hc hw0 hL hC hT
    have e' : i = W.2.1 := by omega
    subst e'
    exact c_maps_n (by omega) hL hk hk2 he hC hT hc (fun q => hw0 q (by omega))
  | succ k ih =>
    intro i e1 e2 d hd h c hc hw0 hL hC hT
    have hL0 : Loc W.2.1 (PMs W W2 fx) := PM_loc (by omega)
    have z0 : TC (W.1 ^ W.2.1) W.2.1 (i + 1) (cput c i 0) (PMs W W2 fx) = 0 := TC_0 (fun dd hdd hP => by
      have q1 := hdd i (by omega)
      unfold cput at q1
      rw [if_pos rfl] at q1
      have q2 := hP.2.1 i (by omega) 0 (Nat.pow_pos (by omega))
      rw [lin_0] at q2
      exact q2 q1.symm)
    have e : sg 1 (fun x => TC (W.1 ^ W.2.1) W.2.1 (i + 1) (cput c i x) (PMs W W2 fx)) = 0 := by
      show 0 + TC (W.1 ^ W.2.1) W.2.1 (i + 1) (cput c i 0) (PMs W W2 fx) = 0
      rw [z0]
    refine CI.ofV (by decide) rfl rfl (by simp [Value.category]) (by exact Nat.le_of_ble_eq_true rfl) (fun sz => ?_)
    refine e_iload_n (pc := 0) dX11_maps_0 rfl rfl ?_
    refine e_aload_n (pc := 1) dX11_maps_1 rfl rfl ?_
    refine e_get (pc := 2) fl_X11_109 dX11_maps_2 (by repeat (first | assumption | exact hset_eq _ _ _ | (apply Lay.hd; assumption) | rw [hset_ne _ _ (by omega)])) (by rfl) ?_
    refine n_icmp_ne (pc := 5) (tgt := 104) dX11_maps_5 (by decide) (by omega) (by omega) (fun hb_ => ?_) (fun c => absurd c (by omega))
    refine n_iconst (pc := 104) 0 dX11_maps_104 (by decide) ?_
    refine e_istore_n (pc := 105) dX11_maps_105 rfl (by exact Nat.le_of_ble_eq_true rfl) ?_
    refine n_iconst (pc := 106) 1 dX11_maps_106 (by decide) ?_
    refine e_istore_n (pc := 107) dX11_maps_107 rfl (by exact Nat.le_of_ble_eq_true rfl) ?_
    have q := l_mp_x (W2 := W2) (sz := sz) (d := d) (hh := h) (c := c) (by omega) hk (show i < W.2.1 by omega) hc hw hw0 (fun h2 c2 p1 p2 p3 p4 p5 => ih (i + 1) (by omega) (by omega) (d - 1) (by omega) h2 c2 p1 (fun q _ => p2 q) p3 p4 p5) (W.1 ^ W.2.1 - 1) 1 rfl (by decide) (by omega) h hL (FmT.rf _ _) hC hT
    rw [e, ← TC_s hL0 (by omega) hq] at q
    exact q
/-- all maps counted -/
theorem c_X11_maps {h : AH} (hL : Lay h m W s) (hk : Wok W) (hk2 : Wok W2) (he : W2.1 = W.1 ∧ W2.2.1 = W.2.1) (hw : Wnt s fx (W.1 ^ W.2.1)) (hC : CuI h (m + 103) W2) : CI yX11_maps MX11_maps [.ref m, .int (nI 0)] h (fun z h' => z = nI (NMs W (mul W2) fx) ∧ Lay h' m W s ∧ FmT m h h') := by
  obtain ⟨b1, b2, b3, b4, b5⟩ := hk.b
  obtain ⟨g, hg⟩ := hL.2.2.row (k := 104) (isR_d _ (by decide))
  exact (c_maps hk hk2 he hw W.2.1 0 rfl (Nat.zero_le _) 15 (by omega) h (fun _ => 0) (fun j hj => absurd hj (Nat.not_lt_zero j)) (fun _ q => absurd q (Nat.lt_irrefl 0)) hL hC ⟨g, hg, fun j hj => absurd hj (Nat.not_lt_zero j)⟩).mono (fun z h' q => ⟨q.1, q.2.1, q.2.2.1⟩)
end MP
