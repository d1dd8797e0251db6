/-! ===== the reference: unit, commuting, joining ===== -/
theorem mul_z0 {W : Wd} (hk : Wok W) (y : Nat) : mul W 0 y = 0 := by
  have b := hk.b
  have e : ∀ k, mc W 0 y k = 0 := fun k => sg_zero (fun i _ => sg_zero (fun j _ => by rw [dg_0, Nat.zero_mul, Nat.zero_mul]))
  exact (num_eq0 (by omega) (fun _ _ => Nat.mod_lt _ (by omega))).mpr (fun i _ => by rw [e, Nat.zero_mod])
section ME
variable {m : Nat} {s : Ms} {W : Wd} {sz : Nat} {hh : AH}
theorem Lay.base {h : AH} {i : Nat} (hL : Lay h m W s) (hi : i < 2 ^ 31) : CP yX11_base MX11_base [.ref m, .int (nI i)] h (nI (W.1 ^ i)) := c_X11_base hL.1 hi
theorem l_mun_i {e : Nat} {Pr : Int32 → AH → Prop} (hk : Wok W) (he : e < W.1 ^ W.2.1)
    (kf : ∀ h, Lay h m W s → FmA m hh h → ¬ isU W e → VI MX11_unit sz Pr h 80 [some (.ref m), some (.int (nI e)), none, none] [])
    (kk : ∀ h, Lay h m W s → FmA m hh h → isU W e → VI MX11_unit sz Pr h 78 [some (.ref m), some (.int (nI e)), none, none] []) :
    ∀ (t i : Nat), t = W.2.1 - i → i ≤ W.2.1 → ∀ h, Lay h m W s → FmA m hh h → (∀ j, j < i → mul W e (W.1 ^ j) = W.1 ^ j ∧ mul W (W.1 ^ j) e = W.1 ^ j) → VI MX11_unit sz Pr h 14 [some (.ref m), some (.int (nI e)), some (.int (nI 1)), some (.int (nI i))] [] := by
  obtain ⟨b1, b2, b3, b4, b5⟩ := hk.b
  intro t
  induction t with
  | zero =>
    intro i e1 e2 h hL fm h0
    have e' : i = W.2.1 := by omega
    refine e_iload_n (pc := 14) dX11_unit_14 rfl rfl ?_
    refine e_aload_n (pc := 15) dX11_unit_15 rfl rfl ?_
    refine e_get (pc := 16) fl_X11_109 dX11_unit_16 (by repeat (first | assumption | exact hset_eq _ _ _ | (apply Lay.hd; assumption) | rw [hset_ne _ _ (by omega)])) (by rfl) ?_
    refine n_icmp_ge (pc := 19) (tgt := 74) dX11_unit_19 (by decide) (by omega) (by omega) (fun hb_ => ?_) (fun c => absurd c (by omega))
    refine e_iload_n (pc := 74) dX11_unit_74 rfl rfl ?_
    refine n_if_eq (pc := 75) (tgt := 80) dX11_unit_75 (by decide) (by omega) (fun c => absurd c (by omega)) (fun hb_ => ?_)
    refine V.mask [true, true, false, false] ?_
    exact kk h hL fm (fun j hj => h0 j (by omega))
  | succ t ih =>
    intro i e1 e2 h hL fm h0
    have pi := pow_q hk (show i < W.2.1 by omega)
    have no : ∀ h2, Lay h2 m W s → FmA m hh h2 → ¬ isU W e → VI MX11_unit sz Pr h2 66 [some (.ref m), some (.int (nI e)), some (.int (nI 1)), some (.int (nI i))] [] := fun h2 l2 f2 nu => by
      refine n_iconst (pc := 66) 0 dX11_unit_66 (by decide) ?_
      refine e_istore_n (pc := 67) dX11_unit_67 rfl (by decide) ?_
      refine n_inc (pc := 68) dX11_unit_68 rfl (by decide) ?_
      refine e_goto (pc := 71) (tgt := 14) dX11_unit_71 (by decide) ?_
      refine e_iload_n (pc := 14) dX11_unit_14 rfl rfl ?_
      refine e_aload_n (pc := 15) dX11_unit_15 rfl rfl ?_
      refine e_get (pc := 16) fl_X11_109 dX11_unit_16 (by repeat (first | assumption | exact hset_eq _ _ _ | (apply Lay.hd; assumption) | rw [hset_ne _ _ (by omega)])) (by rfl) ?_
      refine n_icmp_ge (pc := 19) (tgt := 74) dX11_unit_19 (by decide) (by omega) (by omega) (fun c => ?_) (fun c => ?_)
      · refine e_iload_n (pc := 74) dX11_unit_74 rfl rfl ?_
        refine n_if_eq (pc := 75) (tgt := 80) dX11_unit_75 (by decide) (by omega) (fun hb_ => ?_) (fun c => absurd c (by omega))
        refine V.mask [true, true, false, false] ?_
        exact kf h2 l2 f2 nu
      · refine e_iload_n (pc := 22) dX11_unit_22 rfl rfl ?_
        refine n_if_eq (pc := 23) (tgt := 74) dX11_unit_23 (by decide) (by omega) (fun hb_ => ?_) (fun c => absurd c (by omega))
        refine e_iload_n (pc := 74) dX11_unit_74 rfl rfl ?_
        refine n_if_eq (pc := 75) (tgt := 80) dX11_unit_75 (by decide) (by omega) (fun hb_ => ?_) (fun c => absurd c (by omega))
        refine V.mask [true, true, false, false] ?_
        exact kf h2 l2 f2 nu
    refine e_iload_n (pc := 14) dX11_unit_14 rfl rfl ?_
    refine e_aload_n (pc := 15) dX11_unit_15 rfl rfl ?_
    refine e_get (pc := 16) fl_X11_109 dX11_unit_16 (by repeat (first | assumption | exact hset_eq _ _ _ | (apply Lay.hd; assumption) | rw [hset_ne _ _ (by omega)])) (by rfl) ?_
    refine n_icmp_ge (pc := 19) (tgt := 74) dX11_unit_19 (by decide) (by omega) (by omega) (fun c => absurd c (by omega)) (fun hb_ => ?_)
    refine e_iload_n (pc := 22) dX11_unit_22 rfl rfl ?_
    refine n_if_eq (pc := 23) (tgt := 74) dX11_unit_23 (by decide) (by omega) (fun c => absurd c (by omega)) (fun hb_ => ?_)
    refine e_aload_n (pc := 26) dX11_unit_26 rfl rfl ?_
    refine e_iload_n (pc := 27) dX11_unit_27 rfl rfl ?_
    refine e_aload_n (pc := 28) dX11_unit_28 rfl rfl ?_
    refine e_iload_n (pc := 29) dX11_unit_29 rfl rfl ?_
    refine n_VP (pc := 30) (hL.base (show i < 2 ^ 31 by omega)) bX11_base q_i_X11_base q_s_X11_base q_m_X11_223 dX11_unit_30 rfl rfl (by repeat (first | assumption | exact hset_eq _ _ _ | (apply Lay.hd; assumption) | rw [hset_ne _ _ (by omega)])) rfl rfl (by exact Nat.le_of_ble_eq_true rfl) ⟨by decide, by decide⟩ ⟨rfl, rfl, Nat.zero_le _, Nat.zero_le _⟩ ?_
    refine n_V (pc := 33) (c_X11_times hL hk (show e < 2 ^ 31 by omega) (show W.1 ^ i < 2 ^ 31 by omega)) bX11_times q_i_X11_times q_s_X11_times q_m_X11_266 dX11_unit_33 rfl rfl (by repeat (first | assumption | exact hset_eq _ _ _ | (apply Lay.hd; assumption) | rw [hset_ne _ _ (by omega)])) rfl rfl (by exact Nat.le_of_ble_eq_true rfl) ⟨by decide, by decide⟩ ⟨rfl, rfl, Nat.zero_le _, Nat.zero_le _⟩ (fun z h2 hp => ?_)
    obtain ⟨rfl, p1, p2⟩ := hp
    have m1 := mul_lt hk e (W.1 ^ i)
    refine e_aload_n (pc := 36) dX11_unit_36 rfl rfl ?_
    refine e_iload_n (pc := 37) dX11_unit_37 rfl rfl ?_
    refine n_VP (pc := 38) (p1.base (show i < 2 ^ 31 by omega)) bX11_base q_i_X11_base q_s_X11_base q_m_X11_223 dX11_unit_38 rfl rfl (by repeat (first | assumption | exact hset_eq _ _ _ | (apply Lay.hd; assumption) | rw [hset_ne _ _ (by omega)])) rfl rfl (by exact Nat.le_of_ble_eq_true rfl) ⟨by decide, by decide⟩ ⟨rfl, rfl, Nat.zero_le _, Nat.zero_le _⟩ ?_
    refine n_icmp_ne (pc := 41) (tgt := 66) dX11_unit_41 (by decide) (by omega) (by omega) (fun c => ?_) (fun c => ?_)
    · exact no h2 p1 (fm.tr p2.ff) (fun q => c (q i (by omega)).1)
    refine e_aload_n (pc := 44) dX11_unit_44 rfl rfl ?_
    refine e_aload_n (pc := 45) dX11_unit_45 rfl rfl ?_
    refine e_iload_n (pc := 46) dX11_unit_46 rfl rfl ?_
    refine n_VP (pc := 47) (p1.base (show i < 2 ^ 31 by omega)) bX11_base q_i_X11_base q_s_X11_base q_m_X11_223 dX11_unit_47 rfl rfl (by repeat (first | assumption | exact hset_eq _ _ _ | (apply Lay.hd; assumption) | rw [hset_ne _ _ (by omega)])) rfl rfl (by exact Nat.le_of_ble_eq_true rfl) ⟨by decide, by decide⟩ ⟨rfl, rfl, Nat.zero_le _, Nat.zero_le _⟩ ?_
    refine e_iload_n (pc := 50) dX11_unit_50 rfl rfl ?_
    refine n_V (pc := 51) (c_X11_times p1 hk (show W.1 ^ i < 2 ^ 31 by omega) (show e < 2 ^ 31 by omega)) bX11_times q_i_X11_times q_s_X11_times q_m_X11_266 dX11_unit_51 rfl rfl (by repeat (first | assumption | exact hset_eq _ _ _ | (apply Lay.hd; assumption) | rw [hset_ne _ _ (by omega)])) rfl rfl (by exact Nat.le_of_ble_eq_true rfl) ⟨by decide, by decide⟩ ⟨rfl, rfl, Nat.zero_le _, Nat.zero_le _⟩ (fun z h3 hp => ?_)
    obtain ⟨rfl, p3, p4⟩ := hp
    have m2 := mul_lt hk (W.1 ^ i) e
    refine e_aload_n (pc := 54) dX11_unit_54 rfl rfl ?_
    refine e_iload_n (pc := 55) dX11_unit_55 rfl rfl ?_
    refine n_VP (pc := 56) (p3.base (show i < 2 ^ 31 by omega)) bX11_base q_i_X11_base q_s_X11_base q_m_X11_223 dX11_unit_56 rfl rfl (by repeat (first | assumption | exact hset_eq _ _ _ | (apply Lay.hd; assumption) | rw [hset_ne _ _ (by omega)])) rfl rfl (by exact Nat.le_of_ble_eq_true rfl) ⟨by decide, by decide⟩ ⟨rfl, rfl, Nat.zero_le _, Nat.zero_le _⟩ ?_
    have f3 := (fm.tr p2.ff).tr p4.ff
    refine n_icmp_ne (pc := 59) (tgt := 66) dX11_unit_59 (by decide) (by omega) (by omega) (fun c2 => ?_) (fun c2 => ?_)
    · exact no h3 p3 f3 (fun q => c2 (q i (by omega)).2)
    refine n_iconst (pc := 62) 1 dX11_unit_62 (by decide) ?_
    refine e_goto (pc := 63) (tgt := 67) dX11_unit_63 (by decide) ?_
    refine e_istore_n (pc := 67) dX11_unit_67 rfl (by decide) ?_
    refine n_inc (pc := 68) dX11_unit_68 rfl (by decide) ?_
    refine e_goto (pc := 71) (tgt := 14) dX11_unit_71 (by decide) ?_
    refine ih (i + 1) (by omega) (by omega) h3 p3 f3 (fun j hj => ?_)
    by_cases ej : j = i
    · subst ej; exact ⟨c, c2⟩
    · exact h0 j (by omega)
theorem l_mun_e (hk : Wok W) :
    ∀ (t e : Nat), t = W.1 ^ W.2.1 - e → e ≤ W.1 ^ W.2.1 → ∀ h, Lay h m W s → FmA m hh h → (∀ a, 0 < a → a < e → ¬ isU W a) → VI MX11_unit sz (fun z h' => UnitOf W z ∧ Lay h' m W s ∧ FmA m hh h') h 2 [some (.ref m), some (.int (nI e)), none, none] [] := by
  obtain ⟨b1, b2, b3, b4, b5⟩ := hk.b
  intro t
  induction t with
  | zero =>
    intro e e1 e2 h hL fm h0
    have e' : e = W.1 ^ W.2.1 := by omega
    refine e_iload_n (pc := 2) dX11_unit_2 rfl rfl ?_
    refine e_aload_n (pc := 3) dX11_unit_3 rfl rfl ?_
    refine e_get (pc := 4) fl_X11_112 dX11_unit_4 (by repeat (first | assumption | exact hset_eq _ _ _ | (apply Lay.hd; assumption) | rw [hset_ne _ _ (by omega)])) (by rfl) ?_
    refine n_icmp_ge (pc := 7) (tgt := 86) dX11_unit_7 (by decide) (by omega) (by omega) (fun hb_ => ?_) (fun c => absurd c (by omega))
    refine e_iconst (pc := 86) (v := -1) dX11_unit_86 (by decide) ?_
    exact n_iret (pc := 87) dX11_unit_87 rfl ⟨Or.inr ⟨rfl, fun a h1 h2 => h0 a h1 (by omega)⟩, hL, fm⟩
  | succ t ih =>
    intro e e1 e2 h hL fm h0
    refine e_iload_n (pc := 2) dX11_unit_2 rfl rfl ?_
    refine e_aload_n (pc := 3) dX11_unit_3 rfl rfl ?_
    refine e_get (pc := 4) fl_X11_112 dX11_unit_4 (by repeat (first | assumption | exact hset_eq _ _ _ | (apply Lay.hd; assumption) | rw [hset_ne _ _ (by omega)])) (by rfl) ?_
    refine n_icmp_ge (pc := 7) (tgt := 86) dX11_unit_7 (by decide) (by omega) (by omega) (fun c => absurd c (by omega)) (fun hb_ => ?_)
    refine n_iconst (pc := 10) 1 dX11_unit_10 (by decide) ?_
    refine e_istore_n (pc := 11) dX11_unit_11 rfl (by decide) ?_
    refine n_iconst (pc := 12) 0 dX11_unit_12 (by decide) ?_
    refine e_istore_n (pc := 13) dX11_unit_13 rfl (by decide) ?_
    refine l_mun_i hk (show e < W.1 ^ W.2.1 by omega) (fun h2 l2 f2 nu => ?_) (fun h2 l2 f2 u => ?_) W.2.1 0 rfl (Nat.zero_le _) h hL fm (fun j hj => absurd hj (Nat.not_lt_zero j))
    · refine n_inc (pc := 80) dX11_unit_80 rfl (by decide) ?_
      refine e_goto (pc := 83) (tgt := 2) dX11_unit_83 (by decide) ?_
      refine ih (e + 1) (by omega) (by omega) h2 l2 f2 (fun a h1 h2 => ?_)
      by_cases ea : a = e
      · rw [ea]; exact nu
      · exact h0 a h1 (by omega)
    · have e0 : 0 < e := Nat.pos_of_ne_zero (fun z => by
        have := (u 0 (by omega)).1
        rw [z, mul_z0 hk, Nat.pow_zero] at this
        omega)
      refine e_iload_n (pc := 78) dX11_unit_78 rfl rfl ?_
      exact n_iret (pc := 79) dX11_unit_79 rfl ⟨Or.inl ⟨e, rfl, e0, by omega, u, h0⟩, l2, f2⟩
theorem c_X11_unit {h : AH} (hL : Lay h m W s) (hk : Wok W) : CI yX11_unit MX11_unit [.ref m] h (fun z h' => UnitOf W z ∧ Lay h' m W s ∧ FmA m h h') := by
  refine CI.ofV (by decide) rfl rfl (by simp [Value.category]) (by exact Nat.le_of_ble_eq_true rfl) (fun sz => ?_)
  refine n_iconst (pc := 0) 0 dX11_unit_0 (by decide) ?_
  refine e_istore_n (pc := 1) dX11_unit_1 rfl (by decide) ?_
  exact l_mun_e hk (W.1 ^ W.2.1) 0 rfl (Nat.zero_le _) h hL (FmA.rf _ _) (fun a q1 q2 => absurd q2 (Nat.not_lt_zero a))
theorem l_mco_k {h : AH} {i j : Nat} (hL : Lay h m W s) (hk : Wok W) (hi : i < W.2.1) (hj : j < i) {Pr : Int32 → AH → Prop} (kf : ¬ Wcom W → Pr 0 h)
    (kk : (∀ k, k < W.2.1 → W.2.2 (25 * i + 5 * j + k) = W.2.2 (25 * j + 5 * i + k)) → VI MX11_commutes sz Pr h 68 [some (.ref m), some (.int (nI i)), some (.int (nI j)), none] []) :
    ∀ (t k : Nat), t = W.2.1 - k → k ≤ W.2.1 → (∀ a, a < k → W.2.2 (25 * i + 5 * j + a) = W.2.2 (25 * j + 5 * i + a)) → VI MX11_commutes sz Pr h 19 [some (.ref m), some (.int (nI i)), some (.int (nI j)), some (.int (nI k))] [] := by
  obtain ⟨b1, b2, b3, b4, b5⟩ := hk.b
  obtain ⟨gc, c1, c2⟩ := id hL.2.1
  intro t
  induction t with
  | zero =>
    intro k e1 e2 h0
    have e' : k = W.2.1 := by omega
    subst e'
    refine e_iload_n (pc := 19) dX11_commutes_19 rfl rfl ?_
    refine e_aload_n (pc := 20) dX11_commutes_20 rfl rfl ?_
    refine e_get (pc := 21) fl_X11_109 dX11_commutes_21 (by repeat (first | assumption | exact hset_eq _ _ _ | (apply Lay.hd; assumption) | rw [hset_ne _ _ (by omega)])) (by rfl) ?_
    refine n_icmp_ge (pc := 24) (tgt := 68) dX11_commutes_24 (by decide) (by omega) (by omega) (fun hb_ => ?_) (fun c => absurd c (by omega))
    refine V.mask [true, true, true, false] ?_
    exact kk h0
  | succ t ih =>
    intro k e1 e2 h0
    have z1 := c2 (25 * i + 5 * j + k) (by omega)
    have z2 := c2 (25 * j + 5 * i + k) (by omega)
    have l1 := hk.c (25 * i + 5 * j + k)
    have l2 := hk.c (25 * j + 5 * i + k)
    refine e_iload_n (pc := 19) dX11_commutes_19 rfl rfl ?_
    refine e_aload_n (pc := 20) dX11_commutes_20 rfl rfl ?_
    refine e_get (pc := 21) fl_X11_109 dX11_commutes_21 (by repeat (first | assumption | exact hset_eq _ _ _ | (apply Lay.hd; assumption) | rw [hset_ne _ _ (by omega)])) (by rfl) ?_
    refine n_icmp_ge (pc := 24) (tgt := 68) dX11_commutes_24 (by decide) (by omega) (by omega) (fun c => absurd c (by omega)) (fun hb_ => ?_)
    refine e_aload_n (pc := 27) dX11_commutes_27 rfl rfl ?_
    refine e_get (pc := 28) fl_X11_16 dX11_commutes_28 (by repeat (first | assumption | exact hset_eq _ _ _ | (apply Lay.hd; assumption) | rw [hset_ne _ _ (by omega)])) (by rfl) ?_
    refine n_bipush (pc := 31) 25 dX11_commutes_31 (by decide) ?_
    refine e_iload_n (pc := 33) dX11_commutes_33 rfl rfl ?_
    refine n_imul (pc := 34) dX11_commutes_34 ?_
    refine n_iconst (pc := 35) 5 dX11_commutes_35 (by decide) ?_
    refine e_iload_n (pc := 36) dX11_commutes_36 rfl rfl ?_
    refine n_imul (pc := 37) dX11_commutes_37 ?_
    refine n_iadd (pc := 38) dX11_commutes_38 ?_
    refine e_iload_n (pc := 39) dX11_commutes_39 rfl rfl ?_
    refine n_iadd (pc := 40) dX11_commutes_40 ?_
    refine e_ialdN (pc := 41) (25 * i + 5 * j + k) dX11_commutes_41 (by repeat (first | assumption | exact hset_eq _ _ _ | (apply Lay.hd; assumption) | rw [hset_ne _ _ (by omega)])) (by rfl) (by omega) (by first | decide | omega) ?_
    rw [z1]
    refine e_aload_n (pc := 42) dX11_commutes_42 rfl rfl ?_
    refine e_get (pc := 43) fl_X11_16 dX11_commutes_43 (by repeat (first | assumption | exact hset_eq _ _ _ | (apply Lay.hd; assumption) | rw [hset_ne _ _ (by omega)])) (by rfl) ?_
    refine n_bipush (pc := 46) 25 dX11_commutes_46 (by decide) ?_
    refine e_iload_n (pc := 48) dX11_commutes_48 rfl rfl ?_
    refine n_imul (pc := 49) dX11_commutes_49 ?_
    refine n_iconst (pc := 50) 5 dX11_commutes_50 (by decide) ?_
    refine e_iload_n (pc := 51) dX11_commutes_51 rfl rfl ?_
    refine n_imul (pc := 52) dX11_commutes_52 ?_
    refine n_iadd (pc := 53) dX11_commutes_53 ?_
    refine e_iload_n (pc := 54) dX11_commutes_54 rfl rfl ?_
    refine n_iadd (pc := 55) dX11_commutes_55 ?_
    refine e_ialdN (pc := 56) (25 * j + 5 * i + k) dX11_commutes_56 (by repeat (first | assumption | exact hset_eq _ _ _ | (apply Lay.hd; assumption) | rw [hset_ne _ _ (by omega)])) (by rfl) (by omega) (by first | decide | omega) ?_
    rw [z2]
    refine n_icmp_eq (pc := 57) (tgt := 62) dX11_commutes_57 (by decide) (by omega) (by omega) (fun c => ?_) (fun c => ?_)
    · refine n_inc (pc := 62) dX11_commutes_62 rfl (by decide) ?_
      refine e_goto (pc := 65) (tgt := 19) dX11_commutes_65 (by decide) ?_
      refine ih (k + 1) (by omega) (by omega) (fun a ha => ?_)
      by_cases e : a = k
      · rw [e]; exact c
      · exact h0 a (by omega)
    · refine n_iconst (pc := 60) 0 dX11_commutes_60 (by decide) ?_
      exact n_zret (pc := 61) dX11_commutes_61 rfl rfl (kf (fun q => c (q i j k hj hi (by omega))))
theorem l_mco_j {h : AH} {i : Nat} (hL : Lay h m W s) (hk : Wok W) (hi : i < W.2.1) {Pr : Int32 → AH → Prop} (kf : ¬ Wcom W → Pr 0 h)
    (kk : (∀ j k, j < i → k < W.2.1 → W.2.2 (25 * i + 5 * j + k) = W.2.2 (25 * j + 5 * i + k)) → VI MX11_commutes sz Pr h 74 [some (.ref m), some (.int (nI i)), none, none] []) :
    ∀ (t j : Nat), t = i - j → j ≤ i → (∀ b k, b < j → k < W.2.1 → W.2.2 (25 * i + 5 * b + k) = W.2.2 (25 * b + 5 * i + k)) → VI MX11_commutes sz Pr h 12 [some (.ref m), some (.int (nI i)), some (.int (nI j)), none] [] := by
  obtain ⟨b1, b2, b3, b4, b5⟩ := hk.b
  intro t
  induction t with
  | zero =>
    intro j e1 e2 h0
    have e' : j = i := by omega
    subst e'
    refine e_iload_n (pc := 12) dX11_commutes_12 rfl rfl ?_
    refine e_iload_n (pc := 13) dX11_commutes_13 rfl rfl ?_
    refine n_icmp_ge (pc := 14) (tgt := 74) dX11_commutes_14 (by decide) (by omega) (by omega) (fun hb_ => ?_) (fun c => absurd c (by omega))
    refine V.mask [true, true, false, false] ?_
    exact kk h0
  | succ t ih =>
    intro j e1 e2 h0
    refine e_iload_n (pc := 12) dX11_commutes_12 rfl rfl ?_
    refine e_iload_n (pc := 13) dX11_commutes_13 rfl rfl ?_
    refine n_icmp_ge (pc := 14) (tgt := 74) dX11_commutes_14 (by decide) (by omega) (by omega) (fun c => absurd c (by omega)) (fun hb_ => ?_)
    refine n_iconst (pc := 17) 0 dX11_commutes_17 (by decide) ?_
    refine e_istore_n (pc := 18) dX11_commutes_18 rfl (by decide) ?_
    refine l_mco_k hL hk hi (show j < i by omega) kf (fun q => ?_) W.2.1 0 rfl (Nat.zero_le _) (fun a ha => absurd ha (Nat.not_lt_zero a))
    refine n_inc (pc := 68) dX11_commutes_68 rfl (by decide) ?_
    refine e_goto (pc := 71) (tgt := 12) dX11_commutes_71 (by decide) ?_
    refine ih (j + 1) (by omega) (by omega) (fun b k hb hk2 => ?_)
    by_cases e : b = j
    · rw [e]; exact q k hk2
    · exact h0 b k (by omega) hk2
theorem l_mco_i {h : AH} (hL : Lay h m W s) (hk : Wok W) :
    ∀ (t i : Nat), t = W.2.1 - i → i ≤ W.2.1 → (∀ a b k, a < i → b < a → k < W.2.1 → W.2.2 (25 * a + 5 * b + k) = W.2.2 (25 * b + 5 * a + k)) → VI MX11_commutes sz (fun z h' => z = bI (bl (Wcom W)) ∧ h' = h) h 2 [some (.ref m), some (.int (nI i)), none, none] [] := by
  obtain ⟨b1, b2, b3, b4, b5⟩ := hk.b
  intro t
  induction t with
  | zero =>
    intro i e1 e2 h0
    have e' : i = W.2.1 := by omega
    subst e'
    refine e_iload_n (pc := 2) dX11_commutes_2 rfl rfl ?_
    refine e_aload_n (pc := 3) dX11_commutes_3 rfl rfl ?_
    refine e_get (pc := 4) fl_X11_109 dX11_commutes_4 (by repeat (first | assumption | exact hset_eq _ _ _ | (apply Lay.hd; assumption) | rw [hset_ne _ _ (by omega)])) (by rfl) ?_
    refine n_icmp_ge (pc := 7) (tgt := 80) dX11_commutes_7 (by decide) (by omega) (by omega) (fun hb_ => ?_) (fun c => absurd c (by omega))
    refine n_iconst (pc := 80) 1 dX11_commutes_80 (by decide) ?_
    exact n_zret (pc := 81) dX11_commutes_81 rfl rfl ⟨by rw [bl_t (show Wcom W from fun a b k h1 h2 h3 => h0 a b k h2 h1 h3)]; rfl, rfl⟩
  | succ t ih =>
    intro i e1 e2 h0
    refine e_iload_n (pc := 2) dX11_commutes_2 rfl rfl ?_
    refine e_aload_n (pc := 3) dX11_commutes_3 rfl rfl ?_
    refine e_get (pc := 4) fl_X11_109 dX11_commutes_4 (by repeat (first | assumption | exact hset_eq _ _ _ | (apply Lay.hd; assumption) | rw [hset_ne _ _ (by omega)])) (by rfl) ?_
    refine n_icmp_ge (pc := 7) (tgt := 80) dX11_commutes_7 (by decide) (by omega) (by omega) (fun c => absurd c (by omega)) (fun hb_ => ?_)
    refine n_iconst (pc := 10) 0 dX11_commutes_10 (by decide) ?_
    refine e_istore_n (pc := 11) dX11_commutes_11 rfl (by decide) ?_
    refine l_mco_j hL hk (show i < W.2.1 by omega) (fun q => ⟨by rw [bl_f q]; rfl, rfl⟩) (fun q => ?_) i 0 rfl (Nat.zero_le _) (fun b k hb => absurd hb (Nat.not_lt_zero b))
    refine n_inc (pc := 74) dX11_commutes_74 rfl (by decide) ?_
    refine e_goto (pc := 77) (tgt := 2) dX11_commutes_77 (by decide) ?_
    refine ih (i + 1) (by omega) (by omega) (fun a b k h1 h2 h3 => ?_)
    by_cases e : a = i
    · subst e; exact q b k h2 h3
    · exact h0 a b k (by omega) h2 h3
theorem c_X11_commutes {h : AH} (hL : Lay h m W s) (hk : Wok W) : CP yX11_commutes MX11_commutes [.ref m] h (bI (bl (Wcom W))) := by
  refine CI.ofV (by decide) rfl rfl (by simp [Value.category]) (by exact Nat.le_of_ble_eq_true rfl) (fun sz => ?_)
  refine n_iconst (pc := 0) 0 dX11_commutes_0 (by decide) ?_
  refine e_istore_n (pc := 1) dX11_commutes_1 rfl (by decide) ?_
  exact l_mco_i hL hk W.2.1 0 rfl (Nat.zero_le _) (fun a b k ha => absurd ha (Nat.not_lt_zero a))
theorem l_mfa_k {i j : Nat} (hk : Wok W) (hi : i < W.2.1) (hj : j < W.2.1) {Pr : Int32 → AH → Prop}
    (kf : ∀ h k, Lay h m W s → FmA m hh h → k < W.2.1 → asc W i j k ≠ 0 → Upto W i j k → Pr (nI (25 * i + 5 * j + k)) h)
    (kk : ∀ h, Lay h m W s → FmA m hh h → Upto W i (j + 1) 0 → VI MX11_firstApart sz Pr h 96 [some (.ref m), some (.int (nI i)), some (.int (nI j)), none] []) :
    ∀ (t k : Nat), t = W.2.1 - k → k ≤ W.2.1 → ∀ h, Lay h m W s → FmA m hh h → Upto W i j k → VI MX11_firstApart sz Pr h 22 [some (.ref m), some (.int (nI i)), some (.int (nI j)), some (.int (nI k))] [] := by
  obtain ⟨b1, b2, b3, b4, b5⟩ := hk.b
  intro t
  induction t with
  | zero =>
    intro k e1 e2 h hL fm h0
    have e' : k = W.2.1 := by omega
    subst e'
    refine e_iload_n (pc := 22) dX11_firstApart_22 rfl rfl ?_
    refine e_aload_n (pc := 23) dX11_firstApart_23 rfl rfl ?_
    refine e_get (pc := 24) fl_X11_109 dX11_firstApart_24 (by repeat (first | assumption | exact hset_eq _ _ _ | (apply Lay.hd; assumption) | rw [hset_ne _ _ (by omega)])) (by rfl) ?_
    refine n_icmp_ge (pc := 27) (tgt := 96) dX11_firstApart_27 (by decide) (by omega) (by omega) (fun hb_ => ?_) (fun c => absurd c (by omega))
    refine V.mask [true, true, true, false] ?_
    exact kk h hL fm (fun a b c h1 h2 h3 h4 => h0 a b c h1 h2 h3 (by omega))
  | succ t ih =>
    intro k e1 e2 h hL fm h0
    have qi := pow_q hk hi
    have qj := pow_q hk hj
    have qk := pow_q hk (show k < W.2.1 by omega)
    have m1 := mul_lt hk (W.1 ^ i) (W.1 ^ j)
    have m2 := mul_lt hk (W.1 ^ j) (W.1 ^ k)
    have m3 := mul_lt hk (mul W (W.1 ^ i) (W.1 ^ j)) (W.1 ^ k)
    have m4 := mul_lt hk (W.1 ^ i) (mul W (W.1 ^ j) (W.1 ^ k))
    refine e_iload_n (pc := 22) dX11_firstApart_22 rfl rfl ?_
    refine e_aload_n (pc := 23) dX11_firstApart_23 rfl rfl ?_
    refine e_get (pc := 24) fl_X11_109 dX11_firstApart_24 (by repeat (first | assumption | exact hset_eq _ _ _ | (apply Lay.hd; assumption) | rw [hset_ne _ _ (by omega)])) (by rfl) ?_
    refine n_icmp_ge (pc := 27) (tgt := 96) dX11_firstApart_27 (by decide) (by omega) (by omega) (fun c => absurd c (by omega)) (fun hb_ => ?_)
    refine e_aload_n (pc := 30) dX11_firstApart_30 rfl rfl ?_
    refine e_aload_n (pc := 31) dX11_firstApart_31 rfl rfl ?_
    refine e_aload_n (pc := 32) dX11_firstApart_32 rfl rfl ?_
    refine e_iload_n (pc := 33) dX11_firstApart_33 rfl rfl ?_
    refine n_VP (pc := 34) (hL.base (show i < 2 ^ 31 by omega)) bX11_base q_i_X11_base q_s_X11_base q_m_X11_223 dX11_firstApart_34 rfl rfl (by repeat (first | assumption | exact hset_eq _ _ _ | (apply Lay.hd; assumption) | rw [hset_ne _ _ (by omega)])) rfl rfl (by exact Nat.le_of_ble_eq_true rfl) ⟨by decide, by decide⟩ ⟨rfl, rfl, Nat.zero_le _, Nat.zero_le _⟩ ?_
    refine e_aload_n (pc := 37) dX11_firstApart_37 rfl rfl ?_
    refine e_iload_n (pc := 38) dX11_firstApart_38 rfl rfl ?_
    refine n_VP (pc := 39) (hL.base (show j < 2 ^ 31 by omega)) bX11_base q_i_X11_base q_s_X11_base q_m_X11_223 dX11_firstApart_39 rfl rfl (by repeat (first | assumption | exact hset_eq _ _ _ | (apply Lay.hd; assumption) | rw [hset_ne _ _ (by omega)])) rfl rfl (by exact Nat.le_of_ble_eq_true rfl) ⟨by decide, by decide⟩ ⟨rfl, rfl, Nat.zero_le _, Nat.zero_le _⟩ ?_
    refine n_V (pc := 42) (c_X11_times hL hk (show W.1 ^ i < 2 ^ 31 by omega) (show W.1 ^ j < 2 ^ 31 by omega)) bX11_times q_i_X11_times q_s_X11_times q_m_X11_266 dX11_firstApart_42 rfl rfl (by repeat (first | assumption | exact hset_eq _ _ _ | (apply Lay.hd; assumption) | rw [hset_ne _ _ (by omega)])) rfl rfl (by exact Nat.le_of_ble_eq_true rfl) ⟨by decide, by decide⟩ ⟨rfl, rfl, Nat.zero_le _, Nat.zero_le _⟩ (fun z h2 hp => ?_)
    obtain ⟨rfl, p1, q1⟩ := hp
    refine e_aload_n (pc := 45) dX11_firstApart_45 rfl rfl ?_
    refine e_iload_n (pc := 46) dX11_firstApart_46 rfl rfl ?_
    refine n_VP (pc := 47) (p1.base (show k < 2 ^ 31 by omega)) bX11_base q_i_X11_base q_s_X11_base q_m_X11_223 dX11_firstApart_47 rfl rfl (by repeat (first | assumption | exact hset_eq _ _ _ | (apply Lay.hd; assumption) | rw [hset_ne _ _ (by omega)])) rfl rfl (by exact Nat.le_of_ble_eq_true rfl) ⟨by decide, by decide⟩ ⟨rfl, rfl, Nat.zero_le _, Nat.zero_le _⟩ ?_
    refine n_V (pc := 50) (c_X11_times p1 hk (show mul W (W.1 ^ i) (W.1 ^ j) < 2 ^ 31 by omega) (show W.1 ^ k < 2 ^ 31 by omega)) bX11_times q_i_X11_times q_s_X11_times q_m_X11_266 dX11_firstApart_50 rfl rfl (by repeat (first | assumption | exact hset_eq _ _ _ | (apply Lay.hd; assumption) | rw [hset_ne _ _ (by omega)])) rfl rfl (by exact Nat.le_of_ble_eq_true rfl) ⟨by decide, by decide⟩ ⟨rfl, rfl, Nat.zero_le _, Nat.zero_le _⟩ (fun z h3 hp => ?_)
    obtain ⟨rfl, p2, q2⟩ := hp
    refine e_aload_n (pc := 53) dX11_firstApart_53 rfl rfl ?_
    refine e_aload_n (pc := 54) dX11_firstApart_54 rfl rfl ?_
    refine e_iload_n (pc := 55) dX11_firstApart_55 rfl rfl ?_
    refine n_VP (pc := 56) (p2.base (show i < 2 ^ 31 by omega)) bX11_base q_i_X11_base q_s_X11_base q_m_X11_223 dX11_firstApart_56 rfl rfl (by repeat (first | assumption | exact hset_eq _ _ _ | (apply Lay.hd; assumption) | rw [hset_ne _ _ (by omega)])) rfl rfl (by exact Nat.le_of_ble_eq_true rfl) ⟨by decide, by decide⟩ ⟨rfl, rfl, Nat.zero_le _, Nat.zero_le _⟩ ?_
    refine e_aload_n (pc := 59) dX11_firstApart_59 rfl rfl ?_
    refine e_aload_n (pc := 60) dX11_firstApart_60 rfl rfl ?_
    refine e_iload_n (pc := 61) dX11_firstApart_61 rfl rfl ?_
    refine n_VP (pc := 62) (p2.base (show j < 2 ^ 31 by omega)) bX11_base q_i_X11_base q_s_X11_base q_m_X11_223 dX11_firstApart_62 rfl rfl (by repeat (first | assumption | exact hset_eq _ _ _ | (apply Lay.hd; assumption) | rw [hset_ne _ _ (by omega)])) rfl rfl (by exact Nat.le_of_ble_eq_true rfl) ⟨by decide, by decide⟩ ⟨rfl, rfl, Nat.zero_le _, Nat.zero_le _⟩ ?_
    refine e_aload_n (pc := 65) dX11_firstApart_65 rfl rfl ?_
    refine e_iload_n (pc := 66) dX11_firstApart_66 rfl rfl ?_
    refine n_VP (pc := 67) (p2.base (show k < 2 ^ 31 by omega)) bX11_base q_i_X11_base q_s_X11_base q_m_X11_223 dX11_firstApart_67 rfl rfl (by repeat (first | assumption | exact hset_eq _ _ _ | (apply Lay.hd; assumption) | rw [hset_ne _ _ (by omega)])) rfl rfl (by exact Nat.le_of_ble_eq_true rfl) ⟨by decide, by decide⟩ ⟨rfl, rfl, Nat.zero_le _, Nat.zero_le _⟩ ?_
    refine n_V (pc := 70) (c_X11_times p2 hk (show W.1 ^ j < 2 ^ 31 by omega) (show W.1 ^ k < 2 ^ 31 by omega)) bX11_times q_i_X11_times q_s_X11_times q_m_X11_266 dX11_firstApart_70 rfl rfl (by repeat (first | assumption | exact hset_eq _ _ _ | (apply Lay.hd; assumption) | rw [hset_ne _ _ (by omega)])) rfl rfl (by exact Nat.le_of_ble_eq_true rfl) ⟨by decide, by decide⟩ ⟨rfl, rfl, Nat.zero_le _, Nat.zero_le _⟩ (fun z h4 hp => ?_)
    obtain ⟨rfl, p3, q3⟩ := hp
    refine n_V (pc := 73) (c_X11_times p3 hk (show W.1 ^ i < 2 ^ 31 by omega) (show mul W (W.1 ^ j) (W.1 ^ k) < 2 ^ 31 by omega)) bX11_times q_i_X11_times q_s_X11_times q_m_X11_266 dX11_firstApart_73 rfl rfl (by repeat (first | assumption | exact hset_eq _ _ _ | (apply Lay.hd; assumption) | rw [hset_ne _ _ (by omega)])) rfl rfl (by exact Nat.le_of_ble_eq_true rfl) ⟨by decide, by decide⟩ ⟨rfl, rfl, Nat.zero_le _, Nat.zero_le _⟩ (fun z h5 hp => ?_)
    obtain ⟨rfl, p4, q4⟩ := hp
    have f5 := (((fm.tr q1.ff).tr q2.ff).tr q3.ff).tr q4.ff
    have iff := sb_zero (p := W.1) (n := W.2.1) (by omega) b4 m3 m4
    refine n_icmp_eq (pc := 76) (tgt := 90) dX11_firstApart_76 (by decide) (by omega) (by omega) (fun c => ?_) (fun c => ?_)
    · refine n_inc (pc := 90) dX11_firstApart_90 rfl (by decide) ?_
      refine e_goto (pc := 93) (tgt := 22) dX11_firstApart_93 (by decide) ?_
      refine ih (k + 1) (by omega) (by omega) h5 p4 f5 (fun a b d h1 h2 h3 h4 => ?_)
      by_cases e : a = i ∧ b = j ∧ d = k
      · obtain ⟨rfl, rfl, rfl⟩ := e
        exact iff.mpr c
      · exact h0 a b d h1 h2 h3 (by omega)
    · refine n_bipush (pc := 79) 25 dX11_firstApart_79 (by decide) ?_
      refine e_iload_n (pc := 81) dX11_firstApart_81 rfl rfl ?_
      refine n_imul (pc := 82) dX11_firstApart_82 ?_
      refine n_iconst (pc := 83) 5 dX11_firstApart_83 (by decide) ?_
      refine e_iload_n (pc := 84) dX11_firstApart_84 rfl rfl ?_
      refine n_imul (pc := 85) dX11_firstApart_85 ?_
      refine n_iadd (pc := 86) dX11_firstApart_86 ?_
      refine e_iload_n (pc := 87) dX11_firstApart_87 rfl rfl ?_
      refine n_iadd (pc := 88) dX11_firstApart_88 ?_
      exact n_iret (pc := 89) dX11_firstApart_89 rfl (kf h5 k p4 f5 (by omega) (fun z => c (iff.mp z)) h0)
theorem l_mfa_j {i : Nat} (hk : Wok W) (hi : i < W.2.1) {Pr : Int32 → AH → Prop}
    (kf : ∀ h j k, Lay h m W s → FmA m hh h → j < W.2.1 → k < W.2.1 → asc W i j k ≠ 0 → Upto W i j k → Pr (nI (25 * i + 5 * j + k)) h)
    (kk : ∀ h, Lay h m W s → FmA m hh h → Upto W (i + 1) 0 0 → VI MX11_firstApart sz Pr h 102 [some (.ref m), some (.int (nI i)), none, none] []) :
    ∀ (t j : Nat), t = W.2.1 - j → j ≤ W.2.1 → ∀ h, Lay h m W s → FmA m hh h → Upto W i j 0 → VI MX11_firstApart sz Pr h 12 [some (.ref m), some (.int (nI i)), some (.int (nI j)), none] [] := by
  obtain ⟨b1, b2, b3, b4, b5⟩ := hk.b
  intro t
  induction t with
  | zero =>
    intro j e1 e2 h hL fm h0
    have e' : j = W.2.1 := by omega
    subst e'
    refine e_iload_n (pc := 12) dX11_firstApart_12 rfl rfl ?_
    refine e_aload_n (pc := 13) dX11_firstApart_13 rfl rfl ?_
    refine e_get (pc := 14) fl_X11_109 dX11_firstApart_14 (by repeat (first | assumption | exact hset_eq _ _ _ | (apply Lay.hd; assumption) | rw [hset_ne _ _ (by omega)])) (by rfl) ?_
    refine n_icmp_ge (pc := 17) (tgt := 102) dX11_firstApart_17 (by decide) (by omega) (by omega) (fun hb_ => ?_) (fun c => absurd c (by omega))
    refine V.mask [true, true, false, false] ?_
    exact kk h hL fm (fun a b c h1 h2 h3 h4 => h0 a b c h1 h2 h3 (by omega))
  | succ t ih =>
    intro j e1 e2 h hL fm h0
    refine e_iload_n (pc := 12) dX11_firstApart_12 rfl rfl ?_
    refine e_aload_n (pc := 13) dX11_firstApart_13 rfl rfl ?_
    refine e_get (pc := 14) fl_X11_109 dX11_firstApart_14 (by repeat (first | assumption | exact hset_eq _ _ _ | (apply Lay.hd; assumption) | rw [hset_ne _ _ (by omega)])) (by rfl) ?_
    refine n_icmp_ge (pc := 17) (tgt := 102) dX11_firstApart_17 (by decide) (by omega) (by omega) (fun c => absurd c (by omega)) (fun hb_ => ?_)
    refine n_iconst (pc := 20) 0 dX11_firstApart_20 (by decide) ?_
    refine e_istore_n (pc := 21) dX11_firstApart_21 rfl (by decide) ?_
    refine l_mfa_k hk hi (show j < W.2.1 by omega) (fun h2 k l2 f2 k1 k2 k3 => kf h2 j k l2 f2 (by omega) k1 k2 k3) (fun h2 l2 f2 u => ?_) W.2.1 0 rfl (Nat.zero_le _) h hL fm h0
    refine n_inc (pc := 96) dX11_firstApart_96 rfl (by decide) ?_
    refine e_goto (pc := 99) (tgt := 12) dX11_firstApart_99 (by decide) ?_
    exact ih (j + 1) (by omega) (by omega) h2 l2 f2 u
theorem l_mfa_i (hk : Wok W) :
    ∀ (t i : Nat), t = W.2.1 - i → i ≤ W.2.1 → ∀ h, Lay h m W s → FmA m hh h → Upto W i 0 0 → VI MX11_firstApart sz (fun z h' => Unj W z ∧ Lay h' m W s ∧ FmA m hh h') h 2 [some (.ref m), some (.int (nI i)), none, none] [] := by
  obtain ⟨b1, b2, b3, b4, b5⟩ := hk.b
  intro t
  induction t with
  | zero =>
    intro i e1 e2 h hL fm h0
    have e' : i = W.2.1 := by omega
    subst e'
    refine e_iload_n (pc := 2) dX11_firstApart_2 rfl rfl ?_
    refine e_aload_n (pc := 3) dX11_firstApart_3 rfl rfl ?_
    refine e_get (pc := 4) fl_X11_109 dX11_firstApart_4 (by repeat (first | assumption | exact hset_eq _ _ _ | (apply Lay.hd; assumption) | rw [hset_ne _ _ (by omega)])) (by rfl) ?_
    refine n_icmp_ge (pc := 7) (tgt := 108) dX11_firstApart_7 (by decide) (by omega) (by omega) (fun hb_ => ?_) (fun c => absurd c (by omega))
    refine e_iconst (pc := 108) (v := -1) dX11_firstApart_108 (by decide) ?_
    exact n_iret (pc := 109) dX11_firstApart_109 rfl ⟨Or.inr ⟨rfl, fun a b c h1 h2 h3 => h0 a b c h1 h2 h3 (by omega)⟩, hL, fm⟩
  | succ t ih =>
    intro i e1 e2 h hL fm h0
    refine e_iload_n (pc := 2) dX11_firstApart_2 rfl rfl ?_
    refine e_aload_n (pc := 3) dX11_firstApart_3 rfl rfl ?_
    refine e_get (pc := 4) fl_X11_109 dX11_firstApart_4 (by repeat (first | assumption | exact hset_eq _ _ _ | (apply Lay.hd; assumption) | rw [hset_ne _ _ (by omega)])) (by rfl) ?_
    refine n_icmp_ge (pc := 7) (tgt := 108) dX11_firstApart_7 (by decide) (by omega) (by omega) (fun c => absurd c (by omega)) (fun hb_ => ?_)
    refine n_iconst (pc := 10) 0 dX11_firstApart_10 (by decide) ?_
    refine e_istore_n (pc := 11) dX11_firstApart_11 rfl (by decide) ?_
    refine l_mfa_j hk (show i < W.2.1 by omega) (fun h2 j k l2 f2 j1 k1 k2 k3 => ⟨Or.inl ⟨i, j, k, rfl, by omega, j1, k1, k2, k3⟩, l2, f2⟩) (fun h2 l2 f2 u => ?_) W.2.1 0 rfl (Nat.zero_le _) h hL fm h0
    refine n_inc (pc := 102) dX11_firstApart_102 rfl (by decide) ?_
    refine e_goto (pc := 105) (tgt := 2) dX11_firstApart_105 (by decide) ?_
    exact ih (i + 1) (by omega) (by omega) h2 l2 f2 u
theorem c_X11_firstApart {h : AH} (hL : Lay h m W s) (hk : Wok W) : CI yX11_firstApart MX11_firstApart [.ref m] h (fun z h' => Unj W z ∧ Lay h' m W s ∧ FmA m h h') := by
  refine CI.ofV (by decide) rfl rfl (by simp [Value.category]) (by exact Nat.le_of_ble_eq_true rfl) (fun sz => ?_)
  refine n_iconst (pc := 0) 0 dX11_firstApart_0 (by decide) ?_
  refine e_istore_n (pc := 1) dX11_firstApart_1 rfl (by decide) ?_
  exact l_mfa_i hk W.2.1 0 rfl (Nat.zero_le _) h hL (FmA.rf _ _) (fun a b c h1 h2 h3 h4 => absurd h4 (by omega))
end ME
