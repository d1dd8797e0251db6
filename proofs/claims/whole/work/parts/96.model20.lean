/-! ===== the reference: the line through two points ===== -/
abbrev mxj (d : Nat) : MI := (RX11, cX11_join, 5, (Option.some FieldType.int), d, 0, 0, false)
theorem bxj (d : Nat) : BY yX11_join (mxj d) 2 := ⟨q_c_X11_join, q_in_X11, by decide +kernel, rfl⟩
section MPJ
variable {h : AH} {m : Nat} {s : Ms} {W : Wd} {sz d : Nat} {hh : AH}
theorem thr_le (hk : Wok W) {k u : Nat} (hkk : k < W.o) : thr W k u < W.o * W.o := q_lt hkk (thr_b hk k u)
theorem l_jn {u v : Nat} (hd : 8 ≤ d) (hk : Wok W) (hD : Div W) (hu : u < W.o * W.o) (hv : v < W.o * W.o) (hne : u / W.o ≠ v / W.o) (Pm0 : ∀ k, k < W.o → OnP W v (thr W k u) → thr W k u = jnP W u v) (ex : ∃ k, k < W.o ∧ OnP W v (thr W k u)) :
    ∀ (t k : Nat), t = W.o - k → k ≤ W.o → ∀ h, Lay h m W s → FdM m hh h → (∀ a, a < k → ¬ OnP W v (thr W a u)) → VI (mxj d) sz (fun z h' => z = nI (jnP W u v) ∧ Lay h' m W s ∧ FdM m hh h') h 99 [some (.ref m), some (.int (nI u)), some (.int (nI v)), none, some (.int (nI k))] [] := by
  obtain ⟨b1, b2, b3, b4, b5⟩ := hk.b
  have pos := hk.pos
  have qq : W.1 ^ W.2.1 * W.1 ^ W.2.1 ≤ 243 * 243 := Nat.mul_le_mul b5 b5
  have hO : W.o = W.1 ^ W.2.1 := rfl
  have hl : lastP W = W.o * W.o + W.o := rfl
  intro t
  induction t with
  | zero =>
    intro k e1 e2 h hL fd h0
    obtain ⟨a, a1, a2⟩ := ex
    exact absurd a2 (h0 a (by omega))
  | succ t ih =>
    intro k e1 e2 h hL fd h0
    have hk1 : k < W.o := by omega
    have tl := thr_le hk (u := u) hk1
    rw [hO] at tl hu hv hk1 e2 e1
    refine e_iload (pc := 99) dX11_join_99 rfl ?_
    refine e_aload_n (pc := 101) dX11_join_101 rfl rfl ?_
    refine e_get (pc := 102) fl_X11_112 dX11_join_102 (by repeat (first | assumption | exact hset_eq _ _ _ | (apply Lay.hd; assumption) | rw [hset_ne _ _ (by omega)])) (by rfl) ?_
    refine n_icmp_ge (pc := 105) (tgt := 137) dX11_join_105 (by decide) (by omega) (by omega) (fun c => absurd c (by omega)) (fun hb_ => ?_)
    refine e_aload_n (pc := 108) dX11_join_108 rfl rfl ?_
    refine e_iload_n (pc := 109) dX11_join_109 rfl rfl ?_
    refine e_aload_n (pc := 110) dX11_join_110 rfl rfl ?_
    refine e_iload (pc := 111) dX11_join_111 rfl ?_
    refine e_iload_n (pc := 113) dX11_join_113 rfl rfl ?_
    refine n_V (pc := 114) (c_X11_lineBy hL hk hk1 hu) bX11_lineBy q_i_X11_lineBy q_s_X11_lineBy q_m_X11_350 dX11_join_114 rfl rfl (by repeat (first | assumption | exact hset_eq _ _ _ | (apply Lay.hd; assumption) | rw [hset_ne _ _ (by omega)])) rfl rfl (by exact Nat.le_of_ble_eq_true rfl) ⟨by show 7 + 1 ≤ d; omega, by exact Nat.le_of_ble_eq_true rfl⟩ ⟨rfl, rfl, Nat.zero_le _, Nat.zero_le _⟩ (fun z h2 hp => ?_)
    obtain ⟨rfl, l2, d2⟩ := hp
    refine n_V (pc := 117) (c_X11_isOn l2 hk (show v ≤ lastP W by rw [hl, hO]; omega) (show thr W k u ≤ lastP W by rw [hl, hO]; omega)) bX11_isOn q_i_X11_isOn q_s_X11_isOn q_m_X11_353 dX11_join_117 rfl rfl (by repeat (first | assumption | exact hset_eq _ _ _ | (apply Lay.hd; assumption) | rw [hset_ne _ _ (by omega)])) rfl rfl (by exact Nat.le_of_ble_eq_true rfl) ⟨by show 7 + 1 ≤ d; omega, by exact Nat.le_of_ble_eq_true rfl⟩ ⟨rfl, rfl, Nat.zero_le _, Nat.zero_le _⟩ (fun z h3 hp => ?_)
    obtain ⟨rfl, l3, d3⟩ := hp
    refine n_bif_eq (pc := 120) (tgt := 131) dX11_join_120 (by decide) (fun c => ?_) (fun c => ?_)
    · refine n_inc (pc := 131) dX11_join_131 rfl (by exact Nat.le_of_ble_eq_true rfl) ?_
      refine e_goto (pc := 134) (tgt := 99) dX11_join_134 (by decide) ?_
      refine ih (k + 1) (by omega) (by omega) h3 l3 ((fd.tr d2).tr d3) (fun a ha => ?_)
      by_cases e : a = k
      · rw [e]; intro q; rw [bl_t q] at c; cases c
      · exact h0 a (by omega)
    · refine e_aload_n (pc := 123) dX11_join_123 rfl rfl ?_
      refine e_iload (pc := 124) dX11_join_124 rfl ?_
      refine e_iload_n (pc := 126) dX11_join_126 rfl rfl ?_
      refine n_V (pc := 127) (c_X11_lineBy l3 hk hk1 hu) bX11_lineBy q_i_X11_lineBy q_s_X11_lineBy q_m_X11_350 dX11_join_127 rfl rfl (by repeat (first | assumption | exact hset_eq _ _ _ | (apply Lay.hd; assumption) | rw [hset_ne _ _ (by omega)])) rfl rfl (by exact Nat.le_of_ble_eq_true rfl) ⟨by show 7 + 1 ≤ d; omega, by exact Nat.le_of_ble_eq_true rfl⟩ ⟨rfl, rfl, Nat.zero_le _, Nat.zero_le _⟩ (fun z h4 hp => ?_)
      obtain ⟨rfl, l4, d4⟩ := hp
      exact n_iret (pc := 130) dX11_join_130 rfl ⟨congrArg nI (Pm0 k hk1 (bl_iff.mp c)), l4, ((fd.tr d2).tr d3).tr d4⟩
/-- from a point of the inner part -/
theorem c_join_lo {u v : Nat} (hd : 8 ≤ d) (hL : Lay h m W s) (hk : Wok W) (hD : Div W) (hne : u ≠ v) (hu : u < W.o * W.o) (hv : v ≤ lastP W) : CI yX11_join (mxj d) [.ref m, .int (nI u), .int (nI v)] h (fun z h' => z = nI (jnP W u v) ∧ Lay h' m W s ∧ FdM m h h') := by
  obtain ⟨b1, b2, b3, b4, b5⟩ := hk.b
  have pos := hk.pos
  have qq : W.1 ^ W.2.1 * W.1 ^ W.2.1 ≤ 243 * 243 := Nat.mul_le_mul b5 b5
  have hO : W.o = W.1 ^ W.2.1 := rfl
  have hl : lastP W = W.1 ^ W.2.1 * W.1 ^ W.2.1 + W.1 ^ W.2.1 := rfl
  have ul : u ≤ lastP W := by rw [hl]; rw [hO] at hu; omega
  have uni : ∀ l, l ≤ lastP W → OnP W u l → OnP W v l → l = jnP W u v := fun l q1 q2 q3 => jnP_uni hk hD hne ul hv q1 q2 q3
  have jn := jnP_on hk hD hne ul hv
  rw [hO] at hu
  have r1 : u / W.1 ^ W.2.1 < W.1 ^ W.2.1 := Nat.div_lt_of_lt_mul hu
  have dvv := Nat.div_le_self v (W.1 ^ W.2.1)
  have z1 : (0 : Int) ≤ ((u / W.1 ^ W.2.1 : Nat) : Int) := Int.natCast_nonneg _
  have z2 : (0 : Int) ≤ ((v / W.1 ^ W.2.1 : Nat) : Int) := Int.natCast_nonneg _
  rw [hl] at hv
  refine CI.ofV (by decide) rfl rfl (by simp [Value.category]) (by exact Nat.le_of_ble_eq_true rfl) (fun sz => ?_)
  refine e_aload_n (pc := 0) dX11_join_0 rfl rfl ?_
  refine e_get (pc := 1) fl_X11_112 dX11_join_1 (by repeat (first | assumption | exact hset_eq _ _ _ | (apply Lay.hd; assumption) | rw [hset_ne _ _ (by omega)])) (by rfl) ?_
  refine e_aload_n (pc := 4) dX11_join_4 rfl rfl ?_
  refine e_get (pc := 5) fl_X11_112 dX11_join_5 (by repeat (first | assumption | exact hset_eq _ _ _ | (apply Lay.hd; assumption) | rw [hset_ne _ _ (by omega)])) (by rfl) ?_
  refine n_imul (pc := 8) dX11_join_8 ?_
  refine e_istore_n (pc := 9) dX11_join_9 rfl (by exact Nat.le_of_ble_eq_true rfl) ?_
  refine e_iload_n (pc := 10) dX11_join_10 rfl rfl ?_
  refine e_iload_n (pc := 11) dX11_join_11 rfl rfl ?_
  refine n_icmp_lt (pc := 12) (tgt := 27) dX11_join_12 (by decide) (by omega) (by omega) (fun hb_ => ?_) (fun c => absurd c (by omega))
  refine e_iload_n (pc := 27) dX11_join_27 rfl rfl ?_
  refine e_iload_n (pc := 28) dX11_join_28 rfl rfl ?_
  refine n_icmp_lt (pc := 29) (tgt := 39) dX11_join_29 (by decide) (by omega) (by omega) (fun hb_ => ?_) (fun c => absurd c (by omega))
  refine e_iload_n (pc := 39) dX11_join_39 rfl rfl ?_
  refine e_iload_n (pc := 40) dX11_join_40 rfl rfl ?_
  refine e_aload_n (pc := 41) dX11_join_41 rfl rfl ?_
  refine e_get (pc := 42) fl_X11_112 dX11_join_42 (by repeat (first | assumption | exact hset_eq _ _ _ | (apply Lay.hd; assumption) | rw [hset_ne _ _ (by omega)])) (by rfl) ?_
  refine n_iadd (pc := 45) dX11_join_45 ?_
  refine n_icmp_ne (pc := 46) (tgt := 58) dX11_join_46 (by decide) (by omega) (by omega) (fun c1 => ?_) (fun c1 => ?_)
  · refine e_iload_n (pc := 58) dX11_join_58 rfl rfl ?_
    refine e_iload_n (pc := 59) dX11_join_59 rfl rfl ?_
    refine n_icmp_lt (pc := 60) (tgt := 72) dX11_join_60 (by decide) (by omega) (by omega) (fun c2 => ?_) (fun c2 => ?_)
    · refine e_iload_n (pc := 72) dX11_join_72 rfl rfl ?_
      refine e_aload_n (pc := 73) dX11_join_73 rfl rfl ?_
      refine e_get (pc := 74) fl_X11_112 dX11_join_74 (by repeat (first | assumption | exact hset_eq _ _ _ | (apply Lay.hd; assumption) | rw [hset_ne _ _ (by omega)])) (by rfl) ?_
      refine n_idiv (pc := 77) dX11_join_77 (by omega) (by omega) (by omega) ?_
      refine e_iload_n (pc := 78) dX11_join_78 rfl rfl ?_
      refine e_aload_n (pc := 79) dX11_join_79 rfl rfl ?_
      refine e_get (pc := 80) fl_X11_112 dX11_join_80 (by repeat (first | assumption | exact hset_eq _ _ _ | (apply Lay.hd; assumption) | rw [hset_ne _ _ (by omega)])) (by rfl) ?_
      refine n_idiv (pc := 83) dX11_join_83 (by omega) (by omega) (by omega) ?_
      refine n_icmp_ne (pc := 84) (tgt := 96) dX11_join_84 (by decide) (by omega) (by omega) (fun c3 => ?_) (fun c3 => ?_)
      · have r2 : v / W.1 ^ W.2.1 < W.1 ^ W.2.1 := Nat.div_lt_of_lt_mul c2
        refine n_iconst (pc := 96) 0 dX11_join_96 (by decide) ?_
        refine e_istore (pc := 97) dX11_join_97 (by exact Nat.le_of_ble_eq_true rfl) ?_
        refine V.mask [true, true, true, false, true] ?_
        refine l_jn (hh := h) hd hk hD hu c2 c3 (fun k hkk q => ?_) ?_ W.o 0 rfl (Nat.zero_le _) h hL (FdM.rf _ _) (fun a ha => absurd ha (Nat.not_lt_zero a))
        · have tl := thr_le hk (u := u) hkk
          exact uni _ (by rw [hl]; rw [hO] at tl; omega) (on_thr hk hkk hu) q
        · have j1 := jn.1
          have j2 := jn.2.1
          generalize hj : jnP W u v = l at j1 j2
          by_cases c : W.o * W.o ≤ l
          · unfold OnP at j1 j2
            rw [if_neg (show ¬ W.o * W.o ≤ u by rw [hO]; omega), if_pos c] at j1
            rw [if_neg (show ¬ W.o * W.o ≤ v by rw [hO]; omega), if_pos c] at j2
            exact absurd (j1.symm.trans j2) c3
          · have j3 := j1
            unfold OnP at j3
            rw [if_neg (show ¬ W.o * W.o ≤ u by rw [hO]; omega), if_neg c] at j3
            unfold hgt at j3
            have e := sb_of_ad hk.1 hk.2.2.1 (Nat.mod_lt l pos) (Nat.mod_lt u pos) (mul_lt hk _ _) j3
            have e2 : thr W (l / W.o) u = l := by
              unfold thr
              rw [← e]
              exact Nat.div_add_mod l W.o
            exact ⟨l / W.o, Nat.div_lt_of_lt_mul (by omega), by rw [e2]; exact j2⟩
      · have e : W.1 ^ W.2.1 * W.1 ^ W.2.1 + u / W.1 ^ W.2.1 = jnP W u v := uni _ (by rw [hl]; omega) (by
          unfold OnP
          rw [if_neg (show ¬ W.o * W.o ≤ u by rw [hO]; omega), if_pos (show W.o * W.o ≤ _ by rw [hO]; omega), hO]
          omega) (by
          unfold OnP
          rw [if_neg (show ¬ W.o * W.o ≤ v by rw [hO]; omega), if_pos (show W.o * W.o ≤ _ by rw [hO]; omega), hO]
          omega)
        refine e_iload_n (pc := 87) dX11_join_87 rfl rfl ?_
        refine e_iload_n (pc := 88) dX11_join_88 rfl rfl ?_
        refine e_aload_n (pc := 89) dX11_join_89 rfl rfl ?_
        refine e_get (pc := 90) fl_X11_112 dX11_join_90 (by repeat (first | assumption | exact hset_eq _ _ _ | (apply Lay.hd; assumption) | rw [hset_ne _ _ (by omega)])) (by rfl) ?_
        refine n_idiv (pc := 93) dX11_join_93 (by omega) (by omega) (by omega) ?_
        refine n_iadd (pc := 94) dX11_join_94 ?_
        exact n_iret (pc := 95) dX11_join_95 rfl ⟨congrArg nI e, hL, FdM.rf _ _⟩
    · have kl : v - W.1 ^ W.2.1 * W.1 ^ W.2.1 < W.1 ^ W.2.1 := by omega
      have tl := thr_le hk (u := u) (k := v - W.1 ^ W.2.1 * W.1 ^ W.2.1) kl
      obtain ⟨d1, d2⟩ := q_div (m := v - W.1 ^ W.2.1 * W.1 ^ W.2.1) (thr_b hk (v - W.1 ^ W.2.1 * W.1 ^ W.2.1) u)
      have e : thr W (v - W.1 ^ W.2.1 * W.1 ^ W.2.1) u = jnP W u v := uni _ (by rw [hl]; rw [hO] at tl; omega) (on_thr hk kl hu) (by
        unfold OnP
        rw [if_pos (show W.o * W.o ≤ v by rw [hO]; omega), if_neg (by omega)]
        exact d1.symm)
      refine e_aload_n (pc := 63) dX11_join_63 rfl rfl ?_
      refine e_iload_n (pc := 64) dX11_join_64 rfl rfl ?_
      refine e_iload_n (pc := 65) dX11_join_65 rfl rfl ?_
      refine n_isub (pc := 66) dX11_join_66 (by omega) ?_
      refine e_iload_n (pc := 67) dX11_join_67 rfl rfl ?_
      refine n_V (pc := 68) (c_X11_lineBy hL hk kl hu) bX11_lineBy q_i_X11_lineBy q_s_X11_lineBy q_m_X11_350 dX11_join_68 rfl rfl (by repeat (first | assumption | exact hset_eq _ _ _ | (apply Lay.hd; assumption) | rw [hset_ne _ _ (by omega)])) rfl rfl (by exact Nat.le_of_ble_eq_true rfl) ⟨by show 7 + 1 ≤ d; omega, by exact Nat.le_of_ble_eq_true rfl⟩ ⟨rfl, rfl, Nat.zero_le _, Nat.zero_le _⟩ (fun z h2 hp => ?_)
      obtain ⟨rfl, l2, d2⟩ := hp
      exact n_iret (pc := 71) dX11_join_71 rfl ⟨congrArg nI e, l2, d2⟩
  · have e : W.1 ^ W.2.1 * W.1 ^ W.2.1 + u / W.1 ^ W.2.1 = jnP W u v := uni _ (by rw [hl]; omega) (by
      unfold OnP
      rw [if_neg (show ¬ W.o * W.o ≤ u by rw [hO]; omega), if_pos (show W.o * W.o ≤ _ by rw [hO]; omega), hO]
      omega) (by
      unfold OnP
      rw [if_pos (show W.o * W.o ≤ v by rw [hO]; omega), if_pos (show W.o * W.o ≤ _ by rw [hO]; omega)]
      exact Or.inl (by rw [hl]; omega))
    refine e_iload_n (pc := 49) dX11_join_49 rfl rfl ?_
    refine e_iload_n (pc := 50) dX11_join_50 rfl rfl ?_
    refine e_aload_n (pc := 51) dX11_join_51 rfl rfl ?_
    refine e_get (pc := 52) fl_X11_112 dX11_join_52 (by repeat (first | assumption | exact hset_eq _ _ _ | (apply Lay.hd; assumption) | rw [hset_ne _ _ (by omega)])) (by rfl) ?_
    refine n_idiv (pc := 55) dX11_join_55 (by omega) (by omega) (by omega) ?_
    refine n_iadd (pc := 56) dX11_join_56 ?_
    exact n_iret (pc := 57) dX11_join_57 rfl ⟨congrArg nI e, hL, FdM.rf _ _⟩
theorem c_join {u v : Nat} (hd : 9 ≤ d) (hL : Lay h m W s) (hk : Wok W) (hD : Div W) (hne : u ≠ v) (hu : u ≤ lastP W) (hv : v ≤ lastP W) : CI yX11_join (mxj d) [.ref m, .int (nI u), .int (nI v)] h (fun z h' => z = nI (jnP W u v) ∧ Lay h' m W s ∧ FdM m h h') := by
  by_cases c : u < W.o * W.o
  · exact c_join_lo (by omega) hL hk hD hne c hv
  obtain ⟨b1, b2, b3, b4, b5⟩ := hk.b
  have pos := hk.pos
  have qq : W.1 ^ W.2.1 * W.1 ^ W.2.1 ≤ 243 * 243 := Nat.mul_le_mul b5 b5
  have hO : W.o = W.1 ^ W.2.1 := rfl
  have hl : lastP W = W.1 ^ W.2.1 * W.1 ^ W.2.1 + W.1 ^ W.2.1 := rfl
  have uni : ∀ l, l ≤ lastP W → OnP W u l → OnP W v l → l = jnP W u v := fun l q1 q2 q3 => jnP_uni hk hD hne hu hv q1 q2 q3
  have hu' := hu
  have hv' := hv
  rw [hl] at hu hv
  rw [hO] at c
  refine CI.ofV (by decide) rfl rfl (by simp [Value.category]) (by exact Nat.le_of_ble_eq_true rfl) (fun sz => ?_)
  refine e_aload_n (pc := 0) dX11_join_0 rfl rfl ?_
  refine e_get (pc := 1) fl_X11_112 dX11_join_1 (by repeat (first | assumption | exact hset_eq _ _ _ | (apply Lay.hd; assumption) | rw [hset_ne _ _ (by omega)])) (by rfl) ?_
  refine e_aload_n (pc := 4) dX11_join_4 rfl rfl ?_
  refine e_get (pc := 5) fl_X11_112 dX11_join_5 (by repeat (first | assumption | exact hset_eq _ _ _ | (apply Lay.hd; assumption) | rw [hset_ne _ _ (by omega)])) (by rfl) ?_
  refine n_imul (pc := 8) dX11_join_8 ?_
  refine e_istore_n (pc := 9) dX11_join_9 rfl (by exact Nat.le_of_ble_eq_true rfl) ?_
  refine e_iload_n (pc := 10) dX11_join_10 rfl rfl ?_
  refine e_iload_n (pc := 11) dX11_join_11 rfl rfl ?_
  refine n_icmp_lt (pc := 12) (tgt := 27) dX11_join_12 (by decide) (by omega) (by omega) (fun c => absurd c (by omega)) (fun hb_ => ?_)
  refine e_iload_n (pc := 15) dX11_join_15 rfl rfl ?_
  refine e_iload_n (pc := 16) dX11_join_16 rfl rfl ?_
  refine n_icmp_lt (pc := 17) (tgt := 27) dX11_join_17 (by decide) (by omega) (by omega) (fun c2 => ?_) (fun c2 => ?_)
  · refine e_iload_n (pc := 27) dX11_join_27 rfl rfl ?_
    refine e_iload_n (pc := 28) dX11_join_28 rfl rfl ?_
    refine n_icmp_lt (pc := 29) (tgt := 39) dX11_join_29 (by decide) (by omega) (by omega) (fun c => absurd c (by omega)) (fun hb_ => ?_)
    refine e_aload_n (pc := 32) dX11_join_32 rfl rfl ?_
    refine e_iload_n (pc := 33) dX11_join_33 rfl rfl ?_
    refine e_iload_n (pc := 34) dX11_join_34 rfl rfl ?_
    refine n_V (pc := 35) (c_join_lo (d := d - 1) (by omega) hL hk hD (Ne.symm hne) c2 hu') (bxj (d - 1)) q_i_X11_join q_s_X11_join q_m_X11_347 dX11_join_35 rfl rfl (by apply Lay.hd; assumption) rfl rfl (by exact Nat.le_of_ble_eq_true rfl) ⟨by show d - 1 + 1 ≤ d; omega, by exact Nat.le_of_ble_eq_true rfl⟩ ⟨rfl, rfl, Nat.zero_le _, Nat.zero_le _⟩ (fun z h2 hp => ?_)
    obtain ⟨rfl, l2, d2⟩ := hp
    exact n_iret (pc := 38) dX11_join_38 rfl ⟨by rw [jnP_comm], l2, d2⟩
  · have e : W.1 ^ W.2.1 * W.1 ^ W.2.1 + W.1 ^ W.2.1 = jnP W u v := uni _ (by rw [hl]; omega) (by
      unfold OnP
      rw [if_pos (show W.o * W.o ≤ u by rw [hO]; omega), if_pos (show W.o * W.o ≤ _ by rw [hO]; omega)]
      exact Or.inr hl.symm) (by
      unfold OnP
      rw [if_pos (show W.o * W.o ≤ v by rw [hO]; omega), if_pos (show W.o * W.o ≤ _ by rw [hO]; omega)]
      exact Or.inr hl.symm)
    refine e_iload_n (pc := 20) dX11_join_20 rfl rfl ?_
    refine e_aload_n (pc := 21) dX11_join_21 rfl rfl ?_
    refine e_get (pc := 22) fl_X11_112 dX11_join_22 (by repeat (first | assumption | exact hset_eq _ _ _ | (apply Lay.hd; assumption) | rw [hset_ne _ _ (by omega)])) (by rfl) ?_
    refine n_iadd (pc := 25) dX11_join_25 ?_
    exact n_iret (pc := 26) dX11_join_26 rfl ⟨congrArg nI e, hL, FdM.rf _ _⟩
end MPJ
