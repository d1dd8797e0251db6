/-! ===== the reference: the point of two lines ===== -/
abbrev mxm (d : Nat) : MI := (RX11, cX11_meet, 6, (Option.some FieldType.int), d, 0, 0, false)
theorem bxm (d : Nat) : BY yX11_meet (mxm d) 2 := ⟨q_c_X11_meet, q_in_X11, by decide +kernel, rfl⟩
section MPM
variable {h : AH} {m : Nat} {s : Ms} {W : Wd} {sz d : Nat} {hh : AH}
theorem on_pt (hk : Wok W) {k u : Nat} (hkk : k < W.o) (hu : u < W.o * W.o) : W.o * k + hgt W u k < W.o * W.o ∧ OnP W (W.o * k + hgt W u k) u := by
  have hb := hgt_lt hk u k
  have h1 := q_lt hkk hb
  obtain ⟨d1, d2⟩ := q_div (m := k) hb
  refine ⟨h1, ?_⟩
  unfold OnP
  rw [if_neg (by omega), if_neg (by omega), d1, d2]
/-- a line's point over x -/
theorem l_pt {u k : Nat} (hk : Wok W) (hkk : k < W.o) : num W.1 W.2.1 (fun j => (dg W.1 (mul W (u / W.o) k) j + 1 * dg W.1 (u % W.o) j) % W.1) = hgt W u k := by
  have b := hk.b
  exact pl_ad (by omega) b.2.2.2.1 (mul_lt hk _ _) (Nat.mod_lt _ hk.pos)
theorem l_mt {u v : Nat} (hd : 8 ≤ d) (hk : Wok W) (hu : u < W.o * W.o) (hv : v < W.o * W.o) (Pm0 : ∀ k, k < W.o → OnP W (W.o * k + hgt W u k) v → W.o * k + hgt W u k = mtP W u v) (ex : ∃ k, k < W.o ∧ OnP W (W.o * k + hgt W u k) v) :
    ∀ (t k : Nat), t = W.o - k → k ≤ W.o → ∀ h, Lay h m W s → FdM m hh h → (∀ a, a < k → ¬ OnP W (W.o * a + hgt W u a) v) → VI (mxm d) sz (fun z h' => z = nI (mtP W u v) ∧ Lay h' m W s ∧ FdM m hh h') h 124 [some (.ref m), some (.int (nI u)), some (.int (nI v)), none, some (.int (nI k)), none] [] := by
  obtain ⟨b1, b2, b3, b4, b5⟩ := hk.b
  have pos := hk.pos
  have qq : W.1 ^ W.2.1 * W.1 ^ W.2.1 ≤ 243 * 243 := Nat.mul_le_mul b5 b5
  have hO : W.o = W.1 ^ W.2.1 := rfl
  have hl : lastP W = W.o * W.o + W.o := rfl
  intro t
  induction t with
  | zero =>
    intro k e1 e2 h hL fd h0
    obtain ⟨a, a1, a2⟩ := ex
    exact absurd a2 (h0 a (by omega))
  | succ t ih =>
    intro k e1 e2 h hL fd h0
    have hk1 : k < W.o := by omega
    have pt := (on_pt hk hk1 hu).1
    have lp := l_pt (u := u) hk hk1
    have ml := mul_lt hk (u / W.1 ^ W.2.1) k
    have r1 : u / W.1 ^ W.2.1 < W.1 ^ W.2.1 := Nat.div_lt_of_lt_mul hu
    have mu := Nat.mod_lt u pos
    rw [hO] at pt hu hv hk1 e2 e1 lp
    refine e_iload (pc := 124) dX11_meet_124 rfl ?_
    refine e_aload_n (pc := 126) dX11_meet_126 rfl rfl ?_
    refine e_get (pc := 127) fl_X11_112 dX11_meet_127 (by repeat (first | assumption | exact hset_eq _ _ _ | (apply Lay.hd; assumption) | rw [hset_ne _ _ (by omega)])) (by rfl) ?_
    refine n_icmp_ge (pc := 130) (tgt := 185) dX11_meet_130 (by decide) (by omega) (by omega) (fun c => absurd c (by omega)) (fun hb_ => ?_)
    refine e_aload_n (pc := 133) dX11_meet_133 rfl rfl ?_
    refine e_get (pc := 134) fl_X11_112 dX11_meet_134 (by repeat (first | assumption | exact hset_eq _ _ _ | (apply Lay.hd; assumption) | rw [hset_ne _ _ (by omega)])) (by rfl) ?_
    refine e_iload (pc := 137) dX11_meet_137 rfl ?_
    refine n_imul (pc := 139) dX11_meet_139 ?_
    refine e_aload_n (pc := 140) dX11_meet_140 rfl rfl ?_
    refine e_aload_n (pc := 141) dX11_meet_141 rfl rfl ?_
    refine e_iload_n (pc := 142) dX11_meet_142 rfl rfl ?_
    refine e_aload_n (pc := 143) dX11_meet_143 rfl rfl ?_
    refine e_get (pc := 144) fl_X11_112 dX11_meet_144 (by repeat (first | assumption | exact hset_eq _ _ _ | (apply Lay.hd; assumption) | rw [hset_ne _ _ (by omega)])) (by rfl) ?_
    refine n_idiv (pc := 147) dX11_meet_147 (by omega) (by omega) (by omega) ?_
    refine e_iload (pc := 148) dX11_meet_148 rfl ?_
    refine n_V (pc := 150) (c_X11_times hL hk (show u / W.1 ^ W.2.1 < 2 ^ 31 by omega) (show k < 2 ^ 31 by omega)) bX11_times q_i_X11_times q_s_X11_times q_m_X11_266 dX11_meet_150 rfl rfl (by repeat (first | assumption | exact hset_eq _ _ _ | (apply Lay.hd; assumption) | rw [hset_ne _ _ (by omega)])) rfl rfl (by exact Nat.le_of_ble_eq_true rfl) ⟨by show 6 + 1 ≤ d; omega, by exact Nat.le_of_ble_eq_true rfl⟩ ⟨rfl, rfl, Nat.zero_le _, Nat.zero_le _⟩ (fun z h2 hp => ?_)
    obtain ⟨rfl, l2, d2⟩ := hp
    refine n_iconst (pc := 153) 1 dX11_meet_153 (by decide) ?_
    refine e_iload_n (pc := 154) dX11_meet_154 rfl rfl ?_
    refine e_aload_n (pc := 155) dX11_meet_155 rfl rfl ?_
    refine e_get (pc := 156) fl_X11_112 dX11_meet_156 (by repeat (first | assumption | exact hset_eq _ _ _ | (apply Lay.hd; assumption) | rw [hset_ne _ _ (by omega)])) (by rfl) ?_
    refine n_irem (pc := 159) dX11_meet_159 (by omega) (by omega) (by omega) ?_
    refine n_V (pc := 160) (c_X11_plus (a := 1) l2.1 l2.2.2.m3 ⟨b1, b2⟩ ⟨b3, b4⟩ (by decide) (show mul W (u / W.1 ^ W.2.1) k < 2 ^ 31 by omega) (show u % W.1 ^ W.2.1 < 2 ^ 31 by omega)) bX11_plus q_i_X11_plus q_s_X11_plus q_m_X11_127 dX11_meet_160 rfl rfl (by repeat (first | assumption | exact hset_eq _ _ _ | (apply Lay.hd; assumption) | rw [hset_ne _ _ (by omega)])) rfl rfl (by exact Nat.le_of_ble_eq_true rfl) ⟨by show 5 + 1 ≤ d; omega, by exact Nat.le_of_ble_eq_true rfl⟩ ⟨rfl, rfl, Nat.zero_le _, Nat.zero_le _⟩ (fun z h3 hp => ?_)
    obtain ⟨rfl, p1, p2⟩ := hp
    have l3 := l2.fd p1 p2
    rw [lp]
    refine n_iadd (pc := 163) dX11_meet_163 ?_
    refine e_istore (pc := 164) dX11_meet_164 (by exact Nat.le_of_ble_eq_true rfl) ?_
    refine e_aload_n (pc := 166) dX11_meet_166 rfl rfl ?_
    refine e_iload (pc := 167) dX11_meet_167 rfl ?_
    refine e_iload_n (pc := 169) dX11_meet_169 rfl rfl ?_
    refine n_V (pc := 170) (c_X11_isOn l3 hk (show W.1 ^ W.2.1 * k + hgt W u k ≤ lastP W by rw [hl, hO]; omega) (show v ≤ lastP W by rw [hl, hO]; omega)) bX11_isOn q_i_X11_isOn q_s_X11_isOn q_m_X11_353 dX11_meet_170 rfl rfl (by repeat (first | assumption | exact hset_eq _ _ _ | (apply Lay.hd; assumption) | rw [hset_ne _ _ (by omega)])) rfl rfl (by exact Nat.le_of_ble_eq_true rfl) ⟨by show 7 + 1 ≤ d; omega, by exact Nat.le_of_ble_eq_true rfl⟩ ⟨rfl, rfl, Nat.zero_le _, Nat.zero_le _⟩ (fun z h4 hp => ?_)
    obtain ⟨rfl, l4, d4⟩ := hp
    refine n_bif_eq (pc := 173) (tgt := 179) dX11_meet_173 (by decide) (fun c => ?_) (fun c => ?_)
    · refine n_inc (pc := 179) dX11_meet_179 rfl (by exact Nat.le_of_ble_eq_true rfl) ?_
      refine e_goto (pc := 182) (tgt := 124) dX11_meet_182 (by decide) ?_
      refine V.mask [true, true, true, false, true, false] ?_
      refine ih (k + 1) (by omega) (by omega) h4 l4 (((fd.tr d2).tr p2).tr d4) (fun a ha => ?_)
      by_cases e : a = k
      · rw [e]; intro q; rw [bl_t q] at c; cases c
      · exact h0 a (by omega)
    · refine e_iload (pc := 176) dX11_meet_176 rfl ?_
      exact n_iret (pc := 178) dX11_meet_178 rfl ⟨congrArg nI (Pm0 k hk1 (bl_iff.mp c)), l4, ((fd.tr d2).tr p2).tr d4⟩
theorem c_meet_lo {u v : Nat} (hd : 8 ≤ d) (hL : Lay h m W s) (hk : Wok W) (hD : Div W) (hne : u ≠ v) (hu : u < W.o * W.o) (hv : v ≤ lastP W) : CI yX11_meet (mxm d) [.ref m, .int (nI u), .int (nI v)] h (fun z h' => z = nI (mtP W u v) ∧ Lay h' m W s ∧ FdM m h h') := by
  obtain ⟨b1, b2, b3, b4, b5⟩ := hk.b
  have pos := hk.pos
  have qq : W.1 ^ W.2.1 * W.1 ^ W.2.1 ≤ 243 * 243 := Nat.mul_le_mul b5 b5
  have hO : W.o = W.1 ^ W.2.1 := rfl
  have hl : lastP W = W.1 ^ W.2.1 * W.1 ^ W.2.1 + W.1 ^ W.2.1 := rfl
  have ul : u ≤ lastP W := by rw [hl]; rw [hO] at hu; omega
  have uni : ∀ x, x ≤ lastP W → OnP W x u → OnP W x v → x = mtP W u v := fun x q1 q2 q3 => mtP_uni hk hD hne ul hv q1 q2 q3
  have mt := mtP_on hk hD hne ul hv
  have pts := fun k (hkk : k < W.o) => on_pt hk hkk hu
  rw [hO] at hu
  have r1 : u / W.1 ^ W.2.1 < W.1 ^ W.2.1 := Nat.div_lt_of_lt_mul hu
  have mu := Nat.mod_lt u pos
  have dvv := Nat.div_le_self v (W.1 ^ W.2.1)
  have z1 : (0 : Int) ≤ ((u / W.1 ^ W.2.1 : Nat) : Int) := Int.natCast_nonneg _
  have z2 : (0 : Int) ≤ ((v / W.1 ^ W.2.1 : Nat) : Int) := Int.natCast_nonneg _
  rw [hl] at hv
  refine CI.ofV (by decide) rfl rfl (by simp [Value.category]) (by exact Nat.le_of_ble_eq_true rfl) (fun sz => ?_)
  refine e_aload_n (pc := 0) dX11_meet_0 rfl rfl ?_
  refine e_get (pc := 1) fl_X11_112 dX11_meet_1 (by repeat (first | assumption | exact hset_eq _ _ _ | (apply Lay.hd; assumption) | rw [hset_ne _ _ (by omega)])) (by rfl) ?_
  refine e_aload_n (pc := 4) dX11_meet_4 rfl rfl ?_
  refine e_get (pc := 5) fl_X11_112 dX11_meet_5 (by repeat (first | assumption | exact hset_eq _ _ _ | (apply Lay.hd; assumption) | rw [hset_ne _ _ (by omega)])) (by rfl) ?_
  refine n_imul (pc := 8) dX11_meet_8 ?_
  refine e_istore_n (pc := 9) dX11_meet_9 rfl (by exact Nat.le_of_ble_eq_true rfl) ?_
  refine e_iload_n (pc := 10) dX11_meet_10 rfl rfl ?_
  refine e_iload_n (pc := 11) dX11_meet_11 rfl rfl ?_
  refine n_icmp_lt (pc := 12) (tgt := 27) dX11_meet_12 (by decide) (by omega) (by omega) (fun hb_ => ?_) (fun c => absurd c (by omega))
  refine e_iload_n (pc := 27) dX11_meet_27 rfl rfl ?_
  refine e_iload_n (pc := 28) dX11_meet_28 rfl rfl ?_
  refine n_icmp_lt (pc := 29) (tgt := 39) dX11_meet_29 (by decide) (by omega) (by omega) (fun hb_ => ?_) (fun c => absurd c (by omega))
  refine e_iload_n (pc := 39) dX11_meet_39 rfl rfl ?_
  refine e_iload_n (pc := 40) dX11_meet_40 rfl rfl ?_
  refine e_aload_n (pc := 41) dX11_meet_41 rfl rfl ?_
  refine e_get (pc := 42) fl_X11_112 dX11_meet_42 (by repeat (first | assumption | exact hset_eq _ _ _ | (apply Lay.hd; assumption) | rw [hset_ne _ _ (by omega)])) (by rfl) ?_
  refine n_iadd (pc := 45) dX11_meet_45 ?_
  refine n_icmp_ne (pc := 46) (tgt := 58) dX11_meet_46 (by decide) (by omega) (by omega) (fun c1 => ?_) (fun c1 => ?_)
  · refine e_iload_n (pc := 58) dX11_meet_58 rfl rfl ?_
    refine e_iload_n (pc := 59) dX11_meet_59 rfl rfl ?_
    refine n_icmp_lt (pc := 60) (tgt := 97) dX11_meet_60 (by decide) (by omega) (by omega) (fun c2 => ?_) (fun c2 => ?_)
    · refine e_iload_n (pc := 97) dX11_meet_97 rfl rfl ?_
      refine e_aload_n (pc := 98) dX11_meet_98 rfl rfl ?_
      refine e_get (pc := 99) fl_X11_112 dX11_meet_99 (by repeat (first | assumption | exact hset_eq _ _ _ | (apply Lay.hd; assumption) | rw [hset_ne _ _ (by omega)])) (by rfl) ?_
      refine n_idiv (pc := 102) dX11_meet_102 (by omega) (by omega) (by omega) ?_
      refine e_iload_n (pc := 103) dX11_meet_103 rfl rfl ?_
      refine e_aload_n (pc := 104) dX11_meet_104 rfl rfl ?_
      refine e_get (pc := 105) fl_X11_112 dX11_meet_105 (by repeat (first | assumption | exact hset_eq _ _ _ | (apply Lay.hd; assumption) | rw [hset_ne _ _ (by omega)])) (by rfl) ?_
      refine n_idiv (pc := 108) dX11_meet_108 (by omega) (by omega) (by omega) ?_
      refine n_icmp_ne (pc := 109) (tgt := 121) dX11_meet_109 (by decide) (by omega) (by omega) (fun c3 => ?_) (fun c3 => ?_)
      · have r2 : v / W.1 ^ W.2.1 < W.1 ^ W.2.1 := Nat.div_lt_of_lt_mul c2
        refine n_iconst (pc := 121) 0 dX11_meet_121 (by decide) ?_
        refine e_istore (pc := 122) dX11_meet_122 (by exact Nat.le_of_ble_eq_true rfl) ?_
        refine V.mask [true, true, true, false, true, false] ?_
        refine l_mt (hh := h) hd hk hu c2 (fun k hkk q => ?_) ?_ W.o 0 rfl (Nat.zero_le _) h hL (FdM.rf _ _) (fun a ha => absurd ha (Nat.not_lt_zero a))
        · have p1 := pts k hkk
          exact uni _ (by rw [hl]; exact Nat.le_of_lt (Nat.lt_of_lt_of_le p1.1 (Nat.le_add_right _ _))) p1.2 q
        · have j1 := mt.1
          have j2 := mt.2.1
          generalize hj : mtP W u v = l at j1 j2
          by_cases c : W.o * W.o ≤ l
          · unfold OnP at j1 j2
            rw [if_pos c, if_neg (show ¬ W.o * W.o ≤ u by rw [hO]; omega)] at j1
            rw [if_pos c, if_neg (show ¬ W.o * W.o ≤ v by rw [hO]; omega)] at j2
            exact absurd (j1.symm.trans j2) c3
          · have j3 := j1
            unfold OnP at j3
            rw [if_neg c, if_neg (show ¬ W.o * W.o ≤ u by rw [hO]; omega)] at j3
            have e2 : W.o * (l / W.o) + hgt W u (l / W.o) = l := by
              rw [← j3]
              exact Nat.div_add_mod l W.o
            exact ⟨l / W.o, Nat.div_lt_of_lt_mul (by omega), by rw [e2]; exact j2⟩
      · have e : W.1 ^ W.2.1 * W.1 ^ W.2.1 + u / W.1 ^ W.2.1 = mtP W u v := uni _ (by rw [hl]; omega) (by
          unfold OnP
          rw [if_pos (show W.o * W.o ≤ _ by rw [hO]; omega), if_neg (show ¬ W.o * W.o ≤ u by rw [hO]; omega), hO]
          omega) (by
          unfold OnP
          rw [if_pos (show W.o * W.o ≤ _ by rw [hO]; omega), if_neg (show ¬ W.o * W.o ≤ v by rw [hO]; omega), hO]
          omega)
        refine e_iload_n (pc := 112) dX11_meet_112 rfl rfl ?_
        refine e_iload_n (pc := 113) dX11_meet_113 rfl rfl ?_
        refine e_aload_n (pc := 114) dX11_meet_114 rfl rfl ?_
        refine e_get (pc := 115) fl_X11_112 dX11_meet_115 (by repeat (first | assumption | exact hset_eq _ _ _ | (apply Lay.hd; assumption) | rw [hset_ne _ _ (by omega)])) (by rfl) ?_
        refine n_idiv (pc := 118) dX11_meet_118 (by omega) (by omega) (by omega) ?_
        refine n_iadd (pc := 119) dX11_meet_119 ?_
        exact n_iret (pc := 120) dX11_meet_120 rfl ⟨congrArg nI e, hL, FdM.rf _ _⟩
    · have kl : v - W.1 ^ W.2.1 * W.1 ^ W.2.1 < W.1 ^ W.2.1 := by omega
      have p1 := pts _ kl
      have lp := l_pt (u := u) hk kl
      have ml := mul_lt hk (u / W.1 ^ W.2.1) (v - W.1 ^ W.2.1 * W.1 ^ W.2.1)
      have hb := hgt_lt hk u (v - W.1 ^ W.2.1 * W.1 ^ W.2.1)
      obtain ⟨q1, q2⟩ := q_div (m := v - W.1 ^ W.2.1 * W.1 ^ W.2.1) hb
      rw [hO] at p1 lp
      have e : W.1 ^ W.2.1 * (v - W.1 ^ W.2.1 * W.1 ^ W.2.1) + hgt W u (v - W.1 ^ W.2.1 * W.1 ^ W.2.1) = mtP W u v := uni _ (by rw [hl]; omega) p1.2 (by
        unfold OnP
        rw [if_neg (by rw [hO]; omega), if_pos (show W.o * W.o ≤ v by rw [hO]; omega)]
        exact q1.symm)
      refine e_aload_n (pc := 63) dX11_meet_63 rfl rfl ?_
      refine e_get (pc := 64) fl_X11_112 dX11_meet_64 (by repeat (first | assumption | exact hset_eq _ _ _ | (apply Lay.hd; assumption) | rw [hset_ne _ _ (by omega)])) (by rfl) ?_
      refine e_iload_n (pc := 67) dX11_meet_67 rfl rfl ?_
      refine e_iload_n (pc := 68) dX11_meet_68 rfl rfl ?_
      refine n_isub (pc := 69) dX11_meet_69 (by omega) ?_
      refine n_imul (pc := 70) dX11_meet_70 ?_
      refine e_aload_n (pc := 71) dX11_meet_71 rfl rfl ?_
      refine e_aload_n (pc := 72) dX11_meet_72 rfl rfl ?_
      refine e_iload_n (pc := 73) dX11_meet_73 rfl rfl ?_
      refine e_aload_n (pc := 74) dX11_meet_74 rfl rfl ?_
      refine e_get (pc := 75) fl_X11_112 dX11_meet_75 (by repeat (first | assumption | exact hset_eq _ _ _ | (apply Lay.hd; assumption) | rw [hset_ne _ _ (by omega)])) (by rfl) ?_
      refine n_idiv (pc := 78) dX11_meet_78 (by omega) (by omega) (by omega) ?_
      refine e_iload_n (pc := 79) dX11_meet_79 rfl rfl ?_
      refine e_iload_n (pc := 80) dX11_meet_80 rfl rfl ?_
      refine n_isub (pc := 81) dX11_meet_81 (by omega) ?_
      refine n_V (pc := 82) (c_X11_times hL hk (show u / W.1 ^ W.2.1 < 2 ^ 31 by omega) (show v - W.1 ^ W.2.1 * W.1 ^ W.2.1 < 2 ^ 31 by omega)) bX11_times q_i_X11_times q_s_X11_times q_m_X11_266 dX11_meet_82 rfl rfl (by repeat (first | assumption | exact hset_eq _ _ _ | (apply Lay.hd; assumption) | rw [hset_ne _ _ (by omega)])) rfl rfl (by exact Nat.le_of_ble_eq_true rfl) ⟨by show 6 + 1 ≤ d; omega, by exact Nat.le_of_ble_eq_true rfl⟩ ⟨rfl, rfl, Nat.zero_le _, Nat.zero_le _⟩ (fun z h2 hp => ?_)
      obtain ⟨rfl, l2, d2⟩ := hp
      refine n_iconst (pc := 85) 1 dX11_meet_85 (by decide) ?_
      refine e_iload_n (pc := 86) dX11_meet_86 rfl rfl ?_
      refine e_aload_n (pc := 87) dX11_meet_87 rfl rfl ?_
      refine e_get (pc := 88) fl_X11_112 dX11_meet_88 (by repeat (first | assumption | exact hset_eq _ _ _ | (apply Lay.hd; assumption) | rw [hset_ne _ _ (by omega)])) (by rfl) ?_
      refine n_irem (pc := 91) dX11_meet_91 (by omega) (by omega) (by omega) ?_
      refine n_V (pc := 92) (c_X11_plus (a := 1) l2.1 l2.2.2.m3 ⟨b1, b2⟩ ⟨b3, b4⟩ (by decide) (show mul W (u / W.1 ^ W.2.1) (v - W.1 ^ W.2.1 * W.1 ^ W.2.1) < 2 ^ 31 by omega) (show u % W.1 ^ W.2.1 < 2 ^ 31 by omega)) bX11_plus q_i_X11_plus q_s_X11_plus q_m_X11_127 dX11_meet_92 rfl rfl (by repeat (first | assumption | exact hset_eq _ _ _ | (apply Lay.hd; assumption) | rw [hset_ne _ _ (by omega)])) rfl rfl (by exact Nat.le_of_ble_eq_true rfl) ⟨by show 5 + 1 ≤ d; omega, by exact Nat.le_of_ble_eq_true rfl⟩ ⟨rfl, rfl, Nat.zero_le _, Nat.zero_le _⟩ (fun z h3 hp => ?_)
      obtain ⟨rfl, p2, p3⟩ := hp
      rw [lp]
      refine n_iadd (pc := 95) dX11_meet_95 ?_
      exact n_iret (pc := 96) dX11_meet_96 rfl ⟨congrArg nI e, l2.fd p2 p3, d2.tr p3⟩
  · have e : W.1 ^ W.2.1 * W.1 ^ W.2.1 + u / W.1 ^ W.2.1 = mtP W u v := uni _ (by rw [hl]; omega) (by
      unfold OnP
      rw [if_pos (show W.o * W.o ≤ _ by rw [hO]; omega), if_neg (show ¬ W.o * W.o ≤ u by rw [hO]; omega), hO]
      omega) (by
      unfold OnP
      rw [if_pos (show W.o * W.o ≤ _ by rw [hO]; omega), if_pos (show W.o * W.o ≤ v by rw [hO]; omega)]
      exact Or.inr (by rw [hl]; omega))
    refine e_iload_n (pc := 49) dX11_meet_49 rfl rfl ?_
    refine e_iload_n (pc := 50) dX11_meet_50 rfl rfl ?_
    refine e_aload_n (pc := 51) dX11_meet_51 rfl rfl ?_
    refine e_get (pc := 52) fl_X11_112 dX11_meet_52 (by repeat (first | assumption | exact hset_eq _ _ _ | (apply Lay.hd; assumption) | rw [hset_ne _ _ (by omega)])) (by rfl) ?_
    refine n_idiv (pc := 55) dX11_meet_55 (by omega) (by omega) (by omega) ?_
    refine n_iadd (pc := 56) dX11_meet_56 ?_
    exact n_iret (pc := 57) dX11_meet_57 rfl ⟨congrArg nI e, hL, FdM.rf _ _⟩
theorem c_meet {u v : Nat} (hd : 9 ≤ d) (hL : Lay h m W s) (hk : Wok W) (hD : Div W) (hne : u ≠ v) (hu : u ≤ lastP W) (hv : v ≤ lastP W) : CI yX11_meet (mxm d) [.ref m, .int (nI u), .int (nI v)] h (fun z h' => z = nI (mtP W u v) ∧ Lay h' m W s ∧ FdM m h h') := by
  by_cases c : u < W.o * W.o
  · exact c_meet_lo (by omega) hL hk hD hne c hv
  obtain ⟨b1, b2, b3, b4, b5⟩ := hk.b
  have pos := hk.pos
  have qq : W.1 ^ W.2.1 * W.1 ^ W.2.1 ≤ 243 * 243 := Nat.mul_le_mul b5 b5
  have hO : W.o = W.1 ^ W.2.1 := rfl
  have hl : lastP W = W.1 ^ W.2.1 * W.1 ^ W.2.1 + W.1 ^ W.2.1 := rfl
  have uni : ∀ x, x ≤ lastP W → OnP W x u → OnP W x v → x = mtP W u v := fun x q1 q2 q3 => mtP_uni hk hD hne hu hv q1 q2 q3
  have hu' := hu
  have hv' := hv
  rw [hl] at hu hv
  rw [hO] at c
  refine CI.ofV (by decide) rfl rfl (by simp [Value.category]) (by exact Nat.le_of_ble_eq_true rfl) (fun sz => ?_)
  refine e_aload_n (pc := 0) dX11_meet_0 rfl rfl ?_
  refine e_get (pc := 1) fl_X11_112 dX11_meet_1 (by repeat (first | assumption | exact hset_eq _ _ _ | (apply Lay.hd; assumption) | rw [hset_ne _ _ (by omega)])) (by rfl) ?_
  refine e_aload_n (pc := 4) dX11_meet_4 rfl rfl ?_
  refine e_get (pc := 5) fl_X11_112 dX11_meet_5 (by repeat (first | assumption | exact hset_eq _ _ _ | (apply Lay.hd; assumption) | rw [hset_ne _ _ (by omega)])) (by rfl) ?_
  refine n_imul (pc := 8) dX11_meet_8 ?_
  refine e_istore_n (pc := 9) dX11_meet_9 rfl (by exact Nat.le_of_ble_eq_true rfl) ?_
  refine e_iload_n (pc := 10) dX11_meet_10 rfl rfl ?_
  refine e_iload_n (pc := 11) dX11_meet_11 rfl rfl ?_
  refine n_icmp_lt (pc := 12) (tgt := 27) dX11_meet_12 (by decide) (by omega) (by omega) (fun c => absurd c (by omega)) (fun hb_ => ?_)
  refine e_iload_n (pc := 15) dX11_meet_15 rfl rfl ?_
  refine e_iload_n (pc := 16) dX11_meet_16 rfl rfl ?_
  refine n_icmp_lt (pc := 17) (tgt := 27) dX11_meet_17 (by decide) (by omega) (by omega) (fun c2 => ?_) (fun c2 => ?_)
  · refine e_iload_n (pc := 27) dX11_meet_27 rfl rfl ?_
    refine e_iload_n (pc := 28) dX11_meet_28 rfl rfl ?_
    refine n_icmp_lt (pc := 29) (tgt := 39) dX11_meet_29 (by decide) (by omega) (by omega) (fun c => absurd c (by omega)) (fun hb_ => ?_)
    refine e_aload_n (pc := 32) dX11_meet_32 rfl rfl ?_
    refine e_iload_n (pc := 33) dX11_meet_33 rfl rfl ?_
    refine e_iload_n (pc := 34) dX11_meet_34 rfl rfl ?_
    refine n_V (pc := 35) (c_meet_lo (d := d - 1) (by omega) hL hk hD (Ne.symm hne) c2 hu') (bxm (d - 1)) q_i_X11_meet q_s_X11_meet q_m_X11_356 dX11_meet_35 rfl rfl (by apply Lay.hd; assumption) rfl rfl (by exact Nat.le_of_ble_eq_true rfl) ⟨by show d - 1 + 1 ≤ d; omega, by exact Nat.le_of_ble_eq_true rfl⟩ ⟨rfl, rfl, Nat.zero_le _, Nat.zero_le _⟩ (fun z h2 hp => ?_)
    obtain ⟨rfl, l2, d2⟩ := hp
    exact n_iret (pc := 38) dX11_meet_38 rfl ⟨by rw [mtP_comm], l2, d2⟩
  · have e : W.1 ^ W.2.1 * W.1 ^ W.2.1 + W.1 ^ W.2.1 = mtP W u v := uni _ (by rw [hl]; omega) (by
      unfold OnP
      rw [if_pos (show W.o * W.o ≤ _ by rw [hO]; omega), if_pos (show W.o * W.o ≤ u by rw [hO]; omega)]
      exact Or.inl hl.symm) (by
      unfold OnP
      rw [if_pos (show W.o * W.o ≤ _ by rw [hO]; omega), if_pos (show W.o * W.o ≤ v by rw [hO]; omega)]
      exact Or.inl hl.symm)
    refine e_iload_n (pc := 20) dX11_meet_20 rfl rfl ?_
    refine e_aload_n (pc := 21) dX11_meet_21 rfl rfl ?_
    refine e_get (pc := 22) fl_X11_112 dX11_meet_22 (by repeat (first | assumption | exact hset_eq _ _ _ | (apply Lay.hd; assumption) | rw [hset_ne _ _ (by omega)])) (by rfl) ?_
    refine n_iadd (pc := 25) dX11_meet_25 ?_
    exact n_iret (pc := 26) dX11_meet_26 rfl ⟨congrArg nI e, hL, FdM.rf _ _⟩
end MPM
