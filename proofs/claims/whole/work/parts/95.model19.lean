/-! ===== the reference: the plane ===== -/
theorem bl_1 {P : Prop} (h : P) : nI 1 = bI (bl P) := by rw [bl_t h]; rfl
theorem bl_0 {P : Prop} (h : ¬ P) : nI 0 = bI (bl P) := by rw [bl_f h]; rfl
section MPL
variable {h : AH} {m : Nat} {s : Ms} {W : Wd} {sz : Nat}
theorem FdM.rf' (m : Nat) (h : AH) : FdM m h h := FdM.rf m h
theorem c_X11_isOn {u v : Nat} (hL : Lay h m W s) (hk : Wok W) (hu : u ≤ lastP W) (hv : v ≤ lastP W) : CI yX11_isOn MX11_isOn [.ref m, .int (nI u), .int (nI v)] h (fun z h' => z = bI (bl (OnP W u v)) ∧ Lay h' m W s ∧ FdM m h h') := by
  obtain ⟨b1, b2, b3, b4, b5⟩ := hk.b
  have pos := hk.pos
  have hl : lastP W = W.1 ^ W.2.1 * W.1 ^ W.2.1 + W.1 ^ W.2.1 := rfl
  have qq : W.1 ^ W.2.1 * W.1 ^ W.2.1 ≤ 243 * 243 := Nat.mul_le_mul b5 b5
  have hO : W.o = W.1 ^ W.2.1 := rfl
  rw [hl] at hu hv
  have dv : ∀ a, a < W.1 ^ W.2.1 * W.1 ^ W.2.1 → a / W.1 ^ W.2.1 < W.1 ^ W.2.1 := fun a ha => Nat.div_lt_of_lt_mul ha
  have du := Nat.div_le_self u (W.1 ^ W.2.1)
  have dvv := Nat.div_le_self v (W.1 ^ W.2.1)
  refine CI.ofV (by decide) rfl rfl (by simp [Value.category]) (by exact Nat.le_of_ble_eq_true rfl) (fun sz => ?_)
  refine e_aload_n (pc := 0) dX11_isOn_0 rfl rfl ?_
  refine e_get (pc := 1) fl_X11_112 dX11_isOn_1 (by repeat (first | assumption | exact hset_eq _ _ _ | (apply Lay.hd; assumption) | rw [hset_ne _ _ (by omega)])) (by rfl) ?_
  refine e_aload_n (pc := 4) dX11_isOn_4 rfl rfl ?_
  refine e_get (pc := 5) fl_X11_112 dX11_isOn_5 (by repeat (first | assumption | exact hset_eq _ _ _ | (apply Lay.hd; assumption) | rw [hset_ne _ _ (by omega)])) (by rfl) ?_
  refine n_imul (pc := 8) dX11_isOn_8 ?_
  refine e_aload_n (pc := 9) dX11_isOn_9 rfl rfl ?_
  refine e_get (pc := 10) fl_X11_112 dX11_isOn_10 (by repeat (first | assumption | exact hset_eq _ _ _ | (apply Lay.hd; assumption) | rw [hset_ne _ _ (by omega)])) (by rfl) ?_
  refine n_iadd (pc := 13) dX11_isOn_13 ?_
  refine e_istore_n (pc := 14) dX11_isOn_14 rfl (by decide) ?_
  refine e_iload_n (pc := 15) dX11_isOn_15 rfl rfl ?_
  refine e_iload_n (pc := 16) dX11_isOn_16 rfl rfl ?_
  refine n_icmp_ne (pc := 17) (tgt := 39) dX11_isOn_17 (by decide) (by omega) (by omega) (fun c1 => ?_) (fun c1 => ?_)
  · refine e_iload_n (pc := 39) dX11_isOn_39 rfl rfl ?_
    refine e_aload_n (pc := 40) dX11_isOn_40 rfl rfl ?_
    refine e_get (pc := 41) fl_X11_112 dX11_isOn_41 (by repeat (first | assumption | exact hset_eq _ _ _ | (apply Lay.hd; assumption) | rw [hset_ne _ _ (by omega)])) (by rfl) ?_
    refine e_aload_n (pc := 44) dX11_isOn_44 rfl rfl ?_
    refine e_get (pc := 45) fl_X11_112 dX11_isOn_45 (by repeat (first | assumption | exact hset_eq _ _ _ | (apply Lay.hd; assumption) | rw [hset_ne _ _ (by omega)])) (by rfl) ?_
    refine n_imul (pc := 48) dX11_isOn_48 ?_
    refine n_icmp_lt (pc := 49) (tgt := 96) dX11_isOn_49 (by decide) (by omega) (by omega) (fun c2 => ?_) (fun c2 => ?_)
    · refine e_iload_n (pc := 96) dX11_isOn_96 rfl rfl ?_
      refine e_iload_n (pc := 97) dX11_isOn_97 rfl rfl ?_
      refine n_icmp_ne (pc := 98) (tgt := 103) dX11_isOn_98 (by decide) (by omega) (by omega) (fun c3 => ?_) (fun c3 => ?_)
      · refine e_iload_n (pc := 103) dX11_isOn_103 rfl rfl ?_
        refine e_aload_n (pc := 104) dX11_isOn_104 rfl rfl ?_
        refine e_get (pc := 105) fl_X11_112 dX11_isOn_105 (by repeat (first | assumption | exact hset_eq _ _ _ | (apply Lay.hd; assumption) | rw [hset_ne _ _ (by omega)])) (by rfl) ?_
        refine e_aload_n (pc := 108) dX11_isOn_108 rfl rfl ?_
        refine e_get (pc := 109) fl_X11_112 dX11_isOn_109 (by repeat (first | assumption | exact hset_eq _ _ _ | (apply Lay.hd; assumption) | rw [hset_ne _ _ (by omega)])) (by rfl) ?_
        refine n_imul (pc := 112) dX11_isOn_112 ?_
        refine n_icmp_lt (pc := 113) (tgt := 142) dX11_isOn_113 (by decide) (by omega) (by omega) (fun c4 => ?_) (fun c4 => ?_)
        · have r1 := dv u c2
          have r2 := dv v c4
          have mu := Nat.mod_lt u pos
          have mv := Nat.mod_lt v pos
          have ml := mul_lt hk (v / W.1 ^ W.2.1) (u / W.1 ^ W.2.1)
          refine e_iload_n (pc := 142) dX11_isOn_142 rfl rfl ?_
          refine e_aload_n (pc := 143) dX11_isOn_143 rfl rfl ?_
          refine e_get (pc := 144) fl_X11_112 dX11_isOn_144 (by repeat (first | assumption | exact hset_eq _ _ _ | (apply Lay.hd; assumption) | rw [hset_ne _ _ (by omega)])) (by rfl) ?_
          refine n_irem (pc := 147) dX11_isOn_147 (by omega) (by omega) (by omega) ?_
          refine e_aload_n (pc := 148) dX11_isOn_148 rfl rfl ?_
          refine e_aload_n (pc := 149) dX11_isOn_149 rfl rfl ?_
          refine e_iload_n (pc := 150) dX11_isOn_150 rfl rfl ?_
          refine e_aload_n (pc := 151) dX11_isOn_151 rfl rfl ?_
          refine e_get (pc := 152) fl_X11_112 dX11_isOn_152 (by repeat (first | assumption | exact hset_eq _ _ _ | (apply Lay.hd; assumption) | rw [hset_ne _ _ (by omega)])) (by rfl) ?_
          refine n_idiv (pc := 155) dX11_isOn_155 (by omega) (by omega) (by omega) ?_
          refine e_iload_n (pc := 156) dX11_isOn_156 rfl rfl ?_
          refine e_aload_n (pc := 157) dX11_isOn_157 rfl rfl ?_
          refine e_get (pc := 158) fl_X11_112 dX11_isOn_158 (by repeat (first | assumption | exact hset_eq _ _ _ | (apply Lay.hd; assumption) | rw [hset_ne _ _ (by omega)])) (by rfl) ?_
          refine n_idiv (pc := 161) dX11_isOn_161 (by omega) (by omega) (by omega) ?_
          refine n_V (pc := 162) (c_X11_times hL hk (show v / W.1 ^ W.2.1 < 2 ^ 31 by omega) (show u / W.1 ^ W.2.1 < 2 ^ 31 by omega)) bX11_times q_i_X11_times q_s_X11_times q_m_X11_266 dX11_isOn_162 rfl rfl (by repeat (first | assumption | exact hset_eq _ _ _ | (apply Lay.hd; assumption) | rw [hset_ne _ _ (by omega)])) rfl rfl (by exact Nat.le_of_ble_eq_true rfl) ⟨by decide, by decide⟩ ⟨rfl, rfl, Nat.zero_le _, Nat.zero_le _⟩ (fun z h2 hp => ?_)
          obtain ⟨rfl, l2, d2⟩ := hp
          refine n_iconst (pc := 165) 1 dX11_isOn_165 (by decide) ?_
          refine e_iload_n (pc := 166) dX11_isOn_166 rfl rfl ?_
          refine e_aload_n (pc := 167) dX11_isOn_167 rfl rfl ?_
          refine e_get (pc := 168) fl_X11_112 dX11_isOn_168 (by repeat (first | assumption | exact hset_eq _ _ _ | (apply Lay.hd; assumption) | rw [hset_ne _ _ (by omega)])) (by rfl) ?_
          refine n_irem (pc := 171) dX11_isOn_171 (by omega) (by omega) (by omega) ?_
          refine n_V (pc := 172) (c_X11_plus (a := 1) l2.1 l2.2.2.m3 ⟨b1, b2⟩ ⟨b3, b4⟩ (by decide) (show mul W (v / W.1 ^ W.2.1) (u / W.1 ^ W.2.1) < 2 ^ 31 by omega) (show v % W.1 ^ W.2.1 < 2 ^ 31 by omega)) bX11_plus q_i_X11_plus q_s_X11_plus q_m_X11_127 dX11_isOn_172 rfl rfl (by repeat (first | assumption | exact hset_eq _ _ _ | (apply Lay.hd; assumption) | rw [hset_ne _ _ (by omega)])) rfl rfl (by exact Nat.le_of_ble_eq_true rfl) ⟨by decide, by decide⟩ ⟨rfl, rfl, Nat.zero_le _, Nat.zero_le _⟩ (fun z h3 hp => ?_)
          obtain ⟨rfl, p1, p2⟩ := hp
          have l3 := l2.fd p1 p2
          rw [pl_ad (by omega) b4 ml mv]
          have al : ad W.1 (mul W (v / W.1 ^ W.2.1) (u / W.1 ^ W.2.1)) (v % W.1 ^ W.2.1) < W.1 ^ W.2.1 := ad_lt (by omega) b4 ml mv
          have e : OnP W u v ↔ u % W.1 ^ W.2.1 = ad W.1 (mul W (v / W.1 ^ W.2.1) (u / W.1 ^ W.2.1)) (v % W.1 ^ W.2.1) := by
            unfold OnP
            rw [if_neg (show ¬ W.o * W.o ≤ u by rw [hO]; omega), if_neg (show ¬ W.o * W.o ≤ v by rw [hO]; omega)]
            exact Iff.rfl
          refine n_icmp_ne (pc := 175) (tgt := 182) dX11_isOn_175 (by decide) (by omega) (by omega) (fun c5 => ?_) (fun c5 => ?_)
          · refine n_iconst (pc := 182) 0 dX11_isOn_182 (by decide) ?_
            exact n_zret (pc := 183) dX11_isOn_183 rfl rfl ⟨bl_0 (fun q => c5 (e.mp q)), l3, d2.tr p2⟩
          · refine n_iconst (pc := 178) 1 dX11_isOn_178 (by decide) ?_
            refine e_goto (pc := 179) (tgt := 183) dX11_isOn_179 (by decide) ?_
            exact n_zret (pc := 183) dX11_isOn_183 rfl rfl ⟨bl_1 (e.mpr c5), l3, d2.tr p2⟩
        · have e : OnP W u v ↔ v - W.1 ^ W.2.1 * W.1 ^ W.2.1 = u / W.1 ^ W.2.1 := by
            unfold OnP
            rw [if_neg (show ¬ W.o * W.o ≤ u by rw [hO]; omega), if_pos (show W.o * W.o ≤ v by rw [hO]; omega)]
          refine e_iload_n (pc := 116) dX11_isOn_116 rfl rfl ?_
          refine e_aload_n (pc := 117) dX11_isOn_117 rfl rfl ?_
          refine e_get (pc := 118) fl_X11_112 dX11_isOn_118 (by repeat (first | assumption | exact hset_eq _ _ _ | (apply Lay.hd; assumption) | rw [hset_ne _ _ (by omega)])) (by rfl) ?_
          refine n_idiv (pc := 121) dX11_isOn_121 (by omega) (by omega) (by omega) ?_
          refine e_iload_n (pc := 122) dX11_isOn_122 rfl rfl ?_
          refine e_aload_n (pc := 123) dX11_isOn_123 rfl rfl ?_
          refine e_get (pc := 124) fl_X11_112 dX11_isOn_124 (by repeat (first | assumption | exact hset_eq _ _ _ | (apply Lay.hd; assumption) | rw [hset_ne _ _ (by omega)])) (by rfl) ?_
          refine e_aload_n (pc := 127) dX11_isOn_127 rfl rfl ?_
          refine e_get (pc := 128) fl_X11_112 dX11_isOn_128 (by repeat (first | assumption | exact hset_eq _ _ _ | (apply Lay.hd; assumption) | rw [hset_ne _ _ (by omega)])) (by rfl) ?_
          refine n_imul (pc := 131) dX11_isOn_131 ?_
          refine n_isub (pc := 132) dX11_isOn_132 (by omega) ?_
          refine n_icmp_ne (pc := 133) (tgt := 140) dX11_isOn_133 (by decide) (by omega) (by omega) (fun c5 => ?_) (fun c5 => ?_)
          · refine n_iconst (pc := 140) 0 dX11_isOn_140 (by decide) ?_
            exact n_zret (pc := 141) dX11_isOn_141 rfl rfl ⟨bl_0 (fun q => c5 (e.mp q).symm), hL, FdM.rf _ _⟩
          · refine n_iconst (pc := 136) 1 dX11_isOn_136 (by decide) ?_
            refine e_goto (pc := 137) (tgt := 141) dX11_isOn_137 (by decide) ?_
            exact n_zret (pc := 141) dX11_isOn_141 rfl rfl ⟨bl_1 (e.mpr c5.symm), hL, FdM.rf _ _⟩
      · have r1 := dv u c2
        have e : ¬ OnP W u v := by
          unfold OnP
          rw [if_neg (show ¬ W.o * W.o ≤ u by rw [hO]; omega), if_pos (show W.o * W.o ≤ v by rw [hO]; omega), hO]
          omega
        refine n_iconst (pc := 101) 0 dX11_isOn_101 (by decide) ?_
        exact n_zret (pc := 102) dX11_isOn_102 rfl rfl ⟨bl_0 e, hL, FdM.rf _ _⟩
    · refine e_iload_n (pc := 52) dX11_isOn_52 rfl rfl ?_
      refine e_iload_n (pc := 53) dX11_isOn_53 rfl rfl ?_
      refine n_icmp_eq (pc := 54) (tgt := 90) dX11_isOn_54 (by decide) (by omega) (by omega) (fun c3 => ?_) (fun c3 => ?_)
      · have e : OnP W u v := by
          unfold OnP
          rw [if_pos (show W.o * W.o ≤ u by rw [hO]; omega), if_pos (show W.o * W.o ≤ v by rw [hO]; omega)]
          exact Or.inr (by rw [hl]; exact c3)
        refine n_iconst (pc := 90) 1 dX11_isOn_90 (by decide) ?_
        refine e_goto (pc := 91) (tgt := 95) dX11_isOn_91 (by decide) ?_
        exact n_zret (pc := 95) dX11_isOn_95 rfl rfl ⟨bl_1 e, hL, FdM.rf _ _⟩
      · refine e_iload_n (pc := 57) dX11_isOn_57 rfl rfl ?_
        refine e_aload_n (pc := 58) dX11_isOn_58 rfl rfl ?_
        refine e_get (pc := 59) fl_X11_112 dX11_isOn_59 (by repeat (first | assumption | exact hset_eq _ _ _ | (apply Lay.hd; assumption) | rw [hset_ne _ _ (by omega)])) (by rfl) ?_
        refine e_aload_n (pc := 62) dX11_isOn_62 rfl rfl ?_
        refine e_get (pc := 63) fl_X11_112 dX11_isOn_63 (by repeat (first | assumption | exact hset_eq _ _ _ | (apply Lay.hd; assumption) | rw [hset_ne _ _ (by omega)])) (by rfl) ?_
        refine n_imul (pc := 66) dX11_isOn_66 ?_
        refine n_icmp_ge (pc := 67) (tgt := 94) dX11_isOn_67 (by decide) (by omega) (by omega) (fun c4 => ?_) (fun c4 => ?_)
        · have e : ¬ OnP W u v := by
            unfold OnP
            rw [if_pos (show W.o * W.o ≤ u by rw [hO]; omega), if_pos (show W.o * W.o ≤ v by rw [hO]; omega), hl]
            omega
          refine n_iconst (pc := 94) 0 dX11_isOn_94 (by decide) ?_
          exact n_zret (pc := 95) dX11_isOn_95 rfl rfl ⟨bl_0 e, hL, FdM.rf _ _⟩
        · have e : OnP W u v ↔ u - W.1 ^ W.2.1 * W.1 ^ W.2.1 = v / W.1 ^ W.2.1 := by
            unfold OnP
            rw [if_pos (show W.o * W.o ≤ u by rw [hO]; omega), if_neg (show ¬ W.o * W.o ≤ v by rw [hO]; omega)]
          refine e_iload_n (pc := 70) dX11_isOn_70 rfl rfl ?_
          refine e_aload_n (pc := 71) dX11_isOn_71 rfl rfl ?_
          refine e_get (pc := 72) fl_X11_112 dX11_isOn_72 (by repeat (first | assumption | exact hset_eq _ _ _ | (apply Lay.hd; assumption) | rw [hset_ne _ _ (by omega)])) (by rfl) ?_
          refine n_idiv (pc := 75) dX11_isOn_75 (by omega) (by omega) (by omega) ?_
          refine e_iload_n (pc := 76) dX11_isOn_76 rfl rfl ?_
          refine e_aload_n (pc := 77) dX11_isOn_77 rfl rfl ?_
          refine e_get (pc := 78) fl_X11_112 dX11_isOn_78 (by repeat (first | assumption | exact hset_eq _ _ _ | (apply Lay.hd; assumption) | rw [hset_ne _ _ (by omega)])) (by rfl) ?_
          refine e_aload_n (pc := 81) dX11_isOn_81 rfl rfl ?_
          refine e_get (pc := 82) fl_X11_112 dX11_isOn_82 (by repeat (first | assumption | exact hset_eq _ _ _ | (apply Lay.hd; assumption) | rw [hset_ne _ _ (by omega)])) (by rfl) ?_
          refine n_imul (pc := 85) dX11_isOn_85 ?_
          refine n_isub (pc := 86) dX11_isOn_86 (by omega) ?_
          refine n_icmp_ne (pc := 87) (tgt := 94) dX11_isOn_87 (by decide) (by omega) (by omega) (fun c5 => ?_) (fun c5 => ?_)
          · refine n_iconst (pc := 94) 0 dX11_isOn_94 (by decide) ?_
            exact n_zret (pc := 95) dX11_isOn_95 rfl rfl ⟨bl_0 (fun q => c5 (e.mp q).symm), hL, FdM.rf _ _⟩
          · refine n_iconst (pc := 90) 1 dX11_isOn_90 (by decide) ?_
            refine e_goto (pc := 91) (tgt := 95) dX11_isOn_91 (by decide) ?_
            exact n_zret (pc := 95) dX11_isOn_95 rfl rfl ⟨bl_1 (e.mpr c5.symm), hL, FdM.rf _ _⟩
  · refine e_iload_n (pc := 20) dX11_isOn_20 rfl rfl ?_
    refine e_aload_n (pc := 21) dX11_isOn_21 rfl rfl ?_
    refine e_get (pc := 22) fl_X11_112 dX11_isOn_22 (by repeat (first | assumption | exact hset_eq _ _ _ | (apply Lay.hd; assumption) | rw [hset_ne _ _ (by omega)])) (by rfl) ?_
    refine e_aload_n (pc := 25) dX11_isOn_25 rfl rfl ?_
    refine e_get (pc := 26) fl_X11_112 dX11_isOn_26 (by repeat (first | assumption | exact hset_eq _ _ _ | (apply Lay.hd; assumption) | rw [hset_ne _ _ (by omega)])) (by rfl) ?_
    refine n_imul (pc := 29) dX11_isOn_29 ?_
    refine n_icmp_lt (pc := 30) (tgt := 37) dX11_isOn_30 (by decide) (by omega) (by omega) (fun c2 => ?_) (fun c2 => ?_)
    · have r2 := dv v c2
      have e : ¬ OnP W u v := by
        unfold OnP
        rw [if_pos (show W.o * W.o ≤ u by rw [hO]; omega), if_neg (show ¬ W.o * W.o ≤ v by rw [hO]; omega), hO]
        omega
      refine n_iconst (pc := 37) 0 dX11_isOn_37 (by decide) ?_
      exact n_zret (pc := 38) dX11_isOn_38 rfl rfl ⟨bl_0 e, hL, FdM.rf _ _⟩
    · have e : OnP W u v := by
        unfold OnP
        rw [if_pos (show W.o * W.o ≤ u by rw [hO]; omega), if_pos (show W.o * W.o ≤ v by rw [hO]; omega)]
        exact Or.inl (by rw [hl]; omega)
      refine n_iconst (pc := 33) 1 dX11_isOn_33 (by decide) ?_
      refine e_goto (pc := 34) (tgt := 38) dX11_isOn_34 (by decide) ?_
      exact n_zret (pc := 38) dX11_isOn_38 rfl rfl ⟨bl_1 e, hL, FdM.rf _ _⟩
theorem c_X11_lineBy {k u : Nat} (hL : Lay h m W s) (hk : Wok W) (hkk : k < W.o) (hu : u < W.o * W.o) : CI yX11_lineBy MX11_lineBy [.ref m, .int (nI k), .int (nI u)] h (fun z h' => z = nI (thr W k u) ∧ Lay h' m W s ∧ FdM m h h') := by
  obtain ⟨b1, b2, b3, b4, b5⟩ := hk.b
  have pos := hk.pos
  have qq : W.1 ^ W.2.1 * W.1 ^ W.2.1 ≤ 243 * 243 := Nat.mul_le_mul b5 b5
  have hu : u < W.1 ^ W.2.1 * W.1 ^ W.2.1 := hu
  have hkk : k < W.1 ^ W.2.1 := hkk
  have r1 : u / W.1 ^ W.2.1 < W.1 ^ W.2.1 := Nat.div_lt_of_lt_mul hu
  have mu := Nat.mod_lt u pos
  have ml := mul_lt hk k (u / W.1 ^ W.2.1)
  refine CI.ofV (by decide) rfl rfl (by simp [Value.category]) (by exact Nat.le_of_ble_eq_true rfl) (fun sz => ?_)
  refine e_aload_n (pc := 0) dX11_lineBy_0 rfl rfl ?_
  refine e_get (pc := 1) fl_X11_112 dX11_lineBy_1 (by repeat (first | assumption | exact hset_eq _ _ _ | (apply Lay.hd; assumption) | rw [hset_ne _ _ (by omega)])) (by rfl) ?_
  refine e_iload_n (pc := 4) dX11_lineBy_4 rfl rfl ?_
  refine n_imul (pc := 5) dX11_lineBy_5 ?_
  refine e_aload_n (pc := 6) dX11_lineBy_6 rfl rfl ?_
  refine e_iload_n (pc := 7) dX11_lineBy_7 rfl rfl ?_
  refine e_aload_n (pc := 8) dX11_lineBy_8 rfl rfl ?_
  refine e_get (pc := 9) fl_X11_112 dX11_lineBy_9 (by repeat (first | assumption | exact hset_eq _ _ _ | (apply Lay.hd; assumption) | rw [hset_ne _ _ (by omega)])) (by rfl) ?_
  refine n_irem (pc := 12) dX11_lineBy_12 (by omega) (by omega) (by omega) ?_
  refine e_aload_n (pc := 13) dX11_lineBy_13 rfl rfl ?_
  refine e_iload_n (pc := 14) dX11_lineBy_14 rfl rfl ?_
  refine e_iload_n (pc := 15) dX11_lineBy_15 rfl rfl ?_
  refine e_aload_n (pc := 16) dX11_lineBy_16 rfl rfl ?_
  refine e_get (pc := 17) fl_X11_112 dX11_lineBy_17 (by repeat (first | assumption | exact hset_eq _ _ _ | (apply Lay.hd; assumption) | rw [hset_ne _ _ (by omega)])) (by rfl) ?_
  refine n_idiv (pc := 20) dX11_lineBy_20 (by omega) (by omega) (by omega) ?_
  refine n_V (pc := 21) (c_X11_times hL hk (show k < 2 ^ 31 by omega) (show u / W.1 ^ W.2.1 < 2 ^ 31 by omega)) bX11_times q_i_X11_times q_s_X11_times q_m_X11_266 dX11_lineBy_21 rfl rfl (by repeat (first | assumption | exact hset_eq _ _ _ | (apply Lay.hd; assumption) | rw [hset_ne _ _ (by omega)])) rfl rfl (by exact Nat.le_of_ble_eq_true rfl) ⟨by decide, by decide⟩ ⟨rfl, rfl, Nat.zero_le _, Nat.zero_le _⟩ (fun z h2 hp => ?_)
  obtain ⟨rfl, l2, d2⟩ := hp
  refine n_V (pc := 24) (c_X11_minus l2.1 l2.2.2.m3 ⟨b1, b2⟩ ⟨b3, b4⟩ mu ml) bX11_minus q_i_X11_minus q_s_X11_minus q_m_X11_229 dX11_lineBy_24 rfl rfl (by repeat (first | assumption | exact hset_eq _ _ _ | (apply Lay.hd; assumption) | rw [hset_ne _ _ (by omega)])) rfl rfl (by exact Nat.le_of_ble_eq_true rfl) ⟨by decide, by decide⟩ ⟨rfl, rfl, Nat.zero_le _, Nat.zero_le _⟩ (fun z h3 hp => ?_)
  obtain ⟨rfl, p1, p2⟩ := hp
  refine n_iadd (pc := 27) dX11_lineBy_27 ?_
  exact n_iret (pc := 28) dX11_lineBy_28 rfl ⟨rfl, l2.fd p1 p2, d2.tr p2⟩
end MPL
