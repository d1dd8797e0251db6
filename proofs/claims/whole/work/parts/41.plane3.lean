/-! ===== Plane: diagonals ===== -/
def Tri (W : Wd) (a b c : Nat) : Prop := a ≠ b ∧ a ≠ c ∧ b ≠ c ∧ ¬ OnP W c (jnP W a b)
def Quad (W : Wd) (a b c d : Nat) : Prop := Tri W a b c ∧ Tri W a b d ∧ Tri W a c d ∧ Tri W b c d
def Fano (W : Wd) (a b c d z : Int32) : Prop := ((okI a (lastP W + 1) && okI b (lastP W + 1) && okI c (lastP W + 1) && okI d (lastP W + 1)) = false ∧ z = -1) ∨ ∃ a' b' c' d', a = nI a' ∧ b = nI b' ∧ c = nI c' ∧ d = nI d' ∧ a' ≤ lastP W ∧ b' ≤ lastP W ∧ c' ≤ lastP W ∧ d' ≤ lastP W ∧ ((¬ Quad W a' b' c' d' ∧ z = -1) ∨ (Quad W a' b' c' d' ∧ isB z (¬ Tri W (mtP W (jnP W a' b') (jnP W c' d')) (mtP W (jnP W a' c') (jnP W b' d')) (mtP W (jnP W a' d') (jnP W b' c')))))
section PC
variable {h : AH} {E o : Nat} {W : Wd} {f : Int32}
theorem c_X3_isTriangle {a b c : Nat} (hP : PSh h E) (hW : WAt h o W f) (hk : Wok W) (hD : Div W) (ha : a ≤ lastP W) (hb : b ≤ lastP W) (hc : c ≤ lastP W) (d : o + 3 ≤ E ∨ E + 90 ≤ o) : CI yX3_isTriangle MX3_isTriangle [.ref (E + 89), .ref o, .int (nI a), .int (nI b), .int (nI c)] h (fun z h' => isB z (Tri W a b c) ∧ PSh h' E ∧ WAt h' o W f ∧ Ft E o h h') := by
  have q := qq_le hk
  obtain ⟨-, t0⟩ := id hP
  refine CI.ofV (by decide) rfl rfl (by simp [Value.category]) (by exact Nat.le_of_ble_eq_true rfl) (fun sz => ?_)
  refine e_iload_n (pc := 0) dX3_isTriangle_0 rfl rfl ?_
  refine e_iload_n (pc := 1) dX3_isTriangle_1 rfl rfl ?_
  refine n_icmp_eq (pc := 2) (tgt := 38) dX3_isTriangle_2 (by decide) (by omega) (by omega) (fun c1 => ?_) (fun c1 => ?_)
  · refine n_iconst (pc := 38) 0 dX3_isTriangle_38 (by decide) ?_
    exact n_zret (pc := 39) dX3_isTriangle_39 rfl rfl ⟨Or.inr ⟨fun z => z.1 c1, rfl⟩, hP, hW, Ft.rf E o h⟩
  refine e_iload_n (pc := 5) dX3_isTriangle_5 rfl rfl ?_
  refine e_iload (pc := 6) dX3_isTriangle_6 rfl ?_
  refine n_icmp_eq (pc := 8) (tgt := 38) dX3_isTriangle_8 (by decide) (by omega) (by omega) (fun c2 => ?_) (fun c2 => ?_)
  · refine n_iconst (pc := 38) 0 dX3_isTriangle_38 (by decide) ?_
    exact n_zret (pc := 39) dX3_isTriangle_39 rfl rfl ⟨Or.inr ⟨fun z => z.2.1 c2, rfl⟩, hP, hW, Ft.rf E o h⟩
  refine e_iload_n (pc := 11) dX3_isTriangle_11 rfl rfl ?_
  refine e_iload (pc := 12) dX3_isTriangle_12 rfl ?_
  refine n_icmp_eq (pc := 14) (tgt := 38) dX3_isTriangle_14 (by decide) (by omega) (by omega) (fun c3 => ?_) (fun c3 => ?_)
  · refine n_iconst (pc := 38) 0 dX3_isTriangle_38 (by decide) ?_
    exact n_zret (pc := 39) dX3_isTriangle_39 rfl rfl ⟨Or.inr ⟨fun z => z.2.2.1 c3, rfl⟩, hP, hW, Ft.rf E o h⟩
  refine e_aload_n (pc := 17) dX3_isTriangle_17 rfl rfl ?_
  refine e_aload_n (pc := 18) dX3_isTriangle_18 rfl rfl ?_
  refine e_iload (pc := 19) dX3_isTriangle_19 rfl ?_
  refine e_aload_n (pc := 21) dX3_isTriangle_21 rfl rfl ?_
  refine e_aload_n (pc := 22) dX3_isTriangle_22 rfl rfl ?_
  refine e_iload_n (pc := 23) dX3_isTriangle_23 rfl rfl ?_
  refine e_iload_n (pc := 24) dX3_isTriangle_24 rfl rfl ?_
  refine n_V (pc := 25) (c_X3_join hP hW hk hD ha hb d) bX3_join q_i_X3_join q_s_X3_join q_m_X3_62 dX3_isTriangle_25 rfl rfl (by repeat (first | assumption | exact hset_eq _ _ _ | rw [hset_ne _ _ (by omega)])) rfl rfl (by exact Nat.le_of_ble_eq_true rfl) ⟨by decide, by decide⟩ ⟨rfl, rfl, Nat.zero_le _, Nat.zero_le _⟩ (fun z h2 hp => ?_)
  obtain ⟨rfl, p1, p2, p3⟩ := hp
  obtain ⟨-, t0⟩ := id p1
  refine n_V (pc := 28) (c_X3_isOn p1 p2 hk hc (jnP_on hk hD c1 ha hb).2.2) bX3_isOn q_i_X3_isOn q_s_X3_isOn q_m_X3_65 dX3_isTriangle_28 rfl rfl (by repeat (first | assumption | exact hset_eq _ _ _ | rw [hset_ne _ _ (by omega)])) rfl rfl (by exact Nat.le_of_ble_eq_true rfl) ⟨by decide, by decide⟩ ⟨rfl, rfl, Nat.zero_le _, Nat.zero_le _⟩ (fun z h3 hp => ?_)
  obtain ⟨p4, p5, p6⟩ := hp
  have hP3 := p1.es p6 d
  rcases p4 with ⟨q1, rfl⟩ | ⟨q1, rfl⟩
  · refine e_if_ne (pc := 31) (tgt := 38) dX3_isTriangle_31 (by decide) (fun _ => ?_) (fun q => absurd q (by decide))
    refine n_iconst (pc := 38) 0 dX3_isTriangle_38 (by decide) ?_
    exact n_zret (pc := 39) dX3_isTriangle_39 rfl rfl ⟨Or.inr ⟨fun z => z.2.2.2 q1, rfl⟩, hP3, p5, p3.tr p6.ft⟩
  · refine e_if_ne (pc := 31) (tgt := 38) dX3_isTriangle_31 (by decide) (fun q => absurd rfl q) (fun _ => ?_)
    refine n_iconst (pc := 34) 1 dX3_isTriangle_34 (by decide) ?_
    refine e_goto (pc := 35) (tgt := 39) dX3_isTriangle_35 (by decide) ?_
    exact n_zret (pc := 39) dX3_isTriangle_39 rfl rfl ⟨Or.inl ⟨⟨c1, c2, c3, q1⟩, rfl⟩, hP3, p5, p3.tr p6.ft⟩
theorem l_diag {sz a b c d : Nat} {hh : AH} (hP : PSh h E) (hW : WAt h o W f) (hk : Wok W) (hD : Div W) (ha : a ≤ lastP W) (hb : b ≤ lastP W) (hc : c ≤ lastP W) (hd : d ≤ lastP W) (dd : o + 3 ≤ E ∨ E + 90 ≤ o) (he : Ft E o hh h) {Pr : Int32 → AH → Prop} (hq : Quad W a b c d)
    (kk : ∀ z h', isB z (¬ Tri W (mtP W (jnP W a b) (jnP W c d)) (mtP W (jnP W a c) (jnP W b d)) (mtP W (jnP W a d) (jnP W b c))) → PSh h' E → WAt h' o W f → Ft E o hh h' → Pr z h') :
    VI MX3_diagonals sz Pr h 94 [some (.ref (E + 89)), some (.ref o), some (.int (nI a)), some (.int (nI b)), some (.int (nI c)), some (.int (nI d)), none, none, none] [] := by
  have q := qq_le hk
  obtain ⟨⟨ab, ac, bc, t1⟩, ⟨-, ad', bd, t2⟩, ⟨-, -, cd, t3⟩, ⟨-, -, -, t4⟩⟩ := hq
  obtain ⟨x1, x2, x3⟩ := jnP_on hk hD ab ha hb
  obtain ⟨y1, y2, y3⟩ := jnP_on hk hD cd hc hd
  obtain ⟨x4, x5, x6⟩ := jnP_on hk hD ac ha hc
  obtain ⟨y4, y5, y6⟩ := jnP_on hk hD bd hb hd
  obtain ⟨x7, x8, x9⟩ := jnP_on hk hD ad' ha hd
  obtain ⟨y7, y8, y9⟩ := jnP_on hk hD bc hb hc
  have n1 : jnP W a b ≠ jnP W c d := fun e => t1 (by rw [e]; exact y1)
  have n2 : jnP W a c ≠ jnP W b d := fun e => t3 (by rw [e]; exact y5)
  have n3 : jnP W a d ≠ jnP W b c := fun e => t4 (by rw [← e]; exact x8)
  have z1 := (mtP_on hk hD n1 x3 y3).2.2
  have z2 := (mtP_on hk hD n2 x6 y6).2.2
  have z3 := (mtP_on hk hD n3 x9 y9).2.2
  obtain ⟨-, t0⟩ := id hP
  refine e_aload_n (pc := 94) dX3_diagonals_94 rfl rfl ?_
  refine e_aload_n (pc := 95) dX3_diagonals_95 rfl rfl ?_
  refine e_aload_n (pc := 96) dX3_diagonals_96 rfl rfl ?_
  refine e_aload_n (pc := 97) dX3_diagonals_97 rfl rfl ?_
  refine e_iload_n (pc := 98) dX3_diagonals_98 rfl rfl ?_
  refine e_iload_n (pc := 99) dX3_diagonals_99 rfl rfl ?_
  refine n_V (pc := 100) (c_X3_join hP hW hk hD ha hb dd) bX3_join q_i_X3_join q_s_X3_join q_m_X3_62 dX3_diagonals_100 rfl rfl (by repeat (first | assumption | exact hset_eq _ _ _ | rw [hset_ne _ _ (by omega)])) rfl rfl (by exact Nat.le_of_ble_eq_true rfl) ⟨by decide, by decide⟩ ⟨rfl, rfl, Nat.zero_le _, Nat.zero_le _⟩ (fun z h2 hp => ?_)
  obtain ⟨rfl, p1, p2, p3⟩ := hp
  obtain ⟨-, t0⟩ := id p1
  refine e_aload_n (pc := 103) dX3_diagonals_103 rfl rfl ?_
  refine e_aload_n (pc := 104) dX3_diagonals_104 rfl rfl ?_
  refine e_iload (pc := 105) dX3_diagonals_105 rfl ?_
  refine e_iload (pc := 107) dX3_diagonals_107 rfl ?_
  refine n_V (pc := 109) (c_X3_join p1 p2 hk hD hc hd dd) bX3_join q_i_X3_join q_s_X3_join q_m_X3_62 dX3_diagonals_109 rfl rfl (by repeat (first | assumption | exact hset_eq _ _ _ | rw [hset_ne _ _ (by omega)])) rfl rfl (by exact Nat.le_of_ble_eq_true rfl) ⟨by decide, by decide⟩ ⟨rfl, rfl, Nat.zero_le _, Nat.zero_le _⟩ (fun z h3 hp => ?_)
  obtain ⟨rfl, p4, p5, p6⟩ := hp
  obtain ⟨-, t0⟩ := id p4
  refine n_V (pc := 112) (c_X3_meet p4 p5 hk hD x3 y3 dd) bX3_meet q_i_X3_meet q_s_X3_meet q_m_X3_77 dX3_diagonals_112 rfl rfl (by repeat (first | assumption | exact hset_eq _ _ _ | rw [hset_ne _ _ (by omega)])) rfl rfl (by exact Nat.le_of_ble_eq_true rfl) ⟨by decide, by decide⟩ ⟨rfl, rfl, Nat.zero_le _, Nat.zero_le _⟩ (fun z h4 hp => ?_)
  obtain ⟨rfl, p7, p8, p9⟩ := hp
  obtain ⟨-, t0⟩ := id p7
  refine e_istore (pc := 115) dX3_diagonals_115 (by decide) ?_
  refine e_aload_n (pc := 117) dX3_diagonals_117 rfl rfl ?_
  refine e_aload_n (pc := 118) dX3_diagonals_118 rfl rfl ?_
  refine e_aload_n (pc := 119) dX3_diagonals_119 rfl rfl ?_
  refine e_aload_n (pc := 120) dX3_diagonals_120 rfl rfl ?_
  refine e_iload_n (pc := 121) dX3_diagonals_121 rfl rfl ?_
  refine e_iload (pc := 122) dX3_diagonals_122 rfl ?_
  refine n_V (pc := 124) (c_X3_join p7 p8 hk hD ha hc dd) bX3_join q_i_X3_join q_s_X3_join q_m_X3_62 dX3_diagonals_124 rfl rfl (by repeat (first | assumption | exact hset_eq _ _ _ | rw [hset_ne _ _ (by omega)])) rfl rfl (by exact Nat.le_of_ble_eq_true rfl) ⟨by decide, by decide⟩ ⟨rfl, rfl, Nat.zero_le _, Nat.zero_le _⟩ (fun z h5 hp => ?_)
  obtain ⟨rfl, r1, r2, r3⟩ := hp
  obtain ⟨-, t0⟩ := id r1
  refine e_aload_n (pc := 127) dX3_diagonals_127 rfl rfl ?_
  refine e_aload_n (pc := 128) dX3_diagonals_128 rfl rfl ?_
  refine e_iload_n (pc := 129) dX3_diagonals_129 rfl rfl ?_
  refine e_iload (pc := 130) dX3_diagonals_130 rfl ?_
  refine n_V (pc := 132) (c_X3_join r1 r2 hk hD hb hd dd) bX3_join q_i_X3_join q_s_X3_join q_m_X3_62 dX3_diagonals_132 rfl rfl (by repeat (first | assumption | exact hset_eq _ _ _ | rw [hset_ne _ _ (by omega)])) rfl rfl (by exact Nat.le_of_ble_eq_true rfl) ⟨by decide, by decide⟩ ⟨rfl, rfl, Nat.zero_le _, Nat.zero_le _⟩ (fun z h6 hp => ?_)
  obtain ⟨rfl, r4, r5, r6⟩ := hp
  obtain ⟨-, t0⟩ := id r4
  refine n_V (pc := 135) (c_X3_meet r4 r5 hk hD x6 y6 dd) bX3_meet q_i_X3_meet q_s_X3_meet q_m_X3_77 dX3_diagonals_135 rfl rfl (by repeat (first | assumption | exact hset_eq _ _ _ | rw [hset_ne _ _ (by omega)])) rfl rfl (by exact Nat.le_of_ble_eq_true rfl) ⟨by decide, by decide⟩ ⟨rfl, rfl, Nat.zero_le _, Nat.zero_le _⟩ (fun z h7 hp => ?_)
  obtain ⟨rfl, r7, r8, r9⟩ := hp
  obtain ⟨-, t0⟩ := id r7
  refine e_istore (pc := 138) dX3_diagonals_138 (by decide) ?_
  refine e_aload_n (pc := 140) dX3_diagonals_140 rfl rfl ?_
  refine e_aload_n (pc := 141) dX3_diagonals_141 rfl rfl ?_
  refine e_aload_n (pc := 142) dX3_diagonals_142 rfl rfl ?_
  refine e_aload_n (pc := 143) dX3_diagonals_143 rfl rfl ?_
  refine e_iload_n (pc := 144) dX3_diagonals_144 rfl rfl ?_
  refine e_iload (pc := 145) dX3_diagonals_145 rfl ?_
  refine n_V (pc := 147) (c_X3_join r7 r8 hk hD ha hd dd) bX3_join q_i_X3_join q_s_X3_join q_m_X3_62 dX3_diagonals_147 rfl rfl (by repeat (first | assumption | exact hset_eq _ _ _ | rw [hset_ne _ _ (by omega)])) rfl rfl (by exact Nat.le_of_ble_eq_true rfl) ⟨by decide, by decide⟩ ⟨rfl, rfl, Nat.zero_le _, Nat.zero_le _⟩ (fun z h8 hp => ?_)
  obtain ⟨rfl, s1, s2, s3⟩ := hp
  obtain ⟨-, t0⟩ := id s1
  refine e_aload_n (pc := 150) dX3_diagonals_150 rfl rfl ?_
  refine e_aload_n (pc := 151) dX3_diagonals_151 rfl rfl ?_
  refine e_iload_n (pc := 152) dX3_diagonals_152 rfl rfl ?_
  refine e_iload (pc := 153) dX3_diagonals_153 rfl ?_
  refine n_V (pc := 155) (c_X3_join s1 s2 hk hD hb hc dd) bX3_join q_i_X3_join q_s_X3_join q_m_X3_62 dX3_diagonals_155 rfl rfl (by repeat (first | assumption | exact hset_eq _ _ _ | rw [hset_ne _ _ (by omega)])) rfl rfl (by exact Nat.le_of_ble_eq_true rfl) ⟨by decide, by decide⟩ ⟨rfl, rfl, Nat.zero_le _, Nat.zero_le _⟩ (fun z h9 hp => ?_)
  obtain ⟨rfl, s4, s5, s6⟩ := hp
  obtain ⟨-, t0⟩ := id s4
  refine n_V (pc := 158) (c_X3_meet s4 s5 hk hD x9 y9 dd) bX3_meet q_i_X3_meet q_s_X3_meet q_m_X3_77 dX3_diagonals_158 rfl rfl (by repeat (first | assumption | exact hset_eq _ _ _ | rw [hset_ne _ _ (by omega)])) rfl rfl (by exact Nat.le_of_ble_eq_true rfl) ⟨by decide, by decide⟩ ⟨rfl, rfl, Nat.zero_le _, Nat.zero_le _⟩ (fun z h10 hp => ?_)
  obtain ⟨rfl, s7, s8, s9⟩ := hp
  obtain ⟨-, t0⟩ := id s7
  refine e_istore (pc := 161) dX3_diagonals_161 (by decide) ?_
  refine e_aload_n (pc := 163) dX3_diagonals_163 rfl rfl ?_
  refine e_aload_n (pc := 164) dX3_diagonals_164 rfl rfl ?_
  refine e_iload (pc := 165) dX3_diagonals_165 rfl ?_
  refine e_iload (pc := 167) dX3_diagonals_167 rfl ?_
  refine e_iload (pc := 169) dX3_diagonals_169 rfl ?_
  refine n_V (pc := 171) (c_X3_isTriangle s7 s8 hk hD z1 z2 z3 dd) bX3_isTriangle q_i_X3_isTriangle q_s_X3_isTriangle q_m_X3_73 dX3_diagonals_171 rfl rfl (by repeat (first | assumption | exact hset_eq _ _ _ | rw [hset_ne _ _ (by omega)])) rfl rfl (by exact Nat.le_of_ble_eq_true rfl) ⟨by decide, by decide⟩ ⟨rfl, rfl, Nat.zero_le _, Nat.zero_le _⟩ (fun z h11 hp => ?_)
  obtain ⟨u1, u2, u3, u4⟩ := hp
  have hfr : Ft E o hh h11 := he.tr (p3.tr (p6.tr (p9.tr (r3.tr (r6.tr (r9.tr (s3.tr (s6.tr (s9.tr u4)))))))))
  rcases u1 with ⟨q1, rfl⟩ | ⟨q1, rfl⟩
  · refine e_if_eq (pc := 174) (tgt := 181) dX3_diagonals_174 (by decide) (fun q => absurd q (by decide)) (fun _ => ?_)
    refine n_iconst (pc := 177) 0 dX3_diagonals_177 (by decide) ?_
    refine e_goto (pc := 178) (tgt := 182) dX3_diagonals_178 (by decide) ?_
    exact n_iret (pc := 182) dX3_diagonals_182 rfl (kk _ _ (Or.inr ⟨fun z => z q1, rfl⟩) u2 u3 hfr)
  · refine e_if_eq (pc := 174) (tgt := 181) dX3_diagonals_174 (by decide) (fun _ => ?_) (fun q => absurd rfl q)
    refine n_iconst (pc := 181) 1 dX3_diagonals_181 (by decide) ?_
    exact n_iret (pc := 182) dX3_diagonals_182 rfl (kk _ _ (Or.inl ⟨q1, rfl⟩) u2 u3 hfr)
theorem l_diag0 {sz a b c d : Nat} (hP : PSh h E) (hW : WAt h o W f) (hk : Wok W) (hD : Div W) (ha : a ≤ lastP W) (hb : b ≤ lastP W) (hc : c ≤ lastP W) (hd : d ≤ lastP W) (dd : o + 3 ≤ E ∨ E + 90 ≤ o) {Pr : Int32 → AH → Prop}
    (kk : ∀ z h', ((¬ Quad W a b c d ∧ z = -1) ∨ (Quad W a b c d ∧ isB z (¬ Tri W (mtP W (jnP W a b) (jnP W c d)) (mtP W (jnP W a c) (jnP W b d)) (mtP W (jnP W a d) (jnP W b c))))) → PSh h' E → WAt h' o W f → Ft E o h h' → Pr z h') :
    VI MX3_diagonals sz Pr h 40 [some (.ref (E + 89)), some (.ref o), some (.int (nI a)), some (.int (nI b)), some (.int (nI c)), some (.int (nI d)), none, none, none] [] := by
  obtain ⟨-, t0⟩ := id hP
  refine e_aload_n (pc := 40) dX3_diagonals_40 rfl rfl ?_
  refine e_aload_n (pc := 41) dX3_diagonals_41 rfl rfl ?_
  refine e_iload_n (pc := 42) dX3_diagonals_42 rfl rfl ?_
  refine e_iload_n (pc := 43) dX3_diagonals_43 rfl rfl ?_
  refine e_iload (pc := 44) dX3_diagonals_44 rfl ?_
  refine n_V (pc := 46) (c_X3_isTriangle hP hW hk hD ha hb hc dd) bX3_isTriangle q_i_X3_isTriangle q_s_X3_isTriangle q_m_X3_73 dX3_diagonals_46 rfl rfl (by repeat (first | assumption | exact hset_eq _ _ _ | rw [hset_ne _ _ (by omega)])) rfl rfl (by exact Nat.le_of_ble_eq_true rfl) ⟨by decide, by decide⟩ ⟨rfl, rfl, Nat.zero_le _, Nat.zero_le _⟩ (fun z h2 hp => ?_)
  obtain ⟨u1, p1, p2, p3⟩ := hp
  rcases u1 with ⟨q1, rfl⟩ | ⟨q1, rfl⟩
  rotate_left
  · refine e_if_eq (pc := 49) (tgt := 64) dX3_diagonals_49 (by decide) (fun _ => ?_) (fun q => absurd rfl q)
    refine e_iconst (pc := 64) (v := -1) dX3_diagonals_64 (by decide) ?_
    exact n_iret (pc := 65) dX3_diagonals_65 rfl (kk _ _ (Or.inl ⟨fun z => q1 z.1, rfl⟩) p1 p2 p3)
  refine e_if_eq (pc := 49) (tgt := 64) dX3_diagonals_49 (by decide) (fun q => absurd q (by decide)) (fun _ => ?_)
  obtain ⟨-, t0⟩ := id p1
  refine e_aload_n (pc := 52) dX3_diagonals_52 rfl rfl ?_
  refine e_aload_n (pc := 53) dX3_diagonals_53 rfl rfl ?_
  refine e_iload_n (pc := 54) dX3_diagonals_54 rfl rfl ?_
  refine e_iload_n (pc := 55) dX3_diagonals_55 rfl rfl ?_
  refine e_iload (pc := 56) dX3_diagonals_56 rfl ?_
  refine n_V (pc := 58) (c_X3_isTriangle p1 p2 hk hD ha hb hd dd) bX3_isTriangle q_i_X3_isTriangle q_s_X3_isTriangle q_m_X3_73 dX3_diagonals_58 rfl rfl (by repeat (first | assumption | exact hset_eq _ _ _ | rw [hset_ne _ _ (by omega)])) rfl rfl (by exact Nat.le_of_ble_eq_true rfl) ⟨by decide, by decide⟩ ⟨rfl, rfl, Nat.zero_le _, Nat.zero_le _⟩ (fun z h3 hp => ?_)
  obtain ⟨u1, p4, p5, p6⟩ := hp
  rcases u1 with ⟨q2, rfl⟩ | ⟨q2, rfl⟩
  rotate_left
  · refine e_if_ne (pc := 61) (tgt := 66) dX3_diagonals_61 (by decide) (fun q => absurd rfl q) (fun _ => ?_)
    refine e_iconst (pc := 64) (v := -1) dX3_diagonals_64 (by decide) ?_
    exact n_iret (pc := 65) dX3_diagonals_65 rfl (kk _ _ (Or.inl ⟨fun z => q2 z.2.1, rfl⟩) p4 p5 (p3.tr p6))
  refine e_if_ne (pc := 61) (tgt := 66) dX3_diagonals_61 (by decide) (fun _ => ?_) (fun q => absurd q (by decide))
  obtain ⟨-, t0⟩ := id p4
  refine e_aload_n (pc := 66) dX3_diagonals_66 rfl rfl ?_
  refine e_aload_n (pc := 67) dX3_diagonals_67 rfl rfl ?_
  refine e_iload_n (pc := 68) dX3_diagonals_68 rfl rfl ?_
  refine e_iload (pc := 69) dX3_diagonals_69 rfl ?_
  refine e_iload (pc := 71) dX3_diagonals_71 rfl ?_
  refine n_V (pc := 73) (c_X3_isTriangle p4 p5 hk hD ha hc hd dd) bX3_isTriangle q_i_X3_isTriangle q_s_X3_isTriangle q_m_X3_73 dX3_diagonals_73 rfl rfl (by repeat (first | assumption | exact hset_eq _ _ _ | rw [hset_ne _ _ (by omega)])) rfl rfl (by exact Nat.le_of_ble_eq_true rfl) ⟨by decide, by decide⟩ ⟨rfl, rfl, Nat.zero_le _, Nat.zero_le _⟩ (fun z h4 hp => ?_)
  obtain ⟨u1, p7, p8, p9⟩ := hp
  rcases u1 with ⟨q3, rfl⟩ | ⟨q3, rfl⟩
  rotate_left
  · refine e_if_eq (pc := 76) (tgt := 92) dX3_diagonals_76 (by decide) (fun _ => ?_) (fun q => absurd rfl q)
    refine e_iconst (pc := 92) (v := -1) dX3_diagonals_92 (by decide) ?_
    exact n_iret (pc := 93) dX3_diagonals_93 rfl (kk _ _ (Or.inl ⟨fun z => q3 z.2.2.1, rfl⟩) p7 p8 (p3.tr (p6.tr p9)))
  refine e_if_eq (pc := 76) (tgt := 92) dX3_diagonals_76 (by decide) (fun q => absurd q (by decide)) (fun _ => ?_)
  obtain ⟨-, t0⟩ := id p7
  refine e_aload_n (pc := 79) dX3_diagonals_79 rfl rfl ?_
  refine e_aload_n (pc := 80) dX3_diagonals_80 rfl rfl ?_
  refine e_iload_n (pc := 81) dX3_diagonals_81 rfl rfl ?_
  refine e_iload (pc := 82) dX3_diagonals_82 rfl ?_
  refine e_iload (pc := 84) dX3_diagonals_84 rfl ?_
  refine n_V (pc := 86) (c_X3_isTriangle p7 p8 hk hD hb hc hd dd) bX3_isTriangle q_i_X3_isTriangle q_s_X3_isTriangle q_m_X3_73 dX3_diagonals_86 rfl rfl (by repeat (first | assumption | exact hset_eq _ _ _ | rw [hset_ne _ _ (by omega)])) rfl rfl (by exact Nat.le_of_ble_eq_true rfl) ⟨by decide, by decide⟩ ⟨rfl, rfl, Nat.zero_le _, Nat.zero_le _⟩ (fun z h5 hp => ?_)
  obtain ⟨u1, r1, r2, r3⟩ := hp
  rcases u1 with ⟨q4, rfl⟩ | ⟨q4, rfl⟩
  rotate_left
  · refine e_if_ne (pc := 89) (tgt := 94) dX3_diagonals_89 (by decide) (fun q => absurd rfl q) (fun _ => ?_)
    refine e_iconst (pc := 92) (v := -1) dX3_diagonals_92 (by decide) ?_
    exact n_iret (pc := 93) dX3_diagonals_93 rfl (kk _ _ (Or.inl ⟨fun z => q4 z.2.2.2, rfl⟩) r1 r2 (p3.tr (p6.tr (p9.tr r3))))
  refine e_if_ne (pc := 89) (tgt := 94) dX3_diagonals_89 (by decide) (fun _ => ?_) (fun q => absurd q (by decide))
  exact l_diag (hh := h) r1 r2 hk hD ha hb hc hd dd (p3.tr (p6.tr (p9.tr r3))) ⟨q1, q2, q3, q4⟩ (fun z h' k1 k2 k3 k4 => kk z h' (Or.inr ⟨⟨q1, q2, q3, q4⟩, k1⟩) k2 k3 k4)
theorem c_X3_diagonals {a b c d : Int32} (hP : PSh h E) (hW : WAt h o W f) (hk : Wok W) (hD : Div W) (dd : o + 3 ≤ E ∨ E + 90 ≤ o) : CI yX3_diagonals MX3_diagonals [.ref (E + 89), .ref o, .int a, .int b, .int c, .int d] h (fun z h' => Fano W a b c d z ∧ PSh h' E ∧ WAt h' o W f ∧ Ft E o h h') := by
  have q := qq_le hk
  obtain ⟨-, t0⟩ := id hP
  refine CI.ofV (by decide) rfl rfl (by simp [Value.category]) (by exact Nat.le_of_ble_eq_true rfl) (fun sz => ?_)
  refine e_aload_n (pc := 0) dX3_diagonals_0 rfl rfl ?_
  refine e_aload_n (pc := 1) dX3_diagonals_1 rfl rfl ?_
  refine e_iload_n (pc := 2) dX3_diagonals_2 rfl rfl ?_
  refine n_VP (pc := 3) (c_X3_hasPlace hW hk a) bX3_hasPlace q_i_X3_hasPlace q_s_X3_hasPlace q_m_X3_69 dX3_diagonals_3 rfl rfl (by repeat (first | assumption | exact hset_eq _ _ _ | rw [hset_ne _ _ (by omega)])) rfl rfl (by exact Nat.le_of_ble_eq_true rfl) ⟨by decide, by decide⟩ ⟨rfl, rfl, Nat.zero_le _, Nat.zero_le _⟩ ?_
  by_cases c1 : okI a (lastP W + 1) = true
  rotate_left
  · rw [Bool.not_eq_true] at c1
    rw [c1]
    refine e_if_eq (pc := 6) (tgt := 38) dX3_diagonals_6 (by decide) (fun _ => ?_) (fun q => absurd rfl q)
    refine e_iconst (pc := 38) (v := -1) dX3_diagonals_38 (by decide) ?_
    exact n_iret (pc := 39) dX3_diagonals_39 rfl ⟨Or.inl ⟨by rw [c1]; rfl, rfl⟩, hP, hW, Ft.rf E o h⟩
  rw [c1]
  refine e_if_eq (pc := 6) (tgt := 38) dX3_diagonals_6 (by decide) (fun q => absurd q (by decide)) (fun _ => ?_)
  refine e_aload_n (pc := 9) dX3_diagonals_9 rfl rfl ?_
  refine e_aload_n (pc := 10) dX3_diagonals_10 rfl rfl ?_
  refine e_iload_n (pc := 11) dX3_diagonals_11 rfl rfl ?_
  refine n_VP (pc := 12) (c_X3_hasPlace hW hk b) bX3_hasPlace q_i_X3_hasPlace q_s_X3_hasPlace q_m_X3_69 dX3_diagonals_12 rfl rfl (by repeat (first | assumption | exact hset_eq _ _ _ | rw [hset_ne _ _ (by omega)])) rfl rfl (by exact Nat.le_of_ble_eq_true rfl) ⟨by decide, by decide⟩ ⟨rfl, rfl, Nat.zero_le _, Nat.zero_le _⟩ ?_
  by_cases c2 : okI b (lastP W + 1) = true
  rotate_left
  · rw [Bool.not_eq_true] at c2
    rw [c2]
    refine e_if_eq (pc := 15) (tgt := 38) dX3_diagonals_15 (by decide) (fun _ => ?_) (fun q => absurd rfl q)
    refine e_iconst (pc := 38) (v := -1) dX3_diagonals_38 (by decide) ?_
    exact n_iret (pc := 39) dX3_diagonals_39 rfl ⟨Or.inl ⟨by rw [c1, c2]; rfl, rfl⟩, hP, hW, Ft.rf E o h⟩
  rw [c2]
  refine e_if_eq (pc := 15) (tgt := 38) dX3_diagonals_15 (by decide) (fun q => absurd q (by decide)) (fun _ => ?_)
  refine e_aload_n (pc := 18) dX3_diagonals_18 rfl rfl ?_
  refine e_aload_n (pc := 19) dX3_diagonals_19 rfl rfl ?_
  refine e_iload (pc := 20) dX3_diagonals_20 rfl ?_
  refine n_VP (pc := 22) (c_X3_hasPlace hW hk c) bX3_hasPlace q_i_X3_hasPlace q_s_X3_hasPlace q_m_X3_69 dX3_diagonals_22 rfl rfl (by repeat (first | assumption | exact hset_eq _ _ _ | rw [hset_ne _ _ (by omega)])) rfl rfl (by exact Nat.le_of_ble_eq_true rfl) ⟨by decide, by decide⟩ ⟨rfl, rfl, Nat.zero_le _, Nat.zero_le _⟩ ?_
  by_cases c3 : okI c (lastP W + 1) = true
  rotate_left
  · rw [Bool.not_eq_true] at c3
    rw [c3]
    refine e_if_eq (pc := 25) (tgt := 38) dX3_diagonals_25 (by decide) (fun _ => ?_) (fun q => absurd rfl q)
    refine e_iconst (pc := 38) (v := -1) dX3_diagonals_38 (by decide) ?_
    exact n_iret (pc := 39) dX3_diagonals_39 rfl ⟨Or.inl ⟨by rw [c1, c2, c3]; rfl, rfl⟩, hP, hW, Ft.rf E o h⟩
  rw [c3]
  refine e_if_eq (pc := 25) (tgt := 38) dX3_diagonals_25 (by decide) (fun q => absurd q (by decide)) (fun _ => ?_)
  refine e_aload_n (pc := 28) dX3_diagonals_28 rfl rfl ?_
  refine e_aload_n (pc := 29) dX3_diagonals_29 rfl rfl ?_
  refine e_iload (pc := 30) dX3_diagonals_30 rfl ?_
  refine n_VP (pc := 32) (c_X3_hasPlace hW hk d) bX3_hasPlace q_i_X3_hasPlace q_s_X3_hasPlace q_m_X3_69 dX3_diagonals_32 rfl rfl (by repeat (first | assumption | exact hset_eq _ _ _ | rw [hset_ne _ _ (by omega)])) rfl rfl (by exact Nat.le_of_ble_eq_true rfl) ⟨by decide, by decide⟩ ⟨rfl, rfl, Nat.zero_le _, Nat.zero_le _⟩ ?_
  by_cases c4 : okI d (lastP W + 1) = true
  rotate_left
  · rw [Bool.not_eq_true] at c4
    rw [c4]
    refine e_if_ne (pc := 35) (tgt := 40) dX3_diagonals_35 (by decide) (fun q => absurd rfl q) (fun _ => ?_)
    refine e_iconst (pc := 38) (v := -1) dX3_diagonals_38 (by decide) ?_
    exact n_iret (pc := 39) dX3_diagonals_39 rfl ⟨Or.inl ⟨by rw [c1, c2, c3, c4]; rfl, rfl⟩, hP, hW, Ft.rf E o h⟩
  rw [c4]
  refine e_if_ne (pc := 35) (tgt := 40) dX3_diagonals_35 (by decide) (fun _ => ?_) (fun q => absurd q (by decide))
  obtain ⟨a', ha, rfl⟩ := okI_of (by omega) c1
  obtain ⟨b', hb, rfl⟩ := okI_of (by omega) c2
  obtain ⟨c', hc, rfl⟩ := okI_of (by omega) c3
  obtain ⟨d', hd, rfl⟩ := okI_of (by omega) c4
  exact l_diag0 hP hW hk hD (by omega) (by omega) (by omega) (by omega) dd (fun z h' k1 k2 k3 k4 => ⟨Or.inr ⟨a', b', c', d', rfl, rfl, rfl, rfl, by omega, by omega, by omega, by omega, k1⟩, k2, k3, k4⟩)
end PC
