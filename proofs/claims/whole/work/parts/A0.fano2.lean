/-! ===== the reference: four points and the fano question ===== -/
section MFA
variable {h : AH} {m : Nat} {x y : Sx} {ik : Bool} {len : Nat} {f : Nat → Nat} {ft fp : Int32} {s : Ms} {W : Wd} {sz : Nat}
theorem c_X11_areOnOne {u v k : Nat} (hL : Lay h m W s) (hk : Wok W) (hD : Div W) (hne : u ≠ v) (hu : u ≤ lastP W) (hv : v ≤ lastP W) (hkk : k ≤ lastP W) : CI yX11_areOnOne MX11_areOnOne [.ref m, .int (nI u), .int (nI v), .int (nI k)] h (fun z h' => z = bI (bl (OnP W k (jnP W u v))) ∧ Lay h' m W s ∧ FdM m h h') := by
  have jn := jnP_on hk hD hne hu hv
  refine CI.ofV (by decide) rfl rfl (by simp [Value.category]) (by exact Nat.le_of_ble_eq_true rfl) (fun sz => ?_)
  refine e_aload_n (pc := 0) dX11_areOnOne_0 rfl rfl ?_
  refine e_iload_n (pc := 1) dX11_areOnOne_1 rfl rfl ?_
  refine e_aload_n (pc := 2) dX11_areOnOne_2 rfl rfl ?_
  refine e_iload_n (pc := 3) dX11_areOnOne_3 rfl rfl ?_
  refine e_iload_n (pc := 4) dX11_areOnOne_4 rfl rfl ?_
  refine n_V (pc := 5) (c_join (d := 10) (by decide) hL hk hD hne hu hv) bX11_join q_i_X11_join q_s_X11_join q_m_X11_347 dX11_areOnOne_5 rfl rfl (by repeat (first | assumption | exact hset_eq _ _ _ | (apply Lay.hd; assumption) | rw [hset_ne _ _ (by omega)])) rfl rfl (by exact Nat.le_of_ble_eq_true rfl) ⟨by decide, by decide⟩ ⟨rfl, rfl, Nat.zero_le _, Nat.zero_le _⟩ (fun z h2 hp => ?_)
  obtain ⟨rfl, l2, d2⟩ := hp
  refine n_V (pc := 8) (c_X11_isOn l2 hk hkk jn.2.2) bX11_isOn q_i_X11_isOn q_s_X11_isOn q_m_X11_353 dX11_areOnOne_8 rfl rfl (by repeat (first | assumption | exact hset_eq _ _ _ | (apply Lay.hd; assumption) | rw [hset_ne _ _ (by omega)])) rfl rfl (by exact Nat.le_of_ble_eq_true rfl) ⟨by decide, by decide⟩ ⟨rfl, rfl, Nat.zero_le _, Nat.zero_le _⟩ (fun z h3 hp => ?_)
  obtain ⟨rfl, l3, d3⟩ := hp
  exact n_zret (pc := 11) dX11_areOnOne_11 rfl (bI_nar _) ⟨rfl, l3, d2.tr d3⟩
theorem l_fano {h0 : AH} {w : Value} {a b c d : Nat} {l6 : Option Value} {Pr : Int32 → AH → Prop} (hL : Lay h0 m W s) (hk : Wok W) (hD : Div W) (ha : a ≤ lastP W) (hb : b ≤ lastP W) (hc : c ≤ lastP W) (hd : d ≤ lastP W) (n1 : a ≠ b) (n2 : a ≠ c) (n3 : a ≠ d) (n4 : b ≠ c) (n5 : b ≠ d) (n6 : c ≠ d)
    (kk : ∀ z h', ((¬ Quad W a b c d ∧ z = -1) ∨ (Quad W a b c d ∧ isB z (¬ Tri W (mtP W (jnP W a b) (jnP W c d)) (mtP W (jnP W a c) (jnP W b d)) (mtP W (jnP W a d) (jnP W b c))))) → Lay h' m W s → FdM m h0 h' → Pr z h') : VI MX11_fano sz Pr h0 120 [some (.ref m), some w, some (.int (nI a)), some (.int (nI b)), some (.int (nI c)), some (.int (nI d)), l6, none, none, none] [] := by
  have no : ∀ h2, Lay h2 m W s → FdM m h0 h2 → ¬ Quad W a b c d → ∀ l, VI MX11_fano sz Pr h2 166 l [] := fun h2 l2 d2 nq l => by
    refine e_iconst (pc := 166) (v := -1) dX11_fano_166 (by decide) ?_
    exact n_iret (pc := 167) dX11_fano_167 rfl (kk _ _ (Or.inl ⟨nq, rfl⟩) l2 d2)
  refine e_aload_n (pc := 120) dX11_fano_120 rfl rfl ?_
  refine e_iload_n (pc := 121) dX11_fano_121 rfl rfl ?_
  refine e_iload_n (pc := 122) dX11_fano_122 rfl rfl ?_
  refine e_iload (pc := 123) dX11_fano_123 rfl ?_
  refine n_V (pc := 125) (c_X11_areOnOne hL hk hD n1 ha hb hc) bX11_areOnOne q_i_X11_areOnOne q_s_X11_areOnOne q_m_X11_359 dX11_fano_125 rfl rfl (by repeat (first | assumption | exact hset_eq _ _ _ | (apply Lay.hd; assumption) | rw [hset_ne _ _ (by omega)])) rfl rfl (by exact Nat.le_of_ble_eq_true rfl) ⟨by decide, by decide⟩ ⟨rfl, rfl, Nat.zero_le _, Nat.zero_le _⟩ (fun z h1 hp => ?_)
  obtain ⟨rfl, l1, d1⟩ := hp
  refine n_bif_ne (pc := 128) (tgt := 166) dX11_fano_128 (by decide) (fun e => no h1 l1 d1 (fun q => q.1.2.2.2 (bl_iff.mp e)) _) (fun e1 => ?_)
  refine e_aload_n (pc := 131) dX11_fano_131 rfl rfl ?_
  refine e_iload_n (pc := 132) dX11_fano_132 rfl rfl ?_
  refine e_iload_n (pc := 133) dX11_fano_133 rfl rfl ?_
  refine e_iload (pc := 134) dX11_fano_134 rfl ?_
  refine n_V (pc := 136) (c_X11_areOnOne l1 hk hD n1 ha hb hd) bX11_areOnOne q_i_X11_areOnOne q_s_X11_areOnOne q_m_X11_359 dX11_fano_136 rfl rfl (by repeat (first | assumption | exact hset_eq _ _ _ | (apply Lay.hd; assumption) | rw [hset_ne _ _ (by omega)])) rfl rfl (by exact Nat.le_of_ble_eq_true rfl) ⟨by decide, by decide⟩ ⟨rfl, rfl, Nat.zero_le _, Nat.zero_le _⟩ (fun z h2 hp => ?_)
  obtain ⟨rfl, l2, d2⟩ := hp
  have d12 := d1.tr d2
  refine n_bif_ne (pc := 139) (tgt := 166) dX11_fano_139 (by decide) (fun e => no h2 l2 d12 (fun q => q.2.1.2.2.2 (bl_iff.mp e)) _) (fun e2 => ?_)
  refine e_aload_n (pc := 142) dX11_fano_142 rfl rfl ?_
  refine e_iload_n (pc := 143) dX11_fano_143 rfl rfl ?_
  refine e_iload (pc := 144) dX11_fano_144 rfl ?_
  refine e_iload (pc := 146) dX11_fano_146 rfl ?_
  refine n_V (pc := 148) (c_X11_areOnOne l2 hk hD n2 ha hc hd) bX11_areOnOne q_i_X11_areOnOne q_s_X11_areOnOne q_m_X11_359 dX11_fano_148 rfl rfl (by repeat (first | assumption | exact hset_eq _ _ _ | (apply Lay.hd; assumption) | rw [hset_ne _ _ (by omega)])) rfl rfl (by exact Nat.le_of_ble_eq_true rfl) ⟨by decide, by decide⟩ ⟨rfl, rfl, Nat.zero_le _, Nat.zero_le _⟩ (fun z h3 hp => ?_)
  obtain ⟨rfl, l3, d3⟩ := hp
  have d13 := d12.tr d3
  refine n_bif_ne (pc := 151) (tgt := 166) dX11_fano_151 (by decide) (fun e => no h3 l3 d13 (fun q => q.2.2.1.2.2.2 (bl_iff.mp e)) _) (fun e3 => ?_)
  refine e_aload_n (pc := 154) dX11_fano_154 rfl rfl ?_
  refine e_iload_n (pc := 155) dX11_fano_155 rfl rfl ?_
  refine e_iload (pc := 156) dX11_fano_156 rfl ?_
  refine e_iload (pc := 158) dX11_fano_158 rfl ?_
  refine n_V (pc := 160) (c_X11_areOnOne l3 hk hD n4 hb hc hd) bX11_areOnOne q_i_X11_areOnOne q_s_X11_areOnOne q_m_X11_359 dX11_fano_160 rfl rfl (by repeat (first | assumption | exact hset_eq _ _ _ | (apply Lay.hd; assumption) | rw [hset_ne _ _ (by omega)])) rfl rfl (by exact Nat.le_of_ble_eq_true rfl) ⟨by decide, by decide⟩ ⟨rfl, rfl, Nat.zero_le _, Nat.zero_le _⟩ (fun z h4 hp => ?_)
  obtain ⟨rfl, l4, d4⟩ := hp
  have d14 := d13.tr d4
  refine n_bif_eq (pc := 163) (tgt := 168) dX11_fano_163 (by decide) (fun e4 => ?_) (fun e => no h4 l4 d14 (fun q => q.2.2.2.2.2.2 (bl_iff.mp e)) _)
  have nf : ∀ {P : Prop}, bl P = false → ¬ P := fun e q => by rw [bl_t q] at e; cases e
  have Q : Quad W a b c d := ⟨⟨n1, n2, n4, nf e1⟩, ⟨n1, n3, n5, nf e2⟩, ⟨n2, n3, n6, nf e3⟩, ⟨n4, n5, n6, nf e4⟩⟩
  have ql := quad_ln hk hD ha hb hc hd Q
  have qp := quad_pt hk hD ha hb hc hd Q
  have jab := jnP_on hk hD n1 ha hb
  have jcd := jnP_on hk hD n6 hc hd
  have jac := jnP_on hk hD n2 ha hc
  have jbd := jnP_on hk hD n5 hb hd
  have jad := jnP_on hk hD n3 ha hd
  have jbc := jnP_on hk hD n4 hb hc
  have m1 := mtP_on hk hD ql.1 jab.2.2 jcd.2.2
  have m2 := mtP_on hk hD ql.2.1 jac.2.2 jbd.2.2
  have m3 := mtP_on hk hD ql.2.2 jad.2.2 jbc.2.2
  refine e_aload_n (pc := 168) dX11_fano_168 rfl rfl ?_
  refine e_aload_n (pc := 169) dX11_fano_169 rfl rfl ?_
  refine e_iload_n (pc := 170) dX11_fano_170 rfl rfl ?_
  refine e_iload_n (pc := 171) dX11_fano_171 rfl rfl ?_
  refine n_V (pc := 172) (c_join (d := 10) (by decide) l4 hk hD n1 ha hb) bX11_join q_i_X11_join q_s_X11_join q_m_X11_347 dX11_fano_172 rfl rfl (by repeat (first | assumption | exact hset_eq _ _ _ | (apply Lay.hd; assumption) | rw [hset_ne _ _ (by omega)])) rfl rfl (by exact Nat.le_of_ble_eq_true rfl) ⟨by decide, by decide⟩ ⟨rfl, rfl, Nat.zero_le _, Nat.zero_le _⟩ (fun z h5 hp => ?_)
  obtain ⟨rfl, l5, d5⟩ := hp
  refine e_aload_n (pc := 175) dX11_fano_175 rfl rfl ?_
  refine e_iload (pc := 176) dX11_fano_176 rfl ?_
  refine e_iload (pc := 178) dX11_fano_178 rfl ?_
  refine n_V (pc := 180) (c_join (d := 10) (by decide) l5 hk hD n6 hc hd) bX11_join q_i_X11_join q_s_X11_join q_m_X11_347 dX11_fano_180 rfl rfl (by repeat (first | assumption | exact hset_eq _ _ _ | (apply Lay.hd; assumption) | rw [hset_ne _ _ (by omega)])) rfl rfl (by exact Nat.le_of_ble_eq_true rfl) ⟨by decide, by decide⟩ ⟨rfl, rfl, Nat.zero_le _, Nat.zero_le _⟩ (fun z h6 hp => ?_)
  obtain ⟨rfl, l6', d6⟩ := hp
  refine n_V (pc := 183) (c_meet (d := 10) (by decide) l6' hk hD ql.1 jab.2.2 jcd.2.2) bX11_meet q_i_X11_meet q_s_X11_meet q_m_X11_356 dX11_fano_183 rfl rfl (by repeat (first | assumption | exact hset_eq _ _ _ | (apply Lay.hd; assumption) | rw [hset_ne _ _ (by omega)])) rfl rfl (by exact Nat.le_of_ble_eq_true rfl) ⟨by decide, by decide⟩ ⟨rfl, rfl, Nat.zero_le _, Nat.zero_le _⟩ (fun z h7 hp => ?_)
  obtain ⟨rfl, l7, d7⟩ := hp
  refine e_istore (pc := 186) dX11_fano_186 (by decide) ?_
  refine e_aload_n (pc := 188) dX11_fano_188 rfl rfl ?_
  refine e_aload_n (pc := 189) dX11_fano_189 rfl rfl ?_
  refine e_iload_n (pc := 190) dX11_fano_190 rfl rfl ?_
  refine e_iload (pc := 191) dX11_fano_191 rfl ?_
  refine n_V (pc := 193) (c_join (d := 10) (by decide) l7 hk hD n2 ha hc) bX11_join q_i_X11_join q_s_X11_join q_m_X11_347 dX11_fano_193 rfl rfl (by repeat (first | assumption | exact hset_eq _ _ _ | (apply Lay.hd; assumption) | rw [hset_ne _ _ (by omega)])) rfl rfl (by exact Nat.le_of_ble_eq_true rfl) ⟨by decide, by decide⟩ ⟨rfl, rfl, Nat.zero_le _, Nat.zero_le _⟩ (fun z h8 hp => ?_)
  obtain ⟨rfl, l8, d8⟩ := hp
  refine e_aload_n (pc := 196) dX11_fano_196 rfl rfl ?_
  refine e_iload_n (pc := 197) dX11_fano_197 rfl rfl ?_
  refine e_iload (pc := 198) dX11_fano_198 rfl ?_
  refine n_V (pc := 200) (c_join (d := 10) (by decide) l8 hk hD n5 hb hd) bX11_join q_i_X11_join q_s_X11_join q_m_X11_347 dX11_fano_200 rfl rfl (by repeat (first | assumption | exact hset_eq _ _ _ | (apply Lay.hd; assumption) | rw [hset_ne _ _ (by omega)])) rfl rfl (by exact Nat.le_of_ble_eq_true rfl) ⟨by decide, by decide⟩ ⟨rfl, rfl, Nat.zero_le _, Nat.zero_le _⟩ (fun z h9 hp => ?_)
  obtain ⟨rfl, l9, d9⟩ := hp
  refine n_V (pc := 203) (c_meet (d := 10) (by decide) l9 hk hD ql.2.1 jac.2.2 jbd.2.2) bX11_meet q_i_X11_meet q_s_X11_meet q_m_X11_356 dX11_fano_203 rfl rfl (by repeat (first | assumption | exact hset_eq _ _ _ | (apply Lay.hd; assumption) | rw [hset_ne _ _ (by omega)])) rfl rfl (by exact Nat.le_of_ble_eq_true rfl) ⟨by decide, by decide⟩ ⟨rfl, rfl, Nat.zero_le _, Nat.zero_le _⟩ (fun z h10 hp => ?_)
  obtain ⟨rfl, l10, d10⟩ := hp
  refine e_istore (pc := 206) dX11_fano_206 (by decide) ?_
  refine e_aload_n (pc := 208) dX11_fano_208 rfl rfl ?_
  refine e_aload_n (pc := 209) dX11_fano_209 rfl rfl ?_
  refine e_iload_n (pc := 210) dX11_fano_210 rfl rfl ?_
  refine e_iload (pc := 211) dX11_fano_211 rfl ?_
  refine n_V (pc := 213) (c_join (d := 10) (by decide) l10 hk hD n3 ha hd) bX11_join q_i_X11_join q_s_X11_join q_m_X11_347 dX11_fano_213 rfl rfl (by repeat (first | assumption | exact hset_eq _ _ _ | (apply Lay.hd; assumption) | rw [hset_ne _ _ (by omega)])) rfl rfl (by exact Nat.le_of_ble_eq_true rfl) ⟨by decide, by decide⟩ ⟨rfl, rfl, Nat.zero_le _, Nat.zero_le _⟩ (fun z h11 hp => ?_)
  obtain ⟨rfl, l11, d11⟩ := hp
  refine e_aload_n (pc := 216) dX11_fano_216 rfl rfl ?_
  refine e_iload_n (pc := 217) dX11_fano_217 rfl rfl ?_
  refine e_iload (pc := 218) dX11_fano_218 rfl ?_
  refine n_V (pc := 220) (c_join (d := 10) (by decide) l11 hk hD n4 hb hc) bX11_join q_i_X11_join q_s_X11_join q_m_X11_347 dX11_fano_220 rfl rfl (by repeat (first | assumption | exact hset_eq _ _ _ | (apply Lay.hd; assumption) | rw [hset_ne _ _ (by omega)])) rfl rfl (by exact Nat.le_of_ble_eq_true rfl) ⟨by decide, by decide⟩ ⟨rfl, rfl, Nat.zero_le _, Nat.zero_le _⟩ (fun z h12 hp => ?_)
  obtain ⟨rfl, l12, d12'⟩ := hp
  refine n_V (pc := 223) (c_meet (d := 10) (by decide) l12 hk hD ql.2.2 jad.2.2 jbc.2.2) bX11_meet q_i_X11_meet q_s_X11_meet q_m_X11_356 dX11_fano_223 rfl rfl (by repeat (first | assumption | exact hset_eq _ _ _ | (apply Lay.hd; assumption) | rw [hset_ne _ _ (by omega)])) rfl rfl (by exact Nat.le_of_ble_eq_true rfl) ⟨by decide, by decide⟩ ⟨rfl, rfl, Nat.zero_le _, Nat.zero_le _⟩ (fun z h13 hp => ?_)
  obtain ⟨rfl, l13, d13'⟩ := hp
  refine e_istore (pc := 226) dX11_fano_226 (by decide) ?_
  refine e_aload_n (pc := 228) dX11_fano_228 rfl rfl ?_
  refine e_iload (pc := 229) dX11_fano_229 rfl ?_
  refine e_iload (pc := 231) dX11_fano_231 rfl ?_
  refine e_iload (pc := 233) dX11_fano_233 rfl ?_
  refine n_V (pc := 235) (c_X11_areOnOne l13 hk hD qp.1 m1.2.2 m2.2.2 m3.2.2) bX11_areOnOne q_i_X11_areOnOne q_s_X11_areOnOne q_m_X11_359 dX11_fano_235 rfl rfl (by repeat (first | assumption | exact hset_eq _ _ _ | (apply Lay.hd; assumption) | rw [hset_ne _ _ (by omega)])) rfl rfl (by exact Nat.le_of_ble_eq_true rfl) ⟨by decide, by decide⟩ ⟨rfl, rfl, Nat.zero_le _, Nat.zero_le _⟩ (fun z h14 hp => ?_)
  obtain ⟨rfl, l14, d14'⟩ := hp
  refine n_SP (pc := 238) (c_X11_one (bl (OnP W (mtP W (jnP W a d) (jnP W b c)) (jnP W (mtP W (jnP W a b) (jnP W c d)) (mtP W (jnP W a c) (jnP W b d)))))) bX11_one q_st_X11_one q_m_X11_278 dX11_fano_238 rfl rfl (by exact Nat.le_of_ble_eq_true rfl) ⟨by decide, by decide⟩ ⟨rfl, rfl, Nat.zero_le _, Nat.zero_le _⟩ ?_
  refine n_iret (pc := 241) dX11_fano_241 rfl (kk _ _ (Or.inr ⟨Q, ?_⟩) l14 ((((((((((d14.tr d5).tr d6).tr d7).tr d8).tr d9).tr d10).tr d11).tr d12').tr d13').tr d14'))
  by_cases o : OnP W (mtP W (jnP W a d) (jnP W b c)) (jnP W (mtP W (jnP W a b) (jnP W c d)) (mtP W (jnP W a c) (jnP W b d)))
  · exact Or.inl ⟨fun t => t.2.2.2 o, by rw [bl_t o]; rfl⟩
  · exact Or.inr ⟨fun t => t ⟨qp.1, qp.2.1, qp.2.2, o⟩, by rw [bl_f o]; rfl⟩
end MFA
