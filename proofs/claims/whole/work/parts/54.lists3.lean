section LB
variable {h : AH} {L E : Nat} {W : Wd} {f : Int32} {p n : Nat}
abbrev LHd (h : AH) (L E : Nat) : Prop := h L = some (ob 2 [.ref (E + 83), .ref (L + 1), .ref (L + 4), .ref (L + 5), .ref (L + 10)])
abbrev LGr (h : AH) (L : Nat) : Prop := h (L + 5) = some (aG 4 (fun d => if d < 4 then some (L + 6 + d) else none)) ∧ h (L + 10) = some (aG 4 (fun d => if d < 4 then some (L + 11 + d) else none))
theorem c_X2_isFailedEarly {z : Int32} (hL : LHd h L E) (hW : WAt h (L + 1) W f) (hk : Wok W) (hz : Fail W z) : CI yX2_isFailedEarly MX2_isFailedEarly [.ref L, .int z] h (fun r h' => isB r (Ef W) ∧ h' = h) := by
  obtain ⟨b1, b2, b3, b4, b5⟩ := hk.b
  have q0 := hk.pos
  refine CI.ofV (by decide) rfl rfl (by simp [Value.category]) (by exact Nat.le_of_ble_eq_true rfl) (fun sz => ?_)
  refine e_aload_n (pc := 0) dX2_isFailedEarly_0 rfl rfl ?_
  refine e_get (pc := 1) fl_X2_12 dX2_isFailedEarly_1 (by repeat (first | assumption | exact hset_eq _ _ _ | (apply WAt.hd; assumption) | rw [hset_ne _ _ (by omega)])) (by rfl) ?_
  refine n_VP (pc := 4) (c_X9_order hW) bX9_order q_i_X9_order q_s_X9_order q_m_X2_63 dX2_isFailedEarly_4 rfl rfl (by repeat (first | assumption | exact hset_eq _ _ _ | (apply WAt.hd; assumption) | rw [hset_ne _ _ (by omega)])) rfl rfl (by exact Nat.le_of_ble_eq_true rfl) ⟨by decide, by decide⟩ ⟨rfl, rfl, Nat.zero_le _, Nat.zero_le _⟩ ?_
  refine e_istore_n (pc := 7) dX2_isFailedEarly_7 rfl (by decide) ?_
  refine e_iload_n (pc := 8) dX2_isFailedEarly_8 rfl rfl ?_
  refine e_iconst (pc := 9) (v := -1) dX2_isFailedEarly_9 (by decide) ?_
  rcases hz with ⟨x, y, rfl, x0, x1, y0, y1, e, f1, f2⟩ | ⟨rfl, f1⟩
  · have hxy : W.1 ^ W.2.1 * x + y < 243 * 243 := by
      have := Nat.mul_le_mul_left (W.1 ^ W.2.1) (show x + 1 ≤ W.1 ^ W.2.1 from x1)
      have := Nat.mul_le_mul b5 b5
      rw [Nat.mul_add] at *
      omega
    have hd : (W.1 ^ W.2.1 * x + y) / W.1 ^ W.2.1 = x := (q_div y1).1
    refine e_icmp_eq (pc := 10) (tgt := 43) dX2_isFailedEarly_10 (by decide) (fun c => absurd c (nI_ne (by omega))) (fun _ => ?_)
    refine e_iload_n (pc := 13) dX2_isFailedEarly_13 rfl rfl ?_
    refine n_if_le (pc := 14) (tgt := 43) dX2_isFailedEarly_14 (by decide) (by omega) (fun c => absurd c (by omega)) (fun _ => ?_)
    refine e_iload_n (pc := 17) dX2_isFailedEarly_17 rfl rfl ?_
    refine e_iload_n (pc := 18) dX2_isFailedEarly_18 rfl rfl ?_
    refine n_idiv (pc := 19) dX2_isFailedEarly_19 (by omega) (by omega) (by omega) ?_
    refine e_aload_n (pc := 20) dX2_isFailedEarly_20 rfl rfl ?_
    refine e_get (pc := 21) fl_X2_12 dX2_isFailedEarly_21 (by repeat (first | assumption | exact hset_eq _ _ _ | (apply WAt.hd; assumption) | rw [hset_ne _ _ (by omega)])) (by rfl) ?_
    refine e_aload_n (pc := 24) dX2_isFailedEarly_24 rfl rfl ?_
    refine e_get (pc := 25) fl_X2_12 dX2_isFailedEarly_25 (by repeat (first | assumption | exact hset_eq _ _ _ | (apply WAt.hd; assumption) | rw [hset_ne _ _ (by omega)])) (by rfl) ?_
    refine n_VP (pc := 28) (c_X9_size hW) bX9_size q_i_X9_size q_s_X9_size q_m_X2_67 dX2_isFailedEarly_28 rfl rfl (by repeat (first | assumption | exact hset_eq _ _ _ | (apply WAt.hd; assumption) | rw [hset_ne _ _ (by omega)])) rfl rfl (by exact Nat.le_of_ble_eq_true rfl) ⟨by decide, by decide⟩ ⟨rfl, rfl, Nat.zero_le _, Nat.zero_le _⟩ ?_
    refine n_iconst (pc := 31) 1 dX2_isFailedEarly_31 (by decide) ?_
    refine n_isub (pc := 32) dX2_isFailedEarly_32 (by omega) ?_
    refine n_VP (pc := 33) (c_X9_base hW hk (show W.2.1 - 1 ≤ 5 by omega)) bX9_base q_i_X9_base q_s_X9_base q_m_X2_70 dX2_isFailedEarly_33 rfl rfl (by repeat (first | assumption | exact hset_eq _ _ _ | (apply WAt.hd; assumption) | rw [hset_ne _ _ (by omega)])) rfl rfl (by exact Nat.le_of_ble_eq_true rfl) ⟨by decide, by decide⟩ ⟨rfl, rfl, Nat.zero_le _, Nat.zero_le _⟩ ?_
    rw [hd]
    have w1 : W.1 ^ (W.2.1 - 1) ≤ W.1 ^ W.2.1 := Nat.pow_le_pow_right (by omega) (by omega)
    refine n_icmp_ge (pc := 36) (tgt := 43) dX2_isFailedEarly_36 (by decide) (by omega) (by omega) (fun c => ?_) (fun c => ?_)
    · refine n_iconst (pc := 43) 0 dX2_isFailedEarly_43 (by decide) ?_
      refine n_zret (pc := 44) dX2_isFailedEarly_44 rfl rfl ⟨Or.inr ⟨fun ⟨a, b, a0, a1, b0, b1', e2⟩ => ?_, rfl⟩, rfl⟩
      exact f1 a b a0 (by omega) b0 b1' e2
    · refine n_iconst (pc := 39) 1 dX2_isFailedEarly_39 (by decide) ?_
      refine e_goto (pc := 40) (tgt := 44) dX2_isFailedEarly_40 (by decide) ?_
      exact n_zret (pc := 44) dX2_isFailedEarly_44 rfl rfl ⟨Or.inl ⟨⟨x, y, x0, c, y0, y1, e⟩, rfl⟩, rfl⟩
  · refine e_icmp_eq (pc := 10) (tgt := 43) dX2_isFailedEarly_10 (by decide) (fun _ => ?_) (fun c => absurd rfl c)
    refine n_iconst (pc := 43) 0 dX2_isFailedEarly_43 (by decide) ?_
    refine n_zret (pc := 44) dX2_isFailedEarly_44 rfl rfl ⟨Or.inr ⟨fun ⟨a, b, a0, a1, b0, b1', e2⟩ => ?_, rfl⟩, rfl⟩
    exact f1 a b a0 (Nat.lt_of_lt_of_le a1 (Nat.pow_le_pow_right (by omega) (by omega))) b0 b1' e2
/-- what is kept of one kind, for codes below c -/
def RowA (h : AH) (L d p n c : Nat) : Prop := (∃ g, h (L + 11 + d) = some (aI 3 g) ∧ ∀ w, w < 3 → g w = nI (Lc p n w c)) ∧ ∃ g, h (L + 6 + d) = some (aI 32 g) ∧ ∀ t, t < Lc p n 0 c → ∃ k, g t = nI k ∧ k < c ∧ Div (lw p n k) ∧ Lc p n 0 k = t
theorem RowA.far {h2 : AH} {d c : Nat} (q : RowA h L d p n c) (e1 : h2 (L + 11 + d) = h (L + 11 + d)) (e2 : h2 (L + 6 + d) = h (L + 6 + d)) : RowA h2 L d p n c := by
  obtain ⟨⟨g, a1, a2⟩, g2, a3, a4⟩ := q
  exact ⟨⟨g, e1.trans a1, a2⟩, g2, e2.trans a3, a4⟩
theorem RowA.skip {d c m : Nat} (q : RowA h L d p n c) (hn : ∀ k, k < m → ¬ Div (lw p n (c + k))) : RowA h L d p n (c + m) := by
  have e : ∀ w, Lc p n w (c + m) = Lc p n w c := fun w => by
    unfold Lc
    rw [cn_add, cn_none (n := m) (fun x hx => bl_f (fun z => hn x hx z.1)), Nat.add_zero]
  obtain ⟨⟨g, a1, a2⟩, g2, a3, a4⟩ := q
  refine ⟨⟨g, a1, fun w hw => by rw [e]; exact a2 w hw⟩, g2, a3, fun t ht => ?_⟩
  rw [e] at ht
  obtain ⟨k, k1, k2, k3⟩ := a4 t ht
  exact ⟨k, k1, by omega, k3⟩
theorem c_X2_note {d c : Nat} (hL : LHd h L E) (hG : LGr h L) (hT : TSh h E) (hW : WAt h (L + 1) (lw p n c) f) (hK : Kd p n) (hd : d < 4) (hc : c < Lall p n) (hD : Div (lw p n c)) (hR : RowA h L d p n c) (dd : E + 89 ≤ L ∨ L + 15 ≤ E) : CV yX2_note MX2_note [.ref L, .int (nI d), .int (nI c)] h (fun h' => RowA h' L d p n (c + 1) ∧ TSh h' E ∧ WAt h' (L + 1) (lw p n c) f ∧ ∀ a, a ≠ L + 3 → a ≠ L + 6 + d → a ≠ L + 11 + d → h' a = h a) := by
  obtain ⟨g1, g2⟩ := hG
  obtain ⟨⟨gc, c1, c2⟩, gf, c3, c4⟩ := hR
  have hk := lw_ok (code := c) hK.b.2.2.2
  have lc1 : Lc p n 0 (c + 1) = Lc p n 0 c + 1 := by rw [Lc_s, if_pos (bl_t ⟨hD, trivial⟩)]
  have l32 : Lc p n 0 c < 32 := by
    have := Lc_32 hK (show c + 1 ≤ Lall p n by omega)
    omega
  have ldc : ∀ w, Lc p n w c ≤ c := fun w => cn_le c _
  have := (Lall_b hK).2.1
  have z0 := c2 0 (by decide)
  have z1 := c2 1 (by decide)
  have z2 := c2 2 (by decide)
  have hT0 := hT.2.1
  refine CV.ofV (by decide) rfl rfl (by simp [Value.category]) (by exact Nat.le_of_ble_eq_true rfl) (fun sz => ?_)
  refine e_aload_n (pc := 0) dX2_note_0 rfl rfl ?_
  refine e_get (pc := 1) fl_X2_27 dX2_note_1 (by repeat (first | assumption | exact hset_eq _ _ _ | (apply WAt.hd; assumption) | rw [hset_ne _ _ (by omega)])) (by rfl) ?_
  refine e_iload_n (pc := 4) dX2_note_4 rfl rfl ?_
  refine e_aldGS (pc := 5) _ dX2_note_5 (by repeat (first | assumption | exact hset_eq _ _ _ | (apply WAt.hd; assumption) | rw [hset_ne _ _ (by omega)])) (by rfl) (by omega) (by first | decide | omega) (if_pos hd) ?_
  refine e_astore_n (pc := 6) dX2_note_6 rfl (by decide) ?_
  refine e_aload_n (pc := 7) dX2_note_7 rfl rfl ?_
  refine n_iconst (pc := 8) 0 dX2_note_8 (by decide) ?_
  refine e_ialdN (pc := 9) _ dX2_note_9 (by repeat (first | assumption | exact hset_eq _ _ _ | (apply WAt.hd; assumption) | rw [hset_ne _ _ (by omega)])) (by rfl) (by omega) (by first | decide | omega) ?_
  rw [z0]
  refine n_bipush (pc := 10) 32 dX2_note_10 (by decide) ?_
  refine n_icmp_lt (pc := 12) (tgt := 16) dX2_note_12 (by decide) (by omega) (by omega) (fun hb_ => ?_) (fun c => absurd c (by omega))
  refine e_aload_n (pc := 16) dX2_note_16 rfl rfl ?_
  refine e_get (pc := 17) fl_X2_24 dX2_note_17 (by repeat (first | assumption | exact hset_eq _ _ _ | (apply WAt.hd; assumption) | rw [hset_ne _ _ (by omega)])) (by rfl) ?_
  refine e_iload_n (pc := 20) dX2_note_20 rfl rfl ?_
  refine e_aldGS (pc := 21) _ dX2_note_21 (by repeat (first | assumption | exact hset_eq _ _ _ | (apply WAt.hd; assumption) | rw [hset_ne _ _ (by omega)])) (by rfl) (by omega) (by first | decide | omega) (if_pos hd) ?_
  refine e_aload_n (pc := 22) dX2_note_22 rfl rfl ?_
  refine n_iconst (pc := 23) 0 dX2_note_23 (by decide) ?_
  refine e_ialdN (pc := 24) _ dX2_note_24 (by repeat (first | assumption | exact hset_eq _ _ _ | (apply WAt.hd; assumption) | rw [hset_ne _ _ (by omega)])) (by rfl) (by omega) (by first | decide | omega) ?_
  rw [z0]
  refine e_iload_n (pc := 25) dX2_note_25 rfl rfl ?_
  refine e_iastN (pc := 26) (Lc p n 0 c) dX2_note_26 (by repeat (first | assumption | exact hset_eq _ _ _ | (apply WAt.hd; assumption) | rw [hset_ne _ _ (by omega)])) (by rfl) (by omega) (by first | decide | omega) ?_
  refine e_aload_n (pc := 27) dX2_note_27 rfl rfl ?_
  refine n_iconst (pc := 28) 0 dX2_note_28 (by decide) ?_
  refine e_dup2 (pc := 29) dX2_note_29 rfl rfl ?_
  refine e_ialdN (pc := 30) _ dX2_note_30 (by repeat (first | assumption | exact hset_eq _ _ _ | (apply WAt.hd; assumption) | rw [hset_ne _ _ (by omega)])) (by rfl) (by omega) (by first | decide | omega) ?_
  rw [z0]
  refine n_iconst (pc := 31) 1 dX2_note_31 (by decide) ?_
  refine n_iadd (pc := 32) dX2_note_32 ?_
  refine e_iastN (pc := 33) _ dX2_note_33 (by repeat (first | assumption | exact hset_eq _ _ _ | (apply WAt.hd; assumption) | rw [hset_ne _ _ (by omega)])) (by rfl) (by omega) (by first | decide | omega) ?_
  refine e_aload_n (pc := 34) dX2_note_34 rfl rfl ?_
  refine n_iconst (pc := 35) 1 dX2_note_35 (by decide) ?_
  refine e_dup2 (pc := 36) dX2_note_36 rfl rfl ?_
  refine e_ialdN (pc := 37) _ dX2_note_37 (by repeat (first | assumption | exact hset_eq _ _ _ | (apply WAt.hd; assumption) | rw [hset_ne _ _ (by omega)])) (by rfl) (by omega) (by first | decide | omega) ?_
  rw [pk_un (by decide), z1]
  refine e_aload_n (pc := 38) dX2_note_38 rfl rfl ?_
  refine e_get (pc := 39) fl_X2_12 dX2_note_39 (by repeat (first | assumption | exact hset_eq _ _ _ | (apply WAt.hd; assumption) | rw [hset_ne _ _ (by omega)])) (by rfl) ?_
  refine n_V (pc := 42) (c_X9_commutes ((hW.hs (by omega)).hs (by omega)) hk) bX9_commutes q_i_X9_commutes q_s_X9_commutes q_m_X2_74 dX2_note_42 rfl rfl (by repeat (first | assumption | exact hset_eq _ _ _ | (apply WAt.hd; assumption) | rw [hset_ne _ _ (by omega)])) rfl rfl (by exact Nat.le_of_ble_eq_true rfl) ⟨by decide, by decide⟩ ⟨rfl, rfl, Nat.zero_le _, Nat.zero_le _⟩ (fun x h2 hp => ?_)
  obtain ⟨hx, rfl⟩ := hp
  have fin2 : ∀ (h3 : AH) (b1 b2 : Nat), b1 = (if bl (Lp p n 1 c) = true then 1 else 0) → b2 = (if bl (Lp p n 2 c) = true then 1 else 0) → TSh h3 E → WAt h3 (L + 1) (lw p n c) f → h3 (L + 11 + d) = some (aI 3 (upd (upd gc 0 (nI (Lc p n 0 c + 1))) 1 (nI (Lc p n 1 c + b1)))) → h3 (L + 6 + d) = some (aI 32 (upd gf (Lc p n 0 c) (nI c))) → (∀ a, a ≠ L + 3 → a ≠ L + 6 + d → a ≠ L + 11 + d → h3 a = h a) →
      VV MX2_note sz (fun h' => RowA h' L d p n (c + 1) ∧ TSh h' E ∧ WAt h' (L + 1) (lw p n c) f ∧ ∀ a, a ≠ L + 3 → a ≠ L + 6 + d → a ≠ L + 11 + d → h' a = h a) h3 79 [some (.ref L), some (.int (nI d)), some (.int (nI c)), some (.ref (L + 11 + d))] [.int (nI b2), .int (nI (Lc p n 2 c)), .int (nI 2), .ref (L + 11 + d)] := fun h3 b1 b2 e1 e2 T3 W3 x1 x2 x3 => by
    refine n_iadd (pc := 79) dX2_note_79 ?_
    refine e_iastN (pc := 80) _ dX2_note_80 (by repeat (first | assumption | exact hset_eq _ _ _ | (apply WAt.hd; assumption) | rw [hset_ne _ _ (by omega)])) (by rfl) (by omega) (by first | decide | omega) ?_
    refine n_vret (pc := 81) dX2_note_81 rfl ⟨⟨⟨_, hset_eq _ _ _, fun w hw => ?_⟩, _, (hset_ne _ _ (by omega)).trans x2, fun t ht => ?_⟩, T3.far (fun a q1 q2 => hset_ne _ _ (by omega)), W3.hs (by omega), fun a q1 q2 q3 => (hset_ne _ _ q3).trans (x3 a q1 q2 q3)⟩
    · match w, hw with
      | 0, _ => rw [pk_un (by decide), pk_un (by decide), pk_us, lc1]
      | 1, _ => rw [pk_un (by decide), pk_us, Lc_s, e1]
      | 2, _ => rw [pk_us, Lc_s, e2]
    · rw [lc1] at ht
      by_cases q : t = Lc p n 0 c
      · subst q
        rw [pk_us]
        exact ⟨c, rfl, by omega, hD, rfl⟩
      · rw [pk_un q]
        obtain ⟨k, k1, k2, k3⟩ := c4 t (by omega)
        exact ⟨k, k1, by omega, k3⟩
  have fin1 : ∀ (b1 : Nat), b1 = (if bl (Lp p n 1 c) = true then 1 else 0) → VV MX2_note sz (fun h' => RowA h' L d p n (c + 1) ∧ TSh h' E ∧ WAt h' (L + 1) (lw p n c) f ∧ ∀ a, a ≠ L + 3 → a ≠ L + 6 + d → a ≠ L + 11 + d → h' a = h a) (hset (hset h (L + 6 + d) (aI 32 (upd gf (Lc p n 0 c) (nI c)))) (L + 11 + d) (aI 3 (upd gc 0 (nI (Lc p n 0 c + 1))))) 53 [some (.ref L), some (.int (nI d)), some (.int (nI c)), some (.ref (L + 11 + d))] [.int (nI b1), .int (nI (Lc p n 1 c)), .int (nI 1), .ref (L + 11 + d)] := fun b1 e1 => by
    refine n_iadd (pc := 53) dX2_note_53 ?_
    refine e_iastN (pc := 54) _ dX2_note_54 (by repeat (first | assumption | exact hset_eq _ _ _ | (apply WAt.hd; assumption) | rw [hset_ne _ _ (by omega)])) (by rfl) (by omega) (by first | decide | omega) ?_
    refine e_aload_n (pc := 55) dX2_note_55 rfl rfl ?_
    refine n_iconst (pc := 56) 2 dX2_note_56 (by decide) ?_
    refine e_dup2 (pc := 57) dX2_note_57 rfl rfl ?_
    refine e_ialdN (pc := 58) _ dX2_note_58 (by repeat (first | assumption | exact hset_eq _ _ _ | (apply WAt.hd; assumption) | rw [hset_ne _ _ (by omega)])) (by rfl) (by omega) (by first | decide | omega) ?_
    rw [pk_un (by decide), pk_un (by decide), z2]
    have T3 : TSh (hset (hset (hset h (L + 6 + d) (aI 32 (upd gf (Lc p n 0 c) (nI c)))) (L + 11 + d) (aI 3 (upd gc 0 (nI (Lc p n 0 c + 1))))) (L + 11 + d) (aI 3 (upd (upd gc 0 (nI (Lc p n 0 c + 1))) 1 (nI (Lc p n 1 c + b1))))) E := hT.far (fun a q1 q2 => (hset_ne _ _ (by omega)).trans ((hset_ne _ _ (by omega)).trans (hset_ne _ _ (by omega))))
    have hT1 := T3.2.1
    refine e_aload_n (pc := 59) dX2_note_59 rfl rfl ?_
    refine e_get (pc := 60) fl_X2_30 dX2_note_60 (by repeat (first | assumption | exact hset_eq _ _ _ | (apply WAt.hd; assumption) | rw [hset_ne _ _ (by omega)])) (by rfl) ?_
    refine e_aload_n (pc := 63) dX2_note_63 rfl rfl ?_
    refine e_get (pc := 64) fl_X2_12 dX2_note_64 (by repeat (first | assumption | exact hset_eq _ _ _ | (apply WAt.hd; assumption) | rw [hset_ne _ _ (by omega)])) (by rfl) ?_
    refine n_V (pc := 67) (c_X7_firstUnjoined T3 (((hW.hs (by omega)).hs (by omega)).hs (by omega)) hk (by omega)) bX7_firstUnjoined q_i_X7_firstUnjoined q_s_X7_firstUnjoined q_m_X2_78 dX2_note_67 rfl rfl (by repeat (first | assumption | exact hset_eq _ _ _ | (apply WAt.hd; assumption) | rw [hset_ne _ _ (by omega)])) rfl rfl (by exact Nat.le_of_ble_eq_true rfl) ⟨by decide, by decide⟩ ⟨rfl, rfl, Nat.zero_le _, Nat.zero_le _⟩ (fun z h3 hp => ?_)
    obtain ⟨hz, p1, p2⟩ := hp
    have k1 : h3 (L + 11 + d) = some (aI 3 (upd (upd gc 0 (nI (Lc p n 0 c + 1))) 1 (nI (Lc p n 1 c + b1)))) := (p2 _ (by omega)).trans (hset_eq _ _ _)
    have k2 : h3 (L + 6 + d) = some (aI 32 (upd gf (Lc p n 0 c) (nI c))) := (p2 _ (by omega)).trans ((hset_ne _ _ (by omega)).trans ((hset_ne _ _ (by omega)).trans (hset_eq _ _ _)))
    have k3 : ∀ a, a ≠ L + 3 → a ≠ L + 6 + d → a ≠ L + 11 + d → h3 a = h a := fun a q1 q2 q3 => (p2 a (by omega)).trans ((hset_ne _ _ q3).trans ((hset_ne _ _ q3).trans (hset_ne _ _ q2)))
    refine e_iconst (pc := 70) (v := -1) dX2_note_70 (by decide) ?_
    rcases hz with ⟨i, j, k, rfl, i1, j1, kk1, z1', -⟩ | ⟨rfl, hz⟩
    · refine e_icmp_ne (pc := 71) (tgt := 78) dX2_note_71 (by decide) (fun _ => ?_) (fun q => absurd q (nI_ne (by have := hk.b; omega)))
      refine n_iconst (pc := 78) 0 dX2_note_78 (by decide) ?_
      refine fin2 h3 b1 0 e1 ?_ (T3.es p2 (by omega)) p1 k1 k2 k3
      rw [bl_f (fun q => z1' (q.2 i j k i1 j1 kk1))]
      rfl
    · refine e_icmp_ne (pc := 71) (tgt := 78) dX2_note_71 (by decide) (fun q => absurd rfl q) (fun _ => ?_)
      refine n_iconst (pc := 74) 1 dX2_note_74 (by decide) ?_
      refine e_goto (pc := 75) (tgt := 79) dX2_note_75 (by decide) ?_
      refine fin2 h3 b1 1 e1 ?_ (T3.es p2 (by omega)) p1 k1 k2 k3
      rw [bl_t ⟨hD, hz⟩]
      rfl
  rcases hx with ⟨hx, rfl⟩ | ⟨hx, rfl⟩
  · refine e_if_eq (pc := 45) (tgt := 52) dX2_note_45 (by decide) (fun q => absurd q (by decide)) (fun _ => ?_)
    refine n_iconst (pc := 48) 1 dX2_note_48 (by decide) ?_
    refine e_goto (pc := 49) (tgt := 53) dX2_note_49 (by decide) ?_
    refine fin1 1 ?_
    rw [bl_t ⟨hD, hx⟩]
    rfl
  · refine e_if_eq (pc := 45) (tgt := 52) dX2_note_45 (by decide) (fun _ => ?_) (fun q => absurd rfl q)
    refine n_iconst (pc := 52) 0 dX2_note_52 (by decide) ?_
    refine fin1 0 ?_
    rw [bl_f (fun q => hx q.2)]
    rfl
end LB
