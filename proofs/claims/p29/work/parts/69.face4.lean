/-! ===== the class's face: acts, tape, lists, the image ===== -/
section XI
variable {h : AH} {o : Nat} {x y : Sx} {ik : Bool} {len : Nat} {f : Nat → Nat} {ft fp : Int32} {σ : Nat → Nat}
theorem XAt.rd {h2 : AH} {len2 : Nat} {f2 : Nat → Nat} {ft2 fp2 : Int32} (hX : XAt h o x y ik len f ft fp) (e : Er (o + 167) (o + 167 + 14) h h2) (hr : RdS h2 (o + 167) len2 f2 ft2 fp2) : XAt h2 o x y ik len2 f2 ft2 fp2 ∧ Er o (o + 303) h h2 := by
  obtain ⟨a1, ⟨σ, a2⟩, ⟨τ, a3⟩, a4, a5, a6, ⟨S, a7⟩, W, fd, a8, a9⟩ := hX
  exact ⟨⟨(e _ (by omega)).trans a1, ⟨σ, a2.far (fun a x y => e a (by omega))⟩, ⟨τ, a3.far (fun a x y => e a (by omega))⟩, hr, ⟨a5.1.far (fun a x y => e a (by omega)), (e _ (by omega)).trans a5.2⟩, a6.far (fun a x y => e a (by omega)), ⟨S, a7.far (fun a x y => e a (by omega))⟩, W, fd, a8.kp (fun a x y => e a (by omega)), a9⟩, e.mono (by omega) (by omega)⟩
def QS_digit (x : Sx) (w i j k v z : Int32) (x2 : Sx) : Prop := if (okI w 6 && (okI i (wld x w).2.1 && okI j (wld x w).2.1 && okI k (wld x w).2.1 && okI v (wld x w).1)) = true then z = nI 1 ∧ x2 = x.tellW w.toNatClampNeg (wput (wld x w) i.toNatClampNeg j.toNatClampNeg k.toNatClampNeg v.toNatClampNeg) else z = nI 0 ∧ x2 = x
def QS_turn (x : Sx) (a b w z : Int32) (x2 : Sx) : Prop := if (okI a 6 && (okI b 6 && okI w 6)) = true then z = nI 1 ∧ x2 = x.tellW b.toNatClampNeg (wturn (wld x a) w.toNatClampNeg) else z = nI 0 ∧ x2 = x
def QS_uni (x : Sx) (a b e z : Int32) (x2 : Sx) : Prop := if (okI a 6 && (okI b 6 && (decide (e ≠ nI 0) && (okI e ((wld x a).1 ^ (wld x a).2.1) && bl (Div (wld x a)))))) = true then z = nI (mul (wld x a) e.toNatClampNeg e.toNatClampNeg) ∧ x2 = x.tellW b.toNatClampNeg (wuni (wld x a) e.toNatClampNeg) else z = -1 ∧ x2 = x
theorem wuni_ok2 {W : Wd} (hk : Wok W) (e : Nat) : Wok (wuni W e) := wd_ok ⟨hk.1, hk.2.1, hk.2.2.1, hk.2.2.2.1⟩ (fun t => dg_lt (by have := hk.b; omega) _ _)
def QS_undo (x : Sx) (b : Bool) (z : Int32) (x2 : Sx) : Prop := if b = true then (if x.dn = 0 then z = -1 ∧ x2 = x else z = nI (x.who (x.dn - 1)) ∧ x2 = x.back) else if x.un = 0 then z = -1 ∧ x2 = x else z = nI (x.who x.dn) ∧ x2 = x.forth
theorem XAt.now {h2 : AH} {x2 : Sx} (hX : XAt h o x y ik len f ft fp) (e : Er (o + 1) (o + 1 + 83) h h2) (hx : ∃ τ, StA h2 (o + 1) τ x2) : XAt h2 o x2 y ik len f ft fp ∧ Er o (o + 303) h h2 := by
  obtain ⟨D, df, d1, d2⟩ := hX.2.2.2.2.2.2.2
  exact hX.up (fun t q1 q2 q3 => e t (by omega)) (hX.2.2.2.2.1.1.far (fun t q1 q2 => e t (by omega))) hx ⟨D, df, d1.kp (fun t q1 q2 => e t (by omega)), d2⟩
def QS_map (x : Sx) (a i v z : Int32) (x2 : Sx) : Prop := if tOk a i v = true then z = nI 1 ∧ x2 = x.tell (5 * a.toNatClampNeg + i.toNatClampNeg) v else z = nI 0 ∧ x2 = x
def Q_look (x : Sx) (t z : Int32) : Prop := if t = nI 0 then z = nI x.dn else if t = nI 1 then z = nI x.un else if t < nI 10 then z = -1 else z = imA x (t - nI 10)
theorem c_X10_look (hX : XAt h o x y ik len f ft fp) (t : Int32) : CI yX10_look MX10_look [.ref o, .int t] h (fun z h' => Q_look x t z ∧ h' = h) := by
  obtain ⟨a1, ⟨σ, a2⟩, -⟩ := id hX
  obtain ⟨s1, -⟩ := id a2.1
  refine CI.ofV (by decide) rfl rfl (by simp [Value.category]) (by exact Nat.le_of_ble_eq_true rfl) (fun sz => ?_)
  refine e_iload_n (pc := 0) dX10_look_0 rfl rfl ?_
  refine e_if_ne (pc := 1) (tgt := 12) dX10_look_1 (by decide) (fun q => ?_) (fun q => ?_)
  · refine e_iload_n (pc := 12) dX10_look_12 rfl rfl ?_
    refine n_iconst (pc := 13) 1 dX10_look_13 (by decide) ?_
    refine e_icmp_ne (pc := 14) (tgt := 25) dX10_look_14 (by decide) (fun q1 => ?_) (fun q1 => ?_)
    · refine e_iload_n (pc := 25) dX10_look_25 rfl rfl ?_
      refine n_bipush (pc := 26) 10 dX10_look_26 (by decide) ?_
      refine e_icmp_ge (pc := 28) (tgt := 35) dX10_look_28 (by decide) (fun q2 => ?_) (fun q2 => ?_)
      · refine e_aload_n (pc := 35) dX10_look_35 rfl rfl ?_
        refine e_get (pc := 36) fl_X10_10 dX10_look_36 (by repeat (first | assumption | exact hset_eq _ _ _ | (apply WAt.hd; assumption) | rw [hset_ne _ _ (by omega)])) (by rfl) ?_
        refine e_iload_n (pc := 39) dX10_look_39 rfl rfl ?_
        refine n_bipush (pc := 40) 10 dX10_look_40 (by decide) ?_
        refine e_isub (pc := 42) dX10_look_42 ?_
        refine n_VP (pc := 43) (c_X6_imageAt a2 (t - nI 10)) bX6_imageAt q_i_X6_imageAt q_s_X6_imageAt q_m_X10_282 dX10_look_43 rfl rfl (by repeat (first | assumption | exact hset_eq _ _ _ | (apply WAt.hd; assumption) | rw [hset_ne _ _ (by omega)])) rfl rfl (by exact Nat.le_of_ble_eq_true rfl) ⟨by decide, by decide⟩ ⟨rfl, rfl, Nat.zero_le _, Nat.zero_le _⟩ ?_
        refine n_iret (pc := 46) dX10_look_46 rfl ⟨?_, rfl⟩
        unfold Q_look
        rw [if_neg (fun z => q (z.trans nI_0)), if_neg q1, if_neg (Int32.not_lt.mpr q2)]
      · refine e_iconst (pc := 31) (v := -1) dX10_look_31 (by decide) ?_
        refine e_goto (pc := 32) (tgt := 46) dX10_look_32 (by decide) ?_
        refine n_iret (pc := 46) dX10_look_46 rfl ⟨?_, rfl⟩
        unfold Q_look
        rw [if_neg (fun z => q (z.trans nI_0)), if_neg q1, if_pos (Int32.not_le.mp q2)]
    · refine e_aload_n (pc := 17) dX10_look_17 rfl rfl ?_
      refine e_get (pc := 18) fl_X10_10 dX10_look_18 (by repeat (first | assumption | exact hset_eq _ _ _ | (apply WAt.hd; assumption) | rw [hset_ne _ _ (by omega)])) (by rfl) ?_
      refine n_VP (pc := 21) (c_X6_canGoForth a2) bX6_canGoForth q_i_X6_canGoForth q_s_X6_canGoForth q_m_X10_279 dX10_look_21 rfl rfl (by repeat (first | assumption | exact hset_eq _ _ _ | (apply WAt.hd; assumption) | rw [hset_ne _ _ (by omega)])) rfl rfl (by exact Nat.le_of_ble_eq_true rfl) ⟨by decide, by decide⟩ ⟨rfl, rfl, Nat.zero_le _, Nat.zero_le _⟩ ?_
      refine n_iret (pc := 24) dX10_look_24 rfl ⟨?_, rfl⟩
      unfold Q_look
      rw [if_neg (fun z => q (z.trans nI_0)), if_pos q1]
  · refine e_aload_n (pc := 4) dX10_look_4 rfl rfl ?_
    refine e_get (pc := 5) fl_X10_10 dX10_look_5 (by repeat (first | assumption | exact hset_eq _ _ _ | (apply WAt.hd; assumption) | rw [hset_ne _ _ (by omega)])) (by rfl) ?_
    refine n_VP (pc := 8) (c_X6_canGoBack a2) bX6_canGoBack q_i_X6_canGoBack q_s_X6_canGoBack q_m_X10_276 dX10_look_8 rfl rfl (by repeat (first | assumption | exact hset_eq _ _ _ | (apply WAt.hd; assumption) | rw [hset_ne _ _ (by omega)])) rfl rfl (by exact Nat.le_of_ble_eq_true rfl) ⟨by decide, by decide⟩ ⟨rfl, rfl, Nat.zero_le _, Nat.zero_le _⟩ ?_
    refine n_iret (pc := 11) dX10_look_11 rfl ⟨?_, rfl⟩
    unfold Q_look
    rw [if_pos (q.trans nI_0.symm)]
def QS_take (x : Sx) (p n i w z : Int32) (x2 : Sx) : Prop := (okI w 6 = true ∧ z = nI 1 ∧ ∃ pp nn c, p = nI pp ∧ n = nI nn ∧ Kd pp nn ∧ c < Lall pp nn ∧ Div (lw pp nn c) ∧ i = nI (Lc pp nn 0 c) ∧ x2 = x.tellW w.toNatClampNeg (lw pp nn c)) ∨ ((okI w 6 = false ∨ ¬ LstH p n i) ∧ z = nI 0 ∧ x2 = x)
def tap20 (f : Nat → Nat) (len : Nat) (a b c d e : Int32) : Nat → Nat := tap4 (tap4 (tap4 (tap4 (tap4 f len a 4) (len + 4) b 4) (len + 4 + 4) c 4) (len + 4 + 4 + 4) d 4) (len + 4 + 4 + 4 + 4) e 4
theorem c_X10_feed (hX : XAt h o x y ik len f ft fp) (a b c d e : Int32) : CI yX10_feed MX10_feed [.ref o, .int a, .int b, .int c, .int d, .int e] h (fun z h' => ((len + 20 ≤ 600 ∧ z = nI (len + 20) ∧ XAt h' o x y ik (len + 20) (tap20 f len a b c d e) ft fp) ∨ (¬ len + 20 ≤ 600 ∧ z = -1 ∧ XAt h' o x y ik len f ft fp)) ∧ Er o (o + 303) h h') := by
  obtain ⟨a1, -, -, a4, -⟩ := id hX
  obtain ⟨_, _, _, _, _, _, r1⟩ := id a4.1
  refine CI.ofV (by decide) rfl rfl (by simp [Value.category]) (by exact Nat.le_of_ble_eq_true rfl) (fun sz => ?_)
  refine e_aload_n (pc := 0) dX10_feed_0 rfl rfl ?_
  refine e_get (pc := 1) fl_X10_26 dX10_feed_1 (by repeat (first | assumption | exact hset_eq _ _ _ | (apply WAt.hd; assumption) | rw [hset_ne _ _ (by omega)])) (by rfl) ?_
  refine n_VP (pc := 4) (c_X4_hasRoom a4) bX4_hasRoom q_i_X4_hasRoom q_s_X4_hasRoom q_m_X10_85 dX10_feed_4 rfl rfl (by repeat (first | assumption | exact hset_eq _ _ _ | (apply WAt.hd; assumption) | rw [hset_ne _ _ (by omega)])) rfl rfl (by exact Nat.le_of_ble_eq_true rfl) ⟨by decide, by decide⟩ ⟨rfl, rfl, Nat.zero_le _, Nat.zero_le _⟩ ?_
  by_cases q : len + 20 ≤ 600
  · rw [decide_eq_true q]
    refine e_if_ne (pc := 7) (tgt := 12) dX10_feed_7 (by decide) (fun _ => ?_) (fun q => absurd q (by decide))
    refine e_aload_n (pc := 12) dX10_feed_12 rfl rfl ?_
    refine e_get (pc := 13) fl_X10_26 dX10_feed_13 (by repeat (first | assumption | exact hset_eq _ _ _ | (apply WAt.hd; assumption) | rw [hset_ne _ _ (by omega)])) (by rfl) ?_
    refine e_iload_n (pc := 16) dX10_feed_16 rfl rfl ?_
    refine n_Vv (pc := 17) (c_X4_takeNumber (a := a) a4 (by omega)) bX4_takeNumber q_i_X4_takeNumber q_s_X4_takeNumber q_m_X10_89 dX10_feed_17 rfl rfl (by repeat (first | assumption | exact hset_eq _ _ _ | (apply WAt.hd; assumption) | rw [hset_ne _ _ (by omega)])) rfl rfl (by exact Nat.le_of_ble_eq_true rfl) ⟨by decide, by decide⟩ ⟨rfl, rfl, Nat.zero_le _, Nat.zero_le _⟩ (fun h2 hp => ?_)
    obtain ⟨p2, e2⟩ := hp
    have b2 := (e2 o (by omega)).trans a1
    obtain ⟨_, _, _, _, _, _, r2⟩ := id p2.1
    refine e_aload_n (pc := 20) dX10_feed_20 rfl rfl ?_
    refine e_get (pc := 21) fl_X10_26 dX10_feed_21 (by repeat (first | assumption | exact hset_eq _ _ _ | (apply WAt.hd; assumption) | rw [hset_ne _ _ (by omega)])) (by rfl) ?_
    refine e_iload_n (pc := 24) dX10_feed_24 rfl rfl ?_
    refine n_Vv (pc := 25) (c_X4_takeNumber (a := b) p2 (by omega)) bX4_takeNumber q_i_X4_takeNumber q_s_X4_takeNumber q_m_X10_89 dX10_feed_25 rfl rfl (by repeat (first | assumption | exact hset_eq _ _ _ | (apply WAt.hd; assumption) | rw [hset_ne _ _ (by omega)])) rfl rfl (by exact Nat.le_of_ble_eq_true rfl) ⟨by decide, by decide⟩ ⟨rfl, rfl, Nat.zero_le _, Nat.zero_le _⟩ (fun h3 hp => ?_)
    obtain ⟨p3, e3⟩ := hp
    have b3 := (e3 o (by omega)).trans b2
    obtain ⟨_, _, _, _, _, _, r3⟩ := id p3.1
    refine e_aload_n (pc := 28) dX10_feed_28 rfl rfl ?_
    refine e_get (pc := 29) fl_X10_26 dX10_feed_29 (by repeat (first | assumption | exact hset_eq _ _ _ | (apply WAt.hd; assumption) | rw [hset_ne _ _ (by omega)])) (by rfl) ?_
    refine e_iload_n (pc := 32) dX10_feed_32 rfl rfl ?_
    refine n_Vv (pc := 33) (c_X4_takeNumber (a := c) p3 (by omega)) bX4_takeNumber q_i_X4_takeNumber q_s_X4_takeNumber q_m_X10_89 dX10_feed_33 rfl rfl (by repeat (first | assumption | exact hset_eq _ _ _ | (apply WAt.hd; assumption) | rw [hset_ne _ _ (by omega)])) rfl rfl (by exact Nat.le_of_ble_eq_true rfl) ⟨by decide, by decide⟩ ⟨rfl, rfl, Nat.zero_le _, Nat.zero_le _⟩ (fun h4 hp => ?_)
    obtain ⟨p4, e4⟩ := hp
    have b4 := (e4 o (by omega)).trans b3
    obtain ⟨_, _, _, _, _, _, r4⟩ := id p4.1
    refine e_aload_n (pc := 36) dX10_feed_36 rfl rfl ?_
    refine e_get (pc := 37) fl_X10_26 dX10_feed_37 (by repeat (first | assumption | exact hset_eq _ _ _ | (apply WAt.hd; assumption) | rw [hset_ne _ _ (by omega)])) (by rfl) ?_
    refine e_iload (pc := 40) dX10_feed_40 rfl ?_
    refine n_Vv (pc := 42) (c_X4_takeNumber (a := d) p4 (by omega)) bX4_takeNumber q_i_X4_takeNumber q_s_X4_takeNumber q_m_X10_89 dX10_feed_42 rfl rfl (by repeat (first | assumption | exact hset_eq _ _ _ | (apply WAt.hd; assumption) | rw [hset_ne _ _ (by omega)])) rfl rfl (by exact Nat.le_of_ble_eq_true rfl) ⟨by decide, by decide⟩ ⟨rfl, rfl, Nat.zero_le _, Nat.zero_le _⟩ (fun h5 hp => ?_)
    obtain ⟨p5, e5⟩ := hp
    have b5 := (e5 o (by omega)).trans b4
    obtain ⟨_, _, _, _, _, _, r5⟩ := id p5.1
    refine e_aload_n (pc := 45) dX10_feed_45 rfl rfl ?_
    refine e_get (pc := 46) fl_X10_26 dX10_feed_46 (by repeat (first | assumption | exact hset_eq _ _ _ | (apply WAt.hd; assumption) | rw [hset_ne _ _ (by omega)])) (by rfl) ?_
    refine e_iload (pc := 49) dX10_feed_49 rfl ?_
    refine n_Vv (pc := 51) (c_X4_takeNumber (a := e) p5 (by omega)) bX4_takeNumber q_i_X4_takeNumber q_s_X4_takeNumber q_m_X10_89 dX10_feed_51 rfl rfl (by repeat (first | assumption | exact hset_eq _ _ _ | (apply WAt.hd; assumption) | rw [hset_ne _ _ (by omega)])) rfl rfl (by exact Nat.le_of_ble_eq_true rfl) ⟨by decide, by decide⟩ ⟨rfl, rfl, Nat.zero_le _, Nat.zero_le _⟩ (fun h6 hp => ?_)
    obtain ⟨p6, e6⟩ := hp
    have b6 := (e6 o (by omega)).trans b5
    obtain ⟨_, _, _, _, _, _, r6⟩ := id p6.1
    refine e_aload_n (pc := 54) dX10_feed_54 rfl rfl ?_
    refine e_get (pc := 55) fl_X10_26 dX10_feed_55 (by repeat (first | assumption | exact hset_eq _ _ _ | (apply WAt.hd; assumption) | rw [hset_ne _ _ (by omega)])) (by rfl) ?_
    refine n_VP (pc := 58) (c_X4_length p6) bX4_length q_i_X4_length q_s_X4_length q_m_X10_93 dX10_feed_58 rfl rfl (by repeat (first | assumption | exact hset_eq _ _ _ | (apply WAt.hd; assumption) | rw [hset_ne _ _ (by omega)])) rfl rfl (by exact Nat.le_of_ble_eq_true rfl) ⟨by decide, by decide⟩ ⟨rfl, rfl, Nat.zero_le _, Nat.zero_le _⟩ ?_
    have up := hX.rd ((((e2.tr e3).tr e4).tr e5).tr e6) p6
    exact n_iret (pc := 61) dX10_feed_61 rfl ⟨Or.inl ⟨q, rfl, up.1⟩, up.2⟩
  · rw [decide_eq_false q]
    refine e_if_ne (pc := 7) (tgt := 12) dX10_feed_7 (by decide) (fun q => absurd rfl q) (fun _ => ?_)
    refine e_iconst (pc := 10) (v := -1) dX10_feed_10 (by decide) ?_
    exact n_iret (pc := 11) dX10_feed_11 rfl ⟨Or.inr ⟨q, rfl, hX⟩, Er.rf _ _ _⟩
theorem c_X10_end (hX : XAt h o x y ik len f ft fp) (n : Int32) : CI yX10_end MX10_end [.ref o, .int n] h (fun z h' => ((∃ k, n = nI k ∧ k ≤ len ∧ z = 1 ∧ XAt h' o x y ik k f ft fp) ∨ (okI n (len + 1) = false ∧ z = 0 ∧ XAt h' o x y ik len f ft fp)) ∧ Er o (o + 303) h h') := by
  obtain ⟨a1, -, -, a4, -⟩ := id hX
  obtain ⟨_, _, _, _, _, _, r1⟩ := id a4.1
  refine CI.ofV (by decide) rfl rfl (by simp [Value.category]) (by exact Nat.le_of_ble_eq_true rfl) (fun sz => ?_)
  refine e_aload_n (pc := 0) dX10_end_0 rfl rfl ?_
  refine e_get (pc := 1) fl_X10_26 dX10_end_1 (by repeat (first | assumption | exact hset_eq _ _ _ | (apply WAt.hd; assumption) | rw [hset_ne _ _ (by omega)])) (by rfl) ?_
  refine e_iload_n (pc := 4) dX10_end_4 rfl rfl ?_
  refine n_V (pc := 5) (c_X4_cutAt a4 n) bX4_cutAt q_i_X4_cutAt q_s_X4_cutAt q_m_X10_97 dX10_end_5 rfl rfl (by repeat (first | assumption | exact hset_eq _ _ _ | (apply WAt.hd; assumption) | rw [hset_ne _ _ (by omega)])) rfl rfl (by exact Nat.le_of_ble_eq_true rfl) ⟨by decide, by decide⟩ ⟨rfl, rfl, Nat.zero_le _, Nat.zero_le _⟩ (fun z h2 hp => ?_)
  obtain ⟨hp, he⟩ := hp
  rcases hp with ⟨k, rfl, q1, rfl, q2⟩ | ⟨q1, rfl, q2⟩
  · have up := hX.rd he q2
    exact n_zret (pc := 8) dX10_end_8 rfl rfl ⟨Or.inl ⟨k, rfl, q1, rfl, up.1⟩, up.2⟩
  · have up := hX.rd he q2
    exact n_zret (pc := 8) dX10_end_8 rfl rfl ⟨Or.inr ⟨q1, rfl, up.1⟩, up.2⟩
def Q_fault (ft fp t z : Int32) : Prop := if t = nI 0 then z = ft else if t = nI 1 then z = fp else z = -1
/-- what text() leaves: the answer, the state, the fault -/
def QS_text (x : Sx) (f : Nat → Nat) (len : Nat) (w z : Int32) (x2 : Sx) (ft2 fp2 : Int32) : Prop := if okI w 6 = true then (match txt f len with
    | .inl q => z = -1 ∧ x2 = x ∧ ft2 = nI q.1 ∧ fp2 = nI q.2
    | .inr W => z = nI (W.1 ^ W.2.1) ∧ x2 = x.tellW w.toNatClampNeg W ∧ ft2 = nI 0 ∧ fp2 = -1) else z = -1 ∧ x2 = x ∧ ft2 = nI 0 ∧ fp2 = -1
theorem c_X10_text (hX : XAt h o x y ik len f ft fp) (w : Int32) : CI yX10_text MX10_text [.ref o, .int w] h (fun z h' => ∃ x2 ft2 fp2, QS_text x f len w z x2 ft2 fp2 ∧ XAt h' o x2 y ik 0 f ft2 fp2 ∧ Er o (o + 303) h h') := by
  obtain ⟨a1, ⟨σ, a2⟩, -, a4, -⟩ := id hX
  obtain ⟨_, _, _, _, _, _, r1⟩ := id a4.1
  obtain ⟨s1, -⟩ := id a2.1
  refine CI.ofV (by decide) rfl rfl (by simp [Value.category]) (by exact Nat.le_of_ble_eq_true rfl) (fun sz => ?_)
  refine e_aload_n (pc := 0) dX10_text_0 rfl rfl ?_
  refine e_get (pc := 1) fl_X10_10 dX10_text_1 (by repeat (first | assumption | exact hset_eq _ _ _ | (apply WAt.hd; assumption) | rw [hset_ne _ _ (by omega)])) (by rfl) ?_
  refine e_iload_n (pc := 4) dX10_text_4 rfl rfl ?_
  refine n_Vr (pc := 5) (c_X6_world a2 w) bX6_world q_i_X6_world q_s_X6_world q_m_X10_101 dX10_text_5 rfl rfl (by repeat (first | assumption | exact hset_eq _ _ _ | (apply WAt.hd; assumption) | rw [hset_ne _ _ (by omega)])) rfl rfl (by exact Nat.le_of_ble_eq_true rfl) ⟨by decide, by decide⟩ ⟨rfl, rfl, Nat.zero_le _, Nat.zero_le _⟩ (fun r h2 hp => ?_)
  obtain ⟨rfl, hr⟩ := hp
  rcases hr with ⟨a, ha, rfl, rfl⟩ | ⟨hw, rfl⟩
  · refine e_astore_n (pc := 8) dX10_text_8 rfl (by decide) ?_
    refine e_aload_n (pc := 9) dX10_text_9 rfl rfl ?_
    refine e_ifnonnull (pc := 10) (tgt := 22) dX10_text_10 (by decide) ?_
    refine e_aload_n (pc := 22) dX10_text_22 rfl rfl ?_
    refine e_get (pc := 23) fl_X10_26 dX10_text_23 (by repeat (first | assumption | exact hset_eq _ _ _ | (apply WAt.hd; assumption) | rw [hset_ne _ _ (by omega)])) (by rfl) ?_
    refine n_V (pc := 26) (c_X4_read a4) bX4_read q_i_X4_read q_s_X4_read q_m_X10_108 dX10_text_26 rfl rfl (by repeat (first | assumption | exact hset_eq _ _ _ | (apply WAt.hd; assumption) | rw [hset_ne _ _ (by omega)])) rfl rfl (by exact Nat.le_of_ble_eq_true rfl) ⟨by decide, by decide⟩ ⟨rfl, rfl, Nat.zero_le _, Nat.zero_le _⟩ (fun z h3 hp => ?_)
    obtain ⟨hz, he⟩ := hp
    cases ht : txt f len with
    | inl q =>
      rw [ht] at hz
      obtain ⟨rfl, z2, z3, z4⟩ := hz
      refine e_if_ne (pc := 29) (tgt := 34) dX10_text_29 (by decide) (fun q => absurd rfl q) (fun _ => ?_)
      refine e_iconst (pc := 32) (v := -1) dX10_text_32 (by decide) ?_
      have up := hX.rd he ⟨z2, z3, z4⟩
      refine n_iret (pc := 33) dX10_text_33 rfl ⟨x, _, _, qT (ok6 ha) ?_, up⟩
      rw [ht]
      exact ⟨rfl, rfl, rfl, rfl⟩
    | inr W =>
      rw [ht] at hz
      obtain ⟨rfl, z2, z3, F', z4⟩ := hz
      refine e_if_ne (pc := 29) (tgt := 34) dX10_text_29 (by decide) (fun _ => ?_) (fun q => absurd q (by decide))
      have up := hX.rd he ⟨z2, z3, W, F', z4⟩
      have a13 := up.1.1
      have st3 : StA h3 (o + 1) σ x := a2.far (fun t q1 q2 => he t (by omega))
      obtain ⟨s13, -⟩ := id st3.1
      obtain ⟨w1, w2, -⟩ := id z4
      obtain ⟨_, _, _, _, _, _, r3⟩ := id z2
      refine e_aload_n (pc := 34) dX10_text_34 rfl rfl ?_
      refine e_get (pc := 35) fl_X10_10 dX10_text_35 (by repeat (first | assumption | exact hset_eq _ _ _ | (apply WAt.hd; assumption) | rw [hset_ne _ _ (by omega)])) (by rfl) ?_
      refine e_iload_n (pc := 38) dX10_text_38 rfl rfl ?_
      refine e_aload_n (pc := 39) dX10_text_39 rfl rfl ?_
      refine e_get (pc := 40) fl_X10_26 dX10_text_40 (by repeat (first | assumption | exact hset_eq _ _ _ | (apply WAt.hd; assumption) | rw [hset_ne _ _ (by omega)])) (by rfl) ?_
      refine n_Vr (pc := 43) (c_X4_told z2) bX4_told q_i_X4_told q_s_X4_told q_m_X10_111 dX10_text_43 rfl rfl (by repeat (first | assumption | exact hset_eq _ _ _ | (apply WAt.hd; assumption) | rw [hset_ne _ _ (by omega)])) rfl rfl (by exact Nat.le_of_ble_eq_true rfl) ⟨by decide, by decide⟩ ⟨rfl, rfl, Nat.zero_le _, Nat.zero_le _⟩ (fun r h4 hp => ?_)
      obtain ⟨rfl, rfl⟩ := hp
      refine n_Vv (pc := 46) (c_X6_tell st3 ha w1 w2 (Or.inl rfl) (by omega)) bX6_tell q_i_X6_tell q_s_X6_tell q_m_X10_115 dX10_text_46 rfl rfl (by repeat (first | assumption | exact hset_eq _ _ _ | (apply WAt.hd; assumption) | rw [hset_ne _ _ (by omega)])) rfl rfl (by exact Nat.le_of_ble_eq_true rfl) ⟨by decide, by decide⟩ ⟨rfl, rfl, Nat.zero_le _, Nat.zero_le _⟩ (fun h5 hp => ?_)
      obtain ⟨t1, t2, t3⟩ := hp
      have up5 := up.1.now t3 t1
      have a15 := up5.1.1
      have z25 : RHx h5 (o + 167) 0 (nI 0) (-1) := up5.1.2.2.2.1.1
      obtain ⟨_, _, _, _, _, _, r5⟩ := id z25
      refine e_aload_n (pc := 49) dX10_text_49 rfl rfl ?_
      refine e_get (pc := 50) fl_X10_26 dX10_text_50 (by repeat (first | assumption | exact hset_eq _ _ _ | (apply WAt.hd; assumption) | rw [hset_ne _ _ (by omega)])) (by rfl) ?_
      refine n_Vr (pc := 53) (c_X4_told z25) bX4_told q_i_X4_told q_s_X4_told q_m_X10_111 dX10_text_53 rfl rfl (by repeat (first | assumption | exact hset_eq _ _ _ | (apply WAt.hd; assumption) | rw [hset_ne _ _ (by omega)])) rfl rfl (by exact Nat.le_of_ble_eq_true rfl) ⟨by decide, by decide⟩ ⟨rfl, rfl, Nat.zero_le _, Nat.zero_le _⟩ (fun r h6 hp => ?_)
      obtain ⟨rfl, rfl⟩ := hp
      refine n_VP (pc := 56) (c_X9_order t2) bX9_order q_i_X9_order q_s_X9_order q_m_X10_119 dX10_text_56 rfl rfl (by repeat (first | assumption | exact hset_eq _ _ _ | (apply WAt.hd; assumption) | rw [hset_ne _ _ (by omega)])) rfl rfl (by exact Nat.le_of_ble_eq_true rfl) ⟨by decide, by decide⟩ ⟨rfl, rfl, Nat.zero_le _, Nat.zero_le _⟩ ?_
      refine n_iret (pc := 59) dX10_text_59 rfl ⟨_, _, _, qT (ok6 ha) ?_, up5.1, up.2.tr up5.2⟩
      rw [ht, cl_nI (by omega)]
      exact ⟨rfl, rfl, rfl, rfl⟩
  · refine e_astore_nN (pc := 8) dX10_text_8 rfl (by decide) ?_
    refine e_aload_nN (pc := 9) dX10_text_9 rfl rfl ?_
    refine e_ifnonnullN (pc := 10) dX10_text_10 ?_
    refine e_aload_n (pc := 13) dX10_text_13 rfl rfl ?_
    refine e_get (pc := 14) fl_X10_26 dX10_text_14 (by repeat (first | assumption | exact hset_eq _ _ _ | (apply WAt.hd; assumption) | rw [hset_ne _ _ (by omega)])) (by rfl) ?_
    refine n_Vv (pc := 17) (c_X4_forget a4) bX4_forget q_i_X4_forget q_s_X4_forget q_m_X10_105 dX10_text_17 rfl rfl (by repeat (first | assumption | exact hset_eq _ _ _ | (apply WAt.hd; assumption) | rw [hset_ne _ _ (by omega)])) rfl rfl (by exact Nat.le_of_ble_eq_true rfl) ⟨by decide, by decide⟩ ⟨rfl, rfl, Nat.zero_le _, Nat.zero_le _⟩ (fun h3 hp => ?_)
    obtain ⟨p1, p2⟩ := hp
    refine e_iconst (pc := 20) (v := -1) dX10_text_20 (by decide) ?_
    have up := hX.rd p2 p1
    exact n_iret (pc := 21) dX10_text_21 rfl ⟨x, _, _, qF hw ⟨rfl, rfl, rfl, rfl⟩, up⟩
end XI
