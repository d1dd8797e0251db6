/-! ===== the class's face: acts, tape, lists, the image ===== -/
section XI
variable {h : AH} {o : Nat} {x y : Sx} {ik : Bool} {len : Nat} {f : Nat → Nat} {ft fp : Int32} {σ : Nat → Nat}
theorem XAt.rd {h2 : AH} {len2 : Nat} {f2 : Nat → Nat} {ft2 fp2 : Int32} (hX : XAt h o x y ik len f ft fp) (e : Er (o + 167) (o + 167 + 14) h h2) (hr : RdS h2 (o + 167) len2 f2 ft2 fp2) : XAt h2 o x y ik len2 f2 ft2 fp2 ∧ Er o (o + 303) h h2 := by
  obtain ⟨a1, ⟨σ, a2⟩, ⟨τ, a3⟩, a4, a5, a6, ⟨S, a7⟩, W, fd, a8, a9⟩ := hX
  exact ⟨⟨(e _ (by omega)).trans a1, ⟨σ, a2.far (fun a x y => e a (by omega))⟩, ⟨τ, a3.far (fun a x y => e a (by omega))⟩, hr, ⟨a5.1.far (fun a x y => e a (by omega)), (e _ (by omega)).trans a5.2⟩, a6.far (fun a x y => e a (by omega)), ⟨S, a7.far (fun a x y => e a (by omega))⟩, W, fd, a8.kp (fun a x y => e a (by omega)), a9⟩, e.mono (by omega) (by omega)⟩
def QS_digit (x : Sx) (w i j k v z : Int32) (x2 : Sx) : Prop := if (okI w 6 && (okI i (wld x w).2.1 && okI j (wld x w).2.1 && okI k (wld x w).2.1 && okI v (wld x w).1)) = true then z = nI 1 ∧ x2 = x.tellW w.toNatClampNeg (wput (wld x w) i.toNatClampNeg j.toNatClampNeg k.toNatClampNeg v.toNatClampNeg) else z = nI 0 ∧ x2 = x
theorem c_X10_digit (hX : XAt h o x y ik len f ft fp) (w i j k v : Int32) : CI yX10_digit MX10_digit [.ref o, .int w, .int i, .int j, .int k, .int v] h (fun z h' => ∃ x2, QS_digit x w i j k v z x2 ∧ XAt h' o x2 y ik len f ft fp ∧ Er o (o + 303) h h') := by
  obtain ⟨a1, ⟨σ, a2⟩, -, -, a5, a6, ⟨S0, a7⟩, D, df, d1, d2⟩ := id hX
  obtain ⟨s1, -⟩ := id a2.1
  have no : (okI w 6 && (okI i (wld x w).2.1 && okI j (wld x w).2.1 && okI k (wld x w).2.1 && okI v (wld x w).1)) = false → ∀ (sz : Nat) (l : List (Option Value)), VI MX10_digit sz (fun z h' => ∃ x2, QS_digit x w i j k v z x2 ∧ XAt h' o x2 y ik len f ft fp ∧ Er o (o + 303) h h') h 42 l [] := fun q sz l => by
    refine n_iconst (pc := 42) 0 dX10_digit_42 (by decide) ?_
    exact n_zret (pc := 43) dX10_digit_43 rfl rfl ⟨x, qF q ⟨rfl, rfl⟩, hX, Er.rf _ _ _⟩
  refine CI.ofV (by decide) rfl rfl (by simp [Value.category]) (by exact Nat.le_of_ble_eq_true rfl) (fun sz => ?_)
  refine e_aload_n (pc := 0) dX10_digit_0 rfl rfl ?_
  refine e_get (pc := 1) fl_X10_10 dX10_digit_1 (by repeat (first | assumption | exact hset_eq _ _ _ | (apply WAt.hd; assumption) | rw [hset_ne _ _ (by omega)])) (by rfl) ?_
  refine e_iload_n (pc := 4) dX10_digit_4 rfl rfl ?_
  refine n_Vr (pc := 5) (c_X6_world a2 w) bX6_world q_i_X6_world q_s_X6_world q_m_X10_101 dX10_digit_5 rfl rfl (by repeat (first | assumption | exact hset_eq _ _ _ | (apply WAt.hd; assumption) | rw [hset_ne _ _ (by omega)])) rfl rfl (by exact Nat.le_of_ble_eq_true rfl) ⟨by decide, by decide⟩ ⟨rfl, rfl, Nat.zero_le _, Nat.zero_le _⟩ (fun r h2 hp => ?_)
  obtain ⟨rfl, hr⟩ := hp
  rcases hr with ⟨a, ha, rfl, rfl⟩ | ⟨hw, rfl⟩
  · obtain ⟨wf, w1, w2⟩ := a2.w (show a < 26 by omega)
    have wk := a2.ok (show a < 26 by omega)
    have nb := wk.b
    have bd := a2.bd (show a < 26 by omega)
    have cl : wld x (nI a) = x.ws a := by unfold wld; rw [cl_nI (by omega)]
    rw [cl] at no
    refine e_astore (pc := 8) dX10_digit_8 (by decide) ?_
    refine e_aload (pc := 10) dX10_digit_10 rfl ?_
    refine e_ifnull (pc := 12) dX10_digit_12 ?_
    refine e_aload (pc := 15) dX10_digit_15 rfl ?_
    refine e_iload_n (pc := 17) dX10_digit_17 rfl rfl ?_
    refine e_iload_n (pc := 18) dX10_digit_18 rfl rfl ?_
    refine e_iload (pc := 19) dX10_digit_19 rfl ?_
    refine n_VP (pc := 21) (c_X9_hasCell w1 i j k) bX9_hasCell q_i_X9_hasCell q_s_X9_hasCell q_m_X10_128 dX10_digit_21 rfl rfl (by repeat (first | assumption | exact hset_eq _ _ _ | (apply WAt.hd; assumption) | rw [hset_ne _ _ (by omega)])) rfl rfl (by exact Nat.le_of_ble_eq_true rfl) ⟨by decide, by decide⟩ ⟨rfl, rfl, Nat.zero_le _, Nat.zero_le _⟩ ?_
    cases hc : (okI i (x.ws a).2.1 && okI j (x.ws a).2.1 && okI k (x.ws a).2.1) with
    | false =>
      refine e_if_eq (pc := 24) (tgt := 42) dX10_digit_24 (by decide) (fun _ => no (by rw [hc, Bool.false_and, Bool.and_false]) sz _) (fun q => absurd rfl q)
    | true =>
      refine e_if_eq (pc := 24) (tgt := 42) dX10_digit_24 (by decide) (fun q => absurd q (by decide)) (fun _ => ?_)
      refine e_iload (pc := 27) dX10_digit_27 rfl ?_
      refine e_if_lt (pc := 29) (tgt := 42) dX10_digit_29 (by decide) (fun q => no (by rw [okI_lt q, Bool.and_false, Bool.and_false]) sz _) (fun q1 => ?_)
      refine e_iload (pc := 32) dX10_digit_32 rfl ?_
      refine e_aload (pc := 34) dX10_digit_34 rfl ?_
      refine n_VP (pc := 36) (c_X9_prime w1) bX9_prime q_i_X9_prime q_s_X9_prime q_m_X10_132 dX10_digit_36 rfl rfl (by repeat (first | assumption | exact hset_eq _ _ _ | (apply WAt.hd; assumption) | rw [hset_ne _ _ (by omega)])) rfl rfl (by exact Nat.le_of_ble_eq_true rfl) ⟨by decide, by decide⟩ ⟨rfl, rfl, Nat.zero_le _, Nat.zero_le _⟩ ?_
      refine e_icmp_lt (pc := 39) (tgt := 44) dX10_digit_39 (by decide) (fun q2 => ?_) (fun q2 => no (by rw [okI_ge (Int32.not_lt.mp q2), Bool.and_false, Bool.and_false]) sz _)
      have hv : okI v (x.ws a).1 = true := okI_in q1 (Int32.not_le.mpr q2)
      have hc' := hc
      simp only [Bool.and_eq_true] at hc'
      obtain ⟨i', hi, rfl⟩ := okI_of (by omega) hc'.1.1
      obtain ⟨j', hj, rfl⟩ := okI_of (by omega) hc'.1.2
      obtain ⟨k', hk, rfl⟩ := okI_of (by omega) hc'.2
      obtain ⟨v', hv1, rfl⟩ := okI_of (by omega) hv
      refine e_aload_n (pc := 44) dX10_digit_44 rfl rfl ?_
      refine e_get (pc := 45) fl_X10_81 dX10_digit_45 (by repeat (first | assumption | exact hset_eq _ _ _ | (apply WAt.hd; assumption) | rw [hset_ne _ _ (by omega)])) (by rfl) ?_
      refine e_aload (pc := 48) dX10_digit_48 rfl ?_
      refine n_Vv (pc := 50) (c_X9_copy d1 w1 d2 wk (by omega)) bX9_copy q_i_X9_copy q_s_X9_copy q_m_X10_135 dX10_digit_50 rfl rfl (by repeat (first | assumption | exact hset_eq _ _ _ | (apply WAt.hd; assumption) | rw [hset_ne _ _ (by omega)])) rfl rfl (by exact Nat.le_of_ble_eq_true rfl) ⟨by decide, by decide⟩ ⟨rfl, rfl, Nat.zero_le _, Nat.zero_le _⟩ (fun h3 hp => ?_)
      obtain ⟨p1, p2⟩ := hp
      have a13 := (p2 o (by omega) (by omega) (by omega)).trans a1
      refine e_aload_n (pc := 53) dX10_digit_53 rfl rfl ?_
      refine e_get (pc := 54) fl_X10_81 dX10_digit_54 (by repeat (first | assumption | exact hset_eq _ _ _ | (apply WAt.hd; assumption) | rw [hset_ne _ _ (by omega)])) (by rfl) ?_
      refine e_iload_n (pc := 57) dX10_digit_57 rfl rfl ?_
      refine e_iload_n (pc := 58) dX10_digit_58 rfl rfl ?_
      refine e_iload (pc := 59) dX10_digit_59 rfl ?_
      refine e_iload (pc := 61) dX10_digit_61 rfl ?_
      refine n_Vv (pc := 63) (c_X9_put p1 wk hi hj hk) bX9_put q_i_X9_put q_s_X9_put q_m_X10_139 dX10_digit_63 rfl rfl (by repeat (first | assumption | exact hset_eq _ _ _ | (apply WAt.hd; assumption) | rw [hset_ne _ _ (by omega)])) rfl rfl (by exact Nat.le_of_ble_eq_true rfl) ⟨by decide, by decide⟩ ⟨rfl, rfl, Nat.zero_le _, Nat.zero_le _⟩ (fun h4 hp => ?_)
      obtain ⟨r1, r2⟩ := hp
      have far : ∀ t, (t < o + 181 + 119 ∨ o + 181 + 122 ≤ t) → h4 t = h2 t := fun t t1 => (r2 t (by omega) (by omega) (by omega)).trans (p2 t (by omega) (by omega) (by omega))
      have a14 := (far o (by omega)).trans a1
      have st4 : StA h4 (o + 1) σ x := a2.far (fun t t1 t2 => far t (by omega))
      obtain ⟨s14, -⟩ := id st4.1
      have wo := wput_ok wk hi hj hk hv1
      refine e_aload_n (pc := 66) dX10_digit_66 rfl rfl ?_
      refine e_get (pc := 67) fl_X10_10 dX10_digit_67 (by repeat (first | assumption | exact hset_eq _ _ _ | (apply WAt.hd; assumption) | rw [hset_ne _ _ (by omega)])) (by rfl) ?_
      refine e_iload_n (pc := 70) dX10_digit_70 rfl rfl ?_
      refine e_aload_n (pc := 71) dX10_digit_71 rfl rfl ?_
      refine e_get (pc := 72) fl_X10_81 dX10_digit_72 (by repeat (first | assumption | exact hset_eq _ _ _ | (apply WAt.hd; assumption) | rw [hset_ne _ _ (by omega)])) (by rfl) ?_
      refine n_Vv (pc := 75) (c_X6_tell st4 ha r1 wo (Or.inl rfl) (by omega)) bX6_tell q_i_X6_tell q_s_X6_tell q_m_X10_115 dX10_digit_75 rfl rfl (by repeat (first | assumption | exact hset_eq _ _ _ | (apply WAt.hd; assumption) | rw [hset_ne _ _ (by omega)])) rfl rfl (by exact Nat.le_of_ble_eq_true rfl) ⟨by decide, by decide⟩ ⟨rfl, rfl, Nat.zero_le _, Nat.zero_le _⟩ (fun h5 hp => ?_)
      obtain ⟨t1, t2, t3⟩ := hp
      refine n_iconst (pc := 78) 1 dX10_digit_78 (by decide) ?_
      have up := hX.up (h2 := h5) (fun t q1 q2 q3 => (t3 t (by omega)).trans (far t q3)) (a5.1.far (fun t q1 q2 => (t3 t (by omega)).trans (far t (by omega)))) t1 ⟨_, _, t2, wo⟩
      refine n_zret (pc := 79) dX10_digit_79 rfl rfl ⟨_, qT (by rw [cl, ok6 ha, hc, hv]; rfl) ⟨rfl, ?_⟩, up⟩
      rw [cl, cl_nI (by omega), cl_nI (by omega), cl_nI (by omega), cl_nI (by omega), cl_nI (by omega)]
  · refine e_astoreN (pc := 8) dX10_digit_8 (by decide) ?_
    refine e_aloadN (pc := 10) dX10_digit_10 rfl ?_
    refine e_ifnullN (pc := 12) (tgt := 42) dX10_digit_12 (by decide) ?_
    exact no (by rw [hw, Bool.false_and]) sz _
def QS_turn (x : Sx) (a b w z : Int32) (x2 : Sx) : Prop := if (okI a 6 && (okI b 6 && okI w 6)) = true then z = nI 1 ∧ x2 = x.tellW b.toNatClampNeg (wturn (wld x a) w.toNatClampNeg) else z = nI 0 ∧ x2 = x
theorem c_X10_turn (hX : XAt h o x y ik len f ft fp) (u v w : Int32) : CI yX10_turn MX10_turn [.ref o, .int u, .int v, .int w] h (fun z h' => ∃ x2, QS_turn x u v w z x2 ∧ XAt h' o x2 y ik len f ft fp ∧ Er o (o + 303) h h') := by
  obtain ⟨a1, ⟨σ, a2⟩, -, -, a5, a6, ⟨S0, a7⟩, D, df, d1, d2⟩ := id hX
  obtain ⟨s1, -⟩ := id a2.1
  have no : (okI u 6 && (okI v 6 && okI w 6)) = false → ∀ (sz : Nat) (l : List (Option Value)), VI MX10_turn sz (fun z h' => ∃ x2, QS_turn x u v w z x2 ∧ XAt h' o x2 y ik len f ft fp ∧ Er o (o + 303) h h') h 35 l [] := fun q sz l => by
    refine n_iconst (pc := 35) 0 dX10_turn_35 (by decide) ?_
    exact n_zret (pc := 36) dX10_turn_36 rfl rfl ⟨x, qF q ⟨rfl, rfl⟩, hX, Er.rf _ _ _⟩
  refine CI.ofV (by decide) rfl rfl (by simp [Value.category]) (by exact Nat.le_of_ble_eq_true rfl) (fun sz => ?_)
  refine e_aload_n (pc := 0) dX10_turn_0 rfl rfl ?_
  refine e_get (pc := 1) fl_X10_10 dX10_turn_1 (by repeat (first | assumption | exact hset_eq _ _ _ | (apply WAt.hd; assumption) | rw [hset_ne _ _ (by omega)])) (by rfl) ?_
  refine e_iload_n (pc := 4) dX10_turn_4 rfl rfl ?_
  refine n_Vr (pc := 5) (c_X6_world a2 u) bX6_world q_i_X6_world q_s_X6_world q_m_X10_101 dX10_turn_5 rfl rfl (by repeat (first | assumption | exact hset_eq _ _ _ | (apply WAt.hd; assumption) | rw [hset_ne _ _ (by omega)])) rfl rfl (by exact Nat.le_of_ble_eq_true rfl) ⟨by decide, by decide⟩ ⟨rfl, rfl, Nat.zero_le _, Nat.zero_le _⟩ (fun r h2 hp => ?_)
  obtain ⟨rfl, hr⟩ := hp
  rcases hr with ⟨a, ha, rfl, rfl⟩ | ⟨hw, rfl⟩
  · obtain ⟨wf, w1, w2⟩ := a2.w (show a < 26 by omega)
    have wk := a2.ok (show a < 26 by omega)
    have bd := a2.bd (show a < 26 by omega)
    have cl : wld x (nI a) = x.ws a := by unfold wld; rw [cl_nI (by omega)]
    refine e_astore (pc := 8) dX10_turn_8 (by decide) ?_
    refine e_aload (pc := 10) dX10_turn_10 rfl ?_
    refine e_ifnull (pc := 12) dX10_turn_12 ?_
    refine e_aload_n (pc := 15) dX10_turn_15 rfl rfl ?_
    refine e_get (pc := 16) fl_X10_10 dX10_turn_16 (by repeat (first | assumption | exact hset_eq _ _ _ | (apply WAt.hd; assumption) | rw [hset_ne _ _ (by omega)])) (by rfl) ?_
    refine e_iload_n (pc := 19) dX10_turn_19 rfl rfl ?_
    refine n_Vr (pc := 20) (c_X6_world a2 v) bX6_world q_i_X6_world q_s_X6_world q_m_X10_101 dX10_turn_20 rfl rfl (by repeat (first | assumption | exact hset_eq _ _ _ | (apply WAt.hd; assumption) | rw [hset_ne _ _ (by omega)])) rfl rfl (by exact Nat.le_of_ble_eq_true rfl) ⟨by decide, by decide⟩ ⟨rfl, rfl, Nat.zero_le _, Nat.zero_le _⟩ (fun r h2 hp => ?_)
    obtain ⟨rfl, hr⟩ := hp
    rcases hr with ⟨b, hb, rfl, rfl⟩ | ⟨hw, rfl⟩
    · refine e_ifnull (pc := 23) dX10_turn_23 ?_
      refine e_iload_n (pc := 26) dX10_turn_26 rfl rfl ?_
      refine e_if_lt (pc := 27) (tgt := 35) dX10_turn_27 (by decide) (fun q => no (by rw [okI_lt q, Bool.and_false, Bool.and_false]) sz _) (fun q1 => ?_)
      refine e_iload_n (pc := 30) dX10_turn_30 rfl rfl ?_
      refine n_iconst (pc := 31) 5 dX10_turn_31 (by decide) ?_
      refine e_icmp_le (pc := 32) (tgt := 37) dX10_turn_32 (by decide) (fun q2 => ?_) (fun q2 => no (by rw [okI_gt (n := 5) (by decide) (Int32.not_le.mp q2), Bool.and_false, Bool.and_false]) sz _)
      have hw := okI_le (n := 5) (by decide) q1 q2
      obtain ⟨t, ht, rfl⟩ := okI_of (by omega) hw
      refine e_aload_n (pc := 37) dX10_turn_37 rfl rfl ?_
      refine e_get (pc := 38) fl_X10_81 dX10_turn_38 (by repeat (first | assumption | exact hset_eq _ _ _ | (apply WAt.hd; assumption) | rw [hset_ne _ _ (by omega)])) (by rfl) ?_
      refine e_aload (pc := 41) dX10_turn_41 rfl ?_
      refine e_iload_n (pc := 43) dX10_turn_43 rfl rfl ?_
      refine n_Vv (pc := 44) (c_X9_turnFrom d1 d2 w1 wk ht (by omega)) bX9_turnFrom q_i_X9_turnFrom q_s_X9_turnFrom q_m_X10_222 dX10_turn_44 rfl rfl (by repeat (first | assumption | exact hset_eq _ _ _ | (apply WAt.hd; assumption) | rw [hset_ne _ _ (by omega)])) rfl rfl (by exact Nat.le_of_ble_eq_true rfl) ⟨by decide, by decide⟩ ⟨rfl, rfl, Nat.zero_le _, Nat.zero_le _⟩ (fun h3 hp => ?_)
      obtain ⟨r1, r2⟩ := hp
      have far : ∀ t, (t < o + 181 + 119 ∨ o + 181 + 122 ≤ t) → h3 t = h2 t := fun t t1 => r2 t (by omega) (by omega) (by omega)
      have a14 := (far o (by omega)).trans a1
      have st4 : StA h3 (o + 1) σ x := a2.far (fun t t1 t2 => far t (by omega))
      obtain ⟨s14, -⟩ := id st4.1
      refine e_aload_n (pc := 47) dX10_turn_47 rfl rfl ?_
      refine e_get (pc := 48) fl_X10_10 dX10_turn_48 (by repeat (first | assumption | exact hset_eq _ _ _ | (apply WAt.hd; assumption) | rw [hset_ne _ _ (by omega)])) (by rfl) ?_
      refine e_iload_n (pc := 51) dX10_turn_51 rfl rfl ?_
      refine e_aload_n (pc := 52) dX10_turn_52 rfl rfl ?_
      refine e_get (pc := 53) fl_X10_81 dX10_turn_53 (by repeat (first | assumption | exact hset_eq _ _ _ | (apply WAt.hd; assumption) | rw [hset_ne _ _ (by omega)])) (by rfl) ?_
      refine n_Vv (pc := 56) (c_X6_tell st4 hb r1 (wturn_ok wk t) (Or.inl rfl) (by omega)) bX6_tell q_i_X6_tell q_s_X6_tell q_m_X10_115 dX10_turn_56 rfl rfl (by repeat (first | assumption | exact hset_eq _ _ _ | (apply WAt.hd; assumption) | rw [hset_ne _ _ (by omega)])) rfl rfl (by exact Nat.le_of_ble_eq_true rfl) ⟨by decide, by decide⟩ ⟨rfl, rfl, Nat.zero_le _, Nat.zero_le _⟩ (fun h5 hp => ?_)
      obtain ⟨t1, t2, t3⟩ := hp
      refine n_iconst (pc := 59) 1 dX10_turn_59 (by decide) ?_
      have up := hX.up (h2 := h5) (fun t q1 q2 q3 => (t3 t (by omega)).trans (far t q3)) (a5.1.far (fun t q1 q2 => (t3 t (by omega)).trans (far t (by omega)))) t1 ⟨_, _, t2, wturn_ok wk t⟩
      refine n_zret (pc := 60) dX10_turn_60 rfl rfl ⟨_, qT (by rw [ok6 ha, ok6 hb, hw]; rfl) ⟨rfl, ?_⟩, up⟩
      rw [cl, cl_nI (by omega), cl_nI (by omega)]
    · refine e_ifnullN (pc := 23) (tgt := 35) dX10_turn_23 (by decide) ?_
      exact no (by rw [hw, Bool.false_and, Bool.and_false]) sz _
  · refine e_astoreN (pc := 8) dX10_turn_8 (by decide) ?_
    refine e_aloadN (pc := 10) dX10_turn_10 rfl ?_
    refine e_ifnullN (pc := 12) (tgt := 35) dX10_turn_12 (by decide) ?_
    exact no (by rw [hw, Bool.false_and]) sz _
def QS_uni (x : Sx) (a b e z : Int32) (x2 : Sx) : Prop := if (okI a 6 && (okI b 6 && (decide (e ≠ nI 0) && (okI e ((wld x a).1 ^ (wld x a).2.1) && bl (Div (wld x a)))))) = true then z = nI (mul (wld x a) e.toNatClampNeg e.toNatClampNeg) ∧ x2 = x.tellW b.toNatClampNeg (wuni (wld x a) e.toNatClampNeg) else z = -1 ∧ x2 = x
theorem wuni_ok2 {W : Wd} (hk : Wok W) (e : Nat) : Wok (wuni W e) := wd_ok ⟨hk.1, hk.2.1, hk.2.2.1, hk.2.2.2.1⟩ (fun t => dg_lt (by have := hk.b; omega) _ _)
theorem c_X10_unital (hX : XAt h o x y ik len f ft fp) (u v e : Int32) : CI yX10_unital MX10_unital [.ref o, .int u, .int v, .int e] h (fun z h' => ∃ x2, QS_uni x u v e z x2 ∧ XAt h' o x2 y ik len f ft fp ∧ Er o (o + 303) h h') := by
  obtain ⟨a1, ⟨σ, a2⟩, -, -, a5, a6, ⟨S0, a7⟩, -⟩ := id hX
  obtain ⟨s1, -⟩ := id a2.1
  have t5 := a5.1.2.1
  have hs : XAs h o σ x y ik len f ft fp := ⟨hX, a2⟩
  have no : (okI u 6 && (okI v 6 && (decide (e ≠ nI 0) && okI e ((wld x u).1 ^ (wld x u).2.1)))) = false → ∀ (sz : Nat) (l : List (Option Value)), VI MX10_unital sz (fun z h' => ∃ x2, QS_uni x u v e z x2 ∧ XAt h' o x2 y ik len f ft fp ∧ Er o (o + 303) h h') h 39 l [] := fun q sz l => by
    refine e_iconst (pc := 39) (v := -1) dX10_unital_39 (by decide) ?_
    refine n_iret (pc := 40) dX10_unital_40 rfl ⟨x, qF ?_ ⟨rfl, rfl⟩, hX, Er.rf _ _ _⟩
    revert q
    cases okI u 6 <;> cases okI v 6 <;> cases decide (e ≠ nI 0) <;> cases okI e ((wld x u).1 ^ (wld x u).2.1) <;> cases bl (Div (wld x u)) <;> decide
  refine CI.ofV (by decide) rfl rfl (by simp [Value.category]) (by exact Nat.le_of_ble_eq_true rfl) (fun sz => ?_)
  refine e_aload_n (pc := 0) dX10_unital_0 rfl rfl ?_
  refine e_get (pc := 1) fl_X10_10 dX10_unital_1 (by repeat (first | assumption | exact hset_eq _ _ _ | (apply WAt.hd; assumption) | rw [hset_ne _ _ (by omega)])) (by rfl) ?_
  refine e_iload_n (pc := 4) dX10_unital_4 rfl rfl ?_
  refine n_Vr (pc := 5) (c_X6_world a2 u) bX6_world q_i_X6_world q_s_X6_world q_m_X10_101 dX10_unital_5 rfl rfl (by repeat (first | assumption | exact hset_eq _ _ _ | (apply WAt.hd; assumption) | rw [hset_ne _ _ (by omega)])) rfl rfl (by exact Nat.le_of_ble_eq_true rfl) ⟨by decide, by decide⟩ ⟨rfl, rfl, Nat.zero_le _, Nat.zero_le _⟩ (fun r h2 hp => ?_)
  obtain ⟨rfl, hr⟩ := hp
  rcases hr with ⟨a, ha, rfl, rfl⟩ | ⟨hw, rfl⟩
  · obtain ⟨wf, w1, w2⟩ := a2.w (show a < 26 by omega)
    have wk := a2.ok (show a < 26 by omega)
    have nb := wk.b
    have bd := a2.bd (show a < 26 by omega)
    have cl : wld x (nI a) = x.ws a := by unfold wld; rw [cl_nI (by omega)]
    rw [cl] at no
    refine e_astore (pc := 8) dX10_unital_8 (by decide) ?_
    refine e_aload (pc := 10) dX10_unital_10 rfl ?_
    refine e_ifnull (pc := 12) dX10_unital_12 ?_
    refine e_aload_n (pc := 15) dX10_unital_15 rfl rfl ?_
    refine e_get (pc := 16) fl_X10_10 dX10_unital_16 (by repeat (first | assumption | exact hset_eq _ _ _ | (apply WAt.hd; assumption) | rw [hset_ne _ _ (by omega)])) (by rfl) ?_
    refine e_iload_n (pc := 19) dX10_unital_19 rfl rfl ?_
    refine n_Vr (pc := 20) (c_X6_world a2 v) bX6_world q_i_X6_world q_s_X6_world q_m_X10_101 dX10_unital_20 rfl rfl (by repeat (first | assumption | exact hset_eq _ _ _ | (apply WAt.hd; assumption) | rw [hset_ne _ _ (by omega)])) rfl rfl (by exact Nat.le_of_ble_eq_true rfl) ⟨by decide, by decide⟩ ⟨rfl, rfl, Nat.zero_le _, Nat.zero_le _⟩ (fun r h2 hp => ?_)
    obtain ⟨rfl, hr⟩ := hp
    rcases hr with ⟨b, hb, rfl, rfl⟩ | ⟨hw, rfl⟩
    · refine e_ifnull (pc := 23) dX10_unital_23 ?_
      refine e_iload_n (pc := 26) dX10_unital_26 rfl rfl ?_
      refine e_if_eq (pc := 27) (tgt := 39) dX10_unital_27 (by decide) (fun q => no (by rw [decide_eq_false (fun z => z (q.trans nI_0.symm)), Bool.false_and, Bool.and_false, Bool.and_false]) sz _) (fun q0 => ?_)
      have e0 : e ≠ nI 0 := fun z => q0 (z.trans nI_0)
      refine e_aload (pc := 30) dX10_unital_30 rfl ?_
      refine e_iload_n (pc := 32) dX10_unital_32 rfl rfl ?_
      refine n_VP (pc := 33) (c_X9_hasElement w1 e) bX9_hasElement q_i_X9_hasElement q_s_X9_hasElement q_m_X10_189 dX10_unital_33 rfl rfl (by repeat (first | assumption | exact hset_eq _ _ _ | (apply WAt.hd; assumption) | rw [hset_ne _ _ (by omega)])) rfl rfl (by exact Nat.le_of_ble_eq_true rfl) ⟨by decide, by decide⟩ ⟨rfl, rfl, Nat.zero_le _, Nat.zero_le _⟩ ?_
      cases he : okI e ((x.ws a).1 ^ (x.ws a).2.1) with
      | false =>
        refine e_if_ne (pc := 36) (tgt := 41) dX10_unital_36 (by decide) (fun q => absurd rfl q) (fun _ => ?_)
        exact no (by rw [he, Bool.and_false, Bool.and_false, Bool.and_false]) sz _
      | true =>
        refine e_if_ne (pc := 36) (tgt := 41) dX10_unital_36 (by decide) (fun _ => ?_) (fun q => absurd q (by decide))
        obtain ⟨e', e1, rfl⟩ := okI_of (by omega) he
        have ep : 0 < e' := Nat.pos_of_ne_zero (fun z => e0 (by rw [z]))
        refine e_aload_n (pc := 41) dX10_unital_41 rfl rfl ?_
        refine e_get (pc := 42) fl_X10_51 dX10_unital_42 (by repeat (first | assumption | exact hset_eq _ _ _ | (apply WAt.hd; assumption) | rw [hset_ne _ _ (by omega)])) (by rfl) ?_
        refine e_aload (pc := 45) dX10_unital_45 rfl ?_
        refine n_V (pc := 47) (c_X7_divides a5.1 w1 wk w2 (by omega)) bX7_divides q_i_X7_divides q_s_X7_divides q_m_X10_150 dX10_unital_47 rfl rfl (by repeat (first | assumption | exact hset_eq _ _ _ | (apply WAt.hd; assumption) | rw [hset_ne _ _ (by omega)])) rfl rfl (by exact Nat.le_of_ble_eq_true rfl) ⟨by decide, by decide⟩ ⟨rfl, rfl, Nat.zero_le _, Nat.zero_le _⟩ (fun z h3 hp => ?_)
        obtain ⟨hz, ⟨f2, p1, p2⟩, p3, p4⟩ := hp
        have r3 := hs.fr ha p4 p3 p2 p1
        rcases hz with ⟨hD, rfl⟩ | ⟨hD, rfl⟩
        · refine e_if_ne (pc := 50) (tgt := 55) dX10_unital_50 (by decide) (fun _ => ?_) (fun q => absurd q (by decide))
          obtain ⟨b1, b5, b6, b7⟩ := r3.1.get
          have t5 := b5.1.2.1
          obtain ⟨D, df, d1, d2⟩ := r3.1.1.2.2.2.2.2.2.2
          refine e_aload_n (pc := 55) dX10_unital_55 rfl rfl ?_
          refine e_get (pc := 56) fl_X10_51 dX10_unital_56 (by repeat (first | assumption | exact hset_eq _ _ _ | (apply WAt.hd; assumption) | rw [hset_ne _ _ (by omega)])) (by rfl) ?_
          refine e_aload (pc := 59) dX10_unital_59 rfl ?_
          refine e_iload_n (pc := 61) dX10_unital_61 rfl rfl ?_
          refine e_aload_n (pc := 62) dX10_unital_62 rfl rfl ?_
          refine e_get (pc := 63) fl_X10_81 dX10_unital_63 (by repeat (first | assumption | exact hset_eq _ _ _ | (apply WAt.hd; assumption) | rw [hset_ne _ _ (by omega)])) (by rfl) ?_
          refine n_Vv (pc := 66) (c_X7_makeUnital b5.1 p2 wk d1 d2 hD ep e1 (by omega) (by omega) (by omega)) bX7_makeUnital q_i_X7_makeUnital q_s_X7_makeUnital q_m_X10_226 dX10_unital_66 rfl rfl (by repeat (first | assumption | exact hset_eq _ _ _ | (apply WAt.hd; assumption) | rw [hset_ne _ _ (by omega)])) rfl rfl (by exact Nat.le_of_ble_eq_true rfl) ⟨by decide, by decide⟩ ⟨rfl, rfl, Nat.zero_le _, Nat.zero_le _⟩ (fun h4 hp => ?_)
          obtain ⟨m1, m2, m3, m4⟩ := hp
          have far4 : ∀ t, (t < o + 181 ∨ o + 181 + 89 ≤ t) → (t < wa (o + 1) σ a ∨ wa (o + 1) σ a + 3 ≤ t) → (t < o + 181 + 119 ∨ o + 181 + 122 ≤ t) → h4 t = h3 t := fun t t1 t2 t3 => m4 t t1 (by omega) (by omega) (by omega) (by omega) (by omega) (by omega)
          refine e_aload (pc := 69) dX10_unital_69 rfl ?_
          refine e_iload_n (pc := 71) dX10_unital_71 rfl rfl ?_
          refine e_iload_n (pc := 72) dX10_unital_72 rfl rfl ?_
          refine n_V (pc := 73) (c_X9_times2 m2 wk (show e' < 3125 by omega) (show e' < 3125 by omega)) bX9_times q_i_X9_times q_s_X9_times q_m_X10_192 dX10_unital_73 rfl rfl (by repeat (first | assumption | exact hset_eq _ _ _ | (apply WAt.hd; assumption) | rw [hset_ne _ _ (by omega)])) rfl rfl (by exact Nat.le_of_ble_eq_true rfl) ⟨by decide, by decide⟩ ⟨rfl, rfl, Nat.zero_le _, Nat.zero_le _⟩ (fun z h5 hp => ?_)
          obtain ⟨rfl, n1, n2⟩ := hp
          have st5 : StA h5 (o + 1) σ x := r3.1.2.same (show a < 26 by omega) (fun t q1 q2 q3 q4 q5 => (n2 t (by omega)).trans (far4 t (by omega) (by omega) (by omega))) n1 p1
          obtain ⟨s15, -⟩ := id st5.1
          have a15 := ((n2 o (by omega)).trans (far4 o (by omega) (by omega) (by omega))).trans b1
          have d5 : WAt h5 (o + 181 + 119) (wuni (x.ws a) e') (-2) := m3.kp (fun t q1 q2 => n2 t (by omega))
          refine e_istore (pc := 76) dX10_unital_76 (by decide) ?_
          refine e_aload_n (pc := 78) dX10_unital_78 rfl rfl ?_
          refine e_get (pc := 79) fl_X10_10 dX10_unital_79 (by repeat (first | assumption | exact hset_eq _ _ _ | (apply WAt.hd; assumption) | rw [hset_ne _ _ (by omega)])) (by rfl) ?_
          refine e_iload_n (pc := 82) dX10_unital_82 rfl rfl ?_
          refine e_aload_n (pc := 83) dX10_unital_83 rfl rfl ?_
          refine e_get (pc := 84) fl_X10_81 dX10_unital_84 (by repeat (first | assumption | exact hset_eq _ _ _ | (apply WAt.hd; assumption) | rw [hset_ne _ _ (by omega)])) (by rfl) ?_
          refine n_Vv (pc := 87) (c_X6_tell st5 hb d5 (wuni_ok2 wk e') (Or.inl rfl) (by omega)) bX6_tell q_i_X6_tell q_s_X6_tell q_m_X10_115 dX10_unital_87 rfl rfl (by repeat (first | assumption | exact hset_eq _ _ _ | (apply WAt.hd; assumption) | rw [hset_ne _ _ (by omega)])) rfl rfl (by exact Nat.le_of_ble_eq_true rfl) ⟨by decide, by decide⟩ ⟨rfl, rfl, Nat.zero_le _, Nat.zero_le _⟩ (fun h6 hp => ?_)
          obtain ⟨t1, t2, t3⟩ := hp
          refine e_iload (pc := 90) dX10_unital_90 rfl ?_
          have up := r3.1.1.up (h2 := h6) (fun t q1 q2 q3 => (t3 t (by omega)).trans ((n2 t (by omega)).trans (far4 t q2 (by omega) q3))) (m1.far (fun t q1 q2 => (t3 t (by omega)).trans (n2 t (by omega)))) t1 ⟨_, _, t2, wuni_ok2 wk e'⟩
          refine n_iret (pc := 92) dX10_unital_92 rfl ⟨_, qT (by rw [cl, ok6 ha, ok6 hb, he, decide_eq_true e0, bl_t hD]; rfl) ⟨?_, ?_⟩, up.1, r3.2.tr up.2⟩
          · rw [cl, cl_nI (by omega)]
          · rw [cl, cl_nI (by omega), cl_nI (by omega)]
        · refine e_if_ne (pc := 50) (tgt := 55) dX10_unital_50 (by decide) (fun q => absurd rfl q) (fun _ => ?_)
          refine e_iconst (pc := 53) (v := -1) dX10_unital_53 (by decide) ?_
          exact n_iret (pc := 54) dX10_unital_54 rfl ⟨x, qF (by rw [cl, bl_f hD, Bool.and_false, Bool.and_false, Bool.and_false, Bool.and_false]) ⟨rfl, rfl⟩, r3.1.1, r3.2⟩
    · refine e_ifnullN (pc := 23) (tgt := 39) dX10_unital_23 (by decide) ?_
      exact no (by rw [hw, Bool.false_and, Bool.and_false]) sz _
  · refine e_astoreN (pc := 8) dX10_unital_8 (by decide) ?_
    refine e_aloadN (pc := 10) dX10_unital_10 rfl ?_
    refine e_ifnullN (pc := 12) (tgt := 39) dX10_unital_12 (by decide) ?_
    exact no (by rw [hw, Bool.false_and]) sz _
def QS_undo (x : Sx) (b : Bool) (z : Int32) (x2 : Sx) : Prop := if b = true then (if x.dn = 0 then z = -1 ∧ x2 = x else z = nI (x.who (x.dn - 1)) ∧ x2 = x.back) else if x.un = 0 then z = -1 ∧ x2 = x else z = nI (x.who x.dn) ∧ x2 = x.forth
theorem XAt.now {h2 : AH} {x2 : Sx} (hX : XAt h o x y ik len f ft fp) (e : Er (o + 1) (o + 1 + 83) h h2) (hx : ∃ τ, StA h2 (o + 1) τ x2) : XAt h2 o x2 y ik len f ft fp ∧ Er o (o + 303) h h2 := by
  obtain ⟨D, df, d1, d2⟩ := hX.2.2.2.2.2.2.2
  exact hX.up (fun t q1 q2 q3 => e t (by omega)) (hX.2.2.2.2.1.1.far (fun t q1 q2 => e t (by omega))) hx ⟨D, df, d1.kp (fun t q1 q2 => e t (by omega)), d2⟩
theorem c_X10_undo (hX : XAt h o x y ik len f ft fp) (b : Bool) : CI yX10_undo MX10_undo [.ref o, .int (bI b)] h (fun z h' => ∃ x2, QS_undo x b z x2 ∧ XAt h' o x2 y ik len f ft fp ∧ Er o (o + 303) h h') := by
  obtain ⟨a1, ⟨σ, a2⟩, -⟩ := id hX
  obtain ⟨s1, -⟩ := id a2.1
  refine CI.ofV (by decide) rfl rfl (by simp [Value.category]) (by exact Nat.le_of_ble_eq_true rfl) (fun sz => ?_)
  refine e_iload_n (pc := 0) dX10_undo_0 rfl rfl ?_
  cases b with
  | true =>
    refine e_if_eq (pc := 1) (tgt := 14) dX10_undo_1 (by decide) (fun q => absurd q (by decide)) (fun _ => ?_)
    refine e_aload_n (pc := 4) dX10_undo_4 rfl rfl ?_
    refine e_get (pc := 5) fl_X10_10 dX10_undo_5 (by repeat (first | assumption | exact hset_eq _ _ _ | (apply WAt.hd; assumption) | rw [hset_ne _ _ (by omega)])) (by rfl) ?_
    refine n_V (pc := 8) (c_X6_goBack a2) bX6_goBack q_i_X6_goBack q_s_X6_goBack q_m_X10_230 dX10_undo_8 rfl rfl (by repeat (first | assumption | exact hset_eq _ _ _ | (apply WAt.hd; assumption) | rw [hset_ne _ _ (by omega)])) rfl rfl (by exact Nat.le_of_ble_eq_true rfl) ⟨by decide, by decide⟩ ⟨rfl, rfl, Nat.zero_le _, Nat.zero_le _⟩ (fun z h2 hp => ?_)
    obtain ⟨hp, he⟩ := hp
    refine e_goto (pc := 11) (tgt := 21) dX10_undo_11 (by decide) ?_
    rcases hp with ⟨q1, rfl, q2⟩ | ⟨q1, rfl, q2⟩
    · exact n_iret (pc := 21) dX10_undo_21 rfl ⟨x, by unfold QS_undo; rw [if_pos rfl, if_pos q1]; exact ⟨rfl, rfl⟩, hX.now he ⟨σ, q2⟩⟩
    · exact n_iret (pc := 21) dX10_undo_21 rfl ⟨_, by unfold QS_undo; rw [if_pos rfl, if_neg (by omega)]; exact ⟨rfl, rfl⟩, hX.now he q2⟩
  | false =>
    refine e_if_eq (pc := 1) (tgt := 14) dX10_undo_1 (by decide) (fun _ => ?_) (fun q => absurd rfl q)
    refine e_aload_n (pc := 14) dX10_undo_14 rfl rfl ?_
    refine e_get (pc := 15) fl_X10_10 dX10_undo_15 (by repeat (first | assumption | exact hset_eq _ _ _ | (apply WAt.hd; assumption) | rw [hset_ne _ _ (by omega)])) (by rfl) ?_
    refine n_V (pc := 18) (c_X6_goForth a2) bX6_goForth q_i_X6_goForth q_s_X6_goForth q_m_X10_233 dX10_undo_18 rfl rfl (by repeat (first | assumption | exact hset_eq _ _ _ | (apply WAt.hd; assumption) | rw [hset_ne _ _ (by omega)])) rfl rfl (by exact Nat.le_of_ble_eq_true rfl) ⟨by decide, by decide⟩ ⟨rfl, rfl, Nat.zero_le _, Nat.zero_le _⟩ (fun z h2 hp => ?_)
    obtain ⟨hp, he⟩ := hp
    rcases hp with ⟨q1, rfl, q2⟩ | ⟨q1, rfl, q2⟩
    · exact n_iret (pc := 21) dX10_undo_21 rfl ⟨x, by unfold QS_undo; rw [if_neg (by decide), if_pos q1]; exact ⟨rfl, rfl⟩, hX.now he ⟨σ, q2⟩⟩
    · exact n_iret (pc := 21) dX10_undo_21 rfl ⟨_, by unfold QS_undo; rw [if_neg (by decide), if_neg (by omega)]; exact ⟨rfl, rfl⟩, hX.now he q2⟩
def QS_map (x : Sx) (a i v z : Int32) (x2 : Sx) : Prop := if tOk a i v = true then z = nI 1 ∧ x2 = x.tell (5 * a.toNatClampNeg + i.toNatClampNeg) v else z = nI 0 ∧ x2 = x
theorem c_X10_map (hX : XAt h o x y ik len f ft fp) (a i v : Int32) : CI yX10_map MX10_map [.ref o, .int a, .int i, .int v] h (fun z h' => ∃ x2, QS_map x a i v z x2 ∧ XAt h' o x2 y ik len f ft fp ∧ Er o (o + 303) h h') := by
  obtain ⟨a1, ⟨σ, a2⟩, -⟩ := id hX
  obtain ⟨s1, -⟩ := id a2.1
  refine CI.ofV (by decide) rfl rfl (by simp [Value.category]) (by exact Nat.le_of_ble_eq_true rfl) (fun sz => ?_)
  refine e_aload_n (pc := 0) dX10_map_0 rfl rfl ?_
  refine e_get (pc := 1) fl_X10_10 dX10_map_1 (by repeat (first | assumption | exact hset_eq _ _ _ | (apply WAt.hd; assumption) | rw [hset_ne _ _ (by omega)])) (by rfl) ?_
  refine e_iload_n (pc := 4) dX10_map_4 rfl rfl ?_
  refine e_iload_n (pc := 5) dX10_map_5 rfl rfl ?_
  refine e_iload_n (pc := 6) dX10_map_6 rfl rfl ?_
  refine n_V (pc := 7) (c_X6_tellImage a2 a i v) bX6_tellImage q_i_X6_tellImage q_s_X6_tellImage q_m_X10_236 dX10_map_7 rfl rfl (by repeat (first | assumption | exact hset_eq _ _ _ | (apply WAt.hd; assumption) | rw [hset_ne _ _ (by omega)])) rfl rfl (by exact Nat.le_of_ble_eq_true rfl) ⟨by decide, by decide⟩ ⟨rfl, rfl, Nat.zero_le _, Nat.zero_le _⟩ (fun z h2 hp => ?_)
  rcases hp with ⟨rfl, q1, rfl⟩ | ⟨rfl, q1, q2, q3⟩
  · exact n_zret (pc := 10) dX10_map_10 rfl rfl ⟨x, qF q1 ⟨rfl, rfl⟩, hX, Er.rf _ _ _⟩
  · exact n_zret (pc := 10) dX10_map_10 rfl rfl ⟨_, qT q1 ⟨rfl, rfl⟩, hX.now q3 ⟨_, q2⟩⟩
def Q_look (x : Sx) (t z : Int32) : Prop := if t = nI 0 then z = nI x.dn else if t = nI 1 then z = nI x.un else if t < nI 10 then z = -1 else z = imA x (t - nI 10)
theorem c_X10_look (hX : XAt h o x y ik len f ft fp) (t : Int32) : CI yX10_look MX10_look [.ref o, .int t] h (fun z h' => Q_look x t z ∧ h' = h) := by
  obtain ⟨a1, ⟨σ, a2⟩, -⟩ := id hX
  obtain ⟨s1, -⟩ := id a2.1
  refine CI.ofV (by decide) rfl rfl (by simp [Value.category]) (by exact Nat.le_of_ble_eq_true rfl) (fun sz => ?_)
  refine e_iload_n (pc := 0) dX10_look_0 rfl rfl ?_
  refine e_if_ne (pc := 1) (tgt := 12) dX10_look_1 (by decide) (fun q => ?_) (fun q => ?_)
  · refine e_iload_n (pc := 12) dX10_look_12 rfl rfl ?_
    refine n_iconst (pc := 13) 1 dX10_look_13 (by decide) ?_
    refine e_icmp_ne (pc := 14) (tgt := 25) dX10_look_14 (by decide) (fun q1 => ?_) (fun q1 => ?_)
    · refine e_iload_n (pc := 25) dX10_look_25 rfl rfl ?_
      refine n_bipush (pc := 26) 10 dX10_look_26 (by decide) ?_
      refine e_icmp_ge (pc := 28) (tgt := 35) dX10_look_28 (by decide) (fun q2 => ?_) (fun q2 => ?_)
      · refine e_aload_n (pc := 35) dX10_look_35 rfl rfl ?_
        refine e_get (pc := 36) fl_X10_10 dX10_look_36 (by repeat (first | assumption | exact hset_eq _ _ _ | (apply WAt.hd; assumption) | rw [hset_ne _ _ (by omega)])) (by rfl) ?_
        refine e_iload_n (pc := 39) dX10_look_39 rfl rfl ?_
        refine n_bipush (pc := 40) 10 dX10_look_40 (by decide) ?_
        refine e_isub (pc := 42) dX10_look_42 ?_
        refine n_VP (pc := 43) (c_X6_imageAt a2 (t - nI 10)) bX6_imageAt q_i_X6_imageAt q_s_X6_imageAt q_m_X10_282 dX10_look_43 rfl rfl (by repeat (first | assumption | exact hset_eq _ _ _ | (apply WAt.hd; assumption) | rw [hset_ne _ _ (by omega)])) rfl rfl (by exact Nat.le_of_ble_eq_true rfl) ⟨by decide, by decide⟩ ⟨rfl, rfl, Nat.zero_le _, Nat.zero_le _⟩ ?_
        refine n_iret (pc := 46) dX10_look_46 rfl ⟨?_, rfl⟩
        unfold Q_look
        rw [if_neg (fun z => q (z.trans nI_0)), if_neg q1, if_neg (Int32.not_lt.mpr q2)]
      · refine e_iconst (pc := 31) (v := -1) dX10_look_31 (by decide) ?_
        refine e_goto (pc := 32) (tgt := 46) dX10_look_32 (by decide) ?_
        refine n_iret (pc := 46) dX10_look_46 rfl ⟨?_, rfl⟩
        unfold Q_look
        rw [if_neg (fun z => q (z.trans nI_0)), if_neg q1, if_pos (Int32.not_le.mp q2)]
    · refine e_aload_n (pc := 17) dX10_look_17 rfl rfl ?_
      refine e_get (pc := 18) fl_X10_10 dX10_look_18 (by repeat (first | assumption | exact hset_eq _ _ _ | (apply WAt.hd; assumption) | rw [hset_ne _ _ (by omega)])) (by rfl) ?_
      refine n_VP (pc := 21) (c_X6_canGoForth a2) bX6_canGoForth q_i_X6_canGoForth q_s_X6_canGoForth q_m_X10_279 dX10_look_21 rfl rfl (by repeat (first | assumption | exact hset_eq _ _ _ | (apply WAt.hd; assumption) | rw [hset_ne _ _ (by omega)])) rfl rfl (by exact Nat.le_of_ble_eq_true rfl) ⟨by decide, by decide⟩ ⟨rfl, rfl, Nat.zero_le _, Nat.zero_le _⟩ ?_
      refine n_iret (pc := 24) dX10_look_24 rfl ⟨?_, rfl⟩
      unfold Q_look
      rw [if_neg (fun z => q (z.trans nI_0)), if_pos q1]
  · refine e_aload_n (pc := 4) dX10_look_4 rfl rfl ?_
    refine e_get (pc := 5) fl_X10_10 dX10_look_5 (by repeat (first | assumption | exact hset_eq _ _ _ | (apply WAt.hd; assumption) | rw [hset_ne _ _ (by omega)])) (by rfl) ?_
    refine n_VP (pc := 8) (c_X6_canGoBack a2) bX6_canGoBack q_i_X6_canGoBack q_s_X6_canGoBack q_m_X10_276 dX10_look_8 rfl rfl (by repeat (first | assumption | exact hset_eq _ _ _ | (apply WAt.hd; assumption) | rw [hset_ne _ _ (by omega)])) rfl rfl (by exact Nat.le_of_ble_eq_true rfl) ⟨by decide, by decide⟩ ⟨rfl, rfl, Nat.zero_le _, Nat.zero_le _⟩ ?_
    refine n_iret (pc := 11) dX10_look_11 rfl ⟨?_, rfl⟩
    unfold Q_look
    rw [if_pos (q.trans nI_0.symm)]
theorem c_X10_list (hX : XAt h o x y ik len f ft fp) (p n w : Int32) : CI yX10_list MX10_list [.ref o, .int p, .int n, .int w] h (fun z h' => LstC p n w z ∧ XAt h' o x y ik len f ft fp ∧ Er o (o + 303) h h') := by
  obtain ⟨a1, ⟨σ, a2⟩, ⟨τ, a3⟩, a4, a5, a6, ⟨S0, a7⟩, D, df, d1, d2⟩ := id hX
  obtain ⟨l1, -⟩ := id a7
  refine CI.ofV (by decide) rfl rfl (by simp [Value.category]) (by exact Nat.le_of_ble_eq_true rfl) (fun sz => ?_)
  refine e_aload_n (pc := 0) dX10_list_0 rfl rfl ?_
  refine e_get (pc := 1) fl_X10_74 dX10_list_1 (by repeat (first | assumption | exact hset_eq _ _ _ | (apply WAt.hd; assumption) | rw [hset_ne _ _ (by omega)])) (by rfl) ?_
  refine e_iload_n (pc := 4) dX10_list_4 rfl rfl ?_
  refine e_iload_n (pc := 5) dX10_list_5 rfl rfl ?_
  refine e_iload_n (pc := 6) dX10_list_6 rfl rfl ?_
  refine n_V (pc := 7) (c_X2_count a7 a5.1 (by omega) p n w) bX2_count q_i_X2_count q_s_X2_count q_m_X10_263 dX10_list_7 rfl rfl (by repeat (first | assumption | exact hset_eq _ _ _ | (apply WAt.hd; assumption) | rw [hset_ne _ _ (by omega)])) rfl rfl (by exact Nat.le_of_ble_eq_true rfl) ⟨by decide, by decide⟩ ⟨rfl, rfl, Nat.zero_le _, Nat.zero_le _⟩ (fun z h2 hp => ?_)
  obtain ⟨p1, ⟨S2, p2⟩, p3, p4⟩ := hp
  have far : ∀ t, (t < o + 181 ∨ o + 181 + 89 ≤ t) → (t < o + 181 + 104 ∨ o + 181 + 119 ≤ t) → h2 t = h t := fun t q1 q2 => p4 t q1 (by omega)
  exact n_iret (pc := 10) dX10_list_10 rfl ⟨p1, ⟨(far _ (by omega) (by omega)).trans a1, ⟨σ, a2.far (fun t q1 q2 => far t (by omega) (by omega))⟩, ⟨τ, a3.far (fun t q1 q2 => far t (by omega) (by omega))⟩, a4.kp (fun t q1 q2 => far t (by omega) (by omega)), ⟨p3, (far _ (by omega) (by omega)).trans a5.2⟩, a6.far (fun t q1 q2 => far t (by omega) (by omega)), ⟨S2, p2⟩, D, df, d1.kp (fun t q1 q2 => far t (by omega) (by omega)), d2⟩, fun t q => far t (by omega) (by omega)⟩
def QS_take (x : Sx) (p n i w z : Int32) (x2 : Sx) : Prop := (okI w 6 = true ∧ z = nI 1 ∧ ∃ pp nn c, p = nI pp ∧ n = nI nn ∧ Kd pp nn ∧ c < Lall pp nn ∧ Div (lw pp nn c) ∧ i = nI (Lc pp nn 0 c) ∧ x2 = x.tellW w.toNatClampNeg (lw pp nn c)) ∨ ((okI w 6 = false ∨ ¬ LstH p n i) ∧ z = nI 0 ∧ x2 = x)
theorem c_X10_take (hX : XAt h o x y ik len f ft fp) (p n i w : Int32) : CI yX10_take MX10_take [.ref o, .int p, .int n, .int i, .int w] h (fun z h' => ∃ x2, QS_take x p n i w z x2 ∧ XAt h' o x2 y ik len f ft fp ∧ Er o (o + 303) h h') := by
  obtain ⟨a1, ⟨σ, a2⟩, ⟨τ, a3⟩, a4, a5, a6, ⟨S0, a7⟩, D, df, d1, d2⟩ := id hX
  obtain ⟨l1, -⟩ := id a7
  obtain ⟨s1, -⟩ := id a2.1
  refine CI.ofV (by decide) rfl rfl (by simp [Value.category]) (by exact Nat.le_of_ble_eq_true rfl) (fun sz => ?_)
  refine e_aload_n (pc := 0) dX10_take_0 rfl rfl ?_
  refine e_get (pc := 1) fl_X10_10 dX10_take_1 (by repeat (first | assumption | exact hset_eq _ _ _ | (apply WAt.hd; assumption) | rw [hset_ne _ _ (by omega)])) (by rfl) ?_
  refine e_iload (pc := 4) dX10_take_4 rfl ?_
  refine n_Vr (pc := 6) (c_X6_world a2 w) bX6_world q_i_X6_world q_s_X6_world q_m_X10_101 dX10_take_6 rfl rfl (by repeat (first | assumption | exact hset_eq _ _ _ | (apply WAt.hd; assumption) | rw [hset_ne _ _ (by omega)])) rfl rfl (by exact Nat.le_of_ble_eq_true rfl) ⟨by decide, by decide⟩ ⟨rfl, rfl, Nat.zero_le _, Nat.zero_le _⟩ (fun r h2 hp => ?_)
  obtain ⟨rfl, hr⟩ := hp
  rcases hr with ⟨a, ha, rfl, rfl⟩ | ⟨hw, rfl⟩
  · refine e_ifnull (pc := 9) dX10_take_9 ?_
    refine e_aload_n (pc := 12) dX10_take_12 rfl rfl ?_
    refine e_get (pc := 13) fl_X10_74 dX10_take_13 (by repeat (first | assumption | exact hset_eq _ _ _ | (apply WAt.hd; assumption) | rw [hset_ne _ _ (by omega)])) (by rfl) ?_
    refine e_iload_n (pc := 16) dX10_take_16 rfl rfl ?_
    refine e_iload_n (pc := 17) dX10_take_17 rfl rfl ?_
    refine e_iload_n (pc := 18) dX10_take_18 rfl rfl ?_
    refine n_V (pc := 19) (c_X2_hasWorld a7 a5.1 (by omega) p n i) bX2_hasWorld q_i_X2_hasWorld q_s_X2_hasWorld q_m_X10_266 dX10_take_19 rfl rfl (by repeat (first | assumption | exact hset_eq _ _ _ | (apply WAt.hd; assumption) | rw [hset_ne _ _ (by omega)])) rfl rfl (by exact Nat.le_of_ble_eq_true rfl) ⟨by decide, by decide⟩ ⟨rfl, rfl, Nat.zero_le _, Nat.zero_le _⟩ (fun z h3 hp => ?_)
    obtain ⟨hz, p1, ⟨S2, p2⟩, p3, p4⟩ := hp
    have far : ∀ t, (t < o + 181 ∨ o + 181 + 89 ≤ t) → (t < o + 181 + 104 ∨ o + 181 + 119 ≤ t) → h3 t = h2 t := fun t q1 q2 => p4 t q1 (by omega)
    have hX3 : ∀ S, LSh h3 (o + 181 + 104) (o + 181) S → XAt h3 o x y ik len f ft fp := fun S p2 => ⟨(far _ (by omega) (by omega)).trans a1, ⟨σ, a2.far (fun t q1 q2 => far t (by omega) (by omega))⟩, ⟨τ, a3.far (fun t q1 q2 => far t (by omega) (by omega))⟩, a4.kp (fun t q1 q2 => far t (by omega) (by omega)), ⟨p3, (far _ (by omega) (by omega)).trans a5.2⟩, a6.far (fun t q1 q2 => far t (by omega) (by omega)), ⟨S, p2⟩, D, df, d1.kp (fun t q1 q2 => far t (by omega) (by omega)), d2⟩
    have e3 : Er o (o + 303) h2 h3 := fun t q => far t (by omega) (by omega)
    rcases hz with ⟨hH, rfl⟩ | ⟨hH, rfl⟩
    · refine e_if_ne (pc := 22) (tgt := 27) dX10_take_22 (by decide) (fun _ => ?_) (fun q => absurd q (by decide))
      obtain ⟨S3, pp, nn, rfl, rfl, hK, hS, hL⟩ := p1 rfl
      obtain ⟨pp', nn', t, x1, x2, x3, rfl, x5⟩ := hH
      have b1 := x3.b
      have b2 := hK.b
      have b3 : pp ≤ 5 := by rcases b2.1 with q | q | q <;> omega
      have b4 : pp' ≤ 5 := by rcases b1.1 with q | q | q <;> omega
      have g1 := (nI_eq (by omega) (by omega)).mp x1
      have g2 := (nI_eq (by omega) (by omega)).mp x2
      subst g1
      subst g2
      have l13 := hL.1
      have a13 := (far o (by omega) (by omega)).trans a1
      have d3 : WAt h3 (o + 181 + 119) D df := d1.kp (fun t q1 q2 => far t (by omega) (by omega))
      refine e_aload_n (pc := 27) dX10_take_27 rfl rfl ?_
      refine e_get (pc := 28) fl_X10_74 dX10_take_28 (by repeat (first | assumption | exact hset_eq _ _ _ | (apply WAt.hd; assumption) | rw [hset_ne _ _ (by omega)])) (by rfl) ?_
      refine e_iload_n (pc := 31) dX10_take_31 rfl rfl ?_
      refine e_iload_n (pc := 32) dX10_take_32 rfl rfl ?_
      refine e_iload_n (pc := 33) dX10_take_33 rfl rfl ?_
      refine e_aload_n (pc := 34) dX10_take_34 rfl rfl ?_
      refine e_get (pc := 35) fl_X10_81 dX10_take_35 (by repeat (first | assumption | exact hset_eq _ _ _ | (apply WAt.hd; assumption) | rw [hset_ne _ _ (by omega)])) (by rfl) ?_
      refine n_Vv (pc := 38) (c_X2_bring hL d3 d2 hK hS x5) bX2_bring q_i_X2_bring q_s_X2_bring q_m_X10_269 dX10_take_38 rfl rfl (by repeat (first | assumption | exact hset_eq _ _ _ | (apply WAt.hd; assumption) | rw [hset_ne _ _ (by omega)])) rfl rfl (by exact Nat.le_of_ble_eq_true rfl) ⟨by decide, by decide⟩ ⟨rfl, rfl, Nat.zero_le _, Nat.zero_le _⟩ (fun h4 hp => ?_)
      obtain ⟨⟨c, c1, c2, c3, c4⟩, q2⟩ := hp
      have wo := lw_ok (code := c) hK.b.2.2.2
      have far4 : ∀ t, (t < o + 181 + 119 ∨ o + 181 + 122 ≤ t) → h4 t = h3 t := fun t t1 => q2 t (by omega) (by omega) (by omega)
      have a14 := (far4 o (by omega)).trans a13
      have st4 : StA h4 (o + 1) σ x := a2.far (fun t t1 t2 => (far4 t (by omega)).trans (far t (by omega) (by omega)))
      obtain ⟨s14, -⟩ := id st4.1
      refine e_aload_n (pc := 41) dX10_take_41 rfl rfl ?_
      refine e_get (pc := 42) fl_X10_10 dX10_take_42 (by repeat (first | assumption | exact hset_eq _ _ _ | (apply WAt.hd; assumption) | rw [hset_ne _ _ (by omega)])) (by rfl) ?_
      refine e_iload (pc := 45) dX10_take_45 rfl ?_
      refine e_aload_n (pc := 47) dX10_take_47 rfl rfl ?_
      refine e_get (pc := 48) fl_X10_81 dX10_take_48 (by repeat (first | assumption | exact hset_eq _ _ _ | (apply WAt.hd; assumption) | rw [hset_ne _ _ (by omega)])) (by rfl) ?_
      refine n_Vv (pc := 51) (c_X6_tell st4 ha c4 wo (Or.inl rfl) (by omega)) bX6_tell q_i_X6_tell q_s_X6_tell q_m_X10_115 dX10_take_51 rfl rfl (by repeat (first | assumption | exact hset_eq _ _ _ | (apply WAt.hd; assumption) | rw [hset_ne _ _ (by omega)])) rfl rfl (by exact Nat.le_of_ble_eq_true rfl) ⟨by decide, by decide⟩ ⟨rfl, rfl, Nat.zero_le _, Nat.zero_le _⟩ (fun h5 hp => ?_)
      obtain ⟨t1, t2, t3⟩ := hp
      refine n_iconst (pc := 54) 1 dX10_take_54 (by decide) ?_
      have up := (hX3 S3 hL).up (h2 := h5) (fun t q1 q2 q3 => (t3 t (by omega)).trans (far4 t q3)) (p3.far (fun t q1 q2 => (t3 t (by omega)).trans (far4 t (by omega)))) t1 ⟨_, _, t2, wo⟩
      exact n_zret (pc := 55) dX10_take_55 rfl rfl ⟨_, Or.inl ⟨ok6 ha, rfl, pp, nn, c, rfl, rfl, hK, c1, c2, by rw [c3], by rw [cl_nI (by omega)]⟩, up.1, e3.tr up.2⟩
    · refine e_if_ne (pc := 22) (tgt := 27) dX10_take_22 (by decide) (fun q => absurd rfl q) (fun _ => ?_)
      refine n_iconst (pc := 25) 0 dX10_take_25 (by decide) ?_
      exact n_zret (pc := 26) dX10_take_26 rfl rfl ⟨x, Or.inr ⟨Or.inr hH, rfl, rfl⟩, hX3 S2 p2, e3⟩
  · refine e_ifnullN (pc := 9) (tgt := 25) dX10_take_9 (by decide) ?_
    refine n_iconst (pc := 25) 0 dX10_take_25 (by decide) ?_
    exact n_zret (pc := 26) dX10_take_26 rfl rfl ⟨x, Or.inr ⟨Or.inl hw, rfl, rfl⟩, hX, Er.rf _ _ _⟩
theorem c_X10_image (hX : XAt h o x y ik len f ft fp) (b : Bool) : CI yX10_image MX10_image [.ref o, .int (bI b)] h (fun z h' => ((b = true ∧ z = nI 1 ∧ XAt h' o x x true len f ft fp) ∨ (b = false ∧ ik = false ∧ z = nI 0 ∧ XAt h' o x y ik len f ft fp) ∨ (b = false ∧ ik = true ∧ z = nI 1 ∧ XAt h' o y y ik len f ft fp)) ∧ Er o (o + 303) h h') := by
  obtain ⟨a1, ⟨σ, a2⟩, ⟨τ, a3⟩, a4, a5, a6, ⟨S0, a7⟩, D, df, d1, d2⟩ := id hX
  obtain ⟨s1, -⟩ := id a2.1
  obtain ⟨s3, -⟩ := id a3.1
  refine CI.ofV (by decide) rfl rfl (by simp [Value.category]) (by exact Nat.le_of_ble_eq_true rfl) (fun sz => ?_)
  refine e_iload_n (pc := 0) dX10_image_0 rfl rfl ?_
  cases b with
  | true =>
    refine e_if_eq (pc := 1) (tgt := 22) dX10_image_1 (by decide) (fun q => absurd q (by decide)) (fun _ => ?_)
    refine e_aload_n (pc := 4) dX10_image_4 rfl rfl ?_
    refine e_get (pc := 5) fl_X10_16 dX10_image_5 (by repeat (first | assumption | exact hset_eq _ _ _ | (apply WAt.hd; assumption) | rw [hset_ne _ _ (by omega)])) (by rfl) ?_
    refine e_aload_n (pc := 8) dX10_image_8 rfl rfl ?_
    refine e_get (pc := 9) fl_X10_10 dX10_image_9 (by repeat (first | assumption | exact hset_eq _ _ _ | (apply WAt.hd; assumption) | rw [hset_ne _ _ (by omega)])) (by rfl) ?_
    refine n_Vv (pc := 12) (c_X6_copy a3 a2 (by omega)) bX6_copy q_i_X6_copy q_s_X6_copy q_m_X10_273 dX10_image_12 rfl rfl (by repeat (first | assumption | exact hset_eq _ _ _ | (apply WAt.hd; assumption) | rw [hset_ne _ _ (by omega)])) rfl rfl (by exact Nat.le_of_ble_eq_true rfl) ⟨by decide, by decide⟩ ⟨rfl, rfl, Nat.zero_le _, Nat.zero_le _⟩ (fun h2 hp => ?_)
    obtain ⟨p1, p2, p3⟩ := hp
    have a12 := (p3 o (by omega)).trans a1
    refine e_aload_n (pc := 15) dX10_image_15 rfl rfl ?_
    refine n_iconst (pc := 16) 1 dX10_image_16 (by decide) ?_
    refine e_put (pc := 17) pl_X10_19 dX10_image_17 (by repeat (first | assumption | exact hset_eq _ _ _ | (apply WAt.hd; assumption) | rw [hset_ne _ _ (by omega)])) (by rfl) (by rfl) (by exact Nat.le_of_ble_eq_true rfl) ?_
    refine n_iconst (pc := 20) 1 dX10_image_20 (by decide) ?_
    have far : ∀ (v : AE) t, (t < o + 84 ∨ o + 84 + 83 ≤ t) → t ≠ o → hset h2 o v t = h t := fun v t t1 t2 => (hset_ne _ _ t2).trans (p3 t t1)
    refine n_zret (pc := 21) dX10_image_21 rfl rfl ⟨Or.inl ⟨rfl, rfl, hset_eq _ _ _, ⟨σ, a2.far (fun t q1 q2 => far _ t (by omega) (by omega))⟩, ⟨τ, p1.far (fun t q1 q2 => hset_ne _ _ (by omega))⟩, a4.kp (fun t q1 q2 => far _ t (by omega) (by omega)), ⟨a5.1.far (fun t q1 q2 => far _ t (by omega) (by omega)), (far _ _ (by omega) (by omega)).trans a5.2⟩, a6.far (fun t q1 q2 => far _ t (by omega) (by omega)), ⟨S0, a7.far (fun t q1 q2 => far _ t (by omega) (by omega))⟩, D, df, d1.kp (fun t q1 q2 => far _ t (by omega) (by omega)), d2⟩, fun t q => far _ t (by omega) (by omega)⟩
  | false =>
    refine e_if_eq (pc := 1) (tgt := 22) dX10_image_1 (by decide) (fun _ => ?_) (fun q => absurd rfl q)
    refine e_aload_n (pc := 22) dX10_image_22 rfl rfl ?_
    refine e_get (pc := 23) fl_X10_19 dX10_image_23 (by repeat (first | assumption | exact hset_eq _ _ _ | (apply WAt.hd; assumption) | rw [hset_ne _ _ (by omega)])) (by rfl) ?_
    cases hk : ik with
    | false =>
      refine e_if_ne (pc := 26) (tgt := 31) dX10_image_26 (by decide) (fun q => absurd rfl q) (fun _ => ?_)
      refine n_iconst (pc := 29) 0 dX10_image_29 (by decide) ?_
      subst hk
      exact n_zret (pc := 30) dX10_image_30 rfl rfl ⟨Or.inr (Or.inl ⟨rfl, rfl, rfl, hX⟩), Er.rf _ _ _⟩
    | true =>
      refine e_if_ne (pc := 26) (tgt := 31) dX10_image_26 (by decide) (fun _ => ?_) (fun q => absurd q (by decide))
      refine e_aload_n (pc := 31) dX10_image_31 rfl rfl ?_
      refine e_get (pc := 32) fl_X10_10 dX10_image_32 (by repeat (first | assumption | exact hset_eq _ _ _ | (apply WAt.hd; assumption) | rw [hset_ne _ _ (by omega)])) (by rfl) ?_
      refine e_aload_n (pc := 35) dX10_image_35 rfl rfl ?_
      refine e_get (pc := 36) fl_X10_16 dX10_image_36 (by repeat (first | assumption | exact hset_eq _ _ _ | (apply WAt.hd; assumption) | rw [hset_ne _ _ (by omega)])) (by rfl) ?_
      refine n_Vv (pc := 39) (c_X6_copy a2 a3 (by omega)) bX6_copy q_i_X6_copy q_s_X6_copy q_m_X10_273 dX10_image_39 rfl rfl (by repeat (first | assumption | exact hset_eq _ _ _ | (apply WAt.hd; assumption) | rw [hset_ne _ _ (by omega)])) rfl rfl (by exact Nat.le_of_ble_eq_true rfl) ⟨by decide, by decide⟩ ⟨rfl, rfl, Nat.zero_le _, Nat.zero_le _⟩ (fun h2 hp => ?_)
      obtain ⟨p1, p2, p3⟩ := hp
      refine n_iconst (pc := 42) 1 dX10_image_42 (by decide) ?_
      subst hk
      have up := hX.now p3 ⟨σ, p1⟩
      exact n_zret (pc := 43) dX10_image_43 rfl rfl ⟨Or.inr (Or.inr ⟨rfl, rfl, rfl, up.1⟩), up.2⟩
def tap20 (f : Nat → Nat) (len : Nat) (a b c d e : Int32) : Nat → Nat := tap4 (tap4 (tap4 (tap4 (tap4 f len a 4) (len + 4) b 4) (len + 4 + 4) c 4) (len + 4 + 4 + 4) d 4) (len + 4 + 4 + 4 + 4) e 4
theorem c_X10_feed (hX : XAt h o x y ik len f ft fp) (a b c d e : Int32) : CI yX10_feed MX10_feed [.ref o, .int a, .int b, .int c, .int d, .int e] h (fun z h' => ((len + 20 ≤ 600 ∧ z = nI (len + 20) ∧ XAt h' o x y ik (len + 20) (tap20 f len a b c d e) ft fp) ∨ (¬ len + 20 ≤ 600 ∧ z = -1 ∧ XAt h' o x y ik len f ft fp)) ∧ Er o (o + 303) h h') := by
  obtain ⟨a1, -, -, a4, -⟩ := id hX
  obtain ⟨_, _, _, _, _, _, r1⟩ := id a4.1
  refine CI.ofV (by decide) rfl rfl (by simp [Value.category]) (by exact Nat.le_of_ble_eq_true rfl) (fun sz => ?_)
  refine e_aload_n (pc := 0) dX10_feed_0 rfl rfl ?_
  refine e_get (pc := 1) fl_X10_26 dX10_feed_1 (by repeat (first | assumption | exact hset_eq _ _ _ | (apply WAt.hd; assumption) | rw [hset_ne _ _ (by omega)])) (by rfl) ?_
  refine n_VP (pc := 4) (c_X4_hasRoom a4) bX4_hasRoom q_i_X4_hasRoom q_s_X4_hasRoom q_m_X10_85 dX10_feed_4 rfl rfl (by repeat (first | assumption | exact hset_eq _ _ _ | (apply WAt.hd; assumption) | rw [hset_ne _ _ (by omega)])) rfl rfl (by exact Nat.le_of_ble_eq_true rfl) ⟨by decide, by decide⟩ ⟨rfl, rfl, Nat.zero_le _, Nat.zero_le _⟩ ?_
  by_cases q : len + 20 ≤ 600
  · rw [decide_eq_true q]
    refine e_if_ne (pc := 7) (tgt := 12) dX10_feed_7 (by decide) (fun _ => ?_) (fun q => absurd q (by decide))
    refine e_aload_n (pc := 12) dX10_feed_12 rfl rfl ?_
    refine e_get (pc := 13) fl_X10_26 dX10_feed_13 (by repeat (first | assumption | exact hset_eq _ _ _ | (apply WAt.hd; assumption) | rw [hset_ne _ _ (by omega)])) (by rfl) ?_
    refine e_iload_n (pc := 16) dX10_feed_16 rfl rfl ?_
    refine n_Vv (pc := 17) (c_X4_takeNumber (a := a) a4 (by omega)) bX4_takeNumber q_i_X4_takeNumber q_s_X4_takeNumber q_m_X10_89 dX10_feed_17 rfl rfl (by repeat (first | assumption | exact hset_eq _ _ _ | (apply WAt.hd; assumption) | rw [hset_ne _ _ (by omega)])) rfl rfl (by exact Nat.le_of_ble_eq_true rfl) ⟨by decide, by decide⟩ ⟨rfl, rfl, Nat.zero_le _, Nat.zero_le _⟩ (fun h2 hp => ?_)
    obtain ⟨p2, e2⟩ := hp
    have b2 := (e2 o (by omega)).trans a1
    obtain ⟨_, _, _, _, _, _, r2⟩ := id p2.1
    refine e_aload_n (pc := 20) dX10_feed_20 rfl rfl ?_
    refine e_get (pc := 21) fl_X10_26 dX10_feed_21 (by repeat (first | assumption | exact hset_eq _ _ _ | (apply WAt.hd; assumption) | rw [hset_ne _ _ (by omega)])) (by rfl) ?_
    refine e_iload_n (pc := 24) dX10_feed_24 rfl rfl ?_
    refine n_Vv (pc := 25) (c_X4_takeNumber (a := b) p2 (by omega)) bX4_takeNumber q_i_X4_takeNumber q_s_X4_takeNumber q_m_X10_89 dX10_feed_25 rfl rfl (by repeat (first | assumption | exact hset_eq _ _ _ | (apply WAt.hd; assumption) | rw [hset_ne _ _ (by omega)])) rfl rfl (by exact Nat.le_of_ble_eq_true rfl) ⟨by decide, by decide⟩ ⟨rfl, rfl, Nat.zero_le _, Nat.zero_le _⟩ (fun h3 hp => ?_)
    obtain ⟨p3, e3⟩ := hp
    have b3 := (e3 o (by omega)).trans b2
    obtain ⟨_, _, _, _, _, _, r3⟩ := id p3.1
    refine e_aload_n (pc := 28) dX10_feed_28 rfl rfl ?_
    refine e_get (pc := 29) fl_X10_26 dX10_feed_29 (by repeat (first | assumption | exact hset_eq _ _ _ | (apply WAt.hd; assumption) | rw [hset_ne _ _ (by omega)])) (by rfl) ?_
    refine e_iload_n (pc := 32) dX10_feed_32 rfl rfl ?_
    refine n_Vv (pc := 33) (c_X4_takeNumber (a := c) p3 (by omega)) bX4_takeNumber q_i_X4_takeNumber q_s_X4_takeNumber q_m_X10_89 dX10_feed_33 rfl rfl (by repeat (first | assumption | exact hset_eq _ _ _ | (apply WAt.hd; assumption) | rw [hset_ne _ _ (by omega)])) rfl rfl (by exact Nat.le_of_ble_eq_true rfl) ⟨by decide, by decide⟩ ⟨rfl, rfl, Nat.zero_le _, Nat.zero_le _⟩ (fun h4 hp => ?_)
    obtain ⟨p4, e4⟩ := hp
    have b4 := (e4 o (by omega)).trans b3
    obtain ⟨_, _, _, _, _, _, r4⟩ := id p4.1
    refine e_aload_n (pc := 36) dX10_feed_36 rfl rfl ?_
    refine e_get (pc := 37) fl_X10_26 dX10_feed_37 (by repeat (first | assumption | exact hset_eq _ _ _ | (apply WAt.hd; assumption) | rw [hset_ne _ _ (by omega)])) (by rfl) ?_
    refine e_iload (pc := 40) dX10_feed_40 rfl ?_
    refine n_Vv (pc := 42) (c_X4_takeNumber (a := d) p4 (by omega)) bX4_takeNumber q_i_X4_takeNumber q_s_X4_takeNumber q_m_X10_89 dX10_feed_42 rfl rfl (by repeat (first | assumption | exact hset_eq _ _ _ | (apply WAt.hd; assumption) | rw [hset_ne _ _ (by omega)])) rfl rfl (by exact Nat.le_of_ble_eq_true rfl) ⟨by decide, by decide⟩ ⟨rfl, rfl, Nat.zero_le _, Nat.zero_le _⟩ (fun h5 hp => ?_)
    obtain ⟨p5, e5⟩ := hp
    have b5 := (e5 o (by omega)).trans b4
    obtain ⟨_, _, _, _, _, _, r5⟩ := id p5.1
    refine e_aload_n (pc := 45) dX10_feed_45 rfl rfl ?_
    refine e_get (pc := 46) fl_X10_26 dX10_feed_46 (by repeat (first | assumption | exact hset_eq _ _ _ | (apply WAt.hd; assumption) | rw [hset_ne _ _ (by omega)])) (by rfl) ?_
    refine e_iload (pc := 49) dX10_feed_49 rfl ?_
    refine n_Vv (pc := 51) (c_X4_takeNumber (a := e) p5 (by omega)) bX4_takeNumber q_i_X4_takeNumber q_s_X4_takeNumber q_m_X10_89 dX10_feed_51 rfl rfl (by repeat (first | assumption | exact hset_eq _ _ _ | (apply WAt.hd; assumption) | rw [hset_ne _ _ (by omega)])) rfl rfl (by exact Nat.le_of_ble_eq_true rfl) ⟨by decide, by decide⟩ ⟨rfl, rfl, Nat.zero_le _, Nat.zero_le _⟩ (fun h6 hp => ?_)
    obtain ⟨p6, e6⟩ := hp
    have b6 := (e6 o (by omega)).trans b5
    obtain ⟨_, _, _, _, _, _, r6⟩ := id p6.1
    refine e_aload_n (pc := 54) dX10_feed_54 rfl rfl ?_
    refine e_get (pc := 55) fl_X10_26 dX10_feed_55 (by repeat (first | assumption | exact hset_eq _ _ _ | (apply WAt.hd; assumption) | rw [hset_ne _ _ (by omega)])) (by rfl) ?_
    refine n_VP (pc := 58) (c_X4_length p6) bX4_length q_i_X4_length q_s_X4_length q_m_X10_93 dX10_feed_58 rfl rfl (by repeat (first | assumption | exact hset_eq _ _ _ | (apply WAt.hd; assumption) | rw [hset_ne _ _ (by omega)])) rfl rfl (by exact Nat.le_of_ble_eq_true rfl) ⟨by decide, by decide⟩ ⟨rfl, rfl, Nat.zero_le _, Nat.zero_le _⟩ ?_
    have up := hX.rd ((((e2.tr e3).tr e4).tr e5).tr e6) p6
    exact n_iret (pc := 61) dX10_feed_61 rfl ⟨Or.inl ⟨q, rfl, up.1⟩, up.2⟩
  · rw [decide_eq_false q]
    refine e_if_ne (pc := 7) (tgt := 12) dX10_feed_7 (by decide) (fun q => absurd rfl q) (fun _ => ?_)
    refine e_iconst (pc := 10) (v := -1) dX10_feed_10 (by decide) ?_
    exact n_iret (pc := 11) dX10_feed_11 rfl ⟨Or.inr ⟨q, rfl, hX⟩, Er.rf _ _ _⟩
theorem c_X10_end (hX : XAt h o x y ik len f ft fp) (n : Int32) : CI yX10_end MX10_end [.ref o, .int n] h (fun z h' => ((∃ k, n = nI k ∧ k ≤ len ∧ z = 1 ∧ XAt h' o x y ik k f ft fp) ∨ (okI n (len + 1) = false ∧ z = 0 ∧ XAt h' o x y ik len f ft fp)) ∧ Er o (o + 303) h h') := by
  obtain ⟨a1, -, -, a4, -⟩ := id hX
  obtain ⟨_, _, _, _, _, _, r1⟩ := id a4.1
  refine CI.ofV (by decide) rfl rfl (by simp [Value.category]) (by exact Nat.le_of_ble_eq_true rfl) (fun sz => ?_)
  refine e_aload_n (pc := 0) dX10_end_0 rfl rfl ?_
  refine e_get (pc := 1) fl_X10_26 dX10_end_1 (by repeat (first | assumption | exact hset_eq _ _ _ | (apply WAt.hd; assumption) | rw [hset_ne _ _ (by omega)])) (by rfl) ?_
  refine e_iload_n (pc := 4) dX10_end_4 rfl rfl ?_
  refine n_V (pc := 5) (c_X4_cutAt a4 n) bX4_cutAt q_i_X4_cutAt q_s_X4_cutAt q_m_X10_97 dX10_end_5 rfl rfl (by repeat (first | assumption | exact hset_eq _ _ _ | (apply WAt.hd; assumption) | rw [hset_ne _ _ (by omega)])) rfl rfl (by exact Nat.le_of_ble_eq_true rfl) ⟨by decide, by decide⟩ ⟨rfl, rfl, Nat.zero_le _, Nat.zero_le _⟩ (fun z h2 hp => ?_)
  obtain ⟨hp, he⟩ := hp
  rcases hp with ⟨k, rfl, q1, rfl, q2⟩ | ⟨q1, rfl, q2⟩
  · have up := hX.rd he q2
    exact n_zret (pc := 8) dX10_end_8 rfl rfl ⟨Or.inl ⟨k, rfl, q1, rfl, up.1⟩, up.2⟩
  · have up := hX.rd he q2
    exact n_zret (pc := 8) dX10_end_8 rfl rfl ⟨Or.inr ⟨q1, rfl, up.1⟩, up.2⟩
def Q_fault (ft fp t z : Int32) : Prop := if t = nI 0 then z = ft else if t = nI 1 then z = fp else z = -1
theorem c_X10_fault (hX : XAt h o x y ik len f ft fp) (t : Int32) : CI yX10_fault MX10_fault [.ref o, .int t] h (fun z h' => Q_fault ft fp t z ∧ h' = h) := by
  obtain ⟨a1, -, -, a4, -⟩ := id hX
  obtain ⟨_, _, _, _, _, _, r1⟩ := id a4.1
  refine CI.ofV (by decide) rfl rfl (by simp [Value.category]) (by exact Nat.le_of_ble_eq_true rfl) (fun sz => ?_)
  refine e_iload_n (pc := 0) dX10_fault_0 rfl rfl ?_
  refine e_if_ne (pc := 1) (tgt := 12) dX10_fault_1 (by decide) (fun q => ?_) (fun q => ?_)
  · refine e_iload_n (pc := 12) dX10_fault_12 rfl rfl ?_
    refine n_iconst (pc := 13) 1 dX10_fault_13 (by decide) ?_
    refine e_icmp_ne (pc := 14) (tgt := 27) dX10_fault_14 (by decide) (fun q1 => ?_) (fun q1 => ?_)
    · refine e_iconst (pc := 27) (v := -1) dX10_fault_27 (by decide) ?_
      refine n_iret (pc := 28) dX10_fault_28 rfl ⟨?_, rfl⟩
      unfold Q_fault
      rw [if_neg (fun z => q (z.trans nI_0)), if_neg q1]
    · refine e_aload_n (pc := 17) dX10_fault_17 rfl rfl ?_
      refine e_get (pc := 18) fl_X10_26 dX10_fault_18 (by repeat (first | assumption | exact hset_eq _ _ _ | (apply WAt.hd; assumption) | rw [hset_ne _ _ (by omega)])) (by rfl) ?_
      refine n_VP (pc := 21) (c_X4_faultPlace a4) bX4_faultPlace q_i_X4_faultPlace q_s_X4_faultPlace q_m_X10_125 dX10_fault_21 rfl rfl (by repeat (first | assumption | exact hset_eq _ _ _ | (apply WAt.hd; assumption) | rw [hset_ne _ _ (by omega)])) rfl rfl (by exact Nat.le_of_ble_eq_true rfl) ⟨by decide, by decide⟩ ⟨rfl, rfl, Nat.zero_le _, Nat.zero_le _⟩ ?_
      refine e_goto (pc := 24) (tgt := 28) dX10_fault_24 (by decide) ?_
      refine n_iret (pc := 28) dX10_fault_28 rfl ⟨?_, rfl⟩
      unfold Q_fault
      rw [if_neg (fun z => q (z.trans nI_0)), if_pos q1]
  · refine e_aload_n (pc := 4) dX10_fault_4 rfl rfl ?_
    refine e_get (pc := 5) fl_X10_26 dX10_fault_5 (by repeat (first | assumption | exact hset_eq _ _ _ | (apply WAt.hd; assumption) | rw [hset_ne _ _ (by omega)])) (by rfl) ?_
    refine n_VP (pc := 8) (c_X4_faultKind a4) bX4_faultKind q_i_X4_faultKind q_s_X4_faultKind q_m_X10_122 dX10_fault_8 rfl rfl (by repeat (first | assumption | exact hset_eq _ _ _ | (apply WAt.hd; assumption) | rw [hset_ne _ _ (by omega)])) rfl rfl (by exact Nat.le_of_ble_eq_true rfl) ⟨by decide, by decide⟩ ⟨rfl, rfl, Nat.zero_le _, Nat.zero_le _⟩ ?_
    refine n_iret (pc := 11) dX10_fault_11 rfl ⟨?_, rfl⟩
    unfold Q_fault
    rw [if_pos (q.trans nI_0.symm)]
/-- what text() leaves: the answer, the state, the fault -/
def QS_text (x : Sx) (f : Nat → Nat) (len : Nat) (w z : Int32) (x2 : Sx) (ft2 fp2 : Int32) : Prop := if okI w 6 = true then (match txt f len with
    | .inl q => z = -1 ∧ x2 = x ∧ ft2 = nI q.1 ∧ fp2 = nI q.2
    | .inr W => z = nI (W.1 ^ W.2.1) ∧ x2 = x.tellW w.toNatClampNeg W ∧ ft2 = nI 0 ∧ fp2 = -1) else z = -1 ∧ x2 = x ∧ ft2 = nI 0 ∧ fp2 = -1
theorem c_X10_text (hX : XAt h o x y ik len f ft fp) (w : Int32) : CI yX10_text MX10_text [.ref o, .int w] h (fun z h' => ∃ x2 ft2 fp2, QS_text x f len w z x2 ft2 fp2 ∧ XAt h' o x2 y ik 0 f ft2 fp2 ∧ Er o (o + 303) h h') := by
  obtain ⟨a1, ⟨σ, a2⟩, -, a4, -⟩ := id hX
  obtain ⟨_, _, _, _, _, _, r1⟩ := id a4.1
  obtain ⟨s1, -⟩ := id a2.1
  refine CI.ofV (by decide) rfl rfl (by simp [Value.category]) (by exact Nat.le_of_ble_eq_true rfl) (fun sz => ?_)
  refine e_aload_n (pc := 0) dX10_text_0 rfl rfl ?_
  refine e_get (pc := 1) fl_X10_10 dX10_text_1 (by repeat (first | assumption | exact hset_eq _ _ _ | (apply WAt.hd; assumption) | rw [hset_ne _ _ (by omega)])) (by rfl) ?_
  refine e_iload_n (pc := 4) dX10_text_4 rfl rfl ?_
  refine n_Vr (pc := 5) (c_X6_world a2 w) bX6_world q_i_X6_world q_s_X6_world q_m_X10_101 dX10_text_5 rfl rfl (by repeat (first | assumption | exact hset_eq _ _ _ | (apply WAt.hd; assumption) | rw [hset_ne _ _ (by omega)])) rfl rfl (by exact Nat.le_of_ble_eq_true rfl) ⟨by decide, by decide⟩ ⟨rfl, rfl, Nat.zero_le _, Nat.zero_le _⟩ (fun r h2 hp => ?_)
  obtain ⟨rfl, hr⟩ := hp
  rcases hr with ⟨a, ha, rfl, rfl⟩ | ⟨hw, rfl⟩
  · refine e_astore_n (pc := 8) dX10_text_8 rfl (by decide) ?_
    refine e_aload_n (pc := 9) dX10_text_9 rfl rfl ?_
    refine e_ifnonnull (pc := 10) (tgt := 22) dX10_text_10 (by decide) ?_
    refine e_aload_n (pc := 22) dX10_text_22 rfl rfl ?_
    refine e_get (pc := 23) fl_X10_26 dX10_text_23 (by repeat (first | assumption | exact hset_eq _ _ _ | (apply WAt.hd; assumption) | rw [hset_ne _ _ (by omega)])) (by rfl) ?_
    refine n_V (pc := 26) (c_X4_read a4) bX4_read q_i_X4_read q_s_X4_read q_m_X10_108 dX10_text_26 rfl rfl (by repeat (first | assumption | exact hset_eq _ _ _ | (apply WAt.hd; assumption) | rw [hset_ne _ _ (by omega)])) rfl rfl (by exact Nat.le_of_ble_eq_true rfl) ⟨by decide, by decide⟩ ⟨rfl, rfl, Nat.zero_le _, Nat.zero_le _⟩ (fun z h3 hp => ?_)
    obtain ⟨hz, he⟩ := hp
    cases ht : txt f len with
    | inl q =>
      rw [ht] at hz
      obtain ⟨rfl, z2, z3, z4⟩ := hz
      refine e_if_ne (pc := 29) (tgt := 34) dX10_text_29 (by decide) (fun q => absurd rfl q) (fun _ => ?_)
      refine e_iconst (pc := 32) (v := -1) dX10_text_32 (by decide) ?_
      have up := hX.rd he ⟨z2, z3, z4⟩
      refine n_iret (pc := 33) dX10_text_33 rfl ⟨x, _, _, qT (ok6 ha) ?_, up⟩
      rw [ht]
      exact ⟨rfl, rfl, rfl, rfl⟩
    | inr W =>
      rw [ht] at hz
      obtain ⟨rfl, z2, z3, F', z4⟩ := hz
      refine e_if_ne (pc := 29) (tgt := 34) dX10_text_29 (by decide) (fun _ => ?_) (fun q => absurd q (by decide))
      have up := hX.rd he ⟨z2, z3, W, F', z4⟩
      have a13 := up.1.1
      have st3 : StA h3 (o + 1) σ x := a2.far (fun t q1 q2 => he t (by omega))
      obtain ⟨s13, -⟩ := id st3.1
      obtain ⟨w1, w2, -⟩ := id z4
      obtain ⟨_, _, _, _, _, _, r3⟩ := id z2
      refine e_aload_n (pc := 34) dX10_text_34 rfl rfl ?_
      refine e_get (pc := 35) fl_X10_10 dX10_text_35 (by repeat (first | assumption | exact hset_eq _ _ _ | (apply WAt.hd; assumption) | rw [hset_ne _ _ (by omega)])) (by rfl) ?_
      refine e_iload_n (pc := 38) dX10_text_38 rfl rfl ?_
      refine e_aload_n (pc := 39) dX10_text_39 rfl rfl ?_
      refine e_get (pc := 40) fl_X10_26 dX10_text_40 (by repeat (first | assumption | exact hset_eq _ _ _ | (apply WAt.hd; assumption) | rw [hset_ne _ _ (by omega)])) (by rfl) ?_
      refine n_Vr (pc := 43) (c_X4_told z2) bX4_told q_i_X4_told q_s_X4_told q_m_X10_111 dX10_text_43 rfl rfl (by repeat (first | assumption | exact hset_eq _ _ _ | (apply WAt.hd; assumption) | rw [hset_ne _ _ (by omega)])) rfl rfl (by exact Nat.le_of_ble_eq_true rfl) ⟨by decide, by decide⟩ ⟨rfl, rfl, Nat.zero_le _, Nat.zero_le _⟩ (fun r h4 hp => ?_)
      obtain ⟨rfl, rfl⟩ := hp
      refine n_Vv (pc := 46) (c_X6_tell st3 ha w1 w2 (Or.inl rfl) (by omega)) bX6_tell q_i_X6_tell q_s_X6_tell q_m_X10_115 dX10_text_46 rfl rfl (by repeat (first | assumption | exact hset_eq _ _ _ | (apply WAt.hd; assumption) | rw [hset_ne _ _ (by omega)])) rfl rfl (by exact Nat.le_of_ble_eq_true rfl) ⟨by decide, by decide⟩ ⟨rfl, rfl, Nat.zero_le _, Nat.zero_le _⟩ (fun h5 hp => ?_)
      obtain ⟨t1, t2, t3⟩ := hp
      have up5 := up.1.now t3 t1
      have a15 := up5.1.1
      have z25 : RHx h5 (o + 167) 0 (nI 0) (-1) := up5.1.2.2.2.1.1
      obtain ⟨_, _, _, _, _, _, r5⟩ := id z25
      refine e_aload_n (pc := 49) dX10_text_49 rfl rfl ?_
      refine e_get (pc := 50) fl_X10_26 dX10_text_50 (by repeat (first | assumption | exact hset_eq _ _ _ | (apply WAt.hd; assumption) | rw [hset_ne _ _ (by omega)])) (by rfl) ?_
      refine n_Vr (pc := 53) (c_X4_told z25) bX4_told q_i_X4_told q_s_X4_told q_m_X10_111 dX10_text_53 rfl rfl (by repeat (first | assumption | exact hset_eq _ _ _ | (apply WAt.hd; assumption) | rw [hset_ne _ _ (by omega)])) rfl rfl (by exact Nat.le_of_ble_eq_true rfl) ⟨by decide, by decide⟩ ⟨rfl, rfl, Nat.zero_le _, Nat.zero_le _⟩ (fun r h6 hp => ?_)
      obtain ⟨rfl, rfl⟩ := hp
      refine n_VP (pc := 56) (c_X9_order t2) bX9_order q_i_X9_order q_s_X9_order q_m_X10_119 dX10_text_56 rfl rfl (by repeat (first | assumption | exact hset_eq _ _ _ | (apply WAt.hd; assumption) | rw [hset_ne _ _ (by omega)])) rfl rfl (by exact Nat.le_of_ble_eq_true rfl) ⟨by decide, by decide⟩ ⟨rfl, rfl, Nat.zero_le _, Nat.zero_le _⟩ ?_
      refine n_iret (pc := 59) dX10_text_59 rfl ⟨_, _, _, qT (ok6 ha) ?_, up5.1, up.2.tr up5.2⟩
      rw [ht, cl_nI (by omega)]
      exact ⟨rfl, rfl, rfl, rfl⟩
  · refine e_astore_nN (pc := 8) dX10_text_8 rfl (by decide) ?_
    refine e_aload_nN (pc := 9) dX10_text_9 rfl rfl ?_
    refine e_ifnonnullN (pc := 10) dX10_text_10 ?_
    refine e_aload_n (pc := 13) dX10_text_13 rfl rfl ?_
    refine e_get (pc := 14) fl_X10_26 dX10_text_14 (by repeat (first | assumption | exact hset_eq _ _ _ | (apply WAt.hd; assumption) | rw [hset_ne _ _ (by omega)])) (by rfl) ?_
    refine n_Vv (pc := 17) (c_X4_forget a4) bX4_forget q_i_X4_forget q_s_X4_forget q_m_X10_105 dX10_text_17 rfl rfl (by repeat (first | assumption | exact hset_eq _ _ _ | (apply WAt.hd; assumption) | rw [hset_ne _ _ (by omega)])) rfl rfl (by exact Nat.le_of_ble_eq_true rfl) ⟨by decide, by decide⟩ ⟨rfl, rfl, Nat.zero_le _, Nat.zero_le _⟩ (fun h3 hp => ?_)
    obtain ⟨p1, p2⟩ := hp
    refine e_iconst (pc := 20) (v := -1) dX10_text_20 (by decide) ?_
    have up := hX.rd p2 p1
    exact n_iret (pc := 21) dX10_text_21 rfl ⟨x, _, _, qF hw ⟨rfl, rfl, rfl, rfl⟩, up⟩
end XI
