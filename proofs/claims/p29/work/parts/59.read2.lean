/-! ===== Reader: words, numbers below a bound ===== -/
section R2D
variable {h : AH} {R len : Nat} {f : Nat → Nat} {vl0 ft fp sm hf : Int32}
theorem l_iw {G : en_G} {sz s e i : Nat} {kd : Int32} (hi5 : i < 5) (hT : Tap h R f len) (hse : s ≤ e) (he : e ≤ len) (hl : e - s = lw_len.getD i 0) (hH : RdH h R (nI len) (nI e) kd (nI s) vl0 ft fp sm hf) :
    ∀ (m k : Nat), m = lw_len.getD i 0 - k → k ≤ lw_len.getD i 0 → (∀ t, t < k → f (s + t) = wn i t) → VT G MX4_isWord (PI sz (fun z h' => isB z (∀ t, t < lw_len.getD i 0 → f (s + t) = wn i t) ∧ h' = h)) (sz, 0, 0) h 38 [some (.ref R), some (.ref (G.2.2.1 i)), some (.int (nI k))] [] := by
  obtain ⟨l6, g, g1, g2⟩ := id hT
  obtain ⟨a1, a2, a3⟩ := tx_ok i hi5
  intro m
  induction m with
  | zero =>
    intro k e1 e2 hk
    have e' : k = lw_len.getD i 0 := by omega
    refine te_iload_n (pc := 38) dX4_isWord_38 rfl rfl ?_
    refine te_aload_n (pc := 39) dX4_isWord_39 rfl rfl ?_
    refine tn_Vs (pc := 40) (c_J0_length hi5) bJ0_length_8abf5 q_i_J0_length_8abf5 q_s_J0_length_8abf5 q_m_X4_188 dX4_isWord_40 rfl rfl hi5 rfl (by exact Nat.le_of_ble_eq_true rfl) ⟨by decide, by decide⟩ ⟨rfl, rfl, Nat.zero_le _, Nat.zero_le _⟩ (fun x h2 hp => ?_)
    obtain ⟨rfl, rfl⟩ := hp
    refine tn_icmp_ge (pc := 43) (tgt := 73) dX4_isWord_43 (by decide) (by omega) (by omega) (fun hb_ => ?_) (fun c => absurd c (by omega))
    refine tn_iconst (pc := 73) 1 dX4_isWord_73 (by decide) ?_
    exact tn_zret (pc := 74) dX4_isWord_74 rfl rfl ⟨Or.inl ⟨fun t ht => hk t (by omega), rfl⟩, rfl⟩
  | succ m ih =>
    intro k e1 e2 hk
    have hk2 : k < lw_len.getD i 0 := by omega
    obtain ⟨t2, t3⟩ := g2 (s + k) (by omega)
    obtain ⟨w1, w2⟩ := wn_ok i hi5 k hk2
    refine te_iload_n (pc := 38) dX4_isWord_38 rfl rfl ?_
    refine te_aload_n (pc := 39) dX4_isWord_39 rfl rfl ?_
    refine tn_Vs (pc := 40) (c_J0_length hi5) bJ0_length_8abf5 q_i_J0_length_8abf5 q_s_J0_length_8abf5 q_m_X4_188 dX4_isWord_40 rfl rfl hi5 rfl (by exact Nat.le_of_ble_eq_true rfl) ⟨by decide, by decide⟩ ⟨rfl, rfl, Nat.zero_le _, Nat.zero_le _⟩ (fun x h2 hp => ?_)
    obtain ⟨rfl, rfl⟩ := hp
    refine tn_icmp_ge (pc := 43) (tgt := 73) dX4_isWord_43 (by decide) (by omega) (by omega) (fun c => absurd c (by omega)) (fun hb_ => ?_)
    refine te_aload_n (pc := 46) dX4_isWord_46 rfl rfl ?_
    refine te_get (pc := 47) fl_X4_11 dX4_isWord_47 (by repeat (first | assumption | exact hset_eq _ _ _ | (apply WAt.hd; assumption) | rw [hset_ne _ _ (by omega)])) (by rfl) ?_
    refine te_aload_n (pc := 50) dX4_isWord_50 rfl rfl ?_
    refine te_get (pc := 51) fl_X4_25 dX4_isWord_51 (by repeat (first | assumption | exact hset_eq _ _ _ | (apply WAt.hd; assumption) | rw [hset_ne _ _ (by omega)])) (by rfl) ?_
    refine te_iload_n (pc := 54) dX4_isWord_54 rfl rfl ?_
    refine tn_iadd (pc := 55) dX4_isWord_55 ?_
    refine te_ialdN (pc := 56) (s + k) dX4_isWord_56 (by repeat (first | assumption | exact hset_eq _ _ _ | (apply WAt.hd; assumption) | rw [hset_ne _ _ (by omega)])) (by rfl) (by omega) (by first | decide | omega) ?_
    rw [t2]
    refine te_aload_n (pc := 57) dX4_isWord_57 rfl rfl ?_
    refine te_iload_n (pc := 58) dX4_isWord_58 rfl rfl ?_
    refine tn_Vs (pc := 59) (c_J0_charAt hi5 hk2) bJ0_charAt_5068e q_i_J0_charAt_5068e q_s_J0_charAt_5068e q_m_X4_192 dX4_isWord_59 rfl rfl hi5 rfl (by exact Nat.le_of_ble_eq_true rfl) ⟨by decide, by decide⟩ ⟨rfl, rfl, Nat.zero_le _, Nat.zero_le _⟩ (fun x h2 hp => ?_)
    obtain ⟨rfl, rfl⟩ := hp
    rw [w1]
    refine tn_icmp_eq (pc := 62) (tgt := 67) dX4_isWord_62 (by decide) (by omega) (by omega) (fun c => ?_) (fun c => ?_)
    · refine tn_inc (pc := 67) dX4_isWord_67 rfl (by decide) ?_
      refine te_goto (pc := 70) (tgt := 38) dX4_isWord_70 (by decide) ?_
      refine ih (k + 1) (by omega) (by omega) (fun t ht => ?_)
      by_cases q : t = k
      · subst q; exact c
      · exact hk t (by omega)
    · refine tn_iconst (pc := 65) 0 dX4_isWord_65 (by decide) ?_
      exact tn_zret (pc := 66) dX4_isWord_66 rfl rfl ⟨Or.inr ⟨fun q => c (q k hk2), rfl⟩, rfl⟩
theorem c_X4_isWord {G : en_G} {s e i kd : Nat} (hi5 : i < 5) (hT : Tap h R f len) (hse : s ≤ e) (he : e ≤ len) (hkd : kd < 5) (hH : RdH h R (nI len) (nI e) (nI kd) (nI s) vl0 ft fp sm hf) : CIT G yX4_isWord MX4_isWord [.ref R, .ref (G.2.2.1 i)] h (fun z h' => isB z (kd = 1 ∧ isW f s e i) ∧ h' = h) := by
  obtain ⟨l6, g, g1, g2⟩ := id hT
  obtain ⟨a1, a2, a3⟩ := tx_ok i hi5
  refine CIT.ofVT (by decide) rfl rfl (by simp [Value.category]) (by exact Nat.le_of_ble_eq_true rfl) (fun sz => ?_)
  refine te_aload_n (pc := 0) dX4_isWord_0 rfl rfl ?_
  refine te_get (pc := 1) fl_X4_22 dX4_isWord_1 (by repeat (first | assumption | exact hset_eq _ _ _ | (apply WAt.hd; assumption) | rw [hset_ne _ _ (by omega)])) (by rfl) ?_
  refine tn_iconst (pc := 4) 1 dX4_isWord_4 (by decide) ?_
  refine tn_icmp_ne (pc := 5) (tgt := 34) dX4_isWord_5 (by decide) (by omega) (by omega) (fun c => ?_) (fun c => ?_)
  · refine tn_iconst (pc := 34) 0 dX4_isWord_34 (by decide) ?_
    exact tn_zret (pc := 35) dX4_isWord_35 rfl rfl ⟨Or.inr ⟨fun q => c q.1, rfl⟩, rfl⟩
  · refine te_aload_n (pc := 8) dX4_isWord_8 rfl rfl ?_
    refine te_get (pc := 9) fl_X4_19 dX4_isWord_9 (by repeat (first | assumption | exact hset_eq _ _ _ | (apply WAt.hd; assumption) | rw [hset_ne _ _ (by omega)])) (by rfl) ?_
    refine te_aload_n (pc := 12) dX4_isWord_12 rfl rfl ?_
    refine te_get (pc := 13) fl_X4_25 dX4_isWord_13 (by repeat (first | assumption | exact hset_eq _ _ _ | (apply WAt.hd; assumption) | rw [hset_ne _ _ (by omega)])) (by rfl) ?_
    refine tn_isub (pc := 16) dX4_isWord_16 (by omega) ?_
    refine te_aload_n (pc := 17) dX4_isWord_17 rfl rfl ?_
    refine tn_Vs (pc := 18) (c_J0_length hi5) bJ0_length_8abf5 q_i_J0_length_8abf5 q_s_J0_length_8abf5 q_m_X4_188 dX4_isWord_18 rfl rfl hi5 rfl (by exact Nat.le_of_ble_eq_true rfl) ⟨by decide, by decide⟩ ⟨rfl, rfl, Nat.zero_le _, Nat.zero_le _⟩ (fun x h2 hp => ?_)
    obtain ⟨rfl, rfl⟩ := hp
    refine tn_icmp_ne (pc := 21) (tgt := 34) dX4_isWord_21 (by decide) (by omega) (by omega) (fun c2 => ?_) (fun c2 => ?_)
    · refine tn_iconst (pc := 34) 0 dX4_isWord_34 (by decide) ?_
      exact tn_zret (pc := 35) dX4_isWord_35 rfl rfl ⟨Or.inr ⟨fun q => c2 (by have := q.2.1; omega), rfl⟩, rfl⟩
    · refine te_aload_n (pc := 24) dX4_isWord_24 rfl rfl ?_
      refine te_get (pc := 25) fl_X4_19 dX4_isWord_25 (by repeat (first | assumption | exact hset_eq _ _ _ | (apply WAt.hd; assumption) | rw [hset_ne _ _ (by omega)])) (by rfl) ?_
      refine tn_sipush (pc := 28) 600 dX4_isWord_28 (by decide) ?_
      refine tn_icmp_le (pc := 31) (tgt := 36) dX4_isWord_31 (by decide) (by omega) (by omega) (fun hb_ => ?_) (fun c => absurd c (by omega))
      refine tn_iconst (pc := 36) 0 dX4_isWord_36 (by decide) ?_
      refine te_istore_n (pc := 37) dX4_isWord_37 rfl (by decide) ?_
      refine VT.post (fun r h' z q => ?_) (l_iw hi5 hT hse he c2 hH (lw_len.getD i 0) 0 rfl (Nat.zero_le _) (fun t ht => absurd ht (Nat.not_lt_zero t)))
      obtain ⟨q1, x, q2, q3, q4⟩ := q
      refine ⟨q1, x, q2, ?_, q4⟩
      rcases q3 with ⟨z1, z2⟩ | ⟨z1, z2⟩
      · exact Or.inl ⟨⟨c, by omega, z1⟩, z2⟩
      · exact Or.inr ⟨fun q => z1 q.2.2, z2⟩
/-- the token at i is the one read -/
def Tk (h' : AH) (R len : Nat) (f : Nat → Nat) (i : Nat) (ft fp sm hf : Int32) : Prop := i ≤ len ∧ Tap h' R f len ∧ RStp h' R len f i ft fp sm hf
theorem Tk.keep {h2 : AH} {i : Nat} (q : Tk h R len f i ft fp sm hf) (e1 : h2 R = h R) (e2 : h2 (R + 1) = h (R + 1)) : Tk h2 R len f i ft fp sm hf := by
  obtain ⟨a, b, v, c, d⟩ := q
  exact ⟨a, b.keep e2, v, e1.trans c, d⟩
/-- a fault was found -/
def Flt (h' : AH) (R len : Nat) (f : Nat → Nat) (x : Nat × Nat) : Prop := Tap h' R f len ∧ ∃ pl kd st v sm hf, RdH h' R (nI len) pl kd st v (nI x.1) (nI x.2) sm hf
theorem Flt.keep {h2 : AH} {x : Nat × Nat} (q : Flt h R len f x) (e1 : h2 R = h R) (e2 : h2 (R + 1) = h (R + 1)) : Flt h2 R len f x := by
  obtain ⟨b, pl, kd, st, v, sm, hf, c⟩ := q
  exact ⟨b.keep e2, pl, kd, st, v, sm, hf, e1.trans c⟩
theorem c_X4_fail {i k : Nat} (hT : Tk h R len f i ft fp sm hf) : CI yX4_fail MX4_fail [.ref R, .int (nI k)] h (fun z h' => z = 0 ∧ Flt h' R len f (k, tS f len i) ∧ Er R (R + 1) h h') := by
  obtain ⟨a, b, v, c, d⟩ := hT
  refine CI.ofV (by decide) rfl rfl (by simp [Value.category]) (by exact Nat.le_of_ble_eq_true rfl) (fun sz => ?_)
  refine e_aload_n (pc := 0) dX4_fail_0 rfl rfl ?_
  refine e_iload_n (pc := 1) dX4_fail_1 rfl rfl ?_
  refine e_put (pc := 2) pl_X4_31 dX4_fail_2 (by repeat (first | assumption | exact hset_eq _ _ _ | (apply WAt.hd; assumption) | rw [hset_ne _ _ (by omega)])) (by rfl) (by rfl) (by exact Nat.le_of_ble_eq_true rfl) ?_
  refine e_aload_n (pc := 5) dX4_fail_5 rfl rfl ?_
  refine e_aload_n (pc := 6) dX4_fail_6 rfl rfl ?_
  refine e_get (pc := 7) fl_X4_25 dX4_fail_7 (by repeat (first | assumption | exact hset_eq _ _ _ | (apply WAt.hd; assumption) | rw [hset_ne _ _ (by omega)])) (by rfl) ?_
  refine e_put (pc := 10) pl_X4_34 dX4_fail_10 (by repeat (first | assumption | exact hset_eq _ _ _ | (apply WAt.hd; assumption) | rw [hset_ne _ _ (by omega)])) (by rfl) (by rfl) (by exact Nat.le_of_ble_eq_true rfl) ?_
  refine n_iconst (pc := 13) 0 dX4_fail_13 (by decide) ?_
  refine n_zret (pc := 14) dX4_fail_14 rfl rfl ⟨rfl, ⟨b.keep ((hset_ne _ _ (by omega)).trans (hset_ne _ _ (by omega))), _, _, _, _, _, _, hset_eq _ _ _⟩, ((Er.rf _ _ _).set (by omega)).set (by omega)⟩
theorem c_X4_expect {i k : Nat} (hT : Tk h R len f i ft fp sm hf) (hk : k < 5) : CI yX4_expect MX4_expect [.ref R, .int (nI k)] h (fun z h' => (tC f len i = k ∧ z = 1 ∧ h' = h) ∨ (tC f len i ≠ k ∧ z = 0 ∧ Flt h' R len f (1, tS f len i) ∧ Er R (R + 1) h h')) := by
  obtain ⟨a, b, v, c, d⟩ := id hT
  have c5 : tC f len i < 5 := by unfold tC; (repeat' split) <;> omega
  refine CI.ofV (by decide) rfl rfl (by simp [Value.category]) (by exact Nat.le_of_ble_eq_true rfl) (fun sz => ?_)
  refine e_aload_n (pc := 0) dX4_expect_0 rfl rfl ?_
  refine e_get (pc := 1) fl_X4_22 dX4_expect_1 (by repeat (first | assumption | exact hset_eq _ _ _ | (apply WAt.hd; assumption) | rw [hset_ne _ _ (by omega)])) (by rfl) ?_
  refine e_iload_n (pc := 4) dX4_expect_4 rfl rfl ?_
  refine n_icmp_eq (pc := 5) (tgt := 16) dX4_expect_5 (by decide) (by omega) (by omega) (fun c1 => ?_) (fun c1 => ?_)
  · refine n_iconst (pc := 16) 1 dX4_expect_16 (by decide) ?_
    refine e_goto (pc := 17) (tgt := 21) dX4_expect_17 (by decide) ?_
    exact n_zret (pc := 21) dX4_expect_21 rfl rfl (Or.inl ⟨c1, rfl, rfl⟩)
  · refine e_aload_n (pc := 8) dX4_expect_8 rfl rfl ?_
    refine n_iconst (pc := 9) 1 dX4_expect_9 (by decide) ?_
    refine n_V (pc := 10) (c_X4_fail (k := 1) hT) bX4_fail q_i_X4_fail q_s_X4_fail q_m_X4_89 dX4_expect_10 rfl rfl (by repeat (first | assumption | exact hset_eq _ _ _ | (apply WAt.hd; assumption) | rw [hset_ne _ _ (by omega)])) rfl rfl (by exact Nat.le_of_ble_eq_true rfl) ⟨by decide, by decide⟩ ⟨rfl, rfl, Nat.zero_le _, Nat.zero_le _⟩ (fun z h2 hp => ?_)
    obtain ⟨rfl, p1, p2⟩ := hp
    refine e_if_eq (pc := 13) (tgt := 20) dX4_expect_13 (by decide) (fun _ => ?_) (fun q => absurd rfl q)
    refine n_iconst (pc := 20) 0 dX4_expect_20 (by decide) ?_
    exact n_zret (pc := 21) dX4_expect_21 rfl rfl (Or.inr ⟨c1, rfl, p1, p2⟩)
theorem tV_lt {i : Nat} (hT : Tap h R f len) (hi : i ≤ len) : tV f len i < 2 ^ 30 := by
  obtain ⟨l6, g, g1, g2⟩ := id hT
  have sb := tE_b (f := f) hi
  have hb := run_b (f := f) (P := digB) sb.2.2.2
  unfold tV
  have h1 := dv_lt (f := f) (s := tS f len i) (min 4 (run f len digB (tS f len i) - tS f len i)) (fun t ht => by
    have q : digB (f (tS f len i + t)) = true := run_in _ _ _ (Nat.le_add_right _ _) (show tS f len i + t < run f len digB (tS f len i) by omega)
    have := of_decide_eq_true q
    omega)
  have h2 : 10 ^ (min 4 (run f len digB (tS f len i) - tS f len i)) ≤ 10 ^ 4 := Nat.pow_le_pow_right (by decide) (Nat.min_le_left _ _)
  omega
theorem c_X4_numberBelow {i bd : Nat} (hT : Tk h R len f i ft fp sm hf) (hb : bd < 2 ^ 31) : CI yX4_numberBelow MX4_numberBelow [.ref R, .int (nI bd)] h (fun z h' => ((tokF f len (nt f len i 1) bd = none ∧ z = 1 ∧ Tk h' R len f (nt f len i 1) ft fp sm hf) ∨ (∃ x, tokF f len (nt f len i 1) bd = some x ∧ z = 0 ∧ Flt h' R len f x)) ∧ Er R (R + 1) h h') := by
  obtain ⟨a, b, v, c, d⟩ := id hT
  have tb := tE_b (f := f) a
  refine CI.ofV (by decide) rfl rfl (by simp [Value.category]) (by exact Nat.le_of_ble_eq_true rfl) (fun sz => ?_)
  refine e_aload_n (pc := 0) dX4_numberBelow_0 rfl rfl ?_
  refine n_Vv (pc := 1) (c_X4_step b tb.2.2.1 c) bX4_step q_i_X4_step q_s_X4_step q_m_X4_70 dX4_numberBelow_1 rfl rfl (by repeat (first | assumption | exact hset_eq _ _ _ | (apply WAt.hd; assumption) | rw [hset_ne _ _ (by omega)])) rfl rfl (by exact Nat.le_of_ble_eq_true rfl) ⟨by decide, by decide⟩ ⟨rfl, rfl, Nat.zero_le _, Nat.zero_le _⟩ (fun h2 hp => ?_)
  obtain ⟨p1, p2⟩ := hp
  have T2 : Tk h2 R len f (nt f len i 1) ft fp sm hf := ⟨tb.2.2.1, b.keep (p2 _ (by omega)), p1⟩
  obtain ⟨v2, c2, d2⟩ := id p1
  have vlt : tV f len (tE f len i) < 2 ^ 30 := tV_lt T2.2.1 T2.1
  refine e_aload_n (pc := 4) dX4_numberBelow_4 rfl rfl ?_
  refine n_iconst (pc := 5) 2 dX4_numberBelow_5 (by decide) ?_
  refine n_V (pc := 6) (c_X4_expect (k := 2) T2 (by decide)) bX4_expect q_i_X4_expect q_s_X4_expect q_m_X4_107 dX4_numberBelow_6 rfl rfl (by repeat (first | assumption | exact hset_eq _ _ _ | (apply WAt.hd; assumption) | rw [hset_ne _ _ (by omega)])) rfl rfl (by exact Nat.le_of_ble_eq_true rfl) ⟨by decide, by decide⟩ ⟨rfl, rfl, Nat.zero_le _, Nat.zero_le _⟩ (fun z h3 hp => ?_)
  rcases hp with ⟨q1, rfl, rfl⟩ | ⟨q1, rfl, q2, q3⟩
  · refine e_if_ne (pc := 9) (tgt := 14) dX4_numberBelow_9 (by decide) (fun _ => ?_) (fun q => absurd q (by decide))
    have dd := d2 q1
    refine e_aload_n (pc := 14) dX4_numberBelow_14 rfl rfl ?_
    refine e_get (pc := 15) fl_X4_28 dX4_numberBelow_15 (by repeat (first | assumption | exact hset_eq _ _ _ | (apply WAt.hd; assumption) | rw [hset_ne _ _ (by omega)])) (by rfl) ?_
    rw [dd]
    refine e_iload_n (pc := 18) dX4_numberBelow_18 rfl rfl ?_
    refine n_icmp_lt (pc := 19) (tgt := 30) dX4_numberBelow_19 (by decide) (by omega) (by omega) (fun c3 => ?_) (fun c3 => ?_)
    · refine n_iconst (pc := 30) 1 dX4_numberBelow_30 (by decide) ?_
      refine e_goto (pc := 31) (tgt := 35) dX4_numberBelow_31 (by decide) ?_
      refine n_zret (pc := 35) dX4_numberBelow_35 rfl rfl ⟨Or.inl ⟨?_, rfl, T2⟩, p2⟩
      unfold tokF
      rw [if_pos q1]
      exact if_pos c3
    · refine e_aload_n (pc := 22) dX4_numberBelow_22 rfl rfl ?_
      refine n_iconst (pc := 23) 2 dX4_numberBelow_23 (by decide) ?_
      refine n_V (pc := 24) (c_X4_fail (k := 2) T2) bX4_fail q_i_X4_fail q_s_X4_fail q_m_X4_89 dX4_numberBelow_24 rfl rfl (by repeat (first | assumption | exact hset_eq _ _ _ | (apply WAt.hd; assumption) | rw [hset_ne _ _ (by omega)])) rfl rfl (by exact Nat.le_of_ble_eq_true rfl) ⟨by decide, by decide⟩ ⟨rfl, rfl, Nat.zero_le _, Nat.zero_le _⟩ (fun z h4 hp => ?_)
      obtain ⟨rfl, p5, p6⟩ := hp
      refine e_if_eq (pc := 27) (tgt := 34) dX4_numberBelow_27 (by decide) (fun _ => ?_) (fun q => absurd rfl q)
      refine n_iconst (pc := 34) 0 dX4_numberBelow_34 (by decide) ?_
      refine n_zret (pc := 35) dX4_numberBelow_35 rfl rfl ⟨Or.inr ⟨_, ?_, rfl, p5⟩, p2.tr p6⟩
      unfold tokF
      rw [if_pos q1]
      exact if_neg (Nat.not_lt.mpr c3)
  · refine e_if_ne (pc := 9) (tgt := 14) dX4_numberBelow_9 (by decide) (fun q => absurd rfl q) (fun _ => ?_)
    refine n_iconst (pc := 12) 0 dX4_numberBelow_12 (by decide) ?_
    refine n_zret (pc := 13) dX4_numberBelow_13 rfl rfl ⟨Or.inr ⟨_, ?_, rfl, q2⟩, p2.tr q3⟩
    unfold tokF
    rw [if_neg q1]
end R2D
