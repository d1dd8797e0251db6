/-! ===== Study: who joins; idempotents, squares, powers ===== -/
/-- (x y) z less x (y z) of base elements -/
def asc (W : Wd) (i j k : Nat) : Nat := sb W.1 (mul W (mul W (W.1 ^ i) (W.1 ^ j)) (W.1 ^ k)) (mul W (W.1 ^ i) (mul W (W.1 ^ j) (W.1 ^ k)))
theorem asc_lt {W : Wd} (hk : Wok W) (i j k : Nat) : asc W i j k < W.1 ^ W.2.1 := sb_lt (by have := hk.b; omega) (by have := hk.b; omega) (mul_lt hk _ _) (mul_lt hk _ _)
section SV
variable {h : AH} {E o : Nat} {W : Wd} {f : Int32}
theorem c_X7_difference {i j k T : Nat} (hW : WAt h o W f) (hk : Wok W) (hi : i < W.2.1) (hj : j < W.2.1) (hkk : k < W.2.1) : CI yX7_difference MX7_difference [.ref T, .ref o, .int (nI i), .int (nI j), .int (nI k)] h (fun z h' => z = nI (asc W i j k) ∧ WAt h' o W f ∧ Es o h h') := by
  obtain ⟨b1, b2, b3, b4, b5⟩ := hk.b
  obtain ⟨w0, -, -⟩ := id hW
  have qi := pow_q hk hi
  have qj := pow_q hk hj
  have qk := pow_q hk hkk
  have m1 := mul_lt hk (W.1 ^ i) (W.1 ^ j)
  have m2 := mul_lt hk (W.1 ^ j) (W.1 ^ k)
  have m3 := mul_lt hk (mul W (W.1 ^ i) (W.1 ^ j)) (W.1 ^ k)
  have m4 := mul_lt hk (W.1 ^ i) (mul W (W.1 ^ j) (W.1 ^ k))
  have q5 : W.1 ^ W.2.1 ≤ W.1 ^ 5 := Nat.pow_le_pow_right (by omega) b4
  refine CI.ofV (by decide) rfl rfl (by simp [Value.category]) (by exact Nat.le_of_ble_eq_true rfl) (fun sz => ?_)
  refine e_aload_n (pc := 0) dX7_difference_0 rfl rfl ?_
  refine e_iload_n (pc := 1) dX7_difference_1 rfl rfl ?_
  refine n_VP (pc := 2) (c_X9_base hW hk (show i ≤ 5 by omega)) bX9_base q_i_X9_base q_s_X9_base q_m_X7_73 dX7_difference_2 rfl rfl (by repeat (first | assumption | exact hset_eq _ _ _ | rw [hset_ne _ _ (by omega)])) rfl rfl (by exact Nat.le_of_ble_eq_true rfl) ⟨by decide, by decide⟩ ⟨rfl, rfl, Nat.zero_le _, Nat.zero_le _⟩ ?_
  refine e_istore (pc := 5) dX7_difference_5 (by decide) ?_
  refine e_aload_n (pc := 7) dX7_difference_7 rfl rfl ?_
  refine e_iload_n (pc := 8) dX7_difference_8 rfl rfl ?_
  refine n_VP (pc := 9) (c_X9_base hW hk (show j ≤ 5 by omega)) bX9_base q_i_X9_base q_s_X9_base q_m_X7_73 dX7_difference_9 rfl rfl (by repeat (first | assumption | exact hset_eq _ _ _ | rw [hset_ne _ _ (by omega)])) rfl rfl (by exact Nat.le_of_ble_eq_true rfl) ⟨by decide, by decide⟩ ⟨rfl, rfl, Nat.zero_le _, Nat.zero_le _⟩ ?_
  refine e_istore (pc := 12) dX7_difference_12 (by decide) ?_
  refine e_aload_n (pc := 14) dX7_difference_14 rfl rfl ?_
  refine e_iload (pc := 15) dX7_difference_15 rfl ?_
  refine n_VP (pc := 17) (c_X9_base hW hk (show k ≤ 5 by omega)) bX9_base q_i_X9_base q_s_X9_base q_m_X7_73 dX7_difference_17 rfl rfl (by repeat (first | assumption | exact hset_eq _ _ _ | rw [hset_ne _ _ (by omega)])) rfl rfl (by exact Nat.le_of_ble_eq_true rfl) ⟨by decide, by decide⟩ ⟨rfl, rfl, Nat.zero_le _, Nat.zero_le _⟩ ?_
  refine e_istore (pc := 20) dX7_difference_20 (by decide) ?_
  refine e_aload_n (pc := 22) dX7_difference_22 rfl rfl ?_
  refine e_aload_n (pc := 23) dX7_difference_23 rfl rfl ?_
  refine e_iload (pc := 24) dX7_difference_24 rfl ?_
  refine e_iload (pc := 26) dX7_difference_26 rfl ?_
  refine n_V (pc := 28) (c_X9_times2 hW hk (show W.1 ^ i < 3125 by omega) (show W.1 ^ j < 3125 by omega)) bX9_times q_i_X9_times q_s_X9_times q_m_X7_62 dX7_difference_28 rfl rfl (by repeat (first | assumption | exact hset_eq _ _ _ | rw [hset_ne _ _ (by omega)])) rfl rfl (by exact Nat.le_of_ble_eq_true rfl) ⟨by decide, by decide⟩ ⟨rfl, rfl, Nat.zero_le _, Nat.zero_le _⟩ (fun x h2 hp => ?_)
  obtain ⟨rfl, p1, p2⟩ := hp
  obtain ⟨w0, -, -⟩ := id p1
  refine e_iload (pc := 31) dX7_difference_31 rfl ?_
  refine n_V (pc := 33) (c_X9_times2 p1 hk (show mul W (W.1 ^ i) (W.1 ^ j) < 3125 by omega) (show W.1 ^ k < 3125 by omega)) bX9_times q_i_X9_times q_s_X9_times q_m_X7_62 dX7_difference_33 rfl rfl (by assumption) rfl rfl (by exact Nat.le_of_ble_eq_true rfl) ⟨by decide, by decide⟩ ⟨rfl, rfl, Nat.zero_le _, Nat.zero_le _⟩ (fun x h3 hp => ?_)
  obtain ⟨rfl, p3, p4⟩ := hp
  obtain ⟨w0, -, -⟩ := id p3
  refine e_istore (pc := 36) dX7_difference_36 (by decide) ?_
  refine e_aload_n (pc := 38) dX7_difference_38 rfl rfl ?_
  refine e_iload (pc := 39) dX7_difference_39 rfl ?_
  refine e_aload_n (pc := 41) dX7_difference_41 rfl rfl ?_
  refine e_iload (pc := 42) dX7_difference_42 rfl ?_
  refine e_iload (pc := 44) dX7_difference_44 rfl ?_
  refine n_V (pc := 46) (c_X9_times2 p3 hk (show W.1 ^ j < 3125 by omega) (show W.1 ^ k < 3125 by omega)) bX9_times q_i_X9_times q_s_X9_times q_m_X7_62 dX7_difference_46 rfl rfl (by assumption) rfl rfl (by exact Nat.le_of_ble_eq_true rfl) ⟨by decide, by decide⟩ ⟨rfl, rfl, Nat.zero_le _, Nat.zero_le _⟩ (fun x h4 hp => ?_)
  obtain ⟨rfl, p5, p6⟩ := hp
  obtain ⟨w0, -, -⟩ := id p5
  refine n_V (pc := 49) (c_X9_times2 p5 hk (show W.1 ^ i < 3125 by omega) (show mul W (W.1 ^ j) (W.1 ^ k) < 3125 by omega)) bX9_times q_i_X9_times q_s_X9_times q_m_X7_62 dX7_difference_49 rfl rfl (by assumption) rfl rfl (by exact Nat.le_of_ble_eq_true rfl) ⟨by decide, by decide⟩ ⟨rfl, rfl, Nat.zero_le _, Nat.zero_le _⟩ (fun x h5 hp => ?_)
  obtain ⟨rfl, p7, p8⟩ := hp
  obtain ⟨w0, -, -⟩ := id p7
  have ee : Es o h h5 := p2.tr (p4.tr (p6.tr p8))
  refine e_istore (pc := 52) dX7_difference_52 (by decide) ?_
  refine e_iload (pc := 54) dX7_difference_54 rfl ?_
  refine e_iload (pc := 56) dX7_difference_56 rfl ?_
  refine n_icmp_ne (pc := 58) (tgt := 65) dX7_difference_58 (by decide) (by omega) (by omega) (fun hne => ?_) (fun hne => ?_)
  · refine e_aload_n (pc := 65) dX7_difference_65 rfl rfl ?_
    refine n_VP (pc := 66) (c_X9_prime p7) bX9_prime q_i_X9_prime q_s_X9_prime q_m_X7_81 dX7_difference_66 rfl rfl (by repeat (first | assumption | exact hset_eq _ _ _ | rw [hset_ne _ _ (by omega)])) rfl rfl (by exact Nat.le_of_ble_eq_true rfl) ⟨by decide, by decide⟩ ⟨rfl, rfl, Nat.zero_le _, Nat.zero_le _⟩ ?_
    refine e_iload (pc := 69) dX7_difference_69 rfl ?_
    refine e_iload (pc := 71) dX7_difference_71 rfl ?_
    refine n_SP (pc := 73) (c_X8_less b1 b2 (show mul W (mul W (W.1 ^ i) (W.1 ^ j)) (W.1 ^ k) < W.1 ^ 5 by omega) (show mul W (W.1 ^ i) (mul W (W.1 ^ j) (W.1 ^ k)) < W.1 ^ 5 by omega)) bX8_less q_st_X8_less q_m_X7_102 dX7_difference_73 rfl rfl (by exact Nat.le_of_ble_eq_true rfl) ⟨by decide, by decide⟩ ⟨rfl, rfl, Nat.zero_le _, Nat.zero_le _⟩ ?_
    exact n_iret (pc := 76) dX7_difference_76 rfl ⟨rfl, p7, ee⟩
  · refine n_iconst (pc := 61) 0 dX7_difference_61 (by decide) ?_
    refine e_goto (pc := 62) (tgt := 76) dX7_difference_62 (by decide) ?_
    exact n_iret (pc := 76) dX7_difference_76 rfl ⟨by rw [show asc W i j k = 0 from (sb_zero (by omega) b4 m3 m4).mpr hne], p7, ee⟩
/-- the first base elements that do not join; none -/
def Unj (W : Wd) (z : Int32) : Prop := (∃ i j k, z = nI (25 * i + 5 * j + k) ∧ i < W.2.1 ∧ j < W.2.1 ∧ k < W.2.1 ∧ asc W i j k ≠ 0 ∧ ∀ a b c, a < W.2.1 → b < W.2.1 → c < W.2.1 → (a < i ∨ a = i ∧ (b < j ∨ b = j ∧ c < k)) → asc W a b c = 0) ∨ (z = -1 ∧ ∀ a b c, a < W.2.1 → b < W.2.1 → c < W.2.1 → asc W a b c = 0)
def Upto (W : Wd) (i j k : Nat) : Prop := ∀ a b c, a < W.2.1 → b < W.2.1 → c < W.2.1 → (a < i ∨ a = i ∧ (b < j ∨ b = j ∧ c < k)) → asc W a b c = 0
section FU
variable {sz T : Nat} {hh : AH}
theorem l_fu_k {i j : Nat} (hk : Wok W) (hi : i < W.2.1) (hj : j < W.2.1) {Pr : Int32 → AH → Prop} (kf : ∀ h1 k, k < W.2.1 → asc W i j k ≠ 0 → Upto W i j k → WAt h1 o W f → Es o hh h1 → Pr (nI (25 * i + 5 * j + k)) h1)
    (hT : h (T) = h T) (kk : ∀ h1, WAt h1 o W f → Es o hh h1 → Upto W i (j + 1) 0 → h1 T = h T → VI MX7_firstUnjoined sz Pr h1 62 [some (.ref T), some (.ref o), some (.int (nI W.2.1)), some (.int (nI i)), some (.int (nI j)), none] []) (hTT : ∃ fs, h T = some (ob 7 fs)) (d : T ≠ o + 2) :
    ∀ (n k : Nat), n = W.2.1 - k → k ≤ W.2.1 → ∀ h1, WAt h1 o W f → Es o hh h1 → Upto W i j k → h1 T = h T → VI MX7_firstUnjoined sz Pr h1 24 [some (.ref T), some (.ref o), some (.int (nI W.2.1)), some (.int (nI i)), some (.int (nI j)), some (.int (nI k))] [] := by
  obtain ⟨b1, b2, b3, b4, b5⟩ := hk.b
  intro n
  induction n with
  | zero =>
    intro k e1 e2 h1 hW he hu ht
    have e' : k = W.2.1 := by omega
    subst e'
    refine e_iload (pc := 24) dX7_firstUnjoined_24 rfl ?_
    refine e_iload_n (pc := 26) dX7_firstUnjoined_26 rfl rfl ?_
    refine n_icmp_ge (pc := 27) (tgt := 62) dX7_firstUnjoined_27 (by decide) (by omega) (by omega) (fun hb_ => ?_) (fun c => absurd c (by omega))
    refine V.mask [true, true, true, true, true, false] ?_
    exact kk h1 hW he (fun a b c ha hb hc hx => hu a b c ha hb hc (by omega)) ht
  | succ n ih =>
    intro k e1 e2 h1 hW he hu ht
    obtain ⟨fs, hfs⟩ := hTT
    rw [← ht] at hfs
    have a1 := asc_lt hk i j k
    refine e_iload (pc := 24) dX7_firstUnjoined_24 rfl ?_
    refine e_iload_n (pc := 26) dX7_firstUnjoined_26 rfl rfl ?_
    refine n_icmp_ge (pc := 27) (tgt := 62) dX7_firstUnjoined_27 (by decide) (by omega) (by omega) (fun c => absurd c (by omega)) (fun hb_ => ?_)
    refine e_aload_n (pc := 30) dX7_firstUnjoined_30 rfl rfl ?_
    refine e_aload_n (pc := 31) dX7_firstUnjoined_31 rfl rfl ?_
    refine e_iload_n (pc := 32) dX7_firstUnjoined_32 rfl rfl ?_
    refine e_iload (pc := 33) dX7_firstUnjoined_33 rfl ?_
    refine e_iload (pc := 35) dX7_firstUnjoined_35 rfl ?_
    refine n_V (pc := 37) (c_X7_difference hW hk hi hj hb_) bX7_difference q_i_X7_difference q_s_X7_difference q_m_X7_106 dX7_firstUnjoined_37 rfl rfl (by repeat (first | assumption | exact hset_eq _ _ _ | rw [hset_ne _ _ (by omega)])) rfl rfl (by exact Nat.le_of_ble_eq_true rfl) ⟨by decide, by decide⟩ ⟨rfl, rfl, Nat.zero_le _, Nat.zero_le _⟩ (fun x h2 hp => ?_)
    obtain ⟨rfl, p1, p2⟩ := hp
    refine n_if_eq (pc := 40) (tgt := 56) dX7_firstUnjoined_40 (by decide) (by omega) (fun hne => ?_) (fun hne => ?_)
    · refine n_inc (pc := 56) dX7_firstUnjoined_56 rfl (by decide) ?_
      refine e_goto (pc := 59) (tgt := 24) dX7_firstUnjoined_59 (by decide) ?_
      refine ih (k + 1) (by omega) (by omega) h2 p1 (he.tr p2) (fun a b c ha hb hc hx => ?_) ((p2 T d).trans ht)
      by_cases e : a = i ∧ b = j ∧ c = k
      · obtain ⟨rfl, rfl, rfl⟩ := e; exact hne
      · exact hu a b c ha hb hc (by omega)
    · refine n_bipush (pc := 43) 25 dX7_firstUnjoined_43 (by decide) ?_
      refine e_iload_n (pc := 45) dX7_firstUnjoined_45 rfl rfl ?_
      refine n_imul (pc := 46) dX7_firstUnjoined_46 ?_
      refine n_iconst (pc := 47) 5 dX7_firstUnjoined_47 (by decide) ?_
      refine e_iload (pc := 48) dX7_firstUnjoined_48 rfl ?_
      refine n_imul (pc := 50) dX7_firstUnjoined_50 ?_
      refine n_iadd (pc := 51) dX7_firstUnjoined_51 ?_
      refine e_iload (pc := 52) dX7_firstUnjoined_52 rfl ?_
      refine n_iadd (pc := 54) dX7_firstUnjoined_54 ?_
      exact n_iret (pc := 55) dX7_firstUnjoined_55 rfl (kf h2 k hb_ hne hu p1 (he.tr p2))
theorem l_fu_j {i : Nat} (hk : Wok W) (hi : i < W.2.1) {Pr : Int32 → AH → Prop} (kf : ∀ h1 j k, j < W.2.1 → k < W.2.1 → asc W i j k ≠ 0 → Upto W i j k → WAt h1 o W f → Es o hh h1 → Pr (nI (25 * i + 5 * j + k)) h1)
    (kk : ∀ h1, WAt h1 o W f → Es o hh h1 → Upto W (i + 1) 0 0 → h1 T = h T → VI MX7_firstUnjoined sz Pr h1 68 [some (.ref T), some (.ref o), some (.int (nI W.2.1)), some (.int (nI i)), none, none] []) (hTT : ∃ fs, h T = some (ob 7 fs)) (d : T ≠ o + 2) :
    ∀ (n j : Nat), n = W.2.1 - j → j ≤ W.2.1 → ∀ h1, WAt h1 o W f → Es o hh h1 → Upto W i j 0 → h1 T = h T → VI MX7_firstUnjoined sz Pr h1 15 [some (.ref T), some (.ref o), some (.int (nI W.2.1)), some (.int (nI i)), some (.int (nI j)), none] [] := by
  obtain ⟨b1, b2, b3, b4, b5⟩ := hk.b
  intro n
  induction n with
  | zero =>
    intro j e1 e2 h1 hW he hu ht
    have e' : j = W.2.1 := by omega
    subst e'
    refine e_iload (pc := 15) dX7_firstUnjoined_15 rfl ?_
    refine e_iload_n (pc := 17) dX7_firstUnjoined_17 rfl rfl ?_
    refine n_icmp_ge (pc := 18) (tgt := 68) dX7_firstUnjoined_18 (by decide) (by omega) (by omega) (fun hb_ => ?_) (fun c => absurd c (by omega))
    refine V.mask [true, true, true, true, false, false] ?_
    exact kk h1 hW he (fun a b c ha hb hc hx => hu a b c ha hb hc (by omega)) ht
  | succ n ih =>
    intro j e1 e2 h1 hW he hu ht
    refine e_iload (pc := 15) dX7_firstUnjoined_15 rfl ?_
    refine e_iload_n (pc := 17) dX7_firstUnjoined_17 rfl rfl ?_
    refine n_icmp_ge (pc := 18) (tgt := 68) dX7_firstUnjoined_18 (by decide) (by omega) (by omega) (fun c => absurd c (by omega)) (fun hb_ => ?_)
    refine n_iconst (pc := 21) 0 dX7_firstUnjoined_21 (by decide) ?_
    refine e_istore (pc := 22) dX7_firstUnjoined_22 (by decide) ?_
    refine l_fu_k (h := h) (hh := hh) (f := f) hk hi hb_ (fun h1 k a b c dd ee => kf h1 j k hb_ a b c dd ee) rfl (fun h3 hW3 he3 hu3 ht3 => ?_) hTT d W.2.1 0 rfl (Nat.zero_le _) h1 hW he hu ht
    refine n_inc (pc := 62) dX7_firstUnjoined_62 rfl (by decide) ?_
    refine e_goto (pc := 65) (tgt := 15) dX7_firstUnjoined_65 (by decide) ?_
    exact ih (j + 1) (by omega) (by omega) h3 hW3 he3 hu3 ht3
theorem l_fu_i (hk : Wok W) (hTT : ∃ fs, h T = some (ob 7 fs)) (d : T ≠ o + 2) :
    ∀ (n i : Nat), n = W.2.1 - i → i ≤ W.2.1 → ∀ h1, WAt h1 o W f → Es o hh h1 → Upto W i 0 0 → h1 T = h T → VI MX7_firstUnjoined sz (fun z h' => Unj W z ∧ WAt h' o W f ∧ Es o hh h') h1 7 [some (.ref T), some (.ref o), some (.int (nI W.2.1)), some (.int (nI i)), none, none] [] := by
  obtain ⟨b1, b2, b3, b4, b5⟩ := hk.b
  intro n
  induction n with
  | zero =>
    intro i e1 e2 h1 hW he hu ht
    have e' : i = W.2.1 := by omega
    subst e'
    refine e_iload_n (pc := 7) dX7_firstUnjoined_7 rfl rfl ?_
    refine e_iload_n (pc := 8) dX7_firstUnjoined_8 rfl rfl ?_
    refine n_icmp_ge (pc := 9) (tgt := 74) dX7_firstUnjoined_9 (by decide) (by omega) (by omega) (fun hb_ => ?_) (fun c => absurd c (by omega))
    refine e_iconst (pc := 74) (v := -1) dX7_firstUnjoined_74 (by decide) ?_
    exact n_iret (pc := 75) dX7_firstUnjoined_75 rfl ⟨Or.inr ⟨rfl, fun a b c ha hb hc => hu a b c ha hb hc (Or.inl ha)⟩, hW, he⟩
  | succ n ih =>
    intro i e1 e2 h1 hW he hu ht
    refine e_iload_n (pc := 7) dX7_firstUnjoined_7 rfl rfl ?_
    refine e_iload_n (pc := 8) dX7_firstUnjoined_8 rfl rfl ?_
    refine n_icmp_ge (pc := 9) (tgt := 74) dX7_firstUnjoined_9 (by decide) (by omega) (by omega) (fun c => absurd c (by omega)) (fun hb_ => ?_)
    refine n_iconst (pc := 12) 0 dX7_firstUnjoined_12 (by decide) ?_
    refine e_istore (pc := 13) dX7_firstUnjoined_13 (by decide) ?_
    refine l_fu_j (h := h) (hh := hh) (f := f) hk hb_ (fun h1 j k a b c dd ee ff => ⟨Or.inl ⟨i, j, k, rfl, hb_, a, b, c, dd⟩, ee, ff⟩) (fun h3 hW3 he3 hu3 ht3 => ?_) hTT d W.2.1 0 rfl (Nat.zero_le _) h1 hW he hu ht
    refine n_inc (pc := 68) dX7_firstUnjoined_68 rfl (by decide) ?_
    refine e_goto (pc := 71) (tgt := 7) dX7_firstUnjoined_71 (by decide) ?_
    exact ih (i + 1) (by omega) (by omega) h3 hW3 he3 hu3 ht3
end FU
theorem c_X7_firstUnjoined (hT : TSh h E) (hW : WAt h o W f) (hk : Wok W) (d : o + 3 ≤ E ∨ E + 89 ≤ o) : CI yX7_firstUnjoined MX7_firstUnjoined [.ref (E + 83), .ref o] h (fun z h' => Unj W z ∧ WAt h' o W f ∧ Es o h h') := by
  obtain ⟨w0, -, -⟩ := id hW
  refine CI.ofV (by decide) rfl rfl (by simp [Value.category]) (by exact Nat.le_of_ble_eq_true rfl) (fun sz => ?_)
  refine e_aload_n (pc := 0) dX7_firstUnjoined_0 rfl rfl ?_
  refine n_VP (pc := 1) (c_X9_size hW) bX9_size q_i_X9_size q_s_X9_size q_m_X7_70 dX7_firstUnjoined_1 rfl rfl (by repeat (first | assumption | exact hset_eq _ _ _ | rw [hset_ne _ _ (by omega)])) rfl rfl (by exact Nat.le_of_ble_eq_true rfl) ⟨by decide, by decide⟩ ⟨rfl, rfl, Nat.zero_le _, Nat.zero_le _⟩ ?_
  refine e_istore_n (pc := 4) dX7_firstUnjoined_4 rfl (by decide) ?_
  refine n_iconst (pc := 5) 0 dX7_firstUnjoined_5 (by decide) ?_
  refine e_istore_n (pc := 6) dX7_firstUnjoined_6 rfl (by decide) ?_
  exact l_fu_i (h := h) hk ⟨_, hT.2.1⟩ (by omega) W.2.1 0 rfl (Nat.zero_le _) h hW (Es.rf o h) (fun a b c ha hb hc hx => absurd hx (by omega)) rfl
theorem l_idem {sz T : Nat} {hh : AH} (hk : Wok W) :
    ∀ (n x : Nat), n = W.1 ^ W.2.1 - x → x ≤ W.1 ^ W.2.1 → ∀ h1, WAt h1 o W f → Es o hh h1 → VI MX7_idempotents sz (fun z h' => z = nI (cn (W.1 ^ W.2.1) (fun x => decide (mul W x x = x))) ∧ WAt h' o W f ∧ Es o hh h') h1 4 [some (.ref T), some (.ref o), some (.int (nI (cn x (fun x => decide (mul W x x = x))))), some (.int (nI x))] [] := by
  obtain ⟨b1, b2, b3, b4, b5⟩ := hk.b
  intro n
  induction n with
  | zero =>
    intro x e1 e2 h1 hW he
    have e' : x = W.1 ^ W.2.1 := by omega
    subst e'
    obtain ⟨w0, -, -⟩ := id hW
    refine e_iload_n (pc := 4) dX7_idempotents_4 rfl rfl ?_
    refine e_aload_n (pc := 5) dX7_idempotents_5 rfl rfl ?_
    refine n_VP (pc := 6) (c_X9_order hW) bX9_order q_i_X9_order q_s_X9_order q_m_X7_52 dX7_idempotents_6 rfl rfl (by repeat (first | assumption | exact hset_eq _ _ _ | rw [hset_ne _ _ (by omega)])) rfl rfl (by exact Nat.le_of_ble_eq_true rfl) ⟨by decide, by decide⟩ ⟨rfl, rfl, Nat.zero_le _, Nat.zero_le _⟩ ?_
    refine n_icmp_ge (pc := 9) (tgt := 31) dX7_idempotents_9 (by decide) (by omega) (by omega) (fun hb_ => ?_) (fun c => absurd c (by omega))
    refine e_iload_n (pc := 31) dX7_idempotents_31 rfl rfl ?_
    exact n_iret (pc := 32) dX7_idempotents_32 rfl ⟨rfl, hW, he⟩
  | succ n ih =>
    intro x e1 e2 h1 hW he
    obtain ⟨w0, -, -⟩ := id hW
    have m1 := mul_lt hk x x
    refine e_iload_n (pc := 4) dX7_idempotents_4 rfl rfl ?_
    refine e_aload_n (pc := 5) dX7_idempotents_5 rfl rfl ?_
    refine n_VP (pc := 6) (c_X9_order hW) bX9_order q_i_X9_order q_s_X9_order q_m_X7_52 dX7_idempotents_6 rfl rfl (by repeat (first | assumption | exact hset_eq _ _ _ | rw [hset_ne _ _ (by omega)])) rfl rfl (by exact Nat.le_of_ble_eq_true rfl) ⟨by decide, by decide⟩ ⟨rfl, rfl, Nat.zero_le _, Nat.zero_le _⟩ ?_
    refine n_icmp_ge (pc := 9) (tgt := 31) dX7_idempotents_9 (by decide) (by omega) (by omega) (fun c => absurd c (by omega)) (fun hb_ => ?_)
    refine e_aload_n (pc := 12) dX7_idempotents_12 rfl rfl ?_
    refine e_iload_n (pc := 13) dX7_idempotents_13 rfl rfl ?_
    refine e_iload_n (pc := 14) dX7_idempotents_14 rfl rfl ?_
    refine n_V (pc := 15) (c_X9_times2 hW hk (show x < 3125 by omega) (show x < 3125 by omega)) bX9_times q_i_X9_times q_s_X9_times q_m_X7_62 dX7_idempotents_15 rfl rfl (by repeat (first | assumption | exact hset_eq _ _ _ | rw [hset_ne _ _ (by omega)])) rfl rfl (by exact Nat.le_of_ble_eq_true rfl) ⟨by decide, by decide⟩ ⟨rfl, rfl, Nat.zero_le _, Nat.zero_le _⟩ (fun x h2 hp => ?_)
    obtain ⟨rfl, p1, p2⟩ := hp
    refine e_iload_n (pc := 18) dX7_idempotents_18 rfl rfl ?_
    refine n_icmp_ne (pc := 19) (tgt := 25) dX7_idempotents_19 (by decide) (by omega) (by omega) (fun hne => ?_) (fun hne => ?_)
    · refine n_inc (pc := 25) dX7_idempotents_25 rfl (by decide) ?_
      refine e_goto (pc := 28) (tgt := 4) dX7_idempotents_28 (by decide) ?_
      have q := ih (x + 1) (by omega) (by omega) h2 p1 (he.tr p2)
      have e : cn (x + 1) (fun x => decide (mul W x x = x)) = cn x (fun x => decide (mul W x x = x)) := by
        show cn x _ + (if decide (mul W x x = x) = true then 1 else 0) = _
        rw [if_neg (by simpa using hne), Nat.add_zero]
      rw [e] at q
      exact q
    · refine n_inc (pc := 22) dX7_idempotents_22 rfl (by decide) ?_
      refine n_inc (pc := 25) dX7_idempotents_25 rfl (by decide) ?_
      refine e_goto (pc := 28) (tgt := 4) dX7_idempotents_28 (by decide) ?_
      have q := ih (x + 1) (by omega) (by omega) h2 p1 (he.tr p2)
      have e : cn (x + 1) (fun x => decide (mul W x x = x)) = cn x (fun x => decide (mul W x x = x)) + 1 := by
        show cn x _ + (if decide (mul W x x = x) = true then 1 else 0) = _
        rw [if_pos (by simpa using hne)]
      rw [e] at q
      exact q
theorem c_X7_idempotents {T : Nat} (hW : WAt h o W f) (hk : Wok W) : CI yX7_idempotents MX7_idempotents [.ref T, .ref o] h (fun z h' => z = nI (cn (W.1 ^ W.2.1) (fun x => decide (mul W x x = x))) ∧ WAt h' o W f ∧ Es o h h') := by
  refine CI.ofV (by decide) rfl rfl (by simp [Value.category]) (by exact Nat.le_of_ble_eq_true rfl) (fun sz => ?_)
  refine n_iconst (pc := 0) 0 dX7_idempotents_0 (by decide) ?_
  refine e_istore_n (pc := 1) dX7_idempotents_1 rfl (by decide) ?_
  refine n_iconst (pc := 2) 0 dX7_idempotents_2 (by decide) ?_
  refine e_istore_n (pc := 3) dX7_idempotents_3 rfl (by decide) ?_
  exact l_idem hk (W.1 ^ W.2.1) 0 rfl (Nat.zero_le _) h hW (Es.rf o h)
/-- which elements have been seen -/
def SAt (h : AH) (E : Nat) (s : Nat → Bool) : Prop := ∃ g, h (E + 88) = some (aZ 243 g) ∧ ∀ t, t < 243 → g t = bI (s t)
theorem TSh.seen {h : AH} {E : Nat} {g : Nat → Int32} (q : TSh h E) : TSh (hset h (E + 88) (aZ 243 g)) E := by
  obtain ⟨a1, a2, ⟨f3, a3⟩, ⟨f4, a4⟩, ⟨f5, a5⟩, ⟨f6, a6⟩, ⟨f7, a7⟩⟩ := q
  exact ⟨a1.far (fun a x y => hset_ne _ _ (by omega)), by rw [hset_ne _ _ (by omega)]; exact a2, ⟨f3, by rw [hset_ne _ _ (by omega)]; exact a3⟩, ⟨f4, by rw [hset_ne _ _ (by omega)]; exact a4⟩, ⟨f5, by rw [hset_ne _ _ (by omega)]; exact a5⟩, ⟨f6, by rw [hset_ne _ _ (by omega)]; exact a6⟩, ⟨g, hset_eq _ _ _⟩⟩
theorem l_forget {sz : Nat} (hT : TSh h E) :
    ∀ (n t : Nat), n = 243 - t → t ≤ 243 → ∀ g, (∀ s, s < t → g s = 0) → VV MX7_forgetSeen sz (fun h' => TSh h' E ∧ SAt h' E (fun _ => false) ∧ Er (E + 88) (E + 89) h h') (hset h (E + 88) (aZ 243 g)) 2 [some (.ref (E + 83)), some (.int (nI t))] [] := by
  obtain ⟨-, t0, -⟩ := id hT
  intro n
  induction n with
  | zero =>
    intro t e1 e2 g hg
    have e' : t = 243 := by omega
    subst e'
    refine e_iload_n (pc := 2) dX7_forgetSeen_2 rfl rfl ?_
    refine n_sipush (pc := 3) 243 dX7_forgetSeen_3 (by decide) ?_
    refine n_icmp_ge (pc := 6) (tgt := 22) dX7_forgetSeen_6 (by decide) (by omega) (by omega) (fun hb_ => ?_) (fun c => absurd c (by omega))
    exact n_vret (pc := 22) dX7_forgetSeen_22 rfl ⟨hT.seen, ⟨g, hset_eq _ _ _, hg⟩, (Er.rf _ _ h).set (by omega)⟩
  | succ n ih =>
    intro t e1 e2 g hg
    refine e_iload_n (pc := 2) dX7_forgetSeen_2 rfl rfl ?_
    refine n_sipush (pc := 3) 243 dX7_forgetSeen_3 (by decide) ?_
    refine n_icmp_ge (pc := 6) (tgt := 22) dX7_forgetSeen_6 (by decide) (by omega) (by omega) (fun c => absurd c (by omega)) (fun hb_ => ?_)
    refine e_aload_n (pc := 9) dX7_forgetSeen_9 rfl rfl ?_
    refine e_get (pc := 10) fl_X7_24 dX7_forgetSeen_10 (by repeat (first | assumption | exact hset_eq _ _ _ | rw [hset_ne _ _ (by omega)])) (by rfl) ?_
    refine e_iload_n (pc := 13) dX7_forgetSeen_13 rfl rfl ?_
    refine n_iconst (pc := 14) 0 dX7_forgetSeen_14 (by decide) ?_
    refine e_zastN (pc := 15) _ dX7_forgetSeen_15 (by repeat (first | assumption | exact hset_eq _ _ _ | rw [hset_ne _ _ (by omega)])) (by rfl) (by omega) (by first | decide | omega) ?_
    refine n_inc (pc := 16) dX7_forgetSeen_16 rfl (by decide) ?_
    refine e_goto (pc := 19) (tgt := 2) dX7_forgetSeen_19 (by decide) ?_
    rw [hset_hset]
    refine ih (t + 1) (by omega) (by omega) _ (fun s hs => ?_)
    by_cases e : s = t
    · subst e; rw [pk_us]; rfl
    · rw [pk_un e]; exact hg s (by omega)
theorem c_X7_forgetSeen (hT : TSh h E) : CV yX7_forgetSeen MX7_forgetSeen [.ref (E + 83)] h (fun h' => TSh h' E ∧ SAt h' E (fun _ => false) ∧ Er (E + 88) (E + 89) h h') := by
  obtain ⟨-, -, -, -, -, -, ⟨g, hg⟩⟩ := id hT
  refine CV.ofV (by decide) rfl rfl (by simp [Value.category]) (by exact Nat.le_of_ble_eq_true rfl) (fun sz => ?_)
  refine n_iconst (pc := 0) 0 dX7_forgetSeen_0 (by decide) ?_
  refine e_istore_n (pc := 1) dX7_forgetSeen_1 rfl (by decide) ?_
  refine e_heap (hset_self hg).symm ?_
  exact l_forget hT 243 0 rfl (Nat.zero_le _) g (fun s hs => absurd hs (Nat.not_lt_zero s))
theorem c_X7_isFirstSeen {s : Nat → Bool} {x : Nat} (hT : TSh h E) (hS : SAt h E s) (hx : x < 243) : CI yX7_isFirstSeen MX7_isFirstSeen [.ref (E + 83), .int (nI x)] h (fun z h' => isB z (s x = false) ∧ TSh h' E ∧ SAt h' E (fun t => if t = x then true else s t) ∧ Er (E + 88) (E + 89) h h') := by
  obtain ⟨-, t0, -⟩ := id hT
  obtain ⟨g, hg, hg2⟩ := id hS
  have e1 := hg2 x hx
  refine CI.ofV (by decide) rfl rfl (by simp [Value.category]) (by exact Nat.le_of_ble_eq_true rfl) (fun sz => ?_)
  refine e_iload_n (pc := 0) dX7_isFirstSeen_0 rfl rfl ?_
  refine n_if_lt (pc := 1) (tgt := 20) dX7_isFirstSeen_1 (by omega) ?_ (by decide)
  refine e_iload_n (pc := 4) dX7_isFirstSeen_4 rfl rfl ?_
  refine n_sipush (pc := 5) 243 dX7_isFirstSeen_5 (by decide) ?_
  refine n_icmp_ge (pc := 8) (tgt := 20) dX7_isFirstSeen_8 (by decide) (by omega) (by omega) (fun c => absurd c (by omega)) (fun hb_ => ?_)
  refine e_aload_n (pc := 11) dX7_isFirstSeen_11 rfl rfl ?_
  refine e_get (pc := 12) fl_X7_24 dX7_isFirstSeen_12 (by repeat (first | assumption | exact hset_eq _ _ _ | rw [hset_ne _ _ (by omega)])) (by rfl) ?_
  refine e_iload_n (pc := 15) dX7_isFirstSeen_15 rfl rfl ?_
  refine e_zaldN (pc := 16) _ dX7_isFirstSeen_16 (by repeat (first | assumption | exact hset_eq _ _ _ | rw [hset_ne _ _ (by omega)])) (by rfl) (by omega) (by first | decide | omega) ?_
  rw [e1]
  cases hs : s x with
  | true =>
    refine e_if_eq (pc := 17) (tgt := 22) dX7_isFirstSeen_17 (by decide) (fun q => absurd q (by decide)) (fun _ => ?_)
    refine n_iconst (pc := 20) 0 dX7_isFirstSeen_20 (by decide) ?_
    refine n_zret (pc := 21) dX7_isFirstSeen_21 rfl rfl ⟨Or.inr ⟨by simp, rfl⟩, hT, ⟨g, hg, fun t ht => ?_⟩, Er.rf _ _ h⟩
    dsimp only
    by_cases e : t = x
    · subst e; rw [if_pos rfl, ← hs]; exact e1
    · rw [if_neg e]; exact hg2 t ht
  | false =>
    refine e_if_eq (pc := 17) (tgt := 22) dX7_isFirstSeen_17 (by decide) (fun _ => ?_) (fun q => absurd rfl q)
    refine e_aload_n (pc := 22) dX7_isFirstSeen_22 rfl rfl ?_
    refine e_get (pc := 23) fl_X7_24 dX7_isFirstSeen_23 (by repeat (first | assumption | exact hset_eq _ _ _ | rw [hset_ne _ _ (by omega)])) (by rfl) ?_
    refine e_iload_n (pc := 26) dX7_isFirstSeen_26 rfl rfl ?_
    refine n_iconst (pc := 27) 1 dX7_isFirstSeen_27 (by decide) ?_
    refine e_zastN (pc := 28) _ dX7_isFirstSeen_28 (by repeat (first | assumption | exact hset_eq _ _ _ | rw [hset_ne _ _ (by omega)])) (by rfl) (by omega) (by first | decide | omega) ?_
    refine n_iconst (pc := 29) 1 dX7_isFirstSeen_29 (by decide) ?_
    refine n_zret (pc := 30) dX7_isFirstSeen_30 rfl rfl ⟨Or.inl ⟨rfl, rfl⟩, hT.seen, ⟨_, hset_eq _ _ _, fun t ht => ?_⟩, (Er.rf _ _ h).set (by omega)⟩
    dsimp only
    by_cases e : t = x
    · subst e; rw [if_pos rfl, pk_us]; rfl
    · rw [if_neg e, pk_un e]; exact hg2 t ht
theorem SAt.es {h h2 : AH} {E o : Nat} {s : Nat → Bool} (q : SAt h E s) (e : Es o h h2) (d : o + 3 ≤ E ∨ E + 89 ≤ o) : SAt h2 E s := by
  obtain ⟨g, a, b⟩ := q
  exact ⟨g, by rw [e _ (by omega)]; exact a, b⟩
theorem cn_put {P : Nat → Bool} {a N : Nat} (ha : a < N) (hp : P a = false) : cn N (fun t => if t = a then true else P t) = cn N P + 1 := by
  rw [cn_remove (a := a) ha (if_pos rfl)]
  congr 1
  refine cn_congr (fun x _ => ?_)
  by_cases e : x = a
  · subst e; simp [hp]
  · simp [e]
noncomputable def sqs (W : Wd) (x : Nat) : Nat → Bool := fun v => bl (∃ a, a < x ∧ mul W a a = v)
theorem l_squares {sz : Nat} {hh : AH} (hk : Wok W) (d : o + 3 ≤ E ∨ E + 89 ≤ o) :
    ∀ (n x : Nat), n = W.1 ^ W.2.1 - x → x ≤ W.1 ^ W.2.1 → ∀ h1, TSh h1 E → SAt h1 E (sqs W x) → WAt h1 o W f → Fr E o hh h1 → VI MX7_squares sz (fun z h' => z = nI (cn (W.1 ^ W.2.1) (sqs W (W.1 ^ W.2.1))) ∧ TSh h' E ∧ WAt h' o W f ∧ Fr E o hh h') h1 8 [some (.ref (E + 83)), some (.ref o), some (.int (nI (cn (W.1 ^ W.2.1) (sqs W x)))), some (.int (nI x))] [] := by
  obtain ⟨b1, b2, b3, b4, b5⟩ := hk.b
  intro n
  induction n with
  | zero =>
    intro x e1 e2 h1 hT hS hW he
    have e' : x = W.1 ^ W.2.1 := by omega
    subst e'
    obtain ⟨w0, -, -⟩ := id hW
    refine e_iload_n (pc := 8) dX7_squares_8 rfl rfl ?_
    refine e_aload_n (pc := 9) dX7_squares_9 rfl rfl ?_
    refine n_VP (pc := 10) (c_X9_order hW) bX9_order q_i_X9_order q_s_X9_order q_m_X7_52 dX7_squares_10 rfl rfl (by repeat (first | assumption | exact hset_eq _ _ _ | rw [hset_ne _ _ (by omega)])) rfl rfl (by exact Nat.le_of_ble_eq_true rfl) ⟨by decide, by decide⟩ ⟨rfl, rfl, Nat.zero_le _, Nat.zero_le _⟩ ?_
    refine n_icmp_ge (pc := 13) (tgt := 38) dX7_squares_13 (by decide) (by omega) (by omega) (fun hb_ => ?_) (fun c => absurd c (by omega))
    refine e_iload_n (pc := 38) dX7_squares_38 rfl rfl ?_
    exact n_iret (pc := 39) dX7_squares_39 rfl ⟨rfl, hT, hW, he⟩
  | succ n ih =>
    intro x e1 e2 h1 hT hS hW he
    obtain ⟨w0, -, -⟩ := id hW
    have m1 := mul_lt hk x x
    have hstep : ∀ t, (if t = mul W x x then true else sqs W x t) = sqs W (x + 1) t := fun t => by
      unfold sqs
      by_cases e : t = mul W x x
      · rw [if_pos e, bl_t ⟨x, by omega, e.symm⟩]
      · rw [if_neg e]
        refine bl_congr ⟨fun ⟨a, a1, a2⟩ => ⟨a, by omega, a2⟩, fun ⟨a, a1, a2⟩ => ?_⟩
        by_cases c : a = x
        · subst c; exact absurd a2.symm e
        · exact ⟨a, by omega, a2⟩
    have hfun : (fun t => if t = mul W x x then true else sqs W x t) = sqs W (x + 1) := funext hstep
    refine e_iload_n (pc := 8) dX7_squares_8 rfl rfl ?_
    refine e_aload_n (pc := 9) dX7_squares_9 rfl rfl ?_
    refine n_VP (pc := 10) (c_X9_order hW) bX9_order q_i_X9_order q_s_X9_order q_m_X7_52 dX7_squares_10 rfl rfl (by repeat (first | assumption | exact hset_eq _ _ _ | rw [hset_ne _ _ (by omega)])) rfl rfl (by exact Nat.le_of_ble_eq_true rfl) ⟨by decide, by decide⟩ ⟨rfl, rfl, Nat.zero_le _, Nat.zero_le _⟩ ?_
    refine n_icmp_ge (pc := 13) (tgt := 38) dX7_squares_13 (by decide) (by omega) (by omega) (fun c => absurd c (by omega)) (fun hb_ => ?_)
    refine e_aload_n (pc := 16) dX7_squares_16 rfl rfl ?_
    refine e_aload_n (pc := 17) dX7_squares_17 rfl rfl ?_
    refine e_iload_n (pc := 18) dX7_squares_18 rfl rfl ?_
    refine e_iload_n (pc := 19) dX7_squares_19 rfl rfl ?_
    refine n_V (pc := 20) (c_X9_times2 hW hk (show x < 3125 by omega) (show x < 3125 by omega)) bX9_times q_i_X9_times q_s_X9_times q_m_X7_62 dX7_squares_20 rfl rfl (by repeat (first | assumption | exact hset_eq _ _ _ | rw [hset_ne _ _ (by omega)])) rfl rfl (by exact Nat.le_of_ble_eq_true rfl) ⟨by decide, by decide⟩ ⟨rfl, rfl, Nat.zero_le _, Nat.zero_le _⟩ (fun x h2 hp => ?_)
    obtain ⟨rfl, p1, p2⟩ := hp
    have hT2 := hT.es p2 d
    obtain ⟨-, t0, -⟩ := id hT2
    refine n_V (pc := 23) (c_X7_isFirstSeen hT2 (hS.es p2 d) (show mul W x x < 243 by omega)) bX7_isFirstSeen q_i_X7_isFirstSeen q_s_X7_isFirstSeen q_m_X7_149 dX7_squares_23 rfl rfl (by assumption) rfl rfl (by exact Nat.le_of_ble_eq_true rfl) ⟨by decide, by decide⟩ ⟨rfl, rfl, Nat.zero_le _, Nat.zero_le _⟩ (fun z h3 hp => ?_)
    obtain ⟨p3, p4, p5, p6⟩ := hp
    rw [hfun] at p5
    have hW3 := p1.er p6 (by omega)
    have he3 : Fr E o hh h3 := he.tr (p2.fr.tr (p6.fr (by omega) (by omega)))
    rcases p3 with ⟨hs, rfl⟩ | ⟨hs, rfl⟩
    · refine e_if_eq (pc := 26) (tgt := 32) dX7_squares_26 (by decide) (fun q => absurd q (by decide)) (fun _ => ?_)
      refine n_inc (pc := 29) dX7_squares_29 rfl (by decide) ?_
      refine n_inc (pc := 32) dX7_squares_32 rfl (by decide) ?_
      refine e_goto (pc := 35) (tgt := 8) dX7_squares_35 (by decide) ?_
      have q := ih (x + 1) (by omega) (by omega) h3 p4 p5 hW3 he3
      rw [← hfun, cn_put m1 hs] at q
      exact q
    · refine e_if_eq (pc := 26) (tgt := 32) dX7_squares_26 (by decide) (fun _ => ?_) (fun q => absurd rfl q)
      refine n_inc (pc := 32) dX7_squares_32 rfl (by decide) ?_
      refine e_goto (pc := 35) (tgt := 8) dX7_squares_35 (by decide) ?_
      have q := ih (x + 1) (by omega) (by omega) h3 p4 p5 hW3 he3
      have e : sqs W (x + 1) = sqs W x := by
        rw [← hfun]
        funext t
        by_cases c : t = mul W x x
        · subst c
          rw [if_pos rfl]
          cases hv : sqs W x (mul W x x) with
          | true => rfl
          | false => exact absurd hv hs
        · rw [if_neg c]
      rw [e] at q
      exact q
theorem c_X7_squares (hT : TSh h E) (hW : WAt h o W f) (hk : Wok W) (d : o + 3 ≤ E ∨ E + 89 ≤ o) : CI yX7_squares MX7_squares [.ref (E + 83), .ref o] h (fun z h' => z = nI (cn (W.1 ^ W.2.1) (sqs W (W.1 ^ W.2.1))) ∧ TSh h' E ∧ WAt h' o W f ∧ Fr E o h h') := by
  obtain ⟨-, t0, -⟩ := id hT
  refine CI.ofV (by decide) rfl rfl (by simp [Value.category]) (by exact Nat.le_of_ble_eq_true rfl) (fun sz => ?_)
  refine e_aload_n (pc := 0) dX7_squares_0 rfl rfl ?_
  refine n_Vv (pc := 1) (c_X7_forgetSeen hT) bX7_forgetSeen q_i_X7_forgetSeen q_s_X7_forgetSeen q_m_X7_146 dX7_squares_1 rfl rfl (by repeat (first | assumption | exact hset_eq _ _ _ | rw [hset_ne _ _ (by omega)])) rfl rfl (by exact Nat.le_of_ble_eq_true rfl) ⟨by decide, by decide⟩ ⟨rfl, rfl, Nat.zero_le _, Nat.zero_le _⟩ (fun h2 hp => ?_)
  obtain ⟨p1, p2, p3⟩ := hp
  refine n_iconst (pc := 4) 0 dX7_squares_4 (by decide) ?_
  refine e_istore_n (pc := 5) dX7_squares_5 rfl (by decide) ?_
  refine n_iconst (pc := 6) 0 dX7_squares_6 (by decide) ?_
  refine e_istore_n (pc := 7) dX7_squares_7 rfl (by decide) ?_
  have e0 : sqs W 0 = fun _ => false := by
    funext t
    exact bl_f (fun ⟨a, ha, _⟩ => absurd ha (Nat.not_lt_zero a))
  have q := l_squares (sz := sz) (hh := h) (f := f) hk d (W.1 ^ W.2.1) 0 rfl (Nat.zero_le _) h2 p1 (by rw [e0]; exact p2) (hW.er p3 (by omega)) (p3.fr (by omega) (by omega))
  rw [e0, cn_none (fun _ _ => rfl)] at q
  exact q
def pw (W : Wd) (x : Nat) : Nat → Nat
  | 0 => x
  | n + 1 => mul W (pw W x n) x
/-- how many unlike powers till one comes again -/
def Pws (W : Wd) (x m : Nat) : Prop := (∀ i j, i < m → j < m → pw W x i = pw W x j → i = j) ∧ ∃ i, i < m ∧ pw W x m = pw W x i
theorem pw_lt {W : Wd} (hk : Wok W) {x : Nat} (hx : x < W.1 ^ W.2.1) : ∀ n, pw W x n < W.1 ^ W.2.1
  | 0 => hx
  | n + 1 => mul_lt hk _ _
noncomputable def pws (W : Wd) (x m : Nat) : Nat → Bool := fun v => bl (∃ i, i < m ∧ pw W x i = v)
end SV
