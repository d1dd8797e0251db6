theorem l_X8_power {Pr : Int32 → AH → Prop} {sz : Nat} {h : AH} {p i : Nat} (hi : i ≤ 5) (hp : p ≤ 5) (hq : Pr (nI (p ^ i)) h) : ∀ (n k : Nat), n = i - k → k ≤ i → VI MX8_power sz Pr h 4 [some (.int (nI p)), some (.int (nI i)), some (.int (nI (p ^ k))), some (.int (nI k))] [] := by
  intro n
  induction n with
  | zero =>
    intro k hn hk
    have e : k = i := by omega
    subst e
    refine e_iload_n (pc := 4) dX8_power_4 rfl rfl ?_
    refine e_iload_n (pc := 5) dX8_power_5 rfl rfl ?_
    refine n_icmp_ge (pc := 6) (tgt := 24) dX8_power_6 (by decide) (by omega) (by omega) (fun c => ?_) (fun c => absurd c (by omega))
    refine e_iload_n (pc := 24) dX8_power_24 rfl rfl ?_
    exact n_iret (pc := 25) dX8_power_25 rfl hq
  | succ n ih =>
    intro k hn hk
    refine e_iload_n (pc := 4) dX8_power_4 rfl rfl ?_
    refine e_iload_n (pc := 5) dX8_power_5 rfl rfl ?_
    refine n_icmp_ge (pc := 6) (tgt := 24) dX8_power_6 (by decide) (by omega) (by omega) (fun c => absurd c (by omega)) (fun c => ?_)
    refine e_iload_n (pc := 9) dX8_power_9 rfl rfl ?_
    refine n_iconst (pc := 10) 5 dX8_power_10 (by decide) ?_
    refine n_icmp_ge (pc := 11) (tgt := 24) dX8_power_11 (by decide) (by omega) (by omega) (fun c => absurd c (by omega)) (fun c => ?_)
    refine e_iload_n (pc := 14) dX8_power_14 rfl rfl ?_
    refine e_iload_n (pc := 15) dX8_power_15 rfl rfl ?_
    refine n_imul (pc := 16) dX8_power_16 ?_
    refine e_istore_n (pc := 17) dX8_power_17 rfl (by decide) ?_
    refine n_inc (pc := 18) dX8_power_18 rfl (by decide) ?_
    refine e_goto (pc := 21) (tgt := 4) dX8_power_21 (by decide) ?_
    exact ih (k + 1) (by omega) (by omega)
theorem c_X8_power {h : AH} {p i : Nat} (hi : i ≤ 5) (hp : p ≤ 5) : CP yX8_power MX8_power [.int (nI p), .int (nI i)] h (nI (p ^ i)) := by
  refine CI.ofV (by decide) rfl rfl (by simp [Value.category]) (Nat.le_of_ble_eq_true rfl) (fun sz => ?_)
  refine n_iconst (pc := 0) 1 dX8_power_0 (by decide) ?_
  refine e_istore_n (pc := 1) dX8_power_1 rfl (by decide) ?_
  refine n_iconst (pc := 2) 0 dX8_power_2 (by decide) ?_
  refine e_istore_n (pc := 3) dX8_power_3 rfl (by decide) ?_
  exact l_X8_power hi hp ⟨rfl, rfl⟩ i 0 (by omega) (by omega)
theorem c_X8_isPrime {h : AH} {p : Nat} (hp : p < 2 ^ 31) : CP yX8_isPrime MX8_isPrime [.int (nI p)] h (nI (if p = 2 ∨ p = 3 ∨ p = 5 then 1 else 0)) := by
  refine CI.ofV (by decide) rfl rfl (by simp [Value.category]) (Nat.le_of_ble_eq_true rfl) (fun sz => ?_)
  refine e_iload_n (pc := 0) dX8_isPrime_0 rfl rfl ?_
  refine n_iconst (pc := 1) 2 dX8_isPrime_1 (by decide) ?_
  refine n_icmp_eq (pc := 2) (tgt := 15) dX8_isPrime_2 (by decide) (by omega) (by omega) (fun c => ?_) (fun c => ?_)
  · refine n_iconst (pc := 15) 1 dX8_isPrime_15 (by decide) ?_
    refine e_goto (pc := 16) (tgt := 20) dX8_isPrime_16 (by decide) ?_
    exact n_zret (pc := 20) dX8_isPrime_20 rfl rfl ⟨by simp [c], rfl⟩
  refine e_iload_n (pc := 5) dX8_isPrime_5 rfl rfl ?_
  refine n_iconst (pc := 6) 3 dX8_isPrime_6 (by decide) ?_
  refine n_icmp_eq (pc := 7) (tgt := 15) dX8_isPrime_7 (by decide) (by omega) (by omega) (fun c2 => ?_) (fun c2 => ?_)
  · refine n_iconst (pc := 15) 1 dX8_isPrime_15 (by decide) ?_
    refine e_goto (pc := 16) (tgt := 20) dX8_isPrime_16 (by decide) ?_
    exact n_zret (pc := 20) dX8_isPrime_20 rfl rfl ⟨by simp [c2], rfl⟩
  refine e_iload_n (pc := 10) dX8_isPrime_10 rfl rfl ?_
  refine n_iconst (pc := 11) 5 dX8_isPrime_11 (by decide) ?_
  refine n_icmp_ne (pc := 12) (tgt := 19) dX8_isPrime_12 (by decide) (by omega) (by omega) (fun c3 => ?_) (fun c3 => ?_)
  · refine n_iconst (pc := 19) 0 dX8_isPrime_19 (by decide) ?_
    exact n_zret (pc := 20) dX8_isPrime_20 rfl rfl ⟨by simp [c, c2, c3], rfl⟩
  refine n_iconst (pc := 15) 1 dX8_isPrime_15 (by decide) ?_
  refine e_goto (pc := 16) (tgt := 20) dX8_isPrime_16 (by decide) ?_
  exact n_zret (pc := 20) dX8_isPrime_20 rfl rfl ⟨by simp [c3], rfl⟩
theorem l_X8_plus {Pr : Int32 → AH → Prop} {sz : Nat} {h : AH} {p x y : Nat} (hp : 2 ≤ p) (h5 : p ≤ 5) (hx : x ≤ 3125) (hy : y ≤ 3125) (hq : Pr (nI (ad p x y)) h) : ∀ (n k : Nat), n = 5 - k → k ≤ 5 →
    VI MX8_plus sz Pr h 30 [some (.int (nI p)), some (.int (nI x)), some (.int (nI y)), some (.int (nI (num p k (fun i => (dg p x i + dg p y i) % p)))), some (.int (nI (p ^ k))), some (.int (nI (x / p ^ k))), some (.int (nI (y / p ^ k))), some (.int (nI k))] [] := by
  intro n
  induction n with
  | zero =>
    intro k hn hk
    have e : k = 5 := by omega
    subst e
    refine e_iload (pc := 30) dX8_plus_30 rfl ?_
    refine n_iconst (pc := 32) 5 dX8_plus_32 (by decide) ?_
    refine n_icmp_ge (pc := 33) (tgt := 77) dX8_plus_33 (by decide) (by omega) (by omega) (fun c => ?_) (fun c => absurd c (by omega))
    refine e_iload_n (pc := 77) dX8_plus_77 rfl rfl ?_
    exact n_iret (pc := 78) dX8_plus_78 rfl hq
  | succ n ih =>
    intro k hn hk
    have q1 := Nat.div_le_self x (p ^ k)
    have q2 := Nat.div_le_self y (p ^ k)
    have q3 : x / p ^ k % p < p := Nat.mod_lt _ (by omega)
    have q4 : y / p ^ k % p < p := Nat.mod_lt _ (by omega)
    have q5 := (pp hp h5 k hk).2
    refine e_iload (pc := 30) dX8_plus_30 rfl ?_
    refine n_iconst (pc := 32) 5 dX8_plus_32 (by decide) ?_
    refine n_icmp_ge (pc := 33) (tgt := 77) dX8_plus_33 (by decide) (by omega) (by omega) (fun c => absurd c (by omega)) (fun c => ?_)
    refine e_iload_n (pc := 36) dX8_plus_36 rfl rfl ?_
    refine e_iload (pc := 37) dX8_plus_37 rfl ?_
    refine e_iload_n (pc := 39) dX8_plus_39 rfl rfl ?_
    refine n_irem (pc := 40) dX8_plus_40 (by omega) (by omega) (by omega) ?_
    refine e_iload (pc := 41) dX8_plus_41 rfl ?_
    refine e_iload_n (pc := 43) dX8_plus_43 rfl rfl ?_
    refine n_irem (pc := 44) dX8_plus_44 (by omega) (by omega) (by omega) ?_
    refine n_iadd (pc := 45) dX8_plus_45 ?_
    refine e_iload_n (pc := 46) dX8_plus_46 rfl rfl ?_
    refine n_irem (pc := 47) dX8_plus_47 (by omega) (by omega) (by omega) ?_
    refine e_iload (pc := 48) dX8_plus_48 rfl ?_
    refine n_imul (pc := 50) dX8_plus_50 ?_
    refine n_iadd (pc := 51) dX8_plus_51 ?_
    refine e_istore_n (pc := 52) dX8_plus_52 rfl (by decide) ?_
    refine e_iload (pc := 53) dX8_plus_53 rfl ?_
    refine e_iload_n (pc := 55) dX8_plus_55 rfl rfl ?_
    refine n_idiv (pc := 56) dX8_plus_56 (by omega) (by omega) (by omega) ?_
    refine e_istore (pc := 57) dX8_plus_57 (by decide) ?_
    refine e_iload (pc := 59) dX8_plus_59 rfl ?_
    refine e_iload_n (pc := 61) dX8_plus_61 rfl rfl ?_
    refine n_idiv (pc := 62) dX8_plus_62 (by omega) (by omega) (by omega) ?_
    refine e_istore (pc := 63) dX8_plus_63 (by decide) ?_
    refine e_iload (pc := 65) dX8_plus_65 rfl ?_
    refine e_iload_n (pc := 67) dX8_plus_67 rfl rfl ?_
    refine n_imul (pc := 68) dX8_plus_68 ?_
    refine e_istore (pc := 69) dX8_plus_69 (by decide) ?_
    refine n_inc (pc := 71) dX8_plus_71 rfl (by decide) ?_
    refine e_goto (pc := 74) (tgt := 30) dX8_plus_74 (by decide) ?_
    have q := ih (k + 1) (by omega) (by omega)
    rw [← dg_div, ← dg_div] at q
    exact q
theorem c_X8_plus {h : AH} {p x y : Nat} (hp : 2 ≤ p) (h5 : p ≤ 5) (hx : x < p ^ 5) (hy : y < p ^ 5) : CP yX8_plus MX8_plus [.int (nI p), .int (nI x), .int (nI y)] h (nI (ad p x y)) := by
  have q5 := (pp hp h5 5 (by omega)).2
  refine CI.ofV (by decide) rfl rfl (by simp [Value.category]) (Nat.le_of_ble_eq_true rfl) (fun sz => ?_)
  refine e_iload_n (pc := 0) dX8_plus_0 rfl rfl ?_
  refine n_iconst (pc := 1) 2 dX8_plus_1 (by decide) ?_
  refine n_icmp_ne (pc := 2) (tgt := 9) dX8_plus_2 (by decide) (by omega) (by omega) (fun c => ?_) (fun c => ?_)
  · refine e_iload_n (pc := 9) dX8_plus_9 rfl rfl ?_
    refine n_iconst (pc := 10) 2 dX8_plus_10 (by decide) ?_
    refine n_icmp_ge (pc := 11) (tgt := 16) dX8_plus_11 (by decide) (by omega) (by omega) (fun c => ?_) (fun c => absurd c (by omega))
    · refine n_iconst (pc := 16) 0 dX8_plus_16 (by decide) ?_
      refine e_istore_n (pc := 17) dX8_plus_17 rfl (by decide) ?_
      refine n_iconst (pc := 18) 1 dX8_plus_18 (by decide) ?_
      refine e_istore (pc := 19) dX8_plus_19 (by decide) ?_
      refine e_iload_n (pc := 21) dX8_plus_21 rfl rfl ?_
      refine e_istore (pc := 22) dX8_plus_22 (by decide) ?_
      refine e_iload_n (pc := 24) dX8_plus_24 rfl rfl ?_
      refine e_istore (pc := 25) dX8_plus_25 (by decide) ?_
      refine n_iconst (pc := 27) 0 dX8_plus_27 (by decide) ?_
      refine e_istore (pc := 28) dX8_plus_28 (by decide) ?_
      have q := l_X8_plus (h := h) (sz := sz) (Pr := fun z h' => z = nI (ad p x y) ∧ h' = h) hp h5 (by omega) (by omega) ⟨rfl, rfl⟩ 5 0 (by omega) (by omega)
      rw [Nat.pow_zero, Nat.div_one, Nat.div_one] at q
      exact q
  subst c
  refine e_iload_n (pc := 5) dX8_plus_5 rfl rfl ?_
  refine e_iload_n (pc := 6) dX8_plus_6 rfl rfl ?_
  refine e_ixor (pc := 7) dX8_plus_7 ?_
  rw [nI_xor, ad_xor x hx y hy]
  exact n_iret (pc := 8) dX8_plus_8 rfl ⟨rfl, rfl⟩
theorem l_X8_manifold {Pr : Int32 → AH → Prop} {sz : Nat} {h : AH} {p a x : Nat} (hp : 2 ≤ p) (h5 : p ≤ 5) (ha : a ≤ 3125) (hx : x ≤ 3125) (hq : Pr (nI (mf p a x)) h) : ∀ (n k : Nat), n = 5 - k → k ≤ 5 →
    VI MX8_manifold sz Pr h 18 [some (.int (nI p)), some (.int (nI a)), some (.int (nI x)), some (.int (nI (num p k (fun i => a * dg p x i % p)))), some (.int (nI (p ^ k))), some (.int (nI (x / p ^ k))), some (.int (nI k))] [] := by
  intro n
  induction n with
  | zero =>
    intro k hn hk
    have e : k = 5 := by omega
    subst e
    refine e_iload (pc := 18) dX8_manifold_18 rfl ?_
    refine n_iconst (pc := 20) 5 dX8_manifold_20 (by decide) ?_
    refine n_icmp_ge (pc := 21) (tgt := 56) dX8_manifold_21 (by decide) (by omega) (by omega) (fun c => ?_) (fun c => absurd c (by omega))
    refine e_iload_n (pc := 56) dX8_manifold_56 rfl rfl ?_
    exact n_iret (pc := 57) dX8_manifold_57 rfl hq
  | succ n ih =>
    intro k hn hk
    have q1 := Nat.div_le_self x (p ^ k)
    have q3 : x / p ^ k % p < p := Nat.mod_lt _ (by omega)
    have q4 : a * (x / p ^ k % p) ≤ 3125 * 5 := Nat.mul_le_mul ha (by omega)
    have q5 := (pp hp h5 k hk).2
    refine e_iload (pc := 18) dX8_manifold_18 rfl ?_
    refine n_iconst (pc := 20) 5 dX8_manifold_20 (by decide) ?_
    refine n_icmp_ge (pc := 21) (tgt := 56) dX8_manifold_21 (by decide) (by omega) (by omega) (fun c => absurd c (by omega)) (fun c => ?_)
    refine e_iload_n (pc := 24) dX8_manifold_24 rfl rfl ?_
    refine e_iload_n (pc := 25) dX8_manifold_25 rfl rfl ?_
    refine e_iload (pc := 26) dX8_manifold_26 rfl ?_
    refine e_iload_n (pc := 28) dX8_manifold_28 rfl rfl ?_
    refine n_irem (pc := 29) dX8_manifold_29 (by omega) (by omega) (by omega) ?_
    refine n_imul (pc := 30) dX8_manifold_30 ?_
    refine e_iload_n (pc := 31) dX8_manifold_31 rfl rfl ?_
    refine n_irem (pc := 32) dX8_manifold_32 (by omega) (by omega) (by omega) ?_
    refine e_iload (pc := 33) dX8_manifold_33 rfl ?_
    refine n_imul (pc := 35) dX8_manifold_35 ?_
    refine n_iadd (pc := 36) dX8_manifold_36 ?_
    refine e_istore_n (pc := 37) dX8_manifold_37 rfl (by decide) ?_
    refine e_iload (pc := 38) dX8_manifold_38 rfl ?_
    refine e_iload_n (pc := 40) dX8_manifold_40 rfl rfl ?_
    refine n_idiv (pc := 41) dX8_manifold_41 (by omega) (by omega) (by omega) ?_
    refine e_istore (pc := 42) dX8_manifold_42 (by decide) ?_
    refine e_iload (pc := 44) dX8_manifold_44 rfl ?_
    refine e_iload_n (pc := 46) dX8_manifold_46 rfl rfl ?_
    refine n_imul (pc := 47) dX8_manifold_47 ?_
    refine e_istore (pc := 48) dX8_manifold_48 (by decide) ?_
    refine n_inc (pc := 50) dX8_manifold_50 rfl (by decide) ?_
    refine e_goto (pc := 53) (tgt := 18) dX8_manifold_53 (by decide) ?_
    have q := ih (k + 1) (by omega) (by omega)
    rw [← dg_div] at q
    exact q
theorem c_X8_manifold {h : AH} {p a x : Nat} (hp : 2 ≤ p) (h5 : p ≤ 5) (ha : a ≤ 3125) (hx : x < p ^ 5) : CP yX8_manifold MX8_manifold [.int (nI p), .int (nI a), .int (nI x)] h (nI (mf p a x)) := by
  have q5 := (pp hp h5 5 (by omega)).2
  refine CI.ofV (by decide) rfl rfl (by simp [Value.category]) (Nat.le_of_ble_eq_true rfl) (fun sz => ?_)
  refine e_iload_n (pc := 0) dX8_manifold_0 rfl rfl ?_
  refine n_iconst (pc := 1) 2 dX8_manifold_1 (by decide) ?_
  refine n_icmp_ge (pc := 2) (tgt := 7) dX8_manifold_2 (by decide) (by omega) (by omega) (fun c => ?_) (fun c => absurd c (by omega))
  refine n_iconst (pc := 7) 0 dX8_manifold_7 (by decide) ?_
  refine e_istore_n (pc := 8) dX8_manifold_8 rfl (by decide) ?_
  refine n_iconst (pc := 9) 1 dX8_manifold_9 (by decide) ?_
  refine e_istore (pc := 10) dX8_manifold_10 (by decide) ?_
  refine e_iload_n (pc := 12) dX8_manifold_12 rfl rfl ?_
  refine e_istore (pc := 13) dX8_manifold_13 (by decide) ?_
  refine n_iconst (pc := 15) 0 dX8_manifold_15 (by decide) ?_
  refine e_istore (pc := 16) dX8_manifold_16 (by decide) ?_
  have q := l_X8_manifold (h := h) (sz := sz) (Pr := fun z h' => z = nI (mf p a x) ∧ h' = h) hp h5 ha (by omega) ⟨rfl, rfl⟩ 5 0 (by omega) (by omega)
  rw [Nat.pow_zero, Nat.div_one] at q
  exact q
theorem c_X8_less {h : AH} {p x y : Nat} (hp : 2 ≤ p) (h5 : p ≤ 5) (hx : x < p ^ 5) (hy : y < p ^ 5) : CP yX8_less MX8_less [.int (nI p), .int (nI x), .int (nI y)] h (nI (sb p x y)) := by
  refine CI.ofV (by decide) rfl rfl (by simp [Value.category]) (Nat.le_of_ble_eq_true rfl) (fun sz => ?_)
  refine e_iload_n (pc := 0) dX8_less_0 rfl rfl ?_
  refine e_iload_n (pc := 1) dX8_less_1 rfl rfl ?_
  refine e_iload_n (pc := 2) dX8_less_2 rfl rfl ?_
  refine e_iload_n (pc := 3) dX8_less_3 rfl rfl ?_
  refine n_iconst (pc := 4) 1 dX8_less_4 (by decide) ?_
  refine n_isub (pc := 5) dX8_less_5 (by omega) ?_
  refine e_iload_n (pc := 6) dX8_less_6 rfl rfl ?_
  refine n_SP (pc := 7) (c_X8_manifold hp h5 (by omega) hy) bX8_manifold q_st_X8_manifold q_m_X8_9 dX8_less_7 rfl rfl (by exact Nat.le_of_ble_eq_true rfl) ⟨by decide, by decide⟩ ⟨rfl, rfl, Nat.zero_le _, Nat.zero_le _⟩ ?_
  refine n_SP (pc := 10) (c_X8_plus hp h5 hx (mf_lt (by omega) (Nat.le_refl _) hy)) bX8_plus q_st_X8_plus q_m_X8_15 dX8_less_10 rfl rfl (by exact Nat.le_of_ble_eq_true rfl) ⟨by decide, by decide⟩ ⟨rfl, rfl, Nat.zero_le _, Nat.zero_le _⟩ ?_
  exact n_iret (pc := 13) dX8_less_13 rfl ⟨rfl, rfl⟩
