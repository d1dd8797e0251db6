/-! ===== Reader: tokens ===== -/
abbrev RdH (h : AH) (R : Nat) (len pl kd st vl ft fp sm hf : Int32) : Prop := h R = some (ob 4 [.ref (R + 1), .int len, .int pl, .int kd, .int st, .int vl, .int ft, .int fp, .int sm, .int hf, .ref (R + 2), .ref (R + 5), .ref (R + 8), .ref (R + 11), .ref (R + 12), .ref (R + 13)])
/-- the tape: its first len bytes -/
def Tap (h : AH) (R : Nat) (f : Nat → Nat) (len : Nat) : Prop := len ≤ 600 ∧ ∃ g, h (R + 1) = some (aI 600 g) ∧ ∀ t, t < len → g t = nI (f t) ∧ f t < 256
section RD
variable {h : AH} {R len : Nat} {f : Nat → Nat} {lenI pl kd st vl0 ft fp sm hf : Int32}
theorem Tap.keep {h2 : AH} (q : Tap h R f len) (e : h2 (R + 1) = h (R + 1)) : Tap h2 R f len := by
  obtain ⟨a, g, b, c⟩ := q
  exact ⟨a, g, e.trans b, c⟩
theorem c_X4_isLetter {b : Nat} (hb : b < 256) : CP yX4_isLetter MX4_isLetter [.int (nI b)] h (nI (if letB b = true then 1 else 0)) := by
  have r1 : letB b = true → VI MX4_isLetter 0 (fun x h' => x = nI 1 ∧ h' = h) h 24 [some (.int (nI b))] [] → True := fun _ _ => trivial
  have fin1 : ∀ sz, letB b = true → VI MX4_isLetter sz (fun x h' => x = nI (if letB b = true then 1 else 0) ∧ h' = h) h 24 [some (.int (nI b))] [] := fun sz c => by
    refine n_iconst (pc := 24) 1 dX4_isLetter_24 (by decide) ?_
    refine e_goto (pc := 25) (tgt := 29) dX4_isLetter_25 (by decide) ?_
    refine n_zret (pc := 29) dX4_isLetter_29 rfl rfl ⟨?_, rfl⟩
    rw [if_pos c]
  have fin0 : ∀ sz, ¬ letB b = true → VI MX4_isLetter sz (fun x h' => x = nI (if letB b = true then 1 else 0) ∧ h' = h) h 28 [some (.int (nI b))] [] := fun sz c => by
    refine n_iconst (pc := 28) 0 dX4_isLetter_28 (by decide) ?_
    refine n_zret (pc := 29) dX4_isLetter_29 rfl rfl ⟨?_, rfl⟩
    rw [if_neg c]
  have second : ∀ sz, ¬ (97 ≤ b ∧ b ≤ 122) → VI MX4_isLetter sz (fun x h' => x = nI (if letB b = true then 1 else 0) ∧ h' = h) h 12 [some (.int (nI b))] [] := fun sz c => by
    refine e_iload_n (pc := 12) dX4_isLetter_12 rfl rfl ?_
    refine n_bipush (pc := 13) 65 dX4_isLetter_13 (by decide) ?_
    refine n_icmp_lt (pc := 15) (tgt := 28) dX4_isLetter_15 (by decide) (by omega) (by omega) (fun c1 => ?_) (fun c1 => ?_)
    · exact fin0 sz (fun q => by have := of_decide_eq_true q; omega)
    · refine e_iload_n (pc := 18) dX4_isLetter_18 rfl rfl ?_
      refine n_bipush (pc := 19) 90 dX4_isLetter_19 (by decide) ?_
      refine n_icmp_gt (pc := 21) (tgt := 28) dX4_isLetter_21 (by decide) (by omega) (by omega) (fun c2 => ?_) (fun c2 => ?_)
      · exact fin0 sz (fun q => by have := of_decide_eq_true q; omega)
      · exact fin1 sz (decide_eq_true (by omega))
  refine CI.ofV (by decide) rfl rfl (by simp [Value.category]) (by exact Nat.le_of_ble_eq_true rfl) (fun sz => ?_)
  refine e_iload_n (pc := 0) dX4_isLetter_0 rfl rfl ?_
  refine n_bipush (pc := 1) 97 dX4_isLetter_1 (by decide) ?_
  refine n_icmp_lt (pc := 3) (tgt := 12) dX4_isLetter_3 (by decide) (by omega) (by omega) (fun c1 => ?_) (fun c1 => ?_)
  · exact second sz (by omega)
  · refine e_iload_n (pc := 6) dX4_isLetter_6 rfl rfl ?_
    refine n_bipush (pc := 7) 122 dX4_isLetter_7 (by decide) ?_
    refine n_icmp_le (pc := 9) (tgt := 24) dX4_isLetter_9 (by decide) (by omega) (by omega) (fun c2 => ?_) (fun c2 => ?_)
    · exact fin1 sz (decide_eq_true (by omega))
    · exact second sz (by omega)
theorem c_X4_isDigit {b : Nat} (hb : b < 256) : CP yX4_isDigit MX4_isDigit [.int (nI b)] h (nI (if digB b = true then 1 else 0)) := by
  have fin0 : ∀ sz, ¬ digB b = true → VI MX4_isDigit sz (fun x h' => x = nI (if digB b = true then 1 else 0) ∧ h' = h) h 16 [some (.int (nI b))] [] := fun sz c => by
    refine n_iconst (pc := 16) 0 dX4_isDigit_16 (by decide) ?_
    refine n_zret (pc := 17) dX4_isDigit_17 rfl rfl ⟨?_, rfl⟩
    rw [if_neg c]
  refine CI.ofV (by decide) rfl rfl (by simp [Value.category]) (by exact Nat.le_of_ble_eq_true rfl) (fun sz => ?_)
  refine e_iload_n (pc := 0) dX4_isDigit_0 rfl rfl ?_
  refine n_bipush (pc := 1) 48 dX4_isDigit_1 (by decide) ?_
  refine n_icmp_lt (pc := 3) (tgt := 16) dX4_isDigit_3 (by decide) (by omega) (by omega) (fun c1 => ?_) (fun c1 => ?_)
  · exact fin0 sz (fun q => by have := of_decide_eq_true q; omega)
  · refine e_iload_n (pc := 6) dX4_isDigit_6 rfl rfl ?_
    refine n_bipush (pc := 7) 57 dX4_isDigit_7 (by decide) ?_
    refine n_icmp_gt (pc := 9) (tgt := 16) dX4_isDigit_9 (by decide) (by omega) (by omega) (fun c2 => ?_) (fun c2 => ?_)
    · exact fin0 sz (fun q => by have := of_decide_eq_true q; omega)
    · refine n_iconst (pc := 12) 1 dX4_isDigit_12 (by decide) ?_
      refine e_goto (pc := 13) (tgt := 17) dX4_isDigit_13 (by decide) ?_
      refine n_zret (pc := 17) dX4_isDigit_17 rfl rfl ⟨?_, rfl⟩
      rw [if_pos (show digB b = true from decide_eq_true (by omega))]
theorem l_sn {sz s e : Nat} {hh : AH} (hT : Tap hh R f len) (hs : s < len) (he : run f len digB s = e) :
    ∀ (m j : Nat), m = len - j → s ≤ j → j ≤ e → run f len digB j = e → ∀ h1, RdH h1 R (nI len) (nI j) kd (nI s) (nI (dv f s (min 4 (j - s)))) ft fp sm hf → Er R (R + 1) hh h1 →
    VV MX4_stepNumber sz (fun h' => RdH h' R (nI len) (nI e) (nI (if e - s ≤ 4 then 2 else 4)) (nI s) (nI (dv f s (min 4 (e - s)))) ft fp sm hf ∧ Er R (R + 1) hh h') h1 5 [some (.ref R)] [] := by
  obtain ⟨l6, g, g1, g2⟩ := id hT
  have el : e ≤ len := by rw [← he]; exact (run_b (by omega)).2
  have fin : ∀ h1, RdH h1 R (nI len) (nI e) kd (nI s) (nI (dv f s (min 4 (e - s)))) ft fp sm hf → Er R (R + 1) hh h1 → s ≤ e →
      VV MX4_stepNumber sz (fun h' => RdH h' R (nI len) (nI e) (nI (if e - s ≤ 4 then 2 else 4)) (nI s) (nI (dv f s (min 4 (e - s)))) ft fp sm hf ∧ Er R (R + 1) hh h') h1 91 [some (.ref R)] [] := fun h1 hH hE hse => by
    refine e_aload_n (pc := 91) dX4_stepNumber_91 rfl rfl ?_
    refine e_aload_n (pc := 92) dX4_stepNumber_92 rfl rfl ?_
    refine e_get (pc := 93) fl_X4_19 dX4_stepNumber_93 (by repeat (first | assumption | exact hset_eq _ _ _ | (apply WAt.hd; assumption) | rw [hset_ne _ _ (by omega)])) (by rfl) ?_
    refine e_aload_n (pc := 96) dX4_stepNumber_96 rfl rfl ?_
    refine e_get (pc := 97) fl_X4_25 dX4_stepNumber_97 (by repeat (first | assumption | exact hset_eq _ _ _ | (apply WAt.hd; assumption) | rw [hset_ne _ _ (by omega)])) (by rfl) ?_
    refine n_isub (pc := 100) dX4_stepNumber_100 (by omega) ?_
    refine n_iconst (pc := 101) 4 dX4_stepNumber_101 (by decide) ?_
    refine n_icmp_gt (pc := 102) (tgt := 109) dX4_stepNumber_102 (by decide) (by omega) (by omega) (fun c => ?_) (fun c => ?_)
    · refine n_iconst (pc := 109) 4 dX4_stepNumber_109 (by decide) ?_
      refine e_put (pc := 110) pl_X4_22 dX4_stepNumber_110 (by repeat (first | assumption | exact hset_eq _ _ _ | (apply WAt.hd; assumption) | rw [hset_ne _ _ (by omega)])) (by rfl) (by rfl) (by exact Nat.le_of_ble_eq_true rfl) ?_
      refine n_vret (pc := 113) dX4_stepNumber_113 rfl ⟨?_, hE.set (by omega)⟩
      rw [if_neg (by omega)]
      exact hset_eq _ _ _
    · refine n_iconst (pc := 105) 2 dX4_stepNumber_105 (by decide) ?_
      refine e_goto (pc := 106) (tgt := 110) dX4_stepNumber_106 (by decide) ?_
      refine e_put (pc := 110) pl_X4_22 dX4_stepNumber_110 (by repeat (first | assumption | exact hset_eq _ _ _ | (apply WAt.hd; assumption) | rw [hset_ne _ _ (by omega)])) (by rfl) (by rfl) (by exact Nat.le_of_ble_eq_true rfl) ?_
      refine n_vret (pc := 113) dX4_stepNumber_113 rfl ⟨?_, hE.set (by omega)⟩
      rw [if_pos (by omega)]
      exact hset_eq _ _ _
  intro m
  induction m with
  | zero =>
    intro j e1 e2 e3 e4 h1 hH hE
    have e' : j = len := by omega
    have e5 : e = len := by omega
    subst e'
    refine e_aload_n (pc := 5) dX4_stepNumber_5 rfl rfl ?_
    refine e_get (pc := 6) fl_X4_19 dX4_stepNumber_6 (by repeat (first | assumption | exact hset_eq _ _ _ | (apply WAt.hd; assumption) | rw [hset_ne _ _ (by omega)])) (by rfl) ?_
    refine e_aload_n (pc := 9) dX4_stepNumber_9 rfl rfl ?_
    refine e_get (pc := 10) fl_X4_15 dX4_stepNumber_10 (by repeat (first | assumption | exact hset_eq _ _ _ | (apply WAt.hd; assumption) | rw [hset_ne _ _ (by omega)])) (by rfl) ?_
    refine n_icmp_ge (pc := 13) (tgt := 91) dX4_stepNumber_13 (by decide) (by omega) (by omega) (fun hb_ => ?_) (fun c => absurd c (by omega))
    rw [e5] at fin ⊢
    rw [e5] at el
    exact fin h1 hH hE (Nat.le_of_lt hs)
  | succ m ih =>
    intro j e1 e2 e3 e4 h1 hH hE
    have hj : j < len := by omega
    have t1 := (hE (R + 1) (by omega)).trans g1
    obtain ⟨t2, t3⟩ := g2 j hj
    refine e_aload_n (pc := 5) dX4_stepNumber_5 rfl rfl ?_
    refine e_get (pc := 6) fl_X4_19 dX4_stepNumber_6 (by repeat (first | assumption | exact hset_eq _ _ _ | (apply WAt.hd; assumption) | rw [hset_ne _ _ (by omega)])) (by rfl) ?_
    refine e_aload_n (pc := 9) dX4_stepNumber_9 rfl rfl ?_
    refine e_get (pc := 10) fl_X4_15 dX4_stepNumber_10 (by repeat (first | assumption | exact hset_eq _ _ _ | (apply WAt.hd; assumption) | rw [hset_ne _ _ (by omega)])) (by rfl) ?_
    refine n_icmp_ge (pc := 13) (tgt := 91) dX4_stepNumber_13 (by decide) (by omega) (by omega) (fun c => absurd c (by omega)) (fun hb_ => ?_)
    refine e_aload_n (pc := 16) dX4_stepNumber_16 rfl rfl ?_
    refine e_get (pc := 17) fl_X4_19 dX4_stepNumber_17 (by repeat (first | assumption | exact hset_eq _ _ _ | (apply WAt.hd; assumption) | rw [hset_ne _ _ (by omega)])) (by rfl) ?_
    refine n_sipush (pc := 20) 600 dX4_stepNumber_20 (by decide) ?_
    refine n_icmp_ge (pc := 23) (tgt := 91) dX4_stepNumber_23 (by decide) (by omega) (by omega) (fun c => absurd c (by omega)) (fun hb_ => ?_)
    refine e_aload_n (pc := 26) dX4_stepNumber_26 rfl rfl ?_
    refine e_get (pc := 27) fl_X4_11 dX4_stepNumber_27 (by repeat (first | assumption | exact hset_eq _ _ _ | (apply WAt.hd; assumption) | rw [hset_ne _ _ (by omega)])) (by rfl) ?_
    refine e_aload_n (pc := 30) dX4_stepNumber_30 rfl rfl ?_
    refine e_get (pc := 31) fl_X4_19 dX4_stepNumber_31 (by repeat (first | assumption | exact hset_eq _ _ _ | (apply WAt.hd; assumption) | rw [hset_ne _ _ (by omega)])) (by rfl) ?_
    refine e_ialdN (pc := 34) _ dX4_stepNumber_34 (by repeat (first | assumption | exact hset_eq _ _ _ | (apply WAt.hd; assumption) | rw [hset_ne _ _ (by omega)])) (by rfl) (by omega) (by first | decide | omega) ?_
    rw [t2]
    refine n_SP (pc := 35) (c_X4_isDigit t3) bX4_isDigit q_st_X4_isDigit q_m_X4_182 dX4_stepNumber_35 rfl rfl (by exact Nat.le_of_ble_eq_true rfl) ⟨by decide, by decide⟩ ⟨rfl, rfl, Nat.zero_le _, Nat.zero_le _⟩ ?_
    by_cases c : digB (f j) = true
    · have c' := of_decide_eq_true c
      rw [if_pos c]
      have e6 := run_go (f := f) hj c
      have e7 : j + 1 ≤ e := by
        have := (run_b (f := f) (P := digB) (show j + 1 ≤ len by omega)).1
        omega
      refine n_if_eq (pc := 38) (tgt := 91) dX4_stepNumber_38 (by decide) (by omega) (fun q => absurd q (by omega)) (fun _ => ?_)
      have fin2 : ∀ h2 v, RdH h2 R (nI len) (nI j) kd (nI s) (nI v) ft fp sm hf → Er R (R + 1) hh h2 → v = dv f s (min 4 (j + 1 - s)) → VV MX4_stepNumber sz (fun h' => RdH h' R (nI len) (nI e) (nI (if e - s ≤ 4 then 2 else 4)) (nI s) (nI (dv f s (min 4 (e - s)))) ft fp sm hf ∧ Er R (R + 1) hh h') h2 78 [some (.ref R)] [] := fun h2 v q1 q2 q3 => by
        refine e_aload_n (pc := 78) dX4_stepNumber_78 rfl rfl ?_
        refine e_dup (pc := 79) dX4_stepNumber_79 rfl ?_
        refine e_get (pc := 80) fl_X4_19 dX4_stepNumber_80 (by repeat (first | assumption | exact hset_eq _ _ _ | (apply WAt.hd; assumption) | rw [hset_ne _ _ (by omega)])) (by rfl) ?_
        refine n_iconst (pc := 83) 1 dX4_stepNumber_83 (by decide) ?_
        refine n_iadd (pc := 84) dX4_stepNumber_84 ?_
        refine e_put (pc := 85) pl_X4_19 dX4_stepNumber_85 (by repeat (first | assumption | exact hset_eq _ _ _ | (apply WAt.hd; assumption) | rw [hset_ne _ _ (by omega)])) (by rfl) (by rfl) (by exact Nat.le_of_ble_eq_true rfl) ?_
        refine e_goto (pc := 88) (tgt := 5) dX4_stepNumber_88 (by decide) ?_
        subst q3
        exact ih (j + 1) (by omega) (by omega) e7 (by omega) _ (hset_eq _ _ _) (q2.set (by omega))
      refine e_aload_n (pc := 41) dX4_stepNumber_41 rfl rfl ?_
      refine e_get (pc := 42) fl_X4_19 dX4_stepNumber_42 (by repeat (first | assumption | exact hset_eq _ _ _ | (apply WAt.hd; assumption) | rw [hset_ne _ _ (by omega)])) (by rfl) ?_
      refine e_aload_n (pc := 45) dX4_stepNumber_45 rfl rfl ?_
      refine e_get (pc := 46) fl_X4_25 dX4_stepNumber_46 (by repeat (first | assumption | exact hset_eq _ _ _ | (apply WAt.hd; assumption) | rw [hset_ne _ _ (by omega)])) (by rfl) ?_
      refine n_isub (pc := 49) dX4_stepNumber_49 (by omega) ?_
      refine n_iconst (pc := 50) 4 dX4_stepNumber_50 (by decide) ?_
      refine n_icmp_ge (pc := 51) (tgt := 78) dX4_stepNumber_51 (by decide) (by omega) (by omega) (fun c2 => ?_) (fun c2 => ?_)
      · exact fin2 h1 _ hH hE (by rw [show min 4 (j - s) = 4 by omega, show min 4 (j + 1 - s) = 4 by omega])
      · refine e_aload_n (pc := 54) dX4_stepNumber_54 rfl rfl ?_
        refine n_bipush (pc := 55) 10 dX4_stepNumber_55 (by decide) ?_
        refine e_aload_n (pc := 57) dX4_stepNumber_57 rfl rfl ?_
        refine e_get (pc := 58) fl_X4_28 dX4_stepNumber_58 (by repeat (first | assumption | exact hset_eq _ _ _ | (apply WAt.hd; assumption) | rw [hset_ne _ _ (by omega)])) (by rfl) ?_
        refine n_imul (pc := 61) dX4_stepNumber_61 ?_
        refine e_aload_n (pc := 62) dX4_stepNumber_62 rfl rfl ?_
        refine e_get (pc := 63) fl_X4_11 dX4_stepNumber_63 (by repeat (first | assumption | exact hset_eq _ _ _ | (apply WAt.hd; assumption) | rw [hset_ne _ _ (by omega)])) (by rfl) ?_
        refine e_aload_n (pc := 66) dX4_stepNumber_66 rfl rfl ?_
        refine e_get (pc := 67) fl_X4_19 dX4_stepNumber_67 (by repeat (first | assumption | exact hset_eq _ _ _ | (apply WAt.hd; assumption) | rw [hset_ne _ _ (by omega)])) (by rfl) ?_
        refine e_ialdN (pc := 70) _ dX4_stepNumber_70 (by repeat (first | assumption | exact hset_eq _ _ _ | (apply WAt.hd; assumption) | rw [hset_ne _ _ (by omega)])) (by rfl) (by omega) (by first | decide | omega) ?_
        rw [t2]
        refine n_iadd (pc := 71) dX4_stepNumber_71 ?_
        refine n_bipush (pc := 72) 48 dX4_stepNumber_72 (by decide) ?_
        refine n_isub (pc := 74) dX4_stepNumber_74 (by omega) ?_
        refine e_put (pc := 75) pl_X4_28 dX4_stepNumber_75 (by repeat (first | assumption | exact hset_eq _ _ _ | (apply WAt.hd; assumption) | rw [hset_ne _ _ (by omega)])) (by rfl) (by rfl) (by exact Nat.le_of_ble_eq_true rfl) ?_
        refine fin2 _ _ (hset_eq _ _ _) (hE.set (by omega)) ?_
        rw [show min 4 (j - s) = j - s by omega, show min 4 (j + 1 - s) = j - s + 1 by omega]
        show _ = 10 * dv f s (j - s) + (f (s + (j - s)) - 48)
        rw [show s + (j - s) = j by omega]
        omega
    · have c' : digB (f j) = false := by cases q : digB (f j) with | true => exact absurd q c | false => rfl
      have e6 : j = e := (run_no c').symm.trans e4
      subst e6
      rw [if_neg c]
      refine n_if_eq (pc := 38) (tgt := 91) dX4_stepNumber_38 (by decide) (by omega) (fun _ => ?_) (fun q => absurd rfl q)
      exact fin h1 hH hE e2
theorem c_X4_stepNumber {s : Nat} (hT : Tap h R f len) (hs : s < len) (hH : RdH h R (nI len) (nI s) kd (nI s) vl0 ft fp sm hf) : CV yX4_stepNumber MX4_stepNumber [.ref R] h (fun h' => RdH h' R (nI len) (nI (run f len digB s)) (nI (if run f len digB s - s ≤ 4 then 2 else 4)) (nI s) (nI (dv f s (min 4 (run f len digB s - s)))) ft fp sm hf ∧ Er R (R + 1) h h') := by
  refine CV.ofV (by decide) rfl rfl (by simp [Value.category]) (by exact Nat.le_of_ble_eq_true rfl) (fun sz => ?_)
  refine e_aload_n (pc := 0) dX4_stepNumber_0 rfl rfl ?_
  refine n_iconst (pc := 1) 0 dX4_stepNumber_1 (by decide) ?_
  refine e_put (pc := 2) pl_X4_28 dX4_stepNumber_2 (by repeat (first | assumption | exact hset_eq _ _ _ | (apply WAt.hd; assumption) | rw [hset_ne _ _ (by omega)])) (by rfl) (by rfl) (by exact Nat.le_of_ble_eq_true rfl) ?_
  refine l_sn (hh := h) (kd := kd) hT hs rfl (len - s) s rfl (Nat.le_refl _) (run_b (by omega)).1 rfl _ ?_ ((Er.rf _ _ _).set (by omega))
  rw [Nat.sub_self, Nat.min_eq_right (Nat.zero_le 4)]
  exact hset_eq _ _ _
/-- what a step leaves -/
def RStp (h' : AH) (R len : Nat) (f : Nat → Nat) (i : Nat) (ft fp sm hf : Int32) : Prop := ∃ v, RdH h' R (nI len) (nI (tE f len i)) (nI (tC f len i)) (nI (tS f len i)) v ft fp sm hf ∧ (tC f len i = 2 → v = nI (tV f len i))
theorem l_st_w {sz i s e : Nat} {hh : AH} (hT : Tap hh R f len) (hes : tS f len i = s) (hs : s < len) (hL : letB (f s) = true) (he : run f len letB s = e) :
    ∀ (m j : Nat), m = len - j → s ≤ j → j ≤ e → run f len letB j = e → ∀ h1, RdH h1 R (nI len) (nI j) (nI 1) (nI s) vl0 ft fp sm hf → Er R (R + 1) hh h1 →
    VV MX4_step sz (fun h' => RStp h' R len f i ft fp sm hf ∧ Er R (R + 1) hh h') h1 119 [some (.ref R)] [] := by
  obtain ⟨l6, g, g1, g2⟩ := id hT
  have el : e ≤ len := by rw [← he]; exact (run_b (by omega)).2
  have hC : tC f len i = 1 := by unfold tC; rw [hes, if_neg (by omega), if_pos hL]
  have hE' : tE f len i = e := by unfold tE; rw [hes, if_neg (by omega), if_pos hL, he]
  have fin : ∀ h1, RdH h1 R (nI len) (nI e) (nI 1) (nI s) vl0 ft fp sm hf → Er R (R + 1) hh h1 → VV MX4_step sz (fun h' => RStp h' R len f i ft fp sm hf ∧ Er R (R + 1) hh h') h1 223 [some (.ref R)] [] := fun h1 q1 q2 => by
    refine n_vret (pc := 223) dX4_step_223 rfl ⟨⟨vl0, ?_, fun z => ?_⟩, q2⟩
    · rw [hC, hE', hes]; exact q1
    · rw [hC] at z; exact absurd z (by decide)
  intro m
  induction m with
  | zero =>
    intro j e1 e2 e3 e4 h1 hH hE
    have e5 : j = e := by omega
    subst e5
    refine e_aload_n (pc := 119) dX4_step_119 rfl rfl ?_
    refine e_get (pc := 120) fl_X4_19 dX4_step_120 (by repeat (first | assumption | exact hset_eq _ _ _ | (apply WAt.hd; assumption) | rw [hset_ne _ _ (by omega)])) (by rfl) ?_
    refine e_aload_n (pc := 123) dX4_step_123 rfl rfl ?_
    refine e_get (pc := 124) fl_X4_15 dX4_step_124 (by repeat (first | assumption | exact hset_eq _ _ _ | (apply WAt.hd; assumption) | rw [hset_ne _ _ (by omega)])) (by rfl) ?_
    refine n_icmp_ge (pc := 127) (tgt := 223) dX4_step_127 (by decide) (by omega) (by omega) (fun hb_ => ?_) (fun c => absurd c (by omega))
    exact fin h1 hH hE
  | succ m ih =>
    intro j e1 e2 e3 e4 h1 hH hE
    have hj : j < len := by omega
    have t1 := (hE (R + 1) (by omega)).trans g1
    obtain ⟨t2, t3⟩ := g2 j hj
    refine e_aload_n (pc := 119) dX4_step_119 rfl rfl ?_
    refine e_get (pc := 120) fl_X4_19 dX4_step_120 (by repeat (first | assumption | exact hset_eq _ _ _ | (apply WAt.hd; assumption) | rw [hset_ne _ _ (by omega)])) (by rfl) ?_
    refine e_aload_n (pc := 123) dX4_step_123 rfl rfl ?_
    refine e_get (pc := 124) fl_X4_15 dX4_step_124 (by repeat (first | assumption | exact hset_eq _ _ _ | (apply WAt.hd; assumption) | rw [hset_ne _ _ (by omega)])) (by rfl) ?_
    refine n_icmp_ge (pc := 127) (tgt := 223) dX4_step_127 (by decide) (by omega) (by omega) (fun c => absurd c (by omega)) (fun hb_ => ?_)
    refine e_aload_n (pc := 130) dX4_step_130 rfl rfl ?_
    refine e_get (pc := 131) fl_X4_19 dX4_step_131 (by repeat (first | assumption | exact hset_eq _ _ _ | (apply WAt.hd; assumption) | rw [hset_ne _ _ (by omega)])) (by rfl) ?_
    refine n_sipush (pc := 134) 600 dX4_step_134 (by decide) ?_
    refine n_icmp_ge (pc := 137) (tgt := 223) dX4_step_137 (by decide) (by omega) (by omega) (fun c => absurd c (by omega)) (fun hb_ => ?_)
    refine e_aload_n (pc := 140) dX4_step_140 rfl rfl ?_
    refine e_get (pc := 141) fl_X4_11 dX4_step_141 (by repeat (first | assumption | exact hset_eq _ _ _ | (apply WAt.hd; assumption) | rw [hset_ne _ _ (by omega)])) (by rfl) ?_
    refine e_aload_n (pc := 144) dX4_step_144 rfl rfl ?_
    refine e_get (pc := 145) fl_X4_19 dX4_step_145 (by repeat (first | assumption | exact hset_eq _ _ _ | (apply WAt.hd; assumption) | rw [hset_ne _ _ (by omega)])) (by rfl) ?_
    refine e_ialdN (pc := 148) _ dX4_step_148 (by repeat (first | assumption | exact hset_eq _ _ _ | (apply WAt.hd; assumption) | rw [hset_ne _ _ (by omega)])) (by rfl) (by omega) (by first | decide | omega) ?_
    rw [t2]
    refine n_SP (pc := 149) (c_X4_isLetter t3) bX4_isLetter q_st_X4_isLetter q_m_X4_179 dX4_step_149 rfl rfl (by exact Nat.le_of_ble_eq_true rfl) ⟨by decide, by decide⟩ ⟨rfl, rfl, Nat.zero_le _, Nat.zero_le _⟩ ?_
    by_cases c : letB (f j) = true
    · rw [if_pos c]
      have e6 := run_go (f := f) hj c
      have e7 : j + 1 ≤ e := by
        have := (run_b (f := f) (P := letB) (show j + 1 ≤ len by omega)).1
        omega
      refine n_if_eq (pc := 152) (tgt := 223) dX4_step_152 (by decide) (by omega) (fun q => absurd q (by omega)) (fun _ => ?_)
      refine e_aload_n (pc := 155) dX4_step_155 rfl rfl ?_
      refine e_dup (pc := 156) dX4_step_156 rfl ?_
      refine e_get (pc := 157) fl_X4_19 dX4_step_157 (by repeat (first | assumption | exact hset_eq _ _ _ | (apply WAt.hd; assumption) | rw [hset_ne _ _ (by omega)])) (by rfl) ?_
      refine n_iconst (pc := 160) 1 dX4_step_160 (by decide) ?_
      refine n_iadd (pc := 161) dX4_step_161 ?_
      refine e_put (pc := 162) pl_X4_19 dX4_step_162 (by repeat (first | assumption | exact hset_eq _ _ _ | (apply WAt.hd; assumption) | rw [hset_ne _ _ (by omega)])) (by rfl) (by rfl) (by exact Nat.le_of_ble_eq_true rfl) ?_
      refine e_goto (pc := 165) (tgt := 119) dX4_step_165 (by decide) ?_
      exact ih (j + 1) (by omega) (by omega) e7 (by omega) _ (hset_eq _ _ _) (hE.set (by omega))
    · have c' : letB (f j) = false := by cases q : letB (f j) with | true => exact absurd q c | false => rfl
      have e6 : j = e := (run_no c').symm.trans e4
      subst e6
      rw [if_neg c]
      refine n_if_eq (pc := 152) (tgt := 223) dX4_step_152 (by decide) (by omega) (fun _ => ?_) (fun q => absurd rfl q)
      exact fin h1 hH hE
theorem l_st_t {sz i s : Nat} {hh : AH} (hT : Tap hh R f len) (hi : i ≤ len) (hes : tS f len i = s) {h1 : AH} (hH : RdH h1 R (nI len) (nI s) kd st vl0 ft fp sm hf) (hE : Er R (R + 1) hh h1) :
    VV MX4_step sz (fun h' => RStp h' R len f i ft fp sm hf ∧ Er R (R + 1) hh h') h1 62 [some (.ref R)] [] := by
  obtain ⟨l6, g, g1, g2⟩ := id hT
  have sl : s ≤ len := by rw [← hes]; exact (run_b hi).2
  refine e_aload_n (pc := 62) dX4_step_62 rfl rfl ?_
  refine e_aload_n (pc := 63) dX4_step_63 rfl rfl ?_
  refine e_get (pc := 64) fl_X4_19 dX4_step_64 (by repeat (first | assumption | exact hset_eq _ _ _ | (apply WAt.hd; assumption) | rw [hset_ne _ _ (by omega)])) (by rfl) ?_
  refine e_put (pc := 67) pl_X4_25 dX4_step_67 (by repeat (first | assumption | exact hset_eq _ _ _ | (apply WAt.hd; assumption) | rw [hset_ne _ _ (by omega)])) (by rfl) (by rfl) (by exact Nat.le_of_ble_eq_true rfl) ?_
  refine e_aload_n (pc := 70) dX4_step_70 rfl rfl ?_
  refine e_get (pc := 71) fl_X4_19 dX4_step_71 (by repeat (first | assumption | exact hset_eq _ _ _ | (apply WAt.hd; assumption) | rw [hset_ne _ _ (by omega)])) (by rfl) ?_
  refine e_aload_n (pc := 74) dX4_step_74 rfl rfl ?_
  refine e_get (pc := 75) fl_X4_15 dX4_step_75 (by repeat (first | assumption | exact hset_eq _ _ _ | (apply WAt.hd; assumption) | rw [hset_ne _ _ (by omega)])) (by rfl) ?_
  by_cases c : len ≤ s
  · refine n_icmp_ge (pc := 78) (tgt := 91) dX4_step_78 (by decide) (by omega) (by omega) (fun hb_ => ?_) (fun c => absurd c (by omega))
    refine e_aload_n (pc := 91) dX4_step_91 rfl rfl ?_
    refine n_iconst (pc := 92) 0 dX4_step_92 (by decide) ?_
    refine e_put (pc := 93) pl_X4_22 dX4_step_93 (by repeat (first | assumption | exact hset_eq _ _ _ | (apply WAt.hd; assumption) | rw [hset_ne _ _ (by omega)])) (by rfl) (by rfl) (by exact Nat.le_of_ble_eq_true rfl) ?_
    refine e_goto (pc := 96) (tgt := 223) dX4_step_96 (by decide) ?_
    have hC : tC f len i = 0 := by unfold tC; rw [hes, if_pos c]
    have hE' : tE f len i = s := by unfold tE; rw [hes, if_pos c]
    refine n_vret (pc := 223) dX4_step_223 rfl ⟨⟨vl0, ?_, fun z => ?_⟩, (hE.set (by omega)).set (by omega)⟩
    · rw [hC, hE', hes]; exact hset_eq _ _ _
    · rw [hC] at z; exact absurd z (by decide)
  · have t1 := (hE (R + 1) (by omega)).trans g1
    obtain ⟨t2, t3⟩ := g2 s (by omega)
    refine n_icmp_ge (pc := 78) (tgt := 91) dX4_step_78 (by decide) (by omega) (by omega) (fun c => absurd c (by omega)) (fun hb_ => ?_)
    refine e_aload_n (pc := 81) dX4_step_81 rfl rfl ?_
    refine e_get (pc := 82) fl_X4_19 dX4_step_82 (by repeat (first | assumption | exact hset_eq _ _ _ | (apply WAt.hd; assumption) | rw [hset_ne _ _ (by omega)])) (by rfl) ?_
    refine n_sipush (pc := 85) 600 dX4_step_85 (by decide) ?_
    refine n_icmp_lt (pc := 88) (tgt := 99) dX4_step_88 (by decide) (by omega) (by omega) (fun hb_ => ?_) (fun c => absurd c (by omega))
    refine e_aload_n (pc := 99) dX4_step_99 rfl rfl ?_
    refine e_get (pc := 100) fl_X4_11 dX4_step_100 (by repeat (first | assumption | exact hset_eq _ _ _ | (apply WAt.hd; assumption) | rw [hset_ne _ _ (by omega)])) (by rfl) ?_
    refine e_aload_n (pc := 103) dX4_step_103 rfl rfl ?_
    refine e_get (pc := 104) fl_X4_19 dX4_step_104 (by repeat (first | assumption | exact hset_eq _ _ _ | (apply WAt.hd; assumption) | rw [hset_ne _ _ (by omega)])) (by rfl) ?_
    refine e_ialdN (pc := 107) _ dX4_step_107 (by repeat (first | assumption | exact hset_eq _ _ _ | (apply WAt.hd; assumption) | rw [hset_ne _ _ (by omega)])) (by rfl) (by omega) (by first | decide | omega) ?_
    rw [t2]
    refine n_SP (pc := 108) (c_X4_isLetter t3) bX4_isLetter q_st_X4_isLetter q_m_X4_179 dX4_step_108 rfl rfl (by exact Nat.le_of_ble_eq_true rfl) ⟨by decide, by decide⟩ ⟨rfl, rfl, Nat.zero_le _, Nat.zero_le _⟩ ?_
    by_cases c2 : letB (f s) = true
    · rw [if_pos c2]
      refine n_if_eq (pc := 111) (tgt := 168) dX4_step_111 (by decide) (by omega) (fun q => absurd q (by omega)) (fun _ => ?_)
      refine e_aload_n (pc := 114) dX4_step_114 rfl rfl ?_
      refine n_iconst (pc := 115) 1 dX4_step_115 (by decide) ?_
      refine e_put (pc := 116) pl_X4_22 dX4_step_116 (by repeat (first | assumption | exact hset_eq _ _ _ | (apply WAt.hd; assumption) | rw [hset_ne _ _ (by omega)])) (by rfl) (by rfl) (by exact Nat.le_of_ble_eq_true rfl) ?_
      exact l_st_w (hh := hh) hT hes (by omega) c2 rfl (len - s) s rfl (Nat.le_refl _) (run_b sl).1 rfl _ (hset_eq _ _ _) ((hE.set (by omega)).set (by omega))
    · rw [if_neg c2]
      refine n_if_eq (pc := 111) (tgt := 168) dX4_step_111 (by decide) (by omega) (fun _ => ?_) (fun q => absurd rfl q)
      refine e_aload_n (pc := 168) dX4_step_168 rfl rfl ?_
      refine e_get (pc := 169) fl_X4_11 dX4_step_169 (by repeat (first | assumption | exact hset_eq _ _ _ | (apply WAt.hd; assumption) | rw [hset_ne _ _ (by omega)])) (by rfl) ?_
      refine e_aload_n (pc := 172) dX4_step_172 rfl rfl ?_
      refine e_get (pc := 173) fl_X4_19 dX4_step_173 (by repeat (first | assumption | exact hset_eq _ _ _ | (apply WAt.hd; assumption) | rw [hset_ne _ _ (by omega)])) (by rfl) ?_
      refine e_ialdN (pc := 176) _ dX4_step_176 (by repeat (first | assumption | exact hset_eq _ _ _ | (apply WAt.hd; assumption) | rw [hset_ne _ _ (by omega)])) (by rfl) (by omega) (by first | decide | omega) ?_
      rw [t2]
      refine n_SP (pc := 177) (c_X4_isDigit t3) bX4_isDigit q_st_X4_isDigit q_m_X4_182 dX4_step_177 rfl rfl (by exact Nat.le_of_ble_eq_true rfl) ⟨by decide, by decide⟩ ⟨rfl, rfl, Nat.zero_le _, Nat.zero_le _⟩ ?_
      by_cases c3 : digB (f s) = true
      · rw [if_pos c3]
        refine n_if_eq (pc := 180) (tgt := 190) dX4_step_180 (by decide) (by omega) (fun q => absurd q (by omega)) (fun _ => ?_)
        refine e_aload_n (pc := 183) dX4_step_183 rfl rfl ?_
        have hT2 : Tap (hset h1 R (ob 4 [.ref (R + 1), .int (nI len), .int (nI s), .int kd, .int (nI s), .int vl0, .int ft, .int fp, .int sm, .int hf, .ref (R + 2), .ref (R + 5), .ref (R + 8), .ref (R + 11), .ref (R + 12), .ref (R + 13)])) R f len := hT.keep ((hset_ne _ _ (by omega)).trans (hE _ (by omega)))
        refine n_Vv (pc := 184) (c_X4_stepNumber hT2 (show s < len by omega) (hset_eq _ _ _)) bX4_stepNumber q_i_X4_stepNumber q_s_X4_stepNumber q_m_X4_185 dX4_step_184 rfl rfl (by repeat (first | assumption | exact hset_eq _ _ _ | (apply WAt.hd; assumption) | rw [hset_ne _ _ (by omega)])) rfl rfl (by exact Nat.le_of_ble_eq_true rfl) ⟨by decide, by decide⟩ ⟨rfl, rfl, Nat.zero_le _, Nat.zero_le _⟩ (fun h2 hp => ?_)
        obtain ⟨p1, p2⟩ := hp
        refine e_goto (pc := 187) (tgt := 223) dX4_step_187 (by decide) ?_
        have hC : tC f len i = if run f len digB s - s ≤ 4 then 2 else 4 := by unfold tC; rw [hes, if_neg c, if_neg c2, if_pos c3]
        have hE' : tE f len i = run f len digB s := by unfold tE; rw [hes, if_neg c, if_neg c2, if_pos c3]
        refine n_vret (pc := 223) dX4_step_223 rfl ⟨⟨nI (dv f s (min 4 (run f len digB s - s))), ?_, fun z => ?_⟩, (hE.set (by omega)).tr p2⟩
        · rw [hC, hE', hes]; exact p1
        · unfold tV; rw [hes]
      · rw [if_neg c3]
        refine n_if_eq (pc := 180) (tgt := 190) dX4_step_180 (by decide) (by omega) (fun _ => ?_) (fun q => absurd rfl q)
        refine e_aload_n (pc := 190) dX4_step_190 rfl rfl ?_
        refine e_aload_n (pc := 191) dX4_step_191 rfl rfl ?_
        refine e_get (pc := 192) fl_X4_11 dX4_step_192 (by repeat (first | assumption | exact hset_eq _ _ _ | (apply WAt.hd; assumption) | rw [hset_ne _ _ (by omega)])) (by rfl) ?_
        refine e_aload_n (pc := 195) dX4_step_195 rfl rfl ?_
        refine e_get (pc := 196) fl_X4_19 dX4_step_196 (by repeat (first | assumption | exact hset_eq _ _ _ | (apply WAt.hd; assumption) | rw [hset_ne _ _ (by omega)])) (by rfl) ?_
        refine e_ialdN (pc := 199) _ dX4_step_199 (by repeat (first | assumption | exact hset_eq _ _ _ | (apply WAt.hd; assumption) | rw [hset_ne _ _ (by omega)])) (by rfl) (by omega) (by first | decide | omega) ?_
        rw [t2]
        refine n_bipush (pc := 200) 59 dX4_step_200 (by decide) ?_
        have hE' : tE f len i = s + 1 := by unfold tE; rw [hes, if_neg c, if_neg c2, if_neg c3]
        refine n_icmp_ne (pc := 202) (tgt := 209) dX4_step_202 (by decide) (by omega) (by omega) (fun c4 => ?_) (fun c4 => ?_)
        · refine n_iconst (pc := 209) 4 dX4_step_209 (by decide) ?_
          refine e_put (pc := 210) pl_X4_22 dX4_step_210 (by repeat (first | assumption | exact hset_eq _ _ _ | (apply WAt.hd; assumption) | rw [hset_ne _ _ (by omega)])) (by rfl) (by rfl) (by exact Nat.le_of_ble_eq_true rfl) ?_
          refine e_aload_n (pc := 213) dX4_step_213 rfl rfl ?_
          refine e_dup (pc := 214) dX4_step_214 rfl ?_
          refine e_get (pc := 215) fl_X4_19 dX4_step_215 (by repeat (first | assumption | exact hset_eq _ _ _ | (apply WAt.hd; assumption) | rw [hset_ne _ _ (by omega)])) (by rfl) ?_
          refine n_iconst (pc := 218) 1 dX4_step_218 (by decide) ?_
          refine n_iadd (pc := 219) dX4_step_219 ?_
          refine e_put (pc := 220) pl_X4_19 dX4_step_220 (by repeat (first | assumption | exact hset_eq _ _ _ | (apply WAt.hd; assumption) | rw [hset_ne _ _ (by omega)])) (by rfl) (by rfl) (by exact Nat.le_of_ble_eq_true rfl) ?_
          have hC : tC f len i = 4 := by unfold tC; rw [hes, if_neg c, if_neg c2, if_neg c3, if_neg c4]
          refine n_vret (pc := 223) dX4_step_223 rfl ⟨⟨vl0, ?_, fun z => ?_⟩, ((hE.set (by omega)).set (by omega)).set (by omega)⟩
          · rw [hC, hE', hes]; exact hset_eq _ _ _
          · rw [hC] at z; exact absurd z (by decide)
        · refine n_iconst (pc := 205) 3 dX4_step_205 (by decide) ?_
          refine e_goto (pc := 206) (tgt := 210) dX4_step_206 (by decide) ?_
          refine e_put (pc := 210) pl_X4_22 dX4_step_210 (by repeat (first | assumption | exact hset_eq _ _ _ | (apply WAt.hd; assumption) | rw [hset_ne _ _ (by omega)])) (by rfl) (by rfl) (by exact Nat.le_of_ble_eq_true rfl) ?_
          refine e_aload_n (pc := 213) dX4_step_213 rfl rfl ?_
          refine e_dup (pc := 214) dX4_step_214 rfl ?_
          refine e_get (pc := 215) fl_X4_19 dX4_step_215 (by repeat (first | assumption | exact hset_eq _ _ _ | (apply WAt.hd; assumption) | rw [hset_ne _ _ (by omega)])) (by rfl) ?_
          refine n_iconst (pc := 218) 1 dX4_step_218 (by decide) ?_
          refine n_iadd (pc := 219) dX4_step_219 ?_
          refine e_put (pc := 220) pl_X4_19 dX4_step_220 (by repeat (first | assumption | exact hset_eq _ _ _ | (apply WAt.hd; assumption) | rw [hset_ne _ _ (by omega)])) (by rfl) (by rfl) (by exact Nat.le_of_ble_eq_true rfl) ?_
          have hC : tC f len i = 3 := by unfold tC; rw [hes, if_neg c, if_neg c2, if_neg c3, if_pos c4]
          refine n_vret (pc := 223) dX4_step_223 rfl ⟨⟨vl0, ?_, fun z => ?_⟩, ((hE.set (by omega)).set (by omega)).set (by omega)⟩
          · rw [hC, hE', hes]; exact hset_eq _ _ _
          · rw [hC] at z; exact absurd z (by decide)
theorem l_st_b {sz i : Nat} {hh : AH} (hT : Tap hh R f len) (hi : i ≤ len) :
    ∀ (m j : Nat), m = len - j → i ≤ j → j ≤ len → tS f len j = tS f len i → ∀ h1, RdH h1 R (nI len) (nI j) kd st vl0 ft fp sm hf → Er R (R + 1) hh h1 →
    VV MX4_step sz (fun h' => RStp h' R len f i ft fp sm hf ∧ Er R (R + 1) hh h') h1 0 [some (.ref R)] [] := by
  obtain ⟨l6, g, g1, g2⟩ := id hT
  intro m
  induction m with
  | zero =>
    intro j e1 e2 e3 e4 h1 hH hE
    have e' : j = len := by omega
    refine e_aload_n (pc := 0) dX4_step_0 rfl rfl ?_
    refine e_get (pc := 1) fl_X4_19 dX4_step_1 (by repeat (first | assumption | exact hset_eq _ _ _ | (apply WAt.hd; assumption) | rw [hset_ne _ _ (by omega)])) (by rfl) ?_
    refine e_aload_n (pc := 4) dX4_step_4 rfl rfl ?_
    refine e_get (pc := 5) fl_X4_15 dX4_step_5 (by repeat (first | assumption | exact hset_eq _ _ _ | (apply WAt.hd; assumption) | rw [hset_ne _ _ (by omega)])) (by rfl) ?_
    refine n_icmp_ge (pc := 8) (tgt := 62) dX4_step_8 (by decide) (by omega) (by omega) (fun hb_ => ?_) (fun c => absurd c (by omega))
    exact l_st_t (s := j) hT hi (by rw [← e4]; exact run_end (by omega)) hH hE
  | succ m ih =>
    intro j e1 e2 e3 e4 h1 hH hE
    have hj : j < len := by omega
    have t1 := (hE (R + 1) (by omega)).trans g1
    obtain ⟨t2, t3⟩ := g2 j hj
    have go : blkB (f j) = true → VV MX4_step sz (fun h' => RStp h' R len f i ft fp sm hf ∧ Er R (R + 1) hh h') h1 49 [some (.ref R)] [] := fun c => by
      refine e_aload_n (pc := 49) dX4_step_49 rfl rfl ?_
      refine e_dup (pc := 50) dX4_step_50 rfl ?_
      refine e_get (pc := 51) fl_X4_19 dX4_step_51 (by repeat (first | assumption | exact hset_eq _ _ _ | (apply WAt.hd; assumption) | rw [hset_ne _ _ (by omega)])) (by rfl) ?_
      refine n_iconst (pc := 54) 1 dX4_step_54 (by decide) ?_
      refine n_iadd (pc := 55) dX4_step_55 ?_
      refine e_put (pc := 56) pl_X4_19 dX4_step_56 (by repeat (first | assumption | exact hset_eq _ _ _ | (apply WAt.hd; assumption) | rw [hset_ne _ _ (by omega)])) (by rfl) (by rfl) (by exact Nat.le_of_ble_eq_true rfl) ?_
      refine e_goto (pc := 59) (tgt := 0) dX4_step_59 (by decide) ?_
      exact ih (j + 1) (by omega) (by omega) (by omega) (by rw [← e4]; exact (run_go hj c).symm) _ (hset_eq _ _ _) (hE.set (by omega))
    refine e_aload_n (pc := 0) dX4_step_0 rfl rfl ?_
    refine e_get (pc := 1) fl_X4_19 dX4_step_1 (by repeat (first | assumption | exact hset_eq _ _ _ | (apply WAt.hd; assumption) | rw [hset_ne _ _ (by omega)])) (by rfl) ?_
    refine e_aload_n (pc := 4) dX4_step_4 rfl rfl ?_
    refine e_get (pc := 5) fl_X4_15 dX4_step_5 (by repeat (first | assumption | exact hset_eq _ _ _ | (apply WAt.hd; assumption) | rw [hset_ne _ _ (by omega)])) (by rfl) ?_
    refine n_icmp_ge (pc := 8) (tgt := 62) dX4_step_8 (by decide) (by omega) (by omega) (fun c => absurd c (by omega)) (fun hb_ => ?_)
    refine e_aload_n (pc := 11) dX4_step_11 rfl rfl ?_
    refine e_get (pc := 12) fl_X4_19 dX4_step_12 (by repeat (first | assumption | exact hset_eq _ _ _ | (apply WAt.hd; assumption) | rw [hset_ne _ _ (by omega)])) (by rfl) ?_
    refine n_sipush (pc := 15) 600 dX4_step_15 (by decide) ?_
    refine n_icmp_ge (pc := 18) (tgt := 62) dX4_step_18 (by decide) (by omega) (by omega) (fun c => absurd c (by omega)) (fun hb_ => ?_)
    refine e_aload_n (pc := 21) dX4_step_21 rfl rfl ?_
    refine e_get (pc := 22) fl_X4_11 dX4_step_22 (by repeat (first | assumption | exact hset_eq _ _ _ | (apply WAt.hd; assumption) | rw [hset_ne _ _ (by omega)])) (by rfl) ?_
    refine e_aload_n (pc := 25) dX4_step_25 rfl rfl ?_
    refine e_get (pc := 26) fl_X4_19 dX4_step_26 (by repeat (first | assumption | exact hset_eq _ _ _ | (apply WAt.hd; assumption) | rw [hset_ne _ _ (by omega)])) (by rfl) ?_
    refine e_ialdN (pc := 29) _ dX4_step_29 (by repeat (first | assumption | exact hset_eq _ _ _ | (apply WAt.hd; assumption) | rw [hset_ne _ _ (by omega)])) (by rfl) (by omega) (by first | decide | omega) ?_
    rw [t2]
    refine n_bipush (pc := 30) 32 dX4_step_30 (by decide) ?_
    refine n_icmp_eq (pc := 32) (tgt := 49) dX4_step_32 (by decide) (by omega) (by omega) (fun c1 => ?_) (fun c1 => ?_)
    · exact go (decide_eq_true (Or.inl c1))
    · refine e_aload_n (pc := 35) dX4_step_35 rfl rfl ?_
      refine e_get (pc := 36) fl_X4_11 dX4_step_36 (by repeat (first | assumption | exact hset_eq _ _ _ | (apply WAt.hd; assumption) | rw [hset_ne _ _ (by omega)])) (by rfl) ?_
      refine e_aload_n (pc := 39) dX4_step_39 rfl rfl ?_
      refine e_get (pc := 40) fl_X4_19 dX4_step_40 (by repeat (first | assumption | exact hset_eq _ _ _ | (apply WAt.hd; assumption) | rw [hset_ne _ _ (by omega)])) (by rfl) ?_
      refine e_ialdN (pc := 43) _ dX4_step_43 (by repeat (first | assumption | exact hset_eq _ _ _ | (apply WAt.hd; assumption) | rw [hset_ne _ _ (by omega)])) (by rfl) (by omega) (by first | decide | omega) ?_
      rw [t2]
      refine n_bipush (pc := 44) 10 dX4_step_44 (by decide) ?_
      refine n_icmp_ne (pc := 46) (tgt := 62) dX4_step_46 (by decide) (by omega) (by omega) (fun c2 => ?_) (fun c2 => ?_)
      · have c : blkB (f j) = false := decide_eq_false (by omega)
        exact l_st_t (s := j) hT hi (by rw [← e4]; exact run_no c) hH hE
      · exact go (decide_eq_true (Or.inr c2))
theorem c_X4_step {i : Nat} (hT : Tap h R f len) (hi : i ≤ len) (hH : RdH h R (nI len) (nI i) kd st vl0 ft fp sm hf) : CV yX4_step MX4_step [.ref R] h (fun h' => RStp h' R len f i ft fp sm hf ∧ Er R (R + 1) h h') := by
  obtain ⟨l6, -⟩ := id hT
  refine CV.ofV (by decide) rfl rfl (by simp [Value.category]) (by exact Nat.le_of_ble_eq_true rfl) (fun sz => ?_)
  exact l_st_b (hh := h) hT hi (len - i) i rfl (Nat.le_refl _) hi rfl h hH (Er.rf _ _ _)
end RD
