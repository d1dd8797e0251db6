/-! ===== the reference: tokens ===== -/
/-- the tape of the reference -/
def TpM (h : AH) (m : Nat) (f : Nat → Nat) (len : Nat) : Prop := len ≤ 600 ∧ ∃ g, h (m + 9) = some (aI 600 g) ∧ ∀ t, t < len → g t = nI (f t) ∧ f t < 256
theorem TpM.keep {h h2 : AH} {m len : Nat} {f : Nat → Nat} (q : TpM h m f len) (e : h2 (m + 9) = h (m + 9)) : TpM h2 m f len := by
  obtain ⟨q1, g, q2, q3⟩ := q
  exact ⟨q1, g, e.trans q2, q3⟩
def seeV (f : Nat → Nat) (len k : Nat) : Int32 := if k < len then nI (f k) else -1
/-- at, token, its place, value anew -/
abbrev Ms.tk (s : Ms) (a t b v : Nat) : Ms := (s.1, s.2.1, a, t, b, v, s.2.2.2.2.2.2)
section TO
variable {h : AH} {m p n q len : Nat} {s : Ms} {f : Nat → Nat}
theorem c_X11_see {k : Nat} (hM : MH h m p n q s) (hT : TpM h m f len) (hl : s.2.1 = len) (hk : k < 2 ^ 31) : CP yX11_see MX11_see [.ref m, .int (nI k)] h (seeV f len k) := by
  obtain ⟨l6, g, g1, g2⟩ := hT
  refine CI.ofV (by decide) rfl rfl (by simp [Value.category]) (by exact Nat.le_of_ble_eq_true rfl) (fun sz => ?_)
  refine e_iload_n (pc := 0) dX11_see_0 rfl rfl ?_
  refine e_aload_n (pc := 1) dX11_see_1 rfl rfl ?_
  refine e_get (pc := 2) fl_X11_157 dX11_see_2 (by repeat (first | assumption | exact hset_eq _ _ _ | (apply Lay.hd; assumption) | rw [hset_ne _ _ (by omega)])) (by rfl) ?_
  refine e_top (congrArg nI hl) ?_
  refine n_icmp_ge (pc := 5) (tgt := 17) dX11_see_5 (by decide) (by omega) (by omega) (fun c => ?_) (fun c => ?_)
  · refine e_iconst (pc := 17) (v := -1) dX11_see_17 (by decide) ?_
    exact n_iret (pc := 18) dX11_see_18 rfl ⟨by unfold seeV; rw [if_neg (by omega)], rfl⟩
  · obtain ⟨z, -⟩ := g2 k c
    refine e_aload_n (pc := 8) dX11_see_8 rfl rfl ?_
    refine e_get (pc := 9) fl_X11_34 dX11_see_9 (by repeat (first | assumption | exact hset_eq _ _ _ | (apply Lay.hd; assumption) | rw [hset_ne _ _ (by omega)])) (by rfl) ?_
    refine e_iload_n (pc := 12) dX11_see_12 rfl rfl ?_
    refine e_ialdN (pc := 13) k dX11_see_13 (by repeat (first | assumption | exact hset_eq _ _ _ | (apply Lay.hd; assumption) | rw [hset_ne _ _ (by omega)])) (by rfl) (by omega) (by first | decide | omega) ?_
    rw [z]
    refine e_goto (pc := 14) (tgt := 18) dX11_see_14 (by decide) ?_
    exact n_iret (pc := 18) dX11_see_18 rfl ⟨by unfold seeV; rw [if_pos c], rfl⟩
def letV (v : Int32) : Bool := inB v (nI 97) (nI 122) || inB v (nI 65) (nI 90)
def digV (v : Int32) : Bool := inB v (nI 48) (nI 57)
theorem inB_nat {b lo hi : Nat} (hb : b < 2 ^ 31) (h1 : lo < 2 ^ 31) (h2 : hi < 2 ^ 31) : inB (nI b) (nI lo) (nI hi) = decide (lo ≤ b ∧ b ≤ hi) := by
  unfold inB
  by_cases c1 : b < lo
  · rw [decide_eq_true ((nI_ltI hb h1).mpr c1), show decide (lo ≤ b ∧ b ≤ hi) = false from decide_eq_false (by omega)]; rfl
  · rw [decide_eq_false (fun z => c1 ((nI_ltI hb h1).mp z))]
    by_cases c2 : hi < b
    · rw [decide_eq_true ((nI_ltI h2 hb).mpr c2), show decide (lo ≤ b ∧ b ≤ hi) = false from decide_eq_false (by omega)]; rfl
    · rw [decide_eq_false (fun z => c2 ((nI_ltI h2 hb).mp z)), decide_eq_true (by omega)]; rfl
theorem letV_nat {b : Nat} (hb : b < 2 ^ 31) : letV (nI b) = letB b := by
  unfold letV letB
  rw [inB_nat hb (by decide) (by decide), inB_nat hb (by decide) (by decide)]
  by_cases c1 : 97 ≤ b ∧ b ≤ 122
  · rw [decide_eq_true c1, decide_eq_true (Or.inl c1)]; rfl
  · rw [decide_eq_false c1]
    by_cases c2 : 65 ≤ b ∧ b ≤ 90
    · rw [decide_eq_true c2, decide_eq_true (Or.inr c2)]; rfl
    · rw [decide_eq_false c2, decide_eq_false (fun z => z.elim c1 c2)]; rfl
theorem digV_nat {b : Nat} (hb : b < 2 ^ 31) : digV (nI b) = digB b := inB_nat hb (by decide) (by decide)
theorem letV_1 : letV (-1) = false := by decide
theorem digV_1 : digV (-1) = false := by decide
theorem seeV_lt {k : Nat} (hk : k < len) : seeV f len k = nI (f k) := if_pos hk
theorem seeV_ge {k : Nat} (hk : len ≤ k) : seeV f len k = -1 := if_neg (by omega)
theorem c_X11_isLetter (v : Int32) : CP yX11_isLetter MX11_isLetter [.int v] h (bI (letV v)) := by
  refine CI.ofV (by decide) rfl rfl (by simp [Value.category]) (by exact Nat.le_of_ble_eq_true rfl) (fun sz => ?_)
  refine e_iload_n (pc := 0) dX11_isLetter_0 rfl rfl ?_
  refine n_bipush (pc := 1) 97 dX11_isLetter_1 (by decide) ?_
  refine n_bipush (pc := 3) 122 dX11_isLetter_3 (by decide) ?_
  refine n_SP (pc := 5) (c_X11_isIn v (nI 97) (nI 122)) bX11_isIn q_st_X11_isIn q_m_X11_98 dX11_isLetter_5 rfl rfl (by exact Nat.le_of_ble_eq_true rfl) ⟨by decide, by decide⟩ ⟨rfl, rfl, Nat.zero_le _, Nat.zero_le _⟩ ?_
  refine n_bif_ne (pc := 8) (tgt := 22) dX11_isLetter_8 (by decide) (fun c => ?_) (fun c => ?_)
  · refine n_iconst (pc := 22) 1 dX11_isLetter_22 (by decide) ?_
    refine e_goto (pc := 23) (tgt := 27) dX11_isLetter_23 (by decide) ?_
    exact n_zret (pc := 27) dX11_isLetter_27 rfl rfl ⟨by unfold letV; rw [c]; rfl, rfl⟩
  · refine e_iload_n (pc := 11) dX11_isLetter_11 rfl rfl ?_
    refine n_bipush (pc := 12) 65 dX11_isLetter_12 (by decide) ?_
    refine n_bipush (pc := 14) 90 dX11_isLetter_14 (by decide) ?_
    refine n_SP (pc := 16) (c_X11_isIn v (nI 65) (nI 90)) bX11_isIn q_st_X11_isIn q_m_X11_98 dX11_isLetter_16 rfl rfl (by exact Nat.le_of_ble_eq_true rfl) ⟨by decide, by decide⟩ ⟨rfl, rfl, Nat.zero_le _, Nat.zero_le _⟩ ?_
    refine n_bif_eq (pc := 19) (tgt := 26) dX11_isLetter_19 (by decide) (fun c2 => ?_) (fun c2 => ?_)
    · refine n_iconst (pc := 26) 0 dX11_isLetter_26 (by decide) ?_
      exact n_zret (pc := 27) dX11_isLetter_27 rfl rfl ⟨by unfold letV; rw [c, c2]; rfl, rfl⟩
    · refine n_iconst (pc := 22) 1 dX11_isLetter_22 (by decide) ?_
      refine e_goto (pc := 23) (tgt := 27) dX11_isLetter_23 (by decide) ?_
      exact n_zret (pc := 27) dX11_isLetter_27 rfl rfl ⟨by unfold letV; rw [c, c2]; rfl, rfl⟩
theorem c_X11_isDigit (v : Int32) : CP yX11_isDigit MX11_isDigit [.int v] h (bI (digV v)) := by
  refine CI.ofV (by decide) rfl rfl (by simp [Value.category]) (by exact Nat.le_of_ble_eq_true rfl) (fun sz => ?_)
  refine e_iload_n (pc := 0) dX11_isDigit_0 rfl rfl ?_
  refine n_bipush (pc := 1) 48 dX11_isDigit_1 (by decide) ?_
  refine n_bipush (pc := 3) 57 dX11_isDigit_3 (by decide) ?_
  refine n_SP (pc := 5) (c_X11_isIn v (nI 48) (nI 57)) bX11_isIn q_st_X11_isIn q_m_X11_98 dX11_isDigit_5 rfl rfl (by exact Nat.le_of_ble_eq_true rfl) ⟨by decide, by decide⟩ ⟨rfl, rfl, Nat.zero_le _, Nat.zero_le _⟩ ?_
  exact n_zret (pc := 8) dX11_isDigit_8 rfl (bI_nar _) ⟨rfl, rfl⟩
theorem l_is0 {G : en_G} {sz i k : Nat} (hi5 : i < 5) (hk : k ≤ 5) {Q : Prop} (hQ : ¬ Q) : VT G MX11_is (PI sz (fun z h' => isB z Q ∧ h' = h)) (sz, 0, 0) h 24 [some (.ref m), some (.ref (G.2.2.1 i)), some (.int (nI 0)), some (.int (nI k))] [] := by
  obtain ⟨a1, a2, a3⟩ := tx_ok i hi5
  refine te_iload_n (pc := 24) dX11_is_24 rfl rfl ?_
  refine te_aload_n (pc := 25) dX11_is_25 rfl rfl ?_
  refine tn_Vs (pc := 26) (c_J0_length hi5) bJ0_length_8abf5 q_i_J0_length_8abf5 q_s_J0_length_8abf5 q_m_X11_166 dX11_is_26 rfl rfl hi5 rfl (by exact Nat.le_of_ble_eq_true rfl) ⟨by decide, by decide⟩ ⟨rfl, rfl, Nat.zero_le _, Nat.zero_le _⟩ (fun x h2 hp => ?_)
  obtain ⟨rfl, rfl⟩ := hp
  refine tn_icmp_ge (pc := 29) (tgt := 67) dX11_is_29 (by decide) (by omega) (by omega) (fun c => ?_) (fun c => ?_)
  · refine te_iload_n (pc := 67) dX11_is_67 rfl rfl ?_
    exact tn_zret (pc := 68) dX11_is_68 rfl rfl ⟨Or.inr ⟨hQ, rfl⟩, rfl⟩
  · refine te_iload_n (pc := 32) dX11_is_32 rfl rfl ?_
    refine tn_if_eq (pc := 33) (tgt := 67) dX11_is_33 (by decide) (by omega) (fun hb_ => ?_) (fun c => absurd c (by omega))
    refine te_iload_n (pc := 67) dX11_is_67 rfl rfl ?_
    exact tn_zret (pc := 68) dX11_is_68 rfl rfl ⟨Or.inr ⟨hQ, rfl⟩, rfl⟩
theorem l_is {G : en_G} {sz e i : Nat} (hi5 : i < 5) (hM : MH h m p n q s) (hT : TpM h m f len) (hb : s.2.2.2.2.1 ≤ e) (he : e ≤ len) (hl : e - s.2.2.2.2.1 = lw_len.getD i 0) :
    ∀ (t k : Nat), t = lw_len.getD i 0 - k → k ≤ lw_len.getD i 0 → (∀ t, t < k → f (s.2.2.2.2.1 + t) = wn i t) → VT G MX11_is (PI sz (fun z h' => isB z (isW f s.2.2.2.2.1 e i) ∧ h' = h)) (sz, 0, 0) h 24 [some (.ref m), some (.ref (G.2.2.1 i)), some (.int (nI 1)), some (.int (nI k))] [] := by
  obtain ⟨l6, g, g1, g2⟩ := id hT
  obtain ⟨a1, a2, a3⟩ := tx_ok i hi5
  have hM0 : h m = some (ob 10 (mfs m p n q s)) := hM
  intro t
  induction t with
  | zero =>
    intro k e1 e2 hk
    have e' : k = lw_len.getD i 0 := by omega
    refine te_iload_n (pc := 24) dX11_is_24 rfl rfl ?_
    refine te_aload_n (pc := 25) dX11_is_25 rfl rfl ?_
    refine tn_Vs (pc := 26) (c_J0_length hi5) bJ0_length_8abf5 q_i_J0_length_8abf5 q_s_J0_length_8abf5 q_m_X11_166 dX11_is_26 rfl rfl hi5 rfl (by exact Nat.le_of_ble_eq_true rfl) ⟨by decide, by decide⟩ ⟨rfl, rfl, Nat.zero_le _, Nat.zero_le _⟩ (fun x h2 hp => ?_)
    obtain ⟨rfl, rfl⟩ := hp
    refine tn_icmp_ge (pc := 29) (tgt := 67) dX11_is_29 (by decide) (by omega) (by omega) (fun hb_ => ?_) (fun c => absurd c (by omega))
    refine te_iload_n (pc := 67) dX11_is_67 rfl rfl ?_
    exact tn_zret (pc := 68) dX11_is_68 rfl rfl ⟨Or.inl ⟨⟨by omega, fun t ht => hk t (by omega)⟩, rfl⟩, rfl⟩
  | succ t ih =>
    intro k e1 e2 hk
    have hk2 : k < lw_len.getD i 0 := by omega
    obtain ⟨t2, t3⟩ := g2 (s.2.2.2.2.1 + k) (by omega)
    obtain ⟨w1, w2⟩ := wn_ok i hi5 k hk2
    refine te_iload_n (pc := 24) dX11_is_24 rfl rfl ?_
    refine te_aload_n (pc := 25) dX11_is_25 rfl rfl ?_
    refine tn_Vs (pc := 26) (c_J0_length hi5) bJ0_length_8abf5 q_i_J0_length_8abf5 q_s_J0_length_8abf5 q_m_X11_166 dX11_is_26 rfl rfl hi5 rfl (by exact Nat.le_of_ble_eq_true rfl) ⟨by decide, by decide⟩ ⟨rfl, rfl, Nat.zero_le _, Nat.zero_le _⟩ (fun x h2 hp => ?_)
    obtain ⟨rfl, rfl⟩ := hp
    refine tn_icmp_ge (pc := 29) (tgt := 67) dX11_is_29 (by decide) (by omega) (by omega) (fun c => absurd c (by omega)) (fun hb_ => ?_)
    refine te_iload_n (pc := 32) dX11_is_32 rfl rfl ?_
    refine tn_if_eq (pc := 33) (tgt := 67) dX11_is_33 (by decide) (by omega) (fun c => absurd c (by omega)) (fun hb_ => ?_)
    refine te_aload_n (pc := 36) dX11_is_36 rfl rfl ?_
    refine te_get (pc := 37) fl_X11_34 dX11_is_37 (by repeat (first | assumption | exact hset_eq _ _ _ | (apply Lay.hd; assumption) | rw [hset_ne _ _ (by omega)])) (by rfl) ?_
    refine te_aload_n (pc := 40) dX11_is_40 rfl rfl ?_
    refine te_get (pc := 41) fl_X11_163 dX11_is_41 (by repeat (first | assumption | exact hset_eq _ _ _ | (apply Lay.hd; assumption) | rw [hset_ne _ _ (by omega)])) (by rfl) ?_
    refine te_iload_n (pc := 44) dX11_is_44 rfl rfl ?_
    refine tn_iadd (pc := 45) dX11_is_45 ?_
    refine te_ialdN (pc := 46) (s.2.2.2.2.1 + k) dX11_is_46 (by repeat (first | assumption | exact hset_eq _ _ _ | (apply Lay.hd; assumption) | rw [hset_ne _ _ (by omega)])) (by rfl) (by omega) (by first | decide | omega) ?_
    rw [t2]
    refine te_aload_n (pc := 47) dX11_is_47 rfl rfl ?_
    refine te_iload_n (pc := 48) dX11_is_48 rfl rfl ?_
    refine tn_Vs (pc := 49) (c_J0_charAt hi5 hk2) bJ0_charAt_5068e q_i_J0_charAt_5068e q_s_J0_charAt_5068e q_m_X11_172 dX11_is_49 rfl rfl hi5 rfl (by exact Nat.le_of_ble_eq_true rfl) ⟨by decide, by decide⟩ ⟨rfl, rfl, Nat.zero_le _, Nat.zero_le _⟩ (fun x h2 hp => ?_)
    obtain ⟨rfl, rfl⟩ := hp
    rw [w1]
    refine tn_icmp_ne (pc := 52) (tgt := 59) dX11_is_52 (by decide) (by omega) (by omega) (fun c => ?_) (fun c => ?_)
    · refine tn_iconst (pc := 59) 0 dX11_is_59 (by decide) ?_
      refine te_istore_n (pc := 60) dX11_is_60 rfl (by decide) ?_
      refine tn_inc (pc := 61) dX11_is_61 rfl (by decide) ?_
      refine te_goto (pc := 64) (tgt := 24) dX11_is_64 (by decide) ?_
      exact l_is0 hi5 (by omega) (fun z => c (z.2 k hk2))
    · refine tn_iconst (pc := 55) 1 dX11_is_55 (by decide) ?_
      refine te_goto (pc := 56) (tgt := 60) dX11_is_56 (by decide) ?_
      refine te_istore_n (pc := 60) dX11_is_60 rfl (by decide) ?_
      refine tn_inc (pc := 61) dX11_is_61 rfl (by decide) ?_
      refine te_goto (pc := 64) (tgt := 24) dX11_is_64 (by decide) ?_
      refine ih (k + 1) (by omega) (by omega) (fun t ht => ?_)
      by_cases q : t = k
      · subst q; exact c
      · exact hk t (by omega)
theorem c_X11_is {G : en_G} {e i : Nat} (hi5 : i < 5) (hM : MH h m p n q s) (hT : TpM h m f len) (hat : s.2.2.1 = e) (hb : s.2.2.2.2.1 ≤ e) (he : e ≤ len) : CIT G yX11_is MX11_is [.ref m, .ref (G.2.2.1 i)] h (fun z h' => isB z (isW f s.2.2.2.2.1 e i) ∧ h' = h) := by
  obtain ⟨l6, -⟩ := id hT
  obtain ⟨a1, a2, a3⟩ := tx_ok i hi5
  have hM0 : h m = some (ob 10 (mfs m p n q s)) := hM
  have hb1 : s.2.2.2.2.1 ≤ s.2.2.1 := by omega
  refine CIT.ofVT (by decide) rfl rfl (by simp [Value.category]) (by exact Nat.le_of_ble_eq_true rfl) (fun sz => ?_)
  refine te_aload_n (pc := 0) dX11_is_0 rfl rfl ?_
  refine te_get (pc := 1) fl_X11_160 dX11_is_1 (by repeat (first | assumption | exact hset_eq _ _ _ | (apply Lay.hd; assumption) | rw [hset_ne _ _ (by omega)])) (by rfl) ?_
  refine te_aload_n (pc := 4) dX11_is_4 rfl rfl ?_
  refine te_get (pc := 5) fl_X11_163 dX11_is_5 (by repeat (first | assumption | exact hset_eq _ _ _ | (apply Lay.hd; assumption) | rw [hset_ne _ _ (by omega)])) (by rfl) ?_
  refine tn_isub (pc := 8) dX11_is_8 hb1 ?_
  refine te_aload_n (pc := 9) dX11_is_9 rfl rfl ?_
  refine tn_Vs (pc := 10) (c_J0_length hi5) bJ0_length_8abf5 q_i_J0_length_8abf5 q_s_J0_length_8abf5 q_m_X11_166 dX11_is_10 rfl rfl hi5 rfl (by exact Nat.le_of_ble_eq_true rfl) ⟨by decide, by decide⟩ ⟨rfl, rfl, Nat.zero_le _, Nat.zero_le _⟩ (fun x h2 hp => ?_)
  obtain ⟨rfl, rfl⟩ := hp
  rw [hat]
  refine tn_icmp_ne (pc := 13) (tgt := 20) dX11_is_13 (by decide) (by omega) (by omega) (fun c => ?_) (fun c => ?_)
  · refine tn_iconst (pc := 20) 0 dX11_is_20 (by decide) ?_
    refine te_istore_n (pc := 21) dX11_is_21 rfl (by decide) ?_
    refine tn_iconst (pc := 22) 0 dX11_is_22 (by decide) ?_
    refine te_istore_n (pc := 23) dX11_is_23 rfl (by decide) ?_
    exact l_is0 hi5 (by decide) (fun z => c (by have := z.1; omega))
  · refine tn_iconst (pc := 16) 1 dX11_is_16 (by decide) ?_
    refine te_goto (pc := 17) (tgt := 21) dX11_is_17 (by decide) ?_
    refine te_istore_n (pc := 21) dX11_is_21 rfl (by decide) ?_
    refine tn_iconst (pc := 22) 0 dX11_is_22 (by decide) ?_
    refine te_istore_n (pc := 23) dX11_is_23 rfl (by decide) ?_
    exact l_is hi5 hM hT hb he c (lw_len.getD i 0) 0 rfl (Nat.zero_le _) (fun t ht => absurd ht (Nat.not_lt_zero t))
noncomputable def wdV (f : Nat → Nat) (a e : Nat) : Nat := if bl (isW f a e 0) = true then 4 else if bl (isW f a e 2) = true then 5 else if bl (isW f a e 1) = true then 6 else if bl (isW f a e 3) = true then 7 else if bl (isW f a e 4) = true then 8 else 1
theorem c_X11_word {e : Nat} (hM : MH h m p n q s) (hT : TpM h m f len) (hat : s.2.2.1 = e) (hb : s.2.2.2.2.1 ≤ e) (he : e ≤ len) : CP yX11_word MX11_word [.ref m] h (nI (wdV f s.2.2.2.2.1 e)) := by
  have hM0 : h m = some (ob 10 (mfs m p n q s)) := hM
  unfold wdV
  refine CI.ofV (by decide) rfl rfl (by simp [Value.category]) (by exact Nat.le_of_ble_eq_true rfl) (fun sz => ?_)
  refine e_aload_n (pc := 0) dX11_word_0 rfl rfl ?_
  refine n_ldcV (i := 0) (tx := "order") (pc := 1) (by decide) dX11_word_1 (fun G => c_X11_is (i := 0) (by decide) hM hT hat hb he) bX11_is q_i_X11_is q_s_X11_is q_m_X11_178 dX11_word_3 (by assumption) rfl rfl (by exact Nat.le_of_ble_eq_true rfl) ⟨by decide, by decide⟩ ⟨rfl, rfl, Nat.zero_le _, Nat.zero_le _⟩ (fun z h2 hp => ?_)
  obtain ⟨hz, rfl⟩ := hp
  rw [isB_bl hz]
  refine n_bif_eq (pc := 6) (tgt := 11) dX11_word_6 (by decide) (fun c0 => ?_) (fun c0 => ?_)
  rotate_left
  · refine n_iconst (pc := 9) 4 dX11_word_9 (by decide) ?_
    exact n_iret (pc := 10) dX11_word_10 rfl ⟨by rw [if_pos c0], rfl⟩
  rw [if_neg (by rw [c0]; decide)]
  refine e_aload_n (pc := 11) dX11_word_11 rfl rfl ?_
  refine n_ldcV (i := 2) (tx := "field") (pc := 12) (by decide) dX11_word_12 (fun G => c_X11_is (i := 2) (by decide) hM hT hat hb he) bX11_is q_i_X11_is q_s_X11_is q_m_X11_178 dX11_word_14 (by assumption) rfl rfl (by exact Nat.le_of_ble_eq_true rfl) ⟨by decide, by decide⟩ ⟨rfl, rfl, Nat.zero_le _, Nat.zero_le _⟩ (fun z h2 hp => ?_)
  obtain ⟨hz, rfl⟩ := hp
  rw [isB_bl hz]
  refine n_bif_eq (pc := 17) (tgt := 22) dX11_word_17 (by decide) (fun c2 => ?_) (fun c2 => ?_)
  rotate_left
  · refine n_iconst (pc := 20) 5 dX11_word_20 (by decide) ?_
    exact n_iret (pc := 21) dX11_word_21 rfl ⟨by rw [if_pos c2], rfl⟩
  rw [if_neg (by rw [c2]; decide)]
  refine e_aload_n (pc := 22) dX11_word_22 rfl rfl ?_
  refine n_ldcV (i := 1) (tx := "twist") (pc := 23) (by decide) dX11_word_23 (fun G => c_X11_is (i := 1) (by decide) hM hT hat hb he) bX11_is q_i_X11_is q_s_X11_is q_m_X11_178 dX11_word_25 (by assumption) rfl rfl (by exact Nat.le_of_ble_eq_true rfl) ⟨by decide, by decide⟩ ⟨rfl, rfl, Nat.zero_le _, Nat.zero_le _⟩ (fun z h2 hp => ?_)
  obtain ⟨hz, rfl⟩ := hp
  rw [isB_bl hz]
  refine n_bif_eq (pc := 28) (tgt := 34) dX11_word_28 (by decide) (fun c1 => ?_) (fun c1 => ?_)
  rotate_left
  · refine n_bipush (pc := 31) 6 dX11_word_31 (by decide) ?_
    exact n_iret (pc := 33) dX11_word_33 rfl ⟨by rw [if_pos c1], rfl⟩
  rw [if_neg (by rw [c1]; decide)]
  refine e_aload_n (pc := 34) dX11_word_34 rfl rfl ?_
  refine n_ldcV (i := 3) (tx := "at") (pc := 35) (by decide) dX11_word_35 (fun G => c_X11_is (i := 3) (by decide) hM hT hat hb he) bX11_is q_i_X11_is q_s_X11_is q_m_X11_178 dX11_word_37 (by assumption) rfl rfl (by exact Nat.le_of_ble_eq_true rfl) ⟨by decide, by decide⟩ ⟨rfl, rfl, Nat.zero_le _, Nat.zero_le _⟩ (fun z h2 hp => ?_)
  obtain ⟨hz, rfl⟩ := hp
  rw [isB_bl hz]
  refine n_bif_eq (pc := 40) (tgt := 46) dX11_word_40 (by decide) (fun c3 => ?_) (fun c3 => ?_)
  rotate_left
  · refine n_bipush (pc := 43) 7 dX11_word_43 (by decide) ?_
    exact n_iret (pc := 45) dX11_word_45 rfl ⟨by rw [if_pos c3], rfl⟩
  rw [if_neg (by rw [c3]; decide)]
  refine e_aload_n (pc := 46) dX11_word_46 rfl rfl ?_
  refine n_ldcV (i := 4) (tx := "turn") (pc := 47) (by decide) dX11_word_47 (fun G => c_X11_is (i := 4) (by decide) hM hT hat hb he) bX11_is q_i_X11_is q_s_X11_is q_m_X11_178 dX11_word_49 (by assumption) rfl rfl (by exact Nat.le_of_ble_eq_true rfl) ⟨by decide, by decide⟩ ⟨rfl, rfl, Nat.zero_le _, Nat.zero_le _⟩ (fun z h2 hp => ?_)
  obtain ⟨hz, rfl⟩ := hp
  rw [isB_bl hz]
  refine n_bif_eq (pc := 52) (tgt := 60) dX11_word_52 (by decide) (fun c4 => ?_) (fun c4 => ?_)
  · refine n_iconst (pc := 60) 1 dX11_word_60 (by decide) ?_
    exact n_iret (pc := 61) dX11_word_61 rfl ⟨by rw [if_neg (by rw [c4]; decide)], rfl⟩
  · refine n_bipush (pc := 55) 8 dX11_word_55 (by decide) ?_
    refine e_goto (pc := 57) (tgt := 61) dX11_word_57 (by decide) ?_
    exact n_iret (pc := 61) dX11_word_61 rfl ⟨by rw [if_pos c4], rfl⟩
end TO
