/-! ===== Study: units, quotients, idempotents, squares, powers ===== -/
theorem sb_zero {p n x y : Nat} (hp : 1 < p) (hn : n ≤ 5) (hx : x < p ^ n) (hy : y < p ^ n) : sb p x y = 0 ↔ x = y := by
  have hp0 : 0 < p := by omega
  have key : ∀ i, i < 5 → dg p (sb p x y) i = (dg p x i + (p - 1) * dg p y i) % p := fun i hi => by
    unfold sb
    rw [ad_dg hp0 hi, mf_dg hp0 hi, Nat.add_mod_mod]
  have arith : ∀ a b, a < p → b < p → ((a + (p - 1) * b) % p = 0 ↔ a = b) := fun a b ha hb => by
    by_cases hb0 : b = 0
    · subst hb0
      rw [Nat.mul_zero, Nat.add_zero, Nat.mod_eq_of_lt ha]
    · have e : a + (p - 1) * b = a + (p - b) + p * (b - 1) := by
        rw [Nat.sub_mul, Nat.one_mul]
        have h1 : p * b = p * (b - 1) + p := by
          rw [← Nat.mul_succ]
          congr 1
          omega
        have h2 : b ≤ p * b := Nat.le_mul_of_pos_left b hp0
        omega
      rw [e, Nat.add_mul_mod_self_left]
      constructor
      · intro q
        by_cases c : b ≤ a
        · rw [show a + (p - b) = (a - b) + p by omega, Nat.add_mod_right, Nat.mod_eq_of_lt (by omega)] at q
          omega
        · rw [Nat.mod_eq_of_lt (by omega)] at q
          omega
      · intro q
        subst q
        rw [Nat.add_sub_cancel' (by omega), Nat.mod_self]
  constructor
  · intro e
    refine num_ext hx hy (fun i hi => ?_)
    have h1 := key i (by omega)
    rw [e, dg_0] at h1
    exact (arith _ _ (dg_lt hp0 x i) (dg_lt hp0 y i)).mp h1.symm
  · intro e
    subst e
    refine num_ext (p := p) (n := 5) (Nat.lt_of_lt_of_le (sb_lt hp0 hn hx hx) (Nat.pow_le_pow_right hp0 hn)) (Nat.pow_pos hp0) (fun i hi => ?_)
    rw [key i hi, dg_0]
    exact (arith _ _ (dg_lt hp0 x i) (dg_lt hp0 x i)).mpr rfl
def isU (W : Wd) (e : Nat) : Prop := ∀ i, i < W.2.1 → mul W e (W.1 ^ i) = W.1 ^ i ∧ mul W (W.1 ^ i) e = W.1 ^ i
def UnitOf (W : Wd) (z : Int32) : Prop := (∃ e, z = nI e ∧ 0 < e ∧ e < W.1 ^ W.2.1 ∧ isU W e ∧ ∀ a, 0 < a → a < e → ¬ isU W a) ∨ (z = -1 ∧ ∀ a, 0 < a → a < W.1 ^ W.2.1 → ¬ isU W a)
theorem pow_q {W : Wd} (hk : Wok W) {i : Nat} (hi : i < W.2.1) : W.1 ^ i < W.1 ^ W.2.1 := Nat.pow_lt_pow_right (by have := hk.b; omega) hi
/-- nothing changed but a world's sums, the bases and the table -/
def Ft (E o : Nat) (h h' : AH) : Prop := ∀ a, a ≠ o + 2 → a ≠ E + 84 → a ≠ E + 87 → h' a = h a
theorem Ft.rf (E o : Nat) (h : AH) : Ft E o h h := fun _ _ _ _ => rfl
theorem Ft.tr {E o : Nat} {h h1 h2 : AH} (a : Ft E o h h1) (b : Ft E o h1 h2) : Ft E o h h2 := fun q x y z => (b q x y z).trans (a q x y z)
theorem Es.ft {E o : Nat} {h h1 : AH} (e : Es o h h1) : Ft E o h h1 := fun a x _ _ => e a x
theorem Ft.fr {E o : Nat} {h h1 : AH} (e : Ft E o h h1) : Fr E o h h1 := fun a p _ _ x => e a x (by omega) (by omega)
theorem Ft.set {E o a : Nat} {x : AE} {h h1 : AH} (e : Ft E o h h1) (ha : a = E + 84 ∨ a = E + 87) : Ft E o h (hset h1 a x) := fun q p1 p2 p3 => by
  rw [hset_ne _ _ (by omega)]
  exact e q p1 p2 p3
section SU
variable {h : AH} {E o : Nat} {W : Wd} {f : Int32}
theorem l_isUnit {sz e T : Nat} {hh : AH} (hk : Wok W) (he0 : e < W.1 ^ W.2.1) :
    ∀ (n i : Nat), n = W.2.1 - i → i ≤ W.2.1 → ∀ h1, WAt h1 o W f → Es o hh h1 → (∀ j, j < i → mul W e (W.1 ^ j) = W.1 ^ j ∧ mul W (W.1 ^ j) e = W.1 ^ j) → VI MX7_isUnit sz (fun z h' => isB z (isU W e) ∧ WAt h' o W f ∧ Es o hh h') h1 2 [some (.ref T), some (.ref o), some (.int (nI e)), some (.int (nI i)), none] [] := by
  obtain ⟨b1, b2, b3, b4, b5⟩ := hk.b
  intro n
  induction n with
  | zero =>
    intro i e1 e2 h1 hW he hr
    have e' : i = W.2.1 := by omega
    subst e'
    obtain ⟨w0, -, -⟩ := id hW
    refine e_iload_n (pc := 2) dX7_isUnit_2 rfl rfl ?_
    refine e_aload_n (pc := 3) dX7_isUnit_3 rfl rfl ?_
    refine n_VP (pc := 4) (c_X9_size hW) bX9_size q_i_X9_size q_s_X9_size q_m_X7_70 dX7_isUnit_4 rfl rfl (by repeat (first | assumption | exact hset_eq _ _ _ | rw [hset_ne _ _ (by omega)])) rfl rfl (by exact Nat.le_of_ble_eq_true rfl) ⟨by decide, by decide⟩ ⟨rfl, rfl, Nat.zero_le _, Nat.zero_le _⟩ ?_
    refine n_icmp_ge (pc := 7) (tgt := 49) dX7_isUnit_7 (by decide) (by omega) (by omega) (fun hb_ => ?_) (fun c => absurd c (by omega))
    refine n_iconst (pc := 49) 1 dX7_isUnit_49 (by decide) ?_
    exact n_zret (pc := 50) dX7_isUnit_50 rfl rfl ⟨Or.inl ⟨hr, rfl⟩, hW, he⟩
  | succ n ih =>
    intro i e1 e2 h1 hW he hr
    obtain ⟨w0, -, -⟩ := id hW
    have q1 := pow_q hk (show i < W.2.1 by omega)
    have m1 := mul_lt hk e (W.1 ^ i)
    have m2 := mul_lt hk (W.1 ^ i) e
    refine e_iload_n (pc := 2) dX7_isUnit_2 rfl rfl ?_
    refine e_aload_n (pc := 3) dX7_isUnit_3 rfl rfl ?_
    refine n_VP (pc := 4) (c_X9_size hW) bX9_size q_i_X9_size q_s_X9_size q_m_X7_70 dX7_isUnit_4 rfl rfl (by repeat (first | assumption | exact hset_eq _ _ _ | rw [hset_ne _ _ (by omega)])) rfl rfl (by exact Nat.le_of_ble_eq_true rfl) ⟨by decide, by decide⟩ ⟨rfl, rfl, Nat.zero_le _, Nat.zero_le _⟩ ?_
    refine n_icmp_ge (pc := 7) (tgt := 49) dX7_isUnit_7 (by decide) (by omega) (by omega) (fun c => absurd c (by omega)) (fun hb_ => ?_)
    refine e_aload_n (pc := 10) dX7_isUnit_10 rfl rfl ?_
    refine e_iload_n (pc := 11) dX7_isUnit_11 rfl rfl ?_
    refine n_VP (pc := 12) (c_X9_base hW hk (show i ≤ 5 by omega)) bX9_base q_i_X9_base q_s_X9_base q_m_X7_73 dX7_isUnit_12 rfl rfl (by repeat (first | assumption | exact hset_eq _ _ _ | rw [hset_ne _ _ (by omega)])) rfl rfl (by exact Nat.le_of_ble_eq_true rfl) ⟨by decide, by decide⟩ ⟨rfl, rfl, Nat.zero_le _, Nat.zero_le _⟩ ?_
    refine e_istore (pc := 15) dX7_isUnit_15 (by decide) ?_
    refine e_aload_n (pc := 17) dX7_isUnit_17 rfl rfl ?_
    refine e_iload_n (pc := 18) dX7_isUnit_18 rfl rfl ?_
    refine e_iload (pc := 19) dX7_isUnit_19 rfl ?_
    refine n_V (pc := 21) (c_X9_times2 hW hk (by omega) (by omega)) bX9_times q_i_X9_times q_s_X9_times q_m_X7_62 dX7_isUnit_21 rfl rfl (by repeat (first | assumption | exact hset_eq _ _ _ | rw [hset_ne _ _ (by omega)])) rfl rfl (by exact Nat.le_of_ble_eq_true rfl) ⟨by decide, by decide⟩ ⟨rfl, rfl, Nat.zero_le _, Nat.zero_le _⟩ (fun x h2 hp => ?_)
    obtain ⟨rfl, p1, p2⟩ := hp
    obtain ⟨w0, -, -⟩ := id p1
    refine e_iload (pc := 24) dX7_isUnit_24 rfl ?_
    refine n_icmp_ne (pc := 26) (tgt := 41) dX7_isUnit_26 (by decide) (by omega) (by omega) (fun hn1 => ?_) (fun hn1 => ?_)
    · refine n_iconst (pc := 41) 0 dX7_isUnit_41 (by decide) ?_
      exact n_zret (pc := 42) dX7_isUnit_42 rfl rfl ⟨Or.inr ⟨fun q => hn1 (q i (by omega)).1, rfl⟩, p1, he.tr p2⟩
    · refine e_aload_n (pc := 29) dX7_isUnit_29 rfl rfl ?_
      refine e_iload (pc := 30) dX7_isUnit_30 rfl ?_
      refine e_iload_n (pc := 32) dX7_isUnit_32 rfl rfl ?_
      refine n_V (pc := 33) (c_X9_times2 p1 hk (by omega) (by omega)) bX9_times q_i_X9_times q_s_X9_times q_m_X7_62 dX7_isUnit_33 rfl rfl (by assumption) rfl rfl (by exact Nat.le_of_ble_eq_true rfl) ⟨by decide, by decide⟩ ⟨rfl, rfl, Nat.zero_le _, Nat.zero_le _⟩ (fun x h3 hp => ?_)
      obtain ⟨rfl, p3, p4⟩ := hp
      refine e_iload (pc := 36) dX7_isUnit_36 rfl ?_
      refine n_icmp_eq (pc := 38) (tgt := 43) dX7_isUnit_38 (by decide) (by omega) (by omega) (fun hn2 => ?_) (fun hn2 => ?_)
      · refine n_inc (pc := 43) dX7_isUnit_43 rfl (by decide) ?_
        refine e_goto (pc := 46) (tgt := 2) dX7_isUnit_46 (by decide) ?_
        refine V.mask [true, true, true, true, false] ?_
        refine ih (i + 1) (by omega) (by omega) h3 p3 (he.tr (p2.tr p4)) (fun j hj => ?_)
        by_cases c : j = i
        · subst c; exact ⟨hn1, hn2⟩
        · exact hr j (by omega)
      · refine n_iconst (pc := 41) 0 dX7_isUnit_41 (by decide) ?_
        exact n_zret (pc := 42) dX7_isUnit_42 rfl rfl ⟨Or.inr ⟨fun q => hn2 (q i (by omega)).2, rfl⟩, p3, he.tr (p2.tr p4)⟩
theorem c_X7_isUnit {e T : Nat} (hW : WAt h o W f) (hk : Wok W) (he : e < W.1 ^ W.2.1) : CI yX7_isUnit MX7_isUnit [.ref T, .ref o, .int (nI e)] h (fun z h' => isB z (isU W e) ∧ WAt h' o W f ∧ Es o h h') := by
  refine CI.ofV (by decide) rfl rfl (by simp [Value.category]) (by exact Nat.le_of_ble_eq_true rfl) (fun sz => ?_)
  refine n_iconst (pc := 0) 0 dX7_isUnit_0 (by decide) ?_
  refine e_istore_n (pc := 1) dX7_isUnit_1 rfl (by decide) ?_
  exact l_isUnit hk he W.2.1 0 rfl (by omega) h hW (Es.rf o h) (fun j hj => absurd hj (Nat.not_lt_zero j))
theorem l_unit {sz : Nat} {hh : AH} (hk : Wok W) (d : o + 3 ≤ E ∨ E + 89 ≤ o) :
    ∀ (n e : Nat), n = W.1 ^ W.2.1 - e → 1 ≤ e → e ≤ W.1 ^ W.2.1 → ∀ h1, TSh h1 E → WAt h1 o W f → Es o hh h1 → (∀ a, 0 < a → a < e → ¬ isU W a) → VI MX7_unit sz (fun z h' => UnitOf W z ∧ WAt h' o W f ∧ Es o hh h') h1 2 [some (.ref (E + 83)), some (.ref o), some (.int (nI e))] [] := by
  obtain ⟨b1, b2, b3, b4, b5⟩ := hk.b
  intro n
  induction n with
  | zero =>
    intro e e1 e2 e3 h1 hT hW he hr
    have e' : e = W.1 ^ W.2.1 := by omega
    subst e'
    obtain ⟨w0, -, -⟩ := id hW
    refine e_iload_n (pc := 2) dX7_unit_2 rfl rfl ?_
    refine e_aload_n (pc := 3) dX7_unit_3 rfl rfl ?_
    refine n_VP (pc := 4) (c_X9_order hW) bX9_order q_i_X9_order q_s_X9_order q_m_X7_52 dX7_unit_4 rfl rfl (by repeat (first | assumption | exact hset_eq _ _ _ | rw [hset_ne _ _ (by omega)])) rfl rfl (by exact Nat.le_of_ble_eq_true rfl) ⟨by decide, by decide⟩ ⟨rfl, rfl, Nat.zero_le _, Nat.zero_le _⟩ ?_
    refine n_icmp_ge (pc := 7) (tgt := 27) dX7_unit_7 (by decide) (by omega) (by omega) (fun hb_ => ?_) (fun c => absurd c (by omega))
    refine e_iconst (pc := 27) (v := -1) dX7_unit_27 (by decide) ?_
    exact n_iret (pc := 28) dX7_unit_28 rfl ⟨Or.inr ⟨rfl, hr⟩, hW, he⟩
  | succ n ih =>
    intro e e1 e2 e3 h1 hT hW he hr
    obtain ⟨w0, -, -⟩ := id hW
    obtain ⟨-, t0, -⟩ := id hT
    refine e_iload_n (pc := 2) dX7_unit_2 rfl rfl ?_
    refine e_aload_n (pc := 3) dX7_unit_3 rfl rfl ?_
    refine n_VP (pc := 4) (c_X9_order hW) bX9_order q_i_X9_order q_s_X9_order q_m_X7_52 dX7_unit_4 rfl rfl (by repeat (first | assumption | exact hset_eq _ _ _ | rw [hset_ne _ _ (by omega)])) rfl rfl (by exact Nat.le_of_ble_eq_true rfl) ⟨by decide, by decide⟩ ⟨rfl, rfl, Nat.zero_le _, Nat.zero_le _⟩ ?_
    refine n_icmp_ge (pc := 7) (tgt := 27) dX7_unit_7 (by decide) (by omega) (by omega) (fun c => absurd c (by omega)) (fun hb_ => ?_)
    refine e_aload_n (pc := 10) dX7_unit_10 rfl rfl ?_
    refine e_aload_n (pc := 11) dX7_unit_11 rfl rfl ?_
    refine e_iload_n (pc := 12) dX7_unit_12 rfl rfl ?_
    refine n_V (pc := 13) (c_X7_isUnit hW hk hb_) bX7_isUnit q_i_X7_isUnit q_s_X7_isUnit q_m_X7_66 dX7_unit_13 rfl rfl (by repeat (first | assumption | exact hset_eq _ _ _ | rw [hset_ne _ _ (by omega)])) rfl rfl (by exact Nat.le_of_ble_eq_true rfl) ⟨by decide, by decide⟩ ⟨rfl, rfl, Nat.zero_le _, Nat.zero_le _⟩ (fun x h2 hp => ?_)
    obtain ⟨p0, p1, p2⟩ := hp
    rcases p0 with ⟨hu, rfl⟩ | ⟨hu, rfl⟩
    · refine e_if_eq (pc := 16) (tgt := 21) dX7_unit_16 (by decide) (fun q => absurd q (by decide)) (fun _ => ?_)
      refine e_iload_n (pc := 19) dX7_unit_19 rfl rfl ?_
      exact n_iret (pc := 20) dX7_unit_20 rfl ⟨Or.inl ⟨e, rfl, by omega, hb_, hu, hr⟩, p1, he.tr p2⟩
    · refine e_if_eq (pc := 16) (tgt := 21) dX7_unit_16 (by decide) (fun _ => ?_) (fun q => absurd rfl q)
      refine n_inc (pc := 21) dX7_unit_21 rfl (by decide) ?_
      refine e_goto (pc := 24) (tgt := 2) dX7_unit_24 (by decide) ?_
      refine ih (e + 1) (by omega) (by omega) (by omega) h2 (hT.es p2 d) p1 (he.tr p2) (fun a a0 a1 => ?_)
      by_cases c : a = e
      · subst c; exact hu
      · exact hr a a0 (by omega)
theorem c_X7_unit (hT : TSh h E) (hW : WAt h o W f) (hk : Wok W) (d : o + 3 ≤ E ∨ E + 89 ≤ o) : CI yX7_unit MX7_unit [.ref (E + 83), .ref o] h (fun z h' => UnitOf W z ∧ WAt h' o W f ∧ Es o h h') := by
  refine CI.ofV (by decide) rfl rfl (by simp [Value.category]) (by exact Nat.le_of_ble_eq_true rfl) (fun sz => ?_)
  refine n_iconst (pc := 0) 1 dX7_unit_0 (by decide) ?_
  refine e_istore_n (pc := 1) dX7_unit_1 rfl (by decide) ?_
  exact l_unit hk d (W.1 ^ W.2.1 - 1) 1 rfl (Nat.le_refl 1) hk.pos h hT hW (Es.rf o h) (fun a a0 a1 => by omega)
/-- x times all, or all times x -/
def side (W : Wd) (x : Nat) (left : Bool) (z : Nat) : Nat := if left = true then mul W x z else mul W z x
theorem side_lt {W : Wd} (hk : Wok W) (x : Nat) (l : Bool) (z : Nat) : side W x l z < W.1 ^ W.2.1 := by unfold side; split <;> exact mul_lt hk _ _
theorem side_lin {W : Wd} (hk : Wok W) (x : Nat) (l : Bool) (z : Nat) : side W x l z = lin W.1 W.2.1 (fun i => side W x l (W.1 ^ i)) z := by
  cases l with
  | true => exact mul_lin_r hk x z
  | false => exact mul_lin_l hk x z
/-- the least quotient; none -/
def Quo (W : Wd) (x y : Nat) (l : Bool) (z : Int32) : Prop := (∃ q, z = nI q ∧ q < W.1 ^ W.2.1 ∧ side W x l q = y ∧ ∀ a, a < q → side W x l a ≠ y) ∨ (z = -1 ∧ ∀ a, a < W.1 ^ W.2.1 → side W x l a ≠ y)
end SU
