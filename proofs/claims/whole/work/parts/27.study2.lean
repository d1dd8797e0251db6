/-! ===== Study: units, quotients, idempotents, squares, powers ===== -/
theorem sb_zero {p n x y : Nat} (hp : 1 < p) (hn : n ≤ 5) (hx : x < p ^ n) (hy : y < p ^ n) : sb p x y = 0 ↔ x = y := by
  have hp0 : 0 < p := by omega
  have key : ∀ i, i < 5 → dg p (sb p x y) i = (dg p x i + (p - 1) * dg p y i) % p := fun i hi => by
    unfold sb
    rw [ad_dg hp0 hi, mf_dg hp0 hi, Nat.add_mod_mod]
  have arith : ∀ a b, a < p → b < p → ((a + (p - 1) * b) % p = 0 ↔ a = b) := fun a b ha hb => by
    by_cases hb0 : b = 0
    · subst hb0
      rw [Nat.mul_zero, Nat.add_zero, Nat.mod_eq_of_lt ha]
    · have e : a + (p - 1) * b = a + (p - b) + p * (b - 1) := by
        rw [Nat.sub_mul, Nat.one_mul]
        have h1 : p * b = p * (b - 1) + p := by
          rw [← Nat.mul_succ]
          congr 1
          omega
        have h2 : b ≤ p * b := Nat.le_mul_of_pos_left b hp0
        omega
      rw [e, Nat.add_mul_mod_self_left]
      constructor
      · intro q
        by_cases c : b ≤ a
        · rw [show a + (p - b) = (a - b) + p by omega, Nat.add_mod_right, Nat.mod_eq_of_lt (by omega)] at q
          omega
        · rw [Nat.mod_eq_of_lt (by omega)] at q
          omega
      · intro q
        subst q
        rw [Nat.add_sub_cancel' (by omega), Nat.mod_self]
  constructor
  · intro e
    refine num_ext hx hy (fun i hi => ?_)
    have h1 := key i (by omega)
    rw [e, dg_0] at h1
    exact (arith _ _ (dg_lt hp0 x i) (dg_lt hp0 y i)).mp h1.symm
  · intro e
    subst e
    refine num_ext (p := p) (n := 5) (Nat.lt_of_lt_of_le (sb_lt hp0 hn hx hx) (Nat.pow_le_pow_right hp0 hn)) (Nat.pow_pos hp0) (fun i hi => ?_)
    rw [key i hi, dg_0]
    exact (arith _ _ (dg_lt hp0 x i) (dg_lt hp0 x i)).mpr rfl
def isU (W : Wd) (e : Nat) : Prop := ∀ i, i < W.2.1 → mul W e (W.1 ^ i) = W.1 ^ i ∧ mul W (W.1 ^ i) e = W.1 ^ i
def UnitOf (W : Wd) (z : Int32) : Prop := (∃ e, z = nI e ∧ 0 < e ∧ e < W.1 ^ W.2.1 ∧ isU W e ∧ ∀ a, 0 < a → a < e → ¬ isU W a) ∨ (z = -1 ∧ ∀ a, 0 < a → a < W.1 ^ W.2.1 → ¬ isU W a)
theorem pow_q {W : Wd} (hk : Wok W) {i : Nat} (hi : i < W.2.1) : W.1 ^ i < W.1 ^ W.2.1 := Nat.pow_lt_pow_right (by have := hk.b; omega) hi
/-- nothing changed but a world's sums, the bases and the table -/
def Ft (E o : Nat) (h h' : AH) : Prop := ∀ a, a ≠ o + 2 → a ≠ E + 84 → a ≠ E + 87 → h' a = h a
theorem Ft.rf (E o : Nat) (h : AH) : Ft E o h h := fun _ _ _ _ => rfl
theorem Ft.tr {E o : Nat} {h h1 h2 : AH} (a : Ft E o h h1) (b : Ft E o h1 h2) : Ft E o h h2 := fun q x y z => (b q x y z).trans (a q x y z)
theorem Es.ft {E o : Nat} {h h1 : AH} (e : Es o h h1) : Ft E o h h1 := fun a x _ _ => e a x
theorem Ft.fr {E o : Nat} {h h1 : AH} (e : Ft E o h h1) : Fr E o h h1 := fun a p _ _ x => e a x (by omega) (by omega)
theorem Ft.set {E o a : Nat} {x : AE} {h h1 : AH} (e : Ft E o h h1) (ha : a = E + 84 ∨ a = E + 87) : Ft E o h (hset h1 a x) := fun q p1 p2 p3 => by
  rw [hset_ne _ _ (by omega)]
  exact e q p1 p2 p3
section SU
variable {h : AH} {E o : Nat} {W : Wd} {f : Int32}
theorem l_isUnit {sz e T : Nat} {hh : AH} (hk : Wok W) (he0 : e < W.1 ^ W.2.1) :
    ∀ (n i : Nat), n = W.2.1 - i → i ≤ W.2.1 → ∀ h1, WAt h1 o W f → Es o hh h1 → (∀ j, j < i → mul W e (W.1 ^ j) = W.1 ^ j ∧ mul W (W.1 ^ j) e = W.1 ^ j) → VI MX7_isUnit sz (fun z h' => isB z (isU W e) ∧ WAt h' o W f ∧ Es o hh h') h1 2 [some (.ref T), some (.ref o), some (.int (nI e)), some (.int (nI i)), none] [] := by
  obtain ⟨b1, b2, b3, b4, b5⟩ := hk.b
  intro n
  induction n with
  | zero =>
    intro i e1 e2 h1 hW he hr
    have e' : i = W.2.1 := by omega
    subst e'
    obtain ⟨w0, -, -⟩ := id hW
    refine e_iload_n (pc := 2) dX7_isUnit_2 rfl rfl ?_
    refine e_aload_n (pc := 3) dX7_isUnit_3 rfl rfl ?_
    refine n_VP (pc := 4) (c_X9_size hW) bX9_size q_i_X9_size q_s_X9_size q_m_X7_70 dX7_isUnit_4 rfl rfl (by repeat (first | assumption | exact hset_eq _ _ _ | rw [hset_ne _ _ (by omega)])) rfl rfl (by exact Nat.le_of_ble_eq_true rfl) ⟨by decide, by decide⟩ ⟨rfl, rfl, Nat.zero_le _, Nat.zero_le _⟩ ?_
    refine n_icmp_ge (pc := 7) (tgt := 49) dX7_isUnit_7 (by decide) (by omega) (by omega) (fun hb_ => ?_) (fun c => absurd c (by omega))
    refine n_iconst (pc := 49) 1 dX7_isUnit_49 (by decide) ?_
    exact n_zret (pc := 50) dX7_isUnit_50 rfl rfl ⟨Or.inl ⟨hr, rfl⟩, hW, he⟩
  | succ n ih =>
    intro i e1 e2 h1 hW he hr
    obtain ⟨w0, -, -⟩ := id hW
    have q1 := pow_q hk (show i < W.2.1 by omega)
    have m1 := mul_lt hk e (W.1 ^ i)
    have m2 := mul_lt hk (W.1 ^ i) e
    refine e_iload_n (pc := 2) dX7_isUnit_2 rfl rfl ?_
    refine e_aload_n (pc := 3) dX7_isUnit_3 rfl rfl ?_
    refine n_VP (pc := 4) (c_X9_size hW) bX9_size q_i_X9_size q_s_X9_size q_m_X7_70 dX7_isUnit_4 rfl rfl (by repeat (first | assumption | exact hset_eq _ _ _ | rw [hset_ne _ _ (by omega)])) rfl rfl (by exact Nat.le_of_ble_eq_true rfl) ⟨by decide, by decide⟩ ⟨rfl, rfl, Nat.zero_le _, Nat.zero_le _⟩ ?_
    refine n_icmp_ge (pc := 7) (tgt := 49) dX7_isUnit_7 (by decide) (by omega) (by omega) (fun c => absurd c (by omega)) (fun hb_ => ?_)
    refine e_aload_n (pc := 10) dX7_isUnit_10 rfl rfl ?_
    refine e_iload_n (pc := 11) dX7_isUnit_11 rfl rfl ?_
    refine n_VP (pc := 12) (c_X9_base hW hk (show i ≤ 5 by omega)) bX9_base q_i_X9_base q_s_X9_base q_m_X7_73 dX7_isUnit_12 rfl rfl (by repeat (first | assumption | exact hset_eq _ _ _ | rw [hset_ne _ _ (by omega)])) rfl rfl (by exact Nat.le_of_ble_eq_true rfl) ⟨by decide, by decide⟩ ⟨rfl, rfl, Nat.zero_le _, Nat.zero_le _⟩ ?_
    refine e_istore (pc := 15) dX7_isUnit_15 (by decide) ?_
    refine e_aload_n (pc := 17) dX7_isUnit_17 rfl rfl ?_
    refine e_iload_n (pc := 18) dX7_isUnit_18 rfl rfl ?_
    refine e_iload (pc := 19) dX7_isUnit_19 rfl ?_
    refine n_V (pc := 21) (c_X9_times2 hW hk (by omega) (by omega)) bX9_times q_i_X9_times q_s_X9_times q_m_X7_62 dX7_isUnit_21 rfl rfl (by repeat (first | assumption | exact hset_eq _ _ _ | rw [hset_ne _ _ (by omega)])) rfl rfl (by exact Nat.le_of_ble_eq_true rfl) ⟨by decide, by decide⟩ ⟨rfl, rfl, Nat.zero_le _, Nat.zero_le _⟩ (fun x h2 hp => ?_)
    obtain ⟨rfl, p1, p2⟩ := hp
    obtain ⟨w0, -, -⟩ := id p1
    refine e_iload (pc := 24) dX7_isUnit_24 rfl ?_
    refine n_icmp_ne (pc := 26) (tgt := 41) dX7_isUnit_26 (by decide) (by omega) (by omega) (fun hn1 => ?_) (fun hn1 => ?_)
    · refine n_iconst (pc := 41) 0 dX7_isUnit_41 (by decide) ?_
      exact n_zret (pc := 42) dX7_isUnit_42 rfl rfl ⟨Or.inr ⟨fun q => hn1 (q i (by omega)).1, rfl⟩, p1, he.tr p2⟩
    · refine e_aload_n (pc := 29) dX7_isUnit_29 rfl rfl ?_
      refine e_iload (pc := 30) dX7_isUnit_30 rfl ?_
      refine e_iload_n (pc := 32) dX7_isUnit_32 rfl rfl ?_
      refine n_V (pc := 33) (c_X9_times2 p1 hk (by omega) (by omega)) bX9_times q_i_X9_times q_s_X9_times q_m_X7_62 dX7_isUnit_33 rfl rfl (by assumption) rfl rfl (by exact Nat.le_of_ble_eq_true rfl) ⟨by decide, by decide⟩ ⟨rfl, rfl, Nat.zero_le _, Nat.zero_le _⟩ (fun x h3 hp => ?_)
      obtain ⟨rfl, p3, p4⟩ := hp
      refine e_iload (pc := 36) dX7_isUnit_36 rfl ?_
      refine n_icmp_eq (pc := 38) (tgt := 43) dX7_isUnit_38 (by decide) (by omega) (by omega) (fun hn2 => ?_) (fun hn2 => ?_)
      · refine n_inc (pc := 43) dX7_isUnit_43 rfl (by decide) ?_
        refine e_goto (pc := 46) (tgt := 2) dX7_isUnit_46 (by decide) ?_
        refine V.mask [true, true, true, true, false] ?_
        refine ih (i + 1) (by omega) (by omega) h3 p3 (he.tr (p2.tr p4)) (fun j hj => ?_)
        by_cases c : j = i
        · subst c; exact ⟨hn1, hn2⟩
        · exact hr j (by omega)
      · refine n_iconst (pc := 41) 0 dX7_isUnit_41 (by decide) ?_
        exact n_zret (pc := 42) dX7_isUnit_42 rfl rfl ⟨Or.inr ⟨fun q => hn2 (q i (by omega)).2, rfl⟩, p3, he.tr (p2.tr p4)⟩
theorem c_X7_isUnit {e T : Nat} (hW : WAt h o W f) (hk : Wok W) (he : e < W.1 ^ W.2.1) : CI yX7_isUnit MX7_isUnit [.ref T, .ref o, .int (nI e)] h (fun z h' => isB z (isU W e) ∧ WAt h' o W f ∧ Es o h h') := by
  refine CI.ofV (by decide) rfl rfl (by simp [Value.category]) (by exact Nat.le_of_ble_eq_true rfl) (fun sz => ?_)
  refine n_iconst (pc := 0) 0 dX7_isUnit_0 (by decide) ?_
  refine e_istore_n (pc := 1) dX7_isUnit_1 rfl (by decide) ?_
  exact l_isUnit hk he W.2.1 0 rfl (by omega) h hW (Es.rf o h) (fun j hj => absurd hj (Nat.not_lt_zero j))
theorem l_unit {sz : Nat} {hh : AH} (hk : Wok W) (d : o + 3 ≤ E ∨ E + 89 ≤ o) :
    ∀ (n e : Nat), n = W.1 ^ W.2.1 - e → 1 ≤ e → e ≤ W.1 ^ W.2.1 → ∀ h1, TSh h1 E → WAt h1 o W f → Es o hh h1 → (∀ a, 0 < a → a < e → ¬ isU W a) → VI MX7_unit sz (fun z h' => UnitOf W z ∧ WAt h' o W f ∧ Es o hh h') h1 2 [some (.ref (E + 83)), some (.ref o), some (.int (nI e))] [] := by
  obtain ⟨b1, b2, b3, b4, b5⟩ := hk.b
  intro n
  induction n with
  | zero =>
    intro e e1 e2 e3 h1 hT hW he hr
    have e' : e = W.1 ^ W.2.1 := by omega
    subst e'
    obtain ⟨w0, -, -⟩ := id hW
    refine e_iload_n (pc := 2) dX7_unit_2 rfl rfl ?_
    refine e_aload_n (pc := 3) dX7_unit_3 rfl rfl ?_
    refine n_VP (pc := 4) (c_X9_order hW) bX9_order q_i_X9_order q_s_X9_order q_m_X7_52 dX7_unit_4 rfl rfl (by repeat (first | assumption | exact hset_eq _ _ _ | rw [hset_ne _ _ (by omega)])) rfl rfl (by exact Nat.le_of_ble_eq_true rfl) ⟨by decide, by decide⟩ ⟨rfl, rfl, Nat.zero_le _, Nat.zero_le _⟩ ?_
    refine n_icmp_ge (pc := 7) (tgt := 27) dX7_unit_7 (by decide) (by omega) (by omega) (fun hb_ => ?_) (fun c => absurd c (by omega))
    refine e_iconst (pc := 27) (v := -1) dX7_unit_27 (by decide) ?_
    exact n_iret (pc := 28) dX7_unit_28 rfl ⟨Or.inr ⟨rfl, hr⟩, hW, he⟩
  | succ n ih =>
    intro e e1 e2 e3 h1 hT hW he hr
    obtain ⟨w0, -, -⟩ := id hW
    obtain ⟨-, t0, -⟩ := id hT
    refine e_iload_n (pc := 2) dX7_unit_2 rfl rfl ?_
    refine e_aload_n (pc := 3) dX7_unit_3 rfl rfl ?_
    refine n_VP (pc := 4) (c_X9_order hW) bX9_order q_i_X9_order q_s_X9_order q_m_X7_52 dX7_unit_4 rfl rfl (by repeat (first | assumption | exact hset_eq _ _ _ | rw [hset_ne _ _ (by omega)])) rfl rfl (by exact Nat.le_of_ble_eq_true rfl) ⟨by decide, by decide⟩ ⟨rfl, rfl, Nat.zero_le _, Nat.zero_le _⟩ ?_
    refine n_icmp_ge (pc := 7) (tgt := 27) dX7_unit_7 (by decide) (by omega) (by omega) (fun c => absurd c (by omega)) (fun hb_ => ?_)
    refine e_aload_n (pc := 10) dX7_unit_10 rfl rfl ?_
    refine e_aload_n (pc := 11) dX7_unit_11 rfl rfl ?_
    refine e_iload_n (pc := 12) dX7_unit_12 rfl rfl ?_
    refine n_V (pc := 13) (c_X7_isUnit hW hk hb_) bX7_isUnit q_i_X7_isUnit q_s_X7_isUnit q_m_X7_66 dX7_unit_13 rfl rfl (by repeat (first | assumption | exact hset_eq _ _ _ | rw [hset_ne _ _ (by omega)])) rfl rfl (by exact Nat.le_of_ble_eq_true rfl) ⟨by decide, by decide⟩ ⟨rfl, rfl, Nat.zero_le _, Nat.zero_le _⟩ (fun x h2 hp => ?_)
    obtain ⟨p0, p1, p2⟩ := hp
    rcases p0 with ⟨hu, rfl⟩ | ⟨hu, rfl⟩
    · refine e_if_eq (pc := 16) (tgt := 21) dX7_unit_16 (by decide) (fun q => absurd q (by decide)) (fun _ => ?_)
      refine e_iload_n (pc := 19) dX7_unit_19 rfl rfl ?_
      exact n_iret (pc := 20) dX7_unit_20 rfl ⟨Or.inl ⟨e, rfl, by omega, hb_, hu, hr⟩, p1, he.tr p2⟩
    · refine e_if_eq (pc := 16) (tgt := 21) dX7_unit_16 (by decide) (fun _ => ?_) (fun q => absurd rfl q)
      refine n_inc (pc := 21) dX7_unit_21 rfl (by decide) ?_
      refine e_goto (pc := 24) (tgt := 2) dX7_unit_24 (by decide) ?_
      refine ih (e + 1) (by omega) (by omega) (by omega) h2 (hT.es p2 d) p1 (he.tr p2) (fun a a0 a1 => ?_)
      by_cases c : a = e
      · subst c; exact hu
      · exact hr a a0 (by omega)
theorem c_X7_unit (hT : TSh h E) (hW : WAt h o W f) (hk : Wok W) (d : o + 3 ≤ E ∨ E + 89 ≤ o) : CI yX7_unit MX7_unit [.ref (E + 83), .ref o] h (fun z h' => UnitOf W z ∧ WAt h' o W f ∧ Es o h h') := by
  refine CI.ofV (by decide) rfl rfl (by simp [Value.category]) (by exact Nat.le_of_ble_eq_true rfl) (fun sz => ?_)
  refine n_iconst (pc := 0) 1 dX7_unit_0 (by decide) ?_
  refine e_istore_n (pc := 1) dX7_unit_1 rfl (by decide) ?_
  exact l_unit hk d (W.1 ^ W.2.1 - 1) 1 rfl (Nat.le_refl 1) hk.pos h hT hW (Es.rf o h) (fun a a0 a1 => by omega)
/-- x times all, or all times x -/
def side (W : Wd) (x : Nat) (left : Bool) (z : Nat) : Nat := if left = true then mul W x z else mul W z x
theorem side_lt {W : Wd} (hk : Wok W) (x : Nat) (l : Bool) (z : Nat) : side W x l z < W.1 ^ W.2.1 := by unfold side; split <;> exact mul_lt hk _ _
theorem side_lin {W : Wd} (hk : Wok W) (x : Nat) (l : Bool) (z : Nat) : side W x l z = lin W.1 W.2.1 (fun i => side W x l (W.1 ^ i)) z := by
  cases l with
  | true => exact mul_lin_r hk x z
  | false => exact mul_lin_l hk x z
theorem l_tab {sz x : Nat} {l : Bool} {hh : AH} (hk : Wok W) (hx : x < W.1 ^ W.2.1) (d : o + 3 ≤ E ∨ E + 89 ≤ o) {Pr : AH → Prop}
    (kk : ∀ h1, TSh h1 E → WAt h1 o W f → Ft E o hh h1 → (∃ g, h1 (E + 84) = some (aI 5 g) ∧ ∀ i, i < W.2.1 → g i = nI (side W x l (W.1 ^ i))) → VV MX7_tabulate sz Pr h1 54 [some (.ref (E + 83)), some (.ref o), none, none, none] []) :
    ∀ (n i : Nat), n = W.2.1 - i → i ≤ W.2.1 → ∀ h1, TSh h1 E → WAt h1 o W f → Ft E o hh h1 → (∃ g, h1 (E + 84) = some (aI 5 g) ∧ ∀ j, j < i → g j = nI (side W x l (W.1 ^ j))) → VV MX7_tabulate sz Pr h1 3 [some (.ref (E + 83)), some (.ref o), some (.int (nI x)), some (.int (bI l)), some (.int (nI i))] [] := by
  obtain ⟨b1, b2, b3, b4, b5⟩ := hk.b
  intro n
  induction n with
  | zero =>
    intro i e1 e2 h1 hT hW he hg
    have e' : i = W.2.1 := by omega
    subst e'
    obtain ⟨w0, -, -⟩ := id hW
    refine e_iload (pc := 3) dX7_tabulate_3 rfl ?_
    refine e_aload_n (pc := 5) dX7_tabulate_5 rfl rfl ?_
    refine n_VP (pc := 6) (c_X9_size hW) bX9_size q_i_X9_size q_s_X9_size q_m_X7_70 dX7_tabulate_6 rfl rfl (by repeat (first | assumption | exact hset_eq _ _ _ | rw [hset_ne _ _ (by omega)])) rfl rfl (by exact Nat.le_of_ble_eq_true rfl) ⟨by decide, by decide⟩ ⟨rfl, rfl, Nat.zero_le _, Nat.zero_le _⟩ ?_
    refine n_icmp_ge (pc := 9) (tgt := 54) dX7_tabulate_9 (by decide) (by omega) (by omega) (fun hb_ => ?_) (fun c => absurd c (by omega))
    refine V.mask [true, true, false, false, false] ?_
    exact kk h1 hT hW he hg
  | succ n ih =>
    intro i e1 e2 h1 hT hW he hg
    obtain ⟨w0, -, -⟩ := id hW
    obtain ⟨-, t0, -⟩ := id hT
    obtain ⟨g, g1, g2⟩ := hg
    have q1 := pow_q hk (show i < W.2.1 by omega)
    have fin : ∀ h3, WAt h3 o W f → Es o h1 h3 → VV MX7_tabulate sz Pr h3 47 [some (.ref (E + 83)), some (.ref o), some (.int (nI x)), some (.int (bI l)), some (.int (nI i))] [.int (nI (side W x l (W.1 ^ i))), .int (nI i), .ref (E + 84)] := by
      intro h3 hW3 he3
      have g3 : h3 (E + 84) = some (aI 5 g) := by rw [he3 _ (by omega)]; exact g1
      refine e_iastN (pc := 47) _ dX7_tabulate_47 (by repeat (first | assumption | exact hset_eq _ _ _ | rw [hset_ne _ _ (by omega)])) (by rfl) (by omega) (by first | decide | omega) ?_
      refine n_inc (pc := 48) dX7_tabulate_48 rfl (by decide) ?_
      refine e_goto (pc := 51) (tgt := 3) dX7_tabulate_51 (by decide) ?_
      refine ih (i + 1) (by omega) (by omega) _ ?_ ?_ ((he.tr he3.ft).set (by omega)) ⟨_, hset_eq _ _ _, fun j hj => ?_⟩
      · obtain ⟨a1, a2, ⟨f3, a3⟩, ⟨f4, a4⟩, ⟨f5, a5⟩, ⟨f6, a6⟩, ⟨f7, a7⟩⟩ := hT.es he3 d
        exact ⟨a1.far (fun a x y => hset_ne _ _ (by omega)), by rw [hset_ne _ _ (by omega)]; exact a2, ⟨_, hset_eq _ _ _⟩, ⟨f4, by rw [hset_ne _ _ (by omega)]; exact a4⟩, ⟨f5, by rw [hset_ne _ _ (by omega)]; exact a5⟩, ⟨f6, by rw [hset_ne _ _ (by omega)]; exact a6⟩, ⟨f7, by rw [hset_ne _ _ (by omega)]; exact a7⟩⟩
      · exact hW3.er (lo := E) (hi := E + 89) ((Er.rf _ _ _).set (by omega)) (by omega)
      · by_cases c : j = i
        · subst c; exact pk_us
        · rw [pk_un c]; exact g2 j (by omega)
    refine e_iload (pc := 3) dX7_tabulate_3 rfl ?_
    refine e_aload_n (pc := 5) dX7_tabulate_5 rfl rfl ?_
    refine n_VP (pc := 6) (c_X9_size hW) bX9_size q_i_X9_size q_s_X9_size q_m_X7_70 dX7_tabulate_6 rfl rfl (by repeat (first | assumption | exact hset_eq _ _ _ | rw [hset_ne _ _ (by omega)])) rfl rfl (by exact Nat.le_of_ble_eq_true rfl) ⟨by decide, by decide⟩ ⟨rfl, rfl, Nat.zero_le _, Nat.zero_le _⟩ ?_
    refine n_icmp_ge (pc := 9) (tgt := 54) dX7_tabulate_9 (by decide) (by omega) (by omega) (fun c => absurd c (by omega)) (fun hb_ => ?_)
    refine e_aload_n (pc := 12) dX7_tabulate_12 rfl rfl ?_
    refine e_get (pc := 13) fl_X7_9 dX7_tabulate_13 (by repeat (first | assumption | exact hset_eq _ _ _ | rw [hset_ne _ _ (by omega)])) (by rfl) ?_
    refine e_iload (pc := 16) dX7_tabulate_16 rfl ?_
    refine e_iload_n (pc := 18) dX7_tabulate_18 rfl rfl ?_
    cases l with
    | true =>
      refine e_if_eq (pc := 19) (tgt := 36) dX7_tabulate_19 (by decide) (fun q => absurd q (by decide)) (fun _ => ?_)
      refine e_aload_n (pc := 22) dX7_tabulate_22 rfl rfl ?_
      refine e_iload_n (pc := 23) dX7_tabulate_23 rfl rfl ?_
      refine e_aload_n (pc := 24) dX7_tabulate_24 rfl rfl ?_
      refine e_iload (pc := 25) dX7_tabulate_25 rfl ?_
      refine n_VP (pc := 27) (c_X9_base hW hk (show i ≤ 5 by omega)) bX9_base q_i_X9_base q_s_X9_base q_m_X7_73 dX7_tabulate_27 rfl rfl (by repeat (first | assumption | exact hset_eq _ _ _ | rw [hset_ne _ _ (by omega)])) rfl rfl (by exact Nat.le_of_ble_eq_true rfl) ⟨by decide, by decide⟩ ⟨rfl, rfl, Nat.zero_le _, Nat.zero_le _⟩ ?_
      refine n_V (pc := 30) (c_X9_times2 hW hk (by omega) (by omega)) bX9_times q_i_X9_times q_s_X9_times q_m_X7_62 dX7_tabulate_30 rfl rfl (by repeat (first | assumption | exact hset_eq _ _ _ | rw [hset_ne _ _ (by omega)])) rfl rfl (by exact Nat.le_of_ble_eq_true rfl) ⟨by decide, by decide⟩ ⟨rfl, rfl, Nat.zero_le _, Nat.zero_le _⟩ (fun x h2 hp => ?_)
      obtain ⟨rfl, p1, p2⟩ := hp
      refine e_goto (pc := 33) (tgt := 47) dX7_tabulate_33 (by decide) ?_
      exact fin h2 p1 p2
    | false =>
      refine e_if_eq (pc := 19) (tgt := 36) dX7_tabulate_19 (by decide) (fun _ => ?_) (fun q => absurd rfl q)
      refine e_aload_n (pc := 36) dX7_tabulate_36 rfl rfl ?_
      refine e_aload_n (pc := 37) dX7_tabulate_37 rfl rfl ?_
      refine e_iload (pc := 38) dX7_tabulate_38 rfl ?_
      refine n_VP (pc := 40) (c_X9_base hW hk (show i ≤ 5 by omega)) bX9_base q_i_X9_base q_s_X9_base q_m_X7_73 dX7_tabulate_40 rfl rfl (by repeat (first | assumption | exact hset_eq _ _ _ | rw [hset_ne _ _ (by omega)])) rfl rfl (by exact Nat.le_of_ble_eq_true rfl) ⟨by decide, by decide⟩ ⟨rfl, rfl, Nat.zero_le _, Nat.zero_le _⟩ ?_
      refine e_iload_n (pc := 43) dX7_tabulate_43 rfl rfl ?_
      refine n_V (pc := 44) (c_X9_times2 hW hk (by omega) (by omega)) bX9_times q_i_X9_times q_s_X9_times q_m_X7_62 dX7_tabulate_44 rfl rfl (by repeat (first | assumption | exact hset_eq _ _ _ | rw [hset_ne _ _ (by omega)])) rfl rfl (by exact Nat.le_of_ble_eq_true rfl) ⟨by decide, by decide⟩ ⟨rfl, rfl, Nat.zero_le _, Nat.zero_le _⟩ (fun x h2 hp => ?_)
      obtain ⟨rfl, p1, p2⟩ := hp
      exact fin h2 p1 p2
theorem c_X7_tabulate {x : Nat} {l : Bool} (hT : TSh h E) (hW : WAt h o W f) (hk : Wok W) (hx : x < W.1 ^ W.2.1) (d : o + 3 ≤ E ∨ E + 89 ≤ o) : CV yX7_tabulate MX7_tabulate [.ref (E + 83), .ref o, .int (nI x), .int (bI l)] h (fun h' => TSh h' E ∧ WAt h' o W f ∧ Ft E o h h' ∧ ∃ g, h' (E + 87) = some (aI 243 g) ∧ ∀ z, z < W.1 ^ W.2.1 → g z = nI (side W x l z)) := by
  obtain ⟨b1, b2, b3, b4, b5⟩ := hk.b
  refine CV.ofV (by decide) rfl rfl (by simp [Value.category]) (by exact Nat.le_of_ble_eq_true rfl) (fun sz => ?_)
  refine n_iconst (pc := 0) 0 dX7_tabulate_0 (by decide) ?_
  refine e_istore (pc := 1) dX7_tabulate_1 (by decide) ?_
  obtain ⟨-, -, ⟨f3, a3⟩, -⟩ := id hT
  refine l_tab (hh := h) (x := x) (l := l) hk hx d (fun h1 hT1 hW1 he1 hg1 => ?_) W.2.1 0 rfl (by omega) h hT hW (Ft.rf E o h) ⟨f3, a3, fun j hj => absurd hj (Nat.not_lt_zero j)⟩
  obtain ⟨w0, -, -⟩ := id hW1
  obtain ⟨a1, a2, ⟨f3, a3⟩, ⟨f4, a4⟩, ⟨f5, a5⟩, ⟨f6, a6⟩, ⟨f7, a7⟩⟩ := id hT1
  obtain ⟨g, g1, g2⟩ := hg1
  refine e_aload_n (pc := 54) dX7_tabulate_54 rfl rfl ?_
  refine n_VP (pc := 55) (c_X9_prime hW1) bX9_prime q_i_X9_prime q_s_X9_prime q_m_X7_81 dX7_tabulate_55 rfl rfl (by repeat (first | assumption | exact hset_eq _ _ _ | rw [hset_ne _ _ (by omega)])) rfl rfl (by exact Nat.le_of_ble_eq_true rfl) ⟨by decide, by decide⟩ ⟨rfl, rfl, Nat.zero_le _, Nat.zero_le _⟩ ?_
  refine e_aload_n (pc := 58) dX7_tabulate_58 rfl rfl ?_
  refine n_VP (pc := 59) (c_X9_size hW1) bX9_size q_i_X9_size q_s_X9_size q_m_X7_70 dX7_tabulate_59 rfl rfl (by repeat (first | assumption | exact hset_eq _ _ _ | rw [hset_ne _ _ (by omega)])) rfl rfl (by exact Nat.le_of_ble_eq_true rfl) ⟨by decide, by decide⟩ ⟨rfl, rfl, Nat.zero_le _, Nat.zero_le _⟩ ?_
  refine e_aload_n (pc := 62) dX7_tabulate_62 rfl rfl ?_
  refine e_get (pc := 63) fl_X7_9 dX7_tabulate_63 (by repeat (first | assumption | exact hset_eq _ _ _ | rw [hset_ne _ _ (by omega)])) (by rfl) ?_
  refine e_aload_n (pc := 66) dX7_tabulate_66 rfl rfl ?_
  refine e_get (pc := 67) fl_X7_21 dX7_tabulate_67 (by repeat (first | assumption | exact hset_eq _ _ _ | rw [hset_ne _ _ (by omega)])) (by rfl) ?_
  refine n_Sv (pc := 70) (c_X8_spread (bs := fun i => side W x l (W.1 ^ i)) (by omega) (by omega) b5 (show E + 84 ≠ E + 87 by omega) g1 g2 (fun i _ => side_lt hk _ _ _) a6) bX8_spread q_st_X8_spread q_m_X7_84 dX7_tabulate_70 rfl rfl (by exact Nat.le_of_ble_eq_true rfl) ⟨by decide, by decide⟩ ⟨rfl, rfl, Nat.zero_le _, Nat.zero_le _⟩ (fun h2 hp => ?_)
  obtain ⟨g4, rfl, g5⟩ := hp
  refine n_vret (pc := 73) dX7_tabulate_73 rfl ⟨⟨a1.far (fun a x y => hset_ne _ _ (by omega)), by rw [hset_ne _ _ (by omega)]; exact a2, ⟨f3, by rw [hset_ne _ _ (by omega)]; exact a3⟩, ⟨f4, by rw [hset_ne _ _ (by omega)]; exact a4⟩, ⟨f5, by rw [hset_ne _ _ (by omega)]; exact a5⟩, ⟨_, hset_eq _ _ _⟩, ⟨f7, by rw [hset_ne _ _ (by omega)]; exact a7⟩⟩, hW1.er (lo := E) (hi := E + 89) ((Er.rf _ _ _).set (by omega)) (by omega), he1.set (by omega), g4, hset_eq _ _ _, fun z hz => ?_⟩
  rw [g5 z hz, side_lin hk x l z]
/-- the least quotient; none -/
def Quo (W : Wd) (x y : Nat) (l : Bool) (z : Int32) : Prop := (∃ q, z = nI q ∧ q < W.1 ^ W.2.1 ∧ side W x l q = y ∧ ∀ a, a < q → side W x l a ≠ y) ∨ (z = -1 ∧ ∀ a, a < W.1 ^ W.2.1 → side W x l a ≠ y)
theorem l_divide {sz x y : Nat} {l : Bool} {hh : AH} (hk : Wok W) (hy : y < W.1 ^ W.2.1) (d : o + 3 ≤ E ∨ E + 89 ≤ o) {h1 : AH} {g : Nat → Int32} (hT : TSh h1 E) (hW : WAt h1 o W f) (he : Ft E o hh h1) (hg : h1 (E + 87) = some (aI 243 g)) (hg2 : ∀ z, z < W.1 ^ W.2.1 → g z = nI (side W x l z)) :
    ∀ (n z : Nat), n = W.1 ^ W.2.1 - z → z ≤ W.1 ^ W.2.1 → (∀ a, a < z → side W x l a ≠ y) → VI MX7_divide sz (fun z h' => Quo W x y l z ∧ TSh h' E ∧ WAt h' o W f ∧ Ft E o hh h') h1 11 [some (.ref (E + 83)), some (.ref o), some (.int (nI x)), some (.int (nI y)), some (.int (bI l)), some (.int (nI z))] [] := by
  obtain ⟨b1, b2, b3, b4, b5⟩ := hk.b
  obtain ⟨w0, -, -⟩ := id hW
  obtain ⟨-, t0, -⟩ := id hT
  intro n
  induction n with
  | zero =>
    intro z e1 e2 hr
    have e' : z = W.1 ^ W.2.1 := by omega
    subst e'
    refine e_iload (pc := 11) dX7_divide_11 rfl ?_
    refine e_aload_n (pc := 13) dX7_divide_13 rfl rfl ?_
    refine n_VP (pc := 14) (c_X9_order hW) bX9_order q_i_X9_order q_s_X9_order q_m_X7_52 dX7_divide_14 rfl rfl (by repeat (first | assumption | exact hset_eq _ _ _ | rw [hset_ne _ _ (by omega)])) rfl rfl (by exact Nat.le_of_ble_eq_true rfl) ⟨by decide, by decide⟩ ⟨rfl, rfl, Nat.zero_le _, Nat.zero_le _⟩ ?_
    refine n_icmp_ge (pc := 17) (tgt := 48) dX7_divide_17 (by decide) (by omega) (by omega) (fun hb_ => ?_) (fun c => absurd c (by omega))
    refine e_iconst (pc := 48) (v := -1) dX7_divide_48 (by decide) ?_
    exact n_iret (pc := 49) dX7_divide_49 rfl ⟨Or.inr ⟨rfl, hr⟩, hT, hW, he⟩
  | succ n ih =>
    intro z e1 e2 hr
    have s1 := hg2 z (by omega)
    have s2 := side_lt hk x l z
    refine e_iload (pc := 11) dX7_divide_11 rfl ?_
    refine e_aload_n (pc := 13) dX7_divide_13 rfl rfl ?_
    refine n_VP (pc := 14) (c_X9_order hW) bX9_order q_i_X9_order q_s_X9_order q_m_X7_52 dX7_divide_14 rfl rfl (by repeat (first | assumption | exact hset_eq _ _ _ | rw [hset_ne _ _ (by omega)])) rfl rfl (by exact Nat.le_of_ble_eq_true rfl) ⟨by decide, by decide⟩ ⟨rfl, rfl, Nat.zero_le _, Nat.zero_le _⟩ ?_
    refine n_icmp_ge (pc := 17) (tgt := 48) dX7_divide_17 (by decide) (by omega) (by omega) (fun c => absurd c (by omega)) (fun hb_ => ?_)
    refine e_iload (pc := 20) dX7_divide_20 rfl ?_
    refine n_sipush (pc := 22) 243 dX7_divide_22 (by decide) ?_
    refine n_icmp_ge (pc := 25) (tgt := 48) dX7_divide_25 (by decide) (by omega) (by omega) (fun c => absurd c (by omega)) (fun hb_ => ?_)
    refine e_aload_n (pc := 28) dX7_divide_28 rfl rfl ?_
    refine e_get (pc := 29) fl_X7_21 dX7_divide_29 (by repeat (first | assumption | exact hset_eq _ _ _ | rw [hset_ne _ _ (by omega)])) (by rfl) ?_
    refine e_iload (pc := 32) dX7_divide_32 rfl ?_
    refine e_ialdN (pc := 34) _ dX7_divide_34 (by repeat (first | assumption | exact hset_eq _ _ _ | rw [hset_ne _ _ (by omega)])) (by rfl) (by omega) (by first | decide | omega) ?_
    rw [s1]
    refine e_iload_n (pc := 35) dX7_divide_35 rfl rfl ?_
    refine n_icmp_ne (pc := 36) (tgt := 42) dX7_divide_36 (by decide) (by omega) (by omega) (fun hne => ?_) (fun hne => ?_)
    · refine n_inc (pc := 42) dX7_divide_42 rfl (by decide) ?_
      refine e_goto (pc := 45) (tgt := 11) dX7_divide_45 (by decide) ?_
      refine ih (z + 1) (by omega) (by omega) (fun a ha => ?_)
      by_cases c : a = z
      · subst c; exact hne
      · exact hr a (by omega)
    · refine e_iload (pc := 39) dX7_divide_39 rfl ?_
      exact n_iret (pc := 41) dX7_divide_41 rfl ⟨Or.inl ⟨z, rfl, by omega, hne, hr⟩, hT, hW, he⟩
theorem c_X7_divide {x y : Nat} {l : Bool} (hT : TSh h E) (hW : WAt h o W f) (hk : Wok W) (hx : x < W.1 ^ W.2.1) (hy : y < W.1 ^ W.2.1) (d : o + 3 ≤ E ∨ E + 89 ≤ o) : CI yX7_divide MX7_divide [.ref (E + 83), .ref o, .int (nI x), .int (nI y), .int (bI l)] h (fun z h' => Quo W x y l z ∧ TSh h' E ∧ WAt h' o W f ∧ Ft E o h h') := by
  obtain ⟨-, t0, -⟩ := id hT
  refine CI.ofV (by decide) rfl rfl (by simp [Value.category]) (by exact Nat.le_of_ble_eq_true rfl) (fun sz => ?_)
  refine e_aload_n (pc := 0) dX7_divide_0 rfl rfl ?_
  refine e_aload_n (pc := 1) dX7_divide_1 rfl rfl ?_
  refine e_iload_n (pc := 2) dX7_divide_2 rfl rfl ?_
  refine e_iload (pc := 3) dX7_divide_3 rfl ?_
  refine n_Vv (pc := 5) (c_X7_tabulate hT hW hk hx d) bX7_tabulate q_i_X7_tabulate q_s_X7_tabulate q_m_X7_77 dX7_divide_5 rfl rfl (by repeat (first | assumption | exact hset_eq _ _ _ | rw [hset_ne _ _ (by omega)])) rfl rfl (by exact Nat.le_of_ble_eq_true rfl) ⟨by decide, by decide⟩ ⟨rfl, rfl, Nat.zero_le _, Nat.zero_le _⟩ (fun h2 hp => ?_)
  obtain ⟨p1, p2, p3, g, p4, p5⟩ := hp
  refine n_iconst (pc := 8) 0 dX7_divide_8 (by decide) ?_
  refine e_istore (pc := 9) dX7_divide_9 (by decide) ?_
  exact l_divide hk hy d p1 p2 p3 p4 p5 (W.1 ^ W.2.1) 0 rfl (Nat.zero_le _) (fun a ha => absurd ha (Nat.not_lt_zero a))
end SU
