/-! ===== derivations, triples ===== -/
theorem bump_mod {p c a t X : Nat} : (if t = c then (X % p + a) % p else X % p) = (X + if t = c then a else 0) % p := by
  by_cases e : t = c
  · rw [if_pos e, if_pos e, Nat.mod_add_mod]
  · rw [if_neg e, if_neg e, Nat.add_zero]
/-- a row of the equations: for base elements i, j and digit k -/
def der1 (W : Wd) (s1 s2 i j k m t : Nat) : Nat := (if t = W.2.1 * i + m then W.2.2 (25 * m + 5 * j + k) else 0) + (if t = s1 + W.2.1 * j + m then W.2.2 (25 * i + 5 * m + k) else 0) + (if t = s2 + W.2.1 * m + k then W.1 - W.2.2 (25 * i + 5 * j + m) else 0)
def der (W : Wd) (s1 s2 i j k t : Nat) : Nat := sg W.2.1 (fun m => der1 W s1 s2 i j k m t)
/-- the equations up to (i, j, k) in the order of the loops -/
def SolD (W : Wd) (wd s1 s2 i j k : Nat) (u : Nat → Nat) : Prop := ∀ a b c, a < W.2.1 → b < W.2.1 → c < W.2.1 → (a < i ∨ a = i ∧ (b < j ∨ b = j ∧ c < k)) → dot wd (der W s1 s2 a b c) u % W.1 = 0
def SolDA (W : Wd) (wd s1 s2 : Nat) (u : Nat → Nat) : Prop := ∀ a b c, a < W.2.1 → b < W.2.1 → c < W.2.1 → dot wd (der W s1 s2 a b c) u % W.1 = 0
noncomputable def rkD (W : Wd) (wd s1 s2 : Nat) : Nat := rkf W.1 wd (SolDA W wd s1 s2)
section FD
variable {h : AH} {E o : Nat} {W : Wd} {f : Int32}
/-- where the rows stand -/
def DSt (h hh : AH) (E o : Nat) (W : Wd) (f : Int32) (wd s1 s2 i j k : Nat) : Prop := ∃ r led rows, FSh h E ∧ WAt h o W f ∧ EAt h E W.1 wd r led rows (fun _ => 0) ∧ Er E (E + 83) hh h ∧ EOk W.1 wd led rows ∧ r = rk wd led ∧ ∀ u, Sol W.1 wd led rows u ↔ SolD W wd s1 s2 i j k u
theorem DSt.step {hh : AH} {wd s1 s2 i j k i2 j2 k2 : Nat} (q : DSt h hh E o W f wd s1 s2 i j k) (e : ∀ a b c, a < W.2.1 → b < W.2.1 → c < W.2.1 → ((a < i ∨ a = i ∧ (b < j ∨ b = j ∧ c < k)) ↔ (a < i2 ∨ a = i2 ∧ (b < j2 ∨ b = j2 ∧ c < k2)))) : DSt h hh E o W f wd s1 s2 i2 j2 k2 := by
  obtain ⟨r, led, rows, a1, a2, a3, a4, a5, a6, a7⟩ := q
  refine ⟨r, led, rows, a1, a2, a3, a4, a5, a6, fun u => (a7 u).trans ?_⟩
  constructor
  · intro q a b c ha hb hc hx
    exact q a b c ha hb hc ((e a b c ha hb hc).mpr hx)
  · intro q a b c ha hb hc hx
    exact q a b c ha hb hc ((e a b c ha hb hc).mp hx)
section LD
variable {sz wd s1 s2 : Nat} {hh : AH}
theorem l_der_m {i j k r : Nat} {led : Nat → Bool} {rows : Nat → Nat → Nat} (hk : Wok W) (d : o + 3 ≤ E ∨ E + 83 ≤ o) (hwd : wd ≤ 75) (hw1 : W.2.1 * W.2.1 ≤ wd) (hw2 : s1 + W.2.1 * W.2.1 ≤ wd) (hw3 : s2 + W.2.1 * W.2.1 ≤ wd) (hi : i < W.2.1) (hj : j < W.2.1) (hkk : k < W.2.1) {Pr : AH → Prop}
    (kk : ∀ h1, FSh h1 E → WAt h1 o W f → EAt h1 E W.1 wd r led rows (fun t => der W s1 s2 i j k t % W.1) → Er E (E + 83) hh h1 → VV MX1_demandDerivative sz Pr h1 136 [some (.ref (E + 79)), some (.ref o), some (.int (nI s1)), some (.int (nI s2)), some (.int (nI W.2.1)), some (.int (nI i)), some (.int (nI j)), some (.int (nI k)), none] []) :
    ∀ (n m : Nat), n = W.2.1 - m → m ≤ W.2.1 → ∀ h1, FSh h1 E → WAt h1 o W f → EAt h1 E W.1 wd r led rows (fun t => sg m (fun m => der1 W s1 s2 i j k m t) % W.1) → Er E (E + 83) hh h1 → VV MX1_demandDerivative sz Pr h1 39 [some (.ref (E + 79)), some (.ref o), some (.int (nI s1)), some (.int (nI s2)), some (.int (nI W.2.1)), some (.int (nI i)), some (.int (nI j)), some (.int (nI k)), some (.int (nI m))] [] := by
  obtain ⟨b1, b2, b3, b4, b5⟩ := hk.b
  have m1 : ∀ x, x < W.2.1 → W.2.1 * x + W.2.1 ≤ W.2.1 * W.2.1 := fun x hx => by
    have := Nat.mul_le_mul_left W.2.1 (show x + 1 ≤ W.2.1 by omega)
    rw [Nat.mul_add, Nat.mul_one] at this
    exact this
  intro n
  induction n with
  | zero =>
    intro m e1 e2 h1 hF hW hE he
    have e : m = W.2.1 := by omega
    subst e
    refine e_iload (pc := 39) dX1_demandDerivative_39 rfl ?_
    refine e_iload (pc := 41) dX1_demandDerivative_41 rfl ?_
    refine n_icmp_ge (pc := 43) (tgt := 136) dX1_demandDerivative_43 (by decide) (by omega) (by omega) (fun hb_ => ?_) (fun c => absurd c (by omega))
    refine V.mask [true, true, true, true, true, true, true, true, false] ?_
    exact kk h1 hF hW hE he
  | succ n ih =>
    intro m e1 e2 h1 hF hW hE he
    obtain ⟨-, g0, -, -, -⟩ := id hF
    obtain ⟨z0, -, -, -, -⟩ := id hE
    obtain ⟨w0, -, -⟩ := id hW
    have x1 := m1 i hi
    have x2 := m1 j hj
    have x3 := m1 m (by omega)
    have y1 := hk.c (25 * m + 5 * j + k)
    have y2 := hk.c (25 * i + 5 * m + k)
    have y3 := hk.c (25 * i + 5 * j + m)
    have pp0 : 0 < W.1 := by omega
    refine e_iload (pc := 39) dX1_demandDerivative_39 rfl ?_
    refine e_iload (pc := 41) dX1_demandDerivative_41 rfl ?_
    refine n_icmp_ge (pc := 43) (tgt := 136) dX1_demandDerivative_43 (by decide) (by omega) (by omega) (fun c => absurd c (by omega)) (fun hb_ => ?_)
    refine e_aload_n (pc := 46) dX1_demandDerivative_46 rfl rfl ?_
    refine e_get (pc := 47) fl_X1_21 dX1_demandDerivative_47 (by repeat (first | assumption | exact hset_eq _ _ _ | rw [hset_ne _ _ (by omega)])) (by rfl) ?_
    refine e_iload (pc := 50) dX1_demandDerivative_50 rfl ?_
    refine e_iload (pc := 52) dX1_demandDerivative_52 rfl ?_
    refine n_imul (pc := 54) dX1_demandDerivative_54 ?_
    refine e_iload (pc := 55) dX1_demandDerivative_55 rfl ?_
    refine n_iadd (pc := 57) dX1_demandDerivative_57 ?_
    refine e_aload_n (pc := 58) dX1_demandDerivative_58 rfl rfl ?_
    refine e_iload (pc := 59) dX1_demandDerivative_59 rfl ?_
    refine e_iload (pc := 61) dX1_demandDerivative_61 rfl ?_
    refine e_iload (pc := 63) dX1_demandDerivative_63 rfl ?_
    refine n_VP (pc := 65) (c_X9_cell hW hk (show m < W.2.1 by omega) hj hkk) bX9_cell q_i_X9_cell q_s_X9_cell q_m_X1_60 dX1_demandDerivative_65 rfl rfl (by repeat (first | assumption | exact hset_eq _ _ _ | rw [hset_ne _ _ (by omega)])) rfl rfl (by exact Nat.le_of_ble_eq_true rfl) ⟨by decide, by decide⟩ ⟨rfl, rfl, Nat.zero_le _, Nat.zero_le _⟩ ?_
    refine n_Vv (pc := 68) (c_X0_add hE (by omega) hwd (show W.2.1 * i + m < wd by omega) (by omega) (Nat.mod_lt _ pp0)) bX0_add q_i_X0_add q_s_X0_add q_m_X1_50 dX1_demandDerivative_68 rfl rfl (by repeat (first | assumption | exact hset_eq _ _ _ | rw [hset_ne _ _ (by omega)])) rfl rfl (by exact Nat.le_of_ble_eq_true rfl) ⟨by decide, by decide⟩ ⟨rfl, rfl, Nat.zero_le _, Nat.zero_le _⟩ (fun h2 hp => ?_)
    obtain ⟨p1, p2⟩ := hp
    have hF2 := hF.ee p1.sh p2
    have hW2 := hW.er p2.er (by omega)
    obtain ⟨-, g0, -, -, -⟩ := id hF2
    obtain ⟨z0, -, -, -, -⟩ := id p1
    obtain ⟨w0, -, -⟩ := id hW2
    refine e_aload_n (pc := 71) dX1_demandDerivative_71 rfl rfl ?_
    refine e_get (pc := 72) fl_X1_21 dX1_demandDerivative_72 (by repeat (first | assumption | exact hset_eq _ _ _ | rw [hset_ne _ _ (by omega)])) (by rfl) ?_
    refine e_iload_n (pc := 75) dX1_demandDerivative_75 rfl rfl ?_
    refine e_iload (pc := 76) dX1_demandDerivative_76 rfl ?_
    refine e_iload (pc := 78) dX1_demandDerivative_78 rfl ?_
    refine n_imul (pc := 80) dX1_demandDerivative_80 ?_
    refine n_iadd (pc := 81) dX1_demandDerivative_81 ?_
    refine e_iload (pc := 82) dX1_demandDerivative_82 rfl ?_
    refine n_iadd (pc := 84) dX1_demandDerivative_84 ?_
    refine e_aload_n (pc := 85) dX1_demandDerivative_85 rfl rfl ?_
    refine e_iload (pc := 86) dX1_demandDerivative_86 rfl ?_
    refine e_iload (pc := 88) dX1_demandDerivative_88 rfl ?_
    refine e_iload (pc := 90) dX1_demandDerivative_90 rfl ?_
    refine n_VP (pc := 92) (c_X9_cell hW2 hk hi (show m < W.2.1 by omega) hkk) bX9_cell q_i_X9_cell q_s_X9_cell q_m_X1_60 dX1_demandDerivative_92 rfl rfl (by repeat (first | assumption | exact hset_eq _ _ _ | rw [hset_ne _ _ (by omega)])) rfl rfl (by exact Nat.le_of_ble_eq_true rfl) ⟨by decide, by decide⟩ ⟨rfl, rfl, Nat.zero_le _, Nat.zero_le _⟩ ?_
    have lt2 : ∀ t, (if t = W.2.1 * i + m then (sg m (fun m => der1 W s1 s2 i j k m t) % W.1 + W.2.2 (25 * m + 5 * j + k)) % W.1 else sg m (fun m => der1 W s1 s2 i j k m t) % W.1) < W.1 := fun t => by split <;> exact Nat.mod_lt _ pp0
    refine n_Vv (pc := 95) (c_X0_add p1 (by omega) hwd (show s1 + W.2.1 * j + m < wd by omega) (by omega) (lt2 _)) bX0_add q_i_X0_add q_s_X0_add q_m_X1_50 dX1_demandDerivative_95 rfl rfl (by assumption) rfl rfl (by exact Nat.le_of_ble_eq_true rfl) ⟨by decide, by decide⟩ ⟨rfl, rfl, Nat.zero_le _, Nat.zero_le _⟩ (fun h3 hp => ?_)
    obtain ⟨p3, p4⟩ := hp
    have hF3 := hF2.ee p3.sh p4
    have hW3 := hW2.er p4.er (by omega)
    obtain ⟨-, g0, -, -, -⟩ := id hF3
    obtain ⟨z0, -, -, -, -⟩ := id p3
    obtain ⟨w0, -, -⟩ := id hW3
    refine e_aload_n (pc := 98) dX1_demandDerivative_98 rfl rfl ?_
    refine e_get (pc := 99) fl_X1_21 dX1_demandDerivative_99 (by repeat (first | assumption | exact hset_eq _ _ _ | rw [hset_ne _ _ (by omega)])) (by rfl) ?_
    refine e_iload_n (pc := 102) dX1_demandDerivative_102 rfl rfl ?_
    refine e_iload (pc := 103) dX1_demandDerivative_103 rfl ?_
    refine e_iload (pc := 105) dX1_demandDerivative_105 rfl ?_
    refine n_imul (pc := 107) dX1_demandDerivative_107 ?_
    refine n_iadd (pc := 108) dX1_demandDerivative_108 ?_
    refine e_iload (pc := 109) dX1_demandDerivative_109 rfl ?_
    refine n_iadd (pc := 111) dX1_demandDerivative_111 ?_
    refine e_aload_n (pc := 112) dX1_demandDerivative_112 rfl rfl ?_
    refine n_VP (pc := 113) (c_X9_prime hW3) bX9_prime q_i_X9_prime q_s_X9_prime q_m_X1_31 dX1_demandDerivative_113 rfl rfl (by repeat (first | assumption | exact hset_eq _ _ _ | rw [hset_ne _ _ (by omega)])) rfl rfl (by exact Nat.le_of_ble_eq_true rfl) ⟨by decide, by decide⟩ ⟨rfl, rfl, Nat.zero_le _, Nat.zero_le _⟩ ?_
    refine e_aload_n (pc := 116) dX1_demandDerivative_116 rfl rfl ?_
    refine e_iload (pc := 117) dX1_demandDerivative_117 rfl ?_
    refine e_iload (pc := 119) dX1_demandDerivative_119 rfl ?_
    refine e_iload (pc := 121) dX1_demandDerivative_121 rfl ?_
    refine n_VP (pc := 123) (c_X9_cell hW3 hk hi hj (show m < W.2.1 by omega)) bX9_cell q_i_X9_cell q_s_X9_cell q_m_X1_60 dX1_demandDerivative_123 rfl rfl (by repeat (first | assumption | exact hset_eq _ _ _ | rw [hset_ne _ _ (by omega)])) rfl rfl (by exact Nat.le_of_ble_eq_true rfl) ⟨by decide, by decide⟩ ⟨rfl, rfl, Nat.zero_le _, Nat.zero_le _⟩ ?_
    refine n_isub (pc := 126) dX1_demandDerivative_126 (by omega) ?_
    refine n_Vv (pc := 127) (c_X0_add p3 (by omega) hwd (show s2 + W.2.1 * m + k < wd by omega) (by omega) (by split <;> first | exact lt2 _ | exact Nat.mod_lt _ pp0)) bX0_add q_i_X0_add q_s_X0_add q_m_X1_50 dX1_demandDerivative_127 rfl rfl (by assumption) rfl rfl (by exact Nat.le_of_ble_eq_true rfl) ⟨by decide, by decide⟩ ⟨rfl, rfl, Nat.zero_le _, Nat.zero_le _⟩ (fun h4 hp => ?_)
    obtain ⟨p5, p6⟩ := hp
    refine n_inc (pc := 130) dX1_demandDerivative_130 rfl (by decide) ?_
    refine e_goto (pc := 133) (tgt := 39) dX1_demandDerivative_133 (by decide) ?_
    refine ih (m + 1) (by omega) (by omega) h4 (hF3.ee p5.sh p6) (hW3.er p6.er (by omega)) ?_ (he.tr ((p2.er.tr (p4.er.tr p6.er)).mono (by omega) (by omega)))
    obtain ⟨a1, a2, a3, a4, ⟨fx, a5, a6⟩⟩ := p5
    refine ⟨a1, a2, a3, a4, fx, a5, fun t ht => ?_⟩
    rw [a6 t ht]
    dsimp only
    refine congrArg nI ?_
    rw [bump_mod, bump_mod, bump_mod]
    show _ = (sg m _ + der1 W s1 s2 i j k m t) % W.1
    unfold der1
    simp only [Nat.add_assoc]
theorem l_der_k {i j : Nat} (hk : Wok W) (d : o + 3 ≤ E ∨ E + 83 ≤ o) (hwd : 1 ≤ wd ∧ wd ≤ 75) (hw1 : W.2.1 * W.2.1 ≤ wd) (hw2 : s1 + W.2.1 * W.2.1 ≤ wd) (hw3 : s2 + W.2.1 * W.2.1 ≤ wd) (hi : i < W.2.1) (hj : j < W.2.1) {Pr : AH → Prop}
    (kk : ∀ h1, DSt h1 hh E o W f wd s1 s2 i (j + 1) 0 → VV MX1_demandDerivative sz Pr h1 150 [some (.ref (E + 79)), some (.ref o), some (.int (nI s1)), some (.int (nI s2)), some (.int (nI W.2.1)), some (.int (nI i)), some (.int (nI j)), none, none] []) :
    ∀ (n k : Nat), n = W.2.1 - k → k ≤ W.2.1 → ∀ h1, DSt h1 hh E o W f wd s1 s2 i j k → VV MX1_demandDerivative sz Pr h1 29 [some (.ref (E + 79)), some (.ref o), some (.int (nI s1)), some (.int (nI s2)), some (.int (nI W.2.1)), some (.int (nI i)), some (.int (nI j)), some (.int (nI k)), none] [] := by
  obtain ⟨b1, b2, b3, b4, b5⟩ := hk.b
  intro n
  induction n with
  | zero =>
    intro k e1 e2 h1 hD
    have e : k = W.2.1 := by omega
    subst e
    refine e_iload (pc := 29) dX1_demandDerivative_29 rfl ?_
    refine e_iload (pc := 31) dX1_demandDerivative_31 rfl ?_
    refine n_icmp_ge (pc := 33) (tgt := 150) dX1_demandDerivative_33 (by decide) (by omega) (by omega) (fun hb_ => ?_) (fun c => absurd c (by omega))
    refine V.mask [true, true, true, true, true, true, true, false, false] ?_
    exact kk h1 (hD.step (fun a b c ha hb hc => by omega))
  | succ n ih =>
    intro k e1 e2 h1 hD
    obtain ⟨r, led, rows, a1, a2, a3, a4, a5, a6, a7⟩ := hD
    refine e_iload (pc := 29) dX1_demandDerivative_29 rfl ?_
    refine e_iload (pc := 31) dX1_demandDerivative_31 rfl ?_
    refine n_icmp_ge (pc := 33) (tgt := 150) dX1_demandDerivative_33 (by decide) (by omega) (by omega) (fun c => absurd c (by omega)) (fun hb_ => ?_)
    refine n_iconst (pc := 36) 0 dX1_demandDerivative_36 (by decide) ?_
    refine e_istore (pc := 37) dX1_demandDerivative_37 (by decide) ?_
    refine l_der_m (r := r) (led := led) (rows := rows) (hh := hh) hk d hwd.2 hw1 hw2 hw3 hi hj (show k < W.2.1 by omega) (fun h3 hF3 hW3 hE3 he3 => ?_) W.2.1 0 rfl (by omega) h1 a1 a2 ?_ a4
    · obtain ⟨-, g0, -, -, -⟩ := id hF3
      obtain ⟨z0, -, -, -, -⟩ := id hE3
      refine e_aload_n (pc := 136) dX1_demandDerivative_136 rfl rfl ?_
      refine e_get (pc := 137) fl_X1_21 dX1_demandDerivative_137 (by repeat (first | assumption | exact hset_eq _ _ _ | rw [hset_ne _ _ (by omega)])) (by rfl) ?_
      refine n_V (pc := 140) (c_X0_settle hE3 hk.1 hwd.2 a5 a6 (fun t _ => Nat.mod_lt _ (by omega))) bX0_settle q_i_X0_settle q_s_X0_settle q_m_X1_53 dX1_demandDerivative_140 rfl rfl (by repeat (first | assumption | exact hset_eq _ _ _ | rw [hset_ne _ _ (by omega)])) rfl rfl (by exact Nat.le_of_ble_eq_true rfl) ⟨by decide, by decide⟩ ⟨rfl, rfl, Nat.zero_le _, Nat.zero_le _⟩ (fun x h2 hp => ?_)
      obtain ⟨bb, r2, led2, rows2, rfl, p1, ⟨s1', s2', s3', s4', s5'⟩, p2⟩ := hp
      refine e_pop (pc := 143) dX1_demandDerivative_143 rfl ?_
      refine n_inc (pc := 144) dX1_demandDerivative_144 rfl (by decide) ?_
      refine e_goto (pc := 147) (tgt := 29) dX1_demandDerivative_147 (by decide) ?_
      refine ih (k + 1) (by omega) (by omega) h2 ⟨r2, led2, rows2, hF3.ee p1.sh p2, hW3.er p2.er (by omega), p1, he3.tr (p2.er.mono (by omega) (by omega)), s3', s4', fun u => ?_⟩
      rw [s5' u, a7 u, dot_mod (b := der W s1 s2 i j k) u (fun t _ => Nat.mod_mod _ _)]
      constructor
      · intro ⟨y1, y2⟩ a b c ha hb hc hx
        by_cases e : a = i ∧ b = j ∧ c = k
        · obtain ⟨rfl, rfl, rfl⟩ := e; exact y2
        · exact y1 a b c ha hb hc (by omega)
      · intro y
        exact ⟨fun a b c ha hb hc hx => y a b c ha hb hc (by omega), y i j k hi hj (by omega) (by omega)⟩
    · obtain ⟨c1, c2, c3, c4, ⟨fx, c5, c6⟩⟩ := a3
      exact ⟨c1, c2, c3, c4, fx, c5, fun t ht => by rw [c6 t ht]; exact congrArg nI (Nat.zero_mod _).symm⟩
theorem l_der_j {i : Nat} (hk : Wok W) (d : o + 3 ≤ E ∨ E + 83 ≤ o) (hwd : 1 ≤ wd ∧ wd ≤ 75) (hw1 : W.2.1 * W.2.1 ≤ wd) (hw2 : s1 + W.2.1 * W.2.1 ≤ wd) (hw3 : s2 + W.2.1 * W.2.1 ≤ wd) (hi : i < W.2.1) {Pr : AH → Prop}
    (kk : ∀ h1, DSt h1 hh E o W f wd s1 s2 (i + 1) 0 0 → VV MX1_demandDerivative sz Pr h1 156 [some (.ref (E + 79)), some (.ref o), some (.int (nI s1)), some (.int (nI s2)), some (.int (nI W.2.1)), some (.int (nI i)), none, none, none] []) :
    ∀ (n j : Nat), n = W.2.1 - j → j ≤ W.2.1 → ∀ h1, DSt h1 hh E o W f wd s1 s2 i j 0 → VV MX1_demandDerivative sz Pr h1 19 [some (.ref (E + 79)), some (.ref o), some (.int (nI s1)), some (.int (nI s2)), some (.int (nI W.2.1)), some (.int (nI i)), some (.int (nI j)), none, none] [] := by
  obtain ⟨b1, b2, b3, b4, b5⟩ := hk.b
  intro n
  induction n with
  | zero =>
    intro j e1 e2 h1 hD
    have e : j = W.2.1 := by omega
    subst e
    refine e_iload (pc := 19) dX1_demandDerivative_19 rfl ?_
    refine e_iload (pc := 21) dX1_demandDerivative_21 rfl ?_
    refine n_icmp_ge (pc := 23) (tgt := 156) dX1_demandDerivative_23 (by decide) (by omega) (by omega) (fun hb_ => ?_) (fun c => absurd c (by omega))
    refine V.mask [true, true, true, true, true, true, false, false, false] ?_
    exact kk h1 (hD.step (fun a b c ha hb hc => by omega))
  | succ n ih =>
    intro j e1 e2 h1 hD
    refine e_iload (pc := 19) dX1_demandDerivative_19 rfl ?_
    refine e_iload (pc := 21) dX1_demandDerivative_21 rfl ?_
    refine n_icmp_ge (pc := 23) (tgt := 156) dX1_demandDerivative_23 (by decide) (by omega) (by omega) (fun c => absurd c (by omega)) (fun hb_ => ?_)
    refine n_iconst (pc := 26) 0 dX1_demandDerivative_26 (by decide) ?_
    refine e_istore (pc := 27) dX1_demandDerivative_27 (by decide) ?_
    refine l_der_k hk d hwd hw1 hw2 hw3 hi (show j < W.2.1 by omega) (fun h3 hD3 => ?_) W.2.1 0 rfl (by omega) h1 hD
    refine n_inc (pc := 150) dX1_demandDerivative_150 rfl (by decide) ?_
    refine e_goto (pc := 153) (tgt := 19) dX1_demandDerivative_153 (by decide) ?_
    exact ih (j + 1) (by omega) (by omega) h3 hD3
theorem l_der_i (hk : Wok W) (d : o + 3 ≤ E ∨ E + 83 ≤ o) (hwd : 1 ≤ wd ∧ wd ≤ 75) (hw1 : W.2.1 * W.2.1 ≤ wd) (hw2 : s1 + W.2.1 * W.2.1 ≤ wd) (hw3 : s2 + W.2.1 * W.2.1 ≤ wd) {Pr : AH → Prop}
    (kk : ∀ h1, DSt h1 hh E o W f wd s1 s2 W.2.1 0 0 → Pr h1) :
    ∀ (n i : Nat), n = W.2.1 - i → i ≤ W.2.1 → ∀ h1, DSt h1 hh E o W f wd s1 s2 i 0 0 → VV MX1_demandDerivative sz Pr h1 9 [some (.ref (E + 79)), some (.ref o), some (.int (nI s1)), some (.int (nI s2)), some (.int (nI W.2.1)), some (.int (nI i)), none, none, none] [] := by
  obtain ⟨b1, b2, b3, b4, b5⟩ := hk.b
  intro n
  induction n with
  | zero =>
    intro i e1 e2 h1 hD
    have e : i = W.2.1 := by omega
    subst e
    refine e_iload (pc := 9) dX1_demandDerivative_9 rfl ?_
    refine e_iload (pc := 11) dX1_demandDerivative_11 rfl ?_
    refine n_icmp_ge (pc := 13) (tgt := 162) dX1_demandDerivative_13 (by decide) (by omega) (by omega) (fun hb_ => ?_) (fun c => absurd c (by omega))
    exact n_vret (pc := 162) dX1_demandDerivative_162 rfl (kk h1 hD)
  | succ n ih =>
    intro i e1 e2 h1 hD
    refine e_iload (pc := 9) dX1_demandDerivative_9 rfl ?_
    refine e_iload (pc := 11) dX1_demandDerivative_11 rfl ?_
    refine n_icmp_ge (pc := 13) (tgt := 162) dX1_demandDerivative_13 (by decide) (by omega) (by omega) (fun c => absurd c (by omega)) (fun hb_ => ?_)
    refine n_iconst (pc := 16) 0 dX1_demandDerivative_16 (by decide) ?_
    refine e_istore (pc := 17) dX1_demandDerivative_17 (by decide) ?_
    refine l_der_j hk d hwd hw1 hw2 hw3 (show i < W.2.1 by omega) (fun h3 hD3 => ?_) W.2.1 0 rfl (by omega) h1 hD
    refine n_inc (pc := 156) dX1_demandDerivative_156 rfl (by decide) ?_
    refine e_goto (pc := 159) (tgt := 9) dX1_demandDerivative_159 (by decide) ?_
    exact ih (i + 1) (by omega) (by omega) h3 hD3
theorem c_X1_demandDerivative (hF : FSh h E) (hW : WAt h o W f) (hk : Wok W) (d : o + 3 ≤ E ∨ E + 83 ≤ o) (hwd : 1 ≤ wd ∧ wd ≤ 75) (hw1 : W.2.1 * W.2.1 ≤ wd) (hw2 : s1 + W.2.1 * W.2.1 ≤ wd) (hw3 : s2 + W.2.1 * W.2.1 ≤ wd) (hE : EAt h E W.1 wd 0 (fun _ => false) (fun _ _ => 0) (fun _ => 0)) : CV yX1_demandDerivative MX1_demandDerivative [.ref (E + 79), .ref o, .int (nI s1), .int (nI s2)] h (fun h' => ∃ led rows, FSh h' E ∧ WAt h' o W f ∧ EAt h' E W.1 wd (rkD W wd s1 s2) led rows (fun _ => 0) ∧ rkD W wd s1 s2 ≤ wd ∧ Er E (E + 83) h h') := by
  obtain ⟨b1, b2, b3, b4, b5⟩ := hk.b
  obtain ⟨w0, -, -⟩ := id hW
  refine CV.ofV (by decide) rfl rfl (by simp [Value.category]) (by exact Nat.le_of_ble_eq_true rfl) (fun sz => ?_)
  refine e_aload_n (pc := 0) dX1_demandDerivative_0 rfl rfl ?_
  refine n_VP (pc := 1) (c_X9_size hW) bX9_size q_i_X9_size q_s_X9_size q_m_X1_25 dX1_demandDerivative_1 rfl rfl (by repeat (first | assumption | exact hset_eq _ _ _ | rw [hset_ne _ _ (by omega)])) rfl rfl (by exact Nat.le_of_ble_eq_true rfl) ⟨by decide, by decide⟩ ⟨rfl, rfl, Nat.zero_le _, Nat.zero_le _⟩ ?_
  refine e_istore (pc := 4) dX1_demandDerivative_4 (by decide) ?_
  refine n_iconst (pc := 6) 0 dX1_demandDerivative_6 (by decide) ?_
  refine e_istore (pc := 7) dX1_demandDerivative_7 (by decide) ?_
  refine l_der_i hk d hwd hw1 hw2 hw3 (fun h1 hD => ?_) W.2.1 0 rfl (by omega) h ⟨0, _, _, hF, hW, hE, Er.rf _ _ h, EOk_0 _ _, (rk_0 _).symm, fun u => ⟨fun _ a b c ha hb hc hx => absurd hx (by omega), fun _ => Sol_0 _ _ u⟩⟩
  obtain ⟨r, led, rows, a1, a2, a3, a4, a5, a6, a7⟩ := hD
  have hr : r = rkD W wd s1 s2 := rkf_eq hk.1 ⟨led, rows, a5, a6, fun u => (a7 u).trans ⟨fun q a b c ha hb hc => q a b c ha hb hc (Or.inl ha), fun q a b c ha hb hc _ => q a b c ha hb hc⟩⟩
  rw [← hr]
  exact ⟨led, rows, a1, a2, a3, by rw [a6]; exact rk_le _ _, a4⟩
end LD
theorem c_X1_derivations (hF : FSh h E) (hW : WAt h o W f) (hk : Wok W) (d : o + 3 ≤ E ∨ E + 83 ≤ o) : CI yX1_derivations MX1_derivations [.ref (E + 79), .ref o] h (fun z h' => (z = nI (W.2.1 * W.2.1 - rkD W (W.2.1 * W.2.1) 0 0) ∧ rkD W (W.2.1 * W.2.1) 0 0 ≤ W.2.1 * W.2.1) ∧ FSh h' E ∧ Er E (E + 83) h h') := by
  obtain ⟨b1, b2, b3, b4, b5⟩ := hk.b
  obtain ⟨w0, -, -⟩ := id hW
  obtain ⟨⟨⟨s1, s2, s3, s4⟩, -⟩, g0, -, -, -⟩ := id hF
  have n1 : 1 ≤ W.2.1 * W.2.1 := Nat.mul_le_mul b3 b3
  have n2 : W.2.1 * W.2.1 ≤ 5 * 5 := Nat.mul_le_mul b4 b4
  refine CI.ofV (by decide) rfl rfl (by simp [Value.category]) (by exact Nat.le_of_ble_eq_true rfl) (fun sz => ?_)
  refine e_aload_n (pc := 0) dX1_derivations_0 rfl rfl ?_
  refine n_VP (pc := 1) (c_X9_size hW) bX9_size q_i_X9_size q_s_X9_size q_m_X1_25 dX1_derivations_1 rfl rfl (by repeat (first | assumption | exact hset_eq _ _ _ | rw [hset_ne _ _ (by omega)])) rfl rfl (by exact Nat.le_of_ble_eq_true rfl) ⟨by decide, by decide⟩ ⟨rfl, rfl, Nat.zero_le _, Nat.zero_le _⟩ ?_
  refine e_aload_n (pc := 4) dX1_derivations_4 rfl rfl ?_
  refine n_VP (pc := 5) (c_X9_size hW) bX9_size q_i_X9_size q_s_X9_size q_m_X1_25 dX1_derivations_5 rfl rfl (by repeat (first | assumption | exact hset_eq _ _ _ | rw [hset_ne _ _ (by omega)])) rfl rfl (by exact Nat.le_of_ble_eq_true rfl) ⟨by decide, by decide⟩ ⟨rfl, rfl, Nat.zero_le _, Nat.zero_le _⟩ ?_
  refine n_imul (pc := 8) dX1_derivations_8 ?_
  refine e_istore_n (pc := 9) dX1_derivations_9 rfl (by decide) ?_
  refine e_aload_n (pc := 10) dX1_derivations_10 rfl rfl ?_
  refine e_get (pc := 11) fl_X1_21 dX1_derivations_11 (by repeat (first | assumption | exact hset_eq _ _ _ | rw [hset_ne _ _ (by omega)])) (by rfl) ?_
  refine e_aload_n (pc := 14) dX1_derivations_14 rfl rfl ?_
  refine n_VP (pc := 15) (c_X9_prime hW) bX9_prime q_i_X9_prime q_s_X9_prime q_m_X1_31 dX1_derivations_15 rfl rfl (by repeat (first | assumption | exact hset_eq _ _ _ | rw [hset_ne _ _ (by omega)])) rfl rfl (by exact Nat.le_of_ble_eq_true rfl) ⟨by decide, by decide⟩ ⟨rfl, rfl, Nat.zero_le _, Nat.zero_le _⟩ ?_
  refine e_iload_n (pc := 18) dX1_derivations_18 rfl rfl ?_
  refine n_Vv (pc := 19) (c_X0_start hF.1 hk.1 (w := W.2.1 * W.2.1) (by omega)) bX0_start q_i_X0_start q_s_X0_start q_m_X1_40 dX1_derivations_19 rfl rfl (by repeat (first | assumption | exact hset_eq _ _ _ | rw [hset_ne _ _ (by omega)])) rfl rfl (by exact Nat.le_of_ble_eq_true rfl) ⟨by decide, by decide⟩ ⟨rfl, rfl, Nat.zero_le _, Nat.zero_le _⟩ (fun h2 hp => ?_)
  obtain ⟨p1, p2⟩ := hp
  have hF2 := hF.ee p1.sh p2
  have hW2 := hW.er p2.er (by omega)
  obtain ⟨-, g0, -, -, -⟩ := id hF2
  refine e_aload_n (pc := 22) dX1_derivations_22 rfl rfl ?_
  refine e_aload_n (pc := 23) dX1_derivations_23 rfl rfl ?_
  refine n_iconst (pc := 24) 0 dX1_derivations_24 (by decide) ?_
  refine n_iconst (pc := 25) 0 dX1_derivations_25 (by decide) ?_
  refine n_Vv (pc := 26) (c_X1_demandDerivative (s1 := 0) (s2 := 0) hF2 hW2 hk d (wd := W.2.1 * W.2.1) (by omega) (by omega) (by omega) (by omega) p1) bX1_demandDerivative q_i_X1_demandDerivative q_s_X1_demandDerivative q_m_X1_84 dX1_derivations_26 rfl rfl (by repeat (first | assumption | exact hset_eq _ _ _ | rw [hset_ne _ _ (by omega)])) rfl rfl (by exact Nat.le_of_ble_eq_true rfl) ⟨by decide, by decide⟩ ⟨rfl, rfl, Nat.zero_le _, Nat.zero_le _⟩ (fun h2 hp => ?_)
  obtain ⟨led, rows, p3, p4, p5, p6, p7⟩ := hp
  obtain ⟨-, g0, -, -, -⟩ := id p3
  obtain ⟨z0, -, -, -, -⟩ := id p5
  refine e_iload_n (pc := 29) dX1_derivations_29 rfl rfl ?_
  refine e_aload_n (pc := 30) dX1_derivations_30 rfl rfl ?_
  refine e_get (pc := 31) fl_X1_21 dX1_derivations_31 (by repeat (first | assumption | exact hset_eq _ _ _ | rw [hset_ne _ _ (by omega)])) (by rfl) ?_
  refine n_VP (pc := 34) (c_X0_rank p5) bX0_rank q_i_X0_rank q_s_X0_rank q_m_X1_57 dX1_derivations_34 rfl rfl (by repeat (first | assumption | exact hset_eq _ _ _ | rw [hset_ne _ _ (by omega)])) rfl rfl (by exact Nat.le_of_ble_eq_true rfl) ⟨by decide, by decide⟩ ⟨rfl, rfl, Nat.zero_le _, Nat.zero_le _⟩ ?_
  refine n_isub (pc := 37) dX1_derivations_37 (by omega) ?_
  exact n_iret (pc := 38) dX1_derivations_38 rfl ⟨⟨rfl, p6⟩, p3, (p2.er.mono (by omega) (by omega)).tr p7⟩
theorem c_X1_triples (hF : FSh h E) (hW : WAt h o W f) (hk : Wok W) (d : o + 3 ≤ E ∨ E + 83 ≤ o) : CI yX1_triples MX1_triples [.ref (E + 79), .ref o] h (fun z h' => (z = nI (3 * (W.2.1 * W.2.1) - rkD W (3 * (W.2.1 * W.2.1)) (W.2.1 * W.2.1) (2 * (W.2.1 * W.2.1))) ∧ rkD W (3 * (W.2.1 * W.2.1)) (W.2.1 * W.2.1) (2 * (W.2.1 * W.2.1)) ≤ 3 * (W.2.1 * W.2.1)) ∧ FSh h' E ∧ Er E (E + 83) h h') := by
  obtain ⟨b1, b2, b3, b4, b5⟩ := hk.b
  obtain ⟨w0, -, -⟩ := id hW
  obtain ⟨⟨⟨s1, s2, s3, s4⟩, -⟩, g0, -, -, -⟩ := id hF
  have n1 : 1 ≤ W.2.1 * W.2.1 := Nat.mul_le_mul b3 b3
  have n2 : W.2.1 * W.2.1 ≤ 5 * 5 := Nat.mul_le_mul b4 b4
  refine CI.ofV (by decide) rfl rfl (by simp [Value.category]) (by exact Nat.le_of_ble_eq_true rfl) (fun sz => ?_)
  refine e_aload_n (pc := 0) dX1_triples_0 rfl rfl ?_
  refine n_VP (pc := 1) (c_X9_size hW) bX9_size q_i_X9_size q_s_X9_size q_m_X1_25 dX1_triples_1 rfl rfl (by repeat (first | assumption | exact hset_eq _ _ _ | rw [hset_ne _ _ (by omega)])) rfl rfl (by exact Nat.le_of_ble_eq_true rfl) ⟨by decide, by decide⟩ ⟨rfl, rfl, Nat.zero_le _, Nat.zero_le _⟩ ?_
  refine e_aload_n (pc := 4) dX1_triples_4 rfl rfl ?_
  refine n_VP (pc := 5) (c_X9_size hW) bX9_size q_i_X9_size q_s_X9_size q_m_X1_25 dX1_triples_5 rfl rfl (by repeat (first | assumption | exact hset_eq _ _ _ | rw [hset_ne _ _ (by omega)])) rfl rfl (by exact Nat.le_of_ble_eq_true rfl) ⟨by decide, by decide⟩ ⟨rfl, rfl, Nat.zero_le _, Nat.zero_le _⟩ ?_
  refine n_imul (pc := 8) dX1_triples_8 ?_
  refine e_istore_n (pc := 9) dX1_triples_9 rfl (by decide) ?_
  refine e_aload_n (pc := 10) dX1_triples_10 rfl rfl ?_
  refine e_get (pc := 11) fl_X1_21 dX1_triples_11 (by repeat (first | assumption | exact hset_eq _ _ _ | rw [hset_ne _ _ (by omega)])) (by rfl) ?_
  refine e_aload_n (pc := 14) dX1_triples_14 rfl rfl ?_
  refine n_VP (pc := 15) (c_X9_prime hW) bX9_prime q_i_X9_prime q_s_X9_prime q_m_X1_31 dX1_triples_15 rfl rfl (by repeat (first | assumption | exact hset_eq _ _ _ | rw [hset_ne _ _ (by omega)])) rfl rfl (by exact Nat.le_of_ble_eq_true rfl) ⟨by decide, by decide⟩ ⟨rfl, rfl, Nat.zero_le _, Nat.zero_le _⟩ ?_
  refine n_iconst (pc := 18) 3 dX1_triples_18 (by decide) ?_
  refine e_iload_n (pc := 19) dX1_triples_19 rfl rfl ?_
  refine n_imul (pc := 20) dX1_triples_20 ?_
  refine n_Vv (pc := 21) (c_X0_start hF.1 hk.1 (w := 3 * (W.2.1 * W.2.1)) (by omega)) bX0_start q_i_X0_start q_s_X0_start q_m_X1_40 dX1_triples_21 rfl rfl (by repeat (first | assumption | exact hset_eq _ _ _ | rw [hset_ne _ _ (by omega)])) rfl rfl (by exact Nat.le_of_ble_eq_true rfl) ⟨by decide, by decide⟩ ⟨rfl, rfl, Nat.zero_le _, Nat.zero_le _⟩ (fun h2 hp => ?_)
  obtain ⟨p1, p2⟩ := hp
  have hF2 := hF.ee p1.sh p2
  have hW2 := hW.er p2.er (by omega)
  obtain ⟨-, g0, -, -, -⟩ := id hF2
  refine e_aload_n (pc := 24) dX1_triples_24 rfl rfl ?_
  refine e_aload_n (pc := 25) dX1_triples_25 rfl rfl ?_
  refine e_iload_n (pc := 26) dX1_triples_26 rfl rfl ?_
  refine n_iconst (pc := 27) 2 dX1_triples_27 (by decide) ?_
  refine e_iload_n (pc := 28) dX1_triples_28 rfl rfl ?_
  refine n_imul (pc := 29) dX1_triples_29 ?_
  refine n_Vv (pc := 30) (c_X1_demandDerivative (s1 := W.2.1 * W.2.1) (s2 := 2 * (W.2.1 * W.2.1)) hF2 hW2 hk d (wd := 3 * (W.2.1 * W.2.1)) (by omega) (by omega) (by omega) (by omega) p1) bX1_demandDerivative q_i_X1_demandDerivative q_s_X1_demandDerivative q_m_X1_84 dX1_triples_30 rfl rfl (by repeat (first | assumption | exact hset_eq _ _ _ | rw [hset_ne _ _ (by omega)])) rfl rfl (by exact Nat.le_of_ble_eq_true rfl) ⟨by decide, by decide⟩ ⟨rfl, rfl, Nat.zero_le _, Nat.zero_le _⟩ (fun h2 hp => ?_)
  obtain ⟨led, rows, p3, p4, p5, p6, p7⟩ := hp
  obtain ⟨-, g0, -, -, -⟩ := id p3
  obtain ⟨z0, -, -, -, -⟩ := id p5
  refine n_iconst (pc := 33) 3 dX1_triples_33 (by decide) ?_
  refine e_iload_n (pc := 34) dX1_triples_34 rfl rfl ?_
  refine n_imul (pc := 35) dX1_triples_35 ?_
  refine e_aload_n (pc := 36) dX1_triples_36 rfl rfl ?_
  refine e_get (pc := 37) fl_X1_21 dX1_triples_37 (by repeat (first | assumption | exact hset_eq _ _ _ | rw [hset_ne _ _ (by omega)])) (by rfl) ?_
  refine n_VP (pc := 40) (c_X0_rank p5) bX0_rank q_i_X0_rank q_s_X0_rank q_m_X1_57 dX1_triples_40 rfl rfl (by repeat (first | assumption | exact hset_eq _ _ _ | rw [hset_ne _ _ (by omega)])) rfl rfl (by exact Nat.le_of_ble_eq_true rfl) ⟨by decide, by decide⟩ ⟨rfl, rfl, Nat.zero_le _, Nat.zero_le _⟩ ?_
  refine n_isub (pc := 43) dX1_triples_43 (by omega) ?_
  exact n_iret (pc := 44) dX1_triples_44 rfl ⟨⟨rfl, p6⟩, p3, (p2.er.mono (by omega) (by omega)).tr p7⟩
end FD
