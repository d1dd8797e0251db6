/-! ===== Search: attempt and extend, by recursion ===== -/
/-- what lies still while images are sought -/
def SCtx (hh : AH) (B : Nat) (W W2 : Wd) (b cd : Nat → Nat) (bf af : Nat → Nat) (lp rp : Nat → Int32) (lev : Nat → Nat → Nat) (fx : Nat) : Prop :=
  STab hh B W W2 bf af ∧ SBas hh B W lp rp (fun i j => cd (mul W (b i) (b j))) lev ∧ SMath W b cd lp rp lev ∧ Wok W ∧ Wok W2 ∧ W.1 ^ W.2.1 ≤ 27 ∧ (W2.1 = W.1 ∧ W2.2.1 = W.2.1) ∧ fx < W.1 ^ W.2.1
def Dy (h1 : AH) (B : Nat) (W : Wd) (fx l : Nat) (c : Nat → Nat) (cnt : Nat) : Prop :=
  SHd h1 B W.1 W.2.1 (W.1 ^ W.2.1) cnt (nI fx) ∧ AV h1 (B + 12) 5 l (fun t => nI (c t)) ∧ AV h1 (B + 13) 27 (W.1 ^ l) (fun z => nI (lin W.1 W.2.1 c z))
def Pre (W W2 : Wd) (bf af b cd : Nat → Nat) (lev : Nat → Nat → Nat) (fx l : Nat) (c : Nat → Nat) : Prop :=
  (∀ t, c t < W.1 ^ W.2.1) ∧ Ind W.1 W.2.1 c l ∧ (0 < l → 0 < fx → c 0 = fx) ∧ ∀ i j, i < W.2.1 → j < W.2.1 → lev i j < l → mul W2 (bf (c i)) (af (c j)) = lin W.1 W.2.1 c (cd (mul W (b i) (b j)))
def tT (W2 : Wd) (bf af : Nat → Nat) (x y : Nat) : Nat := mul W2 (bf x) (af y)
section ET
variable {B : Nat} {W W2 : Wd} {bf af b cd : Nat → Nat} {lp rp : Nat → Int32} {lev : Nat → Nat → Nat} {fx : Nat} {hh : AH}
theorem cput_at (c : Nat → Nat) (l x : Nat) : cput c l x l = x := if_pos rfl
theorem cput_ne {c : Nat → Nat} {l x t : Nat} (h : t ≠ l) : cput c l x t = c t := if_neg h
theorem cput_lin (hk : Wok W) {c : Nat → Nat} {l x z : Nat} (hz : z < W.1 ^ l) : lin W.1 W.2.1 (cput c l x) z = lin W.1 W.2.1 c z := lin_low (by have := hk.b; omega) hz (fun i hi => cput_ne (by omega))
/-- what a call of extend does -/
def ExtOk (hh : AH) (B : Nat) (W W2 : Wd) (bf af b cd : Nat → Nat) (lev : Nat → Nat → Nat) (fx k : Nat) : Prop :=
  ∀ l, W.2.1 - l = k → l ≤ W.2.1 → ∀ d, 5 + 2 * k ≤ d → ∀ c cnt h1, Sf B hh h1 → Dy h1 B W fx l c cnt → Pre W W2 bf af b cd lev fx l c →
    CV yX5_extend (mxe d) [.ref B, .int (nI l)] h1 (fun h2 => Sf B hh h2 ∧ Dy h2 B W fx l c (cnt + TC (W.1 ^ W.2.1) W.2.1 l c (PM W (tT W2 bf af) b cd fx)))
theorem at_none (hk : Wok W) {c : Nat → Nat} {l x z : Nat} (hl : l < W.2.1) (hz : z < W.1 ^ l) (e : lin W.1 W.2.1 c z = x) : TC (W.1 ^ W.2.1) W.2.1 (l + 1) (cput c l x) (PM W (tT W2 bf af) b cd fx) = 0 := by
  have hp0 : 0 < W.1 := by have := hk.b; omega
  refine TC_0 (fun d hd ⟨_, hI, _⟩ => hI l hl z hz ?_)
  rw [hd l (by omega), cput_at, ← e]
  exact lin_low hp0 hz (fun i hi => by rw [hd i (by omega), cput_ne (by omega)])
section AT
variable {l x d cnt sz : Nat} {c : Nat → Nat}
theorem l_at_3 (hX : SCtx hh B W W2 b cd bf af lp rp lev fx) (hl : l < W.2.1) (hE : ExtOk hh B W W2 bf af b cd lev fx (W.2.1 - l - 1)) (hd : 4 + 2 * (W.2.1 - l) ≤ d) {h1 : AH} (hS : Sf B hh h1) (hP : Pre W W2 bf af b cd lev fx l c) (hx : x < W.1 ^ W.2.1) (hxf : l = 0 → 0 < fx → x = fx) (hn : ∀ z, z < W.1 ^ l → lin W.1 W.2.1 c z ≠ x) (hD : Dy h1 B W fx (l + 1) (cput c l x) cnt) :
    VV (mxa d) sz (fun h2 => Sf B hh h2 ∧ Dy h2 B W fx l c (cnt + TC (W.1 ^ W.2.1) W.2.1 (l + 1) (cput c l x) (PM W (tT W2 bf af) b cd fx))) h1 100 [some (.ref B), some (.int (nI l)), some (.int (nI x)), none, none] [] := by
  obtain ⟨X1, X2, ⟨M1, M2, M3⟩, hk, hk2, hq, hp2, hfx⟩ := hX
  obtain ⟨b1, b2, b3, b4, b5⟩ := hk.b
  obtain ⟨D1, D2, D3⟩ := id hD
  have T1 := X1.sf (h2 := h1) (fun a y z => hS a (by omega) (by omega) (by omega))
  have T2 := X2.sf (h2 := h1) (fun a y z => hS a (by omega) (by omega) (by omega))
  have hcx : ∀ t, cput c l x t < W.1 ^ W.2.1 := fun t => by
    by_cases e : t = l
    · rw [e, cput_at]; exact hx
    · rw [cput_ne e]; exact hP.1 t
  have hdn : ∀ (h2 : AH) (m : Nat), Dy h2 B W fx (l + 1) (cput c l x) m → Dy h2 B W fx l c m := fun h2 m ⟨q1, ⟨g, q2, q3⟩, g', q4, q5⟩ => by
    refine ⟨q1, ⟨g, q2, fun t ht => ?_⟩, g', q4, fun t ht => ?_⟩
    · exact (q3 t (by omega)).trans (congrArg nI (cput_ne (by omega)))
    · have : W.1 ^ l ≤ W.1 ^ (l + 1) := Nat.pow_le_pow_right (by omega) (by omega)
      exact (q5 t (by omega)).trans (congrArg nI (cput_lin hk ht))
  refine e_aload_n (pc := 100) dX5_attempt_100 rfl rfl ?_
  refine e_iload_n (pc := 101) dX5_attempt_101 rfl rfl ?_
  refine n_V (pc := 102) (c_X5_agrees D1 T1 T2 hk hk2 hq hp2 hl (fun t _ => hcx t) hcx D2 D3 (fun i j hi hj => ⟨(M2 i j hi hj).2.2.1, (M2 i j hi hj).2.2.2⟩)) bX5_agrees q_i_X5_agrees q_s_X5_agrees q_m_X5_131 dX5_attempt_102 rfl rfl (by repeat (first | assumption | exact hset_eq _ _ _ | rw [hset_ne _ _ (by omega)])) rfl rfl (by exact Nat.le_of_ble_eq_true rfl) ⟨by show 5 + 1 ≤ d; omega, by exact Nat.le_of_ble_eq_true rfl⟩ ⟨rfl, rfl, Nat.zero_le _, Nat.zero_le _⟩ (fun z h2 hp => ?_)
  obtain ⟨hz, rfl⟩ := hp
  rcases hz with ⟨hA, rfl⟩ | ⟨hA, rfl⟩
  · refine e_if_eq (pc := 105) (tgt := 115) dX5_attempt_105 (by decide) (fun q => absurd q (by decide)) (fun _ => ?_)
    have hP2 : Pre W W2 bf af b cd lev fx (l + 1) (cput c l x) := by
      obtain ⟨P1, P2, P3, P4⟩ := hP
      refine ⟨hcx, fun t ht z hz e => ?_, fun _ h0 => ?_, fun i j hi hj hlv => ?_⟩
      · by_cases e2 : t = l
        · subst e2; rw [cput_at, cput_lin hk hz] at e; exact hn z hz e
        · rw [cput_ne e2] at e
          have e4 : lin W.1 W.2.1 (cput c l x) z = lin W.1 W.2.1 c z := lin_low (by omega) hz (fun i hi => cput_ne (by omega))
          exact P2 t (by omega) z hz (e4.symm.trans e)
      · by_cases e2 : l = 0
        · subst e2; rw [cput_at]; exact hxf rfl h0
        · rw [cput_ne (by omega)]; exact P3 (by omega) h0
      · obtain ⟨m1, m2, m3, m4⟩ := M2 i j hi hj
        by_cases e2 : lev i j = l
        · exact hA i j (by omega) (by omega) e2
        · have m5 : W.1 ^ (lev i j + 1) ≤ W.1 ^ l := Nat.pow_le_pow_right (by omega) (by omega)
          rw [cput_ne (by omega), cput_ne (by omega), cput_lin hk (Nat.lt_of_lt_of_le m4 m5)]
          exact P4 i j hi hj (by omega)
    refine e_aload_n (pc := 108) dX5_attempt_108 rfl rfl ?_
    refine e_iload_n (pc := 109) dX5_attempt_109 rfl rfl ?_
    refine n_iconst (pc := 110) 1 dX5_attempt_110 (by decide) ?_
    refine n_iadd (pc := 111) dX5_attempt_111 ?_
    refine n_Vv (pc := 112) (hE (l + 1) (by omega) (by omega) (d - 1) (by omega) (cput c l x) cnt _ hS hD hP2) (bxe (d - 1)) q_i_X5_extend q_s_X5_extend q_m_X5_71 dX5_attempt_112 rfl rfl (by assumption) rfl rfl (by exact Nat.le_of_ble_eq_true rfl) ⟨by show d - 1 + 1 ≤ d; omega, by exact Nat.le_of_ble_eq_true rfl⟩ ⟨rfl, rfl, Nat.zero_le _, Nat.zero_le _⟩ (fun h3 hp => ?_)
    obtain ⟨p1, p2⟩ := hp
    exact n_vret (pc := 115) dX5_attempt_115 rfl ⟨p1, hdn _ _ p2⟩
  · refine e_if_eq (pc := 105) (tgt := 115) dX5_attempt_105 (by decide) (fun _ => ?_) (fun q => absurd rfl q)
    refine n_vret (pc := 115) dX5_attempt_115 rfl ⟨hS, ?_⟩
    rw [TC_0 (fun e he hPM => hA ?_), Nat.add_zero]
    · exact hdn _ _ hD
    · obtain ⟨e1, e2, e3, e4⟩ := hPM
      intro i j hi hj hlv
      obtain ⟨m1, m2, m3, m4⟩ := M2 i j (by omega) (by omega)
      have e5 := e4 i j (by omega) (by omega)
      rw [hlv] at m4
      rw [← he i (by omega), ← he j (by omega)]
      refine e5.trans ?_
      exact lin_low (by omega) m4 (fun t ht => he t (by omega))
theorem l_at_2 (hX : SCtx hh B W W2 b cd bf af lp rp lev fx) (hl : l < W.2.1) (hE : ExtOk hh B W W2 bf af b cd lev fx (W.2.1 - l - 1)) (hd : 4 + 2 * (W.2.1 - l) ≤ d) (hP : Pre W W2 bf af b cd lev fx l c) (hx : x < W.1 ^ W.2.1) (hxf : l = 0 → 0 < fx → x = fx) (hn : ∀ z, z < W.1 ^ l → lin W.1 W.2.1 c z ≠ x) :
    ∀ (n z : Nat), n = W.1 ^ (l + 1) - z → W.1 ^ l ≤ z → z ≤ W.1 ^ (l + 1) → ∀ h1, Sf B hh h1 → SHd h1 B W.1 W.2.1 (W.1 ^ W.2.1) cnt (nI fx) → AV h1 (B + 12) 5 (l + 1) (fun t => nI (cput c l x t)) → AV h1 (B + 13) 27 z (fun z => nI (lin W.1 W.2.1 (cput c l x) z)) →
    VV (mxa d) sz (fun h2 => Sf B hh h2 ∧ Dy h2 B W fx l c (cnt + TC (W.1 ^ W.2.1) W.2.1 (l + 1) (cput c l x) (PM W (tT W2 bf af) b cd fx))) h1 46 [some (.ref B), some (.int (nI l)), some (.int (nI x)), some (.int (nI (W.1 ^ l))), some (.int (nI z))] [] := by
  have hX0 := hX
  obtain ⟨X1, X2, ⟨M1, M2, M3⟩, hk, hk2, hq, hp2, hfx⟩ := hX
  obtain ⟨b1, b2, b3, b4, b5⟩ := hk.b
  have w2 : W.1 ^ (l + 1) ≤ W.1 ^ W.2.1 := Nat.pow_le_pow_right (by omega) (by omega)
  have w3 : W.1 ^ l * W.1 = W.1 ^ (l + 1) := (Nat.pow_succ W.1 l).symm
  have w4 : 0 < W.1 ^ l := Nat.pow_pos (by omega)
  have hcx : ∀ t, cput c l x t < W.1 ^ W.2.1 := fun t => by
    by_cases e : t = l
    · rw [e, cput_at]; exact hx
    · rw [cput_ne e]; exact hP.1 t
  intro n
  induction n with
  | zero =>
    intro z e1 e2 e3 h1 hS hH hC hI
    have e' : z = W.1 ^ (l + 1) := by omega
    subst e'
    refine e_iload (pc := 46) dX5_attempt_46 rfl ?_
    refine e_iload_n (pc := 48) dX5_attempt_48 rfl rfl ?_
    refine e_aload_n (pc := 49) dX5_attempt_49 rfl rfl ?_
    refine e_get (pc := 50) fl_X5_9 dX5_attempt_50 (by repeat (first | assumption | exact hset_eq _ _ _ | rw [hset_ne _ _ (by omega)])) (by rfl) ?_
    refine n_imul (pc := 53) dX5_attempt_53 ?_
    rw [w3]
    refine n_icmp_ge (pc := 54) (tgt := 100) dX5_attempt_54 (by decide) (by omega) (by omega) (fun hb_ => ?_) (fun c => absurd c (by omega))
    refine V.mask [true, true, true, false, false] ?_
    exact l_at_3 hX0 hl hE hd hS hP hx hxf hn ⟨hH, hC, hI⟩
  | succ n ih =>
    intro z e1 e2 e3 h1 hS hH hC hI
    obtain ⟨gi, i1, i2⟩ := id hI
    obtain ⟨⟨g1, s1, s2⟩, -⟩ := X1.sf (h2 := h1) (fun a y z => hS a (by omega) (by omega) (by omega))
    have y1 := i2 (z - W.1 ^ l) (by omega)
    have l1 : lin W.1 W.2.1 (cput c l x) (z - W.1 ^ l) < W.1 ^ W.2.1 := lin_lt (by omega) b4 (fun t _ => hcx t)
    have ix := ix_lt l1 hx hq
    have y2 := s2 _ _ l1 hx
    refine e_iload (pc := 46) dX5_attempt_46 rfl ?_
    refine e_iload_n (pc := 48) dX5_attempt_48 rfl rfl ?_
    refine e_aload_n (pc := 49) dX5_attempt_49 rfl rfl ?_
    refine e_get (pc := 50) fl_X5_9 dX5_attempt_50 (by repeat (first | assumption | exact hset_eq _ _ _ | rw [hset_ne _ _ (by omega)])) (by rfl) ?_
    refine n_imul (pc := 53) dX5_attempt_53 ?_
    rw [w3]
    refine n_icmp_ge (pc := 54) (tgt := 100) dX5_attempt_54 (by decide) (by omega) (by omega) (fun c => absurd c (by omega)) (fun hb_ => ?_)
    refine e_iload (pc := 57) dX5_attempt_57 rfl ?_
    refine e_aload_n (pc := 59) dX5_attempt_59 rfl rfl ?_
    refine e_get (pc := 60) fl_X5_18 dX5_attempt_60 (by repeat (first | assumption | exact hset_eq _ _ _ | rw [hset_ne _ _ (by omega)])) (by rfl) ?_
    refine n_icmp_ge (pc := 63) (tgt := 100) dX5_attempt_63 (by decide) (by omega) (by omega) (fun c => absurd c (by omega)) (fun hb_ => ?_)
    refine e_aload_n (pc := 66) dX5_attempt_66 rfl rfl ?_
    refine e_get (pc := 67) fl_X5_64 dX5_attempt_67 (by repeat (first | assumption | exact hset_eq _ _ _ | rw [hset_ne _ _ (by omega)])) (by rfl) ?_
    refine e_iload (pc := 70) dX5_attempt_70 rfl ?_
    refine e_aload_n (pc := 72) dX5_attempt_72 rfl rfl ?_
    refine e_get (pc := 73) fl_X5_27 dX5_attempt_73 (by repeat (first | assumption | exact hset_eq _ _ _ | rw [hset_ne _ _ (by omega)])) (by rfl) ?_
    refine e_aload_n (pc := 76) dX5_attempt_76 rfl rfl ?_
    refine e_get (pc := 77) fl_X5_64 dX5_attempt_77 (by repeat (first | assumption | exact hset_eq _ _ _ | rw [hset_ne _ _ (by omega)])) (by rfl) ?_
    refine e_iload (pc := 80) dX5_attempt_80 rfl ?_
    refine e_iload_n (pc := 82) dX5_attempt_82 rfl rfl ?_
    refine n_isub (pc := 83) dX5_attempt_83 (by omega) ?_
    refine e_ialdN (pc := 84) _ dX5_attempt_84 (by repeat (first | assumption | exact hset_eq _ _ _ | rw [hset_ne _ _ (by omega)])) (by rfl) (by omega) (by first | decide | omega) ?_
    rw [y1]
    refine e_aload_n (pc := 85) dX5_attempt_85 rfl rfl ?_
    refine e_get (pc := 86) fl_X5_18 dX5_attempt_86 (by repeat (first | assumption | exact hset_eq _ _ _ | rw [hset_ne _ _ (by omega)])) (by rfl) ?_
    refine n_imul (pc := 89) dX5_attempt_89 ?_
    refine e_iload_n (pc := 90) dX5_attempt_90 rfl rfl ?_
    refine n_iadd (pc := 91) dX5_attempt_91 ?_
    refine e_ialdN (pc := 92) _ dX5_attempt_92 (by repeat (first | assumption | exact hset_eq _ _ _ | rw [hset_ne _ _ (by omega)])) (by rfl) (by omega) (by first | decide | omega) ?_
    rw [y2]
    refine e_iastN (pc := 93) _ dX5_attempt_93 (by repeat (first | assumption | exact hset_eq _ _ _ | rw [hset_ne _ _ (by omega)])) (by rfl) (by omega) (by first | decide | omega) ?_
    refine n_inc (pc := 94) dX5_attempt_94 rfl (by exact Nat.le_of_ble_eq_true rfl) ?_
    refine e_goto (pc := 97) (tgt := 46) dX5_attempt_97 (by decide) ?_
    have up := lin_up (p := W.1) (n := W.2.1) (bs := cput c l x) (i := l) (y := z - W.1 ^ l) (by omega) hl (by
      have : (z - W.1 ^ l) / W.1 ^ l < W.1 - 1 := by
        refine Nat.div_lt_of_lt_mul ?_
        rw [Nat.mul_sub, w3, Nat.mul_one]
        omega
      omega)
    rw [show z - W.1 ^ l + W.1 ^ l = z by omega, cput_at] at up
    refine ih (z + 1) (by omega) (by omega) (by omega) _ (hS.set (by omega)) ((hset_ne _ _ (by omega)).trans hH) (hC.keep (hset_ne _ _ (by omega))) ⟨_, hset_eq _ _ _, fun t ht => ?_⟩
    by_cases e : t = z
    · subst e; rw [pk_us]; exact congrArg nI up.symm
    · rw [pk_un e]; exact i2 t (by omega)
theorem l_at_1 (hX : SCtx hh B W W2 b cd bf af lp rp lev fx) (hl : l < W.2.1) (hE : ExtOk hh B W W2 bf af b cd lev fx (W.2.1 - l - 1)) (hd : 4 + 2 * (W.2.1 - l) ≤ d) (hP : Pre W W2 bf af b cd lev fx l c) (hx : x < W.1 ^ W.2.1) (hxf : l = 0 → 0 < fx → x = fx) {h1 : AH} (hS : Sf B hh h1) (hD : Dy h1 B W fx l c cnt) :
    ∀ (n z : Nat), n = W.1 ^ l - z → z ≤ W.1 ^ l → (∀ t, t < z → lin W.1 W.2.1 c t ≠ x) →
    VV (mxa d) sz (fun h2 => Sf B hh h2 ∧ Dy h2 B W fx l c (cnt + TC (W.1 ^ W.2.1) W.2.1 (l + 1) (cput c l x) (PM W (tT W2 bf af) b cd fx))) h1 12 [some (.ref B), some (.int (nI l)), some (.int (nI x)), some (.int (nI (W.1 ^ l))), some (.int (nI z))] [] := by
  have hX0 := hX
  obtain ⟨X1, X2, ⟨M1, M2, M3⟩, hk, hk2, hq, hp2, hfx⟩ := hX
  obtain ⟨b1, b2, b3, b4, b5⟩ := hk.b
  obtain ⟨D1, ⟨gc, c1, c2⟩, ⟨gi, i1, i2⟩⟩ := id hD
  have w2 : W.1 ^ l ≤ W.1 ^ W.2.1 := Nat.pow_le_pow_right (by omega) (by omega)
  intro n
  induction n with
  | zero =>
    intro z e1 e2 hz
    have e' : z = W.1 ^ l := by omega
    subst e'
    refine e_iload (pc := 12) dX5_attempt_12 rfl ?_
    refine e_iload_n (pc := 14) dX5_attempt_14 rfl rfl ?_
    refine n_icmp_ge (pc := 15) (tgt := 36) dX5_attempt_15 (by decide) (by omega) (by omega) (fun hb_ => ?_) (fun c => absurd c (by omega))
    refine e_aload_n (pc := 36) dX5_attempt_36 rfl rfl ?_
    refine e_get (pc := 37) fl_X5_61 dX5_attempt_37 (by repeat (first | assumption | exact hset_eq _ _ _ | rw [hset_ne _ _ (by omega)])) (by rfl) ?_
    refine e_iload_n (pc := 40) dX5_attempt_40 rfl rfl ?_
    refine e_iload_n (pc := 41) dX5_attempt_41 rfl rfl ?_
    refine e_iastN (pc := 42) _ dX5_attempt_42 (by repeat (first | assumption | exact hset_eq _ _ _ | rw [hset_ne _ _ (by omega)])) (by rfl) (by omega) (by first | decide | omega) ?_
    refine e_iload_n (pc := 43) dX5_attempt_43 rfl rfl ?_
    refine e_istore (pc := 44) dX5_attempt_44 (by exact Nat.le_of_ble_eq_true rfl) ?_
    have w5 : W.1 ^ l ≤ W.1 ^ (l + 1) := Nat.pow_le_pow_right (by omega) (by omega)
    refine l_at_2 hX0 hl hE hd hP hx hxf hz _ (W.1 ^ l) rfl (Nat.le_refl _) w5 _ (hS.set (by omega)) ((hset_ne _ _ (by omega)).trans D1) ⟨_, hset_eq _ _ _, fun t ht => ?_⟩ ⟨gi, by rw [hset_ne _ _ (by omega)]; exact i1, fun t ht => ?_⟩
    · by_cases e : t = l
      · subst e; rw [pk_us]; exact congrArg nI (cput_at c t x).symm
      · rw [pk_un e]; exact (c2 t (by omega)).trans (congrArg nI (cput_ne e).symm)
    · exact (i2 t ht).trans (congrArg nI (cput_lin hk ht).symm)
  | succ n ih =>
    intro z e1 e2 hz
    have y1 := i2 z (by omega)
    have l1 : lin W.1 W.2.1 c z < W.1 ^ W.2.1 := lin_lt (by omega) b4 (fun t _ => hP.1 t)
    refine e_iload (pc := 12) dX5_attempt_12 rfl ?_
    refine e_iload_n (pc := 14) dX5_attempt_14 rfl rfl ?_
    refine n_icmp_ge (pc := 15) (tgt := 36) dX5_attempt_15 (by decide) (by omega) (by omega) (fun c => absurd c (by omega)) (fun hb_ => ?_)
    refine e_aload_n (pc := 18) dX5_attempt_18 rfl rfl ?_
    refine e_get (pc := 19) fl_X5_64 dX5_attempt_19 (by repeat (first | assumption | exact hset_eq _ _ _ | rw [hset_ne _ _ (by omega)])) (by rfl) ?_
    refine e_iload (pc := 22) dX5_attempt_22 rfl ?_
    refine e_ialdN (pc := 24) _ dX5_attempt_24 (by repeat (first | assumption | exact hset_eq _ _ _ | rw [hset_ne _ _ (by omega)])) (by rfl) (by omega) (by first | decide | omega) ?_
    rw [y1]
    refine e_iload_n (pc := 25) dX5_attempt_25 rfl rfl ?_
    refine n_icmp_ne (pc := 26) (tgt := 30) dX5_attempt_26 (by decide) (by omega) (by omega) (fun hne => ?_) (fun hne => ?_)
    · refine n_inc (pc := 30) dX5_attempt_30 rfl (by exact Nat.le_of_ble_eq_true rfl) ?_
      refine e_goto (pc := 33) (tgt := 12) dX5_attempt_33 (by decide) ?_
      refine ih (z + 1) (by omega) (by omega) (fun t ht => ?_)
      by_cases e : t = z
      · subst e; exact hne
      · exact hz t (by omega)
    · refine n_vret (pc := 29) dX5_attempt_29 rfl ⟨hS, ?_⟩
      rw [at_none hk hl hb_ hne, Nat.add_zero]
      exact hD
theorem c_X5_attempt (hX : SCtx hh B W W2 b cd bf af lp rp lev fx) (hl : l < W.2.1) (hE : ExtOk hh B W W2 bf af b cd lev fx (W.2.1 - l - 1)) (hd : 4 + 2 * (W.2.1 - l) ≤ d) (hP : Pre W W2 bf af b cd lev fx l c) (hx : x < W.1 ^ W.2.1) (hxf : l = 0 → 0 < fx → x = fx) {h1 : AH} (hS : Sf B hh h1) (hD : Dy h1 B W fx l c cnt) :
    CV yX5_attempt (mxa d) [.ref B, .int (nI l), .int (nI x)] h1 (fun h2 => Sf B hh h2 ∧ Dy h2 B W fx l c (cnt + TC (W.1 ^ W.2.1) W.2.1 (l + 1) (cput c l x) (PM W (tT W2 bf af) b cd fx))) := by
  have hX0 := hX
  obtain ⟨X1, X2, ⟨M1, M2, M3⟩, hk, hk2, hq, hp2, hfx⟩ := hX
  obtain ⟨b1, b2, b3, b4, b5⟩ := hk.b
  obtain ⟨D1, -⟩ := id hD
  refine CV.ofV (by decide) rfl rfl (by simp [Value.category]) (by exact Nat.le_of_ble_eq_true rfl) (fun sz => ?_)
  refine e_aload_n (pc := 0) dX5_attempt_0 rfl rfl ?_
  refine e_get (pc := 1) fl_X5_9 dX5_attempt_1 (by repeat (first | assumption | exact hset_eq _ _ _ | rw [hset_ne _ _ (by omega)])) (by rfl) ?_
  refine e_iload_n (pc := 4) dX5_attempt_4 rfl rfl ?_
  refine n_SP (pc := 5) (c_X8_power (show l ≤ 5 by omega) b2) bX8_power q_st_X8_power q_m_X5_117 dX5_attempt_5 rfl rfl (by exact Nat.le_of_ble_eq_true rfl) ⟨by show 4 + 1 ≤ d; omega, by exact Nat.le_of_ble_eq_true rfl⟩ ⟨rfl, rfl, Nat.zero_le _, Nat.zero_le _⟩ ?_
  refine e_istore_n (pc := 8) dX5_attempt_8 rfl (by exact Nat.le_of_ble_eq_true rfl) ?_
  refine n_iconst (pc := 9) 0 dX5_attempt_9 (by decide) ?_
  refine e_istore (pc := 10) dX5_attempt_10 (by exact Nat.le_of_ble_eq_true rfl) ?_
  exact l_at_1 hX0 hl hE hd hP hx hxf hS hD (W.1 ^ l) 0 rfl (Nat.zero_le _) (fun t ht => absurd ht (Nat.not_lt_zero t))
end AT
end ET
