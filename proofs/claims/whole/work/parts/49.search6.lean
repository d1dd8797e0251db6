/-! ===== Search: pairs, tables ===== -/
section FP
variable {h : AH} {B o : Nat} {W : Wd} {f : Int32} {b : Nat → Nat} {cnt : Nat} {fx : Int32}
/-- unchanged but for the pairs' rows and the sums of the world asked -/
def Fp (B o : Nat) (h h' : AH) : Prop := ∀ a, a ≠ B + 10 → a ≠ B + 11 → a ≠ o + 2 → h' a = h a
theorem Fp.rf (B o : Nat) (h : AH) : Fp B o h h := fun _ _ _ _ => rfl
theorem Fp.tr {B o : Nat} {h h1 h2 : AH} (a : Fp B o h h1) (b : Fp B o h1 h2) : Fp B o h h2 := fun q x y z => (b q x y z).trans (a q x y z)
theorem Fp.set {B o a : Nat} {x : AE} {h h1 : AH} (e : Fp B o h h1) (ha : a = B + 10 ∨ a = B + 11) : Fp B o h (hset h1 a x) := fun q p1 p2 p3 => by
  rw [hset_ne _ _ (by omega)]; exact e q p1 p2 p3
def PD (h1 : AH) (B : Nat) (W : Wd) (b cd : Nat → Nat) (x y : Nat) : Prop := ∃ g10 g11, h1 (B + 10) = some (aI 25 g10) ∧ h1 (B + 11) = some (aI 25 g11) ∧ ∀ i j, i < W.2.1 → j < W.2.1 → (i < x ∨ i = x ∧ j < y) → g10 (5 * i + j) = nI (cd (mul W (b i) (b j))) ∧ ∃ v, g11 (5 * i + j) = nI v ∧ i ≤ v ∧ j ≤ v ∧ v < W.2.1 ∧ cd (mul W (b i) (b j)) < W.1 ^ (v + 1)
section FP1
variable {sz : Nat} {hh : AH} {cd : Nat → Nat} {Pr : AH → Prop}
theorem l_fp_w {i j z : Nat} (hk : Wok W) (hi : i < W.2.1) (hj : j < W.2.1) (hz : z < W.1 ^ W.2.1) {h1 : AH} (hH : SHd h1 B W.1 W.2.1 (W.1 ^ W.2.1) cnt fx)
    (kk : ∀ L, i ≤ L → j ≤ L → L < W.2.1 → z < W.1 ^ (L + 1) → VV MX5_findPairs sz Pr h1 83 [some (.ref B), some (.ref o), some (.int (nI i)), some (.int (nI j)), some (.int (nI z)), some (.int (nI L))] []) :
    ∀ (n L : Nat), n = W.2.1 - L → i ≤ L → j ≤ L → L < W.2.1 → VV MX5_findPairs sz Pr h1 50 [some (.ref B), some (.ref o), some (.int (nI i)), some (.int (nI j)), some (.int (nI z)), some (.int (nI L))] [] := by
  obtain ⟨b1, b2, b3, b4, b5⟩ := hk.b
  intro n
  induction n with
  | zero => intro L e1 e2 e3 e4; omega
  | succ n ih =>
    intro L e1 e2 e3 e4
    have w := pp b1 b2 (L + 1) (by omega)
    refine e_iload (pc := 50) dX5_findPairs_50 rfl ?_
    refine e_aload_n (pc := 52) dX5_findPairs_52 rfl rfl ?_
    refine e_get (pc := 53) fl_X5_15 dX5_findPairs_53 (by repeat (first | assumption | exact hset_eq _ _ _ | rw [hset_ne _ _ (by omega)])) (by rfl) ?_
    refine n_iconst (pc := 56) 1 dX5_findPairs_56 (by decide) ?_
    refine n_isub (pc := 57) dX5_findPairs_57 (by omega) ?_
    refine n_icmp_ge (pc := 58) (tgt := 83) dX5_findPairs_58 (by decide) (by omega) (by omega) (fun c1 => ?_) (fun c1 => ?_)
    · exact kk L e2 e3 e4 (by rw [show L + 1 = W.2.1 by omega]; exact hz)
    · refine e_iload (pc := 61) dX5_findPairs_61 rfl ?_
      refine e_aload_n (pc := 63) dX5_findPairs_63 rfl rfl ?_
      refine e_get (pc := 64) fl_X5_9 dX5_findPairs_64 (by repeat (first | assumption | exact hset_eq _ _ _ | rw [hset_ne _ _ (by omega)])) (by rfl) ?_
      refine e_iload (pc := 67) dX5_findPairs_67 rfl ?_
      refine n_iconst (pc := 69) 1 dX5_findPairs_69 (by decide) ?_
      refine n_iadd (pc := 70) dX5_findPairs_70 ?_
      refine n_SP (pc := 71) (c_X8_power (show L + 1 ≤ 5 by omega) b2) bX8_power q_st_X8_power q_m_X5_117 dX5_findPairs_71 rfl rfl (by exact Nat.le_of_ble_eq_true rfl) ⟨by decide, by decide⟩ ⟨rfl, rfl, Nat.zero_le _, Nat.zero_le _⟩ ?_
      refine n_icmp_lt (pc := 74) (tgt := 83) dX5_findPairs_74 (by decide) (by omega) (by omega) (fun c2 => ?_) (fun c2 => ?_)
      · exact kk L e2 e3 e4 c2
      · refine n_inc (pc := 77) dX5_findPairs_77 rfl (by decide) ?_
        refine e_goto (pc := 80) (tgt := 50) dX5_findPairs_80 (by decide) ?_
        exact ih (L + 1) (by omega) (by omega) (by omega) (by omega)
/-- what findPairs reads -/
def PRd (hh : AH) (B : Nat) (W : Wd) (b cd : Nat → Nat) : Prop := (∃ g, hh (B + 7) = some (aI 5 g) ∧ ∀ t, t < W.2.1 → g t = nI (b t)) ∧ (∃ g, hh (B + 6) = some (aI 27 g) ∧ ∀ x, x < W.1 ^ W.2.1 → g x = nI (cd x)) ∧ (∀ t, b t < W.1 ^ W.2.1) ∧ ∀ x, x < W.1 ^ W.2.1 → cd x < W.1 ^ W.2.1
theorem l_fp_j {i : Nat} (hk : Wok W) (hq : W.1 ^ W.2.1 ≤ 27) (d : o + 3 ≤ B ∨ B + 14 ≤ o) (hi : i < W.2.1) (hR : PRd hh B W b cd) (hH : SHd hh B W.1 W.2.1 (W.1 ^ W.2.1) cnt fx)
    (kk : ∀ h1, WAt h1 o W f → Fp B o hh h1 → PD h1 B W b cd (i + 1) 0 → VV MX5_findPairs sz Pr h1 113 [some (.ref B), some (.ref o), some (.int (nI i)), none, none, none] []) :
    ∀ (n j : Nat), n = W.2.1 - j → j ≤ W.2.1 → ∀ h1, WAt h1 o W f → Fp B o hh h1 → PD h1 B W b cd i j → VV MX5_findPairs sz Pr h1 12 [some (.ref B), some (.ref o), some (.int (nI i)), some (.int (nI j)), none, none] [] := by
  obtain ⟨b1, b2, b3, b4, b5⟩ := hk.b
  obtain ⟨⟨g7, r1, r2⟩, ⟨g6, r3, r4⟩, r5, r6⟩ := hR
  intro n
  induction n with
  | zero =>
    intro j e1 e2 h1 hW he hP
    have e' : j = W.2.1 := by omega
    subst e'
    have hH1 : SHd h1 B W.1 W.2.1 (W.1 ^ W.2.1) cnt fx := (he _ (by omega) (by omega) (by omega)).trans hH
    refine e_iload_n (pc := 12) dX5_findPairs_12 rfl rfl ?_
    refine e_aload_n (pc := 13) dX5_findPairs_13 rfl rfl ?_
    refine e_get (pc := 14) fl_X5_15 dX5_findPairs_14 (by repeat (first | assumption | exact hset_eq _ _ _ | rw [hset_ne _ _ (by omega)])) (by rfl) ?_
    refine n_icmp_ge (pc := 17) (tgt := 113) dX5_findPairs_17 (by decide) (by omega) (by omega) (fun hb_ => ?_) (fun c => absurd c (by omega))
    refine V.mask [true, true, true, false, false, false] ?_
    obtain ⟨g10, g11, a1, a2, a3⟩ := hP
    exact kk h1 hW he ⟨g10, g11, a1, a2, fun x y hx hy hc => a3 x y hx hy (by omega)⟩
  | succ n ih =>
    intro j e1 e2 h1 hW he hP
    have hj : j < W.2.1 := by omega
    have hH1 : SHd h1 B W.1 W.2.1 (W.1 ^ W.2.1) cnt fx := (he _ (by omega) (by omega) (by omega)).trans hH
    have k7 := (he (B + 7) (by omega) (by omega) (by omega)).trans r1
    have k6 := (he (B + 6) (by omega) (by omega) (by omega)).trans r3
    have y1 := r2 i hi
    have y2 := r2 j hj
    have x1 := r5 i
    have x2 := r5 j
    have mm := mul_lt hk (b i) (b j)
    have y3 := r4 _ mm
    have y4 := r6 _ mm
    obtain ⟨w0, -⟩ := id hW
    refine e_iload_n (pc := 12) dX5_findPairs_12 rfl rfl ?_
    refine e_aload_n (pc := 13) dX5_findPairs_13 rfl rfl ?_
    refine e_get (pc := 14) fl_X5_15 dX5_findPairs_14 (by repeat (first | assumption | exact hset_eq _ _ _ | rw [hset_ne _ _ (by omega)])) (by rfl) ?_
    refine n_icmp_ge (pc := 17) (tgt := 113) dX5_findPairs_17 (by decide) (by omega) (by omega) (fun c => absurd c (by omega)) (fun hb_ => ?_)
    refine e_aload_n (pc := 20) dX5_findPairs_20 rfl rfl ?_
    refine e_get (pc := 21) fl_X5_43 dX5_findPairs_21 (by repeat (first | assumption | exact hset_eq _ _ _ | rw [hset_ne _ _ (by omega)])) (by rfl) ?_
    refine e_aload_n (pc := 24) dX5_findPairs_24 rfl rfl ?_
    refine e_aload_n (pc := 25) dX5_findPairs_25 rfl rfl ?_
    refine e_get (pc := 26) fl_X5_46 dX5_findPairs_26 (by repeat (first | assumption | exact hset_eq _ _ _ | rw [hset_ne _ _ (by omega)])) (by rfl) ?_
    refine e_iload_n (pc := 29) dX5_findPairs_29 rfl rfl ?_
    refine e_ialdN (pc := 30) _ dX5_findPairs_30 (by repeat (first | assumption | exact hset_eq _ _ _ | rw [hset_ne _ _ (by omega)])) (by rfl) (by omega) (by first | decide | omega) ?_
    rw [y1]
    refine e_aload_n (pc := 31) dX5_findPairs_31 rfl rfl ?_
    refine e_get (pc := 32) fl_X5_46 dX5_findPairs_32 (by repeat (first | assumption | exact hset_eq _ _ _ | rw [hset_ne _ _ (by omega)])) (by rfl) ?_
    refine e_iload_n (pc := 35) dX5_findPairs_35 rfl rfl ?_
    refine e_ialdN (pc := 36) _ dX5_findPairs_36 (by repeat (first | assumption | exact hset_eq _ _ _ | rw [hset_ne _ _ (by omega)])) (by rfl) (by omega) (by first | decide | omega) ?_
    rw [y2]
    refine n_V (pc := 37) (c_X9_times2 hW hk (show b i < 3125 by omega) (show b j < 3125 by omega)) bX9_times q_i_X9_times q_s_X9_times q_m_X5_90 dX5_findPairs_37 rfl rfl (by repeat (first | assumption | exact hset_eq _ _ _ | rw [hset_ne _ _ (by omega)])) rfl rfl (by exact Nat.le_of_ble_eq_true rfl) ⟨by decide, by decide⟩ ⟨rfl, rfl, Nat.zero_le _, Nat.zero_le _⟩ (fun z h2 hp => ?_)
    obtain ⟨rfl, p1, p2⟩ := hp
    have k6 := (p2 (B + 6) (by omega)).trans k6
    refine e_ialdN (pc := 40) _ dX5_findPairs_40 (by repeat (first | assumption | exact hset_eq _ _ _ | rw [hset_ne _ _ (by omega)])) (by rfl) (by omega) (by first | decide | omega) ?_
    rw [y3]
    refine e_istore (pc := 41) dX5_findPairs_41 (by decide) ?_
    refine e_iload_n (pc := 43) dX5_findPairs_43 rfl rfl ?_
    refine e_iload_n (pc := 44) dX5_findPairs_44 rfl rfl ?_
    refine n_mmax (pc := 45) q_m_X5_120 dX5_findPairs_45 (by decide) (by omega) (by omega) (by exact Nat.le_of_ble_eq_true rfl) ⟨Nat.zero_le _, Nat.zero_le _⟩ ?_
    have hH2 : SHd h2 B W.1 W.2.1 (W.1 ^ W.2.1) cnt fx := (p2 _ (by omega)).trans hH1
    refine e_istore (pc := 48) dX5_findPairs_48 (by decide) ?_
    refine l_fp_w hk hi hj y4 hH2 (fun L l1 l2 l3 l4 => ?_) _ (max i j) rfl (Nat.le_max_left _ _) (Nat.le_max_right _ _) (by omega)
    obtain ⟨g10, g11, a1, a2, a3⟩ := hP
    have a1 := (p2 (B + 10) (by omega)).trans a1
    have a2 := (p2 (B + 11) (by omega)).trans a2
    refine e_aload_n (pc := 83) dX5_findPairs_83 rfl rfl ?_
    refine e_get (pc := 84) fl_X5_55 dX5_findPairs_84 (by repeat (first | assumption | exact hset_eq _ _ _ | rw [hset_ne _ _ (by omega)])) (by rfl) ?_
    refine n_iconst (pc := 87) 5 dX5_findPairs_87 (by decide) ?_
    refine e_iload_n (pc := 88) dX5_findPairs_88 rfl rfl ?_
    refine n_imul (pc := 89) dX5_findPairs_89 ?_
    refine e_iload_n (pc := 90) dX5_findPairs_90 rfl rfl ?_
    refine n_iadd (pc := 91) dX5_findPairs_91 ?_
    refine e_iload (pc := 92) dX5_findPairs_92 rfl ?_
    refine e_iastN (pc := 94) _ dX5_findPairs_94 (by repeat (first | assumption | exact hset_eq _ _ _ | rw [hset_ne _ _ (by omega)])) (by rfl) (by omega) (by first | decide | omega) ?_
    refine e_aload_n (pc := 95) dX5_findPairs_95 rfl rfl ?_
    refine e_get (pc := 96) fl_X5_58 dX5_findPairs_96 (by repeat (first | assumption | exact hset_eq _ _ _ | rw [hset_ne _ _ (by omega)])) (by rfl) ?_
    refine n_iconst (pc := 99) 5 dX5_findPairs_99 (by decide) ?_
    refine e_iload_n (pc := 100) dX5_findPairs_100 rfl rfl ?_
    refine n_imul (pc := 101) dX5_findPairs_101 ?_
    refine e_iload_n (pc := 102) dX5_findPairs_102 rfl rfl ?_
    refine n_iadd (pc := 103) dX5_findPairs_103 ?_
    refine e_iload (pc := 104) dX5_findPairs_104 rfl ?_
    refine e_iastN (pc := 106) _ dX5_findPairs_106 (by repeat (first | assumption | exact hset_eq _ _ _ | rw [hset_ne _ _ (by omega)])) (by rfl) (by omega) (by first | decide | omega) ?_
    refine n_inc (pc := 107) dX5_findPairs_107 rfl (by decide) ?_
    refine e_goto (pc := 110) (tgt := 12) dX5_findPairs_110 (by decide) ?_
    refine V.mask [true, true, true, true, false, false] ?_
    refine ih (j + 1) (by omega) (by omega) _ ((p1.hs (by omega)).hs (by omega)) (((he.tr (fun a x y z => p2 a z)).set (by omega)).set (by omega)) ⟨_, _, (hset_ne _ _ (by omega)).trans (hset_eq _ _ _), hset_eq _ _ _, fun x y hx hy hc => ?_⟩
    by_cases e : x = i ∧ y = j
    · obtain ⟨rfl, rfl⟩ := e
      rw [pk_us, pk_us]
      exact ⟨rfl, L, rfl, l1, l2, l3, l4⟩
    · rw [pk_un (by omega), pk_un (by omega)]
      exact a3 x y hx hy (by omega)
theorem l_fp_i (hk : Wok W) (hq : W.1 ^ W.2.1 ≤ 27) (d : o + 3 ≤ B ∨ B + 14 ≤ o) (hR : PRd hh B W b cd) (hH : SHd hh B W.1 W.2.1 (W.1 ^ W.2.1) cnt fx) :
    ∀ (n i : Nat), n = W.2.1 - i → i ≤ W.2.1 → ∀ h1, WAt h1 o W f → Fp B o hh h1 → PD h1 B W b cd i 0 → VV MX5_findPairs sz (fun h2 => WAt h2 o W f ∧ Fp B o hh h2 ∧ PD h2 B W b cd W.2.1 0) h1 2 [some (.ref B), some (.ref o), some (.int (nI i)), none, none, none] [] := by
  obtain ⟨b1, b2, b3, b4, b5⟩ := hk.b
  intro n
  induction n with
  | zero =>
    intro i e1 e2 h1 hW he hP
    have e' : i = W.2.1 := by omega
    subst e'
    have hH1 : SHd h1 B W.1 W.2.1 (W.1 ^ W.2.1) cnt fx := (he _ (by omega) (by omega) (by omega)).trans hH
    refine e_iload_n (pc := 2) dX5_findPairs_2 rfl rfl ?_
    refine e_aload_n (pc := 3) dX5_findPairs_3 rfl rfl ?_
    refine e_get (pc := 4) fl_X5_15 dX5_findPairs_4 (by repeat (first | assumption | exact hset_eq _ _ _ | rw [hset_ne _ _ (by omega)])) (by rfl) ?_
    refine n_icmp_ge (pc := 7) (tgt := 119) dX5_findPairs_7 (by decide) (by omega) (by omega) (fun hb_ => ?_) (fun c => absurd c (by omega))
    exact n_vret (pc := 119) dX5_findPairs_119 rfl ⟨hW, he, hP⟩
  | succ n ih =>
    intro i e1 e2 h1 hW he hP
    have hH1 : SHd h1 B W.1 W.2.1 (W.1 ^ W.2.1) cnt fx := (he _ (by omega) (by omega) (by omega)).trans hH
    refine e_iload_n (pc := 2) dX5_findPairs_2 rfl rfl ?_
    refine e_aload_n (pc := 3) dX5_findPairs_3 rfl rfl ?_
    refine e_get (pc := 4) fl_X5_15 dX5_findPairs_4 (by repeat (first | assumption | exact hset_eq _ _ _ | rw [hset_ne _ _ (by omega)])) (by rfl) ?_
    refine n_icmp_ge (pc := 7) (tgt := 119) dX5_findPairs_7 (by decide) (by omega) (by omega) (fun c => absurd c (by omega)) (fun hb_ => ?_)
    refine n_iconst (pc := 10) 0 dX5_findPairs_10 (by decide) ?_
    refine e_istore_n (pc := 11) dX5_findPairs_11 rfl (by decide) ?_
    refine l_fp_j (hh := hh) (f := f) hk hq d hb_ hR hH (fun h3 hW3 he3 hP3 => ?_) W.2.1 0 rfl (Nat.zero_le _) h1 hW he hP
    refine n_inc (pc := 113) dX5_findPairs_113 rfl (by decide) ?_
    refine e_goto (pc := 116) (tgt := 2) dX5_findPairs_116 (by decide) ?_
    exact ih (i + 1) (by omega) (by omega) h3 hW3 he3 hP3
end FP1
theorem c_X5_findPairs (hA : BAt h B W b W.2.1) (hH : SHd h B W.1 W.2.1 (W.1 ^ W.2.1) cnt fx) (hW : WAt h o W f) (hk : Wok W) (hq : W.1 ^ W.2.1 ≤ 27) (d : o + 3 ≤ B ∨ B + 14 ≤ o) : CV yX5_findPairs MX5_findPairs [.ref B, .ref o] h (fun h2 => (∃ cd lp rp lev, SMath W b cd lp rp lev ∧ SBas h2 B W lp rp (fun i j => cd (mul W (b i) (b j))) lev) ∧ SRo h2 B ∧ WAt h2 o W f ∧ Fp B o h h2) := by
  obtain ⟨b1, b2, b3, b4, b5⟩ := hk.b
  obtain ⟨a1, ⟨⟨g7, a2, a3⟩, a4, g6, a5, a6⟩, gl, gr, a7, a8, hM⟩ := hA
  have hb : ∀ i, i < W.2.1 → b i < W.1 ^ W.2.1 := fun i _ => hM.1 i
  have cdp : ∀ x, x < W.1 ^ W.2.1 → g6 x = nI (g6 x).toNatClampNeg ∧ (g6 x).toNatClampNeg < W.1 ^ W.2.1 ∧ lin W.1 W.2.1 b (g6 x).toNatClampNeg = x := fun x hx => by
    rcases a6 x hx with ⟨t, t1, t2, t3⟩ | ⟨t1, -⟩
    · rw [t3, nI_clamp (by omega)]; exact ⟨rfl, t1, t2⟩
    · obtain ⟨t, t2, t3⟩ := Ind_onto hk.1 b4 hb hM.2.1 x hx
      exact absurd t3 (t1 t t2)
  obtain ⟨g10, h10⟩ := a1 10 (by omega) (by omega)
  obtain ⟨g11, h11⟩ := a1 11 (by omega) (by omega)
  refine CV.ofV (by decide) rfl rfl (by simp [Value.category]) (by exact Nat.le_of_ble_eq_true rfl) (fun sz => ?_)
  refine n_iconst (pc := 0) 0 dX5_findPairs_0 (by decide) ?_
  refine e_istore_n (pc := 1) dX5_findPairs_1 rfl (by decide) ?_
  refine V.post ?_ (l_fp_i (hh := h) (f := f) (b := b) (cd := fun x => (g6 x).toNatClampNeg) hk hq d ⟨⟨g7, a2, a3⟩, ⟨g6, a5, fun x hx => (cdp x hx).1⟩, hM.1, fun x hx => (cdp x hx).2.1⟩ hH W.2.1 0 rfl (Nat.zero_le _) h hW (Fp.rf _ _ h) ⟨g10, g11, h10, h11, fun i j _ _ c => absurd c (by omega)⟩)
  intro r h' z q
  obtain ⟨q1, q2, hW', he', k10, k11, k1, k2, k3⟩ := q
  refine ⟨q1, q2, ⟨fun x => (g6 x).toNatClampNeg, gl, gr, fun i j => (k11 (5 * i + j)).toNatClampNeg, ⟨⟨hb, hM.2.1, hM.2.2.1 (by omega), fun x hx => (cdp x hx).2⟩, fun i j hi hj => ?_, hM.2.2.2⟩, ⟨gl, (he' _ (by omega) (by omega) (by omega)).trans a7, fun _ _ => rfl⟩, ⟨gr, (he' _ (by omega) (by omega) (by omega)).trans a8, fun _ _ => rfl⟩, ⟨k10, k1, fun i j hi hj => (k3 i j hi hj (Or.inl hi)).1⟩, k11, k2, fun i j hi hj => ?_⟩, ?_, hW', he'⟩
  · obtain ⟨-, v, v1, v2, v3, v4, v5⟩ := k3 i j hi hj (Or.inl hi)
    show i ≤ (k11 (5 * i + j)).toNatClampNeg ∧ j ≤ (k11 (5 * i + j)).toNatClampNeg ∧ (k11 (5 * i + j)).toNatClampNeg < W.2.1 ∧ _ < W.1 ^ ((k11 (5 * i + j)).toNatClampNeg + 1)
    rw [v1, nI_clamp (by omega)]
    exact ⟨v2, v3, v4, v5⟩
  · obtain ⟨-, v, v1, v2, v3, v4, v5⟩ := k3 i j hi hj (Or.inl hi)
    show k11 (5 * i + j) = nI (k11 (5 * i + j)).toNatClampNeg
    rw [v1, nI_clamp (by omega)]
  · intro k k4 k5
    by_cases e : k = 10
    · subst e; exact ⟨k10, k1⟩
    · by_cases e2 : k = 11
      · subst e2; exact ⟨k11, k2⟩
      · obtain ⟨g, hg⟩ := a1 k k4 k5
        exact ⟨g, (he' _ (by omega) (by omega) (by omega)).trans hg⟩
end FP
