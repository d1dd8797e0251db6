/-! ===== Search: all is made ready ===== -/
section PR
variable {h : AH} {B o o2 : Nat} {W W2 : Wd} {f f2 : Int32} {fx : Int32}
/-- the object that seeks maps, whatever it held -/
def ShS (h : AH) (B : Nat) : Prop := (∃ p n q c fx, SHd h B p n q c (nI fx)) ∧ SRo h B
def Fz (B o o2 : Nat) (h h' : AH) : Prop := ∀ a, (a < B ∨ B + 14 ≤ a) → a ≠ o + 2 → a ≠ o2 + 2 → h' a = h a
theorem Fz.rf (B o o2 : Nat) (h : AH) : Fz B o o2 h h := fun _ _ _ _ => rfl
theorem Fz.tr {B o o2 : Nat} {h h1 h2 : AH} (a : Fz B o o2 h h1) (b : Fz B o o2 h1 h2) : Fz B o o2 h h2 := fun q x y z => (b q x y z).trans (a q x y z)
theorem Fz.set {B o o2 a : Nat} {x : AE} {h h1 : AH} (e : Fz B o o2 h h1) (ha : B ≤ a ∧ a < B + 14) : Fz B o o2 h (hset h1 a x) := fun q p1 p2 p3 => by
  rw [hset_ne _ _ (by omega)]; exact e q p1 p2 p3
theorem Es.fz {B o o2 : Nat} {h h1 : AH} (e : Es o2 h h1) : Fz B o o2 h h1 := fun a _ _ x => e a x
def TabU (h : AH) (B : Nat) (W W2 : Wd) (x y : Nat) : Prop := ∃ g1 g2, h (B + 1) = some (aI 729 g1) ∧ h (B + 2) = some (aI 729 g2) ∧ ∀ a b, a < W.1 ^ W.2.1 → b < W.1 ^ W.2.1 → (a < x ∨ a = x ∧ b < y) → g1 (a * W.1 ^ W.2.1 + b) = nI (ad W.1 a b) ∧ g2 (a * W.1 ^ W.2.1 + b) = nI (mul W2 a b)
theorem ix_inj {q a b x y : Nat} (hb : b < q) (hy : y < q) (h : a * q + b = x * q + y) : a = x ∧ b = y := by
  have h1 : (q * a + b) / q = a ∧ (q * a + b) % q = b := q_div hb
  have h2 : (q * x + y) / q = x ∧ (q * x + y) % q = y := q_div hy
  have e : q * a + b = q * x + y := by rw [Nat.mul_comm q a, Nat.mul_comm q x]; exact h
  rw [e] at h1
  exact ⟨h1.1.symm.trans h2.1, h1.2.symm.trans h2.2⟩
/-- what stands between the steps of prepare -/
def PrS (hh h1 : AH) (B o o2 : Nat) (W W2 : Wd) (f f2 : Int32) (x y : Nat) : Prop := SRo h1 B ∧ (∃ fx, SHd h1 B W.1 W.2.1 (W.1 ^ W.2.1) 0 (nI fx)) ∧ WAt h1 o W f ∧ WAt h1 o2 W2 f2 ∧ Fz B o o2 hh h1 ∧ (∃ g, h1 (B + 13) = some (aI 27 g) ∧ g 0 = nI 0) ∧ TabU h1 B W W2 x y
section PR1
variable {sz : Nat} {hh : AH} {Pr : Int32 → AH → Prop} {gr : Nat}
theorem l_pr_y (hk : Wok W) (hk2 : Wok W2) (hp2 : W2.1 = W.1 ∧ W2.2.1 = W.2.1) (hq : W.1 ^ W.2.1 ≤ 27) (d : o + 3 ≤ B ∨ B + 14 ≤ o) (d2 : o2 + 3 ≤ B ∨ B + 14 ≤ o2) (d3 : o = o2 ∨ o + 3 ≤ o2 ∨ o2 + 3 ≤ o) {x : Nat} (hx : x < W.1 ^ W.2.1)
    (kk : ∀ h1, PrS hh h1 B o o2 W W2 f f2 (x + 1) 0 → VI MX5_prepare sz Pr h1 147 [some (.ref B), some (.ref o), some (.ref o2), some (.int (nI gr)), some (.int (nI x)), none] []) :
    ∀ (n y : Nat), n = W.1 ^ W.2.1 - y → y ≤ W.1 ^ W.2.1 → ∀ h1, PrS hh h1 B o o2 W W2 f f2 x y → VI MX5_prepare sz Pr h1 83 [some (.ref B), some (.ref o), some (.ref o2), some (.int (nI gr)), some (.int (nI x)), some (.int (nI y))] [] := by
  obtain ⟨b1, b2, b3, b4, b5⟩ := hk.b
  intro n
  induction n with
  | zero =>
    intro y e1 e2 h1 hS
    have e' : y = W.1 ^ W.2.1 := by omega
    subst e'
    obtain ⟨s1, ⟨fx, s2⟩, s3, s4, s5, s6, g1, g2, t1, t2, t3⟩ := hS
    refine e_iload (pc := 83) dX5_prepare_83 rfl ?_
    refine e_aload_n (pc := 85) dX5_prepare_85 rfl rfl ?_
    refine e_get (pc := 86) fl_X5_18 dX5_prepare_86 (by repeat (first | assumption | exact hset_eq _ _ _ | rw [hset_ne _ _ (by omega)])) (by rfl) ?_
    refine n_icmp_ge (pc := 89) (tgt := 147) dX5_prepare_89 (by decide) (by omega) (by omega) (fun hb_ => ?_) (fun c => absurd c (by omega))
    refine V.mask [true, true, true, true, true, false] ?_
    exact kk h1 ⟨s1, ⟨fx, s2⟩, s3, s4, s5, s6, g1, g2, t1, t2, fun a b ha hb hc => t3 a b ha hb (by omega)⟩
  | succ n ih =>
    intro y e1 e2 h1 hS
    have hy : y < W.1 ^ W.2.1 := by omega
    obtain ⟨s1, ⟨fx, s2⟩, s3, s4, s5, ⟨gi, s6, s7⟩, g1, g2, t1, t2, t3⟩ := hS
    have ix := ix_lt hx hy hq
    have p5 : W.1 ^ W.2.1 ≤ W.1 ^ 5 := Nat.pow_le_pow_right (by omega) b4
    obtain ⟨w2, -⟩ := id s4
    refine e_iload (pc := 83) dX5_prepare_83 rfl ?_
    refine e_aload_n (pc := 85) dX5_prepare_85 rfl rfl ?_
    refine e_get (pc := 86) fl_X5_18 dX5_prepare_86 (by repeat (first | assumption | exact hset_eq _ _ _ | rw [hset_ne _ _ (by omega)])) (by rfl) ?_
    refine n_icmp_ge (pc := 89) (tgt := 147) dX5_prepare_89 (by decide) (by omega) (by omega) (fun c => absurd c (by omega)) (fun hb_ => ?_)
    refine e_aload_n (pc := 92) dX5_prepare_92 rfl rfl ?_
    refine e_get (pc := 93) fl_X5_27 dX5_prepare_93 (by repeat (first | assumption | exact hset_eq _ _ _ | rw [hset_ne _ _ (by omega)])) (by rfl) ?_
    refine e_iload (pc := 96) dX5_prepare_96 rfl ?_
    refine e_aload_n (pc := 98) dX5_prepare_98 rfl rfl ?_
    refine e_get (pc := 99) fl_X5_18 dX5_prepare_99 (by repeat (first | assumption | exact hset_eq _ _ _ | rw [hset_ne _ _ (by omega)])) (by rfl) ?_
    refine n_imul (pc := 102) dX5_prepare_102 ?_
    refine e_iload (pc := 103) dX5_prepare_103 rfl ?_
    refine n_iadd (pc := 105) dX5_prepare_105 ?_
    refine e_aload_n (pc := 106) dX5_prepare_106 rfl rfl ?_
    refine e_get (pc := 107) fl_X5_9 dX5_prepare_107 (by repeat (first | assumption | exact hset_eq _ _ _ | rw [hset_ne _ _ (by omega)])) (by rfl) ?_
    refine e_iload (pc := 110) dX5_prepare_110 rfl ?_
    refine e_iload (pc := 112) dX5_prepare_112 rfl ?_
    refine n_SP (pc := 114) (c_X8_plus b1 b2 (show x < W.1 ^ 5 by omega) (show y < W.1 ^ 5 by omega)) bX8_plus q_st_X8_plus q_m_X5_84 dX5_prepare_114 rfl rfl (by exact Nat.le_of_ble_eq_true rfl) ⟨by decide, by decide⟩ ⟨rfl, rfl, Nat.zero_le _, Nat.zero_le _⟩ ?_
    refine e_iastN (pc := 117) _ dX5_prepare_117 (by repeat (first | assumption | exact hset_eq _ _ _ | rw [hset_ne _ _ (by omega)])) (by rfl) (by omega) (by first | decide | omega) ?_
    refine e_aload_n (pc := 118) dX5_prepare_118 rfl rfl ?_
    refine e_get (pc := 119) fl_X5_31 dX5_prepare_119 (by repeat (first | assumption | exact hset_eq _ _ _ | rw [hset_ne _ _ (by omega)])) (by rfl) ?_
    refine e_iload (pc := 122) dX5_prepare_122 rfl ?_
    refine e_aload_n (pc := 124) dX5_prepare_124 rfl rfl ?_
    refine e_get (pc := 125) fl_X5_18 dX5_prepare_125 (by repeat (first | assumption | exact hset_eq _ _ _ | rw [hset_ne _ _ (by omega)])) (by rfl) ?_
    refine n_imul (pc := 128) dX5_prepare_128 ?_
    refine e_iload (pc := 129) dX5_prepare_129 rfl ?_
    refine n_iadd (pc := 131) dX5_prepare_131 ?_
    refine e_aload_n (pc := 132) dX5_prepare_132 rfl rfl ?_
    refine e_iload (pc := 133) dX5_prepare_133 rfl ?_
    refine e_iload (pc := 135) dX5_prepare_135 rfl ?_
    refine n_V (pc := 137) (c_X9_times2 ((s4.hs (by omega) : WAt (hset h1 (B + 1) _) o2 W2 f2)) hk2 (show x < 3125 by omega) (show y < 3125 by omega)) bX9_times q_i_X9_times q_s_X9_times q_m_X5_90 dX5_prepare_137 rfl rfl (by repeat (first | assumption | exact hset_eq _ _ _ | rw [hset_ne _ _ (by omega)])) rfl rfl (by exact Nat.le_of_ble_eq_true rfl) ⟨by decide, by decide⟩ ⟨rfl, rfl, Nat.zero_le _, Nat.zero_le _⟩ (fun z h2 hp => ?_)
    obtain ⟨rfl, p1, p2⟩ := hp
    have u2 := (p2 (B + 2) (by omega)).trans ((hset_ne _ _ (by omega)).trans t2)
    refine e_iastN (pc := 140) _ dX5_prepare_140 (by repeat (first | assumption | exact hset_eq _ _ _ | rw [hset_ne _ _ (by omega)])) (by rfl) (by omega) (by first | decide | omega) ?_
    refine n_inc (pc := 141) dX5_prepare_141 rfl (by decide) ?_
    refine e_goto (pc := 144) (tgt := 83) dX5_prepare_144 (by decide) ?_
    refine ih (y + 1) (by omega) (by omega) _ ⟨?_, ⟨fx, ?_⟩, ?_, p1.hs (by omega), ?_, ⟨gi, ?_, s7⟩, upd g1 (x * W.1 ^ W.2.1 + y) (nI (ad W.1 x y)), _, ?_, hset_eq _ _ _, fun a b ha hb hc => ?_⟩
    · have r1 : SRo (hset h1 (B + 1) (aI 729 (upd g1 (x * W.1 ^ W.2.1 + y) (nI (ad W.1 x y))))) B := s1.set rfl
      have r2 : SRo h2 B := r1.far (fun a q1 q2 => p2 a (by omega))
      exact r2.set rfl
    · exact (hset_ne _ _ (by omega)).trans ((p2 _ (by omega)).trans ((hset_ne _ _ (by omega)).trans s2))
    · exact ((s3.hs (by omega) : WAt (hset h1 (B + 1) _) o W f).esx p2 p1.2.2 (by omega)).hs (by omega)
    · exact ((s5.set (by omega)).tr p2.fz).set (by omega)
    · exact (hset_ne _ _ (by omega)).trans ((p2 _ (by omega)).trans ((hset_ne _ _ (by omega)).trans s6))
    · exact (hset_ne _ _ (by omega)).trans ((p2 _ (by omega)).trans (hset_eq _ _ _))
    · by_cases e : a = x ∧ b = y
      · obtain ⟨rfl, rfl⟩ := e
        rw [pk_us, pk_us]
        exact ⟨rfl, rfl⟩
      · have ne : a * W.1 ^ W.2.1 + b ≠ x * W.1 ^ W.2.1 + y := fun q => e (ix_inj hb hy q)
        rw [pk_un ne, pk_un ne]
        exact t3 a b ha hb (by omega)
theorem l_pr_x (hk : Wok W) (hk2 : Wok W2) (hp2 : W2.1 = W.1 ∧ W2.2.1 = W.2.1) (hq : W.1 ^ W.2.1 ≤ 27) (d : o + 3 ≤ B ∨ B + 14 ≤ o) (d2 : o2 + 3 ≤ B ∨ B + 14 ≤ o2) (d3 : o = o2 ∨ o + 3 ≤ o2 ∨ o2 + 3 ≤ o)
    (kk : ∀ h1, PrS hh h1 B o o2 W W2 f f2 (W.1 ^ W.2.1) 0 → VI MX5_prepare sz Pr h1 153 [some (.ref B), some (.ref o), some (.ref o2), none, none, none] []) :
    ∀ (n x : Nat), n = W.1 ^ W.2.1 - x → x ≤ W.1 ^ W.2.1 → ∀ h1, PrS hh h1 B o o2 W W2 f f2 x 0 → VI MX5_prepare sz Pr h1 71 [some (.ref B), some (.ref o), some (.ref o2), some (.int (nI gr)), some (.int (nI x)), none] [] := by
  obtain ⟨b1, b2, b3, b4, b5⟩ := hk.b
  intro n
  induction n with
  | zero =>
    intro x e1 e2 h1 hS
    have e' : x = W.1 ^ W.2.1 := by omega
    subst e'
    obtain ⟨s1, ⟨fx, s2⟩, s3⟩ := id hS
    refine e_iload (pc := 71) dX5_prepare_71 rfl ?_
    refine e_aload_n (pc := 73) dX5_prepare_73 rfl rfl ?_
    refine e_get (pc := 74) fl_X5_18 dX5_prepare_74 (by repeat (first | assumption | exact hset_eq _ _ _ | rw [hset_ne _ _ (by omega)])) (by rfl) ?_
    refine n_icmp_ge (pc := 77) (tgt := 153) dX5_prepare_77 (by decide) (by omega) (by omega) (fun hb_ => ?_) (fun c => absurd c (by omega))
    refine V.mask [true, true, true, false, false, false] ?_
    exact kk h1 hS
  | succ n ih =>
    intro x e1 e2 h1 hS
    obtain ⟨s1, ⟨fx, s2⟩, s3⟩ := id hS
    refine e_iload (pc := 71) dX5_prepare_71 rfl ?_
    refine e_aload_n (pc := 73) dX5_prepare_73 rfl rfl ?_
    refine e_get (pc := 74) fl_X5_18 dX5_prepare_74 (by repeat (first | assumption | exact hset_eq _ _ _ | rw [hset_ne _ _ (by omega)])) (by rfl) ?_
    refine n_icmp_ge (pc := 77) (tgt := 153) dX5_prepare_77 (by decide) (by omega) (by omega) (fun c => absurd c (by omega)) (fun hb_ => ?_)
    refine n_iconst (pc := 80) 0 dX5_prepare_80 (by decide) ?_
    refine e_istore (pc := 81) dX5_prepare_81 (by decide) ?_
    refine l_pr_y (hh := hh) (f := f) (f2 := f2) hk hk2 hp2 hq d d2 d3 (show x < W.1 ^ W.2.1 by omega) (fun h3 hS3 => ?_) (W.1 ^ W.2.1) 0 rfl (Nat.zero_le _) h1 hS
    refine n_inc (pc := 147) dX5_prepare_147 rfl (by decide) ?_
    refine e_goto (pc := 150) (tgt := 71) dX5_prepare_150 (by decide) ?_
    exact ih (x + 1) (by omega) (by omega) h3 hS3
end PR1
/-- what prepare leaves behind -/
def Ready (h : AH) (B : Nat) (W W2 : Wd) : Prop := SRo h B ∧ (∃ fx, SHd h B W.1 W.2.1 (W.1 ^ W.2.1) 0 (nI fx)) ∧ (∃ g, h (B + 13) = some (aI 27 g) ∧ g 0 = nI 0) ∧ (∃ g1 g2, h (B + 1) = some (aI 729 g1) ∧ h (B + 2) = some (aI 729 g2) ∧ ∀ a b, a < W.1 ^ W.2.1 → b < W.1 ^ W.2.1 → g1 (a * W.1 ^ W.2.1 + b) = nI (ad W.1 a b) ∧ g2 (a * W.1 ^ W.2.1 + b) = nI (mul W2 a b)) ∧ ∃ b cd lp rp lev, SMath W b cd lp rp lev ∧ SBas h B W lp rp (fun i j => cd (mul W (b i) (b j))) lev
theorem c_X5_prepare {gr : Nat} (hB : ShS h B) (hW : WAt h o W f) (hW2 : WAt h o2 W2 f2) (hk : Wok W) (hk2 : Wok W2) (hp2 : W2.1 = W.1 ∧ W2.2.1 = W.2.1) (hq : W.1 ^ W.2.1 ≤ gr) (hgr : gr ≤ 27) (d : o + 3 ≤ B ∨ B + 14 ≤ o) (d2 : o2 + 3 ≤ B ∨ B + 14 ≤ o2) (d3 : o = o2 ∨ o + 3 ≤ o2 ∨ o2 + 3 ≤ o) :
    CI yX5_prepare MX5_prepare [.ref B, .ref o, .ref o2, .int (nI gr)] h (fun z h' => z = 1 ∧ Ready h' B W W2 ∧ WAt h' o W f ∧ WAt h' o2 W2 f2 ∧ Fz B o o2 h h') := by
  obtain ⟨b1, b2, b3, b4, b5⟩ := hk.b
  obtain ⟨⟨p0, n0, q0, c0, fx, s1⟩, s2⟩ := hB
  have eo : W2.1 ^ W2.2.1 = W.1 ^ W.2.1 := by rw [hp2.1, hp2.2]
  obtain ⟨g13, k13⟩ := s2 13 (by omega) (by omega)
  have k13 : h (B + 13) = some (aI 27 g13) := k13
  obtain ⟨g1, k1⟩ := s2 1 (by omega) (by omega)
  obtain ⟨g2, k2⟩ := s2 2 (by omega) (by omega)
  obtain ⟨w0, -⟩ := id hW
  obtain ⟨w2, -⟩ := id hW2
  refine CI.ofV (by decide) rfl rfl (by simp [Value.category]) (by exact Nat.le_of_ble_eq_true rfl) (fun sz => ?_)
  refine e_aload_n (pc := 0) dX5_prepare_0 rfl rfl ?_
  refine n_VP (pc := 1) (c_X9_order hW) bX9_order q_i_X9_order q_s_X9_order q_m_X5_75 dX5_prepare_1 rfl rfl (by repeat (first | assumption | exact hset_eq _ _ _ | rw [hset_ne _ _ (by omega)])) rfl rfl (by exact Nat.le_of_ble_eq_true rfl) ⟨by decide, by decide⟩ ⟨rfl, rfl, Nat.zero_le _, Nat.zero_le _⟩ ?_
  refine e_iload_n (pc := 4) dX5_prepare_4 rfl rfl ?_
  refine n_icmp_gt (pc := 5) (tgt := 30) dX5_prepare_5 (by decide) (by omega) (by omega) (fun c => absurd c (by omega)) (fun hb_ => ?_)
  refine e_aload_n (pc := 8) dX5_prepare_8 rfl rfl ?_
  refine n_VP (pc := 9) (c_X9_order hW) bX9_order q_i_X9_order q_s_X9_order q_m_X5_75 dX5_prepare_9 rfl rfl (by repeat (first | assumption | exact hset_eq _ _ _ | rw [hset_ne _ _ (by omega)])) rfl rfl (by exact Nat.le_of_ble_eq_true rfl) ⟨by decide, by decide⟩ ⟨rfl, rfl, Nat.zero_le _, Nat.zero_le _⟩ ?_
  refine e_aload_n (pc := 12) dX5_prepare_12 rfl rfl ?_
  refine n_VP (pc := 13) (c_X9_order hW2) bX9_order q_i_X9_order q_s_X9_order q_m_X5_75 dX5_prepare_13 rfl rfl (by repeat (first | assumption | exact hset_eq _ _ _ | rw [hset_ne _ _ (by omega)])) rfl rfl (by exact Nat.le_of_ble_eq_true rfl) ⟨by decide, by decide⟩ ⟨rfl, rfl, Nat.zero_le _, Nat.zero_le _⟩ ?_
  rw [eo]
  refine n_icmp_ne (pc := 16) (tgt := 30) dX5_prepare_16 (by decide) (by omega) (by omega) (fun c => absurd rfl c) (fun _ => ?_)
  refine e_aload_n (pc := 19) dX5_prepare_19 rfl rfl ?_
  refine n_VP (pc := 20) (c_X9_prime hW) bX9_prime q_i_X9_prime q_s_X9_prime q_m_X5_80 dX5_prepare_20 rfl rfl (by repeat (first | assumption | exact hset_eq _ _ _ | rw [hset_ne _ _ (by omega)])) rfl rfl (by exact Nat.le_of_ble_eq_true rfl) ⟨by decide, by decide⟩ ⟨rfl, rfl, Nat.zero_le _, Nat.zero_le _⟩ ?_
  refine e_aload_n (pc := 23) dX5_prepare_23 rfl rfl ?_
  refine n_VP (pc := 24) (c_X9_prime hW2) bX9_prime q_i_X9_prime q_s_X9_prime q_m_X5_80 dX5_prepare_24 rfl rfl (by repeat (first | assumption | exact hset_eq _ _ _ | rw [hset_ne _ _ (by omega)])) rfl rfl (by exact Nat.le_of_ble_eq_true rfl) ⟨by decide, by decide⟩ ⟨rfl, rfl, Nat.zero_le _, Nat.zero_le _⟩ ?_
  rw [hp2.1]
  refine n_icmp_eq (pc := 27) (tgt := 32) dX5_prepare_27 (by decide) (by omega) (by omega) (fun _ => ?_) (fun c => absurd rfl c)
  refine e_aload_n (pc := 32) dX5_prepare_32 rfl rfl ?_
  refine e_aload_n (pc := 33) dX5_prepare_33 rfl rfl ?_
  refine n_VP (pc := 34) (c_X9_prime hW) bX9_prime q_i_X9_prime q_s_X9_prime q_m_X5_80 dX5_prepare_34 rfl rfl (by repeat (first | assumption | exact hset_eq _ _ _ | rw [hset_ne _ _ (by omega)])) rfl rfl (by exact Nat.le_of_ble_eq_true rfl) ⟨by decide, by decide⟩ ⟨rfl, rfl, Nat.zero_le _, Nat.zero_le _⟩ ?_
  refine e_put (pc := 37) pl_X5_9 dX5_prepare_37 (by repeat (first | assumption | exact hset_eq _ _ _ | rw [hset_ne _ _ (by omega)])) (by rfl) (by rfl) (by exact Nat.le_of_ble_eq_true rfl) ?_
  refine e_aload_n (pc := 40) dX5_prepare_40 rfl rfl ?_
  refine e_aload_n (pc := 41) dX5_prepare_41 rfl rfl ?_
  refine n_VP (pc := 42) (c_X9_size (hW.hs (by omega))) bX9_size q_i_X9_size q_s_X9_size q_m_X5_82 dX5_prepare_42 rfl rfl (by repeat (first | assumption | exact hset_eq _ _ _ | rw [hset_ne _ _ (by omega)])) rfl rfl (by exact Nat.le_of_ble_eq_true rfl) ⟨by decide, by decide⟩ ⟨rfl, rfl, Nat.zero_le _, Nat.zero_le _⟩ ?_
  refine e_put (pc := 45) pl_X5_15 dX5_prepare_45 (by repeat (first | assumption | exact hset_eq _ _ _ | rw [hset_ne _ _ (by omega)])) (by rfl) (by rfl) (by exact Nat.le_of_ble_eq_true rfl) ?_
  refine e_aload_n (pc := 48) dX5_prepare_48 rfl rfl ?_
  refine e_aload_n (pc := 49) dX5_prepare_49 rfl rfl ?_
  refine n_VP (pc := 50) (c_X9_order ((hW.hs (by omega)).hs (by omega))) bX9_order q_i_X9_order q_s_X9_order q_m_X5_75 dX5_prepare_50 rfl rfl (by repeat (first | assumption | exact hset_eq _ _ _ | rw [hset_ne _ _ (by omega)])) rfl rfl (by exact Nat.le_of_ble_eq_true rfl) ⟨by decide, by decide⟩ ⟨rfl, rfl, Nat.zero_le _, Nat.zero_le _⟩ ?_
  refine e_put (pc := 53) pl_X5_18 dX5_prepare_53 (by repeat (first | assumption | exact hset_eq _ _ _ | rw [hset_ne _ _ (by omega)])) (by rfl) (by rfl) (by exact Nat.le_of_ble_eq_true rfl) ?_
  refine e_aload_n (pc := 56) dX5_prepare_56 rfl rfl ?_
  refine n_iconst (pc := 57) 0 dX5_prepare_57 (by decide) ?_
  refine e_put (pc := 58) pl_X5_21 dX5_prepare_58 (by repeat (first | assumption | exact hset_eq _ _ _ | rw [hset_ne _ _ (by omega)])) (by rfl) (by rfl) (by exact Nat.le_of_ble_eq_true rfl) ?_
  refine e_aload_n (pc := 61) dX5_prepare_61 rfl rfl ?_
  refine e_get (pc := 62) fl_X5_64 dX5_prepare_62 (by repeat (first | assumption | exact hset_eq _ _ _ | rw [hset_ne _ _ (by omega)])) (by rfl) ?_
  refine n_iconst (pc := 65) 0 dX5_prepare_65 (by decide) ?_
  refine n_iconst (pc := 66) 0 dX5_prepare_66 (by decide) ?_
  refine e_iastN (pc := 67) _ dX5_prepare_67 (by repeat (first | assumption | exact hset_eq _ _ _ | rw [hset_ne _ _ (by omega)])) (by rfl) (by omega) (by first | decide | omega) ?_
  refine n_iconst (pc := 68) 0 dX5_prepare_68 (by decide) ?_
  refine e_istore (pc := 69) dX5_prepare_69 (by decide) ?_
  refine l_pr_x (hh := h) (f := f) (f2 := f2) hk hk2 hp2 (by omega) d d2 d3 (fun h1 hS1 => ?_) (W.1 ^ W.2.1) 0 rfl (Nat.zero_le _) _ ⟨?_, ⟨fx, ?_⟩, ?_, ?_, ?_, ⟨_, hset_eq _ _ _, by rw [pk_us]⟩, g1, g2, ?_, ?_, fun a b _ _ c => absurd c (by omega)⟩
  · obtain ⟨q1, ⟨fx1, q2⟩, q3, q4, q5, ⟨gi, q6, q7⟩, t1, t2, u1, u2, u3⟩ := hS1
    have qS : SumT h1 B W := ⟨t1, u1, fun x y hx hy => (u3 x y hx hy (Or.inl hx)).1⟩
    refine e_aload_n (pc := 153) dX5_prepare_153 rfl rfl ?_
    refine e_aload_n (pc := 154) dX5_prepare_154 rfl rfl ?_
    refine n_Vv (pc := 155) (c_X5_chooseBasis q1 q2 qS q3 hk (by omega) d) bX5_chooseBasis q_i_X5_chooseBasis q_s_X5_chooseBasis q_m_X5_94 dX5_prepare_155 rfl rfl (by repeat (first | assumption | exact hset_eq _ _ _ | rw [hset_ne _ _ (by omega)])) rfl rfl (by exact Nat.le_of_ble_eq_true rfl) ⟨by decide, by decide⟩ ⟨rfl, rfl, Nat.zero_le _, Nat.zero_le _⟩ (fun h2 hp => ?_)
    obtain ⟨⟨b, r1⟩, r2, r3⟩ := hp
    have q2' : SHd h2 B W.1 W.2.1 (W.1 ^ W.2.1) 0 (nI fx1) := (r3 _ (by omega) (by omega)).trans q2
    refine e_aload_n (pc := 158) dX5_prepare_158 rfl rfl ?_
    refine e_aload_n (pc := 159) dX5_prepare_159 rfl rfl ?_
    refine n_Vv (pc := 160) (c_X5_findPairs r1 ((r3 _ (by omega) (by omega)).trans q2) r2 hk (by omega) d) bX5_findPairs q_i_X5_findPairs q_s_X5_findPairs q_m_X5_98 dX5_prepare_160 rfl rfl (by repeat (first | assumption | exact hset_eq _ _ _ | rw [hset_ne _ _ (by omega)])) rfl rfl (by exact Nat.le_of_ble_eq_true rfl) ⟨by decide, by decide⟩ ⟨rfl, rfl, Nat.zero_le _, Nat.zero_le _⟩ (fun h3 hp => ?_)
    obtain ⟨⟨cd, lp, rp, lev, v1, v2⟩, v3, v4, v5⟩ := hp
    refine n_iconst (pc := 163) 1 dX5_prepare_163 (by decide) ?_
    have far : ∀ a, (a < B + 5 ∨ B + 12 ≤ a) → a ≠ o + 2 → h3 a = h1 a := fun a x y => (v5 a (by omega) (by omega) y).trans (r3 a x y)
    refine n_zret (pc := 164) dX5_prepare_164 rfl rfl ⟨rfl, ⟨v3, ⟨fx1, (far _ (by omega) (by omega)).trans q2⟩, ⟨gi, (far _ (by omega) (by omega)).trans q6, q7⟩, ⟨t1, t2, (far _ (by omega) (by omega)).trans u1, (far _ (by omega) (by omega)).trans u2, fun a b ha hb => u3 a b ha hb (Or.inl ha)⟩, b, cd, lp, rp, lev, v1, v2⟩, v4, ?_, q5.tr (fun a x y z => far a (by omega) y)⟩
    rcases d3 with e | e
    · subst e
      exact q4.kept (far _ (by omega) (by omega)) (far _ (by omega) (by omega)) v4.2.2
    · exact q4.kept (far _ (by omega) (by omega)) (far _ (by omega) (by omega)) (by rw [far _ (by omega) (by omega)]; exact q4.2.2)
  · exact ((((s2.hd (x := _)).hd (x := _)).hd (x := _)).hd (x := _)).set rfl
  · exact (hset_ne _ _ (by omega)).trans (hset_eq _ _ _)
  · exact ((((hW.hs (by omega)).hs (by omega)).hs (by omega)).hs (by omega)).hs (by omega)
  · exact ((((hW2.hs (by omega)).hs (by omega)).hs (by omega)).hs (by omega)).hs (by omega)
  · exact (((((Fz.rf _ _ _ h).set (by omega)).set (by omega)).set (by omega)).set (by omega)).set (by omega)
  · exact (hset_ne _ _ (by omega)).trans ((hset_ne _ _ (by omega)).trans ((hset_ne _ _ (by omega)).trans ((hset_ne _ _ (by omega)).trans ((hset_ne _ _ (by omega)).trans k1))))
  · exact (hset_ne _ _ (by omega)).trans ((hset_ne _ _ (by omega)).trans ((hset_ne _ _ (by omega)).trans ((hset_ne _ _ (by omega)).trans ((hset_ne _ _ (by omega)).trans k2))))
end PR
