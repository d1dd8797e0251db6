/-! ===== Study: what is not carried ===== -/
section SJ
variable {h : AH} {E o o2 S : Nat} {W W2 : Wd} {f f2 : Int32} {x : Sx}
noncomputable def imR (x : Sx) (W : Wd) (m : Nat) : Nat := rkf W.1 W.2.1 (SolM W.1 W.2.1 W.2.1 (mrow W.1 (imn x W m)))
def Carry (x : Sx) (W W2 : Wd) (z : Int32) : Prop :=
  (¬ ImOk x W ∧ z = -2) ∨ (ImOk x W ∧ ∃ m, m < 3 ∧ z = nI (100 + m) ∧ imR x W m < W.2.1 ∧ ∀ k, k < m → imR x W k = W.2.1) ∨
  (ImOk x W ∧ (∀ m, m < 3 → imR x W m = W.2.1) ∧ FNC x W W2 z)
theorem c_X0_addElement2 {p w y : Nat} {S0 : (Nat → Nat) → Prop} (hE : ES h E p w S0) (hp : Pm p) (hw : w ≤ 75) (hx : y < 3125) : CV yX0_addElement MX0_addElement [.ref E, .int (nI y)] h (fun h' => (∃ r led rows, EAt h' E p w r led rows (dg p y) ∧ EOk p w led rows ∧ r = rk w led ∧ ∀ u, Sol p w led rows u ↔ S0 u) ∧ Ee E h h') := by
  obtain ⟨r, led, rows, a1, a2, a3, a4⟩ := hE
  exact (c_X0_addElement a1 (by rcases hp with rfl | rfl | rfl <;> decide) hw hx).mono (fun h' q => ⟨⟨r, led, rows, q.1, a2, a3, a4⟩, q.2⟩)
theorem c_X0_settle2 {p w : Nat} {nx : Nat → Nat} {S0 : (Nat → Nat) → Prop} (hE : ∃ r led rows, EAt h E p w r led rows nx ∧ EOk p w led rows ∧ r = rk w led ∧ ∀ u, Sol p w led rows u ↔ S0 u) (hp : Pm p) (hw : w ≤ 75) (hn : ∀ t, t < w → nx t < p) : CI yX0_settle MX0_settle [.ref E] h (fun _ h' => ES h' E p w (fun u => S0 u ∧ dot w nx u % p = 0) ∧ Ee E h h') := by
  obtain ⟨r, led, rows, a1, a2, a3, a4⟩ := hE
  refine (c_X0_settle a1 hp hw a2 a3 hn).mono (fun z h' q => ?_)
  obtain ⟨bb, r2, led2, rows2, -, p1, ⟨s1, s2, s3, s4, s5⟩, p2⟩ := q
  exact ⟨⟨r2, led2, rows2, p1, s3, s4, fun u => by rw [s5 u, a4 u]⟩, p2⟩
theorem SolM_succ {p n m : Nat} {A : Nat → Nat → Nat} (u : Nat → Nat) : SolM p n m A u ∧ dot n (A m) u % p = 0 ↔ SolM p n (m + 1) A u := by
  constructor
  · intro ⟨y1, y2⟩ c hc
    by_cases e : c = m
    · subst e; exact y2
    · exact y1 c (by omega)
  · intro y
    exact ⟨fun c hc => y c (by omega), y m (by omega)⟩
theorem l_wc_i {sz m : Nat} {hh : AH} {Pr : Int32 → AH → Prop} (hk : Wok W) (d : CD E S o o2) (hO : ImOk x W) (hm : m < 3)
    (kk : ∀ h1, CS h1 E S o o2 W W2 f f2 x → Fs E o o2 hh h1 → ES h1 E W.1 W.2.1 (SolM W.1 W.2.1 W.2.1 (mrow W.1 (imn x W m))) → VI MX7_whatIsNotCarried sz Pr h1 118 [some (.ref (E + 83)), some (.ref o), some (.ref o2), some (.ref S), some (.int (nI W.2.1)), some (.int (nI m)), none] []) :
    ∀ (n i : Nat), n = W.2.1 - i → i ≤ W.2.1 → ∀ h1, CS h1 E S o o2 W W2 f f2 x → Fs E o o2 hh h1 → ES h1 E W.1 W.2.1 (SolM W.1 W.2.1 i (mrow W.1 (imn x W m))) → VI MX7_whatIsNotCarried sz Pr h1 81 [some (.ref (E + 83)), some (.ref o), some (.ref o2), some (.ref S), some (.int (nI W.2.1)), some (.int (nI m)), some (.int (nI i))] [] := by
  obtain ⟨b1, b2, b3, b4, b5⟩ := hk.b
  intro n
  induction n with
  | zero =>
    intro i e1 e2 h1 hC he hE
    have e' : i = W.2.1 := by omega
    subst e'
    refine e_iload (pc := 81) dX7_whatIsNotCarried_81 rfl ?_
    refine e_iload (pc := 83) dX7_whatIsNotCarried_83 rfl ?_
    refine n_icmp_ge (pc := 85) (tgt := 118) dX7_whatIsNotCarried_85 (by decide) (by omega) (by omega) (fun hb_ => ?_) (fun c => absurd c (by omega))
    refine V.mask [true, true, true, true, true, true, false] ?_
    exact kk h1 hC he hE
  | succ n ih =>
    intro i e1 e2 h1 hC he hE
    have hi : i < W.2.1 := by omega
    have i0 := hO m i hm hi
    obtain ⟨hT, hW, hW2, hI⟩ := id hC
    obtain ⟨-, t0, -⟩ := id hT
    obtain ⟨_, z0⟩ := hE.z
    refine e_iload (pc := 81) dX7_whatIsNotCarried_81 rfl ?_
    refine e_iload (pc := 83) dX7_whatIsNotCarried_83 rfl ?_
    refine n_icmp_ge (pc := 85) (tgt := 118) dX7_whatIsNotCarried_85 (by decide) (by omega) (by omega) (fun c => absurd c (by omega)) (fun hb_ => ?_)
    refine e_aload_n (pc := 88) dX7_whatIsNotCarried_88 rfl rfl ?_
    refine e_get (pc := 89) fl_X7_28 dX7_whatIsNotCarried_89 (by repeat (first | assumption | exact hset_eq _ _ _ | rw [hset_ne _ _ (by omega)])) (by rfl) ?_
    refine e_aload_n (pc := 92) dX7_whatIsNotCarried_92 rfl rfl ?_
    refine e_aload_n (pc := 93) dX7_whatIsNotCarried_93 rfl rfl ?_
    refine e_iload (pc := 94) dX7_whatIsNotCarried_94 rfl ?_
    refine e_iload (pc := 96) dX7_whatIsNotCarried_96 rfl ?_
    refine n_SP (pc := 98) (c_X7_imageOf hI hW hk hm hi) bX7_imageOf q_st_X7_imageOf q_m_X7_159 dX7_whatIsNotCarried_98 rfl rfl (by exact Nat.le_of_ble_eq_true rfl) ⟨by decide, by decide⟩ ⟨rfl, rfl, Nat.zero_le _, Nat.zero_le _⟩ ?_
    refine n_Vv (pc := 101) (c_X0_addElement2 hE hk.1 (by omega) (show imn x W m i < 3125 by omega)) bX0_addElement q_i_X0_addElement q_s_X0_addElement q_m_X7_156 dX7_whatIsNotCarried_101 rfl rfl (by repeat (first | assumption | exact hset_eq _ _ _ | rw [hset_ne _ _ (by omega)])) rfl rfl (by exact Nat.le_of_ble_eq_true rfl) ⟨by decide, by decide⟩ ⟨rfl, rfl, Nat.zero_le _, Nat.zero_le _⟩ (fun h2 hp => ?_)
    obtain ⟨⟨r, led, rows, a1, a2, a3, a4⟩, p2⟩ := hp
    have hC2 := hC.ee d a1.sh p2
    obtain ⟨hT2, -⟩ := id hC2
    obtain ⟨-, t0, -⟩ := id hT2
    obtain ⟨z0, -⟩ := id a1
    refine e_aload_n (pc := 104) dX7_whatIsNotCarried_104 rfl rfl ?_
    refine e_get (pc := 105) fl_X7_28 dX7_whatIsNotCarried_105 (by repeat (first | assumption | exact hset_eq _ _ _ | rw [hset_ne _ _ (by omega)])) (by rfl) ?_
    refine n_V (pc := 108) (c_X0_settle2 ⟨r, led, rows, a1, a2, a3, a4⟩ hk.1 (by omega) (fun t _ => dg_lt (by omega) _ _)) bX0_settle q_i_X0_settle q_s_X0_settle q_m_X7_139 dX7_whatIsNotCarried_108 rfl rfl (by repeat (first | assumption | exact hset_eq _ _ _ | rw [hset_ne _ _ (by omega)])) rfl rfl (by exact Nat.le_of_ble_eq_true rfl) ⟨by decide, by decide⟩ ⟨rfl, rfl, Nat.zero_le _, Nat.zero_le _⟩ (fun z h3 hp => ?_)
    obtain ⟨p3, p4⟩ := hp
    refine e_pop (pc := 111) dX7_whatIsNotCarried_111 rfl ?_
    refine n_inc (pc := 112) dX7_whatIsNotCarried_112 rfl (by decide) ?_
    refine e_goto (pc := 115) (tgt := 81) dX7_whatIsNotCarried_115 (by decide) ?_
    exact ih (i + 1) (by omega) (by omega) h3 (hC2.ee d p3.sh p4) (he.tr (p2.fs.tr p4.fs)) (p3.congr (fun u => SolM_succ (A := mrow W.1 (imn x W m)) u))
theorem l_wc_m {sz : Nat} {hh : AH} (hk : Wok W) (hk2 : Wok W2) (d : CD E S o o2) (hO : ImOk x W) (hO2 : W2.1 = W.1 ∧ W2.2.1 = W.2.1) :
    ∀ (n m : Nat), n = 3 - m → m ≤ 3 → ∀ h1, CS h1 E S o o2 W W2 f f2 x → Fs E o o2 hh h1 → (∀ k, k < m → imR x W k = W.2.1) → VI MX7_whatIsNotCarried sz (fun z h' => Carry x W W2 z ∧ CS h' E S o o2 W W2 f f2 x ∧ Fs E o o2 hh h') h1 59 [some (.ref (E + 83)), some (.ref o), some (.ref o2), some (.ref S), some (.int (nI W.2.1)), some (.int (nI m)), none] [] := by
  obtain ⟨b1, b2, b3, b4, b5⟩ := hk.b
  intro n
  induction n with
  | zero =>
    intro m e1 e2 h1 hC he hm
    have e' : m = 3 := by omega
    subst e'
    obtain ⟨hT, hW, hW2, hI⟩ := id hC
    obtain ⟨-, t0, -⟩ := id hT
    refine e_iload (pc := 59) dX7_whatIsNotCarried_59 rfl ?_
    refine n_iconst (pc := 61) 3 dX7_whatIsNotCarried_61 (by decide) ?_
    refine n_icmp_ge (pc := 62) (tgt := 142) dX7_whatIsNotCarried_62 (by decide) (by omega) (by omega) (fun hb_ => ?_) (fun c => absurd c (by omega))
    refine e_aload_n (pc := 142) dX7_whatIsNotCarried_142 rfl rfl ?_
    refine e_aload_n (pc := 143) dX7_whatIsNotCarried_143 rfl rfl ?_
    refine e_aload_n (pc := 144) dX7_whatIsNotCarried_144 rfl rfl ?_
    refine e_aload_n (pc := 145) dX7_whatIsNotCarried_145 rfl rfl ?_
    refine n_V (pc := 146) (c_X7_firstNotCarried hC hk hk2 d hO hO2) bX7_firstNotCarried q_i_X7_firstNotCarried q_s_X7_firstNotCarried q_m_X7_166 dX7_whatIsNotCarried_146 rfl rfl (by repeat (first | assumption | exact hset_eq _ _ _ | rw [hset_ne _ _ (by omega)])) rfl rfl (by exact Nat.le_of_ble_eq_true rfl) ⟨by decide, by decide⟩ ⟨rfl, rfl, Nat.zero_le _, Nat.zero_le _⟩ (fun z h2 hp => ?_)
    obtain ⟨p1, p2, p3⟩ := hp
    exact n_iret (pc := 149) dX7_whatIsNotCarried_149 rfl ⟨Or.inr (Or.inr ⟨hO, hm, p1⟩), p2, he.tr p3⟩
  | succ n ih =>
    intro m e1 e2 h1 hC he hm
    obtain ⟨hT, hW, hW2, hI⟩ := id hC
    obtain ⟨-, t0, -⟩ := id hT
    obtain ⟨w0, -⟩ := id hW
    obtain ⟨⟨⟨⟨_, _, _, z0⟩, -⟩, -⟩, -⟩ := id hT
    refine e_iload (pc := 59) dX7_whatIsNotCarried_59 rfl ?_
    refine n_iconst (pc := 61) 3 dX7_whatIsNotCarried_61 (by decide) ?_
    refine n_icmp_ge (pc := 62) (tgt := 142) dX7_whatIsNotCarried_62 (by decide) (by omega) (by omega) (fun c => absurd c (by omega)) (fun hb_ => ?_)
    refine e_aload_n (pc := 65) dX7_whatIsNotCarried_65 rfl rfl ?_
    refine e_get (pc := 66) fl_X7_28 dX7_whatIsNotCarried_66 (by repeat (first | assumption | exact hset_eq _ _ _ | rw [hset_ne _ _ (by omega)])) (by rfl) ?_
    refine e_aload_n (pc := 69) dX7_whatIsNotCarried_69 rfl rfl ?_
    refine n_VP (pc := 70) (c_X9_prime hW) bX9_prime q_i_X9_prime q_s_X9_prime q_m_X7_81 dX7_whatIsNotCarried_70 rfl rfl (by repeat (first | assumption | exact hset_eq _ _ _ | rw [hset_ne _ _ (by omega)])) rfl rfl (by exact Nat.le_of_ble_eq_true rfl) ⟨by decide, by decide⟩ ⟨rfl, rfl, Nat.zero_le _, Nat.zero_le _⟩ ?_
    refine e_iload (pc := 73) dX7_whatIsNotCarried_73 rfl ?_
    refine n_Vv (pc := 75) (c_X0_start2 hT.1.1 hk.1 (by omega)) bX0_start q_i_X0_start q_s_X0_start q_m_X7_114 dX7_whatIsNotCarried_75 rfl rfl (by repeat (first | assumption | exact hset_eq _ _ _ | rw [hset_ne _ _ (by omega)])) rfl rfl (by exact Nat.le_of_ble_eq_true rfl) ⟨by decide, by decide⟩ ⟨rfl, rfl, Nat.zero_le _, Nat.zero_le _⟩ (fun h2 hp => ?_)
    obtain ⟨p1, p2⟩ := hp
    refine n_iconst (pc := 78) 0 dX7_whatIsNotCarried_78 (by decide) ?_
    refine e_istore (pc := 79) dX7_whatIsNotCarried_79 (by decide) ?_
    refine l_wc_i (hh := hh) (f := f) (f2 := f2) (W2 := W2) hk d hO hb_ (fun h3 hC3 he3 hE3 => ?_) W.2.1 0 rfl (Nat.zero_le _) h2 (hC.ee d p1.sh p2) (he.tr p2.fs) (p1.congr (fun u => ⟨fun _ i hi => absurd hi (Nat.not_lt_zero i), fun _ => trivial⟩))
    obtain ⟨hT3, -⟩ := id hC3
    obtain ⟨-, t0, -⟩ := id hT3
    obtain ⟨_, z0⟩ := hE3.z
    obtain ⟨r, r1, r2, r3⟩ := hE3.rank
    have r4 : r = imR x W m := rkf_eq hk.1 r1
    refine e_aload_n (pc := 118) dX7_whatIsNotCarried_118 rfl rfl ?_
    refine e_get (pc := 119) fl_X7_28 dX7_whatIsNotCarried_119 (by repeat (first | assumption | exact hset_eq _ _ _ | rw [hset_ne _ _ (by omega)])) (by rfl) ?_
    refine n_VP (pc := 122) (r3) bX0_rank q_i_X0_rank q_s_X0_rank q_m_X7_123 dX7_whatIsNotCarried_122 rfl rfl (by repeat (first | assumption | exact hset_eq _ _ _ | rw [hset_ne _ _ (by omega)])) rfl rfl (by exact Nat.le_of_ble_eq_true rfl) ⟨by decide, by decide⟩ ⟨rfl, rfl, Nat.zero_le _, Nat.zero_le _⟩ ?_
    refine e_iload (pc := 125) dX7_whatIsNotCarried_125 rfl ?_
    refine n_icmp_ge (pc := 127) (tgt := 136) dX7_whatIsNotCarried_127 (by decide) (by omega) (by omega) (fun hr => ?_) (fun hr => ?_)
    · refine n_inc (pc := 136) dX7_whatIsNotCarried_136 rfl (by decide) ?_
      refine e_goto (pc := 139) (tgt := 59) dX7_whatIsNotCarried_139 (by decide) ?_
      refine ih (m + 1) (by omega) (by omega) h3 hC3 he3 (fun k hk3 => ?_)
      by_cases c : k = m
      · subst c; omega
      · exact hm k (by omega)
    · refine n_bipush (pc := 130) 100 dX7_whatIsNotCarried_130 (by decide) ?_
      refine e_iload (pc := 132) dX7_whatIsNotCarried_132 rfl ?_
      refine n_iadd (pc := 134) dX7_whatIsNotCarried_134 ?_
      exact n_iret (pc := 135) dX7_whatIsNotCarried_135 rfl ⟨Or.inr (Or.inl ⟨hO, m, hb_, rfl, by omega, hm⟩), hC3, he3⟩
theorem l_wc_a {sz m : Nat} {Pr : Int32 → AH → Prop} (hC : CS h E S o o2 W W2 f f2 x) (hk : Wok W) (hO2 : W2.1 = W.1 ∧ W2.2.1 = W.2.1) (hm : m < 3) (kf : ¬ ImOk x W → Pr (-2) h)
    (kk : (∀ i, i < W.2.1 → imn x W m i < W.1 ^ W.2.1) → VI MX7_whatIsNotCarried sz Pr h 50 [some (.ref (E + 83)), some (.ref o), some (.ref o2), some (.ref S), some (.int (nI W.2.1)), some (.int (nI m)), none] []) :
    ∀ (n i : Nat), n = W.2.1 - i → i ≤ W.2.1 → (∀ t, t < i → imn x W m t < W.1 ^ W.2.1) → VI MX7_whatIsNotCarried sz Pr h 18 [some (.ref (E + 83)), some (.ref o), some (.ref o2), some (.ref S), some (.int (nI W.2.1)), some (.int (nI m)), some (.int (nI i))] [] := by
  obtain ⟨b1, b2, b3, b4, b5⟩ := hk.b
  obtain ⟨hT, hW, hW2, hI⟩ := id hC
  obtain ⟨w1, -⟩ := id hW2
  intro n
  induction n with
  | zero =>
    intro i e1 e2 hi
    have e' : i = W.2.1 := by omega
    subst e'
    refine e_iload (pc := 18) dX7_whatIsNotCarried_18 rfl ?_
    refine e_iload (pc := 20) dX7_whatIsNotCarried_20 rfl ?_
    refine n_icmp_ge (pc := 22) (tgt := 50) dX7_whatIsNotCarried_22 (by decide) (by omega) (by omega) (fun hb_ => ?_) (fun c => absurd c (by omega))
    refine V.mask [true, true, true, true, true, true, false] ?_
    exact kk hi
  | succ n ih =>
    intro i e1 e2 ht
    have hi : i < W.2.1 := by omega
    have i9 := imn_lt (x := x) hk hI.2.2 hm hi
    refine e_iload (pc := 18) dX7_whatIsNotCarried_18 rfl ?_
    refine e_iload (pc := 20) dX7_whatIsNotCarried_20 rfl ?_
    refine n_icmp_ge (pc := 22) (tgt := 50) dX7_whatIsNotCarried_22 (by decide) (by omega) (by omega) (fun c => absurd c (by omega)) (fun hb_ => ?_)
    refine e_aload_n (pc := 25) dX7_whatIsNotCarried_25 rfl rfl ?_
    refine e_aload_n (pc := 26) dX7_whatIsNotCarried_26 rfl rfl ?_
    refine e_aload_n (pc := 27) dX7_whatIsNotCarried_27 rfl rfl ?_
    refine e_iload (pc := 28) dX7_whatIsNotCarried_28 rfl ?_
    refine e_iload (pc := 30) dX7_whatIsNotCarried_30 rfl ?_
    refine n_SP (pc := 32) (c_X7_imageOf hI hW hk hm hi) bX7_imageOf q_st_X7_imageOf q_m_X7_159 dX7_whatIsNotCarried_32 rfl rfl (by exact Nat.le_of_ble_eq_true rfl) ⟨by decide, by decide⟩ ⟨rfl, rfl, Nat.zero_le _, Nat.zero_le _⟩ ?_
    refine n_VP (pc := 35) (c_X9_hasElement hW2 _) bX9_hasElement q_i_X9_hasElement q_s_X9_hasElement q_m_X7_163 dX7_whatIsNotCarried_35 rfl rfl (by repeat (first | assumption | exact hset_eq _ _ _ | rw [hset_ne _ _ (by omega)])) rfl rfl (by exact Nat.le_of_ble_eq_true rfl) ⟨by decide, by decide⟩ ⟨rfl, rfl, Nat.zero_le _, Nat.zero_le _⟩ ?_
    rw [hO2.1, hO2.2, okI_nI (by omega) (by omega)]
    by_cases c : imn x W m i < W.1 ^ W.2.1
    · rw [decide_eq_true c]
      refine e_if_ne (pc := 38) (tgt := 44) dX7_whatIsNotCarried_38 (by decide) (fun _ => ?_) (fun q => absurd q (show bI true ≠ 0 by decide))
      refine n_inc (pc := 44) dX7_whatIsNotCarried_44 rfl (by decide) ?_
      refine e_goto (pc := 47) (tgt := 18) dX7_whatIsNotCarried_47 (by decide) ?_
      refine ih (i + 1) (by omega) (by omega) (fun t ht2 => ?_)
      by_cases c2 : t = i
      · subst c2; exact c
      · exact ht t (by omega)
    · rw [decide_eq_false c]
      refine e_if_ne (pc := 38) (tgt := 44) dX7_whatIsNotCarried_38 (by decide) (fun q => absurd (show bI false = 0 by decide) q) (fun _ => ?_)
      refine e_bipush (pc := 41) (v := -2) dX7_whatIsNotCarried_41 (by decide) ?_
      exact n_iret (pc := 43) dX7_whatIsNotCarried_43 rfl (kf (fun q => c (q m i hm hi)))
theorem l_wc_b {sz : Nat} {Pr : Int32 → AH → Prop} (hC : CS h E S o o2 W W2 f f2 x) (hk : Wok W) (hO2 : W2.1 = W.1 ∧ W2.2.1 = W.2.1) (kf : ¬ ImOk x W → Pr (-2) h)
    (kk : ImOk x W → VI MX7_whatIsNotCarried sz Pr h 56 [some (.ref (E + 83)), some (.ref o), some (.ref o2), some (.ref S), some (.int (nI W.2.1)), none, none] []) :
    ∀ (n m : Nat), n = 3 - m → m ≤ 3 → (∀ k i, k < m → i < W.2.1 → imn x W k i < W.1 ^ W.2.1) → VI MX7_whatIsNotCarried sz Pr h 9 [some (.ref (E + 83)), some (.ref o), some (.ref o2), some (.ref S), some (.int (nI W.2.1)), some (.int (nI m)), none] [] := by
  intro n
  induction n with
  | zero =>
    intro m e1 e2 hm
    have e' : m = 3 := by omega
    subst e'
    refine e_iload (pc := 9) dX7_whatIsNotCarried_9 rfl ?_
    refine n_iconst (pc := 11) 3 dX7_whatIsNotCarried_11 (by decide) ?_
    refine n_icmp_ge (pc := 12) (tgt := 56) dX7_whatIsNotCarried_12 (by decide) (by omega) (by omega) (fun hb_ => ?_) (fun c => absurd c (by omega))
    refine V.mask [true, true, true, true, true, false, false] ?_
    exact kk (fun m i hm2 hi => hm m i hm2 hi)
  | succ n ih =>
    intro m e1 e2 hm
    refine e_iload (pc := 9) dX7_whatIsNotCarried_9 rfl ?_
    refine n_iconst (pc := 11) 3 dX7_whatIsNotCarried_11 (by decide) ?_
    refine n_icmp_ge (pc := 12) (tgt := 56) dX7_whatIsNotCarried_12 (by decide) (by omega) (by omega) (fun c => absurd c (by omega)) (fun hb_ => ?_)
    refine n_iconst (pc := 15) 0 dX7_whatIsNotCarried_15 (by decide) ?_
    refine e_istore (pc := 16) dX7_whatIsNotCarried_16 (by decide) ?_
    refine l_wc_a hC hk hO2 hb_ kf (fun hq => ?_) W.2.1 0 rfl (Nat.zero_le _) (fun t ht => absurd ht (Nat.not_lt_zero t))
    refine n_inc (pc := 50) dX7_whatIsNotCarried_50 rfl (by decide) ?_
    refine e_goto (pc := 53) (tgt := 9) dX7_whatIsNotCarried_53 (by decide) ?_
    refine ih (m + 1) (by omega) (by omega) (fun k i hk3 hi => ?_)
    by_cases c : k = m
    · subst c; exact hq i hi
    · exact hm k i (by omega) hi
theorem c_X7_whatIsNotCarried (hC : CS h E S o o2 W W2 f f2 x) (hk : Wok W) (hk2 : Wok W2) (d : CD E S o o2) (hO2 : W2.1 = W.1 ∧ W2.2.1 = W.2.1) : CI yX7_whatIsNotCarried MX7_whatIsNotCarried [.ref (E + 83), .ref o, .ref o2, .ref S] h (fun z h' => Carry x W W2 z ∧ CS h' E S o o2 W W2 f f2 x ∧ Fs E o o2 h h') := by
  obtain ⟨hT, hW, hW2, hI⟩ := id hC
  obtain ⟨w0, -⟩ := id hW
  refine CI.ofV (by decide) rfl rfl (by simp [Value.category]) (by exact Nat.le_of_ble_eq_true rfl) (fun sz => ?_)
  refine e_aload_n (pc := 0) dX7_whatIsNotCarried_0 rfl rfl ?_
  refine n_VP (pc := 1) (c_X9_size hW) bX9_size q_i_X9_size q_s_X9_size q_m_X7_70 dX7_whatIsNotCarried_1 rfl rfl (by repeat (first | assumption | exact hset_eq _ _ _ | rw [hset_ne _ _ (by omega)])) rfl rfl (by exact Nat.le_of_ble_eq_true rfl) ⟨by decide, by decide⟩ ⟨rfl, rfl, Nat.zero_le _, Nat.zero_le _⟩ ?_
  refine e_istore (pc := 4) dX7_whatIsNotCarried_4 (by decide) ?_
  refine n_iconst (pc := 6) 0 dX7_whatIsNotCarried_6 (by decide) ?_
  refine e_istore (pc := 7) dX7_whatIsNotCarried_7 (by decide) ?_
  refine l_wc_b hC hk hO2 (fun q => ⟨Or.inl ⟨q, rfl⟩, hC, Fs.rf _ _ _ h⟩) (fun hO => ?_) 3 0 rfl (Nat.zero_le _) (fun k i q => absurd q (Nat.not_lt_zero k))
  refine n_iconst (pc := 56) 0 dX7_whatIsNotCarried_56 (by decide) ?_
  refine e_istore (pc := 57) dX7_whatIsNotCarried_57 (by decide) ?_
  exact l_wc_m hk hk2 d hO hO2 3 0 rfl (Nat.zero_le _) h hC (Fs.rf _ _ _ h) (fun k q => absurd q (Nat.not_lt_zero k))
end SJ
