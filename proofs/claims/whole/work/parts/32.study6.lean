/-! ===== Study: a world made to have a unit ===== -/
/-- unchanged but for the Study's cells and two worlds -/
def Fr2 (E o o2 : Nat) (h h' : AH) : Prop := ∀ a, (a < E ∨ E + 89 ≤ a) → a ≠ o → a ≠ o + 1 → a ≠ o + 2 → a ≠ o2 → a ≠ o2 + 1 → a ≠ o2 + 2 → h' a = h a
theorem Fr2.rf (E o o2 : Nat) (h : AH) : Fr2 E o o2 h h := fun _ _ _ _ _ _ _ _ => rfl
theorem Fr2.tr {E o o2 : Nat} {h h1 h2 : AH} (a : Fr2 E o o2 h h1) (b : Fr2 E o o2 h1 h2) : Fr2 E o o2 h h2 := fun q a1 a2 a3 a4 a5 a6 a7 => (b q a1 a2 a3 a4 a5 a6 a7).trans (a q a1 a2 a3 a4 a5 a6 a7)
theorem Fr.f2 {E o o2 : Nat} {h h1 : AH} (e : Fr E o h h1) : Fr2 E o o2 h h1 := fun q a1 a2 a3 a4 _ _ _ => e q a1 a2 a3 a4
theorem Ew.f2 {E o o2 : Nat} {h h1 : AH} (e : Ew o2 h h1) : Fr2 E o o2 h h1 := fun q _ _ _ _ a5 a6 a7 => e q a5 a6 a7
theorem Ew.f2' {E o o2 : Nat} {h h1 : AH} (e : Ew o h h1) : Fr2 E o o2 h h1 := fun q _ a5 a6 a7 _ _ _ => e q a5 a6 a7
theorem WAt.es {h h2 : AH} {o o2 : Nat} {W : Wd} {f : Int32} (hW : WAt h o2 W f) (e : Es o h h2) (d : o2 + 3 ≤ o ∨ o + 3 ≤ o2) : WAt h2 o2 W f := hW.far e.ew (by omega)
theorem WAt.ft {h h2 : AH} {E o o2 : Nat} {W : Wd} {f : Int32} (hW : WAt h o2 W f) (e : Ft E o h h2) (d : o2 + 3 ≤ o ∨ o + 3 ≤ o2) (d2 : o2 + 3 ≤ E ∨ E + 89 ≤ o2) : WAt h2 o2 W f := by
  obtain ⟨a1, a2, g, a3⟩ := hW
  exact ⟨by rw [e _ (by omega) (by omega) (by omega)]; exact a1, by rw [e _ (by omega) (by omega) (by omega)]; exact a2, g, by rw [e _ (by omega) (by omega) (by omega)]; exact a3⟩
noncomputable def uD (W : Wd) (e t : Nat) : Nat := dg W.1 (mul W (qz W e false (W.1 ^ (t / 25))) (qz W e true (W.1 ^ (t / 5 % 5)))) (t % 5)
noncomputable def wup (W : Wd) (e j i : Nat) : Wd := (W.1, W.2.1, fun t => if inC W.2.1 t ∧ (t / 5 % 5 < j ∨ t / 5 % 5 = j ∧ t / 25 < i) then uD W e t else 0)
theorem wup_ok {W : Wd} (hk : Wok W) (e j i : Nat) : Wok (wup W e j i) := by
  obtain ⟨h1, h2, h3, h4, h5⟩ := id hk
  have h9 := hk.b
  refine ⟨h1, h2, h3, h4, fun k => ⟨?_, fun q => if_neg (fun c => q c.1)⟩⟩
  show (if _ then _ else _) < W.1
  split
  · exact dg_lt (by omega) _ _
  · omega
theorem wup_0 (W : Wd) (e : Nat) : wup W e 0 0 = (W.1, W.2.1, fun _ => 0) := by
  unfold wup
  congr 2
  funext t
  exact if_neg (fun c => by omega)
theorem wup_j {W : Wd} (e j : Nat) : wup W e j W.2.1 = wup W e (j + 1) 0 := by
  unfold wup
  congr 2
  funext t
  by_cases c : inC W.2.1 t ∧ (t / 5 % 5 < j ∨ t / 5 % 5 = j ∧ t / 25 < W.2.1)
  · rw [if_pos c, if_pos ⟨c.1, by omega⟩]
  · rw [if_neg c, if_neg (fun q => c ⟨q.1, by have := q.1.2.1; omega⟩)]
theorem wup_n {W : Wd} (e : Nat) : wup W e W.2.1 0 = wuni W e := by
  unfold wup wuni uD
  congr 2
  funext t
  by_cases c : inC W.2.1 t
  · rw [if_pos c, if_pos ⟨c, Or.inl c.2.2.1⟩]
  · rw [if_neg c, if_neg (fun q => c q.1)]
theorem wup_i {W : Wd} (hk : Wok W) (e : Nat) {i j : Nat} (hi : i < W.2.1) (hj : j < W.2.1) : wrow (wup W e j i) i j W.2.1 (mul W (qz W e false (W.1 ^ i)) (qz W e true (W.1 ^ j))) = wup W e j (i + 1) := by
  have h9 := hk.b
  unfold wrow wup
  congr 2
  funext t
  dsimp only
  by_cases c : 25 * i + 5 * j ≤ t ∧ t < 25 * i + 5 * j + W.2.1
  · have c1 : t / 25 = i := by omega
    have c2 : t / 5 % 5 = j := by omega
    have c3 : t % 5 = t - (25 * i + 5 * j) := by omega
    rw [if_pos c, if_pos ⟨⟨by omega, by omega, by omega, by omega⟩, by omega⟩]
    unfold uD
    rw [c1, c2, c3]
  · rw [if_neg c]
    by_cases c4 : inC W.2.1 t ∧ (t / 5 % 5 < j ∨ t / 5 % 5 = j ∧ t / 25 < i)
    · rw [if_pos c4, if_pos ⟨c4.1, by omega⟩]
    · rw [if_neg c4, if_neg (fun q => c4 ⟨q.1, by have := q.1; have := q.2; omega⟩)]
section SY
variable {h : AH} {E o o2 : Nat} {W : Wd} {f : Int32}
section MU
variable {sz e : Nat} {hh : AH} {Pr : AH → Prop}
def UM (h1 : AH) (E : Nat) (W : Wd) (e m : Nat) : Prop := ∃ g, h1 (E + 85) = some (aI 5 g) ∧ ∀ t, t < m → g t = nI (qz W e false (W.1 ^ t))
theorem l_mu_1 (hk : Wok W) (hD : Div W) (h0 : 0 < e) (he9 : e < W.1 ^ W.2.1) (d : o + 3 ≤ E ∨ E + 89 ≤ o)
    (kk : ∀ h1, TSh h1 E → WAt h1 o W f → Fr E o hh h1 → UM h1 E W e W.2.1 → VV MX7_makeUnital sz Pr h1 42 [some (.ref (E + 83)), some (.ref o), some (.int (nI e)), some (.ref o2), some (.int (nI W.2.1)), none, none, none] []) :
    ∀ (n i : Nat), n = W.2.1 - i → i ≤ W.2.1 → ∀ h1, TSh h1 E → WAt h1 o W f → Fr E o hh h1 → UM h1 E W e i → VV MX7_makeUnital sz Pr h1 9 [some (.ref (E + 83)), some (.ref o), some (.int (nI e)), some (.ref o2), some (.int (nI W.2.1)), some (.int (nI i)), none, none] [] := by
  obtain ⟨b1, b2, b3, b4, b5⟩ := hk.b
  intro n
  induction n with
  | zero =>
    intro i e1 e2 h1 hT hW he hu
    have e' : i = W.2.1 := by omega
    subst e'
    refine e_iload (pc := 9) dX7_makeUnital_9 rfl ?_
    refine e_iload (pc := 11) dX7_makeUnital_11 rfl ?_
    refine n_icmp_ge (pc := 13) (tgt := 42) dX7_makeUnital_13 (by decide) (by omega) (by omega) (fun hb_ => ?_) (fun c => absurd c (by omega))
    refine V.mask [true, true, true, true, true, false, false, false] ?_
    exact kk h1 hT hW he hu
  | succ n ih =>
    intro i e1 e2 h1 hT hW he hu
    have hi : i < W.2.1 := by omega
    have qi := pow_q hk hi
    obtain ⟨-, t0, -⟩ := id hT
    obtain ⟨w0, -, -⟩ := id hW
    obtain ⟨g, g1, g2⟩ := hu
    refine e_iload (pc := 9) dX7_makeUnital_9 rfl ?_
    refine e_iload (pc := 11) dX7_makeUnital_11 rfl ?_
    refine n_icmp_ge (pc := 13) (tgt := 42) dX7_makeUnital_13 (by decide) (by omega) (by omega) (fun c => absurd c (by omega)) (fun hb_ => ?_)
    refine e_aload_n (pc := 16) dX7_makeUnital_16 rfl rfl ?_
    refine e_get (pc := 17) fl_X7_15 dX7_makeUnital_17 (by repeat (first | assumption | exact hset_eq _ _ _ | rw [hset_ne _ _ (by omega)])) (by rfl) ?_
    refine e_iload (pc := 20) dX7_makeUnital_20 rfl ?_
    refine e_aload_n (pc := 22) dX7_makeUnital_22 rfl rfl ?_
    refine e_aload_n (pc := 23) dX7_makeUnital_23 rfl rfl ?_
    refine e_iload_n (pc := 24) dX7_makeUnital_24 rfl rfl ?_
    refine e_aload_n (pc := 25) dX7_makeUnital_25 rfl rfl ?_
    refine e_iload (pc := 26) dX7_makeUnital_26 rfl ?_
    refine n_VP (pc := 28) (c_X9_base hW hk (show i ≤ 5 by omega)) bX9_base q_i_X9_base q_s_X9_base q_m_X7_73 dX7_makeUnital_28 rfl rfl (by repeat (first | assumption | exact hset_eq _ _ _ | rw [hset_ne _ _ (by omega)])) rfl rfl (by exact Nat.le_of_ble_eq_true rfl) ⟨by decide, by decide⟩ ⟨rfl, rfl, Nat.zero_le _, Nat.zero_le _⟩ ?_
    refine n_iconst (pc := 31) 0 dX7_makeUnital_31 (by decide) ?_
    refine n_V (pc := 32) (c_X7_divide (l := false) hT hW hk he9 qi d) bX7_divide q_i_X7_divide q_s_X7_divide q_m_X7_90 dX7_makeUnital_32 rfl rfl (by repeat (first | assumption | exact hset_eq _ _ _ | rw [hset_ne _ _ (by omega)])) rfl rfl (by exact Nat.le_of_ble_eq_true rfl) ⟨by decide, by decide⟩ ⟨rfl, rfl, Nat.zero_le _, Nat.zero_le _⟩ (fun z h2 hp => ?_)
    obtain ⟨p1, p2, p3, p4⟩ := hp
    have hz := p1.qz hk hD h0 he9 qi
    subst hz
    have g3 := (p4 (E + 85) (by omega) (by omega) (by omega)).trans g1
    refine e_iastN (pc := 35) _ dX7_makeUnital_35 (by repeat (first | assumption | exact hset_eq _ _ _ | rw [hset_ne _ _ (by omega)])) (by rfl) (by omega) (by first | decide | omega) ?_
    refine n_inc (pc := 36) dX7_makeUnital_36 rfl (by decide) ?_
    refine e_goto (pc := 39) (tgt := 9) dX7_makeUnital_39 (by decide) ?_
    refine ih (i + 1) (by omega) (by omega) _ (p2.a5 (Or.inr rfl)) (p3.hs (by omega)) ((he.tr p4.fr).set (by omega)) ⟨_, hset_eq _ _ _, fun t ht => ?_⟩
    by_cases c : t = i
    · subst c; rw [pk_us]
    · rw [pk_un c]; exact g2 t (by omega)
theorem l_mu_i {j : Nat} (hk : Wok W) (hD : Div W) (h0 : 0 < e) (he9 : e < W.1 ^ W.2.1) (d : o + 3 ≤ E ∨ E + 89 ≤ o) (d2 : o2 + 3 ≤ E ∨ E + 89 ≤ o2) (d3 : o + 3 ≤ o2 ∨ o2 + 3 ≤ o) (hj : j < W.2.1)
    (kk : ∀ h1, TSh h1 E → WAt h1 o W f → WAt h1 o2 (wup W e (j + 1) 0) (-2) → Fr2 E o o2 hh h1 → UM h1 E W e W.2.1 → VV MX7_makeUnital sz Pr h1 114 [some (.ref (E + 83)), some (.ref o), some (.int (nI e)), some (.ref o2), some (.int (nI W.2.1)), some (.int (nI j)), none, none] []) :
    ∀ (n i : Nat), n = W.2.1 - i → i ≤ W.2.1 → ∀ h1, TSh h1 E → WAt h1 o W f → WAt h1 o2 (wup W e j i) (-2) → Fr2 E o o2 hh h1 → UM h1 E W e W.2.1 → VV MX7_makeUnital sz Pr h1 80 [some (.ref (E + 83)), some (.ref o), some (.int (nI e)), some (.ref o2), some (.int (nI W.2.1)), some (.int (nI j)), some (.int (nI (qz W e true (W.1 ^ j)))), some (.int (nI i))] [] := by
  obtain ⟨b1, b2, b3, b4, b5⟩ := hk.b
  have qj := (qz_ok hk hD h0 he9 true (pow_q hk hj)).1
  intro n
  induction n with
  | zero =>
    intro i e1 e2 h1 hT hW hW2 he hu
    have e' : i = W.2.1 := by omega
    subst e'
    refine e_iload (pc := 80) dX7_makeUnital_80 rfl ?_
    refine e_iload (pc := 82) dX7_makeUnital_82 rfl ?_
    refine n_icmp_ge (pc := 84) (tgt := 114) dX7_makeUnital_84 (by decide) (by omega) (by omega) (fun hb_ => ?_) (fun c => absurd c (by omega))
    refine V.mask [true, true, true, true, true, true, false, false] ?_
    rw [wup_j] at hW2
    exact kk h1 hT hW hW2 he hu
  | succ n ih =>
    intro i e1 e2 h1 hT hW hW2 he hu
    have hi : i < W.2.1 := by omega
    have qi := (qz_ok hk hD h0 he9 false (pow_q hk hi)).1
    obtain ⟨-, t0, -⟩ := id hT
    obtain ⟨w0, -, -⟩ := id hW
    obtain ⟨g, g1, g2⟩ := hu
    have m1 := mul_lt hk (qz W e false (W.1 ^ i)) (qz W e true (W.1 ^ j))
    refine e_iload (pc := 80) dX7_makeUnital_80 rfl ?_
    refine e_iload (pc := 82) dX7_makeUnital_82 rfl ?_
    refine n_icmp_ge (pc := 84) (tgt := 114) dX7_makeUnital_84 (by decide) (by omega) (by omega) (fun c => absurd c (by omega)) (fun hb_ => ?_)
    refine e_aload_n (pc := 87) dX7_makeUnital_87 rfl rfl ?_
    refine e_iload (pc := 88) dX7_makeUnital_88 rfl ?_
    refine e_iload (pc := 90) dX7_makeUnital_90 rfl ?_
    refine e_aload_n (pc := 92) dX7_makeUnital_92 rfl rfl ?_
    refine e_aload_n (pc := 93) dX7_makeUnital_93 rfl rfl ?_
    refine e_get (pc := 94) fl_X7_15 dX7_makeUnital_94 (by repeat (first | assumption | exact hset_eq _ _ _ | rw [hset_ne _ _ (by omega)])) (by rfl) ?_
    refine e_iload (pc := 97) dX7_makeUnital_97 rfl ?_
    refine e_ialdN (pc := 99) _ dX7_makeUnital_99 (by repeat (first | assumption | exact hset_eq _ _ _ | rw [hset_ne _ _ (by omega)])) (by rfl) (by omega) (by first | decide | omega) ?_
    rw [g2 i hi]
    refine e_iload (pc := 100) dX7_makeUnital_100 rfl ?_
    refine n_V (pc := 102) (c_X9_times2 hW hk (show qz W e false (W.1 ^ i) < 3125 by omega) (show qz W e true (W.1 ^ j) < 3125 by omega)) bX9_times q_i_X9_times q_s_X9_times q_m_X7_62 dX7_makeUnital_102 rfl rfl (by repeat (first | assumption | exact hset_eq _ _ _ | rw [hset_ne _ _ (by omega)])) rfl rfl (by exact Nat.le_of_ble_eq_true rfl) ⟨by decide, by decide⟩ ⟨rfl, rfl, Nat.zero_le _, Nat.zero_le _⟩ (fun z h2 hp => ?_)
    obtain ⟨rfl, p1, p2⟩ := hp
    have hW2' := hW2.es p2 (by omega)
    obtain ⟨w1, -, -⟩ := id hW2'
    refine n_Vv (pc := 105) (c_X9_putRow hW2' (wup_ok hk e j i) hi hj (show mul W (qz W e false (W.1 ^ i)) (qz W e true (W.1 ^ j)) < 3125 by omega)) bX9_putRow q_i_X9_putRow q_s_X9_putRow q_m_X7_98 dX7_makeUnital_105 rfl rfl (by repeat (first | assumption | exact hset_eq _ _ _ | rw [hset_ne _ _ (by omega)])) rfl rfl (by exact Nat.le_of_ble_eq_true rfl) ⟨by decide, by decide⟩ ⟨rfl, rfl, Nat.zero_le _, Nat.zero_le _⟩ (fun h3 hp => ?_)
    obtain ⟨p3, p4⟩ := hp
    rw [show (wup W e j i).2.1 = W.2.1 from rfl, wup_i hk e hi hj] at p3
    refine n_inc (pc := 108) dX7_makeUnital_108 rfl (by decide) ?_
    refine e_goto (pc := 111) (tgt := 80) dX7_makeUnital_111 (by decide) ?_
    exact ih (i + 1) (by omega) (by omega) h3 ((hT.es p2 d).ew p4 d2) (p1.far p4 d3) p3 (he.tr (p2.fr.f2.tr p4.f2)) ⟨g, by rw [p4 _ (by omega) (by omega) (by omega), p2 _ (by omega)]; exact g1, g2⟩
theorem l_mu_j (hk : Wok W) (hD : Div W) (h0 : 0 < e) (he9 : e < W.1 ^ W.2.1) (d : o + 3 ≤ E ∨ E + 89 ≤ o) (d2 : o2 + 3 ≤ E ∨ E + 89 ≤ o2) (d3 : o + 3 ≤ o2 ∨ o2 + 3 ≤ o) :
    ∀ (n j : Nat), n = W.2.1 - j → j ≤ W.2.1 → ∀ h1, TSh h1 E → WAt h1 o W f → WAt h1 o2 (wup W e j 0) (-2) → Fr2 E o o2 hh h1 → UM h1 E W e W.2.1 → VV MX7_makeUnital sz (fun h' => TSh h' E ∧ WAt h' o W f ∧ WAt h' o2 (wuni W e) (-2) ∧ Fr2 E o o2 hh h') h1 55 [some (.ref (E + 83)), some (.ref o), some (.int (nI e)), some (.ref o2), some (.int (nI W.2.1)), some (.int (nI j)), none, none] [] := by
  obtain ⟨b1, b2, b3, b4, b5⟩ := hk.b
  intro n
  induction n with
  | zero =>
    intro j e1 e2 h1 hT hW hW2 he hu
    have e' : j = W.2.1 := by omega
    subst e'
    refine e_iload (pc := 55) dX7_makeUnital_55 rfl ?_
    refine e_iload (pc := 57) dX7_makeUnital_57 rfl ?_
    refine n_icmp_ge (pc := 59) (tgt := 120) dX7_makeUnital_59 (by decide) (by omega) (by omega) (fun hb_ => ?_) (fun c => absurd c (by omega))
    rw [wup_n] at hW2
    exact n_vret (pc := 120) dX7_makeUnital_120 rfl ⟨hT, hW, hW2, he⟩
  | succ n ih =>
    intro j e1 e2 h1 hT hW hW2 he hu
    have hj : j < W.2.1 := by omega
    have qj := pow_q hk hj
    obtain ⟨-, t0, -⟩ := id hT
    obtain ⟨w0, -, -⟩ := id hW
    obtain ⟨g, g1, g2⟩ := hu
    refine e_iload (pc := 55) dX7_makeUnital_55 rfl ?_
    refine e_iload (pc := 57) dX7_makeUnital_57 rfl ?_
    refine n_icmp_ge (pc := 59) (tgt := 120) dX7_makeUnital_59 (by decide) (by omega) (by omega) (fun c => absurd c (by omega)) (fun hb_ => ?_)
    refine e_aload_n (pc := 62) dX7_makeUnital_62 rfl rfl ?_
    refine e_aload_n (pc := 63) dX7_makeUnital_63 rfl rfl ?_
    refine e_iload_n (pc := 64) dX7_makeUnital_64 rfl rfl ?_
    refine e_aload_n (pc := 65) dX7_makeUnital_65 rfl rfl ?_
    refine e_iload (pc := 66) dX7_makeUnital_66 rfl ?_
    refine n_VP (pc := 68) (c_X9_base hW hk (show j ≤ 5 by omega)) bX9_base q_i_X9_base q_s_X9_base q_m_X7_73 dX7_makeUnital_68 rfl rfl (by repeat (first | assumption | exact hset_eq _ _ _ | rw [hset_ne _ _ (by omega)])) rfl rfl (by exact Nat.le_of_ble_eq_true rfl) ⟨by decide, by decide⟩ ⟨rfl, rfl, Nat.zero_le _, Nat.zero_le _⟩ ?_
    refine n_iconst (pc := 71) 1 dX7_makeUnital_71 (by decide) ?_
    refine n_V (pc := 72) (c_X7_divide (l := true) hT hW hk he9 qj d) bX7_divide q_i_X7_divide q_s_X7_divide q_m_X7_90 dX7_makeUnital_72 rfl rfl (by repeat (first | assumption | exact hset_eq _ _ _ | rw [hset_ne _ _ (by omega)])) rfl rfl (by exact Nat.le_of_ble_eq_true rfl) ⟨by decide, by decide⟩ ⟨rfl, rfl, Nat.zero_le _, Nat.zero_le _⟩ (fun z h2 hp => ?_)
    obtain ⟨p1, p2, p3, p4⟩ := hp
    have hz := p1.qz hk hD h0 he9 qj
    subst hz
    refine e_istore (pc := 75) dX7_makeUnital_75 (by decide) ?_
    refine n_iconst (pc := 77) 0 dX7_makeUnital_77 (by decide) ?_
    refine e_istore (pc := 78) dX7_makeUnital_78 (by decide) ?_
    refine l_mu_i (hh := hh) (f := f) hk hD h0 he9 d d2 d3 hj (fun h3 hT3 hW3 hW4 he3 hu3 => ?_) W.2.1 0 rfl (Nat.zero_le _) h2 p2 p3 (hW2.ft p4 (by omega) d2) (he.tr p4.fr.f2) ⟨g, by rw [p4 _ (by omega) (by omega) (by omega)]; exact g1, g2⟩
    refine n_inc (pc := 114) dX7_makeUnital_114 rfl (by decide) ?_
    refine e_goto (pc := 117) (tgt := 55) dX7_makeUnital_117 (by decide) ?_
    exact ih (j + 1) (by omega) (by omega) h3 hT3 hW3 hW4 he3 hu3
end MU
theorem c_X7_makeUnital {e : Nat} {W2 : Wd} {f2 : Int32} (hT : TSh h E) (hW : WAt h o W f) (hk : Wok W) (hW2 : WAt h o2 W2 f2) (hk2 : Wok W2) (hD : Div W) (h0 : 0 < e) (he9 : e < W.1 ^ W.2.1) (d : o + 3 ≤ E ∨ E + 89 ≤ o) (d2 : o2 + 3 ≤ E ∨ E + 89 ≤ o2) (d3 : o + 3 ≤ o2 ∨ o2 + 3 ≤ o) : CV yX7_makeUnital MX7_makeUnital [.ref (E + 83), .ref o, .int (nI e), .ref o2] h (fun h' => TSh h' E ∧ WAt h' o W f ∧ WAt h' o2 (wuni W e) (-2) ∧ Fr2 E o o2 h h') := by
  obtain ⟨w0, -, -⟩ := id hW
  obtain ⟨-, -, -, ⟨g, hg⟩, -⟩ := id hT
  have hcb : canBe W.1 W.2.1 := ⟨hk.1, hk.2.1, hk.2.2.1, hk.2.2.2.1⟩
  refine CV.ofV (by decide) rfl rfl (by simp [Value.category]) (by exact Nat.le_of_ble_eq_true rfl) (fun sz => ?_)
  refine e_aload_n (pc := 0) dX7_makeUnital_0 rfl rfl ?_
  refine n_VP (pc := 1) (c_X9_size hW) bX9_size q_i_X9_size q_s_X9_size q_m_X7_70 dX7_makeUnital_1 rfl rfl (by repeat (first | assumption | exact hset_eq _ _ _ | rw [hset_ne _ _ (by omega)])) rfl rfl (by exact Nat.le_of_ble_eq_true rfl) ⟨by decide, by decide⟩ ⟨rfl, rfl, Nat.zero_le _, Nat.zero_le _⟩ ?_
  refine e_istore (pc := 4) dX7_makeUnital_4 (by decide) ?_
  refine n_iconst (pc := 6) 0 dX7_makeUnital_6 (by decide) ?_
  refine e_istore (pc := 7) dX7_makeUnital_7 (by decide) ?_
  refine l_mu_1 (hh := h) (f := f) hk hD h0 he9 d (fun h3 hT3 hW3 he3 hu3 => ?_) W.2.1 0 rfl (Nat.zero_le _) h hT hW (Fr.rf E o h) ⟨g, hg, fun t ht => absurd ht (Nat.not_lt_zero t)⟩
  obtain ⟨w0, -, -⟩ := id hW3
  have hW4 := hW2.fr he3 d2 (by omega)
  obtain ⟨w1, -, -⟩ := id hW4
  refine e_aload_n (pc := 42) dX7_makeUnital_42 rfl rfl ?_
  refine e_aload_n (pc := 43) dX7_makeUnital_43 rfl rfl ?_
  refine n_VP (pc := 44) (c_X9_prime hW3) bX9_prime q_i_X9_prime q_s_X9_prime q_m_X7_81 dX7_makeUnital_44 rfl rfl (by repeat (first | assumption | exact hset_eq _ _ _ | rw [hset_ne _ _ (by omega)])) rfl rfl (by exact Nat.le_of_ble_eq_true rfl) ⟨by decide, by decide⟩ ⟨rfl, rfl, Nat.zero_le _, Nat.zero_le _⟩ ?_
  refine e_iload (pc := 47) dX7_makeUnital_47 rfl ?_
  refine n_Vv (pc := 49) (c_X9_clear hW4 hk2 hcb) bX9_clear q_i_X9_clear q_s_X9_clear q_m_X7_94 dX7_makeUnital_49 rfl rfl (by repeat (first | assumption | exact hset_eq _ _ _ | rw [hset_ne _ _ (by omega)])) rfl rfl (by exact Nat.le_of_ble_eq_true rfl) ⟨by decide, by decide⟩ ⟨rfl, rfl, Nat.zero_le _, Nat.zero_le _⟩ (fun h4 hp => ?_)
  obtain ⟨p1, p2⟩ := hp
  rw [← wup_0 W e] at p1
  obtain ⟨g3, u1, u2⟩ := hu3
  refine n_iconst (pc := 52) 0 dX7_makeUnital_52 (by decide) ?_
  refine e_istore (pc := 53) dX7_makeUnital_53 (by decide) ?_
  exact l_mu_j (hh := h) hk hD h0 he9 d d2 d3 W.2.1 0 rfl (Nat.zero_le _) h4 (hT3.ew p2 d2) (hW3.far p2 d3) p1 (he3.f2.tr p2.f2) ⟨g3, by rw [p2 _ (by omega) (by omega) (by omega)]; exact u1, u2⟩
end SY
