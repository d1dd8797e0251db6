/-! ===== Study: maps that are told ===== -/
theorem WAt.esx {h h2 : AH} {o o2 : Nat} {W2 : Wd} {f2 : Int32} (q : WAt h o2 W2 f2) (e : Es o h h2) (hn : ∃ g, h2 (o + 2) = some (aI 5 g)) (d : o = o2 ∨ o + 3 ≤ o2 ∨ o2 + 3 ≤ o) : WAt h2 o2 W2 f2 := by
  rcases d with rfl | d
  · exact q.kept (e _ (by omega)) (e _ (by omega)) hn
  · exact q.es e (by omega)
/-- what is told of maps, alone -/
def ImS (h : AH) (S : Nat) (x : Sx) : Prop := (∃ v0 v1 v2 v4 v5, h S = some (ob 6 [v0, v1, v2, .ref (S + 4), v4, v5])) ∧ (∃ g, h (S + 4) = some (aI 15 g) ∧ ∀ t, t < 15 → g t = x.im t) ∧ ∀ t, t < 15 → x.im t = -1 ∨ ∃ v, v < 243 ∧ x.im t = nI v
theorem StA.ims {h : AH} {S : Nat} {σ : Nat → Nat} {x : Sx} (q : StA h S σ x) : ImS h S x := ⟨⟨_, _, _, _, _, q.1.1⟩, q.1.2.2.2.2, q.2.2.1.2.2.1⟩
theorem ImS.far {h h2 : AH} {S : Nat} {x : Sx} (q : ImS h S x) (e1 : h2 S = h S) (e2 : h2 (S + 4) = h (S + 4)) : ImS h2 S x := by
  unfold ImS
  rw [e1, e2]
  exact q
def imn (x : Sx) (W : Wd) (m i : Nat) : Nat := if x.im (5 * m + i) = -1 then W.1 ^ i else (x.im (5 * m + i)).toNatClampNeg
def Fs (E o o2 : Nat) (h h' : AH) : Prop := ∀ a, (a < E ∨ E + 89 ≤ a) → a ≠ o + 2 → a ≠ o2 + 2 → h' a = h a
theorem Fs.rf (E o o2 : Nat) (h : AH) : Fs E o o2 h h := fun _ _ _ _ => rfl
theorem Fs.tr {E o o2 : Nat} {h h1 h2 : AH} (a : Fs E o o2 h h1) (b : Fs E o o2 h1 h2) : Fs E o o2 h h2 := fun q x y z => (b q x y z).trans (a q x y z)
theorem Es.fs {E o o2 : Nat} {h h1 : AH} (e : Es o h h1) : Fs E o o2 h h1 := fun a _ x _ => e a x
theorem Es.fs' {E o o2 : Nat} {h h1 : AH} (e : Es o2 h h1) : Fs E o o2 h h1 := fun a _ _ x => e a x
theorem Ee.fs {E o o2 : Nat} {h h1 : AH} (e : Ee E h h1) : Fs E o o2 h h1 := fun a x _ _ => e a (by omega)
theorem Fs.set {E o o2 a : Nat} {x : AE} {h h1 : AH} (e : Fs E o o2 h h1) (ha : E ≤ a ∧ a < E + 89) : Fs E o o2 h (hset h1 a x) := fun q p1 p2 p3 => by
  rw [hset_ne _ _ (by omega)]; exact e q p1 p2 p3
theorem nI_ne {a : Nat} (ha : a < 2 ^ 31) : nI a ≠ -1 := fun e => by
  have h1 := nI_toInt ha
  rw [e] at h1
  have h2 : (-1 : Int32).toInt = -1 := by decide
  rw [h2] at h1
  omega
section SI
variable {h : AH} {E o o2 S : Nat} {W W2 : Wd} {f f2 : Int32} {x : Sx}
theorem imn_lt (hk : Wok W) (q : ∀ t, t < 15 → x.im t = -1 ∨ ∃ v, v < 243 ∧ x.im t = nI v) {m i : Nat} (hm : m < 3) (hi : i < W.2.1) : imn x W m i < 243 := by
  obtain ⟨b1, b2, b3, b4, b5⟩ := hk.b
  have := pow_q hk hi
  unfold imn
  split
  · omega
  · rcases q (5 * m + i) (by omega) with e | ⟨v, hv, e⟩
    · contradiction
    · rw [e, nI_clamp (by omega)]; exact hv
theorem c_X6_imageAt2 (hS : ImS h S x) {k : Nat} (hk : k < 15) : CP yX6_imageAt MX6_imageAt [.ref S, .int (nI k)] h (x.im k) := by
  obtain ⟨⟨v0, v1, v2, v4, v5, a1⟩, ⟨g5, a5, a5'⟩, -⟩ := id hS
  refine CI.ofV (by decide) rfl rfl (by simp [Value.category]) (by exact Nat.le_of_ble_eq_true rfl) (fun sz => ?_)
  refine e_iload_n (pc := 0) dX6_imageAt_0 rfl rfl ?_
  refine n_if_lt (pc := 1) (tgt := 19) dX6_imageAt_1 (by omega) ?_ (by decide)
  refine e_iload_n (pc := 4) dX6_imageAt_4 rfl rfl ?_
  refine n_bipush (pc := 5) 15 dX6_imageAt_5 (by decide) ?_
  refine n_icmp_ge (pc := 7) (tgt := 19) dX6_imageAt_7 (by decide) (by omega) (by omega) (fun c => absurd c (by omega)) (fun hb_ => ?_)
  refine e_aload_n (pc := 10) dX6_imageAt_10 rfl rfl ?_
  refine e_get (pc := 11) fl_X6_24 dX6_imageAt_11 (by repeat (first | assumption | exact hset_eq _ _ _ | rw [hset_ne _ _ (by omega)])) (by rfl) ?_
  refine e_iload_n (pc := 14) dX6_imageAt_14 rfl rfl ?_
  refine e_ialdN (pc := 15) _ dX6_imageAt_15 (by repeat (first | assumption | exact hset_eq _ _ _ | rw [hset_ne _ _ (by omega)])) (by rfl) (by omega) (by first | decide | omega) ?_
  refine e_goto (pc := 16) (tgt := 20) dX6_imageAt_16 (by decide) ?_
  exact n_iret (pc := 20) dX6_imageAt_20 rfl ⟨a5' k hk, rfl⟩
theorem c_X7_imageOf {m i : Nat} (hS : ImS h S x) (hW : WAt h o W f) (hk : Wok W) (hm : m < 3) (hi : i < W.2.1) : CP yX7_imageOf MX7_imageOf [.ref o, .ref S, .int (nI m), .int (nI i)] h (nI (imn x W m i)) := by
  obtain ⟨b1, b2, b3, b4, b5⟩ := hk.b
  obtain ⟨⟨v0, v1, v2, v4, v5, a1⟩, -, a3⟩ := id hS
  obtain ⟨w0, -⟩ := id hW
  have a4 := a3 (5 * m + i) (by omega)
  refine CI.ofV (by decide) rfl rfl (by simp [Value.category]) (by exact Nat.le_of_ble_eq_true rfl) (fun sz => ?_)
  refine e_aload_n (pc := 0) dX7_imageOf_0 rfl rfl ?_
  refine n_iconst (pc := 1) 5 dX7_imageOf_1 (by decide) ?_
  refine e_iload_n (pc := 2) dX7_imageOf_2 rfl rfl ?_
  refine n_imul (pc := 3) dX7_imageOf_3 ?_
  refine e_iload_n (pc := 4) dX7_imageOf_4 rfl rfl ?_
  refine n_iadd (pc := 5) dX7_imageOf_5 ?_
  refine n_VP (pc := 6) (c_X6_imageAt2 hS (show 5 * m + i < 15 by omega)) bX6_imageAt q_i_X6_imageAt q_s_X6_imageAt q_m_X7_170 dX7_imageOf_6 rfl rfl (by repeat (first | assumption | exact hset_eq _ _ _ | rw [hset_ne _ _ (by omega)])) rfl rfl (by exact Nat.le_of_ble_eq_true rfl) ⟨by decide, by decide⟩ ⟨rfl, rfl, Nat.zero_le _, Nat.zero_le _⟩ ?_
  refine e_istore (pc := 9) dX7_imageOf_9 (by decide) ?_
  refine e_iload (pc := 11) dX7_imageOf_11 rfl ?_
  refine e_iconst (pc := 13) (v := -1) dX7_imageOf_13 (by decide) ?_
  refine e_icmp_ne (pc := 14) (tgt := 25) dX7_imageOf_14 (by decide) (fun c => ?_) (fun c => ?_)
  · refine e_iload (pc := 25) dX7_imageOf_25 rfl ?_
    refine n_iret (pc := 27) dX7_imageOf_27 rfl ⟨?_, rfl⟩
    rcases a4 with e | ⟨v, hv, e⟩
    · exact absurd e c
    · unfold imn
      rw [if_neg c, e, nI_clamp (by omega)]
  · refine e_aload_n (pc := 17) dX7_imageOf_17 rfl rfl ?_
    refine e_iload_n (pc := 18) dX7_imageOf_18 rfl rfl ?_
    refine n_VP (pc := 19) (c_X9_base hW hk (show i ≤ 5 by omega)) bX9_base q_i_X9_base q_s_X9_base q_m_X7_73 dX7_imageOf_19 rfl rfl (by repeat (first | assumption | exact hset_eq _ _ _ | rw [hset_ne _ _ (by omega)])) rfl rfl (by exact Nat.le_of_ble_eq_true rfl) ⟨by decide, by decide⟩ ⟨rfl, rfl, Nat.zero_le _, Nat.zero_le _⟩ ?_
    refine e_goto (pc := 22) (tgt := 27) dX7_imageOf_22 (by decide) ?_
    refine n_iret (pc := 27) dX7_imageOf_27 rfl ⟨?_, rfl⟩
    unfold imn
    rw [if_pos c]
def CBad (x : Sx) (W W2 : Wd) (i j : Nat) : Prop := lin W.1 W.2.1 (imn x W 2) (mul W (W.1 ^ i) (W.1 ^ j)) ≠ mul W2 (imn x W 0 i) (imn x W 1 j)
def FNC (x : Sx) (W W2 : Wd) (z : Int32) : Prop := (∃ i j, z = nI (5 * i + j) ∧ i < W.2.1 ∧ j < W.2.1 ∧ CBad x W W2 i j ∧ ∀ a b, a < W.2.1 → b < W.2.1 → (a < i ∨ a = i ∧ b < j) → ¬ CBad x W W2 a b) ∨ (z = -1 ∧ ∀ a b, a < W.2.1 → b < W.2.1 → ¬ CBad x W W2 a b)
def ImOk (x : Sx) (W : Wd) : Prop := ∀ m i, m < 3 → i < W.2.1 → imn x W m i < W.1 ^ W.2.1
/-- where the two worlds, the state and the study lie -/
def CS (h : AH) (E S o o2 : Nat) (W W2 : Wd) (f f2 : Int32) (x : Sx) : Prop := TSh h E ∧ WAt h o W f ∧ WAt h o2 W2 f2 ∧ ImS h S x
def CD (E S o o2 : Nat) : Prop := (o + 3 ≤ E ∨ E + 89 ≤ o) ∧ (o2 + 3 ≤ E ∨ E + 89 ≤ o2) ∧ (S + 5 ≤ E ∨ E + 89 ≤ S) ∧ (o = o2 ∨ o + 3 ≤ o2 ∨ o2 + 3 ≤ o) ∧ (o + 3 ≤ S ∨ S + 5 ≤ o) ∧ (o2 + 3 ≤ S ∨ S + 5 ≤ o2)
theorem CS.es {h2 : AH} (q : CS h E S o o2 W W2 f f2 x) (d : CD E S o o2) (hW : WAt h2 o W f) (e : Es o h h2) : CS h2 E S o o2 W W2 f f2 x := by
  obtain ⟨a1, a2, a3, a4⟩ := q
  obtain ⟨d1, d2, d3, d4, d5, d6⟩ := d
  exact ⟨a1.es e d1, hW, a3.esx e hW.2.2 d4, a4.far (e _ (by omega)) (e _ (by omega))⟩
theorem CS.es2 {h2 : AH} (q : CS h E S o o2 W W2 f f2 x) (d : CD E S o o2) (hW : WAt h2 o2 W2 f2) (e : Es o2 h h2) : CS h2 E S o o2 W W2 f f2 x := by
  obtain ⟨a1, a2, a3, a4⟩ := q
  obtain ⟨d1, d2, d3, d4, d5, d6⟩ := d
  exact ⟨a1.es e d2, a2.esx e hW.2.2 (by omega), hW, a4.far (e _ (by omega)) (e _ (by omega))⟩
theorem CS.ee {h2 : AH} (q : CS h E S o o2 W W2 f f2 x) (d : CD E S o o2) (s : ESh h2 E) (e : Ee E h h2) : CS h2 E S o o2 W W2 f f2 x := by
  obtain ⟨a1, a2, a3, a4⟩ := q
  obtain ⟨d1, d2, d3, d4, d5, d6⟩ := d
  exact ⟨a1.ee s e, a2.er e.er (by omega), a3.er e.er (by omega), a4.far (e _ (by omega)) (e _ (by omega))⟩
theorem CS.set {a : Nat} {c : AE} (q : CS h E S o o2 W W2 f f2 x) (d : CD E S o o2) (s : TSh (hset h a c) E) (ha : E ≤ a ∧ a < E + 89) : CS (hset h a c) E S o o2 W W2 f f2 x := by
  obtain ⟨a1, a2, a3, a4⟩ := q
  obtain ⟨d1, d2, d3, d4, d5, d6⟩ := d
  exact ⟨s, a2.hs (by omega), a3.hs (by omega), a4.far (hset_ne _ _ (by omega)) (hset_ne _ _ (by omega))⟩
section NC
variable {sz : Nat} {hh : AH}
theorem l_nc_j {i : Nat} {g : Nat → Int32} {Pr : Int32 → AH → Prop} (hk : Wok W) (hk2 : Wok W2) (hi : i < W.2.1) (d : CD E S o o2) (hO : ImOk x W) (hO2 : W2.1 = W.1 ∧ W2.2.1 = W.2.1)
    (hg : ∀ z, z < W.1 ^ W.2.1 → g z = nI (lin W.1 W.2.1 (imn x W 2) z))
    (kf : ∀ h1 j, j < W.2.1 → CBad x W W2 i j → (∀ b, b < j → ¬ CBad x W W2 i b) → CS h1 E S o o2 W W2 f f2 x → Fs E o o2 hh h1 → Pr (nI (5 * i + j)) h1)
    (kk : ∀ h1, CS h1 E S o o2 W W2 f f2 x → h1 (E + 87) = some (aI 243 g) → Fs E o o2 hh h1 → (∀ b, b < W.2.1 → ¬ CBad x W W2 i b) → VI MX7_firstNotCarried sz Pr h1 153 [some (.ref (E + 83)), some (.ref o), some (.ref o2), some (.ref S), some (.int (nI W.2.1)), some (.int (nI i)), none, none, none] []) :
    ∀ (n j : Nat), n = W.2.1 - j → j ≤ W.2.1 → ∀ h1, CS h1 E S o o2 W W2 f f2 x → h1 (E + 87) = some (aI 243 g) → Fs E o o2 hh h1 → (∀ b, b < j → ¬ CBad x W W2 i b) → VI MX7_firstNotCarried sz Pr h1 67 [some (.ref (E + 83)), some (.ref o), some (.ref o2), some (.ref S), some (.int (nI W.2.1)), some (.int (nI i)), some (.int (nI j)), none, none] [] := by
  obtain ⟨b1, b2, b3, b4, b5⟩ := hk.b
  intro n
  induction n with
  | zero =>
    intro j e1 e2 h1 hC ht he hb
    have e' : j = W.2.1 := by omega
    subst e'
    refine e_iload (pc := 67) dX7_firstNotCarried_67 rfl ?_
    refine e_iload (pc := 69) dX7_firstNotCarried_69 rfl ?_
    refine n_icmp_ge (pc := 71) (tgt := 153) dX7_firstNotCarried_71 (by decide) (by omega) (by omega) (fun hb_ => ?_) (fun c => absurd c (by omega))
    refine V.mask [true, true, true, true, true, true, false, false, false] ?_
    exact kk h1 hC ht he hb
  | succ n ih =>
    intro j e1 e2 h1 hC ht he hb
    have hj : j < W.2.1 := by omega
    have qi := pow_q hk hi
    have qj := pow_q hk hj
    have m1 := mul_lt hk (W.1 ^ i) (W.1 ^ j)
    have i0 := hO 0 i (by omega) hi
    have i1 := hO 1 j (by omega) hj
    obtain ⟨hT, hW, hW2, hI⟩ := id hC
    obtain ⟨w0, -⟩ := id hW
    refine e_iload (pc := 67) dX7_firstNotCarried_67 rfl ?_
    refine e_iload (pc := 69) dX7_firstNotCarried_69 rfl ?_
    refine n_icmp_ge (pc := 71) (tgt := 153) dX7_firstNotCarried_71 (by decide) (by omega) (by omega) (fun c => absurd c (by omega)) (fun hb_ => ?_)
    refine e_aload_n (pc := 74) dX7_firstNotCarried_74 rfl rfl ?_
    refine e_aload_n (pc := 75) dX7_firstNotCarried_75 rfl rfl ?_
    refine e_iload (pc := 76) dX7_firstNotCarried_76 rfl ?_
    refine n_VP (pc := 78) (c_X9_base hW hk (show i ≤ 5 by omega)) bX9_base q_i_X9_base q_s_X9_base q_m_X7_73 dX7_firstNotCarried_78 rfl rfl (by repeat (first | assumption | exact hset_eq _ _ _ | rw [hset_ne _ _ (by omega)])) rfl rfl (by exact Nat.le_of_ble_eq_true rfl) ⟨by decide, by decide⟩ ⟨rfl, rfl, Nat.zero_le _, Nat.zero_le _⟩ ?_
    refine e_aload_n (pc := 81) dX7_firstNotCarried_81 rfl rfl ?_
    refine e_iload (pc := 82) dX7_firstNotCarried_82 rfl ?_
    refine n_VP (pc := 84) (c_X9_base hW hk (show j ≤ 5 by omega)) bX9_base q_i_X9_base q_s_X9_base q_m_X7_73 dX7_firstNotCarried_84 rfl rfl (by repeat (first | assumption | exact hset_eq _ _ _ | rw [hset_ne _ _ (by omega)])) rfl rfl (by exact Nat.le_of_ble_eq_true rfl) ⟨by decide, by decide⟩ ⟨rfl, rfl, Nat.zero_le _, Nat.zero_le _⟩ ?_
    refine n_V (pc := 87) (c_X9_times2 hW hk (show W.1 ^ i < 3125 by omega) (show W.1 ^ j < 3125 by omega)) bX9_times q_i_X9_times q_s_X9_times q_m_X7_62 dX7_firstNotCarried_87 rfl rfl (by repeat (first | assumption | exact hset_eq _ _ _ | rw [hset_ne _ _ (by omega)])) rfl rfl (by exact Nat.le_of_ble_eq_true rfl) ⟨by decide, by decide⟩ ⟨rfl, rfl, Nat.zero_le _, Nat.zero_le _⟩ (fun z h2 hp => ?_)
    obtain ⟨rfl, p1, p2⟩ := hp
    have hC2 := hC.es d p1 p2
    obtain ⟨hT2, hWb, hWb2, hIb⟩ := id hC2
    obtain ⟨w0, -⟩ := id hWb
    obtain ⟨w1, -⟩ := id hWb2
    refine e_istore (pc := 90) dX7_firstNotCarried_90 (by decide) ?_
    refine e_aload_n (pc := 92) dX7_firstNotCarried_92 rfl rfl ?_
    refine e_aload_n (pc := 93) dX7_firstNotCarried_93 rfl rfl ?_
    refine e_aload_n (pc := 94) dX7_firstNotCarried_94 rfl rfl ?_
    refine n_iconst (pc := 95) 0 dX7_firstNotCarried_95 (by decide) ?_
    refine e_iload (pc := 96) dX7_firstNotCarried_96 rfl ?_
    refine n_SP (pc := 98) (c_X7_imageOf hIb hWb hk (show 0 < 3 by omega) hi) bX7_imageOf q_st_X7_imageOf q_m_X7_159 dX7_firstNotCarried_98 rfl rfl (by exact Nat.le_of_ble_eq_true rfl) ⟨by decide, by decide⟩ ⟨rfl, rfl, Nat.zero_le _, Nat.zero_le _⟩ ?_
    refine e_aload_n (pc := 101) dX7_firstNotCarried_101 rfl rfl ?_
    refine e_aload_n (pc := 102) dX7_firstNotCarried_102 rfl rfl ?_
    refine n_iconst (pc := 103) 1 dX7_firstNotCarried_103 (by decide) ?_
    refine e_iload (pc := 104) dX7_firstNotCarried_104 rfl ?_
    refine n_SP (pc := 106) (c_X7_imageOf hIb hWb hk (show 1 < 3 by omega) hj) bX7_imageOf q_st_X7_imageOf q_m_X7_159 dX7_firstNotCarried_106 rfl rfl (by exact Nat.le_of_ble_eq_true rfl) ⟨by decide, by decide⟩ ⟨rfl, rfl, Nat.zero_le _, Nat.zero_le _⟩ ?_
    refine n_V (pc := 109) (c_X9_times2 hWb2 hk2 (show imn x W 0 i < 3125 by omega) (show imn x W 1 j < 3125 by omega)) bX9_times q_i_X9_times q_s_X9_times q_m_X7_62 dX7_firstNotCarried_109 rfl rfl (by repeat (first | assumption | exact hset_eq _ _ _ | rw [hset_ne _ _ (by omega)])) rfl rfl (by exact Nat.le_of_ble_eq_true rfl) ⟨by decide, by decide⟩ ⟨rfl, rfl, Nat.zero_le _, Nat.zero_le _⟩ (fun z h3 hp => ?_)
    obtain ⟨rfl, p3, p4⟩ := hp
    have hC3 := hC2.es2 d p3 p4
    have ht3 : h3 (E + 87) = some (aI 243 g) := by
      obtain ⟨d1, d2, -⟩ := d
      exact (p4 _ (by omega)).trans ((p2 _ (by omega)).trans ht)
    obtain ⟨hT3, -⟩ := id hC3
    obtain ⟨-, t0, -⟩ := id hT3
    have m2 := mul_lt hk2 (imn x W 0 i) (imn x W 1 j)
    have l1 := lin_lt (p := W.1) (n := W.2.1) (m := W.2.1) (x := mul W (W.1 ^ i) (W.1 ^ j)) (bs := imn x W 2) (by omega) b4 (fun t ht => hO 2 t (by omega) ht)
    rw [hO2.1, hO2.2] at m2
    refine e_istore (pc := 112) dX7_firstNotCarried_112 (by decide) ?_
    refine e_iload (pc := 114) dX7_firstNotCarried_114 rfl ?_
    refine n_if_lt (pc := 116) (tgt := 139) dX7_firstNotCarried_116 (by omega) ?_ (by decide)
    refine e_iload (pc := 119) dX7_firstNotCarried_119 rfl ?_
    refine n_sipush (pc := 121) 243 dX7_firstNotCarried_121 (by decide) ?_
    refine n_icmp_ge (pc := 124) (tgt := 139) dX7_firstNotCarried_124 (by decide) (by omega) (by omega) (fun c => absurd c (by omega)) (fun hb_ => ?_)
    refine e_aload_n (pc := 127) dX7_firstNotCarried_127 rfl rfl ?_
    refine e_get (pc := 128) fl_X7_21 dX7_firstNotCarried_128 (by repeat (first | assumption | exact hset_eq _ _ _ | rw [hset_ne _ _ (by omega)])) (by rfl) ?_
    refine e_iload (pc := 131) dX7_firstNotCarried_131 rfl ?_
    refine e_ialdN (pc := 133) _ dX7_firstNotCarried_133 (by repeat (first | assumption | exact hset_eq _ _ _ | rw [hset_ne _ _ (by omega)])) (by rfl) (by omega) (by first | decide | omega) ?_
    rw [hg _ m1]
    refine e_iload (pc := 134) dX7_firstNotCarried_134 rfl ?_
    refine n_icmp_eq (pc := 136) (tgt := 147) dX7_firstNotCarried_136 (by decide) (by omega) (by omega) (fun hne => ?_) (fun hne => ?_)
    · refine n_inc (pc := 147) dX7_firstNotCarried_147 rfl (by decide) ?_
      refine e_goto (pc := 150) (tgt := 67) dX7_firstNotCarried_150 (by decide) ?_
      refine V.mask [true, true, true, true, true, true, true, false, false] ?_
      refine ih (j + 1) (by omega) (by omega) h3 hC3 ht3 (he.tr (p2.fs.tr p4.fs')) (fun b hb1 => ?_)
      by_cases c : b = j
      · subst c; exact fun q => q hne
      · exact hb b (by omega)
    · refine n_iconst (pc := 139) 5 dX7_firstNotCarried_139 (by decide) ?_
      refine e_iload (pc := 140) dX7_firstNotCarried_140 rfl ?_
      refine n_imul (pc := 142) dX7_firstNotCarried_142 ?_
      refine e_iload (pc := 143) dX7_firstNotCarried_143 rfl ?_
      refine n_iadd (pc := 145) dX7_firstNotCarried_145 ?_
      exact n_iret (pc := 146) dX7_firstNotCarried_146 rfl (kf h3 j hj hne hb hC3 (he.tr (p2.fs.tr p4.fs')))
theorem l_nc_i {g : Nat → Int32} (hk : Wok W) (hk2 : Wok W2) (d : CD E S o o2) (hO : ImOk x W) (hO2 : W2.1 = W.1 ∧ W2.2.1 = W.2.1)
    (hg : ∀ z, z < W.1 ^ W.2.1 → g z = nI (lin W.1 W.2.1 (imn x W 2) z)) :
    ∀ (n i : Nat), n = W.2.1 - i → i ≤ W.2.1 → ∀ h1, CS h1 E S o o2 W W2 f f2 x → h1 (E + 87) = some (aI 243 g) → Fs E o o2 hh h1 → (∀ a b, a < i → b < W.2.1 → ¬ CBad x W W2 a b) → VI MX7_firstNotCarried sz (fun z h' => FNC x W W2 z ∧ CS h' E S o o2 W W2 f f2 x ∧ Fs E o o2 hh h') h1 57 [some (.ref (E + 83)), some (.ref o), some (.ref o2), some (.ref S), some (.int (nI W.2.1)), some (.int (nI i)), none, none, none] [] := by
  obtain ⟨b1, b2, b3, b4, b5⟩ := hk.b
  intro n
  induction n with
  | zero =>
    intro i e1 e2 h1 hC ht he hb
    have e' : i = W.2.1 := by omega
    subst e'
    refine e_iload (pc := 57) dX7_firstNotCarried_57 rfl ?_
    refine e_iload (pc := 59) dX7_firstNotCarried_59 rfl ?_
    refine n_icmp_ge (pc := 61) (tgt := 159) dX7_firstNotCarried_61 (by decide) (by omega) (by omega) (fun hb_ => ?_) (fun c => absurd c (by omega))
    refine e_iconst (pc := 159) (v := -1) dX7_firstNotCarried_159 (by decide) ?_
    exact n_iret (pc := 160) dX7_firstNotCarried_160 rfl ⟨Or.inr ⟨rfl, fun a b ha hb2 => hb a b ha hb2⟩, hC, he⟩
  | succ n ih =>
    intro i e1 e2 h1 hC ht he hb
    have hi : i < W.2.1 := by omega
    refine e_iload (pc := 57) dX7_firstNotCarried_57 rfl ?_
    refine e_iload (pc := 59) dX7_firstNotCarried_59 rfl ?_
    refine n_icmp_ge (pc := 61) (tgt := 159) dX7_firstNotCarried_61 (by decide) (by omega) (by omega) (fun c => absurd c (by omega)) (fun hb_ => ?_)
    refine n_iconst (pc := 64) 0 dX7_firstNotCarried_64 (by decide) ?_
    refine e_istore (pc := 65) dX7_firstNotCarried_65 (by decide) ?_
    refine l_nc_j (hh := hh) (f := f) (f2 := f2) hk hk2 hi d hO hO2 hg (fun h3 j hj c1 c2 c3 c4 => ⟨Or.inl ⟨i, j, rfl, hi, hj, c1, fun a b ha hb2 hx => ?_⟩, c3, c4⟩) (fun h3 hC3 ht3 he3 hb3 => ?_) W.2.1 0 rfl (Nat.zero_le _) h1 hC ht he (fun b hb2 => absurd hb2 (Nat.not_lt_zero b))
    · refine n_inc (pc := 153) dX7_firstNotCarried_153 rfl (by decide) ?_
      refine e_goto (pc := 156) (tgt := 57) dX7_firstNotCarried_156 (by decide) ?_
      refine ih (i + 1) (by omega) (by omega) h3 hC3 ht3 he3 (fun a b ha hb2 => ?_)
      by_cases c : a = i
      · subst c; exact hb3 b hb2
      · exact hb a b (by omega) hb2
    · rcases hx with hx | ⟨rfl, hx⟩
      · exact hb a b hx hb2
      · exact c2 b hx
theorem l_nc_b {Pr : Int32 → AH → Prop} (hk : Wok W) (d : CD E S o o2) (hO : ImOk x W)
    (kk : ∀ h1, CS h1 E S o o2 W W2 f f2 x → Fs E o o2 hh h1 → (∃ g, h1 (E + 84) = some (aI 5 g) ∧ ∀ t, t < W.2.1 → g t = nI (imn x W 2 t)) → VI MX7_firstNotCarried sz Pr h1 37 [some (.ref (E + 83)), some (.ref o), some (.ref o2), some (.ref S), some (.int (nI W.2.1)), none, none, none, none] []) :
    ∀ (n i : Nat), n = W.2.1 - i → i ≤ W.2.1 → ∀ h1, CS h1 E S o o2 W W2 f f2 x → Fs E o o2 hh h1 → (∃ g, h1 (E + 84) = some (aI 5 g) ∧ ∀ t, t < i → g t = nI (imn x W 2 t)) → VI MX7_firstNotCarried sz Pr h1 9 [some (.ref (E + 83)), some (.ref o), some (.ref o2), some (.ref S), some (.int (nI W.2.1)), some (.int (nI i)), none, none, none] [] := by
  obtain ⟨b1, b2, b3, b4, b5⟩ := hk.b
  intro n
  induction n with
  | zero =>
    intro i e1 e2 h1 hC he hg
    have e' : i = W.2.1 := by omega
    subst e'
    refine e_iload (pc := 9) dX7_firstNotCarried_9 rfl ?_
    refine e_iload (pc := 11) dX7_firstNotCarried_11 rfl ?_
    refine n_icmp_ge (pc := 13) (tgt := 37) dX7_firstNotCarried_13 (by decide) (by omega) (by omega) (fun hb_ => ?_) (fun c => absurd c (by omega))
    refine V.mask [true, true, true, true, true, false, false, false, false] ?_
    exact kk h1 hC he hg
  | succ n ih =>
    intro i e1 e2 h1 hC he hg
    have hi : i < W.2.1 := by omega
    obtain ⟨hT, hW, hW2, hI⟩ := id hC
    obtain ⟨-, t0, -⟩ := id hT
    obtain ⟨g, g1, g2⟩ := hg
    refine e_iload (pc := 9) dX7_firstNotCarried_9 rfl ?_
    refine e_iload (pc := 11) dX7_firstNotCarried_11 rfl ?_
    refine n_icmp_ge (pc := 13) (tgt := 37) dX7_firstNotCarried_13 (by decide) (by omega) (by omega) (fun c => absurd c (by omega)) (fun hb_ => ?_)
    refine e_aload_n (pc := 16) dX7_firstNotCarried_16 rfl rfl ?_
    refine e_get (pc := 17) fl_X7_9 dX7_firstNotCarried_17 (by repeat (first | assumption | exact hset_eq _ _ _ | rw [hset_ne _ _ (by omega)])) (by rfl) ?_
    refine e_iload (pc := 20) dX7_firstNotCarried_20 rfl ?_
    refine e_aload_n (pc := 22) dX7_firstNotCarried_22 rfl rfl ?_
    refine e_aload_n (pc := 23) dX7_firstNotCarried_23 rfl rfl ?_
    refine n_iconst (pc := 24) 2 dX7_firstNotCarried_24 (by decide) ?_
    refine e_iload (pc := 25) dX7_firstNotCarried_25 rfl ?_
    refine n_SP (pc := 27) (c_X7_imageOf hI hW hk (show 2 < 3 by omega) hi) bX7_imageOf q_st_X7_imageOf q_m_X7_159 dX7_firstNotCarried_27 rfl rfl (by exact Nat.le_of_ble_eq_true rfl) ⟨by decide, by decide⟩ ⟨rfl, rfl, Nat.zero_le _, Nat.zero_le _⟩ ?_
    refine e_iastN (pc := 30) _ dX7_firstNotCarried_30 (by repeat (first | assumption | exact hset_eq _ _ _ | rw [hset_ne _ _ (by omega)])) (by rfl) (by omega) (by first | decide | omega) ?_
    refine n_inc (pc := 31) dX7_firstNotCarried_31 rfl (by decide) ?_
    refine e_goto (pc := 34) (tgt := 9) dX7_firstNotCarried_34 (by decide) ?_
    refine ih (i + 1) (by omega) (by omega) _ (hC.set d (hT.a5 (Or.inl rfl)) (by omega)) (he.set (by omega)) ⟨_, hset_eq _ _ _, fun t ht => ?_⟩
    by_cases c : t = i
    · subst c; rw [pk_us]
    · rw [pk_un c]; exact g2 t (by omega)
theorem c_X7_firstNotCarried (hC : CS h E S o o2 W W2 f f2 x) (hk : Wok W) (hk2 : Wok W2) (d : CD E S o o2) (hO : ImOk x W) (hO2 : W2.1 = W.1 ∧ W2.2.1 = W.2.1) : CI yX7_firstNotCarried MX7_firstNotCarried [.ref (E + 83), .ref o, .ref o2, .ref S] h (fun z h' => FNC x W W2 z ∧ CS h' E S o o2 W W2 f f2 x ∧ Fs E o o2 h h') := by
  obtain ⟨b1, b2, b3, b4, b5⟩ := hk.b
  obtain ⟨hT, hW, hW2, hI⟩ := id hC
  obtain ⟨-, -, ⟨g, hg⟩, -⟩ := id hT
  obtain ⟨w0, -⟩ := id hW
  refine CI.ofV (by decide) rfl rfl (by simp [Value.category]) (by exact Nat.le_of_ble_eq_true rfl) (fun sz => ?_)
  refine e_aload_n (pc := 0) dX7_firstNotCarried_0 rfl rfl ?_
  refine n_VP (pc := 1) (c_X9_size hW) bX9_size q_i_X9_size q_s_X9_size q_m_X7_70 dX7_firstNotCarried_1 rfl rfl (by repeat (first | assumption | exact hset_eq _ _ _ | rw [hset_ne _ _ (by omega)])) rfl rfl (by exact Nat.le_of_ble_eq_true rfl) ⟨by decide, by decide⟩ ⟨rfl, rfl, Nat.zero_le _, Nat.zero_le _⟩ ?_
  refine e_istore (pc := 4) dX7_firstNotCarried_4 (by decide) ?_
  refine n_iconst (pc := 6) 0 dX7_firstNotCarried_6 (by decide) ?_
  refine e_istore (pc := 7) dX7_firstNotCarried_7 (by decide) ?_
  refine l_nc_b (hh := h) (f := f) (f2 := f2) (W2 := W2) hk d hO (fun h1 hC1 he1 hg1 => ?_) W.2.1 0 rfl (Nat.zero_le _) h hC (Fs.rf _ _ _ h) ⟨g, hg, fun t ht => absurd ht (Nat.not_lt_zero t)⟩
  obtain ⟨hT1, hW1, hW21, hI1⟩ := id hC1
  obtain ⟨w0, -⟩ := id hW1
  obtain ⟨-, t0, -, -, -, ⟨g87, h87⟩, -⟩ := id hT1
  obtain ⟨g1, g2, g3⟩ := hg1
  refine e_aload_n (pc := 37) dX7_firstNotCarried_37 rfl rfl ?_
  refine n_VP (pc := 38) (c_X9_prime hW1) bX9_prime q_i_X9_prime q_s_X9_prime q_m_X7_81 dX7_firstNotCarried_38 rfl rfl (by repeat (first | assumption | exact hset_eq _ _ _ | rw [hset_ne _ _ (by omega)])) rfl rfl (by exact Nat.le_of_ble_eq_true rfl) ⟨by decide, by decide⟩ ⟨rfl, rfl, Nat.zero_le _, Nat.zero_le _⟩ ?_
  refine e_iload (pc := 41) dX7_firstNotCarried_41 rfl ?_
  refine e_aload_n (pc := 43) dX7_firstNotCarried_43 rfl rfl ?_
  refine e_get (pc := 44) fl_X7_9 dX7_firstNotCarried_44 (by repeat (first | assumption | exact hset_eq _ _ _ | rw [hset_ne _ _ (by omega)])) (by rfl) ?_
  refine e_aload_n (pc := 47) dX7_firstNotCarried_47 rfl rfl ?_
  refine e_get (pc := 48) fl_X7_21 dX7_firstNotCarried_48 (by repeat (first | assumption | exact hset_eq _ _ _ | rw [hset_ne _ _ (by omega)])) (by rfl) ?_
  refine n_Sv (pc := 51) (c_X8_spread (bs := imn x W 2) (by omega) (by omega) b5 (by omega) g2 g3 (fun i hi => hO 2 i (by omega) hi) h87) bX8_spread q_st_X8_spread q_m_X7_84 dX7_firstNotCarried_51 rfl rfl (by exact Nat.le_of_ble_eq_true rfl) ⟨by decide, by decide⟩ ⟨rfl, rfl, Nat.zero_le _, Nat.zero_le _⟩ (fun h3 hp => ?_)
  obtain ⟨g5, rfl, hg5⟩ := hp
  have hT3 : TSh (hset h1 (E + 87) (aI 243 g5)) E := by
    obtain ⟨a1, a2, ⟨f3, a3⟩, ⟨f4, a4⟩, ⟨f5, a5⟩, ⟨f6, a6⟩, ⟨f7, a7⟩⟩ := hT1
    exact ⟨a1.far (fun a x y => hset_ne _ _ (by omega)), by rw [hset_ne _ _ (by omega)]; exact a2, ⟨f3, by rw [hset_ne _ _ (by omega)]; exact a3⟩, ⟨f4, by rw [hset_ne _ _ (by omega)]; exact a4⟩, ⟨f5, by rw [hset_ne _ _ (by omega)]; exact a5⟩, ⟨g5, hset_eq _ _ _⟩, ⟨f7, by rw [hset_ne _ _ (by omega)]; exact a7⟩⟩
  refine n_iconst (pc := 54) 0 dX7_firstNotCarried_54 (by decide) ?_
  refine e_istore (pc := 55) dX7_firstNotCarried_55 (by decide) ?_
  exact l_nc_i (hh := h) (f := f) (f2 := f2) hk hk2 d hO hO2 hg5 W.2.1 0 rfl (Nat.zero_le _) _ (hC1.set d hT3 (by omega)) (hset_eq _ _ _) (he1.set (by omega)) (fun a b ha => absurd ha (Nat.not_lt_zero a))
end NC
end SI
