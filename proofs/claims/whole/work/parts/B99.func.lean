/-! ===== what both sides tell is one value ===== -/
theorem nI_j2 {a b : Nat} (ha : a < 2 ^ 31) (hb : b < 2 ^ 31) (e : nI a = nI b) : a = b := by
  have := congrArg Int32.toInt e
  rw [nI_toInt ha, nI_toInt hb] at this
  omega
theorem nI_m1 {a : Nat} (ha : a < 2 ^ 31) (e : nI a = -1) : False := by
  have := congrArg Int32.toInt e
  rw [nI_toInt ha] at this
  rw [show (-1 : Int32).toInt = -1 by decide] at this
  omega
section FUN
variable {W W2 : Wd} {x : Sx} {z z2 : Int32}
theorem ifF {c : Prop} [Decidable c] {A B A2 B2 C : Prop} (f : c → A → A2 → C) (g : ¬ c → B → B2 → C) (h : if c then A else B) (h2 : if c then A2 else B2) : C := by
  by_cases q : c
  · rw [if_pos q] at h h2; exact f q h h2
  · rw [if_neg q] at h h2; exact g q h h2
theorem eqF {v : Int32} (a : z = v) (b : z2 = v) : z = z2 := a.trans b.symm
theorem eqF2 {v : Int32} {u y y2 : Sx} (a : z = v ∧ y = u) (b : z2 = v ∧ y2 = u) : z = z2 ∧ y = y2 := ⟨a.1.trans b.1.symm, a.2.trans b.2.symm⟩
theorem isB_F {P : Prop} (h : isB z P) (h2 : isB z2 P) : z = z2 := (isB_bl h).trans (isB_bl h2).symm
theorem Fail_F (h : Fail W z) (h2 : Fail W z2) : z = z2 := by
  rcases h with ⟨a, b, rfl, a0, a1, b0, b1, e, m1, m2⟩ | ⟨rfl, n⟩ <;> rcases h2 with ⟨c, d, rfl, c0, c1, d0, d1, e2, m3, m4⟩ | ⟨rfl, n2⟩
  · have ac : a = c := by
      rcases Nat.lt_trichotomy a c with q | q | q
      · exact absurd e (m3 a b a0 q b0 b1)
      · exact q
      · exact absurd e2 (m1 c d c0 q d0 d1)
    subst ac
    have bd : b = d := by
      rcases Nat.lt_trichotomy b d with q | q | q
      · exact absurd e (m4 b b0 q)
      · exact q
      · exact absurd e2 (m2 d d0 q)
    rw [bd]
  · exact absurd e (n2 a b a0 a1 b0 b1)
  · exact absurd e2 (n c d c0 c1 d0 d1)
  · rfl
theorem Unj_F (h : Unj W z) (h2 : Unj W z2) : z = z2 := by
  rcases h with ⟨i, j, k, rfl, i1, j1, k1, e, m⟩ | ⟨rfl, n⟩ <;> rcases h2 with ⟨a, b, c, rfl, a1, b1, c1, e2, m2⟩ | ⟨rfl, n2⟩
  · have ne1 : ¬ (i < a ∨ i = a ∧ (j < b ∨ j = b ∧ k < c)) := fun q => e (m2 i j k i1 j1 k1 q)
    have ne2 : ¬ (a < i ∨ a = i ∧ (b < j ∨ b = j ∧ c < k)) := fun q => e2 (m a b c a1 b1 c1 q)
    have : i = a ∧ j = b ∧ k = c := by omega
    obtain ⟨rfl, rfl, rfl⟩ := this
    rfl
  · exact absurd (n2 i j k i1 j1 k1) e
  · exact absurd (n a b c a1 b1 c1) e2
  · rfl
theorem FNC_F (h : FNC x W W2 z) (h2 : FNC x W W2 z2) : z = z2 := by
  rcases h with ⟨i, j, rfl, i1, j1, e, m⟩ | ⟨rfl, n⟩ <;> rcases h2 with ⟨a, b, rfl, a1, b1, e2, m2⟩ | ⟨rfl, n2⟩
  · have ne1 : ¬ (i < a ∨ i = a ∧ j < b) := fun q => (m2 i j i1 j1 q) e
    have ne2 : ¬ (a < i ∨ a = i ∧ b < j) := fun q => (m a b a1 b1 q) e2
    have : i = a ∧ j = b := by omega
    obtain ⟨rfl, rfl⟩ := this
    rfl
  · exact absurd e (n2 i j i1 j1)
  · exact absurd e2 (n a b a1 b1)
  · rfl
theorem Quo_F {u v : Nat} {l : Bool} (h : Quo W u v l z) (h2 : Quo W u v l z2) : z = z2 := by
  rcases h with ⟨q, rfl, q1, e, m⟩ | ⟨rfl, n⟩ <;> rcases h2 with ⟨r, rfl, r1, e2, m2⟩ | ⟨rfl, n2⟩
  · have : q = r := by
      rcases Nat.lt_trichotomy q r with t | t | t
      · exact absurd e (m2 q t)
      · exact t
      · exact absurd e2 (m r t)
    rw [this]
  · exact absurd e (n2 q q1)
  · exact absurd e2 (n r r1)
  · rfl
theorem Pws_F {u m m2 : Nat} (h : Pws W u m) (h2 : Pws W u m2) : m = m2 := by
  obtain ⟨a, i, i1, e⟩ := h
  obtain ⟨b, j, j1, e2⟩ := h2
  rcases Nat.lt_trichotomy m m2 with t | t | t
  · have := b m i t (by omega) e; omega
  · exact t
  · have := a m2 j t (by omega) e2; omega
theorem Span_F (hk : Wok W) {u v : Nat} (h : Span W u v z) (h2 : Span W u v z2) : z = z2 := by
  obtain ⟨r, rfl, e⟩ := h
  obtain ⟨r2, rfl, e2⟩ := h2
  rw [rank_uniq hk.1 e e2 (fun _ => Iff.rfl)]
theorem Parts_F (h : Parts W W2 z) (h2 : Parts W W2 z2) : z = z2 := by
  rcases h with ⟨s, s3, rfl, ⟨r, r5, ne⟩, m⟩ | ⟨al, q⟩ <;> rcases h2 with ⟨t, t3, rfl, ⟨r2, r52, ne2⟩, m2⟩ | ⟨al2, q2⟩
  · have : s = t := by
      rcases Nat.lt_trichotomy s t with g | g | g
      · exact absurd (m2 s g r r5) ne
      · exact g
      · exact absurd (m t g r2 r52) ne2
    rw [this]
  · exact absurd (al2 s s3 r r5) ne
  · exact absurd (al t t3 r2 r52) ne2
  · rcases q with ⟨rfl, q⟩ | ⟨rfl, q⟩ <;> rcases q2 with ⟨rfl, q2⟩ | ⟨rfl, q2⟩
    · rfl
    · exact absurd q2 q
    · exact absurd q q2
    · rfl
theorem Carry_F (h : Carry x W W2 z) (h2 : Carry x W W2 z2) : z = z2 := by
  rcases h with ⟨a, rfl⟩ | ⟨a, m, m3, rfl, e, mn⟩ | ⟨a, al, q⟩ <;> rcases h2 with ⟨a2, rfl⟩ | ⟨a2, t, t3, rfl, e2, mn2⟩ | ⟨a2, al2, q2⟩
  · rfl
  · exact absurd a2 a
  · exact absurd a2 a
  · exact absurd a a2
  · have : m = t := by
      rcases Nat.lt_trichotomy m t with g | g | g
      · have := mn2 m g; omega
      · exact g
      · have := mn t g; omega
    rw [this]
  · have := al2 m m3; omega
  · exact absurd a a2
  · have := al t t3; omega
  · exact FNC_F q q2
theorem okI_nat {a n : Nat} (h : a < n) (hn : n < 2 ^ 31) : okI (nI a) n = true := by
  rw [okI_nI (by omega) hn]
  exact decide_eq_true h
theorem lastP_b (hk : Wok W) : lastP W < 100000 := by
  have h1 : W.1 ^ W.2.1 ≤ 243 := hk.b.2.2.2.2
  have h2 : W.1 ^ W.2.1 * W.1 ^ W.2.1 ≤ 243 * 243 := Nat.mul_le_mul h1 h1
  show W.1 ^ W.2.1 * W.1 ^ W.2.1 + W.1 ^ W.2.1 < 100000
  omega
theorem Fano_F (hk : Wok W) {a b c d : Int32} (h : Fano W a b c d z) (h2 : Fano W a b c d z2) : z = z2 := by
  have lp := lastP_b hk
  have no : ∀ {a' b' c' d' : Nat}, a = nI a' → b = nI b' → c = nI c' → d = nI d' → a' ≤ lastP W → b' ≤ lastP W → c' ≤ lastP W → d' ≤ lastP W → (okI a (lastP W + 1) && okI b (lastP W + 1) && okI c (lastP W + 1) && okI d (lastP W + 1)) = false → False := by
    intro a' b' c' d' e1 e2 e3 e4 l1 l2 l3 l4 q
    rw [e1, e2, e3, e4, okI_nat (by omega) (by omega), okI_nat (by omega) (by omega), okI_nat (by omega) (by omega), okI_nat (by omega) (by omega)] at q
    cases q
  rcases h with ⟨n, rfl⟩ | ⟨a1, b1, c1, d1, e1, e2, e3, e4, l1, l2, l3, l4, q⟩ <;> rcases h2 with ⟨n2, rfl⟩ | ⟨a2, b2, c2, d2, g1, g2, g3, g4, k1, k2, k3, k4, q2⟩
  · rfl
  · exact (no g1 g2 g3 g4 k1 k2 k3 k4 n).elim
  · exact (no e1 e2 e3 e4 l1 l2 l3 l4 n2).elim
  · have f1 : a1 = a2 := nI_j2 (by omega) (by omega) (e1.symm.trans g1)
    have f2 : b1 = b2 := nI_j2 (by omega) (by omega) (e2.symm.trans g2)
    have f3 : c1 = c2 := nI_j2 (by omega) (by omega) (e3.symm.trans g3)
    have f4 : d1 = d2 := nI_j2 (by omega) (by omega) (e4.symm.trans g4)
    subst f1; subst f2; subst f3; subst f4
    rcases q with ⟨q, rfl⟩ | ⟨q, r⟩ <;> rcases q2 with ⟨q2, rfl⟩ | ⟨q2, r2⟩
    · rfl
    · exact absurd q2 q
    · exact absurd q q2
    · exact isB_F r r2
theorem Kd_b {p n : Nat} (h : Kd p n) : p < 10 ∧ n < 10 := by
  rcases h with ⟨rfl, rfl | rfl | rfl⟩ | ⟨rfl, rfl⟩ <;> omega
theorem LstC_F {a b w : Int32} (h : LstC a b w z) (h2 : LstC a b w z2) : z = z2 := by
  rcases h with ⟨p, n, k, rfl, rfl, d, rfl, k3, rfl⟩ | ⟨rfl, no⟩ <;> rcases h2 with ⟨p2, n2, k2, e1, e2, d2, e3, k32, rfl⟩ | ⟨rfl, no2⟩
  · have := Kd_b d
    have := Kd_b d2
    have f1 : p = p2 := nI_j2 (by omega) (by omega) e1
    have f2 : n = n2 := nI_j2 (by omega) (by omega) e2
    have f3 : k = k2 := nI_j2 (by omega) (by omega) e3
    subst f1; subst f2; subst f3
    rfl
  · exact absurd k3 (no2 _ _ _ rfl rfl d rfl)
  · exact absurd k32 (no _ _ _ e1 e2 d2 e3)
  · rfl
theorem Lc_m {p n a b : Nat} (h : a ≤ b) : Lc p n 0 a ≤ Lc p n 0 b := cn_mono2 h
theorem Lc_lt {p n a b : Nat} (hd : Div (lw p n a)) (h : a < b) : Lc p n 0 a < Lc p n 0 b := by
  have h1 : Lc p n 0 (a + 1) = Lc p n 0 a + 1 := by
    rw [Lc_s, if_pos (bl_iff.mpr ⟨hd, trivial⟩)]
  have := Lc_m (p := p) (n := n) (show a + 1 ≤ b by omega)
  omega
theorem Take_F {p n i w : Int32} {y y2 : Sx} (h : QS_take x p n i w z y) (h2 : QS_take x p n i w z2 y2) : z = z2 ∧ y = y2 := by
  have lst : ∀ {pp nn c : Nat}, p = nI pp → n = nI nn → Kd pp nn → c < Lall pp nn → Div (lw pp nn c) → i = nI (Lc pp nn 0 c) → LstH p n i := fun e1 e2 k c1 d e3 => ⟨_, _, _, e1, e2, k, e3, Lc_lt d c1⟩
  rcases h with ⟨a, rfl, pp, nn, c, e1, e2, k, c1, d, e3, rfl⟩ | ⟨a, rfl, rfl⟩ <;> rcases h2 with ⟨a2, rfl, p2, n2, c2, g1, g2, k2, c12, d2, g3, rfl⟩ | ⟨a2, rfl, rfl⟩
  · have := Kd_b k
    have := Kd_b k2
    have f1 : pp = p2 := nI_j2 (by omega) (by omega) (e1.symm.trans g1)
    have f2 : nn = n2 := nI_j2 (by omega) (by omega) (e2.symm.trans g2)
    subst f1; subst f2
    have b1 := Lc_32 k (Nat.le_of_lt c1)
    have b2 := Lc_32 k (Nat.le_of_lt c12)
    have f3 := nI_j2 (by omega) (by omega) (e3.symm.trans g3)
    have f4 : c = c2 := by
      rcases Nat.lt_trichotomy c c2 with g | g | g
      · have := Lc_lt d g; omega
      · exact g
      · have := Lc_lt d2 g; omega
    subst f4
    exact ⟨rfl, rfl⟩
  · rcases a2 with q | q
    · rw [a] at q; cases q
    · exact absurd (lst e1 e2 k c1 d e3) q
  · rcases a with q | q
    · rw [a2] at q; cases q
    · exact absurd (lst g1 g2 k2 c12 d2 g3) q
  · exact ⟨rfl, rfl⟩
theorem wld_ok (hx : SxOk x) {w : Int32} (h : okI w 6 = true) : Wok (wld x w) := by
  obtain ⟨j, hj, rfl⟩ := okI_of (by decide) h
  unfold wld
  rw [nI_clamp (by omega)]
  exact hx.1 j (by omega)
theorem F_fault {ft fp t : Int32} : Q_fault ft fp t z → Q_fault ft fp t z2 → z = z2 := ifF (fun _ => eqF) (fun _ => ifF (fun _ => eqF) (fun _ => eqF))
theorem F_look {t : Int32} : Q_look x t z → Q_look x t z2 → z = z2 := ifF (fun _ => eqF) (fun _ => ifF (fun _ => eqF) (fun _ => ifF (fun _ => eqF) (fun _ => eqF)))
theorem F_cube {w i j k : Int32} : Q_cube x w i j k z → Q_cube x w i j k z2 → z = z2 := ifF (fun _ => eqF) (fun _ => eqF)
theorem F_prod {w u v : Int32} : Q_prod x w u v z → Q_prod x w u v z2 → z = z2 := ifF (fun _ => eqF) (fun _ => eqF)
theorem F_quot {w u v : Int32} {l : Bool} : Q_quot x w u v l z → Q_quot x w u v l z2 → z = z2 := ifF (fun _ => Quo_F) (fun _ => eqF)
theorem F_ranks {w u v : Int32} : Q_ranks x w u v z → Q_ranks x w u v z2 → z = z2 := ifF (fun _ => eqF) (fun _ => eqF)
theorem F_pow {w u : Int32} : Q_pow x w u z → Q_pow x w u z2 → z = z2 := ifF (fun _ => by
  rintro ⟨m, rfl, -, a⟩ ⟨m2, rfl, -, b⟩
  rw [Pws_F a b]) (fun _ => eqF)
theorem F_span (hx : SxOk x) {w u v : Int32} : Q_span x w u v z → Q_span x w u v z2 → z = z2 := ifF (fun c => Span_F (wld_ok hx (by simp only [Bool.and_eq_true] at c; exact c.1))) (fun _ => eqF)
theorem F_fano (hx : SxOk x) {w a b c d : Int32} : Q_fano x w a b c d z → Q_fano x w a b c d z2 → z = z2 := ifF (fun c => Fano_F (wld_ok hx (by simp only [Bool.and_eq_true] at c; exact c.1))) (fun _ => eqF)
theorem F_parted {u v : Int32} : Q_parted x u v z → Q_parted x u v z2 → z = z2 := ifF (fun _ => Parts_F) (fun _ => eqF)
theorem F_carry {u v : Int32} : Q_carry x u v z → Q_carry x u v z2 → z = z2 := ifF (fun _ => Carry_F) (fun _ => eqF)
theorem F_same {u v : Int32} : Q_same x u v z → Q_same x u v z2 → z = z2 := ifF (fun _ => eqF) (fun _ => eqF)
theorem F_iso {u v : Int32} : Q_iso x u v z → Q_iso x u v z2 → z = z2 := ifF (fun _ => eqF) (fun _ => eqF)
theorem F_plane {w u v t : Int32} : Q_plane x w u v t z → Q_plane x w u v t z2 → z = z2 := ifF (fun _ => ifF (fun _ => eqF) (fun _ => ifF (fun _ => eqF) (fun _ => ifF (fun _ => eqF) (fun _ => eqF)))) (fun _ => eqF)
theorem F_of {w t : Int32} : Q_of x w t z → Q_of x w t z2 → z = z2 := ifF (fun _ => ifF (fun _ => eqF) (fun _ => ifF (fun _ => eqF) (fun _ => ifF (fun _ => eqF) (fun _ => ifF (fun _ => eqF) (fun _ => ifF (fun _ => Fail_F) (fun _ => ifF (fun _ => UnitOf_uni) (fun _ => ifF (fun _ => eqF) (fun _ => ifF (fun _ => eqF) (fun _ => ifF (fun _ => Unj_F) (fun _ => ifF (fun _ => eqF) (fun _ => ifF (fun _ => eqF) (fun _ => ifF (fun _ => eqF) (fun _ => ifF (fun _ => eqF) (fun _ => ifF (fun _ => eqF) (fun _ => ifF (fun _ => by
  rintro (⟨a, rfl⟩ | ⟨a, b⟩) (⟨a2, rfl⟩ | ⟨a2, b2⟩)
  · rfl
  · exact absurd a a2
  · exact absurd a2 a
  · exact isB_F b b2) (fun _ => ifF (fun _ => eqF) (fun _ => ifF (fun _ => eqF) (fun _ => ifF (fun _ => eqF) (fun _ => eqF))))))))))))))))))) (fun _ => eqF)
variable {y y2 : Sx}
theorem F_turn {a b w : Int32} : QS_turn x a b w z y → QS_turn x a b w z2 y2 → z = z2 ∧ y = y2 := ifF (fun _ => eqF2) (fun _ => eqF2)
theorem F_uni {a b e : Int32} : QS_uni x a b e z y → QS_uni x a b e z2 y2 → z = z2 ∧ y = y2 := ifF (fun _ => eqF2) (fun _ => eqF2)
theorem F_map {a b e : Int32} : QS_map x a b e z y → QS_map x a b e z2 y2 → z = z2 ∧ y = y2 := ifF (fun _ => eqF2) (fun _ => eqF2)
theorem F_digit {w i j k v : Int32} : QS_digit x w i j k v z y → QS_digit x w i j k v z2 y2 → z = z2 ∧ y = y2 := ifF (fun _ => eqF2) (fun _ => eqF2)
theorem F_undo {b : Bool} : QS_undo x b z y → QS_undo x b z2 y2 → z = z2 ∧ y = y2 := ifF (fun _ => ifF (fun _ => eqF2) (fun _ => eqF2)) (fun _ => ifF (fun _ => eqF2) (fun _ => eqF2))
theorem eqF4 {v ta fa ft fp ft2 fp2 : Int32} {u : Sx} (a : z = v ∧ y = u ∧ ft = ta ∧ fp = fa) (b : z2 = v ∧ y2 = u ∧ ft2 = ta ∧ fp2 = fa) : z = z2 ∧ y = y2 ∧ ft = ft2 ∧ fp = fp2 := ⟨a.1.trans b.1.symm, a.2.1.trans b.2.1.symm, a.2.2.1.trans b.2.2.1.symm, a.2.2.2.trans b.2.2.2.symm⟩
theorem F_text {f : Nat → Nat} {len : Nat} {w ft fp ft2 fp2 : Int32} : QS_text x f len w z y ft fp → QS_text x f len w z2 y2 ft2 fp2 → z = z2 ∧ y = y2 ∧ ft = ft2 ∧ fp = fp2 := ifF (fun _ a b => by
  cases e : txt f len with
  | inl q => rw [e] at a b; exact eqF4 a b
  | inr V => rw [e] at a b; exact eqF4 a b) (fun _ => eqF4)
end FUN
