/-! ===== Search: maps, image by image ===== -/
abbrev mxe (d : Nat) : MI := (RX5, cX5_extend, 3, none, d, 0, 0, false)
abbrev mxa (d : Nat) : MI := (RX5, cX5_attempt, 5, none, d, 0, 0, false)
theorem bxe (d : Nat) : BY yX5_extend (mxe d) 1 := bX5_extend
theorem bxa (d : Nat) : BY yX5_attempt (mxa d) 2 := bX5_attempt
def AV (h : AH) (a N m : Nat) (v : Nat → Int32) : Prop := ∃ g, h a = some (aI N g) ∧ ∀ t, t < m → g t = v t
abbrev SHd (h : AH) (B p n q c : Nat) (fx : Int32) : Prop := h B = some (ob 5 [.int (nI p), .int (nI n), .int (nI q), .int (nI c), .int fx, .ref (B + 1), .ref (B + 2), .ref (B + 3), .ref (B + 4), .ref (B + 5), .ref (B + 6), .ref (B + 7), .ref (B + 8), .ref (B + 9), .ref (B + 10), .ref (B + 11), .ref (B + 12), .ref (B + 13)])
/-- tables of sums and products, and where the factors are looked up -/
def STab (h : AH) (B : Nat) (W W2 : Wd) (bf af : Nat → Nat) : Prop :=
  (∃ g, h (B + 1) = some (aI 729 g) ∧ ∀ x y, x < W.1 ^ W.2.1 → y < W.1 ^ W.2.1 → g (x * W.1 ^ W.2.1 + y) = nI (ad W.1 x y)) ∧
  (∃ g, h (B + 2) = some (aI 729 g) ∧ ∀ x y, x < W.1 ^ W.2.1 → y < W.1 ^ W.2.1 → g (x * W.1 ^ W.2.1 + y) = nI (mul W2 x y)) ∧
  AV h (B + 3) 27 (W.1 ^ W.2.1) (fun x => nI (bf x)) ∧ AV h (B + 4) 27 (W.1 ^ W.2.1) (fun x => nI (af x)) ∧
  ∀ x, x < W.1 ^ W.2.1 → bf x < W.1 ^ W.2.1 ∧ af x < W.1 ^ W.2.1
def SBas (h : AH) (B : Nat) (W : Wd) (lp rp : Nat → Int32) (cod lev : Nat → Nat → Nat) : Prop :=
  AV h (B + 8) 5 W.2.1 lp ∧ AV h (B + 9) 5 W.2.1 rp ∧
  (∃ g, h (B + 10) = some (aI 25 g) ∧ ∀ i j, i < W.2.1 → j < W.2.1 → g (5 * i + j) = nI (cod i j)) ∧
  ∃ g, h (B + 11) = some (aI 25 g) ∧ ∀ i j, i < W.2.1 → j < W.2.1 → g (5 * i + j) = nI (lev i j)
def SMath (W : Wd) (b cd : Nat → Nat) (lp rp : Nat → Int32) (lev : Nat → Nat → Nat) : Prop :=
  Bas W.1 W.2.1 b cd ∧ (∀ i j, i < W.2.1 → j < W.2.1 → i ≤ lev i j ∧ j ≤ lev i j ∧ lev i j < W.2.1 ∧ cd (mul W (b i) (b j)) < W.1 ^ (lev i j + 1)) ∧
  ∀ l, l < W.2.1 → (lp l = -1 ∧ rp l = -1) ∨ ∃ i j, i < l ∧ j < l ∧ lp l = nI i ∧ rp l = nI j ∧ b l = mul W (b i) (b j)
def Sf (B : Nat) (h h' : AH) : Prop := ∀ a, a ≠ B → a ≠ B + 12 → a ≠ B + 13 → h' a = h a
theorem Sf.rf (B : Nat) (h : AH) : Sf B h h := fun _ _ _ _ => rfl
theorem Sf.tr {B : Nat} {h h1 h2 : AH} (a : Sf B h h1) (b : Sf B h1 h2) : Sf B h h2 := fun q x y z => (b q x y z).trans (a q x y z)
theorem Sf.set {B a : Nat} {x : AE} {h h1 : AH} (e : Sf B h h1) (ha : a = B ∨ a = B + 12 ∨ a = B + 13) : Sf B h (hset h1 a x) := fun q p1 p2 p3 => by
  rw [hset_ne _ _ (by omega)]; exact e q p1 p2 p3
theorem AV.keep {h h2 : AH} {a N m : Nat} {v : Nat → Int32} (q : AV h a N m v) (e : h2 a = h a) : AV h2 a N m v := by
  obtain ⟨g, g1, g2⟩ := q
  exact ⟨g, e.trans g1, g2⟩
theorem STab.sf {h h2 : AH} {B : Nat} {W W2 : Wd} {bf af : Nat → Nat} (q : STab h B W W2 bf af) (e : ∀ a, B < a → a < B + 5 → h2 a = h a) : STab h2 B W W2 bf af := by
  obtain ⟨⟨g1, a1, a2⟩, ⟨g2, a3, a4⟩, a5, a6, a7⟩ := q
  exact ⟨⟨g1, (e _ (by omega) (by omega)).trans a1, a2⟩, ⟨g2, (e _ (by omega) (by omega)).trans a3, a4⟩, a5.keep (e _ (by omega) (by omega)), a6.keep (e _ (by omega) (by omega)), a7⟩
theorem SBas.sf {h h2 : AH} {B : Nat} {W : Wd} {lp rp : Nat → Int32} {cod lev : Nat → Nat → Nat} (q : SBas h B W lp rp cod lev) (e : ∀ a, B + 8 ≤ a → a < B + 12 → h2 a = h a) : SBas h2 B W lp rp cod lev := by
  obtain ⟨a1, a2, ⟨g1, a3, a4⟩, g2, a5, a6⟩ := q
  exact ⟨a1.keep (e _ (by omega) (by omega)), a2.keep (e _ (by omega) (by omega)), ⟨g1, (e _ (by omega) (by omega)).trans a3, a4⟩, g2, (e _ (by omega) (by omega)).trans a5, a6⟩
section SS
variable {h : AH} {B : Nat} {W W2 : Wd} {bf af : Nat → Nat} {c : Nat → Nat} {cnt : Nat} {fx : Int32}
theorem ix_lt {x y q : Nat} (hx : x < q) (hy : y < q) (hq : q ≤ 27) : x * q + y < 729 := by
  have h1 : x * q + y < q * q := by
    have := Nat.mul_le_mul_right q (show x + 1 ≤ q from hx)
    rw [Nat.add_mul] at this
    omega
  have h2 : q * q ≤ 27 * 27 := Nat.mul_le_mul hq hq
  omega
theorem c_X5_timesThere {x y : Nat} (hH : SHd h B W.1 W.2.1 (W.1 ^ W.2.1) cnt fx) (hS : STab h B W W2 bf af) (hq : W.1 ^ W.2.1 ≤ 27) (hx : x < W.1 ^ W.2.1) (hy : y < W.1 ^ W.2.1) : CP yX5_timesThere MX5_timesThere [.ref B, .int (nI x), .int (nI y)] h (nI (mul W2 (bf x) (af y))) := by
  obtain ⟨-, ⟨g2, a3, a4⟩, ⟨g3, a5, a6⟩, ⟨g4, a7, a8⟩, a9⟩ := hS
  have e1 := a6 x hx
  have e2 := a8 y hy
  have r1 := (a9 x hx).1
  have r2 := (a9 y hy).2
  have ix := ix_lt r1 r2 hq
  refine CI.ofV (by decide) rfl rfl (by simp [Value.category]) (by exact Nat.le_of_ble_eq_true rfl) (fun sz => ?_)
  refine e_aload_n (pc := 0) dX5_timesThere_0 rfl rfl ?_
  refine e_get (pc := 1) fl_X5_31 dX5_timesThere_1 (by repeat (first | assumption | exact hset_eq _ _ _ | rw [hset_ne _ _ (by omega)])) (by rfl) ?_
  refine e_aload_n (pc := 4) dX5_timesThere_4 rfl rfl ?_
  refine e_get (pc := 5) fl_X5_34 dX5_timesThere_5 (by repeat (first | assumption | exact hset_eq _ _ _ | rw [hset_ne _ _ (by omega)])) (by rfl) ?_
  refine e_iload_n (pc := 8) dX5_timesThere_8 rfl rfl ?_
  refine e_ialdN (pc := 9) _ dX5_timesThere_9 (by repeat (first | assumption | exact hset_eq _ _ _ | rw [hset_ne _ _ (by omega)])) (by rfl) (by omega) (by first | decide | omega) ?_
  rw [e1]
  refine e_aload_n (pc := 10) dX5_timesThere_10 rfl rfl ?_
  refine e_get (pc := 11) fl_X5_18 dX5_timesThere_11 (by repeat (first | assumption | exact hset_eq _ _ _ | rw [hset_ne _ _ (by omega)])) (by rfl) ?_
  refine n_imul (pc := 14) dX5_timesThere_14 ?_
  refine e_aload_n (pc := 15) dX5_timesThere_15 rfl rfl ?_
  refine e_get (pc := 16) fl_X5_37 dX5_timesThere_16 (by repeat (first | assumption | exact hset_eq _ _ _ | rw [hset_ne _ _ (by omega)])) (by rfl) ?_
  refine e_iload_n (pc := 19) dX5_timesThere_19 rfl rfl ?_
  refine e_ialdN (pc := 20) _ dX5_timesThere_20 (by repeat (first | assumption | exact hset_eq _ _ _ | rw [hset_ne _ _ (by omega)])) (by rfl) (by omega) (by first | decide | omega) ?_
  rw [e2]
  refine n_iadd (pc := 21) dX5_timesThere_21 ?_
  refine e_ialdN (pc := 22) _ dX5_timesThere_22 (by repeat (first | assumption | exact hset_eq _ _ _ | rw [hset_ne _ _ (by omega)])) (by rfl) (by omega) (by first | decide | omega) ?_
  exact n_iret (pc := 23) dX5_timesThere_23 rfl ⟨a4 _ _ r1 r2, rfl⟩
def Agr (W2 : Wd) (p n : Nat) (bf af c : Nat → Nat) (cod lev : Nat → Nat → Nat) (l i j : Nat) : Prop := lev i j = l → mul W2 (bf (c i)) (af (c j)) = lin p n c (cod i j)
section AG
variable {sz l : Nat} {lp rp : Nat → Int32} {cod lev : Nat → Nat → Nat} {Pr : Int32 → AH → Prop}
theorem l_ag_j {i : Nat} (hH : SHd h B W.1 W.2.1 (W.1 ^ W.2.1) cnt fx) (hS : STab h B W W2 bf af) (hB : SBas h B W lp rp cod lev) (hk : Wok W) (hk2 : Wok W2) (hq : W.1 ^ W.2.1 ≤ 27) (hp2 : W2.1 = W.1 ∧ W2.2.1 = W.2.1) (hl : l < W.2.1) (hc : ∀ t, t < l + 1 → c t < W.1 ^ W.2.1) (hc9 : ∀ t, c t < W.1 ^ W.2.1) (hC : AV h (B + 12) 5 (l + 1) (fun t => nI (c t))) (hI : AV h (B + 13) 27 (W.1 ^ (l + 1)) (fun z => nI (lin W.1 W.2.1 c z))) (hlev : ∀ i j, i < W.2.1 → j < W.2.1 → lev i j < W.2.1 ∧ cod i j < W.1 ^ (lev i j + 1)) (hi : i ≤ l)
    (kf : (∃ j, j ≤ l ∧ ¬ Agr W2 W.1 W.2.1 bf af c cod lev l i j) → Pr 0 h)
    (kk : (∀ j, j ≤ l → Agr W2 W.1 W.2.1 bf af c cod lev l i j) → VI MX5_agrees sz Pr h 71 [some (.ref B), some (.int (nI l)), some (.int (nI i)), none, none] []) :
    ∀ (n j : Nat), n = l + 1 - j → j ≤ l + 1 → (∀ t, t < j → Agr W2 W.1 W.2.1 bf af c cod lev l i t) → VI MX5_agrees sz Pr h 9 [some (.ref B), some (.int (nI l)), some (.int (nI i)), some (.int (nI j)), none] [] := by
  obtain ⟨b1, b2, b3, b4, b5⟩ := hk.b
  intro n
  induction n with
  | zero =>
    intro j e1 e2 hj
    have e' : j = l + 1 := by omega
    subst e'
    refine e_iload_n (pc := 9) dX5_agrees_9 rfl rfl ?_
    refine e_iload_n (pc := 10) dX5_agrees_10 rfl rfl ?_
    refine n_icmp_gt (pc := 11) (tgt := 71) dX5_agrees_11 (by decide) (by omega) (by omega) (fun hb_ => ?_) (fun c => absurd c (by omega))
    refine V.mask [true, true, true, false, false] ?_
    exact kk (fun t ht => hj t (by omega))
  | succ n ih =>
    intro j e1 e2 hj
    obtain ⟨-, -, ⟨g1, a1, a2⟩, g2, a3, a4⟩ := id hB
    obtain ⟨gc, c1, c2⟩ := id hC
    obtain ⟨gi, i1, i2⟩ := id hI
    have l1 := a4 i j (by omega) (by omega)
    have l2 := a2 i j (by omega) (by omega)
    obtain ⟨v1, v2⟩ := hlev i j (by omega) (by omega)
    have x1 := c2 i (by omega)
    have x2 := c2 j (by omega)
    have r1 := hc i (by omega)
    have r2 := hc j (by omega)
    refine e_iload_n (pc := 9) dX5_agrees_9 rfl rfl ?_
    refine e_iload_n (pc := 10) dX5_agrees_10 rfl rfl ?_
    refine n_icmp_gt (pc := 11) (tgt := 71) dX5_agrees_11 (by decide) (by omega) (by omega) (fun c => absurd c (by omega)) (fun hb_ => ?_)
    refine n_iconst (pc := 14) 5 dX5_agrees_14 (by decide) ?_
    refine e_iload_n (pc := 15) dX5_agrees_15 rfl rfl ?_
    refine n_imul (pc := 16) dX5_agrees_16 ?_
    refine e_iload_n (pc := 17) dX5_agrees_17 rfl rfl ?_
    refine n_iadd (pc := 18) dX5_agrees_18 ?_
    refine e_istore (pc := 19) dX5_agrees_19 (by decide) ?_
    refine e_aload_n (pc := 21) dX5_agrees_21 rfl rfl ?_
    refine e_get (pc := 22) fl_X5_58 dX5_agrees_22 (by repeat (first | assumption | exact hset_eq _ _ _ | rw [hset_ne _ _ (by omega)])) (by rfl) ?_
    refine e_iload (pc := 25) dX5_agrees_25 rfl ?_
    refine e_ialdN (pc := 27) _ dX5_agrees_27 (by repeat (first | assumption | exact hset_eq _ _ _ | rw [hset_ne _ _ (by omega)])) (by rfl) (by omega) (by first | decide | omega) ?_
    rw [l1]
    refine e_iload_n (pc := 28) dX5_agrees_28 rfl rfl ?_
    have fin : Agr W2 W.1 W.2.1 bf af c cod lev l i j → VI MX5_agrees sz Pr h 65 [some (.ref B), some (.int (nI l)), some (.int (nI i)), some (.int (nI j)), some (.int (nI (5 * i + j)))] [] := fun hA => by
      refine n_inc (pc := 65) dX5_agrees_65 rfl (by decide) ?_
      refine e_goto (pc := 68) (tgt := 9) dX5_agrees_68 (by decide) ?_
      refine V.mask [true, true, true, true, false] ?_
      refine ih (j + 1) (by omega) (by omega) (fun t ht => ?_)
      by_cases e : t = j
      · subst e; exact hA
      · exact hj t (by omega)
    refine n_icmp_ne (pc := 29) (tgt := 65) dX5_agrees_29 (by decide) (by omega) (by omega) (fun c1 => ?_) (fun c1 => ?_)
    · exact fin (fun q => absurd q c1)
    · refine e_aload_n (pc := 32) dX5_agrees_32 rfl rfl ?_
      refine e_aload_n (pc := 33) dX5_agrees_33 rfl rfl ?_
      refine e_get (pc := 34) fl_X5_61 dX5_agrees_34 (by repeat (first | assumption | exact hset_eq _ _ _ | rw [hset_ne _ _ (by omega)])) (by rfl) ?_
      refine e_iload_n (pc := 37) dX5_agrees_37 rfl rfl ?_
      refine e_ialdN (pc := 38) _ dX5_agrees_38 (by repeat (first | assumption | exact hset_eq _ _ _ | rw [hset_ne _ _ (by omega)])) (by rfl) (by omega) (by first | decide | omega) ?_
      rw [x1]
      refine e_aload_n (pc := 39) dX5_agrees_39 rfl rfl ?_
      refine e_get (pc := 40) fl_X5_61 dX5_agrees_40 (by repeat (first | assumption | exact hset_eq _ _ _ | rw [hset_ne _ _ (by omega)])) (by rfl) ?_
      refine e_iload_n (pc := 43) dX5_agrees_43 rfl rfl ?_
      refine e_ialdN (pc := 44) _ dX5_agrees_44 (by repeat (first | assumption | exact hset_eq _ _ _ | rw [hset_ne _ _ (by omega)])) (by rfl) (by omega) (by first | decide | omega) ?_
      rw [x2]
      refine n_VP (pc := 45) (c_X5_timesThere hH hS hq r1 r2) bX5_timesThere q_i_X5_timesThere q_s_X5_timesThere q_m_X5_125 dX5_agrees_45 rfl rfl (by repeat (first | assumption | exact hset_eq _ _ _ | rw [hset_ne _ _ (by omega)])) rfl rfl (by exact Nat.le_of_ble_eq_true rfl) ⟨by decide, by decide⟩ ⟨rfl, rfl, Nat.zero_le _, Nat.zero_le _⟩ ?_
      refine e_aload_n (pc := 48) dX5_agrees_48 rfl rfl ?_
      refine e_get (pc := 49) fl_X5_64 dX5_agrees_49 (by repeat (first | assumption | exact hset_eq _ _ _ | rw [hset_ne _ _ (by omega)])) (by rfl) ?_
      refine e_aload_n (pc := 52) dX5_agrees_52 rfl rfl ?_
      refine e_get (pc := 53) fl_X5_55 dX5_agrees_53 (by repeat (first | assumption | exact hset_eq _ _ _ | rw [hset_ne _ _ (by omega)])) (by rfl) ?_
      refine e_iload (pc := 56) dX5_agrees_56 rfl ?_
      refine e_ialdN (pc := 58) _ dX5_agrees_58 (by repeat (first | assumption | exact hset_eq _ _ _ | rw [hset_ne _ _ (by omega)])) (by rfl) (by omega) (by first | decide | omega) ?_
      rw [l2]
      have w1 : cod i j < W.1 ^ (l + 1) := by rw [← c1]; exact v2
      have w2 : W.1 ^ (l + 1) ≤ W.1 ^ W.2.1 := Nat.pow_le_pow_right (by omega) (by omega)
      have x3 := i2 (cod i j) w1
      refine e_ialdN (pc := 59) _ dX5_agrees_59 (by repeat (first | assumption | exact hset_eq _ _ _ | rw [hset_ne _ _ (by omega)])) (by rfl) (by omega) (by first | decide | omega) ?_
      rw [x3]
      have m1 := mul_lt hk2 (bf (c i)) (af (c j))
      rw [hp2.1, hp2.2] at m1
      have m2 : lin W.1 W.2.1 c (cod i j) < W.1 ^ W.2.1 := lin_lt (by omega) b4 (fun t _ => hc9 t)
      refine n_icmp_eq (pc := 60) (tgt := 65) dX5_agrees_60 (by decide) (by omega) (by omega) (fun hz => ?_) (fun hz => ?_)
      · exact fin (fun _ => hz)
      · refine n_iconst (pc := 63) 0 dX5_agrees_63 (by decide) ?_
        exact n_zret (pc := 64) dX5_agrees_64 rfl rfl (kf ⟨j, by omega, fun q => hz (q c1)⟩)
theorem l_ag_i (hH : SHd h B W.1 W.2.1 (W.1 ^ W.2.1) cnt fx) (hS : STab h B W W2 bf af) (hB : SBas h B W lp rp cod lev) (hk : Wok W) (hk2 : Wok W2) (hq : W.1 ^ W.2.1 ≤ 27) (hp2 : W2.1 = W.1 ∧ W2.2.1 = W.2.1) (hl : l < W.2.1) (hc : ∀ t, t < l + 1 → c t < W.1 ^ W.2.1) (hc9 : ∀ t, c t < W.1 ^ W.2.1) (hC : AV h (B + 12) 5 (l + 1) (fun t => nI (c t))) (hI : AV h (B + 13) 27 (W.1 ^ (l + 1)) (fun z => nI (lin W.1 W.2.1 c z))) (hlev : ∀ i j, i < W.2.1 → j < W.2.1 → lev i j < W.2.1 ∧ cod i j < W.1 ^ (lev i j + 1)) :
    ∀ (n i : Nat), n = l + 1 - i → i ≤ l + 1 → (∀ t j, t < i → j ≤ l → Agr W2 W.1 W.2.1 bf af c cod lev l t j) → VI MX5_agrees sz (fun z h' => isB z (∀ t j, t ≤ l → j ≤ l → Agr W2 W.1 W.2.1 bf af c cod lev l t j) ∧ h' = h) h 2 [some (.ref B), some (.int (nI l)), some (.int (nI i)), none, none] [] := by
  obtain ⟨b1, b2, b3, b4, b5⟩ := hk.b
  intro n
  induction n with
  | zero =>
    intro i e1 e2 hi
    have e' : i = l + 1 := by omega
    subst e'
    refine e_iload_n (pc := 2) dX5_agrees_2 rfl rfl ?_
    refine e_iload_n (pc := 3) dX5_agrees_3 rfl rfl ?_
    refine n_icmp_gt (pc := 4) (tgt := 77) dX5_agrees_4 (by decide) (by omega) (by omega) (fun hb_ => ?_) (fun c => absurd c (by omega))
    refine n_iconst (pc := 77) 1 dX5_agrees_77 (by decide) ?_
    exact n_zret (pc := 78) dX5_agrees_78 rfl rfl ⟨Or.inl ⟨fun t j ht hj => hi t j (by omega) hj, rfl⟩, rfl⟩
  | succ n ih =>
    intro i e1 e2 hi
    refine e_iload_n (pc := 2) dX5_agrees_2 rfl rfl ?_
    refine e_iload_n (pc := 3) dX5_agrees_3 rfl rfl ?_
    refine n_icmp_gt (pc := 4) (tgt := 77) dX5_agrees_4 (by decide) (by omega) (by omega) (fun c => absurd c (by omega)) (fun hb_ => ?_)
    refine n_iconst (pc := 7) 0 dX5_agrees_7 (by decide) ?_
    refine e_istore_n (pc := 8) dX5_agrees_8 rfl (by decide) ?_
    refine l_ag_j hH hS hB hk hk2 hq hp2 hl hc hc9 hC hI hlev (show i ≤ l by omega) (fun ⟨j, hj, hn⟩ => ⟨Or.inr ⟨fun q => hn (q i j (by omega) hj), rfl⟩, rfl⟩) (fun hA => ?_) (l + 1) 0 rfl (Nat.zero_le _) (fun t ht => absurd ht (Nat.not_lt_zero t))
    refine n_inc (pc := 71) dX5_agrees_71 rfl (by decide) ?_
    refine e_goto (pc := 74) (tgt := 2) dX5_agrees_74 (by decide) ?_
    refine ih (i + 1) (by omega) (by omega) (fun t j ht hj => ?_)
    by_cases e : t = i
    · subst e; exact hA j hj
    · exact hi t j (by omega) hj
theorem c_X5_agrees (hH : SHd h B W.1 W.2.1 (W.1 ^ W.2.1) cnt fx) (hS : STab h B W W2 bf af) (hB : SBas h B W lp rp cod lev) (hk : Wok W) (hk2 : Wok W2) (hq : W.1 ^ W.2.1 ≤ 27) (hp2 : W2.1 = W.1 ∧ W2.2.1 = W.2.1) (hl : l < W.2.1) (hc : ∀ t, t < l + 1 → c t < W.1 ^ W.2.1) (hc9 : ∀ t, c t < W.1 ^ W.2.1) (hC : AV h (B + 12) 5 (l + 1) (fun t => nI (c t))) (hI : AV h (B + 13) 27 (W.1 ^ (l + 1)) (fun z => nI (lin W.1 W.2.1 c z))) (hlev : ∀ i j, i < W.2.1 → j < W.2.1 → lev i j < W.2.1 ∧ cod i j < W.1 ^ (lev i j + 1)) :
    CI yX5_agrees MX5_agrees [.ref B, .int (nI l)] h (fun z h' => isB z (∀ t j, t ≤ l → j ≤ l → Agr W2 W.1 W.2.1 bf af c cod lev l t j) ∧ h' = h) := by
  refine CI.ofV (by decide) rfl rfl (by simp [Value.category]) (by exact Nat.le_of_ble_eq_true rfl) (fun sz => ?_)
  refine n_iconst (pc := 0) 0 dX5_agrees_0 (by decide) ?_
  refine e_istore_n (pc := 1) dX5_agrees_1 rfl (by decide) ?_
  exact l_ag_i hH hS hB hk hk2 hq hp2 hl hc hc9 hC hI hlev (l + 1) 0 rfl (Nat.zero_le _) (fun t j ht => absurd ht (Nat.not_lt_zero t))
end AG
end SS
