/-! ===== the law's table of products ===== -/
theorem mul_base {W : Wd} (hk : Wok W) {i j : Nat} (hi : i < W.2.1) (hj : j < W.2.1) : mul W (W.1 ^ i) (W.1 ^ j) = num W.1 W.2.1 (fun k => W.2.2 (25 * i + 5 * j + k)) := by
  have b := hk.b
  refine num_congr (fun k hkk => ?_)
  rw [mc_pow_l hk _ k hi, sg_congr (g := fun s => if s = j then W.2.2 (25 * i + 5 * j + k) else 0) (fun s _ => by
    rw [dg_pow (by omega)]
    by_cases e : s = j
    · subst e; simp
    · simp [e]), sg_ind hj]
  exact Nat.mod_eq_of_lt (hk.c _)
theorem mul_up_r {W : Wd} (hk : Wok W) {x y i : Nat} (hi : i < W.2.1) (h1 : W.1 ^ i ≤ y) (h2 : y < W.1 ^ (i + 1)) : mul W x y = ad W.1 (mul W x (y - W.1 ^ i)) (mul W x (W.1 ^ i)) := by
  have b := hk.b
  have hp : 0 < W.1 ^ i := Nat.pow_pos (by omega)
  have h3 : (y - W.1 ^ i) / W.1 ^ i + 1 < W.1 := by
    have : y / W.1 ^ i < W.1 := by rw [Nat.div_lt_iff_lt_mul hp, Nat.mul_comm, ← Nat.pow_succ]; exact h2
    have e : y / W.1 ^ i = (y - W.1 ^ i) / W.1 ^ i + 1 := by rw [← Nat.add_div_right _ hp, Nat.sub_add_cancel h1]
    omega
  have := lin_up (bs := fun t => mul W x (W.1 ^ t)) (n := W.2.1) (show 0 < W.1 by omega) hi h3
  rw [Nat.sub_add_cancel h1] at this
  rw [mul_lin_r hk x y, this, ← mul_lin_r hk x]
theorem mul_up_l {W : Wd} (hk : Wok W) {x y i : Nat} (hi : i < W.2.1) (h1 : W.1 ^ i ≤ y) (h2 : y < W.1 ^ (i + 1)) : mul W y x = ad W.1 (mul W (y - W.1 ^ i) x) (mul W (W.1 ^ i) x) := by
  have b := hk.b
  have hp : 0 < W.1 ^ i := Nat.pow_pos (by omega)
  have h3 : (y - W.1 ^ i) / W.1 ^ i + 1 < W.1 := by
    have : y / W.1 ^ i < W.1 := by rw [Nat.div_lt_iff_lt_mul hp, Nat.mul_comm, ← Nat.pow_succ]; exact h2
    have e : y / W.1 ^ i = (y - W.1 ^ i) / W.1 ^ i + 1 := by rw [← Nat.add_div_right _ hp, Nat.sub_add_cancel h1]
    omega
  have := lin_up (bs := fun t => mul W (W.1 ^ t) x) (n := W.2.1) (show 0 < W.1 by omega) hi h3
  rw [Nat.sub_add_cancel h1] at this
  rw [mul_lin_l hk x y, this, ← mul_lin_l hk x]
theorem mul_0r {W : Wd} (hk : Wok W) (x : Nat) : mul W x 0 = 0 := by rw [mul_lin_r hk]; exact lin_0 _ _ _
theorem mul_0l {W : Wd} (hk : Wok W) (x : Nat) : mul W 0 x = 0 := by rw [mul_lin_l hk]; exact lin_0 _ _ _
/-- q rows of q ints at a, that hold T -/
def Tb (h : AH) (a q : Nat) (T : Nat → Nat → Nat) : Prop := h a = some (aG q (fun i => if i < q then some (a + 1 + i) else none)) ∧ ∀ x, x < q → ∃ g, h (a + 1 + x) = some (aI q g) ∧ ∀ y, y < q → g y = nI (T x y)
theorem Tb.kept {h h2 : AH} {a q : Nat} {T : Nat → Nat → Nat} (hT : Tb h a q T) (e : ∀ x, a ≤ x → x ≤ a + q → h2 x = h x) : Tb h2 a q T := by
  obtain ⟨t1, t2⟩ := hT
  refine ⟨(e _ (by omega) (by omega)).trans t1, fun x hx => ?_⟩
  obtain ⟨g, g1, g2⟩ := t2 x hx
  exact ⟨g, (e _ (by omega) (by omega)).trans g1, g2⟩
theorem Tb.congr {h : AH} {a q : Nat} {T T2 : Nat → Nat → Nat} (hT : Tb h a q T) (e : ∀ x y, x < q → y < q → T x y = T2 x y) : Tb h a q T2 := ⟨hT.1, fun x hx => by
  obtain ⟨g, g1, g2⟩ := hT.2 x hx
  exact ⟨g, g1, fun y hy => by rw [g2 y hy, e x y hx hy]⟩⟩
theorem Tb.set {h : AH} {a q x y v : Nat} {T : Nat → Nat → Nat} {g : Nat → Int32} (hT : Tb h a q T) (hx : x < q) (hg : h (a + 1 + x) = some (aI q g)) : Tb (hset h (a + 1 + x) (aI q (upd g y (nI v)))) a q (fun x' y' => if x' = x ∧ y' = y then v else T x' y') := by
  obtain ⟨t1, t2⟩ := hT
  refine ⟨by rw [hset_ne _ _ (by omega)]; exact t1, fun x' hx' => ?_⟩
  obtain ⟨g', g1, g2⟩ := t2 x' hx'
  by_cases e : x' = x
  · subst e
    have eg : g' = g := by
      have := g1.symm.trans hg
      simpa using this
    subst eg
    refine ⟨_, hset_eq _ _ _, fun y' hy' => ?_⟩
    unfold upd
    by_cases e2 : y' = y
    · (try dsimp only); rw [if_pos e2, if_pos ⟨rfl, e2⟩]
    · (try dsimp only); rw [if_neg e2, if_neg (fun z => e2 z.2)]
      exact g2 y' hy'
  · exact ⟨g', by rw [hset_ne _ _ (by omega)]; exact g1, fun y' hy' => by dsimp only; rw [if_neg (fun z => e z.1)]; exact g2 y' hy'⟩
/-- while the table at a is laid for the world at w; base elements at b -/
def LyI (h h2 : AH) (w a b : Nat) (W : Wd) (T : Nat → Nat → Nat) : Prop := LW h2 w W (.ref a) ∧ Tb h2 a (W.1 ^ W.2.1) T ∧ (∃ gb, h2 b = some (aI W.2.1 gb) ∧ ∀ i, i < W.2.1 → gb i = nI (W.1 ^ i)) ∧ ∀ x, x < a → x ≠ w → h2 x = h x
theorem LyI.set {h h2 : AH} {w a b x y v : Nat} {W : Wd} {T : Nat → Nat → Nat} {g : Nat → Int32} (hI : LyI h h2 w a b W T) (hw : w + 31 < a) (hb : a + W.1 ^ W.2.1 < b) (hx : x < W.1 ^ W.2.1) (hg : h2 (a + 1 + x) = some (aI (W.1 ^ W.2.1) g)) : LyI h (hset h2 (a + 1 + x) (aI (W.1 ^ W.2.1) (upd g y (nI v)))) w a b W (fun x' y' => if x' = x ∧ y' = y then v else T x' y') := by
  obtain ⟨l1, l2, ⟨gb, l3, l4⟩, l5⟩ := hI
  exact ⟨l1.kept (fun q q1 q2 => hset_ne _ _ (by omega)), l2.set hx hg, ⟨gb, by rw [hset_ne _ _ (by omega)]; exact l3, l4⟩, fun q q1 q2 => by rw [hset_ne _ _ (by omega)]; exact l5 q q1 q2⟩
/-- the highest base element that isn't above y -/
theorem hi_ex {p n y : Nat} (hp : 2 ≤ p) (h1 : 1 ≤ y) (h2 : y < p ^ n) : ∃ k, k < n ∧ p ^ k ≤ y ∧ y < p ^ (k + 1) := by
  induction n with
  | zero => rw [Nat.pow_zero] at h2; omega
  | succ n ih =>
    by_cases c : p ^ n ≤ y
    · exact ⟨n, by omega, c, h2⟩
    · obtain ⟨k, k1, k2, k3⟩ := ih (by omega)
      exact ⟨k, by omega, k2, k3⟩
theorem pow_mono {p i j : Nat} (hp : 2 ≤ p) (h : i ≤ j) : p ^ i ≤ p ^ j := Nat.pow_le_pow_right (by omega) h
section LC
variable {ro : RT} {h : AH} {w zq : Nat} {W : Wd} {tb : Value} {Post : Option Value → AH → Nat → Prop} {zz : Nat}
theorem pw_b {i : Nat} (hk : Wok W) (hi : i ≤ 5) : 1 ≤ W.1 ^ i ∧ W.1 ^ i ≤ 3125 := pp (by have := hk.b; omega) (by have := hk.b; omega) i hi
theorem pw_q {i : Nat} (hk : Wok W) (hi : i < W.2.1) : W.1 ^ i < W.1 ^ W.2.1 := Nat.pow_lt_pow_right (by have := hk.b; omega) hi
-- the row of base elements
theorem l_ly_b {b : Nat} (hk : Wok W) {h2 : AH} (hw : h2 w = some (ob 10 [.int (nI W.1), .int (nI W.2.1), .int (nI (W.1 ^ W.2.1)), .ref (w + 1), .ref zq])) (hwb : w ≠ b) (kk : ∀ g, (∀ t, t < W.2.1 → g t = nI (W.1 ^ t)) → VS ro MX11_lays Post (zz, 30, 800) (hset h2 b (aI W.2.1 g)) 56 [some (.ref w), some (.ref b), none, none, none, none] []) :
    ∀ (m i : Nat), m = W.2.1 - i → 1 ≤ i → i ≤ W.2.1 → ∀ g, (∀ t, t < i → g t = nI (W.1 ^ t)) → VS ro MX11_lays Post (zz, 30, 800) (hset h2 b (aI W.2.1 g)) 29 [some (.ref w), some (.ref b), some (.int (nI i)), none, none, none] [] := by
  have bb := hk.b
  intro m
  induction m with
  | zero =>
    intro i e1 e2 e3 g hg
    have : i = W.2.1 := by omega
    subst this
    refine ze_iload_n (pc := 29) dX11_lays_29 rfl rfl ?_
    refine ze_aload_n (pc := 30) dX11_lays_30 rfl rfl ?_
    refine ze_get (pc := 31) fl_X11_13 dX11_lays_31 (by repeat (first | assumption | exact hset_eq _ _ _ | rw [hset_ne _ _ (by omega)])) (by rfl) ?_
    refine zn_icmp_ge (pc := 34) (tgt := 56) dX11_lays_34 (by decide) (by omega) (by omega) (fun c => ?_) (fun c => absurd c (by omega))
    refine VS.mask [true, true, false, false, false, false] ?_
    exact kk g hg
  | succ m ih =>
    intro i e1 e2 e3 g hg
    refine ze_iload_n (pc := 29) dX11_lays_29 rfl rfl ?_
    refine ze_aload_n (pc := 30) dX11_lays_30 rfl rfl ?_
    refine ze_get (pc := 31) fl_X11_13 dX11_lays_31 (by repeat (first | assumption | exact hset_eq _ _ _ | rw [hset_ne _ _ (by omega)])) (by rfl) ?_
    refine zn_icmp_ge (pc := 34) (tgt := 56) dX11_lays_34 (by decide) (by omega) (by omega) (fun c => absurd c (by omega)) (fun c => ?_)
    refine ze_aload_n (pc := 37) dX11_lays_37 rfl rfl ?_
    refine ze_iload_n (pc := 38) dX11_lays_38 rfl rfl ?_
    refine ze_aload_n (pc := 39) dX11_lays_39 rfl rfl ?_
    refine ze_iload_n (pc := 40) dX11_lays_40 rfl rfl ?_
    refine zn_iconst (pc := 41) 1 dX11_lays_41 (by decide) ?_
    refine zn_isub (pc := 42) dX11_lays_42 (by omega) ?_
    refine ze_ialdN (pc := 43) (i - 1) dX11_lays_43 (by repeat (first | assumption | exact hset_eq _ _ _ | rw [hset_ne _ _ (by omega)])) (by rfl) (by omega) (by first | decide | omega) ?_
    refine ze_top (hg (i - 1) (by omega)) ?_
    refine ze_aload_n (pc := 44) dX11_lays_44 rfl rfl ?_
    refine ze_get (pc := 45) fl_X11_7 dX11_lays_45 (by repeat (first | assumption | exact hset_eq _ _ _ | rw [hset_ne _ _ (by omega)])) (by rfl) ?_
    refine zn_imul (pc := 48) dX11_lays_48 ?_
    rw [← Nat.pow_succ, show (i - 1).succ = i by omega]
    refine ze_iastN (pc := 49) (i) dX11_lays_49 (by repeat (first | assumption | exact hset_eq _ _ _ | rw [hset_ne _ _ (by omega)])) (by rfl) (by omega) (by first | decide | omega) ?_
    rw [hset_hset]
    refine zn_inc (pc := 50) dX11_lays_50 rfl (by decide) ?_
    refine ze_goto (pc := 53) (tgt := 29) dX11_lays_53 (by decide) ?_
    refine ih (i + 1) (by omega) (by omega) (by omega) _ (fun t ht => ?_)
    unfold upd
    by_cases e : t = i
    · (try dsimp only); rw [if_pos e, e]
    · (try dsimp only); rw [if_neg e]; exact hg t (by omega)
-- products of base elements
theorem l_ly_v {i j b a : Nat} {T : Nat → Nat → Nat} {h2 : AH} (hk : Wok W) (hI : LyI h h2 w a b W T) (hi : i < W.2.1) (hj : j < W.2.1) (kk : VS ro MX11_lays Post (zz, 30, 800) h2 118 [some (.ref w), some (.ref b), some (.int (nI i)), some (.int (nI j)), some (.int (nI (mul W (W.1 ^ i) (W.1 ^ j)))), none] []) :
    ∀ (m k : Nat), m = W.2.1 - k → k ≤ W.2.1 → VS ro MX11_lays Post (zz, 30, 800) h2 82 [some (.ref w), some (.ref b), some (.int (nI i)), some (.int (nI j)), some (.int (nI (num W.1 k (fun k => W.2.2 (25 * i + 5 * j + k))))), some (.int (nI k))] [] := by
  have bb := hk.b
  obtain ⟨⟨w1, c1, c2, c3⟩, t1, ⟨gb, g1, g2⟩, -⟩ := id hI
  obtain ⟨f, f1, f2⟩ := c3 i (by omega) j (by omega)
  have cr := c2 i (by omega)
  intro m
  induction m with
  | zero =>
    intro k e1 e2
    have : k = W.2.1 := by omega
    subst this
    refine ze_iload (pc := 82) dX11_lays_82 rfl ?_
    refine ze_aload_n (pc := 84) dX11_lays_84 rfl rfl ?_
    refine ze_get (pc := 85) fl_X11_13 dX11_lays_85 (by repeat (first | assumption | exact hset_eq _ _ _ | rw [hset_ne _ _ (by omega)])) (by rfl) ?_
    refine zn_icmp_ge (pc := 88) (tgt := 118) dX11_lays_88 (by decide) (by omega) (by omega) (fun c => ?_) (fun c => absurd c (by omega))
    rw [← mul_base hk hi hj]
    refine VS.mask [true, true, true, true, true, false] ?_
    exact kk
  | succ m ih =>
    intro k e1 e2
    refine ze_iload (pc := 82) dX11_lays_82 rfl ?_
    refine ze_aload_n (pc := 84) dX11_lays_84 rfl rfl ?_
    refine ze_get (pc := 85) fl_X11_13 dX11_lays_85 (by repeat (first | assumption | exact hset_eq _ _ _ | rw [hset_ne _ _ (by omega)])) (by rfl) ?_
    refine zn_icmp_ge (pc := 88) (tgt := 118) dX11_lays_88 (by decide) (by omega) (by omega) (fun c => absurd c (by omega)) (fun c => ?_)
    refine ze_iload (pc := 91) dX11_lays_91 rfl ?_
    refine ze_aload_n (pc := 93) dX11_lays_93 rfl rfl ?_
    refine ze_get (pc := 94) fl_X11_21 dX11_lays_94 (by repeat (first | assumption | exact hset_eq _ _ _ | rw [hset_ne _ _ (by omega)])) (by rfl) ?_
    refine ze_iload_n (pc := 97) dX11_lays_97 rfl rfl ?_
    refine ze_aldC (pc := 98) _ dX11_lays_98 (by repeat (first | assumption | exact hset_eq _ _ _ | rw [hset_ne _ _ (by omega)])) (by rfl) (by omega) (by first | decide | omega) (by exact if_pos (by omega)) ?_
    refine ze_iload_n (pc := 99) dX11_lays_99 rfl rfl ?_
    refine ze_aldGS (pc := 100) _ dX11_lays_100 (by repeat (first | assumption | exact hset_eq _ _ _ | rw [hset_ne _ _ (by omega)])) (by rfl) (by omega) (by first | decide | omega) (by exact if_pos (by omega)) ?_
    refine ze_iload (pc := 101) dX11_lays_101 rfl ?_
    refine ze_ialdN (pc := 103) (k) dX11_lays_103 (by repeat (first | assumption | exact hset_eq _ _ _ | rw [hset_ne _ _ (by omega)])) (by rfl) (by omega) (by first | decide | omega) ?_
    refine ze_top (f2 k (by omega)) ?_
    refine ze_aload_n (pc := 104) dX11_lays_104 rfl rfl ?_
    refine ze_iload (pc := 105) dX11_lays_105 rfl ?_
    refine ze_ialdN (pc := 107) (k) dX11_lays_107 (by repeat (first | assumption | exact hset_eq _ _ _ | rw [hset_ne _ _ (by omega)])) (by rfl) (by omega) (by first | decide | omega) ?_
    refine ze_top (g2 k (by omega)) ?_
    refine zn_imul (pc := 108) dX11_lays_108 ?_
    refine zn_iadd (pc := 109) dX11_lays_109 ?_
    rw [← num_snoc W.1 k (fun k => W.2.2 (25 * i + 5 * j + k))]
    refine ze_istore (pc := 110) dX11_lays_110 (by decide) ?_
    refine zn_inc (pc := 112) dX11_lays_112 rfl (by decide) ?_
    refine ze_goto (pc := 115) (tgt := 82) dX11_lays_115 (by decide) ?_
    exact ih (k + 1) (by omega) (by omega)
/-- what is known of the table: products of base elements, in order -/
def Kn1 (W : Wd) (i j : Nat) (T : Nat → Nat → Nat) : Prop := (∀ x, x < W.1 ^ W.2.1 → T x 0 = 0 ∧ T 0 x = 0) ∧ ∀ a b, a < W.2.1 → b < W.2.1 → (a < i ∨ a = i ∧ b < j) → T (W.1 ^ a) (W.1 ^ b) = mul W (W.1 ^ a) (W.1 ^ b)
theorem pow_inj' {p i j : Nat} (hp : 2 ≤ p) (h : p ^ i = p ^ j) : i = j := by
  rcases Nat.lt_trichotomy i j with c | c | c
  · exact absurd h (Nat.ne_of_lt (Nat.pow_lt_pow_right hp c))
  · exact c
  · exact absurd h.symm (Nat.ne_of_lt (Nat.pow_lt_pow_right hp c))
theorem l_ly_j {i b a : Nat} (hk : Wok W) (hw : w + 31 < a) (hb : a + W.1 ^ W.2.1 < b) (hi : i < W.2.1) (kk : ∀ h2 T, LyI h h2 w a b W T → Kn1 W (i + 1) 0 T → VS ro MX11_lays Post (zz, 30, 800) h2 138 [some (.ref w), some (.ref b), some (.int (nI i)), none, none, none] []) :
    ∀ (m j : Nat), m = W.2.1 - j → j ≤ W.2.1 → ∀ h2 T, LyI h h2 w a b W T → Kn1 W i j T → VS ro MX11_lays Post (zz, 30, 800) h2 68 [some (.ref w), some (.ref b), some (.int (nI i)), some (.int (nI j)), none, none] [] := by
  have bb := hk.b
  intro m
  induction m with
  | zero =>
    intro j e1 e2 h2 T hI hT
    have : j = W.2.1 := by omega
    subst this
    obtain ⟨⟨w1, -⟩, -⟩ := id hI
    refine ze_iload_n (pc := 68) dX11_lays_68 rfl rfl ?_
    refine ze_aload_n (pc := 69) dX11_lays_69 rfl rfl ?_
    refine ze_get (pc := 70) fl_X11_13 dX11_lays_70 (by repeat (first | assumption | exact hset_eq _ _ _ | rw [hset_ne _ _ (by omega)])) (by rfl) ?_
    refine zn_icmp_ge (pc := 73) (tgt := 138) dX11_lays_73 (by decide) (by omega) (by omega) (fun c => ?_) (fun c => absurd c (by omega))
    refine VS.mask [true, true, true, false, false, false] ?_
    exact kk h2 T hI ⟨hT.1, fun x y hx hy c => hT.2 x y hx hy (by omega)⟩
  | succ m ih =>
    intro j e1 e2 h2 T hI hT
    obtain ⟨⟨w1, -⟩, ⟨t1, t2⟩, ⟨gb, g1, g2⟩, -⟩ := id hI
    refine ze_iload_n (pc := 68) dX11_lays_68 rfl rfl ?_
    refine ze_aload_n (pc := 69) dX11_lays_69 rfl rfl ?_
    refine ze_get (pc := 70) fl_X11_13 dX11_lays_70 (by repeat (first | assumption | exact hset_eq _ _ _ | rw [hset_ne _ _ (by omega)])) (by rfl) ?_
    refine zn_icmp_ge (pc := 73) (tgt := 138) dX11_lays_73 (by decide) (by omega) (by omega) (fun c => absurd c (by omega)) (fun c => ?_)
    refine zn_iconst (pc := 76) 0 dX11_lays_76 (by decide) ?_
    refine ze_istore (pc := 77) dX11_lays_77 (by decide) ?_
    refine zn_iconst (pc := 79) 0 dX11_lays_79 (by decide) ?_
    refine ze_istore (pc := 80) dX11_lays_80 (by decide) ?_
    refine l_ly_v hk hI hi (by omega) ?_ W.2.1 0 (by omega) (by omega)
    have hpi := pw_q hk hi
    obtain ⟨g, q1, q2⟩ := t2 _ hpi
    refine ze_aload_n (pc := 118) dX11_lays_118 rfl rfl ?_
    refine ze_get (pc := 119) fl_X11_38 dX11_lays_119 (by repeat (first | assumption | exact hset_eq _ _ _ | rw [hset_ne _ _ (by omega)])) (by rfl) ?_
    refine ze_aload_n (pc := 122) dX11_lays_122 rfl rfl ?_
    refine ze_iload_n (pc := 123) dX11_lays_123 rfl rfl ?_
    refine ze_ialdN (pc := 124) (i) dX11_lays_124 (by repeat (first | assumption | exact hset_eq _ _ _ | rw [hset_ne _ _ (by omega)])) (by rfl) (by omega) (by first | decide | omega) ?_
    refine ze_top (g2 i (by omega)) ?_
    refine ze_aldGS (pc := 125) (W.1 ^ i) dX11_lays_125 (by repeat (first | assumption | exact hset_eq _ _ _ | rw [hset_ne _ _ (by omega)])) (by rfl) (by omega) (by first | decide | omega) (if_pos hpi) ?_
    refine ze_aload_n (pc := 126) dX11_lays_126 rfl rfl ?_
    refine ze_iload_n (pc := 127) dX11_lays_127 rfl rfl ?_
    refine ze_ialdN (pc := 128) (j) dX11_lays_128 (by repeat (first | assumption | exact hset_eq _ _ _ | rw [hset_ne _ _ (by omega)])) (by rfl) (by omega) (by first | decide | omega) ?_
    refine ze_top (g2 j (by omega)) ?_
    have hpj := pw_q hk (show j < W.2.1 by omega)
    refine ze_iload (pc := 129) dX11_lays_129 rfl ?_
    refine ze_iastN (pc := 131) (W.1 ^ j) dX11_lays_131 (by repeat (first | assumption | exact hset_eq _ _ _ | rw [hset_ne _ _ (by omega)])) (by rfl) (by omega) (by first | decide | omega) ?_
    refine zn_inc (pc := 132) dX11_lays_132 rfl (by decide) ?_
    refine ze_goto (pc := 135) (tgt := 68) dX11_lays_135 (by decide) ?_
    refine VS.mask [true, true, true, true, false, false] ?_
    refine ih (j + 1) (by omega) (by omega) _ _ (hI.set hw hb hpi q1) ⟨fun x hx => ?_, fun x y hx hy c => ?_⟩
    · have p1 := (pw_b hk (show i ≤ 5 by omega)).1
      have p2 := (pw_b hk (show j ≤ 5 by omega)).1
      exact ⟨by (try dsimp only); rw [if_neg (by omega)]; exact (hT.1 x hx).1, by (try dsimp only); rw [if_neg (by omega)]; exact (hT.1 x hx).2⟩
    · by_cases e : x = i ∧ y = j
      · (try dsimp only); rw [if_pos ⟨by rw [e.1], by rw [e.2]⟩, e.1, e.2]
      · (try dsimp only); rw [if_neg (fun z => e ⟨pow_inj' (by omega) z.1, pow_inj' (by omega) z.2⟩)]
        exact hT.2 x y hx hy (by omega)
theorem l_ly_i {b a : Nat} (hk : Wok W) (hw : w + 31 < a) (hb : a + W.1 ^ W.2.1 < b) (kk : ∀ h2 T, LyI h h2 w a b W T → Kn1 W W.2.1 0 T → VS ro MX11_lays Post (zz, 30, 800) h2 144 [some (.ref w), some (.ref b), none, none, none, none] []) :
    ∀ (m i : Nat), m = W.2.1 - i → i ≤ W.2.1 → ∀ h2 T, LyI h h2 w a b W T → Kn1 W i 0 T → VS ro MX11_lays Post (zz, 30, 800) h2 58 [some (.ref w), some (.ref b), some (.int (nI i)), none, none, none] [] := by
  have bb := hk.b
  intro m
  induction m with
  | zero =>
    intro i e1 e2 h2 T hI hT
    have : i = W.2.1 := by omega
    subst this
    obtain ⟨⟨w1, -⟩, -⟩ := id hI
    refine ze_iload_n (pc := 58) dX11_lays_58 rfl rfl ?_
    refine ze_aload_n (pc := 59) dX11_lays_59 rfl rfl ?_
    refine ze_get (pc := 60) fl_X11_13 dX11_lays_60 (by repeat (first | assumption | exact hset_eq _ _ _ | rw [hset_ne _ _ (by omega)])) (by rfl) ?_
    refine zn_icmp_ge (pc := 63) (tgt := 144) dX11_lays_63 (by decide) (by omega) (by omega) (fun c => ?_) (fun c => absurd c (by omega))
    refine VS.mask [true, true, false, false, false, false] ?_
    exact kk h2 T hI hT
  | succ m ih =>
    intro i e1 e2 h2 T hI hT
    obtain ⟨⟨w1, -⟩, -⟩ := id hI
    refine ze_iload_n (pc := 58) dX11_lays_58 rfl rfl ?_
    refine ze_aload_n (pc := 59) dX11_lays_59 rfl rfl ?_
    refine ze_get (pc := 60) fl_X11_13 dX11_lays_60 (by repeat (first | assumption | exact hset_eq _ _ _ | rw [hset_ne _ _ (by omega)])) (by rfl) ?_
    refine zn_icmp_ge (pc := 63) (tgt := 144) dX11_lays_63 (by decide) (by omega) (by omega) (fun c => absurd c (by omega)) (fun c => ?_)
    refine zn_iconst (pc := 66) 0 dX11_lays_66 (by decide) ?_
    refine ze_istore_n (pc := 67) dX11_lays_67 rfl (by decide) ?_
    refine l_ly_j hk hw hb (by omega) (fun h3 T3 hI3 hT3 => ?_) W.2.1 0 (by omega) (by omega) h2 T hI hT
    refine zn_inc (pc := 138) dX11_lays_138 rfl (by decide) ?_
    refine ze_goto (pc := 141) (tgt := 58) dX11_lays_141 (by decide) ?_
    exact ih (i + 1) (by omega) (by omega) h3 T3 hI3 hT3
-- rows of base elements
theorem l_ly_h {i y b a : Nat} {T : Nat → Nat → Nat} {h2 : AH} (hk : Wok W) (hI : LyI h h2 w a b W T) (hy : 1 ≤ y) (hyq : y < W.1 ^ W.2.1) (kk : ∀ k, k < W.2.1 → W.1 ^ k ≤ y → y < W.1 ^ (k + 1) → VS ro MX11_lays Post (zz, 30, 800) h2 186 [some (.ref w), some (.ref b), some (.int (nI i)), some (.int (nI y)), some (.int (nI k)), none] []) :
    ∀ (k : Nat), k < W.2.1 → y < W.1 ^ (k + 1) → VS ro MX11_lays Post (zz, 30, 800) h2 172 [some (.ref w), some (.ref b), some (.int (nI i)), some (.int (nI y)), some (.int (nI k)), none] [] := by
  have bb := hk.b
  obtain ⟨⟨w1, -⟩, t1, ⟨gb, g1, g2⟩, -⟩ := id hI
  intro k
  induction k with
  | zero =>
    intro e1 e2
    refine ze_aload_n (pc := 172) dX11_lays_172 rfl rfl ?_
    refine ze_iload (pc := 173) dX11_lays_173 rfl ?_
    refine ze_ialdN (pc := 175) (0) dX11_lays_175 (by repeat (first | assumption | exact hset_eq _ _ _ | rw [hset_ne _ _ (by omega)])) (by rfl) (by omega) (by first | decide | omega) ?_
    refine ze_top (g2 0 (by omega)) ?_
    have p1 := pw_b hk (show 0 ≤ 5 by omega)
    refine ze_iload_n (pc := 176) dX11_lays_176 rfl rfl ?_
    refine zn_icmp_le (pc := 177) (tgt := 186) dX11_lays_177 (by decide) (by omega) (by omega) (fun c => ?_) (fun c => absurd c (by rw [Nat.pow_zero]; omega))
    exact kk 0 e1 c e2
  | succ k ih =>
    intro e1 e2
    refine ze_aload_n (pc := 172) dX11_lays_172 rfl rfl ?_
    refine ze_iload (pc := 173) dX11_lays_173 rfl ?_
    refine ze_ialdN (pc := 175) (k + 1) dX11_lays_175 (by repeat (first | assumption | exact hset_eq _ _ _ | rw [hset_ne _ _ (by omega)])) (by rfl) (by omega) (by first | decide | omega) ?_
    refine ze_top (g2 (k + 1) (by omega)) ?_
    have p1 := pw_b hk (show k + 1 ≤ 5 by omega)
    refine ze_iload_n (pc := 176) dX11_lays_176 rfl rfl ?_
    refine zn_icmp_le (pc := 177) (tgt := 186) dX11_lays_177 (by decide) (by omega) (by omega) (fun c => ?_) (fun c => ?_)
    · exact kk (k + 1) e1 c e2
    · refine zn_dec (pc := 180) dX11_lays_180 rfl (by decide) ?_
      refine ze_goto (pc := 183) (tgt := 172) dX11_lays_183 (by decide) ?_
      exact ih (by omega) c
def Kn2 (W : Wd) (i y : Nat) (T : Nat → Nat → Nat) : Prop := Kn1 W W.2.1 0 T ∧ ∀ a b, a < W.2.1 → b < W.1 ^ W.2.1 → (a < i ∨ a = i ∧ b < y) → T (W.1 ^ a) b = mul W (W.1 ^ a) b
theorem l_ly_y {i b a : Nat} (hk : Wok W) (hw : w + 31 < a) (hb : a + W.1 ^ W.2.1 < b) (hi : i < W.2.1) (kk : ∀ h2 T, LyI h h2 w a b W T → Kn2 W (i + 1) 1 T → VS ro MX11_lays Post (zz, 30, 800) h2 242 [some (.ref w), some (.ref b), some (.int (nI i)), none, none, none] []) :
    ∀ (m y : Nat), m = W.1 ^ W.2.1 - y → 1 ≤ y → y ≤ W.1 ^ W.2.1 → ∀ h2 T, LyI h h2 w a b W T → Kn2 W i y T → VS ro MX11_lays Post (zz, 30, 800) h2 156 [some (.ref w), some (.ref b), some (.int (nI i)), some (.int (nI y)), none, none] [] := by
  have bb := hk.b
  have hpi := pw_q hk hi
  have pi1 := (pw_b hk (show i ≤ 5 by omega)).1
  intro m
  induction m with
  | zero =>
    intro y e1 e0 e2 h2 T hI hT
    have : y = W.1 ^ W.2.1 := by omega
    subst this
    obtain ⟨⟨w1, -⟩, -⟩ := id hI
    refine ze_iload_n (pc := 156) dX11_lays_156 rfl rfl ?_
    refine ze_aload_n (pc := 157) dX11_lays_157 rfl rfl ?_
    refine ze_get (pc := 158) fl_X11_16 dX11_lays_158 (by repeat (first | assumption | exact hset_eq _ _ _ | rw [hset_ne _ _ (by omega)])) (by rfl) ?_
    refine zn_icmp_ge (pc := 161) (tgt := 242) dX11_lays_161 (by decide) (by omega) (by omega) (fun c => ?_) (fun c => absurd c (by omega))
    refine VS.mask [true, true, true, false, false, false] ?_
    refine kk h2 T hI ⟨hT.1, fun x z hx hz c => ?_⟩
    by_cases z0 : z = 0
    · subst z0
      rw [(hT.1.1 _ (pw_q hk hx)).1, mul_0r hk]
    · exact hT.2 x z hx hz (by omega)
  | succ m ih =>
    intro y e1 e0 e2 h2 T hI hT
    have hyq : y < W.1 ^ W.2.1 := by omega
    obtain ⟨⟨w1, -⟩, ⟨t1, t2⟩, ⟨gb, g1, g2⟩, -⟩ := id hI
    obtain ⟨g, q1, q2⟩ := t2 _ hpi
    refine ze_iload_n (pc := 156) dX11_lays_156 rfl rfl ?_
    refine ze_aload_n (pc := 157) dX11_lays_157 rfl rfl ?_
    refine ze_get (pc := 158) fl_X11_16 dX11_lays_158 (by repeat (first | assumption | exact hset_eq _ _ _ | rw [hset_ne _ _ (by omega)])) (by rfl) ?_
    refine zn_icmp_ge (pc := 161) (tgt := 242) dX11_lays_161 (by decide) (by omega) (by omega) (fun c => absurd c (by omega)) (fun c => ?_)
    refine ze_aload_n (pc := 164) dX11_lays_164 rfl rfl ?_
    refine ze_get (pc := 165) fl_X11_13 dX11_lays_165 (by repeat (first | assumption | exact hset_eq _ _ _ | rw [hset_ne _ _ (by omega)])) (by rfl) ?_
    refine zn_iconst (pc := 168) 1 dX11_lays_168 (by decide) ?_
    refine zn_isub (pc := 169) dX11_lays_169 (by omega) ?_
    refine ze_istore (pc := 170) dX11_lays_170 (by decide) ?_
    refine l_ly_h hk hI e0 hyq (fun k k1 k2 k3 => ?_) (W.2.1 - 1) (by omega) (by rw [show W.2.1 - 1 + 1 = W.2.1 by omega]; exact hyq)
    have hpk := pw_q hk k1
    have pk1 := (pw_b hk (show k ≤ 5 by omega)).1
    refine ze_aload_n (pc := 186) dX11_lays_186 rfl rfl ?_
    refine ze_iload (pc := 187) dX11_lays_187 rfl ?_
    refine ze_ialdN (pc := 189) (k) dX11_lays_189 (by repeat (first | assumption | exact hset_eq _ _ _ | rw [hset_ne _ _ (by omega)])) (by rfl) (by omega) (by first | decide | omega) ?_
    refine ze_top (g2 k k1) ?_
    refine ze_iload_n (pc := 190) dX11_lays_190 rfl rfl ?_
    refine zn_icmp_eq (pc := 191) (tgt := 236) dX11_lays_191 (by decide) (by omega) (by omega) (fun c => ?_) (fun c => ?_)
    · refine zn_inc (pc := 236) dX11_lays_236 rfl (by decide) ?_
      refine ze_goto (pc := 239) (tgt := 156) dX11_lays_239 (by decide) ?_
      refine VS.mask [true, true, true, true, false, false] ?_
      refine ih (y + 1) (by omega) (by omega) (by omega) h2 T hI ⟨hT.1, fun x z hx hz cc => ?_⟩
      by_cases e : x = i ∧ z = y
      · rw [e.1, e.2, ← c]
        exact hT.1.2 i k hi k1 (by omega)
      · exact hT.2 x z hx hz (by omega)
    · refine ze_aload_n (pc := 194) dX11_lays_194 rfl rfl ?_
      refine ze_get (pc := 195) fl_X11_38 dX11_lays_195 (by repeat (first | assumption | exact hset_eq _ _ _ | rw [hset_ne _ _ (by omega)])) (by rfl) ?_
      refine ze_aload_n (pc := 198) dX11_lays_198 rfl rfl ?_
      refine ze_iload_n (pc := 199) dX11_lays_199 rfl rfl ?_
      refine ze_ialdN (pc := 200) (i) dX11_lays_200 (by repeat (first | assumption | exact hset_eq _ _ _ | rw [hset_ne _ _ (by omega)])) (by rfl) (by omega) (by first | decide | omega) ?_
      refine ze_top (g2 i hi) ?_
      refine ze_aldGS (pc := 201) (W.1 ^ i) dX11_lays_201 (by repeat (first | assumption | exact hset_eq _ _ _ | rw [hset_ne _ _ (by omega)])) (by rfl) (by omega) (by first | decide | omega) (if_pos hpi) ?_
      refine ze_iload_n (pc := 202) dX11_lays_202 rfl rfl ?_
      refine ze_aload_n (pc := 203) dX11_lays_203 rfl rfl ?_
      refine ze_aload_n (pc := 204) dX11_lays_204 rfl rfl ?_
      refine ze_get (pc := 205) fl_X11_38 dX11_lays_205 (by repeat (first | assumption | exact hset_eq _ _ _ | rw [hset_ne _ _ (by omega)])) (by rfl) ?_
      refine ze_aload_n (pc := 208) dX11_lays_208 rfl rfl ?_
      refine ze_iload_n (pc := 209) dX11_lays_209 rfl rfl ?_
      refine ze_ialdN (pc := 210) (i) dX11_lays_210 (by repeat (first | assumption | exact hset_eq _ _ _ | rw [hset_ne _ _ (by omega)])) (by rfl) (by omega) (by first | decide | omega) ?_
      refine ze_top (g2 i hi) ?_
      refine ze_aldGS (pc := 211) (W.1 ^ i) dX11_lays_211 (by repeat (first | assumption | exact hset_eq _ _ _ | rw [hset_ne _ _ (by omega)])) (by rfl) (by omega) (by first | decide | omega) (if_pos hpi) ?_
      refine ze_iload_n (pc := 212) dX11_lays_212 rfl rfl ?_
      refine ze_aload_n (pc := 213) dX11_lays_213 rfl rfl ?_
      refine ze_iload (pc := 214) dX11_lays_214 rfl ?_
      refine ze_ialdN (pc := 216) (k) dX11_lays_216 (by repeat (first | assumption | exact hset_eq _ _ _ | rw [hset_ne _ _ (by omega)])) (by rfl) (by omega) (by first | decide | omega) ?_
      refine ze_top (g2 k k1) ?_
      refine zn_isub (pc := 217) dX11_lays_217 (by omega) ?_
      refine ze_ialdN (pc := 218) (y - W.1 ^ k) dX11_lays_218 (by repeat (first | assumption | exact hset_eq _ _ _ | rw [hset_ne _ _ (by omega)])) (by rfl) (by omega) (by first | decide | omega) ?_
      refine ze_top (q2 _ (by omega)) ?_
      refine ze_aload_n (pc := 219) dX11_lays_219 rfl rfl ?_
      refine ze_get (pc := 220) fl_X11_38 dX11_lays_220 (by repeat (first | assumption | exact hset_eq _ _ _ | rw [hset_ne _ _ (by omega)])) (by rfl) ?_
      refine ze_aload_n (pc := 223) dX11_lays_223 rfl rfl ?_
      refine ze_iload_n (pc := 224) dX11_lays_224 rfl rfl ?_
      refine ze_ialdN (pc := 225) (i) dX11_lays_225 (by repeat (first | assumption | exact hset_eq _ _ _ | rw [hset_ne _ _ (by omega)])) (by rfl) (by omega) (by first | decide | omega) ?_
      refine ze_top (g2 i hi) ?_
      refine ze_aldGS (pc := 226) (W.1 ^ i) dX11_lays_226 (by repeat (first | assumption | exact hset_eq _ _ _ | rw [hset_ne _ _ (by omega)])) (by rfl) (by omega) (by first | decide | omega) (if_pos hpi) ?_
      refine ze_aload_n (pc := 227) dX11_lays_227 rfl rfl ?_
      refine ze_iload (pc := 228) dX11_lays_228 rfl ?_
      refine ze_ialdN (pc := 230) (k) dX11_lays_230 (by repeat (first | assumption | exact hset_eq _ _ _ | rw [hset_ne _ _ (by omega)])) (by rfl) (by omega) (by first | decide | omega) ?_
      refine ze_top (g2 k k1) ?_
      refine ze_ialdN (pc := 231) (W.1 ^ k) dX11_lays_231 (by repeat (first | assumption | exact hset_eq _ _ _ | rw [hset_ne _ _ (by omega)])) (by rfl) (by omega) (by first | decide | omega) ?_
      refine ze_top (q2 _ hpk) ?_
      have v1 : T (W.1 ^ i) (y - W.1 ^ k) = mul W (W.1 ^ i) (y - W.1 ^ k) := by
        by_cases z0 : y - W.1 ^ k = 0
        · rw [z0, (hT.1.1 _ hpi).1, mul_0r hk]
        · exact hT.2 i _ hi (by omega) (by omega)
      have v2 : T (W.1 ^ i) (W.1 ^ k) = mul W (W.1 ^ i) (W.1 ^ k) := hT.1.2 i k hi k1 (by omega)
      rw [v1, v2]
      refine zn_V (pc := 232) (c_X11_plus w1 ⟨bb.1, bb.2.1⟩ bb.2.2.2.1 (mul_lt hk _ _) (mul_lt hk _ _) (by omega)) bX11_plus q_i_X11_plus q_s_X11_plus q_m_X11_33 dX11_lays_232 rfl rfl (by repeat (first | assumption | exact hset_eq _ _ _ | rw [hset_ne _ _ (by omega)])) rfl rfl (by exact Nat.le_of_ble_eq_true rfl) ⟨by decide, by decide⟩ ⟨rfl, rfl, by first | exact Nat.zero_le _ | exact Nat.le_of_ble_eq_true rfl, by first | exact Nat.zero_le _ | exact Nat.le_of_ble_eq_true rfl⟩ (fun x h2 hp => ?_)
      obtain ⟨rfl, rfl⟩ := hp
      rw [← mul_up_r hk k1 k2 k3]
      refine ze_iastN (pc := 235) (y) dX11_lays_235 (by repeat (first | assumption | exact hset_eq _ _ _ | rw [hset_ne _ _ (by omega)])) (by rfl) (by omega) (by first | decide | omega) ?_
      refine zn_inc (pc := 236) dX11_lays_236 rfl (by decide) ?_
      refine ze_goto (pc := 239) (tgt := 156) dX11_lays_239 (by decide) ?_
      refine VS.mask [true, true, true, true, false, false] ?_
      refine ih (y + 1) (by omega) (by omega) (by omega) _ _ (hI.set hw hb hpi q1) ⟨⟨fun x hx => ?_, fun x z hx hz cc => ?_⟩, fun x z hx hz cc => ?_⟩
      · exact ⟨by (try dsimp only); rw [if_neg (by omega)]; exact (hT.1.1 x hx).1, by (try dsimp only); rw [if_neg (by omega)]; exact (hT.1.1 x hx).2⟩
      · by_cases e : W.1 ^ x = W.1 ^ i ∧ W.1 ^ z = y
        · (try dsimp only); rw [if_pos e, e.1, e.2]
        · (try dsimp only); rw [if_neg e]; exact hT.1.2 x z hx hz (by omega)
      · by_cases e : x = i ∧ z = y
        · (try dsimp only); rw [if_pos ⟨by rw [e.1], e.2⟩, e.1, e.2]
        · (try dsimp only); rw [if_neg (fun zz => e ⟨pow_inj' (by omega) zz.1, zz.2⟩)]
          exact hT.2 x z hx hz (by omega)
theorem l_ly_i2 {b a : Nat} (hk : Wok W) (hw : w + 31 < a) (hb : a + W.1 ^ W.2.1 < b) (kk : ∀ h2 T, LyI h h2 w a b W T → Kn2 W W.2.1 1 T → VS ro MX11_lays Post (zz, 30, 800) h2 248 [some (.ref w), some (.ref b), none, none, none, none] []) :
    ∀ (m i : Nat), m = W.2.1 - i → i ≤ W.2.1 → ∀ h2 T, LyI h h2 w a b W T → Kn2 W i 1 T → VS ro MX11_lays Post (zz, 30, 800) h2 146 [some (.ref w), some (.ref b), some (.int (nI i)), none, none, none] [] := by
  have bb := hk.b
  intro m
  induction m with
  | zero =>
    intro i e1 e2 h2 T hI hT
    have : i = W.2.1 := by omega
    subst this
    obtain ⟨⟨w1, -⟩, -⟩ := id hI
    refine ze_iload_n (pc := 146) dX11_lays_146 rfl rfl ?_
    refine ze_aload_n (pc := 147) dX11_lays_147 rfl rfl ?_
    refine ze_get (pc := 148) fl_X11_13 dX11_lays_148 (by repeat (first | assumption | exact hset_eq _ _ _ | rw [hset_ne _ _ (by omega)])) (by rfl) ?_
    refine zn_icmp_ge (pc := 151) (tgt := 248) dX11_lays_151 (by decide) (by omega) (by omega) (fun c => ?_) (fun c => absurd c (by omega))
    refine VS.mask [true, true, false, false, false, false] ?_
    exact kk h2 T hI hT
  | succ m ih =>
    intro i e1 e2 h2 T hI hT
    obtain ⟨⟨w1, -⟩, -⟩ := id hI
    refine ze_iload_n (pc := 146) dX11_lays_146 rfl rfl ?_
    refine ze_aload_n (pc := 147) dX11_lays_147 rfl rfl ?_
    refine ze_get (pc := 148) fl_X11_13 dX11_lays_148 (by repeat (first | assumption | exact hset_eq _ _ _ | rw [hset_ne _ _ (by omega)])) (by rfl) ?_
    refine zn_icmp_ge (pc := 151) (tgt := 248) dX11_lays_151 (by decide) (by omega) (by omega) (fun c => absurd c (by omega)) (fun c => ?_)
    refine zn_iconst (pc := 154) 1 dX11_lays_154 (by decide) ?_
    refine ze_istore_n (pc := 155) dX11_lays_155 rfl (by decide) ?_
    refine l_ly_y hk hw hb (by omega) (fun h3 T3 hI3 hT3 => ?_) (W.1 ^ W.2.1 - 1) 1 (by omega) (by omega) hk.pos h2 T hI hT
    refine zn_inc (pc := 242) dX11_lays_242 rfl (by decide) ?_
    refine ze_goto (pc := 245) (tgt := 146) dX11_lays_245 (by decide) ?_
    exact ih (i + 1) (by omega) (by omega) h3 T3 hI3 hT3
-- all rows
theorem l_ly_h3 {x b a : Nat} {T : Nat → Nat → Nat} {h2 : AH} (hk : Wok W) (hI : LyI h h2 w a b W T) (hy : 1 ≤ x) (hyq : x < W.1 ^ W.2.1) (kk : ∀ k, k < W.2.1 → W.1 ^ k ≤ x → x < W.1 ^ (k + 1) → VS ro MX11_lays Post (zz, 30, 800) h2 278 [some (.ref w), some (.ref b), some (.int (nI x)), some (.int (nI k)), none, none] []) :
    ∀ (k : Nat), k < W.2.1 → x < W.1 ^ (k + 1) → VS ro MX11_lays Post (zz, 30, 800) h2 265 [some (.ref w), some (.ref b), some (.int (nI x)), some (.int (nI k)), none, none] [] := by
  have bb := hk.b
  obtain ⟨⟨w1, -⟩, t1, ⟨gb, g1, g2⟩, -⟩ := id hI
  intro k
  induction k with
  | zero =>
    intro e1 e2
    refine ze_aload_n (pc := 265) dX11_lays_265 rfl rfl ?_
    refine ze_iload_n (pc := 266) dX11_lays_266 rfl rfl ?_
    refine ze_ialdN (pc := 267) (0) dX11_lays_267 (by repeat (first | assumption | exact hset_eq _ _ _ | rw [hset_ne _ _ (by omega)])) (by rfl) (by omega) (by first | decide | omega) ?_
    refine ze_top (g2 0 (by omega)) ?_
    have p1 := pw_b hk (show 0 ≤ 5 by omega)
    refine ze_iload_n (pc := 268) dX11_lays_268 rfl rfl ?_
    refine zn_icmp_le (pc := 269) (tgt := 278) dX11_lays_269 (by decide) (by omega) (by omega) (fun c => ?_) (fun c => absurd c (by rw [Nat.pow_zero]; omega))
    exact kk 0 e1 c e2
  | succ k ih =>
    intro e1 e2
    refine ze_aload_n (pc := 265) dX11_lays_265 rfl rfl ?_
    refine ze_iload_n (pc := 266) dX11_lays_266 rfl rfl ?_
    refine ze_ialdN (pc := 267) (k + 1) dX11_lays_267 (by repeat (first | assumption | exact hset_eq _ _ _ | rw [hset_ne _ _ (by omega)])) (by rfl) (by omega) (by first | decide | omega) ?_
    refine ze_top (g2 (k + 1) (by omega)) ?_
    have p1 := pw_b hk (show k + 1 ≤ 5 by omega)
    refine ze_iload_n (pc := 268) dX11_lays_268 rfl rfl ?_
    refine zn_icmp_le (pc := 269) (tgt := 278) dX11_lays_269 (by decide) (by omega) (by omega) (fun c => ?_) (fun c => ?_)
    · exact kk (k + 1) e1 c e2
    · refine zn_dec (pc := 272) dX11_lays_272 rfl (by decide) ?_
      refine ze_goto (pc := 275) (tgt := 265) dX11_lays_275 (by decide) ?_
      exact ih (by omega) c
def Kn3 (W : Wd) (x y : Nat) (T : Nat → Nat → Nat) : Prop := Kn2 W W.2.1 1 T ∧ ∀ a b, a < W.1 ^ W.2.1 → b < W.1 ^ W.2.1 → (a < x ∨ a = x ∧ b < y) → T a b = mul W a b
theorem l_ly_z {x k b a : Nat} (hk : Wok W) (hw : w + 31 < a) (hb : a + W.1 ^ W.2.1 < b) (hx1 : 1 ≤ x) (hx : x < W.1 ^ W.2.1) (k1 : k < W.2.1) (k2 : W.1 ^ k ≤ x) (k3 : x < W.1 ^ (k + 1)) (c0 : W.1 ^ k ≠ x) (kk : ∀ h2 T, LyI h h2 w a b W T → Kn3 W (x + 1) 0 T → VS ro MX11_lays Post (zz, 30, 800) h2 340 [some (.ref w), some (.ref b), some (.int (nI x)), none, none, none] []) :
    ∀ (m y : Nat), m = W.1 ^ W.2.1 - y → y ≤ W.1 ^ W.2.1 → ∀ h2 T, LyI h h2 w a b W T → Kn3 W x y T → VS ro MX11_lays Post (zz, 30, 800) h2 288 [some (.ref w), some (.ref b), some (.int (nI x)), some (.int (nI k)), some (.int (nI y)), none] [] := by
  have bb := hk.b
  have hpk := pw_q hk k1
  have pk1 := (pw_b hk (show k ≤ 5 by omega)).1
  intro m
  induction m with
  | zero =>
    intro y e1 e2 h2 T hI hT
    have : y = W.1 ^ W.2.1 := by omega
    subst this
    obtain ⟨⟨w1, -⟩, -⟩ := id hI
    refine ze_iload (pc := 288) dX11_lays_288 rfl ?_
    refine ze_aload_n (pc := 290) dX11_lays_290 rfl rfl ?_
    refine ze_get (pc := 291) fl_X11_16 dX11_lays_291 (by repeat (first | assumption | exact hset_eq _ _ _ | rw [hset_ne _ _ (by omega)])) (by rfl) ?_
    refine zn_icmp_ge (pc := 294) (tgt := 340) dX11_lays_294 (by decide) (by omega) (by omega) (fun c => ?_) (fun c => absurd c (by omega))
    refine VS.mask [true, true, true, false, false, false] ?_
    exact kk h2 T hI ⟨hT.1, fun u z hu hz c => hT.2 u z hu hz (by omega)⟩
  | succ m ih =>
    intro y e1 e2 h2 T hI hT
    have hyq : y < W.1 ^ W.2.1 := by omega
    obtain ⟨⟨w1, -⟩, ⟨t1, t2⟩, ⟨gb, g1, g2⟩, -⟩ := id hI
    obtain ⟨g, q1, q2⟩ := t2 _ hx
    obtain ⟨gs, s1, s2⟩ := t2 (x - W.1 ^ k) (by omega)
    obtain ⟨gk, r1, r2⟩ := t2 _ hpk
    refine ze_iload (pc := 288) dX11_lays_288 rfl ?_
    refine ze_aload_n (pc := 290) dX11_lays_290 rfl rfl ?_
    refine ze_get (pc := 291) fl_X11_16 dX11_lays_291 (by repeat (first | assumption | exact hset_eq _ _ _ | rw [hset_ne _ _ (by omega)])) (by rfl) ?_
    refine zn_icmp_ge (pc := 294) (tgt := 340) dX11_lays_294 (by decide) (by omega) (by omega) (fun c => absurd c (by omega)) (fun c => ?_)
    refine ze_aload_n (pc := 297) dX11_lays_297 rfl rfl ?_
    refine ze_get (pc := 298) fl_X11_38 dX11_lays_298 (by repeat (first | assumption | exact hset_eq _ _ _ | rw [hset_ne _ _ (by omega)])) (by rfl) ?_
    refine ze_iload_n (pc := 301) dX11_lays_301 rfl rfl ?_
    refine ze_aldGS (pc := 302) (x) dX11_lays_302 (by repeat (first | assumption | exact hset_eq _ _ _ | rw [hset_ne _ _ (by omega)])) (by rfl) (by omega) (by first | decide | omega) (if_pos hx) ?_
    refine ze_iload (pc := 303) dX11_lays_303 rfl ?_
    refine ze_aload_n (pc := 305) dX11_lays_305 rfl rfl ?_
    refine ze_aload_n (pc := 306) dX11_lays_306 rfl rfl ?_
    refine ze_get (pc := 307) fl_X11_38 dX11_lays_307 (by repeat (first | assumption | exact hset_eq _ _ _ | rw [hset_ne _ _ (by omega)])) (by rfl) ?_
    refine ze_iload_n (pc := 310) dX11_lays_310 rfl rfl ?_
    refine ze_aload_n (pc := 311) dX11_lays_311 rfl rfl ?_
    refine ze_iload_n (pc := 312) dX11_lays_312 rfl rfl ?_
    refine ze_ialdN (pc := 313) (k) dX11_lays_313 (by repeat (first | assumption | exact hset_eq _ _ _ | rw [hset_ne _ _ (by omega)])) (by rfl) (by omega) (by first | decide | omega) ?_
    refine ze_top (g2 k k1) ?_
    refine zn_isub (pc := 314) dX11_lays_314 (by omega) ?_
    refine ze_aldGS (pc := 315) (x - W.1 ^ k) dX11_lays_315 (by repeat (first | assumption | exact hset_eq _ _ _ | rw [hset_ne _ _ (by omega)])) (by rfl) (by omega) (by first | decide | omega) (by exact if_pos (by omega)) ?_
    refine ze_iload (pc := 316) dX11_lays_316 rfl ?_
    refine ze_ialdN (pc := 318) (y) dX11_lays_318 (by repeat (first | assumption | exact hset_eq _ _ _ | rw [hset_ne _ _ (by omega)])) (by rfl) (by omega) (by first | decide | omega) ?_
    refine ze_top (s2 y hyq) ?_
    refine ze_aload_n (pc := 319) dX11_lays_319 rfl rfl ?_
    refine ze_get (pc := 320) fl_X11_38 dX11_lays_320 (by repeat (first | assumption | exact hset_eq _ _ _ | rw [hset_ne _ _ (by omega)])) (by rfl) ?_
    refine ze_aload_n (pc := 323) dX11_lays_323 rfl rfl ?_
    refine ze_iload_n (pc := 324) dX11_lays_324 rfl rfl ?_
    refine ze_ialdN (pc := 325) (k) dX11_lays_325 (by repeat (first | assumption | exact hset_eq _ _ _ | rw [hset_ne _ _ (by omega)])) (by rfl) (by omega) (by first | decide | omega) ?_
    refine ze_top (g2 k k1) ?_
    refine ze_aldGS (pc := 326) (W.1 ^ k) dX11_lays_326 (by repeat (first | assumption | exact hset_eq _ _ _ | rw [hset_ne _ _ (by omega)])) (by rfl) (by omega) (by first | decide | omega) (if_pos hpk) ?_
    refine ze_iload (pc := 327) dX11_lays_327 rfl ?_
    refine ze_ialdN (pc := 329) (y) dX11_lays_329 (by repeat (first | assumption | exact hset_eq _ _ _ | rw [hset_ne _ _ (by omega)])) (by rfl) (by omega) (by first | decide | omega) ?_
    refine ze_top (r2 y hyq) ?_
    rw [hT.2 (x - W.1 ^ k) y (by omega) hyq (by omega), hT.2 (W.1 ^ k) y hpk hyq (by omega)]
    refine zn_V (pc := 330) (c_X11_plus w1 ⟨bb.1, bb.2.1⟩ bb.2.2.2.1 (mul_lt hk _ _) (mul_lt hk _ _) (by omega)) bX11_plus q_i_X11_plus q_s_X11_plus q_m_X11_33 dX11_lays_330 rfl rfl (by repeat (first | assumption | exact hset_eq _ _ _ | rw [hset_ne _ _ (by omega)])) rfl rfl (by exact Nat.le_of_ble_eq_true rfl) ⟨by decide, by decide⟩ ⟨rfl, rfl, by first | exact Nat.zero_le _ | exact Nat.le_of_ble_eq_true rfl, by first | exact Nat.zero_le _ | exact Nat.le_of_ble_eq_true rfl⟩ (fun x h2 hp => ?_)
    obtain ⟨rfl, rfl⟩ := hp
    rw [← mul_up_l hk k1 k2 k3]
    refine ze_iastN (pc := 333) (y) dX11_lays_333 (by repeat (first | assumption | exact hset_eq _ _ _ | rw [hset_ne _ _ (by omega)])) (by rfl) (by omega) (by first | decide | omega) ?_
    refine zn_inc (pc := 334) dX11_lays_334 rfl (by decide) ?_
    refine ze_goto (pc := 337) (tgt := 288) dX11_lays_337 (by decide) ?_
    have st : ∀ u v, u < W.1 ^ W.2.1 → v < W.1 ^ W.2.1 → T u v = mul W u v → (if u = x ∧ v = y then mul W x y else T u v) = mul W u v := fun u v _ _ e => by
      by_cases c : u = x ∧ v = y
      · (try dsimp only); rw [if_pos c, c.1, c.2]
      · (try dsimp only); rw [if_neg c]; exact e
    refine ih (y + 1) (by omega) (by omega) _ _ (hI.set hw hb hx q1) ⟨⟨⟨fun u hu => ?_, fun u z hu hz cc => st _ _ (pw_q hk hu) (pw_q hk hz) (hT.1.1.2 u z hu hz cc)⟩, fun u z hu hz cc => st _ _ (pw_q hk hu) hz (hT.1.2 u z hu hz cc)⟩, fun u z hu hz cc => ?_⟩
    · have := st u 0 hu hk.pos (by rw [(hT.1.1.1 u hu).1, mul_0r hk])
      have := st 0 u hk.pos hu (by rw [(hT.1.1.1 u hu).2, mul_0l hk])
      rw [mul_0l hk] at this
      rename_i q
      rw [mul_0r hk] at q
      exact ⟨q, this⟩
    · by_cases c : u = x ∧ z = y
      · show (if u = x ∧ z = y then _ else _) = _
        rw [if_pos c, c.1, c.2]
      · show (if u = x ∧ z = y then _ else _) = _
        rw [if_neg c]
        exact hT.2 u z hu hz (by omega)
theorem l_ly_x {b a : Nat} (hk : Wok W) (hw : w + 31 < a) (hb : a + W.1 ^ W.2.1 < b) (kk : ∀ h2, LyI h h2 w a b W (mul W) → VS ro MX11_lays Post (zz, 30, 800) h2 346 [some (.ref w), some (.ref b), none, none, none, none] []) :
    ∀ (m x : Nat), m = W.1 ^ W.2.1 - x → 1 ≤ x → x ≤ W.1 ^ W.2.1 → ∀ h2 T, LyI h h2 w a b W T → Kn3 W x 0 T → VS ro MX11_lays Post (zz, 30, 800) h2 250 [some (.ref w), some (.ref b), some (.int (nI x)), none, none, none] [] := by
  have bb := hk.b
  intro m
  induction m with
  | zero =>
    intro x e1 e0 e2 h2 T hI hT
    have : x = W.1 ^ W.2.1 := by omega
    subst this
    obtain ⟨⟨w1, -⟩, -⟩ := id hI
    refine ze_iload_n (pc := 250) dX11_lays_250 rfl rfl ?_
    refine ze_aload_n (pc := 251) dX11_lays_251 rfl rfl ?_
    refine ze_get (pc := 252) fl_X11_16 dX11_lays_252 (by repeat (first | assumption | exact hset_eq _ _ _ | rw [hset_ne _ _ (by omega)])) (by rfl) ?_
    refine zn_icmp_ge (pc := 255) (tgt := 346) dX11_lays_255 (by decide) (by omega) (by omega) (fun c => ?_) (fun c => absurd c (by omega))
    refine VS.mask [true, true, false, false, false, false] ?_
    exact kk h2 ⟨hI.1, hI.2.1.congr (fun u v hu hv => hT.2 u v hu hv (by omega)), hI.2.2⟩
  | succ m ih =>
    intro x e1 e0 e2 h2 T hI hT
    have hxq : x < W.1 ^ W.2.1 := by omega
    obtain ⟨⟨w1, -⟩, ⟨t1, t2⟩, ⟨gb, g1, g2⟩, -⟩ := id hI
    refine ze_iload_n (pc := 250) dX11_lays_250 rfl rfl ?_
    refine ze_aload_n (pc := 251) dX11_lays_251 rfl rfl ?_
    refine ze_get (pc := 252) fl_X11_16 dX11_lays_252 (by repeat (first | assumption | exact hset_eq _ _ _ | rw [hset_ne _ _ (by omega)])) (by rfl) ?_
    refine zn_icmp_ge (pc := 255) (tgt := 346) dX11_lays_255 (by decide) (by omega) (by omega) (fun c => absurd c (by omega)) (fun c => ?_)
    refine ze_aload_n (pc := 258) dX11_lays_258 rfl rfl ?_
    refine ze_get (pc := 259) fl_X11_13 dX11_lays_259 (by repeat (first | assumption | exact hset_eq _ _ _ | rw [hset_ne _ _ (by omega)])) (by rfl) ?_
    refine zn_iconst (pc := 262) 1 dX11_lays_262 (by decide) ?_
    refine zn_isub (pc := 263) dX11_lays_263 (by omega) ?_
    refine ze_istore_n (pc := 264) dX11_lays_264 rfl (by decide) ?_
    refine l_ly_h3 hk hI e0 hxq (fun k k1 k2 k3 => ?_) (W.2.1 - 1) (by omega) (by rw [show W.2.1 - 1 + 1 = W.2.1 by omega]; exact hxq)
    have pk1 := (pw_b hk (show k ≤ 5 by omega)).1
    refine ze_aload_n (pc := 278) dX11_lays_278 rfl rfl ?_
    refine ze_iload_n (pc := 279) dX11_lays_279 rfl rfl ?_
    refine ze_ialdN (pc := 280) (k) dX11_lays_280 (by repeat (first | assumption | exact hset_eq _ _ _ | rw [hset_ne _ _ (by omega)])) (by rfl) (by omega) (by first | decide | omega) ?_
    refine ze_top (g2 k k1) ?_
    refine ze_iload_n (pc := 281) dX11_lays_281 rfl rfl ?_
    refine zn_icmp_eq (pc := 282) (tgt := 340) dX11_lays_282 (by decide) (by omega) (by omega) (fun c => ?_) (fun c => ?_)
    · refine zn_inc (pc := 340) dX11_lays_340 rfl (by decide) ?_
      refine ze_goto (pc := 343) (tgt := 250) dX11_lays_343 (by decide) ?_
      refine VS.mask [true, true, true, false, false, false] ?_
      refine ih (x + 1) (by omega) (by omega) (by omega) h2 T hI ⟨hT.1, fun u v hu hv cc => ?_⟩
      by_cases e : u = x
      · rw [e, ← c]
        exact hT.1.2 k v k1 hv (by omega)
      · exact hT.2 u v hu hv (by omega)
    · refine zn_iconst (pc := 285) 0 dX11_lays_285 (by decide) ?_
      refine ze_istore (pc := 286) dX11_lays_286 (by decide) ?_
      refine l_ly_z hk hw hb e0 hxq k1 k2 k3 c (fun h3 T3 hI3 hT3 => ?_) (W.1 ^ W.2.1) 0 (by omega) (by omega) h2 T hI hT
      refine zn_inc (pc := 340) dX11_lays_340 rfl (by decide) ?_
      refine ze_goto (pc := 343) (tgt := 250) dX11_lays_343 (by decide) ?_
      exact ih (x + 1) (by omega) (by omega) (by omega) h3 T3 hI3 hT3
theorem c_X11_lays (hW : LW h w W tb) (hk : Wok W) (hq : W.1 ^ W.2.1 ≤ 27) (hw : w + 31 < zq) : CnS ro yX11_lays MX11_lays [.ref w] zq h (fun r h' z => r = none ∧ z = zq + W.1 ^ W.2.1 + 2 ∧ LW h' w W (.ref zq) ∧ Tb h' zq (W.1 ^ W.2.1) (mul W) ∧ ∀ x, x < zq → x ≠ w → h' x = h x) := by
  have bb := hk.b
  obtain ⟨w1, w2⟩ := id hW
  have hq2 : W.1 ^ W.2.1 * W.1 ^ W.2.1 ≤ 27 * 27 := Nat.mul_le_mul hq hq
  refine CnS.ofVS (by decide) rfl (fun q => by cases q) (by simp [Value.category]) (by exact Nat.le_of_ble_eq_true rfl) ?_
  refine ze_aload_n (pc := 0) dX11_lays_0 rfl rfl ?_
  refine ze_aload_n (pc := 1) dX11_lays_1 rfl rfl ?_
  refine ze_get (pc := 2) fl_X11_16 dX11_lays_2 (by repeat (first | assumption | exact hset_eq _ _ _ | rw [hset_ne _ _ (by omega)])) (by rfl) ?_
  refine ze_aload_n (pc := 5) dX11_lays_5 rfl rfl ?_
  refine ze_get (pc := 6) fl_X11_16 dX11_lays_6 (by repeat (first | assumption | exact hset_eq _ _ _ | rw [hset_ne _ _ (by omega)])) (by rfl) ?_
  refine ze_newG (pc := 9) (n := W.1 ^ W.2.1) (k := W.1 ^ W.2.1) q_cl_X11_36 dX11_lays_9 rfl rfl (by omega) (by omega) ⟨by show 0 + _ ≤ 30; omega, by show 0 + _ ≤ 800; omega⟩ ?_
  dsimp only
  have hgo : ∀ x, x < zq ∨ zq + W.1 ^ W.2.1 < x → hgrid h zq (W.1 ^ W.2.1) (W.1 ^ W.2.1) x = h x := fun x hx => by
    unfold hgrid
    rw [if_neg (by omega), if_neg (by omega)]
  refine ze_put (pc := 13) pl_X11_38 dX11_lays_13 (by rw [hgo w (by omega)]; exact w1) (by rfl) (by rfl) (by exact Nat.le_of_ble_eq_true rfl) ?_
  refine ze_aload_n (pc := 16) dX11_lays_16 rfl rfl ?_
  refine ze_get (pc := 17) fl_X11_13 dX11_lays_17 (by repeat (first | assumption | exact hset_eq _ _ _ | rw [hset_ne _ _ (by omega)])) (by rfl) ?_
  refine ze_newI (pc := 20) dX11_lays_20 rfl (by omega) ⟨by show 0 + (1 + _) + 1 ≤ 30; omega, by show 0 + (_ + _) + W.2.1 ≤ 800; omega⟩ ?_
  dsimp only
  refine ze_astore_n (pc := 22) dX11_lays_22 rfl (by decide) ?_
  refine ze_aload_n (pc := 23) dX11_lays_23 rfl rfl ?_
  refine zn_iconst (pc := 24) 0 dX11_lays_24 (by decide) ?_
  refine zn_iconst (pc := 25) 1 dX11_lays_25 (by decide) ?_
  refine ze_iastN (pc := 26) (0) dX11_lays_26 (by repeat (first | assumption | exact hset_eq _ _ _ | rw [hset_ne _ _ (by omega)])) (by rfl) (by omega) (by first | decide | omega) ?_
  rw [hset_hset]
  refine zn_iconst (pc := 27) 1 dX11_lays_27 (by decide) ?_
  refine ze_istore_n (pc := 28) dX11_lays_28 rfl (by decide) ?_
  refine VS.widen (c2 := 30) (s2 := 800) (by show 0 + (1 + _) + 1 ≤ 30; omega) (by show 0 + (_ + _) + W.2.1 ≤ 800; omega) ?_
  refine l_ly_b (zq := zq) (w := w) hk (by rw [hset_eq]; rfl) (by omega) (fun g hg => ?_) (W.2.1 - 1) 1 rfl (by omega) bb.2.2.1 _ (fun t ht => ?_)
  · refine zn_iconst (pc := 56) 0 dX11_lays_56 (by decide) ?_
    refine ze_istore_n (pc := 57) dX11_lays_57 rfl (by decide) ?_
    have hI : LyI h (hset (hset (hgrid h zq (W.1 ^ W.2.1) (W.1 ^ W.2.1)) w (ob 10 [.int (nI W.1), .int (nI W.2.1), .int (nI (W.1 ^ W.2.1)), .ref (w + 1), .ref zq])) (zq + (1 + W.1 ^ W.2.1)) (aI W.2.1 g)) w zq (zq + (1 + W.1 ^ W.2.1)) W (fun _ _ => 0) := by
      refine ⟨⟨by rw [hset_ne _ _ (by omega), hset_eq], w2.kept (fun q q1 q2 => by rw [hset_ne _ _ (by omega), hset_ne _ _ (by omega), hgo q (by omega)])⟩, ⟨?_, fun x hx => ⟨fun _ => 0, ?_, fun _ _ => rfl⟩⟩, ⟨g, hset_eq _ _ _, hg⟩, fun x x1 x2 => by rw [hset_ne _ _ (by omega), hset_ne _ _ (by omega), hgo x (by omega)]⟩
      · rw [hset_ne _ _ (by omega), hset_ne _ _ (by omega)]
        unfold hgrid
        rw [if_pos rfl]
      · rw [hset_ne _ _ (by omega), hset_ne _ _ (by omega)]
        unfold hgrid
        rw [if_neg (by omega), if_pos (by omega)]
    refine l_ly_i hk hw (by omega) (fun h3 T3 hI3 hT3 => ?_) W.2.1 0 (by omega) (by omega) _ _ hI ⟨fun _ _ => ⟨rfl, rfl⟩, fun x y _ _ c => absurd c (by omega)⟩
    refine zn_iconst (pc := 144) 0 dX11_lays_144 (by decide) ?_
    refine ze_istore_n (pc := 145) dX11_lays_145 rfl (by decide) ?_
    refine l_ly_i2 hk hw (by omega) (fun h4 T4 hI4 hT4 => ?_) W.2.1 0 (by omega) (by omega) _ _ hI3 ⟨hT3, fun x y hx hy c => ?_⟩
    · refine zn_iconst (pc := 248) 1 dX11_lays_248 (by decide) ?_
      refine ze_istore_n (pc := 249) dX11_lays_249 rfl (by decide) ?_
      refine l_ly_x hk hw (by omega) (fun h5 hI5 => ?_) (W.1 ^ W.2.1 - 1) 1 rfl (by omega) hk.pos _ _ hI4 ⟨hT4, fun u v hu hv c => ?_⟩
      · refine ze_vret (pc := 346) dX11_lays_346 rfl ⟨by exact Nat.le_of_ble_eq_true rfl, by exact Nat.le_of_ble_eq_true rfl⟩ ⟨rfl, by show zq + (1 + _) + 1 = _; omega, hI5.1, hI5.2.1, hI5.2.2.2⟩
      · have : u = 0 := by omega
        subst this
        rw [(hT4.1.1 v hv).2, mul_0l hk]
    · have : y = 0 := by omega
      subst this
      rw [(hT3.1 _ (pw_q hk hx)).1, mul_0r hk]
  · have : t = 0 := by omega
    subst this
    unfold upd
    rw [if_pos rfl, Nat.pow_zero]
end LC
