/-! ===== the product ===== -/
theorem num_shift {p : Nat} {f : Nat → Nat} : ∀ (m : Nat), num p (m + 1) f = f 0 + p * num p m (fun t => f (t + 1))
  | 0 => by show 0 + f 0 * p ^ 0 = f 0 + p * 0; simp
  | m + 1 => by
    show num p (m + 1) f + f (m + 1) * p ^ (m + 1) = f 0 + p * (num p m (fun t => f (t + 1)) + f (m + 1) * p ^ m)
    rw [num_shift m, Nat.mul_add, Nat.pow_succ, Nat.add_assoc]
    congr 2
    ac_rfl
/-- digit k of x y before the remainder -/
def mc (W : Wd) (x y k : Nat) : Nat := sg W.2.1 (fun i => sg W.2.1 (fun j => dg W.1 x i * dg W.1 y j * W.2.2 (25 * i + 5 * j + k)))
def mul (W : Wd) (x y : Nat) : Nat := num W.1 W.2.1 (fun k => mc W x y k % W.1)
theorem mul_lt {W : Wd} (hk : Wok W) (x y : Nat) : mul W x y < W.1 ^ W.2.1 := num_lt (fun _ _ => Nat.mod_lt _ (by have := hk.b; omega))
theorem sg_zero {f : Nat → Nat} {n : Nat} (h : ∀ i, i < n → f i = 0) : sg n f = 0 := by
  have := sg_le (f := f) (b := 0) (n := n) (fun i hi => by rw [h i hi]; exact Nat.le_refl _)
  omega
theorem sg_more {f : Nat → Nat} {n : Nat} : ∀ (d : Nat), (∀ i, n ≤ i → f i = 0) → sg (n + d) f = sg n f
  | 0, _ => rfl
  | d + 1, h => by
    show sg (n + d) f + f (n + d) = sg n f
    rw [sg_more d h, h (n + d) (by omega), Nat.add_zero]
/-- from a place on the terms are noughts -/
theorem sg_cut {f : Nat → Nat} {j n : Nat} (hj : j ≤ n) (h : ∀ i, j ≤ i → i < n → f i = 0) : sg n f = sg j f := by
  obtain ⟨d, rfl⟩ : ∃ d, n = j + d := ⟨n - j, by omega⟩
  induction d with
  | zero => rfl
  | succ d ih =>
    show sg (j + d) f + f (j + d) = sg j f
    rw [ih (by omega) (fun i h1 h2 => h i h1 (by omega)), h (j + d) (by omega) (by omega), Nat.add_zero]
theorem mc_le {W : Wd} (hk : Wok W) (x y k : Nat) : mc W x y k ≤ 3200 := by
  obtain ⟨b1, b2, b3, b4, b5⟩ := hk.b
  have h1 : ∀ i, i < W.2.1 → sg W.2.1 (fun j => dg W.1 x i * dg W.1 y j * W.2.2 (25 * i + 5 * j + k)) ≤ 5 * 125 := fun i _ => by
    have h2 : ∀ j, j < W.2.1 → dg W.1 x i * dg W.1 y j * W.2.2 (25 * i + 5 * j + k) ≤ 125 := fun j _ => by
      have q1 := dg_lt (p := W.1) (by omega) x i
      have q2 := dg_lt (p := W.1) (by omega) y j
      have q3 := hk.c (25 * i + 5 * j + k)
      exact Nat.mul_le_mul (Nat.mul_le_mul (show _ ≤ 5 by omega) (show _ ≤ 5 by omega)) (show _ ≤ 5 by omega)
    exact Nat.le_trans (sg_le h2) (Nat.mul_le_mul_right _ b4)
  exact Nat.le_trans (sg_le h1) (Nat.le_trans (Nat.mul_le_mul_right _ b4) (by decide))
theorem n_decS {M : MI} {Post : Option Value → AH → Nat → Prop} {al : Nat × Nat × Nat} {h : AH} {pc : Nat} {ls : List (Option Value)} {st : List Value} {i : Nat} {x : Int32} (hd : decode (MI.cc M) pc = .ok (.iinc i (-1), 3)) (hx : ls[i]? = some (some (.int x))) (hn : i < MI.nL M) (k : V M Post al h (pc + 3) (ls.set i (some (.int (x - 1)))) st) : V M Post al h pc ls st := e_iinc hd hx (by rw [Int32.sub_eq_add_neg]; rfl) hn k
section WT
variable {h : AH} {o : Nat} {W : Wd} {f : Int32} {sz : Nat} {Pr : Int32 → AH → Prop}
theorem l_times_z (hW : WAt h o W f) (x y : Nat) (kk : ∀ g, (∀ t, t < 5 → g t = nI 0) → VI MX9_times sz Pr (hset h (o + 2) (aI 5 g)) 20 [some (.ref o), some (.int (nI x)), some (.int (nI y)), none, none, none, none, none, none, none] []) :
    ∀ (n k : Nat), n = 5 - k → k ≤ 5 → ∀ g, (∀ t, t < k → g t = nI 0) → VI MX9_times sz Pr (hset h (o + 2) (aI 5 g)) 2 [some (.ref o), some (.int (nI x)), some (.int (nI y)), some (.int (nI k)), none, none, none, none, none, none] [] := by
  obtain ⟨h0, h1, -, h2⟩ := hW
  intro n
  induction n with
  | zero =>
    intro k hn hk g hg
    have e : k = 5 := by omega
    subst e
    refine e_iload_n (pc := 2) dX9_times_2 rfl rfl ?_
    refine n_iconst (pc := 3) 5 dX9_times_3 (by decide) ?_
    refine n_icmp_ge (pc := 4) (tgt := 20) dX9_times_4 (by decide) (by omega) (by omega) (fun c => ?_) (fun c => absurd c (by omega))
    refine V.mask [true, true, true, false, false, false, false, false, false, false] ?_
    exact kk g hg
  | succ n ih =>
    intro k hn hk g hg
    refine e_iload_n (pc := 2) dX9_times_2 rfl rfl ?_
    refine n_iconst (pc := 3) 5 dX9_times_3 (by decide) ?_
    refine n_icmp_ge (pc := 4) (tgt := 20) dX9_times_4 (by decide) (by omega) (by omega) (fun c => absurd c (by omega)) (fun c => ?_)
    refine e_aload_n (pc := 7) dX9_times_7 rfl rfl ?_
    refine e_get (pc := 8) fl_X9_28 dX9_times_8 (by repeat (first | assumption | exact hset_eq _ _ _ | rw [hset_ne _ _ (by omega)])) (by rfl) ?_
    refine e_iload_n (pc := 11) dX9_times_11 rfl rfl ?_
    refine n_iconst (pc := 12) 0 dX9_times_12 (by decide) ?_
    refine e_iastN (pc := 13) _ dX9_times_13 (by repeat (first | assumption | exact hset_eq _ _ _ | rw [hset_ne _ _ (by omega)])) (by rfl) (by omega) (by first | decide | omega) ?_
    refine n_inc (pc := 14) dX9_times_14 rfl (by decide) ?_
    refine e_goto (pc := 17) (tgt := 2) dX9_times_17 (by decide) ?_
    rw [hset_hset]
    refine ih (k + 1) (by omega) (by omega) _ (fun t ht => ?_)
    by_cases e : t = k
    · subst e; exact pk_us
    · rw [pk_un e]; exact hg t (by omega)
/-- one row of cells comes to the sums -/
theorem l_times_k (hW : WAt h o W f) (hk : Wok W) {x y rx i fa ry j bo : Nat} (hi : i < W.2.1) (hj : j < W.2.1) (S : Nat → Nat)
    (kk : ∀ g, (∀ t, t < W.2.1 → g t = nI (S t + bo * W.2.2 (25 * i + 5 * j + t))) → VI MX9_times sz Pr (hset h (o + 2) (aI 5 g)) 153 [some (.ref o), some (.int (nI x)), some (.int (nI y)), some (.int (nI rx)), some (.int (nI i)), some (.int (nI fa)), some (.int (nI ry)), some (.int (nI j)), none, none] []) (hb : bo < 2 ^ 31) :
    ∀ (n k : Nat), n = W.2.1 - k → k ≤ W.2.1 → ∀ g, (∀ t, t < W.2.1 → g t = nI (S t + if t < k then bo * W.2.2 (25 * i + 5 * j + t) else 0)) → VI MX9_times sz Pr (hset h (o + 2) (aI 5 g)) 102 [some (.ref o), some (.int (nI x)), some (.int (nI y)), some (.int (nI rx)), some (.int (nI i)), some (.int (nI fa)), some (.int (nI ry)), some (.int (nI j)), some (.int (nI bo)), some (.int (nI k))] [] := by
  obtain ⟨h0, h1, -, h2⟩ := hW
  obtain ⟨b1, b2, b3, b4, b5⟩ := hk.b
  intro n
  induction n with
  | zero =>
    intro k hn hkn g hg
    have e : k = W.2.1 := by omega
    subst e
    refine e_iload (pc := 102) dX9_times_102 rfl ?_
    refine e_aload_n (pc := 104) dX9_times_104 rfl rfl ?_
    refine e_get (pc := 105) fl_X9_15 dX9_times_105 (by repeat (first | assumption | exact hset_eq _ _ _ | rw [hset_ne _ _ (by omega)])) (by rfl) ?_
    refine n_icmp_ge (pc := 108) (tgt := 153) dX9_times_108 (by decide) (by omega) (by omega) (fun c => ?_) (fun c => absurd c (by omega))
    refine V.mask [true, true, true, true, true, true, true, true, false, false] ?_
    refine kk g (fun t ht => ?_)
    rw [hg t ht, if_pos ht]
  | succ n ih =>
    intro k hn hkn g hg
    have hgk := hg k (by omega)
    rw [if_neg (Nat.lt_irrefl k), Nat.add_zero] at hgk
    refine e_iload (pc := 102) dX9_times_102 rfl ?_
    refine e_aload_n (pc := 104) dX9_times_104 rfl rfl ?_
    refine e_get (pc := 105) fl_X9_15 dX9_times_105 (by repeat (first | assumption | exact hset_eq _ _ _ | rw [hset_ne _ _ (by omega)])) (by rfl) ?_
    refine n_icmp_ge (pc := 108) (tgt := 153) dX9_times_108 (by decide) (by omega) (by omega) (fun c => absurd c (by omega)) (fun c => ?_)
    refine e_iload (pc := 111) dX9_times_111 rfl ?_
    refine n_if_eq (pc := 113) (tgt := 153) dX9_times_113 (by decide) (by omega) (fun c => ?_) (fun c => ?_)
    · refine V.mask [true, true, true, true, true, true, true, true, false, false] ?_
      subst c
      refine kk g (fun t ht => ?_)
      rw [hg t ht]
      simp
    refine e_aload_n (pc := 116) dX9_times_116 rfl rfl ?_
    refine e_get (pc := 117) fl_X9_28 dX9_times_117 (by repeat (first | assumption | exact hset_eq _ _ _ | rw [hset_ne _ _ (by omega)])) (by rfl) ?_
    refine e_iload (pc := 120) dX9_times_120 rfl ?_
    refine e_dup2 (pc := 122) dX9_times_122 rfl rfl ?_
    refine e_ialdN (pc := 123) _ dX9_times_123 (by repeat (first | assumption | exact hset_eq _ _ _ | rw [hset_ne _ _ (by omega)])) (by rfl) (by omega) (by first | decide | omega) ?_
    rw [hgk]
    refine e_iload (pc := 124) dX9_times_124 rfl ?_
    refine e_aload_n (pc := 126) dX9_times_126 rfl rfl ?_
    refine e_get (pc := 127) fl_X9_24 dX9_times_127 (by repeat (first | assumption | exact hset_eq _ _ _ | rw [hset_ne _ _ (by omega)])) (by rfl) ?_
    refine n_bipush (pc := 130) 25 dX9_times_130 (by decide) ?_
    refine e_iload (pc := 132) dX9_times_132 rfl ?_
    refine n_imul (pc := 134) dX9_times_134 ?_
    refine n_iconst (pc := 135) 5 dX9_times_135 (by decide) ?_
    refine e_iload (pc := 136) dX9_times_136 rfl ?_
    refine n_imul (pc := 138) dX9_times_138 ?_
    refine n_iadd (pc := 139) dX9_times_139 ?_
    refine e_iload (pc := 140) dX9_times_140 rfl ?_
    refine n_iadd (pc := 142) dX9_times_142 ?_
    refine e_ialdN (pc := 143) _ dX9_times_143 (by repeat (first | assumption | exact hset_eq _ _ _ | rw [hset_ne _ _ (by omega)])) (by rfl) (by omega) (by first | decide | omega) ?_
    refine n_imul (pc := 144) dX9_times_144 ?_
    refine n_iadd (pc := 145) dX9_times_145 ?_
    refine e_iastN (pc := 146) _ dX9_times_146 (by repeat (first | assumption | exact hset_eq _ _ _ | rw [hset_ne _ _ (by omega)])) (by rfl) (by omega) (by first | decide | omega) ?_
    refine n_inc (pc := 147) dX9_times_147 rfl (by decide) ?_
    refine e_goto (pc := 150) (tgt := 102) dX9_times_150 (by decide) ?_
    rw [hset_hset]
    refine ih (k + 1) (by omega) (by omega) _ (fun t ht => ?_)
    by_cases e : t = k
    · subst e
      rw [pk_us, if_pos (by omega)]
    · rw [pk_un e, hg t ht]
      by_cases e2 : t < k
      · rw [if_pos e2, if_pos (by omega)]
      · rw [if_neg e2, if_neg (by omega)]
theorem l_times_j (hW : WAt h o W f) (hk : Wok W) {x y rx i fa y0 : Nat} (hi : i < W.2.1) (hfa : fa < W.1) (hy : y0 < 3125) (S : Nat → Nat)
    (kk : ∀ g, (∀ t, t < W.2.1 → g t = nI (S t + sg W.2.1 (fun j => fa * dg W.1 y0 j * W.2.2 (25 * i + 5 * j + t)))) → VI MX9_times sz Pr (hset h (o + 2) (aI 5 g)) 159 [some (.ref o), some (.int (nI x)), some (.int (nI y)), some (.int (nI rx)), some (.int (nI i)), none, none, none, none, none] []) :
    ∀ (n j : Nat), n = W.2.1 - j → j ≤ W.2.1 → ∀ g, (∀ t, t < W.2.1 → g t = nI (S t + sg j (fun j => fa * dg W.1 y0 j * W.2.2 (25 * i + 5 * j + t)))) → VI MX9_times sz Pr (hset h (o + 2) (aI 5 g)) 64 [some (.ref o), some (.int (nI x)), some (.int (nI y)), some (.int (nI rx)), some (.int (nI i)), some (.int (nI fa)), some (.int (nI (y0 / W.1 ^ j))), some (.int (nI j)), none, none] [] := by
  obtain ⟨h0, h1, -, h2⟩ := id hW
  obtain ⟨b1, b2, b3, b4, b5⟩ := hk.b
  intro n
  induction n with
  | zero =>
    intro j hn hjn g hg
    have e : j = W.2.1 := by omega
    subst e
    refine e_iload (pc := 64) dX9_times_64 rfl ?_
    refine e_aload_n (pc := 66) dX9_times_66 rfl rfl ?_
    refine e_get (pc := 67) fl_X9_15 dX9_times_67 (by repeat (first | assumption | exact hset_eq _ _ _ | rw [hset_ne _ _ (by omega)])) (by rfl) ?_
    refine n_icmp_ge (pc := 70) (tgt := 159) dX9_times_70 (by decide) (by omega) (by omega) (fun c => ?_) (fun c => absurd c (by omega))
    refine V.mask [true, true, true, true, true, false, false, false, false, false] ?_
    exact kk g hg
  | succ n ih =>
    intro j hn hjn g hg
    have q1 := Nat.div_le_self y0 (W.1 ^ j)
    have q2 : y0 / W.1 ^ j % W.1 < W.1 := Nat.mod_lt _ (by omega)
    have q3 : fa * (y0 / W.1 ^ j % W.1) ≤ 5 * 5 := Nat.mul_le_mul (by omega) (by omega)
    refine e_iload (pc := 64) dX9_times_64 rfl ?_
    refine e_aload_n (pc := 66) dX9_times_66 rfl rfl ?_
    refine e_get (pc := 67) fl_X9_15 dX9_times_67 (by repeat (first | assumption | exact hset_eq _ _ _ | rw [hset_ne _ _ (by omega)])) (by rfl) ?_
    refine n_icmp_ge (pc := 70) (tgt := 159) dX9_times_70 (by decide) (by omega) (by omega) (fun c => absurd c (by omega)) (fun c => ?_)
    refine e_iload (pc := 73) dX9_times_73 rfl ?_
    refine n_if_eq (pc := 75) (tgt := 159) dX9_times_75 (by decide) (by omega) (fun c => ?_) (fun c => ?_)
    · refine V.mask [true, true, true, true, true, false, false, false, false, false] ?_
      refine kk g (fun t ht => ?_)
      rw [hg t ht, sg_cut (n := W.2.1) (j := j) (by omega) (fun i2 h1 _ => ?_)]
      have z : dg W.1 y0 i2 = 0 := by
        obtain ⟨d, rfl⟩ : ∃ d, i2 = j + d := ⟨i2 - j, by omega⟩
        unfold dg
        rw [Nat.pow_add, ← Nat.div_div_eq_div_mul, c, Nat.zero_div, Nat.zero_mod]
      rw [z]
      simp
    refine e_iload (pc := 78) dX9_times_78 rfl ?_
    refine e_iload (pc := 80) dX9_times_80 rfl ?_
    refine e_aload_n (pc := 82) dX9_times_82 rfl rfl ?_
    refine e_get (pc := 83) fl_X9_9 dX9_times_83 (by repeat (first | assumption | exact hset_eq _ _ _ | rw [hset_ne _ _ (by omega)])) (by rfl) ?_
    refine n_irem (pc := 86) dX9_times_86 (by omega) (by omega) (by omega) ?_
    refine n_imul (pc := 87) dX9_times_87 ?_
    refine e_istore (pc := 88) dX9_times_88 (by decide) ?_
    refine e_iload (pc := 90) dX9_times_90 rfl ?_
    refine e_aload_n (pc := 92) dX9_times_92 rfl rfl ?_
    refine e_get (pc := 93) fl_X9_9 dX9_times_93 (by repeat (first | assumption | exact hset_eq _ _ _ | rw [hset_ne _ _ (by omega)])) (by rfl) ?_
    refine n_idiv (pc := 96) dX9_times_96 (by omega) (by omega) (by omega) ?_
    refine e_istore (pc := 97) dX9_times_97 (by decide) ?_
    refine n_iconst (pc := 99) 0 dX9_times_99 (by decide) ?_
    refine e_istore (pc := 100) dX9_times_100 (by decide) ?_
    refine l_times_k hW hk hi (by omega) (fun t => S t + sg j (fun j => fa * dg W.1 y0 j * W.2.2 (25 * i + 5 * j + t))) (fun g2 hg2 => ?_) (by omega) (W.2.1 - 0) 0 rfl (by omega) g (fun t ht => by simpa using hg t ht)
    refine n_inc (pc := 153) dX9_times_153 rfl (by decide) ?_
    refine e_goto (pc := 156) (tgt := 64) dX9_times_156 (by decide) ?_
    rw [dg_div]
    refine ih (j + 1) (by omega) (by omega) g2 (fun t ht => ?_)
    rw [hg2 t ht]
    show nI (_ + _ + _) = nI (_ + (_ + _))
    rw [Nat.add_assoc]
    rfl
theorem l_times_i (hW : WAt h o W f) (hk : Wok W) {x y : Nat} (hx : x < 3125) (hy : y < 3125)
    (kk : ∀ g, (∀ t, t < W.2.1 → g t = nI (mc W x y t)) → VI MX9_times sz Pr (hset h (o + 2) (aI 5 g)) 165 [some (.ref o), none, none, none, none, none, none, none, none, none] []) :
    ∀ (n i : Nat), n = W.2.1 - i → i ≤ W.2.1 → ∀ g, (∀ t, t < W.2.1 → g t = nI (sg i (fun i => sg W.2.1 (fun j => dg W.1 x i * dg W.1 y j * W.2.2 (25 * i + 5 * j + t))))) → VI MX9_times sz Pr (hset h (o + 2) (aI 5 g)) 25 [some (.ref o), some (.int (nI x)), some (.int (nI y)), some (.int (nI (x / W.1 ^ i))), some (.int (nI i)), none, none, none, none, none] [] := by
  obtain ⟨h0, h1, -, h2⟩ := id hW
  obtain ⟨b1, b2, b3, b4, b5⟩ := hk.b
  intro n
  induction n with
  | zero =>
    intro i hn hin g hg
    have e : i = W.2.1 := by omega
    subst e
    refine e_iload (pc := 25) dX9_times_25 rfl ?_
    refine e_aload_n (pc := 27) dX9_times_27 rfl rfl ?_
    refine e_get (pc := 28) fl_X9_15 dX9_times_28 (by repeat (first | assumption | exact hset_eq _ _ _ | rw [hset_ne _ _ (by omega)])) (by rfl) ?_
    refine n_icmp_ge (pc := 31) (tgt := 165) dX9_times_31 (by decide) (by omega) (by omega) (fun c => ?_) (fun c => absurd c (by omega))
    refine V.mask [true, false, false, false, false, false, false, false, false, false] ?_
    exact kk g hg
  | succ n ih =>
    intro i hn hin g hg
    have q1 := Nat.div_le_self x (W.1 ^ i)
    have q2 : x / W.1 ^ i % W.1 < W.1 := Nat.mod_lt _ (by omega)
    refine e_iload (pc := 25) dX9_times_25 rfl ?_
    refine e_aload_n (pc := 27) dX9_times_27 rfl rfl ?_
    refine e_get (pc := 28) fl_X9_15 dX9_times_28 (by repeat (first | assumption | exact hset_eq _ _ _ | rw [hset_ne _ _ (by omega)])) (by rfl) ?_
    refine n_icmp_ge (pc := 31) (tgt := 165) dX9_times_31 (by decide) (by omega) (by omega) (fun c => absurd c (by omega)) (fun c => ?_)
    refine e_iload_n (pc := 34) dX9_times_34 rfl rfl ?_
    refine e_aload_n (pc := 35) dX9_times_35 rfl rfl ?_
    refine e_get (pc := 36) fl_X9_9 dX9_times_36 (by repeat (first | assumption | exact hset_eq _ _ _ | rw [hset_ne _ _ (by omega)])) (by rfl) ?_
    refine n_irem (pc := 39) dX9_times_39 (by omega) (by omega) (by omega) ?_
    refine e_istore (pc := 40) dX9_times_40 (by decide) ?_
    refine e_iload_n (pc := 42) dX9_times_42 rfl rfl ?_
    refine e_aload_n (pc := 43) dX9_times_43 rfl rfl ?_
    refine e_get (pc := 44) fl_X9_9 dX9_times_44 (by repeat (first | assumption | exact hset_eq _ _ _ | rw [hset_ne _ _ (by omega)])) (by rfl) ?_
    refine n_idiv (pc := 47) dX9_times_47 (by omega) (by omega) (by omega) ?_
    refine e_istore_n (pc := 48) dX9_times_48 rfl (by decide) ?_
    refine e_iload (pc := 49) dX9_times_49 rfl ?_
    refine n_if_ne (pc := 51) (tgt := 58) dX9_times_51 (by decide) (by omega) (fun c => ?_) (fun c => ?_)
    · refine e_iload_n (pc := 58) dX9_times_58 rfl rfl ?_
      refine e_istore (pc := 59) dX9_times_59 (by decide) ?_
      refine n_iconst (pc := 61) 0 dX9_times_61 (by decide) ?_
      refine e_istore (pc := 62) dX9_times_62 (by decide) ?_
      have q := l_times_j (sz := sz) (Pr := Pr) (x := x) (y := y) (rx := x / W.1 ^ i / W.1) hW hk (i := i) (fa := x / W.1 ^ i % W.1) (y0 := y) (by omega) q2 hy (fun t => sg i (fun i => sg W.2.1 (fun j => dg W.1 x i * dg W.1 y j * W.2.2 (25 * i + 5 * j + t)))) (fun g2 hg2 => ?_) (W.2.1 - 0) 0 rfl (by omega) g (fun t ht => by simpa [sg] using hg t ht)
      · rw [Nat.pow_zero, Nat.div_one] at q
        exact q
      refine n_inc (pc := 159) dX9_times_159 rfl (by decide) ?_
      refine e_goto (pc := 162) (tgt := 25) dX9_times_162 (by decide) ?_
      rw [dg_div]
      exact ih (i + 1) (by omega) (by omega) g2 hg2
    · refine n_iconst (pc := 54) 0 dX9_times_54 (by decide) ?_
      refine e_goto (pc := 55) (tgt := 59) dX9_times_55 (by decide) ?_
      refine e_istore (pc := 59) dX9_times_59 (by decide) ?_
      refine n_iconst (pc := 61) 0 dX9_times_61 (by decide) ?_
      refine e_istore (pc := 62) dX9_times_62 (by decide) ?_
      have q := l_times_j (sz := sz) (Pr := Pr) (x := x) (y := y) (rx := x / W.1 ^ i / W.1) hW hk (i := i) (fa := x / W.1 ^ i % W.1) (y0 := 0) (by omega) q2 (by omega) (fun t => sg i (fun i => sg W.2.1 (fun j => dg W.1 x i * dg W.1 y j * W.2.2 (25 * i + 5 * j + t)))) (fun g2 hg2 => ?_) (W.2.1 - 0) 0 rfl (by omega) g (fun t ht => by simpa [sg] using hg t ht)
      · rw [Nat.zero_div] at q
        exact q
      refine n_inc (pc := 159) dX9_times_159 rfl (by decide) ?_
      refine e_goto (pc := 162) (tgt := 25) dX9_times_162 (by decide) ?_
      rw [dg_div]
      refine ih (i + 1) (by omega) (by omega) g2 (fun t ht => ?_)
      rw [hg2 t ht]
      show nI (_ + _) = nI (_ + _)
      congr 2
      refine sg_congr (fun j hj => ?_)
      have e1 : dg W.1 x i = 0 := c
      rw [c, e1]
      simp
theorem l_times_h (hW : WAt h o W f) (hk : Wok W) (S : Nat → Nat) (hS : ∀ t, t < W.2.1 → S t < 2 ^ 31) {g : Nat → Int32} (hg : ∀ t, t < W.2.1 → g t = nI (S t)) (hq : Pr (nI (num W.1 W.2.1 (fun k => S k % W.1))) (hset h (o + 2) (aI 5 g))) :
    ∀ (j : Nat), j ≤ W.2.1 → VI MX9_times sz Pr (hset h (o + 2) (aI 5 g)) 176 [some (.ref o), none, none, none, some (.int (nI (num W.1 (W.2.1 - j) (fun t => S (j + t) % W.1)))), some (.int (nI j - 1)), none, none, none, none] [] := by
  obtain ⟨h0, h1, -, h2⟩ := id hW
  obtain ⟨b1, b2, b3, b4, b5⟩ := hk.b
  intro j
  induction j with
  | zero =>
    intro hj
    refine e_iload (pc := 176) dX9_times_176 rfl ?_
    refine e_if_lt (pc := 178) (tgt := 209) dX9_times_178 (by decide) (fun c => ?_) (fun c => absurd (by decide) c)
    refine e_iload (pc := 209) dX9_times_209 rfl ?_
    refine n_iret (pc := 211) dX9_times_211 rfl ?_
    rw [Nat.sub_zero]
    simpa using hq
  | succ j ih =>
    intro hj
    have hgj := hg j (by omega)
    have hSj := hS j (by omega)
    rw [nI_pred]
    refine e_iload (pc := 176) dX9_times_176 rfl ?_
    refine n_if_lt (pc := 178) (tgt := 209) dX9_times_178 (by omega) ?_ (by decide)
    refine e_iload (pc := 181) dX9_times_181 rfl ?_
    refine e_aload_n (pc := 183) dX9_times_183 rfl rfl ?_
    refine e_get (pc := 184) fl_X9_9 dX9_times_184 (by repeat (first | assumption | exact hset_eq _ _ _ | rw [hset_ne _ _ (by omega)])) (by rfl) ?_
    refine n_imul (pc := 187) dX9_times_187 ?_
    refine e_aload_n (pc := 188) dX9_times_188 rfl rfl ?_
    refine e_get (pc := 189) fl_X9_28 dX9_times_189 (by repeat (first | assumption | exact hset_eq _ _ _ | rw [hset_ne _ _ (by omega)])) (by rfl) ?_
    refine e_iload (pc := 192) dX9_times_192 rfl ?_
    refine e_ialdN (pc := 194) _ dX9_times_194 (by repeat (first | assumption | exact hset_eq _ _ _ | rw [hset_ne _ _ (by omega)])) (by rfl) (by omega) (by first | decide | omega) ?_
    rw [hgj]
    refine e_aload_n (pc := 195) dX9_times_195 rfl rfl ?_
    refine e_get (pc := 196) fl_X9_9 dX9_times_196 (by repeat (first | assumption | exact hset_eq _ _ _ | rw [hset_ne _ _ (by omega)])) (by rfl) ?_
    refine n_irem (pc := 199) dX9_times_199 (by omega) (by omega) (by omega) ?_
    refine n_iadd (pc := 200) dX9_times_200 ?_
    refine e_istore (pc := 201) dX9_times_201 (by decide) ?_
    refine n_decS (pc := 203) dX9_times_203 rfl (by decide) ?_
    refine e_goto (pc := 206) (tgt := 176) dX9_times_206 (by decide) ?_
    have e : num W.1 (W.2.1 - (j + 1)) (fun t => S (j + 1 + t) % W.1) * W.1 + S j % W.1 = num W.1 (W.2.1 - j) (fun t => S (j + t) % W.1) := by
      rw [show W.2.1 - j = (W.2.1 - (j + 1)) + 1 by omega, num_shift, Nat.add_comm, Nat.mul_comm]
      congr 2
      refine num_congr (fun t _ => ?_)
      show S (j + 1 + t) % _ = S (j + (t + 1)) % _
      rw [show j + 1 + t = j + (t + 1) by omega]
    rw [e]
    exact ih (by omega)
theorem c_X9_times (hW : WAt h o W f) (hk : Wok W) {x y : Nat} (hx : x < 3125) (hy : y < 3125) : CI yX9_times MX9_times [.ref o, .int (nI x), .int (nI y)] h (fun r h' => r = nI (mul W x y) ∧ ∃ g, h' = hset h (o + 2) (aI 5 g)) := by
  obtain ⟨h0, h1, ⟨g0, h2⟩⟩ := id hW
  obtain ⟨b1, b2, b3, b4, b5⟩ := hk.b
  refine CI.ofV (by decide) rfl rfl (by simp [Value.category]) (by exact Nat.le_of_ble_eq_true rfl) (fun sz => ?_)
  refine n_iconst (pc := 0) 0 dX9_times_0 (by decide) ?_
  refine e_istore_n (pc := 1) dX9_times_1 rfl (by decide) ?_
  refine e_heap (hset_self h2).symm ?_
  refine l_times_z hW x y (fun g hg => ?_) 5 0 rfl (by omega) g0 (fun t ht => absurd ht (Nat.not_lt_zero _))
  refine e_iload_n (pc := 20) dX9_times_20 rfl rfl ?_
  refine e_istore_n (pc := 21) dX9_times_21 rfl (by decide) ?_
  refine n_iconst (pc := 22) 0 dX9_times_22 (by decide) ?_
  refine e_istore (pc := 23) dX9_times_23 (by decide) ?_
  have q := l_times_i (sz := sz) (Pr := fun r h' => r = nI (mul W x y) ∧ ∃ g, h' = hset h (o + 2) (aI 5 g)) hW hk hx hy (fun g2 hg2 => ?_) (W.2.1 - 0) 0 rfl (by omega) g (fun t ht => hg t (by omega))
  · rw [Nat.pow_zero, Nat.div_one] at q
    exact q
  refine n_iconst (pc := 165) 0 dX9_times_165 (by decide) ?_
  refine e_istore (pc := 166) dX9_times_166 (by decide) ?_
  refine e_aload_n (pc := 168) dX9_times_168 rfl rfl ?_
  refine e_get (pc := 169) fl_X9_15 dX9_times_169 (by repeat (first | assumption | exact hset_eq _ _ _ | rw [hset_ne _ _ (by omega)])) (by rfl) ?_
  refine n_iconst (pc := 172) 1 dX9_times_172 (by decide) ?_
  refine e_isub (pc := 173) dX9_times_173 ?_
  refine e_istore (pc := 174) dX9_times_174 (by decide) ?_
  have q := l_times_h (sz := sz) (Pr := fun r h' => r = nI (mul W x y) ∧ ∃ g, h' = hset h (o + 2) (aI 5 g)) hW hk (fun t => mc W x y t) (fun t _ => by have := mc_le hk x y t; omega) hg2 ⟨rfl, g2, rfl⟩ W.2.1 (Nat.le_refl _)
  rw [Nat.sub_self] at q
  exact q
end WT
