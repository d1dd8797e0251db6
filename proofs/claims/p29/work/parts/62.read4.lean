/-! ===== Reader: fields ===== -/
section R4
variable {h : AH} {R len : Nat} {f : Nat → Nat} {ft fp sm hf : Int32} {W F : Wd} {p n : Nat} {cs : Nat → Nat}
/-- the cube of polynomials, filled up to a place -/
def wpo (W : Wd) (cs : Nat → Nat) (d m : Nat) : Wd := (W.1, W.2.1, fun t => if inC W.2.1 t ∧ (t / 25 + t / 5 % 5 < d ∨ t / 25 + t / 5 % 5 = d ∧ t / 25 < m) then dg W.1 (pwr W.1 W.2.1 cs (t / 25 + t / 5 % 5)) (t % 5) else W.2.2 t)
theorem wpo_0 : wpo W cs 0 0 = W := by
  unfold wpo
  refine congrArg (fun z => (W.1, W.2.1, z)) (funext fun t => ?_)
  exact if_neg (fun q => by omega)
theorem wpo_ok (hk : Wok W) (d m : Nat) : Wok (wpo W cs d m) := by
  obtain ⟨h1, h2, h3, h4, h5⟩ := hk
  have hp : 0 < W.1 := by rcases h1 with h | h | h <;> omega
  refine ⟨h1, h2, h3, h4, fun t => ?_⟩
  show (if inC W.2.1 t ∧ (t / 25 + t / 5 % 5 < d ∨ t / 25 + t / 5 % 5 = d ∧ t / 25 < m) then dg W.1 (pwr W.1 W.2.1 cs (t / 25 + t / 5 % 5)) (t % 5) else W.2.2 t) < W.1 ∧ (¬ inC W.2.1 t → (if inC W.2.1 t ∧ (t / 25 + t / 5 % 5 < d ∨ t / 25 + t / 5 % 5 = d ∧ t / 25 < m) then dg W.1 (pwr W.1 W.2.1 cs (t / 25 + t / 5 % 5)) (t % 5) else W.2.2 t) = 0)
  by_cases e : inC W.2.1 t ∧ (t / 25 + t / 5 % 5 < d ∨ t / 25 + t / 5 % 5 = d ∧ t / 25 < m)
  · rw [if_pos e]; exact ⟨dg_lt hp _ _, fun q => absurd e.1 q⟩
  · rw [if_neg e]; exact h5 t
theorem wpo_s (hn : W.2.1 ≤ 5) {d i : Nat} (hi : i < W.2.1) (hid : i ≤ d) (hj : d - i < W.2.1) : wrow (wpo W cs d i) i (d - i) W.2.1 (pwr W.1 W.2.1 cs d) = wpo W cs d (i + 1) := by
  unfold wrow wpo
  refine congrArg (fun z => (W.1, W.2.1, z)) (funext fun t => ?_)
  show (if 25 * i + 5 * (d - i) ≤ t ∧ t < 25 * i + 5 * (d - i) + W.2.1 then dg W.1 (pwr W.1 W.2.1 cs d) (t - (25 * i + 5 * (d - i))) else if inC W.2.1 t ∧ (t / 25 + t / 5 % 5 < d ∨ t / 25 + t / 5 % 5 = d ∧ t / 25 < i) then dg W.1 (pwr W.1 W.2.1 cs (t / 25 + t / 5 % 5)) (t % 5) else W.2.2 t) = if inC W.2.1 t ∧ (t / 25 + t / 5 % 5 < d ∨ t / 25 + t / 5 % 5 = d ∧ t / 25 < i + 1) then dg W.1 (pwr W.1 W.2.1 cs (t / 25 + t / 5 % 5)) (t % 5) else W.2.2 t
  by_cases c : 25 * i + 5 * (d - i) ≤ t ∧ t < 25 * i + 5 * (d - i) + W.2.1
  · have e1 : t / 25 = i := by omega
    have e2 : t / 5 % 5 = d - i := by omega
    have e3 : t % 5 = t - (25 * i + 5 * (d - i)) := by omega
    rw [if_pos c, if_pos ⟨⟨by omega, by omega, by omega, by omega⟩, by omega⟩, e3, e1, e2, show i + (d - i) = d by omega]
  · rw [if_neg c]
    by_cases e : inC W.2.1 t ∧ (t / 25 + t / 5 % 5 < d ∨ t / 25 + t / 5 % 5 = d ∧ t / 25 < i)
    · rw [if_pos e, if_pos ⟨e.1, by omega⟩]
    · rw [if_neg e, if_neg (fun q => e ⟨q.1, by obtain ⟨⟨q1, q2, q3, q4⟩, q5⟩ := q; omega⟩)]
theorem wpo_next {d m m2 : Nat} (hm : W.2.1 ≤ m ∨ d < m) (hm2 : m2 = d + 2 - W.2.1) : wpo W cs d m = wpo W cs (d + 1) m2 := by
  unfold wpo
  refine congrArg (fun z => (W.1, W.2.1, z)) (funext fun t => ?_)
  by_cases e : inC W.2.1 t ∧ (t / 25 + t / 5 % 5 < d ∨ t / 25 + t / 5 % 5 = d ∧ t / 25 < m)
  · rw [if_pos e, if_pos ⟨e.1, by omega⟩]
  · rw [if_neg e, if_neg (fun q => e ⟨q.1, by obtain ⟨⟨q1, q2, q3, q4⟩, q5⟩ := q; omega⟩)]
theorem wpo_all {m : Nat} (hk : Wok W) : wpo W cs (2 * W.2.1 - 1) m = polyW W.1 W.2.1 cs := by
  unfold wpo polyW
  refine congrArg (fun z => (W.1, W.2.1, z)) (funext fun t => ?_)
  by_cases e : inC W.2.1 t
  · rw [if_pos ⟨e, by obtain ⟨q1, q2, q3, q4⟩ := e; omega⟩, if_pos e]
  · rw [if_neg (fun q => e q.1), if_neg e]
    exact (hk.2.2.2.2 t).2 e
/-- the next power -/
theorem pwr_next (hc : canBe p n) {x : Nat} (hx : x < p ^ n) (hcs : ∀ k, k < n → cs k < p) : ad p ((x - x / p ^ (n - 1) * p ^ (n - 1)) * p) (mf p (x / p ^ (n - 1)) (num p n cs)) = stp p n cs x := by
  obtain ⟨h1, h5, n0, n5, -⟩ := cb_b hc
  have h0 : 0 < p := by omega
  have e1 : x - x / p ^ (n - 1) * p ^ (n - 1) = x % p ^ (n - 1) := by
    exact Nat.sub_eq_of_eq_add (Nat.mod_add_div' x _).symm
  have e2 : x / p ^ (n - 1) = dg p x (n - 1) := by
    unfold dg
    refine (Nat.mod_eq_of_lt ?_).symm
    rw [Nat.div_lt_iff_lt_mul (Nat.pow_pos h0), Nat.mul_comm, ← Nat.pow_succ, show (n - 1).succ = n by omega]
    exact hx
  have l1 : x % p ^ (n - 1) * p < p ^ n := by
    have := Nat.mod_lt x (show 0 < p ^ (n - 1) from Nat.pow_pos h0)
    have e : p ^ (n - 1) * p = p ^ n := by rw [← Nat.pow_succ, show (n - 1).succ = n by omega]
    rw [← e]
    exact Nat.mul_lt_mul_of_pos_right this h0
  rw [e1, e2]
  refine num_ext (p := p) (n := n) (ad_lt h0 n5 l1 (mf_lt h0 n5 (num_lt (fun k hk => hcs k hk)))) (stp_lt h0 x) (fun k hk => ?_)
  rw [ad_dg h0 (by omega), mf_dg h0 (by omega), dg_num h0 hk (fun k hk => hcs k hk), stp_dg h0 hk, Nat.add_mod_mod]
  have e3 : dg p (x % p ^ (n - 1) * p) k = if k = 0 then 0 else dg p x (k - 1) := by
    by_cases c : k = 0
    · rw [if_pos c, c]
      unfold dg
      rw [Nat.pow_zero, Nat.div_one, Nat.mul_mod_left]
    · rw [if_neg c]
      unfold dg
      have e4 : p ^ k = p ^ (k - 1) * p := by rw [← Nat.pow_succ, show (k - 1).succ = k by omega]
      rw [e4, Nat.mul_div_mul_right _ _ h0]
      have e5 : p ^ (n - 1) = p ^ (k - 1) * p ^ (n - k) := by rw [← Nat.pow_add, show k - 1 + (n - k) = n - 1 by omega]
      rw [e5, Nat.mod_mul_right_div_self]
      have e6 : p ^ (n - k) = p * p ^ (n - k - 1) := by rw [Nat.mul_comm, ← Nat.pow_succ, show (n - k - 1).succ = n - k by omega]
      rw [e6, Nat.mod_mul_right_mod]
  rw [e3]
theorem mx_small : ∀ d, d < 9 → ∀ n, n < 6 → (if (0 : Int32) < nI d - nI n + nI 1 then nI d - nI n + nI 1 else 0) = nI (d + 1 - n) := by decide
section FPO
variable {sz : Nat} {hh : AH} {Pr : AH → Prop} {pl kd st0 v0 : Int32}
theorem l_fp1 {g : Nat → Int32} (hk : Wok W) (hH : RdH h R (nI len) pl kd st0 v0 ft fp sm hf) (hW : WAt h (R + 2) W (-2)) (h11 : h (R + 11) = some (aI 5 g)) (hg : ∀ k, k < W.2.1 → g k = nI (cs k) ∧ cs k < W.1)
    (kk : VV MX4_fillPolynomials sz Pr h 53 [some (.ref R), some (.int (nI W.2.1)), some (.int (nI W.1)), some (.int (nI (num W.1 W.2.1 cs))), none, none, none, none] []) :
    ∀ (m i : Nat), m = W.2.1 - i → i ≤ W.2.1 → VV MX4_fillPolynomials sz Pr h 21 [some (.ref R), some (.int (nI W.2.1)), some (.int (nI W.1)), some (.int (nI (num W.1 i cs))), some (.int (nI i)), none, none, none] [] := by
  obtain ⟨b1, b2, b3, b4, b5⟩ := hk.b
  intro m
  induction m with
  | zero =>
    intro i e1 e2
    have e' : i = W.2.1 := by omega
    subst e'
    refine e_iload (pc := 21) dX4_fillPolynomials_21 rfl ?_
    refine e_iload_n (pc := 23) dX4_fillPolynomials_23 rfl rfl ?_
    refine n_icmp_ge (pc := 24) (tgt := 53) dX4_fillPolynomials_24 (by decide) (by omega) (by omega) (fun hb_ => ?_) (fun c => absurd c (by omega))
    refine V.mask [true, true, true, true, false, false, false, false] ?_
    exact kk
  | succ m ih =>
    intro i e1 e2
    obtain ⟨g1, g2⟩ := hg i (by omega)
    refine e_iload (pc := 21) dX4_fillPolynomials_21 rfl ?_
    refine e_iload_n (pc := 23) dX4_fillPolynomials_23 rfl rfl ?_
    refine n_icmp_ge (pc := 24) (tgt := 53) dX4_fillPolynomials_24 (by decide) (by omega) (by omega) (fun c => absurd c (by omega)) (fun hb_ => ?_)
    refine e_iload_n (pc := 27) dX4_fillPolynomials_27 rfl rfl ?_
    refine e_aload_n (pc := 28) dX4_fillPolynomials_28 rfl rfl ?_
    refine e_get (pc := 29) fl_X4_57 dX4_fillPolynomials_29 (by repeat (first | assumption | exact hset_eq _ _ _ | (apply WAt.hd; assumption) | rw [hset_ne _ _ (by omega)])) (by rfl) ?_
    refine e_iload (pc := 32) dX4_fillPolynomials_32 rfl ?_
    refine e_ialdN (pc := 34) i dX4_fillPolynomials_34 (by repeat (first | assumption | exact hset_eq _ _ _ | (apply WAt.hd; assumption) | rw [hset_ne _ _ (by omega)])) (by rfl) (by omega) (by first | decide | omega) ?_
    rw [g1]
    refine e_aload_n (pc := 35) dX4_fillPolynomials_35 rfl rfl ?_
    refine e_get (pc := 36) fl_X4_47 dX4_fillPolynomials_36 (by repeat (first | assumption | exact hset_eq _ _ _ | (apply WAt.hd; assumption) | rw [hset_ne _ _ (by omega)])) (by rfl) ?_
    refine e_iload (pc := 39) dX4_fillPolynomials_39 rfl ?_
    refine n_VP (pc := 41) (c_X9_base hW hk (show i ≤ 5 by omega)) bX9_base q_i_X9_base q_s_X9_base q_m_X4_136 dX4_fillPolynomials_41 rfl rfl (by repeat (first | assumption | exact hset_eq _ _ _ | (apply WAt.hd; assumption) | rw [hset_ne _ _ (by omega)])) rfl rfl (by exact Nat.le_of_ble_eq_true rfl) ⟨by decide, by decide⟩ ⟨rfl, rfl, Nat.zero_le _, Nat.zero_le _⟩ ?_
    refine n_imul (pc := 44) dX4_fillPolynomials_44 ?_
    refine n_iadd (pc := 45) dX4_fillPolynomials_45 ?_
    refine e_istore_n (pc := 46) dX4_fillPolynomials_46 rfl (by decide) ?_
    refine n_inc (pc := 47) dX4_fillPolynomials_47 rfl (by decide) ?_
    refine e_goto (pc := 50) (tgt := 21) dX4_fillPolynomials_50 (by decide) ?_
    exact ih (i + 1) (by omega) (by omega)
theorem l_fpo_i {d : Nat} (hk : Wok W) (hd : d ≤ 2 * W.2.1 - 2) (hcb : canBe W.1 W.2.1) (hH : RdH hh R (nI len) pl kd st0 v0 ft fp sm hf)
    (kk : ∀ h1 m, (W.2.1 ≤ m ∨ d < m) → WAt h1 (R + 2) (wpo W cs d m) (-2) → Ew (R + 2) hh h1 → VV MX4_fillPolynomials sz Pr h1 128 [some (.ref R), some (.int (nI W.2.1)), some (.int (nI W.1)), some (.int (nI (num W.1 W.2.1 cs))), some (.int (nI (pwr W.1 W.2.1 cs d))), some (.int (nI (W.1 ^ (W.2.1 - 1)))), some (.int (nI d)), none] []) :
    ∀ (m i : Nat), m = W.2.1 - i → i ≤ W.2.1 → d + 1 - W.2.1 ≤ i → ∀ h1, WAt h1 (R + 2) (wpo W cs d i) (-2) → Ew (R + 2) hh h1 → VV MX4_fillPolynomials sz Pr h1 93 [some (.ref R), some (.int (nI W.2.1)), some (.int (nI W.1)), some (.int (nI (num W.1 W.2.1 cs))), some (.int (nI (pwr W.1 W.2.1 cs d))), some (.int (nI (W.1 ^ (W.2.1 - 1)))), some (.int (nI d)), some (.int (nI i))] [] := by
  obtain ⟨b1, b2, b3, b4, b5⟩ := hk.b
  have pl := pwr_lt (p := W.1) (n := W.2.1) (cs := cs) (by omega) (by omega) d
  intro m
  induction m with
  | zero =>
    intro i e1 e2 e3 h1 hW hE
    refine e_iload (pc := 93) dX4_fillPolynomials_93 rfl ?_
    refine e_iload (pc := 95) dX4_fillPolynomials_95 rfl ?_
    refine n_icmp_gt (pc := 97) (tgt := 128) dX4_fillPolynomials_97 (by decide) (by omega) (by omega) (fun c => ?_) (fun c => ?_)
    · refine V.mask [true, true, true, true, true, true, true, false] ?_
      exact kk h1 i (Or.inr c) hW hE
    · refine e_iload (pc := 100) dX4_fillPolynomials_100 rfl ?_
      refine e_iload_n (pc := 102) dX4_fillPolynomials_102 rfl rfl ?_
      refine n_icmp_ge (pc := 103) (tgt := 128) dX4_fillPolynomials_103 (by decide) (by omega) (by omega) (fun hb_ => ?_) (fun c => absurd c (by omega))
      refine V.mask [true, true, true, true, true, true, true, false] ?_
      exact kk h1 i (Or.inl (by omega)) hW hE
  | succ m ih =>
    intro i e1 e2 e3 h1 hW hE
    have hH1 := (hE R (by omega) (by omega) (by omega)).trans hH
    refine e_iload (pc := 93) dX4_fillPolynomials_93 rfl ?_
    refine e_iload (pc := 95) dX4_fillPolynomials_95 rfl ?_
    refine n_icmp_gt (pc := 97) (tgt := 128) dX4_fillPolynomials_97 (by decide) (by omega) (by omega) (fun c => ?_) (fun c => ?_)
    · refine V.mask [true, true, true, true, true, true, true, false] ?_
      exact kk h1 i (Or.inr c) hW hE
    · refine e_iload (pc := 100) dX4_fillPolynomials_100 rfl ?_
      refine e_iload_n (pc := 102) dX4_fillPolynomials_102 rfl rfl ?_
      refine n_icmp_ge (pc := 103) (tgt := 128) dX4_fillPolynomials_103 (by decide) (by omega) (by omega) (fun c => absurd c (by omega)) (fun hb_ => ?_)
      refine e_aload_n (pc := 106) dX4_fillPolynomials_106 rfl rfl ?_
      refine e_get (pc := 107) fl_X4_47 dX4_fillPolynomials_107 (by repeat (first | assumption | exact hset_eq _ _ _ | (apply WAt.hd; assumption) | rw [hset_ne _ _ (by omega)])) (by rfl) ?_
      refine e_iload (pc := 110) dX4_fillPolynomials_110 rfl ?_
      refine e_iload (pc := 112) dX4_fillPolynomials_112 rfl ?_
      refine e_iload (pc := 114) dX4_fillPolynomials_114 rfl ?_
      refine n_isub (pc := 116) dX4_fillPolynomials_116 (by omega) ?_
      refine e_iload (pc := 117) dX4_fillPolynomials_117 rfl ?_
      refine n_Vv (pc := 119) (c_X9_putRow (W := wpo W cs d i) hW (wpo_ok hk d i) (show i < W.2.1 by omega) (show d - i < W.2.1 by omega) (show pwr W.1 W.2.1 cs d < 3125 by omega)) bX9_putRow q_i_X9_putRow q_s_X9_putRow q_m_X4_146 dX4_fillPolynomials_119 rfl rfl (by repeat (first | assumption | exact hset_eq _ _ _ | (apply WAt.hd; assumption) | rw [hset_ne _ _ (by omega)])) rfl rfl (by exact Nat.le_of_ble_eq_true rfl) ⟨by decide, by decide⟩ ⟨rfl, rfl, Nat.zero_le _, Nat.zero_le _⟩ (fun h2 hp => ?_)
      obtain ⟨p1, p2⟩ := hp
      have p1 : WAt h2 (R + 2) (wpo W cs d (i + 1)) (-2) := by
        rw [← wpo_s b4 (show i < W.2.1 by omega) (show i ≤ d by omega) (show d - i < W.2.1 by omega)]
        exact p1
      refine n_inc (pc := 122) dX4_fillPolynomials_122 rfl (by decide) ?_
      refine e_goto (pc := 125) (tgt := 93) dX4_fillPolynomials_125 (by decide) ?_
      exact ih (i + 1) (by omega) (by omega) (by omega) h2 p1 (hE.tr p2)
theorem l_fp_d (hk : Wok W) (hcb : canBe W.1 W.2.1) (hH : RdH hh R (nI len) pl kd st0 v0 ft fp sm hf) (hcs : ∀ k, k < W.2.1 → cs k < W.1) :
    ∀ (m d : Nat), m = 2 * W.2.1 - 1 - d → d ≤ 2 * W.2.1 - 1 → ∀ h1, WAt h1 (R + 2) (wpo W cs d (d + 1 - W.2.1)) (-2) → Ew (R + 2) hh h1 → VV MX4_fillPolynomials sz (fun h' => WAt h' (R + 2) (polyW W.1 W.2.1 cs) (-2) ∧ Ew (R + 2) hh h') h1 71 [some (.ref R), some (.int (nI W.2.1)), some (.int (nI W.1)), some (.int (nI (num W.1 W.2.1 cs))), some (.int (nI (pwr W.1 W.2.1 cs d))), some (.int (nI (W.1 ^ (W.2.1 - 1)))), some (.int (nI d)), none] [] := by
  obtain ⟨b1, b2, b3, b4, b5⟩ := hk.b
  have pp0 : 0 < W.1 ^ (W.2.1 - 1) := Nat.pow_pos (by omega)
  have ppl : W.1 ^ (W.2.1 - 1) ≤ W.1 ^ W.2.1 := Nat.pow_le_pow_right (by omega) (by omega)
  have rl : num W.1 W.2.1 cs < W.1 ^ W.2.1 := num_lt (fun k hk => hcs k hk)
  have p5 : W.1 ^ W.2.1 ≤ W.1 ^ 5 := Nat.pow_le_pow_right (by omega) b4
  intro m
  induction m with
  | zero =>
    intro d e1 e2 h1 hW hE
    have e' : d = 2 * W.2.1 - 1 := by omega
    refine e_iload (pc := 71) dX4_fillPolynomials_71 rfl ?_
    refine n_iconst (pc := 73) 2 dX4_fillPolynomials_73 (by decide) ?_
    refine e_iload_n (pc := 74) dX4_fillPolynomials_74 rfl rfl ?_
    refine n_imul (pc := 75) dX4_fillPolynomials_75 ?_
    refine n_iconst (pc := 76) 2 dX4_fillPolynomials_76 (by decide) ?_
    refine n_isub (pc := 77) dX4_fillPolynomials_77 (by omega) ?_
    refine n_icmp_gt (pc := 78) (tgt := 174) dX4_fillPolynomials_78 (by decide) (by omega) (by omega) (fun hb_ => ?_) (fun c => absurd c (by omega))
    refine n_vret (pc := 174) dX4_fillPolynomials_174 rfl ⟨?_, hE⟩
    rw [e', wpo_all hk] at hW
    exact hW
  | succ m ih =>
    intro d e1 e2 h1 hW hE
    have hd : d ≤ 2 * W.2.1 - 2 := by omega
    have pl := pwr_lt (p := W.1) (n := W.2.1) (cs := cs) (by omega) (by omega) d
    refine e_iload (pc := 71) dX4_fillPolynomials_71 rfl ?_
    refine n_iconst (pc := 73) 2 dX4_fillPolynomials_73 (by decide) ?_
    refine e_iload_n (pc := 74) dX4_fillPolynomials_74 rfl rfl ?_
    refine n_imul (pc := 75) dX4_fillPolynomials_75 ?_
    refine n_iconst (pc := 76) 2 dX4_fillPolynomials_76 (by decide) ?_
    refine n_isub (pc := 77) dX4_fillPolynomials_77 (by omega) ?_
    refine n_icmp_gt (pc := 78) (tgt := 174) dX4_fillPolynomials_78 (by decide) (by omega) (by omega) (fun c => absurd c (by omega)) (fun hb_ => ?_)
    refine n_iconst (pc := 81) 0 dX4_fillPolynomials_81 (by decide) ?_
    refine e_iload (pc := 82) dX4_fillPolynomials_82 rfl ?_
    refine e_iload_n (pc := 84) dX4_fillPolynomials_84 rfl rfl ?_
    refine e_isub (pc := 85) dX4_fillPolynomials_85 ?_
    refine n_iconst (pc := 86) 1 dX4_fillPolynomials_86 (by decide) ?_
    refine e_iadd (pc := 87) dX4_fillPolynomials_87 ?_
    refine e_mmax (pc := 88) q_m_X4_140 dX4_fillPolynomials_88 (by decide) (by exact Nat.le_of_ble_eq_true rfl) ⟨Nat.zero_le _, Nat.zero_le _⟩ ?_
    refine e_top (mx_small d (by omega) W.2.1 (by omega)) ?_
    refine e_istore (pc := 91) dX4_fillPolynomials_91 (by decide) ?_
    refine l_fpo_i (hh := hh) hk hd hcb hH (fun h2 m2 hm W2 E2 => ?_) _ _ rfl (by omega) (Nat.le_refl _) h1 hW hE
    refine e_iload (pc := 128) dX4_fillPolynomials_128 rfl ?_
    refine n_iconst (pc := 130) 1 dX4_fillPolynomials_130 (by decide) ?_
    refine n_icmp_ge (pc := 131) (tgt := 138) dX4_fillPolynomials_131 (by decide) (by omega) (by omega) (fun hb_ => ?_) (fun c => absurd c (by omega))
    have ovt : pwr W.1 W.2.1 cs d / W.1 ^ (W.2.1 - 1) * W.1 ^ (W.2.1 - 1) ≤ pwr W.1 W.2.1 cs d := Nat.div_mul_le_self _ _
    refine e_iload (pc := 138) dX4_fillPolynomials_138 rfl ?_
    refine e_iload (pc := 140) dX4_fillPolynomials_140 rfl ?_
    refine n_idiv (pc := 142) dX4_fillPolynomials_142 (by omega) (by omega) (by omega) ?_
    refine e_istore (pc := 143) dX4_fillPolynomials_143 (by decide) ?_
    refine e_iload_n (pc := 145) dX4_fillPolynomials_145 rfl rfl ?_
    refine e_iload (pc := 146) dX4_fillPolynomials_146 rfl ?_
    refine e_iload (pc := 148) dX4_fillPolynomials_148 rfl ?_
    refine e_iload (pc := 150) dX4_fillPolynomials_150 rfl ?_
    refine n_imul (pc := 152) dX4_fillPolynomials_152 ?_
    refine n_isub (pc := 153) dX4_fillPolynomials_153 (by omega) ?_
    refine e_iload_n (pc := 154) dX4_fillPolynomials_154 rfl rfl ?_
    refine n_imul (pc := 155) dX4_fillPolynomials_155 ?_
    refine e_iload_n (pc := 156) dX4_fillPolynomials_156 rfl rfl ?_
    refine e_iload (pc := 157) dX4_fillPolynomials_157 rfl ?_
    refine e_iload_n (pc := 159) dX4_fillPolynomials_159 rfl rfl ?_
    have ov : pwr W.1 W.2.1 cs d / W.1 ^ (W.2.1 - 1) ≤ pwr W.1 W.2.1 cs d := Nat.div_le_self _ _
    refine n_SP (pc := 160) (c_X8_manifold b1 b2 (show pwr W.1 W.2.1 cs d / W.1 ^ (W.2.1 - 1) ≤ 3125 by omega) (show num W.1 W.2.1 cs < W.1 ^ 5 by omega)) bX8_manifold q_st_X8_manifold q_m_X4_150 dX4_fillPolynomials_160 rfl rfl (by exact Nat.le_of_ble_eq_true rfl) ⟨by decide, by decide⟩ ⟨rfl, rfl, Nat.zero_le _, Nat.zero_le _⟩ ?_
    have x5 : (pwr W.1 W.2.1 cs d - pwr W.1 W.2.1 cs d / W.1 ^ (W.2.1 - 1) * W.1 ^ (W.2.1 - 1)) * W.1 < W.1 ^ 5 := by
      have e : pwr W.1 W.2.1 cs d - pwr W.1 W.2.1 cs d / W.1 ^ (W.2.1 - 1) * W.1 ^ (W.2.1 - 1) = pwr W.1 W.2.1 cs d % W.1 ^ (W.2.1 - 1) := by
        exact Nat.sub_eq_of_eq_add (Nat.mod_add_div' _ _).symm
      rw [e]
      have l1 := Nat.mod_lt (pwr W.1 W.2.1 cs d) pp0
      have l2 : pwr W.1 W.2.1 cs d % W.1 ^ (W.2.1 - 1) * W.1 < W.1 ^ (W.2.1 - 1) * W.1 := Nat.mul_lt_mul_of_pos_right l1 (by omega)
      rw [← Nat.pow_succ, show (W.2.1 - 1).succ = W.2.1 by omega] at l2
      omega
    have mfl : mf W.1 (pwr W.1 W.2.1 cs d / W.1 ^ (W.2.1 - 1)) (num W.1 W.2.1 cs) < W.1 ^ 5 := mf_lt (by omega) (Nat.le_refl 5) (by omega)
    refine n_SP (pc := 163) (c_X8_plus b1 b2 x5 mfl) bX8_plus q_st_X8_plus q_m_X4_154 dX4_fillPolynomials_163 rfl rfl (by exact Nat.le_of_ble_eq_true rfl) ⟨by decide, by decide⟩ ⟨rfl, rfl, Nat.zero_le _, Nat.zero_le _⟩ ?_
    rw [pwr_next hcb pl hcs]
    refine e_istore (pc := 166) dX4_fillPolynomials_166 (by decide) ?_
    refine n_inc (pc := 168) dX4_fillPolynomials_168 rfl (by decide) ?_
    refine e_goto (pc := 171) (tgt := 71) dX4_fillPolynomials_171 (by decide) ?_
    refine V.mask [true, true, true, true, true, true, true, false] ?_
    have W3 : WAt h2 (R + 2) (wpo W cs (d + 1) (d + 1 + 1 - W.2.1)) (-2) := by
      rw [← wpo_next (cs := cs) (W := W) hm rfl]
      exact W2
    exact ih (d + 1) (by omega) (by omega) h2 W3 E2
end FPO
theorem c_X4_fillPolynomials {g : Nat → Int32} {pl kd st0 v0 : Int32} (hk : Wok W) (hH : RdH h R (nI len) pl kd st0 v0 ft fp sm hf) (hW : WAt h (R + 2) W (-2)) (h11 : h (R + 11) = some (aI 5 g)) (hg : ∀ k, k < W.2.1 → g k = nI (cs k) ∧ cs k < W.1) : CV yX4_fillPolynomials MX4_fillPolynomials [.ref R] h (fun h' => WAt h' (R + 2) (polyW W.1 W.2.1 cs) (-2) ∧ Ew (R + 2) h h') := by
  obtain ⟨b1, b2, b3, b4, b5⟩ := hk.b
  have hcb : canBe W.1 W.2.1 := ⟨hk.1, hk.2.1, hk.2.2.1, hk.2.2.2.1⟩
  have rl : num W.1 W.2.1 cs < W.1 ^ W.2.1 := num_lt (fun k hk => (hg k hk).2)
  refine CV.ofV (by decide) rfl rfl (by simp [Value.category]) (by exact Nat.le_of_ble_eq_true rfl) (fun sz => ?_)
  refine e_aload_n (pc := 0) dX4_fillPolynomials_0 rfl rfl ?_
  refine e_get (pc := 1) fl_X4_47 dX4_fillPolynomials_1 (by repeat (first | assumption | exact hset_eq _ _ _ | (apply WAt.hd; assumption) | rw [hset_ne _ _ (by omega)])) (by rfl) ?_
  refine n_VP (pc := 4) (c_X9_size hW) bX9_size q_i_X9_size q_s_X9_size q_m_X4_122 dX4_fillPolynomials_4 rfl rfl (by repeat (first | assumption | exact hset_eq _ _ _ | (apply WAt.hd; assumption) | rw [hset_ne _ _ (by omega)])) rfl rfl (by exact Nat.le_of_ble_eq_true rfl) ⟨by decide, by decide⟩ ⟨rfl, rfl, Nat.zero_le _, Nat.zero_le _⟩ ?_
  refine e_istore_n (pc := 7) dX4_fillPolynomials_7 rfl (by decide) ?_
  refine e_aload_n (pc := 8) dX4_fillPolynomials_8 rfl rfl ?_
  refine e_get (pc := 9) fl_X4_47 dX4_fillPolynomials_9 (by repeat (first | assumption | exact hset_eq _ _ _ | (apply WAt.hd; assumption) | rw [hset_ne _ _ (by omega)])) (by rfl) ?_
  refine n_VP (pc := 12) (c_X9_prime hW) bX9_prime q_i_X9_prime q_s_X9_prime q_m_X4_126 dX4_fillPolynomials_12 rfl rfl (by repeat (first | assumption | exact hset_eq _ _ _ | (apply WAt.hd; assumption) | rw [hset_ne _ _ (by omega)])) rfl rfl (by exact Nat.le_of_ble_eq_true rfl) ⟨by decide, by decide⟩ ⟨rfl, rfl, Nat.zero_le _, Nat.zero_le _⟩ ?_
  refine e_istore_n (pc := 15) dX4_fillPolynomials_15 rfl (by decide) ?_
  refine n_iconst (pc := 16) 0 dX4_fillPolynomials_16 (by decide) ?_
  refine e_istore_n (pc := 17) dX4_fillPolynomials_17 rfl (by decide) ?_
  refine n_iconst (pc := 18) 0 dX4_fillPolynomials_18 (by decide) ?_
  refine e_istore (pc := 19) dX4_fillPolynomials_19 (by decide) ?_
  refine l_fp1 (cs := cs) hk hH hW h11 hg ?_ W.2.1 0 rfl (Nat.zero_le _)
  refine n_iconst (pc := 53) 1 dX4_fillPolynomials_53 (by decide) ?_
  refine e_istore (pc := 54) dX4_fillPolynomials_54 (by decide) ?_
  refine e_aload_n (pc := 56) dX4_fillPolynomials_56 rfl rfl ?_
  refine e_get (pc := 57) fl_X4_47 dX4_fillPolynomials_57 (by repeat (first | assumption | exact hset_eq _ _ _ | (apply WAt.hd; assumption) | rw [hset_ne _ _ (by omega)])) (by rfl) ?_
  refine e_iload_n (pc := 60) dX4_fillPolynomials_60 rfl rfl ?_
  refine n_iconst (pc := 61) 1 dX4_fillPolynomials_61 (by decide) ?_
  refine n_isub (pc := 62) dX4_fillPolynomials_62 (by omega) ?_
  refine n_VP (pc := 63) (c_X9_base hW hk (show W.2.1 - 1 ≤ 5 by omega)) bX9_base q_i_X9_base q_s_X9_base q_m_X4_136 dX4_fillPolynomials_63 rfl rfl (by repeat (first | assumption | exact hset_eq _ _ _ | (apply WAt.hd; assumption) | rw [hset_ne _ _ (by omega)])) rfl rfl (by exact Nat.le_of_ble_eq_true rfl) ⟨by decide, by decide⟩ ⟨rfl, rfl, Nat.zero_le _, Nat.zero_le _⟩ ?_
  refine e_istore (pc := 66) dX4_fillPolynomials_66 (by decide) ?_
  refine n_iconst (pc := 68) 0 dX4_fillPolynomials_68 (by decide) ?_
  refine e_istore (pc := 69) dX4_fillPolynomials_69 (by decide) ?_
  exact l_fp_d (hh := h) hk hcb hH (fun k hk => (hg k hk).2) (2 * W.2.1 - 1) 0 rfl (Nat.zero_le _) h (by rw [show 0 + 1 - W.2.1 = 0 by omega, wpo_0]; exact hW) (Ew.rf _ _)
theorem l_pol {i : Nat} {sz : Nat} {hh : AH} (hk : Wok W) :
    ∀ (m k : Nat), m = W.2.1 - k → k ≤ W.2.1 → nF f len i (sbd W 5) k = none → ∀ h1, Tk h1 R len f (nt f len i k) ft fp sm hf → RWk h1 R W F → (∃ g, h1 (R + 11) = some (aI 5 g) ∧ ∀ s, s < k → g s = nI (vl f len i s) ∧ vl f len i s < W.1) → Er R (R + 14) hh h1 →
    VI MX4_polynomials sz (Part hh R len f i 5 W F ft fp sm hf) h1 2 [some (.ref R), some (.int (nI k))] [] := by
  obtain ⟨b1, b2, b3, b4, b5⟩ := hk.b
  intro m
  induction m with
  | zero =>
    intro k e1 e2 hn h1 hT hW hG hE
    have e' : k = W.2.1 := by omega
    subst e'
    obtain ⟨_, _, v, c, _⟩ := id hT
    obtain ⟨w1, w2, ⟨f3, w3⟩, w4, ⟨S, f5, w5, w6⟩, w7, ⟨g8, w8⟩, ⟨g9, w9⟩⟩ := id hW
    obtain ⟨g, g1, g2⟩ := hG
    refine e_iload_n (pc := 2) dX4_polynomials_2 rfl rfl ?_
    refine e_aload_n (pc := 3) dX4_polynomials_3 rfl rfl ?_
    refine e_get (pc := 4) fl_X4_47 dX4_polynomials_4 (by repeat (first | assumption | exact hset_eq _ _ _ | (apply WAt.hd; assumption) | rw [hset_ne _ _ (by omega)])) (by rfl) ?_
    refine n_VP (pc := 7) (c_X9_size w1) bX9_size q_i_X9_size q_s_X9_size q_m_X4_122 dX4_polynomials_7 rfl rfl (by repeat (first | assumption | exact hset_eq _ _ _ | (apply WAt.hd; assumption) | rw [hset_ne _ _ (by omega)])) rfl rfl (by exact Nat.le_of_ble_eq_true rfl) ⟨by decide, by decide⟩ ⟨rfl, rfl, Nat.zero_le _, Nat.zero_le _⟩ ?_
    refine n_icmp_ge (pc := 10) (tgt := 45) dX4_polynomials_10 (by decide) (by omega) (show W.2.1 < 2 ^ 31 by omega) (fun _ => ?_) (fun q => absurd q (Nat.lt_irrefl W.2.1))
    refine e_aload_n (pc := 45) dX4_polynomials_45 rfl rfl ?_
    refine n_Vv (pc := 46) (c_X4_fillPolynomials (cs := vl f len i) w2 c w1 g1 g2) bX4_fillPolynomials q_i_X4_fillPolynomials q_s_X4_fillPolynomials q_m_X4_129 dX4_polynomials_46 rfl rfl (by repeat (first | assumption | exact hset_eq _ _ _ | (apply WAt.hd; assumption) | rw [hset_ne _ _ (by omega)])) rfl rfl (by exact Nat.le_of_ble_eq_true rfl) ⟨by decide, by decide⟩ ⟨rfl, rfl, Nat.zero_le _, Nat.zero_le _⟩ (fun h2 hp => ?_)
    obtain ⟨p1, p2⟩ := hp
    have hcb : canBe W.1 W.2.1 := ⟨hk.1, hk.2.1, hk.2.2.1, hk.2.2.2.1⟩
    have hP := polyW_ok (cs := vl f len i) hcb
    have c2 : RdH h2 R (nI len) (nI (tE f len (nt f len i W.2.1))) (nI (tC f len (nt f len i W.2.1))) (nI (tS f len (nt f len i W.2.1))) v ft fp sm hf := (p2 _ (by omega) (by omega) (by omega)).trans c
    have w3' : WAt h2 (R + 5) F f3 := w3.kp (fun a x y => p2 a (by omega) (by omega) (by omega))
    refine e_aload_n (pc := 49) dX4_polynomials_49 rfl rfl ?_
    refine e_get (pc := 50) fl_X4_51 dX4_polynomials_50 (by repeat (first | assumption | exact hset_eq _ _ _ | (apply WAt.hd; assumption) | rw [hset_ne _ _ (by omega)])) (by rfl) ?_
    refine e_aload_n (pc := 53) dX4_polynomials_53 rfl rfl ?_
    refine e_get (pc := 54) fl_X4_47 dX4_polynomials_54 (by repeat (first | assumption | exact hset_eq _ _ _ | (apply WAt.hd; assumption) | rw [hset_ne _ _ (by omega)])) (by rfl) ?_
    refine n_Vv (pc := 57) (c_X9_copy w3' p1 w4 hP (by omega)) bX9_copy q_i_X9_copy q_s_X9_copy q_m_X4_132 dX4_polynomials_57 rfl rfl (by repeat (first | assumption | exact hset_eq _ _ _ | (apply WAt.hd; assumption) | rw [hset_ne _ _ (by omega)])) rfl rfl (by exact Nat.le_of_ble_eq_true rfl) ⟨by decide, by decide⟩ ⟨rfl, rfl, Nat.zero_le _, Nat.zero_le _⟩ (fun h3 hp => ?_)
    obtain ⟨r1, r2⟩ := hp
    have far : ∀ a, (a < R + 2 ∨ (R + 8 ≤ a)) → h3 a = h1 a := fun a x => (r2 a (by omega) (by omega) (by omega)).trans (p2 a (by omega) (by omega) (by omega))
    have c3 : RdH h3 R (nI len) (nI (tE f len (nt f len i W.2.1))) (nI (tC f len (nt f len i W.2.1))) (nI (tS f len (nt f len i W.2.1))) v ft fp sm hf := (far _ (by omega)).trans c
    obtain ⟨ta, tb, tv, tc, td⟩ := id hT
    refine e_aload_n (pc := 60) dX4_polynomials_60 rfl rfl ?_
    refine n_iconst (pc := 61) 1 dX4_polynomials_61 (by decide) ?_
    refine e_put (pc := 62) pl_X4_40 dX4_polynomials_62 (by repeat (first | assumption | exact hset_eq _ _ _ | (apply WAt.hd; assumption) | rw [hset_ne _ _ (by omega)])) (by rfl) (by rfl) (by exact Nat.le_of_ble_eq_true rfl) ?_
    have T4 : Tk (hset h3 R (ob 4 [.ref (R + 1), .int (nI len), .int (nI (tE f len (nt f len i W.2.1))), .int (nI (tC f len (nt f len i W.2.1))), .int (nI (tS f len (nt f len i W.2.1))), .int v, .int ft, .int fp, .int sm, .int (nI 1), .ref (R + 2), .ref (R + 5), .ref (R + 8), .ref (R + 11), .ref (R + 12), .ref (R + 13)])) R len f (nt f len i W.2.1) ft fp sm 1 := ⟨ta, tb.keep ((hset_ne _ _ (by omega)).trans (far _ (by omega))), v, hset_eq _ _ _, by assumption⟩
    have W4 : RWk (hset h3 R (ob 4 [.ref (R + 1), .int (nI len), .int (nI (tE f len (nt f len i W.2.1))), .int (nI (tC f len (nt f len i W.2.1))), .int (nI (tS f len (nt f len i W.2.1))), .int v, .int ft, .int fp, .int sm, .int (nI 1), .ref (R + 2), .ref (R + 5), .ref (R + 8), .ref (R + 11), .ref (R + 12), .ref (R + 13)])) R (polyW W.1 W.2.1 (vl f len i)) (polyW W.1 W.2.1 (vl f len i)) := by
      refine RWk.kp (h := h3) ⟨p1.kp (fun a x y => r2 a (by omega) (by omega) (by omega)), hP, ⟨_, r1⟩, hP, ⟨S, f5, w5.kp (fun a x y => far a (by omega)), w6⟩, ⟨g, (far _ (by omega)).trans g1⟩, ⟨g8, (far _ (by omega)).trans w8⟩, ⟨g9, (far _ (by omega)).trans w9⟩⟩ (fun a x y => hset_ne _ _ (by omega))
    refine e_aload_n (pc := 65) dX4_polynomials_65 rfl rfl ?_
    refine n_Vv (pc := 66) (c_X4_stepT T4) bX4_step q_i_X4_step q_s_X4_step q_m_X4_70 dX4_polynomials_66 rfl rfl (by repeat (first | assumption | exact hset_eq _ _ _ | (apply WAt.hd; assumption) | rw [hset_ne _ _ (by omega)])) rfl rfl (by exact Nat.le_of_ble_eq_true rfl) ⟨by decide, by decide⟩ ⟨rfl, rfl, Nat.zero_le _, Nat.zero_le _⟩ (fun h5 hp => ?_)
    obtain ⟨s1, s2⟩ := hp
    refine n_iconst (pc := 69) 1 dX4_polynomials_69 (by decide) ?_
    refine n_zret (pc := 70) dX4_polynomials_70 rfl rfl ⟨Or.inl ⟨hn, rfl, s1, W4.er s2⟩, (hE.tr ?_).tr s2.rr⟩
    intro a x
    rw [hset_ne _ _ (by omega)]
    exact far a (by omega)
  | succ m ih =>
    intro k e1 e2 hn h1 hT hW hG hE
    have hk1 : k < W.2.1 := by omega
    obtain ⟨_, _, v, c, _⟩ := id hT
    obtain ⟨w1, w2, -⟩ := id hW
    obtain ⟨g, g1, g2⟩ := hG
    refine e_iload_n (pc := 2) dX4_polynomials_2 rfl rfl ?_
    refine e_aload_n (pc := 3) dX4_polynomials_3 rfl rfl ?_
    refine e_get (pc := 4) fl_X4_47 dX4_polynomials_4 (by repeat (first | assumption | exact hset_eq _ _ _ | (apply WAt.hd; assumption) | rw [hset_ne _ _ (by omega)])) (by rfl) ?_
    refine n_VP (pc := 7) (c_X9_size w1) bX9_size q_i_X9_size q_s_X9_size q_m_X4_122 dX4_polynomials_7 rfl rfl (by repeat (first | assumption | exact hset_eq _ _ _ | (apply WAt.hd; assumption) | rw [hset_ne _ _ (by omega)])) rfl rfl (by exact Nat.le_of_ble_eq_true rfl) ⟨by decide, by decide⟩ ⟨rfl, rfl, Nat.zero_le _, Nat.zero_le _⟩ ?_
    refine n_icmp_ge (pc := 10) (tgt := 45) dX4_polynomials_10 (by decide) (by omega) (show W.2.1 < 2 ^ 31 by omega) (fun q => absurd q (show ¬ W.2.1 ≤ k by omega)) (fun _ => ?_)
    refine e_aload_n (pc := 13) dX4_polynomials_13 rfl rfl ?_
    refine e_aload_n (pc := 14) dX4_polynomials_14 rfl rfl ?_
    refine e_get (pc := 15) fl_X4_47 dX4_polynomials_15 (by repeat (first | assumption | exact hset_eq _ _ _ | (apply WAt.hd; assumption) | rw [hset_ne _ _ (by omega)])) (by rfl) ?_
    refine n_VP (pc := 18) (c_X9_prime w1) bX9_prime q_i_X9_prime q_s_X9_prime q_m_X4_126 dX4_polynomials_18 rfl rfl (by repeat (first | assumption | exact hset_eq _ _ _ | (apply WAt.hd; assumption) | rw [hset_ne _ _ (by omega)])) rfl rfl (by exact Nat.le_of_ble_eq_true rfl) ⟨by decide, by decide⟩ ⟨rfl, rfl, Nat.zero_le _, Nat.zero_le _⟩ ?_
    refine n_V (pc := 21) (c_X4_numberBelow hT (show W.1 < 2 ^ 31 by omega)) bX4_numberBelow q_i_X4_numberBelow q_s_X4_numberBelow q_m_X4_110 dX4_polynomials_21 rfl rfl (by repeat (first | assumption | exact hset_eq _ _ _ | (apply WAt.hd; assumption) | rw [hset_ne _ _ (by omega)])) rfl rfl (by exact Nat.le_of_ble_eq_true rfl) ⟨by decide, by decide⟩ ⟨rfl, rfl, Nat.zero_le _, Nat.zero_le _⟩ (fun z h2 hp => ?_)
    obtain ⟨hp, p2⟩ := hp
    have step : nF f len i (sbd W 5) (k + 1) = tokF f len (nt f len i (k + 1)) W.1 := nF_s hn
    rcases hp with ⟨q1, rfl, T2⟩ | ⟨x, q1, rfl, F2⟩
    · refine e_if_ne (pc := 24) (tgt := 29) dX4_polynomials_24 (by decide) (fun _ => ?_) (fun q => absurd q (by decide))
      have T2 : Tk h2 R len f (nt f len i (k + 1)) ft fp sm hf := T2
      obtain ⟨n1, n2⟩ := tokF_none q1
      have n1 : tC f len (nt f len i (k + 1)) = 2 := n1
      have n2 : vl f len i k < W.1 := n2
      have c2 : RdH h2 R (nI len) (nI (tE f len (nt f len i (k + 1)))) (nI (tC f len (nt f len i (k + 1)))) (nI (tS f len (nt f len i (k + 1)))) (nI (vl f len i k)) ft fp sm hf := T2.val n1
      have g1' := (p2 (R + 11) (by omega)).trans g1
      have W2 := hW.er p2
      refine e_aload_n (pc := 29) dX4_polynomials_29 rfl rfl ?_
      refine e_get (pc := 30) fl_X4_57 dX4_polynomials_30 (by repeat (first | assumption | exact hset_eq _ _ _ | (apply WAt.hd; assumption) | rw [hset_ne _ _ (by omega)])) (by rfl) ?_
      refine e_iload_n (pc := 33) dX4_polynomials_33 rfl rfl ?_
      refine e_aload_n (pc := 34) dX4_polynomials_34 rfl rfl ?_
      refine e_get (pc := 35) fl_X4_28 dX4_polynomials_35 (by repeat (first | assumption | exact hset_eq _ _ _ | (apply WAt.hd; assumption) | rw [hset_ne _ _ (by omega)])) (by rfl) ?_
      refine e_iastN (pc := 38) k dX4_polynomials_38 (by repeat (first | assumption | exact hset_eq _ _ _ | (apply WAt.hd; assumption) | rw [hset_ne _ _ (by omega)])) (by rfl) (by omega) (by first | decide | omega) ?_
      refine n_inc (pc := 39) dX4_polynomials_39 rfl (by decide) ?_
      refine e_goto (pc := 42) (tgt := 2) dX4_polynomials_42 (by decide) ?_
      refine ih (k + 1) (by omega) (by omega) (by rw [step]; exact q1) _ (T2.keep (hset_ne _ _ (by omega)) (hset_ne _ _ (by omega))) ?_ ⟨_, hset_eq _ _ _, fun s hs => ?_⟩ ((hE.tr p2.rr).set (by omega))
      · obtain ⟨y1, y2, ⟨f3, y3⟩, y4, ⟨S, f5, y5, y6⟩, y7, ⟨g8, y8⟩, ⟨g9, y9⟩⟩ := W2
        exact ⟨y1.hs (by omega), y2, ⟨f3, y3.hs (by omega)⟩, y4, ⟨S, f5, y5.hs (by omega), y6⟩, ⟨_, hset_eq _ _ _⟩, ⟨g8, (hset_ne _ _ (by omega)).trans y8⟩, ⟨g9, (hset_ne _ _ (by omega)).trans y9⟩⟩
      · by_cases q : s = k
        · subst q
          rw [pk_us]
          exact ⟨rfl, n2⟩
        · rw [pk_un q]
          exact g2 s (by omega)
    · refine e_if_ne (pc := 24) (tgt := 29) dX4_polynomials_24 (by decide) (fun q => absurd rfl q) (fun _ => ?_)
      refine n_iconst (pc := 27) 0 dX4_polynomials_27 (by decide) ?_
      refine n_zret (pc := 28) dX4_polynomials_28 rfl rfl ⟨Or.inr ⟨x, ?_, rfl, F2, _, F, hW.er p2⟩, hE.tr p2.rr⟩
      have e3 : nF f len i (sbd W 5) (k + 1) = some x := by rw [step]; exact q1
      have e4 := nF_some e3 (W.2.1 - (k + 1))
      rw [show k + 1 + (W.2.1 - (k + 1)) = W.2.1 by omega] at e4
      exact e4
theorem c_X4_polynomials {i : Nat} (hT : Tk h R len f i ft fp sm hf) (hW : RWk h R W F) : CI yX4_polynomials MX4_polynomials [.ref R] h (Part h R len f i 5 W F ft fp sm hf) := by
  obtain ⟨w1, w2, w3, w4, w5, ⟨g7, w7⟩, -⟩ := id hW
  refine CI.ofV (by decide) rfl rfl (by simp [Value.category]) (by exact Nat.le_of_ble_eq_true rfl) (fun sz => ?_)
  refine n_iconst (pc := 0) 0 dX4_polynomials_0 (by decide) ?_
  refine e_istore_n (pc := 1) dX4_polynomials_1 rfl (by decide) ?_
  exact l_pol (hh := h) w2 W.2.1 0 rfl (Nat.zero_le _) rfl h hT hW ⟨g7, w7, fun s hs => absurd hs (Nat.not_lt_zero s)⟩ (Er.rf _ _ _)
end R4
