/-! ===== digits unpacked; a map spread over all elements ===== -/
theorem e_alenI {M : MI} {Post : Option Value → AH → Nat → Prop} {al : Nat × Nat × Nat} {h : AH} {pc : Nat} {ls : List (Option Value)} {st : List Value} {a n : Nat} {f : Nat → Int32} (hd : decode (MI.cc M) pc = .ok (.arraylength, 1)) (hh : h a = some (aI n f)) (k : V M Post al h (pc + 1) ls (.int (nI n) :: st)) : V M Post al h pc ls (.ref a :: st) := e_alen (x := (0, n, .inl f)) hd hh (show 0 < 4 by decide) rfl k
theorem l_unpack {sz p x a L : Nat} {h : AH} {g0 : Nat → Int32} (hp : 2 ≤ p ∧ p ≤ 5) (hx : x < 3125) (hL : L ≤ 100) (h0 : h a = some (aI L g0)) {Pr : AH → Prop} (kk : ∀ g, (∀ t, t < L → g t = nI (dg p x t)) → Pr (hset h a (aI L g))) :
    ∀ (n t : Nat), n = L - t → t ≤ L → ∀ g, (∀ s, s < t → g s = nI (dg p x s)) → VV MX8_unpack sz Pr (hset h a (aI L g)) 11 [some (.int (nI p)), some (.int (nI x)), some (.ref a), some (.int (nI (x / p ^ t))), some (.int (nI t))] [] := by
  intro n
  induction n with
  | zero =>
    intro t e1 e2 g hg
    have e : t = L := by omega
    subst e
    refine e_iload (pc := 11) dX8_unpack_11 rfl ?_
    refine e_aload_n (pc := 13) dX8_unpack_13 rfl rfl ?_
    refine e_alenI (pc := 14) dX8_unpack_14 (by repeat (first | assumption | exact hset_eq _ _ _ | rw [hset_ne _ _ (by omega)])) ?_
    refine n_icmp_ge (pc := 15) (tgt := 35) dX8_unpack_15 (by decide) (by omega) (by omega) (fun hb_ => ?_) (fun c => absurd c (by omega))
    exact n_vret (pc := 35) dX8_unpack_35 rfl (kk g hg)
  | succ n ih =>
    intro t e1 e2 g hg
    have q5 := Nat.div_le_self x (p ^ t)
    refine e_iload (pc := 11) dX8_unpack_11 rfl ?_
    refine e_aload_n (pc := 13) dX8_unpack_13 rfl rfl ?_
    refine e_alenI (pc := 14) dX8_unpack_14 (by repeat (first | assumption | exact hset_eq _ _ _ | rw [hset_ne _ _ (by omega)])) ?_
    refine n_icmp_ge (pc := 15) (tgt := 35) dX8_unpack_15 (by decide) (by omega) (by omega) (fun c => absurd c (by omega)) (fun hb_ => ?_)
    refine e_aload_n (pc := 18) dX8_unpack_18 rfl rfl ?_
    refine e_iload (pc := 19) dX8_unpack_19 rfl ?_
    refine e_iload_n (pc := 21) dX8_unpack_21 rfl rfl ?_
    refine e_iload_n (pc := 22) dX8_unpack_22 rfl rfl ?_
    refine n_irem (pc := 23) dX8_unpack_23 (by omega) (by omega) (by omega) ?_
    refine e_iastN (pc := 24) _ dX8_unpack_24 (by repeat (first | assumption | exact hset_eq _ _ _ | rw [hset_ne _ _ (by omega)])) (by rfl) (by omega) (by first | decide | omega) ?_
    refine e_iload_n (pc := 25) dX8_unpack_25 rfl rfl ?_
    refine e_iload_n (pc := 26) dX8_unpack_26 rfl rfl ?_
    refine n_idiv (pc := 27) dX8_unpack_27 (by omega) (by omega) (by omega) ?_
    refine e_istore_n (pc := 28) dX8_unpack_28 rfl (by decide) ?_
    refine n_inc (pc := 29) dX8_unpack_29 rfl (by decide) ?_
    refine e_goto (pc := 32) (tgt := 11) dX8_unpack_32 (by decide) ?_
    rw [hset_hset, dg_div]
    refine ih (t + 1) (by omega) (by omega) _ (fun s hs => ?_)
    by_cases e : s = t
    · subst e; rw [pk_us]; rfl
    · rw [pk_un e]; exact hg s (by omega)
theorem c_X8_unpack {p x a L : Nat} {h : AH} {g0 : Nat → Int32} (hp : 2 ≤ p ∧ p ≤ 5) (hx : x < 3125) (hL : L ≤ 100) (h0 : h a = some (aI L g0)) : CV yX8_unpack MX8_unpack [.int (nI p), .int (nI x), .ref a] h (fun h' => ∃ g, h' = hset h a (aI L g) ∧ ∀ t, t < L → g t = nI (dg p x t)) := by
  refine CV.ofV (by decide) rfl rfl (by simp [Value.category]) (by exact Nat.le_of_ble_eq_true rfl) (fun sz => ?_)
  refine e_iload_n (pc := 0) dX8_unpack_0 rfl rfl ?_
  refine n_iconst (pc := 1) 2 dX8_unpack_1 (by decide) ?_
  refine n_icmp_ge (pc := 2) (tgt := 6) dX8_unpack_2 (by decide) (by omega) (by omega) (fun hb_ => ?_) (fun c => absurd c (by omega))
  refine e_iload_n (pc := 6) dX8_unpack_6 rfl rfl ?_
  refine e_istore_n (pc := 7) dX8_unpack_7 rfl (by decide) ?_
  refine n_iconst (pc := 8) 0 dX8_unpack_8 (by decide) ?_
  refine e_istore (pc := 9) dX8_unpack_9 (by decide) ?_
  refine e_heap (hset_self h0).symm ?_
  have q := l_unpack (sz := sz) hp hx hL h0 (Pr := fun h' => ∃ g, h' = hset h a (aI L g) ∧ ∀ t, t < L → g t = nI (dg p x t)) (fun g hg => ⟨g, rfl, hg⟩) L 0 rfl (by omega) g0 (fun s hs => absurd hs (Nat.not_lt_zero s))
  rw [Nat.pow_zero, Nat.div_one] at q
  exact q
/-- the image of x by the map that sends base element i to bs i -/
def lin (p n : Nat) (bs : Nat → Nat) (x : Nat) : Nat := num p 5 (fun k => sg n (fun i => dg p x i * dg p (bs i) k) % p)
theorem lin_lt {p n m x : Nat} {bs : Nat → Nat} (hp : 0 < p) (hm : m ≤ 5) (hb : ∀ i, i < n → bs i < p ^ m) : lin p n bs x < p ^ m := by
  unfold lin
  rw [num_to hm (fun k hk => by rw [sg_zero (fun i hi => by rw [dg_big hp (hb i hi) hk, Nat.mul_zero]), Nat.zero_mod])]
  exact num_lt (fun _ _ => Nat.mod_lt _ hp)
theorem lin_0 (p n : Nat) (bs : Nat → Nat) : lin p n bs 0 = 0 := by
  unfold lin
  rw [num_congr (g := fun _ => 0) (fun k _ => by
    rw [sg_zero (fun i _ => by unfold dg; rw [Nat.zero_div, Nat.zero_mod, Nat.zero_mul]), Nat.zero_mod])]
  simp [num]
theorem lin_dg {p n x k : Nat} {bs : Nat → Nat} (hp : 0 < p) (hk : k < 5) : dg p (lin p n bs x) k = sg n (fun i => dg p x i * dg p (bs i) k) % p := dg_num hp hk (fun _ _ => Nat.mod_lt _ hp)
theorem dg_up {p i y : Nat} (hp : 0 < p) (hy : y / p ^ i + 1 < p) : ∀ j, dg p (y + p ^ i) j = dg p y j + if j = i then 1 else 0 := by
  intro j
  have hpi := Nat.pow_pos (n := i) hp
  have hdiv : (y + p ^ i) / p ^ i = y / p ^ i + 1 := Nat.add_div_right y hpi
  by_cases e : j = i
  · subst e
    unfold dg
    rw [if_pos rfl, hdiv, Nat.mod_eq_of_lt hy, Nat.mod_eq_of_lt (by omega)]
  · rw [if_neg e, Nat.add_zero]
    unfold dg
    by_cases e2 : j < i
    · obtain ⟨d, rfl⟩ : ∃ d, i = j + 1 + d := ⟨i - (j + 1), by omega⟩
      rw [show p ^ (j + 1 + d) = (p ^ d * p) * p ^ j by rw [Nat.pow_add, Nat.pow_succ]; ac_rfl]
      rw [Nat.add_mul_div_right _ _ (Nat.pow_pos hp), Nat.add_mul_mod_self_right]
    · obtain ⟨d, rfl⟩ : ∃ d, j = i + 1 + d := ⟨j - (i + 1), by omega⟩
      have hs : p ^ (i + 1 + d) = p ^ i * (p * p ^ d) := by rw [Nat.pow_add, Nat.pow_succ, Nat.mul_assoc]
      rw [hs, ← Nat.div_div_eq_div_mul, ← Nat.div_div_eq_div_mul, hdiv, ← Nat.div_div_eq_div_mul, ← Nat.div_div_eq_div_mul, Nat.div_eq_of_lt hy, Nat.div_eq_of_lt (show y / p ^ i < p by omega)]
theorem lin_up {p n i y : Nat} {bs : Nat → Nat} (hp : 0 < p) (hi : i < n) (hy : y / p ^ i + 1 < p) : lin p n bs (y + p ^ i) = ad p (lin p n bs y) (bs i) := by
  unfold ad
  rw [lin]
  refine num_congr (fun k hk => ?_)
  rw [lin_dg hp hk]
  have e : sg n (fun j => dg p (y + p ^ i) j * dg p (bs j) k) = sg n (fun j => dg p y j * dg p (bs j) k) + dg p (bs i) k := by
    rw [sg_congr (g := fun j => dg p y j * dg p (bs j) k + (if j = i then dg p (bs i) k else 0)) (fun j _ => by
      rw [dg_up hp hy j, Nat.add_mul]
      by_cases e : j = i
      · subst e; simp
      · simp [e]), sg_add]
    congr 1
    clear hy
    induction n with
    | zero => exact absurd hi (Nat.not_lt_zero i)
    | succ n ih =>
      show sg n _ + (if n = i then dg p (bs i) k else 0) = _
      by_cases e : n = i
      · subst e
        rw [if_pos rfl, sg_zero (fun j hj => if_neg (by omega)), Nat.zero_add]
      · rw [if_neg e, Nat.add_zero]
        exact ih (by omega)
  rw [e, Nat.mod_add_mod]
section SP
variable {sz p n a b : Nat} {h : AH} {g0 : Nat → Int32} {bs : Nat → Nat}
theorem l_spread_x (hp : 2 ≤ p ∧ p ≤ 5) (hn : 1 ≤ n ∧ n ≤ 5) (hq : p ^ n ≤ 243) (hab : a ≠ b) {fb : Nat → Int32} (ha : h a = some (aI 5 fb)) (hfb : ∀ i, i < n → fb i = nI (bs i)) (hbs : ∀ i, i < n → bs i < p ^ n) {i : Nat} (hi : i < n) {Pr : AH → Prop}
    (kk : ∀ g, (∀ y, y < p ^ (i + 1) → g y = nI (lin p n bs y)) → VV MX8_spread sz Pr (hset h b (aI 243 g)) 77 [some (.int (nI p)), some (.int (nI n)), some (.ref a), some (.ref b), none, some (.int (nI i)), some (.int (nI (p ^ (i + 1)))), none] []) :
    ∀ (m x : Nat), m = p ^ (i + 1) - x → p ^ i ≤ x → x ≤ p ^ (i + 1) → ∀ g, (∀ y, y < x → g y = nI (lin p n bs y)) → VV MX8_spread sz Pr (hset h b (aI 243 g)) 38 [some (.int (nI p)), some (.int (nI n)), some (.ref a), some (.ref b), some (.int (nI (p ^ i))), some (.int (nI i)), some (.int (nI (p ^ (i + 1)))), some (.int (nI x))] [] := by
  have q1 : p ^ (i + 1) ≤ p ^ n := Nat.pow_le_pow_right (by omega) (by omega)
  have q2 : 0 < p ^ i := Nat.pow_pos (by omega)
  have q3 : p ^ n ≤ p ^ 5 := Nat.pow_le_pow_right (by omega) hn.2
  intro m
  induction m with
  | zero =>
    intro x e1 e2 e3 g hg
    have e : x = p ^ (i + 1) := by omega
    subst e
    refine e_iload (pc := 38) dX8_spread_38 rfl ?_
    refine e_iload (pc := 40) dX8_spread_40 rfl ?_
    refine n_icmp_ge (pc := 42) (tgt := 77) dX8_spread_42 (by decide) (by omega) (by omega) (fun hb_ => ?_) (fun c => absurd c (by omega))
    refine V.mask [true, true, true, true, false, true, true, false] ?_
    exact kk g hg
  | succ m ih =>
    intro x e1 e2 e3 g hg
    have e4 := hg (x - p ^ i) (by omega)
    have e5 := hfb i hi
    have e6 := hbs i hi
    have e7 : lin p n bs (x - p ^ i) < p ^ n := lin_lt (by omega) hn.2 hbs
    refine e_iload (pc := 38) dX8_spread_38 rfl ?_
    refine e_iload (pc := 40) dX8_spread_40 rfl ?_
    refine n_icmp_ge (pc := 42) (tgt := 77) dX8_spread_42 (by decide) (by omega) (by omega) (fun c => absurd c (by omega)) (fun hb_ => ?_)
    refine e_iload (pc := 45) dX8_spread_45 rfl ?_
    refine e_aload_n (pc := 47) dX8_spread_47 rfl rfl ?_
    refine e_alenI (pc := 48) dX8_spread_48 (by repeat (first | assumption | exact hset_eq _ _ _ | rw [hset_ne _ _ (by omega)])) ?_
    refine n_icmp_ge (pc := 49) (tgt := 77) dX8_spread_49 (by decide) (by omega) (by omega) (fun c => absurd c (by omega)) (fun hb_ => ?_)
    refine e_aload_n (pc := 52) dX8_spread_52 rfl rfl ?_
    refine e_iload (pc := 53) dX8_spread_53 rfl ?_
    refine e_iload_n (pc := 55) dX8_spread_55 rfl rfl ?_
    refine e_aload_n (pc := 56) dX8_spread_56 rfl rfl ?_
    refine e_iload (pc := 57) dX8_spread_57 rfl ?_
    refine e_iload (pc := 59) dX8_spread_59 rfl ?_
    refine n_isub (pc := 61) dX8_spread_61 (by omega) ?_
    refine e_ialdN (pc := 62) _ dX8_spread_62 (by repeat (first | assumption | exact hset_eq _ _ _ | rw [hset_ne _ _ (by omega)])) (by rfl) (by omega) (by first | decide | omega) ?_
    rw [e4]
    refine e_aload_n (pc := 63) dX8_spread_63 rfl rfl ?_
    refine e_iload (pc := 64) dX8_spread_64 rfl ?_
    refine e_ialdN (pc := 66) _ dX8_spread_66 (by repeat (first | assumption | exact hset_eq _ _ _ | rw [hset_ne _ _ (by omega)])) (by rfl) (by omega) (by first | decide | omega) ?_
    rw [e5]
    refine n_SP (pc := 67) (c_X8_plus hp.1 hp.2 (Nat.lt_of_lt_of_le e7 q3) (Nat.lt_of_lt_of_le e6 q3)) bX8_plus q_st_X8_plus q_m_X8_15 dX8_spread_67 rfl rfl (by exact Nat.le_of_ble_eq_true rfl) ⟨by decide, by decide⟩ ⟨rfl, rfl, Nat.zero_le _, Nat.zero_le _⟩ ?_
    refine e_iastN (pc := 70) _ dX8_spread_70 (by repeat (first | assumption | exact hset_eq _ _ _ | rw [hset_ne _ _ (by omega)])) (by rfl) (by omega) (by first | decide | omega) ?_
    refine n_inc (pc := 71) dX8_spread_71 rfl (by decide) ?_
    refine e_goto (pc := 74) (tgt := 38) dX8_spread_74 (by decide) ?_
    rw [hset_hset]
    refine ih (x + 1) (by omega) (by omega) (by omega) _ (fun y hy => ?_)
    by_cases e : y = x
    · subst e
      rw [pk_us, ← lin_up (by omega) hi, Nat.sub_add_cancel e2]
      have : y / p ^ i < p := Nat.div_lt_of_lt_mul (by rw [← Nat.pow_succ]; omega)
      have : (y - p ^ i) / p ^ i = y / p ^ i - 1 := by
        rw [← Nat.sub_mul_div_of_le y (p ^ i) 1 (by omega)]
        simp
      have : 1 ≤ y / p ^ i := (Nat.le_div_iff_mul_le q2).mpr (by omega)
      omega
    · rw [pk_un e]; exact hg y (by omega)
theorem l_spread_i (hp : 2 ≤ p ∧ p ≤ 5) (hn : 1 ≤ n ∧ n ≤ 5) (hq : p ^ n ≤ 243) (hab : a ≠ b) {fb : Nat → Int32} (ha : h a = some (aI 5 fb)) (hfb : ∀ i, i < n → fb i = nI (bs i)) (hbs : ∀ i, i < n → bs i < p ^ n) {Pr : AH → Prop}
    (kk : ∀ g, (∀ y, y < p ^ n → g y = nI (lin p n bs y)) → Pr (hset h b (aI 243 g))) :
    ∀ (m i : Nat), m = n - i → i ≤ n → ∀ g, (∀ y, y < p ^ i → g y = nI (lin p n bs y)) → VV MX8_spread sz Pr (hset h b (aI 243 g)) 22 [some (.int (nI p)), some (.int (nI n)), some (.ref a), some (.ref b), some (.int (nI (p ^ i))), some (.int (nI i)), none, none] [] := by
  intro m
  induction m with
  | zero =>
    intro i e1 e2 g hg
    have e : i = n := by omega
    subst e
    refine e_iload (pc := 22) dX8_spread_22 rfl ?_
    refine e_iload_n (pc := 24) dX8_spread_24 rfl rfl ?_
    refine n_icmp_ge (pc := 25) (tgt := 87) dX8_spread_25 (by decide) (by omega) (by omega) (fun hb_ => ?_) (fun c => absurd c (by omega))
    exact n_vret (pc := 87) dX8_spread_87 rfl (kk g hg)
  | succ m ih =>
    intro i e1 e2 g hg
    have q2 : 0 < p ^ i := Nat.pow_pos (by omega)
    have q4 : p ^ i ≤ p ^ (i + 1) := Nat.pow_le_pow_right (by omega) (by omega)
    refine e_iload (pc := 22) dX8_spread_22 rfl ?_
    refine e_iload_n (pc := 24) dX8_spread_24 rfl rfl ?_
    refine n_icmp_ge (pc := 25) (tgt := 87) dX8_spread_25 (by decide) (by omega) (by omega) (fun c => absurd c (by omega)) (fun hb_ => ?_)
    refine e_iload (pc := 28) dX8_spread_28 rfl ?_
    refine e_iload_n (pc := 30) dX8_spread_30 rfl rfl ?_
    refine n_imul (pc := 31) dX8_spread_31 ?_
    refine e_istore (pc := 32) dX8_spread_32 (by decide) ?_
    refine e_iload (pc := 34) dX8_spread_34 rfl ?_
    refine e_istore (pc := 36) dX8_spread_36 (by decide) ?_
    rw [← Nat.pow_succ]
    refine l_spread_x hp hn hq hab ha hfb hbs (show i < n by omega) (fun g2 hg2 => ?_) (p ^ (i + 1) - p ^ i) (p ^ i) rfl (Nat.le_refl _) q4 g hg
    refine e_iload (pc := 77) dX8_spread_77 rfl ?_
    refine e_istore (pc := 79) dX8_spread_79 (by decide) ?_
    refine n_inc (pc := 81) dX8_spread_81 rfl (by decide) ?_
    refine e_goto (pc := 84) (tgt := 22) dX8_spread_84 (by decide) ?_
    refine V.mask [true, true, true, true, true, true, false, false] ?_
    exact ih (i + 1) (by omega) (by omega) g2 hg2
theorem c_X8_spread (hp : 2 ≤ p ∧ p ≤ 5) (hn : 1 ≤ n ∧ n ≤ 5) (hq : p ^ n ≤ 243) (hab : a ≠ b) {fb : Nat → Int32} (ha : h a = some (aI 5 fb)) (hfb : ∀ i, i < n → fb i = nI (bs i)) (hbs : ∀ i, i < n → bs i < p ^ n) (hb : h b = some (aI 243 g0)) : CV yX8_spread MX8_spread [.int (nI p), .int (nI n), .ref a, .ref b] h (fun h' => ∃ g, h' = hset h b (aI 243 g) ∧ ∀ y, y < p ^ n → g y = nI (lin p n bs y)) := by
  refine CV.ofV (by decide) rfl rfl (by simp [Value.category]) (by exact Nat.le_of_ble_eq_true rfl) (fun sz => ?_)
  refine e_aload_n (pc := 0) dX8_spread_0 rfl rfl ?_
  refine e_alenI (pc := 1) dX8_spread_1 (by repeat (first | assumption | exact hset_eq _ _ _ | rw [hset_ne _ _ (by omega)])) ?_
  refine n_if_eq (pc := 2) (tgt := 11) dX8_spread_2 (by decide) (by omega) (fun c => absurd c (by omega)) (fun hb_ => ?_)
  refine e_iload_n (pc := 5) dX8_spread_5 rfl rfl ?_
  refine e_aload_n (pc := 6) dX8_spread_6 rfl rfl ?_
  refine e_alenI (pc := 7) dX8_spread_7 (by repeat (first | assumption | exact hset_eq _ _ _ | rw [hset_ne _ _ (by omega)])) ?_
  refine n_icmp_le (pc := 8) (tgt := 12) dX8_spread_8 (by decide) (by omega) (by omega) (fun hb_ => ?_) (fun c => absurd c (by omega))
  refine e_aload_n (pc := 12) dX8_spread_12 rfl rfl ?_
  refine n_iconst (pc := 13) 0 dX8_spread_13 (by decide) ?_
  refine n_iconst (pc := 14) 0 dX8_spread_14 (by decide) ?_
  refine e_iastN (pc := 15) _ dX8_spread_15 (by repeat (first | assumption | exact hset_eq _ _ _ | rw [hset_ne _ _ (by omega)])) (by rfl) (by omega) (by first | decide | omega) ?_
  refine n_iconst (pc := 16) 1 dX8_spread_16 (by decide) ?_
  refine e_istore (pc := 17) dX8_spread_17 (by decide) ?_
  refine n_iconst (pc := 19) 0 dX8_spread_19 (by decide) ?_
  refine e_istore (pc := 20) dX8_spread_20 (by decide) ?_
  refine l_spread_i (i := 0) hp hn hq hab ha hfb hbs (fun g hg => ⟨g, rfl, hg⟩) n rfl (by omega) _ (fun y hy => ?_)
  have : y = 0 := by rw [Nat.pow_zero] at hy; omega
  subst this
  rw [pk_us, lin_0]
end SP
