/-! ===== how many elements have each rank ===== -/
theorem sg_first {f : Nat → Nat} : ∀ (n : Nat), sg (n + 1) f = f 0 + sg n (fun t => f (t + 1))
  | 0 => by show 0 + f 0 = f 0 + 0; omega
  | n + 1 => by
    show sg (n + 1) f + f (n + 1) = f 0 + (sg n (fun t => f (t + 1)) + f (n + 1))
    rw [sg_first n]
    omega
theorem sg_const (n c : Nat) : sg n (fun _ => c) = n * c := by
  induction n with
  | zero => show 0 = 0 * c; omega
  | succ n ih => show sg n (fun _ => c) + c = _; rw [ih, Nat.add_mul, Nat.one_mul]
theorem mf_mf {p a b x : Nat} (hp : 0 < p) (hx : x < p ^ 5) (hab : b * a % p = 1 % p) : mf p b (mf p a x) = x := by
  refine num_ext (mf_lt hp (Nat.le_refl _) (mf_lt hp (Nat.le_refl _) hx)) hx (fun i hi => ?_)
  rw [mf_dg hp hi, mf_dg hp hi, Nat.mul_mod, Nat.mod_mod, ← Nat.mul_mod, ← Nat.mul_assoc, Nat.mul_mod, hab, ← Nat.mul_mod, Nat.one_mul]
  exact Nat.mod_eq_of_lt (dg_lt hp x i)
theorem mf_block {p a d i x : Nat} (hp : 0 < p) (hi : i < 5) (hd : d < p) (h1 : d * p ^ i ≤ x) (h2 : x < (d + 1) * p ^ i) : a * d % p * p ^ i ≤ mf p a x ∧ mf p a x < (a * d % p + 1) * p ^ i := by
  have hpi : 0 < p ^ i := Nat.pow_pos hp
  have hx : x < p ^ (i + 1) := by
    rw [Nat.pow_succ, Nat.mul_comm]
    exact Nat.lt_of_lt_of_le h2 (Nat.mul_le_mul_right _ hd)
  have e0 : x / p ^ i = d := by
    refine Nat.le_antisymm ?_ ((Nat.le_div_iff_mul_le hpi).mpr h1)
    have : x / p ^ i < d + 1 := (Nat.div_lt_iff_lt_mul hpi).mpr h2
    omega
  have e1 : dg p (mf p a x) i = a * d % p := by
    rw [mf_dg hp hi]
    unfold dg
    rw [e0, Nat.mod_eq_of_lt hd]
  have e2 : mf p a x < p ^ (i + 1) := mf_lt hp (by omega) hx
  have e3 : mf p a x / p ^ i = a * d % p := by
    have : mf p a x / p ^ i < p := Nat.div_lt_of_lt_mul (by rw [← Nat.pow_succ]; exact e2)
    unfold dg at e1
    rw [Nat.mod_eq_of_lt this] at e1
    exact e1
  exact ⟨(Nat.le_div_iff_mul_le hpi).mp (by omega), (Nat.div_lt_iff_lt_mul hpi).mp (by omega)⟩
noncomputable def blk (W : Wd) (side i m r : Nat) : Nat := cn m (fun y => bl (rankE W side (W.1 ^ i + y) = r))
noncomputable def cntR (W : Wd) (side r : Nat) : Nat := cn (W.1 ^ W.2.1) (fun x => bl (0 < x ∧ rankE W side x = r))
theorem inv_inv1 {p d : Nat} (hp : Pm p) (h0 : 0 < d) (hd : d < p) : inv p d * d % p = 1 % p ∧ d * inv p d % p = 1 % p ∧ inv p d * d % p = 1 := by
  obtain ⟨a, b, c⟩ := inv_ok hp h0 hd
  have : 1 % p = 1 := by rcases hp with rfl | rfl | rfl <;> decide
  rw [this, Nat.mul_comm]
  exact ⟨c, c, c⟩
theorem blk_any {W : Wd} (hk : Wok W) (side : Nat) {i d r : Nat} (hi : i < W.2.1) (h0 : 0 < d) (hd : d < W.1) : cn (W.1 ^ i) (fun y => bl (rankE W side (d * W.1 ^ i + y) = r)) = blk W side i (W.1 ^ i) r := by
  obtain ⟨b1, b2, b3, b4, b5⟩ := hk.b
  have hp0 : 0 < W.1 := by omega
  obtain ⟨j1, j2, j3⟩ := inv_ok hk.1 h0 hd
  obtain ⟨k1, k2, k3⟩ := inv_inv1 hk.1 h0 hd
  have hN : 0 < W.1 ^ i := Nat.pow_pos hp0
  have hbig : ∀ e y, e < W.1 → y < W.1 ^ i → e * W.1 ^ i + y < W.1 ^ 5 := fun e y he hy => by
    have h1 : (e + 1) * W.1 ^ i ≤ W.1 * W.1 ^ i := Nat.mul_le_mul_right _ he
    have h2 : W.1 * W.1 ^ i ≤ W.1 ^ 5 := by rw [Nat.mul_comm, ← Nat.pow_succ]; exact Nat.pow_le_pow_right hp0 (by omega)
    rw [Nat.add_mul, Nat.one_mul] at h1
    omega
  have fwd : ∀ y, y < W.1 ^ i → W.1 ^ i ≤ mf W.1 (inv W.1 d) (d * W.1 ^ i + y) ∧ mf W.1 (inv W.1 d) (d * W.1 ^ i + y) < 2 * W.1 ^ i := fun y hy => by
    have := mf_block (a := inv W.1 d) hp0 (show i < 5 by omega) hd (Nat.le_add_right (d * W.1 ^ i) y) (by rw [Nat.add_mul, Nat.one_mul]; omega)
    rw [k3, Nat.one_mul] at this
    exact this
  have bwd : ∀ y, y < W.1 ^ i → d * W.1 ^ i ≤ mf W.1 d (W.1 ^ i + y) ∧ mf W.1 d (W.1 ^ i + y) < (d + 1) * W.1 ^ i := fun y hy => by
    have := mf_block (a := d) (d := 1) (x := W.1 ^ i + y) hp0 (show i < 5 by omega) (by omega) (by omega) (by omega)
    rw [Nat.mul_one, Nat.mod_eq_of_lt hd] at this
    exact this
  refine Nat.le_antisymm ?_ ?_
  · refine cn_inj _ _ _ _ (fun y => mf W.1 (inv W.1 d) (d * W.1 ^ i + y) - W.1 ^ i) (fun y hy hq => ?_) (fun x y hx hy _ _ e => ?_)
    · obtain ⟨q1, q2⟩ := fwd y hy
      refine ⟨by omega, ?_⟩
      rw [Nat.add_sub_cancel' q1, rank_mf hk side j1 j2]
      exact hq
    · obtain ⟨q1, q2⟩ := fwd x hx
      obtain ⟨q3, q4⟩ := fwd y hy
      have e2 : mf W.1 (inv W.1 d) (d * W.1 ^ i + x) = mf W.1 (inv W.1 d) (d * W.1 ^ i + y) := by omega
      have e3 := congrArg (mf W.1 d) e2
      rw [mf_mf hp0 (hbig d x hd hx) k2, mf_mf hp0 (hbig d y hd hy) k2] at e3
      omega
  · refine cn_inj _ _ _ _ (fun y => mf W.1 d (W.1 ^ i + y) - d * W.1 ^ i) (fun y hy hq => ?_) (fun x y hx hy _ _ e => ?_)
    · obtain ⟨q1, q2⟩ := bwd y hy
      rw [Nat.add_mul, Nat.one_mul] at q2
      refine ⟨by omega, ?_⟩
      rw [Nat.add_sub_cancel' q1, rank_mf hk side h0 hd]
      exact hq
    · obtain ⟨q1, q2⟩ := bwd x hx
      obtain ⟨q3, q4⟩ := bwd y hy
      have e2 : mf W.1 d (W.1 ^ i + x) = mf W.1 d (W.1 ^ i + y) := by omega
      have e3 := congrArg (mf W.1 (inv W.1 d)) e2
      have h1 : ∀ z, z < W.1 ^ i → W.1 ^ i + z < W.1 ^ 5 := fun z hz => by have := hbig 1 z (by omega) hz; rw [Nat.one_mul] at this; exact this
      rw [mf_mf hp0 (h1 x hx) k1, mf_mf hp0 (h1 y hy) k1] at e3
      omega
theorem cntR_eq {W : Wd} (hk : Wok W) (side r : Nat) : (W.1 - 1) * sg W.2.1 (fun i => blk W side i (W.1 ^ i) r) = cntR W side r := by
  obtain ⟨b1, b2, b3, b4, b5⟩ := hk.b
  have key : ∀ m, m ≤ W.2.1 → (W.1 - 1) * sg m (fun i => blk W side i (W.1 ^ i) r) = cn (W.1 ^ m) (fun x => bl (0 < x ∧ rankE W side x = r)) := by
    intro m
    induction m with
    | zero =>
      intro _
      show (W.1 - 1) * 0 = 0 + (if bl (0 < 0 ∧ _) = true then 1 else 0)
      rw [bl_f (fun q => absurd q.1 (Nat.lt_irrefl 0))]
      simp
    | succ m ih =>
      intro hm
      show (W.1 - 1) * (sg m (fun i => blk W side i (W.1 ^ i) r) + blk W side m (W.1 ^ m) r) = _
      rw [Nat.mul_add, ih (by omega), Nat.pow_succ, Nat.mul_comm (W.1 ^ m), cn_mul]
      obtain ⟨c, hc⟩ : ∃ c, W.1 = c + 1 := ⟨W.1 - 1, by omega⟩
      have hN : 0 < W.1 ^ m := Nat.pow_pos (by omega)
      rw [show W.1 - 1 = c by omega]
      rw [show sg W.1 (fun e => cn (W.1 ^ m) (fun y => bl (0 < e * W.1 ^ m + y ∧ rankE W side (e * W.1 ^ m + y) = r))) = sg (c + 1) (fun e => cn (W.1 ^ m) (fun y => bl (0 < e * W.1 ^ m + y ∧ rankE W side (e * W.1 ^ m + y) = r))) from congrArg (fun z => sg z _) hc]
      rw [sg_first, Nat.zero_mul]
      congr 1
      · exact cn_congr (fun y _ => by rw [Nat.zero_add])
      · rw [sg_congr (g := fun _ => blk W side m (W.1 ^ m) r) (fun e he => by
          rw [← blk_any hk side (d := e + 1) (by omega) (by omega) (by omega)]
          exact cn_congr (fun y _ => bl_congr ⟨fun q => q.2, fun q => ⟨by
            have : 1 * W.1 ^ m ≤ (e + 1) * W.1 ^ m := Nat.mul_le_mul_right _ (by omega)
            omega, q⟩⟩)), sg_const]
  exact key W.2.1 (Nat.le_refl _)
theorem cn_le (n : Nat) (P : Nat → Bool) : cn n P ≤ n := by
  induction n with
  | zero => exact Nat.le_refl 0
  | succ n ih => show cn n P + (if P n = true then 1 else 0) ≤ n + 1; split <;> omega
section FC
variable {h : AH} {E o : Nat} {W : Wd} {f : Int32}
section LC
variable {sz side b : Nat} {hh : AH}
/-- the counts so far -/
def CSt (h hh : AH) (E o b : Nat) (W : Wd) (f : Int32) (A : Nat → Nat) : Prop := FSh h E ∧ WAt h o W f ∧ Er E (E + 83) hh h ∧ (∀ a, E + 81 ≤ a → a ≠ b → h a = hh a) ∧ ∃ g, h b = some (aI 6 g) ∧ ∀ r, r < 6 → g r = nI (A r)
theorem l_cr_x {i : Nat} (hk : Wok W) (hs : side < 4) (d : o + 3 ≤ E ∨ E + 83 ≤ o) (hb : b = E + 81 ∨ b = E + 82) (hi : i < W.2.1) (A : Nat → Nat) {Pr : AH → Prop}
    (kk : ∀ h1, CSt h1 hh E o b W f (fun r => A r + (W.1 - 1) * blk W side i (W.1 ^ i) r) → VV MX1_countRanks sz Pr h1 95 [some (.ref (E + 79)), some (.ref o), some (.int (nI side)), some (.ref b), some (.int (nI i)), none, none] []) :
    ∀ (n m : Nat), n = W.1 ^ i - m → m ≤ W.1 ^ i → ∀ h1, CSt h1 hh E o b W f (fun r => A r + (W.1 - 1) * blk W side i m r) → VV MX1_countRanks sz Pr h1 41 [some (.ref (E + 79)), some (.ref o), some (.int (nI side)), some (.ref b), some (.int (nI i)), some (.int (nI (W.1 ^ i + m))), none] [] := by
  obtain ⟨b1, b2, b3, b4, b5⟩ := hk.b
  have q1 := (pp b1 b2 i (by omega)).2
  have q2 : 2 * W.1 ^ i ≤ W.1 ^ (i + 1) := by rw [Nat.pow_succ, Nat.mul_comm]; exact Nat.mul_le_mul_left _ b1
  have q4 : W.1 ^ (i + 1) ≤ W.1 ^ W.2.1 := Nat.pow_le_pow_right (by omega) (by omega)
  intro n
  induction n with
  | zero =>
    intro m e1 e2 h1 hC
    have e : m = W.1 ^ i := by omega
    subst e
    obtain ⟨c1, c2, c3, c4, g, c5, c6⟩ := id hC
    obtain ⟨w0, -, -⟩ := id c2
    refine e_iload (pc := 41) dX1_countRanks_41 rfl ?_
    refine n_iconst (pc := 43) 2 dX1_countRanks_43 (by decide) ?_
    refine e_aload_n (pc := 44) dX1_countRanks_44 rfl rfl ?_
    refine e_iload (pc := 45) dX1_countRanks_45 rfl ?_
    refine n_VP (pc := 47) (c_X9_base c2 hk (show i ≤ 5 by omega)) bX9_base q_i_X9_base q_s_X9_base q_m_X1_64 dX1_countRanks_47 rfl rfl (by repeat (first | assumption | exact hset_eq _ _ _ | rw [hset_ne _ _ (by omega)])) rfl rfl (by exact Nat.le_of_ble_eq_true rfl) ⟨by decide, by decide⟩ ⟨rfl, rfl, Nat.zero_le _, Nat.zero_le _⟩ ?_
    refine n_imul (pc := 50) dX1_countRanks_50 ?_
    refine n_icmp_ge (pc := 51) (tgt := 95) dX1_countRanks_51 (by decide) (by omega) (by omega) (fun hb_ => ?_) (fun c => absurd c (by omega))
    refine V.mask [true, true, true, true, true, false, false] ?_
    exact kk h1 hC
  | succ n ih =>
    intro m e1 e2 h1 hC
    obtain ⟨c1, c2, c3, c4, g, c5, c6⟩ := id hC
    obtain ⟨w0, -, -⟩ := id c2
    obtain ⟨-, g0, -, -, -⟩ := id c1
    refine e_iload (pc := 41) dX1_countRanks_41 rfl ?_
    refine n_iconst (pc := 43) 2 dX1_countRanks_43 (by decide) ?_
    refine e_aload_n (pc := 44) dX1_countRanks_44 rfl rfl ?_
    refine e_iload (pc := 45) dX1_countRanks_45 rfl ?_
    refine n_VP (pc := 47) (c_X9_base c2 hk (show i ≤ 5 by omega)) bX9_base q_i_X9_base q_s_X9_base q_m_X1_64 dX1_countRanks_47 rfl rfl (by repeat (first | assumption | exact hset_eq _ _ _ | rw [hset_ne _ _ (by omega)])) rfl rfl (by exact Nat.le_of_ble_eq_true rfl) ⟨by decide, by decide⟩ ⟨rfl, rfl, Nat.zero_le _, Nat.zero_le _⟩ ?_
    refine n_imul (pc := 50) dX1_countRanks_50 ?_
    refine n_icmp_ge (pc := 51) (tgt := 95) dX1_countRanks_51 (by decide) (by omega) (by omega) (fun c => absurd c (by omega)) (fun hb_ => ?_)
    refine e_aload_n (pc := 54) dX1_countRanks_54 rfl rfl ?_
    refine e_aload_n (pc := 55) dX1_countRanks_55 rfl rfl ?_
    refine e_iload_n (pc := 56) dX1_countRanks_56 rfl rfl ?_
    refine e_iload (pc := 57) dX1_countRanks_57 rfl ?_
    refine n_V (pc := 59) (c_X1_rankOf2 c1 c2 hk hs (by omega) d) bX1_rankOf q_i_X1_rankOf q_s_X1_rankOf q_m_X1_68 dX1_countRanks_59 rfl rfl (by repeat (first | assumption | exact hset_eq _ _ _ | rw [hset_ne _ _ (by omega)])) rfl rfl (by exact Nat.le_of_ble_eq_true rfl) ⟨by decide, by decide⟩ ⟨rfl, rfl, Nat.zero_le _, Nat.zero_le _⟩ (fun x h2 hp => ?_)
    obtain ⟨⟨rfl, p0⟩, p1, p2⟩ := hp
    have hW2 := c2.er (p2.mono (lo2 := E) (hi2 := E + 83) (by omega) (by omega)) (by omega)
    obtain ⟨w0, -, -⟩ := id hW2
    have c7 : h2 b = some (aI 6 g) := by rw [p2 b (by omega)]; exact c5
    have c8 := c6 (rankE W side (W.1 ^ i + m)) (by omega)
    refine e_istore (pc := 62) dX1_countRanks_62 (by decide) ?_
    refine e_iload (pc := 64) dX1_countRanks_64 rfl ?_
    refine n_if_lt (pc := 66) (tgt := 89) dX1_countRanks_66 (by omega) ?_ (by decide)
    refine e_iload (pc := 69) dX1_countRanks_69 rfl ?_
    refine e_aload_n (pc := 71) dX1_countRanks_71 rfl rfl ?_
    refine e_alenI (pc := 72) dX1_countRanks_72 (by repeat (first | assumption | exact hset_eq _ _ _ | rw [hset_ne _ _ (by omega)])) ?_
    refine n_icmp_ge (pc := 73) (tgt := 89) dX1_countRanks_73 (by decide) (by omega) (by omega) (fun c => absurd c (by omega)) (fun hb_ => ?_)
    refine e_aload_n (pc := 76) dX1_countRanks_76 rfl rfl ?_
    refine e_iload (pc := 77) dX1_countRanks_77 rfl ?_
    refine e_dup2 (pc := 79) dX1_countRanks_79 rfl rfl ?_
    refine e_ialdN (pc := 80) _ dX1_countRanks_80 (by repeat (first | assumption | exact hset_eq _ _ _ | rw [hset_ne _ _ (by omega)])) (by rfl) (by omega) (by first | decide | omega) ?_
    rw [c8]
    refine e_aload_n (pc := 81) dX1_countRanks_81 rfl rfl ?_
    refine n_VP (pc := 82) (c_X9_prime hW2) bX9_prime q_i_X9_prime q_s_X9_prime q_m_X1_31 dX1_countRanks_82 rfl rfl (by repeat (first | assumption | exact hset_eq _ _ _ | rw [hset_ne _ _ (by omega)])) rfl rfl (by exact Nat.le_of_ble_eq_true rfl) ⟨by decide, by decide⟩ ⟨rfl, rfl, Nat.zero_le _, Nat.zero_le _⟩ ?_
    refine n_iconst (pc := 85) 1 dX1_countRanks_85 (by decide) ?_
    refine n_isub (pc := 86) dX1_countRanks_86 (by omega) ?_
    refine n_iadd (pc := 87) dX1_countRanks_87 ?_
    refine e_iastN (pc := 88) _ dX1_countRanks_88 (by repeat (first | assumption | exact hset_eq _ _ _ | rw [hset_ne _ _ (by omega)])) (by rfl) (by omega) (by first | decide | omega) ?_
    refine n_inc (pc := 89) dX1_countRanks_89 rfl (by decide) ?_
    refine e_goto (pc := 92) (tgt := 41) dX1_countRanks_92 (by decide) ?_
    refine V.mask [true, true, true, true, true, true, false] ?_
    refine ih (m + 1) (by omega) (by omega) _ ⟨p1.far2 (by omega), ?_, ?_, ?_, _, hset_eq _ _ _, fun r hr => ?_⟩
    · exact hW2.er (lo := E) (hi := E + 83) ((Er.rf _ _ _).set (by omega)) (by omega)
    · exact (c3.tr (p2.mono (by omega) (by omega))).set (by omega)
    · intro a ha hab
      rw [hset_ne _ _ hab, p2 a (by omega)]
      exact c4 a ha hab
    · show upd g (rankE W side (W.1 ^ i + m)) _ r = nI (A r + (W.1 - 1) * (cn m _ + if bl (rankE W side (W.1 ^ i + m) = r) = true then 1 else 0))
      by_cases e : r = rankE W side (W.1 ^ i + m)
      · rw [e, pk_us, bl_t rfl, if_pos rfl, Nat.mul_add, Nat.mul_one, ← Nat.add_assoc]
        rfl
      · rw [pk_un e, bl_f (fun z => e z.symm), if_neg (by decide), Nat.add_zero]
        exact c6 r hr
theorem l_cr_i (hk : Wok W) (hs : side < 4) (d : o + 3 ≤ E ∨ E + 83 ≤ o) (hb : b = E + 81 ∨ b = E + 82) {Pr : AH → Prop}
    (kk : ∀ h1, CSt h1 hh E o b W f (cntR W side) → Pr h1) :
    ∀ (n i : Nat), n = W.2.1 - i → i ≤ W.2.1 → ∀ h1, CSt h1 hh E o b W f (fun r => (W.1 - 1) * sg i (fun i => blk W side i (W.1 ^ i) r)) → VV MX1_countRanks sz Pr h1 24 [some (.ref (E + 79)), some (.ref o), some (.int (nI side)), some (.ref b), some (.int (nI i)), none, none] [] := by
  obtain ⟨b1, b2, b3, b4, b5⟩ := hk.b
  intro n
  induction n with
  | zero =>
    intro i e1 e2 h1 hC
    have e : i = W.2.1 := by omega
    subst e
    obtain ⟨c1, c2, c3, c4, g, c5, c6⟩ := id hC
    obtain ⟨w0, -, -⟩ := id c2
    refine e_iload (pc := 24) dX1_countRanks_24 rfl ?_
    refine e_aload_n (pc := 26) dX1_countRanks_26 rfl rfl ?_
    refine n_VP (pc := 27) (c_X9_size c2) bX9_size q_i_X9_size q_s_X9_size q_m_X1_25 dX1_countRanks_27 rfl rfl (by repeat (first | assumption | exact hset_eq _ _ _ | rw [hset_ne _ _ (by omega)])) rfl rfl (by exact Nat.le_of_ble_eq_true rfl) ⟨by decide, by decide⟩ ⟨rfl, rfl, Nat.zero_le _, Nat.zero_le _⟩ ?_
    refine n_icmp_ge (pc := 30) (tgt := 101) dX1_countRanks_30 (by decide) (by omega) (by omega) (fun hb_ => ?_) (fun c => absurd c (by omega))
    refine n_vret (pc := 101) dX1_countRanks_101 rfl (kk h1 ⟨c1, c2, c3, c4, g, c5, fun r hr => ?_⟩)
    rw [c6 r hr]
    exact congrArg nI (cntR_eq hk side r)
  | succ n ih =>
    intro i e1 e2 h1 hC
    obtain ⟨c1, c2, c3, c4, g, c5, c6⟩ := id hC
    obtain ⟨w0, -, -⟩ := id c2
    refine e_iload (pc := 24) dX1_countRanks_24 rfl ?_
    refine e_aload_n (pc := 26) dX1_countRanks_26 rfl rfl ?_
    refine n_VP (pc := 27) (c_X9_size c2) bX9_size q_i_X9_size q_s_X9_size q_m_X1_25 dX1_countRanks_27 rfl rfl (by repeat (first | assumption | exact hset_eq _ _ _ | rw [hset_ne _ _ (by omega)])) rfl rfl (by exact Nat.le_of_ble_eq_true rfl) ⟨by decide, by decide⟩ ⟨rfl, rfl, Nat.zero_le _, Nat.zero_le _⟩ ?_
    refine n_icmp_ge (pc := 30) (tgt := 101) dX1_countRanks_30 (by decide) (by omega) (by omega) (fun c => absurd c (by omega)) (fun hb_ => ?_)
    refine e_aload_n (pc := 33) dX1_countRanks_33 rfl rfl ?_
    refine e_iload (pc := 34) dX1_countRanks_34 rfl ?_
    refine n_VP (pc := 36) (c_X9_base c2 hk (show i ≤ 5 by omega)) bX9_base q_i_X9_base q_s_X9_base q_m_X1_64 dX1_countRanks_36 rfl rfl (by repeat (first | assumption | exact hset_eq _ _ _ | rw [hset_ne _ _ (by omega)])) rfl rfl (by exact Nat.le_of_ble_eq_true rfl) ⟨by decide, by decide⟩ ⟨rfl, rfl, Nat.zero_le _, Nat.zero_le _⟩ ?_
    refine e_istore (pc := 39) dX1_countRanks_39 (by decide) ?_
    refine l_cr_x (i := i) (hh := hh) (f := f) hk hs d hb (show i < W.2.1 by omega) (fun r => (W.1 - 1) * sg i (fun i => blk W side i (W.1 ^ i) r)) (fun h3 hC3 => ?_) (W.1 ^ i - 0) 0 rfl (by omega) h1 ?_
    · refine n_inc (pc := 95) dX1_countRanks_95 rfl (by decide) ?_
      refine e_goto (pc := 98) (tgt := 24) dX1_countRanks_98 (by decide) ?_
      refine ih (i + 1) (by omega) (by omega) h3 ?_
      obtain ⟨c1, c2, c3, c4, g, c5, c6⟩ := hC3
      refine ⟨c1, c2, c3, c4, g, c5, fun r hr => ?_⟩
      rw [c6 r hr]
      dsimp only
      rw [← Nat.mul_add]
      rfl
    · refine ⟨c1, c2, c3, c4, g, c5, fun r hr => ?_⟩
      rw [c6 r hr]
      show _ = nI (_ + (W.1 - 1) * 0)
      rw [Nat.mul_zero, Nat.add_zero]
theorem l_cr_z (hF : FSh h E) (hW : WAt h o W f) (hk : Wok W) (d : o + 3 ≤ E ∨ E + 83 ≤ o) (hb : b = E + 81 ∨ b = E + 82) {Pr : AH → Prop}
    (kk : ∀ h1, CSt h1 h E o b W f (fun _ => 0) → VV MX1_countRanks sz Pr h1 21 [some (.ref (E + 79)), some (.ref o), some (.int (nI side)), some (.ref b), none, none, none] []) :
    ∀ (n t : Nat), n = 6 - t → t ≤ 6 → ∀ g, (∀ s, s < t → g s = nI 0) → VV MX1_countRanks sz Pr (hset h b (aI 6 g)) 3 [some (.ref (E + 79)), some (.ref o), some (.int (nI side)), some (.ref b), some (.int (nI t)), none, none] [] := by
  intro n
  induction n with
  | zero =>
    intro t e1 e2 g hg
    have e : t = 6 := by omega
    subst e
    refine e_iload (pc := 3) dX1_countRanks_3 rfl ?_
    refine e_aload_n (pc := 5) dX1_countRanks_5 rfl rfl ?_
    refine e_alenI (pc := 6) dX1_countRanks_6 (by repeat (first | assumption | exact hset_eq _ _ _ | rw [hset_ne _ _ (by omega)])) ?_
    refine n_icmp_ge (pc := 7) (tgt := 21) dX1_countRanks_7 (by decide) (by omega) (by omega) (fun hb_ => ?_) (fun c => absurd c (by omega))
    refine V.mask [true, true, true, true, false, false, false] ?_
    refine kk _ ⟨hF.far2 (by omega), hW.er (lo := E) (hi := E + 83) ((Er.rf _ _ _).set (by omega)) (by omega), (Er.rf _ _ _).set (by omega), fun a ha hab => hset_ne _ _ hab, g, hset_eq _ _ _, hg⟩
  | succ n ih =>
    intro t e1 e2 g hg
    refine e_iload (pc := 3) dX1_countRanks_3 rfl ?_
    refine e_aload_n (pc := 5) dX1_countRanks_5 rfl rfl ?_
    refine e_alenI (pc := 6) dX1_countRanks_6 (by repeat (first | assumption | exact hset_eq _ _ _ | rw [hset_ne _ _ (by omega)])) ?_
    refine n_icmp_ge (pc := 7) (tgt := 21) dX1_countRanks_7 (by decide) (by omega) (by omega) (fun c => absurd c (by omega)) (fun hb_ => ?_)
    refine e_aload_n (pc := 10) dX1_countRanks_10 rfl rfl ?_
    refine e_iload (pc := 11) dX1_countRanks_11 rfl ?_
    refine n_iconst (pc := 13) 0 dX1_countRanks_13 (by decide) ?_
    refine e_iastN (pc := 14) _ dX1_countRanks_14 (by repeat (first | assumption | exact hset_eq _ _ _ | rw [hset_ne _ _ (by omega)])) (by rfl) (by omega) (by first | decide | omega) ?_
    refine n_inc (pc := 15) dX1_countRanks_15 rfl (by decide) ?_
    refine e_goto (pc := 18) (tgt := 3) dX1_countRanks_18 (by decide) ?_
    rw [hset_hset]
    refine ih (t + 1) (by omega) (by omega) _ (fun s hs => ?_)
    by_cases e : s = t
    · subst e; exact pk_us
    · rw [pk_un e]; exact hg s (by omega)
theorem c_X1_countRanks (hF : FSh h E) (hW : WAt h o W f) (hk : Wok W) (hs : side < 4) (d : o + 3 ≤ E ∨ E + 83 ≤ o) (hb : b = E + 81 ∨ b = E + 82) : CV yX1_countRanks MX1_countRanks [.ref (E + 79), .ref o, .int (nI side), .ref b] h (fun h' => CSt h' h E o b W f (cntR W side)) := by
  obtain ⟨-, -, -, ⟨f4, a4⟩, ⟨f5, a5⟩⟩ := id hF
  have hx : ∃ g, h b = some (aI 6 g) := by rcases hb with rfl | rfl <;> exact ⟨_, by assumption⟩
  obtain ⟨g, hg⟩ := hx
  refine CV.ofV (by decide) rfl rfl (by simp [Value.category]) (by exact Nat.le_of_ble_eq_true rfl) (fun sz => ?_)
  refine n_iconst (pc := 0) 0 dX1_countRanks_0 (by decide) ?_
  refine e_istore (pc := 1) dX1_countRanks_1 (by decide) ?_
  refine e_heap (hset_self hg).symm ?_
  refine l_cr_z hF hW hk d hb (fun h1 hC => ?_) 6 0 rfl (by omega) g (fun s hs => absurd hs (Nat.not_lt_zero s))
  refine n_iconst (pc := 21) 0 dX1_countRanks_21 (by decide) ?_
  refine e_istore (pc := 22) dX1_countRanks_22 (by decide) ?_
  refine l_cr_i hk hs d hb (fun h2 q => q) W.2.1 0 rfl (by omega) h1 ?_
  obtain ⟨c1, c2, c3, c4, g, c5, c6⟩ := hC
  exact ⟨c1, c2, c3, c4, g, c5, fun r hr => c6 r hr⟩
end LC
theorem cntR_le {W : Wd} (hk : Wok W) (side r : Nat) : cntR W side r ≤ 243 := Nat.le_trans (cn_le _ _) hk.b.2.2.2.2
theorem c_X1_howManyOfRank {side r : Nat} (hF : FSh h E) (hW : WAt h o W f) (hk : Wok W) (hs : side < 4) (d : o + 3 ≤ E ∨ E + 83 ≤ o) (hr : r ≤ 5) : CI yX1_howManyOfRank MX1_howManyOfRank [.ref (E + 79), .ref o, .int (nI side), .int (nI r)] h (fun z h' => z = nI (cntR W side r) ∧ FSh h' E ∧ Er E (E + 83) h h') := by
  obtain ⟨-, g0, -, -, -⟩ := id hF
  refine CI.ofV (by decide) rfl rfl (by simp [Value.category]) (by exact Nat.le_of_ble_eq_true rfl) (fun sz => ?_)
  refine e_aload_n (pc := 0) dX1_howManyOfRank_0 rfl rfl ?_
  refine e_aload_n (pc := 1) dX1_howManyOfRank_1 rfl rfl ?_
  refine e_iload_n (pc := 2) dX1_howManyOfRank_2 rfl rfl ?_
  refine e_aload_n (pc := 3) dX1_howManyOfRank_3 rfl rfl ?_
  refine e_get (pc := 4) fl_X1_15 dX1_howManyOfRank_4 (by repeat (first | assumption | exact hset_eq _ _ _ | rw [hset_ne _ _ (by omega)])) (by rfl) ?_
  refine n_Vv (pc := 7) (c_X1_countRanks hF hW hk hs d (Or.inl rfl)) bX1_countRanks q_i_X1_countRanks q_s_X1_countRanks q_m_X1_72 dX1_howManyOfRank_7 rfl rfl (by repeat (first | assumption | exact hset_eq _ _ _ | rw [hset_ne _ _ (by omega)])) rfl rfl (by exact Nat.le_of_ble_eq_true rfl) ⟨by decide, by decide⟩ ⟨rfl, rfl, Nat.zero_le _, Nat.zero_le _⟩ (fun h2 hp => ?_)
  obtain ⟨c1, c2, c3, c4, g, c5, c6⟩ := hp
  obtain ⟨-, g0, -, -, -⟩ := id c1
  have c7 := c6 r (by omega)
  refine e_iload_n (pc := 10) dX1_howManyOfRank_10 rfl rfl ?_
  refine n_if_lt (pc := 11) (tgt := 32) dX1_howManyOfRank_11 (by omega) ?_ (by decide)
  refine e_iload_n (pc := 14) dX1_howManyOfRank_14 rfl rfl ?_
  refine e_aload_n (pc := 15) dX1_howManyOfRank_15 rfl rfl ?_
  refine e_get (pc := 16) fl_X1_15 dX1_howManyOfRank_16 (by repeat (first | assumption | exact hset_eq _ _ _ | rw [hset_ne _ _ (by omega)])) (by rfl) ?_
  refine e_alenI (pc := 19) dX1_howManyOfRank_19 (by repeat (first | assumption | exact hset_eq _ _ _ | rw [hset_ne _ _ (by omega)])) ?_
  refine n_icmp_ge (pc := 20) (tgt := 32) dX1_howManyOfRank_20 (by decide) (by omega) (by omega) (fun c => absurd c (by omega)) (fun hb_ => ?_)
  refine e_aload_n (pc := 23) dX1_howManyOfRank_23 rfl rfl ?_
  refine e_get (pc := 24) fl_X1_15 dX1_howManyOfRank_24 (by repeat (first | assumption | exact hset_eq _ _ _ | rw [hset_ne _ _ (by omega)])) (by rfl) ?_
  refine e_iload_n (pc := 27) dX1_howManyOfRank_27 rfl rfl ?_
  refine e_ialdN (pc := 28) _ dX1_howManyOfRank_28 (by repeat (first | assumption | exact hset_eq _ _ _ | rw [hset_ne _ _ (by omega)])) (by rfl) (by omega) (by first | decide | omega) ?_
  rw [c7]
  refine e_goto (pc := 29) (tgt := 33) dX1_howManyOfRank_29 (by decide) ?_
  exact n_iret (pc := 33) dX1_howManyOfRank_33 rfl ⟨rfl, c1, c3⟩
theorem l_wp_r {sz side o2 : Nat} {W2 : Wd} {f2 : Int32} {hh : AH} (hk : Wok W) (hk2 : Wok W2) (hs : side < 3) {A B : Nat → Nat} (hA : ∀ r, A r ≤ 243) (hB : ∀ r, B r ≤ 243) {h1 : AH} (hF : FSh h1 E) {g1 g2 : Nat → Int32} (q1 : h1 (E + 81) = some (aI 6 g1)) (q2 : h1 (E + 82) = some (aI 6 g2)) (r1 : ∀ r, r < 6 → g1 r = nI (A r)) (r2 : ∀ r, r < 6 → g2 r = nI (B r)) {Pr : Int32 → AH → Prop}
    (kf : (∃ r, r ≤ 5 ∧ A r ≠ B r) → Pr (nI side) h1)
    (kk : (∀ r, r ≤ 5 → A r = B r) → VI MX1_whatParts sz Pr h1 61 [some (.ref (E + 79)), some (.ref o), some (.ref o2), some (.int (nI side)), none] []) :
    ∀ (n t : Nat), n = 6 - t → t ≤ 6 → (∀ r, r < t → A r = B r) → VI MX1_whatParts sz Pr h1 30 [some (.ref (E + 79)), some (.ref o), some (.ref o2), some (.int (nI side)), some (.int (nI t))] [] := by
  obtain ⟨-, g0, -, -, -⟩ := id hF
  intro n
  induction n with
  | zero =>
    intro t e1 e2 ht
    have e : t = 6 := by omega
    subst e
    refine e_iload (pc := 30) dX1_whatParts_30 rfl ?_
    refine n_iconst (pc := 32) 5 dX1_whatParts_32 (by decide) ?_
    refine n_icmp_gt (pc := 33) (tgt := 61) dX1_whatParts_33 (by decide) (by omega) (by omega) (fun hb_ => ?_) (fun c => absurd c (by omega))
    refine V.mask [true, true, true, true, false] ?_
    exact kk (fun r hr => ht r (by omega))
  | succ n ih =>
    intro t e1 e2 ht
    have a1 := r1 t (by omega)
    have a2 := r2 t (by omega)
    have a3 := hA t
    have a4 := hB t
    refine e_iload (pc := 30) dX1_whatParts_30 rfl ?_
    refine n_iconst (pc := 32) 5 dX1_whatParts_32 (by decide) ?_
    refine n_icmp_gt (pc := 33) (tgt := 61) dX1_whatParts_33 (by decide) (by omega) (by omega) (fun c => absurd c (by omega)) (fun hb_ => ?_)
    refine e_aload_n (pc := 36) dX1_whatParts_36 rfl rfl ?_
    refine e_get (pc := 37) fl_X1_15 dX1_whatParts_37 (by repeat (first | assumption | exact hset_eq _ _ _ | rw [hset_ne _ _ (by omega)])) (by rfl) ?_
    refine e_iload (pc := 40) dX1_whatParts_40 rfl ?_
    refine e_ialdN (pc := 42) _ dX1_whatParts_42 (by repeat (first | assumption | exact hset_eq _ _ _ | rw [hset_ne _ _ (by omega)])) (by rfl) (by omega) (by first | decide | omega) ?_
    rw [a1]
    refine e_aload_n (pc := 43) dX1_whatParts_43 rfl rfl ?_
    refine e_get (pc := 44) fl_X1_18 dX1_whatParts_44 (by repeat (first | assumption | exact hset_eq _ _ _ | rw [hset_ne _ _ (by omega)])) (by rfl) ?_
    refine e_iload (pc := 47) dX1_whatParts_47 rfl ?_
    refine e_ialdN (pc := 49) _ dX1_whatParts_49 (by repeat (first | assumption | exact hset_eq _ _ _ | rw [hset_ne _ _ (by omega)])) (by rfl) (by omega) (by first | decide | omega) ?_
    rw [a2]
    refine n_icmp_eq (pc := 50) (tgt := 55) dX1_whatParts_50 (by decide) (by omega) (by omega) (fun hab => ?_) (fun hab => ?_)
    · refine n_inc (pc := 55) dX1_whatParts_55 rfl (by decide) ?_
      refine e_goto (pc := 58) (tgt := 30) dX1_whatParts_58 (by decide) ?_
      refine ih (t + 1) (by omega) (by omega) (fun r hr => ?_)
      by_cases e : r = t
      · subst e; exact hab
      · exact ht r (by omega)
    · refine e_iload_n (pc := 53) dX1_whatParts_53 rfl rfl ?_
      exact n_iret (pc := 54) dX1_whatParts_54 rfl (kf ⟨t, by omega, hab⟩)
/-- what parts two worlds -/
def Parts (W W2 : Wd) (z : Int32) : Prop :=
  (∃ s, s < 3 ∧ z = nI s ∧ (∃ r, r ≤ 5 ∧ cntR W s r ≠ cntR W2 s r) ∧ ∀ s2, s2 < s → ∀ r, r ≤ 5 → cntR W s2 r = cntR W2 s2 r) ∨
  ((∀ s2, s2 < 3 → ∀ r, r ≤ 5 → cntR W s2 r = cntR W2 s2 r) ∧ ((z = 3 ∧ 3 * (W.2.1 * W.2.1) - rkD W (3 * (W.2.1 * W.2.1)) (W.2.1 * W.2.1) (2 * (W.2.1 * W.2.1)) ≠ 3 * (W2.2.1 * W2.2.1) - rkD W2 (3 * (W2.2.1 * W2.2.1)) (W2.2.1 * W2.2.1) (2 * (W2.2.1 * W2.2.1))) ∨ (z = -1 ∧ 3 * (W.2.1 * W.2.1) - rkD W (3 * (W.2.1 * W.2.1)) (W.2.1 * W.2.1) (2 * (W.2.1 * W.2.1)) = 3 * (W2.2.1 * W2.2.1) - rkD W2 (3 * (W2.2.1 * W2.2.1)) (W2.2.1 * W2.2.1) (2 * (W2.2.1 * W2.2.1)))))
theorem l_wp {sz o2 : Nat} {W2 : Wd} {f2 : Int32} {hh : AH} (hk : Wok W) (hk2 : Wok W2) (d : o + 3 ≤ E ∨ E + 83 ≤ o) (d2 : o2 + 3 ≤ E ∨ E + 83 ≤ o2) :
    ∀ (n s : Nat), n = 3 - s → s ≤ 3 → ∀ h1, FSh h1 E → WAt h1 o W f → WAt h1 o2 W2 f2 → Er E (E + 83) hh h1 → (∀ s2, s2 < s → ∀ r, r ≤ 5 → cntR W s2 r = cntR W2 s2 r) → VI MX1_whatParts sz (fun z h' => Parts W W2 z ∧ FSh h' E ∧ Er E (E + 83) hh h') h1 2 [some (.ref (E + 79)), some (.ref o), some (.ref o2), some (.int (nI s)), none] [] := by
  obtain ⟨b1, b2, b3, b4, b5⟩ := hk.b
  obtain ⟨c1, c2, c3, c4, c5⟩ := hk2.b
  intro n
  induction n with
  | zero =>
    intro s e1 e2 h1 hF hW hW2 he hr
    have e : s = 3 := by omega
    subst e
    obtain ⟨-, g0, -, -, -⟩ := id hF
    have m1 : W.2.1 * W.2.1 ≤ 5 * 5 := Nat.mul_le_mul b4 b4
    have m2 : W2.2.1 * W2.2.1 ≤ 5 * 5 := Nat.mul_le_mul c4 c4
    refine e_iload_n (pc := 2) dX1_whatParts_2 rfl rfl ?_
    refine n_iconst (pc := 3) 2 dX1_whatParts_3 (by decide) ?_
    refine n_icmp_gt (pc := 4) (tgt := 67) dX1_whatParts_4 (by decide) (by omega) (by omega) (fun hb_ => ?_) (fun c => absurd c (by omega))
    refine e_aload_n (pc := 67) dX1_whatParts_67 rfl rfl ?_
    refine e_aload_n (pc := 68) dX1_whatParts_68 rfl rfl ?_
    refine n_V (pc := 69) (c_X1_triples hF hW hk d) bX1_triples q_i_X1_triples q_s_X1_triples q_m_X1_80 dX1_whatParts_69 rfl rfl (by repeat (first | assumption | exact hset_eq _ _ _ | rw [hset_ne _ _ (by omega)])) rfl rfl (by exact Nat.le_of_ble_eq_true rfl) ⟨by decide, by decide⟩ ⟨rfl, rfl, Nat.zero_le _, Nat.zero_le _⟩ (fun x h2 hp => ?_)
    obtain ⟨⟨rfl, p0⟩, p1, p2⟩ := hp
    obtain ⟨-, g0, -, -, -⟩ := id p1
    refine e_aload_n (pc := 72) dX1_whatParts_72 rfl rfl ?_
    refine e_aload_n (pc := 73) dX1_whatParts_73 rfl rfl ?_
    refine n_V (pc := 74) (c_X1_triples p1 (hW2.er p2 (by omega)) hk2 d2) bX1_triples q_i_X1_triples q_s_X1_triples q_m_X1_80 dX1_whatParts_74 rfl rfl (by assumption) rfl rfl (by exact Nat.le_of_ble_eq_true rfl) ⟨by decide, by decide⟩ ⟨rfl, rfl, Nat.zero_le _, Nat.zero_le _⟩ (fun x h3 hp => ?_)
    obtain ⟨⟨rfl, p3⟩, p4, p5⟩ := hp
    refine n_icmp_eq (pc := 77) (tgt := 84) dX1_whatParts_77 (by decide) (by omega) (by omega) (fun hab => ?_) (fun hab => ?_)
    · refine e_iconst (pc := 84) (v := -1) dX1_whatParts_84 (by decide) ?_
      exact n_iret (pc := 85) dX1_whatParts_85 rfl ⟨Or.inr ⟨hr, Or.inr ⟨rfl, hab⟩⟩, p4, he.tr (p2.tr p5)⟩
    · refine n_iconst (pc := 80) 3 dX1_whatParts_80 (by decide) ?_
      refine e_goto (pc := 81) (tgt := 85) dX1_whatParts_81 (by decide) ?_
      exact n_iret (pc := 85) dX1_whatParts_85 rfl ⟨Or.inr ⟨hr, Or.inl ⟨rfl, hab⟩⟩, p4, he.tr (p2.tr p5)⟩
  | succ n ih =>
    intro s e1 e2 h1 hF hW hW2 he hr
    obtain ⟨-, g0, -, -, -⟩ := id hF
    refine e_iload_n (pc := 2) dX1_whatParts_2 rfl rfl ?_
    refine n_iconst (pc := 3) 2 dX1_whatParts_3 (by decide) ?_
    refine n_icmp_gt (pc := 4) (tgt := 67) dX1_whatParts_4 (by decide) (by omega) (by omega) (fun c => absurd c (by omega)) (fun hb_ => ?_)
    refine e_aload_n (pc := 7) dX1_whatParts_7 rfl rfl ?_
    refine e_aload_n (pc := 8) dX1_whatParts_8 rfl rfl ?_
    refine e_iload_n (pc := 9) dX1_whatParts_9 rfl rfl ?_
    refine e_aload_n (pc := 10) dX1_whatParts_10 rfl rfl ?_
    refine e_get (pc := 11) fl_X1_15 dX1_whatParts_11 (by repeat (first | assumption | exact hset_eq _ _ _ | rw [hset_ne _ _ (by omega)])) (by rfl) ?_
    refine n_Vv (pc := 14) (c_X1_countRanks hF hW hk (show s < 4 by omega) d (Or.inl rfl)) bX1_countRanks q_i_X1_countRanks q_s_X1_countRanks q_m_X1_72 dX1_whatParts_14 rfl rfl (by repeat (first | assumption | exact hset_eq _ _ _ | rw [hset_ne _ _ (by omega)])) rfl rfl (by exact Nat.le_of_ble_eq_true rfl) ⟨by decide, by decide⟩ ⟨rfl, rfl, Nat.zero_le _, Nat.zero_le _⟩ (fun h2 hp => ?_)
    obtain ⟨u1, u2, u3, u4, g, u5, u6⟩ := hp
    obtain ⟨-, g0, -, -, -⟩ := id u1
    refine e_aload_n (pc := 17) dX1_whatParts_17 rfl rfl ?_
    refine e_aload_n (pc := 18) dX1_whatParts_18 rfl rfl ?_
    refine e_iload_n (pc := 19) dX1_whatParts_19 rfl rfl ?_
    refine e_aload_n (pc := 20) dX1_whatParts_20 rfl rfl ?_
    refine e_get (pc := 21) fl_X1_18 dX1_whatParts_21 (by repeat (first | assumption | exact hset_eq _ _ _ | rw [hset_ne _ _ (by omega)])) (by rfl) ?_
    refine n_Vv (pc := 24) (c_X1_countRanks u1 (hW2.er u3 (by omega)) hk2 (show s < 4 by omega) d2 (Or.inr rfl)) bX1_countRanks q_i_X1_countRanks q_s_X1_countRanks q_m_X1_72 dX1_whatParts_24 rfl rfl (by assumption) rfl rfl (by exact Nat.le_of_ble_eq_true rfl) ⟨by decide, by decide⟩ ⟨rfl, rfl, Nat.zero_le _, Nat.zero_le _⟩ (fun h3 hp => ?_)
    obtain ⟨v1, v2, v3, v4, gg, v5, v6⟩ := hp
    refine n_iconst (pc := 27) 0 dX1_whatParts_27 (by decide) ?_
    refine e_istore (pc := 28) dX1_whatParts_28 (by decide) ?_
    refine l_wp_r (hh := hh) (W := W) (W2 := W2) (f2 := f2) hk hk2 (show s < 3 by omega) (fun r => cntR_le hk s r) (fun r => cntR_le hk2 s r) v1 (by rw [v4 _ (by omega) (by omega)]; exact u5) v5 u6 v6 (fun q => ⟨Or.inl ⟨s, by omega, rfl, q, hr⟩, v1, he.tr (u3.tr v3)⟩) (fun q => ?_) 6 0 rfl (by omega) (fun r hr => absurd hr (Nat.not_lt_zero r))
    refine n_inc (pc := 61) dX1_whatParts_61 rfl (by decide) ?_
    refine e_goto (pc := 64) (tgt := 2) dX1_whatParts_64 (by decide) ?_
    refine ih (s + 1) (by omega) (by omega) h3 v1 (u2.er v3 (by omega)) v2 (he.tr (u3.tr v3)) (fun s2 hs2 r hr2 => ?_)
    by_cases e : s2 = s
    · subst e; exact q r hr2
    · exact hr s2 (by omega) r hr2
theorem c_X1_whatParts {o2 : Nat} {W2 : Wd} {f2 : Int32} (hF : FSh h E) (hW : WAt h o W f) (hW2 : WAt h o2 W2 f2) (hk : Wok W) (hk2 : Wok W2) (d : o + 3 ≤ E ∨ E + 83 ≤ o) (d2 : o2 + 3 ≤ E ∨ E + 83 ≤ o2) : CI yX1_whatParts MX1_whatParts [.ref (E + 79), .ref o, .ref o2] h (fun z h' => Parts W W2 z ∧ FSh h' E ∧ Er E (E + 83) h h') := by
  refine CI.ofV (by decide) rfl rfl (by simp [Value.category]) (by exact Nat.le_of_ble_eq_true rfl) (fun sz => ?_)
  refine n_iconst (pc := 0) 0 dX1_whatParts_0 (by decide) ?_
  refine e_istore_n (pc := 1) dX1_whatParts_1 rfl (by decide) ?_
  exact l_wp hk hk2 d d2 3 0 rfl (by omega) h hF hW hW2 (Er.rf _ _ h) (fun s2 hs => absurd hs (Nat.not_lt_zero s2))
end FC
