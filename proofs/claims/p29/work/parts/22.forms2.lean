/-! ===== ranks of elements: as a function; multiples have like ranks ===== -/
theorem cn_remove {P : Nat → Bool} {a : Nat} : ∀ {M : Nat}, a < M → P a = true → cn M P = cn M (fun x => P x && !decide (x = a)) + 1
  | 0, h, _ => absurd h (Nat.not_lt_zero a)
  | M + 1, h, hp => by
    show cn M P + (if P M = true then 1 else 0) = cn M (fun x => P x && !decide (x = a)) + (if (P M && !decide (M = a)) = true then 1 else 0) + 1
    by_cases e : a = M
    · subst e
      rw [if_pos hp, if_neg (by simp)]
      congr 1
      exact cn_congr (fun x hx => by
        have : ¬ x = a := by omega
        simp [this])
    · have : ¬ M = a := fun z => e z.symm
      rw [cn_remove (M := M) (by omega) hp]
      simp only [this, decide_false, Bool.not_false, Bool.and_true]
      omega
/-- one to one into: no more -/
theorem cn_inj : ∀ (N : Nat) (Q P : Nat → Bool) (M : Nat) (σ : Nat → Nat), (∀ x, x < N → Q x = true → σ x < M ∧ P (σ x) = true) → (∀ x y, x < N → y < N → Q x = true → Q y = true → σ x = σ y → x = y) → cn N Q ≤ cn M P
  | 0, _, _, _, _, _, _ => Nat.zero_le _
  | N + 1, Q, P, M, σ, h1, h2 => by
    show cn N Q + (if Q N = true then 1 else 0) ≤ cn M P
    by_cases e : Q N = true
    · obtain ⟨a1, a2⟩ := h1 N (by omega) e
      rw [if_pos e, cn_remove a1 a2]
      refine Nat.add_le_add_right (cn_inj N Q _ M σ (fun x hx hq => ?_) (fun x y hx hy => h2 x y (by omega) (by omega))) 1
      obtain ⟨b1, b2⟩ := h1 x (by omega) hq
      refine ⟨b1, ?_⟩
      have : ¬ σ x = σ N := fun z => by have := h2 x N (by omega) (by omega) hq e z; omega
      simp [b2, this]
    · rw [if_neg e, Nat.add_zero]
      exact cn_inj N Q P M σ (fun x hx => h1 x (by omega)) (fun x y hx hy => h2 x y (by omega) (by omega))
noncomputable def rkf (p w : Nat) (S : (Nat → Nat) → Prop) : Nat := Classical.epsilon (fun r => isRank p w S r)
theorem rkf_eq {p w : Nat} {S : (Nat → Nat) → Prop} {r : Nat} (hp : Pm p) (h : isRank p w S r) : r = rkf p w S := rank_uniq hp h (Classical.epsilon_spec ⟨r, h⟩) (fun _ => Iff.rfl)
theorem rkf_congr {p w : Nat} {S S2 : (Nat → Nat) → Prop} (h : ∀ u, S u ↔ S2 u) : rkf p w S = rkf p w S2 := by
  have : S = S2 := funext fun u => propext (h u)
  rw [this]
noncomputable def rankE (W : Wd) (side x : Nat) : Nat := rkf W.1 W.2.1 (SolM W.1 W.2.1 W.2.1 (ent W side x))
theorem ent_mf {W : Wd} (hk : Wok W) (side a x s b : Nat) : ent W side (mf W.1 a x) s b % W.1 = a * ent W side x s b % W.1 := by
  obtain ⟨b1, b2, b3, b4, b5⟩ := hk.b
  unfold ent
  rw [← sg_mul]
  exact sg_mod (fun t ht => by
    rw [mf_dg (by omega) (by omega), Nat.mul_mod, Nat.mod_mod, ← Nat.mul_mod, Nat.mul_assoc])
theorem rank_mf {W : Wd} (hk : Wok W) (side : Nat) {a x : Nat} (h0 : 0 < a) (ha : a < W.1) : rankE W side (mf W.1 a x) = rankE W side x := by
  unfold rankE
  refine rkf_congr (fun u => ?_)
  have key : ∀ s, dot W.2.1 (ent W side (mf W.1 a x) s) u % W.1 = a * dot W.2.1 (ent W side x s) u % W.1 := fun s => by
    rw [dot_mod (b := fun t => a * ent W side x s t) u (fun t _ => ent_mf hk side a x s t)]
    congr 1
    unfold dot
    rw [← sg_mul]
    exact sg_congr (fun t _ => Nat.mul_assoc _ _ _)
  constructor
  · intro q s hs
    exact (unit_dot hk.1 h0 ha).mp ((key s).symm.trans (q s hs))
  · intro q s hs
    exact (key s).trans ((unit_dot hk.1 h0 ha).mpr (q s hs))
/-- the place of the highest digit -/
theorem top_ex {p y : Nat} (hp : 1 < p) (hy : 0 < y) : ∀ n, y < p ^ n → ∃ i, i < n ∧ p ^ i ≤ y ∧ y < p ^ (i + 1)
  | 0, h => by rw [Nat.pow_zero] at h; omega
  | n + 1, h => by
    by_cases e : y < p ^ n
    · obtain ⟨i, a, b, c⟩ := top_ex hp hy n e
      exact ⟨i, by omega, b, c⟩
    · exact ⟨n, by omega, by omega, h⟩
/-- of an element's multiples the one with 1 as its highest digit -/
theorem norm_ex {p n y : Nat} (hp : Pm p) (hn : n ≤ 5) (hy0 : 0 < y) (hy : y < p ^ n) : ∃ i a, i < n ∧ 0 < a ∧ a < p ∧ p ^ i ≤ mf p a y ∧ mf p a y < 2 * p ^ i ∧ mf p a y ≤ y ∧ p ^ i ≤ y ∧ y < p ^ (i + 1) ∧ a * (y / p ^ i) % p = 1 := by
  have hp1 : 1 < p := by rcases hp with rfl | rfl | rfl <;> decide
  obtain ⟨i, h1, h2, h3⟩ := top_ex hp1 hy0 n hy
  have hpi : 0 < p ^ i := Nat.pow_pos (by omega)
  have d0 : 0 < y / p ^ i := Nat.div_pos h2 hpi
  have d1 : y / p ^ i < p := Nat.div_lt_of_lt_mul (by rw [← Nat.pow_succ]; exact h3)
  obtain ⟨j1, j2, j3⟩ := inv_ok hp d0 d1
  have e1 : dg p (mf p (inv p (y / p ^ i)) y) i = 1 := by
    rw [mf_dg (by omega) (by omega)]
    unfold dg
    rw [Nat.mod_eq_of_lt d1, Nat.mul_comm]
    exact j3
  have e2 : mf p (inv p (y / p ^ i)) y < p ^ (i + 1) := mf_lt (by omega) (by omega) h3
  have e3 : mf p (inv p (y / p ^ i)) y / p ^ i = 1 := by
    have : mf p (inv p (y / p ^ i)) y / p ^ i < p := Nat.div_lt_of_lt_mul (by rw [← Nat.pow_succ]; exact e2)
    unfold dg at e1
    rw [Nat.mod_eq_of_lt this] at e1
    exact e1
  have e4 := Nat.div_add_mod (mf p (inv p (y / p ^ i)) y) (p ^ i)
  have e5 := Nat.mod_lt (mf p (inv p (y / p ^ i)) y) hpi
  rw [e3, Nat.mul_one] at e4
  generalize mf p (inv p (y / p ^ i)) y % p ^ i = rr at e4 e5
  refine ⟨i, inv p (y / p ^ i), h1, j1, j2, by omega, by omega, ?_, h2, h3, by rw [Nat.mul_comm]; exact j3⟩
  by_cases c : y / p ^ i = 1
  · have : inv p (y / p ^ i) = 1 := by
      rw [c]
      unfold inv
      rcases hp with rfl | rfl | rfl <;> decide
    rw [this]
    have : mf p 1 y = y := by
      unfold mf
      rw [num_congr (g := dg p y) (fun t _ => by rw [Nat.one_mul]; exact Nat.mod_eq_of_lt (dg_lt (by omega) y t))]
      exact num_dg_self (Nat.lt_of_lt_of_le hy (Nat.pow_le_pow_right (by omega) hn))
    rw [this]
    exact Nat.le_refl y
  · have := Nat.div_add_mod y (p ^ i)
    have h4 : p ^ i * 2 ≤ p ^ i * (y / p ^ i) := Nat.mul_le_mul_left _ (by omega)
    generalize p ^ i * (y / p ^ i) = uu at this h4
    generalize y % p ^ i = vv at this
    omega
section FP
variable {h : AH} {E o : Nat} {W : Wd} {f : Int32}
theorem c_X1_rankOf2 {side x : Nat} (hF : FSh h E) (hW : WAt h o W f) (hk : Wok W) (hs : side < 4) (hx : x < 3125) (d : o + 3 ≤ E ∨ E + 83 ≤ o) : CI yX1_rankOf MX1_rankOf [.ref (E + 79), .ref o, .int (nI side), .int (nI x)] h (fun z h' => (z = nI (rankE W side x) ∧ rankE W side x ≤ W.2.1) ∧ FSh h' E ∧ Er E (E + 81) h h') :=
  (c_X1_rankOf hF hW hk hs hx d).mono (fun z h' ⟨r, a, b, c, dd, e⟩ => by
    have := rkf_eq hk.1 c
    subst this
    exact ⟨⟨a, b⟩, dd, e⟩)
theorem l_ls_x {sz side i : Nat} {hh : AH} (hk : Wok W) (hs : side < 4) (d : o + 3 ≤ E ∨ E + 83 ≤ o) (hi : i < W.2.1) {Pr : Int32 → AH → Prop}
    (kk : ∀ h1, FSh h1 E → WAt h1 o W f → Er E (E + 83) hh h1 → (∀ y, W.1 ^ i ≤ y → y < 2 * W.1 ^ i → rankE W side y = W.2.1) → VI MX1_leastSingular sz Pr h1 53 [some (.ref (E + 79)), some (.ref o), some (.int (nI side)), some (.int (nI i)), none] [])
    (kf : ∀ h1 x, FSh h1 E → Er E (E + 83) hh h1 → W.1 ^ i ≤ x → x < 2 * W.1 ^ i → rankE W side x < W.2.1 → (∀ y, W.1 ^ i ≤ y → y < x → rankE W side y = W.2.1) → Pr (nI x) h1) :
    ∀ (n x : Nat), n = 2 * W.1 ^ i - x → W.1 ^ i ≤ x → x ≤ 2 * W.1 ^ i → ∀ h1, FSh h1 E → WAt h1 o W f → Er E (E + 83) hh h1 → (∀ y, W.1 ^ i ≤ y → y < x → rankE W side y = W.2.1) → VI MX1_leastSingular sz Pr h1 17 [some (.ref (E + 79)), some (.ref o), some (.int (nI side)), some (.int (nI i)), some (.int (nI x))] [] := by
  obtain ⟨b1, b2, b3, b4, b5⟩ := hk.b
  have q1 := (pp b1 b2 i (by omega)).2
  have q2 : 2 * W.1 ^ i ≤ W.1 ^ (i + 1) := by rw [Nat.pow_succ, Nat.mul_comm]; exact Nat.mul_le_mul_left _ b1
  have q3 := (pp b1 b2 (i + 1) (by omega)).2
  have q4 : W.1 ^ (i + 1) ≤ W.1 ^ W.2.1 := Nat.pow_le_pow_right (by omega) (by omega)
  intro n
  induction n with
  | zero =>
    intro x e1 e2 e3 h1 hF hW he hr
    have e : x = 2 * W.1 ^ i := by omega
    subst e
    obtain ⟨w0, -, -⟩ := id hW
    refine e_iload (pc := 17) dX1_leastSingular_17 rfl ?_
    refine n_iconst (pc := 19) 2 dX1_leastSingular_19 (by decide) ?_
    refine e_aload_n (pc := 20) dX1_leastSingular_20 rfl rfl ?_
    refine e_iload_n (pc := 21) dX1_leastSingular_21 rfl rfl ?_
    refine n_VP (pc := 22) (c_X9_base hW hk (show i ≤ 5 by omega)) bX9_base q_i_X9_base q_s_X9_base q_m_X1_64 dX1_leastSingular_22 rfl rfl (by repeat (first | assumption | exact hset_eq _ _ _ | rw [hset_ne _ _ (by omega)])) rfl rfl (by exact Nat.le_of_ble_eq_true rfl) ⟨by decide, by decide⟩ ⟨rfl, rfl, Nat.zero_le _, Nat.zero_le _⟩ ?_
    refine n_imul (pc := 25) dX1_leastSingular_25 ?_
    refine n_icmp_ge (pc := 26) (tgt := 53) dX1_leastSingular_26 (by decide) (by omega) (by omega) (fun hb_ => ?_) (fun c => absurd c (by omega))
    refine V.mask [true, true, true, true, false] ?_
    exact kk h1 hF hW he hr
  | succ n ih =>
    intro x e1 e2 e3 h1 hF hW he hr
    obtain ⟨w0, -, -⟩ := id hW
    obtain ⟨-, g0, -, -, -⟩ := id hF
    refine e_iload (pc := 17) dX1_leastSingular_17 rfl ?_
    refine n_iconst (pc := 19) 2 dX1_leastSingular_19 (by decide) ?_
    refine e_aload_n (pc := 20) dX1_leastSingular_20 rfl rfl ?_
    refine e_iload_n (pc := 21) dX1_leastSingular_21 rfl rfl ?_
    refine n_VP (pc := 22) (c_X9_base hW hk (show i ≤ 5 by omega)) bX9_base q_i_X9_base q_s_X9_base q_m_X1_64 dX1_leastSingular_22 rfl rfl (by repeat (first | assumption | exact hset_eq _ _ _ | rw [hset_ne _ _ (by omega)])) rfl rfl (by exact Nat.le_of_ble_eq_true rfl) ⟨by decide, by decide⟩ ⟨rfl, rfl, Nat.zero_le _, Nat.zero_le _⟩ ?_
    refine n_imul (pc := 25) dX1_leastSingular_25 ?_
    refine n_icmp_ge (pc := 26) (tgt := 53) dX1_leastSingular_26 (by decide) (by omega) (by omega) (fun c => absurd c (by omega)) (fun hb_ => ?_)
    refine e_aload_n (pc := 29) dX1_leastSingular_29 rfl rfl ?_
    refine e_aload_n (pc := 30) dX1_leastSingular_30 rfl rfl ?_
    refine e_iload_n (pc := 31) dX1_leastSingular_31 rfl rfl ?_
    refine e_iload (pc := 32) dX1_leastSingular_32 rfl ?_
    refine n_V (pc := 34) (c_X1_rankOf2 hF hW hk hs (by omega) d) bX1_rankOf q_i_X1_rankOf q_s_X1_rankOf q_m_X1_68 dX1_leastSingular_34 rfl rfl (by repeat (first | assumption | exact hset_eq _ _ _ | rw [hset_ne _ _ (by omega)])) rfl rfl (by exact Nat.le_of_ble_eq_true rfl) ⟨by decide, by decide⟩ ⟨rfl, rfl, Nat.zero_le _, Nat.zero_le _⟩ (fun x h2 hp => ?_)
    obtain ⟨⟨rfl, p0⟩, p1, p2⟩ := hp
    have p2 := p2.mono (lo2 := E) (hi2 := E + 83) (by omega) (by omega)
    have hW2 := hW.er p2 (by omega)
    obtain ⟨w0, -, -⟩ := id hW2
    refine e_aload_n (pc := 37) dX1_leastSingular_37 rfl rfl ?_
    refine n_VP (pc := 38) (c_X9_size hW2) bX9_size q_i_X9_size q_s_X9_size q_m_X1_25 dX1_leastSingular_38 rfl rfl (by repeat (first | assumption | exact hset_eq _ _ _ | rw [hset_ne _ _ (by omega)])) rfl rfl (by exact Nat.le_of_ble_eq_true rfl) ⟨by decide, by decide⟩ ⟨rfl, rfl, Nat.zero_le _, Nat.zero_le _⟩ ?_
    refine n_icmp_ge (pc := 41) (tgt := 47) dX1_leastSingular_41 (by decide) (by omega) (by omega) (fun hge => ?_) (fun hge => ?_)
    · refine n_inc (pc := 47) dX1_leastSingular_47 rfl (by decide) ?_
      refine e_goto (pc := 50) (tgt := 17) dX1_leastSingular_50 (by decide) ?_
      refine ih (x + 1) (by omega) (by omega) (by omega) h2 p1 hW2 (he.tr p2) (fun y y1 y2 => ?_)
      by_cases e : y = x
      · subst e; omega
      · exact hr y y1 (by omega)
    · refine e_iload (pc := 44) dX1_leastSingular_44 rfl ?_
      exact n_iret (pc := 46) dX1_leastSingular_46 rfl (kf h2 x p1 (he.tr p2) e2 (by omega) hge hr)
/-- the least element that isn't of full rank; none -/
def Least (W : Wd) (side : Nat) (z : Int32) : Prop := (∃ x, z = nI x ∧ 0 < x ∧ x < W.1 ^ W.2.1 ∧ rankE W side x < W.2.1 ∧ ∀ y, 0 < y → y < x → rankE W side y = W.2.1) ∨ (z = -1 ∧ ∀ y, 0 < y → y < W.1 ^ W.2.1 → rankE W side y = W.2.1)
theorem full_to {side i x : Nat} (hk : Wok W) (hr : ∀ j y, j < i → W.1 ^ j ≤ y → y < 2 * W.1 ^ j → rankE W side y = W.2.1) (hi : i ≤ W.2.1) (hx : x ≤ 2 * W.1 ^ i) (hr2 : ∀ y, W.1 ^ i ≤ y → y < x → rankE W side y = W.2.1) : ∀ y, 0 < y → (y < x ∨ y < W.1 ^ i) → y < W.1 ^ W.2.1 → rankE W side y = W.2.1 := by
  obtain ⟨b1, b2, b3, b4, b5⟩ := hk.b
  intro y y0 hy hyq
  obtain ⟨j, a, c1, c2, c3, c4, c5, c6, c7, c8, -⟩ := norm_ex hk.1 b4 y0 hyq
  rw [← rank_mf hk side (x := y) c2 c3]
  by_cases e : j < i
  · exact hr j _ e c4 c5
  · by_cases e2 : j = i
    · subst e2
      rcases hy with hy | hy
      · exact hr2 _ c4 (by omega)
      · omega
    · exfalso
      have h1 : W.1 ^ (i + 1) ≤ W.1 ^ j := Nat.pow_le_pow_right (by omega) (by omega)
      have h2 : 2 * W.1 ^ i ≤ W.1 ^ (i + 1) := by rw [Nat.pow_succ, Nat.mul_comm]; exact Nat.mul_le_mul_left _ b1
      have h3 : 0 < W.1 ^ i := Nat.pow_pos (by omega)
      omega
theorem l_ls_i {sz side : Nat} {hh : AH} (hk : Wok W) (hs : side < 4) (d : o + 3 ≤ E ∨ E + 83 ≤ o) :
    ∀ (n i : Nat), n = W.2.1 - i → i ≤ W.2.1 → ∀ h1, FSh h1 E → WAt h1 o W f → Er E (E + 83) hh h1 → (∀ j y, j < i → W.1 ^ j ≤ y → y < 2 * W.1 ^ j → rankE W side y = W.2.1) → VI MX1_leastSingular sz (fun z h' => Least W side z ∧ FSh h' E ∧ Er E (E + 83) hh h') h1 2 [some (.ref (E + 79)), some (.ref o), some (.int (nI side)), some (.int (nI i)), none] [] := by
  obtain ⟨b1, b2, b3, b4, b5⟩ := hk.b
  intro n
  induction n with
  | zero =>
    intro i e1 e2 h1 hF hW he hr
    have e : i = W.2.1 := by omega
    subst e
    obtain ⟨w0, -, -⟩ := id hW
    refine e_iload_n (pc := 2) dX1_leastSingular_2 rfl rfl ?_
    refine e_aload_n (pc := 3) dX1_leastSingular_3 rfl rfl ?_
    refine n_VP (pc := 4) (c_X9_size hW) bX9_size q_i_X9_size q_s_X9_size q_m_X1_25 dX1_leastSingular_4 rfl rfl (by repeat (first | assumption | exact hset_eq _ _ _ | rw [hset_ne _ _ (by omega)])) rfl rfl (by exact Nat.le_of_ble_eq_true rfl) ⟨by decide, by decide⟩ ⟨rfl, rfl, Nat.zero_le _, Nat.zero_le _⟩ ?_
    refine n_icmp_ge (pc := 7) (tgt := 59) dX1_leastSingular_7 (by decide) (by omega) (by omega) (fun hb_ => ?_) (fun c => absurd c (by omega))
    refine e_iconst (pc := 59) (v := -1) dX1_leastSingular_59 (by decide) ?_
    exact n_iret (pc := 60) dX1_leastSingular_60 rfl ⟨Or.inr ⟨rfl, fun y y0 y1 => full_to hk hr (Nat.le_refl _) (x := 0) (Nat.zero_le _) (fun _ _ z => absurd z (Nat.not_lt_zero _)) y y0 (Or.inr y1) y1⟩, hF, he⟩
  | succ n ih =>
    intro i e1 e2 h1 hF hW he hr
    obtain ⟨w0, -, -⟩ := id hW
    have q2 : 2 * W.1 ^ i ≤ W.1 ^ (i + 1) := by rw [Nat.pow_succ, Nat.mul_comm]; exact Nat.mul_le_mul_left _ b1
    have q4 : W.1 ^ (i + 1) ≤ W.1 ^ W.2.1 := Nat.pow_le_pow_right (by omega) (by omega)
    have q5 : 0 < W.1 ^ i := Nat.pow_pos (by omega)
    refine e_iload_n (pc := 2) dX1_leastSingular_2 rfl rfl ?_
    refine e_aload_n (pc := 3) dX1_leastSingular_3 rfl rfl ?_
    refine n_VP (pc := 4) (c_X9_size hW) bX9_size q_i_X9_size q_s_X9_size q_m_X1_25 dX1_leastSingular_4 rfl rfl (by repeat (first | assumption | exact hset_eq _ _ _ | rw [hset_ne _ _ (by omega)])) rfl rfl (by exact Nat.le_of_ble_eq_true rfl) ⟨by decide, by decide⟩ ⟨rfl, rfl, Nat.zero_le _, Nat.zero_le _⟩ ?_
    refine n_icmp_ge (pc := 7) (tgt := 59) dX1_leastSingular_7 (by decide) (by omega) (by omega) (fun c => absurd c (by omega)) (fun hb_ => ?_)
    refine e_aload_n (pc := 10) dX1_leastSingular_10 rfl rfl ?_
    refine e_iload_n (pc := 11) dX1_leastSingular_11 rfl rfl ?_
    refine n_VP (pc := 12) (c_X9_base hW hk (show i ≤ 5 by omega)) bX9_base q_i_X9_base q_s_X9_base q_m_X1_64 dX1_leastSingular_12 rfl rfl (by repeat (first | assumption | exact hset_eq _ _ _ | rw [hset_ne _ _ (by omega)])) rfl rfl (by exact Nat.le_of_ble_eq_true rfl) ⟨by decide, by decide⟩ ⟨rfl, rfl, Nat.zero_le _, Nat.zero_le _⟩ ?_
    refine e_istore (pc := 15) dX1_leastSingular_15 (by decide) ?_
    refine l_ls_x hk hs d (show i < W.2.1 by omega) (fun h3 hF3 hW3 he3 hr3 => ?_) (fun h3 x hF3 he3 x1 x2 x3 x4 => ⟨Or.inl ⟨x, rfl, by omega, by omega, x3, fun y y0 y1 => full_to hk hr (by omega) (by omega) x4 y y0 (Or.inl y1) (by omega)⟩, hF3, he3⟩) (2 * W.1 ^ i - W.1 ^ i) (W.1 ^ i) rfl (Nat.le_refl _) (by omega) h1 hF hW he (fun y y1 y2 => absurd y2 (by omega))
    refine n_inc (pc := 53) dX1_leastSingular_53 rfl (by decide) ?_
    refine e_goto (pc := 56) (tgt := 2) dX1_leastSingular_56 (by decide) ?_
    refine ih (i + 1) (by omega) (by omega) h3 hF3 hW3 he3 (fun j y j1 y1 y2 => ?_)
    by_cases e : j = i
    · subst e; exact hr3 y y1 y2
    · exact hr j y (by omega) y1 y2
theorem c_X1_leastSingular {side : Nat} (hF : FSh h E) (hW : WAt h o W f) (hk : Wok W) (hs : side < 4) (d : o + 3 ≤ E ∨ E + 83 ≤ o) : CI yX1_leastSingular MX1_leastSingular [.ref (E + 79), .ref o, .int (nI side)] h (fun z h' => Least W side z ∧ FSh h' E ∧ Er E (E + 83) h h') := by
  refine CI.ofV (by decide) rfl rfl (by simp [Value.category]) (by exact Nat.le_of_ble_eq_true rfl) (fun sz => ?_)
  refine n_iconst (pc := 0) 0 dX1_leastSingular_0 (by decide) ?_
  refine e_istore_n (pc := 1) dX1_leastSingular_1 rfl (by decide) ?_
  exact l_ls_i hk hs d W.2.1 0 rfl (by omega) h hF hW (Er.rf _ _ h) (fun j y j1 => absurd j1 (Nat.not_lt_zero j))
theorem c_X1_planar (hF : FSh h E) (hW : WAt h o W f) (hk : Wok W) (d : o + 3 ≤ E ∨ E + 83 ≤ o) : CI yX1_planar MX1_planar [.ref (E + 79), .ref o] h (fun z h' => ((W.1 = 2 ∧ z = -1) ∨ (W.1 ≠ 2 ∧ isB z (∀ y, 0 < y → y < W.1 ^ W.2.1 → rankE W 3 y = W.2.1))) ∧ FSh h' E ∧ Er E (E + 83) h h') := by
  obtain ⟨b1, b2, b3, b4, b5⟩ := hk.b
  obtain ⟨w0, -, -⟩ := id hW
  obtain ⟨-, g0, -, -, -⟩ := id hF
  refine CI.ofV (by decide) rfl rfl (by simp [Value.category]) (by exact Nat.le_of_ble_eq_true rfl) (fun sz => ?_)
  refine e_aload_n (pc := 0) dX1_planar_0 rfl rfl ?_
  refine n_VP (pc := 1) (c_X9_prime hW) bX9_prime q_i_X9_prime q_s_X9_prime q_m_X1_31 dX1_planar_1 rfl rfl (by repeat (first | assumption | exact hset_eq _ _ _ | rw [hset_ne _ _ (by omega)])) rfl rfl (by exact Nat.le_of_ble_eq_true rfl) ⟨by decide, by decide⟩ ⟨rfl, rfl, Nat.zero_le _, Nat.zero_le _⟩ ?_
  refine n_iconst (pc := 4) 2 dX1_planar_4 (by decide) ?_
  refine n_icmp_ne (pc := 5) (tgt := 10) dX1_planar_5 (by decide) (by omega) (by omega) (fun hp2 => ?_) (fun hp2 => ?_)
  · refine e_aload_n (pc := 10) dX1_planar_10 rfl rfl ?_
    refine e_aload_n (pc := 11) dX1_planar_11 rfl rfl ?_
    refine n_iconst (pc := 12) 3 dX1_planar_12 (by decide) ?_
    refine n_V (pc := 13) (c_X1_leastSingular (side := 3) hF hW hk (by decide) d) bX1_leastSingular q_i_X1_leastSingular q_s_X1_leastSingular q_m_X1_76 dX1_planar_13 rfl rfl (by repeat (first | assumption | exact hset_eq _ _ _ | rw [hset_ne _ _ (by omega)])) rfl rfl (by exact Nat.le_of_ble_eq_true rfl) ⟨by decide, by decide⟩ ⟨rfl, rfl, Nat.zero_le _, Nat.zero_le _⟩ (fun x h2 hp => ?_)
    obtain ⟨p0, p1, p2⟩ := hp
    refine e_iconst (pc := 16) (v := -1) dX1_planar_16 (by decide) ?_
    rcases p0 with ⟨x, rfl, x1, x2, x3, x4⟩ | ⟨rfl, x1⟩
    · refine e_icmp_ne (pc := 17) (tgt := 24) dX1_planar_17 (by decide) (fun _ => ?_) (fun q => ?_)
      · refine n_iconst (pc := 24) 0 dX1_planar_24 (by decide) ?_
        exact n_iret (pc := 25) dX1_planar_25 rfl ⟨Or.inr ⟨hp2, Or.inr ⟨fun q => by have := q x x1 x2; omega, rfl⟩⟩, p1, p2⟩
      · exfalso
        have h1 := nI_toInt (n := x) (by omega)
        rw [q] at h1
        have h2 : ((-1 : Int32)).toInt = -1 := by decide
        omega
    · refine e_icmp_ne (pc := 17) (tgt := 24) dX1_planar_17 (by decide) (fun q => absurd rfl q) (fun _ => ?_)
      refine n_iconst (pc := 20) 1 dX1_planar_20 (by decide) ?_
      refine e_goto (pc := 21) (tgt := 25) dX1_planar_21 (by decide) ?_
      exact n_iret (pc := 25) dX1_planar_25 rfl ⟨Or.inr ⟨hp2, Or.inl ⟨x1, rfl⟩⟩, p1, p2⟩
  · refine e_iconst (pc := 8) (v := -1) dX1_planar_8 (by decide) ?_
    exact n_iret (pc := 9) dX1_planar_9 rfl ⟨Or.inl ⟨hp2, rfl⟩, hF, Er.rf _ _ h⟩
end FP
