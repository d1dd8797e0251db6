/-! ===== the law's field: polynomials multiplied and led back ===== -/
theorem sg_upd {a v : Nat} {d P : Nat → Nat} : ∀ N, a < N → sg N (fun s => (if s = a then v else d s) * P s) + d a * P a = sg N (fun s => d s * P s) + v * P a
  | 0, h => absurd h (by omega)
  | N + 1, h => by
    show sg N _ + (if N = a then v else d N) * P N + d a * P a = sg N _ + d N * P N + v * P a
    by_cases e : N = a
    · subst e
      rw [if_pos rfl, sg_congr (g := fun s => d s * P s) (fun s hs => by rw [if_neg (by omega)])]
      omega
    · have := sg_upd (a := a) (v := v) (d := d) (P := P) N (by omega)
      rw [if_neg e]
      omega
theorem sg_zcut {n : Nat} {f : Nat → Nat} : ∀ m, (∀ s, n ≤ s → s < n + m → f s = 0) → sg (n + m) f = sg n f
  | 0, _ => rfl
  | m + 1, h => by
    show sg (n + m) f + f (n + m) = _
    rw [h (n + m) (by omega) (by omega), sg_zcut m (fun s h1 h2 => h s h1 (by omega)), Nat.add_zero]
/-- what a power comes to, led back once -/
theorem pw_red {p n k m : Nat} {cs : Nat → Nat} (hc : canBe p n) (hcs : ∀ t, t < n → cs t < p) (hm : n ≤ m) (hk : k < n) : dg p (pwr p n cs m) k = sg n (fun t => cs t * dg p (pwr p n cs (m - n + t)) k) % p := by
  obtain ⟨h1, h5, n0, n5, -⟩ := cb_b hc
  have h0 : 0 < p := by omega
  have e1 : pwr p n cs m = tms p n cs (m - n) (stp p n cs (p ^ (n - 1))) := by
    rw [← pwr_pow (cs := cs) h1 (show n - 1 < n by omega), show stp p n cs (pwr p n cs (n - 1)) = pwr p n cs (n - 1 + 1) from rfl, pwr_tms, pwr_tms, tms_add]
    congr 1
    omega
  have e2 := lin_id h1 n5 (x := stp p n cs (p ^ (n - 1))) (stp_lt h0 _)
  rw [e1, ← e2, tms_lin h1 n5, lin_dg h0 (by omega)]
  congr 1
  refine sg_congr (fun t ht => ?_)
  have e3 : dg p (stp p n cs (p ^ (n - 1))) t = cs t := by
    rw [stp_dg h0 ht, dg_pow h1, dg_pow h1, if_pos rfl, Nat.one_mul]
    by_cases c : t = 0
    · rw [if_pos c, Nat.zero_add]; exact Nat.mod_eq_of_lt (hcs t ht)
    · rw [if_neg c, if_neg (by omega), Nat.zero_add]; exact Nat.mod_eq_of_lt (hcs t ht)
  rw [e3, ← pwr_pow (cs := cs) h1 ht, pwr_tms, pwr_tms, tms_add]
  congr 3
  omega
theorem md_step {p a b x y z e : Nat} (hp : p = 2 ∨ p = 3 ∨ p = 5) (h1 : a + x = b + y) (h2 : y % p = (x + z) % p) (h3 : b % p = e % p) : a % p = (e + z) % p := by
  rcases hp with rfl | rfl | rfl <;> omega
theorem md_back {p a b x e : Nat} (hp : p = 2 ∨ p = 3 ∨ p = 5) (h1 : a + x = b) (h2 : b % p = (e + x) % p) : a % p = e % p := by
  rcases hp with rfl | rfl | rfl <;> omega
/-- the row that is led back holds the power (digit by digit), above m noughts -/
def Led (p n : Nat) (cs : Nat → Nat) (q m : Nat) (d : Nat → Nat) : Prop := (∀ s, s < 2 * n → d s < p) ∧ (∀ s, m < s → s < 2 * n → d s = 0) ∧ ∀ k, k < n → sg (2 * n) (fun s => d s * dg p (pwr p n cs s) k) % p = dg p (pwr p n cs q) k
/-- t places of the row have taken their part of place m -/
def LedT (p n : Nat) (cs : Nat → Nat) (q m t c : Nat) (d : Nat → Nat) : Prop := (∀ s, s < 2 * n → d s < p) ∧ (∀ s, m < s → s < 2 * n → d s = 0) ∧ d m = c ∧ ∀ k, k < n → sg (2 * n) (fun s => d s * dg p (pwr p n cs s) k) % p = (dg p (pwr p n cs q) k + c * sg t (fun u => cs u * dg p (pwr p n cs (m - n + u)) k)) % p
theorem LedT.next {p n q m t c : Nat} {cs d : Nat → Nat} (hc : canBe p n) (h : LedT p n cs q m t c d) (hm : n ≤ m) (hm2 : m < 2 * n) (ht : t < n) : LedT p n cs q m (t + 1) c (fun s => if s = m - n + t then (d (m - n + t) + c * cs t) % p else d s) := by
  obtain ⟨h1, h2, h3, h4⟩ := h
  have h0 : 0 < p := by have := cb_b hc; omega
  refine ⟨fun s hs => ?_, fun s s1 s2 => ?_, ?_, fun k hk => ?_⟩
  · show (if s = m - n + t then _ else _) < p
    split
    · exact Nat.mod_lt _ h0
    · exact h1 s hs
  · show (if s = m - n + t then _ else _) = 0
    rw [if_neg (by omega)]
    exact h2 s s1 s2
  · show (if m = m - n + t then _ else _) = c
    rw [if_neg (by omega)]
    exact h3
  · have e := sg_upd (v := (d (m - n + t) + c * cs t) % p) (d := d) (P := fun s => dg p (pwr p n cs s) k) (2 * n) (show m - n + t < 2 * n by omega)
    have := md_step (z := c * (cs t * dg p (pwr p n cs (m - n + t)) k)) hc.1 e (by rw [Nat.mul_mod, Nat.mod_mod, ← Nat.mul_mod, Nat.add_mul, Nat.mul_assoc]) (h4 k hk)
    rw [this, Nat.add_assoc, ← Nat.mul_add]
    rfl
theorem LedT.done {p n q m c : Nat} {cs d : Nat → Nat} (hc : canBe p n) (hcs : ∀ t, t < n → cs t < p) (h : LedT p n cs q m n c d) (hm : n ≤ m) (hm2 : m < 2 * n) (hm0 : 0 < m) : Led p n cs q (m - 1) (fun s => if s = m then 0 else d s) := by
  obtain ⟨h1, h2, h3, h4⟩ := h
  have h0 : 0 < p := by have := cb_b hc; omega
  refine ⟨fun s hs => ?_, fun s s1 s2 => ?_, fun k hk => ?_⟩
  · show (if s = m then _ else _) < p
    split
    · exact h0
    · exact h1 s hs
  · show (if s = m then _ else _) = 0
    by_cases c : s = m
    · rw [if_pos c]
    · rw [if_neg c]; exact h2 s (by omega) s2
  · have e := sg_upd (v := 0) (d := d) (P := fun s => dg p (pwr p n cs s) k) (2 * n) hm2
    rw [Nat.zero_mul, Nat.add_zero, h3] at e
    have b := md_back (e := dg p (pwr p n cs q) k) hc.1 e (by
      rw [h4 k hk, Nat.add_mod, Nat.mul_mod c, ← pw_red hc hcs hm hk, Nat.add_mod (dg p (pwr p n cs q) k) (c * _), Nat.mul_mod c (dg p (pwr p n cs m) k), Nat.mod_eq_of_lt (dg_lt h0 (pwr p n cs m) k)])
    rw [b]
    exact Nat.mod_eq_of_lt (dg_lt h0 _ _)
theorem Led.end {p n q : Nat} {cs d : Nat → Nat} (hc : canBe p n) (h : Led p n cs q (n - 1) d) : ∀ k, k < n → d k = dg p (pwr p n cs q) k := fun k hk => by
  obtain ⟨h1, h2, h3⟩ := h
  obtain ⟨p1, p5, n0, n5, -⟩ := cb_b hc
  have e := h3 k hk
  rw [show 2 * n = n + n by omega, sg_zcut n (fun s s1 s2 => by rw [h2 s (by omega) (by omega), Nat.zero_mul]), sg_congr (g := fun s => if s = k then d k else 0) (fun s hs => by
    rw [pwr_pow p1 hs, dg_pow p1]
    by_cases c : s = k
    · subst c; rw [if_pos rfl, if_pos rfl, Nat.mul_one]
    · rw [if_neg (fun z => c z.symm), if_neg c, Nat.mul_zero]), sg_ind hk, Nat.mod_eq_of_lt (h1 k (by omega))] at e
  exact e
theorem Led.start {p n q : Nat} {cs : Nat → Nat} (hc : canBe p n) (hq : q < 2 * n) : Led p n cs q (2 * n - 1) (fun s => if s = q then 1 else 0) := by
  obtain ⟨p1, p5, n0, n5, -⟩ := cb_b hc
  refine ⟨fun s _ => by show (if s = q then 1 else 0) < p; split <;> omega, fun s s1 s2 => by omega, fun k hk => ?_⟩
  rw [sg_congr (g := fun s => if s = q then dg p (pwr p n cs q) k else 0) (fun s hs => by
    by_cases c : s = q
    · subst c; dsimp only; rw [if_pos rfl, if_pos rfl, Nat.one_mul]
    · dsimp only; rw [if_neg c, if_neg c, Nat.zero_mul]), sg_ind hq]
  exact Nat.mod_eq_of_lt (dg_lt (by omega) _ _)
/-- a world with its table -/
def WT (h : AH) (w B : Nat) (W : Wd) : Prop := ∃ tb : Nat, LW h w W (.ref tb) ∧ Tb h tb (W.1 ^ W.2.1) (mul W) ∧ w + 31 < tb ∧ tb + W.1 ^ W.2.1 < B
theorem WT.kept {h h2 : AH} {w B B2 : Nat} {W : Wd} (hT : WT h w B W) (hB : B ≤ B2) (e : ∀ q, w ≤ q → q < B → h2 q = h q) : WT h2 w B2 W := by
  obtain ⟨tb, t1, t2, t3, t4⟩ := hT
  exact ⟨tb, t1.kept (fun q q1 q2 => e q (by omega) (by omega)), t2.kept (fun q q1 q2 => e q (by omega) (by omega)), t3, by omega⟩
theorem nw_L_28 : NW RL 28 10 5 [.int 0, .int 0, .int 0, .null, .null] := ⟨RX11, TX11, tyX11, rfl, uX11, tyX11_ok, q_cl_L_28, q_ib_X11, q_in_X11, by decide⟩
section LG
variable {ro : RT} {h : AH} {zq fa p n : Nat} {cs : Nat → Nat} {gf : Nat → Int32} {Post : Option Value → AH → Nat → Prop}
/-- the row d at a -/
def Rw (h2 : AH) (a n : Nat) (d : Nat → Nat) : Prop := ∃ g, h2 a = some (aI (2 * n) g) ∧ ∀ s, s < 2 * n → g s = nI (d s)
theorem Rw.set {h2 : AH} {a s v : Nat} {d : Nat → Nat} {g : Nat → Int32} (hg : ∀ s, s < 2 * n → g s = nI (d s)) : Rw (hset h2 a (aI (2 * n) (upd g s (nI v)))) a n (fun s' => if s' = s then v else d s') := ⟨_, hset_eq _ _ _, fun s' hs' => by
  unfold upd
  by_cases e : s' = s
  · (try dsimp only); rw [if_pos e, if_pos e]
  · (try dsimp only); rw [if_neg e, if_neg e]; exact hg s' hs'⟩
-- one place led back
theorem l_fz_t {i j m c : Nat} {al : Nat × Nat × Nat} {a : Nat} (hc : canBe p n) (hcs : ∀ t, t < n → gf t = nI (cs t) ∧ cs t < p) (hm : n ≤ m) (hm2 : m < 2 * n) (hafa : a ≠ fa)
    {K : AH → Prop} (hK : ∀ h2 x, K h2 → K (hset h2 a x)) (hfa : ∀ h2, K h2 → h2 fa = some (aI n gf))
    (kk : ∀ h2 d, K h2 → Rw h2 a n d → LedT p n cs (i + j) m n c d → VS ro ML_field Post al h2 109 [some (.int (nI p)), some (.int (nI n)), some (.ref fa), some (.ref zq), some (.int (nI i)), some (.int (nI j)), some (.ref a), some (.int (nI m)), none] []) :
    ∀ (r t : Nat), r = n - t → t ≤ n → ∀ h2 d, K h2 → Rw h2 a n d → LedT p n cs (i + j) m t c d → VS ro ML_field Post al h2 64 [some (.int (nI p)), some (.int (nI n)), some (.ref fa), some (.ref zq), some (.int (nI i)), some (.int (nI j)), some (.ref a), some (.int (nI m)), some (.int (nI t))] [] := by
  obtain ⟨p1, p5, n0, n5, -⟩ := cb_b hc
  intro r
  induction r with
  | zero =>
    intro t e1 e2 h2 d hk hR hL
    have : t = n := by omega
    subst this
    refine ze_iload (pc := 64) dL_field_64 rfl ?_
    refine ze_iload_n (pc := 66) dL_field_66 rfl rfl ?_
    refine zn_icmp_ge (pc := 67) (tgt := 109) dL_field_67 (by decide) (by omega) (by omega) (fun c => ?_) (fun c => absurd c (by omega))
    refine VS.mask [true, true, true, true, true, true, true, true, false] ?_
    exact kk h2 d hk hR hL
  | succ r ih =>
    intro t e1 e2 h2 d hk hR hL
    obtain ⟨g, g1, g2⟩ := hR
    have f1 := hfa h2 hk
    obtain ⟨c1, c2⟩ := hcs t (by omega)
    have d1 := hL.1 (m - n + t) (by omega)
    have d2 := hL.1 m hm2
    have dc := hL.2.2.1
    have mm : c * cs t < 5 * 5 := by
      rw [← dc]
      exact Nat.mul_lt_mul'' (by omega) (by omega)
    refine ze_iload (pc := 64) dL_field_64 rfl ?_
    refine ze_iload_n (pc := 66) dL_field_66 rfl rfl ?_
    refine zn_icmp_ge (pc := 67) (tgt := 109) dL_field_67 (by decide) (by omega) (by omega) (fun c => absurd c (by omega)) (fun c => ?_)
    refine ze_aload (pc := 70) dL_field_70 rfl ?_
    refine ze_iload (pc := 72) dL_field_72 rfl ?_
    refine ze_iload_n (pc := 74) dL_field_74 rfl rfl ?_
    refine zn_isub (pc := 75) dL_field_75 (by omega) ?_
    refine ze_iload (pc := 76) dL_field_76 rfl ?_
    refine zn_iadd (pc := 78) dL_field_78 ?_
    refine ze_aload (pc := 79) dL_field_79 rfl ?_
    refine ze_iload (pc := 81) dL_field_81 rfl ?_
    refine ze_iload_n (pc := 83) dL_field_83 rfl rfl ?_
    refine zn_isub (pc := 84) dL_field_84 (by omega) ?_
    refine ze_iload (pc := 85) dL_field_85 rfl ?_
    refine zn_iadd (pc := 87) dL_field_87 ?_
    refine ze_ialdN (pc := 88) (m - n + t) dL_field_88 (by repeat (first | assumption | exact hset_eq _ _ _ | rw [hset_ne _ _ (by omega)])) (by rfl) (by omega) (by first | decide | omega) ?_
    refine ze_top (g2 _ (by omega)) ?_
    refine ze_aload (pc := 89) dL_field_89 rfl ?_
    refine ze_iload (pc := 91) dL_field_91 rfl ?_
    refine ze_ialdN (pc := 93) (m) dL_field_93 (by repeat (first | assumption | exact hset_eq _ _ _ | rw [hset_ne _ _ (by omega)])) (by rfl) (by omega) (by first | decide | omega) ?_
    refine ze_top (g2 _ hm2) ?_
    refine ze_aload_n (pc := 94) dL_field_94 rfl rfl ?_
    refine ze_iload (pc := 95) dL_field_95 rfl ?_
    refine ze_ialdN (pc := 97) (t) dL_field_97 (by repeat (first | assumption | exact hset_eq _ _ _ | rw [hset_ne _ _ (by omega)])) (by rfl) (by omega) (by first | decide | omega) ?_
    refine ze_top c1 ?_
    rw [dc]
    refine zn_imul (pc := 98) dL_field_98 ?_
    refine zn_iadd (pc := 99) dL_field_99 ?_
    refine ze_iload_n (pc := 100) dL_field_100 rfl rfl ?_
    refine zn_irem (pc := 101) dL_field_101 (by omega) (by omega) (by omega) ?_
    refine ze_iastN (pc := 102) (m - n + t) dL_field_102 (by repeat (first | assumption | exact hset_eq _ _ _ | rw [hset_ne _ _ (by omega)])) (by rfl) (by omega) (by first | decide | omega) ?_
    refine zn_inc (pc := 103) dL_field_103 rfl (by decide) ?_
    refine ze_goto (pc := 106) (tgt := 64) dL_field_106 (by decide) ?_
    refine ih (t + 1) (by omega) (by omega) _ _ (hK _ _ hk) (Rw.set g2) (hL.next hc hm hm2 (by omega))
-- all places led back
theorem l_fz_m {i j : Nat} {al : Nat × Nat × Nat} {a : Nat} (hc : canBe p n) (hcs : ∀ t, t < n → gf t = nI (cs t) ∧ cs t < p) (hafa : a ≠ fa)
    {K : AH → Prop} (hK : ∀ h2 x, K h2 → K (hset h2 a x)) (hfa : ∀ h2, K h2 → h2 fa = some (aI n gf))
    (kk : ∀ h2 d, K h2 → Rw h2 a n d → (∀ k, k < n → d k = dg p (pwr p n cs (i + j)) k) → VS ro ML_field Post al h2 121 [some (.int (nI p)), some (.int (nI n)), some (.ref fa), some (.ref zq), some (.int (nI i)), some (.int (nI j)), some (.ref a), none, none] []) :
    ∀ (r m : Nat), r = m + 1 - n → n ≤ m + 1 → m < 2 * n → ∀ h2 d, K h2 → Rw h2 a n d → Led p n cs (i + j) m d → VS ro ML_field Post al h2 55 [some (.int (nI p)), some (.int (nI n)), some (.ref fa), some (.ref zq), some (.int (nI i)), some (.int (nI j)), some (.ref a), some (.int (nI m)), none] [] := by
  obtain ⟨p1, p5, n0, n5, -⟩ := cb_b hc
  intro r
  induction r with
  | zero =>
    intro m e1 e2 e3 h2 d hk hR hL
    have : m = n - 1 := by omega
    subst this
    refine ze_iload (pc := 55) dL_field_55 rfl ?_
    refine ze_iload_n (pc := 57) dL_field_57 rfl rfl ?_
    refine zn_icmp_lt (pc := 58) (tgt := 121) dL_field_58 (by decide) (by omega) (by omega) (fun c => ?_) (fun c => absurd c (by omega))
    refine VS.mask [true, true, true, true, true, true, true, false, false] ?_
    exact kk h2 d hk hR (hL.end hc)
  | succ r ih =>
    intro m e1 e2 e3 h2 d hk hR hL
    refine ze_iload (pc := 55) dL_field_55 rfl ?_
    refine ze_iload_n (pc := 57) dL_field_57 rfl rfl ?_
    refine zn_icmp_lt (pc := 58) (tgt := 121) dL_field_58 (by decide) (by omega) (by omega) (fun c => absurd c (by omega)) (fun c => ?_)
    refine zn_iconst (pc := 61) 0 dL_field_61 (by decide) ?_
    refine ze_istore (pc := 62) dL_field_62 (by decide) ?_
    refine l_fz_t (c := d m) hc hcs (by omega) e3 hafa hK hfa (fun h3 d3 hk3 hR3 hL3 => ?_) n 0 (by omega) (by omega) h2 d hk hR ⟨hL.1, hL.2.1, rfl, fun k hkk => by rw [hL.2.2 k hkk]; show _ = (_ + d m * 0) % p; rw [Nat.mul_zero, Nat.add_zero]; exact (Nat.mod_eq_of_lt (dg_lt (by omega) _ _)).symm⟩
    obtain ⟨g, g1, g2⟩ := hR3
    refine ze_aload (pc := 109) dL_field_109 rfl ?_
    refine ze_iload (pc := 111) dL_field_111 rfl ?_
    refine zn_iconst (pc := 113) 0 dL_field_113 (by decide) ?_
    refine ze_iastN (pc := 114) (m) dL_field_114 (by repeat (first | assumption | exact hset_eq _ _ _ | rw [hset_ne _ _ (by omega)])) (by rfl) (by omega) (by first | decide | omega) ?_
    obtain ⟨m', rfl⟩ : ∃ m', m = m' + 1 := ⟨m - 1, by omega⟩
    refine zn_dec (pc := 115) dL_field_115 rfl (by decide) ?_
    refine ze_goto (pc := 118) (tgt := 55) dL_field_118 (by decide) ?_
    exact ih m' (by omega) (by omega) (by omega) _ _ (hK _ _ hk3) (Rw.set (v := 0) g2) (hL3.done hc (fun t ht => (hcs t ht).2) (by omega) e3 (by omega))
/-- while the field's world is laid at zq -/
def FdI (h h2 : AH) (zq p n : Nat) (c : Nat → Nat) : Prop := LW h2 zq (p, n, c) .null ∧ ∀ q, q < zq → h2 q = h q
def pdg (p n : Nat) (cs : Nat → Nat) (t : Nat) : Nat := dg p (pwr p n cs (t / 25 + t / 5 % 5)) (t % 5)
def pcut (p n : Nat) (cs : Nat → Nat) (m t : Nat) : Nat := if inC n t ∧ t < m then pdg p n cs t else 0
theorem l_fz_k {i j a : Nat} {al : Nat × Nat × Nat} {d : Nat → Nat} (hn : n ≤ 5) (hi : i < n) (hj : j < n) (hasz : zq + 31 < a) (hd : ∀ k, k < n → d k = dg p (pwr p n cs (i + j)) k)
    (kk : ∀ h2, FdI h h2 zq p n (pcut p n cs (25 * i + 5 * (j + 1))) → VS ro ML_field Post al h2 154 [some (.int (nI p)), some (.int (nI n)), some (.ref fa), some (.ref zq), some (.int (nI i)), some (.int (nI j)), none, none, none] []) :
    ∀ (r k : Nat), r = n - k → k ≤ n → ∀ h2, FdI h h2 zq p n (pcut p n cs (25 * i + 5 * j + k)) → Rw h2 a n d → VS ro ML_field Post al h2 124 [some (.int (nI p)), some (.int (nI n)), some (.ref fa), some (.ref zq), some (.int (nI i)), some (.int (nI j)), some (.ref a), some (.int (nI k)), none] [] := by
  intro r
  induction r with
  | zero =>
    intro k e1 e2 h2 hI hR
    have : k = n := by omega
    subst this
    refine ze_iload (pc := 124) dL_field_124 rfl ?_
    refine ze_iload_n (pc := 126) dL_field_126 rfl rfl ?_
    refine zn_icmp_ge (pc := 127) (tgt := 154) dL_field_127 (by decide) (by omega) (by omega) (fun c => ?_) (fun c => absurd c (by omega))
    refine VS.mask [true, true, true, true, true, true, false, false, false] ?_
    refine kk h2 ⟨⟨hI.1.1, hI.1.2.congr (fun t ht => ?_)⟩, hI.2⟩
    unfold pcut
    (try dsimp only)
    by_cases c : inC k t ∧ t < 25 * i + 5 * j + k
    · rw [if_pos c, if_pos ⟨c.1, by omega⟩]
    · rw [if_neg c, if_neg (fun z => c ⟨z.1, by obtain ⟨⟨q1, q2, q3, q4⟩, q5⟩ := z; omega⟩)]
  | succ r ih =>
    intro k e1 e2 h2 hI hR
    obtain ⟨⟨w1, c1, c2, c3⟩, fr⟩ := id hI
    obtain ⟨g, g1, g2⟩ := c3 i (by omega) j (by omega)
    have cr := c2 i (by omega)
    obtain ⟨gr, r1, r2⟩ := hR
    refine ze_iload (pc := 124) dL_field_124 rfl ?_
    refine ze_iload_n (pc := 126) dL_field_126 rfl rfl ?_
    refine zn_icmp_ge (pc := 127) (tgt := 154) dL_field_127 (by decide) (by omega) (by omega) (fun c => absurd c (by omega)) (fun c => ?_)
    refine ze_aload_n (pc := 130) dL_field_130 rfl rfl ?_
    refine ze_getN (pc := 131) (kf := 3) rfl (by decide) (by decide) rfl dL_field_131 (by repeat (first | assumption | exact hset_eq _ _ _ | rw [hset_ne _ _ (by omega)])) (by rfl) ?_
    refine ze_iload (pc := 134) dL_field_134 rfl ?_
    refine ze_aldC (pc := 136) _ dL_field_136 (by repeat (first | assumption | exact hset_eq _ _ _ | rw [hset_ne _ _ (by omega)])) (by rfl) (by omega) (by first | decide | omega) (by exact if_pos (by omega)) ?_
    refine ze_iload (pc := 137) dL_field_137 rfl ?_
    refine ze_aldGS (pc := 139) _ dL_field_139 (by repeat (first | assumption | exact hset_eq _ _ _ | rw [hset_ne _ _ (by omega)])) (by rfl) (by omega) (by first | decide | omega) (by exact if_pos (by omega)) ?_
    refine ze_iload (pc := 140) dL_field_140 rfl ?_
    refine ze_aload (pc := 142) dL_field_142 rfl ?_
    refine ze_iload (pc := 144) dL_field_144 rfl ?_
    refine ze_ialdN (pc := 146) (k) dL_field_146 (by repeat (first | assumption | exact hset_eq _ _ _ | rw [hset_ne _ _ (by omega)])) (by rfl) (by omega) (by first | decide | omega) ?_
    refine ze_top (r2 k (by omega)) ?_
    refine ze_iastN (pc := 147) (k) dL_field_147 (by repeat (first | assumption | exact hset_eq _ _ _ | rw [hset_ne _ _ (by omega)])) (by rfl) (by omega) (by first | decide | omega) ?_
    refine zn_inc (pc := 148) dL_field_148 rfl (by decide) ?_
    refine ze_goto (pc := 151) (tgt := 124) dL_field_151 (by decide) ?_
    refine ih (k + 1) (by omega) (by omega) _ ⟨⟨by rw [hset_ne _ _ (by omega)]; exact w1, (hI.1.2.set (by omega) (by omega) (show k < 5 by omega) g1).congr (fun t ht => ?_)⟩, fun q hq => by rw [hset_ne _ _ (by omega)]; exact fr q hq⟩ ⟨gr, by rw [hset_ne _ _ (by omega)]; exact r1, r2⟩
    show (if t = 25 * i + 5 * j + k then d k else pcut p n cs (25 * i + 5 * j + k) t) = pcut p n cs (25 * i + 5 * j + (k + 1)) t
    unfold pcut
    (try dsimp only)
    by_cases c : t = 25 * i + 5 * j + k
    · rw [if_pos c, if_pos ⟨⟨by omega, by omega, by omega, by omega⟩, by omega⟩, hd k (by omega)]
      unfold pdg
      rw [show t / 25 = i by omega, show t / 5 % 5 = j by omega, show t % 5 = k by omega]
    · rw [if_neg c]
      by_cases c2 : inC n t ∧ t < 25 * i + 5 * j + k
      · rw [if_pos c2, if_pos ⟨c2.1, by omega⟩]
      · rw [if_neg c2, if_neg (fun z => c2 ⟨z.1, by omega⟩)]
theorem l_fz_j {i : Nat} (hc : canBe p n) (hn : n ≤ 4) (hcs : ∀ t, t < n → gf t = nI (cs t) ∧ cs t < p) (hfa : h fa = some (aI n gf)) (hfs : fa < zq) (hi : i < n)
    (kk : ∀ z h2, zq + 32 ≤ z → FdI h h2 zq p n (pcut p n cs (25 * (i + 1))) → VS ro ML_field Post (z, 32 + 4 * (i + 1), 160 + 8 * (4 * (i + 1))) h2 160 [some (.int (nI p)), some (.int (nI n)), some (.ref fa), some (.ref zq), some (.int (nI i)), none, none, none, none] []) :
    ∀ (r j : Nat), r = n - j → j ≤ n → ∀ z h2, zq + 32 ≤ z → FdI h h2 zq p n (pcut p n cs (25 * i + 5 * j)) → VS ro ML_field Post (z, 32 + (4 * i + j), 160 + 8 * (4 * i + j)) h2 26 [some (.int (nI p)), some (.int (nI n)), some (.ref fa), some (.ref zq), some (.int (nI i)), some (.int (nI j)), none, none, none] [] := by
  obtain ⟨p1, p5, n0, n5, -⟩ := cb_b hc
  intro r
  induction r with
  | zero =>
    intro j e1 e2 z h2 hz hI
    have : j = n := by omega
    subst this
    refine ze_iload (pc := 26) dL_field_26 rfl ?_
    refine ze_iload_n (pc := 28) dL_field_28 rfl rfl ?_
    refine zn_icmp_ge (pc := 29) (tgt := 160) dL_field_29 (by decide) (by omega) (by omega) (fun c => ?_) (fun c => absurd c (by omega))
    refine VS.mask [true, true, true, true, true, false, false, false, false] ?_
    refine VS.widen (c2 := 32 + 4 * (i + 1)) (s2 := 160 + 8 * (4 * (i + 1))) (by dsimp only; omega) (by dsimp only; omega) ?_
    refine kk z h2 hz ⟨⟨hI.1.1, hI.1.2.congr (fun t ht => ?_)⟩, hI.2⟩
    unfold pcut
    (try dsimp only)
    by_cases c : inC j t ∧ t < 25 * i + 5 * j
    · rw [if_pos c, if_pos ⟨c.1, by omega⟩]
    · rw [if_neg c, if_neg (fun z => c ⟨z.1, by obtain ⟨⟨q1, q2, q3, q4⟩, q5⟩ := z; omega⟩)]
  | succ r ih =>
    intro j e1 e2 z h2 hz hI
    refine ze_iload (pc := 26) dL_field_26 rfl ?_
    refine ze_iload_n (pc := 28) dL_field_28 rfl rfl ?_
    refine zn_icmp_ge (pc := 29) (tgt := 160) dL_field_29 (by decide) (by omega) (by omega) (fun c => absurd c (by omega)) (fun c => ?_)
    refine zn_iconst (pc := 32) 2 dL_field_32 (by decide) ?_
    refine ze_iload_n (pc := 33) dL_field_33 rfl rfl ?_
    refine zn_imul (pc := 34) dL_field_34 ?_
    refine ze_newI (pc := 35) dL_field_35 rfl (by omega) ⟨by show 32 + (4 * i + j) + 1 ≤ 80; omega, by show 160 + 8 * (4 * i + j) + 2 * n ≤ 1200; omega⟩ ?_
    dsimp only
    refine ze_astore (pc := 37) dL_field_37 (by decide) ?_
    refine ze_aload (pc := 39) dL_field_39 rfl ?_
    refine ze_iload (pc := 41) dL_field_41 rfl ?_
    refine ze_iload (pc := 43) dL_field_43 rfl ?_
    refine zn_iadd (pc := 45) dL_field_45 ?_
    refine zn_iconst (pc := 46) 1 dL_field_46 (by decide) ?_
    refine ze_iastN (pc := 47) (i + j) dL_field_47 (by repeat (first | assumption | exact hset_eq _ _ _ | rw [hset_ne _ _ (by omega)])) (by rfl) (by omega) (by first | decide | omega) ?_
    rw [hset_hset]
    refine zn_iconst (pc := 48) 2 dL_field_48 (by decide) ?_
    refine ze_iload_n (pc := 49) dL_field_49 rfl rfl ?_
    refine zn_imul (pc := 50) dL_field_50 ?_
    refine zn_iconst (pc := 51) 1 dL_field_51 (by decide) ?_
    refine zn_isub (pc := 52) dL_field_52 (by omega) ?_
    refine ze_istore (pc := 53) dL_field_53 (by decide) ?_
    refine VS.widen (c2 := 32 + (4 * i + (j + 1))) (s2 := 160 + 8 * (4 * i + (j + 1))) (by dsimp only; omega) (by dsimp only; omega) ?_
    dsimp only
    refine l_fz_m (a := z) (zq := zq) (K := fun h3 => ∀ q, q ≠ z → h3 q = h2 q) hc hcs (by omega) (fun h3 x k3 q hq => (hset_ne _ _ hq).trans (k3 q hq)) (fun h3 k3 => by rw [k3 fa (by omega), hI.2 fa hfs]; exact hfa) (fun h3 d k3 hR hd => ?_) n (2 * n - 1) (by omega) (by omega) (by omega) _ (fun s => if s = i + j then 1 else 0) (fun q hq => hset_ne _ _ hq) ⟨_, hset_eq _ _ _, fun s hs => ?_⟩ (Led.start hc (by omega))
    · refine zn_iconst (pc := 121) 0 dL_field_121 (by decide) ?_
      refine ze_istore (pc := 122) dL_field_122 (by decide) ?_
      refine l_fz_k (a := z) (d := d) (h := h) n5 hi (by omega) (by omega) hd (fun h4 hI4 => ?_) n 0 (by omega) (by omega) h3 ⟨hI.1.kept (fun q q1 q2 => k3 q (by omega)), fun q hq => (k3 q (by omega)).trans (hI.2 q hq)⟩ hR
      refine zn_inc (pc := 154) dL_field_154 rfl (by decide) ?_
      refine ze_goto (pc := 157) (tgt := 26) dL_field_157 (by decide) ?_
      exact ih (j + 1) (by omega) (by omega) (z + 1) h4 (by omega) hI4
    · unfold upd
      by_cases e : s = i + j
      · (try dsimp only); rw [if_pos e, if_pos e]
      · (try dsimp only); rw [if_neg e, if_neg e]; rfl
theorem l_fz_i (hc : canBe p n) (hn : n ≤ 4) (hcs : ∀ t, t < n → gf t = nI (cs t) ∧ cs t < p) (hfa : h fa = some (aI n gf)) (hfs : fa < zq)
    (kk : ∀ z h2, zq + 32 ≤ z → FdI h h2 zq p n (pcut p n cs 125) → VS ro ML_field Post (z, 48, 288) h2 166 [some (.int (nI p)), some (.int (nI n)), some (.ref fa), some (.ref zq), none, none, none, none, none] []) :
    ∀ (r i : Nat), r = n - i → i ≤ n → ∀ z h2, zq + 32 ≤ z → FdI h h2 zq p n (pcut p n cs (25 * i)) → VS ro ML_field Post (z, 32 + 4 * i, 160 + 8 * (4 * i)) h2 17 [some (.int (nI p)), some (.int (nI n)), some (.ref fa), some (.ref zq), some (.int (nI i)), none, none, none, none] [] := by
  obtain ⟨p1, p5, n0, n5, -⟩ := cb_b hc
  intro r
  induction r with
  | zero =>
    intro i e1 e2 z h2 hz hI
    have : i = n := by omega
    subst this
    refine ze_iload (pc := 17) dL_field_17 rfl ?_
    refine ze_iload_n (pc := 19) dL_field_19 rfl rfl ?_
    refine zn_icmp_ge (pc := 20) (tgt := 166) dL_field_20 (by decide) (by omega) (by omega) (fun c => ?_) (fun c => absurd c (by omega))
    refine VS.mask [true, true, true, true, false, false, false, false, false] ?_
    refine VS.widen (c2 := 48) (s2 := 288) (by dsimp only; omega) (by dsimp only; omega) ?_
    refine kk z h2 hz ⟨⟨hI.1.1, hI.1.2.congr (fun t ht => ?_)⟩, hI.2⟩
    unfold pcut
    (try dsimp only)
    by_cases c : inC i t ∧ t < 25 * i
    · rw [if_pos c, if_pos ⟨c.1, by omega⟩]
    · rw [if_neg c, if_neg (fun z => c ⟨z.1, by obtain ⟨⟨q1, q2, q3, q4⟩, q5⟩ := z; omega⟩)]
  | succ r ih =>
    intro i e1 e2 z h2 hz hI
    refine ze_iload (pc := 17) dL_field_17 rfl ?_
    refine ze_iload_n (pc := 19) dL_field_19 rfl rfl ?_
    refine zn_icmp_ge (pc := 20) (tgt := 166) dL_field_20 (by decide) (by omega) (by omega) (fun c => absurd c (by omega)) (fun c => ?_)
    refine zn_iconst (pc := 23) 0 dL_field_23 (by decide) ?_
    refine ze_istore (pc := 24) dL_field_24 (by decide) ?_
    refine l_fz_j (i := i) hc hn hcs hfa hfs (by omega) (fun z3 h3 hz3 hI3 => ?_) n 0 (by omega) (by omega) z h2 hz hI
    refine zn_inc (pc := 160) dL_field_160 rfl (by decide) ?_
    refine ze_goto (pc := 163) (tgt := 17) dL_field_163 (by decide) ?_
    exact ih (i + 1) (by omega) (by omega) z3 h3 hz3 hI3
theorem c_L_field (hc : canBe p n) (hn : n ≤ 4) (hq : p ^ n ≤ 27) (hcs : ∀ t, t < n → gf t = nI (cs t) ∧ cs t < p) (hfa : h fa = some (aI n gf)) (hfs : fa < zq) : CnS ro yL_field ML_field [.int (nI p), .int (nI n), .ref fa] zq h (fun r h' z => r = some (.ref zq) ∧ WT h' zq z (polyW p n cs) ∧ zq + 33 ≤ z ∧ ∀ q, q < zq → h' q = h q) := by
  obtain ⟨p1, p5, n0, n5, -⟩ := cb_b hc
  refine CnS.ofVS (by decide) rfl (fun q => by cases q) (by simp [Value.category]) (by exact Nat.le_of_ble_eq_true rfl) ?_
  refine ze_new (pc := 0) nw_L_28 dL_field_0 ⟨by exact Nat.le_of_ble_eq_true rfl, by exact Nat.le_of_ble_eq_true rfl⟩ ?_
  dsimp only
  refine ze_dup (pc := 3) dL_field_3 rfl ?_
  refine ze_callIN (pc := 4) (host := "NeedNotJoinLaw") (c_X11_init (w := zq) (hset_eq _ _ _)) bX11_init rfl rfl q_i_X11_init (by decide) dL_field_4 rfl rfl (by exact Nat.le_of_ble_eq_true rfl) ⟨by decide, by decide⟩ ⟨by exact Nat.le_of_ble_eq_true rfl, by exact Nat.le_of_ble_eq_true rfl⟩ (fun r h2 z hp' => ?_)
  obtain ⟨rfl, rfl, hL, hf⟩ := hp'
  obtain ⟨l1, l2⟩ := hL
  refine ze_astore_n (pc := 7) dL_field_7 rfl (by decide) ?_
  refine ze_aload_n (pc := 8) dL_field_8 rfl rfl ?_
  refine ze_iload_n (pc := 9) dL_field_9 rfl rfl ?_
  refine ze_iload_n (pc := 10) dL_field_10 rfl rfl ?_
  refine zn_Vv (pc := 11) (c_X11_sizes l1 ⟨by omega, by omega⟩ n5) bX11_sizes q_i_X11_sizes q_s_X11_sizes q_m_L_31 dL_field_11 rfl rfl (by repeat (first | assumption | exact hset_eq _ _ _ | rw [hset_ne _ _ (by omega)])) rfl rfl (by exact Nat.le_of_ble_eq_true rfl) ⟨by decide, by decide⟩ ⟨rfl, rfl, by first | exact Nat.zero_le _ | exact Nat.le_of_ble_eq_true rfl, by first | exact Nat.zero_le _ | exact Nat.le_of_ble_eq_true rfl⟩ (fun h3 hp' => ?_)
  subst hp'
  refine zn_iconst (pc := 14) 0 dL_field_14 (by decide) ?_
  refine ze_istore (pc := 15) dL_field_15 (by decide) ?_
  refine VS.widen (c2 := 32 + 4 * 0) (s2 := 160 + 8 * (4 * 0)) (by exact Nat.le_of_ble_eq_true rfl) (by exact Nat.le_of_ble_eq_true rfl) ?_
  dsimp only
  refine l_fz_i (h := h) (cs := cs) hc hn hcs hfa hfs (fun z4 h4 hz4 hI4 => ?_) n 0 (by omega) (by omega) (zq + 32) _ (by omega) ⟨⟨hset_eq _ _ _, (l2.kept (fun q q1 q2 => hset_ne _ _ (by omega))).congr (fun t _ => by show 0 = pcut p n cs (25 * 0) t; unfold pcut; rw [if_neg (fun z => absurd z.2 (by omega))])⟩, fun q hq => by rw [hset_ne _ _ (by omega), hf q hq, hset_ne _ _ (by omega)]⟩
  have hW : LW h4 zq (polyW p n cs) .null := ⟨hI4.1.1, hI4.1.2.congr (fun t ht => ?_)⟩
  · obtain ⟨w1, -⟩ := id hW
    refine ze_aload_n (pc := 166) dL_field_166 rfl rfl ?_
    refine ze_callV (pc := 167) (c_X11_lays (zq := z4) hW (polyW_ok hc) hq (by omega)) bX11_lays q_i_X11_lays q_s_X11_lays q_m_L_39 dL_field_167 rfl rfl (by repeat (first | assumption | exact hset_eq _ _ _ | rw [hset_ne _ _ (by omega)])) rfl rfl (by exact Nat.le_of_ble_eq_true rfl) ⟨by decide, by decide⟩ ⟨by show _ + 30 ≤ 80; first | omega | (dsimp only; omega) | dsimp only | exact Nat.le_of_ble_eq_true rfl, by show _ + 800 ≤ 1200; first | omega | (dsimp only; omega) | dsimp only | exact Nat.le_of_ble_eq_true rfl⟩ (fun r h5 z5 hp' => ?_)
    (try dsimp only [MI.mc, MI.ms, MX11_lays, Nat.add_zero])
    obtain ⟨rfl, rfl, k1, k2, k3⟩ := hp'
    refine ze_aload_n (pc := 170) dL_field_170 rfl rfl ?_
    exact ze_aretR dL_field_171 (Or.inl ⟨_, rfl⟩) ⟨by exact Nat.le_of_ble_eq_true rfl, by exact Nat.le_of_ble_eq_true rfl⟩ ⟨rfl, ⟨z4, k1, k2, by omega, by show z4 + p ^ n < z4 + p ^ n + 2; omega⟩, by omega, fun q q1 => (k3 q (by omega) (by omega)).trans (hI4.2 q q1)⟩
  · show pcut p n cs 125 t = if inC n t then _ else 0
    unfold pcut
    (try dsimp only)
    by_cases c : inC n t
    · rw [if_pos ⟨c, ht⟩, if_pos c]; rfl
    · rw [if_neg (fun z => c z.1), if_neg c]
end LG
