/-! ===== the reference: the cube of polynomials ===== -/
section FI
variable {H : AH} {m p n q sz : Nat} {s : Ms} {cs : Nat → Nat}
def FrF (m : Nat) (h h' : AH) : Prop := ∀ b, b ≠ m + 8 → b ≠ m + 4 → h' b = h b
theorem FrF.rf (m : Nat) (h : AH) : FrF m h h := fun _ _ _ => rfl
theorem FrF.set8 {m : Nat} {h h1 : AH} {x : AE} (a : FrF m h h1) : FrF m h (hset h1 (m + 8) x) := fun b q1 q2 => (hset_ne _ _ q1).trans (a b q1 q2)
theorem FrF.set4 {m : Nat} {h h1 : AH} {x : AE} (a : FrF m h h1) : FrF m h (hset h1 (m + 4) x) := fun b q1 q2 => (hset_ne _ _ q2).trans (a b q1 q2)
/-- the cube so far: all places of degree below d, of degree d those before i -/
def fiC (p n : Nat) (cs : Nat → Nat) (d i k t : Nat) : Nat := if inC n t ∧ (t / 25 + t / 5 % 5 < d ∨ t / 25 + t / 5 % 5 = d ∧ (t / 25 < i ∨ t / 25 = i ∧ t % 5 < k)) then dg p (pwr p n cs (t / 25 + t / 5 % 5)) (t % 5) else 0
def FiA (h : AH) (m p n : Nat) (cs : Nat → Nat) (d i k : Nat) : Prop := ∃ g, h (m + 8) = some (aI 125 g) ∧ ∀ t, t < 125 → g t = nI (fiC p n cs d i k t)
theorem FiA.step {h : AH} {d i k d2 i2 k2 : Nat} (q : FiA h m p n cs d i k) (e : ∀ t, inC n t → ((t / 25 + t / 5 % 5 < d ∨ t / 25 + t / 5 % 5 = d ∧ (t / 25 < i ∨ t / 25 = i ∧ t % 5 < k)) ↔ (t / 25 + t / 5 % 5 < d2 ∨ t / 25 + t / 5 % 5 = d2 ∧ (t / 25 < i2 ∨ t / 25 = i2 ∧ t % 5 < k2)))) : FiA h m p n cs d2 i2 k2 := by
  obtain ⟨g, g1, g2⟩ := q
  refine ⟨g, g1, fun t ht => ?_⟩
  rw [g2 t ht]
  unfold fiC
  by_cases c : inC n t ∧ (t / 25 + t / 5 % 5 < d ∨ t / 25 + t / 5 % 5 = d ∧ (t / 25 < i ∨ t / 25 = i ∧ t % 5 < k))
  · rw [if_pos c, if_pos ⟨c.1, (e t c.1).mp c.2⟩]
  · rw [if_neg c, if_neg (fun z => c ⟨z.1, (e t z.1).mpr z.2⟩)]
/-- the digits of a power of the unknown -/
def FiD (h : AH) (m p n : Nat) (cs : Nat → Nat) (d : Nat) : Prop := ∃ g, h (m + 4) = some (aI 5 g) ∧ ∀ k, k < n → g k = nI (dg p (pwr p n cs d) k)
theorem l_fi_z {Pr : AH → Prop} (hM : MH H m p n q s)
    (kk : ∀ g, (∀ t, t < 125 → g t = nI 0) → VV MX11_fields sz Pr (hset H (m + 8) (aI 125 g)) 21 [some (.ref m), none, none, none, none] []) :
    ∀ (t k : Nat), t = 125 - k → k ≤ 125 → ∀ g, (∀ t, t < k → g t = nI 0) → VV MX11_fields sz Pr (hset H (m + 8) (aI 125 g)) 2 [some (.ref m), some (.int (nI k)), none, none, none] [] := by
  intro t
  induction t with
  | zero =>
    intro k e1 e2 g hg
    have e' : k = 125 := by omega
    subst e'
    refine e_iload_n (pc := 2) dX11_fields_2 rfl rfl ?_
    refine n_bipush (pc := 3) 125 dX11_fields_3 (by decide) ?_
    refine n_icmp_ge (pc := 5) (tgt := 21) dX11_fields_5 (by decide) (by omega) (by omega) (fun hb_ => ?_) (fun c => absurd c (by omega))
    refine V.mask [true, false, false, false, false] ?_
    exact kk g hg
  | succ t ih =>
    intro k e1 e2 g hg
    have hM1 : MH (hset H (m + 8) (aI 125 g)) m p n q s := (hset_ne _ _ (by omega)).trans hM
    refine e_iload_n (pc := 2) dX11_fields_2 rfl rfl ?_
    refine n_bipush (pc := 3) 125 dX11_fields_3 (by decide) ?_
    refine n_icmp_ge (pc := 5) (tgt := 21) dX11_fields_5 (by decide) (by omega) (by omega) (fun c => absurd c (by omega)) (fun hb_ => ?_)
    refine e_aload_n (pc := 8) dX11_fields_8 rfl rfl ?_
    refine e_get (pc := 9) fl_X11_31 dX11_fields_9 (by repeat (first | assumption | exact hset_eq _ _ _ | (apply Lay.hd; assumption) | rw [hset_ne _ _ (by omega)])) (by rfl) ?_
    refine e_iload_n (pc := 12) dX11_fields_12 rfl rfl ?_
    refine n_iconst (pc := 13) 0 dX11_fields_13 (by decide) ?_
    refine e_iastN (pc := 14) k dX11_fields_14 (by repeat (first | assumption | exact hset_eq _ _ _ | (apply Lay.hd; assumption) | rw [hset_ne _ _ (by omega)])) (by rfl) (by omega) (by first | decide | omega) ?_
    refine e_heap (hset_hset H (m + 8) _ _) ?_
    refine n_inc (pc := 15) dX11_fields_15 rfl (by decide) ?_
    refine e_goto (pc := 18) (tgt := 2) dX11_fields_18 (by decide) ?_
    refine ih (k + 1) (by omega) (by omega) _ (fun t ht => ?_)
    by_cases c : t = k
    · subst c; rw [pk_us]
    · rw [pk_un c]; exact hg t (by omega)
theorem l_fi_1 {d : Nat} {Pr : AH → Prop} (hM : MH H m p n q s) (hp : 2 ≤ p) (hn : n ≤ 5) (hd : d < 10)
    (kk : ∀ g, (∀ k, k < n → g k = nI (dg p (pwr p n cs d) k)) → VV MX11_fields sz Pr (hset H (m + 4) (aI 5 g)) 78 [some (.ref m), some (.ref (m + 4)), some (.int (nI d)), none, none] []) :
    ∀ (t k : Nat), t = n - k → k ≤ n → ∀ g, (∀ j, j < n → (0 < d ∨ j < k) → g j = nI (dg p (pwr p n cs d) j)) → VV MX11_fields sz Pr (hset H (m + 4) (aI 5 g)) 42 [some (.ref m), some (.ref (m + 4)), some (.int (nI d)), some (.int (nI k)), none] [] := by
  intro t
  induction t with
  | zero =>
    intro k e1 e2 g hg
    have e' : k = n := by omega
    subst e'
    have hM1 : MH (hset H (m + 4) (aI 5 g)) m p k q s := (hset_ne _ _ (by omega)).trans hM
    refine e_iload_n (pc := 42) dX11_fields_42 rfl rfl ?_
    refine e_aload_n (pc := 43) dX11_fields_43 rfl rfl ?_
    refine e_get (pc := 44) fl_X11_109 dX11_fields_44 (by repeat (first | assumption | exact hset_eq _ _ _ | (apply Lay.hd; assumption) | rw [hset_ne _ _ (by omega)])) (by rfl) ?_
    refine n_icmp_ge (pc := 47) (tgt := 78) dX11_fields_47 (by decide) (by omega) (by omega) (fun hb_ => ?_) (fun c => absurd c (by omega))
    refine V.mask [true, true, true, false, false] ?_
    exact kk g (fun j hj => hg j hj (Or.inr hj))
  | succ t ih =>
    intro k e1 e2 g hg
    have hk : k < n := by omega
    have hM1 : MH (hset H (m + 4) (aI 5 g)) m p n q s := (hset_ne _ _ (by omega)).trans hM
    have nx : ∀ v, v = dg p (pwr p n cs d) k → VV MX11_fields sz Pr (hset H (m + 4) (aI 5 g)) 71 [some (.ref m), some (.ref (m + 4)), some (.int (nI d)), some (.int (nI k)), none] [.int (nI v), .int (nI k), .ref (m + 4)] := fun v hv => by
      refine e_iastN (pc := 71) k dX11_fields_71 (by repeat (first | assumption | exact hset_eq _ _ _ | (apply Lay.hd; assumption) | rw [hset_ne _ _ (by omega)])) (by rfl) (by omega) (by first | decide | omega) ?_
      refine n_inc (pc := 72) dX11_fields_72 rfl (by decide) ?_
      refine e_goto (pc := 75) (tgt := 42) dX11_fields_75 (by decide) ?_
      refine e_heap (hset_hset H (m + 4) _ _) ?_
      refine ih (k + 1) (by omega) (by omega) _ (fun j hj hx => ?_)
      by_cases e : j = k
      · subst e; rw [pk_us, hv]
      · rw [pk_un e]; exact hg j hj (by omega)
    refine e_iload_n (pc := 42) dX11_fields_42 rfl rfl ?_
    refine e_aload_n (pc := 43) dX11_fields_43 rfl rfl ?_
    refine e_get (pc := 44) fl_X11_109 dX11_fields_44 (by repeat (first | assumption | exact hset_eq _ _ _ | (apply Lay.hd; assumption) | rw [hset_ne _ _ (by omega)])) (by rfl) ?_
    refine n_icmp_ge (pc := 47) (tgt := 78) dX11_fields_47 (by decide) (by omega) (by omega) (fun c => absurd c (by omega)) (fun hb_ => ?_)
    refine e_aload_n (pc := 50) dX11_fields_50 rfl rfl ?_
    refine e_iload_n (pc := 51) dX11_fields_51 rfl rfl ?_
    refine e_iload_n (pc := 52) dX11_fields_52 rfl rfl ?_
    refine n_if_ne (pc := 53) (tgt := 68) dX11_fields_53 (by decide) (by omega) (fun c => ?_) (fun c => ?_)
    · have z := hg k hk (Or.inl (by omega))
      refine e_aload_n (pc := 68) dX11_fields_68 rfl rfl ?_
      refine e_iload_n (pc := 69) dX11_fields_69 rfl rfl ?_
      refine e_ialdN (pc := 70) k dX11_fields_70 (by repeat (first | assumption | exact hset_eq _ _ _ | (apply Lay.hd; assumption) | rw [hset_ne _ _ (by omega)])) (by rfl) (by omega) (by first | decide | omega) ?_
      rw [z]
      exact nx _ rfl
    · subst c
      have p0 : pwr p n cs 0 = p ^ 0 := rfl
      refine e_iload_n (pc := 56) dX11_fields_56 rfl rfl ?_
      refine n_if_ne (pc := 57) (tgt := 64) dX11_fields_57 (by decide) (by omega) (fun c2 => ?_) (fun c2 => ?_)
      · refine n_iconst (pc := 64) 0 dX11_fields_64 (by decide) ?_
        refine e_goto (pc := 65) (tgt := 71) dX11_fields_65 (by decide) ?_
        exact nx 0 (by rw [p0, dg_pow (by omega), if_neg (by omega)])
      · refine n_iconst (pc := 60) 1 dX11_fields_60 (by decide) ?_
        refine e_goto (pc := 61) (tgt := 71) dX11_fields_61 (by decide) ?_
        exact nx 1 (by rw [p0, dg_pow (by omega), if_pos (by omega)])
theorem l_fi_k {d i : Nat} {Pr : AH → Prop} {hh : AH} (hM : MH H m p n q s) (hn : n ≤ 5) (hd : d < 10) (hi : i < n) (hid : i ≤ d) (hj : d - i < n) (hD : FiD H m p n cs d) (hf : FrF m hh H)
    (kk : ∀ h, FrF m hh h → FiD h m p n cs d → FiA h m p n cs d (i + 1) 0 → VV MX11_fields sz Pr h 147 [some (.ref m), some (.ref (m + 4)), some (.int (nI d)), some (.int (nI i)), none] []) :
    ∀ (t k : Nat), t = n - k → k ≤ n → ∀ g, (∀ t, t < 125 → g t = nI (fiC p n cs d i k t)) → VV MX11_fields sz Pr (hset H (m + 8) (aI 125 g)) 110 [some (.ref m), some (.ref (m + 4)), some (.int (nI d)), some (.int (nI i)), some (.int (nI k))] [] := by
  obtain ⟨gd, d1, d2⟩ := id hD
  intro t
  induction t with
  | zero =>
    intro k e1 e2 g hg
    have e' : k = n := by omega
    have hM1 : MH (hset H (m + 8) (aI 125 g)) m p n q s := (hset_ne _ _ (by omega)).trans hM
    refine e_iload (pc := 110) dX11_fields_110 rfl ?_
    refine e_aload_n (pc := 112) dX11_fields_112 rfl rfl ?_
    refine e_get (pc := 113) fl_X11_109 dX11_fields_113 (by repeat (first | assumption | exact hset_eq _ _ _ | (apply Lay.hd; assumption) | rw [hset_ne _ _ (by omega)])) (by rfl) ?_
    refine n_icmp_ge (pc := 116) (tgt := 147) dX11_fields_116 (by decide) (by omega) (by omega) (fun hb_ => ?_) (fun c => absurd c (by omega))
    refine V.mask [true, true, true, true, false] ?_
    have A : FiA (hset H (m + 8) (aI 125 g)) m p n cs d i k := ⟨g, hset_eq _ _ _, hg⟩
    exact kk _ hf.set8 ⟨gd, (hset_ne _ _ (by omega)).trans d1, d2⟩ (A.step (fun t ht => by have := ht.2.2.2; omega))
  | succ t ih =>
    intro k e1 e2 g hg
    have hk : k < n := by omega
    have hM1 : MH (hset H (m + 8) (aI 125 g)) m p n q s := (hset_ne _ _ (by omega)).trans hM
    have z := d2 k hk
    refine e_iload (pc := 110) dX11_fields_110 rfl ?_
    refine e_aload_n (pc := 112) dX11_fields_112 rfl rfl ?_
    refine e_get (pc := 113) fl_X11_109 dX11_fields_113 (by repeat (first | assumption | exact hset_eq _ _ _ | (apply Lay.hd; assumption) | rw [hset_ne _ _ (by omega)])) (by rfl) ?_
    refine n_icmp_ge (pc := 116) (tgt := 147) dX11_fields_116 (by decide) (by omega) (by omega) (fun c => absurd c (by omega)) (fun hb_ => ?_)
    refine e_aload_n (pc := 119) dX11_fields_119 rfl rfl ?_
    refine e_get (pc := 120) fl_X11_31 dX11_fields_120 (by repeat (first | assumption | exact hset_eq _ _ _ | (apply Lay.hd; assumption) | rw [hset_ne _ _ (by omega)])) (by rfl) ?_
    refine n_bipush (pc := 123) 25 dX11_fields_123 (by decide) ?_
    refine e_iload_n (pc := 125) dX11_fields_125 rfl rfl ?_
    refine n_imul (pc := 126) dX11_fields_126 ?_
    refine n_iconst (pc := 127) 5 dX11_fields_127 (by decide) ?_
    refine e_iload_n (pc := 128) dX11_fields_128 rfl rfl ?_
    refine e_iload_n (pc := 129) dX11_fields_129 rfl rfl ?_
    refine n_isub (pc := 130) dX11_fields_130 (by omega) ?_
    refine n_imul (pc := 131) dX11_fields_131 ?_
    refine n_iadd (pc := 132) dX11_fields_132 ?_
    refine e_iload (pc := 133) dX11_fields_133 rfl ?_
    refine n_iadd (pc := 135) dX11_fields_135 ?_
    refine e_aload_n (pc := 136) dX11_fields_136 rfl rfl ?_
    refine e_iload (pc := 137) dX11_fields_137 rfl ?_
    refine e_ialdN (pc := 139) k dX11_fields_139 (by repeat (first | assumption | exact hset_eq _ _ _ | (apply Lay.hd; assumption) | rw [hset_ne _ _ (by omega)])) (by rfl) (by omega) (by first | decide | omega) ?_
    rw [z]
    refine e_iastN (pc := 140) (25 * i + 5 * (d - i) + k) dX11_fields_140 (by repeat (first | assumption | exact hset_eq _ _ _ | (apply Lay.hd; assumption) | rw [hset_ne _ _ (by omega)])) (by rfl) (by omega) (by first | decide | omega) ?_
    refine n_inc (pc := 141) dX11_fields_141 rfl (by decide) ?_
    refine e_goto (pc := 144) (tgt := 110) dX11_fields_144 (by decide) ?_
    refine e_heap (hset_hset H (m + 8) _ _) ?_
    refine ih (k + 1) (by omega) (by omega) _ (fun t ht => ?_)
    unfold fiC at hg ⊢
    by_cases e : t = 25 * i + 5 * (d - i) + k
    · have t1 : t / 25 = i := by omega
      have t2 : t / 5 % 5 = d - i := by omega
      have t3 : t % 5 = k := by omega
      rw [e, pk_us, ← e, if_pos ⟨⟨ht, by omega, by omega, by omega⟩, by omega⟩, t1, t2, t3, show i + (d - i) = d by omega]
    · rw [pk_un e, hg t ht]
      refine congrArg nI ?_
      by_cases c : inC n t ∧ (t / 25 + t / 5 % 5 < d ∨ t / 25 + t / 5 % 5 = d ∧ (t / 25 < i ∨ t / 25 = i ∧ t % 5 < k))
      · rw [if_pos c, if_pos ⟨c.1, by have := c.2; omega⟩]
      · rw [if_neg c, if_neg (fun z => c ⟨z.1, by have := z.2; omega⟩)]
theorem neg_small : ∀ i : Nat, i < 6 → ∀ d : Nat, d < i → nI d - nI i < nI 0 := by decide
theorem inB_dif {d i : Nat} (hn : 1 ≤ n ∧ n ≤ 5) (hd : d < 10) (hi : i < n) : inB (nI d - nI i) (nI 0) (nI (n - 1)) = decide (i ≤ d ∧ d - i < n) := by
  by_cases c : i ≤ d
  · rw [pk_sub c, inB_nat (by omega) (by decide) (by omega)]
    by_cases c2 : d - i < n
    · rw [decide_eq_true (show 0 ≤ d - i ∧ d - i ≤ n - 1 by omega), decide_eq_true (show i ≤ d ∧ d - i < n from ⟨c, c2⟩)]
    · rw [decide_eq_false (show ¬ (0 ≤ d - i ∧ d - i ≤ n - 1) by omega), decide_eq_false (show ¬ (i ≤ d ∧ d - i < n) from fun z => c2 z.2)]
  · rw [decide_eq_false (show ¬ (i ≤ d ∧ d - i < n) from fun z => c z.1)]
    unfold inB
    rw [decide_eq_true (neg_small i (by omega) d (by omega))]
    rfl
theorem l_fi_i {d : Nat} {Pr : AH → Prop} {hh : AH} (hM : MH hh m p n q s) (hn : 1 ≤ n ∧ n ≤ 5) (hd : d < 10)
    (kk : ∀ h, FrF m hh h → FiD h m p n cs d → FiA h m p n cs (d + 1) 0 0 → VV MX11_fields sz Pr h 153 [some (.ref m), some (.ref (m + 4)), some (.int (nI d)), none, none] []) :
    ∀ (t i : Nat), t = n - i → i ≤ n → ∀ h, FrF m hh h → FiD h m p n cs d → FiA h m p n cs d i 0 → VV MX11_fields sz Pr h 80 [some (.ref m), some (.ref (m + 4)), some (.int (nI d)), some (.int (nI i)), none] [] := by
  intro t
  induction t with
  | zero =>
    intro i e1 e2 h hf hD hA
    have e' : i = n := by omega
    have hM1 : MH h m p n q s := (hf _ (by omega) (by omega)).trans hM
    refine e_iload_n (pc := 80) dX11_fields_80 rfl rfl ?_
    refine e_aload_n (pc := 81) dX11_fields_81 rfl rfl ?_
    refine e_get (pc := 82) fl_X11_109 dX11_fields_82 (by repeat (first | assumption | exact hset_eq _ _ _ | (apply Lay.hd; assumption) | rw [hset_ne _ _ (by omega)])) (by rfl) ?_
    refine n_icmp_ge (pc := 85) (tgt := 153) dX11_fields_85 (by decide) (by omega) (by omega) (fun hb_ => ?_) (fun c => absurd c (by omega))
    refine V.mask [true, true, true, false, false] ?_
    exact kk h hf hD (hA.step (fun t ht => by have := ht.2.1; omega))
  | succ t ih =>
    intro i e1 e2 h hf hD hA
    have hi : i < n := by omega
    have hM1 : MH h m p n q s := (hf _ (by omega) (by omega)).trans hM
    refine e_iload_n (pc := 80) dX11_fields_80 rfl rfl ?_
    refine e_aload_n (pc := 81) dX11_fields_81 rfl rfl ?_
    refine e_get (pc := 82) fl_X11_109 dX11_fields_82 (by repeat (first | assumption | exact hset_eq _ _ _ | (apply Lay.hd; assumption) | rw [hset_ne _ _ (by omega)])) (by rfl) ?_
    refine n_icmp_ge (pc := 85) (tgt := 153) dX11_fields_85 (by decide) (by omega) (by omega) (fun c => absurd c (by omega)) (fun hb_ => ?_)
    refine e_iload_n (pc := 88) dX11_fields_88 rfl rfl ?_
    refine e_iload_n (pc := 89) dX11_fields_89 rfl rfl ?_
    refine e_isub (pc := 90) dX11_fields_90 ?_
    refine n_iconst (pc := 91) 0 dX11_fields_91 (by decide) ?_
    refine e_aload_n (pc := 92) dX11_fields_92 rfl rfl ?_
    refine e_get (pc := 93) fl_X11_109 dX11_fields_93 (by repeat (first | assumption | exact hset_eq _ _ _ | (apply Lay.hd; assumption) | rw [hset_ne _ _ (by omega)])) (by rfl) ?_
    refine n_iconst (pc := 96) 1 dX11_fields_96 (by decide) ?_
    refine n_isub (pc := 97) dX11_fields_97 (by omega) ?_
    refine n_SP (pc := 98) (c_X11_isIn (nI d - nI i) (nI 0) (nI (n - 1))) bX11_isIn q_st_X11_isIn q_m_X11_98 dX11_fields_98 rfl rfl (by exact Nat.le_of_ble_eq_true rfl) ⟨by decide, by decide⟩ ⟨rfl, rfl, Nat.zero_le _, Nat.zero_le _⟩ ?_
    rw [inB_dif hn hd hi]
    refine n_bif_ne (pc := 101) (tgt := 107) dX11_fields_101 (by decide) (fun c => ?_) (fun c => ?_)
    · obtain ⟨c1, c2⟩ := of_decide_eq_true c
      obtain ⟨g, g1, g2⟩ := hA
      refine n_iconst (pc := 107) 0 dX11_fields_107 (by decide) ?_
      refine e_istore (pc := 108) dX11_fields_108 (by decide) ?_
      refine e_heap (hset_self g1).symm ?_
      refine l_fi_k hM1 hn.2 hd hi c1 c2 hD hf (fun h2 f2 d2 a2 => ?_) n 0 rfl (Nat.zero_le _) g g2
      refine n_inc (pc := 147) dX11_fields_147 rfl (by decide) ?_
      refine e_goto (pc := 150) (tgt := 80) dX11_fields_150 (by decide) ?_
      exact ih (i + 1) (by omega) (by omega) h2 f2 d2 a2
    · have c := of_decide_eq_false c
      refine e_goto (pc := 104) (tgt := 147) dX11_fields_104 (by decide) ?_
      refine n_inc (pc := 147) dX11_fields_147 rfl (by decide) ?_
      refine e_goto (pc := 150) (tgt := 80) dX11_fields_150 (by decide) ?_
      exact ih (i + 1) (by omega) (by omega) h hf hD (hA.step (fun t ht => by
        have := ht.2.2.1
        have := ht.2.1
        omega))
theorem l_fi_n {d hg0 : Nat} {Pr : AH → Prop} (hM : MH H m p n q s) (hp : 2 ≤ p ∧ p ≤ 5) (hn : 1 ≤ n ∧ n ≤ 5) (hd : d < 10) (hT : ∃ g, H (m + 10) = some (aI 7 g) ∧ ∀ t, t < n → g t = nI (cs t)) (hcs : ∀ t, t < n → cs t < p) (hh : hg0 = dg p (pwr p n cs d) (n - 1))
    (kk : ∀ g, (∀ k, k < n → g k = nI (dg p (pwr p n cs (d + 1)) k)) → VV MX11_fields sz Pr (hset H (m + 4) (aI 5 g)) 222 [some (.ref m), some (.ref (m + 4)), some (.int (nI d)), none, none] []) :
    ∀ (k : Nat), k < n → ∀ g, (∀ j, j < n → g j = nI (if k < j then dg p (pwr p n cs (d + 1)) j else dg p (pwr p n cs d) j)) → VV MX11_fields sz Pr (hset H (m + 4) (aI 5 g)) 170 [some (.ref m), some (.ref (m + 4)), some (.int (nI d)), some (.int (nI hg0)), some (.int (nI k))] [] := by
  obtain ⟨gt, t1, t2⟩ := hT
  have hl : hg0 < p := by rw [hh]; exact dg_lt (by omega) _ _
  have stp1 : ∀ k, k < n → dg p (pwr p n cs (d + 1)) k = ((if k = 0 then 0 else dg p (pwr p n cs d) (k - 1)) + hg0 * cs k) % p := fun k hk => by
    rw [hh]
    exact stp_dg (by omega) hk
  intro k
  induction k with
  | zero =>
    intro hk g hg
    have hM1 : MH (hset H (m + 4) (aI 5 g)) m p n q s := (hset_ne _ _ (by omega)).trans hM
    have z := t2 0 (by omega)
    have c0 := hcs 0 (by omega)
    have l1 : hg0 * cs 0 ≤ 5 * 5 := Nat.mul_le_mul (by omega) (by omega)
    refine e_iload (pc := 170) dX11_fields_170 rfl ?_
    refine n_if_le (pc := 172) (tgt := 206) dX11_fields_172 (by decide) (by omega) (fun _ => ?_) (fun c => absurd rfl c)
    refine e_aload_n (pc := 206) dX11_fields_206 rfl rfl ?_
    refine n_iconst (pc := 207) 0 dX11_fields_207 (by decide) ?_
    refine e_iload_n (pc := 208) dX11_fields_208 rfl rfl ?_
    refine e_aload_n (pc := 209) dX11_fields_209 rfl rfl ?_
    refine e_get (pc := 210) fl_X11_41 dX11_fields_210 (by repeat (first | assumption | exact hset_eq _ _ _ | (apply Lay.hd; assumption) | rw [hset_ne _ _ (by omega)])) (by rfl) ?_
    refine n_iconst (pc := 213) 0 dX11_fields_213 (by decide) ?_
    refine e_ialdN (pc := 214) 0 dX11_fields_214 (by repeat (first | assumption | exact hset_eq _ _ _ | (apply Lay.hd; assumption) | rw [hset_ne _ _ (by omega)])) (by rfl) (by omega) (by first | decide | omega) ?_
    rw [z]
    refine n_imul (pc := 215) dX11_fields_215 ?_
    refine e_aload_n (pc := 216) dX11_fields_216 rfl rfl ?_
    refine e_get (pc := 217) fl_X11_106 dX11_fields_217 (by repeat (first | assumption | exact hset_eq _ _ _ | (apply Lay.hd; assumption) | rw [hset_ne _ _ (by omega)])) (by rfl) ?_
    refine n_irem (pc := 220) dX11_fields_220 (by omega) (by omega) (by omega) ?_
    refine e_iastN (pc := 221) 0 dX11_fields_221 (by repeat (first | assumption | exact hset_eq _ _ _ | (apply Lay.hd; assumption) | rw [hset_ne _ _ (by omega)])) (by rfl) (by omega) (by first | decide | omega) ?_
    refine e_heap (hset_hset H (m + 4) _ _) ?_
    refine V.mask [true, true, true, false, false] ?_
    refine kk _ (fun k hk2 => ?_)
    by_cases e : k = 0
    · subst e
      rw [pk_us, stp1 0 hk2, if_pos rfl, Nat.zero_add]
    · rw [pk_un e, hg k hk2, if_pos (by omega)]
  | succ k ih =>
    intro hk g hg
    have hM1 : MH (hset H (m + 4) (aI 5 g)) m p n q s := (hset_ne _ _ (by omega)).trans hM
    have z := t2 (k + 1) (by omega)
    have z1 := hg k (by omega)
    rw [if_neg (by omega)] at z1
    have c0 := hcs (k + 1) (by omega)
    have l0 := dg_lt (p := p) (by omega) (pwr p n cs d) k
    have l1 : hg0 * cs (k + 1) ≤ 5 * 5 := Nat.mul_le_mul (by omega) (by omega)
    refine e_iload (pc := 170) dX11_fields_170 rfl ?_
    refine n_if_le (pc := 172) (tgt := 206) dX11_fields_172 (by decide) (by omega) (fun c => absurd c (by omega)) (fun _ => ?_)
    refine e_aload_n (pc := 175) dX11_fields_175 rfl rfl ?_
    refine e_iload (pc := 176) dX11_fields_176 rfl ?_
    refine e_aload_n (pc := 178) dX11_fields_178 rfl rfl ?_
    refine e_iload (pc := 179) dX11_fields_179 rfl ?_
    refine n_iconst (pc := 181) 1 dX11_fields_181 (by decide) ?_
    refine n_isub (pc := 182) dX11_fields_182 (by omega) ?_
    rw [show k + 1 - 1 = k from rfl]
    refine e_ialdN (pc := 183) k dX11_fields_183 (by repeat (first | assumption | exact hset_eq _ _ _ | (apply Lay.hd; assumption) | rw [hset_ne _ _ (by omega)])) (by rfl) (by omega) (by first | decide | omega) ?_
    rw [z1]
    refine e_iload_n (pc := 184) dX11_fields_184 rfl rfl ?_
    refine e_aload_n (pc := 185) dX11_fields_185 rfl rfl ?_
    refine e_get (pc := 186) fl_X11_41 dX11_fields_186 (by repeat (first | assumption | exact hset_eq _ _ _ | (apply Lay.hd; assumption) | rw [hset_ne _ _ (by omega)])) (by rfl) ?_
    refine e_iload (pc := 189) dX11_fields_189 rfl ?_
    refine e_ialdN (pc := 191) (k + 1) dX11_fields_191 (by repeat (first | assumption | exact hset_eq _ _ _ | (apply Lay.hd; assumption) | rw [hset_ne _ _ (by omega)])) (by rfl) (by omega) (by first | decide | omega) ?_
    rw [z]
    refine n_imul (pc := 192) dX11_fields_192 ?_
    refine n_iadd (pc := 193) dX11_fields_193 ?_
    refine e_aload_n (pc := 194) dX11_fields_194 rfl rfl ?_
    refine e_get (pc := 195) fl_X11_106 dX11_fields_195 (by repeat (first | assumption | exact hset_eq _ _ _ | (apply Lay.hd; assumption) | rw [hset_ne _ _ (by omega)])) (by rfl) ?_
    refine n_irem (pc := 198) dX11_fields_198 (by omega) (by omega) (by omega) ?_
    refine e_iastN (pc := 199) (k + 1) dX11_fields_199 (by repeat (first | assumption | exact hset_eq _ _ _ | (apply Lay.hd; assumption) | rw [hset_ne _ _ (by omega)])) (by rfl) (by omega) (by first | decide | omega) ?_
    refine e_heap (hset_hset H (m + 4) _ _) ?_
    refine n_dec (pc := 200) dX11_fields_200 rfl (by decide) ?_
    refine e_goto (pc := 203) (tgt := 170) dX11_fields_203 (by decide) ?_
    refine ih (by omega) _ (fun j hj => ?_)
    by_cases e : j = k + 1
    · subst e
      rw [pk_us, if_pos (by omega), stp1 (k + 1) hj, if_neg (by omega)]
      rfl
    · rw [pk_un e, hg j hj]
      by_cases c : k + 1 < j
      · rw [if_pos c, if_pos (by omega)]
      · rw [if_neg c, if_neg (by omega)]
theorem l_fi_c {gf : Nat → Int32} {W : Wd} (hM : MH H m p n q s) (hF : H (m + 8) = some (aI 125 gf)) (hg : ∀ t, t < 125 → gf t = nI (W.2.2 t)) :
    ∀ (t k : Nat), t = 125 - k → k ≤ 125 → ∀ g, (∀ t, t < k → g t = nI (W.2.2 t)) → VV MX11_fields sz (fun h' => ∃ g, h' = hset H (m + 3) (aI 125 g) ∧ ∀ t, t < 125 → g t = nI (W.2.2 t)) (hset H (m + 3) (aI 125 g)) 230 [some (.ref m), some (.ref (m + 4)), some (.int (nI k)), none, none] [] := by
  intro t
  induction t with
  | zero =>
    intro k e1 e2 g h1
    have e' : k = 125 := by omega
    subst e'
    refine e_iload_n (pc := 230) dX11_fields_230 rfl rfl ?_
    refine n_bipush (pc := 231) 125 dX11_fields_231 (by decide) ?_
    refine n_icmp_ge (pc := 233) (tgt := 254) dX11_fields_233 (by decide) (by omega) (by omega) (fun hb_ => ?_) (fun c => absurd c (by omega))
    exact n_vret (pc := 254) dX11_fields_254 rfl ⟨g, rfl, h1⟩
  | succ t ih =>
    intro k e1 e2 g h1
    have hM1 : MH (hset H (m + 3) (aI 125 g)) m p n q s := (hset_ne _ _ (by omega)).trans hM
    have z := hg k (by omega)
    refine e_iload_n (pc := 230) dX11_fields_230 rfl rfl ?_
    refine n_bipush (pc := 231) 125 dX11_fields_231 (by decide) ?_
    refine n_icmp_ge (pc := 233) (tgt := 254) dX11_fields_233 (by decide) (by omega) (by omega) (fun c => absurd c (by omega)) (fun hb_ => ?_)
    refine e_aload_n (pc := 236) dX11_fields_236 rfl rfl ?_
    refine e_get (pc := 237) fl_X11_16 dX11_fields_237 (by repeat (first | assumption | exact hset_eq _ _ _ | (apply Lay.hd; assumption) | rw [hset_ne _ _ (by omega)])) (by rfl) ?_
    refine e_iload_n (pc := 240) dX11_fields_240 rfl rfl ?_
    refine e_aload_n (pc := 241) dX11_fields_241 rfl rfl ?_
    refine e_get (pc := 242) fl_X11_31 dX11_fields_242 (by repeat (first | assumption | exact hset_eq _ _ _ | (apply Lay.hd; assumption) | rw [hset_ne _ _ (by omega)])) (by rfl) ?_
    refine e_iload_n (pc := 245) dX11_fields_245 rfl rfl ?_
    refine e_ialdN (pc := 246) k dX11_fields_246 (by repeat (first | assumption | exact hset_eq _ _ _ | (apply Lay.hd; assumption) | rw [hset_ne _ _ (by omega)])) (by rfl) (by omega) (by first | decide | omega) ?_
    rw [z]
    refine e_iastN (pc := 247) k dX11_fields_247 (by repeat (first | assumption | exact hset_eq _ _ _ | (apply Lay.hd; assumption) | rw [hset_ne _ _ (by omega)])) (by rfl) (by omega) (by first | decide | omega) ?_
    refine n_inc (pc := 248) dX11_fields_248 rfl (by decide) ?_
    refine e_goto (pc := 251) (tgt := 230) dX11_fields_251 (by decide) ?_
    refine e_heap (hset_hset H (m + 3) _ _) ?_
    refine ih (k + 1) (by omega) (by omega) _ (fun t ht => ?_)
    by_cases c : t = k
    · subst c; rw [pk_us]
    · rw [pk_un c]; exact h1 t (by omega)
theorem l_fi_d {hh : AH} (hM : MH hh m p n q s) (hp : 2 ≤ p ∧ p ≤ 5) (hn : 1 ≤ n ∧ n ≤ 5) (h3 : ∃ g, hh (m + 3) = some (aI 125 g)) (hT : ∃ g, hh (m + 10) = some (aI 7 g) ∧ ∀ t, t < n → g t = nI (cs t)) (hcs : ∀ t, t < n → cs t < p) :
    ∀ (t d : Nat), t = 2 * n - 1 - d → d ≤ 2 * n - 1 → ∀ h, FrF m hh h → (∃ g, h (m + 4) = some (aI 5 g) ∧ ∀ k, k < n → 0 < d → g k = nI (dg p (pwr p n cs d) k)) → FiA h m p n cs d 0 0 → VV MX11_fields sz (fun h' => CuA h' (m + 8) (polyW p n cs) ∧ CuA h' (m + 3) (polyW p n cs) ∧ (∃ g, h' (m + 4) = some (aI 5 g)) ∧ ∀ b, b ≠ m + 8 → b ≠ m + 4 → b ≠ m + 3 → h' b = hh b) h 28 [some (.ref m), some (.ref (m + 4)), some (.int (nI d)), none, none] [] := by
  intro t
  induction t with
  | zero =>
    intro d e1 e2 h hf hD hA
    have e' : d = 2 * n - 1 := by omega
    have hM1 : MH h m p n q s := (hf _ (by omega) (by omega)).trans hM
    obtain ⟨g3, r3⟩ := h3
    have r3' : h (m + 3) = some (aI 125 g3) := (hf _ (by omega) (by omega)).trans r3
    refine e_iload_n (pc := 28) dX11_fields_28 rfl rfl ?_
    refine n_iconst (pc := 29) 2 dX11_fields_29 (by decide) ?_
    refine e_aload_n (pc := 30) dX11_fields_30 rfl rfl ?_
    refine e_get (pc := 31) fl_X11_109 dX11_fields_31 (by repeat (first | assumption | exact hset_eq _ _ _ | (apply Lay.hd; assumption) | rw [hset_ne _ _ (by omega)])) (by rfl) ?_
    refine n_imul (pc := 34) dX11_fields_34 ?_
    refine n_iconst (pc := 35) 1 dX11_fields_35 (by decide) ?_
    refine n_isub (pc := 36) dX11_fields_36 (by omega) ?_
    refine n_icmp_ge (pc := 37) (tgt := 228) dX11_fields_37 (by decide) (by omega) (by omega) (fun hb_ => ?_) (fun c => absurd c (by omega))
    refine n_iconst (pc := 228) 0 dX11_fields_228 (by decide) ?_
    refine e_istore_n (pc := 229) dX11_fields_229 rfl (by decide) ?_
    obtain ⟨g, g1, g2⟩ := hA
    have g3' : ∀ t, t < 125 → g t = nI ((polyW p n cs).2.2 t) := fun t ht => by
      rw [g2 t ht]
      refine congrArg nI ?_
      show _ = if inC n t then dg p (pwr p n cs (t / 25 + t / 5 % 5)) (t % 5) else 0
      unfold fiC
      by_cases c : inC n t
      · rw [if_pos ⟨c, by have := c.2.1; have := c.2.2.1; omega⟩, if_pos c]
      · rw [if_neg (fun z => c z.1), if_neg c]
    refine e_heap (hset_self r3').symm ?_
    refine V.post ?_ (l_fi_c (W := polyW p n cs) hM1 g1 g3' 125 0 rfl (Nat.zero_le _) g3 (fun t ht => absurd ht (Nat.not_lt_zero t)))
    intro rr h' z qq
    obtain ⟨k1, k2, gc, rfl, k3⟩ := qq
    obtain ⟨g4, r4, -⟩ := hD
    exact ⟨k1, k2, ⟨g, (hset_ne _ _ (by omega)).trans g1, g3'⟩, ⟨gc, hset_eq _ _ _, k3⟩, ⟨g4, (hset_ne _ _ (by omega)).trans r4⟩, fun b b1 b2 b3 => (hset_ne _ _ b3).trans (hf b b1 b2)⟩
  | succ t ih =>
    intro d e1 e2 h hf hD hA
    have hM1 : MH h m p n q s := (hf _ (by omega) (by omega)).trans hM
    obtain ⟨g4, r4, d4⟩ := hD
    refine e_iload_n (pc := 28) dX11_fields_28 rfl rfl ?_
    refine n_iconst (pc := 29) 2 dX11_fields_29 (by decide) ?_
    refine e_aload_n (pc := 30) dX11_fields_30 rfl rfl ?_
    refine e_get (pc := 31) fl_X11_109 dX11_fields_31 (by repeat (first | assumption | exact hset_eq _ _ _ | (apply Lay.hd; assumption) | rw [hset_ne _ _ (by omega)])) (by rfl) ?_
    refine n_imul (pc := 34) dX11_fields_34 ?_
    refine n_iconst (pc := 35) 1 dX11_fields_35 (by decide) ?_
    refine n_isub (pc := 36) dX11_fields_36 (by omega) ?_
    refine n_icmp_ge (pc := 37) (tgt := 228) dX11_fields_37 (by decide) (by omega) (by omega) (fun c => absurd c (by omega)) (fun hb_ => ?_)
    refine n_iconst (pc := 40) 0 dX11_fields_40 (by decide) ?_
    refine e_istore_n (pc := 41) dX11_fields_41 rfl (by decide) ?_
    refine e_heap (hset_self r4).symm ?_
    refine l_fi_1 (cs := cs) hM1 hp.1 hn.2 (by omega) (fun g5 hg5 => ?_) n 0 rfl (Nat.zero_le _) g4 (fun j hj hx => d4 j hj (by omega))
    have hf5 : FrF m hh (hset h (m + 4) (aI 5 g5)) := hf.set4
    have hA5 : FiA (hset h (m + 4) (aI 5 g5)) m p n cs d 0 0 := by
      obtain ⟨g, g1, g2⟩ := hA
      exact ⟨g, (hset_ne _ _ (by omega)).trans g1, g2⟩
    have hD5 : FiD (hset h (m + 4) (aI 5 g5)) m p n cs d := ⟨g5, hset_eq _ _ _, hg5⟩
    refine n_iconst (pc := 78) 0 dX11_fields_78 (by decide) ?_
    refine e_istore_n (pc := 79) dX11_fields_79 rfl (by decide) ?_
    refine l_fi_i hM hn (by omega) (fun h6 f6 d6 a6 => ?_) n 0 rfl (Nat.zero_le _) _ hf5 hD5 hA5
    have hM6 : MH h6 m p n q s := (f6 _ (by omega) (by omega)).trans hM
    obtain ⟨g6, r6, q6⟩ := d6
    have z6 := q6 (n - 1) (by omega)
    refine e_aload_n (pc := 153) dX11_fields_153 rfl rfl ?_
    refine e_aload_n (pc := 154) dX11_fields_154 rfl rfl ?_
    refine e_get (pc := 155) fl_X11_109 dX11_fields_155 (by repeat (first | assumption | exact hset_eq _ _ _ | (apply Lay.hd; assumption) | rw [hset_ne _ _ (by omega)])) (by rfl) ?_
    refine n_iconst (pc := 158) 1 dX11_fields_158 (by decide) ?_
    refine n_isub (pc := 159) dX11_fields_159 (by omega) ?_
    refine e_ialdN (pc := 160) (n - 1) dX11_fields_160 (by repeat (first | assumption | exact hset_eq _ _ _ | (apply Lay.hd; assumption) | rw [hset_ne _ _ (by omega)])) (by rfl) (by omega) (by first | decide | omega) ?_
    rw [z6]
    refine e_istore_n (pc := 161) dX11_fields_161 rfl (by decide) ?_
    refine e_aload_n (pc := 162) dX11_fields_162 rfl rfl ?_
    refine e_get (pc := 163) fl_X11_109 dX11_fields_163 (by repeat (first | assumption | exact hset_eq _ _ _ | (apply Lay.hd; assumption) | rw [hset_ne _ _ (by omega)])) (by rfl) ?_
    refine n_iconst (pc := 166) 1 dX11_fields_166 (by decide) ?_
    refine n_isub (pc := 167) dX11_fields_167 (by omega) ?_
    refine e_istore (pc := 168) dX11_fields_168 (by decide) ?_
    refine e_heap (hset_self r6).symm ?_
    have hT6 : ∃ g, h6 (m + 10) = some (aI 7 g) ∧ ∀ t, t < n → g t = nI (cs t) := by
      obtain ⟨gt, t1, t2⟩ := hT
      exact ⟨gt, (f6 _ (by omega) (by omega)).trans t1, t2⟩
    refine l_fi_n (cs := cs) (d := d) hM6 hp hn (by omega) hT6 hcs rfl (fun g7 hg7 => ?_) (n - 1) (by omega) g6 (fun j hj => by rw [q6 j hj, if_neg (by omega)])
    refine n_inc (pc := 222) dX11_fields_222 rfl (by decide) ?_
    refine e_goto (pc := 225) (tgt := 28) dX11_fields_225 (by decide) ?_
    refine ih (d + 1) (by omega) (by omega) _ f6.set4 ⟨g7, hset_eq _ _ _, fun k hk _ => hg7 k hk⟩ ?_
    obtain ⟨g, g1, g2⟩ := a6
    exact ⟨g, (hset_ne _ _ (by omega)).trans g1, g2⟩
theorem c_X11_fields {h : AH} (hM : MH h m p n q s) (hR : MRo h m) (hp : 2 ≤ p ∧ p ≤ 5) (hn : 1 ≤ n ∧ n ≤ 5) (hT : ∃ g, h (m + 10) = some (aI 7 g) ∧ ∀ t, t < n → g t = nI (cs t)) (hcs : ∀ t, t < n → cs t < p) : CV yX11_fields MX11_fields [.ref m] h (fun h' => CuA h' (m + 8) (polyW p n cs) ∧ CuA h' (m + 3) (polyW p n cs) ∧ (∃ g, h' (m + 4) = some (aI 5 g)) ∧ ∀ b, b ≠ m + 8 → b ≠ m + 4 → b ≠ m + 3 → h' b = h b) := by
  obtain ⟨g8, r8⟩ := hR.row (k := 8) (isR_d _ (by decide))
  obtain ⟨g4, r4⟩ := hR.row (k := 4) (isR_d _ (by decide))
  obtain ⟨g3, r3⟩ := hR.row (k := 3) (isR_d _ (by decide))
  have hM0 : h m = some (ob 10 (mfs m p n q s)) := hM
  refine CV.ofV (by decide) rfl rfl (by simp [Value.category]) (by exact Nat.le_of_ble_eq_true rfl) (fun sz => ?_)
  refine n_iconst (pc := 0) 0 dX11_fields_0 (by decide) ?_
  refine e_istore_n (pc := 1) dX11_fields_1 rfl (by decide) ?_
  refine e_heap (hset_self r8).symm ?_
  refine l_fi_z hM (fun g hg => ?_) 125 0 rfl (Nat.zero_le _) g8 (fun t ht => absurd ht (Nat.not_lt_zero t))
  refine e_aload_n (pc := 21) dX11_fields_21 rfl rfl ?_
  refine e_get (pc := 22) fl_X11_19 dX11_fields_22 (by repeat (first | assumption | exact hset_eq _ _ _ | (apply Lay.hd; assumption) | rw [hset_ne _ _ (by omega)])) (by rfl) ?_
  refine e_astore_n (pc := 25) dX11_fields_25 rfl (by decide) ?_
  refine n_iconst (pc := 26) 0 dX11_fields_26 (by decide) ?_
  refine e_istore_n (pc := 27) dX11_fields_27 rfl (by decide) ?_
  exact l_fi_d (hh := h) hM hp hn ⟨g3, r3⟩ hT hcs (2 * n - 1) 0 rfl (Nat.zero_le _) _ (FrF.rf m h).set8 ⟨g4, (hset_ne _ _ (by omega)).trans r4, fun k hk q => absurd q (Nat.lt_irrefl 0)⟩ ⟨g, hset_eq _ _ _, fun t ht => by rw [hg t ht]; unfold fiC; rw [if_neg (fun z => by have := z.2; omega)]⟩
end FI
