/-! ===== the reference: the rank of the matrix laid out ===== -/
def Pi5 (π : Nat → Nat) : Prop := (∀ i, i < 5 → π i < 5) ∧ ∀ i j, i < 5 → j < 5 → π i = π j → i = j
/-- the matrix in force from row r on -/
def MxP (h : AH) (m n : Nat) (π : Nat → Nat) (A : Nat → Nat → Nat) (r : Nat) : Prop := (∃ f, h (m + 11) = some (aG 5 f) ∧ ∀ i, i < 5 → f i = some (m + 12 + π i)) ∧ (∀ k, k < 5 → ∃ g, h (m + 12 + k) = some (aI 5 g)) ∧ ∀ i, r ≤ i → i < n → ∃ g, h (m + 12 + π i) = some (aI 5 g) ∧ ∀ j, j < n → g j = nI (A i j)
theorem MRo.mx {hh h : AH} {m n r : Nat} {π : Nat → Nat} {A : Nat → Nat → Nat} (q : MRo hh m) (e : Er (m + 11) (m + 17) hh h) (x : MxP h m n π A r) (hπ : Pi5 π) : MRo h m := by
  obtain ⟨q1, ⟨g2, q2⟩, ⟨g3, q3⟩, q4, -⟩ := q
  obtain ⟨⟨f, x1, x2⟩, x3, -⟩ := x
  refine ⟨fun k hk => ?_, ⟨g2, (e _ (by omega)).trans q2⟩, ⟨g3, (e _ (by omega)).trans q3⟩, (e _ (by omega)).trans q4, π, hπ.1, hπ.2, f, x1, x2⟩
  by_cases c : 12 ≤ k ∧ k < 17
  · obtain ⟨g, hg⟩ := x3 (k - 12) (by omega)
    refine ⟨g, ?_⟩
    have e1 : szM k = 5 := by
      unfold szM
      rw [if_neg (by omega), if_neg (by omega), if_neg (by omega), if_neg (by omega), if_neg (by omega), if_neg (by omega)]
    rw [e1, show m + k = m + 12 + (k - 12) by omega]
    exact hg
  · obtain ⟨g, hg⟩ := q1 k hk
    exact ⟨g, (e _ (by have := hk.2.2.1; omega)).trans hg⟩
theorem MxP.put {h : AH} {m n r i : Nat} {π : Nat → Nat} {A B : Nat → Nat → Nat} {g : Nat → Int32} (hπ : Pi5 π) (x : MxP h m n π A r) (hi : i < 5) (hn : n ≤ 5) (h1 : ∀ t j, r ≤ t → t < n → t ≠ i → j < n → B t j = A t j) (h2 : ∀ j, j < n → g j = nI (B i j)) : MxP (hset h (m + 12 + π i) (aI 5 g)) m n π B r := by
  obtain ⟨⟨f, x1, x2⟩, x3, x4⟩ := x
  have pi := hπ.1 i hi
  refine ⟨⟨f, (hset_ne _ _ (by omega)).trans x1, x2⟩, fun k hk => ?_, fun t t1 t2 => ?_⟩
  · by_cases e : k = π i
    · subst e; exact ⟨g, hset_eq _ _ _⟩
    · obtain ⟨g3, hg3⟩ := x3 k hk
      exact ⟨g3, (hset_ne _ _ (by omega)).trans hg3⟩
  · by_cases e : t = i
    · subst e; exact ⟨g, hset_eq _ _ _, h2⟩
    · obtain ⟨g3, hg3, hg4⟩ := x4 t t1 t2
      have ne : π t ≠ π i := fun z => e (hπ.2 t i (by omega) hi z)
      exact ⟨g3, (hset_ne _ _ (by omega)).trans hg3, fun j hj => by rw [hg4 j hj, h1 t j t1 t2 e hj]⟩
theorem sw_sw (a b i : Nat) : sw a b (sw a b i) = i := by
  unfold sw
  by_cases i1 : i = a
  · subst i1
    rw [if_pos rfl]
    by_cases e : b = i
    · rw [if_pos e, e]
    · rw [if_neg e, if_pos rfl]
  · rw [if_neg i1]
    by_cases i2 : i = b
    · rw [if_pos i2, if_pos rfl, i2]
    · rw [if_neg i2, if_neg i1, if_neg i2]
theorem swp_lt {a b i n : Nat} (ha : a < n) (hb : b < n) (hi : i < n) : sw a b i < n := by unfold sw; split <;> (try split) <;> omega
theorem Pi5.swp {π : Nat → Nat} (q : Pi5 π) {a b : Nat} (ha : a < 5) (hb : b < 5) : Pi5 (fun i => π (sw a b i)) := by
  refine ⟨fun i hi => q.1 _ (swp_lt ha hb hi), fun i j hi hj e => ?_⟩
  have := q.2 _ _ (swp_lt ha hb hi) (swp_lt ha hb hj) e
  rw [← sw_sw a b i, this, sw_sw]
section RK
variable {h : AH} {m p n q r c : Nat} {s : Ms} {π : Nat → Nat} {A : Nat → Nat → Nat} {sz : Nat} {Pr : Int32 → AH → Prop}
theorem l_rk_f (hM : MH h m p n q s) (hn : n ≤ 5) (hx : MxP h m n π A r) (hc : c < n) (hA : ∀ i j, r ≤ i → i < n → j < n → A i j < p) (hp : p ≤ 5)
    (k0 : (∀ i, r ≤ i → i < n → A i c = 0) → VI MX11_rank sz Pr h 238 [some (.ref m), some (.int (nI r)), some (.int (nI c)), none, none, none, none, none, none] [])
    (k1 : ∀ at0, r ≤ at0 → at0 < n → 0 < A at0 c → VI MX11_rank sz Pr h 58 [some (.ref m), some (.int (nI r)), some (.int (nI c)), some (.int (nI at0)), none, none, none, none, none] []) :
    ∀ (t a : Nat), t = n - a → r ≤ a → a ≤ n → (∀ i, r ≤ i → i < a → A i c = 0) → VI MX11_rank sz Pr h 22 [some (.ref m), some (.int (nI r)), some (.int (nI c)), some (.int (nI a)), none, none, none, none, none] [] := by
  obtain ⟨⟨f, x1, x2⟩, x3, x4⟩ := id hx
  intro t
  induction t with
  | zero =>
    intro a e1 e2 e3 h0
    have e' : a = n := by omega
    subst e'
    refine e_iload_n (pc := 22) dX11_rank_22 rfl rfl ?_
    refine e_aload_n (pc := 23) dX11_rank_23 rfl rfl ?_
    refine e_get (pc := 24) fl_X11_109 dX11_rank_24 (by repeat (first | assumption | exact hset_eq _ _ _ | (apply Lay.hd; assumption) | rw [hset_ne _ _ (by omega)])) (by rfl) ?_
    refine n_icmp_ge (pc := 27) (tgt := 47) dX11_rank_27 (by decide) (by omega) (by omega) (fun hb_ => ?_) (fun c => absurd c (by omega))
    refine e_iload_n (pc := 47) dX11_rank_47 rfl rfl ?_
    refine e_aload_n (pc := 48) dX11_rank_48 rfl rfl ?_
    refine e_get (pc := 49) fl_X11_109 dX11_rank_49 (by repeat (first | assumption | exact hset_eq _ _ _ | (apply Lay.hd; assumption) | rw [hset_ne _ _ (by omega)])) (by rfl) ?_
    refine n_icmp_ne (pc := 52) (tgt := 58) dX11_rank_52 (by decide) (by omega) (by omega) (fun c => absurd c (by omega)) (fun hb_ => ?_)
    refine e_goto (pc := 55) (tgt := 238) dX11_rank_55 (by decide) ?_
    refine V.mask [true, true, true, false, false, false, false, false, false] ?_
    exact k0 h0
  | succ t ih =>
    intro a e1 e2 e3 h0
    obtain ⟨g, g1, g2⟩ := x4 a e2 (by omega)
    have ga := g2 c hc
    have lt := hA a c e2 (by omega) hc
    refine e_iload_n (pc := 22) dX11_rank_22 rfl rfl ?_
    refine e_aload_n (pc := 23) dX11_rank_23 rfl rfl ?_
    refine e_get (pc := 24) fl_X11_109 dX11_rank_24 (by repeat (first | assumption | exact hset_eq _ _ _ | (apply Lay.hd; assumption) | rw [hset_ne _ _ (by omega)])) (by rfl) ?_
    refine n_icmp_ge (pc := 27) (tgt := 47) dX11_rank_27 (by decide) (by omega) (by omega) (fun c => absurd c (by omega)) (fun hb_ => ?_)
    refine e_aload_n (pc := 30) dX11_rank_30 rfl rfl ?_
    refine e_get (pc := 31) fl_X11_46 dX11_rank_31 (by repeat (first | assumption | exact hset_eq _ _ _ | (apply Lay.hd; assumption) | rw [hset_ne _ _ (by omega)])) (by rfl) ?_
    refine e_iload_n (pc := 34) dX11_rank_34 rfl rfl ?_
    refine e_aldGS (pc := 35) a dX11_rank_35 (by repeat (first | assumption | exact hset_eq _ _ _ | (apply Lay.hd; assumption) | rw [hset_ne _ _ (by omega)])) (by rfl) (by omega) (by first | decide | omega) (x2 a (by omega)) ?_
    refine e_iload_n (pc := 36) dX11_rank_36 rfl rfl ?_
    refine e_ialdN (pc := 37) c dX11_rank_37 (by repeat (first | assumption | exact hset_eq _ _ _ | (apply Lay.hd; assumption) | rw [hset_ne _ _ (by omega)])) (by rfl) (by omega) (by first | decide | omega) ?_
    rw [ga]
    refine n_if_ne (pc := 38) (tgt := 47) dX11_rank_38 (by decide) (by omega) (fun z => ?_) (fun z => ?_)
    · refine e_iload_n (pc := 47) dX11_rank_47 rfl rfl ?_
      refine e_aload_n (pc := 48) dX11_rank_48 rfl rfl ?_
      refine e_get (pc := 49) fl_X11_109 dX11_rank_49 (by repeat (first | assumption | exact hset_eq _ _ _ | (apply Lay.hd; assumption) | rw [hset_ne _ _ (by omega)])) (by rfl) ?_
      refine n_icmp_ne (pc := 52) (tgt := 58) dX11_rank_52 (by decide) (by omega) (by omega) (fun hb_ => ?_) (fun c => absurd c (by omega))
      exact k1 a e2 (by omega) (by omega)
    · refine n_inc (pc := 41) dX11_rank_41 rfl (by decide) ?_
      refine e_goto (pc := 44) (tgt := 22) dX11_rank_44 (by decide) ?_
      refine ih (a + 1) (by omega) (by omega) (by omega) (fun i i1 i2 => ?_)
      by_cases e : i = a
      · rw [e]; omega
      · exact h0 i i1 (by omega)
theorem l_rk_b {ρ v b at0 : Nat} {g : Nat → Int32} (hM : MH h m p n q s) (hp : 2 ≤ p ∧ p ≤ 5) (hc : c < 5) (hg : h ρ = some (aI 5 g)) (hv : g c = nI v) (hv2 : v < p) (hb : b < p) (h1 : v * b % p = 1) (h2 : ∀ a, 0 < a → a < b → a * v % p ≠ 1)
    (kk : VI MX11_rank sz Pr h 111 [some (.ref m), some (.int (nI r)), some (.int (nI c)), some (.int (nI at0)), some (.ref ρ), some (.int (nI b)), none, none, none] []) :
    ∀ (t a : Nat), t = b - a → 0 < a → a ≤ b → VI MX11_rank sz Pr h 89 [some (.ref m), some (.int (nI r)), some (.int (nI c)), some (.int (nI at0)), some (.ref ρ), some (.int (nI a)), none, none, none] [] := by
  intro t
  induction t with
  | zero =>
    intro a e1 e2 e3
    have e' : a = b := by omega
    subst e'
    have l1 : a * v ≤ 5 * 5 := Nat.mul_le_mul (by omega) (by omega)
    refine e_iload (pc := 89) dX11_rank_89 rfl ?_
    refine e_aload (pc := 91) dX11_rank_91 rfl ?_
    refine e_iload_n (pc := 93) dX11_rank_93 rfl rfl ?_
    refine e_ialdN (pc := 94) c dX11_rank_94 (by repeat (first | assumption | exact hset_eq _ _ _ | (apply Lay.hd; assumption) | rw [hset_ne _ _ (by omega)])) (by rfl) (by omega) (by first | decide | omega) ?_
    rw [hv]
    refine n_imul (pc := 95) dX11_rank_95 ?_
    refine e_aload_n (pc := 96) dX11_rank_96 rfl rfl ?_
    refine e_get (pc := 97) fl_X11_106 dX11_rank_97 (by repeat (first | assumption | exact hset_eq _ _ _ | (apply Lay.hd; assumption) | rw [hset_ne _ _ (by omega)])) (by rfl) ?_
    refine n_irem (pc := 100) dX11_rank_100 (by omega) (by omega) (by omega) ?_
    refine n_iconst (pc := 101) 1 dX11_rank_101 (by decide) ?_
    rw [show a * v % p = 1 by rw [Nat.mul_comm]; exact h1]
    refine n_icmp_eq (pc := 102) (tgt := 111) dX11_rank_102 (by decide) (by omega) (by omega) (fun hb_ => ?_) (fun c => absurd c (by omega))
    exact kk
  | succ t ih =>
    intro a e1 e2 e3
    have l1 : a * v ≤ 5 * 5 := Nat.mul_le_mul (by omega) (by omega)
    have l2 := Nat.mod_lt (a * v) (show p > 0 by omega)
    have l3 := h2 a e2 (by omega)
    refine e_iload (pc := 89) dX11_rank_89 rfl ?_
    refine e_aload (pc := 91) dX11_rank_91 rfl ?_
    refine e_iload_n (pc := 93) dX11_rank_93 rfl rfl ?_
    refine e_ialdN (pc := 94) c dX11_rank_94 (by repeat (first | assumption | exact hset_eq _ _ _ | (apply Lay.hd; assumption) | rw [hset_ne _ _ (by omega)])) (by rfl) (by omega) (by first | decide | omega) ?_
    rw [hv]
    refine n_imul (pc := 95) dX11_rank_95 ?_
    refine e_aload_n (pc := 96) dX11_rank_96 rfl rfl ?_
    refine e_get (pc := 97) fl_X11_106 dX11_rank_97 (by repeat (first | assumption | exact hset_eq _ _ _ | (apply Lay.hd; assumption) | rw [hset_ne _ _ (by omega)])) (by rfl) ?_
    refine n_irem (pc := 100) dX11_rank_100 (by omega) (by omega) (by omega) ?_
    refine n_iconst (pc := 101) 1 dX11_rank_101 (by decide) ?_
    refine n_icmp_eq (pc := 102) (tgt := 111) dX11_rank_102 (by decide) (by omega) (by omega) (fun c => absurd c (by omega)) (fun hb_ => ?_)
    refine n_inc (pc := 105) dX11_rank_105 rfl (by decide) ?_
    refine e_goto (pc := 108) (tgt := 89) dX11_rank_108 (by decide) ?_
    exact ih (a + 1) (by omega) (by omega) (by omega)
theorem l_rk_s {ρ b : Nat} {l3 : Option Value} (hM : MH h m p n q s) (hp : 2 ≤ p ∧ p ≤ 5) (hn : n ≤ 5) (hb : b < p) {R : Nat → Nat} (hR : ∀ j, j < n → R j < p) (hρ : m + 12 ≤ ρ)
    (kk : ∀ g, (∀ j, j < n → g j = nI (R j * b % p)) → VI MX11_rank sz Pr (hset h ρ (aI 5 g)) 147 [some (.ref m), some (.int (nI r)), some (.int (nI c)), l3, some (.ref ρ), none, none, none, none] []) :
    ∀ (t k : Nat), t = n - k → k ≤ n → ∀ g, (∀ j, j < n → g j = nI (if j < k then R j * b % p else R j)) → VI MX11_rank sz Pr (hset h ρ (aI 5 g)) 114 [some (.ref m), some (.int (nI r)), some (.int (nI c)), l3, some (.ref ρ), some (.int (nI b)), some (.int (nI k)), none, none] [] := by
  intro t
  induction t with
  | zero =>
    intro k e1 e2 g hg
    have e' : k = n := by omega
    subst e'
    have hM1 : MH (hset h ρ (aI 5 g)) m p k q s := (hset_ne _ _ (by omega)).trans hM
    refine e_iload (pc := 114) dX11_rank_114 rfl ?_
    refine e_aload_n (pc := 116) dX11_rank_116 rfl rfl ?_
    refine e_get (pc := 117) fl_X11_109 dX11_rank_117 (by repeat (first | assumption | exact hset_eq _ _ _ | (apply Lay.hd; assumption) | rw [hset_ne _ _ (by omega)])) (by rfl) ?_
    refine n_icmp_ge (pc := 120) (tgt := 147) dX11_rank_120 (by decide) (by omega) (by omega) (fun hb_ => ?_) (fun c => absurd c (by omega))
    refine V.mask [true, true, true, true, true, false, false, false, false] ?_
    exact kk g (fun j hj => by rw [hg j hj, if_pos hj])
  | succ t ih =>
    intro k e1 e2 g hg
    have hM1 : MH (hset h ρ (aI 5 g)) m p n q s := (hset_ne _ _ (by omega)).trans hM
    have g1 := hg k (by omega)
    rw [if_neg (Nat.lt_irrefl k)] at g1
    have r1 := hR k (by omega)
    have l1 : R k * b ≤ 5 * 5 := Nat.mul_le_mul (by omega) (by omega)
    refine e_iload (pc := 114) dX11_rank_114 rfl ?_
    refine e_aload_n (pc := 116) dX11_rank_116 rfl rfl ?_
    refine e_get (pc := 117) fl_X11_109 dX11_rank_117 (by repeat (first | assumption | exact hset_eq _ _ _ | (apply Lay.hd; assumption) | rw [hset_ne _ _ (by omega)])) (by rfl) ?_
    refine n_icmp_ge (pc := 120) (tgt := 147) dX11_rank_120 (by decide) (by omega) (by omega) (fun c => absurd c (by omega)) (fun hb_ => ?_)
    refine e_aload (pc := 123) dX11_rank_123 rfl ?_
    refine e_iload (pc := 125) dX11_rank_125 rfl ?_
    refine e_aload (pc := 127) dX11_rank_127 rfl ?_
    refine e_iload (pc := 129) dX11_rank_129 rfl ?_
    refine e_ialdN (pc := 131) k dX11_rank_131 (by repeat (first | assumption | exact hset_eq _ _ _ | (apply Lay.hd; assumption) | rw [hset_ne _ _ (by omega)])) (by rfl) (by omega) (by first | decide | omega) ?_
    rw [g1]
    refine e_iload (pc := 132) dX11_rank_132 rfl ?_
    refine n_imul (pc := 134) dX11_rank_134 ?_
    refine e_aload_n (pc := 135) dX11_rank_135 rfl rfl ?_
    refine e_get (pc := 136) fl_X11_106 dX11_rank_136 (by repeat (first | assumption | exact hset_eq _ _ _ | (apply Lay.hd; assumption) | rw [hset_ne _ _ (by omega)])) (by rfl) ?_
    refine n_irem (pc := 139) dX11_rank_139 (by omega) (by omega) (by omega) ?_
    refine e_iastN (pc := 140) k dX11_rank_140 (by repeat (first | assumption | exact hset_eq _ _ _ | (apply Lay.hd; assumption) | rw [hset_ne _ _ (by omega)])) (by rfl) (by omega) (by first | decide | omega) ?_
    refine e_heap (hset_hset h ρ _ _) ?_
    refine n_inc (pc := 141) dX11_rank_141 rfl (by decide) ?_
    refine e_goto (pc := 144) (tgt := 114) dX11_rank_144 (by decide) ?_
    refine ih (k + 1) (by omega) (by omega) _ (fun j hj => ?_)
    by_cases e : j = k
    · subst e; rw [pk_us, if_pos (by omega)]
    · rw [pk_un e, hg j hj]
      by_cases e2 : j < k
      · rw [if_pos e2, if_pos (by omega)]
      · rw [if_neg e2, if_neg (by omega)]
theorem l_rk_k {ρ σ i tm : Nat} {l3 : Option Value} {f : Nat → Option Nat} {gr : Nat → Int32} (hM : MH h m p n q s) (hp : 2 ≤ p ∧ p ≤ 5) (hn : n ≤ 5) (hi : i < 5) (hf : h (m + 11) = some (aG 5 f)) (hfi : f i = some σ) (ht : tm < p) {R B : Nat → Nat} (hR : ∀ j, j < n → R j < p) (hB : ∀ j, j < n → B j < p) (hρ : h ρ = some (aI 5 gr)) (hgr : ∀ j, j < n → gr j = nI (R j)) (hσ : m + 12 ≤ σ) (ne : ρ ≠ σ)
    (kk : ∀ g, (∀ j, j < n → g j = nI ((B j + (p - tm) * R j) % p)) → VI MX11_rank sz Pr (hset h σ (aI 5 g)) 229 [some (.ref m), some (.int (nI r)), some (.int (nI c)), l3, some (.ref ρ), none, some (.int (nI i)), none, none] []) :
    ∀ (t k : Nat), t = n - k → k ≤ n → ∀ g, (∀ j, j < n → g j = nI (if j < k then (B j + (p - tm) * R j) % p else B j)) → VI MX11_rank sz Pr (hset h σ (aI 5 g)) 175 [some (.ref m), some (.int (nI r)), some (.int (nI c)), l3, some (.ref ρ), none, some (.int (nI i)), some (.int (nI tm)), some (.int (nI k))] [] := by
  intro t
  induction t with
  | zero =>
    intro k e1 e2 g hg
    have e' : k = n := by omega
    subst e'
    have hM1 : MH (hset h σ (aI 5 g)) m p k q s := (hset_ne _ _ (by omega)).trans hM
    refine e_iload (pc := 175) dX11_rank_175 rfl ?_
    refine e_aload_n (pc := 177) dX11_rank_177 rfl rfl ?_
    refine e_get (pc := 178) fl_X11_109 dX11_rank_178 (by repeat (first | assumption | exact hset_eq _ _ _ | (apply Lay.hd; assumption) | rw [hset_ne _ _ (by omega)])) (by rfl) ?_
    refine n_icmp_ge (pc := 181) (tgt := 229) dX11_rank_181 (by decide) (by omega) (by omega) (fun hb_ => ?_) (fun c => absurd c (by omega))
    refine V.mask [true, true, true, true, true, false, true, false, false] ?_
    exact kk g (fun j hj => by rw [hg j hj, if_pos hj])
  | succ t ih =>
    intro k e1 e2 g hg
    have hM1 : MH (hset h σ (aI 5 g)) m p n q s := (hset_ne _ _ (by omega)).trans hM
    have g1 := hg k (by omega)
    rw [if_neg (Nat.lt_irrefl k)] at g1
    have r1 := hR k (by omega)
    have r2 := hgr k (by omega)
    have r3 := hB k (by omega)
    have l1 : (p - tm) * R k ≤ 5 * 5 := Nat.mul_le_mul (by omega) (by omega)
    refine e_iload (pc := 175) dX11_rank_175 rfl ?_
    refine e_aload_n (pc := 177) dX11_rank_177 rfl rfl ?_
    refine e_get (pc := 178) fl_X11_109 dX11_rank_178 (by repeat (first | assumption | exact hset_eq _ _ _ | (apply Lay.hd; assumption) | rw [hset_ne _ _ (by omega)])) (by rfl) ?_
    refine n_icmp_ge (pc := 181) (tgt := 229) dX11_rank_181 (by decide) (by omega) (by omega) (fun c => absurd c (by omega)) (fun hb_ => ?_)
    refine e_aload_n (pc := 184) dX11_rank_184 rfl rfl ?_
    refine e_get (pc := 185) fl_X11_46 dX11_rank_185 (by repeat (first | assumption | exact hset_eq _ _ _ | (apply Lay.hd; assumption) | rw [hset_ne _ _ (by omega)])) (by rfl) ?_
    refine e_iload (pc := 188) dX11_rank_188 rfl ?_
    refine e_aldGS (pc := 190) i dX11_rank_190 (by repeat (first | assumption | exact hset_eq _ _ _ | (apply Lay.hd; assumption) | rw [hset_ne _ _ (by omega)])) (by rfl) (by omega) (by first | decide | omega) hfi ?_
    refine e_iload (pc := 191) dX11_rank_191 rfl ?_
    refine e_aload_n (pc := 193) dX11_rank_193 rfl rfl ?_
    refine e_get (pc := 194) fl_X11_46 dX11_rank_194 (by repeat (first | assumption | exact hset_eq _ _ _ | (apply Lay.hd; assumption) | rw [hset_ne _ _ (by omega)])) (by rfl) ?_
    refine e_iload (pc := 197) dX11_rank_197 rfl ?_
    refine e_aldGS (pc := 199) i dX11_rank_199 (by repeat (first | assumption | exact hset_eq _ _ _ | (apply Lay.hd; assumption) | rw [hset_ne _ _ (by omega)])) (by rfl) (by omega) (by first | decide | omega) hfi ?_
    refine e_iload (pc := 200) dX11_rank_200 rfl ?_
    refine e_ialdN (pc := 202) k dX11_rank_202 (by repeat (first | assumption | exact hset_eq _ _ _ | (apply Lay.hd; assumption) | rw [hset_ne _ _ (by omega)])) (by rfl) (by omega) (by first | decide | omega) ?_
    rw [g1]
    refine e_aload_n (pc := 203) dX11_rank_203 rfl rfl ?_
    refine e_get (pc := 204) fl_X11_106 dX11_rank_204 (by repeat (first | assumption | exact hset_eq _ _ _ | (apply Lay.hd; assumption) | rw [hset_ne _ _ (by omega)])) (by rfl) ?_
    refine e_iload (pc := 207) dX11_rank_207 rfl ?_
    refine n_isub (pc := 209) dX11_rank_209 (by omega) ?_
    refine e_aload (pc := 210) dX11_rank_210 rfl ?_
    refine e_iload (pc := 212) dX11_rank_212 rfl ?_
    refine e_ialdN (pc := 214) k dX11_rank_214 (by repeat (first | assumption | exact hset_eq _ _ _ | (apply Lay.hd; assumption) | rw [hset_ne _ _ (by omega)])) (by rfl) (by omega) (by first | decide | omega) ?_
    rw [r2]
    refine n_imul (pc := 215) dX11_rank_215 ?_
    refine n_iadd (pc := 216) dX11_rank_216 ?_
    refine e_aload_n (pc := 217) dX11_rank_217 rfl rfl ?_
    refine e_get (pc := 218) fl_X11_106 dX11_rank_218 (by repeat (first | assumption | exact hset_eq _ _ _ | (apply Lay.hd; assumption) | rw [hset_ne _ _ (by omega)])) (by rfl) ?_
    refine n_irem (pc := 221) dX11_rank_221 (by omega) (by omega) (by omega) ?_
    refine e_iastN (pc := 222) k dX11_rank_222 (by repeat (first | assumption | exact hset_eq _ _ _ | (apply Lay.hd; assumption) | rw [hset_ne _ _ (by omega)])) (by rfl) (by omega) (by first | decide | omega) ?_
    refine e_heap (hset_hset h σ _ _) ?_
    refine n_inc (pc := 223) dX11_rank_223 rfl (by decide) ?_
    refine e_goto (pc := 226) (tgt := 175) dX11_rank_226 (by decide) ?_
    refine ih (k + 1) (by omega) (by omega) _ (fun j hj => ?_)
    by_cases e : j = k
    · subst e; rw [pk_us, if_pos (by omega)]
    · rw [pk_un e, hg j hj]
      by_cases e2 : j < k
      · rw [if_pos e2, if_pos (by omega)]
      · rw [if_neg e2, if_neg (by omega)]
end RK
section RK2
variable {hh : AH} {m p n q r c : Nat} {s : Ms} {sz : Nat} {Pr : Int32 → AH → Prop}
theorem l_rk_i {ρ : Nat} {l3 : Option Value} {π : Nat → Nat} {A T : Nat → Nat → Nat} {R : Nat → Nat} (hM : MH hh m p n q s) (hp : 2 ≤ p ∧ p ≤ 5) (hn : n ≤ 5) (hπ : Pi5 π) (hr : r < n) (hc : c < n) (hρ : ρ = m + 12 + π r) (hA : ∀ i j, r ≤ i → i < n → j < n → A i j < p) (hR : ∀ j, j < n → R j < p) (hT : ∀ i j, r < i → i < n → j < n → T i j = (A i j + (p - A i c) * R j) % p)
    (kk : ∀ h, Er (m + 11) (m + 17) hh h → MxP h m n π T (r + 1) → VI MX11_rank sz Pr h 235 [some (.ref m), some (.int (nI r)), some (.int (nI c)), none, none, none, none, none, none] []) :
    ∀ (t i : Nat), t = n - i → r + 1 ≤ i → i ≤ n → ∀ h, Er (m + 11) (m + 17) hh h → MxP h m n π (fun t => if t = r then R else if t < i then T t else A t) r → VI MX11_rank sz Pr h 152 [some (.ref m), some (.int (nI r)), some (.int (nI c)), l3, some (.ref ρ), none, some (.int (nI i)), none, none] [] := by
  intro t
  induction t with
  | zero =>
    intro i e1 e2 e3 h er hx
    have e' : i = n := by omega
    subst e'
    have hM1 : MH h m p i q s := (er _ (by omega)).trans hM
    refine e_iload (pc := 152) dX11_rank_152 rfl ?_
    refine e_aload_n (pc := 154) dX11_rank_154 rfl rfl ?_
    refine e_get (pc := 155) fl_X11_109 dX11_rank_155 (by repeat (first | assumption | exact hset_eq _ _ _ | (apply Lay.hd; assumption) | rw [hset_ne _ _ (by omega)])) (by rfl) ?_
    refine n_icmp_ge (pc := 158) (tgt := 235) dX11_rank_158 (by decide) (by omega) (by omega) (fun hb_ => ?_) (fun c => absurd c (by omega))
    refine V.mask [true, true, true, false, false, false, false, false, false] ?_
    refine kk h er ⟨hx.1, hx.2.1, fun t t1 t2 => ?_⟩
    obtain ⟨g, g1, g2⟩ := hx.2.2 t (by omega) t2
    refine ⟨g, g1, fun j hj => ?_⟩
    rw [g2 j hj]
    show nI ((if t = r then R else if t < i then T t else A t) j) = nI (T t j)
    rw [if_neg (by omega), if_pos t2]
  | succ t ih =>
    intro i e1 e2 e3 h er hx
    have hM1 : MH h m p n q s := (er _ (by omega)).trans hM
    obtain ⟨⟨f, f1, f2⟩, x3, x4⟩ := id hx
    obtain ⟨gi, i1, i2⟩ := x4 i (by omega) (by omega)
    obtain ⟨gr, r1, r2⟩ := x4 r (Nat.le_refl _) hr
    have ei : ∀ j, j < n → gi j = nI (A i j) := fun j hj => by
      rw [i2 j hj]
      show nI ((if i = r then R else if i < i then T i else A i) j) = nI (A i j)
      rw [if_neg (by omega), if_neg (Nat.lt_irrefl i)]
    have er2 : ∀ j, j < n → gr j = nI (R j) := fun j hj => by
      rw [r2 j hj]
      show nI ((if r = r then R else if r < i then T r else A r) j) = nI (R j)
      rw [if_pos rfl]
    have z := ei c hc
    have ne : π r ≠ π i := fun z => by have := hπ.2 r i (by omega) (by omega) z; omega
    have pi := hπ.1 i (by omega)
    have lt := hA i c (by omega) (by omega) hc
    rw [← hρ] at r1
    refine e_iload (pc := 152) dX11_rank_152 rfl ?_
    refine e_aload_n (pc := 154) dX11_rank_154 rfl rfl ?_
    refine e_get (pc := 155) fl_X11_109 dX11_rank_155 (by repeat (first | assumption | exact hset_eq _ _ _ | (apply Lay.hd; assumption) | rw [hset_ne _ _ (by omega)])) (by rfl) ?_
    refine n_icmp_ge (pc := 158) (tgt := 235) dX11_rank_158 (by decide) (by omega) (by omega) (fun c => absurd c (by omega)) (fun hb_ => ?_)
    refine e_aload_n (pc := 161) dX11_rank_161 rfl rfl ?_
    refine e_get (pc := 162) fl_X11_46 dX11_rank_162 (by repeat (first | assumption | exact hset_eq _ _ _ | (apply Lay.hd; assumption) | rw [hset_ne _ _ (by omega)])) (by rfl) ?_
    refine e_iload (pc := 165) dX11_rank_165 rfl ?_
    refine e_aldGS (pc := 167) i dX11_rank_167 (by repeat (first | assumption | exact hset_eq _ _ _ | (apply Lay.hd; assumption) | rw [hset_ne _ _ (by omega)])) (by rfl) (by omega) (by first | decide | omega) (f2 i (by omega)) ?_
    refine e_iload_n (pc := 168) dX11_rank_168 rfl rfl ?_
    refine e_ialdN (pc := 169) c dX11_rank_169 (by repeat (first | assumption | exact hset_eq _ _ _ | (apply Lay.hd; assumption) | rw [hset_ne _ _ (by omega)])) (by rfl) (by omega) (by first | decide | omega) ?_
    rw [z]
    refine e_istore (pc := 170) dX11_rank_170 (by decide) ?_
    refine n_iconst (pc := 172) 0 dX11_rank_172 (by decide) ?_
    refine e_istore (pc := 173) dX11_rank_173 (by decide) ?_
    refine e_heap (hset_self i1).symm ?_
    refine l_rk_k hM1 hp hn (show i < 5 by omega) f1 (f2 i (by omega)) lt hR (fun j hj => hA i j (by omega) (by omega) hj) r1 er2 (by omega) (by omega) (fun g hg => ?_) n 0 rfl (Nat.zero_le _) gi (fun j hj => by rw [if_neg (Nat.not_lt_zero j)]; exact ei j hj)
    refine n_inc (pc := 229) dX11_rank_229 rfl (by decide) ?_
    refine e_goto (pc := 232) (tgt := 152) dX11_rank_232 (by decide) ?_
    refine ih (i + 1) (by omega) (by omega) (by omega) _ (er.set (by omega)) (hx.put hπ (by omega) hn (fun t j t1 t2 t3 t4 => ?_) (fun j hj => ?_))
    · show (if t = r then R else if t < i + 1 then T t else A t) j = (if t = r then R else if t < i then T t else A t) j
      by_cases e : t = r
      · rw [if_pos e, if_pos e]
      · rw [if_neg e, if_neg e]
        by_cases e5 : t < i
        · rw [if_pos e5, if_pos (by omega)]
        · rw [if_neg e5, if_neg (by omega)]
    · rw [hg j hj]
      show _ = nI ((if i = r then R else if i < i + 1 then T i else A i) j)
      rw [if_neg (by omega), if_pos (by omega), hT i j (by omega) (by omega) hj]
theorem l_rank {S : (Nat → Nat) → Prop} (hM : MH hh m p n q s) (hR : MRo hh m) (hp : Pm p) (hn : n ≤ 5) :
    ∀ (t c : Nat), t = n - c → c ≤ n → ∀ h π A r led rows, Er (m + 11) (m + 17) hh h → Pi5 π → MxP h m n π A r → RI p n S A r c led rows → VI MX11_rank sz (fun z h' => ∃ r, z = nI r ∧ r ≤ n ∧ isRank p n S r ∧ MRo h' m ∧ Er (m + 11) (m + 17) hh h') h 4 [some (.ref m), some (.int (nI r)), some (.int (nI c)), none, none, none, none, none, none] [] := by
  have p2 : 2 ≤ p ∧ p ≤ 5 := by rcases hp with rfl | rfl | rfl <;> decide
  intro t
  induction t with
  | zero =>
    intro c e1 e2 h π A r led rows er hπ hx hI
    have e' : c = n := by omega
    subst e'
    have hM1 : MH h m p c q s := (er _ (by omega)).trans hM
    have rn := hI.2.2.2.1
    refine e_iload_n (pc := 4) dX11_rank_4 rfl rfl ?_
    refine e_aload_n (pc := 5) dX11_rank_5 rfl rfl ?_
    refine e_get (pc := 6) fl_X11_109 dX11_rank_6 (by repeat (first | assumption | exact hset_eq _ _ _ | (apply Lay.hd; assumption) | rw [hset_ne _ _ (by omega)])) (by rfl) ?_
    refine n_icmp_ge (pc := 9) (tgt := 244) dX11_rank_9 (by decide) (by omega) (by omega) (fun hb_ => ?_) (fun c => absurd c (by omega))
    refine e_iload_n (pc := 244) dX11_rank_244 rfl rfl ?_
    exact n_iret (pc := 245) dX11_rank_245 rfl ⟨r, rfl, rn, hI.end (Or.inr rfl), hR.mx er hx hπ, er⟩
  | succ t ih =>
    intro c e1 e2 h π A r led rows er hπ hx hI
    have hM1 : MH h m p n q s := (er _ (by omega)).trans hM
    have rn := hI.2.2.2.1
    have hA := hI.2.2.2.2.2.1
    refine e_iload_n (pc := 4) dX11_rank_4 rfl rfl ?_
    refine e_aload_n (pc := 5) dX11_rank_5 rfl rfl ?_
    refine e_get (pc := 6) fl_X11_109 dX11_rank_6 (by repeat (first | assumption | exact hset_eq _ _ _ | (apply Lay.hd; assumption) | rw [hset_ne _ _ (by omega)])) (by rfl) ?_
    refine n_icmp_ge (pc := 9) (tgt := 244) dX11_rank_9 (by decide) (by omega) (by omega) (fun c => absurd c (by omega)) (fun hb_ => ?_)
    refine e_iload_n (pc := 12) dX11_rank_12 rfl rfl ?_
    refine e_aload_n (pc := 13) dX11_rank_13 rfl rfl ?_
    refine e_get (pc := 14) fl_X11_109 dX11_rank_14 (by repeat (first | assumption | exact hset_eq _ _ _ | (apply Lay.hd; assumption) | rw [hset_ne _ _ (by omega)])) (by rfl) ?_
    refine n_icmp_ge (pc := 17) (tgt := 244) dX11_rank_17 (by decide) (by omega) (by omega) (fun d => ?_) (fun d => ?_)
    · refine e_iload_n (pc := 244) dX11_rank_244 rfl rfl ?_
      exact n_iret (pc := 245) dX11_rank_245 rfl ⟨r, rfl, rn, hI.end (Or.inl (by omega)), hR.mx er hx hπ, er⟩
    refine e_iload_n (pc := 20) dX11_rank_20 rfl rfl ?_
    refine e_istore_n (pc := 21) dX11_rank_21 rfl (by decide) ?_
    refine l_rk_f hM1 hn hx (show c < n by omega) hA p2.2 (fun h0 => ?_) (fun at0 a1 a2 a3 => ?_) (n - r) r rfl (Nat.le_refl _) rn (fun i i1 i2 => absurd i2 (by omega))
    · refine n_inc (pc := 238) dX11_rank_238 rfl (by decide) ?_
      refine e_goto (pc := 241) (tgt := 4) dX11_rank_241 (by decide) ?_
      exact ih (c + 1) (by omega) (by omega) h π A r led rows er hπ hx (hI.skip h0)
    obtain ⟨⟨f, f1, f2⟩, x3, x4⟩ := id hx
    obtain ⟨g0, t1, t2⟩ := x4 at0 a1 a2
    obtain ⟨gr, r1, r2⟩ := x4 r (Nat.le_refl _) (by omega)
    have v0 := hA at0 c a1 a2 (by omega)
    obtain ⟨b, b1, b2, b3, b4⟩ := by_ex hp a3 v0
    refine e_aload_n (pc := 58) dX11_rank_58 rfl rfl ?_
    refine e_get (pc := 59) fl_X11_46 dX11_rank_59 (by repeat (first | assumption | exact hset_eq _ _ _ | (apply Lay.hd; assumption) | rw [hset_ne _ _ (by omega)])) (by rfl) ?_
    refine e_iload_n (pc := 62) dX11_rank_62 rfl rfl ?_
    refine e_aldGS (pc := 63) at0 dX11_rank_63 (by repeat (first | assumption | exact hset_eq _ _ _ | (apply Lay.hd; assumption) | rw [hset_ne _ _ (by omega)])) (by rfl) (by omega) (by first | decide | omega) (f2 at0 (by omega)) ?_
    refine e_astore (pc := 64) dX11_rank_64 (by decide) ?_
    refine e_aload_n (pc := 66) dX11_rank_66 rfl rfl ?_
    refine e_get (pc := 67) fl_X11_46 dX11_rank_67 (by repeat (first | assumption | exact hset_eq _ _ _ | (apply Lay.hd; assumption) | rw [hset_ne _ _ (by omega)])) (by rfl) ?_
    refine e_iload_n (pc := 70) dX11_rank_70 rfl rfl ?_
    refine e_aload_n (pc := 71) dX11_rank_71 rfl rfl ?_
    refine e_get (pc := 72) fl_X11_46 dX11_rank_72 (by repeat (first | assumption | exact hset_eq _ _ _ | (apply Lay.hd; assumption) | rw [hset_ne _ _ (by omega)])) (by rfl) ?_
    refine e_iload_n (pc := 75) dX11_rank_75 rfl rfl ?_
    refine e_aldGS (pc := 76) r dX11_rank_76 (by repeat (first | assumption | exact hset_eq _ _ _ | (apply Lay.hd; assumption) | rw [hset_ne _ _ (by omega)])) (by rfl) (by omega) (by first | decide | omega) (f2 r (by omega)) ?_
    refine e_aastG (pc := 77) at0 dX11_rank_77 (by repeat (first | assumption | exact hset_eq _ _ _ | (apply Lay.hd; assumption) | rw [hset_ne _ _ (by omega)])) (by repeat (first | assumption | exact hset_eq _ _ _ | (apply Lay.hd; assumption) | rw [hset_ne _ _ (by omega)])) (by rfl) (by omega) (by first | decide | omega) ?_
    refine e_aload_n (pc := 78) dX11_rank_78 rfl rfl ?_
    refine e_get (pc := 79) fl_X11_46 dX11_rank_79 (by repeat (first | assumption | exact hset_eq _ _ _ | (apply Lay.hd; assumption) | rw [hset_ne _ _ (by omega)])) (by rfl) ?_
    refine e_iload_n (pc := 82) dX11_rank_82 rfl rfl ?_
    refine e_aload (pc := 83) dX11_rank_83 rfl ?_
    refine e_aastG (pc := 85) r dX11_rank_85 (by repeat (first | assumption | exact hset_eq _ _ _ | (apply Lay.hd; assumption) | rw [hset_ne _ _ (by omega)])) (by repeat (first | assumption | exact hset_eq _ _ _ | (apply Lay.hd; assumption) | rw [hset_ne _ _ (by omega)])) (by rfl) (by omega) (by first | decide | omega) ?_
    refine e_heap (hset_hset h (m + 11) _ _) ?_
    have hπ2 : Pi5 (fun i => π (sw r at0 i)) := hπ.swp (by omega) (by omega)
    have es : sw r at0 r = at0 := by unfold sw; rw [if_pos rfl]
    have hx2 : MxP (hset h (m + 11) (aG 5 (va_up (va_up f at0 (some (m + 12 + π r))) r (some (m + 12 + π at0))))) m n (fun i => π (sw r at0 i)) (fun i => A (sw r at0 i)) r := by
      refine ⟨⟨_, hset_eq _ _ _, fun i hi => ?_⟩, fun k hk => ?_, fun i i1 i2 => ?_⟩
      · show (if i = r then some (m + 12 + π at0) else if i = at0 then some (m + 12 + π r) else f i) = some (m + 12 + π (sw r at0 i))
        unfold sw
        by_cases i1 : i = r
        · rw [if_pos i1, if_pos i1]
        · rw [if_neg i1, if_neg i1]
          by_cases i2 : i = at0
          · rw [if_pos i2, if_pos i2]
          · rw [if_neg i2, if_neg i2]; exact f2 i hi
      · obtain ⟨g, hg⟩ := x3 k hk
        exact ⟨g, (hset_ne _ _ (by omega)).trans hg⟩
      · have sb : r ≤ sw r at0 i ∧ sw r at0 i < n := by unfold sw; split <;> (try split) <;> omega
        obtain ⟨g, hg, hg2⟩ := x4 _ sb.1 sb.2
        exact ⟨g, (hset_ne _ _ (by omega)).trans hg, hg2⟩
    have erA : Er (m + 11) (m + 17) hh (hset h (m + 11) (aG 5 (va_up (va_up f at0 (some (m + 12 + π r))) r (some (m + 12 + π at0))))) := er.set (by omega)
    generalize hset h (m + 11) (aG 5 (va_up (va_up f at0 (some (m + 12 + π r))) r (some (m + 12 + π at0)))) = h2 at hx2 erA ⊢
    have hM2 : MH h2 m p n q s := (erA _ (by omega)).trans hM
    obtain ⟨g2, y1, y2⟩ := hx2.2.2 r (Nat.le_refl _) (by omega)
    have y1' : h2 (m + 12 + π at0) = some (aI 5 g2) := by rw [← es]; exact y1
    have y2' : ∀ j, j < n → g2 j = nI (A at0 j) := fun j hj => by
      rw [y2 j hj]
      show nI (A (sw r at0 r) j) = nI (A at0 j)
      rw [es]
    refine n_iconst (pc := 86) 1 dX11_rank_86 (by decide) ?_
    refine e_istore (pc := 87) dX11_rank_87 (by decide) ?_
    refine l_rk_b (r := r) (c := c) hM2 p2 (by omega) y1' (y2' c (by omega)) v0 b2 b3 b4 ?_ (b - 1) 1 rfl (by omega) (by omega)
    refine n_iconst (pc := 111) 0 dX11_rank_111 (by decide) ?_
    refine e_istore (pc := 112) dX11_rank_112 (by decide) ?_
    refine e_heap (hset_self y1').symm ?_
    have lp := hπ.1 at0 (by omega)
    refine l_rk_s (r := r) (c := c) hM2 p2 hn b2 (R := A at0) (fun j hj => hA at0 j a1 a2 hj) (by omega) (fun g3 hg3 => ?_) n 0 rfl (Nat.zero_le _) g2 (fun j hj => by rw [if_neg (Nat.not_lt_zero j)]; exact y2' j hj)
    have er3 : Er (m + 11) (m + 17) hh (hset h2 (m + 12 + π at0) (aI 5 g3)) := erA.set (by omega)
    have hx3 : MxP (hset h2 (m + 12 + π (sw r at0 r)) (aI 5 g3)) m n (fun i => π (sw r at0 i)) (fun t => if t = r then rowS p A at0 b else if t < r + 1 then rowT p A r at0 b c t else A (sw r at0 t)) r := hx2.put hπ2 (i := r) (by omega) hn (fun t j t1 t2 t3 t4 => by
      show (if t = r then rowS p A at0 b else if t < r + 1 then rowT p A r at0 b c t else A (sw r at0 t)) j = A (sw r at0 t) j
      rw [if_neg t3, if_neg (by omega)]) (fun j hj => by
      show _ = nI ((if r = r then rowS p A at0 b else if r < r + 1 then rowT p A r at0 b c r else A (sw r at0 r)) j)
      rw [if_pos rfl]; exact hg3 j hj)
    rw [es] at hx3
    refine e_iload_n (pc := 147) dX11_rank_147 rfl rfl ?_
    refine n_iconst (pc := 148) 1 dX11_rank_148 (by decide) ?_
    refine n_iadd (pc := 149) dX11_rank_149 ?_
    refine e_istore (pc := 150) dX11_rank_150 (by decide) ?_
    refine l_rk_i (A := fun i => A (sw r at0 i)) (T := rowT p A r at0 b c) (R := rowS p A at0 b) hM p2 hn hπ2 (show r < n by omega) (show c < n by omega) (show m + 12 + π at0 = m + 12 + π (sw r at0 r) by rw [es]) (fun i j i1 i2 i3 => ?_) (fun j _ => Nat.mod_lt _ (by omega)) (fun i j i1 i2 i3 => rfl) (fun h4 er4 hx4 => ?_) (n - (r + 1)) (r + 1) rfl (Nat.le_refl _) (by omega) _ er3 hx3
    · have sb : r ≤ sw r at0 i ∧ sw r at0 i < n := by unfold sw; split <;> (try split) <;> omega
      exact hA _ j sb.1 sb.2 i3
    · refine n_inc (pc := 235) dX11_rank_235 rfl (by decide) ?_
      refine n_inc (pc := 238) dX11_rank_238 rfl (by decide) ?_
      refine e_goto (pc := 241) (tgt := 4) dX11_rank_241 (by decide) ?_
      exact ih (c + 1) (by omega) (by omega) h4 _ _ (r + 1) _ _ er4 hπ2 hx4 (hI.pivot hp (by omega) a1 a2 b1 b2 b3)
/-- a matrix is laid out -/
def MxA (h : AH) (m n : Nat) (A : Nat → Nat → Nat) : Prop := ∃ π, Pi5 π ∧ MxP h m n π A 0
theorem c_X11_rank {A : Nat → Nat → Nat} (hM : MH hh m p n q s) (hR : MRo hh m) (hp : Pm p) (hn : n ≤ 5) (hx : MxA hh m n A) (hA : ∀ i j, i < n → j < n → A i j < p) : CI yX11_rank MX11_rank [.ref m] hh (fun z h' => ∃ r, z = nI r ∧ r ≤ n ∧ isRank p n (SolM p n n A) r ∧ MRo h' m ∧ Er (m + 11) (m + 17) hh h') := by
  obtain ⟨π, hπ, hx⟩ := hx
  refine CI.ofV (by decide) rfl rfl (by simp [Value.category]) (by exact Nat.le_of_ble_eq_true rfl) (fun sz => ?_)
  refine n_iconst (pc := 0) 0 dX11_rank_0 (by decide) ?_
  refine e_istore_n (pc := 1) dX11_rank_1 rfl (by decide) ?_
  refine n_iconst (pc := 2) 0 dX11_rank_2 (by decide) ?_
  refine e_istore_n (pc := 3) dX11_rank_3 rfl (by decide) ?_
  exact l_rank hM hR hp hn n 0 rfl (Nat.zero_le _) hh π A 0 _ _ (Er.rf _ _ _) hπ hx (RI.start hA)
end RK2
