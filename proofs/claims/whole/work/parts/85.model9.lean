/-! ===== the reference: an element's matrix, its rank, the first couple that fails ===== -/
/-- the matrix's rows, whatever they hold -/
def MxI (h : AH) (m : Nat) (π : Nat → Nat) (G : Nat → Nat → Int32) : Prop := (∃ f, h (m + 11) = some (aG 5 f) ∧ ∀ i, i < 5 → f i = some (m + 12 + π i)) ∧ ∀ i, i < 5 → h (m + 12 + π i) = some (aI 5 (G i))
theorem MRo.mxi {h : AH} {m : Nat} (r : MRo h m) : ∃ π G, Pi5 π ∧ MxI h m π G := by
  have r1 := r.1
  obtain ⟨-, -, -, -, π, p1, p2, f, q1, q2⟩ := r
  have k : ∀ i, i < 5 → ∃ g, h (m + 12 + π i) = some (aI 5 g) := fun i hi => by
    have pi := p1 i hi
    obtain ⟨g, hg⟩ := r1 (12 + π i) ⟨by omega, by omega, by omega, by omega, by omega, by omega⟩
    refine ⟨g, ?_⟩
    have e1 : szM (12 + π i) = 5 := by
      unfold szM
      rw [if_neg (by omega), if_neg (by omega), if_neg (by omega), if_neg (by omega), if_neg (by omega), if_neg (by omega)]
    rw [e1, ← Nat.add_assoc] at hg
    exact hg
  refine ⟨π, fun i => if hi : i < 5 then Classical.choose (k i hi) else fun _ => 0, ⟨p1, p2⟩, ⟨f, q1, q2⟩, fun i hi => ?_⟩
  have := Classical.choose_spec (k i hi)
  rw [this]
  simp only [dif_pos hi]
theorem MxI.put {h : AH} {m i : Nat} {π : Nat → Nat} {G : Nat → Nat → Int32} {g : Nat → Int32} (hπ : Pi5 π) (x : MxI h m π G) (hi : i < 5) : MxI (hset h (m + 12 + π i) (aI 5 g)) m π (fun t => if t = i then g else G t) := by
  obtain ⟨⟨f, x1, x2⟩, x3⟩ := x
  have pi := hπ.1 i hi
  refine ⟨⟨f, (hset_ne _ _ (by omega)).trans x1, x2⟩, fun t ht => ?_⟩
  by_cases e : t = i
  · subst e
    show _ = some (aI 5 (if t = t then g else G t))
    rw [if_pos rfl]; exact hset_eq _ _ _
  · have ne : π t ≠ π i := fun z => e (hπ.2 t i ht hi z)
    show _ = some (aI 5 (if t = i then g else G t))
    rw [if_neg e]
    exact (hset_ne _ _ (by omega)).trans (x3 t ht)
theorem MxI.keep {h h2 : AH} {m : Nat} {π : Nat → Nat} {G : Nat → Nat → Int32} (hπ : Pi5 π) (x : MxI h m π G) (e : ∀ a, m + 11 ≤ a → a < m + 17 → h2 a = h a) : MxI h2 m π G := by
  obtain ⟨⟨f, x1, x2⟩, x3⟩ := x
  exact ⟨⟨f, (e _ (by omega) (by omega)).trans x1, x2⟩, fun i hi => (e _ (by omega) (by have := hπ.1 i hi; omega)).trans (x3 i hi)⟩
theorem MxI.mxa {h : AH} {m n : Nat} {π : Nat → Nat} {G : Nat → Nat → Int32} {A : Nat → Nat → Nat} (hπ : Pi5 π) (x : MxI h m π G) (hn : n ≤ 5) (e : ∀ i j, i < n → j < n → G i j = nI (A i j)) : MxP h m n π A 0 := by
  obtain ⟨⟨f, x1, x2⟩, x3⟩ := x
  refine ⟨⟨f, x1, x2⟩, fun k hk => ?_, fun i _ hi => ⟨G i, x3 i (by omega), fun j hj => e i j hi hj⟩⟩
  -- the permutation is onto
  obtain ⟨i, hi, ei⟩ := onto_of (N := 5) hπ.1 hπ.2 k hk
  exact ⟨G i, by rw [← ei]; exact x3 i hi⟩
section LM
variable {h : AH} {m : Nat} {s : Ms} {W : Wd} {sz x side : Nat} {Pr : AH → Prop}
def lmI (side k i j : Nat) : Nat := if side = 0 then 25 * k + 5 * i + j else if side = 1 then 25 * i + 5 * k + j else 25 * i + 5 * j + k
theorem lmI_ent {k i j : Nat} (hs : side < 3) : ent1 W side k i j = W.2.2 (lmI side k i j) := by
  have e : side = 0 ∨ side = 1 ∨ side = 2 := by omega
  rcases e with rfl | rfl | rfl <;> rfl
theorem l_lm_c {i j k : Nat} {l1 l5 : Option Value} {st : List Value} (hs : side < 3)
    (kk : VV MX11_laysMatrix sz Pr h 110 [some (.ref m), l1, some (.int (nI side)), some (.int (nI i)), some (.int (nI j)), l5, some (.int (nI k))] (.int (nI (lmI side k i j)) :: st)) : VV MX11_laysMatrix sz Pr h 59 [some (.ref m), l1, some (.int (nI side)), some (.int (nI i)), some (.int (nI j)), l5, some (.int (nI k))] st := by
  unfold lmI at kk
  refine e_iload_n (pc := 59) dX11_laysMatrix_59 rfl rfl ?_
  refine n_if_ne (pc := 60) (tgt := 78) dX11_laysMatrix_60 (by decide) (by omega) (fun c => ?_) (fun c => ?_)
  · rw [if_neg (by omega)] at kk
    refine e_iload_n (pc := 78) dX11_laysMatrix_78 rfl rfl ?_
    refine n_iconst (pc := 79) 1 dX11_laysMatrix_79 (by decide) ?_
    refine n_icmp_ne (pc := 80) (tgt := 98) dX11_laysMatrix_80 (by decide) (by omega) (by omega) (fun c2 => ?_) (fun c2 => ?_)
    · rw [if_neg (by omega)] at kk
      refine n_bipush (pc := 98) 25 dX11_laysMatrix_98 (by decide) ?_
      refine e_iload_n (pc := 100) dX11_laysMatrix_100 rfl rfl ?_
      refine n_imul (pc := 101) dX11_laysMatrix_101 ?_
      refine n_iconst (pc := 102) 5 dX11_laysMatrix_102 (by decide) ?_
      refine e_iload (pc := 103) dX11_laysMatrix_103 rfl ?_
      refine n_imul (pc := 105) dX11_laysMatrix_105 ?_
      refine n_iadd (pc := 106) dX11_laysMatrix_106 ?_
      refine e_iload (pc := 107) dX11_laysMatrix_107 rfl ?_
      refine n_iadd (pc := 109) dX11_laysMatrix_109 ?_
      exact kk
    · rw [if_pos (by omega)] at kk
      refine n_bipush (pc := 83) 25 dX11_laysMatrix_83 (by decide) ?_
      refine e_iload_n (pc := 85) dX11_laysMatrix_85 rfl rfl ?_
      refine n_imul (pc := 86) dX11_laysMatrix_86 ?_
      refine n_iconst (pc := 87) 5 dX11_laysMatrix_87 (by decide) ?_
      refine e_iload (pc := 88) dX11_laysMatrix_88 rfl ?_
      refine n_imul (pc := 90) dX11_laysMatrix_90 ?_
      refine n_iadd (pc := 91) dX11_laysMatrix_91 ?_
      refine e_iload (pc := 92) dX11_laysMatrix_92 rfl ?_
      refine n_iadd (pc := 94) dX11_laysMatrix_94 ?_
      refine e_goto (pc := 95) (tgt := 110) dX11_laysMatrix_95 (by decide) ?_
      exact kk
  · rw [if_pos (by omega)] at kk
    refine n_bipush (pc := 63) 25 dX11_laysMatrix_63 (by decide) ?_
    refine e_iload (pc := 65) dX11_laysMatrix_65 rfl ?_
    refine n_imul (pc := 67) dX11_laysMatrix_67 ?_
    refine n_iconst (pc := 68) 5 dX11_laysMatrix_68 (by decide) ?_
    refine e_iload_n (pc := 69) dX11_laysMatrix_69 rfl rfl ?_
    refine n_imul (pc := 70) dX11_laysMatrix_70 ?_
    refine n_iadd (pc := 71) dX11_laysMatrix_71 ?_
    refine e_iload (pc := 72) dX11_laysMatrix_72 rfl ?_
    refine n_iadd (pc := 74) dX11_laysMatrix_74 ?_
    refine e_goto (pc := 75) (tgt := 110) dX11_laysMatrix_75 (by decide) ?_
    exact kk
theorem l_lm_k {i j : Nat} (hM : MH h m W.1 W.2.1 (W.1 ^ W.2.1) s) (hk : Wok W) (hc : CuA h (m + 3) W) (hd : ∃ g, h (m + 4) = some (aI 5 g) ∧ ∀ j, j < 5 → g j = nI (dgn W.1 W.2.1 x j)) (hs : side < 3) (hi : i < W.2.1) (hj : j < W.2.1)
    (kk : VV MX11_laysMatrix sz Pr h 121 [some (.ref m), some (.int (nI x)), some (.int (nI side)), some (.int (nI i)), some (.int (nI j)), some (.int (nI (ent W side x i j))), none] []) :
    ∀ (t k : Nat), t = W.2.1 - k → k ≤ W.2.1 → VV MX11_laysMatrix sz Pr h 37 [some (.ref m), some (.int (nI x)), some (.int (nI side)), some (.int (nI i)), some (.int (nI j)), some (.int (nI (sg k (fun a => dg W.1 x a * ent1 W side a i j)))), some (.int (nI k))] [] := by
  obtain ⟨b1, b2, b3, b4, b5⟩ := hk.b
  obtain ⟨gc, c1, c2⟩ := hc
  obtain ⟨gd, d1, d2⟩ := hd
  intro t
  induction t with
  | zero =>
    intro k e1 e2
    have e' : k = W.2.1 := by omega
    subst e'
    refine e_iload (pc := 37) dX11_laysMatrix_37 rfl ?_
    refine e_aload_n (pc := 39) dX11_laysMatrix_39 rfl rfl ?_
    refine e_get (pc := 40) fl_X11_109 dX11_laysMatrix_40 (by repeat (first | assumption | exact hset_eq _ _ _ | (apply Lay.hd; assumption) | rw [hset_ne _ _ (by omega)])) (by rfl) ?_
    refine n_icmp_ge (pc := 43) (tgt := 121) dX11_laysMatrix_43 (by decide) (by omega) (by omega) (fun hb_ => ?_) (fun c => absurd c (by omega))
    refine V.mask [true, true, true, true, true, true, false] ?_
    exact kk
  | succ t ih =>
    intro k e1 e2
    have z := d2 k (by omega)
    rw [show dgn W.1 W.2.1 x k = dg W.1 x k from if_pos (by omega)] at z
    have il : lmI side k i j < 125 := by unfold lmI; split <;> (try split) <;> omega
    have z2 := c2 _ il
    refine e_iload (pc := 37) dX11_laysMatrix_37 rfl ?_
    refine e_aload_n (pc := 39) dX11_laysMatrix_39 rfl rfl ?_
    refine e_get (pc := 40) fl_X11_109 dX11_laysMatrix_40 (by repeat (first | assumption | exact hset_eq _ _ _ | (apply Lay.hd; assumption) | rw [hset_ne _ _ (by omega)])) (by rfl) ?_
    refine n_icmp_ge (pc := 43) (tgt := 121) dX11_laysMatrix_43 (by decide) (by omega) (by omega) (fun c => absurd c (by omega)) (fun hb_ => ?_)
    refine e_iload (pc := 46) dX11_laysMatrix_46 rfl ?_
    refine e_aload_n (pc := 48) dX11_laysMatrix_48 rfl rfl ?_
    refine e_get (pc := 49) fl_X11_19 dX11_laysMatrix_49 (by repeat (first | assumption | exact hset_eq _ _ _ | (apply Lay.hd; assumption) | rw [hset_ne _ _ (by omega)])) (by rfl) ?_
    refine e_iload (pc := 52) dX11_laysMatrix_52 rfl ?_
    refine e_ialdN (pc := 54) k dX11_laysMatrix_54 (by repeat (first | assumption | exact hset_eq _ _ _ | (apply Lay.hd; assumption) | rw [hset_ne _ _ (by omega)])) (by rfl) (by omega) (by first | decide | omega) ?_
    rw [z]
    refine e_aload_n (pc := 55) dX11_laysMatrix_55 rfl rfl ?_
    refine e_get (pc := 56) fl_X11_16 dX11_laysMatrix_56 (by repeat (first | assumption | exact hset_eq _ _ _ | (apply Lay.hd; assumption) | rw [hset_ne _ _ (by omega)])) (by rfl) ?_
    refine l_lm_c hs ?_
    refine e_ialdN (pc := 110) (lmI side k i j) dX11_laysMatrix_110 (by repeat (first | assumption | exact hset_eq _ _ _ | (apply Lay.hd; assumption) | rw [hset_ne _ _ (by omega)])) (by rfl) (by omega) (by first | decide | omega) ?_
    rw [z2, ← lmI_ent hs]
    refine n_imul (pc := 111) dX11_laysMatrix_111 ?_
    refine n_iadd (pc := 112) dX11_laysMatrix_112 ?_
    refine e_istore (pc := 113) dX11_laysMatrix_113 (by decide) ?_
    refine n_inc (pc := 115) dX11_laysMatrix_115 rfl (by decide) ?_
    refine e_goto (pc := 118) (tgt := 37) dX11_laysMatrix_118 (by decide) ?_
    exact ih (k + 1) (by omega) (by omega)
theorem l_lm_j {i : Nat} {π : Nat → Nat} (hh : AH) (hM : MH hh m W.1 W.2.1 (W.1 ^ W.2.1) s) (hk : Wok W) (hc : CuA hh (m + 3) W) (hd : ∃ g, hh (m + 4) = some (aI 5 g) ∧ ∀ j, j < 5 → g j = nI (dgn W.1 W.2.1 x j)) (hs : side < 3) (hπ : Pi5 π) (hi : i < W.2.1)
    (kk : ∀ h G, Er (m + 11) (m + 17) hh h → MxI h m π G → (∀ a b, a < i + 1 → b < W.2.1 → G a b = nI (ent W side x a b % W.1)) → VV MX11_laysMatrix sz Pr h 143 [some (.ref m), some (.int (nI x)), some (.int (nI side)), some (.int (nI i)), none, none, none] []) :
    ∀ (t j : Nat), t = W.2.1 - j → j ≤ W.2.1 → ∀ h G, Er (m + 11) (m + 17) hh h → MxI h m π G → (∀ a b, (a < i ∨ a = i ∧ b < j) → b < W.2.1 → G a b = nI (ent W side x a b % W.1)) → VV MX11_laysMatrix sz Pr h 22 [some (.ref m), some (.int (nI x)), some (.int (nI side)), some (.int (nI i)), some (.int (nI j)), none, none] [] := by
  obtain ⟨b1, b2, b3, b4, b5⟩ := hk.b
  intro t
  induction t with
  | zero =>
    intro j e1 e2 h G er hx hG
    have e' : j = W.2.1 := by omega
    subst e'
    have hM1 : MH h m W.1 W.2.1 (W.1 ^ W.2.1) s := (er _ (by omega)).trans hM
    refine e_iload (pc := 22) dX11_laysMatrix_22 rfl ?_
    refine e_aload_n (pc := 24) dX11_laysMatrix_24 rfl rfl ?_
    refine e_get (pc := 25) fl_X11_109 dX11_laysMatrix_25 (by repeat (first | assumption | exact hset_eq _ _ _ | (apply Lay.hd; assumption) | rw [hset_ne _ _ (by omega)])) (by rfl) ?_
    refine n_icmp_ge (pc := 28) (tgt := 143) dX11_laysMatrix_28 (by decide) (by omega) (by omega) (fun hb_ => ?_) (fun c => absurd c (by omega))
    refine V.mask [true, true, true, true, false, false, false] ?_
    exact kk h G er hx (fun a b h1 h2 => hG a b (by omega) h2)
  | succ t ih =>
    intro j e1 e2 h G er hx hG
    have hM1 : MH h m W.1 W.2.1 (W.1 ^ W.2.1) s := (er _ (by omega)).trans hM
    obtain ⟨⟨f, f1, f2⟩, x3⟩ := id hx
    have r1 := x3 i (by omega)
    have el : ent W side x i j ≤ 5 * 40 := by
      unfold ent
      refine Nat.le_trans (sg_le (b := 40) (fun a _ => ?_)) (Nat.mul_le_mul (by omega) (Nat.le_refl _))
      have h1 := ent1_le hk side a i j
      have h2 := dg_lt (p := W.1) (by omega) x a
      exact Nat.le_trans (Nat.mul_le_mul (show dg W.1 x a ≤ 4 by omega) h1) (by omega)
    refine e_iload (pc := 22) dX11_laysMatrix_22 rfl ?_
    refine e_aload_n (pc := 24) dX11_laysMatrix_24 rfl rfl ?_
    refine e_get (pc := 25) fl_X11_109 dX11_laysMatrix_25 (by repeat (first | assumption | exact hset_eq _ _ _ | (apply Lay.hd; assumption) | rw [hset_ne _ _ (by omega)])) (by rfl) ?_
    refine n_icmp_ge (pc := 28) (tgt := 143) dX11_laysMatrix_28 (by decide) (by omega) (by omega) (fun c => absurd c (by omega)) (fun hb_ => ?_)
    refine n_iconst (pc := 31) 0 dX11_laysMatrix_31 (by decide) ?_
    refine e_istore (pc := 32) dX11_laysMatrix_32 (by decide) ?_
    refine n_iconst (pc := 34) 0 dX11_laysMatrix_34 (by decide) ?_
    refine e_istore (pc := 35) dX11_laysMatrix_35 (by decide) ?_
    refine l_lm_k hM1 hk (hc.keep (er _ (by omega))) ?_ hs hi (show j < W.2.1 by omega) ?_ W.2.1 0 rfl (Nat.zero_le _)
    · obtain ⟨gd, d1, d2⟩ := hd
      exact ⟨gd, (er _ (by omega)).trans d1, d2⟩
    refine e_aload_n (pc := 121) dX11_laysMatrix_121 rfl rfl ?_
    refine e_get (pc := 122) fl_X11_46 dX11_laysMatrix_122 (by repeat (first | assumption | exact hset_eq _ _ _ | (apply Lay.hd; assumption) | rw [hset_ne _ _ (by omega)])) (by rfl) ?_
    refine e_iload_n (pc := 125) dX11_laysMatrix_125 rfl rfl ?_
    refine e_aldGS (pc := 126) i dX11_laysMatrix_126 (by repeat (first | assumption | exact hset_eq _ _ _ | (apply Lay.hd; assumption) | rw [hset_ne _ _ (by omega)])) (by rfl) (by omega) (by first | decide | omega) (f2 i (by omega)) ?_
    refine e_iload (pc := 127) dX11_laysMatrix_127 rfl ?_
    refine e_iload (pc := 129) dX11_laysMatrix_129 rfl ?_
    refine e_aload_n (pc := 131) dX11_laysMatrix_131 rfl rfl ?_
    refine e_get (pc := 132) fl_X11_106 dX11_laysMatrix_132 (by repeat (first | assumption | exact hset_eq _ _ _ | (apply Lay.hd; assumption) | rw [hset_ne _ _ (by omega)])) (by rfl) ?_
    refine n_irem (pc := 135) dX11_laysMatrix_135 (by omega) (by omega) (by omega) ?_
    refine e_iastN (pc := 136) j dX11_laysMatrix_136 (by repeat (first | assumption | exact hset_eq _ _ _ | (apply Lay.hd; assumption) | rw [hset_ne _ _ (by omega)])) (by rfl) (by omega) (by first | decide | omega) ?_
    refine n_inc (pc := 137) dX11_laysMatrix_137 rfl (by decide) ?_
    refine e_goto (pc := 140) (tgt := 22) dX11_laysMatrix_140 (by decide) ?_
    refine V.mask [true, true, true, true, true, false, false] ?_
    have pi := hπ.1 i (by omega)
    refine ih (j + 1) (by omega) (by omega) _ _ (er.set (by omega)) (hx.put hπ (by omega)) (fun a b h1 h2 => ?_)
    show (if a = i then upd (G i) j _ else G a) b = _
    by_cases ea : a = i
    · subst ea
      rw [if_pos rfl]
      by_cases eb : b = j
      · subst eb; rw [pk_us]
      · rw [pk_un eb]; exact hG a b (by omega) h2
    · rw [if_neg ea]; exact hG a b (by omega) h2
theorem l_lm_i {π : Nat → Nat} (hh : AH) (hM : MH hh m W.1 W.2.1 (W.1 ^ W.2.1) s) (hk : Wok W) (hc : CuA hh (m + 3) W) (hd : ∃ g, hh (m + 4) = some (aI 5 g) ∧ ∀ j, j < 5 → g j = nI (dgn W.1 W.2.1 x j)) (hs : side < 3) (hπ : Pi5 π) :
    ∀ (t i : Nat), t = W.2.1 - i → i ≤ W.2.1 → ∀ h G, Er (m + 11) (m + 17) hh h → MxI h m π G → (∀ a b, a < i → b < W.2.1 → G a b = nI (ent W side x a b % W.1)) → VV MX11_laysMatrix sz (fun h' => Er (m + 11) (m + 17) hh h' ∧ MxP h' m W.2.1 π (fun a b => ent W side x a b % W.1) 0) h 11 [some (.ref m), some (.int (nI x)), some (.int (nI side)), some (.int (nI i)), none, none, none] [] := by
  obtain ⟨b1, b2, b3, b4, b5⟩ := hk.b
  intro t
  induction t with
  | zero =>
    intro i e1 e2 h G er hx hG
    have e' : i = W.2.1 := by omega
    subst e'
    have hM1 : MH h m W.1 W.2.1 (W.1 ^ W.2.1) s := (er _ (by omega)).trans hM
    refine e_iload_n (pc := 11) dX11_laysMatrix_11 rfl rfl ?_
    refine e_aload_n (pc := 12) dX11_laysMatrix_12 rfl rfl ?_
    refine e_get (pc := 13) fl_X11_109 dX11_laysMatrix_13 (by repeat (first | assumption | exact hset_eq _ _ _ | (apply Lay.hd; assumption) | rw [hset_ne _ _ (by omega)])) (by rfl) ?_
    refine n_icmp_ge (pc := 16) (tgt := 149) dX11_laysMatrix_16 (by decide) (by omega) (by omega) (fun hb_ => ?_) (fun c => absurd c (by omega))
    exact n_vret (pc := 149) dX11_laysMatrix_149 rfl ⟨er, hx.mxa hπ b4 hG⟩
  | succ t ih =>
    intro i e1 e2 h G er hx hG
    have hM1 : MH h m W.1 W.2.1 (W.1 ^ W.2.1) s := (er _ (by omega)).trans hM
    refine e_iload_n (pc := 11) dX11_laysMatrix_11 rfl rfl ?_
    refine e_aload_n (pc := 12) dX11_laysMatrix_12 rfl rfl ?_
    refine e_get (pc := 13) fl_X11_109 dX11_laysMatrix_13 (by repeat (first | assumption | exact hset_eq _ _ _ | (apply Lay.hd; assumption) | rw [hset_ne _ _ (by omega)])) (by rfl) ?_
    refine n_icmp_ge (pc := 16) (tgt := 149) dX11_laysMatrix_16 (by decide) (by omega) (by omega) (fun c => absurd c (by omega)) (fun hb_ => ?_)
    refine n_iconst (pc := 19) 0 dX11_laysMatrix_19 (by decide) ?_
    refine e_istore (pc := 20) dX11_laysMatrix_20 (by decide) ?_
    refine l_lm_j hh hM hk hc hd hs hπ (show i < W.2.1 by omega) (fun h2 G2 er2 hx2 hG2 => ?_) W.2.1 0 rfl (Nat.zero_le _) h G er hx (fun a b h1 h2 => hG a b (by omega) h2)
    refine n_inc (pc := 143) dX11_laysMatrix_143 rfl (by decide) ?_
    refine e_goto (pc := 146) (tgt := 11) dX11_laysMatrix_146 (by decide) ?_
    exact ih (i + 1) (by omega) (by omega) h2 G2 er2 hx2 hG2
theorem c_X11_laysMatrix (hL : Lay h m W s) (hk : Wok W) (hx : x < 2 ^ 31) (hs : side < 3) : CV yX11_laysMatrix MX11_laysMatrix [.ref m, .int (nI x), .int (nI side)] h (fun h' => Lay h' m W s ∧ FmA m h h' ∧ MxA h' m W.2.1 (fun a b => ent W side x a b % W.1)) := by
  obtain ⟨b1, b2, b3, b4, b5⟩ := hk.b
  obtain ⟨hM, hc, hR⟩ := id hL
  obtain ⟨g4, r4⟩ := hR.row (k := 4) (isR_d _ (by decide))
  refine CV.ofV (by decide) rfl rfl (by simp [Value.category]) (by exact Nat.le_of_ble_eq_true rfl) (fun sz => ?_)
  refine e_aload_n (pc := 0) dX11_laysMatrix_0 rfl rfl ?_
  refine e_iload_n (pc := 1) dX11_laysMatrix_1 rfl rfl ?_
  refine e_aload_n (pc := 2) dX11_laysMatrix_2 rfl rfl ?_
  refine e_get (pc := 3) fl_X11_19 dX11_laysMatrix_3 (by repeat (first | assumption | exact hset_eq _ _ _ | (apply Lay.hd; assumption) | rw [hset_ne _ _ (by omega)])) (by rfl) ?_
  refine n_Vv (pc := 6) (c_X11_digits hM ⟨b1, b2⟩ b4 hx (by omega) r4) bX11_digits q_i_X11_digits q_s_X11_digits q_m_X11_115 dX11_laysMatrix_6 rfl rfl (by repeat (first | assumption | exact hset_eq _ _ _ | (apply Lay.hd; assumption) | rw [hset_ne _ _ (by omega)])) rfl rfl (by exact Nat.le_of_ble_eq_true rfl) ⟨by decide, by decide⟩ ⟨rfl, rfl, Nat.zero_le _, Nat.zero_le _⟩ (fun h2 hp => ?_)
  obtain ⟨gx, rfl, x2⟩ := hp
  have hR2 : MRo (hset h (m + 4) (aI 5 gx)) m := hR.set (isR_d 4 (by decide)) rfl
  have hM2 : MH (hset h (m + 4) (aI 5 gx)) m W.1 W.2.1 (W.1 ^ W.2.1) s := (hset_ne _ _ (by omega)).trans hM
  obtain ⟨π, G, hπ, hG⟩ := hR2.mxi
  refine n_iconst (pc := 9) 0 dX11_laysMatrix_9 (by decide) ?_
  refine e_istore_n (pc := 10) dX11_laysMatrix_10 rfl (by decide) ?_
  refine V.post ?_ (l_lm_i (hset h (m + 4) (aI 5 gx)) hM2 hk (hc.keep (hset_ne _ _ (by omega))) ⟨gx, hset_eq _ _ _, x2⟩ hs hπ W.2.1 0 rfl (Nat.zero_le _) _ G (Er.rf _ _ _) hG (fun a b h1 => absurd h1 (Nat.not_lt_zero a)))
  intro r h' z qq
  obtain ⟨e1, e2, e3, e4⟩ := qq
  have fm : FmA m h h' := fun b hb => (e3 b (by omega)).trans (hset_ne _ _ (by omega))
  exact ⟨e1, e2, hL.fq fm.fq (hR2.mx e3 e4 hπ), fm, π, hπ, e4⟩
theorem rank_M {p n r : Nat} {A : Nat → Nat → Nat} (h : isRank p n (SolM p n n (fun a b => A a b % p)) r) : isRank p n (SolM p n n A) r := h.congr (fun u => ⟨fun z a ha => (dot_mod u (fun t _ => (Nat.mod_mod _ _).symm)).trans (z a ha), fun z a ha => (dot_mod u (fun t _ => Nat.mod_mod _ _)).trans (z a ha)⟩)
theorem Er.ffm {h h2 : AH} (e : Er (m + 11) (m + 17) h h2) : FmA m h h2 := fun b hb => e b (by omega)
theorem c_X11_rankOf (hL : Lay h m W s) (hk : Wok W) (hx : x < 2 ^ 31) (hs : side < 3) : CI yX11_rankOf MX11_rankOf [.ref m, .int (nI x), .int (nI side)] h (fun z h' => z = nI (rankE W side x) ∧ Lay h' m W s ∧ FmA m h h') := by
  obtain ⟨b1, b2, b3, b4, b5⟩ := hk.b
  refine CI.ofV (by decide) rfl rfl (by simp [Value.category]) (by exact Nat.le_of_ble_eq_true rfl) (fun sz => ?_)
  refine e_aload_n (pc := 0) dX11_rankOf_0 rfl rfl ?_
  refine e_iload_n (pc := 1) dX11_rankOf_1 rfl rfl ?_
  refine e_iload_n (pc := 2) dX11_rankOf_2 rfl rfl ?_
  refine n_Vv (pc := 3) (c_X11_laysMatrix hL hk hx hs) bX11_laysMatrix q_i_X11_laysMatrix q_s_X11_laysMatrix q_m_X11_257 dX11_rankOf_3 rfl rfl (by repeat (first | assumption | exact hset_eq _ _ _ | (apply Lay.hd; assumption) | rw [hset_ne _ _ (by omega)])) rfl rfl (by exact Nat.le_of_ble_eq_true rfl) ⟨by decide, by decide⟩ ⟨rfl, rfl, Nat.zero_le _, Nat.zero_le _⟩ (fun h2 hp => ?_)
  obtain ⟨p1, p2, p3⟩ := hp
  refine e_aload_n (pc := 6) dX11_rankOf_6 rfl rfl ?_
  refine n_V (pc := 7) (c_X11_rank p1.1 p1.2.2 hk.1 b4 p3 (fun i j _ _ => Nat.mod_lt _ (by omega))) bX11_rank q_i_X11_rank q_s_X11_rank q_m_X11_260 dX11_rankOf_7 rfl rfl (by repeat (first | assumption | exact hset_eq _ _ _ | (apply Lay.hd; assumption) | rw [hset_ne _ _ (by omega)])) rfl rfl (by exact Nat.le_of_ble_eq_true rfl) ⟨by decide, by decide⟩ ⟨rfl, rfl, Nat.zero_le _, Nat.zero_le _⟩ (fun z h3 hp => ?_)
  obtain ⟨r, rfl, r1, r2, r3, r4⟩ := hp
  exact n_iret (pc := 10) dX11_rankOf_10 rfl ⟨congrArg nI (rkf_eq hk.1 (rank_M r2)), p1.fq r4.ffm.fq r3, p2.tr r4.ffm⟩
end LM
section FF
variable {m : Nat} {s : Ms} {W : Wd} {sz : Nat} {hh : AH}
theorem l_ff_y {x : Nat} {Pr : Int32 → AH → Prop} (hk : Wok W) (hx0 : 0 < x) (hx : x < W.1 ^ W.2.1)
    (kf : ∀ h y, Lay h m W s → FmA m hh h → 0 < y → y < W.1 ^ W.2.1 → mul W x y = 0 → (∀ b, 0 < b → b < y → mul W x b ≠ 0) → Pr (nI (W.1 ^ W.2.1 * x + y)) h)
    (kk : ∀ h, Lay h m W s → FmA m hh h → (∀ b, 0 < b → b < W.1 ^ W.2.1 → mul W x b ≠ 0) → VI MX11_firstFail sz Pr h 60 [some (.ref m), some (.int (nI x)), none] []) :
    ∀ (t y : Nat), t = W.1 ^ W.2.1 - y → 0 < y → y ≤ W.1 ^ W.2.1 → ∀ h, Lay h m W s → FmA m hh h → (∀ b, 0 < b → b < y → mul W x b ≠ 0) → VI MX11_firstFail sz Pr h 28 [some (.ref m), some (.int (nI x)), some (.int (nI y))] [] := by
  obtain ⟨b1, b2, b3, b4, b5⟩ := hk.b
  intro t
  induction t with
  | zero =>
    intro y e1 e2 e3 h hL fm h0
    have e' : y = W.1 ^ W.2.1 := by omega
    refine e_iload_n (pc := 28) dX11_firstFail_28 rfl rfl ?_
    refine e_aload_n (pc := 29) dX11_firstFail_29 rfl rfl ?_
    refine e_get (pc := 30) fl_X11_112 dX11_firstFail_30 (by repeat (first | assumption | exact hset_eq _ _ _ | (apply Lay.hd; assumption) | rw [hset_ne _ _ (by omega)])) (by rfl) ?_
    refine n_icmp_ge (pc := 33) (tgt := 60) dX11_firstFail_33 (by decide) (by omega) (by omega) (fun hb_ => ?_) (fun c => absurd c (by omega))
    refine V.mask [true, true, false] ?_
    exact kk h hL fm (fun b h1 h2 => h0 b h1 (by omega))
  | succ t ih =>
    intro y e1 e2 e3 h hL fm h0
    refine e_iload_n (pc := 28) dX11_firstFail_28 rfl rfl ?_
    refine e_aload_n (pc := 29) dX11_firstFail_29 rfl rfl ?_
    refine e_get (pc := 30) fl_X11_112 dX11_firstFail_30 (by repeat (first | assumption | exact hset_eq _ _ _ | (apply Lay.hd; assumption) | rw [hset_ne _ _ (by omega)])) (by rfl) ?_
    refine n_icmp_ge (pc := 33) (tgt := 60) dX11_firstFail_33 (by decide) (by omega) (by omega) (fun c => absurd c (by omega)) (fun hb_ => ?_)
    refine e_aload_n (pc := 36) dX11_firstFail_36 rfl rfl ?_
    refine e_iload_n (pc := 37) dX11_firstFail_37 rfl rfl ?_
    refine e_iload_n (pc := 38) dX11_firstFail_38 rfl rfl ?_
    refine n_V (pc := 39) (c_X11_times hL hk (show x < 2 ^ 31 by omega) (show y < 2 ^ 31 by omega)) bX11_times q_i_X11_times q_s_X11_times q_m_X11_266 dX11_firstFail_39 rfl rfl (by repeat (first | assumption | exact hset_eq _ _ _ | (apply Lay.hd; assumption) | rw [hset_ne _ _ (by omega)])) rfl rfl (by exact Nat.le_of_ble_eq_true rfl) ⟨by decide, by decide⟩ ⟨rfl, rfl, Nat.zero_le _, Nat.zero_le _⟩ (fun z h2 hp => ?_)
    obtain ⟨rfl, p1, p2⟩ := hp
    have ml := mul_lt hk x y
    have fm2 := fm.tr p2.ff
    refine n_if_ne (pc := 42) (tgt := 54) dX11_firstFail_42 (by decide) (by omega) (fun c => ?_) (fun c => ?_)
    · refine n_inc (pc := 54) dX11_firstFail_54 rfl (by decide) ?_
      refine e_goto (pc := 57) (tgt := 28) dX11_firstFail_57 (by decide) ?_
      refine ih (y + 1) (by omega) (by omega) (by omega) h2 p1 fm2 (fun b h1 h2 => ?_)
      by_cases e : b = y
      · rw [e]; omega
      · exact h0 b h1 (by omega)
    · refine e_aload_n (pc := 45) dX11_firstFail_45 rfl rfl ?_
      refine e_get (pc := 46) fl_X11_112 dX11_firstFail_46 (by repeat (first | assumption | exact hset_eq _ _ _ | (apply Lay.hd; assumption) | rw [hset_ne _ _ (by omega)])) (by rfl) ?_
      refine e_iload_n (pc := 49) dX11_firstFail_49 rfl rfl ?_
      refine n_imul (pc := 50) dX11_firstFail_50 ?_
      refine e_iload_n (pc := 51) dX11_firstFail_51 rfl rfl ?_
      refine n_iadd (pc := 52) dX11_firstFail_52 ?_
      exact n_iret (pc := 53) dX11_firstFail_53 rfl (kf h2 y p1 fm2 e2 (by omega) (by omega) h0)
theorem l_ff_x (hk : Wok W) :
    ∀ (t x : Nat), t = W.1 ^ W.2.1 - x → 0 < x → x ≤ W.1 ^ W.2.1 → ∀ h, Lay h m W s → FmA m hh h → (∀ a b, 0 < a → a < x → 0 < b → b < W.1 ^ W.2.1 → mul W a b ≠ 0) → VI MX11_firstFail sz (fun z h' => Fail W z ∧ Lay h' m W s ∧ FmA m hh h') h 2 [some (.ref m), some (.int (nI x)), none] [] := by
  obtain ⟨b1, b2, b3, b4, b5⟩ := hk.b
  intro t
  induction t with
  | zero =>
    intro x e1 e2 e3 h hL fm h0
    have e' : x = W.1 ^ W.2.1 := by omega
    refine e_iload_n (pc := 2) dX11_firstFail_2 rfl rfl ?_
    refine e_aload_n (pc := 3) dX11_firstFail_3 rfl rfl ?_
    refine e_get (pc := 4) fl_X11_112 dX11_firstFail_4 (by repeat (first | assumption | exact hset_eq _ _ _ | (apply Lay.hd; assumption) | rw [hset_ne _ _ (by omega)])) (by rfl) ?_
    refine n_icmp_ge (pc := 7) (tgt := 66) dX11_firstFail_7 (by decide) (by omega) (by omega) (fun hb_ => ?_) (fun c => absurd c (by omega))
    refine e_iconst (pc := 66) (v := -1) dX11_firstFail_66 (by decide) ?_
    exact n_iret (pc := 67) dX11_firstFail_67 rfl ⟨Or.inr ⟨rfl, fun a b h1 h2 h3 h4 => h0 a b h1 (by omega) h3 h4⟩, hL, fm⟩
  | succ t ih =>
    intro x e1 e2 e3 h hL fm h0
    have step : ∀ h2, Lay h2 m W s → FmA m hh h2 → (∀ b, 0 < b → b < W.1 ^ W.2.1 → mul W x b ≠ 0) → VI MX11_firstFail sz (fun z h' => Fail W z ∧ Lay h' m W s ∧ FmA m hh h') h2 60 [some (.ref m), some (.int (nI x)), none] [] := fun h2 l2 f2 h1 => by
      refine n_inc (pc := 60) dX11_firstFail_60 rfl (by decide) ?_
      refine e_goto (pc := 63) (tgt := 2) dX11_firstFail_63 (by decide) ?_
      refine ih (x + 1) (by omega) (by omega) (by omega) h2 l2 f2 (fun a b q1 q2 q3 q4 => ?_)
      by_cases e : a = x
      · rw [e]; exact h1 b q3 q4
      · exact h0 a b q1 (by omega) q3 q4
    refine e_iload_n (pc := 2) dX11_firstFail_2 rfl rfl ?_
    refine e_aload_n (pc := 3) dX11_firstFail_3 rfl rfl ?_
    refine e_get (pc := 4) fl_X11_112 dX11_firstFail_4 (by repeat (first | assumption | exact hset_eq _ _ _ | (apply Lay.hd; assumption) | rw [hset_ne _ _ (by omega)])) (by rfl) ?_
    refine n_icmp_ge (pc := 7) (tgt := 66) dX11_firstFail_7 (by decide) (by omega) (by omega) (fun c => absurd c (by omega)) (fun hb_ => ?_)
    refine e_aload_n (pc := 10) dX11_firstFail_10 rfl rfl ?_
    refine e_iload_n (pc := 11) dX11_firstFail_11 rfl rfl ?_
    refine n_iconst (pc := 12) 0 dX11_firstFail_12 (by decide) ?_
    refine n_V (pc := 13) (c_X11_rankOf (side := 0) hL hk (show x < 2 ^ 31 by omega) (by decide)) bX11_rankOf q_i_X11_rankOf q_s_X11_rankOf q_m_X11_263 dX11_firstFail_13 rfl rfl (by repeat (first | assumption | exact hset_eq _ _ _ | (apply Lay.hd; assumption) | rw [hset_ne _ _ (by omega)])) rfl rfl (by exact Nat.le_of_ble_eq_true rfl) ⟨by decide, by decide⟩ ⟨rfl, rfl, Nat.zero_le _, Nat.zero_le _⟩ (fun z h2 hp => ?_)
    obtain ⟨rfl, p1, p2⟩ := hp
    have rl := rankE_le hk 0 x
    have fm2 := fm.tr p2
    refine e_aload_n (pc := 16) dX11_firstFail_16 rfl rfl ?_
    refine e_get (pc := 17) fl_X11_109 dX11_firstFail_17 (by repeat (first | assumption | exact hset_eq _ _ _ | (apply Lay.hd; assumption) | rw [hset_ne _ _ (by omega)])) (by rfl) ?_
    refine n_icmp_ne (pc := 20) (tgt := 26) dX11_firstFail_20 (by decide) (by omega) (by omega) (fun c => ?_) (fun c => ?_)
    · refine n_iconst (pc := 26) 1 dX11_firstFail_26 (by decide) ?_
      refine e_istore_n (pc := 27) dX11_firstFail_27 rfl (by decide) ?_
      exact l_ff_y hk e2 (by omega) (fun h3 y l3 f3 y0 y1 y2 y3 => ⟨Or.inl ⟨x, y, rfl, e2, by omega, y0, y1, y2, fun a b q1 q2 q3 q4 => h0 a b q1 q2 q3 q4, y3⟩, l3, f3⟩) (fun h3 l3 f3 q => step h3 l3 f3 q) (W.1 ^ W.2.1 - 1) 1 rfl (by omega) (by omega) h2 p1 fm2 (fun b q1 q2 => absurd q2 (by omega))
    · refine e_goto (pc := 23) (tgt := 60) dX11_firstFail_23 (by decide) ?_
      refine step h2 p1 fm2 (fun b q1 q2 => ?_)
      have := (rankE_full hk 0 x).mp (by omega) b q1 q2
      rw [vm_mul] at this
      exact this
theorem c_X11_firstFail {h : AH} (hL : Lay h m W s) (hk : Wok W) : CI yX11_firstFail MX11_firstFail [.ref m] h (fun z h' => Fail W z ∧ Lay h' m W s ∧ FmA m h h') := by
  have pos := hk.pos
  refine CI.ofV (by decide) rfl rfl (by simp [Value.category]) (by exact Nat.le_of_ble_eq_true rfl) (fun sz => ?_)
  refine n_iconst (pc := 0) 1 dX11_firstFail_0 (by decide) ?_
  refine e_istore_n (pc := 1) dX11_firstFail_1 rfl (by decide) ?_
  exact l_ff_x hk (W.1 ^ W.2.1 - 1) 1 rfl (by omega) (by omega) h hL (FmA.rf _ _) (fun a b q1 q2 => absurd q2 (by omega))
end FF
