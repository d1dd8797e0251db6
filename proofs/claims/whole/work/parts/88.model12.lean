/-! ===== the reference: whether x a and a x added are one to one; how many of a rank ===== -/
section MP
variable {m : Nat} {s : Ms} {W : Wd} {sz : Nat} {hh : AH}
theorem ent_leM {W : Wd} (hk : Wok W) (side x i j : Nat) : ent W side x i j ≤ 5 * 40 := by
  obtain ⟨b1, b2, b3, b4, b5⟩ := hk.b
  unfold ent
  refine Nat.le_trans (sg_le (b := 40) (fun a _ => ?_)) (Nat.mul_le_mul (by omega) (Nat.le_refl _))
  have h1 := ent1_le hk side a i j
  have h2 := dg_lt (p := W.1) (by omega) x a
  exact Nat.le_trans (Nat.mul_le_mul (show dg W.1 x a ≤ 4 by omega) h1) (by omega)
theorem l_mpn_k {h : AH} {x i j : Nat} {Pr : Int32 → AH → Prop} (hM : MH h m W.1 W.2.1 (W.1 ^ W.2.1) s) (hk : Wok W) (hc : CuA h (m + 3) W) (hd : ∃ g, h (m + 4) = some (aI 5 g) ∧ ∀ j, j < 5 → g j = nI (dgn W.1 W.2.1 x j)) (hi : i < W.2.1) (hj : j < W.2.1)
    (kk : VI MX11_planar sz Pr h 116 [some (.ref m), some (.int (nI x)), some (.int (nI i)), some (.int (nI j)), some (.int (nI (ent W 3 x i j))), none] []) :
    ∀ (t k : Nat), t = W.2.1 - k → k ≤ W.2.1 → VI MX11_planar sz Pr h 55 [some (.ref m), some (.int (nI x)), some (.int (nI i)), some (.int (nI j)), some (.int (nI (sg k (fun a => dg W.1 x a * ent1 W 3 a i j)))), some (.int (nI k))] [] := by
  obtain ⟨b1, b2, b3, b4, b5⟩ := hk.b
  obtain ⟨gc, c1, c2⟩ := hc
  obtain ⟨gd, d1, d2⟩ := hd
  intro t
  induction t with
  | zero =>
    intro k e1 e2
    have e' : k = W.2.1 := by omega
    subst e'
    refine e_iload (pc := 55) dX11_planar_55 rfl ?_
    refine e_aload_n (pc := 57) dX11_planar_57 rfl rfl ?_
    refine e_get (pc := 58) fl_X11_109 dX11_planar_58 (by repeat (first | assumption | exact hset_eq _ _ _ | (apply Lay.hd; assumption) | rw [hset_ne _ _ (by omega)])) (by rfl) ?_
    refine n_icmp_ge (pc := 61) (tgt := 116) dX11_planar_61 (by decide) (by omega) (by omega) (fun hb_ => ?_) (fun c => absurd c (by omega))
    refine V.mask [true, true, true, true, true, false] ?_
    exact kk
  | succ t ih =>
    intro k e1 e2
    have z := d2 k (by omega)
    rw [show dgn W.1 W.2.1 x k = dg W.1 x k from if_pos (by omega)] at z
    have z2 := c2 (25 * k + 5 * i + j) (by omega)
    have z3 := c2 (25 * i + 5 * k + j) (by omega)
    refine e_iload (pc := 55) dX11_planar_55 rfl ?_
    refine e_aload_n (pc := 57) dX11_planar_57 rfl rfl ?_
    refine e_get (pc := 58) fl_X11_109 dX11_planar_58 (by repeat (first | assumption | exact hset_eq _ _ _ | (apply Lay.hd; assumption) | rw [hset_ne _ _ (by omega)])) (by rfl) ?_
    refine n_icmp_ge (pc := 61) (tgt := 116) dX11_planar_61 (by decide) (by omega) (by omega) (fun c => absurd c (by omega)) (fun hb_ => ?_)
    refine e_iload (pc := 64) dX11_planar_64 rfl ?_
    refine e_aload_n (pc := 66) dX11_planar_66 rfl rfl ?_
    refine e_get (pc := 67) fl_X11_19 dX11_planar_67 (by repeat (first | assumption | exact hset_eq _ _ _ | (apply Lay.hd; assumption) | rw [hset_ne _ _ (by omega)])) (by rfl) ?_
    refine e_iload (pc := 70) dX11_planar_70 rfl ?_
    refine e_ialdN (pc := 72) k dX11_planar_72 (by repeat (first | assumption | exact hset_eq _ _ _ | (apply Lay.hd; assumption) | rw [hset_ne _ _ (by omega)])) (by rfl) (by omega) (by first | decide | omega) ?_
    rw [z]
    refine e_aload_n (pc := 73) dX11_planar_73 rfl rfl ?_
    refine e_get (pc := 74) fl_X11_16 dX11_planar_74 (by repeat (first | assumption | exact hset_eq _ _ _ | (apply Lay.hd; assumption) | rw [hset_ne _ _ (by omega)])) (by rfl) ?_
    refine n_bipush (pc := 77) 25 dX11_planar_77 (by decide) ?_
    refine e_iload (pc := 79) dX11_planar_79 rfl ?_
    refine n_imul (pc := 81) dX11_planar_81 ?_
    refine n_iconst (pc := 82) 5 dX11_planar_82 (by decide) ?_
    refine e_iload_n (pc := 83) dX11_planar_83 rfl rfl ?_
    refine n_imul (pc := 84) dX11_planar_84 ?_
    refine n_iadd (pc := 85) dX11_planar_85 ?_
    refine e_iload_n (pc := 86) dX11_planar_86 rfl rfl ?_
    refine n_iadd (pc := 87) dX11_planar_87 ?_
    refine e_ialdN (pc := 88) (25 * k + 5 * i + j) dX11_planar_88 (by repeat (first | assumption | exact hset_eq _ _ _ | (apply Lay.hd; assumption) | rw [hset_ne _ _ (by omega)])) (by rfl) (by omega) (by first | decide | omega) ?_
    rw [z2]
    refine e_aload_n (pc := 89) dX11_planar_89 rfl rfl ?_
    refine e_get (pc := 90) fl_X11_16 dX11_planar_90 (by repeat (first | assumption | exact hset_eq _ _ _ | (apply Lay.hd; assumption) | rw [hset_ne _ _ (by omega)])) (by rfl) ?_
    refine n_bipush (pc := 93) 25 dX11_planar_93 (by decide) ?_
    refine e_iload_n (pc := 95) dX11_planar_95 rfl rfl ?_
    refine n_imul (pc := 96) dX11_planar_96 ?_
    refine n_iconst (pc := 97) 5 dX11_planar_97 (by decide) ?_
    refine e_iload (pc := 98) dX11_planar_98 rfl ?_
    refine n_imul (pc := 100) dX11_planar_100 ?_
    refine n_iadd (pc := 101) dX11_planar_101 ?_
    refine e_iload_n (pc := 102) dX11_planar_102 rfl rfl ?_
    refine n_iadd (pc := 103) dX11_planar_103 ?_
    refine e_ialdN (pc := 104) (25 * i + 5 * k + j) dX11_planar_104 (by repeat (first | assumption | exact hset_eq _ _ _ | (apply Lay.hd; assumption) | rw [hset_ne _ _ (by omega)])) (by rfl) (by omega) (by first | decide | omega) ?_
    rw [z3]
    refine n_iadd (pc := 105) dX11_planar_105 ?_
    refine n_imul (pc := 106) dX11_planar_106 ?_
    refine n_iadd (pc := 107) dX11_planar_107 ?_
    refine e_istore (pc := 108) dX11_planar_108 (by decide) ?_
    refine n_inc (pc := 110) dX11_planar_110 rfl (by decide) ?_
    refine e_goto (pc := 113) (tgt := 55) dX11_planar_113 (by decide) ?_
    exact ih (k + 1) (by omega) (by omega)
theorem l_mpn_j {x i : Nat} {π : Nat → Nat} {Pr : Int32 → AH → Prop} (hM : MH hh m W.1 W.2.1 (W.1 ^ W.2.1) s) (hk : Wok W) (hc : CuA hh (m + 3) W) (hd : ∃ g, hh (m + 4) = some (aI 5 g) ∧ ∀ j, j < 5 → g j = nI (dgn W.1 W.2.1 x j)) (hπ : Pi5 π) (hi : i < W.2.1)
    (kk : ∀ h G, Er (m + 11) (m + 17) hh h → MxI h m π G → (∀ a b, a < i + 1 → b < W.2.1 → G a b = nI (ent W 3 x a b % W.1)) → VI MX11_planar sz Pr h 137 [some (.ref m), some (.int (nI x)), some (.int (nI i)), none, none, none] []) :
    ∀ (t j : Nat), t = W.2.1 - j → j ≤ W.2.1 → ∀ h G, Er (m + 11) (m + 17) hh h → MxI h m π G → (∀ a b, (a < i ∨ a = i ∧ b < j) → b < W.2.1 → G a b = nI (ent W 3 x a b % W.1)) → VI MX11_planar sz Pr h 41 [some (.ref m), some (.int (nI x)), some (.int (nI i)), some (.int (nI j)), none, none] [] := by
  obtain ⟨b1, b2, b3, b4, b5⟩ := hk.b
  intro t
  induction t with
  | zero =>
    intro j e1 e2 h G er hx hG
    have e' : j = W.2.1 := by omega
    subst e'
    have hM1 : MH h m W.1 W.2.1 (W.1 ^ W.2.1) s := (er _ (by omega)).trans hM
    refine e_iload_n (pc := 41) dX11_planar_41 rfl rfl ?_
    refine e_aload_n (pc := 42) dX11_planar_42 rfl rfl ?_
    refine e_get (pc := 43) fl_X11_109 dX11_planar_43 (by repeat (first | assumption | exact hset_eq _ _ _ | (apply Lay.hd; assumption) | rw [hset_ne _ _ (by omega)])) (by rfl) ?_
    refine n_icmp_ge (pc := 46) (tgt := 137) dX11_planar_46 (by decide) (by omega) (by omega) (fun hb_ => ?_) (fun c => absurd c (by omega))
    refine V.mask [true, true, true, false, false, false] ?_
    exact kk h G er hx (fun a b h1 h2 => hG a b (by omega) h2)
  | succ t ih =>
    intro j e1 e2 h G er hx hG
    have hM1 : MH h m W.1 W.2.1 (W.1 ^ W.2.1) s := (er _ (by omega)).trans hM
    obtain ⟨⟨f, f1, f2⟩, x3⟩ := id hx
    have r1 := x3 i (by omega)
    have el := ent_leM hk 3 x i j
    refine e_iload_n (pc := 41) dX11_planar_41 rfl rfl ?_
    refine e_aload_n (pc := 42) dX11_planar_42 rfl rfl ?_
    refine e_get (pc := 43) fl_X11_109 dX11_planar_43 (by repeat (first | assumption | exact hset_eq _ _ _ | (apply Lay.hd; assumption) | rw [hset_ne _ _ (by omega)])) (by rfl) ?_
    refine n_icmp_ge (pc := 46) (tgt := 137) dX11_planar_46 (by decide) (by omega) (by omega) (fun c => absurd c (by omega)) (fun hb_ => ?_)
    refine n_iconst (pc := 49) 0 dX11_planar_49 (by decide) ?_
    refine e_istore (pc := 50) dX11_planar_50 (by decide) ?_
    refine n_iconst (pc := 52) 0 dX11_planar_52 (by decide) ?_
    refine e_istore (pc := 53) dX11_planar_53 (by decide) ?_
    refine l_mpn_k hM1 hk (hc.keep (er _ (by omega))) ?_ hi (show j < W.2.1 by omega) ?_ W.2.1 0 rfl (Nat.zero_le _)
    · obtain ⟨gd, d1, d2⟩ := hd
      exact ⟨gd, (er _ (by omega)).trans d1, d2⟩
    refine e_aload_n (pc := 116) dX11_planar_116 rfl rfl ?_
    refine e_get (pc := 117) fl_X11_46 dX11_planar_117 (by repeat (first | assumption | exact hset_eq _ _ _ | (apply Lay.hd; assumption) | rw [hset_ne _ _ (by omega)])) (by rfl) ?_
    refine e_iload_n (pc := 120) dX11_planar_120 rfl rfl ?_
    refine e_aldGS (pc := 121) i dX11_planar_121 (by repeat (first | assumption | exact hset_eq _ _ _ | (apply Lay.hd; assumption) | rw [hset_ne _ _ (by omega)])) (by rfl) (by omega) (by first | decide | omega) (f2 i (by omega)) ?_
    refine e_iload_n (pc := 122) dX11_planar_122 rfl rfl ?_
    refine e_iload (pc := 123) dX11_planar_123 rfl ?_
    refine e_aload_n (pc := 125) dX11_planar_125 rfl rfl ?_
    refine e_get (pc := 126) fl_X11_106 dX11_planar_126 (by repeat (first | assumption | exact hset_eq _ _ _ | (apply Lay.hd; assumption) | rw [hset_ne _ _ (by omega)])) (by rfl) ?_
    refine n_irem (pc := 129) dX11_planar_129 (by omega) (by omega) (by omega) ?_
    refine e_iastN (pc := 130) j dX11_planar_130 (by repeat (first | assumption | exact hset_eq _ _ _ | (apply Lay.hd; assumption) | rw [hset_ne _ _ (by omega)])) (by rfl) (by omega) (by first | decide | omega) ?_
    refine n_inc (pc := 131) dX11_planar_131 rfl (by decide) ?_
    refine e_goto (pc := 134) (tgt := 41) dX11_planar_134 (by decide) ?_
    refine V.mask [true, true, true, true, false, false] ?_
    have pi := hπ.1 i (by omega)
    refine ih (j + 1) (by omega) (by omega) _ _ (er.set (by omega)) (hx.put hπ (by omega)) (fun a b h1 h2 => ?_)
    show (if a = i then upd (G i) j _ else G a) b = _
    by_cases ea : a = i
    · subst ea
      rw [if_pos rfl]
      by_cases eb : b = j
      · subst eb; rw [pk_us]
      · rw [pk_un eb]; exact hG a b (by omega) h2
    · rw [if_neg ea]; exact hG a b (by omega) h2
theorem l_mpn_i {x : Nat} {π : Nat → Nat} {Pr : Int32 → AH → Prop} (hM : MH hh m W.1 W.2.1 (W.1 ^ W.2.1) s) (hk : Wok W) (hc : CuA hh (m + 3) W) (hd : ∃ g, hh (m + 4) = some (aI 5 g) ∧ ∀ j, j < 5 → g j = nI (dgn W.1 W.2.1 x j)) (hπ : Pi5 π)
    (kk : ∀ h, Er (m + 11) (m + 17) hh h → MxP h m W.2.1 π (fun a b => ent W 3 x a b % W.1) 0 → VI MX11_planar sz Pr h 143 [some (.ref m), some (.int (nI x)), none, none, none, none] []) :
    ∀ (t i : Nat), t = W.2.1 - i → i ≤ W.2.1 → ∀ h G, Er (m + 11) (m + 17) hh h → MxI h m π G → (∀ a b, a < i → b < W.2.1 → G a b = nI (ent W 3 x a b % W.1)) → VI MX11_planar sz Pr h 31 [some (.ref m), some (.int (nI x)), some (.int (nI i)), none, none, none] [] := by
  obtain ⟨b1, b2, b3, b4, b5⟩ := hk.b
  intro t
  induction t with
  | zero =>
    intro i e1 e2 h G er hx hG
    have e' : i = W.2.1 := by omega
    subst e'
    have hM1 : MH h m W.1 W.2.1 (W.1 ^ W.2.1) s := (er _ (by omega)).trans hM
    refine e_iload_n (pc := 31) dX11_planar_31 rfl rfl ?_
    refine e_aload_n (pc := 32) dX11_planar_32 rfl rfl ?_
    refine e_get (pc := 33) fl_X11_109 dX11_planar_33 (by repeat (first | assumption | exact hset_eq _ _ _ | (apply Lay.hd; assumption) | rw [hset_ne _ _ (by omega)])) (by rfl) ?_
    refine n_icmp_ge (pc := 36) (tgt := 143) dX11_planar_36 (by decide) (by omega) (by omega) (fun hb_ => ?_) (fun c => absurd c (by omega))
    refine V.mask [true, true, false, false, false, false] ?_
    exact kk h er (hx.mxa hπ b4 hG)
  | succ t ih =>
    intro i e1 e2 h G er hx hG
    have hM1 : MH h m W.1 W.2.1 (W.1 ^ W.2.1) s := (er _ (by omega)).trans hM
    refine e_iload_n (pc := 31) dX11_planar_31 rfl rfl ?_
    refine e_aload_n (pc := 32) dX11_planar_32 rfl rfl ?_
    refine e_get (pc := 33) fl_X11_109 dX11_planar_33 (by repeat (first | assumption | exact hset_eq _ _ _ | (apply Lay.hd; assumption) | rw [hset_ne _ _ (by omega)])) (by rfl) ?_
    refine n_icmp_ge (pc := 36) (tgt := 143) dX11_planar_36 (by decide) (by omega) (by omega) (fun c => absurd c (by omega)) (fun hb_ => ?_)
    refine n_iconst (pc := 39) 0 dX11_planar_39 (by decide) ?_
    refine e_istore_n (pc := 40) dX11_planar_40 rfl (by decide) ?_
    refine l_mpn_j hM hk hc hd hπ (show i < W.2.1 by omega) (fun h2 G2 er2 hx2 hG2 => ?_) W.2.1 0 rfl (Nat.zero_le _) h G er hx (fun a b h1 h2 => hG a b (by omega) h2)
    refine n_inc (pc := 137) dX11_planar_137 rfl (by decide) ?_
    refine e_goto (pc := 140) (tgt := 31) dX11_planar_140 (by decide) ?_
    exact ih (i + 1) (by omega) (by omega) h2 G2 er2 hx2 hG2
theorem l_mpn (hk : Wok W) :
    ∀ (t x : Nat), t = W.1 ^ W.2.1 - x → 0 < x → x ≤ W.1 ^ W.2.1 → ∀ h, Lay h m W s → FmA m hh h → (∀ y, 0 < y → y < x → rankE W 3 y = W.2.1) → VI MX11_planar sz (fun z h' => isB z (∀ y, 0 < y → y < W.1 ^ W.2.1 → rankE W 3 y = W.2.1) ∧ Lay h' m W s ∧ FmA m hh h') h 12 [some (.ref m), some (.int (nI x)), none, none, none, none] [] := by
  obtain ⟨b1, b2, b3, b4, b5⟩ := hk.b
  intro t
  induction t with
  | zero =>
    intro x e1 e2 e3 h hL fm h0
    have e' : x = W.1 ^ W.2.1 := by omega
    refine e_iload_n (pc := 12) dX11_planar_12 rfl rfl ?_
    refine e_aload_n (pc := 13) dX11_planar_13 rfl rfl ?_
    refine e_get (pc := 14) fl_X11_112 dX11_planar_14 (by repeat (first | assumption | exact hset_eq _ _ _ | (apply Lay.hd; assumption) | rw [hset_ne _ _ (by omega)])) (by rfl) ?_
    refine n_icmp_ge (pc := 17) (tgt := 162) dX11_planar_17 (by decide) (by omega) (by omega) (fun hb_ => ?_) (fun c => absurd c (by omega))
    refine n_iconst (pc := 162) 1 dX11_planar_162 (by decide) ?_
    exact n_iret (pc := 163) dX11_planar_163 rfl ⟨Or.inl ⟨fun y y1 y2 => h0 y y1 (by omega), rfl⟩, hL, fm⟩
  | succ t ih =>
    intro x e1 e2 e3 h hL fm h0
    obtain ⟨hM, hc, hR⟩ := id hL
    obtain ⟨g4, r4⟩ := hR.row (k := 4) (isR_d _ (by decide))
    refine e_iload_n (pc := 12) dX11_planar_12 rfl rfl ?_
    refine e_aload_n (pc := 13) dX11_planar_13 rfl rfl ?_
    refine e_get (pc := 14) fl_X11_112 dX11_planar_14 (by repeat (first | assumption | exact hset_eq _ _ _ | (apply Lay.hd; assumption) | rw [hset_ne _ _ (by omega)])) (by rfl) ?_
    refine n_icmp_ge (pc := 17) (tgt := 162) dX11_planar_17 (by decide) (by omega) (by omega) (fun c => absurd c (by omega)) (fun hb_ => ?_)
    refine e_aload_n (pc := 20) dX11_planar_20 rfl rfl ?_
    refine e_iload_n (pc := 21) dX11_planar_21 rfl rfl ?_
    refine e_aload_n (pc := 22) dX11_planar_22 rfl rfl ?_
    refine e_get (pc := 23) fl_X11_19 dX11_planar_23 (by repeat (first | assumption | exact hset_eq _ _ _ | (apply Lay.hd; assumption) | rw [hset_ne _ _ (by omega)])) (by rfl) ?_
    refine n_Vv (pc := 26) (c_X11_digits hM ⟨b1, b2⟩ b4 (show x < 2 ^ 31 by omega) (by omega) r4) bX11_digits q_i_X11_digits q_s_X11_digits q_m_X11_115 dX11_planar_26 rfl rfl (by repeat (first | assumption | exact hset_eq _ _ _ | (apply Lay.hd; assumption) | rw [hset_ne _ _ (by omega)])) rfl rfl (by exact Nat.le_of_ble_eq_true rfl) ⟨by decide, by decide⟩ ⟨rfl, rfl, Nat.zero_le _, Nat.zero_le _⟩ (fun h2 hp => ?_)
    obtain ⟨gx, rfl, x2⟩ := hp
    have hR2 : MRo (hset h (m + 4) (aI 5 gx)) m := hR.set (isR_d 4 (by decide)) rfl
    have hM2 : MH (hset h (m + 4) (aI 5 gx)) m W.1 W.2.1 (W.1 ^ W.2.1) s := (hset_ne _ _ (by omega)).trans hM
    obtain ⟨π, G, hπ, hG⟩ := hR2.mxi
    refine n_iconst (pc := 29) 0 dX11_planar_29 (by decide) ?_
    refine e_istore_n (pc := 30) dX11_planar_30 rfl (by decide) ?_
    refine l_mpn_i hM2 hk (hc.keep (hset_ne _ _ (by omega))) ⟨gx, hset_eq _ _ _, x2⟩ hπ (fun h3 e3 e4 => ?_) W.2.1 0 rfl (Nat.zero_le _) _ G (Er.rf _ _ _) hG (fun a b h1 => absurd h1 (Nat.not_lt_zero a))
    have fm3 : FmA m h h3 := fun b hb => (e3 b (by omega)).trans (hset_ne _ _ (by omega))
    have hL3 : Lay h3 m W s := hL.fq fm3.fq (hR2.mx e3 e4 hπ)
    refine e_aload_n (pc := 143) dX11_planar_143 rfl rfl ?_
    refine n_V (pc := 144) (c_X11_rank hL3.1 hL3.2.2 hk.1 b4 ⟨π, hπ, e4⟩ (fun i j _ _ => Nat.mod_lt _ (by omega))) bX11_rank q_i_X11_rank q_s_X11_rank q_m_X11_260 dX11_planar_144 rfl rfl (by repeat (first | assumption | exact hset_eq _ _ _ | (apply Lay.hd; assumption) | rw [hset_ne _ _ (by omega)])) rfl rfl (by exact Nat.le_of_ble_eq_true rfl) ⟨by decide, by decide⟩ ⟨rfl, rfl, Nat.zero_le _, Nat.zero_le _⟩ (fun z h4 hp => ?_)
    obtain ⟨r, rfl, r1, r2, r3, r4⟩ := hp
    have re : r = rankE W 3 x := rkf_eq hk.1 (rank_M r2)
    have hL4 : Lay h4 m W s := hL3.fq r4.ffm.fq r3
    have fm4 := (fm.tr fm3).tr r4.ffm
    refine e_aload_n (pc := 147) dX11_planar_147 rfl rfl ?_
    refine e_get (pc := 148) fl_X11_109 dX11_planar_148 (by repeat (first | assumption | exact hset_eq _ _ _ | (apply Lay.hd; assumption) | rw [hset_ne _ _ (by omega)])) (by rfl) ?_
    refine n_icmp_ge (pc := 151) (tgt := 156) dX11_planar_151 (by decide) (by omega) (by omega) (fun c => ?_) (fun c => ?_)
    · refine n_inc (pc := 156) dX11_planar_156 rfl (by decide) ?_
      refine e_goto (pc := 159) (tgt := 12) dX11_planar_159 (by decide) ?_
      refine ih (x + 1) (by omega) (by omega) (by omega) h4 hL4 fm4 (fun y y1 y2 => ?_)
      by_cases e : y = x
      · rw [e]; omega
      · exact h0 y y1 (by omega)
    · refine n_iconst (pc := 154) 0 dX11_planar_154 (by decide) ?_
      exact n_iret (pc := 155) dX11_planar_155 rfl ⟨Or.inr ⟨fun q => by have := q x e2 (by omega); omega, rfl⟩, hL4, fm4⟩
theorem c_X11_planar {h : AH} (hL : Lay h m W s) (hk : Wok W) : CI yX11_planar MX11_planar [.ref m] h (fun z h' => ((W.1 = 2 ∧ z = -1) ∨ (W.1 ≠ 2 ∧ isB z (∀ y, 0 < y → y < W.1 ^ W.2.1 → rankE W 3 y = W.2.1))) ∧ Lay h' m W s ∧ FmA m h h') := by
  have b := hk.b
  have pos := hk.pos
  refine CI.ofV (by decide) rfl rfl (by simp [Value.category]) (by exact Nat.le_of_ble_eq_true rfl) (fun sz => ?_)
  refine e_aload_n (pc := 0) dX11_planar_0 rfl rfl ?_
  refine e_get (pc := 1) fl_X11_106 dX11_planar_1 (by repeat (first | assumption | exact hset_eq _ _ _ | (apply Lay.hd; assumption) | rw [hset_ne _ _ (by omega)])) (by rfl) ?_
  refine n_iconst (pc := 4) 2 dX11_planar_4 (by decide) ?_
  refine n_icmp_ne (pc := 5) (tgt := 10) dX11_planar_5 (by decide) (by omega) (by omega) (fun c => ?_) (fun c => ?_)
  · refine n_iconst (pc := 10) 1 dX11_planar_10 (by decide) ?_
    refine e_istore_n (pc := 11) dX11_planar_11 rfl (by decide) ?_
    refine V.post ?_ (l_mpn (hh := h) hk (W.1 ^ W.2.1 - 1) 1 rfl (by omega) (by omega) h hL (FmA.rf _ _) (fun y y1 y2 => absurd y2 (by omega)))
    intro r h' z qq
    obtain ⟨e1, z', e2, e3, e4⟩ := qq
    exact ⟨e1, z', e2, Or.inr ⟨c, e3⟩, e4⟩
  · refine e_iconst (pc := 8) (v := -1) dX11_planar_8 (by decide) ?_
    exact n_iret (pc := 9) dX11_planar_9 rfl ⟨Or.inl ⟨by omega, rfl⟩, hL, FmA.rf _ _⟩
end MP
