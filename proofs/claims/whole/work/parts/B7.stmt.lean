/-! ===== the reference: a statement ===== -/
section ST
variable {h hh : AH} {m p n q len sz : Nat} {s s0 : Ms} {f : Nat → Nat} {W F : Wd} {hf : Bool}
theorem Wok.cb (hk : Wok W) : canBe W.1 W.2.1 := ⟨hk.1, hk.2.1, hk.2.2.1, hk.2.2.2.1⟩
theorem twistW_ok (hkF : Wok F) (c a b : Nat) : Wok (twistW F c a b) := wd_ok hkF.cb (fun t => dg_lt (by have := hkF.b; omega) _ _)
theorem atW_ok2 (hk : Wok W) {a b : Nat} {v : Nat → Nat} (ha : a < W.2.1) (hb : b < W.2.1) (hv : ∀ t, t < W.2.1 → v t < W.1) : Wok (atW W a b W.2.1 v) := by
  obtain ⟨b1, b2, b3, b4, b5⟩ := hk.b
  refine ⟨hk.1, hk.2.1, hk.2.2.1, hk.2.2.2.1, fun t => ?_⟩
  show (if 25 * a + 5 * b ≤ t ∧ t < 25 * a + 5 * b + W.2.1 then v (t - (25 * a + 5 * b)) else W.2.2 t) < W.1 ∧ (¬ inC W.2.1 t → (if 25 * a + 5 * b ≤ t ∧ t < 25 * a + 5 * b + W.2.1 then v (t - (25 * a + 5 * b)) else W.2.2 t) = 0)
  by_cases c : 25 * a + 5 * b ≤ t ∧ t < 25 * a + 5 * b + W.2.1
  · rw [if_pos c]
    exact ⟨hv _ (by omega), fun z => absurd (show inC W.2.1 t from ⟨by omega, by omega, by omega, by omega⟩) z⟩
  · rw [if_neg c]
    exact hk.2.2.2.2 t
/-- what of the numbers stays while a text is read -/
def Stx (s0 s : Ms) (hf : Bool) : Prop := s.1 = s0.1 ∧ s.2.1 = s0.2.1 ∧ s.2.2.2.2.2.2.2.2.2.2.1 = bI hf ∧ s.2.2.2.2.2.2.2.2.2.2.2.2 = s0.2.2.2.2.2.2.2.2.2.2.2.2
theorem Stx.to {s2 : Ms} (a : Stx s0 s hf) (b : Sst s s2) : Stx s0 s2 hf := by
  obtain ⟨b1, b2, b3⟩ := b
  refine ⟨b1.trans a.1, b2.trans a.2.1, ?_, ?_⟩
  · rw [b3]; exact a.2.2.1
  · rw [b3]; exact a.2.2.2
/-- a text read up to i -/
def PsS (hh h : AH) (m : Nat) (W F : Wd) (hf : Bool) (f : Nat → Nat) (len i : Nat) (s0 : Ms) : Prop := ∃ s, Lay h m W s ∧ Wok W ∧ (hf = true → CuA h (m + 8) F ∧ Wok F ∧ F.1 = W.1 ∧ F.2.1 = W.2.1) ∧ TkS s f len i ∧ Stx s0 s hf ∧ s.2.2.2.2.2.2.1 = 0 ∧ FmC m hh h
/-- a fault found -/
def PfS (hh h : AH) (m : Nat) (s0 : Ms) (x : Nat × Nat) : Prop := ∃ p n q s, MH h m p n q s ∧ MRo h m ∧ (s.1 = s0.1 ∧ s.2.1 = s0.2.1 ∧ s.2.2.2.2.2.2.2.2.2.2.2.2 = s0.2.2.2.2.2.2.2.2.2.2.2.2) ∧ Wr s x ∧ FmC m hh h
theorem MRo.told {h2 : AH} (r : MRo h m) (e : ∀ c, c ≠ m → c ≠ m + 10 → h2 c = h c) (t : ∃ g, h2 (m + 10) = some (aI 7 g)) : MRo h2 m := by
  refine r.keep (fun k hk => ?_) (fun a ha => e a (by omega) (by omega))
  have := hk.1
  by_cases c : k = 10
  · subst c; exact Or.inr t
  · exact Or.inl (e _ (by omega) (by omega))
theorem FmC.told {h1 h2 : AH} (a : FmC m h h1) (e : ∀ c, c ≠ m → c ≠ m + 10 → h2 c = h1 c) : FmC m h h2 := fun b hb => (e b (by omega) (by omega)).trans (a b hb)
theorem FtS.pf {h1 h2 : AH} {x : Nat × Nat} (r : MRo h1 m) (fc : FmC m hh h1) (sx : Stx s0 s hf) (q : FtS h1 h2 m p n q s x) : PfS hh h2 m s0 x := by
  obtain ⟨s2, q1, q2, q3, q4, q5⟩ := q
  obtain ⟨d1, d2, d3, d4⟩ := sx.to q2
  exact ⟨_, _, _, s2, q1, r.told q5 q4, ⟨d1, d2, d4⟩, q3, fc.told q5⟩
theorem nF_vl {b : Nat → Nat} {i : Nat} : ∀ {k : Nat}, nF f len i b k = none → ∀ t, t < k → vl f len i t < b t
  | 0, _, t, ht => absurd ht (Nat.not_lt_zero t)
  | k + 1, hn, t, ht => by
    have h1 : nF f len i b k = none := by
      cases c : nF f len i b k with
      | none => rfl
      | some x =>
        have := nF_some c 1
        rw [this] at hn
        cases hn
    rw [nF_s h1] at hn
    by_cases e : t = k
    · subst e; exact (tokF_none hn).2
    · exact nF_vl h1 t (by omega)
abbrev Ms.hfd (s : Ms) (v : Int32) : Ms := (s.1, s.2.1, s.2.2.1, s.2.2.2.1, s.2.2.2.2.1, s.2.2.2.2.2.1, s.2.2.2.2.2.2.1, s.2.2.2.2.2.2.2.1, s.2.2.2.2.2.2.2.2.1, s.2.2.2.2.2.2.2.2.2.1, v, s.2.2.2.2.2.2.2.2.2.2.2)
/-- what a statement does -/
def StR (hh : AH) (m : Nat) (W F : Wd) (hf : Bool) (f : Nat → Nat) (len i k : Nat) (s0 : Ms) (z : Int32) (h' : AH) : Prop := (z = bI true ∧ sF f len i W k = none ∧ PsS hh h' m (sW W F k (vl f len i)) (if k = 5 then polyW W.1 W.2.1 (vl f len i) else F) (if k = 5 then true else hf) f len (nt f len i (scn W k + 1)) s0) ∨ (z = bI false ∧ ∃ x, sF f len i W k = some x ∧ PfS hh h' m s0 x)
theorem l_sm_5 {i : Nat} {x1 : Option Value} (hL : Lay h m W s) (hk : Wok W) (hT : TpM hh m f len) (hs : TkS s f len (nt f len i 1)) (hx : Stx s0 s hf) (hw : s.2.2.2.2.2.2.1 = 0) (hfc : FmC m hh h) : VI MX11_statement sz (StR hh m W F hf f len i 5 s0) h 32 [some (.ref m), x1, none] [] := by
  obtain ⟨b1, b2, b3, b4, b5⟩ := hk.b
  obtain ⟨g0, r0⟩ := hL.2.2.row (k := 10) (isR_d _ (by decide))
  have hM : MH h m W.1 W.2.1 (W.1 ^ W.2.1) s := hL.1
  have hT1 : TpM h m f len := hT.keep (hfc _ (by omega))
  have N0 : NuS h h m W.1 W.2.1 (W.1 ^ W.2.1) s f len i (sbd W 5) 0 := ⟨s, hM, hs, Tkd.rf s, ⟨g0, r0, fun t ht => absurd ht (Nat.not_lt_zero t)⟩, rfl, fun _ _ _ => rfl⟩
  refine e_aload_n (pc := 32) dX11_statement_32 rfl rfl ?_
  refine n_iconst (pc := 33) 0 dX11_statement_33 (by decide) ?_
  refine e_aload_n (pc := 34) dX11_statement_34 rfl rfl ?_
  refine e_get (pc := 35) fl_X11_109 dX11_statement_35 (by repeat (first | assumption | exact hset_eq _ _ _ | (apply Lay.hd; assumption) | rw [hset_ne _ _ (by omega)])) (by rfl) ?_
  refine e_aload_n (pc := 38) dX11_statement_38 rfl rfl ?_
  refine e_get (pc := 39) fl_X11_106 dX11_statement_39 (by repeat (first | assumption | exact hset_eq _ _ _ | (apply Lay.hd; assumption) | rw [hset_ne _ _ (by omega)])) (by rfl) ?_
  refine n_iconst (pc := 42) 1 dX11_statement_42 (by decide) ?_
  refine n_isub (pc := 43) dX11_statement_43 (by omega) ?_
  refine n_V (pc := 44) (c_X11_numbers (a0 := 0) (many := W.2.1) (hi := W.1 - 1) N0 hT1 (by omega) (by omega) (fun t _ _ => show W.1 = W.1 - 1 + 1 by omega)) bX11_numbers q_i_X11_numbers q_s_X11_numbers q_m_X11_232 dX11_statement_44 rfl rfl (by repeat (first | assumption | exact hset_eq _ _ _ | (apply Lay.hd; assumption) | rw [hset_ne _ _ (by omega)])) rfl rfl (by exact Nat.le_of_ble_eq_true rfl) ⟨by decide, by decide⟩ ⟨rfl, rfl, Nat.zero_le _, Nat.zero_le _⟩ (fun z h2 hp => ?_)
  rw [Nat.zero_add] at hp
  rcases hp with ⟨rfl, s2, hM2, hk2, hd2, ⟨g, g1, g2⟩, hn, hf2⟩ | ⟨rfl, x, hn, ft⟩
  · refine n_bif_ne (pc := 47) (tgt := 52) dX11_statement_47 (by decide) (fun _ => ?_) (fun c => by cases c)
    have vb := nF_vl hn
    have r2 : MRo h2 m := hL.2.2.told hf2 ⟨g, g1⟩
    refine e_aload_n (pc := 52) dX11_statement_52 rfl rfl ?_
    refine n_Vv (pc := 53) (c_X11_fields (cs := vl f len i) hM2 r2 ⟨b1, b2⟩ ⟨b3, b4⟩ ⟨g, g1, g2⟩ (fun t ht => vb t ht)) bX11_fields q_i_X11_fields q_s_X11_fields q_m_X11_235 dX11_statement_53 rfl rfl (by repeat (first | assumption | exact hset_eq _ _ _ | (apply Lay.hd; assumption) | rw [hset_ne _ _ (by omega)])) rfl rfl (by exact Nat.le_of_ble_eq_true rfl) ⟨by decide, by decide⟩ ⟨rfl, rfl, Nat.zero_le _, Nat.zero_le _⟩ (fun h3 hp => ?_)
    obtain ⟨c8, c3, ⟨g4, r4⟩, hf3⟩ := hp
    have hM3 : MH h3 m W.1 W.2.1 (W.1 ^ W.2.1) s2 := (hf3 _ (by omega) (by omega) (by omega)).trans hM2
    have hM3' : h3 m = some (ob 10 (mfs m W.1 W.2.1 (W.1 ^ W.2.1) s2)) := hM3
    refine e_aload_n (pc := 56) dX11_statement_56 rfl rfl ?_
    refine n_iconst (pc := 57) 1 dX11_statement_57 (by decide) ?_
    refine e_put (pc := 58) pl_X11_238 dX11_statement_58 (by repeat (first | assumption | exact hset_eq _ _ _ | (apply Lay.hd; assumption) | rw [hset_ne _ _ (by omega)])) (by rfl) (by rfl) (by exact Nat.le_of_ble_eq_true rfl) ?_
    refine n_iconst (pc := 61) 1 dX11_statement_61 (by decide) ?_
    have r3 : MRo h3 m := by
      refine r2.keep (fun k hk => ?_) (fun a ha => hf3 a (by omega) (by omega) (by omega))
      by_cases e8 : k = 8
      · subst e8; obtain ⟨g, g1, -⟩ := c8; exact Or.inr ⟨g, g1⟩
      · by_cases e3 : k = 3
        · subst e3; obtain ⟨g, g1, -⟩ := c3; exact Or.inr ⟨g, g1⟩
        · by_cases e4 : k = 4
          · subst e4; exact Or.inr ⟨g4, r4⟩
          · exact Or.inl (hf3 _ (by omega) (by omega) (by omega))
    obtain ⟨d1, d2, d3, d4⟩ := hx.to hd2.1
    have fc3 : FmC m hh h3 := fun b hb => (hf3 b (by omega) (by omega) (by omega)).trans (((hfc.told hf2) b hb))
    refine n_zret (pc := 62) dX11_statement_62 rfl rfl (Or.inl ⟨rfl, hn, s2.hfd (nI 1), ⟨hset_eq _ _ _, c3.keep (hset_ne _ _ (by omega)), r3.hd⟩, polyW_ok hk.cb, fun _ => ⟨c8.keep (hset_ne _ _ (by omega)), polyW_ok hk.cb, rfl, rfl⟩, hk2, ⟨d1, d2, rfl, d4⟩, hd2.2.trans hw, fun b hb => (hset_ne _ _ (by omega)).trans (fc3 b hb)⟩)
  · refine n_bif_ne (pc := 47) (tgt := 52) dX11_statement_47 (by decide) (fun c => by cases c) (fun _ => ?_)
    refine n_iconst (pc := 50) 0 dX11_statement_50 (by decide) ?_
    exact n_zret (pc := 51) dX11_statement_51 rfl rfl (Or.inr ⟨rfl, x, hn, ft.pf hL.2.2 hfc hx⟩)
theorem l_sm_6 {i : Nat} {x1 : Option Value} (hL : Lay h m W s) (hk : Wok W) (hT : TpM hh m f len) (hs : TkS s f len (nt f len i 1)) (hx : Stx s0 s hf) (hw : s.2.2.2.2.2.2.1 = 0) (hfc : FmC m hh h) (hF : CuA h (m + 8) F ∧ Wok F ∧ F.1 = W.1 ∧ F.2.1 = W.2.1) : VI MX11_statement sz (StR hh m W F hf f len i 6 s0) h 63 [some (.ref m), x1, none] [] := by
  obtain ⟨b1, b2, b3, b4, b5⟩ := hk.b
  have pos := hk.pos
  obtain ⟨hF, hkF, he⟩ := hF
  obtain ⟨g0, r0⟩ := hL.2.2.row (k := 10) (isR_d _ (by decide))
  have hM : MH h m W.1 W.2.1 (W.1 ^ W.2.1) s := hL.1
  have hT1 : TpM h m f len := hT.keep (hfc _ (by omega))
  have N0 : NuS h h m W.1 W.2.1 (W.1 ^ W.2.1) s f len i (sbd W 6) 0 := ⟨s, hM, hs, Tkd.rf s, ⟨g0, r0, fun t ht => absurd ht (Nat.not_lt_zero t)⟩, rfl, fun _ _ _ => rfl⟩
  have no : ∀ x h2, nF f len i (sbd W 6) 3 = some x → FtS h h2 m W.1 W.2.1 (W.1 ^ W.2.1) s x → VI MX11_statement sz (StR hh m W F hf f len i 6 s0) h2 88 [some (.ref m), x1, none] [] := fun x h2 q1 q2 => by
    refine n_iconst (pc := 88) 0 dX11_statement_88 (by decide) ?_
    exact n_zret (pc := 89) dX11_statement_89 rfl rfl (Or.inr ⟨rfl, x, q1, q2.pf hL.2.2 hfc hx⟩)
  have hb6 : ∀ t, 0 ≤ t → t < 0 + 1 → sbd W 6 t = W.1 ^ W.2.1 - 1 + 1 := fun t _ ht => by
    have e0 : t = 0 := by omega
    subst e0
    show W.1 ^ W.2.1 = W.1 ^ W.2.1 - 1 + 1
    omega
  refine e_aload_n (pc := 63) dX11_statement_63 rfl rfl ?_
  refine n_iconst (pc := 64) 0 dX11_statement_64 (by decide) ?_
  refine n_iconst (pc := 65) 1 dX11_statement_65 (by decide) ?_
  refine e_aload_n (pc := 66) dX11_statement_66 rfl rfl ?_
  refine e_get (pc := 67) fl_X11_112 dX11_statement_67 (by repeat (first | assumption | exact hset_eq _ _ _ | (apply Lay.hd; assumption) | rw [hset_ne _ _ (by omega)])) (by rfl) ?_
  refine n_iconst (pc := 70) 1 dX11_statement_70 (by decide) ?_
  refine n_isub (pc := 71) dX11_statement_71 (by omega) ?_
  refine n_V (pc := 72) (c_X11_numbers (a0 := 0) (many := 1) (hi := W.1 ^ W.2.1 - 1) N0 hT1 (by omega) (by omega) hb6) bX11_numbers q_i_X11_numbers q_s_X11_numbers q_m_X11_232 dX11_statement_72 rfl rfl (by repeat (first | assumption | exact hset_eq _ _ _ | (apply Lay.hd; assumption) | rw [hset_ne _ _ (by omega)])) rfl rfl (by exact Nat.le_of_ble_eq_true rfl) ⟨by decide, by decide⟩ ⟨rfl, rfl, Nat.zero_le _, Nat.zero_le _⟩ (fun z h2 hp => ?_)
  rcases hp with ⟨rfl, N1⟩ | ⟨rfl, x, hn, ft⟩
  rotate_left
  · refine n_bif_eq (pc := 75) (tgt := 88) dX11_statement_75 (by decide) (fun _ => ?_) (fun c => by cases c)
    exact no x h2 (nF_some hn 2) ft
  refine n_bif_eq (pc := 75) (tgt := 88) dX11_statement_75 (by decide) (fun c => by cases c) (fun _ => ?_)
  obtain ⟨s1, hM1, -⟩ := id N1
  refine e_aload_n (pc := 78) dX11_statement_78 rfl rfl ?_
  refine n_iconst (pc := 79) 1 dX11_statement_79 (by decide) ?_
  refine n_iconst (pc := 80) 2 dX11_statement_80 (by decide) ?_
  refine n_iconst (pc := 81) 4 dX11_statement_81 (by decide) ?_
  refine n_V (pc := 82) (c_X11_numbers (a0 := 1) (many := 2) (hi := 4) N1 hT1 (by omega) (by omega) (fun t h1 ht => by show (if t = 0 then W.1 ^ W.2.1 else 5) = 5; rw [if_neg (by omega)])) bX11_numbers q_i_X11_numbers q_s_X11_numbers q_m_X11_232 dX11_statement_82 rfl rfl (by repeat (first | assumption | exact hset_eq _ _ _ | (apply Lay.hd; assumption) | rw [hset_ne _ _ (by omega)])) rfl rfl (by exact Nat.le_of_ble_eq_true rfl) ⟨by decide, by decide⟩ ⟨rfl, rfl, Nat.zero_le _, Nat.zero_le _⟩ (fun z h3 hp => ?_)
  rcases hp with ⟨rfl, s2, hM2, hk2, hd2, ⟨g, g1, g2⟩, hn, hf2⟩ | ⟨rfl, x, hn, ft⟩
  rotate_left
  · refine n_bif_ne (pc := 85) (tgt := 90) dX11_statement_85 (by decide) (fun c => by cases c) (fun _ => ?_)
    exact no x h3 hn ft
  refine n_bif_ne (pc := 85) (tgt := 90) dX11_statement_85 (by decide) (fun _ => ?_) (fun c => by cases c)
  have vb := nF_vl hn
  have v0 : vl f len i 0 < W.1 ^ W.2.1 := vb 0 (by decide)
  have v1 : vl f len i 1 < 5 := vb 1 (by decide)
  have v2 : vl f len i 2 < 5 := vb 2 (by decide)
  have z0 := g2 0 (by decide)
  have z1 := g2 1 (by decide)
  have z2 := g2 2 (by decide)
  have r2 : MRo h3 m := hL.2.2.told hf2 ⟨g, g1⟩
  have l2 : Lay h3 m W s2 := ⟨hM2, hL.2.1.keep (hf2 _ (by omega) (by omega)), r2⟩
  have F2 : CuA h3 (m + 8) F := hF.keep (hf2 _ (by omega) (by omega))
  refine e_aload_n (pc := 90) dX11_statement_90 rfl rfl ?_
  refine e_aload_n (pc := 91) dX11_statement_91 rfl rfl ?_
  refine e_get (pc := 92) fl_X11_41 dX11_statement_92 (by repeat (first | assumption | exact hset_eq _ _ _ | (apply Lay.hd; assumption) | rw [hset_ne _ _ (by omega)])) (by rfl) ?_
  refine n_iconst (pc := 95) 0 dX11_statement_95 (by decide) ?_
  refine e_ialdN (pc := 96) 0 dX11_statement_96 (by repeat (first | assumption | exact hset_eq _ _ _ | (apply Lay.hd; assumption) | rw [hset_ne _ _ (by omega)])) (by rfl) (by omega) (by first | decide | omega) ?_
  rw [z0]
  refine e_aload_n (pc := 97) dX11_statement_97 rfl rfl ?_
  refine e_get (pc := 98) fl_X11_41 dX11_statement_98 (by repeat (first | assumption | exact hset_eq _ _ _ | (apply Lay.hd; assumption) | rw [hset_ne _ _ (by omega)])) (by rfl) ?_
  refine n_iconst (pc := 101) 1 dX11_statement_101 (by decide) ?_
  refine e_ialdN (pc := 102) 1 dX11_statement_102 (by repeat (first | assumption | exact hset_eq _ _ _ | (apply Lay.hd; assumption) | rw [hset_ne _ _ (by omega)])) (by rfl) (by omega) (by first | decide | omega) ?_
  rw [z1]
  refine e_aload_n (pc := 103) dX11_statement_103 rfl rfl ?_
  refine e_get (pc := 104) fl_X11_41 dX11_statement_104 (by repeat (first | assumption | exact hset_eq _ _ _ | (apply Lay.hd; assumption) | rw [hset_ne _ _ (by omega)])) (by rfl) ?_
  refine n_iconst (pc := 107) 2 dX11_statement_107 (by decide) ?_
  refine e_ialdN (pc := 108) 2 dX11_statement_108 (by repeat (first | assumption | exact hset_eq _ _ _ | (apply Lay.hd; assumption) | rw [hset_ne _ _ (by omega)])) (by rfl) (by omega) (by first | decide | omega) ?_
  rw [z2]
  refine n_Vv (pc := 109) (c_X11_twists (c := vl f len i 0) (a := vl f len i 1) (b := vl f len i 2) l2 hk F2 hkF he v0 (by omega) (by omega)) bX11_twists q_i_X11_twists q_s_X11_twists q_m_X11_242 dX11_statement_109 rfl rfl (by repeat (first | assumption | exact hset_eq _ _ _ | (apply Lay.hd; assumption) | rw [hset_ne _ _ (by omega)])) rfl rfl (by exact Nat.le_of_ble_eq_true rfl) ⟨by decide, by decide⟩ ⟨rfl, rfl, Nat.zero_le _, Nat.zero_le _⟩ (fun h4 hp => ?_)
  obtain ⟨l4, F4, fr4⟩ := hp
  refine n_iconst (pc := 112) 1 dX11_statement_112 (by decide) ?_
  obtain ⟨d1, d2, d3, d4⟩ := hx.to hd2.1
  refine n_zret (pc := 113) dX11_statement_113 rfl rfl (Or.inl ⟨rfl, hn, s2, l4, twistW_ok hkF _ _ _, fun _ => ⟨F4, hkF, rfl, rfl⟩, hk2, ⟨d1, d2, d3, d4⟩, hd2.2.trans hw, fun b hb => (fr4 b (by omega) (by omega) (by omega) (by omega)).trans ((hfc.told hf2) b hb)⟩)
theorem l_sm_7r {a b : Nat} {v : Nat → Nat} {gt : Nat → Int32} {x1 : Option Value} {Pr : Int32 → AH → Prop} {H : AH} (hk : Wok W) (ha : a < W.2.1) (hb : b < W.2.1) (hM : MH H m W.1 W.2.1 (W.1 ^ W.2.1) s) (ht : H (m + 10) = some (aI 7 gt)) (t0 : gt 0 = nI a) (t1 : gt 1 = nI b) (t2 : ∀ t, t < W.2.1 → gt (2 + t) = nI (v t))
    (kk : ∀ g, (∀ t, t < 125 → g t = nI ((atW W a b W.2.1 v).2.2 t)) → VI MX11_statement sz Pr (hset H (m + 3) (aI 125 g)) 198 [some (.ref m), x1, none] []) :
    ∀ (t k : Nat), t = W.2.1 - k → k ≤ W.2.1 → ∀ g, (∀ t, t < 125 → g t = nI ((atW W a b k v).2.2 t)) → VI MX11_statement sz Pr (hset H (m + 3) (aI 125 g)) 151 [some (.ref m), x1, some (.int (nI k))] [] := by
  obtain ⟨b1, b2, b3, b4, b5⟩ := hk.b
  intro t
  induction t with
  | zero =>
    intro k e1 e2 g hg
    have e' : k = W.2.1 := by omega
    subst e'
    have hM1 : MH (hset H (m + 3) (aI 125 g)) m W.1 W.2.1 (W.1 ^ W.2.1) s := (hset_ne _ _ (by omega)).trans hM
    refine e_iload_n (pc := 151) dX11_statement_151 rfl rfl ?_
    refine e_aload_n (pc := 152) dX11_statement_152 rfl rfl ?_
    refine e_get (pc := 153) fl_X11_109 dX11_statement_153 (by repeat (first | assumption | exact hset_eq _ _ _ | (apply Lay.hd; assumption) | rw [hset_ne _ _ (by omega)])) (by rfl) ?_
    refine n_icmp_ge (pc := 156) (tgt := 198) dX11_statement_156 (by decide) (by omega) (by omega) (fun hb_ => ?_) (fun c => absurd c (by omega))
    refine V.mask [true, true, false] ?_
    exact kk g hg
  | succ t ih =>
    intro k e1 e2 g hg
    have hM1 : MH (hset H (m + 3) (aI 125 g)) m W.1 W.2.1 (W.1 ^ W.2.1) s := (hset_ne _ _ (by omega)).trans hM
    have z := t2 k (by omega)
    refine e_iload_n (pc := 151) dX11_statement_151 rfl rfl ?_
    refine e_aload_n (pc := 152) dX11_statement_152 rfl rfl ?_
    refine e_get (pc := 153) fl_X11_109 dX11_statement_153 (by repeat (first | assumption | exact hset_eq _ _ _ | (apply Lay.hd; assumption) | rw [hset_ne _ _ (by omega)])) (by rfl) ?_
    refine n_icmp_ge (pc := 156) (tgt := 198) dX11_statement_156 (by decide) (by omega) (by omega) (fun c => absurd c (by omega)) (fun hb_ => ?_)
    refine e_aload_n (pc := 159) dX11_statement_159 rfl rfl ?_
    refine e_get (pc := 160) fl_X11_16 dX11_statement_160 (by repeat (first | assumption | exact hset_eq _ _ _ | (apply Lay.hd; assumption) | rw [hset_ne _ _ (by omega)])) (by rfl) ?_
    refine n_bipush (pc := 163) 25 dX11_statement_163 (by decide) ?_
    refine e_aload_n (pc := 165) dX11_statement_165 rfl rfl ?_
    refine e_get (pc := 166) fl_X11_41 dX11_statement_166 (by repeat (first | assumption | exact hset_eq _ _ _ | (apply Lay.hd; assumption) | rw [hset_ne _ _ (by omega)])) (by rfl) ?_
    refine n_iconst (pc := 169) 0 dX11_statement_169 (by decide) ?_
    refine e_ialdN (pc := 170) 0 dX11_statement_170 (by repeat (first | assumption | exact hset_eq _ _ _ | (apply Lay.hd; assumption) | rw [hset_ne _ _ (by omega)])) (by rfl) (by omega) (by first | decide | omega) ?_
    rw [t0]
    refine n_imul (pc := 171) dX11_statement_171 ?_
    refine n_iconst (pc := 172) 5 dX11_statement_172 (by decide) ?_
    refine e_aload_n (pc := 173) dX11_statement_173 rfl rfl ?_
    refine e_get (pc := 174) fl_X11_41 dX11_statement_174 (by repeat (first | assumption | exact hset_eq _ _ _ | (apply Lay.hd; assumption) | rw [hset_ne _ _ (by omega)])) (by rfl) ?_
    refine n_iconst (pc := 177) 1 dX11_statement_177 (by decide) ?_
    refine e_ialdN (pc := 178) 1 dX11_statement_178 (by repeat (first | assumption | exact hset_eq _ _ _ | (apply Lay.hd; assumption) | rw [hset_ne _ _ (by omega)])) (by rfl) (by omega) (by first | decide | omega) ?_
    rw [t1]
    refine n_imul (pc := 179) dX11_statement_179 ?_
    refine n_iadd (pc := 180) dX11_statement_180 ?_
    refine e_iload_n (pc := 181) dX11_statement_181 rfl rfl ?_
    refine n_iadd (pc := 182) dX11_statement_182 ?_
    refine e_aload_n (pc := 183) dX11_statement_183 rfl rfl ?_
    refine e_get (pc := 184) fl_X11_41 dX11_statement_184 (by repeat (first | assumption | exact hset_eq _ _ _ | (apply Lay.hd; assumption) | rw [hset_ne _ _ (by omega)])) (by rfl) ?_
    refine n_iconst (pc := 187) 2 dX11_statement_187 (by decide) ?_
    refine e_iload_n (pc := 188) dX11_statement_188 rfl rfl ?_
    refine n_iadd (pc := 189) dX11_statement_189 ?_
    refine e_ialdN (pc := 190) (2 + k) dX11_statement_190 (by repeat (first | assumption | exact hset_eq _ _ _ | (apply Lay.hd; assumption) | rw [hset_ne _ _ (by omega)])) (by rfl) (by omega) (by first | decide | omega) ?_
    rw [z]
    refine e_iastN (pc := 191) (25 * a + 5 * b + k) dX11_statement_191 (by repeat (first | assumption | exact hset_eq _ _ _ | (apply Lay.hd; assumption) | rw [hset_ne _ _ (by omega)])) (by rfl) (by omega) (by first | decide | omega) ?_
    refine n_inc (pc := 192) dX11_statement_192 rfl (by decide) ?_
    refine e_goto (pc := 195) (tgt := 151) dX11_statement_195 (by decide) ?_
    refine e_heap (hset_hset H (m + 3) _ _) ?_
    refine ih (k + 1) (by omega) (by omega) _ (fun t ht => ?_)
    show _ = nI (if 25 * a + 5 * b ≤ t ∧ t < 25 * a + 5 * b + (k + 1) then v (t - (25 * a + 5 * b)) else W.2.2 t)
    by_cases c : t = 25 * a + 5 * b + k
    · rw [c, pk_us, if_pos (by omega), show 25 * a + 5 * b + k - (25 * a + 5 * b) = k by omega]
    · rw [pk_un c, hg t ht]
      show nI (if 25 * a + 5 * b ≤ t ∧ t < 25 * a + 5 * b + k then v (t - (25 * a + 5 * b)) else W.2.2 t) = _
      by_cases d : 25 * a + 5 * b ≤ t ∧ t < 25 * a + 5 * b + k
      · rw [if_pos d, if_pos (by omega)]
      · rw [if_neg d, if_neg (by omega)]
theorem l_sm_7 {i : Nat} {x1 : Option Value} (hL : Lay h m W s) (hk : Wok W) (hT : TpM hh m f len) (hs : TkS s f len (nt f len i 1)) (hx : Stx s0 s hf) (hw : s.2.2.2.2.2.2.1 = 0) (hfc : FmC m hh h) (hF : hf = true → CuA h (m + 8) F ∧ Wok F ∧ F.1 = W.1 ∧ F.2.1 = W.2.1) : VI MX11_statement sz (StR hh m W F hf f len i 7 s0) h 114 [some (.ref m), x1, none] [] := by
  obtain ⟨b1, b2, b3, b4, b5⟩ := hk.b
  obtain ⟨g0, r0⟩ := hL.2.2.row (k := 10) (isR_d _ (by decide))
  have hM : MH h m W.1 W.2.1 (W.1 ^ W.2.1) s := hL.1
  have hT1 : TpM h m f len := hT.keep (hfc _ (by omega))
  have N0 : NuS h h m W.1 W.2.1 (W.1 ^ W.2.1) s f len i (sbd W 7) 0 := ⟨s, hM, hs, Tkd.rf s, ⟨g0, r0, fun t ht => absurd ht (Nat.not_lt_zero t)⟩, rfl, fun _ _ _ => rfl⟩
  have no : ∀ x h2, nF f len i (sbd W 7) (2 + W.2.1) = some x → FtS h h2 m W.1 W.2.1 (W.1 ^ W.2.1) s x → VI MX11_statement sz (StR hh m W F hf f len i 7 s0) h2 147 [some (.ref m), x1, none] [] := fun x h2 q1 q2 => by
    refine n_iconst (pc := 147) 0 dX11_statement_147 (by decide) ?_
    exact n_zret (pc := 148) dX11_statement_148 rfl rfl (Or.inr ⟨rfl, x, q1, q2.pf hL.2.2 hfc hx⟩)
  refine e_aload_n (pc := 114) dX11_statement_114 rfl rfl ?_
  refine n_iconst (pc := 115) 0 dX11_statement_115 (by decide) ?_
  refine n_iconst (pc := 116) 2 dX11_statement_116 (by decide) ?_
  refine e_aload_n (pc := 117) dX11_statement_117 rfl rfl ?_
  refine e_get (pc := 118) fl_X11_109 dX11_statement_118 (by repeat (first | assumption | exact hset_eq _ _ _ | (apply Lay.hd; assumption) | rw [hset_ne _ _ (by omega)])) (by rfl) ?_
  refine n_iconst (pc := 121) 1 dX11_statement_121 (by decide) ?_
  refine n_isub (pc := 122) dX11_statement_122 (by omega) ?_
  refine n_V (pc := 123) (c_X11_numbers (a0 := 0) (many := 2) (hi := W.2.1 - 1) N0 hT1 (by omega) (by omega) (fun t _ ht => by show (if t < 2 then W.2.1 else W.1) = W.2.1 - 1 + 1; rw [if_pos (by omega)]; omega)) bX11_numbers q_i_X11_numbers q_s_X11_numbers q_m_X11_232 dX11_statement_123 rfl rfl (by repeat (first | assumption | exact hset_eq _ _ _ | (apply Lay.hd; assumption) | rw [hset_ne _ _ (by omega)])) rfl rfl (by exact Nat.le_of_ble_eq_true rfl) ⟨by decide, by decide⟩ ⟨rfl, rfl, Nat.zero_le _, Nat.zero_le _⟩ (fun z h2 hp => ?_)
  rcases hp with ⟨rfl, N1⟩ | ⟨rfl, x, hn, ft⟩
  rotate_left
  · refine n_bif_eq (pc := 126) (tgt := 147) dX11_statement_126 (by decide) (fun _ => ?_) (fun c => by cases c)
    exact no x h2 (nF_some hn W.2.1) ft
  refine n_bif_eq (pc := 126) (tgt := 147) dX11_statement_126 (by decide) (fun c => by cases c) (fun _ => ?_)
  obtain ⟨s1, hM1, -⟩ := id N1
  refine e_aload_n (pc := 129) dX11_statement_129 rfl rfl ?_
  refine n_iconst (pc := 130) 2 dX11_statement_130 (by decide) ?_
  refine e_aload_n (pc := 131) dX11_statement_131 rfl rfl ?_
  refine e_get (pc := 132) fl_X11_109 dX11_statement_132 (by repeat (first | assumption | exact hset_eq _ _ _ | (apply Lay.hd; assumption) | rw [hset_ne _ _ (by omega)])) (by rfl) ?_
  refine e_aload_n (pc := 135) dX11_statement_135 rfl rfl ?_
  refine e_get (pc := 136) fl_X11_106 dX11_statement_136 (by repeat (first | assumption | exact hset_eq _ _ _ | (apply Lay.hd; assumption) | rw [hset_ne _ _ (by omega)])) (by rfl) ?_
  refine n_iconst (pc := 139) 1 dX11_statement_139 (by decide) ?_
  refine n_isub (pc := 140) dX11_statement_140 (by omega) ?_
  refine n_V (pc := 141) (c_X11_numbers (a0 := 2) (many := W.2.1) (hi := W.1 - 1) N1 hT1 (by omega) (by omega) (fun t h1 ht => by show (if t < 2 then W.2.1 else W.1) = W.1 - 1 + 1; rw [if_neg (by omega)]; omega)) bX11_numbers q_i_X11_numbers q_s_X11_numbers q_m_X11_232 dX11_statement_141 rfl rfl (by repeat (first | assumption | exact hset_eq _ _ _ | (apply Lay.hd; assumption) | rw [hset_ne _ _ (by omega)])) rfl rfl (by exact Nat.le_of_ble_eq_true rfl) ⟨by decide, by decide⟩ ⟨rfl, rfl, Nat.zero_le _, Nat.zero_le _⟩ (fun z h3 hp => ?_)
  rcases hp with ⟨rfl, s2, hM2, hk2, hd2, ⟨g, g1, g2⟩, hn, hf2⟩ | ⟨rfl, x, hn, ft⟩
  rotate_left
  · refine n_bif_ne (pc := 144) (tgt := 149) dX11_statement_144 (by decide) (fun c => by cases c) (fun _ => ?_)
    exact no x h3 hn ft
  refine n_bif_ne (pc := 144) (tgt := 149) dX11_statement_144 (by decide) (fun _ => ?_) (fun c => by cases c)
  have vb := nF_vl hn
  have v0 : vl f len i 0 < W.2.1 := vb 0 (by omega)
  have v1 : vl f len i 1 < W.2.1 := vb 1 (by omega)
  have v2 : ∀ t, t < W.2.1 → vl f len i (2 + t) < W.1 := fun t ht => by
    have := vb (2 + t) (by omega)
    have e : sbd W 7 (2 + t) = W.1 := by show (if 2 + t < 2 then W.2.1 else W.1) = W.1; rw [if_neg (by omega)]
    omega
  have r2 : MRo h3 m := hL.2.2.told hf2 ⟨g, g1⟩
  obtain ⟨gc, c1, c2⟩ : CuA h3 (m + 3) W := hL.2.1.keep (hf2 _ (by omega) (by omega))
  refine n_iconst (pc := 149) 0 dX11_statement_149 (by decide) ?_
  refine e_istore_n (pc := 150) dX11_statement_150 rfl (by decide) ?_
  refine e_heap (hset_self c1).symm ?_
  refine l_sm_7r (a := vl f len i 0) (b := vl f len i 1) (v := fun t => vl f len i (2 + t)) hk v0 v1 hM2 g1 (g2 0 (by omega)) (g2 1 (by omega)) (fun t ht => g2 (2 + t) (by omega)) (fun g5 hg5 => ?_) W.2.1 0 rfl (Nat.zero_le _) gc (fun t ht => by rw [atW_0]; exact c2 t ht)
  refine n_iconst (pc := 198) 1 dX11_statement_198 (by decide) ?_
  obtain ⟨d1, d2, d3, d4⟩ := hx.to hd2.1
  have eW : sW W F 7 (vl f len i) = atW W (vl f len i 0) (vl f len i 1) W.2.1 (fun t => vl f len i (2 + t)) := by
    unfold sW
    rw [if_neg (by decide), if_neg (by decide), if_neg (by decide), if_pos rfl]
  have eS : scn W 7 = 2 + W.2.1 := by
    unfold scn
    rw [if_neg (by decide), if_neg (by decide), if_neg (by decide), if_pos rfl]
  have eF : sF f len i W 7 = none := by
    unfold sF
    rw [if_neg (by decide), eS]
    exact hn
  have l5 : Lay (hset h3 (m + 3) (aI 125 g5)) m (atW W (vl f len i 0) (vl f len i 1) W.2.1 (fun t => vl f len i (2 + t))) s2 := ⟨(hset_ne _ _ (by omega)).trans hM2, ⟨g5, hset_eq _ _ _, hg5⟩, r2.set (isR_d 3 (by decide)) rfl⟩
  have hPs : PsS hh (hset h3 (m + 3) (aI 125 g5)) m (atW W (vl f len i 0) (vl f len i 1) W.2.1 (fun t => vl f len i (2 + t))) F hf f len (nt f len i (2 + W.2.1 + 1)) s0 := by
    refine ⟨s2, l5, atW_ok2 hk v0 v1 v2, fun q => ?_, hk2, ⟨d1, d2, d3, d4⟩, hd2.2.trans hw, fun b hb => (hset_ne _ _ (by omega)).trans ((hfc.told hf2) b hb)⟩
    obtain ⟨q1, q2, q3, q4⟩ := hF q
    exact ⟨q1.keep ((hset_ne _ _ (by omega)).trans (hf2 _ (by omega) (by omega))), q2, q3, q4⟩
  refine n_zret (pc := 199) dX11_statement_199 rfl rfl (Or.inl ⟨rfl, eF, ?_⟩)
  rw [eW, eS, if_neg (by decide), if_neg (by decide)]
  exact hPs
theorem l_sm_8c {W3 : Wd} {gf : Nat → Int32} {x1 : Option Value} {Pr : Int32 → AH → Prop} {H : AH} (hM : MH H m p n q s) (hF : H (m + 7) = some (aI 125 gf)) (hg : ∀ t, t < 125 → gf t = nI (W3.2.2 t))
    (kk : ∀ g, (∀ t, t < 125 → g t = nI (W3.2.2 t)) → VI MX11_statement sz Pr (hset H (m + 3) (aI 125 g)) 252 [some (.ref m), x1, none] []) :
    ∀ (t k : Nat), t = 125 - k → k ≤ 125 → ∀ g, (∀ t, t < k → g t = nI (W3.2.2 t)) → VI MX11_statement sz Pr (hset H (m + 3) (aI 125 g)) 228 [some (.ref m), x1, some (.int (nI k))] [] := by
  intro t
  induction t with
  | zero =>
    intro k e1 e2 g h1
    have e' : k = 125 := by omega
    subst e'
    refine e_iload_n (pc := 228) dX11_statement_228 rfl rfl ?_
    refine n_bipush (pc := 229) 125 dX11_statement_229 (by decide) ?_
    refine n_icmp_ge (pc := 231) (tgt := 252) dX11_statement_231 (by decide) (by omega) (by omega) (fun hb_ => ?_) (fun c => absurd c (by omega))
    refine V.mask [true, true, false] ?_
    exact kk g h1
  | succ t ih =>
    intro k e1 e2 g h1
    have hM1 : MH (hset H (m + 3) (aI 125 g)) m p n q s := (hset_ne _ _ (by omega)).trans hM
    have z := hg k (by omega)
    refine e_iload_n (pc := 228) dX11_statement_228 rfl rfl ?_
    refine n_bipush (pc := 229) 125 dX11_statement_229 (by decide) ?_
    refine n_icmp_ge (pc := 231) (tgt := 252) dX11_statement_231 (by decide) (by omega) (by omega) (fun c => absurd c (by omega)) (fun hb_ => ?_)
    refine e_aload_n (pc := 234) dX11_statement_234 rfl rfl ?_
    refine e_get (pc := 235) fl_X11_16 dX11_statement_235 (by repeat (first | assumption | exact hset_eq _ _ _ | (apply Lay.hd; assumption) | rw [hset_ne _ _ (by omega)])) (by rfl) ?_
    refine e_iload_n (pc := 238) dX11_statement_238 rfl rfl ?_
    refine e_aload_n (pc := 239) dX11_statement_239 rfl rfl ?_
    refine e_get (pc := 240) fl_X11_28 dX11_statement_240 (by repeat (first | assumption | exact hset_eq _ _ _ | (apply Lay.hd; assumption) | rw [hset_ne _ _ (by omega)])) (by rfl) ?_
    refine e_iload_n (pc := 243) dX11_statement_243 rfl rfl ?_
    refine e_ialdN (pc := 244) k dX11_statement_244 (by repeat (first | assumption | exact hset_eq _ _ _ | (apply Lay.hd; assumption) | rw [hset_ne _ _ (by omega)])) (by rfl) (by omega) (by first | decide | omega) ?_
    rw [z]
    refine e_iastN (pc := 245) k dX11_statement_245 (by repeat (first | assumption | exact hset_eq _ _ _ | (apply Lay.hd; assumption) | rw [hset_ne _ _ (by omega)])) (by rfl) (by omega) (by first | decide | omega) ?_
    refine n_inc (pc := 246) dX11_statement_246 rfl (by decide) ?_
    refine e_goto (pc := 249) (tgt := 228) dX11_statement_249 (by decide) ?_
    refine e_heap (hset_hset H (m + 3) _ _) ?_
    refine ih (k + 1) (by omega) (by omega) _ (fun t ht => ?_)
    by_cases c : t = k
    · subst c; rw [pk_us]
    · rw [pk_un c]; exact h1 t (by omega)
theorem l_sm_8 {i : Nat} {x1 : Option Value} (hL : Lay h m W s) (hk : Wok W) (hT : TpM hh m f len) (hs : TkS s f len (nt f len i 1)) (hx : Stx s0 s hf) (hw : s.2.2.2.2.2.2.1 = 0) (hfc : FmC m hh h) (hF : hf = true → CuA h (m + 8) F ∧ Wok F ∧ F.1 = W.1 ∧ F.2.1 = W.2.1) : VI MX11_statement sz (StR hh m W F hf f len i 8 s0) h 200 [some (.ref m), x1, none] [] := by
  obtain ⟨b1, b2, b3, b4, b5⟩ := hk.b
  obtain ⟨g0, r0⟩ := hL.2.2.row (k := 10) (isR_d _ (by decide))
  have hM : MH h m W.1 W.2.1 (W.1 ^ W.2.1) s := hL.1
  have hT1 : TpM h m f len := hT.keep (hfc _ (by omega))
  have N0 : NuS h h m W.1 W.2.1 (W.1 ^ W.2.1) s f len i (sbd W 8) 0 := ⟨s, hM, hs, Tkd.rf s, ⟨g0, r0, fun t ht => absurd ht (Nat.not_lt_zero t)⟩, rfl, fun _ _ _ => rfl⟩
  refine e_aload_n (pc := 200) dX11_statement_200 rfl rfl ?_
  refine n_iconst (pc := 201) 0 dX11_statement_201 (by decide) ?_
  refine n_iconst (pc := 202) 1 dX11_statement_202 (by decide) ?_
  refine n_iconst (pc := 203) 5 dX11_statement_203 (by decide) ?_
  refine n_V (pc := 204) (c_X11_numbers (a0 := 0) (many := 1) (hi := 5) N0 hT1 (by omega) (by omega) (fun t _ _ => rfl)) bX11_numbers q_i_X11_numbers q_s_X11_numbers q_m_X11_232 dX11_statement_204 rfl rfl (by repeat (first | assumption | exact hset_eq _ _ _ | (apply Lay.hd; assumption) | rw [hset_ne _ _ (by omega)])) rfl rfl (by exact Nat.le_of_ble_eq_true rfl) ⟨by decide, by decide⟩ ⟨rfl, rfl, Nat.zero_le _, Nat.zero_le _⟩ (fun z h2 hp => ?_)
  rcases hp with ⟨rfl, s2, hM2, hk2, hd2, ⟨g, g1, g2⟩, hn, hf2⟩ | ⟨rfl, x, hn, ft⟩
  · refine n_bif_ne (pc := 207) (tgt := 212) dX11_statement_207 (by decide) (fun _ => ?_) (fun c => by cases c)
    have v0 : vl f len i 0 < 6 := nF_vl hn 0 (by decide)
    have z0 := g2 0 (by decide)
    have r2 : MRo h2 m := hL.2.2.told hf2 ⟨g, g1⟩
    have C2 : CuA h2 (m + 3) W := hL.2.1.keep (hf2 _ (by omega) (by omega))
    obtain ⟨g7, r7⟩ := r2.row (k := 7) (isR_d _ (by decide))
    refine e_aload_n (pc := 212) dX11_statement_212 rfl rfl ?_
    refine e_aload_n (pc := 213) dX11_statement_213 rfl rfl ?_
    refine e_get (pc := 214) fl_X11_16 dX11_statement_214 (by repeat (first | assumption | exact hset_eq _ _ _ | (apply Lay.hd; assumption) | rw [hset_ne _ _ (by omega)])) (by rfl) ?_
    refine e_aload_n (pc := 217) dX11_statement_217 rfl rfl ?_
    refine e_get (pc := 218) fl_X11_41 dX11_statement_218 (by repeat (first | assumption | exact hset_eq _ _ _ | (apply Lay.hd; assumption) | rw [hset_ne _ _ (by omega)])) (by rfl) ?_
    refine n_iconst (pc := 221) 0 dX11_statement_221 (by decide) ?_
    refine e_ialdN (pc := 222) 0 dX11_statement_222 (by repeat (first | assumption | exact hset_eq _ _ _ | (apply Lay.hd; assumption) | rw [hset_ne _ _ (by omega)])) (by rfl) (by omega) (by first | decide | omega) ?_
    rw [z0]
    refine n_Vv (pc := 223) (c_X11_turns hM2 C2 hk (by omega) v0 r7) bX11_turns q_i_X11_turns q_s_X11_turns q_m_X11_150 dX11_statement_223 rfl rfl (by repeat (first | assumption | exact hset_eq _ _ _ | (apply Lay.hd; assumption) | rw [hset_ne _ _ (by omega)])) rfl rfl (by exact Nat.le_of_ble_eq_true rfl) ⟨by decide, by decide⟩ ⟨rfl, rfl, Nat.zero_le _, Nat.zero_le _⟩ (fun h3 hp => ?_)
    obtain ⟨gt, rfl, q3⟩ := hp
    have hM3 : MH (hset h2 (m + 7) (aI 125 gt)) m W.1 W.2.1 (W.1 ^ W.2.1) s2 := (hset_ne _ _ (by omega)).trans hM2
    have r3 : MRo (hset h2 (m + 7) (aI 125 gt)) m := r2.set (isR_d 7 (by decide)) rfl
    obtain ⟨g3, c3⟩ := r3.row (k := 3) (isR_d _ (by decide))
    refine n_iconst (pc := 226) 0 dX11_statement_226 (by decide) ?_
    refine e_istore_n (pc := 227) dX11_statement_227 rfl (by decide) ?_
    refine e_heap (hset_self c3).symm ?_
    refine l_sm_8c (W3 := wturn W (vl f len i 0)) hM3 (hset_eq _ _ _) q3 (fun g5 hg5 => ?_) 125 0 rfl (Nat.zero_le _) g3 (fun t ht => absurd ht (Nat.not_lt_zero t))
    refine n_iconst (pc := 252) 1 dX11_statement_252 (by decide) ?_
    obtain ⟨d1, d2, d3, d4⟩ := hx.to hd2.1
    have far : ∀ b, b ≠ m → b ≠ m + 10 → b ≠ m + 7 → b ≠ m + 3 → hset (hset h2 (m + 7) (aI 125 gt)) (m + 3) (aI 125 g5) b = h b := fun b c1 c2 c3 c4 => (hset_ne _ _ c4).trans ((hset_ne _ _ c3).trans (hf2 b c1 c2))
    refine n_zret (pc := 253) dX11_statement_253 rfl rfl (Or.inl ⟨rfl, hn, s2, ⟨(hset_ne _ _ (by omega)).trans hM3, ⟨g5, hset_eq _ _ _, hg5⟩, r3.set (isR_d 3 (by decide)) rfl⟩, wturn_ok hk _, fun q => ?_, hk2, ⟨d1, d2, d3, d4⟩, hd2.2.trans hw, fun b hb => (far b (by omega) (by omega) (by omega) (by omega)).trans (hfc b hb)⟩)
    obtain ⟨q1, q2, q3, q4⟩ := hF q
    exact ⟨q1.keep (far _ (by omega) (by omega) (by omega) (by omega)), q2, q3, q4⟩
  · refine n_bif_ne (pc := 207) (tgt := 212) dX11_statement_207 (by decide) (fun c => by cases c) (fun _ => ?_)
    refine n_iconst (pc := 210) 0 dX11_statement_210 (by decide) ?_
    exact n_zret (pc := 211) dX11_statement_211 rfl rfl (Or.inr ⟨rfl, x, hn, ft.pf hL.2.2 hfc hx⟩)
theorem c_X11_statement {i k : Nat} (hP : PsS hh h m W F hf f len i s0) (hT : TpM hh m f len) (hk5 : 5 ≤ k ∧ k ≤ 8) (h6 : k = 6 → hf = true) : CI yX11_statement MX11_statement [.ref m, .int (nI k)] h (fun z h' => StR hh m W F hf f len i k s0 z h') := by
  obtain ⟨s, hL, hk, hF, hs, hx, hw, hfc⟩ := hP
  obtain ⟨t1, t2, t3, t4, t5, t6⟩ := id hs
  have hT1 : TpM h m f len := hT.keep (hfc _ (by omega))
  have tb := tE_b (f := f) t2
  refine CI.ofV (by decide) rfl rfl (by simp [Value.category]) (by exact Nat.le_of_ble_eq_true rfl) (fun sz => ?_)
  refine e_aload_n (pc := 0) dX11_statement_0 rfl rfl ?_
  refine n_Vv (pc := 1) (c_X11_next0 hL.1 hT1 t1 t3 tb.2.2.1) bX11_next0 q_i_X11_next0 q_s_X11_next0 q_m_X11_216 dX11_statement_1 rfl rfl (by repeat (first | assumption | exact hset_eq _ _ _ | (apply Lay.hd; assumption) | rw [hset_ne _ _ (by omega)])) rfl rfl (by exact Nat.le_of_ble_eq_true rfl) ⟨by decide, by decide⟩ ⟨rfl, rfl, Nat.zero_le _, Nat.zero_le _⟩ (fun h2 hp => ?_)
  obtain ⟨v, rfl, hv⟩ := hp
  have s2 : TkS (s.tk (tE f len (tE f len i)) (tK f len (tE f len i)) (tS f len (tE f len i)) v) f len (nt f len i 1) := ⟨t1, tb.2.2.1, rfl, rfl, rfl, hv⟩
  have l2 : Lay (hset h m (oM m W.1 W.2.1 (W.1 ^ W.2.1) (s.tk (tE f len (tE f len i)) (tK f len (tE f len i)) (tS f len (tE f len i)) v))) m W (s.tk (tE f len (tE f len i)) (tK f len (tE f len i)) (tS f len (tE f len i)) v) := ⟨hset_eq _ _ _, hL.2.1.keep (hset_ne _ _ (by omega)), hL.2.2.hd⟩
  have x2 : Stx s0 (s.tk (tE f len (tE f len i)) (tK f len (tE f len i)) (tS f len (tE f len i)) v) hf := hx
  have w2 : (s.tk (tE f len (tE f len i)) (tK f len (tE f len i)) (tS f len (tE f len i)) v).2.2.2.2.2.2.1 = 0 := hw
  have f2 : FmC m hh (hset h m (oM m W.1 W.2.1 (W.1 ^ W.2.1) (s.tk (tE f len (tE f len i)) (tK f len (tE f len i)) (tS f len (tE f len i)) v))) := fun b hb => (hset_ne _ _ (by omega)).trans (hfc b hb)
  have F2 : hf = true → CuA (hset h m (oM m W.1 W.2.1 (W.1 ^ W.2.1) (s.tk (tE f len (tE f len i)) (tK f len (tE f len i)) (tS f len (tE f len i)) v))) (m + 8) F ∧ Wok F ∧ F.1 = W.1 ∧ F.2.1 = W.2.1 := fun q => by
    obtain ⟨q1, q2, q3, q4⟩ := hF q
    exact ⟨q1.keep (hset_ne _ _ (by omega)), q2, q3, q4⟩
  generalize s.tk (tE f len (tE f len i)) (tK f len (tE f len i)) (tS f len (tE f len i)) v = s3 at s2 l2 x2 w2 f2 F2 ⊢
  generalize hset h m (oM m W.1 W.2.1 (W.1 ^ W.2.1) s3) = h3 at l2 f2 F2 ⊢
  refine e_iload_n (pc := 4) dX11_statement_4 rfl rfl ?_
  have e : k = 5 ∨ k = 6 ∨ k = 7 ∨ k = 8 := by omega
  rcases e with rfl | rfl | rfl | rfl
  · refine e_switchIn (pc := 5) (off := 27) (tgt := 32) dX11_statement_5 (by decide) (by decide) (by decide) (by decide) ?_
    exact l_sm_5 l2 hk hT s2 x2 w2 f2
  · refine e_switchIn (pc := 5) (off := 58) (tgt := 63) dX11_statement_5 (by decide) (by decide) (by decide) (by decide) ?_
    exact l_sm_6 l2 hk hT s2 x2 w2 f2 (F2 (h6 rfl))
  · refine e_switchIn (pc := 5) (off := 109) (tgt := 114) dX11_statement_5 (by decide) (by decide) (by decide) (by decide) ?_
    exact l_sm_7 l2 hk hT s2 x2 w2 f2 F2
  · refine e_switchOut (pc := 5) (tgt := 200) dX11_statement_5 (Or.inr (by decide)) (by decide) ?_
    exact l_sm_8 l2 hk hT s2 x2 w2 f2 F2
end ST
