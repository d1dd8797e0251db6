/-! ===== Search: a basis is chosen, its pairs are found ===== -/
section CB2
variable {h : AH} {B o : Nat} {W : Wd} {f : Int32} {b : Nat → Nat} {cnt : Nat} {fx : Int32}
theorem SumT.keep {h2 : AH} (q : SumT h B W) (e : h2 (B + 1) = h (B + 1)) : SumT h2 B W := by
  obtain ⟨g, q1, q2⟩ := q
  exact ⟨g, e.trans q1, q2⟩
theorem WAt.fb {h2 : AH} (q : WAt h o W f) (e : ∀ a, (a < B + 5 ∨ B + 12 ≤ a) → h2 a = h a) (d : o + 3 ≤ B ∨ B + 14 ≤ o) : WAt h2 o W f :=
  q.kept (e _ (by omega)) (e _ (by omega)) (by obtain ⟨-, -, g, q⟩ := q; exact ⟨g, (e _ (by omega)).trans q⟩)
theorem l_chp_i {sz l : Nat} {hh : AH} {Pr : Int32 → AH → Prop} (hk : Wok W) (hq : W.1 ^ W.2.1 ≤ 27) (hl : l < W.2.1) (d : o + 3 ≤ B ∨ B + 14 ≤ o)
    (kf : ∀ h2 x, BAt h2 B W (cput b l x) (l + 1) → WAt h2 o W f → Fb B o hh h2 → Pr 1 h2)
    (kk : ∀ h1, BAt h1 B W b l → WAt h1 o W f → Fb B o hh h1 → Pr 0 h1) :
    ∀ (n i : Nat), n = l - i → i ≤ l → ∀ h1, BAt h1 B W b l → SHd h1 B W.1 W.2.1 (W.1 ^ W.2.1) cnt fx → SumT h1 B W → WAt h1 o W f → Fb B o hh h1 → VI MX5_chooseProduct sz Pr h1 2 [some (.ref B), some (.ref o), some (.int (nI l)), some (.int (nI i)), none, none] [] := by
  obtain ⟨b1, b2, b3, b4, b5⟩ := hk.b
  intro n
  induction n with
  | zero =>
    intro i e1 e2 h1 hA hH hS hW he
    have e' : i = l := by omega
    subst e'
    refine e_iload_n (pc := 2) dX5_chooseProduct_2 rfl rfl ?_
    refine e_iload_n (pc := 3) dX5_chooseProduct_3 rfl rfl ?_
    refine n_icmp_ge (pc := 4) (tgt := 82) dX5_chooseProduct_4 (by decide) (by omega) (by omega) (fun hb_ => ?_) (fun c => absurd c (by omega))
    refine n_iconst (pc := 82) 0 dX5_chooseProduct_82 (by decide) ?_
    exact n_zret (pc := 83) dX5_chooseProduct_83 rfl rfl (kk h1 hA hW he)
  | succ n ih =>
    intro i e1 e2 h1 hA hH hS hW he
    refine e_iload_n (pc := 2) dX5_chooseProduct_2 rfl rfl ?_
    refine e_iload_n (pc := 3) dX5_chooseProduct_3 rfl rfl ?_
    refine n_icmp_ge (pc := 4) (tgt := 82) dX5_chooseProduct_4 (by decide) (by omega) (by omega) (fun c => absurd c (by omega)) (fun hb_ => ?_)
    refine n_iconst (pc := 7) 0 dX5_chooseProduct_7 (by decide) ?_
    refine e_istore (pc := 8) dX5_chooseProduct_8 (by decide) ?_
    refine l_chp_j (hh := hh) (cnt := cnt) (fx := fx) hk hq hl hb_ d kf (fun h3 hA3 hH3 hS3 hW3 he3 => ?_) l 0 rfl (Nat.zero_le _) h1 hA hH hS hW he
    refine n_inc (pc := 76) dX5_chooseProduct_76 rfl (by decide) ?_
    refine e_goto (pc := 79) (tgt := 2) dX5_chooseProduct_79 (by decide) ?_
    exact ih (i + 1) (by omega) (by omega) h3 hA3 hH3 hS3 hW3 he3
theorem c_X5_chooseProduct {l : Nat} (hA : BAt h B W b l) (hH : SHd h B W.1 W.2.1 (W.1 ^ W.2.1) cnt fx) (hS : SumT h B W) (hW : WAt h o W f) (hk : Wok W) (hq : W.1 ^ W.2.1 ≤ 27) (hl : l < W.2.1) (d : o + 3 ≤ B ∨ B + 14 ≤ o) : CI yX5_chooseProduct MX5_chooseProduct [.ref B, .ref o, .int (nI l)] h (fun z h2 => ((z = 1 ∧ ∃ x, BAt h2 B W (cput b l x) (l + 1)) ∨ (z = 0 ∧ BAt h2 B W b l)) ∧ WAt h2 o W f ∧ Fb B o h h2) := by
  refine CI.ofV (by decide) rfl rfl (by simp [Value.category]) (by exact Nat.le_of_ble_eq_true rfl) (fun sz => ?_)
  refine n_iconst (pc := 0) 0 dX5_chooseProduct_0 (by decide) ?_
  refine e_istore_n (pc := 1) dX5_chooseProduct_1 rfl (by decide) ?_
  exact l_chp_i hk hq hl d (fun h2 x q1 q2 q3 => ⟨Or.inl ⟨rfl, x, q1⟩, q2, q3⟩) (fun h2 q1 q2 q3 => ⟨Or.inr ⟨rfl, q1⟩, q2, q3⟩) l 0 rfl (Nat.zero_le _) h hA hH hS hW (Fb.rf _ _ h)
theorem base_free (hk : Wok W) {gl gr : Nat → Int32} {l : Nat} (hl : l < W.2.1) (hM : BMath W b gl gr l) (h : ∀ i, i < W.2.1 → ∃ t, t < W.1 ^ l ∧ lin W.1 W.2.1 b t = W.1 ^ i) : False := by
  obtain ⟨b1, b2, b3, b4, b5⟩ := hk.b
  have hlt : W.1 ^ l < W.1 ^ W.2.1 := Nat.pow_lt_pow_right (by omega) hl
  have hc : ∀ i, ∃ t, i < W.2.1 → t < W.1 ^ l ∧ lin W.1 W.2.1 b t = W.1 ^ i := fun i => by
    by_cases c : i < W.2.1
    · obtain ⟨t, ht⟩ := h i c; exact ⟨t, fun _ => ht⟩
    · exact ⟨0, fun q => absurd q c⟩
  have hcc := Classical.axiomOfChoice hc
  obtain ⟨cc, hcc⟩ := hcc
  have key : ∀ x, x < W.1 ^ W.2.1 → lin W.1 W.2.1 cc x < W.1 ^ l ∧ lin W.1 W.2.1 b (lin W.1 W.2.1 cc x) = x := fun x hx => by
    refine ⟨lin_lt (by omega) (by omega) (fun i hi => (hcc i hi).1), ?_⟩
    rw [lin_lin (by omega) b4, lin_congr (cs := fun i => W.1 ^ i) (fun i hi => (hcc i hi).2), lin_id (by omega) b4 hx]
  have : cn (W.1 ^ W.2.1) (fun _ => true) ≤ cn (W.1 ^ l) (fun _ => true) := cn_inj _ _ _ _ (lin W.1 W.2.1 cc) (fun x hx _ => ⟨(key x hx).1, rfl⟩) (fun x y hx hy _ _ e => by rw [← (key x hx).2, ← (key y hy).2, e])
  have e : ∀ N, cn N (fun _ => true) = N := fun N => by
    induction N with
    | zero => rfl
    | succ N ih => show cn N _ + (if true = true then 1 else 0) = N + 1; rw [ih, if_pos rfl]
  rw [e, e] at this
  omega
theorem l_chb {sz l : Nat} {hh : AH} (hk : Wok W) (hq : W.1 ^ W.2.1 ≤ 27) (hl : l < W.2.1) (d : o + 3 ≤ B ∨ B + 14 ≤ o) {gl gr : Nat → Int32} (hM : BMath W b gl gr l) (hg1 : gl l = -1) (hg2 : gr l = -1) (hE : EnA h B W b l) (hR : SRo h B) (hH : SHd h B W.1 W.2.1 (W.1 ^ W.2.1) cnt fx) (hS : SumT h B W) (hW : WAt h o W f) (he : Fb B o hh h) (h8 : h (B + 8) = some (aI 5 gl)) (h9 : h (B + 9) = some (aI 5 gr)) :
    ∀ (n i : Nat), n = W.2.1 - i → i ≤ W.2.1 → (∀ j, j < i → ∃ t, t < W.1 ^ l ∧ lin W.1 W.2.1 b t = W.1 ^ j) →
    VV MX5_chooseBase sz (fun h2 => (∃ x, BAt h2 B W (cput b l x) (l + 1)) ∧ WAt h2 o W f ∧ Fb B o hh h2) h 16 [some (.ref B), some (.ref o), some (.int (nI l)), some (.int (nI i)), none] [] := by
  obtain ⟨b1, b2, b3, b4, b5⟩ := hk.b
  have hpl : W.1 ^ l ≤ W.1 ^ W.2.1 := Nat.pow_le_pow_right (by omega) (by omega)
  obtain ⟨w0, -⟩ := id hW
  intro n
  induction n with
  | zero =>
    intro i e1 e2 hi
    have e' : i = W.2.1 := by omega
    subst e'
    exact (base_free hk hl hM hi).elim
  | succ n ih =>
    intro i e1 e2 hi
    have hin : i < W.2.1 := by omega
    have qi := pow_q hk hin
    obtain ⟨c2, c3, gc, c4, c5⟩ := id hE
    refine e_iload_n (pc := 16) dX5_chooseBase_16 rfl rfl ?_
    refine e_aload_n (pc := 17) dX5_chooseBase_17 rfl rfl ?_
    refine e_get (pc := 18) fl_X5_15 dX5_chooseBase_18 (by repeat (first | assumption | exact hset_eq _ _ _ | rw [hset_ne _ _ (by omega)])) (by rfl) ?_
    refine n_icmp_ge (pc := 21) (tgt := 56) dX5_chooseBase_21 (by decide) (by omega) (by omega) (fun c => absurd c (by omega)) (fun hb_ => ?_)
    refine e_aload_n (pc := 24) dX5_chooseBase_24 rfl rfl ?_
    refine e_iload_n (pc := 25) dX5_chooseBase_25 rfl rfl ?_
    refine n_VP (pc := 26) (c_X9_base hW hk (show i ≤ 5 by omega)) bX9_base q_i_X9_base q_s_X9_base q_m_X5_113 dX5_chooseBase_26 rfl rfl (by repeat (first | assumption | exact hset_eq _ _ _ | rw [hset_ne _ _ (by omega)])) rfl rfl (by exact Nat.le_of_ble_eq_true rfl) ⟨by decide, by decide⟩ ⟨rfl, rfl, Nat.zero_le _, Nat.zero_le _⟩ ?_
    refine e_istore (pc := 29) dX5_chooseBase_29 (by decide) ?_
    refine e_aload_n (pc := 31) dX5_chooseBase_31 rfl rfl ?_
    refine e_get (pc := 32) fl_X5_43 dX5_chooseBase_32 (by repeat (first | assumption | exact hset_eq _ _ _ | rw [hset_ne _ _ (by omega)])) (by rfl) ?_
    refine e_iload (pc := 35) dX5_chooseBase_35 rfl ?_
    refine e_ialdN (pc := 37) _ dX5_chooseBase_37 (by repeat (first | assumption | exact hset_eq _ _ _ | rw [hset_ne _ _ (by omega)])) (by rfl) (by omega) (by first | decide | omega) ?_
    rcases c5 _ qi with ⟨t, t1, t2, t3⟩ | ⟨t1, t2⟩
    · rw [t3]
      refine e_iconst (pc := 38) (v := -1) dX5_chooseBase_38 (by decide) ?_
      refine e_icmp_ne (pc := 39) (tgt := 50) dX5_chooseBase_39 (by decide) (fun _ => ?_) (fun q => absurd q (nI_ne (by omega)))
      refine n_inc (pc := 50) dX5_chooseBase_50 rfl (by decide) ?_
      refine e_goto (pc := 53) (tgt := 16) dX5_chooseBase_53 (by decide) ?_
      refine V.mask [true, true, true, true, false] ?_
      refine ih (i + 1) (by omega) (by omega) (fun j hj => ?_)
      by_cases e : j = i
      · subst e; exact ⟨t, t1, t2⟩
      · exact hi j (by omega)
    · rw [t2]
      refine e_iconst (pc := 38) (v := -1) dX5_chooseBase_38 (by decide) ?_
      refine e_icmp_ne (pc := 39) (tgt := 50) dX5_chooseBase_39 (by decide) (fun q => absurd rfl q) (fun _ => ?_)
      refine e_aload_n (pc := 42) dX5_chooseBase_42 rfl rfl ?_
      refine e_iload_n (pc := 43) dX5_chooseBase_43 rfl rfl ?_
      refine e_iload (pc := 44) dX5_chooseBase_44 rfl ?_
      refine n_Vv (pc := 46) (c_X5_enlarge hR hH hS hk hq hl qi hM.1 hE) bX5_enlarge q_i_X5_enlarge q_s_X5_enlarge q_m_X5_109 dX5_chooseBase_46 rfl rfl (by repeat (first | assumption | exact hset_eq _ _ _ | rw [hset_ne _ _ (by omega)])) rfl rfl (by exact Nat.le_of_ble_eq_true rfl) ⟨by decide, by decide⟩ ⟨rfl, rfl, Nat.zero_le _, Nat.zero_le _⟩ (fun h3 hp => ?_)
      obtain ⟨p3, p4, p5⟩ := hp
      have h0 : l = 0 → W.1 ^ i = 1 := fun q => by
        subst q
        by_cases e : i = 0
        · rw [e]; rfl
        · obtain ⟨t, ht1, ht2⟩ := hi 0 (by omega)
          have t0 : t = 0 := by
            have : t < 1 := ht1
            omega
          rw [t0, lin_0] at ht2
          have := Nat.pow_pos (n := 0) (show 0 < W.1 by omega)
          omega
      exact n_vret (pc := 49) dX5_chooseBase_49 rfl ⟨⟨W.1 ^ i, p3, p4, gl, gr, (p5 _ (by omega)).trans h8, (p5 _ (by omega)).trans h9, hM.next hk qi t1 h0 (fun t ht => ⟨rfl, rfl⟩) (Or.inl ⟨hg1, hg2⟩)⟩, hW.kept (p5 _ (by omega)) (p5 _ (by omega)) (by obtain ⟨-, -, g, q⟩ := hW; exact ⟨g, (p5 _ (by omega)).trans q⟩), he.tr (fun a x y => p5 a (by omega))⟩
theorem c_X5_chooseBase {l : Nat} (hA : BAt h B W b l) (hH : SHd h B W.1 W.2.1 (W.1 ^ W.2.1) cnt fx) (hS : SumT h B W) (hW : WAt h o W f) (hk : Wok W) (hq : W.1 ^ W.2.1 ≤ 27) (hl : l < W.2.1) (d : o + 3 ≤ B ∨ B + 14 ≤ o) : CV yX5_chooseBase MX5_chooseBase [.ref B, .ref o, .int (nI l)] h (fun h2 => (∃ x, BAt h2 B W (cput b l x) (l + 1)) ∧ WAt h2 o W f ∧ Fb B o h h2) := by
  obtain ⟨b1, b2, b3, b4, b5⟩ := hk.b
  obtain ⟨c1, c2, gl, gr, c6, c7, hM⟩ := hA
  refine CV.ofV (by decide) rfl rfl (by simp [Value.category]) (by exact Nat.le_of_ble_eq_true rfl) (fun sz => ?_)
  refine e_aload_n (pc := 0) dX5_chooseBase_0 rfl rfl ?_
  refine e_get (pc := 1) fl_X5_49 dX5_chooseBase_1 (by repeat (first | assumption | exact hset_eq _ _ _ | rw [hset_ne _ _ (by omega)])) (by rfl) ?_
  refine e_iload_n (pc := 4) dX5_chooseBase_4 rfl rfl ?_
  refine e_iconst (pc := 5) (v := -1) dX5_chooseBase_5 (by decide) ?_
  refine e_iastN (pc := 6) _ dX5_chooseBase_6 (by repeat (first | assumption | exact hset_eq _ _ _ | rw [hset_ne _ _ (by omega)])) (by rfl) (by omega) (by first | decide | omega) ?_
  refine e_aload_n (pc := 7) dX5_chooseBase_7 rfl rfl ?_
  refine e_get (pc := 8) fl_X5_52 dX5_chooseBase_8 (by repeat (first | assumption | exact hset_eq _ _ _ | rw [hset_ne _ _ (by omega)])) (by rfl) ?_
  refine e_iload_n (pc := 11) dX5_chooseBase_11 rfl rfl ?_
  refine e_iconst (pc := 12) (v := -1) dX5_chooseBase_12 (by decide) ?_
  refine e_iastN (pc := 13) _ dX5_chooseBase_13 (by repeat (first | assumption | exact hset_eq _ _ _ | rw [hset_ne _ _ (by omega)])) (by rfl) (by omega) (by first | decide | omega) ?_
  refine n_iconst (pc := 14) 0 dX5_chooseBase_14 (by decide) ?_
  refine e_istore_n (pc := 15) dX5_chooseBase_15 rfl (by decide) ?_
  refine l_chb (gl := upd gl l (-1)) (gr := upd gr l (-1)) hk hq hl d ⟨hM.1, hM.2.1, hM.2.2.1, fun t ht => ?_⟩ (by rw [pk_us]) (by rw [pk_us]) ((c2.far (fun a x y => hset_ne _ _ (by omega))).far (fun a x y => hset_ne _ _ (by omega))) ((c1.set rfl).set rfl) (((hset_ne _ _ (by omega)).trans (hset_ne _ _ (by omega))).trans hH) ((hS.keep (hset_ne _ _ (by omega))).keep (hset_ne _ _ (by omega))) ((hW.hs (by omega)).hs (by omega)) (((Fb.rf _ _ h).set (by omega)).set (by omega)) ((hset_ne _ _ (by omega)).trans (hset_eq _ _ _)) (hset_eq _ _ _) W.2.1 0 rfl (Nat.zero_le _) (fun j hj => absurd hj (Nat.not_lt_zero j))
  rw [pk_un (by omega), pk_un (by omega)]
  exact hM.2.2.2 t ht
theorem l_cb_l {sz : Nat} {hh : AH} (hk : Wok W) (hq : W.1 ^ W.2.1 ≤ 27) (d : o + 3 ≤ B ∨ B + 14 ≤ o) :
    ∀ (n l : Nat), n = W.2.1 - l → l ≤ W.2.1 → ∀ h1 b, BAt h1 B W b l → SHd h1 B W.1 W.2.1 (W.1 ^ W.2.1) cnt fx → SumT h1 B W → WAt h1 o W f → Fb B o hh h1 →
    VV MX5_chooseBasis sz (fun h2 => (∃ b, BAt h2 B W b W.2.1) ∧ WAt h2 o W f ∧ Fb B o hh h2) h1 39 [some (.ref B), some (.ref o), some (.int (nI l))] [] := by
  obtain ⟨b1, b2, b3, b4, b5⟩ := hk.b
  intro n
  induction n with
  | zero =>
    intro l e1 e2 h1 b hA hH hS hW he
    have e' : l = W.2.1 := by omega
    subst e'
    refine e_iload_n (pc := 39) dX5_chooseBasis_39 rfl rfl ?_
    refine e_aload_n (pc := 40) dX5_chooseBasis_40 rfl rfl ?_
    refine e_get (pc := 41) fl_X5_15 dX5_chooseBasis_41 (by repeat (first | assumption | exact hset_eq _ _ _ | rw [hset_ne _ _ (by omega)])) (by rfl) ?_
    refine n_icmp_ge (pc := 44) (tgt := 68) dX5_chooseBasis_44 (by decide) (by omega) (by omega) (fun hb_ => ?_) (fun c => absurd c (by omega))
    exact n_vret (pc := 68) dX5_chooseBasis_68 rfl ⟨⟨b, hA⟩, hW, he⟩
  | succ n ih =>
    intro l e1 e2 h1 b hA hH hS hW he
    have hl : l < W.2.1 := by omega
    refine e_iload_n (pc := 39) dX5_chooseBasis_39 rfl rfl ?_
    refine e_aload_n (pc := 40) dX5_chooseBasis_40 rfl rfl ?_
    refine e_get (pc := 41) fl_X5_15 dX5_chooseBasis_41 (by repeat (first | assumption | exact hset_eq _ _ _ | rw [hset_ne _ _ (by omega)])) (by rfl) ?_
    refine n_icmp_ge (pc := 44) (tgt := 68) dX5_chooseBasis_44 (by decide) (by omega) (by omega) (fun c => absurd c (by omega)) (fun hb_ => ?_)
    refine e_aload_n (pc := 47) dX5_chooseBasis_47 rfl rfl ?_
    refine e_aload_n (pc := 48) dX5_chooseBasis_48 rfl rfl ?_
    refine e_iload_n (pc := 49) dX5_chooseBasis_49 rfl rfl ?_
    refine n_V (pc := 50) (c_X5_chooseProduct hA hH hS hW hk hq hl d) bX5_chooseProduct q_i_X5_chooseProduct q_s_X5_chooseProduct q_m_X5_101 dX5_chooseBasis_50 rfl rfl (by repeat (first | assumption | exact hset_eq _ _ _ | rw [hset_ne _ _ (by omega)])) rfl rfl (by exact Nat.le_of_ble_eq_true rfl) ⟨by decide, by decide⟩ ⟨rfl, rfl, Nat.zero_le _, Nat.zero_le _⟩ (fun z h2 hp => ?_)
    obtain ⟨hz, p1, p2⟩ := hp
    have hH2 : SHd h2 B W.1 W.2.1 (W.1 ^ W.2.1) cnt fx := (p2 _ (by omega) (by omega)).trans hH
    have hS2 := hS.keep (p2 _ (by omega) (by omega))
    rcases hz with ⟨rfl, x, hx⟩ | ⟨rfl, hx⟩
    · refine e_if_ne (pc := 53) (tgt := 62) dX5_chooseBasis_53 (by decide) (fun _ => ?_) (fun q => absurd q (by decide))
      refine n_inc (pc := 62) dX5_chooseBasis_62 rfl (by decide) ?_
      refine e_goto (pc := 65) (tgt := 39) dX5_chooseBasis_65 (by decide) ?_
      exact ih (l + 1) (by omega) (by omega) h2 _ hx hH2 hS2 p1 (he.tr p2)
    · refine e_if_ne (pc := 53) (tgt := 62) dX5_chooseBasis_53 (by decide) (fun q => absurd rfl q) (fun _ => ?_)
      refine e_aload_n (pc := 56) dX5_chooseBasis_56 rfl rfl ?_
      refine e_aload_n (pc := 57) dX5_chooseBasis_57 rfl rfl ?_
      refine e_iload_n (pc := 58) dX5_chooseBasis_58 rfl rfl ?_
      refine n_Vv (pc := 59) (c_X5_chooseBase hx hH2 hS2 p1 hk hq hl d) bX5_chooseBase q_i_X5_chooseBase q_s_X5_chooseBase q_m_X5_105 dX5_chooseBasis_59 rfl rfl (by repeat (first | assumption | exact hset_eq _ _ _ | rw [hset_ne _ _ (by omega)])) rfl rfl (by exact Nat.le_of_ble_eq_true rfl) ⟨by decide, by decide⟩ ⟨rfl, rfl, Nat.zero_le _, Nat.zero_le _⟩ (fun h3 hp => ?_)
      obtain ⟨⟨x, q1⟩, q2, q3⟩ := hp
      refine n_inc (pc := 62) dX5_chooseBasis_62 rfl (by decide) ?_
      refine e_goto (pc := 65) (tgt := 39) dX5_chooseBasis_65 (by decide) ?_
      exact ih (l + 1) (by omega) (by omega) h3 _ q1 ((q3 _ (by omega) (by omega)).trans hH2) (hS2.keep (q3 _ (by omega) (by omega))) q2 (he.tr (p2.tr q3))
theorem l_cb_x {sz : Nat} {hh : AH} {Pr : AH → Prop} (hk : Wok W) (hq : W.1 ^ W.2.1 ≤ 27) (d : o + 3 ≤ B ∨ B + 14 ≤ o)
    (kk : ∀ h1, SRo h1 B → (∃ g, h1 (B + 6) = some (aI 27 g) ∧ ∀ x, x < W.1 ^ W.2.1 → g x = -1) → SHd h1 B W.1 W.2.1 (W.1 ^ W.2.1) cnt fx → SumT h1 B W → WAt h1 o W f → Fb B o hh h1 → VV MX5_chooseBasis sz Pr h1 23 [some (.ref B), some (.ref o), none] []) :
    ∀ (n x : Nat), n = W.1 ^ W.2.1 - x → x ≤ W.1 ^ W.2.1 → ∀ h1, SRo h1 B → (∃ g, h1 (B + 6) = some (aI 27 g) ∧ ∀ t, t < x → g t = -1) → SHd h1 B W.1 W.2.1 (W.1 ^ W.2.1) cnt fx → SumT h1 B W → WAt h1 o W f → Fb B o hh h1 →
    VV MX5_chooseBasis sz Pr h1 2 [some (.ref B), some (.ref o), some (.int (nI x))] [] := by
  obtain ⟨b1, b2, b3, b4, b5⟩ := hk.b
  intro n
  induction n with
  | zero =>
    intro x e1 e2 h1 hR hG hH hS hW he
    have e' : x = W.1 ^ W.2.1 := by omega
    subst e'
    refine e_iload_n (pc := 2) dX5_chooseBasis_2 rfl rfl ?_
    refine e_aload_n (pc := 3) dX5_chooseBasis_3 rfl rfl ?_
    refine e_get (pc := 4) fl_X5_18 dX5_chooseBasis_4 (by repeat (first | assumption | exact hset_eq _ _ _ | rw [hset_ne _ _ (by omega)])) (by rfl) ?_
    refine n_icmp_ge (pc := 7) (tgt := 23) dX5_chooseBasis_7 (by decide) (by omega) (by omega) (fun hb_ => ?_) (fun c => absurd c (by omega))
    refine V.mask [true, true, false] ?_
    exact kk h1 hR hG hH hS hW he
  | succ n ih =>
    intro x e1 e2 h1 hR hG hH hS hW he
    obtain ⟨g, g1, g2⟩ := hG
    refine e_iload_n (pc := 2) dX5_chooseBasis_2 rfl rfl ?_
    refine e_aload_n (pc := 3) dX5_chooseBasis_3 rfl rfl ?_
    refine e_get (pc := 4) fl_X5_18 dX5_chooseBasis_4 (by repeat (first | assumption | exact hset_eq _ _ _ | rw [hset_ne _ _ (by omega)])) (by rfl) ?_
    refine n_icmp_ge (pc := 7) (tgt := 23) dX5_chooseBasis_7 (by decide) (by omega) (by omega) (fun c => absurd c (by omega)) (fun hb_ => ?_)
    refine e_aload_n (pc := 10) dX5_chooseBasis_10 rfl rfl ?_
    refine e_get (pc := 11) fl_X5_43 dX5_chooseBasis_11 (by repeat (first | assumption | exact hset_eq _ _ _ | rw [hset_ne _ _ (by omega)])) (by rfl) ?_
    refine e_iload_n (pc := 14) dX5_chooseBasis_14 rfl rfl ?_
    refine e_iconst (pc := 15) (v := -1) dX5_chooseBasis_15 (by decide) ?_
    refine e_iastN (pc := 16) _ dX5_chooseBasis_16 (by repeat (first | assumption | exact hset_eq _ _ _ | rw [hset_ne _ _ (by omega)])) (by rfl) (by omega) (by first | decide | omega) ?_
    refine n_inc (pc := 17) dX5_chooseBasis_17 rfl (by decide) ?_
    refine e_goto (pc := 20) (tgt := 2) dX5_chooseBasis_20 (by decide) ?_
    refine ih (x + 1) (by omega) (by omega) _ (hR.set rfl) ⟨_, hset_eq _ _ _, fun t ht => ?_⟩ ((hset_ne _ _ (by omega)).trans hH) (hS.keep (hset_ne _ _ (by omega))) (hW.hs (by omega)) (he.set (by omega))
    by_cases e : t = x
    · subst e; rw [pk_us]
    · rw [pk_un e]; exact g2 t (by omega)
theorem c_X5_chooseBasis (hR : SRo h B) (hH : SHd h B W.1 W.2.1 (W.1 ^ W.2.1) cnt fx) (hS : SumT h B W) (hW : WAt h o W f) (hk : Wok W) (hq : W.1 ^ W.2.1 ≤ 27) (d : o + 3 ≤ B ∨ B + 14 ≤ o) : CV yX5_chooseBasis MX5_chooseBasis [.ref B, .ref o] h (fun h2 => (∃ b, BAt h2 B W b W.2.1) ∧ WAt h2 o W f ∧ Fb B o h h2) := by
  obtain ⟨b1, b2, b3, b4, b5⟩ := hk.b
  have q0 := hk.pos
  obtain ⟨g6, h6⟩ := hR 6 (by omega) (by omega)
  refine CV.ofV (by decide) rfl rfl (by simp [Value.category]) (by exact Nat.le_of_ble_eq_true rfl) (fun sz => ?_)
  refine n_iconst (pc := 0) 0 dX5_chooseBasis_0 (by decide) ?_
  refine e_istore_n (pc := 1) dX5_chooseBasis_1 rfl (by decide) ?_
  refine l_cb_x (hh := h) (f := f) hk hq d (fun h1 hR1 hG1 hH1 hS1 hW1 he1 => ?_) (W.1 ^ W.2.1) 0 rfl (Nat.zero_le _) h hR ⟨g6, h6, fun t ht => absurd ht (Nat.not_lt_zero t)⟩ hH hS hW (Fb.rf _ _ h)
  obtain ⟨g, g1, g2⟩ := hG1
  obtain ⟨g5, h5⟩ := hR1 5 (by omega) (by omega)
  have h5 : h1 (B + 5) = some (aI 27 g5) := h5
  obtain ⟨g7, h7⟩ := hR1 7 (by omega) (by omega)
  obtain ⟨g8, h8⟩ := hR1 8 (by omega) (by omega)
  obtain ⟨g9, h9⟩ := hR1 9 (by omega) (by omega)
  refine e_aload_n (pc := 23) dX5_chooseBasis_23 rfl rfl ?_
  refine e_get (pc := 24) fl_X5_43 dX5_chooseBasis_24 (by repeat (first | assumption | exact hset_eq _ _ _ | rw [hset_ne _ _ (by omega)])) (by rfl) ?_
  refine n_iconst (pc := 27) 0 dX5_chooseBasis_27 (by decide) ?_
  refine n_iconst (pc := 28) 0 dX5_chooseBasis_28 (by decide) ?_
  refine e_iastN (pc := 29) _ dX5_chooseBasis_29 (by repeat (first | assumption | exact hset_eq _ _ _ | rw [hset_ne _ _ (by omega)])) (by rfl) (by omega) (by first | decide | omega) ?_
  refine e_aload_n (pc := 30) dX5_chooseBasis_30 rfl rfl ?_
  refine e_get (pc := 31) fl_X5_40 dX5_chooseBasis_31 (by repeat (first | assumption | exact hset_eq _ _ _ | rw [hset_ne _ _ (by omega)])) (by rfl) ?_
  refine n_iconst (pc := 34) 0 dX5_chooseBasis_34 (by decide) ?_
  refine n_iconst (pc := 35) 0 dX5_chooseBasis_35 (by decide) ?_
  refine e_iastN (pc := 36) _ dX5_chooseBasis_36 (by repeat (first | assumption | exact hset_eq _ _ _ | rw [hset_ne _ _ (by omega)])) (by rfl) (by omega) (by first | decide | omega) ?_
  refine n_iconst (pc := 37) 0 dX5_chooseBasis_37 (by decide) ?_
  refine e_istore_n (pc := 38) dX5_chooseBasis_38 rfl (by decide) ?_
  refine l_cb_l (hh := h) hk hq d W.2.1 0 rfl (Nat.zero_le _) _ (fun _ => 0) ⟨(hR1.set rfl).set rfl, ⟨⟨g7, ?_, fun t ht => absurd ht (Nat.not_lt_zero t)⟩, ⟨_, hset_eq _ _ _, fun t ht => ?_⟩, ⟨_, (hset_ne _ _ (by omega)).trans (hset_eq _ _ _), fun x hx => ?_⟩⟩, g8, g9, ?_, ?_, fun _ => q0, fun t ht => absurd ht (Nat.not_lt_zero t), fun q => absurd q (Nat.lt_irrefl 0), fun t ht => absurd ht (Nat.not_lt_zero t)⟩ (((hset_ne _ _ (by omega)).trans (hset_ne _ _ (by omega))).trans hH1) ((hS1.keep (hset_ne _ _ (by omega))).keep (hset_ne _ _ (by omega))) ((hW1.hs (by omega)).hs (by omega)) ((he1.set (by omega)).set (by omega))
  · exact ((hset_ne _ _ (by omega)).trans (hset_ne _ _ (by omega))).trans h7
  · have t0 : t = 0 := by
      have : t < 1 := ht
      omega
    subst t0
    rw [pk_us]
    exact congrArg nI (lin_0 _ _ _).symm
  · by_cases e : x = 0
    · subst e; exact Or.inl ⟨0, Nat.one_pos, lin_0 _ _ _, by rw [pk_us]⟩
    · refine Or.inr ⟨fun t ht => ?_, by rw [pk_un e]; exact g2 x hx⟩
      have t0 : t = 0 := by
        have : t < 1 := ht
        omega
      subst t0
      rw [lin_0]
      exact fun q => e q.symm
  · exact ((hset_ne _ _ (by omega)).trans (hset_ne _ _ (by omega))).trans h8
  · exact ((hset_ne _ _ (by omega)).trans (hset_ne _ _ (by omega))).trans h9
end CB2
