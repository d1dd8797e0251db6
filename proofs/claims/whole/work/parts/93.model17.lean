/-! ===== the reference: images of elements ===== -/
theorem pl_lin {p n x k : Nat} {bs : Nat → Nat} (hp : 0 < p) (hn : n ≤ 5) (hb : ∀ i, i < k + 1 → bs i < p ^ n) : num p n (fun j => (dg p (lin p k bs x) j + dg p x k * dg p (bs k) j) % p) = lin p (k + 1) bs x := by
  refine num_ext (p := p) (n := n) (num_lt (fun _ _ => Nat.mod_lt _ hp)) (lin_lt hp hn hb) (fun j hj => ?_)
  rw [dg_num hp hj (fun _ _ => Nat.mod_lt _ hp), lin_dg hp (by omega), lin_dg hp (by omega), Nat.mod_add_mod]
  rfl
section MG
variable {h : AH} {m : Nat} {s : Ms} {W : Wd} {sz : Nat}
theorem l_lo {p n q b : Nat} {W2 : Wd} {g : Nat → Int32} (hM : MH h m p n q s) (hw : h (m + 1) = some (aI 6070 g)) (hW : ∀ c, c < 125 → g (130 * b + 2 + c) = nI (W2.2.2 c)) (hb : b < 6) :
    ∀ (t k : Nat), t = 125 - k → k ≤ 125 → ∀ g1, (∀ j, j < k → g1 j = nI (W2.2.2 j)) → VV MX11_laysOther sz (fun h' => ∃ g2, h' = hset h (m + 103) (aI 125 g2) ∧ ∀ j, j < 125 → g2 j = nI (W2.2.2 j)) (hset h (m + 103) (aI 125 g1)) 2 [some (.ref m), some (.int (nI b)), some (.int (nI k))] [] := by
  intro t
  induction t with
  | zero =>
    intro k e1 e2 g1 h1
    have e' : k = 125 := by omega
    subst e'
    refine e_iload_n (pc := 2) dX11_laysOther_2 rfl rfl ?_
    refine n_bipush (pc := 3) 125 dX11_laysOther_3 (by decide) ?_
    refine n_icmp_ge (pc := 5) (tgt := 34) dX11_laysOther_5 (by decide) (by omega) (by omega) (fun hb_ => ?_) (fun c => absurd c (by omega))
    exact n_vret (pc := 34) dX11_laysOther_34 rfl ⟨g1, rfl, h1⟩
  | succ t ih =>
    intro k e1 e2 g1 h1
    have hM1 : MH (hset h (m + 103) (aI 125 g1)) m p n q s := (hset_ne _ _ (by omega)).trans hM
    have z := hW k (by omega)
    refine e_iload_n (pc := 2) dX11_laysOther_2 rfl rfl ?_
    refine n_bipush (pc := 3) 125 dX11_laysOther_3 (by decide) ?_
    refine n_icmp_ge (pc := 5) (tgt := 34) dX11_laysOther_5 (by decide) (by omega) (by omega) (fun c => absurd c (by omega)) (fun hb_ => ?_)
    refine e_aload_n (pc := 8) dX11_laysOther_8 rfl rfl ?_
    refine e_get (pc := 9) fl_X11_83 dX11_laysOther_9 (by repeat (first | assumption | exact hset_eq _ _ _ | (apply Lay.hd; assumption) | rw [hset_ne _ _ (by omega)])) (by rfl) ?_
    refine e_iload_n (pc := 12) dX11_laysOther_12 rfl rfl ?_
    refine e_aload_n (pc := 13) dX11_laysOther_13 rfl rfl ?_
    refine e_get (pc := 14) fl_X11_7 dX11_laysOther_14 (by repeat (first | assumption | exact hset_eq _ _ _ | (apply Lay.hd; assumption) | rw [hset_ne _ _ (by omega)])) (by rfl) ?_
    refine n_sipush (pc := 17) 130 dX11_laysOther_17 (by decide) ?_
    refine e_iload_n (pc := 20) dX11_laysOther_20 rfl rfl ?_
    refine n_imul (pc := 21) dX11_laysOther_21 ?_
    refine n_iconst (pc := 22) 2 dX11_laysOther_22 (by decide) ?_
    refine n_iadd (pc := 23) dX11_laysOther_23 ?_
    refine e_iload_n (pc := 24) dX11_laysOther_24 rfl rfl ?_
    refine n_iadd (pc := 25) dX11_laysOther_25 ?_
    refine e_ialdN (pc := 26) (130 * b + 2 + k) dX11_laysOther_26 (by repeat (first | assumption | exact hset_eq _ _ _ | (apply Lay.hd; assumption) | rw [hset_ne _ _ (by omega)])) (by rfl) (by omega) (by first | decide | omega) ?_
    rw [z]
    refine e_iastN (pc := 27) k dX11_laysOther_27 (by repeat (first | assumption | exact hset_eq _ _ _ | (apply Lay.hd; assumption) | rw [hset_ne _ _ (by omega)])) (by rfl) (by omega) (by first | decide | omega) ?_
    refine e_heap (hset_hset h (m + 103) _ _) ?_
    refine n_inc (pc := 28) dX11_laysOther_28 rfl (by decide) ?_
    refine e_goto (pc := 31) (tgt := 2) dX11_laysOther_31 (by decide) ?_
    refine ih (k + 1) (by omega) (by omega) _ (fun j hj => ?_)
    by_cases e : j = k
    · subst e; rw [pk_us]
    · rw [pk_un e]; exact h1 j (by omega)
theorem c_X11_laysOther {b : Nat} {W2 : Wd} {g : Nat → Int32} (hL : Lay h m W s) (hw : h (m + 1) = some (aI 6070 g)) (hW : WdR g (130 * b) W2) (hb : b < 6) : CV yX11_laysOther MX11_laysOther [.ref m, .int (nI b)] h (fun h' => Lay h' m W s ∧ CuA h' (m + 103) W2 ∧ ∀ a, a ≠ m + 103 → h' a = h a) := by
  obtain ⟨g0, r0⟩ := hL.2.2.row (k := 103) (isR_d _ (by decide))
  refine CV.ofV (by decide) rfl rfl (by simp [Value.category]) (by exact Nat.le_of_ble_eq_true rfl) (fun sz => ?_)
  refine n_iconst (pc := 0) 0 dX11_laysOther_0 (by decide) ?_
  refine e_istore_n (pc := 1) dX11_laysOther_1 rfl (by decide) ?_
  refine e_heap (hset_self r0).symm ?_
  refine V.post ?_ (l_lo (W2 := W2) hL.1 hw hW.2.2 hb 125 0 rfl (Nat.zero_le _) g0 (fun j hj => absurd hj (Nat.not_lt_zero j)))
  intro r h' z qq
  obtain ⟨e1, e2, g2, rfl, e3⟩ := qq
  exact ⟨e1, e2, hL.row (isR_d 103 (by decide)) rfl (by decide) (by decide), ⟨g2, hset_eq _ _ _, e3⟩, fun a ha => hset_ne _ _ ha⟩
theorem c_X11_imageOf {x : Sx} {g : Nat → Int32} {k i : Nat} (hL : Lay h m W s) (hw : h (m + 1) = some (aI 6070 g)) (hg : WR g x) (hx : SxOk x) (hk : k < 3) (hi : i < 5) : CP yX11_imageOf MX11_imageOf [.ref m, .int (nI k), .int (nI i)] h (nI (imn x W k i)) := by
  have z := hg.2.1 (5 * k + i) (by omega)
  refine CI.ofV (by decide) rfl rfl (by simp [Value.category]) (by exact Nat.le_of_ble_eq_true rfl) (fun sz => ?_)
  refine e_aload_n (pc := 0) dX11_imageOf_0 rfl rfl ?_
  refine e_get (pc := 1) fl_X11_7 dX11_imageOf_1 (by repeat (first | assumption | exact hset_eq _ _ _ | (apply Lay.hd; assumption) | rw [hset_ne _ _ (by omega)])) (by rfl) ?_
  refine n_sipush (pc := 4) 800 dX11_imageOf_4 (by decide) ?_
  refine n_iconst (pc := 7) 5 dX11_imageOf_7 (by decide) ?_
  refine e_iload_n (pc := 8) dX11_imageOf_8 rfl rfl ?_
  refine n_imul (pc := 9) dX11_imageOf_9 ?_
  refine n_iadd (pc := 10) dX11_imageOf_10 ?_
  refine e_iload_n (pc := 11) dX11_imageOf_11 rfl rfl ?_
  refine n_iadd (pc := 12) dX11_imageOf_12 ?_
  refine e_ialdN (pc := 13) (800 + (5 * k + i)) dX11_imageOf_13 (by repeat (first | assumption | exact hset_eq _ _ _ | (apply Lay.hd; assumption) | rw [hset_ne _ _ (by omega)])) (congrArg nI (by omega)) (by omega) (by first | decide | omega) ?_
  rw [z]
  refine e_iconst (pc := 14) (v := -1) dX11_imageOf_14 (by decide) ?_
  refine e_icmp_ne (pc := 15) (tgt := 26) dX11_imageOf_15 (by decide) (fun c => ?_) (fun c => ?_)
  · refine e_aload_n (pc := 26) dX11_imageOf_26 rfl rfl ?_
    refine e_get (pc := 27) fl_X11_7 dX11_imageOf_27 (by repeat (first | assumption | exact hset_eq _ _ _ | (apply Lay.hd; assumption) | rw [hset_ne _ _ (by omega)])) (by rfl) ?_
    refine n_sipush (pc := 30) 800 dX11_imageOf_30 (by decide) ?_
    refine n_iconst (pc := 33) 5 dX11_imageOf_33 (by decide) ?_
    refine e_iload_n (pc := 34) dX11_imageOf_34 rfl rfl ?_
    refine n_imul (pc := 35) dX11_imageOf_35 ?_
    refine n_iadd (pc := 36) dX11_imageOf_36 ?_
    refine e_iload_n (pc := 37) dX11_imageOf_37 rfl rfl ?_
    refine n_iadd (pc := 38) dX11_imageOf_38 ?_
    refine e_ialdN (pc := 39) (800 + (5 * k + i)) dX11_imageOf_39 (by repeat (first | assumption | exact hset_eq _ _ _ | (apply Lay.hd; assumption) | rw [hset_ne _ _ (by omega)])) (congrArg nI (by omega)) (by omega) (by first | decide | omega) ?_
    rw [z]
    refine n_iret (pc := 40) dX11_imageOf_40 rfl ⟨?_, rfl⟩
    unfold imn
    rw [if_neg c]
    rcases hx.2.2.1 (5 * k + i) (by omega) with e | ⟨v, v1, v2⟩
    · exact absurd e c
    · rw [v2, cl_nI (by omega)]
  · refine e_aload_n (pc := 18) dX11_imageOf_18 rfl rfl ?_
    refine e_iload_n (pc := 19) dX11_imageOf_19 rfl rfl ?_
    refine n_VP (pc := 20) (hL.base (show i < 2 ^ 31 by omega)) bX11_base q_i_X11_base q_s_X11_base q_m_X11_223 dX11_imageOf_20 rfl rfl (by repeat (first | assumption | exact hset_eq _ _ _ | (apply Lay.hd; assumption) | rw [hset_ne _ _ (by omega)])) rfl rfl (by exact Nat.le_of_ble_eq_true rfl) ⟨by decide, by decide⟩ ⟨rfl, rfl, Nat.zero_le _, Nat.zero_le _⟩ ?_
    refine e_goto (pc := 23) (tgt := 40) dX11_imageOf_23 (by decide) ?_
    refine n_iret (pc := 40) dX11_imageOf_40 rfl ⟨?_, rfl⟩
    unfold imn
    rw [if_pos c]
theorem l_map {x r : Nat} {bs : Nat → Nat} {g : Nat → Int32} {hh : AH} (hk : Wok W) (hr : r ≠ m + 4 ∧ r ≠ m + 5 ∧ r ≠ m + 6) (h0 : hh r = some (aI 5 g)) (hg : ∀ i, i < W.2.1 → g i = nI (bs i)) (hb : ∀ i, i < W.2.1 → bs i < W.1 ^ W.2.1) (hx : x < 2 ^ 31) :
    ∀ (t i : Nat), t = W.2.1 - i → i ≤ W.2.1 → ∀ h, Lay h m W s → FdM m hh h → VI MX11_mapped sz (fun z h' => z = nI (lin W.1 W.2.1 bs x) ∧ Lay h' m W s ∧ FdM m hh h') h 8 [some (.ref m), some (.int (nI x)), some (.ref r), some (.int (nI (lin W.1 i bs x))), some (.int (nI (x / W.1 ^ i))), some (.int (nI i))] [] := by
  obtain ⟨b1, b2, b3, b4, b5⟩ := hk.b
  intro t
  induction t with
  | zero =>
    intro i e1 e2 h hL fd
    have e' : i = W.2.1 := by omega
    refine e_iload (pc := 8) dX11_mapped_8 rfl ?_
    refine e_aload_n (pc := 10) dX11_mapped_10 rfl rfl ?_
    refine e_get (pc := 11) fl_X11_109 dX11_mapped_11 (by repeat (first | assumption | exact hset_eq _ _ _ | (apply Lay.hd; assumption) | rw [hset_ne _ _ (by omega)])) (by rfl) ?_
    refine n_icmp_ge (pc := 14) (tgt := 49) dX11_mapped_14 (by decide) (by omega) (by omega) (fun hb_ => ?_) (fun c => absurd c (by omega))
    refine e_iload_n (pc := 49) dX11_mapped_49 rfl rfl ?_
    exact n_iret (pc := 50) dX11_mapped_50 rfl ⟨by rw [e'], hL, fd⟩
  | succ t ih =>
    intro i e1 e2 h hL fd
    have h0' : h r = some (aI 5 g) := (fd _ hr.1 hr.2.1 hr.2.2).trans h0
    have z := hg i (by omega)
    have bi := hb i (by omega)
    have ll : lin W.1 i bs x < W.1 ^ W.2.1 := lin_lt (by omega) b4 (fun j hj => hb j (by omega))
    have dl := dg_lt (p := W.1) (by omega) x i
    have q5 := Nat.div_le_self x (W.1 ^ i)
    refine e_iload (pc := 8) dX11_mapped_8 rfl ?_
    refine e_aload_n (pc := 10) dX11_mapped_10 rfl rfl ?_
    refine e_get (pc := 11) fl_X11_109 dX11_mapped_11 (by repeat (first | assumption | exact hset_eq _ _ _ | (apply Lay.hd; assumption) | rw [hset_ne _ _ (by omega)])) (by rfl) ?_
    refine n_icmp_ge (pc := 14) (tgt := 49) dX11_mapped_14 (by decide) (by omega) (by omega) (fun c => absurd c (by omega)) (fun hb_ => ?_)
    refine e_aload_n (pc := 17) dX11_mapped_17 rfl rfl ?_
    refine e_iload_n (pc := 18) dX11_mapped_18 rfl rfl ?_
    refine e_iload (pc := 19) dX11_mapped_19 rfl ?_
    refine e_aload_n (pc := 21) dX11_mapped_21 rfl rfl ?_
    refine e_get (pc := 22) fl_X11_106 dX11_mapped_22 (by repeat (first | assumption | exact hset_eq _ _ _ | (apply Lay.hd; assumption) | rw [hset_ne _ _ (by omega)])) (by rfl) ?_
    refine n_irem (pc := 25) dX11_mapped_25 (by omega) (by omega) (by omega) ?_
    refine e_aload_n (pc := 26) dX11_mapped_26 rfl rfl ?_
    refine e_iload (pc := 27) dX11_mapped_27 rfl ?_
    refine e_ialdN (pc := 29) i dX11_mapped_29 (by repeat (first | assumption | exact hset_eq _ _ _ | (apply Lay.hd; assumption) | rw [hset_ne _ _ (by omega)])) (by rfl) (by omega) (by first | decide | omega) ?_
    rw [z, show x / W.1 ^ i % W.1 = dg W.1 x i from rfl]
    refine n_V (pc := 30) (c_X11_plus hL.1 hL.2.2.m3 ⟨b1, b2⟩ ⟨b3, b4⟩ (show dg W.1 x i ≤ 5 by omega) (show lin W.1 i bs x < 2 ^ 31 by omega) (show bs i < 2 ^ 31 by omega)) bX11_plus q_i_X11_plus q_s_X11_plus q_m_X11_127 dX11_mapped_30 rfl rfl (by repeat (first | assumption | exact hset_eq _ _ _ | (apply Lay.hd; assumption) | rw [hset_ne _ _ (by omega)])) rfl rfl (by exact Nat.le_of_ble_eq_true rfl) ⟨by decide, by decide⟩ ⟨rfl, rfl, Nat.zero_le _, Nat.zero_le _⟩ (fun z2 h2 hp => ?_)
    obtain ⟨rfl, p1, p2⟩ := hp
    rw [pl_lin (by omega) b4 (fun j hj => hb j (by omega))]
    have l2 := hL.fd p1 p2
    refine e_istore_n (pc := 33) dX11_mapped_33 rfl (by decide) ?_
    refine e_iload (pc := 34) dX11_mapped_34 rfl ?_
    refine e_aload_n (pc := 36) dX11_mapped_36 rfl rfl ?_
    refine e_get (pc := 37) fl_X11_106 dX11_mapped_37 (by repeat (first | assumption | exact hset_eq _ _ _ | (apply Lay.hd; assumption) | rw [hset_ne _ _ (by omega)])) (by rfl) ?_
    refine n_idiv (pc := 40) dX11_mapped_40 (by omega) (by omega) (by omega) ?_
    refine e_istore (pc := 41) dX11_mapped_41 (by decide) ?_
    refine n_inc (pc := 43) dX11_mapped_43 rfl (by decide) ?_
    rw [dg_div W.1 x i]
    refine e_goto (pc := 46) (tgt := 8) dX11_mapped_46 (by decide) ?_
    exact ih (i + 1) (by omega) (by omega) h2 l2 (fd.tr p2)
theorem c_X11_mapped {x r : Nat} {bs : Nat → Nat} {g : Nat → Int32} (hL : Lay h m W s) (hk : Wok W) (hr : r ≠ m + 4 ∧ r ≠ m + 5 ∧ r ≠ m + 6) (h0 : h r = some (aI 5 g)) (hg : ∀ i, i < W.2.1 → g i = nI (bs i)) (hb : ∀ i, i < W.2.1 → bs i < W.1 ^ W.2.1) (hx : x < 2 ^ 31) : CI yX11_mapped MX11_mapped [.ref m, .int (nI x), .ref r] h (fun z h' => z = nI (lin W.1 W.2.1 bs x) ∧ Lay h' m W s ∧ FdM m h h') := by
  refine CI.ofV (by decide) rfl rfl (by simp [Value.category]) (by exact Nat.le_of_ble_eq_true rfl) (fun sz => ?_)
  refine n_iconst (pc := 0) 0 dX11_mapped_0 (by decide) ?_
  refine e_istore_n (pc := 1) dX11_mapped_1 rfl (by decide) ?_
  refine e_iload_n (pc := 2) dX11_mapped_2 rfl rfl ?_
  refine e_istore (pc := 3) dX11_mapped_3 (by decide) ?_
  refine n_iconst (pc := 5) 0 dX11_mapped_5 (by decide) ?_
  refine e_istore (pc := 6) dX11_mapped_6 (by decide) ?_
  have q := l_map (sz := sz) (s := s) (x := x) hk hr h0 hg hb hx W.2.1 0 rfl (Nat.zero_le _) h hL (FdM.rf m h)
  rw [Nat.pow_zero, Nat.div_one] at q
  have e : lin W.1 0 bs x = 0 := by
    unfold lin
    exact (num_eq0 (by have := hk.b; omega) (fun _ _ => Nat.mod_lt _ (by have := hk.b; omega))).mpr (fun _ _ => Nat.zero_mod _)
  rw [e] at q
  exact q
theorem l_oo_k {π : Nat → Nat} {i : Nat} {R : Nat → Nat} {x1 : Option Value} {Pr : Int32 → AH → Prop} {B : Nat → Nat → Int32} {hh : AH} (hM : MH hh m W.1 W.2.1 (W.1 ^ W.2.1) s) (hn : W.2.1 ≤ 5) (hπ : Pi5 π) (hi : i < W.2.1) (hd : ∃ g, hh (m + 4) = some (aI 5 g) ∧ ∀ j, j < W.2.1 → g j = nI (R j))
    (kk : ∀ h G, Er (m + 11) (m + 17) hh h → MxI h m π G → (∀ a b, a < W.2.1 → b < W.2.1 → G a b = if a = i then nI (R b) else B a b) → VI MX11_isOneToOne sz Pr h 51 [some (.ref m), x1, some (.int (nI i)), none] []) :
    ∀ (t j : Nat), t = W.2.1 - j → j ≤ W.2.1 → ∀ h G, Er (m + 11) (m + 17) hh h → MxI h m π G → (∀ a b, a < W.2.1 → b < W.2.1 → G a b = if a = i ∧ b < j then nI (R b) else B a b) → VI MX11_isOneToOne sz Pr h 23 [some (.ref m), x1, some (.int (nI i)), some (.int (nI j))] [] := by
  intro t
  induction t with
  | zero =>
    intro j e1 e2 h G er hx hG
    have e' : j = W.2.1 := by omega
    subst e'
    have hM1 : MH h m W.1 W.2.1 (W.1 ^ W.2.1) s := (er _ (by omega)).trans hM
    refine e_iload_n (pc := 23) dX11_isOneToOne_23 rfl rfl ?_
    refine e_aload_n (pc := 24) dX11_isOneToOne_24 rfl rfl ?_
    refine e_get (pc := 25) fl_X11_109 dX11_isOneToOne_25 (by repeat (first | assumption | exact hset_eq _ _ _ | (apply Lay.hd; assumption) | rw [hset_ne _ _ (by omega)])) (by rfl) ?_
    refine n_icmp_ge (pc := 28) (tgt := 51) dX11_isOneToOne_28 (by decide) (by omega) (by omega) (fun hb_ => ?_) (fun c => absurd c (by omega))
    refine V.mask [true, true, true, false] ?_
    refine kk h G er hx (fun a b h1 h2 => ?_)
    rw [hG a b h1 h2]
    by_cases ea : a = i
    · rw [if_pos ⟨ea, h2⟩, if_pos ea]
    · rw [if_neg (fun q => ea q.1), if_neg ea]
  | succ t ih =>
    intro j e1 e2 h G er hx hG
    have hM1 : MH h m W.1 W.2.1 (W.1 ^ W.2.1) s := (er _ (by omega)).trans hM
    obtain ⟨⟨f, f1, f2⟩, x3⟩ := id hx
    have r1 := x3 i (by omega)
    have pi := hπ.1 i (by omega)
    obtain ⟨gd, d1, d2⟩ := id hd
    have d1' : h (m + 4) = some (aI 5 gd) := (er _ (by omega)).trans d1
    have z := d2 j (by omega)
    refine e_iload_n (pc := 23) dX11_isOneToOne_23 rfl rfl ?_
    refine e_aload_n (pc := 24) dX11_isOneToOne_24 rfl rfl ?_
    refine e_get (pc := 25) fl_X11_109 dX11_isOneToOne_25 (by repeat (first | assumption | exact hset_eq _ _ _ | (apply Lay.hd; assumption) | rw [hset_ne _ _ (by omega)])) (by rfl) ?_
    refine n_icmp_ge (pc := 28) (tgt := 51) dX11_isOneToOne_28 (by decide) (by omega) (by omega) (fun c => absurd c (by omega)) (fun hb_ => ?_)
    refine e_aload_n (pc := 31) dX11_isOneToOne_31 rfl rfl ?_
    refine e_get (pc := 32) fl_X11_46 dX11_isOneToOne_32 (by repeat (first | assumption | exact hset_eq _ _ _ | (apply Lay.hd; assumption) | rw [hset_ne _ _ (by omega)])) (by rfl) ?_
    refine e_iload_n (pc := 35) dX11_isOneToOne_35 rfl rfl ?_
    refine e_aldGS (pc := 36) i dX11_isOneToOne_36 (by repeat (first | assumption | exact hset_eq _ _ _ | (apply Lay.hd; assumption) | rw [hset_ne _ _ (by omega)])) (by rfl) (by omega) (by first | decide | omega) (f2 i (by omega)) ?_
    refine e_iload_n (pc := 37) dX11_isOneToOne_37 rfl rfl ?_
    refine e_aload_n (pc := 38) dX11_isOneToOne_38 rfl rfl ?_
    refine e_get (pc := 39) fl_X11_19 dX11_isOneToOne_39 (by repeat (first | assumption | exact hset_eq _ _ _ | (apply Lay.hd; assumption) | rw [hset_ne _ _ (by omega)])) (by rfl) ?_
    refine e_iload_n (pc := 42) dX11_isOneToOne_42 rfl rfl ?_
    refine e_ialdN (pc := 43) j dX11_isOneToOne_43 (by repeat (first | assumption | exact hset_eq _ _ _ | (apply Lay.hd; assumption) | rw [hset_ne _ _ (by omega)])) (by rfl) (by omega) (by first | decide | omega) ?_
    rw [z]
    refine e_iastN (pc := 44) j dX11_isOneToOne_44 (by repeat (first | assumption | exact hset_eq _ _ _ | (apply Lay.hd; assumption) | rw [hset_ne _ _ (by omega)])) (by rfl) (by omega) (by first | decide | omega) ?_
    refine n_inc (pc := 45) dX11_isOneToOne_45 rfl (by decide) ?_
    refine e_goto (pc := 48) (tgt := 23) dX11_isOneToOne_48 (by decide) ?_
    refine ih (j + 1) (by omega) (by omega) _ _ (er.set (by omega)) (hx.put hπ (by omega)) (fun a b h1 h2 => ?_)
    show (if a = i then upd (G i) j _ else G a) b = _
    by_cases ea : a = i
    · subst ea
      rw [if_pos rfl]
      by_cases eb : b = j
      · subst eb; rw [pk_us, if_pos ⟨rfl, by omega⟩]
      · rw [pk_un eb, hG a b h1 h2]
        by_cases e5 : b < j
        · rw [if_pos ⟨rfl, e5⟩, if_pos ⟨rfl, by omega⟩]
        · rw [if_neg (fun q => e5 q.2), if_neg (fun q => by omega)]
    · rw [if_neg ea, hG a b h1 h2, if_neg (fun q => ea q.1), if_neg (fun q => ea q.1)]
theorem FmD.ro {hh h : AH} {π : Nat → Nat} {G : Nat → Nat → Int32} (hL : Lay hh m W s) (hπ : Pi5 π) (fd : FmD m hh h) (q4 : ∃ g, h (m + 4) = some (aI 5 g)) (hx : MxI h m π G) : MRo h m := by
  obtain ⟨g4, q4⟩ := q4
  have r1 : MRo (hset hh (m + 4) (aI 5 g4)) m := hL.2.2.set (isR_d 4 (by decide)) rfl
  refine r1.mx (n := 0) (r := 0) (A := fun _ _ => 0) (fun b hb => ?_) (hx.mxa hπ (Nat.zero_le _) (fun i j hi => absurd hi (Nat.not_lt_zero i))) hπ
  by_cases e : b = m + 4
  · subst e; rw [hset_eq]; exact q4
  · rw [hset_ne _ _ e]; exact fd b e (by omega)
theorem l_oo_i {π : Nat → Nat} {r : Nat} {bs : Nat → Nat} {g : Nat → Int32} {Pr : Int32 → AH → Prop} {hh : AH} (hL : Lay hh m W s) (hk : Wok W) (hπ : Pi5 π) (hr : r ≠ m + 4 ∧ (r < m + 11 ∨ m + 17 ≤ r)) (h0 : hh r = some (aI 5 g)) (hg : ∀ i, i < W.2.1 → g i = nI (bs i)) (hb : ∀ i, i < W.2.1 → bs i < 2 ^ 31)
    (kk : ∀ h G, FmD m hh h → MRo h m → MxI h m π G → (∀ a b, a < W.2.1 → b < W.2.1 → G a b = nI (dg W.1 (bs a) b)) → VI MX11_isOneToOne sz Pr h 57 [some (.ref m), some (.ref r), none, none] []) :
    ∀ (t i : Nat), t = W.2.1 - i → i ≤ W.2.1 → ∀ h G, FmD m hh h → (∃ g, h (m + 4) = some (aI 5 g)) → MxI h m π G → (∀ a b, a < i → b < W.2.1 → G a b = nI (dg W.1 (bs a) b)) → VI MX11_isOneToOne sz Pr h 2 [some (.ref m), some (.ref r), some (.int (nI i)), none] [] := by
  obtain ⟨b1, b2, b3, b4, b5⟩ := hk.b
  intro t
  induction t with
  | zero =>
    intro i e1 e2 h G fd h4 hX hG
    have e' : i = W.2.1 := by omega
    subst e'
    have hM1 : MH h m W.1 W.2.1 (W.1 ^ W.2.1) s := (fd _ (by omega) (by omega)).trans hL.1
    refine e_iload_n (pc := 2) dX11_isOneToOne_2 rfl rfl ?_
    refine e_aload_n (pc := 3) dX11_isOneToOne_3 rfl rfl ?_
    refine e_get (pc := 4) fl_X11_109 dX11_isOneToOne_4 (by repeat (first | assumption | exact hset_eq _ _ _ | (apply Lay.hd; assumption) | rw [hset_ne _ _ (by omega)])) (by rfl) ?_
    refine n_icmp_ge (pc := 7) (tgt := 57) dX11_isOneToOne_7 (by decide) (by omega) (by omega) (fun hb_ => ?_) (fun c => absurd c (by omega))
    refine V.mask [true, true, false, false] ?_
    exact kk h G fd (fd.ro hL hπ h4 hX) hX hG
  | succ t ih =>
    intro i e1 e2 h G fd h4 hX hG
    have hM1 : MH h m W.1 W.2.1 (W.1 ^ W.2.1) s := (fd _ (by omega) (by omega)).trans hL.1
    have h0' : h r = some (aI 5 g) := (fd _ hr.1 hr.2).trans h0
    obtain ⟨g4, r4⟩ := h4
    have z := hg i (by omega)
    refine e_iload_n (pc := 2) dX11_isOneToOne_2 rfl rfl ?_
    refine e_aload_n (pc := 3) dX11_isOneToOne_3 rfl rfl ?_
    refine e_get (pc := 4) fl_X11_109 dX11_isOneToOne_4 (by repeat (first | assumption | exact hset_eq _ _ _ | (apply Lay.hd; assumption) | rw [hset_ne _ _ (by omega)])) (by rfl) ?_
    refine n_icmp_ge (pc := 7) (tgt := 57) dX11_isOneToOne_7 (by decide) (by omega) (by omega) (fun c => absurd c (by omega)) (fun hb_ => ?_)
    refine e_aload_n (pc := 10) dX11_isOneToOne_10 rfl rfl ?_
    refine e_aload_n (pc := 11) dX11_isOneToOne_11 rfl rfl ?_
    refine e_iload_n (pc := 12) dX11_isOneToOne_12 rfl rfl ?_
    refine e_ialdN (pc := 13) i dX11_isOneToOne_13 (by repeat (first | assumption | exact hset_eq _ _ _ | (apply Lay.hd; assumption) | rw [hset_ne _ _ (by omega)])) (by rfl) (by omega) (by first | decide | omega) ?_
    rw [z]
    refine e_aload_n (pc := 14) dX11_isOneToOne_14 rfl rfl ?_
    refine e_get (pc := 15) fl_X11_19 dX11_isOneToOne_15 (by repeat (first | assumption | exact hset_eq _ _ _ | (apply Lay.hd; assumption) | rw [hset_ne _ _ (by omega)])) (by rfl) ?_
    refine n_Vv (pc := 18) (c_X11_digits hM1 ⟨b1, b2⟩ b4 (hb i (by omega)) (by omega) r4) bX11_digits q_i_X11_digits q_s_X11_digits q_m_X11_115 dX11_isOneToOne_18 rfl rfl (by repeat (first | assumption | exact hset_eq _ _ _ | (apply Lay.hd; assumption) | rw [hset_ne _ _ (by omega)])) rfl rfl (by exact Nat.le_of_ble_eq_true rfl) ⟨by decide, by decide⟩ ⟨rfl, rfl, Nat.zero_le _, Nat.zero_le _⟩ (fun h2 hp => ?_)
    obtain ⟨gx, rfl, x2⟩ := hp
    have hM2 : MH (hset h (m + 4) (aI 5 gx)) m W.1 W.2.1 (W.1 ^ W.2.1) s := (hset_ne _ _ (by omega)).trans hM1
    refine n_iconst (pc := 21) 0 dX11_isOneToOne_21 (by decide) ?_
    refine e_istore_n (pc := 22) dX11_isOneToOne_22 rfl (by decide) ?_
    refine l_oo_k (R := dg W.1 (bs i)) (B := G) hM2 b4 hπ (show i < W.2.1 by omega) ⟨gx, hset_eq _ _ _, fun j hj => by rw [x2 j (by omega)]; unfold dgn; rw [if_pos hj]⟩ (fun h2 G2 er2 hx2 hG2 => ?_) W.2.1 0 rfl (Nat.zero_le _) _ G (Er.rf _ _ _) (hX.keep hπ (fun a a1 a2 => hset_ne _ _ (by omega))) (fun a b h1 h2 => by rw [if_neg (fun q => absurd q.2 (Nat.not_lt_zero b))])
    refine n_inc (pc := 51) dX11_isOneToOne_51 rfl (by decide) ?_
    refine e_goto (pc := 54) (tgt := 2) dX11_isOneToOne_54 (by decide) ?_
    refine ih (i + 1) (by omega) (by omega) h2 G2 (fun b q1 q2 => ((er2 b (by omega)).trans (hset_ne _ _ q1)).trans (fd b q1 q2)) ⟨gx, (er2 _ (by omega)).trans (hset_eq _ _ _)⟩ hx2 (fun a b h1 h2 => ?_)
    rw [hG2 a b (by omega) h2]
    by_cases ea : a = i
    · rw [if_pos ea, ea]
    · rw [if_neg ea, hG a b (by omega) h2]
theorem c_X11_isOneToOne {r : Nat} {bs : Nat → Nat} {g : Nat → Int32} (hL : Lay h m W s) (hk : Wok W) (hr : r ≠ m + 4 ∧ (r < m + 11 ∨ m + 17 ≤ r)) (h0 : h r = some (aI 5 g)) (hg : ∀ i, i < W.2.1 → g i = nI (bs i)) (hb : ∀ i, i < W.2.1 → bs i < 2 ^ 31) : CI yX11_isOneToOne MX11_isOneToOne [.ref m, .ref r] h (fun z h' => z = bI (decide (rkf W.1 W.2.1 (SolM W.1 W.2.1 W.2.1 (mrow W.1 bs)) = W.2.1)) ∧ rkf W.1 W.2.1 (SolM W.1 W.2.1 W.2.1 (mrow W.1 bs)) ≤ W.2.1 ∧ Lay h' m W s ∧ FmA m h h') := by
  obtain ⟨b1, b2, b3, b4, b5⟩ := hk.b
  obtain ⟨π, G, hπ, hG⟩ := hL.2.2.mxi
  refine CI.ofV (by decide) rfl rfl (by simp [Value.category]) (by exact Nat.le_of_ble_eq_true rfl) (fun sz => ?_)
  refine n_iconst (pc := 0) 0 dX11_isOneToOne_0 (by decide) ?_
  refine e_istore_n (pc := 1) dX11_isOneToOne_1 rfl (by decide) ?_
  refine l_oo_i (hh := h) hL hk hπ hr h0 hg hb (fun h2 G2 fd2 r2 hx2 hG2 => ?_) W.2.1 0 rfl (Nat.zero_le _) h G (fun _ _ _ => rfl) (hL.2.2.row (k := 4) (isR_d _ (by decide))) hG (fun a b h1 => absurd h1 (Nat.not_lt_zero a))
  have hM2 : MH h2 m W.1 W.2.1 (W.1 ^ W.2.1) s := (fd2 _ (by omega) (by omega)).trans hL.1
  have A := hx2.mxa (A := mrow W.1 bs) hπ b4 hG2
  have Alt : ∀ i j, i < W.2.1 → j < W.2.1 → mrow W.1 bs i j < W.1 := fun i j _ _ => dg_lt (by omega) _ _
  refine e_aload_n (pc := 57) dX11_isOneToOne_57 rfl rfl ?_
  refine n_V (pc := 58) (c_X11_rank hM2 r2 hk.1 b4 ⟨π, hπ, A⟩ Alt) bX11_rank q_i_X11_rank q_s_X11_rank q_m_X11_260 dX11_isOneToOne_58 rfl rfl (by repeat (first | assumption | exact hset_eq _ _ _ | (apply Lay.hd; assumption) | rw [hset_ne _ _ (by omega)])) rfl rfl (by exact Nat.le_of_ble_eq_true rfl) ⟨by decide, by decide⟩ ⟨rfl, rfl, Nat.zero_le _, Nat.zero_le _⟩ (fun z h3 hp => ?_)
  obtain ⟨k, rfl, k1, k2, k3, k4⟩ := hp
  have ek := rkf_eq hk.1 k2
  have hM3 : MH h3 m W.1 W.2.1 (W.1 ^ W.2.1) s := (k4 _ (by omega)).trans hM2
  have fa : FmA m h h3 := fun b q => (k4 b (by omega)).trans (fd2 b (by omega) (by omega))
  have l3 : Lay h3 m W s := hL.fq fa.fq k3
  rw [← ek]
  refine e_aload_n (pc := 61) dX11_isOneToOne_61 rfl rfl ?_
  refine e_get (pc := 62) fl_X11_109 dX11_isOneToOne_62 (by repeat (first | assumption | exact hset_eq _ _ _ | (apply Lay.hd; assumption) | rw [hset_ne _ _ (by omega)])) (by rfl) ?_
  refine n_icmp_ne (pc := 65) (tgt := 72) dX11_isOneToOne_65 (by decide) (by omega) (by omega) (fun c => ?_) (fun c => ?_)
  · refine n_iconst (pc := 72) 0 dX11_isOneToOne_72 (by decide) ?_
    exact n_zret (pc := 73) dX11_isOneToOne_73 rfl rfl ⟨by rw [decide_eq_false c]; rfl, k1, l3, fa⟩
  · refine n_iconst (pc := 68) 1 dX11_isOneToOne_68 (by decide) ?_
    refine e_goto (pc := 69) (tgt := 73) dX11_isOneToOne_69 (by decide) ?_
    exact n_zret (pc := 73) dX11_isOneToOne_73 rfl rfl ⟨by rw [decide_eq_true c]; rfl, k1, l3, fa⟩
end MG
