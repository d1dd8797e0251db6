/-! ===== the reference: what parts two worlds ===== -/
section MPT
variable {h : AH} {m : Nat} {x y : Sx} {ik : Bool} {len : Nat} {f : Nat → Nat} {ft fp : Int32} {sz : Nat} {hh : AH}
theorem c_ranks_n {a sd r : Nat} (hX : MAt h m x y ik len f ft fp) (hx : SxOk x) (ha : a < 6) (hsd : sd < 3) (hr : r ≤ (x.ws a).2.1) : CI yX11_ranks MX11_ranks [.ref m, .int (nI a), .int (nI sd), .int (nI r)] h (fun z h' => z = nI (cntR (x.ws a) sd r) ∧ MAt h' m x y ik len f ft fp ∧ Er m (m + 107) h h' ∧ h' (m + 106) = h (m + 106)) := by
  obtain ⟨⟨p, n, q, s, hM, hs⟩, hR, ⟨g, hw, hg⟩, -⟩ := id hX
  have wk := hx.1 a (by omega)
  have b := wk.b
  obtain ⟨w1, w2, w3⟩ := hg.1 a ha
  refine CI.ofV (by decide) rfl rfl (by simp [Value.category]) (by exact Nat.le_of_ble_eq_true rfl) (fun sz => ?_)
  refine e_iload_n (pc := 0) dX11_ranks_0 rfl rfl ?_
  refine n_SP (pc := 1) (c_X11_isWorld (nI a)) bX11_isWorld q_st_X11_isWorld q_m_X11_143 dX11_ranks_1 rfl rfl (by exact Nat.le_of_ble_eq_true rfl) ⟨by decide, by decide⟩ ⟨rfl, rfl, Nat.zero_le _, Nat.zero_le _⟩ ?_
  rw [ok6 ha]
  refine n_bif_eq (pc := 4) (tgt := 36) dX11_ranks_4 (by decide) (fun c => ?_) (fun c => ?_)
  · cases c
  refine e_iload_n (pc := 7) dX11_ranks_7 rfl rfl ?_
  refine n_iconst (pc := 8) 0 dX11_ranks_8 (by decide) ?_
  refine n_iconst (pc := 9) 2 dX11_ranks_9 (by decide) ?_
  refine n_SP (pc := 10) (c_X11_isIn (nI sd) (nI 0) (nI 2)) bX11_isIn q_st_X11_isIn q_m_X11_98 dX11_ranks_10 rfl rfl (by exact Nat.le_of_ble_eq_true rfl) ⟨by decide, by decide⟩ ⟨rfl, rfl, Nat.zero_le _, Nat.zero_le _⟩ ?_
  rw [inB_ok (by decide), okq hsd (by decide)]
  refine n_bif_eq (pc := 13) (tgt := 36) dX11_ranks_13 (by decide) (fun c2 => ?_) (fun c2 => ?_)
  · cases c2
  refine e_iload_n (pc := 16) dX11_ranks_16 rfl rfl ?_
  refine n_iconst (pc := 17) 0 dX11_ranks_17 (by decide) ?_
  refine e_aload_n (pc := 18) dX11_ranks_18 rfl rfl ?_
  refine e_get (pc := 19) fl_X11_7 dX11_ranks_19 (by repeat (first | assumption | exact hset_eq _ _ _ | (apply Lay.hd; assumption) | rw [hset_ne _ _ (by omega)])) (by rfl) ?_
  refine n_sipush (pc := 22) 130 dX11_ranks_22 (by decide) ?_
  refine e_iload_n (pc := 25) dX11_ranks_25 rfl rfl ?_
  refine n_imul (pc := 26) dX11_ranks_26 ?_
  refine n_iconst (pc := 27) 1 dX11_ranks_27 (by decide) ?_
  refine n_iadd (pc := 28) dX11_ranks_28 ?_
  refine e_ialdN (pc := 29) (130 * a + 1) dX11_ranks_29 (by repeat (first | assumption | exact hset_eq _ _ _ | (apply Lay.hd; assumption) | rw [hset_ne _ _ (by omega)])) (by rfl) (by omega) (by first | decide | omega) ?_
  rw [w2]
  refine n_SP (pc := 30) (c_X11_isIn (nI r) (nI 0) (nI (x.ws a).2.1)) bX11_isIn q_st_X11_isIn q_m_X11_98 dX11_ranks_30 rfl rfl (by exact Nat.le_of_ble_eq_true rfl) ⟨by decide, by decide⟩ ⟨rfl, rfl, Nat.zero_le _, Nat.zero_le _⟩ ?_
  rw [inB_ok (by omega), okq (show r < (x.ws a).2.1 + 1 by omega) (by omega)]
  refine n_bif_ne (pc := 33) (tgt := 38) dX11_ranks_33 (by decide) (fun _ => ?_) (fun c3 => by cases c3)
  refine e_aload_n (pc := 38) dX11_ranks_38 rfl rfl ?_
  refine e_iload_n (pc := 39) dX11_ranks_39 rfl rfl ?_
  refine n_Vv (pc := 40) (c_X11_laysOut hM hR hw (hg.1 a ha) wk ha) bX11_laysOut q_i_X11_laysOut q_s_X11_laysOut q_m_X11_147 dX11_ranks_40 rfl rfl (by repeat (first | assumption | exact hset_eq _ _ _ | (apply Lay.hd; assumption) | rw [hset_ne _ _ (by omega)])) rfl rfl (by exact Nat.le_of_ble_eq_true rfl) ⟨by decide, by decide⟩ ⟨rfl, rfl, Nat.zero_le _, Nat.zero_le _⟩ (fun h2 hp => ?_)
  obtain ⟨l2, o2⟩ := id hp
  have pos := wk.pos
  refine n_iconst (pc := 43) 0 dX11_ranks_43 (by decide) ?_
  refine e_istore (pc := 44) dX11_ranks_44 (by decide) ?_
  refine n_iconst (pc := 46) 1 dX11_ranks_46 (by decide) ?_
  refine e_istore (pc := 47) dX11_ranks_47 (by decide) ?_
  have q := l_mrk (hh := h2) (sz := sz) (side := sd) (r := r) (a := nI a) wk hsd hr ((x.ws a).1 ^ (x.ws a).2.1 - 1) 1 rfl (by omega) (by omega) h2 l2 (FmA.rf _ _)
  have e0 : cn 1 (fun x_1 => bl (0 < x_1 ∧ rankE (x.ws a) sd x_1 = r)) = 0 := by
    rw [cn_s, if_neg (by rw [bl_f (fun z => Nat.lt_irrefl 0 z.1)]; decide)]; rfl
  rw [e0] at q
  refine V.post ?_ q
  intro rr h' z qq
  obtain ⟨e1, z', e2, rfl, e3, e4⟩ := qq
  obtain ⟨d1, d2⟩ := hX.qd hs hp e3 e4.qf
  exact ⟨e1, _, e2, rfl, d1, d2, (e4 _ (by omega)).trans (o2 _ (by omega) (by omega))⟩
theorem cntR_up {W : Wd} (hk : Wok W) (side : Nat) {r : Nat} (hr : W.2.1 < r) : cntR W side r = 0 := cn_none (fun x _ => bl_f (fun q => by have := rankE_le hk side x; omega))
theorem MAt.r106 {g : Nat → Int32} (hX : MAt h m x y ik len f ft fp) : MAt (hset h (m + 106) (aI 18 g)) m x y ik len f ft fp := by
  obtain ⟨⟨p, n, q, s, hM, hs⟩, hR, -⟩ := id hX
  exact hX.re ((hset_ne _ _ (by omega)).trans hM : MH (hset h (m + 106) (aI 18 g)) m p n q s) hs (hR.set (isR_d 106 (by decide)) rfl) ((FmC.rf m h).set (by omega))
theorem of17 {a : Nat} {z : Int32} (ha : a < 6) (q : Q_of x (nI a) (nI 17) z) : z = nI (3 * ((x.ws a).2.1 * (x.ws a).2.1) - rkD (x.ws a) (3 * ((x.ws a).2.1 * (x.ws a).2.1)) ((x.ws a).2.1 * (x.ws a).2.1) (2 * ((x.ws a).2.1 * (x.ws a).2.1))) := by
  unfold Q_of at q
  rw [if_pos (ok6 ha), wld_nI ha] at q
  unfold OfP at q
  rw [if_neg (by decide), if_neg (by decide), if_neg (by decide), if_neg (by decide), if_neg (by decide), if_neg (by decide), if_neg (by decide), if_neg (by decide), if_neg (by decide), if_neg (by decide), if_neg (by decide), if_neg (by decide), if_neg (by decide), if_neg (by decide), if_neg (by decide), if_neg (by decide), if_neg (by decide), if_pos rfl] at q
  exact q
theorem l_mpt_f {a b sd : Nat} {Pr : Int32 → AH → Prop} (hx : SxOk x) (ha : a < 6) (hsd : sd < 3)
    (kk : ∀ h, MAt h m x y ik len f ft fp → Er m (m + 107) hh h → (∃ g, h (m + 106) = some (aI 18 g) ∧ ∀ r, r ≤ (x.ws a).2.1 → g r = nI (cntR (x.ws a) sd r)) → VI MX11_parted sz Pr h 65 [some (.ref m), some (.int (nI a)), some (.int (nI b)), some (.int (nI (x.ws a).2.1)), some (.int (nI sd)), none] []) :
    ∀ (t r : Nat), t = (x.ws a).2.1 + 1 - r → r ≤ (x.ws a).2.1 + 1 → ∀ h, MAt h m x y ik len f ft fp → Er m (m + 107) hh h → (∃ g, h (m + 106) = some (aI 18 g) ∧ ∀ j, j < r → g j = nI (cntR (x.ws a) sd j)) → VI MX11_parted sz Pr h 37 [some (.ref m), some (.int (nI a)), some (.int (nI b)), some (.int (nI (x.ws a).2.1)), some (.int (nI sd)), some (.int (nI r))] [] := by
  have wk := hx.1 a (by omega)
  obtain ⟨b1, b2, b3, b4, b5⟩ := wk.b
  intro t
  induction t with
  | zero =>
    intro r e1 e2 h hX he hg
    have e' : r = (x.ws a).2.1 + 1 := by omega
    subst e'
    refine e_iload (pc := 37) dX11_parted_37 rfl ?_
    refine e_iload_n (pc := 39) dX11_parted_39 rfl rfl ?_
    refine n_icmp_gt (pc := 40) (tgt := 65) dX11_parted_40 (by decide) (by omega) (by omega) (fun hb_ => ?_) (fun c => absurd c (by omega))
    refine V.mask [true, true, true, true, true, false] ?_
    obtain ⟨g, g1, g2⟩ := hg
    exact kk h hX he ⟨g, g1, fun r hr => g2 r (by omega)⟩
  | succ t ih =>
    intro r e1 e2 h hX he hg
    obtain ⟨⟨p, n, q, s, hM, hs⟩, -⟩ := id hX
    obtain ⟨g, g1, g2⟩ := hg
    refine e_iload (pc := 37) dX11_parted_37 rfl ?_
    refine e_iload_n (pc := 39) dX11_parted_39 rfl rfl ?_
    refine n_icmp_gt (pc := 40) (tgt := 65) dX11_parted_40 (by decide) (by omega) (by omega) (fun c => absurd c (by omega)) (fun hb_ => ?_)
    refine e_aload_n (pc := 43) dX11_parted_43 rfl rfl ?_
    refine e_get (pc := 44) fl_X11_95 dX11_parted_44 (by repeat (first | assumption | exact hset_eq _ _ _ | (apply Lay.hd; assumption) | rw [hset_ne _ _ (by omega)])) (by rfl) ?_
    refine e_iload (pc := 47) dX11_parted_47 rfl ?_
    refine e_aload_n (pc := 49) dX11_parted_49 rfl rfl ?_
    refine e_iload_n (pc := 50) dX11_parted_50 rfl rfl ?_
    refine e_iload (pc := 51) dX11_parted_51 rfl ?_
    refine e_iload (pc := 53) dX11_parted_53 rfl ?_
    refine n_V (pc := 55) (c_ranks_n hX hx ha hsd (show r ≤ (x.ws a).2.1 by omega)) bX11_ranks q_i_X11_ranks q_s_X11_ranks q_m_X11_362 dX11_parted_55 rfl rfl (by repeat (first | assumption | exact hset_eq _ _ _ | (apply Lay.hd; assumption) | rw [hset_ne _ _ (by omega)])) rfl rfl (by exact Nat.le_of_ble_eq_true rfl) ⟨by decide, by decide⟩ ⟨rfl, rfl, Nat.zero_le _, Nat.zero_le _⟩ (fun z h2 hp => ?_)
    obtain ⟨rfl, p1, p2, p3⟩ := hp
    rw [g1] at p3
    refine e_iastN (pc := 58) r dX11_parted_58 (by repeat (first | assumption | exact hset_eq _ _ _ | (apply Lay.hd; assumption) | rw [hset_ne _ _ (by omega)])) (by rfl) (by omega) (by first | decide | omega) ?_
    refine n_inc (pc := 59) dX11_parted_59 rfl (by decide) ?_
    refine e_goto (pc := 62) (tgt := 37) dX11_parted_62 (by decide) ?_
    refine ih (r + 1) (by omega) (by omega) _ p1.r106 ((he.tr p2).set (by omega)) ⟨_, hset_eq _ _ _, fun j hj => ?_⟩
    by_cases c : j = r
    · subst c; rw [pk_us]
    · rw [pk_un c]; exact g2 j (by omega)
theorem l_mpt_c {a b sd : Nat} {Pr : Int32 → AH → Prop} (hx : SxOk x) (ha : a < 6) (hb : b < 6) (hn : (x.ws b).2.1 = (x.ws a).2.1) (hsd : sd < 3)
    (kf : ∀ h r, MAt h m x y ik len f ft fp → Er m (m + 107) hh h → r ≤ (x.ws a).2.1 → cntR (x.ws a) sd r ≠ cntR (x.ws b) sd r → Pr (nI sd) h)
    (kk : ∀ h, MAt h m x y ik len f ft fp → Er m (m + 107) hh h → (∀ r, r ≤ (x.ws a).2.1 → cntR (x.ws a) sd r = cntR (x.ws b) sd r) → VI MX11_parted sz Pr h 102 [some (.ref m), some (.int (nI a)), some (.int (nI b)), some (.int (nI (x.ws a).2.1)), some (.int (nI sd)), none] []) :
    ∀ (t r : Nat), t = (x.ws a).2.1 + 1 - r → r ≤ (x.ws a).2.1 + 1 → ∀ h, MAt h m x y ik len f ft fp → Er m (m + 107) hh h → (∃ g, h (m + 106) = some (aI 18 g) ∧ ∀ r, r ≤ (x.ws a).2.1 → g r = nI (cntR (x.ws a) sd r)) → (∀ j, j < r → cntR (x.ws a) sd j = cntR (x.ws b) sd j) → VI MX11_parted sz Pr h 68 [some (.ref m), some (.int (nI a)), some (.int (nI b)), some (.int (nI (x.ws a).2.1)), some (.int (nI sd)), some (.int (nI r))] [] := by
  have wk := hx.1 a (by omega)
  have wk2 := hx.1 b (by omega)
  obtain ⟨b1, b2, b3, b4, b5⟩ := wk.b
  intro t
  induction t with
  | zero =>
    intro r e1 e2 h hX he hg h0
    have e' : r = (x.ws a).2.1 + 1 := by omega
    subst e'
    refine e_iload (pc := 68) dX11_parted_68 rfl ?_
    refine e_iload_n (pc := 70) dX11_parted_70 rfl rfl ?_
    refine n_icmp_gt (pc := 71) (tgt := 102) dX11_parted_71 (by decide) (by omega) (by omega) (fun hb_ => ?_) (fun c => absurd c (by omega))
    refine V.mask [true, true, true, true, true, false] ?_
    exact kk h hX he (fun r hr => h0 r (by omega))
  | succ t ih =>
    intro r e1 e2 h hX he hg h0
    obtain ⟨g, g1, g2⟩ := hg
    have l1 := cntR_le wk sd r
    have l2 := cntR_le wk2 sd r
    refine e_iload (pc := 68) dX11_parted_68 rfl ?_
    refine e_iload_n (pc := 70) dX11_parted_70 rfl rfl ?_
    refine n_icmp_gt (pc := 71) (tgt := 102) dX11_parted_71 (by decide) (by omega) (by omega) (fun c => absurd c (by omega)) (fun hb_ => ?_)
    obtain ⟨⟨p0, n0, q0, s0, hM0, -⟩, -⟩ := id hX
    refine e_aload_n (pc := 74) dX11_parted_74 rfl rfl ?_
    refine e_iload_n (pc := 75) dX11_parted_75 rfl rfl ?_
    refine e_iload (pc := 76) dX11_parted_76 rfl ?_
    refine e_iload (pc := 78) dX11_parted_78 rfl ?_
    refine n_V (pc := 80) (c_ranks_n hX hx hb hsd (show r ≤ (x.ws b).2.1 by omega)) bX11_ranks q_i_X11_ranks q_s_X11_ranks q_m_X11_362 dX11_parted_80 rfl rfl (by repeat (first | assumption | exact hset_eq _ _ _ | (apply Lay.hd; assumption) | rw [hset_ne _ _ (by omega)])) rfl rfl (by exact Nat.le_of_ble_eq_true rfl) ⟨by decide, by decide⟩ ⟨rfl, rfl, Nat.zero_le _, Nat.zero_le _⟩ (fun z h2 hp => ?_)
    obtain ⟨rfl, p1, p2, p3⟩ := hp
    rw [g1] at p3
    obtain ⟨⟨p, n, q, s, hM, hs⟩, -⟩ := id p1
    have z1 := g2 r (by omega)
    refine e_aload_n (pc := 83) dX11_parted_83 rfl rfl ?_
    refine e_get (pc := 84) fl_X11_95 dX11_parted_84 (by repeat (first | assumption | exact hset_eq _ _ _ | (apply Lay.hd; assumption) | rw [hset_ne _ _ (by omega)])) (by rfl) ?_
    refine e_iload (pc := 87) dX11_parted_87 rfl ?_
    refine e_ialdN (pc := 89) r dX11_parted_89 (by repeat (first | assumption | exact hset_eq _ _ _ | (apply Lay.hd; assumption) | rw [hset_ne _ _ (by omega)])) (by rfl) (by omega) (by first | decide | omega) ?_
    rw [z1]
    refine n_icmp_eq (pc := 90) (tgt := 96) dX11_parted_90 (by decide) (by omega) (by omega) (fun c => ?_) (fun c => ?_)
    · refine n_inc (pc := 96) dX11_parted_96 rfl (by decide) ?_
      refine e_goto (pc := 99) (tgt := 68) dX11_parted_99 (by decide) ?_
      refine ih (r + 1) (by omega) (by omega) h2 p1 (he.tr p2) ⟨g, p3, g2⟩ (fun j hj => ?_)
      by_cases e : j = r
      · subst e; exact c.symm
      · exact h0 j (by omega)
    · refine e_iload (pc := 93) dX11_parted_93 rfl ?_
      exact n_iret (pc := 95) dX11_parted_95 rfl (kf h2 r p1 (he.tr p2) (by omega) (fun e => c e.symm))
theorem l_mpt {a b : Nat} (hx : SxOk x) (ha : a < 6) (hb : b < 6) (hn : (x.ws b).2.1 = (x.ws a).2.1) :
    ∀ (t sd : Nat), t = 3 - sd → sd ≤ 3 → ∀ h, MAt h m x y ik len f ft fp → Er m (m + 107) hh h → (∀ s2, s2 < sd → ∀ r, r ≤ 5 → cntR (x.ws a) s2 r = cntR (x.ws b) s2 r) → VI MX11_parted sz (fun z h' => Parts (x.ws a) (x.ws b) z ∧ MAt h' m x y ik len f ft fp ∧ Er m (m + 107) hh h') h 28 [some (.ref m), some (.int (nI a)), some (.int (nI b)), some (.int (nI (x.ws a).2.1)), some (.int (nI sd)), none] [] := by
  have wk := hx.1 a (by omega)
  have wk2 := hx.1 b (by omega)
  obtain ⟨b1, b2, b3, b4, b5⟩ := wk.b
  obtain ⟨d1, d2, d3, d4, d5⟩ := wk2.b
  have n2 : (x.ws a).2.1 * (x.ws a).2.1 ≤ 5 * 5 := Nat.mul_le_mul b4 b4
  have n3 : (x.ws b).2.1 * (x.ws b).2.1 ≤ 5 * 5 := Nat.mul_le_mul d4 d4
  intro t
  induction t with
  | zero =>
    intro sd e1 e2 h hX he h0
    have e' : sd = 3 := by omega
    subst e'
    refine e_iload (pc := 28) dX11_parted_28 rfl ?_
    refine n_iconst (pc := 30) 3 dX11_parted_30 (by decide) ?_
    refine n_icmp_ge (pc := 31) (tgt := 108) dX11_parted_31 (by decide) (by omega) (by omega) (fun hb_ => ?_) (fun c => absurd c (by omega))
    obtain ⟨⟨p0, n0, q0, s0, hM0, -⟩, -⟩ := id hX
    refine e_aload_n (pc := 108) dX11_parted_108 rfl rfl ?_
    refine e_iload_n (pc := 109) dX11_parted_109 rfl rfl ?_
    refine n_bipush (pc := 110) 17 dX11_parted_110 (by decide) ?_
    refine n_V (pc := 112) (c_X11_of hX hx (nI a) (nI 17)) bX11_of q_i_X11_of q_s_X11_of q_m_X11_365 dX11_parted_112 rfl rfl (by repeat (first | assumption | exact hset_eq _ _ _ | (apply Lay.hd; assumption) | rw [hset_ne _ _ (by omega)])) rfl rfl (by exact Nat.le_of_ble_eq_true rfl) ⟨by decide, by decide⟩ ⟨rfl, rfl, Nat.zero_le _, Nat.zero_le _⟩ (fun z1 h1 hp => ?_)
    obtain ⟨q1, p1, p2⟩ := hp
    have q1 := of17 ha q1
    obtain ⟨⟨p0, n0, q0, s0, hM1, -⟩, -⟩ := id p1
    refine e_aload_n (pc := 115) dX11_parted_115 rfl rfl ?_
    refine e_iload_n (pc := 116) dX11_parted_116 rfl rfl ?_
    refine n_bipush (pc := 117) 17 dX11_parted_117 (by decide) ?_
    refine n_V (pc := 119) (c_X11_of p1 hx (nI b) (nI 17)) bX11_of q_i_X11_of q_s_X11_of q_m_X11_365 dX11_parted_119 rfl rfl (by repeat (first | assumption | exact hset_eq _ _ _ | (apply Lay.hd; assumption) | rw [hset_ne _ _ (by omega)])) rfl rfl (by exact Nat.le_of_ble_eq_true rfl) ⟨by decide, by decide⟩ ⟨rfl, rfl, Nat.zero_le _, Nat.zero_le _⟩ (fun z2 h2 hp => ?_)
    obtain ⟨q2, p3, p4⟩ := hp
    have q2 := of17 hb q2
    rw [q1, q2]
    refine n_icmp_eq (pc := 122) (tgt := 129) dX11_parted_122 (by decide) (by omega) (by omega) (fun c => ?_) (fun c => ?_)
    · refine e_iconst (pc := 129) (v := -1) dX11_parted_129 (by decide) ?_
      exact n_iret (pc := 130) dX11_parted_130 rfl ⟨Or.inr ⟨h0, Or.inr ⟨rfl, c⟩⟩, p3, (he.tr p2).tr p4⟩
    · refine n_iconst (pc := 125) 3 dX11_parted_125 (by decide) ?_
      refine e_goto (pc := 126) (tgt := 130) dX11_parted_126 (by decide) ?_
      exact n_iret (pc := 130) dX11_parted_130 rfl ⟨Or.inr ⟨h0, Or.inl ⟨rfl, c⟩⟩, p3, (he.tr p2).tr p4⟩
  | succ t ih =>
    intro sd e1 e2 h hX he h0
    obtain ⟨-, hR, -⟩ := id hX
    obtain ⟨g0, r0⟩ := hR.row (k := 106) (isR_d _ (by decide))
    refine e_iload (pc := 28) dX11_parted_28 rfl ?_
    refine n_iconst (pc := 30) 3 dX11_parted_30 (by decide) ?_
    refine n_icmp_ge (pc := 31) (tgt := 108) dX11_parted_31 (by decide) (by omega) (by omega) (fun c => absurd c (by omega)) (fun hb_ => ?_)
    refine n_iconst (pc := 34) 0 dX11_parted_34 (by decide) ?_
    refine e_istore (pc := 35) dX11_parted_35 (by decide) ?_
    refine l_mpt_f (hh := hh) hx ha (show sd < 3 by omega) (fun h1 hX1 he1 hg1 => ?_) ((x.ws a).2.1 + 1) 0 rfl (Nat.zero_le _) h hX he ⟨g0, r0, fun j hj => absurd hj (Nat.not_lt_zero j)⟩
    refine n_iconst (pc := 65) 0 dX11_parted_65 (by decide) ?_
    refine e_istore (pc := 66) dX11_parted_66 (by decide) ?_
    refine l_mpt_c (hh := hh) hx ha hb hn (show sd < 3 by omega) (fun h2 r hX2 he2 hr hne => ⟨Or.inl ⟨sd, by omega, rfl, ⟨r, by omega, hne⟩, h0⟩, hX2, he2⟩) (fun h2 hX2 he2 hq => ?_) ((x.ws a).2.1 + 1) 0 rfl (Nat.zero_le _) h1 hX1 he1 hg1 (fun j hj => absurd hj (Nat.not_lt_zero j))
    refine n_inc (pc := 102) dX11_parted_102 rfl (by decide) ?_
    refine e_goto (pc := 105) (tgt := 28) dX11_parted_105 (by decide) ?_
    refine ih (sd + 1) (by omega) (by omega) h2 hX2 he2 (fun s2 hs2 r hr => ?_)
    by_cases e : s2 = sd
    · subst e
      by_cases c : r ≤ (x.ws a).2.1
      · exact hq r c
      · rw [cntR_up wk s2 (by omega), cntR_up wk2 s2 (by omega)]
    · exact h0 s2 (by omega) r hr
theorem c_X11_parted (hX : MAt h m x y ik len f ft fp) (hx : SxOk x) (a b : Int32) : CI yX11_parted MX11_parted [.ref m, .int a, .int b] h (fun z h' => Q_parted x a b z ∧ MAt h' m x y ik len f ft fp ∧ Er m (m + 107) h h') := by
  obtain ⟨⟨p, n, q, s, hM, hs⟩, hR, ⟨g, hw, hg⟩, -⟩ := id hX
  refine CI.ofV (by decide) rfl rfl (by simp [Value.category]) (by exact Nat.le_of_ble_eq_true rfl) (fun sz => ?_)
  refine e_aload_n (pc := 0) dX11_parted_0 rfl rfl ?_
  refine e_iload_n (pc := 1) dX11_parted_1 rfl rfl ?_
  refine e_iload_n (pc := 2) dX11_parted_2 rfl rfl ?_
  refine n_VP (pc := 3) (c_X11_areOfOneSize hX hx a b) bX11_areOfOneSize q_i_X11_areOfOneSize q_s_X11_areOfOneSize q_m_X11_321 dX11_parted_3 rfl rfl (by repeat (first | assumption | exact hset_eq _ _ _ | (apply Lay.hd; assumption) | rw [hset_ne _ _ (by omega)])) rfl rfl (by exact Nat.le_of_ble_eq_true rfl) ⟨by decide, by decide⟩ ⟨rfl, rfl, Nat.zero_le _, Nat.zero_le _⟩ ?_
  refine n_bif_ne (pc := 6) (tgt := 12) dX11_parted_6 (by decide) (fun c => ?_) (fun c => ?_)
  · obtain ⟨a', b', ha, hb, rfl, rfl, e1, e2⟩ := alB_of c
    obtain ⟨w1, w2, w3⟩ := hg.1 a' ha
    refine e_aload_n (pc := 12) dX11_parted_12 rfl rfl ?_
    refine e_get (pc := 13) fl_X11_7 dX11_parted_13 (by repeat (first | assumption | exact hset_eq _ _ _ | (apply Lay.hd; assumption) | rw [hset_ne _ _ (by omega)])) (by rfl) ?_
    refine n_sipush (pc := 16) 130 dX11_parted_16 (by decide) ?_
    refine e_iload_n (pc := 19) dX11_parted_19 rfl rfl ?_
    refine n_imul (pc := 20) dX11_parted_20 ?_
    refine n_iconst (pc := 21) 1 dX11_parted_21 (by decide) ?_
    refine n_iadd (pc := 22) dX11_parted_22 ?_
    refine e_ialdN (pc := 23) (130 * a' + 1) dX11_parted_23 (by repeat (first | assumption | exact hset_eq _ _ _ | (apply Lay.hd; assumption) | rw [hset_ne _ _ (by omega)])) (by rfl) (by omega) (by first | decide | omega) ?_
    rw [w2]
    refine e_istore_n (pc := 24) dX11_parted_24 rfl (by decide) ?_
    refine n_iconst (pc := 25) 0 dX11_parted_25 (by decide) ?_
    refine e_istore (pc := 26) dX11_parted_26 (by decide) ?_
    refine V.post ?_ (l_mpt (hh := h) (sz := sz) hx ha hb e2 3 0 rfl (Nat.zero_le _) h hX (Er.rf _ _ _) (fun s2 hs2 => absurd hs2 (Nat.not_lt_zero s2)))
    intro rr h' z qq
    obtain ⟨e3, z', e4, q1, q2, q3⟩ := qq
    exact ⟨e3, z', e4, qT c (by rw [wld_nI ha, wld_nI hb]; exact q1), q2, q3⟩
  · refine e_bipush (pc := 9) (v := -2) dX11_parted_9 (by decide) ?_
    exact n_iret (pc := 11) dX11_parted_11 rfl ⟨qF c rfl, hX, Er.rf _ _ _⟩
end MPT
