/-! ===== the reference: ranks, quotients, powers ===== -/
section MQ
variable {h : AH} {m : Nat} {x y : Sx} {ik : Bool} {len : Nat} {f : Nat → Nat} {ft fp : Int32} {s : Ms} {W : Wd} {sz : Nat} {hh : AH}
/-- a question answered from a world laid out -/
theorem MAt.qd {h2 h3 : AH} (hX : MAt h m x y ik len f ft fp) (hs : Pst s ik len ft fp) (hp : Lay h2 m W s ∧ ∀ b, b ≠ m → b ≠ m + 3 → h2 b = h b) (l : Lay h3 m W s) (e : FmC m h2 h3) : MAt h3 m x y ik len f ft fp ∧ Er m (m + 107) h h3 := by
  obtain ⟨hX2, q2⟩ := hX.laid (p := W.1) (n := W.2.1) (q := W.1 ^ W.2.1) hs hp
  exact ⟨hX2.re l.1 hs l.2.2 e, (q2.tr e).er⟩
theorem l_mrk {side r : Nat} {a : Int32} (hk : Wok W) (hs : side < 3) (hr : r ≤ W.2.1) :
    ∀ (t k : Nat), t = W.1 ^ W.2.1 - k → k ≤ W.1 ^ W.2.1 → 0 < k → ∀ h, Lay h m W s → FmA m hh h → VI MX11_ranks sz (fun z h' => z = nI (cntR W side r) ∧ Lay h' m W s ∧ FmA m hh h') h 49 [some (.ref m), some (.int a), some (.int (nI side)), some (.int (nI r)), some (.int (nI (cn k (fun x => bl (0 < x ∧ rankE W side x = r))))), some (.int (nI k))] [] := by
  obtain ⟨b1, b2, b3, b4, b5⟩ := hk.b
  intro t
  induction t with
  | zero =>
    intro k e1 e2 e3 h hL fm
    have e' : k = W.1 ^ W.2.1 := by omega
    refine e_iload (pc := 49) dX11_ranks_49 rfl ?_
    refine e_aload_n (pc := 51) dX11_ranks_51 rfl rfl ?_
    refine e_get (pc := 52) fl_X11_112 dX11_ranks_52 (by repeat (first | assumption | exact hset_eq _ _ _ | (apply Lay.hd; assumption) | rw [hset_ne _ _ (by omega)])) (by rfl) ?_
    refine n_icmp_ge (pc := 55) (tgt := 85) dX11_ranks_55 (by decide) (by omega) (by omega) (fun hb_ => ?_) (fun c => absurd c (by omega))
    refine e_iload (pc := 85) dX11_ranks_85 rfl ?_
    exact n_iret (pc := 87) dX11_ranks_87 rfl ⟨by rw [e']; rfl, hL, fm⟩
  | succ t ih =>
    intro k e1 e2 e3 h hL fm
    have rl := rankE_le hk side k
    refine e_iload (pc := 49) dX11_ranks_49 rfl ?_
    refine e_aload_n (pc := 51) dX11_ranks_51 rfl rfl ?_
    refine e_get (pc := 52) fl_X11_112 dX11_ranks_52 (by repeat (first | assumption | exact hset_eq _ _ _ | (apply Lay.hd; assumption) | rw [hset_ne _ _ (by omega)])) (by rfl) ?_
    refine n_icmp_ge (pc := 55) (tgt := 85) dX11_ranks_55 (by decide) (by omega) (by omega) (fun c => absurd c (by omega)) (fun hb_ => ?_)
    refine e_iload (pc := 58) dX11_ranks_58 rfl ?_
    refine e_aload_n (pc := 60) dX11_ranks_60 rfl rfl ?_
    refine e_iload (pc := 61) dX11_ranks_61 rfl ?_
    refine e_iload_n (pc := 63) dX11_ranks_63 rfl rfl ?_
    refine n_V (pc := 64) (c_X11_rankOf (side := side) hL hk (show k < 2 ^ 31 by omega) hs) bX11_rankOf q_i_X11_rankOf q_s_X11_rankOf q_m_X11_263 dX11_ranks_64 rfl rfl (by repeat (first | assumption | exact hset_eq _ _ _ | (apply Lay.hd; assumption) | rw [hset_ne _ _ (by omega)])) rfl rfl (by exact Nat.le_of_ble_eq_true rfl) ⟨by decide, by decide⟩ ⟨rfl, rfl, Nat.zero_le _, Nat.zero_le _⟩ (fun z h2 hp => ?_)
    obtain ⟨rfl, p1, p2⟩ := hp
    have q := ih (k + 1) (by omega) (by omega) (by omega) h2 p1 (fm.tr p2)
    rw [cn_s] at q
    refine e_iload_n (pc := 67) dX11_ranks_67 rfl rfl ?_
    refine n_icmp_ne (pc := 68) (tgt := 75) dX11_ranks_68 (by decide) (by omega) (by omega) (fun c => ?_) (fun c => ?_)
    · rw [if_neg (by rw [bl_f (fun z => c z.2)]; decide)] at q
      refine n_iconst (pc := 75) 0 dX11_ranks_75 (by decide) ?_
      refine n_iadd (pc := 76) dX11_ranks_76 ?_
      refine e_istore (pc := 77) dX11_ranks_77 (by decide) ?_
      refine n_inc (pc := 79) dX11_ranks_79 rfl (by decide) ?_
      refine e_goto (pc := 82) (tgt := 49) dX11_ranks_82 (by decide) ?_
      exact q
    · rw [if_pos (bl_t ⟨e3, c⟩)] at q
      refine n_iconst (pc := 71) 1 dX11_ranks_71 (by decide) ?_
      refine e_goto (pc := 72) (tgt := 76) dX11_ranks_72 (by decide) ?_
      refine n_iadd (pc := 76) dX11_ranks_76 ?_
      refine e_istore (pc := 77) dX11_ranks_77 (by decide) ?_
      refine n_inc (pc := 79) dX11_ranks_79 rfl (by decide) ?_
      refine e_goto (pc := 82) (tgt := 49) dX11_ranks_82 (by decide) ?_
      exact q
theorem c_X11_ranks (hX : MAt h m x y ik len f ft fp) (hx : SxOk x) (w sd r : Int32) : CI yX11_ranks MX11_ranks [.ref m, .int w, .int sd, .int r] h (fun z h' => Q_ranks x w sd r z ∧ MAt h' m x y ik len f ft fp ∧ Er m (m + 107) h h') := by
  obtain ⟨⟨p, n, q, s, hM, hs⟩, hR, ⟨g, hw, hg⟩, -⟩ := id hX
  have no : (okI w 6 && (okI sd 3 && okI r ((wld x w).2.1 + 1))) = false → ∀ (sz : Nat) (l : List (Option Value)), VI MX11_ranks sz (fun z h' => Q_ranks x w sd r z ∧ MAt h' m x y ik len f ft fp ∧ Er m (m + 107) h h') h 36 l [] := fun q sz l => by
    refine e_iconst (pc := 36) (v := -1) dX11_ranks_36 (by decide) ?_
    exact n_iret (pc := 37) dX11_ranks_37 rfl ⟨qF q rfl, hX, Er.rf _ _ _⟩
  refine CI.ofV (by decide) rfl rfl (by simp [Value.category]) (by exact Nat.le_of_ble_eq_true rfl) (fun sz => ?_)
  refine e_iload_n (pc := 0) dX11_ranks_0 rfl rfl ?_
  refine n_SP (pc := 1) (c_X11_isWorld w) bX11_isWorld q_st_X11_isWorld q_m_X11_143 dX11_ranks_1 rfl rfl (by exact Nat.le_of_ble_eq_true rfl) ⟨by decide, by decide⟩ ⟨rfl, rfl, Nat.zero_le _, Nat.zero_le _⟩ ?_
  refine n_bif_eq (pc := 4) (tgt := 36) dX11_ranks_4 (by decide) (fun c => ?_) (fun c => ?_)
  · exact no (by rw [c]; rfl) sz _
  obtain ⟨a, ha, rfl⟩ := okI_of (by decide) c
  have wk := hx.1 a (by omega)
  have b := wk.b
  obtain ⟨w1, w2, w3⟩ := hg.1 a ha
  rw [wld_nI ha, ok6 ha, Bool.true_and] at no
  refine e_iload_n (pc := 7) dX11_ranks_7 rfl rfl ?_
  refine n_iconst (pc := 8) 0 dX11_ranks_8 (by decide) ?_
  refine n_iconst (pc := 9) 2 dX11_ranks_9 (by decide) ?_
  refine n_SP (pc := 10) (c_X11_isIn sd (nI 0) (nI 2)) bX11_isIn q_st_X11_isIn q_m_X11_98 dX11_ranks_10 rfl rfl (by exact Nat.le_of_ble_eq_true rfl) ⟨by decide, by decide⟩ ⟨rfl, rfl, Nat.zero_le _, Nat.zero_le _⟩ ?_
  rw [inB_ok (by decide)]
  refine n_bif_eq (pc := 13) (tgt := 36) dX11_ranks_13 (by decide) (fun c2 => ?_) (fun c2 => ?_)
  · exact no (by rw [c2]; rfl) sz _
  refine e_iload_n (pc := 16) dX11_ranks_16 rfl rfl ?_
  refine n_iconst (pc := 17) 0 dX11_ranks_17 (by decide) ?_
  refine e_aload_n (pc := 18) dX11_ranks_18 rfl rfl ?_
  refine e_get (pc := 19) fl_X11_7 dX11_ranks_19 (by repeat (first | assumption | exact hset_eq _ _ _ | (apply Lay.hd; assumption) | rw [hset_ne _ _ (by omega)])) (by rfl) ?_
  refine n_sipush (pc := 22) 130 dX11_ranks_22 (by decide) ?_
  refine e_iload_n (pc := 25) dX11_ranks_25 rfl rfl ?_
  refine n_imul (pc := 26) dX11_ranks_26 ?_
  refine n_iconst (pc := 27) 1 dX11_ranks_27 (by decide) ?_
  refine n_iadd (pc := 28) dX11_ranks_28 ?_
  refine e_ialdN (pc := 29) (130 * a + 1) dX11_ranks_29 (by repeat (first | assumption | exact hset_eq _ _ _ | (apply Lay.hd; assumption) | rw [hset_ne _ _ (by omega)])) (by rfl) (by omega) (by first | decide | omega) ?_
  rw [w2]
  refine n_SP (pc := 30) (c_X11_isIn r (nI 0) (nI (x.ws a).2.1)) bX11_isIn q_st_X11_isIn q_m_X11_98 dX11_ranks_30 rfl rfl (by exact Nat.le_of_ble_eq_true rfl) ⟨by decide, by decide⟩ ⟨rfl, rfl, Nat.zero_le _, Nat.zero_le _⟩ ?_
  rw [inB_ok (by omega)]
  refine n_bif_ne (pc := 33) (tgt := 38) dX11_ranks_33 (by decide) (fun c3 => ?_) (fun c3 => no (by rw [c3, Bool.and_false]) sz _)
  obtain ⟨sd', hsd, rfl⟩ := okI_of (by decide) c2
  obtain ⟨r', hr, rfl⟩ := okI_of (by omega) c3
  refine e_aload_n (pc := 38) dX11_ranks_38 rfl rfl ?_
  refine e_iload_n (pc := 39) dX11_ranks_39 rfl rfl ?_
  refine n_Vv (pc := 40) (c_X11_laysOut hM hR hw (hg.1 a ha) wk ha) bX11_laysOut q_i_X11_laysOut q_s_X11_laysOut q_m_X11_147 dX11_ranks_40 rfl rfl (by repeat (first | assumption | exact hset_eq _ _ _ | (apply Lay.hd; assumption) | rw [hset_ne _ _ (by omega)])) rfl rfl (by exact Nat.le_of_ble_eq_true rfl) ⟨by decide, by decide⟩ ⟨rfl, rfl, Nat.zero_le _, Nat.zero_le _⟩ (fun h2 hp => ?_)
  obtain ⟨l2, -⟩ := id hp
  have pos := wk.pos
  refine n_iconst (pc := 43) 0 dX11_ranks_43 (by decide) ?_
  refine e_istore (pc := 44) dX11_ranks_44 (by decide) ?_
  refine n_iconst (pc := 46) 1 dX11_ranks_46 (by decide) ?_
  refine e_istore (pc := 47) dX11_ranks_47 (by decide) ?_
  have q := l_mrk (hh := h2) (sz := sz) (side := sd') (r := r') (a := nI a) wk hsd (by omega) ((x.ws a).1 ^ (x.ws a).2.1 - 1) 1 rfl (by omega) (by omega) h2 l2 (FmA.rf _ _)
  have e0 : cn 1 (fun x_1 => bl (0 < x_1 ∧ rankE (x.ws a) sd' x_1 = r')) = 0 := by
    rw [cn_s, if_neg (by rw [bl_f (fun z => Nat.lt_irrefl 0 z.1)]; decide)]; rfl
  rw [e0] at q
  refine V.post ?_ q
  intro rr h' z qq
  obtain ⟨e1, z', e2, rfl, e3, e4⟩ := qq
  refine ⟨e1, _, e2, qT (by rw [wld_nI ha, ok6 ha, okq hsd (by decide), okq hr (by omega)]; rfl) ?_, hX.qd hs hp e3 e4.qf⟩
  rw [wld_nI ha, cl_nI (by omega), cl_nI (by omega)]
theorem l_mqu {u v : Nat} {l : Bool} {a : Int32} (hk : Wok W) (hu : u < W.1 ^ W.2.1) (hv : v < W.1 ^ W.2.1) :
    ∀ (t k : Nat), t = W.1 ^ W.2.1 - k → k ≤ W.1 ^ W.2.1 → ∀ h, Lay h m W s → FmA m hh h → (∀ a, a < k → side W u l a ≠ v) → VI MX11_quotient sz (fun z h' => Quo W u v l z ∧ Lay h' m W s ∧ FmA m hh h') h 28 [some (.ref m), some (.int a), some (.int (nI u)), some (.int (nI v)), some (.int (bI l)), some (.int (nI k))] [] := by
  obtain ⟨b1, b2, b3, b4, b5⟩ := hk.b
  intro t
  induction t with
  | zero =>
    intro k e1 e2 h hL fm h0
    have e' : k = W.1 ^ W.2.1 := by omega
    refine e_iload (pc := 28) dX11_quotient_28 rfl ?_
    refine e_aload_n (pc := 30) dX11_quotient_30 rfl rfl ?_
    refine e_get (pc := 31) fl_X11_112 dX11_quotient_31 (by repeat (first | assumption | exact hset_eq _ _ _ | (apply Lay.hd; assumption) | rw [hset_ne _ _ (by omega)])) (by rfl) ?_
    refine n_icmp_ge (pc := 34) (tgt := 72) dX11_quotient_34 (by decide) (by omega) (by omega) (fun hb_ => ?_) (fun c => absurd c (by omega))
    refine e_iconst (pc := 72) (v := -1) dX11_quotient_72 (by decide) ?_
    exact n_iret (pc := 73) dX11_quotient_73 rfl ⟨Or.inr ⟨rfl, fun a ha => h0 a (by omega)⟩, hL, fm⟩
  | succ t ih =>
    intro k e1 e2 h hL fm h0
    have step : ∀ h2, Lay h2 m W s → FmA m hh h2 → VI MX11_quotient sz (fun z h' => Quo W u v l z ∧ Lay h' m W s ∧ FmA m hh h') h2 59 [some (.ref m), some (.int a), some (.int (nI u)), some (.int (nI v)), some (.int (bI l)), some (.int (nI k))] [.int (nI (side W u l k))] := fun h2 l2 f2 => by
      have sl : side W u l k < W.1 ^ W.2.1 := by unfold side; split <;> exact mul_lt hk _ _
      refine e_iload_n (pc := 59) dX11_quotient_59 rfl rfl ?_
      refine n_icmp_ne (pc := 60) (tgt := 66) dX11_quotient_60 (by decide) (by omega) (by omega) (fun c => ?_) (fun c => ?_)
      · refine n_inc (pc := 66) dX11_quotient_66 rfl (by decide) ?_
        refine e_goto (pc := 69) (tgt := 28) dX11_quotient_69 (by decide) ?_
        refine ih (k + 1) (by omega) (by omega) h2 l2 f2 (fun a ha => ?_)
        by_cases e : a = k
        · rw [e]; exact c
        · exact h0 a (by omega)
      · refine e_iload (pc := 63) dX11_quotient_63 rfl ?_
        exact n_iret (pc := 65) dX11_quotient_65 rfl ⟨Or.inl ⟨k, rfl, by omega, c, h0⟩, l2, f2⟩
    refine e_iload (pc := 28) dX11_quotient_28 rfl ?_
    refine e_aload_n (pc := 30) dX11_quotient_30 rfl rfl ?_
    refine e_get (pc := 31) fl_X11_112 dX11_quotient_31 (by repeat (first | assumption | exact hset_eq _ _ _ | (apply Lay.hd; assumption) | rw [hset_ne _ _ (by omega)])) (by rfl) ?_
    refine n_icmp_ge (pc := 34) (tgt := 72) dX11_quotient_34 (by decide) (by omega) (by omega) (fun c => absurd c (by omega)) (fun hb_ => ?_)
    refine e_iload (pc := 37) dX11_quotient_37 rfl ?_
    refine n_bif_eq (pc := 39) (tgt := 52) dX11_quotient_39 (by decide) (fun c => ?_) (fun c => ?_)
    · subst c
      refine e_aload_n (pc := 52) dX11_quotient_52 rfl rfl ?_
      refine e_iload (pc := 53) dX11_quotient_53 rfl ?_
      refine e_iload_n (pc := 55) dX11_quotient_55 rfl rfl ?_
      refine n_V (pc := 56) (c_X11_times hL hk (show k < 2 ^ 31 by omega) (show u < 2 ^ 31 by omega)) bX11_times q_i_X11_times q_s_X11_times q_m_X11_266 dX11_quotient_56 rfl rfl (by repeat (first | assumption | exact hset_eq _ _ _ | (apply Lay.hd; assumption) | rw [hset_ne _ _ (by omega)])) rfl rfl (by exact Nat.le_of_ble_eq_true rfl) ⟨by decide, by decide⟩ ⟨rfl, rfl, Nat.zero_le _, Nat.zero_le _⟩ (fun z h2 hp => ?_)
      obtain ⟨rfl, p1, p2⟩ := hp
      exact step h2 p1 (fm.tr p2.ff)
    · subst c
      refine e_aload_n (pc := 42) dX11_quotient_42 rfl rfl ?_
      refine e_iload_n (pc := 43) dX11_quotient_43 rfl rfl ?_
      refine e_iload (pc := 44) dX11_quotient_44 rfl ?_
      refine n_V (pc := 46) (c_X11_times hL hk (show u < 2 ^ 31 by omega) (show k < 2 ^ 31 by omega)) bX11_times q_i_X11_times q_s_X11_times q_m_X11_266 dX11_quotient_46 rfl rfl (by repeat (first | assumption | exact hset_eq _ _ _ | (apply Lay.hd; assumption) | rw [hset_ne _ _ (by omega)])) rfl rfl (by exact Nat.le_of_ble_eq_true rfl) ⟨by decide, by decide⟩ ⟨rfl, rfl, Nat.zero_le _, Nat.zero_le _⟩ (fun z h2 hp => ?_)
      obtain ⟨rfl, p1, p2⟩ := hp
      refine e_goto (pc := 49) (tgt := 59) dX11_quotient_49 (by decide) ?_
      exact step h2 p1 (fm.tr p2.ff)
theorem c_X11_quotient (hX : MAt h m x y ik len f ft fp) (hx : SxOk x) (w u v : Int32) (l : Bool) : CI yX11_quotient MX11_quotient [.ref m, .int w, .int u, .int v, .int (bI l)] h (fun z h' => Q_quot x w u v l z ∧ MAt h' m x y ik len f ft fp ∧ Er m (m + 107) h h') := by
  obtain ⟨⟨p, n, q, s, hM, hs⟩, hR, ⟨g, hw, hg⟩, -⟩ := id hX
  have no : (okI w 6 && (okI u ((wld x w).1 ^ (wld x w).2.1) && okI v ((wld x w).1 ^ (wld x w).2.1))) = false → ∀ (sz : Nat) (l2 : List (Option Value)), VI MX11_quotient sz (fun z h' => Q_quot x w u v l z ∧ MAt h' m x y ik len f ft fp ∧ Er m (m + 107) h h') h 18 l2 [] := fun q sz l2 => by
    refine e_iconst (pc := 18) (v := -1) dX11_quotient_18 (by decide) ?_
    exact n_iret (pc := 19) dX11_quotient_19 rfl ⟨qF q rfl, hX, Er.rf _ _ _⟩
  refine CI.ofV (by decide) rfl rfl (by simp [Value.category]) (by exact Nat.le_of_ble_eq_true rfl) (fun sz => ?_)
  refine e_aload_n (pc := 0) dX11_quotient_0 rfl rfl ?_
  refine e_iload_n (pc := 1) dX11_quotient_1 rfl rfl ?_
  refine e_iload_n (pc := 2) dX11_quotient_2 rfl rfl ?_
  refine n_VP (pc := 3) (c_X11_isElement hX hx w u) bX11_isElement q_i_X11_isElement q_s_X11_isElement q_m_X11_312 dX11_quotient_3 rfl rfl (by repeat (first | assumption | exact hset_eq _ _ _ | (apply Lay.hd; assumption) | rw [hset_ne _ _ (by omega)])) rfl rfl (by exact Nat.le_of_ble_eq_true rfl) ⟨by decide, by decide⟩ ⟨rfl, rfl, Nat.zero_le _, Nat.zero_le _⟩ ?_
  refine n_bif_eq (pc := 6) (tgt := 18) dX11_quotient_6 (by decide) (fun c => ?_) (fun c => ?_)
  · refine no ?_ sz _
    unfold elB at c
    cases e : okI w 6 with
    | false => rfl
    | true => rw [e, Bool.true_and] at c; rw [c]; rfl
  refine e_aload_n (pc := 9) dX11_quotient_9 rfl rfl ?_
  refine e_iload_n (pc := 10) dX11_quotient_10 rfl rfl ?_
  refine e_iload_n (pc := 11) dX11_quotient_11 rfl rfl ?_
  refine n_VP (pc := 12) (c_X11_isElement hX hx w v) bX11_isElement q_i_X11_isElement q_s_X11_isElement q_m_X11_312 dX11_quotient_12 rfl rfl (by repeat (first | assumption | exact hset_eq _ _ _ | (apply Lay.hd; assumption) | rw [hset_ne _ _ (by omega)])) rfl rfl (by exact Nat.le_of_ble_eq_true rfl) ⟨by decide, by decide⟩ ⟨rfl, rfl, Nat.zero_le _, Nat.zero_le _⟩ ?_
  have d := c
  unfold elB at d
  rw [Bool.and_eq_true] at d
  obtain ⟨d1, d2⟩ := d
  refine n_bif_ne (pc := 15) (tgt := 20) dX11_quotient_15 (by decide) (fun c2 => ?_) (fun c2 => ?_)
  · unfold elB at c2
    rw [d1, Bool.true_and] at c2
    obtain ⟨a, ha, rfl⟩ := okI_of (by decide) d1
    rw [wld_nI ha] at d2 c2
    have wk := hx.1 a (by omega)
    have b := wk.b
    obtain ⟨u', hu, rfl⟩ := okI_of (by omega) d2
    obtain ⟨v', hv, rfl⟩ := okI_of (by omega) c2
    refine e_aload_n (pc := 20) dX11_quotient_20 rfl rfl ?_
    refine e_iload_n (pc := 21) dX11_quotient_21 rfl rfl ?_
    refine n_Vv (pc := 22) (c_X11_laysOut hM hR hw (hg.1 a ha) wk ha) bX11_laysOut q_i_X11_laysOut q_s_X11_laysOut q_m_X11_147 dX11_quotient_22 rfl rfl (by repeat (first | assumption | exact hset_eq _ _ _ | (apply Lay.hd; assumption) | rw [hset_ne _ _ (by omega)])) rfl rfl (by exact Nat.le_of_ble_eq_true rfl) ⟨by decide, by decide⟩ ⟨rfl, rfl, Nat.zero_le _, Nat.zero_le _⟩ (fun h2 hp => ?_)
    obtain ⟨l2, -⟩ := id hp
    refine n_iconst (pc := 25) 0 dX11_quotient_25 (by decide) ?_
    refine e_istore (pc := 26) dX11_quotient_26 (by decide) ?_
    refine V.post ?_ (l_mqu (hh := h2) (a := nI a) wk hu hv ((x.ws a).1 ^ (x.ws a).2.1) 0 rfl (Nat.zero_le _) h2 l2 (FmA.rf _ _) (fun a ha => absurd ha (Nat.not_lt_zero a)))
    intro rr h' z qq
    obtain ⟨e1, z', e2, e0, e3, e4⟩ := qq
    refine ⟨e1, _, e2, qT (by rw [ok6 ha, wld_nI ha, d2, c2]; rfl) ?_, hX.qd hs hp e3 e4.qf⟩
    rw [wld_nI ha, cl_nI (by omega), cl_nI (by omega)]
    exact e0
  · refine no ?_ sz _
    unfold elB at c2
    rw [d1, Bool.true_and] at c2
    rw [c2, Bool.and_false, Bool.and_false]
theorem l_mpw_1 {Pr : Int32 → AH → Prop} {a u : Option Value} (hk : Wok W)
    (kk : ∀ h, Lay h m W s → FmB m hh h → SeA h m (fun _ => false) (W.1 ^ W.2.1) → VI MX11_powers sz Pr h 39 [some (.ref m), a, u, none, none] []) :
    ∀ (t x : Nat), t = W.1 ^ W.2.1 - x → x ≤ W.1 ^ W.2.1 → ∀ h, Lay h m W s → FmB m hh h → SeA h m (fun _ => false) x → VI MX11_powers sz Pr h 18 [some (.ref m), a, u, some (.int (nI x)), none] [] := by
  obtain ⟨b1, b2, b3, b4, b5⟩ := hk.b
  intro t
  induction t with
  | zero =>
    intro x e1 e2 h hL fm h0
    have e' : x = W.1 ^ W.2.1 := by omega
    refine e_iload_n (pc := 18) dX11_powers_18 rfl rfl ?_
    refine e_aload_n (pc := 19) dX11_powers_19 rfl rfl ?_
    refine e_get (pc := 20) fl_X11_112 dX11_powers_20 (by repeat (first | assumption | exact hset_eq _ _ _ | (apply Lay.hd; assumption) | rw [hset_ne _ _ (by omega)])) (by rfl) ?_
    refine n_icmp_ge (pc := 23) (tgt := 39) dX11_powers_23 (by decide) (by omega) (by omega) (fun hb_ => ?_) (fun c => absurd c (by omega))
    refine V.mask [true, true, true, false, false] ?_
    exact kk h hL fm (by rw [← e']; exact h0)
  | succ t ih =>
    intro x e1 e2 h hL fm h0
    obtain ⟨g, g1, g2⟩ := h0
    refine e_iload_n (pc := 18) dX11_powers_18 rfl rfl ?_
    refine e_aload_n (pc := 19) dX11_powers_19 rfl rfl ?_
    refine e_get (pc := 20) fl_X11_112 dX11_powers_20 (by repeat (first | assumption | exact hset_eq _ _ _ | (apply Lay.hd; assumption) | rw [hset_ne _ _ (by omega)])) (by rfl) ?_
    refine n_icmp_ge (pc := 23) (tgt := 39) dX11_powers_23 (by decide) (by omega) (by omega) (fun c => absurd c (by omega)) (fun hb_ => ?_)
    refine e_aload_n (pc := 26) dX11_powers_26 rfl rfl ?_
    refine e_get (pc := 27) fl_X11_59 dX11_powers_27 (by repeat (first | assumption | exact hset_eq _ _ _ | (apply Lay.hd; assumption) | rw [hset_ne _ _ (by omega)])) (by rfl) ?_
    refine e_iload_n (pc := 30) dX11_powers_30 rfl rfl ?_
    refine n_iconst (pc := 31) 0 dX11_powers_31 (by decide) ?_
    refine e_zastN (pc := 32) x dX11_powers_32 (by repeat (first | assumption | exact hset_eq _ _ _ | (apply Lay.hd; assumption) | rw [hset_ne _ _ (by omega)])) (by rfl) (by omega) (by first | decide | omega) ?_
    refine n_inc (pc := 33) dX11_powers_33 rfl (by decide) ?_
    refine e_goto (pc := 36) (tgt := 18) dX11_powers_36 (by decide) ?_
    refine ih (x + 1) (by omega) (by omega) _ (hL.seen _) (fm.set (by omega)) ⟨_, hset_eq _ _ _, fun t ht => ?_⟩
    by_cases e : t = x
    · subst e; rw [pk_us]; rfl
    · rw [pk_un e]; exact g2 t (by omega)
theorem l_mpw {u : Nat} {a : Int32} (hk : Wok W) (hu : u < W.1 ^ W.2.1) :
    ∀ (t k : Nat), t = 243 - k → k ≤ 243 → ∀ h, Lay h m W s → FmB m hh h → SeA h m (pws W u k) (W.1 ^ W.2.1) → (∀ i j, i < k → j < k → pw W u i = pw W u j → i = j) → VI MX11_powers sz (fun z h' => (∃ m, z = nI m ∧ m ≤ 243 ∧ Pws W u m) ∧ Lay h' m W s ∧ FmB m hh h') h 44 [some (.ref m), some (.int a), some (.int (nI u)), some (.int (nI (pw W u k))), some (.int (nI k))] [] := by
  obtain ⟨b1, b2, b3, b4, b5⟩ := hk.b
  intro t
  induction t with
  | zero =>
    intro k e1 e2 h hL fm h0 hd
    have e' : k = 243 := by omega
    obtain ⟨g, g1, g2⟩ := h0
    obtain ⟨i, hi, ei⟩ := onto_of (N := k) (σ := pw W u) (fun i _ => by have := pw_lt hk hu i; omega) hd (pw W u k) (by have := pw_lt hk hu k; omega)
    have pl := pw_lt hk hu k
    have z := g2 (pw W u k) pl
    have z2 : pws W u k (pw W u k) = true := bl_t ⟨i, hi, ei⟩
    rw [z2] at z
    refine e_aload_n (pc := 44) dX11_powers_44 rfl rfl ?_
    refine e_get (pc := 45) fl_X11_59 dX11_powers_45 (by repeat (first | assumption | exact hset_eq _ _ _ | (apply Lay.hd; assumption) | rw [hset_ne _ _ (by omega)])) (by rfl) ?_
    refine e_iload_n (pc := 48) dX11_powers_48 rfl rfl ?_
    refine e_zaldN (pc := 49) (pw W u k) dX11_powers_49 (by repeat (first | assumption | exact hset_eq _ _ _ | (apply Lay.hd; assumption) | rw [hset_ne _ _ (by omega)])) (by rfl) (by omega) (by first | decide | omega) ?_
    rw [z]
    refine n_bif_ne (pc := 50) (tgt := 73) dX11_powers_50 (by decide) (fun _ => ?_) (fun c => by cases c)
    refine e_iload (pc := 73) dX11_powers_73 rfl ?_
    exact n_iret (pc := 75) dX11_powers_75 rfl ⟨⟨k, rfl, e2, hd, i, hi, ei.symm⟩, hL, fm⟩
  | succ t ih =>
    intro k e1 e2 h hL fm h0 hd
    obtain ⟨g, g1, g2⟩ := h0
    have pl := pw_lt hk hu k
    have z := g2 (pw W u k) pl
    refine e_aload_n (pc := 44) dX11_powers_44 rfl rfl ?_
    refine e_get (pc := 45) fl_X11_59 dX11_powers_45 (by repeat (first | assumption | exact hset_eq _ _ _ | (apply Lay.hd; assumption) | rw [hset_ne _ _ (by omega)])) (by rfl) ?_
    refine e_iload_n (pc := 48) dX11_powers_48 rfl rfl ?_
    refine e_zaldN (pc := 49) (pw W u k) dX11_powers_49 (by repeat (first | assumption | exact hset_eq _ _ _ | (apply Lay.hd; assumption) | rw [hset_ne _ _ (by omega)])) (by rfl) (by omega) (by first | decide | omega) ?_
    rw [z]
    refine n_bif_ne (pc := 50) (tgt := 73) dX11_powers_50 (by decide) (fun c => ?_) (fun c => ?_)
    · obtain ⟨i, hi, ei⟩ := bl_iff.mp c
      refine e_iload (pc := 73) dX11_powers_73 rfl ?_
      exact n_iret (pc := 75) dX11_powers_75 rfl ⟨⟨k, rfl, e2, hd, i, hi, ei.symm⟩, hL, fm⟩
    · have hnew : ¬ ∃ i, i < k ∧ pw W u i = pw W u k := fun q => by
        unfold pws at c
        rw [bl_t q] at c
        cases c
      refine e_aload_n (pc := 53) dX11_powers_53 rfl rfl ?_
      refine e_get (pc := 54) fl_X11_59 dX11_powers_54 (by repeat (first | assumption | exact hset_eq _ _ _ | (apply Lay.hd; assumption) | rw [hset_ne _ _ (by omega)])) (by rfl) ?_
      refine e_iload_n (pc := 57) dX11_powers_57 rfl rfl ?_
      refine n_iconst (pc := 58) 1 dX11_powers_58 (by decide) ?_
      refine e_zastN (pc := 59) (pw W u k) dX11_powers_59 (by repeat (first | assumption | exact hset_eq _ _ _ | (apply Lay.hd; assumption) | rw [hset_ne _ _ (by omega)])) (by rfl) (by omega) (by first | decide | omega) ?_
      refine n_inc (pc := 60) dX11_powers_60 rfl (by decide) ?_
      have hL2 : Lay (hset h (m + 95) (aZ 243 (upd g (pw W u k) (vp_nar .boolean (nI 1))))) m W s := hL.seen _
      refine e_aload_n (pc := 63) dX11_powers_63 rfl rfl ?_
      refine e_iload_n (pc := 64) dX11_powers_64 rfl rfl ?_
      refine e_iload_n (pc := 65) dX11_powers_65 rfl rfl ?_
      refine n_V (pc := 66) (c_X11_times hL2 hk (show pw W u k < 2 ^ 31 by omega) (show u < 2 ^ 31 by omega)) bX11_times q_i_X11_times q_s_X11_times q_m_X11_266 dX11_powers_66 rfl rfl (by repeat (first | assumption | exact hset_eq _ _ _ | (apply Lay.hd; assumption) | rw [hset_ne _ _ (by omega)])) rfl rfl (by exact Nat.le_of_ble_eq_true rfl) ⟨by decide, by decide⟩ ⟨rfl, rfl, Nat.zero_le _, Nat.zero_le _⟩ (fun z h2 hp => ?_)
      obtain ⟨rfl, p1, p2⟩ := hp
      refine e_istore_n (pc := 69) dX11_powers_69 rfl (by decide) ?_
      refine e_goto (pc := 70) (tgt := 44) dX11_powers_70 (by decide) ?_
      refine ih (k + 1) (by omega) (by omega) h2 p1 ((fm.set (k := 95) (by omega)).tr p2.ff.fq) ⟨_, (p2 _ (by omega) (by omega) (by omega)).trans (hset_eq _ _ _), fun t ht => ?_⟩ (fun i j hi hj e => ?_)
      · by_cases et : t = pw W u k
        · subst et
          rw [pk_us]
          unfold pws
          rw [bl_t ⟨k, by omega, rfl⟩]; rfl
        · rw [pk_un et, g2 t ht]
          unfold pws
          refine congrArg bI (bl_congr ⟨fun ⟨a, a1, a2⟩ => ⟨a, by omega, a2⟩, fun ⟨a, a1, a2⟩ => ?_⟩)
          by_cases ea : a = k
          · subst ea; exact absurd a2.symm et
          · exact ⟨a, by omega, a2⟩
      · by_cases ei : i = k
        · by_cases ej : j = k
          · omega
          · subst ei; exact absurd ⟨j, by omega, e.symm⟩ hnew
        · by_cases ej : j = k
          · subst ej; exact absurd ⟨i, by omega, e⟩ hnew
          · exact hd i j (by omega) (by omega) e
theorem c_X11_powers (hX : MAt h m x y ik len f ft fp) (hx : SxOk x) (w u : Int32) : CI yX11_powers MX11_powers [.ref m, .int w, .int u] h (fun z h' => Q_pow x w u z ∧ MAt h' m x y ik len f ft fp ∧ Er m (m + 107) h h') := by
  obtain ⟨⟨p, n, q, s, hM, hs⟩, hR, ⟨g, hw, hg⟩, -⟩ := id hX
  refine CI.ofV (by decide) rfl rfl (by simp [Value.category]) (by exact Nat.le_of_ble_eq_true rfl) (fun sz => ?_)
  refine e_aload_n (pc := 0) dX11_powers_0 rfl rfl ?_
  refine e_iload_n (pc := 1) dX11_powers_1 rfl rfl ?_
  refine e_iload_n (pc := 2) dX11_powers_2 rfl rfl ?_
  refine n_VP (pc := 3) (c_X11_isElement hX hx w u) bX11_isElement q_i_X11_isElement q_s_X11_isElement q_m_X11_312 dX11_powers_3 rfl rfl (by repeat (first | assumption | exact hset_eq _ _ _ | (apply Lay.hd; assumption) | rw [hset_ne _ _ (by omega)])) rfl rfl (by exact Nat.le_of_ble_eq_true rfl) ⟨by decide, by decide⟩ ⟨rfl, rfl, Nat.zero_le _, Nat.zero_le _⟩ ?_
  refine n_bif_ne (pc := 6) (tgt := 11) dX11_powers_6 (by decide) (fun c => ?_) (fun c => ?_)
  · have d := c
    unfold elB at d
    rw [Bool.and_eq_true] at d
    obtain ⟨d1, d2⟩ := d
    obtain ⟨a, ha, rfl⟩ := okI_of (by decide) d1
    rw [wld_nI ha] at d2
    have wk := hx.1 a (by omega)
    have b := wk.b
    obtain ⟨u', hu, rfl⟩ := okI_of (by omega) d2
    refine e_aload_n (pc := 11) dX11_powers_11 rfl rfl ?_
    refine e_iload_n (pc := 12) dX11_powers_12 rfl rfl ?_
    refine n_Vv (pc := 13) (c_X11_laysOut hM hR hw (hg.1 a ha) wk ha) bX11_laysOut q_i_X11_laysOut q_s_X11_laysOut q_m_X11_147 dX11_powers_13 rfl rfl (by repeat (first | assumption | exact hset_eq _ _ _ | (apply Lay.hd; assumption) | rw [hset_ne _ _ (by omega)])) rfl rfl (by exact Nat.le_of_ble_eq_true rfl) ⟨by decide, by decide⟩ ⟨rfl, rfl, Nat.zero_le _, Nat.zero_le _⟩ (fun h2 hp => ?_)
    obtain ⟨l2, -⟩ := id hp
    obtain ⟨-, -, ⟨gs, hgs⟩, -⟩ := id l2.2.2
    refine n_iconst (pc := 16) 0 dX11_powers_16 (by decide) ?_
    refine e_istore_n (pc := 17) dX11_powers_17 rfl (by decide) ?_
    refine l_mpw_1 (hh := h2) wk (fun h3 l3 f3 s3 => ?_) ((x.ws a).1 ^ (x.ws a).2.1) 0 rfl (Nat.zero_le _) h2 l2 (FmB.rf _ _) ⟨gs, hgs, fun t ht => absurd ht (Nat.not_lt_zero t)⟩
    refine e_iload_n (pc := 39) dX11_powers_39 rfl rfl ?_
    refine e_istore_n (pc := 40) dX11_powers_40 rfl (by decide) ?_
    refine n_iconst (pc := 41) 0 dX11_powers_41 (by decide) ?_
    refine e_istore (pc := 42) dX11_powers_42 (by decide) ?_
    have e0 : pws (x.ws a) u' 0 = fun _ => false := by
      funext t
      exact bl_f (fun ⟨a, ha, _⟩ => absurd ha (Nat.not_lt_zero a))
    refine V.post ?_ (l_mpw (hh := h2) (a := nI a) wk hu 243 0 rfl (Nat.zero_le _) h3 l3 f3 (by rw [e0]; exact s3) (fun i j hi => absurd hi (Nat.not_lt_zero i)))
    intro rr h' z qq
    obtain ⟨e1, z', e2, e0, e3, e4⟩ := qq
    refine ⟨e1, _, e2, qT c ?_, hX.qd hs hp e3 e4.qf⟩
    rw [wld_nI ha, cl_nI (by omega)]
    exact e0
  · refine e_iconst (pc := 9) (v := -1) dX11_powers_9 (by decide) ?_
    exact n_iret (pc := 10) dX11_powers_10 rfl ⟨qF c rfl, hX, Er.rf _ _ _⟩
end MQ
