/-! ===== the reference: list, take ===== -/
section LT
variable {h : AH} {m : Nat} {x y : Sx} {ik : Bool} {len : Nat} {f : Nat → Nat} {ft fp : Int32} {s : Ms} {p n sz : Nat} {hh : AH}
/-- a cube of the list is laid out -/
theorem lay_lw {h : AH} {q c : Nat} {g : Nat → Int32} (hM : MH h m p n q s) (hq : q = p ^ n) (hR : MRo h m) (hg : ∀ t, t < 125 → g t = nI ((lw p n c).2.2 t)) : Lay (hset h (m + 3) (aI 125 g)) m (lw p n c) s := by
  subst hq
  exact ⟨(hset_ne _ _ (by omega)).trans hM, ⟨g, hset_eq _ _ _, hg⟩, hR.set (isR_d 3 (by decide)) rfl⟩
/-- between two cubes of a list -/
def LsS (hh h : AH) (m p n : Nat) (s : Ms) : Prop := MH h m p n (p ^ n) s ∧ MRo h m ∧ FmC m hh h
theorem LsS.lay {h h2 : AH} {c : Nat} (q : LsS hh h m p n s) (e : ∃ g, h2 = hset h (m + 3) (aI 125 g) ∧ ∀ t, t < 125 → g t = nI ((lw p n c).2.2 t)) : Lay h2 m (lw p n c) s ∧ FmC m hh h2 := by
  obtain ⟨g, rfl, hg⟩ := e
  exact ⟨lay_lw q.1 rfl q.2.1 hg, q.2.2.set (by omega)⟩
theorem LsS.of {h : AH} {c : Nat} (l : Lay h m (lw p n c) s) (e : FmC m hh h) : LsS hh h m p n s := ⟨l.1, l.2.2, e⟩
theorem l_li {w : Nat} {x1 x2 : Value} (hK : Kd p n) (hw : w < 3) :
    ∀ (t k : Nat), t = Lall p n - k → k ≤ Lall p n → ∀ h, LsS hh h m p n s → VI MX11_list sz (fun z h' => z = nI (Lc p n w (Lall p n)) ∧ LsS hh h' m p n s) h 59 [some (.ref m), some x1, some x2, some (.int (nI w)), some (.int (nI (Lall p n))), some (.int (nI (Lc p n w k))), some (.int (nI k))] [] := by
  obtain ⟨k1, k2, k3, k4⟩ := hK.b
  obtain ⟨-, a2, -⟩ := Lall_b hK
  intro t
  induction t with
  | zero =>
    intro k e1 e2 h hS
    have e' : k = Lall p n := by omega
    refine e_iload (pc := 59) dX11_list_59 rfl ?_
    refine e_iload (pc := 61) dX11_list_61 rfl ?_
    refine n_icmp_ge (pc := 63) (tgt := 125) dX11_list_63 (by decide) (by omega) (by omega) (fun hb_ => ?_) (fun c => absurd c (by omega))
    refine e_iload (pc := 125) dX11_list_125 rfl ?_
    exact n_iret (pc := 127) dX11_list_127 rfl ⟨by rw [e'], hS⟩
  | succ t ih =>
    intro k e1 e2 h hS
    have wk : Wok (lw p n k) := lw_ok k4
    obtain ⟨hM, hR, hf⟩ := id hS
    refine e_iload (pc := 59) dX11_list_59 rfl ?_
    refine e_iload (pc := 61) dX11_list_61 rfl ?_
    refine n_icmp_ge (pc := 63) (tgt := 125) dX11_list_63 (by decide) (by omega) (by omega) (fun c => absurd c (by omega)) (fun hb_ => ?_)
    refine e_aload_n (pc := 66) dX11_list_66 rfl rfl ?_
    refine e_iload (pc := 67) dX11_list_67 rfl ?_
    refine n_Vv (pc := 69) (c_X11_laysCube (code := k) hM hR hK (show k < 2 ^ 31 by omega)) bX11_laysCube q_i_X11_laysCube q_s_X11_laysCube q_m_X11_374 dX11_list_69 rfl rfl (by repeat (first | assumption | exact hset_eq _ _ _ | (apply Lay.hd; assumption) | rw [hset_ne _ _ (by omega)])) rfl rfl (by exact Nat.le_of_ble_eq_true rfl) ⟨by decide, by decide⟩ ⟨rfl, rfl, Nat.zero_le _, Nat.zero_le _⟩ (fun h2 hp => ?_)
    obtain ⟨l2, f2⟩ := hS.lay hp
    have no : ∀ h3, Lay h3 m (lw p n k) s → FmC m hh h3 → ¬ Lp p n w k → VI MX11_list sz (fun z h' => z = nI (Lc p n w (Lall p n)) ∧ LsS hh h' m p n s) h3 115 [some (.ref m), some x1, some x2, some (.int (nI w)), some (.int (nI (Lall p n))), some (.int (nI (Lc p n w k))), some (.int (nI k))] [.int (nI (Lc p n w k))] := fun h3 l3 f3 hn => by
      refine n_iconst (pc := 115) 0 dX11_list_115 (by decide) ?_
      refine n_iadd (pc := 116) dX11_list_116 ?_
      refine e_istore (pc := 117) dX11_list_117 (by decide) ?_
      refine n_inc (pc := 119) dX11_list_119 rfl (by decide) ?_
      refine e_goto (pc := 122) (tgt := 59) dX11_list_122 (by decide) ?_
      have q := ih (k + 1) (by omega) (by omega) h3 (LsS.of l3 f3)
      rw [Lc_s, if_neg (fun z => hn (bl_iff.mp z))] at q
      exact q
    have yes : ∀ h3, Lay h3 m (lw p n k) s → FmC m hh h3 → Lp p n w k → VI MX11_list sz (fun z h' => z = nI (Lc p n w (Lall p n)) ∧ LsS hh h' m p n s) h3 111 [some (.ref m), some x1, some x2, some (.int (nI w)), some (.int (nI (Lall p n))), some (.int (nI (Lc p n w k))), some (.int (nI k))] [.int (nI (Lc p n w k))] := fun h3 l3 f3 hn => by
      refine n_iconst (pc := 111) 1 dX11_list_111 (by decide) ?_
      refine e_goto (pc := 112) (tgt := 116) dX11_list_112 (by decide) ?_
      refine n_iadd (pc := 116) dX11_list_116 ?_
      refine e_istore (pc := 117) dX11_list_117 (by decide) ?_
      refine n_inc (pc := 119) dX11_list_119 rfl (by decide) ?_
      refine e_goto (pc := 122) (tgt := 59) dX11_list_122 (by decide) ?_
      have q := ih (k + 1) (by omega) (by omega) h3 (LsS.of l3 f3)
      rw [Lc_s, if_pos (bl_t hn)] at q
      exact q
    refine e_iload (pc := 72) dX11_list_72 rfl ?_
    refine e_aload_n (pc := 74) dX11_list_74 rfl rfl ?_
    refine n_V (pc := 75) (c_X11_firstFail l2 wk) bX11_firstFail q_i_X11_firstFail q_s_X11_firstFail q_m_X11_275 dX11_list_75 rfl rfl (by repeat (first | assumption | exact hset_eq _ _ _ | (apply Lay.hd; assumption) | rw [hset_ne _ _ (by omega)])) rfl rfl (by exact Nat.le_of_ble_eq_true rfl) ⟨by decide, by decide⟩ ⟨rfl, rfl, Nat.zero_le _, Nat.zero_le _⟩ (fun z h3 hp => ?_)
    obtain ⟨p1, l3, f3⟩ := hp
    have f3 := f2.tr f3.qf
    refine e_iconst (pc := 78) (v := -1) dX11_list_78 (by decide) ?_
    by_cases hD : Div (lw p n k)
    · have e := (p1.div wk).mpr hD
      subst e
      refine e_icmp_ne (pc := 79) (tgt := 115) dX11_list_79 (by decide) (fun q => absurd rfl q) (fun _ => ?_)
      refine e_iload_n (pc := 82) dX11_list_82 rfl rfl ?_
      match w, hw with
      | 0, _ =>
        refine n_if_eq (pc := 83) (tgt := 111) dX11_list_83 (by decide) (by omega) (fun hb_ => ?_) (fun c => absurd c (by omega))
        exact yes h3 l3 f3 ⟨hD, trivial⟩
      | 1, _ =>
        refine n_if_eq (pc := 83) (tgt := 111) dX11_list_83 (by decide) (by omega) (fun c => absurd c (by omega)) (fun hb_ => ?_)
        refine e_iload_n (pc := 86) dX11_list_86 rfl rfl ?_
        refine n_iconst (pc := 87) 1 dX11_list_87 (by decide) ?_
        refine n_icmp_ne (pc := 88) (tgt := 98) dX11_list_88 (by decide) (by omega) (by omega) (fun c => absurd c (by omega)) (fun hb_ => ?_)
        refine e_aload_n (pc := 91) dX11_list_91 rfl rfl ?_
        refine n_VP (pc := 92) (c_X11_commutes l3 wk) bX11_commutes q_i_X11_commutes q_s_X11_commutes q_m_X11_285 dX11_list_92 rfl rfl (by repeat (first | assumption | exact hset_eq _ _ _ | (apply Lay.hd; assumption) | rw [hset_ne _ _ (by omega)])) rfl rfl (by exact Nat.le_of_ble_eq_true rfl) ⟨by decide, by decide⟩ ⟨rfl, rfl, Nat.zero_le _, Nat.zero_le _⟩ ?_
        refine n_bif_ne (pc := 95) (tgt := 111) dX11_list_95 (by decide) (fun c => ?_) (fun c => ?_)
        · exact yes h3 l3 f3 ⟨hD, bl_iff.mp c⟩
        · refine e_iload_n (pc := 98) dX11_list_98 rfl rfl ?_
          refine n_iconst (pc := 99) 2 dX11_list_99 (by decide) ?_
          refine n_icmp_ne (pc := 100) (tgt := 115) dX11_list_100 (by decide) (by omega) (by omega) (fun hb_ => ?_) (fun c => absurd c (by omega))
          exact no h3 l3 f3 (fun q => by rw [bl_t (show Wcom (lw p n k) from q.2)] at c; cases c)
      | 2, _ =>
        refine n_if_eq (pc := 83) (tgt := 111) dX11_list_83 (by decide) (by omega) (fun c => absurd c (by omega)) (fun hb_ => ?_)
        refine e_iload_n (pc := 86) dX11_list_86 rfl rfl ?_
        refine n_iconst (pc := 87) 1 dX11_list_87 (by decide) ?_
        refine n_icmp_ne (pc := 88) (tgt := 98) dX11_list_88 (by decide) (by omega) (by omega) (fun hb_ => ?_) (fun c => absurd c (by omega))
        refine e_iload_n (pc := 98) dX11_list_98 rfl rfl ?_
        refine n_iconst (pc := 99) 2 dX11_list_99 (by decide) ?_
        refine n_icmp_ne (pc := 100) (tgt := 115) dX11_list_100 (by decide) (by omega) (by omega) (fun c => absurd c (by omega)) (fun hb_ => ?_)
        refine e_aload_n (pc := 103) dX11_list_103 rfl rfl ?_
        refine n_V (pc := 104) (c_X11_firstApart l3 wk) bX11_firstApart q_i_X11_firstApart q_s_X11_firstApart q_m_X11_288 dX11_list_104 rfl rfl (by repeat (first | assumption | exact hset_eq _ _ _ | (apply Lay.hd; assumption) | rw [hset_ne _ _ (by omega)])) rfl rfl (by exact Nat.le_of_ble_eq_true rfl) ⟨by decide, by decide⟩ ⟨rfl, rfl, Nat.zero_le _, Nat.zero_le _⟩ (fun z h4 hp => ?_)
        obtain ⟨p4, l4, f4⟩ := hp
        have f4 := f3.tr f4.qf
        refine e_iconst (pc := 107) (v := -1) dX11_list_107 (by decide) ?_
        rcases p4 with ⟨i, j, k', rfl, i1, j1, k1', hn, -⟩ | ⟨rfl, hj⟩
        · have wk3 := wk.b
          refine e_icmp_ne (pc := 108) (tgt := 115) dX11_list_108 (by decide) (fun _ => ?_) (fun q => absurd q (nI_ne (by omega)))
          exact no h4 l4 f4 (fun q => hn (q.2 i j k' i1 j1 k1'))
        · refine e_icmp_ne (pc := 108) (tgt := 115) dX11_list_108 (by decide) (fun q => absurd rfl q) (fun _ => ?_)
          exact yes h4 l4 f4 ⟨hD, hj⟩
      | w + 3, hw => exact absurd hw (by omega)
    · have ne : z ≠ -1 := fun e => hD ((p1.div wk).mp e)
      refine e_icmp_ne (pc := 79) (tgt := 115) dX11_list_79 (by decide) (fun _ => ?_) (fun q => absurd q ne)
      exact no h3 l3 f3 (fun q => hD q.1)
theorem LsS.at (hX : MAt h m x y ik len f ft fp) (hs : Pst s ik len ft fp) {h2 : AH} (q : LsS h h2 m p n s) : MAt h2 m x y ik len f ft fp ∧ Er m (m + 107) h h2 := ⟨hX.re q.1 hs q.2.1 q.2.2, q.2.2.er⟩
theorem LsS.start {p0 n0 q0 : Nat} (hM : MH h m p0 n0 q0 s) (hR : MRo h m) : LsS h (hset h m (ob 10 (mfs m p n (p ^ n) s))) m p n s := ⟨hset_eq _ _ _, hR.hd, fun b hb => hset_ne _ _ (by omega)⟩
theorem c_X11_list (hX : MAt h m x y ik len f ft fp) (a b w : Int32) : CI yX11_list MX11_list [.ref m, .int a, .int b, .int w] h (fun z h' => LstC a b w z ∧ MAt h' m x y ik len f ft fp ∧ Er m (m + 107) h h') := by
  obtain ⟨⟨p0, n0, q0, s, hM, hs⟩, hR, -⟩ := id hX
  have no : (∀ p n k, a = nI p → b = nI n → Kd p n → w = nI k → ¬ k < 3) → ∀ (sz : Nat) (l : List (Option Value)), VI MX11_list sz (fun z h' => LstC a b w z ∧ MAt h' m x y ik len f ft fp ∧ Er m (m + 107) h h') h 18 l [] := fun q sz l => by
    refine e_iconst (pc := 18) (v := -1) dX11_list_18 (by decide) ?_
    exact n_iret (pc := 19) dX11_list_19 rfl ⟨Or.inr ⟨rfl, q⟩, hX, Er.rf _ _ _⟩
  refine CI.ofV (by decide) rfl rfl (by simp [Value.category]) (by exact Nat.le_of_ble_eq_true rfl) (fun sz => ?_)
  refine e_aload_n (pc := 0) dX11_list_0 rfl rfl ?_
  refine e_iload_n (pc := 1) dX11_list_1 rfl rfl ?_
  refine e_iload_n (pc := 2) dX11_list_2 rfl rfl ?_
  refine n_V (pc := 3) (c_X11_isList a b) bX11_isList q_i_X11_isList q_s_X11_isList q_m_X11_368 dX11_list_3 rfl rfl (by repeat (first | assumption | exact hset_eq _ _ _ | (apply Lay.hd; assumption) | rw [hset_ne _ _ (by omega)])) rfl rfl (by exact Nat.le_of_ble_eq_true rfl) ⟨by decide, by decide⟩ ⟨rfl, rfl, Nat.zero_le _, Nat.zero_le _⟩ (fun z h2 hp => ?_)
  obtain ⟨hz, rfl⟩ := hp
  rcases hz with ⟨p, n, rfl, rfl, hK, rfl⟩ | ⟨rfl, hno⟩
  · obtain ⟨k1, k2, k3, k4⟩ := hK.b
    refine n_bif_eq (pc := 6) (tgt := 18) dX11_list_6 (by decide) (fun c => by cases c) (fun _ => ?_)
    refine e_iload_n (pc := 9) dX11_list_9 rfl rfl ?_
    refine n_iconst (pc := 10) 0 dX11_list_10 (by decide) ?_
    refine n_iconst (pc := 11) 2 dX11_list_11 (by decide) ?_
    refine n_SP (pc := 12) (c_X11_isIn w (nI 0) (nI 2)) bX11_isIn q_st_X11_isIn q_m_X11_98 dX11_list_12 rfl rfl (by exact Nat.le_of_ble_eq_true rfl) ⟨by decide, by decide⟩ ⟨rfl, rfl, Nat.zero_le _, Nat.zero_le _⟩ ?_
    rw [inB_ok (by decide)]
    refine n_bif_ne (pc := 15) (tgt := 20) dX11_list_15 (by decide) (fun c => ?_) (fun c => ?_)
    · obtain ⟨w', hw, rfl⟩ := okI_of (by decide) c
      refine e_aload_n (pc := 20) dX11_list_20 rfl rfl ?_
      refine e_iload_n (pc := 21) dX11_list_21 rfl rfl ?_
      refine e_iload_n (pc := 22) dX11_list_22 rfl rfl ?_
      refine n_Vv (pc := 23) (c_X11_sizes hM (show n < 2 ^ 31 by omega)) bX11_sizes q_i_X11_sizes q_s_X11_sizes q_m_X11_371 dX11_list_23 rfl rfl (by repeat (first | assumption | exact hset_eq _ _ _ | (apply Lay.hd; assumption) | rw [hset_ne _ _ (by omega)])) rfl rfl (by exact Nat.le_of_ble_eq_true rfl) ⟨by decide, by decide⟩ ⟨rfl, rfl, Nat.zero_le _, Nat.zero_le _⟩ (fun h2 hp => ?_)
      subst hp
      have hS := LsS.start (p := p) (n := n) hM hR
      generalize hset h2 m (ob 10 (mfs m p n (p ^ n) s)) = h3 at hS ⊢
      have hM3 := hS.1
      have pw : (n - 1) * (n - 1) * n < 2 ^ 31 := by rcases k2 with rfl | rfl <;> decide
      refine e_aload_n (pc := 26) dX11_list_26 rfl rfl ?_
      refine e_get (pc := 27) fl_X11_106 dX11_list_27 (by repeat (first | assumption | exact hset_eq _ _ _ | (apply Lay.hd; assumption) | rw [hset_ne _ _ (by omega)])) (by rfl) ?_
      refine e_aload_n (pc := 30) dX11_list_30 rfl rfl ?_
      refine e_get (pc := 31) fl_X11_109 dX11_list_31 (by repeat (first | assumption | exact hset_eq _ _ _ | (apply Lay.hd; assumption) | rw [hset_ne _ _ (by omega)])) (by rfl) ?_
      refine n_iconst (pc := 34) 1 dX11_list_34 (by decide) ?_
      refine n_isub (pc := 35) dX11_list_35 (by omega) ?_
      refine e_aload_n (pc := 36) dX11_list_36 rfl rfl ?_
      refine e_get (pc := 37) fl_X11_109 dX11_list_37 (by repeat (first | assumption | exact hset_eq _ _ _ | (apply Lay.hd; assumption) | rw [hset_ne _ _ (by omega)])) (by rfl) ?_
      refine n_iconst (pc := 40) 1 dX11_list_40 (by decide) ?_
      refine n_isub (pc := 41) dX11_list_41 (by omega) ?_
      refine n_imul (pc := 42) dX11_list_42 ?_
      refine e_aload_n (pc := 43) dX11_list_43 rfl rfl ?_
      refine e_get (pc := 44) fl_X11_109 dX11_list_44 (by repeat (first | assumption | exact hset_eq _ _ _ | (apply Lay.hd; assumption) | rw [hset_ne _ _ (by omega)])) (by rfl) ?_
      refine n_imul (pc := 47) dX11_list_47 ?_
      refine n_SP (pc := 48) (c_X11_power pw) bX11_power q_st_X11_power q_m_X11_102 dX11_list_48 rfl rfl (by exact Nat.le_of_ble_eq_true rfl) ⟨by decide, by decide⟩ ⟨rfl, rfl, Nat.zero_le _, Nat.zero_le _⟩ ?_
      refine e_istore (pc := 51) dX11_list_51 (by decide) ?_
      refine n_iconst (pc := 53) 0 dX11_list_53 (by decide) ?_
      refine e_istore (pc := 54) dX11_list_54 (by decide) ?_
      refine n_iconst (pc := 56) 0 dX11_list_56 (by decide) ?_
      refine e_istore (pc := 57) dX11_list_57 (by decide) ?_
      refine V.post ?_ (l_li (hh := h2) (sz := sz) (x1 := .int (nI p)) (x2 := .int (nI n)) hK hw (Lall p n) 0 rfl (Nat.zero_le _) h3 hS)
      intro rr h' z qq
      obtain ⟨e1, z', e2, rfl, e3⟩ := qq
      exact ⟨e1, _, e2, Or.inl ⟨p, n, w', rfl, rfl, hK, rfl, hw, rfl⟩, e3.at hX hs⟩
    · refine no (fun p2 n2 k e1 e2 hK2 e3 hk => ?_) sz _
      rw [e3, okq (show k < 2 + 1 by omega) (by omega)] at c
      cases c
  · refine n_bif_eq (pc := 6) (tgt := 18) dX11_list_6 (by decide) (fun _ => ?_) (fun c => by cases c)
    exact no (fun p n k e1 e2 hK _ => absurd hK (hno p n e1 e2)) sz _
theorem l_ta {t0 w : Nat} {x1 x2 x3 : Value} (hX : MAt hh m x y ik len f ft fp) (hx : SxOk x) (hs : Pst s ik len ft fp) (hK : Kd p n) (hw : w < 6) (ht0 : t0 < 2 ^ 31) :
    ∀ (t k : Nat), t = Lall p n - k → k ≤ Lall p n → Lc p n 0 k ≤ t0 → ∀ h, LsS hh h m p n s → VI MX11_take sz (fun z h' => ((z = nI 1 ∧ ∃ c, c < Lall p n ∧ Div (lw p n c) ∧ t0 = Lc p n 0 c ∧ MAt h' m (x.tellW w (lw p n c)) y ik len f ft fp) ∨ (z = nI 0 ∧ Lc p n 0 (Lall p n) ≤ t0 ∧ MAt h' m x y ik len f ft fp)) ∧ Er m (m + 107) hh h') h 62 [some (.ref m), some x1, some x2, some x3, some (.int (nI w)), some (.int (nI (Lall p n))), some (.int (nI (t0 - Lc p n 0 k))), some (.int (nI k))] [] := by
  obtain ⟨k1, k2, k3, k4⟩ := hK.b
  obtain ⟨-, a2, -⟩ := Lall_b hK
  intro t
  induction t with
  | zero =>
    intro k e1 e2 e3 h hS
    have e' : k = Lall p n := by omega
    refine e_iload (pc := 62) dX11_take_62 rfl ?_
    refine e_iload (pc := 64) dX11_take_64 rfl ?_
    refine n_icmp_ge (pc := 66) (tgt := 112) dX11_take_66 (by decide) (by omega) (by omega) (fun hb_ => ?_) (fun c => absurd c (by omega))
    refine n_iconst (pc := 112) 0 dX11_take_112 (by decide) ?_
    obtain ⟨q1, q2⟩ := hS.at hX hs
    exact n_zret (pc := 113) dX11_take_113 rfl rfl ⟨Or.inr ⟨rfl, by rw [← e']; exact e3, q1⟩, q2⟩
  | succ t ih =>
    intro k e1 e2 e3 h hS
    have wk : Wok (lw p n k) := lw_ok k4
    obtain ⟨hM, hR, hf⟩ := id hS
    have l32 := Lc_32 hK (show k ≤ Lall p n by omega)
    refine e_iload (pc := 62) dX11_take_62 rfl ?_
    refine e_iload (pc := 64) dX11_take_64 rfl ?_
    refine n_icmp_ge (pc := 66) (tgt := 112) dX11_take_66 (by decide) (by omega) (by omega) (fun c => absurd c (by omega)) (fun hb_ => ?_)
    refine e_aload_n (pc := 69) dX11_take_69 rfl rfl ?_
    refine e_iload (pc := 70) dX11_take_70 rfl ?_
    refine n_Vv (pc := 72) (c_X11_laysCube (code := k) hM hR hK (show k < 2 ^ 31 by omega)) bX11_laysCube q_i_X11_laysCube q_s_X11_laysCube q_m_X11_374 dX11_take_72 rfl rfl (by repeat (first | assumption | exact hset_eq _ _ _ | (apply Lay.hd; assumption) | rw [hset_ne _ _ (by omega)])) rfl rfl (by exact Nat.le_of_ble_eq_true rfl) ⟨by decide, by decide⟩ ⟨rfl, rfl, Nat.zero_le _, Nat.zero_le _⟩ (fun h2 hp => ?_)
    obtain ⟨l2, f2⟩ := hS.lay hp
    refine e_aload_n (pc := 75) dX11_take_75 rfl rfl ?_
    refine n_V (pc := 76) (c_X11_firstFail l2 wk) bX11_firstFail q_i_X11_firstFail q_s_X11_firstFail q_m_X11_275 dX11_take_76 rfl rfl (by repeat (first | assumption | exact hset_eq _ _ _ | (apply Lay.hd; assumption) | rw [hset_ne _ _ (by omega)])) rfl rfl (by exact Nat.le_of_ble_eq_true rfl) ⟨by decide, by decide⟩ ⟨rfl, rfl, Nat.zero_le _, Nat.zero_le _⟩ (fun z h3 hp => ?_)
    obtain ⟨p1, l3, f3⟩ := hp
    have f3 := f2.tr f3.qf
    refine e_iconst (pc := 79) (v := -1) dX11_take_79 (by decide) ?_
    by_cases hD : Div (lw p n k)
    · have e := (p1.div wk).mpr hD
      subst e
      have ls : Lc p n 0 (k + 1) = Lc p n 0 k + 1 := by rw [Lc_s, if_pos (bl_t (show Lp p n 0 k from ⟨hD, trivial⟩))]
      refine e_icmp_eq (pc := 80) (tgt := 86) dX11_take_80 (by decide) (fun _ => ?_) (fun q => absurd rfl q)
      refine e_iload (pc := 86) dX11_take_86 rfl ?_
      refine n_if_ne (pc := 88) (tgt := 103) dX11_take_88 (by decide) (by omega) (fun c => ?_) (fun c => ?_)
      · obtain ⟨d, hd⟩ : ∃ d, t0 - Lc p n 0 k = d + 1 := ⟨t0 - Lc p n 0 k - 1, by omega⟩
        rw [hd]
        refine n_dec (pc := 103) dX11_take_103 rfl (by decide) ?_
        refine n_inc (pc := 106) dX11_take_106 rfl (by decide) ?_
        refine e_goto (pc := 109) (tgt := 62) dX11_take_109 (by decide) ?_
        have q := ih (k + 1) (by omega) (by omega) (by omega) h3 (LsS.of l3 f3)
        rw [ls, show t0 - (Lc p n 0 k + 1) = d by omega] at q
        exact q
      · obtain ⟨⟨g, hw1⟩, hX3⟩ : (∃ g, h3 (m + 1) = some (aI 6070 g) ∧ WR g x) ∧ MAt h3 m x y ik len f ft fp := by
          have q := ((LsS.of l3 f3).at hX hs).1
          exact ⟨q.2.2.1, q⟩
        obtain ⟨hw1, hg⟩ := hw1
        refine e_aload_n (pc := 91) dX11_take_91 rfl rfl ?_
        refine e_iload (pc := 92) dX11_take_92 rfl ?_
        refine e_aload_n (pc := 94) dX11_take_94 rfl rfl ?_
        refine e_get (pc := 95) fl_X11_16 dX11_take_95 (by repeat (first | assumption | exact hset_eq _ _ _ | (apply Lay.hd; assumption) | rw [hset_ne _ _ (by omega)])) (by rfl) ?_
        refine n_Vv (pc := 98) (c_X11_becomes (W := lw p n k) l3.1 hw1 hx hg hw l3.2.1 (by omega)) bX11_becomes q_i_X11_becomes q_s_X11_becomes q_m_X11_154 dX11_take_98 rfl rfl (by repeat (first | assumption | exact hset_eq _ _ _ | (apply Lay.hd; assumption) | rw [hset_ne _ _ (by omega)])) rfl rfl (by exact Nat.le_of_ble_eq_true rfl) ⟨by decide, by decide⟩ ⟨rfl, rfl, Nat.zero_le _, Nat.zero_le _⟩ (fun h4 hp => ?_)
        obtain ⟨g4, p4, p5⟩ := hp
        obtain ⟨u1, u2⟩ := hX3.nw p4 p5
        refine n_iconst (pc := 101) 1 dX11_take_101 (by decide) ?_
        exact n_zret (pc := 102) dX11_take_102 rfl rfl ⟨Or.inl ⟨rfl, k, by omega, hD, by omega, u1⟩, f3.er.tr u2⟩
    · have ne : z ≠ -1 := fun e => hD ((p1.div wk).mp e)
      have ls : Lc p n 0 (k + 1) = Lc p n 0 k := by rw [Lc_s, if_neg (fun q => hD (bl_iff.mp q).1)]; rfl
      refine e_icmp_eq (pc := 80) (tgt := 86) dX11_take_80 (by decide) (fun q => absurd q ne) (fun _ => ?_)
      refine e_goto (pc := 83) (tgt := 106) dX11_take_83 (by decide) ?_
      refine n_inc (pc := 106) dX11_take_106 rfl (by decide) ?_
      refine e_goto (pc := 109) (tgt := 62) dX11_take_109 (by decide) ?_
      have q := ih (k + 1) (by omega) (by omega) (by omega) h3 (LsS.of l3 f3)
      rw [ls] at q
      exact q
theorem c_X11_take (hX : MAt h m x y ik len f ft fp) (hx : SxOk x) (a b i w : Int32) : CI yX11_take MX11_take [.ref m, .int a, .int b, .int i, .int w] h (fun z h' => ∃ x2, QS_take x a b i w z x2 ∧ MAt h' m x2 y ik len f ft fp ∧ Er m (m + 107) h h') := by
  obtain ⟨⟨p0, n0, q0, s, hM, hs⟩, hR, -⟩ := id hX
  have no : (okI w 6 = false ∨ ¬ LstH a b i) → ∀ (sz : Nat) (l : List (Option Value)), VI MX11_take sz (fun z h' => ∃ x2, QS_take x a b i w z x2 ∧ MAt h' m x2 y ik len f ft fp ∧ Er m (m + 107) h h') h 21 l [] := fun q sz l => by
    refine n_iconst (pc := 21) 0 dX11_take_21 (by decide) ?_
    exact n_zret (pc := 22) dX11_take_22 rfl rfl ⟨x, Or.inr ⟨q, rfl, rfl⟩, hX, Er.rf _ _ _⟩
  refine CI.ofV (by decide) rfl rfl (by simp [Value.category]) (by exact Nat.le_of_ble_eq_true rfl) (fun sz => ?_)
  refine e_aload_n (pc := 0) dX11_take_0 rfl rfl ?_
  refine e_iload_n (pc := 1) dX11_take_1 rfl rfl ?_
  refine e_iload_n (pc := 2) dX11_take_2 rfl rfl ?_
  refine n_V (pc := 3) (c_X11_isList a b) bX11_isList q_i_X11_isList q_s_X11_isList q_m_X11_368 dX11_take_3 rfl rfl (by repeat (first | assumption | exact hset_eq _ _ _ | (apply Lay.hd; assumption) | rw [hset_ne _ _ (by omega)])) rfl rfl (by exact Nat.le_of_ble_eq_true rfl) ⟨by decide, by decide⟩ ⟨rfl, rfl, Nat.zero_le _, Nat.zero_le _⟩ (fun z h2 hp => ?_)
  obtain ⟨hz, rfl⟩ := hp
  rcases hz with ⟨p, n, rfl, rfl, hK, rfl⟩ | ⟨rfl, hno⟩
  · obtain ⟨k1, k2, k3, k4⟩ := hK.b
    refine n_bif_eq (pc := 6) (tgt := 21) dX11_take_6 (by decide) (fun c => by cases c) (fun _ => ?_)
    refine e_iload_n (pc := 9) dX11_take_9 rfl rfl ?_
    refine e_if_lt (pc := 10) (tgt := 21) dX11_take_10 (by decide) (fun c => ?_) (fun c => ?_)
    · refine no (Or.inr (fun ⟨p2, n2, t, e1, e2, hK2, e3, e4⟩ => ?_)) sz _
      have := Lc_32 hK2 (Nat.le_refl _)
      rw [e3] at c
      exact nI_pos (by omega) c
    · refine e_iload (pc := 13) dX11_take_13 rfl ?_
      refine n_SP (pc := 15) (c_X11_isWorld w) bX11_isWorld q_st_X11_isWorld q_m_X11_143 dX11_take_15 rfl rfl (by exact Nat.le_of_ble_eq_true rfl) ⟨by decide, by decide⟩ ⟨rfl, rfl, Nat.zero_le _, Nat.zero_le _⟩ ?_
      refine n_bif_ne (pc := 18) (tgt := 23) dX11_take_18 (by decide) (fun cw => ?_) (fun cw => no (Or.inl cw) sz _)
      obtain ⟨w', hw, rfl⟩ := okI_of (by decide) cw
      obtain ⟨t0, ht0, rfl⟩ : ∃ t, t < 2 ^ 31 ∧ i = nI t := by
        have hi : (0 : Int32) ≤ i := Int32.not_lt.mp c
        have h2 := Int32.le_iff_toInt_le.mp hi
        have h3 : i.toInt < 2 ^ 31 := Int32.toInt_lt i
        have h4 : (0 : Int) ≤ i.toInt := h2
        refine ⟨i.toInt.toNat, by omega, ?_⟩
        show i = Int32.ofNat i.toInt.toNat
        rw [← Int32.ofInt_eq_ofNat, Int.toNat_of_nonneg h4, Int32.ofInt_toInt]
      refine e_aload_n (pc := 23) dX11_take_23 rfl rfl ?_
      refine e_iload_n (pc := 24) dX11_take_24 rfl rfl ?_
      refine e_iload_n (pc := 25) dX11_take_25 rfl rfl ?_
      refine n_Vv (pc := 26) (c_X11_sizes hM (show n < 2 ^ 31 by omega)) bX11_sizes q_i_X11_sizes q_s_X11_sizes q_m_X11_371 dX11_take_26 rfl rfl (by repeat (first | assumption | exact hset_eq _ _ _ | (apply Lay.hd; assumption) | rw [hset_ne _ _ (by omega)])) rfl rfl (by exact Nat.le_of_ble_eq_true rfl) ⟨by decide, by decide⟩ ⟨rfl, rfl, Nat.zero_le _, Nat.zero_le _⟩ (fun h2 hp => ?_)
      subst hp
      have hS := LsS.start (p := p) (n := n) hM hR
      generalize hset h2 m (ob 10 (mfs m p n (p ^ n) s)) = h3 at hS ⊢
      have hM3 := hS.1
      have pw : (n - 1) * (n - 1) * n < 2 ^ 31 := by rcases k2 with rfl | rfl <;> decide
      refine e_aload_n (pc := 29) dX11_take_29 rfl rfl ?_
      refine e_get (pc := 30) fl_X11_106 dX11_take_30 (by repeat (first | assumption | exact hset_eq _ _ _ | (apply Lay.hd; assumption) | rw [hset_ne _ _ (by omega)])) (by rfl) ?_
      refine e_aload_n (pc := 33) dX11_take_33 rfl rfl ?_
      refine e_get (pc := 34) fl_X11_109 dX11_take_34 (by repeat (first | assumption | exact hset_eq _ _ _ | (apply Lay.hd; assumption) | rw [hset_ne _ _ (by omega)])) (by rfl) ?_
      refine n_iconst (pc := 37) 1 dX11_take_37 (by decide) ?_
      refine n_isub (pc := 38) dX11_take_38 (by omega) ?_
      refine e_aload_n (pc := 39) dX11_take_39 rfl rfl ?_
      refine e_get (pc := 40) fl_X11_109 dX11_take_40 (by repeat (first | assumption | exact hset_eq _ _ _ | (apply Lay.hd; assumption) | rw [hset_ne _ _ (by omega)])) (by rfl) ?_
      refine n_iconst (pc := 43) 1 dX11_take_43 (by decide) ?_
      refine n_isub (pc := 44) dX11_take_44 (by omega) ?_
      refine n_imul (pc := 45) dX11_take_45 ?_
      refine e_aload_n (pc := 46) dX11_take_46 rfl rfl ?_
      refine e_get (pc := 47) fl_X11_109 dX11_take_47 (by repeat (first | assumption | exact hset_eq _ _ _ | (apply Lay.hd; assumption) | rw [hset_ne _ _ (by omega)])) (by rfl) ?_
      refine n_imul (pc := 50) dX11_take_50 ?_
      refine n_SP (pc := 51) (c_X11_power pw) bX11_power q_st_X11_power q_m_X11_102 dX11_take_51 rfl rfl (by exact Nat.le_of_ble_eq_true rfl) ⟨by decide, by decide⟩ ⟨rfl, rfl, Nat.zero_le _, Nat.zero_le _⟩ ?_
      refine e_istore (pc := 54) dX11_take_54 (by decide) ?_
      refine e_iload_n (pc := 56) dX11_take_56 rfl rfl ?_
      refine e_istore (pc := 57) dX11_take_57 (by decide) ?_
      refine n_iconst (pc := 59) 0 dX11_take_59 (by decide) ?_
      refine e_istore (pc := 60) dX11_take_60 (by decide) ?_
      refine V.post ?_ (l_ta (hh := h2) (sz := sz) (x1 := .int (nI p)) (x2 := .int (nI n)) (x3 := .int (nI t0)) hX hx hs hK hw ht0 (Lall p n) 0 rfl (Nat.zero_le _) (Nat.zero_le _) h3 hS)
      intro rr h' z qq
      obtain ⟨e1, z', e2, e3, e4⟩ := qq
      refine ⟨e1, z', e2, ?_⟩
      rcases e3 with ⟨rfl, c2, c3, c4, c5, c6⟩ | ⟨rfl, c2, c3⟩
      · exact ⟨_, Or.inl ⟨cw, rfl, p, n, c2, rfl, rfl, hK, c3, c4, by rw [c5], by rw [cl_nI (by omega)]⟩, c6, e4⟩
      · refine ⟨x, Or.inr ⟨Or.inr (fun ⟨p2, n2, t, e1, e2, hK2, e3, e4⟩ => ?_), rfl, rfl⟩, c3, e4⟩
        obtain ⟨d1, d2, d3, -⟩ := hK2.b
        have l32 := Lc_32 hK2 (Nat.le_refl _)
        have f1 := (nI_eq (by omega) (by omega)).mp e1
        have f2 := (nI_eq (by omega) (by omega)).mp e2
        have f3 := (nI_eq (by omega) (by omega)).mp e3
        subst f1
        subst f2
        omega
  · refine n_bif_eq (pc := 6) (tgt := 21) dX11_take_6 (by decide) (fun _ => ?_) (fun c => by cases c)
    exact no (Or.inr (fun ⟨p, n, t, e1, e2, hK, _⟩ => hno p n e1 e2 hK)) sz _
end LT
