/-! ===== the law's world held against the class's ===== -/
theorem q_then {b : Bool} {P Q : Prop} (hb : b = true) (h : if b = true then P else Q) : P := by rwa [if_pos hb] at h
theorem q_else {b : Bool} {P Q : Prop} (hb : b = false) (h : if b = true then P else Q) : Q := by rwa [if_neg (by rw [hb]; decide)] at h
theorem wld_nI {x : Sx} {W : Wd} {r : Nat} (hx : x.ws r = W) (hr : r < 6) : wld x (nI r) = W := by unfold wld; rw [cl_nI (by omega)]; exact hx
theorem okO {n q : Nat} (h : q ≤ n) (hn : n < 2 ^ 31) : okI (nI n) q = false := by rw [okI_nI hn (by omega)]; exact decide_eq_false (by omega)
theorem q_cube {x : Sx} {W : Wd} {r i j k : Nat} {z : Int32} (hx : x.ws r = W) (hr : r < 6) (hi : i < W.2.1) (hj : j < W.2.1) (hk : k < W.2.1) (hn : W.2.1 ≤ 5) (q : Q_cube x (nI r) (nI i) (nI j) (nI k) z) : z = nI (W.2.2 (25 * i + 5 * j + k)) := by
  have q2 := q_then (by rw [wld_nI hx hr, ok6 hr, okq hi (by omega), okq hj (by omega), okq hk (by omega)]; rfl) q
  rw [wld_nI hx hr, cl_nI (show i < 2 ^ 31 by omega), cl_nI (show j < 2 ^ 31 by omega), cl_nI (show k < 2 ^ 31 by omega)] at q2
  exact q2
theorem q_cubeO {x : Sx} {W : Wd} {r : Nat} {z : Int32} {j k : Int32} (hx : x.ws r = W) (hr : r < 6) (hn : W.2.1 ≤ 5) (q : Q_cube x (nI r) (nI W.2.1) j k z) : z = -1 :=
  q_else (by rw [wld_nI hx hr, okO (Nat.le_refl _) (by omega), Bool.false_and, Bool.false_and, Bool.and_false]) q
theorem q_of {x : Sx} {W : Wd} {r : Nat} {t z : Int32} (hx : x.ws r = W) (hr : r < 6) (q : Q_of x (nI r) t z) : OfP W t z := by
  have q2 := q_then (ok6 hr) q
  rwa [wld_nI hx hr] at q2
theorem of_0 {W : Wd} {z : Int32} (q : OfP W (nI 0) z) : z = nI W.1 := by unfold OfP at q; rwa [if_pos rfl] at q
theorem of_1 {W : Wd} {z : Int32} (q : OfP W (nI 1) z) : z = nI W.2.1 := by unfold OfP at q; rwa [if_neg (by decide), if_pos rfl] at q
theorem of_2 {W : Wd} {z : Int32} (q : OfP W (nI 2) z) : z = nI (W.1 ^ W.2.1) := by unfold OfP at q; rwa [if_neg (by decide), if_neg (by decide), if_pos rfl] at q
section LH
variable {ro : RT} {h : AH} {o w r len : Nat} {x y : Sx} {W : Wd} {tb : Value} {ik : Bool} {f : Nat → Nat} {ft fp : Int32}
/-- the class's object as it was asked, all else as it was -/
def SmI (h h2 : AH) (o : Nat) (x y : Sx) (ik : Bool) (len : Nat) (f : Nat → Nat) (ft fp : Int32) : Prop := XAt h2 o x y ik len f ft fp ∧ Er o (o + 303) h h2
theorem SmI.lw {h2 : AH} (hI : SmI h h2 o x y ik len f ft fp) (hW : LW h w W tb) (hw : o + 303 ≤ w) : LW h2 w W tb := hW.kept (fun q q1 q2 => hI.2 q (Or.inr (by omega)))
theorem l_sm_k {sz i j : Nat} {Pr : Int32 → AH → Prop} (hW : LW h w W tb) (hk : Wok W) (hr : r < 6) (hx : x.ws r = W) (hw : o + 303 ≤ w) (hi : i < W.2.1) (hj : j < W.2.1)
    (kk : ∀ h2, SmI h h2 o x y ik len f ft fp → VIS ro MX11_isSame sz Pr h2 67 [some (.ref w), some (.ref o), some (.int (nI r)), some (.int (nI i)), some (.int (nI j)), none] []) :
    ∀ (m k : Nat), m = W.2.1 - k → k ≤ W.2.1 → ∀ h2, SmI h h2 o x y ik len f ft fp → VIS ro MX11_isSame sz Pr h2 25 [some (.ref w), some (.ref o), some (.int (nI r)), some (.int (nI i)), some (.int (nI j)), some (.int (nI k))] [] := by
  have bb := hk.b
  have hk4 := hk.2.2.2.2
  intro m
  induction m with
  | zero =>
    intro k e1 e2 h2 hI
    have : k = W.2.1 := by omega
    subst this
    obtain ⟨w1, -⟩ := id (hI.lw hW hw)
    refine ze_iload (pc := 25) dX11_isSame_25 rfl ?_
    refine ze_aload_n (pc := 27) dX11_isSame_27 rfl rfl ?_
    refine ze_get (pc := 28) fl_X11_13 dX11_isSame_28 (by repeat (first | assumption | exact hset_eq _ _ _ | rw [hset_ne _ _ (by omega)])) (by rfl) ?_
    refine zn_icmp_ge (pc := 31) (tgt := 67) dX11_isSame_31 (by decide) (by omega) (by omega) (fun c => ?_) (fun c => absurd c (by omega))
    refine VS.mask [true, true, true, true, true, false] ?_
    exact kk h2 hI
  | succ m ih =>
    intro k e1 e2 h2 hI
    obtain ⟨w1, -⟩ := id (hI.lw hW hw)
    obtain ⟨x1, -⟩ := id hI.1
    refine ze_iload (pc := 25) dX11_isSame_25 rfl ?_
    refine ze_aload_n (pc := 27) dX11_isSame_27 rfl rfl ?_
    refine ze_get (pc := 28) fl_X11_13 dX11_isSame_28 (by repeat (first | assumption | exact hset_eq _ _ _ | rw [hset_ne _ _ (by omega)])) (by rfl) ?_
    refine zn_icmp_ge (pc := 31) (tgt := 67) dX11_isSame_31 (by decide) (by omega) (by omega) (fun c => absurd c (by omega)) (fun c => ?_)
    refine ze_aload_n (pc := 34) dX11_isSame_34 rfl rfl ?_
    refine ze_iload_n (pc := 35) dX11_isSame_35 rfl rfl ?_
    refine ze_iload_n (pc := 36) dX11_isSame_36 rfl rfl ?_
    refine ze_iload (pc := 37) dX11_isSame_37 rfl ?_
    refine ze_iload (pc := 39) dX11_isSame_39 rfl ?_
    refine zn_V (pc := 41) ((c_X10_cube hI.1 (nI r) (nI i) (nI j) (nI k)).toS) bX10_cube q_i_X10_cube q_s_X10_cube q_m_X11_45 dX11_isSame_41 rfl rfl (by repeat (first | assumption | exact hset_eq _ _ _ | rw [hset_ne _ _ (by omega)])) rfl rfl (by exact Nat.le_of_ble_eq_true rfl) ⟨by decide, by decide⟩ ⟨rfl, rfl, by first | exact Nat.zero_le _ | exact Nat.le_of_ble_eq_true rfl, by first | exact Nat.zero_le _ | exact Nat.le_of_ble_eq_true rfl⟩ (fun z h3 hp => ?_)
    obtain ⟨p1, p2, p3⟩ := hp
    have hI3 : SmI h h3 o x y ik len f ft fp := ⟨p2, hI.2.tr p3⟩
    obtain ⟨u1, c1, c2, c3⟩ := id (hI3.lw hW hw)
    obtain ⟨g, g1, g2⟩ := c3 i (by omega) j (by omega)
    have cr := c2 i (by omega)
    have e := q_cube hx hr hi hj (by omega) (by omega) p1
    subst e
    have v1 := (hk4 (25 * i + 5 * j + k)).1
    refine ze_aload_n (pc := 44) dX11_isSame_44 rfl rfl ?_
    refine ze_get (pc := 45) fl_X11_21 dX11_isSame_45 (by repeat (first | assumption | exact hset_eq _ _ _ | rw [hset_ne _ _ (by omega)])) (by rfl) ?_
    refine ze_iload_n (pc := 48) dX11_isSame_48 rfl rfl ?_
    refine ze_aldC (pc := 49) _ dX11_isSame_49 (by repeat (first | assumption | exact hset_eq _ _ _ | rw [hset_ne _ _ (by omega)])) (by rfl) (by omega) (by first | decide | omega) (by exact if_pos (by omega)) ?_
    refine ze_iload (pc := 50) dX11_isSame_50 rfl ?_
    refine ze_aldGS (pc := 52) _ dX11_isSame_52 (by repeat (first | assumption | exact hset_eq _ _ _ | rw [hset_ne _ _ (by omega)])) (by rfl) (by omega) (by first | decide | omega) (by exact if_pos (by omega)) ?_
    refine ze_iload (pc := 53) dX11_isSame_53 rfl ?_
    refine ze_ialdN (pc := 55) (k) dX11_isSame_55 (by repeat (first | assumption | exact hset_eq _ _ _ | rw [hset_ne _ _ (by omega)])) (by rfl) (by omega) (by first | decide | omega) ?_
    refine ze_top (g2 k (by omega)) ?_
    refine zn_icmp_eq (pc := 56) (tgt := 61) dX11_isSame_56 (by decide) (by omega) (by omega) (fun c => ?_) (fun c => absurd c (by omega))
    refine zn_inc (pc := 61) dX11_isSame_61 rfl (by decide) ?_
    refine ze_goto (pc := 64) (tgt := 25) dX11_isSame_64 (by decide) ?_
    exact ih (k + 1) (by omega) (by omega) h3 hI3
theorem l_sm_j {sz i : Nat} {Pr : Int32 → AH → Prop} (hW : LW h w W tb) (hk : Wok W) (hr : r < 6) (hx : x.ws r = W) (hw : o + 303 ≤ w) (hi : i < W.2.1)
    (kk : ∀ h2, SmI h h2 o x y ik len f ft fp → VIS ro MX11_isSame sz Pr h2 73 [some (.ref w), some (.ref o), some (.int (nI r)), some (.int (nI i)), none, none] []) :
    ∀ (m j : Nat), m = W.2.1 - j → j ≤ W.2.1 → ∀ h2, SmI h h2 o x y ik len f ft fp → VIS ro MX11_isSame sz Pr h2 13 [some (.ref w), some (.ref o), some (.int (nI r)), some (.int (nI i)), some (.int (nI j)), none] [] := by
  have bb := hk.b
  intro m
  induction m with
  | zero =>
    intro j e1 e2 h2 hI
    have : j = W.2.1 := by omega
    subst this
    obtain ⟨w1, -⟩ := id (hI.lw hW hw)
    refine ze_iload (pc := 13) dX11_isSame_13 rfl ?_
    refine ze_aload_n (pc := 15) dX11_isSame_15 rfl rfl ?_
    refine ze_get (pc := 16) fl_X11_13 dX11_isSame_16 (by repeat (first | assumption | exact hset_eq _ _ _ | rw [hset_ne _ _ (by omega)])) (by rfl) ?_
    refine zn_icmp_ge (pc := 19) (tgt := 73) dX11_isSame_19 (by decide) (by omega) (by omega) (fun c => ?_) (fun c => absurd c (by omega))
    refine VS.mask [true, true, true, true, false, false] ?_
    exact kk h2 hI
  | succ m ih =>
    intro j e1 e2 h2 hI
    obtain ⟨w1, -⟩ := id (hI.lw hW hw)
    refine ze_iload (pc := 13) dX11_isSame_13 rfl ?_
    refine ze_aload_n (pc := 15) dX11_isSame_15 rfl rfl ?_
    refine ze_get (pc := 16) fl_X11_13 dX11_isSame_16 (by repeat (first | assumption | exact hset_eq _ _ _ | rw [hset_ne _ _ (by omega)])) (by rfl) ?_
    refine zn_icmp_ge (pc := 19) (tgt := 73) dX11_isSame_19 (by decide) (by omega) (by omega) (fun c => absurd c (by omega)) (fun c => ?_)
    refine zn_iconst (pc := 22) 0 dX11_isSame_22 (by decide) ?_
    refine ze_istore (pc := 23) dX11_isSame_23 (by decide) ?_
    refine l_sm_k hW hk hr hx hw hi (by omega) (fun h3 hI3 => ?_) W.2.1 0 (by omega) (by omega) h2 hI
    refine zn_inc (pc := 67) dX11_isSame_67 rfl (by decide) ?_
    refine ze_goto (pc := 70) (tgt := 13) dX11_isSame_70 (by decide) ?_
    exact ih (j + 1) (by omega) (by omega) h3 hI3
theorem l_sm_i {sz : Nat} {Pr : Int32 → AH → Prop} (hW : LW h w W tb) (hk : Wok W) (hr : r < 6) (hx : x.ws r = W) (hw : o + 303 ≤ w)
    (kk : ∀ h2, SmI h h2 o x y ik len f ft fp → VIS ro MX11_isSame sz Pr h2 79 [some (.ref w), some (.ref o), some (.int (nI r)), none, none, none] []) :
    ∀ (m i : Nat), m = W.2.1 - i → i ≤ W.2.1 → ∀ h2, SmI h h2 o x y ik len f ft fp → VIS ro MX11_isSame sz Pr h2 2 [some (.ref w), some (.ref o), some (.int (nI r)), some (.int (nI i)), none, none] [] := by
  have bb := hk.b
  intro m
  induction m with
  | zero =>
    intro i e1 e2 h2 hI
    have : i = W.2.1 := by omega
    subst this
    obtain ⟨w1, -⟩ := id (hI.lw hW hw)
    refine ze_iload_n (pc := 2) dX11_isSame_2 rfl rfl ?_
    refine ze_aload_n (pc := 3) dX11_isSame_3 rfl rfl ?_
    refine ze_get (pc := 4) fl_X11_13 dX11_isSame_4 (by repeat (first | assumption | exact hset_eq _ _ _ | rw [hset_ne _ _ (by omega)])) (by rfl) ?_
    refine zn_icmp_ge (pc := 7) (tgt := 79) dX11_isSame_7 (by decide) (by omega) (by omega) (fun c => ?_) (fun c => absurd c (by omega))
    refine VS.mask [true, true, true, false, false, false] ?_
    exact kk h2 hI
  | succ m ih =>
    intro i e1 e2 h2 hI
    obtain ⟨w1, -⟩ := id (hI.lw hW hw)
    refine ze_iload_n (pc := 2) dX11_isSame_2 rfl rfl ?_
    refine ze_aload_n (pc := 3) dX11_isSame_3 rfl rfl ?_
    refine ze_get (pc := 4) fl_X11_13 dX11_isSame_4 (by repeat (first | assumption | exact hset_eq _ _ _ | rw [hset_ne _ _ (by omega)])) (by rfl) ?_
    refine zn_icmp_ge (pc := 7) (tgt := 79) dX11_isSame_7 (by decide) (by omega) (by omega) (fun c => absurd c (by omega)) (fun c => ?_)
    refine zn_iconst (pc := 10) 0 dX11_isSame_10 (by decide) ?_
    refine ze_istore (pc := 11) dX11_isSame_11 (by decide) ?_
    refine l_sm_j hW hk hr hx hw (by omega) (fun h3 hI3 => ?_) W.2.1 0 (by omega) (by omega) h2 hI
    refine zn_inc (pc := 73) dX11_isSame_73 rfl (by decide) ?_
    refine ze_goto (pc := 76) (tgt := 2) dX11_isSame_76 (by decide) ?_
    exact ih (i + 1) (by omega) (by omega) h3 hI3
theorem c_X11_isSame (hX : XAt h o x y ik len f ft fp) (hW : LW h w W tb) (hk : Wok W) (hr : r < 6) (hx : x.ws r = W) (hw : o + 303 ≤ w) : CIS ro yX11_isSame MX11_isSame [.ref w, .ref o, .int (nI r)] h (fun z h' => z = nI 1 ∧ SmI h h' o x y ik len f ft fp) := by
  have bb := hk.b
  refine CIS.ofV (by decide) rfl rfl (by simp [Value.category]) (by exact Nat.le_of_ble_eq_true rfl) (fun sz => ?_)
  refine zn_iconst (pc := 0) 0 dX11_isSame_0 (by decide) ?_
  refine ze_istore_n (pc := 1) dX11_isSame_1 rfl (by decide) ?_
  refine l_sm_i hW hk hr hx hw (fun h2 hI => ?_) W.2.1 0 (by omega) (by omega) h ⟨hX, Er.rf _ _ _⟩
  obtain ⟨w1, -⟩ := id (hI.lw hW hw)
  obtain ⟨x1, -⟩ := id hI.1
  refine ze_aload_n (pc := 79) dX11_isSame_79 rfl rfl ?_
  refine ze_iload_n (pc := 80) dX11_isSame_80 rfl rfl ?_
  refine zn_iconst (pc := 81) 0 dX11_isSame_81 (by decide) ?_
  refine zn_V (pc := 82) ((c_X10_of hI.1 (nI r) (nI 0)).toS) bX10_of q_i_X10_of q_s_X10_of q_m_X11_51 dX11_isSame_82 rfl rfl (by repeat (first | assumption | exact hset_eq _ _ _ | rw [hset_ne _ _ (by omega)])) rfl rfl (by exact Nat.le_of_ble_eq_true rfl) ⟨by decide, by decide⟩ ⟨rfl, rfl, by first | exact Nat.zero_le _ | exact Nat.le_of_ble_eq_true rfl, by first | exact Nat.zero_le _ | exact Nat.le_of_ble_eq_true rfl⟩ (fun z h3 hp => ?_)
  obtain ⟨p1, p2, p3⟩ := hp
  have hI3 : SmI h h3 o x y ik len f ft fp := ⟨p2, hI.2.tr p3⟩
  obtain ⟨w3, -⟩ := id (hI3.lw hW hw)
  obtain ⟨x3, -⟩ := id hI3.1
  refine ze_top (of_0 (q_of hx hr p1)) ?_
  refine ze_aload_n (pc := 85) dX11_isSame_85 rfl rfl ?_
  refine ze_get (pc := 86) fl_X11_7 dX11_isSame_86 (by repeat (first | assumption | exact hset_eq _ _ _ | rw [hset_ne _ _ (by omega)])) (by rfl) ?_
  refine zn_icmp_ne (pc := 89) (tgt := 137) dX11_isSame_89 (by decide) (by omega) (by omega) (fun c => absurd c (by omega)) (fun c => ?_)
  refine ze_aload_n (pc := 92) dX11_isSame_92 rfl rfl ?_
  refine ze_iload_n (pc := 93) dX11_isSame_93 rfl rfl ?_
  refine zn_iconst (pc := 94) 1 dX11_isSame_94 (by decide) ?_
  refine zn_V (pc := 95) ((c_X10_of hI3.1 (nI r) (nI 1)).toS) bX10_of q_i_X10_of q_s_X10_of q_m_X11_51 dX11_isSame_95 rfl rfl (by repeat (first | assumption | exact hset_eq _ _ _ | rw [hset_ne _ _ (by omega)])) rfl rfl (by exact Nat.le_of_ble_eq_true rfl) ⟨by decide, by decide⟩ ⟨rfl, rfl, by first | exact Nat.zero_le _ | exact Nat.le_of_ble_eq_true rfl, by first | exact Nat.zero_le _ | exact Nat.le_of_ble_eq_true rfl⟩ (fun z4 h4 hp => ?_)
  obtain ⟨p1, p2, p3⟩ := hp
  have hI4 : SmI h h4 o x y ik len f ft fp := ⟨p2, hI3.2.tr p3⟩
  obtain ⟨w4, -⟩ := id (hI4.lw hW hw)
  obtain ⟨x4, -⟩ := id hI4.1
  refine ze_top (of_1 (q_of hx hr p1)) ?_
  refine ze_aload_n (pc := 98) dX11_isSame_98 rfl rfl ?_
  refine ze_get (pc := 99) fl_X11_13 dX11_isSame_99 (by repeat (first | assumption | exact hset_eq _ _ _ | rw [hset_ne _ _ (by omega)])) (by rfl) ?_
  refine zn_icmp_ne (pc := 102) (tgt := 137) dX11_isSame_102 (by decide) (by omega) (by omega) (fun c => absurd c (by omega)) (fun c => ?_)
  refine ze_aload_n (pc := 105) dX11_isSame_105 rfl rfl ?_
  refine ze_iload_n (pc := 106) dX11_isSame_106 rfl rfl ?_
  refine zn_iconst (pc := 107) 2 dX11_isSame_107 (by decide) ?_
  refine zn_V (pc := 108) ((c_X10_of hI4.1 (nI r) (nI 2)).toS) bX10_of q_i_X10_of q_s_X10_of q_m_X11_51 dX11_isSame_108 rfl rfl (by repeat (first | assumption | exact hset_eq _ _ _ | rw [hset_ne _ _ (by omega)])) rfl rfl (by exact Nat.le_of_ble_eq_true rfl) ⟨by decide, by decide⟩ ⟨rfl, rfl, by first | exact Nat.zero_le _ | exact Nat.le_of_ble_eq_true rfl, by first | exact Nat.zero_le _ | exact Nat.le_of_ble_eq_true rfl⟩ (fun z5 h5 hp => ?_)
  obtain ⟨p1, p2, p3⟩ := hp
  have hI5 : SmI h h5 o x y ik len f ft fp := ⟨p2, hI4.2.tr p3⟩
  obtain ⟨w5, -⟩ := id (hI5.lw hW hw)
  obtain ⟨x5, -⟩ := id hI5.1
  refine ze_top (of_2 (q_of hx hr p1)) ?_
  refine ze_aload_n (pc := 111) dX11_isSame_111 rfl rfl ?_
  refine ze_get (pc := 112) fl_X11_16 dX11_isSame_112 (by repeat (first | assumption | exact hset_eq _ _ _ | rw [hset_ne _ _ (by omega)])) (by rfl) ?_
  refine zn_icmp_ne (pc := 115) (tgt := 137) dX11_isSame_115 (by decide) (by omega) (by omega) (fun c => absurd c (by omega)) (fun c => ?_)
  refine ze_aload_n (pc := 118) dX11_isSame_118 rfl rfl ?_
  refine ze_iload_n (pc := 119) dX11_isSame_119 rfl rfl ?_
  refine ze_aload_n (pc := 120) dX11_isSame_120 rfl rfl ?_
  refine ze_get (pc := 121) fl_X11_13 dX11_isSame_121 (by repeat (first | assumption | exact hset_eq _ _ _ | rw [hset_ne _ _ (by omega)])) (by rfl) ?_
  refine zn_iconst (pc := 124) 0 dX11_isSame_124 (by decide) ?_
  refine zn_iconst (pc := 125) 0 dX11_isSame_125 (by decide) ?_
  refine zn_V (pc := 126) ((c_X10_cube hI5.1 (nI r) (nI W.2.1) (nI 0) (nI 0)).toS) bX10_cube q_i_X10_cube q_s_X10_cube q_m_X11_45 dX11_isSame_126 rfl rfl (by repeat (first | assumption | exact hset_eq _ _ _ | rw [hset_ne _ _ (by omega)])) rfl rfl (by exact Nat.le_of_ble_eq_true rfl) ⟨by decide, by decide⟩ ⟨rfl, rfl, by first | exact Nat.zero_le _ | exact Nat.le_of_ble_eq_true rfl, by first | exact Nat.zero_le _ | exact Nat.le_of_ble_eq_true rfl⟩ (fun z6 h6 hp => ?_)
  obtain ⟨p1, p2, p3⟩ := hp
  have hI6 : SmI h h6 o x y ik len f ft fp := ⟨p2, hI5.2.tr p3⟩
  refine ze_top (q_cubeO hx hr (by omega) p1) ?_
  refine ze_iconst (pc := 129) (v := -1) dX11_isSame_129 (by decide) ?_
  refine ze_icmp_ne (pc := 130) (tgt := 137) dX11_isSame_130 (by decide) (fun c => absurd rfl c) (fun _ => ?_)
  refine zn_iconst (pc := 133) 1 dX11_isSame_133 (by decide) ?_
  refine ze_goto (pc := 134) (tgt := 138) dX11_isSame_134 (by decide) ?_
  exact zn_zret (pc := 138) dX11_isSame_138 rfl rfl ⟨rfl, hI6⟩
end LH
