/-! ===== a drawn text: twist ===== -/
theorem lpz_lt {F : Wd} (hk : Wok F) {x : Nat} (hx : x < F.1 ^ F.2.1) : ∀ k, lpw F x k < F.1 ^ F.2.1
  | 0 => hx
  | _ + 1 => mul_lt hk _ _
def twp (F : Wd) (e a b m : Nat) : Wd := (F.1, F.2.1, fun t => if inC F.2.1 t ∧ t < m then dg F.1 (twc F e a b (t / 25) (t / 5 % 5)) (t % 5) else F.2.2 t)
theorem twp_c (F : Wd) (e a b m t : Nat) : (twp F e a b m).2.2 t = if inC F.2.1 t ∧ t < m then dg F.1 (twc F e a b (t / 25) (t / 5 % 5)) (t % 5) else F.2.2 t := rfl
theorem twp_ok {F : Wd} {e a b m : Nat} (hk : Wok F) : Wok (twp F e a b m) := by
  have bb := hk.b
  obtain ⟨k1, k2, k3, k4, k5⟩ := hk
  refine ⟨k1, k2, k3, k4, fun t => ?_⟩
  show (twp F e a b m).2.2 t < F.1 ∧ (¬ inC F.2.1 t → (twp F e a b m).2.2 t = 0)
  rw [twp_c]
  by_cases c : inC F.2.1 t ∧ t < m
  · rw [if_pos c]
    exact ⟨dg_lt (by omega) _ _, fun z => absurd c.1 z⟩
  · rw [if_neg c]
    exact k5 t
theorem twp_all {F : Wd} {e a b : Nat} (hk : Wok F) : twp F e a b 125 = twistW F e a b := by
  unfold twp twistW
  congr 2
  funext t
  by_cases c : inC F.2.1 t
  · rw [if_pos ⟨c, by obtain ⟨c1, -⟩ := c; exact c1⟩, if_pos c]
  · rw [if_neg (fun z => c z.1), if_neg c]
    exact (hk.2.2.2.2 t).2 c
theorem twp_0 {F : Wd} {e a b t : Nat} : F.2.2 t = (twp F e a b 0).2.2 t := by
  rw [twp_c, if_neg (fun z => absurd z.2 (by omega))]
theorem twp_same {F : Wd} {e a b m m2 t : Nat} (hm : m ≤ m2) (h : ∀ t, m ≤ t → t < m2 → ¬ inC F.2.1 t) : (twp F e a b m).2.2 t = (twp F e a b m2).2.2 t := by
  rw [twp_c, twp_c]
  by_cases c : inC F.2.1 t ∧ t < m
  · rw [if_pos c, if_pos ⟨c.1, by omega⟩]
  · rw [if_neg c, if_neg (fun z => by
      by_cases c2 : t < m
      · exact c ⟨z.1, c2⟩
      · exact h t (by omega) z.2 z.1)]
theorem inC_lt {n i j t : Nat} (hi : i < 5) (hj : j < 5) (h : inC n t) (h1 : 25 * i + 5 * j + n ≤ t) : 25 * i + 5 * (j + 1) ≤ t := by
  obtain ⟨q1, q2, q3, q4⟩ := h
  omega
section LO
variable {ro : RT} {Post : Option Value → AH → Nat → Prop} {h h0 h2 : AH} {o sb fr r z0 z z2 p n many k c s x x2 t t2 w e a b : Nat} {x0 : Int32} {T T2 : List Nat} {X F X2 : Wd} {hf : Bool} {fv : Value}
theorem Wi.fld (hW : Wi h0 h z0 z p n T X F true x t (.ref w)) : ∃ B, WT h w B F ∧ z0 ≤ w ∧ B ≤ x ∧ F.1 = p ∧ F.2.1 = n ∧ Wok F := by
  obtain ⟨w1, w2, w3, w4, w5, w6, w7, w8, w9, w10, w11, w12⟩ := hW
  rcases w8 with ⟨q, -⟩ | ⟨w', B, f1, f2, f3, f4, f5, f6, f7, f8⟩
  · cases q
  · cases f1
    exact ⟨B, f3, f4, f5, f6, f7, f8⟩
theorem Wi.re (hW : Wi h0 h z0 z p n T X F hf x t fv) (e1 : X2.1 = X.1) (e2 : X2.2.1 = X.2.1) (hk : Wok X2) (hc : ∀ t, t < 125 → X.2.2 t = X2.2.2 t) : Wi h0 h z0 z p n T X2 F hf x t fv := by
  obtain ⟨w1, w2, w3, ⟨w41, w42⟩, w5, w6, w7, w8, w9, w10, w11, w12⟩ := hW
  exact ⟨w1, w2, w3, ⟨by rw [e1, e2]; exact w41, w42.congr hc⟩, w5, w6, w7, w8, by rw [e1]; exact w9, by rw [e2]; exact w10, hk, w12⟩
-- one element's digits
theorem l_tw_d {i j : Nat} (hi : i < n) (hj : j < n) (hn : n ≤ 4) (hc : c ≤ 3000) (hs : s ≤ 300000)
    (kk : ∀ h2, Wi h0 h2 z0 z p n T (twp F e a b (25 * i + 5 * (j + 1))) F true x t (.ref w) → VS ro ML_world Post (z, c, s) h2 570 [some (.ref o), some (.ref sb), some (.int (nI fr)), some (.int (nI r)), none, some (.int x0), none, some (.int (nI p)), some (.int (nI n)), some (.ref x), some (.ref t), some (.ref w), some (.int (nI many)), some (.int (nI (k))), none, none, some (.int (nI e)), some (.int (nI a)), some (.int (nI b)), some (.int (nI i)), some (.int (nI j)), none, none, none, none] []) :
    ∀ (m d : Nat), m = n - d → d ≤ n → ∀ h, Wi h0 h z0 z p n T (twp F e a b (25 * i + 5 * j + d)) F true x t (.ref w) → VS ro ML_world Post (z, c, s) h 534 [some (.ref o), some (.ref sb), some (.int (nI fr)), some (.int (nI r)), none, some (.int x0), none, some (.int (nI p)), some (.int (nI n)), some (.ref x), some (.ref t), some (.ref w), some (.int (nI many)), some (.int (nI (k))), none, none, some (.int (nI e)), some (.int (nI a)), some (.int (nI b)), some (.int (nI i)), some (.int (nI j)), none, none, some (.int (nI (twc F e a b i j))), some (.int (nI d))] [] := by
  intro m
  induction m with
  | zero =>
    intro d e3 e4 h hW
    have : d = n := by omega
    subst this
    obtain ⟨B, hT, y1, y2, y3, y4, y5⟩ := hW.fld
    refine ze_iload (pc := 534) dL_world_534 rfl ?_
    refine ze_iload (pc := 536) dL_world_536 rfl ?_
    refine zn_icmp_ge (pc := 538) (tgt := 570) dL_world_538 (by decide) (by omega) (by omega) (fun cc => ?_) (fun c => absurd c (by omega))
    refine VS.mask [true, true, true, true, false, true, false, true, true, true, true, true, true, true, false, false, true, true, true, true, true, false, false, false, false] ?_
    exact kk h (hW.re rfl rfl (twp_ok y5) (fun u hu => twp_same (by omega) (fun v v1 v2 hv => absurd (inC_lt (by omega) (by omega) (by rw [y4] at hv; exact hv) v1) (by omega))))
  | succ m ih =>
    intro d e3 e4 h hW
    obtain ⟨B, hT, y1, y2, y3, y4, y5⟩ := hW.fld
    have bb := y5.b
    obtain ⟨w1, w2, w3, w4, w5, w6, w7, w8, w9, w10, w11, w12⟩ := id hW
    obtain ⟨u1, c1, c2, c3⟩ := id w4
    obtain ⟨g, g1, g2⟩ := c3 i (by omega) j (by omega)
    have cr := c2 i (by omega)
    have hq : twc F e a b i j < F.1 ^ F.2.1 := sb_lt (by omega) (by omega) (mul_lt y5 _ _) (mul_lt y5 _ _)
    refine ze_iload (pc := 534) dL_world_534 rfl ?_
    refine ze_iload (pc := 536) dL_world_536 rfl ?_
    refine zn_icmp_ge (pc := 538) (tgt := 570) dL_world_538 (by decide) (by omega) (by omega) (fun c => absurd c (by omega)) (fun cc => ?_)
    refine ze_aload (pc := 541) dL_world_541 rfl ?_
    refine ze_getN (pc := 543) (kf := 3) rfl (by decide) (by decide) rfl dL_world_543 (by repeat (first | assumption | exact hset_eq _ _ _ | rw [hset_ne _ _ (by omega)])) (by rfl) ?_
    refine ze_iload (pc := 546) dL_world_546 rfl ?_
    refine ze_aldC (pc := 548) _ dL_world_548 (by repeat (first | assumption | exact hset_eq _ _ _ | rw [hset_ne _ _ (by omega)])) (by rfl) (by omega) (by first | decide | omega) (by exact if_pos (by omega)) ?_
    refine ze_iload (pc := 549) dL_world_549 rfl ?_
    refine ze_aldGS (pc := 551) _ dL_world_551 (by repeat (first | assumption | exact hset_eq _ _ _ | rw [hset_ne _ _ (by omega)])) (by rfl) (by omega) (by first | decide | omega) (by exact if_pos (by omega)) ?_
    refine ze_iload (pc := 552) dL_world_552 rfl ?_
    refine ze_aload (pc := 554) dL_world_554 rfl ?_
    refine ze_iload (pc := 556) dL_world_556 rfl ?_
    refine ze_iload (pc := 558) dL_world_558 rfl ?_
    refine zn_VP (pc := 560) (c_X11_digit u1 ⟨bb.1, bb.2.1⟩ (by omega) (show d ≤ 5 by omega)) bX11_digit q_i_X11_digit q_s_X11_digit q_m_L_112 dL_world_560 rfl rfl (by repeat (first | assumption | exact hset_eq _ _ _ | rw [hset_ne _ _ (by omega)])) rfl rfl (by exact Nat.le_of_ble_eq_true rfl) ⟨by decide, by decide⟩ ⟨rfl, rfl, by show _ ≤ 3000; first | omega | (dsimp only; omega) | dsimp only | exact Nat.le_of_ble_eq_true rfl, by show _ ≤ 300000; first | omega | (dsimp only; omega) | dsimp only | exact Nat.le_of_ble_eq_true rfl⟩ ?_
    refine ze_iastN (pc := 563) (d) dL_world_563 (by repeat (first | assumption | exact hset_eq _ _ _ | rw [hset_ne _ _ (by omega)])) (by rfl) (by omega) (by first | decide | omega) ?_
    refine zn_inc (pc := 564) dL_world_564 rfl (by decide) ?_
    refine ze_goto (pc := 567) (tgt := 534) dL_world_567 (by decide) ?_
    refine ih (d + 1) (by omega) (by omega) _ (hW.put (by omega) (by omega) ⟨by rw [hset_ne _ _ (by omega)]; exact u1, (Cb.set (v := dg F.1 (twc F e a b i j) d) w4.2 (by omega) (by omega) (show d < 5 by omega) g1).congr (fun u _ => ?_)⟩ y3 y4 (twp_ok y5))
    show (if u = 25 * i + 5 * j + d then dg F.1 (twc F e a b i j) d else (twp F e a b (25 * i + 5 * j + d)).2.2 u) = (twp F e a b (25 * i + 5 * j + (d + 1))).2.2 u
    by_cases cu : u = 25 * i + 5 * j + d
    · rw [if_pos cu, twp_c, if_pos ⟨⟨by omega, by omega, by omega, by omega⟩, by omega⟩, show u / 25 = i by omega, show u / 5 % 5 = j by omega, show u % 5 = d by omega]
    · rw [if_neg cu, twp_c, twp_c]
      by_cases c2 : inC F.2.1 u ∧ u < 25 * i + 5 * j + d
      · rw [if_pos c2, if_pos ⟨c2.1, by omega⟩]
      · rw [if_neg c2, if_neg (fun v => c2 ⟨v.1, by omega⟩)]
theorem l_tw_j {i : Nat} (hi : i < n) (hn : n ≤ 4) (he : e < p ^ n) (ha : a ≤ 4) (hb : b ≤ 4) (hc : c ≤ 3000) (hs : s ≤ 300000)
    (kk : ∀ h2, Wi h0 h2 z0 z p n T (twp F e a b (25 * (i + 1))) F true x t (.ref w) → VS ro ML_world Post (z, c, s) h2 576 [some (.ref o), some (.ref sb), some (.int (nI fr)), some (.int (nI r)), none, some (.int x0), none, some (.int (nI p)), some (.int (nI n)), some (.ref x), some (.ref t), some (.ref w), some (.int (nI many)), some (.int (nI (k))), none, none, some (.int (nI e)), some (.int (nI a)), some (.int (nI b)), some (.int (nI i)), none, none, none, none, none] []) :
    ∀ (m j : Nat), m = n - j → j ≤ n → ∀ h, Wi h0 h z0 z p n T (twp F e a b (25 * i + 5 * j)) F true x t (.ref w) → VS ro ML_world Post (z, c, s) h 444 [some (.ref o), some (.ref sb), some (.int (nI fr)), some (.int (nI r)), none, some (.int x0), none, some (.int (nI p)), some (.int (nI n)), some (.ref x), some (.ref t), some (.ref w), some (.int (nI many)), some (.int (nI (k))), none, none, some (.int (nI e)), some (.int (nI a)), some (.int (nI b)), some (.int (nI i)), some (.int (nI j)), none, none, none, none] [] := by
  intro m
  induction m with
  | zero =>
    intro j e3 e4 h hW
    have : j = n := by omega
    subst this
    obtain ⟨B, hT, y1, y2, y3, y4, y5⟩ := hW.fld
    refine ze_iload (pc := 444) dL_world_444 rfl ?_
    refine ze_iload (pc := 446) dL_world_446 rfl ?_
    refine zn_icmp_ge (pc := 448) (tgt := 576) dL_world_448 (by decide) (by omega) (by omega) (fun cc => ?_) (fun c => absurd c (by omega))
    refine VS.mask [true, true, true, true, false, true, false, true, true, true, true, true, true, true, false, false, true, true, true, true, false, false, false, false, false] ?_
    exact kk h (hW.re rfl rfl (twp_ok y5) (fun u hu => twp_same (by omega) (fun v v1 v2 hv => by rw [y4] at hv; obtain ⟨q1, q2, q3, q4⟩ := hv; omega)))
  | succ m ih =>
    intro j e3 e4 h hW
    obtain ⟨B, hT, y1, y2, y3, y4, y5⟩ := hW.fld
    have bb := y5.b
    obtain rfl := y3
    obtain rfl := y4
    obtain ⟨w1, w2, w3, w4, w5, w6, w7, w8, w9, w10, w11, w12⟩ := id hW
    obtain ⟨u1, -⟩ := id w4
    obtain ⟨tb, t1, t2, t3, t4⟩ := id hT
    obtain ⟨f1, -⟩ := id t1
    obtain ⟨q1, q2⟩ := id t2
    have pi := pw_q y5 hi
    have pj := pw_q y5 (show j < F.2.1 by omega)
    have pa := pw_b y5 (show a ≤ 5 by omega)
    have pb := pw_b y5 (show b ≤ 5 by omega)
    have pa4 : F.1 ^ a ≤ 1000 := Nat.le_trans (Nat.pow_le_pow_left bb.2.1 a) (Nat.le_trans (Nat.pow_le_pow_right (by omega) ha) (by decide))
    have pb4 : F.1 ^ b ≤ 1000 := Nat.le_trans (Nat.pow_le_pow_left bb.2.1 b) (Nat.le_trans (Nat.pow_le_pow_right (by omega) hb) (by decide))
    have l1 := lpz_lt y5 pi (F.1 ^ a - 1)
    have l2 := lpz_lt y5 pj (F.1 ^ b - 1)
    have m0 := mul_lt y5 (F.1 ^ i) (F.1 ^ j)
    have m1 := mul_lt y5 e (lpw F (F.1 ^ i) (F.1 ^ a - 1))
    have m2 := mul_lt y5 (mul F e (lpw F (F.1 ^ i) (F.1 ^ a - 1))) (lpw F (F.1 ^ j) (F.1 ^ b - 1))
    obtain ⟨gu, gu1, gu2⟩ := q2 _ pi
    obtain ⟨ge, ge1, ge2⟩ := q2 _ he
    obtain ⟨gm, gm1, gm2⟩ := q2 _ m1
    refine ze_iload (pc := 444) dL_world_444 rfl ?_
    refine ze_iload (pc := 446) dL_world_446 rfl ?_
    refine zn_icmp_ge (pc := 448) (tgt := 576) dL_world_448 (by decide) (by omega) (by omega) (fun c => absurd c (by omega)) (fun cc => ?_)
    refine ze_iload (pc := 451) dL_world_451 rfl ?_
    refine ze_iload (pc := 453) dL_world_453 rfl ?_
    refine zn_SP (pc := 455) (c_L_power (show i ≤ 1000 by omega)) bL_power q_st_L_power q_m_L_97 dL_world_455 rfl rfl (by exact Nat.le_of_ble_eq_true rfl) ⟨by decide, by decide⟩ ⟨rfl, rfl, by show _ ≤ 3000; first | omega | (dsimp only; omega) | dsimp only | exact Nat.le_of_ble_eq_true rfl, by show _ ≤ 300000; first | omega | (dsimp only; omega) | dsimp only | exact Nat.le_of_ble_eq_true rfl⟩ ?_
    refine ze_istore (pc := 458) dL_world_458 (by decide) ?_
    refine ze_iload (pc := 460) dL_world_460 rfl ?_
    refine ze_iload (pc := 462) dL_world_462 rfl ?_
    refine zn_SP (pc := 464) (c_L_power (show j ≤ 1000 by omega)) bL_power q_st_L_power q_m_L_97 dL_world_464 rfl rfl (by exact Nat.le_of_ble_eq_true rfl) ⟨by decide, by decide⟩ ⟨rfl, rfl, by show _ ≤ 3000; first | omega | (dsimp only; omega) | dsimp only | exact Nat.le_of_ble_eq_true rfl, by show _ ≤ 300000; first | omega | (dsimp only; omega) | dsimp only | exact Nat.le_of_ble_eq_true rfl⟩ ?_
    refine ze_istore (pc := 467) dL_world_467 (by decide) ?_
    refine ze_aload (pc := 469) dL_world_469 rfl ?_
    refine ze_aload (pc := 471) dL_world_471 rfl ?_
    refine ze_getN (pc := 473) (kf := 4) rfl (by decide) (by decide) rfl dL_world_473 (by repeat (first | assumption | exact hset_eq _ _ _ | rw [hset_ne _ _ (by omega)])) (by rfl) ?_
    refine ze_iload (pc := 476) dL_world_476 rfl ?_
    refine ze_aldGS (pc := 478) (F.1 ^ i) dL_world_478 (by repeat (first | assumption | exact hset_eq _ _ _ | rw [hset_ne _ _ (by omega)])) (by rfl) (by omega) (by first | decide | omega) (by exact if_pos pi) ?_
    refine ze_iload (pc := 479) dL_world_479 rfl ?_
    refine ze_ialdN (pc := 481) (F.1 ^ j) dL_world_481 (by repeat (first | assumption | exact hset_eq _ _ _ | rw [hset_ne _ _ (by omega)])) (by rfl) (by omega) (by first | decide | omega) ?_
    refine ze_top (gu2 _ pj) ?_
    refine ze_aload (pc := 482) dL_world_482 rfl ?_
    refine ze_getN (pc := 484) (kf := 4) rfl (by decide) (by decide) rfl dL_world_484 (by repeat (first | assumption | exact hset_eq _ _ _ | rw [hset_ne _ _ (by omega)])) (by rfl) ?_
    refine ze_aload (pc := 487) dL_world_487 rfl ?_
    refine ze_getN (pc := 489) (kf := 4) rfl (by decide) (by decide) rfl dL_world_489 (by repeat (first | assumption | exact hset_eq _ _ _ | rw [hset_ne _ _ (by omega)])) (by rfl) ?_
    refine ze_iload (pc := 492) dL_world_492 rfl ?_
    refine ze_aldGS (pc := 494) (e) dL_world_494 (by repeat (first | assumption | exact hset_eq _ _ _ | rw [hset_ne _ _ (by omega)])) (by rfl) (by omega) (by first | decide | omega) (by exact if_pos he) ?_
    refine ze_aload (pc := 495) dL_world_495 rfl ?_
    refine ze_iload (pc := 497) dL_world_497 rfl ?_
    refine ze_iload (pc := 499) dL_world_499 rfl ?_
    refine ze_iload (pc := 501) dL_world_501 rfl ?_
    refine zn_SP (pc := 503) (c_L_power (show a ≤ 1000 by omega)) bL_power q_st_L_power q_m_L_97 dL_world_503 rfl rfl (by exact Nat.le_of_ble_eq_true rfl) ⟨by decide, by decide⟩ ⟨rfl, rfl, by show _ ≤ 3000; first | omega | (dsimp only; omega) | dsimp only | exact Nat.le_of_ble_eq_true rfl, by show _ ≤ 300000; first | omega | (dsimp only; omega) | dsimp only | exact Nat.le_of_ble_eq_true rfl⟩ ?_
    refine zn_SP (pc := 506) (c_L_raised t1 t2 y5 pi (show F.1 ^ a ≤ 1000 by omega)) bL_raised q_st_L_raised q_m_L_105 dL_world_506 rfl rfl (by exact Nat.le_of_ble_eq_true rfl) ⟨by decide, by decide⟩ ⟨rfl, rfl, by show _ ≤ 3000; first | omega | (dsimp only; omega) | dsimp only | exact Nat.le_of_ble_eq_true rfl, by show _ ≤ 300000; first | omega | (dsimp only; omega) | dsimp only | exact Nat.le_of_ble_eq_true rfl⟩ ?_
    refine ze_ialdN (pc := 509) (lpw F (F.1 ^ i) (F.1 ^ a - 1)) dL_world_509 (by repeat (first | assumption | exact hset_eq _ _ _ | rw [hset_ne _ _ (by omega)])) (by rfl) (by omega) (by first | decide | omega) ?_
    refine ze_top (ge2 _ l1) ?_
    refine ze_aldGS (pc := 510) (mul F e (lpw F (F.1 ^ i) (F.1 ^ a - 1))) dL_world_510 (by repeat (first | assumption | exact hset_eq _ _ _ | rw [hset_ne _ _ (by omega)])) (by rfl) (by omega) (by first | decide | omega) (by exact if_pos m1) ?_
    refine ze_aload (pc := 511) dL_world_511 rfl ?_
    refine ze_iload (pc := 513) dL_world_513 rfl ?_
    refine ze_iload (pc := 515) dL_world_515 rfl ?_
    refine ze_iload (pc := 517) dL_world_517 rfl ?_
    refine zn_SP (pc := 519) (c_L_power (show b ≤ 1000 by omega)) bL_power q_st_L_power q_m_L_97 dL_world_519 rfl rfl (by exact Nat.le_of_ble_eq_true rfl) ⟨by decide, by decide⟩ ⟨rfl, rfl, by show _ ≤ 3000; first | omega | (dsimp only; omega) | dsimp only | exact Nat.le_of_ble_eq_true rfl, by show _ ≤ 300000; first | omega | (dsimp only; omega) | dsimp only | exact Nat.le_of_ble_eq_true rfl⟩ ?_
    refine zn_SP (pc := 522) (c_L_raised t1 t2 y5 pj (show F.1 ^ b ≤ 1000 by omega)) bL_raised q_st_L_raised q_m_L_105 dL_world_522 rfl rfl (by exact Nat.le_of_ble_eq_true rfl) ⟨by decide, by decide⟩ ⟨rfl, rfl, by show _ ≤ 3000; first | omega | (dsimp only; omega) | dsimp only | exact Nat.le_of_ble_eq_true rfl, by show _ ≤ 300000; first | omega | (dsimp only; omega) | dsimp only | exact Nat.le_of_ble_eq_true rfl⟩ ?_
    refine ze_ialdN (pc := 525) (lpw F (F.1 ^ j) (F.1 ^ b - 1)) dL_world_525 (by repeat (first | assumption | exact hset_eq _ _ _ | rw [hset_ne _ _ (by omega)])) (by rfl) (by omega) (by first | decide | omega) ?_
    refine ze_top (gm2 _ l2) ?_
    refine zn_VP (pc := 526) (c_X11_minus f1 ⟨bb.1, bb.2.1⟩ (by omega) m0 m2 (by omega)) bX11_minus q_i_X11_minus q_s_X11_minus q_m_L_109 dL_world_526 rfl rfl (by repeat (first | assumption | exact hset_eq _ _ _ | rw [hset_ne _ _ (by omega)])) rfl rfl (by exact Nat.le_of_ble_eq_true rfl) ⟨by decide, by decide⟩ ⟨rfl, rfl, by show _ ≤ 3000; first | omega | (dsimp only; omega) | dsimp only | exact Nat.le_of_ble_eq_true rfl, by show _ ≤ 300000; first | omega | (dsimp only; omega) | dsimp only | exact Nat.le_of_ble_eq_true rfl⟩ ?_
    refine ze_istore (pc := 529) dL_world_529 (by decide) ?_
    refine zn_iconst (pc := 531) 0 dL_world_531 (by decide) ?_
    refine ze_istore (pc := 532) dL_world_532 (by decide) ?_
    refine VS.mask [true, true, true, true, false, true, false, true, true, true, true, true, true, true, false, false, true, true, true, true, true, false, false, true, true] ?_
    refine l_tw_d (F := F) (e := e) (a := a) (b := b) hi (by omega) hn hc hs (fun h3 hW3 => ?_) F.2.1 0 (by omega) (by omega) h hW
    refine zn_inc (pc := 570) dL_world_570 rfl (by decide) ?_
    refine ze_goto (pc := 573) (tgt := 444) dL_world_573 (by decide) ?_
    exact ih (j + 1) (by omega) (by omega) h3 hW3
theorem l_tw_i (hn : n ≤ 4) (he : e < p ^ n) (ha : a ≤ 4) (hb : b ≤ 4) (hc : c ≤ 3000) (hs : s ≤ 300000)
    (kk : ∀ h2, Wi h0 h2 z0 z p n T (twistW F e a b) F true x t (.ref w) → VS ro ML_world Post (z, c, s) h2 582 [some (.ref o), some (.ref sb), some (.int (nI fr)), some (.int (nI r)), none, some (.int x0), none, some (.int (nI p)), some (.int (nI n)), some (.ref x), some (.ref t), some (.ref w), some (.int (nI many)), some (.int (nI (k))), none, none, none, none, none, none, none, none, none, none, none] []) :
    ∀ (m i : Nat), m = n - i → i ≤ n → ∀ h, Wi h0 h z0 z p n T (twp F e a b (25 * i)) F true x t (.ref w) → VS ro ML_world Post (z, c, s) h 434 [some (.ref o), some (.ref sb), some (.int (nI fr)), some (.int (nI r)), none, some (.int x0), none, some (.int (nI p)), some (.int (nI n)), some (.ref x), some (.ref t), some (.ref w), some (.int (nI many)), some (.int (nI (k))), none, none, some (.int (nI e)), some (.int (nI a)), some (.int (nI b)), some (.int (nI i)), none, none, none, none, none] [] := by
  intro m
  induction m with
  | zero =>
    intro i e3 e4 h hW
    have : i = n := by omega
    subst this
    obtain ⟨B, hT, y1, y2, y3, y4, y5⟩ := hW.fld
    refine ze_iload (pc := 434) dL_world_434 rfl ?_
    refine ze_iload (pc := 436) dL_world_436 rfl ?_
    refine zn_icmp_ge (pc := 438) (tgt := 582) dL_world_438 (by decide) (by omega) (by omega) (fun cc => ?_) (fun c => absurd c (by omega))
    refine VS.mask [true, true, true, true, false, true, false, true, true, true, true, true, true, true, false, false, false, false, false, false, false, false, false, false, false] ?_
    refine kk h ?_
    rw [← twp_all y5]
    exact hW.re rfl rfl (twp_ok y5) (fun u hu => twp_same (by omega) (fun v v1 v2 hv => by rw [y4] at hv; obtain ⟨q1, q2, q3, q4⟩ := hv; omega))
  | succ m ih =>
    intro i e3 e4 h hW
    refine ze_iload (pc := 434) dL_world_434 rfl ?_
    refine ze_iload (pc := 436) dL_world_436 rfl ?_
    refine zn_icmp_ge (pc := 438) (tgt := 582) dL_world_438 (by decide) (by omega) (by omega) (fun c => absurd c (by omega)) (fun cc => ?_)
    refine zn_iconst (pc := 441) 0 dL_world_441 (by decide) ?_
    refine ze_istore (pc := 442) dL_world_442 (by decide) ?_
    refine l_tw_j (F := F) (e := e) (a := a) (b := b) (by omega) hn he ha hb hc hs (fun h3 hW3 => ?_) n 0 (by omega) (by omega) h hW
    refine zn_inc (pc := 576) dL_world_576 rfl (by decide) ?_
    refine ze_goto (pc := 579) (tgt := 434) dL_world_579 (by decide) ?_
    exact ih (i + 1) (by omega) (by omega) h3 hW3
theorem l_w_twist {y : Int32} (hL : LTx ro) (hD : DT ro) (hS : Sz p n) (hW : Wi h0 h z0 z p n T X F true x t (.ref w)) (hP : PF T (k + 1) X F true) (hl : T.length ≤ 60) (hk : k < 4) (hc : c + 250 ≤ 3000) (hs : s + 40000 ≤ 300000)
    (kk : ∀ z2 h2 x2 t2 X2 F2 hf2 fv2 T2, Wi h0 h2 z0 z2 p n T2 X2 F2 hf2 x2 t2 fv2 → PF T2 (k + 2) X2 F2 hf2 → T.length ≤ T2.length → T2.length ≤ T.length + 16 → VS ro ML_world Post (z2, c + 250, s + 40000) h2 107 [some (.ref o), some (.ref sb), some (.int (nI fr)), some (.int (nI r)), none, some (.int x0), none, some (.int (nI p)), some (.int (nI n)), some (.ref x2), some (.ref t2), some (fv2), some (.int (nI many)), some (.int (nI (k + 1))), none, none, none, none, none, none, none, none, none, none, none] []) : VS ro ML_world Post (z, c, s) h 336 [some (.ref o), some (.ref sb), some (.int (nI fr)), some (.int (nI r)), none, some (.int x0), none, some (.int (nI p)), some (.int (nI n)), some (.ref x), some (.ref t), some (.ref w), some (.int (nI many)), some (.int (nI (k))), some (.int y), some (.int (nI 1)), none, none, none, none, none, none, none, none, none] [] := by
  obtain ⟨hbe, n4, q27, n1, p2, p5⟩ := hS.be
  obtain ⟨B, hT, y1, y2, y3, y4, y5⟩ := hW.fld
  obtain ⟨w1, w2, w3, w4, w5, w6, w7, w8, w9, w10, w11, w12⟩ := id hW
  obtain ⟨u1, -⟩ := id w4
  have hq : X.1 ^ X.2.1 = p ^ n := by rw [w9, w10]
  have hqF : F.1 ^ F.2.1 = p ^ n := by rw [y3, y4]
  have q1 : 1 ≤ p ^ n := Nat.pow_pos (by omega)
  refine ze_iload (pc := 336) dL_world_336 rfl ?_
  refine zn_iconst (pc := 338) 3 dL_world_338 (by decide) ?_
  refine ze_ishr (pc := 339) dL_world_339 ?_
  refine zn_iconst (pc := 340) 0 dL_world_340 (by decide) ?_
  refine ze_aload (pc := 341) dL_world_341 rfl ?_
  refine ze_getN (pc := 343) (kf := 2) rfl (by decide) (by decide) rfl dL_world_343 (by repeat (first | assumption | exact hset_eq _ _ _ | rw [hset_ne _ _ (by omega)])) (by rfl) ?_
  refine zn_iconst (pc := 346) 1 dL_world_346 (by decide) ?_
  refine zn_isub (pc := 347) dL_world_347 (by omega) ?_
  refine zs_btw (pc := 348) (by omega) (by omega) (by exact Nat.le_of_ble_eq_true rfl) dL_world_348 (by omega) (by omega) (fun e _ he => ?_)
  refine ze_istore (pc := 351) dL_world_351 (by decide) ?_
  refine ze_iload (pc := 353) dL_world_353 rfl ?_
  refine zn_bipush (pc := 355) 6 dL_world_355 (by decide) ?_
  refine ze_ishr (pc := 357) dL_world_357 ?_
  refine zn_iconst (pc := 358) 0 dL_world_358 (by decide) ?_
  refine zn_iconst (pc := 359) 4 dL_world_359 (by decide) ?_
  refine zs_btw (pc := 360) (by omega) (by omega) (by exact Nat.le_of_ble_eq_true rfl) dL_world_360 (by omega) (by omega) (fun a _ ha => ?_)
  refine ze_istore (pc := 363) dL_world_363 (by decide) ?_
  refine ze_iload (pc := 365) dL_world_365 rfl ?_
  refine zn_bipush (pc := 367) 8 dL_world_367 (by decide) ?_
  refine ze_ishr (pc := 369) dL_world_369 ?_
  refine zn_iconst (pc := 370) 0 dL_world_370 (by decide) ?_
  refine zn_iconst (pc := 371) 4 dL_world_371 (by decide) ?_
  refine zs_btw (pc := 372) (by omega) (by omega) (by exact Nat.le_of_ble_eq_true rfl) dL_world_372 (by omega) (by omega) (fun b _ hb => ?_)
  refine ze_istore (pc := 375) dL_world_375 (by decide) ?_
  have de := dgn_b e
  have da := dgn_1 (w := a) (by omega)
  have db := dgn_1 (w := b) (by omega)
  refine zs_new (pc := 377) dL_world_377 dL_world_380 dL_world_381 (by omega) (by omega) (fun h1 hB => ?_)
  refine ze_aload (pc := 384) dL_world_384 rfl ?_
  refine zs_S (pc := 386) hB (w1.str (by omega)) (by simp only [List.length_append, List.length_cons, List.length_nil, dec_len]; omega) dL_world_386 (by omega) (by omega) (fun h1 z1 hB => ?_)
  refine ze_ldcS (pc := 389) (tx := " twist ") (i := 4) rfl (by decide +kernel) dL_world_389 ?_
  refine zs_S (pc := 391) hB (hL.s (i := 4) (S := [32, 116, 119, 105, 115, 116, 32]) (by decide) rfl) (by simp only [List.length_append, List.length_cons, List.length_nil, dec_len]; omega) dL_world_391 (by omega) (by omega) (fun h1 z1 hB => ?_)
  refine ze_iload (pc := 394) dL_world_394 rfl ?_
  refine zs_N (pc := 396) hD (by omega) hB (by simp only [List.length_append, List.length_cons, List.length_nil, dec_len]; omega) dL_world_396 (by omega) (by omega) (fun h1 z1 hB => ?_)
  refine ze_ldcS (pc := 399) (tx := " ") (i := 1) rfl (by decide +kernel) dL_world_399 ?_
  refine zs_S (pc := 401) hB (hL.s (i := 1) (S := [32]) (by decide) rfl) (by simp only [List.length_append, List.length_cons, List.length_nil, dec_len]; omega) dL_world_401 (by omega) (by omega) (fun h1 z1 hB => ?_)
  refine ze_iload (pc := 404) dL_world_404 rfl ?_
  refine zs_N (pc := 406) hD (by omega) hB (by simp only [List.length_append, List.length_cons, List.length_nil, dec_len]; omega) dL_world_406 (by omega) (by omega) (fun h1 z1 hB => ?_)
  refine ze_ldcS (pc := 409) (tx := " ") (i := 1) rfl (by decide +kernel) dL_world_409 ?_
  refine zs_S (pc := 411) hB (hL.s (i := 1) (S := [32]) (by decide) rfl) (by simp only [List.length_append, List.length_cons, List.length_nil, dec_len]; omega) dL_world_411 (by omega) (by omega) (fun h1 z1 hB => ?_)
  refine ze_iload (pc := 414) dL_world_414 rfl ?_
  refine zs_N (pc := 416) hD (by omega) hB (by simp only [List.length_append, List.length_cons, List.length_nil, dec_len]; omega) dL_world_416 (by omega) (by omega) (fun h1 z1 hB => ?_)
  refine zs_E (pc := 419) hB dL_world_419 (by omega) (by omega) (fun h4 t4 ht4 hM4 hf4 => ?_)
  have hW2 := hW.txt hf4 ht4 hM4
  obtain ⟨B2, hT2, -, yB2, -⟩ := hW2.fld
  obtain ⟨tb, t1, t2, t3, t5⟩ := id hT2
  obtain ⟨f1, -⟩ := id t1
  obtain ⟨-, -, -, -, -, v6, -⟩ := id hW2
  refine ze_astore (pc := 422) dL_world_422 (by decide) ?_
  refine ze_aload (pc := 424) dL_world_424 rfl ?_
  refine ze_callV (pc := 426) (c_X11_copy (zq := t4 + 2) t1 (by omega) (by rw [y3]; exact ⟨p2, p5⟩) (by omega)) bX11_copy q_i_X11_copy q_s_X11_copy q_m_L_87 dL_world_426 rfl rfl (by repeat (first | assumption | exact hset_eq _ _ _ | rw [hset_ne _ _ (by omega)])) rfl rfl (by exact Nat.le_of_ble_eq_true rfl) ⟨by decide, by decide⟩ ⟨by show _ + 32 ≤ 3000; first | omega | (dsimp only; omega) | dsimp only | exact Nat.le_of_ble_eq_true rfl, by show _ + 160 ≤ 300000; first | omega | (dsimp only; omega) | dsimp only | exact Nat.le_of_ble_eq_true rfl⟩ (fun rr h5 z5 hp => ?_)
  (try dsimp only [MI.mc, MI.ms, MX11_copy, Nat.add_zero])
  obtain ⟨rfl, rfl, hX, hf5⟩ := hp
  have hW5 := hW2.wld hf5 hX y3 y4 y5
  refine ze_astore (pc := 429) dL_world_429 (by decide) ?_
  refine zn_iconst (pc := 431) 0 dL_world_431 (by decide) ?_
  refine ze_istore (pc := 432) dL_world_432 (by decide) ?_
  refine VS.widen (c2 := c + 50) (s2 := s + 5000) (by first | (dsimp only; omega) | dsimp only) (by first | (dsimp only; omega) | dsimp only) ?_
  refine VS.mask [true, true, true, true, false, true, false, true, true, true, true, true, true, true, false, false, true, true, true, true, false, false, false, false, false] ?_
  refine l_tw_i (F := F) (e := e) (a := a) (b := b) n4 (by omega) ha hb (by omega) (by omega) (fun h6 hW6 => ?_) n 0 (by omega) (by omega) h5 (hW5.re rfl rfl (twp_ok y5) (fun u _ => twp_0))
  refine ze_goto (pc := 582) (tgt := 791) dL_world_582 (by decide) ?_
  refine l_w_tail hL hW6 (by simp only [List.length_append, List.length_cons, List.length_nil, dec_len]; omega) (by omega) (by omega) (fun z7 h7 t7 hW7 => ?_)
  have hlen : ([] ++ T ++ [32, 116, 119, 105, 115, 116, 32] ++ dec e ++ [32] ++ dec a ++ [32] ++ dec b ++ [32, 59]).length ≤ T.length + 16 := by simp only [List.length_append, List.length_cons, List.length_nil, dec_len]; omega
  have eT : [] ++ T ++ [32, 116, 119, 105, 115, 116, 32] ++ dec e ++ [32] ++ dec a ++ [32] ++ dec b ++ [32, 59] = T ++ stx 1 1 [e, a, b] 1 := by simp [stx, wd, nms]
  rw [eT] at hlen hW7
  refine VS.widen (c2 := c + 250) (s2 := s + 40000) (by first | (dsimp only; omega) | dsimp only) (by first | (dsimp only; omega) | dsimp only) ?_
  refine kk _ _ _ _ _ _ _ _ _ hW7 ?_ (by rw [List.length_append]; omega) hlen
  have := PF.step (b := 1) (c := 1) (k := 1) (ns := [e, a, b]) hP (by decide) ⟨fun q => by omega, fun q => by omega⟩ (by omega) (fun _ => rfl) ⟨fun v hv' => ?_, rfl, fun q hq => ?_⟩
  · exact this
  · rcases List.mem_cons.mp hv' with rfl | hv'
    · omega
    · rcases List.mem_cons.mp hv' with rfl | hv'
      · omega
      · rw [List.mem_singleton.mp hv']; omega
  · have hq2 : q < 3 := hq
    show _ < if q = 0 then X.1 ^ X.2.1 else 5
    match q, hq2 with
    | 0, _ => rw [if_pos rfl]; show e < _; omega
    | 1, _ => rw [if_neg (by omega)]; show a < 5; omega
    | 2, _ => rw [if_neg (by omega)]; show b < 5; omega
end LO
