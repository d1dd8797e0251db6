/-! ===== the law: the first that do not join; squares that part ===== -/
def Bad (X : Wd) (k : Nat) : Prop := k / 25 < X.2.1 ∧ k / 5 % 5 < X.2.1 ∧ k % 5 < X.2.1 ∧ mul X (mul X (X.1 ^ (k / 25)) (X.1 ^ (k / 5 % 5))) (X.1 ^ (k % 5)) ≠ mul X (X.1 ^ (k / 25)) (mul X (X.1 ^ (k / 5 % 5)) (X.1 ^ (k % 5)))
def Ap (X : Wd) (m : Nat) (z : Int32) : Prop := (∃ k, z = nI k ∧ m ≤ k ∧ k < 125 ∧ Bad X k ∧ ∀ j, m ≤ j → j < k → ¬ Bad X j) ∨ (z = -1 ∧ ∀ j, m ≤ j → j < 125 → ¬ Bad X j)
theorem Ap.skip {X : Wd} {m : Nat} {z : Int32} (h : Ap X (m + 1) z) (hb : ¬ Bad X m) : Ap X m z := by
  have e : ∀ j, m ≤ j → j = m ∨ m + 1 ≤ j := fun j hj => by omega
  rcases h with ⟨k, h1, h2, h3, h4, h5⟩ | ⟨h1, h2⟩
  · refine Or.inl ⟨k, h1, by omega, h3, h4, fun j hj hjk => ?_⟩
    rcases e j hj with rfl | q
    · exact hb
    · exact h5 j q hjk
  · refine Or.inr ⟨h1, fun j hj hjk => ?_⟩
    rcases e j hj with rfl | q
    · exact hb
    · exact h2 j q hjk
theorem asc_iff {X : Wd} (hk : Wok X) {i j k : Nat} : asc X i j k = 0 ↔ mul X (mul X (X.1 ^ i) (X.1 ^ j)) (X.1 ^ k) = mul X (X.1 ^ i) (mul X (X.1 ^ j) (X.1 ^ k)) := by
  have bb := hk.b
  exact sb_zero (by omega) (by omega) (mul_lt hk _ _) (mul_lt hk _ _)
theorem bad_ix {X : Wd} (hk : Wok X) {a b c : Nat} (ha : a < X.2.1) (hb : b < X.2.1) (hc : c < X.2.1) : asc X a b c ≠ 0 ↔ Bad X (25 * a + 5 * b + c) := by
  have bb := hk.b
  unfold Bad
  rw [show (25 * a + 5 * b + c) / 25 = a by omega, show (25 * a + 5 * b + c) / 5 % 5 = b by omega, show (25 * a + 5 * b + c) % 5 = c by omega]
  exact ⟨fun q => ⟨ha, hb, hc, fun e => q ((asc_iff hk).mpr e)⟩, fun q e => q.2.2.2 ((asc_iff hk).mp e)⟩
theorem Ap.unj {X : Wd} (hk : Wok X) {z : Int32} (h : Ap X 0 z) : Unj X z ∧ (Joi X ∧ z = -1 ∨ ¬ Joi X ∧ ∃ k, k < 125 ∧ z = nI k) := by
  have bb := hk.b
  rcases h with ⟨k, rfl, h2, h3, h4, h5⟩ | ⟨rfl, h2⟩
  · obtain ⟨b1, b2, b3, b4⟩ := id h4
    have ek : 25 * (k / 25) + 5 * (k / 5 % 5) + k % 5 = k := by omega
    have hne : asc X (k / 25) (k / 5 % 5) (k % 5) ≠ 0 := (bad_ix hk b1 b2 b3).mpr (by rw [ek]; exact h4)
    refine ⟨Or.inl ⟨k / 25, k / 5 % 5, k % 5, by rw [ek], b1, b2, b3, hne, fun a b c ha hb hc hl => ?_⟩, Or.inr ⟨fun hj => hne (hj _ _ _ b1 b2 b3), k, h3, rfl⟩⟩
    refine Classical.byContradiction (fun q => h5 (25 * a + 5 * b + c) (Nat.zero_le _) (by omega) ((bad_ix hk ha hb hc).mp q))
  · have hall : ∀ a b c, a < X.2.1 → b < X.2.1 → c < X.2.1 → asc X a b c = 0 := fun a b c ha hb hc => Classical.byContradiction (fun q => h2 (25 * a + 5 * b + c) (Nat.zero_le _) (by omega) ((bad_ix hk ha hb hc).mp q))
    exact ⟨Or.inr ⟨rfl, hall⟩, Or.inl ⟨hall, rfl⟩⟩
def Inj (X : Wd) (a b : Nat) : Prop := ∀ u v, u < v → v < b → pzl X a u ≠ pzl X a v
def PlA (X : Wd) (a : Nat) : Prop := ∀ d, 1 ≤ d → d < a → Inj X d (X.1 ^ X.2.1)
theorem PlA.all {X : Wd} (hk : Wok X) : PlA X (X.1 ^ X.2.1) ↔ ∀ y, 0 < y → y < X.1 ^ X.2.1 → rankE X 3 y = X.2.1 :=
  ⟨fun h y y0 y1 => (planar_iff hk y1).mp (h y y0 y1), fun h y y0 y1 => (planar_iff hk y1).mpr (h y y0 y1)⟩
theorem Inj.up {X : Wd} {a b : Nat} : (Inj X a b ∧ ¬ ∃ u, u < b ∧ pzl X a u = pzl X a b) ↔ Inj X a (b + 1) := by
  constructor
  · rintro ⟨h1, h2⟩ u v huv hv e
    by_cases c : v = b
    · subst c; exact h2 ⟨u, huv, e⟩
    · exact h1 u v huv (by omega) e
  · intro h
    exact ⟨fun u v huv hv => h u v huv (by omega), fun ⟨u, u1, u2⟩ => h u b u1 (by omega) u2⟩
theorem PlA.up {X : Wd} {a : Nat} (ha : 1 ≤ a) : (PlA X a ∧ Inj X a (X.1 ^ X.2.1)) ↔ PlA X (a + 1) := by
  constructor
  · rintro ⟨h1, h2⟩ d d1 d2
    by_cases c : d = a
    · subst c; exact h2
    · exact h1 d d1 (by omega)
  · intro h
    exact ⟨fun d d1 d2 => h d d1 (by omega), h a ha (by omega)⟩
section LY
variable {ro : RT} {Post : Option Value → AH → Nat → Prop} {h h2 : AH} {sb o r w tb z z0 z2 c s nb : Nat} {X : Wd} {v6 v7 v9 : Value}
theorem l_ap_k {k : Nat} {v : Int32} (hR : Rt h o w tb z0 X) (hk : Wok X) (hq : X.1 ^ X.2.1 ≤ 27) (hc : c ≤ 600000) (hs : s ≤ 7302250) (hm : k < 125) (hA : Ap X (k + 1) v)
    (nx : ∀ v, Ap X k v → VS ro ML_law Post (z, c, s) h 572 [some (.ref sb), some (.ref o), some (.int (nI r)), some (.ref w), some (.int (nI (X.1 ^ X.2.1))), some (.ref tb), some (v6), some (v7), some (.ref nb), some (.int v), some (.int (nI k)), none, none, none, none, none, none] []) : VS ro ML_law Post (z, c, s) h 448 [some (.ref sb), some (.ref o), some (.int (nI r)), some (.ref w), some (.int (nI (X.1 ^ X.2.1))), some (.ref tb), some (v6), some (v7), some (.ref nb), some (.int v), some (.int (nI k)), none, none, none, none, none, none] [] := by
  have bb := hk.b
  obtain ⟨l1, ⟨t1, t2⟩, -⟩ := id hR
  obtain ⟨w1, -⟩ := id l1
  refine ze_iload (pc := 448) dL_law_448 rfl ?_
  refine zn_if_lt (pc := 450) (tgt := 578) dL_law_450 (by omega) ?_ (by decide)
  refine ze_iload (pc := 453) dL_law_453 rfl ?_
  refine zn_bipush (pc := 455) 25 dL_law_455 (by decide) ?_
  refine zn_idiv (pc := 457) dL_law_457 (by omega) (by omega) (by omega) ?_
  refine ze_istore (pc := 458) dL_law_458 (by decide) ?_
  refine ze_iload (pc := 460) dL_law_460 rfl ?_
  refine zn_iconst (pc := 462) 5 dL_law_462 (by decide) ?_
  refine zn_idiv (pc := 463) dL_law_463 (by omega) (by omega) (by omega) ?_
  refine zn_iconst (pc := 464) 5 dL_law_464 (by decide) ?_
  refine zn_irem (pc := 465) dL_law_465 (by omega) (by omega) (by omega) ?_
  refine ze_istore (pc := 466) dL_law_466 (by decide) ?_
  refine ze_iload (pc := 468) dL_law_468 rfl ?_
  refine zn_iconst (pc := 470) 5 dL_law_470 (by decide) ?_
  refine zn_irem (pc := 471) dL_law_471 (by omega) (by omega) (by omega) ?_
  refine ze_istore (pc := 472) dL_law_472 (by decide) ?_
  refine ze_iload (pc := 474) dL_law_474 rfl ?_
  refine ze_aload_n (pc := 476) dL_law_476 rfl rfl ?_
  refine ze_getN (pc := 477) (kf := 1) rfl (by decide) (by decide) rfl dL_law_477 (by repeat (first | assumption | exact hset_eq _ _ _ | rw [hset_ne _ _ (by omega)])) (by rfl) ?_
  refine zn_icmp_ge (pc := 480) (tgt := 572) dL_law_480 (by decide) (by omega) (by omega) (fun c1 => ?_) (fun c1 => ?_)
  · refine VS.mask [true, true, true, true, true, true, true, true, true, true, true, false, false, false, false, false, false] ?_
    exact nx v (hA.skip (fun q => absurd q.1 (by omega)))
  refine ze_iload (pc := 483) dL_law_483 rfl ?_
  refine ze_aload_n (pc := 485) dL_law_485 rfl rfl ?_
  refine ze_getN (pc := 486) (kf := 1) rfl (by decide) (by decide) rfl dL_law_486 (by repeat (first | assumption | exact hset_eq _ _ _ | rw [hset_ne _ _ (by omega)])) (by rfl) ?_
  refine zn_icmp_ge (pc := 489) (tgt := 572) dL_law_489 (by decide) (by omega) (by omega) (fun c2 => ?_) (fun c2 => ?_)
  · refine VS.mask [true, true, true, true, true, true, true, true, true, true, true, false, false, false, false, false, false] ?_
    exact nx v (hA.skip (fun q => absurd q.2.1 (by omega)))
  refine ze_iload (pc := 492) dL_law_492 rfl ?_
  refine ze_aload_n (pc := 494) dL_law_494 rfl rfl ?_
  refine ze_getN (pc := 495) (kf := 1) rfl (by decide) (by decide) rfl dL_law_495 (by repeat (first | assumption | exact hset_eq _ _ _ | rw [hset_ne _ _ (by omega)])) (by rfl) ?_
  refine zn_icmp_lt (pc := 498) (tgt := 504) dL_law_498 (by decide) (by omega) (by omega) (fun c3 => ?_) (fun c3 => ?_)
  · have p1 := pw_q hk c1
    have p2 := pw_q hk c2
    have p3 := pw_q hk c3
    have m1 := mul_lt hk (X.1 ^ (k / 25)) (X.1 ^ (k / 5 % 5))
    have m2 := mul_lt hk (X.1 ^ (k / 5 % 5)) (X.1 ^ (k % 5))
    have m3 := mul_lt hk (mul X (X.1 ^ (k / 25)) (X.1 ^ (k / 5 % 5))) (X.1 ^ (k % 5))
    have m4 := mul_lt hk (X.1 ^ (k / 25)) (mul X (X.1 ^ (k / 5 % 5)) (X.1 ^ (k % 5)))
    obtain ⟨gu, gu1, gu2⟩ := t2 _ p1
    obtain ⟨gv, gv1, gv2⟩ := t2 _ p2
    obtain ⟨gm, gm1, gm2⟩ := t2 _ m1
    refine ze_aload_n (pc := 504) dL_law_504 rfl rfl ?_
    refine ze_getN (pc := 505) (kf := 0) rfl (by decide) (by decide) rfl dL_law_505 (by repeat (first | assumption | exact hset_eq _ _ _ | rw [hset_ne _ _ (by omega)])) (by rfl) ?_
    refine ze_iload (pc := 508) dL_law_508 rfl ?_
    refine zn_SP (pc := 510) (c_L_power (show k / 25 ≤ 1000 by omega)) bL_power q_st_L_power q_m_L_97 dL_law_510 rfl rfl (by exact Nat.le_of_ble_eq_true rfl) ⟨by decide, by decide⟩ ⟨rfl, rfl, by show _ ≤ 600000; first | omega | (dsimp only; omega) | dsimp only | exact Nat.le_of_ble_eq_true rfl, by show _ ≤ 7302250; first | omega | (dsimp only; omega) | dsimp only | exact Nat.le_of_ble_eq_true rfl⟩ ?_
    refine ze_istore (pc := 513) dL_law_513 (by decide) ?_
    refine ze_aload_n (pc := 515) dL_law_515 rfl rfl ?_
    refine ze_getN (pc := 516) (kf := 0) rfl (by decide) (by decide) rfl dL_law_516 (by repeat (first | assumption | exact hset_eq _ _ _ | rw [hset_ne _ _ (by omega)])) (by rfl) ?_
    refine ze_iload (pc := 519) dL_law_519 rfl ?_
    refine zn_SP (pc := 521) (c_L_power (show k / 5 % 5 ≤ 1000 by omega)) bL_power q_st_L_power q_m_L_97 dL_law_521 rfl rfl (by exact Nat.le_of_ble_eq_true rfl) ⟨by decide, by decide⟩ ⟨rfl, rfl, by show _ ≤ 600000; first | omega | (dsimp only; omega) | dsimp only | exact Nat.le_of_ble_eq_true rfl, by show _ ≤ 7302250; first | omega | (dsimp only; omega) | dsimp only | exact Nat.le_of_ble_eq_true rfl⟩ ?_
    refine ze_istore (pc := 524) dL_law_524 (by decide) ?_
    refine ze_aload_n (pc := 526) dL_law_526 rfl rfl ?_
    refine ze_getN (pc := 527) (kf := 0) rfl (by decide) (by decide) rfl dL_law_527 (by repeat (first | assumption | exact hset_eq _ _ _ | rw [hset_ne _ _ (by omega)])) (by rfl) ?_
    refine ze_iload (pc := 530) dL_law_530 rfl ?_
    refine zn_SP (pc := 532) (c_L_power (show k % 5 ≤ 1000 by omega)) bL_power q_st_L_power q_m_L_97 dL_law_532 rfl rfl (by exact Nat.le_of_ble_eq_true rfl) ⟨by decide, by decide⟩ ⟨rfl, rfl, by show _ ≤ 600000; first | omega | (dsimp only; omega) | dsimp only | exact Nat.le_of_ble_eq_true rfl, by show _ ≤ 7302250; first | omega | (dsimp only; omega) | dsimp only | exact Nat.le_of_ble_eq_true rfl⟩ ?_
    refine ze_istore (pc := 535) dL_law_535 (by decide) ?_
    refine ze_aload (pc := 537) dL_law_537 rfl ?_
    refine ze_aload (pc := 539) dL_law_539 rfl ?_
    refine ze_iload (pc := 541) dL_law_541 rfl ?_
    refine ze_aldGS (pc := 543) (X.1 ^ (k / 25)) dL_law_543 (by repeat (first | assumption | exact hset_eq _ _ _ | rw [hset_ne _ _ (by omega)])) (by rfl) (by omega) (by first | decide | omega) (by exact if_pos p1) ?_
    refine ze_iload (pc := 544) dL_law_544 rfl ?_
    refine ze_ialdN (pc := 546) (X.1 ^ (k / 5 % 5)) dL_law_546 (by repeat (first | assumption | exact hset_eq _ _ _ | rw [hset_ne _ _ (by omega)])) (by rfl) (by omega) (by first | decide | omega) ?_
    refine ze_top (gu2 _ p2) ?_
    refine ze_aldGS (pc := 547) (mul X (X.1 ^ (k / 25)) (X.1 ^ (k / 5 % 5))) dL_law_547 (by repeat (first | assumption | exact hset_eq _ _ _ | rw [hset_ne _ _ (by omega)])) (by rfl) (by omega) (by first | decide | omega) (by exact if_pos m1) ?_
    refine ze_iload (pc := 548) dL_law_548 rfl ?_
    refine ze_ialdN (pc := 550) (X.1 ^ (k % 5)) dL_law_550 (by repeat (first | assumption | exact hset_eq _ _ _ | rw [hset_ne _ _ (by omega)])) (by rfl) (by omega) (by first | decide | omega) ?_
    refine ze_top (gm2 _ p3) ?_
    refine ze_aload (pc := 551) dL_law_551 rfl ?_
    refine ze_iload (pc := 553) dL_law_553 rfl ?_
    refine ze_aldGS (pc := 555) (X.1 ^ (k / 25)) dL_law_555 (by repeat (first | assumption | exact hset_eq _ _ _ | rw [hset_ne _ _ (by omega)])) (by rfl) (by omega) (by first | decide | omega) (by exact if_pos p1) ?_
    refine ze_aload (pc := 556) dL_law_556 rfl ?_
    refine ze_iload (pc := 558) dL_law_558 rfl ?_
    refine ze_aldGS (pc := 560) (X.1 ^ (k / 5 % 5)) dL_law_560 (by repeat (first | assumption | exact hset_eq _ _ _ | rw [hset_ne _ _ (by omega)])) (by rfl) (by omega) (by first | decide | omega) (by exact if_pos p2) ?_
    refine ze_iload (pc := 561) dL_law_561 rfl ?_
    refine ze_ialdN (pc := 563) (X.1 ^ (k % 5)) dL_law_563 (by repeat (first | assumption | exact hset_eq _ _ _ | rw [hset_ne _ _ (by omega)])) (by rfl) (by omega) (by first | decide | omega) ?_
    refine ze_top (gv2 _ p3) ?_
    refine ze_ialdN (pc := 564) (mul X (X.1 ^ (k / 5 % 5)) (X.1 ^ (k % 5))) dL_law_564 (by repeat (first | assumption | exact hset_eq _ _ _ | rw [hset_ne _ _ (by omega)])) (by rfl) (by omega) (by first | decide | omega) ?_
    refine ze_top (gu2 _ m2) ?_
    refine zn_icmp_eq (pc := 565) (tgt := 572) dL_law_565 (by decide) (by omega) (by omega) (fun c4 => ?_) (fun c4 => ?_)
    · refine VS.mask [true, true, true, true, true, true, true, true, true, true, true, false, false, false, false, false, false] ?_
      exact nx v (hA.skip (fun q => q.2.2.2 c4))
    · refine ze_iload (pc := 568) dL_law_568 rfl ?_
      refine ze_istore (pc := 570) dL_law_570 (by decide) ?_
      refine VS.mask [true, true, true, true, true, true, true, true, true, true, true, false, false, false, false, false, false] ?_
      exact nx _ (Or.inl ⟨k, rfl, Nat.le_refl _, hm, ⟨c1, c2, c3, c4⟩, fun j hj hjk => absurd hj (by omega)⟩)
  · refine ze_goto (pc := 501) (tgt := 572) dL_law_501 (by decide) ?_
    refine VS.mask [true, true, true, true, true, true, true, true, true, true, true, false, false, false, false, false, false] ?_
    exact nx v (hA.skip (fun q => absurd q.2.2.1 (by omega)))
theorem l_ap (hR : Rt h o w tb z0 X) (hk : Wok X) (hq : X.1 ^ X.2.1 ≤ 27) (hc : c ≤ 600000) (hs : s ≤ 7302250)
    (kk : ∀ v, Ap X 0 v → VS ro ML_law Post (z, c, s) h 578 [some (.ref sb), some (.ref o), some (.int (nI r)), some (.ref w), some (.int (nI (X.1 ^ X.2.1))), some (.ref tb), some (v6), some (v7), some (.ref nb), some (.int v), none, none, none, none, none, none, none] []) :
    ∀ (m : Nat) (v : Int32), m < 125 → Ap X (m + 1) v → VS ro ML_law Post (z, c, s) h 448 [some (.ref sb), some (.ref o), some (.int (nI r)), some (.ref w), some (.int (nI (X.1 ^ X.2.1))), some (.ref tb), some (v6), some (v7), some (.ref nb), some (.int v), some (.int (nI m)), none, none, none, none, none, none] [] := by
  intro m
  induction m with
  | zero =>
    intro v hm hA
    refine l_ap_k hR hk hq hc hs hm hA (fun v hA => ?_)
    refine zn_dec0 (pc := 572) dL_law_572 rfl (by decide) ?_
    refine ze_goto (pc := 575) (tgt := 448) dL_law_575 (by decide) ?_
    refine ze_iload (pc := 448) dL_law_448 rfl ?_
    refine ze_if_lt (pc := 450) (tgt := 578) dL_law_450 (by decide) (fun _ => ?_) (fun q => absurd (by decide) q)
    refine VS.mask [true, true, true, true, true, true, true, true, true, true, false, false, false, false, false, false, false] ?_
    exact kk v hA
  | succ m ih =>
    intro v hm hA
    refine l_ap_k hR hk hq hc hs hm hA (fun v hA => ?_)
    refine zn_dec (pc := 572) dL_law_572 rfl (by decide) ?_
    refine ze_goto (pc := 575) (tgt := 448) dL_law_575 (by decide) ?_
    exact ih v (by omega) hA
-- the squares
theorem l_pl_b {a : Nat} (hR : Rt h o w tb z0 X) (hk : Wok X) (hq : X.1 ^ X.2.1 ≤ 27) (hc : c ≤ 600000) (hs : s ≤ 7302250) {sa : Nat} (hsa : z0 ≤ sa) (ha : 1 ≤ a) (ha2 : a < X.1 ^ X.2.1)
    (kk : ∀ h2, (∀ q, q ≠ sa → h2 q = h q) → VS ro ML_law Post (z, c, s) h2 688 [some (.ref sb), some (.ref o), some (.int (nI r)), some (.ref w), some (.int (nI (X.1 ^ X.2.1))), some (.ref tb), some (v6), some (v7), some (.ref nb), some (v9), some (.int (tI (PlA X (a + 1)))), some (.int (nI a)), none, none, none, none, none] []) :
    ∀ (m b : Nat), m = X.1 ^ X.2.1 - b → b ≤ X.1 ^ X.2.1 → ∀ h2 g, (∀ q, q ≠ sa → h2 q = h q) → h2 sa = some (aZ (X.1 ^ X.2.1) g) → (∀ v, v < X.1 ^ X.2.1 → g v = tI (∃ u, u < b ∧ pzl X a u = v)) → VS ro ML_law Post (z, c, s) h2 605 [some (.ref sb), some (.ref o), some (.int (nI r)), some (.ref w), some (.int (nI (X.1 ^ X.2.1))), some (.ref tb), some (v6), some (v7), some (.ref nb), some (v9), some (.int (tI (PlA X a ∧ Inj X a b))), some (.int (nI a)), some (.ref sa), some (.int (nI b)), none, none, none] [] := by
  have bb := hk.b
  intro m
  induction m with
  | zero =>
    intro b e1 e2 h2 g he hg hgs
    have : b = X.1 ^ X.2.1 := by omega
    subst this
    rw [tI_c (PlA.up ha)]
    refine ze_iload (pc := 605) dL_law_605 rfl ?_
    refine ze_iload (pc := 607) dL_law_607 rfl ?_
    refine zn_icmp_ge (pc := 609) (tgt := 688) dL_law_609 (by decide) (by omega) (by omega) (fun cc => ?_) (fun c => absurd c (by omega))
    refine VS.mask [true, true, true, true, true, true, true, true, true, true, true, true, false, false, false, false, false] ?_
    exact kk h2 he
  | succ m ih =>
    intro b e1 e2 h2 g he hg hgs
    have hb : b < X.1 ^ X.2.1 := by omega
    have hR2 : Rt h2 o w tb z0 X := hR.kept (Nat.le_refl _) (fun q _ q2 => he q (by omega))
    obtain ⟨l1, ⟨t1, t2⟩, -⟩ := id hR2
    obtain ⟨w1, -⟩ := id l1
    have ay := ad_lt (p := X.1) (n := X.2.1) (by omega) (by omega) hb ha2
    have m1 := mul_lt hk (ad X.1 b a) (ad X.1 b a)
    have m2 := mul_lt hk b b
    have m3 := mul_lt hk a a
    have m4 := sb_lt (p := X.1) (n := X.2.1) (by omega) (by omega) m1 m2
    have m5 : pzl X a b < X.1 ^ X.2.1 := sb_lt (p := X.1) (n := X.2.1) (by omega) (by omega) m4 m3
    obtain ⟨gy, gy1, gy2⟩ := t2 _ ay
    obtain ⟨gb, gb1, gb2⟩ := t2 _ hb
    obtain ⟨ga, ga1, ga2⟩ := t2 _ ha2
    have sto : ∀ P : Prop, (P ↔ PlA X a ∧ Inj X a (b + 1)) → VS ro ML_law Post (z, c, s) h2 674 [some (.ref sb), some (.ref o), some (.int (nI r)), some (.ref w), some (.int (nI (X.1 ^ X.2.1))), some (.ref tb), some (v6), some (v7), some (.ref nb), some (v9), some (.int (tI (PlA X a ∧ Inj X a b))), some (.int (nI a)), some (.ref sa), some (.int (nI b)), none, some (.int (nI (pzl X a b))), none] [.int (tI P)] := fun P hP => by
      rw [tI_c hP]
      refine ze_istore (pc := 674) dL_law_674 (by decide) ?_
      refine ze_aload (pc := 676) dL_law_676 rfl ?_
      refine ze_iload (pc := 678) dL_law_678 rfl ?_
      refine zn_iconst (pc := 680) 1 dL_law_680 (by decide) ?_
      refine ze_zastN (pc := 681) (pzl X a b) dL_law_681 hg rfl m5 (by omega) ?_
      refine zn_inc (pc := 682) dL_law_682 rfl (by decide) ?_
      refine ze_goto (pc := 685) (tgt := 605) dL_law_685 (by decide) ?_
      refine VS.mask [true, true, true, true, true, true, true, true, true, true, true, true, true, true, false, false, false] ?_
      refine ih (b + 1) (by omega) (by omega) _ _ (fun q hq => (hset_ne _ _ hq).trans (he q hq)) (hset_eq _ _ _) (fun v hv => ?_)
      unfold upd
      by_cases e : v = pzl X a b
      · rw [if_pos e, tI_t ⟨b, by omega, e.symm⟩]; rfl
      · rw [if_neg e, hgs v hv]
        exact tI_c ⟨fun ⟨u, u1, u2⟩ => ⟨u, by omega, u2⟩, fun ⟨u, u1, u2⟩ => ⟨u, by
          by_cases c0 : u = b
          · subst c0; exact absurd u2.symm e
          · omega, u2⟩⟩
    refine ze_iload (pc := 605) dL_law_605 rfl ?_
    refine ze_iload (pc := 607) dL_law_607 rfl ?_
    refine zn_icmp_ge (pc := 609) (tgt := 688) dL_law_609 (by decide) (by omega) (by omega) (fun c => absurd c (by omega)) (fun cc => ?_)
    refine ze_aload_n (pc := 612) dL_law_612 rfl rfl ?_
    refine ze_iload (pc := 613) dL_law_613 rfl ?_
    refine ze_iload (pc := 615) dL_law_615 rfl ?_
    refine zn_VP (pc := 617) (c_X11_plus w1 ⟨bb.1, bb.2.1⟩ (by omega) hb ha2 (by omega)) bX11_plus q_i_X11_plus q_s_X11_plus q_m_L_151 dL_law_617 rfl rfl (by repeat (first | assumption | exact hset_eq _ _ _ | rw [hset_ne _ _ (by omega)])) rfl rfl (by exact Nat.le_of_ble_eq_true rfl) ⟨by decide, by decide⟩ ⟨rfl, rfl, by show _ ≤ 600000; first | omega | (dsimp only; omega) | dsimp only | exact Nat.le_of_ble_eq_true rfl, by show _ ≤ 7302250; first | omega | (dsimp only; omega) | dsimp only | exact Nat.le_of_ble_eq_true rfl⟩ ?_
    refine ze_istore (pc := 620) dL_law_620 (by decide) ?_
    refine ze_aload_n (pc := 622) dL_law_622 rfl rfl ?_
    refine ze_aload_n (pc := 623) dL_law_623 rfl rfl ?_
    refine ze_aload (pc := 624) dL_law_624 rfl ?_
    refine ze_iload (pc := 626) dL_law_626 rfl ?_
    refine ze_aldGS (pc := 628) (ad X.1 b a) dL_law_628 (by repeat (first | assumption | exact hset_eq _ _ _ | rw [hset_ne _ _ (by omega)])) (by rfl) (by omega) (by first | decide | omega) (by exact if_pos ay) ?_
    refine ze_iload (pc := 629) dL_law_629 rfl ?_
    refine ze_ialdN (pc := 631) (ad X.1 b a) dL_law_631 (by repeat (first | assumption | exact hset_eq _ _ _ | rw [hset_ne _ _ (by omega)])) (by rfl) (by omega) (by first | decide | omega) ?_
    refine ze_top (gy2 _ ay) ?_
    refine ze_aload (pc := 632) dL_law_632 rfl ?_
    refine ze_iload (pc := 634) dL_law_634 rfl ?_
    refine ze_aldGS (pc := 636) (b) dL_law_636 (by repeat (first | assumption | exact hset_eq _ _ _ | rw [hset_ne _ _ (by omega)])) (by rfl) (by omega) (by first | decide | omega) (by exact if_pos hb) ?_
    refine ze_iload (pc := 637) dL_law_637 rfl ?_
    refine ze_ialdN (pc := 639) (b) dL_law_639 (by repeat (first | assumption | exact hset_eq _ _ _ | rw [hset_ne _ _ (by omega)])) (by rfl) (by omega) (by first | decide | omega) ?_
    refine ze_top (gb2 _ hb) ?_
    refine zn_VP (pc := 640) (c_X11_minus w1 ⟨bb.1, bb.2.1⟩ (by omega) m1 m2 (by omega)) bX11_minus q_i_X11_minus q_s_X11_minus q_m_L_109 dL_law_640 rfl rfl (by repeat (first | assumption | exact hset_eq _ _ _ | rw [hset_ne _ _ (by omega)])) rfl rfl (by exact Nat.le_of_ble_eq_true rfl) ⟨by decide, by decide⟩ ⟨rfl, rfl, by show _ ≤ 600000; first | omega | (dsimp only; omega) | dsimp only | exact Nat.le_of_ble_eq_true rfl, by show _ ≤ 7302250; first | omega | (dsimp only; omega) | dsimp only | exact Nat.le_of_ble_eq_true rfl⟩ ?_
    refine ze_aload (pc := 643) dL_law_643 rfl ?_
    refine ze_iload (pc := 645) dL_law_645 rfl ?_
    refine ze_aldGS (pc := 647) (a) dL_law_647 (by repeat (first | assumption | exact hset_eq _ _ _ | rw [hset_ne _ _ (by omega)])) (by rfl) (by omega) (by first | decide | omega) (by exact if_pos ha2) ?_
    refine ze_iload (pc := 648) dL_law_648 rfl ?_
    refine ze_ialdN (pc := 650) (a) dL_law_650 (by repeat (first | assumption | exact hset_eq _ _ _ | rw [hset_ne _ _ (by omega)])) (by rfl) (by omega) (by first | decide | omega) ?_
    refine ze_top (ga2 _ ha2) ?_
    refine zn_VP (pc := 651) (c_X11_minus w1 ⟨bb.1, bb.2.1⟩ (by omega) m4 m3 (by omega)) bX11_minus q_i_X11_minus q_s_X11_minus q_m_L_109 dL_law_651 rfl rfl (by repeat (first | assumption | exact hset_eq _ _ _ | rw [hset_ne _ _ (by omega)])) rfl rfl (by exact Nat.le_of_ble_eq_true rfl) ⟨by decide, by decide⟩ ⟨rfl, rfl, by show _ ≤ 600000; first | omega | (dsimp only; omega) | dsimp only | exact Nat.le_of_ble_eq_true rfl, by show _ ≤ 7302250; first | omega | (dsimp only; omega) | dsimp only | exact Nat.le_of_ble_eq_true rfl⟩ ?_
    refine ze_top (show _ = nI (pzl X a b) from rfl) ?_
    refine ze_istore (pc := 654) dL_law_654 (by decide) ?_
    refine ze_iload (pc := 656) dL_law_656 rfl ?_
    by_cases hP : PlA X a ∧ Inj X a b
    · refine ze_top (tI_t hP) ?_
      refine zn_if_eq (pc := 658) (tgt := 673) dL_law_658 (by decide) (by omega) (fun q => absurd q (by omega)) (fun _ => ?_)
      refine ze_aload (pc := 661) dL_law_661 rfl ?_
      refine ze_iload (pc := 663) dL_law_663 rfl ?_
      refine ze_zaldN (pc := 665) (pzl X a b) dL_law_665 hg rfl m5 (by omega) ?_
      by_cases hE : ∃ u, u < b ∧ pzl X a u = pzl X a b
      · refine ze_top ((hgs _ m5).trans (tI_t hE)) ?_
        refine zn_if_ne (pc := 666) (tgt := 673) dL_law_666 (by decide) (by omega) (fun _ => ?_) (fun q => absurd q (by omega))
        refine zn_iconst (pc := 673) 0 dL_law_673 (by decide) ?_
        refine ze_top (tI_f (P := PlA X a ∧ Inj X a (b + 1)) (fun q => (Inj.up.mpr q.2).2 hE)).symm ?_
        refine VS.mask [true, true, true, true, true, true, true, true, true, true, true, true, true, true, false, true, false] ?_
        exact sto _ Iff.rfl
      · refine ze_top ((hgs _ m5).trans (tI_f hE)) ?_
        refine zn_if_ne (pc := 666) (tgt := 673) dL_law_666 (by decide) (by omega) (fun q => absurd rfl q) (fun _ => ?_)
        refine zn_iconst (pc := 669) 1 dL_law_669 (by decide) ?_
        refine ze_goto (pc := 670) (tgt := 674) dL_law_670 (by decide) ?_
        refine ze_top (tI_t (P := PlA X a ∧ Inj X a (b + 1)) ⟨hP.1, Inj.up.mp ⟨hP.2, hE⟩⟩).symm ?_
        refine VS.mask [true, true, true, true, true, true, true, true, true, true, true, true, true, true, false, true, false] ?_
        exact sto _ Iff.rfl
    · refine ze_top (tI_f hP) ?_
      refine zn_if_eq (pc := 658) (tgt := 673) dL_law_658 (by decide) (by omega) (fun _ => ?_) (fun q => absurd rfl q)
      refine zn_iconst (pc := 673) 0 dL_law_673 (by decide) ?_
      refine ze_top (tI_f (P := PlA X a ∧ Inj X a (b + 1)) (fun q => hP ⟨q.1, (Inj.up.mpr q.2).1⟩)).symm ?_
      refine VS.mask [true, true, true, true, true, true, true, true, true, true, true, true, true, true, false, true, false] ?_
      exact sto _ Iff.rfl
theorem l_pl_a (hR : Rt h o w tb z0 X) (hk : Wok X) (hq : X.1 ^ X.2.1 ≤ 27) (hc : c + 30 ≤ 600000) (hs : s + 1000 ≤ 7302250)
    (kk : ∀ z2 h2, z0 ≤ z2 → (∀ q, q < z0 → h2 q = h q) → VS ro ML_law Post (z2, c + 30, s + 1000) h2 694 [some (.ref sb), some (.ref o), some (.int (nI r)), some (.ref w), some (.int (nI (X.1 ^ X.2.1))), some (.ref tb), some (v6), some (v7), some (.ref nb), some (v9), some (.int (tI (PlA X (X.1 ^ X.2.1)))), none, none, none, none, none, none] []) :
    ∀ (m a : Nat), m = X.1 ^ X.2.1 - a → 1 ≤ a → a ≤ X.1 ^ X.2.1 → ∀ z h2, z0 ≤ z → (∀ q, q < z0 → h2 q = h q) → VS ro ML_law Post (z, c + a, s + 27 * a) h2 584 [some (.ref sb), some (.ref o), some (.int (nI r)), some (.ref w), some (.int (nI (X.1 ^ X.2.1))), some (.ref tb), some (v6), some (v7), some (.ref nb), some (v9), some (.int (tI (PlA X a))), some (.int (nI a)), none, none, none, none, none] [] := by
  intro m
  induction m with
  | zero =>
    intro a e1 e0 e2 z h2 hz he
    have : a = X.1 ^ X.2.1 := by omega
    subst this
    refine ze_iload (pc := 584) dL_law_584 rfl ?_
    refine ze_iload (pc := 586) dL_law_586 rfl ?_
    refine zn_icmp_ge (pc := 588) (tgt := 694) dL_law_588 (by decide) (by omega) (by omega) (fun cc => ?_) (fun c => absurd c (by omega))
    refine VS.mask [true, true, true, true, true, true, true, true, true, true, true, false, false, false, false, false, false] ?_
    refine VS.widen (c2 := c + 30) (s2 := s + 1000) (by first | (dsimp only; omega) | dsimp only) (by first | (dsimp only; omega) | dsimp only) ?_
    exact kk z h2 hz he
  | succ m ih =>
    intro a e1 e0 e2 z h2 hz he
    refine ze_iload (pc := 584) dL_law_584 rfl ?_
    refine ze_iload (pc := 586) dL_law_586 rfl ?_
    refine zn_icmp_ge (pc := 588) (tgt := 694) dL_law_588 (by decide) (by omega) (by omega) (fun c => absurd c (by omega)) (fun cc => ?_)
    refine ze_iload (pc := 591) dL_law_591 rfl ?_
    by_cases hP : PlA X a
    · refine ze_top (tI_t hP) ?_
      refine zn_if_eq (pc := 593) (tgt := 694) dL_law_593 (by decide) (by omega) (fun q => absurd q (by omega)) (fun _ => ?_)
      refine ze_iload (pc := 596) dL_law_596 rfl ?_
      refine ze_newZ (pc := 598) dL_law_598 rfl (by omega) ⟨by show c + a + 1 ≤ 600000; omega, by show s + 27 * a + X.1 ^ X.2.1 ≤ 7302250; omega⟩ ?_
      dsimp only
      refine ze_astore (pc := 600) dL_law_600 (by decide) ?_
      refine zn_iconst (pc := 602) 0 dL_law_602 (by decide) ?_
      refine ze_istore (pc := 603) dL_law_603 (by decide) ?_
      rw [tI_c (show PlA X a ↔ PlA X a ∧ Inj X a 0 from ⟨fun q => ⟨q, fun u v _ hv => absurd hv (by omega)⟩, fun q => q.1⟩)]
      refine l_pl_b (h := hset h2 z (aZ (X.1 ^ X.2.1) (fun _ => 0))) (z0 := z0) (sa := z) (hR.kept (Nat.le_refl _) (fun q _ q2 => by rw [hset_ne _ _ (by omega)]; exact he q q2)) hk hq (by omega) (by omega) hz e0 (by omega) (fun h3 he3 => ?_) (X.1 ^ X.2.1) 0 (by omega) (by omega) _ _ (fun _ _ => rfl) (hset_eq _ _ _) (fun v hv => (tI_f (fun ⟨u, u1, _⟩ => absurd u1 (by omega))).symm)
      refine zn_inc (pc := 688) dL_law_688 rfl (by decide) ?_
      refine ze_goto (pc := 691) (tgt := 584) dL_law_691 (by decide) ?_
      refine VS.widen (c2 := c + (a + 1)) (s2 := s + 27 * (a + 1)) (by first | (dsimp only; omega) | dsimp only) (by first | (dsimp only; omega) | dsimp only) ?_
      exact ih (a + 1) (by omega) (by omega) (by omega) (z + 1) h3 (by omega) (fun q hq2 => by rw [he3 q (by omega), hset_ne _ _ (by omega)]; exact he q hq2)
    · have hn : ¬ PlA X (X.1 ^ X.2.1) := fun q => hP (fun d d1 d2 => q d d1 (by omega))
      rw [tI_c (show PlA X a ↔ PlA X (X.1 ^ X.2.1) from ⟨fun q => absurd q hP, fun q => absurd q hn⟩)]
      refine ze_top (tI_f hn) ?_
      refine zn_if_eq (pc := 593) (tgt := 694) dL_law_593 (by decide) (by omega) (fun _ => ?_) (fun q => absurd rfl q)
      refine VS.mask [true, true, true, true, true, true, true, true, true, true, true, false, false, false, false, false, false] ?_
      refine VS.widen (c2 := c + 30) (s2 := s + 1000) (by first | (dsimp only; omega) | dsimp only) (by first | (dsimp only; omega) | dsimp only) ?_
      exact kk z h2 hz he
end LY
