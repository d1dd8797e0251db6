/-! ===== the law: what is due ===== -/
def Du (X : Wd) (g : Nat → Int32) (m : Nat) : Prop := ∀ k, k < m → OfP X (nI k) (g k)
theorem Du.up {X : Wd} {g : Nat → Int32} {m : Nat} {v : Int32} (hd : Du X g m) (hv : OfP X (nI m) v) : Du X (upd g m v) (m + 1) := fun k hk => by
  unfold upd
  by_cases e : k = m
  · rw [if_pos e, e]; exact hv
  · rw [if_neg e]; exact hd k (by omega)
section OFI
variable {X : Wd} {z : Int32}
theorem oi_0 : OfP X (nI 0) (nI X.1) := by unfold OfP; rw [if_pos rfl]
theorem oi_1 : OfP X (nI 1) (nI X.2.1) := by unfold OfP; rw [if_neg (by decide), if_pos rfl]
theorem oi_2 : OfP X (nI 2) (nI (X.1 ^ X.2.1)) := by unfold OfP; rw [if_neg (by decide), if_neg (by decide), if_pos rfl]
theorem oi_3 : OfP X (nI 3) (tI (Div X)) := by unfold OfP; rw [if_neg (by decide), if_neg (by decide), if_neg (by decide), if_pos rfl]; rfl
theorem oi_4 (h : Fail X z) : OfP X (nI 4) z := by unfold OfP; rw [if_neg (by decide), if_neg (by decide), if_neg (by decide), if_neg (by decide), if_pos rfl]; exact h
theorem oi_5 (h : UnitOf X z) : OfP X (nI 5) z := by unfold OfP; rw [if_neg (by decide), if_neg (by decide), if_neg (by decide), if_neg (by decide), if_neg (by decide), if_pos rfl]; exact h
theorem oi_6 : OfP X (nI 6) (tI (Wcom X)) := by unfold OfP; rw [if_neg (by decide), if_neg (by decide), if_neg (by decide), if_neg (by decide), if_neg (by decide), if_neg (by decide), if_pos rfl]; rfl
theorem oi_7 : OfP X (nI 7) (tI (Joi X)) := by unfold OfP; rw [if_neg (by decide), if_neg (by decide), if_neg (by decide), if_neg (by decide), if_neg (by decide), if_neg (by decide), if_neg (by decide), if_pos rfl]; rfl
theorem oi_8 (h : Unj X z) : OfP X (nI 8) z := by unfold OfP; rw [if_neg (by decide), if_neg (by decide), if_neg (by decide), if_neg (by decide), if_neg (by decide), if_neg (by decide), if_neg (by decide), if_neg (by decide), if_pos rfl]; exact h
theorem oi_9 : OfP X (nI 9) (nI (cn (X.1 ^ X.2.1) (fun x => bl (Joins X 0 x)))) := by unfold OfP; rw [if_neg (by decide), if_neg (by decide), if_neg (by decide), if_neg (by decide), if_neg (by decide), if_neg (by decide), if_neg (by decide), if_neg (by decide), if_neg (by decide), if_pos rfl]
theorem oi_10 : OfP X (nI 10) (nI (cn (X.1 ^ X.2.1) (fun x => bl (Joins X 1 x)))) := by unfold OfP; rw [if_neg (by decide), if_neg (by decide), if_neg (by decide), if_neg (by decide), if_neg (by decide), if_neg (by decide), if_neg (by decide), if_neg (by decide), if_neg (by decide), if_neg (by decide), if_pos rfl]
theorem oi_11 : OfP X (nI 11) (nI (cn (X.1 ^ X.2.1) (fun x => bl (Joins X 2 x)))) := by unfold OfP; rw [if_neg (by decide), if_neg (by decide), if_neg (by decide), if_neg (by decide), if_neg (by decide), if_neg (by decide), if_neg (by decide), if_neg (by decide), if_neg (by decide), if_neg (by decide), if_neg (by decide), if_pos rfl]
theorem oi_12 : OfP X (nI 12) (nI (cn (X.1 ^ X.2.1) (fun x => bl (InC X x)))) := by unfold OfP; rw [if_neg (by decide), if_neg (by decide), if_neg (by decide), if_neg (by decide), if_neg (by decide), if_neg (by decide), if_neg (by decide), if_neg (by decide), if_neg (by decide), if_neg (by decide), if_neg (by decide), if_neg (by decide), if_pos rfl]
theorem oi_13 : OfP X (nI 13) (nI (cn (X.1 ^ X.2.1) (fun x => decide (mul X x x = x)))) := by unfold OfP; rw [if_neg (by decide), if_neg (by decide), if_neg (by decide), if_neg (by decide), if_neg (by decide), if_neg (by decide), if_neg (by decide), if_neg (by decide), if_neg (by decide), if_neg (by decide), if_neg (by decide), if_neg (by decide), if_neg (by decide), if_pos rfl]
theorem oi_14 (h : (X.1 = 2 ∧ z = -1) ∨ (X.1 ≠ 2 ∧ isB z (∀ y, 0 < y → y < X.1 ^ X.2.1 → rankE X 3 y = X.2.1))) : OfP X (nI 14) z := by unfold OfP; rw [if_neg (by decide), if_neg (by decide), if_neg (by decide), if_neg (by decide), if_neg (by decide), if_neg (by decide), if_neg (by decide), if_neg (by decide), if_neg (by decide), if_neg (by decide), if_neg (by decide), if_neg (by decide), if_neg (by decide), if_neg (by decide), if_pos rfl]; exact h
theorem isB_tI {P : Prop} : isB (tI P) P := by
  by_cases h : P
  · exact Or.inl ⟨h, tI_t h⟩
  · exact Or.inr ⟨h, tI_f h⟩
/-- whether division fails, from the place where it does -/
theorem fail_div (hk : Wok X) (hq : X.1 ^ X.2.1 ≤ 27) (h : Fail X z) : (Div X ∧ z = -1) ∨ (¬ Div X ∧ ∃ k, k < 2 ^ 31 ∧ z = nI k) := by
  rcases h with ⟨a, b, rfl, a0, a1, b0, b1, e, -⟩ | ⟨rfl, n⟩
  · have : X.1 ^ X.2.1 * a ≤ 27 * 27 := Nat.mul_le_mul hq (by omega)
    exact Or.inr ⟨fun hd => hd a b a0 a1 b0 b1 e, _, by omega, rfl⟩
  · exact Or.inl ⟨n, rfl⟩
end OFI
section LZ
variable {ro : RT} {Post : Option Value → AH → Nat → Prop} {h h2 : AH} {sb o r w tb z z0 z2 c s nb idm : Nat} {X : Wd} {va : Int32} {g gn : Nat → Int32}
theorem l_du_a (hR : Rt h o w tb z0 X) (hz : z0 ≤ z) (hk : Wok X) (hq : X.1 ^ X.2.1 ≤ 27) (hc : c + 1 ≤ 600000) (hs : s + 15 ≤ 7302250)
    (kk : ∀ g, Du X g 4 → VS ro ML_law Post (z + 1, c + 1, s + 15) (hset h z (aI 15 g)) 732 [some (.ref sb), some (.ref o), some (.int (nI r)), some (.ref w), some (.int (nI (X.1 ^ X.2.1))), some (.ref tb), some (.int (tI (Wcom X))), some (.int (nI idm)), some (.ref nb), some (.int va), some (.int (tI (PlA X (X.1 ^ X.2.1)))), none, none, none, none, none, none] [.ref z]) : VS ro ML_law Post (z, c, s) h 694 [some (.ref sb), some (.ref o), some (.int (nI r)), some (.ref w), some (.int (nI (X.1 ^ X.2.1))), some (.ref tb), some (.int (tI (Wcom X))), some (.int (nI idm)), some (.ref nb), some (.int va), some (.int (tI (PlA X (X.1 ^ X.2.1)))), none, none, none, none, none, none] [] := by
  refine zn_bipush (pc := 694) 15 dL_law_694 (by decide) ?_
  refine ze_newI (pc := 696) dL_law_696 rfl (by omega) ⟨by show c + 1 ≤ 600000; omega, by show s + 15 ≤ 7302250; omega⟩ ?_
  dsimp only
  have hR2 : ∀ g, Rt (hset h z (aI 15 g)) o w tb z0 X := fun g => hR.kept (Nat.le_refl _) (fun q _ q2 => hset_ne _ _ (by omega))
  have d0 : Du X (fun _ => 0) 0 := fun k hk => absurd hk (by omega)
  obtain ⟨l1, -⟩ := id (hR2 (fun _ => 0))
  obtain ⟨w1, -⟩ := id l1
  refine ze_dup (pc := 698) dL_law_698 rfl ?_
  refine zn_iconst (pc := 699) 0 dL_law_699 (by decide) ?_
  refine ze_aload_n (pc := 700) dL_law_700 rfl rfl ?_
  refine ze_getN (pc := 701) (kf := 0) rfl (by decide) (by decide) rfl dL_law_701 (by repeat (first | assumption | exact hset_eq _ _ _ | rw [hset_ne _ _ (by omega)])) (by rfl) ?_
  refine ze_iastN (pc := 704) (0) dL_law_704 (by repeat (first | assumption | exact hset_eq _ _ _ | rw [hset_ne _ _ (by omega)])) (by rfl) (by omega) (by first | decide | omega) ?_
  rw [hset_hset]
  have d1 := d0.up oi_0
  obtain ⟨l1, -⟩ := id (hR2 (upd (fun _ => 0) 0 (nI X.1)))
  obtain ⟨w1, -⟩ := id l1
  refine ze_dup (pc := 705) dL_law_705 rfl ?_
  refine zn_iconst (pc := 706) 1 dL_law_706 (by decide) ?_
  refine ze_aload_n (pc := 707) dL_law_707 rfl rfl ?_
  refine ze_getN (pc := 708) (kf := 1) rfl (by decide) (by decide) rfl dL_law_708 (by repeat (first | assumption | exact hset_eq _ _ _ | rw [hset_ne _ _ (by omega)])) (by rfl) ?_
  refine ze_iastN (pc := 711) (1) dL_law_711 (by repeat (first | assumption | exact hset_eq _ _ _ | rw [hset_ne _ _ (by omega)])) (by rfl) (by omega) (by first | decide | omega) ?_
  rw [hset_hset]
  have d2 := d1.up oi_1
  refine ze_dup (pc := 712) dL_law_712 rfl ?_
  refine zn_iconst (pc := 713) 2 dL_law_713 (by decide) ?_
  refine ze_iload (pc := 714) dL_law_714 rfl ?_
  refine ze_iastN (pc := 716) (2) dL_law_716 (by repeat (first | assumption | exact hset_eq _ _ _ | rw [hset_ne _ _ (by omega)])) (by rfl) (by omega) (by first | decide | omega) ?_
  rw [hset_hset]
  have d3 := d2.up oi_2
  obtain ⟨l1, l2, -⟩ := id (hR2 (upd (upd (upd (fun _ => 0) 0 (nI X.1)) 1 (nI X.2.1)) 2 (nI (X.1 ^ X.2.1))))
  obtain ⟨w1, -⟩ := id l1
  have fin : VS ro ML_law Post (z + 1, c + 1, s + 15) (hset h z (aI 15 (upd (upd (upd (fun _ => 0) 0 (nI X.1)) 1 (nI X.2.1)) 2 (nI (X.1 ^ X.2.1))))) 731 [some (.ref sb), some (.ref o), some (.int (nI r)), some (.ref w), some (.int (nI (X.1 ^ X.2.1))), some (.ref tb), some (.int (tI (Wcom X))), some (.int (nI idm)), some (.ref nb), some (.int va), some (.int (tI (PlA X (X.1 ^ X.2.1)))), none, none, none, none, none, none] [.int (tI (Div X)), .int (nI 3), .ref z, .ref z] := by
    refine ze_iastN (pc := 731) (3) dL_law_731 (by repeat (first | assumption | exact hset_eq _ _ _ | rw [hset_ne _ _ (by omega)])) (by rfl) (by omega) (by first | decide | omega) ?_
    rw [hset_hset]
    exact kk _ (d3.up oi_3)
  refine ze_dup (pc := 717) dL_law_717 rfl ?_
  refine zn_iconst (pc := 718) 3 dL_law_718 (by decide) ?_
  refine ze_aload_n (pc := 719) dL_law_719 rfl rfl ?_
  refine zn_V (pc := 720) (c_X11_fail l1 l2 hk) bX11_fail q_i_X11_fail q_s_X11_fail q_m_L_154 dL_law_720 rfl rfl (by repeat (first | assumption | exact hset_eq _ _ _ | rw [hset_ne _ _ (by omega)])) rfl rfl (by exact Nat.le_of_ble_eq_true rfl) ⟨by decide, by decide⟩ ⟨rfl, rfl, by show _ ≤ 600000; first | omega | (dsimp only; omega) | dsimp only | exact Nat.le_of_ble_eq_true rfl, by show _ ≤ 7302250; first | omega | (dsimp only; omega) | dsimp only | exact Nat.le_of_ble_eq_true rfl⟩ (fun v h3 hp => ?_)
  obtain ⟨p1, p2⟩ := hp
  rw [p2]
  rcases fail_div hk hq p1 with ⟨q1, rfl⟩ | ⟨q1, kf, q2, rfl⟩
  · refine ze_if_ge (pc := 723) (tgt := 730) dL_law_723 (by decide) (fun q => absurd q (by decide)) (fun _ => ?_)
    refine zn_iconst (pc := 726) 1 dL_law_726 (by decide) ?_
    refine ze_goto (pc := 727) (tgt := 731) dL_law_727 (by decide) ?_
    refine ze_top (tI_t q1).symm ?_
    exact fin
  · refine zn_if_ge (pc := 723) (tgt := 730) dL_law_723 (by decide) q2 ?_
    refine zn_iconst (pc := 730) 0 dL_law_730 (by decide) ?_
    refine ze_top (tI_f q1).symm ?_
    exact fin
theorem l_du_b (hR : Rt h o w tb z0 X) (hz : z0 ≤ z) (hk : Wok X) (hq : X.1 ^ X.2.1 ≤ 27) (hc : c ≤ 600000) (hs : s ≤ 7302250) (hd : Du X g 4)
    (kk : ∀ g, Du X g 7 → VS ro ML_law Post (z2, c, s) (hset h z (aI 15 g)) 760 [some (.ref sb), some (.ref o), some (.int (nI r)), some (.ref w), some (.int (nI (X.1 ^ X.2.1))), some (.ref tb), some (.int (tI (Wcom X))), some (.int (nI idm)), some (.ref nb), some (.int va), some (.int (tI (PlA X (X.1 ^ X.2.1)))), none, none, none, none, none, none] [.ref z]) : VS ro ML_law Post (z2, c, s) (hset h z (aI 15 g)) 732 [some (.ref sb), some (.ref o), some (.int (nI r)), some (.ref w), some (.int (nI (X.1 ^ X.2.1))), some (.ref tb), some (.int (tI (Wcom X))), some (.int (nI idm)), some (.ref nb), some (.int va), some (.int (tI (PlA X (X.1 ^ X.2.1)))), none, none, none, none, none, none] [.ref z] := by
  have hR2 : ∀ g, Rt (hset h z (aI 15 g)) o w tb z0 X := fun g => hR.kept (Nat.le_refl _) (fun q _ q2 => hset_ne _ _ (by omega))
  obtain ⟨l1, l2, -⟩ := id (hR2 g)
  obtain ⟨w1, -⟩ := id l1
  refine ze_dup (pc := 732) dL_law_732 rfl ?_
  refine zn_iconst (pc := 733) 4 dL_law_733 (by decide) ?_
  refine ze_aload_n (pc := 734) dL_law_734 rfl rfl ?_
  refine zn_V (pc := 735) (c_X11_fail l1 l2 hk) bX11_fail q_i_X11_fail q_s_X11_fail q_m_L_154 dL_law_735 rfl rfl (by repeat (first | assumption | exact hset_eq _ _ _ | rw [hset_ne _ _ (by omega)])) rfl rfl (by exact Nat.le_of_ble_eq_true rfl) ⟨by decide, by decide⟩ ⟨rfl, rfl, by show _ ≤ 600000; first | omega | (dsimp only; omega) | dsimp only | exact Nat.le_of_ble_eq_true rfl, by show _ ≤ 7302250; first | omega | (dsimp only; omega) | dsimp only | exact Nat.le_of_ble_eq_true rfl⟩ (fun v h3 hp => ?_)
  obtain ⟨p1, p2⟩ := hp
  rw [p2]
  refine ze_iastN (pc := 738) (4) dL_law_738 (by repeat (first | assumption | exact hset_eq _ _ _ | rw [hset_ne _ _ (by omega)])) (by rfl) (by omega) (by first | decide | omega) ?_
  rw [hset_hset]
  have d5 := hd.up (oi_4 p1)
  obtain ⟨l1, l2, -⟩ := id (hR2 (upd g 4 v))
  obtain ⟨w1, -⟩ := id l1
  refine ze_dup (pc := 739) dL_law_739 rfl ?_
  refine zn_iconst (pc := 740) 5 dL_law_740 (by decide) ?_
  refine ze_aload_n (pc := 741) dL_law_741 rfl rfl ?_
  refine zn_V (pc := 742) (c_X11_unit l1 l2 hk) bX11_unit q_i_X11_unit q_s_X11_unit q_m_L_157 dL_law_742 rfl rfl (by repeat (first | assumption | exact hset_eq _ _ _ | rw [hset_ne _ _ (by omega)])) rfl rfl (by exact Nat.le_of_ble_eq_true rfl) ⟨by decide, by decide⟩ ⟨rfl, rfl, by show _ ≤ 600000; first | omega | (dsimp only; omega) | dsimp only | exact Nat.le_of_ble_eq_true rfl, by show _ ≤ 7302250; first | omega | (dsimp only; omega) | dsimp only | exact Nat.le_of_ble_eq_true rfl⟩ (fun v2 h4 hp => ?_)
  obtain ⟨p3, p4⟩ := hp
  rw [p4]
  refine ze_iastN (pc := 745) (5) dL_law_745 (by repeat (first | assumption | exact hset_eq _ _ _ | rw [hset_ne _ _ (by omega)])) (by rfl) (by omega) (by first | decide | omega) ?_
  rw [hset_hset]
  have d6 := d5.up (oi_5 p3)
  have fin : VS ro ML_law Post (z2, c, s) (hset h z (aI 15 (upd (upd g 4 v) 5 v2))) 759 [some (.ref sb), some (.ref o), some (.int (nI r)), some (.ref w), some (.int (nI (X.1 ^ X.2.1))), some (.ref tb), some (.int (tI (Wcom X))), some (.int (nI idm)), some (.ref nb), some (.int va), some (.int (tI (PlA X (X.1 ^ X.2.1)))), none, none, none, none, none, none] [.int (tI (Wcom X)), .int (nI 6), .ref z, .ref z] := by
    refine ze_iastN (pc := 759) (6) dL_law_759 (by repeat (first | assumption | exact hset_eq _ _ _ | rw [hset_ne _ _ (by omega)])) (by rfl) (by omega) (by first | decide | omega) ?_
    rw [hset_hset]
    exact kk _ (d6.up oi_6)
  refine ze_dup (pc := 746) dL_law_746 rfl ?_
  refine zn_bipush (pc := 747) 6 dL_law_747 (by decide) ?_
  refine ze_iload (pc := 749) dL_law_749 rfl ?_
  by_cases hP : Wcom X
  · refine ze_top (tI_t hP) ?_
    refine zn_if_eq (pc := 751) (tgt := 758) dL_law_751 (by decide) (by omega) (fun q => absurd q (by omega)) (fun _ => ?_)
    refine zn_iconst (pc := 754) 1 dL_law_754 (by decide) ?_
    refine ze_goto (pc := 755) (tgt := 759) dL_law_755 (by decide) ?_
    refine ze_top (tI_t hP).symm ?_
    exact fin
  · refine ze_top (tI_f hP) ?_
    refine zn_if_eq (pc := 751) (tgt := 758) dL_law_751 (by decide) (by omega) (fun _ => ?_) (fun q => absurd rfl q)
    refine zn_iconst (pc := 758) 0 dL_law_758 (by decide) ?_
    refine ze_top (tI_f hP).symm ?_
    exact fin
theorem l_du_c (hz : nb ≠ z) (hn : h nb = some (aI 4 gn)) (hg : Ng X gn 0 (X.1 ^ X.2.1)) (hk : Wok X) (hA : Ap X 0 va) (hd : Du X g 7)
    (kk : ∀ g, Du X g 14 → VS ro ML_law Post (z2, c, s) (hset h z (aI 15 g)) 818 [some (.ref sb), some (.ref o), some (.int (nI r)), some (.ref w), some (.int (nI (X.1 ^ X.2.1))), some (.ref tb), some (.int (tI (Wcom X))), some (.int (nI (cn (X.1 ^ X.2.1) (fun x => decide (mul X x x = x))))), some (.ref nb), some (.int va), some (.int (tI (PlA X (X.1 ^ X.2.1)))), none, none, none, none, none, none] [.ref z]) : VS ro ML_law Post (z2, c, s) (hset h z (aI 15 g)) 760 [some (.ref sb), some (.ref o), some (.int (nI r)), some (.ref w), some (.int (nI (X.1 ^ X.2.1))), some (.ref tb), some (.int (tI (Wcom X))), some (.int (nI (cn (X.1 ^ X.2.1) (fun x => decide (mul X x x = x))))), some (.ref nb), some (.int va), some (.int (tI (PlA X (X.1 ^ X.2.1)))), none, none, none, none, none, none] [.ref z] := by
  obtain ⟨hu, hj⟩ := hA.unj hk
  have n2 : ∀ g, hset h z (aI 15 g) nb = some (aI 4 gn) := fun g => (hset_ne _ _ hz).trans hn
  have fin : VS ro ML_law Post (z2, c, s) (hset h z (aI 15 g)) 773 [some (.ref sb), some (.ref o), some (.int (nI r)), some (.ref w), some (.int (nI (X.1 ^ X.2.1))), some (.ref tb), some (.int (tI (Wcom X))), some (.int (nI (cn (X.1 ^ X.2.1) (fun x => decide (mul X x x = x))))), some (.ref nb), some (.int va), some (.int (tI (PlA X (X.1 ^ X.2.1)))), none, none, none, none, none, none] [.int (tI (Joi X)), .int (nI 7), .ref z, .ref z] := by
    refine ze_iastN (pc := 773) (7) dL_law_773 (by repeat (first | assumption | exact hset_eq _ _ _ | rw [hset_ne _ _ (by omega)])) (by rfl) (by omega) (by first | decide | omega) ?_
    rw [hset_hset]
    have d8 := hd.up oi_7
    refine ze_dup (pc := 774) dL_law_774 rfl ?_
    refine zn_bipush (pc := 775) 8 dL_law_775 (by decide) ?_
    refine ze_iload (pc := 777) dL_law_777 rfl ?_
    refine ze_iastN (pc := 779) (8) dL_law_779 (by repeat (first | assumption | exact hset_eq _ _ _ | rw [hset_ne _ _ (by omega)])) (by rfl) (by omega) (by first | decide | omega) ?_
    rw [hset_hset]
    have d9 := d8.up (oi_8 hu)
    have q0 := n2 (upd (upd g 7 (tI (Joi X))) 8 va)
    refine ze_dup (pc := 780) dL_law_780 rfl ?_
    refine zn_bipush (pc := 781) 9 dL_law_781 (by decide) ?_
    refine ze_aload (pc := 783) dL_law_783 rfl ?_
    refine zn_iconst (pc := 785) 0 dL_law_785 (by decide) ?_
    refine ze_ialdN (pc := 786) (0) dL_law_786 (by repeat (first | assumption | exact hset_eq _ _ _ | rw [hset_ne _ _ (by omega)])) (by rfl) (by omega) (by first | decide | omega) ?_
    refine ze_top (hg.1 0 (by omega)) ?_
    refine ze_iastN (pc := 787) (9) dL_law_787 (by repeat (first | assumption | exact hset_eq _ _ _ | rw [hset_ne _ _ (by omega)])) (by rfl) (by omega) (by first | decide | omega) ?_
    rw [hset_hset]
    have d10 := d9.up oi_9
    have q1 := n2 (upd (upd (upd g 7 (tI (Joi X))) 8 va) 9 (nI (cn (X.1 ^ X.2.1) (fun x => bl (Joins X 0 x)))))
    refine ze_dup (pc := 788) dL_law_788 rfl ?_
    refine zn_bipush (pc := 789) 10 dL_law_789 (by decide) ?_
    refine ze_aload (pc := 791) dL_law_791 rfl ?_
    refine zn_iconst (pc := 793) 1 dL_law_793 (by decide) ?_
    refine ze_ialdN (pc := 794) (1) dL_law_794 (by repeat (first | assumption | exact hset_eq _ _ _ | rw [hset_ne _ _ (by omega)])) (by rfl) (by omega) (by first | decide | omega) ?_
    refine ze_top (hg.1 1 (by omega)) ?_
    refine ze_iastN (pc := 795) (10) dL_law_795 (by repeat (first | assumption | exact hset_eq _ _ _ | rw [hset_ne _ _ (by omega)])) (by rfl) (by omega) (by first | decide | omega) ?_
    rw [hset_hset]
    have d11 := d10.up oi_10
    have q2 := n2 (upd (upd (upd (upd g 7 (tI (Joi X))) 8 va) 9 (nI (cn (X.1 ^ X.2.1) (fun x => bl (Joins X 0 x))))) 10 (nI (cn (X.1 ^ X.2.1) (fun x => bl (Joins X 1 x)))))
    refine ze_dup (pc := 796) dL_law_796 rfl ?_
    refine zn_bipush (pc := 797) 11 dL_law_797 (by decide) ?_
    refine ze_aload (pc := 799) dL_law_799 rfl ?_
    refine zn_iconst (pc := 801) 2 dL_law_801 (by decide) ?_
    refine ze_ialdN (pc := 802) (2) dL_law_802 (by repeat (first | assumption | exact hset_eq _ _ _ | rw [hset_ne _ _ (by omega)])) (by rfl) (by omega) (by first | decide | omega) ?_
    refine ze_top (hg.1 2 (by omega)) ?_
    refine ze_iastN (pc := 803) (11) dL_law_803 (by repeat (first | assumption | exact hset_eq _ _ _ | rw [hset_ne _ _ (by omega)])) (by rfl) (by omega) (by first | decide | omega) ?_
    rw [hset_hset]
    have d12 := d11.up oi_11
    have q3 := n2 (upd (upd (upd (upd (upd g 7 (tI (Joi X))) 8 va) 9 (nI (cn (X.1 ^ X.2.1) (fun x => bl (Joins X 0 x))))) 10 (nI (cn (X.1 ^ X.2.1) (fun x => bl (Joins X 1 x))))) 11 (nI (cn (X.1 ^ X.2.1) (fun x => bl (Joins X 2 x)))))
    refine ze_dup (pc := 804) dL_law_804 rfl ?_
    refine zn_bipush (pc := 805) 12 dL_law_805 (by decide) ?_
    refine ze_aload (pc := 807) dL_law_807 rfl ?_
    refine zn_iconst (pc := 809) 3 dL_law_809 (by decide) ?_
    refine ze_ialdN (pc := 810) (3) dL_law_810 (by repeat (first | assumption | exact hset_eq _ _ _ | rw [hset_ne _ _ (by omega)])) (by rfl) (by omega) (by first | decide | omega) ?_
    refine ze_top hg.2 ?_
    refine ze_iastN (pc := 811) (12) dL_law_811 (by repeat (first | assumption | exact hset_eq _ _ _ | rw [hset_ne _ _ (by omega)])) (by rfl) (by omega) (by first | decide | omega) ?_
    rw [hset_hset]
    have d13 := d12.up oi_12
    refine ze_dup (pc := 812) dL_law_812 rfl ?_
    refine zn_bipush (pc := 813) 13 dL_law_813 (by decide) ?_
    refine ze_iload (pc := 815) dL_law_815 rfl ?_
    refine ze_iastN (pc := 817) (13) dL_law_817 (by repeat (first | assumption | exact hset_eq _ _ _ | rw [hset_ne _ _ (by omega)])) (by rfl) (by omega) (by first | decide | omega) ?_
    rw [hset_hset]
    exact kk _ (d13.up oi_13)
  refine ze_dup (pc := 760) dL_law_760 rfl ?_
  refine zn_bipush (pc := 761) 7 dL_law_761 (by decide) ?_
  refine ze_iload (pc := 763) dL_law_763 rfl ?_
  rcases hj with ⟨q1, rfl⟩ | ⟨q1, kf, q2, rfl⟩
  · refine ze_if_ge (pc := 765) (tgt := 772) dL_law_765 (by decide) (fun q => absurd q (by decide)) (fun _ => ?_)
    refine zn_iconst (pc := 768) 1 dL_law_768 (by decide) ?_
    refine ze_goto (pc := 769) (tgt := 773) dL_law_769 (by decide) ?_
    refine ze_top (tI_t q1).symm ?_
    exact fin
  · refine zn_if_ge (pc := 765) (tgt := 772) dL_law_765 (by decide) (by omega) ?_
    refine zn_iconst (pc := 772) 0 dL_law_772 (by decide) ?_
    refine ze_top (tI_f q1).symm ?_
    exact fin
theorem l_du_d (hR : Rt h o w tb z0 X) (hz : z0 ≤ z) (hk : Wok X) (hd : Du X g 14)
    (kk : ∀ g, Du X g 15 → VS ro ML_law Post (z2, c, s) (hset h z (aI 15 g)) 846 [some (.ref sb), some (.ref o), some (.int (nI r)), some (.ref w), some (.int (nI (X.1 ^ X.2.1))), some (.ref tb), none, none, none, none, none, some (.ref z), none, none, none, none, none] []) : VS ro ML_law Post (z2, c, s) (hset h z (aI 15 g)) 818 [some (.ref sb), some (.ref o), some (.int (nI r)), some (.ref w), some (.int (nI (X.1 ^ X.2.1))), some (.ref tb), some (.int (tI (Wcom X))), some (.int (nI idm)), some (.ref nb), some (.int va), some (.int (tI (PlA X (X.1 ^ X.2.1)))), none, none, none, none, none, none] [.ref z] := by
  have bb := hk.b
  have hR2 : Rt (hset h z (aI 15 g)) o w tb z0 X := hR.kept (Nat.le_refl _) (fun q _ q2 => hset_ne _ _ (by omega))
  obtain ⟨l1, -⟩ := id hR2
  obtain ⟨w1, -⟩ := id l1
  have fin : ∀ v, OfP X (nI 14) v → VS ro ML_law Post (z2, c, s) (hset h z (aI 15 g)) 843 [some (.ref sb), some (.ref o), some (.int (nI r)), some (.ref w), some (.int (nI (X.1 ^ X.2.1))), some (.ref tb), some (.int (tI (Wcom X))), some (.int (nI idm)), some (.ref nb), some (.int va), some (.int (tI (PlA X (X.1 ^ X.2.1)))), none, none, none, none, none, none] [.int v, .int (nI 14), .ref z, .ref z] := fun v hv => by
    refine ze_iastN (pc := 843) (14) dL_law_843 (by repeat (first | assumption | exact hset_eq _ _ _ | rw [hset_ne _ _ (by omega)])) (by rfl) (by omega) (by first | decide | omega) ?_
    rw [hset_hset]
    refine ze_astore (pc := 844) dL_law_844 (by decide) ?_
    refine VS.mask [true, true, true, true, true, true, false, false, false, false, false, true, false, false, false, false, false] ?_
    exact kk _ (hd.up hv)
  refine ze_dup (pc := 818) dL_law_818 rfl ?_
  refine zn_bipush (pc := 819) 14 dL_law_819 (by decide) ?_
  refine ze_aload_n (pc := 821) dL_law_821 rfl rfl ?_
  refine ze_getN (pc := 822) (kf := 0) rfl (by decide) (by decide) rfl dL_law_822 (by repeat (first | assumption | exact hset_eq _ _ _ | rw [hset_ne _ _ (by omega)])) (by rfl) ?_
  refine zn_iconst (pc := 825) 2 dL_law_825 (by decide) ?_
  refine zn_icmp_ne (pc := 826) (tgt := 833) dL_law_826 (by decide) (by omega) (by omega) (fun q => ?_) (fun q => ?_)
  · have h14 : OfP X (nI 14) (tI (PlA X (X.1 ^ X.2.1))) := oi_14 (Or.inr ⟨q, by rw [tI_c (PlA.all hk)]; exact isB_tI⟩)
    refine ze_iload (pc := 833) dL_law_833 rfl ?_
    by_cases hP : PlA X (X.1 ^ X.2.1)
    · refine ze_top (tI_t hP) ?_
      refine zn_if_eq (pc := 835) (tgt := 842) dL_law_835 (by decide) (by omega) (fun q => absurd q (by omega)) (fun _ => ?_)
      refine zn_iconst (pc := 838) 1 dL_law_838 (by decide) ?_
      refine ze_goto (pc := 839) (tgt := 843) dL_law_839 (by decide) ?_
      refine ze_top (tI_t hP).symm ?_
      exact fin _ h14
    · refine ze_top (tI_f hP) ?_
      refine zn_if_eq (pc := 835) (tgt := 842) dL_law_835 (by decide) (by omega) (fun _ => ?_) (fun q => absurd rfl q)
      refine zn_iconst (pc := 842) 0 dL_law_842 (by decide) ?_
      refine ze_top (tI_f hP).symm ?_
      exact fin _ h14
  · refine ze_iconst (pc := 829) (v := -1) dL_law_829 (by decide) ?_
    refine ze_goto (pc := 830) (tgt := 843) dL_law_830 (by decide) ?_
    exact fin _ (oi_14 (Or.inl ⟨q, rfl⟩))
end LZ
