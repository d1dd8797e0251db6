/-! ===== a drawn text: at ===== -/
theorem dgn_1 {w : Nat} (h : w < 10) : dgn w = 1 := by unfold dgn; rw [if_pos h]
theorem nms_len : ∀ (vs : List Nat), (∀ v ∈ vs, v < 10) → (nms vs).length = 2 * vs.length
  | [], _ => rfl
  | v :: l, h => by
    have := nms_len l (fun u hu => h u (List.mem_cons_of_mem _ hu))
    simp only [nms, List.length_cons, List.length_append, dec_len, dgn_1 (h v List.mem_cons_self), this]
    omega
theorem nms_snoc (v : Nat) : ∀ (vs : List Nat), nms (vs ++ [v]) = nms vs ++ (32 :: dec v)
  | [] => by simp [nms]
  | u :: l => by
    rw [List.cons_append]
    simp only [nms, nms_snoc v l]
    simp
def atX (X : Wd) (i j : Nat) (vs : List Nat) : Wd := atW X i j vs.length (fun t => vs.getD t 0)
theorem atX_c (X : Wd) (i j t : Nat) (vs : List Nat) : (atX X i j vs).2.2 t = if 25 * i + 5 * j ≤ t ∧ t < 25 * i + 5 * j + vs.length then vs.getD (t - (25 * i + 5 * j)) 0 else X.2.2 t := rfl
theorem atX_snoc {X : Wd} {i j v : Nat} {vs : List Nat} (t : Nat) : (if t = 25 * i + 5 * j + vs.length then v else (atX X i j vs).2.2 t) = (atX X i j (vs ++ [v])).2.2 t := by
  rw [atX_c, atX_c, List.length_append]
  by_cases e : t = 25 * i + 5 * j + vs.length
  · rw [if_pos e, if_pos ⟨by omega, by show t < _ + (vs.length + 1); omega⟩, show t - (25 * i + 5 * j) = vs.length + 0 by omega, getD_app_r]
    rfl
  · rw [if_neg e]
    by_cases c : 25 * i + 5 * j ≤ t ∧ t < 25 * i + 5 * j + vs.length
    · rw [if_pos c, if_pos ⟨c.1, by omega⟩, getD_app_l (by omega)]
    · rw [if_neg c, if_neg (fun z => c ⟨z.1, by have : t < 25 * i + 5 * j + (vs.length + 1) := z.2; omega⟩)]
theorem getD_mem {vs : List Nat} {d : Nat} (h : d < vs.length) : vs.getD d 0 ∈ vs := by
  rw [List.getD_eq_getElem?_getD, List.getElem?_eq_getElem h]
  exact List.getElem_mem h
theorem atX_ok {X : Wd} {i j : Nat} {vs : List Nat} (hk : Wok X) (hi : i < X.2.1) (hj : j < X.2.1) (hl : vs.length ≤ X.2.1) (hv : ∀ v ∈ vs, v < X.1) : Wok (atX X i j vs) := by
  obtain ⟨k1, k2, k3, k4, k5⟩ := hk
  refine ⟨k1, k2, k3, k4, fun t => ?_⟩
  show (atX X i j vs).2.2 t < X.1 ∧ (¬ inC X.2.1 t → (atX X i j vs).2.2 t = 0)
  rw [atX_c]
  by_cases c : 25 * i + 5 * j ≤ t ∧ t < 25 * i + 5 * j + vs.length
  · rw [if_pos c]
    refine ⟨hv _ (getD_mem (by omega)), fun z => absurd ⟨by omega, by omega, by omega, by omega⟩ z⟩
  · rw [if_neg c]
    exact k5 t
section LM
variable {ro : RT} {Post : Option Value → AH → Nat → Prop} {h h0 h2 : AH} {o sb fr r z0 z p n many k c s x x2 t t2 : Nat} {x0 : Int32} {T T2 : List Nat} {X F X2 : Wd} {hf : Bool} {fv : Value}
theorem Wi.put {a : Nat} {e : AE} (hW : Wi h0 h z0 z p n T X F hf x t fv) (h1 : x ≤ a) (h2 : a ≤ x + 31) (hX : LW (hset h a e) x X2 .null) (e1 : X2.1 = p) (e2 : X2.2.1 = n) (hk : Wok X2) : Wi h0 (hset h a e) z0 z p n T X2 F hf x t fv := by
  obtain ⟨w1, w2, w3, w4, w5, w6, w7, w8, w9, w10, w11, w12⟩ := hW
  exact ⟨w1.kept (hset_ne _ _ (by omega)) (hset_ne _ _ (by omega)), w2, w3, hX, w5, w6, w7, w8.kept (Nat.le_refl _) (fun q q1 q2 => hset_ne _ _ (by omega)), e1, e2, hk, fun q hq => by rw [hset_ne _ _ (by omega)]; exact w12 q hq⟩
theorem l_at_d {i j : Nat} {y : Int32} (hL : LTx ro) (hD : DT ro) (hk : Wok X) (e1 : X.1 = p) (e2 : X.2.1 = n) (hi : i < n) (hj : j < n) (hl : T.length ≤ 80) (hc : c + 50 ≤ 3000) (hs : s + 10000 ≤ 300000)
    (kk : ∀ vs z2 h2 t2, vs.length = n → (∀ v ∈ vs, v < p) → Wi h0 h2 z0 z2 p n (T ++ nms vs) (atX X i j vs) F hf x t2 fv → VS ro ML_world Post (z2, c + 7 * n, s + 1624 * n) h2 741 [some (.ref o), some (.ref sb), some (.int (nI fr)), some (.int (nI r)), none, some (.int x0), none, some (.int (nI p)), some (.int (nI n)), some (.ref x), some (.ref t2), some (fv), some (.int (nI many)), some (.int (nI (k))), none, none, none, none, none, none, none, none, none, none, none] []) :
    ∀ (m d : Nat), m = n - d → d ≤ n → ∀ vs z h t, vs.length = d → (∀ v ∈ vs, v < p) → Wi h0 h z0 z p n (T ++ nms vs) (atX X i j vs) F hf x t fv → VS ro ML_world Post (z, c + 7 * d, s + 1624 * d) h 659 [some (.ref o), some (.ref sb), some (.int (nI fr)), some (.int (nI r)), none, some (.int x0), none, some (.int (nI p)), some (.int (nI n)), some (.ref x), some (.ref t), some (fv), some (.int (nI many)), some (.int (nI (k))), some (.int y), none, some (.int (nI i)), some (.int (nI j)), some (.int (nI d)), none, none, none, none, none, none] [] := by
  have bb := hk.b
  intro m
  induction m with
  | zero =>
    intro d e3 e4 vs z h t hvl hv hW
    have : d = n := by omega
    subst this
    refine ze_iload (pc := 659) dL_world_659 rfl ?_
    refine ze_iload (pc := 661) dL_world_661 rfl ?_
    refine zn_icmp_ge (pc := 663) (tgt := 741) dL_world_663 (by decide) (by omega) (by omega) (fun cc => ?_) (fun c => absurd c (by omega))
    refine VS.mask [true, true, true, true, false, true, false, true, true, true, true, true, true, true, false, false, false, false, false, false, false, false, false, false, false] ?_
    exact kk vs z h t hvl hv hW
  | succ m ih =>
    intro d e3 e4 vs z h t hvl hv hW
    obtain ⟨w1, w2, w3, w4, w5, w6, w7, w8, w9, w10, w11, w12⟩ := id hW
    obtain ⟨u1, c1, c2, c3⟩ := id w4
    obtain ⟨g, g1, g2⟩ := c3 i (by omega) j (by omega)
    have cr := c2 i (by omega)
    have nl := nms_len vs (fun v hq => by have := hv v hq; omega)
    refine ze_iload (pc := 659) dL_world_659 rfl ?_
    refine ze_iload (pc := 661) dL_world_661 rfl ?_
    refine zn_icmp_ge (pc := 663) (tgt := 741) dL_world_663 (by decide) (by omega) (by omega) (fun c => absurd c (by omega)) (fun cc => ?_)
    refine ze_aload (pc := 666) dL_world_666 rfl ?_
    refine ze_getN (pc := 668) (kf := 3) rfl (by decide) (by decide) rfl dL_world_668 (by repeat (first | assumption | exact hset_eq _ _ _ | rw [hset_ne _ _ (by omega)])) (by rfl) ?_
    refine ze_iload (pc := 671) dL_world_671 rfl ?_
    refine ze_aldC (pc := 673) _ dL_world_673 (by repeat (first | assumption | exact hset_eq _ _ _ | rw [hset_ne _ _ (by omega)])) (by rfl) (by omega) (by first | decide | omega) (by exact if_pos (by omega)) ?_
    refine ze_iload (pc := 674) dL_world_674 rfl ?_
    refine ze_aldGS (pc := 676) _ dL_world_676 (by repeat (first | assumption | exact hset_eq _ _ _ | rw [hset_ne _ _ (by omega)])) (by rfl) (by omega) (by first | decide | omega) (by exact if_pos (by omega)) ?_
    refine ze_iload (pc := 677) dL_world_677 rfl ?_
    refine ze_iload (pc := 679) dL_world_679 rfl ?_
    refine zn_bipush (pc := 681) 6 dL_world_681 (by decide) ?_
    refine ze_iload (pc := 683) dL_world_683 rfl ?_
    refine zn_iadd (pc := 685) dL_world_685 ?_
    refine ze_ishr (pc := 686) dL_world_686 ?_
    refine zn_iconst (pc := 687) 0 dL_world_687 (by decide) ?_
    refine ze_iload (pc := 688) dL_world_688 rfl ?_
    refine zn_iconst (pc := 690) 1 dL_world_690 (by decide) ?_
    refine zn_isub (pc := 691) dL_world_691 (by omega) ?_
    refine zs_btw (pc := 692) (by omega) (by omega) (by exact Nat.le_of_ble_eq_true rfl) dL_world_692 (by omega) (by omega) (fun v _ hvp => ?_)
    refine ze_iastN (pc := 695) (d) dL_world_695 (by repeat (first | assumption | exact hset_eq _ _ _ | rw [hset_ne _ _ (by omega)])) (by rfl) (by omega) (by first | decide | omega) ?_
    have hv2 : ∀ u ∈ vs ++ [v], u < p := fun u hu => by
      rcases List.mem_append.mp hu with q | q
      · exact hv u q
      · rw [List.mem_singleton.mp q]; omega
    have hl2 : (vs ++ [v]).length = d + 1 := by rw [List.length_append, hvl]; rfl
    have hX2 : LW (hset h (x + 1 + 2 + 6 * i + j) (aI 5 (upd g d (nI v)))) x (atX X i j (vs ++ [v])) .null := ⟨by rw [hset_ne _ _ (by omega)]; exact u1, (Cb.set (v := v) w4.2 (by omega) (by omega) (show d < 5 by omega) g1).congr (fun t _ => by rw [← hvl]; exact atX_snoc t)⟩
    have hW2 := hW.put (by omega) (by omega) hX2 e1 e2 (atX_ok hk (by omega) (by omega) (by omega) (fun u hu => by rw [e1]; exact hv2 u hu))
    have dv := dgn_1 (w := v) (by omega)
    refine zs_new (pc := 696) dL_world_696 dL_world_699 dL_world_700 (by omega) (by omega) (fun h1 hB => ?_)
    refine ze_aload (pc := 703) dL_world_703 rfl ?_
    refine zs_S (pc := 705) hB (hW2.1.str (by omega)) (by simp only [List.length_append, List.length_cons, List.length_nil, dec_len]; omega) dL_world_705 (by omega) (by omega) (fun h1 z1 hB => ?_)
    refine ze_ldcS (pc := 708) (tx := " ") (i := 1) rfl (by decide +kernel) dL_world_708 ?_
    refine zs_S (pc := 710) hB (hL.s (i := 1) (S := [32]) (by decide) rfl) (by simp only [List.length_append, List.length_cons, List.length_nil, dec_len]; omega) dL_world_710 (by omega) (by omega) (fun h1 z1 hB => ?_)
    have hX3 := hX2.kept (h2 := h1) (fun q q1 q2 => hB.2.2 q (by omega))
    obtain ⟨y1, d1, d2, d3⟩ := id hX3
    obtain ⟨g', j1, j2⟩ := d3 i (by omega) j (by omega)
    have dr := d2 i (by omega)
    refine ze_aload (pc := 713) dL_world_713 rfl ?_
    refine ze_getN (pc := 715) (kf := 3) rfl (by decide) (by decide) rfl dL_world_715 (by repeat (first | assumption | exact hset_eq _ _ _ | rw [hset_ne _ _ (by omega)])) (by rfl) ?_
    refine ze_iload (pc := 718) dL_world_718 rfl ?_
    refine ze_aldC (pc := 720) _ dL_world_720 (by repeat (first | assumption | exact hset_eq _ _ _ | rw [hset_ne _ _ (by omega)])) (by rfl) (by omega) (by first | decide | omega) (by exact if_pos (by omega)) ?_
    refine ze_iload (pc := 721) dL_world_721 rfl ?_
    refine ze_aldGS (pc := 723) _ dL_world_723 (by repeat (first | assumption | exact hset_eq _ _ _ | rw [hset_ne _ _ (by omega)])) (by rfl) (by omega) (by first | decide | omega) (by exact if_pos (by omega)) ?_
    refine ze_iload (pc := 724) dL_world_724 rfl ?_
    refine ze_ialdN (pc := 726) (d) dL_world_726 (by repeat (first | assumption | exact hset_eq _ _ _ | rw [hset_ne _ _ (by omega)])) (by rfl) (by omega) (by first | decide | omega) ?_
    refine ze_top ((j2 d (by omega)).trans (by rw [← atX_snoc, if_pos (by omega)] : _ = nI v)) ?_
    refine zs_N (pc := 727) hD (by omega) hB (by simp only [List.length_append, List.length_cons, List.length_nil, dec_len]; omega) dL_world_727 (by omega) (by omega) (fun h1 z1 hB => ?_)
    refine zs_E (pc := 730) hB dL_world_730 (by omega) (by omega) (fun h4 t4 ht4 hM4 hf4 => ?_)
    refine ze_astore (pc := 733) dL_world_733 (by decide) ?_
    refine zn_inc (pc := 735) dL_world_735 rfl (by decide) ?_
    refine ze_goto (pc := 738) (tgt := 659) dL_world_738 (by decide) ?_
    refine VS.widen (c2 := c + 7 * (d + 1)) (s2 := s + 1624 * (d + 1)) (by first | (dsimp only; omega) | dsimp only) (by first | (dsimp only; omega) | dsimp only) ?_
    have hW3 := hW2.txt hf4 ht4 hM4
    rw [show [] ++ (T ++ nms vs) ++ [32] ++ dec v = T ++ nms (vs ++ [v]) by rw [nms_snoc]; simp] at hW3
    exact ih (d + 1) (by omega) (by omega) (vs ++ [v]) _ _ _ hl2 hv2 hW3
theorem l_w_at {y : Int32} (hL : LTx ro) (hD : DT ro) (hW : Wi h0 h z0 z p n T X F hf x t fv) (hP : PF T (k + 1) X F hf) (hn : n ≤ 4) (hl : T.length ≤ 60) (hk : k < 4) (hc : c + 200 ≤ 3000) (hs : s + 40000 ≤ 300000)
    (kk : ∀ z2 h2 x2 t2 X2 F2 hf2 fv2 T2, Wi h0 h2 z0 z2 p n T2 X2 F2 hf2 x2 t2 fv2 → PF T2 (k + 2) X2 F2 hf2 → T.length ≤ T2.length → T2.length ≤ T.length + 16 → VS ro ML_world Post (z2, c + 200, s + 40000) h2 107 [some (.ref o), some (.ref sb), some (.int (nI fr)), some (.int (nI r)), none, some (.int x0), none, some (.int (nI p)), some (.int (nI n)), some (.ref x2), some (.ref t2), some (fv2), some (.int (nI many)), some (.int (nI (k + 1))), none, none, none, none, none, none, none, none, none, none, none] []) : VS ro ML_world Post (z, c, s) h 591 [some (.ref o), some (.ref sb), some (.int (nI fr)), some (.int (nI r)), none, some (.int x0), none, some (.int (nI p)), some (.int (nI n)), some (.ref x), some (.ref t), some (fv), some (.int (nI many)), some (.int (nI (k))), some (.int y), some (.int (nI 2)), none, none, none, none, none, none, none, none, none] [] := by
  obtain ⟨w1, w2, w3, w4, w5, w6, w7, w8, w9, w10, w11, w12⟩ := id hW
  have bb := w11.b
  refine ze_iload (pc := 591) dL_world_591 rfl ?_
  refine zn_iconst (pc := 593) 3 dL_world_593 (by decide) ?_
  refine ze_ishr (pc := 594) dL_world_594 ?_
  refine zn_iconst (pc := 595) 0 dL_world_595 (by decide) ?_
  refine ze_iload (pc := 596) dL_world_596 rfl ?_
  refine zn_iconst (pc := 598) 1 dL_world_598 (by decide) ?_
  refine zn_isub (pc := 599) dL_world_599 (by omega) ?_
  refine zs_btw (pc := 600) (by omega) (by omega) (by exact Nat.le_of_ble_eq_true rfl) dL_world_600 (by omega) (by omega) (fun i _ hi => ?_)
  refine ze_istore (pc := 603) dL_world_603 (by decide) ?_
  refine ze_iload (pc := 605) dL_world_605 rfl ?_
  refine zn_iconst (pc := 607) 5 dL_world_607 (by decide) ?_
  refine ze_ishr (pc := 608) dL_world_608 ?_
  refine zn_iconst (pc := 609) 0 dL_world_609 (by decide) ?_
  refine ze_iload (pc := 610) dL_world_610 rfl ?_
  refine zn_iconst (pc := 612) 1 dL_world_612 (by decide) ?_
  refine zn_isub (pc := 613) dL_world_613 (by omega) ?_
  refine zs_btw (pc := 614) (by omega) (by omega) (by exact Nat.le_of_ble_eq_true rfl) dL_world_614 (by omega) (by omega) (fun j _ hj => ?_)
  refine ze_istore (pc := 617) dL_world_617 (by decide) ?_
  have di := dgn_1 (w := i) (by omega)
  have dj := dgn_1 (w := j) (by omega)
  refine zs_new (pc := 619) dL_world_619 dL_world_622 dL_world_623 (by omega) (by omega) (fun h1 hB => ?_)
  refine ze_aload (pc := 626) dL_world_626 rfl ?_
  refine zs_S (pc := 628) hB (w1.str (by omega)) (by simp only [List.length_append, List.length_cons, List.length_nil, dec_len]; omega) dL_world_628 (by omega) (by omega) (fun h1 z1 hB => ?_)
  refine ze_ldcS (pc := 631) (tx := "at ") (i := 5) rfl (by decide +kernel) dL_world_631 ?_
  refine zs_S (pc := 633) hB (hL.s (i := 5) (S := [97, 116, 32]) (by decide) rfl) (by simp only [List.length_append, List.length_cons, List.length_nil, dec_len]; omega) dL_world_633 (by omega) (by omega) (fun h1 z1 hB => ?_)
  refine ze_iload (pc := 636) dL_world_636 rfl ?_
  refine zs_N (pc := 638) hD (by omega) hB (by simp only [List.length_append, List.length_cons, List.length_nil, dec_len]; omega) dL_world_638 (by omega) (by omega) (fun h1 z1 hB => ?_)
  refine ze_ldcS (pc := 641) (tx := " ") (i := 1) rfl (by decide +kernel) dL_world_641 ?_
  refine zs_S (pc := 643) hB (hL.s (i := 1) (S := [32]) (by decide) rfl) (by simp only [List.length_append, List.length_cons, List.length_nil, dec_len]; omega) dL_world_643 (by omega) (by omega) (fun h1 z1 hB => ?_)
  refine ze_iload (pc := 646) dL_world_646 rfl ?_
  refine zs_N (pc := 648) hD (by omega) hB (by simp only [List.length_append, List.length_cons, List.length_nil, dec_len]; omega) dL_world_648 (by omega) (by omega) (fun h1 z1 hB => ?_)
  refine zs_E (pc := 651) hB dL_world_651 (by omega) (by omega) (fun h4 t4 ht4 hM4 hf4 => ?_)
  refine ze_astore (pc := 654) dL_world_654 (by decide) ?_
  refine zn_iconst (pc := 656) 0 dL_world_656 (by decide) ?_
  refine ze_istore (pc := 657) dL_world_657 (by decide) ?_
  have hW2 := hW.txt hf4 ht4 hM4
  obtain ⟨-, -, -, v4, -⟩ := id hW2
  have hW3 : Wi h0 h4 z0 (t4 + 2) p n (([] ++ T ++ [97, 116, 32] ++ dec i ++ [32] ++ dec j) ++ nms []) (atX X i j []) F hf x t4 fv := by
    obtain ⟨q1, q2, q3, q4, q5, q6, q7, q8, q9, q10, q11, q12⟩ := hW2
    refine ⟨by rw [show nms [] = [] from rfl, List.append_nil]; exact q1, q2, q3, ⟨q4.1, q4.2.congr (fun a _ => ?_)⟩, q5, q6, q7, q8, q9, q10, atX_ok q11 (by omega) (by omega) (Nat.zero_le _) (fun v hv => by cases hv), q12⟩
    rw [atX_c, if_neg (fun z => by have : a < 25 * i + 5 * j + 0 := z.2; omega)]
  refine VS.widen (c2 := c + 9 + 7 * 0) (s2 := s + 2424 + 1624 * 0) (by first | (dsimp only; omega) | dsimp only) (by first | (dsimp only; omega) | dsimp only) ?_
  refine VS.mask [true, true, true, true, false, true, false, true, true, true, true, true, true, true, true, false, true, true, true, false, false, false, false, false, false] ?_
  refine l_at_d (i := i) (j := j) (X := X) (T := [] ++ T ++ [97, 116, 32] ++ dec i ++ [32] ++ dec j) hL hD w11 w9 w10 (by omega) (by omega) (by simp only [List.length_append, List.length_cons, List.length_nil, dec_len]; omega) (by omega) (by omega) (fun vs z5 h5 t5 hvl hv hW5 => ?_) n 0 (by omega) (by omega) [] _ _ _ rfl (fun v hv => by cases hv) hW3
  have nl := nms_len vs (fun v hq => by have := hv v hq; omega)
  refine ze_goto (pc := 741) (tgt := 791) dL_world_741 (by decide) ?_
  refine VS.widen (c2 := c + 50) (s2 := s + 10000) (by first | (dsimp only; omega) | dsimp only) (by first | (dsimp only; omega) | dsimp only) ?_
  refine l_w_tail hL hW5 (by simp only [List.length_append, List.length_cons, List.length_nil, dec_len]; omega) (by omega) (by omega) (fun z6 h6 t6 hW6 => ?_)
  have hlen : ([] ++ T ++ [97, 116, 32] ++ dec i ++ [32] ++ dec j ++ nms vs ++ [32, 59]).length ≤ T.length + 16 := by simp only [List.length_append, List.length_cons, List.length_nil, dec_len]; omega
  have eT : [] ++ T ++ [97, 116, 32] ++ dec i ++ [32] ++ dec j ++ nms vs ++ [32, 59] = T ++ stx 0 3 (i :: j :: vs) 1 := by simp [stx, wd, nms]
  rw [eT] at hlen hW6
  refine VS.widen (c2 := c + 200) (s2 := s + 40000) (by first | (dsimp only; omega) | dsimp only) (by first | (dsimp only; omega) | dsimp only) ?_
  refine kk _ _ _ _ _ _ _ _ _ hW6 ?_ (by rw [List.length_append]; omega) hlen
  have eX : sWn X F 3 (i :: j :: vs) = atX X i j vs := by
    show atW X i j X.2.1 (fun t => (i :: j :: vs).getD (2 + t) 0) = atW X i j vs.length (fun t => vs.getD t 0)
    rw [hvl, w10]
    congr 1
    funext a
    rw [Nat.add_comm]
    rfl
  have := PF.step (b := 0) (c := 1) (k := 3) (ns := i :: j :: vs) hP (by decide) ⟨fun q => by omega, fun q => by omega⟩ (by omega) (fun q => by omega) ⟨fun v hv' => ?_, by show vs.length + 1 + 1 = 2 + X.2.1; omega, fun q hq => ?_⟩
  · rw [eX] at this
    exact this
  · rcases List.mem_cons.mp hv' with rfl | hv'
    · omega
    · rcases List.mem_cons.mp hv' with rfl | hv'
      · omega
      · have := hv v hv'; omega
  · have hq2 : q < vs.length + 1 + 1 := hq
    show _ < if q < 2 then X.2.1 else X.1
    match q, hq2 with
    | 0, _ => rw [if_pos (by omega)]; show i < X.2.1; omega
    | 1, _ => rw [if_pos (by omega)]; show j < X.2.1; omega
    | q + 2, hq2 => rw [if_neg (by omega), w9]; exact hv _ (getD_mem (by omega))
end LM
