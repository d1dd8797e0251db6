/-! ===== a drawn text, statement by statement: the loop's end, turn ===== -/
/-- the field, if there is one -/
def Fvl (h : AH) (z0 x p n : Nat) (fv : Value) (F : Wd) (hf : Bool) : Prop := fv = .null ∧ hf = false ∨ ∃ w B : Nat, fv = .ref w ∧ hf = true ∧ WT h w B F ∧ z0 ≤ w ∧ B ≤ x ∧ F.1 = p ∧ F.2.1 = n ∧ Wok F
/-- the text T at t, the world X at x, the field -/
def Wi (h0 h : AH) (z0 z p n : Nat) (T : List Nat) (X F : Wd) (hf : Bool) (x t : Nat) (fv : Value) : Prop := MS h t T ∧ z0 ≤ t ∧ t + 1 < z ∧ LW h x X .null ∧ z0 ≤ x ∧ x + 31 < z ∧ (t + 1 < x ∨ x + 31 < t) ∧ Fvl h z0 x p n fv F hf ∧ X.1 = p ∧ X.2.1 = n ∧ Wok X ∧ ∀ q, q < z0 → h q = h0 q
section LK
variable {ro : RT} {Post : Option Value → AH → Nat → Prop} {h h0 h2 : AH} {o sb fr r z0 z p n many k c s x x2 t t2 : Nat} {x0 : Int32} {T T2 : List Nat} {X F X2 : Wd} {hf : Bool} {fv : Value}
theorem Fvl.kept (hF : Fvl h z0 x p n fv F hf) (hx : x ≤ x2) (e : ∀ q, z0 ≤ q → q < x → h2 q = h q) : Fvl h2 z0 x2 p n fv F hf := by
  rcases hF with hF | ⟨w, B, f1, f2, f3, f4, f5, f6, f7, f8⟩
  · exact Or.inl hF
  · exact Or.inr ⟨w, B, f1, f2, f3.kept (Nat.le_refl _) (fun q q1 q2 => e q (by omega) (by omega)), f4, by omega, f6, f7, f8⟩
theorem Wi.txt (hW : Wi h0 h z0 z p n T X F hf x t fv) (e : ∀ q, q < z → h2 q = h q) (ht : z ≤ t2) (hM : MS h2 t2 T2) : Wi h0 h2 z0 (t2 + 2) p n T2 X F hf x t2 fv := by
  obtain ⟨w1, w2, w3, w4, w5, w6, w7, w8, w9, w10, w11, w12⟩ := hW
  exact ⟨hM, by omega, by omega, w4.kept (fun q q1 q2 => e q (by omega)), w5, by omega, by omega, w8.kept (Nat.le_refl _) (fun q q1 q2 => e q (by omega)), w9, w10, w11, fun q hq => (e q (by omega)).trans (w12 q hq)⟩
theorem Wi.wld (hW : Wi h0 h z0 z p n T X F hf x t fv) (e : ∀ q, q < z → h2 q = h q) (hX : LW h2 z X2 .null) (e1 : X2.1 = p) (e2 : X2.2.1 = n) (hk : Wok X2) : Wi h0 h2 z0 (z + 32) p n T X2 F hf z t fv := by
  obtain ⟨w1, w2, w3, w4, w5, w6, w7, w8, w9, w10, w11, w12⟩ := hW
  exact ⟨w1.kept (e _ (by omega)) (e _ (by omega)), by omega, by omega, hX, by omega, by omega, Or.inl (by omega), w8.kept (by omega) (fun q q1 q2 => e q (by omega)), e1, e2, hk, fun q hq => (e q (by omega)).trans (w12 q hq)⟩
theorem l_w_tail (hL : LTx ro) (hW : Wi h0 h z0 z p n T X F hf x t fv) (hl : T.length ≤ 80) (hc : c + 6 ≤ 3000) (hs : s + 1224 ≤ 300000)
    (kk : ∀ z2 h2 t2, Wi h0 h2 z0 z2 p n (T ++ [32, 59]) X F hf x t2 fv → VS ro ML_world Post (z2, c + 6, s + 1224) h2 107 [some (.ref o), some (.ref sb), some (.int (nI fr)), some (.int (nI r)), none, some (.int x0), none, some (.int (nI p)), some (.int (nI n)), some (.ref x), some (.ref t2), some (fv), some (.int (nI many)), some (.int (nI (k + 1))), none, none, none, none, none, none, none, none, none, none, none] []) : VS ro ML_world Post (z, c, s) h 791 [some (.ref o), some (.ref sb), some (.int (nI fr)), some (.int (nI r)), none, some (.int x0), none, some (.int (nI p)), some (.int (nI n)), some (.ref x), some (.ref t), some (fv), some (.int (nI many)), some (.int (nI (k))), none, none, none, none, none, none, none, none, none, none, none] [] := by
  obtain ⟨w1, w2, w3, w4, w5, w6, w7, w8, w9, w10, w11, w12⟩ := id hW
  refine zs_new (pc := 791) dL_world_791 dL_world_794 dL_world_795 (by omega) (by omega) (fun h1 hB => ?_)
  refine ze_aload (pc := 798) dL_world_798 rfl ?_
  refine zs_S (pc := 800) hB (w1.str (by omega)) (by simp only [List.length_append, List.length_cons, List.length_nil, dec_len]; omega) dL_world_800 (by omega) (by omega) (fun h1 z1 hB => ?_)
  refine ze_ldcS (pc := 803) (tx := " ;") (i := 7) rfl (by decide +kernel) dL_world_803 ?_
  refine zs_S (pc := 805) hB (hL.s (i := 7) (S := [32, 59]) (by decide) rfl) (by simp only [List.length_append, List.length_cons, List.length_nil, dec_len]; omega) dL_world_805 (by omega) (by omega) (fun h1 z1 hB => ?_)
  refine zs_E (pc := 808) hB dL_world_808 (by omega) (by omega) (fun h4 t4 ht4 hM4 hf4 => ?_)
  refine ze_astore (pc := 811) dL_world_811 (by decide) ?_
  refine zn_inc (pc := 813) dL_world_813 rfl (by decide) ?_
  refine ze_goto (pc := 816) (tgt := 107) dL_world_816 (by decide) ?_
  refine VS.widen (c2 := c + 6) (s2 := s + 1224) (by first | (dsimp only; omega) | dsimp only) (by first | (dsimp only; omega) | dsimp only) ?_
  exact kk _ _ _ (hW.txt hf4 ht4 hM4)
theorem l_w_turn {y : Int32} (hL : LTx ro) (hD : DT ro) (hW : Wi h0 h z0 z p n T X F hf x t fv) (hP : PF T (k + 1) X F hf) (hl : T.length ≤ 60) (hk : k < 4) (hc : c + 200 ≤ 3000) (hs : s + 40000 ≤ 300000)
    (kk : ∀ z2 h2 x2 t2 X2 F2 hf2 fv2 T2, Wi h0 h2 z0 z2 p n T2 X2 F2 hf2 x2 t2 fv2 → PF T2 (k + 2) X2 F2 hf2 → T.length ≤ T2.length → T2.length ≤ T.length + 16 → VS ro ML_world Post (z2, c + 200, s + 40000) h2 107 [some (.ref o), some (.ref sb), some (.int (nI fr)), some (.int (nI r)), none, some (.int x0), none, some (.int (nI p)), some (.int (nI n)), some (.ref x2), some (.ref t2), some (fv2), some (.int (nI many)), some (.int (nI (k + 1))), none, none, none, none, none, none, none, none, none, none, none] []) : VS ro ML_world Post (z, c, s) h 744 [some (.ref o), some (.ref sb), some (.int (nI fr)), some (.int (nI r)), none, some (.int x0), none, some (.int (nI p)), some (.int (nI n)), some (.ref x), some (.ref t), some (fv), some (.int (nI many)), some (.int (nI (k))), some (.int y), some (.int (nI 3)), none, none, none, none, none, none, none, none, none] [] := by
  obtain ⟨w1, w2, w3, w4, w5, w6, w7, w8, w9, w10, w11, w12⟩ := id hW
  have bb := w11.b
  refine ze_iload (pc := 744) dL_world_744 rfl ?_
  refine zn_iconst (pc := 746) 4 dL_world_746 (by decide) ?_
  refine ze_ishr (pc := 747) dL_world_747 ?_
  refine zn_iconst (pc := 748) 0 dL_world_748 (by decide) ?_
  refine zn_iconst (pc := 749) 5 dL_world_749 (by decide) ?_
  refine zs_btw (pc := 750) (by omega) (by omega) (by exact Nat.le_of_ble_eq_true rfl) dL_world_750 (by omega) (by omega) (fun w _ hw => ?_)
  refine ze_istore (pc := 753) dL_world_753 (by decide) ?_
  have hdw := dgn_b w
  refine zs_new (pc := 755) dL_world_755 dL_world_758 dL_world_759 (by omega) (by omega) (fun h1 hB => ?_)
  refine ze_aload (pc := 762) dL_world_762 rfl ?_
  refine zs_S (pc := 764) hB (w1.str (by omega)) (by simp only [List.length_append, List.length_cons, List.length_nil, dec_len]; omega) dL_world_764 (by omega) (by omega) (fun h1 z1 hB => ?_)
  refine ze_ldcS (pc := 767) (tx := "turn ") (i := 6) rfl (by decide +kernel) dL_world_767 ?_
  refine zs_S (pc := 769) hB (hL.s (i := 6) (S := [116, 117, 114, 110, 32]) (by decide) rfl) (by simp only [List.length_append, List.length_cons, List.length_nil, dec_len]; omega) dL_world_769 (by omega) (by omega) (fun h1 z1 hB => ?_)
  refine ze_iload (pc := 772) dL_world_772 rfl ?_
  refine zs_N (pc := 774) hD (by omega) hB (by simp only [List.length_append, List.length_cons, List.length_nil, dec_len]; omega) dL_world_774 (by omega) (by omega) (fun h1 z1 hB => ?_)
  refine zs_E (pc := 777) hB dL_world_777 (by omega) (by omega) (fun h4 t4 ht4 hM4 hf4 => ?_)
  have hW2 := hW.txt hf4 ht4 hM4
  obtain ⟨-, -, v3, v4, -, v6, -⟩ := id hW2
  obtain ⟨u1, -⟩ := id v4
  refine ze_astore (pc := 780) dL_world_780 (by decide) ?_
  refine ze_aload (pc := 782) dL_world_782 rfl ?_
  refine ze_iload (pc := 784) dL_world_784 rfl ?_
  refine ze_callV (pc := 786) (c_X11_turned (zq := t4 + 2) v4 w11 (by omega) (show w < 6 by omega)) bX11_turned q_i_X11_turned q_s_X11_turned q_m_L_119 dL_world_786 rfl rfl (by repeat (first | assumption | exact hset_eq _ _ _ | rw [hset_ne _ _ (by omega)])) rfl rfl (by exact Nat.le_of_ble_eq_true rfl) ⟨by decide, by decide⟩ ⟨by show _ + 32 ≤ 3000; first | omega | (dsimp only; omega) | dsimp only | exact Nat.le_of_ble_eq_true rfl, by show _ + 160 ≤ 300000; first | omega | (dsimp only; omega) | dsimp only | exact Nat.le_of_ble_eq_true rfl⟩ (fun rr h5 z5 hp => ?_)
  (try dsimp only [MI.mc, MI.ms, MX11_turned, Nat.add_zero])
  obtain ⟨rfl, rfl, hX, hf5⟩ := hp
  refine ze_astore (pc := 789) dL_world_789 (by decide) ?_
  refine VS.widen (c2 := c + 180) (s2 := s + 38000) (by first | (dsimp only; omega) | dsimp only) (by first | (dsimp only; omega) | dsimp only) ?_
  refine VS.mask [true, true, true, true, false, true, false, true, true, true, true, true, true, true, false, false, false, false, false, false, false, false, false, false, false] ?_
  refine l_w_tail hL (hW2.wld hf5 hX w9 w10 (wturn_ok w11 w)) (by simp only [List.length_append, List.length_cons, List.length_nil, dec_len]; omega) (by omega) (by omega) (fun z6 h6 t6 hW6 => ?_)
  have hlen : ([] ++ T ++ [116, 117, 114, 110, 32] ++ dec w ++ [32, 59]).length ≤ T.length + 16 := by simp only [List.length_append, List.length_cons, List.length_nil, dec_len]; omega
  have eT : [] ++ T ++ [116, 117, 114, 110, 32] ++ dec w ++ [32, 59] = T ++ stx 0 4 [w] 1 := by simp [stx, wd, nms]
  rw [eT] at hlen hW6
  refine VS.widen (c2 := c + 200) (s2 := s + 40000) (by first | (dsimp only; omega) | dsimp only) (by first | (dsimp only; omega) | dsimp only) ?_
  refine kk _ _ _ _ _ _ _ _ _ hW6 ?_ (by rw [List.length_append]; omega) hlen
  have := PF.step (b := 0) (c := 1) (k := 4) (ns := [w]) hP (by decide) ⟨fun q => by omega, fun q => by omega⟩ (by omega) (fun q => by omega) ⟨fun v hv => by rw [List.mem_singleton.mp hv]; omega, rfl, fun q hq => ?_⟩
  · exact this
  · have : q = 0 := by have : q < 1 := hq; omega
    subst this
    show w < 6
    omega
end LK
