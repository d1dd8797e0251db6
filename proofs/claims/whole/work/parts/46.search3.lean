/-! ===== Search: extend ===== -/
section EX
variable {B : Nat} {W W2 : Wd} {bf af b cd : Nat → Nat} {lp rp : Nat → Int32} {lev : Nat → Nat → Nat} {fx : Nat} {hh : AH} {l d cnt sz : Nat} {c : Nat → Nat}
theorem l_ex_x (hX : SCtx hh B W W2 b cd bf af lp rp lev fx) (hl : l < W.2.1) (hE : ExtOk hh B W W2 bf af b cd lev fx (W.2.1 - l - 1)) (hd : 5 + 2 * (W.2.1 - l) ≤ d) (hP : Pre W W2 bf af b cd lev fx l c) (hf : ¬ (l = 0 ∧ 0 < fx)) :
    ∀ (n x : Nat), n = W.1 ^ W.2.1 - x → 1 ≤ x → x ≤ W.1 ^ W.2.1 → ∀ h1, Sf B hh h1 → Dy h1 B W fx l c (cnt + sg x (fun x => TC (W.1 ^ W.2.1) W.2.1 (l + 1) (cput c l x) (PM W (tT W2 bf af) b cd fx))) →
    VV (mxe d) sz (fun h2 => Sf B hh h2 ∧ Dy h2 B W fx l c (cnt + TC (W.1 ^ W.2.1) W.2.1 l c (PM W (tT W2 bf af) b cd fx))) h1 97 [some (.ref B), some (.int (nI l)), some (.int (nI x))] [] := by
  have hX0 := hX
  obtain ⟨X1, X2, ⟨M1, M2, M3⟩, hk, hk2, hq, hp2, hfx⟩ := hX
  obtain ⟨b1, b2, b3, b4, b5⟩ := hk.b
  intro n
  induction n with
  | zero =>
    intro x e1 e2 e3 h1 hS hD
    have e' : x = W.1 ^ W.2.1 := by omega
    subst e'
    obtain ⟨D1, -⟩ := id hD
    refine e_iload_n (pc := 97) dX5_extend_97 rfl rfl ?_
    refine e_aload_n (pc := 98) dX5_extend_98 rfl rfl ?_
    refine e_get (pc := 99) fl_X5_18 dX5_extend_99 (by repeat (first | assumption | exact hset_eq _ _ _ | rw [hset_ne _ _ (by omega)])) (by rfl) ?_
    refine n_icmp_ge (pc := 102) (tgt := 117) dX5_extend_102 (by decide) (by omega) (by omega) (fun hb_ => ?_) (fun c => absurd c (by omega))
    rw [← TC_s (PM_loc (by omega)) hl (by omega)] at hD
    exact n_vret (pc := 117) dX5_extend_117 rfl ⟨hS, hD⟩
  | succ n ih =>
    intro x e1 e2 e3 h1 hS hD
    obtain ⟨D1, -⟩ := id hD
    refine e_iload_n (pc := 97) dX5_extend_97 rfl rfl ?_
    refine e_aload_n (pc := 98) dX5_extend_98 rfl rfl ?_
    refine e_get (pc := 99) fl_X5_18 dX5_extend_99 (by repeat (first | assumption | exact hset_eq _ _ _ | rw [hset_ne _ _ (by omega)])) (by rfl) ?_
    refine n_icmp_ge (pc := 102) (tgt := 117) dX5_extend_102 (by decide) (by omega) (by omega) (fun c => absurd c (by omega)) (fun hb_ => ?_)
    refine e_aload_n (pc := 105) dX5_extend_105 rfl rfl ?_
    refine e_iload_n (pc := 106) dX5_extend_106 rfl rfl ?_
    refine e_iload_n (pc := 107) dX5_extend_107 rfl rfl ?_
    refine n_Vv (pc := 108) (c_X5_attempt (d := d - 1) hX0 hl hE (by omega) hP (show x < W.1 ^ W.2.1 by omega) (fun q1 q2 => absurd ⟨q1, q2⟩ hf) hS hD) (bxa (d - 1)) q_i_X5_attempt q_s_X5_attempt q_m_X5_128 dX5_extend_108 rfl rfl (by assumption) rfl rfl (by exact Nat.le_of_ble_eq_true rfl) ⟨by show d - 1 + 1 ≤ d; omega, by exact Nat.le_of_ble_eq_true rfl⟩ ⟨rfl, rfl, Nat.zero_le _, Nat.zero_le _⟩ (fun h3 hp => ?_)
    obtain ⟨p1, p2⟩ := hp
    refine n_inc (pc := 111) dX5_extend_111 rfl (by exact Nat.le_of_ble_eq_true rfl) ?_
    refine e_goto (pc := 114) (tgt := 97) dX5_extend_114 (by decide) ?_
    refine ih (x + 1) (by omega) (by omega) (by omega) h3 p1 ?_
    rw [Nat.add_assoc] at p2
    exact p2
theorem cd_b (hk : Wok W) (hB : Bas W.1 W.2.1 b cd) {l : Nat} (hl : l < W.2.1) : cd (b l) = W.1 ^ l := by
  obtain ⟨b1, b2, b3, b4, b5⟩ := hk.b
  obtain ⟨h1, h2, h3, h4⟩ := hB
  have q5 : W.1 ^ W.2.1 ≤ W.1 ^ 5 := Nat.pow_le_pow_right (by omega) b4
  refine Ind_inj hk.1 b4 (Nat.le_refl _) h1 h2 _ _ (h4 _ (h1 l hl)).1 (pow_q hk hl) ?_
  rw [(h4 _ (h1 l hl)).2, lin_pow (by omega) hl (Nat.lt_of_lt_of_le (h1 l hl) q5)]
theorem ext_ok (hX : SCtx hh B W W2 b cd bf af lp rp lev fx) : ∀ k, ExtOk hh B W W2 bf af b cd lev fx k := by
  have hX0 := hX
  obtain ⟨X1, X2, ⟨M1, M2, M3⟩, hk, hk2, hq, hp2, hfx⟩ := hX
  obtain ⟨b1, b2, b3, b4, b5⟩ := hk.b
  have q5 : W.1 ^ W.2.1 ≤ W.1 ^ 5 := Nat.pow_le_pow_right (by omega) b4
  have q0 := hk.pos
  intro k
  induction k with
  | zero =>
    intro l hlk hl d hd c cnt h1 hS hD hP
    have e' : l = W.2.1 := by omega
    subst e'
    obtain ⟨D1, D2, D3⟩ := id hD
    refine CV.ofV (by decide) rfl rfl (by simp [Value.category]) (by exact Nat.le_of_ble_eq_true rfl) (fun sz => ?_)
    refine e_iload_n (pc := 0) dX5_extend_0 rfl rfl ?_
    refine e_aload_n (pc := 1) dX5_extend_1 rfl rfl ?_
    refine e_get (pc := 2) fl_X5_15 dX5_extend_2 (by repeat (first | assumption | exact hset_eq _ _ _ | rw [hset_ne _ _ (by omega)])) (by rfl) ?_
    refine n_icmp_ge (pc := 5) (tgt := 13) dX5_extend_5 (by decide) (by omega) (by omega) (fun hb_ => ?_) (fun c => absurd c (by omega))
    refine e_aload_n (pc := 13) dX5_extend_13 rfl rfl ?_
    refine e_dup (pc := 14) dX5_extend_14 rfl ?_
    refine e_get (pc := 15) fl_X5_21 dX5_extend_15 (by repeat (first | assumption | exact hset_eq _ _ _ | rw [hset_ne _ _ (by omega)])) (by rfl) ?_
    refine n_iconst (pc := 18) 1 dX5_extend_18 (by decide) ?_
    refine n_iadd (pc := 19) dX5_extend_19 ?_
    refine e_put (pc := 20) pl_X5_21 dX5_extend_20 (by repeat (first | assumption | exact hset_eq _ _ _ | rw [hset_ne _ _ (by omega)])) (by rfl) (by rfl) (by exact Nat.le_of_ble_eq_true rfl) ?_
    refine n_vret (pc := 23) dX5_extend_23 rfl ⟨hS.set (by omega), ?_⟩
    obtain ⟨P1, P2, P3, P4⟩ := hP
    have hpm : PM W (tT W2 bf af) b cd fx c := ⟨fun i _ => P1 i, P2, fun q => P3 (by omega) q, fun i j hi hj => P4 i j hi hj (M2 i j hi hj).2.2.1⟩
    rw [TC_n (PM_loc (by omega)), if_pos (bl_t hpm)]
    exact ⟨hset_eq _ _ _, D2.keep (hset_ne _ _ (by omega)), D3.keep (hset_ne _ _ (by omega))⟩
  | succ k ih =>
    intro l hlk hl d hd c cnt h1 hS hD hP
    have hl2 : l < W.2.1 := by omega
    have hE : ExtOk hh B W W2 bf af b cd lev fx (W.2.1 - l - 1) := by
      rw [show W.2.1 - l - 1 = k by omega]; exact ih
    obtain ⟨D1, ⟨gc, c1, c2⟩, D3⟩ := id hD
    have T1 := X1.sf (h2 := h1) (fun a y z => hS a (by omega) (by omega) (by omega))
    obtain ⟨⟨gl, l1, l2⟩, ⟨gr, r1, r2⟩, -⟩ := X2.sf (h2 := h1) (fun a y z => hS a (by omega) (by omega) (by omega))
    have vl := l2 l hl2
    have vr := r2 l hl2
    refine CV.ofV (by decide) rfl rfl (by simp [Value.category]) (by exact Nat.le_of_ble_eq_true rfl) (fun sz => ?_)
    refine e_iload_n (pc := 0) dX5_extend_0 rfl rfl ?_
    refine e_aload_n (pc := 1) dX5_extend_1 rfl rfl ?_
    refine e_get (pc := 2) fl_X5_15 dX5_extend_2 (by repeat (first | assumption | exact hset_eq _ _ _ | rw [hset_ne _ _ (by omega)])) (by rfl) ?_
    refine n_icmp_ge (pc := 5) (tgt := 13) dX5_extend_5 (by decide) (by omega) (by omega) (fun c => absurd c (by omega)) (fun hb_ => ?_)
    refine e_iload_n (pc := 8) dX5_extend_8 rfl rfl ?_
    refine n_iconst (pc := 9) 5 dX5_extend_9 (by decide) ?_
    refine n_icmp_lt (pc := 10) (tgt := 24) dX5_extend_10 (by decide) (by omega) (by omega) (fun hb_ => ?_) (fun c => absurd c (by omega))
    refine e_aload_n (pc := 24) dX5_extend_24 rfl rfl ?_
    refine e_get (pc := 25) fl_X5_49 dX5_extend_25 (by repeat (first | assumption | exact hset_eq _ _ _ | rw [hset_ne _ _ (by omega)])) (by rfl) ?_
    refine e_iload_n (pc := 28) dX5_extend_28 rfl rfl ?_
    refine e_ialdN (pc := 29) _ dX5_extend_29 (by repeat (first | assumption | exact hset_eq _ _ _ | rw [hset_ne _ _ (by omega)])) (by rfl) (by omega) (by first | decide | omega) ?_
    rw [vl]
    rcases M3 l hl2 with ⟨m1, m2⟩ | ⟨i, j, hi, hj, m1, m2, m3⟩
    · rw [m1]
      refine e_if_lt (pc := 30) (tgt := 74) dX5_extend_30 (by decide) (fun _ => ?_) (fun q => absurd (by decide) q)
      have free : ¬ (l = 0 ∧ 0 < fx) → VV (mxe d) sz (fun h2 => Sf B hh h2 ∧ Dy h2 B W fx l c (cnt + TC (W.1 ^ W.2.1) W.2.1 l c (PM W (tT W2 bf af) b cd fx))) h1 95 [some (.ref B), some (.int (nI l)), none] [] := fun hf => by
        refine n_iconst (pc := 95) 1 dX5_extend_95 (by decide) ?_
        refine e_istore_n (pc := 96) dX5_extend_96 rfl (by exact Nat.le_of_ble_eq_true rfl) ?_
        refine l_ex_x hX0 hl2 hE (by omega) hP hf (W.1 ^ W.2.1 - 1) 1 rfl (Nat.le_refl _) q0 h1 hS ?_
        have e0 : sg 1 (fun x => TC (W.1 ^ W.2.1) W.2.1 (l + 1) (cput c l x) (PM W (tT W2 bf af) b cd fx)) = 0 := by
          show 0 + TC (W.1 ^ W.2.1) W.2.1 (l + 1) (cput c l 0) (PM W (tT W2 bf af) b cd fx) = 0
          rw [at_none hk hl2 (Nat.pow_pos (by omega)) (lin_0 _ _ _)]
        rw [e0, Nat.add_zero]
        exact hD
      refine e_iload_n (pc := 74) dX5_extend_74 rfl rfl ?_
      refine n_if_ne (pc := 75) (tgt := 95) dX5_extend_75 (by decide) (by omega) (fun hl0 => ?_) (fun hl0 => ?_)
      · exact free (fun q => hl0 q.1)
      · refine e_aload_n (pc := 78) dX5_extend_78 rfl rfl ?_
        refine e_get (pc := 79) fl_X5_24 dX5_extend_79 (by repeat (first | assumption | exact hset_eq _ _ _ | rw [hset_ne _ _ (by omega)])) (by rfl) ?_
        refine n_if_le (pc := 82) (tgt := 95) dX5_extend_82 (by decide) (by omega) (fun hf0 => ?_) (fun hf0 => ?_)
        · exact free (fun q => by omega)
        · refine e_aload_n (pc := 85) dX5_extend_85 rfl rfl ?_
          refine e_iload_n (pc := 86) dX5_extend_86 rfl rfl ?_
          refine e_aload_n (pc := 87) dX5_extend_87 rfl rfl ?_
          refine e_get (pc := 88) fl_X5_24 dX5_extend_88 (by repeat (first | assumption | exact hset_eq _ _ _ | rw [hset_ne _ _ (by omega)])) (by rfl) ?_
          refine n_Vv (pc := 91) (c_X5_attempt (d := d - 1) hX0 hl2 hE (by omega) hP hfx (fun _ _ => rfl) hS hD) (bxa (d - 1)) q_i_X5_attempt q_s_X5_attempt q_m_X5_128 dX5_extend_91 rfl rfl (by assumption) rfl rfl (by exact Nat.le_of_ble_eq_true rfl) ⟨by show d - 1 + 1 ≤ d; omega, by exact Nat.le_of_ble_eq_true rfl⟩ ⟨rfl, rfl, Nat.zero_le _, Nat.zero_le _⟩ (fun h3 hp => ?_)
          obtain ⟨p1, p2⟩ := hp
          refine n_vret (pc := 94) dX5_extend_94 rfl ⟨p1, ?_⟩
          rw [TC_one (PM_loc (by omega)) hl2 hfx (fun e _ hpm => by rw [hl0]; exact hpm.2.2.1 (by omega))]
          exact p2
    · rw [m1]
      refine n_if_lt (pc := 30) (tgt := 74) dX5_extend_30 (by omega) ?_ (by decide)
      refine e_aload_n (pc := 33) dX5_extend_33 rfl rfl ?_
      refine e_get (pc := 34) fl_X5_52 dX5_extend_34 (by repeat (first | assumption | exact hset_eq _ _ _ | rw [hset_ne _ _ (by omega)])) (by rfl) ?_
      refine e_iload_n (pc := 37) dX5_extend_37 rfl rfl ?_
      refine e_ialdN (pc := 38) _ dX5_extend_38 (by repeat (first | assumption | exact hset_eq _ _ _ | rw [hset_ne _ _ (by omega)])) (by rfl) (by omega) (by first | decide | omega) ?_
      rw [vr, m2]
      refine n_if_lt (pc := 39) (tgt := 74) dX5_extend_39 (by omega) ?_ (by decide)
      have k1 := c2 i hi
      have k2 := c2 j hj
      have v1 := hP.1 i
      have v2 := hP.1 j
      refine e_aload_n (pc := 42) dX5_extend_42 rfl rfl ?_
      refine e_iload_n (pc := 43) dX5_extend_43 rfl rfl ?_
      refine e_aload_n (pc := 44) dX5_extend_44 rfl rfl ?_
      refine e_aload_n (pc := 45) dX5_extend_45 rfl rfl ?_
      refine e_get (pc := 46) fl_X5_61 dX5_extend_46 (by repeat (first | assumption | exact hset_eq _ _ _ | rw [hset_ne _ _ (by omega)])) (by rfl) ?_
      refine e_aload_n (pc := 49) dX5_extend_49 rfl rfl ?_
      refine e_get (pc := 50) fl_X5_49 dX5_extend_50 (by repeat (first | assumption | exact hset_eq _ _ _ | rw [hset_ne _ _ (by omega)])) (by rfl) ?_
      refine e_iload_n (pc := 53) dX5_extend_53 rfl rfl ?_
      refine e_ialdN (pc := 54) _ dX5_extend_54 (by repeat (first | assumption | exact hset_eq _ _ _ | rw [hset_ne _ _ (by omega)])) (by rfl) (by omega) (by first | decide | omega) ?_
      rw [vl, m1]
      refine e_ialdN (pc := 55) _ dX5_extend_55 (by repeat (first | assumption | exact hset_eq _ _ _ | rw [hset_ne _ _ (by omega)])) (by rfl) (by omega) (by first | decide | omega) ?_
      rw [k1]
      refine e_aload_n (pc := 56) dX5_extend_56 rfl rfl ?_
      refine e_get (pc := 57) fl_X5_61 dX5_extend_57 (by repeat (first | assumption | exact hset_eq _ _ _ | rw [hset_ne _ _ (by omega)])) (by rfl) ?_
      refine e_aload_n (pc := 60) dX5_extend_60 rfl rfl ?_
      refine e_get (pc := 61) fl_X5_52 dX5_extend_61 (by repeat (first | assumption | exact hset_eq _ _ _ | rw [hset_ne _ _ (by omega)])) (by rfl) ?_
      refine e_iload_n (pc := 64) dX5_extend_64 rfl rfl ?_
      refine e_ialdN (pc := 65) _ dX5_extend_65 (by repeat (first | assumption | exact hset_eq _ _ _ | rw [hset_ne _ _ (by omega)])) (by rfl) (by omega) (by first | decide | omega) ?_
      rw [vr, m2]
      refine e_ialdN (pc := 66) _ dX5_extend_66 (by repeat (first | assumption | exact hset_eq _ _ _ | rw [hset_ne _ _ (by omega)])) (by rfl) (by omega) (by first | decide | omega) ?_
      rw [k2]
      refine n_VP (pc := 67) (c_X5_timesThere D1 T1 hq v1 v2) bX5_timesThere q_i_X5_timesThere q_s_X5_timesThere q_m_X5_125 dX5_extend_67 rfl rfl (by repeat (first | assumption | exact hset_eq _ _ _ | rw [hset_ne _ _ (by omega)])) rfl rfl (by exact Nat.le_of_ble_eq_true rfl) ⟨by show 4 + 1 ≤ d; omega, by exact Nat.le_of_ble_eq_true rfl⟩ ⟨rfl, rfl, Nat.zero_le _, Nat.zero_le _⟩ ?_
      have m9 := mul_lt hk2 (bf (c i)) (af (c j))
      rw [hp2.1, hp2.2] at m9
      refine n_Vv (pc := 70) (c_X5_attempt (d := d - 1) hX0 hl2 hE (by omega) hP m9 (fun q => by omega) hS hD) (bxa (d - 1)) q_i_X5_attempt q_s_X5_attempt q_m_X5_128 dX5_extend_70 rfl rfl (by assumption) rfl rfl (by exact Nat.le_of_ble_eq_true rfl) ⟨by show d - 1 + 1 ≤ d; omega, by exact Nat.le_of_ble_eq_true rfl⟩ ⟨rfl, rfl, Nat.zero_le _, Nat.zero_le _⟩ (fun h3 hp => ?_)
      obtain ⟨p1, p2⟩ := hp
      refine n_vret (pc := 73) dX5_extend_73 rfl ⟨p1, ?_⟩
      rw [TC_one (PM_loc (by omega)) hl2 m9 (fun e he hpm => ?_)]
      · exact p2
      · obtain ⟨e1, e2, e3, e4⟩ := hpm
        have e5 := e4 i j (by omega) (by omega)
        rw [← m3, cd_b hk M1 hl2, lin_pow (by omega) hl2 (Nat.lt_of_lt_of_le (e1 l hl2) q5), he i hi, he j hj] at e5
        exact e5.symm
theorem c_X5_extend0 (hX : SCtx hh B W W2 b cd bf af lp rp lev fx) {h1 : AH} (hS : Sf B hh h1) (hD : Dy h1 B W fx 0 (fun _ => 0) cnt) : CV yX5_extend MX5_extend [.ref B, .int (nI 0)] h1 (fun h2 => Sf B hh h2 ∧ Dy h2 B W fx 0 (fun _ => 0) (cnt + NM W (tT W2 bf af) b cd fx)) := by
  have hk := hX.2.2.2.1
  obtain ⟨b1, b2, b3, b4, b5⟩ := hk.b
  exact ext_ok hX W.2.1 0 (by omega) (by omega) 21 (by omega) (fun _ => 0) cnt h1 hS hD ⟨fun _ => hk.pos, fun t ht => absurd ht (Nat.not_lt_zero t), fun q => absurd q (Nat.lt_irrefl 0), fun i j _ _ q => absurd q (Nat.not_lt_zero _)⟩
end EX
