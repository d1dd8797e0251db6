/-! ===== constructors of lists, reader, states ===== -/
theorem KW_sub (a : Nat) (j : Nat) : KW a (0 + 1 + j) = KX9 j := by
  unfold KW
  rw [if_neg (by omega), show 0 + 1 + j - 1 = j by omega]
def KX2 (L j : Nat) : AE := if j < 3 then KW (L + 1) j else if j = 3 then aZ 4 (fun _ => 0) else if j = 4 then aG 4 (fun i => if i < 4 then some (L + 6 + i) else none) else if j < 9 then aI 32 (fun _ => 0) else if j = 9 then aG 4 (fun i => if i < 4 then some (L + 11 + i) else none) else aI 3 (fun _ => 0)
theorem KX2_r1 (L j : Nat) (hj : j < 4) : KX2 L (4 + 1 + j) = aI 32 (fun _ => 0) := by
  unfold KX2
  rw [if_neg (by omega), if_neg (by omega), if_neg (by omega), if_pos (by omega)]
theorem KX2_r2 (L j : Nat) (hj : j < 4) : KX2 L (9 + 1 + j) = aI 3 (fun _ => 0) := by
  unfold KX2
  rw [if_neg (by omega), if_neg (by omega), if_neg (by omega), if_neg (by omega), if_neg (by omega)]
theorem c_X2_init (o S : Nat) : CK yX2_init MX2_init [.ref S] 2 fzX2 [.ref S, .ref (o + 1), .ref (o + 4), .ref (o + 5), .ref (o + 10)] (KX2 o) 14 o := by
  refine CK.ofV (by decide) rfl rfl (by simp [Value.category]) (by exact Nat.le_of_ble_eq_true rfl) (fun h => ?_)
  refine e_aload_n (pc := 0) dX2_init_0 rfl rfl ?_
  refine e_objInit (pc := 1) q_m_X2_3 dX2_init_1 (by exact Nat.le_of_ble_eq_true rfl) (by exact Nat.le_of_ble_eq_true rfl) ?_
  refine e_aload_n (pc := 4) dX2_init_4 rfl rfl ?_
  refine b_new (pc := 5) (N := 0) (c2 := 1) (s2 := 6) nw_X2_9 dX2_init_5 rfl rfl ⟨by exact Nat.le_of_ble_eq_true rfl, by exact Nat.le_of_ble_eq_true rfl⟩ ?_
  refine e_dup (pc := 8) dX2_init_8 rfl ?_
  refine b_ctorN (pc := 9) (N := 0) (N2 := 2) (N3 := 3) (c2 := 3) (s2 := 136) (c_X9_init _) bX9_init rfl rfl q_i_X9_init (host := "NeedNotJoin") (by decide) dX2_init_9 rfl (by exact Nat.le_of_ble_eq_true rfl) ⟨by decide, by decide⟩ ⟨by exact Nat.le_of_ble_eq_true rfl, by exact Nat.le_of_ble_eq_true rfl⟩ rfl rfl rfl (by rfl) (by intro j hj; match j, hj with | 0, _ => rfl | 1, _ => rfl) ?_
  refine b_putF (pc := 12) pl_X2_12 rfl dX2_init_12 (by rfl) (by rfl) (by exact Nat.le_of_ble_eq_true rfl) ?_
  refine e_aload_n (pc := 15) dX2_init_15 rfl rfl ?_
  refine n_iconst (pc := 16) 4 dX2_init_16 (by decide) ?_
  refine b_newZ (pc := 17) (K := 4) (N := 3) (N2 := 4) (c2 := 4) (s2 := 140) dX2_init_17 (by rfl) (by decide) (by rfl) rfl rfl rfl ⟨by exact Nat.le_of_ble_eq_true rfl, by exact Nat.le_of_ble_eq_true rfl⟩ ?_
  refine b_putF (pc := 19) pl_X2_18 rfl dX2_init_19 (by rfl) (by rfl) (by exact Nat.le_of_ble_eq_true rfl) ?_
  refine e_aload_n (pc := 22) dX2_init_22 rfl rfl ?_
  refine n_iconst (pc := 23) 4 dX2_init_23 (by decide) ?_
  refine n_bipush (pc := 24) 32 dX2_init_24 (by decide) ?_
  refine b_newG (pc := 26) (K := 32) (n := 4) (N := 4) (N2 := 9) (c2 := 9) (s2 := 272) q_cl_X2_22 dX2_init_26 (by rfl) (by rfl) (by decide) (by decide) (by rfl) (KX2_r1 o) rfl rfl rfl ⟨by exact Nat.le_of_ble_eq_true rfl, by exact Nat.le_of_ble_eq_true rfl⟩ ?_
  refine b_putF (pc := 30) pl_X2_24 rfl dX2_init_30 (by rfl) (by rfl) (by exact Nat.le_of_ble_eq_true rfl) ?_
  refine e_aload_n (pc := 33) dX2_init_33 rfl rfl ?_
  refine n_iconst (pc := 34) 4 dX2_init_34 (by decide) ?_
  refine n_iconst (pc := 35) 3 dX2_init_35 (by decide) ?_
  refine b_newG (pc := 36) (K := 3) (n := 4) (N := 9) (N2 := 14) (c2 := 14) (s2 := 288) q_cl_X2_22 dX2_init_36 (by rfl) (by rfl) (by decide) (by decide) (by rfl) (KX2_r2 o) rfl rfl rfl ⟨by exact Nat.le_of_ble_eq_true rfl, by exact Nat.le_of_ble_eq_true rfl⟩ ?_
  refine b_putF (pc := 40) pl_X2_27 rfl dX2_init_40 (by rfl) (by rfl) (by exact Nat.le_of_ble_eq_true rfl) ?_
  refine e_aload_n (pc := 43) dX2_init_43 rfl rfl ?_
  refine e_aload_n (pc := 44) dX2_init_44 rfl rfl ?_
  refine b_putF (pc := 45) pl_X2_30 rfl dX2_init_45 (by rfl) (by rfl) (by exact Nat.le_of_ble_eq_true rfl) ?_
  exact e_vret dX2_init_48 rfl ⟨by exact Nat.le_of_ble_eq_true rfl, by exact Nat.le_of_ble_eq_true rfl⟩ ⟨rfl, rfl, rfl⟩
def fsR (R : Nat) : List Value := [.ref (R + 1), .int (nI 0), .int (nI 0), .int (nI 0), .int (nI 0), .int (nI 0), .int (nI 0), .int (-1), .int (nI 0), .int (nI 0), .ref (R + 2), .ref (R + 5), .ref (R + 8), .ref (R + 11), .ref (R + 12), .ref (R + 13)]
def KX4 (R j : Nat) : AE := if j = 0 then aI 600 (fun _ => 0) else if j < 4 then KW (R + 2) (j - 1) else if j < 7 then KW (R + 5) (j - 4) else if j < 10 then KW (R + 8) (j - 7) else aI 5 (fun _ => 0)
theorem c_X4_init (o : Nat) : CK yX4_init MX4_init [] 4 fzX4 (fsR o) (KX4 o) 13 o := by
  refine CK.ofV (by decide) rfl rfl (by simp [Value.category]) (by exact Nat.le_of_ble_eq_true rfl) (fun h => ?_)
  refine e_aload_n (pc := 0) dX4_init_0 rfl rfl ?_
  refine e_objInit (pc := 1) q_m_X4_3 dX4_init_1 (by exact Nat.le_of_ble_eq_true rfl) (by exact Nat.le_of_ble_eq_true rfl) ?_
  refine e_aload_n (pc := 4) dX4_init_4 rfl rfl ?_
  refine n_sipush (pc := 5) 600 dX4_init_5 (by decide) ?_
  refine b_newI (pc := 8) (K := 600) (N := 0) (N2 := 1) (c2 := 1) (s2 := 600) dX4_init_8 (by rfl) (by decide) (by rfl) rfl rfl rfl ⟨by exact Nat.le_of_ble_eq_true rfl, by exact Nat.le_of_ble_eq_true rfl⟩ ?_
  refine b_putF (pc := 10) pl_X4_11 rfl dX4_init_10 (by rfl) (by rfl) (by exact Nat.le_of_ble_eq_true rfl) ?_
  refine e_aload_n (pc := 13) dX4_init_13 rfl rfl ?_
  refine n_iconst (pc := 14) 0 dX4_init_14 (by decide) ?_
  refine b_put (pc := 15) pl_X4_15 dX4_init_15 (by rfl) (by rfl) (by exact Nat.le_of_ble_eq_true rfl) ?_
  refine e_aload_n (pc := 18) dX4_init_18 rfl rfl ?_
  refine n_iconst (pc := 19) 0 dX4_init_19 (by decide) ?_
  refine b_put (pc := 20) pl_X4_19 dX4_init_20 (by rfl) (by rfl) (by exact Nat.le_of_ble_eq_true rfl) ?_
  refine e_aload_n (pc := 23) dX4_init_23 rfl rfl ?_
  refine n_iconst (pc := 24) 0 dX4_init_24 (by decide) ?_
  refine b_put (pc := 25) pl_X4_22 dX4_init_25 (by rfl) (by rfl) (by exact Nat.le_of_ble_eq_true rfl) ?_
  refine e_aload_n (pc := 28) dX4_init_28 rfl rfl ?_
  refine n_iconst (pc := 29) 0 dX4_init_29 (by decide) ?_
  refine b_put (pc := 30) pl_X4_25 dX4_init_30 (by rfl) (by rfl) (by exact Nat.le_of_ble_eq_true rfl) ?_
  refine e_aload_n (pc := 33) dX4_init_33 rfl rfl ?_
  refine n_iconst (pc := 34) 0 dX4_init_34 (by decide) ?_
  refine b_put (pc := 35) pl_X4_28 dX4_init_35 (by rfl) (by rfl) (by exact Nat.le_of_ble_eq_true rfl) ?_
  refine e_aload_n (pc := 38) dX4_init_38 rfl rfl ?_
  refine n_iconst (pc := 39) 0 dX4_init_39 (by decide) ?_
  refine b_put (pc := 40) pl_X4_31 dX4_init_40 (by rfl) (by rfl) (by exact Nat.le_of_ble_eq_true rfl) ?_
  refine e_aload_n (pc := 43) dX4_init_43 rfl rfl ?_
  refine e_iconst (pc := 44) (v := -1) dX4_init_44 (by decide) ?_
  refine b_put (pc := 45) pl_X4_34 dX4_init_45 (by rfl) (by rfl) (by exact Nat.le_of_ble_eq_true rfl) ?_
  refine e_aload_n (pc := 48) dX4_init_48 rfl rfl ?_
  refine n_iconst (pc := 49) 0 dX4_init_49 (by decide) ?_
  refine b_put (pc := 50) pl_X4_37 dX4_init_50 (by rfl) (by rfl) (by exact Nat.le_of_ble_eq_true rfl) ?_
  refine e_aload_n (pc := 53) dX4_init_53 rfl rfl ?_
  refine n_iconst (pc := 54) 0 dX4_init_54 (by decide) ?_
  refine b_put (pc := 55) pl_X4_40 dX4_init_55 (by rfl) (by rfl) (by exact Nat.le_of_ble_eq_true rfl) ?_
  refine e_aload_n (pc := 58) dX4_init_58 rfl rfl ?_
  refine b_new (pc := 59) (N := 1) (c2 := 2) (s2 := 606) nw_X4_44 dX4_init_59 rfl rfl ⟨by exact Nat.le_of_ble_eq_true rfl, by exact Nat.le_of_ble_eq_true rfl⟩ ?_
  refine e_dup (pc := 62) dX4_init_62 rfl ?_
  refine b_ctorN (pc := 63) (N := 1) (N2 := 2) (N3 := 4) (c2 := 4) (s2 := 736) (c_X9_init _) bX9_init rfl rfl q_i_X9_init (host := "NeedNotJoin") (by decide) dX4_init_63 rfl (by exact Nat.le_of_ble_eq_true rfl) ⟨by decide, by decide⟩ ⟨by exact Nat.le_of_ble_eq_true rfl, by exact Nat.le_of_ble_eq_true rfl⟩ rfl rfl rfl (by rfl) (by intro j hj; match j, hj with | 0, _ => rfl | 1, _ => rfl) ?_
  refine b_putF (pc := 66) pl_X4_47 rfl dX4_init_66 (by rfl) (by rfl) (by exact Nat.le_of_ble_eq_true rfl) ?_
  refine e_aload_n (pc := 69) dX4_init_69 rfl rfl ?_
  refine b_new (pc := 70) (N := 4) (c2 := 5) (s2 := 742) nw_X4_44 dX4_init_70 rfl rfl ⟨by exact Nat.le_of_ble_eq_true rfl, by exact Nat.le_of_ble_eq_true rfl⟩ ?_
  refine e_dup (pc := 73) dX4_init_73 rfl ?_
  refine b_ctorN (pc := 74) (N := 4) (N2 := 2) (N3 := 7) (c2 := 7) (s2 := 872) (c_X9_init _) bX9_init rfl rfl q_i_X9_init (host := "NeedNotJoin") (by decide) dX4_init_74 rfl (by exact Nat.le_of_ble_eq_true rfl) ⟨by decide, by decide⟩ ⟨by exact Nat.le_of_ble_eq_true rfl, by exact Nat.le_of_ble_eq_true rfl⟩ rfl rfl rfl (by rfl) (by intro j hj; match j, hj with | 0, _ => rfl | 1, _ => rfl) ?_
  refine b_putF (pc := 77) pl_X4_51 rfl dX4_init_77 (by rfl) (by rfl) (by exact Nat.le_of_ble_eq_true rfl) ?_
  refine e_aload_n (pc := 80) dX4_init_80 rfl rfl ?_
  refine b_new (pc := 81) (N := 7) (c2 := 8) (s2 := 878) nw_X4_44 dX4_init_81 rfl rfl ⟨by exact Nat.le_of_ble_eq_true rfl, by exact Nat.le_of_ble_eq_true rfl⟩ ?_
  refine e_dup (pc := 84) dX4_init_84 rfl ?_
  refine b_ctorN (pc := 85) (N := 7) (N2 := 2) (N3 := 10) (c2 := 10) (s2 := 1008) (c_X9_init _) bX9_init rfl rfl q_i_X9_init (host := "NeedNotJoin") (by decide) dX4_init_85 rfl (by exact Nat.le_of_ble_eq_true rfl) ⟨by decide, by decide⟩ ⟨by exact Nat.le_of_ble_eq_true rfl, by exact Nat.le_of_ble_eq_true rfl⟩ rfl rfl rfl (by rfl) (by intro j hj; match j, hj with | 0, _ => rfl | 1, _ => rfl) ?_
  refine b_putF (pc := 88) pl_X4_54 rfl dX4_init_88 (by rfl) (by rfl) (by exact Nat.le_of_ble_eq_true rfl) ?_
  refine e_aload_n (pc := 91) dX4_init_91 rfl rfl ?_
  refine n_iconst (pc := 92) 5 dX4_init_92 (by decide) ?_
  refine b_newI (pc := 93) (K := 5) (N := 10) (N2 := 11) (c2 := 11) (s2 := 1013) dX4_init_93 (by rfl) (by decide) (by rfl) rfl rfl rfl ⟨by exact Nat.le_of_ble_eq_true rfl, by exact Nat.le_of_ble_eq_true rfl⟩ ?_
  refine b_putF (pc := 95) pl_X4_57 rfl dX4_init_95 (by rfl) (by rfl) (by exact Nat.le_of_ble_eq_true rfl) ?_
  refine e_aload_n (pc := 98) dX4_init_98 rfl rfl ?_
  refine n_iconst (pc := 99) 5 dX4_init_99 (by decide) ?_
  refine b_newI (pc := 100) (K := 5) (N := 11) (N2 := 12) (c2 := 12) (s2 := 1018) dX4_init_100 (by rfl) (by decide) (by rfl) rfl rfl rfl ⟨by exact Nat.le_of_ble_eq_true rfl, by exact Nat.le_of_ble_eq_true rfl⟩ ?_
  refine b_putF (pc := 102) pl_X4_60 rfl dX4_init_102 (by rfl) (by rfl) (by exact Nat.le_of_ble_eq_true rfl) ?_
  refine e_aload_n (pc := 105) dX4_init_105 rfl rfl ?_
  refine n_iconst (pc := 106) 5 dX4_init_106 (by decide) ?_
  refine b_newI (pc := 107) (K := 5) (N := 12) (N2 := 13) (c2 := 13) (s2 := 1023) dX4_init_107 (by rfl) (by decide) (by rfl) rfl rfl rfl ⟨by exact Nat.le_of_ble_eq_true rfl, by exact Nat.le_of_ble_eq_true rfl⟩ ?_
  refine b_putF (pc := 109) pl_X4_63 rfl dX4_init_109 (by rfl) (by rfl) (by exact Nat.le_of_ble_eq_true rfl) ?_
  exact e_vret dX4_init_112 rfl ⟨by exact Nat.le_of_ble_eq_true rfl, by exact Nat.le_of_ble_eq_true rfl⟩ ⟨rfl, rfl, rfl⟩
def fs6 (S : Nat) : List Value := [.ref (S + 1), .ref (S + 2), .ref (S + 3), .ref (S + 4), .int (nI 0), .int (nI 0)]
/-- a state being made: a of its worlds, b of the replaced, m images told -/
def KX6 (S a b m j : Nat) : AE := if j = 0 then aQ 6 (fun i => if i < a then some (S + 5 + 3 * i) else none) else if j = 1 then aQ 20 (fun i => if i < b then some (S + 23 + 3 * i) else none) else if j = 2 then aI 20 (fun _ => 0) else if j = 3 then aI 15 (fun t => if t < m then -1 else 0) else KW (S + 5 + 3 * ((j - 4) / 3)) ((j - 4) % 3)
theorem KX6_w (S a b m k i : Nat) (hi : i < 3) : KX6 S a b m (4 + 3 * k + i) = KW (S + 5 + 3 * k) i := by
  unfold KX6
  rw [if_neg (by omega), if_neg (by omega), if_neg (by omega), if_neg (by omega), show (4 + 3 * k + i - 4) / 3 = k by omega, show (4 + 3 * k + i - 4) % 3 = i by omega]
theorem KX6_o (S a b m k : Nat) : KX6 S a b m (4 + 3 * k) = ob 8 (fsW (S + 1 + (4 + 3 * k))) := by
  have := KX6_w S a b m k 0 (by omega)
  rw [show 4 + 3 * k + 0 = 4 + 3 * k by omega] at this
  rw [this, show S + 1 + (4 + 3 * k) = S + 5 + 3 * k by omega]
  rfl
theorem KX6_c (S a b m k j : Nat) (hj : j < 2) : KX6 S a b m (4 + 3 * k + 1 + j) = KX9 j := by
  have := KX6_w S a b m k (1 + j) (by omega)
  rw [show 4 + 3 * k + (1 + j) = 4 + 3 * k + 1 + j by omega] at this
  rw [this]
  unfold KW
  rw [if_neg (by omega), show 1 + j - 1 = j by omega]
theorem up_some {n k b : Nat} (v : Nat → Nat) (e : b = v k) : (fun i => if i < k + 1 then some (v i) else none) = va_up (fun i => if i < k then some (v i) else none) k (some b) := by
  funext i
  unfold va_up
  by_cases g : i = k
  · subst g
    rw [if_pos (by omega), if_pos rfl, e]
  · rw [if_neg g]
    dsimp only
    by_cases g2 : i < k
    · rw [if_pos g2, if_pos (by omega)]
    · rw [if_neg g2, if_neg (by omega)]
section X6I
variable {Post : Option Value → AH → Nat → Prop} {o : Nat} {h : AH}
theorem x6_l1 (K : V MX6_init Post (o + 1 + (4 + 3 * 6), 4 + 3 * 6, 61 + 136 * 6) (bk 6 h o (fs6 o) (KX6 o 6 0 0) (4 + 3 * 6)) 75 [some (.ref o), some (.int (nI 6))] []) (r : Nat) : ∀ k, k + r = 6 → V MX6_init Post (o + 1 + (4 + 3 * k), 4 + 3 * k, 61 + 136 * k) (bk 6 h o (fs6 o) (KX6 o k 0 0) (4 + 3 * k)) 50 [some (.ref o), some (.int (nI k))] [] := by
  induction r with
  | zero =>
    intro k hk
    have hk6 : k = 6 := by omega
    subst hk6
    refine e_iload_n (pc := 50) dX6_init_50 rfl rfl ?_
    refine n_bipush (pc := 51) 6 dX6_init_51 (by decide) ?_
    refine n_icmp_ge (pc := 53) (tgt := 75) dX6_init_53 (by decide) (by omega) (by omega) (fun c => ?_) (fun c => ?_)
    · exact K
    · exact absurd c (by omega)
  | succ r ih =>
    intro k hk
    refine e_iload_n (pc := 50) dX6_init_50 rfl rfl ?_
    refine n_bipush (pc := 51) 6 dX6_init_51 (by decide) ?_
    refine n_icmp_ge (pc := 53) (tgt := 75) dX6_init_53 (by decide) (by omega) (by omega) (fun c => absurd c (by omega)) (fun c => ?_)
    refine e_aload_n (pc := 56) dX6_init_56 rfl rfl ?_
    refine e_get (pc := 57) fl_X6_11 dX6_init_57 bk_o (by rfl) ?_
    refine e_iload_n (pc := 60) dX6_init_60 rfl rfl ?_
    refine b_new (pc := 61) (N := 4 + 3 * k) (c2 := 4 + 3 * k + 1) (s2 := 61 + 136 * k + 6) nw_X6_9 dX6_init_61 rfl rfl ⟨by show _ ≤ 82; omega, by show _ ≤ 3597; omega⟩ ?_
    refine e_dup (pc := 64) dX6_init_64 rfl ?_
    refine b_ctorN (pc := 65) (As := []) (N := 4 + 3 * k) (N2 := 2) (N3 := 4 + 3 * (k + 1)) (c2 := 4 + 3 * (k + 1)) (s2 := 61 + 136 * (k + 1)) (c_X9_init _) bX9_init rfl rfl q_i_X9_init (host := "NeedNotJoin") (by decide) dX6_init_65 rfl (by exact Nat.le_of_ble_eq_true rfl) ⟨by decide, by decide⟩ ⟨by show _ ≤ 82; omega, by show _ ≤ 3597; omega⟩ (by omega) (by show 4 + 3 * k + 1 + 2 = _; omega) (by show 61 + 136 * k + 6 + 130 = _; omega) (KX6_o o k 0 0 k) (fun j hj => KX6_c o k 0 0 k j hj) ?_
    refine e_aastQ (pc := 68) (a := o + 1) (n := 6) k dX6_init_68 (bk_at' 0 (by omega) (by omega)) (fs := fsW (o + 1 + (4 + 3 * k))) (by rw [bk_at _ (by omega), KX6_o]) rfl (by omega) (by decide) ?_
    refine e_heap (h2 := bk 6 h o (fs6 o) (KX6 o (k + 1) 0 0) (4 + 3 * (k + 1))) (bk_set 0 (by omega) (by
      show aQ 6 _ = aQ 6 _
      rw [up_some (n := 6) (fun i => o + 5 + 3 * i) (show o + 1 + (4 + 3 * k) = _ by omega)]) (fun i hi hne => by unfold KX6; rw [if_neg hne, if_neg hne])) ?_
    refine n_inc (pc := 69) dX6_init_69 rfl (by decide) ?_
    refine e_goto (pc := 72) (tgt := 50) dX6_init_72 (by decide) ?_
    exact ih (k + 1) (by omega)
theorem x6_l2 (K : V MX6_init Post (o + 1 + (22 + 3 * 20), 22 + 3 * 20, 877 + 136 * 20) (bk 6 h o (fs6 o) (KX6 o 6 20 0) (22 + 3 * 20)) 102 [some (.ref o), some (.int (nI 20))] []) (r : Nat) : ∀ k, k + r = 20 → V MX6_init Post (o + 1 + (22 + 3 * k), 22 + 3 * k, 877 + 136 * k) (bk 6 h o (fs6 o) (KX6 o 6 k 0) (22 + 3 * k)) 77 [some (.ref o), some (.int (nI k))] [] := by
  induction r with
  | zero =>
    intro k hk
    have hk6 : k = 20 := by omega
    subst hk6
    refine e_iload_n (pc := 77) dX6_init_77 rfl rfl ?_
    refine n_bipush (pc := 78) 20 dX6_init_78 (by decide) ?_
    refine n_icmp_ge (pc := 80) (tgt := 102) dX6_init_80 (by decide) (by omega) (by omega) (fun c => ?_) (fun c => ?_)
    · exact K
    · exact absurd c (by omega)
  | succ r ih =>
    intro k hk
    refine e_iload_n (pc := 77) dX6_init_77 rfl rfl ?_
    refine n_bipush (pc := 78) 20 dX6_init_78 (by decide) ?_
    refine n_icmp_ge (pc := 80) (tgt := 102) dX6_init_80 (by decide) (by omega) (by omega) (fun c => absurd c (by omega)) (fun c => ?_)
    refine e_aload_n (pc := 83) dX6_init_83 rfl rfl ?_
    refine e_get (pc := 84) fl_X6_17 dX6_init_84 bk_o (by rfl) ?_
    refine e_iload_n (pc := 87) dX6_init_87 rfl rfl ?_
    have e1 : 22 + 3 * k = 4 + 3 * (6 + k) := by omega
    refine b_new (pc := 88) (N := 22 + 3 * k) (c2 := 22 + 3 * k + 1) (s2 := 877 + 136 * k + 6) nw_X6_9 dX6_init_88 rfl rfl ⟨by show _ ≤ 82; omega, by show _ ≤ 3597; omega⟩ ?_
    refine e_dup (pc := 91) dX6_init_91 rfl ?_
    refine b_ctorN (pc := 92) (As := []) (N := 22 + 3 * k) (N2 := 2) (N3 := 22 + 3 * (k + 1)) (c2 := 22 + 3 * (k + 1)) (s2 := 877 + 136 * (k + 1)) (c_X9_init _) bX9_init rfl rfl q_i_X9_init (host := "NeedNotJoin") (by decide) dX6_init_92 rfl (by exact Nat.le_of_ble_eq_true rfl) ⟨by decide, by decide⟩ ⟨by show _ ≤ 82; omega, by show _ ≤ 3597; omega⟩ (by omega) (by show 22 + 3 * k + 1 + 2 = _; omega) (by show 877 + 136 * k + 6 + 130 = _; omega) (by rw [e1]; exact KX6_o o 6 k 0 (6 + k)) (fun j hj => by rw [e1]; exact KX6_c o 6 k 0 (6 + k) j hj) ?_
    refine e_aastQ (pc := 95) (a := o + 2) (n := 20) k dX6_init_95 (bk_at' 1 (by omega) (by omega)) (fs := fsW (o + 1 + (4 + 3 * (6 + k)))) (by rw [bk_at _ (by omega), e1, KX6_o]) rfl (by omega) (by decide) ?_
    refine e_heap (h2 := bk 6 h o (fs6 o) (KX6 o 6 (k + 1) 0) (22 + 3 * (k + 1))) (bk_set 1 (by omega) (by
      show aQ 20 _ = aQ 20 _
      rw [up_some (n := 20) (fun i => o + 23 + 3 * i) (show o + 1 + (22 + 3 * k) = _ by omega)]) (fun i hi hne => by unfold KX6; rw [if_neg hne, if_neg hne])) ?_
    refine n_inc (pc := 96) dX6_init_96 rfl (by decide) ?_
    refine e_goto (pc := 99) (tgt := 77) dX6_init_99 (by decide) ?_
    exact ih (k + 1) (by omega)
theorem x6_l3 {al : Nat × Nat × Nat} (K : V MX6_init Post al (bk 6 h o (fs6 o) (KX6 o 6 20 15) 82) 123 [some (.ref o), some (.int (nI 15))] []) (r : Nat) : ∀ k, k + r = 15 → V MX6_init Post al (bk 6 h o (fs6 o) (KX6 o 6 20 k) 82) 104 [some (.ref o), some (.int (nI k))] [] := by
  induction r with
  | zero =>
    intro k hk
    have hk6 : k = 15 := by omega
    subst hk6
    refine e_iload_n (pc := 104) dX6_init_104 rfl rfl ?_
    refine n_bipush (pc := 105) 15 dX6_init_105 (by decide) ?_
    refine n_icmp_ge (pc := 107) (tgt := 123) dX6_init_107 (by decide) (by omega) (by omega) (fun c => ?_) (fun c => ?_)
    · exact K
    · exact absurd c (by omega)
  | succ r ih =>
    intro k hk
    refine e_iload_n (pc := 104) dX6_init_104 rfl rfl ?_
    refine n_bipush (pc := 105) 15 dX6_init_105 (by decide) ?_
    refine n_icmp_ge (pc := 107) (tgt := 123) dX6_init_107 (by decide) (by omega) (by omega) (fun c => absurd c (by omega)) (fun c => ?_)
    refine e_aload_n (pc := 110) dX6_init_110 rfl rfl ?_
    refine e_get (pc := 111) fl_X6_24 dX6_init_111 bk_o (by rfl) ?_
    refine e_iload_n (pc := 114) dX6_init_114 rfl rfl ?_
    refine e_iconst (pc := 115) (v := -1) dX6_init_115 (by decide) ?_
    refine e_iastN (pc := 116) (a := o + 4) (n := 15) k dX6_init_116 (bk_at' 3 (by omega) (by omega)) rfl (by omega) (by decide) ?_
    refine e_heap (h2 := bk 6 h o (fs6 o) (KX6 o 6 20 (k + 1)) 82) (bk_set 3 (by omega) (by
      show aI 15 _ = aI 15 _
      congr 3
      funext t
      unfold upd
      by_cases g : t = k
      · subst g; rw [if_pos rfl, if_pos (by omega)]
      · rw [if_neg g]
        dsimp only
        by_cases g2 : t < k
        · rw [if_pos g2, if_pos (by omega)]
        · rw [if_neg g2, if_neg (by omega)]) (fun i hi hne => by unfold KX6; rw [if_neg hne, if_neg hne])) ?_
    refine n_inc (pc := 117) dX6_init_117 rfl (by decide) ?_
    refine e_goto (pc := 120) (tgt := 104) dX6_init_120 (by decide) ?_
    exact ih (k + 1) (by omega)
theorem c_X6_init (o : Nat) : CK yX6_init MX6_init [] 6 fzX6 (fs6 o) (KX6 o 6 20 15) 82 o := by
  refine CK.ofV (by decide) rfl rfl (by simp [Value.category]) (by exact Nat.le_of_ble_eq_true rfl) (fun h => ?_)
  refine e_heap (bk_T (T2 := KX6 o 0 0 0) (fun i hi => absurd hi (by omega))) ?_
  refine e_aload_n (pc := 0) dX6_init_0 rfl rfl ?_
  refine e_objInit (pc := 1) q_m_X6_3 dX6_init_1 (by exact Nat.le_of_ble_eq_true rfl) (by exact Nat.le_of_ble_eq_true rfl) ?_
  refine e_aload_n (pc := 4) dX6_init_4 rfl rfl ?_
  refine n_bipush (pc := 5) 6 dX6_init_5 (by decide) ?_
  refine b_newQ (pc := 7) (K := 6) (N := 0) (N2 := 1) (c2 := 1) (s2 := 6) q_cl_X6_9 dX6_init_7 (by rfl) (by decide) (by simp [KX6]) rfl rfl rfl ⟨by exact Nat.le_of_ble_eq_true rfl, by exact Nat.le_of_ble_eq_true rfl⟩ ?_
  refine b_putF (pc := 10) pl_X6_11 rfl dX6_init_10 (by rfl) (by rfl) (by exact Nat.le_of_ble_eq_true rfl) ?_
  refine e_aload_n (pc := 13) dX6_init_13 rfl rfl ?_
  refine n_bipush (pc := 14) 20 dX6_init_14 (by decide) ?_
  refine b_newQ (pc := 16) (K := 20) (N := 1) (N2 := 2) (c2 := 2) (s2 := 26) q_cl_X6_9 dX6_init_16 (by rfl) (by decide) (by simp [KX6]) rfl rfl rfl ⟨by exact Nat.le_of_ble_eq_true rfl, by exact Nat.le_of_ble_eq_true rfl⟩ ?_
  refine b_putF (pc := 19) pl_X6_17 rfl dX6_init_19 (by rfl) (by rfl) (by exact Nat.le_of_ble_eq_true rfl) ?_
  refine e_aload_n (pc := 22) dX6_init_22 rfl rfl ?_
  refine n_bipush (pc := 23) 20 dX6_init_23 (by decide) ?_
  refine b_newI (pc := 25) (K := 20) (N := 2) (N2 := 3) (c2 := 3) (s2 := 46) dX6_init_25 (by rfl) (by decide) (by rfl) rfl rfl rfl ⟨by exact Nat.le_of_ble_eq_true rfl, by exact Nat.le_of_ble_eq_true rfl⟩ ?_
  refine b_putF (pc := 27) pl_X6_20 rfl dX6_init_27 (by rfl) (by rfl) (by exact Nat.le_of_ble_eq_true rfl) ?_
  refine e_aload_n (pc := 30) dX6_init_30 rfl rfl ?_
  refine n_bipush (pc := 31) 15 dX6_init_31 (by decide) ?_
  refine b_newI (pc := 33) (K := 15) (N := 3) (N2 := 4) (c2 := 4) (s2 := 61) dX6_init_33 (by rfl) (by decide) (by simp [KX6]) rfl rfl rfl ⟨by exact Nat.le_of_ble_eq_true rfl, by exact Nat.le_of_ble_eq_true rfl⟩ ?_
  refine b_putF (pc := 35) pl_X6_24 rfl dX6_init_35 (by rfl) (by rfl) (by exact Nat.le_of_ble_eq_true rfl) ?_
  refine e_aload_n (pc := 38) dX6_init_38 rfl rfl ?_
  refine n_iconst (pc := 39) 0 dX6_init_39 (by decide) ?_
  refine b_put (pc := 40) pl_X6_27 dX6_init_40 (by rfl) (by rfl) (by exact Nat.le_of_ble_eq_true rfl) ?_
  refine e_aload_n (pc := 43) dX6_init_43 rfl rfl ?_
  refine n_iconst (pc := 44) 0 dX6_init_44 (by decide) ?_
  refine b_put (pc := 45) pl_X6_31 dX6_init_45 (by rfl) (by rfl) (by exact Nat.le_of_ble_eq_true rfl) ?_
  refine n_iconst (pc := 48) 0 dX6_init_48 (by decide) ?_
  refine e_istore_n (pc := 49) dX6_init_49 rfl (by decide) ?_
  refine x6_l1 ?_ 6 0 (by omega)
  refine n_iconst (pc := 75) 0 dX6_init_75 (by decide) ?_
  refine e_istore_n (pc := 76) dX6_init_76 rfl (by decide) ?_
  refine x6_l2 ?_ 20 0 (by omega)
  refine n_iconst (pc := 102) 0 dX6_init_102 (by decide) ?_
  refine e_istore_n (pc := 103) dX6_init_103 rfl (by decide) ?_
  refine x6_l3 ?_ 15 0 (by omega)
  exact e_vret dX6_init_123 rfl ⟨by exact Nat.le_of_ble_eq_true rfl, by exact Nat.le_of_ble_eq_true rfl⟩ ⟨rfl, rfl, rfl⟩
end X6I
