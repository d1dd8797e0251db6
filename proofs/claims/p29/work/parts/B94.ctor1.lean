/-! ===== constructors of the smaller classes ===== -/
def fsW (a : Nat) : List Value := [.int (nI 2), .int (nI 1), .int (nI 2), .int (-2), .ref (a + 1), .ref (a + 2)]
def KX9 (j : Nat) : AE := if j = 0 then aI 125 (fun _ => 0) else aI 5 (fun _ => 0)
theorem c_X9_init (o : Nat) : CK yX9_init MX9_init [] 8 fzX9 (fsW o) KX9 2 o := by
  refine CK.ofV (by decide) rfl rfl (by simp [Value.category]) (by exact Nat.le_of_ble_eq_true rfl) (fun h => ?_)
  refine e_aload_n (pc := 0) dX9_init_0 rfl rfl ?_
  refine e_objInit (pc := 1) q_m_X9_3 dX9_init_1 (by exact Nat.le_of_ble_eq_true rfl) (by exact Nat.le_of_ble_eq_true rfl) ?_
  refine e_aload_n (pc := 4) dX9_init_4 rfl rfl ?_
  refine n_iconst (pc := 5) 2 dX9_init_5 (by decide) ?_
  refine b_put (pc := 6) pl_X9_9 dX9_init_6 (by rfl) (by rfl) (by exact Nat.le_of_ble_eq_true rfl) ?_
  refine e_aload_n (pc := 9) dX9_init_9 rfl rfl ?_
  refine n_iconst (pc := 10) 1 dX9_init_10 (by decide) ?_
  refine b_put (pc := 11) pl_X9_15 dX9_init_11 (by rfl) (by rfl) (by exact Nat.le_of_ble_eq_true rfl) ?_
  refine e_aload_n (pc := 14) dX9_init_14 rfl rfl ?_
  refine n_iconst (pc := 15) 2 dX9_init_15 (by decide) ?_
  refine b_put (pc := 16) pl_X9_18 dX9_init_16 (by rfl) (by rfl) (by exact Nat.le_of_ble_eq_true rfl) ?_
  refine e_aload_n (pc := 19) dX9_init_19 rfl rfl ?_
  refine e_bipush (pc := 20) (v := -2) dX9_init_20 (by decide) ?_
  refine b_put (pc := 22) pl_X9_21 dX9_init_22 (by rfl) (by rfl) (by exact Nat.le_of_ble_eq_true rfl) ?_
  refine e_aload_n (pc := 25) dX9_init_25 rfl rfl ?_
  refine n_bipush (pc := 26) 125 dX9_init_26 (by decide) ?_
  refine b_newI (pc := 28) (K := 125) (N := 0) (N2 := 1) (c2 := 1) (s2 := 125) dX9_init_28 (by rfl) (by decide) (by rfl) rfl rfl rfl ⟨by exact Nat.le_of_ble_eq_true rfl, by exact Nat.le_of_ble_eq_true rfl⟩ ?_
  refine b_putF (pc := 30) pl_X9_24 rfl dX9_init_30 (by rfl) (by rfl) (by exact Nat.le_of_ble_eq_true rfl) ?_
  refine e_aload_n (pc := 33) dX9_init_33 rfl rfl ?_
  refine n_iconst (pc := 34) 5 dX9_init_34 (by decide) ?_
  refine b_newI (pc := 35) (K := 5) (N := 1) (N2 := 2) (c2 := 2) (s2 := 130) dX9_init_35 (by rfl) (by decide) (by rfl) rfl rfl rfl ⟨by exact Nat.le_of_ble_eq_true rfl, by exact Nat.le_of_ble_eq_true rfl⟩ ?_
  refine b_putF (pc := 37) pl_X9_28 rfl dX9_init_37 (by rfl) (by rfl) (by exact Nat.le_of_ble_eq_true rfl) ?_
  exact e_vret dX9_init_40 rfl ⟨by exact Nat.le_of_ble_eq_true rfl, by exact Nat.le_of_ble_eq_true rfl⟩ ⟨rfl, rfl, rfl⟩
/-- a bare world at a -/
def KW (a j : Nat) : AE := if j = 0 then ob 8 (fsW a) else KX9 (j - 1)
def fsE (E : Nat) : List Value := [.int (nI 2), .int (nI 1), .int (nI 0), .ref (E + 1), .ref (E + 77), .ref (E + 78)]
def KX0 (E j : Nat) : AE := if j = 0 then aG 75 (fun i => if i < 75 then some (E + 2 + i) else none) else if j = 76 then aZ 75 (fun _ => 0) else aI 75 (fun _ => 0)
theorem KX0_row (E j : Nat) (hj : j < 75) : KX0 E (0 + 1 + j) = aI 75 (fun _ => 0) := by
  unfold KX0
  rw [if_neg (by omega), if_neg (by omega)]
theorem c_X0_init (o : Nat) : CK yX0_init MX0_init [] 0 fzX0 (fsE o) (KX0 o) 78 o := by
  refine CK.ofV (by decide) rfl rfl (by simp [Value.category]) (by exact Nat.le_of_ble_eq_true rfl) (fun h => ?_)
  refine e_aload_n (pc := 0) dX0_init_0 rfl rfl ?_
  refine e_objInit (pc := 1) q_m_X0_1 dX0_init_1 (by exact Nat.le_of_ble_eq_true rfl) (by exact Nat.le_of_ble_eq_true rfl) ?_
  refine e_aload_n (pc := 4) dX0_init_4 rfl rfl ?_
  refine n_iconst (pc := 5) 2 dX0_init_5 (by decide) ?_
  refine b_put (pc := 6) pl_X0_7 dX0_init_6 (by rfl) (by rfl) (by exact Nat.le_of_ble_eq_true rfl) ?_
  refine e_aload_n (pc := 9) dX0_init_9 rfl rfl ?_
  refine n_iconst (pc := 10) 1 dX0_init_10 (by decide) ?_
  refine b_put (pc := 11) pl_X0_13 dX0_init_11 (by rfl) (by rfl) (by exact Nat.le_of_ble_eq_true rfl) ?_
  refine e_aload_n (pc := 14) dX0_init_14 rfl rfl ?_
  refine n_iconst (pc := 15) 0 dX0_init_15 (by decide) ?_
  refine b_put (pc := 16) pl_X0_16 dX0_init_16 (by rfl) (by rfl) (by exact Nat.le_of_ble_eq_true rfl) ?_
  refine e_aload_n (pc := 19) dX0_init_19 rfl rfl ?_
  refine n_bipush (pc := 20) 75 dX0_init_20 (by decide) ?_
  refine n_bipush (pc := 22) 75 dX0_init_22 (by decide) ?_
  refine b_newG (pc := 24) (K := 75) (n := 75) (N := 0) (N2 := 76) (c2 := 76) (s2 := 5700) q_cl_X0_19 dX0_init_24 (by rfl) (by rfl) (by decide) (by decide) (by rfl) (KX0_row o) rfl rfl rfl ⟨by exact Nat.le_of_ble_eq_true rfl, by exact Nat.le_of_ble_eq_true rfl⟩ ?_
  refine b_putF (pc := 28) pl_X0_21 rfl dX0_init_28 (by rfl) (by rfl) (by exact Nat.le_of_ble_eq_true rfl) ?_
  refine e_aload_n (pc := 31) dX0_init_31 rfl rfl ?_
  refine n_bipush (pc := 32) 75 dX0_init_32 (by decide) ?_
  refine b_newZ (pc := 34) (K := 75) (N := 76) (N2 := 77) (c2 := 77) (s2 := 5775) dX0_init_34 (by rfl) (by decide) (by rfl) rfl rfl rfl ⟨by exact Nat.le_of_ble_eq_true rfl, by exact Nat.le_of_ble_eq_true rfl⟩ ?_
  refine b_putF (pc := 36) pl_X0_24 rfl dX0_init_36 (by rfl) (by rfl) (by exact Nat.le_of_ble_eq_true rfl) ?_
  refine e_aload_n (pc := 39) dX0_init_39 rfl rfl ?_
  refine n_bipush (pc := 40) 75 dX0_init_40 (by decide) ?_
  refine b_newI (pc := 42) (K := 75) (N := 77) (N2 := 78) (c2 := 78) (s2 := 5850) dX0_init_42 (by rfl) (by decide) (by rfl) rfl rfl rfl ⟨by exact Nat.le_of_ble_eq_true rfl, by exact Nat.le_of_ble_eq_true rfl⟩ ?_
  refine b_putF (pc := 44) pl_X0_28 rfl dX0_init_44 (by rfl) (by rfl) (by exact Nat.le_of_ble_eq_true rfl) ?_
  exact e_vret dX0_init_47 rfl ⟨by exact Nat.le_of_ble_eq_true rfl, by exact Nat.le_of_ble_eq_true rfl⟩ ⟨rfl, rfl, rfl⟩
def KX1 (j : Nat) : AE := aI ([5, 6, 6].getD j 0) (fun _ => 0)
theorem c_X1_init (o E : Nat) : CK yX1_init MX1_init [.ref E] 1 fzX1 [.ref E, .ref (o + 1), .ref (o + 2), .ref (o + 3)] KX1 3 o := by
  refine CK.ofV (by decide) rfl rfl (by simp [Value.category]) (by exact Nat.le_of_ble_eq_true rfl) (fun h => ?_)
  refine e_aload_n (pc := 0) dX1_init_0 rfl rfl ?_
  refine e_objInit (pc := 1) q_m_X1_3 dX1_init_1 (by exact Nat.le_of_ble_eq_true rfl) (by exact Nat.le_of_ble_eq_true rfl) ?_
  refine e_aload_n (pc := 4) dX1_init_4 rfl rfl ?_
  refine n_iconst (pc := 5) 5 dX1_init_5 (by decide) ?_
  refine b_newI (pc := 6) (K := 5) (N := 0) (N2 := 1) (c2 := 1) (s2 := 5) dX1_init_6 (by rfl) (by decide) (by rfl) rfl rfl rfl ⟨by exact Nat.le_of_ble_eq_true rfl, by exact Nat.le_of_ble_eq_true rfl⟩ ?_
  refine b_putF (pc := 8) pl_X1_9 rfl dX1_init_8 (by rfl) (by rfl) (by exact Nat.le_of_ble_eq_true rfl) ?_
  refine e_aload_n (pc := 11) dX1_init_11 rfl rfl ?_
  refine n_bipush (pc := 12) 6 dX1_init_12 (by decide) ?_
  refine b_newI (pc := 14) (K := 6) (N := 1) (N2 := 2) (c2 := 2) (s2 := 11) dX1_init_14 (by rfl) (by decide) (by rfl) rfl rfl rfl ⟨by exact Nat.le_of_ble_eq_true rfl, by exact Nat.le_of_ble_eq_true rfl⟩ ?_
  refine b_putF (pc := 16) pl_X1_15 rfl dX1_init_16 (by rfl) (by rfl) (by exact Nat.le_of_ble_eq_true rfl) ?_
  refine e_aload_n (pc := 19) dX1_init_19 rfl rfl ?_
  refine n_bipush (pc := 20) 6 dX1_init_20 (by decide) ?_
  refine b_newI (pc := 22) (K := 6) (N := 2) (N2 := 3) (c2 := 3) (s2 := 17) dX1_init_22 (by rfl) (by decide) (by rfl) rfl rfl rfl ⟨by exact Nat.le_of_ble_eq_true rfl, by exact Nat.le_of_ble_eq_true rfl⟩ ?_
  refine b_putF (pc := 24) pl_X1_18 rfl dX1_init_24 (by rfl) (by rfl) (by exact Nat.le_of_ble_eq_true rfl) ?_
  refine e_aload_n (pc := 27) dX1_init_27 rfl rfl ?_
  refine e_aload_n (pc := 28) dX1_init_28 rfl rfl ?_
  refine b_putF (pc := 29) pl_X1_21 rfl dX1_init_29 (by rfl) (by rfl) (by exact Nat.le_of_ble_eq_true rfl) ?_
  exact e_vret dX1_init_32 rfl ⟨by exact Nat.le_of_ble_eq_true rfl, by exact Nat.le_of_ble_eq_true rfl⟩ ⟨rfl, rfl, rfl⟩
def KX7 (j : Nat) : AE := if j = 4 then aZ 243 (fun _ => 0) else aI ([5, 5, 125, 243].getD j 0) (fun _ => 0)
theorem c_X7_init (o E F : Nat) : CK yX7_init MX7_init [.ref E, .ref F] 7 fzX7 [.ref E, .ref F, .ref (o + 1), .ref (o + 2), .ref (o + 3), .ref (o + 4), .ref (o + 5)] KX7 5 o := by
  refine CK.ofV (by decide) rfl rfl (by simp [Value.category]) (by exact Nat.le_of_ble_eq_true rfl) (fun h => ?_)
  refine e_aload_n (pc := 0) dX7_init_0 rfl rfl ?_
  refine e_objInit (pc := 1) q_m_X7_3 dX7_init_1 (by exact Nat.le_of_ble_eq_true rfl) (by exact Nat.le_of_ble_eq_true rfl) ?_
  refine e_aload_n (pc := 4) dX7_init_4 rfl rfl ?_
  refine n_iconst (pc := 5) 5 dX7_init_5 (by decide) ?_
  refine b_newI (pc := 6) (K := 5) (N := 0) (N2 := 1) (c2 := 1) (s2 := 5) dX7_init_6 (by rfl) (by decide) (by rfl) rfl rfl rfl ⟨by exact Nat.le_of_ble_eq_true rfl, by exact Nat.le_of_ble_eq_true rfl⟩ ?_
  refine b_putF (pc := 8) pl_X7_9 rfl dX7_init_8 (by rfl) (by rfl) (by exact Nat.le_of_ble_eq_true rfl) ?_
  refine e_aload_n (pc := 11) dX7_init_11 rfl rfl ?_
  refine n_iconst (pc := 12) 5 dX7_init_12 (by decide) ?_
  refine b_newI (pc := 13) (K := 5) (N := 1) (N2 := 2) (c2 := 2) (s2 := 10) dX7_init_13 (by rfl) (by decide) (by rfl) rfl rfl rfl ⟨by exact Nat.le_of_ble_eq_true rfl, by exact Nat.le_of_ble_eq_true rfl⟩ ?_
  refine b_putF (pc := 15) pl_X7_15 rfl dX7_init_15 (by rfl) (by rfl) (by exact Nat.le_of_ble_eq_true rfl) ?_
  refine e_aload_n (pc := 18) dX7_init_18 rfl rfl ?_
  refine n_bipush (pc := 19) 125 dX7_init_19 (by decide) ?_
  refine b_newI (pc := 21) (K := 125) (N := 2) (N2 := 3) (c2 := 3) (s2 := 135) dX7_init_21 (by rfl) (by decide) (by rfl) rfl rfl rfl ⟨by exact Nat.le_of_ble_eq_true rfl, by exact Nat.le_of_ble_eq_true rfl⟩ ?_
  refine b_putF (pc := 23) pl_X7_18 rfl dX7_init_23 (by rfl) (by rfl) (by exact Nat.le_of_ble_eq_true rfl) ?_
  refine e_aload_n (pc := 26) dX7_init_26 rfl rfl ?_
  refine n_sipush (pc := 27) 243 dX7_init_27 (by decide) ?_
  refine b_newI (pc := 30) (K := 243) (N := 3) (N2 := 4) (c2 := 4) (s2 := 378) dX7_init_30 (by rfl) (by decide) (by rfl) rfl rfl rfl ⟨by exact Nat.le_of_ble_eq_true rfl, by exact Nat.le_of_ble_eq_true rfl⟩ ?_
  refine b_putF (pc := 32) pl_X7_21 rfl dX7_init_32 (by rfl) (by rfl) (by exact Nat.le_of_ble_eq_true rfl) ?_
  refine e_aload_n (pc := 35) dX7_init_35 rfl rfl ?_
  refine n_sipush (pc := 36) 243 dX7_init_36 (by decide) ?_
  refine b_newZ (pc := 39) (K := 243) (N := 4) (N2 := 5) (c2 := 5) (s2 := 621) dX7_init_39 (by rfl) (by decide) (by rfl) rfl rfl rfl ⟨by exact Nat.le_of_ble_eq_true rfl, by exact Nat.le_of_ble_eq_true rfl⟩ ?_
  refine b_putF (pc := 41) pl_X7_24 rfl dX7_init_41 (by rfl) (by rfl) (by exact Nat.le_of_ble_eq_true rfl) ?_
  refine e_aload_n (pc := 44) dX7_init_44 rfl rfl ?_
  refine e_aload_n (pc := 45) dX7_init_45 rfl rfl ?_
  refine b_putF (pc := 46) pl_X7_28 rfl dX7_init_46 (by rfl) (by rfl) (by exact Nat.le_of_ble_eq_true rfl) ?_
  refine e_aload_n (pc := 49) dX7_init_49 rfl rfl ?_
  refine e_aload_n (pc := 50) dX7_init_50 rfl rfl ?_
  refine b_putF (pc := 51) pl_X7_32 rfl dX7_init_51 (by rfl) (by rfl) (by exact Nat.le_of_ble_eq_true rfl) ?_
  exact e_vret dX7_init_54 rfl ⟨by exact Nat.le_of_ble_eq_true rfl, by exact Nat.le_of_ble_eq_true rfl⟩ ⟨rfl, rfl, rfl⟩
theorem c_X3_init (o S : Nat) : CK yX3_init MX3_init [.ref S] 3 fzX3 [.ref S] KX1 0 o := by
  refine CK.ofV (by decide) rfl rfl (by simp [Value.category]) (by exact Nat.le_of_ble_eq_true rfl) (fun h => ?_)
  refine e_aload_n (pc := 0) dX3_init_0 rfl rfl ?_
  refine e_objInit (pc := 1) q_m_X3_3 dX3_init_1 (by exact Nat.le_of_ble_eq_true rfl) (by exact Nat.le_of_ble_eq_true rfl) ?_
  refine e_aload_n (pc := 4) dX3_init_4 rfl rfl ?_
  refine e_aload_n (pc := 5) dX3_init_5 rfl rfl ?_
  refine b_putF (pc := 6) pl_X3_9 rfl dX3_init_6 (by rfl) (by rfl) (by exact Nat.le_of_ble_eq_true rfl) ?_
  exact e_vret dX3_init_9 rfl ⟨by exact Nat.le_of_ble_eq_true rfl, by exact Nat.le_of_ble_eq_true rfl⟩ ⟨rfl, rfl, rfl⟩
def KX5 (j : Nat) : AE := aI ([729, 729, 27, 27, 27, 27, 5, 5, 5, 25, 25, 5, 27].getD j 0) (fun _ => 0)
def fsS (B : Nat) : List Value := [.int (nI 2), .int (nI 1), .int (nI 2), .int (nI 0), .int (nI 0), .ref (B + 1), .ref (B + 2), .ref (B + 3), .ref (B + 4), .ref (B + 5), .ref (B + 6), .ref (B + 7), .ref (B + 8), .ref (B + 9), .ref (B + 10), .ref (B + 11), .ref (B + 12), .ref (B + 13)]
theorem c_X5_init (o : Nat) : CK yX5_init MX5_init [] 5 fzX5 (fsS o) KX5 13 o := by
  refine CK.ofV (by decide) rfl rfl (by simp [Value.category]) (by exact Nat.le_of_ble_eq_true rfl) (fun h => ?_)
  refine e_aload_n (pc := 0) dX5_init_0 rfl rfl ?_
  refine e_objInit (pc := 1) q_m_X5_3 dX5_init_1 (by exact Nat.le_of_ble_eq_true rfl) (by exact Nat.le_of_ble_eq_true rfl) ?_
  refine e_aload_n (pc := 4) dX5_init_4 rfl rfl ?_
  refine n_iconst (pc := 5) 2 dX5_init_5 (by decide) ?_
  refine b_put (pc := 6) pl_X5_9 dX5_init_6 (by rfl) (by rfl) (by exact Nat.le_of_ble_eq_true rfl) ?_
  refine e_aload_n (pc := 9) dX5_init_9 rfl rfl ?_
  refine n_iconst (pc := 10) 1 dX5_init_10 (by decide) ?_
  refine b_put (pc := 11) pl_X5_15 dX5_init_11 (by rfl) (by rfl) (by exact Nat.le_of_ble_eq_true rfl) ?_
  refine e_aload_n (pc := 14) dX5_init_14 rfl rfl ?_
  refine n_iconst (pc := 15) 2 dX5_init_15 (by decide) ?_
  refine b_put (pc := 16) pl_X5_18 dX5_init_16 (by rfl) (by rfl) (by exact Nat.le_of_ble_eq_true rfl) ?_
  refine e_aload_n (pc := 19) dX5_init_19 rfl rfl ?_
  refine n_iconst (pc := 20) 0 dX5_init_20 (by decide) ?_
  refine b_put (pc := 21) pl_X5_21 dX5_init_21 (by rfl) (by rfl) (by exact Nat.le_of_ble_eq_true rfl) ?_
  refine e_aload_n (pc := 24) dX5_init_24 rfl rfl ?_
  refine n_iconst (pc := 25) 0 dX5_init_25 (by decide) ?_
  refine b_put (pc := 26) pl_X5_24 dX5_init_26 (by rfl) (by rfl) (by exact Nat.le_of_ble_eq_true rfl) ?_
  refine e_aload_n (pc := 29) dX5_init_29 rfl rfl ?_
  refine n_sipush (pc := 30) 729 dX5_init_30 (by decide) ?_
  refine b_newI (pc := 33) (K := 729) (N := 0) (N2 := 1) (c2 := 1) (s2 := 729) dX5_init_33 (by rfl) (by decide) (by rfl) rfl rfl rfl ⟨by exact Nat.le_of_ble_eq_true rfl, by exact Nat.le_of_ble_eq_true rfl⟩ ?_
  refine b_putF (pc := 35) pl_X5_27 rfl dX5_init_35 (by rfl) (by rfl) (by exact Nat.le_of_ble_eq_true rfl) ?_
  refine e_aload_n (pc := 38) dX5_init_38 rfl rfl ?_
  refine n_sipush (pc := 39) 729 dX5_init_39 (by decide) ?_
  refine b_newI (pc := 42) (K := 729) (N := 1) (N2 := 2) (c2 := 2) (s2 := 1458) dX5_init_42 (by rfl) (by decide) (by rfl) rfl rfl rfl ⟨by exact Nat.le_of_ble_eq_true rfl, by exact Nat.le_of_ble_eq_true rfl⟩ ?_
  refine b_putF (pc := 44) pl_X5_31 rfl dX5_init_44 (by rfl) (by rfl) (by exact Nat.le_of_ble_eq_true rfl) ?_
  refine e_aload_n (pc := 47) dX5_init_47 rfl rfl ?_
  refine n_bipush (pc := 48) 27 dX5_init_48 (by decide) ?_
  refine b_newI (pc := 50) (K := 27) (N := 2) (N2 := 3) (c2 := 3) (s2 := 1485) dX5_init_50 (by rfl) (by decide) (by rfl) rfl rfl rfl ⟨by exact Nat.le_of_ble_eq_true rfl, by exact Nat.le_of_ble_eq_true rfl⟩ ?_
  refine b_putF (pc := 52) pl_X5_34 rfl dX5_init_52 (by rfl) (by rfl) (by exact Nat.le_of_ble_eq_true rfl) ?_
  refine e_aload_n (pc := 55) dX5_init_55 rfl rfl ?_
  refine n_bipush (pc := 56) 27 dX5_init_56 (by decide) ?_
  refine b_newI (pc := 58) (K := 27) (N := 3) (N2 := 4) (c2 := 4) (s2 := 1512) dX5_init_58 (by rfl) (by decide) (by rfl) rfl rfl rfl ⟨by exact Nat.le_of_ble_eq_true rfl, by exact Nat.le_of_ble_eq_true rfl⟩ ?_
  refine b_putF (pc := 60) pl_X5_37 rfl dX5_init_60 (by rfl) (by rfl) (by exact Nat.le_of_ble_eq_true rfl) ?_
  refine e_aload_n (pc := 63) dX5_init_63 rfl rfl ?_
  refine n_bipush (pc := 64) 27 dX5_init_64 (by decide) ?_
  refine b_newI (pc := 66) (K := 27) (N := 4) (N2 := 5) (c2 := 5) (s2 := 1539) dX5_init_66 (by rfl) (by decide) (by rfl) rfl rfl rfl ⟨by exact Nat.le_of_ble_eq_true rfl, by exact Nat.le_of_ble_eq_true rfl⟩ ?_
  refine b_putF (pc := 68) pl_X5_40 rfl dX5_init_68 (by rfl) (by rfl) (by exact Nat.le_of_ble_eq_true rfl) ?_
  refine e_aload_n (pc := 71) dX5_init_71 rfl rfl ?_
  refine n_bipush (pc := 72) 27 dX5_init_72 (by decide) ?_
  refine b_newI (pc := 74) (K := 27) (N := 5) (N2 := 6) (c2 := 6) (s2 := 1566) dX5_init_74 (by rfl) (by decide) (by rfl) rfl rfl rfl ⟨by exact Nat.le_of_ble_eq_true rfl, by exact Nat.le_of_ble_eq_true rfl⟩ ?_
  refine b_putF (pc := 76) pl_X5_43 rfl dX5_init_76 (by rfl) (by rfl) (by exact Nat.le_of_ble_eq_true rfl) ?_
  refine e_aload_n (pc := 79) dX5_init_79 rfl rfl ?_
  refine n_iconst (pc := 80) 5 dX5_init_80 (by decide) ?_
  refine b_newI (pc := 81) (K := 5) (N := 6) (N2 := 7) (c2 := 7) (s2 := 1571) dX5_init_81 (by rfl) (by decide) (by rfl) rfl rfl rfl ⟨by exact Nat.le_of_ble_eq_true rfl, by exact Nat.le_of_ble_eq_true rfl⟩ ?_
  refine b_putF (pc := 83) pl_X5_46 rfl dX5_init_83 (by rfl) (by rfl) (by exact Nat.le_of_ble_eq_true rfl) ?_
  refine e_aload_n (pc := 86) dX5_init_86 rfl rfl ?_
  refine n_iconst (pc := 87) 5 dX5_init_87 (by decide) ?_
  refine b_newI (pc := 88) (K := 5) (N := 7) (N2 := 8) (c2 := 8) (s2 := 1576) dX5_init_88 (by rfl) (by decide) (by rfl) rfl rfl rfl ⟨by exact Nat.le_of_ble_eq_true rfl, by exact Nat.le_of_ble_eq_true rfl⟩ ?_
  refine b_putF (pc := 90) pl_X5_49 rfl dX5_init_90 (by rfl) (by rfl) (by exact Nat.le_of_ble_eq_true rfl) ?_
  refine e_aload_n (pc := 93) dX5_init_93 rfl rfl ?_
  refine n_iconst (pc := 94) 5 dX5_init_94 (by decide) ?_
  refine b_newI (pc := 95) (K := 5) (N := 8) (N2 := 9) (c2 := 9) (s2 := 1581) dX5_init_95 (by rfl) (by decide) (by rfl) rfl rfl rfl ⟨by exact Nat.le_of_ble_eq_true rfl, by exact Nat.le_of_ble_eq_true rfl⟩ ?_
  refine b_putF (pc := 97) pl_X5_52 rfl dX5_init_97 (by rfl) (by rfl) (by exact Nat.le_of_ble_eq_true rfl) ?_
  refine e_aload_n (pc := 100) dX5_init_100 rfl rfl ?_
  refine n_bipush (pc := 101) 25 dX5_init_101 (by decide) ?_
  refine b_newI (pc := 103) (K := 25) (N := 9) (N2 := 10) (c2 := 10) (s2 := 1606) dX5_init_103 (by rfl) (by decide) (by rfl) rfl rfl rfl ⟨by exact Nat.le_of_ble_eq_true rfl, by exact Nat.le_of_ble_eq_true rfl⟩ ?_
  refine b_putF (pc := 105) pl_X5_55 rfl dX5_init_105 (by rfl) (by rfl) (by exact Nat.le_of_ble_eq_true rfl) ?_
  refine e_aload_n (pc := 108) dX5_init_108 rfl rfl ?_
  refine n_bipush (pc := 109) 25 dX5_init_109 (by decide) ?_
  refine b_newI (pc := 111) (K := 25) (N := 10) (N2 := 11) (c2 := 11) (s2 := 1631) dX5_init_111 (by rfl) (by decide) (by rfl) rfl rfl rfl ⟨by exact Nat.le_of_ble_eq_true rfl, by exact Nat.le_of_ble_eq_true rfl⟩ ?_
  refine b_putF (pc := 113) pl_X5_58 rfl dX5_init_113 (by rfl) (by rfl) (by exact Nat.le_of_ble_eq_true rfl) ?_
  refine e_aload_n (pc := 116) dX5_init_116 rfl rfl ?_
  refine n_iconst (pc := 117) 5 dX5_init_117 (by decide) ?_
  refine b_newI (pc := 118) (K := 5) (N := 11) (N2 := 12) (c2 := 12) (s2 := 1636) dX5_init_118 (by rfl) (by decide) (by rfl) rfl rfl rfl ⟨by exact Nat.le_of_ble_eq_true rfl, by exact Nat.le_of_ble_eq_true rfl⟩ ?_
  refine b_putF (pc := 120) pl_X5_61 rfl dX5_init_120 (by rfl) (by rfl) (by exact Nat.le_of_ble_eq_true rfl) ?_
  refine e_aload_n (pc := 123) dX5_init_123 rfl rfl ?_
  refine n_bipush (pc := 124) 27 dX5_init_124 (by decide) ?_
  refine b_newI (pc := 126) (K := 27) (N := 12) (N2 := 13) (c2 := 13) (s2 := 1663) dX5_init_126 (by rfl) (by decide) (by rfl) rfl rfl rfl ⟨by exact Nat.le_of_ble_eq_true rfl, by exact Nat.le_of_ble_eq_true rfl⟩ ?_
  refine b_putF (pc := 128) pl_X5_64 rfl dX5_init_128 (by rfl) (by rfl) (by exact Nat.le_of_ble_eq_true rfl) ?_
  exact e_vret dX5_init_131 rfl ⟨by exact Nat.le_of_ble_eq_true rfl, by exact Nat.le_of_ble_eq_true rfl⟩ ⟨rfl, rfl, rfl⟩
