/-! ===== the class's constructor ===== -/
def KS (S j : Nat) : AE := if j = 0 then ob 6 (fs6 S) else KX6 S 6 20 15 (j - 1)
def KR (R j : Nat) : AE := if j = 0 then ob 4 (fsR R) else KX4 R (j - 1)
def KE (E j : Nat) : AE := if j = 0 then ob 0 (fsE E) else KX0 E (j - 1)
/-- what stands behind an Echelon at E: forms, study, plane, search, lists, draft -/
def KG (E j : Nat) : AE := if j = 79 then ob 1 [.ref E, .ref (E + 80), .ref (E + 81), .ref (E + 82)] else if j < 83 then KX1 (j - 80) else if j = 83 then ob 7 [.ref E, .ref (E + 79), .ref (E + 84), .ref (E + 85), .ref (E + 86), .ref (E + 87), .ref (E + 88)] else if j < 89 then KX7 (j - 84) else if j = 89 then ob 3 [.ref (E + 83)] else if j = 90 then ob 5 (fsS (E + 90)) else if j < 104 then KX5 (j - 91) else if j = 104 then ob 2 [.ref (E + 83), .ref (E + 105), .ref (E + 108), .ref (E + 109), .ref (E + 114)] else if j < 119 then KX2 (E + 104) (j - 105) else KW (E + 119) (j - 119)
def KX10 (o j : Nat) : AE := if j < 83 then KS (o + 1) j else if j < 166 then KS (o + 84) (j - 83) else if j < 180 then KR (o + 167) (j - 166) else if j < 259 then KE (o + 181) (j - 180) else KG (o + 181) (j - 180)
def fs10 (o : Nat) : List Value := [.ref (o + 1), .ref (o + 84), .int (nI 0), .ref (o + 167), .ref (o + 181), .ref (o + 181 + 79), .ref (o + 181 + 83), .ref (o + 181 + 89), .ref (o + 181 + 90), .ref (o + 181 + 104), .ref (o + 181 + 119)]
theorem k10a (o j : Nat) (hj : j < 82) : KX10 o (0 + 1 + j) = KX6 (o + 1 + 0) 6 20 15 j := by
  unfold KX10 KS
  rw [if_pos (by omega), if_neg (by omega), show 0 + 1 + j - 1 = j by omega]
theorem k10b (o j : Nat) (hj : j < 82) : KX10 o (83 + 1 + j) = KX6 (o + 1 + 83) 6 20 15 j := by
  unfold KX10 KS
  rw [if_neg (by omega), if_pos (by omega), if_neg (by omega), show 83 + 1 + j - 83 - 1 = j by omega, show o + 1 + 83 = o + 84 by omega]
theorem k10c (o j : Nat) (hj : j < 13) : KX10 o (166 + 1 + j) = KX4 (o + 1 + 166) j := by
  unfold KX10 KR
  rw [if_neg (by omega), if_neg (by omega), if_pos (by omega), if_neg (by omega), show 166 + 1 + j - 166 - 1 = j by omega, show o + 1 + 166 = o + 167 by omega]
theorem k10d (o j : Nat) (hj : j < 78) : KX10 o (180 + 1 + j) = KX0 (o + 1 + 180) j := by
  unfold KX10 KE
  rw [if_neg (by omega), if_neg (by omega), if_neg (by omega), if_pos (by omega), if_neg (by omega), show 180 + 1 + j - 180 - 1 = j by omega, show o + 1 + 180 = o + 181 by omega]
theorem k10g (o j : Nat) (hj : 259 ≤ j) : KX10 o j = KG (o + 181) (j - 180) := by
  unfold KX10
  rw [if_neg (by omega), if_neg (by omega), if_neg (by omega), if_neg (by omega)]
theorem k10h (o j : Nat) (hj : j < 5) : KX10 o (263 + 1 + j) = KX7 j := by
  rw [k10g _ _ (by omega)]
  unfold KG
  rw [if_neg (by omega), if_neg (by omega), if_neg (by omega), if_pos (by omega), show 263 + 1 + j - 180 - 84 = j by omega]
theorem k10f (o j : Nat) (hj : j < 3) : KX10 o (259 + 1 + j) = KX1 j := by
  rw [k10g _ _ (by omega)]
  unfold KG
  rw [if_neg (by omega), if_pos (by omega), show 259 + 1 + j - 180 - 80 = j by omega]
theorem k10i (o j : Nat) (hj : j < 13) : KX10 o (270 + 1 + j) = KX5 j := by
  rw [k10g _ _ (by omega)]
  unfold KG
  rw [if_neg (by omega), if_neg (by omega), if_neg (by omega), if_neg (by omega), if_neg (by omega), if_neg (by omega), if_pos (by omega), show 270 + 1 + j - 180 - 91 = j by omega]
theorem k10l (o j : Nat) (hj : j < 14) : KX10 o (284 + 1 + j) = KX2 (o + 1 + 284) j := by
  rw [k10g _ _ (by omega)]
  unfold KG
  rw [if_neg (by omega), if_neg (by omega), if_neg (by omega), if_neg (by omega), if_neg (by omega), if_neg (by omega), if_neg (by omega), if_neg (by omega), if_pos (by omega), show 284 + 1 + j - 180 - 105 = j by omega, show o + 181 + 104 = o + 1 + 284 by omega]
theorem c_X10_init (o : Nat) : CK yX10_init MX10_init [] 9 fzX10 (fs10 o) (KX10 o) 302 o := by
  refine CK.ofV (by decide) rfl rfl (by simp [Value.category]) (by exact Nat.le_of_ble_eq_true rfl) (fun h => ?_)
  refine e_aload_n (pc := 0) dX10_init_0 rfl rfl ?_
  refine e_objInit (pc := 1) q_m_X10_1 dX10_init_1 (by exact Nat.le_of_ble_eq_true rfl) (by exact Nat.le_of_ble_eq_true rfl) ?_
  refine e_aload_n (pc := 4) dX10_init_4 rfl rfl ?_
  refine b_new (pc := 5) (N := 0) (c2 := 1) (s2 := 6) nw_X10_7 dX10_init_5 rfl rfl ⟨by exact Nat.le_of_ble_eq_true rfl, by exact Nat.le_of_ble_eq_true rfl⟩ ?_
  refine e_dup (pc := 8) dX10_init_8 rfl ?_
  refine b_ctor (pc := 9) (N := 0) (N2 := 82) (N3 := 83) (c2 := 83) (s2 := 3603) (c_X6_init _) bX6_init rfl rfl q_i_X6_init q_m_X10_9 dX10_init_9 rfl (by exact Nat.le_of_ble_eq_true rfl) ⟨by decide, by decide⟩ ⟨by exact Nat.le_of_ble_eq_true rfl, by exact Nat.le_of_ble_eq_true rfl⟩ rfl rfl rfl (by rfl) (k10a o) ?_
  refine b_putF (pc := 12) pl_X10_10 rfl dX10_init_12 (by rfl) (by rfl) (by exact Nat.le_of_ble_eq_true rfl) ?_
  refine e_aload_n (pc := 15) dX10_init_15 rfl rfl ?_
  refine b_new (pc := 16) (N := 83) (c2 := 84) (s2 := 3609) nw_X10_7 dX10_init_16 rfl rfl ⟨by exact Nat.le_of_ble_eq_true rfl, by exact Nat.le_of_ble_eq_true rfl⟩ ?_
  refine e_dup (pc := 19) dX10_init_19 rfl ?_
  refine b_ctor (pc := 20) (N := 83) (N2 := 82) (N3 := 166) (c2 := 166) (s2 := 7206) (c_X6_init _) bX6_init rfl rfl q_i_X6_init q_m_X10_9 dX10_init_20 rfl (by exact Nat.le_of_ble_eq_true rfl) ⟨by decide, by decide⟩ ⟨by exact Nat.le_of_ble_eq_true rfl, by exact Nat.le_of_ble_eq_true rfl⟩ rfl rfl rfl (by rfl) (k10b o) ?_
  refine b_putF (pc := 23) pl_X10_16 rfl dX10_init_23 (by rfl) (by rfl) (by exact Nat.le_of_ble_eq_true rfl) ?_
  refine e_aload_n (pc := 26) dX10_init_26 rfl rfl ?_
  refine n_iconst (pc := 27) 0 dX10_init_27 (by decide) ?_
  refine b_put (pc := 28) pl_X10_19 dX10_init_28 (by rfl) (by rfl) (by exact Nat.le_of_ble_eq_true rfl) ?_
  refine e_aload_n (pc := 31) dX10_init_31 rfl rfl ?_
  refine b_new (pc := 32) (N := 166) (c2 := 167) (s2 := 7222) nw_X10_23 dX10_init_32 rfl rfl ⟨by exact Nat.le_of_ble_eq_true rfl, by exact Nat.le_of_ble_eq_true rfl⟩ ?_
  refine e_dup (pc := 35) dX10_init_35 rfl ?_
  refine b_ctorN (pc := 36) (N := 166) (N2 := 13) (N3 := 180) (c2 := 180) (s2 := 8245) (c_X4_init _) bX4_init rfl rfl q_i_X4_init (host := "NeedNotJoin") (by decide) dX10_init_36 rfl (by exact Nat.le_of_ble_eq_true rfl) ⟨by decide, by decide⟩ ⟨by exact Nat.le_of_ble_eq_true rfl, by exact Nat.le_of_ble_eq_true rfl⟩ rfl rfl rfl (by rfl) (k10c o) ?_
  refine b_putF (pc := 39) pl_X10_26 rfl dX10_init_39 (by rfl) (by rfl) (by exact Nat.le_of_ble_eq_true rfl) ?_
  refine e_aload_n (pc := 42) dX10_init_42 rfl rfl ?_
  refine b_new (pc := 43) (N := 180) (c2 := 181) (s2 := 8251) nw_X10_30 dX10_init_43 rfl rfl ⟨by exact Nat.le_of_ble_eq_true rfl, by exact Nat.le_of_ble_eq_true rfl⟩ ?_
  refine e_dup (pc := 46) dX10_init_46 rfl ?_
  refine b_ctorN (pc := 47) (N := 180) (N2 := 78) (N3 := 259) (c2 := 259) (s2 := 14101) (c_X0_init _) bX0_init rfl rfl q_i_X0_init (host := "NeedNotJoin") (by decide) dX10_init_47 rfl (by exact Nat.le_of_ble_eq_true rfl) ⟨by decide, by decide⟩ ⟨by exact Nat.le_of_ble_eq_true rfl, by exact Nat.le_of_ble_eq_true rfl⟩ rfl rfl rfl (by rfl) (k10d o) ?_
  refine b_putF (pc := 50) pl_X10_33 rfl dX10_init_50 (by rfl) (by rfl) (by exact Nat.le_of_ble_eq_true rfl) ?_
  refine e_aload_n (pc := 53) dX10_init_53 rfl rfl ?_
  refine b_new (pc := 54) (N := 259) (c2 := 260) (s2 := 14105) nw_X10_37 dX10_init_54 rfl rfl ⟨by exact Nat.le_of_ble_eq_true rfl, by exact Nat.le_of_ble_eq_true rfl⟩ ?_
  refine e_dup (pc := 57) dX10_init_57 rfl ?_
  refine e_aload_n (pc := 58) dX10_init_58 rfl rfl ?_
  refine e_get (pc := 59) fl_X10_33 dX10_init_59 (by first | exact bk_o | (rw [hset_ne _ _ (by omega)]; exact bk_o)) (by rfl) ?_
  refine b_ctor (pc := 62) (N := 259) (N2 := 3) (N3 := 263) (c2 := 263) (s2 := 14122) (c_X1_init _ (o + 1 + 180)) bX1_init rfl rfl q_i_X1_init q_m_X10_39 dX10_init_62 rfl (by exact Nat.le_of_ble_eq_true rfl) ⟨by decide, by decide⟩ ⟨by exact Nat.le_of_ble_eq_true rfl, by exact Nat.le_of_ble_eq_true rfl⟩ rfl rfl rfl (by rfl) (k10f o) ?_
  refine b_putF (pc := 65) pl_X10_42 rfl dX10_init_65 (by rfl) (by rfl) (by exact Nat.le_of_ble_eq_true rfl) ?_
  refine e_aload_n (pc := 68) dX10_init_68 rfl rfl ?_
  refine b_new (pc := 69) (N := 263) (c2 := 264) (s2 := 14129) nw_X10_46 dX10_init_69 rfl rfl ⟨by exact Nat.le_of_ble_eq_true rfl, by exact Nat.le_of_ble_eq_true rfl⟩ ?_
  refine e_dup (pc := 72) dX10_init_72 rfl ?_
  refine e_aload_n (pc := 73) dX10_init_73 rfl rfl ?_
  refine e_get (pc := 74) fl_X10_33 dX10_init_74 (by first | exact bk_o | (rw [hset_ne _ _ (by omega)]; exact bk_o)) (by rfl) ?_
  refine e_aload_n (pc := 77) dX10_init_77 rfl rfl ?_
  refine e_get (pc := 78) fl_X10_42 dX10_init_78 (by first | exact bk_o | (rw [hset_ne _ _ (by omega)]; exact bk_o)) (by rfl) ?_
  refine b_ctor (pc := 81) (N := 263) (N2 := 5) (N3 := 269) (c2 := 269) (s2 := 14750) (c_X7_init _ (o + 1 + 180) (o + 1 + 259)) bX7_init rfl rfl q_i_X7_init q_m_X10_48 dX10_init_81 rfl (by exact Nat.le_of_ble_eq_true rfl) ⟨by decide, by decide⟩ ⟨by exact Nat.le_of_ble_eq_true rfl, by exact Nat.le_of_ble_eq_true rfl⟩ rfl rfl rfl (by rfl) (k10h o) ?_
  refine b_putF (pc := 84) pl_X10_51 rfl dX10_init_84 (by rfl) (by rfl) (by exact Nat.le_of_ble_eq_true rfl) ?_
  refine e_aload_n (pc := 87) dX10_init_87 rfl rfl ?_
  refine b_new (pc := 88) (N := 269) (c2 := 270) (s2 := 14751) nw_X10_55 dX10_init_88 rfl rfl ⟨by exact Nat.le_of_ble_eq_true rfl, by exact Nat.le_of_ble_eq_true rfl⟩ ?_
  refine e_dup (pc := 91) dX10_init_91 rfl ?_
  refine e_aload_n (pc := 92) dX10_init_92 rfl rfl ?_
  refine e_get (pc := 93) fl_X10_51 dX10_init_93 (by first | exact bk_o | (rw [hset_ne _ _ (by omega)]; exact bk_o)) (by rfl) ?_
  refine b_ctor (pc := 96) (N := 269) (N2 := 0) (N3 := 270) (c2 := 270) (s2 := 14751) (c_X3_init _ (o + 1 + 263)) bX3_init rfl rfl q_i_X3_init q_m_X10_57 dX10_init_96 rfl (by exact Nat.le_of_ble_eq_true rfl) ⟨by decide, by decide⟩ ⟨by exact Nat.le_of_ble_eq_true rfl, by exact Nat.le_of_ble_eq_true rfl⟩ rfl rfl rfl (by rfl) (fun j hj => absurd hj (by omega)) ?_
  refine b_putF (pc := 99) pl_X10_60 rfl dX10_init_99 (by rfl) (by rfl) (by exact Nat.le_of_ble_eq_true rfl) ?_
  refine e_aload_n (pc := 102) dX10_init_102 rfl rfl ?_
  refine b_new (pc := 103) (N := 270) (c2 := 271) (s2 := 14769) nw_X10_64 dX10_init_103 rfl rfl ⟨by exact Nat.le_of_ble_eq_true rfl, by exact Nat.le_of_ble_eq_true rfl⟩ ?_
  refine e_dup (pc := 106) dX10_init_106 rfl ?_
  refine b_ctorN (pc := 107) (N := 270) (N2 := 13) (N3 := 284) (c2 := 284) (s2 := 16432) (c_X5_init _) bX5_init rfl rfl q_i_X5_init (host := "NeedNotJoin") (by decide) dX10_init_107 rfl (by exact Nat.le_of_ble_eq_true rfl) ⟨by decide, by decide⟩ ⟨by exact Nat.le_of_ble_eq_true rfl, by exact Nat.le_of_ble_eq_true rfl⟩ rfl rfl rfl (by rfl) (k10i o) ?_
  refine b_putF (pc := 110) pl_X10_67 rfl dX10_init_110 (by rfl) (by rfl) (by exact Nat.le_of_ble_eq_true rfl) ?_
  refine e_aload_n (pc := 113) dX10_init_113 rfl rfl ?_
  refine b_new (pc := 114) (N := 284) (c2 := 285) (s2 := 16437) nw_X10_71 dX10_init_114 rfl rfl ⟨by exact Nat.le_of_ble_eq_true rfl, by exact Nat.le_of_ble_eq_true rfl⟩ ?_
  refine e_dup (pc := 117) dX10_init_117 rfl ?_
  refine e_aload_n (pc := 118) dX10_init_118 rfl rfl ?_
  refine e_get (pc := 119) fl_X10_51 dX10_init_119 (by first | exact bk_o | (rw [hset_ne _ _ (by omega)]; exact bk_o)) (by rfl) ?_
  refine b_ctor (pc := 122) (N := 284) (N2 := 14) (N3 := 299) (c2 := 299) (s2 := 16725) (c_X2_init _ (o + 1 + 263)) bX2_init rfl rfl q_i_X2_init q_m_X10_73 dX10_init_122 rfl (by exact Nat.le_of_ble_eq_true rfl) ⟨by decide, by decide⟩ ⟨by exact Nat.le_of_ble_eq_true rfl, by exact Nat.le_of_ble_eq_true rfl⟩ rfl rfl rfl (by rfl) (k10l o) ?_
  refine b_putF (pc := 125) pl_X10_74 rfl dX10_init_125 (by rfl) (by rfl) (by exact Nat.le_of_ble_eq_true rfl) ?_
  refine e_aload_n (pc := 128) dX10_init_128 rfl rfl ?_
  refine b_new (pc := 129) (N := 299) (c2 := 300) (s2 := 16731) nw_X10_78 dX10_init_129 rfl rfl ⟨by exact Nat.le_of_ble_eq_true rfl, by exact Nat.le_of_ble_eq_true rfl⟩ ?_
  refine e_dup (pc := 132) dX10_init_132 rfl ?_
  refine b_ctorN (pc := 133) (N := 299) (N2 := 2) (N3 := 302) (c2 := 302) (s2 := 16861) (c_X9_init _) bX9_init rfl rfl q_i_X9_init (host := "NeedNotJoin") (by decide) dX10_init_133 rfl (by exact Nat.le_of_ble_eq_true rfl) ⟨by decide, by decide⟩ ⟨by exact Nat.le_of_ble_eq_true rfl, by exact Nat.le_of_ble_eq_true rfl⟩ rfl rfl rfl (by rfl) (by intro j hj; match j, hj with | 0, _ => rfl | 1, _ => rfl) ?_
  refine b_putF (pc := 136) pl_X10_81 rfl dX10_init_136 (by rfl) (by rfl) (by exact Nat.le_of_ble_eq_true rfl) ?_
  exact e_vret dX10_init_139 rfl ⟨by exact Nat.le_of_ble_eq_true rfl, by exact Nat.le_of_ble_eq_true rfl⟩ ⟨rfl, rfl, rfl⟩
