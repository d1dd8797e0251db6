section LE2
variable {ro : RT} {h : AH} {zq : Nat}
theorem c_L_SIZES : CnS ro yL_SIZES ML_SIZES [] zq h (fun r h' z => r = some (.ref zq) ∧ z = zq + 10 ∧ SzL h' zq ∧ ∀ q, q < zq → h' q = h q) := by
  refine CnS.ofVS (by decide) rfl (fun q => by cases q) (by simp [Value.category]) (by exact Nat.le_of_ble_eq_true rfl) ?_
  refine zn_bipush (pc := 0) 9 dL_SIZES_0 (by decide) ?_
  refine ze_newGr (pc := 2) (N := 9) q_cl_L_42 dL_SIZES_2 rfl (by omega) ⟨by exact Nat.le_of_ble_eq_true rfl, by exact Nat.le_of_ble_eq_true rfl⟩ ?_
  dsimp only
  refine ze_dup (pc := 5) dL_SIZES_5 rfl ?_
  refine zn_iconst (pc := 6) 0 dL_SIZES_6 (by decide) ?_
  refine zn_iconst (pc := 7) 2 dL_SIZES_7 (by decide) ?_
  refine ze_newI (pc := 8) dL_SIZES_8 rfl (by omega) ⟨by exact Nat.le_of_ble_eq_true rfl, by exact Nat.le_of_ble_eq_true rfl⟩ ?_
  dsimp only
  refine ze_dup (pc := 10) dL_SIZES_10 rfl ?_
  refine zn_iconst (pc := 11) 0 dL_SIZES_11 (by decide) ?_
  refine zn_iconst (pc := 12) 2 dL_SIZES_12 (by decide) ?_
  refine ze_iastN (pc := 13) (0) dL_SIZES_13 (by repeat (first | assumption | exact hset_eq _ _ _ | rw [hset_ne _ _ (by omega)])) (by rfl) (by omega) (by first | decide | omega) ?_
  rw [hset_hset]
  refine ze_dup (pc := 14) dL_SIZES_14 rfl ?_
  refine zn_iconst (pc := 15) 1 dL_SIZES_15 (by decide) ?_
  refine zn_iconst (pc := 16) 2 dL_SIZES_16 (by decide) ?_
  refine ze_iastN (pc := 17) (1) dL_SIZES_17 (by repeat (first | assumption | exact hset_eq _ _ _ | rw [hset_ne _ _ (by omega)])) (by rfl) (by omega) (by first | decide | omega) ?_
  rw [hset_hset]
  refine ze_aastG (pc := 18) (n := 9) (n2 := 2) 0 dL_SIZES_18 (by repeat (first | exact hset_eq _ _ _ | rw [hset_ne _ _ (by omega)])) (hset_eq _ _ _) rfl (by omega) (by omega) ?_
  refine ze_dup (pc := 19) dL_SIZES_19 rfl ?_
  refine zn_iconst (pc := 20) 1 dL_SIZES_20 (by decide) ?_
  refine zn_iconst (pc := 21) 2 dL_SIZES_21 (by decide) ?_
  refine ze_newI (pc := 22) dL_SIZES_22 rfl (by omega) ⟨by exact Nat.le_of_ble_eq_true rfl, by exact Nat.le_of_ble_eq_true rfl⟩ ?_
  dsimp only
  refine ze_dup (pc := 24) dL_SIZES_24 rfl ?_
  refine zn_iconst (pc := 25) 0 dL_SIZES_25 (by decide) ?_
  refine zn_iconst (pc := 26) 2 dL_SIZES_26 (by decide) ?_
  refine ze_iastN (pc := 27) (0) dL_SIZES_27 (by repeat (first | assumption | exact hset_eq _ _ _ | rw [hset_ne _ _ (by omega)])) (by rfl) (by omega) (by first | decide | omega) ?_
  rw [hset_hset]
  refine ze_dup (pc := 28) dL_SIZES_28 rfl ?_
  refine zn_iconst (pc := 29) 1 dL_SIZES_29 (by decide) ?_
  refine zn_iconst (pc := 30) 3 dL_SIZES_30 (by decide) ?_
  refine ze_iastN (pc := 31) (1) dL_SIZES_31 (by repeat (first | assumption | exact hset_eq _ _ _ | rw [hset_ne _ _ (by omega)])) (by rfl) (by omega) (by first | decide | omega) ?_
  rw [hset_hset]
  refine ze_aastG (pc := 32) (n := 9) (n2 := 2) 1 dL_SIZES_32 (by repeat (first | exact hset_eq _ _ _ | rw [hset_ne _ _ (by omega)])) (hset_eq _ _ _) rfl (by omega) (by omega) ?_
  refine ze_dup (pc := 33) dL_SIZES_33 rfl ?_
  refine zn_iconst (pc := 34) 2 dL_SIZES_34 (by decide) ?_
  refine zn_iconst (pc := 35) 2 dL_SIZES_35 (by decide) ?_
  refine ze_newI (pc := 36) dL_SIZES_36 rfl (by omega) ⟨by exact Nat.le_of_ble_eq_true rfl, by exact Nat.le_of_ble_eq_true rfl⟩ ?_
  dsimp only
  refine ze_dup (pc := 38) dL_SIZES_38 rfl ?_
  refine zn_iconst (pc := 39) 0 dL_SIZES_39 (by decide) ?_
  refine zn_iconst (pc := 40) 3 dL_SIZES_40 (by decide) ?_
  refine ze_iastN (pc := 41) (0) dL_SIZES_41 (by repeat (first | assumption | exact hset_eq _ _ _ | rw [hset_ne _ _ (by omega)])) (by rfl) (by omega) (by first | decide | omega) ?_
  rw [hset_hset]
  refine ze_dup (pc := 42) dL_SIZES_42 rfl ?_
  refine zn_iconst (pc := 43) 1 dL_SIZES_43 (by decide) ?_
  refine zn_iconst (pc := 44) 2 dL_SIZES_44 (by decide) ?_
  refine ze_iastN (pc := 45) (1) dL_SIZES_45 (by repeat (first | assumption | exact hset_eq _ _ _ | rw [hset_ne _ _ (by omega)])) (by rfl) (by omega) (by first | decide | omega) ?_
  rw [hset_hset]
  refine ze_aastG (pc := 46) (n := 9) (n2 := 2) 2 dL_SIZES_46 (by repeat (first | exact hset_eq _ _ _ | rw [hset_ne _ _ (by omega)])) (hset_eq _ _ _) rfl (by omega) (by omega) ?_
  refine ze_dup (pc := 47) dL_SIZES_47 rfl ?_
  refine zn_iconst (pc := 48) 3 dL_SIZES_48 (by decide) ?_
  refine zn_iconst (pc := 49) 2 dL_SIZES_49 (by decide) ?_
  refine ze_newI (pc := 50) dL_SIZES_50 rfl (by omega) ⟨by exact Nat.le_of_ble_eq_true rfl, by exact Nat.le_of_ble_eq_true rfl⟩ ?_
  dsimp only
  refine ze_dup (pc := 52) dL_SIZES_52 rfl ?_
  refine zn_iconst (pc := 53) 0 dL_SIZES_53 (by decide) ?_
  refine zn_iconst (pc := 54) 3 dL_SIZES_54 (by decide) ?_
  refine ze_iastN (pc := 55) (0) dL_SIZES_55 (by repeat (first | assumption | exact hset_eq _ _ _ | rw [hset_ne _ _ (by omega)])) (by rfl) (by omega) (by first | decide | omega) ?_
  rw [hset_hset]
  refine ze_dup (pc := 56) dL_SIZES_56 rfl ?_
  refine zn_iconst (pc := 57) 1 dL_SIZES_57 (by decide) ?_
  refine zn_iconst (pc := 58) 3 dL_SIZES_58 (by decide) ?_
  refine ze_iastN (pc := 59) (1) dL_SIZES_59 (by repeat (first | assumption | exact hset_eq _ _ _ | rw [hset_ne _ _ (by omega)])) (by rfl) (by omega) (by first | decide | omega) ?_
  rw [hset_hset]
  refine ze_aastG (pc := 60) (n := 9) (n2 := 2) 3 dL_SIZES_60 (by repeat (first | exact hset_eq _ _ _ | rw [hset_ne _ _ (by omega)])) (hset_eq _ _ _) rfl (by omega) (by omega) ?_
  refine ze_dup (pc := 61) dL_SIZES_61 rfl ?_
  refine zn_iconst (pc := 62) 4 dL_SIZES_62 (by decide) ?_
  refine zn_iconst (pc := 63) 2 dL_SIZES_63 (by decide) ?_
  refine ze_newI (pc := 64) dL_SIZES_64 rfl (by omega) ⟨by exact Nat.le_of_ble_eq_true rfl, by exact Nat.le_of_ble_eq_true rfl⟩ ?_
  dsimp only
  refine ze_dup (pc := 66) dL_SIZES_66 rfl ?_
  refine zn_iconst (pc := 67) 0 dL_SIZES_67 (by decide) ?_
  refine zn_iconst (pc := 68) 5 dL_SIZES_68 (by decide) ?_
  refine ze_iastN (pc := 69) (0) dL_SIZES_69 (by repeat (first | assumption | exact hset_eq _ _ _ | rw [hset_ne _ _ (by omega)])) (by rfl) (by omega) (by first | decide | omega) ?_
  rw [hset_hset]
  refine ze_dup (pc := 70) dL_SIZES_70 rfl ?_
  refine zn_iconst (pc := 71) 1 dL_SIZES_71 (by decide) ?_
  refine zn_iconst (pc := 72) 2 dL_SIZES_72 (by decide) ?_
  refine ze_iastN (pc := 73) (1) dL_SIZES_73 (by repeat (first | assumption | exact hset_eq _ _ _ | rw [hset_ne _ _ (by omega)])) (by rfl) (by omega) (by first | decide | omega) ?_
  rw [hset_hset]
  refine ze_aastG (pc := 74) (n := 9) (n2 := 2) 4 dL_SIZES_74 (by repeat (first | exact hset_eq _ _ _ | rw [hset_ne _ _ (by omega)])) (hset_eq _ _ _) rfl (by omega) (by omega) ?_
  refine ze_dup (pc := 75) dL_SIZES_75 rfl ?_
  refine zn_iconst (pc := 76) 5 dL_SIZES_76 (by decide) ?_
  refine zn_iconst (pc := 77) 2 dL_SIZES_77 (by decide) ?_
  refine ze_newI (pc := 78) dL_SIZES_78 rfl (by omega) ⟨by exact Nat.le_of_ble_eq_true rfl, by exact Nat.le_of_ble_eq_true rfl⟩ ?_
  dsimp only
  refine ze_dup (pc := 80) dL_SIZES_80 rfl ?_
  refine zn_iconst (pc := 81) 0 dL_SIZES_81 (by decide) ?_
  refine zn_iconst (pc := 82) 2 dL_SIZES_82 (by decide) ?_
  refine ze_iastN (pc := 83) (0) dL_SIZES_83 (by repeat (first | assumption | exact hset_eq _ _ _ | rw [hset_ne _ _ (by omega)])) (by rfl) (by omega) (by first | decide | omega) ?_
  rw [hset_hset]
  refine ze_dup (pc := 84) dL_SIZES_84 rfl ?_
  refine zn_iconst (pc := 85) 1 dL_SIZES_85 (by decide) ?_
  refine zn_iconst (pc := 86) 4 dL_SIZES_86 (by decide) ?_
  refine ze_iastN (pc := 87) (1) dL_SIZES_87 (by repeat (first | assumption | exact hset_eq _ _ _ | rw [hset_ne _ _ (by omega)])) (by rfl) (by omega) (by first | decide | omega) ?_
  rw [hset_hset]
  refine ze_aastG (pc := 88) (n := 9) (n2 := 2) 5 dL_SIZES_88 (by repeat (first | exact hset_eq _ _ _ | rw [hset_ne _ _ (by omega)])) (hset_eq _ _ _) rfl (by omega) (by omega) ?_
  refine ze_dup (pc := 89) dL_SIZES_89 rfl ?_
  refine zn_bipush (pc := 90) 6 dL_SIZES_90 (by decide) ?_
  refine zn_iconst (pc := 92) 2 dL_SIZES_92 (by decide) ?_
  refine ze_newI (pc := 93) dL_SIZES_93 rfl (by omega) ⟨by exact Nat.le_of_ble_eq_true rfl, by exact Nat.le_of_ble_eq_true rfl⟩ ?_
  dsimp only
  refine ze_dup (pc := 95) dL_SIZES_95 rfl ?_
  refine zn_iconst (pc := 96) 0 dL_SIZES_96 (by decide) ?_
  refine zn_iconst (pc := 97) 2 dL_SIZES_97 (by decide) ?_
  refine ze_iastN (pc := 98) (0) dL_SIZES_98 (by repeat (first | assumption | exact hset_eq _ _ _ | rw [hset_ne _ _ (by omega)])) (by rfl) (by omega) (by first | decide | omega) ?_
  rw [hset_hset]
  refine ze_dup (pc := 99) dL_SIZES_99 rfl ?_
  refine zn_iconst (pc := 100) 1 dL_SIZES_100 (by decide) ?_
  refine zn_iconst (pc := 101) 1 dL_SIZES_101 (by decide) ?_
  refine ze_iastN (pc := 102) (1) dL_SIZES_102 (by repeat (first | assumption | exact hset_eq _ _ _ | rw [hset_ne _ _ (by omega)])) (by rfl) (by omega) (by first | decide | omega) ?_
  rw [hset_hset]
  refine ze_aastG (pc := 103) (n := 9) (n2 := 2) 6 dL_SIZES_103 (by repeat (first | exact hset_eq _ _ _ | rw [hset_ne _ _ (by omega)])) (hset_eq _ _ _) rfl (by omega) (by omega) ?_
  refine ze_dup (pc := 104) dL_SIZES_104 rfl ?_
  refine zn_bipush (pc := 105) 7 dL_SIZES_105 (by decide) ?_
  refine zn_iconst (pc := 107) 2 dL_SIZES_107 (by decide) ?_
  refine ze_newI (pc := 108) dL_SIZES_108 rfl (by omega) ⟨by exact Nat.le_of_ble_eq_true rfl, by exact Nat.le_of_ble_eq_true rfl⟩ ?_
  dsimp only
  refine ze_dup (pc := 110) dL_SIZES_110 rfl ?_
  refine zn_iconst (pc := 111) 0 dL_SIZES_111 (by decide) ?_
  refine zn_iconst (pc := 112) 3 dL_SIZES_112 (by decide) ?_
  refine ze_iastN (pc := 113) (0) dL_SIZES_113 (by repeat (first | assumption | exact hset_eq _ _ _ | rw [hset_ne _ _ (by omega)])) (by rfl) (by omega) (by first | decide | omega) ?_
  rw [hset_hset]
  refine ze_dup (pc := 114) dL_SIZES_114 rfl ?_
  refine zn_iconst (pc := 115) 1 dL_SIZES_115 (by decide) ?_
  refine zn_iconst (pc := 116) 1 dL_SIZES_116 (by decide) ?_
  refine ze_iastN (pc := 117) (1) dL_SIZES_117 (by repeat (first | assumption | exact hset_eq _ _ _ | rw [hset_ne _ _ (by omega)])) (by rfl) (by omega) (by first | decide | omega) ?_
  rw [hset_hset]
  refine ze_aastG (pc := 118) (n := 9) (n2 := 2) 7 dL_SIZES_118 (by repeat (first | exact hset_eq _ _ _ | rw [hset_ne _ _ (by omega)])) (hset_eq _ _ _) rfl (by omega) (by omega) ?_
  refine ze_dup (pc := 119) dL_SIZES_119 rfl ?_
  refine zn_bipush (pc := 120) 8 dL_SIZES_120 (by decide) ?_
  refine zn_iconst (pc := 122) 2 dL_SIZES_122 (by decide) ?_
  refine ze_newI (pc := 123) dL_SIZES_123 rfl (by omega) ⟨by exact Nat.le_of_ble_eq_true rfl, by exact Nat.le_of_ble_eq_true rfl⟩ ?_
  dsimp only
  refine ze_dup (pc := 125) dL_SIZES_125 rfl ?_
  refine zn_iconst (pc := 126) 0 dL_SIZES_126 (by decide) ?_
  refine zn_iconst (pc := 127) 5 dL_SIZES_127 (by decide) ?_
  refine ze_iastN (pc := 128) (0) dL_SIZES_128 (by repeat (first | assumption | exact hset_eq _ _ _ | rw [hset_ne _ _ (by omega)])) (by rfl) (by omega) (by first | decide | omega) ?_
  rw [hset_hset]
  refine ze_dup (pc := 129) dL_SIZES_129 rfl ?_
  refine zn_iconst (pc := 130) 1 dL_SIZES_130 (by decide) ?_
  refine zn_iconst (pc := 131) 1 dL_SIZES_131 (by decide) ?_
  refine ze_iastN (pc := 132) (1) dL_SIZES_132 (by repeat (first | assumption | exact hset_eq _ _ _ | rw [hset_ne _ _ (by omega)])) (by rfl) (by omega) (by first | decide | omega) ?_
  rw [hset_hset]
  refine ze_aastG (pc := 133) (n := 9) (n2 := 2) 8 dL_SIZES_133 (by repeat (first | exact hset_eq _ _ _ | rw [hset_ne _ _ (by omega)])) (hset_eq _ _ _) rfl (by omega) (by omega) ?_
  refine ze_aretR dL_SIZES_134 (Or.inr ⟨_, rfl⟩) ⟨by exact Nat.le_of_ble_eq_true rfl, by exact Nat.le_of_ble_eq_true rfl⟩ ⟨rfl, rfl, ⟨?_, fun i hi => ?_⟩, fun q hq => ?_⟩
  · rw [hset_eq]
    refine congrArg some (congrArg (aG 9) (funext fun i => ?_))
    unfold va_up
    by_cases g : i < 9
    · rw [if_pos g]
      match i, g with
      | 0, _ => rfl
      | 1, _ => rfl
      | 2, _ => rfl
      | 3, _ => rfl
      | 4, _ => rfl
      | 5, _ => rfl
      | 6, _ => rfl
      | 7, _ => rfl
      | 8, _ => rfl
    · rw [if_neg g, if_neg (by omega), if_neg (by omega), if_neg (by omega), if_neg (by omega), if_neg (by omega), if_neg (by omega), if_neg (by omega), if_neg (by omega), if_neg (by omega)]
  · match i, hi with
    | 0, _ => exact ⟨upd (upd (fun _ => 0) 0 (nI 2)) 1 (nI 2), 2, 2, (by repeat (first | exact hset_eq _ _ _ | rw [hset_ne _ _ (by omega)])), rfl, rfl, by unfold Sz; omega⟩
    | 1, _ => exact ⟨upd (upd (fun _ => 0) 0 (nI 2)) 1 (nI 3), 2, 3, (by repeat (first | exact hset_eq _ _ _ | rw [hset_ne _ _ (by omega)])), rfl, rfl, by unfold Sz; omega⟩
    | 2, _ => exact ⟨upd (upd (fun _ => 0) 0 (nI 3)) 1 (nI 2), 3, 2, (by repeat (first | exact hset_eq _ _ _ | rw [hset_ne _ _ (by omega)])), rfl, rfl, by unfold Sz; omega⟩
    | 3, _ => exact ⟨upd (upd (fun _ => 0) 0 (nI 3)) 1 (nI 3), 3, 3, (by repeat (first | exact hset_eq _ _ _ | rw [hset_ne _ _ (by omega)])), rfl, rfl, by unfold Sz; omega⟩
    | 4, _ => exact ⟨upd (upd (fun _ => 0) 0 (nI 5)) 1 (nI 2), 5, 2, (by repeat (first | exact hset_eq _ _ _ | rw [hset_ne _ _ (by omega)])), rfl, rfl, by unfold Sz; omega⟩
    | 5, _ => exact ⟨upd (upd (fun _ => 0) 0 (nI 2)) 1 (nI 4), 2, 4, (by repeat (first | exact hset_eq _ _ _ | rw [hset_ne _ _ (by omega)])), rfl, rfl, by unfold Sz; omega⟩
    | 6, _ => exact ⟨upd (upd (fun _ => 0) 0 (nI 2)) 1 (nI 1), 2, 1, (by repeat (first | exact hset_eq _ _ _ | rw [hset_ne _ _ (by omega)])), rfl, rfl, by unfold Sz; omega⟩
    | 7, _ => exact ⟨upd (upd (fun _ => 0) 0 (nI 3)) 1 (nI 1), 3, 1, (by repeat (first | exact hset_eq _ _ _ | rw [hset_ne _ _ (by omega)])), rfl, rfl, by unfold Sz; omega⟩
    | 8, _ => exact ⟨upd (upd (fun _ => 0) 0 (nI 5)) 1 (nI 1), 5, 1, (by repeat (first | exact hset_eq _ _ _ | rw [hset_ne _ _ (by omega)])), rfl, rfl, by unfold Sz; omega⟩
  · repeat rw [hset_ne _ _ (by omega)]
end LE2
