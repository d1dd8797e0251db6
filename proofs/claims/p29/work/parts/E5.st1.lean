/-! ===== the law's small methods ===== -/
theorem nx_mod20 (k : Nat) : nI k &&& 1048575 = nI (k % 1048576) := by
  show nI k &&& nI 1048575 = _
  rw [nx_and, show (1048575 : Nat) = 2 ^ 20 - 1 from rfl, Nat.and_two_pow_sub_one_eq_mod]
theorem nx_20 (x : Int32) : ∃ k, k < 1048576 ∧ x &&& 1048575 = nI k := by
  have e : x = nI x.toBitVec.toNat := by
    apply Int32.toBitVec_inj.1
    show x.toBitVec = BitVec.ofNat 32 x.toBitVec.toNat
    simp
  refine ⟨x.toBitVec.toNat % 1048576, Nat.mod_lt _ (by omega), ?_⟩
  rw [← nx_mod20, ← e]
section LE
variable {ro : RT} {h : AH} {zq : Nat}
theorem c_L_cell {sb sL k : Nat} {xs : Nat → Int32} (hs : ro.1 sb = some (aI sL xs)) (hL : sL ≤ 260) (hk : k < 1000) : CIS ro yL_cell ML_cell [.ref sb, .int (nI k)] h (fun _ h' => h' = h) := by
  refine CIS.ofV (by decide) rfl rfl (by simp [Value.category]) (by exact Nat.le_of_ble_eq_true rfl) (fun sz => ?_)
  refine ze_iload_n (pc := 0) dL_cell_0 rfl rfl ?_
  refine ze_aload_n (pc := 1) dL_cell_1 rfl rfl ?_
  refine ze_alenR (pc := 2) dL_cell_2 (by repeat (first | assumption | exact hset_eq _ _ _ | rw [hset_ne _ _ (by omega)])) ?_
  refine zn_icmp_ge (pc := 3) (tgt := 12) dL_cell_3 (by decide) (by omega) (by omega) (fun c => ?_) (fun c => ?_)
  · refine zn_sipush (pc := 12) 373 dL_cell_12 (by decide) ?_
    refine ze_iload_n (pc := 15) dL_cell_15 rfl rfl ?_
    refine zn_imul (pc := 16) dL_cell_16 ?_
    refine zn_sipush (pc := 17) 367 dL_cell_17 (by decide) ?_
    refine zn_iadd (pc := 20) dL_cell_20 ?_
    exact zn_iret (pc := 21) dL_cell_21 rfl rfl
  · refine ze_aload_n (pc := 6) dL_cell_6 rfl rfl ?_
    refine ze_iload_n (pc := 7) dL_cell_7 rfl rfl ?_
    refine ze_ialdR (pc := 8) (k) dL_cell_8 (by repeat (first | assumption | exact hset_eq _ _ _ | rw [hset_ne _ _ (by omega)])) (by rfl) (by omega) (by first | decide | omega) ?_
    refine ze_goto (pc := 9) (tgt := 21) dL_cell_9 (by decide) ?_
    exact zn_iret (pc := 21) dL_cell_21 rfl rfl
theorem c_L_between {x : Int32} {lo hi : Nat} (hlh : lo ≤ hi) (hh : hi ≤ 1000) : CIS ro yL_between ML_between [.int x, .int (nI lo), .int (nI hi)] h (fun z h' => h' = h ∧ ∃ k, lo ≤ k ∧ k ≤ hi ∧ z = nI k) := by
  obtain ⟨k, k1, k2⟩ := nx_20 x
  refine CIS.ofV (by decide) rfl rfl (by simp [Value.category]) (by exact Nat.le_of_ble_eq_true rfl) (fun sz => ?_)
  refine ze_iload_n (pc := 0) dL_between_0 rfl rfl ?_
  refine ze_iload_n (pc := 1) dL_between_1 rfl rfl ?_
  refine ze_ldcI (pc := 2) (v := 1048575) q_k_L_7 dL_between_2 ?_
  refine ze_iand (pc := 4) dL_between_4 ?_
  refine ze_top k2 ?_
  refine ze_iload_n (pc := 5) dL_between_5 rfl rfl ?_
  refine ze_iload_n (pc := 6) dL_between_6 rfl rfl ?_
  refine zn_isub (pc := 7) dL_between_7 (by omega) ?_
  refine zn_iconst (pc := 8) 1 dL_between_8 (by decide) ?_
  refine zn_iadd (pc := 9) dL_between_9 ?_
  refine zn_irem (pc := 10) dL_between_10 (by omega) (by omega) (by omega) ?_
  refine zn_iadd (pc := 11) dL_between_11 ?_
  have := Nat.mod_lt k (show 0 < hi - lo + 1 by omega)
  exact zn_iret dL_between_12 rfl ⟨rfl, _, by omega, by omega, rfl⟩
theorem l_lpow2 {p n : Nat} {Pr : Int32 → AH → Prop} (hn : n ≤ 1000) (kk : Pr (nI (p ^ n)) h) : ∀ (m k : Nat), m = n - k → k ≤ n → VIS ro ML_power zq Pr h 4 [some (.int (nI p)), some (.int (nI n)), some (.int (nI (p ^ k))), some (.int (nI k))] [] := by
  intro m
  induction m with
  | zero =>
    intro k e1 e2
    have : k = n := by omega
    subst this
    refine ze_iload_n (pc := 4) dL_power_4 rfl rfl ?_
    refine ze_iload_n (pc := 5) dL_power_5 rfl rfl ?_
    refine zn_icmp_ge (pc := 6) (tgt := 19) dL_power_6 (by decide) (by omega) (by omega) (fun c => ?_) (fun c => absurd c (by omega))
    refine ze_iload_n (pc := 19) dL_power_19 rfl rfl ?_
    exact zn_iret dL_power_20 rfl kk
  | succ m ih =>
    intro k e1 e2
    refine ze_iload_n (pc := 4) dL_power_4 rfl rfl ?_
    refine ze_iload_n (pc := 5) dL_power_5 rfl rfl ?_
    refine zn_icmp_ge (pc := 6) (tgt := 19) dL_power_6 (by decide) (by omega) (by omega) (fun c => absurd c (by omega)) (fun c => ?_)
    refine ze_iload_n (pc := 9) dL_power_9 rfl rfl ?_
    refine ze_iload_n (pc := 10) dL_power_10 rfl rfl ?_
    refine zn_imul (pc := 11) dL_power_11 ?_
    rw [← Nat.pow_succ]
    refine ze_istore_n (pc := 12) dL_power_12 rfl (by decide) ?_
    refine zn_inc (pc := 13) dL_power_13 rfl (by decide) ?_
    refine ze_goto (pc := 16) (tgt := 4) dL_power_16 (by decide) ?_
    exact ih (k + 1) (by omega) (by omega)
theorem c_L_power {p n : Nat} (hn : n ≤ 1000) : CPS ro yL_power ML_power [.int (nI p), .int (nI n)] h (nI (p ^ n)) := by
  refine CIS.ofV (by decide) rfl rfl (by simp [Value.category]) (by exact Nat.le_of_ble_eq_true rfl) (fun sz => ?_)
  refine zn_iconst (pc := 0) 1 dL_power_0 (by decide) ?_
  refine ze_istore_n (pc := 1) dL_power_1 rfl (by decide) ?_
  refine zn_iconst (pc := 2) 0 dL_power_2 (by decide) ?_
  refine ze_istore_n (pc := 3) dL_power_3 rfl (by decide) ?_
  exact l_lpow2 hn ⟨rfl, rfl⟩ n 0 (by omega) (by omega)
theorem l_lra {w tb x t : Nat} {F : Wd} {Pr : Int32 → AH → Prop} (hW : LW h w F (.ref tb)) (hT : Tb h tb (F.1 ^ F.2.1) (mul F)) (hk : Wok F) (hx : x < F.1 ^ F.2.1) (ht : t ≤ 1000) (kk : Pr (nI (lpw F x (t - 1))) h) :
    ∀ (m k : Nat), m = t - 1 - k → k ≤ t - 1 → VIS ro ML_raised zq Pr h 5 [some (.ref w), some (.int (nI x)), some (.int (nI t)), some (.int (nI (lpw F x k))), some (.int (nI (k + 1)))] [] := by
  have bb := hk.b
  obtain ⟨w1, -⟩ := id hW
  obtain ⟨t1, t2⟩ := id hT
  intro m
  induction m with
  | zero =>
    intro k e1 e2
    have : k = t - 1 := by omega
    subst this
    refine ze_iload (pc := 5) dL_raised_5 rfl ?_
    refine ze_iload_n (pc := 7) dL_raised_7 rfl rfl ?_
    refine zn_icmp_ge (pc := 8) (tgt := 26) dL_raised_8 (by decide) (by omega) (by omega) (fun c => ?_) (fun c => absurd c (by omega))
    refine ze_iload_n (pc := 26) dL_raised_26 rfl rfl ?_
    exact zn_iret dL_raised_27 rfl kk
  | succ m ih =>
    intro k e1 e2
    have hl : lpw F x k < F.1 ^ F.2.1 := by
      cases k with
      | zero => exact hx
      | succ k => exact mul_lt hk _ _
    obtain ⟨g, q1, q2⟩ := t2 _ hl
    refine ze_iload (pc := 5) dL_raised_5 rfl ?_
    refine ze_iload_n (pc := 7) dL_raised_7 rfl rfl ?_
    refine zn_icmp_ge (pc := 8) (tgt := 26) dL_raised_8 (by decide) (by omega) (by omega) (fun c => absurd c (by omega)) (fun c => ?_)
    refine ze_aload_n (pc := 11) dL_raised_11 rfl rfl ?_
    refine ze_getN (pc := 12) (kf := 4) rfl (by decide) (by decide) rfl dL_raised_12 (by repeat (first | assumption | exact hset_eq _ _ _ | rw [hset_ne _ _ (by omega)])) (by rfl) ?_
    refine ze_iload_n (pc := 15) dL_raised_15 rfl rfl ?_
    refine ze_aldGS (pc := 16) (lpw F x k) dL_raised_16 (by repeat (first | assumption | exact hset_eq _ _ _ | rw [hset_ne _ _ (by omega)])) (by rfl) (by omega) (by first | decide | omega) (if_pos hl) ?_
    refine ze_iload_n (pc := 17) dL_raised_17 rfl rfl ?_
    refine ze_ialdN (pc := 18) (x) dL_raised_18 (by repeat (first | assumption | exact hset_eq _ _ _ | rw [hset_ne _ _ (by omega)])) (by rfl) (by omega) (by first | decide | omega) ?_
    refine ze_top (q2 x hx) ?_
    refine ze_istore_n (pc := 19) dL_raised_19 rfl (by decide) ?_
    refine zn_inc (pc := 20) dL_raised_20 rfl (by decide) ?_
    refine ze_goto (pc := 23) (tgt := 5) dL_raised_23 (by decide) ?_
    exact ih (k + 1) (by omega) (by omega)
theorem c_L_raised {w tb x t : Nat} {F : Wd} (hW : LW h w F (.ref tb)) (hT : Tb h tb (F.1 ^ F.2.1) (mul F)) (hk : Wok F) (hx : x < F.1 ^ F.2.1) (ht : t ≤ 1000) : CPS ro yL_raised ML_raised [.ref w, .int (nI x), .int (nI t)] h (nI (lpw F x (t - 1))) := by
  refine CIS.ofV (by decide) rfl rfl (by simp [Value.category]) (by exact Nat.le_of_ble_eq_true rfl) (fun sz => ?_)
  refine ze_iload_n (pc := 0) dL_raised_0 rfl rfl ?_
  refine ze_istore_n (pc := 1) dL_raised_1 rfl (by decide) ?_
  refine zn_iconst (pc := 2) 1 dL_raised_2 (by decide) ?_
  refine ze_istore (pc := 3) dL_raised_3 (by decide) ?_
  exact l_lra hW hT hk hx ht ⟨rfl, rfl⟩ (t - 1) 0 (by omega) (by omega)
/-- the sizes that the law draws -/
def Sz (p n : Nat) : Prop := (p = 2 ∧ n ≤ 4 ∨ p = 3 ∧ n ≤ 3 ∨ p = 5 ∧ n ≤ 2) ∧ 1 ≤ n
/-- numbers of a field: n of them, below p -/
def Fds (n p : Nat) (g : Nat → Int32) : Prop := ∀ i, i < n → ∃ v, v < p ∧ g i = nI v
theorem c_L_goodField {p n : Nat} (hs : Sz p n) : CnS ro yL_goodField ML_goodField [.int (nI p), .int (nI n)] zq h (fun r h' z => r = some (.ref zq) ∧ z = zq + 1 ∧ ∃ g, h' = hset h zq (aI n g) ∧ Fds n p g) := by
  obtain ⟨s1, s2⟩ := hs
  have hp : 2 ≤ p ∧ p ≤ 5 := by omega
  refine CnS.ofVS (by decide) rfl (fun q => by cases q) (by simp [Value.category]) (by exact Nat.le_of_ble_eq_true rfl) ?_
  refine ze_iload_n (pc := 0) dL_goodField_0 rfl rfl ?_
  refine zn_iconst (pc := 1) 1 dL_goodField_1 (by decide) ?_
  refine zn_icmp_ne (pc := 2) (tgt := 13) dL_goodField_2 (by decide) (by omega) (by omega) (fun c => ?_) (fun c => ?_)
  · refine ze_iload_n (pc := 13) dL_goodField_13 rfl rfl ?_
    refine zn_iconst (pc := 14) 2 dL_goodField_14 (by decide) ?_
    refine zn_icmp_ne (pc := 15) (tgt := 80) dL_goodField_15 (by decide) (by omega) (by omega) (fun c2 => ?_) (fun c2 => ?_)
    · refine ze_iload_n (pc := 80) dL_goodField_80 rfl rfl ?_
      refine zn_iconst (pc := 81) 3 dL_goodField_81 (by decide) ?_
      refine zn_icmp_ne (pc := 82) (tgt := 120) dL_goodField_82 (by decide) (by omega) (by omega) (fun c3 => ?_) (fun c3 => ?_)
      · have e1 : p = 5 := by omega
        have e2 : n = 2 := by omega
        subst e1; subst e2
        refine zn_iconst (pc := 120) 2 dL_goodField_120 (by decide) ?_
        refine ze_newI (pc := 121) dL_goodField_121 rfl (by omega) ⟨by exact Nat.le_of_ble_eq_true rfl, by exact Nat.le_of_ble_eq_true rfl⟩ ?_
        dsimp only
        refine ze_dup (pc := 123) dL_goodField_123 rfl ?_
        refine zn_iconst (pc := 124) 0 dL_goodField_124 (by decide) ?_
        refine zn_iconst (pc := 125) 2 dL_goodField_125 (by decide) ?_
        refine ze_iastN (pc := 126) (0) dL_goodField_126 (by repeat (first | assumption | exact hset_eq _ _ _ | rw [hset_ne _ _ (by omega)])) (by rfl) (by omega) (by first | decide | omega) ?_
        refine ze_dup (pc := 127) dL_goodField_127 rfl ?_
        refine zn_iconst (pc := 128) 1 dL_goodField_128 (by decide) ?_
        refine zn_iconst (pc := 129) 0 dL_goodField_129 (by decide) ?_
        refine ze_iastN (pc := 130) (1) dL_goodField_130 (by repeat (first | assumption | exact hset_eq _ _ _ | rw [hset_ne _ _ (by omega)])) (by rfl) (by omega) (by first | decide | omega) ?_
        rw [hset_hset, hset_hset]
        refine ze_aretR dL_goodField_131 (Or.inr ⟨_, rfl⟩) ⟨by exact Nat.le_of_ble_eq_true rfl, by exact Nat.le_of_ble_eq_true rfl⟩ ⟨rfl, rfl, _, rfl, fun i hi => ?_⟩
        match i, hi with
        | 0, _ => exact ⟨2, by decide, rfl⟩
        | 1, _ => exact ⟨0, by decide, rfl⟩
      · subst c3
        refine ze_iload_n (pc := 85) dL_goodField_85 rfl rfl ?_
        refine zn_iconst (pc := 86) 2 dL_goodField_86 (by decide) ?_
        refine zn_icmp_ne (pc := 87) (tgt := 104) dL_goodField_87 (by decide) (by omega) (by omega) (fun c4 => ?_) (fun c4 => ?_)
        · have e2 : n = 3 := by omega
          subst e2
          refine zn_iconst (pc := 104) 3 dL_goodField_104 (by decide) ?_
          refine ze_newI (pc := 105) dL_goodField_105 rfl (by omega) ⟨by exact Nat.le_of_ble_eq_true rfl, by exact Nat.le_of_ble_eq_true rfl⟩ ?_
          dsimp only
          refine ze_dup (pc := 107) dL_goodField_107 rfl ?_
          refine zn_iconst (pc := 108) 0 dL_goodField_108 (by decide) ?_
          refine zn_iconst (pc := 109) 2 dL_goodField_109 (by decide) ?_
          refine ze_iastN (pc := 110) (0) dL_goodField_110 (by repeat (first | assumption | exact hset_eq _ _ _ | rw [hset_ne _ _ (by omega)])) (by rfl) (by omega) (by first | decide | omega) ?_
          refine ze_dup (pc := 111) dL_goodField_111 rfl ?_
          refine zn_iconst (pc := 112) 1 dL_goodField_112 (by decide) ?_
          refine zn_iconst (pc := 113) 1 dL_goodField_113 (by decide) ?_
          refine ze_iastN (pc := 114) (1) dL_goodField_114 (by repeat (first | assumption | exact hset_eq _ _ _ | rw [hset_ne _ _ (by omega)])) (by rfl) (by omega) (by first | decide | omega) ?_
          refine ze_dup (pc := 115) dL_goodField_115 rfl ?_
          refine zn_iconst (pc := 116) 2 dL_goodField_116 (by decide) ?_
          refine zn_iconst (pc := 117) 0 dL_goodField_117 (by decide) ?_
          refine ze_iastN (pc := 118) (2) dL_goodField_118 (by repeat (first | assumption | exact hset_eq _ _ _ | rw [hset_ne _ _ (by omega)])) (by rfl) (by omega) (by first | decide | omega) ?_
          rw [hset_hset, hset_hset, hset_hset]
          refine ze_aretR dL_goodField_119 (Or.inr ⟨_, rfl⟩) ⟨by exact Nat.le_of_ble_eq_true rfl, by exact Nat.le_of_ble_eq_true rfl⟩ ⟨rfl, rfl, _, rfl, fun i hi => ?_⟩
          match i, hi with
          | 0, _ => exact ⟨2, by decide, rfl⟩
          | 1, _ => exact ⟨1, by decide, rfl⟩
          | 2, _ => exact ⟨0, by decide, rfl⟩
        · subst c4
          refine zn_iconst (pc := 90) 2 dL_goodField_90 (by decide) ?_
          refine ze_newI (pc := 91) dL_goodField_91 rfl (by omega) ⟨by exact Nat.le_of_ble_eq_true rfl, by exact Nat.le_of_ble_eq_true rfl⟩ ?_
          dsimp only
          refine ze_dup (pc := 93) dL_goodField_93 rfl ?_
          refine zn_iconst (pc := 94) 0 dL_goodField_94 (by decide) ?_
          refine zn_iconst (pc := 95) 2 dL_goodField_95 (by decide) ?_
          refine ze_iastN (pc := 96) (0) dL_goodField_96 (by repeat (first | assumption | exact hset_eq _ _ _ | rw [hset_ne _ _ (by omega)])) (by rfl) (by omega) (by first | decide | omega) ?_
          refine ze_dup (pc := 97) dL_goodField_97 rfl ?_
          refine zn_iconst (pc := 98) 1 dL_goodField_98 (by decide) ?_
          refine zn_iconst (pc := 99) 0 dL_goodField_99 (by decide) ?_
          refine ze_iastN (pc := 100) (1) dL_goodField_100 (by repeat (first | assumption | exact hset_eq _ _ _ | rw [hset_ne _ _ (by omega)])) (by rfl) (by omega) (by first | decide | omega) ?_
          rw [hset_hset, hset_hset]
          refine ze_goto (pc := 101) (tgt := 119) dL_goodField_101 (by decide) ?_
          refine ze_aretR dL_goodField_119 (Or.inr ⟨_, rfl⟩) ⟨by exact Nat.le_of_ble_eq_true rfl, by exact Nat.le_of_ble_eq_true rfl⟩ ⟨rfl, rfl, _, rfl, fun i hi => ?_⟩
          match i, hi with
          | 0, _ => exact ⟨2, by decide, rfl⟩
          | 1, _ => exact ⟨0, by decide, rfl⟩
    · subst c2
      refine ze_iload_n (pc := 18) dL_goodField_18 rfl rfl ?_
      refine zn_iconst (pc := 19) 2 dL_goodField_19 (by decide) ?_
      refine zn_icmp_ne (pc := 20) (tgt := 37) dL_goodField_20 (by decide) (by omega) (by omega) (fun c3 => ?_) (fun c3 => ?_)
      · refine ze_iload_n (pc := 37) dL_goodField_37 rfl rfl ?_
        refine zn_iconst (pc := 38) 3 dL_goodField_38 (by decide) ?_
        refine zn_icmp_ne (pc := 39) (tgt := 60) dL_goodField_39 (by decide) (by omega) (by omega) (fun c4 => ?_) (fun c4 => ?_)
        · have e2 : n = 4 := by omega
          subst e2
          refine zn_iconst (pc := 60) 4 dL_goodField_60 (by decide) ?_
          refine ze_newI (pc := 61) dL_goodField_61 rfl (by omega) ⟨by exact Nat.le_of_ble_eq_true rfl, by exact Nat.le_of_ble_eq_true rfl⟩ ?_
          dsimp only
          refine ze_dup (pc := 63) dL_goodField_63 rfl ?_
          refine zn_iconst (pc := 64) 0 dL_goodField_64 (by decide) ?_
          refine zn_iconst (pc := 65) 1 dL_goodField_65 (by decide) ?_
          refine ze_iastN (pc := 66) (0) dL_goodField_66 (by repeat (first | assumption | exact hset_eq _ _ _ | rw [hset_ne _ _ (by omega)])) (by rfl) (by omega) (by first | decide | omega) ?_
          refine ze_dup (pc := 67) dL_goodField_67 rfl ?_
          refine zn_iconst (pc := 68) 1 dL_goodField_68 (by decide) ?_
          refine zn_iconst (pc := 69) 1 dL_goodField_69 (by decide) ?_
          refine ze_iastN (pc := 70) (1) dL_goodField_70 (by repeat (first | assumption | exact hset_eq _ _ _ | rw [hset_ne _ _ (by omega)])) (by rfl) (by omega) (by first | decide | omega) ?_
          refine ze_dup (pc := 71) dL_goodField_71 rfl ?_
          refine zn_iconst (pc := 72) 2 dL_goodField_72 (by decide) ?_
          refine zn_iconst (pc := 73) 0 dL_goodField_73 (by decide) ?_
          refine ze_iastN (pc := 74) (2) dL_goodField_74 (by repeat (first | assumption | exact hset_eq _ _ _ | rw [hset_ne _ _ (by omega)])) (by rfl) (by omega) (by first | decide | omega) ?_
          refine ze_dup (pc := 75) dL_goodField_75 rfl ?_
          refine zn_iconst (pc := 76) 3 dL_goodField_76 (by decide) ?_
          refine zn_iconst (pc := 77) 0 dL_goodField_77 (by decide) ?_
          refine ze_iastN (pc := 78) (3) dL_goodField_78 (by repeat (first | assumption | exact hset_eq _ _ _ | rw [hset_ne _ _ (by omega)])) (by rfl) (by omega) (by first | decide | omega) ?_
          rw [hset_hset, hset_hset, hset_hset, hset_hset]
          refine ze_aretR dL_goodField_79 (Or.inr ⟨_, rfl⟩) ⟨by exact Nat.le_of_ble_eq_true rfl, by exact Nat.le_of_ble_eq_true rfl⟩ ⟨rfl, rfl, _, rfl, fun i hi => ?_⟩
          match i, hi with
          | 0, _ => exact ⟨1, by decide, rfl⟩
          | 1, _ => exact ⟨1, by decide, rfl⟩
          | 2, _ => exact ⟨0, by decide, rfl⟩
          | 3, _ => exact ⟨0, by decide, rfl⟩
        · subst c4
          refine zn_iconst (pc := 42) 3 dL_goodField_42 (by decide) ?_
          refine ze_newI (pc := 43) dL_goodField_43 rfl (by omega) ⟨by exact Nat.le_of_ble_eq_true rfl, by exact Nat.le_of_ble_eq_true rfl⟩ ?_
          dsimp only
          refine ze_dup (pc := 45) dL_goodField_45 rfl ?_
          refine zn_iconst (pc := 46) 0 dL_goodField_46 (by decide) ?_
          refine zn_iconst (pc := 47) 1 dL_goodField_47 (by decide) ?_
          refine ze_iastN (pc := 48) (0) dL_goodField_48 (by repeat (first | assumption | exact hset_eq _ _ _ | rw [hset_ne _ _ (by omega)])) (by rfl) (by omega) (by first | decide | omega) ?_
          refine ze_dup (pc := 49) dL_goodField_49 rfl ?_
          refine zn_iconst (pc := 50) 1 dL_goodField_50 (by decide) ?_
          refine zn_iconst (pc := 51) 1 dL_goodField_51 (by decide) ?_
          refine ze_iastN (pc := 52) (1) dL_goodField_52 (by repeat (first | assumption | exact hset_eq _ _ _ | rw [hset_ne _ _ (by omega)])) (by rfl) (by omega) (by first | decide | omega) ?_
          refine ze_dup (pc := 53) dL_goodField_53 rfl ?_
          refine zn_iconst (pc := 54) 2 dL_goodField_54 (by decide) ?_
          refine zn_iconst (pc := 55) 0 dL_goodField_55 (by decide) ?_
          refine ze_iastN (pc := 56) (2) dL_goodField_56 (by repeat (first | assumption | exact hset_eq _ _ _ | rw [hset_ne _ _ (by omega)])) (by rfl) (by omega) (by first | decide | omega) ?_
          rw [hset_hset, hset_hset, hset_hset]
          refine ze_goto (pc := 57) (tgt := 79) dL_goodField_57 (by decide) ?_
          refine ze_aretR dL_goodField_79 (Or.inr ⟨_, rfl⟩) ⟨by exact Nat.le_of_ble_eq_true rfl, by exact Nat.le_of_ble_eq_true rfl⟩ ⟨rfl, rfl, _, rfl, fun i hi => ?_⟩
          match i, hi with
          | 0, _ => exact ⟨1, by decide, rfl⟩
          | 1, _ => exact ⟨1, by decide, rfl⟩
          | 2, _ => exact ⟨0, by decide, rfl⟩
      · subst c3
        refine zn_iconst (pc := 23) 2 dL_goodField_23 (by decide) ?_
        refine ze_newI (pc := 24) dL_goodField_24 rfl (by omega) ⟨by exact Nat.le_of_ble_eq_true rfl, by exact Nat.le_of_ble_eq_true rfl⟩ ?_
        dsimp only
        refine ze_dup (pc := 26) dL_goodField_26 rfl ?_
        refine zn_iconst (pc := 27) 0 dL_goodField_27 (by decide) ?_
        refine zn_iconst (pc := 28) 1 dL_goodField_28 (by decide) ?_
        refine ze_iastN (pc := 29) (0) dL_goodField_29 (by repeat (first | assumption | exact hset_eq _ _ _ | rw [hset_ne _ _ (by omega)])) (by rfl) (by omega) (by first | decide | omega) ?_
        refine ze_dup (pc := 30) dL_goodField_30 rfl ?_
        refine zn_iconst (pc := 31) 1 dL_goodField_31 (by decide) ?_
        refine zn_iconst (pc := 32) 1 dL_goodField_32 (by decide) ?_
        refine ze_iastN (pc := 33) (1) dL_goodField_33 (by repeat (first | assumption | exact hset_eq _ _ _ | rw [hset_ne _ _ (by omega)])) (by rfl) (by omega) (by first | decide | omega) ?_
        rw [hset_hset, hset_hset]
        refine ze_goto (pc := 34) (tgt := 79) dL_goodField_34 (by decide) ?_
        refine ze_aretR dL_goodField_79 (Or.inr ⟨_, rfl⟩) ⟨by exact Nat.le_of_ble_eq_true rfl, by exact Nat.le_of_ble_eq_true rfl⟩ ⟨rfl, rfl, _, rfl, fun i hi => ?_⟩
        match i, hi with
        | 0, _ => exact ⟨1, by decide, rfl⟩
        | 1, _ => exact ⟨1, by decide, rfl⟩
  · subst c
    refine zn_iconst (pc := 5) 1 dL_goodField_5 (by decide) ?_
    refine ze_newI (pc := 6) dL_goodField_6 rfl (by omega) ⟨by exact Nat.le_of_ble_eq_true rfl, by exact Nat.le_of_ble_eq_true rfl⟩ ?_
    dsimp only
    refine ze_dup (pc := 8) dL_goodField_8 rfl ?_
    refine zn_iconst (pc := 9) 0 dL_goodField_9 (by decide) ?_
    refine zn_iconst (pc := 10) 1 dL_goodField_10 (by decide) ?_
    refine ze_iastN (pc := 11) (0) dL_goodField_11 (by repeat (first | assumption | exact hset_eq _ _ _ | rw [hset_ne _ _ (by omega)])) (by rfl) (by omega) (by first | decide | omega) ?_
    rw [hset_hset]
    refine ze_aretR dL_goodField_12 (Or.inr ⟨_, rfl⟩) ⟨by exact Nat.le_of_ble_eq_true rfl, by exact Nat.le_of_ble_eq_true rfl⟩ ⟨rfl, rfl, _, rfl, fun i hi => ?_⟩
    match i, hi with
    | 0, _ => exact ⟨1, by omega, rfl⟩
/-- the list of sizes at a -/
def SzL (h : AH) (a : Nat) : Prop := h a = some (aG 9 (fun i => if i < 9 then some (a + 1 + i) else none)) ∧ ∀ i, i < 9 → ∃ g p n, h (a + 1 + i) = some (aI 2 g) ∧ g 0 = nI p ∧ g 1 = nI n ∧ Sz p n
end LE
