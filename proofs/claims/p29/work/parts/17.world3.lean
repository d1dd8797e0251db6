/-! ===== worlds: copy, turned, who commutes ===== -/
section WX
variable {h : AH} {o : Nat} {W : Wd} {f : Int32}
theorem c_X9_copy {o2 : Nat} {W2 : Wd} {f2 : Int32} (hW : WAt h o W f) (hW2 : WAt h o2 W2 f2) (hk : Wok W) (hk2 : Wok W2) (d : o + 3 ≤ o2 ∨ o2 + 3 ≤ o) : CV yX9_copy MX9_copy [.ref o, .ref o2] h (fun h' => WAt h' o W2 f2 ∧ Ew o h h') := by
  obtain ⟨h0, h1, g, hs⟩ := id hW
  obtain ⟨k0, k1, g2, ks⟩ := id hW2
  refine CV.ofV (by decide) rfl rfl (by simp [Value.category]) (by exact Nat.le_of_ble_eq_true rfl) (fun sz => ?_)
  refine e_aload_n (pc := 0) dX9_copy_0 rfl rfl ?_
  refine e_aload_n (pc := 1) dX9_copy_1 rfl rfl ?_
  refine e_get (pc := 2) fl_X9_9 dX9_copy_2 (by repeat (first | assumption | exact hset_eq _ _ _ | rw [hset_ne _ _ (by omega)])) (by rfl) ?_
  refine e_put (pc := 5) pl_X9_9 dX9_copy_5 (by repeat (first | assumption | exact hset_eq _ _ _ | rw [hset_ne _ _ (by omega)])) (by rfl) (by rfl) (by exact Nat.le_of_ble_eq_true rfl) ?_
  refine e_aload_n (pc := 8) dX9_copy_8 rfl rfl ?_
  refine e_aload_n (pc := 9) dX9_copy_9 rfl rfl ?_
  refine e_get (pc := 10) fl_X9_15 dX9_copy_10 (by repeat (first | assumption | exact hset_eq _ _ _ | rw [hset_ne _ _ (by omega)])) (by rfl) ?_
  refine e_put (pc := 13) pl_X9_15 dX9_copy_13 (by repeat (first | assumption | exact hset_eq _ _ _ | rw [hset_ne _ _ (by omega)])) (by rfl) (by rfl) (by exact Nat.le_of_ble_eq_true rfl) ?_
  refine e_aload_n (pc := 16) dX9_copy_16 rfl rfl ?_
  refine e_aload_n (pc := 17) dX9_copy_17 rfl rfl ?_
  refine e_get (pc := 18) fl_X9_18 dX9_copy_18 (by repeat (first | assumption | exact hset_eq _ _ _ | rw [hset_ne _ _ (by omega)])) (by rfl) ?_
  refine e_put (pc := 21) pl_X9_18 dX9_copy_21 (by repeat (first | assumption | exact hset_eq _ _ _ | rw [hset_ne _ _ (by omega)])) (by rfl) (by rfl) (by exact Nat.le_of_ble_eq_true rfl) ?_
  refine e_aload_n (pc := 24) dX9_copy_24 rfl rfl ?_
  refine e_aload_n (pc := 25) dX9_copy_25 rfl rfl ?_
  refine e_get (pc := 26) fl_X9_21 dX9_copy_26 (by repeat (first | assumption | exact hset_eq _ _ _ | rw [hset_ne _ _ (by omega)])) (by rfl) ?_
  refine e_put (pc := 29) pl_X9_21 dX9_copy_29 (by repeat (first | assumption | exact hset_eq _ _ _ | rw [hset_ne _ _ (by omega)])) (by rfl) (by rfl) (by exact Nat.le_of_ble_eq_true rfl) ?_
  refine e_aload_n (pc := 32) dX9_copy_32 rfl rfl ?_
  refine e_get (pc := 33) fl_X9_24 dX9_copy_33 (by repeat (first | assumption | exact hset_eq _ _ _ | rw [hset_ne _ _ (by omega)])) (by rfl) ?_
  refine e_iconst (pc := 36) (v := 0) dX9_copy_36 (by decide) ?_
  refine e_aload_n (pc := 37) dX9_copy_37 rfl rfl ?_
  refine e_get (pc := 38) fl_X9_24 dX9_copy_38 (by repeat (first | assumption | exact hset_eq _ _ _ | rw [hset_ne _ _ (by omega)])) (by rfl) ?_
  refine e_iconst (pc := 41) (v := 0) dX9_copy_41 (by decide) ?_
  refine n_bipush (pc := 42) 125 dX9_copy_42 (by decide) ?_
  refine e_acopy (pc := 44) (N := 125) q_m_X9_45 dX9_copy_44 (by repeat (first | assumption | rw [hset_ne _ _ (by omega)])) (by repeat (first | assumption | rw [hset_ne _ _ (by omega)])) (by decide) (by decide) (by decide) (by decide) (by decide) ?_
  refine n_vret (pc := 47) dX9_copy_47 rfl ⟨⟨?_, ?_, g, ?_⟩, ?_⟩
  · simp only [hset_hset]
    rw [hset_ne _ _ (by omega), hset_eq]
    rfl
  · rw [hset_eq]
    refine congrArg some (congrArg (fun z => aI 125 z) (funext fun t => ?_))
    by_cases e : t < 125
    · rw [if_pos e]
    · rw [if_neg e]
      have e1 : W.2.2 t = 0 := (hk.2.2.2.2 t).2 (fun z => e z.1)
      have e2 : W2.2.2 t = 0 := (hk2.2.2.2.2 t).2 (fun z => e z.1)
      rw [e1, e2]
  · simp only [hset_hset]
    rw [hset_ne _ _ (by omega), hset_ne _ _ (by omega)]
    exact hs
  · simp only [hset_hset]
    exact ((Ew.rf o h).set (by omega)).set (by omega)
def tix (way i j k : Nat) : Nat := match way with
  | 1 => 25 * j + 5 * i + k
  | 2 => 25 * k + 5 * j + i
  | 3 => 25 * i + 5 * k + j
  | 4 => 25 * k + 5 * i + j
  | 5 => 25 * j + 5 * k + i
  | _ => 25 * i + 5 * j + k
theorem c_X9_turnedCell (hW : WAt h o W f) (hk : Wok W) {w i j k : Nat} (hw : w < 6) (hi : i < W.2.1) (hj : j < W.2.1) (hkk : k < W.2.1) : CP yX9_turnedCell MX9_turnedCell [.ref o, .int (nI w), .int (nI i), .int (nI j), .int (nI k)] h (nI (W.2.2 (tix w i j k))) := by
  obtain ⟨h0, h1, g, hs⟩ := id hW
  refine CI.ofV (by decide) rfl rfl (by simp [Value.category]) (by exact Nat.le_of_ble_eq_true rfl) (fun sz => ?_)
  refine e_iload_n (pc := 0) dX9_turnedCell_0 rfl rfl ?_
  have e : w = 0 ∨ w = 1 ∨ w = 2 ∨ w = 3 ∨ w = 4 ∨ w = 5 := by omega
  rcases e with rfl | rfl | rfl | rfl | rfl | rfl
  · refine e_switchOut (pc := 1) (tgt := 81) dX9_turnedCell_1 (by decide) (by decide) ?_
    refine e_aload_n (pc := 81) dX9_turnedCell_81 rfl rfl ?_
    refine e_iload_n (pc := 82) dX9_turnedCell_82 rfl rfl ?_
    refine e_iload_n (pc := 83) dX9_turnedCell_83 rfl rfl ?_
    refine e_iload (pc := 84) dX9_turnedCell_84 rfl ?_
    refine n_VP (pc := 86) (c_X9_cell hW hk hi hj hkk) bX9_cell q_i_X9_cell q_s_X9_cell q_m_X9_59 dX9_turnedCell_86 rfl rfl (by repeat (first | assumption | exact hset_eq _ _ _ | rw [hset_ne _ _ (by omega)])) rfl rfl (by exact Nat.le_of_ble_eq_true rfl) ⟨by decide, by decide⟩ ⟨rfl, rfl, Nat.zero_le _, Nat.zero_le _⟩ ?_
    exact n_iret (pc := 89) dX9_turnedCell_89 rfl ⟨rfl, rfl⟩
  · refine e_switchIn (pc := 1) (off := 35) (tgt := 36) dX9_turnedCell_1 (by decide) (by decide) (by decide) (by decide) ?_
    refine e_aload_n (pc := 36) dX9_turnedCell_36 rfl rfl ?_
    refine e_iload_n (pc := 37) dX9_turnedCell_37 rfl rfl ?_
    refine e_iload_n (pc := 38) dX9_turnedCell_38 rfl rfl ?_
    refine e_iload (pc := 39) dX9_turnedCell_39 rfl ?_
    refine n_VP (pc := 41) (c_X9_cell hW hk hj hi hkk) bX9_cell q_i_X9_cell q_s_X9_cell q_m_X9_59 dX9_turnedCell_41 rfl rfl (by repeat (first | assumption | exact hset_eq _ _ _ | rw [hset_ne _ _ (by omega)])) rfl rfl (by exact Nat.le_of_ble_eq_true rfl) ⟨by decide, by decide⟩ ⟨rfl, rfl, Nat.zero_le _, Nat.zero_le _⟩ ?_
    exact n_iret (pc := 44) dX9_turnedCell_44 rfl ⟨rfl, rfl⟩
  · refine e_switchIn (pc := 1) (off := 44) (tgt := 45) dX9_turnedCell_1 (by decide) (by decide) (by decide) (by decide) ?_
    refine e_aload_n (pc := 45) dX9_turnedCell_45 rfl rfl ?_
    refine e_iload (pc := 46) dX9_turnedCell_46 rfl ?_
    refine e_iload_n (pc := 48) dX9_turnedCell_48 rfl rfl ?_
    refine e_iload_n (pc := 49) dX9_turnedCell_49 rfl rfl ?_
    refine n_VP (pc := 50) (c_X9_cell hW hk hkk hj hi) bX9_cell q_i_X9_cell q_s_X9_cell q_m_X9_59 dX9_turnedCell_50 rfl rfl (by repeat (first | assumption | exact hset_eq _ _ _ | rw [hset_ne _ _ (by omega)])) rfl rfl (by exact Nat.le_of_ble_eq_true rfl) ⟨by decide, by decide⟩ ⟨rfl, rfl, Nat.zero_le _, Nat.zero_le _⟩ ?_
    exact n_iret (pc := 53) dX9_turnedCell_53 rfl ⟨rfl, rfl⟩
  · refine e_switchIn (pc := 1) (off := 53) (tgt := 54) dX9_turnedCell_1 (by decide) (by decide) (by decide) (by decide) ?_
    refine e_aload_n (pc := 54) dX9_turnedCell_54 rfl rfl ?_
    refine e_iload_n (pc := 55) dX9_turnedCell_55 rfl rfl ?_
    refine e_iload (pc := 56) dX9_turnedCell_56 rfl ?_
    refine e_iload_n (pc := 58) dX9_turnedCell_58 rfl rfl ?_
    refine n_VP (pc := 59) (c_X9_cell hW hk hi hkk hj) bX9_cell q_i_X9_cell q_s_X9_cell q_m_X9_59 dX9_turnedCell_59 rfl rfl (by repeat (first | assumption | exact hset_eq _ _ _ | rw [hset_ne _ _ (by omega)])) rfl rfl (by exact Nat.le_of_ble_eq_true rfl) ⟨by decide, by decide⟩ ⟨rfl, rfl, Nat.zero_le _, Nat.zero_le _⟩ ?_
    exact n_iret (pc := 62) dX9_turnedCell_62 rfl ⟨rfl, rfl⟩
  · refine e_switchIn (pc := 1) (off := 62) (tgt := 63) dX9_turnedCell_1 (by decide) (by decide) (by decide) (by decide) ?_
    refine e_aload_n (pc := 63) dX9_turnedCell_63 rfl rfl ?_
    refine e_iload (pc := 64) dX9_turnedCell_64 rfl ?_
    refine e_iload_n (pc := 66) dX9_turnedCell_66 rfl rfl ?_
    refine e_iload_n (pc := 67) dX9_turnedCell_67 rfl rfl ?_
    refine n_VP (pc := 68) (c_X9_cell hW hk hkk hi hj) bX9_cell q_i_X9_cell q_s_X9_cell q_m_X9_59 dX9_turnedCell_68 rfl rfl (by repeat (first | assumption | exact hset_eq _ _ _ | rw [hset_ne _ _ (by omega)])) rfl rfl (by exact Nat.le_of_ble_eq_true rfl) ⟨by decide, by decide⟩ ⟨rfl, rfl, Nat.zero_le _, Nat.zero_le _⟩ ?_
    exact n_iret (pc := 71) dX9_turnedCell_71 rfl ⟨rfl, rfl⟩
  · refine e_switchIn (pc := 1) (off := 71) (tgt := 72) dX9_turnedCell_1 (by decide) (by decide) (by decide) (by decide) ?_
    refine e_aload_n (pc := 72) dX9_turnedCell_72 rfl rfl ?_
    refine e_iload_n (pc := 73) dX9_turnedCell_73 rfl rfl ?_
    refine e_iload (pc := 74) dX9_turnedCell_74 rfl ?_
    refine e_iload_n (pc := 76) dX9_turnedCell_76 rfl rfl ?_
    refine n_VP (pc := 77) (c_X9_cell hW hk hj hkk hi) bX9_cell q_i_X9_cell q_s_X9_cell q_m_X9_59 dX9_turnedCell_77 rfl rfl (by repeat (first | assumption | exact hset_eq _ _ _ | rw [hset_ne _ _ (by omega)])) rfl rfl (by exact Nat.le_of_ble_eq_true rfl) ⟨by decide, by decide⟩ ⟨rfl, rfl, Nat.zero_le _, Nat.zero_le _⟩ ?_
    exact n_iret (pc := 80) dX9_turnedCell_80 rfl ⟨rfl, rfl⟩
/-- a cube turned, up to a place: those before 25 i + 5 j + k in the order of the loops -/
def wtn (W : Wd) (w m : Nat) : Wd := (W.1, W.2.1, fun t => if inC W.2.1 t ∧ t < m then W.2.2 (tix w (t / 25) (t / 5 % 5) (t % 5)) else 0)
def wturn (W : Wd) (w : Nat) : Wd := wtn W w 125
theorem wtn_ok {W : Wd} (hk : Wok W) (w m : Nat) : Wok (wtn W w m) := by
  obtain ⟨b1, b2, b3, b4, b5⟩ := hk.b
  obtain ⟨h1, h2, h3, h4, h5⟩ := hk
  refine ⟨h1, h2, h3, h4, fun t => ?_⟩
  show (if inC W.2.1 t ∧ t < m then W.2.2 (tix w (t / 25) (t / 5 % 5) (t % 5)) else 0) < W.1 ∧ (¬ inC W.2.1 t → (if inC W.2.1 t ∧ t < m then W.2.2 (tix w (t / 25) (t / 5 % 5) (t % 5)) else 0) = 0)
  by_cases e : inC W.2.1 t ∧ t < m
  · rw [if_pos e]; exact ⟨(h5 _).1, fun z => absurd e.1 z⟩
  · rw [if_neg e]; exact ⟨by omega, fun _ => rfl⟩
theorem wturn_ok {W : Wd} (hk : Wok W) (w : Nat) : Wok (wturn W w) := wtn_ok hk w 125
theorem wtn_s {W : Wd} {w i j k : Nat} (hn : W.2.1 ≤ 5) (hi : i < W.2.1) (hj : j < W.2.1) (hk : k < W.2.1) : wput (wtn W w (25 * i + 5 * j + k)) i j k (W.2.2 (tix w i j k)) = wtn W w (25 * i + 5 * j + k + 1) := by
  unfold wput wtn
  refine congrArg (fun z => (W.1, W.2.1, z)) (funext fun t => ?_)
  show (if t = 25 * i + 5 * j + k then W.2.2 (tix w i j k) else if inC W.2.1 t ∧ t < 25 * i + 5 * j + k then W.2.2 (tix w (t / 25) (t / 5 % 5) (t % 5)) else 0) = if inC W.2.1 t ∧ t < 25 * i + 5 * j + k + 1 then W.2.2 (tix w (t / 25) (t / 5 % 5) (t % 5)) else 0
  by_cases e : t = 25 * i + 5 * j + k
  · have e1 : t / 25 = i := by omega
    have e2 : t / 5 % 5 = j := by omega
    have e3 : t % 5 = k := by omega
    rw [if_pos e, if_pos ⟨⟨by omega, by omega, by omega, by omega⟩, by omega⟩, e1, e2, e3]
  · rw [if_neg e]
    by_cases e2 : inC W.2.1 t ∧ t < 25 * i + 5 * j + k
    · rw [if_pos e2, if_pos ⟨e2.1, by omega⟩]
    · rw [if_neg e2, if_neg (fun q => e2 ⟨q.1, by omega⟩)]
/-- nothing of the cube lies between the end of a row and the next row -/
theorem wtn_gap {W : Wd} {w m m2 : Nat} (hm : m ≤ m2) (hg : ∀ t, m ≤ t → t < m2 → ¬ inC W.2.1 t) : wtn W w m = wtn W w m2 := by
  unfold wtn
  refine congrArg (fun z => (W.1, W.2.1, z)) (funext fun t => ?_)
  by_cases e : inC W.2.1 t ∧ t < m
  · rw [if_pos e, if_pos ⟨e.1, by omega⟩]
  · rw [if_neg e]
    by_cases e2 : inC W.2.1 t ∧ t < m2
    · exact absurd e2.1 (hg t (Nat.not_lt.mp fun q => e ⟨e2.1, q⟩) e2.2)
    · rw [if_neg e2]
section TF
variable {o2 : Nat} {w sz : Nat}
theorem l_turn_k {i j : Nat} {hh : AH} (hk : Wok W) (hw : w < 6) (d : o + 3 ≤ o2 ∨ o2 + 3 ≤ o) (hi : i < W.2.1) (hj : j < W.2.1)
    (kk : ∀ h1 f1, WAt h1 o (wtn W w (25 * i + 5 * j + W.2.1)) f1 → WAt h1 o2 W f → (W.2.1 = W.2.1 → f1 = -2) → Ew o hh h1 → VV MX9_turnFrom sz (fun h' => WAt h' o (wturn W w) (-2) ∧ Ew o hh h') h1 71 [some (.ref o), some (.ref o2), some (.int (nI w)), some (.int (nI i)), some (.int (nI j)), none] []) :
    ∀ (n k : Nat), n = W.2.1 - k → k ≤ W.2.1 → ∀ h1 f1, WAt h1 o (wtn W w (25 * i + 5 * j + k)) f1 → WAt h1 o2 W f → f1 = -2 → Ew o hh h1 → VV MX9_turnFrom sz (fun h' => WAt h' o (wturn W w) (-2) ∧ Ew o hh h') h1 37 [some (.ref o), some (.ref o2), some (.int (nI w)), some (.int (nI i)), some (.int (nI j)), some (.int (nI k))] [] := by
  obtain ⟨b1, b2, b3, b4, b5⟩ := hk.b
  intro n
  induction n with
  | zero =>
    intro k hn hkn h1 f1 hA hB hf he
    have e : k = W.2.1 := by omega
    subst e
    obtain ⟨q0, q1, g, q2⟩ := id hA
    have q0 : h1 o = some (ob 8 [.int (nI W.1), .int (nI W.2.1), .int (nI (W.1 ^ W.2.1)), .int f1, .ref (o + 1), .ref (o + 2)]) := q0
    refine e_iload (pc := 37) dX9_turnFrom_37 rfl ?_
    refine e_aload_n (pc := 39) dX9_turnFrom_39 rfl rfl ?_
    refine e_get (pc := 40) fl_X9_15 dX9_turnFrom_40 (by repeat (first | assumption | exact hset_eq _ _ _ | rw [hset_ne _ _ (by omega)])) (by rfl) ?_
    refine n_icmp_ge (pc := 43) (tgt := 71) dX9_turnFrom_43 (by decide) (by omega) (by omega) (fun c => ?_) (fun c => absurd c (by omega))
    refine V.mask [true, true, true, true, true, false] ?_
    exact kk h1 f1 hA hB (fun _ => hf) he
  | succ n ih =>
    intro k hn hkn h1 f1 hA hB hf he
    obtain ⟨q0, q1, g, q2⟩ := id hA
    have q0 : h1 o = some (ob 8 [.int (nI W.1), .int (nI W.2.1), .int (nI (W.1 ^ W.2.1)), .int f1, .ref (o + 1), .ref (o + 2)]) := q0
    obtain ⟨r0, r1, g2, r2⟩ := id hB
    refine e_iload (pc := 37) dX9_turnFrom_37 rfl ?_
    refine e_aload_n (pc := 39) dX9_turnFrom_39 rfl rfl ?_
    refine e_get (pc := 40) fl_X9_15 dX9_turnFrom_40 (by repeat (first | assumption | exact hset_eq _ _ _ | rw [hset_ne _ _ (by omega)])) (by rfl) ?_
    refine n_icmp_ge (pc := 43) (tgt := 71) dX9_turnFrom_43 (by decide) (by omega) (by omega) (fun c => absurd c (by omega)) (fun c => ?_)
    refine e_aload_n (pc := 46) dX9_turnFrom_46 rfl rfl ?_
    refine e_iload_n (pc := 47) dX9_turnFrom_47 rfl rfl ?_
    refine e_iload (pc := 48) dX9_turnFrom_48 rfl ?_
    refine e_iload (pc := 50) dX9_turnFrom_50 rfl ?_
    refine e_aload_n (pc := 52) dX9_turnFrom_52 rfl rfl ?_
    refine e_iload_n (pc := 53) dX9_turnFrom_53 rfl rfl ?_
    refine e_iload_n (pc := 54) dX9_turnFrom_54 rfl rfl ?_
    refine e_iload (pc := 55) dX9_turnFrom_55 rfl ?_
    refine e_iload (pc := 57) dX9_turnFrom_57 rfl ?_
    refine n_VP (pc := 59) (c_X9_turnedCell hB hk hw hi hj (show k < W.2.1 by omega)) bX9_turnedCell q_i_X9_turnedCell q_s_X9_turnedCell q_m_X9_67 dX9_turnFrom_59 rfl rfl (by repeat (first | assumption | exact hset_eq _ _ _ | rw [hset_ne _ _ (by omega)])) rfl rfl (by exact Nat.le_of_ble_eq_true rfl) ⟨by decide, by decide⟩ ⟨rfl, rfl, Nat.zero_le _, Nat.zero_le _⟩ ?_
    refine n_Vv (pc := 62) (c_X9_put hA (wtn_ok hk w _) hi hj (show k < W.2.1 by omega)) bX9_put q_i_X9_put q_s_X9_put q_m_X9_55 dX9_turnFrom_62 rfl rfl (by repeat (first | assumption | exact hset_eq _ _ _ | rw [hset_ne _ _ (by omega)])) rfl rfl (by exact Nat.le_of_ble_eq_true rfl) ⟨by decide, by decide⟩ ⟨rfl, rfl, Nat.zero_le _, Nat.zero_le _⟩ (fun h2 hp => ?_)
    obtain ⟨p1, p2⟩ := hp
    rw [wtn_s b4 hi hj (by omega)] at p1
    refine n_inc (pc := 65) dX9_turnFrom_65 rfl (by decide) ?_
    refine e_goto (pc := 68) (tgt := 37) dX9_turnFrom_68 (by decide) ?_
    exact ih (k + 1) (by omega) (by omega) h2 _ p1 (hB.far p2 (by omega)) rfl (he.tr p2)
theorem l_turn_j {i : Nat} {hh : AH} (hk : Wok W) (hw : w < 6) (d : o + 3 ≤ o2 ∨ o2 + 3 ≤ o) (hi : i < W.2.1)
    (kk : ∀ h1 f1, WAt h1 o (wtn W w (25 * (i + 1))) f1 → WAt h1 o2 W f → f1 = -2 → Ew o hh h1 → VV MX9_turnFrom sz (fun h' => WAt h' o (wturn W w) (-2) ∧ Ew o hh h') h1 77 [some (.ref o), some (.ref o2), some (.int (nI w)), some (.int (nI i)), none, none] []) :
    ∀ (n j : Nat), n = W.2.1 - j → j ≤ W.2.1 → ∀ h1 f1, WAt h1 o (wtn W w (25 * i + 5 * j)) f1 → WAt h1 o2 W f → f1 = -2 → Ew o hh h1 → VV MX9_turnFrom sz (fun h' => WAt h' o (wturn W w) (-2) ∧ Ew o hh h') h1 25 [some (.ref o), some (.ref o2), some (.int (nI w)), some (.int (nI i)), some (.int (nI j)), none] [] := by
  obtain ⟨b1, b2, b3, b4, b5⟩ := hk.b
  intro n
  induction n with
  | zero =>
    intro j hn hjn h1 f1 hA hB hf he
    have e : j = W.2.1 := by omega
    subst e
    obtain ⟨q0, q1, g, q2⟩ := id hA
    have q0 : h1 o = some (ob 8 [.int (nI W.1), .int (nI W.2.1), .int (nI (W.1 ^ W.2.1)), .int f1, .ref (o + 1), .ref (o + 2)]) := q0
    refine e_iload (pc := 25) dX9_turnFrom_25 rfl ?_
    refine e_aload_n (pc := 27) dX9_turnFrom_27 rfl rfl ?_
    refine e_get (pc := 28) fl_X9_15 dX9_turnFrom_28 (by repeat (first | assumption | exact hset_eq _ _ _ | rw [hset_ne _ _ (by omega)])) (by rfl) ?_
    refine n_icmp_ge (pc := 31) (tgt := 77) dX9_turnFrom_31 (by decide) (by omega) (by omega) (fun c => ?_) (fun c => absurd c (by omega))
    refine V.mask [true, true, true, true, false, false] ?_
    refine kk h1 f1 ?_ hB hf he
    rw [← wtn_gap (m := 25 * i + 5 * W.2.1) (by omega) (fun t h1 h2 z => by unfold inC at z; omega)]
    exact hA
  | succ n ih =>
    intro j hn hjn h1 f1 hA hB hf he
    obtain ⟨q0, q1, g, q2⟩ := id hA
    have q0 : h1 o = some (ob 8 [.int (nI W.1), .int (nI W.2.1), .int (nI (W.1 ^ W.2.1)), .int f1, .ref (o + 1), .ref (o + 2)]) := q0
    refine e_iload (pc := 25) dX9_turnFrom_25 rfl ?_
    refine e_aload_n (pc := 27) dX9_turnFrom_27 rfl rfl ?_
    refine e_get (pc := 28) fl_X9_15 dX9_turnFrom_28 (by repeat (first | assumption | exact hset_eq _ _ _ | rw [hset_ne _ _ (by omega)])) (by rfl) ?_
    refine n_icmp_ge (pc := 31) (tgt := 77) dX9_turnFrom_31 (by decide) (by omega) (by omega) (fun c => absurd c (by omega)) (fun c => ?_)
    refine n_iconst (pc := 34) 0 dX9_turnFrom_34 (by decide) ?_
    refine e_istore (pc := 35) dX9_turnFrom_35 (by decide) ?_
    refine l_turn_k hk hw d hi (by omega) (fun h3 f3 hA3 hB3 hf3 he3 => ?_) (W.2.1 - 0) 0 rfl (by omega) h1 f1 hA hB hf he
    refine n_inc (pc := 71) dX9_turnFrom_71 rfl (by decide) ?_
    refine e_goto (pc := 74) (tgt := 25) dX9_turnFrom_74 (by decide) ?_
    refine ih (j + 1) (by omega) (by omega) h3 f3 ?_ hB3 (hf3 rfl) he3
    rw [← wtn_gap (m := 25 * i + 5 * j + W.2.1) (by omega) (fun t h1 h2 z => by unfold inC at z; omega)]
    exact hA3
theorem l_turn_i {hh : AH} (hk : Wok W) (hw : w < 6) (d : o + 3 ≤ o2 ∨ o2 + 3 ≤ o) :
    ∀ (n i : Nat), n = W.2.1 - i → i ≤ W.2.1 → ∀ h1 f1, WAt h1 o (wtn W w (25 * i)) f1 → WAt h1 o2 W f → f1 = -2 → Ew o hh h1 → VV MX9_turnFrom sz (fun h' => WAt h' o (wturn W w) (-2) ∧ Ew o hh h') h1 14 [some (.ref o), some (.ref o2), some (.int (nI w)), some (.int (nI i)), none, none] [] := by
  obtain ⟨b1, b2, b3, b4, b5⟩ := hk.b
  intro n
  induction n with
  | zero =>
    intro i hn hin h1 f1 hA hB hf he
    have e : i = W.2.1 := by omega
    subst e
    obtain ⟨q0, q1, g, q2⟩ := id hA
    have q0 : h1 o = some (ob 8 [.int (nI W.1), .int (nI W.2.1), .int (nI (W.1 ^ W.2.1)), .int f1, .ref (o + 1), .ref (o + 2)]) := q0
    refine e_iload_n (pc := 14) dX9_turnFrom_14 rfl rfl ?_
    refine e_aload_n (pc := 15) dX9_turnFrom_15 rfl rfl ?_
    refine e_get (pc := 16) fl_X9_15 dX9_turnFrom_16 (by repeat (first | assumption | exact hset_eq _ _ _ | rw [hset_ne _ _ (by omega)])) (by rfl) ?_
    refine n_icmp_ge (pc := 19) (tgt := 83) dX9_turnFrom_19 (by decide) (by omega) (by omega) (fun c => ?_) (fun c => absurd c (by omega))
    subst hf
    refine n_vret (pc := 83) dX9_turnFrom_83 rfl ⟨?_, he⟩
    unfold wturn
    rw [← wtn_gap (m := 25 * W.2.1) (by omega) (fun t h1 h2 z => by unfold inC at z; omega)]
    exact hA
  | succ n ih =>
    intro i hn hin h1 f1 hA hB hf he
    obtain ⟨q0, q1, g, q2⟩ := id hA
    have q0 : h1 o = some (ob 8 [.int (nI W.1), .int (nI W.2.1), .int (nI (W.1 ^ W.2.1)), .int f1, .ref (o + 1), .ref (o + 2)]) := q0
    refine e_iload_n (pc := 14) dX9_turnFrom_14 rfl rfl ?_
    refine e_aload_n (pc := 15) dX9_turnFrom_15 rfl rfl ?_
    refine e_get (pc := 16) fl_X9_15 dX9_turnFrom_16 (by repeat (first | assumption | exact hset_eq _ _ _ | rw [hset_ne _ _ (by omega)])) (by rfl) ?_
    refine n_icmp_ge (pc := 19) (tgt := 83) dX9_turnFrom_19 (by decide) (by omega) (by omega) (fun c => absurd c (by omega)) (fun c => ?_)
    refine n_iconst (pc := 22) 0 dX9_turnFrom_22 (by decide) ?_
    refine e_istore (pc := 23) dX9_turnFrom_23 (by decide) ?_
    refine l_turn_j hk hw d (by omega) (fun h3 f3 hA3 hB3 hf3 he3 => ?_) (W.2.1 - 0) 0 rfl (by omega) h1 f1 hA hB hf he
    refine n_inc (pc := 77) dX9_turnFrom_77 rfl (by decide) ?_
    refine e_goto (pc := 80) (tgt := 14) dX9_turnFrom_80 (by decide) ?_
    exact ih (i + 1) (by omega) (by omega) h3 f3 hA3 hB3 hf3 he3
theorem c_X9_turnFrom {W0 : Wd} {f0 : Int32} (hW0 : WAt h o W0 f0) (hk0 : Wok W0) (hW : WAt h o2 W f) (hk : Wok W) (hw : w < 6) (d : o + 3 ≤ o2 ∨ o2 + 3 ≤ o) : CV yX9_turnFrom MX9_turnFrom [.ref o, .ref o2, .int (nI w)] h (fun h' => WAt h' o (wturn W w) (-2) ∧ Ew o h h') := by
  obtain ⟨b1, b2, b3, b4, b5⟩ := hk.b
  obtain ⟨q0, q1, g, q2⟩ := id hW0
  obtain ⟨r0, r1, g2, r2⟩ := id hW
  refine CV.ofV (by decide) rfl rfl (by simp [Value.category]) (by exact Nat.le_of_ble_eq_true rfl) (fun sz => ?_)
  refine e_aload_n (pc := 0) dX9_turnFrom_0 rfl rfl ?_
  refine e_aload_n (pc := 1) dX9_turnFrom_1 rfl rfl ?_
  refine e_get (pc := 2) fl_X9_9 dX9_turnFrom_2 (by repeat (first | assumption | exact hset_eq _ _ _ | rw [hset_ne _ _ (by omega)])) (by rfl) ?_
  refine e_aload_n (pc := 5) dX9_turnFrom_5 rfl rfl ?_
  refine e_get (pc := 6) fl_X9_15 dX9_turnFrom_6 (by repeat (first | assumption | exact hset_eq _ _ _ | rw [hset_ne _ _ (by omega)])) (by rfl) ?_
  refine n_Vv (pc := 9) (c_X9_clear hW0 hk0 ⟨hk.1, b3, b4, b5⟩) bX9_clear q_i_X9_clear q_s_X9_clear q_m_X9_63 dX9_turnFrom_9 rfl rfl (by repeat (first | assumption | exact hset_eq _ _ _ | rw [hset_ne _ _ (by omega)])) rfl rfl (by exact Nat.le_of_ble_eq_true rfl) ⟨by decide, by decide⟩ ⟨rfl, rfl, Nat.zero_le _, Nat.zero_le _⟩ (fun h2 hp => ?_)
  obtain ⟨p1, p2⟩ := hp
  refine n_iconst (pc := 12) 0 dX9_turnFrom_12 (by decide) ?_
  refine e_istore_n (pc := 13) dX9_turnFrom_13 rfl (by decide) ?_
  refine l_turn_i hk hw d (W.2.1 - 0) 0 rfl (by omega) h2 (-2) ?_ (hW.far p2 (by omega)) rfl p2
  have e : wtn W w (25 * 0) = (W.1, W.2.1, fun _ => 0) := by
    unfold wtn
    refine congrArg (fun z => (W.1, W.2.1, z)) (funext fun t => ?_)
    exact if_neg (by omega)
  rw [e]
  exact p1
end TF
/-- up to (i, j, k) in the order of the loops the digits agree -/
def Wcom (W : Wd) : Prop := ∀ i j k, j < i → i < W.2.1 → k < W.2.1 → W.2.2 (25 * i + 5 * j + k) = W.2.2 (25 * j + 5 * i + k)
theorem l_com_k {sz i j : Nat} (hW : WAt h o W f) (hk : Wok W) (hi : i < W.2.1) (hj : j < i) {Pr : Int32 → AH → Prop} (hq : ¬ Wcom W → Pr 0 h)
    (kk : (∀ k, k < W.2.1 → W.2.2 (25 * i + 5 * j + k) = W.2.2 (25 * j + 5 * i + k)) → VI MX9_commutes sz Pr h 52 [some (.ref o), some (.int (nI i)), some (.int (nI j)), none] []) :
    ∀ (n k : Nat), n = W.2.1 - k → k ≤ W.2.1 → (∀ t, t < k → W.2.2 (25 * i + 5 * j + t) = W.2.2 (25 * j + 5 * i + t)) → VI MX9_commutes sz Pr h 19 [some (.ref o), some (.int (nI i)), some (.int (nI j)), some (.int (nI k))] [] := by
  obtain ⟨b1, b2, b3, b4, b5⟩ := hk.b
  obtain ⟨q0, q1, g, q2⟩ := id hW
  intro n
  induction n with
  | zero =>
    intro k hn hkn ht
    have e : k = W.2.1 := by omega
    subst e
    refine e_iload_n (pc := 19) dX9_commutes_19 rfl rfl ?_
    refine e_aload_n (pc := 20) dX9_commutes_20 rfl rfl ?_
    refine e_get (pc := 21) fl_X9_15 dX9_commutes_21 (by repeat (first | assumption | exact hset_eq _ _ _ | rw [hset_ne _ _ (by omega)])) (by rfl) ?_
    refine n_icmp_ge (pc := 24) (tgt := 52) dX9_commutes_24 (by decide) (by omega) (by omega) (fun c => ?_) (fun c => absurd c (by omega))
    refine V.mask [true, true, true, false] ?_
    exact kk ht
  | succ n ih =>
    intro k hn hkn ht
    have r1 := hk.c (25 * i + 5 * j + k)
    have r2 := hk.c (25 * j + 5 * i + k)
    refine e_iload_n (pc := 19) dX9_commutes_19 rfl rfl ?_
    refine e_aload_n (pc := 20) dX9_commutes_20 rfl rfl ?_
    refine e_get (pc := 21) fl_X9_15 dX9_commutes_21 (by repeat (first | assumption | exact hset_eq _ _ _ | rw [hset_ne _ _ (by omega)])) (by rfl) ?_
    refine n_icmp_ge (pc := 24) (tgt := 52) dX9_commutes_24 (by decide) (by omega) (by omega) (fun c => absurd c (by omega)) (fun c => ?_)
    refine e_aload_n (pc := 27) dX9_commutes_27 rfl rfl ?_
    refine e_iload_n (pc := 28) dX9_commutes_28 rfl rfl ?_
    refine e_iload_n (pc := 29) dX9_commutes_29 rfl rfl ?_
    refine e_iload_n (pc := 30) dX9_commutes_30 rfl rfl ?_
    refine n_VP (pc := 31) (c_X9_cell hW hk hi (show j < W.2.1 by omega) (show k < W.2.1 by omega)) bX9_cell q_i_X9_cell q_s_X9_cell q_m_X9_59 dX9_commutes_31 rfl rfl (by repeat (first | assumption | exact hset_eq _ _ _ | rw [hset_ne _ _ (by omega)])) rfl rfl (by exact Nat.le_of_ble_eq_true rfl) ⟨by decide, by decide⟩ ⟨rfl, rfl, Nat.zero_le _, Nat.zero_le _⟩ ?_
    refine e_aload_n (pc := 34) dX9_commutes_34 rfl rfl ?_
    refine e_iload_n (pc := 35) dX9_commutes_35 rfl rfl ?_
    refine e_iload_n (pc := 36) dX9_commutes_36 rfl rfl ?_
    refine e_iload_n (pc := 37) dX9_commutes_37 rfl rfl ?_
    refine n_VP (pc := 38) (c_X9_cell hW hk (show j < W.2.1 by omega) hi (show k < W.2.1 by omega)) bX9_cell q_i_X9_cell q_s_X9_cell q_m_X9_59 dX9_commutes_38 rfl rfl (by repeat (first | assumption | exact hset_eq _ _ _ | rw [hset_ne _ _ (by omega)])) rfl rfl (by exact Nat.le_of_ble_eq_true rfl) ⟨by decide, by decide⟩ ⟨rfl, rfl, Nat.zero_le _, Nat.zero_le _⟩ ?_
    refine n_icmp_eq (pc := 41) (tgt := 46) dX9_commutes_41 (by decide) (by omega) (by omega) (fun c9 => ?_) (fun c9 => ?_)
    · refine n_inc (pc := 46) dX9_commutes_46 rfl (by decide) ?_
      refine e_goto (pc := 49) (tgt := 19) dX9_commutes_49 (by decide) ?_
      refine ih (k + 1) (by omega) (by omega) (fun t h1 => ?_)
      by_cases e : t = k
      · subst e; exact c9
      · exact ht t (by omega)
    · refine n_iconst (pc := 44) 0 dX9_commutes_44 (by decide) ?_
      exact n_zret (pc := 45) dX9_commutes_45 rfl rfl (hq (fun z => c9 (z i j k hj hi (by omega))))
theorem l_com_j {sz i : Nat} (hW : WAt h o W f) (hk : Wok W) (hi : i < W.2.1) {Pr : Int32 → AH → Prop} (hq : ¬ Wcom W → Pr 0 h)
    (kk : (∀ j k, j < i → k < W.2.1 → W.2.2 (25 * i + 5 * j + k) = W.2.2 (25 * j + 5 * i + k)) → VI MX9_commutes sz Pr h 58 [some (.ref o), some (.int (nI i)), none, none] []) :
    ∀ (n j : Nat), n = i - j → j ≤ i → (∀ s t, s < j → t < W.2.1 → W.2.2 (25 * i + 5 * s + t) = W.2.2 (25 * s + 5 * i + t)) → VI MX9_commutes sz Pr h 12 [some (.ref o), some (.int (nI i)), some (.int (nI j)), none] [] := by
  obtain ⟨b1, b2, b3, b4, b5⟩ := hk.b
  obtain ⟨q0, q1, g, q2⟩ := id hW
  intro n
  induction n with
  | zero =>
    intro j hn hjn ht
    have e : j = i := by omega
    subst e
    refine e_iload_n (pc := 12) dX9_commutes_12 rfl rfl ?_
    refine e_iload_n (pc := 13) dX9_commutes_13 rfl rfl ?_
    refine n_icmp_ge (pc := 14) (tgt := 58) dX9_commutes_14 (by decide) (by omega) (by omega) (fun c => ?_) (fun c => absurd c (by omega))
    refine V.mask [true, true, false, false] ?_
    exact kk ht
  | succ n ih =>
    intro j hn hjn ht
    refine e_iload_n (pc := 12) dX9_commutes_12 rfl rfl ?_
    refine e_iload_n (pc := 13) dX9_commutes_13 rfl rfl ?_
    refine n_icmp_ge (pc := 14) (tgt := 58) dX9_commutes_14 (by decide) (by omega) (by omega) (fun c => absurd c (by omega)) (fun c => ?_)
    refine n_iconst (pc := 17) 0 dX9_commutes_17 (by decide) ?_
    refine e_istore_n (pc := 18) dX9_commutes_18 rfl (by decide) ?_
    refine l_com_k hW hk hi (by omega) hq (fun hh => ?_) (W.2.1 - 0) 0 rfl (by omega) (fun t h1 => absurd h1 (Nat.not_lt_zero _))
    refine n_inc (pc := 52) dX9_commutes_52 rfl (by decide) ?_
    refine e_goto (pc := 55) (tgt := 12) dX9_commutes_55 (by decide) ?_
    refine ih (j + 1) (by omega) (by omega) (fun s t h1 h2 => ?_)
    by_cases e : s = j
    · subst e; exact hh t h2
    · exact ht s t (by omega) h2
theorem l_com_i {sz : Nat} (hW : WAt h o W f) (hk : Wok W) {Pr : Int32 → AH → Prop} (hq : ¬ Wcom W → Pr 0 h) (hq2 : Wcom W → Pr 1 h) :
    ∀ (n i : Nat), n = W.2.1 - i → i ≤ W.2.1 → (∀ r s t, s < r → r < i → t < W.2.1 → W.2.2 (25 * r + 5 * s + t) = W.2.2 (25 * s + 5 * r + t)) → VI MX9_commutes sz Pr h 2 [some (.ref o), some (.int (nI i)), none, none] [] := by
  obtain ⟨b1, b2, b3, b4, b5⟩ := hk.b
  obtain ⟨q0, q1, g, q2⟩ := id hW
  intro n
  induction n with
  | zero =>
    intro i hn hin ht
    have e : i = W.2.1 := by omega
    subst e
    refine e_iload_n (pc := 2) dX9_commutes_2 rfl rfl ?_
    refine e_aload_n (pc := 3) dX9_commutes_3 rfl rfl ?_
    refine e_get (pc := 4) fl_X9_15 dX9_commutes_4 (by repeat (first | assumption | exact hset_eq _ _ _ | rw [hset_ne _ _ (by omega)])) (by rfl) ?_
    refine n_icmp_ge (pc := 7) (tgt := 64) dX9_commutes_7 (by decide) (by omega) (by omega) (fun c => ?_) (fun c => absurd c (by omega))
    refine n_iconst (pc := 64) 1 dX9_commutes_64 (by decide) ?_
    exact n_zret (pc := 65) dX9_commutes_65 rfl rfl (hq2 (fun i j k h1 h2 h3 => ht i j k h1 h2 h3))
  | succ n ih =>
    intro i hn hin ht
    refine e_iload_n (pc := 2) dX9_commutes_2 rfl rfl ?_
    refine e_aload_n (pc := 3) dX9_commutes_3 rfl rfl ?_
    refine e_get (pc := 4) fl_X9_15 dX9_commutes_4 (by repeat (first | assumption | exact hset_eq _ _ _ | rw [hset_ne _ _ (by omega)])) (by rfl) ?_
    refine n_icmp_ge (pc := 7) (tgt := 64) dX9_commutes_7 (by decide) (by omega) (by omega) (fun c => absurd c (by omega)) (fun c => ?_)
    refine n_iconst (pc := 10) 0 dX9_commutes_10 (by decide) ?_
    refine e_istore_n (pc := 11) dX9_commutes_11 rfl (by decide) ?_
    refine l_com_j hW hk (by omega) hq (fun hh => ?_) i 0 rfl (by omega) (fun s t h1 => absurd h1 (Nat.not_lt_zero _))
    refine n_inc (pc := 58) dX9_commutes_58 rfl (by decide) ?_
    refine e_goto (pc := 61) (tgt := 2) dX9_commutes_61 (by decide) ?_
    refine ih (i + 1) (by omega) (by omega) (fun r s t h1 h2 h3 => ?_)
    by_cases e : r = i
    · subst e; exact hh s t h1 h3
    · exact ht r s t h1 (by omega) h3
theorem c_X9_commutes (hW : WAt h o W f) (hk : Wok W) : CI yX9_commutes MX9_commutes [.ref o] h (fun x h' => isB x (Wcom W) ∧ h' = h) := by
  refine CI.ofV (by decide) rfl rfl (by simp [Value.category]) (by exact Nat.le_of_ble_eq_true rfl) (fun sz => ?_)
  refine n_iconst (pc := 0) 0 dX9_commutes_0 (by decide) ?_
  refine e_istore_n (pc := 1) dX9_commutes_1 rfl (by decide) ?_
  exact l_com_i hW hk (fun q => ⟨Or.inr ⟨q, rfl⟩, rfl⟩) (fun q => ⟨Or.inl ⟨q, rfl⟩, rfl⟩) (W.2.1 - 0) 0 rfl (by omega) (fun r s t h1 h2 => absurd h2 (Nat.not_lt_zero _))
end WX
