/-! ===== worlds ===== -/
def msk (bs : List Bool) (ls : List (Option Value)) : List (Option Value) := List.zipWith (fun b o => if b = true then o else none) bs ls
theorem V.mask {M : MI} {Post : Option Value → AH → Nat → Prop} {al : Nat × Nat × Nat} {h : AH} {pc : Nat} {ls : List (Option Value)} {st : List Value} (bs : List Bool) (k : V M Post al h pc (msk bs ls) st) : V M Post al h pc ls st := by
  refine V.forget (by simp [msk]; omega) (fun i v hi => ?_) k
  unfold msk at hi
  rw [List.getElem?_zipWith] at hi
  cases hb : bs[i]? with
  | none => simp [hb] at hi
  | some b =>
    cases hl : ls[i]? with
    | none => simp [hb, hl] at hi
    | some o =>
      simp only [hb, hl] at hi
      cases b with
      | true => simpa using hi
      | false => simp at hi
/-- an int that names one of n -/
def okI (x : Int32) (n : Nat) : Bool := !decide (x < 0) && decide (x < nI n)
theorem okI_nI {i n : Nat} (hi : i < 2 ^ 31) (hn : n < 2 ^ 31) : okI (nI i) n = decide (i < n) := by
  unfold okI
  rw [decide_eq_false (nI_pos hi)]
  simp [nI_ltI hi hn]
theorem okI_of {x : Int32} {n : Nat} (hn : n < 2 ^ 31) (h : okI x n = true) : ∃ j, j < n ∧ x = nI j := by
  unfold okI at h
  simp only [Bool.and_eq_true, Bool.not_eq_true', decide_eq_false_iff_not, decide_eq_true_eq] at h
  rcases pk_ix x hn with q | q | q
  · exact absurd q h.1
  · exact absurd h.2 (Int32.not_lt.mpr q)
  · exact q
theorem okI_lt {x : Int32} {n : Nat} (h : x < 0) : okI x n = false := by simp [okI, h]
theorem okI_ge {x : Int32} {n : Nat} (h : nI n ≤ x) : okI x n = false := by
  have : ¬ x < nI n := Int32.not_lt.mpr h
  simp [okI, this]
theorem okI_in {x : Int32} {n : Nat} (h1 : ¬ x < 0) (h2 : ¬ nI n ≤ x) : okI x n = true := by
  have : x < nI n := Int32.not_le.mp h2
  simp [okI, h1, this]
def bI (b : Bool) : Int32 := if b = true then 1 else 0
theorem bI_nar (b : Bool) : narrow .boolean (.int (bI b)) = .int (bI b) := by cases b <;> rfl
/-- prime, size, cube (place 25 i + 5 j + k) -/
abbrev Wd : Type := Nat × Nat × (Nat → Nat)
abbrev Wd.p (W : Wd) : Nat := W.1
abbrev Wd.n (W : Wd) : Nat := W.2.1
abbrev Wd.c (W : Wd) : Nat → Nat := W.2.2
abbrev Wd.q (W : Wd) : Nat := W.1 ^ W.2.1
abbrev inC (n k : Nat) : Prop := k < 125 ∧ k / 25 < n ∧ k / 5 % 5 < n ∧ k % 5 < n
/-- a world that may be: its prime, size and order; its digits; noughts beyond its size -/
def Wok (W : Wd) : Prop := (W.1 = 2 ∨ W.1 = 3 ∨ W.1 = 5) ∧ 1 ≤ W.2.1 ∧ W.2.1 ≤ 5 ∧ W.1 ^ W.2.1 ≤ 243 ∧ ∀ k, W.2.2 k < W.1 ∧ (¬ inC W.2.1 k → W.2.2 k = 0)
theorem Wok.b {W : Wd} (h : Wok W) : 2 ≤ W.1 ∧ W.1 ≤ 5 ∧ 1 ≤ W.2.1 ∧ W.2.1 ≤ 5 ∧ W.1 ^ W.2.1 ≤ 243 := by
  obtain ⟨h1, h2, h3, h4, -⟩ := h
  exact ⟨by omega, by omega, h2, h3, h4⟩
theorem Wok.pos {W : Wd} (h : Wok W) : 0 < W.1 ^ W.2.1 := Nat.pow_pos (by have := h.b; omega)
theorem Wok.c {W : Wd} (h : Wok W) (k : Nat) : W.2.2 k < W.1 := (h.2.2.2.2 k).1
/-- a World object: its cells lie behind it -/
def WAt (h : AH) (o : Nat) (W : Wd) (f : Int32) : Prop := h o = some (ob 8 [.int (nI W.1), .int (nI W.2.1), .int (nI (W.1 ^ W.2.1)), .int f, .ref (o + 1), .ref (o + 2)]) ∧ h (o + 1) = some (aI 125 (fun k => nI (W.2.2 k))) ∧ ∃ g, h (o + 2) = some (aI 5 g)
theorem WAt.kept {h h2 : AH} {o : Nat} {W : Wd} {f : Int32} (hW : WAt h o W f) (h0 : h2 o = h o) (h1 : h2 (o + 1) = h (o + 1)) (h3 : ∃ g, h2 (o + 2) = some (aI 5 g)) : WAt h2 o W f := ⟨by rw [h0]; exact hW.1, by rw [h1]; exact hW.2.1, h3⟩
section WG
variable {h : AH} {o : Nat} {W : Wd} {f : Int32}
theorem c_X9_prime (hW : WAt h o W f) : CP yX9_prime MX9_prime [.ref o] h (nI W.1) := by
  obtain ⟨h0, h1, g, h2⟩ := hW
  refine CI.ofV (by decide) rfl rfl (by simp [Value.category]) (by exact Nat.le_of_ble_eq_true rfl) (fun sz => ?_)
  refine e_aload_n (pc := 0) dX9_prime_0 rfl rfl ?_
  refine e_get (pc := 1) fl_X9_9 dX9_prime_1 (by repeat (first | assumption | exact hset_eq _ _ _ | rw [hset_ne _ _ (by omega)])) (by rfl) ?_
  exact n_iret (pc := 4) dX9_prime_4 rfl ⟨rfl, rfl⟩
theorem c_X9_size (hW : WAt h o W f) : CP yX9_size MX9_size [.ref o] h (nI W.2.1) := by
  obtain ⟨h0, h1, g, h2⟩ := hW
  refine CI.ofV (by decide) rfl rfl (by simp [Value.category]) (by exact Nat.le_of_ble_eq_true rfl) (fun sz => ?_)
  refine e_aload_n (pc := 0) dX9_size_0 rfl rfl ?_
  refine e_get (pc := 1) fl_X9_15 dX9_size_1 (by repeat (first | assumption | exact hset_eq _ _ _ | rw [hset_ne _ _ (by omega)])) (by rfl) ?_
  exact n_iret (pc := 4) dX9_size_4 rfl ⟨rfl, rfl⟩
theorem c_X9_order (hW : WAt h o W f) : CP yX9_order MX9_order [.ref o] h (nI (W.1 ^ W.2.1)) := by
  obtain ⟨h0, h1, g, h2⟩ := hW
  refine CI.ofV (by decide) rfl rfl (by simp [Value.category]) (by exact Nat.le_of_ble_eq_true rfl) (fun sz => ?_)
  refine e_aload_n (pc := 0) dX9_order_0 rfl rfl ?_
  refine e_get (pc := 1) fl_X9_18 dX9_order_1 (by repeat (first | assumption | exact hset_eq _ _ _ | rw [hset_ne _ _ (by omega)])) (by rfl) ?_
  exact n_iret (pc := 4) dX9_order_4 rfl ⟨rfl, rfl⟩
theorem c_X9_knownFailing (hW : WAt h o W f) : CP yX9_knownFailing MX9_knownFailing [.ref o] h f := by
  obtain ⟨h0, h1, g, h2⟩ := hW
  refine CI.ofV (by decide) rfl rfl (by simp [Value.category]) (by exact Nat.le_of_ble_eq_true rfl) (fun sz => ?_)
  refine e_aload_n (pc := 0) dX9_knownFailing_0 rfl rfl ?_
  refine e_get (pc := 1) fl_X9_21 dX9_knownFailing_1 (by repeat (first | assumption | exact hset_eq _ _ _ | rw [hset_ne _ _ (by omega)])) (by rfl) ?_
  exact n_iret (pc := 4) dX9_knownFailing_4 rfl ⟨rfl, rfl⟩
theorem c_X9_learnFailing (hW : WAt h o W f) (f2 : Int32) : CV yX9_learnFailing MX9_learnFailing [.ref o, .int f2] h (fun h' => h' = hset h o (ob 8 [.int (nI W.1), .int (nI W.2.1), .int (nI (W.1 ^ W.2.1)), .int f2, .ref (o + 1), .ref (o + 2)])) := by
  obtain ⟨h0, h1, g, h2⟩ := hW
  refine CV.ofV (by decide) rfl rfl (by simp [Value.category]) (by exact Nat.le_of_ble_eq_true rfl) (fun sz => ?_)
  refine e_aload_n (pc := 0) dX9_learnFailing_0 rfl rfl ?_
  refine e_iload_n (pc := 1) dX9_learnFailing_1 rfl rfl ?_
  refine e_put (pc := 2) pl_X9_21 dX9_learnFailing_2 (by repeat (first | assumption | exact hset_eq _ _ _ | rw [hset_ne _ _ (by omega)])) (by rfl) (by rfl) (by exact Nat.le_of_ble_eq_true rfl) ?_
  exact n_vret (pc := 5) dX9_learnFailing_5 rfl rfl
theorem c_X9_hasElement (hW : WAt h o W f) (x : Int32) : CP yX9_hasElement MX9_hasElement [.ref o, .int x] h (bI (okI x (W.1 ^ W.2.1))) := by
  obtain ⟨h0, h1, g, h2⟩ := hW
  refine CI.ofV (by decide) rfl rfl (by simp [Value.category]) (by exact Nat.le_of_ble_eq_true rfl) (fun sz => ?_)
  refine e_iload_n (pc := 0) dX9_hasElement_0 rfl rfl ?_
  refine e_if_lt (pc := 1) (tgt := 16) dX9_hasElement_1 (by decide) (fun c => ?_) (fun c => ?_)
  · refine n_iconst (pc := 16) 0 dX9_hasElement_16 (by decide) ?_
    exact n_zret (pc := 17) dX9_hasElement_17 rfl rfl ⟨by rw [okI_lt c]; rfl, rfl⟩
  refine e_iload_n (pc := 4) dX9_hasElement_4 rfl rfl ?_
  refine e_aload_n (pc := 5) dX9_hasElement_5 rfl rfl ?_
  refine e_get (pc := 6) fl_X9_18 dX9_hasElement_6 (by repeat (first | assumption | exact hset_eq _ _ _ | rw [hset_ne _ _ (by omega)])) (by rfl) ?_
  refine e_icmp_ge (pc := 9) (tgt := 16) dX9_hasElement_9 (by decide) (fun c2 => ?_) (fun c2 => ?_)
  · refine n_iconst (pc := 16) 0 dX9_hasElement_16 (by decide) ?_
    exact n_zret (pc := 17) dX9_hasElement_17 rfl rfl ⟨by rw [okI_ge c2]; rfl, rfl⟩
  refine n_iconst (pc := 12) 1 dX9_hasElement_12 (by decide) ?_
  refine e_goto (pc := 13) (tgt := 17) dX9_hasElement_13 (by decide) ?_
  exact n_zret (pc := 17) dX9_hasElement_17 rfl rfl ⟨by rw [okI_in c c2]; rfl, rfl⟩
theorem c_X9_hasCell (hW : WAt h o W f) (x y z : Int32) : CP yX9_hasCell MX9_hasCell [.ref o, .int x, .int y, .int z] h (bI (okI x W.2.1 && okI y W.2.1 && okI z W.2.1)) := by
  obtain ⟨h0, h1, g, h2⟩ := hW
  refine CI.ofV (by decide) rfl rfl (by simp [Value.category]) (by exact Nat.le_of_ble_eq_true rfl) (fun sz => ?_)
  refine e_iload_n (pc := 0) dX9_hasCell_0 rfl rfl ?_
  refine e_if_lt (pc := 1) (tgt := 40) dX9_hasCell_1 (by decide) (fun c => ?_) (fun c => ?_)
  · refine n_iconst (pc := 40) 0 dX9_hasCell_40 (by decide) ?_
    exact n_zret (pc := 41) dX9_hasCell_41 rfl rfl ⟨by rw [okI_lt c]; rfl, rfl⟩
  refine e_iload_n (pc := 4) dX9_hasCell_4 rfl rfl ?_
  refine e_aload_n (pc := 5) dX9_hasCell_5 rfl rfl ?_
  refine e_get (pc := 6) fl_X9_15 dX9_hasCell_6 (by repeat (first | assumption | exact hset_eq _ _ _ | rw [hset_ne _ _ (by omega)])) (by rfl) ?_
  refine e_icmp_ge (pc := 9) (tgt := 40) dX9_hasCell_9 (by decide) (fun c2 => ?_) (fun c2 => ?_)
  · refine n_iconst (pc := 40) 0 dX9_hasCell_40 (by decide) ?_
    exact n_zret (pc := 41) dX9_hasCell_41 rfl rfl ⟨by rw [okI_ge c2]; rfl, rfl⟩
  refine e_iload_n (pc := 12) dX9_hasCell_12 rfl rfl ?_
  refine e_if_lt (pc := 13) (tgt := 40) dX9_hasCell_13 (by decide) (fun c3 => ?_) (fun c3 => ?_)
  · refine n_iconst (pc := 40) 0 dX9_hasCell_40 (by decide) ?_
    exact n_zret (pc := 41) dX9_hasCell_41 rfl rfl ⟨by rw [okI_in c c2, okI_lt c3]; rfl, rfl⟩
  refine e_iload_n (pc := 16) dX9_hasCell_16 rfl rfl ?_
  refine e_aload_n (pc := 17) dX9_hasCell_17 rfl rfl ?_
  refine e_get (pc := 18) fl_X9_15 dX9_hasCell_18 (by repeat (first | assumption | exact hset_eq _ _ _ | rw [hset_ne _ _ (by omega)])) (by rfl) ?_
  refine e_icmp_ge (pc := 21) (tgt := 40) dX9_hasCell_21 (by decide) (fun c4 => ?_) (fun c4 => ?_)
  · refine n_iconst (pc := 40) 0 dX9_hasCell_40 (by decide) ?_
    exact n_zret (pc := 41) dX9_hasCell_41 rfl rfl ⟨by rw [okI_in c c2, okI_ge c4]; rfl, rfl⟩
  refine e_iload_n (pc := 24) dX9_hasCell_24 rfl rfl ?_
  refine e_if_lt (pc := 25) (tgt := 40) dX9_hasCell_25 (by decide) (fun c5 => ?_) (fun c5 => ?_)
  · refine n_iconst (pc := 40) 0 dX9_hasCell_40 (by decide) ?_
    exact n_zret (pc := 41) dX9_hasCell_41 rfl rfl ⟨by rw [okI_in c c2, okI_in c3 c4, okI_lt c5]; rfl, rfl⟩
  refine e_iload_n (pc := 28) dX9_hasCell_28 rfl rfl ?_
  refine e_aload_n (pc := 29) dX9_hasCell_29 rfl rfl ?_
  refine e_get (pc := 30) fl_X9_15 dX9_hasCell_30 (by repeat (first | assumption | exact hset_eq _ _ _ | rw [hset_ne _ _ (by omega)])) (by rfl) ?_
  refine e_icmp_ge (pc := 33) (tgt := 40) dX9_hasCell_33 (by decide) (fun c6 => ?_) (fun c6 => ?_)
  · refine n_iconst (pc := 40) 0 dX9_hasCell_40 (by decide) ?_
    exact n_zret (pc := 41) dX9_hasCell_41 rfl rfl ⟨by rw [okI_in c c2, okI_in c3 c4, okI_ge c6]; rfl, rfl⟩
  refine n_iconst (pc := 36) 1 dX9_hasCell_36 (by decide) ?_
  refine e_goto (pc := 37) (tgt := 41) dX9_hasCell_37 (by decide) ?_
  exact n_zret (pc := 41) dX9_hasCell_41 rfl rfl ⟨by rw [okI_in c c2, okI_in c3 c4, okI_in c5 c6]; rfl, rfl⟩
theorem c_X9_cell (hW : WAt h o W f) (hk : Wok W) {i j k : Nat} (hi : i < W.2.1) (hj : j < W.2.1) (hkk : k < W.2.1) : CP yX9_cell MX9_cell [.ref o, .int (nI i), .int (nI j), .int (nI k)] h (nI (W.2.2 (25 * i + 5 * j + k))) := by
  obtain ⟨h0, h1, g, h2⟩ := hW
  obtain ⟨b1, b2, b3, b4, b5⟩ := hk.b
  refine CI.ofV (by decide) rfl rfl (by simp [Value.category]) (by exact Nat.le_of_ble_eq_true rfl) (fun sz => ?_)
  refine e_iload_n (pc := 0) dX9_cell_0 rfl rfl ?_
  refine n_if_lt (pc := 1) (tgt := 36) dX9_cell_1 (by omega) ?_ (by decide)
  refine e_iload_n (pc := 4) dX9_cell_4 rfl rfl ?_
  refine e_aload_n (pc := 5) dX9_cell_5 rfl rfl ?_
  refine e_get (pc := 6) fl_X9_15 dX9_cell_6 (by repeat (first | assumption | exact hset_eq _ _ _ | rw [hset_ne _ _ (by omega)])) (by rfl) ?_
  refine n_icmp_ge (pc := 9) (tgt := 36) dX9_cell_9 (by decide) (by omega) (by omega) (fun c => absurd c (by omega)) (fun c => ?_)
  refine e_iload_n (pc := 12) dX9_cell_12 rfl rfl ?_
  refine n_if_lt (pc := 13) (tgt := 36) dX9_cell_13 (by omega) ?_ (by decide)
  refine e_iload_n (pc := 16) dX9_cell_16 rfl rfl ?_
  refine e_aload_n (pc := 17) dX9_cell_17 rfl rfl ?_
  refine e_get (pc := 18) fl_X9_15 dX9_cell_18 (by repeat (first | assumption | exact hset_eq _ _ _ | rw [hset_ne _ _ (by omega)])) (by rfl) ?_
  refine n_icmp_ge (pc := 21) (tgt := 36) dX9_cell_21 (by decide) (by omega) (by omega) (fun c => absurd c (by omega)) (fun c => ?_)
  refine e_iload_n (pc := 24) dX9_cell_24 rfl rfl ?_
  refine n_if_lt (pc := 25) (tgt := 36) dX9_cell_25 (by omega) ?_ (by decide)
  refine e_iload_n (pc := 28) dX9_cell_28 rfl rfl ?_
  refine e_aload_n (pc := 29) dX9_cell_29 rfl rfl ?_
  refine e_get (pc := 30) fl_X9_15 dX9_cell_30 (by repeat (first | assumption | exact hset_eq _ _ _ | rw [hset_ne _ _ (by omega)])) (by rfl) ?_
  refine n_icmp_lt (pc := 33) (tgt := 38) dX9_cell_33 (by decide) (by omega) (by omega) (fun c => ?_) (fun c => absurd c (by omega))
  refine e_aload_n (pc := 38) dX9_cell_38 rfl rfl ?_
  refine e_get (pc := 39) fl_X9_24 dX9_cell_39 (by repeat (first | assumption | exact hset_eq _ _ _ | rw [hset_ne _ _ (by omega)])) (by rfl) ?_
  refine n_bipush (pc := 42) 25 dX9_cell_42 (by decide) ?_
  refine e_iload_n (pc := 44) dX9_cell_44 rfl rfl ?_
  refine n_imul (pc := 45) dX9_cell_45 ?_
  refine n_iconst (pc := 46) 5 dX9_cell_46 (by decide) ?_
  refine e_iload_n (pc := 47) dX9_cell_47 rfl rfl ?_
  refine n_imul (pc := 48) dX9_cell_48 ?_
  refine n_iadd (pc := 49) dX9_cell_49 ?_
  refine e_iload_n (pc := 50) dX9_cell_50 rfl rfl ?_
  refine n_iadd (pc := 51) dX9_cell_51 ?_
  refine e_ialdN (pc := 52) _ dX9_cell_52 (by repeat (first | assumption | exact hset_eq _ _ _ | rw [hset_ne _ _ (by omega)])) (by rfl) (by omega) (by first | decide | omega) ?_
  exact n_iret (pc := 53) dX9_cell_53 rfl ⟨rfl, rfl⟩
theorem c_X9_base (hW : WAt h o W f) (hk : Wok W) {i : Nat} (hi : i ≤ 5) : CP yX9_base MX9_base [.ref o, .int (nI i)] h (nI (W.1 ^ i)) := by
  obtain ⟨b1, b2, b3, b4, b5⟩ := hk.b
  obtain ⟨h0, h1, g, h2⟩ := hW
  refine CI.ofV (by decide) rfl rfl (by simp [Value.category]) (by exact Nat.le_of_ble_eq_true rfl) (fun sz => ?_)
  refine e_aload_n (pc := 0) dX9_base_0 rfl rfl ?_
  refine e_get (pc := 1) fl_X9_9 dX9_base_1 (by repeat (first | assumption | exact hset_eq _ _ _ | rw [hset_ne _ _ (by omega)])) (by rfl) ?_
  refine e_iload_n (pc := 4) dX9_base_4 rfl rfl ?_
  refine n_SP (pc := 5) (c_X8_power hi b2) bX8_power q_st_X8_power q_m_X9_37 dX9_base_5 rfl rfl (by exact Nat.le_of_ble_eq_true rfl) ⟨by decide, by decide⟩ ⟨rfl, rfl, Nat.zero_le _, Nat.zero_le _⟩ ?_
  exact n_iret (pc := 8) dX9_base_8 rfl ⟨rfl, rfl⟩
end WG
