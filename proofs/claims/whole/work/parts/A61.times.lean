/-! ===== the reference: products by a cube of which only the places up to its size are told ===== -/
section TI
variable {h : AH} {m q : Nat} {s : Ms} {W : Wd}
/-- the cube in a row of ints, where it counts -/
def CuI (h : AH) (c : Nat) (W : Wd) : Prop := ∃ g, h c = some (aI 125 g) ∧ ∀ i j k, i < W.2.1 → j < W.2.1 → k < W.2.1 → g (25 * i + 5 * j + k) = nI (W.2.2 (25 * i + 5 * j + k))
theorem CuI.keep {h2 : AH} {c : Nat} (q : CuI h c W) (e : h2 c = h c) : CuI h2 c W := by
  obtain ⟨g, g1, g2⟩ := q
  exact ⟨g, e.trans g1, g2⟩
theorem CuA.i {c : Nat} (q : CuA h c W) (hk : Wok W) : CuI h c W := by
  obtain ⟨b1, b2, b3, b4, b5⟩ := hk.b
  obtain ⟨g, g1, g2⟩ := q
  exact ⟨g, g1, fun i j k hi hj hkk => g2 _ (by omega)⟩
/-- what stands still in a product -/
def TbI (H : AH) (m c q : Nat) (s : Ms) (W : Wd) (x y : Nat) : Prop := MH H m W.1 W.2.1 q s ∧ (∃ g, H (m + 4) = some (aI 5 g) ∧ ∀ j, j < 5 → g j = nI (dgn W.1 W.2.1 x j)) ∧ (∃ g, H (m + 5) = some (aI 5 g) ∧ ∀ j, j < 5 → g j = nI (dgn W.1 W.2.1 y j)) ∧ CuI H c W ∧ c ≠ m + 6
section TB
variable {H : AH} {c x y sz : Nat} {Pr : Int32 → AH → Prop}
theorem l_ti_k {i j : Nat} (hC : TbI H m c q s W x y) (hk : Wok W) (hi : i < W.2.1) (hj : j < W.2.1)
    (kk : ∀ g, (∀ k, k < W.2.1 → g k = nI (acx W x y i (j + 1) k)) → VI MX11_timesBy sz Pr (hset H (m + 6) (aI 5 g)) 153 [some (.ref m), some (.ref c), none, none, some (.int (nI i)), some (.int (nI j)), none] []) :
    ∀ (t k : Nat), t = W.2.1 - k → k ≤ W.2.1 → ∀ g, (∀ a, a < W.2.1 → g a = nI (if a < k then acx W x y i (j + 1) a else acx W x y i j a)) → VI MX11_timesBy sz Pr (hset H (m + 6) (aI 5 g)) 97 [some (.ref m), some (.ref c), none, none, some (.int (nI i)), some (.int (nI j)), some (.int (nI k))] [] := by
  obtain ⟨b1, b2, b3, b4, b5⟩ := hk.b
  obtain ⟨hM, ⟨gx, x1, x2⟩, ⟨gy, y1, y2⟩, ⟨gc, c1, c2⟩, c3⟩ := hC
  intro t
  induction t with
  | zero =>
    intro k e1 e2 g hg
    have e' : k = W.2.1 := by omega
    subst e'
    have hM1 : MH (hset H (m + 6) (aI 5 g)) m W.1 W.2.1 q s := (hset_ne _ _ (by omega)).trans hM
    refine e_iload (pc := 97) dX11_timesBy_97 rfl ?_
    refine e_aload_n (pc := 99) dX11_timesBy_99 rfl rfl ?_
    refine e_get (pc := 100) fl_X11_109 dX11_timesBy_100 (by repeat (first | assumption | exact hset_eq _ _ _ | (apply Lay.hd; assumption) | rw [hset_ne _ _ (by omega)])) (by rfl) ?_
    refine n_icmp_ge (pc := 103) (tgt := 153) dX11_timesBy_103 (by decide) (by omega) (by omega) (fun hb_ => ?_) (fun c => absurd c (by omega))
    refine V.mask [true, true, false, false, true, true, false] ?_
    exact kk g (fun a ha => by rw [hg a ha, if_pos ha])
  | succ t ih =>
    intro k e1 e2 g hg
    have hk1 : k < W.2.1 := by omega
    have hM1 : MH (hset H (m + 6) (aI 5 g)) m W.1 W.2.1 q s := (hset_ne _ _ (by omega)).trans hM
    have g1 := hg k hk1
    rw [if_neg (Nat.lt_irrefl k)] at g1
    have z1 := c2 i j k hi hj hk1
    have z2 := x2 i (by omega)
    have z3 := y2 j (by omega)
    rw [show dgn W.1 W.2.1 x i = dg W.1 x i from if_pos hi] at z2
    rw [show dgn W.1 W.2.1 y j = dg W.1 y j from if_pos hj] at z3
    refine e_iload (pc := 97) dX11_timesBy_97 rfl ?_
    refine e_aload_n (pc := 99) dX11_timesBy_99 rfl rfl ?_
    refine e_get (pc := 100) fl_X11_109 dX11_timesBy_100 (by repeat (first | assumption | exact hset_eq _ _ _ | (apply Lay.hd; assumption) | rw [hset_ne _ _ (by omega)])) (by rfl) ?_
    refine n_icmp_ge (pc := 103) (tgt := 153) dX11_timesBy_103 (by decide) (by omega) (by omega) (fun c => absurd c (by omega)) (fun hb_ => ?_)
    refine e_aload_n (pc := 106) dX11_timesBy_106 rfl rfl ?_
    refine e_get (pc := 107) fl_X11_25 dX11_timesBy_107 (by repeat (first | assumption | exact hset_eq _ _ _ | (apply Lay.hd; assumption) | rw [hset_ne _ _ (by omega)])) (by rfl) ?_
    refine e_iload (pc := 110) dX11_timesBy_110 rfl ?_
    refine e_dup2 (pc := 112) dX11_timesBy_112 rfl rfl ?_
    refine e_ialdN (pc := 113) k dX11_timesBy_113 (by repeat (first | assumption | exact hset_eq _ _ _ | (apply Lay.hd; assumption) | rw [hset_ne _ _ (by omega)])) (by rfl) (by omega) (by first | decide | omega) ?_
    rw [g1]
    refine e_aload_n (pc := 114) dX11_timesBy_114 rfl rfl ?_
    refine n_bipush (pc := 115) 25 dX11_timesBy_115 (by decide) ?_
    refine e_iload (pc := 117) dX11_timesBy_117 rfl ?_
    refine n_imul (pc := 119) dX11_timesBy_119 ?_
    refine n_iconst (pc := 120) 5 dX11_timesBy_120 (by decide) ?_
    refine e_iload (pc := 121) dX11_timesBy_121 rfl ?_
    refine n_imul (pc := 123) dX11_timesBy_123 ?_
    refine n_iadd (pc := 124) dX11_timesBy_124 ?_
    refine e_iload (pc := 125) dX11_timesBy_125 rfl ?_
    refine n_iadd (pc := 127) dX11_timesBy_127 ?_
    refine e_ialdN (pc := 128) (25 * i + 5 * j + k) dX11_timesBy_128 (by repeat (first | assumption | exact hset_eq _ _ _ | (apply Lay.hd; assumption) | rw [hset_ne _ _ (by omega)])) (by rfl) (by omega) (by first | decide | omega) ?_
    rw [z1]
    refine e_aload_n (pc := 129) dX11_timesBy_129 rfl rfl ?_
    refine e_get (pc := 130) fl_X11_19 dX11_timesBy_130 (by repeat (first | assumption | exact hset_eq _ _ _ | (apply Lay.hd; assumption) | rw [hset_ne _ _ (by omega)])) (by rfl) ?_
    refine e_iload (pc := 133) dX11_timesBy_133 rfl ?_
    refine e_ialdN (pc := 135) i dX11_timesBy_135 (by repeat (first | assumption | exact hset_eq _ _ _ | (apply Lay.hd; assumption) | rw [hset_ne _ _ (by omega)])) (by rfl) (by omega) (by first | decide | omega) ?_
    rw [z2]
    refine n_imul (pc := 136) dX11_timesBy_136 ?_
    refine e_aload_n (pc := 137) dX11_timesBy_137 rfl rfl ?_
    refine e_get (pc := 138) fl_X11_22 dX11_timesBy_138 (by repeat (first | assumption | exact hset_eq _ _ _ | (apply Lay.hd; assumption) | rw [hset_ne _ _ (by omega)])) (by rfl) ?_
    refine e_iload (pc := 141) dX11_timesBy_141 rfl ?_
    refine e_ialdN (pc := 143) j dX11_timesBy_143 (by repeat (first | assumption | exact hset_eq _ _ _ | (apply Lay.hd; assumption) | rw [hset_ne _ _ (by omega)])) (by rfl) (by omega) (by first | decide | omega) ?_
    rw [z3]
    refine n_imul (pc := 144) dX11_timesBy_144 ?_
    refine n_iadd (pc := 145) dX11_timesBy_145 ?_
    refine e_iastN (pc := 146) k dX11_timesBy_146 (by repeat (first | assumption | exact hset_eq _ _ _ | (apply Lay.hd; assumption) | rw [hset_ne _ _ (by omega)])) (by rfl) (by omega) (by first | decide | omega) ?_
    refine n_inc (pc := 147) dX11_timesBy_147 rfl (by decide) ?_
    refine e_heap (hset_hset H (m + 6) _ _) ?_
    refine e_goto (pc := 150) (tgt := 97) dX11_timesBy_150 (by decide) ?_
    refine ih (k + 1) (by omega) (by omega) _ (fun a ha => ?_)
    by_cases e : a = k
    · subst e
      rw [pk_us, if_pos (by omega)]
      refine congrArg nI ?_
      show _ = _ + (sg j (fun b => tmx W x y i b a) + tmx W x y i j a)
      rw [← Nat.add_assoc]
      show acx W x y i j a + _ = acx W x y i j a + tmx W x y i j a
      unfold tmx
      rw [Nat.mul_assoc, Nat.mul_comm]
    · rw [pk_un e, hg a ha]
      by_cases e2 : a < k
      · rw [if_pos e2, if_pos (by omega)]
      · rw [if_neg e2, if_neg (by omega)]
theorem l_ti_j {i : Nat} (hC : TbI H m c q s W x y) (hk : Wok W) (hi : i < W.2.1)
    (kk : ∀ g, (∀ k, k < W.2.1 → g k = nI (acx W x y (i + 1) 0 k)) → VI MX11_timesBy sz Pr (hset H (m + 6) (aI 5 g)) 159 [some (.ref m), some (.ref c), none, none, some (.int (nI i)), none, none] []) :
    ∀ (t j : Nat), t = W.2.1 - j → j ≤ W.2.1 → ∀ g, (∀ a, a < W.2.1 → g a = nI (acx W x y i j a)) → VI MX11_timesBy sz Pr (hset H (m + 6) (aI 5 g)) 72 [some (.ref m), some (.ref c), none, none, some (.int (nI i)), some (.int (nI j)), none] [] := by
  obtain ⟨b1, b2, b3, b4, b5⟩ := hk.b
  obtain ⟨hM, ⟨gx, x1, x2⟩, ⟨gy, y1, y2⟩, ⟨gc, c1, c2⟩, c3⟩ := id hC
  intro t
  induction t with
  | zero =>
    intro j e1 e2 g hg
    have e' : j = W.2.1 := by omega
    subst e'
    have hM1 : MH (hset H (m + 6) (aI 5 g)) m W.1 W.2.1 q s := (hset_ne _ _ (by omega)).trans hM
    refine e_iload (pc := 72) dX11_timesBy_72 rfl ?_
    refine e_aload_n (pc := 74) dX11_timesBy_74 rfl rfl ?_
    refine e_get (pc := 75) fl_X11_109 dX11_timesBy_75 (by repeat (first | assumption | exact hset_eq _ _ _ | (apply Lay.hd; assumption) | rw [hset_ne _ _ (by omega)])) (by rfl) ?_
    refine n_icmp_ge (pc := 78) (tgt := 159) dX11_timesBy_78 (by decide) (by omega) (by omega) (fun hb_ => ?_) (fun c => absurd c (by omega))
    refine V.mask [true, true, false, false, true, false, false] ?_
    exact kk g (fun a ha => by rw [hg a ha]; rfl)
  | succ t ih =>
    intro j e1 e2 g hg
    have hj : j < W.2.1 := by omega
    have hM1 : MH (hset H (m + 6) (aI 5 g)) m W.1 W.2.1 q s := (hset_ne _ _ (by omega)).trans hM
    have z3 := y2 j (by omega)
    rw [show dgn W.1 W.2.1 y j = dg W.1 y j from if_pos hj] at z3
    have dl := dg_lt (p := W.1) (by omega) y j
    refine e_iload (pc := 72) dX11_timesBy_72 rfl ?_
    refine e_aload_n (pc := 74) dX11_timesBy_74 rfl rfl ?_
    refine e_get (pc := 75) fl_X11_109 dX11_timesBy_75 (by repeat (first | assumption | exact hset_eq _ _ _ | (apply Lay.hd; assumption) | rw [hset_ne _ _ (by omega)])) (by rfl) ?_
    refine n_icmp_ge (pc := 78) (tgt := 159) dX11_timesBy_78 (by decide) (by omega) (by omega) (fun c => absurd c (by omega)) (fun hb_ => ?_)
    refine e_aload_n (pc := 81) dX11_timesBy_81 rfl rfl ?_
    refine e_get (pc := 82) fl_X11_22 dX11_timesBy_82 (by repeat (first | assumption | exact hset_eq _ _ _ | (apply Lay.hd; assumption) | rw [hset_ne _ _ (by omega)])) (by rfl) ?_
    refine e_iload (pc := 85) dX11_timesBy_85 rfl ?_
    refine e_ialdN (pc := 87) j dX11_timesBy_87 (by repeat (first | assumption | exact hset_eq _ _ _ | (apply Lay.hd; assumption) | rw [hset_ne _ _ (by omega)])) (by rfl) (by omega) (by first | decide | omega) ?_
    rw [z3]
    refine n_if_ne (pc := 88) (tgt := 94) dX11_timesBy_88 (by decide) (by omega) (fun c => ?_) (fun c => ?_)
    · refine n_iconst (pc := 94) 0 dX11_timesBy_94 (by decide) ?_
      refine e_istore (pc := 95) dX11_timesBy_95 (by decide) ?_
      refine l_ti_k hC hk hi hj (fun g2 hg2 => ?_) W.2.1 0 rfl (Nat.zero_le _) g (fun a ha => by rw [if_neg (Nat.not_lt_zero a)]; exact hg a ha)
      refine n_inc (pc := 153) dX11_timesBy_153 rfl (by decide) ?_
      refine e_goto (pc := 156) (tgt := 72) dX11_timesBy_156 (by decide) ?_
      exact ih (j + 1) (by omega) (by omega) g2 hg2
    · refine e_goto (pc := 91) (tgt := 153) dX11_timesBy_91 (by decide) ?_
      refine n_inc (pc := 153) dX11_timesBy_153 rfl (by decide) ?_
      refine e_goto (pc := 156) (tgt := 72) dX11_timesBy_156 (by decide) ?_
      refine ih (j + 1) (by omega) (by omega) g (fun a ha => ?_)
      rw [hg a ha]
      refine congrArg nI ?_
      show _ = _ + (sg j (fun b => tmx W x y i b a) + tmx W x y i j a)
      have : tmx W x y i j a = 0 := by unfold tmx; rw [c, Nat.mul_zero, Nat.zero_mul]
      rw [this, Nat.add_zero]
      rfl
theorem l_ti_i (hC : TbI H m c q s W x y) (hk : Wok W)
    (kk : ∀ g, (∀ k, k < W.2.1 → g k = nI (mc W x y k)) → VI MX11_timesBy sz Pr (hset H (m + 6) (aI 5 g)) 165 [some (.ref m), some (.ref c), none, none, none, none, none] []) :
    ∀ (t i : Nat), t = W.2.1 - i → i ≤ W.2.1 → ∀ g, (∀ a, a < W.2.1 → g a = nI (acx W x y i 0 a)) → VI MX11_timesBy sz Pr (hset H (m + 6) (aI 5 g)) 47 [some (.ref m), some (.ref c), none, none, some (.int (nI i)), none, none] [] := by
  obtain ⟨b1, b2, b3, b4, b5⟩ := hk.b
  obtain ⟨hM, ⟨gx, x1, x2⟩, ⟨gy, y1, y2⟩, ⟨gc, c1, c2⟩, c3⟩ := id hC
  intro t
  induction t with
  | zero =>
    intro i e1 e2 g hg
    have e' : i = W.2.1 := by omega
    subst e'
    have hM1 : MH (hset H (m + 6) (aI 5 g)) m W.1 W.2.1 q s := (hset_ne _ _ (by omega)).trans hM
    refine e_iload (pc := 47) dX11_timesBy_47 rfl ?_
    refine e_aload_n (pc := 49) dX11_timesBy_49 rfl rfl ?_
    refine e_get (pc := 50) fl_X11_109 dX11_timesBy_50 (by repeat (first | assumption | exact hset_eq _ _ _ | (apply Lay.hd; assumption) | rw [hset_ne _ _ (by omega)])) (by rfl) ?_
    refine n_icmp_ge (pc := 53) (tgt := 165) dX11_timesBy_53 (by decide) (by omega) (by omega) (fun hb_ => ?_) (fun c => absurd c (by omega))
    refine V.mask [true, true, false, false, false, false, false] ?_
    exact kk g (fun a ha => by rw [hg a ha]; rfl)
  | succ t ih =>
    intro i e1 e2 g hg
    have hi : i < W.2.1 := by omega
    have hM1 : MH (hset H (m + 6) (aI 5 g)) m W.1 W.2.1 q s := (hset_ne _ _ (by omega)).trans hM
    have z2 := x2 i (by omega)
    rw [show dgn W.1 W.2.1 x i = dg W.1 x i from if_pos hi] at z2
    have dl := dg_lt (p := W.1) (by omega) x i
    refine e_iload (pc := 47) dX11_timesBy_47 rfl ?_
    refine e_aload_n (pc := 49) dX11_timesBy_49 rfl rfl ?_
    refine e_get (pc := 50) fl_X11_109 dX11_timesBy_50 (by repeat (first | assumption | exact hset_eq _ _ _ | (apply Lay.hd; assumption) | rw [hset_ne _ _ (by omega)])) (by rfl) ?_
    refine n_icmp_ge (pc := 53) (tgt := 165) dX11_timesBy_53 (by decide) (by omega) (by omega) (fun c => absurd c (by omega)) (fun hb_ => ?_)
    refine e_aload_n (pc := 56) dX11_timesBy_56 rfl rfl ?_
    refine e_get (pc := 57) fl_X11_19 dX11_timesBy_57 (by repeat (first | assumption | exact hset_eq _ _ _ | (apply Lay.hd; assumption) | rw [hset_ne _ _ (by omega)])) (by rfl) ?_
    refine e_iload (pc := 60) dX11_timesBy_60 rfl ?_
    refine e_ialdN (pc := 62) i dX11_timesBy_62 (by repeat (first | assumption | exact hset_eq _ _ _ | (apply Lay.hd; assumption) | rw [hset_ne _ _ (by omega)])) (by rfl) (by omega) (by first | decide | omega) ?_
    rw [z2]
    refine n_if_ne (pc := 63) (tgt := 69) dX11_timesBy_63 (by decide) (by omega) (fun cc => ?_) (fun cc => ?_)
    · refine n_iconst (pc := 69) 0 dX11_timesBy_69 (by decide) ?_
      refine e_istore (pc := 70) dX11_timesBy_70 (by decide) ?_
      refine l_ti_j hC hk hi (fun g2 hg2 => ?_) W.2.1 0 rfl (Nat.zero_le _) g hg
      refine n_inc (pc := 159) dX11_timesBy_159 rfl (by decide) ?_
      refine e_goto (pc := 162) (tgt := 47) dX11_timesBy_162 (by decide) ?_
      exact ih (i + 1) (by omega) (by omega) g2 hg2
    · refine e_goto (pc := 66) (tgt := 159) dX11_timesBy_66 (by decide) ?_
      refine n_inc (pc := 159) dX11_timesBy_159 rfl (by decide) ?_
      refine e_goto (pc := 162) (tgt := 47) dX11_timesBy_162 (by decide) ?_
      refine ih (i + 1) (by omega) (by omega) g (fun a ha => ?_)
      rw [hg a ha]
      refine congrArg nI ?_
      show _ + 0 = (_ + sg W.2.1 (fun b => tmx W x y i b a)) + 0
      rw [sg_zero (f := fun b => tmx W x y i b a) (fun b _ => by unfold tmx; rw [cc, Nat.zero_mul, Nat.zero_mul])]
end TB
theorem c_timesI {c x y : Nat} (hM : MH h m W.1 W.2.1 q s) (h3 : M3 h m) (hc : CuI h c W) (hk : Wok W) (hx : x < 2 ^ 31) (hy : y < 2 ^ 31) (dc : c ≠ m + 4 ∧ c ≠ m + 5 ∧ c ≠ m + 6) : CI yX11_timesBy MX11_timesBy [.ref m, .ref c, .int (nI x), .int (nI y)] h (fun z h' => z = nI (mul W x y) ∧ M3 h' m ∧ FdM m h h') := by
  obtain ⟨b1, b2, b3, b4, b5⟩ := hk.b
  obtain ⟨⟨g4, r4⟩, ⟨g5, r5⟩, ⟨g6, r6⟩⟩ := h3
  refine CI.ofV (by decide) rfl rfl (by simp [Value.category]) (by exact Nat.le_of_ble_eq_true rfl) (fun sz => ?_)
  refine e_aload_n (pc := 0) dX11_timesBy_0 rfl rfl ?_
  refine e_iload_n (pc := 1) dX11_timesBy_1 rfl rfl ?_
  refine e_aload_n (pc := 2) dX11_timesBy_2 rfl rfl ?_
  refine e_get (pc := 3) fl_X11_19 dX11_timesBy_3 (by repeat (first | assumption | exact hset_eq _ _ _ | (apply Lay.hd; assumption) | rw [hset_ne _ _ (by omega)])) (by rfl) ?_
  refine n_Vv (pc := 6) (c_X11_digits hM ⟨b1, b2⟩ b4 hx (by omega) r4) bX11_digits q_i_X11_digits q_s_X11_digits q_m_X11_115 dX11_timesBy_6 rfl rfl (by repeat (first | assumption | exact hset_eq _ _ _ | (apply Lay.hd; assumption) | rw [hset_ne _ _ (by omega)])) rfl rfl (by exact Nat.le_of_ble_eq_true rfl) ⟨by decide, by decide⟩ ⟨rfl, rfl, Nat.zero_le _, Nat.zero_le _⟩ (fun h2 hp => ?_)
  obtain ⟨gx, rfl, x2⟩ := hp
  have hM2 : MH (hset h (m + 4) (aI 5 gx)) m W.1 W.2.1 q s := (hset_ne _ _ (by omega)).trans hM
  have r52 : hset h (m + 4) (aI 5 gx) (m + 5) = some (aI 5 g5) := (hset_ne _ _ (by omega)).trans r5
  refine e_aload_n (pc := 9) dX11_timesBy_9 rfl rfl ?_
  refine e_iload_n (pc := 10) dX11_timesBy_10 rfl rfl ?_
  refine e_aload_n (pc := 11) dX11_timesBy_11 rfl rfl ?_
  refine e_get (pc := 12) fl_X11_22 dX11_timesBy_12 (by repeat (first | assumption | exact hset_eq _ _ _ | (apply Lay.hd; assumption) | rw [hset_ne _ _ (by omega)])) (by rfl) ?_
  refine n_Vv (pc := 15) (c_X11_digits hM2 ⟨b1, b2⟩ b4 hy (by omega) r52) bX11_digits q_i_X11_digits q_s_X11_digits q_m_X11_115 dX11_timesBy_15 rfl rfl (by repeat (first | assumption | exact hset_eq _ _ _ | (apply Lay.hd; assumption) | rw [hset_ne _ _ (by omega)])) rfl rfl (by exact Nat.le_of_ble_eq_true rfl) ⟨by decide, by decide⟩ ⟨rfl, rfl, Nat.zero_le _, Nat.zero_le _⟩ (fun h3 hp => ?_)
  obtain ⟨gy, rfl, y2⟩ := hp
  have hM3 : MH (hset (hset h (m + 4) (aI 5 gx)) (m + 5) (aI 5 gy)) m W.1 W.2.1 q s := (hset_ne _ _ (by omega)).trans hM2
  have hC : TbI (hset (hset h (m + 4) (aI 5 gx)) (m + 5) (aI 5 gy)) m c q s W x y := ⟨hM3, ⟨gx, (hset_ne _ _ (by omega)).trans (hset_eq _ _ _), x2⟩, ⟨gy, hset_eq _ _ _, y2⟩, hc.keep ((hset_ne _ _ (by omega)).trans (hset_ne _ _ (by omega))), by omega⟩
  have r63 : hset (hset h (m + 4) (aI 5 gx)) (m + 5) (aI 5 gy) (m + 6) = some (aI 5 g6) := (hset_ne _ _ (by omega)).trans ((hset_ne _ _ (by omega)).trans r6)
  refine n_iconst (pc := 18) 0 dX11_timesBy_18 (by decide) ?_
  refine e_istore (pc := 19) dX11_timesBy_19 (by decide) ?_
  refine e_heap (hset_self r63).symm ?_
  refine V.mask [true, true, false, false, true, false, false] ?_
  refine l_tb_z hM3 hk (fun g hg => ?_) W.2.1 0 rfl (Nat.zero_le _) g6 (fun a ha => absurd ha (Nat.not_lt_zero a))
  refine n_iconst (pc := 44) 0 dX11_timesBy_44 (by decide) ?_
  refine e_istore (pc := 45) dX11_timesBy_45 (by decide) ?_
  refine l_ti_i hC hk (fun g2 hg2 => ?_) W.2.1 0 rfl (Nat.zero_le _) g (fun a ha => hg a ha)
  refine n_iconst (pc := 165) 0 dX11_timesBy_165 (by decide) ?_
  refine e_istore (pc := 166) dX11_timesBy_166 (by decide) ?_
  refine V.post ?_ (l_tb_m (c := c) (x := x) (y := y) hM3 hk W.2.1 0 rfl (Nat.zero_le _) g2 (fun a ha => by rw [if_neg (Nat.not_lt_zero a)]; exact hg2 a ha))
  intro r h' z qq
  obtain ⟨q1, x', q2, q3, g', rfl⟩ := qq
  exact ⟨q1, x', q2, q3, ⟨⟨gx, (hset_ne _ _ (by omega)).trans ((hset_ne _ _ (by omega)).trans (hset_eq _ _ _))⟩, ⟨gy, (hset_ne _ _ (by omega)).trans (hset_eq _ _ _)⟩, g', hset_eq _ _ _⟩, fun a a1 a2 a3 => by rw [hset_ne _ _ a3, hset_ne _ _ a2, hset_ne _ _ a1]⟩
end TI
section TIO
variable {m : Nat} {s : Ms} {W W2 : Wd}
theorem c_timesK {h : AH} {c u v : Nat} (hL : Lay h m W s) (hc : CuI h c W2) (hk2 : Wok W2) (he : W2.1 = W.1 ∧ W2.2.1 = W.2.1) (hu : u < 2 ^ 31) (hv : v < 2 ^ 31) (dc : c ≠ m + 4 ∧ c ≠ m + 5 ∧ c ≠ m + 6) : CI yX11_timesBy MX11_timesBy [.ref m, .ref c, .int (nI u), .int (nI v)] h (fun z h' => z = nI (mul W2 u v) ∧ Lay h' m W s ∧ FdM m h h') :=
  (c_timesI (W := W2) (q := W.1 ^ W.2.1) (s := s) (by rw [he.1, he.2]; exact hL.1) hL.2.2.m3 hc hk2 hu hv dc).mono (fun z h' q => ⟨q.1, hL.fd q.2.1 q.2.2, q.2.2⟩)
end TIO
