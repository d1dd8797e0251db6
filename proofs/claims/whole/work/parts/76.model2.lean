/-! ===== the reference: products, sums ===== -/
section M2
variable {h : AH} {m q : Nat} {s : Ms} {W : Wd}
def tmx (W : Wd) (x y i j k : Nat) : Nat := dg W.1 x i * dg W.1 y j * W.2.2 (25 * i + 5 * j + k)
def acx (W : Wd) (x y i j k : Nat) : Nat := sg i (fun a => sg W.2.1 (fun b => tmx W x y a b k)) + sg j (fun b => tmx W x y i b k)
/-- the cube in a row of ints -/
def CuA (h : AH) (c : Nat) (W : Wd) : Prop := ∃ g, h c = some (aI 125 g) ∧ ∀ k, k < 125 → g k = nI (W.2.2 k)
theorem CuA.keep {h2 : AH} {c : Nat} (q : CuA h c W) (e : h2 c = h c) : CuA h2 c W := by
  obtain ⟨g, g1, g2⟩ := q
  exact ⟨g, e.trans g1, g2⟩
/-- what stands still in a product -/
def TbC (H : AH) (m c q : Nat) (s : Ms) (W : Wd) (x y : Nat) : Prop := MH H m W.1 W.2.1 q s ∧ (∃ g, H (m + 4) = some (aI 5 g) ∧ ∀ j, j < 5 → g j = nI (dgn W.1 W.2.1 x j)) ∧ (∃ g, H (m + 5) = some (aI 5 g) ∧ ∀ j, j < 5 → g j = nI (dgn W.1 W.2.1 y j)) ∧ CuA H c W ∧ c ≠ m + 6
section TB
variable {H : AH} {c x y sz : Nat} {Pr : Int32 → AH → Prop}
theorem l_tb_k {i j : Nat} (hC : TbC H m c q s W x y) (hk : Wok W) (hi : i < W.2.1) (hj : j < W.2.1)
    (kk : ∀ g, (∀ k, k < W.2.1 → g k = nI (acx W x y i (j + 1) k)) → VI MX11_timesBy sz Pr (hset H (m + 6) (aI 5 g)) 153 [some (.ref m), some (.ref c), none, none, some (.int (nI i)), some (.int (nI j)), none] []) :
    ∀ (t k : Nat), t = W.2.1 - k → k ≤ W.2.1 → ∀ g, (∀ a, a < W.2.1 → g a = nI (if a < k then acx W x y i (j + 1) a else acx W x y i j a)) → VI MX11_timesBy sz Pr (hset H (m + 6) (aI 5 g)) 97 [some (.ref m), some (.ref c), none, none, some (.int (nI i)), some (.int (nI j)), some (.int (nI k))] [] := by
  obtain ⟨b1, b2, b3, b4, b5⟩ := hk.b
  obtain ⟨hM, ⟨gx, x1, x2⟩, ⟨gy, y1, y2⟩, ⟨gc, c1, c2⟩, c3⟩ := hC
  intro t
  induction t with
  | zero =>
    intro k e1 e2 g hg
    have e' : k = W.2.1 := by omega
    subst e'
    have hM1 : MH (hset H (m + 6) (aI 5 g)) m W.1 W.2.1 q s := (hset_ne _ _ (by omega)).trans hM
    refine e_iload (pc := 97) dX11_timesBy_97 rfl ?_
    refine e_aload_n (pc := 99) dX11_timesBy_99 rfl rfl ?_
    refine e_get (pc := 100) fl_X11_109 dX11_timesBy_100 (by repeat (first | assumption | exact hset_eq _ _ _ | (apply WAt.hd; assumption) | rw [hset_ne _ _ (by omega)])) (by rfl) ?_
    refine n_icmp_ge (pc := 103) (tgt := 153) dX11_timesBy_103 (by decide) (by omega) (by omega) (fun hb_ => ?_) (fun c => absurd c (by omega))
    refine V.mask [true, true, false, false, true, true, false] ?_
    exact kk g (fun a ha => by rw [hg a ha, if_pos ha])
  | succ t ih =>
    intro k e1 e2 g hg
    have hk1 : k < W.2.1 := by omega
    have hM1 : MH (hset H (m + 6) (aI 5 g)) m W.1 W.2.1 q s := (hset_ne _ _ (by omega)).trans hM
    have g1 := hg k hk1
    rw [if_neg (Nat.lt_irrefl k)] at g1
    have z1 := c2 (25 * i + 5 * j + k) (by omega)
    have z2 := x2 i (by omega)
    have z3 := y2 j (by omega)
    rw [show dgn W.1 W.2.1 x i = dg W.1 x i from if_pos hi] at z2
    rw [show dgn W.1 W.2.1 y j = dg W.1 y j from if_pos hj] at z3
    refine e_iload (pc := 97) dX11_timesBy_97 rfl ?_
    refine e_aload_n (pc := 99) dX11_timesBy_99 rfl rfl ?_
    refine e_get (pc := 100) fl_X11_109 dX11_timesBy_100 (by repeat (first | assumption | exact hset_eq _ _ _ | (apply WAt.hd; assumption) | rw [hset_ne _ _ (by omega)])) (by rfl) ?_
    refine n_icmp_ge (pc := 103) (tgt := 153) dX11_timesBy_103 (by decide) (by omega) (by omega) (fun c => absurd c (by omega)) (fun hb_ => ?_)
    refine e_aload_n (pc := 106) dX11_timesBy_106 rfl rfl ?_
    refine e_get (pc := 107) fl_X11_25 dX11_timesBy_107 (by repeat (first | assumption | exact hset_eq _ _ _ | (apply WAt.hd; assumption) | rw [hset_ne _ _ (by omega)])) (by rfl) ?_
    refine e_iload (pc := 110) dX11_timesBy_110 rfl ?_
    refine e_dup2 (pc := 112) dX11_timesBy_112 rfl rfl ?_
    refine e_ialdN (pc := 113) k dX11_timesBy_113 (by repeat (first | assumption | exact hset_eq _ _ _ | (apply WAt.hd; assumption) | rw [hset_ne _ _ (by omega)])) (by rfl) (by omega) (by first | decide | omega) ?_
    rw [g1]
    refine e_aload_n (pc := 114) dX11_timesBy_114 rfl rfl ?_
    refine n_bipush (pc := 115) 25 dX11_timesBy_115 (by decide) ?_
    refine e_iload (pc := 117) dX11_timesBy_117 rfl ?_
    refine n_imul (pc := 119) dX11_timesBy_119 ?_
    refine n_iconst (pc := 120) 5 dX11_timesBy_120 (by decide) ?_
    refine e_iload (pc := 121) dX11_timesBy_121 rfl ?_
    refine n_imul (pc := 123) dX11_timesBy_123 ?_
    refine n_iadd (pc := 124) dX11_timesBy_124 ?_
    refine e_iload (pc := 125) dX11_timesBy_125 rfl ?_
    refine n_iadd (pc := 127) dX11_timesBy_127 ?_
    refine e_ialdN (pc := 128) (25 * i + 5 * j + k) dX11_timesBy_128 (by repeat (first | assumption | exact hset_eq _ _ _ | (apply WAt.hd; assumption) | rw [hset_ne _ _ (by omega)])) (by rfl) (by omega) (by first | decide | omega) ?_
    rw [z1]
    refine e_aload_n (pc := 129) dX11_timesBy_129 rfl rfl ?_
    refine e_get (pc := 130) fl_X11_19 dX11_timesBy_130 (by repeat (first | assumption | exact hset_eq _ _ _ | (apply WAt.hd; assumption) | rw [hset_ne _ _ (by omega)])) (by rfl) ?_
    refine e_iload (pc := 133) dX11_timesBy_133 rfl ?_
    refine e_ialdN (pc := 135) i dX11_timesBy_135 (by repeat (first | assumption | exact hset_eq _ _ _ | (apply WAt.hd; assumption) | rw [hset_ne _ _ (by omega)])) (by rfl) (by omega) (by first | decide | omega) ?_
    rw [z2]
    refine n_imul (pc := 136) dX11_timesBy_136 ?_
    refine e_aload_n (pc := 137) dX11_timesBy_137 rfl rfl ?_
    refine e_get (pc := 138) fl_X11_22 dX11_timesBy_138 (by repeat (first | assumption | exact hset_eq _ _ _ | (apply WAt.hd; assumption) | rw [hset_ne _ _ (by omega)])) (by rfl) ?_
    refine e_iload (pc := 141) dX11_timesBy_141 rfl ?_
    refine e_ialdN (pc := 143) j dX11_timesBy_143 (by repeat (first | assumption | exact hset_eq _ _ _ | (apply WAt.hd; assumption) | rw [hset_ne _ _ (by omega)])) (by rfl) (by omega) (by first | decide | omega) ?_
    rw [z3]
    refine n_imul (pc := 144) dX11_timesBy_144 ?_
    refine n_iadd (pc := 145) dX11_timesBy_145 ?_
    refine e_iastN (pc := 146) k dX11_timesBy_146 (by repeat (first | assumption | exact hset_eq _ _ _ | (apply WAt.hd; assumption) | rw [hset_ne _ _ (by omega)])) (by rfl) (by omega) (by first | decide | omega) ?_
    refine n_inc (pc := 147) dX11_timesBy_147 rfl (by decide) ?_
    refine e_heap (hset_hset H (m + 6) _ _) ?_
    refine e_goto (pc := 150) (tgt := 97) dX11_timesBy_150 (by decide) ?_
    refine ih (k + 1) (by omega) (by omega) _ (fun a ha => ?_)
    by_cases e : a = k
    · subst e
      rw [pk_us, if_pos (by omega)]
      refine congrArg nI ?_
      show _ = _ + (sg j (fun b => tmx W x y i b a) + tmx W x y i j a)
      rw [← Nat.add_assoc]
      show acx W x y i j a + _ = acx W x y i j a + tmx W x y i j a
      unfold tmx
      rw [Nat.mul_assoc, Nat.mul_comm]
    · rw [pk_un e, hg a ha]
      by_cases e2 : a < k
      · rw [if_pos e2, if_pos (by omega)]
      · rw [if_neg e2, if_neg (by omega)]
theorem l_tb_j {i : Nat} (hC : TbC H m c q s W x y) (hk : Wok W) (hi : i < W.2.1)
    (kk : ∀ g, (∀ k, k < W.2.1 → g k = nI (acx W x y (i + 1) 0 k)) → VI MX11_timesBy sz Pr (hset H (m + 6) (aI 5 g)) 159 [some (.ref m), some (.ref c), none, none, some (.int (nI i)), none, none] []) :
    ∀ (t j : Nat), t = W.2.1 - j → j ≤ W.2.1 → ∀ g, (∀ a, a < W.2.1 → g a = nI (acx W x y i j a)) → VI MX11_timesBy sz Pr (hset H (m + 6) (aI 5 g)) 72 [some (.ref m), some (.ref c), none, none, some (.int (nI i)), some (.int (nI j)), none] [] := by
  obtain ⟨b1, b2, b3, b4, b5⟩ := hk.b
  obtain ⟨hM, ⟨gx, x1, x2⟩, ⟨gy, y1, y2⟩, ⟨gc, c1, c2⟩, c3⟩ := id hC
  intro t
  induction t with
  | zero =>
    intro j e1 e2 g hg
    have e' : j = W.2.1 := by omega
    subst e'
    have hM1 : MH (hset H (m + 6) (aI 5 g)) m W.1 W.2.1 q s := (hset_ne _ _ (by omega)).trans hM
    refine e_iload (pc := 72) dX11_timesBy_72 rfl ?_
    refine e_aload_n (pc := 74) dX11_timesBy_74 rfl rfl ?_
    refine e_get (pc := 75) fl_X11_109 dX11_timesBy_75 (by repeat (first | assumption | exact hset_eq _ _ _ | (apply WAt.hd; assumption) | rw [hset_ne _ _ (by omega)])) (by rfl) ?_
    refine n_icmp_ge (pc := 78) (tgt := 159) dX11_timesBy_78 (by decide) (by omega) (by omega) (fun hb_ => ?_) (fun c => absurd c (by omega))
    refine V.mask [true, true, false, false, true, false, false] ?_
    exact kk g (fun a ha => by rw [hg a ha]; rfl)
  | succ t ih =>
    intro j e1 e2 g hg
    have hj : j < W.2.1 := by omega
    have hM1 : MH (hset H (m + 6) (aI 5 g)) m W.1 W.2.1 q s := (hset_ne _ _ (by omega)).trans hM
    have z3 := y2 j (by omega)
    rw [show dgn W.1 W.2.1 y j = dg W.1 y j from if_pos hj] at z3
    have dl := dg_lt (p := W.1) (by omega) y j
    refine e_iload (pc := 72) dX11_timesBy_72 rfl ?_
    refine e_aload_n (pc := 74) dX11_timesBy_74 rfl rfl ?_
    refine e_get (pc := 75) fl_X11_109 dX11_timesBy_75 (by repeat (first | assumption | exact hset_eq _ _ _ | (apply WAt.hd; assumption) | rw [hset_ne _ _ (by omega)])) (by rfl) ?_
    refine n_icmp_ge (pc := 78) (tgt := 159) dX11_timesBy_78 (by decide) (by omega) (by omega) (fun c => absurd c (by omega)) (fun hb_ => ?_)
    refine e_aload_n (pc := 81) dX11_timesBy_81 rfl rfl ?_
    refine e_get (pc := 82) fl_X11_22 dX11_timesBy_82 (by repeat (first | assumption | exact hset_eq _ _ _ | (apply WAt.hd; assumption) | rw [hset_ne _ _ (by omega)])) (by rfl) ?_
    refine e_iload (pc := 85) dX11_timesBy_85 rfl ?_
    refine e_ialdN (pc := 87) j dX11_timesBy_87 (by repeat (first | assumption | exact hset_eq _ _ _ | (apply WAt.hd; assumption) | rw [hset_ne _ _ (by omega)])) (by rfl) (by omega) (by first | decide | omega) ?_
    rw [z3]
    refine n_if_ne (pc := 88) (tgt := 94) dX11_timesBy_88 (by decide) (by omega) (fun c => ?_) (fun c => ?_)
    · refine n_iconst (pc := 94) 0 dX11_timesBy_94 (by decide) ?_
      refine e_istore (pc := 95) dX11_timesBy_95 (by decide) ?_
      refine l_tb_k hC hk hi hj (fun g2 hg2 => ?_) W.2.1 0 rfl (Nat.zero_le _) g (fun a ha => by rw [if_neg (Nat.not_lt_zero a)]; exact hg a ha)
      refine n_inc (pc := 153) dX11_timesBy_153 rfl (by decide) ?_
      refine e_goto (pc := 156) (tgt := 72) dX11_timesBy_156 (by decide) ?_
      exact ih (j + 1) (by omega) (by omega) g2 hg2
    · refine e_goto (pc := 91) (tgt := 153) dX11_timesBy_91 (by decide) ?_
      refine n_inc (pc := 153) dX11_timesBy_153 rfl (by decide) ?_
      refine e_goto (pc := 156) (tgt := 72) dX11_timesBy_156 (by decide) ?_
      refine ih (j + 1) (by omega) (by omega) g (fun a ha => ?_)
      rw [hg a ha]
      refine congrArg nI ?_
      show _ = _ + (sg j (fun b => tmx W x y i b a) + tmx W x y i j a)
      have : tmx W x y i j a = 0 := by unfold tmx; rw [c, Nat.mul_zero, Nat.zero_mul]
      rw [this, Nat.add_zero]
      rfl
theorem l_tb_i (hC : TbC H m c q s W x y) (hk : Wok W)
    (kk : ∀ g, (∀ k, k < W.2.1 → g k = nI (mc W x y k)) → VI MX11_timesBy sz Pr (hset H (m + 6) (aI 5 g)) 165 [some (.ref m), some (.ref c), none, none, none, none, none] []) :
    ∀ (t i : Nat), t = W.2.1 - i → i ≤ W.2.1 → ∀ g, (∀ a, a < W.2.1 → g a = nI (acx W x y i 0 a)) → VI MX11_timesBy sz Pr (hset H (m + 6) (aI 5 g)) 47 [some (.ref m), some (.ref c), none, none, some (.int (nI i)), none, none] [] := by
  obtain ⟨b1, b2, b3, b4, b5⟩ := hk.b
  obtain ⟨hM, ⟨gx, x1, x2⟩, ⟨gy, y1, y2⟩, ⟨gc, c1, c2⟩, c3⟩ := id hC
  intro t
  induction t with
  | zero =>
    intro i e1 e2 g hg
    have e' : i = W.2.1 := by omega
    subst e'
    have hM1 : MH (hset H (m + 6) (aI 5 g)) m W.1 W.2.1 q s := (hset_ne _ _ (by omega)).trans hM
    refine e_iload (pc := 47) dX11_timesBy_47 rfl ?_
    refine e_aload_n (pc := 49) dX11_timesBy_49 rfl rfl ?_
    refine e_get (pc := 50) fl_X11_109 dX11_timesBy_50 (by repeat (first | assumption | exact hset_eq _ _ _ | (apply WAt.hd; assumption) | rw [hset_ne _ _ (by omega)])) (by rfl) ?_
    refine n_icmp_ge (pc := 53) (tgt := 165) dX11_timesBy_53 (by decide) (by omega) (by omega) (fun hb_ => ?_) (fun c => absurd c (by omega))
    refine V.mask [true, true, false, false, false, false, false] ?_
    exact kk g (fun a ha => by rw [hg a ha]; rfl)
  | succ t ih =>
    intro i e1 e2 g hg
    have hi : i < W.2.1 := by omega
    have hM1 : MH (hset H (m + 6) (aI 5 g)) m W.1 W.2.1 q s := (hset_ne _ _ (by omega)).trans hM
    have z2 := x2 i (by omega)
    rw [show dgn W.1 W.2.1 x i = dg W.1 x i from if_pos hi] at z2
    have dl := dg_lt (p := W.1) (by omega) x i
    refine e_iload (pc := 47) dX11_timesBy_47 rfl ?_
    refine e_aload_n (pc := 49) dX11_timesBy_49 rfl rfl ?_
    refine e_get (pc := 50) fl_X11_109 dX11_timesBy_50 (by repeat (first | assumption | exact hset_eq _ _ _ | (apply WAt.hd; assumption) | rw [hset_ne _ _ (by omega)])) (by rfl) ?_
    refine n_icmp_ge (pc := 53) (tgt := 165) dX11_timesBy_53 (by decide) (by omega) (by omega) (fun c => absurd c (by omega)) (fun hb_ => ?_)
    refine e_aload_n (pc := 56) dX11_timesBy_56 rfl rfl ?_
    refine e_get (pc := 57) fl_X11_19 dX11_timesBy_57 (by repeat (first | assumption | exact hset_eq _ _ _ | (apply WAt.hd; assumption) | rw [hset_ne _ _ (by omega)])) (by rfl) ?_
    refine e_iload (pc := 60) dX11_timesBy_60 rfl ?_
    refine e_ialdN (pc := 62) i dX11_timesBy_62 (by repeat (first | assumption | exact hset_eq _ _ _ | (apply WAt.hd; assumption) | rw [hset_ne _ _ (by omega)])) (by rfl) (by omega) (by first | decide | omega) ?_
    rw [z2]
    refine n_if_ne (pc := 63) (tgt := 69) dX11_timesBy_63 (by decide) (by omega) (fun cc => ?_) (fun cc => ?_)
    · refine n_iconst (pc := 69) 0 dX11_timesBy_69 (by decide) ?_
      refine e_istore (pc := 70) dX11_timesBy_70 (by decide) ?_
      refine l_tb_j hC hk hi (fun g2 hg2 => ?_) W.2.1 0 rfl (Nat.zero_le _) g hg
      refine n_inc (pc := 159) dX11_timesBy_159 rfl (by decide) ?_
      refine e_goto (pc := 162) (tgt := 47) dX11_timesBy_162 (by decide) ?_
      exact ih (i + 1) (by omega) (by omega) g2 hg2
    · refine e_goto (pc := 66) (tgt := 159) dX11_timesBy_66 (by decide) ?_
      refine n_inc (pc := 159) dX11_timesBy_159 rfl (by decide) ?_
      refine e_goto (pc := 162) (tgt := 47) dX11_timesBy_162 (by decide) ?_
      refine ih (i + 1) (by omega) (by omega) g (fun a ha => ?_)
      rw [hg a ha]
      refine congrArg nI ?_
      show _ + 0 = (_ + sg W.2.1 (fun b => tmx W x y i b a)) + 0
      rw [sg_zero (f := fun b => tmx W x y i b a) (fun b _ => by unfold tmx; rw [cc, Nat.zero_mul, Nat.zero_mul])]
theorem l_tb_m (hM : MH H m W.1 W.2.1 q s) (hk : Wok W) :
    ∀ (t k : Nat), t = W.2.1 - k → k ≤ W.2.1 → ∀ g, (∀ a, a < W.2.1 → g a = nI (if a < k then mc W x y a % W.1 else mc W x y a)) → VI MX11_timesBy sz (fun z h' => z = nI (mul W x y) ∧ ∃ g, h' = hset H (m + 6) (aI 5 g)) (hset H (m + 6) (aI 5 g)) 168 [some (.ref m), some (.ref c), none, none, some (.int (nI k)), none, none] [] := by
  obtain ⟨b1, b2, b3, b4, b5⟩ := hk.b
  intro t
  induction t with
  | zero =>
    intro k e1 e2 g hg
    have e' : k = W.2.1 := by omega
    subst e'
    have hM1 : MH (hset H (m + 6) (aI 5 g)) m W.1 W.2.1 q s := (hset_ne _ _ (by omega)).trans hM
    refine e_iload (pc := 168) dX11_timesBy_168 rfl ?_
    refine e_aload_n (pc := 170) dX11_timesBy_170 rfl rfl ?_
    refine e_get (pc := 171) fl_X11_109 dX11_timesBy_171 (by repeat (first | assumption | exact hset_eq _ _ _ | (apply WAt.hd; assumption) | rw [hset_ne _ _ (by omega)])) (by rfl) ?_
    refine n_icmp_ge (pc := 174) (tgt := 197) dX11_timesBy_174 (by decide) (by omega) (by omega) (fun hb_ => ?_) (fun c => absurd c (by omega))
    refine e_aload_n (pc := 197) dX11_timesBy_197 rfl rfl ?_
    refine e_aload_n (pc := 198) dX11_timesBy_198 rfl rfl ?_
    refine e_get (pc := 199) fl_X11_25 dX11_timesBy_199 (by repeat (first | assumption | exact hset_eq _ _ _ | (apply WAt.hd; assumption) | rw [hset_ne _ _ (by omega)])) (by rfl) ?_
    refine n_VP (pc := 202) (c_X11_element (f := fun k => mc W x y k % W.1) hM1 ⟨b3, b4⟩ (hset_eq _ _ _) (fun j hj => by rw [hg j hj, if_pos hj])) bX11_element q_i_X11_element q_s_X11_element q_m_X11_119 dX11_timesBy_202 rfl rfl (by repeat (first | assumption | exact hset_eq _ _ _ | (apply WAt.hd; assumption) | rw [hset_ne _ _ (by omega)])) rfl rfl (by exact Nat.le_of_ble_eq_true rfl) ⟨by decide, by decide⟩ ⟨rfl, rfl, Nat.zero_le _, Nat.zero_le _⟩ ?_
    exact n_iret (pc := 205) dX11_timesBy_205 rfl ⟨rfl, g, rfl⟩
  | succ t ih =>
    intro k e1 e2 g hg
    have hk1 : k < W.2.1 := by omega
    have hM1 : MH (hset H (m + 6) (aI 5 g)) m W.1 W.2.1 q s := (hset_ne _ _ (by omega)).trans hM
    have g1 := hg k hk1
    rw [if_neg (Nat.lt_irrefl k)] at g1
    have ml := mc_le hk x y k
    refine e_iload (pc := 168) dX11_timesBy_168 rfl ?_
    refine e_aload_n (pc := 170) dX11_timesBy_170 rfl rfl ?_
    refine e_get (pc := 171) fl_X11_109 dX11_timesBy_171 (by repeat (first | assumption | exact hset_eq _ _ _ | (apply WAt.hd; assumption) | rw [hset_ne _ _ (by omega)])) (by rfl) ?_
    refine n_icmp_ge (pc := 174) (tgt := 197) dX11_timesBy_174 (by decide) (by omega) (by omega) (fun c => absurd c (by omega)) (fun hb_ => ?_)
    refine e_aload_n (pc := 177) dX11_timesBy_177 rfl rfl ?_
    refine e_get (pc := 178) fl_X11_25 dX11_timesBy_178 (by repeat (first | assumption | exact hset_eq _ _ _ | (apply WAt.hd; assumption) | rw [hset_ne _ _ (by omega)])) (by rfl) ?_
    refine e_iload (pc := 181) dX11_timesBy_181 rfl ?_
    refine e_dup2 (pc := 183) dX11_timesBy_183 rfl rfl ?_
    refine e_ialdN (pc := 184) k dX11_timesBy_184 (by repeat (first | assumption | exact hset_eq _ _ _ | (apply WAt.hd; assumption) | rw [hset_ne _ _ (by omega)])) (by rfl) (by omega) (by first | decide | omega) ?_
    rw [g1]
    refine e_aload_n (pc := 185) dX11_timesBy_185 rfl rfl ?_
    refine e_get (pc := 186) fl_X11_106 dX11_timesBy_186 (by repeat (first | assumption | exact hset_eq _ _ _ | (apply WAt.hd; assumption) | rw [hset_ne _ _ (by omega)])) (by rfl) ?_
    refine n_irem (pc := 189) dX11_timesBy_189 (by omega) (by omega) (by omega) ?_
    refine e_iastN (pc := 190) k dX11_timesBy_190 (by repeat (first | assumption | exact hset_eq _ _ _ | (apply WAt.hd; assumption) | rw [hset_ne _ _ (by omega)])) (by rfl) (by omega) (by first | decide | omega) ?_
    refine n_inc (pc := 191) dX11_timesBy_191 rfl (by decide) ?_
    refine e_heap (hset_hset H (m + 6) _ _) ?_
    refine e_goto (pc := 194) (tgt := 168) dX11_timesBy_194 (by decide) ?_
    refine ih (k + 1) (by omega) (by omega) _ (fun a ha => ?_)
    by_cases e : a = k
    · subst e; rw [pk_us, if_pos (by omega)]
    · rw [pk_un e, hg a ha]
      by_cases e2 : a < k
      · rw [if_pos e2, if_pos (by omega)]
      · rw [if_neg e2, if_neg (by omega)]
theorem l_tb_z (hM : MH H m W.1 W.2.1 q s) (hk : Wok W)
    (kk : ∀ g, (∀ k, k < W.2.1 → g k = nI 0) → VI MX11_timesBy sz Pr (hset H (m + 6) (aI 5 g)) 44 [some (.ref m), some (.ref c), none, none, none, none, none] []) :
    ∀ (t k : Nat), t = W.2.1 - k → k ≤ W.2.1 → ∀ g, (∀ a, a < k → g a = nI 0) → VI MX11_timesBy sz Pr (hset H (m + 6) (aI 5 g)) 21 [some (.ref m), some (.ref c), none, none, some (.int (nI k)), none, none] [] := by
  obtain ⟨b1, b2, b3, b4, b5⟩ := hk.b
  intro t
  induction t with
  | zero =>
    intro k e1 e2 g hg
    have e' : k = W.2.1 := by omega
    subst e'
    have hM1 : MH (hset H (m + 6) (aI 5 g)) m W.1 W.2.1 q s := (hset_ne _ _ (by omega)).trans hM
    refine e_iload (pc := 21) dX11_timesBy_21 rfl ?_
    refine e_aload_n (pc := 23) dX11_timesBy_23 rfl rfl ?_
    refine e_get (pc := 24) fl_X11_109 dX11_timesBy_24 (by repeat (first | assumption | exact hset_eq _ _ _ | (apply WAt.hd; assumption) | rw [hset_ne _ _ (by omega)])) (by rfl) ?_
    refine n_icmp_ge (pc := 27) (tgt := 44) dX11_timesBy_27 (by decide) (by omega) (by omega) (fun hb_ => ?_) (fun c => absurd c (by omega))
    refine V.mask [true, true, false, false, false, false, false] ?_
    exact kk g hg
  | succ t ih =>
    intro k e1 e2 g hg
    have hM1 : MH (hset H (m + 6) (aI 5 g)) m W.1 W.2.1 q s := (hset_ne _ _ (by omega)).trans hM
    refine e_iload (pc := 21) dX11_timesBy_21 rfl ?_
    refine e_aload_n (pc := 23) dX11_timesBy_23 rfl rfl ?_
    refine e_get (pc := 24) fl_X11_109 dX11_timesBy_24 (by repeat (first | assumption | exact hset_eq _ _ _ | (apply WAt.hd; assumption) | rw [hset_ne _ _ (by omega)])) (by rfl) ?_
    refine n_icmp_ge (pc := 27) (tgt := 44) dX11_timesBy_27 (by decide) (by omega) (by omega) (fun c => absurd c (by omega)) (fun hb_ => ?_)
    refine e_aload_n (pc := 30) dX11_timesBy_30 rfl rfl ?_
    refine e_get (pc := 31) fl_X11_25 dX11_timesBy_31 (by repeat (first | assumption | exact hset_eq _ _ _ | (apply WAt.hd; assumption) | rw [hset_ne _ _ (by omega)])) (by rfl) ?_
    refine e_iload (pc := 34) dX11_timesBy_34 rfl ?_
    refine n_iconst (pc := 36) 0 dX11_timesBy_36 (by decide) ?_
    refine e_iastN (pc := 37) k dX11_timesBy_37 (by repeat (first | assumption | exact hset_eq _ _ _ | (apply WAt.hd; assumption) | rw [hset_ne _ _ (by omega)])) (by rfl) (by omega) (by first | decide | omega) ?_
    refine n_inc (pc := 38) dX11_timesBy_38 rfl (by decide) ?_
    refine e_heap (hset_hset H (m + 6) _ _) ?_
    refine e_goto (pc := 41) (tgt := 21) dX11_timesBy_41 (by decide) ?_
    refine ih (k + 1) (by omega) (by omega) _ (fun a ha => ?_)
    by_cases e : a = k
    · subst e; rw [pk_us]
    · rw [pk_un e]; exact hg a (by omega)
end TB
/-- nothing but the rows for digits has changed -/
def FdM (m : Nat) (h h' : AH) : Prop := ∀ a, a ≠ m + 4 → a ≠ m + 5 → a ≠ m + 6 → h' a = h a
theorem FdM.rf (m : Nat) (h : AH) : FdM m h h := fun _ _ _ _ => rfl
theorem FdM.tr {m : Nat} {h h1 h2 : AH} (a : FdM m h h1) (b : FdM m h1 h2) : FdM m h h2 := fun q x y z => (b q x y z).trans (a q x y z)
/-- the three rows for digits -/
def M3 (h : AH) (m : Nat) : Prop := (∃ g, h (m + 4) = some (aI 5 g)) ∧ (∃ g, h (m + 5) = some (aI 5 g)) ∧ ∃ g, h (m + 6) = some (aI 5 g)
theorem MRo.m3 (r : MRo h m) : M3 h m := ⟨r.row (k := 4) (isR_d _ (by decide)), r.row (k := 5) (isR_d _ (by decide)), r.row (k := 6) (isR_d _ (by decide))⟩
theorem M3.keep {h2 : AH} (r : M3 h m) (e : ∀ a, m + 4 ≤ a → a < m + 7 → h2 a = h a) : M3 h2 m := by
  obtain ⟨⟨g1, a1⟩, ⟨g2, a2⟩, ⟨g3, a3⟩⟩ := r
  exact ⟨⟨g1, (e _ (by omega) (by omega)).trans a1⟩, ⟨g2, (e _ (by omega) (by omega)).trans a2⟩, ⟨g3, (e _ (by omega) (by omega)).trans a3⟩⟩
theorem MRo.fd {h2 : AH} (r : MRo h m) (q : M3 h2 m) (e : FdM m h h2) : MRo h2 m := by
  refine r.keep (fun k hk => ?_) (fun a ha => e a (by omega) (by omega) (by omega))
  by_cases e4 : k = 4
  · subst e4; exact Or.inr q.1
  · by_cases e5 : k = 5
    · subst e5; exact Or.inr q.2.1
    · by_cases e6 : k = 6
      · subst e6; exact Or.inr q.2.2
      · exact Or.inl (e _ (by omega) (by omega) (by omega))
theorem c_X11_timesBy {c x y : Nat} (hM : MH h m W.1 W.2.1 q s) (h3 : M3 h m) (hc : CuA h c W) (hk : Wok W) (hx : x < 2 ^ 31) (hy : y < 2 ^ 31) (dc : c ≠ m + 4 ∧ c ≠ m + 5 ∧ c ≠ m + 6) : CI yX11_timesBy MX11_timesBy [.ref m, .ref c, .int (nI x), .int (nI y)] h (fun z h' => z = nI (mul W x y) ∧ M3 h' m ∧ FdM m h h') := by
  obtain ⟨b1, b2, b3, b4, b5⟩ := hk.b
  obtain ⟨⟨g4, r4⟩, ⟨g5, r5⟩, ⟨g6, r6⟩⟩ := h3
  refine CI.ofV (by decide) rfl rfl (by simp [Value.category]) (by exact Nat.le_of_ble_eq_true rfl) (fun sz => ?_)
  refine e_aload_n (pc := 0) dX11_timesBy_0 rfl rfl ?_
  refine e_iload_n (pc := 1) dX11_timesBy_1 rfl rfl ?_
  refine e_aload_n (pc := 2) dX11_timesBy_2 rfl rfl ?_
  refine e_get (pc := 3) fl_X11_19 dX11_timesBy_3 (by repeat (first | assumption | exact hset_eq _ _ _ | (apply WAt.hd; assumption) | rw [hset_ne _ _ (by omega)])) (by rfl) ?_
  refine n_Vv (pc := 6) (c_X11_digits hM ⟨b1, b2⟩ b4 hx (by omega) r4) bX11_digits q_i_X11_digits q_s_X11_digits q_m_X11_115 dX11_timesBy_6 rfl rfl (by repeat (first | assumption | exact hset_eq _ _ _ | (apply WAt.hd; assumption) | rw [hset_ne _ _ (by omega)])) rfl rfl (by exact Nat.le_of_ble_eq_true rfl) ⟨by decide, by decide⟩ ⟨rfl, rfl, Nat.zero_le _, Nat.zero_le _⟩ (fun h2 hp => ?_)
  obtain ⟨gx, rfl, x2⟩ := hp
  have hM2 : MH (hset h (m + 4) (aI 5 gx)) m W.1 W.2.1 q s := (hset_ne _ _ (by omega)).trans hM
  have r52 : hset h (m + 4) (aI 5 gx) (m + 5) = some (aI 5 g5) := (hset_ne _ _ (by omega)).trans r5
  refine e_aload_n (pc := 9) dX11_timesBy_9 rfl rfl ?_
  refine e_iload_n (pc := 10) dX11_timesBy_10 rfl rfl ?_
  refine e_aload_n (pc := 11) dX11_timesBy_11 rfl rfl ?_
  refine e_get (pc := 12) fl_X11_22 dX11_timesBy_12 (by repeat (first | assumption | exact hset_eq _ _ _ | (apply WAt.hd; assumption) | rw [hset_ne _ _ (by omega)])) (by rfl) ?_
  refine n_Vv (pc := 15) (c_X11_digits hM2 ⟨b1, b2⟩ b4 hy (by omega) r52) bX11_digits q_i_X11_digits q_s_X11_digits q_m_X11_115 dX11_timesBy_15 rfl rfl (by repeat (first | assumption | exact hset_eq _ _ _ | (apply WAt.hd; assumption) | rw [hset_ne _ _ (by omega)])) rfl rfl (by exact Nat.le_of_ble_eq_true rfl) ⟨by decide, by decide⟩ ⟨rfl, rfl, Nat.zero_le _, Nat.zero_le _⟩ (fun h3 hp => ?_)
  obtain ⟨gy, rfl, y2⟩ := hp
  have hM3 : MH (hset (hset h (m + 4) (aI 5 gx)) (m + 5) (aI 5 gy)) m W.1 W.2.1 q s := (hset_ne _ _ (by omega)).trans hM2
  have hC : TbC (hset (hset h (m + 4) (aI 5 gx)) (m + 5) (aI 5 gy)) m c q s W x y := ⟨hM3, ⟨gx, (hset_ne _ _ (by omega)).trans (hset_eq _ _ _), x2⟩, ⟨gy, hset_eq _ _ _, y2⟩, hc.keep ((hset_ne _ _ (by omega)).trans (hset_ne _ _ (by omega))), by omega⟩
  have r63 : hset (hset h (m + 4) (aI 5 gx)) (m + 5) (aI 5 gy) (m + 6) = some (aI 5 g6) := (hset_ne _ _ (by omega)).trans ((hset_ne _ _ (by omega)).trans r6)
  refine n_iconst (pc := 18) 0 dX11_timesBy_18 (by decide) ?_
  refine e_istore (pc := 19) dX11_timesBy_19 (by decide) ?_
  refine e_heap (hset_self r63).symm ?_
  refine V.mask [true, true, false, false, true, false, false] ?_
  refine l_tb_z hM3 hk (fun g hg => ?_) W.2.1 0 rfl (Nat.zero_le _) g6 (fun a ha => absurd ha (Nat.not_lt_zero a))
  refine n_iconst (pc := 44) 0 dX11_timesBy_44 (by decide) ?_
  refine e_istore (pc := 45) dX11_timesBy_45 (by decide) ?_
  refine l_tb_i hC hk (fun g2 hg2 => ?_) W.2.1 0 rfl (Nat.zero_le _) g (fun a ha => hg a ha)
  refine n_iconst (pc := 165) 0 dX11_timesBy_165 (by decide) ?_
  refine e_istore (pc := 166) dX11_timesBy_166 (by decide) ?_
  refine V.post ?_ (l_tb_m (c := c) (x := x) (y := y) hM3 hk W.2.1 0 rfl (Nat.zero_le _) g2 (fun a ha => by rw [if_neg (Nat.not_lt_zero a)]; exact hg2 a ha))
  intro r h' z qq
  obtain ⟨q1, x', q2, q3, g', rfl⟩ := qq
  exact ⟨q1, x', q2, q3, ⟨⟨gx, (hset_ne _ _ (by omega)).trans ((hset_ne _ _ (by omega)).trans (hset_eq _ _ _))⟩, ⟨gy, (hset_ne _ _ (by omega)).trans (hset_eq _ _ _)⟩, g', hset_eq _ _ _⟩, fun a a1 a2 a3 => by rw [hset_ne _ _ a3, hset_ne _ _ a2, hset_ne _ _ a1]⟩
/-- a world is laid out -/
def Lay (h : AH) (m : Nat) (W : Wd) (s : Ms) : Prop := MH h m W.1 W.2.1 (W.1 ^ W.2.1) s ∧ CuA h (m + 3) W ∧ MRo h m
theorem Lay.fd {h2 : AH} (l : Lay h m W s) (q : M3 h2 m) (e : FdM m h h2) : Lay h2 m W s := ⟨(e _ (by omega) (by omega) (by omega)).trans l.1, l.2.1.keep (e _ (by omega) (by omega) (by omega)), l.2.2.fd q e⟩
theorem c_X11_times {x y : Nat} (hL : Lay h m W s) (hk : Wok W) (hx : x < 2 ^ 31) (hy : y < 2 ^ 31) : CI yX11_times MX11_times [.ref m, .int (nI x), .int (nI y)] h (fun z h' => z = nI (mul W x y) ∧ Lay h' m W s ∧ FdM m h h') := by
  obtain ⟨hM, hc, hR⟩ := id hL
  refine CI.ofV (by decide) rfl rfl (by simp [Value.category]) (by exact Nat.le_of_ble_eq_true rfl) (fun sz => ?_)
  refine e_aload_n (pc := 0) dX11_times_0 rfl rfl ?_
  refine e_aload_n (pc := 1) dX11_times_1 rfl rfl ?_
  refine e_get (pc := 2) fl_X11_16 dX11_times_2 (by repeat (first | assumption | exact hset_eq _ _ _ | (apply WAt.hd; assumption) | rw [hset_ne _ _ (by omega)])) (by rfl) ?_
  refine e_iload_n (pc := 5) dX11_times_5 rfl rfl ?_
  refine e_iload_n (pc := 6) dX11_times_6 rfl rfl ?_
  refine n_V (pc := 7) (c_X11_timesBy hM hR.m3 hc hk hx hy (by omega)) bX11_timesBy q_i_X11_timesBy q_s_X11_timesBy q_m_X11_123 dX11_times_7 rfl rfl (by repeat (first | assumption | exact hset_eq _ _ _ | (apply WAt.hd; assumption) | rw [hset_ne _ _ (by omega)])) rfl rfl (by exact Nat.le_of_ble_eq_true rfl) ⟨by decide, by decide⟩ ⟨rfl, rfl, Nat.zero_le _, Nat.zero_le _⟩ (fun z h2 hp => ?_)
  obtain ⟨rfl, p1, p2⟩ := hp
  exact n_iret (pc := 10) dX11_times_10 rfl ⟨rfl, hL.fd p1 p2, p2⟩
theorem l_mpl {sz x a y p n : Nat} {H : AH} (hM : MH H m p n q s) (hx : ∃ g, H (m + 4) = some (aI 5 g) ∧ ∀ j, j < 5 → g j = nI (dgn p n x j)) (hy : ∃ g, H (m + 5) = some (aI 5 g) ∧ ∀ j, j < 5 → g j = nI (dgn p n y j)) (hp : 2 ≤ p ∧ p ≤ 5) (hn : 1 ≤ n ∧ n ≤ 5) (ha : a ≤ 5) :
    ∀ (t k : Nat), t = n - k → k ≤ n → ∀ g, (∀ j, j < k → g j = nI ((dg p x j + a * dg p y j) % p)) → VI MX11_plus sz (fun z h' => z = nI (num p n (fun j => (dg p x j + a * dg p y j) % p)) ∧ ∃ g, h' = hset H (m + 6) (aI 5 g)) (hset H (m + 6) (aI 5 g)) 21 [some (.ref m), some (.int (nI x)), some (.int (nI a)), some (.int (nI y)), some (.int (nI k))] [] := by
  obtain ⟨gx, x1, x2⟩ := hx
  obtain ⟨gy, y1, y2⟩ := hy
  intro t
  induction t with
  | zero =>
    intro k e1 e2 g hg
    have e' : k = n := by omega
    subst e'
    have hM1 : MH (hset H (m + 6) (aI 5 g)) m p k q s := (hset_ne _ _ (by omega)).trans hM
    refine e_iload (pc := 21) dX11_plus_21 rfl ?_
    refine e_aload_n (pc := 23) dX11_plus_23 rfl rfl ?_
    refine e_get (pc := 24) fl_X11_109 dX11_plus_24 (by repeat (first | assumption | exact hset_eq _ _ _ | (apply WAt.hd; assumption) | rw [hset_ne _ _ (by omega)])) (by rfl) ?_
    refine n_icmp_ge (pc := 27) (tgt := 65) dX11_plus_27 (by decide) (by omega) (by omega) (fun hb_ => ?_) (fun c => absurd c (by omega))
    refine e_aload_n (pc := 65) dX11_plus_65 rfl rfl ?_
    refine e_aload_n (pc := 66) dX11_plus_66 rfl rfl ?_
    refine e_get (pc := 67) fl_X11_25 dX11_plus_67 (by repeat (first | assumption | exact hset_eq _ _ _ | (apply WAt.hd; assumption) | rw [hset_ne _ _ (by omega)])) (by rfl) ?_
    refine n_VP (pc := 70) (c_X11_element (f := fun j => (dg p x j + a * dg p y j) % p) hM1 hn (hset_eq _ _ _) hg) bX11_element q_i_X11_element q_s_X11_element q_m_X11_119 dX11_plus_70 rfl rfl (by repeat (first | assumption | exact hset_eq _ _ _ | (apply WAt.hd; assumption) | rw [hset_ne _ _ (by omega)])) rfl rfl (by exact Nat.le_of_ble_eq_true rfl) ⟨by decide, by decide⟩ ⟨rfl, rfl, Nat.zero_le _, Nat.zero_le _⟩ ?_
    exact n_iret (pc := 73) dX11_plus_73 rfl ⟨rfl, g, rfl⟩
  | succ t ih =>
    intro k e1 e2 g hg
    have hk1 : k < n := by omega
    have hM1 : MH (hset H (m + 6) (aI 5 g)) m p n q s := (hset_ne _ _ (by omega)).trans hM
    have z2 := x2 k (by omega)
    have z3 := y2 k (by omega)
    rw [show dgn p n x k = dg p x k from if_pos hk1] at z2
    rw [show dgn p n y k = dg p y k from if_pos hk1] at z3
    have d1 := dg_lt (p := p) (by omega) x k
    have d2 := dg_lt (p := p) (by omega) y k
    have d3 : a * dg p y k ≤ 5 * 5 := Nat.mul_le_mul ha (by omega)
    refine e_iload (pc := 21) dX11_plus_21 rfl ?_
    refine e_aload_n (pc := 23) dX11_plus_23 rfl rfl ?_
    refine e_get (pc := 24) fl_X11_109 dX11_plus_24 (by repeat (first | assumption | exact hset_eq _ _ _ | (apply WAt.hd; assumption) | rw [hset_ne _ _ (by omega)])) (by rfl) ?_
    refine n_icmp_ge (pc := 27) (tgt := 65) dX11_plus_27 (by decide) (by omega) (by omega) (fun c => absurd c (by omega)) (fun hb_ => ?_)
    refine e_aload_n (pc := 30) dX11_plus_30 rfl rfl ?_
    refine e_get (pc := 31) fl_X11_25 dX11_plus_31 (by repeat (first | assumption | exact hset_eq _ _ _ | (apply WAt.hd; assumption) | rw [hset_ne _ _ (by omega)])) (by rfl) ?_
    refine e_iload (pc := 34) dX11_plus_34 rfl ?_
    refine e_aload_n (pc := 36) dX11_plus_36 rfl rfl ?_
    refine e_get (pc := 37) fl_X11_19 dX11_plus_37 (by repeat (first | assumption | exact hset_eq _ _ _ | (apply WAt.hd; assumption) | rw [hset_ne _ _ (by omega)])) (by rfl) ?_
    refine e_iload (pc := 40) dX11_plus_40 rfl ?_
    refine e_ialdN (pc := 42) k dX11_plus_42 (by repeat (first | assumption | exact hset_eq _ _ _ | (apply WAt.hd; assumption) | rw [hset_ne _ _ (by omega)])) (by rfl) (by omega) (by first | decide | omega) ?_
    rw [z2]
    refine e_iload_n (pc := 43) dX11_plus_43 rfl rfl ?_
    refine e_aload_n (pc := 44) dX11_plus_44 rfl rfl ?_
    refine e_get (pc := 45) fl_X11_22 dX11_plus_45 (by repeat (first | assumption | exact hset_eq _ _ _ | (apply WAt.hd; assumption) | rw [hset_ne _ _ (by omega)])) (by rfl) ?_
    refine e_iload (pc := 48) dX11_plus_48 rfl ?_
    refine e_ialdN (pc := 50) k dX11_plus_50 (by repeat (first | assumption | exact hset_eq _ _ _ | (apply WAt.hd; assumption) | rw [hset_ne _ _ (by omega)])) (by rfl) (by omega) (by first | decide | omega) ?_
    rw [z3]
    refine n_imul (pc := 51) dX11_plus_51 ?_
    refine n_iadd (pc := 52) dX11_plus_52 ?_
    refine e_aload_n (pc := 53) dX11_plus_53 rfl rfl ?_
    refine e_get (pc := 54) fl_X11_106 dX11_plus_54 (by repeat (first | assumption | exact hset_eq _ _ _ | (apply WAt.hd; assumption) | rw [hset_ne _ _ (by omega)])) (by rfl) ?_
    refine n_irem (pc := 57) dX11_plus_57 (by omega) (by omega) (by omega) ?_
    refine e_iastN (pc := 58) k dX11_plus_58 (by repeat (first | assumption | exact hset_eq _ _ _ | (apply WAt.hd; assumption) | rw [hset_ne _ _ (by omega)])) (by rfl) (by omega) (by first | decide | omega) ?_
    refine n_inc (pc := 59) dX11_plus_59 rfl (by decide) ?_
    refine e_heap (hset_hset H (m + 6) _ _) ?_
    refine e_goto (pc := 62) (tgt := 21) dX11_plus_62 (by decide) ?_
    refine ih (k + 1) (by omega) (by omega) _ (fun j hj => ?_)
    by_cases e : j = k
    · subst e; rw [pk_us]
    · rw [pk_un e]; exact hg j (by omega)
theorem c_X11_plus {x a y p n : Nat} (hM : MH h m p n q s) (h3 : M3 h m) (hp : 2 ≤ p ∧ p ≤ 5) (hn : 1 ≤ n ∧ n ≤ 5) (ha : a ≤ 5) (hx : x < 2 ^ 31) (hy : y < 2 ^ 31) : CI yX11_plus MX11_plus [.ref m, .int (nI x), .int (nI a), .int (nI y)] h (fun z h' => z = nI (num p n (fun j => (dg p x j + a * dg p y j) % p)) ∧ M3 h' m ∧ FdM m h h') := by
  obtain ⟨⟨g4, r4⟩, ⟨g5, r5⟩, ⟨g6, r6⟩⟩ := h3
  refine CI.ofV (by decide) rfl rfl (by simp [Value.category]) (by exact Nat.le_of_ble_eq_true rfl) (fun sz => ?_)
  refine e_aload_n (pc := 0) dX11_plus_0 rfl rfl ?_
  refine e_iload_n (pc := 1) dX11_plus_1 rfl rfl ?_
  refine e_aload_n (pc := 2) dX11_plus_2 rfl rfl ?_
  refine e_get (pc := 3) fl_X11_19 dX11_plus_3 (by repeat (first | assumption | exact hset_eq _ _ _ | (apply WAt.hd; assumption) | rw [hset_ne _ _ (by omega)])) (by rfl) ?_
  refine n_Vv (pc := 6) (c_X11_digits hM hp hn.2 hx (by omega) r4) bX11_digits q_i_X11_digits q_s_X11_digits q_m_X11_115 dX11_plus_6 rfl rfl (by repeat (first | assumption | exact hset_eq _ _ _ | (apply WAt.hd; assumption) | rw [hset_ne _ _ (by omega)])) rfl rfl (by exact Nat.le_of_ble_eq_true rfl) ⟨by decide, by decide⟩ ⟨rfl, rfl, Nat.zero_le _, Nat.zero_le _⟩ (fun h2 hp2 => ?_)
  obtain ⟨gx, rfl, x2⟩ := hp2
  have hM2 : MH (hset h (m + 4) (aI 5 gx)) m p n q s := (hset_ne _ _ (by omega)).trans hM
  have r52 : hset h (m + 4) (aI 5 gx) (m + 5) = some (aI 5 g5) := (hset_ne _ _ (by omega)).trans r5
  refine e_aload_n (pc := 9) dX11_plus_9 rfl rfl ?_
  refine e_iload_n (pc := 10) dX11_plus_10 rfl rfl ?_
  refine e_aload_n (pc := 11) dX11_plus_11 rfl rfl ?_
  refine e_get (pc := 12) fl_X11_22 dX11_plus_12 (by repeat (first | assumption | exact hset_eq _ _ _ | (apply WAt.hd; assumption) | rw [hset_ne _ _ (by omega)])) (by rfl) ?_
  refine n_Vv (pc := 15) (c_X11_digits hM2 hp hn.2 hy (by omega) r52) bX11_digits q_i_X11_digits q_s_X11_digits q_m_X11_115 dX11_plus_15 rfl rfl (by repeat (first | assumption | exact hset_eq _ _ _ | (apply WAt.hd; assumption) | rw [hset_ne _ _ (by omega)])) rfl rfl (by exact Nat.le_of_ble_eq_true rfl) ⟨by decide, by decide⟩ ⟨rfl, rfl, Nat.zero_le _, Nat.zero_le _⟩ (fun h3 hp3 => ?_)
  obtain ⟨gy, rfl, y2⟩ := hp3
  have hM3 : MH (hset (hset h (m + 4) (aI 5 gx)) (m + 5) (aI 5 gy)) m p n q s := (hset_ne _ _ (by omega)).trans hM2
  have r63 : hset (hset h (m + 4) (aI 5 gx)) (m + 5) (aI 5 gy) (m + 6) = some (aI 5 g6) := (hset_ne _ _ (by omega)).trans ((hset_ne _ _ (by omega)).trans r6)
  refine n_iconst (pc := 18) 0 dX11_plus_18 (by decide) ?_
  refine e_istore (pc := 19) dX11_plus_19 (by decide) ?_
  refine e_heap (hset_self r63).symm ?_
  refine V.post ?_ (l_mpl hM3 ⟨gx, (hset_ne _ _ (by omega)).trans (hset_eq _ _ _), x2⟩ ⟨gy, hset_eq _ _ _, y2⟩ hp hn ha n 0 rfl (Nat.zero_le _) g6 (fun j hj => absurd hj (Nat.not_lt_zero j)))
  intro r h' z qq
  obtain ⟨q1, x', q2, q3, g', rfl⟩ := qq
  exact ⟨q1, x', q2, q3, ⟨⟨gx, (hset_ne _ _ (by omega)).trans ((hset_ne _ _ (by omega)).trans (hset_eq _ _ _))⟩, ⟨gy, (hset_ne _ _ (by omega)).trans (hset_eq _ _ _)⟩, g', hset_eq _ _ _⟩, fun a a1 a2 a3 => by rw [hset_ne _ _ a3, hset_ne _ _ a2, hset_ne _ _ a1]⟩
/-- sums and differences of elements -/
theorem pl_ad {p n x y : Nat} (hp : 0 < p) (hn : n ≤ 5) (hx : x < p ^ n) (hy : y < p ^ n) : num p n (fun j => (dg p x j + 1 * dg p y j) % p) = ad p x y := by
  refine num_ext (p := p) (n := n) (num_lt (fun _ _ => Nat.mod_lt _ hp)) (ad_lt hp hn hx hy) (fun k hk => ?_)
  rw [dg_num hp hk (fun _ _ => Nat.mod_lt _ hp), ad_dg hp (by omega), Nat.one_mul]
theorem pl_sb {p n x y : Nat} (hp : 0 < p) (hn : n ≤ 5) (hx : x < p ^ n) (hy : y < p ^ n) : num p n (fun j => (dg p x j + (p - 1) * dg p y j) % p) = sb p x y := by
  refine num_ext (p := p) (n := n) (num_lt (fun _ _ => Nat.mod_lt _ hp)) (sb_lt hp hn hx hy) (fun k hk => ?_)
  rw [dg_num hp hk (fun _ _ => Nat.mod_lt _ hp), sbdg hp (by omega)]
theorem c_X11_minus {x y p n : Nat} (hM : MH h m p n q s) (h3 : M3 h m) (hp : 2 ≤ p ∧ p ≤ 5) (hn : 1 ≤ n ∧ n ≤ 5) (hx : x < p ^ n) (hy : y < p ^ n) : CI yX11_minus MX11_minus [.ref m, .int (nI x), .int (nI y)] h (fun z h' => z = nI (sb p x y) ∧ M3 h' m ∧ FdM m h h') := by
  have p5 : p ^ n ≤ p ^ 5 := Nat.pow_le_pow_right (by omega) hn.2
  have pp5 := pp hp.1 hp.2 5 (Nat.le_refl 5)
  refine CI.ofV (by decide) rfl rfl (by simp [Value.category]) (by exact Nat.le_of_ble_eq_true rfl) (fun sz => ?_)
  refine e_aload_n (pc := 0) dX11_minus_0 rfl rfl ?_
  refine e_iload_n (pc := 1) dX11_minus_1 rfl rfl ?_
  refine e_aload_n (pc := 2) dX11_minus_2 rfl rfl ?_
  refine e_get (pc := 3) fl_X11_106 dX11_minus_3 (by repeat (first | assumption | exact hset_eq _ _ _ | (apply WAt.hd; assumption) | rw [hset_ne _ _ (by omega)])) (by rfl) ?_
  refine n_iconst (pc := 6) 1 dX11_minus_6 (by decide) ?_
  refine n_isub (pc := 7) dX11_minus_7 (by omega) ?_
  refine e_iload_n (pc := 8) dX11_minus_8 rfl rfl ?_
  refine n_V (pc := 9) (c_X11_plus (a := p - 1) hM h3 hp hn (by omega) (show x < 2 ^ 31 by omega) (show y < 2 ^ 31 by omega)) bX11_plus q_i_X11_plus q_s_X11_plus q_m_X11_127 dX11_minus_9 rfl rfl (by repeat (first | assumption | exact hset_eq _ _ _ | (apply WAt.hd; assumption) | rw [hset_ne _ _ (by omega)])) rfl rfl (by exact Nat.le_of_ble_eq_true rfl) ⟨by decide, by decide⟩ ⟨rfl, rfl, Nat.zero_le _, Nat.zero_le _⟩ (fun z h2 hp2 => ?_)
  obtain ⟨rfl, p1, p2⟩ := hp2
  exact n_iret (pc := 12) dX11_minus_12 rfl ⟨by rw [pl_sb (by omega) hn.2 hx hy], p1, p2⟩
end M2
