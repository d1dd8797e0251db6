/-! ===== the law's world: its cells; it is made, gets its sizes ===== -/
/-- a cube at a -/
def Cb (h : AH) (a : Nat) (c : Nat → Nat) : Prop := h a = some (aC 5 (fun i => if i < 5 then some (a + 1 + 6 * i) else none)) ∧ (∀ i, i < 5 → h (a + 1 + 6 * i) = some (aG 5 (fun j => if j < 5 then some (a + 2 + 6 * i + j) else none))) ∧ ∀ i, i < 5 → ∀ j, j < 5 → ∃ g, h (a + 2 + 6 * i + j) = some (aI 5 g) ∧ ∀ k, k < 5 → g k = nI (c (25 * i + 5 * j + k))
/-- the law's world W at w, its table tb -/
def LW (h : AH) (w : Nat) (W : Wd) (tb : Value) : Prop := h w = some (ob 10 [.int (nI W.1), .int (nI W.2.1), .int (nI (W.1 ^ W.2.1)), .ref (w + 1), tb]) ∧ Cb h (w + 1) W.2.2
theorem Cb.kept {h h2 : AH} {a : Nat} {c : Nat → Nat} (hC : Cb h a c) (e : ∀ q, a ≤ q → q ≤ a + 30 → h2 q = h q) : Cb h2 a c := by
  obtain ⟨c1, c2, c3⟩ := hC
  refine ⟨(e _ (by omega) (by omega)).trans c1, fun i hi => (e _ (by omega) (by omega)).trans (c2 i hi), fun i hi j hj => ?_⟩
  obtain ⟨g, g1, g2⟩ := c3 i hi j hj
  exact ⟨g, (e _ (by omega) (by omega)).trans g1, g2⟩
theorem LW.kept {h h2 : AH} {w : Nat} {W : Wd} {tb : Value} (hW : LW h w W tb) (e : ∀ q, w ≤ q → q ≤ w + 31 → h2 q = h q) : LW h2 w W tb := ⟨(e _ (by omega) (by omega)).trans hW.1, hW.2.kept (fun q q1 q2 => e q (by omega) (by omega))⟩
theorem Cb.row {h : AH} {a i j : Nat} {c : Nat → Nat} (hC : Cb h a c) (hi : i < 5) (hj : j < 5) : (fun i => if i < 5 then some (a + 1 + 6 * i) else none) i = some (a + 1 + 6 * i) ∧ (fun j => if j < 5 then some (a + 2 + 6 * i + j) else none) j = some (a + 2 + 6 * i + j) := ⟨if_pos hi, if_pos hj⟩
/-- a digit is put -/
theorem Cb.put {h : AH} {a i j : Nat} {c c2 : Nat → Nat} {g : Nat → Int32} (hC : Cb h a c) (hi : i < 5) (hj : j < 5) (hg : ∀ k, k < 5 → g k = nI (c2 (25 * i + 5 * j + k))) (ho : ∀ t, ¬ (25 * i + 5 * j ≤ t ∧ t < 25 * i + 5 * j + 5) → c2 t = c t) : Cb (hset h (a + 2 + 6 * i + j) (aI 5 g)) a c2 := by
  obtain ⟨c1, q2, c3⟩ := hC
  refine ⟨by rw [hset_ne _ _ (by omega)]; exact c1, fun i' hi' => by rw [hset_ne _ _ (by omega)]; exact q2 i' hi', fun i' hi' j' hj' => ?_⟩
  by_cases e : i' = i ∧ j' = j
  · obtain ⟨rfl, rfl⟩ := e
    exact ⟨g, hset_eq _ _ _, hg⟩
  · obtain ⟨g', g1, g2⟩ := c3 i' hi' j' hj'
    exact ⟨g', by rw [hset_ne _ _ (by omega)]; exact g1, fun k hk => by rw [ho _ (by omega)]; exact g2 k hk⟩
theorem hcube_Cb {h : AH} {a : Nat} : Cb (hcube h a) a (fun _ => 0) := by
  refine ⟨if_pos rfl, fun i hi => ?_, fun i hi j hj => ⟨fun _ => 0, ?_, fun k _ => rfl⟩⟩
  · unfold hcube
    rw [if_neg (by omega), if_pos (by omega), if_pos (by omega)]
    refine congrArg some (congrArg (aG 5) (funext fun j => ?_))
    by_cases g : j < 5
    · rw [if_pos g, if_pos g]; exact congrArg some (by omega)
    · rw [if_neg g, if_neg g]
  · unfold hcube
    rw [if_neg (by omega), if_pos (by omega), if_neg (by omega)]
theorem hcube_out {h : AH} {a q : Nat} (hq : q < a ∨ a + 30 < q) : hcube h a q = h q := by
  unfold hcube
  rw [if_neg (by omega), if_neg (by omega)]
section LA
variable {ro : RT} {h : AH} {w zq : Nat} {W : Wd} {tb : Value}
theorem c_X11_init (hw : h w = some (ob 10 [.int 0, .int 0, .int 0, .null, .null])) : CnS ro yX11_init MX11_init [.ref w] (w + 1) h (fun r h' z => r = none ∧ z = w + 32 ∧ LW h' w (2, 1, fun _ => 0) .null ∧ ∀ q, q < w → h' q = h q) := by
  refine CnS.ofVS (by decide) rfl (fun q => rfl) (by simp [Value.category]) (by exact Nat.le_of_ble_eq_true rfl) ?_
  refine ze_aload_n (pc := 0) dX11_init_0 rfl rfl ?_
  refine ze_objInit (pc := 1) q_m_X11_1 dX11_init_1 (by exact Nat.le_of_ble_eq_true rfl) (by exact Nat.le_of_ble_eq_true rfl) ?_
  refine ze_aload_n (pc := 4) dX11_init_4 rfl rfl ?_
  refine zn_iconst (pc := 5) 2 dX11_init_5 (by decide) ?_
  refine ze_put (pc := 6) pl_X11_7 dX11_init_6 (by repeat (first | assumption | exact hset_eq _ _ _ | rw [hset_ne _ _ (by omega)])) (by rfl) (by rfl) (by exact Nat.le_of_ble_eq_true rfl) ?_
  refine ze_aload_n (pc := 9) dX11_init_9 rfl rfl ?_
  refine zn_iconst (pc := 10) 1 dX11_init_10 (by decide) ?_
  refine ze_put (pc := 11) pl_X11_13 dX11_init_11 (by repeat (first | assumption | exact hset_eq _ _ _ | rw [hset_ne _ _ (by omega)])) (by rfl) (by rfl) (by exact Nat.le_of_ble_eq_true rfl) ?_
  refine ze_aload_n (pc := 14) dX11_init_14 rfl rfl ?_
  refine zn_iconst (pc := 15) 2 dX11_init_15 (by decide) ?_
  refine ze_put (pc := 16) pl_X11_16 dX11_init_16 (by repeat (first | assumption | exact hset_eq _ _ _ | rw [hset_ne _ _ (by omega)])) (by rfl) (by rfl) (by exact Nat.le_of_ble_eq_true rfl) ?_
  refine ze_aload_n (pc := 19) dX11_init_19 rfl rfl ?_
  refine zn_iconst (pc := 20) 5 dX11_init_20 (by decide) ?_
  refine zn_iconst (pc := 21) 5 dX11_init_21 (by decide) ?_
  refine zn_iconst (pc := 22) 5 dX11_init_22 (by decide) ?_
  refine ze_new3 (pc := 23) q_cl_X11_19 dX11_init_23 rfl rfl rfl ⟨by exact Nat.le_of_ble_eq_true rfl, by exact Nat.le_of_ble_eq_true rfl⟩ ?_
  dsimp only
  refine ze_put (pc := 27) pl_X11_21 dX11_init_27 (by rw [hcube_out (by omega)]; exact hset_eq _ _ _) (by rfl) (by rfl) (by exact Nat.le_of_ble_eq_true rfl) ?_
  refine ze_vret (pc := 30) dX11_init_30 rfl ⟨by exact Nat.le_of_ble_eq_true rfl, by exact Nat.le_of_ble_eq_true rfl⟩ ⟨rfl, rfl, ⟨?_, ?_⟩, fun q hq => ?_⟩
  · rw [hset_eq]; rfl
  · exact hcube_Cb.kept (fun q q1 q2 => hset_ne _ _ (by omega))
  · rw [hset_ne _ _ (by omega), hcube_out (by omega), hset_ne _ _ (by omega), hset_ne _ _ (by omega), hset_ne _ _ (by omega)]
theorem l_lsz {p n : Nat} {d e : Value} {Pr : AH → Prop} (hp : 2 ≤ p ∧ p ≤ 5) (hn : n ≤ 5) (kk : Pr (hset h w (ob 10 [.int (nI p), .int (nI n), .int (nI (p ^ n)), d, e]))) : ∀ (m i : Nat), m = n - i → i ≤ n → VVS ro MX11_sizes zq Pr (hset h w (ob 10 [.int (nI p), .int (nI n), .int (nI (p ^ i)), d, e])) 17 [some (.ref w), some (.int (nI p)), some (.int (nI n)), some (.int (nI i))] [] := by
  intro m
  induction m with
  | zero =>
    intro i e1 e2
    have : i = n := by omega
    subst this
    refine ze_iload_n (pc := 17) dX11_sizes_17 rfl rfl ?_
    refine ze_aload_n (pc := 18) dX11_sizes_18 rfl rfl ?_
    refine ze_get (pc := 19) fl_X11_13 dX11_sizes_19 (by repeat (first | assumption | exact hset_eq _ _ _ | rw [hset_ne _ _ (by omega)])) (by rfl) ?_
    refine zn_icmp_ge (pc := 22) (tgt := 44) dX11_sizes_22 (by decide) (by omega) (by omega) (fun c => ?_) (fun c => absurd c (by omega))
    exact zn_vret (pc := 44) dX11_sizes_44 rfl kk
  | succ m ih =>
    intro i e1 e2
    refine ze_iload_n (pc := 17) dX11_sizes_17 rfl rfl ?_
    refine ze_aload_n (pc := 18) dX11_sizes_18 rfl rfl ?_
    refine ze_get (pc := 19) fl_X11_13 dX11_sizes_19 (by repeat (first | assumption | exact hset_eq _ _ _ | rw [hset_ne _ _ (by omega)])) (by rfl) ?_
    refine zn_icmp_ge (pc := 22) (tgt := 44) dX11_sizes_22 (by decide) (by omega) (by omega) (fun c => absurd c (by omega)) (fun c => ?_)
    refine ze_aload_n (pc := 25) dX11_sizes_25 rfl rfl ?_
    refine ze_dup (pc := 26) dX11_sizes_26 rfl ?_
    refine ze_get (pc := 27) fl_X11_16 dX11_sizes_27 (by repeat (first | assumption | exact hset_eq _ _ _ | rw [hset_ne _ _ (by omega)])) (by rfl) ?_
    refine ze_aload_n (pc := 30) dX11_sizes_30 rfl rfl ?_
    refine ze_get (pc := 31) fl_X11_7 dX11_sizes_31 (by repeat (first | assumption | exact hset_eq _ _ _ | rw [hset_ne _ _ (by omega)])) (by rfl) ?_
    refine zn_imul (pc := 34) dX11_sizes_34 ?_
    refine ze_put (pc := 35) pl_X11_16 dX11_sizes_35 (by repeat (first | assumption | exact hset_eq _ _ _ | rw [hset_ne _ _ (by omega)])) (by rfl) (by rfl) (by exact Nat.le_of_ble_eq_true rfl) ?_
    rw [hset_hset]
    refine zn_inc (pc := 38) dX11_sizes_38 rfl (by decide) ?_
    refine ze_goto (pc := 41) (tgt := 17) dX11_sizes_41 (by decide) ?_
    exact ih (i + 1) (by omega) (by omega)
theorem c_X11_sizes {p n : Nat} {a b c d e : Value} (hw : h w = some (ob 10 [a, b, c, d, e])) (hp : 2 ≤ p ∧ p ≤ 5) (hn : n ≤ 5) : CVS ro yX11_sizes MX11_sizes [.ref w, .int (nI p), .int (nI n)] h (fun h' => h' = hset h w (ob 10 [.int (nI p), .int (nI n), .int (nI (p ^ n)), d, e])) := by
  refine CVS.ofV (by decide) rfl rfl (by simp [Value.category]) (by exact Nat.le_of_ble_eq_true rfl) (fun sz => ?_)
  refine ze_aload_n (pc := 0) dX11_sizes_0 rfl rfl ?_
  refine ze_iload_n (pc := 1) dX11_sizes_1 rfl rfl ?_
  refine ze_put (pc := 2) pl_X11_7 dX11_sizes_2 (by repeat (first | assumption | exact hset_eq _ _ _ | rw [hset_ne _ _ (by omega)])) (by rfl) (by rfl) (by exact Nat.le_of_ble_eq_true rfl) ?_
  refine ze_aload_n (pc := 5) dX11_sizes_5 rfl rfl ?_
  refine ze_iload_n (pc := 6) dX11_sizes_6 rfl rfl ?_
  refine ze_put (pc := 7) pl_X11_13 dX11_sizes_7 (by repeat (first | assumption | exact hset_eq _ _ _ | rw [hset_ne _ _ (by omega)])) (by rfl) (by rfl) (by exact Nat.le_of_ble_eq_true rfl) ?_
  refine ze_aload_n (pc := 10) dX11_sizes_10 rfl rfl ?_
  refine zn_iconst (pc := 11) 1 dX11_sizes_11 (by decide) ?_
  refine ze_put (pc := 12) pl_X11_16 dX11_sizes_12 (by repeat (first | assumption | exact hset_eq _ _ _ | rw [hset_ne _ _ (by omega)])) (by rfl) (by rfl) (by exact Nat.le_of_ble_eq_true rfl) ?_
  refine zn_iconst (pc := 15) 0 dX11_sizes_15 (by decide) ?_
  refine ze_istore_n (pc := 16) dX11_sizes_16 rfl (by decide) ?_
  rw [hset_hset, hset_hset]
  exact l_lsz (ro := ro) (w := w) (h := h) (d := d) (e := e) (Pr := fun h' => h' = hset h w (ob 10 [.int (nI p), .int (nI n), .int (nI (p ^ n)), d, e])) hp hn rfl n 0 (by omega) (by omega)
-- digits
theorem l_ldg {p x i : Nat} {b c d e : Value} {Pr : Int32 → AH → Prop} (hw : h w = some (ob 10 [.int (nI p), b, c, d, e])) (hp : 2 ≤ p ∧ p ≤ 5) (hx : x < 100000) (hi : i ≤ 5) (kk : Pr (nI (dg p x i)) h) : ∀ (m k : Nat), m = i - k → k ≤ i → VIS ro MX11_digit zq Pr h 2 [some (.ref w), some (.int (nI (x / p ^ k))), some (.int (nI i)), some (.int (nI k))] [] := by
  intro m
  induction m with
  | zero =>
    intro k e1 e2
    have : k = i := by omega
    subst this
    have hx2 : x / p ^ k ≤ x := Nat.div_le_self _ _
    refine ze_iload_n (pc := 2) dX11_digit_2 rfl rfl ?_
    refine ze_iload_n (pc := 3) dX11_digit_3 rfl rfl ?_
    refine zn_icmp_ge (pc := 4) (tgt := 20) dX11_digit_4 (by decide) (by omega) (by omega) (fun c => ?_) (fun c => absurd c (by omega))
    refine ze_iload_n (pc := 20) dX11_digit_20 rfl rfl ?_
    refine ze_aload_n (pc := 21) dX11_digit_21 rfl rfl ?_
    refine ze_get (pc := 22) fl_X11_7 dX11_digit_22 (by repeat (first | assumption | exact hset_eq _ _ _ | rw [hset_ne _ _ (by omega)])) (by rfl) ?_
    refine zn_irem (pc := 25) dX11_digit_25 (by omega) (by omega) (by omega) ?_
    exact zn_iret dX11_digit_26 rfl kk
  | succ m ih =>
    intro k e1 e2
    have hx2 : x / p ^ k ≤ x := Nat.div_le_self _ _
    refine ze_iload_n (pc := 2) dX11_digit_2 rfl rfl ?_
    refine ze_iload_n (pc := 3) dX11_digit_3 rfl rfl ?_
    refine zn_icmp_ge (pc := 4) (tgt := 20) dX11_digit_4 (by decide) (by omega) (by omega) (fun c => absurd c (by omega)) (fun c => ?_)
    refine ze_iload_n (pc := 7) dX11_digit_7 rfl rfl ?_
    refine ze_aload_n (pc := 8) dX11_digit_8 rfl rfl ?_
    refine ze_get (pc := 9) fl_X11_7 dX11_digit_9 (by repeat (first | assumption | exact hset_eq _ _ _ | rw [hset_ne _ _ (by omega)])) (by rfl) ?_
    refine zn_idiv (pc := 12) dX11_digit_12 (by omega) (by omega) (by omega) ?_
    rw [dg_div]
    refine ze_istore_n (pc := 13) dX11_digit_13 rfl (by decide) ?_
    refine zn_inc (pc := 14) dX11_digit_14 rfl (by decide) ?_
    refine ze_goto (pc := 17) (tgt := 2) dX11_digit_17 (by decide) ?_
    exact ih (k + 1) (by omega) (by omega)
theorem c_X11_digit {p x i : Nat} {b c d e : Value} (hw : h w = some (ob 10 [.int (nI p), b, c, d, e])) (hp : 2 ≤ p ∧ p ≤ 5) (hx : x < 100000) (hi : i ≤ 5) : CPS ro yX11_digit MX11_digit [.ref w, .int (nI x), .int (nI i)] h (nI (dg p x i)) := by
  refine CIS.ofV (by decide) rfl rfl (by simp [Value.category]) (by exact Nat.le_of_ble_eq_true rfl) (fun sz => ?_)
  refine zn_iconst (pc := 0) 0 dX11_digit_0 (by decide) ?_
  refine ze_istore_n (pc := 1) dX11_digit_1 rfl (by decide) ?_
  refine ze_loc (ls2 := [some (.ref w), some (.int (nI (x / p ^ 0))), some (.int (nI i)), some (.int (nI 0))]) (by rw [Nat.pow_zero, Nat.div_one]; rfl) ?_
  exact l_ldg hw hp hx hi ⟨rfl, rfl⟩ i 0 (by omega) (by omega)
-- sums
theorem num_ge {p : Nat} {f : Nat → Nat} (hp : 1 ≤ p) (hf : ∀ i, f i < p) (i : Nat) : num p i f < p ^ i := num_lt (fun j _ => hf j)
def adn (p n x y : Nat) : Nat := num p n (fun i => (dg p x i + dg p y i) % p)
theorem num_snoc (p n : Nat) (f : Nat → Nat) : num p (n + 1) f = num p n f + f n * p ^ n := by
  show _ = _
  first
    | rfl
    | (simp [num, Nat.mul_comm, Nat.add_comm])
theorem adn_ad {p n x y : Nat} (hp : 0 < p) (hn : n ≤ 5) (hx : x < p ^ n) (hy : y < p ^ n) : adn p n x y = ad p x y := by
  unfold adn ad
  exact (num_to hn (fun i hi => by rw [dg_big hp hx hi, dg_big hp hy hi]; exact Nat.zero_mod _)).symm
theorem l_lpl {p n x y : Nat} {c d e : Value} {Pr : Int32 → AH → Prop} (hw : h w = some (ob 10 [.int (nI p), .int (nI n), c, d, e])) (hp : 2 ≤ p ∧ p ≤ 5) (hn : n ≤ 5) (hx : x < 100000) (hy : y < 100000) (kk : Pr (nI (adn p n x y)) h) : ∀ (m i : Nat), m = n - i → i ≤ n → VIS ro MX11_plus zq Pr h 8 [some (.ref w), some (.int (nI x)), some (.int (nI y)), some (.int (nI (adn p i x y))), some (.int (nI (p ^ i))), some (.int (nI i))] [] := by
  intro m
  induction m with
  | zero =>
    intro i e1 e2
    have : i = n := by omega
    subst this
    refine ze_iload (pc := 8) dX11_plus_8 rfl ?_
    refine ze_aload_n (pc := 10) dX11_plus_10 rfl rfl ?_
    refine ze_get (pc := 11) fl_X11_13 dX11_plus_11 (by repeat (first | assumption | exact hset_eq _ _ _ | rw [hset_ne _ _ (by omega)])) (by rfl) ?_
    refine zn_icmp_ge (pc := 14) (tgt := 58) dX11_plus_14 (by decide) (by omega) (by omega) (fun c => ?_) (fun c => absurd c (by omega))
    refine ze_iload_n (pc := 58) dX11_plus_58 rfl rfl ?_
    exact zn_iret dX11_plus_59 rfl kk
  | succ m ih =>
    intro i e1 e2
    have hd1 : dg p x i < 5 := Nat.lt_of_lt_of_le (dg_lt (by omega) x i) hp.2
    have hd2 : dg p y i < 5 := Nat.lt_of_lt_of_le (dg_lt (by omega) y i) hp.2
    refine ze_iload (pc := 8) dX11_plus_8 rfl ?_
    refine ze_aload_n (pc := 10) dX11_plus_10 rfl rfl ?_
    refine ze_get (pc := 11) fl_X11_13 dX11_plus_11 (by repeat (first | assumption | exact hset_eq _ _ _ | rw [hset_ne _ _ (by omega)])) (by rfl) ?_
    refine zn_icmp_ge (pc := 14) (tgt := 58) dX11_plus_14 (by decide) (by omega) (by omega) (fun c => absurd c (by omega)) (fun c => ?_)
    refine ze_iload_n (pc := 17) dX11_plus_17 rfl rfl ?_
    refine ze_aload_n (pc := 18) dX11_plus_18 rfl rfl ?_
    refine ze_iload_n (pc := 19) dX11_plus_19 rfl rfl ?_
    refine ze_iload (pc := 20) dX11_plus_20 rfl ?_
    refine zn_V (pc := 22) (c_X11_digit hw hp hx (by omega)) bX11_digit q_i_X11_digit q_s_X11_digit q_m_X11_29 dX11_plus_22 rfl rfl (by repeat (first | assumption | exact hset_eq _ _ _ | rw [hset_ne _ _ (by omega)])) rfl rfl (by exact Nat.le_of_ble_eq_true rfl) ⟨by decide, by decide⟩ ⟨rfl, rfl, Nat.zero_le _, Nat.zero_le _⟩ (fun x h2 hp => ?_)
    obtain ⟨rfl, rfl⟩ := hp
    refine ze_aload_n (pc := 25) dX11_plus_25 rfl rfl ?_
    refine ze_iload_n (pc := 26) dX11_plus_26 rfl rfl ?_
    refine ze_iload (pc := 27) dX11_plus_27 rfl ?_
    refine zn_V (pc := 29) (c_X11_digit hw hp hy (by omega)) bX11_digit q_i_X11_digit q_s_X11_digit q_m_X11_29 dX11_plus_29 rfl rfl (by repeat (first | assumption | exact hset_eq _ _ _ | rw [hset_ne _ _ (by omega)])) rfl rfl (by exact Nat.le_of_ble_eq_true rfl) ⟨by decide, by decide⟩ ⟨rfl, rfl, Nat.zero_le _, Nat.zero_le _⟩ (fun x h2 hp => ?_)
    obtain ⟨rfl, rfl⟩ := hp
    refine zn_iadd (pc := 32) dX11_plus_32 ?_
    refine ze_aload_n (pc := 33) dX11_plus_33 rfl rfl ?_
    refine ze_get (pc := 34) fl_X11_7 dX11_plus_34 (by repeat (first | assumption | exact hset_eq _ _ _ | rw [hset_ne _ _ (by omega)])) (by rfl) ?_
    refine zn_irem (pc := 37) dX11_plus_37 (by omega) (by omega) (by omega) ?_
    refine ze_iload (pc := 38) dX11_plus_38 rfl ?_
    refine zn_imul (pc := 40) dX11_plus_40 ?_
    refine zn_iadd (pc := 41) dX11_plus_41 ?_
    rw [show adn p i x y + (dg p x i + dg p y i) % p * p ^ i = adn p (i + 1) x y from (num_snoc p i (fun i => (dg p x i + dg p y i) % p)).symm]
    refine ze_istore_n (pc := 42) dX11_plus_42 rfl (by decide) ?_
    refine ze_iload (pc := 43) dX11_plus_43 rfl ?_
    refine ze_aload_n (pc := 45) dX11_plus_45 rfl rfl ?_
    refine ze_get (pc := 46) fl_X11_7 dX11_plus_46 (by repeat (first | assumption | exact hset_eq _ _ _ | rw [hset_ne _ _ (by omega)])) (by rfl) ?_
    refine zn_imul (pc := 49) dX11_plus_49 ?_
    rw [← Nat.pow_succ]
    refine ze_istore (pc := 50) dX11_plus_50 (by decide) ?_
    refine zn_inc (pc := 52) dX11_plus_52 rfl (by decide) ?_
    refine ze_goto (pc := 55) (tgt := 8) dX11_plus_55 (by decide) ?_
    exact ih (i + 1) (by omega) (by omega)
theorem c_X11_plus {p n x y : Nat} {c d e : Value} (hw : h w = some (ob 10 [.int (nI p), .int (nI n), c, d, e])) (hp : 2 ≤ p ∧ p ≤ 5) (hn : n ≤ 5) (hx : x < p ^ n) (hy : y < p ^ n) (hb : p ^ n ≤ 3125) : CPS ro yX11_plus MX11_plus [.ref w, .int (nI x), .int (nI y)] h (nI (ad p x y)) := by
  refine CIS.ofV (by decide) rfl rfl (by simp [Value.category]) (by exact Nat.le_of_ble_eq_true rfl) (fun sz => ?_)
  refine zn_iconst (pc := 0) 0 dX11_plus_0 (by decide) ?_
  refine ze_istore_n (pc := 1) dX11_plus_1 rfl (by decide) ?_
  refine zn_iconst (pc := 2) 1 dX11_plus_2 (by decide) ?_
  refine ze_istore (pc := 3) dX11_plus_3 (by decide) ?_
  refine zn_iconst (pc := 5) 0 dX11_plus_5 (by decide) ?_
  refine ze_istore (pc := 6) dX11_plus_6 (by decide) ?_
  exact l_lpl hw hp hn (by omega) (by omega) ⟨by rw [adn_ad (by omega) hn hx hy], rfl⟩ n 0 (by omega) (by omega)
-- differences
def adk (p : Nat) (x y : Nat) : Nat → Nat
  | 0 => x
  | k + 1 => ad p (adk p x y k) y
theorem adk_lt {p n x y : Nat} (hp : 0 < p) (hn : n ≤ 5) (hx : x < p ^ n) (hy : y < p ^ n) : ∀ k, adk p x y k < p ^ n
  | 0 => hx
  | k + 1 => ad_lt hp hn (adk_lt hp hn hx hy k) hy
theorem adk_dg {p x y i : Nat} (hp : 0 < p) (hi : i < 5) : ∀ k, dg p (adk p x y k) i = (dg p x i + k * dg p y i) % p
  | 0 => by
    show dg p x i = _
    rw [Nat.zero_mul, Nat.add_zero, Nat.mod_eq_of_lt (dg_lt hp x i)]
  | k + 1 => by
    show dg p (ad p (adk p x y k) y) i = _
    rw [ad_dg hp hi, adk_dg hp hi k, Nat.mod_add_mod, Nat.succ_mul, Nat.add_assoc]
theorem adk_sb {p n x y : Nat} (hp : 0 < p) (hn : n ≤ 5) (hx : x < p ^ n) (hy : y < p ^ n) : adk p x y (p - 1) = sb p x y := by
  refine num_ext (p := p) (n := n) (adk_lt hp hn hx hy _) (sb_lt hp hn hx hy) (fun i hi => ?_)
  rw [adk_dg hp (by omega), sbdg hp (by omega)]
theorem l_lmi {p n x y : Nat} {c d e : Value} {Pr : Int32 → AH → Prop} (hw : h w = some (ob 10 [.int (nI p), .int (nI n), c, d, e])) (hp : 2 ≤ p ∧ p ≤ 5) (hn : n ≤ 5) (hx : x < p ^ n) (hy : y < p ^ n) (hb : p ^ n ≤ 3125) (kk : Pr (nI (sb p x y)) h) : ∀ (m k : Nat), m = p - 1 - k → k ≤ p - 1 → VIS ro MX11_minus zq Pr h 5 [some (.ref w), some (.int (nI x)), some (.int (nI y)), some (.int (nI (adk p x y k))), some (.int (nI (k + 1)))] [] := by
  intro m
  induction m with
  | zero =>
    intro k e1 e2
    have : k = p - 1 := by omega
    subst this
    refine ze_iload (pc := 5) dX11_minus_5 rfl ?_
    refine ze_aload_n (pc := 7) dX11_minus_7 rfl rfl ?_
    refine ze_get (pc := 8) fl_X11_7 dX11_minus_8 (by repeat (first | assumption | exact hset_eq _ _ _ | rw [hset_ne _ _ (by omega)])) (by rfl) ?_
    refine zn_icmp_ge (pc := 11) (tgt := 27) dX11_minus_11 (by decide) (by omega) (by omega) (fun c => ?_) (fun c => absurd c (by omega))
    refine ze_iload_n (pc := 27) dX11_minus_27 rfl rfl ?_
    rw [adk_sb (by omega) hn hx hy]
    exact zn_iret dX11_minus_28 rfl kk
  | succ m ih =>
    intro k e1 e2
    refine ze_iload (pc := 5) dX11_minus_5 rfl ?_
    refine ze_aload_n (pc := 7) dX11_minus_7 rfl rfl ?_
    refine ze_get (pc := 8) fl_X11_7 dX11_minus_8 (by repeat (first | assumption | exact hset_eq _ _ _ | rw [hset_ne _ _ (by omega)])) (by rfl) ?_
    refine zn_icmp_ge (pc := 11) (tgt := 27) dX11_minus_11 (by decide) (by omega) (by omega) (fun c => absurd c (by omega)) (fun c => ?_)
    refine ze_aload_n (pc := 14) dX11_minus_14 rfl rfl ?_
    refine ze_iload_n (pc := 15) dX11_minus_15 rfl rfl ?_
    refine ze_iload_n (pc := 16) dX11_minus_16 rfl rfl ?_
    refine zn_V (pc := 17) (c_X11_plus hw hp hn (adk_lt (by omega) hn hx hy k) hy hb) bX11_plus q_i_X11_plus q_s_X11_plus q_m_X11_33 dX11_minus_17 rfl rfl (by repeat (first | assumption | exact hset_eq _ _ _ | rw [hset_ne _ _ (by omega)])) rfl rfl (by exact Nat.le_of_ble_eq_true rfl) ⟨by decide, by decide⟩ ⟨rfl, rfl, Nat.zero_le _, Nat.zero_le _⟩ (fun x h2 hp => ?_)
    obtain ⟨rfl, rfl⟩ := hp
    refine ze_istore_n (pc := 20) dX11_minus_20 rfl (by decide) ?_
    refine zn_inc (pc := 21) dX11_minus_21 rfl (by decide) ?_
    refine ze_goto (pc := 24) (tgt := 5) dX11_minus_24 (by decide) ?_
    exact ih (k + 1) (by omega) (by omega)
theorem c_X11_minus {p n x y : Nat} {c d e : Value} (hw : h w = some (ob 10 [.int (nI p), .int (nI n), c, d, e])) (hp : 2 ≤ p ∧ p ≤ 5) (hn : n ≤ 5) (hx : x < p ^ n) (hy : y < p ^ n) (hb : p ^ n ≤ 3125) : CPS ro yX11_minus MX11_minus [.ref w, .int (nI x), .int (nI y)] h (nI (sb p x y)) := by
  refine CIS.ofV (by decide) rfl rfl (by simp [Value.category]) (by exact Nat.le_of_ble_eq_true rfl) (fun sz => ?_)
  refine ze_iload_n (pc := 0) dX11_minus_0 rfl rfl ?_
  refine ze_istore_n (pc := 1) dX11_minus_1 rfl (by decide) ?_
  refine zn_iconst (pc := 2) 1 dX11_minus_2 (by decide) ?_
  refine ze_istore (pc := 3) dX11_minus_3 (by decide) ?_
  exact l_lmi hw hp hn hx hy hb ⟨rfl, rfl⟩ (p - 1) 0 (by omega) (by omega)
end LA
