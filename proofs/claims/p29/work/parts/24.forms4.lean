/-! ===== how many elements have each rank ===== -/
theorem sg_first {f : Nat → Nat} : ∀ (n : Nat), sg (n + 1) f = f 0 + sg n (fun t => f (t + 1))
  | 0 => by show 0 + f 0 = f 0 + 0; omega
  | n + 1 => by
    show sg (n + 1) f + f (n + 1) = f 0 + (sg n (fun t => f (t + 1)) + f (n + 1))
    rw [sg_first n]
    omega
theorem sg_const (n c : Nat) : sg n (fun _ => c) = n * c := by
  induction n with
  | zero => show 0 = 0 * c; omega
  | succ n ih => show sg n (fun _ => c) + c = _; rw [ih, Nat.add_mul, Nat.one_mul]
theorem mf_mf {p a b x : Nat} (hp : 0 < p) (hx : x < p ^ 5) (hab : b * a % p = 1 % p) : mf p b (mf p a x) = x := by
  refine num_ext (mf_lt hp (Nat.le_refl _) (mf_lt hp (Nat.le_refl _) hx)) hx (fun i hi => ?_)
  rw [mf_dg hp hi, mf_dg hp hi, Nat.mul_mod, Nat.mod_mod, ← Nat.mul_mod, ← Nat.mul_assoc, Nat.mul_mod, hab, ← Nat.mul_mod, Nat.one_mul]
  exact Nat.mod_eq_of_lt (dg_lt hp x i)
theorem mf_block {p a d i x : Nat} (hp : 0 < p) (hi : i < 5) (hd : d < p) (h1 : d * p ^ i ≤ x) (h2 : x < (d + 1) * p ^ i) : a * d % p * p ^ i ≤ mf p a x ∧ mf p a x < (a * d % p + 1) * p ^ i := by
  have hpi : 0 < p ^ i := Nat.pow_pos hp
  have hx : x < p ^ (i + 1) := by
    rw [Nat.pow_succ, Nat.mul_comm]
    exact Nat.lt_of_lt_of_le h2 (Nat.mul_le_mul_right _ hd)
  have e0 : x / p ^ i = d := by
    refine Nat.le_antisymm ?_ ((Nat.le_div_iff_mul_le hpi).mpr h1)
    have : x / p ^ i < d + 1 := (Nat.div_lt_iff_lt_mul hpi).mpr h2
    omega
  have e1 : dg p (mf p a x) i = a * d % p := by
    rw [mf_dg hp hi]
    unfold dg
    rw [e0, Nat.mod_eq_of_lt hd]
  have e2 : mf p a x < p ^ (i + 1) := mf_lt hp (by omega) hx
  have e3 : mf p a x / p ^ i = a * d % p := by
    have : mf p a x / p ^ i < p := Nat.div_lt_of_lt_mul (by rw [← Nat.pow_succ]; exact e2)
    unfold dg at e1
    rw [Nat.mod_eq_of_lt this] at e1
    exact e1
  exact ⟨(Nat.le_div_iff_mul_le hpi).mp (by omega), (Nat.div_lt_iff_lt_mul hpi).mp (by omega)⟩
noncomputable def blk (W : Wd) (side i m r : Nat) : Nat := cn m (fun y => bl (rankE W side (W.1 ^ i + y) = r))
noncomputable def cntR (W : Wd) (side r : Nat) : Nat := cn (W.1 ^ W.2.1) (fun x => bl (0 < x ∧ rankE W side x = r))
theorem inv_inv1 {p d : Nat} (hp : Pm p) (h0 : 0 < d) (hd : d < p) : inv p d * d % p = 1 % p ∧ d * inv p d % p = 1 % p ∧ inv p d * d % p = 1 := by
  obtain ⟨a, b, c⟩ := inv_ok hp h0 hd
  have : 1 % p = 1 := by rcases hp with rfl | rfl | rfl <;> decide
  rw [this, Nat.mul_comm]
  exact ⟨c, c, c⟩
theorem blk_any {W : Wd} (hk : Wok W) (side : Nat) {i d r : Nat} (hi : i < W.2.1) (h0 : 0 < d) (hd : d < W.1) : cn (W.1 ^ i) (fun y => bl (rankE W side (d * W.1 ^ i + y) = r)) = blk W side i (W.1 ^ i) r := by
  obtain ⟨b1, b2, b3, b4, b5⟩ := hk.b
  have hp0 : 0 < W.1 := by omega
  obtain ⟨j1, j2, j3⟩ := inv_ok hk.1 h0 hd
  obtain ⟨k1, k2, k3⟩ := inv_inv1 hk.1 h0 hd
  have hN : 0 < W.1 ^ i := Nat.pow_pos hp0
  have hbig : ∀ e y, e < W.1 → y < W.1 ^ i → e * W.1 ^ i + y < W.1 ^ 5 := fun e y he hy => by
    have h1 : (e + 1) * W.1 ^ i ≤ W.1 * W.1 ^ i := Nat.mul_le_mul_right _ he
    have h2 : W.1 * W.1 ^ i ≤ W.1 ^ 5 := by rw [Nat.mul_comm, ← Nat.pow_succ]; exact Nat.pow_le_pow_right hp0 (by omega)
    rw [Nat.add_mul, Nat.one_mul] at h1
    omega
  have fwd : ∀ y, y < W.1 ^ i → W.1 ^ i ≤ mf W.1 (inv W.1 d) (d * W.1 ^ i + y) ∧ mf W.1 (inv W.1 d) (d * W.1 ^ i + y) < 2 * W.1 ^ i := fun y hy => by
    have := mf_block (a := inv W.1 d) hp0 (show i < 5 by omega) hd (Nat.le_add_right (d * W.1 ^ i) y) (by rw [Nat.add_mul, Nat.one_mul]; omega)
    rw [k3, Nat.one_mul] at this
    exact this
  have bwd : ∀ y, y < W.1 ^ i → d * W.1 ^ i ≤ mf W.1 d (W.1 ^ i + y) ∧ mf W.1 d (W.1 ^ i + y) < (d + 1) * W.1 ^ i := fun y hy => by
    have := mf_block (a := d) (d := 1) (x := W.1 ^ i + y) hp0 (show i < 5 by omega) (by omega) (by omega) (by omega)
    rw [Nat.mul_one, Nat.mod_eq_of_lt hd] at this
    exact this
  refine Nat.le_antisymm ?_ ?_
  · refine cn_inj _ _ _ _ (fun y => mf W.1 (inv W.1 d) (d * W.1 ^ i + y) - W.1 ^ i) (fun y hy hq => ?_) (fun x y hx hy _ _ e => ?_)
    · obtain ⟨q1, q2⟩ := fwd y hy
      refine ⟨by omega, ?_⟩
      rw [Nat.add_sub_cancel' q1, rank_mf hk side j1 j2]
      exact hq
    · obtain ⟨q1, q2⟩ := fwd x hx
      obtain ⟨q3, q4⟩ := fwd y hy
      have e2 : mf W.1 (inv W.1 d) (d * W.1 ^ i + x) = mf W.1 (inv W.1 d) (d * W.1 ^ i + y) := by omega
      have e3 := congrArg (mf W.1 d) e2
      rw [mf_mf hp0 (hbig d x hd hx) k2, mf_mf hp0 (hbig d y hd hy) k2] at e3
      omega
  · refine cn_inj _ _ _ _ (fun y => mf W.1 d (W.1 ^ i + y) - d * W.1 ^ i) (fun y hy hq => ?_) (fun x y hx hy _ _ e => ?_)
    · obtain ⟨q1, q2⟩ := bwd y hy
      rw [Nat.add_mul, Nat.one_mul] at q2
      refine ⟨by omega, ?_⟩
      rw [Nat.add_sub_cancel' q1, rank_mf hk side h0 hd]
      exact hq
    · obtain ⟨q1, q2⟩ := bwd x hx
      obtain ⟨q3, q4⟩ := bwd y hy
      have e2 : mf W.1 d (W.1 ^ i + x) = mf W.1 d (W.1 ^ i + y) := by omega
      have e3 := congrArg (mf W.1 (inv W.1 d)) e2
      have h1 : ∀ z, z < W.1 ^ i → W.1 ^ i + z < W.1 ^ 5 := fun z hz => by have := hbig 1 z (by omega) hz; rw [Nat.one_mul] at this; exact this
      rw [mf_mf hp0 (h1 x hx) k1, mf_mf hp0 (h1 y hy) k1] at e3
      omega
theorem cntR_eq {W : Wd} (hk : Wok W) (side r : Nat) : (W.1 - 1) * sg W.2.1 (fun i => blk W side i (W.1 ^ i) r) = cntR W side r := by
  obtain ⟨b1, b2, b3, b4, b5⟩ := hk.b
  have key : ∀ m, m ≤ W.2.1 → (W.1 - 1) * sg m (fun i => blk W side i (W.1 ^ i) r) = cn (W.1 ^ m) (fun x => bl (0 < x ∧ rankE W side x = r)) := by
    intro m
    induction m with
    | zero =>
      intro _
      show (W.1 - 1) * 0 = 0 + (if bl (0 < 0 ∧ _) = true then 1 else 0)
      rw [bl_f (fun q => absurd q.1 (Nat.lt_irrefl 0))]
      simp
    | succ m ih =>
      intro hm
      show (W.1 - 1) * (sg m (fun i => blk W side i (W.1 ^ i) r) + blk W side m (W.1 ^ m) r) = _
      rw [Nat.mul_add, ih (by omega), Nat.pow_succ, Nat.mul_comm (W.1 ^ m), cn_mul]
      obtain ⟨c, hc⟩ : ∃ c, W.1 = c + 1 := ⟨W.1 - 1, by omega⟩
      have hN : 0 < W.1 ^ m := Nat.pow_pos (by omega)
      rw [show W.1 - 1 = c by omega]
      rw [show sg W.1 (fun e => cn (W.1 ^ m) (fun y => bl (0 < e * W.1 ^ m + y ∧ rankE W side (e * W.1 ^ m + y) = r))) = sg (c + 1) (fun e => cn (W.1 ^ m) (fun y => bl (0 < e * W.1 ^ m + y ∧ rankE W side (e * W.1 ^ m + y) = r))) from congrArg (fun z => sg z _) hc]
      rw [sg_first, Nat.zero_mul]
      congr 1
      · exact cn_congr (fun y _ => by rw [Nat.zero_add])
      · rw [sg_congr (g := fun _ => blk W side m (W.1 ^ m) r) (fun e he => by
          rw [← blk_any hk side (d := e + 1) (by omega) (by omega) (by omega)]
          exact cn_congr (fun y _ => bl_congr ⟨fun q => q.2, fun q => ⟨by
            have : 1 * W.1 ^ m ≤ (e + 1) * W.1 ^ m := Nat.mul_le_mul_right _ (by omega)
            omega, q⟩⟩)), sg_const]
  exact key W.2.1 (Nat.le_refl _)
theorem cn_le (n : Nat) (P : Nat → Bool) : cn n P ≤ n := by
  induction n with
  | zero => exact Nat.le_refl 0
  | succ n ih => show cn n P + (if P n = true then 1 else 0) ≤ n + 1; split <;> omega
section FC
variable {h : AH} {E o : Nat} {W : Wd} {f : Int32}
section LC
variable {sz side b : Nat} {hh : AH}
/-- the counts so far -/
def CSt (h hh : AH) (E o b : Nat) (W : Wd) (f : Int32) (A : Nat → Nat) : Prop := FSh h E ∧ WAt h o W f ∧ Er E (E + 83) hh h ∧ (∀ a, E + 81 ≤ a → a ≠ b → h a = hh a) ∧ ∃ g, h b = some (aI 6 g) ∧ ∀ r, r < 6 → g r = nI (A r)
end LC
theorem cntR_le {W : Wd} (hk : Wok W) (side r : Nat) : cntR W side r ≤ 243 := Nat.le_trans (cn_le _ _) hk.b.2.2.2.2
/-- what parts two worlds -/
def Parts (W W2 : Wd) (z : Int32) : Prop :=
  (∃ s, s < 3 ∧ z = nI s ∧ (∃ r, r ≤ 5 ∧ cntR W s r ≠ cntR W2 s r) ∧ ∀ s2, s2 < s → ∀ r, r ≤ 5 → cntR W s2 r = cntR W2 s2 r) ∨
  ((∀ s2, s2 < 3 → ∀ r, r ≤ 5 → cntR W s2 r = cntR W2 s2 r) ∧ ((z = 3 ∧ 3 * (W.2.1 * W.2.1) - rkD W (3 * (W.2.1 * W.2.1)) (W.2.1 * W.2.1) (2 * (W.2.1 * W.2.1)) ≠ 3 * (W2.2.1 * W2.2.1) - rkD W2 (3 * (W2.2.1 * W2.2.1)) (W2.2.1 * W2.2.1) (2 * (W2.2.1 * W2.2.1))) ∨ (z = -1 ∧ 3 * (W.2.1 * W.2.1) - rkD W (3 * (W.2.1 * W.2.1)) (W.2.1 * W.2.1) (2 * (W.2.1 * W.2.1)) = 3 * (W2.2.1 * W2.2.1) - rkD W2 (3 * (W2.2.1 * W2.2.1)) (W2.2.1 * W2.2.1) (2 * (W2.2.1 * W2.2.1)))))
end FC
