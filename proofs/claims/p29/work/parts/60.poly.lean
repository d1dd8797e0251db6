/-! ===== polynomials: their products join ===== -/
section PO
variable {p n : Nat} {cs : Nat → Nat}
theorem stp_lt (hp : 0 < p) (x : Nat) : stp p n cs x < p ^ n := num_lt (fun _ _ => Nat.mod_lt _ hp)
theorem stp_dg (hp : 0 < p) {x k : Nat} (hk : k < n) : dg p (stp p n cs x) k = ((if k = 0 then 0 else dg p x (k - 1)) + dg p x (n - 1) * cs k) % p := dg_num hp hk (fun _ _ => Nat.mod_lt _ hp)
theorem stp_lin (hp : 1 < p) (hn : n ≤ 5) {bs : Nat → Nat} {z : Nat} : stp p n cs (lin p n bs z) = lin p n (fun i => stp p n cs (bs i)) z := by
  have h0 : 0 < p := by omega
  refine num_ext (p := p) (n := n) (stp_lt h0 _) (lin_lt h0 hn (fun _ _ => stp_lt h0 _)) (fun k hk => ?_)
  rw [stp_dg h0 hk, lin_dg h0 (show k < 5 by omega), lin_dg h0 (show n - 1 < 5 by omega)]
  have e : sg n (fun i => dg p z i * dg p (stp p n cs (bs i)) k) % p = sg n (fun i => (if k = 0 then 0 else dg p z i * dg p (bs i) (k - 1)) + dg p z i * dg p (bs i) (n - 1) * cs k) % p := by
    refine sg_mod (fun i _ => ?_)
    rw [stp_dg h0 hk, Nat.mul_mod, Nat.mod_mod, ← Nat.mul_mod, Nat.mul_add]
    by_cases c : k = 0
    · rw [if_pos c, if_pos c, Nat.mul_zero, Nat.mul_assoc]
    · rw [if_neg c, if_neg c, Nat.mul_assoc]
  rw [e, sg_add]
  have e2 : sg n (fun i => dg p z i * dg p (bs i) (n - 1) * cs k) = sg n (fun i => dg p z i * dg p (bs i) (n - 1)) * cs k := by
    rw [Nat.mul_comm _ (cs k), ← sg_mul]
    exact sg_congr (fun i _ => Nat.mul_comm _ _)
  rw [e2]
  by_cases c : k = 0
  · rw [if_pos c, sg_zero (fun i _ => if_pos c), Nat.zero_add, Nat.zero_add, Nat.mul_mod, Nat.mod_mod, ← Nat.mul_mod]
  · rw [if_neg c, lin_dg h0 (show k - 1 < 5 by omega), sg_congr (g := fun i => dg p z i * dg p (bs i) (k - 1)) (fun i _ => if_neg c), Nat.add_mod, Nat.mod_mod, Nat.mul_mod, Nat.mod_mod, ← Nat.mul_mod, ← Nat.add_mod]
/-- the unknown, so many times -/
def tms (p n : Nat) (cs : Nat → Nat) : Nat → Nat → Nat
  | 0, x => x
  | m + 1, x => stp p n cs (tms p n cs m x)
theorem tms_lt (hp : 0 < p) {x : Nat} (hx : x < p ^ n) : ∀ m, tms p n cs m x < p ^ n
  | 0 => hx
  | m + 1 => stp_lt hp _
theorem tms_lin (hp : 1 < p) (hn : n ≤ 5) {bs : Nat → Nat} {z : Nat} : ∀ m, tms p n cs m (lin p n bs z) = lin p n (fun i => tms p n cs m (bs i)) z
  | 0 => rfl
  | m + 1 => by
    show stp p n cs (tms p n cs m (lin p n bs z)) = _
    rw [tms_lin hp hn m, stp_lin hp hn]
    rfl
theorem tms_add (x : Nat) (a : Nat) : ∀ b, tms p n cs b (tms p n cs a x) = tms p n cs (a + b) x
  | 0 => rfl
  | b + 1 => congrArg (stp p n cs) (tms_add x a b)
theorem tms_comm (x a b : Nat) : tms p n cs a (tms p n cs b x) = tms p n cs b (tms p n cs a x) := by
  rw [tms_add, tms_add, Nat.add_comm]
theorem pwr_tms : ∀ m, pwr p n cs m = tms p n cs m 1
  | 0 => rfl
  | m + 1 => congrArg (stp p n cs) (pwr_tms m)
theorem one_lt (hp : 1 < p) (hn : 0 < n) : 1 < p ^ n := Nat.one_lt_pow (by omega) hp
theorem pwr_lt (hp : 1 < p) (hn : 0 < n) (m : Nat) : pwr p n cs m < p ^ n := by
  rw [pwr_tms]
  exact tms_lt (by omega) (one_lt hp hn) m
theorem stp_pow (hp : 1 < p) {j : Nat} (hj : j + 1 < n) : stp p n cs (p ^ j) = p ^ (j + 1) := by
  refine num_ext (p := p) (n := n) (stp_lt (by omega) _) (Nat.pow_lt_pow_right hp hj) (fun k hk => ?_)
  rw [stp_dg (by omega) hk, dg_pow hp, dg_pow hp, dg_pow hp, if_neg (show ¬ n - 1 = j by omega), Nat.zero_mul, Nat.add_zero]
  by_cases c : k = 0
  · rw [if_pos c, if_neg (by omega), Nat.zero_mod]
  · rw [if_neg c]
    by_cases d : k = j + 1
    · rw [if_pos d, if_pos (by omega)]; exact Nat.mod_eq_of_lt hp
    · rw [if_neg d, if_neg (by omega), Nat.zero_mod]
theorem pwr_pow (hp : 1 < p) : ∀ {j : Nat}, j < n → pwr p n cs j = p ^ j
  | 0, _ => (Nat.pow_zero p).symm
  | j + 1, hj => by
    show stp p n cs (pwr p n cs j) = _
    rw [pwr_pow hp (show j < n by omega), stp_pow hp hj]
theorem polyW_ok (hc : canBe p n) : Wok (polyW p n cs) := wd_ok hc (fun t => dg_lt (by rcases hc.1 with h | h | h <;> omega) _ _)
section PW
variable (hc : canBe p n)
theorem cb_b (hc : canBe p n) : 1 < p ∧ p ≤ 5 ∧ 0 < n ∧ n ≤ 5 ∧ Pm p := ⟨by rcases hc.1 with h | h | h <;> omega, by rcases hc.1 with h | h | h <;> omega, hc.2.1, hc.2.2.1, hc.1⟩
theorem mulP_bb (hc : canBe p n) {i j : Nat} (hi : i < n) (hj : j < n) : mul (polyW p n cs) (p ^ i) (p ^ j) = pwr p n cs (i + j) := by
  obtain ⟨h1, h5, n0, n5, -⟩ := cb_b hc
  have hk := polyW_ok (cs := cs) hc
  refine num_ext (p := p) (n := n) (mul_lt hk _ _) (pwr_lt h1 n0 _) (fun k hkn => ?_)
  have e1 : dg p (mul (polyW p n cs) (p ^ i) (p ^ j)) k = mc (polyW p n cs) (p ^ i) (p ^ j) k % p := dg_mul hk _ _ hkn
  have e2 : mc (polyW p n cs) (p ^ i) (p ^ j) k = (polyW p n cs).2.2 (25 * i + 5 * j + k) := by
    rw [show mc (polyW p n cs) (p ^ i) (p ^ j) k = sg n (fun s => dg p (p ^ j) s * (polyW p n cs).2.2 (25 * i + 5 * s + k)) from mc_pow_l hk (p ^ j) k hi]
    rw [← sg_ind (d := (polyW p n cs).2.2 (25 * i + 5 * j + k)) hj]
    refine sg_congr (fun s _ => ?_)
    rw [dg_pow h1]
    by_cases c : s = j
    · rw [if_pos c, if_pos c, c, Nat.one_mul]
    · rw [if_neg c, if_neg c, Nat.zero_mul]
  rw [e1, e2]
  show (if inC n (25 * i + 5 * j + k) then dg p (pwr p n cs ((25 * i + 5 * j + k) / 25 + (25 * i + 5 * j + k) / 5 % 5)) ((25 * i + 5 * j + k) % 5) else 0) % p = _
  rw [if_pos (show inC n (25 * i + 5 * j + k) from ⟨by omega, by omega, by omega, by omega⟩), show (25 * i + 5 * j + k) / 25 = i by omega, show (25 * i + 5 * j + k) / 5 % 5 = j by omega, show (25 * i + 5 * j + k) % 5 = k by omega]
  exact Nat.mod_eq_of_lt (dg_lt (by omega) _ _)
theorem mulP_b (hc : canBe p n) {i y : Nat} (hi : i < n) (hy : y < p ^ n) : mul (polyW p n cs) (p ^ i) y = tms p n cs i y := by
  obtain ⟨h1, h5, n0, n5, -⟩ := cb_b hc
  have hk := polyW_ok (cs := cs) hc
  have e := mul_lin_d hk (fun j => p ^ j) y (p ^ i)
  have e : mul (polyW p n cs) (p ^ i) (lin p n (fun j => p ^ j) y) = lin p n (fun j => mul (polyW p n cs) (p ^ i) (p ^ j)) y := e
  rw [lin_id h1 n5 hy] at e
  rw [e]
  have e2 : tms p n cs i (lin p n (fun j => p ^ j) y) = lin p n (fun j => tms p n cs i (p ^ j)) y := tms_lin h1 n5 i
  rw [lin_id h1 n5 hy] at e2
  rw [e2]
  refine lin_congr (fun j hj => ?_)
  rw [mulP_bb hc hi hj, ← pwr_pow (cs := cs) h1 hj, pwr_tms, pwr_tms, tms_add, Nat.add_comm]
theorem mulP (hc : canBe p n) {x y : Nat} (hx : x < p ^ n) (hy : y < p ^ n) : mul (polyW p n cs) x y = lin p n (fun i => tms p n cs i y) x := by
  obtain ⟨h1, h5, n0, n5, -⟩ := cb_b hc
  have hk := polyW_ok (cs := cs) hc
  have e : mul (polyW p n cs) (lin p n (fun j => p ^ j) x) y = lin p n (fun j => mul (polyW p n cs) (p ^ j) y) x := mul_lin_c hk (fun j => p ^ j) x y
  rw [lin_id h1 n5 hx] at e
  rw [e]
  exact lin_congr (fun i hi => mulP_b hc hi hy)
theorem mulP_lt (hc : canBe p n) (x y : Nat) : mul (polyW p n cs) x y < p ^ n := mul_lt (polyW_ok hc) x y
theorem mulP_l (hc : canBe p n) (bs : Nat → Nat) (z x : Nat) : mul (polyW p n cs) (lin p n bs z) x = lin p n (fun i => mul (polyW p n cs) (bs i) x) z := mul_lin_c (polyW_ok hc) bs z x
theorem mulP_r (hc : canBe p n) (bs : Nat → Nat) (z x : Nat) : mul (polyW p n cs) x (lin p n bs z) = lin p n (fun i => mul (polyW p n cs) x (bs i)) z := mul_lin_d (polyW_ok hc) bs z x
/-- the unknown to the n, times an element -/
theorem mulP_top (hc : canBe p n) {z : Nat} (hz : z < p ^ n) : mul (polyW p n cs) (stp p n cs (p ^ (n - 1))) z = tms p n cs n z := by
  obtain ⟨h1, h5, n0, n5, -⟩ := cb_b hc
  have h0 : 0 < p := by omega
  have pl : ∀ j, j < n → p ^ j < p ^ n := fun j hj => Nat.pow_lt_pow_right h1 hj
  have e1 := mulP_r (cs := cs) hc (fun j => p ^ j) z (stp p n cs (p ^ (n - 1)))
  rw [lin_id h1 n5 hz] at e1
  have e2 : tms p n cs n (lin p n (fun j => p ^ j) z) = lin p n (fun j => tms p n cs n (p ^ j)) z := tms_lin h1 n5 n
  rw [lin_id h1 n5 hz] at e2
  rw [e1, e2]
  refine lin_congr (fun m hm => ?_)
  rw [mulP hc (stp_lt h0 _) (pl m hm), ← pwr_pow (cs := cs) h1 hm, pwr_tms]
  have e3 : lin p n (fun i => tms p n cs i (tms p n cs m 1)) (stp p n cs (p ^ (n - 1))) = lin p n (fun i => tms p n cs m (p ^ i)) (stp p n cs (p ^ (n - 1))) := lin_congr (fun i hi => by
    rw [tms_comm, ← pwr_tms i, pwr_pow h1 hi])
  rw [e3, ← tms_lin h1 n5 m, lin_id h1 n5 (stp_lt h0 _), ← pwr_pow (cs := cs) h1 (show n - 1 < n by omega)]
  have e4 : stp p n cs (pwr p n cs (n - 1)) = tms p n cs n 1 := by
    rw [pwr_tms]
    show tms p n cs (n - 1 + 1) 1 = _
    rw [show n - 1 + 1 = n by omega]
  rw [e4, tms_comm]
theorem mulP_t (hc : canBe p n) {y z : Nat} (hy : y < p ^ n) (hz : z < p ^ n) : mul (polyW p n cs) (stp p n cs y) z = stp p n cs (mul (polyW p n cs) y z) := by
  obtain ⟨h1, h5, n0, n5, -⟩ := cb_b hc
  have h0 : 0 < p := by omega
  have e1 : stp p n cs (lin p n (fun j => p ^ j) y) = lin p n (fun j => stp p n cs (p ^ j)) y := stp_lin h1 n5
  rw [lin_id h1 n5 hy] at e1
  have e2 := mulP_l (cs := cs) hc (fun j => p ^ j) y z
  rw [lin_id h1 n5 hy] at e2
  rw [e1, e2, mulP_l hc, stp_lin h1 n5]
  refine lin_congr (fun j hj => ?_)
  rw [mulP_b hc hj hz]
  by_cases c : j + 1 < n
  · rw [stp_pow h1 c, mulP_b hc c hz]
    rfl
  · have e : j = n - 1 := by omega
    subst e
    rw [mulP_top hc hz]
    show _ = tms p n cs (n - 1 + 1) z
    rw [show n - 1 + 1 = n by omega]
theorem mulP_ts (hc : canBe p n) {y z : Nat} (hy : y < p ^ n) (hz : z < p ^ n) : ∀ m, mul (polyW p n cs) (tms p n cs m y) z = tms p n cs m (mul (polyW p n cs) y z)
  | 0 => rfl
  | m + 1 => by
    have h0 : 0 < p := by have := (cb_b hc).1; omega
    show mul (polyW p n cs) (stp p n cs (tms p n cs m y)) z = stp p n cs (tms p n cs m (mul (polyW p n cs) y z))
    rw [mulP_t hc (tms_lt h0 hy m) hz, mulP_ts hc hy hz m]
theorem mulP_assoc (hc : canBe p n) {x y z : Nat} (hx : x < p ^ n) (hy : y < p ^ n) (hz : z < p ^ n) : mul (polyW p n cs) (mul (polyW p n cs) x y) z = mul (polyW p n cs) x (mul (polyW p n cs) y z) := by
  rw [mulP hc hx hy, mulP_l hc, mulP hc hx (mulP_lt hc _ _)]
  exact lin_congr (fun i _ => mulP_ts hc hy hz i)
theorem lpw_lt (hc : canBe p n) {x : Nat} (hx : x < p ^ n) : ∀ k, lpw (polyW p n cs) x k < p ^ n
  | 0 => hx
  | k + 1 => mulP_lt hc _ _
theorem lpw_add (hc : canBe p n) {x : Nat} (hx : x < p ^ n) (a : Nat) : ∀ b, mul (polyW p n cs) (lpw (polyW p n cs) x a) (lpw (polyW p n cs) x b) = lpw (polyW p n cs) x (a + b + 1)
  | 0 => rfl
  | b + 1 => by
    show mul (polyW p n cs) (lpw (polyW p n cs) x a) (mul (polyW p n cs) (lpw (polyW p n cs) x b) x) = mul (polyW p n cs) (lpw (polyW p n cs) x (a + b + 1)) x
    rw [← mulP_assoc hc (lpw_lt hc hx a) (lpw_lt hc hx b) hx, lpw_add hc hx a b]
theorem lpw_lpw (hc : canBe p n) {x : Nat} (hx : x < p ^ n) (a : Nat) : ∀ k, lpw (polyW p n cs) (lpw (polyW p n cs) x a) k = lpw (polyW p n cs) x ((a + 1) * (k + 1) - 1)
  | 0 => by show lpw (polyW p n cs) x a = _; rw [show (a + 1) * (0 + 1) - 1 = a by omega]
  | k + 1 => by
    show mul (polyW p n cs) (lpw (polyW p n cs) (lpw (polyW p n cs) x a) k) (lpw (polyW p n cs) x a) = _
    rw [lpw_lpw hc hx a k, lpw_add hc hx]
    congr 1
    have : (a + 1) * (k + 1 + 1) = (a + 1) * (k + 1) + (a + 1) := by rw [Nat.mul_add _ (k + 1) 1, Nat.mul_one]
    have h2 : 0 < (a + 1) * (k + 1) := Nat.mul_pos (Nat.succ_pos a) (Nat.succ_pos k)
    omega
/-- one round of raising -/
theorem rse_s (hc : canBe p n) {x i : Nat} (hx : x < p ^ n) : lpw (polyW p n cs) (rse (polyW p n cs) x i) (p - 1) = rse (polyW p n cs) x (i + 1) := by
  obtain ⟨h1, h5, n0, n5, -⟩ := cb_b hc
  unfold rse
  rw [lpw_lpw hc hx]
  show lpw (polyW p n cs) x ((p ^ i - 1 + 1) * (p - 1 + 1) - 1) = lpw (polyW p n cs) x (p ^ (i + 1) - 1)
  have hp : 0 < p ^ i := Nat.pow_pos (by omega)
  rw [show p ^ i - 1 + 1 = p ^ i by omega, show p - 1 + 1 = p by omega, ← Nat.pow_succ]
theorem rse_lt (hc : canBe p n) {x i : Nat} (hx : x < p ^ n) : rse (polyW p n cs) x i < p ^ n := lpw_lt hc hx _
end PW
end PO
