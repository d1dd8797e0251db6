/-! ===== numbers and their digits to a base ===== -/
def num (p : Nat) : Nat → (Nat → Nat) → Nat
  | 0, _ => 0
  | n + 1, f => num p n f + f n * p ^ n
def dg (p x i : Nat) : Nat := x / p ^ i % p
theorem dg_lt {p : Nat} (hp : 0 < p) (x i : Nat) : dg p x i < p := Nat.mod_lt _ hp
theorem num_congr {p : Nat} {f g : Nat → Nat} : ∀ {n : Nat}, (∀ i, i < n → f i = g i) → num p n f = num p n g
  | 0, _ => rfl
  | n + 1, h => by
    show num p n f + f n * p ^ n = num p n g + g n * p ^ n
    rw [num_congr (n := n) (fun i hi => h i (by omega)), h n (by omega)]
theorem num_lt {p : Nat} {f : Nat → Nat} : ∀ {n : Nat}, (∀ i, i < n → f i < p) → num p n f < p ^ n
  | 0, _ => Nat.one_pos
  | n + 1, h => by
    have h1 := num_lt (n := n) (f := f) (fun i hi => h i (by omega))
    have h2 : f n + 1 ≤ p := h n (by omega)
    have h3 := Nat.mul_le_mul_right (p ^ n) h2
    show num p n f + f n * p ^ n < p ^ (n + 1)
    rw [Nat.pow_succ, Nat.mul_comm (p ^ n) p]
    rw [Nat.add_mul] at h3
    omega
theorem num_dg {p : Nat} (x : Nat) : ∀ (n : Nat), num p n (dg p x) = x % p ^ n
  | 0 => by show 0 = x % 1; omega
  | n + 1 => by
    show num p n (dg p x) + dg p x n * p ^ n = x % p ^ (n + 1)
    rw [num_dg x n, Nat.pow_succ, Nat.mod_mul, Nat.mul_comm]
    rfl
theorem num_dg_self {p n x : Nat} (h : x < p ^ n) : num p n (dg p x) = x := by rw [num_dg, Nat.mod_eq_of_lt h]
theorem dg_big {p n x i : Nat} (hp : 0 < p) (h : x < p ^ n) (hi : n ≤ i) : dg p x i = 0 := by
  have h1 : p ^ n ≤ p ^ i := Nat.pow_le_pow_right hp hi
  unfold dg
  rw [Nat.div_eq_of_lt (by omega)]
  exact Nat.zero_mod _
theorem dg_num {p : Nat} (hp : 0 < p) {f : Nat → Nat} : ∀ {n i : Nat}, i < n → (∀ i, i < n → f i < p) → dg p (num p n f) i = f i
  | 0, i, hi, _ => absurd hi (Nat.not_lt_zero _)
  | n + 1, i, hi, h => by
    have h1 := num_lt (n := n) (f := f) (fun i hi => h i (by omega))
    show dg p (num p n f + f n * p ^ n) i = f i
    by_cases e : i = n
    · subst e
      unfold dg
      rw [Nat.add_mul_div_right _ _ (Nat.pow_pos hp), Nat.div_eq_of_lt h1, Nat.zero_add]
      exact Nat.mod_eq_of_lt (h i (by omega))
    · have hin : i < n := by omega
      rw [← dg_num hp (n := n) (f := f) hin (fun i hi => h i (by omega))]
      unfold dg
      obtain ⟨d, hd⟩ : ∃ d, n = i + 1 + d := ⟨n - (i + 1), by omega⟩
      rw [hd, Nat.pow_add, Nat.pow_succ]
      rw [show f (i + 1 + d) * (p ^ i * p * p ^ d) = (f (i + 1 + d) * p ^ d * p) * p ^ i by ac_rfl]
      rw [Nat.add_mul_div_right _ _ (Nat.pow_pos hp), Nat.add_mul_mod_self_right]
theorem num_ext {p n x y : Nat} (hx : x < p ^ n) (hy : y < p ^ n) (h : ∀ i, i < n → dg p x i = dg p y i) : x = y := by
  rw [← num_dg_self hx, ← num_dg_self hy]
  exact num_congr h
theorem dg_div (p x i : Nat) : x / p ^ i / p = x / p ^ (i + 1) := by rw [Nat.div_div_eq_div_mul, ← Nat.pow_succ]
theorem num_more {p n : Nat} {f : Nat → Nat} : ∀ (d : Nat), (∀ i, n ≤ i → f i = 0) → num p (n + d) f = num p n f
  | 0, _ => rfl
  | d + 1, h => by
    show num p (n + d) f + f (n + d) * p ^ (n + d) = num p n f
    rw [num_more d h, h (n + d) (by omega), Nat.zero_mul, Nat.add_zero]
theorem num_to {p n m : Nat} {f : Nat → Nat} (hm : n ≤ m) (h : ∀ i, n ≤ i → f i = 0) : num p m f = num p n f := by
  obtain ⟨d, rfl⟩ : ∃ d, m = n + d := ⟨m - n, by omega⟩
  exact num_more d h
/-- a sum of terms -/
def sg : Nat → (Nat → Nat) → Nat
  | 0, _ => 0
  | n + 1, f => sg n f + f n
theorem sg_congr {f g : Nat → Nat} : ∀ {n : Nat}, (∀ i, i < n → f i = g i) → sg n f = sg n g
  | 0, _ => rfl
  | n + 1, h => by
    show sg n f + f n = sg n g + g n
    rw [sg_congr (n := n) (fun i hi => h i (by omega)), h n (by omega)]
theorem sg_le {f : Nat → Nat} {b : Nat} : ∀ {n : Nat}, (∀ i, i < n → f i ≤ b) → sg n f ≤ n * b
  | 0, _ => Nat.zero_le _
  | n + 1, h => by
    have h1 := sg_le (n := n) (f := f) (fun i hi => h i (by omega))
    have h2 := h n (by omega)
    show sg n f + f n ≤ (n + 1) * b
    rw [Nat.add_mul]
    omega
/-- sums and multiples of elements, digit by digit -/
def ad (p x y : Nat) : Nat := num p 5 (fun i => (dg p x i + dg p y i) % p)
def mf (p a x : Nat) : Nat := num p 5 (fun i => a * dg p x i % p)
def sb (p x y : Nat) : Nat := ad p x (mf p (p - 1) y)
theorem pp {p : Nat} (hp : 2 ≤ p) (h5 : p ≤ 5) : ∀ i, i ≤ 5 → 1 ≤ p ^ i ∧ p ^ i ≤ 3125 := by
  have e : p = 2 ∨ p = 3 ∨ p = 4 ∨ p = 5 := by omega
  rcases e with rfl | rfl | rfl | rfl <;> decide
theorem ad_lt {p n x y : Nat} (hp : 0 < p) (hn : n ≤ 5) (hx : x < p ^ n) (hy : y < p ^ n) : ad p x y < p ^ n := by
  unfold ad
  rw [num_to hn (fun i hi => by rw [dg_big hp hx hi, dg_big hp hy hi]; exact Nat.zero_mod _)]
  exact num_lt (fun i _ => Nat.mod_lt _ hp)
theorem ad_dg {p x y i : Nat} (hp : 0 < p) (hi : i < 5) : dg p (ad p x y) i = (dg p x i + dg p y i) % p := dg_num hp hi (fun _ _ => Nat.mod_lt _ hp)
theorem mf_lt {p n a x : Nat} (hp : 0 < p) (hn : n ≤ 5) (hx : x < p ^ n) : mf p a x < p ^ n := by
  unfold mf
  rw [num_to hn (fun i hi => by rw [dg_big hp hx hi]; exact Nat.zero_mod _)]
  exact num_lt (fun i _ => Nat.mod_lt _ hp)
theorem mf_dg {p a x i : Nat} (hp : 0 < p) (hi : i < 5) : dg p (mf p a x) i = a * dg p x i % p := dg_num hp hi (fun _ _ => Nat.mod_lt _ hp)
theorem sb_lt {p n x y : Nat} (hp : 0 < p) (hn : n ≤ 5) (hx : x < p ^ n) (hy : y < p ^ n) : sb p x y < p ^ n := ad_lt hp hn hx (mf_lt hp hn hy)
theorem ad_xor : ∀ x, x < 32 → ∀ y, y < 32 → x ^^^ y = ad 2 x y := by decide +kernel
theorem nI_xor (a b : Nat) : nI a ^^^ nI b = nI (a ^^^ b) := by
  apply Int32.toBitVec_inj.mp
  show (Int32.ofNat a ^^^ Int32.ofNat b).toBitVec = (Int32.ofNat (a ^^^ b)).toBitVec
  rw [Int32.toBitVec_xor]
  show BitVec.ofNat 32 a ^^^ BitVec.ofNat 32 b = BitVec.ofNat 32 (a ^^^ b)
  rw [BitVec.ofNat_xor]
