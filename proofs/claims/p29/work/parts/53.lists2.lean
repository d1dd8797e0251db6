/-! ===== Lists: how many can be ===== -/
def chk23 (c : Nat) : Bool := (List.range 36).all (fun t => !Nat.beq (mul (lw 2 3 c) (t % 6 + 2) (t / 6 + 2)) 0)
theorem chk_0 : cn 256 (fun y => chk23 (0 * 256 + y)) ≤ 2 := by decide +kernel
theorem chk_1 : cn 256 (fun y => chk23 (1 * 256 + y)) ≤ 2 := by decide +kernel
theorem chk_2 : cn 256 (fun y => chk23 (2 * 256 + y)) ≤ 2 := by decide +kernel
theorem chk_3 : cn 256 (fun y => chk23 (3 * 256 + y)) ≤ 2 := by decide +kernel
theorem chk_4 : cn 256 (fun y => chk23 (4 * 256 + y)) ≤ 2 := by decide +kernel
theorem chk_5 : cn 256 (fun y => chk23 (5 * 256 + y)) ≤ 2 := by decide +kernel
theorem chk_6 : cn 256 (fun y => chk23 (6 * 256 + y)) ≤ 2 := by decide +kernel
theorem chk_7 : cn 256 (fun y => chk23 (7 * 256 + y)) ≤ 2 := by decide +kernel
theorem chk_8 : cn 256 (fun y => chk23 (8 * 256 + y)) ≤ 2 := by decide +kernel
theorem chk_9 : cn 256 (fun y => chk23 (9 * 256 + y)) ≤ 2 := by decide +kernel
theorem chk_10 : cn 256 (fun y => chk23 (10 * 256 + y)) ≤ 2 := by decide +kernel
theorem chk_11 : cn 256 (fun y => chk23 (11 * 256 + y)) ≤ 2 := by decide +kernel
theorem chk_12 : cn 256 (fun y => chk23 (12 * 256 + y)) ≤ 2 := by decide +kernel
theorem chk_13 : cn 256 (fun y => chk23 (13 * 256 + y)) ≤ 2 := by decide +kernel
theorem chk_14 : cn 256 (fun y => chk23 (14 * 256 + y)) ≤ 2 := by decide +kernel
theorem chk_15 : cn 256 (fun y => chk23 (15 * 256 + y)) ≤ 2 := by decide +kernel
theorem chk_le : cn 4096 chk23 ≤ 32 := by
  have e : cn 4096 chk23 = sg 16 (fun e => cn 256 (fun y => chk23 (e * 256 + y))) := cn_mul 256 chk23 16
  rw [e]
  refine sg_le (b := 2) (fun i hi => ?_)
  match i, hi with
  | 0, _ => exact chk_0
  | 1, _ => exact chk_1
  | 2, _ => exact chk_2
  | 3, _ => exact chk_3
  | 4, _ => exact chk_4
  | 5, _ => exact chk_5
  | 6, _ => exact chk_6
  | 7, _ => exact chk_7
  | 8, _ => exact chk_8
  | 9, _ => exact chk_9
  | 10, _ => exact chk_10
  | 11, _ => exact chk_11
  | 12, _ => exact chk_12
  | 13, _ => exact chk_13
  | 14, _ => exact chk_14
  | 15, _ => exact chk_15
  | n + 16, h => exact absurd h (by omega)
theorem chk_of {c : Nat} (h : Div (lw 2 3 c)) : chk23 c = true := by
  unfold chk23
  rw [List.all_eq_true]
  intro t ht
  have ht := List.mem_range.mp ht
  have q := h (t % 6 + 2) (t / 6 + 2) (by omega) (show t % 6 + 2 < 8 by omega) (by omega) (show t / 6 + 2 < 8 by omega)
  cases e : Nat.beq (mul (lw 2 3 c) (t % 6 + 2) (t / 6 + 2)) 0 with
  | false => rfl
  | true => exact absurd (Nat.eq_of_beq_eq_true e) q
/-- what a list counts: all that divide, those that commute, those that join -/
def Joi (W : Wd) : Prop := ∀ a b c, a < W.2.1 → b < W.2.1 → c < W.2.1 → asc W a b c = 0
def Lq (w : Nat) (W : Wd) : Prop := match w with
  | 0 => True
  | 1 => Wcom W
  | _ => Joi W
def Lp (p n w k : Nat) : Prop := Div (lw p n k) ∧ Lq w (lw p n k)
noncomputable def Lc (p n w c : Nat) : Nat := cn c (fun k => bl (Lp p n w k))
def Lall (p n : Nat) : Nat := p ^ lcm n
theorem Lc_s (p n w c : Nat) : Lc p n w (c + 1) = Lc p n w c + if bl (Lp p n w c) = true then 1 else 0 := rfl
theorem Lall_b {p n : Nat} (h : Kd p n) : 0 < Lall p n ∧ Lall p n ≤ 4096 ∧ p ^ (n * (n - 1)) ≤ 64 ∧ 0 < p ^ (n * (n - 1)) ∧ (Lall p n = p ^ (n * (n - 1)) ∨ (Lall p n = 4096 ∧ p ^ (n * (n - 1)) = 64)) ∧ Lall p n = p ^ (n * (n - 1) * (n - 1)) := by
  unfold Lall lcm
  rcases h with ⟨rfl, rfl | rfl | rfl⟩ | ⟨rfl, rfl⟩ <;> decide
theorem cn_mono2 {P : Nat → Bool} {a b : Nat} (h : a ≤ b) : cn a P ≤ cn b P := by
  obtain ⟨d, rfl⟩ : ∃ d, b = a + d := ⟨b - a, by omega⟩
  rw [cn_add]
  omega
theorem Lc_32 {p n c : Nat} (h : Kd p n) (hc : c ≤ Lall p n) : Lc p n 0 c ≤ 32 := by
  rcases h with ⟨rfl, hp⟩ | ⟨rfl, rfl⟩
  · have : Lall p 2 ≤ 25 := by unfold Lall lcm; rcases hp with rfl | rfl | rfl <;> decide
    exact Nat.le_trans (cn_le c _) (by omega)
  · have h1 : Lc 2 3 0 c ≤ cn c chk23 := cn_id (fun x _ hx => chk_of (bl_iff.mp hx).1)
    have h2 : cn c chk23 ≤ cn 4096 chk23 := cn_mono2 (show c ≤ 4096 from Nat.le_trans hc (by decide))
    exact Nat.le_trans h1 (Nat.le_trans h2 chk_le)
/-- an element without the highest digit fails -/
def Ef (W : Wd) : Prop := ∃ x y, 0 < x ∧ x < W.1 ^ (W.2.1 - 1) ∧ 0 < y ∧ y < W.1 ^ W.2.1 ∧ mul W x y = 0
theorem Ef_nd {W : Wd} (hk : Wok W) (h : Ef W) : ¬ Div W := fun hD => by
  obtain ⟨x, y, x0, x1, y0, y1, e⟩ := h
  have hk := hk.b
  exact hD x y x0 (Nat.lt_of_lt_of_le x1 (Nat.pow_le_pow_right (by omega) (by omega))) y0 y1 e
theorem Ef_block {p n c c2 : Nat} (hK : Kd p n) (hb : c / p ^ (n * (n - 1)) = c2 / p ^ (n * (n - 1))) (h : Ef (lw p n c)) : Ef (lw p n c2) := by
  obtain ⟨k1, k2, k3, k4⟩ := hK.b
  have hp : 2 ≤ p := by rcases k1 with h | h | h <;> omega
  obtain ⟨x, y, x0, x1, y0, y1, e⟩ := h
  refine ⟨x, y, x0, x1, y0, y1, ?_⟩
  rw [← e]
  unfold mul
  show num p n (fun k => mc (lw p n c2) x y k % p) = num p n (fun k => mc (lw p n c) x y k % p)
  refine num_congr (fun k hk => congrArg (fun z => z % p) ?_)
  unfold mc
  show sg n (fun i => sg n (fun j => dg p x i * dg p y j * (lw p n c2).2.2 (25 * i + 5 * j + k))) = sg n (fun i => sg n (fun j => dg p x i * dg p y j * (lw p n c).2.2 (25 * i + 5 * j + k)))
  refine sg_congr (fun i hi => sg_congr (fun j hj => ?_))
  by_cases ei : i = n - 1
  · have : dg p x i = 0 := dg_big (by omega) x1 (show n - 1 ≤ i by omega)
    rw [this, Nat.zero_mul, Nat.zero_mul, Nat.zero_mul]
  · refine congrArg (fun z => dg p x i * dg p y j * z) ?_
    show (if inC n (25 * i + 5 * j + k) then _ else _) = (if inC n (25 * i + 5 * j + k) then _ else _)
    have hin : inC n (25 * i + 5 * j + k) := ⟨by omega, by omega, by omega, by omega⟩
    rw [if_pos hin, if_pos hin]
    by_cases z : (25 * i + 5 * j + k) / 25 = 0 ∨ (25 * i + 5 * j + k) / 5 % 5 = 0
    · rw [if_pos z, if_pos z]
    · rw [if_neg z, if_neg z]
      have i0 : 0 < i := by omega
      have j0 : 0 < j := by omega
      have hs := plc_ij k2 hi hj hk i0 j0
      have hge : n * (n - 1) ≤ plc n (25 * i + 5 * j + k) := by
        rw [hs]
        rcases k2 with rfl | rfl
        · omega
        · have : i = 1 := by omega
          subst this
          omega
      have hdg : dg p c2 (plc n (25 * i + 5 * j + k)) = dg p c (plc n (25 * i + 5 * j + k)) := by
        unfold dg
        rw [show plc n (25 * i + 5 * j + k) = n * (n - 1) + (plc n (25 * i + 5 * j + k) - n * (n - 1)) by omega, Nat.pow_add, ← Nat.div_div_eq_div_mul, ← Nat.div_div_eq_div_mul, hb]
      by_cases w : plc n (25 * i + 5 * j + k) < lcm n
      · rw [if_pos w, if_pos w]; exact hdg
      · rw [if_neg w, if_neg w]
