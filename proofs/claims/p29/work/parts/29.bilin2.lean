/-! ===== products of products, linear in each place; who joins, as equations ===== -/
theorem lin_congr {p n z : Nat} {bs cs : Nat → Nat} (h : ∀ i, i < n → bs i = cs i) : lin p n bs z = lin p n cs z := by
  unfold lin
  refine num_congr (fun k _ => ?_)
  rw [sg_congr (fun i hi => by rw [h i hi])]
theorem lin_lin {p n z : Nat} {bs cs : Nat → Nat} (hp : 0 < p) (hn : n ≤ 5) : lin p n bs (lin p n cs z) = lin p n (fun i => lin p n bs (cs i)) z := by
  show num p 5 _ = num p 5 _
  refine num_congr (fun k hk => ?_)
  have e1 : sg n (fun i => dg p (lin p n cs z) i * dg p (bs i) k) % p = sg n (fun i => sg n (fun m => dg p z m * (dg p (cs m) i * dg p (bs i) k))) % p := by
    refine sg_mod (fun i hi => ?_)
    rw [lin_dg hp (by omega), Nat.mul_mod, Nat.mod_mod, ← Nat.mul_mod, Nat.mul_comm, ← sg_mul]
    exact congrArg (· % p) (sg_congr (fun m _ => by ac_rfl))
  rw [e1, sg_swap]
  refine sg_mod (fun m hm => ?_)
  rw [sg_mul, lin_dg hp hk, Nat.mul_mod, Nat.mul_mod (dg p z m) (_ % p), Nat.mod_mod]
theorem sbdg {p x y k : Nat} (hp : 0 < p) (hk : k < 5) : dg p (sb p x y) k = (dg p x k + (p - 1) * dg p y k) % p := by
  unfold sb
  rw [ad_dg hp hk, mf_dg hp hk, Nat.add_mod_mod]
theorem lin_sb {p n z : Nat} {X Y : Nat → Nat} (hp : 0 < p) : lin p n (fun i => sb p (X i) (Y i)) z = sb p (lin p n X z) (lin p n Y z) := by
  have hl : sb p (lin p n X z) (lin p n Y z) = num p 5 (fun k => (dg p (lin p n X z) k + dg p (mf p (p - 1) (lin p n Y z)) k) % p) := rfl
  rw [hl]
  show num p 5 _ = num p 5 _
  refine num_congr (fun k hk => ?_)
  have e1 : sg n (fun i => dg p z i * dg p (sb p (X i) (Y i)) k) % p = (sg n (fun i => dg p z i * dg p (X i) k) + (p - 1) * sg n (fun i => dg p z i * dg p (Y i) k)) % p := by
    rw [← sg_mul, ← sg_add]
    refine sg_mod (fun i hi => ?_)
    rw [sbdg hp hk, Nat.mul_mod, Nat.mod_mod, ← Nat.mul_mod, Nat.mul_add]
    exact congrArg (fun q => (dg p z i * dg p (X i) k + q) % p) (by ac_rfl)
  rw [e1, lin_dg hp hk, mf_dg hp hk, lin_dg hp hk, Nat.mul_mod_mod, Nat.mod_add_mod, Nat.add_mod_mod]
def eJ (W : Wd) (w x a b : Nat) : Nat := match w with
  | 0 => mul W (mul W x a) b
  | 1 => mul W (mul W a x) b
  | _ => mul W (mul W a b) x
def lJ (W : Wd) (w x a b : Nat) : Nat := match w with
  | 0 => mul W x (mul W a b)
  | 1 => mul W a (mul W x b)
  | _ => mul W a (mul W b x)
theorem eJ_lt {W : Wd} (hk : Wok W) (w x a b : Nat) : eJ W w x a b < W.1 ^ W.2.1 := by unfold eJ; split <;> exact mul_lt hk _ _
theorem lJ_lt {W : Wd} (hk : Wok W) (w x a b : Nat) : lJ W w x a b < W.1 ^ W.2.1 := by unfold lJ; split <;> exact mul_lt hk _ _
theorem mul_lin_c {W : Wd} (hk : Wok W) (bs : Nat → Nat) (z x : Nat) : mul W (lin W.1 W.2.1 bs z) x = lin W.1 W.2.1 (fun i => mul W (bs i) x) z := by
  obtain ⟨b1, b2, b3, b4, b5⟩ := hk.b
  rw [mul_lin_l hk, lin_lin (by omega) b4]
  exact lin_congr (fun i _ => (mul_lin_l hk x (bs i)).symm)
theorem mul_lin_d {W : Wd} (hk : Wok W) (bs : Nat → Nat) (z x : Nat) : mul W x (lin W.1 W.2.1 bs z) = lin W.1 W.2.1 (fun i => mul W x (bs i)) z := by
  obtain ⟨b1, b2, b3, b4, b5⟩ := hk.b
  rw [mul_lin_r hk, lin_lin (by omega) b4]
  exact lin_congr (fun i _ => (mul_lin_r hk x (bs i)).symm)
theorem eJ_lin {W : Wd} (hk : Wok W) (w z a b : Nat) : eJ W w z a b = lin W.1 W.2.1 (fun i => eJ W w (W.1 ^ i) a b) z := by
  unfold eJ
  split
  · rw [mul_lin_l hk a z, mul_lin_c hk]
  · rw [mul_lin_r hk a z, mul_lin_c hk]
  · exact mul_lin_r hk _ z
theorem lJ_lin {W : Wd} (hk : Wok W) (w z a b : Nat) : lJ W w z a b = lin W.1 W.2.1 (fun i => lJ W w (W.1 ^ i) a b) z := by
  unfold lJ
  split
  · exact mul_lin_l hk _ z
  · rw [mul_lin_l hk b z, mul_lin_d hk]
  · rw [mul_lin_r hk b z, mul_lin_d hk]
/-- an element joins with all others at a place (0 left, 1 in the middle, 2 right) -/
def Joins (W : Wd) (w z : Nat) : Prop := ∀ a b, a < W.2.1 → b < W.2.1 → eJ W w z (W.1 ^ a) (W.1 ^ b) = lJ W w z (W.1 ^ a) (W.1 ^ b)
def aJ (W : Wd) (w i a b : Nat) : Nat := sb W.1 (eJ W w (W.1 ^ i) (W.1 ^ a) (W.1 ^ b)) (lJ W w (W.1 ^ i) (W.1 ^ a) (W.1 ^ b))
theorem aJ_lt {W : Wd} (hk : Wok W) (w i a b : Nat) : aJ W w i a b < W.1 ^ W.2.1 := sb_lt (by have := hk.b; omega) (by have := hk.b; omega) (eJ_lt hk _ _ _ _) (lJ_lt hk _ _ _ _)
def SJ (W : Wd) (w : Nat) (u : Nat → Nat) : Prop := ∀ a b k, a < W.2.1 → b < W.2.1 → k < W.2.1 → dot W.2.1 (fun i => dg W.1 (aJ W w i a b) k) u % W.1 = 0
theorem lin_eq0 {p n m z : Nat} {bs : Nat → Nat} (hp : 0 < p) (hm : m ≤ 5) (hb : ∀ i, i < n → bs i < p ^ m) : lin p n bs z = 0 ↔ ∀ k, k < m → dot n (fun i => dg p (bs i) k) (dg p z) % p = 0 := by
  have hd : ∀ k, dot n (fun i => dg p (bs i) k) (dg p z) = sg n (fun i => dg p z i * dg p (bs i) k) := fun k => sg_congr (fun i _ => Nat.mul_comm _ _)
  unfold lin
  rw [num_eq0 hp (fun _ _ => Nat.mod_lt _ hp)]
  constructor
  · intro q k hk
    rw [hd]
    exact q k (by omega)
  · intro q k hk
    by_cases e : k < m
    · rw [← hd]; exact q k e
    · rw [sg_zero (fun i hi => by rw [dg_big hp (hb i hi) (by omega), Nat.mul_zero]), Nat.zero_mod]
theorem joins_iff {W : Wd} (hk : Wok W) (w z : Nat) : SJ W w (dg W.1 z) ↔ Joins W w z := by
  obtain ⟨b1, b2, b3, b4, b5⟩ := hk.b
  have key : ∀ a b, (eJ W w z (W.1 ^ a) (W.1 ^ b) = lJ W w z (W.1 ^ a) (W.1 ^ b)) ↔ ∀ k, k < W.2.1 → dot W.2.1 (fun i => dg W.1 (aJ W w i a b) k) (dg W.1 z) % W.1 = 0 := fun a b => by
    rw [← sb_zero (by omega) b4 (eJ_lt hk _ _ _ _) (lJ_lt hk _ _ _ _), eJ_lin hk, lJ_lin hk, ← lin_sb (by omega)]
    exact lin_eq0 (by omega) b4 (fun i _ => aJ_lt hk w i a b)
  exact ⟨fun q a b ha hb => (key a b).mpr (fun k hk2 => q a b k ha hb hk2), fun q a b k ha hb hk2 => (key a b).mp (q a b ha hb) k hk2⟩
/-- commuting with all others, as equations -/
def Comm (W : Wd) (z : Nat) : Prop := ∀ j, j < W.2.1 → mul W z (W.1 ^ j) = mul W (W.1 ^ j) z
def SC (W : Wd) (u : Nat → Nat) : Prop := ∀ j k, j < W.2.1 → k < W.2.1 → dot W.2.1 (fun i => (W.1 + W.2.2 (25 * i + 5 * j + k) - W.2.2 (25 * j + 5 * i + k)) % W.1) u % W.1 = 0
theorem sub_zero {p a b : Nat} (hb : b < p) (ha : a < p) : (p + a - b) % p = 0 ↔ a = b := by
  by_cases e : b ≤ a
  · rw [show p + a - b = (a - b) + p by omega, Nat.add_mod_right, Nat.mod_eq_of_lt (by omega)]; omega
  · rw [Nat.mod_eq_of_lt (by omega)]; omega
theorem comm_iff {W : Wd} (hk : Wok W) {z : Nat} (hz : z < W.1 ^ W.2.1) : SC W (dg W.1 z) ↔ Comm W z := by
  obtain ⟨b1, b2, b3, b4, b5⟩ := hk.b
  have key : ∀ j k, j < W.2.1 → k < W.2.1 → (dot W.2.1 (fun i => (W.1 + W.2.2 (25 * i + 5 * j + k) - W.2.2 (25 * j + 5 * i + k)) % W.1) (dg W.1 z) % W.1 = 0 ↔ mc W z (W.1 ^ j) k % W.1 = mc W (W.1 ^ j) z k % W.1) := fun j k hj hk2 => by
    have e1 : dot W.2.1 (fun i => (W.1 + W.2.2 (25 * i + 5 * j + k) - W.2.2 (25 * j + 5 * i + k)) % W.1) (dg W.1 z) % W.1 = (sg W.2.1 (fun s => dg W.1 z s * W.2.2 (25 * s + 5 * j + k)) + (W.1 - 1) * sg W.2.1 (fun s => dg W.1 z s * W.2.2 (25 * j + 5 * s + k))) % W.1 := by
      rw [← sg_mul, ← sg_add]
      refine sg_mod (fun i hi => ?_)
      have c1 := hk.c (25 * i + 5 * j + k)
      have c2 := hk.c (25 * j + 5 * i + k)
      have e2 : (W.1 + W.2.2 (25 * i + 5 * j + k) - W.2.2 (25 * j + 5 * i + k)) % W.1 = (W.2.2 (25 * i + 5 * j + k) + (W.1 - 1) * W.2.2 (25 * j + 5 * i + k)) % W.1 := by
        have e3 : W.2.2 (25 * i + 5 * j + k) + (W.1 - 1) * W.2.2 (25 * j + 5 * i + k) + W.1 = W.1 + W.2.2 (25 * i + 5 * j + k) - W.2.2 (25 * j + 5 * i + k) + W.1 * W.2.2 (25 * j + 5 * i + k) := by
          have e4 : W.1 * W.2.2 (25 * j + 5 * i + k) = (W.1 - 1) * W.2.2 (25 * j + 5 * i + k) + W.2.2 (25 * j + 5 * i + k) := by
            rw [Nat.sub_mul, Nat.one_mul]
            have := Nat.le_mul_of_pos_left (W.2.2 (25 * j + 5 * i + k)) (show 0 < W.1 by omega)
            omega
          omega
        rw [← Nat.add_mul_mod_self_left _ W.1 (W.2.2 (25 * j + 5 * i + k)), ← e3, Nat.add_mod_right]
      dsimp only
      rw [e2, Nat.mul_mod, Nat.mod_mod, ← Nat.mul_mod, Nat.mul_comm, Nat.mul_add]
      exact congrArg (fun q => (dg W.1 z i * W.2.2 (25 * i + 5 * j + k) + q) % W.1) (by ac_rfl)
    rw [e1, mc_pow_r hk z k hj, mc_pow_l hk z k hj]
    generalize sg W.2.1 (fun s => dg W.1 z s * W.2.2 (25 * s + 5 * j + k)) = X
    generalize sg W.2.1 (fun s => dg W.1 z s * W.2.2 (25 * j + 5 * s + k)) = Y
    have e5 : (X + (W.1 - 1) * Y) % W.1 = (W.1 + X % W.1 - Y % W.1) % W.1 := by
      have y1 := Nat.mod_lt Y (show 0 < W.1 by omega)
      have x1 := Nat.mod_lt X (show 0 < W.1 by omega)
      have e6 : (W.1 + X % W.1 - Y % W.1) % W.1 = (X % W.1 + (W.1 - 1) * (Y % W.1)) % W.1 := by
        have e3 : X % W.1 + (W.1 - 1) * (Y % W.1) + W.1 = W.1 + X % W.1 - Y % W.1 + W.1 * (Y % W.1) := by
          have e4 : W.1 * (Y % W.1) = (W.1 - 1) * (Y % W.1) + Y % W.1 := by
            rw [Nat.sub_mul, Nat.one_mul]
            have := Nat.le_mul_of_pos_left (Y % W.1) (show 0 < W.1 by omega)
            omega
          omega
        rw [← Nat.add_mul_mod_self_left _ W.1 (Y % W.1), ← e3, Nat.add_mod_right]
      rw [e6, Nat.add_mod X, Nat.mul_mod, ← Nat.mul_mod_mod, ← Nat.add_mod_mod (X % W.1)]
      simp [Nat.mul_mod]
    rw [e5, sub_zero (Nat.mod_lt _ (by omega)) (Nat.mod_lt _ (by omega))]
  constructor
  · intro q j hj
    exact num_congr (fun k hk2 => (key j k hj hk2).mp (q j k hj hk2))
  · intro q j k hj hk2
    refine (key j k hj hk2).mpr ?_
    rw [← dg_mul hk z (W.1 ^ j) hk2, ← dg_mul hk (W.1 ^ j) z hk2, q j hj]
/-- how many elements solve a system -/
theorem cnt_S {p n r : Nat} {S : (Nat → Nat) → Prop} {T : Nat → Prop} (hp : Pm p) (h : isRank p n S r) (hT : ∀ z, z < p ^ n → (S (dg p z) ↔ T z)) : r ≤ n ∧ p ^ (n - r) = cn (p ^ n) (fun z => bl (T z)) := by
  obtain ⟨h1, h2⟩ := cnt_sol hp h
  refine ⟨h1, ?_⟩
  rw [← h2]
  refine cn_congr (fun z hz => ?_)
  rw [mix_dg (by rcases hp with rfl | rfl | rfl <;> decide) hz]
  exact bl_congr (hT z hz)
/-- the quotient by an element, where there is one alone -/
theorem side_inj {W : Wd} (hk : Wok W) (hD : Div W) {e : Nat} (h0 : 0 < e) (he : e < W.1 ^ W.2.1) (l : Bool) : ∀ x y, x < W.1 ^ W.2.1 → y < W.1 ^ W.2.1 → side W e l x = side W e l y → x = y := by
  cases l with
  | true =>
    refine fun x y hx hy q => vm_inj (M := ent W 0 e) (by have := hk.b; omega) (fun a a0 a1 => ?_) x y hx hy ?_
    · rw [vm_mul]; exact hD e a h0 he a0 a1
    · rw [vm_mul, vm_mul]; exact q
  | false =>
    refine fun x y hx hy q => vm_inj (M := ent W 1 e) (by have := hk.b; omega) (fun a a0 a1 => ?_) x y hx hy ?_
    · rw [vm_mul1]; exact hD a e a0 a1 h0 he
    · rw [vm_mul1, vm_mul1]; exact q
theorem side_onto {W : Wd} (hk : Wok W) (hD : Div W) {e : Nat} (h0 : 0 < e) (he : e < W.1 ^ W.2.1) (l : Bool) (y : Nat) (hy : y < W.1 ^ W.2.1) : ∃ x, x < W.1 ^ W.2.1 ∧ side W e l x = y := onto_of (fun x _ => side_lt hk e l x) (fun x y hx hy => side_inj hk hD h0 he l x y hx hy) y hy
noncomputable def qz (W : Wd) (e : Nat) (l : Bool) (y : Nat) : Nat := Classical.epsilon (fun q => q < W.1 ^ W.2.1 ∧ side W e l q = y)
theorem qz_ok {W : Wd} (hk : Wok W) (hD : Div W) {e : Nat} (h0 : 0 < e) (he : e < W.1 ^ W.2.1) (l : Bool) {y : Nat} (hy : y < W.1 ^ W.2.1) : qz W e l y < W.1 ^ W.2.1 ∧ side W e l (qz W e l y) = y := Classical.epsilon_spec (side_onto hk hD h0 he l y hy)
theorem qz_eq {W : Wd} (hk : Wok W) (hD : Div W) {e : Nat} (h0 : 0 < e) (he : e < W.1 ^ W.2.1) {l : Bool} {x y : Nat} (hx : x < W.1 ^ W.2.1) (h : side W e l x = y) : x = qz W e l y := by
  obtain ⟨a, b⟩ := qz_ok hk hD h0 he l (y := y) (by rw [← h]; exact side_lt hk _ _ _)
  exact side_inj hk hD h0 he l x _ hx a (h.trans b.symm)
theorem Quo.qz {W : Wd} (hk : Wok W) (hD : Div W) {e : Nat} (h0 : 0 < e) (he : e < W.1 ^ W.2.1) {l : Bool} {y : Nat} (hy : y < W.1 ^ W.2.1) {z : Int32} (h : Quo W e y l z) : z = nI (qz W e l y) := by
  rcases h with ⟨q, rfl, h1, h2, -⟩ | ⟨-, h⟩
  · rw [qz_eq hk hD h0 he h1 h2]
  · obtain ⟨x, a, b⟩ := side_onto hk hD h0 he l y hy
    exact absurd b (h x a)
/-- the world made to have a unit -/
noncomputable def wuni (W : Wd) (e : Nat) : Wd := (W.1, W.2.1, fun t => if inC W.2.1 t then dg W.1 (mul W (qz W e false (W.1 ^ (t / 25))) (qz W e true (W.1 ^ (t / 5 % 5)))) (t % 5) else 0)
