/-! ===== tuples of images: counting maps ===== -/
/-- so many tuples (c 0 .. c (n - 1)) go on from the first l of c with P -/
noncomputable def TC (q n l : Nat) (c : Nat → Nat) (P : (Nat → Nat) → Prop) : Nat := cn (q ^ (n - l)) (fun y => bl (P (fun t => if t < l then c t else dg q y (n - 1 - t))))
def cput (c : Nat → Nat) (l x : Nat) : Nat → Nat := fun t => if t = l then x else c t
/-- P asks of the first n alone -/
def Loc (n : Nat) (P : (Nat → Nat) → Prop) : Prop := ∀ c d, (∀ t, t < n → c t = d t) → (P c ↔ P d)
theorem TC_n {q n : Nat} {c : Nat → Nat} {P : (Nat → Nat) → Prop} (hL : Loc n P) : TC q n n c P = if bl (P c) = true then 1 else 0 := by
  unfold TC
  rw [Nat.sub_self, Nat.pow_zero]
  show 0 + (if bl _ = true then 1 else 0) = _
  rw [Nat.zero_add, bl_congr (hL _ c (fun t ht => if_pos ht))]
theorem TC_s {q n l : Nat} {c : Nat → Nat} {P : (Nat → Nat) → Prop} (hL : Loc n P) (hl : l < n) (hq : 0 < q) : TC q n l c P = sg q (fun x => TC q n (l + 1) (cput c l x) P) := by
  unfold TC
  have e : n - l = (n - (l + 1)) + 1 := by omega
  rw [e, Nat.pow_succ, Nat.mul_comm, cn_mul]
  refine sg_congr (fun x hx => cn_congr (fun y hy => bl_congr (hL _ _ (fun t ht => ?_))))
  have hN : 0 < q ^ (n - (l + 1)) := Nat.pow_pos hq
  by_cases c1 : t < l
  · rw [if_pos c1, if_pos (by omega)]
    unfold cput
    rw [if_neg (by omega)]
  · rw [if_neg c1]
    by_cases c2 : t = l
    · subst c2
      rw [if_pos (by omega)]
      unfold cput
      rw [if_pos rfl, show n - 1 - t = n - (t + 1) by omega]
      unfold dg
      rw [Nat.mul_comm, Nat.mul_add_div hN, Nat.div_eq_of_lt hy, Nat.add_zero, Nat.mod_eq_of_lt hx]
    · rw [if_neg (by omega)]
      obtain ⟨d, hd⟩ : ∃ d, n - (l + 1) = (n - 1 - t) + 1 + d := ⟨n - (l + 1) - (n - 1 - t) - 1, by omega⟩
      unfold dg
      rw [hd, Nat.pow_add, Nat.pow_succ, show x * (q ^ (n - 1 - t) * q * q ^ d) = q ^ (n - 1 - t) * (q * (x * q ^ d)) by ac_rfl, Nat.mul_add_div (Nat.pow_pos hq), Nat.mul_add_mod]
theorem TC_0 {q n l : Nat} {c : Nat → Nat} {P : (Nat → Nat) → Prop} (h : ∀ d, (∀ t, t < l → d t = c t) → ¬ P d) : TC q n l c P = 0 :=
  cn_none (fun y _ => bl_f (h _ (fun t ht => if_pos ht)))
theorem TC_one {q n l x0 : Nat} {c : Nat → Nat} {P : (Nat → Nat) → Prop} (hL : Loc n P) (hl : l < n) (hx : x0 < q) (h : ∀ d, (∀ t, t < l → d t = c t) → P d → d l = x0) : TC q n l c P = TC q n (l + 1) (cput c l x0) P := by
  rw [TC_s hL hl (by omega)]
  have e : ∀ x, x < q → TC q n (l + 1) (cput c l x) P = if x = x0 then TC q n (l + 1) (cput c l x0) P else 0 := fun x hx => by
    by_cases c1 : x = x0
    · rw [if_pos c1, c1]
    · rw [if_neg c1]
      refine TC_0 (fun d hd hP => c1 ?_)
      rw [← h d (fun t ht => by rw [hd t (by omega)]; exact if_neg (by omega)) hP, hd l (by omega)]
      exact (if_pos rfl).symm
  rw [sg_congr e, sg_ind hx]
/-- no member of a tuple is made of those before it -/
def Ind (p n : Nat) (b : Nat → Nat) (m : Nat) : Prop := ∀ l, l < m → ∀ c, c < p ^ l → lin p n b c ≠ b l
theorem lin_low {p n m z : Nat} {bs cs : Nat → Nat} (hp : 0 < p) (hz : z < p ^ m) (h : ∀ i, i < m → bs i = cs i) : lin p n bs z = lin p n cs z := by
  unfold lin
  refine num_congr (fun k _ => ?_)
  refine congrArg (· % p) (sg_congr (fun i hi => ?_))
  by_cases c : i < m
  · rw [h i c]
  · rw [dg_big hp hz (by omega), Nat.zero_mul, Nat.zero_mul]
theorem lin_mf {p n a x : Nat} {bs : Nat → Nat} (hp : 0 < p) (hn : n ≤ 5) : lin p n bs (mf p a x) = mf p a (lin p n bs x) := by
  show num p 5 _ = num p 5 _
  refine num_congr (fun k hk => ?_)
  rw [lin_dg hp hk, Nat.mul_mod_mod, ← sg_mul]
  refine sg_mod (fun i hi => ?_)
  rw [mf_dg hp (by omega), Nat.mul_mod, Nat.mod_mod, ← Nat.mul_mod, Nat.mul_assoc]
theorem mf_0 {p a : Nat} : mf p a 0 = 0 := by
  unfold mf
  have e : num p 5 (fun i => a * dg p 0 i % p) = num p 5 (fun _ => 0) := num_congr (fun i _ => by rw [dg_0, Nat.mul_zero, Nat.zero_mod])
  rw [e]
  show 0 + 0 * p ^ 0 + 0 * p ^ 1 + 0 * p ^ 2 + 0 * p ^ 3 + 0 * p ^ 4 = 0
  simp
theorem lin_pow {p n i : Nat} {bs : Nat → Nat} (hp : 1 < p) (hi : i < n) (hb : bs i < p ^ 5) : lin p n bs (p ^ i) = bs i := by
  refine num_ext (p := p) (n := 5) (num_lt (fun _ _ => Nat.mod_lt _ (by omega))) hb (fun k hk => ?_)
  rw [lin_dg (by omega) hk]
  have e : sg n (fun t => dg p (p ^ i) t * dg p (bs t) k) = dg p (bs i) k := by
    rw [← sg_ind (d := dg p (bs i) k) hi]
    refine sg_congr (fun t _ => ?_)
    rw [dg_pow hp]
    by_cases c : t = i
    · rw [if_pos c, if_pos c, c, Nat.one_mul]
    · rw [if_neg c, if_neg c, Nat.zero_mul]
  rw [e, Nat.mod_eq_of_lt (dg_lt (by omega) _ _)]
section IN
variable {p n m : Nat} {b : Nat → Nat}
theorem sb_self0 (hp : Pm p) (hn : n ≤ 5) {x : Nat} (hx : x < p ^ n) : sb p x x = 0 := (sb_zero (by rcases hp with rfl | rfl | rfl <;> decide) hn hx hx).mpr rfl
theorem ker_inj (hp : Pm p) (hn : n ≤ 5) (hm : m ≤ n) (hb : ∀ i, i < n → b i < p ^ n) (h : ∀ z, z < p ^ m → lin p n b z = 0 → z = 0) : ∀ x y, x < p ^ m → y < p ^ m → lin p n b x = lin p n b y → x = y := fun x y hx hy e => by
  have hp1 : 1 < p := by rcases hp with rfl | rfl | rfl <;> decide
  refine (sb_zero hp1 (by omega) hx hy).mp (h _ (sb_lt (by omega) (by omega) hx hy) ?_)
  rw [lin_sb2 (by omega) hn, e]
  exact sb_self0 hp hn (lin_lt (by omega) hn hb)
theorem Ind_ker (hp : Pm p) (hn : n ≤ 5) (hm : m ≤ n) (hb : ∀ i, i < n → b i < p ^ n) (h : Ind p n b m) : ∀ z, z < p ^ m → lin p n b z = 0 → z = 0 := fun z hz e => by
  have hp1 : 1 < p := by rcases hp with rfl | rfl | rfl <;> decide
  refine Classical.byContradiction fun h0 => ?_
  obtain ⟨i, a, hi, ha0, ha, l1, l2, -, -⟩ := norm_ex (n := m) hp (by omega) (Nat.pos_of_ne_zero h0) hz
  have hq := Nat.pow_pos (n := i) (show 0 < p by omega)
  have hy : mf p a z - p ^ i < p ^ i := by omega
  have e1 : lin p n b (mf p a z) = 0 := by rw [lin_mf (by omega) hn, e, mf_0]
  have e2 := lin_up (p := p) (n := n) (bs := b) (i := i) (y := mf p a z - p ^ i) (by omega) (by omega) (by rw [Nat.div_eq_of_lt hy]; omega)
  rw [show mf p a z - p ^ i + p ^ i = mf p a z by omega, e1] at e2
  have b1 := hb i (by omega)
  have y5 : lin p n b (mf p a z - p ^ i) < p ^ n := lin_lt (by omega) hn hb
  have z0 : 0 < p ^ n := Nat.pow_pos (by omega)
  have e3 := sb_of_ad hp hn b1 z0 y5 e2
  refine h i hi (sb p 0 (mf p a z - p ^ i)) (sb_lt (by omega) (by omega) hq hy) ?_
  rw [lin_sb2 (by omega) hn, lin_0, e3]
theorem Ind_inj (hp : Pm p) (hn : n ≤ 5) (hm : m ≤ n) (hb : ∀ i, i < n → b i < p ^ n) (h : Ind p n b m) : ∀ x y, x < p ^ m → y < p ^ m → lin p n b x = lin p n b y → x = y := ker_inj hp hn hm hb (Ind_ker hp hn hm hb h)
theorem Ind_of_inj (hp : Pm p) (hn : n ≤ 5) (hm : m ≤ n) (hb : ∀ i, i < n → b i < p ^ n) (h : ∀ x y, x < p ^ m → y < p ^ m → lin p n b x = lin p n b y → x = y) : Ind p n b m := fun l hl c hc e => by
  have hp1 : 1 < p := by rcases hp with rfl | rfl | rfl <;> decide
  have e1 : p ^ l < p ^ m := Nat.pow_lt_pow_right hp1 hl
  have e2 : p ^ n ≤ p ^ 5 := Nat.pow_le_pow_right (by omega) hn
  have := h c (p ^ l) (by omega) e1 (by rw [lin_pow hp1 (by omega) (Nat.lt_of_lt_of_le (hb l (by omega)) e2)]; exact e)
  omega
theorem Ind_onto (hp : Pm p) (hn : n ≤ 5) (hb : ∀ i, i < n → b i < p ^ n) (h : Ind p n b n) : ∀ v, v < p ^ n → ∃ x, x < p ^ n ∧ lin p n b x = v :=
  onto_of (fun x _ => lin_lt (by rcases hp with rfl | rfl | rfl <;> decide) hn hb) (fun x y hx hy => Ind_inj hp hn (Nat.le_refl _) hb h x y hx hy)
theorem lin_id (hp : 1 < p) (hn : n ≤ 5) {x : Nat} (hx : x < p ^ n) : lin p n (fun i => p ^ i) x = x := by
  have e2 : p ^ n ≤ p ^ 5 := Nat.pow_le_pow_right (by omega) hn
  refine num_ext (p := p) (n := 5) (num_lt (fun _ _ => Nat.mod_lt _ (by omega))) (by omega) (fun k hk => ?_)
  rw [lin_dg (by omega) hk]
  by_cases c : k < n
  · have e : sg n (fun t => dg p x t * dg p (p ^ t) k) = dg p x k := by
      rw [← sg_ind (d := dg p x k) c]
      refine sg_congr (fun t _ => ?_)
      rw [dg_pow hp]
      by_cases c : t = k
      · rw [if_pos c, if_pos c.symm, c, Nat.mul_one]
      · rw [if_neg c, if_neg (fun z => c z.symm), Nat.mul_zero]
    rw [e, Nat.mod_eq_of_lt (dg_lt (by omega) _ _)]
  · rw [sg_zero (fun t ht => by rw [dg_pow hp, if_neg (by omega), Nat.mul_zero]), dg_big (by omega) hx (by omega), Nat.zero_mod]
end IN
/-- a basis and the numbers that its sums have -/
def Bas (p n : Nat) (b cd : Nat → Nat) : Prop := (∀ i, i < n → b i < p ^ n) ∧ Ind p n b n ∧ b 0 = 1 ∧ ∀ x, x < p ^ n → cd x < p ^ n ∧ lin p n b (cd x) = x
/-- linear in both places -/
def Bil (p n : Nat) (T : Nat → Nat → Nat) : Prop := (∀ x y, x < p ^ n → y < p ^ n → T x y < p ^ n) ∧ (∀ bs z w, (∀ i, i < n → bs i < p ^ n) → w < p ^ n → T (lin p n bs z) w = lin p n (fun i => T (bs i) w) z) ∧ ∀ bs z w, (∀ i, i < n → bs i < p ^ n) → w < p ^ n → T w (lin p n bs z) = lin p n (fun i => T w (bs i)) z
/-- images of a basis that make a one-to-one map which carries products -/
def PM (W : Wd) (T : Nat → Nat → Nat) (b cd : Nat → Nat) (fx : Nat) (c : Nat → Nat) : Prop := (∀ i, i < W.2.1 → c i < W.1 ^ W.2.1) ∧ Ind W.1 W.2.1 c W.2.1 ∧ (0 < fx → c 0 = fx) ∧ ∀ i j, i < W.2.1 → j < W.2.1 → T (c i) (c j) = lin W.1 W.2.1 c (cd (mul W (b i) (b j)))
section NM
variable {W : Wd} {T : Nat → Nat → Nat} {b cd : Nat → Nat} {fx : Nat}
theorem lin_cong2 {p n z : Nat} {c d : Nat → Nat} (h : ∀ t, t < n → c t = d t) : lin p n c z = lin p n d z := lin_congr h
theorem PM_loc (hn : 0 < W.2.1) : Loc W.2.1 (PM W T b cd fx) := by
  have key : ∀ c d, (∀ t, t < W.2.1 → c t = d t) → PM W T b cd fx c → PM W T b cd fx d := fun c d h ⟨h1, h2, h3, h4⟩ => by
    refine ⟨fun i hi => by rw [← h i hi]; exact h1 i hi, fun l hl x hx => ?_, fun q => by rw [← h 0 hn]; exact h3 q, fun i j hi hj => ?_⟩
    · rw [← lin_congr (bs := c) h, ← h l hl]; exact h2 l hl x hx
    · rw [← lin_congr (bs := c) h, ← h i hi, ← h j hj]; exact h4 i j hi hj
  exact fun c d h => ⟨key c d h, key d c (fun t ht => (h t ht).symm)⟩
/-- the images of the base elements under the map that a tuple tells -/
def std (W : Wd) (c cd : Nat → Nat) : Nat → Nat := fun i => lin W.1 W.2.1 c (cd (W.1 ^ i))
theorem std_lin (hk : Wok W) (hB : Bas W.1 W.2.1 b cd) {c : Nat → Nat} (hc : ∀ i, i < W.2.1 → c i < W.1 ^ W.2.1) {x : Nat} (hx : x < W.1 ^ W.2.1) : lin W.1 W.2.1 (std W c cd) x = lin W.1 W.2.1 c (cd x) := by
  obtain ⟨b1, b2, b3, b4, b5⟩ := hk.b
  obtain ⟨h1, h2, h3, h4⟩ := hB
  have e1 : lin W.1 W.2.1 (std W c cd) x = lin W.1 W.2.1 c (lin W.1 W.2.1 (fun i => cd (W.1 ^ i)) x) := (lin_lin (by omega) b4).symm
  rw [e1]
  refine congrArg _ (Ind_inj hk.1 b4 (Nat.le_refl _) h1 h2 _ _ (lin_lt (by omega) b4 (fun i hi => (h4 _ (pow_q hk hi)).1)) (h4 x hx).1 ?_)
  rw [(h4 x hx).2, lin_lin (by omega) b4, lin_congr (cs := fun i => W.1 ^ i) (fun i hi => (h4 _ (pow_q hk hi)).2), lin_id (by omega) b4 hx]
theorem std_lt (hk : Wok W) {c : Nat → Nat} (hc : ∀ i, i < W.2.1 → c i < W.1 ^ W.2.1) (i : Nat) : std W c cd i < W.1 ^ W.2.1 := lin_lt (by have := hk.b; omega) (by have := hk.b; omega) hc
theorem Bas_std (hk : Wok W) : Bas W.1 W.2.1 (fun i => W.1 ^ i) id := by
  obtain ⟨b1, b2, b3, b4, b5⟩ := hk.b
  refine ⟨fun i hi => pow_q hk hi, Ind_of_inj hk.1 b4 (Nat.le_refl _) (fun i hi => pow_q hk hi) (fun x y hx hy e => ?_), Nat.pow_zero _, fun x hx => ⟨hx, lin_id (by omega) b4 hx⟩⟩
  rw [lin_id (by omega) b4 hx, lin_id (by omega) b4 hy] at e
  exact e
/-- the map carries all products -/
theorem PM_all (hk : Wok W) (hT : Bil W.1 W.2.1 T) {b cd b2 cd2 : Nat → Nat} (hB : Bas W.1 W.2.1 b cd) (hB2 : Bas W.1 W.2.1 b2 cd2) {c t : Nat → Nat} (hc : ∀ i, i < W.2.1 → c i < W.1 ^ W.2.1) (ht : ∀ i, i < W.2.1 → t i < W.1 ^ W.2.1)
    (hct : ∀ x, x < W.1 ^ W.2.1 → lin W.1 W.2.1 t (cd2 x) = lin W.1 W.2.1 c (cd x)) (h : PM W T b cd fx c) : PM W T b2 cd2 fx t := by
  obtain ⟨b1, b2', b3, b4, b5⟩ := hk.b
  obtain ⟨h1, h2, h3, h4⟩ := hB
  obtain ⟨g1, g2, g3, g4⟩ := hB2
  obtain ⟨p1, p2, p3, p4⟩ := h
  have q5 : W.1 ^ W.2.1 ≤ W.1 ^ 5 := Nat.pow_le_pow_right (by omega) b4
  -- H on an element
  have H : ∀ z, z < W.1 ^ W.2.1 → lin W.1 W.2.1 c (cd (lin W.1 W.2.1 b z)) = lin W.1 W.2.1 c z := fun z hz => by
    have l1 : lin W.1 W.2.1 b z < W.1 ^ W.2.1 := lin_lt (by omega) b4 h1
    exact congrArg _ (Ind_inj hk.1 b4 (Nat.le_refl _) h1 h2 _ _ (h4 _ l1).1 hz (h4 _ l1).2)
  have H2 : ∀ z, z < W.1 ^ W.2.1 → lin W.1 W.2.1 t (cd2 (lin W.1 W.2.1 b2 z)) = lin W.1 W.2.1 t z := fun z hz => by
    have l1 : lin W.1 W.2.1 b2 z < W.1 ^ W.2.1 := lin_lt (by omega) b4 g1
    exact congrArg _ (Ind_inj hk.1 b4 (Nat.le_refl _) g1 g2 _ _ (g4 _ l1).1 hz (g4 _ l1).2)
  have Hb2 : ∀ i, i < W.2.1 → t i = lin W.1 W.2.1 c (cd (b2 i)) := fun i hi => by
    rw [← hct _ (g1 i hi)]
    have e := H2 (W.1 ^ i) (pow_q hk hi)
    rw [lin_pow (by omega) hi (Nat.lt_of_lt_of_le (g1 i hi) q5), lin_pow (by omega) hi (Nat.lt_of_lt_of_le (ht i hi) q5)] at e
    exact e.symm
  have all : ∀ x y, x < W.1 ^ W.2.1 → y < W.1 ^ W.2.1 → T (lin W.1 W.2.1 c x) (lin W.1 W.2.1 c y) = lin W.1 W.2.1 c (cd (mul W (lin W.1 W.2.1 b x) (lin W.1 W.2.1 b y))) := fun x y hx hy => by
    have lc : lin W.1 W.2.1 c y < W.1 ^ W.2.1 := lin_lt (by omega) b4 hc
    rw [hT.2.1 c x _ hc lc]
    have e1 : ∀ i, i < W.2.1 → T (c i) (lin W.1 W.2.1 c y) = lin W.1 W.2.1 c (cd (mul W (b i) (lin W.1 W.2.1 b y))) := fun i hi => by
      rw [hT.2.2 c y _ hc (hc i hi), mul_lin_d hk]
      have e2 : cd (lin W.1 W.2.1 (fun j => mul W (b i) (b j)) y) = lin W.1 W.2.1 (fun j => cd (mul W (b i) (b j))) y := by
        have l1 : lin W.1 W.2.1 (fun j => mul W (b i) (b j)) y < W.1 ^ W.2.1 := lin_lt (by omega) b4 (fun j _ => mul_lt hk _ _)
        refine Ind_inj hk.1 b4 (Nat.le_refl _) h1 h2 _ _ (h4 _ l1).1 (lin_lt (by omega) b4 (fun j _ => (h4 _ (mul_lt hk _ _)).1)) ?_
        rw [(h4 _ l1).2, lin_lin (by omega) b4]
        exact lin_congr (fun j _ => (h4 _ (mul_lt hk _ _)).2.symm)
      rw [e2, lin_lin (by omega) b4]
      exact lin_congr (fun j hj => p4 i j hi hj)
    rw [lin_congr e1, ← lin_lin (by omega) b4]
    congr 1
    rw [mul_lin_c hk]
    have l1 : lin W.1 W.2.1 (fun i => mul W (b i) (lin W.1 W.2.1 b y)) x < W.1 ^ W.2.1 := lin_lt (by omega) b4 (fun j _ => mul_lt hk _ _)
    refine Ind_inj hk.1 b4 (Nat.le_refl _) h1 h2 _ _ (lin_lt (by omega) b4 (fun j _ => (h4 _ (mul_lt hk _ _)).1)) (h4 _ l1).1 ?_
    rw [(h4 _ l1).2, lin_lin (by omega) b4]
    exact lin_congr (fun j _ => (h4 _ (mul_lt hk _ _)).2)
  refine ⟨ht, Ind_of_inj hk.1 b4 (Nat.le_refl _) ht (fun x y hx hy e => ?_), fun q => ?_, fun i j hi hj => ?_⟩
  · have lx : lin W.1 W.2.1 b2 x < W.1 ^ W.2.1 := lin_lt (by omega) b4 g1
    have ly : lin W.1 W.2.1 b2 y < W.1 ^ W.2.1 := lin_lt (by omega) b4 g1
    rw [← H2 x hx, ← H2 y hy, hct _ lx, hct _ ly] at e
    have e2 := Ind_inj hk.1 b4 (Nat.le_refl _) hc p2 _ _ (h4 _ lx).1 (h4 _ ly).1 e
    have e3 : lin W.1 W.2.1 b2 x = lin W.1 W.2.1 b2 y := by rw [← (h4 _ lx).2, ← (h4 _ ly).2, e2]
    exact Ind_inj hk.1 b4 (Nat.le_refl _) g1 g2 _ _ hx hy e3
  · rw [Hb2 0 (by omega), g3, ← h3]
    have e := H (W.1 ^ 0) (pow_q hk (by omega))
    rw [lin_pow (by omega) (show 0 < W.2.1 by omega) (Nat.lt_of_lt_of_le (h1 0 (by omega)) q5), lin_pow (by omega) (show 0 < W.2.1 by omega) (Nat.lt_of_lt_of_le (hc 0 (by omega)) q5)] at e
    rw [e]
    exact p3 q
  · rw [Hb2 i hi, Hb2 j hj, hct _ (mul_lt hk _ _), all _ _ (h4 _ (g1 i hi)).1 (h4 _ (g1 j hj)).1, (h4 _ (g1 i hi)).2, (h4 _ (g1 j hj)).2]
end NM
