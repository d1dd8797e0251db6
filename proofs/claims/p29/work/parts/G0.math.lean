/-! ===== what the law counts is what the class answers ===== -/
section GA
variable {W : Wd} {x : Sx} {z z2 : Int32}
theorem ifF {c : Prop} [Decidable c] {A B A2 B2 C : Prop} (f : c → A → A2 → C) (g : ¬ c → B → B2 → C) (h : if c then A else B) (h2 : if c then A2 else B2) : C := by
  by_cases q : c
  · rw [if_pos q] at h h2; exact f q h h2
  · rw [if_neg q] at h h2; exact g q h h2
theorem eqF {v : Int32} (a : z = v) (b : z2 = v) : z = z2 := a.trans b.symm
theorem isB_F {P : Prop} (h : isB z P) (h2 : isB z2 P) : z = z2 := (isB_bl h).trans (isB_bl h2).symm
theorem Fail_F (h : Fail W z) (h2 : Fail W z2) : z = z2 := by
  rcases h with ⟨a, b, rfl, a0, a1, b0, b1, e, m1, m2⟩ | ⟨rfl, n⟩ <;> rcases h2 with ⟨c, d, rfl, c0, c1, d0, d1, e2, m3, m4⟩ | ⟨rfl, n2⟩
  · have ac : a = c := by
      rcases Nat.lt_trichotomy a c with q | q | q
      · exact absurd e (m3 a b a0 q b0 b1)
      · exact q
      · exact absurd e2 (m1 c d c0 q d0 d1)
    subst ac
    have bd : b = d := by
      rcases Nat.lt_trichotomy b d with q | q | q
      · exact absurd e (m4 b b0 q)
      · exact q
      · exact absurd e2 (m2 d d0 q)
    rw [bd]
  · exact absurd e (n2 a b a0 a1 b0 b1)
  · exact absurd e2 (n c d c0 c1 d0 d1)
  · rfl
theorem Unj_F (h : Unj W z) (h2 : Unj W z2) : z = z2 := by
  rcases h with ⟨i, j, k, rfl, i1, j1, k1, e, m⟩ | ⟨rfl, n⟩ <;> rcases h2 with ⟨a, b, c, rfl, a1, b1, c1, e2, m2⟩ | ⟨rfl, n2⟩
  · have ne1 : ¬ (i < a ∨ i = a ∧ (j < b ∨ j = b ∧ k < c)) := fun q => e (m2 i j k i1 j1 k1 q)
    have ne2 : ¬ (a < i ∨ a = i ∧ (b < j ∨ b = j ∧ c < k)) := fun q => e2 (m a b c a1 b1 c1 q)
    have : i = a ∧ j = b ∧ k = c := by omega
    obtain ⟨rfl, rfl, rfl⟩ := this
    rfl
  · exact absurd (n2 i j k i1 j1 k1) e
  · exact absurd (n a b c a1 b1 c1) e2
  · rfl
theorem F_of {w t : Int32} : Q_of x w t z → Q_of x w t z2 → z = z2 := ifF (fun _ => ifF (fun _ => eqF) (fun _ => ifF (fun _ => eqF) (fun _ => ifF (fun _ => eqF) (fun _ => ifF (fun _ => eqF) (fun _ => ifF (fun _ => Fail_F) (fun _ => ifF (fun _ => UnitOf_uni) (fun _ => ifF (fun _ => eqF) (fun _ => ifF (fun _ => eqF) (fun _ => ifF (fun _ => Unj_F) (fun _ => ifF (fun _ => eqF) (fun _ => ifF (fun _ => eqF) (fun _ => ifF (fun _ => eqF) (fun _ => ifF (fun _ => eqF) (fun _ => ifF (fun _ => eqF) (fun _ => ifF (fun _ => by
  rintro (⟨a, rfl⟩ | ⟨a, b⟩) (⟨a2, rfl⟩ | ⟨a2, b2⟩)
  · rfl
  · exact absurd a a2
  · exact absurd a2 a
  · exact isB_F b b2) (fun _ => ifF (fun _ => eqF) (fun _ => ifF (fun _ => eqF) (fun _ => ifF (fun _ => eqF) (fun _ => eqF))))))))))))))))))) (fun _ => eqF)
end GA
section GB
variable {W : Wd}
theorem eJ_la (hk : Wok W) (w z x b : Nat) : eJ W w z x b = lin W.1 W.2.1 (fun i => eJ W w z (W.1 ^ i) b) x := by
  rcases w with _ | _ | w
  · show mul W (mul W z x) b = lin W.1 W.2.1 (fun i => mul W (mul W z (W.1 ^ i)) b) x
    rw [mul_lin_r hk z x, mul_lin_c hk]
  · show mul W (mul W x z) b = lin W.1 W.2.1 (fun i => mul W (mul W (W.1 ^ i) z) b) x
    rw [mul_lin_l hk z x, mul_lin_c hk]
  · show mul W (mul W x b) z = lin W.1 W.2.1 (fun i => mul W (mul W (W.1 ^ i) b) z) x
    rw [mul_lin_l hk b x, mul_lin_c hk]
theorem eJ_lb (hk : Wok W) (w z a y : Nat) : eJ W w z a y = lin W.1 W.2.1 (fun j => eJ W w z a (W.1 ^ j)) y := by
  rcases w with _ | _ | w
  · exact mul_lin_r hk (mul W z a) y
  · exact mul_lin_r hk (mul W a z) y
  · show mul W (mul W a y) z = lin W.1 W.2.1 (fun j => mul W (mul W a (W.1 ^ j)) z) y
    rw [mul_lin_r hk a y, mul_lin_c hk]
theorem lJ_la (hk : Wok W) (w z x b : Nat) : lJ W w z x b = lin W.1 W.2.1 (fun i => lJ W w z (W.1 ^ i) b) x := by
  rcases w with _ | _ | w
  · show mul W z (mul W x b) = lin W.1 W.2.1 (fun i => mul W z (mul W (W.1 ^ i) b)) x
    rw [mul_lin_l hk b x, mul_lin_d hk]
  · exact mul_lin_l hk (mul W z b) x
  · exact mul_lin_l hk (mul W b z) x
theorem lJ_lb (hk : Wok W) (w z a y : Nat) : lJ W w z a y = lin W.1 W.2.1 (fun j => lJ W w z a (W.1 ^ j)) y := by
  rcases w with _ | _ | w
  · show mul W z (mul W a y) = lin W.1 W.2.1 (fun j => mul W z (mul W a (W.1 ^ j))) y
    rw [mul_lin_r hk a y, mul_lin_d hk]
  · show mul W a (mul W z y) = lin W.1 W.2.1 (fun j => mul W a (mul W z (W.1 ^ j))) y
    rw [mul_lin_r hk z y, mul_lin_d hk]
  · show mul W a (mul W y z) = lin W.1 W.2.1 (fun j => mul W a (mul W (W.1 ^ j) z)) y
    rw [mul_lin_l hk z y, mul_lin_d hk]
theorem joins_all (hk : Wok W) (w z : Nat) : Joins W w z ↔ ∀ x y, x < W.1 ^ W.2.1 → y < W.1 ^ W.2.1 → eJ W w z x y = lJ W w z x y := by
  constructor
  · intro h x y _ _
    rw [eJ_la hk, lJ_la hk]
    refine lin_congr (fun i hi => ?_)
    rw [eJ_lb hk, lJ_lb hk]
    exact lin_congr (fun j hj => h i j hi hj)
  · intro h a b ha hb
    exact h _ _ (pw_q hk ha) (pw_q hk hb)
theorem comm_all (hk : Wok W) (z : Nat) : Comm W z ↔ ∀ x, x < W.1 ^ W.2.1 → mul W z x = mul W x z := by
  constructor
  · intro h x _
    rw [mul_lin_r hk z x, mul_lin_l hk z x]
    exact lin_congr (fun i hi => h i hi)
  · intro h j hj
    exact h _ (pw_q hk hj)
theorem mul_base_dg (hk : Wok W) {i j k : Nat} (hi : i < W.2.1) (hj : j < W.2.1) (hkk : k < W.2.1) : dg W.1 (mul W (W.1 ^ i) (W.1 ^ j)) k = W.2.2 (25 * i + 5 * j + k) := by
  rw [mul_base hk hi hj]
  exact dg_num (by have := hk.b; omega) hkk (fun t _ => (hk.2.2.2.2 _).1)
theorem wcom_all (hk : Wok W) : Wcom W ↔ ∀ x y, x < W.1 ^ W.2.1 → y < W.1 ^ W.2.1 → mul W x y = mul W y x := by
  constructor
  · intro h x y _ _
    have hs : ∀ i j k, i < W.2.1 → j < W.2.1 → k < W.2.1 → W.2.2 (25 * i + 5 * j + k) = W.2.2 (25 * j + 5 * i + k) := fun i j k hi hj hkk => by
      rcases Nat.lt_trichotomy i j with q | q | q
      · exact (h j i k q hj hkk).symm
      · rw [q]
      · exact h i j k q hi hkk
    unfold mul
    refine num_congr (fun k hkk => ?_)
    congr 1
    unfold mc
    rw [sg_swap]
    refine sg_congr (fun j hj => sg_congr (fun i hi => ?_))
    rw [hs i j k hi hj hkk, Nat.mul_comm (dg W.1 x i)]
  · intro h i j k hji hi hkk
    have hj : j < W.2.1 := by omega
    rw [← mul_base_dg hk hi hj hkk, ← mul_base_dg hk hj hi hkk, h _ _ (pw_q hk hi) (pw_q hk hj)]
theorem vm_mul3 (hk : Wok W) (x y : Nat) : vm W.1 W.2.1 (ent W 3 x) y = ad W.1 (mul W x y) (mul W y x) := by
  have bb := hk.b
  have h0 : 0 < W.1 := by omega
  refine num_ext (p := W.1) (n := W.2.1) (vm_lt h0 y) (ad_lt h0 (by omega) (mul_lt hk _ _) (mul_lt hk _ _)) (fun k hkk => ?_)
  rw [vm_dg h0 y hkk, ad_dg h0 (by omega), ← vm_mul x y, ← vm_mul1 x y, vm_dg h0 y hkk, vm_dg h0 y hkk, ← Nat.add_mod, ← sg_add]
  congr 1
  refine sg_congr (fun a _ => ?_)
  rw [← Nat.mul_add]
  congr 1
  unfold ent
  rw [← sg_add]
  refine sg_congr (fun s _ => ?_)
  rw [← Nat.mul_add]
  rfl
theorem mul_ad_l (hk : Wok W) {x y z : Nat} (hx : x < W.1 ^ W.2.1) (hy : y < W.1 ^ W.2.1) : mul W (ad W.1 x y) z = ad W.1 (mul W x z) (mul W y z) := by
  have bb := hk.b
  have h0 : 0 < W.1 := by omega
  refine num_ext (p := W.1) (n := W.2.1) (mul_lt hk _ _) (ad_lt h0 (by omega) (mul_lt hk _ _) (mul_lt hk _ _)) (fun k hkk => ?_)
  rw [ad_dg h0 (by omega), ← vm_mul1 z (ad W.1 x y), ← vm_mul1 z x, ← vm_mul1 z y, vm_dg h0 _ hkk, vm_dg h0 _ hkk, vm_dg h0 _ hkk, ← Nat.add_mod, ← sg_add]
  refine sg_mod (fun i hi => ?_)
  rw [ad_dg h0 (by omega), Nat.mul_mod, Nat.mod_mod, ← Nat.mul_mod, Nat.add_mul]
theorem mul_ad_r (hk : Wok W) {x y z : Nat} (hx : x < W.1 ^ W.2.1) (hy : y < W.1 ^ W.2.1) : mul W z (ad W.1 x y) = ad W.1 (mul W z x) (mul W z y) := by
  have bb := hk.b
  have h0 : 0 < W.1 := by omega
  refine num_ext (p := W.1) (n := W.2.1) (mul_lt hk _ _) (ad_lt h0 (by omega) (mul_lt hk _ _) (mul_lt hk _ _)) (fun k hkk => ?_)
  rw [ad_dg h0 (by omega), ← vm_mul z (ad W.1 x y), ← vm_mul z x, ← vm_mul z y, vm_dg h0 _ hkk, vm_dg h0 _ hkk, vm_dg h0 _ hkk, ← Nat.add_mod, ← sg_add]
  refine sg_mod (fun i hi => ?_)
  rw [ad_dg h0 (by omega), Nat.mul_mod, Nat.mod_mod, ← Nat.mul_mod, Nat.add_mul]
/-- what the law takes out of a square -/
def pzl (W : Wd) (a b : Nat) : Nat := sb W.1 (sb W.1 (mul W (ad W.1 b a) (ad W.1 b a)) (mul W b b)) (mul W a a)
theorem pz_md {p u v w y : Nat} (hp : p = 2 ∨ p = 3 ∨ p = 5) : (((((u + v) % p + (w + y) % p) % p + (p - 1) * u) % p) + (p - 1) * y) % p = (v + w) % p := by
  rcases hp with rfl | rfl | rfl <;> omega
theorem pzl_eq (hk : Wok W) {a b : Nat} (ha : a < W.1 ^ W.2.1) (hb : b < W.1 ^ W.2.1) : pzl W a b = vm W.1 W.2.1 (ent W 3 a) b := by
  have bb := hk.b
  have h0 : 0 < W.1 := by omega
  have n5 : W.2.1 ≤ 5 := by omega
  rw [vm_mul3 hk]
  unfold pzl
  rw [mul_ad_l hk hb ha, mul_ad_r hk hb ha, mul_ad_r hk hb ha]
  have m := mul_lt hk
  refine num_ext (p := W.1) (n := W.2.1) (sb_lt h0 n5 (sb_lt h0 n5 (ad_lt h0 n5 (ad_lt h0 n5 (m _ _) (m _ _)) (ad_lt h0 n5 (m _ _) (m _ _))) (m _ _)) (m _ _)) (ad_lt h0 n5 (m _ _) (m _ _)) (fun k hkk => ?_)
  have k5 : k < 5 := by omega
  rw [sbdg h0 k5, sbdg h0 k5, ad_dg h0 k5, ad_dg h0 k5, ad_dg h0 k5, ad_dg h0 k5, pz_md hk.1, Nat.add_comm]
/-- the squares part all elements, by a: the rank is full -/
theorem planar_iff (hk : Wok W) {a : Nat} (ha : a < W.1 ^ W.2.1) : (∀ b c, b < c → c < W.1 ^ W.2.1 → pzl W a b ≠ pzl W a c) ↔ rankE W 3 a = W.2.1 := by
  have bb := hk.b
  have h0 : 0 < W.1 := by omega
  rw [rankE_full hk]
  constructor
  · intro h y y0 y1 e
    have := h 0 y y0 y1
    rw [pzl_eq hk ha hk.pos, pzl_eq hk ha y1, e] at this
    exact this ((vm_0 h0 0).mpr (fun b _ => by
      rw [sg_congr (g := fun _ => 0 * 0) (fun s _ => by rw [dg_0, Nat.zero_mul]), sg_mul, Nat.zero_mul, Nat.zero_mod]))
  · intro h b c hbc hc e
    rw [pzl_eq hk ha (by omega), pzl_eq hk ha hc] at e
    have := vm_inj h0 h b c (by omega) hc e
    omega
end GB
