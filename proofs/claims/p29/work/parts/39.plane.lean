/-! ===== sums of elements; lines and points ===== -/
theorem sb_dg5 {p x y k : Nat} (hp : 0 < p) (hk : k < 5) : dg p (sb p x y) k = (dg p x k + (p - 1) * dg p y k) % p := sbdg hp hk
theorem ad_sb {p n a b : Nat} (hp : Pm p) (hn : n ≤ 5) (ha : a < p ^ n) (hb : b < p ^ n) : ad p a (sb p b a) = b := by
  have h0 : 0 < p := by rcases hp with rfl | rfl | rfl <;> decide
  refine num_ext (ad_lt h0 hn ha (sb_lt h0 hn hb ha)) hb (fun i hi => ?_)
  rw [ad_dg h0 (by omega), sbdg h0 (by omega)]
  have h1 := dg_lt h0 a i
  have h2 := dg_lt h0 b i
  rcases hp with rfl | rfl | rfl <;> omega
theorem sb_move {p n a b c d : Nat} (hp : Pm p) (hn : n ≤ 5) (ha : a < p ^ n) (hb : b < p ^ n) (hc : c < p ^ n) (hd : d < p ^ n) (h : sb p a b = sb p c d) : b = ad p d (sb p a c) := by
  have h0 : 0 < p := by rcases hp with rfl | rfl | rfl <;> decide
  refine num_ext hb (ad_lt h0 hn hd (sb_lt h0 hn ha hc)) (fun i hi => ?_)
  rw [ad_dg h0 (by omega), sbdg h0 (by omega)]
  have e := congrArg (fun z => dg p z i) h
  rw [sbdg h0 (by omega), sbdg h0 (by omega)] at e
  have h1 := dg_lt h0 a i
  have h2 := dg_lt h0 b i
  have h3 := dg_lt h0 c i
  have h4 := dg_lt h0 d i
  rcases hp with rfl | rfl | rfl <;> omega
theorem sb_cross {p n a b c d : Nat} (hp : Pm p) (hn : n ≤ 5) (ha : a < p ^ n) (hb : b < p ^ n) (hc : c < p ^ n) (hd : d < p ^ n) (h : sb p a b = sb p c d) : ad p a d = ad p b c := by
  have h0 : 0 < p := by rcases hp with rfl | rfl | rfl <;> decide
  refine num_ext (ad_lt h0 hn ha hd) (ad_lt h0 hn hb hc) (fun i hi => ?_)
  rw [ad_dg h0 (by omega), ad_dg h0 (by omega)]
  have e := congrArg (fun z => dg p z i) h
  rw [sbdg h0 (by omega), sbdg h0 (by omega)] at e
  have h1 := dg_lt h0 a i
  have h2 := dg_lt h0 b i
  have h3 := dg_lt h0 c i
  have h4 := dg_lt h0 d i
  rcases hp with rfl | rfl | rfl <;> omega
theorem sb_ad_ad {p a b c : Nat} (hp : Pm p) : sb p (ad p a b) (ad p c b) = sb p a c := by
  have h0 : 0 < p := by rcases hp with rfl | rfl | rfl <;> decide
  have l1 : sb p (ad p a b) (ad p c b) < p ^ 5 := num_lt (fun _ _ => Nat.mod_lt _ h0)
  have l2 : sb p a c < p ^ 5 := num_lt (fun _ _ => Nat.mod_lt _ h0)
  refine num_ext l1 l2 (fun i hi => ?_)
  rw [sbdg h0 hi, sbdg h0 hi, ad_dg h0 hi, ad_dg h0 hi]
  have h1 := dg_lt h0 a i
  have h2 := dg_lt h0 b i
  have h3 := dg_lt h0 c i
  rcases hp with rfl | rfl | rfl <;> omega
theorem sb_of_ad {p n a b c : Nat} (hp : Pm p) (hn : n ≤ 5) (hb : b < p ^ n) (ha : a < p ^ n) (hc : c < p ^ n) (h : a = ad p c b) : b = sb p a c := by
  have h0 : 0 < p := by rcases hp with rfl | rfl | rfl <;> decide
  refine num_ext hb (sb_lt h0 hn ha hc) (fun i hi => ?_)
  rw [sbdg h0 (by omega), h, ad_dg h0 (by omega)]
  have h1 := dg_lt h0 c i
  have h2 := dg_lt h0 b i
  rcases hp with rfl | rfl | rfl <;> omega
theorem lin_sb2 {p n x y : Nat} {bs : Nat → Nat} (hp : 0 < p) (hn : n ≤ 5) : lin p n bs (sb p x y) = sb p (lin p n bs x) (lin p n bs y) := by
  have hl : sb p (lin p n bs x) (lin p n bs y) = num p 5 (fun k => (dg p (lin p n bs x) k + dg p (mf p (p - 1) (lin p n bs y)) k) % p) := rfl
  rw [hl]
  show num p 5 _ = num p 5 _
  refine num_congr (fun k hk => ?_)
  have e1 : sg n (fun i => dg p (sb p x y) i * dg p (bs i) k) % p = (sg n (fun i => dg p x i * dg p (bs i) k) + (p - 1) * sg n (fun i => dg p y i * dg p (bs i) k)) % p := by
    rw [← sg_mul, ← sg_add]
    refine sg_mod (fun i hi => ?_)
    rw [sbdg hp (by omega), Nat.mul_mod, Nat.mod_mod, ← Nat.mul_mod, Nat.add_mul]
    exact congrArg (fun q => (dg p x i * dg p (bs i) k + q) % p) (by ac_rfl)
  rw [e1, lin_dg hp hk, mf_dg hp hk, lin_dg hp hk, Nat.mul_mod_mod, Nat.mod_add_mod, Nat.add_mod_mod]
theorem mul_sb_r {W : Wd} (hk : Wok W) (m x y : Nat) : mul W m (sb W.1 x y) = sb W.1 (mul W m x) (mul W m y) := by
  obtain ⟨b1, b2, b3, b4, b5⟩ := hk.b
  rw [mul_lin_r hk, lin_sb2 (by omega) b4, ← mul_lin_r hk, ← mul_lin_r hk]
theorem mul_sb_l {W : Wd} (hk : Wok W) (m x y : Nat) : mul W (sb W.1 x y) m = sb W.1 (mul W x m) (mul W y m) := by
  obtain ⟨b1, b2, b3, b4, b5⟩ := hk.b
  rw [mul_lin_l hk, lin_sb2 (by omega) b4, ← mul_lin_l hk, ← mul_lin_l hk]
/-- the order, and the plane's last place -/
abbrev Wd.o (W : Wd) : Nat := W.1 ^ W.2.1
def lastP (W : Wd) : Nat := W.o * W.o + W.o
def hgt (W : Wd) (l x : Nat) : Nat := ad W.1 (mul W (l / W.o) x) (l % W.o)
def thr (W : Wd) (m u : Nat) : Nat := W.o * m + sb W.1 (u % W.o) (mul W m (u / W.o))
def OnP (W : Wd) (u l : Nat) : Prop := if W.o * W.o ≤ u then (if W.o * W.o ≤ l then u = lastP W ∨ l = lastP W else u - W.o * W.o = l / W.o) else if W.o * W.o ≤ l then l - W.o * W.o = u / W.o else u % W.o = hgt W l (u / W.o)
noncomputable def jnL (W : Wd) (l h : Nat) : Nat := if W.o * W.o ≤ l then lastP W else if h = lastP W then W.o * W.o + l / W.o else if W.o * W.o ≤ h then thr W (h - W.o * W.o) l else if l / W.o = h / W.o then W.o * W.o + l / W.o else thr W (qz W (sb W.1 (l / W.o) (h / W.o)) false (sb W.1 (l % W.o) (h % W.o))) l
noncomputable def mtL (W : Wd) (l h : Nat) : Nat := if W.o * W.o ≤ l then lastP W else if h = lastP W then W.o * W.o + l / W.o else if W.o * W.o ≤ h then W.o * (h - W.o * W.o) + hgt W l (h - W.o * W.o) else if l / W.o = h / W.o then W.o * W.o + l / W.o else W.o * (qz W (sb W.1 (l / W.o) (h / W.o)) true (sb W.1 (h % W.o) (l % W.o))) + hgt W l (qz W (sb W.1 (l / W.o) (h / W.o)) true (sb W.1 (h % W.o) (l % W.o)))
noncomputable def jnP (W : Wd) (u v : Nat) : Nat := jnL W (min u v) (max u v)
noncomputable def mtP (W : Wd) (u v : Nat) : Nat := mtL W (min u v) (max u v)
theorem jnP_comm (W : Wd) (u v : Nat) : jnP W u v = jnP W v u := by unfold jnP; rw [Nat.min_comm, Nat.max_comm]
theorem mtP_comm (W : Wd) (u v : Nat) : mtP W u v = mtP W v u := by unfold mtP; rw [Nat.min_comm, Nat.max_comm]
section PL
variable {W : Wd}
theorem q_div {q m b : Nat} (hb : b < q) : (q * m + b) / q = m ∧ (q * m + b) % q = b := by
  have h0 : 0 < q := by omega
  exact ⟨by rw [Nat.mul_add_div h0, Nat.div_eq_of_lt hb, Nat.add_zero], by rw [Nat.mul_add_mod, Nat.mod_eq_of_lt hb]⟩
theorem q_lt {q m b : Nat} (hm : m < q) (hb : b < q) : q * m + b < q * q := by
  have := Nat.mul_le_mul_left q (show m + 1 ≤ q from hm)
  rw [Nat.mul_add] at this
  omega
theorem hgt_lt (hk : Wok W) (l x : Nat) : hgt W l x < W.o := ad_lt (by have := hk.b; omega) (by have := hk.b; omega) (mul_lt hk _ _) (Nat.mod_lt _ hk.pos)
theorem thr_b (hk : Wok W) (m u : Nat) : sb W.1 (u % W.o) (mul W m (u / W.o)) < W.o := sb_lt (by have := hk.b; omega) (by have := hk.b; omega) (Nat.mod_lt _ hk.pos) (mul_lt hk _ _)
theorem on_thr (hk : Wok W) {m u : Nat} (hm : m < W.o) (hu : u < W.o * W.o) : OnP W u (thr W m u) := by
  have hb := thr_b hk m u
  have h1 : thr W m u < W.o * W.o := q_lt hm hb
  obtain ⟨d1, d2⟩ := q_div (m := m) hb
  unfold OnP
  rw [if_neg (by omega), if_neg (by omega)]
  unfold hgt thr
  rw [d1, d2]
  exact (ad_sb hk.1 hk.2.2.1 (mul_lt hk _ _) (Nat.mod_lt _ hk.pos)).symm
theorem run_pos (hk : Wok W) {a b : Nat} (ha : a < W.o) (hb : b < W.o) (h : a ≠ b) : 0 < sb W.1 a b ∧ sb W.1 a b < W.o := by
  refine ⟨Nat.pos_of_ne_zero fun e => h ((sb_zero (by have := hk.b; omega) (by have := hk.b; omega) ha hb).mp e), sb_lt (by have := hk.b; omega) (by have := hk.b; omega) ha hb⟩
theorem jnL_on (hk : Wok W) (hD : Div W) {u v : Nat} (h : u < v) (hv : v ≤ lastP W) : OnP W u (jnL W u v) ∧ OnP W v (jnL W u v) ∧ jnL W u v ≤ lastP W := by
  have hq := hk.pos
  have hL : lastP W = W.o * W.o + W.o := rfl
  have z1 : (0 : Int) ≤ ((u / W.o : Nat) : Int) := Int.natCast_nonneg _
  have z2 : (0 : Int) ≤ ((v / W.o : Nat) : Int) := Int.natCast_nonneg _
  unfold jnL
  by_cases c1 : W.o * W.o ≤ u
  · rw [if_pos c1]
    refine ⟨?_, ?_, Nat.le_refl _⟩ <;> unfold OnP
    · rw [if_pos c1, if_pos (by omega)]; exact Or.inr rfl
    · rw [if_pos (by omega), if_pos (by omega)]; exact Or.inr rfl
  rw [if_neg c1]
  have hu1 : u / W.o < W.o := Nat.div_lt_of_lt_mul (by omega)
  by_cases c2 : v = lastP W
  · rw [if_pos c2]
    refine ⟨?_, ?_, by omega⟩ <;> unfold OnP
    · rw [if_neg c1, if_pos (by omega)]; omega
    · rw [if_pos (by omega), if_pos (by omega)]; exact Or.inl c2
  rw [if_neg c2]
  by_cases c3 : W.o * W.o ≤ v
  · rw [if_pos c3]
    have hm : v - W.o * W.o < W.o := by omega
    have hb := thr_b hk (v - W.o * W.o) u
    have h1 : thr W (v - W.o * W.o) u < W.o * W.o := q_lt hm hb
    refine ⟨on_thr hk hm (by omega), ?_, by omega⟩
    unfold OnP
    rw [if_pos c3, if_neg (by omega)]
    exact (q_div hb).1.symm
  rw [if_neg c3]
  have hv1 : v / W.o < W.o := Nat.div_lt_of_lt_mul (by omega)
  by_cases c4 : u / W.o = v / W.o
  · rw [if_pos c4]
    refine ⟨?_, ?_, by omega⟩ <;> unfold OnP
    · rw [if_neg c1, if_pos (by omega)]; omega
    · rw [if_neg c3, if_pos (by omega)]; omega
  rw [if_neg c4]
  obtain ⟨r1, r2⟩ := run_pos hk hu1 hv1 c4
  have hr : sb W.1 (u % W.o) (v % W.o) < W.o := sb_lt (by have := hk.b; omega) hk.2.2.1 (Nat.mod_lt _ hq) (Nat.mod_lt _ hq)
  obtain ⟨s1, s2⟩ := qz_ok hk hD r1 r2 false hr
  generalize qz W (sb W.1 (u / W.o) (v / W.o)) false (sb W.1 (u % W.o) (v % W.o)) = m at s1 s2
  have s3 : mul W m (sb W.1 (u / W.o) (v / W.o)) = sb W.1 (u % W.o) (v % W.o) := s2
  have hb := thr_b hk m u
  have h1 : thr W m u < W.o * W.o := q_lt s1 hb
  refine ⟨on_thr hk s1 (by omega), ?_, by omega⟩
  obtain ⟨d1, d2⟩ := q_div (m := m) hb
  unfold OnP
  rw [if_neg c3, if_neg (by omega)]
  unfold hgt thr
  rw [d1, d2]
  rw [mul_sb_r hk] at s3
  exact sb_move hk.1 hk.2.2.1 (Nat.mod_lt _ hq) (Nat.mod_lt _ hq) (mul_lt hk _ _) (mul_lt hk _ _) s3.symm
theorem jnL_uni (hk : Wok W) (hD : Div W) {u v l : Nat} (h : u < v) (hv : v ≤ lastP W) (hl : l ≤ lastP W) (h1 : OnP W u l) (h2 : OnP W v l) : l = jnL W u v := by
  have hq := hk.pos
  have hL : lastP W = W.o * W.o + W.o := rfl
  have z1 : (0 : Int) ≤ ((u / W.o : Nat) : Int) := Int.natCast_nonneg _
  have z2 : (0 : Int) ≤ ((v / W.o : Nat) : Int) := Int.natCast_nonneg _
  have hl1 : l < W.o * W.o → l / W.o < W.o := fun c => Nat.div_lt_of_lt_mul c
  unfold OnP at h1 h2
  unfold jnL
  by_cases c1 : W.o * W.o ≤ u
  · rw [if_pos c1]
    rw [if_pos c1] at h1
    rw [if_pos (by omega)] at h2
    by_cases c : W.o * W.o ≤ l
    · rw [if_pos c] at h1 h2
      omega
    · rw [if_neg c] at h1 h2
      omega
  rw [if_neg c1]
  rw [if_neg c1] at h1
  have hu1 : u / W.o < W.o := Nat.div_lt_of_lt_mul (by omega)
  by_cases c2 : v = lastP W
  · rw [if_pos c2]
    rw [if_pos (by omega)] at h2
    by_cases c : W.o * W.o ≤ l
    · rw [if_pos c] at h1
      omega
    · rw [if_neg c] at h2
      have := hl1 (by omega)
      omega
  rw [if_neg c2]
  by_cases c3 : W.o * W.o ≤ v
  · rw [if_pos c3]
    rw [if_pos c3] at h2
    by_cases c : W.o * W.o ≤ l
    · rw [if_pos c] at h1 h2
      omega
    · rw [if_neg c] at h1 h2
      unfold hgt at h1
      have e := sb_of_ad hk.1 hk.2.2.1 (Nat.mod_lt l hq) (Nat.mod_lt u hq) (mul_lt hk _ _) h1
      unfold thr
      rw [h2, ← e]
      exact (Nat.div_add_mod l W.o).symm
  rw [if_neg c3]
  rw [if_neg c3] at h2
  have hv1 : v / W.o < W.o := Nat.div_lt_of_lt_mul (by omega)
  by_cases c : W.o * W.o ≤ l
  · rw [if_pos c] at h1 h2
    rw [if_pos (by omega)]
    omega
  rw [if_neg c] at h1 h2
  unfold hgt at h1 h2
  by_cases c4 : u / W.o = v / W.o
  · rw [c4, ← h2] at h1
    have d1 := Nat.div_add_mod u W.o
    have d2 := Nat.div_add_mod v W.o
    rw [c4, h1] at d1
    omega
  rw [if_neg c4]
  obtain ⟨r1, r2⟩ := run_pos hk hu1 hv1 c4
  have key : side W (sb W.1 (u / W.o) (v / W.o)) false (l / W.o) = sb W.1 (u % W.o) (v % W.o) := by
    show mul W (l / W.o) (sb W.1 (u / W.o) (v / W.o)) = _
    rw [mul_sb_r hk, h1, h2, sb_ad_ad hk.1]
  rw [← qz_eq hk hD r1 r2 (hl1 (by omega)) key]
  have e := sb_of_ad hk.1 hk.2.2.1 (Nat.mod_lt l hq) (Nat.mod_lt u hq) (mul_lt hk _ _) h1
  unfold thr
  rw [← e]
  exact (Nat.div_add_mod l W.o).symm
theorem mtL_on (hk : Wok W) (hD : Div W) {u v : Nat} (h : u < v) (hv : v ≤ lastP W) : OnP W (mtL W u v) u ∧ OnP W (mtL W u v) v ∧ mtL W u v ≤ lastP W := by
  have hq := hk.pos
  have hL : lastP W = W.o * W.o + W.o := rfl
  have z1 : (0 : Int) ≤ ((u / W.o : Nat) : Int) := Int.natCast_nonneg _
  have z2 : (0 : Int) ≤ ((v / W.o : Nat) : Int) := Int.natCast_nonneg _
  unfold mtL
  by_cases c1 : W.o * W.o ≤ u
  · rw [if_pos c1]
    refine ⟨?_, ?_, Nat.le_refl _⟩ <;> unfold OnP
    · rw [if_pos (by omega), if_pos c1]; exact Or.inl rfl
    · rw [if_pos (by omega), if_pos (by omega)]; exact Or.inl rfl
  rw [if_neg c1]
  have hu1 : u / W.o < W.o := Nat.div_lt_of_lt_mul (by omega)
  by_cases c2 : v = lastP W
  · rw [if_pos c2]
    refine ⟨?_, ?_, by omega⟩ <;> unfold OnP
    · rw [if_pos (by omega), if_neg c1]; omega
    · rw [if_pos (by omega), if_pos (by omega)]; exact Or.inr c2
  rw [if_neg c2]
  have pt : ∀ x, x < W.o → W.o * x + hgt W u x < W.o * W.o ∧ OnP W (W.o * x + hgt W u x) u := fun x hx => by
    have hh := hgt_lt hk u x
    have h1 := q_lt hx hh
    refine ⟨h1, ?_⟩
    unfold OnP
    rw [if_neg (by omega), if_neg c1, (q_div hh).1, (q_div hh).2]
  by_cases c3 : W.o * W.o ≤ v
  · rw [if_pos c3]
    obtain ⟨p1, p2⟩ := pt (v - W.o * W.o) (by omega)
    refine ⟨p2, ?_, by omega⟩
    unfold OnP
    rw [if_neg (by omega), if_pos c3]
    exact (q_div (hgt_lt hk _ _)).1.symm
  rw [if_neg c3]
  have hv1 : v / W.o < W.o := Nat.div_lt_of_lt_mul (by omega)
  by_cases c4 : u / W.o = v / W.o
  · rw [if_pos c4]
    refine ⟨?_, ?_, by omega⟩ <;> unfold OnP
    · rw [if_pos (by omega), if_neg c1]; omega
    · rw [if_pos (by omega), if_neg c3]; omega
  rw [if_neg c4]
  obtain ⟨r1, r2⟩ := run_pos hk hu1 hv1 c4
  have hr : sb W.1 (v % W.o) (u % W.o) < W.o := sb_lt (by have := hk.b; omega) hk.2.2.1 (Nat.mod_lt _ hq) (Nat.mod_lt _ hq)
  obtain ⟨s1, s2⟩ := qz_ok hk hD r1 r2 true hr
  generalize qz W (sb W.1 (u / W.o) (v / W.o)) true (sb W.1 (v % W.o) (u % W.o)) = x at s1 s2
  have s3 : mul W (sb W.1 (u / W.o) (v / W.o)) x = sb W.1 (v % W.o) (u % W.o) := s2
  obtain ⟨p1, p2⟩ := pt x s1
  refine ⟨p2, ?_, by omega⟩
  unfold OnP
  rw [if_neg (by omega), if_neg c3, (q_div (hgt_lt hk _ _)).1, (q_div (hgt_lt hk _ _)).2]
  rw [mul_sb_l hk] at s3
  exact sb_cross hk.1 hk.2.2.1 (mul_lt hk _ _) (mul_lt hk _ _) (Nat.mod_lt _ hq) (Nat.mod_lt _ hq) s3
theorem jnP_on (hk : Wok W) (hD : Div W) {u v : Nat} (h : u ≠ v) (hu : u ≤ lastP W) (hv : v ≤ lastP W) : OnP W u (jnP W u v) ∧ OnP W v (jnP W u v) ∧ jnP W u v ≤ lastP W := by
  by_cases c : u < v
  · unfold jnP; rw [Nat.min_eq_left (by omega), Nat.max_eq_right (by omega)]; exact jnL_on hk hD c hv
  · obtain ⟨a, b, d⟩ := jnL_on hk hD (show v < u by omega) hu
    unfold jnP; rw [Nat.min_eq_right (by omega), Nat.max_eq_left (by omega)]; exact ⟨b, a, d⟩
theorem jnP_uni (hk : Wok W) (hD : Div W) {u v l : Nat} (h : u ≠ v) (hu : u ≤ lastP W) (hv : v ≤ lastP W) (hl : l ≤ lastP W) (h1 : OnP W u l) (h2 : OnP W v l) : l = jnP W u v := by
  by_cases c : u < v
  · unfold jnP; rw [Nat.min_eq_left (by omega), Nat.max_eq_right (by omega)]; exact jnL_uni hk hD c hv hl h1 h2
  · unfold jnP; rw [Nat.min_eq_right (by omega), Nat.max_eq_left (by omega)]; exact jnL_uni hk hD (by omega) hu hl h2 h1
theorem mtP_on (hk : Wok W) (hD : Div W) {u v : Nat} (h : u ≠ v) (hu : u ≤ lastP W) (hv : v ≤ lastP W) : OnP W (mtP W u v) u ∧ OnP W (mtP W u v) v ∧ mtP W u v ≤ lastP W := by
  by_cases c : u < v
  · unfold mtP; rw [Nat.min_eq_left (by omega), Nat.max_eq_right (by omega)]; exact mtL_on hk hD c hv
  · obtain ⟨a, b, d⟩ := mtL_on hk hD (show v < u by omega) hu
    unfold mtP; rw [Nat.min_eq_right (by omega), Nat.max_eq_left (by omega)]; exact ⟨b, a, d⟩
theorem mtP_uni (hk : Wok W) (hD : Div W) {l m x : Nat} (h : l ≠ m) (hl : l ≤ lastP W) (hm : m ≤ lastP W) (hx : x ≤ lastP W) (h1 : OnP W x l) (h2 : OnP W x m) : x = mtP W l m := by
  obtain ⟨a, b, d⟩ := mtP_on hk hD h hl hm
  refine Classical.byContradiction fun c => h ?_
  exact (jnP_uni hk hD c hx d hl h1 a).trans (jnP_uni hk hD c hx d hm h2 b).symm
end PL
