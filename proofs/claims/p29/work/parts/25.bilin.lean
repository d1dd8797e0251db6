/-! ===== products are linear on both sides; kernels ===== -/
theorem sg_swap {f : Nat → Nat → Nat} (m : Nat) : ∀ n, sg n (fun i => sg m (fun j => f i j)) = sg m (fun j => sg n (fun i => f i j))
  | 0 => (sg_zero (fun _ _ => rfl)).symm
  | n + 1 => by
    show sg n (fun i => sg m (fun j => f i j)) + sg m (fun j => f n j) = sg m (fun j => sg n (fun i => f i j) + f n j)
    rw [sg_swap m n, sg_add]
theorem dg_pow {p i : Nat} (hp : 1 < p) (j : Nat) : dg p (p ^ i) j = if j = i then 1 else 0 := by
  have hpi := Nat.pow_pos (n := i) (show 0 < p by omega)
  have h := dg_up (p := p) (i := i) (y := 0) (by omega) (by rw [Nat.zero_div]; omega) j
  rw [Nat.zero_add] at h
  rw [h]
  have : dg p 0 j = 0 := by unfold dg; rw [Nat.zero_div, Nat.zero_mod]
  rw [this, Nat.zero_add]
theorem dg_mul {W : Wd} (hk : Wok W) (x y : Nat) {k : Nat} (h : k < W.2.1) : dg W.1 (mul W x y) k = mc W x y k % W.1 := dg_num (by have := hk.b; omega) h (fun _ _ => Nat.mod_lt _ (by have := hk.b; omega))
theorem mc_pow_r {W : Wd} (hk : Wok W) (x k : Nat) {i : Nat} (hi : i < W.2.1) : mc W x (W.1 ^ i) k = sg W.2.1 (fun s => dg W.1 x s * W.2.2 (25 * s + 5 * i + k)) := by
  unfold mc
  refine sg_congr (fun s _ => ?_)
  rw [sg_congr (g := fun j => if j = i then dg W.1 x s * W.2.2 (25 * s + 5 * i + k) else 0) (fun j _ => by
    rw [dg_pow (by have := hk.b; omega)]
    by_cases e : j = i
    · subst e; simp
    · simp [e]), sg_ind hi]
theorem mc_pow_l {W : Wd} (hk : Wok W) (x k : Nat) {i : Nat} (hi : i < W.2.1) : mc W (W.1 ^ i) x k = sg W.2.1 (fun s => dg W.1 x s * W.2.2 (25 * i + 5 * s + k)) := by
  unfold mc
  rw [sg_congr (g := fun j => if j = i then sg W.2.1 (fun s => dg W.1 x s * W.2.2 (25 * i + 5 * s + k)) else 0) (fun j _ => by
    rw [dg_pow (by have := hk.b; omega)]
    by_cases e : j = i
    · subst e; simp
    · simp only [if_neg e]; exact sg_zero (fun _ _ => by simp)), sg_ind hi]
theorem lin_as_mul {W : Wd} (hk : Wok W) {bs : Nat → Nat} {z : Nat} {G : Nat → Nat} (hG : ∀ k, k < W.2.1 → sg W.2.1 (fun i => dg W.1 z i * dg W.1 (bs i) k) % W.1 = G k % W.1) (hb : ∀ i, i < W.2.1 → bs i < W.1 ^ W.2.1) : lin W.1 W.2.1 bs z = num W.1 W.2.1 (fun k => G k % W.1) := by
  obtain ⟨b1, b2, b3, b4, b5⟩ := hk.b
  unfold lin
  rw [num_to b4 (fun k hk2 => by rw [sg_zero (fun i hi => by rw [dg_big (by omega) (hb i hi) hk2, Nat.mul_zero]), Nat.zero_mod])]
  exact num_congr hG
theorem mul_lin_r {W : Wd} (hk : Wok W) (x z : Nat) : mul W x z = lin W.1 W.2.1 (fun i => mul W x (W.1 ^ i)) z := by
  rw [lin_as_mul hk (G := fun k => mc W x z k) (fun k hk2 => ?_) (fun i _ => mul_lt hk _ _)]
  · rfl
  · have e : mc W x z k = sg W.2.1 (fun i => dg W.1 z i * sg W.2.1 (fun s => dg W.1 x s * W.2.2 (25 * s + 5 * i + k))) := by
      unfold mc
      rw [sg_swap]
      refine sg_congr (fun i _ => ?_)
      rw [← sg_mul]
      refine sg_congr (fun s _ => ?_)
      rw [Nat.mul_comm (dg W.1 x s), Nat.mul_assoc]
    rw [e]
    refine sg_mod (fun i hi => ?_)
    rw [dg_mul hk _ _ hk2, mc_pow_r hk x k hi, Nat.mul_mod, Nat.mod_mod, ← Nat.mul_mod]
theorem mul_lin_l {W : Wd} (hk : Wok W) (x z : Nat) : mul W z x = lin W.1 W.2.1 (fun i => mul W (W.1 ^ i) x) z := by
  rw [lin_as_mul hk (G := fun k => mc W z x k) (fun k hk2 => ?_) (fun i _ => mul_lt hk _ _)]
  · rfl
  · have e : mc W z x k = sg W.2.1 (fun i => dg W.1 z i * sg W.2.1 (fun s => dg W.1 x s * W.2.2 (25 * i + 5 * s + k))) := by
      unfold mc
      refine sg_congr (fun i _ => ?_)
      rw [← sg_mul]
      refine sg_congr (fun s _ => ?_)
      rw [Nat.mul_assoc]
    rw [e]
    refine sg_mod (fun i hi => ?_)
    rw [dg_mul hk _ _ hk2, mc_pow_l hk x k hi, Nat.mul_mod, Nat.mod_mod, ← Nat.mul_mod]
/-- one to one within N: every number is met -/
theorem onto_of {N : Nat} {σ : Nat → Nat} (h1 : ∀ x, x < N → σ x < N) (h2 : ∀ x y, x < N → y < N → σ x = σ y → x = y) : ∀ v, v < N → ∃ x, x < N ∧ σ x = v := by
  intro v hv
  refine Classical.byContradiction fun hn => ?_
  have a := cn_inj N (fun _ => true) (fun x => true && !decide (x = v)) N σ (fun x hx _ => ⟨h1 x hx, by
    have : ¬ σ x = v := fun z => hn ⟨x, hx, z⟩
    simp [this]⟩) (fun x y hx hy _ _ => h2 x y hx hy)
  have b := cn_remove (P := fun _ => true) hv rfl
  omega
/-- the numbers of vectors: y M -/
def vm (p n : Nat) (M : Nat → Nat → Nat) (y : Nat) : Nat := num p n (fun b => sg n (fun a => dg p y a * M a b) % p)
theorem vm_lt {p n : Nat} {M : Nat → Nat → Nat} (hp : 0 < p) (y : Nat) : vm p n M y < p ^ n := num_lt (fun _ _ => Nat.mod_lt _ hp)
theorem vm_dg {p n : Nat} {M : Nat → Nat → Nat} (hp : 0 < p) (y : Nat) {b : Nat} (hb : b < n) : dg p (vm p n M y) b = sg n (fun a => dg p y a * M a b) % p := dg_num hp hb (fun _ _ => Nat.mod_lt _ hp)
theorem dg_0 (p i : Nat) : dg p 0 i = 0 := by unfold dg; rw [Nat.zero_div, Nat.zero_mod]
theorem num_eq0 {p n : Nat} {f : Nat → Nat} (hp : 0 < p) (hf : ∀ i, i < n → f i < p) : num p n f = 0 ↔ ∀ i, i < n → f i = 0 := by
  constructor
  · intro e i hi
    have := dg_num hp hi hf
    rw [e, dg_0] at this
    exact this.symm
  · intro h
    rw [num_congr (g := fun _ => 0) h]
    clear h hf
    induction n with
    | zero => rfl
    | succ n ih => show num p n (fun _ => 0) + 0 * p ^ n = 0; rw [ih, Nat.zero_mul]
theorem vm_0 {p n : Nat} {M : Nat → Nat → Nat} (hp : 0 < p) (y : Nat) : vm p n M y = 0 ↔ ∀ b, b < n → sg n (fun a => dg p y a * M a b) % p = 0 := num_eq0 hp (fun _ _ => Nat.mod_lt _ hp)
/-- x less y, digit by digit -/
def dif (p n x y : Nat) : Nat := num p n (fun i => (dg p x i + (p - dg p y i)) % p)
theorem vm_inj {p n : Nat} {M : Nat → Nat → Nat} (hp : 0 < p) (h0 : ∀ y, 0 < y → y < p ^ n → vm p n M y ≠ 0) : ∀ x y, x < p ^ n → y < p ^ n → vm p n M x = vm p n M y → x = y := by
  intro x y hx hy e
  refine Classical.byContradiction fun hne => ?_
  have hd : ∀ i, (dg p x i + (p - dg p y i)) % p < p := fun _ => Nat.mod_lt _ hp
  have hdif : dif p n x y < p ^ n := num_lt (fun i _ => hd i)
  have hpos : 0 < dif p n x y := by
    rcases Nat.eq_zero_or_pos (dif p n x y) with z | z
    · exfalso
      apply hne
      refine num_ext hx hy (fun i hi => ?_)
      have h1 := (num_eq0 hp (fun i _ => hd i)).mp z i hi
      have h2 := dg_lt hp x i
      have h3 := dg_lt hp y i
      by_cases c : dg p y i ≤ dg p x i
      · rw [show dg p x i + (p - dg p y i) = (dg p x i - dg p y i) + p by omega, Nat.add_mod_right, Nat.mod_eq_of_lt (by omega)] at h1
        omega
      · rw [Nat.mod_eq_of_lt (by omega)] at h1
        omega
    · exact z
  refine h0 _ hpos hdif ((vm_0 hp _).mpr (fun b hb => ?_))
  have hx2 := vm_dg (M := M) hp x hb
  have hy2 := vm_dg (M := M) hp y hb
  rw [e] at hx2
  have e2 : sg n (fun a => dg p x a * M a b) % p = sg n (fun a => dg p y a * M a b) % p := hx2.symm.trans hy2
  have e3 : sg n (fun a => dg p (dif p n x y) a * M a b) % p = (sg n (fun a => dg p x a * M a b) + sg n (fun a => (p - dg p y a) * M a b)) % p := by
    rw [← sg_add]
    refine sg_mod (fun a ha => ?_)
    have : dg p (dif p n x y) a = (dg p x a + (p - dg p y a)) % p := dg_num hp ha (fun i _ => hd i)
    rw [this, Nat.mul_mod, Nat.mod_mod, ← Nat.mul_mod, Nat.add_mul]
  rw [e3, Nat.add_mod, e2, ← Nat.add_mod, ← sg_add]
  rw [sg_congr (g := fun a => p * M a b) (fun a _ => by
    have := dg_lt hp y a
    rw [← Nat.add_mul]
    congr 1
    omega), sg_mul]
  exact Nat.mul_mod_right _ _
theorem ker_one {p n : Nat} {M : Nat → Nat → Nat} (hp : 1 < p) (h0 : ∀ y, 0 < y → y < p ^ n → vm p n M y ≠ 0) : ∀ u, 0 < u → u < p ^ n → vm p n (fun a b => M b a) u ≠ 0 := by
  intro u hu0 hu e
  have h1 := onto_of (fun x _ => vm_lt (M := M) (by omega) x) (vm_inj (by omega) h0)
  have h2 := (vm_0 (by omega) u).mp e
  have key : ∀ i, i < n → dg p u i = 0 := fun i hi => by
    obtain ⟨y, hy, hv⟩ := h1 (p ^ i) (Nat.pow_lt_pow_right hp hi)
    have e1 : sg n (fun b => dg p (p ^ i) b * dg p u b) = dg p u i := by
      rw [sg_congr (g := fun b => if b = i then dg p u i else 0) (fun b _ => by
        rw [dg_pow hp]
        by_cases c : b = i
        · subst c; simp
        · simp [c]), sg_ind hi]
    have e2 : sg n (fun b => dg p (p ^ i) b * dg p u b) % p = 0 := by
      rw [← hv, sg_mod (g := fun b => sg n (fun a => dg p y a * (dg p u b * M a b))) (fun b hb => by
        rw [vm_dg (by omega) y hb, Nat.mul_mod, Nat.mod_mod, ← Nat.mul_mod, Nat.mul_comm, ← sg_mul]
        congr 1
        exact sg_congr (fun a _ => by ac_rfl)), sg_swap, sg_mod (g := fun _ => 0) (fun a ha => by
        rw [sg_mul, Nat.mul_mod, h2 a ha, Nat.mul_zero])]
      rw [sg_zero (fun _ _ => rfl), Nat.zero_mod]
    rw [e1] at e2
    rw [Nat.mod_eq_of_lt (dg_lt (by omega) u i)] at e2
    exact e2
  have : u = 0 := num_ext hu (Nat.pow_pos (by omega)) (fun i hi => by rw [key i hi, dg_0])
  omega
/-- a square matrix has full rank if and only if nothing but nought is led to nought, by rows as by columns -/
theorem full_iff {p n r : Nat} {M : Nat → Nat → Nat} (hp : Pm p) (h : isRank p n (SolM p n n M) r) : r = n ↔ ∀ y, 0 < y → y < p ^ n → vm p n M y ≠ 0 := by
  have hp1 : 1 < p := by rcases hp with rfl | rfl | rfl <;> decide
  rw [rank_full hp h (fun a _ => by rw [show dot n (M a) (fun _ => 0) = 0 from sg_zero (fun _ _ => Nat.mul_zero _), Nat.zero_mod])]
  have eq : ∀ y, SolM p n n M (dg p y) ↔ vm p n (fun a b => M b a) y = 0 := fun y => by
    rw [vm_0 (by omega)]
    constructor
    · intro q b hb
      rw [← q b hb]
      congr 1
      exact sg_congr (fun a _ => Nat.mul_comm _ _)
    · intro q a ha
      rw [← q a ha]
      congr 1
      exact sg_congr (fun b _ => Nat.mul_comm _ _)
  constructor
  · intro q y y0 y1 e
    exact ker_one (M := fun a b => M b a) hp1 (fun z z0 z1 => fun e2 => q z z0 z1 ((eq z).mpr e2)) y y0 y1 e
  · intro q y y0 y1 e
    exact ker_one (M := M) hp1 q y y0 y1 ((eq y).mp e)
theorem vm_mul {W : Wd} (x y : Nat) : vm W.1 W.2.1 (ent W 0 x) y = mul W x y := by
  unfold vm mul
  refine num_congr (fun k _ => ?_)
  congr 1
  unfold mc ent ent1
  rw [sg_swap]
  refine sg_congr (fun a _ => ?_)
  rw [← sg_mul]
  refine sg_congr (fun s _ => ?_)
  rw [← Nat.mul_assoc, Nat.mul_comm (dg W.1 y a)]
  rfl
theorem vm_mul1 {W : Wd} (x y : Nat) : vm W.1 W.2.1 (ent W 1 x) y = mul W y x := by
  unfold vm mul
  refine num_congr (fun k _ => ?_)
  congr 1
  unfold mc ent ent1
  refine sg_congr (fun a _ => ?_)
  rw [← sg_mul]
  exact sg_congr (fun s _ => (Nat.mul_assoc _ _ _).symm)
/-- a row comes to what leads: there is always a way -/
theorem settle_ex {p w : Nat} {led : Nat → Bool} {rows : Nat → Nat → Nat} (hp : Pm p) (hO : EOk p w led rows) (v0 : Nat → Nat) : ∀ (n c : Nat) (v : Nat → Nat), n = w - c → c ≤ w → (∀ t, t < w → v t < p) → (∀ t, t < c → v t = 0) → (∀ u, Sol p w led rows u → (dot w v u % p = 0 ↔ dot w v0 u % p = 0)) → ∃ led2 rows2, EOk p w led2 rows2 ∧ ∀ u, Sol p w led2 rows2 u ↔ Sol p w led rows u ∧ dot w v0 u % p = 0 := by
  have hp' : 2 ≤ p ∧ p ≤ 5 := by rcases hp with rfl | rfl | rfl <;> decide
  intro n
  induction n with
  | zero =>
    intro c v e1 e2 hv hz hd
    have e : c = w := by omega
    subst e
    exact ⟨led, rows, hO, fun u => ⟨fun q => ⟨q, (hd u q).mp (by rw [dot_zero u hz, Nat.zero_mod])⟩, fun q => q.1⟩⟩
  | succ n ih =>
    intro c v e1 e2 hv hz hd
    have a3 := hv c (by omega)
    by_cases hv0 : v c = 0
    · refine ih (c + 1) v (by omega) (by omega) hv (fun t ht => ?_) hd
      by_cases e : t = c
      · subst e; exact hv0
      · exact hz t (by omega)
    · cases hl : led c with
      | true =>
        obtain ⟨o1, o2, o3⟩ := hO c (by omega) hl
        refine ih (c + 1) (redv p v (rows c) c) (by omega) (by omega) (fun t ht => ?_) (fun t ht => ?_) (fun u hu => ?_)
        · unfold redv
          by_cases e : c ≤ t
          · rw [if_pos e]; exact Nat.mod_lt _ (by omega)
          · rw [if_neg e]; exact hv t ht
        · unfold redv
          by_cases e : c ≤ t
          · have e3 : t = c := by omega
            subst e3
            rw [if_pos e, o1, Nat.mul_one, Nat.add_sub_cancel' (by omega), Nat.mod_self]
          · rw [if_neg e]; exact hz t (by omega)
        · rw [redv_dot o2 (hu c (by omega) hl)]
          exact hd u hu
      | false =>
        obtain ⟨i1, i2, i3⟩ := inv_ok (v := v c) hp (by omega) a3
        refine ⟨fun t => if t = c then true else led t, fun i => if i = c then (fun t => v t * inv p (v c) % p) else rows i, fun i hi hli => ?_, fun u => ?_⟩
        · show (if i = c then (fun t => v t * inv p (v c) % p) else rows i) i = 1 ∧ (∀ t, t < i → (if i = c then (fun t => v t * inv p (v c) % p) else rows i) t = 0) ∧ ∀ t, t < w → (if i = c then (fun t => v t * inv p (v c) % p) else rows i) t < p
          by_cases e : i = c
          · subst e
            simp only [if_pos]
            refine ⟨i3, fun t ht => by rw [hz t ht, Nat.zero_mul, Nat.zero_mod], fun t _ => Nat.mod_lt _ (by omega)⟩
          · dsimp only at hli
            rw [if_neg e] at hli
            simp only [if_neg e]
            exact hO i hi hli
        · have key : dot w (fun t => v t * inv p (v c) % p) u % p = 0 ↔ dot w v u % p = 0 := by
            rw [dot_mod (b := fun t => inv p (v c) * v t) u (fun t _ => by rw [Nat.mod_mod, Nat.mul_comm])]
            have : dot w (fun t => inv p (v c) * v t) u = inv p (v c) * dot w v u := by
              unfold dot
              rw [← sg_mul]
              exact sg_congr (fun t _ => Nat.mul_assoc _ _ _)
            rw [this]
            exact unit_dot hp i1 i2
          constructor
          · intro q
            have q1 : Sol p w led rows u := fun i hi hli => by
              have := q i hi
              by_cases e : i = c
              · subst e; rw [hl] at hli; cases hli
              · simp only [if_neg e] at this
                exact this hli
            have q2 := q c (by omega) (if_pos rfl)
            simp only [if_pos] at q2
            exact ⟨q1, (hd u q1).mp (key.mp q2)⟩
          · intro q i hi hli
            by_cases e : i = c
            · subst e
              simp only [if_pos]
              exact key.mpr ((hd u q.1).mpr q.2)
            · simp only [if_neg e] at hli ⊢
              exact q.1 i hi hli
/-- every matrix has a rank -/
theorem rank_ex {p w : Nat} (hp : Pm p) (A : Nat → Nat → Nat) : ∀ m, ∃ r, isRank p w (SolM p w m A) r
  | 0 => ⟨0, _, _, EOk_0 p w, (rk_0 w).symm, fun u => ⟨fun _ a ha => absurd ha (Nat.not_lt_zero a), fun _ => Sol_0 p w u⟩⟩
  | m + 1 => by
    have hp0 : 0 < p := by rcases hp with rfl | rfl | rfl <;> decide
    obtain ⟨r, led, rows, hO, -, hS⟩ := rank_ex hp A m
    obtain ⟨led2, rows2, hO2, hS2⟩ := settle_ex hp hO (A m) w 0 (fun t => A m t % p) rfl (Nat.zero_le _) (fun _ _ => Nat.mod_lt _ hp0) (fun t ht => absurd ht (Nat.not_lt_zero t)) (fun u _ => by rw [dot_mod (b := A m) u (fun t _ => Nat.mod_mod _ _)])
    refine ⟨rk w led2, led2, rows2, hO2, rfl, fun u => ?_⟩
    rw [hS2 u, hS u]
    constructor
    · intro ⟨y1, y2⟩ a ha
      by_cases e : a = m
      · subst e; exact y2
      · exact y1 a (by omega)
    · intro q
      exact ⟨fun a ha => q a (by omega), q m (by omega)⟩
theorem rankE_full {W : Wd} (hk : Wok W) (side x : Nat) : rankE W side x = W.2.1 ↔ ∀ y, 0 < y → y < W.1 ^ W.2.1 → vm W.1 W.2.1 (ent W side x) y ≠ 0 := full_iff hk.1 (Classical.epsilon_spec (rank_ex hk.1 (ent W side x) W.2.1))
theorem rankE_le {W : Wd} (hk : Wok W) (side x : Nat) : rankE W side x ≤ W.2.1 := (cnt_sol hk.1 (Classical.epsilon_spec (rank_ex hk.1 (ent W side x) W.2.1))).1
