/-! ===== digits unpacked; a map spread over all elements ===== -/
theorem e_alenI {M : MI} {Post : Option Value → AH → Nat → Prop} {al : Nat × Nat × Nat} {h : AH} {pc : Nat} {ls : List (Option Value)} {st : List Value} {a n : Nat} {f : Nat → Int32} (hd : decode (MI.cc M) pc = .ok (.arraylength, 1)) (hh : h a = some (aI n f)) (k : V M Post al h (pc + 1) ls (.int (nI n) :: st)) : V M Post al h pc ls (.ref a :: st) := e_alen (x := (0, n, .inl f)) hd hh (show 0 < 6 by decide) rfl k
theorem l_unpack {sz p x a L : Nat} {h : AH} {g0 : Nat → Int32} (hp : 2 ≤ p ∧ p ≤ 5) (hx : x < 3125) (hL : L ≤ 100) (h0 : h a = some (aI L g0)) {Pr : AH → Prop} (kk : ∀ g, (∀ t, t < L → g t = nI (dg p x t)) → Pr (hset h a (aI L g))) :
    ∀ (n t : Nat), n = L - t → t ≤ L → ∀ g, (∀ s, s < t → g s = nI (dg p x s)) → VV MX8_unpack sz Pr (hset h a (aI L g)) 11 [some (.int (nI p)), some (.int (nI x)), some (.ref a), some (.int (nI (x / p ^ t))), some (.int (nI t))] [] := by
  intro n
  induction n with
  | zero =>
    intro t e1 e2 g hg
    have e : t = L := by omega
    subst e
    refine e_iload (pc := 11) dX8_unpack_11 rfl ?_
    refine e_aload_n (pc := 13) dX8_unpack_13 rfl rfl ?_
    refine e_alenI (pc := 14) dX8_unpack_14 (by repeat (first | assumption | exact hset_eq _ _ _ | rw [hset_ne _ _ (by omega)])) ?_
    refine n_icmp_ge (pc := 15) (tgt := 35) dX8_unpack_15 (by decide) (by omega) (by omega) (fun hb_ => ?_) (fun c => absurd c (by omega))
    exact n_vret (pc := 35) dX8_unpack_35 rfl (kk g hg)
  | succ n ih =>
    intro t e1 e2 g hg
    have q5 := Nat.div_le_self x (p ^ t)
    refine e_iload (pc := 11) dX8_unpack_11 rfl ?_
    refine e_aload_n (pc := 13) dX8_unpack_13 rfl rfl ?_
    refine e_alenI (pc := 14) dX8_unpack_14 (by repeat (first | assumption | exact hset_eq _ _ _ | rw [hset_ne _ _ (by omega)])) ?_
    refine n_icmp_ge (pc := 15) (tgt := 35) dX8_unpack_15 (by decide) (by omega) (by omega) (fun c => absurd c (by omega)) (fun hb_ => ?_)
    refine e_aload_n (pc := 18) dX8_unpack_18 rfl rfl ?_
    refine e_iload (pc := 19) dX8_unpack_19 rfl ?_
    refine e_iload_n (pc := 21) dX8_unpack_21 rfl rfl ?_
    refine e_iload_n (pc := 22) dX8_unpack_22 rfl rfl ?_
    refine n_irem (pc := 23) dX8_unpack_23 (by omega) (by omega) (by omega) ?_
    refine e_iastN (pc := 24) _ dX8_unpack_24 (by repeat (first | assumption | exact hset_eq _ _ _ | rw [hset_ne _ _ (by omega)])) (by rfl) (by omega) (by first | decide | omega) ?_
    refine e_iload_n (pc := 25) dX8_unpack_25 rfl rfl ?_
    refine e_iload_n (pc := 26) dX8_unpack_26 rfl rfl ?_
    refine n_idiv (pc := 27) dX8_unpack_27 (by omega) (by omega) (by omega) ?_
    refine e_istore_n (pc := 28) dX8_unpack_28 rfl (by decide) ?_
    refine n_inc (pc := 29) dX8_unpack_29 rfl (by decide) ?_
    refine e_goto (pc := 32) (tgt := 11) dX8_unpack_32 (by decide) ?_
    rw [hset_hset, dg_div]
    refine ih (t + 1) (by omega) (by omega) _ (fun s hs => ?_)
    by_cases e : s = t
    · subst e; rw [pk_us]; rfl
    · rw [pk_un e]; exact hg s (by omega)
theorem c_X8_unpack {p x a L : Nat} {h : AH} {g0 : Nat → Int32} (hp : 2 ≤ p ∧ p ≤ 5) (hx : x < 3125) (hL : L ≤ 100) (h0 : h a = some (aI L g0)) : CV yX8_unpack MX8_unpack [.int (nI p), .int (nI x), .ref a] h (fun h' => ∃ g, h' = hset h a (aI L g) ∧ ∀ t, t < L → g t = nI (dg p x t)) := by
  refine CV.ofV (by decide) rfl rfl (by simp [Value.category]) (by exact Nat.le_of_ble_eq_true rfl) (fun sz => ?_)
  refine e_iload_n (pc := 0) dX8_unpack_0 rfl rfl ?_
  refine n_iconst (pc := 1) 2 dX8_unpack_1 (by decide) ?_
  refine n_icmp_ge (pc := 2) (tgt := 6) dX8_unpack_2 (by decide) (by omega) (by omega) (fun hb_ => ?_) (fun c => absurd c (by omega))
  refine e_iload_n (pc := 6) dX8_unpack_6 rfl rfl ?_
  refine e_istore_n (pc := 7) dX8_unpack_7 rfl (by decide) ?_
  refine n_iconst (pc := 8) 0 dX8_unpack_8 (by decide) ?_
  refine e_istore (pc := 9) dX8_unpack_9 (by decide) ?_
  refine e_heap (hset_self h0).symm ?_
  have q := l_unpack (sz := sz) hp hx hL h0 (Pr := fun h' => ∃ g, h' = hset h a (aI L g) ∧ ∀ t, t < L → g t = nI (dg p x t)) (fun g hg => ⟨g, rfl, hg⟩) L 0 rfl (by omega) g0 (fun s hs => absurd hs (Nat.not_lt_zero s))
  rw [Nat.pow_zero, Nat.div_one] at q
  exact q
/-- the image of x by the map that sends base element i to bs i -/
def lin (p n : Nat) (bs : Nat → Nat) (x : Nat) : Nat := num p 5 (fun k => sg n (fun i => dg p x i * dg p (bs i) k) % p)
theorem lin_lt {p n m x : Nat} {bs : Nat → Nat} (hp : 0 < p) (hm : m ≤ 5) (hb : ∀ i, i < n → bs i < p ^ m) : lin p n bs x < p ^ m := by
  unfold lin
  rw [num_to hm (fun k hk => by rw [sg_zero (fun i hi => by rw [dg_big hp (hb i hi) hk, Nat.mul_zero]), Nat.zero_mod])]
  exact num_lt (fun _ _ => Nat.mod_lt _ hp)
theorem lin_0 (p n : Nat) (bs : Nat → Nat) : lin p n bs 0 = 0 := by
  unfold lin
  rw [num_congr (g := fun _ => 0) (fun k _ => by
    rw [sg_zero (fun i _ => by unfold dg; rw [Nat.zero_div, Nat.zero_mod, Nat.zero_mul]), Nat.zero_mod])]
  simp [num]
theorem lin_dg {p n x k : Nat} {bs : Nat → Nat} (hp : 0 < p) (hk : k < 5) : dg p (lin p n bs x) k = sg n (fun i => dg p x i * dg p (bs i) k) % p := dg_num hp hk (fun _ _ => Nat.mod_lt _ hp)
theorem dg_up {p i y : Nat} (hp : 0 < p) (hy : y / p ^ i + 1 < p) : ∀ j, dg p (y + p ^ i) j = dg p y j + if j = i then 1 else 0 := by
  intro j
  have hpi := Nat.pow_pos (n := i) hp
  have hdiv : (y + p ^ i) / p ^ i = y / p ^ i + 1 := Nat.add_div_right y hpi
  by_cases e : j = i
  · subst e
    unfold dg
    rw [if_pos rfl, hdiv, Nat.mod_eq_of_lt hy, Nat.mod_eq_of_lt (by omega)]
  · rw [if_neg e, Nat.add_zero]
    unfold dg
    by_cases e2 : j < i
    · obtain ⟨d, rfl⟩ : ∃ d, i = j + 1 + d := ⟨i - (j + 1), by omega⟩
      rw [show p ^ (j + 1 + d) = (p ^ d * p) * p ^ j by rw [Nat.pow_add, Nat.pow_succ]; ac_rfl]
      rw [Nat.add_mul_div_right _ _ (Nat.pow_pos hp), Nat.add_mul_mod_self_right]
    · obtain ⟨d, rfl⟩ : ∃ d, j = i + 1 + d := ⟨j - (i + 1), by omega⟩
      have hs : p ^ (i + 1 + d) = p ^ i * (p * p ^ d) := by rw [Nat.pow_add, Nat.pow_succ, Nat.mul_assoc]
      rw [hs, ← Nat.div_div_eq_div_mul, ← Nat.div_div_eq_div_mul, hdiv, ← Nat.div_div_eq_div_mul, ← Nat.div_div_eq_div_mul, Nat.div_eq_of_lt hy, Nat.div_eq_of_lt (show y / p ^ i < p by omega)]
theorem lin_up {p n i y : Nat} {bs : Nat → Nat} (hp : 0 < p) (hi : i < n) (hy : y / p ^ i + 1 < p) : lin p n bs (y + p ^ i) = ad p (lin p n bs y) (bs i) := by
  unfold ad
  rw [lin]
  refine num_congr (fun k hk => ?_)
  rw [lin_dg hp hk]
  have e : sg n (fun j => dg p (y + p ^ i) j * dg p (bs j) k) = sg n (fun j => dg p y j * dg p (bs j) k) + dg p (bs i) k := by
    rw [sg_congr (g := fun j => dg p y j * dg p (bs j) k + (if j = i then dg p (bs i) k else 0)) (fun j _ => by
      rw [dg_up hp hy j, Nat.add_mul]
      by_cases e : j = i
      · subst e; simp
      · simp [e]), sg_add]
    congr 1
    clear hy
    induction n with
    | zero => exact absurd hi (Nat.not_lt_zero i)
    | succ n ih =>
      show sg n _ + (if n = i then dg p (bs i) k else 0) = _
      by_cases e : n = i
      · subst e
        rw [if_pos rfl, sg_zero (fun j hj => if_neg (by omega)), Nat.zero_add]
      · rw [if_neg e, Nat.add_zero]
        exact ih (by omega)
  rw [e, Nat.mod_add_mod]
section SP
variable {sz p n a b : Nat} {h : AH} {g0 : Nat → Int32} {bs : Nat → Nat}
end SP
