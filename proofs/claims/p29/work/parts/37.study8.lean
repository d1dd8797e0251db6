/-! ===== Study: maps that are told ===== -/
theorem WAt.esx {h h2 : AH} {o o2 : Nat} {W2 : Wd} {f2 : Int32} (q : WAt h o2 W2 f2) (e : Es o h h2) (hn : ∃ g, h2 (o + 2) = some (aI 5 g)) (d : o = o2 ∨ o + 3 ≤ o2 ∨ o2 + 3 ≤ o) : WAt h2 o2 W2 f2 := by
  rcases d with rfl | d
  · exact q.kept (e _ (by omega)) (e _ (by omega)) hn
  · exact q.es e (by omega)
/-- what is told of maps, alone -/
def ImS (h : AH) (S : Nat) (x : Sx) : Prop := (∃ v0 v1 v2 v4 v5, h S = some (ob 6 [v0, v1, v2, .ref (S + 4), v4, v5])) ∧ (∃ g, h (S + 4) = some (aI 15 g) ∧ ∀ t, t < 15 → g t = x.im t) ∧ ∀ t, t < 15 → x.im t = -1 ∨ ∃ v, v < 243 ∧ x.im t = nI v
theorem StA.ims {h : AH} {S : Nat} {σ : Nat → Nat} {x : Sx} (q : StA h S σ x) : ImS h S x := ⟨⟨_, _, _, _, _, q.1.1⟩, q.1.2.2.2.2, q.2.2.1.2.2.1⟩
theorem ImS.far {h h2 : AH} {S : Nat} {x : Sx} (q : ImS h S x) (e1 : h2 S = h S) (e2 : h2 (S + 4) = h (S + 4)) : ImS h2 S x := by
  unfold ImS
  rw [e1, e2]
  exact q
def imn (x : Sx) (W : Wd) (m i : Nat) : Nat := if x.im (5 * m + i) = -1 then W.1 ^ i else (x.im (5 * m + i)).toNatClampNeg
def Fs (E o o2 : Nat) (h h' : AH) : Prop := ∀ a, (a < E ∨ E + 89 ≤ a) → a ≠ o + 2 → a ≠ o2 + 2 → h' a = h a
theorem Fs.rf (E o o2 : Nat) (h : AH) : Fs E o o2 h h := fun _ _ _ _ => rfl
theorem Fs.tr {E o o2 : Nat} {h h1 h2 : AH} (a : Fs E o o2 h h1) (b : Fs E o o2 h1 h2) : Fs E o o2 h h2 := fun q x y z => (b q x y z).trans (a q x y z)
theorem Es.fs {E o o2 : Nat} {h h1 : AH} (e : Es o h h1) : Fs E o o2 h h1 := fun a _ x _ => e a x
theorem Es.fs' {E o o2 : Nat} {h h1 : AH} (e : Es o2 h h1) : Fs E o o2 h h1 := fun a _ _ x => e a x
theorem Ee.fs {E o o2 : Nat} {h h1 : AH} (e : Ee E h h1) : Fs E o o2 h h1 := fun a x _ _ => e a (by omega)
theorem Fs.set {E o o2 a : Nat} {x : AE} {h h1 : AH} (e : Fs E o o2 h h1) (ha : E ≤ a ∧ a < E + 89) : Fs E o o2 h (hset h1 a x) := fun q p1 p2 p3 => by
  rw [hset_ne _ _ (by omega)]; exact e q p1 p2 p3
theorem nI_ne {a : Nat} (ha : a < 2 ^ 31) : nI a ≠ -1 := fun e => by
  have h1 := nI_toInt ha
  rw [e] at h1
  have h2 : (-1 : Int32).toInt = -1 := by decide
  rw [h2] at h1
  omega
section SI
variable {h : AH} {E o o2 S : Nat} {W W2 : Wd} {f f2 : Int32} {x : Sx}
theorem imn_lt (hk : Wok W) (q : ∀ t, t < 15 → x.im t = -1 ∨ ∃ v, v < 243 ∧ x.im t = nI v) {m i : Nat} (hm : m < 3) (hi : i < W.2.1) : imn x W m i < 243 := by
  obtain ⟨b1, b2, b3, b4, b5⟩ := hk.b
  have := pow_q hk hi
  unfold imn
  split
  · omega
  · rcases q (5 * m + i) (by omega) with e | ⟨v, hv, e⟩
    · contradiction
    · rw [e, nI_clamp (by omega)]; exact hv
theorem c_X6_imageAt2 (hS : ImS h S x) {k : Nat} (hk : k < 15) : CP yX6_imageAt MX6_imageAt [.ref S, .int (nI k)] h (x.im k) := by
  obtain ⟨⟨v0, v1, v2, v4, v5, a1⟩, ⟨g5, a5, a5'⟩, -⟩ := id hS
  refine CI.ofV (by decide) rfl rfl (by simp [Value.category]) (by exact Nat.le_of_ble_eq_true rfl) (fun sz => ?_)
  refine e_iload_n (pc := 0) dX6_imageAt_0 rfl rfl ?_
  refine n_if_lt (pc := 1) (tgt := 19) dX6_imageAt_1 (by omega) ?_ (by decide)
  refine e_iload_n (pc := 4) dX6_imageAt_4 rfl rfl ?_
  refine n_bipush (pc := 5) 15 dX6_imageAt_5 (by decide) ?_
  refine n_icmp_ge (pc := 7) (tgt := 19) dX6_imageAt_7 (by decide) (by omega) (by omega) (fun c => absurd c (by omega)) (fun hb_ => ?_)
  refine e_aload_n (pc := 10) dX6_imageAt_10 rfl rfl ?_
  refine e_get (pc := 11) fl_X6_24 dX6_imageAt_11 (by repeat (first | assumption | exact hset_eq _ _ _ | rw [hset_ne _ _ (by omega)])) (by rfl) ?_
  refine e_iload_n (pc := 14) dX6_imageAt_14 rfl rfl ?_
  refine e_ialdN (pc := 15) _ dX6_imageAt_15 (by repeat (first | assumption | exact hset_eq _ _ _ | rw [hset_ne _ _ (by omega)])) (by rfl) (by omega) (by first | decide | omega) ?_
  refine e_goto (pc := 16) (tgt := 20) dX6_imageAt_16 (by decide) ?_
  exact n_iret (pc := 20) dX6_imageAt_20 rfl ⟨a5' k hk, rfl⟩
def CBad (x : Sx) (W W2 : Wd) (i j : Nat) : Prop := lin W.1 W.2.1 (imn x W 2) (mul W (W.1 ^ i) (W.1 ^ j)) ≠ mul W2 (imn x W 0 i) (imn x W 1 j)
def FNC (x : Sx) (W W2 : Wd) (z : Int32) : Prop := (∃ i j, z = nI (5 * i + j) ∧ i < W.2.1 ∧ j < W.2.1 ∧ CBad x W W2 i j ∧ ∀ a b, a < W.2.1 → b < W.2.1 → (a < i ∨ a = i ∧ b < j) → ¬ CBad x W W2 a b) ∨ (z = -1 ∧ ∀ a b, a < W.2.1 → b < W.2.1 → ¬ CBad x W W2 a b)
def ImOk (x : Sx) (W : Wd) : Prop := ∀ m i, m < 3 → i < W.2.1 → imn x W m i < W.1 ^ W.2.1
/-- where the two worlds, the state and the study lie -/
def CS (h : AH) (E S o o2 : Nat) (W W2 : Wd) (f f2 : Int32) (x : Sx) : Prop := TSh h E ∧ WAt h o W f ∧ WAt h o2 W2 f2 ∧ ImS h S x
def CD (E S o o2 : Nat) : Prop := (o + 3 ≤ E ∨ E + 89 ≤ o) ∧ (o2 + 3 ≤ E ∨ E + 89 ≤ o2) ∧ (S + 5 ≤ E ∨ E + 89 ≤ S) ∧ (o = o2 ∨ o + 3 ≤ o2 ∨ o2 + 3 ≤ o) ∧ (o + 3 ≤ S ∨ S + 5 ≤ o) ∧ (o2 + 3 ≤ S ∨ S + 5 ≤ o2)
theorem CS.es {h2 : AH} (q : CS h E S o o2 W W2 f f2 x) (d : CD E S o o2) (hW : WAt h2 o W f) (e : Es o h h2) : CS h2 E S o o2 W W2 f f2 x := by
  obtain ⟨a1, a2, a3, a4⟩ := q
  obtain ⟨d1, d2, d3, d4, d5, d6⟩ := d
  exact ⟨a1.es e d1, hW, a3.esx e hW.2.2 d4, a4.far (e _ (by omega)) (e _ (by omega))⟩
theorem CS.es2 {h2 : AH} (q : CS h E S o o2 W W2 f f2 x) (d : CD E S o o2) (hW : WAt h2 o2 W2 f2) (e : Es o2 h h2) : CS h2 E S o o2 W W2 f f2 x := by
  obtain ⟨a1, a2, a3, a4⟩ := q
  obtain ⟨d1, d2, d3, d4, d5, d6⟩ := d
  exact ⟨a1.es e d2, a2.esx e hW.2.2 (by omega), hW, a4.far (e _ (by omega)) (e _ (by omega))⟩
theorem CS.ee {h2 : AH} (q : CS h E S o o2 W W2 f f2 x) (d : CD E S o o2) (s : ESh h2 E) (e : Ee E h h2) : CS h2 E S o o2 W W2 f f2 x := by
  obtain ⟨a1, a2, a3, a4⟩ := q
  obtain ⟨d1, d2, d3, d4, d5, d6⟩ := d
  exact ⟨a1.ee s e, a2.er e.er (by omega), a3.er e.er (by omega), a4.far (e _ (by omega)) (e _ (by omega))⟩
theorem CS.set {a : Nat} {c : AE} (q : CS h E S o o2 W W2 f f2 x) (d : CD E S o o2) (s : TSh (hset h a c) E) (ha : E ≤ a ∧ a < E + 89) : CS (hset h a c) E S o o2 W W2 f f2 x := by
  obtain ⟨a1, a2, a3, a4⟩ := q
  obtain ⟨d1, d2, d3, d4, d5, d6⟩ := d
  exact ⟨s, a2.hs (by omega), a3.hs (by omega), a4.far (hset_ne _ _ (by omega)) (hset_ne _ _ (by omega))⟩
section NC
variable {sz : Nat} {hh : AH}
end NC
end SI
