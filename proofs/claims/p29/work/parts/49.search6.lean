/-! ===== Search: pairs, tables ===== -/
section FP
variable {h : AH} {B o : Nat} {W : Wd} {f : Int32} {b : Nat → Nat} {cnt : Nat} {fx : Int32}
/-- unchanged but for the pairs' rows and the sums of the world asked -/
def Fp (B o : Nat) (h h' : AH) : Prop := ∀ a, a ≠ B + 10 → a ≠ B + 11 → a ≠ o + 2 → h' a = h a
theorem Fp.rf (B o : Nat) (h : AH) : Fp B o h h := fun _ _ _ _ => rfl
theorem Fp.tr {B o : Nat} {h h1 h2 : AH} (a : Fp B o h h1) (b : Fp B o h1 h2) : Fp B o h h2 := fun q x y z => (b q x y z).trans (a q x y z)
theorem Fp.set {B o a : Nat} {x : AE} {h h1 : AH} (e : Fp B o h h1) (ha : a = B + 10 ∨ a = B + 11) : Fp B o h (hset h1 a x) := fun q p1 p2 p3 => by
  rw [hset_ne _ _ (by omega)]; exact e q p1 p2 p3
def PD (h1 : AH) (B : Nat) (W : Wd) (b cd : Nat → Nat) (x y : Nat) : Prop := ∃ g10 g11, h1 (B + 10) = some (aI 25 g10) ∧ h1 (B + 11) = some (aI 25 g11) ∧ ∀ i j, i < W.2.1 → j < W.2.1 → (i < x ∨ i = x ∧ j < y) → g10 (5 * i + j) = nI (cd (mul W (b i) (b j))) ∧ ∃ v, g11 (5 * i + j) = nI v ∧ i ≤ v ∧ j ≤ v ∧ v < W.2.1 ∧ cd (mul W (b i) (b j)) < W.1 ^ (v + 1)
section FP1
variable {sz : Nat} {hh : AH} {cd : Nat → Nat} {Pr : AH → Prop}
/-- what findPairs reads -/
def PRd (hh : AH) (B : Nat) (W : Wd) (b cd : Nat → Nat) : Prop := (∃ g, hh (B + 7) = some (aI 5 g) ∧ ∀ t, t < W.2.1 → g t = nI (b t)) ∧ (∃ g, hh (B + 6) = some (aI 27 g) ∧ ∀ x, x < W.1 ^ W.2.1 → g x = nI (cd x)) ∧ (∀ t, b t < W.1 ^ W.2.1) ∧ ∀ x, x < W.1 ^ W.2.1 → cd x < W.1 ^ W.2.1
end FP1
end FP
