/-! ===== Search: maps are counted ===== -/
theorem PM_cong {W : Wd} {T T2 : Nat → Nat → Nat} {b cd : Nat → Nat} {fx : Nat} (h : ∀ x y, x < W.1 ^ W.2.1 → y < W.1 ^ W.2.1 → T x y = T2 x y) : PM W T b cd fx = PM W T2 b cd fx := by
  funext c
  refine propext ⟨fun ⟨h1, h2, h3, h4⟩ => ⟨h1, h2, h3, fun i j hi hj => ?_⟩, fun ⟨h1, h2, h3, h4⟩ => ⟨h1, h2, h3, fun i j hi hj => ?_⟩⟩
  · rw [← h _ _ (h1 i hi) (h1 j hj)]; exact h4 i j hi hj
  · rw [h _ _ (h1 i hi) (h1 j hj)]; exact h4 i j hi hj
theorem NM_cong {W : Wd} {T T2 : Nat → Nat → Nat} {b cd : Nat → Nat} {fx : Nat} (h : ∀ x y, x < W.1 ^ W.2.1 → y < W.1 ^ W.2.1 → T x y = T2 x y) : NM W T b cd fx = NM W T2 b cd fx := by
  unfold NM
  rw [PM_cong h]
theorem Bil_mul2 {W W2 : Wd} (hk2 : Wok W2) (hp2 : W2.1 = W.1 ∧ W2.2.1 = W.2.1) : Bil W.1 W.2.1 (mul W2) := by
  have := Bil_mul hk2
  rw [hp2.1, hp2.2] at this
  exact this
theorem NM_same {W W2 : Wd} {b cd : Nat → Nat} (hk : Wok W) (hk2 : Wok W2) (hp2 : W2.1 = W.1 ∧ W2.2.1 = W.2.1) (hB : Bas W.1 W.2.1 b cd) : NM W (tT W2 id id) b cd 0 = NMs W (mul W2) 0 := NM_eq hk (Bil_mul2 hk2 hp2) hB (Bas_std hk)
/-- one term of the sum that counts isotopes -/
noncomputable def isoF (W W2 : Wd) (u v : Nat) : Nat := if 0 < u ∧ 0 < v then NMs W (tw W2 u v) (mul W2 u v) else 0
noncomputable def isoN (W W2 : Wd) : Nat := sg (W.1 ^ W.2.1) (fun u => sg (W.1 ^ W.2.1) (fun v => isoF W W2 u v))
theorem NM_iso {W W2 : Wd} {b cd bf af : Nat → Nat} {u v : Nat} (hk : Wok W) (hk2 : Wok W2) (hp2 : W2.1 = W.1 ∧ W2.2.1 = W.2.1) (hD : Div W2) (hB : Bas W.1 W.2.1 b cd) (hu0 : 0 < u) (hu : u < W.1 ^ W.2.1) (hv0 : 0 < v) (hv : v < W.1 ^ W.2.1) (hbf : ∀ x, x < W.1 ^ W.2.1 → bf x = qz W2 v false x) (haf : ∀ x, x < W.1 ^ W.2.1 → af x = qz W2 u true x) : NM W (tT W2 bf af) b cd (mul W2 u v) = isoF W W2 u v := by
  unfold isoF
  rw [if_pos ⟨hu0, hv0⟩]
  have hq : W2.1 ^ W2.2.1 = W.1 ^ W.2.1 := by rw [hp2.1, hp2.2]
  have e1 : NM W (tT W2 bf af) b cd (mul W2 u v) = NM W (tw W2 u v) b cd (mul W2 u v) := NM_cong (fun x y hx hy => by
    show mul W2 (bf x) (af y) = mul W2 (qz W2 v false x) (qz W2 u true y)
    rw [hbf x hx, haf y hy])
  have hT := Bil_tw hk2 hD (u := u) (v := v) hu0 (by omega) hv0 (by omega)
  rw [hp2.1, hp2.2] at hT
  rw [e1]
  exact NM_eq hk hT hB (Bas_std hk)
section CS
variable {h : AH} {B o o2 : Nat} {W W2 : Wd} {f f2 : Int32} {fx : Int32}
theorem ShS.of {h1 : AH} {cnt fx : Nat} (hR : SRo h B) (e : ∀ a, B < a → a < B + 14 → a ≠ B + 12 → a ≠ B + 13 → h1 a = h a) {l : Nat} {c : Nat → Nat} (hD : Dy h1 B W fx l c cnt) : ShS h1 B := by
  obtain ⟨d1, ⟨g12, d2, -⟩, g13, d3, -⟩ := hD
  refine ⟨⟨_, _, _, _, _, d1⟩, fun k k1 k2 => ?_⟩
  by_cases e1 : k = 12
  · subst e1; exact ⟨g12, d2⟩
  · by_cases e2 : k = 13
    · subst e2; exact ⟨g13, d3⟩
    · obtain ⟨g, hg⟩ := hR k k1 k2
      exact ⟨g, (e _ (by omega) (by omega) (by omega) (by omega)).trans hg⟩
/-- before and after so far -/
def IdU (h1 : AH) (B x : Nat) : Prop := (∃ g, h1 (B + 3) = some (aI 27 g) ∧ ∀ t, t < x → g t = nI t) ∧ ∃ g, h1 (B + 4) = some (aI 27 g) ∧ ∀ t, t < x → g t = nI t
def Ff (B : Nat) (h h' : AH) : Prop := ∀ a, a ≠ B → a ≠ B + 3 → a ≠ B + 4 → a ≠ B + 12 → a ≠ B + 13 → h' a = h a
theorem Ff.rf (B : Nat) (h : AH) : Ff B h h := fun _ _ _ _ _ _ => rfl
theorem Ff.tr {B : Nat} {h h1 h2 : AH} (a : Ff B h h1) (b : Ff B h1 h2) : Ff B h h2 := fun q x y z u v => (b q x y z u v).trans (a q x y z u v)
theorem Ff.set {B a : Nat} {x : AE} {h h1 : AH} (e : Ff B h h1) (ha : a = B ∨ a = B + 3 ∨ a = B + 4 ∨ a = B + 12 ∨ a = B + 13) : Ff B h (hset h1 a x) := fun q p1 p2 p3 p4 p5 => by
  rw [hset_ne _ _ (by omega)]; exact e q p1 p2 p3 p4 p5
theorem Sf.ff {B : Nat} {h h1 : AH} (e : Sf B h h1) : Ff B h h1 := fun q p1 _ _ p4 p5 => e q p1 p4 p5
/-- what stands between two counts -/
def IsoS (hh h1 : AH) (B : Nat) (W : Wd) (cnt : Nat) : Prop := SRo h1 B ∧ (∃ fx, SHd h1 B W.1 W.2.1 (W.1 ^ W.2.1) cnt (nI fx)) ∧ (∃ g, h1 (B + 13) = some (aI 27 g) ∧ g 0 = nI 0) ∧ Ff B hh h1
/-- what stands still: tables, basis -/
def IsoC (hh : AH) (B : Nat) (W W2 : Wd) (b cd : Nat → Nat) (lp rp : Nat → Int32) (lev : Nat → Nat → Nat) : Prop := (∃ g1 g2, hh (B + 1) = some (aI 729 g1) ∧ hh (B + 2) = some (aI 729 g2) ∧ ∀ a b, a < W.1 ^ W.2.1 → b < W.1 ^ W.2.1 → g1 (a * W.1 ^ W.2.1 + b) = nI (ad W.1 a b) ∧ g2 (a * W.1 ^ W.2.1 + b) = nI (mul W2 a b)) ∧ SMath W b cd lp rp lev ∧ SBas hh B W lp rp (fun i j => cd (mul W (b i) (b j))) lev
section CI2
variable {sz : Nat} {hh : AH} {Pr : Int32 → AH → Prop} {b cd : Nat → Nat} {lp rp : Nat → Int32} {lev : Nat → Nat → Nat}
end CI2
end CS
