/-! ===== the class's face: questions of two worlds ===== -/
def alB (x : Sx) (a b : Int32) : Bool := okI a 6 && (okI b 6 && (decide ((wld x a).1 = (wld x b).1) && decide ((wld x a).2.1 = (wld x b).2.1)))
theorem UnitOf_uni {W : Wd} {z z2 : Int32} (h : UnitOf W z) (h2 : UnitOf W z2) : z = z2 := by
  rcases h with ⟨e, rfl, e0, e1, e2, e3⟩ | ⟨rfl, hn⟩
  · rcases h2 with ⟨g, rfl, g0, g1, g2, g3⟩ | ⟨rfl, hn⟩
    · have : e = g := by
        rcases Nat.lt_trichotomy e g with q | q | q
        · exact absurd e2 (g3 e e0 q)
        · exact q
        · exact absurd g2 (e3 g g0 q)
      rw [this]
    · exact absurd e2 (hn e e0 e1)
  · rcases h2 with ⟨g, rfl, g0, g1, g2, g3⟩ | ⟨rfl, -⟩
    · exact absurd g2 (hn g g0 g1)
    · rfl
section XH
variable {h : AH} {o : Nat} {x y : Sx} {ik : Bool} {len : Nat} {f : Nat → Nat} {ft fp : Int32} {σ : Nat → Nat}
def Q_parted (x : Sx) (u v z : Int32) : Prop := if alB x u v = true then Parts (wld x u) (wld x v) z else z = -2
def Q_carry (x : Sx) (u v z : Int32) : Prop := if alB x u v = true then Carry x (wld x u) (wld x v) z else z = -2
def Q_same (x : Sx) (u v z : Int32) : Prop := if (alB x u v && decide ((wld x u).1 ^ (wld x u).2.1 ≤ 27)) = true then z = nI (NMs (wld x u) (mul (wld x v)) 0) else z = -1
def Q_iso (x : Sx) (u v z : Int32) : Prop := if (alB x u v && (decide ((wld x u).1 ^ (wld x u).2.1 ≤ 16) && (bl (Div (wld x u)) && (bl (Div (wld x v)) && bl (UnitOf (wld x u) (nI 1)))))) = true then z = nI (isoN (wld x u) (wld x v)) else z = -1
end XH
