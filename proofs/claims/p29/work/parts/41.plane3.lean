/-! ===== Plane: diagonals ===== -/
def Tri (W : Wd) (a b c : Nat) : Prop := a ≠ b ∧ a ≠ c ∧ b ≠ c ∧ ¬ OnP W c (jnP W a b)
def Quad (W : Wd) (a b c d : Nat) : Prop := Tri W a b c ∧ Tri W a b d ∧ Tri W a c d ∧ Tri W b c d
def Fano (W : Wd) (a b c d z : Int32) : Prop := ((okI a (lastP W + 1) && okI b (lastP W + 1) && okI c (lastP W + 1) && okI d (lastP W + 1)) = false ∧ z = -1) ∨ ∃ a' b' c' d', a = nI a' ∧ b = nI b' ∧ c = nI c' ∧ d = nI d' ∧ a' ≤ lastP W ∧ b' ≤ lastP W ∧ c' ≤ lastP W ∧ d' ≤ lastP W ∧ ((¬ Quad W a' b' c' d' ∧ z = -1) ∨ (Quad W a' b' c' d' ∧ isB z (¬ Tri W (mtP W (jnP W a' b') (jnP W c' d')) (mtP W (jnP W a' c') (jnP W b' d')) (mtP W (jnP W a' d') (jnP W b' c')))))
section PC
variable {h : AH} {E o : Nat} {W : Wd} {f : Int32}
end PC
