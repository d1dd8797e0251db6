/-! ===== texts: tokens and statements ===== -/
def blkB (b : Nat) : Bool := decide (b = 32 ∨ b = 10)
def letB (b : Nat) : Bool := decide ((97 ≤ b ∧ b ≤ 122) ∨ (65 ≤ b ∧ b ≤ 90))
def digB (b : Nat) : Bool := decide (48 ≤ b ∧ b ≤ 57)
/-- how far bytes of a kind go -/
def runF (f : Nat → Nat) (P : Nat → Bool) : Nat → Nat → Nat
  | 0, i => i
  | m + 1, i => if P (f i) = true then runF f P m (i + 1) else i
def run (f : Nat → Nat) (len : Nat) (P : Nat → Bool) (i : Nat) : Nat := runF f P (len - i) i
section RU
variable {f : Nat → Nat} {len i : Nat} {P : Nat → Bool}
theorem run_end (h : len ≤ i) : run f len P i = i := by
  unfold run
  rw [show len - i = 0 by omega]
  rfl
theorem run_no (h : P (f i) = false) : run f len P i = i := by
  unfold run
  cases len - i with
  | zero => rfl
  | succ m =>
    show (if P (f i) = true then _ else i) = i
    rw [h]
    rfl
theorem run_go (hi : i < len) (h : P (f i) = true) : run f len P i = run f len P (i + 1) := by
  unfold run
  rw [show len - i = (len - (i + 1)) + 1 by omega]
  show (if P (f i) = true then _ else i) = _
  rw [if_pos h]
theorem run_ge : ∀ (m i : Nat), i ≤ runF f P m i ∧ runF f P m i ≤ i + m
  | 0, i => ⟨Nat.le_refl _, Nat.le_refl _⟩
  | m + 1, i => by
    show i ≤ (if P (f i) = true then runF f P m (i + 1) else i) ∧ (if P (f i) = true then runF f P m (i + 1) else i) ≤ _
    split
    · have := run_ge m (i + 1)
      omega
    · omega
theorem run_b (h : i ≤ len) : i ≤ run f len P i ∧ run f len P i ≤ len := by
  have := run_ge (f := f) (P := P) (len - i) i
  unfold run
  omega
theorem run_in : ∀ (m i t : Nat), i ≤ t → t < runF f P m i → P (f t) = true
  | 0, i, t, h1, h2 => absurd h2 (by show ¬ t < i; omega)
  | m + 1, i, t, h1, h2 => by
    have h2 : t < (if P (f i) = true then runF f P m (i + 1) else i) := h2
    split at h2
    · rename_i c
      by_cases e : t = i
      · subst e; exact c
      · exact run_in m (i + 1) t (by omega) h2
    · omega
theorem run_at (h : i ≤ len) (hl : run f len P i < len) : P (f (run f len P i)) = false := by
  suffices ∀ (m i : Nat), runF f P m i < i + m → P (f (runF f P m i)) = false from this (len - i) i (by unfold run at hl; omega)
  intro m
  induction m with
  | zero => intro i h; exact absurd h (by show ¬ i < i; omega)
  | succ m ih =>
    intro i h
    have h : (if P (f i) = true then runF f P m (i + 1) else i) < i + (m + 1) := h
    show P (f (if P (f i) = true then runF f P m (i + 1) else i)) = false
    split
    · rename_i c
      rw [if_pos c] at h
      exact ih (i + 1) (by omega)
    · rename_i c
      cases e : P (f i) with
      | false => rfl
      | true => exact absurd e c
end RU
/-- the token at a place: its start, the class's kind (0 end, 1 word, 2 number, 3 stop, 4 other), its end, its number -/
def tS (f : Nat → Nat) (len i : Nat) : Nat := run f len blkB i
def tC (f : Nat → Nat) (len i : Nat) : Nat := if len ≤ tS f len i then 0 else if letB (f (tS f len i)) = true then 1 else if digB (f (tS f len i)) = true then (if run f len digB (tS f len i) - tS f len i ≤ 4 then 2 else 4) else if f (tS f len i) = 59 then 3 else 4
def tE (f : Nat → Nat) (len i : Nat) : Nat := if len ≤ tS f len i then tS f len i else if letB (f (tS f len i)) = true then run f len letB (tS f len i) else if digB (f (tS f len i)) = true then run f len digB (tS f len i) else tS f len i + 1
def dv (f : Nat → Nat) (s : Nat) : Nat → Nat
  | 0 => 0
  | k + 1 => 10 * dv f s k + (f (s + k) - 48)
def tV (f : Nat → Nat) (len i : Nat) : Nat := dv f (tS f len i) (min 4 (run f len digB (tS f len i) - tS f len i))
theorem dv_lt {f : Nat → Nat} {s : Nat} : ∀ (k : Nat), (∀ t, t < k → f (s + t) ≤ 57) → dv f s k < 10 ^ k
  | 0, _ => Nat.one_pos
  | k + 1, h => by
    have h1 := dv_lt k (fun t ht => h t (by omega))
    have h2 := h k (by omega)
    show 10 * dv f s k + (f (s + k) - 48) < 10 ^ (k + 1)
    rw [Nat.pow_succ]
    omega
theorem tE_b {f : Nat → Nat} {len i : Nat} (h : i ≤ len) : i ≤ tS f len i ∧ tS f len i ≤ tE f len i ∧ tE f len i ≤ len ∧ tS f len i ≤ len := by
  have h1 := run_b (f := f) (P := blkB) h
  have h2 := run_b (f := f) (P := letB) (show tS f len i ≤ len from h1.2)
  have h3 := run_b (f := f) (P := digB) (show tS f len i ≤ len from h1.2)
  have h1 : i ≤ tS f len i ∧ tS f len i ≤ len := h1
  unfold tE
  split
  · omega
  · split
    · omega
    · split <;> omega
/-- a word of the five -/
def wn (i k : Nat) : Nat := ((lw_byt.getD i []).getD k 0).toNatClampNeg
theorem wn_ok (i : Nat) (hi : i < 5) : ∀ k, k < lw_len.getD i 0 → (lw_byt.getD i []).getD k 0 = nI (wn i k) ∧ wn i k < 256 := by
  match i, hi with
  | 0, _ => decide
  | 1, _ => decide
  | 2, _ => decide
  | 3, _ => decide
  | 4, _ => decide
def isW (f : Nat → Nat) (s e i : Nat) : Prop := e = s + lw_len.getD i 0 ∧ ∀ k, k < lw_len.getD i 0 → f (s + k) = wn i k
theorem isW_one {f : Nat → Nat} {s e i j : Nat} (hi : i < 5) (hj : j < 5) (h1 : isW f s e i) (h2 : isW f s e j) : i = j := by
  have h3 : wn i 0 = wn j 0 := by
    rw [← h1.2 0 (by match i, hi with | 0, _ => decide | 1, _ => decide | 2, _ => decide | 3, _ => decide | 4, _ => decide), ← h2.2 0 (by match j, hj with | 0, _ => decide | 1, _ => decide | 2, _ => decide | 3, _ => decide | 4, _ => decide)]
  have h4 : wn i 1 = wn j 1 := by
    rw [← h1.2 1 (by match i, hi with | 0, _ => decide | 1, _ => decide | 2, _ => decide | 3, _ => decide | 4, _ => decide), ← h2.2 1 (by match j, hj with | 0, _ => decide | 1, _ => decide | 2, _ => decide | 3, _ => decide | 4, _ => decide)]
  have key : ∀ i, i < 5 → ∀ j, j < 5 → wn i 0 = wn j 0 → wn i 1 = wn j 1 → i = j := by decide
  exact key i hi j hj h3 h4
/-- the token's code: 0 end, 1 bad, 2 number, 3 stop, 4 order, 5 field, 6 twist, 7 at, 8 turn -/
noncomputable def tK (f : Nat → Nat) (len i : Nat) : Nat := if tC f len i = 1 then (if bl (isW f (tS f len i) (tE f len i) 0) = true then 4 else if bl (isW f (tS f len i) (tE f len i) 2) = true then 5 else if bl (isW f (tS f len i) (tE f len i) 1) = true then 6 else if bl (isW f (tS f len i) (tE f len i) 3) = true then 7 else if bl (isW f (tS f len i) (tE f len i) 4) = true then 8 else 1) else if tC f len i = 4 then 1 else tC f len i
/-- the k-th token behind the one at i -/
def nt (f : Nat → Nat) (len i : Nat) : Nat → Nat
  | 0 => i
  | k + 1 => tE f len (nt f len i k)
theorem nt_b {f : Nat → Nat} {len i : Nat} (h : i ≤ len) : ∀ k, i ≤ nt f len i k ∧ nt f len i k ≤ len
  | 0 => ⟨Nat.le_refl _, h⟩
  | k + 1 => by
    have h1 := nt_b (f := f) h k
    have h2 := tE_b (f := f) h1.2
    show i ≤ tE f len (nt f len i k) ∧ tE f len (nt f len i k) ≤ len
    omega
theorem nt_nt (f : Nat → Nat) (len i a : Nat) : ∀ b, nt f len (nt f len i a) b = nt f len i (a + b)
  | 0 => rfl
  | b + 1 => congrArg (tE f len) (nt_nt f len i a b)
/-- the fault of a token that has to be a number below a bound -/
def tokF (f : Nat → Nat) (len j bd : Nat) : Option (Nat × Nat) := if tC f len j = 2 then (if tV f len j < bd then none else some (2, tS f len j)) else some (1, tS f len j)
def nF (f : Nat → Nat) (len i : Nat) (b : Nat → Nat) : Nat → Option (Nat × Nat)
  | 0 => none
  | m + 1 => if nF f len i b m = none then tokF f len (nt f len i (m + 1)) (b m) else nF f len i b m
def vl (f : Nat → Nat) (len i k : Nat) : Nat := tV f len (nt f len i (k + 1))
noncomputable def ordF (f : Nat → Nat) (len i : Nat) : Option (Nat × Nat) := if tC f len (nt f len i 1) = 2 then (if vl f len i 0 = 2 ∨ vl f len i 0 = 3 ∨ vl f len i 0 = 5 then (if tC f len (nt f len i 2) = 2 then (if bl (canBe (vl f len i 0) (vl f len i 1)) = true then none else some (2, tS f len (nt f len i 2))) else some (1, tS f len (nt f len i 2))) else some (2, tS f len (nt f len i 1))) else some (1, tS f len (nt f len i 1))
/-- how many numbers a statement has, their bounds -/
def scn (W : Wd) (k : Nat) : Nat := if k = 4 then 2 else if k = 5 then W.2.1 else if k = 6 then 3 else if k = 7 then 2 + W.2.1 else 1
def sbd (W : Wd) (k t : Nat) : Nat := if k = 5 then W.1 else if k = 6 then (if t = 0 then W.1 ^ W.2.1 else 5) else if k = 7 then (if t < 2 then W.2.1 else W.1) else 6
noncomputable def sF (f : Nat → Nat) (len i : Nat) (W : Wd) (k : Nat) : Option (Nat × Nat) := if k = 4 then ordF f len i else nF f len i (sbd W k) (scn W k)
/-- powers of the unknown, led back -/
def stp (p n : Nat) (cs : Nat → Nat) (x : Nat) : Nat := num p n (fun k => ((if k = 0 then 0 else dg p x (k - 1)) + dg p x (n - 1) * cs k) % p)
def pwr (p n : Nat) (cs : Nat → Nat) : Nat → Nat
  | 0 => 1
  | m + 1 => stp p n cs (pwr p n cs m)
def polyW (p n : Nat) (cs : Nat → Nat) : Wd := (p, n, fun t => if inC n t then dg p (pwr p n cs (t / 25 + t / 5 % 5)) (t % 5) else 0)
/-- products one after the other, from the left -/
def lpw (F : Wd) (x : Nat) : Nat → Nat
  | 0 => x
  | k + 1 => mul F (lpw F x k) x
/-- x to the p to the a -/
def rse (F : Wd) (x a : Nat) : Nat := lpw F x (F.1 ^ a - 1)
def twc (F : Wd) (c a b i j : Nat) : Nat := sb F.1 (mul F (F.1 ^ i) (F.1 ^ j)) (mul F (mul F c (rse F (F.1 ^ i) a)) (rse F (F.1 ^ j) b))
def twistW (F : Wd) (c a b : Nat) : Wd := (F.1, F.2.1, fun t => if inC F.2.1 t then dg F.1 (twc F c a b (t / 25) (t / 5 % 5)) (t % 5) else 0)
def atW (W : Wd) (a b m : Nat) (v : Nat → Nat) : Wd := (W.1, W.2.1, fun t => if 25 * a + 5 * b ≤ t ∧ t < 25 * a + 5 * b + m then v (t - (25 * a + 5 * b)) else W.2.2 t)
/-- what a statement makes of a world -/
def sW (W F : Wd) (k : Nat) (v : Nat → Nat) : Wd := if k = 4 then (v 0, v 1, fun _ => 0) else if k = 5 then polyW W.1 W.2.1 v else if k = 6 then twistW F (v 0) (v 1) (v 2) else if k = 7 then atW W (v 0) (v 1) W.2.1 (fun t => v (2 + t)) else wturn W (v 0)
/-- a text from a statement on: so many were read -/
noncomputable def prs (f : Nat → Nat) (len : Nat) : Nat → Nat → Wd → Wd → Bool → Nat → (Nat × Nat) ⊕ Wd
  | 0, _, W, _, _, _ => .inr W
  | m + 1, s, W, F, hf, i =>
    if tK f len i = 0 then .inr W
    else if tK f len i < 4 ∨ ¬ (tK f len i = 4 ↔ s = 0) ∨ (tK f len i = 6 ∧ hf = false) then .inl (1, tS f len i)
    else if 40 ≤ s then .inl (3, tS f len i)
    else match sF f len i W (tK f len i) with
      | some x => .inl x
      | none => if tC f len (nt f len i (scn W (tK f len i) + 1)) = 3 then prs f len m (s + 1) (sW W F (tK f len i) (vl f len i)) (if tK f len i = 5 then polyW W.1 W.2.1 (vl f len i) else F) (if tK f len i = 5 then true else hf) (nt f len i (scn W (tK f len i) + 2)) else .inl (1, tS f len (nt f len i (scn W (tK f len i) + 1)))
/-- what a text tells: a fault and its place, or a world -/
noncomputable def txt (f : Nat → Nat) (len : Nat) : (Nat × Nat) ⊕ Wd := prs f len 42 0 (2, 1, fun _ => 0) (2, 1, fun _ => 0) false 0
