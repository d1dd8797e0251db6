/-! ===== an object with its cells behind it: o, then N cells by the table T ===== -/
def bk (ci : Nat) (h : AH) (o : Nat) (fs : List Value) (T : Nat → AE) (N : Nat) : AH := fun q => if q = o then some (ob ci fs) else if o < q ∧ q ≤ o + N then some (T (q - (o + 1))) else h q
section BLK
variable {ci o N : Nat} {h : AH} {fs : List Value} {T : Nat → AE}
theorem bk_o : bk ci h o fs T N o = some (ob ci fs) := if_pos rfl
theorem bk_at (j : Nat) (hj : j < N) : bk ci h o fs T N (o + 1 + j) = some (T j) := by
  unfold bk
  rw [if_neg (by omega), if_pos (by omega), show o + 1 + j - (o + 1) = j by omega]
theorem bk_at' {q : Nat} (j : Nat) (hj : j < N) (hq : q = o + 1 + j) : bk ci h o fs T N q = some (T j) := by subst hq; exact bk_at j hj
theorem bk_out {q : Nat} (hq : q < o ∨ o + N < q) : bk ci h o fs T N q = h q := by
  unfold bk
  rw [if_neg (by omega), if_neg (by omega)]
theorem bk_0 (h0 : h o = some (ob ci fs)) : h = bk ci h o fs T 0 := by
  funext q
  unfold bk
  by_cases e : q = o
  · rw [if_pos e, e, h0]
  · rw [if_neg e, if_neg (by omega)]
theorem bk_put (fs2 : List Value) : hset (bk ci h o fs T N) o (ob ci fs2) = bk ci h o fs2 T N := by
  funext q
  unfold bk hset
  by_cases e : q = o <;> simp [e]
theorem bk_new {x : AE} (hx : T N = x) : hset (bk ci h o fs T N) (o + 1 + N) x = bk ci h o fs T (N + 1) := by
  funext q
  unfold bk hset
  by_cases e : q = o + 1 + N
  · subst e
    rw [if_pos rfl, if_neg (by omega), if_pos (by omega), show o + 1 + N - (o + 1) = N by omega, hx]
  · rw [if_neg e]
    dsimp only
    by_cases e2 : q = o
    · rw [if_pos e2, if_pos e2]
    · rw [if_neg e2, if_neg e2]
      by_cases g : o < q ∧ q ≤ o + N
      · rw [if_pos g, if_pos (by omega)]
      · rw [if_neg g, if_neg (by omega)]
theorem bk_grid {n k : Nat} (hx : T N = aG n (fun i => if i < n then some (o + 1 + N + 1 + i) else none)) (hr : ∀ j, j < n → T (N + 1 + j) = aI k (fun _ => 0)) : hgrid (bk ci h o fs T N) (o + 1 + N) n k = bk ci h o fs T (N + (1 + n)) := by
  funext q
  unfold bk hgrid
  by_cases e : q = o + 1 + N
  · subst e
    rw [if_pos rfl, if_neg (by omega), if_pos (by omega), show o + 1 + N - (o + 1) = N by omega, hx]
  · rw [if_neg e]
    by_cases g : o + 1 + N < q ∧ q ≤ o + 1 + N + n
    · rw [if_pos g, if_neg (by omega), if_pos (by omega)]
      have := hr (q - (o + 1) - (N + 1)) (by omega)
      rw [show N + 1 + (q - (o + 1) - (N + 1)) = q - (o + 1) by omega] at this
      rw [this]
    · rw [if_neg g]
      dsimp only
      by_cases e2 : q = o
      · rw [if_pos e2, if_pos e2]
      · rw [if_neg e2, if_neg e2]
        by_cases g2 : o < q ∧ q ≤ o + N
        · rw [if_pos g2, if_pos (by omega)]
        · rw [if_neg g2, if_neg (by omega)]
theorem bk_sub {ci2 N2 : Nat} {x : AE} {fs2 : List Value} {T2 : Nat → AE} (hx : T N = ob ci2 fs2) (hr : ∀ j, j < N2 → T (N + 1 + j) = T2 j) : bk ci2 (hset (bk ci h o fs T N) (o + 1 + N) x) (o + 1 + N) fs2 T2 N2 = bk ci h o fs T (N + (1 + N2)) := by
  funext q
  by_cases e : q = o + 1 + N
  · subst e
    rw [bk_o, bk_at N (by omega), hx]
  · by_cases g : o + 1 + N < q ∧ q ≤ o + 1 + N + N2
    · rw [bk_at' (q - (o + 1 + N + 1)) (by omega) (by omega), bk_at' (q - (o + 1)) (by omega) (by omega), ← hr _ (by omega), show N + 1 + (q - (o + 1 + N + 1)) = q - (o + 1) by omega]
    · rw [bk_out (by omega), hset_ne _ _ e]
      by_cases e2 : q = o
      · rw [e2, bk_o, bk_o]
      · by_cases g2 : o < q ∧ q ≤ o + N
        · rw [bk_at' (q - (o + 1)) (by omega) (by omega), bk_at' (q - (o + 1)) (by omega) (by omega)]
        · rw [bk_out (by omega), bk_out (by omega)]
theorem bk_set {T2 : Nat → AE} {x : AE} (j : Nat) (hj : j < N) (hx : T2 j = x) (hr : ∀ i, i < N → i ≠ j → T2 i = T i) : hset (bk ci h o fs T N) (o + 1 + j) x = bk ci h o fs T2 N := by
  funext q
  by_cases e : q = o + 1 + j
  · subst e
    rw [hset_eq, bk_at j hj, hx]
  · rw [hset_ne _ _ e]
    by_cases e2 : q = o
    · rw [e2, bk_o, bk_o]
    · by_cases g2 : o < q ∧ q ≤ o + N
      · rw [bk_at' (q - (o + 1)) (by omega) (by omega), bk_at' (q - (o + 1)) (by omega) (by omega), hr _ (by omega) (by omega)]
      · rw [bk_out (by omega), bk_out (by omega)]
theorem bk_T {T2 : Nat → AE} (hr : ∀ i, i < N → T2 i = T i) : bk ci h o fs T N = bk ci h o fs T2 N := by
  funext q
  by_cases e2 : q = o
  · rw [e2, bk_o, bk_o]
  · by_cases g2 : o < q ∧ q ≤ o + N
    · rw [bk_at' (q - (o + 1)) (by omega) (by omega), bk_at' (q - (o + 1)) (by omega) (by omega), hr _ (by omega)]
    · rw [bk_out (by omega), bk_out (by omega)]
end BLK
/-- a constructor's contract: from the bare object at o, o + 1 cells in all, to the object with its N cells -/
def CK (y : MethodName) (M : MI) (As : List Value) (ci : Nat) (fs0 fs : List Value) (T : Nat → AE) (N o : Nat) : Prop := ∀ (h : AH), h o = some (ob ci fs0) → Cn y M (.ref o :: As) (o + 1) h (fun r h' z => r = none ∧ z = o + 1 + N ∧ h' = bk ci h o fs T N)
theorem CK.ofV {y : MethodName} {M : MI} {As : List Value} {ci : Nat} {fs0 fs : List Value} {T : Nat → AE} {N o : Nat} (hy : plainName y.cls = true) (hown : MI.own M = y.cls) (hini : y.name = "<init>") (h1 : ∀ v ∈ (.ref o :: As : List Value), v.category = 1) (hn : As.length + 1 ≤ MI.nL M)
    (k : ∀ h : AH, V M (fun r h' z => r = none ∧ z = o + 1 + N ∧ h' = bk ci h o fs T N) (o + 1 + 0, 0, 0) (bk ci h o fs0 T 0) 0 (en_l0 (MI.nL M) (.ref o :: As)) []) : CK y M As ci fs0 fs T N o := by
  intro h h0
  refine Cn.ofV hy hown (fun _ => hini) h1 (by simpa using hn) ?_
  have := k h
  rwa [← bk_0 h0] at this
section EN11
variable {M : MI} {Post : Option Value → AH → Nat → Prop} {h : AH} {pc : Nat} {ls : List (Option Value)} {st : List Value} {ci o N c s N2 c2 s2 : Nat} {fs : List Value} {T : Nat → AE}
theorem b_put {idx kf : Nat} {v : Value} {ty : FieldType} (f : PL (MI.own M) idx ci kf ty false) (hd : decode (MI.cc M) pc = .ok (.putfield idx, 3)) (hn : narrow ty v = v) (hft : fits ty v = true) (hl0 : kf < fs.length) (k : V M Post (o + 1 + N, c, s) (bk ci h o (fs.set kf v) T N) (pc + 3) ls st) : V M Post (o + 1 + N, c, s) (bk ci h o fs T N) pc ls (v :: .ref o :: st) :=
  e_put f hd bk_o hn hft hl0 (by rw [bk_put]; exact k)
theorem b_putF {idx kf : Nat} {v : Value} {ty : FieldType} (f : PL (MI.own M) idx ci kf ty true) (hini : MI.ini M = true) (hd : decode (MI.cc M) pc = .ok (.putfield idx, 3)) (hn : narrow ty v = v) (hft : fits ty v = true) (hl0 : kf < fs.length) (k : V M Post (o + 1 + N, c, s) (bk ci h o (fs.set kf v) T N) (pc + 3) ls st) : V M Post (o + 1 + N, c, s) (bk ci h o fs T N) pc ls (v :: .ref o :: st) :=
  e_putF f hini hd bk_o hn hft hl0 (by rw [bk_put]; exact k)
theorem b_newI {K : Nat} {n : Int32} (hd : decode (MI.cc M) pc = .ok (.newarray .int, 2)) (hn : n = nI K) (hK : K < 100000) (hT : T N = aI K (fun _ => 0)) (e1 : N + 1 = N2) (e2 : c + 1 = c2) (e3 : s + K = s2) (hlim : c2 ≤ MI.mc M ∧ s2 ≤ MI.ms M) (k : V M Post (o + 1 + N2, c2, s2) (bk ci h o fs T N2) (pc + 2) ls (.ref (o + 1 + N) :: st)) : V M Post (o + 1 + N, c, s) (bk ci h o fs T N) pc ls (.int n :: st) := by
  subst e1; subst e2; subst e3
  exact e_newI hd hn hK hlim (by show V M Post (o + 1 + N + 1, _, _) (hset _ (o + 1 + N) _) _ _ _; rw [bk_new hT]; exact k)
theorem b_newZ {K : Nat} {n : Int32} (hd : decode (MI.cc M) pc = .ok (.newarray .boolean, 2)) (hn : n = nI K) (hK : K < 100000) (hT : T N = aZ K (fun _ => 0)) (e1 : N + 1 = N2) (e2 : c + 1 = c2) (e3 : s + K = s2) (hlim : c2 ≤ MI.mc M ∧ s2 ≤ MI.ms M) (k : V M Post (o + 1 + N2, c2, s2) (bk ci h o fs T N2) (pc + 2) ls (.ref (o + 1 + N) :: st)) : V M Post (o + 1 + N, c, s) (bk ci h o fs T N) pc ls (.int n :: st) := by
  subst e1; subst e2; subst e3
  exact e_newZ hd hn hK hlim (by show V M Post (o + 1 + N + 1, _, _) (hset _ (o + 1 + N) _) _ _ _; rw [bk_new hT]; exact k)
theorem b_newQ {K idx : Nat} {n : Int32} (hcl : (Cond.classLink (MI.own M) idx RX9) ∈ lw_good) (hd : decode (MI.cc M) pc = .ok (.anewarray idx, 3)) (hn : n = nI K) (hK : K < 100000) (hT : T N = aQ K (fun _ => none)) (e1 : N + 1 = N2) (e2 : c + 1 = c2) (e3 : s + K = s2) (hlim : c2 ≤ MI.mc M ∧ s2 ≤ MI.ms M) (k : V M Post (o + 1 + N2, c2, s2) (bk ci h o fs T N2) (pc + 3) ls (.ref (o + 1 + N) :: st)) : V M Post (o + 1 + N, c, s) (bk ci h o fs T N) pc ls (.int n :: st) := by
  subst e1; subst e2; subst e3
  exact e_newQ hcl hd hn hK hlim (by show V M Post (o + 1 + N + 1, _, _) (hset _ (o + 1 + N) _) _ _ _; rw [bk_new hT]; exact k)
theorem b_newG {K n idx : Nat} {x y : Int32} (hcl : (Cond.classLink (MI.own M) idx "[[I") ∈ lw_good) (hd : decode (MI.cc M) pc = .ok (.multianewarray idx 2, 4)) (hx : x = nI n) (hy : y = nI K) (hn : n < 1000) (hK : K < 1000) (hT : T N = aG n (fun i => if i < n then some (o + 1 + N + 1 + i) else none)) (hr : ∀ j, j < n → T (N + 1 + j) = aI K (fun _ => 0)) (e1 : N + (1 + n) = N2) (e2 : c + (1 + n) = c2) (e3 : s + (n + n * K) = s2) (hlim : c2 ≤ MI.mc M ∧ s2 ≤ MI.ms M)
    (k : V M Post (o + 1 + N2, c2, s2) (bk ci h o fs T N2) (pc + 4) ls (.ref (o + 1 + N) :: st)) : V M Post (o + 1 + N, c, s) (bk ci h o fs T N) pc ls (.int y :: .int x :: st) := by
  subst e1; subst e2; subst e3
  exact e_newG hcl hd hx hy hn hK hlim (by show V M Post (o + 1 + N + (1 + n), _, _) (hgrid _ (o + 1 + N) _ _) _ _ _; rw [bk_grid hT hr, show o + 1 + N + (1 + n) = o + 1 + (N + (1 + n)) by omega]; exact k)
end EN11
