/-! ===== both sides at the first state ===== -/
def x0 : Sx := (fun _ => W0, fun _ => 0, fun _ => -1, 0, 0)
theorem W0_ok : Wok W0 := ⟨Or.inl rfl, by decide, by decide, by decide, fun k => ⟨by show 0 < 2; omega, fun _ => rfl⟩⟩
theorem x0_ok : SxOk x0 := ⟨fun _ _ => W0_ok, fun _ _ => by show 0 < 6; omega, fun _ _ => Or.inl rfl, by show 0 + 0 ≤ 20; omega⟩
theorem WAt_0 {h : AH} {a : Nat} (q : ∀ j, j < 3 → h (a + j) = some (KW a j)) : WAt h a W0 (-2) := ⟨(q 0 (by omega)).trans rfl, (q 1 (by omega)).trans rfl, _, q 2 (by omega)⟩
theorem StA_0 {h : AH} {S : Nat} (q : ∀ j, j < 83 → h (S + j) = some (KS S j)) : StA h S id x0 := by
  have q1 : ∀ j, j < 82 → h (S + (j + 1)) = some (KX6 S 6 20 15 j) := fun j hj => by
    rw [q (j + 1) (by omega)]
    unfold KS
    rw [if_neg (by omega), show j + 1 - 1 = j by omega]
  refine ⟨⟨(q 0 (by omega)).trans rfl, ⟨_, q1 0 (by omega), fun w hw => ?_⟩, ⟨_, q1 1 (by omega), fun a ha => ?_⟩, ⟨_, q1 2 (by omega), fun a _ => rfl⟩, ⟨_, q1 3 (by omega), fun t ht => ?_⟩⟩, ⟨fun k hk => hk, fun k l _ _ e => e⟩, x0_ok, fun k hk => ⟨-2, WAt_0 fun j hj => ?_, Or.inl rfl⟩⟩
  · show (if w < 6 then some (S + 5 + 3 * w) else none) = _
    rw [if_pos hw]
    rfl
  · show (if a < 20 then some (S + 23 + 3 * a) else none) = some (S + 5 + 3 * (6 + a))
    rw [if_pos ha]
    exact congrArg some (by omega)
  · show (if t < 15 then (-1 : Int32) else 0) = -1
    rw [if_pos ht]
  · show h (S + 5 + 3 * k + j) = some (KW (S + 5 + 3 * k) j)
    have := q1 (4 + 3 * k + j) (by omega)
    rw [KX6_w _ _ _ _ _ _ hj] at this
    rw [← this]
    exact congrArg h (by omega)
theorem RdS_0 {h : AH} {R : Nat} {f : Nat → Nat} (q : ∀ j, j < 14 → h (R + j) = some (KR R j)) : RdS h R 0 f 0 (-1) := by
  have w : ∀ k, k < 3 → ∀ j, j < 3 → h (R + 2 + 3 * k + j) = some (KW (R + 2 + 3 * k) j) := fun k hk j hj => by
    have := q (2 + 3 * k + j) (by omega)
    rw [show R + 2 + 3 * k + j = R + (2 + 3 * k + j) by omega, this]
    unfold KR KX4
    rw [if_neg (by omega), if_neg (by omega)]
    match k, hk with
    | 0, _ => rw [if_pos (by omega), show 2 + 3 * 0 + j - 1 - 1 = j by omega]
    | 1, _ => rw [if_neg (by omega), if_pos (by omega), show 2 + 3 * 1 + j - 1 - 4 = j by omega]
    | 2, _ => rw [if_neg (by omega), if_neg (by omega), if_pos (by omega), show 2 + 3 * 2 + j - 1 - 7 = j by omega]
  exact ⟨⟨0, 0, 0, 0, 0, 0, (q 0 (by omega)).trans rfl⟩, ⟨by omega, _, q 1 (by omega), fun t ht => absurd ht (by omega)⟩, W0, W0, WAt_0 (w 0 (by omega)), W0_ok, ⟨_, WAt_0 (w 1 (by omega))⟩, W0_ok, ⟨W0, _, WAt_0 (w 2 (by omega)), W0_ok⟩, ⟨_, q 11 (by omega)⟩, ⟨_, q 12 (by omega)⟩, _, q 13 (by omega)⟩
theorem PSh_0 {h : AH} {E : Nat} (q : ∀ j, j < 79 → h (E + j) = some (KE E j)) (g : ∀ j, 79 ≤ j → j < 90 → h (E + j) = some (KG E j)) : PSh h E := by
  have q1 : ∀ j, j < 78 → h (E + (j + 1)) = some (KX0 E j) := fun j hj => by
    rw [q (j + 1) (by omega)]
    unfold KE
    rw [if_neg (by omega), show j + 1 - 1 = j by omega]
  refine ⟨⟨⟨⟨⟨nI 2, nI 1, nI 0, (q 0 (by omega)).trans rfl⟩, (q1 0 (by omega)).trans rfl, fun i hi => ?_, ⟨_, (q1 76 (by omega)).trans rfl⟩, ⟨_, (q1 77 (by omega)).trans rfl⟩⟩, g 79 (by omega) (by omega), ⟨_, g 80 (by omega) (by omega)⟩, ⟨_, g 81 (by omega) (by omega)⟩, ⟨_, g 82 (by omega) (by omega)⟩⟩, g 83 (by omega) (by omega), ⟨_, g 84 (by omega) (by omega)⟩, ⟨_, g 85 (by omega) (by omega)⟩, ⟨_, g 86 (by omega) (by omega)⟩, ⟨_, g 87 (by omega) (by omega)⟩, ⟨_, g 88 (by omega) (by omega)⟩⟩, g 89 (by omega) (by omega)⟩
  refine ⟨fun _ => 0, ?_⟩
  have := q1 (1 + i) (by omega)
  rw [show E + 2 + i = E + (1 + i + 1) by omega, this]
  exact congrArg some (by unfold KX0; rw [if_neg (by omega), if_neg (by omega)])
theorem ShS_0 {h : AH} {B E : Nat} (e : B = E + 90) (g : ∀ j, 90 ≤ j → j < 104 → h (E + j) = some (KG E j)) : ShS h B := by
  subst e
  refine ⟨⟨2, 1, 2, 0, 0, (g 90 (by omega) (by omega)).trans rfl⟩, fun k h1 h2 => ?_⟩
  refine ⟨fun _ => 0, ?_⟩
  have := g (90 + k) (by omega) (by omega)
  rw [show E + 90 + k = E + (90 + k) by omega, this]
  obtain ⟨k', rfl⟩ : ∃ k', k = k' + 1 := ⟨k - 1, by omega⟩
  have hk : k' < 13 := by omega
  match k', hk with
  | 0, _ => rfl
  | 1, _ => rfl
  | 2, _ => rfl
  | 3, _ => rfl
  | 4, _ => rfl
  | 5, _ => rfl
  | 6, _ => rfl
  | 7, _ => rfl
  | 8, _ => rfl
  | 9, _ => rfl
  | 10, _ => rfl
  | 11, _ => rfl
  | 12, _ => rfl
theorem LSh_0 {h : AH} {E : Nat} (g : ∀ j, 104 ≤ j → j < 119 → h (E + j) = some (KG E j)) : LSh h (E + 104) E (fun _ => false) := by
  refine ⟨(g 104 (by omega) (by omega)).trans rfl, ⟨g 109 (by omega) (by omega), g 114 (by omega) (by omega)⟩, ⟨W0, -2, WAt_0 (fun j hj => ?_), W0_ok⟩, ⟨_, g 108 (by omega) (by omega), fun d _ => rfl⟩, fun d hd => ⟨⟨fun _ => 0, ?_, fun w _ => ?_⟩, fun _ => 0, ?_, fun t ht => absurd ht (by show ¬ t < Lc _ _ _ 0; exact Nat.not_lt_zero _)⟩⟩
  · have := g (105 + j) (by omega) (by omega)
    rw [show E + 104 + 1 + j = E + (105 + j) by omega, this]
    match j, hj with
    | 0, _ => rfl
    | 1, _ => rfl
    | 2, _ => rfl
  · have := g (115 + d) (by omega) (by omega)
    rw [show E + 104 + 11 + d = E + (115 + d) by omega, this]
    match d, hd with
    | 0, _ => rfl
    | 1, _ => rfl
    | 2, _ => rfl
    | 3, _ => rfl
  · show (0 : Int32) = nI (Lc _ _ _ 0)
    rfl
  · have := g (110 + d) (by omega) (by omega)
    rw [show E + 104 + 6 + d = E + (110 + d) by omega, this]
    match d, hd with
    | 0, _ => rfl
    | 1, _ => rfl
    | 2, _ => rfl
    | 3, _ => rfl
theorem XAt_0 {h : AH} {o : Nat} {f : Nat → Nat} : XAt (bk 9 h o (fs10 o) (KX10 o) 302) o x0 x0 false 0 f 0 (-1) := by
  have q : ∀ j, j < 302 → bk 9 h o (fs10 o) (KX10 o) 302 (o + 1 + j) = some (KX10 o j) := fun j hj => bk_at j hj
  have g : ∀ j, 79 ≤ j → j < 122 → bk 9 h o (fs10 o) (KX10 o) 302 (o + 181 + j) = some (KG (o + 181) j) := fun j h1 h2 => by
    have := q (180 + j) (by omega)
    rw [k10g _ _ (by omega), show 180 + j - 180 = j by omega] at this
    rw [← this]
    exact congrArg _ (by omega)
  refine ⟨bk_o.trans rfl, ⟨id, StA_0 fun j hj => ?_⟩, ⟨id, StA_0 fun j hj => ?_⟩, RdS_0 fun j hj => ?_, PSh_0 (fun j hj => ?_) (fun j h1 h2 => g j h1 (by omega)), ShS_0 rfl (fun j h1 h2 => g j (by omega) (by omega)), ⟨_, LSh_0 fun j h1 h2 => g j (by omega) (by omega)⟩, W0, -2, WAt_0 fun j hj => ?_, W0_ok⟩
  · rw [q j (by omega)]
    unfold KX10
    rw [if_pos hj]
  · rw [show o + 84 + j = o + 1 + (83 + j) by omega, q _ (by omega)]
    unfold KX10
    rw [if_neg (by omega), if_pos (by omega), show 83 + j - 83 = j by omega]
  · rw [show o + 167 + j = o + 1 + (166 + j) by omega, q _ (by omega)]
    unfold KX10
    rw [if_neg (by omega), if_neg (by omega), if_pos (by omega), show 166 + j - 166 = j by omega]
  · rw [show o + 181 + j = o + 1 + (180 + j) by omega, q _ (by omega)]
    unfold KX10
    rw [if_neg (by omega), if_neg (by omega), if_neg (by omega), if_pos (by omega), show 180 + j - 180 = j by omega]
  · rw [show o + 181 + 119 + j = o + 181 + (119 + j) by omega, g (119 + j) (by omega) (by omega)]
    unfold KG
    rw [if_neg (by omega), if_neg (by omega), if_neg (by omega), if_neg (by omega), if_neg (by omega), if_neg (by omega), if_neg (by omega), if_neg (by omega), if_neg (by omega), show 119 + j - 119 = j by omega]