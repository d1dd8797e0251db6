/-! ===== Study: what fails, units, quotients ===== -/
def Es (o : Nat) (h h' : AH) : Prop := ∀ a, a ≠ o + 2 → h' a = h a
theorem Es.rf (o : Nat) (h : AH) : Es o h h := fun _ _ => rfl
theorem Es.tr {o : Nat} {h h1 h2 : AH} (a : Es o h h1) (b : Es o h1 h2) : Es o h h2 := fun q x => (b q x).trans (a q x)
theorem Es.ew {o : Nat} {h h1 : AH} (e : Es o h h1) : Ew o h h1 := fun a _ _ x => e a x
theorem FSh.es {h h2 : AH} {E o : Nat} (q : FSh h E) (e : Es o h h2) (d : o + 3 ≤ E ∨ E + 83 ≤ o) : FSh h2 E := q.far (fun a x y => e a (by omega))
section ST0
variable {h : AH} {o : Nat} {W : Wd} {f : Int32}
theorem c_X9_times2 (hW : WAt h o W f) (hk : Wok W) {x y : Nat} (hx : x < 3125) (hy : y < 3125) : CI yX9_times MX9_times [.ref o, .int (nI x), .int (nI y)] h (fun r h' => r = nI (mul W x y) ∧ WAt h' o W f ∧ Es o h h') :=
  (c_X9_times hW hk hx hy).mono (fun r h' ⟨a, g, b⟩ => by
    subst b
    exact ⟨a, hW.sums g, fun q hq => hset_ne _ _ hq⟩)
end ST0
/-- the tools: Echelon, Forms, Study, one behind another -/
def TSh (h : AH) (E : Nat) : Prop := FSh h E ∧ h (E + 83) = some (ob 7 [.ref E, .ref (E + 79), .ref (E + 84), .ref (E + 85), .ref (E + 86), .ref (E + 87), .ref (E + 88)]) ∧ (∃ f, h (E + 84) = some (aI 5 f)) ∧ (∃ f, h (E + 85) = some (aI 5 f)) ∧ (∃ f, h (E + 86) = some (aI 125 f)) ∧ (∃ f, h (E + 87) = some (aI 243 f)) ∧ ∃ f, h (E + 88) = some (aZ 243 f)
theorem TSh.far {h h2 : AH} {E : Nat} (q : TSh h E) (e : ∀ a, E ≤ a → a < E + 89 → h2 a = h a) : TSh h2 E := by
  obtain ⟨a1, a2, ⟨f3, a3⟩, ⟨f4, a4⟩, ⟨f5, a5⟩, ⟨f6, a6⟩, ⟨f7, a7⟩⟩ := q
  exact ⟨a1.far (fun a x y => e a x (by omega)), by rw [e _ (by omega) (by omega)]; exact a2, ⟨f3, by rw [e _ (by omega) (by omega)]; exact a3⟩, ⟨f4, by rw [e _ (by omega) (by omega)]; exact a4⟩, ⟨f5, by rw [e _ (by omega) (by omega)]; exact a5⟩, ⟨f6, by rw [e _ (by omega) (by omega)]; exact a6⟩, ⟨f7, by rw [e _ (by omega) (by omega)]; exact a7⟩⟩
theorem TSh.er {h h2 : AH} {E : Nat} (q : TSh h E) (s : FSh h2 E) (e : Er E (E + 83) h h2) : TSh h2 E := by
  obtain ⟨a1, a2, ⟨f3, a3⟩, ⟨f4, a4⟩, ⟨f5, a5⟩, ⟨f6, a6⟩, ⟨f7, a7⟩⟩ := q
  exact ⟨s, by rw [e _ (by omega)]; exact a2, ⟨f3, by rw [e _ (by omega)]; exact a3⟩, ⟨f4, by rw [e _ (by omega)]; exact a4⟩, ⟨f5, by rw [e _ (by omega)]; exact a5⟩, ⟨f6, by rw [e _ (by omega)]; exact a6⟩, ⟨f7, by rw [e _ (by omega)]; exact a7⟩⟩
theorem TSh.es {h h2 : AH} {E o : Nat} (q : TSh h E) (e : Es o h h2) (d : o + 3 ≤ E ∨ E + 89 ≤ o) : TSh h2 E := q.far (fun a x y => e a (by omega))
theorem TSh.ew {h h2 : AH} {E o : Nat} (q : TSh h E) (e : Ew o h h2) (d : o + 3 ≤ E ∨ E + 89 ≤ o) : TSh h2 E := q.far (fun a x y => e a (by omega) (by omega) (by omega))
/-- nothing changed but the tools and a world's three cells -/
def Fr (E o : Nat) (h h' : AH) : Prop := ∀ a, (a < E ∨ E + 89 ≤ a) → a ≠ o → a ≠ o + 1 → a ≠ o + 2 → h' a = h a
theorem Fr.rf (E o : Nat) (h : AH) : Fr E o h h := fun _ _ _ _ _ => rfl
theorem Fr.tr {E o : Nat} {h h1 h2 : AH} (a : Fr E o h h1) (b : Fr E o h1 h2) : Fr E o h h2 := fun q x y z w => (b q x y z w).trans (a q x y z w)
theorem Es.fr {E o : Nat} {h h1 : AH} (e : Es o h h1) : Fr E o h h1 := fun a _ _ _ x => e a x
theorem Ew.fr {E o : Nat} {h h1 : AH} (e : Ew o h h1) : Fr E o h h1 := fun a _ x y z => e a x y z
theorem Er.fr {E o lo hi : Nat} {h h1 : AH} (e : Er lo hi h h1) (a1 : E ≤ lo) (a2 : hi ≤ E + 89) : Fr E o h h1 := fun a x _ _ _ => e a (by omega)
theorem Fr.set {E o a : Nat} {x : AE} {h h1 : AH} (e : Fr E o h h1) (ha : E ≤ a ∧ a < E + 89) : Fr E o h (hset h1 a x) := fun q p1 p2 p3 p4 => by
  rw [hset_ne _ _ (by omega)]
  exact e q p1 p2 p3 p4
theorem WAt.fr {h h2 : AH} {E o o2 : Nat} {W : Wd} {f : Int32} (hW : WAt h o2 W f) (e : Fr E o h h2) (d : o2 + 3 ≤ E ∨ E + 89 ≤ o2) (d2 : o2 + 3 ≤ o ∨ o + 3 ≤ o2) : WAt h2 o2 W f := by
  refine hW.kept (e _ (by omega) (by omega) (by omega) (by omega)) (e _ (by omega) (by omega) (by omega) (by omega)) ?_
  obtain ⟨g, hg⟩ := hW.2.2
  exact ⟨g, by rw [e _ (by omega) (by omega) (by omega) (by omega)]; exact hg⟩
/-- the first couple that fails, as a number; none -/
def Fail (W : Wd) (z : Int32) : Prop := (∃ x y, z = nI (W.1 ^ W.2.1 * x + y) ∧ 0 < x ∧ x < W.1 ^ W.2.1 ∧ 0 < y ∧ y < W.1 ^ W.2.1 ∧ mul W x y = 0 ∧ (∀ a b, 0 < a → a < x → 0 < b → b < W.1 ^ W.2.1 → mul W a b ≠ 0) ∧ ∀ b, 0 < b → b < y → mul W x b ≠ 0) ∨ (z = -1 ∧ ∀ a b, 0 < a → a < W.1 ^ W.2.1 → 0 < b → b < W.1 ^ W.2.1 → mul W a b ≠ 0)
def Div (W : Wd) : Prop := ∀ a b, 0 < a → a < W.1 ^ W.2.1 → 0 < b → b < W.1 ^ W.2.1 → mul W a b ≠ 0
def fOk (W : Wd) (f : Int32) : Prop := f = -2 ∨ Fail W f
theorem Fail.ne {W : Wd} {z : Int32} (hk : Wok W) (h : Fail W z) : z ≠ -2 := by
  obtain ⟨b1, b2, b3, b4, b5⟩ := hk.b
  rcases h with ⟨x, y, rfl, x0, x1, y0, y1, -⟩ | ⟨rfl, -⟩
  · intro e
    have h1 : W.1 ^ W.2.1 * x ≤ 243 * 243 := Nat.mul_le_mul b5 (by omega)
    have h2 := nI_toInt (n := W.1 ^ W.2.1 * x + y) (by omega)
    rw [e] at h2
    have h3 : ((-2 : Int32)).toInt = -2 := by decide
    omega
  · decide
theorem Fail.div {W : Wd} {z : Int32} (hk : Wok W) (h : Fail W z) : z = -1 ↔ Div W := by
  obtain ⟨b1, b2, b3, b4, b5⟩ := hk.b
  rcases h with ⟨x, y, rfl, x0, x1, y0, y1, m, -⟩ | ⟨rfl, d⟩
  · constructor
    · intro e
      exfalso
      have h1 : W.1 ^ W.2.1 * x ≤ 243 * 243 := Nat.mul_le_mul b5 (by omega)
      have h2 := nI_toInt (n := W.1 ^ W.2.1 * x + y) (by omega)
      rw [e] at h2
      have h3 : ((-1 : Int32)).toInt = -1 := by decide
      omega
    · intro d
      exact absurd m (d x y x0 x1 y0 y1)
  · exact ⟨fun _ => d, fun _ => rfl⟩
section ST
variable {h : AH} {E o : Nat} {W : Wd} {f : Int32}
theorem l_ltn {sz x T : Nat} {hh : AH} (hk : Wok W) (hx : x < W.1 ^ W.2.1) :
    ∀ (n y : Nat), n = W.1 ^ W.2.1 - y → 1 ≤ y → y ≤ W.1 ^ W.2.1 → ∀ h1, WAt h1 o W f → Es o hh h1 → (∀ b, 0 < b → b < y → mul W x b ≠ 0) → VI MX7_leastToNought sz (fun z h' => ((∃ y, z = nI y ∧ 0 < y ∧ y < W.1 ^ W.2.1 ∧ mul W x y = 0 ∧ ∀ b, 0 < b → b < y → mul W x b ≠ 0) ∨ (z = 0 ∧ ∀ b, 0 < b → b < W.1 ^ W.2.1 → mul W x b ≠ 0)) ∧ WAt h' o W f ∧ Es o hh h') h1 2 [some (.ref T), some (.ref o), some (.int (nI x)), some (.int (nI y))] [] := by
  obtain ⟨b1, b2, b3, b4, b5⟩ := hk.b
  intro n
  induction n with
  | zero =>
    intro y e1 e2 e3 h1 hW he hr
    have e : y = W.1 ^ W.2.1 := by omega
    subst e
    obtain ⟨w0, -, -⟩ := id hW
    refine e_iload_n (pc := 2) dX7_leastToNought_2 rfl rfl ?_
    refine e_aload_n (pc := 3) dX7_leastToNought_3 rfl rfl ?_
    refine n_VP (pc := 4) (c_X9_order hW) bX9_order q_i_X9_order q_s_X9_order q_m_X7_52 dX7_leastToNought_4 rfl rfl (by repeat (first | assumption | exact hset_eq _ _ _ | rw [hset_ne _ _ (by omega)])) rfl rfl (by exact Nat.le_of_ble_eq_true rfl) ⟨by decide, by decide⟩ ⟨rfl, rfl, Nat.zero_le _, Nat.zero_le _⟩ ?_
    refine n_icmp_ge (pc := 7) (tgt := 27) dX7_leastToNought_7 (by decide) (by omega) (by omega) (fun hb_ => ?_) (fun c => absurd c (by omega))
    refine n_iconst (pc := 27) 0 dX7_leastToNought_27 (by decide) ?_
    exact n_iret (pc := 28) dX7_leastToNought_28 rfl ⟨Or.inr ⟨rfl, hr⟩, hW, he⟩
  | succ n ih =>
    intro y e1 e2 e3 h1 hW he hr
    obtain ⟨w0, -, -⟩ := id hW
    have m1 := mul_lt hk x y
    refine e_iload_n (pc := 2) dX7_leastToNought_2 rfl rfl ?_
    refine e_aload_n (pc := 3) dX7_leastToNought_3 rfl rfl ?_
    refine n_VP (pc := 4) (c_X9_order hW) bX9_order q_i_X9_order q_s_X9_order q_m_X7_52 dX7_leastToNought_4 rfl rfl (by repeat (first | assumption | exact hset_eq _ _ _ | rw [hset_ne _ _ (by omega)])) rfl rfl (by exact Nat.le_of_ble_eq_true rfl) ⟨by decide, by decide⟩ ⟨rfl, rfl, Nat.zero_le _, Nat.zero_le _⟩ ?_
    refine n_icmp_ge (pc := 7) (tgt := 27) dX7_leastToNought_7 (by decide) (by omega) (by omega) (fun c => absurd c (by omega)) (fun hb_ => ?_)
    refine e_aload_n (pc := 10) dX7_leastToNought_10 rfl rfl ?_
    refine e_iload_n (pc := 11) dX7_leastToNought_11 rfl rfl ?_
    refine e_iload_n (pc := 12) dX7_leastToNought_12 rfl rfl ?_
    refine n_V (pc := 13) (c_X9_times2 hW hk (by omega) (by omega)) bX9_times q_i_X9_times q_s_X9_times q_m_X7_62 dX7_leastToNought_13 rfl rfl (by repeat (first | assumption | exact hset_eq _ _ _ | rw [hset_ne _ _ (by omega)])) rfl rfl (by exact Nat.le_of_ble_eq_true rfl) ⟨by decide, by decide⟩ ⟨rfl, rfl, Nat.zero_le _, Nat.zero_le _⟩ (fun x h2 hp => ?_)
    obtain ⟨rfl, p1, p2⟩ := hp
    refine n_if_ne (pc := 16) (tgt := 21) dX7_leastToNought_16 (by decide) (by omega) (fun hm => ?_) (fun hm => ?_)
    · refine n_inc (pc := 21) dX7_leastToNought_21 rfl (by decide) ?_
      refine e_goto (pc := 24) (tgt := 2) dX7_leastToNought_24 (by decide) ?_
      refine ih (y + 1) (by omega) (by omega) (by omega) h2 p1 (he.tr p2) (fun b b0 bb => ?_)
      by_cases e : b = y
      · subst e; exact hm
      · exact hr b b0 (by omega)
    · refine e_iload_n (pc := 19) dX7_leastToNought_19 rfl rfl ?_
      exact n_iret (pc := 20) dX7_leastToNought_20 rfl ⟨Or.inl ⟨y, rfl, by omega, hb_, hm, hr⟩, p1, he.tr p2⟩
theorem c_X7_leastToNought {x T : Nat} (hW : WAt h o W f) (hk : Wok W) (hx : x < W.1 ^ W.2.1) : CI yX7_leastToNought MX7_leastToNought [.ref T, .ref o, .int (nI x)] h (fun z h' => ((∃ y, z = nI y ∧ 0 < y ∧ y < W.1 ^ W.2.1 ∧ mul W x y = 0 ∧ ∀ b, 0 < b → b < y → mul W x b ≠ 0) ∨ (z = 0 ∧ ∀ b, 0 < b → b < W.1 ^ W.2.1 → mul W x b ≠ 0)) ∧ WAt h' o W f ∧ Es o h h') := by
  refine CI.ofV (by decide) rfl rfl (by simp [Value.category]) (by exact Nat.le_of_ble_eq_true rfl) (fun sz => ?_)
  refine n_iconst (pc := 0) 1 dX7_leastToNought_0 (by decide) ?_
  refine e_istore_n (pc := 1) dX7_leastToNought_1 rfl (by decide) ?_
  exact l_ltn hk hx (W.1 ^ W.2.1 - 1) 1 rfl (Nat.le_refl 1) hk.pos h hW (Es.rf o h) (fun b b0 b1 => by omega)
theorem c_X7_failing (hT : TSh h E) (hW : WAt h o W f) (hk : Wok W) (hf : fOk W f) (d : o + 3 ≤ E ∨ E + 89 ≤ o) : CI yX7_failing MX7_failing [.ref (E + 83), .ref o] h (fun z h' => Fail W z ∧ WAt h' o W z ∧ TSh h' E ∧ Fr E o h h') := by
  obtain ⟨b1, b2, b3, b4, b5⟩ := hk.b
  obtain ⟨w0, -, -⟩ := id hW
  obtain ⟨hF, t0, -⟩ := id hT
  obtain ⟨-, g0, -⟩ := id hF
  refine CI.ofV (by decide) rfl rfl (by simp [Value.category]) (by exact Nat.le_of_ble_eq_true rfl) (fun sz => ?_)
  refine e_aload_n (pc := 0) dX7_failing_0 rfl rfl ?_
  refine n_VP (pc := 1) (c_X9_knownFailing hW) bX9_knownFailing q_i_X9_knownFailing q_s_X9_knownFailing q_m_X7_40 dX7_failing_1 rfl rfl (by repeat (first | assumption | exact hset_eq _ _ _ | rw [hset_ne _ _ (by omega)])) rfl rfl (by exact Nat.le_of_ble_eq_true rfl) ⟨by decide, by decide⟩ ⟨rfl, rfl, Nat.zero_le _, Nat.zero_le _⟩ ?_
  refine e_bipush (pc := 4) (v := -2) dX7_failing_4 (by decide) ?_
  refine e_icmp_ne (pc := 6) (tgt := 45) dX7_failing_6 (by decide) (fun hne => ?_) (fun heq => ?_)
  · rcases hf with hf | hf
    · exact absurd hf hne
    · refine e_aload_n (pc := 45) dX7_failing_45 rfl rfl ?_
      refine n_VP (pc := 46) (c_X9_knownFailing hW) bX9_knownFailing q_i_X9_knownFailing q_s_X9_knownFailing q_m_X7_40 dX7_failing_46 rfl rfl (by repeat (first | assumption | exact hset_eq _ _ _ | rw [hset_ne _ _ (by omega)])) rfl rfl (by exact Nat.le_of_ble_eq_true rfl) ⟨by decide, by decide⟩ ⟨rfl, rfl, Nat.zero_le _, Nat.zero_le _⟩ ?_
      exact n_iret (pc := 49) dX7_failing_49 rfl ⟨hf, hW, hT, Fr.rf E o h⟩
  · have fin : ∀ (z : Int32) (h3 : AH) (v : List (Option Value)), (∃ v2, v = [some (.ref (E + 83)), some (.ref o), v2]) → Fail W z → WAt h3 o W f → TSh h3 E → Fr E o h h3 → VI MX7_failing sz (fun z h' => Fail W z ∧ WAt h' o W z ∧ TSh h' E ∧ Fr E o h h') h3 42 v [.int z, .ref o] := by
      intro z h3 v hv hz hW3 hT3 he3
      obtain ⟨v2, rfl⟩ := hv
      obtain ⟨w0, w1, g, w2⟩ := id hW3
      refine n_Vv (pc := 42) (c_X9_learnFailing hW3 z) bX9_learnFailing q_i_X9_learnFailing q_s_X9_learnFailing q_m_X7_58 dX7_failing_42 rfl rfl (by repeat (first | assumption | exact hset_eq _ _ _ | rw [hset_ne _ _ (by omega)])) rfl rfl (by exact Nat.le_of_ble_eq_true rfl) ⟨by decide, by decide⟩ ⟨rfl, rfl, Nat.zero_le _, Nat.zero_le _⟩ (fun h2 hp => ?_)
      subst hp
      have hW4 : WAt (hset h3 o (ob 8 [.int (nI W.1), .int (nI W.2.1), .int (nI (W.1 ^ W.2.1)), .int z, .ref (o + 1), .ref (o + 2)])) o W z := ⟨hset_eq _ _ _, by rw [hset_ne _ _ (by omega)]; exact w1, g, by rw [hset_ne _ _ (by omega)]; exact w2⟩
      obtain ⟨k0, -, -⟩ := id hW4
      have hE4 : Ew o h3 (hset h3 o (ob 8 [.int (nI W.1), .int (nI W.2.1), .int (nI (W.1 ^ W.2.1)), .int z, .ref (o + 1), .ref (o + 2)])) := (Ew.rf o h3).set (Or.inl rfl)
      refine e_aload_n (pc := 45) dX7_failing_45 rfl rfl ?_
      refine n_VP (pc := 46) (c_X9_knownFailing hW4) bX9_knownFailing q_i_X9_knownFailing q_s_X9_knownFailing q_m_X7_40 dX7_failing_46 rfl rfl (by repeat (first | assumption | exact hset_eq _ _ _ | rw [hset_ne _ _ (by omega)])) rfl rfl (by exact Nat.le_of_ble_eq_true rfl) ⟨by decide, by decide⟩ ⟨rfl, rfl, Nat.zero_le _, Nat.zero_le _⟩ ?_
      exact n_iret (pc := 49) dX7_failing_49 rfl ⟨hz, hW4, hT3.ew hE4 d, he3.tr hE4.fr⟩
    refine e_aload_n (pc := 9) dX7_failing_9 rfl rfl ?_
    refine e_get (pc := 10) fl_X7_32 dX7_failing_10 (by repeat (first | assumption | exact hset_eq _ _ _ | rw [hset_ne _ _ (by omega)])) (by rfl) ?_
    refine e_aload_n (pc := 13) dX7_failing_13 rfl rfl ?_
    refine n_iconst (pc := 14) 0 dX7_failing_14 (by decide) ?_
    refine n_V (pc := 15) (c_X1_leastSingular (side := 0) hF hW hk (by decide) (by omega)) bX1_leastSingular q_i_X1_leastSingular q_s_X1_leastSingular q_m_X7_46 dX7_failing_15 rfl rfl (by repeat (first | assumption | exact hset_eq _ _ _ | rw [hset_ne _ _ (by omega)])) rfl rfl (by exact Nat.le_of_ble_eq_true rfl) ⟨by decide, by decide⟩ ⟨rfl, rfl, Nat.zero_le _, Nat.zero_le _⟩ (fun x h2 hp => ?_)
    obtain ⟨p0, p1, p2⟩ := hp
    have hW2 := hW.er p2 (by omega)
    have hT2 := hT.er p1 p2
    have he2 : Fr E o h h2 := p2.fr (by omega) (by omega)
    obtain ⟨k0, -, -⟩ := id hW2
    obtain ⟨-, t0, -⟩ := id hT2
    rcases p0 with ⟨xl, rfl, x0, x1, x2, x3⟩ | ⟨rfl, x3⟩
    · refine e_istore_n (pc := 18) dX7_failing_18 rfl (by decide) ?_
      refine e_aload_n (pc := 19) dX7_failing_19 rfl rfl ?_
      refine e_iload_n (pc := 20) dX7_failing_20 rfl rfl ?_
      refine e_iconst (pc := 21) (v := -1) dX7_failing_21 (by decide) ?_
      refine e_icmp_ne (pc := 22) (tgt := 29) dX7_failing_22 (by decide) (fun _ => ?_) (fun q => ?_)
      · refine e_aload_n (pc := 29) dX7_failing_29 rfl rfl ?_
        refine n_VP (pc := 30) (c_X9_order hW2) bX9_order q_i_X9_order q_s_X9_order q_m_X7_52 dX7_failing_30 rfl rfl (by repeat (first | assumption | exact hset_eq _ _ _ | rw [hset_ne _ _ (by omega)])) rfl rfl (by exact Nat.le_of_ble_eq_true rfl) ⟨by decide, by decide⟩ ⟨rfl, rfl, Nat.zero_le _, Nat.zero_le _⟩ ?_
        refine e_iload_n (pc := 33) dX7_failing_33 rfl rfl ?_
        refine n_imul (pc := 34) dX7_failing_34 ?_
        refine e_aload_n (pc := 35) dX7_failing_35 rfl rfl ?_
        refine e_aload_n (pc := 36) dX7_failing_36 rfl rfl ?_
        refine e_iload_n (pc := 37) dX7_failing_37 rfl rfl ?_
        refine n_V (pc := 38) (c_X7_leastToNought hW2 hk x1) bX7_leastToNought q_i_X7_leastToNought q_s_X7_leastToNought q_m_X7_55 dX7_failing_38 rfl rfl (by repeat (first | assumption | exact hset_eq _ _ _ | rw [hset_ne _ _ (by omega)])) rfl rfl (by exact Nat.le_of_ble_eq_true rfl) ⟨by decide, by decide⟩ ⟨rfl, rfl, Nat.zero_le _, Nat.zero_le _⟩ (fun x h2 hp => ?_)
        rename_i h4
        obtain ⟨p3, p4, p5⟩ := hp
        have hne : rankE W 0 xl ≠ W.2.1 := by omega
        have ex : ∃ y, 0 < y ∧ y < W.1 ^ W.2.1 ∧ mul W xl y = 0 := Classical.byContradiction fun hn => hne ((rankE_full hk 0 xl).mpr (fun y y0 y1 e => hn ⟨y, y0, y1, by rw [← vm_mul]; exact e⟩))
        rcases p3 with ⟨y, rfl, y0, y1, y2, y3⟩ | ⟨rfl, y3⟩
        · refine n_iadd (pc := 41) dX7_failing_41 ?_
          exact fin _ _ _ ⟨_, rfl⟩ (Or.inl ⟨xl, y, rfl, x0, x1, y0, y1, y2, fun a b a0 a1 b0 b1 => by
            have := (rankE_full hk 0 a).mp (x3 a a0 a1) b b0 b1
            rw [vm_mul] at this
            exact this, y3⟩) p4 (hT2.es p5 d) (he2.tr p5.fr)
        · obtain ⟨y, y0, y1, y2⟩ := ex
          exact absurd y2 (y3 y y0 y1)
      · exfalso
        have h1 := nI_toInt (n := xl) (by omega)
        rw [q] at h1
        have h3 : ((-1 : Int32)).toInt = -1 := by decide
        omega
    · refine e_istore_n (pc := 18) dX7_failing_18 rfl (by decide) ?_
      refine e_aload_n (pc := 19) dX7_failing_19 rfl rfl ?_
      refine e_iload_n (pc := 20) dX7_failing_20 rfl rfl ?_
      refine e_iconst (pc := 21) (v := -1) dX7_failing_21 (by decide) ?_
      refine e_icmp_ne (pc := 22) (tgt := 29) dX7_failing_22 (by decide) (fun q => absurd rfl q) (fun _ => ?_)
      refine e_iconst (pc := 25) (v := -1) dX7_failing_25 (by decide) ?_
      refine e_goto (pc := 26) (tgt := 42) dX7_failing_26 (by decide) ?_
      exact fin _ _ _ ⟨_, rfl⟩ (Or.inr ⟨rfl, fun a b a0 a1 b0 b1 => by
        have := (rankE_full hk 0 a).mp (x3 a a0 a1) b b0 b1
        rw [vm_mul] at this
        exact this⟩) hW2 hT2 he2
theorem c_X7_divides (hT : TSh h E) (hW : WAt h o W f) (hk : Wok W) (hf : fOk W f) (d : o + 3 ≤ E ∨ E + 89 ≤ o) : CI yX7_divides MX7_divides [.ref (E + 83), .ref o] h (fun z h' => isB z (Div W) ∧ (∃ f2, fOk W f2 ∧ WAt h' o W f2) ∧ TSh h' E ∧ Fr E o h h') := by
  obtain ⟨hF, t0, -⟩ := id hT
  refine CI.ofV (by decide) rfl rfl (by simp [Value.category]) (by exact Nat.le_of_ble_eq_true rfl) (fun sz => ?_)
  refine e_aload_n (pc := 0) dX7_divides_0 rfl rfl ?_
  refine e_aload_n (pc := 1) dX7_divides_1 rfl rfl ?_
  refine n_V (pc := 2) (c_X7_failing hT hW hk hf d) bX7_failing q_i_X7_failing q_s_X7_failing q_m_X7_36 dX7_divides_2 rfl rfl (by repeat (first | assumption | exact hset_eq _ _ _ | rw [hset_ne _ _ (by omega)])) rfl rfl (by exact Nat.le_of_ble_eq_true rfl) ⟨by decide, by decide⟩ ⟨rfl, rfl, Nat.zero_le _, Nat.zero_le _⟩ (fun x h2 hp => ?_)
  obtain ⟨p0, p1, p2, p3⟩ := hp
  refine e_iconst (pc := 5) (v := -1) dX7_divides_5 (by decide) ?_
  refine e_icmp_ne (pc := 6) (tgt := 13) dX7_divides_6 (by decide) (fun hne => ?_) (fun heq => ?_)
  · refine n_iconst (pc := 13) 0 dX7_divides_13 (by decide) ?_
    exact n_zret (pc := 14) dX7_divides_14 rfl rfl ⟨Or.inr ⟨fun q => hne ((p0.div hk).mpr q), rfl⟩, ⟨_, Or.inr p0, p1⟩, p2, p3⟩
  · refine n_iconst (pc := 9) 1 dX7_divides_9 (by decide) ?_
    refine e_goto (pc := 10) (tgt := 14) dX7_divides_10 (by decide) ?_
    exact n_zret (pc := 14) dX7_divides_14 rfl rfl ⟨Or.inl ⟨(p0.div hk).mp heq, rfl⟩, ⟨_, Or.inr p0, p1⟩, p2, p3⟩
end ST
