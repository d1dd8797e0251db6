/-! ===== the reference's constructor ===== -/
def W0 : Wd := (2, 1, fun _ => 0)
def KX11 (m : Nat) (g : Nat → Int32) (j : Nat) : AE := if j = 0 then aI 6070 g else if j = 10 then aG 5 (fun i => if i < 5 then some (m + 12 + i) else none) else if j = 16 then aG 75 (fun i => if i < 75 then some (m + 18 + i) else none) else if j = 93 then aZ 75 (fun _ => 0) else if j = 94 then aZ 243 (fun _ => 0) else aI (szM (j + 1)) (fun _ => 0)
theorem KX11_r1 (m : Nat) (g : Nat → Int32) (j : Nat) (hj : j < 5) : KX11 m g (10 + 1 + j) = aI 5 (fun _ => 0) := by
  unfold KX11 szM
  rw [if_neg (by omega), if_neg (by omega), if_neg (by omega), if_neg (by omega), if_neg (by omega), if_neg (by omega), if_neg (by omega), if_neg (by omega), if_neg (by omega), if_neg (by omega), if_neg (by omega)]
theorem KX11_r2 (m : Nat) (g : Nat → Int32) (j : Nat) (hj : j < 75) : KX11 m g (16 + 1 + j) = aI 75 (fun _ => 0) := by
  unfold KX11 szM
  rw [if_neg (by omega), if_neg (by omega), if_neg (by omega), if_neg (by omega), if_neg (by omega), if_neg (by omega), if_neg (by omega), if_neg (by omega), if_neg (by omega), if_pos (by omega)]
/-- the reference's first scalars -/
def s0M : Ms := (0, 0, 0, 0, 0, 0, 0, 0, 0, -1, 0, 0, -1)
def fs11 (m : Nat) : List Value := mfs m 0 0 0 s0M
def W6 (k : Nat) (g : Nat → Int32) : Prop := (∀ i, i < k → WdR g (130 * i) W0) ∧ ∀ t, 130 * k ≤ t → g t = 0
def W7 (k : Nat) (g : Nat → Int32) : Prop := (∀ i, i < 6 → WdR g (130 * i) W0) ∧ (∀ t, t < k → g (800 + t) = -1) ∧ ∀ t, 800 + k ≤ t → g t = 0
theorem W6_0 : W6 0 (fun _ => 0) := ⟨fun i hi => absurd hi (by omega), fun _ _ => rfl⟩
theorem W6_s {k : Nat} {g : Nat → Int32} (q : W6 k g) : W6 (k + 1) (upd (upd g (130 * k + 0) (nI 2)) (130 * k + 1) (nI 1)) := by
  obtain ⟨a, b⟩ := q
  refine ⟨fun i hi => ?_, fun t ht => ?_⟩
  · by_cases e : i = k
    · subst e
      refine ⟨?_, ?_, fun c hc => ?_⟩
      · unfold upd; rw [if_neg (by omega), if_pos (by omega)]; rfl
      · unfold upd; rw [if_pos (by omega)]; rfl
      · unfold upd; rw [if_neg (by omega), if_neg (by omega), b _ (by omega)]; rfl
    · obtain ⟨a1, a2, a3⟩ := a i (by omega)
      refine ⟨?_, ?_, fun c hc => ?_⟩
      · unfold upd; rw [if_neg (by omega), if_neg (by omega)]; exact a1
      · unfold upd; rw [if_neg (by omega), if_neg (by omega)]; exact a2
      · unfold upd; rw [if_neg (by omega), if_neg (by omega)]; exact a3 c hc
  · unfold upd; rw [if_neg (by omega), if_neg (by omega)]; exact b t (by omega)
theorem W7_0 {g : Nat → Int32} (q : W6 6 g) : W7 0 g := ⟨q.1, fun t ht => absurd ht (by omega), fun t ht => q.2 t (by omega)⟩
theorem W7_s {k : Nat} {g : Nat → Int32} (q : W7 k g) : W7 (k + 1) (upd g (800 + k) (-1)) := by
  obtain ⟨a, b, c⟩ := q
  refine ⟨fun i hi => ?_, fun t ht => ?_, fun t ht => ?_⟩
  · obtain ⟨a1, a2, a3⟩ := a i hi
    refine ⟨?_, ?_, fun c hc => ?_⟩
    · unfold upd; rw [if_neg (by omega)]; exact a1
    · unfold upd; rw [if_neg (by omega)]; exact a2
    · unfold upd; rw [if_neg (by omega)]; exact a3 c hc
  · unfold upd
    by_cases e : t = k
    · rw [if_pos (by omega)]
    · rw [if_neg (by omega)]; exact b t (by omega)
  · unfold upd; rw [if_neg (by omega)]; exact c t (by omega)
section X11I
theorem b_putX {M : MI} {Post : Option Value → AH → Nat → Prop} {h : AH} {pc : Nat} {ls : List (Option Value)} {st : List Value} {ci o N c s : Nat} {fs : List Value} {T : Nat → AE} {idx kf : Nat} {v : Value} {ty : FieldType} {fs2 : List Value} (f : PL (MI.own M) idx ci kf ty false) (hd : decode (MI.cc M) pc = .ok (.putfield idx, 3)) (hn : narrow ty v = v) (hft : fits ty v = true) (hl0 : kf < fs.length) (e : fs.set kf v = fs2) (k : V M Post (o + 1 + N, c, s) (bk ci h o fs2 T N) (pc + 3) ls st) : V M Post (o + 1 + N, c, s) (bk ci h o fs T N) pc ls (v :: .ref o :: st) :=
  b_put f hd hn hft hl0 (by rw [e]; exact k)
theorem b_putFX {M : MI} {Post : Option Value → AH → Nat → Prop} {h : AH} {pc : Nat} {ls : List (Option Value)} {st : List Value} {ci o N c s : Nat} {fs : List Value} {T : Nat → AE} {idx kf : Nat} {v : Value} {ty : FieldType} {fs2 : List Value} (f : PL (MI.own M) idx ci kf ty true) (hini : MI.ini M = true) (hd : decode (MI.cc M) pc = .ok (.putfield idx, 3)) (hn : narrow ty v = v) (hft : fits ty v = true) (hl0 : kf < fs.length) (e : fs.set kf v = fs2) (k : V M Post (o + 1 + N, c, s) (bk ci h o fs2 T N) (pc + 3) ls st) : V M Post (o + 1 + N, c, s) (bk ci h o fs T N) pc ls (v :: .ref o :: st) :=
  b_putF f hini hd hn hft hl0 (by rw [e]; exact k)
variable {Post : Option Value → AH → Nat → Prop} {o : Nat} {h : AH} {al : Nat × Nat × Nat}
theorem KX11_up (o : Nat) (g g2 : Nat → Int32) : hset (bk 10 h o (fs11 o) (KX11 o g) 106) (o + 1) (aI 6070 g2) = bk 10 h o (fs11 o) (KX11 o g2) 106 :=
  bk_set 0 (by omega) rfl (fun i hi hne => by unfold KX11; rw [if_neg hne, if_neg hne])
end X11I
