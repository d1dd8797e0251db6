/-! ===== State: six worlds, what is told of maps, acts done and undone ===== -/
/-- worlds (0..5 in force, 6.. those of acts), whose an act is, images, done, undone -/
abbrev Sx : Type := (Nat → Wd) × (Nat → Nat) × (Nat → Int32) × Nat × Nat
abbrev Sx.ws (x : Sx) : Nat → Wd := x.1
abbrev Sx.who (x : Sx) : Nat → Nat := x.2.1
abbrev Sx.im (x : Sx) : Nat → Int32 := x.2.2.1
abbrev Sx.dn (x : Sx) : Nat := x.2.2.2.1
abbrev Sx.un (x : Sx) : Nat := x.2.2.2.2
def Perm26 (σ : Nat → Nat) : Prop := (∀ k, k < 26 → σ k < 26) ∧ ∀ k l, k < 26 → l < 26 → σ k = σ l → k = l
abbrev wa (S : Nat) (σ : Nat → Nat) (k : Nat) : Nat := S + 5 + 3 * σ k
/-- what a state tells, but for its worlds' cells -/
def StB (h : AH) (S : Nat) (σ : Nat → Nat) (x : Sx) : Prop :=
  h S = some (ob 6 [.ref (S + 1), .ref (S + 2), .ref (S + 3), .ref (S + 4), .int (nI x.dn), .int (nI x.un)]) ∧
  (∃ f, h (S + 1) = some (aQ 6 f) ∧ ∀ w, w < 6 → f w = some (wa S σ w)) ∧
  (∃ f, h (S + 2) = some (aQ 20 f) ∧ ∀ a, a < 20 → f a = some (wa S σ (6 + a))) ∧
  (∃ g, h (S + 3) = some (aI 20 g) ∧ ∀ a, a < 20 → g a = nI (x.who a)) ∧
  (∃ g, h (S + 4) = some (aI 15 g) ∧ ∀ t, t < 15 → g t = x.im t)
def SxOk (x : Sx) : Prop := (∀ k, k < 26 → Wok (x.ws k)) ∧ (∀ a, a < 20 → x.who a < 6) ∧ (∀ t, t < 15 → x.im t = -1 ∨ ∃ v, v < 243 ∧ x.im t = nI v) ∧ x.dn + x.un ≤ 20
def StA (h : AH) (S : Nat) (σ : Nat → Nat) (x : Sx) : Prop := StB h S σ x ∧ Perm26 σ ∧ SxOk x ∧ ∀ k, k < 26 → ∃ f, WAt h (wa S σ k) (x.ws k) f ∧ fOk (x.ws k) f
theorem StA.far {h h2 : AH} {S : Nat} {σ : Nat → Nat} {x : Sx} (q : StA h S σ x) (e : ∀ a, S ≤ a → a < S + 83 → h2 a = h a) : StA h2 S σ x := by
  obtain ⟨⟨a1, ⟨f2, a2, a2'⟩, ⟨f3, a3, a3'⟩, ⟨g4, a4, a4'⟩, g5, a5, a5'⟩, p, ok, w⟩ := q
  refine ⟨⟨by rw [e _ (by omega) (by omega)]; exact a1, ⟨f2, by rw [e _ (by omega) (by omega)]; exact a2, a2'⟩, ⟨f3, by rw [e _ (by omega) (by omega)]; exact a3, a3'⟩, ⟨g4, by rw [e _ (by omega) (by omega)]; exact a4, a4'⟩, g5, by rw [e _ (by omega) (by omega)]; exact a5, a5'⟩, p, ok, fun k hk => ?_⟩
  obtain ⟨f, ⟨w1, w2, g, w3⟩, wf⟩ := w k hk
  have p1 := p.1 k hk
  have p2 : wa S σ k = S + 5 + 3 * σ k := rfl
  exact ⟨f, ⟨by rw [e _ (by omega) (by omega)]; exact w1, by rw [e _ (by omega) (by omega)]; exact w2, g, by rw [e _ (by omega) (by omega)]; exact w3⟩, wf⟩
theorem StA.bd {h : AH} {S : Nat} {σ : Nat → Nat} {x : Sx} (q : StA h S σ x) {k : Nat} (hk : k < 26) : S + 5 ≤ wa S σ k ∧ wa S σ k + 3 ≤ S + 83 := by
  have := q.2.1.1 k hk
  have p2 : wa S σ k = S + 5 + 3 * σ k := rfl
  omega
theorem StA.ap {h : AH} {S : Nat} {σ : Nat → Nat} {x : Sx} (q : StA h S σ x) {k l : Nat} (hk : k < 26) (hl : l < 26) (n : k ≠ l) : wa S σ k + 3 ≤ wa S σ l ∨ wa S σ l + 3 ≤ wa S σ k := by
  have h1 : σ k ≠ σ l := fun e => n (q.2.1.2 k l hk hl e)
  show S + 5 + 3 * σ k + 3 ≤ S + 5 + 3 * σ l ∨ S + 5 + 3 * σ l + 3 ≤ S + 5 + 3 * σ k
  omega
theorem StA.w {h : AH} {S : Nat} {σ : Nat → Nat} {x : Sx} (q : StA h S σ x) {k : Nat} (hk : k < 26) : ∃ f, WAt h (wa S σ k) (x.ws k) f ∧ fOk (x.ws k) f := q.2.2.2 k hk
theorem StA.ok {h : AH} {S : Nat} {σ : Nat → Nat} {x : Sx} (q : StA h S σ x) {k : Nat} (hk : k < 26) : Wok (x.ws k) := q.2.2.1.1 k hk
def Sx.set (x : Sx) (k : Nat) (W : Wd) : Sx := (fun t => if t = k then W else x.1 t, x.2)
/-- a world's own cells changed -/
theorem StA.put {h h2 : AH} {S : Nat} {σ : Nat → Nat} {x : Sx} (q : StA h S σ x) {k : Nat} (hk : k < 26) (e : ∀ a, S ≤ a → a < S + 83 → a ≠ wa S σ k → a ≠ wa S σ k + 1 → a ≠ wa S σ k + 2 → h2 a = h a) {W : Wd} {f : Int32} (hW : WAt h2 (wa S σ k) W f) (hf : fOk W f) (hok : Wok W) : StA h2 S σ (x.set k W) := by
  have bd := q.bd hk
  have ap := @StA.ap h S σ x q
  obtain ⟨⟨a1, ⟨f2, a2, a2'⟩, ⟨f3, a3, a3'⟩, ⟨g4, a4, a4'⟩, g5, a5, a5'⟩, p, ok, w⟩ := q
  refine ⟨⟨by rw [e _ (by omega) (by omega) (by omega) (by omega) (by omega)]; exact a1, ⟨f2, by rw [e _ (by omega) (by omega) (by omega) (by omega) (by omega)]; exact a2, a2'⟩, ⟨f3, by rw [e _ (by omega) (by omega) (by omega) (by omega) (by omega)]; exact a3, a3'⟩, ⟨g4, by rw [e _ (by omega) (by omega) (by omega) (by omega) (by omega)]; exact a4, a4'⟩, g5, by rw [e _ (by omega) (by omega) (by omega) (by omega) (by omega)]; exact a5, a5'⟩, p, ⟨fun l hl => ?_, ok.2⟩, fun l hl => ?_⟩
  · show Wok (if l = k then W else x.1 l)
    by_cases c : l = k
    · rw [if_pos c]; exact hok
    · rw [if_neg c]; exact ok.1 l hl
  · show ∃ f, WAt h2 (wa S σ l) (if l = k then W else x.1 l) f ∧ fOk (if l = k then W else x.1 l) f
    by_cases c : l = k
    · subst c; rw [if_pos rfl]; exact ⟨f, hW, hf⟩
    · rw [if_neg c]
      obtain ⟨f', ⟨w1, w2, g, w3⟩, wf⟩ := w l hl
      have p1 := p.1 l hl
      have p2 : wa S σ l = S + 5 + 3 * σ l := rfl
      have d := ap hl hk c
      exact ⟨f', ⟨by rw [e _ (by omega) (by omega) (by omega) (by omega) (by omega)]; exact w1, by rw [e _ (by omega) (by omega) (by omega) (by omega) (by omega)]; exact w2, g, by rw [e _ (by omega) (by omega) (by omega) (by omega) (by omega)]; exact w3⟩, wf⟩
theorem Sx.set_self (x : Sx) (k : Nat) : x.set k (x.ws k) = x := by
  unfold Sx.set
  obtain ⟨w, r⟩ := x
  congr 1
  funext t
  by_cases c : t = k
  · rw [if_pos c, c]
  · rw [if_neg c]
/-- the world itself as it was, what it keeps for itself changed -/
theorem StA.same {h h2 : AH} {S : Nat} {σ : Nat → Nat} {x : Sx} (q : StA h S σ x) {k : Nat} (hk : k < 26) (e : ∀ a, S ≤ a → a < S + 83 → a ≠ wa S σ k → a ≠ wa S σ k + 1 → a ≠ wa S σ k + 2 → h2 a = h a) {f : Int32} (hW : WAt h2 (wa S σ k) (x.ws k) f) (hf : fOk (x.ws k) f) : StA h2 S σ x := by
  have := q.put hk e hW hf (q.ok hk)
  rw [Sx.set_self] at this
  exact this
section ST
variable {h : AH} {S : Nat} {σ : Nat → Nat} {x : Sx}
theorem nI_le2 {a : Int32} {n : Nat} (hn : n + 1 < 2 ^ 31) : nI n < a ↔ nI (n + 1) ≤ a := by
  have e1 : (nI n).toInt = (n : Int) := by unfold nI; rw [Int32.toInt_ofNat_of_lt (by omega)]
  have e2 : (nI (n + 1)).toInt = ((n + 1 : Nat) : Int) := by unfold nI; rw [Int32.toInt_ofNat_of_lt (by omega)]
  rw [Int32.lt_iff_toInt_lt, Int32.le_iff_toInt_le, e1, e2]
  omega
theorem c_X6_world (hS : StA h S σ x) (w : Int32) : CR yX6_world MX6_world [.ref S, .int w] h (fun r h' => h' = h ∧ ((∃ k, k < 6 ∧ w = nI k ∧ r = some (wa S σ k)) ∨ (okI w 6 = false ∧ r = none))) := by
  obtain ⟨a1, ⟨f2, a2, a2'⟩, -⟩ := id hS.1
  refine CR.ofV (by decide) rfl rfl (by simp [Value.category]) (by exact Nat.le_of_ble_eq_true rfl) (fun sz => ?_)
  refine e_iload_n (pc := 0) dX6_world_0 rfl rfl ?_
  refine e_if_lt (pc := 1) (tgt := 19) dX6_world_1 (by decide) (fun c => ?_) (fun c => ?_)
  · refine e_null (pc := 19) dX6_world_19 ?_
    exact n_aret none (pc := 20) dX6_world_20 ⟨_, rfl⟩ ⟨rfl, Or.inr ⟨okI_lt c, rfl⟩⟩
  refine e_iload_n (pc := 4) dX6_world_4 rfl rfl ?_
  refine n_bipush (pc := 5) 6 dX6_world_5 (by decide) ?_
  refine e_icmp_ge (pc := 7) (tgt := 19) dX6_world_7 (by decide) (fun c2 => ?_) (fun c2 => ?_)
  · refine e_null (pc := 19) dX6_world_19 ?_
    exact n_aret none (pc := 20) dX6_world_20 ⟨_, rfl⟩ ⟨rfl, Or.inr ⟨okI_ge c2, rfl⟩⟩
  obtain ⟨k, hk, rfl⟩ := okI_of (by decide) (okI_in c c2)
  have a3 := a2' k hk
  refine e_aload_n (pc := 10) dX6_world_10 rfl rfl ?_
  refine e_get (pc := 11) fl_X6_11 dX6_world_11 (by repeat (first | assumption | exact hset_eq _ _ _ | rw [hset_ne _ _ (by omega)])) (by rfl) ?_
  refine e_iload_n (pc := 14) dX6_world_14 rfl rfl ?_
  refine e_aldQS (pc := 15) _ dX6_world_15 (by repeat (first | assumption | exact hset_eq _ _ _ | rw [hset_ne _ _ (by omega)])) (by rfl) (by omega) (by first | decide | omega) (by assumption) ?_
  refine e_goto (pc := 16) (tgt := 20) dX6_world_16 (by decide) ?_
  exact n_aret (some (wa S σ k)) (pc := 20) dX6_world_20 ⟨_, rfl⟩ ⟨rfl, Or.inl ⟨k, hk, rfl, rfl⟩⟩
def imA (x : Sx) (t : Int32) : Int32 := if okI t 15 = true then x.im t.toNatClampNeg else -1
theorem imA_nI {k : Nat} (hk : k < 15) : imA x (nI k) = x.im k := by
  unfold imA
  rw [okI_nI (by omega) (by decide), if_pos (by simpa using hk), nI_clamp (by omega)]
theorem c_X6_imageAt (hS : StA h S σ x) (t : Int32) : CP yX6_imageAt MX6_imageAt [.ref S, .int t] h (imA x t) := by
  obtain ⟨a1, -, -, -, g5, a5, a5'⟩ := id hS.1
  refine CI.ofV (by decide) rfl rfl (by simp [Value.category]) (by exact Nat.le_of_ble_eq_true rfl) (fun sz => ?_)
  refine e_iload_n (pc := 0) dX6_imageAt_0 rfl rfl ?_
  refine e_if_lt (pc := 1) (tgt := 19) dX6_imageAt_1 (by decide) (fun c => ?_) (fun c => ?_)
  · refine e_iconst (pc := 19) (v := -1) dX6_imageAt_19 (by decide) ?_
    exact n_iret (pc := 20) dX6_imageAt_20 rfl ⟨by unfold imA; rw [okI_lt c]; rfl, rfl⟩
  refine e_iload_n (pc := 4) dX6_imageAt_4 rfl rfl ?_
  refine n_bipush (pc := 5) 15 dX6_imageAt_5 (by decide) ?_
  refine e_icmp_ge (pc := 7) (tgt := 19) dX6_imageAt_7 (by decide) (fun c2 => ?_) (fun c2 => ?_)
  · refine e_iconst (pc := 19) (v := -1) dX6_imageAt_19 (by decide) ?_
    exact n_iret (pc := 20) dX6_imageAt_20 rfl ⟨by unfold imA; rw [okI_ge c2]; rfl, rfl⟩
  obtain ⟨k, hk, rfl⟩ := okI_of (by decide) (okI_in c c2)
  refine e_aload_n (pc := 10) dX6_imageAt_10 rfl rfl ?_
  refine e_get (pc := 11) fl_X6_24 dX6_imageAt_11 (by repeat (first | assumption | exact hset_eq _ _ _ | rw [hset_ne _ _ (by omega)])) (by rfl) ?_
  refine e_iload_n (pc := 14) dX6_imageAt_14 rfl rfl ?_
  refine e_ialdN (pc := 15) _ dX6_imageAt_15 (by repeat (first | assumption | exact hset_eq _ _ _ | rw [hset_ne _ _ (by omega)])) (by rfl) (by omega) (by first | decide | omega) ?_
  refine e_goto (pc := 16) (tgt := 20) dX6_imageAt_16 (by decide) ?_
  exact n_iret (pc := 20) dX6_imageAt_20 rfl ⟨by rw [imA_nI hk, a5' k hk], rfl⟩
theorem c_X6_canGoBack (hS : StA h S σ x) : CP yX6_canGoBack MX6_canGoBack [.ref S] h (nI x.dn) := by
  obtain ⟨a1, -⟩ := id hS.1
  refine CI.ofV (by decide) rfl rfl (by simp [Value.category]) (by exact Nat.le_of_ble_eq_true rfl) (fun sz => ?_)
  refine e_aload_n (pc := 0) dX6_canGoBack_0 rfl rfl ?_
  refine e_get (pc := 1) fl_X6_27 dX6_canGoBack_1 (by repeat (first | assumption | exact hset_eq _ _ _ | rw [hset_ne _ _ (by omega)])) (by rfl) ?_
  exact n_iret (pc := 4) dX6_canGoBack_4 rfl ⟨rfl, rfl⟩
theorem c_X6_canGoForth (hS : StA h S σ x) : CP yX6_canGoForth MX6_canGoForth [.ref S] h (nI x.un) := by
  obtain ⟨a1, -⟩ := id hS.1
  refine CI.ofV (by decide) rfl rfl (by simp [Value.category]) (by exact Nat.le_of_ble_eq_true rfl) (fun sz => ?_)
  refine e_aload_n (pc := 0) dX6_canGoForth_0 rfl rfl ?_
  refine e_get (pc := 1) fl_X6_31 dX6_canGoForth_1 (by repeat (first | assumption | exact hset_eq _ _ _ | rw [hset_ne _ _ (by omega)])) (by rfl) ?_
  exact n_iret (pc := 4) dX6_canGoForth_4 rfl ⟨rfl, rfl⟩
def Sx.tell (x : Sx) (t : Nat) (v : Int32) : Sx := (x.1, x.2.1, fun s => if s = t then v else x.2.2.1 s, x.2.2.2)
def tOk (a i v : Int32) : Bool := okI a 3 && okI i 5 && okI v 243
end ST
