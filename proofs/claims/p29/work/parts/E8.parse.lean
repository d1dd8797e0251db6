/-! ===== a text of statements is read as they say ===== -/
theorem run_eq {f : Nat → Nat} {len : Nat} {P : Nat → Bool} : ∀ (k i : Nat), i + k ≤ len → (∀ t, t < k → P (f (i + t)) = true) → (i + k = len ∨ P (f (i + k)) = false) → run f len P i = i + k
  | 0, i, h1, h2, h3 => by
    rcases h3 with h3 | h3
    · exact run_end (by omega)
    · exact run_no h3
  | k + 1, i, h1, h2, h3 => by
    rw [run_go (by omega) (by have := h2 0 (by omega); exact this), run_eq k (i + 1) (by omega) (fun t ht => by have := h2 (t + 1) (by omega); rw [show i + 1 + t = i + (t + 1) by omega]; exact this) (by rw [show i + 1 + k = i + (k + 1) by omega]; exact h3)]
    omega
/-- the list L stands at i -/
def At (f : Nat → Nat) (len i : Nat) (L : List Nat) : Prop := i + L.length ≤ len ∧ ∀ j, j < L.length → f (i + j) = L.getD j 0
theorem getD_app_l {A B : List Nat} {j : Nat} (h : j < A.length) : (A ++ B).getD j 0 = A.getD j 0 := by
  rw [List.getD_eq_getElem?_getD, List.getElem?_append_left h, ← List.getD_eq_getElem?_getD]
theorem getD_app_r {A B : List Nat} {j : Nat} : (A ++ B).getD (A.length + j) 0 = B.getD j 0 := by
  rw [List.getD_eq_getElem?_getD, List.getElem?_append_right (by omega), ← List.getD_eq_getElem?_getD, Nat.add_sub_cancel_left]
theorem At.l {f : Nat → Nat} {len i : Nat} {A B : List Nat} (h : At f len i (A ++ B)) : At f len i A := by
  obtain ⟨h1, h2⟩ := h
  rw [List.length_append] at h1
  exact ⟨by omega, fun j hj => by rw [h2 j (by rw [List.length_append]; omega), getD_app_l hj]⟩
theorem At.r {f : Nat → Nat} {len i : Nat} {A B : List Nat} (h : At f len i (A ++ B)) : At f len (i + A.length) B := by
  obtain ⟨h1, h2⟩ := h
  rw [List.length_append] at h1
  exact ⟨by omega, fun j hj => by rw [Nat.add_assoc, h2 _ (by rw [List.length_append]; omega), getD_app_r]⟩
theorem At.hd {f : Nat → Nat} {len i c : Nat} {B : List Nat} (h : At f len i (c :: B)) : i < len ∧ f i = c ∧ At f len (i + 1) B := by
  obtain ⟨h1, h2⟩ := h
  rw [List.length_cons] at h1
  refine ⟨by omega, by have := h2 0 (by rw [List.length_cons]; omega); exact this, by omega, fun j hj => ?_⟩
  have := h2 (j + 1) (by rw [List.length_cons]; omega)
  rw [show i + (j + 1) = i + 1 + j by omega] at this
  rw [this]
  rfl
/-- the words -/
def wd (k : Nat) : List Nat := if k = 0 then [111, 114, 100, 101, 114] else if k = 1 then [116, 119, 105, 115, 116] else if k = 2 then [102, 105, 101, 108, 100] else if k = 3 then [97, 116] else [116, 117, 114, 110]
def cde (k : Nat) : Nat := if k = 0 then 4 else if k = 1 then 6 else if k = 2 then 5 else if k = 3 then 7 else 8
theorem wdl_ok : ∀ k, k < 5 → (wd k).length = lw_len.getD k 0 ∧ 1 ≤ (wd k).length ∧ ∀ t, t < (wd k).length → (wd k).getD t 0 = wn k t ∧ letB ((wd k).getD t 0) = true := by
  intro k hk
  match k, hk with
  | 0, _ => decide
  | 1, _ => decide
  | 2, _ => decide
  | 3, _ => decide
  | 4, _ => decide
/-- blanks, then something that isn't one -/
theorem tS_at {f : Nat → Nat} {len i b c : Nat} {X : List Nat} (h : At f len i (List.replicate b 32 ++ c :: X)) (hc : blkB c = false) : tS f len i = i + b ∧ f (i + b) = c ∧ i + b < len := by
  have h1 := h.l
  have h2 := h.r.hd
  rw [List.length_replicate] at h2
  refine ⟨run_eq b i (by omega) (fun t ht => ?_) (Or.inr (by rw [h2.2.1]; exact hc)), h2.2.1, h2.1⟩
  rw [h1.2 t (by rw [List.length_replicate]; exact ht), List.getD_eq_getElem?_getD, List.getElem?_replicate, if_pos ht]
  rfl
theorem bl_T {P : Prop} (h : P) : bl P = true := bl_t h
theorem bl_F {P : Prop} (h : ¬ P) : bl P = false := bl_f h
theorem tok_w {f : Nat → Nat} {len i b k c : Nat} {X : List Nat} (hk : k < 5) (h : At f len i (List.replicate b 32 ++ (wd k ++ c :: X))) (hc : letB c = false) : tK f len i = cde k ∧ tE f len i = i + b + (wd k).length := by
  obtain ⟨w1, w2, w3⟩ := wdl_ok k hk
  have hw : At f len (i + b) (wd k ++ c :: X) := by have := h.r; rwa [List.length_replicate] at this
  have hx := hw.r.hd
  have hl := hw.l
  obtain ⟨a, A, hA⟩ : ∃ a A, wd k = a :: A := by
    cases e : wd k with
    | nil => rw [e] at w2; exact absurd w2 (by decide)
    | cons a A => exact ⟨a, A, rfl⟩
  have l0 := w3 0 (by omega)
  have ha : a = (wd k).getD 0 0 := by rw [hA]; rfl
  have hbl : blkB a = false := by
    have := l0.2
    rw [← ha] at this
    unfold letB at this
    unfold blkB
    have := of_decide_eq_true this
    exact decide_eq_false (by omega)
  have s := tS_at (X := A ++ c :: X) (by have := h; rw [hA] at this; exact this) hbl
  have hlet : letB (f (tS f len i)) = true := by rw [s.1, s.2.1, ha]; exact l0.2
  have hE : tE f len i = i + b + (wd k).length := by
    unfold tE
    rw [if_neg (by omega), if_pos hlet, s.1]
    exact run_eq _ _ (by have := hl.1; omega) (fun t ht => by rw [hl.2 t ht]; exact (w3 t ht).2) (Or.inr (by rw [hx.2.1]; exact hc))
  refine ⟨?_, hE⟩
  have hC : tC f len i = 1 := by unfold tC; rw [if_neg (by omega), if_pos hlet]
  have hW : isW f (tS f len i) (tE f len i) k := ⟨by rw [hE, s.1, w1], fun t ht => by rw [s.1, hl.2 t (by omega)]; exact (w3 t (by omega)).1⟩
  have no : ∀ j, j < 5 → j ≠ k → bl (isW f (tS f len i) (tE f len i) j) = false := fun j hj ne => bl_F (fun z => ne (isW_one hj hk z hW))
  unfold tK
  rw [if_pos hC]
  match k, hk with
  | 0, _ => rw [if_pos (bl_T hW)]; rfl
  | 2, _ => rw [if_neg (by rw [no 0 (by omega) (by omega)]; decide), if_pos (bl_T hW)]; rfl
  | 1, _ => rw [if_neg (by rw [no 0 (by omega) (by omega)]; decide), if_neg (by rw [no 2 (by omega) (by omega)]; decide), if_pos (bl_T hW)]; rfl
  | 3, _ => rw [if_neg (by rw [no 0 (by omega) (by omega)]; decide), if_neg (by rw [no 2 (by omega) (by omega)]; decide), if_neg (by rw [no 1 (by omega) (by omega)]; decide), if_pos (bl_T hW)]; rfl
  | 4, _ => rw [if_neg (by rw [no 0 (by omega) (by omega)]; decide), if_neg (by rw [no 2 (by omega) (by omega)]; decide), if_neg (by rw [no 1 (by omega) (by omega)]; decide), if_neg (by rw [no 3 (by omega) (by omega)]; decide), if_pos (bl_T hW)]; rfl
theorem dec_dig {w : Nat} (hw : w < 100) : ∀ t, t < (dec w).length → 48 ≤ (dec w).getD t 0 ∧ (dec w).getD t 0 ≤ 57 := fun t ht => by
  unfold dec at ht ⊢
  split at ht
  · rw [if_pos (by assumption)]
    have : t = 0 := by simpa using ht
    subst this
    show 48 ≤ 48 + w ∧ 48 + w ≤ 57
    omega
  · rw [if_neg (by assumption)]
    have ht2 : t < 2 := ht
    match t, ht2 with
    | 0, _ => show 48 ≤ 48 + w / 10 ∧ 48 + w / 10 ≤ 57; omega
    | 1, _ => show 48 ≤ 48 + w % 10 ∧ 48 + w % 10 ≤ 57; omega
theorem tok_n {f : Nat → Nat} {len i w c : Nat} {X : List Nat} (hw : w < 100) (h : At f len i (32 :: (dec w ++ c :: X))) (hc : digB c = false) : tC f len i = 2 ∧ tV f len i = w ∧ tE f len i = i + 1 + (dec w).length := by
  have h1 := h.hd.2.2
  have hl := h1.l
  have hx := h1.r.hd
  have dd := dec_dig hw
  have ln : (dec w).length = dgn w := dec_len w
  have gb := dgn_b w
  have d0 := dd 0 (by omega)
  have f0 : f (i + 1) = (dec w).getD 0 0 := hl.2 0 (by omega)
  have hS : tS f len i = i + 1 := by
    obtain ⟨a, A, hA⟩ : ∃ a A, dec w = a :: A := by
      cases e : dec w with
      | nil => rw [e] at ln; simp at ln; omega
      | cons a A => exact ⟨a, A, rfl⟩
    have ha : a = (dec w).getD 0 0 := by rw [hA]; rfl
    exact (tS_at (b := 1) (c := a) (X := A ++ c :: X) (by rw [hA] at h; exact h) (by unfold blkB; exact decide_eq_false (by omega))).1
  have hdig : digB (f (i + 1)) = true := by rw [f0]; unfold digB; exact decide_eq_true (by omega)
  have hlet : letB (f (i + 1)) = false := by rw [f0]; unfold letB; exact decide_eq_false (by omega)
  have hrun : run f len digB (i + 1) = i + 1 + dgn w := run_eq _ _ (by have := hl.1; omega) (fun t ht => by rw [hl.2 t (by omega)]; unfold digB; have := dd t (by omega); exact decide_eq_true (by omega)) (Or.inr (by rw [← ln, hx.2.1]; exact hc))
  have hlt : i + 1 < len := by have := hx.1; omega
  refine ⟨?_, ?_, ?_⟩
  · unfold tC
    rw [hS, if_neg (by omega), if_neg (by rw [hlet]; decide), if_pos hdig, hrun, if_pos (by omega)]
  · unfold tV
    rw [hS, hrun, show i + 1 + dgn w - (i + 1) = dgn w by omega, Nat.min_eq_right (by omega)]
    by_cases c9 : w < 10
    · rw [show dgn w = 0 + 1 by unfold dgn; rw [if_pos c9]]
      show 10 * 0 + (f (i + 1 + 0) - 48) = w
      rw [hl.2 0 (by omega)]
      unfold dec
      rw [if_pos c9]
      show 10 * 0 + (48 + w - 48) = w
      omega
    · rw [show dgn w = 0 + 1 + 1 by unfold dgn; rw [if_neg c9]]
      show 10 * (10 * 0 + (f (i + 1 + 0) - 48)) + (f (i + 1 + 1) - 48) = w
      have g2 : dgn w = 2 := by unfold dgn; rw [if_neg c9]
      rw [hl.2 0 (by omega), hl.2 1 (by omega)]
      unfold dec
      rw [if_neg c9]
      show 10 * (10 * 0 + (48 + w / 10 - 48)) + (48 + w % 10 - 48) = w
      omega
  · unfold tE
    rw [hS, if_neg (by omega), if_neg (by rw [hlet]; decide), if_pos hdig, hrun, ln]
theorem tok_s {f : Nat → Nat} {len i b : Nat} (h : At f len i (List.replicate b 32 ++ [59])) : tC f len i = 3 ∧ tE f len i = i + b + 1 := by
  obtain ⟨s1, s2, s3⟩ := tS_at (X := []) h (by decide)
  constructor
  · unfold tC
    rw [s1, if_neg (by omega), s2]
    rfl
  · unfold tE
    rw [s1, if_neg (by omega), s2]
    rfl
/-- numbers, a blank ahead of each -/
def nms : List Nat → List Nat
  | [] => []
  | w :: l => 32 :: dec w ++ nms l
/-- a statement's letters -/
def stx (b k : Nat) (ns : List Nat) (c : Nat) : List Nat := List.replicate b 32 ++ (wd k ++ (nms ns ++ (List.replicate c 32 ++ [59])))
theorem nms_hd (ns : List Nat) (c : Nat) : ∃ a X, nms ns ++ (List.replicate c 32 ++ [59]) = a :: X ∧ (a = 32 ∨ a = 59) := by
  cases ns with
  | nil =>
    cases c with
    | zero => exact ⟨59, [], rfl, Or.inr rfl⟩
    | succ c => exact ⟨32, _, rfl, Or.inl rfl⟩
  | cons w l => exact ⟨32, _, rfl, Or.inl rfl⟩
theorem nms_tok {f : Nat → Nat} {len c : Nat} : ∀ (ns : List Nat) (e : Nat), (∀ w ∈ ns, w < 100) → At f len e (nms ns ++ (List.replicate c 32 ++ [59])) → (∀ k, k < ns.length → tC f len (nt f len e k) = 2 ∧ tV f len (nt f len e k) = ns.getD k 0) ∧ nt f len e ns.length = e + (nms ns).length
  | [], e, _, _ => ⟨fun k hk => absurd hk (by simp), rfl⟩
  | w :: l, e, hw, h => by
    obtain ⟨a, X, hX, ha⟩ := nms_hd l c
    have h2 : At f len e (32 :: (dec w ++ a :: X)) := by
      rw [← hX]
      have : nms (w :: l) ++ (List.replicate c 32 ++ [59]) = 32 :: (dec w ++ (nms l ++ (List.replicate c 32 ++ [59]))) := by simp [nms]
      rw [this] at h
      exact h
    obtain ⟨t1, t2, t3⟩ := tok_n (hw w List.mem_cons_self) h2 (by rcases ha with rfl | rfl <;> decide)
    have h3 : At f len (e + 1 + (dec w).length) (nms l ++ (List.replicate c 32 ++ [59])) := by
      have := h2.hd.2.2.r
      rwa [← hX] at this
    obtain ⟨q1, q2⟩ := nms_tok l (e + 1 + (dec w).length) (fun v hv => hw v (List.mem_cons_of_mem _ hv)) h3
    have e1 : nt f len e 1 = e + 1 + (dec w).length := t3
    have sh : ∀ k, nt f len e (k + 1) = nt f len (e + 1 + (dec w).length) k := fun k => by
      rw [← e1, nt_nt, Nat.add_comm 1 k]
    constructor
    · intro k hk
      cases k with
      | zero => exact ⟨t1, t2⟩
      | succ k =>
        rw [sh k]
        exact q1 k (by rw [List.length_cons] at hk; omega)
    · rw [List.length_cons, sh, q2]
      simp [nms]
      omega
theorem stx_tok {f : Nat → Nat} {len i b k c : Nat} {ns : List Nat} (hk : k < 5) (hw : ∀ w ∈ ns, w < 100) (h : At f len i (stx b k ns c)) : tK f len i = cde k ∧ (∀ t, t < ns.length → tC f len (nt f len i (t + 1)) = 2 ∧ vl f len i t = ns.getD t 0) ∧ tC f len (nt f len i (ns.length + 1)) = 3 ∧ nt f len i (ns.length + 2) = i + (stx b k ns c).length := by
  obtain ⟨a, X, hX, ha⟩ := nms_hd ns c
  have h2 : At f len i (List.replicate b 32 ++ (wd k ++ a :: X)) := by rw [← hX]; exact h
  obtain ⟨w1, w2⟩ := tok_w hk h2 (by rcases ha with rfl | rfl <;> decide)
  have h3 : At f len (i + b + (wd k).length) (nms ns ++ (List.replicate c 32 ++ [59])) := by
    have := h.r
    rw [List.length_replicate] at this
    exact this.r
  obtain ⟨q1, q2⟩ := nms_tok ns _ hw h3
  have e1 : nt f len i 1 = i + b + (wd k).length := w2
  have sh : ∀ t, nt f len i (t + 1) = nt f len (i + b + (wd k).length) t := fun t => by
    rw [← e1, nt_nt, Nat.add_comm 1 t]
  have e3 := sh ns.length
  rw [q2] at e3
  have t3 := tok_s h3.r
  refine ⟨w1, fun t ht => ?_, ?_, ?_⟩
  · unfold vl
    rw [sh t]
    exact q1 t ht
  · rw [e3]
    exact t3.1
  · show tE f len (nt f len i (ns.length + 1)) = _
    rw [e3, t3.2]
    unfold stx
    simp only [List.length_append, List.length_replicate, List.length_cons, List.length_nil]
    omega
theorem nF_none {f : Nat → Nat} {len i : Nat} {bd : Nat → Nat} {ns : List Nat} (h : ∀ t, t < ns.length → tC f len (nt f len i (t + 1)) = 2 ∧ vl f len i t = ns.getD t 0) : ∀ m, m ≤ ns.length → (∀ t, t < m → ns.getD t 0 < bd t) → nF f len i bd m = none
  | 0, _, _ => rfl
  | m + 1, hm, hb => by
    show (if nF f len i bd m = none then _ else _) = none
    rw [if_pos (nF_none h m (by omega) (fun t ht => hb t (by omega)))]
    obtain ⟨h1, h2⟩ := h m (by omega)
    unfold tokF
    rw [if_pos h1, if_pos (by rw [show tV f len (nt f len i (m + 1)) = vl f len i m from rfl, h2]; exact hb m (by omega))]
theorem polyW_congr {p n : Nat} {cs ds : Nat → Nat} (h : ∀ t, t < n → cs t = ds t) : polyW p n cs = polyW p n ds := by
  have e : ∀ m, pwr p n cs m = pwr p n ds m := fun m => by
    induction m with
    | zero => rfl
    | succ m ih =>
      show stp p n cs _ = stp p n ds _
      rw [ih]
      unfold stp
      exact num_congr (fun k hk => by rw [h k hk])
  unfold polyW
  simp only [e]
/-- what a statement makes, by its numbers -/
def sWn (X F : Wd) (k : Nat) (ns : List Nat) : Wd := sW X F (cde k) (fun t => ns.getD t 0)
theorem sW_congr {X F : Wd} {k : Nat} {v : Nat → Nat} {ns : List Nat} (hk : k < 5) (hl : ns.length = scn X (cde k)) (h : ∀ t, t < ns.length → v t = ns.getD t 0) : sW X F (cde k) v = sWn X F k ns := by
  match k, hk with
  | 0, _ =>
    have : ns.length = 2 := hl
    show ((v 0, v 1, fun _ => 0) : Wd) = (ns.getD 0 0, ns.getD 1 0, fun _ => 0)
    rw [h 0 (by omega), h 1 (by omega)]
  | 1, _ =>
    have : ns.length = 3 := hl
    show twistW F (v 0) (v 1) (v 2) = twistW F (ns.getD 0 0) (ns.getD 1 0) (ns.getD 2 0)
    rw [h 0 (by omega), h 1 (by omega), h 2 (by omega)]
  | 2, _ =>
    have : ns.length = X.2.1 := hl
    exact polyW_congr (fun t ht => h t (by omega))
  | 3, _ =>
    have : ns.length = 2 + X.2.1 := hl
    show atW X (v 0) (v 1) X.2.1 (fun t => v (2 + t)) = atW X (ns.getD 0 0) (ns.getD 1 0) X.2.1 (fun t => ns.getD (2 + t) 0)
    rw [h 0 (by omega), h 1 (by omega)]
    unfold atW
    refine congrArg (fun z => (X.1, X.2.1, z)) (funext fun t => ?_)
    by_cases c : 25 * ns.getD 0 0 + 5 * ns.getD 1 0 ≤ t ∧ t < 25 * ns.getD 0 0 + 5 * ns.getD 1 0 + X.2.1
    · rw [if_pos c, if_pos c]; exact h _ (by omega)
    · rw [if_neg c, if_neg c]
  | 4, _ =>
    have : ns.length = 1 := hl
    show wturn X (v 0) = wturn X (ns.getD 0 0)
    rw [h 0 (by omega)]
/-- the numbers are such as the statement may have -/
def stOk (X : Wd) (k : Nat) (ns : List Nat) : Prop := (∀ w ∈ ns, w < 100) ∧ ns.length = scn X (cde k) ∧ if k = 0 then canBe (ns.getD 0 0) (ns.getD 1 0) else ∀ t, t < ns.length → ns.getD t 0 < sbd X (cde k) t
/-- the text, read from its first letter on, has come so far: s statements, the world X, the field F -/
def PF (T : List Nat) (s : Nat) (X F : Wd) (hf : Bool) : Prop := ∀ f len m, At f len 0 T → prs f len (m + s) 0 (2, 1, fun _ => 0) (2, 1, fun _ => 0) false 0 = prs f len m s X F hf T.length
theorem PF.start : PF [] 0 (2, 1, fun _ => 0) (2, 1, fun _ => 0) false := fun _ _ _ _ => rfl
theorem PF.step {T : List Nat} {s b k c : Nat} {X F : Wd} {hf : Bool} {ns : List Nat} (h : PF T s X F hf) (hk : k < 5) (hs : k = 0 ↔ s = 0) (hs2 : s < 40) (h6 : k = 1 → hf = true) (ho : stOk X k ns) : PF (T ++ stx b k ns c) (s + 1) (sWn X F k ns) (if k = 2 then sWn X F k ns else F) (if k = 2 then true else hf) := by
  intro f len m hA
  rw [show m + (s + 1) = m + 1 + s by omega, h f len (m + 1) hA.l]
  obtain ⟨o1, o2, o3⟩ := ho
  have hA2 := hA.r
  rw [Nat.zero_add] at hA2
  obtain ⟨t1, t2, t3, t4⟩ := stx_tok hk o1 hA2
  have hv : ∀ t, t < ns.length → vl f len T.length t = ns.getD t 0 := fun t ht => (t2 t ht).2
  have ck : cde k = 4 ∨ cde k = 5 ∨ cde k = 6 ∨ cde k = 7 ∨ cde k = 8 := by unfold cde; split <;> (try split) <;> (try split) <;> (try split) <;> omega
  have c4 : cde k = 4 ↔ k = 0 := by unfold cde; split <;> (try split) <;> (try split) <;> (try split) <;> omega
  have c5 : cde k = 5 ↔ k = 2 := by unfold cde; split <;> (try split) <;> (try split) <;> (try split) <;> omega
  have c6 : cde k = 6 ↔ k = 1 := by unfold cde; split <;> (try split) <;> (try split) <;> (try split) <;> omega
  have hF : sF f len T.length X (cde k) = none := by
    unfold sF
    by_cases e : k = 0
    · rw [if_pos (c4.mpr e)]
      rw [if_pos e] at o3
      rw [c4.mpr e] at o2
      have l2 : ns.length = 2 := o2
      unfold ordF
      rw [if_pos (t2 0 (by omega)).1, hv 0 (by omega), hv 1 (by omega), if_pos o3.1, if_pos (t2 1 (by omega)).1, if_pos (bl_T o3)]
    · rw [if_neg (fun z => e (c4.mp z))]
      rw [if_neg e] at o3
      exact nF_none t2 _ (by omega) (fun t ht => o3 t (by omega))
  show (if tK f len T.length = 0 then _ else _) = _
  rw [t1, if_neg (by omega), if_neg (by
    rintro (z | z | ⟨z1, z2⟩)
    · omega
    · exact z ⟨fun q => hs.mp (c4.mp q), fun q => c4.mpr (hs.mpr q)⟩
    · rw [h6 (c6.mp z1)] at z2; cases z2), if_neg (by omega), hF]
  rw [← o2]
  show (if tC f len (nt f len T.length (ns.length + 1)) = 3 then _ else _) = _
  rw [if_pos t3, t4, List.length_append, sW_congr hk o2 hv]
  by_cases e : k = 2
  · rw [if_pos (c5.mpr e), if_pos (c5.mpr e), if_pos e, if_pos e]
    congr 1
    rw [← sW_congr hk o2 hv, c5.mpr e]
    rfl
  · rw [if_neg (fun z => e (c5.mp z)), if_neg (fun z => e (c5.mp z)), if_neg e, if_neg e]
theorem PF.fin {T : List Nat} {s : Nat} {X F : Wd} {hf : Bool} (h : PF T s X F hf) (hs : s ≤ 41) {f : Nat → Nat} (hT : ∀ j, j < T.length → f j = T.getD j 0) : txt f T.length = .inr X := by
  have := h f T.length (42 - s) ⟨by omega, fun j hj => by rw [Nat.zero_add]; exact hT j hj⟩
  rw [show 42 - s + s = 42 by omega] at this
  unfold txt
  rw [this, show 42 - s = (41 - s) + 1 by omega]
  have hE : tS f T.length T.length = T.length := run_end (Nat.le_refl _)
  have hC : tC f T.length T.length = 0 := by unfold tC; rw [hE, if_pos (Nat.le_refl _)]
  have hK : tK f T.length T.length = 0 := by unfold tK; rw [hC]; rfl
  show (if tK f T.length T.length = 0 then _ else _) = _
  rw [if_pos hK]
