/-! ===== Lists: worlds with the unit 1 told by a number ===== -/
theorem WAt.hd {h : AH} {o : Nat} {W : Wd} {f : Int32} (q : WAt h o W f) : h o = some (ob 8 [.int (nI W.1), .int (nI W.2.1), .int (nI (W.1 ^ W.2.1)), .int f, .ref (o + 1), .ref (o + 2)]) := q.1
/-- which worlds are listed -/
def Kd (p n : Nat) : Prop := (n = 2 ∧ (p = 2 ∨ p = 3 ∨ p = 5)) ∨ (n = 3 ∧ p = 2)
def plc (n t : Nat) : Nat := if n = 2 then 1 - t % 5 else (2 - t / 25) * 6 + (2 - t / 5 % 5) * 3 + (2 - t % 5)
def ua (a b t : Nat) : Nat := if t / 25 = 0 ∧ t / 5 % 5 < a then (if t % 5 = t / 5 % 5 then 1 else 0) else if t / 5 % 5 = 0 ∧ t / 25 < b then (if t % 5 = t / 25 then 1 else 0) else 0
def wfa (p n a b : Nat) : Wd := (p, n, fun t => if inC n t then ua a b t else 0)
def lws (p n code s : Nat) : Wd := (p, n, fun t => if inC n t then (if t / 25 = 0 ∨ t / 5 % 5 = 0 then ua n n t else if plc n t < s then dg p code (plc n t) else 0) else 0)
def lcm (n : Nat) : Nat := (n - 1) * (n - 1) * n
def lw (p n code : Nat) : Wd := lws p n code (lcm n)
theorem Kd.b {p n : Nat} (h : Kd p n) : (p = 2 ∨ p = 3 ∨ p = 5) ∧ (n = 2 ∨ n = 3) ∧ p ^ n ≤ 25 ∧ canBe p n := by
  rcases h with ⟨rfl, rfl | rfl | rfl⟩ | ⟨rfl, rfl⟩ <;> (refine ⟨by decide, by decide, by decide, ?_⟩; unfold canBe; decide)
theorem wd_ok {p n : Nat} (h : canBe p n) {c : Nat → Nat} (hc : ∀ t, c t < p) : Wok (p, n, fun t => if inC n t then c t else 0) := by
  have hp : 0 < p := by rcases h.1 with h | h | h <;> omega
  refine ⟨h.1, h.2.1, h.2.2.1, h.2.2.2, fun t => ?_⟩
  show (if inC n t then c t else 0) < p ∧ (¬ inC n t → (if inC n t then c t else 0) = 0)
  by_cases e : inC n t
  · rw [if_pos e]; exact ⟨hc t, fun z => absurd e z⟩
  · rw [if_neg e]; exact ⟨hp, fun _ => rfl⟩
theorem ua_lt {p a b t : Nat} (hp : 2 ≤ p) : ua a b t < p := by
  unfold ua
  split
  · split <;> omega
  · split
    · split <;> omega
    · omega
theorem wfa_ok {p n a b : Nat} (h : canBe p n) : Wok (wfa p n a b) := wd_ok h (fun t => ua_lt (by rcases h.1 with h | h | h <;> omega))
theorem lws_ok {p n code s : Nat} (h : canBe p n) : Wok (lws p n code s) := wd_ok h (fun t => by
  have hp : 2 ≤ p := by rcases h.1 with h | h | h <;> omega
  split
  · exact ua_lt hp
  · split
    · exact dg_lt (by omega) _ _
    · omega)
theorem lw_ok {p n code : Nat} (h : canBe p n) : Wok (lw p n code) := lws_ok h
theorem wfa_0 (p n : Nat) : wfa p n 0 0 = (p, n, fun _ => 0) := by
  unfold wfa
  refine congrArg (fun z => (p, n, z)) (funext fun t => ?_)
  unfold ua
  rw [if_neg (show ¬ (t / 25 = 0 ∧ t / 5 % 5 < 0) by omega), if_neg (show ¬ (t / 5 % 5 = 0 ∧ t / 25 < 0) by omega)]
  exact ite_self _
theorem wfa_r {p n i : Nat} (hp : 1 < p) (hn : n ≤ 5) (hi : i < n) : wrow (wfa p n i i) 0 i n (p ^ i) = wfa p n (i + 1) i := by
  unfold wrow wfa
  refine congrArg (fun z => (p, n, z)) (funext fun t => ?_)
  show (if 25 * 0 + 5 * i ≤ t ∧ t < 25 * 0 + 5 * i + n then dg p (p ^ i) (t - (25 * 0 + 5 * i)) else if inC n t then ua i i t else 0) = if inC n t then ua (i + 1) i t else 0
  by_cases c : 25 * 0 + 5 * i ≤ t ∧ t < 25 * 0 + 5 * i + n
  · have e1 : t / 25 = 0 := by omega
    have e2 : t / 5 % 5 = i := by omega
    have e3 : t % 5 = t - (25 * 0 + 5 * i) := by omega
    rw [if_pos c, dg_pow hp, if_pos (show inC n t from ⟨by omega, by omega, by omega, by omega⟩)]
    unfold ua
    rw [if_pos (show t / 25 = 0 ∧ t / 5 % 5 < i + 1 by omega), e2, e3]
  · rw [if_neg c]
    by_cases d : inC n t
    · rw [if_pos d, if_pos d]
      obtain ⟨d1, d2, d3, d4⟩ := d
      unfold ua
      by_cases e : t / 25 = 0 ∧ t / 5 % 5 < i
      · rw [if_pos e, if_pos (show t / 25 = 0 ∧ t / 5 % 5 < i + 1 by omega)]
      · rw [if_neg e, if_neg (show ¬ (t / 25 = 0 ∧ t / 5 % 5 < i + 1) by omega)]
    · rw [if_neg d, if_neg d]
theorem wfa_c {p n i : Nat} (hp : 1 < p) (hn : n ≤ 5) (hi : i < n) : wrow (wfa p n (i + 1) i) i 0 n (p ^ i) = wfa p n (i + 1) (i + 1) := by
  unfold wrow wfa
  refine congrArg (fun z => (p, n, z)) (funext fun t => ?_)
  show (if 25 * i + 5 * 0 ≤ t ∧ t < 25 * i + 5 * 0 + n then dg p (p ^ i) (t - (25 * i + 5 * 0)) else if inC n t then ua (i + 1) i t else 0) = if inC n t then ua (i + 1) (i + 1) t else 0
  by_cases c : 25 * i + 5 * 0 ≤ t ∧ t < 25 * i + 5 * 0 + n
  · have e1 : t / 25 = i := by omega
    have e2 : t / 5 % 5 = 0 := by omega
    have e3 : t % 5 = t - (25 * i + 5 * 0) := by omega
    rw [if_pos c, dg_pow hp, if_pos (show inC n t from ⟨by omega, by omega, by omega, by omega⟩)]
    unfold ua
    by_cases e : t / 25 = 0 ∧ t / 5 % 5 < i + 1
    · rw [if_pos e, e2, e3, show i = 0 by omega]
    · rw [if_neg e, if_pos (show t / 5 % 5 = 0 ∧ t / 25 < i + 1 by omega), e1, e3]
  · rw [if_neg c]
    by_cases d : inC n t
    · rw [if_pos d, if_pos d]
      obtain ⟨d1, d2, d3, d4⟩ := d
      unfold ua
      by_cases e : t / 25 = 0 ∧ t / 5 % 5 < i + 1
      · rw [if_pos e, if_pos e]
      · rw [if_neg e, if_neg e]
        by_cases e4 : t / 5 % 5 = 0 ∧ t / 25 < i
        · rw [if_pos e4, if_pos (show t / 5 % 5 = 0 ∧ t / 25 < i + 1 by omega)]
        · rw [if_neg e4, if_neg (show ¬ (t / 5 % 5 = 0 ∧ t / 25 < i + 1) by omega)]
    · rw [if_neg d, if_neg d]
theorem wfa_n {p n code : Nat} : wfa p n n n = lws p n code 0 := by
  unfold wfa lws
  refine congrArg (fun z => (p, n, z)) (funext fun t => ?_)
  by_cases d : inC n t
  · rw [if_pos d, if_pos d]
    obtain ⟨d1, d2, d3, d4⟩ := d
    by_cases e : t / 25 = 0 ∨ t / 5 % 5 = 0
    · rw [if_pos e]
    · rw [if_neg e, if_neg (Nat.not_lt_zero _)]
      unfold ua
      rw [if_neg (show ¬ (t / 25 = 0 ∧ t / 5 % 5 < n) by omega), if_neg (show ¬ (t / 5 % 5 = 0 ∧ t / 25 < n) by omega)]
  · rw [if_neg d, if_neg d]
theorem plc_ij {n i j k : Nat} (hn : n = 2 ∨ n = 3) (hi : i < n) (hj : j < n) (hk : k < n) (i0 : 0 < i) (j0 : 0 < j) : plc n (25 * i + 5 * j + k) = ((n - 1 - i) * (n - 1) + (n - 1 - j)) * n + (n - 1 - k) := by
  have e1 : (25 * i + 5 * j + k) / 25 = i := by omega
  have e2 : (25 * i + 5 * j + k) / 5 % 5 = j := by omega
  have e3 : (25 * i + 5 * j + k) % 5 = k := by omega
  unfold plc
  rw [e1, e2, e3]
  rcases hn with rfl | rfl
  · rw [if_pos rfl, show i = 1 by omega, show j = 1 by omega]
    omega
  · rw [if_neg (by decide)]
    omega
theorem lws_s {p n code s i j k : Nat} (hn : n = 2 ∨ n = 3) (hi : i < n) (hj : j < n) (hk : k < n) (i0 : 0 < i) (j0 : 0 < j) (hs : plc n (25 * i + 5 * j + k) = s) : wput (lws p n code s) i j k (dg p code s) = lws p n code (s + 1) := by
  unfold wput lws
  refine congrArg (fun z => (p, n, z)) (funext fun t => ?_)
  show (if t = 25 * i + 5 * j + k then dg p code s else if inC n t then (if t / 25 = 0 ∨ t / 5 % 5 = 0 then ua n n t else if plc n t < s then dg p code (plc n t) else 0) else 0) = if inC n t then (if t / 25 = 0 ∨ t / 5 % 5 = 0 then ua n n t else if plc n t < s + 1 then dg p code (plc n t) else 0) else 0
  by_cases e : t = 25 * i + 5 * j + k
  · subst e
    rw [if_pos rfl, if_pos (show inC n (25 * i + 5 * j + k) from ⟨by omega, by omega, by omega, by omega⟩), if_neg (show ¬ ((25 * i + 5 * j + k) / 25 = 0 ∨ (25 * i + 5 * j + k) / 5 % 5 = 0) by omega), hs, if_pos (Nat.lt_succ_self s)]
  · rw [if_neg e]
    by_cases d : inC n t
    · rw [if_pos d, if_pos d]
      obtain ⟨d1, d2, d3, d4⟩ := d
      by_cases c : t / 25 = 0 ∨ t / 5 % 5 = 0
      · rw [if_pos c, if_pos c]
      · rw [if_neg c, if_neg c]
        have ne : plc n t ≠ s := by
          rw [← hs]
          unfold plc
          rcases hn with rfl | rfl
          · rw [if_pos rfl, if_pos rfl]; omega
          · rw [if_neg (by decide), if_neg (by decide)]; omega
        by_cases z : plc n t < s
        · rw [if_pos z, if_pos (by omega)]
        · rw [if_neg z, if_neg (by omega)]
    · rw [if_neg d, if_neg d]
section LF
variable {h : AH} {o : Nat} {W : Wd} {f : Int32} {p n code : Nat}
theorem l_lpow {sz : Nat} {m : Nat} (hm : m < 2 ^ 31) : ∀ (k i : Nat), k = m - i → i ≤ m → VI MX2_power sz (fun z h' => z = nI (p ^ m) ∧ h' = h) h 4 [some (.int (nI p)), some (.int (nI m)), some (.int (nI (p ^ i))), some (.int (nI i))] [] := by
  intro k
  induction k with
  | zero =>
    intro i e1 e2
    have e' : i = m := by omega
    subst e'
    refine e_iload_n (pc := 4) dX2_power_4 rfl rfl ?_
    refine e_iload_n (pc := 5) dX2_power_5 rfl rfl ?_
    refine n_icmp_ge (pc := 6) (tgt := 19) dX2_power_6 (by decide) (by omega) (by omega) (fun hb_ => ?_) (fun c => absurd c (by omega))
    refine e_iload_n (pc := 19) dX2_power_19 rfl rfl ?_
    exact n_iret (pc := 20) dX2_power_20 rfl ⟨rfl, rfl⟩
  | succ k ih =>
    intro i e1 e2
    refine e_iload_n (pc := 4) dX2_power_4 rfl rfl ?_
    refine e_iload_n (pc := 5) dX2_power_5 rfl rfl ?_
    refine n_icmp_ge (pc := 6) (tgt := 19) dX2_power_6 (by decide) (by omega) (by omega) (fun c => absurd c (by omega)) (fun hb_ => ?_)
    refine e_iload_n (pc := 9) dX2_power_9 rfl rfl ?_
    refine e_iload_n (pc := 10) dX2_power_10 rfl rfl ?_
    refine n_imul (pc := 11) dX2_power_11 ?_
    refine e_istore_n (pc := 12) dX2_power_12 rfl (by decide) ?_
    refine n_inc (pc := 13) dX2_power_13 rfl (by decide) ?_
    refine e_goto (pc := 16) (tgt := 4) dX2_power_16 (by decide) ?_
    have q := ih (i + 1) (by omega) (by omega)
    rw [Nat.pow_succ] at q
    exact q
theorem c_X2_power {m : Nat} (hm : m < 2 ^ 31) : CP yX2_power MX2_power [.int (nI p), .int (nI m)] h (nI (p ^ m)) := by
  refine CI.ofV (by decide) rfl rfl (by simp [Value.category]) (by exact Nat.le_of_ble_eq_true rfl) (fun sz => ?_)
  refine n_iconst (pc := 0) 1 dX2_power_0 (by decide) ?_
  refine e_istore_n (pc := 1) dX2_power_1 rfl (by decide) ?_
  refine n_iconst (pc := 2) 0 dX2_power_2 (by decide) ?_
  refine e_istore_n (pc := 3) dX2_power_3 rfl (by decide) ?_
  have q := l_lpow (p := p) (h := h) (sz := sz) hm m 0 rfl (Nat.zero_le _)
  rw [Nat.pow_zero] at q
  exact q
def kdn (p n : Nat) : Nat := if n = 3 then 1 else if p = 2 then 0 else if p = 3 then 2 else 3
theorem c_X2_kindOf (x y : Int32) : CI yX2_kindOf MX2_kindOf [.int x, .int y] h (fun z h' => ((∃ p n, x = nI p ∧ y = nI n ∧ Kd p n ∧ z = nI (kdn p n)) ∨ (z = -1 ∧ ∀ p n, x = nI p → y = nI n → ¬ Kd p n)) ∧ h' = h) := by
  have inj : ∀ (a b : Nat), a < 2 ^ 31 → b < 2 ^ 31 → nI a = nI b → a = b := fun a b ha hb e => (nI_eq ha hb).mp e
  have no : ∀ z : Int32, z = -1 → (∀ p n, (p = 2 ∨ p = 3 ∨ p = 5) → (n = 2 ∨ n = 3) → x = nI p → y = nI n → ¬ Kd p n) → ((∃ p n, x = nI p ∧ y = nI n ∧ Kd p n ∧ z = nI (kdn p n)) ∨ (z = -1 ∧ ∀ p n, x = nI p → y = nI n → ¬ Kd p n)) := fun z hz hh => Or.inr ⟨hz, fun p n e1 e2 k => hh p n k.b.1 k.b.2.1 e1 e2 k⟩
  refine CI.ofV (by decide) rfl rfl (by simp [Value.category]) (by exact Nat.le_of_ble_eq_true rfl) (fun sz => ?_)
  refine e_iload_n (pc := 0) dX2_kindOf_0 rfl rfl ?_
  refine n_iconst (pc := 1) 2 dX2_kindOf_1 (by decide) ?_
  refine e_icmp_ne (pc := 2) (tgt := 12) dX2_kindOf_2 (by decide) (fun c1 => ?_) (fun c1 => ?_)
  · -- not 2: fall to 12
    refine e_iload_n (pc := 12) dX2_kindOf_12 rfl rfl ?_
    refine n_iconst (pc := 13) 2 dX2_kindOf_13 (by decide) ?_
    refine e_icmp_eq (pc := 14) (tgt := 19) dX2_kindOf_14 (by decide) (fun c2 => ?_) (fun c2 => ?_)
    · refine e_iload_n (pc := 19) dX2_kindOf_19 rfl rfl ?_
      refine n_iconst (pc := 20) 2 dX2_kindOf_20 (by decide) ?_
      refine e_icmp_ne (pc := 21) (tgt := 28) dX2_kindOf_21 (by decide) (fun c3 => ?_) (fun c3 => ?_)
      · refine e_iload_n (pc := 28) dX2_kindOf_28 rfl rfl ?_
        refine n_iconst (pc := 29) 3 dX2_kindOf_29 (by decide) ?_
        refine e_icmp_ne (pc := 30) (tgt := 37) dX2_kindOf_30 (by decide) (fun c4 => ?_) (fun c4 => ?_)
        · refine e_iload_n (pc := 37) dX2_kindOf_37 rfl rfl ?_
          refine n_iconst (pc := 38) 5 dX2_kindOf_38 (by decide) ?_
          refine e_icmp_ne (pc := 39) (tgt := 46) dX2_kindOf_39 (by decide) (fun c5 => ?_) (fun c5 => ?_)
          · refine e_iconst (pc := 46) (v := -1) dX2_kindOf_46 (by decide) ?_
            refine n_iret (pc := 47) dX2_kindOf_47 rfl ⟨no _ rfl (fun p n hp hn e1 e2 k => ?_), rfl⟩
            rcases hp with rfl | rfl | rfl
            · exact c3 e1
            · exact c4 e1
            · exact c5 e1
          · refine n_iconst (pc := 42) 3 dX2_kindOf_42 (by decide) ?_
            refine e_goto (pc := 43) (tgt := 47) dX2_kindOf_43 (by decide) ?_
            exact n_iret (pc := 47) dX2_kindOf_47 rfl ⟨Or.inl ⟨5, 2, c5, c2, Or.inl ⟨rfl, Or.inr (Or.inr rfl)⟩, rfl⟩, rfl⟩
        · refine n_iconst (pc := 33) 2 dX2_kindOf_33 (by decide) ?_
          refine e_goto (pc := 34) (tgt := 47) dX2_kindOf_34 (by decide) ?_
          exact n_iret (pc := 47) dX2_kindOf_47 rfl ⟨Or.inl ⟨3, 2, c4, c2, Or.inl ⟨rfl, Or.inr (Or.inl rfl)⟩, rfl⟩, rfl⟩
      · exact absurd c3 c1
    · refine e_iconst (pc := 17) (v := -1) dX2_kindOf_17 (by decide) ?_
      refine n_iret (pc := 18) dX2_kindOf_18 rfl ⟨no _ rfl (fun p n hp hn e1 e2 k => ?_), rfl⟩
      rcases k with ⟨rfl, -⟩ | ⟨rfl, rfl⟩
      · exact c2 e2
      · exact c1 e1
  · refine e_iload_n (pc := 5) dX2_kindOf_5 rfl rfl ?_
    refine n_iconst (pc := 6) 3 dX2_kindOf_6 (by decide) ?_
    refine e_icmp_ne (pc := 7) (tgt := 12) dX2_kindOf_7 (by decide) (fun c2 => ?_) (fun c2 => ?_)
    · refine e_iload_n (pc := 12) dX2_kindOf_12 rfl rfl ?_
      refine n_iconst (pc := 13) 2 dX2_kindOf_13 (by decide) ?_
      refine e_icmp_eq (pc := 14) (tgt := 19) dX2_kindOf_14 (by decide) (fun c3 => ?_) (fun c3 => ?_)
      · refine e_iload_n (pc := 19) dX2_kindOf_19 rfl rfl ?_
        refine n_iconst (pc := 20) 2 dX2_kindOf_20 (by decide) ?_
        refine e_icmp_ne (pc := 21) (tgt := 28) dX2_kindOf_21 (by decide) (fun c4 => ?_) (fun c4 => ?_)
        · exact absurd c1 c4
        · refine n_iconst (pc := 24) 0 dX2_kindOf_24 (by decide) ?_
          refine e_goto (pc := 25) (tgt := 47) dX2_kindOf_25 (by decide) ?_
          exact n_iret (pc := 47) dX2_kindOf_47 rfl ⟨Or.inl ⟨2, 2, c1, c3, Or.inl ⟨rfl, Or.inl rfl⟩, rfl⟩, rfl⟩
      · refine e_iconst (pc := 17) (v := -1) dX2_kindOf_17 (by decide) ?_
        refine n_iret (pc := 18) dX2_kindOf_18 rfl ⟨no _ rfl (fun p n hp hn e1 e2 k => ?_), rfl⟩
        rcases k with ⟨rfl, -⟩ | ⟨rfl, rfl⟩
        · exact c3 e2
        · exact c2 e2
    · refine n_iconst (pc := 10) 1 dX2_kindOf_10 (by decide) ?_
      exact n_iret (pc := 11) dX2_kindOf_11 rfl ⟨Or.inl ⟨2, 3, c1, c2, Or.inr ⟨rfl, rfl⟩, rfl⟩, rfl⟩
section FL0
variable {sz : Nat} {hh : AH} {Pr : AH → Prop}
theorem l_fl_k {i j : Nat} (hK : Kd p n) (hi : i < n) (hj : j < n) (i0 : 0 < i) (j0 : 0 < j) (hc : code < 2 ^ 31)
    (kk : ∀ h1, WAt h1 o (lws p n code (((n - 1 - i) * (n - 1) + (n - 1 - j)) * n + n)) (-2) → Ew o hh h1 → VV MX2_fill sz Pr h1 106 [some (.ref o), some (.int (nI p)), some (.int (nI n)), none, some (.int (nI (code / p ^ (((n - 1 - i) * (n - 1) + (n - 1 - j)) * n + n)))), some (.int (nI i)), some (.int (nI j)), none] []) :
    ∀ (k : Nat), k < n → ∀ s, s = ((n - 1 - i) * (n - 1) + (n - 1 - j)) * n + (n - 1 - k) → ∀ h1 f1, WAt h1 o (lws p n code s) f1 → Ew o hh h1 → VV MX2_fill sz Pr h1 75 [some (.ref o), some (.int (nI p)), some (.int (nI n)), none, some (.int (nI (code / p ^ s))), some (.int (nI i)), some (.int (nI j)), some (.int (nI k))] [] := by
  obtain ⟨k1, k2, k3, k4⟩ := hK.b
  have hp : 2 ≤ p ∧ p ≤ 5 := by rcases k1 with h | h | h <;> omega
  intro k
  induction k with
  | zero =>
    intro hk s hs h1 f1 hW he
    have q5 := Nat.div_le_self code (p ^ s)
    refine e_iload (pc := 75) dX2_fill_75 rfl ?_
    refine n_if_lt (pc := 77) (tgt := 106) dX2_fill_77 (by omega) ?_ (by decide)
    refine e_aload_n (pc := 80) dX2_fill_80 rfl rfl ?_
    refine e_iload (pc := 81) dX2_fill_81 rfl ?_
    refine e_iload (pc := 83) dX2_fill_83 rfl ?_
    refine e_iload (pc := 85) dX2_fill_85 rfl ?_
    refine e_iload (pc := 87) dX2_fill_87 rfl ?_
    refine e_iload_n (pc := 89) dX2_fill_89 rfl rfl ?_
    refine n_irem (pc := 90) dX2_fill_90 (by omega) (by omega) (by omega) ?_
    refine n_Vv (pc := 91) (c_X9_put (W := lws p n code s) hW (lws_ok k4) hi hj hk) bX9_put q_i_X9_put q_s_X9_put q_m_X2_87 dX2_fill_91 rfl rfl (by repeat (first | assumption | exact hset_eq _ _ _ | (apply WAt.hd; assumption) | rw [hset_ne _ _ (by omega)])) rfl rfl (by exact Nat.le_of_ble_eq_true rfl) ⟨by decide, by decide⟩ ⟨rfl, rfl, Nat.zero_le _, Nat.zero_le _⟩ (fun h2 hp2 => ?_)
    obtain ⟨p1, p2⟩ := hp2
    refine e_iload (pc := 94) dX2_fill_94 rfl ?_
    refine e_iload_n (pc := 96) dX2_fill_96 rfl rfl ?_
    refine n_idiv (pc := 97) dX2_fill_97 (by omega) (by omega) (by omega) ?_
    refine e_istore (pc := 98) dX2_fill_98 (by decide) ?_
    refine n_dec0 (pc := 100) dX2_fill_100 rfl (by decide) ?_
    refine e_goto (pc := 103) (tgt := 75) dX2_fill_103 (by decide) ?_
    refine e_iload (pc := 75) dX2_fill_75 rfl ?_
    refine e_if_lt (pc := 77) (tgt := 106) dX2_fill_77 (by decide) (fun _ => ?_) (fun q => absurd (by decide) q)
    refine V.mask [true, true, true, false, true, true, true, false] ?_
    rw [show (code / p ^ s % p) = dg p code s from rfl, lws_s k2 hi hj hk i0 j0 ((plc_ij k2 hi hj hk i0 j0).trans hs.symm)] at p1
    have e : s + 1 = ((n - 1 - i) * (n - 1) + (n - 1 - j)) * n + n := by omega
    rw [e] at p1
    have q := kk h2 p1 (he.tr p2)
    rw [← e, ← dg_div] at q
    exact q
  | succ k ih =>
    intro hk s hs h1 f1 hW he
    have q5 := Nat.div_le_self code (p ^ s)
    refine e_iload (pc := 75) dX2_fill_75 rfl ?_
    refine n_if_lt (pc := 77) (tgt := 106) dX2_fill_77 (by omega) ?_ (by decide)
    refine e_aload_n (pc := 80) dX2_fill_80 rfl rfl ?_
    refine e_iload (pc := 81) dX2_fill_81 rfl ?_
    refine e_iload (pc := 83) dX2_fill_83 rfl ?_
    refine e_iload (pc := 85) dX2_fill_85 rfl ?_
    refine e_iload (pc := 87) dX2_fill_87 rfl ?_
    refine e_iload_n (pc := 89) dX2_fill_89 rfl rfl ?_
    refine n_irem (pc := 90) dX2_fill_90 (by omega) (by omega) (by omega) ?_
    refine n_Vv (pc := 91) (c_X9_put (W := lws p n code s) hW (lws_ok k4) hi hj hk) bX9_put q_i_X9_put q_s_X9_put q_m_X2_87 dX2_fill_91 rfl rfl (by repeat (first | assumption | exact hset_eq _ _ _ | (apply WAt.hd; assumption) | rw [hset_ne _ _ (by omega)])) rfl rfl (by exact Nat.le_of_ble_eq_true rfl) ⟨by decide, by decide⟩ ⟨rfl, rfl, Nat.zero_le _, Nat.zero_le _⟩ (fun h2 hp2 => ?_)
    obtain ⟨p1, p2⟩ := hp2
    refine e_iload (pc := 94) dX2_fill_94 rfl ?_
    refine e_iload_n (pc := 96) dX2_fill_96 rfl rfl ?_
    refine n_idiv (pc := 97) dX2_fill_97 (by omega) (by omega) (by omega) ?_
    refine e_istore (pc := 98) dX2_fill_98 (by decide) ?_
    refine n_dec (pc := 100) dX2_fill_100 rfl (by decide) ?_
    refine e_goto (pc := 103) (tgt := 75) dX2_fill_103 (by decide) ?_
    rw [show (code / p ^ s % p) = dg p code s from rfl, lws_s k2 hi hj hk i0 j0 ((plc_ij k2 hi hj hk i0 j0).trans hs.symm)] at p1
    have q := ih (by omega) (s + 1) (by omega) h2 (-2) p1 (he.tr p2)
    rw [← dg_div] at q
    exact q
theorem l_fl_j {i : Nat} (hK : Kd p n) (hi : i < n) (i0 : 0 < i) (hc : code < 2 ^ 31)
    (kk : ∀ h1, WAt h1 o (lws p n code (((n - 1 - i) * (n - 1) + (n - 1)) * n)) (-2) → Ew o hh h1 → VV MX2_fill sz Pr h1 112 [some (.ref o), some (.int (nI p)), some (.int (nI n)), none, some (.int (nI (code / p ^ (((n - 1 - i) * (n - 1) + (n - 1)) * n)))), some (.int (nI i)), none, none] []) :
    ∀ (j : Nat), j < n → ∀ s, s = ((n - 1 - i) * (n - 1) + (n - 1 - j)) * n → ∀ h1, (∃ f1, WAt h1 o (lws p n code s) f1) → (j = 0 → WAt h1 o (lws p n code s) (-2)) → Ew o hh h1 → VV MX2_fill sz Pr h1 65 [some (.ref o), some (.int (nI p)), some (.int (nI n)), none, some (.int (nI (code / p ^ s))), some (.int (nI i)), some (.int (nI j)), none] [] := by
  obtain ⟨k1, k2, k3, k4⟩ := hK.b
  intro j
  induction j with
  | zero =>
    intro hj s hs h1 hW hW0 he
    refine e_iload (pc := 65) dX2_fill_65 rfl ?_
    refine n_if_le (pc := 67) (tgt := 112) dX2_fill_67 (by decide) (by omega) (fun _ => ?_) (fun c => absurd rfl c)
    refine V.mask [true, true, true, false, true, true, false, false] ?_
    have q0 := hW0 rfl
    rw [hs] at q0 ⊢
    exact kk h1 q0 he
  | succ j ih =>
    intro hj s hs h1 hW hW0 he
    obtain ⟨f1, hW⟩ := hW
    refine e_iload (pc := 65) dX2_fill_65 rfl ?_
    refine n_if_le (pc := 67) (tgt := 112) dX2_fill_67 (by decide) (by omega) (fun c => absurd c (by omega)) (fun _ => ?_)
    refine e_iload_n (pc := 70) dX2_fill_70 rfl rfl ?_
    refine n_iconst (pc := 71) 1 dX2_fill_71 (by decide) ?_
    refine n_isub (pc := 72) dX2_fill_72 (by omega) ?_
    refine e_istore (pc := 73) dX2_fill_73 (by decide) ?_
    refine l_fl_k (hh := hh) hK hi hj i0 (Nat.succ_pos j) hc (fun h2 hW2 he2 => ?_) (n - 1) (by omega) s (by omega) h1 f1 hW he
    refine n_dec (pc := 106) dX2_fill_106 rfl (by decide) ?_
    refine e_goto (pc := 109) (tgt := 65) dX2_fill_109 (by decide) ?_
    have e : ((n - 1 - i) * (n - 1) + (n - 1 - (j + 1))) * n + n = ((n - 1 - i) * (n - 1) + (n - 1 - j)) * n := by
      rw [show n - 1 - j = n - 1 - (j + 1) + 1 by omega, ← Nat.add_assoc, Nat.add_mul _ 1 n, Nat.one_mul]
    refine V.mask [true, true, true, false, true, true, true, false] ?_
    exact ih (by omega) _ e h2 ⟨_, hW2⟩ (fun _ => hW2) he2
theorem l_fl_i (hK : Kd p n) (hc : code < 2 ^ 31) :
    ∀ (i : Nat), i < n → ∀ s, s = (n - 1 - i) * (n - 1) * n → ∀ h1, (∃ f1, WAt h1 o (lws p n code s) f1) → (i = 0 → WAt h1 o (lws p n code s) (-2)) → Ew o hh h1 → VV MX2_fill sz (fun h' => WAt h' o (lw p n code) (-2) ∧ Ew o hh h') h1 55 [some (.ref o), some (.int (nI p)), some (.int (nI n)), none, some (.int (nI (code / p ^ s))), some (.int (nI i)), none, none] [] := by
  obtain ⟨k1, k2, k3, k4⟩ := hK.b
  intro i
  induction i with
  | zero =>
    intro hi s hs h1 hW hW0 he
    refine e_iload (pc := 55) dX2_fill_55 rfl ?_
    refine n_if_le (pc := 57) (tgt := 118) dX2_fill_57 (by decide) (by omega) (fun _ => ?_) (fun c => absurd rfl c)
    refine n_vret (pc := 118) dX2_fill_118 rfl ⟨?_, he⟩
    have q := hW0 rfl
    rw [hs] at q
    exact q
  | succ i ih =>
    intro hi s hs h1 hW hW0 he
    refine e_iload (pc := 55) dX2_fill_55 rfl ?_
    refine n_if_le (pc := 57) (tgt := 118) dX2_fill_57 (by decide) (by omega) (fun c => absurd c (by omega)) (fun _ => ?_)
    refine e_iload_n (pc := 60) dX2_fill_60 rfl rfl ?_
    refine n_iconst (pc := 61) 1 dX2_fill_61 (by decide) ?_
    refine n_isub (pc := 62) dX2_fill_62 (by omega) ?_
    refine e_istore (pc := 63) dX2_fill_63 (by decide) ?_
    have e1 : ((n - 1 - (i + 1)) * (n - 1) + (n - 1 - (n - 1))) * n = s := by rw [hs, Nat.sub_self, Nat.add_zero]
    refine l_fl_j (hh := hh) hK hi (Nat.succ_pos i) hc (fun h2 hW2 he2 => ?_) (n - 1) (by omega) s e1.symm h1 hW (fun q => by omega) he
    refine n_dec (pc := 112) dX2_fill_112 rfl (by decide) ?_
    refine e_goto (pc := 115) (tgt := 55) dX2_fill_115 (by decide) ?_
    have e : ((n - 1 - (i + 1)) * (n - 1) + (n - 1)) * n = (n - 1 - i) * (n - 1) * n := by
      rw [show n - 1 - i = n - 1 - (i + 1) + 1 by omega, Nat.add_mul _ 1 (n - 1), Nat.one_mul]
    exact ih (by omega) _ e h2 ⟨_, hW2⟩ (fun _ => hW2) he2
theorem l_fl_0 (hK : Kd p n) (hc : code < 2 ^ 31) :
    ∀ (m i : Nat), m = n - i → i ≤ n → ∀ h1, (∃ f1, WAt h1 o (wfa p n i i) f1) → Ew o hh h1 → VV MX2_fill sz (fun h' => WAt h' o (lw p n code) (-2) ∧ Ew o hh h') h1 9 [some (.ref o), some (.int (nI p)), some (.int (nI n)), some (.int (nI code)), some (.int (nI i)), none, none, none] [] := by
  obtain ⟨k1, k2, k3, k4⟩ := hK.b
  have hp : 2 ≤ p ∧ p ≤ 5 := by rcases k1 with h | h | h <;> omega
  intro m
  induction m with
  | zero =>
    intro i e1 e2 h1 hW he
    have e' : i = n := by omega
    subst e'
    refine e_iload (pc := 9) dX2_fill_9 rfl ?_
    refine e_iload_n (pc := 11) dX2_fill_11 rfl rfl ?_
    refine n_icmp_ge (pc := 12) (tgt := 47) dX2_fill_12 (by decide) (by omega) (by omega) (fun hb_ => ?_) (fun c => absurd c (by omega))
    refine e_iload_n (pc := 47) dX2_fill_47 rfl rfl ?_
    refine e_istore (pc := 48) dX2_fill_48 (by decide) ?_
    refine e_iload_n (pc := 50) dX2_fill_50 rfl rfl ?_
    refine n_iconst (pc := 51) 1 dX2_fill_51 (by decide) ?_
    refine n_isub (pc := 52) dX2_fill_52 (by omega) ?_
    refine e_istore (pc := 53) dX2_fill_53 (by decide) ?_
    refine V.mask [true, true, true, false, true, true, false, false] ?_
    rw [wfa_n (code := code)] at hW
    have q := l_fl_i (sz := sz) (hh := hh) hK hc (i - 1) (by omega) 0 (by rw [Nat.sub_self, Nat.zero_mul, Nat.zero_mul]) h1 hW (fun q => by omega) he
    rw [Nat.pow_zero, Nat.div_one] at q
    exact q
  | succ m ih =>
    intro i e1 e2 h1 hW he
    have hi : i < n := by omega
    obtain ⟨f1, hW⟩ := hW
    have pi : p ^ i ≤ 25 := Nat.le_trans (Nat.pow_le_pow_right (by omega) (by omega)) k3
    refine e_iload (pc := 9) dX2_fill_9 rfl ?_
    refine e_iload_n (pc := 11) dX2_fill_11 rfl rfl ?_
    refine n_icmp_ge (pc := 12) (tgt := 47) dX2_fill_12 (by decide) (by omega) (by omega) (fun c => absurd c (by omega)) (fun hb_ => ?_)
    refine e_aload_n (pc := 15) dX2_fill_15 rfl rfl ?_
    refine n_iconst (pc := 16) 0 dX2_fill_16 (by decide) ?_
    refine e_iload (pc := 17) dX2_fill_17 rfl ?_
    refine e_aload_n (pc := 19) dX2_fill_19 rfl rfl ?_
    refine e_iload (pc := 20) dX2_fill_20 rfl ?_
    refine n_VP (pc := 22) (c_X9_base hW (wfa_ok k4) (show i ≤ 5 by omega)) bX9_base q_i_X9_base q_s_X9_base q_m_X2_70 dX2_fill_22 rfl rfl (by repeat (first | assumption | exact hset_eq _ _ _ | (apply WAt.hd; assumption) | rw [hset_ne _ _ (by omega)])) rfl rfl (by exact Nat.le_of_ble_eq_true rfl) ⟨by decide, by decide⟩ ⟨rfl, rfl, Nat.zero_le _, Nat.zero_le _⟩ ?_
    refine n_Vv (pc := 25) (c_X9_putRow hW (wfa_ok k4) (show 0 < n by omega) hi (show p ^ i < 3125 by omega)) bX9_putRow q_i_X9_putRow q_s_X9_putRow q_m_X2_84 dX2_fill_25 rfl rfl (by repeat (first | assumption | exact hset_eq _ _ _ | (apply WAt.hd; assumption) | rw [hset_ne _ _ (by omega)])) rfl rfl (by exact Nat.le_of_ble_eq_true rfl) ⟨by decide, by decide⟩ ⟨rfl, rfl, Nat.zero_le _, Nat.zero_le _⟩ (fun h2 hp2 => ?_)
    obtain ⟨p1, p2⟩ := hp2
    have p1 : WAt h2 o (wfa p n (i + 1) i) (-2) := by rw [← wfa_r (by omega) (by omega) hi]; exact p1
    refine e_aload_n (pc := 28) dX2_fill_28 rfl rfl ?_
    refine e_iload (pc := 29) dX2_fill_29 rfl ?_
    refine n_iconst (pc := 31) 0 dX2_fill_31 (by decide) ?_
    refine e_aload_n (pc := 32) dX2_fill_32 rfl rfl ?_
    refine e_iload (pc := 33) dX2_fill_33 rfl ?_
    refine n_VP (pc := 35) (c_X9_base p1 (wfa_ok k4) (show i ≤ 5 by omega)) bX9_base q_i_X9_base q_s_X9_base q_m_X2_70 dX2_fill_35 rfl rfl (by repeat (first | assumption | exact hset_eq _ _ _ | (apply WAt.hd; assumption) | rw [hset_ne _ _ (by omega)])) rfl rfl (by exact Nat.le_of_ble_eq_true rfl) ⟨by decide, by decide⟩ ⟨rfl, rfl, Nat.zero_le _, Nat.zero_le _⟩ ?_
    refine n_Vv (pc := 38) (c_X9_putRow p1 (wfa_ok k4) hi (show 0 < n by omega) (show p ^ i < 3125 by omega)) bX9_putRow q_i_X9_putRow q_s_X9_putRow q_m_X2_84 dX2_fill_38 rfl rfl (by repeat (first | assumption | exact hset_eq _ _ _ | (apply WAt.hd; assumption) | rw [hset_ne _ _ (by omega)])) rfl rfl (by exact Nat.le_of_ble_eq_true rfl) ⟨by decide, by decide⟩ ⟨rfl, rfl, Nat.zero_le _, Nat.zero_le _⟩ (fun h3 hp3 => ?_)
    obtain ⟨r1, r2⟩ := hp3
    have r1 : WAt h3 o (wfa p n (i + 1) (i + 1)) (-2) := by rw [← wfa_c (by omega) (by omega) hi]; exact r1
    refine n_inc (pc := 41) dX2_fill_41 rfl (by decide) ?_
    refine e_goto (pc := 44) (tgt := 9) dX2_fill_44 (by decide) ?_
    exact ih (i + 1) (by omega) (by omega) h3 ⟨_, r1⟩ ((he.tr p2).tr r2)
end FL0
theorem c_X2_fill (hW : WAt h o W f) (hk : Wok W) (hK : Kd p n) (hc : code < 2 ^ 31) : CV yX2_fill MX2_fill [.ref o, .int (nI p), .int (nI n), .int (nI code)] h (fun h' => WAt h' o (lw p n code) (-2) ∧ Ew o h h') := by
  refine CV.ofV (by decide) rfl rfl (by simp [Value.category]) (by exact Nat.le_of_ble_eq_true rfl) (fun sz => ?_)
  refine e_aload_n (pc := 0) dX2_fill_0 rfl rfl ?_
  refine e_iload_n (pc := 1) dX2_fill_1 rfl rfl ?_
  refine e_iload_n (pc := 2) dX2_fill_2 rfl rfl ?_
  refine n_Vv (pc := 3) (c_X9_clear hW hk hK.b.2.2.2) bX9_clear q_i_X9_clear q_s_X9_clear q_m_X2_81 dX2_fill_3 rfl rfl (by repeat (first | assumption | exact hset_eq _ _ _ | (apply WAt.hd; assumption) | rw [hset_ne _ _ (by omega)])) rfl rfl (by exact Nat.le_of_ble_eq_true rfl) ⟨by decide, by decide⟩ ⟨rfl, rfl, Nat.zero_le _, Nat.zero_le _⟩ (fun h2 hp2 => ?_)
  obtain ⟨p1, p2⟩ := hp2
  refine n_iconst (pc := 6) 0 dX2_fill_6 (by decide) ?_
  refine e_istore (pc := 7) dX2_fill_7 (by decide) ?_
  exact l_fl_0 (hh := h) hK hc n 0 rfl (Nat.zero_le _) h2 ⟨-2, by rw [wfa_0]; exact p1⟩ p2
end LF
