/-! ===== Lists: worlds with the unit 1 told by a number ===== -/
theorem WAt.hd {h : AH} {o : Nat} {W : Wd} {f : Int32} (q : WAt h o W f) : h o = some (ob 8 [.int (nI W.1), .int (nI W.2.1), .int (nI (W.1 ^ W.2.1)), .int f, .ref (o + 1), .ref (o + 2)]) := q.1
/-- which worlds are listed -/
def Kd (p n : Nat) : Prop := (n = 2 ∧ (p = 2 ∨ p = 3 ∨ p = 5)) ∨ (n = 3 ∧ p = 2)
def plc (n t : Nat) : Nat := if n = 2 then 1 - t % 5 else (2 - t / 25) * 6 + (2 - t / 5 % 5) * 3 + (2 - t % 5)
def ua (a b t : Nat) : Nat := if t / 25 = 0 ∧ t / 5 % 5 < a then (if t % 5 = t / 5 % 5 then 1 else 0) else if t / 5 % 5 = 0 ∧ t / 25 < b then (if t % 5 = t / 25 then 1 else 0) else 0
def wfa (p n a b : Nat) : Wd := (p, n, fun t => if inC n t then ua a b t else 0)
def lws (p n code s : Nat) : Wd := (p, n, fun t => if inC n t then (if t / 25 = 0 ∨ t / 5 % 5 = 0 then ua n n t else if plc n t < s then dg p code (plc n t) else 0) else 0)
def lcm (n : Nat) : Nat := (n - 1) * (n - 1) * n
def lw (p n code : Nat) : Wd := lws p n code (lcm n)
theorem Kd.b {p n : Nat} (h : Kd p n) : (p = 2 ∨ p = 3 ∨ p = 5) ∧ (n = 2 ∨ n = 3) ∧ p ^ n ≤ 25 ∧ canBe p n := by
  rcases h with ⟨rfl, rfl | rfl | rfl⟩ | ⟨rfl, rfl⟩ <;> (refine ⟨by decide, by decide, by decide, ?_⟩; unfold canBe; decide)
theorem wd_ok {p n : Nat} (h : canBe p n) {c : Nat → Nat} (hc : ∀ t, c t < p) : Wok (p, n, fun t => if inC n t then c t else 0) := by
  have hp : 0 < p := by rcases h.1 with h | h | h <;> omega
  refine ⟨h.1, h.2.1, h.2.2.1, h.2.2.2, fun t => ?_⟩
  show (if inC n t then c t else 0) < p ∧ (¬ inC n t → (if inC n t then c t else 0) = 0)
  by_cases e : inC n t
  · rw [if_pos e]; exact ⟨hc t, fun z => absurd e z⟩
  · rw [if_neg e]; exact ⟨hp, fun _ => rfl⟩
theorem ua_lt {p a b t : Nat} (hp : 2 ≤ p) : ua a b t < p := by
  unfold ua
  split
  · split <;> omega
  · split
    · split <;> omega
    · omega
theorem wfa_ok {p n a b : Nat} (h : canBe p n) : Wok (wfa p n a b) := wd_ok h (fun t => ua_lt (by rcases h.1 with h | h | h <;> omega))
theorem lws_ok {p n code s : Nat} (h : canBe p n) : Wok (lws p n code s) := wd_ok h (fun t => by
  have hp : 2 ≤ p := by rcases h.1 with h | h | h <;> omega
  split
  · exact ua_lt hp
  · split
    · exact dg_lt (by omega) _ _
    · omega)
theorem lw_ok {p n code : Nat} (h : canBe p n) : Wok (lw p n code) := lws_ok h
theorem wfa_0 (p n : Nat) : wfa p n 0 0 = (p, n, fun _ => 0) := by
  unfold wfa
  refine congrArg (fun z => (p, n, z)) (funext fun t => ?_)
  unfold ua
  rw [if_neg (show ¬ (t / 25 = 0 ∧ t / 5 % 5 < 0) by omega), if_neg (show ¬ (t / 5 % 5 = 0 ∧ t / 25 < 0) by omega)]
  exact ite_self _
theorem wfa_r {p n i : Nat} (hp : 1 < p) (hn : n ≤ 5) (hi : i < n) : wrow (wfa p n i i) 0 i n (p ^ i) = wfa p n (i + 1) i := by
  unfold wrow wfa
  refine congrArg (fun z => (p, n, z)) (funext fun t => ?_)
  show (if 25 * 0 + 5 * i ≤ t ∧ t < 25 * 0 + 5 * i + n then dg p (p ^ i) (t - (25 * 0 + 5 * i)) else if inC n t then ua i i t else 0) = if inC n t then ua (i + 1) i t else 0
  by_cases c : 25 * 0 + 5 * i ≤ t ∧ t < 25 * 0 + 5 * i + n
  · have e1 : t / 25 = 0 := by omega
    have e2 : t / 5 % 5 = i := by omega
    have e3 : t % 5 = t - (25 * 0 + 5 * i) := by omega
    rw [if_pos c, dg_pow hp, if_pos (show inC n t from ⟨by omega, by omega, by omega, by omega⟩)]
    unfold ua
    rw [if_pos (show t / 25 = 0 ∧ t / 5 % 5 < i + 1 by omega), e2, e3]
  · rw [if_neg c]
    by_cases d : inC n t
    · rw [if_pos d, if_pos d]
      obtain ⟨d1, d2, d3, d4⟩ := d
      unfold ua
      by_cases e : t / 25 = 0 ∧ t / 5 % 5 < i
      · rw [if_pos e, if_pos (show t / 25 = 0 ∧ t / 5 % 5 < i + 1 by omega)]
      · rw [if_neg e, if_neg (show ¬ (t / 25 = 0 ∧ t / 5 % 5 < i + 1) by omega)]
    · rw [if_neg d, if_neg d]
theorem wfa_c {p n i : Nat} (hp : 1 < p) (hn : n ≤ 5) (hi : i < n) : wrow (wfa p n (i + 1) i) i 0 n (p ^ i) = wfa p n (i + 1) (i + 1) := by
  unfold wrow wfa
  refine congrArg (fun z => (p, n, z)) (funext fun t => ?_)
  show (if 25 * i + 5 * 0 ≤ t ∧ t < 25 * i + 5 * 0 + n then dg p (p ^ i) (t - (25 * i + 5 * 0)) else if inC n t then ua (i + 1) i t else 0) = if inC n t then ua (i + 1) (i + 1) t else 0
  by_cases c : 25 * i + 5 * 0 ≤ t ∧ t < 25 * i + 5 * 0 + n
  · have e1 : t / 25 = i := by omega
    have e2 : t / 5 % 5 = 0 := by omega
    have e3 : t % 5 = t - (25 * i + 5 * 0) := by omega
    rw [if_pos c, dg_pow hp, if_pos (show inC n t from ⟨by omega, by omega, by omega, by omega⟩)]
    unfold ua
    by_cases e : t / 25 = 0 ∧ t / 5 % 5 < i + 1
    · rw [if_pos e, e2, e3, show i = 0 by omega]
    · rw [if_neg e, if_pos (show t / 5 % 5 = 0 ∧ t / 25 < i + 1 by omega), e1, e3]
  · rw [if_neg c]
    by_cases d : inC n t
    · rw [if_pos d, if_pos d]
      obtain ⟨d1, d2, d3, d4⟩ := d
      unfold ua
      by_cases e : t / 25 = 0 ∧ t / 5 % 5 < i + 1
      · rw [if_pos e, if_pos e]
      · rw [if_neg e, if_neg e]
        by_cases e4 : t / 5 % 5 = 0 ∧ t / 25 < i
        · rw [if_pos e4, if_pos (show t / 5 % 5 = 0 ∧ t / 25 < i + 1 by omega)]
        · rw [if_neg e4, if_neg (show ¬ (t / 5 % 5 = 0 ∧ t / 25 < i + 1) by omega)]
    · rw [if_neg d, if_neg d]
theorem wfa_n {p n code : Nat} : wfa p n n n = lws p n code 0 := by
  unfold wfa lws
  refine congrArg (fun z => (p, n, z)) (funext fun t => ?_)
  by_cases d : inC n t
  · rw [if_pos d, if_pos d]
    obtain ⟨d1, d2, d3, d4⟩ := d
    by_cases e : t / 25 = 0 ∨ t / 5 % 5 = 0
    · rw [if_pos e]
    · rw [if_neg e, if_neg (Nat.not_lt_zero _)]
      unfold ua
      rw [if_neg (show ¬ (t / 25 = 0 ∧ t / 5 % 5 < n) by omega), if_neg (show ¬ (t / 5 % 5 = 0 ∧ t / 25 < n) by omega)]
  · rw [if_neg d, if_neg d]
theorem plc_ij {n i j k : Nat} (hn : n = 2 ∨ n = 3) (hi : i < n) (hj : j < n) (hk : k < n) (i0 : 0 < i) (j0 : 0 < j) : plc n (25 * i + 5 * j + k) = ((n - 1 - i) * (n - 1) + (n - 1 - j)) * n + (n - 1 - k) := by
  have e1 : (25 * i + 5 * j + k) / 25 = i := by omega
  have e2 : (25 * i + 5 * j + k) / 5 % 5 = j := by omega
  have e3 : (25 * i + 5 * j + k) % 5 = k := by omega
  unfold plc
  rw [e1, e2, e3]
  rcases hn with rfl | rfl
  · rw [if_pos rfl, show i = 1 by omega, show j = 1 by omega]
    omega
  · rw [if_neg (by decide)]
    omega
theorem lws_s {p n code s i j k : Nat} (hn : n = 2 ∨ n = 3) (hi : i < n) (hj : j < n) (hk : k < n) (i0 : 0 < i) (j0 : 0 < j) (hs : plc n (25 * i + 5 * j + k) = s) : wput (lws p n code s) i j k (dg p code s) = lws p n code (s + 1) := by
  unfold wput lws
  refine congrArg (fun z => (p, n, z)) (funext fun t => ?_)
  show (if t = 25 * i + 5 * j + k then dg p code s else if inC n t then (if t / 25 = 0 ∨ t / 5 % 5 = 0 then ua n n t else if plc n t < s then dg p code (plc n t) else 0) else 0) = if inC n t then (if t / 25 = 0 ∨ t / 5 % 5 = 0 then ua n n t else if plc n t < s + 1 then dg p code (plc n t) else 0) else 0
  by_cases e : t = 25 * i + 5 * j + k
  · subst e
    rw [if_pos rfl, if_pos (show inC n (25 * i + 5 * j + k) from ⟨by omega, by omega, by omega, by omega⟩), if_neg (show ¬ ((25 * i + 5 * j + k) / 25 = 0 ∨ (25 * i + 5 * j + k) / 5 % 5 = 0) by omega), hs, if_pos (Nat.lt_succ_self s)]
  · rw [if_neg e]
    by_cases d : inC n t
    · rw [if_pos d, if_pos d]
      obtain ⟨d1, d2, d3, d4⟩ := d
      by_cases c : t / 25 = 0 ∨ t / 5 % 5 = 0
      · rw [if_pos c, if_pos c]
      · rw [if_neg c, if_neg c]
        have ne : plc n t ≠ s := by
          rw [← hs]
          unfold plc
          rcases hn with rfl | rfl
          · rw [if_pos rfl, if_pos rfl]; omega
          · rw [if_neg (by decide), if_neg (by decide)]; omega
        by_cases z : plc n t < s
        · rw [if_pos z, if_pos (by omega)]
        · rw [if_neg z, if_neg (by omega)]
    · rw [if_neg d, if_neg d]
section LF
variable {h : AH} {o : Nat} {W : Wd} {f : Int32} {p n code : Nat}
def kdn (p n : Nat) : Nat := if n = 3 then 1 else if p = 2 then 0 else if p = 3 then 2 else 3
section FL0
variable {sz : Nat} {hh : AH} {Pr : AH → Prop}
end FL0
end LF
