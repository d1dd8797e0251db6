/-! contracts of methods that make no cell: an int (or boolean), nothing, or a reference as the answer -/
abbrev PI (sz : Nat) (Pr : Int32 → AH → Prop) : Option Value → AH → Nat → Prop := fun r h' z => z = sz ∧ ∃ x : Int32, r = some (.int x) ∧ Pr x h'
abbrev PV (sz : Nat) (Pr : AH → Prop) : Option Value → AH → Nat → Prop := fun r h' z => z = sz ∧ r = none ∧ Pr h'
abbrev PR (sz : Nat) (Pr : Option Nat → AH → Prop) : Option Value → AH → Nat → Prop := fun r h' z => z = sz ∧ ∃ x : Option Nat, r = some (va_rf x) ∧ Pr x h'
abbrev VI (M : MI) (sz : Nat) (Pr : Int32 → AH → Prop) (h : AH) (pc : Nat) (ls : List (Option Value)) (st : List Value) : Prop := V M (PI sz Pr) (sz, 0, 0) h pc ls st
abbrev VV (M : MI) (sz : Nat) (Pr : AH → Prop) (h : AH) (pc : Nat) (ls : List (Option Value)) (st : List Value) : Prop := V M (PV sz Pr) (sz, 0, 0) h pc ls st
abbrev VR (M : MI) (sz : Nat) (Pr : Option Nat → AH → Prop) (h : AH) (pc : Nat) (ls : List (Option Value)) (st : List Value) : Prop := V M (PR sz Pr) (sz, 0, 0) h pc ls st
def CI (y : MethodName) (M : MI) (av : List Value) (h : AH) (Pr : Int32 → AH → Prop) : Prop := ∀ sz, Cn y M av sz h (PI sz Pr)
def CV (y : MethodName) (M : MI) (av : List Value) (h : AH) (Pr : AH → Prop) : Prop := ∀ sz, Cn y M av sz h (PV sz Pr)
def CR (y : MethodName) (M : MI) (av : List Value) (h : AH) (Pr : Option Nat → AH → Prop) : Prop := ∀ sz, Cn y M av sz h (PR sz Pr)
/-- an int that depends on nothing but what is asked, the heap as it was -/
abbrev CP (y : MethodName) (M : MI) (av : List Value) (h : AH) (v : Int32) : Prop := CI y M av h (fun x h' => x = v ∧ h' = h)
section EN5
variable {y : MethodName} {M : MI} {av : List Value} {h : AH}
theorem CI.ofV {Pr : Int32 → AH → Prop} (hy : plainName y.cls = true) (hown : MI.own M = y.cls) (hini : MI.ini M = false) (h1 : ∀ v ∈ av, v.category = 1) (hn : av.length ≤ MI.nL M) (k : ∀ sz, VI M sz Pr h 0 (en_l0 (MI.nL M) av) []) : CI y M av h Pr := fun sz => Cn.ofV hy hown (fun q => by rw [hini] at q; cases q) h1 hn (k sz)
theorem CV.ofV {Pr : AH → Prop} (hy : plainName y.cls = true) (hown : MI.own M = y.cls) (hini : MI.ini M = false) (h1 : ∀ v ∈ av, v.category = 1) (hn : av.length ≤ MI.nL M) (k : ∀ sz, VV M sz Pr h 0 (en_l0 (MI.nL M) av) []) : CV y M av h Pr := fun sz => Cn.ofV hy hown (fun q => by rw [hini] at q; cases q) h1 hn (k sz)
theorem CR.ofV {Pr : Option Nat → AH → Prop} (hy : plainName y.cls = true) (hown : MI.own M = y.cls) (hini : MI.ini M = false) (h1 : ∀ v ∈ av, v.category = 1) (hn : av.length ≤ MI.nL M) (k : ∀ sz, VR M sz Pr h 0 (en_l0 (MI.nL M) av) []) : CR y M av h Pr := fun sz => Cn.ofV hy hown (fun q => by rw [hini] at q; cases q) h1 hn (k sz)
theorem CI.mono {P P2 : Int32 → AH → Prop} (c : CI y M av h P) (hp : ∀ x h', P x h' → P2 x h') : CI y M av h P2 := fun sz => (c sz).post (fun r h' z ⟨a, x, b, d⟩ => ⟨a, x, b, hp _ _ d⟩)
theorem CV.mono {P P2 : AH → Prop} (c : CV y M av h P) (hp : ∀ h', P h' → P2 h') : CV y M av h P2 := fun sz => (c sz).post (fun r h' z ⟨a, b, d⟩ => ⟨a, b, hp _ d⟩)
theorem CR.mono {P P2 : Option Nat → AH → Prop} (c : CR y M av h P) (hp : ∀ x h', P x h' → P2 x h') : CR y M av h P2 := fun sz => (c sz).post (fun r h' z ⟨a, x, b, d⟩ => ⟨a, x, b, hp _ _ d⟩)
variable {sz pc : Nat} {ls : List (Option Value)} {st : List Value}
theorem n_iret {Pr : Int32 → AH → Prop} {x : Int32} (hd : decode (MI.cc M) pc = .ok (.ireturn, 1)) (hr : MI.rt M = some .int) (hp : Pr x h) : VI M sz Pr h pc ls [.int x] := e_iret hd hr ⟨Nat.zero_le _, Nat.zero_le _⟩ ⟨rfl, x, rfl, hp⟩
theorem n_zret {Pr : Int32 → AH → Prop} {x : Int32} (hd : decode (MI.cc M) pc = .ok (.ireturn, 1)) (hr : MI.rt M = some .boolean) (hx : narrow .boolean (.int x) = .int x) (hp : Pr x h) : VI M sz Pr h pc ls [.int x] := e_zret hd hr hx ⟨Nat.zero_le _, Nat.zero_le _⟩ ⟨rfl, x, rfl, hp⟩
theorem n_vret {Pr : AH → Prop} (hd : decode (MI.cc M) pc = .ok (.return_, 1)) (hr : MI.rt M = none) (hp : Pr h) : VV M sz Pr h pc ls [] := e_vret hd hr ⟨Nat.zero_le _, Nat.zero_le _⟩ ⟨rfl, rfl, hp⟩
theorem n_aret {Pr : Option Nat → AH → Prop} (x : Option Nat) (hd : decode (MI.cc M) pc = .ok (.areturn, 1)) (hr : ∃ C, MI.rt M = some (.object C)) (hp : Pr x h) : VR M sz Pr h pc ls [va_rf x] := e_aret hd hr ⟨Nat.zero_le _, Nat.zero_le _⟩ ⟨rfl, x, rfl, hp⟩
end EN5
section EN6
variable {M : MI} {Post : Option Value → AH → Nat → Prop} {al : Nat × Nat × Nat} {h : AH} {pc : Nat} {ls : List (Option Value)} {st st0 : List Value} {y : MethodName} {M2 : MI} {n idx b ci : Nat} {fs : List Value} {r0 : vw_C} {As : List Value}
theorem n_S {Pr : Int32 → AH → Prop} (C : CI y M2 As h Pr) (by0 : BY y M2 n) (hi : (Cond.static y) ∈ lw_good) (hlk : (Cond.methodLink (MI.own M) idx y) ∈ lw_good) (hd : decode (MI.cc M) pc = .ok (.invokestatic idx, 3)) (hn : As.length = n) (hs0 : st0 = As.reverse ++ st) (hst : (st.map fun v => v.category).sum ≤ 8) (hdp : MI.dp M2 + 1 ≤ MI.dp M ∧ MI.lo M2 + 19 + MI.nL M2 ≤ MI.lo M) (hroom : MI.mc M2 = 0 ∧ MI.ms M2 = 0 ∧ al.2.1 ≤ MI.mc M ∧ al.2.2 ≤ MI.ms M)
    (k : ∀ (x : Int32) (h2 : AH), Pr x h2 → V M Post al h2 (pc + 3) ls (.int x :: st)) : V M Post al h pc ls st0 := by
  subst hs0
  refine e_callS (C al.1) by0 hi hlk hd hn hst hdp ⟨by omega, by omega⟩ (fun r h2 z2 hp => ?_)
  obtain ⟨rfl, x, rfl, hp⟩ := hp
  rw [hroom.1, hroom.2.1]
  exact k x h2 hp
theorem n_Sv {Pr : AH → Prop} (C : CV y M2 As h Pr) (by0 : BY y M2 n) (hi : (Cond.static y) ∈ lw_good) (hlk : (Cond.methodLink (MI.own M) idx y) ∈ lw_good) (hd : decode (MI.cc M) pc = .ok (.invokestatic idx, 3)) (hn : As.length = n) (hs0 : st0 = As.reverse ++ st) (hst : (st.map fun v => v.category).sum ≤ 8) (hdp : MI.dp M2 + 1 ≤ MI.dp M ∧ MI.lo M2 + 19 + MI.nL M2 ≤ MI.lo M) (hroom : MI.mc M2 = 0 ∧ MI.ms M2 = 0 ∧ al.2.1 ≤ MI.mc M ∧ al.2.2 ≤ MI.ms M)
    (k : ∀ (h2 : AH), Pr h2 → V M Post al h2 (pc + 3) ls st) : V M Post al h pc ls st0 := by
  subst hs0
  refine e_callS (C al.1) by0 hi hlk hd hn hst hdp ⟨by omega, by omega⟩ (fun r h2 z2 hp => ?_)
  obtain ⟨rfl, rfl, hp⟩ := hp
  rw [hroom.1, hroom.2.1]
  exact k h2 hp
theorem n_V {Pr : Int32 → AH → Prop} (C : CI y M2 (.ref b :: As) h Pr) (by0 : BY y M2 n) (hi : (Cond.instanceMethod y) ∈ lw_good) (hsel : (Cond.selects y.cls y y) ∈ lw_good) (hlk : (Cond.methodLink (MI.own M) idx y) ∈ lw_good) (hd : decode (MI.cc M) pc = .ok (.invokevirtual idx, 3)) (hn : As.length = n) (hs0 : st0 = As.reverse ++ .ref b :: st) (hb0 : h b = some (ob ci fs)) (hc : vwCl[ci]? = some r0) (hr0 : r0.1 = y.cls) (hst : (st.map fun v => v.category).sum ≤ 8) (hdp : MI.dp M2 + 1 ≤ MI.dp M ∧ MI.lo M2 + 19 + MI.nL M2 ≤ MI.lo M) (hroom : MI.mc M2 = 0 ∧ MI.ms M2 = 0 ∧ al.2.1 ≤ MI.mc M ∧ al.2.2 ≤ MI.ms M)
    (k : ∀ (x : Int32) (h2 : AH), Pr x h2 → V M Post al h2 (pc + 3) ls (.int x :: st)) : V M Post al h pc ls st0 := by
  subst hs0
  refine e_callV (C al.1) by0 hi hsel hlk hd hn hb0 hc hr0 hst hdp ⟨by omega, by omega⟩ (fun r h2 z2 hp => ?_)
  obtain ⟨rfl, x, rfl, hp⟩ := hp
  rw [hroom.1, hroom.2.1]
  exact k x h2 hp
theorem n_Vv {Pr : AH → Prop} (C : CV y M2 (.ref b :: As) h Pr) (by0 : BY y M2 n) (hi : (Cond.instanceMethod y) ∈ lw_good) (hsel : (Cond.selects y.cls y y) ∈ lw_good) (hlk : (Cond.methodLink (MI.own M) idx y) ∈ lw_good) (hd : decode (MI.cc M) pc = .ok (.invokevirtual idx, 3)) (hn : As.length = n) (hs0 : st0 = As.reverse ++ .ref b :: st) (hb0 : h b = some (ob ci fs)) (hc : vwCl[ci]? = some r0) (hr0 : r0.1 = y.cls) (hst : (st.map fun v => v.category).sum ≤ 8) (hdp : MI.dp M2 + 1 ≤ MI.dp M ∧ MI.lo M2 + 19 + MI.nL M2 ≤ MI.lo M) (hroom : MI.mc M2 = 0 ∧ MI.ms M2 = 0 ∧ al.2.1 ≤ MI.mc M ∧ al.2.2 ≤ MI.ms M)
    (k : ∀ (h2 : AH), Pr h2 → V M Post al h2 (pc + 3) ls st) : V M Post al h pc ls st0 := by
  subst hs0
  refine e_callV (C al.1) by0 hi hsel hlk hd hn hb0 hc hr0 hst hdp ⟨by omega, by omega⟩ (fun r h2 z2 hp => ?_)
  obtain ⟨rfl, rfl, hp⟩ := hp
  rw [hroom.1, hroom.2.1]
  exact k h2 hp
theorem n_Vr {Pr : Option Nat → AH → Prop} (C : CR y M2 (.ref b :: As) h Pr) (by0 : BY y M2 n) (hi : (Cond.instanceMethod y) ∈ lw_good) (hsel : (Cond.selects y.cls y y) ∈ lw_good) (hlk : (Cond.methodLink (MI.own M) idx y) ∈ lw_good) (hd : decode (MI.cc M) pc = .ok (.invokevirtual idx, 3)) (hn : As.length = n) (hs0 : st0 = As.reverse ++ .ref b :: st) (hb0 : h b = some (ob ci fs)) (hc : vwCl[ci]? = some r0) (hr0 : r0.1 = y.cls) (hst : (st.map fun v => v.category).sum ≤ 8) (hdp : MI.dp M2 + 1 ≤ MI.dp M ∧ MI.lo M2 + 19 + MI.nL M2 ≤ MI.lo M) (hroom : MI.mc M2 = 0 ∧ MI.ms M2 = 0 ∧ al.2.1 ≤ MI.mc M ∧ al.2.2 ≤ MI.ms M)
    (k : ∀ (x : Option Nat) (h2 : AH), Pr x h2 → V M Post al h2 (pc + 3) ls (va_rf x :: st)) : V M Post al h pc ls st0 := by
  subst hs0
  refine e_callV (C al.1) by0 hi hsel hlk hd hn hb0 hc hr0 hst hdp ⟨by omega, by omega⟩ (fun r h2 z2 hp => ?_)
  obtain ⟨rfl, x, rfl, hp⟩ := hp
  rw [hroom.1, hroom.2.1]
  exact k x h2 hp
-- the same, the answer known and the heap as it was
theorem n_SP {v : Int32} (C : CP y M2 As h v) (by0 : BY y M2 n) (hi : (Cond.static y) ∈ lw_good) (hlk : (Cond.methodLink (MI.own M) idx y) ∈ lw_good) (hd : decode (MI.cc M) pc = .ok (.invokestatic idx, 3)) (hn : As.length = n) (hs0 : st0 = As.reverse ++ st) (hst : (st.map fun v => v.category).sum ≤ 8) (hdp : MI.dp M2 + 1 ≤ MI.dp M ∧ MI.lo M2 + 19 + MI.nL M2 ≤ MI.lo M) (hroom : MI.mc M2 = 0 ∧ MI.ms M2 = 0 ∧ al.2.1 ≤ MI.mc M ∧ al.2.2 ≤ MI.ms M)
    (k : V M Post al h (pc + 3) ls (.int v :: st)) : V M Post al h pc ls st0 := n_S C by0 hi hlk hd hn hs0 hst hdp hroom (fun x h2 hp => by obtain ⟨rfl, rfl⟩ := hp; exact k)
theorem n_VP {v : Int32} (C : CP y M2 (.ref b :: As) h v) (by0 : BY y M2 n) (hi : (Cond.instanceMethod y) ∈ lw_good) (hsel : (Cond.selects y.cls y y) ∈ lw_good) (hlk : (Cond.methodLink (MI.own M) idx y) ∈ lw_good) (hd : decode (MI.cc M) pc = .ok (.invokevirtual idx, 3)) (hn : As.length = n) (hs0 : st0 = As.reverse ++ .ref b :: st) (hb0 : h b = some (ob ci fs)) (hc : vwCl[ci]? = some r0) (hr0 : r0.1 = y.cls) (hst : (st.map fun v => v.category).sum ≤ 8) (hdp : MI.dp M2 + 1 ≤ MI.dp M ∧ MI.lo M2 + 19 + MI.nL M2 ≤ MI.lo M) (hroom : MI.mc M2 = 0 ∧ MI.ms M2 = 0 ∧ al.2.1 ≤ MI.mc M ∧ al.2.2 ≤ MI.ms M)
    (k : V M Post al h (pc + 3) ls (.int v :: st)) : V M Post al h pc ls st0 := n_V C by0 hi hsel hlk hd hn hs0 hb0 hc hr0 hst hdp hroom (fun x h2 hp => by obtain ⟨rfl, rfl⟩ := hp; exact k)
theorem e_aldQS {a n : Nat} {f : Nat → Option Nat} {i : Int32} (j : Nat) {q : Nat} (hd : decode (MI.cc M) pc = .ok (.aaload, 1)) (hh : h a = some (aQ n f)) (hi : i = nI j) (hj : j < n) (hn : n < 2 ^ 31) (hq : f j = some q) (k : V M Post al h (pc + 1) ls (.ref q :: st)) : V M Post al h pc ls (.int i :: .ref a :: st) := e_aldQ j hd hh hi hj hn (by rw [hq]; exact k)
theorem e_aldGS {a n : Nat} {f : Nat → Option Nat} {i : Int32} (j : Nat) {q : Nat} (hd : decode (MI.cc M) pc = .ok (.aaload, 1)) (hh : h a = some (aG n f)) (hi : i = nI j) (hj : j < n) (hn : n < 2 ^ 31) (hq : f j = some q) (k : V M Post al h (pc + 1) ls (.ref q :: st)) : V M Post al h pc ls (.int i :: .ref a :: st) := e_aldG j hd hh hi hj hn (by rw [hq]; exact k)
end EN6
