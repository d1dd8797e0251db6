/-! ===== the law's own judgement: V, and the script at sb can be read ===== -/
def SA (sb sL : Nat) (sx : Nat → Int32) (s : State) (A : Nat → Prop) : Prop := (∀ q, s.heap.size ≤ q → A q) ∧ va_X sb sL sx s s.heap ∧ sb < s.heap.size ∧ ¬ A sb
def VS (sb sL : Nat) (sx : Nat → Int32) (M : MI) (Post : Option Value → AH → Nat → Prop) (al : Nat × Nat × Nat) (h : AH) (pc : Nat) (ls : List (Option Value)) (st : List Value) : Prop :=
  ∀ (G : en_G) (p : Program) (l : Launch) (e : Env) (R : Room) (s : State) (m : MethodId) (args : Array Value) (below : List Frame) (meth : Method) (c : Code) (Q : State → Prop) (A : Nat → Prop) (H : Heap) (locs : List Jvm.Loc) (lsA : Array Slot),
    en_X M p R s m args meth c → en_F M G p l e R s m args below meth c Q A Post → SA sb sL sx s A → en_K G s → en_S G A s s.heap →
    en_P G h H → H.size = al.1 → (∀ q, h q ≠ none → A q) → va_S A s.heap H locs → en_L lsA (MI.nL M) ls →
    W p l e R s m args below meth c H locs al.2.1 al.2.2 Q (F0 m pc lsA st)
section VS1
variable {sb sL : Nat} {sx : Nat → Int32} {M : MI} {Post : Option Value → AH → Nat → Prop} {al : Nat × Nat × Nat} {h : AH} {pc : Nat} {ls : List (Option Value)} {st st0 : List Value} {y : MethodName} {M2 : MI} {n idx b ci : Nat} {As fs : List Value} {r0 : vw_C}
variable {a : Nat} {off : Int} {tgt : Nat}
theorem VS.go {pc2 : Nat} {st2 : List Value} (f : ∀ {p : Program} {l : Launch} {e : Env} {R : Room} {s : State} {m : MethodId} {args : Array Value} {below : List Frame} {meth : Method} {c : Code} {H : Heap} {locs : List Jvm.Loc} {cells slots : Nat} {Q : State → Prop} {lsA : Array Slot},
    p.tables.exec = Jvm.exec → c.code = MI.cc M → en_L lsA (MI.nL M) ls → W p l e R s m args below meth c H locs cells slots Q (F0 m pc2 lsA st2) → W p l e R s m args below meth c H locs cells slots Q (F0 m pc lsA st))
    (k : VS sb sL sx M Post al h pc2 ls st2) : VS sb sL sx M Post al h pc ls st := by
  intro G p l e R s m args below meth c Q A H locs lsA hX hF hA hK hT hP hz hd hS hl
  exact f hX.1 hX.2.1 hl (k G p l e R s m args below meth c Q A H locs lsA hX hF hA hK hT hP hz hd hS hl)
theorem VS.store {pc2 : Nat} {st2 : List Value} {ls2 : List (Option Value)} (f : ∀ {p : Program} {l : Launch} {e : Env} {R : Room} {s : State} {m : MethodId} {args : Array Value} {below : List Frame} {meth : Method} {c : Code} {H : Heap} {locs : List Jvm.Loc} {cells slots : Nat} {Q : State → Prop} {lsA : Array Slot},
    p.tables.exec = Jvm.exec → c.code = MI.cc M → en_L lsA (MI.nL M) ls → (∀ lsB, en_L lsB (MI.nL M) ls2 → W p l e R s m args below meth c H locs cells slots Q (F0 m pc2 lsB st2)) → W p l e R s m args below meth c H locs cells slots Q (F0 m pc lsA st))
    (k : VS sb sL sx M Post al h pc2 ls2 st2) : VS sb sL sx M Post al h pc ls st := by
  intro G p l e R s m args below meth c Q A H locs lsA hX hF hA hK hT hP hz hd hS hl
  exact f hX.1 hX.2.1 hl (fun lsB hl2 => k G p l e R s m args below meth c Q A H locs lsB hX hF hA hK hT hP hz hd hS hl2)
theorem VS.forget {ls2 : List (Option Value)} (hlen : ls2.length ≤ ls.length) (hsub : ∀ (i : Nat) (v : Value), ls2[i]? = some (some v) → ls[i]? = some (some v)) (k : VS sb sL sx M Post al h pc ls2 st) : VS sb sL sx M Post al h pc ls st := by
  intro G p l e R s m args below meth c Q A H locs lsA hX hF hA hK hT hP hz hd hS hl
  obtain ⟨l1, h1, h3, h2⟩ := hl
  exact k G p l e R s m args below meth c Q A H locs lsA hX hF hA hK hT hP hz hd hS ⟨l1, h1, by omega, fun i v hi => h2 i v (hsub i v hi)⟩
theorem VS.post {Post2 : Option Value → AH → Nat → Prop} (hp : ∀ r h' z, Post2 r h' z → Post r h' z) (k : VS sb sL sx M Post2 al h pc ls st) : VS sb sL sx M Post al h pc ls st := by
  intro G p l e R s m args below meth c Q A H locs lsA hX hF hA hK hT hP hz hd hS hl
  exact k G p l e R s m args below meth c Q A H locs lsA hX (fun r h' H' locs' k' n' pc' lsA' q => hF r h' H' locs' k' n' pc' lsA' (hp _ _ _ q)) hA hK hT hP hz hd hS hl
theorem ze_iconst {n : Int} {v : Int32} (hd : decode (MI.cc M) pc = .ok (.iconst n, 1)) (hv : Int32.ofInt n = v) (k : VS sb sL sx M Post al h (pc + 1) ls (.int v :: st)) : VS sb sL sx M Post al h pc ls st := VS.go (fun hx hb _ w => lv_iconst hx hb hd hv w) k
theorem ze_bipush {n : Int} {v : Int32} (hd : decode (MI.cc M) pc = .ok (.bipush n, 2)) (hv : (Int8.ofInt n).toInt32 = v) (k : VS sb sL sx M Post al h (pc + 2) ls (.int v :: st)) : VS sb sL sx M Post al h pc ls st := VS.go (fun hx hb _ w => lv_bipush hx hb hd hv w) k
theorem ze_iload_n {i : Nat} {x : Int32} {k4 : Fin 4} (hd : decode (MI.cc M) pc = .ok (.iload_n k4, 1)) (hi : (k4 : Nat) = i) (hv : ls[i]? = some (some (.int x))) (k : VS sb sL sx M Post al h (pc + 1) ls (.int x :: st)) : VS sb sL sx M Post al h pc ls st := VS.go (fun hx hb hl w => lv_iload_n hx hb hd hi (hl.at hv) w) k
theorem ze_aload_n {i : Nat} {x : Nat} {k4 : Fin 4} (hd : decode (MI.cc M) pc = .ok (.aload_n k4, 1)) (hi : (k4 : Nat) = i) (hv : ls[i]? = some (some (.ref x))) (k : VS sb sL sx M Post al h (pc + 1) ls (.ref x :: st)) : VS sb sL sx M Post al h pc ls st := VS.go (fun hx hb hl w => lv_aload_n hx hb hd hi (hl.at hv) w) k
theorem ze_istore_n {i : Nat} {x : Int32} {k4 : Fin 4} (hd : decode (MI.cc M) pc = .ok (.istore_n k4, 1)) (hi : (k4 : Nat) = i) (hn : i < MI.nL M) (k : VS sb sL sx M Post al h (pc + 1) (ls.set i (some (.int x))) st) : VS sb sL sx M Post al h pc ls (.int x :: st) := VS.store (fun hx hb hl w => by
  obtain ⟨l1, h1, h3, h2⟩ := hl
  exact lv_istore_n hx hb hd hi h1 hn rfl (fun lsB hB => w lsB (en_L.put h3 h2 rfl hB))) k
theorem ze_astore_n {i : Nat} {x : Nat} {k4 : Fin 4} (hd : decode (MI.cc M) pc = .ok (.astore_n k4, 1)) (hi : (k4 : Nat) = i) (hn : i < MI.nL M) (k : VS sb sL sx M Post al h (pc + 1) (ls.set i (some (.ref x))) st) : VS sb sL sx M Post al h pc ls (.ref x :: st) := VS.store (fun hx hb hl w => by
  obtain ⟨l1, h1, h3, h2⟩ := hl
  exact lv_astore_n hx hb hd hi h1 hn rfl (fun lsB hB => w lsB (en_L.put h3 h2 rfl hB))) k
theorem ze_iinc {i : Nat} {n : Int} {x v : Int32} (hd : decode (MI.cc M) pc = .ok (.iinc i n, 3)) (hx0 : ls[i]? = some (some (.int x))) (hv : x + Int32.ofInt n = v) (hn : i < MI.nL M) (k : VS sb sL sx M Post al h (pc + 3) (ls.set i (some (.int v))) st) : VS sb sL sx M Post al h pc ls st := VS.store (fun hx hb hl w => by
  obtain ⟨l1, h1, h3, h2⟩ := hl
  obtain ⟨kk, hkk⟩ := List.getElem?_of_mem (h2 _ _ hx0).2
  exact lv_iinc hx hb hd h1 hkk hv hn rfl (fun lsB hB => w lsB (en_L.put h3 h2 rfl hB))) k
theorem ze_dup {v : Value} (hd : decode (MI.cc M) pc = .ok (.dup, 1)) (hv : v.category = 1) (k : VS sb sL sx M Post al h (pc + 1) ls (v :: v :: st)) : VS sb sL sx M Post al h pc ls (v :: st) := VS.go (fun hx hb _ w => lv_dup hx hb hd hv w) k
theorem ze_iadd {x y : Int32} (hd : decode (MI.cc M) pc = .ok (.iadd, 1)) (k : VS sb sL sx M Post al h (pc + 1) ls (.int (x + y) :: st)) : VS sb sL sx M Post al h pc ls (.int y :: .int x :: st) := VS.go (fun hx hb _ w => lv_iadd hx hb hd w) k
theorem ze_isub {x y : Int32} (hd : decode (MI.cc M) pc = .ok (.isub, 1)) (k : VS sb sL sx M Post al h (pc + 1) ls (.int (x - y) :: st)) : VS sb sL sx M Post al h pc ls (.int y :: .int x :: st) := VS.go (fun hx hb _ w => lv_isub hx hb hd w) k
theorem ze_iand {x y : Int32} (hd : decode (MI.cc M) pc = .ok (.iand, 1)) (k : VS sb sL sx M Post al h (pc + 1) ls (.int (x &&& y) :: st)) : VS sb sL sx M Post al h pc ls (.int y :: .int x :: st) := VS.go (fun hx hb _ w => lv_iand hx hb hd w) k
theorem ze_top {x y : Int32} (e : x = y) (k : VS sb sL sx M Post al h pc ls (.int y :: st)) : VS sb sL sx M Post al h pc ls (.int x :: st) := by subst e; exact k
theorem ze_loc {ls2 : List (Option Value)} (e : ls = ls2) (k : VS sb sL sx M Post al h pc ls2 st) : VS sb sL sx M Post al h pc ls st := by subst e; exact k
theorem ze_heap {h2 : AH} (e : h = h2) (k : VS sb sL sx M Post al h2 pc ls st) : VS sb sL sx M Post al h pc ls st := by subst e; exact k
theorem ze_goto {off : Int} {tgt : Nat} (hd : decode (MI.cc M) pc = .ok (.goto off, 3)) (ht : (pc : Int) + off = (tgt : Int)) (k : VS sb sL sx M Post al h tgt ls st) : VS sb sL sx M Post al h pc ls st := VS.go (fun hx hb _ w => lv_goto hx hb hd ht w) k
theorem ze_if_eq {x : Int32} {off : Int} {tgt : Nat} (hd : decode (MI.cc M) pc = .ok (.ifCond .eq off, 3)) (ht : (pc : Int) + off = (tgt : Int)) (kt : x = 0 → VS sb sL sx M Post al h tgt ls st) (kf : ¬ x = 0 → VS sb sL sx M Post al h (pc + 3) ls st) : VS sb sL sx M Post al h pc ls (.int x :: st) := by
  intro G p l e R s m args below meth c Q A H locs lsA hX hF hA hK hT hP hz hd2 hS hl
  exact lv_if_eq hX.1 hX.2.1 hd ht (fun q => kt q G p l e R s m args below meth c Q A H locs lsA hX hF hA hK hT hP hz hd2 hS hl) (fun q => kf q G p l e R s m args below meth c Q A H locs lsA hX hF hA hK hT hP hz hd2 hS hl)
theorem ze_icmp_eq {x y : Int32} {off : Int} {tgt : Nat} (hd : decode (MI.cc M) pc = .ok (.if_icmp .eq off, 3)) (ht : (pc : Int) + off = (tgt : Int)) (kt : x = y → VS sb sL sx M Post al h tgt ls st) (kf : ¬ x = y → VS sb sL sx M Post al h (pc + 3) ls st) : VS sb sL sx M Post al h pc ls (.int y :: .int x :: st) := by
  intro G p l e R s m args below meth c Q A H locs lsA hX hF hA hK hT hP hz hd2 hS hl
  exact lv_icmp_eq hX.1 hX.2.1 hd ht (fun q => kt q G p l e R s m args below meth c Q A H locs lsA hX hF hA hK hT hP hz hd2 hS hl) (fun q => kf q G p l e R s m args below meth c Q A H locs lsA hX hF hA hK hT hP hz hd2 hS hl)
theorem ze_icmp_gt {x y : Int32} {off : Int} {tgt : Nat} (hd : decode (MI.cc M) pc = .ok (.if_icmp .gt off, 3)) (ht : (pc : Int) + off = (tgt : Int)) (kt : y < x → VS sb sL sx M Post al h tgt ls st) (kf : ¬ y < x → VS sb sL sx M Post al h (pc + 3) ls st) : VS sb sL sx M Post al h pc ls (.int y :: .int x :: st) := by
  intro G p l e R s m args below meth c Q A H locs lsA hX hF hA hK hT hP hz hd2 hS hl
  exact lv_icmp_gt hX.1 hX.2.1 hd ht (fun q => kt q G p l e R s m args below meth c Q A H locs lsA hX hF hA hK hT hP hz hd2 hS hl) (fun q => kf q G p l e R s m args below meth c Q A H locs lsA hX hF hA hK hT hP hz hd2 hS hl)
theorem ze_switchOut {dflt lo hi : Int} {offs : Array Int} {len : Nat} {x : Int32} {tgt : Nat} (hd : decode (MI.cc M) pc = .ok (.tableswitch dflt lo hi offs, len)) (hq : x.toInt < lo ∨ hi < x.toInt) (ht : (pc : Int) + dflt = (tgt : Int)) (k : VS sb sL sx M Post al h tgt ls st) : VS sb sL sx M Post al h pc ls (.int x :: st) := VS.go (fun hx hb _ w => lv_tableOut hx hb hd hq ht w) k
theorem ze_switchIn {dflt lo hi : Int} {offs : Array Int} {len : Nat} {x : Int32} {off : Int} {tgt : Nat} (hd : decode (MI.cc M) pc = .ok (.tableswitch dflt lo hi offs, len)) (h1 : ¬ x.toInt < lo) (h2 : ¬ hi < x.toInt) (ho : offs[(x.toInt - lo).toNat]? = some off) (ht : (pc : Int) + off = (tgt : Int)) (k : VS sb sL sx M Post al h tgt ls st) : VS sb sL sx M Post al h pc ls (.int x :: st) := VS.go (fun hx hb _ w => lv_tableIn hx hb hd h1 h2 ho ht w) k
theorem ze_ret {lim : al.2.1 ≤ MI.mc M ∧ al.2.2 ≤ MI.ms M} (r : Option Value) (hro : en_ro (MI.rt M) r (MI.cc M) pc) (hp : Post r h al.1) : VS sb sL sx M Post al h pc ls r.toList := by
  intro G p l e R s m args below meth c Q A H locs lsA hX hF hA hK hT hP hz hd2 hS hl
  exact hF r h H locs al.2.1 al.2.2 pc lsA (by rw [hz]; exact hp) hP hd2 hS lim.1 lim.2 hro
theorem ze_iret {x : Int32} (hd : decode (MI.cc M) pc = .ok (.ireturn, 1)) (hr : MI.rt M = some .int) (lim : al.2.1 ≤ MI.mc M ∧ al.2.2 ≤ MI.ms M) (hp : Post (some (.int x)) h al.1) : VS sb sL sx M Post al h pc ls [.int x] := ze_ret (lim := lim) (some (.int x)) (Or.inr (Or.inl ⟨Or.inl hr, ⟨x, rfl, fun q => absurd (hr.symm.trans q) (by decide)⟩, hd⟩)) hp
theorem ze_zret {x : Int32} (hd : decode (MI.cc M) pc = .ok (.ireturn, 1)) (hr : MI.rt M = some .boolean) (hx : narrow .boolean (.int x) = .int x) (lim : al.2.1 ≤ MI.mc M ∧ al.2.2 ≤ MI.ms M) (hp : Post (some (.int x)) h al.1) : VS sb sL sx M Post al h pc ls [.int x] := ze_ret (lim := lim) (some (.int x)) (Or.inr (Or.inl ⟨Or.inr hr, ⟨x, rfl, fun _ => hx⟩, hd⟩)) hp
theorem zn_iadd {a b : Nat} (hd : decode (MI.cc M) pc = .ok (.iadd, 1)) (k : VS sb sL sx M Post al h (pc + 1) ls (.int (nI (a + b)) :: st)) : VS sb sL sx M Post al h pc ls (.int (nI b) :: .int (nI a) :: st) := ze_iadd hd (by rw [nI_add]; exact k)
theorem zn_iconst {n : Int} (v : Nat) (hd : decode (MI.cc M) pc = .ok (.iconst n, 1)) (hv : Int32.ofInt n = nI v) (k : VS sb sL sx M Post al h (pc + 1) ls (.int (nI v) :: st)) : VS sb sL sx M Post al h pc ls st := ze_iconst hd hv k
theorem zn_bipush {n : Int} (v : Nat) (hd : decode (MI.cc M) pc = .ok (.bipush n, 2)) (hv : (Int8.ofInt n).toInt32 = nI v) (k : VS sb sL sx M Post al h (pc + 2) ls (.int (nI v) :: st)) : VS sb sL sx M Post al h pc ls st := ze_bipush hd hv k
theorem zn_inc {i x : Nat} (hd : decode (MI.cc M) pc = .ok (.iinc i 1, 3)) (hx : ls[i]? = some (some (.int (nI x)))) (hn : i < MI.nL M) (k : VS sb sL sx M Post al h (pc + 3) (ls.set i (some (.int (nI (x + 1))))) st) : VS sb sL sx M Post al h pc ls st := ze_iinc hd hx (by rw [nI_succ]; rfl) hn k
theorem ze_new {idx ci N : Nat} {fs : List Value} (f : NW (MI.own M) idx ci N fs) (hd : decode (MI.cc M) pc = .ok (.new idx, 3)) (hlim : al.2.1 + 1 ≤ MI.mc M ∧ al.2.2 + N ≤ MI.ms M) (k : VS sb sL sx M Post (al.1 + 1, al.2.1 + 1, al.2.2 + N) (hset h al.1 (ob ci fs)) (pc + 3) ls (.ref al.1 :: st)) : VS sb sL sx M Post al h pc ls st := by
  intro G p l e R s m args below meth c Q A H locs lsA hX hF hA hK hT hP hz hd2 hS hl
  obtain ⟨C, T, ty, hc, hin, hty, hcl, hins, hini, hfs⟩ := f
  obtain ⟨hx, hb, hml, hown, hts, hR1, hR2, hR3, hR4, -⟩ := id hX
  have hKn := hK.1.1 ci _ hc
  refine W.newcK hx hb hown (hts _ hcl) (hts _ hins) (hts _ hini) rfl hd (by omega) (by omega) hKn.2.1 hz fun H1 kC hkC e1 z1 o1 => ?_
  have o1' : ∀ q : Nat, q < H.size → H1[q]? = H[q]? := fun q hq => o1 q (by omega)
  exact k G p l e R s m args below meth c Q A H1 locs lsA hX hF hA hK hT (hP.born ⟨_, hc, (u_born ty hts hin hKn hkC e1 hty).to hfs⟩ o1') z1 (en_dom hd2 (hA.1 _ (by have := hS.1; omega))) (hS.born (n := 1) (by omega) o1') hl
theorem zen_behind {G : en_G} {p : Program} {l : Launch} {e : Env} {R : Room} {s : State} {m : MethodId} {args : Array Value} {below : List Frame} {meth : Method} {c : Code} {Q : State → Prop} {A : Nat → Prop} {H : Heap} {locs : List Jvm.Loc} {lsA : Array Slot} {st0 : List Value} {Post2 : Option Value → AH → Nat → Prop} {mc ms : Nat} {av : Array Value}
    (hX : en_X M p R s m args meth c) (hF : en_F M G p l e R s m args below meth c Q A Post) (hA : SA sb sL sx s A) (hK : en_K G s) (hT : en_S G A s s.heap) (hz : H.size = al.1) (hd2 : ∀ q, h q ≠ none → A q) (hS : va_S A s.heap H locs) (hl : en_L lsA (MI.nL M) ls)
    (hr : va_Run p l e R s m args below meth c H locs al.2.1 al.2.2 mc ms (F0 m pc lsA st0) st (en_Q G h al.1 Post2 av) (fun q => h q ≠ none ∨ al.1 ≤ q))
    (k : ∀ (r : Option Value) (h2 : AH) (z2 : Nat), Post2 r h2 z2 → VS sb sL sx M Post (z2, al.2.1 + mc, al.2.2 + ms) h2 (pc + 3) ls (r.toList ++ st)) : W p l e R s m args below meth c H locs al.2.1 al.2.2 Q (F0 m pc lsA st0) := by
  intro T hTT X
  obtain ⟨v, st₀, t, T', L, h0, X', hL, e1, e2, ⟨r, h', hv, hp, hP', hdm, hz1, hk1⟩, stp⟩ := hr T hTT X
  cases hv
  rw [h0] at hz1 hk1
  have hAA : ∀ q, (h q ≠ none ∨ al.1 ≤ q) → A q := fun q hq => hq.elim (hd2 q) (fun hq => hA.1 q (by have := hS.1; omega))
  obtain ⟨t2, a1, b1⟩ := k v h' t.heap.size hp G p l e R s m args below meth c Q A T'.heap (locs ++ L) lsA hX hF hA hK hT (by rw [e1]; exact hP') (by rw [e1]) (fun q hq => hAA q (hdm q hq))
    ⟨Nat.le_trans hS.1 (by rw [e1]; exact hz1), fun q g1 g2 => by rw [e1, hk1 q (Nat.lt_of_lt_of_le g1 hS.1) (fun z => g2 (hAA q z))]; exact hS.2.1 q g1 g2, fun q hq => by
      rcases List.mem_append.mp hq with g | g
      · exact hS.2.2 q g
      · exact hAA _ (hL q g)⟩ hl T' rfl X'
  exact ⟨t2, stp t2 a1, b1⟩
theorem ze_callV {y : MethodName} {M2 : MI} {n idx b ci : Nat} {fs : List Value} {r0 : vw_C} {As : List Value} {Post2 : Option Value → AH → Nat → Prop} (C : Cn y M2 (.ref b :: As) al.1 h Post2) (by0 : BY y M2 n) (hi : (Cond.instanceMethod y) ∈ lw_good) (hsel : (Cond.selects y.cls y y) ∈ lw_good) (hlk : (Cond.methodLink (MI.own M) idx y) ∈ lw_good) (hd : decode (MI.cc M) pc = .ok (.invokevirtual idx, 3))
    (hn : As.length = n) (hb0 : h b = some (ob ci fs)) (hc : vwCl[ci]? = some r0) (hr0 : r0.1 = y.cls) (hst : (st.map fun v => v.category).sum ≤ 8) (hdp : MI.dp M2 + 1 ≤ MI.dp M ∧ MI.nL M2 ≤ 41) (hroom : al.2.1 + MI.mc M2 ≤ MI.mc M ∧ al.2.2 + MI.ms M2 ≤ MI.ms M)
    (k : ∀ (r : Option Value) (h2 : AH) (z2 : Nat), Post2 r h2 z2 → VS sb sL sx M Post (z2, al.2.1 + MI.mc M2, al.2.2 + MI.ms M2) h2 (pc + 3) ls (r.toList ++ st)) : VS sb sL sx M Post al h pc ls (As.reverse ++ .ref b :: st) := by
  intro G p l e R s m args below meth c Q A H locs lsA hX hF hA hK hT hP hz hd2 hS hl
  obtain ⟨hx, hb, hml, hown, hts, hR1, hR2, hR3, hR4, -⟩ := id hX
  have hls : lsA.size = MI.nL M := hl.choose_spec.1.1
  refine zen_behind (st0 := As.reverse ++ .ref b :: st) hX hF hA hK hT hz hd2 hS hl (va_runV (As := As) (rest := st) (C := y.cls) ⟨hx, hb, hml, hown, hts⟩ (C l G) ⟨callB_of n hts (en_words by0) rfl rfl rfl (hts _ by0.2.1) (hts _ hlk) by0.2.2.1 ⟨by show MI.dp M2 + 1 ≤ _; omega, by show 8 + (MI.nL M2 + 11) + (60 * MI.dp M2 + 20) ≤ _; omega⟩, hts _ hi, hts _ hsel⟩
    ⟨en_blind, by rw [← hr0]; exact va_recv (ci := ci) (q0 := 0) (fs := fs) hK.1 (en_P.one hP hb0) hc rfl, fun U hU hW => ⟨rfl, by rw [hU]; exact hz, by rw [hU]; exact hP, hK.warm hW, by rw [hU]; exact ((hT.kept hS.2.1).moved hW.alike).narrow (fun q hq => hq.elim (hd2 q) (fun hq => hA.1 q (by have := hS.1; omega)))⟩⟩ rfl hn hls rfl (lv_room hst) hd ⟨by omega, by omega⟩) k
theorem ze_callI {y : MethodName} {M2 : MI} {n idx b : Nat} {As : List Value} {Post2 : Option Value → AH → Nat → Prop} (C : Cn y M2 (.ref b :: As) al.1 h Post2) (by0 : BY y M2 n) (hrt : MI.rt M2 = none) (hy1 : y.name = "<init>") (hi : (Cond.instanceMethod y) ∈ lw_good) (hlk : (Cond.methodLink (MI.own M) idx y) ∈ lw_good) (hd : decode (MI.cc M) pc = .ok (.invokespecial idx, 3))
    (hn : As.length = n) (hst : (st.map fun v => v.category).sum ≤ 8) (hdp : MI.dp M2 + 1 ≤ MI.dp M ∧ MI.nL M2 ≤ 41) (hroom : al.2.1 + MI.mc M2 ≤ MI.mc M ∧ al.2.2 + MI.ms M2 ≤ MI.ms M)
    (k : ∀ (r : Option Value) (h2 : AH) (z2 : Nat), Post2 r h2 z2 → VS sb sL sx M Post (z2, al.2.1 + MI.mc M2, al.2.2 + MI.ms M2) h2 (pc + 3) ls (r.toList ++ st)) : VS sb sL sx M Post al h pc ls (As.reverse ++ .ref b :: st) := by
  intro G p l e R s m args below meth c Q A H locs lsA hX hF hA hK hT hP hz hd2 hS hl
  obtain ⟨hx, hb, hml, hown, hts, hR1, hR2, hR3, hR4, -⟩ := id hX
  have hls : lsA.size = MI.nL M := hl.choose_spec.1.1
  have C' := C l G
  have by1 := en_words by0
  rw [hrt] at C' by1
  refine zen_behind (st0 := As.reverse ++ .ref b :: st) hX hF hA hK hT hz hd2 hS hl (va_runI (As := As) (rest := st) (b := b) ⟨hx, hb, hml, hown, hts⟩ C' ⟨callB_of n hts by1 rfl rfl rfl (hts _ by0.2.1) (hts _ hlk) by0.2.2.1 ⟨by show MI.dp M2 + 1 ≤ _; omega, by show 8 + (MI.nL M2 + 11) + (60 * MI.dp M2 + 20) ≤ _; omega⟩, hy1, hts _ hi⟩
    ⟨en_blind, fun U hU hW => ⟨rfl, by rw [hU]; exact hz, by rw [hU]; exact hP, hK.warm hW, by rw [hU]; exact ((hT.kept hS.2.1).moved hW.alike).narrow (fun q hq => hq.elim (hd2 q) (fun hq => hA.1 q (by have := hS.1; omega)))⟩⟩ rfl hn hls rfl (lv_room hst) hd ⟨by omega, by omega⟩) k
theorem zn_V {Pr : Int32 → AH → Prop} (C : CI y M2 (.ref b :: As) h Pr) (by0 : BY y M2 n) (hi : (Cond.instanceMethod y) ∈ lw_good) (hsel : (Cond.selects y.cls y y) ∈ lw_good) (hlk : (Cond.methodLink (MI.own M) idx y) ∈ lw_good) (hd : decode (MI.cc M) pc = .ok (.invokevirtual idx, 3)) (hn : As.length = n) (hs0 : st0 = As.reverse ++ .ref b :: st) (hb0 : h b = some (ob ci fs)) (hc : vwCl[ci]? = some r0) (hr0 : r0.1 = y.cls) (hst : (st.map fun v => v.category).sum ≤ 8) (hdp : MI.dp M2 + 1 ≤ MI.dp M ∧ MI.nL M2 ≤ 41) (hroom : MI.mc M2 = 0 ∧ MI.ms M2 = 0 ∧ al.2.1 ≤ MI.mc M ∧ al.2.2 ≤ MI.ms M)
    (k : ∀ (x : Int32) (h2 : AH), Pr x h2 → VS sb sL sx M Post al h2 (pc + 3) ls (.int x :: st)) : VS sb sL sx M Post al h pc ls st0 := by
  subst hs0
  refine ze_callV (C al.1) by0 hi hsel hlk hd hn hb0 hc hr0 hst hdp ⟨by omega, by omega⟩ (fun r h2 z2 hp => ?_)
  obtain ⟨rfl, x, rfl, hp⟩ := hp
  rw [hroom.1, hroom.2.1]
  exact k x h2 hp
theorem ze_sld {i : Int32} (j : Nat) (hd : decode (MI.cc M) pc = .ok (.iaload, 1)) (hi : i = nI j) (hj : j < sL) (hL : sL < 100000) (k : VS sb sL sx M Post al h (pc + 1) ls (.int (sx j) :: st)) : VS sb sL sx M Post al h pc ls (.int i :: .ref sb :: st) := by
  subst hi
  intro G p l e R s m args below meth c Q A H locs lsA hX hF hA hK hT hP hz hd2 hS hl
  exact va_sld hX.1 hX.2.1 hA.2.1 hA.2.2.1 hA.2.2.2 hS (vp_in_nI hj (by omega)) hd (by rw [nI_clamp (by omega)]; exact k G p l e R s m args below meth c Q A H locs lsA hX hF hA hK hT hP hz hd2 hS hl)
theorem ze_slen (hd : decode (MI.cc M) pc = .ok (.arraylength, 1)) (k : VS sb sL sx M Post al h (pc + 1) ls (.int (nI sL) :: st)) : VS sb sL sx M Post al h pc ls (.ref sb :: st) := by
  intro G p l e R s m args below meth c Q A H locs lsA hX hF hA hK hT hP hz hd2 hS hl
  exact va_slen hX.1 hX.2.1 hA.2.1 hA.2.2.1 hA.2.2.2 hS hd (k G p l e R s m args below meth c Q A H locs lsA hX hF hA hK hT hP hz hd2 hS hl)
/-- `!= 0`, as javac spells it -/
theorem ze_bool {x : Int32} (h1 : decode (MI.cc M) pc = .ok (.ifCond .eq 7, 3)) (h2 : decode (MI.cc M) (pc + 3) = .ok (.iconst 1, 1)) (h3 : decode (MI.cc M) (pc + 4) = .ok (.goto 4, 3)) (h4 : decode (MI.cc M) (pc + 7) = .ok (.iconst 0, 1)) (k : VS sb sL sx M Post al h (pc + 8) ls (.int (bI (!decide (x = 0))) :: st)) : VS sb sL sx M Post al h pc ls (.int x :: st) := by
  refine ze_if_eq h1 (tgt := pc + 7) (by omega) (fun q => ?_) (fun q => ?_)
  · rw [show bI (!decide (x = 0)) = 0 by simp [q, bI]] at k
    exact ze_iconst h4 (v := 0) (by decide) k
  · rw [show bI (!decide (x = 0)) = 1 by simp [q, bI]] at k
    exact ze_iconst h2 (v := 1) (by decide) (ze_goto h3 (tgt := pc + 8) (by omega) k)
end VS1
