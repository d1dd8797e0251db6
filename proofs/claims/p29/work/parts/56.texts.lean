theorem dJ0_length_8abf5_0 : decode cJ0_length_8abf5 0 = .ok (.aload_n 0, 1) := by decide +kernel
theorem dJ0_length_8abf5_1 : decode cJ0_length_8abf5 1 = .ok (.getfield 9, 3) := by decide +kernel
theorem dJ0_length_8abf5_4 : decode cJ0_length_8abf5 4 = .ok (.arraylength, 1) := by decide +kernel
theorem dJ0_length_8abf5_5 : decode cJ0_length_8abf5 5 = .ok (.aload_n 0, 1) := by decide +kernel
theorem dJ0_length_8abf5_6 : decode cJ0_length_8abf5 6 = .ok (.invokevirtual 335, 3) := by decide +kernel
theorem dJ0_length_8abf5_9 : decode cJ0_length_8abf5 9 = .ok (.ishr, 1) := by decide +kernel
theorem dJ0_length_8abf5_10 : decode cJ0_length_8abf5 10 = .ok (.ireturn, 1) := by decide +kernel
theorem dJ0_charAt_5068e_0 : decode cJ0_charAt_5068e 0 = .ok (.aload_n 0, 1) := by decide +kernel
theorem dJ0_charAt_5068e_1 : decode cJ0_charAt_5068e 1 = .ok (.invokevirtual 492, 3) := by decide +kernel
theorem dJ0_charAt_5068e_4 : decode cJ0_charAt_5068e 4 = .ok (.ifCond .eq 12, 3) := by decide +kernel
theorem dJ0_charAt_5068e_7 : decode cJ0_charAt_5068e 7 = .ok (.aload_n 0, 1) := by decide +kernel
theorem dJ0_charAt_5068e_8 : decode cJ0_charAt_5068e 8 = .ok (.getfield 9, 3) := by decide +kernel
theorem dJ0_charAt_5068e_11 : decode cJ0_charAt_5068e 11 = .ok (.iload_n 1, 1) := by decide +kernel
theorem dJ0_charAt_5068e_12 : decode cJ0_charAt_5068e 12 = .ok (.invokestatic 495, 3) := by decide +kernel
theorem dJ0_charAt_5068e_15 : decode cJ0_charAt_5068e 15 = .ok (.ireturn, 1) := by decide +kernel
theorem dJ0_charAt_5068e_16 : decode cJ0_charAt_5068e 16 = .ok (.aload_n 0, 1) := by decide +kernel
theorem dJ0_charAt_5068e_17 : decode cJ0_charAt_5068e 17 = .ok (.getfield 9, 3) := by decide +kernel
theorem dJ0_charAt_5068e_20 : decode cJ0_charAt_5068e 20 = .ok (.iload_n 1, 1) := by decide +kernel
theorem dJ0_charAt_5068e_21 : decode cJ0_charAt_5068e 21 = .ok (.invokestatic 498, 3) := by decide +kernel
theorem dJ0_charAt_5068e_24 : decode cJ0_charAt_5068e 24 = .ok (.ireturn, 1) := by decide +kernel
theorem dJ0_coder_7d493_0 : decode cJ0_coder_7d493 0 = .ok (.getstatic 38, 3) := by decide +kernel
theorem dJ0_coder_7d493_3 : decode cJ0_coder_7d493 3 = .ok (.ifCond .eq 10, 3) := by decide +kernel
theorem dJ0_coder_7d493_6 : decode cJ0_coder_7d493 6 = .ok (.aload_n 0, 1) := by decide +kernel
theorem dJ0_coder_7d493_7 : decode cJ0_coder_7d493 7 = .ok (.getfield 15, 3) := by decide +kernel
theorem dJ0_coder_7d493_10 : decode cJ0_coder_7d493 10 = .ok (.goto 4, 3) := by decide +kernel
theorem dJ0_coder_7d493_13 : decode cJ0_coder_7d493 13 = .ok (.iconst 1, 1) := by decide +kernel
theorem dJ0_coder_7d493_14 : decode cJ0_coder_7d493 14 = .ok (.ireturn, 1) := by decide +kernel
theorem dJ0_isLatin1_aae02_0 : decode cJ0_isLatin1_aae02 0 = .ok (.getstatic 38, 3) := by decide +kernel
theorem dJ0_isLatin1_aae02_3 : decode cJ0_isLatin1_aae02 3 = .ok (.ifCond .eq 14, 3) := by decide +kernel
theorem dJ0_isLatin1_aae02_6 : decode cJ0_isLatin1_aae02 6 = .ok (.aload_n 0, 1) := by decide +kernel
theorem dJ0_isLatin1_aae02_7 : decode cJ0_isLatin1_aae02 7 = .ok (.getfield 15, 3) := by decide +kernel
theorem dJ0_isLatin1_aae02_10 : decode cJ0_isLatin1_aae02 10 = .ok (.ifCond .ne 7, 3) := by decide +kernel
theorem dJ0_isLatin1_aae02_13 : decode cJ0_isLatin1_aae02 13 = .ok (.iconst 1, 1) := by decide +kernel
theorem dJ0_isLatin1_aae02_14 : decode cJ0_isLatin1_aae02 14 = .ok (.goto 4, 3) := by decide +kernel
theorem dJ0_isLatin1_aae02_17 : decode cJ0_isLatin1_aae02 17 = .ok (.iconst 0, 1) := by decide +kernel
theorem dJ0_isLatin1_aae02_18 : decode cJ0_isLatin1_aae02 18 = .ok (.ireturn, 1) := by decide +kernel
theorem dJ0_checkIndex_df160_0 : decode cJ0_checkIndex_df160 0 = .ok (.iload_n 0, 1) := by decide +kernel
theorem dJ0_checkIndex_df160_1 : decode cJ0_checkIndex_df160 1 = .ok (.iload_n 1, 1) := by decide +kernel
theorem dJ0_checkIndex_df160_2 : decode cJ0_checkIndex_df160 2 = .ok (.getstatic 1053, 3) := by decide +kernel
theorem dJ0_checkIndex_df160_5 : decode cJ0_checkIndex_df160 5 = .ok (.invokestatic 1059, 3) := by decide +kernel
theorem dJ0_checkIndex_df160_8 : decode cJ0_checkIndex_df160 8 = .ok (.pop, 1) := by decide +kernel
theorem dJ0_checkIndex_df160_9 : decode cJ0_checkIndex_df160 9 = .ok (.return_, 1) := by decide +kernel
theorem dJ1_charAt_3b067_0 : decode cJ1_charAt_3b067 0 = .ok (.iload_n 1, 1) := by decide +kernel
theorem dJ1_charAt_3b067_1 : decode cJ1_charAt_3b067 1 = .ok (.aload_n 0, 1) := by decide +kernel
theorem dJ1_charAt_3b067_2 : decode cJ1_charAt_3b067 2 = .ok (.arraylength, 1) := by decide +kernel
theorem dJ1_charAt_3b067_3 : decode cJ1_charAt_3b067 3 = .ok (.invokestatic 9, 3) := by decide +kernel
theorem dJ1_charAt_3b067_6 : decode cJ1_charAt_3b067 6 = .ok (.aload_n 0, 1) := by decide +kernel
theorem dJ1_charAt_3b067_7 : decode cJ1_charAt_3b067 7 = .ok (.iload_n 1, 1) := by decide +kernel
theorem dJ1_charAt_3b067_8 : decode cJ1_charAt_3b067 8 = .ok (.baload, 1) := by decide +kernel
theorem dJ1_charAt_3b067_9 : decode cJ1_charAt_3b067 9 = .ok (.sipush 255, 3) := by decide +kernel
theorem dJ1_charAt_3b067_12 : decode cJ1_charAt_3b067 12 = .ok (.iand, 1) := by decide +kernel
theorem dJ1_charAt_3b067_13 : decode cJ1_charAt_3b067 13 = .ok (.i2c, 1) := by decide +kernel
theorem dJ1_charAt_3b067_14 : decode cJ1_charAt_3b067 14 = .ok (.ireturn, 1) := by decide +kernel
theorem dJ3_checkIndex_8e157_0 : decode cJ3_checkIndex_8e157 0 = .ok (.iload_n 0, 1) := by decide +kernel
theorem dJ3_checkIndex_8e157_1 : decode cJ3_checkIndex_8e157 1 = .ok (.ifCond .lt 8, 3) := by decide +kernel
theorem dJ3_checkIndex_8e157_4 : decode cJ3_checkIndex_8e157 4 = .ok (.iload_n 0, 1) := by decide +kernel
theorem dJ3_checkIndex_8e157_5 : decode cJ3_checkIndex_8e157 5 = .ok (.iload_n 1, 1) := by decide +kernel
theorem dJ3_checkIndex_8e157_6 : decode cJ3_checkIndex_8e157 6 = .ok (.if_icmp .lt 10, 3) := by decide +kernel
theorem dJ3_checkIndex_8e157_9 : decode cJ3_checkIndex_8e157 9 = .ok (.aload_n 2, 1) := by decide +kernel
theorem dJ3_checkIndex_8e157_10 : decode cJ3_checkIndex_8e157 10 = .ok (.iload_n 0, 1) := by decide +kernel
theorem dJ3_checkIndex_8e157_11 : decode cJ3_checkIndex_8e157 11 = .ok (.iload_n 1, 1) := by decide +kernel
theorem dJ3_checkIndex_8e157_12 : decode cJ3_checkIndex_8e157 12 = .ok (.invokestatic 95, 3) := by decide +kernel
theorem dJ3_checkIndex_8e157_15 : decode cJ3_checkIndex_8e157 15 = .ok (.athrow, 1) := by decide +kernel
theorem dJ3_checkIndex_8e157_16 : decode cJ3_checkIndex_8e157 16 = .ok (.iload_n 0, 1) := by decide +kernel
theorem dJ3_checkIndex_8e157_17 : decode cJ3_checkIndex_8e157 17 = .ok (.ireturn, 1) := by decide +kernel

/-! ===== texts: the judgement for one launch's addresses ===== -/
def VT (G : en_G) (M : MI) (Post : Option Value → AH → Nat → Prop) (al : Nat × Nat × Nat) (h : AH) (pc : Nat) (ls : List (Option Value)) (st : List Value) : Prop :=
  ∀ (p : Program) (l : Launch) (e : Env) (R : Room) (s : State) (m : MethodId) (args : Array Value) (below : List Frame) (meth : Method) (c : Code) (Q : State → Prop) (A : Nat → Prop) (H : Heap) (locs : List Jvm.Loc) (lsA : Array Slot),
    en_X M p R s m args meth c → en_F M G p l e R s m args below meth c Q A Post → (∀ q, s.heap.size ≤ q → A q) → en_K G s → en_S G A s s.heap →
    en_P G h H → H.size = al.1 → (∀ q, h q ≠ none → A q) → va_S A s.heap H locs → en_L lsA (MI.nL M) ls →
    W p l e R s m args below meth c H locs al.2.1 al.2.2 Q (F0 m pc lsA st)
section VT1
variable {G : en_G} {M : MI} {Post : Option Value → AH → Nat → Prop} {al : Nat × Nat × Nat} {h : AH} {pc : Nat} {ls : List (Option Value)} {st : List Value}
variable {a b : Nat} {off : Int} {tgt : Nat}
theorem VT.go {pc2 : Nat} {st2 : List Value} (f : ∀ {p : Program} {l : Launch} {e : Env} {R : Room} {s : State} {m : MethodId} {args : Array Value} {below : List Frame} {meth : Method} {c : Code} {H : Heap} {locs : List Jvm.Loc} {cells slots : Nat} {Q : State → Prop} {lsA : Array Slot},
    p.tables.exec = Jvm.exec → c.code = MI.cc M → en_L lsA (MI.nL M) ls → W p l e R s m args below meth c H locs cells slots Q (F0 m pc2 lsA st2) → W p l e R s m args below meth c H locs cells slots Q (F0 m pc lsA st))
    (k : VT G M Post al h pc2 ls st2) : VT G M Post al h pc ls st := by
  intro p l e R s m args below meth c Q A H locs lsA hX hF hA hK hT hP hz hd hS hl
  exact f hX.1 hX.2.1 hl (k p l e R s m args below meth c Q A H locs lsA hX hF hA hK hT hP hz hd hS hl)
theorem VT.store {pc2 : Nat} {st2 : List Value} {ls2 : List (Option Value)} (f : ∀ {p : Program} {l : Launch} {e : Env} {R : Room} {s : State} {m : MethodId} {args : Array Value} {below : List Frame} {meth : Method} {c : Code} {H : Heap} {locs : List Jvm.Loc} {cells slots : Nat} {Q : State → Prop} {lsA : Array Slot},
    p.tables.exec = Jvm.exec → c.code = MI.cc M → en_L lsA (MI.nL M) ls → (∀ lsB, en_L lsB (MI.nL M) ls2 → W p l e R s m args below meth c H locs cells slots Q (F0 m pc2 lsB st2)) → W p l e R s m args below meth c H locs cells slots Q (F0 m pc lsA st))
    (k : VT G M Post al h pc2 ls2 st2) : VT G M Post al h pc ls st := by
  intro p l e R s m args below meth c Q A H locs lsA hX hF hA hK hT hP hz hd hS hl
  exact f hX.1 hX.2.1 hl (fun lsB hl2 => k p l e R s m args below meth c Q A H locs lsB hX hF hA hK hT hP hz hd hS hl2)
theorem VT.forget {ls2 : List (Option Value)} (hlen : ls2.length ≤ ls.length) (hsub : ∀ (i : Nat) (v : Value), ls2[i]? = some (some v) → ls[i]? = some (some v)) (k : VT G M Post al h pc ls2 st) : VT G M Post al h pc ls st := by
  intro p l e R s m args below meth c Q A H locs lsA hX hF hA hK hT hP hz hd hS hl
  obtain ⟨l1, h1, h3, h2⟩ := hl
  exact k p l e R s m args below meth c Q A H locs lsA hX hF hA hK hT hP hz hd hS ⟨l1, h1, by omega, fun i v hi => h2 i v (hsub i v hi)⟩
theorem VT.post {Post2 : Option Value → AH → Nat → Prop} (hp : ∀ r h' z, Post2 r h' z → Post r h' z) (k : VT G M Post2 al h pc ls st) : VT G M Post al h pc ls st := by
  intro p l e R s m args below meth c Q A H locs lsA hX hF hA hK hT hP hz hd hS hl
  exact k p l e R s m args below meth c Q A H locs lsA hX (fun r h' H' locs' k' n' pc' lsA' q => hF r h' H' locs' k' n' pc' lsA' (hp _ _ _ q)) hA hK hT hP hz hd hS hl
theorem te_iconst {n : Int} {v : Int32} (hd : decode (MI.cc M) pc = .ok (.iconst n, 1)) (hv : Int32.ofInt n = v) (k : VT G M Post al h (pc + 1) ls (.int v :: st)) : VT G M Post al h pc ls st := VT.go (fun hx hb _ w => lv_iconst hx hb hd hv w) k
theorem te_bipush {n : Int} {v : Int32} (hd : decode (MI.cc M) pc = .ok (.bipush n, 2)) (hv : (Int8.ofInt n).toInt32 = v) (k : VT G M Post al h (pc + 2) ls (.int v :: st)) : VT G M Post al h pc ls st := VT.go (fun hx hb _ w => lv_bipush hx hb hd hv w) k
theorem te_sipush {n : Int} {v : Int32} (hd : decode (MI.cc M) pc = .ok (.sipush n, 3)) (hv : (Int16.ofInt n).toInt32 = v) (k : VT G M Post al h (pc + 3) ls (.int v :: st)) : VT G M Post al h pc ls st := VT.go (fun hx hb _ w => lv_sipush hx hb hd hv w) k
theorem te_iload_n {i : Nat} {x : Int32} {k4 : Fin 4} (hd : decode (MI.cc M) pc = .ok (.iload_n k4, 1)) (hi : (k4 : Nat) = i) (hv : ls[i]? = some (some (.int x))) (k : VT G M Post al h (pc + 1) ls (.int x :: st)) : VT G M Post al h pc ls st := VT.go (fun hx hb hl w => lv_iload_n hx hb hd hi (hl.at hv) w) k
theorem te_aload_n {i : Nat} {x : Nat} {k4 : Fin 4} (hd : decode (MI.cc M) pc = .ok (.aload_n k4, 1)) (hi : (k4 : Nat) = i) (hv : ls[i]? = some (some (.ref x))) (k : VT G M Post al h (pc + 1) ls (.ref x :: st)) : VT G M Post al h pc ls st := VT.go (fun hx hb hl w => lv_aload_n hx hb hd hi (hl.at hv) w) k
theorem te_aload_nN {i : Nat} {k4 : Fin 4} (hd : decode (MI.cc M) pc = .ok (.aload_n k4, 1)) (hi : (k4 : Nat) = i) (hv : ls[i]? = some (some .null)) (k : VT G M Post al h (pc + 1) ls (.null :: st)) : VT G M Post al h pc ls st := VT.go (fun hx hb hl w => lv_aload_nN hx hb hd hi (hl.at hv) w) k
theorem te_istore_n {i : Nat} {x : Int32} {k4 : Fin 4} (hd : decode (MI.cc M) pc = .ok (.istore_n k4, 1)) (hi : (k4 : Nat) = i) (hn : i < MI.nL M) (k : VT G M Post al h (pc + 1) (ls.set i (some (.int x))) st) : VT G M Post al h pc ls (.int x :: st) := VT.store (fun hx hb hl w => by
  obtain ⟨l1, h1, h3, h2⟩ := hl
  exact lv_istore_n hx hb hd hi h1 hn rfl (fun lsB hB => w lsB (en_L.put h3 h2 rfl hB))) k
theorem te_iinc {i : Nat} {n : Int} {x v : Int32} (hd : decode (MI.cc M) pc = .ok (.iinc i n, 3)) (hx0 : ls[i]? = some (some (.int x))) (hv : x + Int32.ofInt n = v) (hn : i < MI.nL M) (k : VT G M Post al h (pc + 3) (ls.set i (some (.int v))) st) : VT G M Post al h pc ls st := VT.store (fun hx hb hl w => by
  obtain ⟨l1, h1, h3, h2⟩ := hl
  obtain ⟨kk, hkk⟩ := List.getElem?_of_mem (h2 _ _ hx0).2
  exact lv_iinc hx hb hd h1 hkk hv hn rfl (fun lsB hB => w lsB (en_L.put h3 h2 rfl hB))) k
theorem te_pop {v : Value} (hd : decode (MI.cc M) pc = .ok (.pop, 1)) (hv : v.category = 1) (k : VT G M Post al h (pc + 1) ls st) : VT G M Post al h pc ls (v :: st) := VT.go (fun hx hb _ w => lv_pop hx hb hd hv w) k
theorem te_iadd {x y : Int32} (hd : decode (MI.cc M) pc = .ok (.iadd, 1)) (k : VT G M Post al h (pc + 1) ls (.int (x + y) :: st)) : VT G M Post al h pc ls (.int y :: .int x :: st) := VT.go (fun hx hb _ w => lv_iadd hx hb hd w) k
theorem te_isub {x y : Int32} (hd : decode (MI.cc M) pc = .ok (.isub, 1)) (k : VT G M Post al h (pc + 1) ls (.int (x - y) :: st)) : VT G M Post al h pc ls (.int y :: .int x :: st) := VT.go (fun hx hb _ w => lv_isub hx hb hd w) k
theorem te_iand {x y : Int32} (hd : decode (MI.cc M) pc = .ok (.iand, 1)) (k : VT G M Post al h (pc + 1) ls (.int (x &&& y) :: st)) : VT G M Post al h pc ls (.int y :: .int x :: st) := VT.go (fun hx hb _ w => lv_iand hx hb hd w) k
theorem te_top {x y : Int32} (e : x = y) (k : VT G M Post al h pc ls (.int y :: st)) : VT G M Post al h pc ls (.int x :: st) := by subst e; exact k
theorem te_loc {ls2 : List (Option Value)} (e : ls = ls2) (k : VT G M Post al h pc ls2 st) : VT G M Post al h pc ls st := by subst e; exact k
theorem te_goto {off : Int} {tgt : Nat} (hd : decode (MI.cc M) pc = .ok (.goto off, 3)) (ht : (pc : Int) + off = (tgt : Int)) (k : VT G M Post al h tgt ls st) : VT G M Post al h pc ls st := VT.go (fun hx hb _ w => lv_goto hx hb hd ht w) k
theorem te_if_eq {x : Int32} {off : Int} {tgt : Nat} (hd : decode (MI.cc M) pc = .ok (.ifCond .eq off, 3)) (ht : (pc : Int) + off = (tgt : Int)) (kt : x = 0 → VT G M Post al h tgt ls st) (kf : ¬ x = 0 → VT G M Post al h (pc + 3) ls st) : VT G M Post al h pc ls (.int x :: st) := by
  intro p l e R s m args below meth c Q A H locs lsA hX hF hA hK hT hP hz hd2 hS hl
  exact lv_if_eq hX.1 hX.2.1 hd ht (fun q => kt q p l e R s m args below meth c Q A H locs lsA hX hF hA hK hT hP hz hd2 hS hl) (fun q => kf q p l e R s m args below meth c Q A H locs lsA hX hF hA hK hT hP hz hd2 hS hl)
theorem te_if_ne {x : Int32} {off : Int} {tgt : Nat} (hd : decode (MI.cc M) pc = .ok (.ifCond .ne off, 3)) (ht : (pc : Int) + off = (tgt : Int)) (kt : ¬ x = 0 → VT G M Post al h tgt ls st) (kf : x = 0 → VT G M Post al h (pc + 3) ls st) : VT G M Post al h pc ls (.int x :: st) := by
  intro p l e R s m args below meth c Q A H locs lsA hX hF hA hK hT hP hz hd2 hS hl
  exact lv_if_ne hX.1 hX.2.1 hd ht (fun q => kt q p l e R s m args below meth c Q A H locs lsA hX hF hA hK hT hP hz hd2 hS hl) (fun q => kf q p l e R s m args below meth c Q A H locs lsA hX hF hA hK hT hP hz hd2 hS hl)
theorem te_if_lt {x : Int32} {off : Int} {tgt : Nat} (hd : decode (MI.cc M) pc = .ok (.ifCond .lt off, 3)) (ht : (pc : Int) + off = (tgt : Int)) (kt : x < 0 → VT G M Post al h tgt ls st) (kf : ¬ x < 0 → VT G M Post al h (pc + 3) ls st) : VT G M Post al h pc ls (.int x :: st) := by
  intro p l e R s m args below meth c Q A H locs lsA hX hF hA hK hT hP hz hd2 hS hl
  exact lv_if_lt hX.1 hX.2.1 hd ht (fun q => kt q p l e R s m args below meth c Q A H locs lsA hX hF hA hK hT hP hz hd2 hS hl) (fun q => kf q p l e R s m args below meth c Q A H locs lsA hX hF hA hK hT hP hz hd2 hS hl)
theorem te_icmp_eq {x y : Int32} {off : Int} {tgt : Nat} (hd : decode (MI.cc M) pc = .ok (.if_icmp .eq off, 3)) (ht : (pc : Int) + off = (tgt : Int)) (kt : x = y → VT G M Post al h tgt ls st) (kf : ¬ x = y → VT G M Post al h (pc + 3) ls st) : VT G M Post al h pc ls (.int y :: .int x :: st) := by
  intro p l e R s m args below meth c Q A H locs lsA hX hF hA hK hT hP hz hd2 hS hl
  exact lv_icmp_eq hX.1 hX.2.1 hd ht (fun q => kt q p l e R s m args below meth c Q A H locs lsA hX hF hA hK hT hP hz hd2 hS hl) (fun q => kf q p l e R s m args below meth c Q A H locs lsA hX hF hA hK hT hP hz hd2 hS hl)
theorem te_icmp_ne {x y : Int32} {off : Int} {tgt : Nat} (hd : decode (MI.cc M) pc = .ok (.if_icmp .ne off, 3)) (ht : (pc : Int) + off = (tgt : Int)) (kt : ¬ x = y → VT G M Post al h tgt ls st) (kf : x = y → VT G M Post al h (pc + 3) ls st) : VT G M Post al h pc ls (.int y :: .int x :: st) := by
  intro p l e R s m args below meth c Q A H locs lsA hX hF hA hK hT hP hz hd2 hS hl
  exact lv_icmp_ne hX.1 hX.2.1 hd ht (fun q => kt q p l e R s m args below meth c Q A H locs lsA hX hF hA hK hT hP hz hd2 hS hl) (fun q => kf q p l e R s m args below meth c Q A H locs lsA hX hF hA hK hT hP hz hd2 hS hl)
theorem te_icmp_lt {x y : Int32} {off : Int} {tgt : Nat} (hd : decode (MI.cc M) pc = .ok (.if_icmp .lt off, 3)) (ht : (pc : Int) + off = (tgt : Int)) (kt : x < y → VT G M Post al h tgt ls st) (kf : ¬ x < y → VT G M Post al h (pc + 3) ls st) : VT G M Post al h pc ls (.int y :: .int x :: st) := by
  intro p l e R s m args below meth c Q A H locs lsA hX hF hA hK hT hP hz hd2 hS hl
  exact lv_icmp_lt hX.1 hX.2.1 hd ht (fun q => kt q p l e R s m args below meth c Q A H locs lsA hX hF hA hK hT hP hz hd2 hS hl) (fun q => kf q p l e R s m args below meth c Q A H locs lsA hX hF hA hK hT hP hz hd2 hS hl)
theorem te_icmp_ge {x y : Int32} {off : Int} {tgt : Nat} (hd : decode (MI.cc M) pc = .ok (.if_icmp .ge off, 3)) (ht : (pc : Int) + off = (tgt : Int)) (kt : y ≤ x → VT G M Post al h tgt ls st) (kf : ¬ y ≤ x → VT G M Post al h (pc + 3) ls st) : VT G M Post al h pc ls (.int y :: .int x :: st) := by
  intro p l e R s m args below meth c Q A H locs lsA hX hF hA hK hT hP hz hd2 hS hl
  exact lv_icmp_ge hX.1 hX.2.1 hd ht (fun q => kt q p l e R s m args below meth c Q A H locs lsA hX hF hA hK hT hP hz hd2 hS hl) (fun q => kf q p l e R s m args below meth c Q A H locs lsA hX hF hA hK hT hP hz hd2 hS hl)
theorem te_icmp_le {x y : Int32} {off : Int} {tgt : Nat} (hd : decode (MI.cc M) pc = .ok (.if_icmp .le off, 3)) (ht : (pc : Int) + off = (tgt : Int)) (kt : x ≤ y → VT G M Post al h tgt ls st) (kf : ¬ x ≤ y → VT G M Post al h (pc + 3) ls st) : VT G M Post al h pc ls (.int y :: .int x :: st) := by
  intro p l e R s m args below meth c Q A H locs lsA hX hF hA hK hT hP hz hd2 hS hl
  exact lv_icmp_le hX.1 hX.2.1 hd ht (fun q => kt q p l e R s m args below meth c Q A H locs lsA hX hF hA hK hT hP hz hd2 hS hl) (fun q => kf q p l e R s m args below meth c Q A H locs lsA hX hF hA hK hT hP hz hd2 hS hl)
theorem te_icmp_gt {x y : Int32} {off : Int} {tgt : Nat} (hd : decode (MI.cc M) pc = .ok (.if_icmp .gt off, 3)) (ht : (pc : Int) + off = (tgt : Int)) (kt : y < x → VT G M Post al h tgt ls st) (kf : ¬ y < x → VT G M Post al h (pc + 3) ls st) : VT G M Post al h pc ls (.int y :: .int x :: st) := by
  intro p l e R s m args below meth c Q A H locs lsA hX hF hA hK hT hP hz hd2 hS hl
  exact lv_icmp_gt hX.1 hX.2.1 hd ht (fun q => kt q p l e R s m args below meth c Q A H locs lsA hX hF hA hK hT hP hz hd2 hS hl) (fun q => kf q p l e R s m args below meth c Q A H locs lsA hX hF hA hK hT hP hz hd2 hS hl)
theorem te_ishr {x y : Int32} (hd : decode (MI.cc M) pc = .ok (.ishr, 1)) (k : VT G M Post al h (pc + 1) ls (.int (x >>> (y &&& 31)) :: st)) : VT G M Post al h pc ls (.int y :: .int x :: st) := VT.go (fun hx hb _ w => lv_ishr hx hb hd w) k
theorem te_get {idx ci kf a : Nat} {fs : List Value} {v : Value} (f : FL (MI.own M) idx ci kf) (hd : decode (MI.cc M) pc = .ok (.getfield idx, 3)) (hh : h a = some (ob ci fs)) (hv : fs[kf]? = some v) (k : VT G M Post al h (pc + 3) ls (v :: st)) : VT G M Post al h pc ls (.ref a :: st) := by
  intro p l e R s m args below meth c Q A H locs lsA hX hF hA hK hT hP hz hd2 hS hl
  obtain ⟨C, T, N, hc, hk, hin, hl'⟩ := f
  obtain ⟨hx, hb, hml, hown, hts, -⟩ := id hX
  exact va_get hx hb hts hin hown hK.1 (en_P.one hP hh) 0 (fs := fs) rfl hc kf hk (hts _ hl') (fun _ q => q) hv hd (k p l e R s m args below meth c Q A H locs lsA hX hF hA hK hT hP hz hd2 hS hl)
theorem te_iald {a n : Nat} {f : Nat → Int32} {i : Int32} (hd : decode (MI.cc M) pc = .ok (.iaload, 1)) (hh : h a = some (aI n f)) (hin : vp_in i n) (k : VT G M Post al h (pc + 1) ls (.int (f i.toNatClampNeg) :: st)) : VT G M Post al h pc ls (.int i :: .ref a :: st) := by
  intro p l e R s m args below meth c Q A H locs lsA hX hF hA hK hT hP hz hd2 hS hl
  exact va_iald hX.1 hX.2.1 hK.1 (en_P.one hP hh) 0 0 rfl rfl hin hd (k p l e R s m args below meth c Q A H locs lsA hX hF hA hK hT hP hz hd2 hS hl)
theorem te_ialdN {a n : Nat} {f : Nat → Int32} {i : Int32} (j : Nat) (hd : decode (MI.cc M) pc = .ok (.iaload, 1)) (hh : h a = some (aI n f)) (hi : i = nI j) (hj : j < n) (hn : n < 2 ^ 31) (k : VT G M Post al h (pc + 1) ls (.int (f j) :: st)) : VT G M Post al h pc ls (.int i :: .ref a :: st) := by
  subst hi
  exact te_iald hd hh (vp_in_nI hj hn) (by rw [nI_clamp (by omega)]; exact k)
theorem te_ret {lim : al.2.1 ≤ MI.mc M ∧ al.2.2 ≤ MI.ms M} (r : Option Value) (hro : en_ro (MI.rt M) r (MI.cc M) pc) (hp : Post r h al.1) : VT G M Post al h pc ls r.toList := by
  intro p l e R s m args below meth c Q A H locs lsA hX hF hA hK hT hP hz hd2 hS hl
  exact hF r h H locs al.2.1 al.2.2 pc lsA (by rw [hz]; exact hp) hP hd2 hS lim.1 lim.2 hro
theorem te_vret (hd : decode (MI.cc M) pc = .ok (.return_, 1)) (hr : MI.rt M = none) (lim : al.2.1 ≤ MI.mc M ∧ al.2.2 ≤ MI.ms M) (hp : Post none h al.1) : VT G M Post al h pc ls [] := te_ret (lim := lim) none (Or.inl ⟨hr, rfl, hd⟩) hp
theorem te_iret {x : Int32} (hd : decode (MI.cc M) pc = .ok (.ireturn, 1)) (hr : MI.rt M = some .int) (lim : al.2.1 ≤ MI.mc M ∧ al.2.2 ≤ MI.ms M) (hp : Post (some (.int x)) h al.1) : VT G M Post al h pc ls [.int x] := te_ret (lim := lim) (some (.int x)) (Or.inr (Or.inl ⟨Or.inl hr, ⟨x, rfl, fun q => absurd (hr.symm.trans q) (by decide)⟩, hd⟩)) hp
theorem te_zret {x : Int32} (hd : decode (MI.cc M) pc = .ok (.ireturn, 1)) (hr : MI.rt M = some .boolean) (hx : narrow .boolean (.int x) = .int x) (lim : al.2.1 ≤ MI.mc M ∧ al.2.2 ≤ MI.ms M) (hp : Post (some (.int x)) h al.1) : VT G M Post al h pc ls [.int x] := te_ret (lim := lim) (some (.int x)) (Or.inr (Or.inl ⟨Or.inr hr, ⟨x, rfl, fun _ => hx⟩, hd⟩)) hp
theorem te_nret {x : Int32} {ty : FieldType} (hd : decode (MI.cc M) pc = .ok (.ireturn, 1)) (hr : MI.rt M = some ty) (hx : narrow ty (.int x) = .int x) (lim : al.2.1 ≤ MI.mc M ∧ al.2.2 ≤ MI.ms M) (hp : Post (some (.int x)) h al.1) : VT G M Post al h pc ls [.int x] := te_ret (lim := lim) (some (.int x)) (Or.inr (Or.inr (Or.inr ⟨ty, x, hr, rfl, hx, hd⟩))) hp
theorem tn_iadd {a b : Nat} (hd : decode (MI.cc M) pc = .ok (.iadd, 1)) (k : VT G M Post al h (pc + 1) ls (.int (nI (a + b)) :: st)) : VT G M Post al h pc ls (.int (nI b) :: .int (nI a) :: st) := te_iadd hd (by rw [nI_add]; exact k)
theorem tn_isub {a b : Nat} (hd : decode (MI.cc M) pc = .ok (.isub, 1)) (hb : b ≤ a) (k : VT G M Post al h (pc + 1) ls (.int (nI (a - b)) :: st)) : VT G M Post al h pc ls (.int (nI b) :: .int (nI a) :: st) := te_isub hd (by rw [pk_sub hb]; exact k)
theorem tn_iconst {n : Int} (v : Nat) (hd : decode (MI.cc M) pc = .ok (.iconst n, 1)) (hv : Int32.ofInt n = nI v) (k : VT G M Post al h (pc + 1) ls (.int (nI v) :: st)) : VT G M Post al h pc ls st := te_iconst hd hv k
theorem tn_bipush {n : Int} (v : Nat) (hd : decode (MI.cc M) pc = .ok (.bipush n, 2)) (hv : (Int8.ofInt n).toInt32 = nI v) (k : VT G M Post al h (pc + 2) ls (.int (nI v) :: st)) : VT G M Post al h pc ls st := te_bipush hd hv k
theorem tn_sipush {n : Int} (v : Nat) (hd : decode (MI.cc M) pc = .ok (.sipush n, 3)) (hv : (Int16.ofInt n).toInt32 = nI v) (k : VT G M Post al h (pc + 3) ls (.int (nI v) :: st)) : VT G M Post al h pc ls st := te_sipush hd hv k
theorem tn_inc {i x : Nat} (hd : decode (MI.cc M) pc = .ok (.iinc i 1, 3)) (hx : ls[i]? = some (some (.int (nI x)))) (hn : i < MI.nL M) (k : VT G M Post al h (pc + 3) (ls.set i (some (.int (nI (x + 1))))) st) : VT G M Post al h pc ls st := te_iinc hd hx (by rw [nI_succ]; rfl) hn k
theorem tn_icmp_lt (hd : decode (MI.cc M) pc = .ok (.if_icmp .lt off, 3)) (ht : (pc : Int) + off = (tgt : Int)) (ha : a < 2 ^ 31) (hb : b < 2 ^ 31) (kt : a < b → VT G M Post al h tgt ls st) (kf : b ≤ a → VT G M Post al h (pc + 3) ls st) : VT G M Post al h pc ls (.int (nI b) :: .int (nI a) :: st) := te_icmp_lt hd ht (fun q => kt ((nI_ltI ha hb).mp q)) (fun q => kf (by rw [nI_ltI ha hb] at q; omega))
theorem tn_icmp_ge (hd : decode (MI.cc M) pc = .ok (.if_icmp .ge off, 3)) (ht : (pc : Int) + off = (tgt : Int)) (ha : a < 2 ^ 31) (hb : b < 2 ^ 31) (kt : b ≤ a → VT G M Post al h tgt ls st) (kf : a < b → VT G M Post al h (pc + 3) ls st) : VT G M Post al h pc ls (.int (nI b) :: .int (nI a) :: st) := te_icmp_ge hd ht (fun q => kt ((nI_leI hb ha).mp q)) (fun q => kf (by rw [nI_leI hb ha] at q; omega))
theorem tn_icmp_gt (hd : decode (MI.cc M) pc = .ok (.if_icmp .gt off, 3)) (ht : (pc : Int) + off = (tgt : Int)) (ha : a < 2 ^ 31) (hb : b < 2 ^ 31) (kt : b < a → VT G M Post al h tgt ls st) (kf : a ≤ b → VT G M Post al h (pc + 3) ls st) : VT G M Post al h pc ls (.int (nI b) :: .int (nI a) :: st) := te_icmp_gt hd ht (fun q => kt ((nI_ltI hb ha).mp q)) (fun q => kf (by rw [nI_ltI hb ha] at q; omega))
theorem tn_icmp_le (hd : decode (MI.cc M) pc = .ok (.if_icmp .le off, 3)) (ht : (pc : Int) + off = (tgt : Int)) (ha : a < 2 ^ 31) (hb : b < 2 ^ 31) (kt : a ≤ b → VT G M Post al h tgt ls st) (kf : b < a → VT G M Post al h (pc + 3) ls st) : VT G M Post al h pc ls (.int (nI b) :: .int (nI a) :: st) := te_icmp_le hd ht (fun q => kt ((nI_leI ha hb).mp q)) (fun q => kf (by rw [nI_leI ha hb] at q; omega))
theorem tn_icmp_eq (hd : decode (MI.cc M) pc = .ok (.if_icmp .eq off, 3)) (ht : (pc : Int) + off = (tgt : Int)) (ha : a < 2 ^ 31) (hb : b < 2 ^ 31) (kt : a = b → VT G M Post al h tgt ls st) (kf : a ≠ b → VT G M Post al h (pc + 3) ls st) : VT G M Post al h pc ls (.int (nI b) :: .int (nI a) :: st) := te_icmp_eq hd ht (fun q => kt ((nI_eq ha hb).mp q)) (fun q => kf (by rw [nI_eq ha hb] at q; exact q))
theorem tn_icmp_ne (hd : decode (MI.cc M) pc = .ok (.if_icmp .ne off, 3)) (ht : (pc : Int) + off = (tgt : Int)) (ha : a < 2 ^ 31) (hb : b < 2 ^ 31) (kt : a ≠ b → VT G M Post al h tgt ls st) (kf : a = b → VT G M Post al h (pc + 3) ls st) : VT G M Post al h pc ls (.int (nI b) :: .int (nI a) :: st) := te_icmp_ne hd ht (fun q => kt (by rw [nI_eq ha hb] at q; exact q)) (fun q => kf ((nI_eq ha hb).mp q))
theorem tn_if_eq (hd : decode (MI.cc M) pc = .ok (.ifCond .eq off, 3)) (ht : (pc : Int) + off = (tgt : Int)) (ha : a < 2 ^ 31) (kt : a = 0 → VT G M Post al h tgt ls st) (kf : a ≠ 0 → VT G M Post al h (pc + 3) ls st) : VT G M Post al h pc ls (.int (nI a) :: st) := te_if_eq hd ht (fun q => kt ((nI_eq ha (by omega)).mp (q.trans nI_0.symm))) (fun q => kf (fun z => q (by rw [z]; exact nI_0)))
theorem tn_if_ne (hd : decode (MI.cc M) pc = .ok (.ifCond .ne off, 3)) (ht : (pc : Int) + off = (tgt : Int)) (ha : a < 2 ^ 31) (kt : a ≠ 0 → VT G M Post al h tgt ls st) (kf : a = 0 → VT G M Post al h (pc + 3) ls st) : VT G M Post al h pc ls (.int (nI a) :: st) := te_if_ne hd ht (fun q => kt (fun z => q (by rw [z]; exact nI_0))) (fun q => kf ((nI_eq ha (by omega)).mp (q.trans nI_0.symm)))
theorem VT.mask {M : MI} {Post : Option Value → AH → Nat → Prop} {al : Nat × Nat × Nat} {h : AH} {pc : Nat} {ls : List (Option Value)} {st : List Value} (bs : List Bool) (k : VT G M Post al h pc (msk bs ls) st) : VT G M Post al h pc ls st := by
  refine VT.forget (by simp [msk]; omega) (fun i v hi => ?_) k
  unfold msk at hi
  rw [List.getElem?_zipWith] at hi
  cases hb : bs[i]? with
  | none => simp [hb] at hi
  | some b =>
    cases hl : ls[i]? with
    | none => simp [hb, hl] at hi
    | some o =>
      simp only [hb, hl] at hi
      cases b with
      | true => simpa using hi
      | false => simp at hi
end VT1
def CnT (G : en_G) (y : MethodName) (M : MI) (av : List Value) (sz : Nat) (h : AH) (Post : Option Value → AH → Nat → Prop) : Prop :=
  ∀ (l : Launch), Met l y (Cond.code y (MI.cc M) (MI.nL M) (MI.rt M) :: lw_good) (en_rm M) (va_Pc av (fun U => U.heap.size = sz ∧ en_P G h U.heap ∧ en_K G U ∧ en_S G (fun q => h q ≠ none ∨ sz ≤ q) U U.heap)) (en_Q G h sz Post) (MI.mc M) (MI.ms M) (fun q => h q ≠ none ∨ sz ≤ q)
theorem CnT.ofVT {G : en_G} {y : MethodName} {M : MI} {av : List Value} {sz : Nat} {h : AH} {Post : Option Value → AH → Nat → Prop} (hy : plainName y.cls = true) (hown : MI.own M = y.cls) (hini : MI.ini M = true → y.name = "<init>") (h1 : ∀ v ∈ av, v.category = 1) (hn : av.length ≤ MI.nL M)
    (k : VT G M Post (sz, 0, 0) h 0 (en_l0 (MI.nL M) av) []) : CnT G y M av sz h Post := by
  intro l
  refine Met.ofW (cc := MI.cc M) (maxL := MI.nL M) (ret := MI.rt M) hy rfl ?_
  intro p e s m args below meth c s₁ B hml hv
  obtain ⟨rfl, hsz, hP, hK, hT⟩ := hv
  have hts0 := atoms_spec (ws := Cond.code y (MI.cc M) (MI.nL M) (MI.rt M) :: lw_good) B.pre
  have hts : ∀ w ∈ lw_good, w.before av.toArray s = true := fun w hw => hts0 w (List.mem_cons_of_mem _ hw)
  rw [lg_entry_eq]
  refine k p l e (en_rm M) s m av.toArray below meth c _ (fun q => h q ≠ none ∨ sz ≤ q) s.heap [] _ ⟨B.exec, B.bytes, hml, by rw [hown]; exact findClass_of_methodNamed B.named, hts, Nat.le_refl _, en_lo_ge _, Nat.le_refl _, Nat.le_refl _, fun q => by rw [(name_of_methodNamed B.named B.method).1]; exact hini q⟩ ?_ (fun q hq => Or.inr (by omega)) hK hT hP hsz (fun q hq => Or.inl hq) va_S.rf (en_entry h1 hn)
  intro r h' H' locs' k' n' pc' lsA' hpost hP' hdm hS' hk' hn' hro
  have hlocks := B.notSynchronized
  refine W.widen hk' hn' ?_
  have hq : ∀ t : State, t.heap = H' → s.WarmedH t.vm → en_Q G h sz Post av.toArray s (.returned r) t := fun t ht hW => ⟨r, h', rfl, by rw [ht]; exact hpost, by rw [ht]; exact hP', hdm, hS'.F ht⟩
  rcases hro with ⟨h1, rfl, hd⟩ | ⟨h1, ⟨x, rfl, hx⟩, hd⟩ | ⟨h1, ⟨v, rfl⟩, hd⟩ | ⟨ty, x, h1, rfl, hx, hd⟩
  · exact W.vret B.exec B.bytes (B.returns.trans h1) hq hS'.2.2 hd
  · rcases h1 with h1 | h1
    · exact W.iret B.exec B.bytes (B.returns.trans h1) hq hS'.2.2 hd
    · exact W.zret B.exec B.bytes (B.returns.trans h1) (hx h1) hq hS'.2.2 hd
  · rcases h1 with ⟨C, h1⟩ | ⟨C, h1⟩ <;> exact W.aret B.exec B.bytes (B.returns.trans h1) (by first | exact Or.inl ⟨C, rfl⟩ | exact Or.inr ⟨C, rfl⟩) (by cases v with | none => exact Or.inl rfl | some a => exact Or.inr ⟨a, rfl⟩) hq hS'.2.2 hd
  · exact W.zret B.exec B.bytes (B.returns.trans h1) hx hq hS'.2.2 hd
section VT2
variable {G : en_G} {M : MI} {Post : Option Value → AH → Nat → Prop} {al : Nat × Nat × Nat} {h : AH} {pc : Nat} {ls : List (Option Value)} {st : List Value}
theorem ten_behind {p : Program} {l : Launch} {e : Env} {R : Room} {s : State} {m : MethodId} {args : Array Value} {below : List Frame} {meth : Method} {c : Code} {Q : State → Prop} {A : Nat → Prop} {H : Heap} {locs : List Jvm.Loc} {lsA : Array Slot} {st0 : List Value} {Post2 : Option Value → AH → Nat → Prop} {mc ms : Nat} {av : Array Value}
    (hX : en_X M p R s m args meth c) (hF : en_F M G p l e R s m args below meth c Q A Post) (hA : ∀ q, s.heap.size ≤ q → A q) (hK : en_K G s) (hT : en_S G A s s.heap) (hz : H.size = al.1) (hd2 : ∀ q, h q ≠ none → A q) (hS : va_S A s.heap H locs) (hl : en_L lsA (MI.nL M) ls)
    (hr : va_Run p l e R s m args below meth c H locs al.2.1 al.2.2 mc ms (F0 m pc lsA st0) st (en_Q G h al.1 Post2 av) (fun q => h q ≠ none ∨ al.1 ≤ q))
    (k : ∀ (r : Option Value) (h2 : AH) (z2 : Nat), Post2 r h2 z2 → VT G M Post (z2, al.2.1 + mc, al.2.2 + ms) h2 (pc + 3) ls (r.toList ++ st)) : W p l e R s m args below meth c H locs al.2.1 al.2.2 Q (F0 m pc lsA st0) := by
  intro T hTT X
  obtain ⟨v, st₀, t, T', L, h0, X', hL, e1, e2, ⟨r, h', hv, hp, hP', hdm, hz1, hk1⟩, stp⟩ := hr T hTT X
  cases hv
  rw [h0] at hz1 hk1
  have hAA : ∀ q, (h q ≠ none ∨ al.1 ≤ q) → A q := fun q hq => hq.elim (hd2 q) (fun hq => hA q (by have := hS.1; omega))
  obtain ⟨t2, a1, b1⟩ := k v h' t.heap.size hp p l e R s m args below meth c Q A T'.heap (locs ++ L) lsA hX hF hA hK hT (by rw [e1]; exact hP') (by rw [e1]) (fun q hq => hAA q (hdm q hq))
    ⟨Nat.le_trans hS.1 (by rw [e1]; exact hz1), fun q g1 g2 => by rw [e1, hk1 q (Nat.lt_of_lt_of_le g1 hS.1) (fun z => g2 (hAA q z))]; exact hS.2.1 q g1 g2, fun q hq => by
      rcases List.mem_append.mp hq with g | g
      · exact hS.2.2 q g
      · exact hAA _ (hL q g)⟩ hl T' rfl X'
  exact ⟨t2, stp t2 a1, b1⟩
theorem te_callVo {y : MethodName} {M2 : MI} {n idx b ci : Nat} {fs : List Value} {r0 : vw_C} {As : List Value} {Post2 : Option Value → AH → Nat → Prop} (C : CnT G y M2 (.ref b :: As) al.1 h Post2) (by0 : BY y M2 n) (hi : (Cond.instanceMethod y) ∈ lw_good) (hsel : (Cond.selects y.cls y y) ∈ lw_good) (hlk : (Cond.methodLink (MI.own M) idx y) ∈ lw_good) (hd : decode (MI.cc M) pc = .ok (.invokevirtual idx, 3))
    (hn : As.length = n) (hb0 : h b = some (ob ci fs)) (hc : vwCl[ci]? = some r0) (hr0 : r0.1 = y.cls) (hst : (st.map fun v => v.category).sum ≤ 8) (hdp : MI.dp M2 + 1 ≤ MI.dp M ∧ MI.lo M2 + 19 + MI.nL M2 ≤ MI.lo M) (hroom : al.2.1 + MI.mc M2 ≤ MI.mc M ∧ al.2.2 + MI.ms M2 ≤ MI.ms M)
    (k : ∀ (r : Option Value) (h2 : AH) (z2 : Nat), Post2 r h2 z2 → VT G M Post (z2, al.2.1 + MI.mc M2, al.2.2 + MI.ms M2) h2 (pc + 3) ls (r.toList ++ st)) : VT G M Post al h pc ls (As.reverse ++ .ref b :: st) := by
  intro p l e R s m args below meth c Q A H locs lsA hX hF hA hK hT hP hz hd2 hS hl
  obtain ⟨hx, hb, hml, hown, hts, hR1, hR2, hR3, hR4, -⟩ := id hX
  have hls : lsA.size = MI.nL M := hl.choose_spec.1.1
  refine ten_behind (st0 := As.reverse ++ .ref b :: st) hX hF hA hK hT hz hd2 hS hl (va_runV (As := As) (rest := st) (C := y.cls) ⟨hx, hb, hml, hown, hts⟩ (C l) ⟨callB_of n hts (en_words by0) rfl rfl rfl (hts _ by0.2.1) (hts _ hlk) by0.2.2.1 ⟨by show MI.dp M2 + 1 ≤ _; omega, by show 8 + (MI.nL M2 + 11) + MI.lo M2 ≤ _; omega⟩, hts _ hi, hts _ hsel⟩
    ⟨en_blind, by rw [← hr0]; exact va_recv (ci := ci) (q0 := 0) (fs := fs) hK.1 (en_P.one hP hb0) hc rfl, fun U hU hW => ⟨rfl, by rw [hU]; exact hz, by rw [hU]; exact hP, hK.warm hW, by rw [hU]; exact ((hT.kept hS.2.1).moved hW.alike).narrow (fun q hq => hq.elim (hd2 q) (fun hq => hA q (by have := hS.1; omega)))⟩⟩ rfl hn hls rfl (lv_room hst) hd ⟨by omega, by omega⟩) k
theorem te_callS {y : MethodName} {M2 : MI} {n idx : Nat} {As : List Value} {Post2 : Option Value → AH → Nat → Prop} (C : CnT G y M2 As al.1 h Post2) (by0 : BY y M2 n) (hi : (Cond.static y) ∈ lw_good) (hlk : (Cond.methodLink (MI.own M) idx y) ∈ lw_good) (hd : decode (MI.cc M) pc = .ok (.invokestatic idx, 3))
    (hn : As.length = n) (hst : (st.map fun v => v.category).sum ≤ 8) (hdp : MI.dp M2 + 1 ≤ MI.dp M ∧ MI.lo M2 + 19 + MI.nL M2 ≤ MI.lo M) (hroom : al.2.1 + MI.mc M2 ≤ MI.mc M ∧ al.2.2 + MI.ms M2 ≤ MI.ms M)
    (k : ∀ (r : Option Value) (h2 : AH) (z2 : Nat), Post2 r h2 z2 → VT G M Post (z2, al.2.1 + MI.mc M2, al.2.2 + MI.ms M2) h2 (pc + 3) ls (r.toList ++ st)) : VT G M Post al h pc ls (As.reverse ++ st) := by
  intro p l e R s m args below meth c Q A H locs lsA hX hF hA hK hT hP hz hd2 hS hl
  obtain ⟨hx, hb, hml, hown, hts, hR1, hR2, hR3, hR4, -⟩ := id hX
  have hls : lsA.size = MI.nL M := hl.choose_spec.1.1
  refine ten_behind (st0 := As.reverse ++ st) hX hF hA hK hT hz hd2 hS hl (va_runS (As := As) (rest := st) ⟨hx, hb, hml, hown, hts⟩ (C l) ⟨callB_of n hts (en_words by0) rfl rfl rfl (hts _ by0.2.1) (hts _ hlk) by0.2.2.1 ⟨by show MI.dp M2 + 1 ≤ _; omega, by show 8 + (MI.nL M2 + 11) + MI.lo M2 ≤ _; omega⟩, hts _ hi⟩
    ⟨en_blind, fun U hU hW => ⟨rfl, by rw [hU]; exact hz, by rw [hU]; exact hP, hK.warm hW, by rw [hU]; exact ((hT.kept hS.2.1).moved hW.alike).narrow (fun q hq => hq.elim (hd2 q) (fun hq => hA q (by have := hS.1; omega)))⟩⟩ rfl hn hls rfl (lv_room hst) hd ⟨by omega, by omega⟩) k
theorem te_callVs {y : MethodName} {M2 : MI} {n idx i : Nat} {As : List Value} {Post2 : Option Value → AH → Nat → Prop} (C : CnT G y M2 (.ref (G.2.2.1 i) :: As) al.1 h Post2) (by0 : BY y M2 n) (hi : (Cond.instanceMethod y) ∈ lw_good) (hsel : (Cond.selects y.cls y y) ∈ lw_good) (hlk : (Cond.methodLink (MI.own M) idx y) ∈ lw_good) (hd : decode (MI.cc M) pc = .ok (.invokevirtual idx, 3))
    (hn : As.length = n) (hi5 : i < 5) (hycls : y.cls = "java/lang/String") (hst : (st.map fun v => v.category).sum ≤ 8) (hdp : MI.dp M2 + 1 ≤ MI.dp M ∧ MI.lo M2 + 19 + MI.nL M2 ≤ MI.lo M) (hroom : al.2.1 + MI.mc M2 ≤ MI.mc M ∧ al.2.2 + MI.ms M2 ≤ MI.ms M)
    (k : ∀ (r : Option Value) (h2 : AH) (z2 : Nat), Post2 r h2 z2 → VT G M Post (z2, al.2.1 + MI.mc M2, al.2.2 + MI.ms M2) h2 (pc + 3) ls (r.toList ++ st)) : VT G M Post al h pc ls (As.reverse ++ .ref (G.2.2.1 i) :: st) := by
  intro p l e R s m args below meth c Q A H locs lsA hX hF hA hK hT hP hz hd2 hS hl
  obtain ⟨hx, hb, hml, hown, hts, hR1, hR2, hR3, hR4, -⟩ := id hX
  have hls : lsA.size = MI.nL M := hl.choose_spec.1.1
  refine ten_behind (st0 := As.reverse ++ .ref (G.2.2.1 i) :: st) hX hF hA hK hT hz hd2 hS hl (va_runV (As := As) (rest := st) (C := y.cls) ⟨hx, hb, hml, hown, hts⟩ (C l) ⟨callB_of n hts (en_words by0) rfl rfl rfl (hts _ by0.2.1) (hts _ hlk) by0.2.2.1 ⟨by show MI.dp M2 + 1 ≤ _; omega, by show 8 + (MI.nL M2 + 11) + MI.lo M2 ≤ _; omega⟩, hts _ hi, hts _ hsel⟩
    ⟨en_blind, by rw [hycls]; exact vk_recv hT.1 hi5 hS, fun U hU hW => ⟨rfl, by rw [hU]; exact hz, by rw [hU]; exact hP, hK.warm hW, by rw [hU]; exact ((hT.kept hS.2.1).moved hW.alike).narrow (fun q hq => hq.elim (hd2 q) (fun hq => hA q (by have := hS.1; omega)))⟩⟩ rfl hn hls rfl (lv_room hst) hd ⟨by omega, by omega⟩) k
theorem te_i2c {x v : Int32} (hd : decode (MI.cc M) pc = .ok (.i2c, 1)) (hv : (x.toUInt32 % 65536).toInt32 = v) (k : VT G M Post al h (pc + 1) ls (.int v :: st)) : VT G M Post al h pc ls (.int x :: st) := VT.go (fun hx hb _ w => lv_i2c hx hb hd hv w) k
theorem te_compact {idx : Nat} (hl : (Cond.fieldLink (MI.own M) idx "java/lang/String" "COMPACT_STRINGS" "Z") ∈ lw_good) (hd : decode (MI.cc M) pc = .ok (.getstatic idx, 3)) (k : VT G M Post al h (pc + 3) ls (.int 1 :: st)) : VT G M Post al h pc ls st := by
  intro p l e R s m args below meth c Q A H locs lsA hX hF hA hK hT hP hz hd2 hS hl'
  obtain ⟨hx, hb, hml, hown, hts, -⟩ := id hX
  exact va_gets hx hb hT.2.1 hS hown (hts _ hl) (fun _ q => q) hd (k p l e R s m args below meth c Q A H locs lsA hX hF hA hK hT hP hz hd2 hS hl')
theorem te_sioobe {idx : Nat} (hl : (Cond.fieldLink (MI.own M) idx "jdk/internal/util/Preconditions" "SIOOBE_FORMATTER" "Ljava/util/function/BiFunction;") ∈ lw_good) (hd : decode (MI.cc M) pc = .ok (.getstatic idx, 3)) (k : ∀ v : Option Nat, VT G M Post al h (pc + 3) ls (va_rf v :: st)) : VT G M Post al h pc ls st := by
  intro p l e R s m args below meth c Q A H locs lsA hX hF hA hK hT hP hz hd2 hS hl'
  obtain ⟨hx, hb, hml, hown, hts, -⟩ := id hX
  rcases hT.2.2 with hZ | ⟨t, hZ⟩
  · exact va_gets hx hb hZ hS hown (hts _ hl) (fun _ q => q) hd (k none p l e R s m args below meth c Q A H locs lsA hX hF hA hK hT hP hz hd2 hS hl')
  · exact va_gets hx hb hZ hS hown (hts _ hl) (fun _ q => q) hd (k (some t) p l e R s m args below meth c Q A H locs lsA hX hF hA hK hT hP hz hd2 hS hl')
theorem te_coder {idx i : Nat} (hi5 : i < 5) (hl : (Cond.fieldLink (MI.own M) idx "java/lang/String" "coder" "B") ∈ lw_good) (hd : decode (MI.cc M) pc = .ok (.getfield idx, 3)) (k : VT G M Post al h (pc + 3) ls (.int 0 :: st)) : VT G M Post al h pc ls (.ref (G.2.2.1 i) :: st) := by
  intro p l e R s m args below meth c Q A H locs lsA hX hF hA hK hT hP hz hd2 hS hl'
  obtain ⟨hx, hb, hml, hown, hts, -⟩ := id hX
  exact vk_getf hx hb (hT.1.1 i hi5).2.1 hS hown (hts _ hl) (fun _ q => q) hd (k p l e R s m args below meth c Q A H locs lsA hX hF hA hK hT hP hz hd2 hS hl')
theorem te_value {idx i : Nat} (hi5 : i < 5) (hl : (Cond.fieldLink (MI.own M) idx "java/lang/String" "value" "[B") ∈ lw_good) (hd : decode (MI.cc M) pc = .ok (.getfield idx, 3)) (k : VT G M Post al h (pc + 3) ls (.ref (G.2.2.2 i) :: st)) : VT G M Post al h pc ls (.ref (G.2.2.1 i) :: st) := by
  intro p l e R s m args below meth c Q A H locs lsA hX hF hA hK hT hP hz hd2 hS hl'
  obtain ⟨hx, hb, hml, hown, hts, -⟩ := id hX
  exact vk_getf hx hb (hT.1.1 i hi5).2.2.1 hS hown (hts _ hl) (fun _ q => q) hd (k p l e R s m args below meth c Q A H locs lsA hX hF hA hK hT hP hz hd2 hS hl')
theorem te_vlen {i : Nat} (hi5 : i < 5) (hd : decode (MI.cc M) pc = .ok (.arraylength, 1)) (k : VT G M Post al h (pc + 1) ls (.int (nI (lw_len.getD i 0)) :: st)) : VT G M Post al h pc ls (.ref (G.2.2.2 i) :: st) := by
  intro p l e R s m args below meth c Q A H locs lsA hX hF hA hK hT hP hz hd2 hS hl'
  exact va_tlen hX.1 hX.2.1 (hT.1.1 i hi5).2.2.2 hS rfl hd (k p l e R s m args below meth c Q A H locs lsA hX hF hA hK hT hP hz hd2 hS hl')
theorem te_vld {i j : Nat} (hi5 : i < 5) (hj : j < lw_len.getD i 0) (hj2 : j < 2 ^ 31) (hl2 : lw_len.getD i 0 < 2 ^ 31) (hd : decode (MI.cc M) pc = .ok (.baload, 1)) (k : VT G M Post al h (pc + 1) ls (.int ((lw_byt.getD i []).getD j 0) :: st)) : VT G M Post al h pc ls (.int (nI j) :: .ref (G.2.2.2 i) :: st) := by
  intro p l e R s m args below meth c Q A H locs lsA hX hF hA hK hT hP hz hd2 hS hl'
  exact va_tb hX.1 hX.2.1 (hT.1.1 i hi5).2.2.2 hS (vp_in_nI hj hl2) (by show Value.int _ = Value.int _; rw [nI_clamp (by omega)]) hd (k p l e R s m args below meth c Q A H locs lsA hX hF hA hK hT hP hz hd2 hS hl')
end VT2
/-- an int (or char ..) as the answer, no cell made -/
def CIT (G : en_G) (y : MethodName) (M : MI) (av : List Value) (h : AH) (Pr : Int32 → AH → Prop) : Prop := ∀ sz, CnT G y M av sz h (PI sz Pr)
def CVT (G : en_G) (y : MethodName) (M : MI) (av : List Value) (h : AH) (Pr : AH → Prop) : Prop := ∀ sz, CnT G y M av sz h (PV sz Pr)
theorem CIT.ofVT {G : en_G} {y : MethodName} {M : MI} {av : List Value} {h : AH} {Pr : Int32 → AH → Prop} (hy : plainName y.cls = true) (hown : MI.own M = y.cls) (hini : MI.ini M = false) (h1 : ∀ v ∈ av, v.category = 1) (hn : av.length ≤ MI.nL M) (k : ∀ sz, VT G M (PI sz Pr) (sz, 0, 0) h 0 (en_l0 (MI.nL M) av) []) : CIT G y M av h Pr := fun sz => CnT.ofVT hy hown (fun q => by rw [hini] at q; cases q) h1 hn (k sz)
theorem CVT.ofVT {G : en_G} {y : MethodName} {M : MI} {av : List Value} {h : AH} {Pr : AH → Prop} (hy : plainName y.cls = true) (hown : MI.own M = y.cls) (hini : MI.ini M = false) (h1 : ∀ v ∈ av, v.category = 1) (hn : av.length ≤ MI.nL M) (k : ∀ sz, VT G M (PV sz Pr) (sz, 0, 0) h 0 (en_l0 (MI.nL M) av) []) : CVT G y M av h Pr := fun sz => CnT.ofVT hy hown (fun q => by rw [hini] at q; cases q) h1 hn (k sz)
section VT3
variable {G : en_G} {M : MI} {Post : Option Value → AH → Nat → Prop} {al : Nat × Nat × Nat} {h : AH} {pc : Nat} {ls : List (Option Value)} {st st0 : List Value} {y : MethodName} {M2 : MI} {n idx i : Nat} {As : List Value}
theorem tn_S {Pr : Int32 → AH → Prop} (C : CIT G y M2 As h Pr) (by0 : BY y M2 n) (hi : (Cond.static y) ∈ lw_good) (hlk : (Cond.methodLink (MI.own M) idx y) ∈ lw_good) (hd : decode (MI.cc M) pc = .ok (.invokestatic idx, 3)) (hn : As.length = n) (hs0 : st0 = As.reverse ++ st) (hst : (st.map fun v => v.category).sum ≤ 8) (hdp : MI.dp M2 + 1 ≤ MI.dp M ∧ MI.lo M2 + 19 + MI.nL M2 ≤ MI.lo M) (hroom : MI.mc M2 = 0 ∧ MI.ms M2 = 0 ∧ al.2.1 ≤ MI.mc M ∧ al.2.2 ≤ MI.ms M)
    (k : ∀ (x : Int32) (h2 : AH), Pr x h2 → VT G M Post al h2 (pc + 3) ls (.int x :: st)) : VT G M Post al h pc ls st0 := by
  subst hs0
  refine te_callS (C al.1) by0 hi hlk hd hn hst hdp ⟨by omega, by omega⟩ (fun r h2 z2 hp => ?_)
  obtain ⟨rfl, x, rfl, hp⟩ := hp
  rw [hroom.1, hroom.2.1]
  exact k x h2 hp
theorem tn_Sv {Pr : AH → Prop} (C : CVT G y M2 As h Pr) (by0 : BY y M2 n) (hi : (Cond.static y) ∈ lw_good) (hlk : (Cond.methodLink (MI.own M) idx y) ∈ lw_good) (hd : decode (MI.cc M) pc = .ok (.invokestatic idx, 3)) (hn : As.length = n) (hs0 : st0 = As.reverse ++ st) (hst : (st.map fun v => v.category).sum ≤ 8) (hdp : MI.dp M2 + 1 ≤ MI.dp M ∧ MI.lo M2 + 19 + MI.nL M2 ≤ MI.lo M) (hroom : MI.mc M2 = 0 ∧ MI.ms M2 = 0 ∧ al.2.1 ≤ MI.mc M ∧ al.2.2 ≤ MI.ms M)
    (k : ∀ (h2 : AH), Pr h2 → VT G M Post al h2 (pc + 3) ls st) : VT G M Post al h pc ls st0 := by
  subst hs0
  refine te_callS (C al.1) by0 hi hlk hd hn hst hdp ⟨by omega, by omega⟩ (fun r h2 z2 hp => ?_)
  obtain ⟨rfl, rfl, hp⟩ := hp
  rw [hroom.1, hroom.2.1]
  exact k h2 hp
theorem tn_Vs {Pr : Int32 → AH → Prop} (C : CIT G y M2 (.ref (G.2.2.1 i) :: As) h Pr) (by0 : BY y M2 n) (hi : (Cond.instanceMethod y) ∈ lw_good) (hsel : (Cond.selects y.cls y y) ∈ lw_good) (hlk : (Cond.methodLink (MI.own M) idx y) ∈ lw_good) (hd : decode (MI.cc M) pc = .ok (.invokevirtual idx, 3)) (hn : As.length = n) (hs0 : st0 = As.reverse ++ .ref (G.2.2.1 i) :: st) (hi5 : i < 5) (hycls : y.cls = "java/lang/String") (hst : (st.map fun v => v.category).sum ≤ 8) (hdp : MI.dp M2 + 1 ≤ MI.dp M ∧ MI.lo M2 + 19 + MI.nL M2 ≤ MI.lo M) (hroom : MI.mc M2 = 0 ∧ MI.ms M2 = 0 ∧ al.2.1 ≤ MI.mc M ∧ al.2.2 ≤ MI.ms M)
    (k : ∀ (x : Int32) (h2 : AH), Pr x h2 → VT G M Post al h2 (pc + 3) ls (.int x :: st)) : VT G M Post al h pc ls st0 := by
  subst hs0
  refine te_callVs (C al.1) by0 hi hsel hlk hd hn hi5 hycls hst hdp ⟨by omega, by omega⟩ (fun r h2 z2 hp => ?_)
  obtain ⟨rfl, x, rfl, hp⟩ := hp
  rw [hroom.1, hroom.2.1]
  exact k x h2 hp
/-- a text is loaded and handed to a method of an object of ours -/
theorem n_ldcV {idx1 b ci : Nat} {tx : String} {fs : List Value} {r0 : vw_C} {Pr : Int32 → AH → Prop} (q : (MI.own M, idx1, tx, i) ∈ lw_strs) (hd1 : decode (MI.cc M) pc = .ok (.ldc idx1, 2)) (C : ∀ G, CIT G y M2 [.ref b, .ref (G.2.2.1 i)] h Pr) (by0 : BY y M2 1) (hi : (Cond.instanceMethod y) ∈ lw_good) (hsel : (Cond.selects y.cls y y) ∈ lw_good) (hlk : (Cond.methodLink (MI.own M) idx y) ∈ lw_good) (hd : decode (MI.cc M) (pc + 2) = .ok (.invokevirtual idx, 3))
    (hb0 : h b = some (ob ci fs)) (hc : vwCl[ci]? = some r0) (hr0 : r0.1 = y.cls) (hst : (st.map fun v => v.category).sum ≤ 8) (hdp : MI.dp M2 + 1 ≤ MI.dp M ∧ MI.lo M2 + 19 + MI.nL M2 ≤ MI.lo M) (hroom : MI.mc M2 = 0 ∧ MI.ms M2 = 0 ∧ al.2.1 ≤ MI.mc M ∧ al.2.2 ≤ MI.ms M)
    (k : ∀ (x : Int32) (h2 : AH), Pr x h2 → V M Post al h2 (pc + 5) ls (.int x :: st)) : V M Post al h pc ls (.ref b :: st) := by
  intro G p l e R s m args below meth c Q A H locs lsA hX hF hA hK hT hP hz hd2 hS hl
  obtain ⟨hx, hb, hml, hown, hts, -⟩ := id hX
  refine va_ldcS hx hb hown (hK.2.2.1 _ q) hd1 ?_
  have kk : VT G M Post al h (pc + 2) ls ([Value.ref (G.2.2.1 i)].reverse ++ .ref b :: st) := te_callVo (C G al.1) by0 hi hsel hlk hd rfl hb0 hc hr0 hst hdp ⟨by omega, by omega⟩ (fun r h2 z2 hp => by
    obtain ⟨rfl, x, rfl, hp⟩ := hp
    rw [hroom.1, hroom.2.1]
    exact k x h2 hp G)
  exact kk p l e R s m args below meth c Q A H locs lsA hX hF hA hK hT hP hz hd2 hS hl
theorem tn_iret {sz : Nat} {Pr : Int32 → AH → Prop} {x : Int32} (hd : decode (MI.cc M) pc = .ok (.ireturn, 1)) (hr : MI.rt M = some .int) (hp : Pr x h) : VT G M (PI sz Pr) (sz, 0, 0) h pc ls [.int x] := te_iret hd hr ⟨Nat.zero_le _, Nat.zero_le _⟩ ⟨rfl, x, rfl, hp⟩
theorem tn_zret {sz : Nat} {Pr : Int32 → AH → Prop} {x : Int32} (hd : decode (MI.cc M) pc = .ok (.ireturn, 1)) (hr : MI.rt M = some .boolean) (hx : narrow .boolean (.int x) = .int x) (hp : Pr x h) : VT G M (PI sz Pr) (sz, 0, 0) h pc ls [.int x] := te_zret hd hr hx ⟨Nat.zero_le _, Nat.zero_le _⟩ ⟨rfl, x, rfl, hp⟩
theorem tn_nret {sz : Nat} {ty : FieldType} {Pr : Int32 → AH → Prop} {x : Int32} (hd : decode (MI.cc M) pc = .ok (.ireturn, 1)) (hr : MI.rt M = some ty) (hx : narrow ty (.int x) = .int x) (hp : Pr x h) : VT G M (PI sz Pr) (sz, 0, 0) h pc ls [.int x] := te_nret hd hr hx ⟨Nat.zero_le _, Nat.zero_le _⟩ ⟨rfl, x, rfl, hp⟩
theorem tn_vret {sz : Nat} {Pr : AH → Prop} (hd : decode (MI.cc M) pc = .ok (.return_, 1)) (hr : MI.rt M = none) (hp : Pr h) : VT G M (PV sz Pr) (sz, 0, 0) h pc ls [] := te_vret hd hr ⟨Nat.zero_le _, Nat.zero_le _⟩ ⟨rfl, rfl, hp⟩
end VT3
abbrev LI (z : Nat) : Nat := z
section JD
variable {G : en_G} {h : AH} {i : Nat}
theorem tx_mem {l : List Int32} {k : Nat} (h : k < l.length) : l.getD k 0 ∈ l := by
  rw [List.getD_eq_getElem?_getD, List.getElem?_eq_getElem h]
  exact List.getElem_mem _
theorem tx_ok (i : Nat) (hi : i < 5) : lw_len.getD i 0 = (lw_byt.getD i []).length ∧ lw_len.getD i 0 ≤ 5 ∧ ∀ b ∈ lw_byt.getD i [], ((b &&& 255).toUInt32 % 65536).toInt32 = b ∧ narrow .char (.int b) = .int b := by
  match i, hi with
  | 0, _ => decide
  | 1, _ => decide
  | 2, _ => decide
  | 3, _ => decide
  | 4, _ => decide
theorem c_J0_coder (hi : i < 5) : CIT G yJ0_coder_7d493 MJ0_coder_7d493 [.ref (G.2.2.1 i)] h (fun x h' => x = 0 ∧ h' = h) := by
  refine CIT.ofVT (by decide) rfl rfl (by simp [Value.category]) (by exact Nat.le_of_ble_eq_true rfl) (fun sz => ?_)
  refine te_compact q_f_J0_38 dJ0_coder_7d493_0 ?_
  refine te_if_eq (pc := 3) (tgt := 13) dJ0_coder_7d493_3 (by decide) (fun q => absurd q (by decide)) (fun _ => ?_)
  refine te_aload_n (pc := 6) dJ0_coder_7d493_6 rfl rfl ?_
  refine te_coder (pc := 7) hi q_f_J0_15 dJ0_coder_7d493_7 ?_
  refine te_goto (pc := 10) (tgt := 14) dJ0_coder_7d493_10 (by decide) ?_
  exact tn_nret dJ0_coder_7d493_14 rfl rfl ⟨rfl, rfl⟩
theorem c_J0_isLatin1 (hi : i < 5) : CIT G yJ0_isLatin1_aae02 MJ0_isLatin1_aae02 [.ref (G.2.2.1 i)] h (fun x h' => x = 1 ∧ h' = h) := by
  refine CIT.ofVT (by decide) rfl rfl (by simp [Value.category]) (by exact Nat.le_of_ble_eq_true rfl) (fun sz => ?_)
  refine te_compact q_f_J0_38 dJ0_isLatin1_aae02_0 ?_
  refine te_if_eq (pc := 3) (tgt := 17) dJ0_isLatin1_aae02_3 (by decide) (fun q => absurd q (by decide)) (fun _ => ?_)
  refine te_aload_n (pc := 6) dJ0_isLatin1_aae02_6 rfl rfl ?_
  refine te_coder (pc := 7) hi q_f_J0_15 dJ0_isLatin1_aae02_7 ?_
  refine te_if_ne (pc := 10) (tgt := 17) dJ0_isLatin1_aae02_10 (by decide) (fun q => absurd rfl q) (fun _ => ?_)
  refine tn_iconst (pc := 13) 1 dJ0_isLatin1_aae02_13 (by decide) ?_
  refine te_goto (pc := 14) (tgt := 18) dJ0_isLatin1_aae02_14 (by decide) ?_
  exact tn_zret dJ0_isLatin1_aae02_18 rfl rfl ⟨rfl, rfl⟩
theorem c_J0_length (hi : i < 5) : CIT G yJ0_length_8abf5 MJ0_length_8abf5 [.ref (G.2.2.1 i)] h (fun x h' => x = nI (lw_len.getD i 0) ∧ h' = h) := by
  obtain ⟨a1, a2, a3⟩ := tx_ok i hi
  refine CIT.ofVT (by decide) rfl rfl (by simp [Value.category]) (by exact Nat.le_of_ble_eq_true rfl) (fun sz => ?_)
  refine te_aload_n (pc := 0) dJ0_length_8abf5_0 rfl rfl ?_
  refine te_value (pc := 1) hi q_f_J0_9 dJ0_length_8abf5_1 ?_
  refine te_vlen (pc := 4) hi dJ0_length_8abf5_4 ?_
  refine te_aload_n (pc := 5) dJ0_length_8abf5_5 rfl rfl ?_
  refine tn_Vs (pc := 6) (c_J0_coder hi) bJ0_coder_7d493 q_i_J0_coder_7d493 q_s_J0_coder_7d493 q_m_J0_335 dJ0_length_8abf5_6 rfl rfl hi rfl (by exact Nat.le_of_ble_eq_true rfl) ⟨by decide, by decide⟩ ⟨rfl, rfl, Nat.zero_le _, Nat.zero_le _⟩ (fun x h2 hp => ?_)
  obtain ⟨rfl, rfl⟩ := hp
  refine te_ishr (pc := 9) dJ0_length_8abf5_9 ?_
  refine tn_iret dJ0_length_8abf5_10 rfl ⟨?_, rfl⟩
  match i, hi with
  | 0, _ => rfl
  | 1, _ => rfl
  | 2, _ => rfl
  | 3, _ => rfl
  | 4, _ => rfl
theorem c_J3_checkIndex {k n : Nat} {v : Option Nat} (hk : k < n) (hn : n < 2 ^ 31) : CIT G yJ3_checkIndex_8e157 MJ3_checkIndex_8e157 [.int (nI k), .int (nI n), va_rf v] h (fun x h' => x = nI k ∧ h' = h) := by
  refine CIT.ofVT (by decide) rfl rfl (by cases v <;> simp [Value.category, va_rf]) (by exact Nat.le_of_ble_eq_true rfl) (fun sz => ?_)
  refine te_iload_n (pc := 0) dJ3_checkIndex_8e157_0 rfl rfl ?_
  refine te_if_lt (pc := 1) (tgt := 9) dJ3_checkIndex_8e157_1 (by decide) (fun q => absurd q (nI_pos (by omega))) (fun _ => ?_)
  refine te_iload_n (pc := 4) dJ3_checkIndex_8e157_4 rfl rfl ?_
  refine te_iload_n (pc := 5) dJ3_checkIndex_8e157_5 rfl rfl ?_
  refine tn_icmp_lt (pc := 6) (tgt := 16) dJ3_checkIndex_8e157_6 (by decide) (by omega) (by omega) (fun _ => ?_) (fun q => absurd hk (by omega))
  refine te_iload_n (pc := 16) dJ3_checkIndex_8e157_16 rfl rfl ?_
  exact tn_iret dJ3_checkIndex_8e157_17 rfl ⟨rfl, rfl⟩
theorem c_J0_checkIndex {k n : Nat} (hk : k < n) (hn : n < 2 ^ 31) : CVT G yJ0_checkIndex_df160 MJ0_checkIndex_df160 [.int (nI k), .int (nI n)] h (fun h' => h' = h) := by
  refine CVT.ofVT (by decide) rfl rfl (by simp [Value.category]) (by exact Nat.le_of_ble_eq_true rfl) (fun sz => ?_)
  refine te_iload_n (pc := 0) dJ0_checkIndex_df160_0 rfl rfl ?_
  refine te_iload_n (pc := 1) dJ0_checkIndex_df160_1 rfl rfl ?_
  refine te_sioobe (pc := 2) q_f_J0_1053 dJ0_checkIndex_df160_2 (fun v => ?_)
  refine tn_S (pc := 5) (c_J3_checkIndex (v := v) hk hn) bJ3_checkIndex_8e157 q_st_J3_checkIndex_8e157 q_m_J0_1059 dJ0_checkIndex_df160_5 rfl rfl (by exact Nat.le_of_ble_eq_true rfl) ⟨by decide, by decide⟩ ⟨rfl, rfl, Nat.zero_le _, Nat.zero_le _⟩ (fun x h2 hp => ?_)
  obtain ⟨rfl, rfl⟩ := hp
  refine te_pop (pc := 8) dJ0_checkIndex_df160_8 rfl ?_
  exact tn_vret dJ0_checkIndex_df160_9 rfl rfl
theorem c_J1_charAt {k : Nat} (hi : i < 5) (hk : k < lw_len.getD i 0) : CIT G yJ1_charAt_3b067 MJ1_charAt_3b067 [.ref (G.2.2.2 i), .int (nI k)] h (fun x h' => x = (lw_byt.getD i []).getD k 0 ∧ h' = h) := by
  obtain ⟨a1, a2, a3⟩ := tx_ok i hi
  have hm : (lw_byt.getD i []).getD k 0 ∈ lw_byt.getD i [] := tx_mem (by omega)
  obtain ⟨m1, m2⟩ := a3 _ hm
  refine CIT.ofVT (by decide) rfl rfl (by simp [Value.category]) (by exact Nat.le_of_ble_eq_true rfl) (fun sz => ?_)
  refine te_iload_n (pc := 0) dJ1_charAt_3b067_0 rfl rfl ?_
  refine te_aload_n (pc := 1) dJ1_charAt_3b067_1 rfl rfl ?_
  refine te_vlen (pc := 2) hi dJ1_charAt_3b067_2 ?_
  refine tn_Sv (pc := 3) (c_J0_checkIndex hk (by omega)) bJ0_checkIndex_df160 q_st_J0_checkIndex_df160 q_m_J1_9 dJ1_charAt_3b067_3 rfl rfl (by exact Nat.le_of_ble_eq_true rfl) ⟨by decide, by decide⟩ ⟨rfl, rfl, Nat.zero_le _, Nat.zero_le _⟩ (fun h2 hp => ?_)
  subst hp
  refine te_aload_n (pc := 6) dJ1_charAt_3b067_6 rfl rfl ?_
  refine te_iload_n (pc := 7) dJ1_charAt_3b067_7 rfl rfl ?_
  refine te_vld (pc := 8) hi hk (by omega) (by omega) dJ1_charAt_3b067_8 ?_
  refine te_sipush (pc := 9) (v := 255) dJ1_charAt_3b067_9 (by decide) ?_
  refine te_iand (pc := 12) dJ1_charAt_3b067_12 ?_
  refine te_i2c (pc := 13) dJ1_charAt_3b067_13 m1 ?_
  exact tn_nret dJ1_charAt_3b067_14 rfl m2 ⟨rfl, rfl⟩
theorem c_J0_charAt {k : Nat} (hi : i < 5) (hk : k < lw_len.getD i 0) : CIT G yJ0_charAt_5068e MJ0_charAt_5068e [.ref (G.2.2.1 i), .int (nI k)] h (fun x h' => x = (lw_byt.getD i []).getD k 0 ∧ h' = h) := by
  obtain ⟨a1, a2, a3⟩ := tx_ok i hi
  have hm : (lw_byt.getD i []).getD k 0 ∈ lw_byt.getD i [] := tx_mem (by omega)
  obtain ⟨m1, m2⟩ := a3 _ hm
  refine CIT.ofVT (by decide) rfl rfl (by simp [Value.category]) (by exact Nat.le_of_ble_eq_true rfl) (fun sz => ?_)
  refine te_aload_n (pc := 0) dJ0_charAt_5068e_0 rfl rfl ?_
  refine tn_Vs (pc := 1) (c_J0_isLatin1 hi) bJ0_isLatin1_aae02 q_i_J0_isLatin1_aae02 q_s_J0_isLatin1_aae02 q_m_J0_492 dJ0_charAt_5068e_1 rfl rfl hi rfl (by exact Nat.le_of_ble_eq_true rfl) ⟨by decide, by decide⟩ ⟨rfl, rfl, Nat.zero_le _, Nat.zero_le _⟩ (fun x h2 hp => ?_)
  obtain ⟨rfl, rfl⟩ := hp
  refine te_if_eq (pc := 4) (tgt := 16) dJ0_charAt_5068e_4 (by decide) (fun q => absurd q (by decide)) (fun _ => ?_)
  refine te_aload_n (pc := 7) dJ0_charAt_5068e_7 rfl rfl ?_
  refine te_value (pc := 8) hi q_f_J0_9 dJ0_charAt_5068e_8 ?_
  refine te_iload_n (pc := 11) dJ0_charAt_5068e_11 rfl rfl ?_
  refine tn_S (pc := 12) (c_J1_charAt hi hk) bJ1_charAt_3b067 q_st_J1_charAt_3b067 q_m_J0_495 dJ0_charAt_5068e_12 rfl rfl (by exact Nat.le_of_ble_eq_true rfl) ⟨by decide, by decide⟩ ⟨rfl, rfl, Nat.zero_le _, Nat.zero_le _⟩ (fun x h2 hp => ?_)
  obtain ⟨rfl, rfl⟩ := hp
  exact tn_nret dJ0_charAt_5068e_15 rfl m2 ⟨rfl, rfl⟩
end JD
