/-! ===== the law's entry, in the words of the judgement ===== -/
theorem l_ctx {s : State} {b L : Nat} {xs : Nat → Int32} (hL : L ≤ 260) (hX : va_X b L xs s s.heap) (hbl : b < s.heap.size) (hts : ∀ w ∈ lw_tbl, w.before #[Value.ref b] s = true) (hg : (Jvm.Cond.and given_1 narrow_1).before #[Value.ref b] s = true) : ∃ (G : en_G) (ro : RT), en_K G s ∧ en_S G (fun q => s.heap.size ≤ q) s s.heap ∧ RO ro G (fun q => s.heap.size ≤ q) s s.heap ∧ LTx ro ∧ DT ro ∧ ro.1 b = some (aI L xs) := by
  have hs := flat_of_before _ hg
  have hgd : ∀ w ∈ lw_good, w.before #[Value.ref b] s = true := fun w hw => hts w (List.mem_filter.mp hw).1
  have hA : ∀ a : Nat, a < s.heap.size → ¬ s.heap.size ≤ a := fun a h => by omega
  have mk : ∀ {C : String} {T : u_T} {N n : Nat}, (∀ w ∈ u_ws C T N, w ∈ lw_good) → (Cond.instantiable C n) ∈ lw_good → ∃ D : ClassId × (Nat → Nat), u_Kn s C T N D.1 D.2 := fun hin hib => by
    obtain ⟨cC, iS, h⟩ := u_known hgd hin (hgd _ hib)
    exact ⟨(cC, iS), h⟩
  have hcl : ∀ c : Nat, ∃ D : ClassId × (Nat → Nat), ∀ q, vwCl[c]? = some q → u_Kn s q.1 q.2.1 q.2.2 D.1 D.2 := fun c => by
    by_cases hc : c < 13
    · match c, hc with
      | 0, _ => obtain ⟨D, h⟩ := mk uX0 q_ib_X0; exact ⟨D, fun q hq => by cases hq; exact h⟩
      | 1, _ => obtain ⟨D, h⟩ := mk uX1 q_ib_X1; exact ⟨D, fun q hq => by cases hq; exact h⟩
      | 2, _ => obtain ⟨D, h⟩ := mk uX2 q_ib_X2; exact ⟨D, fun q hq => by cases hq; exact h⟩
      | 3, _ => obtain ⟨D, h⟩ := mk uX3 q_ib_X3; exact ⟨D, fun q hq => by cases hq; exact h⟩
      | 4, _ => obtain ⟨D, h⟩ := mk uX4 q_ib_X4; exact ⟨D, fun q hq => by cases hq; exact h⟩
      | 5, _ => obtain ⟨D, h⟩ := mk uX5 q_ib_X5; exact ⟨D, fun q hq => by cases hq; exact h⟩
      | 6, _ => obtain ⟨D, h⟩ := mk uX6 q_ib_X6; exact ⟨D, fun q hq => by cases hq; exact h⟩
      | 7, _ => obtain ⟨D, h⟩ := mk uX7 q_ib_X7; exact ⟨D, fun q hq => by cases hq; exact h⟩
      | 8, _ => obtain ⟨D, h⟩ := mk uX9 q_ib_X9; exact ⟨D, fun q hq => by cases hq; exact h⟩
      | 9, _ => obtain ⟨D, h⟩ := mk uX10 q_ib_X10; exact ⟨D, fun q hq => by cases hq; exact h⟩
      | 10, _ => obtain ⟨D, h⟩ := mk uX11 q_ib_X11; exact ⟨D, fun q hq => by cases hq; exact h⟩
      | 11, _ => obtain ⟨D, h⟩ := mk uJ0 q_ib_J0; exact ⟨D, fun q hq => by cases hq; exact h⟩
      | 12, _ => obtain ⟨D, h⟩ := mk uJ4 q_ib_J4; exact ⟨D, fun q hq => by cases hq; exact h⟩
    · refine ⟨(0, fun _ => 0), fun q hq => ?_⟩
      rw [List.getElem?_eq_none (by show 13 ≤ c; omega)] at hq
      cases hq
  obtain ⟨D, hD⟩ := Classical.axiomOfChoice hcl
  obtain ⟨a0, k0, p0, b1, b2, b3⟩ := Cond.arrayClass_spec (hgd _ q_ac_int)
  obtain ⟨a1, k1, p1, e1, e2, e3⟩ := Cond.arrayClass_spec (hgd _ q_ac_boolean)
  obtain ⟨p2, a2, k2, c1, -, c2, c3, c4⟩ := arrayOverA_spec (hts _ q_ao_array_int)
  obtain ⟨p3, a3, k3, d1, -, d2, d3, d4⟩ := Cond.arrayOver_spec (hts _ q_ao_object_NeedNotJoin_World)
  obtain ⟨a4, k4, p4, f1, f2, f3⟩ := Cond.arrayClass_spec (hgd _ q_ac_byte)
  obtain ⟨p5, a5, k5, g1, -, g2, g3, g4⟩ := arrayOverA_spec (hts _ q_ao_array_array_int)
  obtain ⟨adK, adV, hS, hE⟩ := vk_Sof (args := #[Value.ref b]) (s := s) (N := 5) (tm := tm5) (len := lw_len) (byt := lw_byt) (A := fun q => s.heap.size ≤ q) (by decide) (fun i hi => hs _ (cx_ex i hi)) (fun i hi => hs _ (cx_co i hi)) (fun i hi => hs _ (cx_ar i hi)) (fun i hi => hs _ (cx_le i hi)) (fun i hi j hj => hs _ (cx_el i hi j hj)) (fun i j hi hj hne => by
    rcases Nat.lt_or_gt_of_ne hne with g | g
    · exact Or.inl (hs _ (cx_ne i hi j hj g))
    · exact Or.inr (hs _ (cx_ne j hj i hi g))) hA
  obtain ⟨bdK, bdV, hS8, hE8⟩ := vk_Sof (args := #[Value.ref b]) (s := s) (N := 8) (tm := tm8) (len := ln8) (byt := by8) (A := fun q => s.heap.size ≤ q) (by decide) (fun i hi => hs _ (cy_ex i hi)) (fun i hi => hs _ (cy_co i hi)) (fun i hi => hs _ (cy_ar i hi)) (fun i hi => hs _ (cy_le i hi)) (fun i hi j hj => hs _ (cy_el i hi j hj)) (fun i j hi hj hne => by
    rcases Nat.lt_or_gt_of_ne hne with g | g
    · exact Or.inl (hs _ (cy_ne i hi j hj g))
    · exact Or.inr (hs _ (cy_ne j hj i hi g))) hA
  obtain ⟨t1, ht1, hT1⟩ := va_Tof (args := #[Value.ref b]) (s := s) (tm := tmO) (ty := .byte) (N := 100) (f := fun j => .int (Int32.ofNat (48 + j % 10))) (A := fun q => s.heap.size ≤ q) (by omega) (hs _ co_ar.1) (va_eqt (hs _ co_le.1)) (fun j hj => va_eqt (hs _ (co_el j hj))) hA
  obtain ⟨t2, ht2, hT2⟩ := va_Tof (args := #[Value.ref b]) (s := s) (tm := tmT) (ty := .byte) (N := 100) (f := fun j => .int (Int32.ofNat (48 + j / 10))) (A := fun q => s.heap.size ≤ q) (by omega) (hs _ co_ar.2) (va_eqt (hs _ co_le.2)) (fun j hj => va_eqt (hs _ (ct_el j hj))) hA
  obtain ⟨cJ, kJ, hcJ, hkJ, hkdJ, -⟩ := Cond.instantiable_spec (hgd _ q_ib_J0)
  have hbT : va_T .int b L (fun j => .int (xs j)) (fun q => s.heap.size ≤ q) s s.heap := by
    obtain ⟨scr, x1, x2, x3, x4, x5⟩ := hX
    exact ⟨scr, x1, x2, x3, by omega, by rw [x4], x5, hA b hbl⟩
  obtain ⟨r1, r2, r3, r4⟩ := l_ro (G := ((fun c => (D c).1, fun c => (D c).2), fun k => if k = 0 then a0 else if k = 1 then a1 else if k = 2 then a2 else if k = 3 then a3 else if k = 4 then a4 else a5, adK, adV)) hL hcJ hkJ hkdJ hbT hS8 hT1 hT2
  refine ⟨((fun c => (D c).1, fun c => (D c).2), fun k => if k = 0 then a0 else if k = 1 then a1 else if k = 2 then a2 else if k = 3 then a3 else if k = 4 then a4 else a5, adK, adV), (ro1 b L xs bdK bdV t1 t2, ro2 bdK t1 t2), ⟨⟨fun c q hq => hD c q hq, fun k q hk => ?_⟩, ?_, ?_, va_AO.of (hts _ q_ao_object_NeedNotJoin_World), hts _ q_ao_array_int, hts _ q_ao_array_array_int⟩, ⟨hS, va_Zof (hts _ q_ls_J0_COMPACT_STRINGS) (hgd _ q_in_J0) (va_eqt (hs (Cond.eq (.static "java/lang/String" "COMPACT_STRINGS" "Z") (.int 1)) (by decide +kernel))) hA, va_Zqof (hts _ q_ls_J3_SIOOBE_FORMATTER) (hgd _ q_in_J3) (hs (Cond.isRef (.static "jdk/internal/util/Preconditions" "SIOOBE_FORMATTER" "Ljava/util/function/BiFunction;")) (by decide +kernel)) hA⟩, ⟨r1, ?_, va_Zref (hts _ q_ls_J6_DigitOnes) (hgd _ q_in_J6) ht1 hA, va_Zref (hts _ q_ls_J6_DigitTens) (hgd _ q_in_J6) ht2 hA, ?_, va_Nw.of rfl (hts _ q_castB)⟩, r2, r3, r4⟩
  · match k, hk with
    | 0, hk => cases hk; exact ⟨fun n z => ⟨fun x h => (by cases h), k0, b2, p0, b3⟩, b1⟩
    | 1, hk => cases hk; exact ⟨fun n z => ⟨fun x h => (by cases h), k1, e2, p1, e3⟩, e1⟩
    | 2, hk => cases hk; exact ⟨fun n z => ⟨fun x h => (by cases h), k2, c2, p2, c3⟩, c4⟩
    | 3, hk => cases hk; exact ⟨fun n z => ⟨fun x h => (by cases h), k3, d2, p3, d3⟩, k3, p3, d2, d3, d1, d4⟩
    | 4, hk => cases hk; exact ⟨fun n z => ⟨fun x h => (by cases h), k4, f2, p4, f3⟩, f1⟩
    | 5, hk => cases hk; exact ⟨fun n z => ⟨fun x h => (by cases h), k5, g2, p5, g3⟩, g4⟩
    | k + 6, hk => cases hk
  · exact List.forall_mem_cons.mpr ⟨va_Nw.of rfl (hts _ q_mn_X6_34), List.forall_mem_cons.mpr ⟨va_Nw.of rfl (hts _ q_mn_X10_25), List.forall_mem_cons.mpr ⟨va_Nw.of rfl (hts _ q_mn_X4_46), List.forall_mem_cons.mpr ⟨va_Nw.of rfl (hts _ q_mn_X10_32), List.forall_mem_cons.mpr ⟨va_Nw.of rfl (hts _ q_mn_X10_66), List.forall_mem_cons.mpr ⟨va_Nw.of rfl (hts _ q_mn_X2_11), List.forall_mem_cons.mpr ⟨va_Nw.of rfl (hts _ q_mn_X10_80), List.forall_mem_cons.mpr ⟨va_Nw.of rfl (hts _ q_mn_L_30), fun q hq => by cases hq⟩⟩⟩⟩⟩⟩⟩⟩
  · exact List.forall_mem_cons.mpr ⟨vk_R.of (hts _ q_sr_X4_76) (hE 0 (by omega)), List.forall_mem_cons.mpr ⟨vk_R.of (hts _ q_sr_X4_82) (hE 1 (by omega)), List.forall_mem_cons.mpr ⟨vk_R.of (hts _ q_sr_X4_84) (hE 2 (by omega)), List.forall_mem_cons.mpr ⟨vk_R.of (hts _ q_sr_X4_85) (hE 3 (by omega)), List.forall_mem_cons.mpr ⟨vk_R.of (hts _ q_sr_X4_87) (hE 4 (by omega)), fun q hq => by cases hq⟩⟩⟩⟩⟩
  · exact List.forall_mem_cons.mpr ⟨vk_R.of (hts _ q_sr_L_61) (hE8 0 (by omega)), List.forall_mem_cons.mpr ⟨vk_R.of (hts _ q_sr_L_70) (hE8 1 (by omega)), List.forall_mem_cons.mpr ⟨vk_R.of (hts _ q_sr_L_72) (hE8 2 (by omega)), List.forall_mem_cons.mpr ⟨vk_R.of (hts _ q_sr_L_82) (hE8 3 (by omega)), List.forall_mem_cons.mpr ⟨vk_R.of (hts _ q_sr_L_95) (hE8 4 (by omega)), List.forall_mem_cons.mpr ⟨vk_R.of (hts _ q_sr_L_115) (hE8 5 (by omega)), List.forall_mem_cons.mpr ⟨vk_R.of (hts _ q_sr_L_117) (hE8 6 (by omega)), List.forall_mem_cons.mpr ⟨vk_R.of (hts _ q_sr_L_123) (hE8 7 (by omega)), fun q hq => by cases hq⟩⟩⟩⟩⟩⟩⟩⟩
  · exact List.forall_mem_cons.mpr ⟨va_Nw.of rfl (hts _ q_fn_L_148), List.forall_mem_cons.mpr ⟨va_Nw.of rfl (hts _ q_fn_L_145), List.forall_mem_cons.mpr ⟨va_Nw.of rfl (hts _ q_fn_L_91), List.forall_mem_cons.mpr ⟨va_Nw.of rfl (hts _ q_fn_L_35), List.forall_mem_cons.mpr ⟨va_Nw.of rfl (hts _ q_fn_L_101), fun q hq => by cases hq⟩⟩⟩⟩⟩
theorem lw_sel_more {y z : MethodName} {s : State} {args : Array Value} (hy : y.cls ≠ "java/lang/invoke/MethodHandle" ∧ y.cls ≠ "java/lang/invoke/VarHandle") (hz : z.cls = y.cls)
    (hins : (Cond.instantiable "java/lang/StringBuilder" 4).before args s = true) (hpriv : (Cond.privateMethod y).before args s = true) (hinst : (Cond.instanceMethod y).before args s = true) (hlat : (Cond.selects "java/lang/StringBuilder" z z).before args s = true) :
    (Cond.selects "java/lang/StringBuilder" y y).before args s = true := by
  obtain ⟨c, k, hc, hk, -, -, -, -⟩ := Cond.instantiable_spec hins
  obtain ⟨mk, methM, hnamed, hmethM, -, -⟩ := Cond.instanceMethod_spec hinst
  obtain ⟨c2, r2, m2, -, -, hn2, -, k2, hk2, hi2⟩ := Cond.selects_spec hlat
  have hfound : s.methodFound? y.cls y.name y.desc = some mk := State.methodFound?_of_named hnamed hy
  have hcls : m2.cls = mk.cls := Option.some.inj ((findClass_of_methodNamed hn2).symm.trans ((congrArg s.vm.findClass hz).trans (findClass_of_methodNamed hnamed)))
  have hsel : selectMethod {} s.vm c mk = .method mk := selectMethod_private hmethM (Cond.privateMethod_at hpriv mk methM hnamed hmethM)
  rw [hcls] at hk2
  simp only [Cond.before, Cond.holds, Cond.value, hc, hfound, hnamed, hsel, hk2]
  simp; exact hi2
theorem lw_hts {s : State} {args : Array Value} (h : ∀ c ∈ tables_1, c.before args s = true) : ∀ w ∈ lw_tbl, w.before args s = true := by
  have h1 : ∀ w ∈ k2_sels lw_privs ++ tables_1, w.before args s = true := k2_hts_sels lw_privs h lw_privs_ok
  have mem : ∀ y : MethodName, Cond.privateMethod y ∈ tables_1 → Cond.instanceMethod y ∈ tables_1 → y.cls = "java/lang/AbstractStringBuilder" → (Cond.selects "java/lang/StringBuilder" y y).before args s = true := fun y p q e =>
    lw_sel_more (z := ⟨"java/lang/AbstractStringBuilder", "isLatin1", "()Z"⟩) (by rw [e]; decide) e.symm (h _ (by decide +kernel)) (h _ p) (h _ q) (h _ (by decide +kernel))
  have h2 : ∀ w ∈ lw_more, w.before args s = true := List.forall_mem_cons.mpr ⟨mem _ (by decide +kernel) (by decide +kernel) rfl, List.forall_mem_cons.mpr ⟨mem _ (by decide +kernel) (by decide +kernel) rfl, List.forall_mem_cons.mpr ⟨mem _ (by decide +kernel) (by decide +kernel) rfl, List.forall_mem_cons.mpr ⟨mem _ (by decide +kernel) (by decide +kernel) rfl, fun q hq => by cases hq⟩⟩⟩⟩
  intro w hw
  rcases List.mem_append.mp hw with hw | hw
  · rcases List.mem_append.mp hw with hw | hw
    · exact h1 w (List.mem_append_left _ hw)
    · exact h2 w hw
  · exact h w hw
