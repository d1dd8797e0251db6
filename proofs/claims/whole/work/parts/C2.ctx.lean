/-! ===== what holds at the law's entry, in the words of the judgement ===== -/
def tm5 (i : Nat) : Term := .string "NeedNotJoin$Reader" ([76, 82, 84, 85, 87].getD i 0)
theorem cx_ex : ∀ i, i < 5 → (Cond.exactly (tm5 i) "java/lang/String") ∈ flatC (Jvm.Cond.and given_1 narrow_1) := by decide +kernel
theorem cx_co : ∀ i, i < 5 → (Cond.eq (.field (tm5 i) "java/lang/String" "coder" "B") (.int 0)) ∈ flatC (Jvm.Cond.and given_1 narrow_1) := by decide +kernel
theorem cx_ar : ∀ i, i < 5 → (Cond.arrayOf (.field (tm5 i) "java/lang/String" "value" "[B") .byte) ∈ flatC (Jvm.Cond.and given_1 narrow_1) := by decide +kernel
theorem cx_le : ∀ i, i < 5 → (Cond.eq (.length (.field (tm5 i) "java/lang/String" "value" "[B")) (.int (Int32.ofNat (lw_len.getD i 0)))) ∈ flatC (Jvm.Cond.and given_1 narrow_1) := by decide +kernel
theorem cx_el : ∀ i, i < 5 → ∀ j, j < lw_len.getD i 0 → (Cond.eq (.elem (.field (tm5 i) "java/lang/String" "value" "[B") (.int (Int32.ofNat j))) (.int ((lw_byt.getD i []).getD j 0))) ∈ flatC (Jvm.Cond.and given_1 narrow_1) := by decide +kernel
theorem cx_ne : ∀ i, i < 5 → ∀ j, j < 5 → i < j → (Cond.not (Cond.eq (tm5 i) (tm5 j))) ∈ flatC (Jvm.Cond.and given_1 narrow_1) := by decide +kernel
theorem l_ctx {s : State} {b : Nat} (hts : ∀ w ∈ lw_tbl, w.before #[Value.ref b] s = true) (hg : (Jvm.Cond.and given_1 narrow_1).before #[Value.ref b] s = true) : ∃ G : en_G, en_K G s ∧ en_S G (fun q => s.heap.size ≤ q) s s.heap := by
  have hs := flat_of_before _ hg
  have hgd : ∀ w ∈ lw_good, w.before #[Value.ref b] s = true := fun w hw => hts w (List.mem_filter.mp hw).1
  have hA : ∀ a : Nat, a < s.heap.size → ¬ s.heap.size ≤ a := fun a h => by omega
  have mk : ∀ {C : String} {T : u_T} {N n : Nat}, (∀ w ∈ u_ws C T N, w ∈ lw_good) → (Cond.instantiable C n) ∈ lw_good → ∃ D : ClassId × (Nat → Nat), u_Kn s C T N D.1 D.2 := fun hin hib => by
    obtain ⟨cC, iS, h⟩ := u_known hgd hin (hgd _ hib)
    exact ⟨(cC, iS), h⟩
  have hcl : ∀ c : Nat, ∃ D : ClassId × (Nat → Nat), ∀ q, vwCl[c]? = some q → u_Kn s q.1 q.2.1 q.2.2 D.1 D.2 := fun c => by
    by_cases hc : c < 11
    · match c, hc with
      | 0, _ => obtain ⟨D, h⟩ := mk uX0 q_ib_X0; exact ⟨D, fun q hq => by cases hq; exact h⟩
      | 1, _ => obtain ⟨D, h⟩ := mk uX1 q_ib_X1; exact ⟨D, fun q hq => by cases hq; exact h⟩
      | 2, _ => obtain ⟨D, h⟩ := mk uX2 q_ib_X2; exact ⟨D, fun q hq => by cases hq; exact h⟩
      | 3, _ => obtain ⟨D, h⟩ := mk uX3 q_ib_X3; exact ⟨D, fun q hq => by cases hq; exact h⟩
      | 4, _ => obtain ⟨D, h⟩ := mk uX4 q_ib_X4; exact ⟨D, fun q hq => by cases hq; exact h⟩
      | 5, _ => obtain ⟨D, h⟩ := mk uX5 q_ib_X5; exact ⟨D, fun q hq => by cases hq; exact h⟩
      | 6, _ => obtain ⟨D, h⟩ := mk uX6 q_ib_X6; exact ⟨D, fun q hq => by cases hq; exact h⟩
      | 7, _ => obtain ⟨D, h⟩ := mk uX7 q_ib_X7; exact ⟨D, fun q hq => by cases hq; exact h⟩
      | 8, _ => obtain ⟨D, h⟩ := mk uX9 q_ib_X9; exact ⟨D, fun q hq => by cases hq; exact h⟩
      | 9, _ => obtain ⟨D, h⟩ := mk uX10 q_ib_X10; exact ⟨D, fun q hq => by cases hq; exact h⟩
      | 10, _ => obtain ⟨D, h⟩ := mk uX11 q_ib_X11; exact ⟨D, fun q hq => by cases hq; exact h⟩
    · refine ⟨(0, fun _ => 0), fun q hq => ?_⟩
      rw [List.getElem?_eq_none (by show 11 ≤ c; omega)] at hq
      cases hq
  obtain ⟨D, hD⟩ := Classical.axiomOfChoice hcl
  obtain ⟨a0, k0, p0, b1, b2, b3⟩ := Cond.arrayClass_spec (hgd _ q_ac_int)
  obtain ⟨a1, k1, p1, e1, e2, e3⟩ := Cond.arrayClass_spec (hgd _ q_ac_boolean)
  obtain ⟨p2, a2, k2, c1, -, c2, c3, c4⟩ := arrayOverA_spec (hts _ q_ao_array_int)
  obtain ⟨p3, a3, k3, d1, -, d2, d3, d4⟩ := Cond.arrayOver_spec (hts _ q_ao_object_NeedNotJoin_World)
  obtain ⟨adK, adV, hS, hE⟩ := vk_Sof (args := #[Value.ref b]) (s := s) (N := 5) (tm := tm5) (len := lw_len) (byt := lw_byt) (A := fun q => s.heap.size ≤ q) (by decide) (fun i hi => hs _ (cx_ex i hi)) (fun i hi => hs _ (cx_co i hi)) (fun i hi => hs _ (cx_ar i hi)) (fun i hi => hs _ (cx_le i hi)) (fun i hi j hj => hs _ (cx_el i hi j hj)) (fun i j hi hj hne => by
    rcases Nat.lt_or_gt_of_ne hne with g | g
    · exact Or.inl (hs _ (cx_ne i hi j hj g))
    · exact Or.inr (hs _ (cx_ne j hj i hi g))) hA
  have x176 := va_eqR (hs (Cond.eq (.string "NeedNotJoin$Reader" 76) (.string "NeedNotJoinModel" 176)) (by decide +kernel)) (hE 0 (by omega))
  have x183 := va_eqR (hs (Cond.eq (.string "NeedNotJoin$Reader" 82) (.string "NeedNotJoinModel" 183)) (by decide +kernel)) (hE 1 (by omega))
  have x182 := va_eqR (hs (Cond.eq (.string "NeedNotJoin$Reader" 84) (.string "NeedNotJoinModel" 182)) (by decide +kernel)) (hE 2 (by omega))
  have x185 := va_eqR (hs (Cond.eq (.string "NeedNotJoin$Reader" 85) (.string "NeedNotJoinModel" 185)) (by decide +kernel)) (hE 3 (by omega))
  have x186 := va_eqR (hs (Cond.eq (.string "NeedNotJoin$Reader" 87) (.string "NeedNotJoinModel" 186)) (by decide +kernel)) (hE 4 (by omega))
  refine ⟨((fun c => (D c).1, fun c => (D c).2), fun k => if k = 0 then a0 else if k = 1 then a1 else if k = 2 then a2 else a3, adK, adV), ⟨⟨fun c q hq => hD c q hq, fun k q hk => ?_⟩, ?_, ?_, va_AO.of (hts _ q_ao_object_NeedNotJoin_World), hts _ q_ao_array_int⟩, hS, va_Zof (hts (Cond.laysStatic "java/lang/String" "COMPACT_STRINGS" "Z") (by decide +kernel)) (hgd _ q_in_J0) (va_eqt (hs (Cond.eq (.static "java/lang/String" "COMPACT_STRINGS" "Z") (.int 1)) (by decide +kernel))) hA, va_Zqof (hts (Cond.laysStatic "jdk/internal/util/Preconditions" "SIOOBE_FORMATTER" "Ljava/util/function/BiFunction;") (by decide +kernel)) (hgd _ q_in_J3) (hs (Cond.isRef (.static "jdk/internal/util/Preconditions" "SIOOBE_FORMATTER" "Ljava/util/function/BiFunction;")) (by decide +kernel)) hA⟩
  · match k, hk with
    | 0, hk => cases hk; exact ⟨fun n z => ⟨fun x h => (by cases h), k0, b2, p0, b3⟩, b1⟩
    | 1, hk => cases hk; exact ⟨fun n z => ⟨fun x h => (by cases h), k1, e2, p1, e3⟩, e1⟩
    | 2, hk => cases hk; exact ⟨fun n z => ⟨fun x h => (by cases h), k2, c2, p2, c3⟩, c4⟩
    | 3, hk => cases hk; exact ⟨fun n z => ⟨fun x h => (by cases h), k3, d2, p3, d3⟩, k3, p3, d2, d3, d1, d4⟩
    | k + 4, hk => cases hk
  · exact List.forall_mem_cons.mpr ⟨va_Nw.of rfl (hts _ q_mn_X6_34), List.forall_mem_cons.mpr ⟨va_Nw.of rfl (hts _ q_mn_X10_25), List.forall_mem_cons.mpr ⟨va_Nw.of rfl (hts _ q_mn_X4_46), List.forall_mem_cons.mpr ⟨va_Nw.of rfl (hts _ q_mn_X10_32), List.forall_mem_cons.mpr ⟨va_Nw.of rfl (hts _ q_mn_X10_66), List.forall_mem_cons.mpr ⟨va_Nw.of rfl (hts _ q_mn_X2_11), List.forall_mem_cons.mpr ⟨va_Nw.of rfl (hts _ q_mn_X10_80), fun q hq => by cases hq⟩⟩⟩⟩⟩⟩⟩
  · refine List.forall_mem_cons.mpr ⟨vk_R.of (hts _ q_sr_X4_76) (hE 0 (by omega)), List.forall_mem_cons.mpr ⟨vk_R.of (hts _ q_sr_X4_82) (hE 1 (by omega)), List.forall_mem_cons.mpr ⟨vk_R.of (hts _ q_sr_X4_84) (hE 2 (by omega)), List.forall_mem_cons.mpr ⟨vk_R.of (hts _ q_sr_X4_85) (hE 3 (by omega)), List.forall_mem_cons.mpr ⟨vk_R.of (hts _ q_sr_X4_87) (hE 4 (by omega)), List.forall_mem_cons.mpr ⟨vk_R.of (hts _ q_sr_X11_176) x176, List.forall_mem_cons.mpr ⟨vk_R.of (hts _ q_sr_X11_182) x182, List.forall_mem_cons.mpr ⟨vk_R.of (hts _ q_sr_X11_183) x183, List.forall_mem_cons.mpr ⟨vk_R.of (hts _ q_sr_X11_185) x185, List.forall_mem_cons.mpr ⟨vk_R.of (hts _ q_sr_X11_186) x186, fun q hq => by cases hq⟩⟩⟩⟩⟩⟩⟩⟩⟩⟩
