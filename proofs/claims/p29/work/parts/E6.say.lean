/-! ===== the law tells a text to the tape ===== -/
theorem nI_shl8 (a : Nat) : nI a <<< (nI 8 &&& 31) = nI (a * 256) := by
  apply Int32.toBitVec_inj.1
  show BitVec.ofNat 32 a <<< ((nI 8 &&& 31).toBitVec.smod 32) = BitVec.ofNat 32 (a * 256)
  rw [show ((nI 8 &&& 31).toBitVec.smod 32) = 8#32 by decide]
  apply BitVec.eq_of_toNat_eq
  show ((BitVec.ofNat 32 a) <<< (8 : Nat)).toNat = _
  rw [BitVec.toNat_shiftLeft, BitVec.toNat_ofNat, BitVec.toNat_ofNat, Nat.shiftLeft_eq]
  omega
theorem nI_or (a b : Nat) : nI a ||| nI b = nI (a ||| b) := by
  apply Int32.toBitVec_inj.1
  show BitVec.ofNat 32 a ||| BitVec.ofNat 32 b = BitVec.ofNat 32 (a ||| b)
  apply BitVec.eq_of_getLsbD_eq
  intro i hi
  simp [hi]
theorem nI_pack (a : Nat) {c : Nat} (hc : c < 256) : nI (a * 256) ||| nI c = nI (a * 256 + c) := by
  rw [nI_or]
  congr 1
  have := Nat.shiftLeft_add_eq_or_of_lt (show c < 2 ^ 8 by omega) a
  rw [Nat.shiftLeft_eq] at this
  exact this.symm
theorem by_sh {m s : Nat} (hm : m < 2 ^ 32) (hs : s = 0 ∨ s = 8 ∨ s = 16 ∨ s = 24) : ((nI m).toUInt32 >>> ((nI s).toUInt32 &&& Int32.toUInt32 31)).toInt32 = nI (m / 2 ^ s) := by
  apply Int32.toBitVec_inj.1
  show BitVec.ofNat 32 m >>> (((nI s).toUInt32 &&& Int32.toUInt32 31).toBitVec % 32) = BitVec.ofNat 32 (m / 2 ^ s)
  have e : ((nI s).toUInt32 &&& Int32.toUInt32 31).toBitVec % 32 = BitVec.ofNat 32 s := by
    rcases hs with rfl | rfl | rfl | rfl <;> decide
  rw [e]
  apply BitVec.eq_of_toNat_eq
  have hs2 : s < 2 ^ 32 := by omega
  show ((BitVec.ofNat 32 m) >>> (BitVec.ofNat 32 s).toNat).toNat = _
  rw [BitVec.toNat_ushiftRight, BitVec.toNat_ofNat, BitVec.toNat_ofNat, BitVec.toNat_ofNat, Nat.shiftRight_eq_div_pow, Nat.mod_eq_of_lt hm, Nat.mod_eq_of_lt hs2]
  exact (Nat.mod_eq_of_lt (Nat.lt_of_le_of_lt (Nat.div_le_self _ _) hm)).symm
theorem byN_nI {m k : Nat} (hm : m < 2 ^ 32) (hk : k < 4) : byN (nI m) k = m / 2 ^ (24 - 8 * k) % 256 := by
  unfold byN byA
  rw [by_sh hm (by omega), nx_mod255, nI_clamp (by omega)]
/-- the letters that go to the tape: blanks behind the text -/
def chT (T : List Nat) (s : Nat) : Nat := if s < T.length then T.getD s 0 else 32
/-- m letters from s on, packed -/
def pkT (T : List Nat) (s : Nat) : Nat → Nat
  | 0 => 0
  | m + 1 => pkT T s m * 256 + chT T (s + m)
/-- how many of a number's four letters are in, when k are -/
def cnk (i k : Nat) : Nat := if k ≤ 4 * i then 0 else if 4 * i + 4 ≤ k then 4 else k - 4 * i
theorem byN_pk {T : List Nat} {s k : Nat} (h : ∀ j, chT T j < 128) (hk : k < 4) : byN (nI (pkT T s 4)) k = chT T (s + k) := by
  have h0 := h (s + 0)
  have h1 := h (s + 1)
  have h2 := h (s + 2)
  have h3 := h (s + 3)
  have e : pkT T s 4 = (((0 * 256 + chT T (s + 0)) * 256 + chT T (s + 1)) * 256 + chT T (s + 2)) * 256 + chT T (s + 3) := rfl
  rw [byN_nI (by rw [e]; omega) hk, e]
  match k, hk with
  | 0, _ => show _ / 16777216 % 256 = _; omega
  | 1, _ => show _ / 65536 % 256 = _; omega
  | 2, _ => show _ / 256 % 256 = _; omega
  | 3, _ => show _ / 1 % 256 = _; omega
theorem tap20_old {f : Nat → Nat} {len t : Nat} {a b c d e : Int32} (ht : t < len) : tap20 f len a b c d e t = f t := by
  unfold tap20 tap4
  rw [if_neg (by omega), if_neg (by omega), if_neg (by omega), if_neg (by omega), if_neg (by omega)]
theorem tap20_new {T : List Nat} {f : Nat → Nat} {len t : Nat} (h : ∀ j, chT T j < 128) (h1 : len ≤ t) (h2 : t < len + 20) : tap20 f len (nI (pkT T (len + 4 * 0) 4)) (nI (pkT T (len + 4 * 1) 4)) (nI (pkT T (len + 4 * 2) 4)) (nI (pkT T (len + 4 * 3) 4)) (nI (pkT T (len + 4 * 4) 4)) t = chT T t := by
  unfold tap20 tap4
  by_cases c4 : len + 16 ≤ t
  · rw [if_pos (by omega), byN_pk h (by omega)]; congr 1; omega
  · rw [if_neg (by omega)]
    by_cases c3 : len + 12 ≤ t
    · rw [if_pos (by omega), byN_pk h (by omega)]; congr 1; omega
    · rw [if_neg (by omega)]
      by_cases c2 : len + 8 ≤ t
      · rw [if_pos (by omega), byN_pk h (by omega)]; congr 1; omega
      · rw [if_neg (by omega)]
        by_cases c1 : len + 4 ≤ t
        · rw [if_pos (by omega), byN_pk h (by omega)]; congr 1; omega
        · rw [if_neg (by omega), if_pos (by omega), byN_pk h (by omega)]; congr 1; omega
theorem XAt.far {h h2 : AH} {o len : Nat} {x y : Sx} {ik : Bool} {f : Nat → Nat} {ft fp : Int32} (hX : XAt h o x y ik len f ft fp) (e : ∀ q, o ≤ q → q < o + 303 → h2 q = h q) : XAt h2 o x y ik len f ft fp := by
  obtain ⟨a1, ⟨σ, a2⟩, ⟨τ, a3⟩, a4, a5, a6, ⟨S, a7⟩, W, fd, d1, d2⟩ := hX
  exact ⟨(e _ (by omega) (by omega)).trans a1, ⟨σ, a2.far (fun a x y => e a (by omega) (by omega))⟩, ⟨τ, a3.far (fun a x y => e a (by omega) (by omega))⟩, a4.kp (fun a x y => e a (by omega) (by omega)), ⟨a5.1.far (fun a x y => e a (by omega) (by omega)), (e _ (by omega) (by omega)).trans a5.2⟩, a6.far (fun a x y => e a (by omega) (by omega)), ⟨S, a7.far (fun a x y => e a (by omega) (by omega))⟩, W, fd, d1.kp (fun a x y => e a (by omega) (by omega)), d2⟩
section LF
variable {ro : RT} {h : AH} {o a zq : Nat} {x y : Sx} {ik : Bool} {ft fp : Int32} {T : List Nat} {Post : Option Value → AH → Nat → Prop}
theorem l_sy_k {at' b : Nat} {h1 : AH} (hl : T.length ≤ 100) (hc : ∀ j, chT T j < 128) (hM : MS h1 a T) (ha : a + 1 < b) (hat : at' ≤ 100) {c s : Nat} (hcs : c ≤ 10 ∧ s ≤ 50)
    (kk : ∀ g, (∀ i, i < 5 → g i = nI (pkT T (at' + 4 * i) 4)) → VS ro ML_say Post (zq, c, s) (hset h1 b (aI 5 g)) 70 [some (.ref o), some (.ref a), some (.int (nI at')), some (.ref b), none] []) :
    ∀ (m k : Nat), m = 20 - k → k ≤ 20 → ∀ g, (∀ i, i < 5 → g i = nI (pkT T (at' + 4 * i) (cnk i k))) → VS ro ML_say Post (zq, c, s) (hset h1 b (aI 5 g)) 17 [some (.ref o), some (.ref a), some (.int (nI at')), some (.ref b), some (.int (nI k))] [] := by
  intro m
  induction m with
  | zero =>
    intro k e1 e2 g hg
    have : k = 20 := by omega
    subst this
    refine ze_iload (pc := 17) dL_say_17 rfl ?_
    refine zn_bipush (pc := 19) 20 dL_say_19 (by decide) ?_
    refine zn_icmp_ge (pc := 21) (tgt := 70) dL_say_21 (by decide) (by omega) (by omega) (fun c => ?_) (fun c => absurd c (by omega))
    refine VS.mask [true, true, true, true, false] ?_
    exact kk g (fun i hi => by rw [hg i hi, show cnk i 20 = 4 by unfold cnk; rw [if_neg (by omega), if_pos (by omega)]])
  | succ m ih =>
    intro k e1 e2 g hg
    have hS : Str ro (hset h1 b (aI 5 g)) b a T := (hM.str (ro := ro) ha).kept (fun q hq => hset_ne _ _ (by omega)) (Nat.le_refl _)
    obtain ⟨sv, sf, s1, s2, s3⟩ := hS.rd
    have hpk := hg (k / 4) (by omega)
    have ck : cnk (k / 4) k = k % 4 := by
      unfold cnk
      split
      · omega
      · split <;> omega
    rw [ck] at hpk
    have fin : ∀ ch : Nat, ch = chT T (at' + k) → VS ro ML_say Post (zq, c, s) (hset h1 b (aI 5 g)) 62 [some (.ref o), some (.ref a), some (.int (nI at')), some (.ref b), some (.int (nI k))] [.int (nI ch), .int (nI (pkT T (at' + 4 * (k / 4)) (k % 4) * 256)), .int (nI (k / 4)), .ref b] := fun ch hch => by
      refine ze_ior (pc := 62) dL_say_62 ?_
      have hb := hc (at' + k)
      refine ze_top (nI_pack _ (by omega)) ?_
      refine ze_iastN (pc := 63) (k / 4) dL_say_63 (by repeat (first | assumption | exact hset_eq _ _ _ | rw [hset_ne _ _ (by omega)])) (by rfl) (by omega) (by first | decide | omega) ?_
      rw [hset_hset]
      refine zn_inc (pc := 64) dL_say_64 rfl (by decide) ?_
      refine ze_goto (pc := 67) (tgt := 17) dL_say_67 (by decide) ?_
      refine ih (k + 1) (by omega) (by omega) _ (fun i hi => ?_)
      unfold upd
      by_cases e : i = k / 4
      · rw [if_pos e, e, hch, show cnk (k / 4) (k + 1) = k % 4 + 1 by unfold cnk; split <;> (try split) <;> omega]
        congr 1
        show _ = pkT T (at' + 4 * (k / 4)) (k % 4) * 256 + chT T (at' + 4 * (k / 4) + k % 4)
        rw [show at' + 4 * (k / 4) + k % 4 = at' + k by omega]
      · rw [if_neg e, hg i hi, show cnk i (k + 1) = cnk i k by unfold cnk; split <;> split <;> (try split) <;> (try split) <;> omega]
    refine ze_iload (pc := 17) dL_say_17 rfl ?_
    refine zn_bipush (pc := 19) 20 dL_say_19 (by decide) ?_
    refine zn_icmp_ge (pc := 21) (tgt := 70) dL_say_21 (by decide) (by omega) (by omega) (fun c => absurd c (by omega)) (fun c => ?_)
    refine ze_aload_n (pc := 24) dL_say_24 rfl rfl ?_
    refine ze_iload (pc := 25) dL_say_25 rfl ?_
    refine zn_iconst (pc := 27) 4 dL_say_27 (by decide) ?_
    refine zn_idiv (pc := 28) dL_say_28 (by omega) (by omega) (by omega) ?_
    refine ze_aload_n (pc := 29) dL_say_29 rfl rfl ?_
    refine ze_iload (pc := 30) dL_say_30 rfl ?_
    refine zn_iconst (pc := 32) 4 dL_say_32 (by decide) ?_
    refine zn_idiv (pc := 33) dL_say_33 (by omega) (by omega) (by omega) ?_
    refine ze_ialdN (pc := 34) (k / 4) dL_say_34 (by repeat (first | assumption | exact hset_eq _ _ _ | rw [hset_ne _ _ (by omega)])) (by rfl) (by omega) (by first | decide | omega) ?_
    refine ze_top hpk ?_
    refine zn_bipush (pc := 35) 8 dL_say_35 (by decide) ?_
    refine ze_ishl (pc := 37) dL_say_37 ?_
    refine ze_top (nI_shl8 _) ?_
    refine ze_iload_n (pc := 38) dL_say_38 rfl rfl ?_
    refine ze_iload (pc := 39) dL_say_39 rfl ?_
    refine zn_iadd (pc := 41) dL_say_41 ?_
    refine ze_aload_n (pc := 42) dL_say_42 rfl rfl ?_
    refine ze_callT (pc := 43) (s_J0_length hS (by omega) _) bJ0_length_8abf5 q_i_J0_length_8abf5 q_s_J0_length_8abf5 q_m_L_8 dL_say_43 rfl rfl (by assumption) rfl (by exact Nat.le_of_ble_eq_true rfl) ⟨by decide, by decide⟩ ⟨by first | exact Nat.le_of_ble_eq_true rfl | (show _ + 0 ≤ 20; (try dsimp only); omega), by first | exact Nat.le_of_ble_eq_true rfl | (show _ + 0 ≤ 100; (try dsimp only); omega)⟩ (fun r h2 z2 hp => ?_)
    (try dsimp only [MI.mc, MI.ms, MJ0_length_8abf5, Nat.add_zero])
    obtain ⟨hz9, xx, rfl, rfl, rfl⟩ := hp
    subst z2
    refine zn_icmp_ge (pc := 46) (tgt := 60) dL_say_46 (by decide) (by omega) (by omega) (fun cc => ?_) (fun cc => ?_)
    · refine zn_bipush (pc := 60) 32 dL_say_60 (by decide) ?_
      exact fin 32 (by unfold chT; rw [if_neg (by omega)])
    · refine ze_aload_n (pc := 49) dL_say_49 rfl rfl ?_
      refine ze_iload_n (pc := 50) dL_say_50 rfl rfl ?_
      refine ze_iload (pc := 51) dL_say_51 rfl ?_
      refine zn_iadd (pc := 53) dL_say_53 ?_
      refine ze_callT (pc := 54) (s_J0_charAt (k := at' + k) hS cc (by omega) _) bJ0_charAt_5068e q_i_J0_charAt_5068e q_s_J0_charAt_5068e q_m_L_14 dL_say_54 rfl rfl (by assumption) rfl (by exact Nat.le_of_ble_eq_true rfl) ⟨by decide, by decide⟩ ⟨by first | exact Nat.le_of_ble_eq_true rfl | (show _ + 0 ≤ 20; (try dsimp only); omega), by first | exact Nat.le_of_ble_eq_true rfl | (show _ + 0 ≤ 100; (try dsimp only); omega)⟩ (fun r h2 z2 hp => ?_)
      (try dsimp only [MI.mc, MI.ms, MJ0_charAt_5068e, Nat.add_zero])
      obtain ⟨hz9, xx, rfl, rfl, rfl⟩ := hp
      subst z2
      refine ze_goto (pc := 57) (tgt := 62) dL_say_57 (by decide) ?_
      exact fin _ (by unfold chT; rw [if_pos cc])
/-- so much of the text is on the tape -/
def SyI (h h2 : AH) (o zq b : Nat) (x y : Sx) (ik : Bool) (ft fp : Int32) (T : List Nat) : Prop := ∃ f, XAt h2 o x y ik (20 * b) f ft fp ∧ (∀ j, j < 20 * b → f j = chT T j) ∧ ∀ q, q < zq → (q < o ∨ o + 303 ≤ q) → h2 q = h q
theorem l_sy_b (hl : T.length ≤ 100) (hl0 : 0 < T.length) (hc : ∀ j, chT T j < 128) (hM : MS h a T) (ha : a + 1 < zq) (hoa : o + 303 ≤ a) 
    (kk : ∀ b h2 f, b ≤ 5 → XAt h2 o x y ik T.length f ft fp → (∀ j, j < T.length → f j = T.getD j 0) → (∀ q, q < zq → (q < o ∨ o + 303 ≤ q) → h2 q = h q) → Post none h2 (zq + b)) :
    ∀ (m b : Nat), m = 5 - b → b ≤ 5 → ∀ h2, SyI h h2 o zq b x y ik ft fp T → VS ro ML_say Post (zq + b, b, 5 * b) h2 2 [some (.ref o), some (.ref a), some (.int (nI (20 * b))), none, none] [] := by
  have fin : ∀ b, b ≤ 5 → T.length ≤ 20 * b → ∀ h2, SyI h h2 o zq b x y ik ft fp T → MS h2 a T → VS ro ML_say Post (zq + b, b, 5 * b) h2 96 [some (.ref o), some (.ref a), some (.int (nI (20 * b))), none, none] [] := fun b hb hlb h2 hI hM2 => by
    obtain ⟨f, hX, hf, hq⟩ := hI
    have hS : Str ro h2 zq a T := hM2.str ha
    obtain ⟨sv, sf, s1, s2, s3⟩ := hS.rd
    refine ze_aload_n (pc := 96) dL_say_96 rfl rfl ?_
    refine ze_callT (pc := 97) (s_J0_length hS (by omega) _) bJ0_length_8abf5 q_i_J0_length_8abf5 q_s_J0_length_8abf5 q_m_L_8 dL_say_97 rfl rfl (by assumption) rfl (by exact Nat.le_of_ble_eq_true rfl) ⟨by decide, by decide⟩ ⟨by first | exact Nat.le_of_ble_eq_true rfl | (show _ + 0 ≤ 20; (try dsimp only); omega), by first | exact Nat.le_of_ble_eq_true rfl | (show _ + 0 ≤ 100; (try dsimp only); omega)⟩ (fun r h2 z2 hp => ?_)
    (try dsimp only [MI.mc, MI.ms, MJ0_length_8abf5, Nat.add_zero])
    obtain ⟨hz9, xx, rfl, rfl, rfl⟩ := hp
    subst z2
    refine zn_if_le (pc := 100) (tgt := 112) dL_say_100 (by decide) (by omega) (fun c => absurd c (by omega)) (fun _ => ?_)
    refine ze_aload_n (pc := 103) dL_say_103 rfl rfl ?_
    refine ze_aload_n (pc := 104) dL_say_104 rfl rfl ?_
    refine ze_callT (pc := 105) (s_J0_length hS (by omega) _) bJ0_length_8abf5 q_i_J0_length_8abf5 q_s_J0_length_8abf5 q_m_L_8 dL_say_105 rfl rfl (by assumption) rfl (by exact Nat.le_of_ble_eq_true rfl) ⟨by decide, by decide⟩ ⟨by first | exact Nat.le_of_ble_eq_true rfl | (show _ + 0 ≤ 20; (try dsimp only); omega), by first | exact Nat.le_of_ble_eq_true rfl | (show _ + 0 ≤ 100; (try dsimp only); omega)⟩ (fun r h2 z2 hp => ?_)
    (try dsimp only [MI.mc, MI.ms, MJ0_length_8abf5, Nat.add_zero])
    obtain ⟨hz9, xx, rfl, rfl, rfl⟩ := hp
    subst z2
    obtain ⟨x1, -⟩ := id hX
    refine ze_callV (pc := 108) ((c_X10_end hX (nI T.length)).toS _) bX10_end q_i_X10_end q_s_X10_end q_m_L_24 dL_say_108 rfl rfl (by repeat (first | assumption | exact hset_eq _ _ _ | rw [hset_ne _ _ (by omega)])) rfl rfl (by exact Nat.le_of_ble_eq_true rfl) ⟨by decide, by decide⟩ ⟨by first | exact Nat.le_of_ble_eq_true rfl | (show _ + 0 ≤ 20; (try dsimp only); omega), by first | exact Nat.le_of_ble_eq_true rfl | (show _ + 0 ≤ 100; (try dsimp only); omega)⟩ (fun r h3 z3 hp => ?_)
    (try dsimp only [MI.mc, MI.ms, MX10_end, Nat.add_zero])
    obtain ⟨hz9, xx, rfl, hp, hE⟩ := hp
    subst z3
    refine ze_pop (pc := 111) dL_say_111 rfl ?_
    rcases hp with ⟨k, k1, k2, -, hX3⟩ | ⟨k1, -⟩
    · have e : T.length = k := (nI_eq (by omega) (by omega)).mp k1
      subst e
      exact ze_vret (pc := 112) dL_say_112 rfl ⟨by show b + 0 + 0 + 0 ≤ 20; omega, by show 5 * b + 0 + 0 + 0 ≤ 100; omega⟩ (kk b h3 f hb hX3 (fun j hj => by rw [hf j (by omega)]; unfold chT; rw [if_pos hj]) (fun q q1 q2 => (hE q q2).trans (hq q q1 q2)))
    · rw [okI_nI (by omega) (by omega), decide_eq_true (by omega)] at k1
      cases k1
  intro m
  induction m with
  | zero =>
    intro b e1 e2 h2 hI
    have : b = 5 := by omega
    subst this
    have hI0 := hI
    obtain ⟨f, hX, hf, hq⟩ := hI
    have hM2 : MS h2 a T := hM.kept (hq _ (by omega) (by omega)) (hq _ (by omega) (by omega))
    have hS : Str ro h2 zq a T := hM2.str ha
    obtain ⟨sv, sf, s1, s2, s3⟩ := hS.rd
    refine ze_iload_n (pc := 2) dL_say_2 rfl rfl ?_
    refine ze_aload_n (pc := 3) dL_say_3 rfl rfl ?_
    refine ze_callT (pc := 4) (s_J0_length hS (by omega) _) bJ0_length_8abf5 q_i_J0_length_8abf5 q_s_J0_length_8abf5 q_m_L_8 dL_say_4 rfl rfl (by assumption) rfl (by exact Nat.le_of_ble_eq_true rfl) ⟨by decide, by decide⟩ ⟨by first | exact Nat.le_of_ble_eq_true rfl | (show _ + 0 ≤ 20; (try dsimp only); omega), by first | exact Nat.le_of_ble_eq_true rfl | (show _ + 0 ≤ 100; (try dsimp only); omega)⟩ (fun r h2 z2 hp => ?_)
    (try dsimp only [MI.mc, MI.ms, MJ0_length_8abf5, Nat.add_zero])
    obtain ⟨hz9, xx, rfl, rfl, rfl⟩ := hp
    subst z2
    refine zn_icmp_ge (pc := 7) (tgt := 96) dL_say_7 (by decide) (by omega) (by omega) (fun c => ?_) (fun c => absurd c (by omega))
    exact fin 5 (by omega) (by omega) _ hI0 hM2
  | succ m ih =>
    intro b e1 e2 h2 hI
    have hI0 := hI
    obtain ⟨f, hX, hf, hq⟩ := hI
    have hM2 : MS h2 a T := hM.kept (hq _ (by omega) (by omega)) (hq _ (by omega) (by omega))
    have hS : Str ro h2 zq a T := hM2.str ha
    obtain ⟨sv, sf, s1, s2, s3⟩ := hS.rd
    refine ze_iload_n (pc := 2) dL_say_2 rfl rfl ?_
    refine ze_aload_n (pc := 3) dL_say_3 rfl rfl ?_
    refine ze_callT (pc := 4) (s_J0_length hS (by omega) _) bJ0_length_8abf5 q_i_J0_length_8abf5 q_s_J0_length_8abf5 q_m_L_8 dL_say_4 rfl rfl (by assumption) rfl (by exact Nat.le_of_ble_eq_true rfl) ⟨by decide, by decide⟩ ⟨by first | exact Nat.le_of_ble_eq_true rfl | (show _ + 0 ≤ 20; (try dsimp only); omega), by first | exact Nat.le_of_ble_eq_true rfl | (show _ + 0 ≤ 100; (try dsimp only); omega)⟩ (fun r h2 z2 hp => ?_)
    (try dsimp only [MI.mc, MI.ms, MJ0_length_8abf5, Nat.add_zero])
    obtain ⟨hz9, xx, rfl, rfl, rfl⟩ := hp
    subst z2
    refine zn_icmp_ge (pc := 7) (tgt := 96) dL_say_7 (by decide) (by omega) (by omega) (fun cc => ?_) (fun cc => ?_)
    · exact fin b (by omega) cc _ hI0 hM2
    · refine zn_iconst (pc := 10) 5 dL_say_10 (by decide) ?_
      refine ze_newI (pc := 11) dL_say_11 rfl (by omega) ⟨by show b + 0 + 1 ≤ 20; omega, by show 5 * b + 0 + 5 ≤ 100; omega⟩ ?_
      dsimp only
      refine ze_astore_n (pc := 13) dL_say_13 rfl (by decide) ?_
      refine zn_iconst (pc := 14) 0 dL_say_14 (by decide) ?_
      refine ze_istore (pc := 15) dL_say_15 (by decide) ?_
      refine VS.widen (c2 := b + 1) (s2 := 5 * (b + 1)) (by show b + 0 + 1 ≤ b + 1; omega) (by show 5 * b + 0 + 5 ≤ 5 * (b + 1); omega) ?_
      dsimp only
      refine l_sy_k (at' := 20 * b) (b := zq + b) hl hc hM2 (by omega) (by omega) ⟨by omega, by omega⟩ (fun g hg => ?_) 20 0 (by omega) (by omega) _ (fun i hi => by unfold cnk; rw [if_pos (by omega)]; rfl)
      have hX3 : XAt (hset h2 (zq + b) (aI 5 g)) o x y ik (20 * b) f ft fp := hX.far (fun q q1 q2 => hset_ne _ _ (by omega))
      obtain ⟨x1, -⟩ := id hX3
      refine ze_aload_n (pc := 70) dL_say_70 rfl rfl ?_
      refine ze_aload_n (pc := 71) dL_say_71 rfl rfl ?_
      refine zn_iconst (pc := 72) 0 dL_say_72 (by decide) ?_
      refine ze_ialdN (pc := 73) (0) dL_say_73 (by repeat (first | assumption | exact hset_eq _ _ _ | rw [hset_ne _ _ (by omega)])) (by rfl) (by omega) (by first | decide | omega) ?_
      refine ze_aload_n (pc := 74) dL_say_74 rfl rfl ?_
      refine zn_iconst (pc := 75) 1 dL_say_75 (by decide) ?_
      refine ze_ialdN (pc := 76) (1) dL_say_76 (by repeat (first | assumption | exact hset_eq _ _ _ | rw [hset_ne _ _ (by omega)])) (by rfl) (by omega) (by first | decide | omega) ?_
      refine ze_aload_n (pc := 77) dL_say_77 rfl rfl ?_
      refine zn_iconst (pc := 78) 2 dL_say_78 (by decide) ?_
      refine ze_ialdN (pc := 79) (2) dL_say_79 (by repeat (first | assumption | exact hset_eq _ _ _ | rw [hset_ne _ _ (by omega)])) (by rfl) (by omega) (by first | decide | omega) ?_
      refine ze_aload_n (pc := 80) dL_say_80 rfl rfl ?_
      refine zn_iconst (pc := 81) 3 dL_say_81 (by decide) ?_
      refine ze_ialdN (pc := 82) (3) dL_say_82 (by repeat (first | assumption | exact hset_eq _ _ _ | rw [hset_ne _ _ (by omega)])) (by rfl) (by omega) (by first | decide | omega) ?_
      refine ze_aload_n (pc := 83) dL_say_83 rfl rfl ?_
      refine zn_iconst (pc := 84) 4 dL_say_84 (by decide) ?_
      refine ze_ialdN (pc := 85) (4) dL_say_85 (by repeat (first | assumption | exact hset_eq _ _ _ | rw [hset_ne _ _ (by omega)])) (by rfl) (by omega) (by first | decide | omega) ?_
      rw [hg 0 (by omega), hg 1 (by omega), hg 2 (by omega), hg 3 (by omega), hg 4 (by omega)]
      refine ze_callV (pc := 86) ((c_X10_feed hX3 _ _ _ _ _).toS _) bX10_feed q_i_X10_feed q_s_X10_feed q_m_L_18 dL_say_86 rfl rfl (by repeat (first | assumption | exact hset_eq _ _ _ | rw [hset_ne _ _ (by omega)])) rfl rfl (by exact Nat.le_of_ble_eq_true rfl) ⟨by decide, by decide⟩ ⟨by first | exact Nat.le_of_ble_eq_true rfl | (show _ + 0 ≤ 20; (try dsimp only); omega), by first | exact Nat.le_of_ble_eq_true rfl | (show _ + 0 ≤ 100; (try dsimp only); omega)⟩ (fun r h3 z3 hp => ?_)
      (try dsimp only [MI.mc, MI.ms, MX10_feed, Nat.add_zero])
      obtain ⟨hz9, xx, rfl, hp, hE⟩ := hp
      subst z3
      rcases hp with ⟨-, -, hX4⟩ | ⟨q1, -⟩
      · refine ze_pop (pc := 89) dL_say_89 rfl ?_
        refine ze_iinc (pc := 90) (v := nI (20 * (b + 1))) dL_say_90 rfl (by rw [show Int32.ofInt 20 = nI 20 from rfl, nI_add]; rfl) (by decide) ?_
        refine ze_goto (pc := 93) (tgt := 2) dL_say_93 (by decide) ?_
        refine VS.mask [true, true, true, false, false] ?_
        refine ih (b + 1) (by omega) (by omega) h3 ⟨_, hX4, fun j hj => ?_, fun q q1 q2 => ?_⟩
        · by_cases c : j < 20 * b
          · rw [tap20_old c]; exact hf j c
          · exact tap20_new hc (by omega) (by omega)
        · rw [hE q q2, hset_ne _ _ (by omega)]
          exact hq q q1 q2
      · exact absurd (show 20 * b + 20 ≤ 600 by omega) q1
theorem c_L_say {f : Nat → Nat} (hX : XAt h o x y ik 0 f ft fp) (hM : MS h a T) (ha : a + 1 < zq) (hoa : o + 303 ≤ a) (hl : T.length ≤ 100) (hl0 : 0 < T.length) : CnS ro yL_say ML_say [.ref o, .ref a] zq h (fun r h' z => r = none ∧ zq ≤ z ∧ z ≤ zq + 5 ∧ (∃ f2, XAt h' o x y ik T.length f2 ft fp ∧ ∀ j, j < T.length → f2 j = T.getD j 0) ∧ ∀ q, q < zq → (q < o ∨ o + 303 ≤ q) → h' q = h q) := by
  have hc : ∀ j, chT T j < 128 := fun j => by
    unfold chT
    split
    · obtain ⟨g, g1, g2, g3⟩ := hM
      exact (g3 j (by assumption)).1
    · omega
  refine CnS.ofVS (by decide) rfl (fun q => by cases q) (by simp [Value.category]) (by exact Nat.le_of_ble_eq_true rfl) ?_
  refine zn_iconst (pc := 0) 0 dL_say_0 (by decide) ?_
  refine ze_istore_n (pc := 1) dL_say_1 rfl (by decide) ?_
  exact l_sy_b hl hl0 hc hM ha hoa (fun b h2 f2 hb hX2 hf2 hq => ⟨rfl, by omega, by omega, ⟨f2, hX2, hf2⟩, hq⟩) 5 0 (by omega) (by omega) h ⟨f, hX, fun j hj => absurd hj (by omega), fun _ _ _ => rfl⟩
end LF
