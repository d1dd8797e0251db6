/-! ===== the reference's constructor ===== -/
def W0 : Wd := (2, 1, fun _ => 0)
def KX11 (m : Nat) (g : Nat → Int32) (j : Nat) : AE := if j = 0 then aI 6070 g else if j = 10 then aG 5 (fun i => if i < 5 then some (m + 12 + i) else none) else if j = 16 then aG 75 (fun i => if i < 75 then some (m + 18 + i) else none) else if j = 93 then aZ 75 (fun _ => 0) else if j = 94 then aZ 243 (fun _ => 0) else aI (szM (j + 1)) (fun _ => 0)
theorem KX11_r1 (m : Nat) (g : Nat → Int32) (j : Nat) (hj : j < 5) : KX11 m g (10 + 1 + j) = aI 5 (fun _ => 0) := by
  unfold KX11 szM
  rw [if_neg (by omega), if_neg (by omega), if_neg (by omega), if_neg (by omega), if_neg (by omega), if_neg (by omega), if_neg (by omega), if_neg (by omega), if_neg (by omega), if_neg (by omega), if_neg (by omega)]
theorem KX11_r2 (m : Nat) (g : Nat → Int32) (j : Nat) (hj : j < 75) : KX11 m g (16 + 1 + j) = aI 75 (fun _ => 0) := by
  unfold KX11 szM
  rw [if_neg (by omega), if_neg (by omega), if_neg (by omega), if_neg (by omega), if_neg (by omega), if_neg (by omega), if_neg (by omega), if_neg (by omega), if_neg (by omega), if_pos (by omega)]
/-- the reference's first scalars -/
def s0M : Ms := (0, 0, 0, 0, 0, 0, 0, 0, 0, -1, 0, 0, -1)
def fs11 (m : Nat) : List Value := mfs m 0 0 0 s0M
def W6 (k : Nat) (g : Nat → Int32) : Prop := (∀ i, i < k → WdR g (130 * i) W0) ∧ ∀ t, 130 * k ≤ t → g t = 0
def W7 (k : Nat) (g : Nat → Int32) : Prop := (∀ i, i < 6 → WdR g (130 * i) W0) ∧ (∀ t, t < k → g (800 + t) = -1) ∧ ∀ t, 800 + k ≤ t → g t = 0
theorem W6_0 : W6 0 (fun _ => 0) := ⟨fun i hi => absurd hi (by omega), fun _ _ => rfl⟩
theorem W6_s {k : Nat} {g : Nat → Int32} (q : W6 k g) : W6 (k + 1) (upd (upd g (130 * k + 0) (nI 2)) (130 * k + 1) (nI 1)) := by
  obtain ⟨a, b⟩ := q
  refine ⟨fun i hi => ?_, fun t ht => ?_⟩
  · by_cases e : i = k
    · subst e
      refine ⟨?_, ?_, fun c hc => ?_⟩
      · unfold upd; rw [if_neg (by omega), if_pos (by omega)]; rfl
      · unfold upd; rw [if_pos (by omega)]; rfl
      · unfold upd; rw [if_neg (by omega), if_neg (by omega), b _ (by omega)]; rfl
    · obtain ⟨a1, a2, a3⟩ := a i (by omega)
      refine ⟨?_, ?_, fun c hc => ?_⟩
      · unfold upd; rw [if_neg (by omega), if_neg (by omega)]; exact a1
      · unfold upd; rw [if_neg (by omega), if_neg (by omega)]; exact a2
      · unfold upd; rw [if_neg (by omega), if_neg (by omega)]; exact a3 c hc
  · unfold upd; rw [if_neg (by omega), if_neg (by omega)]; exact b t (by omega)
theorem W7_0 {g : Nat → Int32} (q : W6 6 g) : W7 0 g := ⟨q.1, fun t ht => absurd ht (by omega), fun t ht => q.2 t (by omega)⟩
theorem W7_s {k : Nat} {g : Nat → Int32} (q : W7 k g) : W7 (k + 1) (upd g (800 + k) (-1)) := by
  obtain ⟨a, b, c⟩ := q
  refine ⟨fun i hi => ?_, fun t ht => ?_, fun t ht => ?_⟩
  · obtain ⟨a1, a2, a3⟩ := a i hi
    refine ⟨?_, ?_, fun c hc => ?_⟩
    · unfold upd; rw [if_neg (by omega)]; exact a1
    · unfold upd; rw [if_neg (by omega)]; exact a2
    · unfold upd; rw [if_neg (by omega)]; exact a3 c hc
  · unfold upd
    by_cases e : t = k
    · rw [if_pos (by omega)]
    · rw [if_neg (by omega)]; exact b t (by omega)
  · unfold upd; rw [if_neg (by omega)]; exact c t (by omega)
section X11I
theorem b_putX {M : MI} {Post : Option Value → AH → Nat → Prop} {h : AH} {pc : Nat} {ls : List (Option Value)} {st : List Value} {ci o N c s : Nat} {fs : List Value} {T : Nat → AE} {idx kf : Nat} {v : Value} {ty : FieldType} {fs2 : List Value} (f : PL (MI.own M) idx ci kf ty false) (hd : decode (MI.cc M) pc = .ok (.putfield idx, 3)) (hn : narrow ty v = v) (hft : fits ty v = true) (hl0 : kf < fs.length) (e : fs.set kf v = fs2) (k : V M Post (o + 1 + N, c, s) (bk ci h o fs2 T N) (pc + 3) ls st) : V M Post (o + 1 + N, c, s) (bk ci h o fs T N) pc ls (v :: .ref o :: st) :=
  b_put f hd hn hft hl0 (by rw [e]; exact k)
theorem b_putFX {M : MI} {Post : Option Value → AH → Nat → Prop} {h : AH} {pc : Nat} {ls : List (Option Value)} {st : List Value} {ci o N c s : Nat} {fs : List Value} {T : Nat → AE} {idx kf : Nat} {v : Value} {ty : FieldType} {fs2 : List Value} (f : PL (MI.own M) idx ci kf ty true) (hini : MI.ini M = true) (hd : decode (MI.cc M) pc = .ok (.putfield idx, 3)) (hn : narrow ty v = v) (hft : fits ty v = true) (hl0 : kf < fs.length) (e : fs.set kf v = fs2) (k : V M Post (o + 1 + N, c, s) (bk ci h o fs2 T N) (pc + 3) ls st) : V M Post (o + 1 + N, c, s) (bk ci h o fs T N) pc ls (v :: .ref o :: st) :=
  b_putF f hini hd hn hft hl0 (by rw [e]; exact k)
variable {Post : Option Value → AH → Nat → Prop} {o : Nat} {h : AH} {al : Nat × Nat × Nat}
theorem KX11_up (o : Nat) (g g2 : Nat → Int32) : hset (bk 10 h o (fs11 o) (KX11 o g) 106) (o + 1) (aI 6070 g2) = bk 10 h o (fs11 o) (KX11 o g2) 106 :=
  bk_set 0 (by omega) rfl (fun i hi hne => by unfold KX11; rw [if_neg hne, if_neg hne])
theorem x11_l1 (K : ∀ g, W6 6 g → V MX11_init Post al (bk 10 h o (fs11 o) (KX11 o g) 106) 262 [some (.ref o), some (.int (nI 6))] []) (r : Nat) : ∀ k g, k + r = 6 → W6 k g → V MX11_init Post al (bk 10 h o (fs11 o) (KX11 o g) 106) 224 [some (.ref o), some (.int (nI k))] [] := by
  induction r with
  | zero =>
    intro k g hk hg
    have hk6 : k = 6 := by omega
    subst hk6
    refine e_iload_n (pc := 224) dX11_init_224 rfl rfl ?_
    refine n_bipush (pc := 225) 6 dX11_init_225 (by decide) ?_
    refine n_icmp_ge (pc := 227) (tgt := 262) dX11_init_227 (by decide) (by omega) (by omega) (fun c => ?_) (fun c => ?_)
    · exact K g hg
    · exact absurd c (by omega)
  | succ r ih =>
    intro k g hk hg
    refine e_iload_n (pc := 224) dX11_init_224 rfl rfl ?_
    refine n_bipush (pc := 225) 6 dX11_init_225 (by decide) ?_
    refine n_icmp_ge (pc := 227) (tgt := 262) dX11_init_227 (by decide) (by omega) (by omega) (fun c => absurd c (by omega)) (fun c => ?_)
    refine e_aload_n (pc := 230) dX11_init_230 rfl rfl ?_
    refine e_get (pc := 231) fl_X11_7 dX11_init_231 bk_o (by rfl) ?_
    refine n_sipush (pc := 234) 130 dX11_init_234 (by decide) ?_
    refine e_iload_n (pc := 237) dX11_init_237 rfl rfl ?_
    refine n_imul (pc := 238) dX11_init_238 ?_
    refine n_iconst (pc := 239) 0 dX11_init_239 (by decide) ?_
    refine n_iadd (pc := 240) dX11_init_240 ?_
    refine n_iconst (pc := 241) 2 dX11_init_241 (by decide) ?_
    refine e_iastN (pc := 242) (a := o + 1) (n := 6070) (130 * k + 0) dX11_init_242 (bk_at' 0 (by omega) (by omega)) rfl (by omega) (by decide) ?_
    refine e_heap (KX11_up o g _) ?_
    refine e_aload_n (pc := 243) dX11_init_243 rfl rfl ?_
    refine e_get (pc := 244) fl_X11_7 dX11_init_244 bk_o (by rfl) ?_
    refine n_sipush (pc := 247) 130 dX11_init_247 (by decide) ?_
    refine e_iload_n (pc := 250) dX11_init_250 rfl rfl ?_
    refine n_imul (pc := 251) dX11_init_251 ?_
    refine n_iconst (pc := 252) 1 dX11_init_252 (by decide) ?_
    refine n_iadd (pc := 253) dX11_init_253 ?_
    refine n_iconst (pc := 254) 1 dX11_init_254 (by decide) ?_
    refine e_iastN (pc := 255) (a := o + 1) (n := 6070) (130 * k + 1) dX11_init_255 (bk_at' 0 (by omega) (by omega)) rfl (by omega) (by decide) ?_
    refine e_heap (KX11_up o _ _) ?_
    refine n_inc (pc := 256) dX11_init_256 rfl (by decide) ?_
    refine e_goto (pc := 259) (tgt := 224) dX11_init_259 (by decide) ?_
    exact ih (k + 1) _ (by omega) (W6_s hg)
theorem x11_l2 (K : ∀ g, W7 15 g → V MX11_init Post al (bk 10 h o (fs11 o) (KX11 o g) 106) 287 [some (.ref o), some (.int (nI 15))] []) (r : Nat) : ∀ k g, k + r = 15 → W7 k g → V MX11_init Post al (bk 10 h o (fs11 o) (KX11 o g) 106) 264 [some (.ref o), some (.int (nI k))] [] := by
  induction r with
  | zero =>
    intro k g hk hg
    have hk6 : k = 15 := by omega
    subst hk6
    refine e_iload_n (pc := 264) dX11_init_264 rfl rfl ?_
    refine n_bipush (pc := 265) 15 dX11_init_265 (by decide) ?_
    refine n_icmp_ge (pc := 267) (tgt := 287) dX11_init_267 (by decide) (by omega) (by omega) (fun c => ?_) (fun c => ?_)
    · exact K g hg
    · exact absurd c (by omega)
  | succ r ih =>
    intro k g hk hg
    refine e_iload_n (pc := 264) dX11_init_264 rfl rfl ?_
    refine n_bipush (pc := 265) 15 dX11_init_265 (by decide) ?_
    refine n_icmp_ge (pc := 267) (tgt := 287) dX11_init_267 (by decide) (by omega) (by omega) (fun c => absurd c (by omega)) (fun c => ?_)
    refine e_aload_n (pc := 270) dX11_init_270 rfl rfl ?_
    refine e_get (pc := 271) fl_X11_7 dX11_init_271 bk_o (by rfl) ?_
    refine n_sipush (pc := 274) 800 dX11_init_274 (by decide) ?_
    refine e_iload_n (pc := 277) dX11_init_277 rfl rfl ?_
    refine n_iadd (pc := 278) dX11_init_278 ?_
    refine e_iconst (pc := 279) (v := -1) dX11_init_279 (by decide) ?_
    refine e_iastN (pc := 280) (a := o + 1) (n := 6070) (800 + k) dX11_init_280 (bk_at' 0 (by omega) (by omega)) rfl (by omega) (by decide) ?_
    refine e_heap (KX11_up o g _) ?_
    refine n_inc (pc := 281) dX11_init_281 rfl (by decide) ?_
    refine e_goto (pc := 284) (tgt := 264) dX11_init_284 (by decide) ?_
    exact ih (k + 1) _ (by omega) (W7_s hg)
theorem c_X11_init (h : AH) (o : Nat) (h0 : h o = some (ob 10 fzX11)) : Cn yX11_init MX11_init [.ref o] (o + 1) h (fun r h' z => r = none ∧ z = o + 1 + 106 ∧ ∃ g, W7 15 g ∧ h' = bk 10 h o (fs11 o) (KX11 o g) 106) := by
  refine Cn.ofV (by decide) rfl (fun _ => rfl) (by simp [Value.category]) (by exact Nat.le_of_ble_eq_true rfl) ?_
  refine e_heap (bk_0 (T := KX11 o (fun _ => 0)) h0) ?_
  show V MX11_init _ (o + 1 + 0, 0, 0) _ _ _ _
  refine e_aload_n (pc := 0) dX11_init_0 rfl rfl ?_
  refine e_objInit (pc := 1) q_m_X11_1 dX11_init_1 (by exact Nat.le_of_ble_eq_true rfl) (by exact Nat.le_of_ble_eq_true rfl) ?_
  refine e_aload_n (pc := 4) dX11_init_4 rfl rfl ?_
  refine n_sipush (pc := 5) 6070 dX11_init_5 (by decide) ?_
  refine b_newI (pc := 8) (K := 6070) (N := 0) (N2 := 1) (c2 := 1) (s2 := 6070) dX11_init_8 (by rfl) (by decide) (by rfl) rfl rfl rfl ⟨by exact Nat.le_of_ble_eq_true rfl, by exact Nat.le_of_ble_eq_true rfl⟩ ?_
  refine b_putFX (pc := 10) (fs2 := [.ref (o + 1 + 0), .null, .int 0, .int 0, .int 0, .int 0, .null, .null, .null, .null, .null, .null, .null, .int 0, .int 0, .int 0, .int 0, .int 0, .int 0, .int 0, .int 0, .int 0, .int 0, .null, .null, .null, .null, .null, .null, .null, .int 0, .null, .null, .null, .null, .null, .null, .null, .null, .int 0, .null, .null]) pl_X11_7 rfl dX11_init_10 (by rfl) (by rfl) (by exact Nat.le_of_ble_eq_true rfl) (by rfl) ?_
  refine e_aload_n (pc := 13) dX11_init_13 rfl rfl ?_
  refine n_sipush (pc := 14) 6070 dX11_init_14 (by decide) ?_
  refine b_newI (pc := 17) (K := 6070) (N := 1) (N2 := 2) (c2 := 2) (s2 := 12140) dX11_init_17 (by rfl) (by decide) (by rfl) rfl rfl rfl ⟨by exact Nat.le_of_ble_eq_true rfl, by exact Nat.le_of_ble_eq_true rfl⟩ ?_
  refine b_putFX (pc := 19) (fs2 := [.ref (o + 1 + 0), .ref (o + 1 + 1), .int 0, .int 0, .int 0, .int 0, .null, .null, .null, .null, .null, .null, .null, .int 0, .int 0, .int 0, .int 0, .int 0, .int 0, .int 0, .int 0, .int 0, .int 0, .null, .null, .null, .null, .null, .null, .null, .int 0, .null, .null, .null, .null, .null, .null, .null, .null, .int 0, .null, .null]) pl_X11_13 rfl dX11_init_19 (by rfl) (by rfl) (by exact Nat.le_of_ble_eq_true rfl) (by rfl) ?_
  refine e_aload_n (pc := 22) dX11_init_22 rfl rfl ?_
  refine n_bipush (pc := 23) 125 dX11_init_23 (by decide) ?_
  refine b_newI (pc := 25) (K := 125) (N := 2) (N2 := 3) (c2 := 3) (s2 := 12265) dX11_init_25 (by rfl) (by decide) (by rfl) rfl rfl rfl ⟨by exact Nat.le_of_ble_eq_true rfl, by exact Nat.le_of_ble_eq_true rfl⟩ ?_
  refine b_putFX (pc := 27) (fs2 := [.ref (o + 1 + 0), .ref (o + 1 + 1), .int 0, .int 0, .int 0, .int 0, .ref (o + 1 + 2), .null, .null, .null, .null, .null, .null, .int 0, .int 0, .int 0, .int 0, .int 0, .int 0, .int 0, .int 0, .int 0, .int 0, .null, .null, .null, .null, .null, .null, .null, .int 0, .null, .null, .null, .null, .null, .null, .null, .null, .int 0, .null, .null]) pl_X11_16 rfl dX11_init_27 (by rfl) (by rfl) (by exact Nat.le_of_ble_eq_true rfl) (by rfl) ?_
  refine e_aload_n (pc := 30) dX11_init_30 rfl rfl ?_
  refine n_iconst (pc := 31) 5 dX11_init_31 (by decide) ?_
  refine b_newI (pc := 32) (K := 5) (N := 3) (N2 := 4) (c2 := 4) (s2 := 12270) dX11_init_32 (by rfl) (by decide) (by rfl) rfl rfl rfl ⟨by exact Nat.le_of_ble_eq_true rfl, by exact Nat.le_of_ble_eq_true rfl⟩ ?_
  refine b_putFX (pc := 34) (fs2 := [.ref (o + 1 + 0), .ref (o + 1 + 1), .int 0, .int 0, .int 0, .int 0, .ref (o + 1 + 2), .ref (o + 1 + 3), .null, .null, .null, .null, .null, .int 0, .int 0, .int 0, .int 0, .int 0, .int 0, .int 0, .int 0, .int 0, .int 0, .null, .null, .null, .null, .null, .null, .null, .int 0, .null, .null, .null, .null, .null, .null, .null, .null, .int 0, .null, .null]) pl_X11_19 rfl dX11_init_34 (by rfl) (by rfl) (by exact Nat.le_of_ble_eq_true rfl) (by rfl) ?_
  refine e_aload_n (pc := 37) dX11_init_37 rfl rfl ?_
  refine n_iconst (pc := 38) 5 dX11_init_38 (by decide) ?_
  refine b_newI (pc := 39) (K := 5) (N := 4) (N2 := 5) (c2 := 5) (s2 := 12275) dX11_init_39 (by rfl) (by decide) (by rfl) rfl rfl rfl ⟨by exact Nat.le_of_ble_eq_true rfl, by exact Nat.le_of_ble_eq_true rfl⟩ ?_
  refine b_putFX (pc := 41) (fs2 := [.ref (o + 1 + 0), .ref (o + 1 + 1), .int 0, .int 0, .int 0, .int 0, .ref (o + 1 + 2), .ref (o + 1 + 3), .ref (o + 1 + 4), .null, .null, .null, .null, .int 0, .int 0, .int 0, .int 0, .int 0, .int 0, .int 0, .int 0, .int 0, .int 0, .null, .null, .null, .null, .null, .null, .null, .int 0, .null, .null, .null, .null, .null, .null, .null, .null, .int 0, .null, .null]) pl_X11_22 rfl dX11_init_41 (by rfl) (by rfl) (by exact Nat.le_of_ble_eq_true rfl) (by rfl) ?_
  refine e_aload_n (pc := 44) dX11_init_44 rfl rfl ?_
  refine n_iconst (pc := 45) 5 dX11_init_45 (by decide) ?_
  refine b_newI (pc := 46) (K := 5) (N := 5) (N2 := 6) (c2 := 6) (s2 := 12280) dX11_init_46 (by rfl) (by decide) (by rfl) rfl rfl rfl ⟨by exact Nat.le_of_ble_eq_true rfl, by exact Nat.le_of_ble_eq_true rfl⟩ ?_
  refine b_putFX (pc := 48) (fs2 := [.ref (o + 1 + 0), .ref (o + 1 + 1), .int 0, .int 0, .int 0, .int 0, .ref (o + 1 + 2), .ref (o + 1 + 3), .ref (o + 1 + 4), .ref (o + 1 + 5), .null, .null, .null, .int 0, .int 0, .int 0, .int 0, .int 0, .int 0, .int 0, .int 0, .int 0, .int 0, .null, .null, .null, .null, .null, .null, .null, .int 0, .null, .null, .null, .null, .null, .null, .null, .null, .int 0, .null, .null]) pl_X11_25 rfl dX11_init_48 (by rfl) (by rfl) (by exact Nat.le_of_ble_eq_true rfl) (by rfl) ?_
  refine e_aload_n (pc := 51) dX11_init_51 rfl rfl ?_
  refine n_bipush (pc := 52) 125 dX11_init_52 (by decide) ?_
  refine b_newI (pc := 54) (K := 125) (N := 6) (N2 := 7) (c2 := 7) (s2 := 12405) dX11_init_54 (by rfl) (by decide) (by rfl) rfl rfl rfl ⟨by exact Nat.le_of_ble_eq_true rfl, by exact Nat.le_of_ble_eq_true rfl⟩ ?_
  refine b_putFX (pc := 56) (fs2 := [.ref (o + 1 + 0), .ref (o + 1 + 1), .int 0, .int 0, .int 0, .int 0, .ref (o + 1 + 2), .ref (o + 1 + 3), .ref (o + 1 + 4), .ref (o + 1 + 5), .ref (o + 1 + 6), .null, .null, .int 0, .int 0, .int 0, .int 0, .int 0, .int 0, .int 0, .int 0, .int 0, .int 0, .null, .null, .null, .null, .null, .null, .null, .int 0, .null, .null, .null, .null, .null, .null, .null, .null, .int 0, .null, .null]) pl_X11_28 rfl dX11_init_56 (by rfl) (by rfl) (by exact Nat.le_of_ble_eq_true rfl) (by rfl) ?_
  refine e_aload_n (pc := 59) dX11_init_59 rfl rfl ?_
  refine n_bipush (pc := 60) 125 dX11_init_60 (by decide) ?_
  refine b_newI (pc := 62) (K := 125) (N := 7) (N2 := 8) (c2 := 8) (s2 := 12530) dX11_init_62 (by rfl) (by decide) (by rfl) rfl rfl rfl ⟨by exact Nat.le_of_ble_eq_true rfl, by exact Nat.le_of_ble_eq_true rfl⟩ ?_
  refine b_putFX (pc := 64) (fs2 := [.ref (o + 1 + 0), .ref (o + 1 + 1), .int 0, .int 0, .int 0, .int 0, .ref (o + 1 + 2), .ref (o + 1 + 3), .ref (o + 1 + 4), .ref (o + 1 + 5), .ref (o + 1 + 6), .ref (o + 1 + 7), .null, .int 0, .int 0, .int 0, .int 0, .int 0, .int 0, .int 0, .int 0, .int 0, .int 0, .null, .null, .null, .null, .null, .null, .null, .int 0, .null, .null, .null, .null, .null, .null, .null, .null, .int 0, .null, .null]) pl_X11_31 rfl dX11_init_64 (by rfl) (by rfl) (by exact Nat.le_of_ble_eq_true rfl) (by rfl) ?_
  refine e_aload_n (pc := 67) dX11_init_67 rfl rfl ?_
  refine n_sipush (pc := 68) 600 dX11_init_68 (by decide) ?_
  refine b_newI (pc := 71) (K := 600) (N := 8) (N2 := 9) (c2 := 9) (s2 := 13130) dX11_init_71 (by rfl) (by decide) (by rfl) rfl rfl rfl ⟨by exact Nat.le_of_ble_eq_true rfl, by exact Nat.le_of_ble_eq_true rfl⟩ ?_
  refine b_putFX (pc := 73) (fs2 := [.ref (o + 1 + 0), .ref (o + 1 + 1), .int 0, .int 0, .int 0, .int 0, .ref (o + 1 + 2), .ref (o + 1 + 3), .ref (o + 1 + 4), .ref (o + 1 + 5), .ref (o + 1 + 6), .ref (o + 1 + 7), .ref (o + 1 + 8), .int 0, .int 0, .int 0, .int 0, .int 0, .int 0, .int 0, .int 0, .int 0, .int 0, .null, .null, .null, .null, .null, .null, .null, .int 0, .null, .null, .null, .null, .null, .null, .null, .null, .int 0, .null, .null]) pl_X11_34 rfl dX11_init_73 (by rfl) (by rfl) (by exact Nat.le_of_ble_eq_true rfl) (by rfl) ?_
  refine e_aload_n (pc := 76) dX11_init_76 rfl rfl ?_
  refine e_iconst (pc := 77) (v := -1) dX11_init_77 (by decide) ?_
  refine b_putX (pc := 78) (fs2 := [.ref (o + 1 + 0), .ref (o + 1 + 1), .int 0, .int 0, .int 0, .int 0, .ref (o + 1 + 2), .ref (o + 1 + 3), .ref (o + 1 + 4), .ref (o + 1 + 5), .ref (o + 1 + 6), .ref (o + 1 + 7), .ref (o + 1 + 8), .int 0, .int 0, .int 0, .int 0, .int 0, .int 0, .int 0, .int 0, .int (-1), .int 0, .null, .null, .null, .null, .null, .null, .null, .int 0, .null, .null, .null, .null, .null, .null, .null, .null, .int 0, .null, .null]) pl_X11_37 dX11_init_78 (by rfl) (by rfl) (by exact Nat.le_of_ble_eq_true rfl) (by rfl) ?_
  refine e_aload_n (pc := 81) dX11_init_81 rfl rfl ?_
  refine n_bipush (pc := 82) 7 dX11_init_82 (by decide) ?_
  refine b_newI (pc := 84) (K := 7) (N := 9) (N2 := 10) (c2 := 10) (s2 := 13137) dX11_init_84 (by rfl) (by decide) (by rfl) rfl rfl rfl ⟨by exact Nat.le_of_ble_eq_true rfl, by exact Nat.le_of_ble_eq_true rfl⟩ ?_
  refine b_putFX (pc := 86) (fs2 := [.ref (o + 1 + 0), .ref (o + 1 + 1), .int 0, .int 0, .int 0, .int 0, .ref (o + 1 + 2), .ref (o + 1 + 3), .ref (o + 1 + 4), .ref (o + 1 + 5), .ref (o + 1 + 6), .ref (o + 1 + 7), .ref (o + 1 + 8), .int 0, .int 0, .int 0, .int 0, .int 0, .int 0, .int 0, .int 0, .int (-1), .int 0, .ref (o + 1 + 9), .null, .null, .null, .null, .null, .null, .int 0, .null, .null, .null, .null, .null, .null, .null, .null, .int 0, .null, .null]) pl_X11_41 rfl dX11_init_86 (by rfl) (by rfl) (by exact Nat.le_of_ble_eq_true rfl) (by rfl) ?_
  refine e_aload_n (pc := 89) dX11_init_89 rfl rfl ?_
  refine n_iconst (pc := 90) 5 dX11_init_90 (by decide) ?_
  refine n_iconst (pc := 91) 5 dX11_init_91 (by decide) ?_
  refine b_newG (pc := 92) (K := 5) (n := 5) (N := 10) (N2 := 16) (c2 := 16) (s2 := 13167) q_cl_X11_44 dX11_init_92 (by rfl) (by rfl) (by decide) (by decide) (by rfl) (KX11_r1 o _) rfl rfl rfl ⟨by exact Nat.le_of_ble_eq_true rfl, by exact Nat.le_of_ble_eq_true rfl⟩ ?_
  refine b_putFX (pc := 96) (fs2 := [.ref (o + 1 + 0), .ref (o + 1 + 1), .int 0, .int 0, .int 0, .int 0, .ref (o + 1 + 2), .ref (o + 1 + 3), .ref (o + 1 + 4), .ref (o + 1 + 5), .ref (o + 1 + 6), .ref (o + 1 + 7), .ref (o + 1 + 8), .int 0, .int 0, .int 0, .int 0, .int 0, .int 0, .int 0, .int 0, .int (-1), .int 0, .ref (o + 1 + 9), .ref (o + 1 + 10), .null, .null, .null, .null, .null, .int 0, .null, .null, .null, .null, .null, .null, .null, .null, .int 0, .null, .null]) pl_X11_46 rfl dX11_init_96 (by rfl) (by rfl) (by exact Nat.le_of_ble_eq_true rfl) (by rfl) ?_
  refine e_aload_n (pc := 99) dX11_init_99 rfl rfl ?_
  refine n_bipush (pc := 100) 75 dX11_init_100 (by decide) ?_
  refine n_bipush (pc := 102) 75 dX11_init_102 (by decide) ?_
  refine b_newG (pc := 104) (K := 75) (n := 75) (N := 16) (N2 := 92) (c2 := 92) (s2 := 18867) q_cl_X11_44 dX11_init_104 (by rfl) (by rfl) (by decide) (by decide) (by rfl) (KX11_r2 o _) rfl rfl rfl ⟨by exact Nat.le_of_ble_eq_true rfl, by exact Nat.le_of_ble_eq_true rfl⟩ ?_
  refine b_putFX (pc := 108) (fs2 := [.ref (o + 1 + 0), .ref (o + 1 + 1), .int 0, .int 0, .int 0, .int 0, .ref (o + 1 + 2), .ref (o + 1 + 3), .ref (o + 1 + 4), .ref (o + 1 + 5), .ref (o + 1 + 6), .ref (o + 1 + 7), .ref (o + 1 + 8), .int 0, .int 0, .int 0, .int 0, .int 0, .int 0, .int 0, .int 0, .int (-1), .int 0, .ref (o + 1 + 9), .ref (o + 1 + 10), .ref (o + 1 + 16), .null, .null, .null, .null, .int 0, .null, .null, .null, .null, .null, .null, .null, .null, .int 0, .null, .null]) pl_X11_49 rfl dX11_init_108 (by rfl) (by rfl) (by exact Nat.le_of_ble_eq_true rfl) (by rfl) ?_
  refine e_aload_n (pc := 111) dX11_init_111 rfl rfl ?_
  refine n_bipush (pc := 112) 75 dX11_init_112 (by decide) ?_
  refine b_newI (pc := 114) (K := 75) (N := 92) (N2 := 93) (c2 := 93) (s2 := 18942) dX11_init_114 (by rfl) (by decide) (by rfl) rfl rfl rfl ⟨by exact Nat.le_of_ble_eq_true rfl, by exact Nat.le_of_ble_eq_true rfl⟩ ?_
  refine b_putFX (pc := 116) (fs2 := [.ref (o + 1 + 0), .ref (o + 1 + 1), .int 0, .int 0, .int 0, .int 0, .ref (o + 1 + 2), .ref (o + 1 + 3), .ref (o + 1 + 4), .ref (o + 1 + 5), .ref (o + 1 + 6), .ref (o + 1 + 7), .ref (o + 1 + 8), .int 0, .int 0, .int 0, .int 0, .int 0, .int 0, .int 0, .int 0, .int (-1), .int 0, .ref (o + 1 + 9), .ref (o + 1 + 10), .ref (o + 1 + 16), .ref (o + 1 + 92), .null, .null, .null, .int 0, .null, .null, .null, .null, .null, .null, .null, .null, .int 0, .null, .null]) pl_X11_52 rfl dX11_init_116 (by rfl) (by rfl) (by exact Nat.le_of_ble_eq_true rfl) (by rfl) ?_
  refine e_aload_n (pc := 119) dX11_init_119 rfl rfl ?_
  refine n_bipush (pc := 120) 75 dX11_init_120 (by decide) ?_
  refine b_newZ (pc := 122) (K := 75) (N := 93) (N2 := 94) (c2 := 94) (s2 := 19017) dX11_init_122 (by rfl) (by decide) (by rfl) rfl rfl rfl ⟨by exact Nat.le_of_ble_eq_true rfl, by exact Nat.le_of_ble_eq_true rfl⟩ ?_
  refine b_putFX (pc := 124) (fs2 := [.ref (o + 1 + 0), .ref (o + 1 + 1), .int 0, .int 0, .int 0, .int 0, .ref (o + 1 + 2), .ref (o + 1 + 3), .ref (o + 1 + 4), .ref (o + 1 + 5), .ref (o + 1 + 6), .ref (o + 1 + 7), .ref (o + 1 + 8), .int 0, .int 0, .int 0, .int 0, .int 0, .int 0, .int 0, .int 0, .int (-1), .int 0, .ref (o + 1 + 9), .ref (o + 1 + 10), .ref (o + 1 + 16), .ref (o + 1 + 92), .ref (o + 1 + 93), .null, .null, .int 0, .null, .null, .null, .null, .null, .null, .null, .null, .int 0, .null, .null]) pl_X11_55 rfl dX11_init_124 (by rfl) (by rfl) (by exact Nat.le_of_ble_eq_true rfl) (by rfl) ?_
  refine e_aload_n (pc := 127) dX11_init_127 rfl rfl ?_
  refine n_sipush (pc := 128) 243 dX11_init_128 (by decide) ?_
  refine b_newZ (pc := 131) (K := 243) (N := 94) (N2 := 95) (c2 := 95) (s2 := 19260) dX11_init_131 (by rfl) (by decide) (by rfl) rfl rfl rfl ⟨by exact Nat.le_of_ble_eq_true rfl, by exact Nat.le_of_ble_eq_true rfl⟩ ?_
  refine b_putFX (pc := 133) (fs2 := [.ref (o + 1 + 0), .ref (o + 1 + 1), .int 0, .int 0, .int 0, .int 0, .ref (o + 1 + 2), .ref (o + 1 + 3), .ref (o + 1 + 4), .ref (o + 1 + 5), .ref (o + 1 + 6), .ref (o + 1 + 7), .ref (o + 1 + 8), .int 0, .int 0, .int 0, .int 0, .int 0, .int 0, .int 0, .int 0, .int (-1), .int 0, .ref (o + 1 + 9), .ref (o + 1 + 10), .ref (o + 1 + 16), .ref (o + 1 + 92), .ref (o + 1 + 93), .ref (o + 1 + 94), .null, .int 0, .null, .null, .null, .null, .null, .null, .null, .null, .int 0, .null, .null]) pl_X11_59 rfl dX11_init_133 (by rfl) (by rfl) (by exact Nat.le_of_ble_eq_true rfl) (by rfl) ?_
  refine e_aload_n (pc := 136) dX11_init_136 rfl rfl ?_
  refine n_iconst (pc := 137) 5 dX11_init_137 (by decide) ?_
  refine b_newI (pc := 138) (K := 5) (N := 95) (N2 := 96) (c2 := 96) (s2 := 19265) dX11_init_138 (by rfl) (by decide) (by rfl) rfl rfl rfl ⟨by exact Nat.le_of_ble_eq_true rfl, by exact Nat.le_of_ble_eq_true rfl⟩ ?_
  refine b_putFX (pc := 140) (fs2 := [.ref (o + 1 + 0), .ref (o + 1 + 1), .int 0, .int 0, .int 0, .int 0, .ref (o + 1 + 2), .ref (o + 1 + 3), .ref (o + 1 + 4), .ref (o + 1 + 5), .ref (o + 1 + 6), .ref (o + 1 + 7), .ref (o + 1 + 8), .int 0, .int 0, .int 0, .int 0, .int 0, .int 0, .int 0, .int 0, .int (-1), .int 0, .ref (o + 1 + 9), .ref (o + 1 + 10), .ref (o + 1 + 16), .ref (o + 1 + 92), .ref (o + 1 + 93), .ref (o + 1 + 94), .ref (o + 1 + 95), .int 0, .null, .null, .null, .null, .null, .null, .null, .null, .int 0, .null, .null]) pl_X11_62 rfl dX11_init_140 (by rfl) (by rfl) (by exact Nat.le_of_ble_eq_true rfl) (by rfl) ?_
  refine e_aload_n (pc := 143) dX11_init_143 rfl rfl ?_
  refine n_bipush (pc := 144) 125 dX11_init_144 (by decide) ?_
  refine b_newI (pc := 146) (K := 125) (N := 96) (N2 := 97) (c2 := 97) (s2 := 19390) dX11_init_146 (by rfl) (by decide) (by rfl) rfl rfl rfl ⟨by exact Nat.le_of_ble_eq_true rfl, by exact Nat.le_of_ble_eq_true rfl⟩ ?_
  refine b_putFX (pc := 148) (fs2 := [.ref (o + 1 + 0), .ref (o + 1 + 1), .int 0, .int 0, .int 0, .int 0, .ref (o + 1 + 2), .ref (o + 1 + 3), .ref (o + 1 + 4), .ref (o + 1 + 5), .ref (o + 1 + 6), .ref (o + 1 + 7), .ref (o + 1 + 8), .int 0, .int 0, .int 0, .int 0, .int 0, .int 0, .int 0, .int 0, .int (-1), .int 0, .ref (o + 1 + 9), .ref (o + 1 + 10), .ref (o + 1 + 16), .ref (o + 1 + 92), .ref (o + 1 + 93), .ref (o + 1 + 94), .ref (o + 1 + 95), .int 0, .ref (o + 1 + 96), .null, .null, .null, .null, .null, .null, .null, .int 0, .null, .null]) pl_X11_65 rfl dX11_init_148 (by rfl) (by rfl) (by exact Nat.le_of_ble_eq_true rfl) (by rfl) ?_
  refine e_aload_n (pc := 151) dX11_init_151 rfl rfl ?_
  refine n_iconst (pc := 152) 5 dX11_init_152 (by decide) ?_
  refine b_newI (pc := 153) (K := 5) (N := 97) (N2 := 98) (c2 := 98) (s2 := 19395) dX11_init_153 (by rfl) (by decide) (by rfl) rfl rfl rfl ⟨by exact Nat.le_of_ble_eq_true rfl, by exact Nat.le_of_ble_eq_true rfl⟩ ?_
  refine b_putFX (pc := 155) (fs2 := [.ref (o + 1 + 0), .ref (o + 1 + 1), .int 0, .int 0, .int 0, .int 0, .ref (o + 1 + 2), .ref (o + 1 + 3), .ref (o + 1 + 4), .ref (o + 1 + 5), .ref (o + 1 + 6), .ref (o + 1 + 7), .ref (o + 1 + 8), .int 0, .int 0, .int 0, .int 0, .int 0, .int 0, .int 0, .int 0, .int (-1), .int 0, .ref (o + 1 + 9), .ref (o + 1 + 10), .ref (o + 1 + 16), .ref (o + 1 + 92), .ref (o + 1 + 93), .ref (o + 1 + 94), .ref (o + 1 + 95), .int 0, .ref (o + 1 + 96), .ref (o + 1 + 97), .null, .null, .null, .null, .null, .null, .int 0, .null, .null]) pl_X11_68 rfl dX11_init_155 (by rfl) (by rfl) (by exact Nat.le_of_ble_eq_true rfl) (by rfl) ?_
  refine e_aload_n (pc := 158) dX11_init_158 rfl rfl ?_
  refine n_iconst (pc := 159) 5 dX11_init_159 (by decide) ?_
  refine b_newI (pc := 160) (K := 5) (N := 98) (N2 := 99) (c2 := 99) (s2 := 19400) dX11_init_160 (by rfl) (by decide) (by rfl) rfl rfl rfl ⟨by exact Nat.le_of_ble_eq_true rfl, by exact Nat.le_of_ble_eq_true rfl⟩ ?_
  refine b_putFX (pc := 162) (fs2 := [.ref (o + 1 + 0), .ref (o + 1 + 1), .int 0, .int 0, .int 0, .int 0, .ref (o + 1 + 2), .ref (o + 1 + 3), .ref (o + 1 + 4), .ref (o + 1 + 5), .ref (o + 1 + 6), .ref (o + 1 + 7), .ref (o + 1 + 8), .int 0, .int 0, .int 0, .int 0, .int 0, .int 0, .int 0, .int 0, .int (-1), .int 0, .ref (o + 1 + 9), .ref (o + 1 + 10), .ref (o + 1 + 16), .ref (o + 1 + 92), .ref (o + 1 + 93), .ref (o + 1 + 94), .ref (o + 1 + 95), .int 0, .ref (o + 1 + 96), .ref (o + 1 + 97), .ref (o + 1 + 98), .null, .null, .null, .null, .null, .int 0, .null, .null]) pl_X11_71 rfl dX11_init_162 (by rfl) (by rfl) (by exact Nat.le_of_ble_eq_true rfl) (by rfl) ?_
  refine e_aload_n (pc := 165) dX11_init_165 rfl rfl ?_
  refine n_iconst (pc := 166) 5 dX11_init_166 (by decide) ?_
  refine b_newI (pc := 167) (K := 5) (N := 99) (N2 := 100) (c2 := 100) (s2 := 19405) dX11_init_167 (by rfl) (by decide) (by rfl) rfl rfl rfl ⟨by exact Nat.le_of_ble_eq_true rfl, by exact Nat.le_of_ble_eq_true rfl⟩ ?_
  refine b_putFX (pc := 169) (fs2 := [.ref (o + 1 + 0), .ref (o + 1 + 1), .int 0, .int 0, .int 0, .int 0, .ref (o + 1 + 2), .ref (o + 1 + 3), .ref (o + 1 + 4), .ref (o + 1 + 5), .ref (o + 1 + 6), .ref (o + 1 + 7), .ref (o + 1 + 8), .int 0, .int 0, .int 0, .int 0, .int 0, .int 0, .int 0, .int 0, .int (-1), .int 0, .ref (o + 1 + 9), .ref (o + 1 + 10), .ref (o + 1 + 16), .ref (o + 1 + 92), .ref (o + 1 + 93), .ref (o + 1 + 94), .ref (o + 1 + 95), .int 0, .ref (o + 1 + 96), .ref (o + 1 + 97), .ref (o + 1 + 98), .ref (o + 1 + 99), .null, .null, .null, .null, .int 0, .null, .null]) pl_X11_74 rfl dX11_init_169 (by rfl) (by rfl) (by exact Nat.le_of_ble_eq_true rfl) (by rfl) ?_
  refine e_aload_n (pc := 172) dX11_init_172 rfl rfl ?_
  refine n_iconst (pc := 173) 5 dX11_init_173 (by decide) ?_
  refine b_newI (pc := 174) (K := 5) (N := 100) (N2 := 101) (c2 := 101) (s2 := 19410) dX11_init_174 (by rfl) (by decide) (by rfl) rfl rfl rfl ⟨by exact Nat.le_of_ble_eq_true rfl, by exact Nat.le_of_ble_eq_true rfl⟩ ?_
  refine b_putFX (pc := 176) (fs2 := [.ref (o + 1 + 0), .ref (o + 1 + 1), .int 0, .int 0, .int 0, .int 0, .ref (o + 1 + 2), .ref (o + 1 + 3), .ref (o + 1 + 4), .ref (o + 1 + 5), .ref (o + 1 + 6), .ref (o + 1 + 7), .ref (o + 1 + 8), .int 0, .int 0, .int 0, .int 0, .int 0, .int 0, .int 0, .int 0, .int (-1), .int 0, .ref (o + 1 + 9), .ref (o + 1 + 10), .ref (o + 1 + 16), .ref (o + 1 + 92), .ref (o + 1 + 93), .ref (o + 1 + 94), .ref (o + 1 + 95), .int 0, .ref (o + 1 + 96), .ref (o + 1 + 97), .ref (o + 1 + 98), .ref (o + 1 + 99), .ref (o + 1 + 100), .null, .null, .null, .int 0, .null, .null]) pl_X11_77 rfl dX11_init_176 (by rfl) (by rfl) (by exact Nat.le_of_ble_eq_true rfl) (by rfl) ?_
  refine e_aload_n (pc := 179) dX11_init_179 rfl rfl ?_
  refine n_iconst (pc := 180) 5 dX11_init_180 (by decide) ?_
  refine b_newI (pc := 181) (K := 5) (N := 101) (N2 := 102) (c2 := 102) (s2 := 19415) dX11_init_181 (by rfl) (by decide) (by rfl) rfl rfl rfl ⟨by exact Nat.le_of_ble_eq_true rfl, by exact Nat.le_of_ble_eq_true rfl⟩ ?_
  refine b_putFX (pc := 183) (fs2 := [.ref (o + 1 + 0), .ref (o + 1 + 1), .int 0, .int 0, .int 0, .int 0, .ref (o + 1 + 2), .ref (o + 1 + 3), .ref (o + 1 + 4), .ref (o + 1 + 5), .ref (o + 1 + 6), .ref (o + 1 + 7), .ref (o + 1 + 8), .int 0, .int 0, .int 0, .int 0, .int 0, .int 0, .int 0, .int 0, .int (-1), .int 0, .ref (o + 1 + 9), .ref (o + 1 + 10), .ref (o + 1 + 16), .ref (o + 1 + 92), .ref (o + 1 + 93), .ref (o + 1 + 94), .ref (o + 1 + 95), .int 0, .ref (o + 1 + 96), .ref (o + 1 + 97), .ref (o + 1 + 98), .ref (o + 1 + 99), .ref (o + 1 + 100), .ref (o + 1 + 101), .null, .null, .int 0, .null, .null]) pl_X11_80 rfl dX11_init_183 (by rfl) (by rfl) (by exact Nat.le_of_ble_eq_true rfl) (by rfl) ?_
  refine e_aload_n (pc := 186) dX11_init_186 rfl rfl ?_
  refine n_bipush (pc := 187) 125 dX11_init_187 (by decide) ?_
  refine b_newI (pc := 189) (K := 125) (N := 102) (N2 := 103) (c2 := 103) (s2 := 19540) dX11_init_189 (by rfl) (by decide) (by rfl) rfl rfl rfl ⟨by exact Nat.le_of_ble_eq_true rfl, by exact Nat.le_of_ble_eq_true rfl⟩ ?_
  refine b_putFX (pc := 191) (fs2 := [.ref (o + 1 + 0), .ref (o + 1 + 1), .int 0, .int 0, .int 0, .int 0, .ref (o + 1 + 2), .ref (o + 1 + 3), .ref (o + 1 + 4), .ref (o + 1 + 5), .ref (o + 1 + 6), .ref (o + 1 + 7), .ref (o + 1 + 8), .int 0, .int 0, .int 0, .int 0, .int 0, .int 0, .int 0, .int 0, .int (-1), .int 0, .ref (o + 1 + 9), .ref (o + 1 + 10), .ref (o + 1 + 16), .ref (o + 1 + 92), .ref (o + 1 + 93), .ref (o + 1 + 94), .ref (o + 1 + 95), .int 0, .ref (o + 1 + 96), .ref (o + 1 + 97), .ref (o + 1 + 98), .ref (o + 1 + 99), .ref (o + 1 + 100), .ref (o + 1 + 101), .ref (o + 1 + 102), .null, .int 0, .null, .null]) pl_X11_83 rfl dX11_init_191 (by rfl) (by rfl) (by exact Nat.le_of_ble_eq_true rfl) (by rfl) ?_
  refine e_aload_n (pc := 194) dX11_init_194 rfl rfl ?_
  refine n_iconst (pc := 195) 5 dX11_init_195 (by decide) ?_
  refine b_newI (pc := 196) (K := 5) (N := 103) (N2 := 104) (c2 := 104) (s2 := 19545) dX11_init_196 (by rfl) (by decide) (by rfl) rfl rfl rfl ⟨by exact Nat.le_of_ble_eq_true rfl, by exact Nat.le_of_ble_eq_true rfl⟩ ?_
  refine b_putFX (pc := 198) (fs2 := [.ref (o + 1 + 0), .ref (o + 1 + 1), .int 0, .int 0, .int 0, .int 0, .ref (o + 1 + 2), .ref (o + 1 + 3), .ref (o + 1 + 4), .ref (o + 1 + 5), .ref (o + 1 + 6), .ref (o + 1 + 7), .ref (o + 1 + 8), .int 0, .int 0, .int 0, .int 0, .int 0, .int 0, .int 0, .int 0, .int (-1), .int 0, .ref (o + 1 + 9), .ref (o + 1 + 10), .ref (o + 1 + 16), .ref (o + 1 + 92), .ref (o + 1 + 93), .ref (o + 1 + 94), .ref (o + 1 + 95), .int 0, .ref (o + 1 + 96), .ref (o + 1 + 97), .ref (o + 1 + 98), .ref (o + 1 + 99), .ref (o + 1 + 100), .ref (o + 1 + 101), .ref (o + 1 + 102), .ref (o + 1 + 103), .int 0, .null, .null]) pl_X11_86 rfl dX11_init_198 (by rfl) (by rfl) (by exact Nat.le_of_ble_eq_true rfl) (by rfl) ?_
  refine e_aload_n (pc := 201) dX11_init_201 rfl rfl ?_
  refine e_iconst (pc := 202) (v := -1) dX11_init_202 (by decide) ?_
  refine b_putX (pc := 203) (fs2 := [.ref (o + 1 + 0), .ref (o + 1 + 1), .int 0, .int 0, .int 0, .int 0, .ref (o + 1 + 2), .ref (o + 1 + 3), .ref (o + 1 + 4), .ref (o + 1 + 5), .ref (o + 1 + 6), .ref (o + 1 + 7), .ref (o + 1 + 8), .int 0, .int 0, .int 0, .int 0, .int 0, .int 0, .int 0, .int 0, .int (-1), .int 0, .ref (o + 1 + 9), .ref (o + 1 + 10), .ref (o + 1 + 16), .ref (o + 1 + 92), .ref (o + 1 + 93), .ref (o + 1 + 94), .ref (o + 1 + 95), .int 0, .ref (o + 1 + 96), .ref (o + 1 + 97), .ref (o + 1 + 98), .ref (o + 1 + 99), .ref (o + 1 + 100), .ref (o + 1 + 101), .ref (o + 1 + 102), .ref (o + 1 + 103), .int (-1), .null, .null]) pl_X11_89 dX11_init_203 (by rfl) (by rfl) (by exact Nat.le_of_ble_eq_true rfl) (by rfl) ?_
  refine e_aload_n (pc := 206) dX11_init_206 rfl rfl ?_
  refine n_bipush (pc := 207) 125 dX11_init_207 (by decide) ?_
  refine b_newI (pc := 209) (K := 125) (N := 104) (N2 := 105) (c2 := 105) (s2 := 19670) dX11_init_209 (by rfl) (by decide) (by rfl) rfl rfl rfl ⟨by exact Nat.le_of_ble_eq_true rfl, by exact Nat.le_of_ble_eq_true rfl⟩ ?_
  refine b_putFX (pc := 211) (fs2 := [.ref (o + 1 + 0), .ref (o + 1 + 1), .int 0, .int 0, .int 0, .int 0, .ref (o + 1 + 2), .ref (o + 1 + 3), .ref (o + 1 + 4), .ref (o + 1 + 5), .ref (o + 1 + 6), .ref (o + 1 + 7), .ref (o + 1 + 8), .int 0, .int 0, .int 0, .int 0, .int 0, .int 0, .int 0, .int 0, .int (-1), .int 0, .ref (o + 1 + 9), .ref (o + 1 + 10), .ref (o + 1 + 16), .ref (o + 1 + 92), .ref (o + 1 + 93), .ref (o + 1 + 94), .ref (o + 1 + 95), .int 0, .ref (o + 1 + 96), .ref (o + 1 + 97), .ref (o + 1 + 98), .ref (o + 1 + 99), .ref (o + 1 + 100), .ref (o + 1 + 101), .ref (o + 1 + 102), .ref (o + 1 + 103), .int (-1), .ref (o + 1 + 104), .null]) pl_X11_92 rfl dX11_init_211 (by rfl) (by rfl) (by exact Nat.le_of_ble_eq_true rfl) (by rfl) ?_
  refine e_aload_n (pc := 214) dX11_init_214 rfl rfl ?_
  refine n_bipush (pc := 215) 18 dX11_init_215 (by decide) ?_
  refine b_newI (pc := 217) (K := 18) (N := 105) (N2 := 106) (c2 := 106) (s2 := 19688) dX11_init_217 (by rfl) (by decide) (by rfl) rfl rfl rfl ⟨by exact Nat.le_of_ble_eq_true rfl, by exact Nat.le_of_ble_eq_true rfl⟩ ?_
  refine b_putFX (pc := 219) (fs2 := [.ref (o + 1 + 0), .ref (o + 1 + 1), .int 0, .int 0, .int 0, .int 0, .ref (o + 1 + 2), .ref (o + 1 + 3), .ref (o + 1 + 4), .ref (o + 1 + 5), .ref (o + 1 + 6), .ref (o + 1 + 7), .ref (o + 1 + 8), .int 0, .int 0, .int 0, .int 0, .int 0, .int 0, .int 0, .int 0, .int (-1), .int 0, .ref (o + 1 + 9), .ref (o + 1 + 10), .ref (o + 1 + 16), .ref (o + 1 + 92), .ref (o + 1 + 93), .ref (o + 1 + 94), .ref (o + 1 + 95), .int 0, .ref (o + 1 + 96), .ref (o + 1 + 97), .ref (o + 1 + 98), .ref (o + 1 + 99), .ref (o + 1 + 100), .ref (o + 1 + 101), .ref (o + 1 + 102), .ref (o + 1 + 103), .int (-1), .ref (o + 1 + 104), .ref (o + 1 + 105)]) pl_X11_95 rfl dX11_init_219 (by rfl) (by rfl) (by exact Nat.le_of_ble_eq_true rfl) (by rfl) ?_
  refine n_iconst (pc := 222) 0 dX11_init_222 (by decide) ?_
  refine e_istore_n (pc := 223) dX11_init_223 rfl (by decide) ?_
  refine x11_l1 (fun g hg => ?_) 6 0 _ (by omega) W6_0
  refine n_iconst (pc := 262) 0 dX11_init_262 (by decide) ?_
  refine e_istore_n (pc := 263) dX11_init_263 rfl (by decide) ?_
  refine x11_l2 (fun g hg => ?_) 15 0 _ (by omega) (W7_0 hg)
  exact e_vret dX11_init_287 rfl ⟨by exact Nat.le_of_ble_eq_true rfl, by exact Nat.le_of_ble_eq_true rfl⟩ ⟨rfl, rfl, g, hg, rfl⟩
end X11I
