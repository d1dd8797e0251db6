theorem l_X8_power {Pr : Int32 → AH → Prop} {sz : Nat} {h : AH} {p i : Nat} (hi : i ≤ 5) (hp : p ≤ 5) (hq : Pr (nI (p ^ i)) h) : ∀ (n k : Nat), n = i - k → k ≤ i → VI MX8_power sz Pr h 4 [some (.int (nI p)), some (.int (nI i)), some (.int (nI (p ^ k))), some (.int (nI k))] [] := by
  intro n
  induction n with
  | zero =>
    intro k hn hk
    have e : k = i := by omega
    subst e
    refine e_iload_n (pc := 4) dX8_power_4 rfl rfl ?_
    refine e_iload_n (pc := 5) dX8_power_5 rfl rfl ?_
    refine n_icmp_ge (pc := 6) (tgt := 24) dX8_power_6 (by decide) (by omega) (by omega) (fun c => ?_) (fun c => absurd c (by omega))
    refine e_iload_n (pc := 24) dX8_power_24 rfl rfl ?_
    exact n_iret (pc := 25) dX8_power_25 rfl hq
  | succ n ih =>
    intro k hn hk
    refine e_iload_n (pc := 4) dX8_power_4 rfl rfl ?_
    refine e_iload_n (pc := 5) dX8_power_5 rfl rfl ?_
    refine n_icmp_ge (pc := 6) (tgt := 24) dX8_power_6 (by decide) (by omega) (by omega) (fun c => absurd c (by omega)) (fun c => ?_)
    refine e_iload_n (pc := 9) dX8_power_9 rfl rfl ?_
    refine n_iconst (pc := 10) 5 dX8_power_10 (by decide) ?_
    refine n_icmp_ge (pc := 11) (tgt := 24) dX8_power_11 (by decide) (by omega) (by omega) (fun c => absurd c (by omega)) (fun c => ?_)
    refine e_iload_n (pc := 14) dX8_power_14 rfl rfl ?_
    refine e_iload_n (pc := 15) dX8_power_15 rfl rfl ?_
    refine n_imul (pc := 16) dX8_power_16 ?_
    refine e_istore_n (pc := 17) dX8_power_17 rfl (by decide) ?_
    refine n_inc (pc := 18) dX8_power_18 rfl (by decide) ?_
    refine e_goto (pc := 21) (tgt := 4) dX8_power_21 (by decide) ?_
    exact ih (k + 1) (by omega) (by omega)
theorem c_X8_power {h : AH} {p i : Nat} (hi : i ≤ 5) (hp : p ≤ 5) : CP yX8_power MX8_power [.int (nI p), .int (nI i)] h (nI (p ^ i)) := by
  refine CI.ofV (by decide) rfl rfl (by simp [Value.category]) (Nat.le_of_ble_eq_true rfl) (fun sz => ?_)
  refine n_iconst (pc := 0) 1 dX8_power_0 (by decide) ?_
  refine e_istore_n (pc := 1) dX8_power_1 rfl (by decide) ?_
  refine n_iconst (pc := 2) 0 dX8_power_2 (by decide) ?_
  refine e_istore_n (pc := 3) dX8_power_3 rfl (by decide) ?_
  exact l_X8_power hi hp ⟨rfl, rfl⟩ i 0 (by omega) (by omega)
