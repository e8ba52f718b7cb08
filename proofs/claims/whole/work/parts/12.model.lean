/-! the reference: methods with loops -/
theorem q_loop {P : Nat → Prop} (N : Nat) (h : ∀ i, i ≤ N → (i < N → P (i + 1)) → P i) : ∀ i, i ≤ N → P i := by
  have key : ∀ k i, i + k = N → P i := by
    intro k
    induction k with
    | zero => intro i hi; exact h i (by omega) (fun q => absurd q (by omega))
    | succ k ih => intro i hi; exact h i (by omega) (fun _ => ih (i + 1) (by omega))
  exact fun i hi => key (N - i) i (by omega)
theorem q_ge {a b : Int32} {x y : Nat} (ha : a = nI x) (hb : b = nI y) (hx : x < 2 ^ 31) (hy : y < 2 ^ 31) : a ≤ b ↔ x ≤ y := by rw [ha, hb]; exact nI_leI hx hy
def q_sum (a : Nat → Int32) : Nat → Int32
  | 0 => 0
  | n + 1 => q_sum a n + a n
theorem q_60 (s k : Nat) : (60 : Int32) * nI s + nI k = nI (60 * s + k) := by rw [show (60 : Int32) = nI 60 from rfl, pk_mul, nI_add]
theorem q_21 (s k : Nat) : (21 : Int32) * nI s + nI k = nI (21 * s + k) := by rw [show (21 : Int32) = nI 21 from rfl, pk_mul, nI_add]
set_option maxHeartbeats 4000000 in
set_option maxRecDepth 100000 in
theorem c_X8_total {f : Nat → Nat → Int32} {g : Nat → Nat → Int64} (n : Nat) (hn : f 0 5 = nI n) (h10 : n ≤ 10) (a : Nat) (ha : alM a = true) (hty : tyM a = .inl (.int, 10)) : q_ConI yX8_total cX8_total 4 (some .int) 0 0 tyM alM [.ref 0, .ref a] (f, g, rfM) (fun v h' => v = q_sum (f a) n ∧ h' = (f, g, rfM)) := by
  refine q_Con.of RX8 [some (.ref 0), some (.ref a), none, none] (by decide +kernel) rfl rfl (Nat.le_of_ble_eq_true rfl) (fun C ad E Z => ?_)
  have L : ∀ i, i ≤ n → gg C tyM 4 0 0 alM ad 4 [some (.ref 0), some (.ref a), some (.int (q_sum (f a) i)), some (.int (nI i))] [] (f, g, rfM) := q_loop n (fun i hi ih => by
    refine g_iload_3 E dX8_total_4 ?_
    refine g_aload_0 E dX8_total_5 ?_
    refine g_getI E (by first | rfl | assumption) (by first | rfl | assumption) fl_X8_154 rfl dX8_total_6 ?_
    refine g_icmp_ge (tgt := 24) E dX8_total_9 (by decide) (fun c_9 => ?_) (fun c_9 => ?_)
    · have e_9 := (q_ge (x := n) (y := i) hn rfl (by omega) (by omega)).mp c_9
      refine g_iload_2 E dX8_total_24 ?_
      exact g_iret E Z dX8_total_25 ⟨_, rfl, ⟨by rw [show i = n by omega], rfl⟩⟩
    · have e_9 := (not_congr (q_ge (x := n) (y := i) hn rfl (by omega) (by omega))).mp c_9
      refine g_iload_2 E dX8_total_12 ?_
      refine g_aload_1 E dX8_total_13 ?_
      refine g_iload_3 E dX8_total_14 ?_
      refine g_iald E (by first | rfl | assumption) (by first | rfl | assumption) dX8_total_15 (q_ix_n (by omega)) ?_
      refine g_iadd E dX8_total_16 ?_
      refine g_istore_2 E dX8_total_17 (by decide) rfl ?_
      refine g_iinc_3 (u := 1) E dX8_total_18 (by decide) (by decide) rfl ?_
      refine g_goto (tgt := 4) E dX8_total_21 (by decide) ?_
      rw [nI_1]
      exact ih (by omega))
  refine g_iconst (v := 0) E dX8_total_0 (by decide) ?_
  refine g_istore_2 E dX8_total_1 (by decide) rfl ?_
  refine g_iconst (v := 0) E dX8_total_2 (by decide) ?_
  refine g_istore_3 E dX8_total_3 (by decide) rfl ?_
  exact L 0 (Nat.zero_le _)
set_option maxHeartbeats 4000000 in
set_option maxRecDepth 100000 in
theorem c_X8_waiting {f : Nat → Nat → Int32} {g : Nat → Nat → Int64} (c : Nat) (hc : c < 10) : q_ConI yX8_waiting cX8_waiting 4 (some .int) 0 0 tyM alM [.ref 0, .int (nI c)] (f, g, rfM) (fun v h' => v = q_sum (fun k => f 30 (21 * c + k)) 21 ∧ h' = (f, g, rfM)) := by
  refine q_Con.of RX8 [some (.ref 0), some (.int (nI c)), none, none] (by decide +kernel) rfl rfl (Nat.le_of_ble_eq_true rfl) (fun C ad E Z => ?_)
  have L : ∀ i, i ≤ 21 → gg C tyM 4 0 0 alM ad 4 [some (.ref 0), some (.int (nI c)), some (.int (q_sum (fun k => f 30 (21 * c + k)) i)), some (.int (nI i))] [] (f, g, rfM) := q_loop 21 (fun i hi ih => by
    refine g_iload_3 E dX8_waiting_4 ?_
    refine g_bipush (v := 21) E dX8_waiting_5 (by decide) ?_
    refine g_icmp_ge (tgt := 30) E dX8_waiting_7 (by decide) (fun c_7 => ?_) (fun c_7 => ?_)
    · have e_7 := (q_ge (x := 21) (y := i) rfl rfl (by omega) (by omega)).mp c_7
      refine g_iload_2 E dX8_waiting_30 ?_
      exact g_iret E Z dX8_waiting_31 ⟨_, rfl, ⟨by rw [show i = 21 by omega], rfl⟩⟩
    · have e_7 := (not_congr (q_ge (x := 21) (y := i) rfl rfl (by omega) (by omega))).mp c_7
      refine g_iload_2 E dX8_waiting_10 ?_
      refine g_aload_0 E dX8_waiting_11 ?_
      refine g_getR E (by first | rfl | assumption) (by first | rfl | assumption) fl_X8_85 rfl (by first | rfl | assumption) dX8_waiting_12 ?_
      refine g_bipush (v := 21) E dX8_waiting_15 (by decide) ?_
      refine g_iload_1 E dX8_waiting_17 ?_
      refine g_imul E dX8_waiting_18 ?_
      refine g_iload_3 E dX8_waiting_19 ?_
      refine g_iadd E dX8_waiting_20 ?_
      refine g_iald E (by first | rfl | assumption) (by first | rfl | assumption) dX8_waiting_21 (q_ix_e (q_21 _ _) (by omega)) ?_
      refine g_iadd E dX8_waiting_22 ?_
      refine g_istore_2 E dX8_waiting_23 (by decide) rfl ?_
      refine g_iinc_3 (u := 1) E dX8_waiting_24 (by decide) (by decide) rfl ?_
      refine g_goto (tgt := 4) E dX8_waiting_27 (by decide) ?_
      rw [nI_1]
      exact ih (by omega))
  refine g_iconst (v := 0) E dX8_waiting_0 (by decide) ?_
  refine g_istore_2 E dX8_waiting_1 (by decide) rfl ?_
  refine g_iconst (v := 0) E dX8_waiting_2 (by decide) ?_
  refine g_istore_3 E dX8_waiting_3 (by decide) rfl ?_
  exact L 0 (Nat.zero_le _)
/-- what the row of a place answers when its first n numbers are wanted, each 0 .. top -/
def q_ref (wd sz : Nat → Int32) (nb : Nat → Nat → Int64) (n : Nat) (s : Int32) (top : Int) : Int32 :=
  if ¬ (0 ≤ s.toInt ∧ s.toInt ≤ 3) then -2 else if wd s.toNatClampNeg < 0 then -5 else if sz s.toNatClampNeg < nI n then -6
  else if ∀ c, c < n → (0 ≤ (nb s.toNatClampNeg c).toInt ∧ (nb s.toNatClampNeg c).toInt ≤ top) then 0 else -4
def q_nbM (g : Nat → Nat → Int64) : Nat → Nat → Int64 := fun p i => g 3 (60 * p + i)
set_option maxHeartbeats 4000000 in
set_option maxRecDepth 100000 in
theorem c_X8_refuses {f : Nat → Nat → Int32} {g : Nat → Nat → Int64} (n : Nat) (hn : f 0 5 = nI n) (h10 : n ≤ 10) (s : Int32) (top : Int64) : q_ConI yX8_refuses cX8_refuses 5 (some .int) 2 45 tyM alM [.ref 0, .int s, .long top] (f, g, rfM) (fun v h' => v = q_ref (f 1) (f 2) (q_nbM g) n s top.toInt ∧ h' = (f, g, rfM)) := by
  refine q_Con.of RX8 [some (.ref 0), some (.int s), some (.long top), none, none] (by decide +kernel) rfl rfl (Nat.le_of_ble_eq_true rfl) (fun C ad E Z => ?_)
  have hq : ∀ v : Int32, v = q_ref (f 1) (f 2) (q_nbM g) n s top.toInt → v = q_ref (f 1) (f 2) (q_nbM g) n s top.toInt := fun _ h => h
  have L : ∀ S, S ≤ 3 → s = nI S → ¬ f 1 S < 0 → ¬ f 2 S < nI n → ∀ i, i ≤ n → (∀ c, c < i → (0 ≤ (q_nbM g S c).toInt ∧ (q_nbM g S c).toInt ≤ top.toInt)) → gg C tyM 5 0 0 alM ad 41 [some (.ref 0), some (.int s), some (.long top), none, some (.int (nI i))] [] (f, g, rfM) := by
    intro S hS es k1 k2
    subst es
    have k0 : (0 ≤ (nI S).toInt ∧ (nI S).toInt ≤ 3) := by rw [nI_toInt (by omega)]; omega
    have kS : (nI S).toNatClampNeg = S := nI_clamp (by omega)
    refine q_loop n (fun i hi ih hall => ?_)
    refine g_iload_4 E dX8_refuses_41 ?_
    refine g_aload_0 E dX8_refuses_43 ?_
    refine g_getI E (by first | rfl | assumption) (by first | rfl | assumption) fl_X8_154 rfl dX8_refuses_44 ?_
    refine g_icmp_ge (tgt := 79) E dX8_refuses_47 (by decide) (fun c_47 => ?_) (fun c_47 => ?_)
    · have e_47 := (q_ge (x := n) (y := i) hn rfl (by omega) (by omega)).mp c_47
      refine g_iconst (v := 0) E dX8_refuses_79 (by decide) ?_
      exact g_iret E Z dX8_refuses_80 ⟨_, rfl, ⟨by unfold q_ref; rw [kS, if_neg (not_not_intro k0), if_neg k1, if_neg k2, if_pos (fun c hc => hall c (by omega))], rfl⟩⟩
    · have e_47 := (not_congr (q_ge (x := n) (y := i) hn rfl (by omega) (by omega))).mp c_47
      refine g_aload_0 E dX8_refuses_50 ?_
      refine g_getR E (by first | rfl | assumption) (by first | rfl | assumption) fl_X8_16 rfl (by first | rfl | assumption) dX8_refuses_51 ?_
      refine g_bipush (v := 60) E dX8_refuses_54 (by decide) ?_
      refine g_iload_1 E dX8_refuses_56 ?_
      refine g_imul E dX8_refuses_57 ?_
      refine g_iload_4 E dX8_refuses_58 ?_
      refine g_iadd E dX8_refuses_60 ?_
      refine g_lald E (by first | rfl | assumption) (by first | rfl | assumption) dX8_refuses_61 (q_ix_e (q_60 _ _) (by omega)) ?_
      refine g_lconst (v := 0) E dX8_refuses_62 (by decide) ?_
      refine g_lload_2 E dX8_refuses_63 ?_
      refine g_cSi3 E (c_X8_in _ _ _) cw_X8_142 (by decide) (by decide) (by decide) dX8_refuses_64 (fun v_64 h_64 hp => ?_)
      obtain ⟨rfl, rfl⟩ := hp
      refine g_if_ne (tgt := 73) E dX8_refuses_67 (by decide) (fun c_67 => ?_) (fun c_67 => ?_)
      · have k_67 := q_b1.mp c_67
        refine g_iinc_4 (u := 1) E dX8_refuses_73 (by decide) (by decide) rfl ?_
        refine g_goto (tgt := 41) E dX8_refuses_76 (by decide) ?_
        rw [nI_1]
        exact ih (by omega) (fun c hc => by
          by_cases e : c = i
          · subst e; exact k_67
          · exact hall c (by omega))
      · have k_67 := q_b0.mp c_67
        refine g_bipush (v := -4) E dX8_refuses_70 (by decide) ?_
        exact g_iret E Z dX8_refuses_72 ⟨_, rfl, ⟨by unfold q_ref; rw [kS, if_neg (not_not_intro k0), if_neg k1, if_neg k2, if_neg (fun q => k_67 (q i (by omega)))], rfl⟩⟩
  refine g_iload_1 E dX8_refuses_0 ?_
  refine g_cSi1 E (c_X8_isPlace _) cw_X8_146 (by decide) (by decide) (by decide) dX8_refuses_1 (fun v_1 h_1 hp => ?_)
  obtain ⟨rfl, rfl⟩ := hp
  refine g_if_ne (tgt := 10) E dX8_refuses_4 (by decide) (fun c_4 => ?_) (fun c_4 => ?_)
  · have k_4 := q_b1.mp c_4
    obtain ⟨S, hS, rfl⟩ := q_nat (b := 3) k_4.1 k_4.2
    have kS : (nI S).toNatClampNeg = S := nI_clamp (by omega)
    refine g_aload_0 E dX8_refuses_10 ?_
    refine g_getR E (by first | rfl | assumption) (by first | rfl | assumption) fl_X8_9 rfl (by first | rfl | assumption) dX8_refuses_11 ?_
    refine g_iload_1 E dX8_refuses_14 ?_
    refine g_iald E (by first | rfl | assumption) (by first | rfl | assumption) dX8_refuses_15 (q_ix_n (by omega)) ?_
    refine g_if_ge (tgt := 22) E dX8_refuses_16 (by decide) (fun c_16 => ?_) (fun c_16 => ?_)
    · have k16 : ¬ f 1 S < 0 := Int32.not_lt.mpr c_16
      refine g_aload_0 E dX8_refuses_22 ?_
      refine g_getR E (by first | rfl | assumption) (by first | rfl | assumption) fl_X8_13 rfl (by first | rfl | assumption) dX8_refuses_23 ?_
      refine g_iload_1 E dX8_refuses_26 ?_
      refine g_iald E (by first | rfl | assumption) (by first | rfl | assumption) dX8_refuses_27 (q_ix_n (by omega)) ?_
      refine g_aload_0 E dX8_refuses_28 ?_
      refine g_getI E (by first | rfl | assumption) (by first | rfl | assumption) fl_X8_154 rfl dX8_refuses_29 ?_
      refine g_icmp_ge (tgt := 38) E dX8_refuses_32 (by decide) (fun c_32 => ?_) (fun c_32 => ?_)
      · have k32 : ¬ f 2 S < nI n := by rw [hn] at c_32; exact Int32.not_lt.mpr c_32
        refine g_iconst (v := 0) E dX8_refuses_38 (by decide) ?_
        refine g_istore_4 E dX8_refuses_39 (by decide) rfl ?_
        exact L S hS rfl k16 k32 0 (Nat.zero_le _) (fun c hc => absurd hc (Nat.not_lt_zero c))
      · have k32 : f 2 S < nI n := by rw [hn] at c_32; exact Int32.not_le.mp c_32
        refine g_bipush (v := -6) E dX8_refuses_35 (by decide) ?_
        exact g_iret E Z dX8_refuses_37 ⟨_, rfl, ⟨by unfold q_ref; rw [kS, if_neg (not_not_intro k_4), if_neg k16, if_pos k32], rfl⟩⟩
    · have k16 : f 1 S < 0 := Int32.not_le.mp c_16
      refine g_bipush (v := -5) E dX8_refuses_19 (by decide) ?_
      exact g_iret E Z dX8_refuses_21 ⟨_, rfl, ⟨by unfold q_ref; rw [kS, if_neg (not_not_intro k_4), if_pos k16], rfl⟩⟩
  · have k_4 := q_b0.mp c_4
    refine g_bipush (v := -2) E dX8_refuses_7 (by decide) ?_
    exact g_iret E Z dX8_refuses_9 ⟨_, rfl, ⟨by unfold q_ref; rw [if_pos k_4], rfl⟩⟩
theorem q_ref_0 {wd sz : Nat → Int32} {nb : Nat → Nat → Int64} {n : Nat} {s : Int32} {top : Int} (h : ¬ q_ref wd sz nb n s top < 0) : q_ref wd sz nb n s top = 0 ∧ (0 ≤ s.toInt ∧ s.toInt ≤ 3) ∧ ¬ wd s.toNatClampNeg < 0 ∧ ¬ sz s.toNatClampNeg < nI n ∧ ∀ c, c < n → (0 ≤ (nb s.toNatClampNeg c).toInt ∧ (nb s.toNatClampNeg c).toInt ≤ top) := by
  unfold q_ref at h ⊢
  by_cases h1 : 0 ≤ s.toInt ∧ s.toInt ≤ 3
  · by_cases h2 : wd s.toNatClampNeg < 0
    · simp [h1, h2] at h
    · by_cases h3 : sz s.toNatClampNeg < nI n
      · simp [h1, h2, h3] at h
      · by_cases h4 : ∀ c, c < n → (0 ≤ (nb s.toNatClampNeg c).toInt ∧ (nb s.toNatClampNeg c).toInt ≤ top)
        · exact ⟨by rw [if_neg (not_not_intro h1), if_neg h2, if_neg h3, if_pos h4], h1, h2, h3, h4⟩
        · rw [if_neg (not_not_intro h1), if_neg h2, if_neg h3, if_neg h4] at h
          exact absurd (by decide) h
  · rw [if_pos h1] at h
    exact absurd (by decide) h
theorem q_sum_congr {a b : Nat → Int32} : ∀ {n : Nat}, (∀ k, k < n → a k = b k) → q_sum a n = q_sum b n
  | 0, _ => rfl
  | n + 1, h => by rw [q_sum, q_sum, q_sum_congr (fun k hk => h k (by omega)), h n (by omega)]
set_option maxHeartbeats 4000000 in
set_option maxRecDepth 100000 in
theorem c_X8_needs {f : Nat → Nat → Int32} {g : Nat → Nat → Int64} (ht : f 0 0 = 0) (n : Nat) (hn : f 0 5 = nI n) (h10 : n ≤ 10) (s : Int32) : q_ConI yX8_needs cX8_needs 4 (some .int) 3 69 tyM alM [.ref 0, .int s] (f, g, rfM) (fun v h' => (q_ref (f 1) (f 2) (q_nbM g) n s 9 < 0 ∧ v = q_ref (f 1) (f 2) (q_nbM g) n s 9 ∧ h' = (f, g, rfM)) ∨ (¬ q_ref (f 1) (f 2) (q_nbM g) n s 9 < 0 ∧ v = q_sum (fun c => (q_nbM g s.toNatClampNeg c).toInt32) n ∧ h' = (q_fill f 20 0 n (fun c => (q_nbM g s.toNatClampNeg c).toInt32), g, rfM))) := by
  refine q_Con.of RX8 [some (.ref 0), some (.int s), none, none] (by decide +kernel) rfl rfl (Nat.le_of_ble_eq_true rfl) (fun C ad E Z => ?_)
  have L : ∀ S, S ≤ 3 → s = nI S → ¬ q_ref (f 1) (f 2) (q_nbM g) n s 9 < 0 → ∀ i, i ≤ n → ∀ v2 : Int32, gg C tyM 4 0 0 alM ad 22 [some (.ref 0), some (.int s), some (.int v2), some (.int (nI i))] [] (q_fill f 20 0 i (fun c => (q_nbM g S c).toInt32), g, rfM) := by
    intro S hS es hr
    subst es
    have kS : (nI S).toNatClampNeg = S := nI_clamp (by omega)
    refine q_loop n (fun i hi ih v2 => ?_)
    refine g_iload_3 E dX8_needs_22 ?_
    refine g_aload_0 E dX8_needs_23 ?_
    refine g_getI E (by first | rfl | assumption) (by first | rfl | assumption) fl_X8_154 rfl dX8_needs_24 ?_
    refine g_icmp_ge (tgt := 54) E dX8_needs_27 (by decide) (fun c_27 => ?_) (fun c_27 => ?_)
    · have e_27 := (q_ge (x := n) (y := i) hn rfl (by omega) (by omega)).mp c_27
      refine g_aload_0 E dX8_needs_54 ?_
      refine g_aload_0 E dX8_needs_55 ?_
      refine g_getR E (by first | rfl | assumption) (by first | rfl | assumption) fl_X8_54 rfl (by first | rfl | assumption) dX8_needs_56 ?_
      refine g_cVi1 E (c_X8_total n (by exact hn) h10 _ (by rfl) (by rfl)) cw_X8_181 (by decide) (by decide) (by first | rfl | assumption) (by first | rfl | assumption) (by decide) dX8_needs_59 (fun v_59 h_59 hp => ?_)
      obtain ⟨rfl, rfl⟩ := hp
      exact g_iret E Z dX8_needs_62 ⟨_, rfl, Or.inr ⟨hr, (by rw [kS]; exact q_sum_congr (fun k hk => by rw [q_fill_in (Nat.zero_le k) (by omega)]; rfl)), (by rw [kS]; rw [show i = n by omega])⟩⟩
    · have e_27 := (not_congr (q_ge (x := n) (y := i) hn rfl (by omega) (by omega))).mp c_27
      refine g_aload_0 E dX8_needs_30 ?_
      refine g_getR E (by first | rfl | assumption) (by first | rfl | assumption) fl_X8_54 rfl (by first | rfl | assumption) dX8_needs_31 ?_
      refine g_iload_3 E dX8_needs_34 ?_
      refine g_aload_0 E dX8_needs_35 ?_
      refine g_getR E (by first | rfl | assumption) (by first | rfl | assumption) fl_X8_16 rfl (by first | rfl | assumption) dX8_needs_36 ?_
      refine g_bipush (v := 60) E dX8_needs_39 (by decide) ?_
      refine g_iload_1 E dX8_needs_41 ?_
      refine g_imul E dX8_needs_42 ?_
      refine g_iload_3 E dX8_needs_43 ?_
      refine g_iadd E dX8_needs_44 ?_
      refine g_lald E (by first | rfl | assumption) (by first | rfl | assumption) dX8_needs_45 (q_ix_e (q_60 _ _) (by omega)) ?_
      refine g_l2i E dX8_needs_46 ?_
      refine g_iast E (by first | rfl | assumption) (by first | rfl | assumption) dX8_needs_47 (q_ix_n (by omega)) ?_
      refine g_iinc_3 (u := 1) E dX8_needs_48 (by decide) (by decide) rfl ?_
      refine g_goto (tgt := 22) E dX8_needs_51 (by decide) ?_
      have e := q_fill_s (f := f) (a := 20) (lo := 0) (n := i) (v := fun c => (q_nbM g S c).toInt32) rfl
      rw [Nat.zero_add] at e
      rw [nI_1]
      exact e ▸ ih (by omega) v2
  refine g_aload_0 E dX8_needs_0 ?_
  refine g_iconst (v := 0) E dX8_needs_1 (by decide) ?_
  refine g_putI E (by first | rfl | assumption) (by first | rfl | assumption) fw_X8_137 rfl dX8_needs_2 ?_
  rw [q_up_same ht]
  refine g_aload_0 E dX8_needs_5 ?_
  refine g_iload_1 E dX8_needs_6 ?_
  refine g_ldc2 E kw_X8_163 dX8_needs_7 ?_
  refine g_cVi2 E (c_X8_refuses n hn h10 _ _) cw_X8_177 (by decide) (by decide) (by first | rfl | assumption) (by first | rfl | assumption) (by decide) dX8_needs_10 (fun v_10 h_10 hp => ?_)
  obtain ⟨rfl, rfl⟩ := hp
  rw [show Int64.toInt 9 = 9 from by decide]
  refine g_istore_2 E dX8_needs_13 (by decide) rfl ?_
  refine g_iload_2 E dX8_needs_14 ?_
  refine g_if_ge (tgt := 20) E dX8_needs_15 (by decide) (fun c_15 => ?_) (fun c_15 => ?_)
  · have k15 : ¬ q_ref (f 1) (f 2) (q_nbM g) n s 9 < 0 := Int32.not_lt.mpr c_15
    obtain ⟨r0, r1, -⟩ := q_ref_0 k15
    obtain ⟨S, hS, es⟩ := q_nat (b := 3) r1.1 r1.2
    refine g_iconst (v := 0) E dX8_needs_20 (by decide) ?_
    refine g_istore_3 E dX8_needs_21 (by decide) rfl ?_
    have e := L S hS es k15 0 (Nat.zero_le _) (q_ref (f 1) (f 2) (q_nbM g) n s 9)
    rw [q_fill_0] at e
    exact e
  · refine g_iload_2 E dX8_needs_18 ?_
    exact g_iret E Z dX8_needs_19 ⟨_, rfl, Or.inl ⟨Int32.not_le.mp c_15, rfl, rfl⟩⟩
set_option maxHeartbeats 4000000 in
set_option maxRecDepth 100000 in
theorem c_X8_asks {f : Nat → Nat → Int32} {g : Nat → Nat → Int64} (ht : f 0 0 = 0) (n : Nat) (hn : f 0 5 = nI n) (h10 : n ≤ 10) (s : Int32) : q_ConI yX8_asks cX8_asks 4 (some .int) 3 69 tyM alM [.ref 0, .int s] (f, g, rfM) (fun v h' => (q_ref (f 1) (f 2) (q_nbM g) n s 1000 < 0 ∧ v = q_ref (f 1) (f 2) (q_nbM g) n s 1000 ∧ h' = (f, g, rfM)) ∨ (¬ q_ref (f 1) (f 2) (q_nbM g) n s 1000 < 0 ∧ v = q_sum (fun c => (q_nbM g s.toNatClampNeg c).toInt32) n ∧ h' = (q_fill f 21 0 n (fun c => (q_nbM g s.toNatClampNeg c).toInt32), g, rfM))) := by
  refine q_Con.of RX8 [some (.ref 0), some (.int s), none, none] (by decide +kernel) rfl rfl (Nat.le_of_ble_eq_true rfl) (fun C ad E Z => ?_)
  have L : ∀ S, S ≤ 3 → s = nI S → ¬ q_ref (f 1) (f 2) (q_nbM g) n s 1000 < 0 → ∀ i, i ≤ n → ∀ v2 : Int32, gg C tyM 4 0 0 alM ad 22 [some (.ref 0), some (.int s), some (.int v2), some (.int (nI i))] [] (q_fill f 21 0 i (fun c => (q_nbM g S c).toInt32), g, rfM) := by
    intro S hS es hr
    subst es
    have kS : (nI S).toNatClampNeg = S := nI_clamp (by omega)
    refine q_loop n (fun i hi ih v2 => ?_)
    refine g_iload_3 E dX8_asks_22 ?_
    refine g_aload_0 E dX8_asks_23 ?_
    refine g_getI E (by first | rfl | assumption) (by first | rfl | assumption) fl_X8_154 rfl dX8_asks_24 ?_
    refine g_icmp_ge (tgt := 54) E dX8_asks_27 (by decide) (fun c_27 => ?_) (fun c_27 => ?_)
    · have e_27 := (q_ge (x := n) (y := i) hn rfl (by omega) (by omega)).mp c_27
      refine g_aload_0 E dX8_asks_54 ?_
      refine g_aload_0 E dX8_asks_55 ?_
      refine g_getR E (by first | rfl | assumption) (by first | rfl | assumption) fl_X8_57 rfl (by first | rfl | assumption) dX8_asks_56 ?_
      refine g_cVi1 E (c_X8_total n (by exact hn) h10 _ (by rfl) (by rfl)) cw_X8_181 (by decide) (by decide) (by first | rfl | assumption) (by first | rfl | assumption) (by decide) dX8_asks_59 (fun v_59 h_59 hp => ?_)
      obtain ⟨rfl, rfl⟩ := hp
      exact g_iret E Z dX8_asks_62 ⟨_, rfl, Or.inr ⟨hr, (by rw [kS]; exact q_sum_congr (fun k hk => by rw [q_fill_in (Nat.zero_le k) (by omega)]; rfl)), (by rw [kS]; rw [show i = n by omega])⟩⟩
    · have e_27 := (not_congr (q_ge (x := n) (y := i) hn rfl (by omega) (by omega))).mp c_27
      refine g_aload_0 E dX8_asks_30 ?_
      refine g_getR E (by first | rfl | assumption) (by first | rfl | assumption) fl_X8_57 rfl (by first | rfl | assumption) dX8_asks_31 ?_
      refine g_iload_3 E dX8_asks_34 ?_
      refine g_aload_0 E dX8_asks_35 ?_
      refine g_getR E (by first | rfl | assumption) (by first | rfl | assumption) fl_X8_16 rfl (by first | rfl | assumption) dX8_asks_36 ?_
      refine g_bipush (v := 60) E dX8_asks_39 (by decide) ?_
      refine g_iload_1 E dX8_asks_41 ?_
      refine g_imul E dX8_asks_42 ?_
      refine g_iload_3 E dX8_asks_43 ?_
      refine g_iadd E dX8_asks_44 ?_
      refine g_lald E (by first | rfl | assumption) (by first | rfl | assumption) dX8_asks_45 (q_ix_e (q_60 _ _) (by omega)) ?_
      refine g_l2i E dX8_asks_46 ?_
      refine g_iast E (by first | rfl | assumption) (by first | rfl | assumption) dX8_asks_47 (q_ix_n (by omega)) ?_
      refine g_iinc_3 (u := 1) E dX8_asks_48 (by decide) (by decide) rfl ?_
      refine g_goto (tgt := 22) E dX8_asks_51 (by decide) ?_
      have e := q_fill_s (f := f) (a := 21) (lo := 0) (n := i) (v := fun c => (q_nbM g S c).toInt32) rfl
      rw [Nat.zero_add] at e
      rw [nI_1]
      exact e ▸ ih (by omega) v2
  refine g_aload_0 E dX8_asks_0 ?_
  refine g_iconst (v := 0) E dX8_asks_1 (by decide) ?_
  refine g_putI E (by first | rfl | assumption) (by first | rfl | assumption) fw_X8_137 rfl dX8_asks_2 ?_
  rw [q_up_same ht]
  refine g_aload_0 E dX8_asks_5 ?_
  refine g_iload_1 E dX8_asks_6 ?_
  refine g_ldc2 E kw_X8_159 dX8_asks_7 ?_
  refine g_cVi2 E (c_X8_refuses n hn h10 _ _) cw_X8_177 (by decide) (by decide) (by first | rfl | assumption) (by first | rfl | assumption) (by decide) dX8_asks_10 (fun v_10 h_10 hp => ?_)
  obtain ⟨rfl, rfl⟩ := hp
  rw [show Int64.toInt 1000 = 1000 from by decide]
  refine g_istore_2 E dX8_asks_13 (by decide) rfl ?_
  refine g_iload_2 E dX8_asks_14 ?_
  refine g_if_ge (tgt := 20) E dX8_asks_15 (by decide) (fun c_15 => ?_) (fun c_15 => ?_)
  · have k15 : ¬ q_ref (f 1) (f 2) (q_nbM g) n s 1000 < 0 := Int32.not_lt.mpr c_15
    obtain ⟨r0, r1, -⟩ := q_ref_0 k15
    obtain ⟨S, hS, es⟩ := q_nat (b := 3) r1.1 r1.2
    refine g_iconst (v := 0) E dX8_asks_20 (by decide) ?_
    refine g_istore_3 E dX8_asks_21 (by decide) rfl ?_
    have e := L S hS es k15 0 (Nat.zero_le _) (q_ref (f 1) (f 2) (q_nbM g) n s 1000)
    rw [q_fill_0] at e
    exact e
  · refine g_iload_2 E dX8_asks_18 ?_
    exact g_iret E Z dX8_asks_19 ⟨_, rfl, Or.inl ⟨Int32.not_le.mp c_15, rfl, rfl⟩⟩
