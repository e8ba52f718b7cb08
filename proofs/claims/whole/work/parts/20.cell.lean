/-! the class: its cells -/
theorem va_up_s {α : Type} {f : Nat → α} {k : Nat} {v : α} : va_up f k v k = v := if_pos rfl
theorem va_up_n {α : Type} {f : Nat → α} {k j : Nat} {v : α} (h : j ≠ k) : va_up f k v j = f j := if_neg h
theorem va_up_u {α : Type} {f : Nat → α} {k : Nat} {v u : α} : va_up (va_up f k v) k u = va_up f k u := by
  funext x
  by_cases e : x = k
  · subst e; rw [va_up_s, va_up_s]
  · rw [va_up_n e, va_up_n e, va_up_n e]
theorem va_up_id {α : Type} {f : Nat → α} {k : Nat} : va_up f k (f k) = f := by
  funext x
  by_cases e : x = k
  · subst e; rw [va_up_s]
  · rw [va_up_n e]
theorem q_up_va {α : Type} {f : Nat → Nat → α} {a k : Nat} {v : α} : q_up f a k v = va_up f a (va_up (f a) k v) := rfl
theorem q_upr {α : Type} {f : Nat → Nat → α} {a k : Nat} {r : Nat → α} {v : α} : q_up (va_up f a r) a k v = va_up f a (va_up r k v) := by
  rw [q_up_va, va_up_s, va_up_u]
set_option maxHeartbeats 4000000 in
set_option maxRecDepth 100000 in
theorem c_X0_powerNow {n : Nat} {sB tB : Bool} {f : Nat → Nat → Int32} {g : Nat → Nat → Int64} (c : Nat) (hc : c < n) (h10 : n ≤ 10) : q_ConI yX0_powerNow cX0_powerNow 1 (some .int) 0 0 tyX (alX n sB tB) [.ref (c + 40)] (f, g, rfX n sB tB) (fun v h' => v = f (c + 40) 0 * (2 + f (c + 40) 4) / 2 ∧ h' = (f, g, rfX n sB tB)) := by
  refine q_Con.of RX0 [some (.ref (c + 40))] (by decide +kernel) rfl rfl (Nat.le_of_ble_eq_true rfl) (fun C ad E Z => ?_)
  have hac : alX n sB tB (c + 40) = true := alX_c hc
  have haw : alX n sB tB (c + 60) = true := alX_w hc
  have htc : tyX (c + 40) = .inr 0 := tyX_c (by omega)
  have htw : tyX (c + 60) = .inl (.int, 21) := tyX_w (by omega)
  have hrw : rfX n sB tB (c + 40) 9 = some (c + 60) := rfX_w (by omega)
  refine g_aload_0 E dX0_powerNow_0 ?_
  refine g_getI E (by first | assumption | rfl) (by first | assumption | rfl) fl_X0_15 rfl dX0_powerNow_1 ?_
  refine g_iconst (v := 2) E dX0_powerNow_4 (by decide) ?_
  refine g_aload_0 E dX0_powerNow_5 ?_
  refine g_getI E (by first | assumption | rfl) (by first | assumption | rfl) fl_X0_28 rfl dX0_powerNow_6 ?_
  refine g_iadd E dX0_powerNow_9 ?_
  refine g_imul E dX0_powerNow_10 ?_
  refine g_iconst (v := 2) E dX0_powerNow_11 (by decide) ?_
  refine g_idiv E dX0_powerNow_12 (by decide) ?_
  exact g_iret E Z dX0_powerNow_13 ⟨_, rfl, ⟨rfl, rfl⟩⟩
set_option maxHeartbeats 4000000 in
set_option maxRecDepth 100000 in
theorem c_X0_rateNow {n : Nat} {sB tB : Bool} {f : Nat → Nat → Int32} {g : Nat → Nat → Int64} (c : Nat) (hc : c < n) (h10 : n ≤ 10) : q_ConI yX0_rateNow cX0_rateNow 1 (some .int) 0 0 tyX (alX n sB tB) [.ref (c + 40)] (f, g, rfX n sB tB) (fun v h' => v = q_rate (f (c + 40) 4) (f (c + 40) 1) ∧ h' = (f, g, rfX n sB tB)) := by
  refine q_Con.of RX0 [some (.ref (c + 40))] (by decide +kernel) rfl rfl (Nat.le_of_ble_eq_true rfl) (fun C ad E Z => ?_)
  have hac : alX n sB tB (c + 40) = true := alX_c hc
  have haw : alX n sB tB (c + 60) = true := alX_w hc
  have htc : tyX (c + 40) = .inr 0 := tyX_c (by omega)
  have htw : tyX (c + 60) = .inl (.int, 21) := tyX_w (by omega)
  have hrw : rfX n sB tB (c + 40) 9 = some (c + 60) := rfX_w (by omega)
  refine g_aload_0 E dX0_rateNow_0 ?_
  refine g_getI E (by first | assumption | rfl) (by first | assumption | rfl) fl_X0_28 rfl dX0_rateNow_1 ?_
  refine g_if_ne (tgt := 12) E dX0_rateNow_4 (by decide) (fun c_4 => ?_) (fun c_4 => ?_)
  · refine g_aload_0 E dX0_rateNow_12 ?_
    refine g_getI E (by first | assumption | rfl) (by first | assumption | rfl) fl_X0_28 rfl dX0_rateNow_13 ?_
    refine g_iconst (v := 1) E dX0_rateNow_16 (by decide) ?_
    refine g_icmp_ne (tgt := 29) E dX0_rateNow_17 (by decide) (fun c_17 => ?_) (fun c_17 => ?_)
    · refine g_iconst (v := 0) E dX0_rateNow_29 (by decide) ?_
      exact g_iret E Z dX0_rateNow_30 ⟨_, rfl, ⟨by unfold q_rate; simp [*], rfl⟩⟩
    · refine g_aload_0 E dX0_rateNow_20 ?_
      refine g_getI E (by first | assumption | rfl) (by first | assumption | rfl) fl_X0_19 rfl dX0_rateNow_21 ?_
      refine g_iconst (v := 2) E dX0_rateNow_24 (by decide) ?_
      refine g_idiv E dX0_rateNow_25 (by decide) ?_
      refine g_goto (tgt := 30) E dX0_rateNow_26 (by decide) ?_
      exact g_iret E Z dX0_rateNow_30 ⟨_, rfl, ⟨by unfold q_rate; simp [*], rfl⟩⟩
  · refine g_aload_0 E dX0_rateNow_7 ?_
    refine g_getI E (by first | assumption | rfl) (by first | assumption | rfl) fl_X0_19 rfl dX0_rateNow_8 ?_
    exact g_iret E Z dX0_rateNow_11 ⟨_, rfl, ⟨by unfold q_rate; simp [*], rfl⟩⟩
set_option maxHeartbeats 4000000 in
set_option maxRecDepth 100000 in
theorem c_X0_held {n : Nat} {sB tB : Bool} {f : Nat → Nat → Int32} {g : Nat → Nat → Int64} (c : Nat) (hc : c < n) (h10 : n ≤ 10) : q_ConI yX0_held cX0_held 1 (some .int) 0 0 tyX (alX n sB tB) [.ref (c + 40)] (f, g, rfX n sB tB) (fun v h' => v = (g (c + 40) 10 - g (c + 40) 11 - g (c + 40) 12).toInt32 ∧ h' = (f, g, rfX n sB tB)) := by
  refine q_Con.of RX0 [some (.ref (c + 40))] (by decide +kernel) rfl rfl (Nat.le_of_ble_eq_true rfl) (fun C ad E Z => ?_)
  have hac : alX n sB tB (c + 40) = true := alX_c hc
  have haw : alX n sB tB (c + 60) = true := alX_w hc
  have htc : tyX (c + 40) = .inr 0 := tyX_c (by omega)
  have htw : tyX (c + 60) = .inl (.int, 21) := tyX_w (by omega)
  have hrw : rfX n sB tB (c + 40) 9 = some (c + 60) := rfX_w (by omega)
  refine g_aload_0 E dX0_held_0 ?_
  refine g_getL E (by first | assumption | rfl) (by first | assumption | rfl) fl_X0_31 rfl dX0_held_1 ?_
  refine g_aload_0 E dX0_held_4 ?_
  refine g_getL E (by first | assumption | rfl) (by first | assumption | rfl) fl_X0_35 rfl dX0_held_5 ?_
  refine g_lsub E dX0_held_8 ?_
  refine g_aload_0 E dX0_held_9 ?_
  refine g_getL E (by first | assumption | rfl) (by first | assumption | rfl) fl_X0_38 rfl dX0_held_10 ?_
  refine g_lsub E dX0_held_13 ?_
  refine g_l2i E dX0_held_14 ?_
  exact g_iret E Z dX0_held_15 ⟨_, rfl, ⟨rfl, rfl⟩⟩
theorem q_dn (k : Nat) : nI (k + 1) - 1 = nI k := nI_pred k
theorem q_dm (k : Nat) : nI k + -1 = nI k - 1 := (Int32.sub_eq_add_neg (nI k) 1).symm
theorem q_neg1 : ¬ (0 : Int32) ≤ nI 0 - 1 := by decide
theorem q_m1 : nI 0 - 1 < 0 := by decide
set_option maxHeartbeats 4000000 in
set_option maxRecDepth 100000 in
theorem c_X0_oldest {n : Nat} {sB tB : Bool} {f : Nat → Nat → Int32} {g : Nat → Nat → Int64} (c : Nat) (hc : c < n) (h10 : n ≤ 10) : q_ConI yX0_oldest cX0_oldest 2 (some .int) 0 0 tyX (alX n sB tB) [.ref (c + 40)] (f, g, rfX n sB tB) (fun v h' => v = q_old (f (c + 60)) 21 ∧ h' = (f, g, rfX n sB tB)) := by
  refine q_Con.of RX0 [some (.ref (c + 40)), none] (by decide +kernel) rfl rfl (Nat.le_of_ble_eq_true rfl) (fun C ad E Z => ?_)
  have hac : alX n sB tB (c + 40) = true := alX_c hc
  have haw : alX n sB tB (c + 60) = true := alX_w hc
  have htc : tyX (c + 40) = .inr 0 := tyX_c (by omega)
  have htw : tyX (c + 60) = .inl (.int, 21) := tyX_w (by omega)
  have hrw : rfX n sB tB (c + 40) 9 = some (c + 60) := rfX_w (by omega)
  have L : ∀ k, k ≤ 21 → (q_old (f (c + 60)) k = q_old (f (c + 60)) 21) → gg C tyX 2 0 0 (alX n sB tB) ad 3 [some (.ref (c + 40)), some (.int (nI k - 1))] [] (f, g, rfX n sB tB) := by
    intro k
    induction k with
    | zero =>
      intro hk hq
      refine g_iload_1 E dX0_oldest_3 ?_
      refine g_if_lt (tgt := 24) E dX0_oldest_4 (by decide) (fun c_4 => ?_) (fun c_4 => ?_)
      · refine g_iconst (v := -1) E dX0_oldest_24 (by decide) ?_
        exact g_iret E Z dX0_oldest_25 ⟨_, rfl, ⟨hq, rfl⟩⟩
      · exact absurd q_m1 c_4
    | succ k ih =>
      intro hk hq
      rw [q_dn]
      refine g_iload_1 E dX0_oldest_3 ?_
      refine g_if_lt (tgt := 24) E dX0_oldest_4 (by decide) (fun c_4 => ?_) (fun c_4 => ?_)
      · exact absurd c_4 (nI_pos (by omega))
      · refine g_aload_0 E dX0_oldest_7 ?_
        refine g_getR E (by first | assumption | rfl) (by first | assumption | rfl) fl_X0_9 rfl (by first | assumption | rfl) dX0_oldest_8 ?_
        refine g_iload_1 E dX0_oldest_11 ?_
        refine g_iald E (by first | assumption | rfl) (by first | assumption | rfl) dX0_oldest_12 (q_ix_n (by omega)) ?_
        refine g_if_le (tgt := 18) E dX0_oldest_13 (by decide) (fun c_13 => ?_) (fun c_13 => ?_)
        · have k13 : ¬ 0 < f (c + 60) k := fun q => absurd c_13 (Int32.not_le.mpr q)
          refine g_iinc_1 (u := -1) E dX0_oldest_18 (by decide) (by decide) rfl ?_
          refine g_goto (tgt := 3) E dX0_oldest_21 (by decide) ?_
          rw [q_dm]
          exact ih (by omega) (by rw [← hq, q_old, if_neg k13])
        · have k13 : 0 < f (c + 60) k := Int32.not_le.mp c_13
          refine g_iload_1 E dX0_oldest_16 ?_
          exact g_iret E Z dX0_oldest_17 ⟨_, rfl, ⟨by rw [← hq, q_old, if_pos k13], rfl⟩⟩
  refine g_bipush (v := 20) E dX0_oldest_0 (by decide) ?_
  refine g_istore_1 E dX0_oldest_2 (by decide) rfl ?_
  exact L 21 (Nat.le_refl _) rfl
def q_mn (x y : Int32) : Int32 := if y < x then y else x
def q_mx (x y : Int32) : Int32 := if x < y then y else x
set_option maxHeartbeats 4000000 in
set_option maxRecDepth 100000 in
theorem c_X0_weightIfLit {n : Nat} {sB tB : Bool} {f : Nat → Nat → Int32} {g : Nat → Nat → Int64} (c : Nat) (hc : c < n) (h10 : n ≤ 10) : q_ConI yX0_weightIfLit cX0_weightIfLit 1 (some .int) 1 21 tyX (alX n sB tB) [.ref (c + 40)] (f, g, rfX n sB tB) (fun v h' => v = f (c + 40) 2 * q_mn (g (c + 40) 10 - g (c + 40) 11 - g (c + 40) 12).toInt32 (q_rate (f (c + 40) 4) (f (c + 40) 1)) ∧ h' = (f, g, rfX n sB tB)) := by
  refine q_Con.of RX0 [some (.ref (c + 40))] (by decide +kernel) rfl rfl (Nat.le_of_ble_eq_true rfl) (fun C ad E Z => ?_)
  have hac : alX n sB tB (c + 40) = true := alX_c hc
  have haw : alX n sB tB (c + 60) = true := alX_w hc
  have htc : tyX (c + 40) = .inr 0 := tyX_c (by omega)
  have htw : tyX (c + 60) = .inl (.int, 21) := tyX_w (by omega)
  have hrw : rfX n sB tB (c + 40) 9 = some (c + 60) := rfX_w (by omega)
  refine g_aload_0 E dX0_weightIfLit_0 ?_
  refine g_getI E (by first | assumption | rfl) (by first | assumption | rfl) fl_X0_22 rfl dX0_weightIfLit_1 ?_
  refine g_aload_0 E dX0_weightIfLit_4 ?_
  refine g_cVi0 E (c_X0_held c hc h10) cw_X0_41 (by decide) (by decide) (by first | assumption | rfl) (by first | assumption | rfl) (Nat.le_of_ble_eq_true rfl) dX0_weightIfLit_5 (fun v_5 h_5 hp => ?_)
  obtain ⟨rfl, rfl⟩ := hp
  refine g_aload_0 E dX0_weightIfLit_8 ?_
  refine g_cVi0 E (c_X0_rateNow c hc h10) cw_X0_45 (by decide) (by decide) (by first | assumption | rfl) (by first | assumption | rfl) (Nat.le_of_ble_eq_true rfl) dX0_weightIfLit_9 (fun v_9 h_9 hp => ?_)
  obtain ⟨rfl, rfl⟩ := hp
  refine g_cSi2 E (c_J9_min_7cf53 _ _) cw_X0_48 (by decide) (by decide) (Nat.le_of_ble_eq_true rfl) dX0_weightIfLit_12 (fun v_12 h_12 hp => ?_)
  obtain ⟨rfl, rfl⟩ := hp
  refine g_imul E dX0_weightIfLit_15 ?_
  exact g_iret E Z dX0_weightIfLit_16 ⟨_, rfl, ⟨rfl, rfl⟩⟩
set_option maxHeartbeats 4000000 in
set_option maxRecDepth 100000 in
theorem c_X0_takeAsked {n : Nat} {sB tB : Bool} {f : Nat → Nat → Int32} {g : Nat → Nat → Int64} (c : Nat) (hc : c < n) (h10 : n ≤ 10) : q_ConV yX0_takeAsked cX0_takeAsked 1 none 0 0 tyX (alX n sB tB) [.ref (c + 40)] (f, g, rfX n sB tB) (fun h' => h' = (q_up f (c + 60) 0 (f (c + 60) 0 + f (c + 40) 6), q_up g (c + 40) 10 (g (c + 40) 10 + (f (c + 40) 6).toInt64), rfX n sB tB)) := by
  refine q_Con.of RX0 [some (.ref (c + 40))] (by decide +kernel) rfl rfl (Nat.le_of_ble_eq_true rfl) (fun C ad E Z => ?_)
  have hac : alX n sB tB (c + 40) = true := alX_c hc
  have haw : alX n sB tB (c + 60) = true := alX_w hc
  have htc : tyX (c + 40) = .inr 0 := tyX_c (by omega)
  have htw : tyX (c + 60) = .inl (.int, 21) := tyX_w (by omega)
  have hrw : rfX n sB tB (c + 40) 9 = some (c + 60) := rfX_w (by omega)
  refine g_aload_0 E dX0_takeAsked_0 ?_
  refine g_getR E (by first | assumption | rfl) (by first | assumption | rfl) fl_X0_9 rfl (by first | assumption | rfl) dX0_takeAsked_1 ?_
  refine g_iconst (v := 0) E dX0_takeAsked_4 (by decide) ?_
  first | refine g_dupl E dX0_takeAsked_5 ?_ | refine g_dup2 E dX0_takeAsked_5 ?_
  refine g_iald E (by first | assumption | rfl) (by first | assumption | rfl) dX0_takeAsked_6 (q_ix_l (j := 0) (by decide)) ?_
  refine g_aload_0 E dX0_takeAsked_7 ?_
  refine g_getI E (by first | assumption | rfl) (by first | assumption | rfl) fl_X0_54 rfl dX0_takeAsked_8 ?_
  refine g_iadd E dX0_takeAsked_11 ?_
  refine g_iast E (by first | assumption | rfl) (by first | assumption | rfl) dX0_takeAsked_12 (q_ix_l (j := 0) (by decide)) ?_
  refine g_aload_0 E dX0_takeAsked_13 ?_
  first | refine g_dupi E dX0_takeAsked_14 ?_ | refine g_dupr E dX0_takeAsked_14 ?_
  refine g_getL E (by first | assumption | rfl) (by first | assumption | rfl) fl_X0_31 rfl dX0_takeAsked_15 ?_
  refine g_aload_0 E dX0_takeAsked_18 ?_
  refine g_getI E (by first | assumption | rfl) (by first | assumption | rfl) fl_X0_54 rfl dX0_takeAsked_19 ?_
  refine g_i2l E dX0_takeAsked_22 ?_
  refine g_ladd E dX0_takeAsked_23 ?_
  refine g_putL E (by first | assumption | rfl) (by first | assumption | rfl) fw_X0_31 rfl dX0_takeAsked_24 ?_
  exact g_vret E Z dX0_takeAsked_27 ⟨rfl, (by rw [q_up_ne (show c + 40 ≠ c + 60 by omega)])⟩
set_option maxHeartbeats 4000000 in
set_option maxRecDepth 100000 in
theorem c_X0_markLight {n : Nat} {sB tB : Bool} {f : Nat → Nat → Int32} {g : Nat → Nat → Int64} (c : Nat) (hc : c < n) (h10 : n ≤ 10) (u : Int32) : q_ConV yX0_markLight cX0_markLight 2 none 1 21 tyX (alX n sB tB) [.ref (c + 40), .int u] (f, g, rfX n sB tB) (fun h' => (u = 0 ∧ h' = (q_up (q_up f (c + 40) 13 (f (c + 40) 13 + 1)) (c + 40) 14 (q_mx (f (c + 40) 14) (f (c + 40) 13 + 1)), g, rfX n sB tB)) ∨ (¬ u = 0 ∧ h' = (q_up (q_up f (c + 40) 13 0) (c + 40) 15 (f (c + 40) 15 + 1), g, rfX n sB tB))) := by
  refine q_Con.of RX0 [some (.ref (c + 40)), some (.int u)] (by decide +kernel) rfl rfl (Nat.le_of_ble_eq_true rfl) (fun C ad E Z => ?_)
  have hac : alX n sB tB (c + 40) = true := alX_c hc
  have haw : alX n sB tB (c + 60) = true := alX_w hc
  have htc : tyX (c + 40) = .inr 0 := tyX_c (by omega)
  have htw : tyX (c + 60) = .inl (.int, 21) := tyX_w (by omega)
  have hrw : rfX n sB tB (c + 40) 9 = some (c + 60) := rfX_w (by omega)
  refine g_iload_1 E dX0_markLight_0 ?_
  refine g_if_eq (tgt := 22) E dX0_markLight_1 (by decide) (fun c_1 => ?_) (fun c_1 => ?_)
  · refine g_aload_0 E dX0_markLight_22 ?_
    first | refine g_dupi E dX0_markLight_23 ?_ | refine g_dupr E dX0_markLight_23 ?_
    refine g_getI E (by first | assumption | rfl) (by first | assumption | rfl) fl_X0_57 rfl dX0_markLight_24 ?_
    refine g_iconst (v := 1) E dX0_markLight_27 (by decide) ?_
    refine g_iadd E dX0_markLight_28 ?_
    refine g_putI E (by first | assumption | rfl) (by first | assumption | rfl) fw_X0_57 rfl dX0_markLight_29 ?_
    refine g_aload_0 E dX0_markLight_32 ?_
    refine g_aload_0 E dX0_markLight_33 ?_
    refine g_getI E (by first | assumption | rfl) (by first | assumption | rfl) fl_X0_63 rfl dX0_markLight_34 ?_
    refine g_aload_0 E dX0_markLight_37 ?_
    refine g_getI E (by first | assumption | rfl) (by first | assumption | rfl) fl_X0_57 rfl dX0_markLight_38 ?_
    refine g_cSi2 E (c_J9_max_7cf53 _ _) cw_X0_66 (by decide) (by decide) (Nat.le_of_ble_eq_true rfl) dX0_markLight_41 (fun v_41 h_41 hp => ?_)
    obtain ⟨rfl, rfl⟩ := hp
    refine g_putI E (by first | assumption | rfl) (by first | assumption | rfl) fw_X0_63 rfl dX0_markLight_44 ?_
    exact g_vret E Z dX0_markLight_47 ⟨rfl, (by first | exact Or.inr ⟨c_1, by rw [q_upz (show 15 ≠ 13 by decide)]⟩ | exact Or.inl ⟨c_1, by rw [q_upz (show 14 ≠ 13 by decide), q_ups]; rfl⟩)⟩
  · refine g_aload_0 E dX0_markLight_4 ?_
    refine g_iconst (v := 0) E dX0_markLight_5 (by decide) ?_
    refine g_putI E (by first | assumption | rfl) (by first | assumption | rfl) fw_X0_57 rfl dX0_markLight_6 ?_
    refine g_aload_0 E dX0_markLight_9 ?_
    first | refine g_dupi E dX0_markLight_10 ?_ | refine g_dupr E dX0_markLight_10 ?_
    refine g_getI E (by first | assumption | rfl) (by first | assumption | rfl) fl_X0_60 rfl dX0_markLight_11 ?_
    refine g_iconst (v := 1) E dX0_markLight_14 (by decide) ?_
    refine g_iadd E dX0_markLight_15 ?_
    refine g_putI E (by first | assumption | rfl) (by first | assumption | rfl) fw_X0_60 rfl dX0_markLight_16 ?_
    refine g_goto (tgt := 47) E dX0_markLight_19 (by decide) ?_
    exact g_vret E Z dX0_markLight_47 ⟨rfl, (by first | exact Or.inr ⟨c_1, by rw [q_upz (show 15 ≠ 13 by decide)]⟩ | exact Or.inl ⟨c_1, by rw [q_upz (show 14 ≠ 13 by decide), q_ups]; rfl⟩)⟩
set_option maxHeartbeats 4000000 in
set_option maxRecDepth 100000 in
theorem c_X0_tellUnits {n : Nat} {sB tB : Bool} {f : Nat → Nat → Int32} {g : Nat → Nat → Int64} (c : Nat) (hc : c < n) (h10 : n ≤ 10) (x : Int32) : q_ConL yX0_tellUnits cX0_tellUnits 2 (some .long) 0 0 tyX (alX n sB tB) [.ref (c + 40), .int x] (f, g, rfX n sB tB) (fun v h' => v = (if x = 0 then g (c + 40) 10 else if x = 1 then g (c + 40) 11 else if x = 2 then g (c + 40) 12 else -2) ∧ h' = (f, g, rfX n sB tB)) := by
  refine q_Con.of RX0 [some (.ref (c + 40)), some (.int x)] (by decide +kernel) rfl rfl (Nat.le_of_ble_eq_true rfl) (fun C ad E Z => ?_)
  have hac : alX n sB tB (c + 40) = true := alX_c hc
  have haw : alX n sB tB (c + 60) = true := alX_w hc
  have htc : tyX (c + 40) = .inr 0 := tyX_c (by omega)
  have htw : tyX (c + 60) = .inl (.int, 21) := tyX_w (by omega)
  have hrw : rfX n sB tB (c + 40) 9 = some (c + 60) := rfX_w (by omega)
  refine g_iload_1 E dX0_tellUnits_0 ?_
  by_cases e_0 : x = 0
  · subst e_0
    refine g_tableIn (off := 27) (tgt := 28) E dX0_tellUnits_1 (by decide) (by decide) (by decide) (by decide) ?_
    refine g_aload_0 E dX0_tellUnits_28 ?_
    refine g_getL E (by first | assumption | rfl) (by first | assumption | rfl) fl_X0_31 rfl dX0_tellUnits_29 ?_
    exact g_lret E Z dX0_tellUnits_32 ⟨_, rfl, ⟨by first | (simp; done) | (simp [*]; done), rfl⟩⟩
  by_cases e_1 : x = 1
  · subst e_1
    refine g_tableIn (off := 32) (tgt := 33) E dX0_tellUnits_1 (by decide) (by decide) (by decide) (by decide) ?_
    refine g_aload_0 E dX0_tellUnits_33 ?_
    refine g_getL E (by first | assumption | rfl) (by first | assumption | rfl) fl_X0_35 rfl dX0_tellUnits_34 ?_
    exact g_lret E Z dX0_tellUnits_37 ⟨_, rfl, ⟨by first | (simp; done) | (simp [*]; done), rfl⟩⟩
  by_cases e_2 : x = 2
  · subst e_2
    refine g_tableIn (off := 37) (tgt := 38) E dX0_tellUnits_1 (by decide) (by decide) (by decide) (by decide) ?_
    refine g_aload_0 E dX0_tellUnits_38 ?_
    refine g_getL E (by first | assumption | rfl) (by first | assumption | rfl) fl_X0_38 rfl dX0_tellUnits_39 ?_
    exact g_lret E Z dX0_tellUnits_42 ⟨_, rfl, ⟨by first | (simp; done) | (simp [*]; done), rfl⟩⟩
  have e_o : x.toInt < 0 ∨ 2 < x.toInt := by
    simp only [q_ieq, Int32.reduceToInt, Int32.toInt_zero] at e_0 e_1 e_2
    omega
  refine g_tableOut (tgt := 43) E dX0_tellUnits_1 e_o (by decide) ?_
  refine g_ldc2 E kw_X0_84 dX0_tellUnits_43 ?_
  exact g_lret E Z dX0_tellUnits_46 ⟨_, rfl, ⟨by first | (simp; done) | (simp [*]; done), rfl⟩⟩
def q_celX (f : Nat → Nat → Int32) (g : Nat → Nat → Int64) (c : Nat) (x : Int32) : Int32 := if x = 0 then f (c + 40) 0 * (2 + f (c + 40) 4) / 2 else if x = 1 then q_rate (f (c + 40) 4) (f (c + 40) 1) else if x = 2 then f (c + 40) 3 else if x = 3 then f (c + 40) 7 else if x = 4 then f (c + 40) 5 else if x = 5 then f (c + 40) 6 else if x = 6 then (g (c + 40) 10 - g (c + 40) 11 - g (c + 40) 12).toInt32 else if x = 7 then q_old (f (c + 60)) 21 else if x = 8 then f (c + 40) 14 else if x = 9 then f (c + 40) 15 else if x = 10 then f (c + 40) 8 else if x = 11 then f (c + 40) 4 else if x = 12 then f (c + 40) 2 else -2
set_option maxHeartbeats 4000000 in
set_option maxRecDepth 100000 in
theorem c_X0_tell {n : Nat} {sB tB : Bool} {f : Nat → Nat → Int32} {g : Nat → Nat → Int64} (c : Nat) (hc : c < n) (h10 : n ≤ 10) (x : Int32) : q_ConI yX0_tell cX0_tell 2 (some .int) 1 21 tyX (alX n sB tB) [.ref (c + 40), .int x] (f, g, rfX n sB tB) (fun v h' => v = q_celX f g c x ∧ h' = (f, g, rfX n sB tB)) := by
  refine q_Con.of RX0 [some (.ref (c + 40)), some (.int x)] (by decide +kernel) rfl rfl (Nat.le_of_ble_eq_true rfl) (fun C ad E Z => ?_)
  have hac : alX n sB tB (c + 40) = true := alX_c hc
  have haw : alX n sB tB (c + 60) = true := alX_w hc
  have htc : tyX (c + 40) = .inr 0 := tyX_c (by omega)
  have htw : tyX (c + 60) = .inl (.int, 21) := tyX_w (by omega)
  have hrw : rfX n sB tB (c + 40) 9 = some (c + 60) := rfX_w (by omega)
  refine g_iload_1 E dX0_tell_0 ?_
  by_cases e_0 : x = 0
  · subst e_0
    refine g_tableIn (off := 67) (tgt := 68) E dX0_tell_1 (by decide) (by decide) (by decide) (by decide) ?_
    refine g_aload_0 E dX0_tell_68 ?_
    refine g_cVi0 E (c_X0_powerNow c hc h10) cw_X0_69 (by decide) (by decide) (by first | assumption | rfl) (by first | assumption | rfl) (Nat.le_of_ble_eq_true rfl) dX0_tell_69 (fun v_69 h_69 hp => ?_)
    obtain ⟨rfl, rfl⟩ := hp
    exact g_iret E Z dX0_tell_72 ⟨_, rfl, ⟨by unfold q_celX; first | (simp; done) | (simp [*]; done), rfl⟩⟩
  by_cases e_1 : x = 1
  · subst e_1
    refine g_tableIn (off := 72) (tgt := 73) E dX0_tell_1 (by decide) (by decide) (by decide) (by decide) ?_
    refine g_aload_0 E dX0_tell_73 ?_
    refine g_cVi0 E (c_X0_rateNow c hc h10) cw_X0_45 (by decide) (by decide) (by first | assumption | rfl) (by first | assumption | rfl) (Nat.le_of_ble_eq_true rfl) dX0_tell_74 (fun v_74 h_74 hp => ?_)
    obtain ⟨rfl, rfl⟩ := hp
    exact g_iret E Z dX0_tell_77 ⟨_, rfl, ⟨by unfold q_celX; first | (simp; done) | (simp [*]; done), rfl⟩⟩
  by_cases e_2 : x = 2
  · subst e_2
    refine g_tableIn (off := 77) (tgt := 78) E dX0_tell_1 (by decide) (by decide) (by decide) (by decide) ?_
    refine g_aload_0 E dX0_tell_78 ?_
    refine g_getI E (by first | assumption | rfl) (by first | assumption | rfl) fl_X0_25 rfl dX0_tell_79 ?_
    exact g_iret E Z dX0_tell_82 ⟨_, rfl, ⟨by unfold q_celX; first | (simp; done) | (simp [*]; done), rfl⟩⟩
  by_cases e_3 : x = 3
  · subst e_3
    refine g_tableIn (off := 82) (tgt := 83) E dX0_tell_1 (by decide) (by decide) (by decide) (by decide) ?_
    refine g_aload_0 E dX0_tell_83 ?_
    refine g_getI E (by first | assumption | rfl) (by first | assumption | rfl) fl_X0_72 rfl dX0_tell_84 ?_
    exact g_iret E Z dX0_tell_87 ⟨_, rfl, ⟨by unfold q_celX; first | (simp; done) | (simp [*]; done), rfl⟩⟩
  by_cases e_4 : x = 4
  · subst e_4
    refine g_tableIn (off := 87) (tgt := 88) E dX0_tell_1 (by decide) (by decide) (by decide) (by decide) ?_
    refine g_aload_0 E dX0_tell_88 ?_
    refine g_getI E (by first | assumption | rfl) (by first | assumption | rfl) fl_X0_75 rfl dX0_tell_89 ?_
    exact g_iret E Z dX0_tell_92 ⟨_, rfl, ⟨by unfold q_celX; first | (simp; done) | (simp [*]; done), rfl⟩⟩
  by_cases e_5 : x = 5
  · subst e_5
    refine g_tableIn (off := 92) (tgt := 93) E dX0_tell_1 (by decide) (by decide) (by decide) (by decide) ?_
    refine g_aload_0 E dX0_tell_93 ?_
    refine g_getI E (by first | assumption | rfl) (by first | assumption | rfl) fl_X0_54 rfl dX0_tell_94 ?_
    exact g_iret E Z dX0_tell_97 ⟨_, rfl, ⟨by unfold q_celX; first | (simp; done) | (simp [*]; done), rfl⟩⟩
  by_cases e_6 : x = 6
  · subst e_6
    refine g_tableIn (off := 97) (tgt := 98) E dX0_tell_1 (by decide) (by decide) (by decide) (by decide) ?_
    refine g_aload_0 E dX0_tell_98 ?_
    refine g_cVi0 E (c_X0_held c hc h10) cw_X0_41 (by decide) (by decide) (by first | assumption | rfl) (by first | assumption | rfl) (Nat.le_of_ble_eq_true rfl) dX0_tell_99 (fun v_99 h_99 hp => ?_)
    obtain ⟨rfl, rfl⟩ := hp
    exact g_iret E Z dX0_tell_102 ⟨_, rfl, ⟨by unfold q_celX; first | (simp; done) | (simp [*]; done), rfl⟩⟩
  by_cases e_7 : x = 7
  · subst e_7
    refine g_tableIn (off := 102) (tgt := 103) E dX0_tell_1 (by decide) (by decide) (by decide) (by decide) ?_
    refine g_aload_0 E dX0_tell_103 ?_
    refine g_cVi0 E (c_X0_oldest c hc h10) cw_X0_78 (by decide) (by decide) (by first | assumption | rfl) (by first | assumption | rfl) (Nat.le_of_ble_eq_true rfl) dX0_tell_104 (fun v_104 h_104 hp => ?_)
    obtain ⟨rfl, rfl⟩ := hp
    exact g_iret E Z dX0_tell_107 ⟨_, rfl, ⟨by unfold q_celX; first | (simp; done) | (simp [*]; done), rfl⟩⟩
  by_cases e_8 : x = 8
  · subst e_8
    refine g_tableIn (off := 107) (tgt := 108) E dX0_tell_1 (by decide) (by decide) (by decide) (by decide) ?_
    refine g_aload_0 E dX0_tell_108 ?_
    refine g_getI E (by first | assumption | rfl) (by first | assumption | rfl) fl_X0_63 rfl dX0_tell_109 ?_
    exact g_iret E Z dX0_tell_112 ⟨_, rfl, ⟨by unfold q_celX; first | (simp; done) | (simp [*]; done), rfl⟩⟩
  by_cases e_9 : x = 9
  · subst e_9
    refine g_tableIn (off := 112) (tgt := 113) E dX0_tell_1 (by decide) (by decide) (by decide) (by decide) ?_
    refine g_aload_0 E dX0_tell_113 ?_
    refine g_getI E (by first | assumption | rfl) (by first | assumption | rfl) fl_X0_60 rfl dX0_tell_114 ?_
    exact g_iret E Z dX0_tell_117 ⟨_, rfl, ⟨by unfold q_celX; first | (simp; done) | (simp [*]; done), rfl⟩⟩
  by_cases e_10 : x = 10
  · subst e_10
    refine g_tableIn (off := 117) (tgt := 118) E dX0_tell_1 (by decide) (by decide) (by decide) (by decide) ?_
    refine g_aload_0 E dX0_tell_118 ?_
    refine g_getI E (by first | assumption | rfl) (by first | assumption | rfl) fl_X0_81 rfl dX0_tell_119 ?_
    exact g_iret E Z dX0_tell_122 ⟨_, rfl, ⟨by unfold q_celX; first | (simp; done) | (simp [*]; done), rfl⟩⟩
  by_cases e_11 : x = 11
  · subst e_11
    refine g_tableIn (off := 122) (tgt := 123) E dX0_tell_1 (by decide) (by decide) (by decide) (by decide) ?_
    refine g_aload_0 E dX0_tell_123 ?_
    refine g_getI E (by first | assumption | rfl) (by first | assumption | rfl) fl_X0_28 rfl dX0_tell_124 ?_
    exact g_iret E Z dX0_tell_127 ⟨_, rfl, ⟨by unfold q_celX; first | (simp; done) | (simp [*]; done), rfl⟩⟩
  by_cases e_12 : x = 12
  · subst e_12
    refine g_tableIn (off := 127) (tgt := 128) E dX0_tell_1 (by decide) (by decide) (by decide) (by decide) ?_
    refine g_aload_0 E dX0_tell_128 ?_
    refine g_getI E (by first | assumption | rfl) (by first | assumption | rfl) fl_X0_22 rfl dX0_tell_129 ?_
    exact g_iret E Z dX0_tell_132 ⟨_, rfl, ⟨by unfold q_celX; first | (simp; done) | (simp [*]; done), rfl⟩⟩
  have e_o : x.toInt < 0 ∨ 12 < x.toInt := by
    simp only [q_ieq, Int32.reduceToInt, Int32.toInt_zero] at e_0 e_1 e_2 e_3 e_4 e_5 e_6 e_7 e_8 e_9 e_10 e_11 e_12
    omega
  refine g_tableOut (tgt := 133) E dX0_tell_1 e_o (by decide) ?_
  refine g_bipush (v := -2) E dX0_tell_133 (by decide) ?_
  exact g_iret E Z dX0_tell_135 ⟨_, rfl, ⟨by unfold q_celX; first | (simp; done) | (simp [*]; done), rfl⟩⟩
/-- units sent, the oldest first: ages below k, so many left; the row, what was sent -/
def q_snd : Nat → Int32 → (Nat → Int32) → Int64 → (Nat → Int32) × Int64
  | 0, _, a, s => (a, s)
  | k + 1, l, a, s => if l ≤ 0 then (a, s) else q_snd k (l - q_mn l (a k)) (va_up a k (a k - q_mn l (a k))) (s + (q_mn l (a k)).toInt64)
set_option maxHeartbeats 4000000 in
set_option maxRecDepth 100000 in
theorem c_X0_send {n : Nat} {sB tB : Bool} {f : Nat → Nat → Int32} {g : Nat → Nat → Int64} (c : Nat) (hc : c < n) (h10 : n ≤ 10) : q_ConV yX0_send cX0_send 4 none 1 21 tyX (alX n sB tB) [.ref (c + 40)] (f, g, rfX n sB tB) (fun h' => h' = (va_up f (c + 60) (q_snd 21 (q_rate (f (c + 40) 4) (f (c + 40) 1)) (f (c + 60)) (g (c + 40) 11)).1, q_up g (c + 40) 11 (q_snd 21 (q_rate (f (c + 40) 4) (f (c + 40) 1)) (f (c + 60)) (g (c + 40) 11)).2, rfX n sB tB)) := by
  refine q_Con.of RX0 [some (.ref (c + 40)), none, none, none] (by decide +kernel) rfl rfl (Nat.le_of_ble_eq_true rfl) (fun C ad E Z => ?_)
  have hac : alX n sB tB (c + 40) = true := alX_c hc
  have haw : alX n sB tB (c + 60) = true := alX_w hc
  have htc : tyX (c + 40) = .inr 0 := tyX_c (by omega)
  have htw : tyX (c + 60) = .inl (.int, 21) := tyX_w (by omega)
  have hrw : rfX n sB tB (c + 40) 9 = some (c + 60) := rfX_w (by omega)
  have L : ∀ k, k ≤ 21 → ∀ (l : Int32) (a : Nat → Int32) (s : Int64) (x3 : Option Value), q_snd k l a s = q_snd 21 (q_rate (f (c + 40) 4) (f (c + 40) 1)) (f (c + 60)) (g (c + 40) 11) → gg C tyX 4 0 0 (alX n sB tB) ad 8 [some (.ref (c + 40)), some (.int l), some (.int (nI k - 1)), x3] [] (va_up f (c + 60) a, q_up g (c + 40) 11 s, rfX n sB tB) := by
    intro k
    induction k with
    | zero =>
      intro hk l a s x3 hq
      refine g_iload_2 E dX0_send_8 ?_
      refine g_if_lt (tgt := 58) E dX0_send_9 (by decide) (fun c_9 => ?_) (fun c_9 => ?_)
      · exact g_vret E Z dX0_send_58 ⟨rfl, (by rw [← hq]; rfl)⟩
      · exact absurd q_m1 c_9
    | succ k ih =>
      intro hk l a s x3 hq
      rw [q_dn]
      refine g_iload_2 E dX0_send_8 ?_
      refine g_if_lt (tgt := 58) E dX0_send_9 (by decide) (fun c_9 => ?_) (fun c_9 => ?_)
      · exact absurd c_9 (nI_pos (by omega))
      · refine g_iload_1 E dX0_send_12 ?_
        refine g_if_le (tgt := 58) E dX0_send_13 (by decide) (fun c_13 => ?_) (fun c_13 => ?_)
        · exact g_vret E Z dX0_send_58 ⟨rfl, (by rw [← hq, q_snd, if_pos c_13])⟩
        · refine g_iload_1 E dX0_send_16 ?_
          refine g_aload_0 E dX0_send_17 ?_
          refine g_getR E (by first | assumption | rfl) (by first | assumption | rfl) fl_X0_9 rfl (by first | assumption | rfl) dX0_send_18 ?_
          refine g_iload_2 E dX0_send_21 ?_
          refine g_iald E (by first | assumption | rfl) (by first | assumption | rfl) dX0_send_22 (q_ix_n (by omega)) ?_
          refine g_cSi2 E (c_J9_min_7cf53 _ _) cw_X0_48 (by decide) (by decide) (Nat.le_of_ble_eq_true rfl) dX0_send_23 (fun v_23 h_23 hp => ?_)
          obtain ⟨rfl, rfl⟩ := hp
          refine g_istore_3 E dX0_send_26 (by decide) rfl ?_
          refine g_aload_0 E dX0_send_27 ?_
          refine g_getR E (by first | assumption | rfl) (by first | assumption | rfl) fl_X0_9 rfl (by first | assumption | rfl) dX0_send_28 ?_
          refine g_iload_2 E dX0_send_31 ?_
          first | refine g_dupl E dX0_send_32 ?_ | refine g_dup2 E dX0_send_32 ?_
          refine g_iald E (by first | assumption | rfl) (by first | assumption | rfl) dX0_send_33 (q_ix_n (by omega)) ?_
          refine g_iload_3 E dX0_send_34 ?_
          refine g_isub E dX0_send_35 ?_
          refine g_iast E (by first | assumption | rfl) (by first | assumption | rfl) dX0_send_36 (q_ix_n (by omega)) ?_
          refine g_iload_1 E dX0_send_37 ?_
          refine g_iload_3 E dX0_send_38 ?_
          refine g_isub E dX0_send_39 ?_
          refine g_istore_1 E dX0_send_40 (by decide) rfl ?_
          refine g_aload_0 E dX0_send_41 ?_
          first | refine g_dupi E dX0_send_42 ?_ | refine g_dupr E dX0_send_42 ?_
          refine g_getL E (by first | assumption | rfl) (by first | assumption | rfl) fl_X0_35 rfl dX0_send_43 ?_
          refine g_iload_3 E dX0_send_46 ?_
          refine g_i2l E dX0_send_47 ?_
          refine g_ladd E dX0_send_48 ?_
          refine g_putL E (by first | assumption | rfl) (by first | assumption | rfl) fw_X0_35 rfl dX0_send_49 ?_
          refine g_iinc_2 (u := -1) E dX0_send_52 (by decide) (by decide) rfl ?_
          refine g_goto (tgt := 8) E dX0_send_55 (by decide) ?_
          rw [q_dm, q_upr, q_ups, q_up_va (f := q_up g _ _ _), q_up_eq, va_up_u, q_up_va, va_up_u, va_up_s]
          rw [← q_up_va]
          exact ih (by omega) _ _ _ _ (by rw [← hq, q_snd, if_neg c_13]; rfl)
  refine g_aload_0 E dX0_send_0 ?_
  refine g_cVi0 E (c_X0_rateNow c hc h10) cw_X0_45 (by decide) (by decide) (by first | assumption | rfl) (by first | assumption | rfl) (Nat.le_of_ble_eq_true rfl) dX0_send_1 (fun v_1 h_1 hp => ?_)
  obtain ⟨rfl, rfl⟩ := hp
  refine g_istore_1 E dX0_send_4 (by decide) rfl ?_
  refine g_bipush (v := 20) E dX0_send_5 (by decide) ?_
  refine g_istore_2 E dX0_send_7 (by decide) rfl ?_
  have e := L 21 (Nat.le_refl _) (q_rate (f (c + 40) 4) (f (c + 40) 1)) (f (c + 60)) (g (c + 40) 11) none rfl
  rw [va_up_id, q_up_same rfl] at e
  exact e
def q_shf (a : Nat → Int32) (k : Nat) : Nat → Int32 := fun j => if k < j ∧ j ≤ 20 then a (j - 1) else a j
def q_sh1 (a : Nat → Int32) : Nat → Int32 := fun j => if j = 0 then 0 else if j ≤ 20 then a (j - 1) else a j
def q_zr (b : Nat → Int32) (d : Nat) : Nat → Int32 := fun j => if 20 - d < j ∧ j ≤ 20 then 0 else b j
def q_los (b : Nat → Int32) (x : Int64) : Nat → Int64
  | 0 => x
  | d + 1 => q_los b x d + (b (20 - d)).toInt64
theorem q_shf_s (a : Nat → Int32) {k : Nat} (h : k < 20) : va_up (q_shf a (k + 1)) (k + 1) (q_shf a (k + 1) k) = q_shf a k := by
  funext j
  by_cases e : j = k + 1
  · subst e
    rw [va_up_s]
    unfold q_shf
    rw [if_neg (by omega), if_pos (by omega)]
    rfl
  · rw [va_up_n e]
    unfold q_shf
    by_cases e2 : k < j ∧ j ≤ 20
    · rw [if_pos e2, if_pos (by omega)]
    · rw [if_neg e2, if_neg (by omega)]
theorem q_shf_0 (a : Nat → Int32) : va_up (q_shf a 0) 0 0 = q_sh1 a := by
  funext j
  by_cases e : j = 0
  · subst e; rw [va_up_s]; rfl
  · rw [va_up_n e]
    unfold q_shf q_sh1
    rw [if_neg e]
    by_cases e2 : j ≤ 20
    · rw [if_pos (by omega), if_pos e2]
    · rw [if_neg (by omega), if_neg e2]
theorem q_shf_20 (a : Nat → Int32) : q_shf a 20 = a := by
  funext j
  unfold q_shf
  rw [if_neg (by omega)]
theorem q_zr_0 (b : Nat → Int32) : q_zr b 0 = b := by
  funext j
  unfold q_zr
  rw [if_neg (by omega)]
theorem q_zr_s (b : Nat → Int32) {d : Nat} (h : d < 20) : va_up (q_zr b d) (20 - d) 0 = q_zr b (d + 1) := by
  funext j
  by_cases e : j = 20 - d
  · subst e; rw [va_up_s]; unfold q_zr
    rw [if_pos (by omega)]
  · rw [va_up_n e]
    unfold q_zr
    by_cases e2 : 20 - d < j ∧ j ≤ 20
    · rw [if_pos e2, if_pos (by omega)]
    · rw [if_neg e2, if_neg (by omega)]
theorem q_zr_a (b : Nat → Int32) (d : Nat) : q_zr b d (20 - d) = b (20 - d) := by
  unfold q_zr
  rw [if_neg (by omega)]
set_option maxHeartbeats 4000000 in
set_option maxRecDepth 100000 in
theorem c_X0_growOlder {n : Nat} {sB tB : Bool} {f : Nat → Nat → Int32} {g : Nat → Nat → Int64} (c : Nat) (hc : c < n) (h10 : n ≤ 10) (L : Nat) (hL1 : 1 ≤ L) (hL2 : L ≤ 20) : q_ConV yX0_growOlder cX0_growOlder 3 none 0 0 tyX (alX n sB tB) [.ref (c + 40), .int (nI L)] (f, g, rfX n sB tB) (fun h' => h' = (va_up f (c + 60) (q_zr (q_sh1 (f (c + 60))) (21 - L)), q_up g (c + 40) 12 (q_los (q_sh1 (f (c + 60))) (g (c + 40) 12) (21 - L)), rfX n sB tB)) := by
  refine q_Con.of RX0 [some (.ref (c + 40)), some (.int (nI L)), none] (by decide +kernel) rfl rfl (Nat.le_of_ble_eq_true rfl) (fun C ad E Z => ?_)
  have hac : alX n sB tB (c + 40) = true := alX_c hc
  have haw : alX n sB tB (c + 60) = true := alX_w hc
  have htc : tyX (c + 40) = .inr 0 := tyX_c (by omega)
  have htw : tyX (c + 60) = .inl (.int, 21) := tyX_w (by omega)
  have hrw : rfX n sB tB (c + 40) 9 = some (c + 60) := rfX_w (by omega)
  have L2 : ∀ d, d ≤ 21 - L → gg C tyX 3 0 0 (alX n sB tB) ad 37 [some (.ref (c + 40)), some (.int (nI L)), some (.int (nI (20 - d)))] [] (va_up f (c + 60) (q_zr (q_sh1 (f (c + 60))) d), q_up g (c + 40) 12 (q_los (q_sh1 (f (c + 60))) (g (c + 40) 12) d), rfX n sB tB) := by
    refine q_loop (21 - L) (fun d hd ih => ?_)
    refine g_iload_2 E dX0_growOlder_37 ?_
    refine g_iload_1 E dX0_growOlder_38 ?_
    refine g_icmp_lt (tgt := 75) E dX0_growOlder_39 (by decide) (fun c_39 => ?_) (fun c_39 => ?_)
    · have e39 : 20 - d < L := (nI_ltI (by omega) (by omega)).mp c_39
      exact g_vret E Z dX0_growOlder_75 ⟨rfl, (by rw [show d = 21 - L by omega])⟩
    · have e39 : ¬ 20 - d < L := fun q => c_39 ((nI_ltI (by omega) (by omega)).mpr q)
      refine g_iload_2 E dX0_growOlder_42 ?_
      refine g_if_lt (tgt := 75) E dX0_growOlder_43 (by decide) (fun c_43 => ?_) (fun c_43 => ?_)
      · exact absurd c_43 (nI_pos (by omega))
      · refine g_aload_0 E dX0_growOlder_46 ?_
        first | refine g_dupi E dX0_growOlder_47 ?_ | refine g_dupr E dX0_growOlder_47 ?_
        refine g_getL E (by first | assumption | rfl) (by first | assumption | rfl) fl_X0_38 rfl dX0_growOlder_48 ?_
        refine g_aload_0 E dX0_growOlder_51 ?_
        refine g_getR E (by first | assumption | rfl) (by first | assumption | rfl) fl_X0_9 rfl (by first | assumption | rfl) dX0_growOlder_52 ?_
        refine g_iload_2 E dX0_growOlder_55 ?_
        refine g_iald E (by first | assumption | rfl) (by first | assumption | rfl) dX0_growOlder_56 (q_ix_n (by omega)) ?_
        refine g_i2l E dX0_growOlder_57 ?_
        refine g_ladd E dX0_growOlder_58 ?_
        refine g_putL E (by first | assumption | rfl) (by first | assumption | rfl) fw_X0_38 rfl dX0_growOlder_59 ?_
        refine g_aload_0 E dX0_growOlder_62 ?_
        refine g_getR E (by first | assumption | rfl) (by first | assumption | rfl) fl_X0_9 rfl (by first | assumption | rfl) dX0_growOlder_63 ?_
        refine g_iload_2 E dX0_growOlder_66 ?_
        refine g_iconst (v := 0) E dX0_growOlder_67 (by decide) ?_
        refine g_iast E (by first | assumption | rfl) (by first | assumption | rfl) dX0_growOlder_68 (q_ix_n (by omega)) ?_
        refine g_iinc_2 (u := -1) E dX0_growOlder_69 (by decide) (by decide) rfl ?_
        refine g_goto (tgt := 37) E dX0_growOlder_72 (by decide) ?_
        rw [q_dm, show nI (20 - d) - 1 = nI (20 - (d + 1)) from by rw [show 20 - d = (20 - (d + 1)) + 1 by omega, q_dn], q_upr, va_up_s, q_zr_a, q_zr_s _ (by omega), q_up_va (f := q_up g _ _ _), q_up_eq, va_up_u, va_up_s, q_up_va, va_up_u]
        rw [← q_up_va]
        exact ih (by omega)
  have L1 : ∀ k, k ≤ 20 → gg C tyX 3 0 0 (alX n sB tB) ad 3 [some (.ref (c + 40)), some (.int (nI L)), some (.int (nI k))] [] (va_up f (c + 60) (q_shf (f (c + 60)) k), g, rfX n sB tB) := by
    intro k
    induction k with
    | zero =>
      intro hk
      refine g_iload_2 E dX0_growOlder_3 ?_
      refine g_if_le (tgt := 27) E dX0_growOlder_4 (by decide) (fun c_4 => ?_) (fun c_4 => ?_)
      · refine g_aload_0 E dX0_growOlder_27 ?_
        refine g_getR E (by first | assumption | rfl) (by first | assumption | rfl) fl_X0_9 rfl (by first | assumption | rfl) dX0_growOlder_28 ?_
        refine g_iconst (v := 0) E dX0_growOlder_31 (by decide) ?_
        refine g_iconst (v := 0) E dX0_growOlder_32 (by decide) ?_
        refine g_iast E (by first | assumption | rfl) (by first | assumption | rfl) dX0_growOlder_33 (q_ix_l (j := 0) (by decide)) ?_
        refine g_bipush (v := 20) E dX0_growOlder_34 (by decide) ?_
        refine g_istore_2 E dX0_growOlder_36 (by decide) rfl ?_
        have e := L2 0 (Nat.zero_le _)
        rw [q_zr_0] at e
        rw [q_upr, q_shf_0]
        rw [show q_up g (c + 40) 12 (q_los (q_sh1 (f (c + 60))) (g (c + 40) 12) 0) = g from q_up_same rfl] at e
        exact e
      · exact absurd (by decide) c_4
    | succ k ih =>
      intro hk
      refine g_iload_2 E dX0_growOlder_3 ?_
      refine g_if_le (tgt := 27) E dX0_growOlder_4 (by decide) (fun c_4 => ?_) (fun c_4 => ?_)
      · exact absurd c_4 (nI_nle (by omega) (by omega))
      · refine g_aload_0 E dX0_growOlder_7 ?_
        refine g_getR E (by first | assumption | rfl) (by first | assumption | rfl) fl_X0_9 rfl (by first | assumption | rfl) dX0_growOlder_8 ?_
        refine g_iload_2 E dX0_growOlder_11 ?_
        refine g_aload_0 E dX0_growOlder_12 ?_
        refine g_getR E (by first | assumption | rfl) (by first | assumption | rfl) fl_X0_9 rfl (by first | assumption | rfl) dX0_growOlder_13 ?_
        refine g_iload_2 E dX0_growOlder_16 ?_
        refine g_iconst (v := 1) E dX0_growOlder_17 (by decide) ?_
        refine g_isub E dX0_growOlder_18 ?_
        refine g_iald E (by first | assumption | rfl) (by first | assumption | rfl) dX0_growOlder_19 (q_ix_e (q_dn k) (by omega)) ?_
        refine g_iast E (by first | assumption | rfl) (by first | assumption | rfl) dX0_growOlder_20 (q_ix_n (by omega)) ?_
        refine g_iinc_2 (u := -1) E dX0_growOlder_21 (by decide) (by decide) rfl ?_
        refine g_goto (tgt := 3) E dX0_growOlder_24 (by decide) ?_
        rw [q_dm, q_dn, q_upr, va_up_s, q_shf_s _ (by omega)]
        exact ih (by omega)
  refine g_bipush (v := 20) E dX0_growOlder_0 (by decide) ?_
  refine g_istore_2 E dX0_growOlder_2 (by decide) rfl ?_
  have e := L1 20 (Nat.le_refl _)
  rw [q_shf_20, va_up_id] at e
  exact e
