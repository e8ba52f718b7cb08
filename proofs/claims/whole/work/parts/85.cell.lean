/-! cell, and the row of cells -/
theorem rfX_n {n b : Nat} {sB tB : Bool} (h : b ≠ 8) : rfX (n + 1) sB tB b = rfX n sB tB b := by
  match b, h with
  | 0, _ => rfl
  | 1, _ => rfl
  | 2, _ => rfl
  | 3, _ => rfl
  | 4, _ => rfl
  | 5, _ => rfl
  | 6, _ => rfl
  | 7, _ => rfl
  | 8, h => exact absurd rfl h
  | 9, _ => rfl
  | 10, _ => rfl
  | 11, _ => rfl
  | 12, _ => rfl
  | 13, _ => rfl
  | 14, _ => rfl
  | b + 15, _ => rfl
theorem rfX_d {n b k : Nat} {sB tB : Bool} (h : 15 ≤ b) : rfX n sB tB b k = if 40 ≤ b ∧ b < 60 ∧ k = 9 then some (b + 20) else none := by
  obtain ⟨d, rfl⟩ : ∃ d, b = d + 15 := ⟨b - 15, by omega⟩
  rfl
theorem alX_iff {n b : Nat} {sB tB : Bool} : alX n sB tB b = true ↔ b < 5 ∨ (b = 5 ∧ sB = true) ∨ (b = 6 ∧ tB = true) ∨ (7 ≤ b ∧ b ≤ 21) ∨ ((22 ≤ b ∧ b ≤ 27) ∧ sB = true) ∨ ((28 ≤ b ∧ b ≤ 32) ∧ tB = true) ∨ (40 ≤ b ∧ b < n + 40) ∨ (60 ≤ b ∧ b < n + 60) := by
  simp only [alX, Bool.or_eq_true, Bool.and_eq_true, decide_eq_true_eq, beq_iff_eq, or_assoc]
theorem alX_s {n b : Nat} {sB tB : Bool} (h : alX (n + 1) sB tB b = true) : b = n + 40 ∨ b = n + 60 ∨ alX n sB tB b = true := by
  rw [alX_iff] at h ⊢
  rcases h with h | h | h | h | h | h | h | h
  · exact Or.inr (Or.inr (Or.inl h))
  · exact Or.inr (Or.inr (Or.inr (Or.inl h)))
  · exact Or.inr (Or.inr (Or.inr (Or.inr (Or.inl h))))
  · exact Or.inr (Or.inr (Or.inr (Or.inr (Or.inr (Or.inl h)))))
  · exact Or.inr (Or.inr (Or.inr (Or.inr (Or.inr (Or.inr (Or.inl h))))))
  · exact Or.inr (Or.inr (Or.inr (Or.inr (Or.inr (Or.inr (Or.inr (Or.inl h)))))))
  · by_cases e : b = n + 40
    · exact Or.inl e
    · exact Or.inr (Or.inr (Or.inr (Or.inr (Or.inr (Or.inr (Or.inr (Or.inr (Or.inl (by omega)))))))))
  · by_cases e : b = n + 60
    · exact Or.inr (Or.inl e)
    · exact Or.inr (Or.inr (Or.inr (Or.inr (Or.inr (Or.inr (Or.inr (Or.inr (Or.inr (by omega)))))))))
theorem alX_up {n b : Nat} {sB tB : Bool} (h : alX n sB tB b = true) : alX (n + 1) sB tB b = true := by
  rw [alX_iff] at h ⊢
  rcases h with h | h | h | h | h | h | h | h
  · exact Or.inl h
  · exact Or.inr (Or.inl h)
  · exact Or.inr (Or.inr (Or.inl h))
  · exact Or.inr (Or.inr (Or.inr (Or.inl h)))
  · exact Or.inr (Or.inr (Or.inr (Or.inr (Or.inl h))))
  · exact Or.inr (Or.inr (Or.inr (Or.inr (Or.inr (Or.inl h)))))
  · exact Or.inr (Or.inr (Or.inr (Or.inr (Or.inr (Or.inr (Or.inl (by omega)))))))
  · exact Or.inr (Or.inr (Or.inr (Or.inr (Or.inr (Or.inr (Or.inr (by omega)))))))
theorem alX_40 {n c : Nat} {sB tB : Bool} (h : n ≤ c) (h2 : c < 20) : alX n sB tB (c + 40) = false := by
  rw [Bool.eq_false_iff]
  intro q
  rw [alX_iff] at q
  omega
theorem alX_60 {n c : Nat} {sB tB : Bool} (h : n ≤ c) (h10 : n ≤ 10) : alX n sB tB (c + 60) = false := by
  rw [Bool.eq_false_iff]
  intro q
  rw [alX_iff] at q
  omega
theorem q_clX {n : Nat} {sB tB : Bool} (h10 : n ≤ 10) : q_cl (alX n sB tB) (rfX n sB tB) := by
  intro b k c hb hr
  by_cases h15 : 15 ≤ b
  · rw [rfX_d h15] at hr
    split at hr
    · rename_i hc
      cases hr
      rw [alX_iff] at hb
      obtain ⟨d, rfl⟩ : ∃ d, b = d + 40 := ⟨b - 40, by omega⟩
      exact alX_w (by omega)
    · cases hr
  · match b, hb, hr, h15 with
    | 0, hb, hr, _ =>
      match k, hr with
      | 0, hr => cases hr; rfl
      | 1, hr => cases hr; rfl
      | 2, hr => cases hr; rfl
      | 3, hr => cases hr; rfl
      | 4, hr =>
        have hr : (if sB = true then some 5 else none) = some c := hr
        split at hr
        · rename_i e; cases hr; subst e; rfl
        · cases hr
      | 5, hr =>
        have hr : (if tB = true then some 6 else none) = some c := hr
        split at hr
        · rename_i e; cases hr; subst e; exact alX_iff.mpr (Or.inr (Or.inr (Or.inl ⟨rfl, rfl⟩)))
        · cases hr
      | 6, hr => cases hr; exact alX_iff.mpr (Or.inr (Or.inr (Or.inr (Or.inl (by omega)))))
      | k + 7, hr => cases hr
    | 1, hb, hr, _ =>
      match k, hr with
      | 0, hr => cases hr; exact alX_iff.mpr (Or.inr (Or.inr (Or.inr (Or.inl (by omega)))))
      | 1, hr => cases hr
      | 2, hr => cases hr; exact alX_iff.mpr (Or.inr (Or.inr (Or.inr (Or.inl (by omega)))))
      | 3, hr => cases hr; exact alX_iff.mpr (Or.inr (Or.inr (Or.inr (Or.inl (by omega)))))
      | k + 4, hr => cases hr
    | 2, hb, hr, _ =>
      match k, hr with
      | 0, hr => cases hr; exact alX_iff.mpr (Or.inr (Or.inr (Or.inr (Or.inl (by omega)))))
      | 1, hr => cases hr; exact alX_iff.mpr (Or.inr (Or.inr (Or.inr (Or.inl (by omega)))))
      | 2, hr => cases hr
      | 3, hr => cases hr; exact alX_iff.mpr (Or.inr (Or.inr (Or.inr (Or.inl (by omega)))))
      | k + 4, hr => cases hr
    | 3, hb, hr, _ =>
      match k, hr with
      | 0, hr => cases hr; exact alX_iff.mpr (Or.inr (Or.inr (Or.inr (Or.inl (by omega)))))
      | 1, hr => cases hr; exact alX_iff.mpr (Or.inr (Or.inr (Or.inr (Or.inl (by omega)))))
      | 2, hr => cases hr; exact alX_iff.mpr (Or.inr (Or.inr (Or.inr (Or.inl (by omega)))))
      | k + 3, hr => cases hr
    | 4, hb, hr, _ =>
      match k, hr with
      | 0, hr => cases hr; exact alX_iff.mpr (Or.inr (Or.inr (Or.inr (Or.inl (by omega)))))
      | k + 1, hr => cases hr
    | 5, hb, hr, _ =>
      rw [alX_iff] at hb
      have e : sB = true := by rcases hb with h | h | h | h | h | h | h | h <;> first | exact h.2 | omega
      match k, hr with
      | 0, hr => cases hr; exact alX_iff.mpr (Or.inr (Or.inr (Or.inr (Or.inr (Or.inl ⟨by omega, e⟩)))))
      | 1, hr => cases hr; exact alX_iff.mpr (Or.inr (Or.inr (Or.inr (Or.inr (Or.inl ⟨by omega, e⟩)))))
      | 2, hr => cases hr
      | 3, hr => cases hr; exact alX_iff.mpr (Or.inr (Or.inr (Or.inr (Or.inr (Or.inl ⟨by omega, e⟩)))))
      | 4, hr => cases hr; exact alX_iff.mpr (Or.inr (Or.inr (Or.inr (Or.inr (Or.inl ⟨by omega, e⟩)))))
      | 5, hr => cases hr; exact alX_iff.mpr (Or.inr (Or.inr (Or.inr (Or.inr (Or.inl ⟨by omega, e⟩)))))
      | 6, hr => cases hr; exact alX_iff.mpr (Or.inr (Or.inr (Or.inr (Or.inr (Or.inl ⟨by omega, e⟩)))))
      | k + 7, hr => cases hr
    | 6, hb, hr, _ =>
      rw [alX_iff] at hb
      have e : tB = true := by rcases hb with h | h | h | h | h | h | h | h <;> first | exact h.2 | omega
      match k, hr with
      | 0, hr => cases hr; exact alX_iff.mpr (Or.inr (Or.inr (Or.inr (Or.inr (Or.inr (Or.inl ⟨by omega, e⟩))))))
      | 1, hr => cases hr; exact alX_iff.mpr (Or.inr (Or.inr (Or.inr (Or.inr (Or.inr (Or.inl ⟨by omega, e⟩))))))
      | 2, hr => cases hr; exact alX_iff.mpr (Or.inr (Or.inr (Or.inr (Or.inr (Or.inr (Or.inl ⟨by omega, e⟩))))))
      | 3, hr => cases hr; exact alX_iff.mpr (Or.inr (Or.inr (Or.inr (Or.inr (Or.inr (Or.inl ⟨by omega, e⟩))))))
      | 4, hr => cases hr; exact alX_iff.mpr (Or.inr (Or.inr (Or.inr (Or.inr (Or.inr (Or.inl ⟨by omega, e⟩))))))
      | k + 5, hr => cases hr
    | 7, hb, hr, _ => exact absurd hr (by show ¬ (if 40 ≤ 7 ∧ 7 < 60 ∧ k = 9 then some (7 + 20) else none) = some c; rw [if_neg (by omega)]; simp)
    | 8, hb, hr, _ =>
      have hr : (if k < n then some (k + 40) else none) = some c := hr
      split at hr
      · cases hr; exact alX_c (by omega)
      · cases hr
    | 9, hb, hr, _ => exact absurd hr (by show ¬ (if 40 ≤ 9 ∧ 9 < 60 ∧ k = 9 then some (9 + 20) else none) = some c; rw [if_neg (by omega)]; simp)
    | 10, hb, hr, _ => exact absurd hr (by show ¬ (if 40 ≤ 10 ∧ 10 < 60 ∧ k = 9 then some (10 + 20) else none) = some c; rw [if_neg (by omega)]; simp)
    | 11, hb, hr, _ => exact absurd hr (by show ¬ (if 40 ≤ 11 ∧ 11 < 60 ∧ k = 9 then some (11 + 20) else none) = some c; rw [if_neg (by omega)]; simp)
    | 12, hb, hr, _ => exact absurd hr (by show ¬ (if 40 ≤ 12 ∧ 12 < 60 ∧ k = 9 then some (12 + 20) else none) = some c; rw [if_neg (by omega)]; simp)
    | 13, hb, hr, _ => exact absurd hr (by show ¬ (if 40 ≤ 13 ∧ 13 < 60 ∧ k = 9 then some (13 + 20) else none) = some c; rw [if_neg (by omega)]; simp)
    | 14, hb, hr, _ =>
      have hr : (if k < 4 then some (k + 15) else none) = some c := hr
      split at hr
      · cases hr; exact alX_p (by omega)
      · cases hr
    | b + 15, _, _, h => exact absurd (by omega) h
/-- a cell is made -/
def x_newF (n : Nat) (f : Nat → Nat → Int32) (p q u d : Int32) : Nat → Nat → Int32 := q_up (q_up (q_up (q_up (va_up (va_up f (n + 40) (fun _ => 0)) (n + 60) (fun _ => 0)) (n + 40) 0 p) (n + 40) 1 q) (n + 40) 2 u) (n + 40) 3 d
def x_newG (n : Nat) (g : Nat → Nat → Int64) : Nat → Nat → Int64 := va_up (va_up g (n + 40) (fun _ => 0)) (n + 60) (fun _ => 0)
theorem x_newW {n : Nat} {sB tB : Bool} (h10 : n < 10) {b : Nat} (hb : alX (n + 1) sB tB b = true) : va_up (va_up (alX n sB tB) (n + 40) true) (n + 60) true b = true ∧ (rfX (n + 1) sB tB b = q_up (q_up (va_up (va_up (rfX n sB tB) (n + 40) (fun _ => none)) (n + 60) (fun _ => none)) (n + 40) 9 (some (n + 60))) 8 n (some (n + 40)) b ∨ ∃ ci, tyX b = .inr ci ∧ ∀ k, k < q_N ci → rfX (n + 1) sB tB b k = q_up (q_up (va_up (va_up (rfX n sB tB) (n + 40) (fun _ => none)) (n + 60) (fun _ => none)) (n + 40) 9 (some (n + 60))) 8 n (some (n + 40)) b k) := by
  by_cases e1 : b = n + 40
  · subst e1
    refine ⟨by rw [va_up_n (by omega), va_up_s], Or.inl ?_⟩
    funext k
    rw [rfX_d (by omega), q_up_ne (by omega), q_up_eq, va_up_n (show n + 40 ≠ n + 60 by omega), va_up_s]
    by_cases ek : k = 9
    · subst ek; rw [if_pos ⟨by omega, by omega, rfl⟩, va_up_s]
    · rw [if_neg (by omega), va_up_n ek]
  · by_cases e2 : b = n + 60
    · subst e2
      refine ⟨va_up_s, Or.inl ?_⟩
      funext k
      rw [rfX_d (by omega), q_up_ne (by omega), q_up_ne (by omega), va_up_s, if_neg (by omega)]
    · refine ⟨?_, Or.inl ?_⟩
      · rw [va_up_n e2, va_up_n e1]
        rcases alX_s hb with h | h | h
        · exact absurd h e1
        · exact absurd h e2
        · exact h
      · by_cases e3 : b = 8
        · subst e3
          funext k
          rw [q_up_eq, q_up_ne (by omega), va_up_n e2, va_up_n e1]
          show (if k < n + 1 then some (k + 40) else none) = va_up (fun k => if k < n then some (k + 40) else none) n (some (n + 40)) k
          by_cases ek : k = n
          · subst ek; rw [va_up_s, if_pos (by omega)]
          · rw [va_up_n ek]
            by_cases ek2 : k < n
            · rw [if_pos (by omega), if_pos ek2]
            · rw [if_neg (by omega), if_neg ek2]
        · rw [rfX_n e3, q_up_ne e3, q_up_ne e1, va_up_n e2, va_up_n e1]
set_option maxHeartbeats 4000000 in
set_option maxRecDepth 100000 in
theorem c_X7_cell {n : Nat} {sB tB : Bool} {f : Nat → Nat → Int32} {g : Nat → Nat → Int64} (hn : f 1 1 = nI n) (h10 : n ≤ 10) (p q u d : Int32) : q_ConN yX7_cell cX7_cell 6 (some .int) 2 45 2 37 tyX (alX n sB tB) [.ref 0, .int p, .int q, .int u, .int d] (f, g, rfX n sB tB) (fun v al2 h' => (((1 ≤ p.toInt ∧ p.toInt ≤ 100) ∧ (1 ≤ q.toInt ∧ q.toInt ≤ 1000) ∧ (1 ≤ u.toInt ∧ u.toInt ≤ 9) ∧ (0 ≤ d.toInt ∧ d.toInt ≤ 2)) ∧ n < 10 ∧ v = some (.int (nI n)) ∧ al2 = alX (n + 1) sB tB ∧ h' = (q_up (x_newF n f p q u d) 1 1 (nI (n + 1)), x_newG n g, rfX (n + 1) sB tB)) ∨ (((1 ≤ p.toInt ∧ p.toInt ≤ 100) ∧ (1 ≤ q.toInt ∧ q.toInt ≤ 1000) ∧ (1 ≤ u.toInt ∧ u.toInt ≤ 9) ∧ (0 ≤ d.toInt ∧ d.toInt ≤ 2)) ∧ n = 10 ∧ v = some (.int (-3)) ∧ al2 = alX n sB tB ∧ h' = (f, g, rfX n sB tB)) ∨ (¬ ((1 ≤ p.toInt ∧ p.toInt ≤ 100) ∧ (1 ≤ q.toInt ∧ q.toInt ≤ 1000) ∧ (1 ≤ u.toInt ∧ u.toInt ≤ 9) ∧ (0 ≤ d.toInt ∧ d.toInt ≤ 2)) ∧ v = some (.int (-2)) ∧ al2 = alX n sB tB ∧ h' = (f, g, rfX n sB tB))) := by
  refine q_ConN.of RX7 [some (.ref 0), some (.int p), some (.int q), some (.int u), some (.int d), none] (by decide +kernel) rfl rfl (Nat.le_of_ble_eq_true rfl) (fun C ad E V I0 Z => ?_)
  have K := q_Kp.rf (al := alX n sB tB) (ad := ad)
  have K49 : ∀ v5 : Int32, (v5 = 1 ∧ ((1 ≤ p.toInt ∧ p.toInt ≤ 100) ∧ (1 ≤ q.toInt ∧ q.toInt ≤ 1000) ∧ (1 ≤ u.toInt ∧ u.toInt ≤ 9) ∧ (0 ≤ d.toInt ∧ d.toInt ≤ 2))) ∨ (v5 = 0 ∧ ¬ ((1 ≤ p.toInt ∧ p.toInt ≤ 100) ∧ (1 ≤ q.toInt ∧ q.toInt ≤ 1000) ∧ (1 ≤ u.toInt ∧ u.toInt ≤ 9) ∧ (0 ≤ d.toInt ∧ d.toInt ≤ 2))) → gg C tyX 6 0 0 (alX n sB tB) ad 51 [some (.ref 0), some (.int p), some (.int q), some (.int u), some (.int d), some (.int v5)] [] (f, g, rfX n sB tB) := by
    intro v5 hv5
    refine g_iload_5 (pc := 51) E dX7_cell_51 ?_
    refine g_if_ne (pc := 53) (tgt := 59) E dX7_cell_53 (by decide) (fun c_53 => ?_) (fun c_53 => ?_)
    · have hok : ((1 ≤ p.toInt ∧ p.toInt ≤ 100) ∧ (1 ≤ q.toInt ∧ q.toInt ≤ 1000) ∧ (1 ≤ u.toInt ∧ u.toInt ≤ 9) ∧ (0 ≤ d.toInt ∧ d.toInt ≤ 2)) := by
        rcases hv5 with q | q
        · exact q.2
        · exact absurd q.1 c_53
      refine g_aload_0 (pc := 59) E dX7_cell_59 ?_
      refine g_getR (pc := 60) E (by first | assumption | rfl) (by first | assumption | rfl) fl_X7_12 rfl (by first | assumption | rfl) dX7_cell_60 ?_
      refine g_getI (pc := 63) E (by first | assumption | rfl) (by first | assumption | rfl) fl_X7_75 rfl dX7_cell_63 ?_
      refine g_bipush (pc := 66) (v := 10) E dX7_cell_66 (by decide) ?_
      refine g_icmp_lt (pc := 68) (tgt := 74) E dX7_cell_68 (by decide) (fun c_68 => ?_) (fun c_68 => ?_)
      · have e68 : n < 10 := by
          have q := c_68
          rw [hn] at q
          exact (nI_ltI (b := 10) (by omega) (by omega)).mp q
        refine g_aload_0 (pc := 74) E dX7_cell_74 ?_
        refine g_getR (pc := 75) E (by first | assumption | rfl) (by first | assumption | rfl) fl_X7_12 rfl (by first | assumption | rfl) dX7_cell_75 ?_
        refine g_getR (pc := 78) E (by first | assumption | rfl) (by first | assumption | rfl) fl_X7_78 rfl (by first | assumption | rfl) dX7_cell_78 ?_
        refine g_aload_0 (pc := 81) E dX7_cell_81 ?_
        refine g_getR (pc := 82) E (by first | assumption | rfl) (by first | assumption | rfl) fl_X7_12 rfl (by first | assumption | rfl) dX7_cell_82 ?_
        refine g_getI (pc := 85) E (by first | assumption | rfl) (by first | assumption | rfl) fl_X7_75 rfl dX7_cell_85 ?_
        refine g_new (pc := 88) (a := n + 40) E V rfl q_ok0 kl_X7_82 in_X0 it_X0 (alX_40 (Nat.le_refl _) (by omega)) (q_clX h10) (tyX_c (by omega)) (by simp [q_okb, q_okv, va_up, alX]) (by decide) (by decide) dX7_cell_88 (fun q0 E => ?_)
        have K := K.new (a := n + 40) (q := q0) (alX_40 (Nat.le_refl _) (by omega))
        have hc := (q_clX (sB := sB) (tB := tB) h10).new (a := n + 40)
        refine g_dupr (pc := 91) E dX7_cell_91 ?_
        refine g_iload_1 (pc := 92) E dX7_cell_92 ?_
        refine g_iload_2 (pc := 93) E dX7_cell_93 ?_
        refine g_iload_3 (pc := 94) E dX7_cell_94 ?_
        refine g_iload_4 (pc := 95) E dX7_cell_95 ?_
        have hb60 : va_up (alX n sB tB) (n + 40) true (n + 60) = false := by rw [va_up_n (by omega)]; exact alX_60 (Nat.le_refl _) h10
        refine g_cIN (pc := 97) E V (c_X0_init p q u d (n + 40) (n + 60) (tyX_c (by omega)) (tyX_w (by omega)) va_up_s hb60 (by omega) hc) cw_X7_84 rfl (by decide) (by decide) (by decide) (by decide) (Nat.le_of_ble_eq_true rfl) (by simp [q_okb, q_okv, va_up, alX]) dX7_cell_97 rfl (fun v al2 h2 hp ad2 K2 E => ?_)
        obtain ⟨rfl, rfl, rfl, hc⟩ := hp
        have K := K.tr K2
        have a8 : va_up (va_up (alX n sB tB) (n + 40) true) (n + 60) true 8 = true := by rw [va_up_n (by omega), va_up_n (by omega)]; exact alX_iff.mpr (Or.inr (Or.inr (Or.inr (Or.inl (by omega)))))
        have a4 : va_up (va_up (alX n sB tB) (n + 40) true) (n + 60) true (n + 40) = true := by rw [va_up_n (by omega), va_up_s]
        refine g_aast (pc := 100) E a8 rfl a4 (tyX_c (by omega)) dX7_cell_100 (q_ix_e (j := n) hn (by omega)) ?_
        refine g_weakN (al' := alX (n + 1) sB tB) (f' := x_newF n f p q u d) (g' := x_newG n g) (r' := rfX (n + 1) sB tB) (fun b hb => ⟨(x_newW (by omega) hb).1, rfl, rfl, (x_newW (by omega) hb).2⟩) ?_
        have E := E.weak (fun b hb => (x_newW (by omega) hb).1)
        have K := K.weak (al' := alX (n + 1) sB tB) (fun a ha => alX_up ha)
        have hn1 : x_newF n f p q u d 1 1 = nI n := by
          unfold x_newF
          rw [q_up_ne (by omega), q_up_ne (by omega), q_up_ne (by omega), q_up_ne (by omega), va_up_n (by omega), va_up_n (by omega)]
          exact hn
        refine g_aload_0 (pc := 101) E dX7_cell_101 ?_
        refine g_getR (pc := 102) E (by first | assumption | rfl) (by first | assumption | rfl) fl_X7_12 rfl (by first | assumption | rfl) dX7_cell_102 ?_
        first | refine g_dupi (pc := 105) E dX7_cell_105 ?_ | refine g_dupr (pc := 105) E dX7_cell_105 ?_
        refine g_getI (pc := 106) E (by first | assumption | rfl) (by first | assumption | rfl) fl_X7_75 rfl dX7_cell_106 ?_
        refine g_iconst (pc := 109) (v := 1) E dX7_cell_109 (by decide) ?_
        refine g_iadd (pc := 110) E dX7_cell_110 ?_
        refine g_putI (pc := 111) E (by rfl) (by rfl) fw_X7_75 rfl dX7_cell_111 ?_
        rw [hn1, nI_1]
        refine g_aload_0 (pc := 114) E dX7_cell_114 ?_
        refine g_getR (pc := 115) E (by first | assumption | rfl) (by first | assumption | rfl) fl_X7_12 rfl (by first | assumption | rfl) dX7_cell_115 ?_
        refine g_getI (pc := 118) E (by first | assumption | rfl) (by first | assumption | rfl) fl_X7_75 rfl dX7_cell_118 ?_
        refine g_iconst (pc := 121) (v := 1) E dX7_cell_121 (by decide) ?_
        rw [show q_up (x_newF n f p q u d) 1 1 (nI (n + 1)) 1 1 = nI (n + 1) from q_ups]
        refine g_isub (pc := 122) E dX7_cell_122 ?_
        rw [nI_pred]
        exact g_iretN (pc := 123) E Z K (by decide) (by decide) dX7_cell_123 (Or.inl ⟨hok, by omega, rfl, rfl, rfl⟩)
      · have e68 : n = 10 := by
          have q : ¬ n < 10 := fun z => c_68 (by rw [hn]; exact nI_lt (b := 10) z (by omega))
          omega
        refine g_bipush (pc := 71) (v := -3) E dX7_cell_71 (by decide) ?_
        exact g_iretN (pc := 73) E Z K (by decide) (by decide) dX7_cell_73 (Or.inr (Or.inl ⟨hok, e68, rfl, rfl, rfl⟩))
    · have hok : ¬ ((1 ≤ p.toInt ∧ p.toInt ≤ 100) ∧ (1 ≤ q.toInt ∧ q.toInt ≤ 1000) ∧ (1 ≤ u.toInt ∧ u.toInt ≤ 9) ∧ (0 ≤ d.toInt ∧ d.toInt ≤ 2)) := by
        rcases hv5 with q | q
        · rw [c_53] at q; exact absurd q.1 (by decide)
        · exact q.2
      refine g_bipush (pc := 56) (v := -2) E dX7_cell_56 (by decide) ?_
      exact g_iretN (pc := 58) E Z K (by decide) (by decide) dX7_cell_58 (Or.inr (Or.inr ⟨hok, rfl, rfl, rfl⟩))
  refine g_iload_1 (pc := 0) E dX7_cell_0 ?_
  refine g_i2l (pc := 1) E dX7_cell_1 ?_
  refine g_lconst (pc := 2) (v := 1) E dX7_cell_2 (by decide) ?_
  refine g_ldc2 (pc := 3) E kw_X7_69 dX7_cell_3 ?_
  refine g_cSi3 (pc := 6) E (c_X7_isWithin _ _ _) cw_X7_47 (by decide) (by decide) (Nat.le_of_ble_eq_true rfl) dX7_cell_6 (fun v_6 h_6 hp => ?_)
  obtain ⟨rfl, rfl⟩ := hp
  refine g_if_eq (pc := 9) (tgt := 48) E dX7_cell_9 (by decide) (fun c_9 => ?_) (fun c_9 => ?_)
  · have k_9 := q_b0.mp c_9
    refine g_iconst (pc := 48) (v := 0) E dX7_cell_48 (by decide) ?_
    refine g_istore_5 (pc := 49) E dX7_cell_49 (by decide) rfl ?_
    first
    | exact K49 1 (Or.inl ⟨rfl, by rw [q_32] at k_9 k_21 k_33; refine ⟨k_9, k_21, k_33, ?_⟩; exact k_41⟩)
    | exact K49 0 (Or.inr ⟨rfl, fun z => by first | exact k_9 (by rw [q_32]; exact z.1) | exact k_21 (by rw [q_32]; exact z.2.1) | exact k_33 (by rw [q_32]; exact z.2.2.1) | exact k_41 z.2.2.2⟩)
  · have k_9 := q_b1.mp c_9
    refine g_iload_2 (pc := 12) E dX7_cell_12 ?_
    refine g_i2l (pc := 13) E dX7_cell_13 ?_
    refine g_lconst (pc := 14) (v := 1) E dX7_cell_14 (by decide) ?_
    refine g_ldc2 (pc := 15) E kw_X7_51 dX7_cell_15 ?_
    refine g_cSi3 (pc := 18) E (c_X7_isWithin _ _ _) cw_X7_47 (by decide) (by decide) (Nat.le_of_ble_eq_true rfl) dX7_cell_18 (fun v_18 h_18 hp => ?_)
    obtain ⟨rfl, rfl⟩ := hp
    refine g_if_eq (pc := 21) (tgt := 48) E dX7_cell_21 (by decide) (fun c_21 => ?_) (fun c_21 => ?_)
    · have k_21 := q_b0.mp c_21
      refine g_iconst (pc := 48) (v := 0) E dX7_cell_48 (by decide) ?_
      refine g_istore_5 (pc := 49) E dX7_cell_49 (by decide) rfl ?_
      first
      | exact K49 1 (Or.inl ⟨rfl, by rw [q_32] at k_9 k_21 k_33; refine ⟨k_9, k_21, k_33, ?_⟩; exact k_41⟩)
      | exact K49 0 (Or.inr ⟨rfl, fun z => by first | exact k_9 (by rw [q_32]; exact z.1) | exact k_21 (by rw [q_32]; exact z.2.1) | exact k_33 (by rw [q_32]; exact z.2.2.1) | exact k_41 z.2.2.2⟩)
    · have k_21 := q_b1.mp c_21
      refine g_iload_3 (pc := 24) E dX7_cell_24 ?_
      refine g_i2l (pc := 25) E dX7_cell_25 ?_
      refine g_lconst (pc := 26) (v := 1) E dX7_cell_26 (by decide) ?_
      refine g_ldc2 (pc := 27) E kw_X7_55 dX7_cell_27 ?_
      refine g_cSi3 (pc := 30) E (c_X7_isWithin _ _ _) cw_X7_47 (by decide) (by decide) (Nat.le_of_ble_eq_true rfl) dX7_cell_30 (fun v_30 h_30 hp => ?_)
      obtain ⟨rfl, rfl⟩ := hp
      refine g_if_eq (pc := 33) (tgt := 48) E dX7_cell_33 (by decide) (fun c_33 => ?_) (fun c_33 => ?_)
      · have k_33 := q_b0.mp c_33
        refine g_iconst (pc := 48) (v := 0) E dX7_cell_48 (by decide) ?_
        refine g_istore_5 (pc := 49) E dX7_cell_49 (by decide) rfl ?_
        first
        | exact K49 1 (Or.inl ⟨rfl, by rw [q_32] at k_9 k_21 k_33; refine ⟨k_9, k_21, k_33, ?_⟩; exact k_41⟩)
        | exact K49 0 (Or.inr ⟨rfl, fun z => by first | exact k_9 (by rw [q_32]; exact z.1) | exact k_21 (by rw [q_32]; exact z.2.1) | exact k_33 (by rw [q_32]; exact z.2.2.1) | exact k_41 z.2.2.2⟩)
      · have k_33 := q_b1.mp c_33
        refine g_iload_4 (pc := 36) E dX7_cell_36 ?_
        refine g_cSi1 (pc := 38) E (c_X7_isGateway _) cw_X7_71 (by decide) (by decide) (Nat.le_of_ble_eq_true rfl) dX7_cell_38 (fun v_38 h_38 hp => ?_)
        obtain ⟨rfl, rfl⟩ := hp
        refine g_if_eq (pc := 41) (tgt := 48) E dX7_cell_41 (by decide) (fun c_41 => ?_) (fun c_41 => ?_)
        · have k_41 := q_b0.mp c_41
          refine g_iconst (pc := 48) (v := 0) E dX7_cell_48 (by decide) ?_
          refine g_istore_5 (pc := 49) E dX7_cell_49 (by decide) rfl ?_
          first
          | exact K49 1 (Or.inl ⟨rfl, by rw [q_32] at k_9 k_21 k_33; refine ⟨k_9, k_21, k_33, ?_⟩; exact k_41⟩)
          | exact K49 0 (Or.inr ⟨rfl, fun z => by first | exact k_9 (by rw [q_32]; exact z.1) | exact k_21 (by rw [q_32]; exact z.2.1) | exact k_33 (by rw [q_32]; exact z.2.2.1) | exact k_41 z.2.2.2⟩)
        · have k_41 := q_b1.mp c_41
          refine g_iconst (pc := 44) (v := 1) E dX7_cell_44 (by decide) ?_
          refine g_goto (pc := 45) (tgt := 49) E dX7_cell_45 (by decide) ?_
          refine g_istore_5 (pc := 49) E dX7_cell_49 (by decide) rfl ?_
          first
          | exact K49 1 (Or.inl ⟨rfl, by rw [q_32] at k_9 k_21 k_33; refine ⟨k_9, k_21, k_33, ?_⟩; exact k_41⟩)
          | exact K49 0 (Or.inr ⟨rfl, fun z => by first | exact k_9 (by rw [q_32]; exact z.1) | exact k_21 (by rw [q_32]; exact z.2.1) | exact k_33 (by rw [q_32]; exact z.2.2.1) | exact k_41 z.2.2.2⟩)
