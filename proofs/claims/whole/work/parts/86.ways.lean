/-! ways and fewest: what they make when first asked -/
theorem rfX_B {n b : Nat} {sB tB sC tC : Bool} (h : b ≠ 0) : rfX n sB tB b = rfX n sC tC b := by
  match b, h with
  | 0, h => exact absurd rfl h
  | 1, _ => rfl
  | 2, _ => rfl
  | 3, _ => rfl
  | 4, _ => rfl
  | 5, _ => rfl
  | 6, _ => rfl
  | 7, _ => rfl
  | 8, _ => rfl
  | 9, _ => rfl
  | 10, _ => rfl
  | 11, _ => rfl
  | 12, _ => rfl
  | 13, _ => rfl
  | 14, _ => rfl
  | b + 15, _ => rfl
theorem alX_t {n b : Nat} {sB : Bool} (h : alX n sB true b = true) : b = 6 ∨ b = 28 ∨ b = 29 ∨ b = 30 ∨ b = 31 ∨ b = 32 ∨ (alX n sB false b = true ∧ b ≠ 6 ∧ (b < 28 ∨ 32 < b)) := by
  rw [alX_iff] at h
  rw [alX_iff]
  by_cases e : b = 6 ∨ b = 28 ∨ b = 29 ∨ b = 30 ∨ b = 31 ∨ b = 32
  · omega
  · have e2 : b ≠ 6 ∧ (b < 28 ∨ 32 < b) := by omega
    refine Or.inr (Or.inr (Or.inr (Or.inr (Or.inr (Or.inr ⟨?_, e2⟩)))))
    rcases h with h | h | h | h | h | h | h | h
    · exact Or.inl h
    · exact Or.inr (Or.inl h)
    · omega
    · exact Or.inr (Or.inr (Or.inr (Or.inl h)))
    · exact Or.inr (Or.inr (Or.inr (Or.inr (Or.inl h))))
    · omega
    · exact Or.inr (Or.inr (Or.inr (Or.inr (Or.inr (Or.inr (Or.inl h))))))
    · exact Or.inr (Or.inr (Or.inr (Or.inr (Or.inr (Or.inr (Or.inr h))))))
theorem alX_se {n b : Nat} {tB : Bool} (h : alX n true tB b = true) : b = 5 ∨ b = 22 ∨ b = 23 ∨ b = 24 ∨ b = 25 ∨ b = 26 ∨ b = 27 ∨ (alX n false tB b = true ∧ b ≠ 5 ∧ (b < 22 ∨ 27 < b)) := by
  rw [alX_iff] at h
  rw [alX_iff]
  by_cases e : b = 5 ∨ b = 22 ∨ b = 23 ∨ b = 24 ∨ b = 25 ∨ b = 26 ∨ b = 27
  · omega
  · have e2 : b ≠ 5 ∧ (b < 22 ∨ 27 < b) := by omega
    refine Or.inr (Or.inr (Or.inr (Or.inr (Or.inr (Or.inr (Or.inr ⟨?_, e2⟩))))))
    rcases h with h | h | h | h | h | h | h | h
    · exact Or.inl h
    · omega
    · exact Or.inr (Or.inr (Or.inl h))
    · exact Or.inr (Or.inr (Or.inr (Or.inl h)))
    · omega
    · exact Or.inr (Or.inr (Or.inr (Or.inr (Or.inr (Or.inl h)))))
    · exact Or.inr (Or.inr (Or.inr (Or.inr (Or.inr (Or.inr (Or.inl h))))))
    · exact Or.inr (Or.inr (Or.inr (Or.inr (Or.inr (Or.inr (Or.inr h))))))
theorem alX_B {n b : Nat} {sB tB sC tC : Bool} (h : alX n sB tB b = true) (h1 : sB = true → sC = true) (h2 : tB = true → tC = true) : alX n sC tC b = true := by
  rw [alX_iff] at h ⊢
  rcases h with h | h | h | h | h | h | h | h
  · exact Or.inl h
  · exact Or.inr (Or.inl ⟨h.1, h1 h.2⟩)
  · exact Or.inr (Or.inr (Or.inl ⟨h.1, h2 h.2⟩))
  · exact Or.inr (Or.inr (Or.inr (Or.inl h)))
  · exact Or.inr (Or.inr (Or.inr (Or.inr (Or.inl ⟨h.1, h1 h.2⟩))))
  · exact Or.inr (Or.inr (Or.inr (Or.inr (Or.inr (Or.inl ⟨h.1, h2 h.2⟩)))))
  · exact Or.inr (Or.inr (Or.inr (Or.inr (Or.inr (Or.inr (Or.inl h))))))
  · exact Or.inr (Or.inr (Or.inr (Or.inr (Or.inr (Or.inr (Or.inr h))))))
theorem x_talW {n b : Nat} {sB : Bool} {f : Nat → Nat → Int32} {g : Nat → Nat → Int64} (hb : alX n sB true b = true) : (va_up (va_up (va_up (va_up (va_up (va_up (alX n sB false) 6 true) 28 true) 29 true) 30 true) 31 true) 32 true) b = true ∧ (rfX n sB true b = (q_up (q_up (va_up (q_up (va_up (q_up (va_up (q_up (va_up (q_up (va_up (va_up (rfX n sB false) 6 (fun _ => none)) 28 (fun _ => none)) 6 0 (some 28)) 29 (fun _ => none)) 6 1 (some 29)) 30 (fun _ => none)) 6 2 (some 30)) 31 (fun _ => none)) 6 3 (some 31)) 32 (fun _ => none)) 6 4 (some 32)) 0 5 (some 6)) b ∨ ∃ ci, tyX b = .inr ci ∧ ∀ k, k < q_N ci → rfX n sB true b k = (q_up (q_up (va_up (q_up (va_up (q_up (va_up (q_up (va_up (q_up (va_up (va_up (rfX n sB false) 6 (fun _ => none)) 28 (fun _ => none)) 6 0 (some 28)) 29 (fun _ => none)) 6 1 (some 29)) 30 (fun _ => none)) 6 2 (some 30)) 31 (fun _ => none)) 6 3 (some 31)) 32 (fun _ => none)) 6 4 (some 32)) 0 5 (some 6)) b k) ∧ (b ≠ 6 → (b < 28 ∨ 32 < b) → (va_up (va_up (va_up (va_up (va_up (va_up f 6 (fun _ => 0)) 28 (fun _ => 0)) 29 (fun _ => 0)) 30 (fun _ => 0)) 31 (fun _ => 0)) 32 (fun _ => 0)) b = f b ∧ (va_up (va_up (va_up (va_up (va_up (va_up g 6 (fun _ => 0)) 28 (fun _ => 0)) 29 (fun _ => 0)) 30 (fun _ => 0)) 31 (fun _ => 0)) 32 (fun _ => 0)) b = g b) := by
  rcases alX_t hb with rfl | rfl | rfl | rfl | rfl | rfl | ⟨h, h1, h2⟩
  · exact ⟨rfl, Or.inr ⟨6, rfl, fun k hk => by
      match k, hk with
      | 0, _ => rfl
      | 1, _ => rfl
      | 2, _ => rfl
      | 3, _ => rfl
      | 4, _ => rfl
      | k + 5, hk => exact absurd hk (by show ¬ k + 5 < 5; omega)⟩, fun h => absurd rfl h⟩
  · exact ⟨rfl, Or.inl rfl, fun _ h => absurd h (by omega)⟩
  · exact ⟨rfl, Or.inl rfl, fun _ h => absurd h (by omega)⟩
  · exact ⟨rfl, Or.inl rfl, fun _ h => absurd h (by omega)⟩
  · exact ⟨rfl, Or.inl rfl, fun _ h => absurd h (by omega)⟩
  · exact ⟨rfl, Or.inl rfl, fun _ h => absurd h (by omega)⟩
  · refine ⟨by rw [va_up_n (by omega), va_up_n (by omega), va_up_n (by omega), va_up_n (by omega), va_up_n (by omega), va_up_n (by omega)]; exact h, ?_, fun _ _ => ⟨?_, ?_⟩⟩
    · by_cases e : b = 0
      · subst e
        exact Or.inr ⟨7, rfl, fun k hk => by
          match k, hk with
          | 0, _ => rfl
          | 1, _ => rfl
          | 2, _ => rfl
          | 3, _ => rfl
          | 4, _ => rfl
          | 5, _ => rfl
          | 6, _ => rfl
          | 7, _ => rfl
          | 8, _ => rfl
          | 9, _ => rfl
          | 10, _ => rfl
          | k + 11, hk => exact absurd hk (by show ¬ k + 11 < 11; omega)⟩
      · left
        rw [rfX_B (sC := sB) (tC := false) e, q_up_ne e, q_up_ne h1, va_up_n (by omega), q_up_ne h1, va_up_n (by omega), q_up_ne h1, va_up_n (by omega), q_up_ne h1, va_up_n (by omega), q_up_ne h1, va_up_n (by omega), va_up_n h1]
    · rw [va_up_n (by omega), va_up_n (by omega), va_up_n (by omega), va_up_n (by omega), va_up_n (by omega), va_up_n (by omega)]
    · rw [va_up_n (by omega), va_up_n (by omega), va_up_n (by omega), va_up_n (by omega), va_up_n (by omega), va_up_n (by omega)]
theorem x_seaW {n b : Nat} {tB : Bool} {f : Nat → Nat → Int32} {g : Nat → Nat → Int64} (hb : alX n true tB b = true) : (va_up (va_up (va_up (va_up (va_up (va_up (va_up (alX n false tB) 5 true) 22 true) 23 true) 24 true) 25 true) 26 true) 27 true) b = true ∧ (rfX n true tB b = (q_up (q_up (va_up (q_up (va_up (q_up (va_up (q_up (va_up (q_up (va_up (q_up (va_up (va_up (rfX n false tB) 5 (fun _ => none)) 22 (fun _ => none)) 5 0 (some 22)) 23 (fun _ => none)) 5 1 (some 23)) 24 (fun _ => none)) 5 3 (some 24)) 25 (fun _ => none)) 5 4 (some 25)) 26 (fun _ => none)) 5 5 (some 26)) 27 (fun _ => none)) 5 6 (some 27)) 0 4 (some 5)) b ∨ ∃ ci, tyX b = .inr ci ∧ ∀ k, k < q_N ci → rfX n true tB b k = (q_up (q_up (va_up (q_up (va_up (q_up (va_up (q_up (va_up (q_up (va_up (q_up (va_up (va_up (rfX n false tB) 5 (fun _ => none)) 22 (fun _ => none)) 5 0 (some 22)) 23 (fun _ => none)) 5 1 (some 23)) 24 (fun _ => none)) 5 3 (some 24)) 25 (fun _ => none)) 5 4 (some 25)) 26 (fun _ => none)) 5 5 (some 26)) 27 (fun _ => none)) 5 6 (some 27)) 0 4 (some 5)) b k) ∧ (b ≠ 5 → (b < 22 ∨ 27 < b) → (va_up (va_up (va_up (va_up (va_up (va_up (va_up f 5 (fun _ => 0)) 22 (fun _ => 0)) 23 (fun _ => 0)) 24 (fun _ => 0)) 25 (fun _ => 0)) 26 (fun _ => 0)) 27 (fun _ => 0)) b = f b ∧ (va_up (va_up (va_up (va_up (va_up (va_up (va_up g 5 (fun _ => 0)) 22 (fun _ => 0)) 23 (fun _ => 0)) 24 (fun _ => 0)) 25 (fun _ => 0)) 26 (fun _ => 0)) 27 (fun _ => 0)) b = g b) := by
  rcases alX_se hb with rfl | rfl | rfl | rfl | rfl | rfl | rfl | ⟨h, h1, h2⟩
  · exact ⟨rfl, Or.inr ⟨4, rfl, fun k hk => by
      match k, hk with
      | 0, _ => rfl
      | 1, _ => rfl
      | 2, _ => rfl
      | 3, _ => rfl
      | 4, _ => rfl
      | 5, _ => rfl
      | 6, _ => rfl
      | 7, _ => rfl
      | 8, _ => rfl
      | 9, _ => rfl
      | k + 10, hk => exact absurd hk (by show ¬ k + 10 < 10; omega)⟩, fun h => absurd rfl h⟩
  · exact ⟨rfl, Or.inl rfl, fun _ h => absurd h (by omega)⟩
  · exact ⟨rfl, Or.inl rfl, fun _ h => absurd h (by omega)⟩
  · exact ⟨rfl, Or.inl rfl, fun _ h => absurd h (by omega)⟩
  · exact ⟨rfl, Or.inl rfl, fun _ h => absurd h (by omega)⟩
  · exact ⟨rfl, Or.inl rfl, fun _ h => absurd h (by omega)⟩
  · exact ⟨rfl, Or.inl rfl, fun _ h => absurd h (by omega)⟩
  · refine ⟨by rw [va_up_n (by omega), va_up_n (by omega), va_up_n (by omega), va_up_n (by omega), va_up_n (by omega), va_up_n (by omega), va_up_n (by omega)]; exact h, ?_, fun _ _ => ⟨?_, ?_⟩⟩
    · by_cases e : b = 0
      · subst e
        exact Or.inr ⟨7, rfl, fun k hk => by
          match k, hk with
          | 0, _ => rfl
          | 1, _ => rfl
          | 2, _ => rfl
          | 3, _ => rfl
          | 4, _ => rfl
          | 5, _ => rfl
          | 6, _ => rfl
          | 7, _ => rfl
          | 8, _ => rfl
          | 9, _ => rfl
          | 10, _ => rfl
          | k + 11, hk => exact absurd hk (by show ¬ k + 11 < 11; omega)⟩
      · left
        rw [rfX_B (sC := false) (tC := tB) e, q_up_ne e, q_up_ne h1, va_up_n (by omega), q_up_ne h1, va_up_n (by omega), q_up_ne h1, va_up_n (by omega), q_up_ne h1, va_up_n (by omega), q_up_ne h1, va_up_n (by omega), q_up_ne h1, va_up_n (by omega), va_up_n h1]
    · rw [va_up_n (by omega), va_up_n (by omega), va_up_n (by omega), va_up_n (by omega), va_up_n (by omega), va_up_n (by omega), va_up_n (by omega)]
    · rw [va_up_n (by omega), va_up_n (by omega), va_up_n (by omega), va_up_n (by omega), va_up_n (by omega), va_up_n (by omega), va_up_n (by omega)]
abbrev w_LX (n : Nat) (f : Nat → Nat → Int32) : Nat → Nat := fun s => if z_p n f s = true then 1 else 0
theorem w_LX_N {n : Nat} {f : Nat → Nat → Int32} (h10 : n ≤ 10) (hbm : ∃ b : Nat, b ≤ 4 ∧ f 1 4 = nI b) {T : Nat} (hT : T < 2 ^ n) : w_zc (w_LX n f) n T ≤ 386 := by
  rw [w_zc_q n _ T hT]
  exact Nat.le_trans (w_q_ct (2 ^ n)) (z_ct386 h10 hbm _ (Nat.le_refl _))
abbrev x_kpW (n : Nat) (f F : Nat → Nat → Int32) (g G : Nat → Nat → Int64) : Prop := (∀ a, a ≠ 2 → a ≠ 6 → a ≠ 11 → a ≠ 12 → a < 28 ∨ 32 < a → F a = f a) ∧ (∀ s, 2 ^ n ≤ s → F 11 s = f 11 s) ∧ (∀ a, a ≠ 6 → a < 28 ∨ 32 < a → G a = g a)
set_option maxHeartbeats 4000000 in
set_option maxRecDepth 100000 in
theorem c_X7_ways {n : Nat} {sB tB : Bool} {f : Nat → Nat → Int32} {g : Nat → Nat → Int64} (hn : f 1 1 = nI n) (h10 : n ≤ 10) (hgt : ∀ c, c < n → ∃ j : Nat, j ≤ 2 ∧ f (c + 40) 3 = nI j) (hbm : ∃ b : Nat, b ≤ 4 ∧ f 1 4 = nI b) (x : Int32) : q_ConN yX7_ways cX7_ways 2 (some .int) 3 77 (if tB = true then 0 else 6) (if tB = true then 0 else 1504) tyX (alX n sB tB) [.ref 0, .int x] (f, g, rfX n sB tB) (fun v al2 h' => (¬ (0 ≤ x.toInt ∧ x.toInt ≤ 24) ∧ v = some (.int (-2)) ∧ al2 = alX n sB tB ∧ h' = (f, g, rfX n sB tB)) ∨ (∃ e : Nat, e ≤ 24 ∧ x = nI e ∧ v = some (.int (nI (w_dm (w_W n (w_LX n f) e) 72))) ∧ al2 = alX n sB true ∧ ∃ (F : Nat → Nat → Int32) (G : Nat → Nat → Int64), x_kpW n f F g G ∧ (∀ j, j < 72 → F 32 j = nI (w_W n (w_LX n f) e / 10 ^ j % 10)) ∧ h' = (F, G, rfX n sB true))) := by
  refine q_ConN.of RX7 [some (.ref 0), some (.int x)] (by decide +kernel) rfl rfl (Nat.le_of_ble_eq_true rfl) (fun C ad E V I0 Z => ?_)
  have K := q_Kp.rf (al := alX n sB tB) (ad := ad)
  have K44 : ∀ (e : Nat), e ≤ 24 → x = nI e → ∀ (F : Nat → Nat → Int32) (G : Nat → Nat → Int64) (kc ks : Nat) (ad2 : Nat → Nat), kc ≤ (if tB = true then 0 else 6) → ks ≤ (if tB = true then 0 else 1504) → q_Kp (alX n sB tB) ad (alX n sB true) ad2 → q_Ev C cX7_ways 2 RX7 (alX n sB true) ad2 3 77 → (∀ a, a ≠ 6 → a < 28 ∨ 32 < a → F a = z_fnd n f (2 ^ n) a ∧ G a = g a) → gg C tyX 2 kc ks (alX n sB true) ad2 44 [some (.ref 0), some (.int (nI e))] [] (F, G, rfX n sB true) := by
    intro e he hx F G kc ks ad2 hkc hks K E hF
    have h1 : F 1 = f 1 := (hF 1 (by decide) (by omega)).1
    have h11 : F 11 = z_fnd n f (2 ^ n) 11 := (hF 11 (by decide) (by omega)).1
    have hL : ∀ s, s < 2 ^ n → w_LX n f s = if F 11 s = 0 then 0 else 1 := fun s hs => by
      rw [h11, show z_fnd n f (2 ^ n) 11 s = q_b (z_legX n f s) from if_pos hs]
      by_cases q : z_legX n f s
      · rw [show w_LX n f s = 1 from if_pos (decide_eq_true q), if_neg (q_b1.mpr q)]
      · rw [show w_LX n f s = 0 from if_neg (fun z => q (of_decide_eq_true z)), if_pos (q_b0.mpr q)]
    refine g_aload_0 (pc := 44) E dX7_ways_44 ?_
    refine g_getR (pc := 45) E (by first | assumption | rfl) (by first | assumption | rfl) fl_X7_203 rfl (by first | assumption | rfl) dX7_ways_45 ?_
    refine g_aload_0 (pc := 48) E dX7_ways_48 ?_
    refine g_getR (pc := 49) E (by first | assumption | rfl) (by first | assumption | rfl) fl_X7_19 rfl (by first | assumption | rfl) dX7_ways_49 ?_
    refine g_aload_0 (pc := 52) E dX7_ways_52 ?_
    refine g_getR (pc := 53) E (by first | assumption | rfl) (by first | assumption | rfl) fl_X7_12 rfl (by first | assumption | rfl) dX7_ways_53 ?_
    refine g_cVi0 (pc := 56) E (c_X2_allCells (by rw [h1]; exact hn) h10) cw_X7_131 (by decide) (by decide) (by first | assumption | rfl) (by first | assumption | rfl) (Nat.le_of_ble_eq_true rfl) dX7_ways_56 (fun v_56 h_56 hp => ?_)
    obtain ⟨rfl, rfl⟩ := hp
    refine g_iload_1 (pc := 59) E dX7_ways_59 ?_
    refine g_cVv3 (pc := 60) E (c_X6_countRows h10 (w_LX n f) hL (fun T hT => w_LX_N h10 hbm hT) e he) cw_X7_210 (by decide) (by decide) (by first | assumption | rfl) (by first | assumption | rfl) (Nat.le_of_ble_eq_true rfl) dX7_ways_60 (fun h_60 hp => ?_)
    obtain ⟨F2, G2, hk2, hd, rfl⟩ := hp
    refine g_aload_0 (pc := 63) E dX7_ways_63 ?_
    refine g_getR (pc := 64) E (by first | assumption | rfl) (by first | assumption | rfl) fl_X7_203 rfl (by first | assumption | rfl) dX7_ways_64 ?_
    refine g_cVi0 (pc := 67) E (c_X6_digitsUsed (w_W n (w_LX n f) e) hd) cw_X7_214 (by decide) (by decide) (by first | assumption | rfl) (by first | assumption | rfl) (Nat.le_of_ble_eq_true rfl) dX7_ways_67 (fun v_67 h_67 hp => ?_)
    obtain ⟨rfl, rfl⟩ := hp
    exact g_iretN (pc := 70) E Z K hkc hks dX7_ways_70 (Or.inr ⟨e, he, hx, rfl, rfl, F2, G2, ⟨fun a a2 a6 a11 a12 hr => by rw [hk2.1 a (by omega) (by omega) (by omega), (hF a a6 hr).1]; show (if a = 2 then _ else if a = 11 then _ else if a = 12 then _ else f a) = f a; rw [if_neg a2, if_neg a11, if_neg a12], fun s hs => by rw [hk2.1 11 (by omega) (by omega) (by omega), h11]; exact if_neg (by omega), fun a a6 hr => by rw [hk2.2 a (by omega) (by omega), (hF a a6 hr).2]⟩, hd, rfl⟩)
  have hxe : (0 ≤ x.toInt ∧ x.toInt ≤ 24) → ∃ e : Nat, e ≤ 24 ∧ x = nI e := fun hx => nI_of2 (x := x) (M := 24) (n := 24) rfl (by rw [Int32.lt_iff_toInt_lt]; have z : (0 : Int32).toInt = 0 := rfl; omega) (by rw [Int32.le_iff_toInt_le]; exact hx.2)
  cases tB with
  | true =>
    refine g_iload_1 (pc := 0) E dX7_ways_0 ?_
    refine g_i2l (pc := 1) E dX7_ways_1 ?_
    refine g_lconst (pc := 2) (v := 0) E dX7_ways_2 (by decide) ?_
    refine g_ldc2 (pc := 3) E kw_X7_201 dX7_ways_3 ?_
    refine g_cSi3 (pc := 6) E (c_X7_isWithin _ _ _) cw_X7_47 (by decide) (by decide) (Nat.le_of_ble_eq_true rfl) dX7_ways_6 (fun v_6 h_6 hp => ?_)
    obtain ⟨rfl, rfl⟩ := hp
    refine g_if_ne (pc := 9) (tgt := 15) E dX7_ways_9 (by decide) (fun c_9 => ?_) (fun c_9 => ?_)
    · have k_9 := q_b1.mp c_9
      have hx : 0 ≤ x.toInt ∧ x.toInt ≤ 24 := by rw [q_32] at k_9; exact k_9
      obtain ⟨e, he, hxe⟩ := hxe hx
      subst hxe
      refine g_aload_0 (pc := 15) E dX7_ways_15 ?_
      refine g_getR (pc := 16) E (by first | assumption | rfl) (by first | assumption | rfl) fl_X7_19 rfl (by first | assumption | rfl) dX7_ways_16 ?_
      refine g_aload_0 (pc := 19) E dX7_ways_19 ?_
      refine g_getR (pc := 20) E (by first | assumption | rfl) (by first | assumption | rfl) fl_X7_12 rfl (by first | assumption | rfl) dX7_ways_20 ?_
      refine g_cVv1 (pc := 23) E (c_X3_find (by exact hn) h10 (by exact hgt) (by exact hbm)) cw_X7_138 (by decide) (by decide) (by first | assumption | rfl) (by first | assumption | rfl) (Nat.le_of_ble_eq_true rfl) dX7_ways_23 (fun h_23 hp => ?_)
      subst hp
      refine g_aload_0 (pc := 26) E dX7_ways_26 ?_
      refine g_getR (pc := 27) E (by first | assumption | rfl) (by first | assumption | rfl) fl_X7_203 rfl (by first | assumption | rfl) dX7_ways_27 ?_
      refine g_ifnonnull (pc := 30) (tgt := 44) E dX7_ways_30 (by decide) ?_
      exact K44 e he rfl _ _ 0 0 ad (by decide) (by decide) K E (fun a _ _ => ⟨rfl, rfl⟩)
    · have k_9 := q_b0.mp c_9
      have hx : ¬ (0 ≤ x.toInt ∧ x.toInt ≤ 24) := by rw [q_32] at k_9; exact k_9
      refine g_bipush (pc := 12) (v := -2) E dX7_ways_12 (by decide) ?_
      exact g_iretN (pc := 14) E Z K (by decide) (by decide) dX7_ways_14 (Or.inl ⟨hx, rfl, rfl, rfl⟩)
  | false =>
    refine g_iload_1 (pc := 0) E dX7_ways_0 ?_
    refine g_i2l (pc := 1) E dX7_ways_1 ?_
    refine g_lconst (pc := 2) (v := 0) E dX7_ways_2 (by decide) ?_
    refine g_ldc2 (pc := 3) E kw_X7_201 dX7_ways_3 ?_
    refine g_cSi3 (pc := 6) E (c_X7_isWithin _ _ _) cw_X7_47 (by decide) (by decide) (Nat.le_of_ble_eq_true rfl) dX7_ways_6 (fun v_6 h_6 hp => ?_)
    obtain ⟨rfl, rfl⟩ := hp
    refine g_if_ne (pc := 9) (tgt := 15) E dX7_ways_9 (by decide) (fun c_9 => ?_) (fun c_9 => ?_)
    · have k_9 := q_b1.mp c_9
      have hx : 0 ≤ x.toInt ∧ x.toInt ≤ 24 := by rw [q_32] at k_9; exact k_9
      obtain ⟨e, he, hxe⟩ := hxe hx
      subst hxe
      refine g_aload_0 (pc := 15) E dX7_ways_15 ?_
      refine g_getR (pc := 16) E (by first | assumption | rfl) (by first | assumption | rfl) fl_X7_19 rfl (by first | assumption | rfl) dX7_ways_16 ?_
      refine g_aload_0 (pc := 19) E dX7_ways_19 ?_
      refine g_getR (pc := 20) E (by first | assumption | rfl) (by first | assumption | rfl) fl_X7_12 rfl (by first | assumption | rfl) dX7_ways_20 ?_
      refine g_cVv1 (pc := 23) E (c_X3_find (by exact hn) h10 (by exact hgt) (by exact hbm)) cw_X7_138 (by decide) (by decide) (by first | assumption | rfl) (by first | assumption | rfl) (Nat.le_of_ble_eq_true rfl) dX7_ways_23 (fun h_23 hp => ?_)
      subst hp
      refine g_aload_0 (pc := 26) E dX7_ways_26 ?_
      refine g_getN (pc := 27) E (by first | assumption | rfl) (by first | assumption | rfl) fl_X7_203 rfl rfl dX7_ways_27 ?_
      refine g_ifnonnullN (pc := 30) E dX7_ways_30 ?_
      refine g_aload_0 (pc := 33) E dX7_ways_33 ?_
      refine g_new (pc := 34) (a := 6) E V rfl q_ok6 kl_X7_207 in_X6 it_X6 rfl (q_clX h10) rfl rfl (by decide) (by decide) dX7_ways_34 (fun q0 E => ?_)
      have K := K.new (a := 6) (q := q0) rfl
      have hc := (q_clX (n := n) (sB := sB) (tB := false) h10).new (a := 6)
      refine g_dupr (pc := 37) E dX7_ways_37 ?_
      refine g_cIN (pc := 38) E V (c_X6_init rfl rfl rfl rfl rfl rfl hc) cw_X7_209 rfl (by decide) (by decide) (by decide) (by decide) (Nat.le_of_ble_eq_true rfl) rfl dX7_ways_38 rfl (fun v al2 h2 hp ad2 K2 E => ?_)
      obtain ⟨rfl, rfl, rfl, hc⟩ := hp
      have K := K.tr K2
      refine g_putR (pc := 41) E (by rfl) (by rfl) fw_X7_203 rfl dX7_ways_41 ?_
      refine g_weakN (al' := alX n sB true) (r' := rfX n sB true) (fun b hb => ⟨(x_talW (f := f) (g := g) hb).1, rfl, rfl, (x_talW (f := f) (g := g) hb).2.1⟩) ?_
      have E := E.weak (fun b hb => (x_talW (f := f) (g := g) hb).1)
      have K := K.weak (al' := alX n sB true) (fun a ha => alX_B ha (fun q => q) (fun _ => rfl))
      refine K44 e he rfl _ _ _ _ _ (by decide) (by decide) K E (fun a a6 hr => ?_)
      exact ⟨by rw [va_up_n (by omega), va_up_n (by omega), va_up_n (by omega), va_up_n (by omega), va_up_n (by omega), va_up_n (by omega)], by rw [va_up_n (by omega), va_up_n (by omega), va_up_n (by omega), va_up_n (by omega), va_up_n (by omega), va_up_n (by omega)]⟩
    · have k_9 := q_b0.mp c_9
      have hx : ¬ (0 ≤ x.toInt ∧ x.toInt ≤ 24) := by rw [q_32] at k_9; exact k_9
      refine g_bipush (pc := 12) (v := -2) E dX7_ways_12 (by decide) ?_
      exact g_iretN (pc := 14) E Z K (by decide) (by decide) dX7_ways_14 (Or.inl ⟨hx, rfl, rfl, rfl⟩)
