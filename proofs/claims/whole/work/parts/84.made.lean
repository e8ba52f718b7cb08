/-! the objects as they are made -/
theorem q_E_fs {ca : FieldType → ClassId} {ad : Nat → Nat} {h h' : PH} {t : PT} {b : Nat} (h1 : h'.1 b = h.1 b) (h2 : h'.2.1 b = h.2.1 b) (h3 : h'.2.2 b = h.2.2 b ∨ ∃ ci, t = .inr ci ∧ ∀ k, k < q_N ci → h'.2.2 b k = h.2.2 b k) : q_E ca ad h' t b = q_E ca ad h t b := by
  rcases h3 with h3 | ⟨ci, rfl, h3⟩
  · exact q_E_congr h1 h2 h3
  · show Sum.inr (ci, q_fs ci ad h' b) = Sum.inr (ci, q_fs ci ad h b)
    congr 2
    unfold q_fs
    refine List.map_congr_left (fun k hk => ?_)
    unfold q_fv
    rw [h1, h2, h3 k (List.mem_range.mp hk)]
theorem g_weakN {C : q_Ctx} {ty : Nat → PT} {nL kc ks : Nat} {al al' : Nat → Bool} {ad : Nat → Nat} {pc : Nat} {ls : List (Option Value)} {st : List Value} {f f' : Nat → Nat → Int32} {g g' : Nat → Nat → Int64} {r r' : Nat → Nat → Option Nat} (hs : ∀ b, al' b = true → al b = true ∧ f' b = f b ∧ g' b = g b ∧ (r' b = r b ∨ ∃ ci, ty b = .inr ci ∧ ∀ k, k < q_N ci → r' b k = r b k)) (k : gg C ty nL kc ks al' ad pc ls st (f', g', r')) : gg C ty nL kc ks al ad pc ls st (f, g, r) := by
  obtain ⟨⟨p, l, e, R, s⟩, ⟨m, args, below, meth, c⟩, ⟨D, ca, A, Q⟩⟩ := C
  intro H locs lsA hZ hR hS hl
  refine k H locs lsA hZ (fun b hb => ?_) hS hl
  obtain ⟨s0, s1, s2, s3⟩ := hs b hb
  rw [q_E_fs (h := (f, g, r)) s1 s2 s3]
  exact hR b s0
theorem q_Kp.weak {al0 al al' : Nat → Bool} {ad0 ad : Nat → Nat} (K : q_Kp al0 ad0 al ad) (h : ∀ a, al0 a = true → al' a = true) : q_Kp al0 ad0 al' ad := fun a ha => ⟨h a ha, (K a ha).2⟩
def q_o1 (a : Nat) : Bool := a == 0
theorem q_o1_0 : ∀ a, q_o1 a = true → a = 0 := fun a h => by simpa [q_o1] using h
theorem q_cl0 {al : Nat → Bool} : q_cl al (fun _ _ => none) := fun b k c _ h => by cases h
theorem alM_lt : ∀ b, alM b = true → b < 48 := fun b h => by
  simp [alM] at h
  omega
theorem alX_lt0 : ∀ b, alX 0 false false b = true → b < 22 := fun b h => by
  simp [alX] at h
  omega
theorem q_fin {P : Nat → Prop} {N : Nat} (h : ∀ b, b < N → P b) {b : Nat} (hb : b < N) : P b := h b hb
/-- what a new reference object holds -/
abbrev w_M0 (F : Nat → Nat → Int32) (G : Nat → Nat → Int64) : Prop := (F 0 0 = 0 ∧ F 0 5 = 0 ∧ F 0 6 = 2 ∧ F 0 7 = 100 ∧ F 0 8 = 8 ∧ F 0 9 = 2 ∧ F 0 10 = 0 ∧ F 0 11 = 0 ∧ F 0 12 = -1 ∧ F 0 13 = 0 ∧ F 0 14 = 0 ∧ F 0 46 = 0) ∧ (F 1 0 = -1 ∧ F 1 1 = -1 ∧ F 1 2 = -1 ∧ F 1 3 = -1 ∧ F 2 = fun _ => 0) ∧ (F 27 0 = 10 ∧ F 27 1 = 10 ∧ F 27 2 = 10 ∧ F 28 0 = 1 ∧ F 28 1 = 1 ∧ F 28 2 = 1) ∧ (F 19 = (fun _ => 0) ∧ F 20 = (fun _ => 0) ∧ F 21 = (fun _ => 0) ∧ F 22 = (fun _ => 0) ∧ F 23 = (fun _ => 0) ∧ F 24 = (fun _ => 0) ∧ F 25 = (fun _ => 0) ∧ F 26 = (fun _ => 0) ∧ F 30 = (fun _ => 0)) ∧ (G 3 = (fun _ => 0) ∧ G 31 = (fun _ => 0) ∧ G 32 = (fun _ => 0) ∧ G 33 = (fun _ => 0))
/-- what a new object of the class holds -/
abbrev w_X0 (F : Nat → Nat → Int32) (G : Nat → Nat → Int64) : Prop := (F 1 1 = 0 ∧ F 1 4 = 2 ∧ F 1 5 = 100 ∧ F 1 6 = 8 ∧ F 1 7 = 2) ∧ (F 0 7 = 0 ∧ F 0 8 = 0 ∧ F 0 9 = -1 ∧ F 0 10 = 0) ∧ F 4 1 = 0 ∧ (F 9 0 = 10 ∧ F 9 1 = 10 ∧ F 9 2 = 10 ∧ F 10 0 = 1 ∧ F 10 1 = 1 ∧ F 10 2 = 1) ∧ (F 20 0 = -1 ∧ F 20 1 = -1 ∧ F 20 2 = -1 ∧ F 20 3 = -1) ∧ (F 11 = (fun _ => 0) ∧ F 13 = (fun _ => 0)) ∧ (G 15 = (fun _ => 0) ∧ G 16 = (fun _ => 0) ∧ G 17 = (fun _ => 0) ∧ G 18 = (fun _ => 0))
set_option maxHeartbeats 4000000 in
set_option maxRecDepth 100000 in
theorem c_X7_init   : q_ConN yX7_init cX7_init 1 none 2 40 19 2819 tyX q_o1 [.ref 0] ((fun _ _ => 0), (fun _ _ => 0), (fun _ _ => none)) (fun v al2 h' => v = none ∧ al2 = alX 0 false false ∧ ∃ F G, h' = (F, G, rfX 0 false false) ∧ w_X0 F G) := by
  refine q_ConN.of RX7 [some (.ref 0)] (by decide +kernel) rfl rfl (Nat.le_of_ble_eq_true rfl) (fun C ad E V I0 Z => ?_)
  have I := I0 rfl
  have hc : q_cl q_o1 (fun _ _ => none) := q_cl0
  have K := q_Kp.rf (al := q_o1) (ad := ad)
  refine g_aload_0 (pc := 0) E dX7_init_0 ?_
  refine g_oi (pc := 1) E wl_X7_3 (by decide) (by decide) (Nat.le_of_ble_eq_true rfl) dX7_init_1 ?_
  refine g_aload_0 (pc := 4) E dX7_init_4 ?_
  refine g_new (pc := 5) (a := 1) E V rfl q_ok2 kl_X7_9 in_X2 it_X2 rfl hc rfl rfl (by decide) (by decide) dX7_init_5 (fun q E => ?_)
  have K := K.new (a := 1) (q := q) rfl
  have hc := hc.new (a := 1)
  refine g_dupr (pc := 8) E dX7_init_8 ?_
  refine g_cIN (pc := 9) E V (c_X2_init rfl rfl rfl rfl hc) cw_X7_11 rfl (by decide) (by decide) (by decide) (by decide) (Nat.le_of_ble_eq_true rfl) rfl dX7_init_9 rfl (fun v al2 h2 hp ad2 K2 E => ?_)
  obtain ⟨rfl, rfl, rfl, hc⟩ := hp
  have K := K.tr K2
  refine g_putRF (pc := 12) E I (by first | rfl | assumption | exact hthis) (by first | rfl | assumption) ff_X7_12 rfl dX7_init_12 ?_
  have hc := hc.put (a := 0) (k := 0) (c := 1) (by rfl)
  refine g_aload_0 (pc := 15) E dX7_init_15 ?_
  refine g_new (pc := 16) (a := 2) E V rfl q_ok3 kl_X7_16 in_X3 it_X3 rfl hc rfl rfl (by decide) (by decide) dX7_init_16 (fun q E => ?_)
  have K := K.new (a := 2) (q := q) rfl
  have hc := hc.new (a := 2)
  refine g_dupr (pc := 19) E dX7_init_19 ?_
  refine g_cIN (pc := 20) E V (c_X3_init rfl rfl rfl rfl hc) cw_X7_18 rfl (by decide) (by decide) (by decide) (by decide) (Nat.le_of_ble_eq_true rfl) rfl dX7_init_20 rfl (fun v al2 h2 hp ad2 K2 E => ?_)
  obtain ⟨rfl, rfl, rfl, hc⟩ := hp
  have K := K.tr K2
  refine g_putRF (pc := 23) E I (by first | rfl | assumption | exact hthis) (by first | rfl | assumption) ff_X7_19 rfl dX7_init_23 ?_
  have hc := hc.put (a := 0) (k := 1) (c := 2) (by rfl)
  refine g_aload_0 (pc := 26) E dX7_init_26 ?_
  refine g_new (pc := 27) (a := 3) E V rfl q_ok5 kl_X7_23 in_X5 it_X5 rfl hc rfl rfl (by decide) (by decide) dX7_init_27 (fun q E => ?_)
  have K := K.new (a := 3) (q := q) rfl
  have hc := hc.new (a := 3)
  refine g_dupr (pc := 30) E dX7_init_30 ?_
  refine g_cIN (pc := 31) E V (c_X5_init rfl rfl rfl (fun x h1 h2 => by rcases (by omega : x = 14 ∨ x = 15 ∨ x = 16 ∨ x = 17 ∨ x = 18) with rfl | rfl | rfl | rfl | rfl <;> rfl) (fun x h1 h2 => by rcases (by omega : x = 15 ∨ x = 16 ∨ x = 17 ∨ x = 18) with rfl | rfl | rfl | rfl <;> rfl) hc) cw_X7_25 rfl (by decide) (by decide) (by decide) (by decide) (Nat.le_of_ble_eq_true rfl) rfl dX7_init_31 rfl (fun v al2 h2 hp ad2 K2 E => ?_)
  obtain ⟨rfl, rfl, rfl, hc⟩ := hp
  have K := K.tr K2
  refine g_putRF (pc := 34) E I (by first | rfl | assumption | exact hthis) (by first | rfl | assumption) ff_X7_26 rfl dX7_init_34 ?_
  have hc := hc.put (a := 0) (k := 2) (c := 3) (by rfl)
  refine g_aload_0 (pc := 37) E dX7_init_37 ?_
  refine g_new (pc := 38) (a := 4) E V rfl q_ok1 kl_X7_30 in_X1 it_X1 rfl hc rfl rfl (by decide) (by decide) dX7_init_38 (fun q E => ?_)
  have K := K.new (a := 4) (q := q) rfl
  have hc := hc.new (a := 4)
  refine g_dupr (pc := 41) E dX7_init_41 ?_
  refine g_cIN (pc := 42) E V (c_X1_init rfl rfl hc) cw_X7_32 rfl (by decide) (by decide) (by decide) (by decide) (Nat.le_of_ble_eq_true rfl) rfl dX7_init_42 rfl (fun v al2 h2 hp ad2 K2 E => ?_)
  obtain ⟨rfl, rfl, rfl, hc⟩ := hp
  have K := K.tr K2
  refine g_putRF (pc := 45) E I (by first | rfl | assumption | exact hthis) (by first | rfl | assumption) ff_X7_33 rfl dX7_init_45 ?_
  have hc := hc.put (a := 0) (k := 3) (c := 4) (by rfl)
  refine g_aload_0 (pc := 48) E dX7_init_48 ?_
  refine g_bipush (pc := 49) (v := 10) E dX7_init_49 (by decide) ?_
  refine g_newI (pc := 51) (a := 7) E V (by decide) (by decide) (by decide) rfl hc rfl rfl (by decide) (by decide) dX7_init_51 (fun q E => ?_)
  have K := K.new (a := 7) (q := q) rfl
  have hc := hc.new (a := 7)
  refine g_putRF (pc := 53) E I (by first | rfl | assumption | exact hthis) (by first | rfl | assumption) ff_X7_37 rfl dX7_init_53 ?_
  have hc := hc.put (a := 0) (k := 6) (c := 7) (by rfl)
  refine g_aload_0 (pc := 56) E dX7_init_56 ?_
  refine g_iconst (pc := 57) (v := -1) E dX7_init_57 (by decide) ?_
  refine g_putI (pc := 58) E (by first | rfl | assumption | exact hthis) (by first | rfl | assumption) fw_X7_41 rfl dX7_init_58 ?_
  have hr0 : ∀ k, k < q_N 7 → rfX 0 false false 0 k = (q_up (va_up (q_up (q_up (va_up (va_up (q_up (q_up (va_up (q_up (va_up (q_up (q_rM (va_up (q_up (q_up (va_up (q_up (va_up (q_up (va_up (va_up (q_up (q_up (va_up (q_up (va_up (q_up (va_up (va_up (fun _ _ => none) 1 (fun _ => none)) 8 (fun _ => none)) 1 0 (some 8)) 9 (fun _ => none)) 1 2 (some 9)) 10 (fun _ => none)) 1 3 (some 10)) 0 0 (some 1)) 2 (fun _ => none)) 11 (fun _ => none)) 2 0 (some 11)) 12 (fun _ => none)) 2 1 (some 12)) 13 (fun _ => none)) 2 3 (some 13)) 0 1 (some 2)) 3 (fun _ => none)) 14) 3 0 (some 14)) 19 (fun _ => none)) 3 1 (some 19)) 20 (fun _ => none)) 3 2 (some 20)) 0 2 (some 3)) 4 (fun _ => none)) 21 (fun _ => none)) 4 0 (some 21)) 0 3 (some 4)) 7 (fun _ => none)) 0 6 (some 7)) 0 k := by decide +kernel
  have hr1 : ∀ k, k < q_N 2 → rfX 0 false false 1 k = (q_up (va_up (q_up (q_up (va_up (va_up (q_up (q_up (va_up (q_up (va_up (q_up (q_rM (va_up (q_up (q_up (va_up (q_up (va_up (q_up (va_up (va_up (q_up (q_up (va_up (q_up (va_up (q_up (va_up (va_up (fun _ _ => none) 1 (fun _ => none)) 8 (fun _ => none)) 1 0 (some 8)) 9 (fun _ => none)) 1 2 (some 9)) 10 (fun _ => none)) 1 3 (some 10)) 0 0 (some 1)) 2 (fun _ => none)) 11 (fun _ => none)) 2 0 (some 11)) 12 (fun _ => none)) 2 1 (some 12)) 13 (fun _ => none)) 2 3 (some 13)) 0 1 (some 2)) 3 (fun _ => none)) 14) 3 0 (some 14)) 19 (fun _ => none)) 3 1 (some 19)) 20 (fun _ => none)) 3 2 (some 20)) 0 2 (some 3)) 4 (fun _ => none)) 21 (fun _ => none)) 4 0 (some 21)) 0 3 (some 4)) 7 (fun _ => none)) 0 6 (some 7)) 1 k := by decide +kernel
  have hr2 : ∀ k, k < q_N 3 → rfX 0 false false 2 k = (q_up (va_up (q_up (q_up (va_up (va_up (q_up (q_up (va_up (q_up (va_up (q_up (q_rM (va_up (q_up (q_up (va_up (q_up (va_up (q_up (va_up (va_up (q_up (q_up (va_up (q_up (va_up (q_up (va_up (va_up (fun _ _ => none) 1 (fun _ => none)) 8 (fun _ => none)) 1 0 (some 8)) 9 (fun _ => none)) 1 2 (some 9)) 10 (fun _ => none)) 1 3 (some 10)) 0 0 (some 1)) 2 (fun _ => none)) 11 (fun _ => none)) 2 0 (some 11)) 12 (fun _ => none)) 2 1 (some 12)) 13 (fun _ => none)) 2 3 (some 13)) 0 1 (some 2)) 3 (fun _ => none)) 14) 3 0 (some 14)) 19 (fun _ => none)) 3 1 (some 19)) 20 (fun _ => none)) 3 2 (some 20)) 0 2 (some 3)) 4 (fun _ => none)) 21 (fun _ => none)) 4 0 (some 21)) 0 3 (some 4)) 7 (fun _ => none)) 0 6 (some 7)) 2 k := by decide +kernel
  have hr3 : ∀ k, k < q_N 5 → rfX 0 false false 3 k = (q_up (va_up (q_up (q_up (va_up (va_up (q_up (q_up (va_up (q_up (va_up (q_up (q_rM (va_up (q_up (q_up (va_up (q_up (va_up (q_up (va_up (va_up (q_up (q_up (va_up (q_up (va_up (q_up (va_up (va_up (fun _ _ => none) 1 (fun _ => none)) 8 (fun _ => none)) 1 0 (some 8)) 9 (fun _ => none)) 1 2 (some 9)) 10 (fun _ => none)) 1 3 (some 10)) 0 0 (some 1)) 2 (fun _ => none)) 11 (fun _ => none)) 2 0 (some 11)) 12 (fun _ => none)) 2 1 (some 12)) 13 (fun _ => none)) 2 3 (some 13)) 0 1 (some 2)) 3 (fun _ => none)) 14) 3 0 (some 14)) 19 (fun _ => none)) 3 1 (some 19)) 20 (fun _ => none)) 3 2 (some 20)) 0 2 (some 3)) 4 (fun _ => none)) 21 (fun _ => none)) 4 0 (some 21)) 0 3 (some 4)) 7 (fun _ => none)) 0 6 (some 7)) 3 k := by decide +kernel
  have hr4 : ∀ k, k < q_N 1 → rfX 0 false false 4 k = (q_up (va_up (q_up (q_up (va_up (va_up (q_up (q_up (va_up (q_up (va_up (q_up (q_rM (va_up (q_up (q_up (va_up (q_up (va_up (q_up (va_up (va_up (q_up (q_up (va_up (q_up (va_up (q_up (va_up (va_up (fun _ _ => none) 1 (fun _ => none)) 8 (fun _ => none)) 1 0 (some 8)) 9 (fun _ => none)) 1 2 (some 9)) 10 (fun _ => none)) 1 3 (some 10)) 0 0 (some 1)) 2 (fun _ => none)) 11 (fun _ => none)) 2 0 (some 11)) 12 (fun _ => none)) 2 1 (some 12)) 13 (fun _ => none)) 2 3 (some 13)) 0 1 (some 2)) 3 (fun _ => none)) 14) 3 0 (some 14)) 19 (fun _ => none)) 3 1 (some 19)) 20 (fun _ => none)) 3 2 (some 20)) 0 2 (some 3)) 4 (fun _ => none)) 21 (fun _ => none)) 4 0 (some 21)) 0 3 (some 4)) 7 (fun _ => none)) 0 6 (some 7)) 4 k := by decide +kernel
  have hal : ∀ b, alX 0 false false b = true → (va_up (va_up (va_up (va_up (va_up (q_alM (va_up (va_up (va_up (va_up (va_up (va_up (va_up (va_up (va_up q_o1 1 true) 8 true) 9 true) 10 true) 2 true) 11 true) 12 true) 13 true) 3 true) 14) 19 true) 20 true) 4 true) 21 true) 7 true) b = true := by
    intro b hb
    have h48 := alX_lt0 b hb
    revert hb
    exact (by decide +kernel : ∀ b, b < 22 → alX 0 false false b = true → (va_up (va_up (va_up (va_up (va_up (q_alM (va_up (va_up (va_up (va_up (va_up (va_up (va_up (va_up (va_up q_o1 1 true) 8 true) 9 true) 10 true) 2 true) 11 true) 12 true) 13 true) 3 true) 14) 19 true) 20 true) 4 true) 21 true) 7 true) b = true) b h48
  refine g_weakN (al' := alX 0 false false) (r' := rfX 0 false false) (fun b hb => ⟨hal b hb, rfl, rfl, ?_⟩) ?_
  · have h48 := alX_lt0 b hb
    match b, hb, h48 with
    | 0, _, _ => exact Or.inr ⟨7, rfl, hr0⟩
    | 1, _, _ => exact Or.inr ⟨2, rfl, hr1⟩
    | 2, _, _ => exact Or.inr ⟨3, rfl, hr2⟩
    | 3, _, _ => exact Or.inr ⟨5, rfl, hr3⟩
    | 4, _, _ => exact Or.inr ⟨1, rfl, hr4⟩
    | 5, h, _ => exact absurd h (by decide)
    | 6, h, _ => exact absurd h (by decide)
    | 7, _, _ => exact Or.inl rfl
    | 8, _, _ => exact Or.inl (funext fun k => (if_neg (Nat.not_lt_zero k) : (if k < 0 then some (k + 40) else none) = none))
    | 9, _, _ => exact Or.inl rfl
    | 10, _, _ => exact Or.inl rfl
    | 11, _, _ => exact Or.inl rfl
    | 12, _, _ => exact Or.inl rfl
    | 13, _, _ => exact Or.inl rfl
    | 14, _, _ =>
      left
      funext k
      show (if k < 4 then some (k + 15) else none) = (if k < 4 then some (14 + 1 + k) else none)
      rw [Nat.add_comm]
    | 15, _, _ => exact Or.inl rfl
    | 16, _, _ => exact Or.inl rfl
    | 17, _, _ => exact Or.inl rfl
    | 18, _, _ => exact Or.inl rfl
    | 19, _, _ => exact Or.inl rfl
    | 20, _, _ => exact Or.inl rfl
    | 21, _, _ => exact Or.inl rfl
    | k + 22, _, h => exact absurd h (by omega)
  have E := E.weak hal
  have K := K.weak (al' := alX 0 false false) (fun a ha => by rw [q_o1_0 a ha]; rfl)
  exact g_vretN E Z K (by decide) (by decide) dX7_init_61 ⟨rfl, rfl, _, _, rfl, ⟨⟨rfl, rfl, rfl, rfl, rfl⟩, ⟨rfl, rfl, rfl, rfl⟩, rfl, ⟨rfl, rfl, rfl, rfl, rfl, rfl⟩, ⟨rfl, rfl, rfl, rfl⟩, ⟨rfl, rfl⟩, ⟨rfl, rfl, rfl, rfl⟩⟩⟩
set_option maxHeartbeats 4000000 in
set_option maxRecDepth 100000 in
theorem c_X8_init   : q_ConN yX8_init cX8_init 1 none 1 20 36 80490 tyM q_o1 [.ref 0] ((fun _ _ => 0), (fun _ _ => 0), (fun _ _ => none)) (fun v al2 h' => v = none ∧ al2 = alM ∧ ∃ F G, h' = (F, G, rfM) ∧ w_M0 F G) := by
  refine q_ConN.of RX8 [some (.ref 0)] (by decide +kernel) rfl rfl (Nat.le_of_ble_eq_true rfl) (fun C ad E V I0 Z => ?_)
  have I := I0 rfl
  have hc : q_cl q_o1 (fun _ _ => none) := q_cl0
  have K := q_Kp.rf (al := q_o1) (ad := ad)
  refine g_aload_0 (pc := 0) E dX8_init_0 ?_
  refine g_oi (pc := 1) E wl_X8_1 (by decide) (by decide) (Nat.le_of_ble_eq_true rfl) dX8_init_1 ?_
  refine g_aload_0 (pc := 4) E dX8_init_4 ?_
  refine g_iconst (pc := 5) (v := 4) E dX8_init_5 (by decide) ?_
  refine g_newI (pc := 6) (a := 1) E V (by decide) (by decide) (by decide) rfl hc rfl rfl (by decide) (by decide) dX8_init_6 (fun q E => ?_)
  have K := K.new (a := 1) (q := q) rfl
  have hc := hc.new (a := 1)
  refine g_dupr (pc := 8) E dX8_init_8 ?_
  refine g_iconst (pc := 9) (v := 0) E dX8_init_9 (by decide) ?_
  refine g_iconst (pc := 10) (v := -1) E dX8_init_10 (by decide) ?_
  refine g_iast (pc := 11) E (by rfl) (by rfl) dX8_init_11 (q_ix_l (j := 0) (by decide)) ?_
  refine g_dupr (pc := 12) E dX8_init_12 ?_
  refine g_iconst (pc := 13) (v := 1) E dX8_init_13 (by decide) ?_
  refine g_iconst (pc := 14) (v := -1) E dX8_init_14 (by decide) ?_
  refine g_iast (pc := 15) E (by rfl) (by rfl) dX8_init_15 (q_ix_l (j := 1) (by decide)) ?_
  refine g_dupr (pc := 16) E dX8_init_16 ?_
  refine g_iconst (pc := 17) (v := 2) E dX8_init_17 (by decide) ?_
  refine g_iconst (pc := 18) (v := -1) E dX8_init_18 (by decide) ?_
  refine g_iast (pc := 19) E (by rfl) (by rfl) dX8_init_19 (q_ix_l (j := 2) (by decide)) ?_
  refine g_dupr (pc := 20) E dX8_init_20 ?_
  refine g_iconst (pc := 21) (v := 3) E dX8_init_21 (by decide) ?_
  refine g_iconst (pc := 22) (v := -1) E dX8_init_22 (by decide) ?_
  refine g_iast (pc := 23) E (by rfl) (by rfl) dX8_init_23 (q_ix_l (j := 3) (by decide)) ?_
  refine g_putRF (pc := 24) E I (by first | rfl | assumption | exact hthis) (by first | rfl | assumption) ff_X8_9 rfl dX8_init_24 ?_
  have hc := hc.put (a := 0) (k := 1) (c := 1) (by rfl)
  refine g_aload_0 (pc := 27) E dX8_init_27 ?_
  refine g_iconst (pc := 28) (v := 4) E dX8_init_28 (by decide) ?_
  refine g_newI (pc := 29) (a := 2) E V (by decide) (by decide) (by decide) rfl hc rfl rfl (by decide) (by decide) dX8_init_29 (fun q E => ?_)
  have K := K.new (a := 2) (q := q) rfl
  have hc := hc.new (a := 2)
  refine g_putRF (pc := 31) E I (by first | rfl | assumption | exact hthis) (by first | rfl | assumption) ff_X8_13 rfl dX8_init_31 ?_
  have hc := hc.put (a := 0) (k := 2) (c := 2) (by rfl)
  refine g_aload_0 (pc := 34) E dX8_init_34 ?_
  refine g_sipush (pc := 35) (v := 240) E dX8_init_35 (by decide) ?_
  refine g_newJ (pc := 38) (a := 3) E V (by decide) (by decide) (by decide) rfl hc rfl rfl (by decide) (by decide) dX8_init_38 (fun q E => ?_)
  have K := K.new (a := 3) (q := q) rfl
  have hc := hc.new (a := 3)
  refine g_putRF (pc := 40) E I (by first | rfl | assumption | exact hthis) (by first | rfl | assumption) ff_X8_16 rfl dX8_init_40 ?_
  have hc := hc.put (a := 0) (k := 3) (c := 3) (by rfl)
  refine g_aload_0 (pc := 43) E dX8_init_43 ?_
  refine g_bipush (pc := 44) (v := 60) E dX8_init_44 (by decide) ?_
  refine g_newJ (pc := 46) (a := 4) E V (by decide) (by decide) (by decide) rfl hc rfl rfl (by decide) (by decide) dX8_init_46 (fun q E => ?_)
  have K := K.new (a := 4) (q := q) rfl
  have hc := hc.new (a := 4)
  refine g_putRF (pc := 48) E I (by first | rfl | assumption | exact hthis) (by first | rfl | assumption) ff_X8_20 rfl dX8_init_48 ?_
  have hc := hc.put (a := 0) (k := 4) (c := 4) (by rfl)
  refine g_aload_0 (pc := 51) E dX8_init_51 ?_
  refine g_iconst (pc := 52) (v := 2) E dX8_init_52 (by decide) ?_
  refine g_putI (pc := 53) E (by first | rfl | assumption | exact hthis) (by first | rfl | assumption) fw_X8_23 rfl dX8_init_53 ?_
  refine g_aload_0 (pc := 56) E dX8_init_56 ?_
  refine g_bipush (pc := 57) (v := 100) E dX8_init_57 (by decide) ?_
  refine g_putI (pc := 59) E (by first | rfl | assumption | exact hthis) (by first | rfl | assumption) fw_X8_27 rfl dX8_init_59 ?_
  refine g_aload_0 (pc := 62) E dX8_init_62 ?_
  refine g_bipush (pc := 63) (v := 8) E dX8_init_63 (by decide) ?_
  refine g_putI (pc := 65) E (by first | rfl | assumption | exact hthis) (by first | rfl | assumption) fw_X8_30 rfl dX8_init_65 ?_
  refine g_aload_0 (pc := 68) E dX8_init_68 ?_
  refine g_iconst (pc := 69) (v := 2) E dX8_init_69 (by decide) ?_
  refine g_putI (pc := 70) E (by first | rfl | assumption | exact hthis) (by first | rfl | assumption) fw_X8_33 rfl dX8_init_70 ?_
  refine g_aload_0 (pc := 73) E dX8_init_73 ?_
  refine g_iconst (pc := 74) (v := -1) E dX8_init_74 (by decide) ?_
  refine g_putI (pc := 75) E (by first | rfl | assumption | exact hthis) (by first | rfl | assumption) fw_X8_36 rfl dX8_init_75 ?_
  refine g_aload_0 (pc := 78) E dX8_init_78 ?_
  refine g_bipush (pc := 79) (v := 10) E dX8_init_79 (by decide) ?_
  refine g_newI (pc := 81) (a := 15) E V (by decide) (by decide) (by decide) rfl hc rfl rfl (by decide) (by decide) dX8_init_81 (fun q E => ?_)
  have K := K.new (a := 15) (q := q) rfl
  have hc := hc.new (a := 15)
  refine g_putRF (pc := 83) E I (by first | rfl | assumption | exact hthis) (by first | rfl | assumption) ff_X8_39 rfl dX8_init_83 ?_
  have hc := hc.put (a := 0) (k := 15) (c := 15) (by rfl)
  refine g_aload_0 (pc := 86) E dX8_init_86 ?_
  refine g_bipush (pc := 87) (v := 10) E dX8_init_87 (by decide) ?_
  refine g_newI (pc := 89) (a := 16) E V (by decide) (by decide) (by decide) rfl hc rfl rfl (by decide) (by decide) dX8_init_89 (fun q E => ?_)
  have K := K.new (a := 16) (q := q) rfl
  have hc := hc.new (a := 16)
  refine g_putRF (pc := 91) E I (by first | rfl | assumption | exact hthis) (by first | rfl | assumption) ff_X8_42 rfl dX8_init_91 ?_
  have hc := hc.put (a := 0) (k := 16) (c := 16) (by rfl)
  refine g_aload_0 (pc := 94) E dX8_init_94 ?_
  refine g_bipush (pc := 95) (v := 10) E dX8_init_95 (by decide) ?_
  refine g_newI (pc := 97) (a := 17) E V (by decide) (by decide) (by decide) rfl hc rfl rfl (by decide) (by decide) dX8_init_97 (fun q E => ?_)
  have K := K.new (a := 17) (q := q) rfl
  have hc := hc.new (a := 17)
  refine g_putRF (pc := 99) E I (by first | rfl | assumption | exact hthis) (by first | rfl | assumption) ff_X8_45 rfl dX8_init_99 ?_
  have hc := hc.put (a := 0) (k := 17) (c := 17) (by rfl)
  refine g_aload_0 (pc := 102) E dX8_init_102 ?_
  refine g_bipush (pc := 103) (v := 10) E dX8_init_103 (by decide) ?_
  refine g_newI (pc := 105) (a := 18) E V (by decide) (by decide) (by decide) rfl hc rfl rfl (by decide) (by decide) dX8_init_105 (fun q E => ?_)
  have K := K.new (a := 18) (q := q) rfl
  have hc := hc.new (a := 18)
  refine g_putRF (pc := 107) E I (by first | rfl | assumption | exact hthis) (by first | rfl | assumption) ff_X8_48 rfl dX8_init_107 ?_
  have hc := hc.put (a := 0) (k := 18) (c := 18) (by rfl)
  refine g_aload_0 (pc := 110) E dX8_init_110 ?_
  refine g_bipush (pc := 111) (v := 10) E dX8_init_111 (by decide) ?_
  refine g_newI (pc := 113) (a := 19) E V (by decide) (by decide) (by decide) rfl hc rfl rfl (by decide) (by decide) dX8_init_113 (fun q E => ?_)
  have K := K.new (a := 19) (q := q) rfl
  have hc := hc.new (a := 19)
  refine g_putRF (pc := 115) E I (by first | rfl | assumption | exact hthis) (by first | rfl | assumption) ff_X8_51 rfl dX8_init_115 ?_
  have hc := hc.put (a := 0) (k := 19) (c := 19) (by rfl)
  refine g_aload_0 (pc := 118) E dX8_init_118 ?_
  refine g_bipush (pc := 119) (v := 10) E dX8_init_119 (by decide) ?_
  refine g_newI (pc := 121) (a := 20) E V (by decide) (by decide) (by decide) rfl hc rfl rfl (by decide) (by decide) dX8_init_121 (fun q E => ?_)
  have K := K.new (a := 20) (q := q) rfl
  have hc := hc.new (a := 20)
  refine g_putRF (pc := 123) E I (by first | rfl | assumption | exact hthis) (by first | rfl | assumption) ff_X8_54 rfl dX8_init_123 ?_
  have hc := hc.put (a := 0) (k := 20) (c := 20) (by rfl)
  refine g_aload_0 (pc := 126) E dX8_init_126 ?_
  refine g_bipush (pc := 127) (v := 10) E dX8_init_127 (by decide) ?_
  refine g_newI (pc := 129) (a := 21) E V (by decide) (by decide) (by decide) rfl hc rfl rfl (by decide) (by decide) dX8_init_129 (fun q E => ?_)
  have K := K.new (a := 21) (q := q) rfl
  have hc := hc.new (a := 21)
  refine g_putRF (pc := 131) E I (by first | rfl | assumption | exact hthis) (by first | rfl | assumption) ff_X8_57 rfl dX8_init_131 ?_
  have hc := hc.put (a := 0) (k := 21) (c := 21) (by rfl)
  refine g_aload_0 (pc := 134) E dX8_init_134 ?_
  refine g_bipush (pc := 135) (v := 10) E dX8_init_135 (by decide) ?_
  refine g_newI (pc := 137) (a := 22) E V (by decide) (by decide) (by decide) rfl hc rfl rfl (by decide) (by decide) dX8_init_137 (fun q E => ?_)
  have K := K.new (a := 22) (q := q) rfl
  have hc := hc.new (a := 22)
  refine g_putRF (pc := 139) E I (by first | rfl | assumption | exact hthis) (by first | rfl | assumption) ff_X8_60 rfl dX8_init_139 ?_
  have hc := hc.put (a := 0) (k := 22) (c := 22) (by rfl)
  refine g_aload_0 (pc := 142) E dX8_init_142 ?_
  refine g_bipush (pc := 143) (v := 10) E dX8_init_143 (by decide) ?_
  refine g_newI (pc := 145) (a := 23) E V (by decide) (by decide) (by decide) rfl hc rfl rfl (by decide) (by decide) dX8_init_145 (fun q E => ?_)
  have K := K.new (a := 23) (q := q) rfl
  have hc := hc.new (a := 23)
  refine g_putRF (pc := 147) E I (by first | rfl | assumption | exact hthis) (by first | rfl | assumption) ff_X8_63 rfl dX8_init_147 ?_
  have hc := hc.put (a := 0) (k := 23) (c := 23) (by rfl)
  refine g_aload_0 (pc := 150) E dX8_init_150 ?_
  refine g_bipush (pc := 151) (v := 10) E dX8_init_151 (by decide) ?_
  refine g_newI (pc := 153) (a := 24) E V (by decide) (by decide) (by decide) rfl hc rfl rfl (by decide) (by decide) dX8_init_153 (fun q E => ?_)
  have K := K.new (a := 24) (q := q) rfl
  have hc := hc.new (a := 24)
  refine g_putRF (pc := 155) E I (by first | rfl | assumption | exact hthis) (by first | rfl | assumption) ff_X8_66 rfl dX8_init_155 ?_
  have hc := hc.put (a := 0) (k := 24) (c := 24) (by rfl)
  refine g_aload_0 (pc := 158) E dX8_init_158 ?_
  refine g_bipush (pc := 159) (v := 10) E dX8_init_159 (by decide) ?_
  refine g_newI (pc := 161) (a := 25) E V (by decide) (by decide) (by decide) rfl hc rfl rfl (by decide) (by decide) dX8_init_161 (fun q E => ?_)
  have K := K.new (a := 25) (q := q) rfl
  have hc := hc.new (a := 25)
  refine g_putRF (pc := 163) E I (by first | rfl | assumption | exact hthis) (by first | rfl | assumption) ff_X8_69 rfl dX8_init_163 ?_
  have hc := hc.put (a := 0) (k := 25) (c := 25) (by rfl)
  refine g_aload_0 (pc := 166) E dX8_init_166 ?_
  refine g_bipush (pc := 167) (v := 10) E dX8_init_167 (by decide) ?_
  refine g_newI (pc := 169) (a := 26) E V (by decide) (by decide) (by decide) rfl hc rfl rfl (by decide) (by decide) dX8_init_169 (fun q E => ?_)
  have K := K.new (a := 26) (q := q) rfl
  have hc := hc.new (a := 26)
  refine g_putRF (pc := 171) E I (by first | rfl | assumption | exact hthis) (by first | rfl | assumption) ff_X8_72 rfl dX8_init_171 ?_
  have hc := hc.put (a := 0) (k := 26) (c := 26) (by rfl)
  refine g_aload_0 (pc := 174) E dX8_init_174 ?_
  refine g_iconst (pc := 175) (v := 3) E dX8_init_175 (by decide) ?_
  refine g_newI (pc := 176) (a := 27) E V (by decide) (by decide) (by decide) rfl hc rfl rfl (by decide) (by decide) dX8_init_176 (fun q E => ?_)
  have K := K.new (a := 27) (q := q) rfl
  have hc := hc.new (a := 27)
  refine g_dupr (pc := 178) E dX8_init_178 ?_
  refine g_iconst (pc := 179) (v := 0) E dX8_init_179 (by decide) ?_
  refine g_bipush (pc := 180) (v := 10) E dX8_init_180 (by decide) ?_
  refine g_iast (pc := 182) E (by rfl) (by rfl) dX8_init_182 (q_ix_l (j := 0) (by decide)) ?_
  refine g_dupr (pc := 183) E dX8_init_183 ?_
  refine g_iconst (pc := 184) (v := 1) E dX8_init_184 (by decide) ?_
  refine g_bipush (pc := 185) (v := 10) E dX8_init_185 (by decide) ?_
  refine g_iast (pc := 187) E (by rfl) (by rfl) dX8_init_187 (q_ix_l (j := 1) (by decide)) ?_
  refine g_dupr (pc := 188) E dX8_init_188 ?_
  refine g_iconst (pc := 189) (v := 2) E dX8_init_189 (by decide) ?_
  refine g_bipush (pc := 190) (v := 10) E dX8_init_190 (by decide) ?_
  refine g_iast (pc := 192) E (by rfl) (by rfl) dX8_init_192 (q_ix_l (j := 2) (by decide)) ?_
  refine g_putRF (pc := 193) E I (by first | rfl | assumption | exact hthis) (by first | rfl | assumption) ff_X8_75 rfl dX8_init_193 ?_
  have hc := hc.put (a := 0) (k := 27) (c := 27) (by rfl)
  refine g_aload_0 (pc := 196) E dX8_init_196 ?_
  refine g_iconst (pc := 197) (v := 3) E dX8_init_197 (by decide) ?_
  refine g_newZ (pc := 198) (a := 28) E V (by decide) (by decide) (by decide) rfl hc rfl rfl (by decide) (by decide) dX8_init_198 (fun q E => ?_)
  have K := K.new (a := 28) (q := q) rfl
  have hc := hc.new (a := 28)
  refine g_dupr (pc := 200) E dX8_init_200 ?_
  refine g_iconst (pc := 201) (v := 0) E dX8_init_201 (by decide) ?_
  refine g_iconst (pc := 202) (v := 1) E dX8_init_202 (by decide) ?_
  refine g_zast (pc := 203) E (by rfl) (by rfl) dX8_init_203 (q_ix_l (j := 0) (by decide)) rfl ?_
  refine g_dupr (pc := 204) E dX8_init_204 ?_
  refine g_iconst (pc := 205) (v := 1) E dX8_init_205 (by decide) ?_
  refine g_iconst (pc := 206) (v := 1) E dX8_init_206 (by decide) ?_
  refine g_zast (pc := 207) E (by rfl) (by rfl) dX8_init_207 (q_ix_l (j := 1) (by decide)) rfl ?_
  refine g_dupr (pc := 208) E dX8_init_208 ?_
  refine g_iconst (pc := 209) (v := 2) E dX8_init_209 (by decide) ?_
  refine g_iconst (pc := 210) (v := 1) E dX8_init_210 (by decide) ?_
  refine g_zast (pc := 211) E (by rfl) (by rfl) dX8_init_211 (q_ix_l (j := 2) (by decide)) rfl ?_
  refine g_putRF (pc := 212) E I (by first | rfl | assumption | exact hthis) (by first | rfl | assumption) ff_X8_78 rfl dX8_init_212 ?_
  have hc := hc.put (a := 0) (k := 28) (c := 28) (by rfl)
  refine g_aload_0 (pc := 215) E dX8_init_215 ?_
  refine g_bipush (pc := 216) (v := 100) E dX8_init_216 (by decide) ?_
  refine g_newI (pc := 218) (a := 29) E V (by decide) (by decide) (by decide) rfl hc rfl rfl (by decide) (by decide) dX8_init_218 (fun q E => ?_)
  have K := K.new (a := 29) (q := q) rfl
  have hc := hc.new (a := 29)
  refine g_putRF (pc := 220) E I (by first | rfl | assumption | exact hthis) (by first | rfl | assumption) ff_X8_82 rfl dX8_init_220 ?_
  have hc := hc.put (a := 0) (k := 29) (c := 29) (by rfl)
  refine g_aload_0 (pc := 223) E dX8_init_223 ?_
  refine g_sipush (pc := 224) (v := 210) E dX8_init_224 (by decide) ?_
  refine g_newI (pc := 227) (a := 30) E V (by decide) (by decide) (by decide) rfl hc rfl rfl (by decide) (by decide) dX8_init_227 (fun q E => ?_)
  have K := K.new (a := 30) (q := q) rfl
  have hc := hc.new (a := 30)
  refine g_putRF (pc := 229) E I (by first | rfl | assumption | exact hthis) (by first | rfl | assumption) ff_X8_85 rfl dX8_init_229 ?_
  have hc := hc.put (a := 0) (k := 30) (c := 30) (by rfl)
  refine g_aload_0 (pc := 232) E dX8_init_232 ?_
  refine g_bipush (pc := 233) (v := 10) E dX8_init_233 (by decide) ?_
  refine g_newJ (pc := 235) (a := 31) E V (by decide) (by decide) (by decide) rfl hc rfl rfl (by decide) (by decide) dX8_init_235 (fun q E => ?_)
  have K := K.new (a := 31) (q := q) rfl
  have hc := hc.new (a := 31)
  refine g_putRF (pc := 237) E I (by first | rfl | assumption | exact hthis) (by first | rfl | assumption) ff_X8_88 rfl dX8_init_237 ?_
  have hc := hc.put (a := 0) (k := 31) (c := 31) (by rfl)
  refine g_aload_0 (pc := 240) E dX8_init_240 ?_
  refine g_bipush (pc := 241) (v := 10) E dX8_init_241 (by decide) ?_
  refine g_newJ (pc := 243) (a := 32) E V (by decide) (by decide) (by decide) rfl hc rfl rfl (by decide) (by decide) dX8_init_243 (fun q E => ?_)
  have K := K.new (a := 32) (q := q) rfl
  have hc := hc.new (a := 32)
  refine g_putRF (pc := 245) E I (by first | rfl | assumption | exact hthis) (by first | rfl | assumption) ff_X8_91 rfl dX8_init_245 ?_
  have hc := hc.put (a := 0) (k := 32) (c := 32) (by rfl)
  refine g_aload_0 (pc := 248) E dX8_init_248 ?_
  refine g_bipush (pc := 249) (v := 10) E dX8_init_249 (by decide) ?_
  refine g_newJ (pc := 251) (a := 33) E V (by decide) (by decide) (by decide) rfl hc rfl rfl (by decide) (by decide) dX8_init_251 (fun q E => ?_)
  have K := K.new (a := 33) (q := q) rfl
  have hc := hc.new (a := 33)
  refine g_putRF (pc := 253) E I (by first | rfl | assumption | exact hthis) (by first | rfl | assumption) ff_X8_94 rfl dX8_init_253 ?_
  have hc := hc.put (a := 0) (k := 33) (c := 33) (by rfl)
  refine g_aload_0 (pc := 256) E dX8_init_256 ?_
  refine g_ldc (pc := 257) E kw_X8_97 dX8_init_257 ?_
  refine g_newI (pc := 259) (a := 34) E V (by decide) (by decide) (by decide) rfl hc rfl rfl (by decide) (by decide) dX8_init_259 (fun q E => ?_)
  have K := K.new (a := 34) (q := q) rfl
  have hc := hc.new (a := 34)
  refine g_putRF (pc := 261) E I (by first | rfl | assumption | exact hthis) (by first | rfl | assumption) ff_X8_98 rfl dX8_init_261 ?_
  have hc := hc.put (a := 0) (k := 34) (c := 34) (by rfl)
  refine g_aload_0 (pc := 264) E dX8_init_264 ?_
  refine g_sipush (pc := 265) (v := 5000) E dX8_init_265 (by decide) ?_
  refine g_newI (pc := 268) (a := 35) E V (by decide) (by decide) (by decide) rfl hc rfl rfl (by decide) (by decide) dX8_init_268 (fun q E => ?_)
  have K := K.new (a := 35) (q := q) rfl
  have hc := hc.new (a := 35)
  refine g_putRF (pc := 270) E I (by first | rfl | assumption | exact hthis) (by first | rfl | assumption) ff_X8_101 rfl dX8_init_270 ?_
  have hc := hc.put (a := 0) (k := 35) (c := 35) (by rfl)
  refine g_aload_0 (pc := 273) E dX8_init_273 ?_
  refine g_sipush (pc := 274) (v := 5000) E dX8_init_274 (by decide) ?_
  refine g_newI (pc := 277) (a := 36) E V (by decide) (by decide) (by decide) rfl hc rfl rfl (by decide) (by decide) dX8_init_277 (fun q E => ?_)
  have K := K.new (a := 36) (q := q) rfl
  have hc := hc.new (a := 36)
  refine g_putRF (pc := 279) E I (by first | rfl | assumption | exact hthis) (by first | rfl | assumption) ff_X8_104 rfl dX8_init_279 ?_
  have hc := hc.put (a := 0) (k := 36) (c := 36) (by rfl)
  refine g_aload_0 (pc := 282) E dX8_init_282 ?_
  refine g_sipush (pc := 283) (v := 5000) E dX8_init_283 (by decide) ?_
  refine g_newI (pc := 286) (a := 37) E V (by decide) (by decide) (by decide) rfl hc rfl rfl (by decide) (by decide) dX8_init_286 (fun q E => ?_)
  have K := K.new (a := 37) (q := q) rfl
  have hc := hc.new (a := 37)
  refine g_putRF (pc := 288) E I (by first | rfl | assumption | exact hthis) (by first | rfl | assumption) ff_X8_107 rfl dX8_init_288 ?_
  have hc := hc.put (a := 0) (k := 37) (c := 37) (by rfl)
  refine g_aload_0 (pc := 291) E dX8_init_291 ?_
  refine g_bipush (pc := 292) (v := 10) E dX8_init_292 (by decide) ?_
  refine g_newI (pc := 294) (a := 38) E V (by decide) (by decide) (by decide) rfl hc rfl rfl (by decide) (by decide) dX8_init_294 (fun q E => ?_)
  have K := K.new (a := 38) (q := q) rfl
  have hc := hc.new (a := 38)
  refine g_putRF (pc := 296) E I (by first | rfl | assumption | exact hthis) (by first | rfl | assumption) ff_X8_110 rfl dX8_init_296 ?_
  have hc := hc.put (a := 0) (k := 38) (c := 38) (by rfl)
  refine g_aload_0 (pc := 299) E dX8_init_299 ?_
  refine g_sipush (pc := 300) (v := 8192) E dX8_init_300 (by decide) ?_
  refine g_newI (pc := 303) (a := 39) E V (by decide) (by decide) (by decide) rfl hc rfl rfl (by decide) (by decide) dX8_init_303 (fun q E => ?_)
  have K := K.new (a := 39) (q := q) rfl
  have hc := hc.new (a := 39)
  refine g_putRF (pc := 305) E I (by first | rfl | assumption | exact hthis) (by first | rfl | assumption) ff_X8_113 rfl dX8_init_305 ?_
  have hc := hc.put (a := 0) (k := 39) (c := 39) (by rfl)
  refine g_aload_0 (pc := 308) E dX8_init_308 ?_
  refine g_sipush (pc := 309) (v := 5000) E dX8_init_309 (by decide) ?_
  refine g_newI (pc := 312) (a := 40) E V (by decide) (by decide) (by decide) rfl hc rfl rfl (by decide) (by decide) dX8_init_312 (fun q E => ?_)
  have K := K.new (a := 40) (q := q) rfl
  have hc := hc.new (a := 40)
  refine g_putRF (pc := 314) E I (by first | rfl | assumption | exact hthis) (by first | rfl | assumption) ff_X8_116 rfl dX8_init_314 ?_
  have hc := hc.put (a := 0) (k := 40) (c := 40) (by rfl)
  refine g_aload_0 (pc := 317) E dX8_init_317 ?_
  refine g_sipush (pc := 318) (v := 1024) E dX8_init_318 (by decide) ?_
  refine g_newZ (pc := 321) (a := 41) E V (by decide) (by decide) (by decide) rfl hc rfl rfl (by decide) (by decide) dX8_init_321 (fun q E => ?_)
  have K := K.new (a := 41) (q := q) rfl
  have hc := hc.new (a := 41)
  refine g_putRF (pc := 323) E I (by first | rfl | assumption | exact hthis) (by first | rfl | assumption) ff_X8_119 rfl dX8_init_323 ?_
  have hc := hc.put (a := 0) (k := 41) (c := 41) (by rfl)
  refine g_aload_0 (pc := 326) E dX8_init_326 ?_
  refine g_bipush (pc := 327) (v := 40) E dX8_init_327 (by decide) ?_
  refine g_newI (pc := 329) (a := 42) E V (by decide) (by decide) (by decide) rfl hc rfl rfl (by decide) (by decide) dX8_init_329 (fun q E => ?_)
  have K := K.new (a := 42) (q := q) rfl
  have hc := hc.new (a := 42)
  refine g_putRF (pc := 331) E I (by first | rfl | assumption | exact hthis) (by first | rfl | assumption) ff_X8_122 rfl dX8_init_331 ?_
  have hc := hc.put (a := 0) (k := 42) (c := 42) (by rfl)
  refine g_aload_0 (pc := 334) E dX8_init_334 ?_
  refine g_bipush (pc := 335) (v := 40) E dX8_init_335 (by decide) ?_
  refine g_newI (pc := 337) (a := 43) E V (by decide) (by decide) (by decide) rfl hc rfl rfl (by decide) (by decide) dX8_init_337 (fun q E => ?_)
  have K := K.new (a := 43) (q := q) rfl
  have hc := hc.new (a := 43)
  refine g_putRF (pc := 339) E I (by first | rfl | assumption | exact hthis) (by first | rfl | assumption) ff_X8_125 rfl dX8_init_339 ?_
  have hc := hc.put (a := 0) (k := 43) (c := 43) (by rfl)
  refine g_aload_0 (pc := 342) E dX8_init_342 ?_
  refine g_bipush (pc := 343) (v := 40) E dX8_init_343 (by decide) ?_
  refine g_newI (pc := 345) (a := 44) E V (by decide) (by decide) (by decide) rfl hc rfl rfl (by decide) (by decide) dX8_init_345 (fun q E => ?_)
  have K := K.new (a := 44) (q := q) rfl
  have hc := hc.new (a := 44)
  refine g_putRF (pc := 347) E I (by first | rfl | assumption | exact hthis) (by first | rfl | assumption) ff_X8_128 rfl dX8_init_347 ?_
  have hc := hc.put (a := 0) (k := 44) (c := 44) (by rfl)
  refine g_aload_0 (pc := 350) E dX8_init_350 ?_
  refine g_sipush (pc := 351) (v := 360) E dX8_init_351 (by decide) ?_
  refine g_newI (pc := 354) (a := 45) E V (by decide) (by decide) (by decide) rfl hc rfl rfl (by decide) (by decide) dX8_init_354 (fun q E => ?_)
  have K := K.new (a := 45) (q := q) rfl
  have hc := hc.new (a := 45)
  refine g_putRF (pc := 356) E I (by first | rfl | assumption | exact hthis) (by first | rfl | assumption) ff_X8_131 rfl dX8_init_356 ?_
  have hc := hc.put (a := 0) (k := 45) (c := 45) (by rfl)
  refine g_aload_0 (pc := 359) E dX8_init_359 ?_
  refine g_bipush (pc := 360) (v := 10) E dX8_init_360 (by decide) ?_
  refine g_newI (pc := 362) (a := 47) E V (by decide) (by decide) (by decide) rfl hc rfl rfl (by decide) (by decide) dX8_init_362 (fun q E => ?_)
  have K := K.new (a := 47) (q := q) rfl
  have hc := hc.new (a := 47)
  refine g_putRF (pc := 364) E I (by first | rfl | assumption | exact hthis) (by first | rfl | assumption) ff_X8_134 rfl dX8_init_364 ?_
  have hc := hc.put (a := 0) (k := 47) (c := 47) (by rfl)
  refine g_aload_0 (pc := 367) E dX8_init_367 ?_
  refine g_getR (pc := 368) E (by rfl) (by rfl) fl_X8_131 rfl (by rfl) dX8_init_368 ?_
  refine g_iconst (pc := 371) (v := 0) E dX8_init_371 (by decide) ?_
  refine g_iconst (pc := 372) (v := 0) E dX8_init_372 (by decide) ?_
  refine g_iast (pc := 373) E (by rfl) (by rfl) dX8_init_373 (q_ix_l (j := 0) (by decide)) ?_
  have hr0 : ∀ k, k < q_N 8 → rfM 0 k = (q_up (va_up (q_up (va_up (q_up (va_up (q_up (va_up (q_up (va_up (q_up (va_up (q_up (va_up (q_up (va_up (q_up (va_up (q_up (va_up (q_up (va_up (q_up (va_up (q_up (va_up (q_up (va_up (q_up (va_up (q_up (va_up (q_up (va_up (q_up (va_up (q_up (va_up (q_up (va_up (q_up (va_up (q_up (va_up (q_up (va_up (q_up (va_up (q_up (va_up (q_up (va_up (q_up (va_up (q_up (va_up (q_up (va_up (q_up (va_up (q_up (va_up (q_up (va_up (q_up (va_up (q_up (va_up (q_up (va_up (q_up (va_up (fun _ _ => none) 1 (fun _ => none)) 0 1 (some 1)) 2 (fun _ => none)) 0 2 (some 2)) 3 (fun _ => none)) 0 3 (some 3)) 4 (fun _ => none)) 0 4 (some 4)) 15 (fun _ => none)) 0 15 (some 15)) 16 (fun _ => none)) 0 16 (some 16)) 17 (fun _ => none)) 0 17 (some 17)) 18 (fun _ => none)) 0 18 (some 18)) 19 (fun _ => none)) 0 19 (some 19)) 20 (fun _ => none)) 0 20 (some 20)) 21 (fun _ => none)) 0 21 (some 21)) 22 (fun _ => none)) 0 22 (some 22)) 23 (fun _ => none)) 0 23 (some 23)) 24 (fun _ => none)) 0 24 (some 24)) 25 (fun _ => none)) 0 25 (some 25)) 26 (fun _ => none)) 0 26 (some 26)) 27 (fun _ => none)) 0 27 (some 27)) 28 (fun _ => none)) 0 28 (some 28)) 29 (fun _ => none)) 0 29 (some 29)) 30 (fun _ => none)) 0 30 (some 30)) 31 (fun _ => none)) 0 31 (some 31)) 32 (fun _ => none)) 0 32 (some 32)) 33 (fun _ => none)) 0 33 (some 33)) 34 (fun _ => none)) 0 34 (some 34)) 35 (fun _ => none)) 0 35 (some 35)) 36 (fun _ => none)) 0 36 (some 36)) 37 (fun _ => none)) 0 37 (some 37)) 38 (fun _ => none)) 0 38 (some 38)) 39 (fun _ => none)) 0 39 (some 39)) 40 (fun _ => none)) 0 40 (some 40)) 41 (fun _ => none)) 0 41 (some 41)) 42 (fun _ => none)) 0 42 (some 42)) 43 (fun _ => none)) 0 43 (some 43)) 44 (fun _ => none)) 0 44 (some 44)) 45 (fun _ => none)) 0 45 (some 45)) 47 (fun _ => none)) 0 47 (some 47)) 0 k := by decide +kernel
  have hal : ∀ b, alM b = true → (va_up (va_up (va_up (va_up (va_up (va_up (va_up (va_up (va_up (va_up (va_up (va_up (va_up (va_up (va_up (va_up (va_up (va_up (va_up (va_up (va_up (va_up (va_up (va_up (va_up (va_up (va_up (va_up (va_up (va_up (va_up (va_up (va_up (va_up (va_up (va_up q_o1 1 true) 2 true) 3 true) 4 true) 15 true) 16 true) 17 true) 18 true) 19 true) 20 true) 21 true) 22 true) 23 true) 24 true) 25 true) 26 true) 27 true) 28 true) 29 true) 30 true) 31 true) 32 true) 33 true) 34 true) 35 true) 36 true) 37 true) 38 true) 39 true) 40 true) 41 true) 42 true) 43 true) 44 true) 45 true) 47 true) b = true := by
    intro b hb
    have h48 := alM_lt b hb
    revert hb
    exact (by decide +kernel : ∀ b, b < 48 → alM b = true → (va_up (va_up (va_up (va_up (va_up (va_up (va_up (va_up (va_up (va_up (va_up (va_up (va_up (va_up (va_up (va_up (va_up (va_up (va_up (va_up (va_up (va_up (va_up (va_up (va_up (va_up (va_up (va_up (va_up (va_up (va_up (va_up (va_up (va_up (va_up (va_up q_o1 1 true) 2 true) 3 true) 4 true) 15 true) 16 true) 17 true) 18 true) 19 true) 20 true) 21 true) 22 true) 23 true) 24 true) 25 true) 26 true) 27 true) 28 true) 29 true) 30 true) 31 true) 32 true) 33 true) 34 true) 35 true) 36 true) 37 true) 38 true) 39 true) 40 true) 41 true) 42 true) 43 true) 44 true) 45 true) 47 true) b = true) b h48
  refine g_weakN (al' := alM) (r' := rfM) (fun b hb => ⟨hal b hb, rfl, rfl, ?_⟩) ?_
  · by_cases e : b = 0
    · subst e; exact Or.inr ⟨8, rfl, hr0⟩
    · left
      have h48 := alM_lt b hb
      match b, hb, e, h48 with
      | 0, _, e, _ => exact absurd rfl e
      | 1, _, _, _ => rfl
      | 2, _, _, _ => rfl
      | 3, _, _, _ => rfl
      | 4, _, _, _ => rfl
      | 5, h, _, _ => exact absurd h (by decide)
      | 6, h, _, _ => exact absurd h (by decide)
      | 7, h, _, _ => exact absurd h (by decide)
      | 8, h, _, _ => exact absurd h (by decide)
      | 9, h, _, _ => exact absurd h (by decide)
      | 10, h, _, _ => exact absurd h (by decide)
      | 11, h, _, _ => exact absurd h (by decide)
      | 12, h, _, _ => exact absurd h (by decide)
      | 13, h, _, _ => exact absurd h (by decide)
      | 14, h, _, _ => exact absurd h (by decide)
      | 15, _, _, _ => rfl
      | 16, _, _, _ => rfl
      | 17, _, _, _ => rfl
      | 18, _, _, _ => rfl
      | 19, _, _, _ => rfl
      | 20, _, _, _ => rfl
      | 21, _, _, _ => rfl
      | 22, _, _, _ => rfl
      | 23, _, _, _ => rfl
      | 24, _, _, _ => rfl
      | 25, _, _, _ => rfl
      | 26, _, _, _ => rfl
      | 27, _, _, _ => rfl
      | 28, _, _, _ => rfl
      | 29, _, _, _ => rfl
      | 30, _, _, _ => rfl
      | 31, _, _, _ => rfl
      | 32, _, _, _ => rfl
      | 33, _, _, _ => rfl
      | 34, _, _, _ => rfl
      | 35, _, _, _ => rfl
      | 36, _, _, _ => rfl
      | 37, _, _, _ => rfl
      | 38, _, _, _ => rfl
      | 39, _, _, _ => rfl
      | 40, _, _, _ => rfl
      | 41, _, _, _ => rfl
      | 42, _, _, _ => rfl
      | 43, _, _, _ => rfl
      | 44, _, _, _ => rfl
      | 45, _, _, _ => rfl
      | 46, h, _, _ => exact absurd h (by decide)
      | 47, _, _, _ => rfl
      | k + 48, _, _, h => exact absurd h (by omega)
  have E := E.weak hal
  have K := K.weak (al' := alM) (fun a ha => by rw [q_o1_0 a ha]; rfl)
  exact g_vretN E Z K (by decide) (by decide) dX8_init_374 ⟨rfl, rfl, _, _, rfl, ⟨⟨rfl, rfl, rfl, rfl, rfl, rfl, rfl, rfl, rfl, rfl, rfl, rfl⟩, ⟨rfl, rfl, rfl, rfl, rfl⟩, ⟨rfl, rfl, rfl, rfl, rfl, rfl⟩, ⟨rfl, rfl, rfl, rfl, rfl, rfl, rfl, rfl, rfl⟩, ⟨rfl, rfl, rfl, rfl⟩⟩⟩
