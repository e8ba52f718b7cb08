/-! the class: which sets are legal -/
theorem q_sum_n {a : Nat → Int32} {n m : Nat} (h : n ≤ m) (h0 : ∀ k, n ≤ k → k < m → a k = 0) : q_sum a m = q_sum a n := by
  obtain ⟨d, rfl⟩ : ∃ d, m = n + d := ⟨m - n, by omega⟩
  induction d with
  | zero => rfl
  | succ d ih =>
    rw [show n + (d + 1) = (n + d) + 1 from rfl, q_sum, ih (by omega) (fun k h1 h2 => h0 k h1 (by omega)), h0 (n + d) (by omega) (by omega), Int32.add_zero]
theorem z_cnt_n {s n m : Nat} (hs : s < 2 ^ n) (h : n ≤ m) : z_cnt s m = z_cnt s n := by
  unfold z_cnt
  refine q_sum_n h (fun k h1 _ => if_neg ?_)
  rw [Nat.testBit_lt_two_pow (Nat.lt_of_lt_of_le hs (Nat.pow_le_pow_right (by decide) h1))]
  decide
def z_usr (gt : Nat → Int32) (s n : Nat) : Int32 := q_sum (fun c => if s.testBit c = true then 1 <<< (4 * gt c &&& 31) else 0) n
theorem z_usr_t {gt : Nat → Int32} {s i : Nat} (h : s.testBit i = true) : z_usr gt s (i + 1) = z_usr gt s i + 1 <<< (4 * gt i &&& 31) := by unfold z_usr; rw [q_sum, if_pos h]
theorem z_usr_f {gt : Nat → Int32} {s i : Nat} (h : ¬ s.testBit i = true) : z_usr gt s (i + 1) = z_usr gt s i := by unfold z_usr; rw [q_sum, if_neg h, Int32.add_zero]
theorem q_shl4 : ∀ j, j < 3 → (1 : Int32) <<< (4 * nI j &&& 31) = nI (16 ^ j) := by decide +kernel
/-- the users of the gateways, as numbers -/
theorem z_users {gt : Nat → Int32} {s n : Nat} (hgt : ∀ c, c < n → ∃ j : Nat, j ≤ 2 ∧ gt c = nI j) : ∃ u0 u1 u2 : Nat, z_usr gt s n = nI (u0 + 16 * u1 + 256 * u2) ∧ z_use gt s 0 n = nI u0 ∧ z_use gt s 1 n = nI u1 ∧ z_use gt s 2 n = nI u2 ∧ z_cnt s n = nI (u0 + u1 + u2) ∧ u0 + u1 + u2 ≤ n := by
  induction n with
  | zero => exact ⟨0, 0, 0, rfl, rfl, rfl, rfl, rfl, Nat.le_refl _⟩
  | succ n ih =>
    obtain ⟨u0, u1, u2, e1, e2, e3, e4, e5, e6⟩ := ih (fun c hc => hgt c (by omega))
    by_cases hb : s.testBit n = true
    · obtain ⟨j, hj, ej⟩ := hgt n (by omega)
      rw [z_usr_t hb, z_use_t hb, z_use_t hb, z_use_t hb, z_cnt_t hb, e1, e2, e3, e4, e5, ej, q_shl4 j (by omega)]
      rcases (by omega : j = 0 ∨ j = 1 ∨ j = 2) with rfl | rfl | rfl
      · exact ⟨u0 + 1, u1, u2, by rw [nI_add]; exact congrArg nI (by omega), by rw [if_pos (by decide), nI_1], by rw [if_neg (by decide), Int32.add_zero], by rw [if_neg (by decide), Int32.add_zero], by rw [nI_1]; first | done | exact congrArg nI (by omega), by omega⟩
      · exact ⟨u0, u1 + 1, u2, by rw [nI_add]; exact congrArg nI (by omega), by rw [if_neg (by decide), Int32.add_zero], by rw [if_pos (by decide), nI_1], by rw [if_neg (by decide), Int32.add_zero], by rw [nI_1]; first | done | exact congrArg nI (by omega), by omega⟩
      · exact ⟨u0, u1, u2 + 1, by rw [nI_add]; exact congrArg nI (by omega), by rw [if_neg (by decide), Int32.add_zero], by rw [if_neg (by decide), Int32.add_zero], by rw [if_pos (by decide), nI_1], by rw [nI_1]; first | done | exact congrArg nI (by omega), by omega⟩
    · rw [z_usr_f hb, z_use_f hb, z_use_f hb, z_use_f hb, z_cnt_f hb]
      exact ⟨u0, u1, u2, e1, e2, e3, e4, e5, by omega⟩
def z_rm (u : Int32) (y : Nat) : Int32 := u >>> (4 * nI y &&& 31) &&& 15
abbrev z_rm3 (u : Int32) (rm : Nat → Int32) : Prop := z_rm u 0 ≤ rm 0 ∧ z_rm u 1 ≤ rm 1 ∧ z_rm u 2 ≤ rm 2
theorem z_rm3_iff {u : Int32} {rm : Nat → Int32} : z_rm3 u rm ↔ ∀ y, y < 3 → z_rm u y ≤ rm y := by
  constructor
  · rintro ⟨q0, q1, q2⟩ y hy
    rcases (by omega : y = 0 ∨ y = 1 ∨ y = 2) with rfl | rfl | rfl
    · exact q0
    · exact q1
    · exact q2
  · intro q
    exact ⟨q 0 (by omega), q 1 (by omega), q 2 (by omega)⟩
theorem z_room {u0 u1 u2 : Nat} (h : u0 + u1 + u2 ≤ 4) : (z_rm (nI (u0 + 16 * u1 + 256 * u2)) 0 = nI u0) ∧ (z_rm (nI (u0 + 16 * u1 + 256 * u2)) 1 = nI u1) ∧ (z_rm (nI (u0 + 16 * u1 + 256 * u2)) 2 = nI u2) := by
  have key : ∀ a, a < 5 → ∀ b, b < 5 → ∀ c, c < 5 → (z_rm (nI (a + 16 * b + 256 * c)) 0 = nI a) ∧ (z_rm (nI (a + 16 * b + 256 * c)) 1 = nI b) ∧ (z_rm (nI (a + 16 * b + 256 * c)) 2 = nI c) := by decide +kernel
  exact key u0 (by omega) u1 (by omega) u2 (by omega)
abbrev z_legX (n : Nat) (f : Nat → Nat → Int32) (s : Nat) : Prop := z_leg n (f 1 4) (f 1 5) (fun c => f (c + 40) 8) (fun c => f (c + 40) 3) (fun c => f (c + 40) 7) (fun c => f (c + 40) 0 * (2 + f (c + 40) 4) / 2) (f 10) (f 9) s
theorem z_legX_congr {n : Nat} {f F : Nat → Nat → Int32} {s : Nat} (h1 : F 1 = f 1) (h2 : ∀ c, F (c + 40) = f (c + 40)) (h3 : F 9 = f 9) (h4 : F 10 = f 10) : z_legX n F s ↔ z_legX n f s := by
  unfold z_legX
  simp only [h1, h2, h3, h4]
set_option maxHeartbeats 4000000 in
set_option maxRecDepth 100000 in
theorem c_X2_haveRoom {n : Nat} {sB tB : Bool} {f : Nat → Nat → Int32} {g : Nat → Nat → Int64} (u : Int32) : q_ConI yX2_haveRoom cX2_haveRoom 3 (some .boolean) 0 0 tyX (alX n sB tB) [.ref 1, .int u] (f, g, rfX n sB tB) (fun v h' => v = q_b (z_rm3 u (f 9)) ∧ h' = (f, g, rfX n sB tB)) := by
  refine q_Con.of RX2 [some (.ref 1), some (.int u), none] (by decide +kernel) rfl rfl (Nat.le_of_ble_eq_true rfl) (fun C ad E Z => ?_)
  have L : ∀ i, i ≤ 3 → (∀ y, y < i → z_rm u y ≤ f 9 y) → gg C tyX 3 0 0 (alX n sB tB) ad 2 [some (.ref 1), some (.int u), some (.int (nI i))] [] (f, g, rfX n sB tB) := by
    refine q_loop 3 (fun i hi ih hall => ?_)
    refine g_iload_2 E dX2_haveRoom_2 ?_
    refine g_iconst (v := 3) E dX2_haveRoom_3 (by decide) ?_
    refine g_icmp_ge (tgt := 32) E dX2_haveRoom_4 (by decide) (fun c_4 => ?_) (fun c_4 => ?_)
    · have e_4 := (q_ge (x := 3) (y := i) rfl rfl (by omega) (by omega)).mp c_4
      refine g_iconst (v := 1) E dX2_haveRoom_32 (by decide) ?_
      exact g_zret E Z dX2_haveRoom_33 rfl ⟨_, rfl, ⟨q_bt (z_rm3_iff.mpr (fun y hy => hall y (by omega))), rfl⟩⟩
    · have e_4 := (not_congr (q_ge (x := 3) (y := i) rfl rfl (by omega) (by omega))).mp c_4
      refine g_iload_1 E dX2_haveRoom_7 ?_
      refine g_iconst (v := 4) E dX2_haveRoom_8 (by decide) ?_
      refine g_iload_2 E dX2_haveRoom_9 ?_
      refine g_imul E dX2_haveRoom_10 ?_
      refine g_ishr E dX2_haveRoom_11 ?_
      refine g_bipush (v := 15) E dX2_haveRoom_12 (by decide) ?_
      refine g_iand E dX2_haveRoom_14 ?_
      refine g_aload_0 E dX2_haveRoom_15 ?_
      refine g_getR E (by first | assumption | rfl) (by first | assumption | rfl) fl_X2_17 rfl (by first | assumption | rfl) dX2_haveRoom_16 ?_
      refine g_iload_2 E dX2_haveRoom_19 ?_
      refine g_iald E (by first | assumption | rfl) (by first | assumption | rfl) dX2_haveRoom_20 (q_ix_n (by omega)) ?_
      refine g_icmp_le (tgt := 26) E dX2_haveRoom_21 (by decide) (fun c_21 => ?_) (fun c_21 => ?_)
      · refine g_iinc_2 (u := 1) E dX2_haveRoom_26 (by decide) (by decide) rfl ?_
        refine g_goto (tgt := 2) E dX2_haveRoom_29 (by decide) ?_
        rw [nI_1]
        exact ih (by omega) (fun y hy => by
          by_cases e : y = i
          · subst e; exact c_21
          · exact hall y (by omega))
      · refine g_iconst (v := 0) E dX2_haveRoom_24 (by decide) ?_
        exact g_zret E Z dX2_haveRoom_25 rfl ⟨_, rfl, ⟨q_bf (fun q => c_21 (z_rm3_iff.mp q i (by omega))), rfl⟩⟩
  refine g_iconst (v := 0) E dX2_haveRoom_0 (by decide) ?_
  refine g_istore_2 E dX2_haveRoom_1 (by decide) rfl ?_
  exact L 0 (Nat.zero_le _) (fun c hc => absurd hc (Nat.not_lt_zero c))
theorem z_endX {n i : Nat} {bm lim : Int32} {fb gt hd pn up rm : Nat → Int32} {s : Nat} {v : Int32} (hi : i ≤ n ∧ n ≤ i) (hall : ∀ c, c < i → s.testBit c = true → z_ok fb gt hd up s c) (hc : z_cnt s n ≤ bm) (hrm : z_cnt s n ≤ bm → ((∀ y, y < 3 → z_rm (z_usr gt s n) y ≤ rm y) ↔ (z_use gt s 0 n ≤ rm 0 ∧ z_use gt s 1 n ≤ rm 1 ∧ z_use gt s 2 n ≤ rm 2)))
    (h : (v = 1 ∧ z_pow pn s i ≤ lim ∧ (∀ y, y < 3 → z_rm (z_usr gt s i) y ≤ rm y)) ∨ (v = 0 ∧ ¬ (z_pow pn s i ≤ lim ∧ (∀ y, y < 3 → z_rm (z_usr gt s i) y ≤ rm y)))) : v = q_b (z_leg n bm lim fb gt hd pn up rm s) := by
  have e : i = n := by omega
  subst e
  rcases h with ⟨rfl, h1, h2⟩ | ⟨rfl, h⟩
  · exact q_bt ⟨hall, hc, h1, (hrm hc).mp h2⟩
  · exact q_bf (fun q => h ⟨q.2.2.1, (hrm hc).mpr q.2.2.2⟩)
set_option maxHeartbeats 4000000 in
set_option maxRecDepth 100000 in
theorem c_X2_allows {n : Nat} {sB tB : Bool} {f : Nat → Nat → Int32} {g : Nat → Nat → Int64} (hn : f 1 1 = nI n) (h10 : n ≤ 10) (hgt : ∀ c, c < n → ∃ j : Nat, j ≤ 2 ∧ f (c + 40) 3 = nI j) (hbm : ∃ b : Nat, b ≤ 4 ∧ f 1 4 = nI b) (s : Nat) (hs : s < 2 ^ n) : q_ConI yX2_allows cX2_allows 6 (some .boolean) 1 22 tyX (alX n sB tB) [.ref 1, .int (nI s)] (f, g, rfX n sB tB) (fun v h' => v = q_b (z_legX n f s) ∧ h' = (f, g, rfX n sB tB)) := by
  refine q_Con.of RX2 [some (.ref 1), some (.int (nI s)), none, none, none, none] (by decide +kernel) rfl rfl (Nat.le_of_ble_eq_true rfl) (fun C ad E Z => ?_)
  have p10 : 2 ^ n ≤ 2 ^ 10 := Nat.pow_le_pow_right (by decide) h10
  have hs10 : s < 1024 := by omega
  have hcn : z_cnt s 10 = z_cnt s n := z_cnt_n hs h10
  obtain ⟨b, hb4, eb⟩ := hbm
  obtain ⟨u0, u1, u2, e1, e2, e3, e4, e5, e6⟩ := z_users (s := s) (gt := (fun c => f (c + 40) 3)) hgt
  have hrm : z_cnt s n ≤ f 1 4 → ((∀ y, y < 3 → z_rm (z_usr (fun c => f (c + 40) 3) s n) y ≤ f 9 y) ↔ (z_use (fun c => f (c + 40) 3) s 0 n ≤ f 9 0 ∧ z_use (fun c => f (c + 40) 3) s 1 n ≤ f 9 1 ∧ z_use (fun c => f (c + 40) 3) s 2 n ≤ f 9 2)) := by
    intro hc
    rw [e5, eb, nI_leI (by omega) (by omega)] at hc
    obtain ⟨r0, r1, r2⟩ := z_room (u0 := u0) (u1 := u1) (u2 := u2) (by omega)
    rw [e1, e2, e3, e4]
    constructor
    · intro q
      exact ⟨r0 ▸ q 0 (by omega), r1 ▸ q 1 (by omega), r2 ▸ q 2 (by omega)⟩
    · rintro ⟨q0, q1, q2⟩ y hy
      rcases (by omega : y = 0 ∨ y = 1 ∨ y = 2) with rfl | rfl | rfl
      · rw [r0]; exact q0
      · rw [r1]; exact q1
      · rw [r2]; exact q2
  have L : z_cnt s n ≤ f 1 4 → ∀ i, i ≤ n → (∀ c, c < i → s.testBit c = true → z_ok (fun c => f (c + 40) 8) (fun c => f (c + 40) 3) (fun c => f (c + 40) 7) (f 10) s c) → ∀ x5 : Option Value, q_nl [some (.ref 1), some (.int (nI s)), some (.int (z_pow (fun c => f (c + 40) 0 * (2 + f (c + 40) 4) / 2) s i)), some (.int (z_usr (fun c => f (c + 40) 3) s i)), some (.int (nI i)), x5] 5 = true → gg C tyX 6 0 0 (alX n sB tB) ad 20 [some (.ref 1), some (.int (nI s)), some (.int (z_pow (fun c => f (c + 40) 0 * (2 + f (c + 40) 4) / 2) s i)), some (.int (z_usr (fun c => f (c + 40) 3) s i)), some (.int (nI i)), x5] [] (f, g, rfX n sB tB) := by
    intro hcb
    refine q_loop n (fun i hi ih hall x5 hx5 => ?_)
    refine g_iload_4 E dX2_allows_20 ?_
    refine g_aload_0 E dX2_allows_22 ?_
    refine g_getI E (by first | assumption | rfl) (by first | assumption | rfl) fl_X2_38 rfl dX2_allows_23 ?_
    refine g_icmp_ge (tgt := 106) E dX2_allows_26 (by decide) (fun c_26 => ?_) (fun c_26 => ?_)
    · have e_26 := (q_ge (x := n) (y := i) hn rfl (by omega) (by omega)).mp c_26
      refine g_iload_2 E dX2_allows_106 ?_
      refine g_aload_0 E dX2_allows_107 ?_
      refine g_getI E (by first | assumption | rfl) (by first | assumption | rfl) fl_X2_29 rfl dX2_allows_108 ?_
      refine g_icmp_gt (tgt := 126) E dX2_allows_111 (by decide) (fun c_111 => ?_) (fun c_111 => ?_)
      · refine g_iconst (v := 0) E dX2_allows_126 (by decide) ?_
        exact g_zret E Z dX2_allows_127 rfl ⟨_, rfl, ⟨z_endX (by omega) hall hcb hrm (by first | exact Or.inl ⟨rfl, Int32.not_lt.mp c_111, z_rm3_iff.mp k_119⟩ | exact Or.inr ⟨rfl, fun q => Int32.not_le.mpr c_111 q.1⟩ | exact Or.inr ⟨rfl, fun q => k_119 (z_rm3_iff.mpr q.2)⟩), rfl⟩⟩
      · refine g_aload_0 E dX2_allows_114 ?_
        refine g_iload_3 E dX2_allows_115 ?_
        refine g_cVi1 E (c_X2_haveRoom _) cw_X2_64 (by decide) (by decide) (by first | assumption | rfl) (by first | assumption | rfl) (Nat.le_of_ble_eq_true rfl) dX2_allows_116 (fun v_116 h_116 hp => ?_)
        obtain ⟨rfl, rfl⟩ := hp
        refine g_if_eq (tgt := 126) E dX2_allows_119 (by decide) (fun c_119 => ?_) (fun c_119 => ?_)
        · have k_119 := q_b0.mp c_119
          refine g_iconst (v := 0) E dX2_allows_126 (by decide) ?_
          exact g_zret E Z dX2_allows_127 rfl ⟨_, rfl, ⟨z_endX (by omega) hall hcb hrm (by first | exact Or.inl ⟨rfl, Int32.not_lt.mp c_111, z_rm3_iff.mp k_119⟩ | exact Or.inr ⟨rfl, fun q => Int32.not_le.mpr c_111 q.1⟩ | exact Or.inr ⟨rfl, fun q => k_119 (z_rm3_iff.mpr q.2)⟩), rfl⟩⟩
        · have k_119 := q_b1.mp c_119
          refine g_iconst (v := 1) E dX2_allows_122 (by decide) ?_
          refine g_goto (tgt := 127) E dX2_allows_123 (by decide) ?_
          exact g_zret E Z dX2_allows_127 rfl ⟨_, rfl, ⟨z_endX (by omega) hall hcb hrm (by first | exact Or.inl ⟨rfl, Int32.not_lt.mp c_111, z_rm3_iff.mp k_119⟩ | exact Or.inr ⟨rfl, fun q => Int32.not_le.mpr c_111 q.1⟩ | exact Or.inr ⟨rfl, fun q => k_119 (z_rm3_iff.mpr q.2)⟩), rfl⟩⟩
    · have e_26 := (not_congr (q_ge (x := n) (y := i) hn rfl (by omega) (by omega))).mp c_26
      have hac : alX n sB tB (i + 40) = true := alX_c (by omega)
      have htc : tyX (i + 40) = .inr 0 := tyX_c (by omega)
      have hrc : rfX n sB tB 8 i = some (i + 40) := rfX_c (by omega)
      obtain ⟨j, hj, ej⟩ := hgt i (by omega)
      have kj : (f (i + 40) 3).toNatClampNeg = j := by rw [ej]; exact nI_clamp (by omega)
      refine g_iload_1 E dX2_allows_29 ?_
      refine g_iload_4 E dX2_allows_30 ?_
      refine g_cSi2 E (c_X7_contains _ _) cw_X2_47 (by decide) (by decide) (Nat.le_of_ble_eq_true rfl) dX2_allows_32 (fun v_32 h_32 hp => ?_)
      obtain ⟨rfl, rfl⟩ := hp
      refine g_if_eq (tgt := 100) E dX2_allows_35 (by decide) (fun c_35 => ?_) (fun c_35 => ?_)
      · have k_35 := q_b0.mp c_35
        have hb : ¬ s.testBit i = true := (q_bit0 hs10 (by omega)).mp (Classical.not_not.mp k_35)
        refine g_iinc_4 (u := 1) E dX2_allows_100 (by decide) (by decide) rfl ?_
        refine g_goto (tgt := 20) E dX2_allows_103 (by decide) ?_
        rw [nI_1]
        first
        | (have e := ih (by omega) (fun c hc hcb => by
            by_cases ec : c = i
            · subst ec; exact ⟨c_54, by show ¬ f 10 (f (c + 40) 3).toNatClampNeg = 0; rw [kj]; exact c_75, c_62⟩
            · exact hall c (by omega) hcb) (some (.ref (i + 40))) rfl
           rw [z_pow_t hb, z_usr_t hb] at e
           exact e)
        | (have e := ih (by omega) (fun c hc hcb => by
            by_cases ec : c = i
            · subst ec; exact absurd hcb hb
            · exact hall c (by omega) hcb) x5 rfl
           rw [z_pow_f hb, z_usr_f hb] at e
           exact e)
      · have k_35 := q_b1.mp c_35
        have hb : s.testBit i = true := Classical.byContradiction (fun q => k_35 ((q_bit0 hs10 (by omega)).mpr q))
        refine g_aload_0 E dX2_allows_38 ?_
        refine g_getR E (by first | assumption | rfl) (by first | assumption | rfl) fl_X2_11 rfl (by first | assumption | rfl) dX2_allows_39 ?_
        refine g_iload_4 E dX2_allows_42 ?_
        first | refine g_aald E (by first | assumption | rfl) (by first | assumption | rfl) dX2_allows_44 (q_ix_n (by omega)) (by first | assumption | rfl) ?_ | refine g_aaldJ E (by first | assumption | rfl) (by first | assumption | rfl) dX2_allows_44 (q_ix_n (by omega)) (by first | assumption | rfl) ?_
        refine g_astore_5 E dX2_allows_45 (by decide) rfl ?_
        refine g_aload_5 E dX2_allows_47 ?_
        refine g_getI E (by first | assumption | rfl) (by first | assumption | rfl) fl_X2_51 rfl dX2_allows_49 ?_
        refine g_iload_1 E dX2_allows_52 ?_
        refine g_iand E dX2_allows_53 ?_
        refine g_if_ne (tgt := 78) E dX2_allows_54 (by decide) (fun c_54 => ?_) (fun c_54 => ?_)
        · refine g_iconst (v := 0) E dX2_allows_78 (by decide) ?_
          exact g_zret E Z dX2_allows_79 rfl ⟨_, rfl, ⟨q_bf (fun q => by have z := q.1 i (by omega) hb; first | exact c_54 z.1 | exact z.2.2 c_62 | exact z.2.1 (by show f 10 (f (i + 40) 3).toNatClampNeg = 0; rw [kj]; exact c_75)), rfl⟩⟩
        · refine g_aload_5 E dX2_allows_57 ?_
          refine g_getI E (by first | assumption | rfl) (by first | assumption | rfl) fl_X2_54 rfl dX2_allows_59 ?_
          refine g_if_gt (tgt := 78) E dX2_allows_62 (by decide) (fun c_62 => ?_) (fun c_62 => ?_)
          · refine g_iconst (v := 0) E dX2_allows_78 (by decide) ?_
            exact g_zret E Z dX2_allows_79 rfl ⟨_, rfl, ⟨q_bf (fun q => by have z := q.1 i (by omega) hb; first | exact c_54 z.1 | exact z.2.2 c_62 | exact z.2.1 (by show f 10 (f (i + 40) 3).toNatClampNeg = 0; rw [kj]; exact c_75)), rfl⟩⟩
          · refine g_aload_0 E dX2_allows_65 ?_
            refine g_getR E (by first | assumption | rfl) (by first | assumption | rfl) fl_X2_21 rfl (by first | assumption | rfl) dX2_allows_66 ?_
            refine g_aload_5 E dX2_allows_69 ?_
            refine g_getI E (by first | assumption | rfl) (by first | assumption | rfl) fl_X2_57 rfl dX2_allows_71 ?_
            first | refine g_zald E (by first | assumption | rfl) (by first | assumption | rfl) dX2_allows_74 (q_ix_e (j := j) ej (by omega)) ?_ | refine g_bald E (by first | assumption | rfl) (by first | assumption | rfl) dX2_allows_74 (q_ix_e (j := j) ej (by omega)) ?_
            refine g_if_ne (tgt := 80) E dX2_allows_75 (by decide) (fun c_75 => ?_) (fun c_75 => ?_)
            · refine g_iload_2 E dX2_allows_80 ?_
              refine g_aload_5 E dX2_allows_81 ?_
              refine g_cVi0 E (c_X0_powerNow i (by omega) h10) cw_X2_60 (by decide) (by decide) (by first | assumption | rfl) (by first | assumption | rfl) (Nat.le_of_ble_eq_true rfl) dX2_allows_83 (fun v_83 h_83 hp => ?_)
              obtain ⟨rfl, rfl⟩ := hp
              refine g_iadd E dX2_allows_86 ?_
              refine g_istore_2 E dX2_allows_87 (by decide) rfl ?_
              refine g_iload_3 E dX2_allows_88 ?_
              refine g_iconst (v := 1) E dX2_allows_89 (by decide) ?_
              refine g_iconst (v := 4) E dX2_allows_90 (by decide) ?_
              refine g_aload_5 E dX2_allows_91 ?_
              refine g_getI E (by first | assumption | rfl) (by first | assumption | rfl) fl_X2_57 rfl dX2_allows_93 ?_
              refine g_imul E dX2_allows_96 ?_
              refine g_ishl E dX2_allows_97 ?_
              refine g_iadd E dX2_allows_98 ?_
              refine g_istore_3 E dX2_allows_99 (by decide) rfl ?_
              refine g_iinc_4 (u := 1) E dX2_allows_100 (by decide) (by decide) rfl ?_
              refine g_goto (tgt := 20) E dX2_allows_103 (by decide) ?_
              rw [nI_1]
              first
              | (have e := ih (by omega) (fun c hc hcb => by
                  by_cases ec : c = i
                  · subst ec; exact ⟨c_54, by show ¬ f 10 (f (c + 40) 3).toNatClampNeg = 0; rw [kj]; exact c_75, c_62⟩
                  · exact hall c (by omega) hcb) (some (.ref (i + 40))) rfl
                 rw [z_pow_t hb, z_usr_t hb] at e
                 exact e)
              | (have e := ih (by omega) (fun c hc hcb => by
                  by_cases ec : c = i
                  · subst ec; exact absurd hcb hb
                  · exact hall c (by omega) hcb) x5 rfl
                 rw [z_pow_f hb, z_usr_f hb] at e
                 exact e)
            · refine g_iconst (v := 0) E dX2_allows_78 (by decide) ?_
              exact g_zret E Z dX2_allows_79 rfl ⟨_, rfl, ⟨q_bf (fun q => by have z := q.1 i (by omega) hb; first | exact c_54 z.1 | exact z.2.2 c_62 | exact z.2.1 (by show f 10 (f (i + 40) 3).toNatClampNeg = 0; rw [kj]; exact c_75)), rfl⟩⟩
  refine g_iload_1 E dX2_allows_0 ?_
  refine g_cSi1 E (c_J6_bitCount_0f7a4 _) cw_X2_41 (by decide) (by decide) (Nat.le_of_ble_eq_true rfl) dX2_allows_1 (fun v_1 h_1 hp => ?_)
  obtain ⟨rfl, rfl⟩ := hp
  refine g_aload_0 E dX2_allows_4 ?_
  refine g_getI E (by first | assumption | rfl) (by first | assumption | rfl) fl_X2_25 rfl dX2_allows_5 ?_
  refine g_icmp_le (tgt := 13) E dX2_allows_8 (by decide) (fun c_8 => ?_) (fun c_8 => ?_)
  · refine g_iconst (v := 0) E dX2_allows_13 (by decide) ?_
    refine g_istore_2 E dX2_allows_14 (by decide) rfl ?_
    refine g_iconst (v := 0) E dX2_allows_15 (by decide) ?_
    refine g_istore_3 E dX2_allows_16 (by decide) rfl ?_
    refine g_iconst (v := 0) E dX2_allows_17 (by decide) ?_
    refine g_istore_4 E dX2_allows_18 (by decide) rfl ?_
    exact L (by rw [← hcn, ← q_bcA s hs10]; exact c_8) 0 (Nat.zero_le _) (fun c hc => absurd hc (Nat.not_lt_zero c)) none rfl
  · refine g_iconst (v := 0) E dX2_allows_11 (by decide) ?_
    exact g_zret E Z dX2_allows_12 rfl ⟨_, rfl, ⟨q_bf (fun q => c_8 (by rw [q_bcA s hs10, hcn]; exact q.2.1)), rfl⟩⟩
set_option maxHeartbeats 4000000 in
set_option maxRecDepth 100000 in
theorem c_X7_legal {n : Nat} {sB tB : Bool} {f : Nat → Nat → Int32} {g : Nat → Nat → Int64} (hn : f 1 1 = nI n) (h10 : n ≤ 10) (hgt : ∀ c, c < n → ∃ j : Nat, j ≤ 2 ∧ f (c + 40) 3 = nI j) (hbm : ∃ b : Nat, b ≤ 4 ∧ f 1 4 = nI b) (x : Int32) : q_ConI yX7_legal cX7_legal 2 (some .int) 2 47 tyX (alX n sB tB) [.ref 0, .int x] (f, g, rfX n sB tB) (fun v h' => v = (if 0 ≤ x.toInt ∧ x.toInt < 2 ^ n then q_b (z_legX n f x.toNatClampNeg) else -2) ∧ h' = (f, g, rfX n sB tB)) := by
  refine q_Con.of RX7 [some (.ref 0), some (.int x)] (by decide +kernel) rfl rfl (Nat.le_of_ble_eq_true rfl) (fun C ad E Z => ?_)
  have p10 : 2 ^ n ≤ 2 ^ 10 := Nat.pow_le_pow_right (by decide) h10
  have h0 : 0 < 2 ^ n := Nat.pow_pos (by decide)
  have hpc : ((2 ^ n : Nat) : Int) = (2 : Int) ^ n := by simp
  have hpi : (nI (2 ^ n - 1)).toInt64.toInt = (2 : Int) ^ n - 1 := by
    rw [q_32, nI_toInt (by omega), ← hpc]
    generalize 2 ^ n = P at h0
    omega
  refine g_iload_1 E dX7_legal_0 ?_
  refine g_i2l E dX7_legal_1 ?_
  refine g_lconst (v := 0) E dX7_legal_2 (by decide) ?_
  refine g_aload_0 E dX7_legal_3 ?_
  refine g_getR E (by first | assumption | rfl) (by first | assumption | rfl) fl_X7_12 rfl (by first | assumption | rfl) dX7_legal_4 ?_
  refine g_cVi0 E (c_X2_allCells (by exact hn) h10) cw_X7_131 (by decide) (by decide) (by first | assumption | rfl) (by first | assumption | rfl) (Nat.le_of_ble_eq_true rfl) dX7_legal_7 (fun v_7 h_7 hp => ?_)
  obtain ⟨rfl, rfl⟩ := hp
  refine g_i2l E dX7_legal_10 ?_
  refine g_cSi3 E (c_X7_isWithinI _ _ _ 0 ((2 : Int) ^ n - 1) (by decide) hpi) cw_X7_47 (by decide) (by decide) (Nat.le_of_ble_eq_true rfl) dX7_legal_11 (fun v_11 h_11 hp => ?_)
  obtain ⟨rfl, rfl⟩ := hp
  refine g_if_ne (tgt := 20) E dX7_legal_14 (by decide) (fun c_14 => ?_) (fun c_14 => ?_)
  · have k_14 := q_b1.mp c_14
    have k2 : x.toInt < ((2 ^ n : Nat) : Int) := by have := k_14.2; rw [hpc]; omega
    have k1 : 0 ≤ x.toInt ∧ x.toInt < (2 : Int) ^ n := ⟨k_14.1, by rw [← hpc]; exact k2⟩
    obtain ⟨s, hs, rfl⟩ := q_nat (b := 2 ^ n - 1) k_14.1 (by generalize 2 ^ n = P at k2 h0; omega)
    have ks : (nI s).toNatClampNeg = s := nI_clamp (by omega)
    refine g_aload_0 E dX7_legal_20 ?_
    refine g_getR E (by first | assumption | rfl) (by first | assumption | rfl) fl_X7_12 rfl (by first | assumption | rfl) dX7_legal_21 ?_
    refine g_iload_1 E dX7_legal_24 ?_
    refine g_cVi1 E (c_X2_allows (by exact hn) h10 (by exact hgt) (by exact hbm) s (by omega)) cw_X7_135 (by decide) (by decide) (by first | assumption | rfl) (by first | assumption | rfl) (Nat.le_of_ble_eq_true rfl) dX7_legal_25 (fun v_25 h_25 hp => ?_)
    obtain ⟨rfl, rfl⟩ := hp
    refine g_if_eq (tgt := 35) E dX7_legal_28 (by decide) (fun c_28 => ?_) (fun c_28 => ?_)
    · have k_28 := q_b0.mp c_28
      refine g_iconst (v := 0) E dX7_legal_35 (by decide) ?_
      exact g_iret E Z dX7_legal_36 ⟨_, rfl, ⟨by rw [if_pos k1, ks]; first | exact q_bt k_28 | exact q_bf k_28, rfl⟩⟩
    · have k_28 := q_b1.mp c_28
      refine g_iconst (v := 1) E dX7_legal_31 (by decide) ?_
      refine g_goto (tgt := 36) E dX7_legal_32 (by decide) ?_
      exact g_iret E Z dX7_legal_36 ⟨_, rfl, ⟨by rw [if_pos k1, ks]; first | exact q_bt k_28 | exact q_bf k_28, rfl⟩⟩
  · have k_14 := q_b0.mp c_14
    refine g_bipush (v := -2) E dX7_legal_17 (by decide) ?_
    exact g_iret E Z dX7_legal_19 ⟨_, rfl, ⟨by rw [if_neg (fun q => k_14 ⟨q.1, by have := q.2; omega⟩)], rfl⟩⟩
set_option maxHeartbeats 4000000 in
set_option maxRecDepth 100000 in
theorem c_X3_has {n : Nat} {sB tB : Bool} {f : Nat → Nat → Int32} {g : Nat → Nat → Int64} (x : Int32) : q_ConI yX3_has cX3_has 2 (some .boolean) 0 0 tyX (alX n sB tB) [.ref 2, .int x] (f, g, rfX n sB tB) (fun v h' => v = q_b (0 ≤ x.toInt ∧ x.toInt < 1024 ∧ ¬ f 11 x.toNatClampNeg = 0) ∧ h' = (f, g, rfX n sB tB)) := by
  refine q_Con.of RX3 [some (.ref 2), some (.int x)] (by decide +kernel) rfl rfl (Nat.le_of_ble_eq_true rfl) (fun C ad E Z => ?_)
  refine g_iload_1 E dX3_has_0 ?_
  refine g_if_lt (tgt := 24) E dX3_has_1 (by decide) (fun c_1 => ?_) (fun c_1 => ?_)
  · have k_1 := c_1
    simp only [q_ilt, q_ile, q_ieq, Int32.reduceToInt, Int32.toInt_zero] at k_1
    refine g_iconst (v := 0) E dX3_has_24 (by decide) ?_
    exact g_zret E Z dX3_has_25 rfl ⟨_, rfl, ⟨by first | exact q_bf (by omega) | exact q_bt ⟨by omega, by omega, by rw [ks]; exact c_17⟩ | exact q_bf (fun q => by rw [ks] at q; exact q.2.2 c_17), rfl⟩⟩
  · have k_1 := c_1
    simp only [q_ilt, q_ile, q_ieq, Int32.reduceToInt, Int32.toInt_zero] at k_1
    refine g_iload_1 E dX3_has_4 ?_
    refine g_sipush (v := 1024) E dX3_has_5 (by decide) ?_
    refine g_icmp_ge (tgt := 24) E dX3_has_8 (by decide) (fun c_8 => ?_) (fun c_8 => ?_)
    · have k_8 := c_8
      simp only [q_ilt, q_ile, q_ieq, Int32.reduceToInt, Int32.toInt_zero] at k_8
      refine g_iconst (v := 0) E dX3_has_24 (by decide) ?_
      exact g_zret E Z dX3_has_25 rfl ⟨_, rfl, ⟨by first | exact q_bf (by omega) | exact q_bt ⟨by omega, by omega, by rw [ks]; exact c_17⟩ | exact q_bf (fun q => by rw [ks] at q; exact q.2.2 c_17), rfl⟩⟩
    · have k_8 := c_8
      simp only [q_ilt, q_ile, q_ieq, Int32.reduceToInt, Int32.toInt_zero] at k_8
      obtain ⟨s, hs, rfl⟩ := q_nat (b := 1023) (x := x) (by omega) (by omega)
      have ks : (nI s).toNatClampNeg = s := nI_clamp (by omega)
      refine g_aload_0 E dX3_has_11 ?_
      refine g_getR E (by first | assumption | rfl) (by first | assumption | rfl) fl_X3_9 rfl (by first | assumption | rfl) dX3_has_12 ?_
      refine g_iload_1 E dX3_has_15 ?_
      first | refine g_zald E (by first | assumption | rfl) (by first | assumption | rfl) dX3_has_16 (q_ix_n (by omega)) ?_ | refine g_bald E (by first | assumption | rfl) (by first | assumption | rfl) dX3_has_16 (q_ix_n (by omega)) ?_
      refine g_if_eq (tgt := 24) E dX3_has_17 (by decide) (fun c_17 => ?_) (fun c_17 => ?_)
      · refine g_iconst (v := 0) E dX3_has_24 (by decide) ?_
        exact g_zret E Z dX3_has_25 rfl ⟨_, rfl, ⟨by first | exact q_bf (by omega) | exact q_bt ⟨by omega, by omega, by rw [ks]; exact c_17⟩ | exact q_bf (fun q => by rw [ks] at q; exact q.2.2 c_17), rfl⟩⟩
      · refine g_iconst (v := 1) E dX3_has_20 (by decide) ?_
        refine g_goto (tgt := 25) E dX3_has_21 (by decide) ?_
        exact g_zret E Z dX3_has_25 rfl ⟨_, rfl, ⟨by first | exact q_bf (by omega) | exact q_bt ⟨by omega, by omega, by rw [ks]; exact c_17⟩ | exact q_bf (fun q => by rw [ks] at q; exact q.2.2 c_17), rfl⟩⟩
/-- how many below s -/
def z_ct (p : Nat → Bool) : Nat → Nat
  | 0 => 0
  | s + 1 => z_ct p s + (if p s = true then 1 else 0)
/-- their list, laid over a row -/
def z_lst (p : Nat → Bool) (r : Nat → Int32) : Nat → Nat → Int32
  | 0 => r
  | s + 1 => if p s = true then va_up (z_lst p r s) (z_ct p s) (nI s) else z_lst p r s
theorem z_ct_t {p : Nat → Bool} {s : Nat} (h : p s = true) : z_ct p (s + 1) = z_ct p s + 1 := by rw [z_ct, if_pos h]
theorem z_ct_f {p : Nat → Bool} {s : Nat} (h : ¬ p s = true) : z_ct p (s + 1) = z_ct p s := by rw [z_ct, if_neg h, Nat.add_zero]
theorem z_ct_mono {p : Nat → Bool} {a b : Nat} (h : a ≤ b) : z_ct p a ≤ z_ct p b := by
  obtain ⟨d, rfl⟩ : ∃ d, b = a + d := ⟨b - a, by omega⟩
  induction d with
  | zero => exact Nat.le_refl _
  | succ d ih =>
    have := ih (by omega)
    rw [show a + (d + 1) = (a + d) + 1 from rfl, z_ct]
    omega
theorem z_ct_sub {p q : Nat → Bool} {b : Nat} (h : ∀ s, s < b → p s = true → q s = true) : z_ct p b ≤ z_ct q b := by
  induction b with
  | zero => exact Nat.le_refl _
  | succ b ih =>
    have := ih (fun s hs => h s (by omega))
    rw [z_ct, z_ct]
    by_cases e : p b = true
    · rw [if_pos e, if_pos (h b (by omega) e)]; omega
    · rw [if_neg e]; omega
set_option maxRecDepth 100000 in
theorem z_386 : z_ct (fun s => decide (z_cnt s 10 ≤ 4)) 1024 = 386 := by decide +kernel
abbrev z_p (n : Nat) (f : Nat → Nat → Int32) : Nat → Bool := fun s => decide (z_legX n f s)
theorem z_p386 {n : Nat} {f : Nat → Nat → Int32} (h10 : n ≤ 10) (hbm : ∃ b : Nat, b ≤ 4 ∧ f 1 4 = nI b) {s : Nat} (hs : s < 2 ^ n) (h : z_p n f s = true) : z_ct (z_p n f) s < 386 := by
  have p10 : 2 ^ n ≤ 2 ^ 10 := Nat.pow_le_pow_right (by decide) h10
  obtain ⟨b, hb, eb⟩ := hbm
  have h1 : z_ct (z_p n f) (s + 1) ≤ z_ct (fun s => decide (z_cnt s 10 ≤ 4)) (s + 1) := z_ct_sub (fun t ht hp => by
    have hl : z_legX n f t := of_decide_eq_true hp
    refine decide_eq_true ?_
    rw [z_cnt_n (show t < 2 ^ n by omega) h10]
    refine Int32.le_trans hl.2.1 ?_
    rw [eb]
    exact nI_le (a := b) (b := 4) hb (by decide))
  have h2 := z_ct_mono (p := fun s => decide (z_cnt s 10 ≤ 4)) (show s + 1 ≤ 1024 by omega)
  rw [z_386] at h2
  rw [z_ct_t h] at h1
  omega
/-- what find leaves -/
def z_fnd (n : Nat) (f : Nat → Nat → Int32) (s : Nat) : Nat → Nat → Int32 := fun a => if a = 2 then va_up (f 2) 2 (nI (z_ct (z_p n f) s)) else if a = 11 then (fun t => if t < s then q_b (z_legX n f t) else f 11 t) else if a = 12 then z_lst (z_p n f) (f 12) s else f a
theorem z_fnd_0 {n : Nat} {f : Nat → Nat → Int32} : z_fnd n f 0 = q_up f 2 2 0 := by
  funext a
  unfold z_fnd
  by_cases e : a = 2
  · subst e; rw [if_pos rfl, q_up_eq]; rfl
  · rw [if_neg e, q_up_ne e]
    by_cases e2 : a = 11
    · subst e2; rw [if_pos rfl]; funext t; exact if_neg (Nat.not_lt_zero t)
    · rw [if_neg e2]
      by_cases e3 : a = 12
      · subst e3; rw [if_pos rfl]; rfl
      · rw [if_neg e3]
theorem z_row {n : Nat} {f : Nat → Nat → Int32} {s : Nat} : va_up (fun t => if t < s then q_b (z_legX n f t) else f 11 t) s (q_b (z_legX n f s)) = (fun t => if t < s + 1 then q_b (z_legX n f t) else f 11 t) := by
  funext t
  by_cases e : t = s
  · subst e; rw [va_up_s, if_pos (by omega)]
  · rw [va_up_n e]
    by_cases e2 : t < s
    · rw [if_pos e2, if_pos (by omega)]
    · rw [if_neg e2, if_neg (by omega)]
theorem z_fnd_f {n : Nat} {f : Nat → Nat → Int32} {s : Nat} (h : ¬ z_p n f s = true) : z_fnd n f (s + 1) = q_up (z_fnd n f s) 11 s (q_b (z_legX n f s)) := by
  funext a
  by_cases e2 : a = 11
  · subst e2; rw [q_up_eq]; exact z_row.symm
  · rw [q_up_ne e2]
    unfold z_fnd
    rw [z_ct_f h, z_lst, if_neg h, if_neg e2, if_neg e2]
theorem z_fnd_t {n : Nat} {f : Nat → Nat → Int32} {s : Nat} (h : z_p n f s = true) : z_fnd n f (s + 1) = q_up (q_up (q_up (z_fnd n f s) 11 s (q_b (z_legX n f s))) 12 (z_ct (z_p n f) s) (nI s)) 2 2 (q_up (q_up (z_fnd n f s) 11 s (q_b (z_legX n f s))) 12 (z_ct (z_p n f) s) (nI s) 2 2 + 1) := by
  have e0 : q_up (q_up (z_fnd n f s) 11 s (q_b (z_legX n f s))) 12 (z_ct (z_p n f) s) (nI s) 2 = va_up (f 2) 2 (nI (z_ct (z_p n f) s)) := rfl
  rw [e0, va_up_s, nI_1]
  funext a
  by_cases e : a = 2
  · subst e; rw [q_up_eq, e0, va_up_u]
    show va_up (f 2) 2 (nI (z_ct (z_p n f) (s + 1))) = _
    rw [z_ct_t h]
  · rw [q_up_ne e]
    by_cases e3 : a = 12
    · subst e3; rw [q_up_eq, q_up_ne (by decide)]
      show z_lst (z_p n f) (f 12) (s + 1) = va_up (z_lst (z_p n f) (f 12) s) _ _
      rw [z_lst, if_pos h]
    · rw [q_up_ne e3]
      by_cases e2 : a = 11
      · subst e2; rw [q_up_eq]; exact z_row.symm
      · rw [q_up_ne e2]
        unfold z_fnd
        rw [if_neg e, if_neg e2, if_neg e3, if_neg e, if_neg e2, if_neg e3]
set_option maxHeartbeats 4000000 in
set_option maxRecDepth 100000 in
theorem c_X3_find {n : Nat} {sB tB : Bool} {f : Nat → Nat → Int32} {g : Nat → Nat → Int64} (hn : f 1 1 = nI n) (h10 : n ≤ 10) (hgt : ∀ c, c < n → ∃ j : Nat, j ≤ 2 ∧ f (c + 40) 3 = nI j) (hbm : ∃ b : Nat, b ≤ 4 ∧ f 1 4 = nI b) : q_ConV yX3_find cX3_find 4 none 2 47 tyX (alX n sB tB) [.ref 2, .ref 1] (f, g, rfX n sB tB) (fun h' => h' = (z_fnd n f (2 ^ n), g, rfX n sB tB)) := by
  refine q_Con.of RX3 [some (.ref 2), some (.ref 1), none, none] (by decide +kernel) rfl rfl (Nat.le_of_ble_eq_true rfl) (fun C ad E Z => ?_)
  have p10 : 2 ^ n ≤ 2 ^ 10 := Nat.pow_le_pow_right (by decide) h10
  have h0 : 0 < 2 ^ n := Nat.pow_pos (by decide)
  have hF40 : ∀ s c, z_fnd n f s (c + 40) = f (c + 40) := fun s c => by
    unfold z_fnd; rw [if_neg (by omega), if_neg (by omega), if_neg (by omega)]
  have hleg : ∀ s t, z_legX n (z_fnd n f s) t ↔ z_legX n f t := fun s t => z_legX_congr rfl (hF40 s) rfl rfl
  have L : ∀ s, s ≤ 2 ^ n → gg C tyX 4 0 0 (alX n sB tB) ad 18 [some (.ref 2), some (.ref 1), some (.int (nI (2 ^ n - 1))), some (.int (nI s))] [] (z_fnd n f s, g, rfX n sB tB) := by
    refine q_loop (2 ^ n) (fun s hs ih => ?_)
    have hgt1 : ∀ c, c < n → ∃ j : Nat, j ≤ 2 ∧ z_fnd n f s (c + 40) 3 = nI j := fun c hc => by rw [hF40]; exact hgt c hc
    have e11 : q_up (z_fnd n f s) 11 s (q_b (z_legX n f s)) 11 s = q_b (z_legX n f s) := q_ups
    refine g_iload_3 E dX3_find_18 ?_
    refine g_iload_2 E dX3_find_19 ?_
    refine g_icmp_gt (tgt := 79) E dX3_find_20 (by decide) (fun c_20 => ?_) (fun c_20 => ?_)
    · have e20 : 2 ^ n - 1 < s := (nI_ltI (by omega) (by omega)).mp c_20
      exact g_vret E Z dX3_find_79 ⟨rfl, (by rw [show s = 2 ^ n by omega])⟩
    · have e20 : ¬ 2 ^ n - 1 < s := fun q => c_20 ((nI_ltI (by omega) (by omega)).mpr q)
      refine g_aload_0 E dX3_find_23 ?_
      refine g_getR E (by first | assumption | rfl) (by first | assumption | rfl) fl_X3_9 rfl (by first | assumption | rfl) dX3_find_24 ?_
      refine g_iload_3 E dX3_find_27 ?_
      refine g_aload_1 E dX3_find_28 ?_
      refine g_iload_3 E dX3_find_29 ?_
      refine g_cVi1 E (c_X2_allows (by exact hn) h10 (by exact hgt1) (by exact hbm) s (by omega)) cw_X3_38 (by decide) (by decide) (by first | assumption | rfl) (by first | assumption | rfl) (Nat.le_of_ble_eq_true rfl) dX3_find_30 (fun v_30 h_30 hp => ?_)
      obtain ⟨rfl, rfl⟩ := hp
      rw [q_bi (hleg s s)]
      first | refine g_zast E (by first | assumption | rfl) (by first | assumption | rfl) dX3_find_33 (q_ix_n (by omega)) q_bn ?_ | refine g_bast E (by first | assumption | rfl) (by first | assumption | rfl) dX3_find_33 (q_ix_n (by omega)) q_bn ?_
      refine g_aload_0 E dX3_find_34 ?_
      refine g_getR E (by first | assumption | rfl) (by first | assumption | rfl) fl_X3_9 rfl (by first | assumption | rfl) dX3_find_35 ?_
      refine g_iload_3 E dX3_find_38 ?_
      first | refine g_zald E (by first | assumption | rfl) (by first | assumption | rfl) dX3_find_39 (q_ix_n (by omega)) ?_ | refine g_bald E (by first | assumption | rfl) (by first | assumption | rfl) dX3_find_39 (q_ix_n (by omega)) ?_
      refine g_if_eq (tgt := 73) E dX3_find_40 (by decide) (fun c_40 => ?_) (fun c_40 => ?_)
      · have k_40 : ¬ z_legX n f s := q_b0.mp (e11.symm.trans c_40)
        refine g_iinc_3 (u := 1) E dX3_find_73 (by decide) (by decide) rfl ?_
        refine g_goto (tgt := 18) E dX3_find_76 (by decide) ?_
        rw [nI_1]
        have e := ih (by omega)
        first
        | (rw [z_fnd_t (by exact decide_eq_true k_40)] at e; exact e)
        | (rw [z_fnd_f (by exact fun q => k_40 (of_decide_eq_true q))] at e; exact e)
      · have k_40 : z_legX n f s := q_b1.mp (fun q => c_40 (e11.trans q))
        have h386 := z_p386 h10 hbm (show s < 2 ^ n by omega) (decide_eq_true k_40)
        have e2 : q_up (z_fnd n f s) 11 s (q_b (z_legX n f s)) 2 2 = nI (z_ct (z_p n f) s) := by rw [q_up_ne (by decide)]; exact (va_up_s : va_up (f 2) 2 (nI (z_ct (z_p n f) s)) 2 = _)
        refine g_aload_0 E dX3_find_43 ?_
        refine g_getI E (by first | assumption | rfl) (by first | assumption | rfl) fl_X3_22 rfl dX3_find_44 ?_
        refine g_sipush (v := 386) E dX3_find_47 (by decide) ?_
        refine g_icmp_ge (tgt := 73) E dX3_find_50 (by decide) (fun c_50 => ?_) (fun c_50 => ?_)
        · exact absurd c_50 (by rw [e2]; exact nI_ge (a := z_ct (z_p n f) s) (b := 386) h386 (by omega))
        · refine g_aload_0 E dX3_find_53 ?_
          refine g_getR E (by first | assumption | rfl) (by first | assumption | rfl) fl_X3_15 rfl (by first | assumption | rfl) dX3_find_54 ?_
          refine g_aload_0 E dX3_find_57 ?_
          refine g_getI E (by first | assumption | rfl) (by first | assumption | rfl) fl_X3_22 rfl dX3_find_58 ?_
          refine g_iload_3 E dX3_find_61 ?_
          refine g_iast E (by first | assumption | rfl) (by first | assumption | rfl) dX3_find_62 (q_ix_e (j := z_ct (z_p n f) s) e2 (by omega)) ?_
          refine g_aload_0 E dX3_find_63 ?_
          first | refine g_dupi E dX3_find_64 ?_ | refine g_dupr E dX3_find_64 ?_
          refine g_getI E (by first | assumption | rfl) (by first | assumption | rfl) fl_X3_22 rfl dX3_find_65 ?_
          refine g_iconst (v := 1) E dX3_find_68 (by decide) ?_
          refine g_iadd E dX3_find_69 ?_
          refine g_putI E (by first | assumption | rfl) (by first | assumption | rfl) fw_X3_22 rfl dX3_find_70 ?_
          refine g_iinc_3 (u := 1) E dX3_find_73 (by decide) (by decide) rfl ?_
          refine g_goto (tgt := 18) E dX3_find_76 (by decide) ?_
          rw [nI_1]
          have e := ih (by omega)
          first
          | (rw [z_fnd_t (by exact decide_eq_true k_40)] at e; exact e)
          | (rw [z_fnd_f (by exact fun q => k_40 (of_decide_eq_true q))] at e; exact e)
  refine g_aload_0 E dX3_find_0 ?_
  refine g_iconst (v := 0) E dX3_find_1 (by decide) ?_
  refine g_putI E (by first | assumption | rfl) (by first | assumption | rfl) fw_X3_22 rfl dX3_find_2 ?_
  refine g_aload_1 E dX3_find_5 ?_
  refine g_cVi0 E (c_X2_allCells (by exact hn) h10) cw_X3_26 (by decide) (by decide) (by first | assumption | rfl) (by first | assumption | rfl) (Nat.le_of_ble_eq_true rfl) dX3_find_6 (fun v_6 h_6 hp => ?_)
  obtain ⟨rfl, rfl⟩ := hp
  refine g_sipush (v := 1023) E dX3_find_9 (by decide) ?_
  refine g_cSi2 E (c_J9_min_7cf53 _ _) cw_X3_32 (by decide) (by decide) (Nat.le_of_ble_eq_true rfl) dX3_find_12 (fun v_12 h_12 hp => ?_)
  obtain ⟨rfl, rfl⟩ := hp
  rw [show (if (1023 : Int32) < nI (2 ^ n - 1) then (1023 : Int32) else nI (2 ^ n - 1)) = nI (2 ^ n - 1) from if_neg (nI_nlt (a := 1023) (b := 2 ^ n - 1) (by omega) (by omega))]
  refine g_istore_2 E dX3_find_15 (by decide) rfl ?_
  refine g_iconst (v := 0) E dX3_find_16 (by decide) ?_
  refine g_istore_3 E dX3_find_17 (by decide) rfl ?_
  have e := L 0 (Nat.zero_le _)
  rw [show z_fnd n f 0 = q_up f 2 2 0 from z_fnd_0] at e
  exact e
set_option maxHeartbeats 4000000 in
set_option maxRecDepth 100000 in
theorem c_X7_sets {n : Nat} {sB tB : Bool} {f : Nat → Nat → Int32} {g : Nat → Nat → Int64} (hn : f 1 1 = nI n) (h10 : n ≤ 10) (hgt : ∀ c, c < n → ∃ j : Nat, j ≤ 2 ∧ f (c + 40) 3 = nI j) (hbm : ∃ b : Nat, b ≤ 4 ∧ f 1 4 = nI b) : q_ConI yX7_sets cX7_sets 1 (some .int) 3 70 tyX (alX n sB tB) [.ref 0] (f, g, rfX n sB tB) (fun v h' => v = nI (z_ct (z_p n f) (2 ^ n)) ∧ h' = (z_fnd n f (2 ^ n), g, rfX n sB tB)) := by
  refine q_Con.of RX7 [some (.ref 0)] (by decide +kernel) rfl rfl (Nat.le_of_ble_eq_true rfl) (fun C ad E Z => ?_)
  refine g_aload_0 E dX7_sets_0 ?_
  refine g_getR E (by first | assumption | rfl) (by first | assumption | rfl) fl_X7_19 rfl (by first | assumption | rfl) dX7_sets_1 ?_
  refine g_aload_0 E dX7_sets_4 ?_
  refine g_getR E (by first | assumption | rfl) (by first | assumption | rfl) fl_X7_12 rfl (by first | assumption | rfl) dX7_sets_5 ?_
  refine g_cVv1 E (c_X3_find (by exact hn) h10 (by exact hgt) (by exact hbm)) cw_X7_138 (by decide) (by decide) (by first | assumption | rfl) (by first | assumption | rfl) (Nat.le_of_ble_eq_true rfl) dX7_sets_8 (fun h_8 hp => ?_)
  subst hp
  refine g_aload_0 E dX7_sets_11 ?_
  refine g_getR E (by first | assumption | rfl) (by first | assumption | rfl) fl_X7_19 rfl (by first | assumption | rfl) dX7_sets_12 ?_
  refine g_getI E (by first | assumption | rfl) (by first | assumption | rfl) fl_X7_142 rfl dX7_sets_15 ?_
  exact g_iret E Z dX7_sets_18 ⟨_, rfl, ⟨(va_up_s : va_up (f 2) 2 (nI (z_ct (z_p n f) (2 ^ n))) 2 = _), rfl⟩⟩
