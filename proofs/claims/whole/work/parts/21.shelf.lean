/-! the class: shelf, small methods -/
set_option maxHeartbeats 4000000 in
set_option maxRecDepth 100000 in
theorem c_J7_fill_d0a16 {ty : Nat → PT} {al : Nat → Bool} {f : Nat → Nat → Int32} {g : Nat → Nat → Int64} {r : Nat → Nat → Option Nat} (a N : Nat) (ha : al a = true) (hty : ty a = .inl (.long, N)) (hN : N < 2 ^ 31) (x : Int64) : q_ConV yJ7_fill_d0a16 cJ7_fill_d0a16 5 none 0 0 ty al [.ref a, .long x] (f, g, r) (fun h' => h' = (f, q_fill g a 0 N (fun _ => x), r)) := by
  refine q_Con.of RJ7 [some (.ref a), some (.long x), none, none, none] (by decide +kernel) rfl rfl (Nat.le_of_ble_eq_true rfl) (fun C ad E Z => ?_)
  have L : ∀ i, i ≤ N → gg C ty 5 0 0 al ad 6 [some (.ref a), some (.long x), none, some (.int (nI i)), some (.int (nI N))] [] (f, q_fill g a 0 i (fun _ => x), r) := q_loop N (fun i hi ih => by
    refine g_iload_3 E dJ7_fill_d0a16_6 ?_
    refine g_iload_4 E dJ7_fill_d0a16_7 ?_
    refine g_icmp_ge (tgt := 22) E dJ7_fill_d0a16_9 (by decide) (fun c_9 => ?_) (fun c_9 => ?_)
    · have e_9 := (q_ge (x := N) (y := i) rfl rfl (by omega) (by omega)).mp c_9
      exact g_vret E Z dJ7_fill_d0a16_22 ⟨rfl, (by rw [show i = N by omega])⟩
    · have e_9 := (not_congr (q_ge (x := N) (y := i) rfl rfl (by omega) (by omega))).mp c_9
      refine g_aload_0 E dJ7_fill_d0a16_12 ?_
      refine g_iload_3 E dJ7_fill_d0a16_13 ?_
      refine g_lload_1 E dJ7_fill_d0a16_14 ?_
      refine g_last E (by assumption) (by assumption) dJ7_fill_d0a16_15 (q_ix_n (by omega) hN) ?_
      refine g_iinc_3 (u := 1) E dJ7_fill_d0a16_16 (by decide) (by decide) rfl ?_
      refine g_goto (tgt := 6) E dJ7_fill_d0a16_19 (by decide) ?_
      have e := q_fill_s (f := g) (a := a) (lo := 0) (n := i) (v := fun _ => x) rfl
      rw [Nat.zero_add] at e
      rw [nI_1]
      exact e ▸ ih (by omega))
  refine g_iconst (v := 0) E dJ7_fill_d0a16_0 (by decide) ?_
  refine g_istore_3 E dJ7_fill_d0a16_1 (by decide) rfl ?_
  refine g_aload_0 E dJ7_fill_d0a16_2 ?_
  refine g_alen E (by assumption) (by assumption) (by first | exact Or.inl rfl | exact Or.inr rfl) dJ7_fill_d0a16_3 ?_
  refine g_istore_4 E dJ7_fill_d0a16_4 (by decide) rfl ?_
  have e := L 0 (Nat.zero_le _)
  rw [q_fill_0] at e
  exact e
set_option maxHeartbeats 4000000 in
set_option maxRecDepth 100000 in
theorem c_J7_fill_53178 {ty : Nat → PT} {al : Nat → Bool} {f : Nat → Nat → Int32} {g : Nat → Nat → Int64} {r : Nat → Nat → Option Nat} (a N : Nat) (ha : al a = true) (hty : ty a = .inl (.int, N)) (hN : N < 2 ^ 31) (x : Int32) : q_ConV yJ7_fill_53178 cJ7_fill_53178 4 none 0 0 ty al [.ref a, .int x] (f, g, r) (fun h' => h' = (q_fill f a 0 N (fun _ => x), g, r)) := by
  refine q_Con.of RJ7 [some (.ref a), some (.int x), none, none] (by decide +kernel) rfl rfl (Nat.le_of_ble_eq_true rfl) (fun C ad E Z => ?_)
  have L : ∀ i, i ≤ N → gg C ty 4 0 0 al ad 5 [some (.ref a), some (.int x), some (.int (nI i)), some (.int (nI N))] [] (q_fill f a 0 i (fun _ => x), g, r) := q_loop N (fun i hi ih => by
    refine g_iload_2 E dJ7_fill_53178_5 ?_
    refine g_iload_3 E dJ7_fill_53178_6 ?_
    refine g_icmp_ge (tgt := 20) E dJ7_fill_53178_7 (by decide) (fun c_7 => ?_) (fun c_7 => ?_)
    · have e_7 := (q_ge (x := N) (y := i) rfl rfl (by omega) (by omega)).mp c_7
      exact g_vret E Z dJ7_fill_53178_20 ⟨rfl, (by rw [show i = N by omega])⟩
    · have e_7 := (not_congr (q_ge (x := N) (y := i) rfl rfl (by omega) (by omega))).mp c_7
      refine g_aload_0 E dJ7_fill_53178_10 ?_
      refine g_iload_2 E dJ7_fill_53178_11 ?_
      refine g_iload_1 E dJ7_fill_53178_12 ?_
      refine g_iast E (by assumption) (by assumption) dJ7_fill_53178_13 (q_ix_n (by omega) hN) ?_
      refine g_iinc_2 (u := 1) E dJ7_fill_53178_14 (by decide) (by decide) rfl ?_
      refine g_goto (tgt := 5) E dJ7_fill_53178_17 (by decide) ?_
      have e := q_fill_s (f := f) (a := a) (lo := 0) (n := i) (v := fun _ => x) rfl
      rw [Nat.zero_add] at e
      rw [nI_1]
      exact e ▸ ih (by omega))
  refine g_iconst (v := 0) E dJ7_fill_53178_0 (by decide) ?_
  refine g_istore_2 E dJ7_fill_53178_1 (by decide) rfl ?_
  refine g_aload_0 E dJ7_fill_53178_2 ?_
  refine g_alen E (by assumption) (by assumption) (by first | exact Or.inl rfl | exact Or.inr rfl) dJ7_fill_53178_3 ?_
  refine g_istore_3 E dJ7_fill_53178_4 (by decide) rfl ?_
  have e := L 0 (Nat.zero_le _)
  rw [q_fill_0] at e
  exact e
set_option maxHeartbeats 4000000 in
set_option maxRecDepth 100000 in
theorem c_X1_has {n : Nat} {sB tB : Bool} {f : Nat → Nat → Int32} {g : Nat → Nat → Int64} (m : Nat) (hm : f 4 1 = nI m) (hm2 : m ≤ 100) (x : Int32) : q_ConI yX1_has cX1_has 2 (some .boolean) 0 0 tyX (alX n sB tB) [.ref 4, .int x] (f, g, rfX n sB tB) (fun v h' => v = q_b (0 ≤ x.toInt ∧ x.toInt < m) ∧ h' = (f, g, rfX n sB tB)) := by
  refine q_Con.of RX1 [some (.ref 4), some (.int x)] (by decide +kernel) rfl rfl (Nat.le_of_ble_eq_true rfl) (fun C ad E Z => ?_)
  have hni : (f 4 1).toInt = m := by rw [hm]; exact nI_toInt (by omega)
  refine g_iload_1 E dX1_has_0 ?_
  refine g_if_lt (tgt := 16) E dX1_has_1 (by decide) (fun c_1 => ?_) (fun c_1 => ?_)
  · have k_1 := c_1
    simp only [q_ilt, q_ile, q_ieq, Int32.reduceToInt, Int32.toInt_zero] at k_1
    refine g_iconst (v := 0) E dX1_has_16 (by decide) ?_
    exact g_zret E Z dX1_has_17 rfl ⟨_, rfl, ⟨by first | exact q_bt ⟨by omega, by omega⟩ | exact q_bf (by omega), rfl⟩⟩
  · have k_1 := c_1
    simp only [q_ilt, q_ile, q_ieq, Int32.reduceToInt, Int32.toInt_zero] at k_1
    refine g_iload_1 E dX1_has_4 ?_
    refine g_aload_0 E dX1_has_5 ?_
    refine g_getI E (by first | assumption | rfl) (by first | assumption | rfl) fl_X1_15 rfl dX1_has_6 ?_
    refine g_icmp_ge (tgt := 16) E dX1_has_9 (by decide) (fun c_9 => ?_) (fun c_9 => ?_)
    · have k_9 := q_ile.mp c_9
      rw [hni] at k_9
      refine g_iconst (v := 0) E dX1_has_16 (by decide) ?_
      exact g_zret E Z dX1_has_17 rfl ⟨_, rfl, ⟨by first | exact q_bt ⟨by omega, by omega⟩ | exact q_bf (by omega), rfl⟩⟩
    · have k_9 := (not_congr q_ile).mp c_9
      rw [hni] at k_9
      refine g_iconst (v := 1) E dX1_has_12 (by decide) ?_
      refine g_goto (tgt := 17) E dX1_has_13 (by decide) ?_
      exact g_zret E Z dX1_has_17 rfl ⟨_, rfl, ⟨by first | exact q_bt ⟨by omega, by omega⟩ | exact q_bf (by omega), rfl⟩⟩
set_option maxHeartbeats 4000000 in
set_option maxRecDepth 100000 in
theorem c_X2_hasCell {n : Nat} {sB tB : Bool} {f : Nat → Nat → Int32} {g : Nat → Nat → Int64} (m : Nat) (hm : f 1 1 = nI m) (hm2 : m ≤ 100) (x : Int32) : q_ConI yX2_hasCell cX2_hasCell 2 (some .boolean) 0 0 tyX (alX n sB tB) [.ref 1, .int x] (f, g, rfX n sB tB) (fun v h' => v = q_b (0 ≤ x.toInt ∧ x.toInt < m) ∧ h' = (f, g, rfX n sB tB)) := by
  refine q_Con.of RX2 [some (.ref 1), some (.int x)] (by decide +kernel) rfl rfl (Nat.le_of_ble_eq_true rfl) (fun C ad E Z => ?_)
  have hni : (f 1 1).toInt = m := by rw [hm]; exact nI_toInt (by omega)
  refine g_iload_1 E dX2_hasCell_0 ?_
  refine g_if_lt (tgt := 16) E dX2_hasCell_1 (by decide) (fun c_1 => ?_) (fun c_1 => ?_)
  · have k_1 := c_1
    simp only [q_ilt, q_ile, q_ieq, Int32.reduceToInt, Int32.toInt_zero] at k_1
    refine g_iconst (v := 0) E dX2_hasCell_16 (by decide) ?_
    exact g_zret E Z dX2_hasCell_17 rfl ⟨_, rfl, ⟨by first | exact q_bt ⟨by omega, by omega⟩ | exact q_bf (by omega), rfl⟩⟩
  · have k_1 := c_1
    simp only [q_ilt, q_ile, q_ieq, Int32.reduceToInt, Int32.toInt_zero] at k_1
    refine g_iload_1 E dX2_hasCell_4 ?_
    refine g_aload_0 E dX2_hasCell_5 ?_
    refine g_getI E (by first | assumption | rfl) (by first | assumption | rfl) fl_X2_38 rfl dX2_hasCell_6 ?_
    refine g_icmp_ge (tgt := 16) E dX2_hasCell_9 (by decide) (fun c_9 => ?_) (fun c_9 => ?_)
    · have k_9 := q_ile.mp c_9
      rw [hni] at k_9
      refine g_iconst (v := 0) E dX2_hasCell_16 (by decide) ?_
      exact g_zret E Z dX2_hasCell_17 rfl ⟨_, rfl, ⟨by first | exact q_bt ⟨by omega, by omega⟩ | exact q_bf (by omega), rfl⟩⟩
    · have k_9 := (not_congr q_ile).mp c_9
      rw [hni] at k_9
      refine g_iconst (v := 1) E dX2_hasCell_12 (by decide) ?_
      refine g_goto (tgt := 17) E dX2_hasCell_13 (by decide) ?_
      exact g_zret E Z dX2_hasCell_17 rfl ⟨_, rfl, ⟨by first | exact q_bt ⟨by omega, by omega⟩ | exact q_bf (by omega), rfl⟩⟩
theorem q_powI : ∀ n, n < 11 → (1 : Int32) <<< (nI n &&& 31) - 1 = nI (2 ^ n - 1) := by decide +kernel
set_option maxHeartbeats 4000000 in
set_option maxRecDepth 100000 in
theorem c_X2_allCells {n : Nat} {sB tB : Bool} {f : Nat → Nat → Int32} {g : Nat → Nat → Int64} (hn : f 1 1 = nI n) (h10 : n ≤ 10) : q_ConI yX2_allCells cX2_allCells 1 (some .int) 0 0 tyX (alX n sB tB) [.ref 1] (f, g, rfX n sB tB) (fun v h' => v = nI (2 ^ n - 1) ∧ h' = (f, g, rfX n sB tB)) := by
  refine q_Con.of RX2 [some (.ref 1)] (by decide +kernel) rfl rfl (Nat.le_of_ble_eq_true rfl) (fun C ad E Z => ?_)
  refine g_iconst (v := 1) E dX2_allCells_0 (by decide) ?_
  refine g_aload_0 E dX2_allCells_1 ?_
  refine g_getI E (by first | assumption | rfl) (by first | assumption | rfl) fl_X2_38 rfl dX2_allCells_2 ?_
  refine g_ishl E dX2_allCells_5 ?_
  refine g_iconst (v := 1) E dX2_allCells_6 (by decide) ?_
  refine g_isub E dX2_allCells_7 ?_
  exact g_iret E Z dX2_allCells_8 ⟨_, rfl, ⟨by rw [hn, q_powI n (by omega)], rfl⟩⟩
set_option maxHeartbeats 4000000 in
set_option maxRecDepth 100000 in
theorem c_X2_cellsOf {n : Nat} {sB tB : Bool} {f : Nat → Nat → Int32} {g : Nat → Nat → Int64} (hn : f 1 1 = nI n) (h10 : n ≤ 10) (y : Int32) : q_ConI yX2_cellsOf cX2_cellsOf 4 (some .int) 0 0 tyX (alX n sB tB) [.ref 1, .int y] (f, g, rfX n sB tB) (fun v h' => v = q_sum (fun c => if f (c + 40) 3 = y then 1 else 0) n ∧ h' = (f, g, rfX n sB tB)) := by
  refine q_Con.of RX2 [some (.ref 1), some (.int y), none, none] (by decide +kernel) rfl rfl (Nat.le_of_ble_eq_true rfl) (fun C ad E Z => ?_)
  have L : ∀ i, i ≤ n → gg C tyX 4 0 0 (alX n sB tB) ad 4 [some (.ref 1), some (.int y), some (.int (q_sum (fun c => if f (c + 40) 3 = y then 1 else 0) i)), some (.int (nI i))] [] (f, g, rfX n sB tB) := q_loop n (fun i hi ih => by
    refine g_iload_3 E dX2_cellsOf_4 ?_
    refine g_aload_0 E dX2_cellsOf_5 ?_
    refine g_getI E (by first | assumption | rfl) (by first | assumption | rfl) fl_X2_38 rfl dX2_cellsOf_6 ?_
    refine g_icmp_ge (tgt := 34) E dX2_cellsOf_9 (by decide) (fun c_9 => ?_) (fun c_9 => ?_)
    · have e_9 := (q_ge (x := n) (y := i) hn rfl (by omega) (by omega)).mp c_9
      refine g_iload_2 E dX2_cellsOf_34 ?_
      exact g_iret E Z dX2_cellsOf_35 ⟨_, rfl, ⟨by rw [show i = n by omega], rfl⟩⟩
    · have e_9 := (not_congr (q_ge (x := n) (y := i) hn rfl (by omega) (by omega))).mp c_9
      have hac : alX n sB tB (i + 40) = true := alX_c (by omega)
      have htc : tyX (i + 40) = .inr 0 := tyX_c (by omega)
      have hrc : rfX n sB tB 8 i = some (i + 40) := rfX_c (by omega)
      refine g_aload_0 E dX2_cellsOf_12 ?_
      refine g_getR E (by first | assumption | rfl) (by first | assumption | rfl) fl_X2_11 rfl (by first | assumption | rfl) dX2_cellsOf_13 ?_
      refine g_iload_3 E dX2_cellsOf_16 ?_
      first | refine g_aald E (by first | assumption | rfl) (by first | assumption | rfl) dX2_cellsOf_17 (q_ix_n (by omega)) (by first | assumption | rfl) ?_ | refine g_aaldJ E (by first | assumption | rfl) (by first | assumption | rfl) dX2_cellsOf_17 (q_ix_n (by omega)) (by first | assumption | rfl) ?_
      refine g_getI E (by first | assumption | rfl) (by first | assumption | rfl) fl_X2_57 rfl dX2_cellsOf_18 ?_
      refine g_iload_1 E dX2_cellsOf_21 ?_
      refine g_icmp_ne (tgt := 28) E dX2_cellsOf_22 (by decide) (fun c_22 => ?_) (fun c_22 => ?_)
      · refine g_iinc_3 (u := 1) E dX2_cellsOf_28 (by decide) (by decide) rfl ?_
        refine g_goto (tgt := 4) E dX2_cellsOf_31 (by decide) ?_
        rw [nI_1]
        have e := ih (by omega)
        rw [q_sum] at e
        first | (rw [if_pos c_22] at e; exact e) | (rw [if_neg c_22, Int32.add_zero] at e; exact e)
      · refine g_iinc_2 (u := 1) E dX2_cellsOf_25 (by decide) (by decide) rfl ?_
        refine g_iinc_3 (u := 1) E dX2_cellsOf_28 (by decide) (by decide) rfl ?_
        refine g_goto (tgt := 4) E dX2_cellsOf_31 (by decide) ?_
        rw [nI_1]
        have e := ih (by omega)
        rw [q_sum] at e
        first | (rw [if_pos c_22] at e; exact e) | (rw [if_neg c_22, Int32.add_zero] at e; exact e))
  refine g_iconst (v := 0) E dX2_cellsOf_0 (by decide) ?_
  refine g_istore_2 E dX2_cellsOf_1 (by decide) rfl ?_
  refine g_iconst (v := 0) E dX2_cellsOf_2 (by decide) ?_
  refine g_istore_3 E dX2_cellsOf_3 (by decide) rfl ?_
  exact L 0 (Nat.zero_le _)
def q_len (ln : Nat → Int32) (s : Int32) : Int32 := if 0 ≤ s.toInt ∧ s.toInt ≤ 3 then ln s.toNatClampNeg else -1
set_option maxHeartbeats 4000000 in
set_option maxRecDepth 100000 in
theorem c_X5_lengthOf {n : Nat} {sB tB : Bool} {f : Nat → Nat → Int32} {g : Nat → Nat → Int64} (s : Int32) : q_ConI yX5_lengthOf cX5_lengthOf 2 (some .int) 1 20 tyX (alX n sB tB) [.ref 3, .int s] (f, g, rfX n sB tB) (fun v h' => v = q_len (f 20) s ∧ h' = (f, g, rfX n sB tB)) := by
  refine q_Con.of RX5 [some (.ref 3), some (.int s)] (by decide +kernel) rfl rfl (Nat.le_of_ble_eq_true rfl) (fun C ad E Z => ?_)
  refine g_iload_1 E dX5_lengthOf_0 ?_
  refine g_cSi1 E (c_X5_isPlace _) cw_X5_23 (by decide) (by decide) (Nat.le_of_ble_eq_true rfl) dX5_lengthOf_1 (fun v_1 h_1 hp => ?_)
  obtain ⟨rfl, rfl⟩ := hp
  refine g_if_eq (tgt := 16) E dX5_lengthOf_4 (by decide) (fun c_4 => ?_) (fun c_4 => ?_)
  · have k_4 := q_b0.mp c_4
    refine g_iconst (v := -1) E dX5_lengthOf_16 (by decide) ?_
    exact g_iret E Z dX5_lengthOf_17 ⟨_, rfl, ⟨by unfold q_len; first | (rw [if_neg k_4]; done) | (rw [if_pos k_4, kS]; done), rfl⟩⟩
  · have k_4 := q_b1.mp c_4
    obtain ⟨S, hS, rfl⟩ := q_nat (b := 3) k_4.1 k_4.2
    have kS : (nI S).toNatClampNeg = S := nI_clamp (by omega)
    refine g_aload_0 E dX5_lengthOf_7 ?_
    refine g_getR E (by first | assumption | rfl) (by first | assumption | rfl) fl_X5_20 rfl (by first | assumption | rfl) dX5_lengthOf_8 ?_
    refine g_iload_1 E dX5_lengthOf_11 ?_
    refine g_iald E (by first | assumption | rfl) (by first | assumption | rfl) dX5_lengthOf_12 (q_ix_n (by omega)) ?_
    refine g_goto (tgt := 17) E dX5_lengthOf_13 (by decide) ?_
    exact g_iret E Z dX5_lengthOf_17 ⟨_, rfl, ⟨by unfold q_len; first | (rw [if_neg k_4]; done) | (rw [if_pos k_4, kS]; done), rfl⟩⟩
/-- number i of the row of a place, 0 beyond it -/
def q_num (ln : Nat → Int32) (nb : Nat → Nat → Int64) (s : Int32) (i : Int32) : Int64 := if 0 ≤ i.toInt ∧ i.toInt < (q_len ln s).toInt then nb s.toNatClampNeg i.toNatClampNeg else 0
def q_nbX (g : Nat → Nat → Int64) : Nat → Nat → Int64 := fun p i => g (p + 15) i
set_option maxHeartbeats 4000000 in
set_option maxRecDepth 100000 in
theorem c_X5_number {n : Nat} {sB tB : Bool} {f : Nat → Nat → Int32} {g : Nat → Nat → Int64} (hlen : ∀ S, S ≤ 3 → f 20 S = -1 ∨ ∃ z : Nat, z ≤ 60 ∧ f 20 S = nI z) (s i : Int32) : q_ConL yX5_number cX5_number 3 (some .long) 2 41 tyX (alX n sB tB) [.ref 3, .int s, .int i] (f, g, rfX n sB tB) (fun v h' => v = q_num (f 20) (q_nbX g) s i ∧ h' = (f, g, rfX n sB tB)) := by
  refine q_Con.of RX5 [some (.ref 3), some (.int s), some (.int i)] (by decide +kernel) rfl rfl (Nat.le_of_ble_eq_true rfl) (fun C ad E Z => ?_)
  refine g_iload_2 E dX5_number_0 ?_
  refine g_if_lt (tgt := 24) E dX5_number_1 (by decide) (fun c_1 => ?_) (fun c_1 => ?_)
  · have k_1 := c_1
    simp only [q_ilt, q_ile, q_ieq, Int32.reduceToInt, Int32.toInt_zero] at k_1
    refine g_lconst (v := 0) E dX5_number_24 (by decide) ?_
    exact g_lret E Z dX5_number_25 ⟨_, rfl, ⟨by unfold q_num; first | (rw [if_neg (by omega)]; done) | (rw [if_pos ⟨by omega, by omega⟩, kS, kj]; rfl), rfl⟩⟩
  · have k_1 := c_1
    simp only [q_ilt, q_ile, q_ieq, Int32.reduceToInt, Int32.toInt_zero] at k_1
    refine g_iload_2 E dX5_number_4 ?_
    refine g_aload_0 E dX5_number_5 ?_
    refine g_iload_1 E dX5_number_6 ?_
    refine g_cVi1 E (c_X5_lengthOf _) cw_X5_27 (by decide) (by decide) (by first | assumption | rfl) (by first | assumption | rfl) (Nat.le_of_ble_eq_true rfl) dX5_number_7 (fun v_7 h_7 hp => ?_)
    obtain ⟨rfl, rfl⟩ := hp
    refine g_icmp_ge (tgt := 24) E dX5_number_10 (by decide) (fun c_10 => ?_) (fun c_10 => ?_)
    · have k_10 := q_ile.mp c_10
      refine g_lconst (v := 0) E dX5_number_24 (by decide) ?_
      exact g_lret E Z dX5_number_25 ⟨_, rfl, ⟨by unfold q_num; first | (rw [if_neg (by omega)]; done) | (rw [if_pos ⟨by omega, by omega⟩, kS, kj]; rfl), rfl⟩⟩
    · have k_10 := (not_congr q_ile).mp c_10
      have hpl : 0 ≤ s.toInt ∧ s.toInt ≤ 3 := by
        by_cases q : 0 ≤ s.toInt ∧ s.toInt ≤ 3
        · exact q
        · unfold q_len at k_10; rw [if_neg q] at k_10; exact absurd (show (-1 : Int32).toInt ≤ i.toInt from by rw [show (-1 : Int32).toInt = -1 from by decide]; omega) k_10
      obtain ⟨S, hS, rfl⟩ := q_nat (b := 3) hpl.1 hpl.2
      have kS : (nI S).toNatClampNeg = S := nI_clamp (by omega)
      have hap : alX n sB tB (S + 15) = true := alX_p (by omega)
      have htp : tyX (S + 15) = .inl (.long, 60) := tyX_p (by omega)
      have hrp : rfX n sB tB 14 S = some (S + 15) := rfX_p (by omega)
      have hle : q_len (f 20) (nI S) = f 20 S := by unfold q_len; rw [if_pos hpl, kS]
      have hz : ∃ z : Nat, z ≤ 60 ∧ f 20 S = nI z := by
        rcases hlen S hS with q | q
        · rw [hle, q] at k_10; exact absurd (show (-1 : Int32).toInt ≤ i.toInt from by rw [show (-1 : Int32).toInt = -1 from by decide]; omega) k_10
        · exact q
      obtain ⟨z, hz, ez⟩ := hz
      have hzi : (f 20 S).toInt = z := by rw [ez]; exact nI_toInt (by omega)
      have k10 := k_10
      rw [hle, hzi] at k_10
      obtain ⟨j, hj, rfl⟩ := q_nat (b := 59) (x := i) (by omega) (by omega)
      have kj : (nI j).toNatClampNeg = j := nI_clamp (by omega)
      refine g_aload_0 E dX5_number_13 ?_
      refine g_getR E (by first | assumption | rfl) (by first | assumption | rfl) fl_X5_13 rfl (by first | assumption | rfl) dX5_number_14 ?_
      refine g_iload_1 E dX5_number_17 ?_
      first | refine g_aald E (by first | assumption | rfl) (by first | assumption | rfl) dX5_number_18 (q_ix_n (by omega)) (by first | assumption | rfl) ?_ | refine g_aaldJ E (by first | assumption | rfl) (by first | assumption | rfl) dX5_number_18 (q_ix_n (by omega)) (by first | assumption | rfl) ?_
      refine g_iload_2 E dX5_number_19 ?_
      refine g_lald E (by first | assumption | rfl) (by first | assumption | rfl) dX5_number_20 (q_ix_n (by omega)) ?_
      refine g_goto (tgt := 25) E dX5_number_21 (by decide) ?_
      exact g_lret E Z dX5_number_25 ⟨_, rfl, ⟨by unfold q_num; first | (rw [if_neg (by omega)]; done) | (rw [if_pos ⟨by omega, by omega⟩, kS, kj]; rfl), rfl⟩⟩
set_option maxHeartbeats 4000000 in
set_option maxRecDepth 100000 in
theorem c_X5_placesWithRow {n : Nat} {sB tB : Bool} {f : Nat → Nat → Int32} {g : Nat → Nat → Int64}  : q_ConI yX5_placesWithRow cX5_placesWithRow 3 (some .int) 0 0 tyX (alX n sB tB) [.ref 3] (f, g, rfX n sB tB) (fun v h' => v = q_sum (fun s => if f 20 s = -1 then 0 else 1) 4 ∧ h' = (f, g, rfX n sB tB)) := by
  refine q_Con.of RX5 [some (.ref 3), none, none] (by decide +kernel) rfl rfl (Nat.le_of_ble_eq_true rfl) (fun C ad E Z => ?_)
  have L : ∀ i, i ≤ 4 → gg C tyX 3 0 0 (alX n sB tB) ad 4 [some (.ref 3), some (.int (q_sum (fun s => if f 20 s = -1 then 0 else 1) i)), some (.int (nI i))] [] (f, g, rfX n sB tB) := q_loop 4 (fun i hi ih => by
    refine g_iload_2 E dX5_placesWithRow_4 ?_
    refine g_iconst (v := 4) E dX5_placesWithRow_5 (by decide) ?_
    refine g_icmp_ge (tgt := 28) E dX5_placesWithRow_6 (by decide) (fun c_6 => ?_) (fun c_6 => ?_)
    · have e_6 := (q_ge (x := 4) (y := i) rfl rfl (by omega) (by omega)).mp c_6
      refine g_iload_1 E dX5_placesWithRow_28 ?_
      exact g_iret E Z dX5_placesWithRow_29 ⟨_, rfl, ⟨by rw [show i = 4 by omega], rfl⟩⟩
    · have e_6 := (not_congr (q_ge (x := 4) (y := i) rfl rfl (by omega) (by omega))).mp c_6
      refine g_aload_0 E dX5_placesWithRow_9 ?_
      refine g_getR E (by first | assumption | rfl) (by first | assumption | rfl) fl_X5_20 rfl (by first | assumption | rfl) dX5_placesWithRow_10 ?_
      refine g_iload_2 E dX5_placesWithRow_13 ?_
      refine g_iald E (by first | assumption | rfl) (by first | assumption | rfl) dX5_placesWithRow_14 (q_ix_n (by omega)) ?_
      refine g_iconst (v := -1) E dX5_placesWithRow_15 (by decide) ?_
      refine g_icmp_eq (tgt := 22) E dX5_placesWithRow_16 (by decide) (fun c_16 => ?_) (fun c_16 => ?_)
      · refine g_iinc_2 (u := 1) E dX5_placesWithRow_22 (by decide) (by decide) rfl ?_
        refine g_goto (tgt := 4) E dX5_placesWithRow_25 (by decide) ?_
        rw [nI_1]
        have e := ih (by omega)
        rw [q_sum] at e
        first | (rw [if_pos c_16, Int32.add_zero] at e; exact e) | (rw [if_neg c_16] at e; exact e)
      · refine g_iinc_1 (u := 1) E dX5_placesWithRow_19 (by decide) (by decide) rfl ?_
        refine g_iinc_2 (u := 1) E dX5_placesWithRow_22 (by decide) (by decide) rfl ?_
        refine g_goto (tgt := 4) E dX5_placesWithRow_25 (by decide) ?_
        rw [nI_1]
        have e := ih (by omega)
        rw [q_sum] at e
        first | (rw [if_pos c_16, Int32.add_zero] at e; exact e) | (rw [if_neg c_16] at e; exact e))
  refine g_iconst (v := 0) E dX5_placesWithRow_0 (by decide) ?_
  refine g_istore_1 E dX5_placesWithRow_1 (by decide) rfl ?_
  refine g_iconst (v := 0) E dX5_placesWithRow_2 (by decide) ?_
  refine g_istore_2 E dX5_placesWithRow_3 (by decide) rfl ?_
  exact L 0 (Nat.zero_le _)
set_option maxHeartbeats 4000000 in
set_option maxRecDepth 100000 in
theorem c_X5_areWithin {n : Nat} {sB tB : Bool} {f : Nat → Nat → Int32} {g : Nat → Nat → Int64} (hlen : ∀ S, S ≤ 3 → f 20 S = -1 ∨ ∃ z : Nat, z ≤ 60 ∧ f 20 S = nI z) (s : Int32) (m : Nat) (hm : m ≤ 100) (t : Int32) : q_ConI yX5_areWithin cX5_areWithin 5 (some .boolean) 3 63 tyX (alX n sB tB) [.ref 3, .int s, .int (nI m), .int t] (f, g, rfX n sB tB) (fun v h' => v = q_b (∀ c, c < m → (0 ≤ (q_num (f 20) (q_nbX g) s (nI c)).toInt ∧ (q_num (f 20) (q_nbX g) s (nI c)).toInt ≤ t.toInt)) ∧ h' = (f, g, rfX n sB tB)) := by
  refine q_Con.of RX5 [some (.ref 3), some (.int s), some (.int (nI m)), some (.int t), none] (by decide +kernel) rfl rfl (Nat.le_of_ble_eq_true rfl) (fun C ad E Z => ?_)
  have L : ∀ i, i ≤ m → (∀ c, c < i → (0 ≤ (q_num (f 20) (q_nbX g) s (nI c)).toInt ∧ (q_num (f 20) (q_nbX g) s (nI c)).toInt ≤ t.toInt)) → gg C tyX 5 0 0 (alX n sB tB) ad 3 [some (.ref 3), some (.int s), some (.int (nI m)), some (.int t), some (.int (nI i))] [] (f, g, rfX n sB tB) := by
    refine q_loop m (fun i hi ih hall => ?_)
    refine g_iload_4 E dX5_areWithin_3 ?_
    refine g_iload_2 E dX5_areWithin_5 ?_
    refine g_icmp_ge (tgt := 33) E dX5_areWithin_6 (by decide) (fun c_6 => ?_) (fun c_6 => ?_)
    · have e_6 := (q_ge (x := m) (y := i) rfl rfl (by omega) (by omega)).mp c_6
      refine g_iconst (v := 1) E dX5_areWithin_33 (by decide) ?_
      exact g_zret E Z dX5_areWithin_34 rfl ⟨_, rfl, ⟨q_bt (fun c hc => hall c (by omega)), rfl⟩⟩
    · have e_6 := (not_congr (q_ge (x := m) (y := i) rfl rfl (by omega) (by omega))).mp c_6
      refine g_aload_0 E dX5_areWithin_9 ?_
      refine g_iload_1 E dX5_areWithin_10 ?_
      refine g_iload_4 E dX5_areWithin_11 ?_
      refine g_cVl2 E (c_X5_number (by exact hlen) _ _) cw_X5_35 (by decide) (by decide) (by first | assumption | rfl) (by first | assumption | rfl) (Nat.le_of_ble_eq_true rfl) dX5_areWithin_13 (fun v_13 h_13 hp => ?_)
      obtain ⟨rfl, rfl⟩ := hp
      refine g_lconst (v := 0) E dX5_areWithin_16 (by decide) ?_
      refine g_iload_3 E dX5_areWithin_17 ?_
      refine g_i2l E dX5_areWithin_18 ?_
      refine g_cSi3 E (c_X7_isWithin _ _ _) cw_X5_39 (by decide) (by decide) (Nat.le_of_ble_eq_true rfl) dX5_areWithin_19 (fun v_19 h_19 hp => ?_)
      obtain ⟨rfl, rfl⟩ := hp
      refine g_if_ne (tgt := 27) E dX5_areWithin_22 (by decide) (fun c_22 => ?_) (fun c_22 => ?_)
      · have k_22 := q_b1.mp c_22
        rw [q_32] at k_22
        refine g_iinc_4 (u := 1) E dX5_areWithin_27 (by decide) (by decide) rfl ?_
        refine g_goto (tgt := 3) E dX5_areWithin_30 (by decide) ?_
        rw [nI_1]
        exact ih (by omega) (fun c hc => by
          by_cases e : c = i
          · subst e; exact k_22
          · exact hall c (by omega))
      · have k_22 := q_b0.mp c_22
        rw [q_32] at k_22
        refine g_iconst (v := 0) E dX5_areWithin_25 (by decide) ?_
        exact g_zret E Z dX5_areWithin_26 rfl ⟨_, rfl, ⟨q_bf (fun q => k_22 (q i (by omega))), rfl⟩⟩
  refine g_iconst (v := 0) E dX5_areWithin_0 (by decide) ?_
  refine g_istore_4 E dX5_areWithin_1 (by decide) rfl ?_
  exact L 0 (Nat.zero_le _) (fun c hc => absurd hc (Nat.not_lt_zero c))
/-- the same as q_ref, by lengths -/
def q_rfX (ln : Nat → Int32) (nb : Nat → Nat → Int64) (m : Nat) (s : Int32) (top : Int) : Int32 :=
  if ¬ (0 ≤ s.toInt ∧ s.toInt ≤ 3) then -2 else if ln s.toNatClampNeg = -1 then -5 else if ln s.toNatClampNeg < nI m then -6
  else if ∀ c, c < m → (0 ≤ (nb s.toNatClampNeg c).toInt ∧ (nb s.toNatClampNeg c).toInt ≤ top) then 0 else -4
theorem q_num_in {ln : Nat → Int32} {nb : Nat → Nat → Int64} {S z c : Nat} (hS : S ≤ 3) (hz : z ≤ 60) (ez : ln S = nI z) (hc : c < z) : q_num ln nb (nI S) (nI c) = nb S c := by
  have e1 : q_len ln (nI S) = nI z := by
    unfold q_len
    rw [if_pos (by rw [nI_toInt (by omega)]; omega), nI_clamp (by omega), ez]
  unfold q_num
  rw [e1, nI_toInt (by omega), nI_toInt (by omega), if_pos ⟨by omega, by omega⟩, nI_clamp (by omega), nI_clamp (by omega)]
set_option maxHeartbeats 4000000 in
set_option maxRecDepth 100000 in
theorem c_X5_refusal {n : Nat} {sB tB : Bool} {f : Nat → Nat → Int32} {g : Nat → Nat → Int64} (hlen : ∀ S, S ≤ 3 → f 20 S = -1 ∨ ∃ z : Nat, z ≤ 60 ∧ f 20 S = nI z) (s : Int32) (m : Nat) (hm : m ≤ 60) (t : Int32) : q_ConI yX5_refusal cX5_refusal 4 (some .int) 4 87 tyX (alX n sB tB) [.ref 3, .int s, .int (nI m), .int t] (f, g, rfX n sB tB) (fun v h' => v = q_rfX (f 20) (q_nbX g) m s t.toInt ∧ h' = (f, g, rfX n sB tB)) := by
  refine q_Con.of RX5 [some (.ref 3), some (.int s), some (.int (nI m)), some (.int t)] (by decide +kernel) rfl rfl (Nat.le_of_ble_eq_true rfl) (fun C ad E Z => ?_)
  refine g_iload_1 E dX5_refusal_0 ?_
  refine g_cSi1 E (c_X5_isPlace _) cw_X5_23 (by decide) (by decide) (Nat.le_of_ble_eq_true rfl) dX5_refusal_1 (fun v_1 h_1 hp => ?_)
  obtain ⟨rfl, rfl⟩ := hp
  refine g_if_ne (tgt := 10) E dX5_refusal_4 (by decide) (fun c_4 => ?_) (fun c_4 => ?_)
  · have k_4 := q_b1.mp c_4
    obtain ⟨S, hS, rfl⟩ := q_nat (b := 3) k_4.1 k_4.2
    have kS : (nI S).toNatClampNeg = S := nI_clamp (by omega)
    refine g_aload_0 E dX5_refusal_10 ?_
    refine g_getR E (by first | assumption | rfl) (by first | assumption | rfl) fl_X5_20 rfl (by first | assumption | rfl) dX5_refusal_11 ?_
    refine g_iload_1 E dX5_refusal_14 ?_
    refine g_iald E (by first | assumption | rfl) (by first | assumption | rfl) dX5_refusal_15 (q_ix_n (by omega)) ?_
    refine g_iconst (v := -1) E dX5_refusal_16 (by decide) ?_
    refine g_icmp_ne (tgt := 23) E dX5_refusal_17 (by decide) (fun c_17 => ?_) (fun c_17 => ?_)
    · refine g_aload_0 E dX5_refusal_23 ?_
      refine g_getR E (by first | assumption | rfl) (by first | assumption | rfl) fl_X5_20 rfl (by first | assumption | rfl) dX5_refusal_24 ?_
      refine g_iload_1 E dX5_refusal_27 ?_
      refine g_iald E (by first | assumption | rfl) (by first | assumption | rfl) dX5_refusal_28 (q_ix_n (by omega)) ?_
      refine g_iload_2 E dX5_refusal_29 ?_
      refine g_icmp_ge (tgt := 36) E dX5_refusal_30 (by decide) (fun c_30 => ?_) (fun c_30 => ?_)
      · obtain ⟨z, hz, ez⟩ := (hlen S hS).resolve_left c_17
        have hmz : m ≤ z := by rw [ez] at c_30; exact (nI_leI (by omega) (by omega)).mp c_30
        have hnum : ∀ c, c < m → q_num (f 20) (q_nbX g) (nI S) (nI c) = q_nbX g S c := fun c hc => q_num_in hS hz ez (by omega)
        have k30 : ¬ f 20 S < nI m := Int32.not_lt.mpr c_30
        refine g_aload_0 E dX5_refusal_36 ?_
        refine g_iload_1 E dX5_refusal_37 ?_
        refine g_iload_2 E dX5_refusal_38 ?_
        refine g_iload_3 E dX5_refusal_39 ?_
        refine g_cVi3 E (c_X5_areWithin (by exact hlen) _ m (by omega) _) cw_X5_31 (by decide) (by decide) (by first | assumption | rfl) (by first | assumption | rfl) (Nat.le_of_ble_eq_true rfl) dX5_refusal_40 (fun v_40 h_40 hp => ?_)
        obtain ⟨rfl, rfl⟩ := hp
        refine g_if_eq (tgt := 50) E dX5_refusal_43 (by decide) (fun c_43 => ?_) (fun c_43 => ?_)
        · have k_43 := q_b0.mp c_43
          refine g_bipush (v := -4) E dX5_refusal_50 (by decide) ?_
          exact g_iret E Z dX5_refusal_52 ⟨_, rfl, ⟨by unfold q_rfX; rw [if_neg (not_not_intro k_4), kS, if_neg c_17, if_neg k30]; first | (rw [if_neg (fun q => k_43 (fun c hc => by rw [hnum c hc]; exact q c hc))]; done) | (rw [if_pos (fun c hc => by have := k_43 c hc; rw [hnum c hc] at this; exact this)]; done), rfl⟩⟩
        · have k_43 := q_b1.mp c_43
          refine g_iconst (v := 0) E dX5_refusal_46 (by decide) ?_
          refine g_goto (tgt := 52) E dX5_refusal_47 (by decide) ?_
          exact g_iret E Z dX5_refusal_52 ⟨_, rfl, ⟨by unfold q_rfX; rw [if_neg (not_not_intro k_4), kS, if_neg c_17, if_neg k30]; first | (rw [if_neg (fun q => k_43 (fun c hc => by rw [hnum c hc]; exact q c hc))]; done) | (rw [if_pos (fun c hc => by have := k_43 c hc; rw [hnum c hc] at this; exact this)]; done), rfl⟩⟩
      · have k30 : f 20 S < nI m := Int32.not_le.mp c_30
        refine g_bipush (v := -6) E dX5_refusal_33 (by decide) ?_
        exact g_iret E Z dX5_refusal_35 ⟨_, rfl, ⟨by unfold q_rfX; rw [if_neg (not_not_intro k_4), kS, if_neg c_17, if_pos k30], rfl⟩⟩
    · refine g_bipush (v := -5) E dX5_refusal_20 (by decide) ?_
      exact g_iret E Z dX5_refusal_22 ⟨_, rfl, ⟨by unfold q_rfX; rw [if_neg (not_not_intro k_4), kS, if_pos c_17], rfl⟩⟩
  · have k_4 := q_b0.mp c_4
    refine g_bipush (v := -2) E dX5_refusal_7 (by decide) ?_
    exact g_iret E Z dX5_refusal_9 ⟨_, rfl, ⟨by unfold q_rfX; rw [if_pos k_4], rfl⟩⟩
set_option maxHeartbeats 4000000 in
set_option maxRecDepth 100000 in
theorem c_X5_cut {ty : Nat → PT} {al : Nat → Bool} {h : PH} (v : Int64) (u : Int32) : q_ConL yX5_cut cX5_cut 3 (some .long) 0 0 ty al [.long v, .int u] h (fun r h' => r = q_cut u v ∧ h' = h) := by
  refine q_Con.of RX5 [some (.long v), none, some (.int u)] (by decide +kernel) rfl rfl (Nat.le_of_ble_eq_true rfl) (fun C ad E Z => ?_)
  refine g_iload_2 E dX5_cut_0 ?_
  by_cases e_0 : u = 0
  · subst e_0
    refine g_tableIn (off := 27) (tgt := 28) E dX5_cut_1 (by decide) (by decide) (by decide) (by decide) ?_
    refine g_lload_0 E dX5_cut_28 ?_
    refine g_l2i E dX5_cut_29 ?_
    refine g_i2b E dX5_cut_30 ?_
    refine g_i2l E dX5_cut_31 ?_
    exact g_lret E Z dX5_cut_32 ⟨_, rfl, ⟨by unfold q_cut; first | (simp; done) | (simp [*]; done), rfl⟩⟩
  by_cases e_1 : u = 1
  · subst e_1
    refine g_tableIn (off := 32) (tgt := 33) E dX5_cut_1 (by decide) (by decide) (by decide) (by decide) ?_
    refine g_lload_0 E dX5_cut_33 ?_
    refine g_l2i E dX5_cut_34 ?_
    refine g_i2s E dX5_cut_35 ?_
    refine g_i2l E dX5_cut_36 ?_
    exact g_lret E Z dX5_cut_37 ⟨_, rfl, ⟨by unfold q_cut; first | (simp; done) | (simp [*]; done), rfl⟩⟩
  by_cases e_2 : u = 2
  · subst e_2
    refine g_tableIn (off := 37) (tgt := 38) E dX5_cut_1 (by decide) (by decide) (by decide) (by decide) ?_
    refine g_lload_0 E dX5_cut_38 ?_
    refine g_l2i E dX5_cut_39 ?_
    refine g_i2l E dX5_cut_40 ?_
    exact g_lret E Z dX5_cut_41 ⟨_, rfl, ⟨by unfold q_cut; first | (simp; done) | (simp [*]; done), rfl⟩⟩
  have e_o : u.toInt < 0 ∨ 2 < u.toInt := by
    simp only [q_ieq, Int32.reduceToInt, Int32.toInt_zero] at e_0 e_1 e_2
    omega
  refine g_tableOut (tgt := 42) E dX5_cut_1 e_o (by decide) ?_
  refine g_lload_0 E dX5_cut_42 ?_
  exact g_lret E Z dX5_cut_43 ⟨_, rfl, ⟨by unfold q_cut; first | (simp; done) | (simp [*]; done), rfl⟩⟩
set_option maxHeartbeats 4000000 in
set_option maxRecDepth 100000 in
theorem c_X5_lay {n : Nat} {sB tB : Bool} {f : Nat → Nat → Int32} {g : Nat → Nat → Int64} (s u m : Int32) : q_ConI yX5_lay cX5_lay 4 (some .int) 1 25 tyX (alX n sB tB) [.ref 3, .int s, .int u, .int m] (f, g, rfX n sB tB) (fun v h' => (¬ ((0 ≤ s.toInt ∧ s.toInt ≤ 3) ∧ (0 ≤ u.toInt ∧ u.toInt ≤ 3) ∧ m.toInt ≤ 60) ∧ v = -2 ∧ h' = (f, g, rfX n sB tB)) ∨ (((0 ≤ s.toInt ∧ s.toInt ≤ 3) ∧ (0 ≤ u.toInt ∧ u.toInt ≤ 3) ∧ m.toInt ≤ 60) ∧ m.toInt < 0 ∧ v = -3 ∧ h' = (f, g, rfX n sB tB)) ∨ (∃ S : Nat, S ≤ 3 ∧ s = nI S ∧ (0 ≤ u.toInt ∧ u.toInt ≤ 3) ∧ (0 ≤ m.toInt ∧ m.toInt ≤ 60) ∧ v = 0 ∧ h' = (q_up (q_up f 19 S u) 20 S m, q_fill g (S + 15) 0 60 (fun _ => 0), rfX n sB tB))) := by
  refine q_Con.of RX5 [some (.ref 3), some (.int s), some (.int u), some (.int m)] (by decide +kernel) rfl rfl (Nat.le_of_ble_eq_true rfl) (fun C ad E Z => ?_)
  refine g_iload_1 E dX5_lay_0 ?_
  refine g_cSi1 E (c_X5_isPlace _) cw_X5_23 (by decide) (by decide) (Nat.le_of_ble_eq_true rfl) dX5_lay_1 (fun v_1 h_1 hp => ?_)
  obtain ⟨rfl, rfl⟩ := hp
  refine g_if_eq (tgt := 25) E dX5_lay_4 (by decide) (fun c_4 => ?_) (fun c_4 => ?_)
  · have k_4 := q_b0.mp c_4
    refine g_bipush (v := -2) E dX5_lay_25 (by decide) ?_
    exact g_iret E Z dX5_lay_27 ⟨_, rfl, Or.inl ⟨by omega, rfl, rfl⟩⟩
  · have k_4 := q_b1.mp c_4
    refine g_iload_2 E dX5_lay_7 ?_
    refine g_i2l E dX5_lay_8 ?_
    refine g_lconst (v := 0) E dX5_lay_9 (by decide) ?_
    refine g_ldc2 E kw_X5_43 dX5_lay_10 ?_
    refine g_cSi3 E (c_X7_isWithinI _ _ _ (0) (3) (by decide) (by decide)) cw_X5_39 (by decide) (by decide) (Nat.le_of_ble_eq_true rfl) dX5_lay_13 (fun v_13 h_13 hp => ?_)
    obtain ⟨rfl, rfl⟩ := hp
    refine g_if_eq (tgt := 25) E dX5_lay_16 (by decide) (fun c_16 => ?_) (fun c_16 => ?_)
    · have k_16 := q_b0.mp c_16
      refine g_bipush (v := -2) E dX5_lay_25 (by decide) ?_
      exact g_iret E Z dX5_lay_27 ⟨_, rfl, Or.inl ⟨by omega, rfl, rfl⟩⟩
    · have k_16 := q_b1.mp c_16
      refine g_iload_3 E dX5_lay_19 ?_
      refine g_bipush (v := 60) E dX5_lay_20 (by decide) ?_
      refine g_icmp_le (tgt := 28) E dX5_lay_22 (by decide) (fun c_22 => ?_) (fun c_22 => ?_)
      · have k_22 := c_22
        simp only [q_ilt, q_ile, q_ieq, Int32.reduceToInt, Int32.toInt_zero] at k_22
        refine g_iload_3 E dX5_lay_28 ?_
        refine g_if_ge (tgt := 35) E dX5_lay_29 (by decide) (fun c_29 => ?_) (fun c_29 => ?_)
        · have k_29 := c_29
          simp only [q_ilt, q_ile, q_ieq, Int32.reduceToInt, Int32.toInt_zero] at k_29
          obtain ⟨S, hS, rfl⟩ := q_nat (b := 3) k_4.1 k_4.2
          have kS : (nI S).toNatClampNeg = S := nI_clamp (by omega)
          have hap : alX n sB tB (S + 15) = true := alX_p (by omega)
          have htp : tyX (S + 15) = .inl (.long, 60) := tyX_p (by omega)
          have hrp : rfX n sB tB 14 S = some (S + 15) := rfX_p (by omega)
          refine g_aload_0 E dX5_lay_35 ?_
          refine g_getR E (by first | assumption | rfl) (by first | assumption | rfl) fl_X5_13 rfl (by first | assumption | rfl) dX5_lay_36 ?_
          refine g_iload_1 E dX5_lay_39 ?_
          first | refine g_aald E (by first | assumption | rfl) (by first | assumption | rfl) dX5_lay_40 (q_ix_n (by omega)) (by first | assumption | rfl) ?_ | refine g_aaldJ E (by first | assumption | rfl) (by first | assumption | rfl) dX5_lay_40 (q_ix_n (by omega)) (by first | assumption | rfl) ?_
          refine g_lconst (v := 0) E dX5_lay_41 (by decide) ?_
          refine g_cSv2 E (c_J7_fill_d0a16 (S + 15) 60 (by assumption) (by assumption) (by decide) _) cw_X5_45 (by decide) (by decide) (Nat.le_of_ble_eq_true rfl) dX5_lay_42 (fun h_42 hp => ?_)
          subst hp
          refine g_aload_0 E dX5_lay_45 ?_
          refine g_getR E (by first | assumption | rfl) (by first | assumption | rfl) fl_X5_16 rfl (by first | assumption | rfl) dX5_lay_46 ?_
          refine g_iload_1 E dX5_lay_49 ?_
          refine g_iload_2 E dX5_lay_50 ?_
          refine g_iast E (by first | assumption | rfl) (by first | assumption | rfl) dX5_lay_51 (q_ix_n (by omega)) ?_
          refine g_aload_0 E dX5_lay_52 ?_
          refine g_getR E (by first | assumption | rfl) (by first | assumption | rfl) fl_X5_20 rfl (by first | assumption | rfl) dX5_lay_53 ?_
          refine g_iload_1 E dX5_lay_56 ?_
          refine g_iload_3 E dX5_lay_57 ?_
          refine g_iast E (by first | assumption | rfl) (by first | assumption | rfl) dX5_lay_58 (q_ix_n (by omega)) ?_
          refine g_iconst (v := 0) E dX5_lay_59 (by decide) ?_
          exact g_iret E Z dX5_lay_60 ⟨_, rfl, Or.inr (Or.inr ⟨S, hS, rfl, k_16, by omega, rfl, rfl⟩)⟩
        · have k_29 := c_29
          simp only [q_ilt, q_ile, q_ieq, Int32.reduceToInt, Int32.toInt_zero] at k_29
          refine g_bipush (v := -3) E dX5_lay_32 (by decide) ?_
          exact g_iret E Z dX5_lay_34 ⟨_, rfl, Or.inr (Or.inl ⟨by omega, by omega, rfl, rfl⟩)⟩
      · have k_22 := c_22
        simp only [q_ilt, q_ile, q_ieq, Int32.reduceToInt, Int32.toInt_zero] at k_22
        refine g_bipush (v := -2) E dX5_lay_25 (by decide) ?_
        exact g_iret E Z dX5_lay_27 ⟨_, rfl, Or.inl ⟨by omega, rfl, rfl⟩⟩
set_option maxHeartbeats 4000000 in
set_option maxRecDepth 100000 in
theorem c_X5_clear {n : Nat} {sB tB : Bool} {f : Nat → Nat → Int32} {g : Nat → Nat → Int64} (s : Int32) : q_ConI yX5_clear cX5_clear 2 (some .boolean) 2 41 tyX (alX n sB tB) [.ref 3, .int s] (f, g, rfX n sB tB) (fun v h' => (∃ S : Nat, S ≤ 3 ∧ s = nI S ∧ ¬ f 20 S = -1 ∧ v = 1 ∧ h' = (q_up f 20 S (-1), g, rfX n sB tB)) ∨ (q_len (f 20) s = -1 ∧ v = 0 ∧ h' = (f, g, rfX n sB tB))) := by
  refine q_Con.of RX5 [some (.ref 3), some (.int s)] (by decide +kernel) rfl rfl (Nat.le_of_ble_eq_true rfl) (fun C ad E Z => ?_)
  refine g_aload_0 E dX5_clear_0 ?_
  refine g_iload_1 E dX5_clear_1 ?_
  refine g_cVi1 E (c_X5_lengthOf _) cw_X5_27 (by decide) (by decide) (by first | assumption | rfl) (by first | assumption | rfl) (Nat.le_of_ble_eq_true rfl) dX5_clear_2 (fun v_2 h_2 hp => ?_)
  obtain ⟨rfl, rfl⟩ := hp
  refine g_iconst (v := -1) E dX5_clear_5 (by decide) ?_
  refine g_icmp_ne (tgt := 11) E dX5_clear_6 (by decide) (fun c_6 => ?_) (fun c_6 => ?_)
  · have hpl : 0 ≤ s.toInt ∧ s.toInt ≤ 3 := by
      by_cases q : 0 ≤ s.toInt ∧ s.toInt ≤ 3
      · exact q
      · exact absurd (by unfold q_len; rw [if_neg q]) c_6
    obtain ⟨S, hS, rfl⟩ := q_nat (b := 3) hpl.1 hpl.2
    have kS : (nI S).toNatClampNeg = S := nI_clamp (by omega)
    have k6 : ¬ f 20 S = -1 := fun q => c_6 (by unfold q_len; rw [if_pos hpl, kS, q])
    refine g_aload_0 E dX5_clear_11 ?_
    refine g_getR E (by first | assumption | rfl) (by first | assumption | rfl) fl_X5_20 rfl (by first | assumption | rfl) dX5_clear_12 ?_
    refine g_iload_1 E dX5_clear_15 ?_
    refine g_iconst (v := -1) E dX5_clear_16 (by decide) ?_
    refine g_iast E (by first | assumption | rfl) (by first | assumption | rfl) dX5_clear_17 (q_ix_n (by omega)) ?_
    refine g_iconst (v := 1) E dX5_clear_18 (by decide) ?_
    exact g_zret E Z dX5_clear_19 rfl ⟨_, rfl, Or.inl ⟨S, hS, rfl, k6, rfl, rfl⟩⟩
  · refine g_iconst (v := 0) E dX5_clear_9 (by decide) ?_
    exact g_zret E Z dX5_clear_10 rfl ⟨_, rfl, Or.inr ⟨c_6, rfl, rfl⟩⟩
set_option maxHeartbeats 4000000 in
set_option maxRecDepth 100000 in
theorem c_X5_put {n : Nat} {sB tB : Bool} {f : Nat → Nat → Int32} {g : Nat → Nat → Int64} (hlen : ∀ S, S ≤ 3 → f 20 S = -1 ∨ ∃ z : Nat, z ≤ 60 ∧ f 20 S = nI z) (s i : Int32) (x : Int64) : q_ConI yX5_put cX5_put 5 (some .int) 1 22 tyX (alX n sB tB) [.ref 3, .int s, .int i, .long x] (f, g, rfX n sB tB) (fun v h' => (¬ (0 ≤ s.toInt ∧ s.toInt ≤ 3) ∧ v = -2 ∧ h' = (f, g, rfX n sB tB)) ∨ (∃ S : Nat, S ≤ 3 ∧ s = nI S ∧ ((f 20 S = -1 ∧ v = -5 ∧ h' = (f, g, rfX n sB tB)) ∨ (¬ f 20 S = -1 ∧ ¬ (0 ≤ i.toInt ∧ i.toInt < (f 20 S).toInt) ∧ v = -6 ∧ h' = (f, g, rfX n sB tB)) ∨ (¬ f 20 S = -1 ∧ ∃ j : Nat, i = nI j ∧ (j : Int) < (f 20 S).toInt ∧ j < 60 ∧ v = 0 ∧ h' = (f, q_up g (S + 15) j (q_cut (f 19 S) x), rfX n sB tB))))) := by
  refine q_Con.of RX5 [some (.ref 3), some (.int s), some (.int i), some (.long x), none] (by decide +kernel) rfl rfl (Nat.le_of_ble_eq_true rfl) (fun C ad E Z => ?_)
  refine g_iload_1 E dX5_put_0 ?_
  refine g_cSi1 E (c_X5_isPlace _) cw_X5_23 (by decide) (by decide) (Nat.le_of_ble_eq_true rfl) dX5_put_1 (fun v_1 h_1 hp => ?_)
  obtain ⟨rfl, rfl⟩ := hp
  refine g_if_ne (tgt := 10) E dX5_put_4 (by decide) (fun c_4 => ?_) (fun c_4 => ?_)
  · have k_4 := q_b1.mp c_4
    obtain ⟨S, hS, rfl⟩ := q_nat (b := 3) k_4.1 k_4.2
    have kS : (nI S).toNatClampNeg = S := nI_clamp (by omega)
    have hap : alX n sB tB (S + 15) = true := alX_p (by omega)
    have htp : tyX (S + 15) = .inl (.long, 60) := tyX_p (by omega)
    have hrp : rfX n sB tB 14 S = some (S + 15) := rfX_p (by omega)
    refine g_aload_0 E dX5_put_10 ?_
    refine g_getR E (by first | assumption | rfl) (by first | assumption | rfl) fl_X5_20 rfl (by first | assumption | rfl) dX5_put_11 ?_
    refine g_iload_1 E dX5_put_14 ?_
    refine g_iald E (by first | assumption | rfl) (by first | assumption | rfl) dX5_put_15 (q_ix_n (by omega)) ?_
    refine g_iconst (v := -1) E dX5_put_16 (by decide) ?_
    refine g_icmp_ne (tgt := 23) E dX5_put_17 (by decide) (fun c_17 => ?_) (fun c_17 => ?_)
    · refine g_iload_2 E dX5_put_23 ?_
      refine g_if_lt (tgt := 37) E dX5_put_24 (by decide) (fun c_24 => ?_) (fun c_24 => ?_)
      · have k_24 := c_24
        simp only [q_ilt, q_ile, q_ieq, Int32.reduceToInt, Int32.toInt_zero] at k_24
        refine g_bipush (v := -6) E dX5_put_37 (by decide) ?_
        exact g_iret E Z dX5_put_39 ⟨_, rfl, Or.inr ⟨S, hS, rfl, Or.inr (Or.inl ⟨c_17, by omega, rfl, rfl⟩)⟩⟩
      · have k_24 := c_24
        simp only [q_ilt, q_ile, q_ieq, Int32.reduceToInt, Int32.toInt_zero] at k_24
        refine g_iload_2 E dX5_put_27 ?_
        refine g_aload_0 E dX5_put_28 ?_
        refine g_getR E (by first | assumption | rfl) (by first | assumption | rfl) fl_X5_20 rfl (by first | assumption | rfl) dX5_put_29 ?_
        refine g_iload_1 E dX5_put_32 ?_
        refine g_iald E (by first | assumption | rfl) (by first | assumption | rfl) dX5_put_33 (q_ix_n (by omega)) ?_
        refine g_icmp_lt (tgt := 40) E dX5_put_34 (by decide) (fun c_34 => ?_) (fun c_34 => ?_)
        · have k34 := q_ilt.mp c_34
          obtain ⟨z, hz, ez⟩ := (hlen S hS).resolve_left c_17
          have hzi : (f 20 S).toInt = z := by rw [ez]; exact nI_toInt (by omega)
          obtain ⟨j, hj, rfl⟩ := q_nat (b := 59) (x := i) (by omega) (by omega)
          have kj : (nI j).toInt = j := nI_toInt (by omega)
          refine g_aload_0 E dX5_put_40 ?_
          refine g_getR E (by first | assumption | rfl) (by first | assumption | rfl) fl_X5_13 rfl (by first | assumption | rfl) dX5_put_41 ?_
          refine g_iload_1 E dX5_put_44 ?_
          first | refine g_aald E (by first | assumption | rfl) (by first | assumption | rfl) dX5_put_45 (q_ix_n (by omega)) (by first | assumption | rfl) ?_ | refine g_aaldJ E (by first | assumption | rfl) (by first | assumption | rfl) dX5_put_45 (q_ix_n (by omega)) (by first | assumption | rfl) ?_
          refine g_iload_2 E dX5_put_46 ?_
          refine g_lload_3 E dX5_put_47 ?_
          refine g_aload_0 E dX5_put_48 ?_
          refine g_getR E (by first | assumption | rfl) (by first | assumption | rfl) fl_X5_16 rfl (by first | assumption | rfl) dX5_put_49 ?_
          refine g_iload_1 E dX5_put_52 ?_
          refine g_iald E (by first | assumption | rfl) (by first | assumption | rfl) dX5_put_53 (q_ix_n (by omega)) ?_
          refine g_cSl2 E (c_X5_cut _ _) cw_X5_51 (by decide) (by decide) (Nat.le_of_ble_eq_true rfl) dX5_put_54 (fun v_54 h_54 hp => ?_)
          obtain ⟨rfl, rfl⟩ := hp
          refine g_last E (by first | assumption | rfl) (by first | assumption | rfl) dX5_put_57 (q_ix_n (by omega)) ?_
          refine g_iconst (v := 0) E dX5_put_58 (by decide) ?_
          exact g_iret E Z dX5_put_59 ⟨_, rfl, Or.inr ⟨S, hS, rfl, Or.inr (Or.inr ⟨c_17, j, rfl, by omega, by omega, rfl, rfl⟩)⟩⟩
        · have k34 := (not_congr q_ilt).mp c_34
          refine g_bipush (v := -6) E dX5_put_37 (by decide) ?_
          exact g_iret E Z dX5_put_39 ⟨_, rfl, Or.inr ⟨S, hS, rfl, Or.inr (Or.inl ⟨c_17, by omega, rfl, rfl⟩)⟩⟩
    · refine g_bipush (v := -5) E dX5_put_20 (by decide) ?_
      exact g_iret E Z dX5_put_22 ⟨_, rfl, Or.inr ⟨S, hS, rfl, Or.inl ⟨c_17, rfl, rfl⟩⟩⟩
  · have k_4 := q_b0.mp c_4
    refine g_bipush (v := -2) E dX5_put_7 (by decide) ?_
    exact g_iret E Z dX5_put_9 ⟨_, rfl, Or.inl ⟨k_4, rfl, rfl⟩⟩
