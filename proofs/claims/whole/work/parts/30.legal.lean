/-! which sets are legal -/
abbrev z_ok (fb gt hd up : Nat → Int32) (s c : Nat) : Prop := fb c &&& nI s = 0 ∧ ¬ up (gt c).toNatClampNeg = 0 ∧ ¬ 0 < hd c
def z_cnt (s n : Nat) : Int32 := q_sum (fun c => if s.testBit c = true then 1 else 0) n
def z_pow (pn : Nat → Int32) (s n : Nat) : Int32 := q_sum (fun c => if s.testBit c = true then pn c else 0) n
def z_use (gt : Nat → Int32) (s : Nat) (y : Int32) (n : Nat) : Int32 := q_sum (fun c => if s.testBit c = true then (if gt c = y then 1 else 0) else 0) n
abbrev z_leg (n : Nat) (bm lim : Int32) (fb gt hd pn up rm : Nat → Int32) (s : Nat) : Prop := (∀ c, c < n → s.testBit c = true → z_ok fb gt hd up s c) ∧ z_cnt s n ≤ bm ∧ z_pow pn s n ≤ lim ∧ z_use gt s 0 n ≤ rm 0 ∧ z_use gt s 1 n ≤ rm 1 ∧ z_use gt s 2 n ≤ rm 2
theorem z_cnt_t {s i : Nat} (h : s.testBit i = true) : z_cnt s (i + 1) = z_cnt s i + 1 := by unfold z_cnt; rw [q_sum, if_pos h]
theorem z_cnt_f {s i : Nat} (h : ¬ s.testBit i = true) : z_cnt s (i + 1) = z_cnt s i := by unfold z_cnt; rw [q_sum, if_neg h, Int32.add_zero]
theorem z_pow_t {pn : Nat → Int32} {s i : Nat} (h : s.testBit i = true) : z_pow pn s (i + 1) = z_pow pn s i + pn i := by unfold z_pow; rw [q_sum, if_pos h]
theorem z_pow_f {pn : Nat → Int32} {s i : Nat} (h : ¬ s.testBit i = true) : z_pow pn s (i + 1) = z_pow pn s i := by unfold z_pow; rw [q_sum, if_neg h, Int32.add_zero]
theorem z_use_t {gt : Nat → Int32} {s i : Nat} {y : Int32} (h : s.testBit i = true) : z_use gt s y (i + 1) = z_use gt s y i + (if gt i = y then 1 else 0) := by unfold z_use; rw [q_sum, if_pos h]
theorem z_use_f {gt : Nat → Int32} {s i : Nat} {y : Int32} (h : ¬ s.testBit i = true) : z_use gt s y (i + 1) = z_use gt s y i := by unfold z_use; rw [q_sum, if_neg h, Int32.add_zero]
set_option maxRecDepth 100000 in
theorem q_bitA : ∀ s, s < 1024 → ∀ c, c < 10 → q_bit (nI s) (nI c) = if s.testBit c = true then 1 else 0 := by decide +kernel
theorem q_bit0 {s c : Nat} (hs : s < 1024) (hc : c < 10) : q_bit (nI s) (nI c) = 0 ↔ ¬ s.testBit c = true := by
  rw [q_bitA s hs c hc]; split <;> simp_all
def q_bc (x : Int32) : Int32 :=
  (fun a : Int32 => (fun b : Int32 => (fun c : Int32 => (fun d : Int32 => (fun e : Int32 => e &&& 63) (d + (d.toUInt32 >>> (Int32.toUInt32 16 &&& Int32.toUInt32 31)).toInt32)) (c + (c.toUInt32 >>> (Int32.toUInt32 8 &&& Int32.toUInt32 31)).toInt32)) ((b + (b.toUInt32 >>> (Int32.toUInt32 4 &&& Int32.toUInt32 31)).toInt32) &&& 252645135)) ((a &&& 858993459) + ((a.toUInt32 >>> (Int32.toUInt32 2 &&& Int32.toUInt32 31)).toInt32 &&& 858993459))) (x - ((x.toUInt32 >>> (Int32.toUInt32 1 &&& Int32.toUInt32 31)).toInt32 &&& 1431655765))
set_option maxRecDepth 100000 in
theorem q_bcA : ∀ s, s < 1024 → q_bc (nI s) = z_cnt s 10 := by decide +kernel
set_option maxHeartbeats 4000000 in
set_option maxRecDepth 100000 in
theorem c_J6_bitCount_0f7a4 {ty : Nat → PT} {al : Nat → Bool} {h : PH} (x : Int32) : q_ConI yJ6_bitCount_0f7a4 cJ6_bitCount_0f7a4 1 (some .int) 0 0 ty al [.int x] h (fun r h' => r = q_bc x ∧ h' = h) := by
  refine q_Con.of RJ6 [some (.int x)] (by decide +kernel) rfl rfl (Nat.le_of_ble_eq_true rfl) (fun C ad E Z => ?_)
  refine g_iload_0 E dJ6_bitCount_0f7a4_0 ?_
  refine g_iload_0 E dJ6_bitCount_0f7a4_1 ?_
  refine g_iconst (v := 1) E dJ6_bitCount_0f7a4_2 (by decide) ?_
  refine g_iushr E dJ6_bitCount_0f7a4_3 ?_
  refine g_ldcw E kw_J6_265 dJ6_bitCount_0f7a4_4 ?_
  refine g_iand E dJ6_bitCount_0f7a4_7 ?_
  refine g_isub E dJ6_bitCount_0f7a4_8 ?_
  refine g_istore_0 E dJ6_bitCount_0f7a4_9 (by decide) rfl ?_
  refine g_iload_0 E dJ6_bitCount_0f7a4_10 ?_
  refine g_ldcw E kw_J6_266 dJ6_bitCount_0f7a4_11 ?_
  refine g_iand E dJ6_bitCount_0f7a4_14 ?_
  refine g_iload_0 E dJ6_bitCount_0f7a4_15 ?_
  refine g_iconst (v := 2) E dJ6_bitCount_0f7a4_16 (by decide) ?_
  refine g_iushr E dJ6_bitCount_0f7a4_17 ?_
  refine g_ldcw E kw_J6_266 dJ6_bitCount_0f7a4_18 ?_
  refine g_iand E dJ6_bitCount_0f7a4_21 ?_
  refine g_iadd E dJ6_bitCount_0f7a4_22 ?_
  refine g_istore_0 E dJ6_bitCount_0f7a4_23 (by decide) rfl ?_
  refine g_iload_0 E dJ6_bitCount_0f7a4_24 ?_
  refine g_iload_0 E dJ6_bitCount_0f7a4_25 ?_
  refine g_iconst (v := 4) E dJ6_bitCount_0f7a4_26 (by decide) ?_
  refine g_iushr E dJ6_bitCount_0f7a4_27 ?_
  refine g_iadd E dJ6_bitCount_0f7a4_28 ?_
  refine g_ldcw E kw_J6_267 dJ6_bitCount_0f7a4_29 ?_
  refine g_iand E dJ6_bitCount_0f7a4_32 ?_
  refine g_istore_0 E dJ6_bitCount_0f7a4_33 (by decide) rfl ?_
  refine g_iload_0 E dJ6_bitCount_0f7a4_34 ?_
  refine g_iload_0 E dJ6_bitCount_0f7a4_35 ?_
  refine g_bipush (v := 8) E dJ6_bitCount_0f7a4_36 (by decide) ?_
  refine g_iushr E dJ6_bitCount_0f7a4_38 ?_
  refine g_iadd E dJ6_bitCount_0f7a4_39 ?_
  refine g_istore_0 E dJ6_bitCount_0f7a4_40 (by decide) rfl ?_
  refine g_iload_0 E dJ6_bitCount_0f7a4_41 ?_
  refine g_iload_0 E dJ6_bitCount_0f7a4_42 ?_
  refine g_bipush (v := 16) E dJ6_bitCount_0f7a4_43 (by decide) ?_
  refine g_iushr E dJ6_bitCount_0f7a4_45 ?_
  refine g_iadd E dJ6_bitCount_0f7a4_46 ?_
  refine g_istore_0 E dJ6_bitCount_0f7a4_47 (by decide) rfl ?_
  refine g_iload_0 E dJ6_bitCount_0f7a4_48 ?_
  refine g_bipush (v := 63) E dJ6_bitCount_0f7a4_49 (by decide) ?_
  refine g_iand E dJ6_bitCount_0f7a4_51 ?_
  exact g_iret E Z dJ6_bitCount_0f7a4_52 ⟨_, rfl, ⟨rfl, rfl⟩⟩
abbrev z_legM (n : Nat) (f : Nat → Nat → Int32) (s : Nat) : Prop := z_leg n (f 0 6) (f 0 7) (f 23) (f 18) (f 19) (fun c => f 15 c * (2 + f 22 c) / 2) (f 28) (f 27) s
theorem z_end {n i : Nat} {bm lim : Int32} {fb gt hd pn up rm : Nat → Int32} {s : Nat} {v : Int32} (hi : i ≤ n ∧ n ≤ i) (hall : ∀ c, c < i → s.testBit c = true → z_ok fb gt hd up s c)
    (h : (v = 1 ∧ z_cnt s i ≤ bm ∧ z_pow pn s i ≤ lim ∧ z_use gt s 0 i ≤ rm 0 ∧ z_use gt s 1 i ≤ rm 1 ∧ z_use gt s 2 i ≤ rm 2) ∨ (v = 0 ∧ ¬ (z_cnt s i ≤ bm ∧ z_pow pn s i ≤ lim ∧ z_use gt s 0 i ≤ rm 0 ∧ z_use gt s 1 i ≤ rm 1 ∧ z_use gt s 2 i ≤ rm 2))) : v = q_b (z_leg n bm lim fb gt hd pn up rm s) := by
  have e : i = n := by omega
  subst e
  rcases h with ⟨rfl, h⟩ | ⟨rfl, h⟩
  · exact q_bt ⟨hall, h⟩
  · exact q_bf (fun q => h q.2)
set_option maxHeartbeats 4000000 in
set_option maxRecDepth 100000 in
theorem c_X8_isLegal {f : Nat → Nat → Int32} {g : Nat → Nat → Int64} (n : Nat) (hn : f 0 5 = nI n) (h10 : n ≤ 10) (hgt : ∀ c, c < n → ∃ j : Nat, j ≤ 2 ∧ f 18 c = nI j) (s : Nat) (hs : s < 1024) : q_ConI yX8_isLegal cX8_isLegal 8 (some .boolean) 1 21 tyM alM [.ref 0, .int (nI s)] (f, g, rfM) (fun v h' => v = q_b (z_legM n f s) ∧ h' = (f, g, rfM)) := by
  refine q_Con.of RX8 [some (.ref 0), some (.int (nI s)), none, none, none, none, none, none] (by decide +kernel) rfl rfl (Nat.le_of_ble_eq_true rfl) (fun C ad E Z => ?_)
  have L : ∀ i, i ≤ n → (∀ c, c < i → s.testBit c = true → z_ok (f 23) (f 18) (f 19) (f 28) s c) → gg C tyM 8 0 0 alM ad 16 [some (.ref 0), some (.int (nI s)), some (.int (z_cnt s i)), some (.int (z_pow (fun c => f 15 c * (2 + f 22 c) / 2) s i)), some (.int (z_use (f 18) s 0 i)), some (.int (z_use (f 18) s 1 i)), some (.int (z_use (f 18) s 2 i)), some (.int (nI i))] [] (f, g, rfM) := by
    refine q_loop n (fun i hi ih hall => ?_)
    refine g_iload_7 E dX8_isLegal_16 ?_
    refine g_aload_0 E dX8_isLegal_18 ?_
    refine g_getI E (by first | rfl | assumption) (by first | rfl | assumption) fl_X8_154 rfl dX8_isLegal_19 ?_
    refine g_icmp_ge (tgt := 156) E dX8_isLegal_22 (by decide) (fun c_22 => ?_) (fun c_22 => ?_)
    · have e_22 := (q_ge (x := n) (y := i) hn rfl (by omega) (by omega)).mp c_22
      refine g_iload_2 E dX8_isLegal_156 ?_
      refine g_aload_0 E dX8_isLegal_157 ?_
      refine g_getI E (by first | rfl | assumption) (by first | rfl | assumption) fl_X8_23 rfl dX8_isLegal_158 ?_
      refine g_icmp_gt (tgt := 209) E dX8_isLegal_161 (by decide) (fun c_161 => ?_) (fun c_161 => ?_)
      · refine g_iconst (v := 0) E dX8_isLegal_209 (by decide) ?_
        exact g_zret E Z dX8_isLegal_210 rfl ⟨_, rfl, ⟨z_end (by omega) hall (by first | exact Or.inl ⟨rfl, Int32.not_lt.mp c_161, Int32.not_lt.mp c_169, Int32.not_lt.mp c_180, Int32.not_lt.mp c_191, Int32.not_lt.mp c_202⟩ | exact Or.inr ⟨rfl, fun q => Int32.not_le.mpr c_161 q.1⟩ | exact Or.inr ⟨rfl, fun q => Int32.not_le.mpr c_169 q.2.1⟩ | exact Or.inr ⟨rfl, fun q => Int32.not_le.mpr c_180 q.2.2.1⟩ | exact Or.inr ⟨rfl, fun q => Int32.not_le.mpr c_191 q.2.2.2.1⟩ | exact Or.inr ⟨rfl, fun q => Int32.not_le.mpr c_202 q.2.2.2.2⟩), rfl⟩⟩
      · refine g_iload_3 E dX8_isLegal_164 ?_
        refine g_aload_0 E dX8_isLegal_165 ?_
        refine g_getI E (by first | rfl | assumption) (by first | rfl | assumption) fl_X8_27 rfl dX8_isLegal_166 ?_
        refine g_icmp_gt (tgt := 209) E dX8_isLegal_169 (by decide) (fun c_169 => ?_) (fun c_169 => ?_)
        · refine g_iconst (v := 0) E dX8_isLegal_209 (by decide) ?_
          exact g_zret E Z dX8_isLegal_210 rfl ⟨_, rfl, ⟨z_end (by omega) hall (by first | exact Or.inl ⟨rfl, Int32.not_lt.mp c_161, Int32.not_lt.mp c_169, Int32.not_lt.mp c_180, Int32.not_lt.mp c_191, Int32.not_lt.mp c_202⟩ | exact Or.inr ⟨rfl, fun q => Int32.not_le.mpr c_161 q.1⟩ | exact Or.inr ⟨rfl, fun q => Int32.not_le.mpr c_169 q.2.1⟩ | exact Or.inr ⟨rfl, fun q => Int32.not_le.mpr c_180 q.2.2.1⟩ | exact Or.inr ⟨rfl, fun q => Int32.not_le.mpr c_191 q.2.2.2.1⟩ | exact Or.inr ⟨rfl, fun q => Int32.not_le.mpr c_202 q.2.2.2.2⟩), rfl⟩⟩
        · refine g_iload_4 E dX8_isLegal_172 ?_
          refine g_aload_0 E dX8_isLegal_174 ?_
          refine g_getR E (by first | rfl | assumption) (by first | rfl | assumption) fl_X8_75 rfl (by first | rfl | assumption) dX8_isLegal_175 ?_
          refine g_iconst (v := 0) E dX8_isLegal_178 (by decide) ?_
          refine g_iald E (by first | rfl | assumption) (by first | rfl | assumption) dX8_isLegal_179 (q_ix_l (j := 0) (by decide)) ?_
          refine g_icmp_gt (tgt := 209) E dX8_isLegal_180 (by decide) (fun c_180 => ?_) (fun c_180 => ?_)
          · refine g_iconst (v := 0) E dX8_isLegal_209 (by decide) ?_
            exact g_zret E Z dX8_isLegal_210 rfl ⟨_, rfl, ⟨z_end (by omega) hall (by first | exact Or.inl ⟨rfl, Int32.not_lt.mp c_161, Int32.not_lt.mp c_169, Int32.not_lt.mp c_180, Int32.not_lt.mp c_191, Int32.not_lt.mp c_202⟩ | exact Or.inr ⟨rfl, fun q => Int32.not_le.mpr c_161 q.1⟩ | exact Or.inr ⟨rfl, fun q => Int32.not_le.mpr c_169 q.2.1⟩ | exact Or.inr ⟨rfl, fun q => Int32.not_le.mpr c_180 q.2.2.1⟩ | exact Or.inr ⟨rfl, fun q => Int32.not_le.mpr c_191 q.2.2.2.1⟩ | exact Or.inr ⟨rfl, fun q => Int32.not_le.mpr c_202 q.2.2.2.2⟩), rfl⟩⟩
          · refine g_iload_5 E dX8_isLegal_183 ?_
            refine g_aload_0 E dX8_isLegal_185 ?_
            refine g_getR E (by first | rfl | assumption) (by first | rfl | assumption) fl_X8_75 rfl (by first | rfl | assumption) dX8_isLegal_186 ?_
            refine g_iconst (v := 1) E dX8_isLegal_189 (by decide) ?_
            refine g_iald E (by first | rfl | assumption) (by first | rfl | assumption) dX8_isLegal_190 (q_ix_l (j := 1) (by decide)) ?_
            refine g_icmp_gt (tgt := 209) E dX8_isLegal_191 (by decide) (fun c_191 => ?_) (fun c_191 => ?_)
            · refine g_iconst (v := 0) E dX8_isLegal_209 (by decide) ?_
              exact g_zret E Z dX8_isLegal_210 rfl ⟨_, rfl, ⟨z_end (by omega) hall (by first | exact Or.inl ⟨rfl, Int32.not_lt.mp c_161, Int32.not_lt.mp c_169, Int32.not_lt.mp c_180, Int32.not_lt.mp c_191, Int32.not_lt.mp c_202⟩ | exact Or.inr ⟨rfl, fun q => Int32.not_le.mpr c_161 q.1⟩ | exact Or.inr ⟨rfl, fun q => Int32.not_le.mpr c_169 q.2.1⟩ | exact Or.inr ⟨rfl, fun q => Int32.not_le.mpr c_180 q.2.2.1⟩ | exact Or.inr ⟨rfl, fun q => Int32.not_le.mpr c_191 q.2.2.2.1⟩ | exact Or.inr ⟨rfl, fun q => Int32.not_le.mpr c_202 q.2.2.2.2⟩), rfl⟩⟩
            · refine g_iload_6 E dX8_isLegal_194 ?_
              refine g_aload_0 E dX8_isLegal_196 ?_
              refine g_getR E (by first | rfl | assumption) (by first | rfl | assumption) fl_X8_75 rfl (by first | rfl | assumption) dX8_isLegal_197 ?_
              refine g_iconst (v := 2) E dX8_isLegal_200 (by decide) ?_
              refine g_iald E (by first | rfl | assumption) (by first | rfl | assumption) dX8_isLegal_201 (q_ix_l (j := 2) (by decide)) ?_
              refine g_icmp_gt (tgt := 209) E dX8_isLegal_202 (by decide) (fun c_202 => ?_) (fun c_202 => ?_)
              · refine g_iconst (v := 0) E dX8_isLegal_209 (by decide) ?_
                exact g_zret E Z dX8_isLegal_210 rfl ⟨_, rfl, ⟨z_end (by omega) hall (by first | exact Or.inl ⟨rfl, Int32.not_lt.mp c_161, Int32.not_lt.mp c_169, Int32.not_lt.mp c_180, Int32.not_lt.mp c_191, Int32.not_lt.mp c_202⟩ | exact Or.inr ⟨rfl, fun q => Int32.not_le.mpr c_161 q.1⟩ | exact Or.inr ⟨rfl, fun q => Int32.not_le.mpr c_169 q.2.1⟩ | exact Or.inr ⟨rfl, fun q => Int32.not_le.mpr c_180 q.2.2.1⟩ | exact Or.inr ⟨rfl, fun q => Int32.not_le.mpr c_191 q.2.2.2.1⟩ | exact Or.inr ⟨rfl, fun q => Int32.not_le.mpr c_202 q.2.2.2.2⟩), rfl⟩⟩
              · refine g_iconst (v := 1) E dX8_isLegal_205 (by decide) ?_
                refine g_goto (tgt := 210) E dX8_isLegal_206 (by decide) ?_
                exact g_zret E Z dX8_isLegal_210 rfl ⟨_, rfl, ⟨z_end (by omega) hall (by first | exact Or.inl ⟨rfl, Int32.not_lt.mp c_161, Int32.not_lt.mp c_169, Int32.not_lt.mp c_180, Int32.not_lt.mp c_191, Int32.not_lt.mp c_202⟩ | exact Or.inr ⟨rfl, fun q => Int32.not_le.mpr c_161 q.1⟩ | exact Or.inr ⟨rfl, fun q => Int32.not_le.mpr c_169 q.2.1⟩ | exact Or.inr ⟨rfl, fun q => Int32.not_le.mpr c_180 q.2.2.1⟩ | exact Or.inr ⟨rfl, fun q => Int32.not_le.mpr c_191 q.2.2.2.1⟩ | exact Or.inr ⟨rfl, fun q => Int32.not_le.mpr c_202 q.2.2.2.2⟩), rfl⟩⟩
    · have e_22 := (not_congr (q_ge (x := n) (y := i) hn rfl (by omega) (by omega))).mp c_22
      refine g_iload_1 E dX8_isLegal_25 ?_
      refine g_iload_7 E dX8_isLegal_26 ?_
      refine g_ishr E dX8_isLegal_28 ?_
      refine g_iconst (v := 1) E dX8_isLegal_29 (by decide) ?_
      refine g_iand E dX8_isLegal_30 ?_
      refine g_if_ne (tgt := 37) E dX8_isLegal_31 (by decide) (fun c_31 => ?_) (fun c_31 => ?_)
      · have hb : s.testBit i = true := Classical.byContradiction (fun q => c_31 ((q_bit0 hs (by omega)).mpr q))
        obtain ⟨j, hj, ej⟩ := hgt i (by omega)
        have kj : (f 18 i).toNatClampNeg = j := by rw [ej]; exact nI_clamp (by omega)
        refine g_aload_0 E dX8_isLegal_37 ?_
        refine g_getR E (by first | rfl | assumption) (by first | rfl | assumption) fl_X8_63 rfl (by first | rfl | assumption) dX8_isLegal_38 ?_
        refine g_iload_7 E dX8_isLegal_41 ?_
        refine g_iald E (by first | rfl | assumption) (by first | rfl | assumption) dX8_isLegal_43 (q_ix_n (by omega)) ?_
        refine g_iload_1 E dX8_isLegal_44 ?_
        refine g_iand E dX8_isLegal_45 ?_
        refine g_if_ne (tgt := 74) E dX8_isLegal_46 (by decide) (fun c_46 => ?_) (fun c_46 => ?_)
        · have c_46 := c_46
          refine g_iconst (v := 0) E dX8_isLegal_74 (by decide) ?_
          exact g_zret E Z dX8_isLegal_75 rfl ⟨_, rfl, ⟨q_bf (fun q => by have z := q.1 i (by omega) hb; first | exact c_46 z.1 | exact z.2.1 (by rw [kj]; exact c_61) | exact z.2.2 (Int32.not_le.mp c_71)), rfl⟩⟩
        · have c_46 : ¬ ¬ (f 23 i &&& nI s = 0) := not_not_intro c_46
          refine g_aload_0 E dX8_isLegal_49 ?_
          refine g_getR E (by first | rfl | assumption) (by first | rfl | assumption) fl_X8_78 rfl (by first | rfl | assumption) dX8_isLegal_50 ?_
          refine g_aload_0 E dX8_isLegal_53 ?_
          refine g_getR E (by first | rfl | assumption) (by first | rfl | assumption) fl_X8_48 rfl (by first | rfl | assumption) dX8_isLegal_54 ?_
          refine g_iload_7 E dX8_isLegal_57 ?_
          refine g_iald E (by first | rfl | assumption) (by first | rfl | assumption) dX8_isLegal_59 (q_ix_n (by omega)) ?_
          first | refine g_zald E (by first | rfl | assumption) (by first | rfl | assumption) dX8_isLegal_60 (q_ix_e (j := j) ej (by omega)) ?_ | refine g_bald E (by first | rfl | assumption) (by first | rfl | assumption) dX8_isLegal_60 (q_ix_e (j := j) ej (by omega)) ?_
          refine g_if_eq (tgt := 74) E dX8_isLegal_61 (by decide) (fun c_61 => ?_) (fun c_61 => ?_)
          · refine g_iconst (v := 0) E dX8_isLegal_74 (by decide) ?_
            exact g_zret E Z dX8_isLegal_75 rfl ⟨_, rfl, ⟨q_bf (fun q => by have z := q.1 i (by omega) hb; first | exact c_46 z.1 | exact z.2.1 (by rw [kj]; exact c_61) | exact z.2.2 (Int32.not_le.mp c_71)), rfl⟩⟩
          · refine g_aload_0 E dX8_isLegal_64 ?_
            refine g_getR E (by first | rfl | assumption) (by first | rfl | assumption) fl_X8_51 rfl (by first | rfl | assumption) dX8_isLegal_65 ?_
            refine g_iload_7 E dX8_isLegal_68 ?_
            refine g_iald E (by first | rfl | assumption) (by first | rfl | assumption) dX8_isLegal_70 (q_ix_n (by omega)) ?_
            refine g_if_le (tgt := 76) E dX8_isLegal_71 (by decide) (fun c_71 => ?_) (fun c_71 => ?_)
            · refine g_iinc_2 (u := 1) E dX8_isLegal_76 (by decide) (by decide) rfl ?_
              refine g_iload_3 E dX8_isLegal_79 ?_
              refine g_aload_0 E dX8_isLegal_80 ?_
              refine g_iload_7 E dX8_isLegal_81 ?_
              refine g_cVi1 E (c_X8_powerNow (n := n) i (by omega)) cw_X8_185 (by decide) (by decide) (by first | rfl | assumption) (by first | rfl | assumption) (Nat.le_of_ble_eq_true rfl) dX8_isLegal_83 (fun v_83 h_83 hp => ?_)
              obtain ⟨rfl, rfl⟩ := hp
              refine g_iadd E dX8_isLegal_86 ?_
              refine g_istore_3 E dX8_isLegal_87 (by decide) rfl ?_
              refine g_iload_4 E dX8_isLegal_88 ?_
              refine g_aload_0 E dX8_isLegal_90 ?_
              refine g_getR E (by first | rfl | assumption) (by first | rfl | assumption) fl_X8_48 rfl (by first | rfl | assumption) dX8_isLegal_91 ?_
              refine g_iload_7 E dX8_isLegal_94 ?_
              refine g_iald E (by first | rfl | assumption) (by first | rfl | assumption) dX8_isLegal_96 (q_ix_n (by omega)) ?_
              refine g_if_ne (tgt := 104) E dX8_isLegal_97 (by decide) (fun c_97 => ?_) (fun c_97 => ?_)
              · refine g_iconst (v := 0) E dX8_isLegal_104 (by decide) ?_
                refine g_iadd E dX8_isLegal_105 ?_
                refine g_istore_4 E dX8_isLegal_106 (by decide) rfl ?_
                refine g_iload_5 E dX8_isLegal_108 ?_
                refine g_aload_0 E dX8_isLegal_110 ?_
                refine g_getR E (by first | rfl | assumption) (by first | rfl | assumption) fl_X8_48 rfl (by first | rfl | assumption) dX8_isLegal_111 ?_
                refine g_iload_7 E dX8_isLegal_114 ?_
                refine g_iald E (by first | rfl | assumption) (by first | rfl | assumption) dX8_isLegal_116 (q_ix_n (by omega)) ?_
                refine g_iconst (v := 1) E dX8_isLegal_117 (by decide) ?_
                refine g_icmp_ne (tgt := 125) E dX8_isLegal_118 (by decide) (fun c_118 => ?_) (fun c_118 => ?_)
                · refine g_iconst (v := 0) E dX8_isLegal_125 (by decide) ?_
                  refine g_iadd E dX8_isLegal_126 ?_
                  refine g_istore_5 E dX8_isLegal_127 (by decide) rfl ?_
                  refine g_iload_6 E dX8_isLegal_129 ?_
                  refine g_aload_0 E dX8_isLegal_131 ?_
                  refine g_getR E (by first | rfl | assumption) (by first | rfl | assumption) fl_X8_48 rfl (by first | rfl | assumption) dX8_isLegal_132 ?_
                  refine g_iload_7 E dX8_isLegal_135 ?_
                  refine g_iald E (by first | rfl | assumption) (by first | rfl | assumption) dX8_isLegal_137 (q_ix_n (by omega)) ?_
                  refine g_iconst (v := 2) E dX8_isLegal_138 (by decide) ?_
                  refine g_icmp_ne (tgt := 146) E dX8_isLegal_139 (by decide) (fun c_139 => ?_) (fun c_139 => ?_)
                  · refine g_iconst (v := 0) E dX8_isLegal_146 (by decide) ?_
                    refine g_iadd E dX8_isLegal_147 ?_
                    refine g_istore_6 E dX8_isLegal_148 (by decide) rfl ?_
                    refine g_iinc_7 (u := 1) E dX8_isLegal_150 (by decide) (by decide) rfl ?_
                    refine g_goto (tgt := 16) E dX8_isLegal_153 (by decide) ?_
                    rw [nI_1]
                    first
                    | (have e := ih (by omega) (fun c hc hcb => by
                        by_cases ec : c = i
                        · subst ec; exact ⟨Classical.byContradiction c_46, by rw [kj]; exact c_61, fun q => absurd c_71 (Int32.not_le.mpr q)⟩
                        · exact hall c (by omega) hcb)
                       rw [z_cnt_t hb, z_pow_t hb, z_use_t hb, z_use_t hb, z_use_t hb] at e
                       first | rw [if_pos c_97] at e | rw [if_neg c_97] at e
                       first | rw [if_pos c_118] at e | rw [if_neg c_118] at e
                       first | rw [if_pos c_139] at e | rw [if_neg c_139] at e
                       exact e)
                    | (have e := ih (by omega) (fun c hc hcb => by
                        by_cases ec : c = i
                        · subst ec; exact absurd hcb hb
                        · exact hall c (by omega) hcb)
                       rw [z_cnt_f hb, z_pow_f hb, z_use_f hb, z_use_f hb, z_use_f hb] at e
                       exact e)
                  · refine g_iconst (v := 1) E dX8_isLegal_142 (by decide) ?_
                    refine g_goto (tgt := 147) E dX8_isLegal_143 (by decide) ?_
                    refine g_iadd E dX8_isLegal_147 ?_
                    refine g_istore_6 E dX8_isLegal_148 (by decide) rfl ?_
                    refine g_iinc_7 (u := 1) E dX8_isLegal_150 (by decide) (by decide) rfl ?_
                    refine g_goto (tgt := 16) E dX8_isLegal_153 (by decide) ?_
                    rw [nI_1]
                    first
                    | (have e := ih (by omega) (fun c hc hcb => by
                        by_cases ec : c = i
                        · subst ec; exact ⟨Classical.byContradiction c_46, by rw [kj]; exact c_61, fun q => absurd c_71 (Int32.not_le.mpr q)⟩
                        · exact hall c (by omega) hcb)
                       rw [z_cnt_t hb, z_pow_t hb, z_use_t hb, z_use_t hb, z_use_t hb] at e
                       first | rw [if_pos c_97] at e | rw [if_neg c_97] at e
                       first | rw [if_pos c_118] at e | rw [if_neg c_118] at e
                       first | rw [if_pos c_139] at e | rw [if_neg c_139] at e
                       exact e)
                    | (have e := ih (by omega) (fun c hc hcb => by
                        by_cases ec : c = i
                        · subst ec; exact absurd hcb hb
                        · exact hall c (by omega) hcb)
                       rw [z_cnt_f hb, z_pow_f hb, z_use_f hb, z_use_f hb, z_use_f hb] at e
                       exact e)
                · refine g_iconst (v := 1) E dX8_isLegal_121 (by decide) ?_
                  refine g_goto (tgt := 126) E dX8_isLegal_122 (by decide) ?_
                  refine g_iadd E dX8_isLegal_126 ?_
                  refine g_istore_5 E dX8_isLegal_127 (by decide) rfl ?_
                  refine g_iload_6 E dX8_isLegal_129 ?_
                  refine g_aload_0 E dX8_isLegal_131 ?_
                  refine g_getR E (by first | rfl | assumption) (by first | rfl | assumption) fl_X8_48 rfl (by first | rfl | assumption) dX8_isLegal_132 ?_
                  refine g_iload_7 E dX8_isLegal_135 ?_
                  refine g_iald E (by first | rfl | assumption) (by first | rfl | assumption) dX8_isLegal_137 (q_ix_n (by omega)) ?_
                  refine g_iconst (v := 2) E dX8_isLegal_138 (by decide) ?_
                  refine g_icmp_ne (tgt := 146) E dX8_isLegal_139 (by decide) (fun c_139 => ?_) (fun c_139 => ?_)
                  · refine g_iconst (v := 0) E dX8_isLegal_146 (by decide) ?_
                    refine g_iadd E dX8_isLegal_147 ?_
                    refine g_istore_6 E dX8_isLegal_148 (by decide) rfl ?_
                    refine g_iinc_7 (u := 1) E dX8_isLegal_150 (by decide) (by decide) rfl ?_
                    refine g_goto (tgt := 16) E dX8_isLegal_153 (by decide) ?_
                    rw [nI_1]
                    first
                    | (have e := ih (by omega) (fun c hc hcb => by
                        by_cases ec : c = i
                        · subst ec; exact ⟨Classical.byContradiction c_46, by rw [kj]; exact c_61, fun q => absurd c_71 (Int32.not_le.mpr q)⟩
                        · exact hall c (by omega) hcb)
                       rw [z_cnt_t hb, z_pow_t hb, z_use_t hb, z_use_t hb, z_use_t hb] at e
                       first | rw [if_pos c_97] at e | rw [if_neg c_97] at e
                       first | rw [if_pos c_118] at e | rw [if_neg c_118] at e
                       first | rw [if_pos c_139] at e | rw [if_neg c_139] at e
                       exact e)
                    | (have e := ih (by omega) (fun c hc hcb => by
                        by_cases ec : c = i
                        · subst ec; exact absurd hcb hb
                        · exact hall c (by omega) hcb)
                       rw [z_cnt_f hb, z_pow_f hb, z_use_f hb, z_use_f hb, z_use_f hb] at e
                       exact e)
                  · refine g_iconst (v := 1) E dX8_isLegal_142 (by decide) ?_
                    refine g_goto (tgt := 147) E dX8_isLegal_143 (by decide) ?_
                    refine g_iadd E dX8_isLegal_147 ?_
                    refine g_istore_6 E dX8_isLegal_148 (by decide) rfl ?_
                    refine g_iinc_7 (u := 1) E dX8_isLegal_150 (by decide) (by decide) rfl ?_
                    refine g_goto (tgt := 16) E dX8_isLegal_153 (by decide) ?_
                    rw [nI_1]
                    first
                    | (have e := ih (by omega) (fun c hc hcb => by
                        by_cases ec : c = i
                        · subst ec; exact ⟨Classical.byContradiction c_46, by rw [kj]; exact c_61, fun q => absurd c_71 (Int32.not_le.mpr q)⟩
                        · exact hall c (by omega) hcb)
                       rw [z_cnt_t hb, z_pow_t hb, z_use_t hb, z_use_t hb, z_use_t hb] at e
                       first | rw [if_pos c_97] at e | rw [if_neg c_97] at e
                       first | rw [if_pos c_118] at e | rw [if_neg c_118] at e
                       first | rw [if_pos c_139] at e | rw [if_neg c_139] at e
                       exact e)
                    | (have e := ih (by omega) (fun c hc hcb => by
                        by_cases ec : c = i
                        · subst ec; exact absurd hcb hb
                        · exact hall c (by omega) hcb)
                       rw [z_cnt_f hb, z_pow_f hb, z_use_f hb, z_use_f hb, z_use_f hb] at e
                       exact e)
              · refine g_iconst (v := 1) E dX8_isLegal_100 (by decide) ?_
                refine g_goto (tgt := 105) E dX8_isLegal_101 (by decide) ?_
                refine g_iadd E dX8_isLegal_105 ?_
                refine g_istore_4 E dX8_isLegal_106 (by decide) rfl ?_
                refine g_iload_5 E dX8_isLegal_108 ?_
                refine g_aload_0 E dX8_isLegal_110 ?_
                refine g_getR E (by first | rfl | assumption) (by first | rfl | assumption) fl_X8_48 rfl (by first | rfl | assumption) dX8_isLegal_111 ?_
                refine g_iload_7 E dX8_isLegal_114 ?_
                refine g_iald E (by first | rfl | assumption) (by first | rfl | assumption) dX8_isLegal_116 (q_ix_n (by omega)) ?_
                refine g_iconst (v := 1) E dX8_isLegal_117 (by decide) ?_
                refine g_icmp_ne (tgt := 125) E dX8_isLegal_118 (by decide) (fun c_118 => ?_) (fun c_118 => ?_)
                · refine g_iconst (v := 0) E dX8_isLegal_125 (by decide) ?_
                  refine g_iadd E dX8_isLegal_126 ?_
                  refine g_istore_5 E dX8_isLegal_127 (by decide) rfl ?_
                  refine g_iload_6 E dX8_isLegal_129 ?_
                  refine g_aload_0 E dX8_isLegal_131 ?_
                  refine g_getR E (by first | rfl | assumption) (by first | rfl | assumption) fl_X8_48 rfl (by first | rfl | assumption) dX8_isLegal_132 ?_
                  refine g_iload_7 E dX8_isLegal_135 ?_
                  refine g_iald E (by first | rfl | assumption) (by first | rfl | assumption) dX8_isLegal_137 (q_ix_n (by omega)) ?_
                  refine g_iconst (v := 2) E dX8_isLegal_138 (by decide) ?_
                  refine g_icmp_ne (tgt := 146) E dX8_isLegal_139 (by decide) (fun c_139 => ?_) (fun c_139 => ?_)
                  · refine g_iconst (v := 0) E dX8_isLegal_146 (by decide) ?_
                    refine g_iadd E dX8_isLegal_147 ?_
                    refine g_istore_6 E dX8_isLegal_148 (by decide) rfl ?_
                    refine g_iinc_7 (u := 1) E dX8_isLegal_150 (by decide) (by decide) rfl ?_
                    refine g_goto (tgt := 16) E dX8_isLegal_153 (by decide) ?_
                    rw [nI_1]
                    first
                    | (have e := ih (by omega) (fun c hc hcb => by
                        by_cases ec : c = i
                        · subst ec; exact ⟨Classical.byContradiction c_46, by rw [kj]; exact c_61, fun q => absurd c_71 (Int32.not_le.mpr q)⟩
                        · exact hall c (by omega) hcb)
                       rw [z_cnt_t hb, z_pow_t hb, z_use_t hb, z_use_t hb, z_use_t hb] at e
                       first | rw [if_pos c_97] at e | rw [if_neg c_97] at e
                       first | rw [if_pos c_118] at e | rw [if_neg c_118] at e
                       first | rw [if_pos c_139] at e | rw [if_neg c_139] at e
                       exact e)
                    | (have e := ih (by omega) (fun c hc hcb => by
                        by_cases ec : c = i
                        · subst ec; exact absurd hcb hb
                        · exact hall c (by omega) hcb)
                       rw [z_cnt_f hb, z_pow_f hb, z_use_f hb, z_use_f hb, z_use_f hb] at e
                       exact e)
                  · refine g_iconst (v := 1) E dX8_isLegal_142 (by decide) ?_
                    refine g_goto (tgt := 147) E dX8_isLegal_143 (by decide) ?_
                    refine g_iadd E dX8_isLegal_147 ?_
                    refine g_istore_6 E dX8_isLegal_148 (by decide) rfl ?_
                    refine g_iinc_7 (u := 1) E dX8_isLegal_150 (by decide) (by decide) rfl ?_
                    refine g_goto (tgt := 16) E dX8_isLegal_153 (by decide) ?_
                    rw [nI_1]
                    first
                    | (have e := ih (by omega) (fun c hc hcb => by
                        by_cases ec : c = i
                        · subst ec; exact ⟨Classical.byContradiction c_46, by rw [kj]; exact c_61, fun q => absurd c_71 (Int32.not_le.mpr q)⟩
                        · exact hall c (by omega) hcb)
                       rw [z_cnt_t hb, z_pow_t hb, z_use_t hb, z_use_t hb, z_use_t hb] at e
                       first | rw [if_pos c_97] at e | rw [if_neg c_97] at e
                       first | rw [if_pos c_118] at e | rw [if_neg c_118] at e
                       first | rw [if_pos c_139] at e | rw [if_neg c_139] at e
                       exact e)
                    | (have e := ih (by omega) (fun c hc hcb => by
                        by_cases ec : c = i
                        · subst ec; exact absurd hcb hb
                        · exact hall c (by omega) hcb)
                       rw [z_cnt_f hb, z_pow_f hb, z_use_f hb, z_use_f hb, z_use_f hb] at e
                       exact e)
                · refine g_iconst (v := 1) E dX8_isLegal_121 (by decide) ?_
                  refine g_goto (tgt := 126) E dX8_isLegal_122 (by decide) ?_
                  refine g_iadd E dX8_isLegal_126 ?_
                  refine g_istore_5 E dX8_isLegal_127 (by decide) rfl ?_
                  refine g_iload_6 E dX8_isLegal_129 ?_
                  refine g_aload_0 E dX8_isLegal_131 ?_
                  refine g_getR E (by first | rfl | assumption) (by first | rfl | assumption) fl_X8_48 rfl (by first | rfl | assumption) dX8_isLegal_132 ?_
                  refine g_iload_7 E dX8_isLegal_135 ?_
                  refine g_iald E (by first | rfl | assumption) (by first | rfl | assumption) dX8_isLegal_137 (q_ix_n (by omega)) ?_
                  refine g_iconst (v := 2) E dX8_isLegal_138 (by decide) ?_
                  refine g_icmp_ne (tgt := 146) E dX8_isLegal_139 (by decide) (fun c_139 => ?_) (fun c_139 => ?_)
                  · refine g_iconst (v := 0) E dX8_isLegal_146 (by decide) ?_
                    refine g_iadd E dX8_isLegal_147 ?_
                    refine g_istore_6 E dX8_isLegal_148 (by decide) rfl ?_
                    refine g_iinc_7 (u := 1) E dX8_isLegal_150 (by decide) (by decide) rfl ?_
                    refine g_goto (tgt := 16) E dX8_isLegal_153 (by decide) ?_
                    rw [nI_1]
                    first
                    | (have e := ih (by omega) (fun c hc hcb => by
                        by_cases ec : c = i
                        · subst ec; exact ⟨Classical.byContradiction c_46, by rw [kj]; exact c_61, fun q => absurd c_71 (Int32.not_le.mpr q)⟩
                        · exact hall c (by omega) hcb)
                       rw [z_cnt_t hb, z_pow_t hb, z_use_t hb, z_use_t hb, z_use_t hb] at e
                       first | rw [if_pos c_97] at e | rw [if_neg c_97] at e
                       first | rw [if_pos c_118] at e | rw [if_neg c_118] at e
                       first | rw [if_pos c_139] at e | rw [if_neg c_139] at e
                       exact e)
                    | (have e := ih (by omega) (fun c hc hcb => by
                        by_cases ec : c = i
                        · subst ec; exact absurd hcb hb
                        · exact hall c (by omega) hcb)
                       rw [z_cnt_f hb, z_pow_f hb, z_use_f hb, z_use_f hb, z_use_f hb] at e
                       exact e)
                  · refine g_iconst (v := 1) E dX8_isLegal_142 (by decide) ?_
                    refine g_goto (tgt := 147) E dX8_isLegal_143 (by decide) ?_
                    refine g_iadd E dX8_isLegal_147 ?_
                    refine g_istore_6 E dX8_isLegal_148 (by decide) rfl ?_
                    refine g_iinc_7 (u := 1) E dX8_isLegal_150 (by decide) (by decide) rfl ?_
                    refine g_goto (tgt := 16) E dX8_isLegal_153 (by decide) ?_
                    rw [nI_1]
                    first
                    | (have e := ih (by omega) (fun c hc hcb => by
                        by_cases ec : c = i
                        · subst ec; exact ⟨Classical.byContradiction c_46, by rw [kj]; exact c_61, fun q => absurd c_71 (Int32.not_le.mpr q)⟩
                        · exact hall c (by omega) hcb)
                       rw [z_cnt_t hb, z_pow_t hb, z_use_t hb, z_use_t hb, z_use_t hb] at e
                       first | rw [if_pos c_97] at e | rw [if_neg c_97] at e
                       first | rw [if_pos c_118] at e | rw [if_neg c_118] at e
                       first | rw [if_pos c_139] at e | rw [if_neg c_139] at e
                       exact e)
                    | (have e := ih (by omega) (fun c hc hcb => by
                        by_cases ec : c = i
                        · subst ec; exact absurd hcb hb
                        · exact hall c (by omega) hcb)
                       rw [z_cnt_f hb, z_pow_f hb, z_use_f hb, z_use_f hb, z_use_f hb] at e
                       exact e)
            · refine g_iconst (v := 0) E dX8_isLegal_74 (by decide) ?_
              exact g_zret E Z dX8_isLegal_75 rfl ⟨_, rfl, ⟨q_bf (fun q => by have z := q.1 i (by omega) hb; first | exact c_46 z.1 | exact z.2.1 (by rw [kj]; exact c_61) | exact z.2.2 (Int32.not_le.mp c_71)), rfl⟩⟩
      · have hb : ¬ s.testBit i = true := (q_bit0 hs (by omega)).mp c_31
        refine g_goto (tgt := 150) E dX8_isLegal_34 (by decide) ?_
        refine g_iinc_7 (u := 1) E dX8_isLegal_150 (by decide) (by decide) rfl ?_
        refine g_goto (tgt := 16) E dX8_isLegal_153 (by decide) ?_
        rw [nI_1]
        first
        | (have e := ih (by omega) (fun c hc hcb => by
            by_cases ec : c = i
            · subst ec; exact ⟨Classical.byContradiction c_46, by rw [kj]; exact c_61, fun q => absurd c_71 (Int32.not_le.mpr q)⟩
            · exact hall c (by omega) hcb)
           rw [z_cnt_t hb, z_pow_t hb, z_use_t hb, z_use_t hb, z_use_t hb] at e
           first | rw [if_pos c_97] at e | rw [if_neg c_97] at e
           first | rw [if_pos c_118] at e | rw [if_neg c_118] at e
           first | rw [if_pos c_139] at e | rw [if_neg c_139] at e
           exact e)
        | (have e := ih (by omega) (fun c hc hcb => by
            by_cases ec : c = i
            · subst ec; exact absurd hcb hb
            · exact hall c (by omega) hcb)
           rw [z_cnt_f hb, z_pow_f hb, z_use_f hb, z_use_f hb, z_use_f hb] at e
           exact e)
  refine g_iconst (v := 0) E dX8_isLegal_0 (by decide) ?_
  refine g_istore_2 E dX8_isLegal_1 (by decide) rfl ?_
  refine g_iconst (v := 0) E dX8_isLegal_2 (by decide) ?_
  refine g_istore_3 E dX8_isLegal_3 (by decide) rfl ?_
  refine g_iconst (v := 0) E dX8_isLegal_4 (by decide) ?_
  refine g_istore_4 E dX8_isLegal_5 (by decide) rfl ?_
  refine g_iconst (v := 0) E dX8_isLegal_7 (by decide) ?_
  refine g_istore_5 E dX8_isLegal_8 (by decide) rfl ?_
  refine g_iconst (v := 0) E dX8_isLegal_10 (by decide) ?_
  refine g_istore_6 E dX8_isLegal_11 (by decide) rfl ?_
  refine g_iconst (v := 0) E dX8_isLegal_13 (by decide) ?_
  refine g_istore_7 E dX8_isLegal_14 (by decide) rfl ?_
  exact L 0 (Nat.zero_le _) (fun c hc => absurd hc (Nat.not_lt_zero c))
set_option maxHeartbeats 4000000 in
set_option maxRecDepth 100000 in
theorem c_X8_legal {f : Nat → Nat → Int32} {g : Nat → Nat → Int64} (ht : f 0 0 = 0) (n : Nat) (hn : f 0 5 = nI n) (h10 : n ≤ 10) (hgt : ∀ c, c < n → ∃ j : Nat, j ≤ 2 ∧ f 18 c = nI j) (x : Int32) : q_ConI yX8_legal cX8_legal 2 (some .int) 2 48 tyM alM [.ref 0, .int x] (f, g, rfM) (fun v h' => v = (if 0 ≤ x.toInt ∧ x.toInt < 2 ^ n then q_b (z_legM n f x.toNatClampNeg) else -2) ∧ h' = (f, g, rfM)) := by
  refine q_Con.of RX8 [some (.ref 0), some (.int x)] (by decide +kernel) rfl rfl (Nat.le_of_ble_eq_true rfl) (fun C ad E Z => ?_)
  have p10 : 2 ^ n ≤ 2 ^ 10 := Nat.pow_le_pow_right (by decide) h10
  refine g_aload_0 E dX8_legal_0 ?_
  refine g_iconst (v := 0) E dX8_legal_1 (by decide) ?_
  refine g_putI E (by first | rfl | assumption) (by first | rfl | assumption) fw_X8_137 rfl dX8_legal_2 ?_
  rw [q_up_same ht]
  refine g_aload_0 E dX8_legal_5 ?_
  refine g_iload_1 E dX8_legal_6 ?_
  refine g_i2l E dX8_legal_7 ?_
  refine g_cVi1 E (c_X8_isSet n (by exact hn) h10 _) cw_X8_189 (by decide) (by decide) (by first | rfl | assumption) (by first | rfl | assumption) (Nat.le_of_ble_eq_true rfl) dX8_legal_8 (fun v_8 h_8 hp => ?_)
  obtain ⟨rfl, rfl⟩ := hp
  refine g_if_eq (tgt := 30) E dX8_legal_11 (by decide) (fun c_11 => ?_) (fun c_11 => ?_)
  · have k_11 := q_b0.mp c_11
    rw [q_32] at k_11
    refine g_bipush (v := -2) E dX8_legal_30 (by decide) ?_
    exact g_iret E Z dX8_legal_32 ⟨_, rfl, ⟨by first | (rw [if_neg k_11]; done) | (rw [if_pos k_11, ks]; first | exact q_bt k_19 | exact q_bf k_19), rfl⟩⟩
  · have k_11 := q_b1.mp c_11
    rw [q_32] at k_11
    have hpc : ((2 ^ n : Nat) : Int) = (2 : Int) ^ n := by simp
    have h0 : 0 < 2 ^ n := Nat.pow_pos (by decide)
    have k2 : x.toInt < ((2 ^ n : Nat) : Int) := by rw [hpc]; exact k_11.2
    obtain ⟨s, hs, rfl⟩ := q_nat (b := 2 ^ n - 1) k_11.1 (by generalize 2 ^ n = P at k2 h0; omega)
    have ks : (nI s).toNatClampNeg = s := nI_clamp (by omega)
    refine g_aload_0 E dX8_legal_14 ?_
    refine g_iload_1 E dX8_legal_15 ?_
    refine g_cVi1 E (c_X8_isLegal n (by exact hn) h10 (by exact hgt) s (by omega)) cw_X8_193 (by decide) (by decide) (by first | rfl | assumption) (by first | rfl | assumption) (Nat.le_of_ble_eq_true rfl) dX8_legal_16 (fun v_16 h_16 hp => ?_)
    obtain ⟨rfl, rfl⟩ := hp
    refine g_if_eq (tgt := 26) E dX8_legal_19 (by decide) (fun c_19 => ?_) (fun c_19 => ?_)
    · have k_19 := q_b0.mp c_19
      refine g_iconst (v := 0) E dX8_legal_26 (by decide) ?_
      refine g_goto (tgt := 32) E dX8_legal_27 (by decide) ?_
      exact g_iret E Z dX8_legal_32 ⟨_, rfl, ⟨by first | (rw [if_neg k_11]; done) | (rw [if_pos k_11, ks]; first | exact q_bt k_19 | exact q_bf k_19), rfl⟩⟩
    · have k_19 := q_b1.mp c_19
      refine g_iconst (v := 1) E dX8_legal_22 (by decide) ?_
      refine g_goto (tgt := 32) E dX8_legal_23 (by decide) ?_
      exact g_iret E Z dX8_legal_32 ⟨_, rfl, ⟨by first | (rw [if_neg k_11]; done) | (rw [if_pos k_11, ks]; first | exact q_bt k_19 | exact q_bf k_19), rfl⟩⟩
theorem q_shl1 : ∀ n, n < 11 → (1 : Int32) <<< (nI n &&& 31) = nI (2 ^ n) := by decide +kernel
set_option maxHeartbeats 4000000 in
set_option maxRecDepth 100000 in
theorem c_X8_sets {f : Nat → Nat → Int32} {g : Nat → Nat → Int64} (ht : f 0 0 = 0) (n : Nat) (hn : f 0 5 = nI n) (h10 : n ≤ 10) (hgt : ∀ c, c < n → ∃ j : Nat, j ≤ 2 ∧ f 18 c = nI j) : q_ConI yX8_sets cX8_sets 3 (some .int) 2 48 tyM alM [.ref 0] (f, g, rfM) (fun v h' => v = q_sum (fun s => q_b (z_legM n f s)) (2 ^ n) ∧ h' = (f, g, rfM)) := by
  refine q_Con.of RX8 [some (.ref 0), none, none] (by decide +kernel) rfl rfl (Nat.le_of_ble_eq_true rfl) (fun C ad E Z => ?_)
  have p10 : 2 ^ n ≤ 2 ^ 10 := Nat.pow_le_pow_right (by decide) h10
  have hsh : (1 : Int32) <<< (f 0 5 &&& 31) = nI (2 ^ n) := by rw [hn]; exact q_shl1 n (by omega)
  have L : ∀ i, i ≤ 2 ^ n → gg C tyM 3 0 0 alM ad 9 [some (.ref 0), some (.int (q_sum (fun s => q_b (z_legM n f s)) i)), some (.int (nI i))] [] (f, g, rfM) := q_loop (2 ^ n) (fun i hi ih => by
    refine g_iload_2 E dX8_sets_9 ?_
    refine g_iconst (v := 1) E dX8_sets_10 (by decide) ?_
    refine g_aload_0 E dX8_sets_11 ?_
    refine g_getI E (by first | rfl | assumption) (by first | rfl | assumption) fl_X8_154 rfl dX8_sets_12 ?_
    refine g_ishl E dX8_sets_15 ?_
    refine g_icmp_ge (tgt := 41) E dX8_sets_16 (by decide) (fun c_16 => ?_) (fun c_16 => ?_)
    · have e_16 := (q_ge (x := 2 ^ n) (y := i) hsh rfl (by omega) (by omega)).mp c_16
      refine g_iload_1 E dX8_sets_41 ?_
      exact g_iret E Z dX8_sets_42 ⟨_, rfl, ⟨by rw [show i = 2 ^ n by omega], rfl⟩⟩
    · have e_16 := (not_congr (q_ge (x := 2 ^ n) (y := i) hsh rfl (by omega) (by omega))).mp c_16
      refine g_iload_1 E dX8_sets_19 ?_
      refine g_aload_0 E dX8_sets_20 ?_
      refine g_iload_2 E dX8_sets_21 ?_
      refine g_cVi1 E (c_X8_isLegal n (by exact hn) h10 (by exact hgt) i (by omega)) cw_X8_193 (by decide) (by decide) (by first | rfl | assumption) (by first | rfl | assumption) (Nat.le_of_ble_eq_true rfl) dX8_sets_22 (fun v_22 h_22 hp => ?_)
      obtain ⟨rfl, rfl⟩ := hp
      refine g_if_eq (tgt := 32) E dX8_sets_25 (by decide) (fun c_25 => ?_) (fun c_25 => ?_)
      · have k_25 := q_b0.mp c_25
        refine g_iconst (v := 0) E dX8_sets_32 (by decide) ?_
        refine g_iadd E dX8_sets_33 ?_
        refine g_istore_1 E dX8_sets_34 (by decide) rfl ?_
        refine g_iinc_2 (u := 1) E dX8_sets_35 (by decide) (by decide) rfl ?_
        refine g_goto (tgt := 9) E dX8_sets_38 (by decide) ?_
        rw [nI_1]
        have e := ih (by omega)
        rw [q_sum] at e
        first | (rw [← q_bt k_25] at e; exact e) | (rw [← q_bf k_25] at e; exact e)
      · have k_25 := q_b1.mp c_25
        refine g_iconst (v := 1) E dX8_sets_28 (by decide) ?_
        refine g_goto (tgt := 33) E dX8_sets_29 (by decide) ?_
        refine g_iadd E dX8_sets_33 ?_
        refine g_istore_1 E dX8_sets_34 (by decide) rfl ?_
        refine g_iinc_2 (u := 1) E dX8_sets_35 (by decide) (by decide) rfl ?_
        refine g_goto (tgt := 9) E dX8_sets_38 (by decide) ?_
        rw [nI_1]
        have e := ih (by omega)
        rw [q_sum] at e
        first | (rw [← q_bt k_25] at e; exact e) | (rw [← q_bf k_25] at e; exact e))
  refine g_aload_0 E dX8_sets_0 ?_
  refine g_iconst (v := 0) E dX8_sets_1 (by decide) ?_
  refine g_putI E (by first | rfl | assumption) (by first | rfl | assumption) fw_X8_137 rfl dX8_sets_2 ?_
  rw [q_up_same ht]
  refine g_iconst (v := 0) E dX8_sets_5 (by decide) ?_
  refine g_istore_1 E dX8_sets_6 (by decide) rfl ?_
  refine g_iconst (v := 0) E dX8_sets_7 (by decide) ?_
  refine g_istore_2 E dX8_sets_8 (by decide) rfl ?_
  exact L 0 (Nat.zero_le _)
