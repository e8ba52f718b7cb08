/-! sums over the parts of a land, by turns added and taken away -/
def w_zc (L : Nat → Nat) : Nat → Nat → Nat
  | 0, T => L T
  | c + 1, T => if T.testBit c = true then w_zc L c T + w_zc L c (T ^^^ 2 ^ c) else w_zc L c T
theorem w_xor_lt {T c : Nat} (h : T.testBit c = true) : T ^^^ 2 ^ c < T := by
  have h1 : T ^^^ 2 ^ c ≤ T := Nat.le_of_testBit (fun i hi => by
    rw [Nat.testBit_xor, Nat.testBit_two_pow] at hi
    by_cases e : c = i
    · subst e; exact h
    · rw [decide_eq_false e] at hi; simpa using hi)
  have h2 : T ^^^ 2 ^ c ≠ T := fun e => by
    have q : (T ^^^ 2 ^ c).testBit c = true := by rw [e]; exact h
    rw [Nat.testBit_xor, h, Nat.testBit_two_pow_self] at q
    cases q
  omega
theorem w_zc_le {L : Nat → Nat} (hL : ∀ s, L s ≤ 1) : ∀ (c T : Nat), w_zc L c T ≤ 2 ^ c
  | 0, T => hL T
  | c + 1, T => by
    rw [w_zc, Nat.pow_succ]
    have h1 := w_zc_le hL c T
    have h2 := w_zc_le hL c (T ^^^ 2 ^ c)
    split <;> omega
theorem w_zc_congr {L K : Nat → Nat} : ∀ (c T : Nat), (∀ s, s ≤ T → L s = K s) → w_zc L c T = w_zc K c T
  | 0, T, h => h T (Nat.le_refl _)
  | c + 1, T, h => by
    rw [w_zc, w_zc]
    split
    · rename_i hb
      have := w_xor_lt hb
      rw [w_zc_congr c T h, w_zc_congr c (T ^^^ 2 ^ c) (fun s hs => h s (by omega))]
    · rw [w_zc_congr c T h]
/-- beyond the land nothing is added -/
theorem w_zc_n {L : Nat → Nat} {n T : Nat} (hT : T < 2 ^ n) : ∀ d, w_zc L (n + d) T = w_zc L n T
  | 0 => rfl
  | d + 1 => by
    rw [← Nat.add_assoc, w_zc, if_neg, w_zc_n hT d]
    rw [Nat.testBit_lt_two_pow (Nat.lt_of_lt_of_le hT (Nat.pow_le_pow_right (by decide) (by omega)))]
    decide
/-- the sets within T below m -/
def w_q (L : Nat → Nat) (T : Nat) : Nat → Nat
  | 0 => 0
  | m + 1 => w_q L T m + (if m &&& T = m then L m else 0)
theorem w_and_lt {j T n : Nat} (hj : j < 2 ^ n) : (j &&& (2 ^ n + T) = j ↔ j &&& T = j) := by
  have e : j &&& (2 ^ n + T) = j &&& T := by
    apply Nat.eq_of_testBit_eq
    intro i
    rw [Nat.testBit_and, Nat.testBit_and]
    by_cases hi : i < n
    · rw [Nat.testBit_two_pow_add_gt hi]
    · rw [Nat.testBit_lt_two_pow (Nat.lt_of_lt_of_le hj (Nat.pow_le_pow_right (by decide) (by omega)))]; simp
  rw [e]
theorem w_and_hi {j T n : Nat} (hj : j < 2 ^ n) (hT : T < 2 ^ n) : ((2 ^ n + j) &&& (2 ^ n + T) = 2 ^ n + j ↔ j &&& T = j) := by
  have e : (2 ^ n + j) &&& (2 ^ n + T) = 2 ^ n + (j &&& T) := by
    have h3 : j &&& T < 2 ^ n := Nat.lt_of_le_of_lt Nat.and_le_left hj
    apply Nat.eq_of_testBit_eq
    intro i
    rw [Nat.testBit_and]
    rcases Nat.lt_trichotomy i n with hi | hi | hi
    · rw [Nat.testBit_two_pow_add_gt hi, Nat.testBit_two_pow_add_gt hi, Nat.testBit_two_pow_add_gt hi, Nat.testBit_and]
    · subst hi
      rw [Nat.testBit_two_pow_add_eq, Nat.testBit_two_pow_add_eq, Nat.testBit_two_pow_add_eq, Nat.testBit_lt_two_pow hj, Nat.testBit_lt_two_pow hT, Nat.testBit_lt_two_pow h3]; rfl
    · have a1 : 2 ^ (n + 1) ≤ 2 ^ i := Nat.pow_le_pow_right (by decide) hi
      rw [Nat.pow_succ] at a1
      rw [Nat.testBit_lt_two_pow (show 2 ^ n + j < 2 ^ i by omega), Nat.testBit_lt_two_pow (show 2 ^ n + (j &&& T) < 2 ^ i by omega)]; rfl
  rw [e]; omega
theorem w_and_no {j T n : Nat} (hT : T < 2 ^ n) : ¬ ((2 ^ n + j) &&& T = 2 ^ n + j) := by
  intro h
  have : 2 ^ n + j ≤ T := by rw [← h]; exact Nat.and_le_right
  omega
theorem w_q_lo {L : Nat → Nat} {n T : Nat} : ∀ m, m ≤ 2 ^ n → w_q L (2 ^ n + T) m = w_q L T m
  | 0, _ => rfl
  | m + 1, h => by
    rw [w_q, w_q, w_q_lo m (by omega)]
    have e := w_and_lt (T := T) (show m < 2 ^ n by omega)
    by_cases q : m &&& T = m
    · rw [if_pos q, if_pos (e.mpr q)]
    · rw [if_neg q, if_neg (fun z => q (e.mp z))]
theorem w_q_hi {L : Nat → Nat} {n T : Nat} (hT : T < 2 ^ n) : ∀ m, m ≤ 2 ^ n → w_q L (2 ^ n + T) (2 ^ n + m) = w_q L T (2 ^ n) + w_q (fun s => L (2 ^ n + s)) T m
  | 0, _ => by rw [Nat.add_zero, w_q_lo _ (Nat.le_refl _)]; rfl
  | m + 1, h => by
    rw [← Nat.add_assoc, w_q, w_q_hi hT m (by omega), w_q]
    have e := w_and_hi (show m < 2 ^ n by omega) hT
    by_cases q : m &&& T = m
    · rw [if_pos q, if_pos (e.mpr q)]; omega
    · rw [if_neg q, if_neg (fun z => q (e.mp z))]; omega
theorem w_q_no {L : Nat → Nat} {n T : Nat} (hT : T < 2 ^ n) : ∀ m, w_q L T (2 ^ n + m) = w_q L T (2 ^ n)
  | 0 => rfl
  | m + 1 => by rw [← Nat.add_assoc, w_q, w_q_no hT m, if_neg (w_and_no hT), Nat.add_zero]
theorem w_xor_hi {n T : Nat} (hT : T < 2 ^ n) {k : Nat} (hk : k < n) : (2 ^ n + T) ^^^ 2 ^ k = 2 ^ n + (T ^^^ 2 ^ k) := by
  have h3 : T ^^^ 2 ^ k < 2 ^ n := Nat.xor_lt_two_pow hT (Nat.pow_lt_pow_right (by decide) hk)
  apply Nat.eq_of_testBit_eq
  intro i
  rw [Nat.testBit_xor]
  rcases Nat.lt_trichotomy i n with hi | hi | hi
  · rw [Nat.testBit_two_pow_add_gt hi, Nat.testBit_two_pow_add_gt hi, Nat.testBit_xor]
  · subst hi
    rw [Nat.testBit_two_pow_add_eq, Nat.testBit_two_pow_add_eq, Nat.testBit_lt_two_pow hT, Nat.testBit_lt_two_pow h3, Nat.testBit_two_pow, decide_eq_false (by omega)]; rfl
  · have a1 : 2 ^ (n + 1) ≤ 2 ^ i := Nat.pow_le_pow_right (by decide) hi
    rw [Nat.pow_succ] at a1
    rw [Nat.testBit_lt_two_pow (show 2 ^ n + T < 2 ^ i by omega), Nat.testBit_lt_two_pow (show 2 ^ n + (T ^^^ 2 ^ k) < 2 ^ i by omega), Nat.testBit_two_pow, decide_eq_false (by omega)]; rfl
theorem w_zc_hi {L : Nat → Nat} {n : Nat} : ∀ (c : Nat), c ≤ n → ∀ T, T < 2 ^ n → w_zc L c (2 ^ n + T) = w_zc (fun s => L (2 ^ n + s)) c T
  | 0, _, T, _ => rfl
  | c + 1, h, T, hT => by
    rw [w_zc, w_zc, Nat.testBit_two_pow_add_gt (show c < n by omega), w_xor_hi hT (show c < n by omega), w_zc_hi c (by omega) T hT, w_zc_hi c (by omega) (T ^^^ 2 ^ c) (Nat.xor_lt_two_pow hT (Nat.pow_lt_pow_right (by decide) (by omega)))]
theorem w_top {n T : Nat} (hT : T < 2 ^ n) : (2 ^ n + T).testBit n = true ∧ (2 ^ n + T) ^^^ 2 ^ n = T := by
  refine ⟨by rw [Nat.testBit_two_pow_add_eq, Nat.testBit_lt_two_pow hT]; rfl, ?_⟩
  apply Nat.eq_of_testBit_eq
  intro i
  rw [Nat.testBit_xor, Nat.testBit_two_pow]
  rcases Nat.lt_trichotomy i n with hi | hi | hi
  · rw [Nat.testBit_two_pow_add_gt hi, decide_eq_false (by omega)]; simp
  · subst hi
    rw [Nat.testBit_two_pow_add_eq, Nat.testBit_lt_two_pow hT]; simp
  · have a1 : 2 ^ (n + 1) ≤ 2 ^ i := Nat.pow_le_pow_right (by decide) hi
    rw [Nat.pow_succ] at a1
    rw [Nat.testBit_lt_two_pow (show 2 ^ n + T < 2 ^ i by omega), Nat.testBit_lt_two_pow (show T < 2 ^ i by omega), decide_eq_false (by omega)]; rfl
theorem w_zc_q : ∀ (n : Nat) (L : Nat → Nat) (T : Nat), T < 2 ^ n → w_zc L n T = w_q L T (2 ^ n)
  | 0, L, T, h => by
    have : T = 0 := by simpa using h
    subst this
    show L 0 = 0 + (if 0 &&& 0 = 0 then L 0 else 0)
    simp
  | n + 1, L, T, h => by
    rw [Nat.pow_succ] at h
    rw [show 2 ^ (n + 1) = 2 ^ n + 2 ^ n by rw [Nat.pow_succ]; omega]
    by_cases hb : T < 2 ^ n
    · rw [w_zc, if_neg (by rw [Nat.testBit_lt_two_pow hb]; decide), w_zc_q n L T hb, w_q_no hb]
    · obtain ⟨T', rfl⟩ : ∃ T', T = 2 ^ n + T' := ⟨T - 2 ^ n, by omega⟩
      have hT' : T' < 2 ^ n := by omega
      have ht := w_top hT'
      rw [w_zc, if_pos ht.1, ht.2, w_zc_hi n (Nat.le_refl _) T' hT', w_zc_q n _ T' hT', w_zc_q n _ T' hT', w_q_hi hT' _ (Nat.le_refl _)]
      omega
theorem w_q_ct {p : Nat → Bool} {T : Nat} : ∀ m, w_q (fun s => if p s = true then 1 else 0) T m ≤ z_ct p m
  | 0 => Nat.le_refl _
  | m + 1 => by
    rw [w_q, z_ct]
    have := w_q_ct (p := p) (T := T) m
    split
    · exact Nat.add_le_add_right this _
    · omega
/-- the next set within T, downwards -/
theorem w_pred : ∀ (b T s j : Nat), s < 2 ^ b → s &&& T = s → j &&& T = j → 0 < s → j ≤ s - 1 → j ≤ (s - 1) &&& T
  | 0, T, s, j, hs, h1, h2, h3, h4 => by simp at hs; omega
  | b + 1, T, s, j, hs, h1, h2, h3, h4 => by
    rw [Nat.pow_succ] at hs
    have d1 : s / 2 &&& T / 2 = s / 2 := by rw [← Nat.and_div_two, h1]
    have d2 : j / 2 &&& T / 2 = j / 2 := by rw [← Nat.and_div_two, h2]
    have m1 : (s &&& T) % 2 = s % 2 := by rw [h1]
    have m2 : (j &&& T) % 2 = j % 2 := by rw [h2]
    have e3 : ((s - 1) &&& T) / 2 = (s - 1) / 2 &&& T / 2 := Nat.and_div_two
    have e4 : ((s - 1) &&& T) % 2 = (s - 1) % 2 &&& T % 2 := by
      have := @Nat.and_mod_two_pow (s - 1) T 1
      simpa using this
    have e5 : (j &&& T) % 2 = j % 2 &&& T % 2 := by
      have := @Nat.and_mod_two_pow j T 1
      simpa using this
    rcases Nat.mod_two_eq_zero_or_one s with q | q
    · have hp := w_pred b (T / 2) (s / 2) (j / 2) (by omega) d1 d2 (by omega) (by omega)
      have e6 : (s - 1) / 2 = s / 2 - 1 := by omega
      have e7 : (s - 1) % 2 = 1 := by omega
      rw [e6] at e3
      rw [e7] at e4
      have : j % 2 ≤ 1 &&& T % 2 := by
        rcases Nat.mod_two_eq_zero_or_one T with z | z <;> rcases Nat.mod_two_eq_zero_or_one j with y | y <;> rw [z, y] at e5 <;> rw [z, y] <;> simp at e5 ⊢ <;> omega
      omega
    · have e6 : (s - 1) / 2 = s / 2 := by omega
      rw [e6, d1] at e3
      omega
theorem w_q_skip {L : Nat → Nat} {T a : Nat} : ∀ b, (∀ j, a ≤ j → j < b → ¬ j &&& T = j) → a ≤ b → w_q L T b = w_q L T a
  | 0, _, h => by rw [show a = 0 by omega]
  | b + 1, h, hab => by
    by_cases e : a = b + 1
    · rw [e]
    · rw [w_q, if_neg (h b (by omega) (by omega)), Nat.add_zero]
      exact w_q_skip b (fun j h1 h2 => h j h1 (by omega)) (by omega)
theorem w_q_step {L : Nat → Nat} {T s b : Nat} (hb : s < 2 ^ b) (hs : s &&& T = s) (h0 : 0 < s) : w_q L T (s + 1) = L s + w_q L T (((s - 1) &&& T) + 1) := by
  rw [w_q, if_pos hs, Nat.add_comm]
  congr 1
  refine w_q_skip s (fun j h1 h2 hj => ?_) ?_
  · have := w_pred b T s j hb hs hj h0 (by omega)
    omega
  · have : (s - 1) &&& T ≤ s - 1 := Nat.and_le_left
    omega
theorem w_q_all {L : Nat → Nat} {T n : Nat} (hT : T < 2 ^ n) : w_q L T (2 ^ n) = w_q L T (T + 1) :=
  w_q_skip (2 ^ n) (fun j h1 h2 hj => by have : j &&& T ≤ T := Nat.and_le_right; omega) (by omega)
/-! signed sums -/
def w_sg : Nat → Nat → Int
  | 0, _ => 1
  | n + 1, T => if T.testBit n = true then w_sg n T else - w_sg n T
theorem w_sg_hi {n T : Nat} : ∀ c, c ≤ n → w_sg c (2 ^ n + T) = w_sg c T
  | 0, _ => rfl
  | c + 1, h => by rw [w_sg, w_sg, Nat.testBit_two_pow_add_gt (show c < n by omega), w_sg_hi c (by omega)]
def w_V (n : Nat) (h : Nat → Int) : Nat → Int
  | 0 => 0
  | m + 1 => w_V n h m + w_sg n m * h m
theorem w_V_lo {n : Nat} {h : Nat → Int} : ∀ m, m ≤ 2 ^ n → w_V (n + 1) h m = - w_V n h m
  | 0, _ => rfl
  | m + 1, q => by
    rw [w_V, w_V, w_V_lo m (by omega), w_sg, if_neg (by rw [Nat.testBit_lt_two_pow (show m < 2 ^ n by omega)]; decide), Int.neg_add, Int.neg_mul]
theorem w_V_hi {n : Nat} {h : Nat → Int} : ∀ m, m ≤ 2 ^ n → w_V (n + 1) h (2 ^ n + m) = w_V n (fun T => h (2 ^ n + T)) m - w_V n h (2 ^ n)
  | 0, _ => by
    have := w_V_lo (n := n) (h := h) (2 ^ n) (Nat.le_refl _)
    show w_V (n + 1) h (2 ^ n) = 0 - _
    omega
  | m + 1, q => by
    rw [← Nat.add_assoc, w_V, w_V_hi m (by omega), w_V, w_sg, if_pos (w_top (show m < 2 ^ n by omega)).1, w_sg_hi n (Nat.le_refl _)]
    omega
theorem w_V_sub {n : Nat} {h k : Nat → Int} : ∀ m, w_V n (fun T => h T - k T) m = w_V n h m - w_V n k m
  | 0 => rfl
  | m + 1 => by rw [w_V, w_V, w_V, w_V_sub m, Int.mul_sub]; omega
theorem w_V_s {n : Nat} {h : Nat → Int} : w_V (n + 1) h (2 ^ (n + 1)) = w_V n (fun T => h (2 ^ n + T) - h T) (2 ^ n) := by
  rw [show 2 ^ (n + 1) = 2 ^ n + 2 ^ n by rw [Nat.pow_succ]; omega, w_V_hi _ (Nat.le_refl _), w_V_sub]
/-- all differences are nonnegative -/
def w_TM : Nat → (Nat → Int) → Prop
  | 0, h => 0 ≤ h 0
  | n + 1, h => w_TM n h ∧ w_TM n (fun T => h (2 ^ n + T) - h T)
theorem w_TM_V : ∀ (n : Nat) (h : Nat → Int), w_TM n h → 0 ≤ w_V n h (2 ^ n)
  | 0, h, q => by
    show 0 ≤ (0 : Int) + 1 * h 0
    have : 0 ≤ h 0 := q
    omega
  | n + 1, h, q => by rw [w_V_s]; exact w_TM_V n _ q.2
theorem w_TM_congr : ∀ (n : Nat) (h k : Nat → Int), (∀ T, T < 2 ^ n → h T = k T) → w_TM n h → w_TM n k
  | 0, h, k, e, q => by
    have := e 0 (by decide)
    show 0 ≤ k 0
    rw [← this]; exact q
  | n + 1, h, k, e, q => by
    have p2 : 2 ^ (n + 1) = 2 ^ n + 2 ^ n := by rw [Nat.pow_succ]; omega
    exact ⟨w_TM_congr n h k (fun T hT => e T (by omega)) q.1, w_TM_congr n _ _ (fun T hT => by rw [e T (by omega), e (2 ^ n + T) (by omega)]) q.2⟩
theorem w_TM_add : ∀ (n : Nat) (h k : Nat → Int), w_TM n h → w_TM n k → w_TM n (fun T => h T + k T)
  | 0, h, k, a, b => Int.add_nonneg a b
  | n + 1, h, k, a, b => ⟨w_TM_add n h k a.1 b.1, w_TM_congr n _ _ (fun T _ => by show h (2 ^ n + T) - h T + (k (2 ^ n + T) - k T) = h (2 ^ n + T) + k (2 ^ n + T) - (h T + k T); omega) (w_TM_add n _ _ a.2 b.2)⟩
theorem w_TM_mul : ∀ (n : Nat) (h k : Nat → Int), w_TM n h → w_TM n k → w_TM n (fun T => h T * k T)
  | 0, h, k, a, b => Int.mul_nonneg a b
  | n + 1, h, k, a, b => by
    refine ⟨w_TM_mul n h k a.1 b.1, ?_⟩
    have h1 := w_TM_mul n _ _ a.2 b.1
    have h2 := w_TM_mul n _ _ a.1 b.2
    have h3 := w_TM_mul n _ _ a.2 b.2
    refine w_TM_congr n _ _ (fun T _ => ?_) (w_TM_add n _ _ (w_TM_add n _ _ h1 h2) h3)
    show (h (2 ^ n + T) - h T) * k T + h T * (k (2 ^ n + T) - k T) + (h (2 ^ n + T) - h T) * (k (2 ^ n + T) - k T) = h (2 ^ n + T) * k (2 ^ n + T) - h T * k T
    simp only [Int.mul_sub, Int.sub_mul]
    omega
theorem w_TM_one : ∀ (n : Nat) (c : Int), 0 ≤ c → w_TM n (fun _ => c)
  | 0, c, h => h
  | n + 1, c, h => ⟨w_TM_one n c h, w_TM_congr n _ _ (fun T _ => by show (0 : Int) = c - c; omega) (w_TM_one n 0 (by omega))⟩
theorem w_TM_pow (n : Nat) (h : Nat → Int) (a : w_TM n h) : ∀ e, w_TM n (fun T => h T ^ e)
  | 0 => w_TM_congr n _ _ (fun T _ => (Int.pow_zero (h T)).symm) (w_TM_one n 1 (by decide))
  | e + 1 => w_TM_congr n _ _ (fun T _ => (Int.pow_succ (h T) e).symm) (w_TM_mul n _ _ (w_TM_pow n h a e) a)
theorem w_TM_zc : ∀ (n : Nat) (L : Nat → Nat), w_TM n (fun T => (w_zc L n T : Int))
  | 0, L => Int.natCast_nonneg _
  | n + 1, L => by
    refine ⟨w_TM_congr n _ _ (fun T hT => ?_) (w_TM_zc n L), w_TM_congr n _ _ (fun T hT => ?_) (w_TM_zc n (fun s => L (2 ^ n + s)))⟩
    · show (w_zc L n T : Int) = (w_zc L (n + 1) T : Int)
      rw [show w_zc L (n + 1) T = w_zc L n T from w_zc_n hT 1]
    · show (w_zc (fun s => L (2 ^ n + s)) n T : Int) = (w_zc L (n + 1) (2 ^ n + T) : Int) - (w_zc L (n + 1) T : Int)
      rw [show w_zc L (n + 1) T = w_zc L n T from w_zc_n hT 1, w_zc, if_pos (w_top hT).1, (w_top hT).2, w_zc_hi n (Nat.le_refl _) T hT]
      omega
theorem w_V_pos (n : Nat) (L : Nat → Nat) (e : Nat) : 0 ≤ w_V n (fun T => ((w_zc L n T ^ e : Nat) : Int)) (2 ^ n) :=
  w_TM_V n _ (w_TM_congr n _ _ (fun T _ => by show (w_zc L n T : Int) ^ e = ((w_zc L n T ^ e : Nat) : Int); rw [Int.natCast_pow]) (w_TM_pow n _ (w_TM_zc n L) e))
theorem w_V_le {n : Nat} {h : Nat → Int} {b : Int} : ∀ m, (∀ T, T < m → 0 ≤ h T ∧ h T ≤ b) → w_V n h m ≤ m * b ∧ -(m * b) ≤ w_V n h m
  | 0, _ => by rw [w_V]; simp
  | m + 1, q => by
    have h1 := w_V_le (n := n) m (fun T hT => q T (by omega))
    have h2 := q m (by omega)
    have h3 : w_sg n m = 1 ∨ w_sg n m = -1 := by
      clear h1 h2
      induction n with
      | zero => exact Or.inl rfl
      | succ n ih =>
        rw [w_sg]
        split
        · exact ih
        · rcases ih with z | z <;> rw [z] <;> simp
    rw [w_V, show ((m + 1 : Nat) : Int) * b = m * b + b by rw [Int.natCast_add, Int.add_mul]; simp]
    rcases h3 with z | z <;> rw [z] <;> omega
/-! numbers by limbs of nine digits -/
abbrev wB : Nat := 1000000000
abbrev lZ (x : Int) : Int64 := Int64.ofInt x
abbrev iZ (x : Int) : Int32 := Int32.ofInt x
def w_lb (v i : Nat) : Nat := v / wB ^ i % wB
theorem w_Bp (i : Nat) : 0 < wB ^ i := Nat.pow_pos (by decide)
theorem w_lb_lt (v i : Nat) : w_lb v i < 1000000000 := Nat.mod_lt _ (by decide)
theorem w_modS (v i : Nat) : v % wB ^ (i + 1) = v % wB ^ i + wB ^ i * w_lb v i := by rw [Nat.pow_succ, Nat.mod_mul]; rfl
theorem w_mul1 (v b i : Nat) : w_lb v i * b + v % wB ^ i * b / wB ^ i = v % wB ^ (i + 1) * b / wB ^ i := by
  rw [w_modS, Nat.add_mul, Nat.mul_assoc, Nat.add_mul_div_left _ _ (w_Bp i), Nat.add_comm]
theorem w_dd (x i : Nat) : x / wB ^ i / wB = x / wB ^ (i + 1) := by rw [Nat.div_div_eq_div_mul, ← Nat.pow_succ]
theorem w_mul2 (v b i : Nat) : v % wB ^ (i + 1) * b / wB ^ i % wB = w_lb (v * b) i := by
  unfold w_lb
  have e : v * b = v % wB ^ (i + 1) * b + wB ^ i * (wB * (v / wB ^ (i + 1) * b)) := by
    have := Nat.mod_add_div v (wB ^ (i + 1))
    calc v * b = (v % wB ^ (i + 1) + wB ^ (i + 1) * (v / wB ^ (i + 1))) * b := by rw [this]
      _ = _ := by rw [Nat.add_mul, Nat.pow_succ, Nat.mul_assoc, Nat.mul_assoc, ← Nat.mul_assoc wB]
  rw [e, Nat.add_mul_div_left _ _ (w_Bp i), Nat.add_mul_mod_self_left]
theorem w_mul3 (v b i : Nat) : v % wB ^ i * b / wB ^ i ≤ b := by
  apply Nat.div_le_of_le_mul
  exact Nat.mul_le_mul_right b (Nat.le_of_lt (Nat.mod_lt _ (w_Bp i)))
theorem w_add1 (a c i : Nat) : w_lb a i + w_lb c i + (a % wB ^ i + c % wB ^ i) / wB ^ i = (a % wB ^ (i + 1) + c % wB ^ (i + 1)) / wB ^ i := by
  rw [w_modS, w_modS, show a % wB ^ i + wB ^ i * w_lb a i + (c % wB ^ i + wB ^ i * w_lb c i) = a % wB ^ i + c % wB ^ i + wB ^ i * (w_lb a i + w_lb c i) by rw [Nat.mul_add]; omega, Nat.add_mul_div_left _ _ (w_Bp i), Nat.add_comm]
theorem w_add2 (a c i : Nat) : (a % wB ^ (i + 1) + c % wB ^ (i + 1)) / wB ^ i % wB = w_lb (a + c) i := by
  unfold w_lb
  have e : a + c = a % wB ^ (i + 1) + c % wB ^ (i + 1) + wB ^ i * (wB * (a / wB ^ (i + 1) + c / wB ^ (i + 1))) := by
    have h1 := Nat.mod_add_div a (wB ^ (i + 1))
    have h2 := Nat.mod_add_div c (wB ^ (i + 1))
    have h3 : wB ^ i * (wB * (a / wB ^ (i + 1) + c / wB ^ (i + 1))) = wB ^ (i + 1) * (a / wB ^ (i + 1)) + wB ^ (i + 1) * (c / wB ^ (i + 1)) := by rw [Nat.pow_succ, ← Nat.mul_add, Nat.mul_assoc]
    rw [h3]
    omega
  conv => rhs; rw [e]
  rw [Nat.add_mul_div_left _ _ (w_Bp i), Nat.add_mul_mod_self_left]
theorem w_add3 (a c i : Nat) : (a % wB ^ i + c % wB ^ i) / wB ^ i ≤ 1 := by
  apply Nat.le_of_lt_succ
  apply Nat.div_lt_of_lt_mul
  have h1 := Nat.mod_lt a (w_Bp i)
  have h2 := Nat.mod_lt c (w_Bp i)
  omega
/-- differences: borrow -/
theorem w_sub1 {a c : Nat} (i : Nat) (h : c ≤ a) : (w_lb a i + wB * (if a % wB ^ (i + 1) < c % wB ^ (i + 1) then 1 else 0) = w_lb (a - c) i + w_lb c i + (if a % wB ^ i < c % wB ^ i then 1 else 0)) := by
  obtain ⟨d, rfl⟩ : ∃ d, a = c + d := ⟨a - c, by omega⟩
  rw [Nat.add_sub_cancel_left]
  have h1 := w_add1 c d i
  have h2 := w_add2 c d i
  have h3 := w_add3 c d i
  have h4 := w_add3 c d (i + 1)
  have k : ∀ j, (if (c + d) % wB ^ j < c % wB ^ j then 1 else 0) = (c % wB ^ j + d % wB ^ j) / wB ^ j := by
    intro j
    have a1 := Nat.mod_lt c (w_Bp j)
    have a2 := Nat.mod_lt d (w_Bp j)
    have a3 : (c + d) % wB ^ j = (c % wB ^ j + d % wB ^ j) % wB ^ j := Nat.add_mod c d _
    generalize hp : wB ^ j = P at *
    by_cases q : c % P + d % P < P
    · rw [a3, Nat.mod_eq_of_lt q, Nat.div_eq_of_lt q, if_neg (by omega)]
    · have e1 : (c % P + d % P) % P = c % P + d % P - P := by
        rw [Nat.mod_eq_sub_mod (by omega), Nat.mod_eq_of_lt (by omega)]
      have e2 : (c % P + d % P) / P = 1 := by
        rw [Nat.div_eq_sub_div (by omega) (by omega), Nat.div_eq_of_lt (by omega)]
      rw [a3, e1, e2, if_pos (by omega)]
  rw [k, k]
  rw [← w_dd]
  rw [← h1] at h2 ⊢
  generalize hx : w_lb c i + w_lb d i + (c % wB ^ i + d % wB ^ i) / wB ^ i = X at *
  have h5 := Nat.mod_add_div X wB
  rw [h2] at h5
  have h6 : w_lb (c + d) i + wB * (X / wB) = X := h5
  omega
theorem w_lb0 {v i : Nat} (h : v < wB ^ i) : w_lb v i = 0 := by
  unfold w_lb
  rw [Nat.div_eq_of_lt h]
  rfl
/-! digits -/
theorem w_dig {v i k : Nat} (hk : k < 9) : w_lb v i / 10 ^ k % 10 = v / 10 ^ (9 * i + k) % 10 := by
  unfold w_lb
  obtain ⟨d, hd⟩ : ∃ d, 9 = k + (d + 1) := ⟨8 - k, by omega⟩
  have e : wB = 10 ^ k * (10 * 10 ^ d) := by
    rw [← Nat.pow_succ', ← Nat.pow_add, ← hd]
  have e9 : wB ^ i = 10 ^ (9 * i) := by rw [show wB = 10 ^ 9 from rfl, Nat.pow_mul]
  rw [e9]
  rw [e, Nat.mod_mul_right_div_self, Nat.mod_mul_right_mod, Nat.div_div_eq_div_mul, ← Nat.pow_add]
theorem w_dgs (v k : Nat) : v / 10 ^ k / 10 = v / 10 ^ (k + 1) := by rw [Nat.div_div_eq_div_mul, ← Nat.pow_succ]
/-- how many digits -/
def w_dm (v : Nat) : Nat → Nat
  | 0 => 1
  | j + 1 => if 0 < v / 10 ^ j % 10 then j + 1 else w_dm v j
theorem w_dm_more {v a : Nat} : ∀ d, (∀ j, a ≤ j → v / 10 ^ j % 10 = 0) → w_dm v (a + d) = w_dm v a
  | 0, _ => rfl
  | d + 1, h => by rw [← Nat.add_assoc, w_dm, if_neg (by rw [h (a + d) (by omega)]; omega), w_dm_more d h]
theorem w_dm_le {v : Nat} : ∀ j, w_dm v j ≤ j + 1 ∧ (0 < j → w_dm v j ≤ j) ∧ 0 < w_dm v j
  | 0 => ⟨Nat.le_refl _, fun h => absurd h (by decide), Nat.zero_lt_one⟩
  | j + 1 => by
    rw [w_dm]
    have := w_dm_le (v := v) j
    split
    · omega
    · refine ⟨by omega, fun _ => by omega, this.2.2⟩
/-! signed limbs -/
def w_Z (Z : Nat → Int) : Nat → Int
  | 0 => 0
  | i + 1 => w_Z Z i + Z i * (wB ^ i : Nat)
theorem w_Bi (i : Nat) : ((wB ^ i : Nat) : Int) ≠ 0 := by have := w_Bp i; omega
theorem w_Z1 (Z : Nat → Int) (i : Nat) : Z i + w_Z Z i / (wB ^ i : Nat) = w_Z Z (i + 1) / (wB ^ i : Nat) := by
  rw [w_Z, Int.add_mul_ediv_right _ _ (w_Bi i), Int.add_comm]
theorem w_Z2 (x : Int) (i : Nat) : x / (wB ^ i : Nat) / (wB : Nat) = x / (wB ^ (i + 1) : Nat) := by
  rw [Int.ediv_ediv_of_nonneg (by omega), Nat.pow_succ, Int.natCast_mul]
theorem w_Z3 (Z : Nat → Int) (i : Nat) : ∀ d, ∃ K : Int, w_Z Z (i + d) = w_Z Z i + (wB ^ i : Nat) * K
  | 0 => ⟨0, by simp⟩
  | d + 1 => by
    obtain ⟨K, hK⟩ := w_Z3 Z i d
    refine ⟨K + Z (i + d) * (wB ^ d : Nat), ?_⟩
    rw [← Nat.add_assoc, w_Z, hK, Nat.pow_add, Int.natCast_mul, Int.mul_add]
    rw [show Z (i + d) * (((wB ^ i : Nat) : Int) * ((wB ^ d : Nat) : Int)) = ((wB ^ i : Nat) : Int) * (Z (i + d) * ((wB ^ d : Nat) : Int)) from Int.mul_left_comm _ _ _]
    omega
theorem w_Z4 {Z : Nat → Int} {i m : Nat} (h : i < m) (hp : 0 ≤ w_Z Z m) : w_Z Z (i + 1) / (wB ^ i : Nat) % (wB : Nat) = (w_lb (w_Z Z m).toNat i : Nat) := by
  obtain ⟨d, rfl⟩ : ∃ d, m = i + 1 + d := ⟨m - (i + 1), by omega⟩
  obtain ⟨K, hK⟩ := w_Z3 Z (i + 1) d
  have e : (w_lb (w_Z Z (i + 1 + d)).toNat i : Int) = w_Z Z (i + 1 + d) / (wB ^ i : Nat) % (wB : Nat) := by
    unfold w_lb
    rw [Int.natCast_emod, Int.natCast_ediv, Int.toNat_of_nonneg hp]
  rw [e, hK, Nat.pow_succ, Int.natCast_mul, Int.mul_assoc, Int.add_mul_ediv_left _ _ (w_Bi i), Int.add_mul_emod_self_left]
theorem w_Zb {Z : Nat → Int} {b : Int} (hb : 0 ≤ b) (h : ∀ i, -b ≤ Z i ∧ Z i ≤ b) (i : Nat) : - (b + b) ≤ w_Z Z i / (wB ^ i : Nat) ∧ w_Z Z i / (wB ^ i : Nat) ≤ b + b := by
  induction i with
  | zero => rw [w_Z]; simp; omega
  | succ i ih =>
    rw [← w_Z2, ← w_Z1]
    have := h i
    have e9 : ((wB : Nat) : Int) = 1000000000 := rfl
    rw [e9]
    generalize w_Z Z i / ((wB ^ i : Nat) : Int) = y at *
    omega
/-! signed longs -/
theorem lZ_I {X : Int} (h1 : -9223372036854775808 ≤ X) (h2 : X < 9223372036854775808) : (lZ X).toInt = X := Int64.toInt_ofInt_of_le h1 h2
theorem iZ_I {X : Int} (h1 : -2147483648 ≤ X) (h2 : X < 2147483648) : (iZ X).toInt = X := Int32.toInt_ofInt_of_le h1 h2
theorem lZ_N (n : Nat) : lN n = lZ (n : Int) := rfl
theorem iZ_N (n : Nat) : nI n = iZ (n : Int) := rfl
theorem lZ_add (a b : Int) : lZ a + lZ b = lZ (a + b) := (Int64.ofInt_add ..).symm
theorem lZ_sub (a b : Int) : lZ a - lZ b = lZ (a - b) := (Int64.ofInt_sub ..).symm
theorem lZ_mul (a b : Int) : lZ a * lZ b = lZ (a * b) := (Int64.ofInt_mul ..).symm
theorem iZ_add (a b : Int) : iZ a + iZ b = iZ (a + b) := (Int32.ofInt_add ..).symm
theorem iZ_sub (a b : Int) : iZ a - iZ b = iZ (a - b) := (Int32.ofInt_sub ..).symm
theorem iZ_mul (a b : Int) : iZ a * iZ b = iZ (a * b) := (Int32.ofInt_mul ..).symm
theorem iZ_l {X : Int} (h1 : -2147483648 ≤ X) (h2 : X < 2147483648) : (iZ X).toInt64 = lZ X := by
  apply Int64.toInt_inj.mp
  rw [Int32.toInt_toInt64, iZ_I h1 h2, lZ_I (by omega) (by omega)]
theorem lZ_tdiv {X D : Int} (h1 : -9223372036854775808 < X) (h2 : X < 9223372036854775808) (d1 : 0 < D) (d2 : D < 9223372036854775808) : lZ X / lZ D = lZ (X.tdiv D) := by
  have hb : (X.tdiv D).natAbs ≤ X.natAbs := by rw [Int.natAbs_tdiv]; exact Nat.div_le_self _ _
  apply Int64.toInt_inj.mp
  rw [Int64.toInt_div, lZ_I (by omega) h2, lZ_I (by omega) d2, lZ_I (by omega) (by omega)]
  exact Int.bmod_eq_of_le (by omega) (by omega)
theorem lZ_div {X D : Int} (h1 : 0 ≤ X) (h2 : X < 9223372036854775808) (d1 : 0 < D) (d2 : D < 9223372036854775808) : lZ X / lZ D = lZ (X / D) := by
  rw [lZ_tdiv (by omega) h2 d1 d2, Int.tdiv_eq_ediv_of_nonneg h1]
theorem lZ_rem {X D : Int} (h1 : 0 ≤ X) (h2 : X < 9223372036854775808) (d1 : 0 < D) (d2 : D < 9223372036854775808) : lZ X - lZ X / lZ D * lZ D = lZ (X % D) := by
  rw [lZ_div h1 h2 d1 d2, lZ_mul, lZ_sub]
  congr 1
  have := Int.emod_def X D
  rw [Int.mul_comm] at this
  exact this.symm
theorem wN_div {x d : Nat} (h : x < 9223372036854775808) (d1 : 0 < d) (d2 : d < 9223372036854775808) : lN x / lN d = lN (x / d) := by
  rw [lZ_N, lZ_N, lZ_div (by omega) (by omega) (by omega) (by omega)]; rfl
theorem wN_rem {x d : Nat} (h : x < 9223372036854775808) (d1 : 0 < d) (d2 : d < 9223372036854775808) : lN x - lN x / lN d * lN d = lN (x % d) := by
  rw [lZ_N, lZ_N, lZ_rem (by omega) (by omega) (by omega) (by omega)]; rfl
theorem w_xs (x : Int64) {D : Int64} (hD : D.toBitVec.msb = false) : (x ^^^ D < 0) ↔ x < 0 := by
  have k : ∀ y : Int64, y < 0 ↔ y.toBitVec.msb = true := by
    intro y
    rw [Int64.lt_iff_toInt_lt, BitVec.msb_eq_toInt, decide_eq_true_iff]
    exact Iff.rfl
  rw [k, k, Int64.toBitVec_xor, BitVec.msb_xor, hD, Bool.xor_false]
/-! how often each base comes, and the sum over the bases -/
def w_tm (n : Nat) (N : Nat → Nat) : Nat → Nat → Int
  | 0, _ => 0
  | m + 1, b => w_tm n N m b + (if N m = b then w_sg n m else 0)
theorem w_sg1 (n T : Nat) : w_sg n T = 1 ∨ w_sg n T = -1 := by
  induction n with
  | zero => exact Or.inl rfl
  | succ n ih =>
    rw [w_sg]
    split
    · exact ih
    · rcases ih with z | z <;> rw [z] <;> simp
theorem w_tm_b (n : Nat) (N : Nat → Nat) (b : Nat) : ∀ m : Nat, -(m : Int) ≤ w_tm n N m b ∧ w_tm n N m b ≤ m
  | 0 => ⟨Int.le_refl _, Int.le_refl _⟩
  | m + 1 => by
    have h := w_tm_b n N b m
    have k := w_sg1 n m
    rw [w_tm]
    split <;> omega
def w_H (t : Nat → Int) (p : Nat → Nat) : Nat → Int
  | 0 => 0
  | b + 1 => w_H t p b + t b * (p b : Nat)
theorem w_H_add (t : Nat → Int) (p : Nat → Nat) (x : Nat) (s : Int) : ∀ K, w_H (fun b => t b + (if x = b then s else 0)) p K = w_H t p K + (if x < K then s * (p x : Nat) else 0)
  | 0 => rfl
  | K + 1 => by
    rw [w_H, w_H_add t p x s K, w_H]
    by_cases e : x = K
    · subst e
      rw [if_pos rfl, if_neg (Nat.lt_irrefl _), if_pos (Nat.lt_succ_self _), Int.add_mul]
      omega
    · rw [if_neg e]
      by_cases e2 : x < K
      · rw [if_pos e2, if_pos (show x < K + 1 by omega)]; simp only [Int.add_zero]; omega
      · rw [if_neg e2, if_neg (show ¬ x < K + 1 by omega)]; simp only [Int.add_zero]
theorem w_H_0 {n : Nat} {N p : Nat → Nat} : ∀ K, w_H (w_tm n N 0) p K = 0
  | 0 => rfl
  | K + 1 => by rw [w_H, w_H_0 K]; simp [w_tm]
theorem w_H_V {n : Nat} {N p : Nat → Nat} {K : Nat} : ∀ m, (∀ T, T < m → N T < K) → w_H (w_tm n N m) p K = w_V n (fun T => ((p (N T) : Nat) : Int)) m
  | 0, _ => w_H_0 K
  | m + 1, h => by
    rw [w_V, ← w_H_V m (fun T hT => h T (by omega)), show w_tm n N (m + 1) = (fun b => w_tm n N m b + (if N m = b then w_sg n m else 0)) from rfl, w_H_add, if_pos (h m (by omega))]
/-- the limbs' sums -/
def w_zb (t : Nat → Int) (e : Nat) : Nat → Nat → Int
  | 0, _ => 0
  | b + 1, i => w_zb t e b i + (w_lb (b ^ e) i : Nat) * t b
theorem w_zb_b {t : Nat → Int} {e : Nat} (ht : ∀ b, -1024 ≤ t b ∧ t b ≤ 1024) (i : Nat) : ∀ b : Nat, -((b : Int) * 1024000000000) ≤ w_zb t e b i ∧ w_zb t e b i ≤ (b : Int) * 1024000000000
  | 0 => ⟨by rw [w_zb]; omega, by rw [w_zb]; omega⟩
  | b + 1 => by
    have h := w_zb_b (e := e) ht i b
    have k := ht b
    have l := w_lb_lt (b ^ e) i
    rw [w_zb]
    have l1 : ((w_lb (b ^ e) i : Nat) : Int) < 1000000000 := by
      have : wB = 1000000000 := rfl
      omega
    have l0 : (0 : Int) ≤ ((w_lb (b ^ e) i : Nat) : Int) := Int.natCast_nonneg _
    generalize ((w_lb (b ^ e) i : Nat) : Int) = L at *
    have m1 : L * t b ≤ L * 1024 := Int.mul_le_mul_of_nonneg_left k.2 l0
    have m2 : L * (-1024) ≤ L * t b := Int.mul_le_mul_of_nonneg_left k.1 l0
    rw [Int.natCast_add]
    omega
theorem w_Z_lin (A B : Nat → Int) (t : Int) : ∀ k, w_Z (fun i => A i + B i * t) k = w_Z A k + w_Z B k * t
  | 0 => by simp [w_Z]
  | k + 1 => by
    rw [w_Z, w_Z_lin A B t k, w_Z, w_Z, Int.add_mul, Int.add_mul, Int.mul_right_comm (B k) t]
    omega
theorem w_Z_lb (v : Nat) : ∀ k, w_Z (fun i => (w_lb v i : Nat)) k = ((v % wB ^ k : Nat) : Int)
  | 0 => by rw [w_Z, Nat.pow_zero, Nat.mod_one]; rfl
  | k + 1 => by rw [w_Z, w_Z_lb v k, w_modS, Int.natCast_add, Int.natCast_mul, Int.mul_comm]
theorem w_Z_0 {t : Nat → Int} {e : Nat} : ∀ k, w_Z (w_zb t e 0) k = 0
  | 0 => rfl
  | k + 1 => by rw [w_Z, w_Z_0 k]; simp [w_zb]
theorem w_Z_zb {t : Nat → Int} {e k : Nat} : ∀ m, (∀ b, b < m → b ^ e < wB ^ k) → w_Z (w_zb t e m) k = w_H t (fun b => b ^ e) m
  | 0, _ => w_Z_0 k
  | m + 1, h => by
    rw [show w_zb t e (m + 1) = (fun i => w_zb t e m i + (w_lb (m ^ e) i : Nat) * t m) from rfl, w_Z_lin, w_Z_zb m (fun b hb => h b (by omega)), w_Z_lb, Nat.mod_eq_of_lt (h m (by omega)), w_H, Int.mul_comm]
theorem w_pw {b e : Nat} (hb : b ≤ 386) (he : e ≤ 24) : b ^ e ≤ 386 ^ 24 :=
  Nat.le_trans (Nat.pow_le_pow_left hb e) (Nat.pow_le_pow_right (by decide) he)
theorem w_386 : 1024 * 386 ^ 24 < wB ^ 8 := by decide +kernel
/-- the number of ways -/
def w_W (n : Nat) (L : Nat → Nat) (e : Nat) : Nat := (w_V n (fun T => ((w_zc L n T ^ e : Nat) : Int)) (2 ^ n)).toNat
theorem w_W_lt {n : Nat} {L : Nat → Nat} {e : Nat} (h10 : n ≤ 10) (he : e ≤ 24) (hN : ∀ T, T < 2 ^ n → w_zc L n T ≤ 386) : w_W n L e < wB ^ 8 := by
  have p10 : 2 ^ n ≤ 2 ^ 10 := Nat.pow_le_pow_right (by decide) h10
  have h := (w_V_le (n := n) (h := fun T => ((w_zc L n T ^ e : Nat) : Int)) (b := ((386 ^ 24 : Nat) : Int)) (2 ^ n) (fun T hT => ⟨Int.natCast_nonneg _, Int.ofNat_le.mpr (w_pw (hN T hT) he)⟩)).1
  have h2 := w_386
  have h3 : 2 ^ n * 386 ^ 24 ≤ 1024 * 386 ^ 24 := Nat.mul_le_mul_right _ p10
  unfold w_W
  rw [← Int.natCast_mul] at h
  omega
theorem w_W_Z {n : Nat} {L : Nat → Nat} {e : Nat} (he : e ≤ 24) (hN : ∀ T, T < 2 ^ n → w_zc L n T ≤ 386) : w_Z (w_zb (w_tm n (w_zc L n) (2 ^ n)) e 387) 8 = (w_W n L e : Nat) := by
  rw [w_Z_zb 387 (fun b hb => by have := w_pw (b := b) (e := e) (by omega) he; have := w_386; omega), w_H_V (2 ^ n) (fun T hT => by have := hN T hT; omega)]
  unfold w_W
  rw [Int.toNat_of_nonneg (w_V_pos n L e)]
/-- two sums, of the sets to be added and of those to be taken away -/
def w_P (n : Nat) (s : Int) (p : Nat → Nat) : Nat → Nat
  | 0 => 0
  | m + 1 => w_P n s p m + (if w_sg n m = s then p m else 0)
theorem w_P_V {n : Nat} {p : Nat → Nat} : ∀ m, w_V n (fun T => ((p T : Nat) : Int)) m = (w_P n 1 p m : Int) - (w_P n (-1) p m : Int)
  | 0 => rfl
  | m + 1 => by
    rw [w_V, w_P_V m, w_P, w_P]
    rcases w_sg1 n m with z | z <;> rw [z]
    · rw [if_pos rfl, if_neg (by decide)]; omega
    · rw [if_neg (by decide), if_pos rfl]; omega
theorem w_P_W {n : Nat} {L : Nat → Nat} {e : Nat} : w_P n (-1) (fun T => w_zc L n T ^ e) (2 ^ n) ≤ w_P n 1 (fun T => w_zc L n T ^ e) (2 ^ n) ∧ w_P n 1 (fun T => w_zc L n T ^ e) (2 ^ n) - w_P n (-1) (fun T => w_zc L n T ^ e) (2 ^ n) = w_W n L e := by
  have h1 := w_V_pos n L e
  have h2 := w_P_V (n := n) (p := fun T => w_zc L n T ^ e) (2 ^ n)
  unfold w_W
  omega
theorem w_dm_W {v a b : Nat} (h : v < 10 ^ a) (hab : a ≤ b) : w_dm v b = w_dm v a := by
  obtain ⟨d, rfl⟩ : ∃ d, b = a + d := ⟨b - a, by omega⟩
  exact w_dm_more d (fun j hj => by rw [Nat.div_eq_of_lt (Nat.lt_of_lt_of_le h (Nat.pow_le_pow_right (by decide) hj))])
