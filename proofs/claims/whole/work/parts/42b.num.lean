/-! the class: the worthiest set -/
def z_S (w : Nat → Nat) (s : Nat) : Nat → Nat
  | 0 => 0
  | k + 1 => z_S w s k + (if s.testBit k = true then w k else 0)
theorem z_S_le {w : Nat → Nat} {s B : Nat} : ∀ {k : Nat}, (∀ c, c < k → s.testBit c = true → w c ≤ B) → z_S w s k ≤ k * B
  | 0, _ => Nat.zero_le _
  | k + 1, h => by
    rw [z_S, Nat.succ_mul]
    have h1 := z_S_le (w := w) (s := s) (B := B) (k := k) (fun c hc => h c (by omega))
    split
    · have := h k (by omega) (by assumption)
      omega
    · omega
theorem z_S_congr {w v : Nat → Nat} {s r : Nat} : ∀ {k : Nat}, (∀ c, c < k → (s.testBit c = r.testBit c)) → (∀ c, c < k → s.testBit c = true → w c = v c) → z_S w s k = z_S v r k
  | 0, _, _ => rfl
  | k + 1, h, h2 => by
    rw [z_S, z_S, z_S_congr (fun c hc => h c (by omega)) (fun c hc => h2 c (by omega)), ← h k (by omega)]
    by_cases e : s.testBit k = true
    · rw [if_pos e, if_pos e, h2 k (by omega) e]
    · rw [if_neg e, if_neg e]
theorem z_S_n {w : Nat → Nat} {s n m : Nat} (hs : s < 2 ^ n) (h : n ≤ m) : z_S w s m = z_S w s n := by
  obtain ⟨d, rfl⟩ : ∃ d, m = n + d := ⟨m - n, by omega⟩
  clear h
  induction d with
  | zero => rfl
  | succ d ih =>
    rw [show n + (d + 1) = (n + d) + 1 from rfl, z_S, ih, if_neg ?_, Nat.add_zero]
    rw [Nat.testBit_lt_two_pow (Nat.lt_of_lt_of_le hs (Nat.pow_le_pow_right (by decide) (by omega)))]
    decide
theorem z_S_top {w : Nat → Nat} {s k m : Nat} (h1 : 2 ^ k ≤ s) (h2 : s < 2 ^ (k + 1)) (hk : k < m) : z_S w s m = z_S w (s - 2 ^ k) m + w k := by
  obtain ⟨r, rfl⟩ : ∃ r, s = 2 ^ k + r := ⟨s - 2 ^ k, by omega⟩
  have hr : r < 2 ^ k := by rw [Nat.pow_succ] at h2; omega
  rw [Nat.add_sub_cancel_left, z_S_n h2 (show k + 1 ≤ m by omega), z_S_n hr (show k ≤ m by omega), z_S, if_pos (by rw [Nat.testBit_two_pow_add_eq, Nat.testBit_lt_two_pow hr]; rfl)]
  rw [z_S_congr (w := w) (v := w) (s := 2 ^ k + r) (r := r) (k := k) (fun c hc => Nat.testBit_two_pow_add_gt hc r) (fun _ _ _ => rfl)]
abbrev z_W (w : Nat → Nat) (s : Nat) : Nat := z_S w s 10
theorem z_S_0 {w : Nat → Nat} : ∀ k, z_S w 0 k = 0
  | 0 => rfl
  | k + 1 => by rw [z_S, z_S_0 k, if_neg (by simp)]
/-- the worthiest below t -/
def z_bN (p : Nat → Bool) (W : Nat → Nat) : Nat → Nat
  | 0 => 0
  | t + 1 => if p t = true ∧ W (z_bN p W t) < W t then t else z_bN p W t
theorem z_bN_lt {p : Nat → Bool} {W : Nat → Nat} : ∀ {t : Nat}, 0 < t → z_bN p W t < t
  | 0, h => absurd h (Nat.lt_irrefl 0)
  | 1, _ => by rw [z_bN]; split <;> exact Nat.zero_lt_one
  | t + 2, _ => by
    rw [z_bN]
    split
    · exact Nat.lt_succ_self _
    · exact Nat.lt_succ_of_lt (z_bN_lt (by omega))
theorem z_bN_p {p : Nat → Bool} {W : Nat → Nat} (h0 : p 0 = true) : ∀ {t : Nat}, p (z_bN p W t) = true
  | 0 => h0
  | t + 1 => by
    rw [z_bN]
    split
    · rename_i h; exact h.1
    · exact z_bN_p h0
set_option maxRecDepth 100000 in
theorem q_top : ∀ s, s < 1024 → ∀ k, k < 10 → (nI s >>> ((nI k + 1) &&& 31) = 0 ↔ s < 2 ^ (k + 1)) := by decide +kernel
set_option maxRecDepth 100000 in
theorem q_sub2 : ∀ s, s < 1024 → ∀ k, k < 10 → 2 ^ k ≤ s → s < 2 ^ (k + 1) → s &&& (1023 - 2 ^ k) = s - 2 ^ k := by decide +kernel
abbrev z_lst1 (n : Nat) (p : Nat → Bool) (f : Nat → Nat → Int32) : Prop := f 2 2 = nI (z_ct p (2 ^ n)) ∧ z_ct p (2 ^ n) ≤ 386 ∧ (∀ s, s < 2 ^ n → p s = true → f 12 (z_ct p s) = nI s)
abbrev z_dn (n : Nat) (p : Nat → Bool) : Prop := p 0 = true ∧ ∀ s k, s < 2 ^ n → p s = true → 2 ^ k ≤ s → s < 2 ^ (k + 1) → p (s - 2 ^ k) = true
