/-! a slot, in numbers: what is sent, what grows old, what is lost -/
def s_N : Nat → Nat → (Nat → Nat) → Nat → (Nat → Nat) × Nat
  | 0, _, a, s => (a, s)
  | k + 1, l, a, s => s_N k (l - min l (a k)) (va_up a k (a k - min l (a k))) (s + min l (a k))
theorem z_sm_up {a : Nat → Nat} {k v : Nat} : ∀ {m : Nat}, m ≤ k → z_sm (va_up a k v) m = z_sm a m
  | 0, _ => rfl
  | m + 1, h => by rw [z_sm, z_sm, z_sm_up (by omega), va_up_n (by omega)]
theorem z_sm_up2 {a : Nat → Nat} {k v : Nat} (hv : v ≤ a k) : ∀ {m : Nat}, k < m → z_sm (va_up a k v) m + (a k - v) = z_sm a m
  | 0, h => absurd h (Nat.not_lt_zero k)
  | m + 1, h => by
    rw [z_sm, z_sm]
    by_cases e : m = k
    · subst e
      rw [z_sm_up (Nat.le_refl _), va_up_s]
      omega
    · have := z_sm_up2 (a := a) hv (m := m) (by omega)
      rw [va_up_n e]
      omega
theorem z_sm_mono {a : Nat → Nat} {k : Nat} : ∀ {m : Nat}, k < m → a k ≤ z_sm a m
  | 0, h => absurd h (Nat.not_lt_zero k)
  | m + 1, h => by
    rw [z_sm]
    by_cases e : m = k
    · subst e; omega
    · have := z_sm_mono (a := a) (k := k) (m := m) (by omega)
      omega
/-- what is sent is taken away -/
theorem s_N_sum : ∀ (k l : Nat) (a : Nat → Nat) (s m : Nat), k ≤ m → z_sm (s_N k l a s).1 m + (s_N k l a s).2 = z_sm a m + s ∧ ∀ j, (s_N k l a s).1 j ≤ a j
  | 0, l, a, s, m, _ => ⟨rfl, fun _ => Nat.le_refl _⟩
  | k + 1, l, a, s, m, h => by
    have hm : min l (a k) ≤ a k := Nat.min_le_right _ _
    obtain ⟨h1, h2⟩ := s_N_sum k (l - min l (a k)) (va_up a k (a k - min l (a k))) (s + min l (a k)) m (by omega)
    have h3 := z_sm_up2 (a := a) (k := k) (v := a k - min l (a k)) (by omega) (m := m) (by omega)
    rw [s_N]
    refine ⟨by omega, fun j => ?_⟩
    have h4 := h2 j
    by_cases e : j = k
    · subst e; rw [va_up_s] at h4; omega
    · rw [va_up_n e] at h4; exact h4
/-- no more can be sent than waits -/
theorem s_N_min : ∀ (k l : Nat) (a : Nat → Nat) (s : Nat), s_N k l a s = s_N k (min (z_sm a k) l) a s
  | 0, l, a, s => rfl
  | k + 1, l, a, s => by
    rw [s_N, s_N]
    have e0 : z_sm a (k + 1) = z_sm a k + a k := rfl
    have e1 : min (min (z_sm a (k + 1)) l) (a k) = min l (a k) := by omega
    rw [e1, s_N_min k, s_N_min k (min (z_sm a (k + 1)) l - min l (a k)), z_sm_up (Nat.le_refl k)]
    congr 1
    omega
theorem q_mn_N {x y : Nat} (hx : x < 2 ^ 31) (hy : y < 2 ^ 31) : q_mn (nI x) (nI y) = nI (min x y) := by
  unfold q_mn
  by_cases e : y < x
  · rw [if_pos ((nI_ltI hy hx).mpr e), Nat.min_eq_right (by omega)]
  · rw [if_neg (fun q => e ((nI_ltI hy hx).mp q)), Nat.min_eq_left (by omega)]
theorem q_sndM_N {K : Nat} : ∀ (k l : Nat) (a : Nat → Nat) (s : Nat) (r : Nat → Int32), k ≤ K → l < 2 ^ 31 → (∀ j, j < K → r j = nI (a j) ∧ a j < 2 ^ 31) → (∀ j, j < K → (q_sndM k (nI l) r (lN s)).1 j = nI ((s_N k l a s).1 j)) ∧ (q_sndM k (nI l) r (lN s)).2 = lN (s_N k l a s).2
  | 0, l, a, s, r, _, _, h => ⟨fun j hj => (h j hj).1, rfl⟩
  | k + 1, l, a, s, r, hk, hl, h => by
    have hk1 := h k (by omega)
    rw [q_sndM, s_N, hk1.1, q_mn_N hl hk1.2, pk_sub (by omega), pk_sub (by omega), nI_l (by omega), lN_add]
    refine q_sndM_N k _ _ _ _ (by omega) (by omega) (fun j hj => ?_)
    by_cases e : j = k
    · subst e; rw [va_up_s, va_up_s]; exact ⟨rfl, by omega⟩
    · rw [va_up_n e, va_up_n e]; exact h j hj
theorem s_N_0 : ∀ (k : Nat) (a : Nat → Nat) (s : Nat), s_N k 0 a s = (a, s)
  | 0, a, s => rfl
  | k + 1, a, s => by
    rw [s_N, Nat.zero_min, Nat.sub_zero, Nat.sub_zero, Nat.add_zero, va_up_id]
    exact s_N_0 k a s
theorem q_snd_N {K : Nat} : ∀ (k l : Nat) (a : Nat → Nat) (s : Nat) (r : Nat → Int32), k ≤ K → l < 2 ^ 31 → (∀ j, j < K → r j = nI (a j) ∧ a j < 2 ^ 31) → (∀ j, j < K → (q_snd k (nI l) r (lN s)).1 j = nI ((s_N k l a s).1 j)) ∧ (q_snd k (nI l) r (lN s)).2 = lN (s_N k l a s).2
  | 0, l, a, s, r, _, _, h => ⟨fun j hj => (h j hj).1, rfl⟩
  | k + 1, l, a, s, r, hk, hl, h => by
    rw [q_snd]
    by_cases e0 : nI l ≤ 0
    · have hl0 : l = 0 := by
        rcases Nat.eq_zero_or_pos l with q | q
        · exact q
        · exact absurd e0 (nI_nle q hl)
      subst hl0
      rw [if_pos e0, s_N_0]
      exact ⟨fun j hj => (h j hj).1, rfl⟩
    · have hk1 := h k (by omega)
      rw [if_neg e0, s_N, hk1.1, q_mn_N hl hk1.2, pk_sub (by omega), pk_sub (by omega), nI_l (by omega), lN_add]
      refine q_snd_N k _ _ _ _ (by omega) (by omega) (fun j hj => ?_)
      by_cases e : j = k
      · subst e; rw [va_up_s, va_up_s]; exact ⟨rfl, by omega⟩
      · rw [va_up_n e, va_up_n e]; exact h j hj
/-- what is too old -/
def s_lo (b : Nat → Nat) : Nat → Nat
  | 0 => 0
  | d + 1 => s_lo b d + b (20 - d)
theorem s_lo_sum {b : Nat → Nat} : ∀ {d : Nat}, d ≤ 21 → s_lo b d + z_sm b (21 - d) = z_sm b 21
  | 0, _ => by rw [s_lo, Nat.zero_add]
  | d + 1, h => by
    have ih := s_lo_sum (b := b) (d := d) (by omega)
    have e : 21 - d = (21 - (d + 1)) + 1 := by omega
    rw [e, z_sm, show 21 - (d + 1) = 20 - d by omega] at ih
    rw [s_lo, show 21 - (d + 1) = 20 - d by omega]
    omega
theorem q_los_N {b : Nat → Nat} {r : Nat → Int32} {x : Nat} : ∀ {d : Nat}, d ≤ 21 → (∀ j, j < 21 → r j = nI (b j) ∧ b j < 2 ^ 31) → q_los r (lN x) d = lN (x + s_lo b d)
  | 0, _, _ => rfl
  | d + 1, h, hr => by
    have h1 := hr (20 - d) (by omega)
    rw [q_los, s_lo, q_los_N (by omega) hr, h1.1, nI_l h1.2, lN_add, Nat.add_assoc]
def s_sh (b : Nat → Nat) : Nat → Nat := fun j => if j = 0 then 0 else b (j - 1)
theorem s_lo_sh {b : Nat → Nat} (h20 : b 20 = 0) : ∀ {d : Nat}, d ≤ 20 → s_lo (s_sh b) d = s_lo b (d + 1)
  | 0, _ => by rw [s_lo, s_lo, s_lo, h20]
  | d + 1, h => by
    rw [s_lo, s_lo_sh h20 (by omega), s_lo]
    show _ = s_lo b (d + 1) + b (20 - (d + 1))
    congr 1
    show (if 20 - d = 0 then 0 else b (20 - d - 1)) = _
    rw [if_neg (by omega)]
    congr 1
/-- one slot older -/
def s_nr (b : Nat → Nat) (L : Nat) : Nat → Nat := fun j => if j = 0 then 0 else if j < L then b (j - 1) else 0
theorem s_nr_sum {b : Nat → Nat} {L : Nat} : ∀ {m : Nat}, z_sm (s_nr b L) m = z_sm b (min m L - 1)
  | 0 => by rw [Nat.zero_min]; rfl
  | m + 1 => by
    rw [z_sm, s_nr_sum (m := m)]
    unfold s_nr
    by_cases e0 : m = 0
    · subst e0
      rw [if_pos rfl, Nat.zero_min, Nat.zero_sub, show min (0 + 1) L - 1 = 0 by omega, Nat.add_zero]
    · rw [if_neg e0]
      by_cases e1 : m < L
      · rw [if_pos e1, show min (m + 1) L - 1 = (min m L - 1) + 1 by omega, z_sm, show min m L - 1 = m - 1 by omega]
      · rw [if_neg e1, Nat.add_zero, show min (m + 1) L = min m L by omega]
theorem s_age {b : Nat → Nat} {r : Nat → Int32} {L : Nat} (hr : ∀ j, j < 21 → r j = nI (b j)) {j : Nat} (hj : j < 21) : z_age r L j = nI (s_nr b L j) := by
  unfold z_age s_nr
  by_cases e0 : j = 0
  · rw [if_pos e0, if_pos e0]; rfl
  · rw [if_neg e0, if_neg e0]
    by_cases e1 : j < L
    · rw [if_pos e1, if_pos e1, hr _ (by omega)]
    · rw [if_neg e1, if_neg e1]; rfl
theorem s_sh1 {b : Nat → Nat} {r : Nat → Int32} (hr : ∀ j, j < 21 → r j = nI (b j)) {j : Nat} (hj : j < 21) : q_sh1 r j = nI (s_sh b j) := by
  unfold q_sh1 s_sh
  by_cases e0 : j = 0
  · rw [if_pos e0, if_pos e0]; rfl
  · rw [if_neg e0, if_neg e0, if_pos (by omega), hr _ (by omega)]
theorem s_zr {b : Nat → Nat} {r : Nat → Int32} {L : Nat} (hL1 : 1 ≤ L) (hL : L ≤ 20) (hr : ∀ j, j < 21 → r j = nI (b j)) {j : Nat} (hj : j < 21) : q_zr (q_sh1 r) (21 - L) j = nI (s_nr b L j) := by
  unfold q_zr
  by_cases e : 20 - (21 - L) < j ∧ j ≤ 20
  · rw [if_pos e]
    unfold s_nr
    rw [if_neg (by omega), if_neg (by omega)]; rfl
  · rw [if_neg e, s_sh1 hr hj]
    unfold s_sh s_nr
    by_cases e0 : j = 0
    · rw [if_pos e0, if_pos e0]
    · rw [if_neg e0, if_neg e0, if_pos (by omega)]
/-- a cell's queue over one slot, on both sides -/
theorem s_cell {t L ask rt : Nat} {lit : Bool} {w mw : Nat → Int32} {gx gm : Nat → Int64} (hL1 : 1 ≤ L) (hL : L ≤ 20) (ht : t ≤ 20000) (hask : ask ≤ 1000) (hrt : rt < 2 ^ 31) (h : r_W t w gx mw gm) {aw am : Nat → Int32} (haw : ∀ k, k < 21 → aw k = if k = 0 then w 0 + nI ask else w k) (ham : ∀ k, k < 21 → am k = if k = 0 then mw 0 + nI ask else mw k) :
    ∃ (V : Nat), V ≤ 20001000 ∧ q_sum am 21 = nI V ∧ (gx 10 + lN ask - gx 11 - gx 12).toInt32 = nI V ∧
    ∀ (rx rm : (Nat → Int32) × Int64), rx = (if lit = true then q_snd 21 (nI rt) aw (gx 11) else (aw, gx 11)) → rm = (if lit = true then q_sndM 21 (nI (min V rt)) am (gm 32) else (am, gm 32)) →
    ∃ (nw : Nat → Nat) (cm sn ls : Nat), (∀ k, k < 21 → q_zr (q_sh1 rx.1) (21 - L) k = nI (nw k) ∧ z_age rm.1 L k = nI (nw k)) ∧ nw 20 = 0 ∧ (gx 10 + lN ask = lN cm ∧ gm 31 + lN ask = lN cm) ∧ (rx.2 = lN sn ∧ rm.2 = lN sn) ∧ (q_los (q_sh1 rx.1) (gx 12) (21 - L) = lN ls ∧ q_los rm.1 (gm 33) (22 - L) = lN ls) ∧ z_sm nw 21 + sn + ls = cm ∧ cm ≤ 1000 * (t + 1) := by
  obtain ⟨v, cm, sn, ls, hv, h20, ⟨c1, c2⟩, ⟨c3, c4⟩, ⟨c5, c6⟩, hs, hcm⟩ := h
  have hsum : z_sm (va_up v 0 (v 0 + ask)) 21 = z_sm v 21 + ask := by
    have e := z_sm_up2 (a := va_up v 0 (v 0 + ask)) (k := 0) (v := v 0) (by rw [va_up_s]; omega) (m := 21) (by decide)
    rw [va_up_u, va_up_s, show va_up v 0 (v 0) = v from va_up_id] at e
    omega
  have hax : ∀ k, k < 21 → aw k = nI (va_up v 0 (v 0 + ask) k) ∧ am k = nI (va_up v 0 (v 0 + ask) k) := fun k hk => by
    rw [haw k hk, ham k hk]
    by_cases e : k = 0
    · subst e; rw [if_pos rfl, if_pos rfl, va_up_s, (hv 0 (by decide)).1, (hv 0 (by decide)).2, nI_add]; exact ⟨rfl, rfl⟩
    · rw [if_neg e, if_neg e, va_up_n e]; exact hv k hk
  have ha20 : va_up v 0 (v 0 + ask) 20 = 0 := by rw [va_up_n (by decide)]; exact h20
  generalize va_up v 0 (v 0 + ask) = a at hsum hax ha20
  have hlt : ∀ j, j < 21 → a j < 2 ^ 31 := fun j hj => by have := z_sm_mono (a := a) hj; omega
  refine ⟨z_sm a 21, by omega, nI_sm (fun j hj => (hax j hj).2), ?_, fun rx rm hrx hrm => ?_⟩
  · rw [c1, c3, c5, lN_add, lN_sub (by omega), lN_sub (by omega), lN_i]
    congr 1
    omega
  · obtain ⟨b, s2, hb1, hb2, hb3, hb4, hb5, hb6⟩ : ∃ (b : Nat → Nat) (s2 : Nat), (∀ j, j < 21 → rx.1 j = nI (b j)) ∧ (∀ j, j < 21 → rm.1 j = nI (b j)) ∧ rx.2 = lN s2 ∧ rm.2 = lN s2 ∧ z_sm b 21 + s2 = z_sm a 21 + sn ∧ ∀ j, b j ≤ a j := by
      cases lit with
      | true =>
        rw [if_pos rfl, c3] at hrx
        rw [if_pos rfl, c4] at hrm
        have x1 := q_snd_N (K := 21) 21 rt a sn aw (by decide) hrt (fun j hj => ⟨(hax j hj).1, hlt j hj⟩)
        have x2 := q_sndM_N (K := 21) 21 (min (z_sm a 21) rt) a sn am (by decide) (by omega) (fun j hj => ⟨(hax j hj).2, hlt j hj⟩)
        rw [← s_N_min] at x2
        have x3 := s_N_sum 21 rt a sn 21 (Nat.le_refl _)
        rw [hrx, hrm]
        exact ⟨(s_N 21 rt a sn).1, (s_N 21 rt a sn).2, x1.1, x2.1, x1.2, x2.2, x3.1, x3.2⟩
      | false =>
        rw [if_neg (by decide), c3] at hrx
        rw [if_neg (by decide), c4] at hrm
        rw [hrx, hrm]
        exact ⟨a, sn, fun j hj => (hax j hj).1, fun j hj => (hax j hj).2, rfl, rfl, rfl, fun _ => Nat.le_refl _⟩
    have hb20 : b 20 = 0 := by have := hb6 20; omega
    have hbl : ∀ j, j < 21 → b j < 2 ^ 31 := fun j hj => by have := hb6 j; have := hlt j hj; omega
    refine ⟨s_nr b L, cm + ask, s2, ls + s_lo b (22 - L), fun k hk => ⟨s_zr hL1 hL hb1 hk, s_age hb2 hk⟩, ?_, ⟨by rw [c1, lN_add], by rw [c2, lN_add]⟩, ⟨hb3, hb4⟩, ⟨?_, ?_⟩, ?_, by omega⟩
    · show (if 20 = 0 then 0 else if 20 < L then b (20 - 1) else 0) = 0
      rw [if_neg (by decide), if_neg (by omega)]
    · have hsl : ∀ j, j < 21 → s_sh b j < 2 ^ 31 := fun j hj => by
        unfold s_sh
        by_cases e0 : j = 0
        · rw [if_pos e0]; decide
        · rw [if_neg e0]; exact hbl _ (by omega)
      rw [c5, q_los_N (b := s_sh b) (by omega) (fun j hj => ⟨s_sh1 hb1 hj, hsl j hj⟩), s_lo_sh hb20 (by omega), show 21 - L + 1 = 22 - L by omega]
    · rw [c6, q_los_N (by omega) (fun j hj => ⟨hb2 j hj, hbl j hj⟩)]
    · have e1 := s_lo_sum (b := b) (d := 22 - L) (by omega)
      have e2 := s_nr_sum (b := b) (L := L) (m := 21)
      rw [show min 21 L - 1 = 21 - (22 - L) by omega] at e2
      omega
