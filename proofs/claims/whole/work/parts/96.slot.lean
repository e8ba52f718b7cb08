/-! a slot: both sides alike -/
section RS
variable {n t : Nat} {sB tB : Bool} {f : Nat → Nat → Int32} {g : Nat → Nat → Int64} {F : Nat → Nat → Int32} {G : Nat → Nat → Int64}
abbrev x_L (n : Nat) (f : Nat → Nat → Int32) : Prop := z_lst1 n (z_p n f) f ∧ ∀ s, s < 2 ^ n → f 11 s = q_b (z_legX n f s)
theorem z_cut_congr {p q : Nat → Bool} : ∀ (k s : Nat), (∀ s', s' ≤ s → p s' = q s') → z_cut p k s = z_cut q k s
  | 0, s, _ => rfl
  | k + 1, s, h => by
    rw [z_cut, z_cut, h s (Nat.le_refl _), z_cut_congr k _ (fun s' hs => h s' (Nat.le_trans hs Nat.and_le_left))]
theorem z_bst_bN {p : Nat → Bool} {W : Nat → Nat} {wt : Nat → Int64} (hW0 : W 0 = 0) (hW : ∀ s, W s < 2 ^ 62) : ∀ m, (∀ s, s < m + 1 → wt s = lN (W s)) → z_bst p wt (m + 1) = (z_bN p W (m + 1), lN (W (z_bN p W (m + 1))))
  | 0, _ => by
    show (if 0 = 0 then ((0, 0) : Nat × Int64) else _) = _
    have e : z_bN p W (0 + 1) = 0 := by
      show (if p 0 = true ∧ W 0 < W 0 then 0 else 0) = 0
      split <;> rfl
    rw [if_pos rfl, e, hW0]; rfl
  | m + 1, h => by
    have ih := z_bst_bN (p := p) hW0 hW m (fun s hs => h s (by omega))
    have e1 : z_bst p wt (m + 1 + 1) = if m + 1 = 0 then (0, 0) else if (z_bst p wt (m + 1)).2 < wt (m + 1) ∧ p (m + 1) = true then (m + 1, wt (m + 1)) else z_bst p wt (m + 1) := rfl
    have e2 : z_bN p W (m + 1 + 1) = if p (m + 1) = true ∧ W (z_bN p W (m + 1)) < W (m + 1) then m + 1 else z_bN p W (m + 1) := rfl
    have b1 := hW (m + 1)
    have b2 := hW (z_bN p W (m + 1))
    rw [e1, e2, if_neg (by omega), ih, h (m + 1) (by omega)]
    by_cases q : p (m + 1) = true ∧ W (z_bN p W (m + 1)) < W (m + 1)
    · rw [if_pos q, if_pos ⟨(lN_ltI (by omega) (by omega)).mpr q.2, q.1⟩]
    · rw [if_neg q, if_neg (fun z => q ⟨z.2, (lN_ltI (by omega) (by omega)).mp z.1⟩)]
theorem z_bN_congr {p : Nat → Bool} {W W2 : Nat → Nat} {N : Nat} (h : ∀ s, s < N → W s = W2 s) : ∀ m, m ≤ N → z_bN p W m = z_bN p W2 m
  | 0, _ => rfl
  | m + 1, hm => by
    have ih := z_bN_congr (p := p) h m (by omega)
    rw [z_bN, z_bN, ih]
    have hlt : z_bN p W2 m < N := by
      rcases Nat.eq_zero_or_pos m with q | q
      · subst q; rw [z_bN]; omega
      · exact Nat.lt_of_lt_of_le (z_bN_lt q) (by omega)
    rw [h m (by omega), h _ hlt]
theorem q_rate_N {a q : Nat} (ha : a ≤ 2) (hq : q ≤ 1000) : ∃ r : Nat, r ≤ 1000 ∧ q_rate (nI a) (nI q) = nI r := by
  unfold q_rate
  by_cases e0 : nI a = 0
  · exact ⟨q, hq, by rw [if_pos e0]⟩
  · rw [if_neg e0]
    by_cases e1 : nI a = 1
    · exact ⟨q / 2, by omega, by rw [if_pos e1, show (2 : Int32) = nI 2 from rfl, pk_div (by omega) (by decide) (by decide)]⟩
    · exact ⟨0, by decide, by rw [if_neg e1]; rfl⟩
/-- what a slot needs of a cell -/
theorem x_R.wgt (h : x_R n t tB f g F G) {L : Nat} (hL1 : 1 ≤ L) (hL : L ≤ 20) (c : Nat) : ∃ (v r u : Nat), c < n → (v ≤ 20001000 ∧ r ≤ 1000 ∧ u ≤ 9 ∧ q_sum (fun k => z_r1 F (21 * c + k)) 21 = nI v ∧ q_rate (f (c + 40) 4) (f (c + 40) 1) = nI r ∧ q_rate (F 22 c) (F 16 c) = nI r ∧ f (c + 40) 2 = nI u ∧ F 17 c = nI u ∧ (g (c + 40) 10 + (f (c + 40) 6).toInt64 - g (c + 40) 11 - g (c + 40) 12).toInt32 = nI v ∧
    ∀ lit : Bool, ∀ (rx rm : (Nat → Int32) × Int64), rx = (if lit = true then q_snd 21 (nI r) (x_R60 f c) (g (c + 40) 11) else (x_R60 f c, g (c + 40) 11)) → rm = (if lit = true then q_sndM 21 (nI (min v r)) (fun k => z_r1 F (21 * c + k)) (G 32 c) else ((fun k => z_r1 F (21 * c + k)), G 32 c)) →
    ∃ (nw : Nat → Nat) (cm sn ls : Nat), (∀ k, k < 21 → q_zr (q_sh1 rx.1) (21 - L) k = nI (nw k) ∧ z_age rm.1 L k = nI (nw k)) ∧ nw 20 = 0 ∧ (g (c + 40) 10 + (f (c + 40) 6).toInt64 = lN cm ∧ G 31 c + (F 21 c).toInt64 = lN cm) ∧ (rx.2 = lN sn ∧ rm.2 = lN sn) ∧ (q_los (q_sh1 rx.1) (g (c + 40) 12) (21 - L) = lN ls ∧ q_los rm.1 (G 33 c) (22 - L) = lN ls) ∧ z_sm nw 21 + sn + ls = cm ∧ cm ≤ 1000 * (t + 1)) := by
  by_cases hc : c < n
  · have hr := h.cel c hc
    obtain ⟨ak, -, ak2, ak3, ak4⟩ := hr.ak
    obtain ⟨a, -, a2, a3, a4⟩ := hr.rn
    obtain ⟨q, -, q2, q3, q4⟩ := hr.rt
    obtain ⟨u, -, u2, u3, u4⟩ := hr.rk
    obtain ⟨r, r1, r2⟩ := q_rate_N a2 q2
    have haw : ∀ k, k < 21 → x_R60 f c k = if k = 0 then f (c + 60) 0 + nI ak else f (c + 60) k := fun k hk => by
      unfold x_R60
      by_cases e : k = 0
      · subst e; rw [if_pos rfl, va_up_s, ak3]
      · rw [if_neg e, va_up_n e]
    have ham : ∀ k, k < 21 → (fun k => z_r1 F (21 * c + k)) k = if k = 0 then (fun k => F 30 (21 * c + k)) 0 + nI ak else (fun k => F 30 (21 * c + k)) k := fun k hk => by
      show (if (21 * c + k) % 21 = 0 then F 30 (21 * c + k) + F 21 ((21 * c + k) / 21) else F 30 (21 * c + k)) = if k = 0 then F 30 (21 * c + 0) + nI ak else F 30 (21 * c + k)
      rw [show (21 * c + k) % 21 = k by omega, show (21 * c + k) / 21 = c by omega]
      by_cases e : k = 0
      · subst e; rw [if_pos rfl, if_pos rfl, show F 21 c = nI ak from ak4]
      · rw [if_neg e, if_neg e]
    have key := fun lit : Bool => s_cell (t := t) (L := L) (ask := ak) (rt := r) (lit := lit) hL1 hL h.t20 ak2 (by omega) hr.wt haw ham
    obtain ⟨v, v1, v2, v3, -⟩ := key true
    have el : (f (c + 40) 6).toInt64 = lN ak := by rw [ak3, nI_l (by omega)]
    have em : (F 21 c).toInt64 = lN ak := by rw [show F 21 c = nI ak from ak4, nI_l (by omega)]
    refine ⟨v, r, u, fun _ => ⟨v1, r1, u2, v2, by rw [a3, q3]; exact r2, by rw [show F 22 c = nI a from a4, show F 16 c = nI q from q4]; exact r2, u3, u4, by rw [el]; exact v3, fun lit rx rm hrx hrm => ?_⟩⟩
    obtain ⟨v', w1, w2, -, w4⟩ := key lit
    have ev : v' = v := (nI_eq (by omega) (by omega)).mp (w2.symm.trans v2)
    subst ev
    rw [el, em]
    exact w4 rx rm hrx hrm
  · exact ⟨0, 0, 0, fun q => absurd q hc⟩
theorem z_leg_congr2 {bm lim : Int32} {fb gt hd hd' pn up rm : Nat → Int32} {s : Nat} (h3 : ∀ c, c < n → (0 < hd c ↔ 0 < hd' c)) : z_leg n bm lim fb gt hd pn up rm s ↔ z_leg n bm lim fb gt hd' pn up rm s := by
  have e1 : (∀ c, c < n → s.testBit c = true → z_ok fb gt hd up s c) ↔ (∀ c, c < n → s.testBit c = true → z_ok fb gt hd' up s c) := by
    refine forall_congr' (fun c => ?_)
    refine forall_congr' (fun hc => ?_)
    refine forall_congr' (fun _ => ?_)
    show (fb c &&& nI s = 0 ∧ ¬ up (gt c).toNatClampNeg = 0 ∧ ¬ 0 < hd c) ↔ (fb c &&& nI s = 0 ∧ ¬ up (gt c).toNatClampNeg = 0 ∧ ¬ 0 < hd' c)
    rw [h3 c hc]
  show (_ ∧ _ ∧ _ ∧ _ ∧ _ ∧ _) ↔ (_ ∧ _ ∧ _ ∧ _ ∧ _ ∧ _)
  rw [e1]
theorem x_hv_0 {f : Nat → Nat → Int32} : ∀ {i : Nat}, x_hv f i = 0 → ∀ c, c < i → 0 < f (c + 40) 7 → ¬ f (c + 40) 7 - 1 = 0
  | 0, _, c, hc, _ => absurd hc (Nat.not_lt_zero c)
  | i + 1, h, c, hc, h0 => by
    rw [x_hv] at h
    by_cases e : 0 < f (i + 40) 7
    · rw [if_pos e] at h
      have h01 := x_hv_01 f i
      by_cases e2 : f (i + 40) 7 - 1 = 0
      · rw [if_pos e2] at h
        exfalso
        rcases h01 with q | q <;> rw [q] at h <;> exact absurd h (by decide)
      · rw [if_neg e2] at h
        have hi : x_hv f i = 0 := by
          rcases h01 with q | q
          · exact q
          · rw [q] at h; exact absurd h (by decide)
        by_cases ec : c = i
        · subst ec; exact e2
        · exact x_hv_0 hi c (by omega) h0
    · rw [if_neg e] at h
      by_cases ec : c = i
      · subst ec; exact absurd h0 e
      · exact x_hv_0 h c (by omega) h0
theorem x_L_fnd {f : Nat → Nat → Int32} (h10 : n ≤ 10) (hbm : ∃ b : Nat, b ≤ 4 ∧ f 1 4 = nI b) : x_L n (z_fnd n f (2 ^ n)) := by
  have e : ∀ s, z_legX n (z_fnd n f (2 ^ n)) s ↔ z_legX n f s := fun s => z_legX_congr rfl (fun c => by
    show (if c + 40 = 2 then _ else if c + 40 = 11 then _ else if c + 40 = 12 then _ else f (c + 40)) = _
    rw [if_neg (by omega), if_neg (by omega), if_neg (by omega)]) rfl rfl
  have ep : z_p n (z_fnd n f (2 ^ n)) = z_p n f := funext fun s => decide_eq_decide.mpr (e s)
  refine ⟨by rw [ep]; exact z_fnd_lst h10 hbm, fun s hs => ?_⟩
  rw [w_qb (e s)]
  exact if_pos hs
end RS
