/-! the class: a slot goes by -/
def x_cl {α : Type} (lo i : Nat) (f : Nat → α) (R : Nat → α) : Nat → α := fun a => if lo ≤ a ∧ a < i + lo then R (a - lo) else f a
theorem x_cl_0 {α : Type} {lo : Nat} {f R : Nat → α} : x_cl lo 0 f R = f := funext fun a => if_neg (by omega)
theorem x_cl_s {α : Type} {lo i : Nat} {f R : Nat → α} {v : α} (h : v = R i) : va_up (x_cl lo i f R) (i + lo) v = x_cl lo (i + 1) f R := by
  funext a
  by_cases e : a = i + lo
  · subst e; rw [va_up_s, h]; unfold x_cl; rw [if_pos (by omega), Nat.add_sub_cancel]
  · rw [va_up_n e]
    unfold x_cl
    by_cases e2 : lo ≤ a ∧ a < i + lo
    · rw [if_pos e2, if_pos (by omega)]
    · rw [if_neg e2, if_neg (by omega)]
theorem x_cl_at {α : Type} {lo i c : Nat} {f R : Nat → α} (h : c < i) : x_cl lo i f R (c + lo) = R c := by
  unfold x_cl; rw [if_pos (by omega), Nat.add_sub_cancel]
theorem x_cl_out {α : Type} {lo i a : Nat} {f R : Nat → α} (h : a < lo ∨ i + lo ≤ a) : x_cl lo i f R a = f a := by
  unfold x_cl; rw [if_neg (by omega)]
theorem va_upC {α : Type} {f : Nat → α} {a b : Nat} {u v : α} (h : a ≠ b) : va_up (va_up f a u) b v = va_up (va_up f b v) a u := by
  funext x
  by_cases e : x = a
  · subst e; rw [va_up_n h, va_up_s, va_up_s]
  · rw [va_up_n e (f := va_up f b v)]
    by_cases e2 : x = b
    · subst e2; rw [va_up_s, va_up_s]
    · rw [va_up_n e2, va_up_n e2, va_up_n e]
theorem va_clx {α : Type} {lo i a : Nat} {f R : Nat → α} {v : α} (h : a < lo ∨ i + lo ≤ a) : va_up (x_cl lo i f R) a v = x_cl lo i (va_up f a v) R := by
  funext x
  by_cases e : x = a
  · subst e; rw [va_up_s, x_cl_out h, va_up_s]
  · rw [va_up_n e]
    unfold x_cl
    by_cases e2 : lo ≤ x ∧ x < i + lo
    · rw [if_pos e2, if_pos e2]
    · rw [if_neg e2, if_neg e2, va_up_n e]
/-- asked units come -/
def x_R60 (f : Nat → Nat → Int32) (c : Nat) : Nat → Int32 := va_up (f (c + 60)) 0 (f (c + 60) 0 + f (c + 40) 6)
def x_G40 (f : Nat → Nat → Int32) (g : Nat → Nat → Int64) (c : Nat) : Nat → Int64 := va_up (g (c + 40)) 10 (g (c + 40) 10 + (f (c + 40) 6).toInt64)
set_option maxHeartbeats 4000000 in
set_option maxRecDepth 100000 in
theorem c_X2_takeAsked {n : Nat} {sB tB : Bool} {f : Nat → Nat → Int32} {g : Nat → Nat → Int64} (hn : f 1 1 = nI n) (h10 : n ≤ 10)  : q_ConV yX2_takeAsked cX2_takeAsked 2 none 1 20 tyX (alX n sB tB) [.ref 1] (f, g, rfX n sB tB) (fun h' => h' = (x_cl 60 n f (x_R60 f), x_cl 40 n g (x_G40 f g), rfX n sB tB)) := by
  refine q_Con.of RX2 [some (.ref 1), none] (by decide +kernel) rfl rfl (Nat.le_of_ble_eq_true rfl) (fun C ad E Z => ?_)
  have L : ∀ i, i ≤ n → gg C tyX 2 0 0 (alX n sB tB) ad 2 [some (.ref 1), some (.int (nI i))] [] (x_cl 60 i f (x_R60 f), x_cl 40 i g (x_G40 f g), rfX n sB tB) := by
    refine q_loop n (fun i hi ih => ?_)
    have hn1 : x_cl 60 i f (x_R60 f) 1 1 = nI n := by rw [x_cl_out (by omega)]; exact hn
    refine g_iload_1 (pc := 2) E dX2_takeAsked_2 ?_
    refine g_aload_0 (pc := 3) E dX2_takeAsked_3 ?_
    refine g_getI (pc := 4) E (by first | assumption | rfl) (by first | assumption | rfl) fl_X2_38 rfl dX2_takeAsked_4 ?_
    refine g_icmp_ge (pc := 7) (tgt := 25) E dX2_takeAsked_7 (by decide) (fun c_7 => ?_) (fun c_7 => ?_)
    · have e_7 := (q_ge (x := n) (y := i) hn1 rfl (by omega) (by omega)).mp c_7
      exact g_vret (pc := 25) E Z dX2_takeAsked_25 ⟨rfl, (by rw [show i = n by omega])⟩
    · have e_7 := (not_congr (q_ge (x := n) (y := i) hn1 rfl (by omega) (by omega))).mp c_7
      have hac : alX n sB tB (i + 40) = true := alX_c (by omega)
      have htc : tyX (i + 40) = .inr 0 := tyX_c (by omega)
      have hrc : rfX n sB tB 8 i = some (i + 40) := rfX_c (by omega)
      refine g_aload_0 (pc := 10) E dX2_takeAsked_10 ?_
      refine g_getR (pc := 11) E (by first | assumption | rfl) (by first | assumption | rfl) fl_X2_11 rfl (by first | assumption | rfl) dX2_takeAsked_11 ?_
      refine g_iload_1 (pc := 14) E dX2_takeAsked_14 ?_
      first | refine g_aald (pc := 15) E (by first | assumption | rfl) (by first | assumption | rfl) dX2_takeAsked_15 (q_ix_n (by omega)) (by first | assumption | rfl) ?_ | refine g_aaldJ (pc := 15) E (by first | assumption | rfl) (by first | assumption | rfl) dX2_takeAsked_15 (q_ix_n (by omega)) (by first | assumption | rfl) ?_
      refine g_cVv0 (pc := 16) E (c_X0_takeAsked i (by omega) h10) cw_X2_76 (by decide) (by decide) (by first | assumption | rfl) (by first | assumption | rfl) (Nat.le_of_ble_eq_true rfl) dX2_takeAsked_16 (fun h_16 hp => ?_)
      subst hp
      refine g_iinc_1 (pc := 19) (u := 1) E dX2_takeAsked_19 (by decide) (by decide) rfl ?_
      refine g_goto (pc := 22) (tgt := 2) E dX2_takeAsked_22 (by decide) ?_
      rw [nI_1, q_up_va, q_up_va, x_cl_out (a := i + 60) (by omega), x_cl_out (a := i + 40) (lo := 60) (by omega), x_cl_out (a := i + 40) (lo := 40) (by omega), x_cl_s (show va_up (f (i + 60)) 0 (f (i + 60) 0 + f (i + 40) 6) = x_R60 f i from rfl), x_cl_s (show va_up (g (i + 40)) 10 (g (i + 40) 10 + (f (i + 40) 6).toInt64) = x_G40 f g i from rfl)]
      exact ih (by omega)
  refine g_iconst (pc := 0) (v := 0) E dX2_takeAsked_0 (by decide) ?_
  refine g_istore_1 (pc := 1) E dX2_takeAsked_1 (by decide) rfl ?_
  have e := L 0 (Nat.zero_le _)
  rw [x_cl_0, x_cl_0] at e
  exact e
def x_rs (f : Nat → Nat → Int32) (g : Nat → Nat → Int64) (lit c : Nat) : (Nat → Int32) × Int64 := if lit.testBit c = true then q_snd 21 (q_rate (f (c + 40) 4) (f (c + 40) 1)) (f (c + 60)) (g (c + 40) 11) else (f (c + 60), g (c + 40) 11)
def x_row (f : Nat → Nat → Int32) (g : Nat → Nat → Int64) (lit L c : Nat) : Nat → Int32 := q_zr (q_sh1 (x_rs f g lit c).1) (21 - L)
def x_cel (f : Nat → Nat → Int32) (lit c : Nat) : Nat → Int32 := if lit.testBit c = true then va_up (va_up (f (c + 40)) 13 0) 15 (f (c + 40) 15 + 1) else va_up (va_up (f (c + 40)) 13 (f (c + 40) 13 + 1)) 14 (q_mx (f (c + 40) 14) (f (c + 40) 13 + 1))
def x_gce (f : Nat → Nat → Int32) (g : Nat → Nat → Int64) (lit L c : Nat) : Nat → Int64 := va_up (va_up (g (c + 40)) 11 (x_rs f g lit c).2) 12 (q_los (q_sh1 (x_rs f g lit c).1) (g (c + 40) 12) (21 - L))
def x_F (f : Nat → Nat → Int32) (g : Nat → Nat → Int64) (lit L i : Nat) : Nat → Nat → Int32 := x_cl 60 i (x_cl 40 i f (x_cel f lit)) (x_row f g lit L)
def x_G (f : Nat → Nat → Int32) (g : Nat → Nat → Int64) (lit L i : Nat) : Nat → Nat → Int64 := x_cl 40 i g (x_gce f g lit L)
theorem x_F_40 {f : Nat → Nat → Int32} {g : Nat → Nat → Int64} {lit L i : Nat} (h : i ≤ 10) : x_F f g lit L i (i + 40) = f (i + 40) := by
  unfold x_F; rw [x_cl_out (by omega), x_cl_out (by omega)]
theorem x_F_60 {f : Nat → Nat → Int32} {g : Nat → Nat → Int64} {lit L i : Nat} (h : i ≤ 10) : x_F f g lit L i (i + 60) = f (i + 60) := by
  unfold x_F; rw [x_cl_out (by omega), x_cl_out (by omega)]
theorem x_F_lo {f : Nat → Nat → Int32} {g : Nat → Nat → Int64} {lit L i a : Nat} (h : a < 40) : x_F f g lit L i a = f a := by
  unfold x_F; rw [x_cl_out (by omega), x_cl_out (by omega)]
theorem x_G_40 {f : Nat → Nat → Int32} {g : Nat → Nat → Int64} {lit L i : Nat} : x_G f g lit L i (i + 40) = g (i + 40) := by
  unfold x_G; rw [x_cl_out (by omega)]
theorem x_F_s {f : Nat → Nat → Int32} {g : Nat → Nat → Int64} {lit L i : Nat} (h : i < 10) {R : Nat → Int32} {S : Nat → Int32} (hR : R = x_cel f lit i) (hS : S = x_row f g lit L i) : va_up (va_up (x_F f g lit L i) (i + 40) R) (i + 60) S = x_F f g lit L (i + 1) := by
  unfold x_F
  rw [va_clx (a := i + 40) (lo := 60) (by omega), x_cl_s hR, x_cl_s hS]
theorem x_G_s {f : Nat → Nat → Int32} {g : Nat → Nat → Int64} {lit L i : Nat} {R : Nat → Int64} (hR : R = x_gce f g lit L i) : va_up (x_G f g lit L i) (i + 40) R = x_G f g lit L (i + 1) := by
  unfold x_G
  exact x_cl_s hR
theorem c_X0_growOlderE {n : Nat} {sB tB : Bool} {f : Nat → Nat → Int32} {g : Nat → Nat → Int64} (c : Nat) (hc : c < n) (h10 : n ≤ 10) (L : Nat) (hL1 : 1 ≤ L) (hL2 : L ≤ 20) (l : Int32) (hl : l = nI L) : q_ConV yX0_growOlder cX0_growOlder 3 none 0 0 tyX (alX n sB tB) [.ref (c + 40), .int l] (f, g, rfX n sB tB) (fun h' => h' = (va_up f (c + 60) (q_zr (q_sh1 (f (c + 60))) (21 - L)), q_up g (c + 40) 12 (q_los (q_sh1 (f (c + 60))) (g (c + 40) 12) (21 - L)), rfX n sB tB)) := by
  subst hl
  exact c_X0_growOlder c hc h10 L hL1 hL2
set_option maxHeartbeats 4000000 in
set_option maxRecDepth 100000 in
theorem c_X2_serve {n : Nat} {sB tB : Bool} {f : Nat → Nat → Int32} {g : Nat → Nat → Int64} (hn : f 1 1 = nI n) (h10 : n ≤ 10) (L : Nat) (hL : f 1 6 = nI L) (hL1 : 1 ≤ L) (hL2 : L ≤ 20) (lit : Nat) (hlit : lit < 1024) : q_ConV yX2_serve cX2_serve 4 none 2 44 tyX (alX n sB tB) [.ref 1, .int (nI lit)] (f, g, rfX n sB tB) (fun h' => h' = (x_F f g lit L n, x_G f g lit L n, rfX n sB tB)) := by
  refine q_Con.of RX2 [some (.ref 1), some (.int (nI lit)), none, none] (by decide +kernel) rfl rfl (Nat.le_of_ble_eq_true rfl) (fun C ad E Z => ?_)
  have Lp : ∀ i, i ≤ n → ∀ x3 : Option Value, gg C tyX 4 0 0 (alX n sB tB) ad 2 [some (.ref 1), some (.int (nI lit)), some (.int (nI i)), x3] [] (x_F f g lit L i, x_G f g lit L i, rfX n sB tB) := by
    refine q_loop n (fun i hi ih x3 => ?_)
    have hn1 : x_F f g lit L i 1 1 = nI n := by rw [x_F_lo (by omega)]; exact hn
    have hL1' : x_F f g lit L i 1 6 = nI L := by rw [x_F_lo (by omega)]; exact hL
    have e40 := x_F_40 (f := f) (g := g) (lit := lit) (L := L) (i := i) (by omega)
    have e60 := x_F_60 (f := f) (g := g) (lit := lit) (L := L) (i := i) (by omega)
    have eG := x_G_40 (f := f) (g := g) (lit := lit) (L := L) (i := i)
    refine g_iload_2 (pc := 2) E dX2_serve_2 ?_
    refine g_aload_0 (pc := 3) E dX2_serve_3 ?_
    refine g_getI (pc := 4) E (by first | assumption | rfl) (by first | assumption | rfl) fl_X2_38 rfl dX2_serve_4 ?_
    refine g_icmp_ge (pc := 7) (tgt := 58) E dX2_serve_7 (by decide) (fun c_7 => ?_) (fun c_7 => ?_)
    · have e_7 := (q_ge (x := n) (y := i) hn1 rfl (by omega) (by omega)).mp c_7
      exact g_vret (pc := 58) E Z dX2_serve_58 ⟨rfl, (by rw [show i = n by omega])⟩
    · have e_7 := (not_congr (q_ge (x := n) (y := i) hn1 rfl (by omega) (by omega))).mp c_7
      have hac : alX n sB tB (i + 40) = true := alX_c (by omega)
      have htc : tyX (i + 40) = .inr 0 := tyX_c (by omega)
      have hrc : rfX n sB tB 8 i = some (i + 40) := rfX_c (by omega)
      refine g_iload_1 (pc := 10) E dX2_serve_10 ?_
      refine g_iload_2 (pc := 11) E dX2_serve_11 ?_
      refine g_cSi2 (pc := 12) E (c_X7_contains _ _) cw_X2_47 (by decide) (by decide) (Nat.le_of_ble_eq_true rfl) dX2_serve_12 (fun v_12 h_12 hp => ?_)
      obtain ⟨rfl, rfl⟩ := hp
      refine g_istore_3 (pc := 15) E dX2_serve_15 (by decide) rfl ?_
      by_cases hb : lit.testBit i = true
      · have hv : q_b (¬ q_bit (nI lit) (nI i) = 0) = 1 := (q_bt (P := ¬ q_bit (nI lit) (nI i) = 0) (fun q => (q_bit0 hlit (by omega)).mp q hb)).symm
        rw [hv]
        refine g_iload_3 (pc := 16) E dX2_serve_16 ?_
        refine g_if_eq (pc := 17) (tgt := 29) E dX2_serve_17 (by decide) (fun c_17 => ?_) (fun c_17 => ?_)
        · exact absurd c_17 (by decide)
        · refine g_aload_0 (pc := 20) E dX2_serve_20 ?_
          refine g_getR (pc := 21) E (by first | assumption | rfl) (by first | assumption | rfl) fl_X2_11 rfl (by first | assumption | rfl) dX2_serve_21 ?_
          refine g_iload_2 (pc := 24) E dX2_serve_24 ?_
          first | refine g_aald (pc := 25) E (by first | assumption | rfl) (by first | assumption | rfl) dX2_serve_25 (q_ix_n (by omega)) (by first | assumption | rfl) ?_ | refine g_aaldJ (pc := 25) E (by first | assumption | rfl) (by first | assumption | rfl) dX2_serve_25 (q_ix_n (by omega)) (by first | assumption | rfl) ?_
          refine g_cVv0 (pc := 26) E (c_X0_send i (by omega) h10) cw_X2_79 (by decide) (by decide) (by first | assumption | rfl) (by first | assumption | rfl) (Nat.le_of_ble_eq_true rfl) dX2_serve_26 (fun h_26 hp => ?_)
          subst hp
          refine g_aload_0 (pc := 29) E dX2_serve_29 ?_
          refine g_getR (pc := 30) E (by first | assumption | rfl) (by first | assumption | rfl) fl_X2_11 rfl (by first | assumption | rfl) dX2_serve_30 ?_
          refine g_iload_2 (pc := 33) E dX2_serve_33 ?_
          first | refine g_aald (pc := 34) E (by first | assumption | rfl) (by first | assumption | rfl) dX2_serve_34 (q_ix_n (by omega)) (by first | assumption | rfl) ?_ | refine g_aaldJ (pc := 34) E (by first | assumption | rfl) (by first | assumption | rfl) dX2_serve_34 (q_ix_n (by omega)) (by first | assumption | rfl) ?_
          refine g_iload_3 (pc := 35) E dX2_serve_35 ?_
          refine g_cVv1 (pc := 36) E (c_X0_markLight i (by omega) h10 _) cw_X2_82 (by decide) (by decide) (by first | assumption | rfl) (by first | assumption | rfl) (Nat.le_of_ble_eq_true rfl) dX2_serve_36 (fun h_36 hp => ?_)
          obtain ⟨hu, -⟩ | ⟨-, rfl⟩ := hp
          · exact absurd hu (by decide)
          refine g_aload_0 (pc := 39) E dX2_serve_39 ?_
          refine g_getR (pc := 40) E (by first | assumption | rfl) (by first | assumption | rfl) fl_X2_11 rfl (by first | assumption | rfl) dX2_serve_40 ?_
          refine g_iload_2 (pc := 43) E dX2_serve_43 ?_
          first | refine g_aald (pc := 44) E (by first | assumption | rfl) (by first | assumption | rfl) dX2_serve_44 (q_ix_n (by omega)) (by first | assumption | rfl) ?_ | refine g_aaldJ (pc := 44) E (by first | assumption | rfl) (by first | assumption | rfl) dX2_serve_44 (q_ix_n (by omega)) (by first | assumption | rfl) ?_
          refine g_aload_0 (pc := 45) E dX2_serve_45 ?_
          refine g_getI (pc := 46) E (by first | assumption | rfl) (by first | assumption | rfl) fl_X2_32 rfl dX2_serve_46 ?_
          refine g_cVv1 (pc := 49) E (c_X0_growOlderE i (by omega) h10 L hL1 hL2 _ (by rw [q_up_ne (by omega), q_up_ne (by omega), va_up_n (by omega)]; exact hL1')) cw_X2_86 (by decide) (by decide) (by first | assumption | rfl) (by first | assumption | rfl) (Nat.le_of_ble_eq_true rfl) dX2_serve_49 (fun h_49 hp => ?_)
          subst hp
          refine g_iinc_2 (pc := 52) (u := 1) E dX2_serve_52 (by decide) (by decide) rfl ?_
          refine g_goto (pc := 55) (tgt := 2) E dX2_serve_55 (by decide) ?_
          rw [nI_1, e40, e60, eG]
          have hrs : x_rs f g lit i = q_snd 21 (q_rate (f (i + 40) 4) (f (i + 40) 1)) (f (i + 60)) (g (i + 40) 11) := if_pos hb
          rw [← hrs]
          rw [q_up_ne (show i + 60 ≠ i + 40 by omega), q_up_ne (show i + 60 ≠ i + 40 by omega), va_up_s]
          rw [show va_up (x_F f g lit L i) (i + 60) (x_rs f g lit i).1 (i + 40) = f (i + 40) from by rw [va_up_n (by omega)]; exact e40]
          rw [q_up_va (f := va_up (x_F f g lit L i) (i + 60) (x_rs f g lit i).1), va_up_n (show i + 40 ≠ i + 60 by omega), e40, q_up_va, va_up_s, va_up_u, va_upC (show i + 60 ≠ i + 40 by omega), va_up_u]
          rw [x_F_s (i := i) (R := va_up (va_up (f (i + 40)) 13 0) 15 (f (i + 40) 15 + 1)) (S := q_zr (q_sh1 (x_rs f g lit i).1) (21 - L)) (by omega) (by unfold x_cel; rw [if_pos hb]) rfl]
          rw [q_up_eq, va_up_n (show 12 ≠ 11 by decide), eG, q_up_va (f := q_up (x_G f g lit L i) (i + 40) 11 _), q_up_eq, eG, q_up_va, va_up_u]
          rw [x_G_s (i := i) (R := va_up (va_up (g (i + 40)) 11 (x_rs f g lit i).2) 12 (q_los (q_sh1 (x_rs f g lit i).1) (g (i + 40) 12) (21 - L))) rfl]
          exact ih (by omega) _
      · have hv : q_b (¬ q_bit (nI lit) (nI i) = 0) = 0 := (q_bf (P := ¬ q_bit (nI lit) (nI i) = 0) (fun q => q ((q_bit0 hlit (by omega)).mpr hb))).symm
        rw [hv]
        refine g_iload_3 (pc := 16) E dX2_serve_16 ?_
        refine g_if_eq (pc := 17) (tgt := 29) E dX2_serve_17 (by decide) (fun c_17 => ?_) (fun c_17 => ?_)
        · refine g_aload_0 (pc := 29) E dX2_serve_29 ?_
          refine g_getR (pc := 30) E (by first | assumption | rfl) (by first | assumption | rfl) fl_X2_11 rfl (by first | assumption | rfl) dX2_serve_30 ?_
          refine g_iload_2 (pc := 33) E dX2_serve_33 ?_
          first | refine g_aald (pc := 34) E (by first | assumption | rfl) (by first | assumption | rfl) dX2_serve_34 (q_ix_n (by omega)) (by first | assumption | rfl) ?_ | refine g_aaldJ (pc := 34) E (by first | assumption | rfl) (by first | assumption | rfl) dX2_serve_34 (q_ix_n (by omega)) (by first | assumption | rfl) ?_
          refine g_iload_3 (pc := 35) E dX2_serve_35 ?_
          refine g_cVv1 (pc := 36) E (c_X0_markLight i (by omega) h10 _) cw_X2_82 (by decide) (by decide) (by first | assumption | rfl) (by first | assumption | rfl) (Nat.le_of_ble_eq_true rfl) dX2_serve_36 (fun h_36 hp => ?_)
          obtain ⟨-, rfl⟩ | ⟨hu, -⟩ := hp
          rotate_left
          · exact absurd rfl hu
          refine g_aload_0 (pc := 39) E dX2_serve_39 ?_
          refine g_getR (pc := 40) E (by first | assumption | rfl) (by first | assumption | rfl) fl_X2_11 rfl (by first | assumption | rfl) dX2_serve_40 ?_
          refine g_iload_2 (pc := 43) E dX2_serve_43 ?_
          first | refine g_aald (pc := 44) E (by first | assumption | rfl) (by first | assumption | rfl) dX2_serve_44 (q_ix_n (by omega)) (by first | assumption | rfl) ?_ | refine g_aaldJ (pc := 44) E (by first | assumption | rfl) (by first | assumption | rfl) dX2_serve_44 (q_ix_n (by omega)) (by first | assumption | rfl) ?_
          refine g_aload_0 (pc := 45) E dX2_serve_45 ?_
          refine g_getI (pc := 46) E (by first | assumption | rfl) (by first | assumption | rfl) fl_X2_32 rfl dX2_serve_46 ?_
          refine g_cVv1 (pc := 49) E (c_X0_growOlderE i (by omega) h10 L hL1 hL2 _ (by rw [q_up_ne (by omega), q_up_ne (by omega)]; exact hL1')) cw_X2_86 (by decide) (by decide) (by first | assumption | rfl) (by first | assumption | rfl) (Nat.le_of_ble_eq_true rfl) dX2_serve_49 (fun h_49 hp => ?_)
          subst hp
          refine g_iinc_2 (pc := 52) (u := 1) E dX2_serve_52 (by decide) (by decide) rfl ?_
          refine g_goto (pc := 55) (tgt := 2) E dX2_serve_55 (by decide) ?_
          rw [nI_1, e40]
          have hrs : x_rs f g lit i = (f (i + 60), g (i + 40) 11) := if_neg hb
          rw [q_up_ne (show i + 60 ≠ i + 40 by omega), q_up_ne (show i + 60 ≠ i + 40 by omega), e60, eG]
          rw [q_up_va (f := x_F f g lit L i), e40, q_up_va, va_up_s, va_up_u]
          rw [x_F_s (i := i) (R := va_up (va_up (f (i + 40)) 13 (f (i + 40) 13 + 1)) 14 (q_mx (f (i + 40) 14) (f (i + 40) 13 + 1))) (S := q_zr (q_sh1 (f (i + 60))) (21 - L)) (by omega) (by unfold x_cel; rw [if_neg hb]) (by unfold x_row; rw [hrs])]
          rw [q_up_va, eG]
          rw [x_G_s (i := i) (R := va_up (g (i + 40)) 12 (q_los (q_sh1 (f (i + 60))) (g (i + 40) 12) (21 - L))) (by unfold x_gce; rw [hrs, va_up_id])]
          exact ih (by omega) _
        · exact absurd rfl c_17
  refine g_iconst (pc := 0) (v := 0) E dX2_serve_0 (by decide) ?_
  refine g_istore_2 (pc := 1) E dX2_serve_1 (by decide) rfl ?_
  have e := Lp 0 (Nat.zero_le _) none
  rw [show x_F f g lit L 0 = f from by unfold x_F; rw [x_cl_0, x_cl_0], show x_G f g lit L 0 = g from x_cl_0] at e
  exact e
def x_hc (f : Nat → Nat → Int32) (c : Nat) : Nat → Int32 := if 0 < f (c + 40) 7 then va_up (f (c + 40)) 7 (f (c + 40) 7 - 1) else f (c + 40)
def x_hv (f : Nat → Nat → Int32) : Nat → Int32
  | 0 => 0
  | i + 1 => if 0 < f (i + 40) 7 then x_hv f i ||| (if f (i + 40) 7 - 1 = 0 then 1 else 0) else x_hv f i
theorem x_hv_01 (f : Nat → Nat → Int32) : ∀ i, x_hv f i = 0 ∨ x_hv f i = 1
  | 0 => Or.inl rfl
  | i + 1 => by
    rw [x_hv]
    rcases x_hv_01 f i with e | e <;> rw [e] <;> split <;> (try split) <;> simp
set_option maxHeartbeats 4000000 in
set_option maxRecDepth 100000 in
theorem c_X2_handOn {n : Nat} {sB tB : Bool} {f : Nat → Nat → Int32} {g : Nat → Nat → Int64} (hn : f 1 1 = nI n) (h10 : n ≤ 10)  : q_ConI yX2_handOn cX2_handOn 3 (some .boolean) 0 0 tyX (alX n sB tB) [.ref 1] (f, g, rfX n sB tB) (fun v h' => v = x_hv f n ∧ h' = (x_cl 40 n f (x_hc f), g, rfX n sB tB)) := by
  refine q_Con.of RX2 [some (.ref 1), none, none] (by decide +kernel) rfl rfl (Nat.le_of_ble_eq_true rfl) (fun C ad E Z => ?_)
  have L : ∀ i, i ≤ n → gg C tyX 3 0 0 (alX n sB tB) ad 4 [some (.ref 1), some (.int (x_hv f i)), some (.int (nI i))] [] (x_cl 40 i f (x_hc f), g, rfX n sB tB) := by
    refine q_loop n (fun i hi ih => ?_)
    have hn1 : x_cl 40 i f (x_hc f) 1 1 = nI n := by rw [x_cl_out (by omega)]; exact hn
    have e40 : x_cl 40 i f (x_hc f) (i + 40) = f (i + 40) := x_cl_out (by omega)
    refine g_iload_2 (pc := 4) E dX2_handOn_4 ?_
    refine g_aload_0 (pc := 5) E dX2_handOn_5 ?_
    refine g_getI (pc := 6) E (by first | assumption | rfl) (by first | assumption | rfl) fl_X2_38 rfl dX2_handOn_6 ?_
    refine g_icmp_ge (pc := 9) (tgt := 65) E dX2_handOn_9 (by decide) (fun c_9 => ?_) (fun c_9 => ?_)
    · have e_9 := (q_ge (x := n) (y := i) hn1 rfl (by omega) (by omega)).mp c_9
      refine g_iload_1 (pc := 65) E dX2_handOn_65 ?_
      exact g_zret (pc := 66) E Z dX2_handOn_66 (by rcases x_hv_01 f i with e | e <;> rw [e] <;> rfl) ⟨_, rfl, ⟨by rw [show i = n by omega], by rw [show i = n by omega]⟩⟩
    · have e_9 := (not_congr (q_ge (x := n) (y := i) hn1 rfl (by omega) (by omega))).mp c_9
      have hac : alX n sB tB (i + 40) = true := alX_c (by omega)
      have htc : tyX (i + 40) = .inr 0 := tyX_c (by omega)
      have hrc : rfX n sB tB 8 i = some (i + 40) := rfX_c (by omega)
      refine g_aload_0 (pc := 12) E dX2_handOn_12 ?_
      refine g_getR (pc := 13) E (by first | assumption | rfl) (by first | assumption | rfl) fl_X2_11 rfl (by first | assumption | rfl) dX2_handOn_13 ?_
      refine g_iload_2 (pc := 16) E dX2_handOn_16 ?_
      first | refine g_aald (pc := 17) E (by first | assumption | rfl) (by first | assumption | rfl) dX2_handOn_17 (q_ix_n (by omega)) (by first | assumption | rfl) ?_ | refine g_aaldJ (pc := 17) E (by first | assumption | rfl) (by first | assumption | rfl) dX2_handOn_17 (q_ix_n (by omega)) (by first | assumption | rfl) ?_
      refine g_getI (pc := 18) E (by first | assumption | rfl) (by first | assumption | rfl) fl_X2_54 rfl dX2_handOn_18 ?_
      refine g_if_le (pc := 21) (tgt := 59) E dX2_handOn_21 (by decide) (fun c_21 => ?_) (fun c_21 => ?_)
      · have k21 : ¬ 0 < f (i + 40) 7 := fun q => absurd (show f (i + 40) 7 ≤ 0 by rw [← e40]; exact c_21) (Int32.not_le.mpr q)
        refine g_iinc_2 (pc := 59) (u := 1) E dX2_handOn_59 (by decide) (by decide) rfl ?_
        refine g_goto (pc := 62) (tgt := 4) E dX2_handOn_62 (by decide) ?_
        rw [nI_1]
        have e := ih (by omega)
        rw [x_hv, ← x_cl_s (lo := 40) (f := f) (R := x_hc f) rfl] at e
        first
        | (rw [if_neg k21, show x_hc f i = f (i + 40) from if_neg k21, show va_up (x_cl 40 i f (x_hc f)) (i + 40) (f (i + 40)) = x_cl 40 i f (x_hc f) from by rw [← e40]; exact va_up_id] at e; exact e)
        | (rw [if_pos k21, if_neg k49, show x_hc f i = va_up (f (i + 40)) 7 (f (i + 40) 7 - 1) from if_pos k21] at e; rw [q_up_va, e40]; exact e)
        | (rw [if_pos k21, if_pos k49, show x_hc f i = va_up (f (i + 40)) 7 (f (i + 40) 7 - 1) from if_pos k21] at e; rw [q_up_va, e40]; exact e)
      · have k21 : 0 < f (i + 40) 7 := by rw [← e40]; exact Int32.not_le.mp c_21
        refine g_aload_0 (pc := 24) E dX2_handOn_24 ?_
        refine g_getR (pc := 25) E (by first | assumption | rfl) (by first | assumption | rfl) fl_X2_11 rfl (by first | assumption | rfl) dX2_handOn_25 ?_
        refine g_iload_2 (pc := 28) E dX2_handOn_28 ?_
        first | refine g_aald (pc := 29) E (by first | assumption | rfl) (by first | assumption | rfl) dX2_handOn_29 (q_ix_n (by omega)) (by first | assumption | rfl) ?_ | refine g_aaldJ (pc := 29) E (by first | assumption | rfl) (by first | assumption | rfl) dX2_handOn_29 (q_ix_n (by omega)) (by first | assumption | rfl) ?_
        first | refine g_dupi (pc := 30) E dX2_handOn_30 ?_ | refine g_dupr (pc := 30) E dX2_handOn_30 ?_
        refine g_getI (pc := 31) E (by first | assumption | rfl) (by first | assumption | rfl) fl_X2_54 rfl dX2_handOn_31 ?_
        refine g_iconst (pc := 34) (v := 1) E dX2_handOn_34 (by decide) ?_
        refine g_isub (pc := 35) E dX2_handOn_35 ?_
        refine g_putI (pc := 36) E (by first | assumption | rfl) (by first | assumption | rfl) fw_X2_54 rfl dX2_handOn_36 ?_
        refine g_iload_1 (pc := 39) E dX2_handOn_39 ?_
        refine g_aload_0 (pc := 40) E dX2_handOn_40 ?_
        refine g_getR (pc := 41) E (by first | assumption | rfl) (by first | assumption | rfl) fl_X2_11 rfl (by first | assumption | rfl) dX2_handOn_41 ?_
        refine g_iload_2 (pc := 44) E dX2_handOn_44 ?_
        first | refine g_aald (pc := 45) E (by first | assumption | rfl) (by first | assumption | rfl) dX2_handOn_45 (q_ix_n (by omega)) (by first | assumption | rfl) ?_ | refine g_aaldJ (pc := 45) E (by first | assumption | rfl) (by first | assumption | rfl) dX2_handOn_45 (q_ix_n (by omega)) (by first | assumption | rfl) ?_
        refine g_getI (pc := 46) E (by first | assumption | rfl) (by first | assumption | rfl) fl_X2_54 rfl dX2_handOn_46 ?_
        refine g_if_ne (pc := 49) (tgt := 56) E dX2_handOn_49 (by decide) (fun c_49 => ?_) (fun c_49 => ?_)
        · have k49 : ¬ f (i + 40) 7 - 1 = 0 := by rw [q_ups, e40] at c_49; exact c_49
          refine g_iconst (pc := 56) (v := 0) E dX2_handOn_56 (by decide) ?_
          refine g_ior (pc := 57) E dX2_handOn_57 ?_
          refine g_istore_1 (pc := 58) E dX2_handOn_58 (by decide) rfl ?_
          refine g_iinc_2 (pc := 59) (u := 1) E dX2_handOn_59 (by decide) (by decide) rfl ?_
          refine g_goto (pc := 62) (tgt := 4) E dX2_handOn_62 (by decide) ?_
          rw [nI_1]
          have e := ih (by omega)
          rw [x_hv, ← x_cl_s (lo := 40) (f := f) (R := x_hc f) rfl] at e
          first
          | (rw [if_neg k21, show x_hc f i = f (i + 40) from if_neg k21, show va_up (x_cl 40 i f (x_hc f)) (i + 40) (f (i + 40)) = x_cl 40 i f (x_hc f) from by rw [← e40]; exact va_up_id] at e; exact e)
          | (rw [if_pos k21, if_neg k49, show x_hc f i = va_up (f (i + 40)) 7 (f (i + 40) 7 - 1) from if_pos k21] at e; rw [q_up_va, e40]; exact e)
          | (rw [if_pos k21, if_pos k49, show x_hc f i = va_up (f (i + 40)) 7 (f (i + 40) 7 - 1) from if_pos k21] at e; rw [q_up_va, e40]; exact e)
        · have k49 : f (i + 40) 7 - 1 = 0 := by rw [q_ups, e40] at c_49; exact c_49
          refine g_iconst (pc := 52) (v := 1) E dX2_handOn_52 (by decide) ?_
          refine g_goto (pc := 53) (tgt := 57) E dX2_handOn_53 (by decide) ?_
          refine g_ior (pc := 57) E dX2_handOn_57 ?_
          refine g_istore_1 (pc := 58) E dX2_handOn_58 (by decide) rfl ?_
          refine g_iinc_2 (pc := 59) (u := 1) E dX2_handOn_59 (by decide) (by decide) rfl ?_
          refine g_goto (pc := 62) (tgt := 4) E dX2_handOn_62 (by decide) ?_
          rw [nI_1]
          have e := ih (by omega)
          rw [x_hv, ← x_cl_s (lo := 40) (f := f) (R := x_hc f) rfl] at e
          first
          | (rw [if_neg k21, show x_hc f i = f (i + 40) from if_neg k21, show va_up (x_cl 40 i f (x_hc f)) (i + 40) (f (i + 40)) = x_cl 40 i f (x_hc f) from by rw [← e40]; exact va_up_id] at e; exact e)
          | (rw [if_pos k21, if_neg k49, show x_hc f i = va_up (f (i + 40)) 7 (f (i + 40) 7 - 1) from if_pos k21] at e; rw [q_up_va, e40]; exact e)
          | (rw [if_pos k21, if_pos k49, show x_hc f i = va_up (f (i + 40)) 7 (f (i + 40) 7 - 1) from if_pos k21] at e; rw [q_up_va, e40]; exact e)
  refine g_iconst (pc := 0) (v := 0) E dX2_handOn_0 (by decide) ?_
  refine g_istore_1 (pc := 1) E dX2_handOn_1 (by decide) rfl ?_
  refine g_iconst (pc := 2) (v := 0) E dX2_handOn_2 (by decide) ?_
  refine g_istore_2 (pc := 3) E dX2_handOn_3 (by decide) rfl ?_
  have e := L 0 (Nat.zero_le _)
  rw [x_cl_0] at e
  exact e
set_option maxHeartbeats 4000000 in
set_option maxRecDepth 100000 in
theorem c_X7_setOfFrame {n : Nat} {sB tB : Bool} {f : Nat → Nat → Int32} {g : Nat → Nat → Int64} (m : Nat) (hm : f 4 1 = nI m) (hm2 : m ≤ 90) (hfr : ∀ i, i < m → ∃ s : Nat, s < 1024 ∧ f 21 i = nI s) (t : Nat) (ht : f 0 8 = nI t) (ht2 : t ≤ 20000) (hp0 : ¬ f 11 0 = 0) : q_ConI yX7_setOfFrame cX7_setOfFrame 3 (some .int) 1 21 tyX (alX n sB tB) [.ref 0] (f, g, rfX n sB tB) (fun v h' => v = nI (z_cut (fun s => decide (¬ f 11 s = 0)) 10 (z_frm m t (f 21))) ∧ h' = (f, g, rfX n sB tB)) := by
  refine q_Con.of RX7 [some (.ref 0), none, none] (by decide +kernel) rfl rfl (Nat.le_of_ble_eq_true rfl) (fun C ad E Z => ?_)
  have L : ∀ k, k ≤ 10 → ∀ s, s < 1024 → z_cut (fun s => decide (¬ f 11 s = 0)) k s = z_cut (fun s => decide (¬ f 11 s = 0)) 10 (z_frm m t (f 21)) → gg C tyX 3 0 0 (alX n sB tB) ad 37 [some (.ref 0), some (.int (nI s)), some (.int (nI k - 1))] [] (f, g, rfX n sB tB) := by
    intro k
    induction k with
    | zero =>
      intro hk s hs hq
      refine g_iload_2 (pc := 37) E dX7_setOfFrame_37 ?_
      refine g_if_lt (pc := 38) (tgt := 66) E dX7_setOfFrame_38 (by decide) (fun c_38 => ?_) (fun c_38 => ?_)
      · refine g_iload_1 (pc := 66) E dX7_setOfFrame_66 ?_
        exact g_iret (pc := 67) E Z dX7_setOfFrame_67 ⟨_, rfl, ⟨by rw [← hq]; rfl, rfl⟩⟩
      · exact absurd q_m1 c_38
    | succ k ih =>
      intro hk s hs hq
      rw [q_dn]
      have ks : (nI s).toNatClampNeg = s := nI_clamp (by omega)
      have ki : (nI s).toInt = s := nI_toInt (by omega)
      refine g_iload_2 (pc := 37) E dX7_setOfFrame_37 ?_
      refine g_if_lt (pc := 38) (tgt := 66) E dX7_setOfFrame_38 (by decide) (fun c_38 => ?_) (fun c_38 => ?_)
      · exact absurd c_38 (nI_pos (by omega))
      · refine g_aload_0 (pc := 41) E dX7_setOfFrame_41 ?_
        refine g_getR (pc := 42) E (by first | assumption | rfl) (by first | assumption | rfl) fl_X7_19 rfl (by first | assumption | rfl) dX7_setOfFrame_42 ?_
        refine g_iload_1 (pc := 45) E dX7_setOfFrame_45 ?_
        refine g_cVi1 (pc := 46) E (c_X3_has _) cw_X7_276 (by decide) (by decide) (by first | assumption | rfl) (by first | assumption | rfl) (Nat.le_of_ble_eq_true rfl) dX7_setOfFrame_46 (fun v_46 h_46 hp => ?_)
        obtain ⟨rfl, rfl⟩ := hp
        refine g_if_ne (pc := 49) (tgt := 66) E dX7_setOfFrame_49 (by decide) (fun c_49 => ?_) (fun c_49 => ?_)
        · have k_49 := q_b1.mp c_49
          rw [ks] at k_49
          refine g_iload_1 (pc := 66) E dX7_setOfFrame_66 ?_
          exact g_iret (pc := 67) E Z dX7_setOfFrame_67 ⟨_, rfl, ⟨by rw [← hq, z_cut, if_pos (decide_eq_true k_49.2.2)], rfl⟩⟩
        · have k_49 := q_b0.mp c_49
          rw [ks] at k_49
          refine g_iload_1 (pc := 52) E dX7_setOfFrame_52 ?_
          refine g_iconst (pc := 53) (v := 1) E dX7_setOfFrame_53 (by decide) ?_
          refine g_iload_2 (pc := 54) E dX7_setOfFrame_54 ?_
          refine g_ishl (pc := 55) E dX7_setOfFrame_55 ?_
          refine g_iconst (pc := 56) (v := -1) E dX7_setOfFrame_56 (by decide) ?_
          refine g_ixor (pc := 57) E dX7_setOfFrame_57 ?_
          refine g_iand (pc := 58) E dX7_setOfFrame_58 ?_
          refine g_istore_1 (pc := 59) E dX7_setOfFrame_59 (by decide) rfl ?_
          refine g_iinc_2 (pc := 60) (u := -1) E dX7_setOfFrame_60 (by decide) (by decide) rfl ?_
          refine g_goto (pc := 63) (tgt := 37) E dX7_setOfFrame_63 (by decide) ?_
          rw [q_dm, q_clr s hs k (by omega)]
          exact ih (by omega) _ (Nat.lt_of_le_of_lt Nat.and_le_left hs) (by rw [← hq, z_cut, if_neg (fun q => k_49 ⟨by omega, by omega, of_decide_eq_true q⟩)])
  refine g_aload_0 (pc := 0) E dX7_setOfFrame_0 ?_
  refine g_getR (pc := 1) E (by first | assumption | rfl) (by first | assumption | rfl) fl_X7_33 rfl (by first | assumption | rfl) dX7_setOfFrame_1 ?_
  refine g_getI (pc := 4) E (by first | assumption | rfl) (by first | assumption | rfl) fl_X7_150 rfl dX7_setOfFrame_4 ?_
  refine g_iconst (pc := 7) (v := 1) E dX7_setOfFrame_7 (by decide) ?_
  refine g_icmp_ge (pc := 8) (tgt := 13) E dX7_setOfFrame_8 (by decide) (fun c_8 => ?_) (fun c_8 => ?_)
  · have hm0 : 0 < m := by
      have q := c_8
      rw [hm] at q
      exact (nI_leI (a := 1) (b := m) (by omega) (by omega)).mp q
    have hmod : t % m < m := Nat.mod_lt _ hm0
    obtain ⟨s, hs, es⟩ := hfr (t % m) hmod
    have hrem : f 0 8 - f 0 8 / f 4 1 * f 4 1 = nI (t % m) := by rw [ht, hm]; exact pk_rem (by omega) hm0 (by omega)
    have hz : z_frm m t (f 21) = s := by unfold z_frm; rw [if_neg (by omega), es]; exact nI_clamp (by omega)
    refine g_aload_0 (pc := 13) E dX7_setOfFrame_13 ?_
    refine g_getR (pc := 14) E (by first | assumption | rfl) (by first | assumption | rfl) fl_X7_33 rfl (by first | assumption | rfl) dX7_setOfFrame_14 ?_
    refine g_getR (pc := 17) E (by first | assumption | rfl) (by first | assumption | rfl) fl_X7_174 rfl (by first | assumption | rfl) dX7_setOfFrame_17 ?_
    refine g_aload_0 (pc := 20) E dX7_setOfFrame_20 ?_
    refine g_getI (pc := 21) E (by first | assumption | rfl) (by first | assumption | rfl) fl_X7_225 rfl dX7_setOfFrame_21 ?_
    refine g_aload_0 (pc := 24) E dX7_setOfFrame_24 ?_
    refine g_getR (pc := 25) E (by first | assumption | rfl) (by first | assumption | rfl) fl_X7_33 rfl (by first | assumption | rfl) dX7_setOfFrame_25 ?_
    refine g_getI (pc := 28) E (by first | assumption | rfl) (by first | assumption | rfl) fl_X7_150 rfl dX7_setOfFrame_28 ?_
    refine g_irem (pc := 31) E dX7_setOfFrame_31 (by rw [hm]; exact nI_ne0 hm0 (by omega)) ?_
    refine g_iald (pc := 32) E (by first | assumption | rfl) (by first | assumption | rfl) dX7_setOfFrame_32 (q_ix_e (j := t % m) hrem (by omega)) ?_
    refine g_istore_1 (pc := 33) E dX7_setOfFrame_33 (by decide) rfl ?_
    refine g_bipush (pc := 34) (v := 9) E dX7_setOfFrame_34 (by decide) ?_
    refine g_istore_2 (pc := 36) E dX7_setOfFrame_36 (by decide) rfl ?_
    rw [es]
    exact L 10 (Nat.le_refl _) s hs (by rw [hz])
  · have hm0 : m = 0 := by
      rcases Nat.eq_zero_or_pos m with q | q
      · exact q
      · exact absurd (show (1 : Int32) ≤ f 4 1 by rw [hm]; exact nI_le (a := 1) (b := m) q (by omega)) c_8
    have hz : z_frm m t (f 21) = 0 := by unfold z_frm; rw [if_pos hm0]
    refine g_iconst (pc := 11) (v := 0) E dX7_setOfFrame_11 (by decide) ?_
    exact g_iret (pc := 12) E Z dX7_setOfFrame_12 ⟨_, rfl, ⟨by rw [hz, z_cut, if_pos (decide_eq_true hp0)]; rfl, rfl⟩⟩
