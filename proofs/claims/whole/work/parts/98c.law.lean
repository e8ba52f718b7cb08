/-! the law's rows -/
abbrev tyW : Nat → PT := eL 0 tyX (eL 100 tyM (fun _ => .inr 0))
abbrev alW (al : Nat → Bool) : Nat → Bool := eL 0 al (eL 100 alM (fun _ => false))
abbrev hW (hx hm : PH) : PH := (eL 0 hx.1 (eL 100 hm.1 (fun _ _ => 0)), eL 0 hx.2.1 (eL 100 hm.2.1 (fun _ _ => 0)), eL 0 (eR 0 hx.2.2) (eL 100 (eR 100 hm.2.2) (fun _ _ => none)))
theorem rfM_lt {x k c : Nat} (h : rfM x k = some c) : c < 100 := by
  unfold rfM at h
  split at h
  · rename_i q
    cases h
    simp only [Bool.and_eq_true] at q
    have := alM_lt k q.1.2
    omega
  · cases h
theorem rfX_lt {n : Nat} {sB tB : Bool} (h10 : n ≤ 10) {x k c : Nat} (h : rfX n sB tB x k = some c) : c < 100 := by
  by_cases h15 : 15 ≤ x
  · rw [rfX_d h15] at h
    split at h
    · cases h; omega
    · cases h
  · match x, h15, h with
    | 0, _, h =>
      match k, h with
      | 0, h => cases h; decide
      | 1, h => cases h; decide
      | 2, h => cases h; decide
      | 3, h => cases h; decide
      | 4, h =>
        have h : (if sB = true then some 5 else none) = some c := h
        split at h
        · cases h; decide
        · cases h
      | 5, h =>
        have h : (if tB = true then some 6 else none) = some c := h
        split at h
        · cases h; decide
        · cases h
      | 6, h => cases h; decide
      | k + 7, h => cases h
    | 1, _, h =>
      match k, h with
      | 0, h => cases h; decide
      | 1, h => cases h
      | 2, h => cases h; decide
      | 3, h => cases h; decide
      | k + 4, h => cases h
    | 2, _, h =>
      match k, h with
      | 0, h => cases h; decide
      | 1, h => cases h; decide
      | 2, h => cases h
      | 3, h => cases h; decide
      | k + 4, h => cases h
    | 3, _, h =>
      match k, h with
      | 0, h => cases h; decide
      | 1, h => cases h; decide
      | 2, h => cases h; decide
      | k + 3, h => cases h
    | 4, _, h =>
      match k, h with
      | 0, h => cases h; decide
      | k + 1, h => cases h
    | 5, _, h =>
      match k, h with
      | 0, h => cases h; decide
      | 1, h => cases h; decide
      | 2, h => cases h
      | 3, h => cases h; decide
      | 4, h => cases h; decide
      | 5, h => cases h; decide
      | 6, h => cases h; decide
      | k + 7, h => cases h
    | 6, _, h =>
      match k, h with
      | 0, h => cases h; decide
      | 1, h => cases h; decide
      | 2, h => cases h; decide
      | 3, h => cases h; decide
      | 4, h => cases h; decide
      | k + 5, h => cases h
    | 7, _, h => exact absurd h (by show ¬ (if 40 ≤ 7 ∧ 7 < 60 ∧ k = 9 then some (7 + 20) else none) = some c; rw [if_neg (by omega)]; simp)
    | 8, _, h =>
      have h : (if k < n then some (k + 40) else none) = some c := h
      split at h
      · cases h; omega
      · cases h
    | 9, _, h => exact absurd h (by show ¬ (if 40 ≤ 9 ∧ 9 < 60 ∧ k = 9 then some (9 + 20) else none) = some c; rw [if_neg (by omega)]; simp)
    | 10, _, h => exact absurd h (by show ¬ (if 40 ≤ 10 ∧ 10 < 60 ∧ k = 9 then some (10 + 20) else none) = some c; rw [if_neg (by omega)]; simp)
    | 11, _, h => exact absurd h (by show ¬ (if 40 ≤ 11 ∧ 11 < 60 ∧ k = 9 then some (11 + 20) else none) = some c; rw [if_neg (by omega)]; simp)
    | 12, _, h => exact absurd h (by show ¬ (if 40 ≤ 12 ∧ 12 < 60 ∧ k = 9 then some (12 + 20) else none) = some c; rw [if_neg (by omega)]; simp)
    | 13, _, h => exact absurd h (by show ¬ (if 40 ≤ 13 ∧ 13 < 60 ∧ k = 9 then some (13 + 20) else none) = some c; rw [if_neg (by omega)]; simp)
    | 14, _, h =>
      have h : (if k < 4 then some (k + 15) else none) = some c := h
      split at h
      · cases h; omega
      · cases h
    | b + 15, h, _ => exact absurd (by omega) h
/-- the other world refers to itself alone -/
theorem l_rclX {rm : Nat → Nat → Option Nat} : l_rcl 0 (eL 100 alM (fun _ => false)) (eL 100 (eR 100 rm) (fun _ _ => none)) := by
  intro b k c hb _ hr
  by_cases e : 100 ≤ b ∧ b < 100 + 100
  · obtain ⟨d, rfl⟩ : ∃ d, b = d + 100 := ⟨b - 100, by omega⟩
    rw [eL_in (by omega)] at hr
    obtain ⟨x, -, rfl⟩ := Option.map_eq_some_iff.mp hr
    omega
  · rw [eL_out e] at hr; cases hr
theorem l_rclM {al : Nat → Bool} {rx : Nat → Nat → Option Nat} (hr : ∀ x k c, rx x k = some c → c < 100) : l_rcl 100 (eL 0 al (fun _ => false)) (eL 0 (eR 0 rx) (fun _ _ => none)) := by
  intro b k c hb _ h
  by_cases e : 0 ≤ b ∧ b < 0 + 100
  · rw [show eL 0 (eR 0 rx) (fun _ _ => none) b = eR 0 rx b from eL_in (o := 0) (by omega)] at h
    obtain ⟨x, hx, rfl⟩ := Option.map_eq_some_iff.mp h
    have := hr b k x hx
    omega
  · rw [eL_out e] at h; cases h
section LW
variable {C : q_Ctx} {cc : ByteArray} {nL kc ks mc ms mc' ms' : Nat} {own : String} {ad : Nat → Nat} {FR LO : Nat} {pc : Nat} {ls : List (Option Value)} {st rest : List Value} {al : Nat → Bool} {hx hm : PH}
variable {y : MethodName} {cy : ByteArray} {maxL fr lo idx n ci : Nat} {ret : Option FieldType} {as : List Value}
theorem l_X {post : Option Value → PH → Prop} (E : q_Ev C cc nL own (alW al) ad FR LO) (V : q_Nv C mc ms) (hC : q_Con y cy maxL ret fr lo tyX al (.ref 0 :: as) hx post) (hw : q_CV own idx 7 y cy maxL ret n) (hn : as.length = n) (has : as.all (q_okv (fun _ => false)) = true) (hf1 : fr + 1 ≤ FR) (hf2 : 8 + (maxL + 11) + lo ≤ LO) (h0 : al 0 = true) (hdep : (rest.map fun v => v.category).sum ≤ 8) (hal : ∀ x, al x = true → x < 100) (hv : q_okb (fun c => decide (0 ≤ c ∧ c < 0 + 100 → al (c - 0) = true)) ls rest = true) (hp2 : ∀ r2 h', post r2 h' → (∀ x k c, h'.2.2 x k = some c → c < 100) ∧ (r2.toList.all (q_okv (fun _ => false)) = true)) (hd : decode cc pc = .ok (.invokevirtual idx, 3)) (hst : st = as.reverse ++ .ref 0 :: rest)
    (k : ∀ r2 h', post r2 h' → ∀ ad2, ad2 200 = ad 200 → q_Ev C cc nL own (alW al) ad2 FR LO → gg C tyW nL kc ks (alW al) ad2 (pc + 3) ls (r2.toList ++ rest) (hW h' hm)) : gg C tyW nL kc ks (alW al) ad pc ls st (hW hx hm) := by
  obtain ⟨fx, gx, rx⟩ := hx
  exact l_cV (o := 0) E V hC hw hn has hf1 hf2 h0 rfl hdep hal l_rclX hv hp2 hd hst (fun r2 h' hp ad2 q E2 => k r2 h' hp ad2 (q 200 (by omega)) E2)
theorem l_XN {postN : Option Value → (Nat → Bool) → PH → Prop} (E : q_Ev C cc nL own (alW al) ad FR LO) (V : q_Nv C mc ms) (hC : q_ConN y cy maxL ret fr lo mc' ms' tyX al (.ref 0 :: as) hx postN) (hw : q_CV own idx 7 y cy maxL ret n) (hn : as.length = n) (has : as.all (q_okv (fun _ => false)) = true) (hf1 : fr + 1 ≤ FR) (hf2 : 8 + (maxL + 11) + lo ≤ LO) (hkc : kc + mc' ≤ mc) (hks : ks + ms' ≤ ms) (h0 : al 0 = true) (hdep : (rest.map fun v => v.category).sum ≤ 8) (hal : ∀ x, al x = true → x < 100) (hv : q_okb (fun c => decide (0 ≤ c ∧ c < 0 + 100 → al (c - 0) = true)) ls rest = true) (hp2 : l_pst postN) (hd : decode cc pc = .ok (.invokevirtual idx, 3)) (hst : st = as.reverse ++ .ref 0 :: rest)
    (k : ∀ r2 al2 h', postN r2 al2 h' → ∀ ad2, ad2 200 = ad 200 → q_Ev C cc nL own (alW al2) ad2 FR LO → gg C tyW nL (kc + mc') (ks + ms') (alW al2) ad2 (pc + 3) ls (r2.toList ++ rest) (hW h' hm)) : gg C tyW nL kc ks (alW al) ad pc ls st (hW hx hm) := by
  obtain ⟨fx, gx, rx⟩ := hx
  exact l_cVN (o := 0) E V hC hw hn has hf1 hf2 hkc hks h0 rfl hdep hal l_rclX hv hp2 hd hst (fun r2 al2 h' hp ad2 q E2 => k r2 al2 h' hp ad2 (q 200 (by omega)) E2)
theorem l_XI {postN : Option Value → (Nat → Bool) → PH → Prop} (V : q_Nv C mc ms) (hC : q_ConN y cy maxL none fr lo mc' ms' tyX al (.ref 0 :: as) hx postN) (hw : q_CI own idx y cy maxL n) (hn : as.length = n) (has : as.all (q_okv (fun _ => false)) = true) (hf1 : fr + 1 ≤ FR) (hf2 : 8 + (maxL + 11) + lo ≤ LO) (hkc : kc + mc' ≤ mc) (hks : ks + ms' ≤ ms) (hdep : (rest.map fun v => v.category).sum ≤ 8) (hal : ∀ x, al x = true → x < 100) {alR : Nat → Bool} {fR : Nat → Nat → Int32} {gR : Nat → Nat → Int64} {rR : Nat → Nat → Option Nat} {tyR : Nat → PT} (E : q_Ev C cc nL own (eL 0 al alR) ad FR LO) (hcl : l_rcl 0 alR rR) (hv : q_okb (fun c => decide (0 ≤ c ∧ c < 0 + 100 → al (c - 0) = true)) ls rest = true) (hp2 : l_pst postN) (hd : decode cc pc = .ok (.invokespecial idx, 3)) (hst : st = as.reverse ++ .ref 0 :: rest)
    (k : ∀ r2 al2 h', postN r2 al2 h' → ∀ ad2, ad2 200 = ad 200 → q_Ev C cc nL own (eL 0 al2 alR) ad2 FR LO → gg C (eL 0 tyX tyR) nL (kc + mc') (ks + ms') (eL 0 al2 alR) ad2 (pc + 3) ls (r2.toList ++ rest) (eL 0 h'.1 fR, eL 0 h'.2.1 gR, eL 0 (eR 0 h'.2.2) rR)) : gg C (eL 0 tyX tyR) nL kc ks (eL 0 al alR) ad pc ls st (eL 0 hx.1 fR, eL 0 hx.2.1 gR, eL 0 (eR 0 hx.2.2) rR) := by
  obtain ⟨fx, gx, rx⟩ := hx
  exact l_cIN (o := 0) E V hC hw hn has hf1 hf2 hkc hks hdep hal hcl hv hp2 hd hst (fun r2 al2 h' hp ad2 q E2 => k r2 al2 h' hp ad2 (q 200 (by omega)) E2)
theorem l_MI {postN : Option Value → (Nat → Bool) → PH → Prop} {alS : Nat → Bool} (E : q_Ev C cc nL own (eL 0 al (eL 100 alS (fun _ => false))) ad FR LO) (V : q_Nv C mc ms) (hC : q_ConN y cy maxL none fr lo mc' ms' tyM alS (.ref 0 :: as) hm postN) (hw : q_CI own idx y cy maxL n) (hn : as.length = n) (has : as.all (q_okv (fun _ => false)) = true) (hf1 : fr + 1 ≤ FR) (hf2 : 8 + (maxL + 11) + lo ≤ LO) (hkc : kc + mc' ≤ mc) (hks : ks + ms' ≤ ms) (hdep : (rest.map fun v => v.category).sum ≤ 8) (hal : ∀ x, alS x = true → x < 100) (hrx : ∀ x k c, hx.2.2 x k = some c → c < 100) (hv : q_okb (fun c => decide (100 ≤ c ∧ c < 100 + 100 → alS (c - 100) = true)) ls rest = true) (hp2 : l_pst postN) (hd : decode cc pc = .ok (.invokespecial idx, 3)) (hst : st = as.reverse ++ .ref 100 :: rest)
    (k : ∀ r2 al2 h', postN r2 al2 h' → ∀ ad2, ad2 200 = ad 200 → q_Ev C cc nL own (eL 0 al (eL 100 al2 (fun _ => false))) ad2 FR LO → gg C tyW nL (kc + mc') (ks + ms') (eL 0 al (eL 100 al2 (fun _ => false))) ad2 (pc + 3) ls (r2.toList ++ rest) (hW hx h')) : gg C tyW nL kc ks (eL 0 al (eL 100 alS (fun _ => false))) ad pc ls st (hW hx hm) := by
  obtain ⟨fm, gm, rm⟩ := hm
  have e1 : ∀ v : Nat → Bool, eL 0 al (eL 100 v (fun _ => false)) = eL 100 v (eL 0 al (fun _ => false)) := fun v => eL_comm
  have e2 : tyW = eL 100 tyM (eL 0 tyX (fun _ => .inr 0)) := eL_comm
  have e3 : ∀ h' : PH, hW hx h' = (eL 100 h'.1 (eL 0 hx.1 (fun _ _ => 0)), eL 100 h'.2.1 (eL 0 hx.2.1 (fun _ _ => 0)), eL 100 (eR 100 h'.2.2) (eL 0 (eR 0 hx.2.2) (fun _ _ => none))) := fun h' => by
    show (_, _, _) = (_, _, _)
    rw [eL_comm (u := hx.1), eL_comm (u := hx.2.1), eL_comm (u := eR 0 hx.2.2)]
  rw [e1] at E ⊢
  rw [e2, e3]
  exact l_cIN (o := 100) E V hC hw hn has hf1 hf2 hkc hks hdep hal (l_rclM hrx) hv hp2 hd hst (fun r2 al2 h' hp ad2 q E2 => by
    have K := k r2 al2 h' hp ad2 (q 200 (by omega)) (by rw [e1]; exact E2)
    rw [e1, e2, e3] at K
    exact K)
theorem l_M {post : Option Value → PH → Prop} (E : q_Ev C cc nL own (alW al) ad FR LO) (V : q_Nv C mc ms) (hC : q_Con y cy maxL ret fr lo tyM alM (.ref 0 :: as) hm post) (hw : q_CV own idx 8 y cy maxL ret n) (hn : as.length = n) (has : as.all (q_okv (fun _ => false)) = true) (hf1 : fr + 1 ≤ FR) (hf2 : 8 + (maxL + 11) + lo ≤ LO) (hdep : (rest.map fun v => v.category).sum ≤ 8) (hrx : ∀ x k c, hx.2.2 x k = some c → c < 100) (hv : q_okb (fun c => decide (100 ≤ c ∧ c < 100 + 100 → alM (c - 100) = true)) ls rest = true) (hp2 : ∀ r2 h', post r2 h' → (∀ x k c, h'.2.2 x k = some c → c < 100) ∧ (r2.toList.all (q_okv (fun _ => false)) = true)) (hd : decode cc pc = .ok (.invokevirtual idx, 3)) (hst : st = as.reverse ++ .ref 100 :: rest)
    (k : ∀ r2 h', post r2 h' → ∀ ad2, ad2 200 = ad 200 → q_Ev C cc nL own (alW al) ad2 FR LO → gg C tyW nL kc ks (alW al) ad2 (pc + 3) ls (r2.toList ++ rest) (hW hx h')) : gg C tyW nL kc ks (alW al) ad pc ls st (hW hx hm) := by
  obtain ⟨fm, gm, rm⟩ := hm
  have e1 : alW al = eL 100 alM (eL 0 al (fun _ => false)) := eL_comm
  have e2 : tyW = eL 100 tyM (eL 0 tyX (fun _ => .inr 0)) := eL_comm
  have e3 : ∀ h' : PH, hW hx h' = (eL 100 h'.1 (eL 0 hx.1 (fun _ _ => 0)), eL 100 h'.2.1 (eL 0 hx.2.1 (fun _ _ => 0)), eL 100 (eR 100 h'.2.2) (eL 0 (eR 0 hx.2.2) (fun _ _ => none))) := fun h' => by
    show (_, _, _) = (_, _, _)
    rw [eL_comm (u := hx.1), eL_comm (u := hx.2.1), eL_comm (u := eR 0 hx.2.2)]
  rw [e1] at E k ⊢
  rw [e2] at k ⊢
  rw [e3]
  exact l_cV (o := 100) E V hC hw hn has hf1 hf2 rfl rfl hdep (fun x hx => by have := alM_lt x hx; omega) (l_rclM hrx) hv hp2 hd hst (fun r2 h' hp ad2 q E2 => by rw [← e3]; exact k r2 h' hp ad2 (q 200 (by omega)) E2)
/-- the script -/
def q_Sc (C : q_Ctx) (b L : Nat) (xs : Nat → Int32) : Prop := match C with
  | ((p, l, e, R, s), (m, args, below, meth, c), (D, ca, A, Q)) => va_X b L xs s s.heap ∧ b < s.heap.size ∧ ¬ A b
theorem g_sld {ty : Nat → PT} {alC : Nat → Bool} {h : PH} {b L : Nat} {xs : Nat → Int32} {i : Int32} (E : q_Ev C cc nL own alC ad FR LO) (S : q_Sc C b L xs) (hb : ad 200 = b) (hin : vp_in i L) (hd : decode cc pc = .ok (.iaload, 1)) (k : gg C ty nL kc ks alC ad (pc + 1) ls (.int (xs i.toNatClampNeg) :: st) h) : gg C ty nL kc ks alC ad pc ls (.int i :: .ref 200 :: st) h := by
  obtain ⟨⟨p, l, e, R, s⟩, ⟨m, args, below, meth, c⟩, ⟨D, ca, A, Q⟩⟩ := C
  intro H locs lsA hZ hR hS hl
  have K := k H locs lsA hZ hR hS hl
  show W _ _ _ _ _ _ _ _ _ _ _ _ _ _ _ (F0 m pc lsA (.int i :: .ref (ad 200) :: st.map (q_cv ad)))
  rw [hb]
  exact va_sld E.1 E.2.1 S.1 S.2.1 S.2.2 hS hin hd K
theorem g_slen {ty : Nat → PT} {alC : Nat → Bool} {h : PH} {b L : Nat} {xs : Nat → Int32} (E : q_Ev C cc nL own alC ad FR LO) (S : q_Sc C b L xs) (hb : ad 200 = b) (hd : decode cc pc = .ok (.arraylength, 1)) (k : gg C ty nL kc ks alC ad (pc + 1) ls (.int (nI L) :: st) h) : gg C ty nL kc ks alC ad pc ls (.ref 200 :: st) h := by
  obtain ⟨⟨p, l, e, R, s⟩, ⟨m, args, below, meth, c⟩, ⟨D, ca, A, Q⟩⟩ := C
  intro H locs lsA hZ hR hS hl
  have K := k H locs lsA hZ hR hS hl
  show W _ _ _ _ _ _ _ _ _ _ _ _ _ _ _ (F0 m pc lsA (.ref (ad 200) :: st.map (q_cv ad)))
  rw [hb]
  exact va_slen E.1 E.2.1 S.1 S.2.1 S.2.2 hS hd K
theorem g_wide {ty : Nat → PT} {alC : Nat → Bool} {h : PH} {kc2 ks2 : Nat} (V : q_Nv C mc ms) (h1 : kc ≤ kc2) (h2 : ks ≤ ks2) (h3 : kc2 ≤ mc) (h4 : ks2 ≤ ms) (k : gg C ty nL kc2 ks2 alC ad pc ls st h) : gg C ty nL kc ks alC ad pc ls st h := by
  obtain ⟨⟨p, l, e, R, s⟩, ⟨m, args, below, meth, c⟩, ⟨D, ca, A, Q⟩⟩ := C
  obtain ⟨v1, v2, v3⟩ := V
  exact fun H locs lsA hZ hR hS hl => W.widen h1 h2 (k H locs lsA ⟨by omega, by omega⟩ hR hS hl)
end LW
/-- the law's end -/
def q_Zl (C : q_Ctx) (b : Nat) : Prop := match C with
  | ((p, l, e, R, s), (m, args, below, meth, c), (D, ca, A, Q)) => meth.sig.returnType = ret ∧ meth.locks = false ∧ R = room_1 ∧ args = #[Value.ref b] ∧ Q = lw_Z below #[Value.ref b] s ∧ (∀ q, A q → s.heap.size ≤ q)
theorem g_law {C : q_Ctx} {nL kc ks : Nat} {own : String} {ad : Nat → Nat} {FR LO pc : Nat} {ls : List (Option Value)} {ty : Nat → PT} {alC : Nat → Bool} {h : PH} {b : Nat} (E : q_Ev C cL_law nL own alC ad FR LO) (Z : q_Zl C b) (hkc : kc ≤ 600000) (hks : ks ≤ 7302250) (hd : decode cL_law pc = .ok (.ireturn, 1)) : gg C ty nL kc ks alC ad pc ls [.int 1] h := by
  obtain ⟨⟨p, l, e, R, s⟩, ⟨m, args, below, meth, c⟩, ⟨D, ca, A, Q⟩⟩ := C
  obtain ⟨z1, z2, z3, z4, z5, z6⟩ := Z
  subst z3; subst z4; subst z5
  exact fun H locs lsA hZ hR hS hl => va_forget (fun q hq => z6 _ (hS.2.2 q hq)) (W.widen hkc hks (lw_ret E.1 E.2.1 z1 z2 hd))
