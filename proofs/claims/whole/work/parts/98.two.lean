/-! TWO WORLDS IN ONE: the class's names below 100, the reference's from 100, the script's 200 -/
def eL {α : Type} (o : Nat) (u v : Nat → α) : Nat → α := fun x => if o ≤ x ∧ x < o + 100 then u (x - o) else v x
theorem eL_in {α : Type} {o x : Nat} {u v : Nat → α} (h : x < 100) : eL o u v (x + o) = u x := by
  unfold eL
  rw [if_pos (by omega), Nat.add_sub_cancel]
theorem eL_out {α : Type} {o x : Nat} {u v : Nat → α} (h : ¬ (o ≤ x ∧ x < o + 100)) : eL o u v x = v x := if_neg h
theorem eL_comm {α : Type} {u v w : Nat → α} : eL 0 u (eL 100 v w) = eL 100 v (eL 0 u w) := by
  funext x
  by_cases e : x < 100
  · rw [show eL 0 u (eL 100 v w) x = u x from eL_in (o := 0) e, eL_out (by omega), show eL 0 u w x = u x from eL_in (o := 0) e]
  · rw [eL_out (by omega)]
    by_cases e2 : 100 ≤ x ∧ x < 100 + 100
    · obtain ⟨d, rfl⟩ : ∃ d, x = d + 100 := ⟨x - 100, by omega⟩
      rw [eL_in (by omega), eL_in (by omega)]
    · rw [eL_out e2, eL_out e2, eL_out (by omega)]
abbrev eR (o : Nat) (r : Nat → Nat → Option Nat) : Nat → Nat → Option Nat := fun x k => (r x k).map (· + o)
theorem q_R.sub {D : va_G} {ca : FieldType → ClassId} {o : Nat} {tyS tyR : Nat → PT} {al alR : Nat → Bool} {ad : Nat → Nat} {f fR : Nat → Nat → Int32} {g gR : Nat → Nat → Int64} {r rR : Nat → Nat → Option Nat} {H : Heap} (hR : q_R D ca (eL o tyS tyR) (eL o al alR) ad (eL o f fR, eL o g gR, eL o (eR o r) rR) H) (hal : ∀ x, al x = true → x < 100) : q_R D ca tyS al (fun x => ad (x + o)) (f, g, r) H := fun x hx => by
  have hl := hal x hx
  have h0 := hR (x + o) (by rw [eL_in hl]; exact hx)
  rw [eL_in hl] at h0
  have e : q_E ca ad (eL o f fR, eL o g gR, eL o (eR o r) rR) (tyS x) (x + o) = q_E ca (fun x => ad (x + o)) (f, g, r) (tyS x) x := by
    refine q_En (h := (f, g, r)) (h' := (eL o f fR, eL o g gR, eL o (eR o r) rR)) (eL_in hl) (eL_in hl) (fun k => ?_)
    show (eL o (eR o r) rR (x + o) k).map ad = (r x k).map _
    rw [eL_in hl]
    show ((r x k).map (· + o)).map ad = _
    rw [Option.map_map]
    rfl
  rw [e] at h0
  exact h0
theorem q_nor {as : List Value} (h : as.all (q_okv (fun _ => false)) = true) (ad ad2 : Nat → Nat) : as.map (q_cv ad) = as.map (q_cv ad2) :=
  List.map_congr_left (fun v hv => q_okb.v (List.all_eq_true.mp h v hv) (fun a ha => by cases ha))
section LC
variable {cc : ByteArray} {nL kc ks mc ms mc' ms' : Nat} {own : String} {ad : Nat → Nat} {FR LO : Nat} {pc : Nat} {ls : List (Option Value)} {st rest : List Value}
variable {o : Nat} {tyS tyR : Nat → PT} {al alR : Nat → Bool} {f fR : Nat → Nat → Int32} {g gR : Nat → Nat → Int64} {r rR : Nat → Nat → Option Nat} {postN : Option Value → (Nat → Bool) → PH → Prop}
abbrev l_pst (postN : Option Value → (Nat → Bool) → PH → Prop) : Prop := ∀ r2 al2 h', postN r2 al2 h' → (∀ x, al2 x = true → x < 100) ∧ (∀ x k c, h'.2.2 x k = some c → c < 100) ∧ (r2.toList.all (q_okv (fun _ => false)) = true)
abbrev l_rcl (o : Nat) (alR : Nat → Bool) (rR : Nat → Nat → Option Nat) : Prop := ∀ b k c, ¬ (o ≤ b ∧ b < o + 100) → alR b = true → rR b k = some c → ¬ (o ≤ c ∧ c < o + 100)
theorem l_after {p : Program} {l : Launch} {e : Env} {R : Room} {s : State} {m : MethodId} {args : Array Value} {below : List Frame} {meth : Method} {c : Code} {D : va_G} {ca : FieldType → ClassId} {A : Nat → Prop} {Q : State → Prop} {H : Heap} {locs : List Loc} {lsA : Array Slot} {a : Array Value} {st0 : List Value}
    (hr : va_Run p l e R s m args below meth c H locs kc ks mc' ms' (F0 m pc lsA st0) (rest.map (q_cv ad)) (q_QN D ca tyS al (fun x => ad (x + o)) H.size postN a) (q_AN al (fun x => ad (x + o)) H.size)) (E : q_Ev ((p, l, e, R, s), (m, args, below, meth, c), (D, ca, A, Q)) cc nL own (eL o al alR) ad FR LO) (hnew : ∀ q, s.heap.size ≤ q → A q) (hZ : kc + mc' ≤ R.cells ∧ ks + ms' ≤ R.slots) (hR : q_R D ca (eL o tyS tyR) (eL o al alR) ad (eL o f fR, eL o g gR, eL o (eR o r) rR) H) (hS : va_S A s.heap H locs) (hl : q_L ad nL ls lsA) (hal : ∀ x, al x = true → x < 100) (hcl : l_rcl o alR rR) (hv : q_okb (fun c => decide (o ≤ c ∧ c < o + 100 → al (c - o) = true)) ls rest = true) (hp2 : l_pst postN)
    (k : ∀ r2 al2 h', postN r2 al2 h' → ∀ ad2, (∀ x, ¬ (o ≤ x ∧ x < o + 100) → ad2 x = ad x) → q_Ev ((p, l, e, R, s), (m, args, below, meth, c), (D, ca, A, Q)) cc nL own (eL o al2 alR) ad2 FR LO → gg ((p, l, e, R, s), (m, args, below, meth, c), (D, ca, A, Q)) (eL o tyS tyR) nL (kc + mc') (ks + ms') (eL o al2 alR) ad2 (pc + 3) ls (r2.toList ++ rest) (eL o h'.1 fR, eL o h'.2.1 gR, eL o (eR o h'.2.2) rR)) : W p l e R s m args below meth c H locs kc ks Q (F0 m pc lsA st0) := by
  intro T hT X
  obtain ⟨v, st₀, t, T', L, h0, X', hL, e1, e2, ⟨⟨r2, h', al2, adS, hv2, hp, hK, hN, hJ2, hR'⟩, hz, hk⟩, stp⟩ := hr T hT X
  cases hv2
  rw [h0] at hz hk
  obtain ⟨x1, x2, x3, x4, x5, x6, x7, x8, x9⟩ := E
  obtain ⟨a1, a2, a3⟩ := hp2 r2 al2 h' hp
  have hA1 : ∀ x, al x = true → A (ad (x + o)) := fun x hx => x7 (x + o) (by rw [eL_in (hal x hx)]; exact hx)
  have hlt : ∀ b, eL o al alR b = true → ad b < H.size := fun b hb => (hR b hb).lt
  have hAA : ∀ q, q_AN al (fun x => ad (x + o)) H.size q → A q := fun q hq => by
    rcases hq with ⟨b, hb, hq⟩ | hq
    · exact hq ▸ hA1 b hb
    · exact hnew q (Nat.le_trans hS.1 hq)
  have k1 : ∀ x, ¬ (o ≤ x ∧ x < o + 100) → eL o adS ad x = ad x := fun x hx => eL_out hx
  have k2 : ∀ x, x < 100 → eL o adS ad (x + o) = adS x := fun x hx => eL_in hx
  have blk : ∀ b, (o ≤ b ∧ b < o + 100) → ∃ x, x < 100 ∧ b = x + o := fun b hb => ⟨b - o, by omega, by omega⟩
  have apart : ∀ b, ¬ (o ≤ b ∧ b < o + 100) → alR b = true → ∀ x, al2 x = true → ad b ≠ adS x := fun b hb1 hb2 x hx he => by
    have hb3 : eL o al alR b = true := by rw [eL_out hb1]; exact hb2
    rcases hN x hx with q | q
    · rw [(hK x q).2] at he
      have := x6 b (x + o) hb3 (by rw [eL_in (hal x q)]; exact q) he
      have := hal x q
      omega
    · have := hlt b hb3
      omega
  have E2 : q_Ev ((p, l, e, R, s), (m, args, below, meth, c), (D, ca, A, Q)) cc nL own (eL o al2 alR) (eL o adS ad) FR LO := by
    refine ⟨x1, x2, x3, x4, x5, ?_, ?_, x8, x9⟩
    · intro b d hb hd he
      by_cases eb : o ≤ b ∧ b < o + 100
      · obtain ⟨x, hx, rfl⟩ := blk b eb
        rw [eL_in hx] at hb
        rw [k2 x hx] at he
        by_cases ed : o ≤ d ∧ d < o + 100
        · obtain ⟨y, hy, rfl⟩ := blk d ed
          rw [eL_in hy] at hd
          rw [k2 y hy] at he
          rw [hJ2 x y hb hd he]
        · rw [eL_out ed] at hd
          rw [k1 d ed] at he
          exact absurd he.symm (apart d ed hd x hb)
      · rw [eL_out eb] at hb
        rw [k1 b eb] at he
        by_cases ed : o ≤ d ∧ d < o + 100
        · obtain ⟨y, hy, rfl⟩ := blk d ed
          rw [eL_in hy] at hd
          rw [k2 y hy] at he
          exact absurd he (apart b eb hb y hd)
        · rw [eL_out ed] at hd
          rw [k1 d ed] at he
          exact x6 b d (by rw [eL_out eb]; exact hb) (by rw [eL_out ed]; exact hd) he
    · intro b hb
      by_cases eb : o ≤ b ∧ b < o + 100
      · obtain ⟨x, hx, rfl⟩ := blk b eb
        rw [eL_in hx] at hb
        rw [k2 x hx]
        rcases hN x hb with q | q
        · rw [(hK x q).2]; exact hA1 x q
        · exact hnew _ (Nat.le_trans hS.1 q)
      · rw [eL_out eb] at hb
        rw [k1 b eb]
        exact x7 b (by rw [eL_out eb]; exact hb)
  have hkeep : ∀ c, (fun c => decide (o ≤ c ∧ c < o + 100 → al (c - o) = true)) c = true → eL o adS ad c = ad c := fun c hc => by
    have hc := of_decide_eq_true hc
    by_cases eb : o ≤ c ∧ c < o + 100
    · obtain ⟨x, hx, rfl⟩ := blk c eb
      have hx2 := hc eb
      rw [Nat.add_sub_cancel] at hx2
      rw [k2 x hx, (hK x hx2).2]
    · exact k1 c eb
  have hR2 : q_R D ca (eL o tyS tyR) (eL o al2 alR) (eL o adS ad) (eL o h'.1 fR, eL o h'.2.1 gR, eL o (eR o h'.2.2) rR) t.heap := by
    intro b hb
    by_cases eb : o ≤ b ∧ b < o + 100
    · obtain ⟨x, hx, rfl⟩ := blk b eb
      rw [eL_in hx] at hb
      rw [k2 x hx, eL_in hx]
      have e : q_E ca (eL o adS ad) (eL o h'.1 fR, eL o h'.2.1 gR, eL o (eR o h'.2.2) rR) (tyS x) (x + o) = q_E ca adS h' (tyS x) x := by
        refine q_En (h := h') (h' := (eL o h'.1 fR, eL o h'.2.1 gR, eL o (eR o h'.2.2) rR)) (eL_in hx) (eL_in hx) (fun k => ?_)
        show (eL o (eR o h'.2.2) rR (x + o) k).map _ = _
        rw [eL_in hx]
        show ((h'.2.2 x k).map (· + o)).map _ = _
        cases hq : h'.2.2 x k with
        | none => rfl
        | some c => exact congrArg some (k2 c (a2 x k c hq))
      rw [e]
      exact hR' x hb
    · rw [eL_out eb] at hb
      have hb3 : eL o al alR b = true := by rw [eL_out eb]; exact hb
      have h1 := hR b hb3
      rw [k1 b eb]
      have e : q_E ca (eL o adS ad) (eL o h'.1 fR, eL o h'.2.1 gR, eL o (eR o h'.2.2) rR) (eL o tyS tyR b) b = q_E ca ad (eL o f fR, eL o g gR, eL o (eR o r) rR) (eL o tyS tyR b) b := by
        refine q_En (by show eL o h'.1 fR b = eL o f fR b; rw [eL_out eb, eL_out eb]) (by show eL o h'.2.1 gR b = eL o g gR b; rw [eL_out eb, eL_out eb]) (fun k => ?_)
        show (eL o (eR o h'.2.2) rR b k).map _ = (eL o (eR o r) rR b k).map _
        rw [eL_out eb, eL_out eb]
        cases hq : rR b k with
        | none => rfl
        | some c => exact congrArg some (k1 c (hcl b k c eb hb hq))
      rw [e]
      refine h1.kept (hk _ (hlt b hb3) ?_)
      rintro (⟨x, hx, q⟩ | q)
      · have := x6 b (x + o) hb3 (by rw [eL_in (hal x hx)]; exact hx) q
        have := hal x hx
        omega
      · have := hlt b hb3
        omega
  obtain ⟨t2, b1, b2⟩ := k r2 al2 h' hp (eL o adS ad) k1 E2 T'.heap (locs ++ L) lsA hZ (by rw [e1]; exact hR2)
    ⟨Nat.le_trans hS.1 (by rw [e1]; exact hz), fun q h1 h2 => by rw [e1, hk q (Nat.lt_of_lt_of_le h1 hS.1) (fun z => h2 (hAA q z))]; exact hS.2.1 q h1 h2, fun q hq => by
      rcases List.mem_append.mp hq with h | h
      · exact hS.2.2 q h
      · exact hAA _ (hL q h)⟩ (q_okb.ls hv hkeep hl) T' rfl X'
  refine ⟨t2, stp t2 ?_, b2⟩
  rw [List.map_append, q_okb.st hv hkeep, q_nor a3 (eL o adS ad) adS] at b1
  cases r2 <;> exact b1
theorem q_Run_N {p : Program} {l : Launch} {e : Env} {R : Room} {s : State} {m : MethodId} {args : Array Value} {below : List Frame} {meth : Method} {c : Code} {D : va_G} {ca : FieldType → ClassId} {H : Heap} {locs : List Loc} {G0 : JFrame} {rs : List Value} {ty : Nat → PT} {adS : Nat → Nat} {post : Option Value → PH → Prop} {a : Array Value}
    (hJ : q_J al adS) (hr : va_Run p l e R s m args below meth c H locs kc ks 0 0 G0 rs (q_Q D ca ty al adS post a) (q_A al adS)) : va_Run p l e R s m args below meth c H locs kc ks 0 0 G0 rs (q_QN D ca ty al adS H.size (fun r2 al2 h' => al2 = al ∧ post r2 h') a) (q_AN al adS H.size) := by
  intro T hT X
  obtain ⟨v, st₀, t, T', L, h0, X', hL, e1, e2, ⟨⟨r2, h', hv2, hp, hR'⟩, hz, hk⟩, stp⟩ := hr T hT X
  exact ⟨v, st₀, t, T', L, h0, X', fun q hq => Or.inl (hL q hq), e1, e2, ⟨⟨r2, h', al, adS, hv2, ⟨rfl, hp⟩, q_Kp.rf, fun a ha => Or.inl ha, hJ, hR'⟩, hz, fun q h1 h2 => hk q h1 (fun z => h2 (Or.inl z))⟩, stp⟩
variable {C : q_Ctx} {y : MethodName} {cy : ByteArray} {maxL fr lo idx n : Nat} {ret : Option FieldType} {as : List Value}
theorem q_J.sub {al alR : Nat → Bool} {ad : Nat → Nat} {o : Nat} (h : q_J (eL o al alR) ad) (hal : ∀ x, al x = true → x < 100) : q_J al (fun x => ad (x + o)) := fun a b ha hb he => by
  have := h (a + o) (b + o) (by rw [eL_in (hal a ha)]; exact ha) (by rw [eL_in (hal b hb)]; exact hb) he
  omega
theorem l_cIN {a : Nat} (E : q_Ev C cc nL own (eL o al alR) ad FR LO) (V : q_Nv C mc ms) (hC : q_ConN y cy maxL none fr lo mc' ms' tyS al (.ref a :: as) (f, g, r) postN) (hw : q_CI own idx y cy maxL n) (hn : as.length = n) (has : as.all (q_okv (fun _ => false)) = true) (hf1 : fr + 1 ≤ FR) (hf2 : 8 + (maxL + 11) + lo ≤ LO) (hkc : kc + mc' ≤ mc) (hks : ks + ms' ≤ ms) (hdep : (rest.map fun v => v.category).sum ≤ 8) (hal : ∀ x, al x = true → x < 100) (hcl : l_rcl o alR rR) (hv : q_okb (fun c => decide (o ≤ c ∧ c < o + 100 → al (c - o) = true)) ls rest = true) (hp2 : l_pst postN) (hd : decode cc pc = .ok (.invokespecial idx, 3)) (hst : st = as.reverse ++ .ref (a + o) :: rest)
    (k : ∀ r2 al2 h', postN r2 al2 h' → ∀ ad2, (∀ x, ¬ (o ≤ x ∧ x < o + 100) → ad2 x = ad x) → q_Ev C cc nL own (eL o al2 alR) ad2 FR LO → gg C (eL o tyS tyR) nL (kc + mc') (ks + ms') (eL o al2 alR) ad2 (pc + 3) ls (r2.toList ++ rest) (eL o h'.1 fR, eL o h'.2.1 gR, eL o (eR o h'.2.2) rR)) : gg C (eL o tyS tyR) nL kc ks (eL o al alR) ad pc ls st (eL o f fR, eL o g gR, eL o (eR o r) rR) := by
  obtain ⟨⟨p, l, e, R, s⟩, ⟨m, args, below, meth, c⟩, ⟨D, ca, A, Q⟩⟩ := C
  intro H locs lsA hZ hR hS hl
  subst hst
  obtain ⟨v1, v2, v3⟩ := V
  have E' := E
  obtain ⟨hx, hb, hml, hown, hT, hJ, hA, hFR, hLO⟩ := E
  obtain ⟨hlk, hnm, w2, w4, w5, d1, d2, d3⟩ := hw
  have hRS := hR.sub hal
  have hpre : PreS s H (q_PN D ca tyS al (fun x => ad (x + o)) H.size (.ref a :: as) (f, g, r)) (.ref (ad (a + o)) :: as.map (q_cv ad)) := ⟨q_blindN, fun U hU hW => ⟨by rw [List.map_cons, q_nor has (fun x => ad (x + o)) ad]; rfl, by rw [hU], hT.warm hW, by rw [hU]; exact hRS, hJ.sub hal⟩⟩
  have hlen : ∀ sig, parseMethodDescriptor y.desc = some sig → n = sig.parameters.length := fun sig h => by rw [h] at d3; exact (Option.some.inj d3).symm
  have hws : ∀ w ∈ [Cond.code y cy maxL none], ∀ (a' : Array Value) (U : State), s.WarmedH U.vm → w.before a' U = true := fun w hw a' U hW => by
    rw [List.mem_singleton.mp hw]
    exact (hT.warm hW).1 _ w4 rfl _
  have hstk : (as.reverse ++ Value.ref (a + o) :: rest).map (q_cv ad) = (as.map (q_cv ad)).reverse ++ Value.ref (ad (a + o)) :: rest.map (q_cv ad) := by
    rw [List.map_append, List.map_cons, List.map_reverse]; rfl
  have hdp : 2 * (F0 m pc lsA ((as.reverse ++ Value.ref (a + o) :: rest).map (q_cv ad))).monitorRoom + ((rest.map (q_cv ad)).map fun v => v.category).sum ≤ 8 := by
    rw [q_cats]; show 2 * 0 + _ ≤ 8; omega
  have hZ2 : kc + mc' ≤ R.cells ∧ ks + ms' ≤ R.slots := ⟨by omega, by omega⟩
  rcases hlk with hlk | ⟨host, hlk⟩
  · exact l_after (va_runI (Ts := []) ⟨hx, hb, hml, hown, fun w h => by cases h⟩ (hC l D ca (fun x => ad (x + o)) H.size) ⟨⟨rfl, rfl, Nat.le_trans hf1 hFR, Nat.le_trans hf2 hLO, hws, List.mem_singleton.mpr rfl, hT.1 _ w4 rfl _, hT.1 _ w5 rfl _, ⟨d1, d2⟩, hlen, hT.1 _ hlk rfl _⟩, hnm, hT.1 _ w2 rfl _⟩ hpre rfl (by rw [List.length_map]; exact hn) hl.1 hstk hdp hd hZ2) E' v1 hZ2 hR hS hl hal hcl hv hp2 k
  · exact l_after (va_runIN (Ts := []) ⟨hx, hb, hml, hown, fun w h => by cases h⟩ (hC l D ca (fun x => ad (x + o)) H.size) ⟨⟨⟨rfl, rfl, Nat.le_trans hf1 hFR, Nat.le_trans hf2 hLO, hws, List.mem_singleton.mpr rfl⟩, hT.1 _ w4 rfl _, hT.1 _ w5 rfl _, ⟨d1, d2⟩, hlen, hT.1 _ hlk rfl _⟩, hnm, hT.1 _ w2 rfl _⟩ hpre rfl (by rw [List.length_map]; exact hn) hl.1 hstk hdp hd hZ2) E' v1 hZ2 hR hS hl hal hcl hv hp2 k
theorem l_cVN {a ci : Nat} (E : q_Ev C cc nL own (eL o al alR) ad FR LO) (V : q_Nv C mc ms) (hC : q_ConN y cy maxL ret fr lo mc' ms' tyS al (.ref a :: as) (f, g, r) postN) (hw : q_CV own idx ci y cy maxL ret n) (hn : as.length = n) (has : as.all (q_okv (fun _ => false)) = true) (hf1 : fr + 1 ≤ FR) (hf2 : 8 + (maxL + 11) + lo ≤ LO) (hkc : kc + mc' ≤ mc) (hks : ks + ms' ≤ ms) (ha : al a = true) (hty : tyS a = .inr ci) (hdep : (rest.map fun v => v.category).sum ≤ 8) (hal : ∀ x, al x = true → x < 100) (hcl : l_rcl o alR rR) (hv : q_okb (fun c => decide (o ≤ c ∧ c < o + 100 → al (c - o) = true)) ls rest = true) (hp2 : l_pst postN) (hd : decode cc pc = .ok (.invokevirtual idx, 3)) (hst : st = as.reverse ++ .ref (a + o) :: rest)
    (k : ∀ r2 al2 h', postN r2 al2 h' → ∀ ad2, (∀ x, ¬ (o ≤ x ∧ x < o + 100) → ad2 x = ad x) → q_Ev C cc nL own (eL o al2 alR) ad2 FR LO → gg C (eL o tyS tyR) nL (kc + mc') (ks + ms') (eL o al2 alR) ad2 (pc + 3) ls (r2.toList ++ rest) (eL o h'.1 fR, eL o h'.2.1 gR, eL o (eR o h'.2.2) rR)) : gg C (eL o tyS tyR) nL kc ks (eL o al alR) ad pc ls st (eL o f fR, eL o g gR, eL o (eR o r) rR) := by
  obtain ⟨⟨p, l, e, R, s⟩, ⟨m, args, below, meth, c⟩, ⟨D, ca, A, Q⟩⟩ := C
  intro H locs lsA hZ hR hS hl
  subst hst
  obtain ⟨v1, v2, v3⟩ := V
  have E' := E
  obtain ⟨hx, hb, hml, hown, hT, hJ, hA, hFR, hLO⟩ := E
  obtain ⟨⟨Tc, Nc, ok⟩, hlk, w2, w3, w4, w5, d1, d2, d3⟩ := hw
  have hRS := hR.sub hal
  have hP := hRS a ha
  rw [hty] at hP
  obtain ⟨r0, g0, cell, g1, g2, g3, -⟩ := hP
  have hrecv : ∃ cellB : Cell, H[ad (a + o)]? = some cellB ∧ cellB.vm.isStatics = false ∧ s.vm.findClass y.cls = some cellB.cls := ⟨cell, g1, by rw [g3]; rfl, by rw [g2]; exact (hT.2.1 ci _ ok.1).2.1⟩
  have hpre : PreV s H y.cls (ad (a + o)) (q_PN D ca tyS al (fun x => ad (x + o)) H.size (.ref a :: as) (f, g, r)) (as.map (q_cv ad)) := ⟨q_blindN, hrecv, fun U hU hW => ⟨by rw [List.map_cons, q_nor has (fun x => ad (x + o)) ad]; rfl, by rw [hU], hT.warm hW, by rw [hU]; exact hRS, hJ.sub hal⟩⟩
  have hlen : ∀ sig, parseMethodDescriptor y.desc = some sig → n = sig.parameters.length := fun sig h => by rw [h] at d3; exact (Option.some.inj d3).symm
  have hws : ∀ w ∈ [Cond.code y cy maxL ret], ∀ (a' : Array Value) (U : State), s.WarmedH U.vm → w.before a' U = true := fun w hw a' U hW => by
    rw [List.mem_singleton.mp hw]
    exact (hT.warm hW).1 _ w4 rfl _
  have hstk : (as.reverse ++ Value.ref (a + o) :: rest).map (q_cv ad) = (as.map (q_cv ad)).reverse ++ Value.ref (ad (a + o)) :: rest.map (q_cv ad) := by
    rw [List.map_append, List.map_cons, List.map_reverse]; rfl
  have hdp : 2 * (F0 m pc lsA ((as.reverse ++ Value.ref (a + o) :: rest).map (q_cv ad))).monitorRoom + ((rest.map (q_cv ad)).map fun v => v.category).sum ≤ 8 := by
    rw [q_cats]; show 2 * 0 + _ ≤ 8; omega
  have hZ2 : kc + mc' ≤ R.cells ∧ ks + ms' ≤ R.slots := ⟨by omega, by omega⟩
  rcases hlk with hlk | ⟨host, hlk⟩
  · exact l_after (va_runV (Ts := []) (C := y.cls) ⟨hx, hb, hml, hown, fun w h => by cases h⟩ (hC l D ca (fun x => ad (x + o)) H.size) ⟨⟨rfl, rfl, Nat.le_trans hf1 hFR, Nat.le_trans hf2 hLO, hws, List.mem_singleton.mpr rfl, hT.1 _ w4 rfl _, hT.1 _ w5 rfl _, ⟨d1, d2⟩, hlen, hT.1 _ hlk rfl _⟩, hT.1 _ w2 rfl _, hT.1 _ w3 rfl _⟩ hpre rfl (by rw [List.length_map]; exact hn) hl.1 hstk hdp hd hZ2) E' v1 hZ2 hR hS hl hal hcl hv hp2 k
  · exact l_after (va_runVN (Ts := []) (C := y.cls) ⟨hx, hb, hml, hown, fun w h => by cases h⟩ (hC l D ca (fun x => ad (x + o)) H.size) ⟨⟨⟨rfl, rfl, Nat.le_trans hf1 hFR, Nat.le_trans hf2 hLO, hws, List.mem_singleton.mpr rfl⟩, hT.1 _ w4 rfl _, hT.1 _ w5 rfl _, ⟨d1, d2⟩, hlen, hT.1 _ hlk rfl _⟩, hT.1 _ w2 rfl _, hT.1 _ w3 rfl _⟩ hpre rfl (by rw [List.length_map]; exact hn) hl.1 hstk hdp hd hZ2) E' v1 hZ2 hR hS hl hal hcl hv hp2 k
theorem l_cV {a ci : Nat} {post : Option Value → PH → Prop} (E : q_Ev C cc nL own (eL o al alR) ad FR LO) (V : q_Nv C mc ms) (hC : q_Con y cy maxL ret fr lo tyS al (.ref a :: as) (f, g, r) post) (hw : q_CV own idx ci y cy maxL ret n) (hn : as.length = n) (has : as.all (q_okv (fun _ => false)) = true) (hf1 : fr + 1 ≤ FR) (hf2 : 8 + (maxL + 11) + lo ≤ LO) (ha : al a = true) (hty : tyS a = .inr ci) (hdep : (rest.map fun v => v.category).sum ≤ 8) (hal : ∀ x, al x = true → x < 100) (hcl : l_rcl o alR rR) (hv : q_okb (fun c => decide (o ≤ c ∧ c < o + 100 → al (c - o) = true)) ls rest = true) (hp2 : ∀ r2 h', post r2 h' → (∀ x k c, h'.2.2 x k = some c → c < 100) ∧ (r2.toList.all (q_okv (fun _ => false)) = true)) (hd : decode cc pc = .ok (.invokevirtual idx, 3)) (hst : st = as.reverse ++ .ref (a + o) :: rest)
    (k : ∀ r2 h', post r2 h' → ∀ ad2, (∀ x, ¬ (o ≤ x ∧ x < o + 100) → ad2 x = ad x) → q_Ev C cc nL own (eL o al alR) ad2 FR LO → gg C (eL o tyS tyR) nL kc ks (eL o al alR) ad2 (pc + 3) ls (r2.toList ++ rest) (eL o h'.1 fR, eL o h'.2.1 gR, eL o (eR o h'.2.2) rR)) : gg C (eL o tyS tyR) nL kc ks (eL o al alR) ad pc ls st (eL o f fR, eL o g gR, eL o (eR o r) rR) := by
  obtain ⟨⟨p, l, e, R, s⟩, ⟨m, args, below, meth, c⟩, ⟨D, ca, A, Q⟩⟩ := C
  intro H locs lsA hZ hR hS hl
  subst hst
  obtain ⟨v1, v2, v3⟩ := V
  have E' := E
  obtain ⟨hx, hb, hml, hown, hT, hJ, hA, hFR, hLO⟩ := E
  obtain ⟨⟨Tc, Nc, ok⟩, hlk, w2, w3, w4, w5, d1, d2, d3⟩ := hw
  have hRS := hR.sub hal
  have hP := hRS a ha
  rw [hty] at hP
  obtain ⟨r0, g0, cell, g1, g2, g3, -⟩ := hP
  have hrecv : ∃ cellB : Cell, H[ad (a + o)]? = some cellB ∧ cellB.vm.isStatics = false ∧ s.vm.findClass y.cls = some cellB.cls := ⟨cell, g1, by rw [g3]; rfl, by rw [g2]; exact (hT.2.1 ci _ ok.1).2.1⟩
  have hpre : PreV s H y.cls (ad (a + o)) (q_P D ca tyS al (fun x => ad (x + o)) (.ref a :: as) (f, g, r)) (as.map (q_cv ad)) := ⟨q_blind, hrecv, fun U hU hW => ⟨by rw [List.map_cons, q_nor has (fun x => ad (x + o)) ad]; rfl, hT.warm hW, by rw [hU]; exact hRS, hJ.sub hal⟩⟩
  have hlen : ∀ sig, parseMethodDescriptor y.desc = some sig → n = sig.parameters.length := fun sig h => by rw [h] at d3; exact (Option.some.inj d3).symm
  have hws : ∀ w ∈ [Cond.code y cy maxL ret], ∀ (a' : Array Value) (U : State), s.WarmedH U.vm → w.before a' U = true := fun w hw a' U hW => by
    rw [List.mem_singleton.mp hw]
    exact (hT.warm hW).1 _ w4 rfl _
  have hstk : (as.reverse ++ Value.ref (a + o) :: rest).map (q_cv ad) = (as.map (q_cv ad)).reverse ++ Value.ref (ad (a + o)) :: rest.map (q_cv ad) := by
    rw [List.map_append, List.map_cons, List.map_reverse]; rfl
  have hdp : 2 * (F0 m pc lsA ((as.reverse ++ Value.ref (a + o) :: rest).map (q_cv ad))).monitorRoom + ((rest.map (q_cv ad)).map fun v => v.category).sum ≤ 8 := by
    rw [q_cats]; show 2 * 0 + _ ≤ 8; omega
  have hp3 : l_pst (fun r2 al2 h' => al2 = al ∧ post r2 h') := fun r2 al2 h' hp => ⟨by rw [hp.1]; exact hal, (hp2 r2 h' hp.2).1, (hp2 r2 h' hp.2).2⟩
  have kk : ∀ r2 al2 h', (al2 = al ∧ post r2 h') → ∀ ad2, (∀ x, ¬ (o ≤ x ∧ x < o + 100) → ad2 x = ad x) → q_Ev ((p, l, e, R, s), (m, args, below, meth, c), (D, ca, A, Q)) cc nL own (eL o al2 alR) ad2 FR LO → gg ((p, l, e, R, s), (m, args, below, meth, c), (D, ca, A, Q)) (eL o tyS tyR) nL (kc + 0) (ks + 0) (eL o al2 alR) ad2 (pc + 3) ls (r2.toList ++ rest) (eL o h'.1 fR, eL o h'.2.1 gR, eL o (eR o h'.2.2) rR) := fun r2 al2 h' hp ad2 q1 q2 => by
    obtain ⟨rfl, hp⟩ := hp
    exact k r2 h' hp ad2 q1 q2
  rcases hlk with hlk | ⟨host, hlk⟩
  · exact l_after (q_Run_N (hJ.sub hal) (va_runV (Ts := []) (C := y.cls) ⟨hx, hb, hml, hown, fun w h => by cases h⟩ (hC l D ca (fun x => ad (x + o))) ⟨⟨rfl, rfl, Nat.le_trans hf1 hFR, Nat.le_trans hf2 hLO, hws, List.mem_singleton.mpr rfl, hT.1 _ w4 rfl _, hT.1 _ w5 rfl _, ⟨d1, d2⟩, hlen, hT.1 _ hlk rfl _⟩, hT.1 _ w2 rfl _, hT.1 _ w3 rfl _⟩ hpre rfl (by rw [List.length_map]; exact hn) hl.1 hstk hdp hd hZ)) E' v1 hZ hR hS hl hal hcl hv hp3 kk
  · exact l_after (q_Run_N (hJ.sub hal) (va_runVN (Ts := []) (C := y.cls) ⟨hx, hb, hml, hown, fun w h => by cases h⟩ (hC l D ca (fun x => ad (x + o))) ⟨⟨⟨rfl, rfl, Nat.le_trans hf1 hFR, Nat.le_trans hf2 hLO, hws, List.mem_singleton.mpr rfl⟩, hT.1 _ w4 rfl _, hT.1 _ w5 rfl _, ⟨d1, d2⟩, hlen, hT.1 _ hlk rfl _⟩, hT.1 _ w2 rfl _, hT.1 _ w3 rfl _⟩ hpre rfl (by rw [List.length_map]; exact hn) hl.1 hstk hdp hd hZ)) E' v1 hZ hR hS hl hal hcl hv hp3 kk
end LC
