/-! the law from its start -/
section GL
variable {C : q_Ctx} {ty : Nat → PT} {cc : ByteArray} {nL kc ks mc ms : Nat} {own : String} {al : Nat → Bool} {ad : Nat → Nat} {FR LO : Nat} {pc : Nat} {ls : List (Option Value)} {st : List Value} {f : Nat → Nat → Int32} {g : Nat → Nat → Int64} {r : Nat → Nat → Option Nat}
theorem g_newL {a ci idx N : Nat} {Cn : String} {T : u_T} (E : q_Ev C cc nL own al ad FR LO) (V : q_Nv C mc ms) (hnf : (List.range N).all (fun j => q_nf (q_ft ci j)) = true) (hok : q_ok ci Cn T N) (hkl : Cond.classLink own idx Cn ∈ lw_tbl) (hin : Cond.instantiable Cn N ∈ lw_tbl) (hit : Cond.initialized Cn ∈ lw_tbl) (hfr : al a = false) (hcl : q_cl al r) (hty : ty a = .inr ci) (hv : q_okb (fun b => decide (b ≠ a)) ls st = true) (hkc : kc + 1 ≤ mc) (hks : ks + N ≤ ms) (hd : decode cc pc = .ok (.new idx, 3))
    (k : ∀ q, q_Ev C cc nL own (va_up al a true) (va_up ad a q) FR LO → gg C ty nL (kc + 1) (ks + N) (va_up al a true) (va_up ad a q) (pc + 3) ls (.ref a :: st) (va_up f a (fun _ => 0), va_up g a (fun _ => 0), va_up r a (fun _ => none))) : gg C ty nL kc ks al ad pc ls st (f, g, r) := by
  obtain ⟨⟨p, l, e, R, s⟩, ⟨m, args, below, meth, c⟩, ⟨D, ca, A, Q⟩⟩ := C
  intro H locs lsA hZ hR hS hl
  obtain ⟨hx, hb, hml, hown, hT, hJ, hA, hFR, hLO⟩ := E
  obtain ⟨v1, v2, v3⟩ := V
  obtain ⟨o1, o2, o3, o4, o5⟩ := hok
  have hKn := hT.2.1 ci _ o1
  have hts : ∀ w ∈ u_ws Cn T N, w.before args s = true := fun w hw => hT.1 w (o2 w hw) (by
    obtain ⟨j, -, rfl⟩ := List.mem_map.mp hw
    unfold u_lay
    split <;> rfl) _
  have hkeep : ∀ b, (fun b => decide (b ≠ a)) b = true → va_up ad a H.size b = ad b := fun b hb => va_up_n (of_decide_eq_true hb)
  refine W.newcK hx hb hown (hT.1 _ hkl rfl _) (hT.1 _ hin rfl _) (hT.1 _ hit rfl _) rfl hd (by omega) (by omega) hKn.2.1 rfl fun H1 kC hkC e1 z1 o1' => ?_
  have hR2 : q_R D ca ty (va_up al a true) (va_up ad a H.size) (va_up f a (fun _ => 0), va_up g a (fun _ => 0), va_up r a (fun _ => none)) H1 := by
    refine hR.grow hfr hcl o1' (fun b hb => ⟨va_up_n hb, va_up_n hb, va_up_n hb⟩) ?_
    rw [hty]
    refine ⟨_, o1, (u_born (q_ft ci) hts (fun _ h => h) hKn hkC e1 o3).to (fun j hj => ?_)⟩
    rw [q_V (by rw [o5]; exact hj)]
    show defaultValue (q_ft ci j) = q_fv (q_ft ci j) _ (va_up f a (fun _ => 0), va_up g a (fun _ => 0), va_up r a (fun _ => none)) a j
    unfold q_fv
    simp only [va_up_s]
    have hj2 := List.all_eq_true.mp hnf j (List.mem_range.mpr hj)
    cases hqt : q_ft ci j <;> rw [hqt] at hj2 <;> first | rfl | cases hj2
  have K := k H.size ⟨hx, hb, hml, hown, hT, hJ.grow hR, fun b hb => by
    by_cases eb : b = a
    · rw [eb, va_up_s]; exact v1 _ hS.1
    · rw [va_up_n eb] at hb ⊢; exact hA b hb, hFR, hLO⟩
  have K2 := K H1 locs lsA ⟨by omega, by omega⟩ hR2 ⟨Nat.le_trans hS.1 (by omega), fun x h1 h2 => (o1' x (Nat.lt_of_lt_of_le h1 hS.1)).trans (hS.2.1 x h1 h2), hS.2.2⟩ (q_okb.ls hv hkeep hl)
  rw [List.map_cons, q_okb.st hv hkeep, show q_cv (va_up ad a H.size) (.ref a) = .ref H.size from congrArg Value.ref va_up_s] at K2
  exact K2
end GL
theorem s_cmp {L j : Nat} (hL : L ≤ 3072) (hj : j ≤ 600) : (nI L - 6 < nI (6 * j)) ↔ L < 6 * j + 6 := by
  rw [Int32.lt_iff_toInt_lt, show (6 : Int32) = nI 6 from rfl, pk_sub_toInt (by omega) (by omega), nI_toInt (by omega)]
  omega
set_option maxHeartbeats 4000000 in
set_option maxRecDepth 100000 in
theorem w_loop {C : q_Ctx} {b L : Nat} {xs : Nat → Int32} (V : q_Nv C 600000 7302250) (S : q_Sc C b L xs) (Z : q_Zl C b) (hL : L ≤ 3072) : ∀ d j, j ≤ 513 → L + 6 ≤ 6 * j + 6 * d → ∀ (al : Nat → Bool) (hx hm : PH) (ad : Nat → Nat) (kc ks : Nat), x_Q al hx hm → q_Ev C cL_law 4 RL (alW al) ad 6 136 → ad 200 = b → kc ≤ 57 + 6 * j + l_ck al → ks ≤ 83368 + 1504 * j + l_cs al → gg C tyW 4 kc ks (alW al) ad 18 [some (.ref 200), some (.ref 0), some (.ref 100), some (.int (nI (6 * j)))] [] (hW hx hm) := by
  intro d
  induction d with
  | zero =>
    intro j hj hd al hx hm ad kc ks hq E hb hkc hks
    have u1 : l_ck al ≤ 7 := by unfold l_ck; split <;> omega
    have u2 : l_cs al ≤ 19360 := by unfold l_cs; split <;> omega
    refine g_iload_3 (pc := 18) E dL_law_18 ?_
    refine g_aload_0 (pc := 19) E dL_law_19 ?_
    refine g_slen (pc := 20) E S hb dL_law_20 ?_
    refine g_bipush (pc := 21) (v := 6) E dL_law_21 (by decide) ?_
    refine g_isub (pc := 23) E dL_law_23 ?_
    refine g_icmp_gt (pc := 24) (tgt := 1047) E dL_law_24 (by decide) (fun c0 => ?_) (fun c0 => ?_)
    · refine g_iconst (pc := 1047) (v := 1) E dL_law_1047 (by decide) ?_
      exact g_law (pc := 1048) E Z (by omega) (by omega) dL_law_1048
    · exact absurd ((s_cmp hL (by omega)).mpr (by omega)) c0
  | succ d ih =>
    intro j hj hd al hx hm ad kc ks hq E hb hkc hks
    have u1 : l_ck al ≤ 7 := by unfold l_ck; split <;> omega
    have u2 : l_cs al ≤ 19360 := by unfold l_cs; split <;> omega
    refine g_iload_3 (pc := 18) E dL_law_18 ?_
    refine g_aload_0 (pc := 19) E dL_law_19 ?_
    refine g_slen (pc := 20) E S hb dL_law_20 ?_
    refine g_bipush (pc := 21) (v := 6) E dL_law_21 (by decide) ?_
    refine g_isub (pc := 23) E dL_law_23 ?_
    refine g_icmp_gt (pc := 24) (tgt := 1047) E dL_law_24 (by decide) (fun c0 => ?_) (fun c0 => ?_)
    · refine g_iconst (pc := 1047) (v := 1) E dL_law_1047 (by decide) ?_
      exact g_law (pc := 1048) E Z (by omega) (by omega) dL_law_1048
    · have hlt : 6 * j + 6 ≤ L := by
        have q : ¬ L < 6 * j + 6 := fun z => c0 ((s_cmp hL (by omega)).mpr z)
        omega
      have K : l_K C b j kc ks al := by
        intro al2 hx2 hm2 ad2 kc2 ks2 hq2 E2 hb2 g1 g2
        refine g_iinc_3 (pc := 1041) (u := 6) E2 dL_law_1041 (by decide) (by decide) rfl ?_
        refine g_goto (pc := 1044) (tgt := 18) E2 dL_law_1044 (by decide) ?_
        have e6 : nI (6 * j) + 6 = nI (6 * (j + 1)) := by rw [show (6 : Int32) = nI 6 from rfl, nI_add]; rfl
        have R := ih (j + 1) (by omega) (by omega) al2 hx2 hm2 ad2 kc2 ks2 hq2 E2 hb2 (by omega) (by omega)
        rw [← e6] at R
        exact R
      refine g_aload_0 (pc := 27) E dL_law_27 ?_
      refine g_iload_3 (pc := 28) E dL_law_28 ?_
      refine g_sld (pc := 29) E S hb (s_in0 (by omega) hL) dL_law_29 ?_
      refine g_bipush (pc := 30) (v := 31) E dL_law_30 (by decide) ?_
      refine g_iand (pc := 32) E dL_law_32 ?_
      generalize xs (nI (6 * j)).toNatClampNeg &&& 31 = x0
      obtain ⟨n, t, sB, tB, f, g, F, G, rfl, rfl, rfl, h⟩ := hq
      by_cases e_0 : x0 = 0
      · subst e_0
        refine g_tableIn (pc := 33) (off := 123) (tgt := 156) E dL_law_33 (by decide) (by decide) (by decide) (by decide) ?_
        exact w_terms E V S hb h (by omega) hL (by omega) (by omega) K
      by_cases e_1 : x0 = 1
      · subst e_1
        refine g_tableIn (pc := 33) (off := 176) (tgt := 209) E dL_law_33 (by decide) (by decide) (by decide) (by decide) ?_
        exact w_cell E V S hb h (by omega) hL (by omega) (by omega) K
      by_cases e_2 : x0 = 2
      · subst e_2
        refine g_tableIn (pc := 33) (off := 229) (tgt := 262) E dL_law_33 (by decide) (by decide) (by decide) (by decide) ?_
        exact w_forbid E V S hb h (by omega) hL (by omega) (by omega) K
      by_cases e_3 : x0 = 3
      · subst e_3
        refine g_tableIn (pc := 33) (off := 288) (tgt := 321) E dL_law_33 (by decide) (by decide) (by decide) (by decide) ?_
        exact w_rain E V S hb h (by omega) hL (by omega) (by omega) K
      by_cases e_4 : x0 = 4
      · subst e_4
        refine g_tableIn (pc := 33) (off := 321) (tgt := 354) E dL_law_33 (by decide) (by decide) (by decide) (by decide) ?_
        exact w_gateway E V S hb h (by omega) hL (by omega) (by omega) K
      by_cases e_5 : x0 = 5
      · subst e_5
        refine g_tableIn (pc := 33) (off := 380) (tgt := 413) E dL_law_33 (by decide) (by decide) (by decide) (by decide) ?_
        exact w_swap E V S hb h (by omega) hL (by omega) (by omega) K
      by_cases e_6 : x0 = 6
      · subst e_6
        refine g_tableIn (pc := 33) (off := 413) (tgt := 446) E dL_law_33 (by decide) (by decide) (by decide) (by decide) ?_
        exact w_needs E V S hb h (by omega) hL (by omega) (by omega) K
      by_cases e_7 : x0 = 7
      · subst e_7
        refine g_tableIn (pc := 33) (off := 436) (tgt := 469) E dL_law_33 (by decide) (by decide) (by decide) (by decide) ?_
        exact w_asks E V S hb h (by omega) hL (by omega) (by omega) K
      by_cases e_8 : x0 = 8
      · subst e_8
        refine g_tableIn (pc := 33) (off := 459) (tgt := 492) E dL_law_33 (by decide) (by decide) (by decide) (by decide) ?_
        exact w_legal E V S hb h (by omega) hL (by omega) (by omega) K
      by_cases e_9 : x0 = 9
      · subst e_9
        refine g_tableIn (pc := 33) (off := 482) (tgt := 515) E dL_law_33 (by decide) (by decide) (by decide) (by decide) ?_
        exact w_sets E V S hb h (by omega) hL (by omega) (by omega) K
      by_cases e_10 : x0 = 10
      · subst e_10
        refine g_tableIn (pc := 33) (off := 495) (tgt := 528) E dL_law_33 (by decide) (by decide) (by decide) (by decide) ?_
        exact w_fewest E V S hb h (by omega) hL (by omega) (by omega) K
      by_cases e_11 : x0 = 11
      · subst e_11
        refine g_tableIn (pc := 33) (off := 508) (tgt := 541) E dL_law_33 (by decide) (by decide) (by decide) (by decide) ?_
        exact w_frame E V S hb h (by omega) hL (by omega) (by omega) K
      by_cases e_12 : x0 = 12
      · subst e_12
        refine g_tableIn (pc := 33) (off := 531) (tgt := 564) E dL_law_33 (by decide) (by decide) (by decide) (by decide) ?_
        exact w_frameOf E V S hb h (by omega) hL (by omega) (by omega) K
      by_cases e_13 : x0 = 13
      · subst e_13
        refine g_tableIn (pc := 33) (off := 554) (tgt := 587) E dL_law_33 (by decide) (by decide) (by decide) (by decide) ?_
        exact w_proof E V S hb h (by omega) hL (by omega) (by omega) K
      by_cases e_14 : x0 = 14
      · subst e_14
        refine g_tableIn (pc := 33) (off := 578) (tgt := 611) E dL_law_33 (by decide) (by decide) (by decide) (by decide) ?_
        exact w_ways E V S hb h (by omega) hL (by omega) (by omega) K
      by_cases e_15 : x0 = 15
      · subst e_15
        refine g_tableIn (pc := 33) (off := 601) (tgt := 634) E dL_law_33 (by decide) (by decide) (by decide) (by decide) ?_
        exact w_digit E V S hb h (by omega) hL (by omega) (by omega) K
      by_cases e_16 : x0 = 16
      · subst e_16
        refine g_tableIn (pc := 33) (off := 624) (tgt := 657) E dL_law_33 (by decide) (by decide) (by decide) (by decide) ?_
        exact w_rule E V S hb h (by omega) hL (by omega) (by omega) K
      by_cases e_17 : x0 = 17
      · subst e_17
        refine g_tableIn (pc := 33) (off := 647) (tgt := 680) E dL_law_33 (by decide) (by decide) (by decide) (by decide) ?_
        exact w_go E V S hb h (by omega) hL (by omega) (by omega) K
      by_cases e_18 : x0 = 18
      · subst e_18
        refine g_tableIn (pc := 33) (off := 670) (tgt := 703) E dL_law_33 (by decide) (by decide) (by decide) (by decide) ?_
        exact w_lit E V S hb h (by omega) hL (by omega) (by omega) K
      by_cases e_19 : x0 = 19
      · subst e_19
        refine g_tableIn (pc := 33) (off := 683) (tgt := 716) E dL_law_33 (by decide) (by decide) (by decide) (by decide) ?_
        exact w_cellOf E V S hb h (by omega) hL (by omega) (by omega) K
      by_cases e_20 : x0 = 20
      · subst e_20
        refine g_tableIn (pc := 33) (off := 716) (tgt := 749) E dL_law_33 (by decide) (by decide) (by decide) (by decide) ?_
        exact w_units E V S hb h (by omega) hL (by omega) (by omega) K
      by_cases e_21 : x0 = 21
      · subst e_21
        refine g_tableIn (pc := 33) (off := 750) (tgt := 783) E dL_law_33 (by decide) (by decide) (by decide) (by decide) ?_
        exact w_count E V S hb h (by omega) hL (by omega) (by omega) K
      by_cases e_22 : x0 = 22
      · subst e_22
        refine g_tableIn (pc := 33) (off := 773) (tgt := 806) E dL_law_33 (by decide) (by decide) (by decide) (by decide) ?_
        exact w_gatewayOf E V S hb h (by omega) hL (by omega) (by omega) K
      by_cases e_23 : x0 = 23
      · subst e_23
        refine g_tableIn (pc := 33) (off := 806) (tgt := 839) E dL_law_33 (by decide) (by decide) (by decide) (by decide) ?_
        exact w_row E V S hb h (by omega) hL (by omega) (by omega) K
      by_cases e_24 : x0 = 24
      · subst e_24
        refine g_tableIn (pc := 33) (off := 849) (tgt := 882) E dL_law_33 (by decide) (by decide) (by decide) (by decide) ?_
        exact w_tear E V S hb h (by omega) hL (by omega) (by omega) K
      by_cases e_25 : x0 = 25
      · subst e_25
        refine g_tableIn (pc := 33) (off := 872) (tgt := 905) E dL_law_33 (by decide) (by decide) (by decide) (by decide) ?_
        exact w_write E V S hb h (by omega) hL (by omega) (by omega) K
      by_cases e_26 : x0 = 26
      · subst e_26
        refine g_tableIn (pc := 33) (off := 945) (tgt := 978) E dL_law_33 (by decide) (by decide) (by decide) (by decide) ?_
        exact w_paste E V S hb h (by omega) hL (by omega) (by omega) K
      have e_o : x0.toInt < 0 ∨ 26 < x0.toInt := by
        simp only [q_ieq, Int32.reduceToInt, Int32.toInt_zero] at e_0 e_1 e_2 e_3 e_4 e_5 e_6 e_7 e_8 e_9 e_10 e_11 e_12 e_13 e_14 e_15 e_16 e_17 e_18 e_19 e_20 e_21 e_22 e_23 e_24 e_25 e_26
        omega
      refine g_tableOut (pc := 33) (tgt := 1041) E dL_law_33 e_o (by decide) ?_
      exact K _ _ _ _ _ _ h.Q E hb (by omega) (by omega)
theorem x_R0 {f : Nat → Nat → Int32} {g : Nat → Nat → Int64} {F : Nat → Nat → Int32} {G : Nat → Nat → Int64} (hX : w_X0 f g) (hM : w_M0 F G) : x_R 0 0 false f g F G := by
  obtain ⟨x1, x2, x3, x4, x5, x6, x7⟩ := hX
  obtain ⟨m1, m2, m3, m4, m5⟩ := hM
  exact ⟨Nat.zero_le _, x1.1, m1.2.1, m1.1, ⟨2, by decide, by decide, x1.2.1, m1.2.2.1⟩, ⟨100, by decide, by decide, x1.2.2.1, m1.2.2.2.1⟩, ⟨8, by decide, by decide, x1.2.2.2.1, m1.2.2.2.2.1⟩, ⟨2, by decide, by decide, x1.2.2.2.2, m1.2.2.2.2.2.1⟩, ⟨0, by decide, by decide, x2.1, m1.2.2.2.2.2.2.2.1⟩, Nat.zero_le _, x2.2.1, m1.2.2.2.2.2.2.1, x2.2.2.1.trans m1.2.2.2.2.2.2.2.2.1.symm, x2.2.2.2.trans m1.2.2.2.2.2.2.2.2.2.2.1.symm, ⟨0, by decide, x3, m1.2.2.2.2.2.2.2.2.2.1, fun i hi => absurd hi (Nat.not_lt_zero i)⟩, (fun c hc => absurd hc (Nat.not_lt_zero c)), (fun c _ _ => ⟨⟨congrFun m4.1 c, congrFun m4.2.1 c, congrFun m4.2.2.1 c, congrFun m4.2.2.2.1 c, congrFun m4.2.2.2.2.1 c, congrFun m4.2.2.2.2.2.1 c, congrFun m4.2.2.2.2.2.2.1 c, congrFun m4.2.2.2.2.2.2.2.1 c⟩, fun k _ => congrFun m4.2.2.2.2.2.2.2.2 _, congrFun m5.2.1 c, congrFun m5.2.2.1 c, congrFun m5.2.2.2 c⟩), (fun j hj => by
    match j, hj with
    | 0, _ => exact ⟨⟨10, by decide, by decide, x4.1, m3.1⟩, x4.2.2.2.1.trans m3.2.2.2.1.symm⟩
    | 1, _ => exact ⟨⟨10, by decide, by decide, x4.2.1, m3.2.1⟩, x4.2.2.2.2.1.trans m3.2.2.2.2.1.symm⟩
    | 2, _ => exact ⟨⟨10, by decide, by decide, x4.2.2.1, m3.2.2.1⟩, x4.2.2.2.2.2.trans m3.2.2.2.2.2.symm⟩), (fun S hS => by
    match S, hS with
    | 0, _ => exact Or.inl ⟨m2.1, x5.1, 0, by decide, congrFun m2.2.2.2.2 0⟩
    | 1, _ => exact Or.inl ⟨m2.2.1, x5.2.1, 0, by decide, congrFun m2.2.2.2.2 1⟩
    | 2, _ => exact Or.inl ⟨m2.2.2.1, x5.2.2.1, 0, by decide, congrFun m2.2.2.2.2 2⟩
    | 3, _ => exact Or.inl ⟨m2.2.2.2.1, x5.2.2.2, 0, by decide, congrFun m2.2.2.2.2 3⟩), (fun S hS i _ => by
    match S, hS with
    | 0, _ => exact (congrFun x7.1 i).trans (congrFun m5.1 _).symm
    | 1, _ => exact (congrFun x7.2.1 i).trans (congrFun m5.1 _).symm
    | 2, _ => exact (congrFun x7.2.2.1 i).trans (congrFun m5.1 _).symm
    | 3, _ => exact (congrFun x7.2.2.2 i).trans (congrFun m5.1 _).symm), Or.inl ⟨rfl, m1.2.2.2.2.2.2.2.2.2.2.2⟩, congrFun x6.2 0, (fun s _ _ => congrFun x6.1 s)⟩
theorem q_clW {al : Nat → Bool} {rx : Nat → Nat → Option Nat} (h : q_cl al rx) (hal : ∀ x, al x = true → x < 100) : q_cl (eL 0 al (fun _ => false)) (eL 0 (eR 0 rx) (fun _ _ => none)) := by
  intro b k c hb hr
  by_cases e : 0 ≤ b ∧ b < 0 + 100
  · rw [show eL 0 al (fun _ => false) b = al b from eL_in (o := 0) (by omega)] at hb
    rw [show eL 0 (eR 0 rx) (fun _ _ => none) b = eR 0 rx b from eL_in (o := 0) (by omega)] at hr
    obtain ⟨x, hx, rfl⟩ := Option.map_eq_some_iff.mp hr
    have h1 := h b k x hb hx
    show eL 0 al (fun _ => false) (x + 0) = true
    rw [eL_in (hal x h1)]
    exact h1
  · rw [eL_out e] at hb; cases hb
set_option maxHeartbeats 4000000 in
set_option maxRecDepth 100000 in
theorem w_start {C : q_Ctx} {b L : Nat} {xs : Nat → Int32} (V : q_Nv C 600000 7302250) (S : q_Sc C b L xs) (Z : q_Zl C b) (hL : L ≤ 3072) (ad : Nat → Nat) (E : q_Ev C cL_law 4 RL (fun _ => false) ad 6 136) (hb : ad 200 = b) : gg C tyW 4 0 0 (fun _ => false) ad 0 [some (.ref 200), none, none, none] [] (fun _ _ => 0, fun _ _ => 0, fun _ _ => none) := by
  refine g_newL (pc := 0) (a := 0) E V rfl q_ok7 kl_L_7 in_X7 it_X7 rfl q_cl0 rfl rfl (by decide) (by decide) dL_law_0 (fun q0 E => ?_)
  have hal0 : ∀ x, eL 0 q_o1 (fun _ => false) x = true → x = 0 := fun x hx => by
    by_cases e : 0 ≤ x ∧ x < 0 + 100
    · rw [show eL 0 q_o1 (fun _ => false) x = q_o1 x from eL_in (o := 0) (by omega)] at hx
      exact q_o1_0 x hx
    · rw [eL_out e] at hx; cases hx
  refine g_weak (al' := eL 0 q_o1 (fun _ => false)) (f' := eL 0 (fun _ _ => 0) (fun _ _ => 0)) (g' := eL 0 (fun _ _ => 0) (fun _ _ => 0)) (r' := eL 0 (eR 0 (fun _ _ => none)) (fun _ _ => none)) (fun x hx => by rw [hal0 x hx]; exact ⟨rfl, rfl, rfl, rfl⟩) ?_
  have E := E.weak (al' := eL 0 q_o1 (fun _ => false)) (fun x hx => by rw [hal0 x hx]; rfl)
  have hb1 : va_up ad 0 q0 200 = b := hb
  generalize va_up ad 0 q0 = ad1 at E hb1 ⊢
  refine g_dupr (pc := 3) E dL_law_3 ?_
  refine l_XI (pc := 4) (hx := (fun _ _ => 0, fun _ _ => 0, fun _ _ => none)) V c_X7_init cw_L_9 rfl rfl (by decide) (by decide) (by decide) (by decide) (Nat.le_of_ble_eq_true rfl) (fun x hx => by rw [q_o1_0 x hx]; decide) E (fun b k c _ h _ => by cases h) rfl (fun r2 al2 h2 hp => ?_) dL_law_4 rfl (fun r2 al2 h2 hp ad2 hd2 E => ?_)
  · obtain ⟨rfl, rfl, F1, G1, rfl, -⟩ := hp
    exact ⟨alX_100 (by decide), fun x k c q => rfX_lt (by decide) q, rfl⟩
  obtain ⟨rfl, rfl, fX, gX, rfl, hX⟩ := hp
  have hb2 : ad2 200 = b := hd2.trans hb1
  refine g_astore_1 (pc := 7) E dL_law_7 (by decide) rfl ?_
  refine g_newL (pc := 8) (a := 100) E V rfl q_ok8 kl_L_10 in_X8 it_X8 rfl (q_clW (q_clX (by decide)) (alX_100 (by decide))) rfl rfl (by decide) (by decide) dL_law_8 (fun q1 E => ?_)
  have hal1 : ∀ x, eL 0 (alX 0 false false) (eL 100 q_o1 (fun _ => false)) x = true → x = 100 ∨ (x < 100 ∧ alX 0 false false x = true) := fun x hx => by
    by_cases e : x < 100
    · rw [show eL 0 (alX 0 false false) (eL 100 q_o1 (fun _ => false)) x = alX 0 false false x from eL_in (o := 0) e] at hx
      exact Or.inr ⟨e, hx⟩
    · rw [eL_out (by omega)] at hx
      by_cases e2 : 100 ≤ x ∧ x < 100 + 100
      · obtain ⟨y, rfl⟩ : ∃ y, x = y + 100 := ⟨x - 100, by omega⟩
        rw [eL_in (by omega)] at hx
        rw [q_o1_0 y hx]
        exact Or.inl rfl
      · rw [eL_out e2] at hx; cases hx
  have hw : ∀ x, eL 0 (alX 0 false false) (eL 100 q_o1 (fun _ => false)) x = true → va_up (eL 0 (alX 0 false false) (fun _ => false)) 100 true x = true := fun x hx => by
    rcases hal1 x hx with rfl | ⟨h1, h2⟩
    · rfl
    · rw [va_up_n (by omega), show eL 0 (alX 0 false false) (fun _ => false) x = alX 0 false false x from eL_in (o := 0) h1]
      exact h2
  refine g_weak (al' := eL 0 (alX 0 false false) (eL 100 q_o1 (fun _ => false))) (f' := eL 0 fX (eL 100 (fun _ _ => 0) (fun _ _ => 0))) (g' := eL 0 gX (eL 100 (fun _ _ => 0) (fun _ _ => 0))) (r' := eL 0 (eR 0 (rfX 0 false false)) (eL 100 (eR 100 (fun _ _ => none)) (fun _ _ => none))) (fun x hx => ⟨hw x hx, ?_⟩) ?_
  · rcases hal1 x hx with rfl | ⟨h1, h2⟩
    · exact ⟨rfl, rfl, rfl⟩
    · rw [va_up_n (by omega), va_up_n (by omega), va_up_n (by omega)]
      refine ⟨?_, ?_, ?_⟩
      · rw [show eL 0 fX (eL 100 (fun _ _ => 0) (fun _ _ => 0)) x = fX x from eL_in (o := 0) h1]; exact (eL_in (o := 0) h1).symm
      · rw [show eL 0 gX (eL 100 (fun _ _ => 0) (fun _ _ => 0)) x = gX x from eL_in (o := 0) h1]; exact (eL_in (o := 0) h1).symm
      · rw [show eL 0 (eR 0 (rfX 0 false false)) (eL 100 (eR 100 (fun _ _ => none)) (fun _ _ => none)) x = eR 0 (rfX 0 false false) x from eL_in (o := 0) h1]; exact (eL_in (o := 0) h1).symm
  have E := E.weak hw
  have hb3 : va_up ad2 100 q1 200 = b := hb2
  generalize va_up ad2 100 q1 = ad3 at E hb3 ⊢
  refine g_dupr (pc := 11) E dL_law_11 ?_
  refine l_MI (pc := 12) (hx := (fX, gX, rfX 0 false false)) (hm := (fun _ _ => 0, fun _ _ => 0, fun _ _ => none)) E V c_X8_init cw_L_12 rfl rfl (by decide) (by decide) (by decide) (by decide) (Nat.le_of_ble_eq_true rfl) (fun x hx => by rw [q_o1_0 x hx]; decide) (fun x k c q => rfX_lt (by decide) q) rfl (fun r2 al2 h2 hp => ?_) dL_law_12 rfl (fun r2 al2 h2 hp ad4 hd4 E => ?_)
  · obtain ⟨rfl, rfl, F1, G1, rfl, -⟩ := hp
    exact ⟨fun x hx => by have := alM_lt x hx; omega, fun x k c q => rfM_lt q, rfl⟩
  obtain ⟨rfl, rfl, fM, gM, rfl, hM⟩ := hp
  refine g_astore_2 (pc := 15) E dL_law_15 (by decide) rfl ?_
  refine g_iconst (pc := 16) (v := 0) E dL_law_16 (by decide) ?_
  refine g_istore_3 (pc := 17) E dL_law_17 (by decide) rfl ?_
  exact w_loop V S Z hL 514 0 (by decide) (by omega) (alX 0 false false) _ _ ad4 _ _ (x_R0 hX hM).Q E (hd4.trans hb3) (by decide) (by decide)
