/-! System.arraycopy over rows of longs; frameOf, paste, proof -/
theorem q_subI {x y : Int32} (h1 : -2147483648 ≤ x.toInt - y.toInt) (h2 : x.toInt - y.toInt ≤ 2147483647) : (x - y).toInt = x.toInt - y.toInt := by
  rw [Int32.toInt_sub]
  exact Int.bmod_eq_of_le (by omega) (by omega)
set_option maxRecDepth 100000 in
theorem wn_ac : Cond.native arraycopyName ∈ lw_tbl := List.mem_of_getElem? (i := 754) (by decide +kernel)
set_option maxRecDepth 100000 in
theorem ws_ac : Cond.static arraycopyName ∈ lw_tbl := List.mem_of_getElem? (i := 753) (by decide +kernel)
set_option maxRecDepth 100000 in
theorem wy_ac : Cond.initialized "java/lang/System" ∈ lw_tbl := List.mem_of_getElem? (i := 82) (by decide +kernel)
theorem g_copyl {C : q_Ctx} {ty : Nat → PT} {cc : ByteArray} {nL kc ks : Nat} {own : String} {al : Nat → Bool} {ad : Nat → Nat} {FR LO : Nat} {pc : Nat} {ls : List (Option Value)} {st : List Value} {f : Nat → Nat → Int32} {g : Nat → Nat → Int64} {r : Nat → Nat → Option Nat} {a b N0 N1 I J K idx : Nat} (E : q_Ev C cc nL own al ad FR LO) (hfin : ∀ x, al x = true → x < 80) (ha : al a = true) (hb : al b = true) (hta : ty a = .inl (.long, N0)) (htb : ty b = .inl (.long, N1)) (hlk : Cond.methodLink own idx arraycopyName ∈ lw_tbl) (hI : I + K ≤ N0) (hJK : J + K ≤ N1) (hN0 : N0 < 1000) (hN1 : N1 < 1000) (hfr : 1 ≤ FR) (hlo : 40 ≤ LO) (hdep : (st.map fun v => v.category).sum ≤ 8) (hd : decode cc pc = .ok (.invokestatic idx, 3))
    (kk : gg C ty nL kc ks al ad (pc + 3) ls st (f, va_up g b (va_cpy (g a) (g b) I J K), r)) : gg C ty nL kc ks al ad pc ls (.int (nI K) :: .int (nI J) :: .ref b :: .int (nI I) :: .ref a :: st) (f, g, r) := by
  obtain ⟨⟨p, l, e, R, s⟩, ⟨m, args, below, meth, c⟩, ⟨D, ca, A, Q⟩⟩ := C
  intro H locs lsA hZ hR hS hl
  obtain ⟨hx, hcb, hml, hown, hT, hJ, hA, hFR, hLO⟩ := E
  obtain ⟨nm, hnd, hmem⟩ : ∃ nm : List Nat, nm.Nodup ∧ ∀ x, x ∈ nm ↔ al x = true := ⟨(List.range 80).filter al, List.nodup_range.filter _, fun x => by rw [List.mem_filter, List.mem_range]; exact ⟨fun q => q.2, fun q => ⟨hfin x q, q⟩⟩⟩
  have hP : va_P D vwCl (nm.map fun x => (ad x, q_E ca ad (f, g, r) (ty x) x)) H := by
    intro k q hq
    rw [List.getElem?_map] at hq
    obtain ⟨x, hx1, rfl⟩ := Option.map_eq_some_iff.mp hq
    exact hR x ((hmem x).mp (List.mem_of_getElem? hx1))
  have hinj : ∀ i j x, nm[i]? = some x → nm[j]? = some x → i = j := fun i j x h1 h2 => (List.getElem?_inj (List.getElem?_eq_some_iff.mp h1).1 hnd).mp (h1.trans h2.symm)
  have hD : va_D A (nm.map fun x => (ad x, q_E ca ad (f, g, r) (ty x) x)) := by
    refine ⟨fun i j pq qq hi hj he => ?_, fun k q hq => ?_⟩
    · rw [List.getElem?_map] at hi hj
      obtain ⟨x, hx1, rfl⟩ := Option.map_eq_some_iff.mp hi
      obtain ⟨y, hy1, rfl⟩ := Option.map_eq_some_iff.mp hj
      have exy : x = y := hJ x y ((hmem x).mp (List.mem_of_getElem? hx1)) ((hmem y).mp (List.mem_of_getElem? hy1)) he
      subst exy
      exact hinj i j x hx1 hy1
    · rw [List.getElem?_map] at hq
      obtain ⟨x, hx1, rfl⟩ := Option.map_eq_some_iff.mp hq
      exact hA x ((hmem x).mp (List.mem_of_getElem? hx1))
  obtain ⟨ia, hia⟩ := List.getElem?_of_mem ((hmem a).mpr ha)
  obtain ⟨ib, hib⟩ := List.getElem?_of_mem ((hmem b).mpr hb)
  have ea : (nm.map fun x => (ad x, q_E ca ad (f, g, r) (ty x) x))[ia]? = some (ad a, .inl (ca .long, N0, .inr (.inl (g a)))) := by
    rw [List.getElem?_map, hia, Option.map_some, hta]; rfl
  have eb : (nm.map fun x => (ad x, q_E ca ad (f, g, r) (ty x) x))[ib]? = some (ad b, .inl (ca .long, N1, .inr (.inl (g b)))) := by
    rw [List.getElem?_map, hib, Option.map_some, htb]; rfl
  have kI : (nI I).toNatClampNeg = I := nI_clamp (by omega)
  have kJ : (nI J).toNatClampNeg = J := nI_clamp (by omega)
  have kK : (nI K).toNatClampNeg = K := nI_clamp (by omega)
  have nn : ∀ z : Nat, z < 1000 → ¬ nI z < 0 := fun z hz => Int32.not_lt.mpr (nI_le (a := 0) (b := z) (Nat.zero_le _) (by omega))
  refine va_copyl (A := A) (H0 := s.heap) (tys := q_tys ca) (ty := .long) hx hcb (by rw [hml, hl.1]) hown (hT.1 _ hlk rfl _) (hT.1 _ wn_ac rfl _) (hT.1 _ ws_ac rfl _) (hT.1 _ wy_ac rfl _) hT.2 hP hD hS ia ib 1 1 ea eb rfl rfl rfl (nn I (by omega)) (nn J (by omega)) (nn K (by omega)) (by rw [kI, kK]; exact hI) (by rw [kJ, kK]; exact hJK) (fun _ _ => rfl) (Nat.le_trans hfr hFR) ?_ hd ?_
  · rw [q_cats]
    have : nativeFrameWords "java/lang/System" "arraycopy" 5 + 11 ≤ 32 := by decide
    omega
  · rw [kI, kJ, kK]
    intro H1 locs1 hP1 hD1 hS1
    refine kk H1 locs1 lsA hZ (fun x hx0 => ?_) hS1 hl
    obtain ⟨ix, hix⟩ := List.getElem?_of_mem ((hmem x).mpr hx0)
    by_cases exb : x = b
    · subst exb
      have := hP1 ib (ad x, .inl (ca .long, N1, .inr (.inl (va_cpy (g a) (g x) I J K)))) (List.getElem?_set_self (List.getElem?_eq_some_iff.mp eb).1)
      rw [htb]
      show va_at D vwCl (ad x, .inl (ca .long, N1, .inr (.inl (va_up g x (va_cpy (g a) (g x) I J K) x)))) H1
      rw [va_up_s]
      exact this
    · have hne : ib ≠ ix := fun q => exb (Option.some.inj (hix.symm.trans (q ▸ hib)))
      have := hP1 ix (ad x, q_E ca ad (f, g, r) (ty x) x) (by rw [List.getElem?_set_ne hne, List.getElem?_map, hix]; rfl)
      rw [q_E_congr (h := (f, g, r)) (h' := (f, va_up g b (va_cpy (g a) (g b) I J K), r)) rfl (va_up_n exb) rfl]
      exact this
theorem alX_fin {n : Nat} {sB tB : Bool} (h10 : n ≤ 10) (x : Nat) (h : alX n sB tB x = true) : x < 80 := by
  simp only [alX, Bool.or_eq_true, Bool.and_eq_true, decide_eq_true_eq, beq_iff_eq] at h
  omega
set_option maxHeartbeats 4000000 in
set_option maxRecDepth 100000 in
theorem c_X5_copy {n : Nat} {sB tB : Bool} {f : Nat → Nat → Int32} {g : Nat → Nat → Int64} (h10 : n ≤ 10) (hlen : ∀ S, S ≤ 3 → f 20 S = -1 ∨ ∃ z : Nat, z ≤ 60 ∧ f 20 S = nI z) (s i t k m : Int32) : q_ConI yX5_copy cX5_copy 6 (some .int) 1 40 tyX (alX n sB tB) [.ref 3, .int s, .int i, .int t, .int k, .int m] (f, g, rfX n sB tB) (fun v h' => (¬ ((0 ≤ s.toInt ∧ s.toInt ≤ 3) ∧ (0 ≤ t.toInt ∧ t.toInt ≤ 3)) ∧ v = -2 ∧ h' = (f, g, rfX n sB tB)) ∨ (∃ S T : Nat, S ≤ 3 ∧ s = nI S ∧ T ≤ 3 ∧ t = nI T ∧ (((f 20 S = -1 ∨ f 20 T = -1) ∧ v = -5 ∧ h' = (f, g, rfX n sB tB)) ∨ (¬ (f 20 S = -1 ∨ f 20 T = -1) ∧ ¬ f 19 S = f 19 T ∧ v = -7 ∧ h' = (f, g, rfX n sB tB)) ∨ (¬ (f 20 S = -1 ∨ f 20 T = -1) ∧ f 19 S = f 19 T ∧ ¬ (0 ≤ i.toInt ∧ 0 ≤ k.toInt ∧ 0 ≤ m.toInt ∧ i.toInt + m.toInt ≤ (f 20 S).toInt ∧ k.toInt + m.toInt ≤ (f 20 T).toInt) ∧ v = -6 ∧ h' = (f, g, rfX n sB tB)) ∨ (¬ (f 20 S = -1 ∨ f 20 T = -1) ∧ f 19 S = f 19 T ∧ ∃ I K N : Nat, i = nI I ∧ k = nI K ∧ m = nI N ∧ ((I + N : Nat) : Int) ≤ (f 20 S).toInt ∧ ((K + N : Nat) : Int) ≤ (f 20 T).toInt ∧ I + N ≤ 60 ∧ K + N ≤ 60 ∧ v = 0 ∧ h' = (f, va_up g (T + 15) (va_cpy (g (S + 15)) (g (T + 15)) I K N), rfX n sB tB))))) := by
  refine q_Con.of RX5 [some (.ref 3), some (.int s), some (.int i), some (.int t), some (.int k), some (.int m)] (by decide +kernel) rfl rfl (Nat.le_of_ble_eq_true rfl) (fun C ad E Z => ?_)
  refine g_iload_1 (pc := 0) E dX5_copy_0 ?_
  refine g_cSi1 (pc := 1) E (c_X5_isPlace _) cw_X5_23 (by decide) (by decide) (Nat.le_of_ble_eq_true rfl) dX5_copy_1 (fun v_1 h_1 hp => ?_)
  obtain ⟨rfl, rfl⟩ := hp
  refine g_if_eq (pc := 4) (tgt := 14) E dX5_copy_4 (by decide) (fun c_4 => ?_) (fun c_4 => ?_)
  · have k_4 := q_b0.mp c_4
    refine g_bipush (pc := 14) (v := -2) E dX5_copy_14 (by decide) ?_
    exact g_iret (pc := 16) E Z dX5_copy_16 ⟨_, rfl, Or.inl ⟨(by first | exact fun q => k_4 q.1 | exact fun q => k_11 q.2), rfl, rfl⟩⟩
  · have k_4 := q_b1.mp c_4
    refine g_iload_3 (pc := 7) E dX5_copy_7 ?_
    refine g_cSi1 (pc := 8) E (c_X5_isPlace _) cw_X5_23 (by decide) (by decide) (Nat.le_of_ble_eq_true rfl) dX5_copy_8 (fun v_8 h_8 hp => ?_)
    obtain ⟨rfl, rfl⟩ := hp
    refine g_if_ne (pc := 11) (tgt := 17) E dX5_copy_11 (by decide) (fun c_11 => ?_) (fun c_11 => ?_)
    · have k_11 := q_b1.mp c_11
      obtain ⟨S, hS, rfl⟩ := q_nat (b := 3) k_4.1 k_4.2
      obtain ⟨T, hT, rfl⟩ := q_nat (b := 3) k_11.1 k_11.2
      have haS : alX n sB tB (S + 15) = true := alX_p (by omega)
      have haT : alX n sB tB (T + 15) = true := alX_p (by omega)
      have htS : tyX (S + 15) = .inl (.long, 60) := tyX_p (by omega)
      have htT : tyX (T + 15) = .inl (.long, 60) := tyX_p (by omega)
      have hrS : rfX n sB tB 14 S = some (S + 15) := rfX_p (by omega)
      have hrT : rfX n sB tB 14 T = some (T + 15) := rfX_p (by omega)
      refine g_aload_0 (pc := 17) E dX5_copy_17 ?_
      refine g_getR (pc := 18) E (by first | assumption | rfl) (by first | assumption | rfl) fl_X5_20 rfl (by first | assumption | rfl) dX5_copy_18 ?_
      refine g_iload_1 (pc := 21) E dX5_copy_21 ?_
      refine g_iald (pc := 22) E (by first | assumption | rfl) (by first | assumption | rfl) dX5_copy_22 (q_ix_n (by omega)) ?_
      refine g_iconst (pc := 23) (v := -1) E dX5_copy_23 (by decide) ?_
      refine g_icmp_eq (pc := 24) (tgt := 37) E dX5_copy_24 (by decide) (fun c_24 => ?_) (fun c_24 => ?_)
      · refine g_bipush (pc := 37) (v := -5) E dX5_copy_37 (by decide) ?_
        exact g_iret (pc := 39) E Z dX5_copy_39 ⟨_, rfl, Or.inr ⟨S, T, hS, rfl, hT, rfl, Or.inl ⟨(by first | exact Or.inl c_24 | exact Or.inr c_34), rfl, rfl⟩⟩⟩
      · refine g_aload_0 (pc := 27) E dX5_copy_27 ?_
        refine g_getR (pc := 28) E (by first | assumption | rfl) (by first | assumption | rfl) fl_X5_20 rfl (by first | assumption | rfl) dX5_copy_28 ?_
        refine g_iload_3 (pc := 31) E dX5_copy_31 ?_
        refine g_iald (pc := 32) E (by first | assumption | rfl) (by first | assumption | rfl) dX5_copy_32 (q_ix_n (by omega)) ?_
        refine g_iconst (pc := 33) (v := -1) E dX5_copy_33 (by decide) ?_
        refine g_icmp_ne (pc := 34) (tgt := 40) E dX5_copy_34 (by decide) (fun c_34 => ?_) (fun c_34 => ?_)
        · have hno : ¬ (f 20 S = -1 ∨ f 20 T = -1) := fun q => q.elim c_24 c_34
          obtain ⟨zS, hzS, ezS⟩ := (hlen S hS).resolve_left c_24
          obtain ⟨zT, hzT, ezT⟩ := (hlen T hT).resolve_left c_34
          have tS : (f 20 S).toInt = zS := by rw [ezS]; exact nI_toInt (by omega)
          have tT : (f 20 T).toInt = zT := by rw [ezT]; exact nI_toInt (by omega)
          refine g_aload_0 (pc := 40) E dX5_copy_40 ?_
          refine g_getR (pc := 41) E (by first | assumption | rfl) (by first | assumption | rfl) fl_X5_16 rfl (by first | assumption | rfl) dX5_copy_41 ?_
          refine g_iload_1 (pc := 44) E dX5_copy_44 ?_
          refine g_iald (pc := 45) E (by first | assumption | rfl) (by first | assumption | rfl) dX5_copy_45 (q_ix_n (by omega)) ?_
          refine g_aload_0 (pc := 46) E dX5_copy_46 ?_
          refine g_getR (pc := 47) E (by first | assumption | rfl) (by first | assumption | rfl) fl_X5_16 rfl (by first | assumption | rfl) dX5_copy_47 ?_
          refine g_iload_3 (pc := 50) E dX5_copy_50 ?_
          refine g_iald (pc := 51) E (by first | assumption | rfl) (by first | assumption | rfl) dX5_copy_51 (q_ix_n (by omega)) ?_
          refine g_icmp_eq (pc := 52) (tgt := 58) E dX5_copy_52 (by decide) (fun c_52 => ?_) (fun c_52 => ?_)
          · refine g_iload_2 (pc := 58) E dX5_copy_58 ?_
            refine g_if_lt (pc := 59) (tgt := 99) E dX5_copy_59 (by decide) (fun c_59 => ?_) (fun c_59 => ?_)
            · have k_59 := c_59
              simp only [q_ilt, q_ile, q_ieq, Int32.reduceToInt, Int32.toInt_zero] at k_59
              refine g_bipush (pc := 99) (v := -6) E dX5_copy_99 (by decide) ?_
              exact g_iret (pc := 101) E Z dX5_copy_101 ⟨_, rfl, Or.inr ⟨S, T, hS, rfl, hT, rfl, Or.inr (Or.inr (Or.inl ⟨hno, c_52, (by omega), rfl, rfl⟩))⟩⟩
            · have k_59 := c_59
              simp only [q_ilt, q_ile, q_ieq, Int32.reduceToInt, Int32.toInt_zero] at k_59
              refine g_iload_4 (pc := 62) E dX5_copy_62 ?_
              refine g_if_lt (pc := 64) (tgt := 99) E dX5_copy_64 (by decide) (fun c_64 => ?_) (fun c_64 => ?_)
              · have k_64 := c_64
                simp only [q_ilt, q_ile, q_ieq, Int32.reduceToInt, Int32.toInt_zero] at k_64
                refine g_bipush (pc := 99) (v := -6) E dX5_copy_99 (by decide) ?_
                exact g_iret (pc := 101) E Z dX5_copy_101 ⟨_, rfl, Or.inr ⟨S, T, hS, rfl, hT, rfl, Or.inr (Or.inr (Or.inl ⟨hno, c_52, (by omega), rfl, rfl⟩))⟩⟩
              · have k_64 := c_64
                simp only [q_ilt, q_ile, q_ieq, Int32.reduceToInt, Int32.toInt_zero] at k_64
                refine g_iload_5 (pc := 67) E dX5_copy_67 ?_
                refine g_if_lt (pc := 69) (tgt := 99) E dX5_copy_69 (by decide) (fun c_69 => ?_) (fun c_69 => ?_)
                · have k_69 := c_69
                  simp only [q_ilt, q_ile, q_ieq, Int32.reduceToInt, Int32.toInt_zero] at k_69
                  refine g_bipush (pc := 99) (v := -6) E dX5_copy_99 (by decide) ?_
                  exact g_iret (pc := 101) E Z dX5_copy_101 ⟨_, rfl, Or.inr ⟨S, T, hS, rfl, hT, rfl, Or.inr (Or.inr (Or.inl ⟨hno, c_52, (by omega), rfl, rfl⟩))⟩⟩
                · have k_69 := c_69
                  simp only [q_ilt, q_ile, q_ieq, Int32.reduceToInt, Int32.toInt_zero] at k_69
                  have s82 : (f 20 S - m).toInt = zS - m.toInt := by rw [q_subI (by have := m.toInt_lt; omega) (by omega), tS]
                  have s96 : (f 20 T - m).toInt = zT - m.toInt := by rw [q_subI (by have := m.toInt_lt; omega) (by omega), tT]
                  refine g_iload_2 (pc := 72) E dX5_copy_72 ?_
                  refine g_aload_0 (pc := 73) E dX5_copy_73 ?_
                  refine g_getR (pc := 74) E (by first | assumption | rfl) (by first | assumption | rfl) fl_X5_20 rfl (by first | assumption | rfl) dX5_copy_74 ?_
                  refine g_iload_1 (pc := 77) E dX5_copy_77 ?_
                  refine g_iald (pc := 78) E (by first | assumption | rfl) (by first | assumption | rfl) dX5_copy_78 (q_ix_n (by omega)) ?_
                  refine g_iload_5 (pc := 79) E dX5_copy_79 ?_
                  refine g_isub (pc := 81) E dX5_copy_81 ?_
                  refine g_icmp_gt (pc := 82) (tgt := 99) E dX5_copy_82 (by decide) (fun c_82 => ?_) (fun c_82 => ?_)
                  · have k82 := c_82
                    rw [q_ilt, s82] at k82
                    refine g_bipush (pc := 99) (v := -6) E dX5_copy_99 (by decide) ?_
                    exact g_iret (pc := 101) E Z dX5_copy_101 ⟨_, rfl, Or.inr ⟨S, T, hS, rfl, hT, rfl, Or.inr (Or.inr (Or.inl ⟨hno, c_52, (by omega), rfl, rfl⟩))⟩⟩
                  · have k82 := c_82
                    rw [q_ilt, s82] at k82
                    refine g_iload_4 (pc := 85) E dX5_copy_85 ?_
                    refine g_aload_0 (pc := 87) E dX5_copy_87 ?_
                    refine g_getR (pc := 88) E (by first | assumption | rfl) (by first | assumption | rfl) fl_X5_20 rfl (by first | assumption | rfl) dX5_copy_88 ?_
                    refine g_iload_3 (pc := 91) E dX5_copy_91 ?_
                    refine g_iald (pc := 92) E (by first | assumption | rfl) (by first | assumption | rfl) dX5_copy_92 (q_ix_n (by omega)) ?_
                    refine g_iload_5 (pc := 93) E dX5_copy_93 ?_
                    refine g_isub (pc := 95) E dX5_copy_95 ?_
                    refine g_icmp_le (pc := 96) (tgt := 102) E dX5_copy_96 (by decide) (fun c_96 => ?_) (fun c_96 => ?_)
                    · have k96 := c_96
                      rw [q_ile, s96] at k96
                      obtain ⟨I, hI, rfl⟩ := q_nat (b := 60) (x := i) (by omega) (by omega)
                      obtain ⟨K, hK, rfl⟩ := q_nat (b := 60) (x := k) (by omega) (by omega)
                      obtain ⟨N, hN, rfl⟩ := q_nat (b := 60) (x := m) (by omega) (by omega)
                      have eI : (nI I).toInt = I := nI_toInt (by omega)
                      have eK : (nI K).toInt = K := nI_toInt (by omega)
                      have eN : (nI N).toInt = N := nI_toInt (by omega)
                      refine g_aload_0 (pc := 102) E dX5_copy_102 ?_
                      refine g_getR (pc := 103) E (by first | assumption | rfl) (by first | assumption | rfl) fl_X5_13 rfl (by first | assumption | rfl) dX5_copy_103 ?_
                      refine g_iload_1 (pc := 106) E dX5_copy_106 ?_
                      first | refine g_aald (pc := 107) E (by first | assumption | rfl) (by first | assumption | rfl) dX5_copy_107 (q_ix_n (by omega)) (by first | assumption | rfl) ?_ | refine g_aaldJ (pc := 107) E (by first | assumption | rfl) (by first | assumption | rfl) dX5_copy_107 (q_ix_n (by omega)) (by first | assumption | rfl) ?_
                      refine g_iload_2 (pc := 108) E dX5_copy_108 ?_
                      refine g_aload_0 (pc := 109) E dX5_copy_109 ?_
                      refine g_getR (pc := 110) E (by first | assumption | rfl) (by first | assumption | rfl) fl_X5_13 rfl (by first | assumption | rfl) dX5_copy_110 ?_
                      refine g_iload_3 (pc := 113) E dX5_copy_113 ?_
                      first | refine g_aald (pc := 114) E (by first | assumption | rfl) (by first | assumption | rfl) dX5_copy_114 (q_ix_n (by omega)) (by first | assumption | rfl) ?_ | refine g_aaldJ (pc := 114) E (by first | assumption | rfl) (by first | assumption | rfl) dX5_copy_114 (q_ix_n (by omega)) (by first | assumption | rfl) ?_
                      refine g_iload_4 (pc := 115) E dX5_copy_115 ?_
                      refine g_iload_5 (pc := 117) E dX5_copy_117 ?_
                      refine g_copyl (pc := 119) E (alX_fin h10) haS haT htS htT wl_X5_55 (by omega) (by omega) (by decide) (by decide) (by decide) (by decide) (by decide) dX5_copy_119 ?_
                      refine g_iconst (pc := 122) (v := 0) E dX5_copy_122 (by decide) ?_
                      exact g_iret (pc := 123) E Z dX5_copy_123 ⟨_, rfl, Or.inr ⟨S, T, hS, rfl, hT, rfl, Or.inr (Or.inr (Or.inr ⟨hno, c_52, I, K, N, rfl, rfl, rfl, (by omega), (by omega), (by omega), (by omega), rfl, rfl⟩))⟩⟩
                    · have k96 := c_96
                      rw [q_ile, s96] at k96
                      refine g_bipush (pc := 99) (v := -6) E dX5_copy_99 (by decide) ?_
                      exact g_iret (pc := 101) E Z dX5_copy_101 ⟨_, rfl, Or.inr ⟨S, T, hS, rfl, hT, rfl, Or.inr (Or.inr (Or.inl ⟨hno, c_52, (by omega), rfl, rfl⟩))⟩⟩
          · refine g_bipush (pc := 55) (v := -7) E dX5_copy_55 (by decide) ?_
            exact g_iret (pc := 57) E Z dX5_copy_57 ⟨_, rfl, Or.inr ⟨S, T, hS, rfl, hT, rfl, Or.inr (Or.inl ⟨hno, c_52, rfl, rfl⟩)⟩⟩
        · refine g_bipush (pc := 37) (v := -5) E dX5_copy_37 (by decide) ?_
          exact g_iret (pc := 39) E Z dX5_copy_39 ⟨_, rfl, Or.inr ⟨S, T, hS, rfl, hT, rfl, Or.inl ⟨(by first | exact Or.inl c_24 | exact Or.inr c_34), rfl, rfl⟩⟩⟩
    · have k_11 := q_b0.mp c_11
      refine g_bipush (pc := 14) (v := -2) E dX5_copy_14 (by decide) ?_
      exact g_iret (pc := 16) E Z dX5_copy_16 ⟨_, rfl, Or.inl ⟨(by first | exact fun q => k_4 q.1 | exact fun q => k_11 q.2), rfl, rfl⟩⟩
set_option maxHeartbeats 4000000 in
set_option maxRecDepth 100000 in
theorem c_X7_paste {n : Nat} {sB tB : Bool} {f : Nat → Nat → Int32} {g : Nat → Nat → Int64} (h10 : n ≤ 10) (hlen : ∀ S, S ≤ 3 → f 20 S = -1 ∨ ∃ z : Nat, z ≤ 60 ∧ f 20 S = nI z) (s i t k m : Int32) : q_ConI yX7_paste cX7_paste 6 (some .int) 2 65 tyX (alX n sB tB) [.ref 0, .int s, .int i, .int t, .int k, .int m] (f, g, rfX n sB tB) (fun v h' => (¬ ((0 ≤ s.toInt ∧ s.toInt ≤ 3) ∧ (0 ≤ t.toInt ∧ t.toInt ≤ 3)) ∧ v = -2 ∧ h' = (f, g, rfX n sB tB)) ∨ (∃ S T : Nat, S ≤ 3 ∧ s = nI S ∧ T ≤ 3 ∧ t = nI T ∧ (((f 20 S = -1 ∨ f 20 T = -1) ∧ v = -5 ∧ h' = (f, g, rfX n sB tB)) ∨ (¬ (f 20 S = -1 ∨ f 20 T = -1) ∧ ¬ f 19 S = f 19 T ∧ v = -7 ∧ h' = (f, g, rfX n sB tB)) ∨ (¬ (f 20 S = -1 ∨ f 20 T = -1) ∧ f 19 S = f 19 T ∧ ¬ (0 ≤ i.toInt ∧ 0 ≤ k.toInt ∧ 0 ≤ m.toInt ∧ i.toInt + m.toInt ≤ (f 20 S).toInt ∧ k.toInt + m.toInt ≤ (f 20 T).toInt) ∧ v = -6 ∧ h' = (f, g, rfX n sB tB)) ∨ (¬ (f 20 S = -1 ∨ f 20 T = -1) ∧ f 19 S = f 19 T ∧ ∃ I K N : Nat, i = nI I ∧ k = nI K ∧ m = nI N ∧ ((I + N : Nat) : Int) ≤ (f 20 S).toInt ∧ ((K + N : Nat) : Int) ≤ (f 20 T).toInt ∧ I + N ≤ 60 ∧ K + N ≤ 60 ∧ v = 0 ∧ h' = (f, va_up g (T + 15) (va_cpy (g (S + 15)) (g (T + 15)) I K N), rfX n sB tB))))) := by
  refine q_Con.of RX7 [some (.ref 0), some (.int s), some (.int i), some (.int t), some (.int k), some (.int m)] (by decide +kernel) rfl rfl (Nat.le_of_ble_eq_true rfl) (fun C ad E Z => ?_)
  refine g_aload_0 (pc := 0) E dX7_paste_0 ?_
  refine g_getR (pc := 1) E (by first | assumption | rfl) (by first | assumption | rfl) fl_X7_26 rfl (by first | assumption | rfl) dX7_paste_1 ?_
  refine g_iload_1 (pc := 4) E dX7_paste_4 ?_
  refine g_iload_2 (pc := 5) E dX7_paste_5 ?_
  refine g_iload_3 (pc := 6) E dX7_paste_6 ?_
  refine g_iload_4 (pc := 7) E dX7_paste_7 ?_
  refine g_iload_5 (pc := 9) E dX7_paste_9 ?_
  refine g_cVi5 (pc := 11) E (c_X5_copy h10 (by exact hlen) s i t k m) cw_X7_256 (by decide) (by decide) (by first | assumption | rfl) (by first | assumption | rfl) (Nat.le_of_ble_eq_true rfl) dX7_paste_11 (fun v_11 h_11 hp => ?_)
  skip
  exact g_iret (pc := 14) E Z dX7_paste_14 ⟨_, rfl, hp⟩
theorem q_m12 {z : Nat} (hz : z ≤ 60) : (if (12 : Int32) < nI z then (12 : Int32) else nI z) = nI (q_min12 z) := by
  show (if nI 12 < nI z then nI 12 else nI z) = _
  unfold q_min12
  by_cases e : z < 12
  · rw [if_pos e, if_neg (fun q => absurd ((nI_ltI (a := 12) (b := z) (by omega) (by omega)).mp q) (by omega))]
  · rw [if_neg e]
    by_cases e2 : z = 12
    · subst e2; decide
    · rw [if_pos (nI_lt (a := 12) (b := z) (by omega) (by omega))]
theorem q_frm0 {ln : Nat → Int32} {nb : Nat → Nat → Int64} {s : Int32} {top : Int} {X : Type} {x y : X} {R : Nat → Nat → Prop} (hlen : ∀ S, S ≤ 3 → ln S = -1 ∨ ∃ z : Nat, z ≤ 60 ∧ ln S = nI z) (exy : x = y) (h : ¬ q_rfX ln nb 0 s top = 0) : (¬ (0 ≤ s.toInt ∧ s.toInt ≤ 3) ∧ q_rfX ln nb 0 s top = -2 ∧ x = y) ∨ (∃ S : Nat, S ≤ 3 ∧ s = nI S ∧ ((ln S = -1 ∧ q_rfX ln nb 0 s top = -5 ∧ x = y) ∨ ∃ z : Nat, z ≤ 60 ∧ ln S = nI z ∧ R S z)) := by
  by_cases e1 : 0 ≤ s.toInt ∧ s.toInt ≤ 3
  · obtain ⟨S, hS, rfl⟩ := q_nat (b := 3) e1.1 e1.2
    have kS : (nI S).toNatClampNeg = S := nI_clamp (by omega)
    refine Or.inr ⟨S, hS, rfl, Or.inl ?_⟩
    unfold q_rfX at h ⊢
    rw [if_neg (not_not_intro e1), kS] at h ⊢
    by_cases e2 : ln S = -1
    · rw [if_pos e2]; exact ⟨e2, rfl, exy⟩
    · rw [if_neg e2] at h
      obtain ⟨z, hz, ez⟩ := (hlen S hS).resolve_left e2
      rw [ez, if_neg (fun q => absurd ((nI_ltI (by omega) (by omega)).mp q) (by omega)), if_pos (fun c hc => absurd hc (Nat.not_lt_zero c))] at h
      exact absurd rfl h
  · refine Or.inl ⟨e1, ?_, exy⟩
    unfold q_rfX
    rw [if_pos e1]
set_option maxHeartbeats 4000000 in
set_option maxRecDepth 100000 in
theorem c_X7_frameOf {n : Nat} {sB tB : Bool} {f : Nat → Nat → Int32} {g : Nat → Nat → Int64} (hn : f 1 1 = nI n) (h10 : n ≤ 10) (hlen : ∀ S, S ≤ 3 → f 20 S = -1 ∨ ∃ z : Nat, z ≤ 60 ∧ f 20 S = nI z) (s : Int32) : q_ConI yX7_frameOf cX7_frameOf 5 (some .int) 5 110 tyX (alX n sB tB) [.ref 0, .int s] (f, g, rfX n sB tB) (fun v h' => (¬ (0 ≤ s.toInt ∧ s.toInt ≤ 3) ∧ v = -2 ∧ h' = (f, g, rfX n sB tB)) ∨ (∃ S : Nat, S ≤ 3 ∧ s = nI S ∧ ((f 20 S = -1 ∧ v = -5 ∧ h' = (f, g, rfX n sB tB)) ∨ ∃ z : Nat, z ≤ 60 ∧ f 20 S = nI z ∧ ((z = 0 ∧ v = -8 ∧ h' = (f, g, rfX n sB tB)) ∨ (0 < z ∧ ¬ (∀ k, k < q_min12 z → 0 ≤ (q_nbX g S k).toInt ∧ (q_nbX g S k).toInt < 2 ^ n) ∧ v = -4 ∧ h' = (f, g, rfX n sB tB)) ∨ (0 < z ∧ (∀ k, k < q_min12 z → 0 ≤ (q_nbX g S k).toInt ∧ (q_nbX g S k).toInt < 2 ^ n) ∧ v = nI (q_min12 z) ∧ h' = (q_up (q_fill f 21 0 (q_min12 z) (fun k => (q_nbX g S k).toInt32)) 4 1 (nI (q_min12 z)), g, rfX n sB tB)))))) := by
  refine q_Con.of RX7 [some (.ref 0), some (.int s), none, none, none] (by decide +kernel) rfl rfl (Nat.le_of_ble_eq_true rfl) (fun C ad E Z => ?_)
  have h0 : 0 < 2 ^ n := Nat.pow_pos (by decide)
  have p10 : 2 ^ n ≤ 2 ^ 10 := Nat.pow_le_pow_right (by decide) h10
  have hpc : ((2 ^ n : Nat) : Int) = (2 : Int) ^ n := by simp
  have hpi : (nI (2 ^ n - 1)).toInt = (2 : Int) ^ n - 1 := by
    rw [nI_toInt (by omega), ← hpc]
    generalize 2 ^ n = P at h0
    omega
  have L : ∀ S z : Nat, S ≤ 3 → s = nI S → z ≤ 60 → f 20 S = nI z → 0 < z → (∀ k, k < q_min12 z → 0 ≤ (q_nbX g S k).toInt ∧ (q_nbX g S k).toInt < 2 ^ n) → ∀ (x2 : Option Value), ∀ i, i ≤ q_min12 z → gg C tyX 5 0 0 (alX n sB tB) ad 63 [some (.ref 0), some (.int s), x2, some (.int (nI (q_min12 z))), some (.int (nI i))] [] (q_fill f 21 0 i (fun k => (q_nbX g S k).toInt32), g, rfX n sB tB) := by
    intro S z hS es hz ez hz0 hall x2
    subst es
    have h12 : q_min12 z ≤ 12 ∧ q_min12 z ≤ z := by unfold q_min12; split <;> omega
    refine q_loop (q_min12 z) (fun i hi ih => ?_)
    refine g_iload_4 (pc := 63) E dX7_frameOf_63 ?_
    refine g_iload_3 (pc := 65) E dX7_frameOf_65 ?_
    refine g_icmp_ge (pc := 66) (tgt := 96) E dX7_frameOf_66 (by decide) (fun c_66 => ?_) (fun c_66 => ?_)
    · have e_66 := (q_ge (x := q_min12 z) (y := i) rfl rfl (by omega) (by omega)).mp c_66
      refine g_aload_0 (pc := 96) E dX7_frameOf_96 ?_
      refine g_getR (pc := 97) E (by first | assumption | rfl) (by first | assumption | rfl) fl_X7_33 rfl (by first | assumption | rfl) dX7_frameOf_97 ?_
      refine g_iload_3 (pc := 100) E dX7_frameOf_100 ?_
      refine g_putI (pc := 101) E (by first | assumption | rfl) (by first | assumption | rfl) fw_X7_150 rfl dX7_frameOf_101 ?_
      refine g_iload_3 (pc := 104) E dX7_frameOf_104 ?_
      exact g_iret (pc := 105) E Z dX7_frameOf_105 ⟨_, rfl, Or.inr ⟨S, hS, rfl, Or.inr ⟨z, hz, ez, Or.inr (Or.inr ⟨hz0, hall, rfl, (by rw [show i = q_min12 z by omega])⟩)⟩⟩⟩
    · have e_66 := (not_congr (q_ge (x := q_min12 z) (y := i) rfl rfl (by omega) (by omega))).mp c_66
      refine g_aload_0 (pc := 69) E dX7_frameOf_69 ?_
      refine g_getR (pc := 70) E (by first | assumption | rfl) (by first | assumption | rfl) fl_X7_33 rfl (by first | assumption | rfl) dX7_frameOf_70 ?_
      refine g_getR (pc := 73) E (by first | assumption | rfl) (by first | assumption | rfl) fl_X7_174 rfl (by first | assumption | rfl) dX7_frameOf_73 ?_
      refine g_iload_4 (pc := 76) E dX7_frameOf_76 ?_
      refine g_aload_0 (pc := 78) E dX7_frameOf_78 ?_
      refine g_getR (pc := 79) E (by first | assumption | rfl) (by first | assumption | rfl) fl_X7_26 rfl (by first | assumption | rfl) dX7_frameOf_79 ?_
      refine g_iload_1 (pc := 82) E dX7_frameOf_82 ?_
      refine g_iload_4 (pc := 83) E dX7_frameOf_83 ?_
      refine g_cVl2 (pc := 85) E (c_X5_number (by rw [q_fill_ne (by decide)]; exact hlen) _ _) cw_X7_121 (by decide) (by decide) (by first | assumption | rfl) (by first | assumption | rfl) (Nat.le_of_ble_eq_true rfl) dX7_frameOf_85 (fun v_85 h_85 hp => ?_)
      obtain ⟨rfl, rfl⟩ := hp
      refine g_l2i (pc := 88) E dX7_frameOf_88 ?_
      refine g_iast (pc := 89) E (by first | assumption | rfl) (by first | assumption | rfl) dX7_frameOf_89 (q_ix_n (by omega)) ?_
      refine g_iinc_4 (pc := 90) (u := 1) E dX7_frameOf_90 (by decide) (by decide) rfl ?_
      refine g_goto (pc := 93) (tgt := 63) E dX7_frameOf_93 (by decide) ?_
      rw [nI_1]
      have e := ih (by omega)
      rw [← q_fill_s (w := (q_num (f 20) (q_nbX g) (nI S) (nI i)).toInt32) (by rw [q_num_in hS hz ez (by omega)])] at e
      rw [Nat.zero_add] at e
      exact e
  refine g_aload_0 (pc := 0) E dX7_frameOf_0 ?_
  refine g_getR (pc := 1) E (by first | assumption | rfl) (by first | assumption | rfl) fl_X7_26 rfl (by first | assumption | rfl) dX7_frameOf_1 ?_
  refine g_iload_1 (pc := 4) E dX7_frameOf_4 ?_
  refine g_iconst (pc := 5) (v := 0) E dX7_frameOf_5 (by decide) ?_
  refine g_iconst (pc := 6) (v := 0) E dX7_frameOf_6 (by decide) ?_
  refine g_cVi3 (pc := 7) E (c_X5_refusal (by exact hlen) s 0 (by decide) 0) cw_X7_117 (by decide) (by decide) (by first | assumption | rfl) (by first | assumption | rfl) (Nat.le_of_ble_eq_true rfl) dX7_frameOf_7 (fun v_7 h_7 hp => ?_)
  obtain ⟨rfl, rfl⟩ := hp
  refine g_istore_2 (pc := 10) E dX7_frameOf_10 (by decide) rfl ?_
  refine g_iload_2 (pc := 11) E dX7_frameOf_11 ?_
  refine g_if_eq (pc := 12) (tgt := 17) E dX7_frameOf_12 (by decide) (fun c_12 => ?_) (fun c_12 => ?_)
  · refine g_aload_0 (pc := 17) E dX7_frameOf_17 ?_
    refine g_getR (pc := 18) E (by first | assumption | rfl) (by first | assumption | rfl) fl_X7_26 rfl (by first | assumption | rfl) dX7_frameOf_18 ?_
    refine g_iload_1 (pc := 21) E dX7_frameOf_21 ?_
    refine g_cVi1 (pc := 22) E (c_X5_lengthOf _) cw_X7_177 (by decide) (by decide) (by first | assumption | rfl) (by first | assumption | rfl) (Nat.le_of_ble_eq_true rfl) dX7_frameOf_22 (fun v_22 h_22 hp => ?_)
    obtain ⟨rfl, rfl⟩ := hp
    refine g_bipush (pc := 25) (v := 12) E dX7_frameOf_25 (by decide) ?_
    refine g_cSi2 (pc := 27) E (c_J9_min_7cf53 _ _) cw_X7_181 (by decide) (by decide) (Nat.le_of_ble_eq_true rfl) dX7_frameOf_27 (fun v_27 h_27 hp => ?_)
    obtain ⟨rfl, rfl⟩ := hp
    obtain ⟨S, z, hS, rfl, hz, ez, -⟩ := q_rfX_0 hlen (by decide) c_12
    have e3 : (if (12 : Int32) < q_len (f 20) (nI S) then (12 : Int32) else q_len (f 20) (nI S)) = nI (q_min12 z) := by
      rw [show q_len (f 20) (nI S) = nI z from by unfold q_len; rw [if_pos (by rw [nI_toInt (by omega)]; omega), nI_clamp (by omega), ez]]
      exact q_m12 hz
    rw [e3]
    have h12 : q_min12 z ≤ 12 ∧ q_min12 z ≤ z := by unfold q_min12; split <;> omega
    refine g_istore_3 (pc := 30) E dX7_frameOf_30 (by decide) rfl ?_
    refine g_iload_3 (pc := 31) E dX7_frameOf_31 ?_
    refine g_if_ne (pc := 32) (tgt := 38) E dX7_frameOf_32 (by decide) (fun c_32 => ?_) (fun c_32 => ?_)
    · have hz0 : 0 < z := by
        rcases Nat.eq_zero_or_pos z with q | q
        · exact absurd (by rw [q]; rfl) c_32
        · exact q
      refine g_aload_0 (pc := 38) E dX7_frameOf_38 ?_
      refine g_getR (pc := 39) E (by first | assumption | rfl) (by first | assumption | rfl) fl_X7_26 rfl (by first | assumption | rfl) dX7_frameOf_39 ?_
      refine g_iload_1 (pc := 42) E dX7_frameOf_42 ?_
      refine g_iload_3 (pc := 43) E dX7_frameOf_43 ?_
      refine g_aload_0 (pc := 44) E dX7_frameOf_44 ?_
      refine g_getR (pc := 45) E (by first | assumption | rfl) (by first | assumption | rfl) fl_X7_12 rfl (by first | assumption | rfl) dX7_frameOf_45 ?_
      refine g_cVi0 (pc := 48) E (c_X2_allCells (by exact hn) h10) cw_X7_131 (by decide) (by decide) (by first | assumption | rfl) (by first | assumption | rfl) (Nat.le_of_ble_eq_true rfl) dX7_frameOf_48 (fun v_48 h_48 hp => ?_)
      obtain ⟨rfl, rfl⟩ := hp
      refine g_cVi3 (pc := 51) E (c_X5_areWithin (by exact hlen) _ (q_min12 z) (by omega) _) cw_X7_187 (by decide) (by decide) (by first | assumption | rfl) (by first | assumption | rfl) (Nat.le_of_ble_eq_true rfl) dX7_frameOf_51 (fun v_51 h_51 hp => ?_)
      obtain ⟨rfl, rfl⟩ := hp
      refine g_if_ne (pc := 54) (tgt := 60) E dX7_frameOf_54 (by decide) (fun c_54 => ?_) (fun c_54 => ?_)
      · have k_54 := q_b1.mp c_54
        rw [hpi] at k_54
        have hall : ∀ k, k < q_min12 z → 0 ≤ (q_nbX g S k).toInt ∧ (q_nbX g S k).toInt < 2 ^ n := fun k hk => by
          have q := k_54 k hk
          rw [q_num_in hS hz ez (by omega)] at q
          exact ⟨q.1, by omega⟩
        refine g_iconst (pc := 60) (v := 0) E dX7_frameOf_60 (by decide) ?_
        refine g_istore_4 (pc := 61) E dX7_frameOf_61 (by decide) rfl ?_
        have e := fun x2 => L S z hS rfl hz ez hz0 hall x2 0 (Nat.zero_le _)
        simp only [q_fill_0] at e
        exact e _
      · have k_54 := q_b0.mp c_54
        rw [hpi] at k_54
        have hall : ¬ (∀ k, k < q_min12 z → 0 ≤ (q_nbX g S k).toInt ∧ (q_nbX g S k).toInt < 2 ^ n) := fun hq => k_54 (fun k hk => by
          have q := hq k hk
          rw [q_num_in hS hz ez (by omega)]
          exact ⟨q.1, by omega⟩)
        refine g_bipush (pc := 57) (v := -4) E dX7_frameOf_57 (by decide) ?_
        exact g_iret (pc := 59) E Z dX7_frameOf_59 ⟨_, rfl, Or.inr ⟨S, hS, rfl, Or.inr ⟨z, hz, ez, Or.inr (Or.inl ⟨hz0, hall, rfl, rfl⟩)⟩⟩⟩
    · have hz0 : z = 0 := by
        have q : q_min12 z = 0 := (nI_eq (by omega) (by omega)).mp c_32
        unfold q_min12 at q
        split at q <;> omega
      refine g_bipush (pc := 35) (v := -8) E dX7_frameOf_35 (by decide) ?_
      exact g_iret (pc := 37) E Z dX7_frameOf_37 ⟨_, rfl, Or.inr ⟨S, hS, rfl, Or.inr ⟨z, hz, ez, Or.inl ⟨hz0, rfl, rfl⟩⟩⟩⟩
  · have k12 := c_12
    unfold q_rfX at k12
    refine g_iload_2 (pc := 15) E dX7_frameOf_15 ?_
    exact g_iret (pc := 16) E Z dX7_frameOf_16 ⟨_, rfl, q_frm0 hlen rfl c_12⟩
