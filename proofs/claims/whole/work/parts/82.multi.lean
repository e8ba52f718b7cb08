/-! a row of rows is made at once -/
theorem q_s1 : "[" ++ (FieldType.array .long).toString = "[[J" := by decide
theorem q_n4 : (4 : Int32).toNatClampNeg = 4 := by decide
theorem q_n60 : (60 : Int32).toNatClampNeg = 60 := by decide
theorem q_alM_in {al : Nat → Bool} {o x : Nat} (h : o ≤ x ∧ x < o + 5) : q_alM al o x = true := if_pos h
theorem q_alM_out {al : Nat → Bool} {o x : Nat} (h : ¬ (o ≤ x ∧ x < o + 5)) : q_alM al o x = al x := if_neg h
theorem q_adM_in {ad : Nat → Nat} {o z x : Nat} (h : o ≤ x ∧ x < o + 5) : q_adM ad o z x = z + (x - o) := if_pos h
theorem q_adM_out {ad : Nat → Nat} {o z x : Nat} (h : ¬ (o ≤ x ∧ x < o + 5)) : q_adM ad o z x = ad x := if_neg h
theorem q_cl.multi {al : Nat → Bool} {r : Nat → Nat → Option Nat} {o : Nat} (h : q_cl al r) (hfr : ∀ x, o ≤ x → x < o + 5 → al x = false) (hr0 : ∀ x, o < x → x < o + 5 → r x = fun _ => none) : q_cl (q_alM al o) (q_rM r o) := by
  intro b k c hb hr
  by_cases e : b = o
  · subst e
    unfold q_rM at hr
    rw [va_up_s] at hr
    split at hr
    · cases hr; exact q_alM_in (by omega)
    · cases hr
  · unfold q_rM at hr
    rw [va_up_n e] at hr
    by_cases e2 : o ≤ b ∧ b < o + 5
    · rw [hr0 b (by omega) e2.2] at hr; cases hr
    · rw [q_alM_out e2] at hb
      have hc := h b k c hb hr
      by_cases e3 : o ≤ c ∧ c < o + 5
      · exact q_alM_in e3
      · rw [q_alM_out e3]; exact hc
theorem q_Kp.multi {al0 al : Nat → Bool} {ad0 ad : Nat → Nat} {o z : Nat} (K : q_Kp al0 ad0 al ad) (hfr : ∀ x, o ≤ x → x < o + 5 → al x = false) : q_Kp al0 ad0 (q_alM al o) (q_adM ad o z) := fun b hb => by
  obtain ⟨h1, h2⟩ := K b hb
  have hn : ¬ (o ≤ b ∧ b < o + 5) := fun q => by rw [hfr b q.1 q.2] at h1; cases h1
  rw [q_alM_out hn, q_adM_out hn]
  exact ⟨h1, h2⟩
section GM4
variable {C : q_Ctx} {ty : Nat → PT} {cc : ByteArray} {nL kc ks mc ms : Nat} {own : String} {al : Nat → Bool} {ad : Nat → Nat} {FR LO : Nat} {pc : Nat} {ls : List (Option Value)} {st : List Value} {f : Nat → Nat → Int32} {g : Nat → Nat → Int64} {r : Nat → Nat → Option Nat}
set_option maxHeartbeats 4000000 in
theorem g_multi {o idx : Nat} (E : q_Ev C cc nL own al ad FR LO) (V : q_Nv C mc ms) (hkl : Cond.classLink own idx "[[J" ∈ lw_tbl) (hfr : ∀ x, o ≤ x → x < o + 5 → al x = false) (hcl : q_cl al r) (hr0 : ∀ x, o < x → x < o + 5 → r x = fun _ => none) (hty : ty o = .inl (.array .long, 4)) (htys : ∀ j, j < 4 → ty (o + 1 + j) = .inl (.long, 60)) (hv : q_okb al ls st = true) (hkc : kc + 5 ≤ mc) (hks : ks + 244 ≤ ms) (hd : decode cc pc = .ok (.multianewarray idx 2, 4))
    (k : ∀ z, q_Ev C cc nL own (q_alM al o) (q_adM ad o z) FR LO → gg C ty nL (kc + 5) (ks + 244) (q_alM al o) (q_adM ad o z) (pc + 4) ls (.ref o :: st) (f, q_gM g o, q_rM r o)) : gg C ty nL kc ks al ad pc ls (.int 60 :: .int 4 :: st) (f, g, r) := by
  obtain ⟨⟨p, l, e, R, s⟩, ⟨m, args, below, meth, c⟩, ⟨D, ca, A, Q⟩⟩ := C
  intro H locs lsA hZ hR hS hl T hT X
  obtain ⟨hx, hb, hml, hown, hTT, hJ, hA, hFR, hLO⟩ := E
  obtain ⟨v1, v2, v3⟩ := V
  obtain ⟨vm₁, cA, comp, hW, hfA, hfC, -, -, X1, step⟩ := X.multianewarray2F (ty := .long) (n := 4) (k := 60) hx hown (by rw [q_s1]; exact hTT.1 _ hkl rfl _) (hTT.1 _ ar_arrayOver_arraylong rfl _) (hTT.1 _ ar_arrayClass_long rfl _) (g := F0 m pc lsA ((.int 60 :: .int 4 :: st).map (q_cv ad))) rfl (by rw [hb]; exact hd) rfl (by decide) (by decide) (by decide) (by decide) (by decide) rfl rfl (by rw [q_n4]; omega) (by rw [q_n4, q_n60]; omega)
  rw [q_n4, q_n60] at X1 step
  have hTv : (T.setVm vm₁).heap = H := hT
  obtain ⟨fz, fo, -, -⟩ := Jvm.Free.Multi.fill_facts (T.setVm vm₁) cA comp 4 60 (defaultValue .long) 4
  have fin := Jvm.Free.Multi.fill_inner (T.setVm vm₁) cA comp 4 60 (defaultValue .long) 4
  have fold : ∀ a : Nat, a < H.size → (Jvm.Free.Multi.fill (T.setVm vm₁) cA comp 4 60 (defaultValue .long) 4).heap[a]? = H[a]? := fun a ha => by
    have := Jvm.Free.Multi.fill_old (T.setVm vm₁) cA comp 4 60 (defaultValue .long) (a := a) (by rw [hTv]; exact ha) 4
    rw [this, hTv]
  rw [hTv] at fz fo fin
  generalize hT1 : Jvm.Free.Multi.fill (T.setVm vm₁) cA comp 4 60 (defaultValue .long) 4 = T1 at *
  have hcA : cA = ca (.array .long) := Option.some.inj (hfA.symm.trans (hTT.2.2 5 (ca (.array .long), .array .long) rfl).2)
  have hcI : comp = ca .long := Option.some.inj (hfC.symm.trans (hTT.2.2 1 (ca .long, .long) rfl).2)
  subst hcA; subst hcI
  have hout : ∀ b, al b = true → ¬ (o ≤ b ∧ b < o + 5) := fun b hb q => by rw [hfr b q.1 q.2] at hb; cases hb
  have hkeep : ∀ b, al b = true → q_adM ad o H.size b = ad b := fun b hb => q_adM_out (hout b hb)
  have hR2 : q_R D ca ty (q_alM al o) (q_adM ad o H.size) (f, q_gM g o, q_rM r o) T1.heap := by
    intro b hb
    by_cases e1 : b = o
    · subst e1
      rw [q_adM_in (by omega), Nat.sub_self, Nat.add_zero, hty]
      show T1.heap[H.size]? = some (vp_cell _ (4, .inr (.inr (.inr (.inr (fun i => (q_rM r b b i).map (q_adM ad b H.size)))))))
      rw [fo, q_outer, vp_cell_q]
      congr 2
      funext j
      unfold q_rM
      rw [va_up_s]
      by_cases ej : j < 4
      · rw [if_pos ej, if_pos ej, Option.map_some, q_adM_in (by omega)]
        congr 2
        omega
      · rw [if_neg ej, if_neg ej]; rfl
    · by_cases e2 : o ≤ b ∧ b < o + 5
      · obtain ⟨j, hj, rfl⟩ : ∃ j, j < 4 ∧ b = o + 1 + j := ⟨b - (o + 1), by omega, by omega⟩
        rw [q_adM_in e2, htys j hj, show H.size + (o + 1 + j - o) = H.size + 1 + j by omega]
        show T1.heap[H.size + 1 + j]? = some (vp_cell _ (60, .inr (.inl (q_gM g o (o + 1 + j)))))
        rw [fin j hj, show q_gM g o (o + 1 + j) = (fun _ => 0) from if_pos (by omega)]
        exact congrArg some (arrV_new (ca .long) 60 (.long 0))
      · rw [q_alM_out e2] at hb
        rw [q_adM_out e2]
        have h0 := hR b hb
        have h1 := h0.kept (fold _ h0.lt)
        have hg2 : q_gM g o b = g b := if_neg (by omega)
        have hq : q_E ca (q_adM ad o H.size) (f, q_gM g o, q_rM r o) (ty b) b = q_E ca ad (f, g, r) (ty b) b := by
          refine q_En rfl hg2 (fun k => ?_)
          show ((va_up r o _) b k).map _ = (r b k).map ad
          rw [va_up_n e1]
          cases hr : r b k with
          | none => rfl
          | some c => exact congrArg some (hkeep c (hcl b k c hb hr))
        rw [hq]
        exact h1
  have hJ2 : q_J (q_alM al o) (q_adM ad o H.size) := by
    intro a b ha hb he
    have lt : ∀ x, al x = true → ad x < H.size := fun x hx => (hR x hx).lt
    by_cases ea : o ≤ a ∧ a < o + 5
    · by_cases eb : o ≤ b ∧ b < o + 5
      · rw [q_adM_in ea, q_adM_in eb] at he; omega
      · rw [q_adM_in ea, q_adM_out eb] at he
        rw [q_alM_out eb] at hb
        have := lt b hb; omega
    · by_cases eb : o ≤ b ∧ b < o + 5
      · rw [q_adM_out ea, q_adM_in eb] at he
        rw [q_alM_out ea] at ha
        have := lt a ha; omega
      · rw [q_adM_out ea, q_adM_out eb] at he
        rw [q_alM_out ea] at ha
        rw [q_alM_out eb] at hb
        exact hJ a b ha hb he
  have K := k H.size ⟨hx, hb, hml, hown, hTT, hJ2, fun b hb => by
    by_cases eb : o ≤ b ∧ b < o + 5
    · rw [q_adM_in eb]; exact v1 _ (Nat.le_trans hS.1 (by omega))
    · rw [q_alM_out eb] at hb
      rw [q_adM_out eb]; exact hA b hb, hFR, hLO⟩
  have K2 := K T1.heap locs lsA ⟨by omega, by omega⟩ hR2 ⟨Nat.le_trans hS.1 (by rw [fz]; omega), fun x h1 h2 => (fold x (Nat.lt_of_lt_of_le h1 hS.1)).trans (hS.2.1 x h1 h2), hS.2.2⟩ (q_okb.ls hv hkeep hl)
  have hz0 : q_adM ad o H.size o = H.size := by rw [q_adM_in ⟨Nat.le_refl _, by omega⟩, Nat.sub_self, Nat.add_zero]
  rw [List.map_cons, q_okb.st hv hkeep, show q_cv (q_adM ad o H.size) (.ref o) = .ref H.size from congrArg Value.ref hz0] at K2
  obtain ⟨t, a1, b1⟩ := K2 T1 rfl X1
  refine ⟨t, step t ?_, b1⟩
  rw [hT]
  exact a1
end GM4
