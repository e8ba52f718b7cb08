/-! typed contracts, calls by the number of arguments, the two worlds -/
def q_ConI (y : MethodName) (cc : ByteArray) (maxL : Nat) (ret : Option FieldType) (fr lo : Nat) (ty : Nat → PT) (al : Nat → Bool) (as : List Value) (h : PH) (post : Int32 → PH → Prop) : Prop := q_Con y cc maxL ret fr lo ty al as h (fun r h' => ∃ v : Int32, r = some (.int v) ∧ post v h')
def q_ConL (y : MethodName) (cc : ByteArray) (maxL : Nat) (ret : Option FieldType) (fr lo : Nat) (ty : Nat → PT) (al : Nat → Bool) (as : List Value) (h : PH) (post : Int64 → PH → Prop) : Prop := q_Con y cc maxL ret fr lo ty al as h (fun r h' => ∃ v : Int64, r = some (.long v) ∧ post v h')
def q_ConV (y : MethodName) (cc : ByteArray) (maxL : Nat) (ret : Option FieldType) (fr lo : Nat) (ty : Nat → PT) (al : Nat → Bool) (as : List Value) (h : PH) (post : PH → Prop) : Prop := q_Con y cc maxL ret fr lo ty al as h (fun r h' => r = none ∧ post h')
section GN
variable {C : q_Ctx} {ty : Nat → PT} {cc : ByteArray} {nL kc ks : Nat} {own : String} {al : Nat → Bool} {ad : Nat → Nat} {FR LO : Nat} {pc : Nat} {ls : List (Option Value)} {st rest : List Value} {h : PH}
variable {y : MethodName} {cy : ByteArray} {maxL fr lo idx : Nat} {ret : Option FieldType}
theorem g_cVi0 {a ci : Nat} {post : Int32 → PH → Prop} (E : q_Ev C cc nL own al ad FR LO) (hC : q_ConI y cy maxL ret fr lo ty al [.ref a] h post) (hw : q_CV own idx ci y cy maxL ret 0) (hf1 : fr + 1 ≤ FR) (hf2 : 8 + (maxL + 11) + lo ≤ LO) (ha : al a = true) (hty : ty a = .inr ci) (hdep : (rest.map fun v => v.category).sum ≤ 8) (hd : decode cc pc = .ok (.invokevirtual idx, 3)) (k : ∀ (v : Int32) (h' : PH), post v h' → gg C ty nL kc ks al ad (pc + 3) ls (.int v :: rest) h') : gg C ty nL kc ks al ad pc ls (.ref a :: rest) h :=
  q_callV E hC hw rfl hf1 hf2 ha hty hdep hd rfl (fun r h' hp => by obtain ⟨v, rfl, hq⟩ := hp; exact k v h' hq)
theorem g_cSi0 {post : Int32 → PH → Prop} (E : q_Ev C cc nL own al ad FR LO) (hC : q_ConI y cy maxL ret fr lo ty al [] h post) (hw : q_CS own idx y cy maxL ret 0) (hf1 : fr + 1 ≤ FR) (hf2 : 8 + (maxL + 11) + lo ≤ LO) (hdep : (rest.map fun v => v.category).sum ≤ 8) (hd : decode cc pc = .ok (.invokestatic idx, 3)) (k : ∀ (v : Int32) (h' : PH), post v h' → gg C ty nL kc ks al ad (pc + 3) ls (.int v :: rest) h') : gg C ty nL kc ks al ad pc ls (rest) h :=
  q_callS E hC hw rfl hf1 hf2 hdep hd rfl (fun r h' hp => by obtain ⟨v, rfl, hq⟩ := hp; exact k v h' hq)
theorem g_cVl0 {a ci : Nat} {post : Int64 → PH → Prop} (E : q_Ev C cc nL own al ad FR LO) (hC : q_ConL y cy maxL ret fr lo ty al [.ref a] h post) (hw : q_CV own idx ci y cy maxL ret 0) (hf1 : fr + 1 ≤ FR) (hf2 : 8 + (maxL + 11) + lo ≤ LO) (ha : al a = true) (hty : ty a = .inr ci) (hdep : (rest.map fun v => v.category).sum ≤ 8) (hd : decode cc pc = .ok (.invokevirtual idx, 3)) (k : ∀ (v : Int64) (h' : PH), post v h' → gg C ty nL kc ks al ad (pc + 3) ls (.long v :: rest) h') : gg C ty nL kc ks al ad pc ls (.ref a :: rest) h :=
  q_callV E hC hw rfl hf1 hf2 ha hty hdep hd rfl (fun r h' hp => by obtain ⟨v, rfl, hq⟩ := hp; exact k v h' hq)
theorem g_cSl0 {post : Int64 → PH → Prop} (E : q_Ev C cc nL own al ad FR LO) (hC : q_ConL y cy maxL ret fr lo ty al [] h post) (hw : q_CS own idx y cy maxL ret 0) (hf1 : fr + 1 ≤ FR) (hf2 : 8 + (maxL + 11) + lo ≤ LO) (hdep : (rest.map fun v => v.category).sum ≤ 8) (hd : decode cc pc = .ok (.invokestatic idx, 3)) (k : ∀ (v : Int64) (h' : PH), post v h' → gg C ty nL kc ks al ad (pc + 3) ls (.long v :: rest) h') : gg C ty nL kc ks al ad pc ls (rest) h :=
  q_callS E hC hw rfl hf1 hf2 hdep hd rfl (fun r h' hp => by obtain ⟨v, rfl, hq⟩ := hp; exact k v h' hq)
theorem g_cVv0 {a ci : Nat} {post : PH → Prop} (E : q_Ev C cc nL own al ad FR LO) (hC : q_ConV y cy maxL ret fr lo ty al [.ref a] h post) (hw : q_CV own idx ci y cy maxL ret 0) (hf1 : fr + 1 ≤ FR) (hf2 : 8 + (maxL + 11) + lo ≤ LO) (ha : al a = true) (hty : ty a = .inr ci) (hdep : (rest.map fun v => v.category).sum ≤ 8) (hd : decode cc pc = .ok (.invokevirtual idx, 3)) (k : ∀ (h' : PH), post h' → gg C ty nL kc ks al ad (pc + 3) ls rest h') : gg C ty nL kc ks al ad pc ls (.ref a :: rest) h :=
  q_callV E hC hw rfl hf1 hf2 ha hty hdep hd rfl (fun r h' hp => by obtain ⟨rfl, hq⟩ := hp; exact k h' hq)
theorem g_cSv0 {post : PH → Prop} (E : q_Ev C cc nL own al ad FR LO) (hC : q_ConV y cy maxL ret fr lo ty al [] h post) (hw : q_CS own idx y cy maxL ret 0) (hf1 : fr + 1 ≤ FR) (hf2 : 8 + (maxL + 11) + lo ≤ LO) (hdep : (rest.map fun v => v.category).sum ≤ 8) (hd : decode cc pc = .ok (.invokestatic idx, 3)) (k : ∀ (h' : PH), post h' → gg C ty nL kc ks al ad (pc + 3) ls rest h') : gg C ty nL kc ks al ad pc ls (rest) h :=
  q_callS E hC hw rfl hf1 hf2 hdep hd rfl (fun r h' hp => by obtain ⟨rfl, hq⟩ := hp; exact k h' hq)
theorem g_cVi1 {v1 : Value} {a ci : Nat} {post : Int32 → PH → Prop} (E : q_Ev C cc nL own al ad FR LO) (hC : q_ConI y cy maxL ret fr lo ty al [.ref a, v1] h post) (hw : q_CV own idx ci y cy maxL ret 1) (hf1 : fr + 1 ≤ FR) (hf2 : 8 + (maxL + 11) + lo ≤ LO) (ha : al a = true) (hty : ty a = .inr ci) (hdep : (rest.map fun v => v.category).sum ≤ 8) (hd : decode cc pc = .ok (.invokevirtual idx, 3)) (k : ∀ (v : Int32) (h' : PH), post v h' → gg C ty nL kc ks al ad (pc + 3) ls (.int v :: rest) h') : gg C ty nL kc ks al ad pc ls (v1 :: .ref a :: rest) h :=
  q_callV E hC hw rfl hf1 hf2 ha hty hdep hd rfl (fun r h' hp => by obtain ⟨v, rfl, hq⟩ := hp; exact k v h' hq)
theorem g_cSi1 {v1 : Value} {post : Int32 → PH → Prop} (E : q_Ev C cc nL own al ad FR LO) (hC : q_ConI y cy maxL ret fr lo ty al [v1] h post) (hw : q_CS own idx y cy maxL ret 1) (hf1 : fr + 1 ≤ FR) (hf2 : 8 + (maxL + 11) + lo ≤ LO) (hdep : (rest.map fun v => v.category).sum ≤ 8) (hd : decode cc pc = .ok (.invokestatic idx, 3)) (k : ∀ (v : Int32) (h' : PH), post v h' → gg C ty nL kc ks al ad (pc + 3) ls (.int v :: rest) h') : gg C ty nL kc ks al ad pc ls (v1 :: rest) h :=
  q_callS E hC hw rfl hf1 hf2 hdep hd rfl (fun r h' hp => by obtain ⟨v, rfl, hq⟩ := hp; exact k v h' hq)
theorem g_cVl1 {v1 : Value} {a ci : Nat} {post : Int64 → PH → Prop} (E : q_Ev C cc nL own al ad FR LO) (hC : q_ConL y cy maxL ret fr lo ty al [.ref a, v1] h post) (hw : q_CV own idx ci y cy maxL ret 1) (hf1 : fr + 1 ≤ FR) (hf2 : 8 + (maxL + 11) + lo ≤ LO) (ha : al a = true) (hty : ty a = .inr ci) (hdep : (rest.map fun v => v.category).sum ≤ 8) (hd : decode cc pc = .ok (.invokevirtual idx, 3)) (k : ∀ (v : Int64) (h' : PH), post v h' → gg C ty nL kc ks al ad (pc + 3) ls (.long v :: rest) h') : gg C ty nL kc ks al ad pc ls (v1 :: .ref a :: rest) h :=
  q_callV E hC hw rfl hf1 hf2 ha hty hdep hd rfl (fun r h' hp => by obtain ⟨v, rfl, hq⟩ := hp; exact k v h' hq)
theorem g_cSl1 {v1 : Value} {post : Int64 → PH → Prop} (E : q_Ev C cc nL own al ad FR LO) (hC : q_ConL y cy maxL ret fr lo ty al [v1] h post) (hw : q_CS own idx y cy maxL ret 1) (hf1 : fr + 1 ≤ FR) (hf2 : 8 + (maxL + 11) + lo ≤ LO) (hdep : (rest.map fun v => v.category).sum ≤ 8) (hd : decode cc pc = .ok (.invokestatic idx, 3)) (k : ∀ (v : Int64) (h' : PH), post v h' → gg C ty nL kc ks al ad (pc + 3) ls (.long v :: rest) h') : gg C ty nL kc ks al ad pc ls (v1 :: rest) h :=
  q_callS E hC hw rfl hf1 hf2 hdep hd rfl (fun r h' hp => by obtain ⟨v, rfl, hq⟩ := hp; exact k v h' hq)
theorem g_cVv1 {v1 : Value} {a ci : Nat} {post : PH → Prop} (E : q_Ev C cc nL own al ad FR LO) (hC : q_ConV y cy maxL ret fr lo ty al [.ref a, v1] h post) (hw : q_CV own idx ci y cy maxL ret 1) (hf1 : fr + 1 ≤ FR) (hf2 : 8 + (maxL + 11) + lo ≤ LO) (ha : al a = true) (hty : ty a = .inr ci) (hdep : (rest.map fun v => v.category).sum ≤ 8) (hd : decode cc pc = .ok (.invokevirtual idx, 3)) (k : ∀ (h' : PH), post h' → gg C ty nL kc ks al ad (pc + 3) ls rest h') : gg C ty nL kc ks al ad pc ls (v1 :: .ref a :: rest) h :=
  q_callV E hC hw rfl hf1 hf2 ha hty hdep hd rfl (fun r h' hp => by obtain ⟨rfl, hq⟩ := hp; exact k h' hq)
theorem g_cSv1 {v1 : Value} {post : PH → Prop} (E : q_Ev C cc nL own al ad FR LO) (hC : q_ConV y cy maxL ret fr lo ty al [v1] h post) (hw : q_CS own idx y cy maxL ret 1) (hf1 : fr + 1 ≤ FR) (hf2 : 8 + (maxL + 11) + lo ≤ LO) (hdep : (rest.map fun v => v.category).sum ≤ 8) (hd : decode cc pc = .ok (.invokestatic idx, 3)) (k : ∀ (h' : PH), post h' → gg C ty nL kc ks al ad (pc + 3) ls rest h') : gg C ty nL kc ks al ad pc ls (v1 :: rest) h :=
  q_callS E hC hw rfl hf1 hf2 hdep hd rfl (fun r h' hp => by obtain ⟨rfl, hq⟩ := hp; exact k h' hq)
theorem g_cVi2 {v1 v2 : Value} {a ci : Nat} {post : Int32 → PH → Prop} (E : q_Ev C cc nL own al ad FR LO) (hC : q_ConI y cy maxL ret fr lo ty al [.ref a, v1, v2] h post) (hw : q_CV own idx ci y cy maxL ret 2) (hf1 : fr + 1 ≤ FR) (hf2 : 8 + (maxL + 11) + lo ≤ LO) (ha : al a = true) (hty : ty a = .inr ci) (hdep : (rest.map fun v => v.category).sum ≤ 8) (hd : decode cc pc = .ok (.invokevirtual idx, 3)) (k : ∀ (v : Int32) (h' : PH), post v h' → gg C ty nL kc ks al ad (pc + 3) ls (.int v :: rest) h') : gg C ty nL kc ks al ad pc ls (v2 :: v1 :: .ref a :: rest) h :=
  q_callV E hC hw rfl hf1 hf2 ha hty hdep hd rfl (fun r h' hp => by obtain ⟨v, rfl, hq⟩ := hp; exact k v h' hq)
theorem g_cSi2 {v1 v2 : Value} {post : Int32 → PH → Prop} (E : q_Ev C cc nL own al ad FR LO) (hC : q_ConI y cy maxL ret fr lo ty al [v1, v2] h post) (hw : q_CS own idx y cy maxL ret 2) (hf1 : fr + 1 ≤ FR) (hf2 : 8 + (maxL + 11) + lo ≤ LO) (hdep : (rest.map fun v => v.category).sum ≤ 8) (hd : decode cc pc = .ok (.invokestatic idx, 3)) (k : ∀ (v : Int32) (h' : PH), post v h' → gg C ty nL kc ks al ad (pc + 3) ls (.int v :: rest) h') : gg C ty nL kc ks al ad pc ls (v2 :: v1 :: rest) h :=
  q_callS E hC hw rfl hf1 hf2 hdep hd rfl (fun r h' hp => by obtain ⟨v, rfl, hq⟩ := hp; exact k v h' hq)
theorem g_cVl2 {v1 v2 : Value} {a ci : Nat} {post : Int64 → PH → Prop} (E : q_Ev C cc nL own al ad FR LO) (hC : q_ConL y cy maxL ret fr lo ty al [.ref a, v1, v2] h post) (hw : q_CV own idx ci y cy maxL ret 2) (hf1 : fr + 1 ≤ FR) (hf2 : 8 + (maxL + 11) + lo ≤ LO) (ha : al a = true) (hty : ty a = .inr ci) (hdep : (rest.map fun v => v.category).sum ≤ 8) (hd : decode cc pc = .ok (.invokevirtual idx, 3)) (k : ∀ (v : Int64) (h' : PH), post v h' → gg C ty nL kc ks al ad (pc + 3) ls (.long v :: rest) h') : gg C ty nL kc ks al ad pc ls (v2 :: v1 :: .ref a :: rest) h :=
  q_callV E hC hw rfl hf1 hf2 ha hty hdep hd rfl (fun r h' hp => by obtain ⟨v, rfl, hq⟩ := hp; exact k v h' hq)
theorem g_cSl2 {v1 v2 : Value} {post : Int64 → PH → Prop} (E : q_Ev C cc nL own al ad FR LO) (hC : q_ConL y cy maxL ret fr lo ty al [v1, v2] h post) (hw : q_CS own idx y cy maxL ret 2) (hf1 : fr + 1 ≤ FR) (hf2 : 8 + (maxL + 11) + lo ≤ LO) (hdep : (rest.map fun v => v.category).sum ≤ 8) (hd : decode cc pc = .ok (.invokestatic idx, 3)) (k : ∀ (v : Int64) (h' : PH), post v h' → gg C ty nL kc ks al ad (pc + 3) ls (.long v :: rest) h') : gg C ty nL kc ks al ad pc ls (v2 :: v1 :: rest) h :=
  q_callS E hC hw rfl hf1 hf2 hdep hd rfl (fun r h' hp => by obtain ⟨v, rfl, hq⟩ := hp; exact k v h' hq)
theorem g_cVv2 {v1 v2 : Value} {a ci : Nat} {post : PH → Prop} (E : q_Ev C cc nL own al ad FR LO) (hC : q_ConV y cy maxL ret fr lo ty al [.ref a, v1, v2] h post) (hw : q_CV own idx ci y cy maxL ret 2) (hf1 : fr + 1 ≤ FR) (hf2 : 8 + (maxL + 11) + lo ≤ LO) (ha : al a = true) (hty : ty a = .inr ci) (hdep : (rest.map fun v => v.category).sum ≤ 8) (hd : decode cc pc = .ok (.invokevirtual idx, 3)) (k : ∀ (h' : PH), post h' → gg C ty nL kc ks al ad (pc + 3) ls rest h') : gg C ty nL kc ks al ad pc ls (v2 :: v1 :: .ref a :: rest) h :=
  q_callV E hC hw rfl hf1 hf2 ha hty hdep hd rfl (fun r h' hp => by obtain ⟨rfl, hq⟩ := hp; exact k h' hq)
theorem g_cSv2 {v1 v2 : Value} {post : PH → Prop} (E : q_Ev C cc nL own al ad FR LO) (hC : q_ConV y cy maxL ret fr lo ty al [v1, v2] h post) (hw : q_CS own idx y cy maxL ret 2) (hf1 : fr + 1 ≤ FR) (hf2 : 8 + (maxL + 11) + lo ≤ LO) (hdep : (rest.map fun v => v.category).sum ≤ 8) (hd : decode cc pc = .ok (.invokestatic idx, 3)) (k : ∀ (h' : PH), post h' → gg C ty nL kc ks al ad (pc + 3) ls rest h') : gg C ty nL kc ks al ad pc ls (v2 :: v1 :: rest) h :=
  q_callS E hC hw rfl hf1 hf2 hdep hd rfl (fun r h' hp => by obtain ⟨rfl, hq⟩ := hp; exact k h' hq)
theorem g_cVi3 {v1 v2 v3 : Value} {a ci : Nat} {post : Int32 → PH → Prop} (E : q_Ev C cc nL own al ad FR LO) (hC : q_ConI y cy maxL ret fr lo ty al [.ref a, v1, v2, v3] h post) (hw : q_CV own idx ci y cy maxL ret 3) (hf1 : fr + 1 ≤ FR) (hf2 : 8 + (maxL + 11) + lo ≤ LO) (ha : al a = true) (hty : ty a = .inr ci) (hdep : (rest.map fun v => v.category).sum ≤ 8) (hd : decode cc pc = .ok (.invokevirtual idx, 3)) (k : ∀ (v : Int32) (h' : PH), post v h' → gg C ty nL kc ks al ad (pc + 3) ls (.int v :: rest) h') : gg C ty nL kc ks al ad pc ls (v3 :: v2 :: v1 :: .ref a :: rest) h :=
  q_callV E hC hw rfl hf1 hf2 ha hty hdep hd rfl (fun r h' hp => by obtain ⟨v, rfl, hq⟩ := hp; exact k v h' hq)
theorem g_cSi3 {v1 v2 v3 : Value} {post : Int32 → PH → Prop} (E : q_Ev C cc nL own al ad FR LO) (hC : q_ConI y cy maxL ret fr lo ty al [v1, v2, v3] h post) (hw : q_CS own idx y cy maxL ret 3) (hf1 : fr + 1 ≤ FR) (hf2 : 8 + (maxL + 11) + lo ≤ LO) (hdep : (rest.map fun v => v.category).sum ≤ 8) (hd : decode cc pc = .ok (.invokestatic idx, 3)) (k : ∀ (v : Int32) (h' : PH), post v h' → gg C ty nL kc ks al ad (pc + 3) ls (.int v :: rest) h') : gg C ty nL kc ks al ad pc ls (v3 :: v2 :: v1 :: rest) h :=
  q_callS E hC hw rfl hf1 hf2 hdep hd rfl (fun r h' hp => by obtain ⟨v, rfl, hq⟩ := hp; exact k v h' hq)
theorem g_cVl3 {v1 v2 v3 : Value} {a ci : Nat} {post : Int64 → PH → Prop} (E : q_Ev C cc nL own al ad FR LO) (hC : q_ConL y cy maxL ret fr lo ty al [.ref a, v1, v2, v3] h post) (hw : q_CV own idx ci y cy maxL ret 3) (hf1 : fr + 1 ≤ FR) (hf2 : 8 + (maxL + 11) + lo ≤ LO) (ha : al a = true) (hty : ty a = .inr ci) (hdep : (rest.map fun v => v.category).sum ≤ 8) (hd : decode cc pc = .ok (.invokevirtual idx, 3)) (k : ∀ (v : Int64) (h' : PH), post v h' → gg C ty nL kc ks al ad (pc + 3) ls (.long v :: rest) h') : gg C ty nL kc ks al ad pc ls (v3 :: v2 :: v1 :: .ref a :: rest) h :=
  q_callV E hC hw rfl hf1 hf2 ha hty hdep hd rfl (fun r h' hp => by obtain ⟨v, rfl, hq⟩ := hp; exact k v h' hq)
theorem g_cSl3 {v1 v2 v3 : Value} {post : Int64 → PH → Prop} (E : q_Ev C cc nL own al ad FR LO) (hC : q_ConL y cy maxL ret fr lo ty al [v1, v2, v3] h post) (hw : q_CS own idx y cy maxL ret 3) (hf1 : fr + 1 ≤ FR) (hf2 : 8 + (maxL + 11) + lo ≤ LO) (hdep : (rest.map fun v => v.category).sum ≤ 8) (hd : decode cc pc = .ok (.invokestatic idx, 3)) (k : ∀ (v : Int64) (h' : PH), post v h' → gg C ty nL kc ks al ad (pc + 3) ls (.long v :: rest) h') : gg C ty nL kc ks al ad pc ls (v3 :: v2 :: v1 :: rest) h :=
  q_callS E hC hw rfl hf1 hf2 hdep hd rfl (fun r h' hp => by obtain ⟨v, rfl, hq⟩ := hp; exact k v h' hq)
theorem g_cVv3 {v1 v2 v3 : Value} {a ci : Nat} {post : PH → Prop} (E : q_Ev C cc nL own al ad FR LO) (hC : q_ConV y cy maxL ret fr lo ty al [.ref a, v1, v2, v3] h post) (hw : q_CV own idx ci y cy maxL ret 3) (hf1 : fr + 1 ≤ FR) (hf2 : 8 + (maxL + 11) + lo ≤ LO) (ha : al a = true) (hty : ty a = .inr ci) (hdep : (rest.map fun v => v.category).sum ≤ 8) (hd : decode cc pc = .ok (.invokevirtual idx, 3)) (k : ∀ (h' : PH), post h' → gg C ty nL kc ks al ad (pc + 3) ls rest h') : gg C ty nL kc ks al ad pc ls (v3 :: v2 :: v1 :: .ref a :: rest) h :=
  q_callV E hC hw rfl hf1 hf2 ha hty hdep hd rfl (fun r h' hp => by obtain ⟨rfl, hq⟩ := hp; exact k h' hq)
theorem g_cSv3 {v1 v2 v3 : Value} {post : PH → Prop} (E : q_Ev C cc nL own al ad FR LO) (hC : q_ConV y cy maxL ret fr lo ty al [v1, v2, v3] h post) (hw : q_CS own idx y cy maxL ret 3) (hf1 : fr + 1 ≤ FR) (hf2 : 8 + (maxL + 11) + lo ≤ LO) (hdep : (rest.map fun v => v.category).sum ≤ 8) (hd : decode cc pc = .ok (.invokestatic idx, 3)) (k : ∀ (h' : PH), post h' → gg C ty nL kc ks al ad (pc + 3) ls rest h') : gg C ty nL kc ks al ad pc ls (v3 :: v2 :: v1 :: rest) h :=
  q_callS E hC hw rfl hf1 hf2 hdep hd rfl (fun r h' hp => by obtain ⟨rfl, hq⟩ := hp; exact k h' hq)
theorem g_cVi4 {v1 v2 v3 v4 : Value} {a ci : Nat} {post : Int32 → PH → Prop} (E : q_Ev C cc nL own al ad FR LO) (hC : q_ConI y cy maxL ret fr lo ty al [.ref a, v1, v2, v3, v4] h post) (hw : q_CV own idx ci y cy maxL ret 4) (hf1 : fr + 1 ≤ FR) (hf2 : 8 + (maxL + 11) + lo ≤ LO) (ha : al a = true) (hty : ty a = .inr ci) (hdep : (rest.map fun v => v.category).sum ≤ 8) (hd : decode cc pc = .ok (.invokevirtual idx, 3)) (k : ∀ (v : Int32) (h' : PH), post v h' → gg C ty nL kc ks al ad (pc + 3) ls (.int v :: rest) h') : gg C ty nL kc ks al ad pc ls (v4 :: v3 :: v2 :: v1 :: .ref a :: rest) h :=
  q_callV E hC hw rfl hf1 hf2 ha hty hdep hd rfl (fun r h' hp => by obtain ⟨v, rfl, hq⟩ := hp; exact k v h' hq)
theorem g_cSi4 {v1 v2 v3 v4 : Value} {post : Int32 → PH → Prop} (E : q_Ev C cc nL own al ad FR LO) (hC : q_ConI y cy maxL ret fr lo ty al [v1, v2, v3, v4] h post) (hw : q_CS own idx y cy maxL ret 4) (hf1 : fr + 1 ≤ FR) (hf2 : 8 + (maxL + 11) + lo ≤ LO) (hdep : (rest.map fun v => v.category).sum ≤ 8) (hd : decode cc pc = .ok (.invokestatic idx, 3)) (k : ∀ (v : Int32) (h' : PH), post v h' → gg C ty nL kc ks al ad (pc + 3) ls (.int v :: rest) h') : gg C ty nL kc ks al ad pc ls (v4 :: v3 :: v2 :: v1 :: rest) h :=
  q_callS E hC hw rfl hf1 hf2 hdep hd rfl (fun r h' hp => by obtain ⟨v, rfl, hq⟩ := hp; exact k v h' hq)
theorem g_cVl4 {v1 v2 v3 v4 : Value} {a ci : Nat} {post : Int64 → PH → Prop} (E : q_Ev C cc nL own al ad FR LO) (hC : q_ConL y cy maxL ret fr lo ty al [.ref a, v1, v2, v3, v4] h post) (hw : q_CV own idx ci y cy maxL ret 4) (hf1 : fr + 1 ≤ FR) (hf2 : 8 + (maxL + 11) + lo ≤ LO) (ha : al a = true) (hty : ty a = .inr ci) (hdep : (rest.map fun v => v.category).sum ≤ 8) (hd : decode cc pc = .ok (.invokevirtual idx, 3)) (k : ∀ (v : Int64) (h' : PH), post v h' → gg C ty nL kc ks al ad (pc + 3) ls (.long v :: rest) h') : gg C ty nL kc ks al ad pc ls (v4 :: v3 :: v2 :: v1 :: .ref a :: rest) h :=
  q_callV E hC hw rfl hf1 hf2 ha hty hdep hd rfl (fun r h' hp => by obtain ⟨v, rfl, hq⟩ := hp; exact k v h' hq)
theorem g_cSl4 {v1 v2 v3 v4 : Value} {post : Int64 → PH → Prop} (E : q_Ev C cc nL own al ad FR LO) (hC : q_ConL y cy maxL ret fr lo ty al [v1, v2, v3, v4] h post) (hw : q_CS own idx y cy maxL ret 4) (hf1 : fr + 1 ≤ FR) (hf2 : 8 + (maxL + 11) + lo ≤ LO) (hdep : (rest.map fun v => v.category).sum ≤ 8) (hd : decode cc pc = .ok (.invokestatic idx, 3)) (k : ∀ (v : Int64) (h' : PH), post v h' → gg C ty nL kc ks al ad (pc + 3) ls (.long v :: rest) h') : gg C ty nL kc ks al ad pc ls (v4 :: v3 :: v2 :: v1 :: rest) h :=
  q_callS E hC hw rfl hf1 hf2 hdep hd rfl (fun r h' hp => by obtain ⟨v, rfl, hq⟩ := hp; exact k v h' hq)
theorem g_cVv4 {v1 v2 v3 v4 : Value} {a ci : Nat} {post : PH → Prop} (E : q_Ev C cc nL own al ad FR LO) (hC : q_ConV y cy maxL ret fr lo ty al [.ref a, v1, v2, v3, v4] h post) (hw : q_CV own idx ci y cy maxL ret 4) (hf1 : fr + 1 ≤ FR) (hf2 : 8 + (maxL + 11) + lo ≤ LO) (ha : al a = true) (hty : ty a = .inr ci) (hdep : (rest.map fun v => v.category).sum ≤ 8) (hd : decode cc pc = .ok (.invokevirtual idx, 3)) (k : ∀ (h' : PH), post h' → gg C ty nL kc ks al ad (pc + 3) ls rest h') : gg C ty nL kc ks al ad pc ls (v4 :: v3 :: v2 :: v1 :: .ref a :: rest) h :=
  q_callV E hC hw rfl hf1 hf2 ha hty hdep hd rfl (fun r h' hp => by obtain ⟨rfl, hq⟩ := hp; exact k h' hq)
theorem g_cSv4 {v1 v2 v3 v4 : Value} {post : PH → Prop} (E : q_Ev C cc nL own al ad FR LO) (hC : q_ConV y cy maxL ret fr lo ty al [v1, v2, v3, v4] h post) (hw : q_CS own idx y cy maxL ret 4) (hf1 : fr + 1 ≤ FR) (hf2 : 8 + (maxL + 11) + lo ≤ LO) (hdep : (rest.map fun v => v.category).sum ≤ 8) (hd : decode cc pc = .ok (.invokestatic idx, 3)) (k : ∀ (h' : PH), post h' → gg C ty nL kc ks al ad (pc + 3) ls rest h') : gg C ty nL kc ks al ad pc ls (v4 :: v3 :: v2 :: v1 :: rest) h :=
  q_callS E hC hw rfl hf1 hf2 hdep hd rfl (fun r h' hp => by obtain ⟨rfl, hq⟩ := hp; exact k h' hq)
theorem g_cVi5 {v1 v2 v3 v4 v5 : Value} {a ci : Nat} {post : Int32 → PH → Prop} (E : q_Ev C cc nL own al ad FR LO) (hC : q_ConI y cy maxL ret fr lo ty al [.ref a, v1, v2, v3, v4, v5] h post) (hw : q_CV own idx ci y cy maxL ret 5) (hf1 : fr + 1 ≤ FR) (hf2 : 8 + (maxL + 11) + lo ≤ LO) (ha : al a = true) (hty : ty a = .inr ci) (hdep : (rest.map fun v => v.category).sum ≤ 8) (hd : decode cc pc = .ok (.invokevirtual idx, 3)) (k : ∀ (v : Int32) (h' : PH), post v h' → gg C ty nL kc ks al ad (pc + 3) ls (.int v :: rest) h') : gg C ty nL kc ks al ad pc ls (v5 :: v4 :: v3 :: v2 :: v1 :: .ref a :: rest) h :=
  q_callV E hC hw rfl hf1 hf2 ha hty hdep hd rfl (fun r h' hp => by obtain ⟨v, rfl, hq⟩ := hp; exact k v h' hq)
theorem g_cSi5 {v1 v2 v3 v4 v5 : Value} {post : Int32 → PH → Prop} (E : q_Ev C cc nL own al ad FR LO) (hC : q_ConI y cy maxL ret fr lo ty al [v1, v2, v3, v4, v5] h post) (hw : q_CS own idx y cy maxL ret 5) (hf1 : fr + 1 ≤ FR) (hf2 : 8 + (maxL + 11) + lo ≤ LO) (hdep : (rest.map fun v => v.category).sum ≤ 8) (hd : decode cc pc = .ok (.invokestatic idx, 3)) (k : ∀ (v : Int32) (h' : PH), post v h' → gg C ty nL kc ks al ad (pc + 3) ls (.int v :: rest) h') : gg C ty nL kc ks al ad pc ls (v5 :: v4 :: v3 :: v2 :: v1 :: rest) h :=
  q_callS E hC hw rfl hf1 hf2 hdep hd rfl (fun r h' hp => by obtain ⟨v, rfl, hq⟩ := hp; exact k v h' hq)
theorem g_cVl5 {v1 v2 v3 v4 v5 : Value} {a ci : Nat} {post : Int64 → PH → Prop} (E : q_Ev C cc nL own al ad FR LO) (hC : q_ConL y cy maxL ret fr lo ty al [.ref a, v1, v2, v3, v4, v5] h post) (hw : q_CV own idx ci y cy maxL ret 5) (hf1 : fr + 1 ≤ FR) (hf2 : 8 + (maxL + 11) + lo ≤ LO) (ha : al a = true) (hty : ty a = .inr ci) (hdep : (rest.map fun v => v.category).sum ≤ 8) (hd : decode cc pc = .ok (.invokevirtual idx, 3)) (k : ∀ (v : Int64) (h' : PH), post v h' → gg C ty nL kc ks al ad (pc + 3) ls (.long v :: rest) h') : gg C ty nL kc ks al ad pc ls (v5 :: v4 :: v3 :: v2 :: v1 :: .ref a :: rest) h :=
  q_callV E hC hw rfl hf1 hf2 ha hty hdep hd rfl (fun r h' hp => by obtain ⟨v, rfl, hq⟩ := hp; exact k v h' hq)
theorem g_cSl5 {v1 v2 v3 v4 v5 : Value} {post : Int64 → PH → Prop} (E : q_Ev C cc nL own al ad FR LO) (hC : q_ConL y cy maxL ret fr lo ty al [v1, v2, v3, v4, v5] h post) (hw : q_CS own idx y cy maxL ret 5) (hf1 : fr + 1 ≤ FR) (hf2 : 8 + (maxL + 11) + lo ≤ LO) (hdep : (rest.map fun v => v.category).sum ≤ 8) (hd : decode cc pc = .ok (.invokestatic idx, 3)) (k : ∀ (v : Int64) (h' : PH), post v h' → gg C ty nL kc ks al ad (pc + 3) ls (.long v :: rest) h') : gg C ty nL kc ks al ad pc ls (v5 :: v4 :: v3 :: v2 :: v1 :: rest) h :=
  q_callS E hC hw rfl hf1 hf2 hdep hd rfl (fun r h' hp => by obtain ⟨v, rfl, hq⟩ := hp; exact k v h' hq)
theorem g_cVv5 {v1 v2 v3 v4 v5 : Value} {a ci : Nat} {post : PH → Prop} (E : q_Ev C cc nL own al ad FR LO) (hC : q_ConV y cy maxL ret fr lo ty al [.ref a, v1, v2, v3, v4, v5] h post) (hw : q_CV own idx ci y cy maxL ret 5) (hf1 : fr + 1 ≤ FR) (hf2 : 8 + (maxL + 11) + lo ≤ LO) (ha : al a = true) (hty : ty a = .inr ci) (hdep : (rest.map fun v => v.category).sum ≤ 8) (hd : decode cc pc = .ok (.invokevirtual idx, 3)) (k : ∀ (h' : PH), post h' → gg C ty nL kc ks al ad (pc + 3) ls rest h') : gg C ty nL kc ks al ad pc ls (v5 :: v4 :: v3 :: v2 :: v1 :: .ref a :: rest) h :=
  q_callV E hC hw rfl hf1 hf2 ha hty hdep hd rfl (fun r h' hp => by obtain ⟨rfl, hq⟩ := hp; exact k h' hq)
theorem g_cSv5 {v1 v2 v3 v4 v5 : Value} {post : PH → Prop} (E : q_Ev C cc nL own al ad FR LO) (hC : q_ConV y cy maxL ret fr lo ty al [v1, v2, v3, v4, v5] h post) (hw : q_CS own idx y cy maxL ret 5) (hf1 : fr + 1 ≤ FR) (hf2 : 8 + (maxL + 11) + lo ≤ LO) (hdep : (rest.map fun v => v.category).sum ≤ 8) (hd : decode cc pc = .ok (.invokestatic idx, 3)) (k : ∀ (h' : PH), post h' → gg C ty nL kc ks al ad (pc + 3) ls rest h') : gg C ty nL kc ks al ad pc ls (v5 :: v4 :: v3 :: v2 :: v1 :: rest) h :=
  q_callS E hC hw rfl hf1 hf2 hdep hd rfl (fun r h' hp => by obtain ⟨rfl, hq⟩ := hp; exact k h' hq)
end GN
/-- the reference: name 0 the object, name k the array of its field k -/
def tyM (a : Nat) : PT := match a with
  | 0 => .inr 8
  | 1 => .inl (.int, 4)
  | 2 => .inl (.int, 4)
  | 3 => .inl (.long, 240)
  | 4 => .inl (.long, 60)
  | 15 => .inl (.int, 10)
  | 16 => .inl (.int, 10)
  | 17 => .inl (.int, 10)
  | 18 => .inl (.int, 10)
  | 19 => .inl (.int, 10)
  | 20 => .inl (.int, 10)
  | 21 => .inl (.int, 10)
  | 22 => .inl (.int, 10)
  | 23 => .inl (.int, 10)
  | 24 => .inl (.int, 10)
  | 25 => .inl (.int, 10)
  | 26 => .inl (.int, 10)
  | 27 => .inl (.int, 3)
  | 28 => .inl (.boolean, 3)
  | 29 => .inl (.int, 100)
  | 30 => .inl (.int, 210)
  | 31 => .inl (.long, 10)
  | 32 => .inl (.long, 10)
  | 33 => .inl (.long, 10)
  | 34 => .inl (.int, 50000)
  | 35 => .inl (.int, 5000)
  | 36 => .inl (.int, 5000)
  | 37 => .inl (.int, 5000)
  | 38 => .inl (.int, 10)
  | 39 => .inl (.int, 8192)
  | 40 => .inl (.int, 5000)
  | 41 => .inl (.boolean, 1024)
  | 42 => .inl (.int, 40)
  | 43 => .inl (.int, 40)
  | 44 => .inl (.int, 40)
  | 45 => .inl (.int, 360)
  | 47 => .inl (.int, 10)
  | _ => .inl (.int, 0)
def alM (a : Nat) : Bool := decide (a < 5) || (decide (15 ≤ a) && decide (a ≤ 45)) || a == 47
def rfM (a k : Nat) : Option Nat := if (a == 0 && alM k && k != 0) = true then some k else none
/-- the class: 0 the object, 1 land, 2 legalSets, 3 shelf, 4 inUse, 5 search, 6 tally, then arrays; cell c is c + 40, its waiting c + 60 -/
def tyX (a : Nat) : PT := match a with
  | 0 => .inr 7
  | 1 => .inr 2
  | 2 => .inr 3
  | 3 => .inr 5
  | 4 => .inr 1
  | 5 => .inr 4
  | 6 => .inr 6
  | 7 => .inl (.int, 10)
  | 8 => .inl (.object RX0, 10)
  | 9 => .inl (.int, 3)
  | 10 => .inl (.boolean, 3)
  | 11 => .inl (.boolean, 1024)
  | 12 => .inl (.int, 386)
  | 13 => .inl (.int, 1024)
  | 14 => .inl (.array .long, 4)
  | 15 => .inl (.long, 60)
  | 16 => .inl (.long, 60)
  | 17 => .inl (.long, 60)
  | 18 => .inl (.long, 60)
  | 19 => .inl (.int, 4)
  | 20 => .inl (.int, 4)
  | 21 => .inl (.int, 90)
  | 22 => .inl (.long, 5000)
  | 23 => .inl (.int, 5000)
  | 24 => .inl (.int, 8192)
  | 25 => .inl (.int, 386)
  | 26 => .inl (.long, 386)
  | 27 => .inl (.int, 386)
  | 28 => .inl (.int, 1024)
  | 29 => .inl (.int, 387)
  | 30 => .inl (.long, 8)
  | 31 => .inl (.long, 8)
  | 32 => .inl (.byte, 72)
  | a => if a < 60 then .inr 0 else .inl (.int, 21)
def alX (n : Nat) (sB tB : Bool) (a : Nat) : Bool := decide (a < 5) || (a == 5 && sB) || (a == 6 && tB) || (decide (7 ≤ a) && decide (a ≤ 21)) || (decide (22 ≤ a) && decide (a ≤ 27) && sB) || (decide (28 ≤ a) && decide (a ≤ 32) && tB) || (decide (40 ≤ a) && decide (a < n + 40)) || (decide (60 ≤ a) && decide (a < n + 60))
def rfX (n : Nat) (sB tB : Bool) (a k : Nat) : Option Nat := match a with
  | 0 => match k with
    | 0 => some 1
    | 1 => some 2
    | 2 => some 3
    | 3 => some 4
    | 4 => if sB = true then some 5 else none
    | 5 => if tB = true then some 6 else none
    | 6 => some 7
    | _ => none
  | 1 => match k with
    | 0 => some 8
    | 2 => some 9
    | 3 => some 10
    | _ => none
  | 2 => match k with
    | 0 => some 11
    | 1 => some 12
    | 3 => some 13
    | _ => none
  | 3 => match k with
    | 0 => some 14
    | 1 => some 19
    | 2 => some 20
    | _ => none
  | 4 => match k with
    | 0 => some 21
    | _ => none
  | 5 => match k with
    | 0 => some 22
    | 1 => some 23
    | 3 => some 24
    | 4 => some 25
    | 5 => some 26
    | 6 => some 27
    | _ => none
  | 6 => match k with
    | 0 => some 28
    | 1 => some 29
    | 2 => some 30
    | 3 => some 31
    | 4 => some 32
    | _ => none
  | 8 => if k < n then some (k + 40) else none
  | 14 => if k < 4 then some (k + 15) else none
  | a => if 40 ≤ a ∧ a < 60 ∧ k = 9 then some (a + 20) else none
theorem tyX_c {c : Nat} (h : c < 10) : tyX (c + 40) = .inr 0 := by
  have e : c + 40 < 60 := by omega
  show (if c + 40 < 60 then (Sum.inr 0 : PT) else Sum.inl (.int, 21)) = _
  exact if_pos e
theorem tyX_w {c : Nat} (h : c < 10) : tyX (c + 60) = .inl (.int, 21) := by
  have e : ¬ c + 60 < 60 := by omega
  show (if c + 60 < 60 then (Sum.inr 0 : PT) else Sum.inl (.int, 21)) = _
  exact if_neg e
theorem tyX_p {p : Nat} (h : p < 4) : tyX (p + 15) = .inl (.long, 60) := by
  match p, h with
  | 0, _ => rfl
  | 1, _ => rfl
  | 2, _ => rfl
  | 3, _ => rfl
theorem alX_c {n c : Nat} {sB tB : Bool} (h : c < n) : alX n sB tB (c + 40) = true := by
  have h1 : decide (40 ≤ c + 40) = true := by simp
  have h2 : decide (c + 40 < n + 40) = true := by simp; omega
  simp [alX, h1, h2]
  simp [h]
theorem alX_w {n c : Nat} {sB tB : Bool} (h : c < n) : alX n sB tB (c + 60) = true := by
  simp [alX, h]
theorem alX_p {n p : Nat} {sB tB : Bool} (h : p < 4) : alX n sB tB (p + 15) = true := by
  match p, h with
  | 0, _ => rfl
  | 1, _ => rfl
  | 2, _ => rfl
  | 3, _ => rfl
theorem rfX_c {n c : Nat} {sB tB : Bool} (h : c < n) : rfX n sB tB 8 c = some (c + 40) := if_pos h
theorem rfX_p {n p : Nat} {sB tB : Bool} (h : p < 4) : rfX n sB tB 14 p = some (p + 15) := if_pos h
theorem rfX_w {n c : Nat} {sB tB : Bool} (h : c < 10) : rfX n sB tB (c + 40) 9 = some (c + 60) := by
  show (if 40 ≤ c + 40 ∧ c + 40 < 60 ∧ 9 = 9 then some (c + 40 + 20) else none) = _
  rw [if_pos ⟨by omega, by omega, rfl⟩]
