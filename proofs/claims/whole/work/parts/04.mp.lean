/-! ## Worlds as maps: a world is a function from addresses to cells; kit rows restated over it -/
abbrev mp_M : Type := Nat → Option va_E
def mp_up (M : mp_M) (a : Nat) (e : va_E) : mp_M := fun q => if q = a then some e else M q
theorem mp_up_s (M : mp_M) (a : Nat) (e : va_E) : mp_up M a e a = some e := if_pos rfl
theorem mp_up_n {M : mp_M} {a q : Nat} {e : va_E} (h : q ≠ a) : mp_up M a e q = M q := if_neg h
theorem mp_ne {M : mp_M} {a b : Nat} {x y : va_E} (ha : M a = some x) (hb : M b = some y) (h : x ≠ y) : a ≠ b := fun q => h (by rw [q, hb] at ha; exact (Option.some.inj ha).symm)
def mp_w (M : mp_M) (ws : va_W) : Prop := ∀ (a : Nat) (e : va_E), M a = some e ↔ (a, e) ∈ ws
def mp_P (D : va_G) (cl : List vw_C) (A : Nat → Prop) (M : mp_M) (H : Heap) : Prop := ∃ ws : va_W, va_P D cl ws H ∧ va_D A ws ∧ mp_w M ws
/-- what the tables say, beside the classes: the nest's own constructor, the arrays of own classes -/
def mp_K (D : va_G) (cl : List vw_C) (tys : List (ClassId × FieldType)) (U : State) : Prop := va_K D cl tys U ∧ va_Nw (.methodLinkNest "PlaceDesk" 129 yN_init "PlaceDesk") U ∧ va_AO "PlaceDesk$Thing" U ∧ va_AO "PlaceDesk$Spot" U ∧ va_AO "PlaceDesk$Snapshot" U
theorem mp_K.warm {D : va_G} {cl : List vw_C} {tys : List (ClassId × FieldType)} {s U : State} (hW : s.WarmedH U.vm) (h : mp_K D cl tys s) : mp_K D cl tys U :=
  ⟨va_K.moved hW.alike h.1, va_Nw.warmM hW h.2.1, va_AO.moved hW.alike h.2.2.1, va_AO.moved hW.alike h.2.2.2.1, va_AO.moved hW.alike h.2.2.2.2⟩
def mp_I (D : va_G) (cl : List vw_C) (tys : List (ClassId × FieldType)) (s : State) (A : Nat → Prop) (H0 H : Heap) (locs : List Loc) (M : mp_M) : Prop :=
  mp_K D cl tys s ∧ mp_P D cl A M H ∧ va_S A H0 H locs ∧ ∀ q, H0.size ≤ q → A q
theorem mp_w.at {M : mp_M} {ws : va_W} (hw : mp_w M ws) {a : Nat} {e : va_E} (h : M a = some e) : ∃ k : Nat, ws[k]? = some (a, e) := List.getElem?_of_mem ((hw a e).mp h)
theorem mp_w.set {M : mp_M} {ws : va_W} {A : Nat → Prop} (hw : mp_w M ws) (hD : va_D A ws) {k a : Nat} {e0 e : va_E} (hk : ws[k]? = some (a, e0)) : mp_w (mp_up M a e) (ws.set k (a, e)) := by
  intro b x
  have hl := (List.getElem?_eq_some_iff.mp hk).1
  by_cases hb : b = a
  · subst hb
    rw [mp_up_s]
    constructor
    · intro h
      cases h
      exact List.mem_of_getElem? (List.getElem?_set_self hl)
    · intro h
      obtain ⟨j, hj⟩ := List.getElem?_of_mem h
      by_cases hjk : j = k
      · subst hjk
        rw [List.getElem?_set_self hl] at hj
        cases hj
        rfl
      · rw [List.getElem?_set_ne (Ne.symm hjk)] at hj
        exact absurd (hD.1 j k _ _ hj hk rfl) hjk
  · rw [mp_up_n hb, hw]
    constructor
    · intro h
      obtain ⟨j, hj⟩ := List.getElem?_of_mem h
      have hjk : j ≠ k := fun z => by
        subst z
        rw [hk] at hj
        cases hj
        exact hb rfl
      exact List.mem_of_getElem? (i := j) (by rw [List.getElem?_set_ne (Ne.symm hjk)]; exact hj)
    · intro h
      obtain ⟨j, hj⟩ := List.getElem?_of_mem h
      by_cases hjk : j = k
      · subst hjk
        rw [List.getElem?_set_self hl] at hj
        cases hj
        exact absurd rfl hb
      · rw [List.getElem?_set_ne (Ne.symm hjk)] at hj
        exact List.mem_of_getElem? hj
theorem mp_w.push {M : mp_M} {ws : va_W} {A : Nat → Prop} {q : Nat} {e : va_E} (hw : mp_w M ws) (hD : va_D A (ws ++ [(q, e)])) : mp_w (mp_up M q e) (ws ++ [(q, e)]) := by
  intro b x
  by_cases hb : b = q
  · subst hb
    rw [mp_up_s]
    constructor
    · intro h
      cases h
      exact List.mem_append_right _ (List.mem_singleton.mpr rfl)
    · intro h
      rcases List.mem_append.mp h with h | h
      · obtain ⟨j, hj⟩ := List.getElem?_of_mem h
        have hl := (List.getElem?_eq_some_iff.mp hj).1
        have h2 := hD.1 j ws.length (b, x) (b, e) (by rw [List.getElem?_append_left hl]; exact hj) (by rw [List.getElem?_append_right (Nat.le_refl _), Nat.sub_self]; rfl) rfl
        omega
      · cases List.mem_singleton.mp h
        rfl
  · rw [mp_up_n hb, hw]
    constructor
    · exact fun h => List.mem_append_left _ h
    · intro h
      rcases List.mem_append.mp h with h | h
      · exact h
      · cases List.mem_singleton.mp h
        exact absurd rfl hb
theorem mp_w.fresh {M : mp_M} {ws : va_W} {A : Nat → Prop} {q : Nat} {e : va_E} (hw : mp_w M ws) (hD : va_D A (ws ++ [(q, e)])) : M q = none := by
  cases h : M q with
  | none => rfl
  | some x =>
    obtain ⟨j, hj⟩ := hw.at h
    have hl := (List.getElem?_eq_some_iff.mp hj).1
    have h2 := hD.1 j ws.length (q, x) (q, e) (by rw [List.getElem?_append_left hl]; exact hj) (by rw [List.getElem?_append_right (Nat.le_refl _), Nat.sub_self]; rfl) rfl
    omega
theorem mp_P.lt {D : va_G} {cl : List vw_C} {A : Nat → Prop} {M : mp_M} {H : Heap} (h : mp_P D cl A M H) {a : Nat} {e : va_E} (ha : M a = some e) : a < H.size := by
  obtain ⟨ws, hP, -, hw⟩ := h
  obtain ⟨k, hk⟩ := hw.at ha
  exact (hP k _ hk).lt
theorem mp_P.in {D : va_G} {cl : List vw_C} {A : Nat → Prop} {M : mp_M} {H : Heap} (h : mp_P D cl A M H) {a : Nat} {e : va_E} (ha : M a = some e) : A a := by
  obtain ⟨ws, -, hD, hw⟩ := h
  obtain ⟨k, hk⟩ := hw.at ha
  exact hD.2 k _ hk
theorem mp_P.kept {D : va_G} {cl : List vw_C} {A : Nat → Prop} {M : mp_M} {H H1 : Heap} (h : mp_P D cl A M H) (hq : ∀ a e, M a = some e → H1[a]? = H[a]?) : mp_P D cl A M H1 := by
  obtain ⟨ws, hP, hD, hw⟩ := h
  exact ⟨ws, hP.kept (fun k q hk => hq q.1 q.2 ((hw _ _).mpr (List.mem_of_getElem? hk))), hD, hw⟩
theorem mp_P.weaken {D : va_G} {cl : List vw_C} {A B : Nat → Prop} {M : mp_M} {H : Heap} (h : mp_P D cl A M H) (hAB : ∀ a e, M a = some e → A a → B a) : mp_P D cl B M H := by
  obtain ⟨ws, hP, hD, hw⟩ := h
  exact ⟨ws, hP, hD.weaken (fun k q hk => hAB q.1 q.2 ((hw _ _).mpr (List.mem_of_getElem? hk))), hw⟩
/-- which cells a method with the world M may change: M's own, and those that it makes -/
def mp_A (M : mp_M) (sz : Nat) : Nat → Prop := fun q => (∃ e, M q = some e) ∨ sz ≤ q
/-- a method's start and end over a map -/
def mp_B (D : va_G) (cl : List vw_C) (tys : List (ClassId × FieldType)) (M0 : mp_M) (sz : Nat) (M : mp_M) (t : State) : Prop := mp_P D cl (mp_A M0 sz) M t.heap ∧ mp_K D cl tys t
def mp_Pc (D : va_G) (cl : List vw_C) (tys : List (ClassId × FieldType)) (av : List Value) (M : mp_M) (sz : Nat) : Array Value → State → Prop :=
  va_Pc av (fun U => U.heap.size = sz ∧ mp_P D cl (fun _ => True) M U.heap ∧ mp_K D cl tys U)
theorem mp_blind {D : va_G} {cl : List vw_C} {tys : List (ClassId × FieldType)} {av : List Value} {M : mp_M} {sz : Nat} : FrameBlind (mp_Pc D cl tys av M sz) := fun a U g mk q => by
  obtain ⟨q0, q1, qP, qK⟩ := q
  exact ⟨q0, q1, qP, mp_K.warm (s := U) (U := U.calling g mk a) (State.WarmedH.refl U) qK⟩
/-- at a method's entry -/
theorem mp_I.start {D : va_G} {cl : List vw_C} {tys : List (ClassId × FieldType)} {s : State} {M : mp_M} (hK : mp_K D cl tys s) (hP : mp_P D cl (fun _ => True) M s.heap) : mp_I D cl tys s (mp_A M s.heap.size) s.heap s.heap [] M :=
  ⟨hK, hP.weaken (fun _ e h _ => Or.inl ⟨e, h⟩), va_S.rf, fun _ h => Or.inr h⟩
theorem mp_I.lt {D : va_G} {cl : List vw_C} {tys : List (ClassId × FieldType)} {s : State} {A : Nat → Prop} {H0 H : Heap} {locs : List Loc} {M : mp_M} (I : mp_I D cl tys s A H0 H locs M) {a : Nat} {e : va_E} (ha : M a = some e) : a < H.size := I.2.1.lt ha
section MPW
variable {p : Program} {l : Launch} {e : Env} {R : Room} {s : State} {m : MethodId} {args : Array Value} {below : List Frame} {meth : Method} {c : Code} {H : Heap} {locs : List Loc} {cells slots : Nat} {Q : State → Prop}
variable {cc : ByteArray} {pc : Nat} {ls : Array Slot} {rest : List Value} {D : va_G} {cl : List vw_C} {A : Nat → Prop} {a : Nat} {tys : List (ClassId × FieldType)} {H0 : Heap} {M : mp_M}
theorem mp_get (hexec : p.tables.exec = Jvm.exec) (hb : c.code = cc) {own ref C : String} {T : u_T} {N ci index : Nat} {Ts : List Cond} (hts : ∀ w ∈ Ts, w.before args s = true) (hin : ∀ w ∈ u_ws C T N, w ∈ Ts) (hown : s.vm.findClass own = some m.cls) (I : mp_I D cl tys s A H0 H locs M) {fs : List Value} (hM : M a = some (.inr (ci, fs))) (hc : cl[ci]? = some (C, T, N)) (k : Nat) (hk : k < N) (hlink : (Cond.fieldLink own index ref (T k).2.1 (T k).2.2.1).before args s = true) (hsame : ∀ x, s.fieldFound? (T k).1 (T k).2.1 (T k).2.2.1 = some x → s.fieldFound? ref (T k).2.1 (T k).2.2.1 = some x) {v : Value} (hv : fs[k]? = some v) (hdg : decode cc pc = .ok (.getfield index, 3))
    (kk : W p l e R s m args below meth c H locs cells slots Q (F0 m (pc + 3) ls (v :: rest))) : W p l e R s m args below meth c H locs cells slots Q (F0 m pc ls (.ref a :: rest)) := by
  obtain ⟨hK, ⟨ws, hP, hD, hw⟩, hS, hA⟩ := I
  obtain ⟨q0, he⟩ := hw.at hM
  exact va_get hexec hb hts hin hown hK.1 hP q0 he hc k hk hlink hsame hv hdg kk
theorem mp_put (hexec : p.tables.exec = Jvm.exec) (hb : c.code = cc) {own ref C : String} {T : u_T} {N ci index : Nat} {Ts : List Cond} (hts : ∀ w ∈ Ts, w.before args s = true) (hin : ∀ w ∈ u_ws C T N, w ∈ Ts) (ty0 : Nat → FieldType) (hty : ∀ k, k < N → parseFieldDescriptor (T k).2.2.1 = some (ty0 k)) (hnm : ∀ a, a < N → ∀ b, b < N → a ≠ b → (T a).2.1 ≠ (T b).2.1) (hown : s.vm.findClass own = some m.cls) (I : mp_I D cl tys s A H0 H locs M) {fs : List Value} (hM : M a = some (.inr (ci, fs))) (hc : cl[ci]? = some (C, T, N)) (k : Nat) (hk : k < N) (hlink : (Cond.fieldLink own index ref (T k).2.1 (T k).2.2.1).before args s = true) (hsame : ∀ x, s.fieldFound? (T k).1 (T k).2.1 (T k).2.2.1 = some x → s.fieldFound? ref (T k).2.1 (T k).2.2.1 = some x) (hfin : (T k).2.2.2 = false) {ty : FieldType} {v : Value} (hd : parseFieldDescriptor (T k).2.2.1 = some ty) (hn : narrow ty v = v) (hfit : fits ty v = true) (hl : k < fs.length) (hdg : decode cc pc = .ok (.putfield index, 3))
    (kk : ∀ (H1 : Heap) (locs1 : List Loc), mp_I D cl tys s A H0 H1 locs1 (mp_up M a (.inr (ci, fs.set k v))) → W p l e R s m args below meth c H1 locs1 cells slots Q (F0 m (pc + 3) ls rest)) : W p l e R s m args below meth c H locs cells slots Q (F0 m pc ls (v :: .ref a :: rest)) := by
  obtain ⟨hK, ⟨ws, hP, hD, hw⟩, hS, hA⟩ := I
  obtain ⟨q0, he⟩ := hw.at hM
  exact va_put hexec hb hts hin ty0 hty hnm hown hK.1 hP hD hS q0 he hc k hk hlink hsame hfin hd hn hfit hl hdg (fun H1 locs1 hP1 hD1 hS1 => kk H1 locs1 ⟨hK, ⟨_, hP1, hD1, hw.set hD he⟩, hS1, hA⟩)
theorem mp_putF (hexec : p.tables.exec = Jvm.exec) (hb : c.code = cc) {own ref C : String} {T : u_T} {N ci index : Nat} {Ts : List Cond} (hts : ∀ w ∈ Ts, w.before args s = true) (hin : ∀ w ∈ u_ws C T N, w ∈ Ts) (ty0 : Nat → FieldType) (hty : ∀ k, k < N → parseFieldDescriptor (T k).2.2.1 = some (ty0 k)) (hnm : ∀ a, a < N → ∀ b, b < N → a ≠ b → (T a).2.1 ≠ (T b).2.1) (hown : s.vm.findClass own = some m.cls) (I : mp_I D cl tys s A H0 H locs M) {fs : List Value} (hM : M a = some (.inr (ci, fs))) (hc : cl[ci]? = some (C, T, N)) (k : Nat) (hk : k < N) (hlink : (Cond.fieldLink own index ref (T k).2.1 (T k).2.2.1).before args s = true) (hsame : ∀ x, s.fieldFound? (T k).1 (T k).2.1 (T k).2.2.1 = some x → s.fieldFound? ref (T k).2.1 (T k).2.2.1 = some x) (hfin : (T k).2.2.2 = true) (hin2 : meth.name = "<init>") (hdecl : (T k).1 = own) {ty : FieldType} {v : Value} (hd : parseFieldDescriptor (T k).2.2.1 = some ty) (hn : narrow ty v = v) (hfit : fits ty v = true) (hl : k < fs.length) (hdg : decode cc pc = .ok (.putfield index, 3))
    (kk : ∀ (H1 : Heap) (locs1 : List Loc), mp_I D cl tys s A H0 H1 locs1 (mp_up M a (.inr (ci, fs.set k v))) → W p l e R s m args below meth c H1 locs1 cells slots Q (F0 m (pc + 3) ls rest)) : W p l e R s m args below meth c H locs cells slots Q (F0 m pc ls (v :: .ref a :: rest)) := by
  obtain ⟨hK, ⟨ws, hP, hD, hw⟩, hS, hA⟩ := I
  obtain ⟨q0, he⟩ := hw.at hM
  exact va_putF hexec hb hts hin ty0 hty hnm hown hK.1 hP hD hS q0 he hc k hk hlink hsame hfin hin2 hdecl hd hn hfit hl hdg (fun H1 locs1 hP1 hD1 hS1 => kk H1 locs1 ⟨hK, ⟨_, hP1, hD1, hw.set hD he⟩, hS1, hA⟩)
theorem mp_iald (hexec : p.tables.exec = Jvm.exec) (hb : c.code = cc) (I : mp_I D cl tys s A H0 H locs M) (t0 : Nat) {cA : ClassId} {n : Nat} {f : Nat → Int32} (hM : M a = some (.inl (cA, n, .inl f))) (ht : tys[t0]? = some (cA, .int)) {i : Int32} (j : Nat) (hi : i = nI j) (hj : j < n) (hn : n < 2 ^ 31) {v : Int32} (hv : f j = v) (hdg : decode cc pc = .ok (.iaload, 1))
    (kk : W p l e R s m args below meth c H locs cells slots Q (F0 m (pc + 1) ls (.int v :: rest))) : W p l e R s m args below meth c H locs cells slots Q (F0 m pc ls (.int i :: .ref a :: rest)) := by
  obtain ⟨hK, ⟨ws, hP, hD, hw⟩, hS, hA⟩ := I
  obtain ⟨q0, he⟩ := hw.at hM
  subst hi
  exact va_iald hexec hb hK.1 hP q0 t0 he ht (vp_in_nI hj hn) hdg (by rw [nI_clamp (by omega), hv]; exact kk)
theorem mp_lald (hexec : p.tables.exec = Jvm.exec) (hb : c.code = cc) (I : mp_I D cl tys s A H0 H locs M) (t0 : Nat) {cA : ClassId} {n : Nat} {f : Nat → Int64} (hM : M a = some (.inl (cA, n, .inr (.inl f)))) (ht : tys[t0]? = some (cA, .long)) {i : Int32} (j : Nat) (hi : i = nI j) (hj : j < n) (hn : n < 2 ^ 31) {v : Int64} (hv : f j = v) (hdg : decode cc pc = .ok (.laload, 1))
    (kk : W p l e R s m args below meth c H locs cells slots Q (F0 m (pc + 1) ls (.long v :: rest))) : W p l e R s m args below meth c H locs cells slots Q (F0 m pc ls (.int i :: .ref a :: rest)) := by
  obtain ⟨hK, ⟨ws, hP, hD, hw⟩, hS, hA⟩ := I
  obtain ⟨q0, he⟩ := hw.at hM
  subst hi
  exact va_lald hexec hb hK.1 hP q0 t0 he ht (vp_in_nI hj hn) hdg (by rw [nI_clamp (by omega), hv]; exact kk)
theorem mp_zald (hexec : p.tables.exec = Jvm.exec) (hb : c.code = cc) (I : mp_I D cl tys s A H0 H locs M) (t0 : Nat) {cA : ClassId} {n : Nat} {f : Nat → Int32} (hM : M a = some (.inl (cA, n, .inl f))) (ht : tys[t0]? = some (cA, .boolean)) {i : Int32} (j : Nat) (hi : i = nI j) (hj : j < n) (hn : n < 2 ^ 31) {v : Int32} (hv : f j = v) (hdg : decode cc pc = .ok (.baload, 1))
    (kk : W p l e R s m args below meth c H locs cells slots Q (F0 m (pc + 1) ls (.int v :: rest))) : W p l e R s m args below meth c H locs cells slots Q (F0 m pc ls (.int i :: .ref a :: rest)) := by
  obtain ⟨hK, ⟨ws, hP, hD, hw⟩, hS, hA⟩ := I
  obtain ⟨q0, he⟩ := hw.at hM
  subst hi
  exact va_zald hexec hb hK.1 hP q0 t0 he ht (vp_in_nI hj hn) hdg (by rw [nI_clamp (by omega), hv]; exact kk)
theorem mp_zast (hexec : p.tables.exec = Jvm.exec) (hb : c.code = cc) (I : mp_I D cl tys s A H0 H locs M) (t0 : Nat) {cA : ClassId} {n : Nat} {f : Nat → Int32} (hM : M a = some (.inl (cA, n, .inl f))) (ht : tys[t0]? = some (cA, .boolean)) {i x : Int32} (j : Nat) (hi : i = nI j) (hj : j < n) (hn : n < 2 ^ 31) (hx : vp_nar .boolean x = x) (hdg : decode cc pc = .ok (.bastore, 1))
    (kk : ∀ (H1 : Heap) (locs1 : List Loc), mp_I D cl tys s A H0 H1 locs1 (mp_up M a (.inl (cA, n, .inl (upd f j x)))) → W p l e R s m args below meth c H1 locs1 cells slots Q (F0 m (pc + 1) ls rest)) : W p l e R s m args below meth c H locs cells slots Q (F0 m pc ls (.int x :: .int i :: .ref a :: rest)) := by
  obtain ⟨hK, ⟨ws, hP, hD, hw⟩, hS, hA⟩ := I
  obtain ⟨q0, he⟩ := hw.at hM
  subst hi
  exact va_zast hexec hb hK.1 hP hD hS q0 t0 he ht (vp_in_nI hj hn) hdg (fun H1 locs1 hP1 hD1 hS1 => kk H1 locs1 (by rw [nI_clamp (by omega), hx] at hP1 hD1; exact ⟨hK, ⟨_, hP1, hD1, hw.set hD he⟩, hS1, hA⟩))
theorem mp_aald (hexec : p.tables.exec = Jvm.exec) (hb : c.code = cc) (I : mp_I D cl tys s A H0 H locs M) (t0 : Nat) {cA : ClassId} {C : String} {n : Nat} {f : Nat → Option Nat} (hM : M a = some (.inl (cA, n, .inr (.inr (.inr (.inr f)))))) (ht : tys[t0]? = some (cA, .object C)) {i : Int32} (j : Nat) (hi : i = nI j) (hj : j < n) (hn : n < 2 ^ 31) {v : Value} (hv : va_rf (f j) = v) (hdg : decode cc pc = .ok (.aaload, 1))
    (kk : W p l e R s m args below meth c H locs cells slots Q (F0 m (pc + 1) ls (v :: rest))) : W p l e R s m args below meth c H locs cells slots Q (F0 m pc ls (.int i :: .ref a :: rest)) := by
  obtain ⟨hK, ⟨ws, hP, hD, hw⟩, hS, hA⟩ := I
  obtain ⟨q0, he⟩ := hw.at hM
  subst hi
  exact va_aldq hexec hb hK.1 hP q0 t0 he ht (vp_in_nI hj hn) hdg (by rw [nI_clamp (by omega), hv]; exact kk)
theorem mp_iast (hexec : p.tables.exec = Jvm.exec) (hb : c.code = cc) (I : mp_I D cl tys s A H0 H locs M) (t0 : Nat) {cA : ClassId} {n : Nat} {f : Nat → Int32} (hM : M a = some (.inl (cA, n, .inl f))) (ht : tys[t0]? = some (cA, .int)) {i x : Int32} (j : Nat) (hi : i = nI j) (hj : j < n) (hn : n < 2 ^ 31) (hdg : decode cc pc = .ok (.iastore, 1))
    (kk : ∀ (H1 : Heap) (locs1 : List Loc), mp_I D cl tys s A H0 H1 locs1 (mp_up M a (.inl (cA, n, .inl (upd f j x)))) → W p l e R s m args below meth c H1 locs1 cells slots Q (F0 m (pc + 1) ls rest)) : W p l e R s m args below meth c H locs cells slots Q (F0 m pc ls (.int x :: .int i :: .ref a :: rest)) := by
  obtain ⟨hK, ⟨ws, hP, hD, hw⟩, hS, hA⟩ := I
  obtain ⟨q0, he⟩ := hw.at hM
  subst hi
  exact va_iast hexec hb hK.1 hP hD hS q0 t0 he ht (vp_in_nI hj hn) hdg (fun H1 locs1 hP1 hD1 hS1 => kk H1 locs1 (by rw [nI_clamp (by omega)] at hP1 hD1; exact ⟨hK, ⟨_, hP1, hD1, hw.set hD he⟩, hS1, hA⟩))
theorem mp_last (hexec : p.tables.exec = Jvm.exec) (hb : c.code = cc) (I : mp_I D cl tys s A H0 H locs M) (t0 : Nat) {cA : ClassId} {n : Nat} {f : Nat → Int64} (hM : M a = some (.inl (cA, n, .inr (.inl f)))) (ht : tys[t0]? = some (cA, .long)) {i : Int32} {x : Int64} (j : Nat) (hi : i = nI j) (hj : j < n) (hn : n < 2 ^ 31) (hdg : decode cc pc = .ok (.lastore, 1))
    (kk : ∀ (H1 : Heap) (locs1 : List Loc), mp_I D cl tys s A H0 H1 locs1 (mp_up M a (.inl (cA, n, .inr (.inl (vp_updL f j x))))) → W p l e R s m args below meth c H1 locs1 cells slots Q (F0 m (pc + 1) ls rest)) : W p l e R s m args below meth c H locs cells slots Q (F0 m pc ls (.long x :: .int i :: .ref a :: rest)) := by
  obtain ⟨hK, ⟨ws, hP, hD, hw⟩, hS, hA⟩ := I
  obtain ⟨q0, he⟩ := hw.at hM
  subst hi
  exact va_last hexec hb hK.1 hP hD hS q0 t0 he ht (vp_in_nI hj hn) hdg (fun H1 locs1 hP1 hD1 hS1 => kk H1 locs1 (by rw [nI_clamp (by omega)] at hP1 hD1; exact ⟨hK, ⟨_, hP1, hD1, hw.set hD he⟩, hS1, hA⟩))
theorem mp_aast (hexec : p.tables.exec = Jvm.exec) (hb : c.code = cc) (I : mp_I D cl tys s A H0 H locs M) (t0 ci : Nat) {cA : ClassId} {r : vw_C} {n v : Nat} {vs : List Value} {f : Nat → Option Nat} (hM : M a = some (.inl (cA, n, .inr (.inr (.inr (.inr f)))))) (ht : tys[t0]? = some (cA, .object r.1)) (hv : M v = some (.inr (ci, vs))) (hc : cl[ci]? = some r) {i : Int32} (j : Nat) (hi : i = nI j) (hj : j < n) (hn : n < 2 ^ 31) (hdg : decode cc pc = .ok (.aastore, 1))
    (kk : ∀ (H1 : Heap) (locs1 : List Loc), mp_I D cl tys s A H0 H1 locs1 (mp_up M a (.inl (cA, n, .inr (.inr (.inr (.inr (va_up f j (some v)))))))) → W p l e R s m args below meth c H1 locs1 cells slots Q (F0 m (pc + 1) ls rest)) : W p l e R s m args below meth c H locs cells slots Q (F0 m pc ls (.ref v :: .int i :: .ref a :: rest)) := by
  obtain ⟨hK, ⟨ws, hP, hD, hw⟩, hS, hA⟩ := I
  obtain ⟨q0, he⟩ := hw.at hM
  obtain ⟨qk, hek⟩ := hw.at hv
  subst hi
  exact va_astq hexec hb hK.1 hP hD hS q0 t0 qk ci he ht hek hc (vp_in_nI hj hn) hdg (fun H1 locs1 hP1 hD1 hS1 => kk H1 locs1 (by rw [nI_clamp (by omega)] at hP1 hD1; exact ⟨hK, ⟨_, hP1, hD1, hw.set hD he⟩, hS1, hA⟩))
theorem mp_new (hexec : p.tables.exec = Jvm.exec) (hb : c.code = cc) {own C : String} {T : u_T} {N ci index : Nat} {Ts : List Cond} (hts : ∀ w ∈ Ts, w.before args s = true) (hin : ∀ w ∈ u_ws C T N, w ∈ Ts) (ty : Nat → FieldType) (hty : ∀ k, k < N → parseFieldDescriptor (T k).2.2.1 = some (ty k)) (hown : s.vm.findClass own = some m.cls) (hcl : (Cond.classLink own index C).before args s = true) (hinst : (Cond.instantiable C N).before args s = true) (hini : (Cond.initialized C).before args s = true)
    (I : mp_I D cl tys s A H0 H locs M) (hc : cl[ci]? = some (C, T, N)) {fs : List Value} (hfs : ∀ j, j < N → defaultValue (ty j) = vp_V fs j) (hcells : cells + 1 ≤ R.cells) (hslots : slots + N ≤ R.slots) (hdg : decode cc pc = .ok (.new index, 3))
    (kk : ∀ (q : Nat) (H1 : Heap), M q = none → mp_I D cl tys s A H0 H1 locs (mp_up M q (.inr (ci, fs))) → W p l e R s m args below meth c H1 locs (cells + 1) (slots + N) Q (F0 m (pc + 3) ls (.ref q :: rest))) : W p l e R s m args below meth c H locs cells slots Q (F0 m pc ls rest) := by
  obtain ⟨hK, ⟨ws, hP, hD, hw⟩, hS, hA⟩ := I
  have hKn := hK.1.1 ci _ hc
  refine W.newcK hexec hb hown hcl hinst hini rfl hdg hcells hslots hKn.2.1 rfl fun H1 kC hkC e1 z1 o1 => ?_
  have hk : ∀ (k : Nat) (x : Nat × va_E), ws[k]? = some x → H1[x.1]? = H[x.1]? := fun k x hx => o1 x.1 ((hP k x hx).lt)
  have hD1 : va_D A (ws ++ [(H.size, .inr (ci, fs))]) := hD.push hP rfl (hA _ hS.1)
  have hP1 : va_P D cl (ws ++ [(H.size, .inr (ci, fs))]) H1 := (hP.kept hk).app (fun k x hx => by
    have hz : k < 1 := (List.getElem?_eq_some_iff.mp hx).1
    rw [show k = 0 by omega] at hx
    cases hx
    exact ⟨_, hc, (u_born ty hts hin hKn hkC e1 hty).to hfs⟩)
  exact kk H.size H1 (hw.fresh hD1) ⟨hK, ⟨_, hP1, hD1, hw.push hD1⟩, ⟨Nat.le_trans hS.1 (by omega), fun x h1 h2 => (o1 x (Nat.lt_of_lt_of_le h1 hS.1)).trans (hS.2.1 x h1 h2), hS.2.2⟩, hA⟩
theorem mp_copyl (hexec : p.tables.exec = Jvm.exec) (hb : c.code = cc) (hml : c.maxLocals = ls.size) {own : String} {index : Nat} (hown : s.vm.findClass own = some m.cls) (hlink : (Cond.methodLink own index arraycopyName).before args s = true) (hnat : (Cond.native arraycopyName).before args s = true) (hstat : (Cond.static arraycopyName).before args s = true) (hini : (Cond.initialized "java/lang/System").before args s = true)
    (I : mp_I D cl tys s A H0 H locs M) (t0 : Nat) {a0 : Nat} {c0 : ClassId} {n0 n1 : Nat} {f g : Nat → Int64} (hM0 : M a0 = some (.inl (c0, n0, .inr (.inl f)))) (hM1 : M a = some (.inl (c0, n1, .inr (.inl g)))) (ht : tys[t0]? = some (c0, .long)) {x y z : Int32} (sp dp n : Nat) (hsp : x = nI sp) (hdp : y = nI dp) (hn : z = nI n) (h1 : sp + n ≤ n0) (h2 : dp + n ≤ n1) (b0 : n0 < 2 ^ 31) (b1 : n1 < 2 ^ 31)
    (hframes : 1 ≤ R.frames) (hlocals : (rest.map fun v => v.category).sum + (nativeFrameWords "java/lang/System" "arraycopy" 5 + 11) ≤ R.locals) (hdg : decode cc pc = .ok (.invokestatic index, 3))
    (kk : ∀ (H1 : Heap) (locs1 : List Loc), mp_I D cl tys s A H0 H1 locs1 (mp_up M a (.inl (c0, n1, .inr (.inl (va_cpy f g sp dp n))))) → W p l e R s m args below meth c H1 locs1 cells slots Q (F0 m (pc + 3) ls rest)) : W p l e R s m args below meth c H locs cells slots Q (F0 m pc ls (.int z :: .int y :: .ref a :: .int x :: .ref a0 :: rest)) := by
  obtain ⟨hK, ⟨ws, hP, hD, hw⟩, hS, hA⟩ := I
  obtain ⟨q0, he0⟩ := hw.at hM0
  obtain ⟨q1, he1⟩ := hw.at hM1
  subst hsp hdp hn
  have e1 := nI_clamp (n := sp) (by omega)
  have e2 := nI_clamp (n := dp) (by omega)
  have e3 := nI_clamp (n := n) (by omega)
  exact va_copyl hexec hb hml hown hlink hnat hstat hini hK.1 hP hD hS q0 q1 t0 t0 he0 he1 ht ht rfl (nI_pos (by omega)) (nI_pos (by omega)) (nI_pos (by omega)) (by rw [e1, e3]; exact h1) (by rw [e2, e3]; exact h2) (fun i _ => rfl) hframes hlocals hdg (fun H1 locs1 hP1 hD1 hS1 => kk H1 locs1 (by rw [e1, e2, e3] at hP1 hD1; exact ⟨hK, ⟨_, hP1, hD1, hw.set hD he1⟩, hS1, hA⟩))
theorem mp_copyi (hexec : p.tables.exec = Jvm.exec) (hb : c.code = cc) (hml : c.maxLocals = ls.size) {own : String} {index : Nat} (hown : s.vm.findClass own = some m.cls) (hlink : (Cond.methodLink own index arraycopyName).before args s = true) (hnat : (Cond.native arraycopyName).before args s = true) (hstat : (Cond.static arraycopyName).before args s = true) (hini : (Cond.initialized "java/lang/System").before args s = true)
    (I : mp_I D cl tys s A H0 H locs M) (t0 : Nat) {a0 : Nat} {c0 : ClassId} {n0 n1 : Nat} {f g : Nat → Int32} (hM0 : M a0 = some (.inl (c0, n0, .inl f))) (hM1 : M a = some (.inl (c0, n1, .inl g))) (ht : tys[t0]? = some (c0, .int)) {x y z : Int32} (sp dp n : Nat) (hsp : x = nI sp) (hdp : y = nI dp) (hn : z = nI n) (h1 : sp + n ≤ n0) (h2 : dp + n ≤ n1) (b0 : n0 < 2 ^ 31) (b1 : n1 < 2 ^ 31)
    (hframes : 1 ≤ R.frames) (hlocals : (rest.map fun v => v.category).sum + (nativeFrameWords "java/lang/System" "arraycopy" 5 + 11) ≤ R.locals) (hdg : decode cc pc = .ok (.invokestatic index, 3))
    (kk : ∀ (H1 : Heap) (locs1 : List Loc), mp_I D cl tys s A H0 H1 locs1 (mp_up M a (.inl (c0, n1, .inl (va_cpy f g sp dp n)))) → W p l e R s m args below meth c H1 locs1 cells slots Q (F0 m (pc + 3) ls rest)) : W p l e R s m args below meth c H locs cells slots Q (F0 m pc ls (.int z :: .int y :: .ref a :: .int x :: .ref a0 :: rest)) := by
  obtain ⟨hK, ⟨ws, hP, hD, hw⟩, hS, hA⟩ := I
  obtain ⟨q0, he0⟩ := hw.at hM0
  obtain ⟨q1, he1⟩ := hw.at hM1
  subst hsp hdp hn
  have e1 := nI_clamp (n := sp) (by omega)
  have e2 := nI_clamp (n := dp) (by omega)
  have e3 := nI_clamp (n := n) (by omega)
  exact va_copyi hexec hb hml hown hlink hnat hstat hini hK.1 hP hD hS q0 q1 t0 t0 he0 he1 ht ht rfl (nI_pos (by omega)) (nI_pos (by omega)) (nI_pos (by omega)) (by rw [e1, e3]; exact h1) (by rw [e2, e3]; exact h2) (fun i _ => rfl) hframes hlocals hdg (fun H1 locs1 hP1 hD1 hS1 => kk H1 locs1 (by rw [e1, e2, e3] at hP1 hD1; exact ⟨hK, ⟨_, hP1, hD1, hw.set hD he1⟩, hS1, hA⟩))
theorem mp_newa (hexec : p.tables.exec = Jvm.exec) (hb : c.code = cc) {atype : ArrayType} (harr : (Cond.arrayClass (newarray.typeOf atype)).before args s = true) {ty : FieldType} (hty : newarray.typeOf atype = ty) (I : mp_I D cl tys s A H0 H locs M) (t0 : Nat) {cA : ClassId} (ht : tys[t0]? = some (cA, ty)) (hprim : ∀ k, va_RA s k ty → s.vm.findClass ("[" ++ ty.toString) = some k)
    {n : Int32} {N' : Nat} {a0 : vp_A} (ha : ∀ cA : ClassId, vp_cell cA a0 = arrV cA N' (fun _ => defaultValue ty)) (hn : ¬ n < 0) (hN : n.toNatClampNeg = N') (hbytes : N' * componentBytes ty ≤ 536870912) (hcells : cells + 1 ≤ R.cells) (hslots : slots + N' ≤ R.slots) (hdg : decode cc pc = .ok (.newarray atype, 2))
    (kk : ∀ (q : Nat) (H1 : Heap), M q = none → mp_I D cl tys s A H0 H1 locs (mp_up M q (.inl (cA, a0))) → W p l e R s m args below meth c H1 locs (cells + 1) (slots + N') Q (F0 m (pc + 2) ls (.ref q :: rest))) : W p l e R s m args below meth c H locs cells slots Q (F0 m pc ls (.int n :: rest)) := by
  obtain ⟨hK, ⟨ws, hP, hD, hw⟩, hS, hA⟩ := I
  subst hty
  refine va_newaK hexec hb harr rfl hdg rfl hn hN hbytes hcells hslots rfl fun H1 cB e1 z1 o1 hAr hNm => ?_
  have hcc : cB = cA := Option.some.inj (hNm.symm.trans (hprim cA (hK.1.2 t0 _ ht).2))
  subst hcc
  have hk : ∀ (k : Nat) (x : Nat × va_E), ws[k]? = some x → H1[x.1]? = H[x.1]? := fun k x hx => o1 x.1 ((hP k x hx).lt)
  have hD1 : va_D A (ws ++ [(H.size, .inl (cB, a0))]) := hD.push hP rfl (hA _ hS.1)
  have hP1 : va_P D cl (ws ++ [(H.size, .inl (cB, a0))]) H1 := (hP.kept hk).app (fun k x hx => by
    have hz : k < 1 := (List.getElem?_eq_some_iff.mp hx).1
    rw [show k = 0 by omega] at hx
    cases hx
    show H1[H.size]? = some (vp_cell _ _)
    rw [ha]
    exact e1)
  exact kk H.size H1 (hw.fresh hD1) ⟨hK, ⟨_, hP1, hD1, hw.push hD1⟩, ⟨Nat.le_trans hS.1 (by omega), fun x h1 h2 => (o1 x (Nat.lt_of_lt_of_le h1 hS.1)).trans (hS.2.1 x h1 h2), hS.2.2⟩, hA⟩
theorem mp_newq (hexec : p.tables.exec = Jvm.exec) (hb : c.code = cc) {own C : String} {index : Nat} (hown : s.vm.findClass own = some m.cls) (hclink : (Cond.classLink own index C).before args s = true) (hover : va_AO C s) (I : mp_I D cl tys s A H0 H locs M) (t0 : Nat) {cA : ClassId} (ht : tys[t0]? = some (cA, .object C))
    {n : Int32} {N' : Nat} (hn : ¬ n < 0) (hN : n.toNatClampNeg = N') (hbytes : N' * 4 ≤ 536870912) (hcells : cells + 1 ≤ R.cells) (hslots : slots + N' ≤ R.slots) (hdg : decode cc pc = .ok (.anewarray index, 3))
    (kk : ∀ (q : Nat) (H1 : Heap), M q = none → mp_I D cl tys s A H0 H1 locs (mp_up M q (.inl (cA, N', .inr (.inr (.inr (.inr (fun _ => none))))))) → W p l e R s m args below meth c H1 locs (cells + 1) (slots + N') Q (F0 m (pc + 3) ls (.ref q :: rest))) : W p l e R s m args below meth c H locs cells slots Q (F0 m pc ls (.int n :: rest)) := by
  obtain ⟨hK, ⟨ws, hP, hD, hw⟩, hS, hA⟩ := I
  refine va_newq hexec hb hown hclink hover hK.1 hP hD hS hA hn hN hbytes hcells hslots hdg (fun q cB H1 hK1 hP1 hD1 hS1 => ?_)
  have h1 := (hK1.2 tys.length (cB, .object C) (by rw [List.getElem?_append_right (Nat.le_refl _), Nat.sub_self]; rfl)).2
  have h2 := (hK.1.2 t0 _ ht).2
  obtain ⟨_, _, -, -, -, f1⟩ := h1
  obtain ⟨_, _, -, -, -, f2⟩ := h2
  have hcc : cB = cA := Option.some.inj (f1.symm.trans f2)
  subst hcc
  exact kk q H1 (hw.fresh hD1) ⟨hK, ⟨_, hP1, hD1, hw.push hD1⟩, hS1, hA⟩
end MPW
