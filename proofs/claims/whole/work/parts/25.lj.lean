/-! ## Three worlds side by side: what the law keeps -/
def dj (M N : mp_M) : Prop := ∀ q, M q = none ∨ N q = none
theorem dj.symm {M N : mp_M} (h : dj M N) : dj N M := fun q => (h q).symm
def LJ (D : va_G) (cl : List vw_C) (tys : List (ClassId × FieldType)) (s : State) (A : Nat → Prop) (H0 H : Heap) (locs : List Loc) (M N P : mp_M) : Prop :=
  mp_I D cl tys s A H0 H locs M ∧ mp_I D cl tys s A H0 H locs N ∧ mp_I D cl tys s A H0 H locs P ∧ dj M N ∧ dj M P ∧ dj N P
theorem LJ.rot {D : va_G} {cl : List vw_C} {tys : List (ClassId × FieldType)} {s : State} {A : Nat → Prop} {H0 H : Heap} {locs : List Loc} {M N P : mp_M} (J : LJ D cl tys s A H0 H locs M N P) : LJ D cl tys s A H0 H locs N M P :=
  ⟨J.2.1, J.1, J.2.2.1, J.2.2.2.1.symm, J.2.2.2.2.2, J.2.2.2.2.1⟩
/-- a world that a call on M leaves as it was -/
theorem mp_I.stay {D : va_G} {cl : List vw_C} {tys : List (ClassId × FieldType)} {s : State} {A : Nat → Prop} {H0 H H1 : Heap} {locs locs1 : List Loc} {M N : mp_M} (I : mp_I D cl tys s A H0 H locs N) (hd : dj M N) (hk : ∀ q : Nat, q < H.size → ¬ mp_A M H.size q → H1[q]? = H[q]?) (hS : va_S A H0 H1 locs1) : mp_I D cl tys s A H0 H1 locs1 N :=
  ⟨I.1, I.2.1.kept (fun a e ha => hk a (I.lt ha) (fun h => by
    rcases h with ⟨e', h⟩ | h
    · rcases hd a with h2 | h2
      · rw [h2] at h; cases h
      · rw [h2] at ha; cases ha
    · exact absurd (I.lt ha) (Nat.not_lt.mpr h))), hS, I.2.2.2⟩
theorem dj.next {D : va_G} {cl : List vw_C} {tys : List (ClassId × FieldType)} {s : State} {A : Nat → Prop} {H0 H : Heap} {locs : List Loc} {M M1 N : mp_M} (I : mp_I D cl tys s A H0 H locs N) (hd : dj M N) (h1 : ∀ q e, M1 q = some e → mp_A M H.size q) : dj M1 N := by
  intro q
  cases h : M1 q with
  | none => exact Or.inl rfl
  | some e =>
    refine Or.inr ?_
    rcases h1 q e h with ⟨e', h2⟩ | h2
    · rcases hd q with h3 | h3
      · rw [h3] at h2; cases h2
      · exact h3
    · cases hn : N q with
      | none => rfl
      | some y => exact absurd (I.lt hn) (Nat.not_lt.mpr h2)
section LJC
variable {p : Program} {l : Launch} {e : Env} {R : Room} {s : State} {m : MethodId} {args : Array Value} {below : List Frame} {meth : Method} {c : Code} {H : Heap} {locs : List Loc} {cells slots : Nat} {Q : State → Prop}
variable {pc : Nat} {ls : Array Slot} {rest st0 : List Value} {a : Array Value} {A : Nat → Prop} {H0 : Heap} {mc ms : Nat} {D : va_G} {cl : List vw_C} {tys : List (ClassId × FieldType)} {M N P : mp_M} {cc : ByteArray}
theorem lj_i {post : Int32 → mp_M → Prop} (hr : va_Run p l e R s m args below meth c H locs cells slots mc ms (F0 m pc ls st0) rest (va_Qi post (mp_B D cl tys M H.size) (mp_A M H.size) a) (mp_A M H.size)) (J : LJ D cl tys s A H0 H locs M N P)
    (kk : ∀ (r : Int32) (M1 : mp_M) (H1 : Heap) (locs1 : List Loc), post r M1 → LJ D cl tys s A H0 H1 locs1 M1 N P → W p l e R s m args below meth c H1 locs1 (cells + mc) (slots + ms) Q (F0 m (pc + 3) ls (.int r :: rest))) : W p l e R s m args below meth c H locs cells slots Q (F0 m pc ls st0) :=
  va_calli hr J.1.2.2.1 (fun q _ h => mp_sub J.1 q h) (mp_sub J.1) (fun r M1 t H1 locs1 ht _ hp hB _ hk hS => kk r M1 H1 locs1 hp
    ⟨⟨J.1.1, by rw [← ht]; exact hB.1.weaken (fun q _ _ h => mp_sub J.1 q h), hS, J.1.2.2.2⟩, J.2.1.stay J.2.2.2.1 hk hS, J.2.2.1.stay J.2.2.2.2.1 hk hS, dj.next J.2.1 J.2.2.2.1 (fun q e h => hB.1.in h), dj.next J.2.2.1 J.2.2.2.2.1 (fun q e h => hB.1.in h), J.2.2.2.2.2⟩)
theorem lj_l {post : Int64 → mp_M → Prop} (hr : va_Run p l e R s m args below meth c H locs cells slots mc ms (F0 m pc ls st0) rest (va_Ql post (mp_B D cl tys M H.size) (mp_A M H.size) a) (mp_A M H.size)) (J : LJ D cl tys s A H0 H locs M N P)
    (kk : ∀ (r : Int64) (M1 : mp_M) (H1 : Heap) (locs1 : List Loc), post r M1 → LJ D cl tys s A H0 H1 locs1 M1 N P → W p l e R s m args below meth c H1 locs1 (cells + mc) (slots + ms) Q (F0 m (pc + 3) ls (.long r :: rest))) : W p l e R s m args below meth c H locs cells slots Q (F0 m pc ls st0) :=
  va_calll hr J.1.2.2.1 (fun q _ h => mp_sub J.1 q h) (mp_sub J.1) (fun r M1 t H1 locs1 ht _ hp hB _ hk hS => kk r M1 H1 locs1 hp
    ⟨⟨J.1.1, by rw [← ht]; exact hB.1.weaken (fun q _ _ h => mp_sub J.1 q h), hS, J.1.2.2.2⟩, J.2.1.stay J.2.2.2.1 hk hS, J.2.2.1.stay J.2.2.2.2.1 hk hS, dj.next J.2.1 J.2.2.2.1 (fun q e h => hB.1.in h), dj.next J.2.2.1 J.2.2.2.2.1 (fun q e h => hB.1.in h), J.2.2.2.2.2⟩)
theorem lj_v {post : mp_M → Prop} (hr : va_Run p l e R s m args below meth c H locs cells slots mc ms (F0 m pc ls st0) rest (va_Qv post (mp_B D cl tys M H.size) (mp_A M H.size) a) (mp_A M H.size)) (J : LJ D cl tys s A H0 H locs M N P)
    (kk : ∀ (M1 : mp_M) (H1 : Heap) (locs1 : List Loc), post M1 → LJ D cl tys s A H0 H1 locs1 M1 N P → W p l e R s m args below meth c H1 locs1 (cells + mc) (slots + ms) Q (F0 m (pc + 3) ls rest)) : W p l e R s m args below meth c H locs cells slots Q (F0 m pc ls st0) :=
  va_callv hr J.1.2.2.1 (fun q _ h => mp_sub J.1 q h) (mp_sub J.1) (fun M1 t H1 locs1 ht _ hp hB _ hk hS => kk M1 H1 locs1 hp
    ⟨⟨J.1.1, by rw [← ht]; exact hB.1.weaken (fun q _ _ h => mp_sub J.1 q h), hS, J.1.2.2.2⟩, J.2.1.stay J.2.2.2.1 hk hS, J.2.2.1.stay J.2.2.2.2.1 hk hS, dj.next J.2.1 J.2.2.2.1 (fun q e h => hB.1.in h), dj.next J.2.2.1 J.2.2.2.2.1 (fun q e h => hB.1.in h), J.2.2.2.2.2⟩)
end LJC
/-- one cell alone -/
def mp_1 (o : Nat) (e : va_E) : mp_M := fun q => if q = o then some e else none
theorem mp_1s (o : Nat) (e : va_E) : mp_1 o e o = some e := if_pos rfl
theorem mp_1n {o q : Nat} {e : va_E} (h : q ≠ o) : mp_1 o e q = none := if_neg h
/-- a part of a world -/
theorem mp_P.part {D : va_G} {cl : List vw_C} {A : Nat → Prop} {M N : mp_M} {H : Heap} (h : mp_P D cl A M H) (hs : ∀ a e, N a = some e → M a = some e) : mp_P D cl A N H := by
  obtain ⟨ws, hP, hD, hw⟩ := h
  have hsub : ∀ (k : Nat) (q : Nat × va_E), (ws.filter (fun q => (N q.1).isSome))[k]? = some q → q ∈ ws ∧ (N q.1).isSome = true := fun k q hk => by
    have := List.mem_filter.mp (List.mem_of_getElem? hk)
    exact ⟨this.1, this.2⟩
  refine ⟨ws.filter (fun q => (N q.1).isSome), fun k q hk => ?_, ⟨fun i j x y hi hj hxy => ?_, fun k q hk => ?_⟩, fun a e => ?_⟩
  · obtain ⟨j, hj⟩ := List.getElem?_of_mem (hsub k q hk).1
    exact hP j q hj
  · have hp : ws.Pairwise (fun x y => x.1 ≠ y.1) := List.pairwise_iff_getElem.mpr (fun i j hi hj hij he => by
      have := hD.1 i j _ _ (List.getElem?_eq_getElem hi) (List.getElem?_eq_getElem hj) he
      omega)
    have hp2 : (ws.filter (fun q => (N q.1).isSome)).Pairwise (fun x y => x.1 ≠ y.1) := hp.filter _
    obtain ⟨g1, e1⟩ := List.getElem?_eq_some_iff.mp hi
    obtain ⟨g2, e2⟩ := List.getElem?_eq_some_iff.mp hj
    rcases Nat.lt_trichotomy i j with hlt | heq | hlt
    · exact absurd (by rw [e1, e2]; exact hxy) (List.pairwise_iff_getElem.mp hp2 i j g1 g2 hlt)
    · exact heq
    · exact absurd (by rw [e1, e2]; exact hxy.symm) (List.pairwise_iff_getElem.mp hp2 j i g2 g1 hlt)
  · obtain ⟨j, hj⟩ := List.getElem?_of_mem (hsub k q hk).1
    exact hD.2 j q hj
  · constructor
    · intro ha
      exact List.mem_filter.mpr ⟨(hw a e).mp (hs a e ha), by simp [ha]⟩
    · intro ha
      obtain ⟨h1, h2⟩ := List.mem_filter.mp ha
      have h3 := (hw a e).mpr h1
      obtain ⟨y, hy⟩ := Option.isSome_iff_exists.mp h2
      have h4 := hs a y hy
      rw [h3] at h4
      cases h4
      exact hy
/-- a cell more -/
theorem mp_P.add {D : va_G} {cl : List vw_C} {A : Nat → Prop} {M : mp_M} {H : Heap} {o : Nat} {e : va_E} (h : mp_P D cl A M H) (h1 : mp_P D cl A (mp_1 o e) H) (hn : M o = none) : mp_P D cl A (mp_up M o e) H := by
  have hin := h1.in (mp_1s o e)
  obtain ⟨ws1, hP1, hD1, hw1⟩ := h1
  obtain ⟨k1, hk1⟩ := hw1.at (mp_1s o e)
  obtain ⟨ws, hP, hD, hw⟩ := h
  have hDn : va_D A (ws ++ [(o, e)]) := va_D.app hD ⟨fun i j x y hi hj _ => by
      have a1 : i < 1 := (List.getElem?_eq_some_iff.mp hi).1
      have a2 : j < 1 := (List.getElem?_eq_some_iff.mp hj).1
      omega, fun k q hk => by
      have hz : k < 1 := (List.getElem?_eq_some_iff.mp hk).1
      rw [show k = 0 by omega] at hk
      cases hk
      exact hin⟩ (fun i j x y hi hj hxy => by
      have hz : j < 1 := (List.getElem?_eq_some_iff.mp hj).1
      rw [show j = 0 by omega] at hj
      cases hj
      have := (hw x.1 x.2).mpr (List.mem_of_getElem? hi)
      rw [show x.1 = o from hxy, hn] at this
      cases this)
  refine ⟨ws ++ [(o, e)], va_P.app hP (fun k q hk => ?_), hDn, hw.push hDn⟩
  have hz : k < 1 := (List.getElem?_eq_some_iff.mp hk).1
  rw [show k = 0 by omega] at hk
  cases hk
  exact hP1 k1 _ hk1
