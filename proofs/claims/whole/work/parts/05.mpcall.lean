/-! ## Calls, contracts and ends over maps -/
theorem mp_recv {s : State} {H : Heap} {D : va_G} {cl : List vw_C} {A : Nat → Prop} {H0 : Heap} {locs : List Loc} {M : mp_M} {tys : List (ClassId × FieldType)} (I : mp_I D cl tys s A H0 H locs M) {b ci : Nat} {q : vw_C} {fs : List Value} (hM : M b = some (.inr (ci, fs))) (hc : cl[ci]? = some q) : ∃ cell : Cell, H[b]? = some cell ∧ cell.vm.isStatics = false ∧ s.vm.findClass q.1 = some cell.cls := by
  obtain ⟨hK, ⟨ws, hP, hD, hw⟩, hS, hA⟩ := I
  obtain ⟨q0, he⟩ := hw.at hM
  exact va_recv hK.1 hP hc he
theorem mp_preS {s : State} {H : Heap} {D : va_G} {cl : List vw_C} {A : Nat → Prop} {H0 : Heap} {locs : List Loc} {M : mp_M} {tys : List (ClassId × FieldType)} (I : mp_I D cl tys s A H0 H locs M) (As : List Value) : PreS s H (mp_Pc D cl tys As M H.size) As :=
  ⟨mp_blind, fun U hU hW => ⟨rfl, by rw [hU], by rw [hU]; exact I.2.1.weaken (fun _ _ _ _ => trivial), mp_K.warm hW I.1⟩⟩
theorem mp_preV {s : State} {H : Heap} {D : va_G} {cl : List vw_C} {A : Nat → Prop} {H0 : Heap} {locs : List Loc} {M : mp_M} {tys : List (ClassId × FieldType)} (I : mp_I D cl tys s A H0 H locs M) {b ci : Nat} {C : String} {T : u_T} {N : Nat} {fs : List Value} (hM : M b = some (.inr (ci, fs))) (hc : cl[ci]? = some (C, T, N)) (As : List Value) : PreV s H C b (mp_Pc D cl tys (.ref b :: As) M H.size) As :=
  ⟨mp_blind, mp_recv I hM hc, fun U hU hW => ⟨rfl, by rw [hU], by rw [hU]; exact I.2.1.weaken (fun _ _ _ _ => trivial), mp_K.warm hW I.1⟩⟩
theorem mp_sub {s : State} {H : Heap} {D : va_G} {cl : List vw_C} {A : Nat → Prop} {H0 : Heap} {locs : List Loc} {M : mp_M} {tys : List (ClassId × FieldType)} (I : mp_I D cl tys s A H0 H locs M) : ∀ q, mp_A M H.size q → A q := by
  intro q h
  rcases h with ⟨e, h⟩ | h
  · exact I.2.1.in h
  · exact I.2.2.2 q (Nat.le_trans I.2.2.1.1 h)
section MPC
variable {p : Program} {l : Launch} {e : Env} {R : Room} {s : State} {m : MethodId} {args : Array Value} {below : List Frame} {meth : Method} {c : Code} {H : Heap} {locs : List Loc} {cells slots : Nat} {Q : State → Prop}
variable {pc : Nat} {ls : Array Slot} {rest st0 : List Value} {a : Array Value} {A : Nat → Prop} {H0 : Heap} {mc ms : Nat} {D : va_G} {cl : List vw_C} {tys : List (ClassId × FieldType)} {M : mp_M} {cc : ByteArray}
theorem mp_calli {post : Int32 → mp_M → Prop} (hr : va_Run p l e R s m args below meth c H locs cells slots mc ms (F0 m pc ls st0) rest (va_Qi post (mp_B D cl tys M H.size) (mp_A M H.size) a) (mp_A M H.size)) (I : mp_I D cl tys s A H0 H locs M)
    (kk : ∀ (r : Int32) (M1 : mp_M) (H1 : Heap) (locs1 : List Loc), post r M1 → mp_I D cl tys s A H0 H1 locs1 M1 → W p l e R s m args below meth c H1 locs1 (cells + mc) (slots + ms) Q (F0 m (pc + 3) ls (.int r :: rest))) : W p l e R s m args below meth c H locs cells slots Q (F0 m pc ls st0) :=
  va_calli hr I.2.2.1 (fun q _ h => mp_sub I q h) (mp_sub I) (fun r M1 t H1 locs1 ht _ hp hB _ _ hS => kk r M1 H1 locs1 hp ⟨I.1, by rw [← ht]; exact hB.1.weaken (fun q _ _ h => mp_sub I q h), hS, I.2.2.2⟩)
theorem mp_calll {post : Int64 → mp_M → Prop} (hr : va_Run p l e R s m args below meth c H locs cells slots mc ms (F0 m pc ls st0) rest (va_Ql post (mp_B D cl tys M H.size) (mp_A M H.size) a) (mp_A M H.size)) (I : mp_I D cl tys s A H0 H locs M)
    (kk : ∀ (r : Int64) (M1 : mp_M) (H1 : Heap) (locs1 : List Loc), post r M1 → mp_I D cl tys s A H0 H1 locs1 M1 → W p l e R s m args below meth c H1 locs1 (cells + mc) (slots + ms) Q (F0 m (pc + 3) ls (.long r :: rest))) : W p l e R s m args below meth c H locs cells slots Q (F0 m pc ls st0) :=
  va_calll hr I.2.2.1 (fun q _ h => mp_sub I q h) (mp_sub I) (fun r M1 t H1 locs1 ht _ hp hB _ _ hS => kk r M1 H1 locs1 hp ⟨I.1, by rw [← ht]; exact hB.1.weaken (fun q _ _ h => mp_sub I q h), hS, I.2.2.2⟩)
theorem mp_callv {post : mp_M → Prop} (hr : va_Run p l e R s m args below meth c H locs cells slots mc ms (F0 m pc ls st0) rest (va_Qv post (mp_B D cl tys M H.size) (mp_A M H.size) a) (mp_A M H.size)) (I : mp_I D cl tys s A H0 H locs M)
    (kk : ∀ (M1 : mp_M) (H1 : Heap) (locs1 : List Loc), post M1 → mp_I D cl tys s A H0 H1 locs1 M1 → W p l e R s m args below meth c H1 locs1 (cells + mc) (slots + ms) Q (F0 m (pc + 3) ls rest)) : W p l e R s m args below meth c H locs cells slots Q (F0 m pc ls st0) :=
  va_callv hr I.2.2.1 (fun q _ h => mp_sub I q h) (mp_sub I) (fun M1 t H1 locs1 ht _ hp hB _ _ hS => kk M1 H1 locs1 hp ⟨I.1, by rw [← ht]; exact hB.1.weaken (fun q _ _ h => mp_sub I q h), hS, I.2.2.2⟩)
theorem mp_callq {post : Option Nat → mp_M → Prop} (hr : va_Run p l e R s m args below meth c H locs cells slots mc ms (F0 m pc ls st0) rest (va_Qq post (mp_B D cl tys M H.size) (mp_A M H.size) a) (mp_A M H.size)) (I : mp_I D cl tys s A H0 H locs M)
    (kk : ∀ (r : Option Nat) (M1 : mp_M) (H1 : Heap) (locs1 : List Loc), post r M1 → mp_I D cl tys s A H0 H1 locs1 M1 → W p l e R s m args below meth c H1 locs1 (cells + mc) (slots + ms) Q (F0 m (pc + 3) ls (va_rf r :: rest))) : W p l e R s m args below meth c H locs cells slots Q (F0 m pc ls st0) :=
  va_callq hr I.2.2.1 (fun q _ h => mp_sub I q h) (mp_sub I) (fun r M1 t H1 locs1 ht _ hp hB _ _ hS => kk r M1 H1 locs1 hp ⟨I.1, by rw [← ht]; exact hB.1.weaken (fun q _ _ h => mp_sub I q h), hS, I.2.2.2⟩)
theorem mp_iret {post : Int32 → mp_M → Prop} {M0 : mp_M} (hexec : p.tables.exec = Jvm.exec) (hb : c.code = cc) (hr : meth.sig.returnType = some .int) (hlocks : meth.locks = false) (I : mp_I D cl tys s (mp_A M0 s.heap.size) s.heap H locs M) {v : Int32} (hc : cells ≤ mc) (hs : slots ≤ ms) (hdg : decode cc pc = .ok (.ireturn, 1)) (hp : post v M) :
    W p l e R s m args below meth c H locs cells slots (MQ below (va_Qi post (mp_B D cl tys M0 s.heap.size) (mp_A M0 s.heap.size)) args s mc ms (mp_A M0 s.heap.size)) (F0 m pc ls [.int v]) :=
  W.widen hc hs (W.iret hexec hb hr (fun t ht hW => ⟨⟨v, M, rfl, hp, by rw [ht]; exact I.2.1, mp_K.warm hW I.1⟩, I.2.2.1.F ht⟩) I.2.2.1.2.2 hdg hlocks)
theorem mp_zret {post : Int32 → mp_M → Prop} {M0 : mp_M} {ty : FieldType} (hexec : p.tables.exec = Jvm.exec) (hb : c.code = cc) (hr : meth.sig.returnType = some ty) (hlocks : meth.locks = false) (I : mp_I D cl tys s (mp_A M0 s.heap.size) s.heap H locs M) {v : Int32} (hn : narrow ty (.int v) = .int v) (hc : cells ≤ mc) (hs : slots ≤ ms) (hdg : decode cc pc = .ok (.ireturn, 1)) (hp : post v M) :
    W p l e R s m args below meth c H locs cells slots (MQ below (va_Qi post (mp_B D cl tys M0 s.heap.size) (mp_A M0 s.heap.size)) args s mc ms (mp_A M0 s.heap.size)) (F0 m pc ls [.int v]) :=
  W.widen hc hs (W.zret hexec hb hr hn (fun t ht hW => ⟨⟨v, M, rfl, hp, by rw [ht]; exact I.2.1, mp_K.warm hW I.1⟩, I.2.2.1.F ht⟩) I.2.2.1.2.2 hdg hlocks)
theorem mp_lret {post : Int64 → mp_M → Prop} {M0 : mp_M} (hexec : p.tables.exec = Jvm.exec) (hb : c.code = cc) (hr : meth.sig.returnType = some .long) (hlocks : meth.locks = false) (I : mp_I D cl tys s (mp_A M0 s.heap.size) s.heap H locs M) {v : Int64} (hc : cells ≤ mc) (hs : slots ≤ ms) (hdg : decode cc pc = .ok (.lreturn, 1)) (hp : post v M) :
    W p l e R s m args below meth c H locs cells slots (MQ below (va_Ql post (mp_B D cl tys M0 s.heap.size) (mp_A M0 s.heap.size)) args s mc ms (mp_A M0 s.heap.size)) (F0 m pc ls [.long v]) :=
  W.widen hc hs (W.lret hexec hb hr (fun t ht hW => ⟨⟨v, M, rfl, hp, by rw [ht]; exact I.2.1, mp_K.warm hW I.1⟩, I.2.2.1.F ht⟩) I.2.2.1.2.2 hdg hlocks)
theorem mp_vret {post : mp_M → Prop} {M0 : mp_M} (hexec : p.tables.exec = Jvm.exec) (hb : c.code = cc) (hr : meth.sig.returnType = none) (hlocks : meth.locks = false) (I : mp_I D cl tys s (mp_A M0 s.heap.size) s.heap H locs M) (hc : cells ≤ mc) (hs : slots ≤ ms) (hdg : decode cc pc = .ok (.return_, 1)) (hp : post M) :
    W p l e R s m args below meth c H locs cells slots (MQ below (va_Qv post (mp_B D cl tys M0 s.heap.size) (mp_A M0 s.heap.size)) args s mc ms (mp_A M0 s.heap.size)) (F0 m pc ls []) :=
  W.widen hc hs (W.vret hexec hb hr (fun t ht hW => ⟨⟨M, rfl, hp, by rw [ht]; exact I.2.1, mp_K.warm hW I.1⟩, I.2.2.1.F ht⟩) I.2.2.1.2.2 hdg hlocks)
theorem mp_qret {post : Option Nat → mp_M → Prop} {M0 : mp_M} {C : String} {r : Option Nat} (hexec : p.tables.exec = Jvm.exec) (hb : c.code = cc) (hr : meth.sig.returnType = some (.object C)) (hlocks : meth.locks = false) (I : mp_I D cl tys s (mp_A M0 s.heap.size) s.heap H locs M) {v : Value} (hv : v = va_rf r) (hc : cells ≤ mc) (hs : slots ≤ ms) (hdg : decode cc pc = .ok (.areturn, 1)) (hp : post r M) :
    W p l e R s m args below meth c H locs cells slots (MQ below (va_Qq post (mp_B D cl tys M0 s.heap.size) (mp_A M0 s.heap.size)) args s mc ms (mp_A M0 s.heap.size)) (F0 m pc ls [v]) :=
  W.widen hc hs (W.aret hexec hb hr (Or.inl ⟨C, rfl⟩) (by rw [hv]; cases r <;> simp [va_rf]) (fun t ht hW => ⟨⟨r, M, by rw [hv], hp, by rw [ht]; exact I.2.1, mp_K.warm hW I.1⟩, I.2.2.1.F ht⟩) I.2.2.1.2.2 hdg hlocks)
end MPC
/-- a method's contract: with the world M and the arguments av it comes to an end that Qf allows; at most mc new cells of ms slots -/
def mp_Met (l : Launch) (y : MethodName) (ws : List Cond) (rm : Room) (D : va_G) (cl : List vw_C) (tys : List (ClassId × FieldType)) (av : List Value) (M : mp_M) (Qf : (mp_M → State → Prop) → (Nat → Prop) → Array Value → State → Outcome → State → Prop) (mc ms : Nat) : Prop :=
  ∀ sz : Nat, Met l y ws rm (mp_Pc D cl tys av M sz) (Qf (mp_B D cl tys M sz) (mp_A M sz)) mc ms (mp_A M sz)
theorem mp_Met.of {l : Launch} {y : MethodName} {rm : Room} {D : va_G} {cl : List vw_C} {tys : List (ClassId × FieldType)} {av : List Value} {M : mp_M} {Qf : (mp_M → State → Prop) → (Nat → Prop) → Array Value → State → Outcome → State → Prop} {mc ms : Nat} {cc : ByteArray} {maxL : Nat} {ret : Option FieldType}
    (hy : plainName y.cls = true) (hn : (lg_sl av).length ≤ maxL)
    (body : ∀ (p : Program) (e : Env) (s : State) (m : MethodId) (below : List Frame) (meth : Method) (c : Code), p.tables.exec = Jvm.exec → c.code = cc → meth.sig.returnType = ret → c.maxLocals = maxL → s.vm.findClass y.cls = some m.cls → (∀ w ∈ bw, w.before av.toArray s = true) → meth.locks = false → meth.name = y.name →
      ∀ ls : Array Slot, lv_has ls maxL (lv_args 0 av) → mp_I D cl tys s (mp_A M s.heap.size) s.heap s.heap [] M →
      W p l e rm s m av.toArray below meth c s.heap [] 0 0 (MQ below (Qf (mp_B D cl tys M s.heap.size) (mp_A M s.heap.size)) av.toArray s mc ms (mp_A M s.heap.size)) (F0 m 0 ls [])) : mp_Met l y (Cond.code y cc maxL ret :: bw) rm D cl tys av M Qf mc ms := by
  intro sz
  refine Met.ofW (cc := cc) (maxL := maxL) (ret := ret) hy rfl ?_
  intro p e s m args below meth c s₁ B hml hv
  obtain ⟨rfl, hsz, hP, hK⟩ := hv
  subst hsz
  have hl := lv_entry av (n := maxL) hn
  rw [lg_entry_eq]
  exact body p e s m below meth c B.exec B.bytes B.returns hml (findClass_of_methodNamed B.named) (fun w h => atoms_spec (ws := Cond.code y cc maxL ret :: bw) B.pre w (List.mem_cons_of_mem _ h)) B.notSynchronized (name_of_methodNamed B.named B.method).1 _ hl (mp_I.start hK hP)
theorem bw_call {ws : List Cond} {y : Cond} (hw : ∀ w ∈ ws, w ∈ bw) (hy : y ∈ bw) : GoodIn bw (ws ++ (y :: bw)) := by
  intro w h
  rcases List.mem_append.mp h with h | h
  · exact bw_good w (hw w h)
  · rcases List.mem_cons.mp h with rfl | h
    · exact bw_good _ hy
    · exact bw_good w h
theorem bw_V {own C : String} {idx : Nat} {y : MethodName} {k : Cond} (h1 : .methodLink own idx y ∈ bw) (h2 : .instanceMethod y ∈ bw) (h3 : .selects C y y ∈ bw) (h4 : .initialized C ∈ bw) (h5 : k ∈ bw) : GoodIn bw (wsV own idx C y (k :: bw)) :=
  bw_call (List.forall_mem_cons.mpr ⟨h1, List.forall_mem_cons.mpr ⟨h2, List.forall_mem_cons.mpr ⟨h3, List.forall_mem_cons.mpr ⟨h4, fun _ h => absurd h List.not_mem_nil⟩⟩⟩⟩) h5
theorem bw_S {own : String} {idx : Nat} {y : MethodName} {k : Cond} (h1 : .methodLink own idx y ∈ bw) (h2 : .static y ∈ bw) (h4 : .initialized own ∈ bw) (h5 : k ∈ bw) : GoodIn bw (wsS own idx y (k :: bw)) :=
  bw_call (List.forall_mem_cons.mpr ⟨h1, List.forall_mem_cons.mpr ⟨h2, List.forall_mem_cons.mpr ⟨h4, fun _ h => absurd h List.not_mem_nil⟩⟩⟩) h5
theorem bw_I {k : Cond} (h5 : k ∈ bw) : GoodIn bw (k :: bw) := bw_call (ws := []) (fun _ h => absurd h List.not_mem_nil) h5
