section
-- ===== PART A: goes FIRST, ahead of the names: the tables' words, and 'selects' of the private methods out of them =====
/-- a private method of a class that the tables say can be made, by its rows of tables_1 -/
def lw_okq (q : MethodName × Nat) : Prop := (q.1.cls ≠ "java/lang/invoke/MethodHandle" ∧ q.1.cls ≠ "java/lang/invoke/VarHandle") ∧ Cond.instantiable q.1.cls q.2 ∈ tables_1 ∧ Cond.privateMethod q.1 ∈ tables_1 ∧ Cond.instanceMethod q.1 ∈ tables_1
theorem lw_p0 : lw_okq (⟨"PlaceDesk", "hasRoomFor", "(I)Z"⟩, 11) := ⟨⟨by decide +kernel, by decide +kernel⟩, List.mem_of_getElem? (i := 13) (by decide +kernel), List.mem_of_getElem? (i := 70) (by decide +kernel), List.mem_of_getElem? (i := 71) (by decide +kernel)⟩
theorem lw_p1 : lw_okq (⟨"PlaceDesk", "addThing", "(II)I"⟩, 11) := ⟨⟨by decide +kernel, by decide +kernel⟩, List.mem_of_getElem? (i := 13) (by decide +kernel), List.mem_of_getElem? (i := 74) (by decide +kernel), List.mem_of_getElem? (i := 75) (by decide +kernel)⟩
theorem lw_p2 : lw_okq (⟨"PlaceDesk", "findThing", "(I)LPlaceDesk$Thing;"⟩, 11) := ⟨⟨by decide +kernel, by decide +kernel⟩, List.mem_of_getElem? (i := 13) (by decide +kernel), List.mem_of_getElem? (i := 112) (by decide +kernel), List.mem_of_getElem? (i := 113) (by decide +kernel)⟩
theorem lw_p3 : lw_okq (⟨"PlaceDesk", "addSpot", "(IIIZ)I"⟩, 11) := ⟨⟨by decide +kernel, by decide +kernel⟩, List.mem_of_getElem? (i := 13) (by decide +kernel), List.mem_of_getElem? (i := 124) (by decide +kernel), List.mem_of_getElem? (i := 125) (by decide +kernel)⟩
theorem lw_p4 : lw_okq (⟨"PlaceDesk", "findSpot", "(I)LPlaceDesk$Spot;"⟩, 11) := ⟨⟨by decide +kernel, by decide +kernel⟩, List.mem_of_getElem? (i := 13) (by decide +kernel), List.mem_of_getElem? (i := 160) (by decide +kernel), List.mem_of_getElem? (i := 161) (by decide +kernel)⟩
theorem lw_p5 : lw_okq (⟨"PlaceDesk", "findSnapshot", "(I)LPlaceDesk$Snapshot;"⟩, 11) := ⟨⟨by decide +kernel, by decide +kernel⟩, List.mem_of_getElem? (i := 13) (by decide +kernel), List.mem_of_getElem? (i := 201) (by decide +kernel), List.mem_of_getElem? (i := 202) (by decide +kernel)⟩
theorem lw_p6 : lw_okq (⟨"java/lang/Throwable", "fillInStackTrace", "(I)Ljava/lang/Throwable;"⟩, 6) := ⟨⟨by decide +kernel, by decide +kernel⟩, List.mem_of_getElem? (i := 261) (by decide +kernel), List.mem_of_getElem? (i := 259) (by decide +kernel), List.mem_of_getElem? (i := 260) (by decide +kernel)⟩
theorem lw_p7 : lw_okq (⟨"PlaceDesk", "isValue", "(IJ)Z"⟩, 11) := ⟨⟨by decide +kernel, by decide +kernel⟩, List.mem_of_getElem? (i := 13) (by decide +kernel), List.mem_of_getElem? (i := 295) (by decide +kernel), List.mem_of_getElem? (i := 296) (by decide +kernel)⟩
theorem lw_p8 : lw_okq (⟨"PlaceDesk", "perform", "(LPlaceDesk$Spot;IJJ)J"⟩, 11) := ⟨⟨by decide +kernel, by decide +kernel⟩, List.mem_of_getElem? (i := 13) (by decide +kernel), List.mem_of_getElem? (i := 305) (by decide +kernel), List.mem_of_getElem? (i := 306) (by decide +kernel)⟩
theorem lw_p9 : lw_okq (⟨"PlaceDesk", "read", "(LPlaceDesk$Spot;)J"⟩, 11) := ⟨⟨by decide +kernel, by decide +kernel⟩, List.mem_of_getElem? (i := 13) (by decide +kernel), List.mem_of_getElem? (i := 309) (by decide +kernel), List.mem_of_getElem? (i := 310) (by decide +kernel)⟩
theorem lw_p10 : lw_okq (⟨"PlaceDesk", "write", "(LPlaceDesk$Spot;J)V"⟩, 11) := ⟨⟨by decide +kernel, by decide +kernel⟩, List.mem_of_getElem? (i := 13) (by decide +kernel), List.mem_of_getElem? (i := 318) (by decide +kernel), List.mem_of_getElem? (i := 319) (by decide +kernel)⟩
theorem lw_p11 : lw_okq (⟨"PlaceDeskModel", "newObject", "(II)I"⟩, 18) := ⟨⟨by decide +kernel, by decide +kernel⟩, List.mem_of_getElem? (i := 325) (by decide +kernel), List.mem_of_getElem? (i := 399) (by decide +kernel), List.mem_of_getElem? (i := 400) (by decide +kernel)⟩
theorem lw_p12 : lw_okq (⟨"PlaceDeskModel", "isObject", "(I)Z"⟩, 18) := ⟨⟨by decide +kernel, by decide +kernel⟩, List.mem_of_getElem? (i := 325) (by decide +kernel), List.mem_of_getElem? (i := 416) (by decide +kernel), List.mem_of_getElem? (i := 417) (by decide +kernel)⟩
theorem lw_p13 : lw_okq (⟨"PlaceDeskModel", "newPlace", "(IIIZ)I"⟩, 18) := ⟨⟨by decide +kernel, by decide +kernel⟩, List.mem_of_getElem? (i := 325) (by decide +kernel), List.mem_of_getElem? (i := 424) (by decide +kernel), List.mem_of_getElem? (i := 425) (by decide +kernel)⟩
theorem lw_p14 : lw_okq (⟨"PlaceDeskModel", "isPlace", "(I)Z"⟩, 18) := ⟨⟨by decide +kernel, by decide +kernel⟩, List.mem_of_getElem? (i := 325) (by decide +kernel), List.mem_of_getElem? (i := 436) (by decide +kernel), List.mem_of_getElem? (i := 437) (by decide +kernel)⟩
theorem lw_p15 : lw_okq (⟨"PlaceDeskModel", "isValue", "(IJ)Z"⟩, 18) := ⟨⟨by decide +kernel, by decide +kernel⟩, List.mem_of_getElem? (i := 325) (by decide +kernel), List.mem_of_getElem? (i := 444) (by decide +kernel), List.mem_of_getElem? (i := 445) (by decide +kernel)⟩
def lw_privs_1 : List (MethodName × Nat) := [(⟨"PlaceDesk", "hasRoomFor", "(I)Z"⟩, 11), (⟨"PlaceDesk", "addThing", "(II)I"⟩, 11), (⟨"PlaceDesk", "findThing", "(I)LPlaceDesk$Thing;"⟩, 11), (⟨"PlaceDesk", "addSpot", "(IIIZ)I"⟩, 11), (⟨"PlaceDesk", "findSpot", "(I)LPlaceDesk$Spot;"⟩, 11), (⟨"PlaceDesk", "findSnapshot", "(I)LPlaceDesk$Snapshot;"⟩, 11), (⟨"java/lang/Throwable", "fillInStackTrace", "(I)Ljava/lang/Throwable;"⟩, 6), (⟨"PlaceDesk", "isValue", "(IJ)Z"⟩, 11), (⟨"PlaceDesk", "perform", "(LPlaceDesk$Spot;IJJ)J"⟩, 11), (⟨"PlaceDesk", "read", "(LPlaceDesk$Spot;)J"⟩, 11), (⟨"PlaceDesk", "write", "(LPlaceDesk$Spot;J)V"⟩, 11), (⟨"PlaceDeskModel", "newObject", "(II)I"⟩, 18), (⟨"PlaceDeskModel", "isObject", "(I)Z"⟩, 18), (⟨"PlaceDeskModel", "newPlace", "(IIIZ)I"⟩, 18), (⟨"PlaceDeskModel", "isPlace", "(I)Z"⟩, 18), (⟨"PlaceDeskModel", "isValue", "(IJ)Z"⟩, 18)]
theorem lw_r1 : ∀ q ∈ lw_privs_1, lw_okq q := List.forall_mem_cons.mpr ⟨lw_p0, List.forall_mem_cons.mpr ⟨lw_p1, List.forall_mem_cons.mpr ⟨lw_p2, List.forall_mem_cons.mpr ⟨lw_p3, List.forall_mem_cons.mpr ⟨lw_p4, List.forall_mem_cons.mpr ⟨lw_p5, List.forall_mem_cons.mpr ⟨lw_p6, List.forall_mem_cons.mpr ⟨lw_p7, List.forall_mem_cons.mpr ⟨lw_p8, List.forall_mem_cons.mpr ⟨lw_p9, List.forall_mem_cons.mpr ⟨lw_p10, List.forall_mem_cons.mpr ⟨lw_p11, List.forall_mem_cons.mpr ⟨lw_p12, List.forall_mem_cons.mpr ⟨lw_p13, List.forall_mem_cons.mpr ⟨lw_p14, List.forall_mem_cons.mpr ⟨lw_p15, fun _ h => absurd h List.not_mem_nil⟩⟩⟩⟩⟩⟩⟩⟩⟩⟩⟩⟩⟩⟩⟩⟩
theorem lw_p16 : lw_okq (⟨"PlaceDeskModel", "get", "(I)J"⟩, 18) := ⟨⟨by decide +kernel, by decide +kernel⟩, List.mem_of_getElem? (i := 325) (by decide +kernel), List.mem_of_getElem? (i := 452) (by decide +kernel), List.mem_of_getElem? (i := 453) (by decide +kernel)⟩
theorem lw_p17 : lw_okq (⟨"PlaceDeskModel", "set", "(IJ)V"⟩, 18) := ⟨⟨by decide +kernel, by decide +kernel⟩, List.mem_of_getElem? (i := 325) (by decide +kernel), List.mem_of_getElem? (i := 457) (by decide +kernel), List.mem_of_getElem? (i := 458) (by decide +kernel)⟩
theorem lw_p18 : lw_okq (⟨"PlaceDeskModel", "differ", "(I)I"⟩, 18) := ⟨⟨by decide +kernel, by decide +kernel⟩, List.mem_of_getElem? (i := 325) (by decide +kernel), List.mem_of_getElem? (i := 477) (by decide +kernel), List.mem_of_getElem? (i := 478) (by decide +kernel)⟩
def lw_privs_2 : List (MethodName × Nat) := [(⟨"PlaceDeskModel", "get", "(I)J"⟩, 18), (⟨"PlaceDeskModel", "set", "(IJ)V"⟩, 18), (⟨"PlaceDeskModel", "differ", "(I)I"⟩, 18)]
theorem lw_r2 : ∀ q ∈ lw_privs_2, lw_okq q := List.forall_mem_cons.mpr ⟨lw_p16, List.forall_mem_cons.mpr ⟨lw_p17, List.forall_mem_cons.mpr ⟨lw_p18, fun _ h => absurd h List.not_mem_nil⟩⟩⟩
def lw_privs : List (MethodName × Nat) := lw_privs_1 ++ (lw_privs_2)
def lw_tbl : List Cond := k2_sels lw_privs ++ tables_1
theorem lw_privs_ok : ∀ q ∈ lw_privs, lw_okq q := by
  show ∀ q ∈ lw_privs_1 ++ (lw_privs_2), lw_okq q
  exact List.forall_mem_append.mpr ⟨lw_r1, lw_r2⟩
end
section
/-! ===== BEGIN words of one list among another's, by their places ===== -/
theorem goodIn_r {big : List Cond} (ws : List Cond) (ps : List Nat) (hp : ws = ps.filterMap (fun i => big[i]?)) (h : ws.all goodWord = true) : GoodIn big ws := by
  intro w hw
  have h1 := List.all_eq_true.mp h w hw
  rw [hp] at hw
  obtain ⟨i, -, hi⟩ := List.mem_filterMap.mp hw
  have hm : w ∈ big := by first | exact List.mem_of_getElem? hi | exact List.getElem?_mem hi
  exact ⟨hm, good_of_word h1⟩
theorem goodIn_app {big a b : List Cond} (ha : GoodIn big a) (hb : GoodIn big b) : GoodIn big (a ++ b) := fun w h => (List.mem_append.mp h).elim (ha w) (hb w)
theorem goodIn_ca {big a b : List Cond} {c : Cond} (ha : GoodIn big (c :: a)) (hb : GoodIn big b) : GoodIn big (c :: (a ++ b)) := fun w h => (List.mem_cons.mp h).elim (fun e => ha w (List.mem_cons.mpr (Or.inl e))) (fun h => (List.mem_append.mp h).elim (fun h => ha w (List.mem_cons.mpr (Or.inr h))) (hb w))
theorem goodIn_sub {big ws : List Cond} (hm : ∀ w ∈ ws, w ∈ big) (h : ws.all goodWord = true) : GoodIn big ws := fun w hw => ⟨hm w hw, good_of_word (List.all_eq_true.mp h w hw)⟩
/-! ===== END ===== -/

/-! ===== BEGIN exceptions that leave a method, and their catching by the caller (launches without stack traces) ===== -/
section VXA
/-! The laws vx_back, vx_callV, vx_callS, vx_callSW, vx_throw0, vx_throwS follow proofs of the library, with one case more: JvmDerived/Free/Laws.lean (Back.of_free), Shelf42/LK1.lean (callV, callS), Shelf/KitTraced.lean (throwNew0V, throwNewS). -/
/-- where a method has thrown q: the class by its name, the cell, what was written, the world -/
def vx_T (XC : String → State → State → Prop) (st : State) (q : Addr) (t : State) (mc ms : Nat) (free : Addr → Prop) : Prop :=
  ∃ (E : String) (ce : Cell) (L : List Loc), XC E st t ∧ t.heap[q]? = some ce ∧ ce.vm = .none ∧ st.vm.findClass E = some ce.cls ∧ st.WarmedH t.vm ∧ st.sameButNew ({ t with vm := st.vm } : State) L mc ms ∧ ∀ z ∈ L, free z.base
def vx_Q (Qc : Array Value → State → Outcome → State → Prop) (XC : String → State → State → Prop) (mc ms : Nat) (free : Addr → Prop) : Array Value → State → Outcome → State → Prop := fun a st o t =>
  (Qc a st o t ∧ ∃ L, FrameEnd st o t L mc ms ∧ ∀ q ∈ L, free q.base) ∨ ∃ q, o = .threw q ∧ vx_T XC st q t mc ms free
/-- a callee that returns or throws -/
def vx_Met (l : Launch) (y : MethodName) (ws : List Cond) (rm : Room) (Pc : Array Value → State → Prop) (Qc : Array Value → State → Outcome → State → Prop) (XC : String → State → State → Prop) (mc ms : Nat) (free : Addr → Prop) : Prop :=
  MetFree l y (headSpec ws rm) Pc (fun _ _ _ _ _ => True) (vx_Q Qc XC mc ms free)
def vx_Post (XC : String → State → State → Prop) (mc ms : Nat) (free : Addr → Prop) : Pt → Array Value → Addr → Pt → Prop := fun A a q B =>
  ∃ (g : JFrame) (mk : MethodId) (t : State) (L : List Loc) (E : String) (ce : Cell), B.U.heap = t.heap ∧ B.U.vm = t.vm ∧ XC E (A.U.calling g mk a) t ∧ t.heap[q]? = some ce ∧ ce.vm = .none ∧ A.U.vm.findClass E = some ce.cls ∧ B.locs = A.locs ++ L ∧ (∀ z ∈ L, free z.base) ∧ B.cells = A.cells + mc ∧ B.slots = A.slots + ms
def vx_Back (l : Launch) (R : Room) (p : Program) (e : Env) (below : List Frame) (s : State) (sargs : Array Value) (y : MethodName) (len W9 : Nat)
    (Pre : Pt → Array Value → Prop) (Post : Pt → Array Value → Option Value → Pt → Prop) (PostX : Pt → Array Value → Addr → Pt → Prop) : Prop :=
  ∀ (m : MethodId) (meth : Method) (c : Code) (A : Pt) (g : JFrame) (ig : Instr) (mk : MethodId) (a : Array Value),
    Stand p l e R s m sargs below meth c A.U A.locs A.cells A.slots → g.method = m → g.locals.size = c.maxLocals → decode c.code g.pc = .ok (ig, len) →
    2 * g.monitorRoom + (g.stack.map fun v => v.category).sum ≤ W9 → A.U.methodNamed? y = some mk → Pre A a →
    (∃ (v : Option Value) (B : Pt), Stand p l e R s m sargs below meth c B.U B.locs B.cells B.slots ∧ Post A a v B ∧
      Steps p.tables e below (doInvoke e (A.U.setTop g) [] mk a).1 (B.U.setTop { g with pc := g.pc + len, stack := v.toList ++ g.stack })) ∨
    (∃ (q : Addr) (B : Pt), Stand p l e R s m sargs below meth c B.U B.locs B.cells B.slots ∧ PostX A a q B ∧
      Steps p.tables e below (doInvoke e (A.U.setTop g) [] mk a).1 ((B.U.setTop g).pushFrame (.throwing q)))
section Payer
variable {l : Launch} {R : Room} {p : Program} {e : Env} {below : List Frame} {s : State} {sargs : Array Value} {y : MethodName} {len W9 : Nat}
theorem vx_back {ws : List Cond} {rm : Room} {Pc : Array Value → State → Prop} {Qc : Array Value → State → Outcome → State → Prop} {XC : String → State → State → Prop} {mc ms : Nat} {free : Addr → Prop} {bytes : ByteArray} {maxL : Nat} {ret : Option FieldType}
    (hM : vx_Met l y ws rm Pc Qc XC mc ms free) (hblind : FrameBlind Pc) (hrc : rm.cells = mc) (hrs : rm.slots = ms)
    (hframes : rm.frames + 1 ≤ R.frames) (hlocals : W9 + (maxL + 11) + rm.locals ≤ R.locals)
    (hws : ∀ w ∈ ws, ∀ a' U, s.WarmedH U.vm → w.before a' U = true) (hcode : Cond.code y bytes maxL ret ∈ ws) (hinit : ∀ a' U, s.WarmedH U.vm → (Cond.initialized y.cls).before a' U = true) :
    vx_Back l R p e below s sargs y len W9 (PreOf R mc ms Pc) (PostOf Qc mc ms free) (vx_Post XC mc ms free) := by
  intro m meth c A g ig mk a X hg hsize hdg hW hn hp
  have h1 : (headSpec ws rm).pre.before a A.U = true := atoms_intro fun w hw => hws w hw _ _ X.warmed
  have h2 : (Cond.code y bytes maxL ret).before a A.U = true := hws _ hcode _ _ X.warmed
  have h3 : (Cond.initialized y.cls).before a A.U = true := hinit _ _ X.warmed
  have h4 : A.cells + (headSpec ws rm).room.cells ≤ R.cells := by rw [show (headSpec ws rm).room.cells = mc from hrc]; exact hp.1
  have h5 : A.slots + (headSpec ws rm).room.slots ≤ R.slots := by rw [show (headSpec ws rm).room.slots = ms from hrs]; exact hp.2.1
  have hPc : Pc a (A.U.calling g mk a) := hblind _ _ _ _ hp.2.2
  obtain ⟨U, Ls, c0, s0⟩ := A
  dsimp only [Pt.U, Pt.locs, Pt.cells, Pt.slots] at h1 h2 h3 h4 h5 X hn hPc ⊢
  obtain ⟨methY, cY, hmY, hcY, -, hlY, -, -, -, -⟩ := Cond.code_spec hn h2
  obtain ⟨kY, hkY, -⟩ := className_of_methodNamed hn
  have hinitY : kY.init = .initialized := Cond.initialized_spec (findClass_of_methodNamed hn) hkY h3
  have h : At U g.method c below := by rw [hg]; exact X.here
  have hlocals9 : W9 + (maxL + 11) + (headSpec ws rm).room.locals ≤ R.locals := hlocals
  have happ : (headSpec ws rm).appliesLoose y e.platform (U.calling g mk a) = true :=
    Spec.appliesLoose_calling (g := g) h hdg hn hkY hinitY
      (X.room_calling (g := g) (R' := (headSpec ws rm).room) hsize hmY hcY hframes (by rw [hlY]; omega) h4 h5) h1
  obtain ⟨mid, hmid⟩ := h.above
  have hfr : (U.setTop g).frames = (.java g :: mid) ++ below := by rw [State.frames_setTop' g h.top, hmid]; rfl
  obtain ⟨o, s₂, hsteps, -, hend, hq⟩ := Steps.callFree hM p X.admits X.cas X.clock (acts := []) hfr happ hPc trivial
  have hq' : vx_Q Qc XC mc ms free a (U.calling g mk a) o s₂ := hq
  rw [State.frames_setTop' g h.top] at hend
  obtain ⟨g₀, hg0⟩ := Option.isSome_iff_exists.mp h.top
  obtain ⟨r, hr⟩ := State.topJava?_eq_some.mp hg0
  have hr' : (({ U with heap := s₂.heap, slotsUsed := s₂.slotsUsed } : State).setVm s₂.vm).frames = .java g₀ :: r := hr
  rcases hq' with ⟨hqc, L, hfe, hL⟩ | ⟨q, rfl, E, ce, L, hx, hce, hcv, hcl, hW₂, hsm, hL⟩
  · obtain ⟨⟨v, rfl⟩, hW₂, e2, q2, q3, q4, q5, q6⟩ := id hfe
    have e3 : s₂ = ({ (U.calling g mk a).setFrames s₂.frames with heap := s₂.heap, slotsUsed := s₂.slotsUsed } : State).setVm s₂.vm := by
      have : s₂ = ({ s₂ with vm := (U.calling g mk a).vm } : State).setVm s₂.vm := rfl
      rw [e2] at this
      exact this
    obtain ⟨c₂, i₂, len₂, hc₂, hd₂, hf₂⟩ := hend
    have hW' : U.WarmedH s₂.vm := hW₂
    have hcc : c₂ = c := by
      have h1 : s₂.code? g.method = U.code? g.method := by
        rw [State.code?_eq, State.code?_eq, hW'.alike.method?]
      exact Option.some.inj (hc₂.symm.trans (h1.trans h.code))
    subst hcc
    have hlen : len₂ = len := by rw [hdg] at hd₂; cases hd₂; rfl
    subst hlen
    have hs₂ : s₂ = (({ U with heap := s₂.heap, slotsUsed := s₂.slotsUsed } : State).setVm s₂.vm).setTop { g with pc := g.pc + len₂, stack := v.toList ++ g.stack } := by
      refine e3.trans ?_
      rw [hf₂, State.calling_eq h.top, State.setFrames_setFrames, State.setTop_of_frames _ hr', hr]
      rfl
    have hsame : U.sameButNew ({ U with heap := s₂.heap, slotsUsed := s₂.slotsUsed } : State) L mc ms := by
      refine ⟨?_, q2, q3, q4, q5, q6⟩
      obtain ⟨t, ht, -⟩ := State.frames_cons hr
      show ({ U with heap := s₂.heap, slotsUsed := s₂.slotsUsed } : State) = { U.setFrames U.frames with heap := s₂.heap, slotsUsed := s₂.slotsUsed }
      rw [State.setFrames_self ht]
    subst hg
    refine Or.inl ⟨v, ⟨(({ U with heap := s₂.heap, slotsUsed := s₂.slotsUsed } : State).setVm s₂.vm), Ls ++ L, c0 + mc, s0 + ms⟩,
      ⟨X.admits, X.cas, X.clock, X.frames, X.room, X.hears, X.method, X.code, (X.here.setHeapUsed s₂.heap s₂.slotsUsed).setVm hW'.alike, X.tail, State.WarmedH.trans X.warmed hW', X.limits, X.bytes, X.same.trans (hsame.setVm s.vm)⟩,
      ⟨g, mk, s₂, L, rfl, rfl, hqc, rfl, hL, rfl, rfl⟩, ?_⟩
    show Steps p.tables e below _ ((({ U with heap := s₂.heap, slotsUsed := s₂.slotsUsed } : State).setVm s₂.vm).setTop { g with pc := g.pc + len₂, stack := v.toList ++ g.stack })
    rw [← hs₂]
    exact hsteps
  · obtain ⟨e2, q2, q3, q4, q5, q6⟩ := id hsm
    have e3 : s₂ = ({ (U.calling g mk a).setFrames s₂.frames with heap := s₂.heap, slotsUsed := s₂.slotsUsed } : State).setVm s₂.vm := by
      have : s₂ = ({ s₂ with vm := (U.calling g mk a).vm } : State).setVm s₂.vm := rfl
      rw [e2] at this
      exact this
    have hf₂ : s₂.frames = .throwing q :: .java g :: U.frames.tail := hend
    have hW' : U.WarmedH s₂.vm := hW₂
    have hs₂ : s₂ = ((({ U with heap := s₂.heap, slotsUsed := s₂.slotsUsed } : State).setVm s₂.vm).setTop g).pushFrame (.throwing q) := by
      refine e3.trans ?_
      rw [hf₂, State.calling_eq h.top, State.setFrames_setFrames, State.pushFrame, State.frames_setTop _ hr', State.setTop_of_frames _ hr', State.setFrames_setFrames, hr]
      rfl
    have hsame : U.sameButNew ({ U with heap := s₂.heap, slotsUsed := s₂.slotsUsed } : State) L mc ms := by
      refine ⟨?_, q2, q3, q4, q5, q6⟩
      obtain ⟨t, ht, -⟩ := State.frames_cons hr
      show ({ U with heap := s₂.heap, slotsUsed := s₂.slotsUsed } : State) = { U.setFrames U.frames with heap := s₂.heap, slotsUsed := s₂.slotsUsed }
      rw [State.setFrames_self ht]
    subst hg
    refine Or.inr ⟨q, ⟨(({ U with heap := s₂.heap, slotsUsed := s₂.slotsUsed } : State).setVm s₂.vm), Ls ++ L, c0 + mc, s0 + ms⟩,
      ⟨X.admits, X.cas, X.clock, X.frames, X.room, X.hears, X.method, X.code, (X.here.setHeapUsed s₂.heap s₂.slotsUsed).setVm hW'.alike, X.tail, State.WarmedH.trans X.warmed hW', X.limits, X.bytes, X.same.trans (hsame.setVm s.vm)⟩,
      ⟨g, mk, s₂, L, E, ce, rfl, rfl, hx, hce, hcv, hcl, rfl, hL, rfl, rfl⟩, ?_⟩
    show Steps p.tables e below _ (((({ U with heap := s₂.heap, slotsUsed := s₂.slotsUsed } : State).setVm s₂.vm).setTop g).pushFrame (.throwing q))
    rw [← hs₂]
    exact hsteps
end Payer
section Calls
variable {p : Program} {l : Launch} {e : Env} {R : Room} {s : State} {m : MethodId} {args : Array Value} {below : List Frame} {meth : Method} {c : Code} {T : State} {locs : List Loc} {cells slots : Nat}
theorem vx_callV (X : Stand p l e R s m args below meth c T locs cells slots) (hexec : p.tables.exec = Jvm.exec) {own C : String} {index : Nat} {y : MethodName} {bytes : ByteArray} {maxL : Nat} {ret : Option FieldType}
    (hown : s.vm.findClass own = some m.cls) (hlink : (Cond.methodLink own index y).before args s = true) (hinst : (Cond.instanceMethod y).before args s = true) (hsel : (Cond.selects C y y).before args s = true)
    (hcode : (Cond.code y bytes maxL ret).before args s = true) (hy : y.cls ≠ "java/lang/invoke/MethodHandle" ∧ y.cls ≠ "java/lang/invoke/VarHandle")
    {W9 : Nat} {Pre : Pt → Array Value → Prop} {Post : Pt → Array Value → Option Value → Pt → Prop} {PostX : Pt → Array Value → Addr → Pt → Prop} (hK : vx_Back l R p e below s args y 3 W9 Pre Post PostX)
    {b : Addr} {cellB : Cell} (hcell : T.heap[b]? = some cellB) (hobj : cellB.vm.isStatics = false) (hcls : s.vm.findClass C = some cellB.cls)
    {g : JFrame} (hg : g.method = m) (hsize : g.locals.size = c.maxLocals) {argsL rest : List Value} (hlen : ∀ sig, parseMethodDescriptor y.desc = some sig → argsL.length = sig.parameters.length)
    (hstack : g.stack = argsL.reverse ++ .ref b :: rest) (hW : 2 * g.monitorRoom + (rest.map fun v => v.category).sum ≤ W9) (hdg : decode c.code g.pc = .ok (.invokevirtual index, 3))
    (hpre : ∀ vm₁, s.WarmedH vm₁ → Pre ⟨T.setVm vm₁, locs, cells, slots⟩ (Value.ref b :: argsL).toArray) :
    (∃ (v : Option Value) (vm₁ : Vm) (B : Pt), s.WarmedH vm₁ ∧ Stand p l e R s m args below meth c B.U B.locs B.cells B.slots ∧ Post ⟨T.setVm vm₁, locs, cells, slots⟩ (Value.ref b :: argsL).toArray v B ∧
      ∀ target, Steps p.tables e below (B.U.setTop { g with pc := g.pc + 3, stack := v.toList ++ rest }) target → Steps p.tables e below (T.setTop g) target) ∨
    (∃ (q : Addr) (vm₁ : Vm) (B : Pt), s.WarmedH vm₁ ∧ Stand p l e R s m args below meth c B.U B.locs B.cells B.slots ∧ PostX ⟨T.setVm vm₁, locs, cells, slots⟩ (Value.ref b :: argsL).toArray q B ∧
      Steps p.tables e below (T.setTop g) ((B.U.setTop { g with stack := rest }).pushFrame (.throwing q))) := by
  obtain ⟨mk, methM, hnamed, hmethM, hstM, habM⟩ := Cond.instanceMethod_spec hinst
  obtain ⟨methM', cM, hmethM', -, -, -, -, -, -, hsigM⟩ := Cond.code_spec hnamed hcode
  cases hmethM.symm.trans hmethM'
  obtain ⟨c2, r2, m2, q1, q2, q3, q4, kP, hkP, hkPi⟩ := Cond.selects_spec hsel
  cases hcls.symm.trans q1
  cases (State.methodFound?_of_named hnamed hy).symm.trans q2
  cases hnamed.symm.trans q3
  have hselP : selectMethod e.platform s.vm cellB.cls mk = .method mk := by rw [Launch.admits_selectMethod X.admits]; exact q4
  obtain ⟨vm₁, X₁, hstep₁⟩ := X.invokevirtual hexec hown hlink hnamed hmethM hstM hkP hkPi hy (a := b) (cell := cellB) hcell
    (fun z h => by rw [h] at hobj; cases hobj) hselP hmethM habM hkP hkPi (g := g) hg (argsL := argsL) (rest := rest) (hlen _ hsigM) hstack hdg
  rcases hK m meth c ⟨T.setVm vm₁, locs, cells, slots⟩ { g with stack := rest } (.invokevirtual index) mk (Value.ref b :: argsL).toArray X₁ hg hsize hdg hW (X₁.named hnamed) (hpre vm₁ X₁.warmed) with ⟨v, B, X', hpost, hsteps⟩ | ⟨q, B, X', hpost, hsteps⟩
  · exact Or.inl ⟨v, vm₁, B, X₁.warmed, X', hpost, fun target h => hstep₁ _ fun acts => by rw [doInvoke_state]; exact hsteps.trans h⟩
  · exact Or.inr ⟨q, vm₁, B, X₁.warmed, X', hpost, hstep₁ _ fun acts => by rw [doInvoke_state]; exact hsteps⟩
theorem vx_callS (X : Stand p l e R s m args below meth c T locs cells slots) (hexec : p.tables.exec = Jvm.exec) {own : String} {index : Nat} {y : MethodName} {bytes : ByteArray} {maxL : Nat} {ret : Option FieldType}
    (hown : s.vm.findClass own = some m.cls) (hlink : (Cond.methodLink own index y).before args s = true) (hstat : (Cond.static y).before args s = true) (hinit : (Cond.initialized y.cls).before args s = true)
    (hcode : (Cond.code y bytes maxL ret).before args s = true) (hy : y.cls ≠ "java/lang/invoke/MethodHandle" ∧ y.cls ≠ "java/lang/invoke/VarHandle")
    {W9 : Nat} {Pre : Pt → Array Value → Prop} {Post : Pt → Array Value → Option Value → Pt → Prop} {PostX : Pt → Array Value → Addr → Pt → Prop} (hK : vx_Back l R p e below s args y 3 W9 Pre Post PostX)
    {g : JFrame} (hg : g.method = m) (hsize : g.locals.size = c.maxLocals) {argsL rest : List Value} (hlen : ∀ sig, parseMethodDescriptor y.desc = some sig → argsL.length = sig.parameters.length)
    (hstack : g.stack = argsL.reverse ++ rest) (hW : 2 * g.monitorRoom + (rest.map fun v => v.category).sum ≤ W9) (hdg : decode c.code g.pc = .ok (.invokestatic index, 3))
    (hpre : ∀ vm₁, s.WarmedH vm₁ → Pre ⟨T.setVm vm₁, locs, cells, slots⟩ argsL.toArray) :
    (∃ (v : Option Value) (vm₁ : Vm) (B : Pt), s.WarmedH vm₁ ∧ Stand p l e R s m args below meth c B.U B.locs B.cells B.slots ∧ Post ⟨T.setVm vm₁, locs, cells, slots⟩ argsL.toArray v B ∧
      ∀ target, Steps p.tables e below (B.U.setTop { g with pc := g.pc + 3, stack := v.toList ++ rest }) target → Steps p.tables e below (T.setTop g) target) ∨
    (∃ (q : Addr) (vm₁ : Vm) (B : Pt), s.WarmedH vm₁ ∧ Stand p l e R s m args below meth c B.U B.locs B.cells B.slots ∧ PostX ⟨T.setVm vm₁, locs, cells, slots⟩ argsL.toArray q B ∧
      Steps p.tables e below (T.setTop g) ((B.U.setTop { g with stack := rest }).pushFrame (.throwing q))) := by
  obtain ⟨mk, hnamed⟩ := Cond.code_named hcode
  obtain ⟨methM, cM, hmethM, -, -, -, -, -, -, hsigM⟩ := Cond.code_spec hnamed hcode
  have hstatic : methM.isStatic = true := Cond.static_spec hnamed hmethM hstat
  obtain ⟨kP, hkP, -⟩ := className_of_methodNamed hnamed
  have hinitP : kP.init = .initialized := Cond.initialized_spec (findClass_of_methodNamed hnamed) hkP hinit
  obtain ⟨vm₁, X₁, hstep₁⟩ := X.invokestatic hexec hown hlink hnamed hmethM hstatic hkP hinitP hy (g := g) hg (argsL := argsL) (rest := rest) (hlen _ hsigM) hstack hdg
  rcases hK m meth c ⟨T.setVm vm₁, locs, cells, slots⟩ { g with stack := rest } (.invokestatic index) mk argsL.toArray X₁ hg hsize hdg hW (X₁.named hnamed) (hpre vm₁ X₁.warmed) with ⟨v, B, X', hpost, hsteps⟩ | ⟨q, B, X', hpost, hsteps⟩
  · exact Or.inl ⟨v, vm₁, B, X₁.warmed, X', hpost, fun target h => hstep₁ _ fun acts => by rw [doInvoke_state]; exact hsteps.trans h⟩
  · exact Or.inr ⟨q, vm₁, B, X₁.warmed, X', hpost, hstep₁ _ fun acts => by rw [doInvoke_state]; exact hsteps⟩
end Calls
theorem vx_cls {s : State} {T : State} {vm₁ : Vm} {E : String} {k : ClassId} (hW : s.WarmedH vm₁) (h : (T.setVm vm₁).vm.findClass E = some k) : s.vm.findClass E = some k := by
  have h1 : vm₁.findClass E = some k := h
  rw [hW.alike.findClass] at h1
  exact h1
/-- the method's frame g, with q thrown over it -/
def vx_W (p : Program) (l : Launch) (e : Env) (R : Room) (s : State) (m : MethodId) (args : Array Value) (below : List Frame) (meth : Method) (c : Code) (H : Heap) (locs : List Loc) (cells slots : Nat) (Q : State → Prop) (g : JFrame) (q : Addr) : Prop :=
  ∀ T : State, T.heap = H → Stand p l e R s m args below meth c T locs cells slots → ∃ t, Steps p.tables e below ((T.setTop g).pushFrame (.throwing q)) t ∧ Q t
def vx_Run (p : Program) (l : Launch) (e : Env) (R : Room) (s : State) (m : MethodId) (args : Array Value) (below : List Frame) (meth : Method) (c : Code) (H : Heap) (locs : List Loc) (cells slots mc ms : Nat) (g : JFrame) (rest : List Value) (Qa : State → Outcome → State → Prop) (XC : String → State → State → Prop) (free : Addr → Prop) : Prop :=
  ∀ T : State, T.heap = H → Stand p l e R s m args below meth c T locs cells slots →
    (∃ (v : Option Value) (st₀ t T' : State) (L : List Loc), st₀.heap = H ∧ Stand p l e R s m args below meth c T' (locs ++ L) (cells + mc) (slots + ms) ∧ (∀ q ∈ L, free q.base) ∧ T'.heap = t.heap ∧ T'.vm = t.vm ∧ Qa st₀ (.returned v) t ∧
      Goes p e below T g T' { g with pc := g.pc + 3, stack := v.toList ++ rest }) ∨
    (∃ (q : Addr) (st₀ t T' : State) (L : List Loc) (E : String) (ce : Cell), st₀.heap = H ∧ Stand p l e R s m args below meth c T' (locs ++ L) (cells + mc) (slots + ms) ∧ (∀ z ∈ L, free z.base) ∧ T'.heap = t.heap ∧ T'.vm = t.vm ∧ XC E st₀ t ∧ t.heap[q]? = some ce ∧ ce.vm = .none ∧ s.vm.findClass E = some ce.cls ∧
      Steps p.tables e below (T.setTop g) ((T'.setTop { g with stack := rest }).pushFrame (.throwing q)))
def vx_X {S : Type} (px : S → Prop) (B : String → S → State → Prop) (A : Nat → Prop) : String → State → State → Prop := fun E st t => ∃ u : S, px u ∧ B E u t ∧ va_F A st t
section Runs
variable {p : Program} {l : Launch} {e : Env} {R : Room} {s : State} {m : MethodId} {args : Array Value} {below : List Frame} {meth : Method} {c : Code} {H : Heap} {locs : List Loc} {cells slots : Nat}
variable {y : MethodName} {bytes cc : ByteArray} {maxL nL mc ms n index : Nat} {ret : Option FieldType} {ws : List Cond} {rm : Room} {Pc : Array Value → State → Prop} {Qc : Array Value → State → Outcome → State → Prop} {XC : String → State → State → Prop} {free : Addr → Prop} {Ts : List Cond} {own C : String} {b : Addr} {As rest : List Value} {g : JFrame}
theorem vx_callBack (cb : CallB R s args own index y bytes maxL ret ws rm mc ms n) (hM : vx_Met l y ws rm Pc Qc XC mc ms free) (hbl : FrameBlind Pc) : vx_Back l R p e below s args y 3 8 (PreOf R mc ms Pc) (PostOf Qc mc ms free) (vx_Post XC mc ms free) := by
  obtain ⟨hrc, hrs, hfr, hlo, hws, hcw, -, hini, -⟩ := cb
  exact vx_back (bytes := bytes) (maxL := maxL) (ret := ret) hM hbl hrc hrs hfr hlo hws hcw (fun a' U hW => word_at hW (Or.inl (by first | rfl | simp [Cond.onTables, Cond.keeps, Cond.steady])) hini)
theorem vx_runV (S : CallFix p m c cc nL s args Ts own) (hM : vx_Met l y ws rm Pc Qc XC mc ms free) (cw : CallW R s args own C index y bytes maxL ret ws rm mc ms n) (hp : PreV s H C b Pc As)
    (hg : g.method = m) (hn : As.length = n) (hsize : g.locals.size = nL) (hstack : g.stack = As.reverse ++ .ref b :: rest) (hW : 2 * g.monitorRoom + (rest.map fun v => v.category).sum ≤ 8) (hdg : decode cc g.pc = .ok (.invokevirtual index, 3)) (hf : cells + mc ≤ R.cells ∧ slots + ms ≤ R.slots) :
    vx_Run p l e R s m args below meth c H locs cells slots mc ms g rest (Qc (Value.ref b :: As).toArray) XC free := by
  have hK : vx_Back l R p e below s args y 3 8 (PreOf R mc ms Pc) (PostOf Qc mc ms free) (vx_Post XC mc ms free) := vx_callBack cw.1 hM hp.1
  obtain ⟨⟨-, -, -, -, -, -, hcode, -, hy, hlen, hl⟩, hin, hse⟩ := cw
  obtain ⟨hx, hb, hml, ho, -⟩ := S
  obtain ⟨-, ⟨cellB, hcB, hoB, hclB⟩, hPc⟩ := hp
  intro T hT X
  rcases vx_callV X hx (C := C) (bytes := bytes) (maxL := maxL) (ret := ret) ho hl hin hse hcode hy hK (by rw [hT]; exact hcB) hoB hclB hg (hsize.trans hml.symm) (argsL := As) (rest := rest) (fun sig h => hn.trans (hlen sig h)) hstack hW (by rw [hb]; exact hdg)
    (fun vm₁ hW₁ => ⟨hf.1, hf.2, hPc (T.setVm vm₁) hT hW₁⟩) with ⟨v, vm₁, ⟨U', l2, c2, s2⟩, hW₁, X', ⟨g', mk, t, L, e1, e2, hq, h1, hL, h2, h3⟩, st⟩ | ⟨q, vm₁, ⟨U', l2, c2, s2⟩, hW₁, X', ⟨g', mk, t, L, E, ce, e1, e2, hq, hce, hcv, hcl, h1, hL, h2, h3⟩, st⟩
  · dsimp only [Pt.U, Pt.locs, Pt.cells, Pt.slots] at X' e1 e2 h1 h2 h3 st
    subst h1; subst h2; subst h3
    exact Or.inl ⟨v, (T.setVm vm₁).calling g' mk (Value.ref b :: As).toArray, t, U', L, hT, X', hL, e1, e2, hq, st⟩
  · dsimp only [Pt.U, Pt.locs, Pt.cells, Pt.slots] at X' e1 e2 h1 h2 h3 st hcl
    subst h1; subst h2; subst h3
    exact Or.inr ⟨q, (T.setVm vm₁).calling g' mk (Value.ref b :: As).toArray, t, U', L, E, ce, hT, X', hL, e1, e2, hq, hce, hcv, vx_cls hW₁ hcl, st⟩
theorem vx_runS (S : CallFix p m c cc nL s args Ts own) (hM : vx_Met l y ws rm Pc Qc XC mc ms free) (cw : CallB R s args own index y bytes maxL ret ws rm mc ms n ∧ (Cond.static y).before args s = true) (hp : PreS s H Pc As)
    (hg : g.method = m) (hn : As.length = n) (hsize : g.locals.size = nL) (hstack : g.stack = As.reverse ++ rest) (hW : 2 * g.monitorRoom + (rest.map fun v => v.category).sum ≤ 8) (hdg : decode cc g.pc = .ok (.invokestatic index, 3)) (hf : cells + mc ≤ R.cells ∧ slots + ms ≤ R.slots) :
    vx_Run p l e R s m args below meth c H locs cells slots mc ms g rest (Qc As.toArray) XC free := by
  have hK : vx_Back l R p e below s args y 3 8 (PreOf R mc ms Pc) (PostOf Qc mc ms free) (vx_Post XC mc ms free) := vx_callBack cw.1 hM hp.1
  obtain ⟨⟨-, -, -, -, -, -, hcode, hini, hy, hlen, hl⟩, hstt⟩ := cw
  obtain ⟨hx, hb, hml, ho, -⟩ := S
  intro T hT X
  rcases vx_callS X hx (bytes := bytes) (maxL := maxL) (ret := ret) ho hl hstt hini hcode hy hK hg (hsize.trans hml.symm) (argsL := As) (rest := rest) (fun sig h => hn.trans (hlen sig h)) hstack hW (by rw [hb]; exact hdg)
    (fun vm₁ hW₁ => ⟨hf.1, hf.2, hp.2 (T.setVm vm₁) hT hW₁⟩) with ⟨v, vm₁, ⟨U', l2, c2, s2⟩, hW₁, X', ⟨g', mk, t, L, e1, e2, hq, h1, hL, h2, h3⟩, st⟩ | ⟨q, vm₁, ⟨U', l2, c2, s2⟩, hW₁, X', ⟨g', mk, t, L, E, ce, e1, e2, hq, hce, hcv, hcl, h1, hL, h2, h3⟩, st⟩
  · dsimp only [Pt.U, Pt.locs, Pt.cells, Pt.slots] at X' e1 e2 h1 h2 h3 st
    subst h1; subst h2; subst h3
    exact Or.inl ⟨v, (T.setVm vm₁).calling g' mk As.toArray, t, U', L, hT, X', hL, e1, e2, hq, st⟩
  · dsimp only [Pt.U, Pt.locs, Pt.cells, Pt.slots] at X' e1 e2 h1 h2 h3 st hcl
    subst h1; subst h2; subst h3
    exact Or.inr ⟨q, (T.setVm vm₁).calling g' mk As.toArray, t, U', L, E, ce, hT, X', hL, e1, e2, hq, hce, hcv, vx_cls hW₁ hcl, st⟩
end Runs
section Rows
variable {p : Program} {l : Launch} {e : Env} {R : Room} {s : State} {m : MethodId} {args : Array Value} {below : List Frame} {meth : Method} {c : Code} {H : Heap} {locs : List Loc} {cells slots : Nat} {Q : State → Prop}
variable {mc ms : Nat} {free : Addr → Prop} {A0 A1 : Nat → Prop} {H0 : Heap} {a : Array Value} {pc : Nat} {ls : Array Slot} {st0 rest : List Value}
theorem vx_keep {st₀ t T' : State} {L : List Loc} (h0 : st₀.heap = H) (e1 : T'.heap = t.heap) (hS : va_S A0 H0 H locs) (hA : ∀ q, q < H.size → A1 q → A0 q) (hf : ∀ q, free q → A0 q) (hL : ∀ q ∈ L, free q.base) (hF : va_F A1 st₀ t) :
    H.size ≤ T'.heap.size ∧ (∀ q : Nat, q < H.size → ¬ A1 q → T'.heap[q]? = H[q]?) ∧ va_S A0 H0 T'.heap (locs ++ L) := by
  obtain ⟨hz, hk⟩ := hF
  rw [h0] at hz hk
  exact ⟨by rw [e1]; exact hz, fun q h1 h2 => by rw [e1]; exact hk q h1 h2,
    ⟨Nat.le_trans hS.1 (by rw [e1]; exact hz), fun q h1 h2 => by rw [e1, hk q (Nat.lt_of_lt_of_le h1 hS.1) (fun z => h2 (hA q (Nat.lt_of_lt_of_le h1 hS.1) z))]; exact hS.2.1 q h1 h2, fun q hq => by
      rcases List.mem_append.mp hq with h | h
      · exact hS.2.2 q h
      · exact hf _ (hL q h)⟩⟩
theorem vx_calli {S SX : Type} {post : Int32 → S → Prop} {px : SX → Prop} {B : S → State → Prop} {BX : String → SX → State → Prop} {AX : Nat → Prop} (hr : vx_Run p l e R s m args below meth c H locs cells slots mc ms (F0 m pc ls st0) rest (va_Qi post B A1 a) (vx_X px BX AX) free) (hS : va_S A0 H0 H locs) (hA : ∀ q, q < H.size → A1 q → A0 q) (hf : ∀ q, free q → A0 q) (hAX : ∀ q, q < H.size → AX q → A0 q)
    (kx : ∀ (E : String) (ce : Cell) (q9 : Addr) (u : SX) (t : State) (H1 : Heap) (locs1 : List Loc), t.heap = H1 → s.vm.Alike t.vm → px u → BX E u t → H.size ≤ H1.size → (∀ q : Nat, q < H.size → ¬ AX q → H1[q]? = H[q]?) → va_S A0 H0 H1 locs1 → H1[q9]? = some ce → ce.vm = .none → s.vm.findClass E = some ce.cls → vx_W p l e R s m args below meth c H1 locs1 (cells + mc) (slots + ms) Q (F0 m pc ls rest) q9)
    (kk : ∀ (r : Int32) (u : S) (t : State) (H1 : Heap) (locs1 : List Loc), t.heap = H1 → s.vm.Alike t.vm → post r u → B u t → H.size ≤ H1.size → (∀ q : Nat, q < H.size → ¬ A1 q → H1[q]? = H[q]?) → va_S A0 H0 H1 locs1 → W p l e R s m args below meth c H1 locs1 (cells + mc) (slots + ms) Q (F0 m (pc + 3) ls (.int r :: rest))) : W p l e R s m args below meth c H locs cells slots Q (F0 m pc ls st0) := by
  intro T hT X
  rcases hr T hT X with ⟨v, st₀, t, T', L, h0, X', hL, e1, e2, ⟨⟨r, u, hv, hp, hb⟩, hF⟩, st⟩ | ⟨q, st₀, t, T', L, E, ce, h0, X', hL, e1, e2, ⟨u, hp, hb, hF⟩, hce, hcv, hcl, st⟩
  · cases hv
    obtain ⟨k1, k2, k3⟩ := vx_keep h0 e1 hS hA hf hL hF
    obtain ⟨t2, a1, b1⟩ := kk r u t T'.heap (locs ++ L) e1.symm (by rw [← e2]; exact X'.warmed.alike) hp hb k1 k2 k3 T' rfl X'
    exact ⟨t2, st t2 a1, b1⟩
  · obtain ⟨k1, k2, k3⟩ := vx_keep h0 e1 hS hAX hf hL hF
    obtain ⟨t2, a1, b1⟩ := kx E ce q u t T'.heap (locs ++ L) e1.symm (by rw [← e2]; exact X'.warmed.alike) hp hb k1 k2 k3 (by rw [e1]; exact hce) hcv hcl T' rfl X'
    exact ⟨t2, st.trans a1, b1⟩
theorem vx_calll {S SX : Type} {post : Int64 → S → Prop} {px : SX → Prop} {B : S → State → Prop} {BX : String → SX → State → Prop} {AX : Nat → Prop} (hr : vx_Run p l e R s m args below meth c H locs cells slots mc ms (F0 m pc ls st0) rest (va_Ql post B A1 a) (vx_X px BX AX) free) (hS : va_S A0 H0 H locs) (hA : ∀ q, q < H.size → A1 q → A0 q) (hf : ∀ q, free q → A0 q) (hAX : ∀ q, q < H.size → AX q → A0 q)
    (kx : ∀ (E : String) (ce : Cell) (q9 : Addr) (u : SX) (t : State) (H1 : Heap) (locs1 : List Loc), t.heap = H1 → s.vm.Alike t.vm → px u → BX E u t → H.size ≤ H1.size → (∀ q : Nat, q < H.size → ¬ AX q → H1[q]? = H[q]?) → va_S A0 H0 H1 locs1 → H1[q9]? = some ce → ce.vm = .none → s.vm.findClass E = some ce.cls → vx_W p l e R s m args below meth c H1 locs1 (cells + mc) (slots + ms) Q (F0 m pc ls rest) q9)
    (kk : ∀ (r : Int64) (u : S) (t : State) (H1 : Heap) (locs1 : List Loc), t.heap = H1 → s.vm.Alike t.vm → post r u → B u t → H.size ≤ H1.size → (∀ q : Nat, q < H.size → ¬ A1 q → H1[q]? = H[q]?) → va_S A0 H0 H1 locs1 → W p l e R s m args below meth c H1 locs1 (cells + mc) (slots + ms) Q (F0 m (pc + 3) ls (.long r :: rest))) : W p l e R s m args below meth c H locs cells slots Q (F0 m pc ls st0) := by
  intro T hT X
  rcases hr T hT X with ⟨v, st₀, t, T', L, h0, X', hL, e1, e2, ⟨⟨r, u, hv, hp, hb⟩, hF⟩, st⟩ | ⟨q, st₀, t, T', L, E, ce, h0, X', hL, e1, e2, ⟨u, hp, hb, hF⟩, hce, hcv, hcl, st⟩
  · cases hv
    obtain ⟨k1, k2, k3⟩ := vx_keep h0 e1 hS hA hf hL hF
    obtain ⟨t2, a1, b1⟩ := kk r u t T'.heap (locs ++ L) e1.symm (by rw [← e2]; exact X'.warmed.alike) hp hb k1 k2 k3 T' rfl X'
    exact ⟨t2, st t2 a1, b1⟩
  · obtain ⟨k1, k2, k3⟩ := vx_keep h0 e1 hS hAX hf hL hF
    obtain ⟨t2, a1, b1⟩ := kx E ce q u t T'.heap (locs ++ L) e1.symm (by rw [← e2]; exact X'.warmed.alike) hp hb k1 k2 k3 (by rw [e1]; exact hce) hcv hcl T' rfl X'
    exact ⟨t2, st.trans a1, b1⟩
theorem vx_callf {S SX : Type} {post : UInt32 → S → Prop} {px : SX → Prop} {B : S → State → Prop} {BX : String → SX → State → Prop} {AX : Nat → Prop} (hr : vx_Run p l e R s m args below meth c H locs cells slots mc ms (F0 m pc ls st0) rest (va_Qf post B A1 a) (vx_X px BX AX) free) (hS : va_S A0 H0 H locs) (hA : ∀ q, q < H.size → A1 q → A0 q) (hf : ∀ q, free q → A0 q) (hAX : ∀ q, q < H.size → AX q → A0 q)
    (kx : ∀ (E : String) (ce : Cell) (q9 : Addr) (u : SX) (t : State) (H1 : Heap) (locs1 : List Loc), t.heap = H1 → s.vm.Alike t.vm → px u → BX E u t → H.size ≤ H1.size → (∀ q : Nat, q < H.size → ¬ AX q → H1[q]? = H[q]?) → va_S A0 H0 H1 locs1 → H1[q9]? = some ce → ce.vm = .none → s.vm.findClass E = some ce.cls → vx_W p l e R s m args below meth c H1 locs1 (cells + mc) (slots + ms) Q (F0 m pc ls rest) q9)
    (kk : ∀ (r : UInt32) (u : S) (t : State) (H1 : Heap) (locs1 : List Loc), t.heap = H1 → s.vm.Alike t.vm → post r u → B u t → H.size ≤ H1.size → (∀ q : Nat, q < H.size → ¬ A1 q → H1[q]? = H[q]?) → va_S A0 H0 H1 locs1 → W p l e R s m args below meth c H1 locs1 (cells + mc) (slots + ms) Q (F0 m (pc + 3) ls (.float r :: rest))) : W p l e R s m args below meth c H locs cells slots Q (F0 m pc ls st0) := by
  intro T hT X
  rcases hr T hT X with ⟨v, st₀, t, T', L, h0, X', hL, e1, e2, ⟨⟨r, u, hv, hp, hb⟩, hF⟩, st⟩ | ⟨q, st₀, t, T', L, E, ce, h0, X', hL, e1, e2, ⟨u, hp, hb, hF⟩, hce, hcv, hcl, st⟩
  · cases hv
    obtain ⟨k1, k2, k3⟩ := vx_keep h0 e1 hS hA hf hL hF
    obtain ⟨t2, a1, b1⟩ := kk r u t T'.heap (locs ++ L) e1.symm (by rw [← e2]; exact X'.warmed.alike) hp hb k1 k2 k3 T' rfl X'
    exact ⟨t2, st t2 a1, b1⟩
  · obtain ⟨k1, k2, k3⟩ := vx_keep h0 e1 hS hAX hf hL hF
    obtain ⟨t2, a1, b1⟩ := kx E ce q u t T'.heap (locs ++ L) e1.symm (by rw [← e2]; exact X'.warmed.alike) hp hb k1 k2 k3 (by rw [e1]; exact hce) hcv hcl T' rfl X'
    exact ⟨t2, st.trans a1, b1⟩
theorem vx_calld {S SX : Type} {post : UInt64 → S → Prop} {px : SX → Prop} {B : S → State → Prop} {BX : String → SX → State → Prop} {AX : Nat → Prop} (hr : vx_Run p l e R s m args below meth c H locs cells slots mc ms (F0 m pc ls st0) rest (va_Qd post B A1 a) (vx_X px BX AX) free) (hS : va_S A0 H0 H locs) (hA : ∀ q, q < H.size → A1 q → A0 q) (hf : ∀ q, free q → A0 q) (hAX : ∀ q, q < H.size → AX q → A0 q)
    (kx : ∀ (E : String) (ce : Cell) (q9 : Addr) (u : SX) (t : State) (H1 : Heap) (locs1 : List Loc), t.heap = H1 → s.vm.Alike t.vm → px u → BX E u t → H.size ≤ H1.size → (∀ q : Nat, q < H.size → ¬ AX q → H1[q]? = H[q]?) → va_S A0 H0 H1 locs1 → H1[q9]? = some ce → ce.vm = .none → s.vm.findClass E = some ce.cls → vx_W p l e R s m args below meth c H1 locs1 (cells + mc) (slots + ms) Q (F0 m pc ls rest) q9)
    (kk : ∀ (r : UInt64) (u : S) (t : State) (H1 : Heap) (locs1 : List Loc), t.heap = H1 → s.vm.Alike t.vm → post r u → B u t → H.size ≤ H1.size → (∀ q : Nat, q < H.size → ¬ A1 q → H1[q]? = H[q]?) → va_S A0 H0 H1 locs1 → W p l e R s m args below meth c H1 locs1 (cells + mc) (slots + ms) Q (F0 m (pc + 3) ls (.double r :: rest))) : W p l e R s m args below meth c H locs cells slots Q (F0 m pc ls st0) := by
  intro T hT X
  rcases hr T hT X with ⟨v, st₀, t, T', L, h0, X', hL, e1, e2, ⟨⟨r, u, hv, hp, hb⟩, hF⟩, st⟩ | ⟨q, st₀, t, T', L, E, ce, h0, X', hL, e1, e2, ⟨u, hp, hb, hF⟩, hce, hcv, hcl, st⟩
  · cases hv
    obtain ⟨k1, k2, k3⟩ := vx_keep h0 e1 hS hA hf hL hF
    obtain ⟨t2, a1, b1⟩ := kk r u t T'.heap (locs ++ L) e1.symm (by rw [← e2]; exact X'.warmed.alike) hp hb k1 k2 k3 T' rfl X'
    exact ⟨t2, st t2 a1, b1⟩
  · obtain ⟨k1, k2, k3⟩ := vx_keep h0 e1 hS hAX hf hL hF
    obtain ⟨t2, a1, b1⟩ := kx E ce q u t T'.heap (locs ++ L) e1.symm (by rw [← e2]; exact X'.warmed.alike) hp hb k1 k2 k3 (by rw [e1]; exact hce) hcv hcl T' rfl X'
    exact ⟨t2, st.trans a1, b1⟩
theorem vx_callv {S SX : Type} {post : S → Prop} {px : SX → Prop} {B : S → State → Prop} {BX : String → SX → State → Prop} {AX : Nat → Prop} (hr : vx_Run p l e R s m args below meth c H locs cells slots mc ms (F0 m pc ls st0) rest (va_Qv post B A1 a) (vx_X px BX AX) free) (hS : va_S A0 H0 H locs) (hA : ∀ q, q < H.size → A1 q → A0 q) (hf : ∀ q, free q → A0 q) (hAX : ∀ q, q < H.size → AX q → A0 q)
    (kx : ∀ (E : String) (ce : Cell) (q9 : Addr) (u : SX) (t : State) (H1 : Heap) (locs1 : List Loc), t.heap = H1 → s.vm.Alike t.vm → px u → BX E u t → H.size ≤ H1.size → (∀ q : Nat, q < H.size → ¬ AX q → H1[q]? = H[q]?) → va_S A0 H0 H1 locs1 → H1[q9]? = some ce → ce.vm = .none → s.vm.findClass E = some ce.cls → vx_W p l e R s m args below meth c H1 locs1 (cells + mc) (slots + ms) Q (F0 m pc ls rest) q9)
    (kk : ∀ (u : S) (t : State) (H1 : Heap) (locs1 : List Loc), t.heap = H1 → s.vm.Alike t.vm → post u → B u t → H.size ≤ H1.size → (∀ q : Nat, q < H.size → ¬ A1 q → H1[q]? = H[q]?) → va_S A0 H0 H1 locs1 → W p l e R s m args below meth c H1 locs1 (cells + mc) (slots + ms) Q (F0 m (pc + 3) ls (rest))) : W p l e R s m args below meth c H locs cells slots Q (F0 m pc ls st0) := by
  intro T hT X
  rcases hr T hT X with ⟨v, st₀, t, T', L, h0, X', hL, e1, e2, ⟨⟨u, hv, hp, hb⟩, hF⟩, st⟩ | ⟨q, st₀, t, T', L, E, ce, h0, X', hL, e1, e2, ⟨u, hp, hb, hF⟩, hce, hcv, hcl, st⟩
  · cases hv
    obtain ⟨k1, k2, k3⟩ := vx_keep h0 e1 hS hA hf hL hF
    obtain ⟨t2, a1, b1⟩ := kk u t T'.heap (locs ++ L) e1.symm (by rw [← e2]; exact X'.warmed.alike) hp hb k1 k2 k3 T' rfl X'
    exact ⟨t2, st t2 a1, b1⟩
  · obtain ⟨k1, k2, k3⟩ := vx_keep h0 e1 hS hAX hf hL hF
    obtain ⟨t2, a1, b1⟩ := kx E ce q u t T'.heap (locs ++ L) e1.symm (by rw [← e2]; exact X'.warmed.alike) hp hb k1 k2 k3 (by rw [e1]; exact hce) hcv hcl T' rfl X'
    exact ⟨t2, st.trans a1, b1⟩
/-- caught by the row x of this method's table; the rows ahead don't take it -/
theorem vx_catch {own name : String} {E : String} {ce : Cell} {q : Addr} (hown : s.vm.findClass own = some m.cls) (pre : List ExceptionTableEntry) (x : ExceptionTableEntry) (suf : List ExceptionTableEntry) (hsplit : c.exceptionTable.toList = pre ++ x :: suf)
    (hpass : ∀ z ∈ pre, covers z pc = false ∨ (z.catchType ≠ 0 ∧ ∃ nm : String, (Cond.classLink own z.catchType nm).before args s = true ∧ va_Nc E nm s)) (hx : covers x pc = true) (h0 : x.catchType ≠ 0)
    (hlink : (Cond.classLink own x.catchType name).before args s = true) (hcast : (Cond.castable E name).before args s = true) (hcell : H[q]? = some ce) (hv : ce.vm = .none) (hcl : s.vm.findClass E = some ce.cls)
    (kk : W p l e R s m args below meth c H locs cells slots Q (F0 m x.handlerPc ls [.ref q])) : vx_W p l e R s m args below meth c H locs cells slots Q (F0 m pc ls rest) q := by
  intro T hT X
  have hpl : e.platform.magicAccessors = ({} : Platform).magicAccessors := by rw [X.admits.platform]
  obtain ⟨c3, c4, hc3, hc4, hasg⟩ := Cond.castable_spec hcast
  cases Option.some.inj (hc3.symm.trans hcl)
  obtain ⟨c5, hc5, hcl5⟩ := Cond.classLink_spec hown hlink e.platform hpl
  cases Option.some.inj (hc4.symm.trans hc5)
  obtain ⟨vm', X', st⟩ := X.thenCaughtThrough q (g := F0 m pc ls rest) rfl (Steps.refl _) (by rw [hT]; exact hcell) (by rw [hv]; rfl) (by obtain ⟨k9, h9, -⟩ := Vm.findClass_spec hcl; exact ⟨k9, h9⟩) pre x suf hsplit
    (fun z hz => by
      rcases hpass z hz with h | ⟨hz0, nm, hl1, hn1⟩
      · exact Or.inl h
      · obtain ⟨c6, hc6, hcl6⟩ := Cond.classLink_spec hown hl1 e.platform hpl
        obtain ⟨a8, b8, h1, h2, h3⟩ := hn1
        cases Option.some.inj (h1.symm.trans hcl)
        cases Option.some.inj (h2.symm.trans hc6)
        exact Or.inr ⟨hz0, _, hcl6, h3⟩) hx (Or.inr ⟨h0, c4, hcl5, hasg⟩)
  obtain ⟨t, a1, b1⟩ := kk (T.setVm vm') hT X'
  exact ⟨t, st.trans a1, b1⟩
end Rows
section Ends
variable {p : Program} {l : Launch} {e : Env} {R : Room} {s : State} {m : MethodId} {args : Array Value} {below : List Frame} {meth : Method} {c : Code} {H : Heap} {locs : List Loc} {cells slots : Nat} {Q : State → Prop}
variable {mc ms : Nat} {free : Addr → Prop} {A0 A1 : Nat → Prop} {H0 : Heap} {a : Array Value} {ls : Array Slot} {st0 rest : List Value}
variable {Qc : Array Value → State → Outcome → State → Prop} {XC : String → State → State → Prop}
/-- what a body that may throw owes at its end -/
def vx_MQ (below : List Frame) (Qc : Array Value → State → Outcome → State → Prop) (XC : String → State → State → Prop) (a : Array Value) (s : State) (mc ms : Nat) (free : Addr → Prop) : State → Prop := fun t =>
  ∃ o, t.status = .running ∧ Ended t below o ∧ vx_Q Qc XC mc ms free a s o t
theorem vx_ret {g : JFrame} {mc ms : Nat} (k : W p l e R s m args below meth c H locs cells slots (MQ below Qc args s mc ms free) g) : W p l e R s m args below meth c H locs cells slots (vx_MQ below Qc XC args s mc ms free) g := by
  intro T hT X
  obtain ⟨t, a1, o, b1, b2, b3, b4⟩ := k T hT X
  exact ⟨t, a1, o, b1, b2, Or.inl ⟨b3, b4⟩⟩
/-- not caught here: it goes on to the caller -/
theorem vx_widen {g : JFrame} {q : Addr} {k n : Nat} (h1 : cells ≤ k) (h2 : slots ≤ n) (kk : vx_W p l e R s m args below meth c H locs k n Q g q) : vx_W p l e R s m args below meth c H locs cells slots Q g q := fun T hT X => kk T hT (stand_widen X h1 h2)
theorem vx_out {pc : Nat} {E : String} {ce : Cell} {q : Addr} {mc ms : Nat} (hout : ∀ x ∈ c.exceptionTable.toList, covers x pc = false) (hlocks : meth.locks = false) (hcell : H[q]? = some ce) (hv : ce.vm = .none) (hcl : s.vm.findClass E = some ce.cls)
    (hx : ∀ t : State, t.heap = H → s.vm.Alike t.vm → XC E s t) (hf : ∀ z ∈ locs, free z.base) (hc : cells ≤ mc) (hs : slots ≤ ms) :
    vx_W p l e R s m args below meth c H locs cells slots (vx_MQ below Qc XC args s mc ms free) (F0 m pc ls rest) q := by
  intro T hT X
  obtain ⟨st1, hrun, hend, hW, hsm⟩ := X.leaveThrown q (g := F0 m pc ls rest) rfl rfl rfl hout hlocks
  have hcell9 : (T.setFrames (.throwing q :: below)).heap[q]? = some ce := by
    show T.heap[q]? = some ce
    rw [hT]; exact hcell
  exact ⟨_, st1, .threw q, hrun, hend, Or.inr ⟨q, rfl, E, ce, locs, hx _ hT hW.alike, hcell9, hv, hcl, hW, hsm.mono hc hs, hf⟩⟩
theorem vx_frame {U : State} {k n : Nat} (h : s.sameButNew ({ U with vm := s.vm } : State) locs k n) : s.heap.size ≤ U.heap.size ∧ ∀ q : Nat, q < s.heap.size → (∀ z ∈ locs, z.base ≠ q) → U.heap[q]? = s.heap[q]? := by
  obtain ⟨-, h2, -, -, -, h6⟩ := h
  refine ⟨h2, fun q hq hz => ?_⟩
  obtain ⟨c9, e1, e2, e3, e4⟩ := h6 q _ (Array.getElem?_eq_getElem hq)
  have hs : c9.slots = (s.heap[q]).slots := Array.ext_getElem? fun i => e4 i fun hm => hz _ hm rfl
  have h9 : c9 = s.heap[q] := by
    rw [hs] at e2
    exact e2
  have e5 : U.heap[q]? = some c9 := e1
  rw [e5, h9, Array.getElem?_eq_getElem hq]
/-- the words of a throw but the four that speak of the heap -/
def vx_no (w : Cond) : Bool := decide (w ≠ .isRef (.static Bundle.tN "UNASSIGNED_STACK" Bundle.steD)) && decide (w ≠ .isRef (.static Bundle.tN "SUPPRESSED_SENTINEL" Bundle.listD)) && decide (w ≠ .laysStatic Bundle.tN "UNASSIGNED_STACK" Bundle.steD) && decide (w ≠ .laysStatic Bundle.tN "SUPPRESSED_SENTINEL" Bundle.listD)
def vx_at0 (own : String) (ic : Nat) (X : String) (names : List String) : List Cond := (Bundle.ownAtoms0 own ic X names).filter vx_no
def vx_atS (own : String) (ic : Nat) (X : String) (names : List String) : List Cond := (Bundle.ownAtoms own ic X names).filter vx_no
/-- a word that the tables alone decide, or a good one -/
def vx_ot (w : Cond) : Bool := w.onTables || goodWord w
theorem vx_ot_at {args a' : Array Value} {s U : State} {w : Cond} (hW : s.WarmedH U.vm) (hvm : s.vm = U.vm) (hg : vx_ot w = true) (h : w.before args s = true) : w.before a' U = true := by
  simp only [vx_ot, Bool.or_eq_true] at hg
  rcases hg with hg | hg
  · exact va_tabs hg hvm h
  · exact word_at hW (good_of_word hg) h
/-- a list's words: the good ones out of the method's own list, the others by premises of their own -/
theorem vx_hat {args : Array Value} {s : State} {L B : List Cond} (h1 : ∀ w ∈ L.filter goodWord, w.before args s = true) (h2 : ∀ w ∈ L.filter (fun w => !goodWord w), w ∈ B) (h3 : ∀ w ∈ B, w.before args s = true) : ∀ w ∈ L, w.before args s = true := by
  intro w hw
  by_cases g : goodWord w = true
  · exact h1 w (List.mem_filter.mpr ⟨hw, g⟩)
  · refine h3 w (h2 w (List.mem_filter.mpr ⟨hw, ?_⟩))
    show (!goodWord w) = true
    cases hgw : goodWord w
    · rfl
    · exact absurd hgw g
theorem vx_c {args : Array Value} {s : State} {w : Cond} {B : List Cond} (h : w.before args s = true) (t : ∀ w ∈ B, w.before args s = true) : ∀ w' ∈ w :: B, w'.before args s = true := fun w' h' => (List.mem_cons.mp h').elim (fun e => by rw [e]; exact h) (t w')
theorem vx_n {args : Array Value} {s : State} : ∀ w ∈ ([] : List Cond), w.before args s = true := fun _ h => nomatch h
theorem vx_own {args : Array Value} {s : State} {L : List Cond} (h1 : ∀ w ∈ L.filter vx_no, w.before args s = true)
    (hU : (Cond.isRef (.static Bundle.tN "UNASSIGNED_STACK" Bundle.steD)).before args s = true) (hN : (Cond.isRef (.static Bundle.tN "SUPPRESSED_SENTINEL" Bundle.listD)).before args s = true)
    (lU : (Cond.laysStatic Bundle.tN "UNASSIGNED_STACK" Bundle.steD).before args s = true) (lN : (Cond.laysStatic Bundle.tN "SUPPRESSED_SENTINEL" Bundle.listD).before args s = true) : ∀ w ∈ L, w.before args s = true := by
  intro w hw
  by_cases e1 : w = .isRef (.static Bundle.tN "UNASSIGNED_STACK" Bundle.steD)
  · rw [e1]; exact hU
  · by_cases e2 : w = .isRef (.static Bundle.tN "SUPPRESSED_SENTINEL" Bundle.listD)
    · rw [e2]; exact hN
    · by_cases e3 : w = .laysStatic Bundle.tN "UNASSIGNED_STACK" Bundle.steD
      · rw [e3]; exact lU
      · by_cases e4 : w = .laysStatic Bundle.tN "SUPPRESSED_SENTINEL" Bundle.listD
        · rw [e4]; exact lN
        · exact h1 w (List.mem_filter.mpr ⟨hw, by unfold vx_no; rw [decide_eq_true e1, decide_eq_true e2, decide_eq_true e3, decide_eq_true e4]; rfl⟩)
/-- where a static field lies, its class's statics cell in H -/
def vx_L (C n d : String) (A : Nat → Prop) (U : State) (H : Heap) : Prop := ∃ (c : ClassId) (k : Class) (i : Nat) (f : Field) (a : Nat) (cell : Cell), U.vm.findClass C = some c ∧ U.fieldFound? C n d = some (c, k, i, f) ∧ f.isStatic = true ∧ k.statics = some a ∧ H[a]? = some cell ∧ cell.vm.isStatics = true ∧ cell.cls = c ∧ f.slot < cell.slots.size ∧ k.staticTypes[f.slot]? = some f.type ∧ ¬ A a
theorem vx_L.moved {C n d : String} {A : Nat → Prop} {u U : State} {H : Heap} (hvm : u.vm.Alike U.vm) (h : vx_L C n d A u H) : vx_L C n d A U H := by
  obtain ⟨c, k, i, f, a, cell, h1, h2, h3, h4, h5, h6, h7, h8, h9, h10⟩ := h
  obtain ⟨k', hi', he⟩ := State.fieldFound?_setVm hvm h2
  exact ⟨c, k', i, f, a, cell, by rw [hvm.findClass]; exact h1, hi', h3, by rw [he]; exact h4, h5, h6, h7, h8, by rw [he]; exact h9, h10⟩
theorem vx_L.kept {C n d : String} {A : Nat → Prop} {U : State} {H H1 : Heap} (h : vx_L C n d A U H) (hq : ∀ a : Nat, a < H.size → ¬ A a → H1[a]? = H[a]?) : vx_L C n d A U H1 := by
  obtain ⟨c, k, i, f, a, cell, h1, h2, h3, h4, h5, h6, h7, h8, h9, h10⟩ := h
  exact ⟨c, k, i, f, a, cell, h1, h2, h3, h4, by rw [hq a (Array.getElem?_eq_some_iff.mp h5).1 h10]; exact h5, h6, h7, h8, h9, h10⟩
theorem vx_L.narrow {C n d : String} {A B : Nat → Prop} {U : State} {H : Heap} (h : vx_L C n d A U H) (hAB : ∀ q, B q → A q) : vx_L C n d B U H := by
  obtain ⟨c, k, i, f, a, cell, h1, h2, h3, h4, h5, h6, h7, h8, h9, h10⟩ := h
  exact ⟨c, k, i, f, a, cell, h1, h2, h3, h4, h5, h6, h7, h8, h9, fun z => h10 (hAB _ z)⟩
theorem vx_L.word {C n d : String} {A : Nat → Prop} {s : State} {args : Array Value} (h : vx_L C n d A s s.heap) : (Cond.laysStatic C n d).before args s = true := by
  obtain ⟨c, k, i, f, a, cell, h1, h2, h3, h4, h5, h6, h7, h8, h9, -⟩ := h
  show (Cond.laysStatic C n d).holds args s none s [] = true
  exact Cond.laysStatic_of h1 h2 h3 h4 h5 h6 h7 h8 h9
/-- .. and what it holds: null or some reference -/
def vx_Zq (C n d : String) (A : Nat → Prop) (U : State) (H : Heap) : Prop := va_Zq C n d A U H ∧ vx_L C n d A U H
theorem vx_Zq.moved {C n d : String} {A : Nat → Prop} {u U : State} {H : Heap} (hvm : u.vm.Alike U.vm) (h : vx_Zq C n d A u H) : vx_Zq C n d A U H := ⟨va_Zq.moved hvm h.1, vx_L.moved hvm h.2⟩
theorem vx_Zq.kept {C n d : String} {A : Nat → Prop} {U : State} {H H1 : Heap} (h : vx_Zq C n d A U H) (hq : ∀ a : Nat, a < H.size → ¬ A a → H1[a]? = H[a]?) : vx_Zq C n d A U H1 := ⟨va_Zq.kept h.1 hq, vx_L.kept h.2 hq⟩
theorem vx_Zq.narrow {C n d : String} {A B : Nat → Prop} {U : State} {H : Heap} (h : vx_Zq C n d A U H) (hAB : ∀ q, B q → A q) : vx_Zq C n d B U H := ⟨va_Zq.narrow h.1 hAB, vx_L.narrow h.2 hAB⟩
theorem vx_Zqof {args : Array Value} {s : State} {C n d : String} {A : Nat → Prop} (hl : (Cond.laysStatic C n d).before args s = true) (hini : (Cond.initialized C).before args s = true) (h : (Cond.isRef (.static C n d)).before args s = true) (hA : ∀ a : Nat, a < s.heap.size → ¬ A a) : vx_Zq C n d A s s.heap := by
  refine ⟨va_Zqof hl hini h hA, ?_⟩
  obtain ⟨c, k, i, f, a, cell, h1, h2, h3, h4, h5, h6, h7, h8, h9⟩ := Cond.laysStatic_spec hl
  exact ⟨c, k, i, f, a, cell, h1, h2, h3, h4, h5, h6, h7, h8, h9, hA a (Array.getElem?_eq_some_iff.mp h5).1⟩
theorem vx_isRef {C n d : String} {v : Value} {A : Nat → Prop} {s : State} {args : Array Value} (h : va_Z C n d v A s s.heap) (hv : v.isRef = true) : (Cond.isRef (.static C n d)).before args s = true := by
  obtain ⟨cf, kf, fi, f, a, cell, h1, h2, h3, h4, h5, h6, h7, -⟩ := h
  have he : (Term.static C n d).eval args s none [] s = some v := by
    simp [Term.eval, State.fieldNamed?, h1, h2, h4, h5, h6, h7]
  simp only [Cond.before, Cond.holds, Cond.value, he]
  cases v <;> simp_all [Value.isRef]
theorem vx_isRefq {C n d : String} {A : Nat → Prop} {s : State} {args : Array Value} (h : va_Zq C n d A s s.heap) : (Cond.isRef (.static C n d)).before args s = true := by
  rcases h with h | ⟨t, h⟩
  · exact vx_isRef h rfl
  · exact vx_isRef h rfl
/-- the same frame, seen from here: as if the method were called anew in this heap -/
theorem vx_rebase {T : State} (X : Stand p l e R s m args below meth c T locs cells slots) {R' : Room} (hf : R'.frames ≤ R.frames) (hl : R'.locals ≤ R.locals) (hc : cells + R'.cells ≤ R.cells) (hs : slots + R'.slots ≤ R.slots) :
    Stand p l e R' ((T.setVm s.vm).setFrames (.invoking m args :: below)) m args below meth c T [] 0 0 := by
  have htop : (T.setVm s.vm).topJava?.isSome := X.here.top
  have hF : ((T.setVm s.vm).setFrames (.invoking m args :: below)).frames = .invoking m args :: below := State.frames_setFrames _ (State.cur_lt_of_top htop)
  obtain ⟨g₀, hg0⟩ := Option.isSome_iff_exists.mp htop
  obtain ⟨r, hr⟩ := State.topJava?_eq_some.mp hg0
  have hl9 : e.platform.stackLimits (T.setVm s.vm).me = e.platform.stackLimits s.me := X.limits
  have hb9 : (T.setVm s.vm).me.stackBytes = s.me.stackBytes := X.bytes
  refine ⟨X.admits, X.cas, X.clock, hF, ?_, X.hears, X.method, X.code, X.here, X.tail, X.warmed, ?_, ?_, ?_⟩
  · have h := X.room
    have hU : ((T.setVm s.vm).setFrames (.invoking m args :: below)).localsInUse = s.localsInUse := by
      rw [State.localsInUse_invoking hF (meth := meth) (c := c) X.method X.code, State.localsInUse_invoking X.frames X.method X.code]
    simp only [State.hasRoom, Bool.and_eq_true, decide_eq_true_eq] at h ⊢
    obtain ⟨⟨⟨⟨h1, h2, h3, h4, h5, h6⟩, h7⟩, h8⟩, h9⟩ := h
    rw [X.frames, List.length_cons] at h2 h3
    have q1 := X.heapSize
    have q2 := X.used
    simp only [hF, hU, List.length_cons, State.stackLimits_setFrames, State.stackBytes_setFrames, hl9, hb9]
    refine ⟨⟨⟨⟨by omega, by omega, by omega, by omega, by omega, h6⟩, ?_⟩, ?_⟩, X.book⟩
    · show T.heap.size + R'.cells ≤ e.platform.maxCells
      omega
    · show T.slotsUsed + R'.slots ≤ e.platform.maxSlots
      omega
  · rw [State.stackLimits_setFrames]; rfl
  · rw [State.stackBytes_setFrames]; rfl
  · refine ⟨?_, Nat.le_refl _, Nat.le_refl _, ?_, ?_, fun a c9 h9 => ⟨c9, h9, rfl, rfl, fun _ _ => rfl⟩⟩
    · obtain ⟨t, ht, -⟩ := State.frames_cons hr
      show T.setVm s.vm = { ((T.setVm s.vm).setFrames (.invoking m args :: below)).setFrames (T.setVm s.vm).frames with heap := T.heap, slotsUsed := T.slotsUsed }
      rw [State.setFrames_setFrames, State.setFrames_self ht]
      rfl
    · show T.slotsUsed = T.slotsUsed + ((T.heap.toList.drop T.heap.size).map (·.slots.size)).sum
      rw [List.drop_eq_nil_of_le (Nat.le_of_eq Array.length_toList)]
      rfl
    · show ((T.heap.toList.drop T.heap.size).map (·.slots.size)).sum ≤ 0
      rw [List.drop_eq_nil_of_le (Nat.le_of_eq Array.length_toList)]
      exact Nat.le_refl _
/-- 'throw new E()': new; dup; invokespecial; athrow -/
theorem vx_throw0 {cc : ByteArray} {pc : Nat} (hexec : p.tables.exec = Jvm.exec) (hb : c.code = cc) (hl : l.stackTraces = false) {own cls : String} {names : List String} {ik ic mc ms : Nat} {A : Nat → Prop}
    (hown : s.vm.findClass own = some m.cls) (hcls : Bundle.fit cls = true) (hnames : ∀ n ∈ names, Bundle.fit n = true)
    (hk : (Cond.classLink own ik cls).before args s = true) (hini : (Cond.initialized cls).before args s = true) (hat : ∀ w ∈ vx_at0 own ic cls names, w.before args s = true)
    (hgood : ∀ w ∈ Cond.classLink own ik cls :: Cond.initialized cls :: vx_at0 own ic cls names, vx_ot w = true)
    (hU : vx_Zq Bundle.tN "UNASSIGNED_STACK" Bundle.steD A s s.heap) (hN : vx_Zq Bundle.tN "SUPPRESSED_SENTINEL" Bundle.listD A s s.heap) (hS : va_S A s.heap H locs) (hsize : ls.size = c.maxLocals)
    (d0 : decode cc pc = .ok (.new ik, 3)) (d3 : decode cc (pc + 3) = .ok (.dup, 1)) (d4 : decode cc (pc + 4) = .ok (.invokespecial ic, 3)) (d7 : decode cc (pc + 7) = .ok (.athrow, 1))
    (hout : ∀ x ∈ c.exceptionTable.toList, covers x (pc + 7) = false)
    (hRframes : names.length + 3 < R.frames) (hRlocals : (rest.map fun v => v.category).sum + (13 * (names.length + 1) + 42) ≤ R.locals) (hRcells : cells + 1 ≤ R.cells) (hRslots : slots + 6 ≤ R.slots) (hlocks : meth.locks = false)
    (hx : ∀ t : State, s.vm.Alike t.vm → H.size ≤ t.heap.size → (∀ q : Nat, q < H.size → t.heap[q]? = H[q]?) → XC cls s t)
    (hf : ∀ z ∈ locs, free z.base) (hc : cells + 1 ≤ mc) (hs : slots + 6 ≤ ms) :
    W p l e R s m args below meth c H locs cells slots (vx_MQ below Qc XC args s mc ms free) (F0 m pc ls rest) := by
  intro T hT X
  have htr : e.platform.stackTraces = false := (show e.platform.stackTraces = l.stackTraces by rw [X.admits.platform]).trans hl
  have Y := vx_rebase X (R' := { frames := R.frames, locals := R.locals, cells := 1, slots := 6 }) (Nat.le_refl _) (Nat.le_refl _) hRcells hRslots
  obtain ⟨s', hA⟩ : ∃ z, z = (T.setVm s.vm).setFrames (.invoking m args :: below) := ⟨_, rfl⟩
  rw [← hA] at Y
  have hvm : s'.vm = s.vm := by rw [hA]; rfl
  have hhp : s'.heap = H := by rw [hA]; exact hT
  have hW0 : s.WarmedH s'.vm := by rw [hvm]; exact State.WarmedH.refl s
  have hat' : ∀ w ∈ vx_at0 own ic cls names, w.before args s' = true := fun w hw => vx_ot_at hW0 hvm.symm (hgood w (List.mem_cons_of_mem _ (List.mem_cons_of_mem _ hw))) (hat w hw)
  have hk' : (Cond.classLink own ik cls).before args s' = true := vx_ot_at hW0 hvm.symm (hgood _ List.mem_cons_self) hk
  have hini' : (Cond.initialized cls).before args s' = true := vx_ot_at hW0 hvm.symm (hgood _ (List.mem_cons_of_mem _ List.mem_cons_self)) hini
  have hU' : vx_Zq Bundle.tN "UNASSIGNED_STACK" Bundle.steD A s' s'.heap := by rw [hhp]; exact vx_Zq.moved hW0.alike (hU.kept hS.2.1)
  have hN' : vx_Zq Bundle.tN "SUPPRESSED_SENTINEL" Bundle.listD A s' s'.heap := by rw [hhp]; exact vx_Zq.moved hW0.alike (hN.kept hS.2.1)
  have h : ∀ w ∈ Bundle.ownAtoms0 own ic cls names, w.before args s' = true := vx_own hat' (vx_isRefq hU'.1) (vx_isRefq hN'.1) hU'.2.word hN'.2.word
  have hown' : s'.vm.findClass own = some m.cls := by rw [hvm]; exact hown
  have hins : (Cond.instantiable cls 6).before args s' = true := h _ (by simp [Bundle.ownAtoms0])
  obtain ⟨vm₁, cX, kX, hfX, hkX, -, -, X₁, st1⟩ := Y.newCold hexec (own := own) (C := cls) (index := ik) (n := 6) hown' hk' hins hini'
    (g := F0 m pc ls rest) rfl (by rw [hb]; exact d0) (Nat.le_refl _) (Nat.le_refl _)
  generalize hT1 : (T.setVm vm₁).pushCell { cls := cX, slots := kX.instanceTypes.map defaultValue, vm := .none } = T1 at X₁ st1
  have hcat : (Value.ref T.heap.size).category = 1 := rfl
  have hcellA : T1.heap[T.heap.size]? = some (freshCell cX kX) := by rw [← hT1]; exact State.heap_pushCell_size _ _
  have d3' : decode c.code (pc + 3) = .ok (.dup, 1) := by rw [hb]; exact d3
  obtain ⟨U, hsteps, hrun, hend, hW, hsame, ce, hce, hO⟩ := X₁.ctorThrow0 hexec htr (own := own) (cls := cls) (names := names) (ic := ic) hown' hcls hnames h (fun x hx => nomatch hx) hfX hkX hcellA (by rw [hhp, hT]; exact Nat.le_refl _)
    (g := { method := m, pc := pc + 4, locals := ls, stack := .ref T.heap.size :: .ref T.heap.size :: rest, locked := none }) rfl hsize rfl rfl (rest := rest) rfl
    (by rw [hb]; exact d4) (by rw [hb]; exact d7) hout hRframes (by simp only [List.map_cons, List.sum_cons, hcat]; omega) hlocks
  obtain ⟨f1, f2⟩ := vx_frame hsame
  rw [hhp] at f1 f2
  have hWs : s.WarmedH U.vm := State.WarmedH.trans hW0 hW
  have hcl : s.vm.findClass cls = some ce.cls := by
    have h9 := hO.cls
    rw [hvm] at h9
    exact h9
  have hall : s.sameButNew ({ U with vm := s.vm } : State) locs mc ms := by
    subst hA
    obtain ⟨e1, e2⟩ := hsame
    rw [State.setFrames_setFrames] at e1
    have h2 : (T.setVm s.vm).sameButNew ({ U with vm := s.vm } : State) [] (0 + 1) (0 + 6) := ⟨e1, e2⟩
    have h3 := X.same.trans h2
    rw [List.append_nil] at h3
    exact h3.mono hc hs
  refine ⟨U, ?_, .threw T.heap.size, hrun, hend, Or.inr ⟨T.heap.size, rfl, cls, ce, locs, hx U hWs.alike f1 (fun q hq => f2 q hq (fun z hz => nomatch hz)), hce, hO.vm, hcl, hWs, hall, hf⟩⟩
  refine st1 _ ?_
  show Steps p.tables e below (T1.setTop { method := m, pc := pc + 3, locals := ls, stack := .ref T.heap.size :: rest, locked := none }) _
  jvm_step X₁.here [X₁.here.top, hexec, d3', Value.category]
  exact hsteps
/-- 'throw new E("text")': new; dup; ldc; invokespecial; athrow -/
theorem vx_throwS {cc : ByteArray} {pc : Nat} (hexec : p.tables.exec = Jvm.exec) (hb : c.code = cc) (hl : l.stackTraces = false) {own cls text : String} {names : List String} {ik is ic mc ms sa : Nat} {A : Nat → Prop}
    (hown : s.vm.findClass own = some m.cls) (hcls : Bundle.fit cls = true) (hnames : ∀ n ∈ names, Bundle.fit n = true)
    (hk : (Cond.classLink own ik cls).before args s = true) (hini : (Cond.initialized cls).before args s = true) (hstr : vk_R own is text sa s) (hat : ∀ w ∈ vx_atS own ic cls names, w.before args s = true)
    (hgood : ∀ w ∈ Cond.classLink own ik cls :: Cond.initialized cls :: vx_atS own ic cls names, vx_ot w = true)
    (hU : vx_Zq Bundle.tN "UNASSIGNED_STACK" Bundle.steD A s s.heap) (hN : vx_Zq Bundle.tN "SUPPRESSED_SENTINEL" Bundle.listD A s s.heap) (hS : va_S A s.heap H locs) (hsize : ls.size = c.maxLocals)
    (d0 : decode cc pc = .ok (.new ik, 3)) (d3 : decode cc (pc + 3) = .ok (.dup, 1)) (d4 : decode cc (pc + 4) = .ok (.ldc is, 2)) (d6 : decode cc (pc + 6) = .ok (.invokespecial ic, 3)) (d9 : decode cc (pc + 9) = .ok (.athrow, 1))
    (hout : ∀ x ∈ c.exceptionTable.toList, covers x (pc + 9) = false)
    (hRframes : names.length + 3 < R.frames) (hRlocals : (rest.map fun v => v.category).sum + (13 * (names.length + 1) + 43) ≤ R.locals) (hRcells : cells + 1 ≤ R.cells) (hRslots : slots + 6 ≤ R.slots) (hlocks : meth.locks = false)
    (hx : ∀ t : State, s.vm.Alike t.vm → H.size ≤ t.heap.size → (∀ q : Nat, q < H.size → t.heap[q]? = H[q]?) → XC cls s t)
    (hf : ∀ z ∈ locs, free z.base) (hc : cells + 1 ≤ mc) (hs : slots + 6 ≤ ms) :
    W p l e R s m args below meth c H locs cells slots (vx_MQ below Qc XC args s mc ms free) (F0 m pc ls rest) := by
  intro T hT X
  have htr : e.platform.stackTraces = false := (show e.platform.stackTraces = l.stackTraces by rw [X.admits.platform]).trans hl
  have Y := vx_rebase X (R' := { frames := R.frames, locals := R.locals, cells := 1, slots := 6 }) (Nat.le_refl _) (Nat.le_refl _) hRcells hRslots
  obtain ⟨s', hA⟩ : ∃ z, z = (T.setVm s.vm).setFrames (.invoking m args :: below) := ⟨_, rfl⟩
  rw [← hA] at Y
  have hvm : s'.vm = s.vm := by rw [hA]; rfl
  have hhp : s'.heap = H := by rw [hA]; exact hT
  have hW0 : s.WarmedH s'.vm := by rw [hvm]; exact State.WarmedH.refl s
  have hat' : ∀ w ∈ vx_atS own ic cls names, w.before args s' = true := fun w hw => vx_ot_at hW0 hvm.symm (hgood w (List.mem_cons_of_mem _ (List.mem_cons_of_mem _ hw))) (hat w hw)
  have hk' : (Cond.classLink own ik cls).before args s' = true := vx_ot_at hW0 hvm.symm (hgood _ List.mem_cons_self) hk
  have hini' : (Cond.initialized cls).before args s' = true := vx_ot_at hW0 hvm.symm (hgood _ (List.mem_cons_of_mem _ List.mem_cons_self)) hini
  have hU' : vx_Zq Bundle.tN "UNASSIGNED_STACK" Bundle.steD A s' s'.heap := by rw [hhp]; exact vx_Zq.moved hW0.alike (hU.kept hS.2.1)
  have hN' : vx_Zq Bundle.tN "SUPPRESSED_SENTINEL" Bundle.listD A s' s'.heap := by rw [hhp]; exact vx_Zq.moved hW0.alike (hN.kept hS.2.1)
  have h : ∀ w ∈ Bundle.ownAtoms own ic cls names, w.before args s' = true := vx_own hat' (vx_isRefq hU'.1) (vx_isRefq hN'.1) hU'.2.word hN'.2.word
  have hown' : s'.vm.findClass own = some m.cls := by rw [hvm]; exact hown
  have hins : (Cond.instantiable cls 6).before args s' = true := h _ (by simp [Bundle.ownAtoms])
  obtain ⟨vm₁, cX, kX, hfX, hkX, -, -, X₁, st1⟩ := Y.newCold hexec (own := own) (C := cls) (index := ik) (n := 6) hown' hk' hins hini'
    (g := F0 m pc ls rest) rfl (by rw [hb]; exact d0) (Nat.le_refl _) (Nat.le_refl _)
  generalize hT1 : (T.setVm vm₁).pushCell { cls := cX, slots := kX.instanceTypes.map defaultValue, vm := .none } = T1 at X₁ st1
  have hcat : (Value.ref T.heap.size).category = 1 := rfl
  have hcellA : T1.heap[T.heap.size]? = some (freshCell cX kX) := by rw [← hT1]; exact State.heap_pushCell_size _ _
  have d3' : decode c.code (pc + 3) = .ok (.dup, 1) := by rw [hb]; exact d3
  have d4' : decode c.code (pc + 4) = .ok (.ldc is, 2) := by rw [hb]; exact d4
  have hstr' : vk_R own is text sa s' := vk_R.warm hW0 hstr
  obtain ⟨U, hsteps, hrun, hend, hW, hsame, ce, hce, hO⟩ := X₁.ctorThrowS hexec htr (own := own) (cls := cls) (names := names) (ic := ic) hown' hcls hnames h (fun x hx => nomatch hx) hfX hkX hcellA (by rw [hhp, hT]; exact Nat.le_refl _) (msg := .ref sa) rfl
    (g := { method := m, pc := pc + 6, locals := ls, stack := .ref sa :: .ref T.heap.size :: .ref T.heap.size :: rest, locked := none }) rfl hsize rfl rfl (rest := rest) rfl
    (by rw [hb]; exact d6) (by rw [hb]; exact d9) hout hRframes (by simp only [List.map_cons, List.sum_cons, hcat]; omega) hlocks
  obtain ⟨f1, f2⟩ := vx_frame hsame
  rw [hhp] at f1 f2
  have hWs : s.WarmedH U.vm := State.WarmedH.trans hW0 hW
  have hcl : s.vm.findClass cls = some ce.cls := by
    have h9 := hO.cls
    rw [hvm] at h9
    exact h9
  have hall : s.sameButNew ({ U with vm := s.vm } : State) locs mc ms := by
    subst hA
    obtain ⟨e1, e2⟩ := hsame
    rw [State.setFrames_setFrames] at e1
    have h2 : (T.setVm s.vm).sameButNew ({ U with vm := s.vm } : State) [] (0 + 1) (0 + 6) := ⟨e1, e2⟩
    have h3 := X.same.trans h2
    rw [List.append_nil] at h3
    exact h3.mono hc hs
  refine ⟨U, ?_, .threw T.heap.size, hrun, hend, Or.inr ⟨T.heap.size, rfl, cls, ce, locs, hx U hWs.alike f1 (fun q hq => f2 q hq (fun z hz => nomatch hz)), hce, hO.vm, hcl, hWs, hall, hf⟩⟩
  refine st1 _ ?_
  show Steps p.tables e below (T1.setTop { method := m, pc := pc + 3, locals := ls, stack := .ref T.heap.size :: rest, locked := none }) _
  jvm_step X₁.here [X₁.here.top, hexec, d3', Value.category]
  exact X₁.ldcString hexec (own := own) (text := text) (index := is) (a := sa) hown' hstr'.1 hstr'.2
    (g := { method := m, pc := pc + 4, locals := ls, stack := .ref T.heap.size :: .ref T.heap.size :: rest, locked := none }) rfl d4' _ hsteps
/-- 'throw new E("text")', the text by a wide index -/
theorem vx_throwSW {cc : ByteArray} {pc : Nat} (hexec : p.tables.exec = Jvm.exec) (hb : c.code = cc) (hl : l.stackTraces = false) {own cls text : String} {names : List String} {ik is ic mc ms sa : Nat} {A : Nat → Prop}
    (hown : s.vm.findClass own = some m.cls) (hcls : Bundle.fit cls = true) (hnames : ∀ n ∈ names, Bundle.fit n = true)
    (hk : (Cond.classLink own ik cls).before args s = true) (hini : (Cond.initialized cls).before args s = true) (hstr : vk_R own is text sa s) (hat : ∀ w ∈ vx_atS own ic cls names, w.before args s = true)
    (hgood : ∀ w ∈ Cond.classLink own ik cls :: Cond.initialized cls :: vx_atS own ic cls names, vx_ot w = true)
    (hU : vx_Zq Bundle.tN "UNASSIGNED_STACK" Bundle.steD A s s.heap) (hN : vx_Zq Bundle.tN "SUPPRESSED_SENTINEL" Bundle.listD A s s.heap) (hS : va_S A s.heap H locs) (hsize : ls.size = c.maxLocals)
    (d0 : decode cc pc = .ok (.new ik, 3)) (d3 : decode cc (pc + 3) = .ok (.dup, 1)) (d4 : decode cc (pc + 4) = .ok (.ldc_w is, 3)) (d7 : decode cc (pc + 7) = .ok (.invokespecial ic, 3)) (d10 : decode cc (pc + 10) = .ok (.athrow, 1))
    (hout : ∀ x ∈ c.exceptionTable.toList, covers x (pc + 10) = false)
    (hRframes : names.length + 3 < R.frames) (hRlocals : (rest.map fun v => v.category).sum + (13 * (names.length + 1) + 43) ≤ R.locals) (hRcells : cells + 1 ≤ R.cells) (hRslots : slots + 6 ≤ R.slots) (hlocks : meth.locks = false)
    (hx : ∀ t : State, s.vm.Alike t.vm → H.size ≤ t.heap.size → (∀ q : Nat, q < H.size → t.heap[q]? = H[q]?) → XC cls s t)
    (hf : ∀ z ∈ locs, free z.base) (hc : cells + 1 ≤ mc) (hs : slots + 6 ≤ ms) :
    W p l e R s m args below meth c H locs cells slots (vx_MQ below Qc XC args s mc ms free) (F0 m pc ls rest) := by
  intro T hT X
  have htr : e.platform.stackTraces = false := (show e.platform.stackTraces = l.stackTraces by rw [X.admits.platform]).trans hl
  have Y := vx_rebase X (R' := { frames := R.frames, locals := R.locals, cells := 1, slots := 6 }) (Nat.le_refl _) (Nat.le_refl _) hRcells hRslots
  obtain ⟨s', hA⟩ : ∃ z, z = (T.setVm s.vm).setFrames (.invoking m args :: below) := ⟨_, rfl⟩
  rw [← hA] at Y
  have hvm : s'.vm = s.vm := by rw [hA]; rfl
  have hhp : s'.heap = H := by rw [hA]; exact hT
  have hW0 : s.WarmedH s'.vm := by rw [hvm]; exact State.WarmedH.refl s
  have hat' : ∀ w ∈ vx_atS own ic cls names, w.before args s' = true := fun w hw => vx_ot_at hW0 hvm.symm (hgood w (List.mem_cons_of_mem _ (List.mem_cons_of_mem _ hw))) (hat w hw)
  have hk' : (Cond.classLink own ik cls).before args s' = true := vx_ot_at hW0 hvm.symm (hgood _ List.mem_cons_self) hk
  have hini' : (Cond.initialized cls).before args s' = true := vx_ot_at hW0 hvm.symm (hgood _ (List.mem_cons_of_mem _ List.mem_cons_self)) hini
  have hU' : vx_Zq Bundle.tN "UNASSIGNED_STACK" Bundle.steD A s' s'.heap := by rw [hhp]; exact vx_Zq.moved hW0.alike (hU.kept hS.2.1)
  have hN' : vx_Zq Bundle.tN "SUPPRESSED_SENTINEL" Bundle.listD A s' s'.heap := by rw [hhp]; exact vx_Zq.moved hW0.alike (hN.kept hS.2.1)
  have h : ∀ w ∈ Bundle.ownAtoms own ic cls names, w.before args s' = true := vx_own hat' (vx_isRefq hU'.1) (vx_isRefq hN'.1) hU'.2.word hN'.2.word
  have hown' : s'.vm.findClass own = some m.cls := by rw [hvm]; exact hown
  have hins : (Cond.instantiable cls 6).before args s' = true := h _ (by simp [Bundle.ownAtoms])
  obtain ⟨vm₁, cX, kX, hfX, hkX, -, -, X₁, st1⟩ := Y.newCold hexec (own := own) (C := cls) (index := ik) (n := 6) hown' hk' hins hini'
    (g := F0 m pc ls rest) rfl (by rw [hb]; exact d0) (Nat.le_refl _) (Nat.le_refl _)
  generalize hT1 : (T.setVm vm₁).pushCell { cls := cX, slots := kX.instanceTypes.map defaultValue, vm := .none } = T1 at X₁ st1
  have hcat : (Value.ref T.heap.size).category = 1 := rfl
  have hcellA : T1.heap[T.heap.size]? = some (freshCell cX kX) := by rw [← hT1]; exact State.heap_pushCell_size _ _
  have d3' : decode c.code (pc + 3) = .ok (.dup, 1) := by rw [hb]; exact d3
  have d4' : decode c.code (pc + 4) = .ok (.ldc_w is, 3) := by rw [hb]; exact d4
  have hstr' : vk_R own is text sa s' := vk_R.warm hW0 hstr
  obtain ⟨U, hsteps, hrun, hend, hW, hsame, ce, hce, hO⟩ := X₁.ctorThrowS hexec htr (own := own) (cls := cls) (names := names) (ic := ic) hown' hcls hnames h (fun x hx => nomatch hx) hfX hkX hcellA (by rw [hhp, hT]; exact Nat.le_refl _) (msg := .ref sa) rfl
    (g := { method := m, pc := pc + 7, locals := ls, stack := .ref sa :: .ref T.heap.size :: .ref T.heap.size :: rest, locked := none }) rfl hsize rfl rfl (rest := rest) rfl
    (by rw [hb]; exact d7) (by rw [hb]; exact d10) hout hRframes (by simp only [List.map_cons, List.sum_cons, hcat]; omega) hlocks
  obtain ⟨f1, f2⟩ := vx_frame hsame
  rw [hhp] at f1 f2
  have hWs : s.WarmedH U.vm := State.WarmedH.trans hW0 hW
  have hcl : s.vm.findClass cls = some ce.cls := by
    have h9 := hO.cls
    rw [hvm] at h9
    exact h9
  have hall : s.sameButNew ({ U with vm := s.vm } : State) locs mc ms := by
    subst hA
    obtain ⟨e1, e2⟩ := hsame
    rw [State.setFrames_setFrames] at e1
    have h2 : (T.setVm s.vm).sameButNew ({ U with vm := s.vm } : State) [] (0 + 1) (0 + 6) := ⟨e1, e2⟩
    have h3 := X.same.trans h2
    rw [List.append_nil] at h3
    exact h3.mono hc hs
  refine ⟨U, ?_, .threw T.heap.size, hrun, hend, Or.inr ⟨T.heap.size, rfl, cls, ce, locs, hx U hWs.alike f1 (fun q hq => f2 q hq (fun z hz => nomatch hz)), hce, hO.vm, hcl, hWs, hall, hf⟩⟩
  refine st1 _ ?_
  show Steps p.tables e below (T1.setTop { method := m, pc := pc + 3, locals := ls, stack := .ref T.heap.size :: rest, locked := none }) _
  jvm_step X₁.here [X₁.here.top, hexec, d3', Value.category]
  exact X₁.ldcStringW hexec (own := own) (text := text) (index := is) (a := sa) hown' hstr'.1 hstr'.2
    (g := { method := m, pc := pc + 4, locals := ls, stack := .ref T.heap.size :: .ref T.heap.size :: rest, locked := none }) rfl d4' _ hsteps
end Ends
section Bodies
variable {l : Launch}
theorem vx_ofW {y : MethodName} {ws ws' : List Cond} {rm : Room} {Pc : Array Value → State → Prop} {Qc : Array Value → State → Outcome → State → Prop} {XC : String → State → State → Prop} {mc ms : Nat} {free : Addr → Prop} {cc : ByteArray} {maxL : Nat} {ret : Option FieldType}
    (hy : plainName y.cls = true) (hw : ws = Cond.code y cc maxL ret :: ws')
    (body : ∀ p e s m args below meth c s₁, BodyLoose p l y (headSpec ws rm) cc maxL ret e s m args below meth c s₁ → c.maxLocals = maxL → (∀ x ∈ c.exceptionTable.toList, False) → Pc args s →
      W p l e (headSpec ws rm).room s m args below meth c s.heap [] 0 0 (vx_MQ below Qc XC args s mc ms free) (entryFrame m args maxL)) : vx_Met l y ws rm Pc Qc XC mc ms free := by
  refine MetFree.of_bodyS (code := cc) (maxLocals := maxL) (ret := ret) hy ?_ ?_
  · intro args s m h hn
    obtain ⟨meth, c, h1, h2, h3, h4, h5, h6, -, -⟩ := Cond.code_spec hn (atoms_spec (ws := ws) h _ (by rw [hw]; exact List.mem_cons_self))
    exact ⟨meth, c, h1, h2, h3, h4, h5, h6⟩
  · intro p e s m args below meth c s₁ B hml hP _
    have hh0 : s₁.heap = s.heap := by rw [B.state]; rfl
    have ht : ∀ x ∈ c.exceptionTable.toList, False := by
      obtain ⟨meth9, c9, h1, h2, -, -, -, -, h7, -⟩ := Cond.code_spec B.named (atoms_spec (ws := ws) B.pre _ (by rw [hw]; exact List.mem_cons_self))
      cases Option.some.inj (h1.symm.trans B.method)
      cases Option.some.inj (h2.symm.trans (Stand.of_body B).code)
      intro x hx
      rw [Array.isEmpty_iff.mp h7] at hx
      cases hx
    obtain ⟨t, a1, o, b1, b2, b3⟩ := body p e s m args below meth c s₁ B hml ht hP s₁ hh0 (Stand.of_body B)
    exact ⟨t, o, a1, b1, b2, b3⟩
/-- the table of a body with handlers -/
theorem vx_table {p : Program} {x y : MethodName} {S : Spec} {cc bytes : ByteArray} {maxL maxL' : Nat} {ret ret' : Option FieldType} {e : Env} {s s₁ : State} {m : MethodId} {args : Array Value} {below : List Frame} {meth : Method} {c : Code} {hh : List (Nat × Nat × Nat × Nat)}
    (B : BodyLoose p l y S cc maxL ret e s m args below meth c s₁) (h : (Cond.codeWith y bytes maxL' ret' hh).before args s = true) : c.exceptionTable.toList = tableOf hh := by
  obtain ⟨m9, meth9, c9, hn9, h1, h2, -, -, h6, -⟩ := Cond.codeWith_spec h
  cases Option.some.inj (hn9.symm.trans B.named)
  cases Option.some.inj (h1.symm.trans B.method)
  cases Option.some.inj (h2.symm.trans (Stand.of_body B).code)
  rw [← h6, table_eq]
end Bodies
end VXA
/-! ===== END ===== -/
/-! ===== BEGIN a static call of a method with an exception table ===== -/
section VXS
variable {p : Program} {l : Launch} {e : Env} {R : Room} {s : State} {m : MethodId} {args : Array Value} {below : List Frame} {meth : Method} {c : Code} {T : State} {H : Heap} {locs : List Loc} {cells slots : Nat}
abbrev vx_CSW (R : Room) (s : State) (args : Array Value) (own : String) (index : Nat) (y : MethodName) (bytes : ByteArray) (maxL : Nat) (ret : Option FieldType) (hh : List (Nat × Nat × Nat × Nat)) (ws : List Cond) (rm : Room) (mc ms n : Nat) : Prop :=
  (rm.cells = mc ∧ rm.slots = ms ∧ rm.frames + 1 ≤ R.frames ∧ 8 + (maxL + 11) + rm.locals ≤ R.locals ∧ (∀ w ∈ ws, ∀ (a' : Array Value) (U : State), s.WarmedH U.vm → w.before a' U = true) ∧ Cond.codeWith y bytes maxL ret hh ∈ ws) ∧
  (Cond.codeWith y bytes maxL ret hh).before args s = true ∧ (Cond.initialized y.cls).before args s = true ∧ (y.cls ≠ "java/lang/invoke/MethodHandle" ∧ y.cls ≠ "java/lang/invoke/VarHandle") ∧
  (∀ sig, parseMethodDescriptor y.desc = some sig → n = sig.parameters.length) ∧ (Cond.methodLink own index y).before args s = true ∧ (Cond.static y).before args s = true
theorem vx_cwSW {own : String} {index maxL mc ms : Nat} {y : MethodName} {bytes : ByteArray} {ret : Option FieldType} {hh : List (Nat × Nat × Nat × Nat)} {Ts ws ws' : List Cond} {rm : Room} (n : Nat) (ht : ∀ w ∈ Ts, w.before args s = true) (hT : GoodIn Ts (va_wsS own index y ws)) (hw : ws = Cond.codeWith y bytes maxL ret hh :: ws') (hrc : rm.cells = mc) (hrs : rm.slots = ms)
    (hd : y.cls ≠ "java/lang/invoke/MethodHandle" ∧ y.cls ≠ "java/lang/invoke/VarHandle" ∧ (parseMethodDescriptor y.desc).map (fun d => d.parameters.length) = some n) (hR : rm.frames + 1 ≤ R.frames ∧ 8 + (maxL + 11) + rm.locals ≤ R.locals) :
    vx_CSW R s args own index y bytes maxL ret hh ws rm mc ms n := by
  have ok : ∀ w ∈ va_wsS own index y ws, w.before args s = true := fun w h => ht w (hT w h).1
  have hG : GoodIn Ts ws := fun w h => hT w (by unfold va_wsS; exact List.mem_append_right _ h)
  have hc : Cond.codeWith y bytes maxL ret hh ∈ ws := by rw [hw]; exact List.mem_cons_self
  refine ⟨⟨hrc, hrs, hR.1, hR.2, pay_in ht hG, hc⟩, ht _ (hG _ hc).1, ok _ (by simp [va_wsS]), ⟨hd.1, hd.2.1⟩, fun sig h => ?_, ok _ (by simp [va_wsS]), ok _ (by simp [va_wsS])⟩
  have h2 := hd.2.2
  rw [h] at h2
  exact (Option.some.inj h2).symm
theorem vx_callSW (X : Stand p l e R s m args below meth c T locs cells slots) (hexec : p.tables.exec = Jvm.exec) {own : String} {index : Nat} {y : MethodName} {bytes : ByteArray} {maxL : Nat} {ret : Option FieldType} {hh : List (Nat × Nat × Nat × Nat)}
    (hown : s.vm.findClass own = some m.cls) (hlink : (Cond.methodLink own index y).before args s = true) (hstat : (Cond.static y).before args s = true) (hinit : (Cond.initialized y.cls).before args s = true)
    (hcode : (Cond.codeWith y bytes maxL ret hh).before args s = true) (hy : y.cls ≠ "java/lang/invoke/MethodHandle" ∧ y.cls ≠ "java/lang/invoke/VarHandle")
    {W9 : Nat} {Pre : Pt → Array Value → Prop} {Post : Pt → Array Value → Option Value → Pt → Prop} (hK : Back l R p e below s args y 3 W9 Pre Post)
    {g : JFrame} (hg : g.method = m) (hsize : g.locals.size = c.maxLocals) {argsL rest : List Value} (hlen : ∀ sig, parseMethodDescriptor y.desc = some sig → argsL.length = sig.parameters.length)
    (hstack : g.stack = argsL.reverse ++ rest) (hW : 2 * g.monitorRoom + (rest.map fun v => v.category).sum ≤ W9) (hdg : decode c.code g.pc = .ok (.invokestatic index, 3))
    (hpre : ∀ vm₁, s.WarmedH vm₁ → Pre ⟨T.setVm vm₁, locs, cells, slots⟩ argsL.toArray) :
    ∃ (v : Option Value) (vm₁ : Vm) (B : Pt), s.WarmedH vm₁ ∧ Stand p l e R s m args below meth c B.U B.locs B.cells B.slots ∧ Post ⟨T.setVm vm₁, locs, cells, slots⟩ argsL.toArray v B ∧
      ∀ target, Steps p.tables e below (B.U.setTop { g with pc := g.pc + 3, stack := v.toList ++ rest }) target → Steps p.tables e below (T.setTop g) target := by
  obtain ⟨mk, methM, cM, hnamed, hmethM, -, -, -, -, -, -, hsigM⟩ := Cond.codeWith_spec hcode
  have hstatic : methM.isStatic = true := Cond.static_spec hnamed hmethM hstat
  obtain ⟨kP, hkP, -⟩ := className_of_methodNamed hnamed
  have hinitP : kP.init = .initialized := Cond.initialized_spec (findClass_of_methodNamed hnamed) hkP hinit
  obtain ⟨vm₁, X₁, hstep₁⟩ := X.invokestatic hexec hown hlink hnamed hmethM hstatic hkP hinitP hy (g := g) hg (argsL := argsL) (rest := rest) (hlen _ hsigM) hstack hdg
  obtain ⟨v, B, X', hpost, hsteps⟩ := hK m meth c ⟨T.setVm vm₁, locs, cells, slots⟩ { g with stack := rest } (.invokestatic index) mk argsL.toArray X₁ hg hsize hdg hW (X₁.named hnamed) (hpre vm₁ X₁.warmed)
  exact ⟨v, vm₁, B, X₁.warmed, X', hpost, fun target h => hstep₁ _ fun acts => by rw [doInvoke_state]; exact hsteps.trans h⟩
theorem vx_runSW {y : MethodName} {bytes cc : ByteArray} {maxL nL mc ms n index : Nat} {ret : Option FieldType} {hh : List (Nat × Nat × Nat × Nat)} {ws : List Cond} {rm : Room} {Pc : Array Value → State → Prop} {Qc : Array Value → State → Outcome → State → Prop} {free : Addr → Prop} {Ts : List Cond} {own : String} {As rest : List Value} {g : JFrame}
    (S : CallFix p m c cc nL s args Ts own) (hM : Met l y ws rm Pc Qc mc ms free) (cw : vx_CSW R s args own index y bytes maxL ret hh ws rm mc ms n) (hp : PreS s H Pc As)
    (hg : g.method = m) (hn : As.length = n) (hsize : g.locals.size = nL) (hstack : g.stack = As.reverse ++ rest) (hW : 2 * g.monitorRoom + (rest.map fun v => v.category).sum ≤ 8) (hdg : decode cc g.pc = .ok (.invokestatic index, 3)) (hf : cells + mc ≤ R.cells ∧ slots + ms ≤ R.slots) :
    va_Run p l e R s m args below meth c H locs cells slots mc ms g rest (Qc As.toArray) (free) := by
  obtain ⟨⟨hrc, hrs, hfr, hlo, hws, hcw⟩, hcode, hini, hy, hlen, hl, hstt⟩ := cw
  have hK : Back l R p e below s args y 3 8 (PreOf R mc ms Pc) (PostOf Qc mc ms free) := va_backW (hh := hh) (bytes := bytes) (maxL := maxL) (ret := ret) hM hp.1 hrc hrs hfr hlo hws hcw (fun a' U hW => word_at hW (Or.inl (by first | rfl | simp [Cond.onTables, Cond.keeps, Cond.steady])) hini)
  obtain ⟨hx, hb, hml, ho, -⟩ := S
  intro T hT X
  obtain ⟨v, vm₁, ⟨U', l2, c2, s2⟩, hW₁, X', ⟨g', mk, t, L, e1, e2, hq, h1, hL, h2, h3⟩, st⟩ := vx_callSW X hx (hh := hh) (bytes := bytes) (maxL := maxL) (ret := ret) ho hl hstt hini hcode hy hK hg (hsize.trans hml.symm) (argsL := As) (rest := rest) (fun sig h => hn.trans (hlen sig h)) hstack hW (by rw [hb]; exact hdg)
    (fun vm₁ hW₁ => ⟨hf.1, hf.2, hp.2 (T.setVm vm₁) hT hW₁⟩)
  dsimp only [Pt.U, Pt.locs, Pt.cells, Pt.slots] at X' e1 e2 h1 h2 h3 st
  subst h1; subst h2; subst h3
  exact ⟨v, (T.setVm vm₁).calling g' mk As.toArray, t, U', L, hT, X', hL, e1, e2, hq, st⟩
/-- not caught here, past rows that name other classes: it goes on to the caller -/
theorem vx_outP {p : Program} {l : Launch} {e : Env} {R : Room} {s : State} {m : MethodId} {args : Array Value} {below : List Frame} {meth : Method} {c : Code} {H : Heap} {locs : List Loc} {cells slots : Nat} {free : Addr → Prop} {ls : Array Slot} {rest : List Value} {Qc : Array Value → State → Outcome → State → Prop} {XC : String → State → State → Prop}
    {pc : Nat} {own E : String} {ce : Cell} {q : Addr} {mc ms : Nat} (hown : s.vm.findClass own = some m.cls) (hlocks : meth.locks = false)
    (hpass : ∀ z ∈ c.exceptionTable.toList, covers z pc = false ∨ (z.catchType ≠ 0 ∧ ∃ nm : String, (Cond.classLink own z.catchType nm).before args s = true ∧ va_Nc E nm s)) (hcell : H[q]? = some ce) (hv : ce.vm = .none) (hcl : s.vm.findClass E = some ce.cls)
    (hx : ∀ t : State, t.heap = H → s.vm.Alike t.vm → XC E s t) (hf : ∀ z ∈ locs, free z.base) (hc : cells ≤ mc) (hs : slots ≤ ms) :
    vx_W p l e R s m args below meth c H locs cells slots (vx_MQ below Qc XC args s mc ms free) (F0 m pc ls rest) q := by
  intro T hT X
  have hpl : e.platform.magicAccessors = ({} : Platform).magicAccessors := by rw [X.admits.platform]
  obtain ⟨vm', hW', X', st⟩ := X.outThrough hlocks q (g := F0 m pc ls rest) rfl rfl rfl (cell := ce) (by rw [hT]; exact hcell) (by rw [hv]; rfl)
    (by obtain ⟨k9, h9, -⟩ := Vm.findClass_spec hcl; exact ⟨k9, h9⟩) (fun z hz => by
      rcases hpass z hz with h | ⟨hz0, nm, hl1, hn1⟩
      · exact Or.inl h
      · obtain ⟨c6, hc6, hcl6⟩ := Cond.classLink_spec hown hl1 e.platform hpl
        obtain ⟨a8, b8, h1, h2, h3⟩ := hn1
        cases Option.some.inj (h1.symm.trans hcl)
        cases Option.some.inj (h2.symm.trans hc6)
        exact Or.inr ⟨hz0, _, hcl6, h3⟩)
  obtain ⟨g₀, hfr⟩ := X'.frames_eq
  have hcell9 : ((T.setVm vm').setFrames (.throwing q :: below)).heap[q]? = some ce := by
    show T.heap[q]? = some ce
    rw [hT]; exact hcell
  have hend : Ended ((T.setVm vm').setFrames (.throwing q :: below)) below (.threw q) := State.frames_setFrames _ (State.cur_lt_of_frames hfr)
  refine ⟨(T.setVm vm').setFrames (.throwing q :: below), ?_, .threw q, X'.here.running, hend, Or.inr ⟨q, rfl, E, ce, locs, hx _ hT (X'.ends _).1.alike, hcell9, hv, hcl, (X'.ends _).1, (X'.ends _).2.mono hc hs, hf⟩⟩
  rw [X.pushThrowing_eq]
  exact st
/-- a thing of a world lies in the heap -/
theorem vx_lt {D : va_G} {cl : List vw_C} {ws : va_W} {H1 : Heap} (h : va_P D cl ws H1) {k : Nat} {q : Nat × va_E} (hk : ws[k]? = some q) : q.1 < H1.size := (h k q hk).lt
end VXS
/-! ===== END ===== -/
/-! ===== BEGIN methods with a table of their own: called by a name, returning or throwing ===== -/
section VXH
/-! vx_backW, vx_callVX, vx_callSX, vx_callVW, vx_runVW, vx_runVX, vx_runSX, vx_ofWH follow the same proofs as their sisters above (Free/Laws.lean, Shelf42/LK1.lean); vx_outP calls Shelf42/NT130.lean (outThrough). -/
section
variable {l : Launch} {R : Room} {p : Program} {e : Env} {below : List Frame} {s : State} {sargs : Array Value} {y : MethodName} {len W9 : Nat}
theorem vx_backW {ws : List Cond} {rm : Room} {Pc : Array Value → State → Prop} {Qc : Array Value → State → Outcome → State → Prop} {XC : String → State → State → Prop} {mc ms : Nat} {free : Addr → Prop} {bytes : ByteArray} {maxL : Nat} {ret : Option FieldType} {hh : List (Nat × Nat × Nat × Nat)}
    (hM : vx_Met l y ws rm Pc Qc XC mc ms free) (hblind : FrameBlind Pc) (hrc : rm.cells = mc) (hrs : rm.slots = ms)
    (hframes : rm.frames + 1 ≤ R.frames) (hlocals : W9 + (maxL + 11) + rm.locals ≤ R.locals)
    (hws : ∀ w ∈ ws, ∀ a' U, s.WarmedH U.vm → w.before a' U = true) (hcode : Cond.codeWith y bytes maxL ret hh ∈ ws) (hinit : ∀ a' U, s.WarmedH U.vm → (Cond.initialized y.cls).before a' U = true) :
    vx_Back l R p e below s sargs y len W9 (PreOf R mc ms Pc) (PostOf Qc mc ms free) (vx_Post XC mc ms free) := by
  intro m meth c A g ig mk a X hg hsize hdg hW hn hp
  have h1 : (headSpec ws rm).pre.before a A.U = true := atoms_intro fun w hw => hws w hw _ _ X.warmed
  have h2 : (Cond.codeWith y bytes maxL ret hh).before a A.U = true := hws _ hcode _ _ X.warmed
  have h3 : (Cond.initialized y.cls).before a A.U = true := hinit _ _ X.warmed
  have h4 : A.cells + (headSpec ws rm).room.cells ≤ R.cells := by rw [show (headSpec ws rm).room.cells = mc from hrc]; exact hp.1
  have h5 : A.slots + (headSpec ws rm).room.slots ≤ R.slots := by rw [show (headSpec ws rm).room.slots = ms from hrs]; exact hp.2.1
  have hPc : Pc a (A.U.calling g mk a) := hblind _ _ _ _ hp.2.2
  obtain ⟨U, Ls, c0, s0⟩ := A
  dsimp only [Pt.U, Pt.locs, Pt.cells, Pt.slots] at h1 h2 h3 h4 h5 X hn hPc ⊢
  obtain ⟨m9, methY, cY, hn9, hmY, hcY, -, hlY, -⟩ := Cond.codeWith_spec h2
  cases Option.some.inj (hn9.symm.trans hn)
  obtain ⟨kY, hkY, -⟩ := className_of_methodNamed hn
  have hinitY : kY.init = .initialized := Cond.initialized_spec (findClass_of_methodNamed hn) hkY h3
  have h : At U g.method c below := by rw [hg]; exact X.here
  have hlocals9 : W9 + (maxL + 11) + (headSpec ws rm).room.locals ≤ R.locals := hlocals
  have happ : (headSpec ws rm).appliesLoose y e.platform (U.calling g mk a) = true :=
    Spec.appliesLoose_calling (g := g) h hdg hn hkY hinitY
      (X.room_calling (g := g) (R' := (headSpec ws rm).room) hsize hmY hcY hframes (by rw [hlY]; omega) h4 h5) h1
  obtain ⟨mid, hmid⟩ := h.above
  have hfr : (U.setTop g).frames = (.java g :: mid) ++ below := by rw [State.frames_setTop' g h.top, hmid]; rfl
  obtain ⟨o, s₂, hsteps, -, hend, hq⟩ := Steps.callFree hM p X.admits X.cas X.clock (acts := []) hfr happ hPc trivial
  have hq' : vx_Q Qc XC mc ms free a (U.calling g mk a) o s₂ := hq
  rw [State.frames_setTop' g h.top] at hend
  obtain ⟨g₀, hg0⟩ := Option.isSome_iff_exists.mp h.top
  obtain ⟨r, hr⟩ := State.topJava?_eq_some.mp hg0
  have hr' : (({ U with heap := s₂.heap, slotsUsed := s₂.slotsUsed } : State).setVm s₂.vm).frames = .java g₀ :: r := hr
  rcases hq' with ⟨hqc, L, hfe, hL⟩ | ⟨q, rfl, E, ce, L, hx, hce, hcv, hcl, hW₂, hsm, hL⟩
  · obtain ⟨⟨v, rfl⟩, hW₂, e2, q2, q3, q4, q5, q6⟩ := id hfe
    have e3 : s₂ = ({ (U.calling g mk a).setFrames s₂.frames with heap := s₂.heap, slotsUsed := s₂.slotsUsed } : State).setVm s₂.vm := by
      have : s₂ = ({ s₂ with vm := (U.calling g mk a).vm } : State).setVm s₂.vm := rfl
      rw [e2] at this
      exact this
    obtain ⟨c₂, i₂, len₂, hc₂, hd₂, hf₂⟩ := hend
    have hW' : U.WarmedH s₂.vm := hW₂
    have hcc : c₂ = c := by
      have h1 : s₂.code? g.method = U.code? g.method := by
        rw [State.code?_eq, State.code?_eq, hW'.alike.method?]
      exact Option.some.inj (hc₂.symm.trans (h1.trans h.code))
    subst hcc
    have hlen : len₂ = len := by rw [hdg] at hd₂; cases hd₂; rfl
    subst hlen
    have hs₂ : s₂ = (({ U with heap := s₂.heap, slotsUsed := s₂.slotsUsed } : State).setVm s₂.vm).setTop { g with pc := g.pc + len₂, stack := v.toList ++ g.stack } := by
      refine e3.trans ?_
      rw [hf₂, State.calling_eq h.top, State.setFrames_setFrames, State.setTop_of_frames _ hr', hr]
      rfl
    have hsame : U.sameButNew ({ U with heap := s₂.heap, slotsUsed := s₂.slotsUsed } : State) L mc ms := by
      refine ⟨?_, q2, q3, q4, q5, q6⟩
      obtain ⟨t, ht, -⟩ := State.frames_cons hr
      show ({ U with heap := s₂.heap, slotsUsed := s₂.slotsUsed } : State) = { U.setFrames U.frames with heap := s₂.heap, slotsUsed := s₂.slotsUsed }
      rw [State.setFrames_self ht]
    subst hg
    refine Or.inl ⟨v, ⟨(({ U with heap := s₂.heap, slotsUsed := s₂.slotsUsed } : State).setVm s₂.vm), Ls ++ L, c0 + mc, s0 + ms⟩,
      ⟨X.admits, X.cas, X.clock, X.frames, X.room, X.hears, X.method, X.code, (X.here.setHeapUsed s₂.heap s₂.slotsUsed).setVm hW'.alike, X.tail, State.WarmedH.trans X.warmed hW', X.limits, X.bytes, X.same.trans (hsame.setVm s.vm)⟩,
      ⟨g, mk, s₂, L, rfl, rfl, hqc, rfl, hL, rfl, rfl⟩, ?_⟩
    show Steps p.tables e below _ ((({ U with heap := s₂.heap, slotsUsed := s₂.slotsUsed } : State).setVm s₂.vm).setTop { g with pc := g.pc + len₂, stack := v.toList ++ g.stack })
    rw [← hs₂]
    exact hsteps
  · obtain ⟨e2, q2, q3, q4, q5, q6⟩ := id hsm
    have e3 : s₂ = ({ (U.calling g mk a).setFrames s₂.frames with heap := s₂.heap, slotsUsed := s₂.slotsUsed } : State).setVm s₂.vm := by
      have : s₂ = ({ s₂ with vm := (U.calling g mk a).vm } : State).setVm s₂.vm := rfl
      rw [e2] at this
      exact this
    have hf₂ : s₂.frames = .throwing q :: .java g :: U.frames.tail := hend
    have hW' : U.WarmedH s₂.vm := hW₂
    have hs₂ : s₂ = ((({ U with heap := s₂.heap, slotsUsed := s₂.slotsUsed } : State).setVm s₂.vm).setTop g).pushFrame (.throwing q) := by
      refine e3.trans ?_
      rw [hf₂, State.calling_eq h.top, State.setFrames_setFrames, State.pushFrame, State.frames_setTop _ hr', State.setTop_of_frames _ hr', State.setFrames_setFrames, hr]
      rfl
    have hsame : U.sameButNew ({ U with heap := s₂.heap, slotsUsed := s₂.slotsUsed } : State) L mc ms := by
      refine ⟨?_, q2, q3, q4, q5, q6⟩
      obtain ⟨t, ht, -⟩ := State.frames_cons hr
      show ({ U with heap := s₂.heap, slotsUsed := s₂.slotsUsed } : State) = { U.setFrames U.frames with heap := s₂.heap, slotsUsed := s₂.slotsUsed }
      rw [State.setFrames_self ht]
    subst hg
    refine Or.inr ⟨q, ⟨(({ U with heap := s₂.heap, slotsUsed := s₂.slotsUsed } : State).setVm s₂.vm), Ls ++ L, c0 + mc, s0 + ms⟩,
      ⟨X.admits, X.cas, X.clock, X.frames, X.room, X.hears, X.method, X.code, (X.here.setHeapUsed s₂.heap s₂.slotsUsed).setVm hW'.alike, X.tail, State.WarmedH.trans X.warmed hW', X.limits, X.bytes, X.same.trans (hsame.setVm s.vm)⟩,
      ⟨g, mk, s₂, L, E, ce, rfl, rfl, hx, hce, hcv, hcl, rfl, hL, rfl, rfl⟩, ?_⟩
    show Steps p.tables e below _ (((({ U with heap := s₂.heap, slotsUsed := s₂.slotsUsed } : State).setVm s₂.vm).setTop g).pushFrame (.throwing q))
    rw [← hs₂]
    exact hsteps
end
variable {p : Program} {l : Launch} {e : Env} {R : Room} {s : State} {m : MethodId} {args : Array Value} {below : List Frame} {meth : Method} {c : Code} {T : State} {H : Heap} {locs : List Loc} {cells slots : Nat}
theorem vx_callVX (X : Stand p l e R s m args below meth c T locs cells slots) (hexec : p.tables.exec = Jvm.exec) {own C : String} {index : Nat} {y : MethodName} {bytes : ByteArray} {maxL : Nat} {ret : Option FieldType} {hh : List (Nat × Nat × Nat × Nat)}
    (hown : s.vm.findClass own = some m.cls) (hlink : (Cond.methodLink own index y).before args s = true) (hinst : (Cond.instanceMethod y).before args s = true) (hsel : (Cond.selects C y y).before args s = true)
    (hcode : (Cond.codeWith y bytes maxL ret hh).before args s = true) (hy : y.cls ≠ "java/lang/invoke/MethodHandle" ∧ y.cls ≠ "java/lang/invoke/VarHandle")
    {W9 : Nat} {Pre : Pt → Array Value → Prop} {Post : Pt → Array Value → Option Value → Pt → Prop} {PostX : Pt → Array Value → Addr → Pt → Prop} (hK : vx_Back l R p e below s args y 3 W9 Pre Post PostX)
    {b : Addr} {cellB : Cell} (hcell : T.heap[b]? = some cellB) (hobj : cellB.vm.isStatics = false) (hcls : s.vm.findClass C = some cellB.cls)
    {g : JFrame} (hg : g.method = m) (hsize : g.locals.size = c.maxLocals) {argsL rest : List Value} (hlen : ∀ sig, parseMethodDescriptor y.desc = some sig → argsL.length = sig.parameters.length)
    (hstack : g.stack = argsL.reverse ++ .ref b :: rest) (hW : 2 * g.monitorRoom + (rest.map fun v => v.category).sum ≤ W9) (hdg : decode c.code g.pc = .ok (.invokevirtual index, 3))
    (hpre : ∀ vm₁, s.WarmedH vm₁ → Pre ⟨T.setVm vm₁, locs, cells, slots⟩ (Value.ref b :: argsL).toArray) :
    (∃ (v : Option Value) (vm₁ : Vm) (B : Pt), s.WarmedH vm₁ ∧ Stand p l e R s m args below meth c B.U B.locs B.cells B.slots ∧ Post ⟨T.setVm vm₁, locs, cells, slots⟩ (Value.ref b :: argsL).toArray v B ∧
      ∀ target, Steps p.tables e below (B.U.setTop { g with pc := g.pc + 3, stack := v.toList ++ rest }) target → Steps p.tables e below (T.setTop g) target) ∨
    (∃ (q : Addr) (vm₁ : Vm) (B : Pt), s.WarmedH vm₁ ∧ Stand p l e R s m args below meth c B.U B.locs B.cells B.slots ∧ PostX ⟨T.setVm vm₁, locs, cells, slots⟩ (Value.ref b :: argsL).toArray q B ∧
      Steps p.tables e below (T.setTop g) ((B.U.setTop { g with stack := rest }).pushFrame (.throwing q))) := by
  obtain ⟨mk, methM, hnamed, hmethM, hstM, habM⟩ := Cond.instanceMethod_spec hinst
  obtain ⟨m8, methM', cM, hn8, hmethM', -, -, -, -, -, -, hsigM⟩ := Cond.codeWith_spec hcode
  cases Option.some.inj (hn8.symm.trans hnamed)
  cases hmethM.symm.trans hmethM'
  obtain ⟨c2, r2, m2, q1, q2, q3, q4, kP, hkP, hkPi⟩ := Cond.selects_spec hsel
  cases hcls.symm.trans q1
  cases (State.methodFound?_of_named hnamed hy).symm.trans q2
  cases hnamed.symm.trans q3
  have hselP : selectMethod e.platform s.vm cellB.cls mk = .method mk := by rw [Launch.admits_selectMethod X.admits]; exact q4
  obtain ⟨vm₁, X₁, hstep₁⟩ := X.invokevirtual hexec hown hlink hnamed hmethM hstM hkP hkPi hy (a := b) (cell := cellB) hcell
    (fun z h => by rw [h] at hobj; cases hobj) hselP hmethM habM hkP hkPi (g := g) hg (argsL := argsL) (rest := rest) (hlen _ hsigM) hstack hdg
  rcases hK m meth c ⟨T.setVm vm₁, locs, cells, slots⟩ { g with stack := rest } (.invokevirtual index) mk (Value.ref b :: argsL).toArray X₁ hg hsize hdg hW (X₁.named hnamed) (hpre vm₁ X₁.warmed) with ⟨v, B, X', hpost, hsteps⟩ | ⟨q, B, X', hpost, hsteps⟩
  · exact Or.inl ⟨v, vm₁, B, X₁.warmed, X', hpost, fun target h => hstep₁ _ fun acts => by rw [doInvoke_state]; exact hsteps.trans h⟩
  · exact Or.inr ⟨q, vm₁, B, X₁.warmed, X', hpost, hstep₁ _ fun acts => by rw [doInvoke_state]; exact hsteps⟩
theorem vx_callSX (X : Stand p l e R s m args below meth c T locs cells slots) (hexec : p.tables.exec = Jvm.exec) {own : String} {index : Nat} {y : MethodName} {bytes : ByteArray} {maxL : Nat} {ret : Option FieldType} {hh : List (Nat × Nat × Nat × Nat)}
    (hown : s.vm.findClass own = some m.cls) (hlink : (Cond.methodLink own index y).before args s = true) (hstat : (Cond.static y).before args s = true) (hinit : (Cond.initialized y.cls).before args s = true)
    (hcode : (Cond.codeWith y bytes maxL ret hh).before args s = true) (hy : y.cls ≠ "java/lang/invoke/MethodHandle" ∧ y.cls ≠ "java/lang/invoke/VarHandle")
    {W9 : Nat} {Pre : Pt → Array Value → Prop} {Post : Pt → Array Value → Option Value → Pt → Prop} {PostX : Pt → Array Value → Addr → Pt → Prop} (hK : vx_Back l R p e below s args y 3 W9 Pre Post PostX)
    {g : JFrame} (hg : g.method = m) (hsize : g.locals.size = c.maxLocals) {argsL rest : List Value} (hlen : ∀ sig, parseMethodDescriptor y.desc = some sig → argsL.length = sig.parameters.length)
    (hstack : g.stack = argsL.reverse ++ rest) (hW : 2 * g.monitorRoom + (rest.map fun v => v.category).sum ≤ W9) (hdg : decode c.code g.pc = .ok (.invokestatic index, 3))
    (hpre : ∀ vm₁, s.WarmedH vm₁ → Pre ⟨T.setVm vm₁, locs, cells, slots⟩ argsL.toArray) :
    (∃ (v : Option Value) (vm₁ : Vm) (B : Pt), s.WarmedH vm₁ ∧ Stand p l e R s m args below meth c B.U B.locs B.cells B.slots ∧ Post ⟨T.setVm vm₁, locs, cells, slots⟩ argsL.toArray v B ∧
      ∀ target, Steps p.tables e below (B.U.setTop { g with pc := g.pc + 3, stack := v.toList ++ rest }) target → Steps p.tables e below (T.setTop g) target) ∨
    (∃ (q : Addr) (vm₁ : Vm) (B : Pt), s.WarmedH vm₁ ∧ Stand p l e R s m args below meth c B.U B.locs B.cells B.slots ∧ PostX ⟨T.setVm vm₁, locs, cells, slots⟩ argsL.toArray q B ∧
      Steps p.tables e below (T.setTop g) ((B.U.setTop { g with stack := rest }).pushFrame (.throwing q))) := by
  obtain ⟨mk, methM, cM, hnamed, hmethM, -, -, -, -, -, -, hsigM⟩ := Cond.codeWith_spec hcode
  have hstatic : methM.isStatic = true := Cond.static_spec hnamed hmethM hstat
  obtain ⟨kP, hkP, -⟩ := className_of_methodNamed hnamed
  have hinitP : kP.init = .initialized := Cond.initialized_spec (findClass_of_methodNamed hnamed) hkP hinit
  obtain ⟨vm₁, X₁, hstep₁⟩ := X.invokestatic hexec hown hlink hnamed hmethM hstatic hkP hinitP hy (g := g) hg (argsL := argsL) (rest := rest) (hlen _ hsigM) hstack hdg
  rcases hK m meth c ⟨T.setVm vm₁, locs, cells, slots⟩ { g with stack := rest } (.invokestatic index) mk argsL.toArray X₁ hg hsize hdg hW (X₁.named hnamed) (hpre vm₁ X₁.warmed) with ⟨v, B, X', hpost, hsteps⟩ | ⟨q, B, X', hpost, hsteps⟩
  · exact Or.inl ⟨v, vm₁, B, X₁.warmed, X', hpost, fun target h => hstep₁ _ fun acts => by rw [doInvoke_state]; exact hsteps.trans h⟩
  · exact Or.inr ⟨q, vm₁, B, X₁.warmed, X', hpost, hstep₁ _ fun acts => by rw [doInvoke_state]; exact hsteps⟩
theorem vx_callVW (X : Stand p l e R s m args below meth c T locs cells slots) (hexec : p.tables.exec = Jvm.exec) {own C : String} {index : Nat} {y : MethodName} {bytes : ByteArray} {maxL : Nat} {ret : Option FieldType} {hh : List (Nat × Nat × Nat × Nat)}
    (hown : s.vm.findClass own = some m.cls) (hlink : (Cond.methodLink own index y).before args s = true) (hinst : (Cond.instanceMethod y).before args s = true) (hsel : (Cond.selects C y y).before args s = true)
    (hcode : (Cond.codeWith y bytes maxL ret hh).before args s = true) (hy : y.cls ≠ "java/lang/invoke/MethodHandle" ∧ y.cls ≠ "java/lang/invoke/VarHandle")
    {W9 : Nat} {Pre : Pt → Array Value → Prop} {Post : Pt → Array Value → Option Value → Pt → Prop} (hK : Back l R p e below s args y 3 W9 Pre Post)
    {b : Addr} {cellB : Cell} (hcell : T.heap[b]? = some cellB) (hobj : cellB.vm.isStatics = false) (hcls : s.vm.findClass C = some cellB.cls)
    {g : JFrame} (hg : g.method = m) (hsize : g.locals.size = c.maxLocals) {argsL rest : List Value} (hlen : ∀ sig, parseMethodDescriptor y.desc = some sig → argsL.length = sig.parameters.length)
    (hstack : g.stack = argsL.reverse ++ .ref b :: rest) (hW : 2 * g.monitorRoom + (rest.map fun v => v.category).sum ≤ W9) (hdg : decode c.code g.pc = .ok (.invokevirtual index, 3))
    (hpre : ∀ vm₁, s.WarmedH vm₁ → Pre ⟨T.setVm vm₁, locs, cells, slots⟩ (Value.ref b :: argsL).toArray) :
    ∃ (v : Option Value) (vm₁ : Vm) (B : Pt), s.WarmedH vm₁ ∧ Stand p l e R s m args below meth c B.U B.locs B.cells B.slots ∧ Post ⟨T.setVm vm₁, locs, cells, slots⟩ (Value.ref b :: argsL).toArray v B ∧
      ∀ target, Steps p.tables e below (B.U.setTop { g with pc := g.pc + 3, stack := v.toList ++ rest }) target → Steps p.tables e below (T.setTop g) target := by
  obtain ⟨mk, methM, hnamed, hmethM, hstM, habM⟩ := Cond.instanceMethod_spec hinst
  obtain ⟨m8, methM', cM, hn8, hmethM', -, -, -, -, -, -, hsigM⟩ := Cond.codeWith_spec hcode
  cases Option.some.inj (hn8.symm.trans hnamed)
  cases hmethM.symm.trans hmethM'
  obtain ⟨c2, r2, m2, q1, q2, q3, q4, kP, hkP, hkPi⟩ := Cond.selects_spec hsel
  cases hcls.symm.trans q1
  cases (State.methodFound?_of_named hnamed hy).symm.trans q2
  cases hnamed.symm.trans q3
  have hselP : selectMethod e.platform s.vm cellB.cls mk = .method mk := by rw [Launch.admits_selectMethod X.admits]; exact q4
  obtain ⟨vm₁, X₁, hstep₁⟩ := X.invokevirtual hexec hown hlink hnamed hmethM hstM hkP hkPi hy (a := b) (cell := cellB) hcell
    (fun z h => by rw [h] at hobj; cases hobj) hselP hmethM habM hkP hkPi (g := g) hg (argsL := argsL) (rest := rest) (hlen _ hsigM) hstack hdg
  obtain ⟨v, B, X', hpost, hsteps⟩ := hK m meth c ⟨T.setVm vm₁, locs, cells, slots⟩ { g with stack := rest } (.invokevirtual index) mk (Value.ref b :: argsL).toArray X₁ hg hsize hdg hW (X₁.named hnamed) (hpre vm₁ X₁.warmed)
  exact ⟨v, vm₁, B, X₁.warmed, X', hpost, fun target h => hstep₁ _ fun acts => by rw [doInvoke_state]; exact hsteps.trans h⟩
abbrev vx_CVW (R : Room) (s : State) (args : Array Value) (own C : String) (index : Nat) (y : MethodName) (bytes : ByteArray) (maxL : Nat) (ret : Option FieldType) (hh : List (Nat × Nat × Nat × Nat)) (ws : List Cond) (rm : Room) (mc ms n : Nat) : Prop :=
  (rm.cells = mc ∧ rm.slots = ms ∧ rm.frames + 1 ≤ R.frames ∧ 8 + (maxL + 11) + rm.locals ≤ R.locals ∧ (∀ w ∈ ws, ∀ (a' : Array Value) (U : State), s.WarmedH U.vm → w.before a' U = true) ∧ Cond.codeWith y bytes maxL ret hh ∈ ws) ∧
  (Cond.codeWith y bytes maxL ret hh).before args s = true ∧ (Cond.initialized y.cls).before args s = true ∧ (y.cls ≠ "java/lang/invoke/MethodHandle" ∧ y.cls ≠ "java/lang/invoke/VarHandle") ∧
  (∀ sig, parseMethodDescriptor y.desc = some sig → n = sig.parameters.length) ∧ (Cond.methodLink own index y).before args s = true ∧ (Cond.instanceMethod y).before args s = true ∧ (Cond.selects C y y).before args s = true
theorem vx_cwVW {own C : String} {index maxL mc ms : Nat} {y : MethodName} {bytes : ByteArray} {ret : Option FieldType} {hh : List (Nat × Nat × Nat × Nat)} {Ts ws ws' : List Cond} {rm : Room} (n : Nat) (ht : ∀ w ∈ Ts, w.before args s = true) (hT : GoodIn Ts (wsV own index C y ws)) (hw : ws = Cond.codeWith y bytes maxL ret hh :: ws') (hrc : rm.cells = mc) (hrs : rm.slots = ms)
    (hd : y.cls = C ∧ y.cls ≠ "java/lang/invoke/MethodHandle" ∧ y.cls ≠ "java/lang/invoke/VarHandle" ∧ (parseMethodDescriptor y.desc).map (fun d => d.parameters.length) = some n) (hR : rm.frames + 1 ≤ R.frames ∧ 8 + (maxL + 11) + rm.locals ≤ R.locals) :
    vx_CVW R s args own C index y bytes maxL ret hh ws rm mc ms n := by
  obtain ⟨hC, hd⟩ := hd
  subst hC
  have ok : ∀ w ∈ wsV own index y.cls y ws, w.before args s = true := fun w h => ht w (hT w h).1
  have hG : GoodIn Ts ws := fun w h => hT w (by unfold wsV; exact List.mem_append_right _ h)
  have hc : Cond.codeWith y bytes maxL ret hh ∈ ws := by rw [hw]; exact List.mem_cons_self
  refine ⟨⟨hrc, hrs, hR.1, hR.2, pay_in ht hG, hc⟩, ht _ (hG _ hc).1, ok _ (by simp [wsV]), ⟨hd.1, hd.2.1⟩, fun sig h => ?_, ok _ (by simp [wsV]), ok _ (by simp [wsV]), ok _ (by simp [wsV])⟩
  have h2 := hd.2.2
  rw [h] at h2
  exact (Option.some.inj h2).symm
theorem vx_runVW {y : MethodName} {bytes cc : ByteArray} {maxL nL mc ms n index : Nat} {ret : Option FieldType} {hh : List (Nat × Nat × Nat × Nat)} {ws : List Cond} {rm : Room} {Pc : Array Value → State → Prop} {Qc : Array Value → State → Outcome → State → Prop} {free : Addr → Prop} {Ts : List Cond} {own C : String} {b : Addr} {As rest : List Value} {g : JFrame}
    (S : CallFix p m c cc nL s args Ts own) (hM : Met l y ws rm Pc Qc mc ms free) (cw : vx_CVW R s args own C index y bytes maxL ret hh ws rm mc ms n) (hp : PreV s H C b Pc As)
    (hg : g.method = m) (hn : As.length = n) (hsize : g.locals.size = nL) (hstack : g.stack = As.reverse ++ .ref b :: rest) (hW : 2 * g.monitorRoom + (rest.map fun v => v.category).sum ≤ 8) (hdg : decode cc g.pc = .ok (.invokevirtual index, 3)) (hf : cells + mc ≤ R.cells ∧ slots + ms ≤ R.slots) :
    va_Run p l e R s m args below meth c H locs cells slots mc ms g rest (Qc (Value.ref b :: As).toArray) free := by
  obtain ⟨⟨hrc, hrs, hfr, hlo, hws, hcw⟩, hcode, hini, hy, hlen, hl, hin, hse⟩ := cw
  have hK : Back l R p e below s args y 3 8 (PreOf R mc ms Pc) (PostOf Qc mc ms free) := va_backW (hh := hh) (bytes := bytes) (maxL := maxL) (ret := ret) hM hp.1 hrc hrs hfr hlo hws hcw (fun a' U hW => word_at hW (Or.inl (by first | rfl | simp [Cond.onTables, Cond.keeps, Cond.steady])) hini)
  obtain ⟨hx, hb, hml, ho, -⟩ := S
  obtain ⟨-, ⟨cellB, hcB, hoB, hclB⟩, hPc⟩ := hp
  intro T hT X
  obtain ⟨v, vm₁, ⟨U', l2, c2, s2⟩, hW₁, X', ⟨g', mk, t, L, e1, e2, hq, h1, hL, h2, h3⟩, st⟩ := vx_callVW X hx (C := C) (hh := hh) (bytes := bytes) (maxL := maxL) (ret := ret) ho hl hin hse hcode hy hK (by rw [hT]; exact hcB) hoB hclB hg (hsize.trans hml.symm) (argsL := As) (rest := rest) (fun sig h => hn.trans (hlen sig h)) hstack hW (by rw [hb]; exact hdg)
    (fun vm₁ hW₁ => ⟨hf.1, hf.2, hPc (T.setVm vm₁) hT hW₁⟩)
  dsimp only [Pt.U, Pt.locs, Pt.cells, Pt.slots] at X' e1 e2 h1 h2 h3 st
  subst h1; subst h2; subst h3
  exact ⟨v, (T.setVm vm₁).calling g' mk (Value.ref b :: As).toArray, t, U', L, hT, X', hL, e1, e2, hq, st⟩
section
variable {y : MethodName} {bytes cc : ByteArray} {maxL nL mc ms n index : Nat} {ret : Option FieldType} {ws : List Cond} {rm : Room} {Pc : Array Value → State → Prop} {Qc : Array Value → State → Outcome → State → Prop} {XC : String → State → State → Prop} {free : Addr → Prop} {Ts : List Cond} {own C : String} {b : Addr} {As rest : List Value} {g : JFrame}
theorem vx_runVX {hh : List (Nat × Nat × Nat × Nat)} (S : CallFix p m c cc nL s args Ts own) (hM : vx_Met l y ws rm Pc Qc XC mc ms free) (cw : vx_CVW R s args own C index y bytes maxL ret hh ws rm mc ms n) (hp : PreV s H C b Pc As)
    (hg : g.method = m) (hn : As.length = n) (hsize : g.locals.size = nL) (hstack : g.stack = As.reverse ++ .ref b :: rest) (hW : 2 * g.monitorRoom + (rest.map fun v => v.category).sum ≤ 8) (hdg : decode cc g.pc = .ok (.invokevirtual index, 3)) (hf : cells + mc ≤ R.cells ∧ slots + ms ≤ R.slots) :
    vx_Run p l e R s m args below meth c H locs cells slots mc ms g rest (Qc (Value.ref b :: As).toArray) XC free := by
  obtain ⟨⟨hrc, hrs, hfr, hlo, hws, hcw⟩, hcode, hini, hy, hlen, hl, hin, hse⟩ := cw
  have hK : vx_Back l R p e below s args y 3 8 (PreOf R mc ms Pc) (PostOf Qc mc ms free) (vx_Post XC mc ms free) := vx_backW (hh := hh) (bytes := bytes) (maxL := maxL) (ret := ret) hM hp.1 hrc hrs hfr hlo hws hcw (fun a' U hW => word_at hW (Or.inl (by first | rfl | simp [Cond.onTables, Cond.keeps, Cond.steady])) hini)
  obtain ⟨hx, hb, hml, ho, -⟩ := S
  obtain ⟨-, ⟨cellB, hcB, hoB, hclB⟩, hPc⟩ := hp
  intro T hT X
  rcases vx_callVX X hx (C := C) (hh := hh) (bytes := bytes) (maxL := maxL) (ret := ret) ho hl hin hse hcode hy hK (by rw [hT]; exact hcB) hoB hclB hg (hsize.trans hml.symm) (argsL := As) (rest := rest) (fun sig h => hn.trans (hlen sig h)) hstack hW (by rw [hb]; exact hdg)
    (fun vm₁ hW₁ => ⟨hf.1, hf.2, hPc (T.setVm vm₁) hT hW₁⟩) with ⟨v, vm₁, ⟨U', l2, c2, s2⟩, hW₁, X', ⟨g', mk, t, L, e1, e2, hq, h1, hL, h2, h3⟩, st⟩ | ⟨q, vm₁, ⟨U', l2, c2, s2⟩, hW₁, X', ⟨g', mk, t, L, E, ce, e1, e2, hq, hce, hcv, hcl, h1, hL, h2, h3⟩, st⟩
  · dsimp only [Pt.U, Pt.locs, Pt.cells, Pt.slots] at X' e1 e2 h1 h2 h3 st
    subst h1; subst h2; subst h3
    exact Or.inl ⟨v, (T.setVm vm₁).calling g' mk (Value.ref b :: As).toArray, t, U', L, hT, X', hL, e1, e2, hq, st⟩
  · dsimp only [Pt.U, Pt.locs, Pt.cells, Pt.slots] at X' e1 e2 h1 h2 h3 st hcl
    subst h1; subst h2; subst h3
    exact Or.inr ⟨q, (T.setVm vm₁).calling g' mk (Value.ref b :: As).toArray, t, U', L, E, ce, hT, X', hL, e1, e2, hq, hce, hcv, vx_cls hW₁ hcl, st⟩
theorem vx_runSX {hh : List (Nat × Nat × Nat × Nat)} (S : CallFix p m c cc nL s args Ts own) (hM : vx_Met l y ws rm Pc Qc XC mc ms free) (cw : vx_CSW R s args own index y bytes maxL ret hh ws rm mc ms n) (hp : PreS s H Pc As)
    (hg : g.method = m) (hn : As.length = n) (hsize : g.locals.size = nL) (hstack : g.stack = As.reverse ++ rest) (hW : 2 * g.monitorRoom + (rest.map fun v => v.category).sum ≤ 8) (hdg : decode cc g.pc = .ok (.invokestatic index, 3)) (hf : cells + mc ≤ R.cells ∧ slots + ms ≤ R.slots) :
    vx_Run p l e R s m args below meth c H locs cells slots mc ms g rest (Qc As.toArray) XC free := by
  obtain ⟨⟨hrc, hrs, hfr, hlo, hws, hcw⟩, hcode, hini, hy, hlen, hl, hstt⟩ := cw
  have hK : vx_Back l R p e below s args y 3 8 (PreOf R mc ms Pc) (PostOf Qc mc ms free) (vx_Post XC mc ms free) := vx_backW (hh := hh) (bytes := bytes) (maxL := maxL) (ret := ret) hM hp.1 hrc hrs hfr hlo hws hcw (fun a' U hW => word_at hW (Or.inl (by first | rfl | simp [Cond.onTables, Cond.keeps, Cond.steady])) hini)
  obtain ⟨hx, hb, hml, ho, -⟩ := S
  intro T hT X
  rcases vx_callSX X hx (hh := hh) (bytes := bytes) (maxL := maxL) (ret := ret) ho hl hstt hini hcode hy hK hg (hsize.trans hml.symm) (argsL := As) (rest := rest) (fun sig h => hn.trans (hlen sig h)) hstack hW (by rw [hb]; exact hdg)
    (fun vm₁ hW₁ => ⟨hf.1, hf.2, hp.2 (T.setVm vm₁) hT hW₁⟩) with ⟨v, vm₁, ⟨U', l2, c2, s2⟩, hW₁, X', ⟨g', mk, t, L, e1, e2, hq, h1, hL, h2, h3⟩, st⟩ | ⟨q, vm₁, ⟨U', l2, c2, s2⟩, hW₁, X', ⟨g', mk, t, L, E, ce, e1, e2, hq, hce, hcv, hcl, h1, hL, h2, h3⟩, st⟩
  · dsimp only [Pt.U, Pt.locs, Pt.cells, Pt.slots] at X' e1 e2 h1 h2 h3 st
    subst h1; subst h2; subst h3
    exact Or.inl ⟨v, (T.setVm vm₁).calling g' mk As.toArray, t, U', L, hT, X', hL, e1, e2, hq, st⟩
  · dsimp only [Pt.U, Pt.locs, Pt.cells, Pt.slots] at X' e1 e2 h1 h2 h3 st hcl
    subst h1; subst h2; subst h3
    exact Or.inr ⟨q, (T.setVm vm₁).calling g' mk As.toArray, t, U', L, E, ce, hT, X', hL, e1, e2, hq, hce, hcv, vx_cls hW₁ hcl, st⟩
end
end VXH
theorem vx_ofWH {l : Launch} {y : MethodName} {ws ws' : List Cond} {rm : Room} {Pc : Array Value → State → Prop} {Qc : Array Value → State → Outcome → State → Prop} {XC : String → State → State → Prop} {mc ms : Nat} {free : Addr → Prop} {cc : ByteArray} {maxL : Nat} {ret : Option FieldType} {hh : List (Nat × Nat × Nat × Nat)}
    (hy : plainName y.cls = true) (hw : ws = Cond.codeWith y cc maxL ret hh :: ws')
    (body : ∀ p e s m args below meth c s₁, BodyLoose p l y (headSpec ws rm) cc maxL ret e s m args below meth c s₁ → c.maxLocals = maxL → Pc args s →
      W p l e (headSpec ws rm).room s m args below meth c s.heap [] 0 0 (vx_MQ below Qc XC args s mc ms free) (entryFrame m args maxL)) : vx_Met l y ws rm Pc Qc XC mc ms free := by
  refine MetFree.of_bodyS (code := cc) (maxLocals := maxL) (ret := ret) hy ?_ ?_
  · intro args s m h hn
    obtain ⟨m9, meth, c, hn9, h1, h2, h3, h4, -, h5, h6, -⟩ := Cond.codeWith_spec (atoms_spec (ws := ws) h _ (by rw [hw]; exact List.mem_cons_self))
    cases hn.symm.trans hn9
    exact ⟨meth, c, h1, h2, h3, h4, h5, h6⟩
  · intro p e s m args below meth c s₁ B hml hP _
    have hh0 : s₁.heap = s.heap := by rw [B.state]; rfl
    obtain ⟨t, a1, o, b1, b2, b3⟩ := body p e s m args below meth c s₁ B hml hP s₁ hh0 (Stand.of_body B)
    exact ⟨t, o, a1, b1, b2, b3⟩
/-! ===== END ===== -/
end
section
/-! ## Names: written by program (wip/gen/names.py) out of the listing and the tables -/
def bw : List Cond := lw_tbl.filter goodWord
theorem bw_in {w : Cond} (h : w ∈ bw) : w ∈ lw_tbl := (List.mem_filter.mp h).1
theorem bw_good : GoodIn bw bw := fun w h => ⟨h, good_of_word (List.mem_filter.mp h).2⟩
theorem bw_of {w : Cond} (i : Nat) (h : lw_tbl[i]? = some w) (g : goodWord w = true) : w ∈ bw := List.mem_filter.mpr ⟨List.mem_of_getElem? h, g⟩
def RD : String := "PlaceDesk"
def FD : u_T := fun k => match k with
  | 0 => ("PlaceDesk", "values", "[J", true)
  | 1 => ("PlaceDesk", "kinds", "[I", true)
  | 2 => ("PlaceDesk", "elementCount", "I", false)
  | 3 => ("PlaceDesk", "things", "[LPlaceDesk$Thing;", true)
  | 4 => ("PlaceDesk", "thingCount", "I", false)
  | 5 => ("PlaceDesk", "waiting", "[I", true)
  | 6 => ("PlaceDesk", "waitingCount", "I", false)
  | 7 => ("PlaceDesk", "spots", "[LPlaceDesk$Spot;", true)
  | 8 => ("PlaceDesk", "spotCount", "I", false)
  | 9 => ("PlaceDesk", "snapshots", "[LPlaceDesk$Snapshot;", true)
  | _ => ("PlaceDesk", "snapshotCount", "I", false)
def tyD : Nat → FieldType := fun k => match k with
  | 0 => .array .long
  | 1 => .array .int
  | 2 => .int
  | 3 => .array (.object "PlaceDesk$Thing")
  | 4 => .int
  | 5 => .array .int
  | 6 => .int
  | 7 => .array (.object "PlaceDesk$Spot")
  | 8 => .int
  | 9 => .array (.object "PlaceDesk$Snapshot")
  | _ => .int
def RN : String := "PlaceDesk$Snapshot"
def FN : u_T := fun k => match k with
  | 0 => ("PlaceDesk$Snapshot", "remembered", "[J", true)
  | _ => ("PlaceDesk$Snapshot", "count", "I", false)
def tyN : Nat → FieldType := fun k => match k with
  | 0 => .array .long
  | _ => .int
def RS : String := "PlaceDesk$Spot"
def FS : u_T := fun k => match k with
  | 0 => ("PlaceDesk$Spot", "kind", "I", true)
  | 1 => ("PlaceDesk$Spot", "first", "I", true)
  | 2 => ("PlaceDesk$Spot", "width", "I", true)
  | _ => ("PlaceDesk$Spot", "little", "Z", true)
def tyS : Nat → FieldType := fun k => match k with
  | 0 => .int
  | 1 => .int
  | 2 => .int
  | _ => .boolean
def RT : String := "PlaceDesk$Thing"
def FT : u_T := fun k => match k with
  | 0 => ("PlaceDesk$Thing", "kind", "I", true)
  | 1 => ("PlaceDesk$Thing", "first", "I", true)
  | _ => ("PlaceDesk$Thing", "size", "I", true)
def tyT : Nat → FieldType := fun k => match k with
  | 0 => .int
  | 1 => .int
  | _ => .int
def RM : String := "PlaceDeskModel"
def FM : u_T := fun k => match k with
  | 0 => ("PlaceDeskModel", "element", "[J", true)
  | 1 => ("PlaceDeskModel", "elementKind", "[I", true)
  | 2 => ("PlaceDeskModel", "elements", "I", false)
  | 3 => ("PlaceDeskModel", "begins", "[I", true)
  | 4 => ("PlaceDeskModel", "sizes", "[I", true)
  | 5 => ("PlaceDeskModel", "kind", "[I", true)
  | 6 => ("PlaceDeskModel", "objects", "I", false)
  | 7 => ("PlaceDeskModel", "row", "[I", true)
  | 8 => ("PlaceDeskModel", "rowSize", "I", false)
  | 9 => ("PlaceDeskModel", "placeAt", "[I", true)
  | 10 => ("PlaceDeskModel", "placeKind", "[I", true)
  | 11 => ("PlaceDeskModel", "width", "[I", true)
  | 12 => ("PlaceDeskModel", "low", "[Z", true)
  | 13 => ("PlaceDeskModel", "places", "I", false)
  | 14 => ("PlaceDeskModel", "kept", "[J", true)
  | 15 => ("PlaceDeskModel", "keptSize", "[I", true)
  | 16 => ("PlaceDeskModel", "marks", "I", false)
  | _ => ("PlaceDeskModel", "thrown", "I", false)
def tyM : Nat → FieldType := fun k => match k with
  | 0 => .array .long
  | 1 => .array .int
  | 2 => .int
  | 3 => .array .int
  | 4 => .array .int
  | 5 => .array .int
  | 6 => .int
  | 7 => .array .int
  | 8 => .int
  | 9 => .array .int
  | 10 => .array .int
  | 11 => .array .int
  | 12 => .array .boolean
  | 13 => .int
  | 14 => .array .long
  | 15 => .array .int
  | 16 => .int
  | _ => .int
def RL : String := "PlaceDeskLaw"
abbrev cls5 : List vw_C := [(RD, FD, 11), (RT, FT, 3), (RS, FS, 4), (RN, FN, 2), (RM, FM, 18)]
abbrev cD_init : ByteArray := prog_1_method_1_code
abbrev yD_init : MethodName := ⟨RD, "<init>", "()V"⟩
abbrev cD_row : ByteArray := prog_1_method_2_code
abbrev yD_row : MethodName := ⟨RD, "row", "(II)I"⟩
abbrev cD_put : ByteArray := prog_1_method_3_code
abbrev yD_put : MethodName := ⟨RD, "put", "(I)Z"⟩
abbrev cD_instance : ByteArray := prog_1_method_4_code
abbrev yD_instance : MethodName := ⟨RD, "instance", "()I"⟩
abbrev cD_object : ByteArray := prog_1_method_5_code
abbrev yD_object : MethodName := ⟨RD, "object", "(II)I"⟩
abbrev cD_place : ByteArray := prog_1_method_6_code
abbrev yD_place : MethodName := ⟨RD, "place", "(II)I"⟩
abbrev cD_view : ByteArray := prog_1_method_7_code
abbrev yD_view : MethodName := ⟨RD, "view", "(IIIZ)I"⟩
abbrev cD_kindOf : ByteArray := prog_1_method_8_code
abbrev yD_kindOf : MethodName := ⟨RD, "kindOf", "(I)I"⟩
abbrev cD_act : ByteArray := prog_1_method_9_code
abbrev yD_act : MethodName := ⟨RD, "act", "(IIJJ)J"⟩
abbrev cD_copy : ByteArray := prog_1_method_10_code
abbrev yD_copy : MethodName := ⟨RD, "copy", "(IIIII)Z"⟩
abbrev cD_meet : ByteArray := prog_1_method_11_code
abbrev yD_meet : MethodName := ⟨RD, "meet", "(II)Z"⟩
abbrev cD_mark : ByteArray := prog_1_method_12_code
abbrev yD_mark : MethodName := ⟨RD, "mark", "()I"⟩
abbrev cD_back : ByteArray := prog_1_method_13_code
abbrev yD_back : MethodName := ⟨RD, "back", "(I)I"⟩
abbrev cD_changed : ByteArray := prog_1_method_14_code
abbrev yD_changed : MethodName := ⟨RD, "changed", "(I)I"⟩
abbrev cD_isKind : ByteArray := prog_1_method_15_code
abbrev yD_isKind : MethodName := ⟨RD, "isKind", "(I)Z"⟩
abbrev cD_widthOfView : ByteArray := prog_1_method_16_code
abbrev yD_widthOfView : MethodName := ⟨RD, "widthOfView", "(I)I"⟩
abbrev cD_isActOf : ByteArray := prog_1_method_17_code
abbrev yD_isActOf : MethodName := ⟨RD, "isActOf", "(II)Z"⟩
abbrev cD_isValue : ByteArray := prog_1_method_18_code
abbrev yD_isValue : MethodName := ⟨RD, "isValue", "(IJ)Z"⟩
abbrev cD_lowestBits : ByteArray := prog_1_method_19_code
abbrev yD_lowestBits : MethodName := ⟨RD, "lowestBits", "(IJ)J"⟩
abbrev cD_hasRoomFor : ByteArray := prog_1_method_20_code
abbrev yD_hasRoomFor : MethodName := ⟨RD, "hasRoomFor", "(I)Z"⟩
abbrev cD_addThing : ByteArray := prog_1_method_21_code
abbrev yD_addThing : MethodName := ⟨RD, "addThing", "(II)I"⟩
abbrev cD_addSpot : ByteArray := prog_1_method_22_code
abbrev yD_addSpot : MethodName := ⟨RD, "addSpot", "(IIIZ)I"⟩
abbrev cD_findThing : ByteArray := prog_1_method_23_code
abbrev yD_findThing : MethodName := ⟨RD, "findThing", "(I)LPlaceDesk$Thing;"⟩
abbrev cD_findSpot : ByteArray := prog_1_method_24_code
abbrev yD_findSpot : MethodName := ⟨RD, "findSpot", "(I)LPlaceDesk$Spot;"⟩
abbrev cD_findSnapshot : ByteArray := prog_1_method_25_code
abbrev yD_findSnapshot : MethodName := ⟨RD, "findSnapshot", "(I)LPlaceDesk$Snapshot;"⟩
abbrev cD_perform : ByteArray := prog_1_method_26_code
abbrev yD_perform : MethodName := ⟨RD, "perform", "(LPlaceDesk$Spot;IJJ)J"⟩
abbrev cD_read : ByteArray := prog_1_method_27_code
abbrev yD_read : MethodName := ⟨RD, "read", "(LPlaceDesk$Spot;)J"⟩
abbrev cD_write : ByteArray := prog_1_method_28_code
abbrev yD_write : MethodName := ⟨RD, "write", "(LPlaceDesk$Spot;J)V"⟩
abbrev cM_init : ByteArray := prog_6_method_1_code
abbrev yM_init : MethodName := ⟨RM, "<init>", "()V"⟩
abbrev cM_thrown : ByteArray := prog_6_method_2_code
abbrev yM_thrown : MethodName := ⟨RM, "thrown", "()I"⟩
abbrev cM_isKind : ByteArray := prog_6_method_3_code
abbrev yM_isKind : MethodName := ⟨RM, "isKind", "(I)Z"⟩
abbrev cM_newObject : ByteArray := prog_6_method_4_code
abbrev yM_newObject : MethodName := ⟨RM, "newObject", "(II)I"⟩
abbrev cM_row : ByteArray := prog_6_method_5_code
abbrev yM_row : MethodName := ⟨RM, "row", "(II)I"⟩
abbrev cM_put : ByteArray := prog_6_method_6_code
abbrev yM_put : MethodName := ⟨RM, "put", "(I)Z"⟩
abbrev cM_instance : ByteArray := prog_6_method_7_code
abbrev yM_instance : MethodName := ⟨RM, "instance", "()I"⟩
abbrev cM_isObject : ByteArray := prog_6_method_8_code
abbrev yM_isObject : MethodName := ⟨RM, "isObject", "(I)Z"⟩
abbrev cM_object : ByteArray := prog_6_method_9_code
abbrev yM_object : MethodName := ⟨RM, "object", "(II)I"⟩
abbrev cM_newPlace : ByteArray := prog_6_method_10_code
abbrev yM_newPlace : MethodName := ⟨RM, "newPlace", "(IIIZ)I"⟩
abbrev cM_place : ByteArray := prog_6_method_11_code
abbrev yM_place : MethodName := ⟨RM, "place", "(II)I"⟩
abbrev cM_view : ByteArray := prog_6_method_12_code
abbrev yM_view : MethodName := ⟨RM, "view", "(IIIZ)I"⟩
abbrev cM_isPlace : ByteArray := prog_6_method_13_code
abbrev yM_isPlace : MethodName := ⟨RM, "isPlace", "(I)Z"⟩
abbrev cM_kindOf : ByteArray := prog_6_method_14_code
abbrev yM_kindOf : MethodName := ⟨RM, "kindOf", "(I)I"⟩
abbrev cM_as : ByteArray := prog_6_method_15_code
abbrev yM_as : MethodName := ⟨RM, "as", "(IJ)J"⟩
abbrev cM_isValue : ByteArray := prog_6_method_16_code
abbrev yM_isValue : MethodName := ⟨RM, "isValue", "(IJ)Z"⟩
abbrev cM_get : ByteArray := prog_6_method_17_code
abbrev yM_get : MethodName := ⟨RM, "get", "(I)J"⟩
abbrev cM_set : ByteArray := prog_6_method_18_code
abbrev yM_set : MethodName := ⟨RM, "set", "(IJ)V"⟩
abbrev cM_act : ByteArray := prog_6_method_19_code
abbrev yM_act : MethodName := ⟨RM, "act", "(IIJJ)J"⟩
abbrev cM_copy : ByteArray := prog_6_method_20_code
abbrev yM_copy : MethodName := ⟨RM, "copy", "(IIIII)Z"⟩
abbrev cM_meet : ByteArray := prog_6_method_21_code
abbrev yM_meet : MethodName := ⟨RM, "meet", "(II)Z"⟩
abbrev cM_mark : ByteArray := prog_6_method_22_code
abbrev yM_mark : MethodName := ⟨RM, "mark", "()I"⟩
abbrev cM_differ : ByteArray := prog_6_method_23_code
abbrev yM_differ : MethodName := ⟨RM, "differ", "(I)I"⟩
abbrev cM_back : ByteArray := prog_6_method_24_code
abbrev yM_back : MethodName := ⟨RM, "back", "(I)I"⟩
abbrev cM_changed : ByteArray := prog_6_method_25_code
abbrev yM_changed : MethodName := ⟨RM, "changed", "(I)I"⟩
abbrev cN_init : ByteArray := prog_2_method_1_code
abbrev yN_init : MethodName := ⟨RN, "<init>", "()V"⟩
abbrev cN_remember : ByteArray := prog_2_method_2_code
abbrev yN_remember : MethodName := ⟨RN, "remember", "([JI)V"⟩
abbrev cN_differences : ByteArray := prog_2_method_3_code
abbrev yN_differences : MethodName := ⟨RN, "differences", "([J)I"⟩
abbrev cN_restore : ByteArray := prog_2_method_4_code
abbrev yN_restore : MethodName := ⟨RN, "restore", "([J)V"⟩
abbrev cS_init : ByteArray := prog_3_method_1_code
abbrev yS_init : MethodName := ⟨RS, "<init>", "(IIIZ)V"⟩
abbrev cS_indexOfByte : ByteArray := prog_3_method_2_code
abbrev yS_indexOfByte : MethodName := ⟨RS, "indexOfByte", "(I)I"⟩
abbrev cS_overlaps : ByteArray := prog_3_method_3_code
abbrev yS_overlaps : MethodName := ⟨RS, "overlaps", "(LPlaceDesk$Spot;)Z"⟩
abbrev cT_init : ByteArray := prog_4_method_1_code
abbrev yT_init : MethodName := ⟨RT, "<init>", "(III)V"⟩
abbrev cT_holds : ByteArray := prog_4_method_2_code
abbrev yT_holds : MethodName := ⟨RT, "holds", "(II)Z"⟩
abbrev cL_act : ByteArray := method_3_code
abbrev yL_act : MethodName := ⟨RL, "act", "(LPlaceDesk;IIJJ[J)I"⟩
abbrev cL_law : ByteArray := code
abbrev yL_law : MethodName := ⟨RL, "law", "([I)Z"⟩
theorem bw_0 : (Jvm.Cond.initialized "PlaceDeskLaw") ∈ bw := bw_of 19 (by decide +kernel) (by decide +kernel)
theorem bw_1 : (Jvm.Cond.initialized "PlaceDesk") ∈ bw := bw_of 20 (by decide +kernel) (by decide +kernel)
theorem bw_2 : (Jvm.Cond.initialized "PlaceDeskModel") ∈ bw := bw_of 21 (by decide +kernel) (by decide +kernel)
theorem bw_3 : (Jvm.Cond.initialized "PlaceDesk$Thing") ∈ bw := bw_of 22 (by decide +kernel) (by decide +kernel)
theorem bw_4 : (Jvm.Cond.initialized "java/lang/System") ∈ bw := bw_of 23 (by decide +kernel) (by decide +kernel)
theorem bw_5 : (Jvm.Cond.initialized "PlaceDesk$Spot") ∈ bw := bw_of 24 (by decide +kernel) (by decide +kernel)
theorem bw_6 : (Jvm.Cond.initialized "java/lang/Throwable") ∈ bw := bw_of 25 (by decide +kernel) (by decide +kernel)
theorem bw_7 : (Jvm.Cond.initialized "java/lang/Exception") ∈ bw := bw_of 26 (by decide +kernel) (by decide +kernel)
theorem bw_8 : (Jvm.Cond.initialized "java/lang/RuntimeException") ∈ bw := bw_of 27 (by decide +kernel) (by decide +kernel)
theorem bw_9 : (Jvm.Cond.initialized "java/lang/IllegalArgumentException") ∈ bw := bw_of 28 (by decide +kernel) (by decide +kernel)
theorem bw_10 : (Jvm.Cond.initialized "java/lang/Math") ∈ bw := bw_of 29 (by decide +kernel) (by decide +kernel)
theorem bw_11 : (Jvm.Cond.initialized "PlaceDesk$Snapshot") ∈ bw := bw_of 30 (by decide +kernel) (by decide +kernel)
theorem bw_12 : (Jvm.Cond.classLink "PlaceDeskLaw" (8 : Nat) "PlaceDesk") ∈ bw := bw_of 31 (by decide +kernel) (by decide +kernel)
theorem bw_13 : (Jvm.Cond.instantiable "PlaceDesk" (11 : Nat)) ∈ bw := bw_of 32 (by decide +kernel) (by decide +kernel)
theorem bw_14 : (Jvm.Cond.methodLink "PlaceDeskLaw" (15 : Nat) ({ cls := "PlaceDesk", name := "<init>", desc := "()V" } : Jvm.MethodName)) ∈ bw := bw_of 33 (by decide +kernel) (by decide +kernel)
theorem bw_15 : (Jvm.Cond.instanceMethod ({ cls := "PlaceDesk", name := "<init>", desc := "()V" } : Jvm.MethodName)) ∈ bw := bw_of 34 (by decide +kernel) (by decide +kernel)
theorem bw_16 : (Jvm.Cond.code ({ cls := "PlaceDesk", name := "<init>", desc := "()V" } : Jvm.MethodName) prog_1_method_1_code (1 : Nat) (Option.none : Option Jvm.ClassFile.FieldType)) ∈ bw := bw_of 35 (by decide +kernel) (by decide +kernel)
theorem bw_17 : (Jvm.Cond.methodLink "PlaceDesk" (1 : Nat) ({ cls := "java/lang/Object", name := "<init>", desc := "()V" } : Jvm.MethodName)) ∈ bw := bw_of 36 (by decide +kernel) (by decide +kernel)
theorem bw_18 : (Jvm.Cond.instanceMethod ({ cls := "java/lang/Object", name := "<init>", desc := "()V" } : Jvm.MethodName)) ∈ bw := bw_of 37 (by decide +kernel) (by decide +kernel)
theorem bw_19 : (Jvm.Cond.code ({ cls := "java/lang/Object", name := "<init>", desc := "()V" } : Jvm.MethodName) object_method_1_code (1 : Nat) (Option.none : Option Jvm.ClassFile.FieldType)) ∈ bw := bw_of 38 (by decide +kernel) (by decide +kernel)
theorem bw_20 : (Jvm.Cond.classLink "PlaceDesk" (21 : Nat) "PlaceDesk$Thing") ∈ bw := bw_of 39 (by decide +kernel) (by decide +kernel)
theorem bw_22 : (Jvm.Cond.classLink "PlaceDesk" (36 : Nat) "PlaceDesk$Spot") ∈ bw := bw_of 41 (by decide +kernel) (by decide +kernel)
theorem bw_24 : (Jvm.Cond.classLink "PlaceDesk" (45 : Nat) "PlaceDesk$Snapshot") ∈ bw := bw_of 43 (by decide +kernel) (by decide +kernel)
theorem bw_26 : (Jvm.Cond.fieldLink "PlaceDesk" (9 : Nat) "PlaceDesk" "values" "[J") ∈ bw := bw_of 45 (by decide +kernel) (by decide +kernel)
theorem bw_27 : (Jvm.Cond.fieldLink "PlaceDesk" (13 : Nat) "PlaceDesk" "kinds" "[I") ∈ bw := bw_of 46 (by decide +kernel) (by decide +kernel)
theorem bw_28 : (Jvm.Cond.fieldLink "PlaceDesk" (17 : Nat) "PlaceDesk" "elementCount" "I") ∈ bw := bw_of 47 (by decide +kernel) (by decide +kernel)
theorem bw_29 : (Jvm.Cond.fieldLink "PlaceDesk" (23 : Nat) "PlaceDesk" "things" "[LPlaceDesk$Thing;") ∈ bw := bw_of 48 (by decide +kernel) (by decide +kernel)
theorem bw_30 : (Jvm.Cond.fieldLink "PlaceDesk" (27 : Nat) "PlaceDesk" "thingCount" "I") ∈ bw := bw_of 49 (by decide +kernel) (by decide +kernel)
theorem bw_31 : (Jvm.Cond.fieldLink "PlaceDesk" (30 : Nat) "PlaceDesk" "waiting" "[I") ∈ bw := bw_of 50 (by decide +kernel) (by decide +kernel)
theorem bw_32 : (Jvm.Cond.fieldLink "PlaceDesk" (33 : Nat) "PlaceDesk" "waitingCount" "I") ∈ bw := bw_of 51 (by decide +kernel) (by decide +kernel)
theorem bw_33 : (Jvm.Cond.fieldLink "PlaceDesk" (38 : Nat) "PlaceDesk" "spots" "[LPlaceDesk$Spot;") ∈ bw := bw_of 52 (by decide +kernel) (by decide +kernel)
theorem bw_34 : (Jvm.Cond.fieldLink "PlaceDesk" (42 : Nat) "PlaceDesk" "spotCount" "I") ∈ bw := bw_of 53 (by decide +kernel) (by decide +kernel)
theorem bw_35 : (Jvm.Cond.fieldLink "PlaceDesk" (47 : Nat) "PlaceDesk" "snapshots" "[LPlaceDesk$Snapshot;") ∈ bw := bw_of 54 (by decide +kernel) (by decide +kernel)
theorem bw_36 : (Jvm.Cond.fieldLink "PlaceDesk" (51 : Nat) "PlaceDesk" "snapshotCount" "I") ∈ bw := bw_of 55 (by decide +kernel) (by decide +kernel)
theorem bw_37 : (Jvm.Cond.laysFinal "PlaceDesk" "PlaceDesk" "values" "[J") ∈ bw := bw_of 56 (by decide +kernel) (by decide +kernel)
theorem bw_38 : (Jvm.Cond.soleField "PlaceDesk" "values") ∈ bw := bw_of 57 (by decide +kernel) (by decide +kernel)
theorem bw_39 : (Jvm.Cond.laysFinal "PlaceDesk" "PlaceDesk" "kinds" "[I") ∈ bw := bw_of 58 (by decide +kernel) (by decide +kernel)
theorem bw_40 : (Jvm.Cond.soleField "PlaceDesk" "kinds") ∈ bw := bw_of 59 (by decide +kernel) (by decide +kernel)
theorem bw_41 : (Jvm.Cond.lays "PlaceDesk" "PlaceDesk" "elementCount" "I") ∈ bw := bw_of 60 (by decide +kernel) (by decide +kernel)
theorem bw_42 : (Jvm.Cond.soleField "PlaceDesk" "elementCount") ∈ bw := bw_of 61 (by decide +kernel) (by decide +kernel)
theorem bw_43 : (Jvm.Cond.laysFinal "PlaceDesk" "PlaceDesk" "things" "[LPlaceDesk$Thing;") ∈ bw := bw_of 62 (by decide +kernel) (by decide +kernel)
theorem bw_44 : (Jvm.Cond.soleField "PlaceDesk" "things") ∈ bw := bw_of 63 (by decide +kernel) (by decide +kernel)
theorem bw_45 : (Jvm.Cond.lays "PlaceDesk" "PlaceDesk" "thingCount" "I") ∈ bw := bw_of 64 (by decide +kernel) (by decide +kernel)
theorem bw_46 : (Jvm.Cond.soleField "PlaceDesk" "thingCount") ∈ bw := bw_of 65 (by decide +kernel) (by decide +kernel)
theorem bw_47 : (Jvm.Cond.laysFinal "PlaceDesk" "PlaceDesk" "waiting" "[I") ∈ bw := bw_of 66 (by decide +kernel) (by decide +kernel)
theorem bw_48 : (Jvm.Cond.soleField "PlaceDesk" "waiting") ∈ bw := bw_of 67 (by decide +kernel) (by decide +kernel)
theorem bw_49 : (Jvm.Cond.lays "PlaceDesk" "PlaceDesk" "waitingCount" "I") ∈ bw := bw_of 68 (by decide +kernel) (by decide +kernel)
theorem bw_50 : (Jvm.Cond.soleField "PlaceDesk" "waitingCount") ∈ bw := bw_of 69 (by decide +kernel) (by decide +kernel)
theorem bw_51 : (Jvm.Cond.laysFinal "PlaceDesk" "PlaceDesk" "spots" "[LPlaceDesk$Spot;") ∈ bw := bw_of 70 (by decide +kernel) (by decide +kernel)
theorem bw_52 : (Jvm.Cond.soleField "PlaceDesk" "spots") ∈ bw := bw_of 71 (by decide +kernel) (by decide +kernel)
theorem bw_53 : (Jvm.Cond.lays "PlaceDesk" "PlaceDesk" "spotCount" "I") ∈ bw := bw_of 72 (by decide +kernel) (by decide +kernel)
theorem bw_54 : (Jvm.Cond.soleField "PlaceDesk" "spotCount") ∈ bw := bw_of 73 (by decide +kernel) (by decide +kernel)
theorem bw_55 : (Jvm.Cond.laysFinal "PlaceDesk" "PlaceDesk" "snapshots" "[LPlaceDesk$Snapshot;") ∈ bw := bw_of 74 (by decide +kernel) (by decide +kernel)
theorem bw_56 : (Jvm.Cond.soleField "PlaceDesk" "snapshots") ∈ bw := bw_of 75 (by decide +kernel) (by decide +kernel)
theorem bw_57 : (Jvm.Cond.lays "PlaceDesk" "PlaceDesk" "snapshotCount" "I") ∈ bw := bw_of 76 (by decide +kernel) (by decide +kernel)
theorem bw_58 : (Jvm.Cond.soleField "PlaceDesk" "snapshotCount") ∈ bw := bw_of 77 (by decide +kernel) (by decide +kernel)
theorem bw_59 : (Jvm.Cond.superclass "PlaceDesk" "java/lang/Object") ∈ bw := bw_of 78 (by decide +kernel) (by decide +kernel)
theorem bw_60 : (Jvm.Cond.arrayClass Jvm.ClassFile.FieldType.long) ∈ bw := bw_of 79 (by decide +kernel) (by decide +kernel)
theorem bw_61 : (Jvm.Cond.arrayClass Jvm.ClassFile.FieldType.int) ∈ bw := bw_of 80 (by decide +kernel) (by decide +kernel)
theorem bw_62 : (Jvm.Cond.methodLink "PlaceDeskLaw" (19 : Nat) ({ cls := "PlaceDesk", name := "row", desc := "(II)I" } : Jvm.MethodName)) ∈ bw := bw_of 81 (by decide +kernel) (by decide +kernel)
theorem bw_63 : (Jvm.Cond.instanceMethod ({ cls := "PlaceDesk", name := "row", desc := "(II)I" } : Jvm.MethodName)) ∈ bw := bw_of 82 (by decide +kernel) (by decide +kernel)
theorem bw_64 : (Jvm.Cond.selects "PlaceDesk" ({ cls := "PlaceDesk", name := "row", desc := "(II)I" } : Jvm.MethodName) ({ cls := "PlaceDesk", name := "row", desc := "(II)I" } : Jvm.MethodName)) ∈ bw := bw_of 83 (by decide +kernel) (by decide +kernel)
theorem bw_65 : (Jvm.Cond.code ({ cls := "PlaceDesk", name := "row", desc := "(II)I" } : Jvm.MethodName) prog_1_method_2_code (4 : Nat) (Option.some Jvm.ClassFile.FieldType.int)) ∈ bw := bw_of 84 (by decide +kernel) (by decide +kernel)
theorem bw_66 : (Jvm.Cond.methodLink "PlaceDesk" (54 : Nat) ({ cls := "PlaceDesk", name := "isKind", desc := "(I)Z" } : Jvm.MethodName)) ∈ bw := bw_of 85 (by decide +kernel) (by decide +kernel)
theorem bw_67 : (Jvm.Cond.static ({ cls := "PlaceDesk", name := "isKind", desc := "(I)Z" } : Jvm.MethodName)) ∈ bw := bw_of 86 (by decide +kernel) (by decide +kernel)
theorem bw_68 : (Jvm.Cond.code ({ cls := "PlaceDesk", name := "isKind", desc := "(I)Z" } : Jvm.MethodName) prog_1_method_15_code (1 : Nat) (Option.some Jvm.ClassFile.FieldType.boolean)) ∈ bw := bw_of 87 (by decide +kernel) (by decide +kernel)
theorem bw_69 : (Jvm.Cond.methodLink "PlaceDesk" (58 : Nat) ({ cls := "PlaceDesk", name := "hasRoomFor", desc := "(I)Z" } : Jvm.MethodName)) ∈ bw := bw_of 88 (by decide +kernel) (by decide +kernel)
theorem bw_71 : (Jvm.Cond.instanceMethod ({ cls := "PlaceDesk", name := "hasRoomFor", desc := "(I)Z" } : Jvm.MethodName)) ∈ bw := bw_of 90 (by decide +kernel) (by decide +kernel)
theorem bw_72 : (Jvm.Cond.code ({ cls := "PlaceDesk", name := "hasRoomFor", desc := "(I)Z" } : Jvm.MethodName) prog_1_method_20_code (2 : Nat) (Option.some Jvm.ClassFile.FieldType.boolean)) ∈ bw := bw_of 91 (by decide +kernel) (by decide +kernel)
theorem bw_73 : (Jvm.Cond.methodLink "PlaceDesk" (61 : Nat) ({ cls := "PlaceDesk", name := "addThing", desc := "(II)I" } : Jvm.MethodName)) ∈ bw := bw_of 92 (by decide +kernel) (by decide +kernel)
theorem bw_75 : (Jvm.Cond.instanceMethod ({ cls := "PlaceDesk", name := "addThing", desc := "(II)I" } : Jvm.MethodName)) ∈ bw := bw_of 94 (by decide +kernel) (by decide +kernel)
theorem bw_76 : (Jvm.Cond.code ({ cls := "PlaceDesk", name := "addThing", desc := "(II)I" } : Jvm.MethodName) prog_1_method_21_code (4 : Nat) (Option.some Jvm.ClassFile.FieldType.int)) ∈ bw := bw_of 95 (by decide +kernel) (by decide +kernel)
theorem bw_77 : (Jvm.Cond.constantLong "PlaceDesk" (146 : Nat) (-1 : Int64)) ∈ bw := bw_of 96 (by decide +kernel) (by decide +kernel)
theorem bw_78 : (Jvm.Cond.instantiable "PlaceDesk$Thing" (3 : Nat)) ∈ bw := bw_of 97 (by decide +kernel) (by decide +kernel)
theorem bw_79 : (Jvm.Cond.methodLink "PlaceDesk" (154 : Nat) ({ cls := "PlaceDesk$Thing", name := "<init>", desc := "(III)V" } : Jvm.MethodName)) ∈ bw := bw_of 98 (by decide +kernel) (by decide +kernel)
theorem bw_80 : (Jvm.Cond.instanceMethod ({ cls := "PlaceDesk$Thing", name := "<init>", desc := "(III)V" } : Jvm.MethodName)) ∈ bw := bw_of 99 (by decide +kernel) (by decide +kernel)
theorem bw_81 : (Jvm.Cond.code ({ cls := "PlaceDesk$Thing", name := "<init>", desc := "(III)V" } : Jvm.MethodName) prog_4_method_1_code (4 : Nat) (Option.none : Option Jvm.ClassFile.FieldType)) ∈ bw := bw_of 100 (by decide +kernel) (by decide +kernel)
theorem bw_82 : (Jvm.Cond.methodLink "PlaceDesk$Thing" (1 : Nat) ({ cls := "java/lang/Object", name := "<init>", desc := "()V" } : Jvm.MethodName)) ∈ bw := bw_of 101 (by decide +kernel) (by decide +kernel)
theorem bw_83 : (Jvm.Cond.fieldLink "PlaceDesk$Thing" (7 : Nat) "PlaceDesk$Thing" "kind" "I") ∈ bw := bw_of 102 (by decide +kernel) (by decide +kernel)
theorem bw_84 : (Jvm.Cond.fieldLink "PlaceDesk" (75 : Nat) "PlaceDesk$Thing" "kind" "I") ∈ bw := bw_of 103 (by decide +kernel) (by decide +kernel)
theorem bw_85 : (Jvm.Cond.fieldLink "PlaceDesk$Thing" (13 : Nat) "PlaceDesk$Thing" "first" "I") ∈ bw := bw_of 104 (by decide +kernel) (by decide +kernel)
theorem bw_86 : (Jvm.Cond.fieldLink "PlaceDesk" (85 : Nat) "PlaceDesk$Thing" "first" "I") ∈ bw := bw_of 105 (by decide +kernel) (by decide +kernel)
theorem bw_87 : (Jvm.Cond.fieldLink "PlaceDesk$Thing" (16 : Nat) "PlaceDesk$Thing" "size" "I") ∈ bw := bw_of 106 (by decide +kernel) (by decide +kernel)
theorem bw_88 : (Jvm.Cond.fieldLink "PlaceDesk" (78 : Nat) "PlaceDesk$Thing" "size" "I") ∈ bw := bw_of 107 (by decide +kernel) (by decide +kernel)
theorem bw_89 : (Jvm.Cond.laysFinal "PlaceDesk$Thing" "PlaceDesk$Thing" "kind" "I") ∈ bw := bw_of 108 (by decide +kernel) (by decide +kernel)
theorem bw_90 : (Jvm.Cond.soleField "PlaceDesk$Thing" "kind") ∈ bw := bw_of 109 (by decide +kernel) (by decide +kernel)
theorem bw_91 : (Jvm.Cond.laysFinal "PlaceDesk$Thing" "PlaceDesk$Thing" "first" "I") ∈ bw := bw_of 110 (by decide +kernel) (by decide +kernel)
theorem bw_92 : (Jvm.Cond.soleField "PlaceDesk$Thing" "first") ∈ bw := bw_of 111 (by decide +kernel) (by decide +kernel)
theorem bw_93 : (Jvm.Cond.laysFinal "PlaceDesk$Thing" "PlaceDesk$Thing" "size" "I") ∈ bw := bw_of 112 (by decide +kernel) (by decide +kernel)
theorem bw_94 : (Jvm.Cond.soleField "PlaceDesk$Thing" "size") ∈ bw := bw_of 113 (by decide +kernel) (by decide +kernel)
theorem bw_95 : (Jvm.Cond.superclass "PlaceDesk$Thing" "java/lang/Object") ∈ bw := bw_of 114 (by decide +kernel) (by decide +kernel)
theorem bw_96 : (Jvm.Cond.methodLink "PlaceDeskLaw" (24 : Nat) ({ cls := "PlaceDesk", name := "put", desc := "(I)Z" } : Jvm.MethodName)) ∈ bw := bw_of 115 (by decide +kernel) (by decide +kernel)
theorem bw_97 : (Jvm.Cond.instanceMethod ({ cls := "PlaceDesk", name := "put", desc := "(I)Z" } : Jvm.MethodName)) ∈ bw := bw_of 116 (by decide +kernel) (by decide +kernel)
theorem bw_98 : (Jvm.Cond.selects "PlaceDesk" ({ cls := "PlaceDesk", name := "put", desc := "(I)Z" } : Jvm.MethodName) ({ cls := "PlaceDesk", name := "put", desc := "(I)Z" } : Jvm.MethodName)) ∈ bw := bw_of 117 (by decide +kernel) (by decide +kernel)
theorem bw_99 : (Jvm.Cond.code ({ cls := "PlaceDesk", name := "put", desc := "(I)Z" } : Jvm.MethodName) prog_1_method_3_code (2 : Nat) (Option.some Jvm.ClassFile.FieldType.boolean)) ∈ bw := bw_of 118 (by decide +kernel) (by decide +kernel)
theorem bw_100 : (Jvm.Cond.methodLink "PlaceDeskLaw" (29 : Nat) ({ cls := "PlaceDesk", name := "instance", desc := "()I" } : Jvm.MethodName)) ∈ bw := bw_of 119 (by decide +kernel) (by decide +kernel)
theorem bw_101 : (Jvm.Cond.instanceMethod ({ cls := "PlaceDesk", name := "instance", desc := "()I" } : Jvm.MethodName)) ∈ bw := bw_of 120 (by decide +kernel) (by decide +kernel)
theorem bw_102 : (Jvm.Cond.selects "PlaceDesk" ({ cls := "PlaceDesk", name := "instance", desc := "()I" } : Jvm.MethodName) ({ cls := "PlaceDesk", name := "instance", desc := "()I" } : Jvm.MethodName)) ∈ bw := bw_of 121 (by decide +kernel) (by decide +kernel)
theorem bw_103 : (Jvm.Cond.code ({ cls := "PlaceDesk", name := "instance", desc := "()I" } : Jvm.MethodName) prog_1_method_4_code (2 : Nat) (Option.some Jvm.ClassFile.FieldType.int)) ∈ bw := bw_of 122 (by decide +kernel) (by decide +kernel)
theorem bw_104 : (Jvm.Cond.methodLink "PlaceDesk" (65 : Nat) ({ cls := "java/lang/System", name := "arraycopy", desc := "(Ljava/lang/Object;ILjava/lang/Object;II)V" } : Jvm.MethodName)) ∈ bw := bw_of 123 (by decide +kernel) (by decide +kernel)
theorem bw_105 : (Jvm.Cond.static ({ cls := "java/lang/System", name := "arraycopy", desc := "(Ljava/lang/Object;ILjava/lang/Object;II)V" } : Jvm.MethodName)) ∈ bw := bw_of 124 (by decide +kernel) (by decide +kernel)
theorem bw_106 : (Jvm.Cond.native ({ cls := "java/lang/System", name := "arraycopy", desc := "(Ljava/lang/Object;ILjava/lang/Object;II)V" } : Jvm.MethodName)) ∈ bw := bw_of 125 (by decide +kernel) (by decide +kernel)
theorem bw_107 : (Jvm.Cond.methodLink "PlaceDeskLaw" (34 : Nat) ({ cls := "PlaceDesk", name := "object", desc := "(II)I" } : Jvm.MethodName)) ∈ bw := bw_of 126 (by decide +kernel) (by decide +kernel)
theorem bw_108 : (Jvm.Cond.instanceMethod ({ cls := "PlaceDesk", name := "object", desc := "(II)I" } : Jvm.MethodName)) ∈ bw := bw_of 127 (by decide +kernel) (by decide +kernel)
theorem bw_109 : (Jvm.Cond.selects "PlaceDesk" ({ cls := "PlaceDesk", name := "object", desc := "(II)I" } : Jvm.MethodName) ({ cls := "PlaceDesk", name := "object", desc := "(II)I" } : Jvm.MethodName)) ∈ bw := bw_of 128 (by decide +kernel) (by decide +kernel)
theorem bw_110 : (Jvm.Cond.code ({ cls := "PlaceDesk", name := "object", desc := "(II)I" } : Jvm.MethodName) prog_1_method_5_code (4 : Nat) (Option.some Jvm.ClassFile.FieldType.int)) ∈ bw := bw_of 129 (by decide +kernel) (by decide +kernel)
theorem bw_111 : (Jvm.Cond.methodLink "PlaceDesk" (71 : Nat) ({ cls := "PlaceDesk", name := "findThing", desc := "(I)LPlaceDesk$Thing;" } : Jvm.MethodName)) ∈ bw := bw_of 130 (by decide +kernel) (by decide +kernel)
theorem bw_113 : (Jvm.Cond.instanceMethod ({ cls := "PlaceDesk", name := "findThing", desc := "(I)LPlaceDesk$Thing;" } : Jvm.MethodName)) ∈ bw := bw_of 132 (by decide +kernel) (by decide +kernel)
theorem bw_114 : (Jvm.Cond.code ({ cls := "PlaceDesk", name := "findThing", desc := "(I)LPlaceDesk$Thing;" } : Jvm.MethodName) prog_1_method_23_code (2 : Nat) (Option.some (Jvm.ClassFile.FieldType.object "PlaceDesk$Thing"))) ∈ bw := bw_of 133 (by decide +kernel) (by decide +kernel)
theorem bw_115 : (Jvm.Cond.methodLink "PlaceDesk" (81 : Nat) ({ cls := "PlaceDesk$Thing", name := "holds", desc := "(II)Z" } : Jvm.MethodName)) ∈ bw := bw_of 134 (by decide +kernel) (by decide +kernel)
theorem bw_116 : (Jvm.Cond.instanceMethod ({ cls := "PlaceDesk$Thing", name := "holds", desc := "(II)Z" } : Jvm.MethodName)) ∈ bw := bw_of 135 (by decide +kernel) (by decide +kernel)
theorem bw_117 : (Jvm.Cond.selects "PlaceDesk$Thing" ({ cls := "PlaceDesk$Thing", name := "holds", desc := "(II)Z" } : Jvm.MethodName) ({ cls := "PlaceDesk$Thing", name := "holds", desc := "(II)Z" } : Jvm.MethodName)) ∈ bw := bw_of 136 (by decide +kernel) (by decide +kernel)
theorem bw_118 : (Jvm.Cond.code ({ cls := "PlaceDesk$Thing", name := "holds", desc := "(II)Z" } : Jvm.MethodName) prog_4_method_2_code (3 : Nat) (Option.some Jvm.ClassFile.FieldType.boolean)) ∈ bw := bw_of 137 (by decide +kernel) (by decide +kernel)
theorem bw_119 : (Jvm.Cond.methodLink "PlaceDeskLaw" (38 : Nat) ({ cls := "PlaceDesk", name := "place", desc := "(II)I" } : Jvm.MethodName)) ∈ bw := bw_of 138 (by decide +kernel) (by decide +kernel)
theorem bw_120 : (Jvm.Cond.instanceMethod ({ cls := "PlaceDesk", name := "place", desc := "(II)I" } : Jvm.MethodName)) ∈ bw := bw_of 139 (by decide +kernel) (by decide +kernel)
theorem bw_121 : (Jvm.Cond.selects "PlaceDesk" ({ cls := "PlaceDesk", name := "place", desc := "(II)I" } : Jvm.MethodName) ({ cls := "PlaceDesk", name := "place", desc := "(II)I" } : Jvm.MethodName)) ∈ bw := bw_of 140 (by decide +kernel) (by decide +kernel)
theorem bw_122 : (Jvm.Cond.code ({ cls := "PlaceDesk", name := "place", desc := "(II)I" } : Jvm.MethodName) prog_1_method_6_code (5 : Nat) (Option.some Jvm.ClassFile.FieldType.int)) ∈ bw := bw_of 141 (by decide +kernel) (by decide +kernel)
theorem bw_123 : (Jvm.Cond.methodLink "PlaceDesk" (88 : Nat) ({ cls := "PlaceDesk", name := "addSpot", desc := "(IIIZ)I" } : Jvm.MethodName)) ∈ bw := bw_of 142 (by decide +kernel) (by decide +kernel)
theorem bw_125 : (Jvm.Cond.instanceMethod ({ cls := "PlaceDesk", name := "addSpot", desc := "(IIIZ)I" } : Jvm.MethodName)) ∈ bw := bw_of 144 (by decide +kernel) (by decide +kernel)
theorem bw_126 : (Jvm.Cond.code ({ cls := "PlaceDesk", name := "addSpot", desc := "(IIIZ)I" } : Jvm.MethodName) prog_1_method_22_code (5 : Nat) (Option.some Jvm.ClassFile.FieldType.int)) ∈ bw := bw_of 145 (by decide +kernel) (by decide +kernel)
theorem bw_127 : (Jvm.Cond.instantiable "PlaceDesk$Spot" (4 : Nat)) ∈ bw := bw_of 146 (by decide +kernel) (by decide +kernel)
theorem bw_128 : (Jvm.Cond.methodLink "PlaceDesk" (157 : Nat) ({ cls := "PlaceDesk$Spot", name := "<init>", desc := "(IIIZ)V" } : Jvm.MethodName)) ∈ bw := bw_of 147 (by decide +kernel) (by decide +kernel)
theorem bw_129 : (Jvm.Cond.instanceMethod ({ cls := "PlaceDesk$Spot", name := "<init>", desc := "(IIIZ)V" } : Jvm.MethodName)) ∈ bw := bw_of 148 (by decide +kernel) (by decide +kernel)
theorem bw_130 : (Jvm.Cond.code ({ cls := "PlaceDesk$Spot", name := "<init>", desc := "(IIIZ)V" } : Jvm.MethodName) prog_3_method_1_code (5 : Nat) (Option.none : Option Jvm.ClassFile.FieldType)) ∈ bw := bw_of 149 (by decide +kernel) (by decide +kernel)
theorem bw_131 : (Jvm.Cond.methodLink "PlaceDesk$Spot" (1 : Nat) ({ cls := "java/lang/Object", name := "<init>", desc := "()V" } : Jvm.MethodName)) ∈ bw := bw_of 150 (by decide +kernel) (by decide +kernel)
theorem bw_132 : (Jvm.Cond.fieldLink "PlaceDesk$Spot" (7 : Nat) "PlaceDesk$Spot" "kind" "I") ∈ bw := bw_of 151 (by decide +kernel) (by decide +kernel)
theorem bw_133 : (Jvm.Cond.fieldLink "PlaceDesk" (100 : Nat) "PlaceDesk$Spot" "kind" "I") ∈ bw := bw_of 152 (by decide +kernel) (by decide +kernel)
theorem bw_134 : (Jvm.Cond.fieldLink "PlaceDesk$Spot" (13 : Nat) "PlaceDesk$Spot" "first" "I") ∈ bw := bw_of 153 (by decide +kernel) (by decide +kernel)
theorem bw_135 : (Jvm.Cond.fieldLink "PlaceDesk" (177 : Nat) "PlaceDesk$Spot" "first" "I") ∈ bw := bw_of 154 (by decide +kernel) (by decide +kernel)
theorem bw_136 : (Jvm.Cond.fieldLink "PlaceDesk$Spot" (16 : Nat) "PlaceDesk$Spot" "width" "I") ∈ bw := bw_of 155 (by decide +kernel) (by decide +kernel)
theorem bw_137 : (Jvm.Cond.fieldLink "PlaceDesk" (174 : Nat) "PlaceDesk$Spot" "width" "I") ∈ bw := bw_of 156 (by decide +kernel) (by decide +kernel)
theorem bw_138 : (Jvm.Cond.fieldLink "PlaceDesk$Spot" (19 : Nat) "PlaceDesk$Spot" "little" "Z") ∈ bw := bw_of 157 (by decide +kernel) (by decide +kernel)
theorem bw_139 : (Jvm.Cond.laysFinal "PlaceDesk$Spot" "PlaceDesk$Spot" "kind" "I") ∈ bw := bw_of 158 (by decide +kernel) (by decide +kernel)
theorem bw_140 : (Jvm.Cond.soleField "PlaceDesk$Spot" "kind") ∈ bw := bw_of 159 (by decide +kernel) (by decide +kernel)
theorem bw_141 : (Jvm.Cond.laysFinal "PlaceDesk$Spot" "PlaceDesk$Spot" "first" "I") ∈ bw := bw_of 160 (by decide +kernel) (by decide +kernel)
theorem bw_142 : (Jvm.Cond.soleField "PlaceDesk$Spot" "first") ∈ bw := bw_of 161 (by decide +kernel) (by decide +kernel)
theorem bw_143 : (Jvm.Cond.laysFinal "PlaceDesk$Spot" "PlaceDesk$Spot" "width" "I") ∈ bw := bw_of 162 (by decide +kernel) (by decide +kernel)
theorem bw_144 : (Jvm.Cond.soleField "PlaceDesk$Spot" "width") ∈ bw := bw_of 163 (by decide +kernel) (by decide +kernel)
theorem bw_145 : (Jvm.Cond.laysFinal "PlaceDesk$Spot" "PlaceDesk$Spot" "little" "Z") ∈ bw := bw_of 164 (by decide +kernel) (by decide +kernel)
theorem bw_146 : (Jvm.Cond.soleField "PlaceDesk$Spot" "little") ∈ bw := bw_of 165 (by decide +kernel) (by decide +kernel)
theorem bw_147 : (Jvm.Cond.superclass "PlaceDesk$Spot" "java/lang/Object") ∈ bw := bw_of 166 (by decide +kernel) (by decide +kernel)
theorem bw_148 : (Jvm.Cond.methodLink "PlaceDeskLaw" (42 : Nat) ({ cls := "PlaceDesk", name := "view", desc := "(IIIZ)I" } : Jvm.MethodName)) ∈ bw := bw_of 167 (by decide +kernel) (by decide +kernel)
theorem bw_149 : (Jvm.Cond.instanceMethod ({ cls := "PlaceDesk", name := "view", desc := "(IIIZ)I" } : Jvm.MethodName)) ∈ bw := bw_of 168 (by decide +kernel) (by decide +kernel)
theorem bw_150 : (Jvm.Cond.selects "PlaceDesk" ({ cls := "PlaceDesk", name := "view", desc := "(IIIZ)I" } : Jvm.MethodName) ({ cls := "PlaceDesk", name := "view", desc := "(IIIZ)I" } : Jvm.MethodName)) ∈ bw := bw_of 169 (by decide +kernel) (by decide +kernel)
theorem bw_151 : (Jvm.Cond.code ({ cls := "PlaceDesk", name := "view", desc := "(IIIZ)I" } : Jvm.MethodName) prog_1_method_7_code (7 : Nat) (Option.some Jvm.ClassFile.FieldType.int)) ∈ bw := bw_of 170 (by decide +kernel) (by decide +kernel)
theorem bw_152 : (Jvm.Cond.methodLink "PlaceDesk" (92 : Nat) ({ cls := "PlaceDesk", name := "widthOfView", desc := "(I)I" } : Jvm.MethodName)) ∈ bw := bw_of 171 (by decide +kernel) (by decide +kernel)
theorem bw_153 : (Jvm.Cond.static ({ cls := "PlaceDesk", name := "widthOfView", desc := "(I)I" } : Jvm.MethodName)) ∈ bw := bw_of 172 (by decide +kernel) (by decide +kernel)
theorem bw_154 : (Jvm.Cond.code ({ cls := "PlaceDesk", name := "widthOfView", desc := "(I)I" } : Jvm.MethodName) prog_1_method_16_code (1 : Nat) (Option.some Jvm.ClassFile.FieldType.int)) ∈ bw := bw_of 173 (by decide +kernel) (by decide +kernel)
theorem bw_155 : (Jvm.Cond.methodLink "PlaceDeskLaw" (47 : Nat) ({ cls := "PlaceDesk", name := "kindOf", desc := "(I)I" } : Jvm.MethodName)) ∈ bw := bw_of 174 (by decide +kernel) (by decide +kernel)
theorem bw_156 : (Jvm.Cond.instanceMethod ({ cls := "PlaceDesk", name := "kindOf", desc := "(I)I" } : Jvm.MethodName)) ∈ bw := bw_of 175 (by decide +kernel) (by decide +kernel)
theorem bw_157 : (Jvm.Cond.selects "PlaceDesk" ({ cls := "PlaceDesk", name := "kindOf", desc := "(I)I" } : Jvm.MethodName) ({ cls := "PlaceDesk", name := "kindOf", desc := "(I)I" } : Jvm.MethodName)) ∈ bw := bw_of 176 (by decide +kernel) (by decide +kernel)
theorem bw_158 : (Jvm.Cond.code ({ cls := "PlaceDesk", name := "kindOf", desc := "(I)I" } : Jvm.MethodName) prog_1_method_8_code (3 : Nat) (Option.some Jvm.ClassFile.FieldType.int)) ∈ bw := bw_of 177 (by decide +kernel) (by decide +kernel)
theorem bw_159 : (Jvm.Cond.methodLink "PlaceDesk" (96 : Nat) ({ cls := "PlaceDesk", name := "findSpot", desc := "(I)LPlaceDesk$Spot;" } : Jvm.MethodName)) ∈ bw := bw_of 178 (by decide +kernel) (by decide +kernel)
theorem bw_161 : (Jvm.Cond.instanceMethod ({ cls := "PlaceDesk", name := "findSpot", desc := "(I)LPlaceDesk$Spot;" } : Jvm.MethodName)) ∈ bw := bw_of 180 (by decide +kernel) (by decide +kernel)
theorem bw_162 : (Jvm.Cond.code ({ cls := "PlaceDesk", name := "findSpot", desc := "(I)LPlaceDesk$Spot;" } : Jvm.MethodName) prog_1_method_24_code (2 : Nat) (Option.some (Jvm.ClassFile.FieldType.object "PlaceDesk$Spot"))) ∈ bw := bw_of 181 (by decide +kernel) (by decide +kernel)
theorem bw_163 : (Jvm.Cond.methodLink "PlaceDeskLaw" (63 : Nat) ({ cls := "PlaceDesk", name := "copy", desc := "(IIIII)Z" } : Jvm.MethodName)) ∈ bw := bw_of 182 (by decide +kernel) (by decide +kernel)
theorem bw_164 : (Jvm.Cond.instanceMethod ({ cls := "PlaceDesk", name := "copy", desc := "(IIIII)Z" } : Jvm.MethodName)) ∈ bw := bw_of 183 (by decide +kernel) (by decide +kernel)
theorem bw_165 : (Jvm.Cond.selects "PlaceDesk" ({ cls := "PlaceDesk", name := "copy", desc := "(IIIII)Z" } : Jvm.MethodName) ({ cls := "PlaceDesk", name := "copy", desc := "(IIIII)Z" } : Jvm.MethodName)) ∈ bw := bw_of 184 (by decide +kernel) (by decide +kernel)
theorem bw_166 : (Jvm.Cond.code ({ cls := "PlaceDesk", name := "copy", desc := "(IIIII)Z" } : Jvm.MethodName) prog_1_method_10_code (8 : Nat) (Option.some Jvm.ClassFile.FieldType.boolean)) ∈ bw := bw_of 185 (by decide +kernel) (by decide +kernel)
theorem bw_167 : (Jvm.Cond.methodLink "PlaceDeskLaw" (68 : Nat) ({ cls := "PlaceDesk", name := "meet", desc := "(II)Z" } : Jvm.MethodName)) ∈ bw := bw_of 186 (by decide +kernel) (by decide +kernel)
theorem bw_168 : (Jvm.Cond.instanceMethod ({ cls := "PlaceDesk", name := "meet", desc := "(II)Z" } : Jvm.MethodName)) ∈ bw := bw_of 187 (by decide +kernel) (by decide +kernel)
theorem bw_169 : (Jvm.Cond.selects "PlaceDesk" ({ cls := "PlaceDesk", name := "meet", desc := "(II)Z" } : Jvm.MethodName) ({ cls := "PlaceDesk", name := "meet", desc := "(II)Z" } : Jvm.MethodName)) ∈ bw := bw_of 188 (by decide +kernel) (by decide +kernel)
theorem bw_170 : (Jvm.Cond.code ({ cls := "PlaceDesk", name := "meet", desc := "(II)Z" } : Jvm.MethodName) prog_1_method_11_code (5 : Nat) (Option.some Jvm.ClassFile.FieldType.boolean)) ∈ bw := bw_of 189 (by decide +kernel) (by decide +kernel)
theorem bw_171 : (Jvm.Cond.methodLink "PlaceDesk" (125 : Nat) ({ cls := "PlaceDesk$Spot", name := "overlaps", desc := "(LPlaceDesk$Spot;)Z" } : Jvm.MethodName)) ∈ bw := bw_of 190 (by decide +kernel) (by decide +kernel)
theorem bw_172 : (Jvm.Cond.instanceMethod ({ cls := "PlaceDesk$Spot", name := "overlaps", desc := "(LPlaceDesk$Spot;)Z" } : Jvm.MethodName)) ∈ bw := bw_of 191 (by decide +kernel) (by decide +kernel)
theorem bw_173 : (Jvm.Cond.selects "PlaceDesk$Spot" ({ cls := "PlaceDesk$Spot", name := "overlaps", desc := "(LPlaceDesk$Spot;)Z" } : Jvm.MethodName) ({ cls := "PlaceDesk$Spot", name := "overlaps", desc := "(LPlaceDesk$Spot;)Z" } : Jvm.MethodName)) ∈ bw := bw_of 192 (by decide +kernel) (by decide +kernel)
theorem bw_174 : (Jvm.Cond.code ({ cls := "PlaceDesk$Spot", name := "overlaps", desc := "(LPlaceDesk$Spot;)Z" } : Jvm.MethodName) prog_3_method_3_code (2 : Nat) (Option.some Jvm.ClassFile.FieldType.boolean)) ∈ bw := bw_of 193 (by decide +kernel) (by decide +kernel)
theorem bw_175 : (Jvm.Cond.methodLink "PlaceDeskLaw" (73 : Nat) ({ cls := "PlaceDesk", name := "mark", desc := "()I" } : Jvm.MethodName)) ∈ bw := bw_of 194 (by decide +kernel) (by decide +kernel)
theorem bw_176 : (Jvm.Cond.instanceMethod ({ cls := "PlaceDesk", name := "mark", desc := "()I" } : Jvm.MethodName)) ∈ bw := bw_of 195 (by decide +kernel) (by decide +kernel)
theorem bw_177 : (Jvm.Cond.selects "PlaceDesk" ({ cls := "PlaceDesk", name := "mark", desc := "()I" } : Jvm.MethodName) ({ cls := "PlaceDesk", name := "mark", desc := "()I" } : Jvm.MethodName)) ∈ bw := bw_of 196 (by decide +kernel) (by decide +kernel)
theorem bw_178 : (Jvm.Cond.code ({ cls := "PlaceDesk", name := "mark", desc := "()I" } : Jvm.MethodName) prog_1_method_12_code (2 : Nat) (Option.some Jvm.ClassFile.FieldType.int)) ∈ bw := bw_of 197 (by decide +kernel) (by decide +kernel)
theorem bw_179 : (Jvm.Cond.instantiable "PlaceDesk$Snapshot" (2 : Nat)) ∈ bw := bw_of 198 (by decide +kernel) (by decide +kernel)
theorem bw_181 : (Jvm.Cond.instanceMethod ({ cls := "PlaceDesk$Snapshot", name := "<init>", desc := "()V" } : Jvm.MethodName)) ∈ bw := bw_of 200 (by decide +kernel) (by decide +kernel)
theorem bw_182 : (Jvm.Cond.code ({ cls := "PlaceDesk$Snapshot", name := "<init>", desc := "()V" } : Jvm.MethodName) prog_2_method_1_code (1 : Nat) (Option.none : Option Jvm.ClassFile.FieldType)) ∈ bw := bw_of 201 (by decide +kernel) (by decide +kernel)
theorem bw_183 : (Jvm.Cond.methodLink "PlaceDesk$Snapshot" (3 : Nat) ({ cls := "java/lang/Object", name := "<init>", desc := "()V" } : Jvm.MethodName)) ∈ bw := bw_of 202 (by decide +kernel) (by decide +kernel)
theorem bw_184 : (Jvm.Cond.fieldLink "PlaceDesk$Snapshot" (9 : Nat) "PlaceDesk$Snapshot" "remembered" "[J") ∈ bw := bw_of 203 (by decide +kernel) (by decide +kernel)
theorem bw_185 : (Jvm.Cond.fieldLink "PlaceDesk$Snapshot" (15 : Nat) "PlaceDesk$Snapshot" "count" "I") ∈ bw := bw_of 204 (by decide +kernel) (by decide +kernel)
theorem bw_186 : (Jvm.Cond.laysFinal "PlaceDesk$Snapshot" "PlaceDesk$Snapshot" "remembered" "[J") ∈ bw := bw_of 205 (by decide +kernel) (by decide +kernel)
theorem bw_187 : (Jvm.Cond.soleField "PlaceDesk$Snapshot" "remembered") ∈ bw := bw_of 206 (by decide +kernel) (by decide +kernel)
theorem bw_188 : (Jvm.Cond.lays "PlaceDesk$Snapshot" "PlaceDesk$Snapshot" "count" "I") ∈ bw := bw_of 207 (by decide +kernel) (by decide +kernel)
theorem bw_189 : (Jvm.Cond.soleField "PlaceDesk$Snapshot" "count") ∈ bw := bw_of 208 (by decide +kernel) (by decide +kernel)
theorem bw_190 : (Jvm.Cond.superclass "PlaceDesk$Snapshot" "java/lang/Object") ∈ bw := bw_of 209 (by decide +kernel) (by decide +kernel)
theorem bw_191 : (Jvm.Cond.methodLink "PlaceDesk" (130 : Nat) ({ cls := "PlaceDesk$Snapshot", name := "remember", desc := "([JI)V" } : Jvm.MethodName)) ∈ bw := bw_of 210 (by decide +kernel) (by decide +kernel)
theorem bw_192 : (Jvm.Cond.instanceMethod ({ cls := "PlaceDesk$Snapshot", name := "remember", desc := "([JI)V" } : Jvm.MethodName)) ∈ bw := bw_of 211 (by decide +kernel) (by decide +kernel)
theorem bw_193 : (Jvm.Cond.selects "PlaceDesk$Snapshot" ({ cls := "PlaceDesk$Snapshot", name := "remember", desc := "([JI)V" } : Jvm.MethodName) ({ cls := "PlaceDesk$Snapshot", name := "remember", desc := "([JI)V" } : Jvm.MethodName)) ∈ bw := bw_of 212 (by decide +kernel) (by decide +kernel)
theorem bw_194 : (Jvm.Cond.code ({ cls := "PlaceDesk$Snapshot", name := "remember", desc := "([JI)V" } : Jvm.MethodName) prog_2_method_2_code (3 : Nat) (Option.none : Option Jvm.ClassFile.FieldType)) ∈ bw := bw_of 213 (by decide +kernel) (by decide +kernel)
theorem bw_195 : (Jvm.Cond.methodLink "PlaceDesk$Snapshot" (19 : Nat) ({ cls := "java/lang/System", name := "arraycopy", desc := "(Ljava/lang/Object;ILjava/lang/Object;II)V" } : Jvm.MethodName)) ∈ bw := bw_of 214 (by decide +kernel) (by decide +kernel)
theorem bw_196 : (Jvm.Cond.methodLink "PlaceDeskLaw" (77 : Nat) ({ cls := "PlaceDesk", name := "back", desc := "(I)I" } : Jvm.MethodName)) ∈ bw := bw_of 215 (by decide +kernel) (by decide +kernel)
theorem bw_197 : (Jvm.Cond.instanceMethod ({ cls := "PlaceDesk", name := "back", desc := "(I)I" } : Jvm.MethodName)) ∈ bw := bw_of 216 (by decide +kernel) (by decide +kernel)
theorem bw_198 : (Jvm.Cond.selects "PlaceDesk" ({ cls := "PlaceDesk", name := "back", desc := "(I)I" } : Jvm.MethodName) ({ cls := "PlaceDesk", name := "back", desc := "(I)I" } : Jvm.MethodName)) ∈ bw := bw_of 217 (by decide +kernel) (by decide +kernel)
theorem bw_199 : (Jvm.Cond.code ({ cls := "PlaceDesk", name := "back", desc := "(I)I" } : Jvm.MethodName) prog_1_method_13_code (4 : Nat) (Option.some Jvm.ClassFile.FieldType.int)) ∈ bw := bw_of 218 (by decide +kernel) (by decide +kernel)
theorem bw_200 : (Jvm.Cond.methodLink "PlaceDesk" (134 : Nat) ({ cls := "PlaceDesk", name := "findSnapshot", desc := "(I)LPlaceDesk$Snapshot;" } : Jvm.MethodName)) ∈ bw := bw_of 219 (by decide +kernel) (by decide +kernel)
theorem bw_202 : (Jvm.Cond.instanceMethod ({ cls := "PlaceDesk", name := "findSnapshot", desc := "(I)LPlaceDesk$Snapshot;" } : Jvm.MethodName)) ∈ bw := bw_of 221 (by decide +kernel) (by decide +kernel)
theorem bw_203 : (Jvm.Cond.code ({ cls := "PlaceDesk", name := "findSnapshot", desc := "(I)LPlaceDesk$Snapshot;" } : Jvm.MethodName) prog_1_method_25_code (2 : Nat) (Option.some (Jvm.ClassFile.FieldType.object "PlaceDesk$Snapshot"))) ∈ bw := bw_of 222 (by decide +kernel) (by decide +kernel)
theorem bw_204 : (Jvm.Cond.methodLink "PlaceDesk" (138 : Nat) ({ cls := "PlaceDesk$Snapshot", name := "differences", desc := "([J)I" } : Jvm.MethodName)) ∈ bw := bw_of 223 (by decide +kernel) (by decide +kernel)
theorem bw_205 : (Jvm.Cond.instanceMethod ({ cls := "PlaceDesk$Snapshot", name := "differences", desc := "([J)I" } : Jvm.MethodName)) ∈ bw := bw_of 224 (by decide +kernel) (by decide +kernel)
theorem bw_206 : (Jvm.Cond.selects "PlaceDesk$Snapshot" ({ cls := "PlaceDesk$Snapshot", name := "differences", desc := "([J)I" } : Jvm.MethodName) ({ cls := "PlaceDesk$Snapshot", name := "differences", desc := "([J)I" } : Jvm.MethodName)) ∈ bw := bw_of 225 (by decide +kernel) (by decide +kernel)
theorem bw_207 : (Jvm.Cond.code ({ cls := "PlaceDesk$Snapshot", name := "differences", desc := "([J)I" } : Jvm.MethodName) prog_2_method_3_code (4 : Nat) (Option.some Jvm.ClassFile.FieldType.int)) ∈ bw := bw_of 226 (by decide +kernel) (by decide +kernel)
theorem bw_208 : (Jvm.Cond.methodLink "PlaceDesk" (142 : Nat) ({ cls := "PlaceDesk$Snapshot", name := "restore", desc := "([J)V" } : Jvm.MethodName)) ∈ bw := bw_of 227 (by decide +kernel) (by decide +kernel)
theorem bw_209 : (Jvm.Cond.instanceMethod ({ cls := "PlaceDesk$Snapshot", name := "restore", desc := "([J)V" } : Jvm.MethodName)) ∈ bw := bw_of 228 (by decide +kernel) (by decide +kernel)
theorem bw_210 : (Jvm.Cond.selects "PlaceDesk$Snapshot" ({ cls := "PlaceDesk$Snapshot", name := "restore", desc := "([J)V" } : Jvm.MethodName) ({ cls := "PlaceDesk$Snapshot", name := "restore", desc := "([J)V" } : Jvm.MethodName)) ∈ bw := bw_of 229 (by decide +kernel) (by decide +kernel)
theorem bw_211 : (Jvm.Cond.code ({ cls := "PlaceDesk$Snapshot", name := "restore", desc := "([J)V" } : Jvm.MethodName) prog_2_method_4_code (2 : Nat) (Option.none : Option Jvm.ClassFile.FieldType)) ∈ bw := bw_of 230 (by decide +kernel) (by decide +kernel)
theorem bw_212 : (Jvm.Cond.methodLink "PlaceDeskLaw" (81 : Nat) ({ cls := "PlaceDesk", name := "changed", desc := "(I)I" } : Jvm.MethodName)) ∈ bw := bw_of 231 (by decide +kernel) (by decide +kernel)
theorem bw_213 : (Jvm.Cond.instanceMethod ({ cls := "PlaceDesk", name := "changed", desc := "(I)I" } : Jvm.MethodName)) ∈ bw := bw_of 232 (by decide +kernel) (by decide +kernel)
theorem bw_214 : (Jvm.Cond.selects "PlaceDesk" ({ cls := "PlaceDesk", name := "changed", desc := "(I)I" } : Jvm.MethodName) ({ cls := "PlaceDesk", name := "changed", desc := "(I)I" } : Jvm.MethodName)) ∈ bw := bw_of 233 (by decide +kernel) (by decide +kernel)
theorem bw_215 : (Jvm.Cond.code ({ cls := "PlaceDesk", name := "changed", desc := "(I)I" } : Jvm.MethodName) prog_1_method_14_code (3 : Nat) (Option.some Jvm.ClassFile.FieldType.int)) ∈ bw := bw_of 234 (by decide +kernel) (by decide +kernel)
theorem bw_216 : (Jvm.Cond.methodLink "PlaceDeskLaw" (54 : Nat) ({ cls := "PlaceDeskLaw", name := "act", desc := "(LPlaceDesk;IIJJ[J)I" } : Jvm.MethodName)) ∈ bw := bw_of 235 (by decide +kernel) (by decide +kernel)
theorem bw_217 : (Jvm.Cond.static ({ cls := "PlaceDeskLaw", name := "act", desc := "(LPlaceDesk;IIJJ[J)I" } : Jvm.MethodName)) ∈ bw := bw_of 236 (by decide +kernel) (by decide +kernel)
theorem bw_219 : (Jvm.Cond.classLink "PlaceDeskLaw" (13 : Nat) "java/lang/IllegalArgumentException") ∈ bw := bw_of 238 (by decide +kernel) (by decide +kernel)
theorem bw_220 : (Jvm.Cond.methodLink "PlaceDeskLaw" (7 : Nat) ({ cls := "PlaceDesk", name := "act", desc := "(IIJJ)J" } : Jvm.MethodName)) ∈ bw := bw_of 239 (by decide +kernel) (by decide +kernel)
theorem bw_221 : (Jvm.Cond.instanceMethod ({ cls := "PlaceDesk", name := "act", desc := "(IIJJ)J" } : Jvm.MethodName)) ∈ bw := bw_of 240 (by decide +kernel) (by decide +kernel)
theorem bw_222 : (Jvm.Cond.selects "PlaceDesk" ({ cls := "PlaceDesk", name := "act", desc := "(IIJJ)J" } : Jvm.MethodName) ({ cls := "PlaceDesk", name := "act", desc := "(IIJJ)J" } : Jvm.MethodName)) ∈ bw := bw_of 241 (by decide +kernel) (by decide +kernel)
theorem bw_223 : (Jvm.Cond.code ({ cls := "PlaceDesk", name := "act", desc := "(IIJJ)J" } : Jvm.MethodName) prog_1_method_9_code (8 : Nat) (Option.some Jvm.ClassFile.FieldType.long)) ∈ bw := bw_of 242 (by decide +kernel) (by decide +kernel)
theorem bw_224 : (Jvm.Cond.classLink "PlaceDesk" (101 : Nat) "java/lang/IllegalArgumentException") ∈ bw := bw_of 243 (by decide +kernel) (by decide +kernel)
theorem bw_225 : (Jvm.Cond.instantiable "java/lang/IllegalArgumentException" (6 : Nat)) ∈ bw := bw_of 244 (by decide +kernel) (by decide +kernel)
theorem bw_233 : (Jvm.Cond.selects "java/lang/IllegalArgumentException" ({ cls := "java/lang/Throwable", name := "fillInStackTrace", desc := "(I)Ljava/lang/Throwable;" } : Jvm.MethodName) ({ cls := "java/lang/Throwable", name := "fillInStackTrace", desc := "(I)Ljava/lang/Throwable;" } : Jvm.MethodName)) ∈ bw := bw_of 252 (by decide +kernel) (by decide +kernel)
theorem bw_234 : (Jvm.Cond.selects "java/lang/IllegalArgumentException" ({ cls := "java/lang/Throwable", name := "fillInStackTrace", desc := "()Ljava/lang/Throwable;" } : Jvm.MethodName) ({ cls := "java/lang/Throwable", name := "fillInStackTrace", desc := "()Ljava/lang/Throwable;" } : Jvm.MethodName)) ∈ bw := bw_of 253 (by decide +kernel) (by decide +kernel)
theorem bw_235 : (Jvm.Cond.lays "java/lang/IllegalArgumentException" "java/lang/Throwable" "cause" "Ljava/lang/Throwable;") ∈ bw := bw_of 254 (by decide +kernel) (by decide +kernel)
theorem bw_236 : (Jvm.Cond.lays "java/lang/Throwable" "java/lang/Throwable" "cause" "Ljava/lang/Throwable;") ∈ bw := bw_of 255 (by decide +kernel) (by decide +kernel)
theorem bw_237 : (Jvm.Cond.lays "java/lang/IllegalArgumentException" "java/lang/Throwable" "stackTrace" "[Ljava/lang/StackTraceElement;") ∈ bw := bw_of 256 (by decide +kernel) (by decide +kernel)
theorem bw_238 : (Jvm.Cond.lays "java/lang/Throwable" "java/lang/Throwable" "stackTrace" "[Ljava/lang/StackTraceElement;") ∈ bw := bw_of 257 (by decide +kernel) (by decide +kernel)
theorem bw_239 : (Jvm.Cond.lays "java/lang/IllegalArgumentException" "java/lang/Throwable" "suppressedExceptions" "Ljava/util/List;") ∈ bw := bw_of 258 (by decide +kernel) (by decide +kernel)
theorem bw_240 : (Jvm.Cond.lays "java/lang/Throwable" "java/lang/Throwable" "suppressedExceptions" "Ljava/util/List;") ∈ bw := bw_of 259 (by decide +kernel) (by decide +kernel)
theorem bw_241 : (Jvm.Cond.lays "java/lang/IllegalArgumentException" "java/lang/Throwable" "detailMessage" "Ljava/lang/String;") ∈ bw := bw_of 260 (by decide +kernel) (by decide +kernel)
theorem bw_242 : (Jvm.Cond.lays "java/lang/Throwable" "java/lang/Throwable" "detailMessage" "Ljava/lang/String;") ∈ bw := bw_of 261 (by decide +kernel) (by decide +kernel)
theorem bw_243 : (Jvm.Cond.lays "java/lang/IllegalArgumentException" "java/lang/Throwable" "backtrace" "Ljava/lang/Object;") ∈ bw := bw_of 262 (by decide +kernel) (by decide +kernel)
theorem bw_244 : (Jvm.Cond.lays "java/lang/Throwable" "java/lang/Throwable" "backtrace" "Ljava/lang/Object;") ∈ bw := bw_of 263 (by decide +kernel) (by decide +kernel)
theorem bw_245 : (Jvm.Cond.fieldLink "java/lang/Throwable" (198 : Nat) "java/lang/Throwable" "backtrace" "Ljava/lang/Object;") ∈ bw := bw_of 264 (by decide +kernel) (by decide +kernel)
theorem bw_246 : (Jvm.Cond.superclass "java/lang/Throwable" "java/lang/Object") ∈ bw := bw_of 265 (by decide +kernel) (by decide +kernel)
theorem bw_247 : (Jvm.Cond.instanceMethod ({ cls := "java/lang/Throwable", name := "<init>", desc := "()V" } : Jvm.MethodName)) ∈ bw := bw_of 266 (by decide +kernel) (by decide +kernel)
theorem bw_248 : (Jvm.Cond.code ({ cls := "java/lang/Throwable", name := "<init>", desc := "()V" } : Jvm.MethodName) prog_13_method_1_code (1 : Nat) (Option.none : Option Jvm.ClassFile.FieldType)) ∈ bw := bw_of 267 (by decide +kernel) (by decide +kernel)
theorem bw_249 : (Jvm.Cond.methodLink "java/lang/Throwable" (1 : Nat) ({ cls := "java/lang/Object", name := "<init>", desc := "()V" } : Jvm.MethodName)) ∈ bw := bw_of 268 (by decide +kernel) (by decide +kernel)
theorem bw_250 : (Jvm.Cond.fieldLink "java/lang/Throwable" (13 : Nat) "java/lang/Throwable" "UNASSIGNED_STACK" "[Ljava/lang/StackTraceElement;") ∈ bw := bw_of 269 (by decide +kernel) (by decide +kernel)
theorem bw_252 : (Jvm.Cond.fieldLink "java/lang/Throwable" (20 : Nat) "java/lang/Throwable" "SUPPRESSED_SENTINEL" "Ljava/util/List;") ∈ bw := bw_of 271 (by decide +kernel) (by decide +kernel)
theorem bw_254 : (Jvm.Cond.methodLink "java/lang/Throwable" (27 : Nat) ({ cls := "java/lang/Throwable", name := "fillInStackTrace", desc := "()Ljava/lang/Throwable;" } : Jvm.MethodName)) ∈ bw := bw_of 273 (by decide +kernel) (by decide +kernel)
theorem bw_255 : (Jvm.Cond.instanceMethod ({ cls := "java/lang/Throwable", name := "fillInStackTrace", desc := "()Ljava/lang/Throwable;" } : Jvm.MethodName)) ∈ bw := bw_of 274 (by decide +kernel) (by decide +kernel)
theorem bw_258 : (Jvm.Cond.methodLink "java/lang/Throwable" (202 : Nat) ({ cls := "java/lang/Throwable", name := "fillInStackTrace", desc := "(I)Ljava/lang/Throwable;" } : Jvm.MethodName)) ∈ bw := bw_of 277 (by decide +kernel) (by decide +kernel)
theorem bw_260 : (Jvm.Cond.instanceMethod ({ cls := "java/lang/Throwable", name := "fillInStackTrace", desc := "(I)Ljava/lang/Throwable;" } : Jvm.MethodName)) ∈ bw := bw_of 279 (by decide +kernel) (by decide +kernel)
theorem bw_261 : (Jvm.Cond.instantiable "java/lang/Throwable" (6 : Nat)) ∈ bw := bw_of 280 (by decide +kernel) (by decide +kernel)
theorem bw_262 : (Jvm.Cond.native ({ cls := "java/lang/Throwable", name := "fillInStackTrace", desc := "(I)Ljava/lang/Throwable;" } : Jvm.MethodName)) ∈ bw := bw_of 281 (by decide +kernel) (by decide +kernel)
theorem bw_264 : (Jvm.Cond.methodLink "PlaceDesk" (105 : Nat) ({ cls := "java/lang/IllegalArgumentException", name := "<init>", desc := "(Ljava/lang/String;)V" } : Jvm.MethodName)) ∈ bw := bw_of 283 (by decide +kernel) (by decide +kernel)
theorem bw_265 : (Jvm.Cond.instanceMethod ({ cls := "java/lang/IllegalArgumentException", name := "<init>", desc := "(Ljava/lang/String;)V" } : Jvm.MethodName)) ∈ bw := bw_of 284 (by decide +kernel) (by decide +kernel)
theorem bw_266 : (Jvm.Cond.code ({ cls := "java/lang/IllegalArgumentException", name := "<init>", desc := "(Ljava/lang/String;)V" } : Jvm.MethodName) prog_8_method_2_code (2 : Nat) (Option.none : Option Jvm.ClassFile.FieldType)) ∈ bw := bw_of 285 (by decide +kernel) (by decide +kernel)
theorem bw_267 : (Jvm.Cond.methodLink "java/lang/IllegalArgumentException" (7 : Nat) ({ cls := "java/lang/RuntimeException", name := "<init>", desc := "(Ljava/lang/String;)V" } : Jvm.MethodName)) ∈ bw := bw_of 286 (by decide +kernel) (by decide +kernel)
theorem bw_268 : (Jvm.Cond.instanceMethod ({ cls := "java/lang/RuntimeException", name := "<init>", desc := "(Ljava/lang/String;)V" } : Jvm.MethodName)) ∈ bw := bw_of 287 (by decide +kernel) (by decide +kernel)
theorem bw_269 : (Jvm.Cond.code ({ cls := "java/lang/RuntimeException", name := "<init>", desc := "(Ljava/lang/String;)V" } : Jvm.MethodName) prog_10_method_2_code (2 : Nat) (Option.none : Option Jvm.ClassFile.FieldType)) ∈ bw := bw_of 288 (by decide +kernel) (by decide +kernel)
theorem bw_270 : (Jvm.Cond.methodLink "java/lang/RuntimeException" (7 : Nat) ({ cls := "java/lang/Exception", name := "<init>", desc := "(Ljava/lang/String;)V" } : Jvm.MethodName)) ∈ bw := bw_of 289 (by decide +kernel) (by decide +kernel)
theorem bw_271 : (Jvm.Cond.instanceMethod ({ cls := "java/lang/Exception", name := "<init>", desc := "(Ljava/lang/String;)V" } : Jvm.MethodName)) ∈ bw := bw_of 290 (by decide +kernel) (by decide +kernel)
theorem bw_272 : (Jvm.Cond.code ({ cls := "java/lang/Exception", name := "<init>", desc := "(Ljava/lang/String;)V" } : Jvm.MethodName) prog_7_method_2_code (2 : Nat) (Option.none : Option Jvm.ClassFile.FieldType)) ∈ bw := bw_of 291 (by decide +kernel) (by decide +kernel)
theorem bw_273 : (Jvm.Cond.methodLink "java/lang/Exception" (7 : Nat) ({ cls := "java/lang/Throwable", name := "<init>", desc := "(Ljava/lang/String;)V" } : Jvm.MethodName)) ∈ bw := bw_of 292 (by decide +kernel) (by decide +kernel)
theorem bw_274 : (Jvm.Cond.instanceMethod ({ cls := "java/lang/Throwable", name := "<init>", desc := "(Ljava/lang/String;)V" } : Jvm.MethodName)) ∈ bw := bw_of 293 (by decide +kernel) (by decide +kernel)
theorem bw_275 : (Jvm.Cond.code ({ cls := "java/lang/Throwable", name := "<init>", desc := "(Ljava/lang/String;)V" } : Jvm.MethodName) prog_13_method_2_code (2 : Nat) (Option.none : Option Jvm.ClassFile.FieldType)) ∈ bw := bw_of 294 (by decide +kernel) (by decide +kernel)
theorem bw_276 : (Jvm.Cond.fieldLink "java/lang/Throwable" (198 : Nat) "java/lang/Throwable" "backtrace" "Ljava/lang/Object;") ∈ bw := bw_of 295 (by decide +kernel) (by decide +kernel)
theorem bw_277 : (Jvm.Cond.fieldLink "java/lang/Throwable" (31 : Nat) "java/lang/Throwable" "detailMessage" "Ljava/lang/String;") ∈ bw := bw_of 296 (by decide +kernel) (by decide +kernel)
theorem bw_278 : (Jvm.Cond.fieldLink "java/lang/Throwable" (7 : Nat) "java/lang/Throwable" "cause" "Ljava/lang/Throwable;") ∈ bw := bw_of 297 (by decide +kernel) (by decide +kernel)
theorem bw_279 : (Jvm.Cond.fieldLink "java/lang/Throwable" (17 : Nat) "java/lang/Throwable" "stackTrace" "[Ljava/lang/StackTraceElement;") ∈ bw := bw_of 298 (by decide +kernel) (by decide +kernel)
theorem bw_280 : (Jvm.Cond.fieldLink "java/lang/Throwable" (24 : Nat) "java/lang/Throwable" "suppressedExceptions" "Ljava/util/List;") ∈ bw := bw_of 299 (by decide +kernel) (by decide +kernel)
theorem bw_281 : (Jvm.Cond.soleField "java/lang/Throwable" "backtrace") ∈ bw := bw_of 300 (by decide +kernel) (by decide +kernel)
theorem bw_282 : (Jvm.Cond.soleField "java/lang/Throwable" "detailMessage") ∈ bw := bw_of 301 (by decide +kernel) (by decide +kernel)
theorem bw_283 : (Jvm.Cond.soleField "java/lang/Throwable" "cause") ∈ bw := bw_of 302 (by decide +kernel) (by decide +kernel)
theorem bw_284 : (Jvm.Cond.soleField "java/lang/Throwable" "stackTrace") ∈ bw := bw_of 303 (by decide +kernel) (by decide +kernel)
theorem bw_285 : (Jvm.Cond.lays "java/lang/IllegalArgumentException" "java/lang/Throwable" "depth" "I") ∈ bw := bw_of 304 (by decide +kernel) (by decide +kernel)
theorem bw_286 : (Jvm.Cond.soleField "java/lang/Throwable" "depth") ∈ bw := bw_of 305 (by decide +kernel) (by decide +kernel)
theorem bw_287 : (Jvm.Cond.soleField "java/lang/Throwable" "suppressedExceptions") ∈ bw := bw_of 306 (by decide +kernel) (by decide +kernel)
theorem bw_288 : (Jvm.Cond.superclass "java/lang/IllegalArgumentException" "java/lang/RuntimeException") ∈ bw := bw_of 307 (by decide +kernel) (by decide +kernel)
theorem bw_289 : (Jvm.Cond.arrayClass Jvm.ClassFile.FieldType.byte) ∈ bw := bw_of 308 (by decide +kernel) (by decide +kernel)
theorem bw_290 : (Jvm.Cond.methodLink "PlaceDesk" (108 : Nat) ({ cls := "PlaceDesk", name := "isActOf", desc := "(II)Z" } : Jvm.MethodName)) ∈ bw := bw_of 309 (by decide +kernel) (by decide +kernel)
theorem bw_291 : (Jvm.Cond.static ({ cls := "PlaceDesk", name := "isActOf", desc := "(II)Z" } : Jvm.MethodName)) ∈ bw := bw_of 310 (by decide +kernel) (by decide +kernel)
theorem bw_292 : (Jvm.Cond.code ({ cls := "PlaceDesk", name := "isActOf", desc := "(II)Z" } : Jvm.MethodName) prog_1_method_17_code (2 : Nat) (Option.some Jvm.ClassFile.FieldType.boolean)) ∈ bw := bw_of 311 (by decide +kernel) (by decide +kernel)
theorem bw_294 : (Jvm.Cond.methodLink "PlaceDesk" (113 : Nat) ({ cls := "PlaceDesk", name := "isValue", desc := "(IJ)Z" } : Jvm.MethodName)) ∈ bw := bw_of 313 (by decide +kernel) (by decide +kernel)
theorem bw_296 : (Jvm.Cond.instanceMethod ({ cls := "PlaceDesk", name := "isValue", desc := "(IJ)Z" } : Jvm.MethodName)) ∈ bw := bw_of 315 (by decide +kernel) (by decide +kernel)
theorem bw_297 : (Jvm.Cond.code ({ cls := "PlaceDesk", name := "isValue", desc := "(IJ)Z" } : Jvm.MethodName) prog_1_method_18_code (4 : Nat) (Option.some Jvm.ClassFile.FieldType.boolean)) ∈ bw := bw_of 316 (by decide +kernel) (by decide +kernel)
theorem bw_298 : (Jvm.Cond.methodLink "PlaceDesk" (148 : Nat) ({ cls := "PlaceDesk", name := "lowestBits", desc := "(IJ)J" } : Jvm.MethodName)) ∈ bw := bw_of 317 (by decide +kernel) (by decide +kernel)
theorem bw_299 : (Jvm.Cond.static ({ cls := "PlaceDesk", name := "lowestBits", desc := "(IJ)J" } : Jvm.MethodName)) ∈ bw := bw_of 318 (by decide +kernel) (by decide +kernel)
theorem bw_300 : (Jvm.Cond.code ({ cls := "PlaceDesk", name := "lowestBits", desc := "(IJ)J" } : Jvm.MethodName) prog_1_method_19_code (3 : Nat) (Option.some Jvm.ClassFile.FieldType.long)) ∈ bw := bw_of 319 (by decide +kernel) (by decide +kernel)
theorem bw_301 : (Jvm.Cond.constantLong "PlaceDesk" (152 : Nat) (65535 : Int64)) ∈ bw := bw_of 320 (by decide +kernel) (by decide +kernel)
theorem bw_304 : (Jvm.Cond.methodLink "PlaceDesk" (121 : Nat) ({ cls := "PlaceDesk", name := "perform", desc := "(LPlaceDesk$Spot;IJJ)J" } : Jvm.MethodName)) ∈ bw := bw_of 323 (by decide +kernel) (by decide +kernel)
theorem bw_306 : (Jvm.Cond.instanceMethod ({ cls := "PlaceDesk", name := "perform", desc := "(LPlaceDesk$Spot;IJJ)J" } : Jvm.MethodName)) ∈ bw := bw_of 325 (by decide +kernel) (by decide +kernel)
theorem bw_307 : (Jvm.Cond.code ({ cls := "PlaceDesk", name := "perform", desc := "(LPlaceDesk$Spot;IJJ)J" } : Jvm.MethodName) prog_1_method_26_code (9 : Nat) (Option.some Jvm.ClassFile.FieldType.long)) ∈ bw := bw_of 326 (by decide +kernel) (by decide +kernel)
theorem bw_308 : (Jvm.Cond.methodLink "PlaceDesk" (160 : Nat) ({ cls := "PlaceDesk", name := "read", desc := "(LPlaceDesk$Spot;)J" } : Jvm.MethodName)) ∈ bw := bw_of 327 (by decide +kernel) (by decide +kernel)
theorem bw_310 : (Jvm.Cond.instanceMethod ({ cls := "PlaceDesk", name := "read", desc := "(LPlaceDesk$Spot;)J" } : Jvm.MethodName)) ∈ bw := bw_of 329 (by decide +kernel) (by decide +kernel)
theorem bw_311 : (Jvm.Cond.code ({ cls := "PlaceDesk", name := "read", desc := "(LPlaceDesk$Spot;)J" } : Jvm.MethodName) prog_1_method_27_code (5 : Nat) (Option.some Jvm.ClassFile.FieldType.long)) ∈ bw := bw_of 330 (by decide +kernel) (by decide +kernel)
theorem bw_312 : (Jvm.Cond.methodLink "PlaceDesk" (178 : Nat) ({ cls := "PlaceDesk$Spot", name := "indexOfByte", desc := "(I)I" } : Jvm.MethodName)) ∈ bw := bw_of 331 (by decide +kernel) (by decide +kernel)
theorem bw_313 : (Jvm.Cond.instanceMethod ({ cls := "PlaceDesk$Spot", name := "indexOfByte", desc := "(I)I" } : Jvm.MethodName)) ∈ bw := bw_of 332 (by decide +kernel) (by decide +kernel)
theorem bw_314 : (Jvm.Cond.selects "PlaceDesk$Spot" ({ cls := "PlaceDesk$Spot", name := "indexOfByte", desc := "(I)I" } : Jvm.MethodName) ({ cls := "PlaceDesk$Spot", name := "indexOfByte", desc := "(I)I" } : Jvm.MethodName)) ∈ bw := bw_of 333 (by decide +kernel) (by decide +kernel)
theorem bw_315 : (Jvm.Cond.code ({ cls := "PlaceDesk$Spot", name := "indexOfByte", desc := "(I)I" } : Jvm.MethodName) prog_3_method_2_code (2 : Nat) (Option.some Jvm.ClassFile.FieldType.int)) ∈ bw := bw_of 334 (by decide +kernel) (by decide +kernel)
theorem bw_316 : (Jvm.Cond.constantLong "PlaceDesk" (181 : Nat) (255 : Int64)) ∈ bw := bw_of 335 (by decide +kernel) (by decide +kernel)
theorem bw_317 : (Jvm.Cond.methodLink "PlaceDesk" (164 : Nat) ({ cls := "PlaceDesk", name := "write", desc := "(LPlaceDesk$Spot;J)V" } : Jvm.MethodName)) ∈ bw := bw_of 336 (by decide +kernel) (by decide +kernel)
theorem bw_319 : (Jvm.Cond.instanceMethod ({ cls := "PlaceDesk", name := "write", desc := "(LPlaceDesk$Spot;J)V" } : Jvm.MethodName)) ∈ bw := bw_of 338 (by decide +kernel) (by decide +kernel)
theorem bw_320 : (Jvm.Cond.code ({ cls := "PlaceDesk", name := "write", desc := "(LPlaceDesk$Spot;J)V" } : Jvm.MethodName) prog_1_method_28_code (7 : Nat) (Option.none : Option Jvm.ClassFile.FieldType)) ∈ bw := bw_of 339 (by decide +kernel) (by decide +kernel)
theorem bw_321 : (Jvm.Cond.methodLink "PlaceDesk" (168 : Nat) ({ cls := "java/lang/Math", name := "max", desc := "(JJ)J" } : Jvm.MethodName)) ∈ bw := bw_of 340 (by decide +kernel) (by decide +kernel)
theorem bw_322 : (Jvm.Cond.static ({ cls := "java/lang/Math", name := "max", desc := "(JJ)J" } : Jvm.MethodName)) ∈ bw := bw_of 341 (by decide +kernel) (by decide +kernel)
theorem bw_323 : (Jvm.Cond.code ({ cls := "java/lang/Math", name := "max", desc := "(JJ)J" } : Jvm.MethodName) prog_9_method_66_code (4 : Nat) (Option.some Jvm.ClassFile.FieldType.long)) ∈ bw := bw_of 342 (by decide +kernel) (by decide +kernel)
theorem bw_324 : (Jvm.Cond.classLink "PlaceDeskLaw" (16 : Nat) "PlaceDeskModel") ∈ bw := bw_of 343 (by decide +kernel) (by decide +kernel)
theorem bw_325 : (Jvm.Cond.instantiable "PlaceDeskModel" (18 : Nat)) ∈ bw := bw_of 344 (by decide +kernel) (by decide +kernel)
theorem bw_326 : (Jvm.Cond.methodLink "PlaceDeskLaw" (18 : Nat) ({ cls := "PlaceDeskModel", name := "<init>", desc := "()V" } : Jvm.MethodName)) ∈ bw := bw_of 345 (by decide +kernel) (by decide +kernel)
theorem bw_327 : (Jvm.Cond.instanceMethod ({ cls := "PlaceDeskModel", name := "<init>", desc := "()V" } : Jvm.MethodName)) ∈ bw := bw_of 346 (by decide +kernel) (by decide +kernel)
theorem bw_328 : (Jvm.Cond.code ({ cls := "PlaceDeskModel", name := "<init>", desc := "()V" } : Jvm.MethodName) prog_6_method_1_code (1 : Nat) (Option.none : Option Jvm.ClassFile.FieldType)) ∈ bw := bw_of 347 (by decide +kernel) (by decide +kernel)
theorem bw_329 : (Jvm.Cond.methodLink "PlaceDeskModel" (1 : Nat) ({ cls := "java/lang/Object", name := "<init>", desc := "()V" } : Jvm.MethodName)) ∈ bw := bw_of 348 (by decide +kernel) (by decide +kernel)
theorem bw_330 : (Jvm.Cond.constant "PlaceDeskModel" (42 : Nat) (80000 : Int32)) ∈ bw := bw_of 349 (by decide +kernel) (by decide +kernel)
theorem bw_331 : (Jvm.Cond.fieldLink "PlaceDeskModel" (7 : Nat) "PlaceDeskModel" "element" "[J") ∈ bw := bw_of 350 (by decide +kernel) (by decide +kernel)
theorem bw_332 : (Jvm.Cond.fieldLink "PlaceDeskModel" (13 : Nat) "PlaceDeskModel" "elementKind" "[I") ∈ bw := bw_of 351 (by decide +kernel) (by decide +kernel)
theorem bw_333 : (Jvm.Cond.fieldLink "PlaceDeskModel" (56 : Nat) "PlaceDeskModel" "elements" "I") ∈ bw := bw_of 352 (by decide +kernel) (by decide +kernel)
theorem bw_334 : (Jvm.Cond.fieldLink "PlaceDeskModel" (17 : Nat) "PlaceDeskModel" "begins" "[I") ∈ bw := bw_of 353 (by decide +kernel) (by decide +kernel)
theorem bw_335 : (Jvm.Cond.fieldLink "PlaceDeskModel" (20 : Nat) "PlaceDeskModel" "sizes" "[I") ∈ bw := bw_of 354 (by decide +kernel) (by decide +kernel)
theorem bw_336 : (Jvm.Cond.fieldLink "PlaceDeskModel" (23 : Nat) "PlaceDeskModel" "kind" "[I") ∈ bw := bw_of 355 (by decide +kernel) (by decide +kernel)
theorem bw_337 : (Jvm.Cond.fieldLink "PlaceDeskModel" (53 : Nat) "PlaceDeskModel" "objects" "I") ∈ bw := bw_of 356 (by decide +kernel) (by decide +kernel)
theorem bw_338 : (Jvm.Cond.fieldLink "PlaceDeskModel" (26 : Nat) "PlaceDeskModel" "row" "[I") ∈ bw := bw_of 357 (by decide +kernel) (by decide +kernel)
theorem bw_339 : (Jvm.Cond.fieldLink "PlaceDeskModel" (69 : Nat) "PlaceDeskModel" "rowSize" "I") ∈ bw := bw_of 358 (by decide +kernel) (by decide +kernel)
theorem bw_340 : (Jvm.Cond.fieldLink "PlaceDeskModel" (29 : Nat) "PlaceDeskModel" "placeAt" "[I") ∈ bw := bw_of 359 (by decide +kernel) (by decide +kernel)
theorem bw_341 : (Jvm.Cond.fieldLink "PlaceDeskModel" (32 : Nat) "PlaceDeskModel" "placeKind" "[I") ∈ bw := bw_of 360 (by decide +kernel) (by decide +kernel)
theorem bw_342 : (Jvm.Cond.fieldLink "PlaceDeskModel" (35 : Nat) "PlaceDeskModel" "width" "[I") ∈ bw := bw_of 361 (by decide +kernel) (by decide +kernel)
theorem bw_343 : (Jvm.Cond.fieldLink "PlaceDeskModel" (38 : Nat) "PlaceDeskModel" "low" "[Z") ∈ bw := bw_of 362 (by decide +kernel) (by decide +kernel)
theorem bw_344 : (Jvm.Cond.fieldLink "PlaceDeskModel" (75 : Nat) "PlaceDeskModel" "places" "I") ∈ bw := bw_of 363 (by decide +kernel) (by decide +kernel)
theorem bw_345 : (Jvm.Cond.fieldLink "PlaceDeskModel" (43 : Nat) "PlaceDeskModel" "kept" "[J") ∈ bw := bw_of 364 (by decide +kernel) (by decide +kernel)
theorem bw_346 : (Jvm.Cond.fieldLink "PlaceDeskModel" (46 : Nat) "PlaceDeskModel" "keptSize" "[I") ∈ bw := bw_of 365 (by decide +kernel) (by decide +kernel)
theorem bw_347 : (Jvm.Cond.fieldLink "PlaceDeskModel" (105 : Nat) "PlaceDeskModel" "marks" "I") ∈ bw := bw_of 366 (by decide +kernel) (by decide +kernel)
theorem bw_348 : (Jvm.Cond.fieldLink "PlaceDeskModel" (49 : Nat) "PlaceDeskModel" "thrown" "I") ∈ bw := bw_of 367 (by decide +kernel) (by decide +kernel)
theorem bw_349 : (Jvm.Cond.laysFinal "PlaceDeskModel" "PlaceDeskModel" "element" "[J") ∈ bw := bw_of 368 (by decide +kernel) (by decide +kernel)
theorem bw_350 : (Jvm.Cond.soleField "PlaceDeskModel" "element") ∈ bw := bw_of 369 (by decide +kernel) (by decide +kernel)
theorem bw_351 : (Jvm.Cond.laysFinal "PlaceDeskModel" "PlaceDeskModel" "elementKind" "[I") ∈ bw := bw_of 370 (by decide +kernel) (by decide +kernel)
theorem bw_352 : (Jvm.Cond.soleField "PlaceDeskModel" "elementKind") ∈ bw := bw_of 371 (by decide +kernel) (by decide +kernel)
theorem bw_353 : (Jvm.Cond.lays "PlaceDeskModel" "PlaceDeskModel" "elements" "I") ∈ bw := bw_of 372 (by decide +kernel) (by decide +kernel)
theorem bw_354 : (Jvm.Cond.soleField "PlaceDeskModel" "elements") ∈ bw := bw_of 373 (by decide +kernel) (by decide +kernel)
theorem bw_355 : (Jvm.Cond.laysFinal "PlaceDeskModel" "PlaceDeskModel" "begins" "[I") ∈ bw := bw_of 374 (by decide +kernel) (by decide +kernel)
theorem bw_356 : (Jvm.Cond.soleField "PlaceDeskModel" "begins") ∈ bw := bw_of 375 (by decide +kernel) (by decide +kernel)
theorem bw_357 : (Jvm.Cond.laysFinal "PlaceDeskModel" "PlaceDeskModel" "sizes" "[I") ∈ bw := bw_of 376 (by decide +kernel) (by decide +kernel)
theorem bw_358 : (Jvm.Cond.soleField "PlaceDeskModel" "sizes") ∈ bw := bw_of 377 (by decide +kernel) (by decide +kernel)
theorem bw_359 : (Jvm.Cond.laysFinal "PlaceDeskModel" "PlaceDeskModel" "kind" "[I") ∈ bw := bw_of 378 (by decide +kernel) (by decide +kernel)
theorem bw_360 : (Jvm.Cond.soleField "PlaceDeskModel" "kind") ∈ bw := bw_of 379 (by decide +kernel) (by decide +kernel)
theorem bw_361 : (Jvm.Cond.lays "PlaceDeskModel" "PlaceDeskModel" "objects" "I") ∈ bw := bw_of 380 (by decide +kernel) (by decide +kernel)
theorem bw_362 : (Jvm.Cond.soleField "PlaceDeskModel" "objects") ∈ bw := bw_of 381 (by decide +kernel) (by decide +kernel)
theorem bw_363 : (Jvm.Cond.laysFinal "PlaceDeskModel" "PlaceDeskModel" "row" "[I") ∈ bw := bw_of 382 (by decide +kernel) (by decide +kernel)
theorem bw_364 : (Jvm.Cond.soleField "PlaceDeskModel" "row") ∈ bw := bw_of 383 (by decide +kernel) (by decide +kernel)
theorem bw_365 : (Jvm.Cond.lays "PlaceDeskModel" "PlaceDeskModel" "rowSize" "I") ∈ bw := bw_of 384 (by decide +kernel) (by decide +kernel)
theorem bw_366 : (Jvm.Cond.soleField "PlaceDeskModel" "rowSize") ∈ bw := bw_of 385 (by decide +kernel) (by decide +kernel)
theorem bw_367 : (Jvm.Cond.laysFinal "PlaceDeskModel" "PlaceDeskModel" "placeAt" "[I") ∈ bw := bw_of 386 (by decide +kernel) (by decide +kernel)
theorem bw_368 : (Jvm.Cond.soleField "PlaceDeskModel" "placeAt") ∈ bw := bw_of 387 (by decide +kernel) (by decide +kernel)
theorem bw_369 : (Jvm.Cond.laysFinal "PlaceDeskModel" "PlaceDeskModel" "placeKind" "[I") ∈ bw := bw_of 388 (by decide +kernel) (by decide +kernel)
theorem bw_370 : (Jvm.Cond.soleField "PlaceDeskModel" "placeKind") ∈ bw := bw_of 389 (by decide +kernel) (by decide +kernel)
theorem bw_371 : (Jvm.Cond.laysFinal "PlaceDeskModel" "PlaceDeskModel" "width" "[I") ∈ bw := bw_of 390 (by decide +kernel) (by decide +kernel)
theorem bw_372 : (Jvm.Cond.soleField "PlaceDeskModel" "width") ∈ bw := bw_of 391 (by decide +kernel) (by decide +kernel)
theorem bw_373 : (Jvm.Cond.laysFinal "PlaceDeskModel" "PlaceDeskModel" "low" "[Z") ∈ bw := bw_of 392 (by decide +kernel) (by decide +kernel)
theorem bw_374 : (Jvm.Cond.soleField "PlaceDeskModel" "low") ∈ bw := bw_of 393 (by decide +kernel) (by decide +kernel)
theorem bw_375 : (Jvm.Cond.lays "PlaceDeskModel" "PlaceDeskModel" "places" "I") ∈ bw := bw_of 394 (by decide +kernel) (by decide +kernel)
theorem bw_376 : (Jvm.Cond.soleField "PlaceDeskModel" "places") ∈ bw := bw_of 395 (by decide +kernel) (by decide +kernel)
theorem bw_377 : (Jvm.Cond.laysFinal "PlaceDeskModel" "PlaceDeskModel" "kept" "[J") ∈ bw := bw_of 396 (by decide +kernel) (by decide +kernel)
theorem bw_378 : (Jvm.Cond.soleField "PlaceDeskModel" "kept") ∈ bw := bw_of 397 (by decide +kernel) (by decide +kernel)
theorem bw_379 : (Jvm.Cond.laysFinal "PlaceDeskModel" "PlaceDeskModel" "keptSize" "[I") ∈ bw := bw_of 398 (by decide +kernel) (by decide +kernel)
theorem bw_380 : (Jvm.Cond.soleField "PlaceDeskModel" "keptSize") ∈ bw := bw_of 399 (by decide +kernel) (by decide +kernel)
theorem bw_381 : (Jvm.Cond.lays "PlaceDeskModel" "PlaceDeskModel" "marks" "I") ∈ bw := bw_of 400 (by decide +kernel) (by decide +kernel)
theorem bw_382 : (Jvm.Cond.soleField "PlaceDeskModel" "marks") ∈ bw := bw_of 401 (by decide +kernel) (by decide +kernel)
theorem bw_383 : (Jvm.Cond.lays "PlaceDeskModel" "PlaceDeskModel" "thrown" "I") ∈ bw := bw_of 402 (by decide +kernel) (by decide +kernel)
theorem bw_384 : (Jvm.Cond.soleField "PlaceDeskModel" "thrown") ∈ bw := bw_of 403 (by decide +kernel) (by decide +kernel)
theorem bw_385 : (Jvm.Cond.superclass "PlaceDeskModel" "java/lang/Object") ∈ bw := bw_of 404 (by decide +kernel) (by decide +kernel)
theorem bw_386 : (Jvm.Cond.arrayClass Jvm.ClassFile.FieldType.boolean) ∈ bw := bw_of 405 (by decide +kernel) (by decide +kernel)
theorem bw_387 : (Jvm.Cond.methodLink "PlaceDeskLaw" (60 : Nat) ({ cls := "PlaceDeskModel", name := "thrown", desc := "()I" } : Jvm.MethodName)) ∈ bw := bw_of 406 (by decide +kernel) (by decide +kernel)
theorem bw_388 : (Jvm.Cond.instanceMethod ({ cls := "PlaceDeskModel", name := "thrown", desc := "()I" } : Jvm.MethodName)) ∈ bw := bw_of 407 (by decide +kernel) (by decide +kernel)
theorem bw_389 : (Jvm.Cond.selects "PlaceDeskModel" ({ cls := "PlaceDeskModel", name := "thrown", desc := "()I" } : Jvm.MethodName) ({ cls := "PlaceDeskModel", name := "thrown", desc := "()I" } : Jvm.MethodName)) ∈ bw := bw_of 408 (by decide +kernel) (by decide +kernel)
theorem bw_390 : (Jvm.Cond.code ({ cls := "PlaceDeskModel", name := "thrown", desc := "()I" } : Jvm.MethodName) prog_6_method_2_code (1 : Nat) (Option.some Jvm.ClassFile.FieldType.int)) ∈ bw := bw_of 409 (by decide +kernel) (by decide +kernel)
theorem bw_391 : (Jvm.Cond.methodLink "PlaceDeskLaw" (23 : Nat) ({ cls := "PlaceDeskModel", name := "row", desc := "(II)I" } : Jvm.MethodName)) ∈ bw := bw_of 410 (by decide +kernel) (by decide +kernel)
theorem bw_392 : (Jvm.Cond.instanceMethod ({ cls := "PlaceDeskModel", name := "row", desc := "(II)I" } : Jvm.MethodName)) ∈ bw := bw_of 411 (by decide +kernel) (by decide +kernel)
theorem bw_393 : (Jvm.Cond.selects "PlaceDeskModel" ({ cls := "PlaceDeskModel", name := "row", desc := "(II)I" } : Jvm.MethodName) ({ cls := "PlaceDeskModel", name := "row", desc := "(II)I" } : Jvm.MethodName)) ∈ bw := bw_of 412 (by decide +kernel) (by decide +kernel)
theorem bw_394 : (Jvm.Cond.code ({ cls := "PlaceDeskModel", name := "row", desc := "(II)I" } : Jvm.MethodName) prog_6_method_5_code (3 : Nat) (Option.some Jvm.ClassFile.FieldType.int)) ∈ bw := bw_of 413 (by decide +kernel) (by decide +kernel)
theorem bw_395 : (Jvm.Cond.methodLink "PlaceDeskModel" (61 : Nat) ({ cls := "PlaceDeskModel", name := "isKind", desc := "(I)Z" } : Jvm.MethodName)) ∈ bw := bw_of 414 (by decide +kernel) (by decide +kernel)
theorem bw_396 : (Jvm.Cond.static ({ cls := "PlaceDeskModel", name := "isKind", desc := "(I)Z" } : Jvm.MethodName)) ∈ bw := bw_of 415 (by decide +kernel) (by decide +kernel)
theorem bw_397 : (Jvm.Cond.code ({ cls := "PlaceDeskModel", name := "isKind", desc := "(I)Z" } : Jvm.MethodName) prog_6_method_3_code (1 : Nat) (Option.some Jvm.ClassFile.FieldType.boolean)) ∈ bw := bw_of 416 (by decide +kernel) (by decide +kernel)
theorem bw_398 : (Jvm.Cond.methodLink "PlaceDeskModel" (65 : Nat) ({ cls := "PlaceDeskModel", name := "newObject", desc := "(II)I" } : Jvm.MethodName)) ∈ bw := bw_of 417 (by decide +kernel) (by decide +kernel)
theorem bw_400 : (Jvm.Cond.instanceMethod ({ cls := "PlaceDeskModel", name := "newObject", desc := "(II)I" } : Jvm.MethodName)) ∈ bw := bw_of 419 (by decide +kernel) (by decide +kernel)
theorem bw_401 : (Jvm.Cond.code ({ cls := "PlaceDeskModel", name := "newObject", desc := "(II)I" } : Jvm.MethodName) prog_6_method_4_code (4 : Nat) (Option.some Jvm.ClassFile.FieldType.int)) ∈ bw := bw_of 420 (by decide +kernel) (by decide +kernel)
theorem bw_402 : (Jvm.Cond.constantLong "PlaceDeskModel" (59 : Nat) (-1 : Int64)) ∈ bw := bw_of 421 (by decide +kernel) (by decide +kernel)
theorem bw_403 : (Jvm.Cond.methodLink "PlaceDeskLaw" (28 : Nat) ({ cls := "PlaceDeskModel", name := "put", desc := "(I)Z" } : Jvm.MethodName)) ∈ bw := bw_of 422 (by decide +kernel) (by decide +kernel)
theorem bw_404 : (Jvm.Cond.instanceMethod ({ cls := "PlaceDeskModel", name := "put", desc := "(I)Z" } : Jvm.MethodName)) ∈ bw := bw_of 423 (by decide +kernel) (by decide +kernel)
theorem bw_405 : (Jvm.Cond.selects "PlaceDeskModel" ({ cls := "PlaceDeskModel", name := "put", desc := "(I)Z" } : Jvm.MethodName) ({ cls := "PlaceDeskModel", name := "put", desc := "(I)Z" } : Jvm.MethodName)) ∈ bw := bw_of 424 (by decide +kernel) (by decide +kernel)
theorem bw_406 : (Jvm.Cond.code ({ cls := "PlaceDeskModel", name := "put", desc := "(I)Z" } : Jvm.MethodName) prog_6_method_6_code (2 : Nat) (Option.some Jvm.ClassFile.FieldType.boolean)) ∈ bw := bw_of 425 (by decide +kernel) (by decide +kernel)
theorem bw_407 : (Jvm.Cond.methodLink "PlaceDeskLaw" (33 : Nat) ({ cls := "PlaceDeskModel", name := "instance", desc := "()I" } : Jvm.MethodName)) ∈ bw := bw_of 426 (by decide +kernel) (by decide +kernel)
theorem bw_408 : (Jvm.Cond.instanceMethod ({ cls := "PlaceDeskModel", name := "instance", desc := "()I" } : Jvm.MethodName)) ∈ bw := bw_of 427 (by decide +kernel) (by decide +kernel)
theorem bw_409 : (Jvm.Cond.selects "PlaceDeskModel" ({ cls := "PlaceDeskModel", name := "instance", desc := "()I" } : Jvm.MethodName) ({ cls := "PlaceDeskModel", name := "instance", desc := "()I" } : Jvm.MethodName)) ∈ bw := bw_of 428 (by decide +kernel) (by decide +kernel)
theorem bw_410 : (Jvm.Cond.code ({ cls := "PlaceDeskModel", name := "instance", desc := "()I" } : Jvm.MethodName) prog_6_method_7_code (2 : Nat) (Option.some Jvm.ClassFile.FieldType.int)) ∈ bw := bw_of 429 (by decide +kernel) (by decide +kernel)
theorem bw_411 : (Jvm.Cond.methodLink "PlaceDeskLaw" (37 : Nat) ({ cls := "PlaceDeskModel", name := "object", desc := "(II)I" } : Jvm.MethodName)) ∈ bw := bw_of 430 (by decide +kernel) (by decide +kernel)
theorem bw_412 : (Jvm.Cond.instanceMethod ({ cls := "PlaceDeskModel", name := "object", desc := "(II)I" } : Jvm.MethodName)) ∈ bw := bw_of 431 (by decide +kernel) (by decide +kernel)
theorem bw_413 : (Jvm.Cond.selects "PlaceDeskModel" ({ cls := "PlaceDeskModel", name := "object", desc := "(II)I" } : Jvm.MethodName) ({ cls := "PlaceDeskModel", name := "object", desc := "(II)I" } : Jvm.MethodName)) ∈ bw := bw_of 432 (by decide +kernel) (by decide +kernel)
theorem bw_414 : (Jvm.Cond.code ({ cls := "PlaceDeskModel", name := "object", desc := "(II)I" } : Jvm.MethodName) prog_6_method_9_code (3 : Nat) (Option.some Jvm.ClassFile.FieldType.int)) ∈ bw := bw_of 433 (by decide +kernel) (by decide +kernel)
theorem bw_415 : (Jvm.Cond.methodLink "PlaceDeskModel" (72 : Nat) ({ cls := "PlaceDeskModel", name := "isObject", desc := "(I)Z" } : Jvm.MethodName)) ∈ bw := bw_of 434 (by decide +kernel) (by decide +kernel)
theorem bw_417 : (Jvm.Cond.instanceMethod ({ cls := "PlaceDeskModel", name := "isObject", desc := "(I)Z" } : Jvm.MethodName)) ∈ bw := bw_of 436 (by decide +kernel) (by decide +kernel)
theorem bw_418 : (Jvm.Cond.code ({ cls := "PlaceDeskModel", name := "isObject", desc := "(I)Z" } : Jvm.MethodName) prog_6_method_8_code (2 : Nat) (Option.some Jvm.ClassFile.FieldType.boolean)) ∈ bw := bw_of 437 (by decide +kernel) (by decide +kernel)
theorem bw_419 : (Jvm.Cond.methodLink "PlaceDeskLaw" (41 : Nat) ({ cls := "PlaceDeskModel", name := "place", desc := "(II)I" } : Jvm.MethodName)) ∈ bw := bw_of 438 (by decide +kernel) (by decide +kernel)
theorem bw_420 : (Jvm.Cond.instanceMethod ({ cls := "PlaceDeskModel", name := "place", desc := "(II)I" } : Jvm.MethodName)) ∈ bw := bw_of 439 (by decide +kernel) (by decide +kernel)
theorem bw_421 : (Jvm.Cond.selects "PlaceDeskModel" ({ cls := "PlaceDeskModel", name := "place", desc := "(II)I" } : Jvm.MethodName) ({ cls := "PlaceDeskModel", name := "place", desc := "(II)I" } : Jvm.MethodName)) ∈ bw := bw_of 440 (by decide +kernel) (by decide +kernel)
theorem bw_422 : (Jvm.Cond.code ({ cls := "PlaceDeskModel", name := "place", desc := "(II)I" } : Jvm.MethodName) prog_6_method_11_code (3 : Nat) (Option.some Jvm.ClassFile.FieldType.int)) ∈ bw := bw_of 441 (by decide +kernel) (by decide +kernel)
theorem bw_423 : (Jvm.Cond.methodLink "PlaceDeskModel" (78 : Nat) ({ cls := "PlaceDeskModel", name := "newPlace", desc := "(IIIZ)I" } : Jvm.MethodName)) ∈ bw := bw_of 442 (by decide +kernel) (by decide +kernel)
theorem bw_425 : (Jvm.Cond.instanceMethod ({ cls := "PlaceDeskModel", name := "newPlace", desc := "(IIIZ)I" } : Jvm.MethodName)) ∈ bw := bw_of 444 (by decide +kernel) (by decide +kernel)
theorem bw_426 : (Jvm.Cond.code ({ cls := "PlaceDeskModel", name := "newPlace", desc := "(IIIZ)I" } : Jvm.MethodName) prog_6_method_10_code (5 : Nat) (Option.some Jvm.ClassFile.FieldType.int)) ∈ bw := bw_of 445 (by decide +kernel) (by decide +kernel)
theorem bw_427 : (Jvm.Cond.methodLink "PlaceDeskLaw" (46 : Nat) ({ cls := "PlaceDeskModel", name := "view", desc := "(IIIZ)I" } : Jvm.MethodName)) ∈ bw := bw_of 446 (by decide +kernel) (by decide +kernel)
theorem bw_428 : (Jvm.Cond.instanceMethod ({ cls := "PlaceDeskModel", name := "view", desc := "(IIIZ)I" } : Jvm.MethodName)) ∈ bw := bw_of 447 (by decide +kernel) (by decide +kernel)
theorem bw_429 : (Jvm.Cond.selects "PlaceDeskModel" ({ cls := "PlaceDeskModel", name := "view", desc := "(IIIZ)I" } : Jvm.MethodName) ({ cls := "PlaceDeskModel", name := "view", desc := "(IIIZ)I" } : Jvm.MethodName)) ∈ bw := bw_of 448 (by decide +kernel) (by decide +kernel)
theorem bw_430 : (Jvm.Cond.code ({ cls := "PlaceDeskModel", name := "view", desc := "(IIIZ)I" } : Jvm.MethodName) prog_6_method_12_code (6 : Nat) (Option.some Jvm.ClassFile.FieldType.int)) ∈ bw := bw_of 449 (by decide +kernel) (by decide +kernel)
theorem bw_431 : (Jvm.Cond.methodLink "PlaceDeskLaw" (51 : Nat) ({ cls := "PlaceDeskModel", name := "kindOf", desc := "(I)I" } : Jvm.MethodName)) ∈ bw := bw_of 450 (by decide +kernel) (by decide +kernel)
theorem bw_432 : (Jvm.Cond.instanceMethod ({ cls := "PlaceDeskModel", name := "kindOf", desc := "(I)I" } : Jvm.MethodName)) ∈ bw := bw_of 451 (by decide +kernel) (by decide +kernel)
theorem bw_433 : (Jvm.Cond.selects "PlaceDeskModel" ({ cls := "PlaceDeskModel", name := "kindOf", desc := "(I)I" } : Jvm.MethodName) ({ cls := "PlaceDeskModel", name := "kindOf", desc := "(I)I" } : Jvm.MethodName)) ∈ bw := bw_of 452 (by decide +kernel) (by decide +kernel)
theorem bw_434 : (Jvm.Cond.code ({ cls := "PlaceDeskModel", name := "kindOf", desc := "(I)I" } : Jvm.MethodName) prog_6_method_14_code (2 : Nat) (Option.some Jvm.ClassFile.FieldType.int)) ∈ bw := bw_of 453 (by decide +kernel) (by decide +kernel)
theorem bw_435 : (Jvm.Cond.methodLink "PlaceDeskModel" (82 : Nat) ({ cls := "PlaceDeskModel", name := "isPlace", desc := "(I)Z" } : Jvm.MethodName)) ∈ bw := bw_of 454 (by decide +kernel) (by decide +kernel)
theorem bw_437 : (Jvm.Cond.instanceMethod ({ cls := "PlaceDeskModel", name := "isPlace", desc := "(I)Z" } : Jvm.MethodName)) ∈ bw := bw_of 456 (by decide +kernel) (by decide +kernel)
theorem bw_438 : (Jvm.Cond.code ({ cls := "PlaceDeskModel", name := "isPlace", desc := "(I)Z" } : Jvm.MethodName) prog_6_method_13_code (2 : Nat) (Option.some Jvm.ClassFile.FieldType.boolean)) ∈ bw := bw_of 457 (by decide +kernel) (by decide +kernel)
theorem bw_439 : (Jvm.Cond.methodLink "PlaceDeskLaw" (59 : Nat) ({ cls := "PlaceDeskModel", name := "act", desc := "(IIJJ)J" } : Jvm.MethodName)) ∈ bw := bw_of 458 (by decide +kernel) (by decide +kernel)
theorem bw_440 : (Jvm.Cond.instanceMethod ({ cls := "PlaceDeskModel", name := "act", desc := "(IIJJ)J" } : Jvm.MethodName)) ∈ bw := bw_of 459 (by decide +kernel) (by decide +kernel)
theorem bw_441 : (Jvm.Cond.selects "PlaceDeskModel" ({ cls := "PlaceDeskModel", name := "act", desc := "(IIJJ)J" } : Jvm.MethodName) ({ cls := "PlaceDeskModel", name := "act", desc := "(IIJJ)J" } : Jvm.MethodName)) ∈ bw := bw_of 460 (by decide +kernel) (by decide +kernel)
theorem bw_442 : (Jvm.Cond.code ({ cls := "PlaceDeskModel", name := "act", desc := "(IIJJ)J" } : Jvm.MethodName) prog_6_method_19_code (11 : Nat) (Option.some Jvm.ClassFile.FieldType.long)) ∈ bw := bw_of 461 (by decide +kernel) (by decide +kernel)
theorem bw_443 : (Jvm.Cond.methodLink "PlaceDeskModel" (93 : Nat) ({ cls := "PlaceDeskModel", name := "isValue", desc := "(IJ)Z" } : Jvm.MethodName)) ∈ bw := bw_of 462 (by decide +kernel) (by decide +kernel)
theorem bw_445 : (Jvm.Cond.instanceMethod ({ cls := "PlaceDeskModel", name := "isValue", desc := "(IJ)Z" } : Jvm.MethodName)) ∈ bw := bw_of 464 (by decide +kernel) (by decide +kernel)
theorem bw_446 : (Jvm.Cond.code ({ cls := "PlaceDeskModel", name := "isValue", desc := "(IJ)Z" } : Jvm.MethodName) prog_6_method_16_code (4 : Nat) (Option.some Jvm.ClassFile.FieldType.boolean)) ∈ bw := bw_of 465 (by decide +kernel) (by decide +kernel)
theorem bw_447 : (Jvm.Cond.methodLink "PlaceDeskModel" (87 : Nat) ({ cls := "PlaceDeskModel", name := "as", desc := "(IJ)J" } : Jvm.MethodName)) ∈ bw := bw_of 466 (by decide +kernel) (by decide +kernel)
theorem bw_448 : (Jvm.Cond.static ({ cls := "PlaceDeskModel", name := "as", desc := "(IJ)J" } : Jvm.MethodName)) ∈ bw := bw_of 467 (by decide +kernel) (by decide +kernel)
theorem bw_449 : (Jvm.Cond.code ({ cls := "PlaceDeskModel", name := "as", desc := "(IJ)J" } : Jvm.MethodName) prog_6_method_15_code (3 : Nat) (Option.some Jvm.ClassFile.FieldType.long)) ∈ bw := bw_of 468 (by decide +kernel) (by decide +kernel)
theorem bw_450 : (Jvm.Cond.constantLong "PlaceDeskModel" (85 : Nat) (65535 : Int64)) ∈ bw := bw_of 469 (by decide +kernel) (by decide +kernel)
theorem bw_451 : (Jvm.Cond.methodLink "PlaceDeskModel" (97 : Nat) ({ cls := "PlaceDeskModel", name := "get", desc := "(I)J" } : Jvm.MethodName)) ∈ bw := bw_of 470 (by decide +kernel) (by decide +kernel)
theorem bw_453 : (Jvm.Cond.instanceMethod ({ cls := "PlaceDeskModel", name := "get", desc := "(I)J" } : Jvm.MethodName)) ∈ bw := bw_of 472 (by decide +kernel) (by decide +kernel)
theorem bw_454 : (Jvm.Cond.code ({ cls := "PlaceDeskModel", name := "get", desc := "(I)J" } : Jvm.MethodName) prog_6_method_17_code (6 : Nat) (Option.some Jvm.ClassFile.FieldType.long)) ∈ bw := bw_of 473 (by decide +kernel) (by decide +kernel)
theorem bw_455 : (Jvm.Cond.constantLong "PlaceDeskModel" (91 : Nat) (255 : Int64)) ∈ bw := bw_of 474 (by decide +kernel) (by decide +kernel)
theorem bw_456 : (Jvm.Cond.methodLink "PlaceDeskModel" (101 : Nat) ({ cls := "PlaceDeskModel", name := "set", desc := "(IJ)V" } : Jvm.MethodName)) ∈ bw := bw_of 475 (by decide +kernel) (by decide +kernel)
theorem bw_458 : (Jvm.Cond.instanceMethod ({ cls := "PlaceDeskModel", name := "set", desc := "(IJ)V" } : Jvm.MethodName)) ∈ bw := bw_of 477 (by decide +kernel) (by decide +kernel)
theorem bw_459 : (Jvm.Cond.code ({ cls := "PlaceDeskModel", name := "set", desc := "(IJ)V" } : Jvm.MethodName) prog_6_method_18_code (6 : Nat) (Option.none : Option Jvm.ClassFile.FieldType)) ∈ bw := bw_of 478 (by decide +kernel) (by decide +kernel)
theorem bw_460 : (Jvm.Cond.methodLink "PlaceDeskLaw" (67 : Nat) ({ cls := "PlaceDeskModel", name := "copy", desc := "(IIIII)Z" } : Jvm.MethodName)) ∈ bw := bw_of 479 (by decide +kernel) (by decide +kernel)
theorem bw_461 : (Jvm.Cond.instanceMethod ({ cls := "PlaceDeskModel", name := "copy", desc := "(IIIII)Z" } : Jvm.MethodName)) ∈ bw := bw_of 480 (by decide +kernel) (by decide +kernel)
theorem bw_462 : (Jvm.Cond.selects "PlaceDeskModel" ({ cls := "PlaceDeskModel", name := "copy", desc := "(IIIII)Z" } : Jvm.MethodName) ({ cls := "PlaceDeskModel", name := "copy", desc := "(IIIII)Z" } : Jvm.MethodName)) ∈ bw := bw_of 481 (by decide +kernel) (by decide +kernel)
theorem bw_463 : (Jvm.Cond.code ({ cls := "PlaceDeskModel", name := "copy", desc := "(IIIII)Z" } : Jvm.MethodName) prog_6_method_20_code (10 : Nat) (Option.some Jvm.ClassFile.FieldType.boolean)) ∈ bw := bw_of 482 (by decide +kernel) (by decide +kernel)
theorem bw_464 : (Jvm.Cond.methodLink "PlaceDeskLaw" (72 : Nat) ({ cls := "PlaceDeskModel", name := "meet", desc := "(II)Z" } : Jvm.MethodName)) ∈ bw := bw_of 483 (by decide +kernel) (by decide +kernel)
theorem bw_465 : (Jvm.Cond.instanceMethod ({ cls := "PlaceDeskModel", name := "meet", desc := "(II)Z" } : Jvm.MethodName)) ∈ bw := bw_of 484 (by decide +kernel) (by decide +kernel)
theorem bw_466 : (Jvm.Cond.selects "PlaceDeskModel" ({ cls := "PlaceDeskModel", name := "meet", desc := "(II)Z" } : Jvm.MethodName) ({ cls := "PlaceDeskModel", name := "meet", desc := "(II)Z" } : Jvm.MethodName)) ∈ bw := bw_of 485 (by decide +kernel) (by decide +kernel)
theorem bw_467 : (Jvm.Cond.code ({ cls := "PlaceDeskModel", name := "meet", desc := "(II)Z" } : Jvm.MethodName) prog_6_method_21_code (3 : Nat) (Option.some Jvm.ClassFile.FieldType.boolean)) ∈ bw := bw_of 486 (by decide +kernel) (by decide +kernel)
theorem bw_468 : (Jvm.Cond.methodLink "PlaceDeskLaw" (76 : Nat) ({ cls := "PlaceDeskModel", name := "mark", desc := "()I" } : Jvm.MethodName)) ∈ bw := bw_of 487 (by decide +kernel) (by decide +kernel)
theorem bw_469 : (Jvm.Cond.instanceMethod ({ cls := "PlaceDeskModel", name := "mark", desc := "()I" } : Jvm.MethodName)) ∈ bw := bw_of 488 (by decide +kernel) (by decide +kernel)
theorem bw_470 : (Jvm.Cond.selects "PlaceDeskModel" ({ cls := "PlaceDeskModel", name := "mark", desc := "()I" } : Jvm.MethodName) ({ cls := "PlaceDeskModel", name := "mark", desc := "()I" } : Jvm.MethodName)) ∈ bw := bw_of 489 (by decide +kernel) (by decide +kernel)
theorem bw_471 : (Jvm.Cond.code ({ cls := "PlaceDeskModel", name := "mark", desc := "()I" } : Jvm.MethodName) prog_6_method_22_code (2 : Nat) (Option.some Jvm.ClassFile.FieldType.int)) ∈ bw := bw_of 490 (by decide +kernel) (by decide +kernel)
theorem bw_472 : (Jvm.Cond.methodLink "PlaceDeskLaw" (80 : Nat) ({ cls := "PlaceDeskModel", name := "back", desc := "(I)I" } : Jvm.MethodName)) ∈ bw := bw_of 491 (by decide +kernel) (by decide +kernel)
theorem bw_473 : (Jvm.Cond.instanceMethod ({ cls := "PlaceDeskModel", name := "back", desc := "(I)I" } : Jvm.MethodName)) ∈ bw := bw_of 492 (by decide +kernel) (by decide +kernel)
theorem bw_474 : (Jvm.Cond.selects "PlaceDeskModel" ({ cls := "PlaceDeskModel", name := "back", desc := "(I)I" } : Jvm.MethodName) ({ cls := "PlaceDeskModel", name := "back", desc := "(I)I" } : Jvm.MethodName)) ∈ bw := bw_of 493 (by decide +kernel) (by decide +kernel)
theorem bw_475 : (Jvm.Cond.code ({ cls := "PlaceDeskModel", name := "back", desc := "(I)I" } : Jvm.MethodName) prog_6_method_24_code (4 : Nat) (Option.some Jvm.ClassFile.FieldType.int)) ∈ bw := bw_of 494 (by decide +kernel) (by decide +kernel)
theorem bw_476 : (Jvm.Cond.methodLink "PlaceDeskModel" (108 : Nat) ({ cls := "PlaceDeskModel", name := "differ", desc := "(I)I" } : Jvm.MethodName)) ∈ bw := bw_of 495 (by decide +kernel) (by decide +kernel)
theorem bw_478 : (Jvm.Cond.instanceMethod ({ cls := "PlaceDeskModel", name := "differ", desc := "(I)I" } : Jvm.MethodName)) ∈ bw := bw_of 497 (by decide +kernel) (by decide +kernel)
theorem bw_479 : (Jvm.Cond.code ({ cls := "PlaceDeskModel", name := "differ", desc := "(I)I" } : Jvm.MethodName) prog_6_method_23_code (4 : Nat) (Option.some Jvm.ClassFile.FieldType.int)) ∈ bw := bw_of 498 (by decide +kernel) (by decide +kernel)
theorem bw_480 : (Jvm.Cond.methodLink "PlaceDeskLaw" (84 : Nat) ({ cls := "PlaceDeskModel", name := "changed", desc := "(I)I" } : Jvm.MethodName)) ∈ bw := bw_of 499 (by decide +kernel) (by decide +kernel)
theorem bw_481 : (Jvm.Cond.instanceMethod ({ cls := "PlaceDeskModel", name := "changed", desc := "(I)I" } : Jvm.MethodName)) ∈ bw := bw_of 500 (by decide +kernel) (by decide +kernel)
theorem bw_482 : (Jvm.Cond.selects "PlaceDeskModel" ({ cls := "PlaceDeskModel", name := "changed", desc := "(I)I" } : Jvm.MethodName) ({ cls := "PlaceDeskModel", name := "changed", desc := "(I)I" } : Jvm.MethodName)) ∈ bw := bw_of 501 (by decide +kernel) (by decide +kernel)
theorem bw_483 : (Jvm.Cond.code ({ cls := "PlaceDeskModel", name := "changed", desc := "(I)I" } : Jvm.MethodName) prog_6_method_25_code (2 : Nat) (Option.some Jvm.ClassFile.FieldType.int)) ∈ bw := bw_of 502 (by decide +kernel) (by decide +kernel)
theorem bw_484 : (Jvm.Cond.constantLong "PlaceDeskLaw" (52 : Nat) (4294967295 : Int64)) ∈ bw := bw_of 503 (by decide +kernel) (by decide +kernel)
theorem bs_0 : Cond.selects "PlaceDesk" ⟨"PlaceDesk", "hasRoomFor", "(I)Z"⟩ ⟨"PlaceDesk", "hasRoomFor", "(I)Z"⟩ ∈ bw := bw_of 0 (by decide +kernel) (by decide +kernel)
theorem bs_1 : Cond.selects "PlaceDesk" ⟨"PlaceDesk", "addThing", "(II)I"⟩ ⟨"PlaceDesk", "addThing", "(II)I"⟩ ∈ bw := bw_of 1 (by decide +kernel) (by decide +kernel)
theorem bs_2 : Cond.selects "PlaceDesk" ⟨"PlaceDesk", "findThing", "(I)LPlaceDesk$Thing;"⟩ ⟨"PlaceDesk", "findThing", "(I)LPlaceDesk$Thing;"⟩ ∈ bw := bw_of 2 (by decide +kernel) (by decide +kernel)
theorem bs_3 : Cond.selects "PlaceDesk" ⟨"PlaceDesk", "addSpot", "(IIIZ)I"⟩ ⟨"PlaceDesk", "addSpot", "(IIIZ)I"⟩ ∈ bw := bw_of 3 (by decide +kernel) (by decide +kernel)
theorem bs_4 : Cond.selects "PlaceDesk" ⟨"PlaceDesk", "findSpot", "(I)LPlaceDesk$Spot;"⟩ ⟨"PlaceDesk", "findSpot", "(I)LPlaceDesk$Spot;"⟩ ∈ bw := bw_of 4 (by decide +kernel) (by decide +kernel)
theorem bs_5 : Cond.selects "PlaceDesk" ⟨"PlaceDesk", "findSnapshot", "(I)LPlaceDesk$Snapshot;"⟩ ⟨"PlaceDesk", "findSnapshot", "(I)LPlaceDesk$Snapshot;"⟩ ∈ bw := bw_of 5 (by decide +kernel) (by decide +kernel)
theorem bs_6 : Cond.selects "java/lang/Throwable" ⟨"java/lang/Throwable", "fillInStackTrace", "(I)Ljava/lang/Throwable;"⟩ ⟨"java/lang/Throwable", "fillInStackTrace", "(I)Ljava/lang/Throwable;"⟩ ∈ bw := bw_of 6 (by decide +kernel) (by decide +kernel)
theorem bs_7 : Cond.selects "PlaceDesk" ⟨"PlaceDesk", "isValue", "(IJ)Z"⟩ ⟨"PlaceDesk", "isValue", "(IJ)Z"⟩ ∈ bw := bw_of 7 (by decide +kernel) (by decide +kernel)
theorem bs_8 : Cond.selects "PlaceDesk" ⟨"PlaceDesk", "perform", "(LPlaceDesk$Spot;IJJ)J"⟩ ⟨"PlaceDesk", "perform", "(LPlaceDesk$Spot;IJJ)J"⟩ ∈ bw := bw_of 8 (by decide +kernel) (by decide +kernel)
theorem bs_9 : Cond.selects "PlaceDesk" ⟨"PlaceDesk", "read", "(LPlaceDesk$Spot;)J"⟩ ⟨"PlaceDesk", "read", "(LPlaceDesk$Spot;)J"⟩ ∈ bw := bw_of 9 (by decide +kernel) (by decide +kernel)
theorem bs_10 : Cond.selects "PlaceDesk" ⟨"PlaceDesk", "write", "(LPlaceDesk$Spot;J)V"⟩ ⟨"PlaceDesk", "write", "(LPlaceDesk$Spot;J)V"⟩ ∈ bw := bw_of 10 (by decide +kernel) (by decide +kernel)
theorem bs_11 : Cond.selects "PlaceDeskModel" ⟨"PlaceDeskModel", "newObject", "(II)I"⟩ ⟨"PlaceDeskModel", "newObject", "(II)I"⟩ ∈ bw := bw_of 11 (by decide +kernel) (by decide +kernel)
theorem bs_12 : Cond.selects "PlaceDeskModel" ⟨"PlaceDeskModel", "isObject", "(I)Z"⟩ ⟨"PlaceDeskModel", "isObject", "(I)Z"⟩ ∈ bw := bw_of 12 (by decide +kernel) (by decide +kernel)
theorem bs_13 : Cond.selects "PlaceDeskModel" ⟨"PlaceDeskModel", "newPlace", "(IIIZ)I"⟩ ⟨"PlaceDeskModel", "newPlace", "(IIIZ)I"⟩ ∈ bw := bw_of 13 (by decide +kernel) (by decide +kernel)
theorem bs_14 : Cond.selects "PlaceDeskModel" ⟨"PlaceDeskModel", "isPlace", "(I)Z"⟩ ⟨"PlaceDeskModel", "isPlace", "(I)Z"⟩ ∈ bw := bw_of 14 (by decide +kernel) (by decide +kernel)
theorem bs_15 : Cond.selects "PlaceDeskModel" ⟨"PlaceDeskModel", "isValue", "(IJ)Z"⟩ ⟨"PlaceDeskModel", "isValue", "(IJ)Z"⟩ ∈ bw := bw_of 15 (by decide +kernel) (by decide +kernel)
theorem bs_16 : Cond.selects "PlaceDeskModel" ⟨"PlaceDeskModel", "get", "(I)J"⟩ ⟨"PlaceDeskModel", "get", "(I)J"⟩ ∈ bw := bw_of 16 (by decide +kernel) (by decide +kernel)
theorem bs_17 : Cond.selects "PlaceDeskModel" ⟨"PlaceDeskModel", "set", "(IJ)V"⟩ ⟨"PlaceDeskModel", "set", "(IJ)V"⟩ ∈ bw := bw_of 17 (by decide +kernel) (by decide +kernel)
theorem bs_18 : Cond.selects "PlaceDeskModel" ⟨"PlaceDeskModel", "differ", "(I)I"⟩ ⟨"PlaceDeskModel", "differ", "(I)I"⟩ ∈ bw := bw_of 18 (by decide +kernel) (by decide +kernel)
theorem nmD : ∀ a, a < 11 → ∀ b, b < 11 → a ≠ b → (FD a).2.1 ≠ (FD b).2.1 := by decide +kernel
theorem okD : ∀ k, k < 11 → parseFieldDescriptor (FD k).2.2.1 = some (tyD k) := by decide +kernel
theorem inD : ∀ w ∈ u_ws RD FD 11, w ∈ bw := List.forall_mem_cons.mpr ⟨bw_37, List.forall_mem_cons.mpr ⟨bw_39, List.forall_mem_cons.mpr ⟨bw_41, List.forall_mem_cons.mpr ⟨bw_43, List.forall_mem_cons.mpr ⟨bw_45, List.forall_mem_cons.mpr ⟨bw_47, List.forall_mem_cons.mpr ⟨bw_49, List.forall_mem_cons.mpr ⟨bw_51, List.forall_mem_cons.mpr ⟨bw_53, List.forall_mem_cons.mpr ⟨bw_55, List.forall_mem_cons.mpr ⟨bw_57, fun _ h => absurd h List.not_mem_nil⟩⟩⟩⟩⟩⟩⟩⟩⟩⟩⟩
theorem nmT : ∀ a, a < 3 → ∀ b, b < 3 → a ≠ b → (FT a).2.1 ≠ (FT b).2.1 := by decide +kernel
theorem okT : ∀ k, k < 3 → parseFieldDescriptor (FT k).2.2.1 = some (tyT k) := by decide +kernel
theorem inT : ∀ w ∈ u_ws RT FT 3, w ∈ bw := List.forall_mem_cons.mpr ⟨bw_89, List.forall_mem_cons.mpr ⟨bw_91, List.forall_mem_cons.mpr ⟨bw_93, fun _ h => absurd h List.not_mem_nil⟩⟩⟩
theorem nmS : ∀ a, a < 4 → ∀ b, b < 4 → a ≠ b → (FS a).2.1 ≠ (FS b).2.1 := by decide +kernel
theorem okS : ∀ k, k < 4 → parseFieldDescriptor (FS k).2.2.1 = some (tyS k) := by decide +kernel
theorem inS : ∀ w ∈ u_ws RS FS 4, w ∈ bw := List.forall_mem_cons.mpr ⟨bw_139, List.forall_mem_cons.mpr ⟨bw_141, List.forall_mem_cons.mpr ⟨bw_143, List.forall_mem_cons.mpr ⟨bw_145, fun _ h => absurd h List.not_mem_nil⟩⟩⟩⟩
theorem nmN : ∀ a, a < 2 → ∀ b, b < 2 → a ≠ b → (FN a).2.1 ≠ (FN b).2.1 := by decide +kernel
theorem okN : ∀ k, k < 2 → parseFieldDescriptor (FN k).2.2.1 = some (tyN k) := by decide +kernel
theorem inN : ∀ w ∈ u_ws RN FN 2, w ∈ bw := List.forall_mem_cons.mpr ⟨bw_186, List.forall_mem_cons.mpr ⟨bw_188, fun _ h => absurd h List.not_mem_nil⟩⟩
theorem nmM : ∀ a, a < 18 → ∀ b, b < 18 → a ≠ b → (FM a).2.1 ≠ (FM b).2.1 := by decide +kernel
theorem okM : ∀ k, k < 18 → parseFieldDescriptor (FM k).2.2.1 = some (tyM k) := by decide +kernel
theorem inM : ∀ w ∈ u_ws RM FM 18, w ∈ bw := List.forall_mem_cons.mpr ⟨bw_349, List.forall_mem_cons.mpr ⟨bw_351, List.forall_mem_cons.mpr ⟨bw_353, List.forall_mem_cons.mpr ⟨bw_355, List.forall_mem_cons.mpr ⟨bw_357, List.forall_mem_cons.mpr ⟨bw_359, List.forall_mem_cons.mpr ⟨bw_361, List.forall_mem_cons.mpr ⟨bw_363, List.forall_mem_cons.mpr ⟨bw_365, List.forall_mem_cons.mpr ⟨bw_367, List.forall_mem_cons.mpr ⟨bw_369, List.forall_mem_cons.mpr ⟨bw_371, List.forall_mem_cons.mpr ⟨bw_373, List.forall_mem_cons.mpr ⟨bw_375, List.forall_mem_cons.mpr ⟨bw_377, List.forall_mem_cons.mpr ⟨bw_379, List.forall_mem_cons.mpr ⟨bw_381, List.forall_mem_cons.mpr ⟨bw_383, fun _ h => absurd h List.not_mem_nil⟩⟩⟩⟩⟩⟩⟩⟩⟩⟩⟩⟩⟩⟩⟩⟩⟩⟩
end
section
theorem dD_init_0 : decode cD_init 0 = .ok (.aload_n 0, 1) := by decide +kernel
theorem dD_init_1 : decode cD_init 1 = .ok (.invokespecial 1, 3) := by decide +kernel
theorem dD_init_4 : decode cD_init 4 = .ok (.aload_n 0, 1) := by decide +kernel
theorem dD_init_5 : decode cD_init 5 = .ok (.sipush 4000, 3) := by decide +kernel
theorem dD_init_8 : decode cD_init 8 = .ok (.newarray .long, 2) := by decide +kernel
theorem dD_init_10 : decode cD_init 10 = .ok (.putfield 9, 3) := by decide +kernel
theorem dD_init_13 : decode cD_init 13 = .ok (.aload_n 0, 1) := by decide +kernel
theorem dD_init_14 : decode cD_init 14 = .ok (.sipush 4000, 3) := by decide +kernel
theorem dD_init_17 : decode cD_init 17 = .ok (.newarray .int, 2) := by decide +kernel
theorem dD_init_19 : decode cD_init 19 = .ok (.putfield 13, 3) := by decide +kernel
theorem dD_init_22 : decode cD_init 22 = .ok (.aload_n 0, 1) := by decide +kernel
theorem dD_init_23 : decode cD_init 23 = .ok (.iconst 0, 1) := by decide +kernel
theorem dD_init_24 : decode cD_init 24 = .ok (.putfield 17, 3) := by decide +kernel
theorem dD_init_27 : decode cD_init 27 = .ok (.aload_n 0, 1) := by decide +kernel
theorem dD_init_28 : decode cD_init 28 = .ok (.sipush 300, 3) := by decide +kernel
theorem dD_init_31 : decode cD_init 31 = .ok (.anewarray 21, 3) := by decide +kernel
theorem dD_init_34 : decode cD_init 34 = .ok (.putfield 23, 3) := by decide +kernel
theorem dD_init_37 : decode cD_init 37 = .ok (.aload_n 0, 1) := by decide +kernel
theorem dD_init_38 : decode cD_init 38 = .ok (.iconst 0, 1) := by decide +kernel
theorem dD_init_39 : decode cD_init 39 = .ok (.putfield 27, 3) := by decide +kernel
theorem dD_init_42 : decode cD_init 42 = .ok (.aload_n 0, 1) := by decide +kernel
theorem dD_init_43 : decode cD_init 43 = .ok (.bipush 12, 2) := by decide +kernel
theorem dD_init_45 : decode cD_init 45 = .ok (.newarray .int, 2) := by decide +kernel
theorem dD_init_47 : decode cD_init 47 = .ok (.putfield 30, 3) := by decide +kernel
theorem dD_init_50 : decode cD_init 50 = .ok (.aload_n 0, 1) := by decide +kernel
theorem dD_init_51 : decode cD_init 51 = .ok (.iconst 0, 1) := by decide +kernel
theorem dD_init_52 : decode cD_init 52 = .ok (.putfield 33, 3) := by decide +kernel
theorem dD_init_55 : decode cD_init 55 = .ok (.aload_n 0, 1) := by decide +kernel
theorem dD_init_56 : decode cD_init 56 = .ok (.bipush 100, 2) := by decide +kernel
theorem dD_init_58 : decode cD_init 58 = .ok (.anewarray 36, 3) := by decide +kernel
theorem dD_init_61 : decode cD_init 61 = .ok (.putfield 38, 3) := by decide +kernel
theorem dD_init_64 : decode cD_init 64 = .ok (.aload_n 0, 1) := by decide +kernel
theorem dD_init_65 : decode cD_init 65 = .ok (.iconst 0, 1) := by decide +kernel
theorem dD_init_66 : decode cD_init 66 = .ok (.putfield 42, 3) := by decide +kernel
theorem dD_init_69 : decode cD_init 69 = .ok (.aload_n 0, 1) := by decide +kernel
theorem dD_init_70 : decode cD_init 70 = .ok (.bipush 20, 2) := by decide +kernel
theorem dD_init_72 : decode cD_init 72 = .ok (.anewarray 45, 3) := by decide +kernel
theorem dD_init_75 : decode cD_init 75 = .ok (.putfield 47, 3) := by decide +kernel
theorem dD_init_78 : decode cD_init 78 = .ok (.aload_n 0, 1) := by decide +kernel
theorem dD_init_79 : decode cD_init 79 = .ok (.iconst 0, 1) := by decide +kernel
theorem dD_init_80 : decode cD_init 80 = .ok (.putfield 51, 3) := by decide +kernel
theorem dD_init_83 : decode cD_init 83 = .ok (.return_, 1) := by decide +kernel
theorem dD_row_0 : decode cD_row 0 = .ok (.iload_n 1, 1) := by decide +kernel
theorem dD_row_1 : decode cD_row 1 = .ok (.invokestatic 54, 3) := by decide +kernel
theorem dD_row_4 : decode cD_row 4 = .ok (.ifCond .eq 22, 3) := by decide +kernel
theorem dD_row_7 : decode cD_row 7 = .ok (.iload_n 2, 1) := by decide +kernel
theorem dD_row_8 : decode cD_row 8 = .ok (.ifCond .lt 18, 3) := by decide +kernel
theorem dD_row_11 : decode cD_row 11 = .ok (.iload_n 2, 1) := by decide +kernel
theorem dD_row_12 : decode cD_row 12 = .ok (.sipush 200, 3) := by decide +kernel
theorem dD_row_15 : decode cD_row 15 = .ok (.if_icmp .gt 11, 3) := by decide +kernel
theorem dD_row_18 : decode cD_row 18 = .ok (.aload_n 0, 1) := by decide +kernel
theorem dD_row_19 : decode cD_row 19 = .ok (.iload_n 2, 1) := by decide +kernel
theorem dD_row_20 : decode cD_row 20 = .ok (.invokevirtual 58, 3) := by decide +kernel
theorem dD_row_23 : decode cD_row 23 = .ok (.ifCond .ne 5, 3) := by decide +kernel
theorem dD_row_26 : decode cD_row 26 = .ok (.iconst (-1), 1) := by decide +kernel
theorem dD_row_27 : decode cD_row 27 = .ok (.ireturn, 1) := by decide +kernel
theorem dD_row_28 : decode cD_row 28 = .ok (.iconst 0, 1) := by decide +kernel
theorem dD_row_29 : decode cD_row 29 = .ok (.istore_n 3, 1) := by decide +kernel
theorem dD_row_30 : decode cD_row 30 = .ok (.iload_n 3, 1) := by decide +kernel
theorem dD_row_31 : decode cD_row 31 = .ok (.iload_n 2, 1) := by decide +kernel
theorem dD_row_32 : decode cD_row 32 = .ok (.if_icmp .ge 21, 3) := by decide +kernel
theorem dD_row_35 : decode cD_row 35 = .ok (.aload_n 0, 1) := by decide +kernel
theorem dD_row_36 : decode cD_row 36 = .ok (.getfield 13, 3) := by decide +kernel
theorem dD_row_39 : decode cD_row 39 = .ok (.aload_n 0, 1) := by decide +kernel
theorem dD_row_40 : decode cD_row 40 = .ok (.getfield 17, 3) := by decide +kernel
theorem dD_row_43 : decode cD_row 43 = .ok (.iload_n 3, 1) := by decide +kernel
theorem dD_row_44 : decode cD_row 44 = .ok (.iadd, 1) := by decide +kernel
theorem dD_row_45 : decode cD_row 45 = .ok (.iload_n 1, 1) := by decide +kernel
theorem dD_row_46 : decode cD_row 46 = .ok (.iastore, 1) := by decide +kernel
theorem dD_row_47 : decode cD_row 47 = .ok (.iinc 3 1, 3) := by decide +kernel
theorem dD_row_50 : decode cD_row 50 = .ok (.goto (-20), 3) := by decide +kernel
theorem dD_row_53 : decode cD_row 53 = .ok (.aload_n 0, 1) := by decide +kernel
theorem dD_row_54 : decode cD_row 54 = .ok (.iload_n 1, 1) := by decide +kernel
theorem dD_row_55 : decode cD_row 55 = .ok (.iload_n 2, 1) := by decide +kernel
theorem dD_row_56 : decode cD_row 56 = .ok (.invokevirtual 61, 3) := by decide +kernel
theorem dD_row_59 : decode cD_row 59 = .ok (.ireturn, 1) := by decide +kernel
theorem dD_put_0 : decode cD_put 0 = .ok (.aload_n 0, 1) := by decide +kernel
theorem dD_put_1 : decode cD_put 1 = .ok (.getfield 33, 3) := by decide +kernel
theorem dD_put_4 : decode cD_put 4 = .ok (.bipush 12, 2) := by decide +kernel
theorem dD_put_6 : decode cD_put 6 = .ok (.if_icmp .ge 10, 3) := by decide +kernel
theorem dD_put_9 : decode cD_put 9 = .ok (.iload_n 1, 1) := by decide +kernel
theorem dD_put_10 : decode cD_put 10 = .ok (.invokestatic 54, 3) := by decide +kernel
theorem dD_put_13 : decode cD_put 13 = .ok (.ifCond .ne 5, 3) := by decide +kernel
theorem dD_put_16 : decode cD_put 16 = .ok (.iconst 0, 1) := by decide +kernel
theorem dD_put_17 : decode cD_put 17 = .ok (.ireturn, 1) := by decide +kernel
theorem dD_put_18 : decode cD_put 18 = .ok (.aload_n 0, 1) := by decide +kernel
theorem dD_put_19 : decode cD_put 19 = .ok (.getfield 30, 3) := by decide +kernel
theorem dD_put_22 : decode cD_put 22 = .ok (.aload_n 0, 1) := by decide +kernel
theorem dD_put_23 : decode cD_put 23 = .ok (.getfield 33, 3) := by decide +kernel
theorem dD_put_26 : decode cD_put 26 = .ok (.iload_n 1, 1) := by decide +kernel
theorem dD_put_27 : decode cD_put 27 = .ok (.iastore, 1) := by decide +kernel
theorem dD_put_28 : decode cD_put 28 = .ok (.aload_n 0, 1) := by decide +kernel
theorem dD_put_29 : decode cD_put 29 = .ok (.dup, 1) := by decide +kernel
theorem dD_put_30 : decode cD_put 30 = .ok (.getfield 33, 3) := by decide +kernel
theorem dD_put_33 : decode cD_put 33 = .ok (.iconst 1, 1) := by decide +kernel
theorem dD_put_34 : decode cD_put 34 = .ok (.iadd, 1) := by decide +kernel
theorem dD_put_35 : decode cD_put 35 = .ok (.putfield 33, 3) := by decide +kernel
theorem dD_put_38 : decode cD_put 38 = .ok (.iconst 1, 1) := by decide +kernel
theorem dD_put_39 : decode cD_put 39 = .ok (.ireturn, 1) := by decide +kernel
theorem dD_instance_0 : decode cD_instance 0 = .ok (.aload_n 0, 1) := by decide +kernel
theorem dD_instance_1 : decode cD_instance 1 = .ok (.getfield 33, 3) := by decide +kernel
theorem dD_instance_4 : decode cD_instance 4 = .ok (.istore_n 1, 1) := by decide +kernel
theorem dD_instance_5 : decode cD_instance 5 = .ok (.aload_n 0, 1) := by decide +kernel
theorem dD_instance_6 : decode cD_instance 6 = .ok (.iconst 0, 1) := by decide +kernel
theorem dD_instance_7 : decode cD_instance 7 = .ok (.putfield 33, 3) := by decide +kernel
theorem dD_instance_10 : decode cD_instance 10 = .ok (.iload_n 1, 1) := by decide +kernel
theorem dD_instance_11 : decode cD_instance 11 = .ok (.ifCond .eq 11, 3) := by decide +kernel
theorem dD_instance_14 : decode cD_instance 14 = .ok (.aload_n 0, 1) := by decide +kernel
theorem dD_instance_15 : decode cD_instance 15 = .ok (.iload_n 1, 1) := by decide +kernel
theorem dD_instance_16 : decode cD_instance 16 = .ok (.invokevirtual 58, 3) := by decide +kernel
theorem dD_instance_19 : decode cD_instance 19 = .ok (.ifCond .ne 5, 3) := by decide +kernel
theorem dD_instance_22 : decode cD_instance 22 = .ok (.iconst (-1), 1) := by decide +kernel
theorem dD_instance_23 : decode cD_instance 23 = .ok (.ireturn, 1) := by decide +kernel
theorem dD_instance_24 : decode cD_instance 24 = .ok (.aload_n 0, 1) := by decide +kernel
theorem dD_instance_25 : decode cD_instance 25 = .ok (.getfield 30, 3) := by decide +kernel
theorem dD_instance_28 : decode cD_instance 28 = .ok (.iconst 0, 1) := by decide +kernel
theorem dD_instance_29 : decode cD_instance 29 = .ok (.aload_n 0, 1) := by decide +kernel
theorem dD_instance_30 : decode cD_instance 30 = .ok (.getfield 13, 3) := by decide +kernel
theorem dD_instance_33 : decode cD_instance 33 = .ok (.aload_n 0, 1) := by decide +kernel
theorem dD_instance_34 : decode cD_instance 34 = .ok (.getfield 17, 3) := by decide +kernel
theorem dD_instance_37 : decode cD_instance 37 = .ok (.iload_n 1, 1) := by decide +kernel
theorem dD_instance_38 : decode cD_instance 38 = .ok (.invokestatic 65, 3) := by decide +kernel
theorem dD_instance_41 : decode cD_instance 41 = .ok (.aload_n 0, 1) := by decide +kernel
theorem dD_instance_42 : decode cD_instance 42 = .ok (.iconst 0, 1) := by decide +kernel
theorem dD_instance_43 : decode cD_instance 43 = .ok (.iload_n 1, 1) := by decide +kernel
theorem dD_instance_44 : decode cD_instance 44 = .ok (.invokevirtual 61, 3) := by decide +kernel
theorem dD_instance_47 : decode cD_instance 47 = .ok (.ireturn, 1) := by decide +kernel
theorem dD_object_0 : decode cD_object 0 = .ok (.aload_n 0, 1) := by decide +kernel
theorem dD_object_1 : decode cD_object 1 = .ok (.iload_n 1, 1) := by decide +kernel
theorem dD_object_2 : decode cD_object 2 = .ok (.invokevirtual 71, 3) := by decide +kernel
theorem dD_object_5 : decode cD_object 5 = .ok (.astore_n 3, 1) := by decide +kernel
theorem dD_object_6 : decode cD_object 6 = .ok (.aload_n 3, 1) := by decide +kernel
theorem dD_object_7 : decode cD_object 7 = .ok (.ifnonnull 5, 3) := by decide +kernel
theorem dD_object_10 : decode cD_object 10 = .ok (.iconst (-1), 1) := by decide +kernel
theorem dD_object_11 : decode cD_object 11 = .ok (.ireturn, 1) := by decide +kernel
theorem dD_object_12 : decode cD_object 12 = .ok (.iload_n 2, 1) := by decide +kernel
theorem dD_object_13 : decode cD_object 13 = .ok (.iconst (-1), 1) := by decide +kernel
theorem dD_object_14 : decode cD_object 14 = .ok (.if_icmp .ne 8, 3) := by decide +kernel
theorem dD_object_17 : decode cD_object 17 = .ok (.aload_n 3, 1) := by decide +kernel
theorem dD_object_18 : decode cD_object 18 = .ok (.getfield 75, 3) := by decide +kernel
theorem dD_object_21 : decode cD_object 21 = .ok (.ireturn, 1) := by decide +kernel
theorem dD_object_22 : decode cD_object 22 = .ok (.iload_n 2, 1) := by decide +kernel
theorem dD_object_23 : decode cD_object 23 = .ok (.bipush (-2), 2) := by decide +kernel
theorem dD_object_25 : decode cD_object 25 = .ok (.if_icmp .ne 8, 3) := by decide +kernel
theorem dD_object_28 : decode cD_object 28 = .ok (.aload_n 3, 1) := by decide +kernel
theorem dD_object_29 : decode cD_object 29 = .ok (.getfield 78, 3) := by decide +kernel
theorem dD_object_32 : decode cD_object 32 = .ok (.ireturn, 1) := by decide +kernel
theorem dD_object_33 : decode cD_object 33 = .ok (.aload_n 3, 1) := by decide +kernel
theorem dD_object_34 : decode cD_object 34 = .ok (.iload_n 2, 1) := by decide +kernel
theorem dD_object_35 : decode cD_object 35 = .ok (.iconst 1, 1) := by decide +kernel
theorem dD_object_36 : decode cD_object 36 = .ok (.invokevirtual 81, 3) := by decide +kernel
theorem dD_object_39 : decode cD_object 39 = .ok (.ifCond .eq 17, 3) := by decide +kernel
theorem dD_object_42 : decode cD_object 42 = .ok (.aload_n 0, 1) := by decide +kernel
theorem dD_object_43 : decode cD_object 43 = .ok (.getfield 13, 3) := by decide +kernel
theorem dD_object_46 : decode cD_object 46 = .ok (.aload_n 3, 1) := by decide +kernel
theorem dD_object_47 : decode cD_object 47 = .ok (.getfield 85, 3) := by decide +kernel
theorem dD_object_50 : decode cD_object 50 = .ok (.iload_n 2, 1) := by decide +kernel
theorem dD_object_51 : decode cD_object 51 = .ok (.iadd, 1) := by decide +kernel
theorem dD_object_52 : decode cD_object 52 = .ok (.iaload, 1) := by decide +kernel
theorem dD_object_53 : decode cD_object 53 = .ok (.goto 4, 3) := by decide +kernel
theorem dD_object_56 : decode cD_object 56 = .ok (.iconst (-1), 1) := by decide +kernel
theorem dD_object_57 : decode cD_object 57 = .ok (.ireturn, 1) := by decide +kernel
theorem dD_place_0 : decode cD_place 0 = .ok (.aload_n 0, 1) := by decide +kernel
theorem dD_place_1 : decode cD_place 1 = .ok (.iload_n 1, 1) := by decide +kernel
theorem dD_place_2 : decode cD_place 2 = .ok (.invokevirtual 71, 3) := by decide +kernel
theorem dD_place_5 : decode cD_place 5 = .ok (.astore_n 3, 1) := by decide +kernel
theorem dD_place_6 : decode cD_place 6 = .ok (.aload_n 3, 1) := by decide +kernel
theorem dD_place_7 : decode cD_place 7 = .ok (.ifnull 12, 3) := by decide +kernel
theorem dD_place_10 : decode cD_place 10 = .ok (.aload_n 3, 1) := by decide +kernel
theorem dD_place_11 : decode cD_place 11 = .ok (.iload_n 2, 1) := by decide +kernel
theorem dD_place_12 : decode cD_place 12 = .ok (.iconst 1, 1) := by decide +kernel
theorem dD_place_13 : decode cD_place 13 = .ok (.invokevirtual 81, 3) := by decide +kernel
theorem dD_place_16 : decode cD_place 16 = .ok (.ifCond .ne 5, 3) := by decide +kernel
theorem dD_place_19 : decode cD_place 19 = .ok (.iconst (-1), 1) := by decide +kernel
theorem dD_place_20 : decode cD_place 20 = .ok (.ireturn, 1) := by decide +kernel
theorem dD_place_21 : decode cD_place 21 = .ok (.aload_n 3, 1) := by decide +kernel
theorem dD_place_22 : decode cD_place 22 = .ok (.getfield 85, 3) := by decide +kernel
theorem dD_place_25 : decode cD_place 25 = .ok (.iload_n 2, 1) := by decide +kernel
theorem dD_place_26 : decode cD_place 26 = .ok (.iadd, 1) := by decide +kernel
theorem dD_place_27 : decode cD_place 27 = .ok (.istore 4, 2) := by decide +kernel
theorem dD_place_29 : decode cD_place 29 = .ok (.aload_n 0, 1) := by decide +kernel
theorem dD_place_30 : decode cD_place 30 = .ok (.aload_n 0, 1) := by decide +kernel
theorem dD_place_31 : decode cD_place 31 = .ok (.getfield 13, 3) := by decide +kernel
theorem dD_place_34 : decode cD_place 34 = .ok (.iload 4, 2) := by decide +kernel
theorem dD_place_36 : decode cD_place 36 = .ok (.iaload, 1) := by decide +kernel
theorem dD_place_37 : decode cD_place 37 = .ok (.iload 4, 2) := by decide +kernel
theorem dD_place_39 : decode cD_place 39 = .ok (.iconst 1, 1) := by decide +kernel
theorem dD_place_40 : decode cD_place 40 = .ok (.iconst 0, 1) := by decide +kernel
theorem dD_place_41 : decode cD_place 41 = .ok (.invokevirtual 88, 3) := by decide +kernel
theorem dD_place_44 : decode cD_place 44 = .ok (.ireturn, 1) := by decide +kernel
theorem dD_view_0 : decode cD_view 0 = .ok (.aload_n 0, 1) := by decide +kernel
theorem dD_view_1 : decode cD_view 1 = .ok (.iload_n 1, 1) := by decide +kernel
theorem dD_view_2 : decode cD_view 2 = .ok (.invokevirtual 71, 3) := by decide +kernel
theorem dD_view_5 : decode cD_view 5 = .ok (.astore 5, 2) := by decide +kernel
theorem dD_view_7 : decode cD_view 7 = .ok (.iload_n 3, 1) := by decide +kernel
theorem dD_view_8 : decode cD_view 8 = .ok (.invokestatic 92, 3) := by decide +kernel
theorem dD_view_11 : decode cD_view 11 = .ok (.istore 6, 2) := by decide +kernel
theorem dD_view_13 : decode cD_view 13 = .ok (.aload 5, 2) := by decide +kernel
theorem dD_view_15 : decode cD_view 15 = .ok (.ifnull 28, 3) := by decide +kernel
theorem dD_view_18 : decode cD_view 18 = .ok (.aload 5, 2) := by decide +kernel
theorem dD_view_20 : decode cD_view 20 = .ok (.getfield 75, 3) := by decide +kernel
theorem dD_view_23 : decode cD_view 23 = .ok (.iconst 2, 1) := by decide +kernel
theorem dD_view_24 : decode cD_view 24 = .ok (.if_icmp .ne 19, 3) := by decide +kernel
theorem dD_view_27 : decode cD_view 27 = .ok (.iload 6, 2) := by decide +kernel
theorem dD_view_29 : decode cD_view 29 = .ok (.ifCond .eq 14, 3) := by decide +kernel
theorem dD_view_32 : decode cD_view 32 = .ok (.aload 5, 2) := by decide +kernel
theorem dD_view_34 : decode cD_view 34 = .ok (.iload_n 2, 1) := by decide +kernel
theorem dD_view_35 : decode cD_view 35 = .ok (.iload 6, 2) := by decide +kernel
theorem dD_view_37 : decode cD_view 37 = .ok (.invokevirtual 81, 3) := by decide +kernel
theorem dD_view_40 : decode cD_view 40 = .ok (.ifCond .ne 5, 3) := by decide +kernel
theorem dD_view_43 : decode cD_view 43 = .ok (.iconst (-1), 1) := by decide +kernel
theorem dD_view_44 : decode cD_view 44 = .ok (.ireturn, 1) := by decide +kernel
theorem dD_view_45 : decode cD_view 45 = .ok (.aload_n 0, 1) := by decide +kernel
theorem dD_view_46 : decode cD_view 46 = .ok (.iload_n 3, 1) := by decide +kernel
theorem dD_view_47 : decode cD_view 47 = .ok (.aload 5, 2) := by decide +kernel
theorem dD_view_49 : decode cD_view 49 = .ok (.getfield 85, 3) := by decide +kernel
theorem dD_view_52 : decode cD_view 52 = .ok (.iload_n 2, 1) := by decide +kernel
theorem dD_view_53 : decode cD_view 53 = .ok (.iadd, 1) := by decide +kernel
theorem dD_view_54 : decode cD_view 54 = .ok (.iload 6, 2) := by decide +kernel
theorem dD_view_56 : decode cD_view 56 = .ok (.iload 4, 2) := by decide +kernel
theorem dD_view_58 : decode cD_view 58 = .ok (.invokevirtual 88, 3) := by decide +kernel
theorem dD_view_61 : decode cD_view 61 = .ok (.ireturn, 1) := by decide +kernel
theorem dD_kindOf_0 : decode cD_kindOf 0 = .ok (.aload_n 0, 1) := by decide +kernel
theorem dD_kindOf_1 : decode cD_kindOf 1 = .ok (.iload_n 1, 1) := by decide +kernel
theorem dD_kindOf_2 : decode cD_kindOf 2 = .ok (.invokevirtual 96, 3) := by decide +kernel
theorem dD_kindOf_5 : decode cD_kindOf 5 = .ok (.astore_n 2, 1) := by decide +kernel
theorem dD_kindOf_6 : decode cD_kindOf 6 = .ok (.aload_n 2, 1) := by decide +kernel
theorem dD_kindOf_7 : decode cD_kindOf 7 = .ok (.ifnonnull 7, 3) := by decide +kernel
theorem dD_kindOf_10 : decode cD_kindOf 10 = .ok (.iconst (-1), 1) := by decide +kernel
theorem dD_kindOf_11 : decode cD_kindOf 11 = .ok (.goto 7, 3) := by decide +kernel
theorem dD_kindOf_14 : decode cD_kindOf 14 = .ok (.aload_n 2, 1) := by decide +kernel
theorem dD_kindOf_15 : decode cD_kindOf 15 = .ok (.getfield 100, 3) := by decide +kernel
theorem dD_kindOf_18 : decode cD_kindOf 18 = .ok (.ireturn, 1) := by decide +kernel
theorem dD_act_0 : decode cD_act 0 = .ok (.aload_n 0, 1) := by decide +kernel
theorem dD_act_1 : decode cD_act 1 = .ok (.iload_n 1, 1) := by decide +kernel
theorem dD_act_2 : decode cD_act 2 = .ok (.invokevirtual 96, 3) := by decide +kernel
theorem dD_act_5 : decode cD_act 5 = .ok (.astore 7, 2) := by decide +kernel
theorem dD_act_7 : decode cD_act 7 = .ok (.aload 7, 2) := by decide +kernel
theorem dD_act_9 : decode cD_act 9 = .ok (.ifnonnull 13, 3) := by decide +kernel
theorem dD_act_12 : decode cD_act 12 = .ok (.new 101, 3) := by decide +kernel
theorem dD_act_15 : decode cD_act 15 = .ok (.dup, 1) := by decide +kernel
theorem dD_act_16 : decode cD_act 16 = .ok (.ldc 103, 2) := by decide +kernel
theorem dD_act_18 : decode cD_act 18 = .ok (.invokespecial 105, 3) := by decide +kernel
theorem dD_act_21 : decode cD_act 21 = .ok (.athrow, 1) := by decide +kernel
theorem dD_act_22 : decode cD_act 22 = .ok (.iload_n 2, 1) := by decide +kernel
theorem dD_act_23 : decode cD_act 23 = .ok (.aload 7, 2) := by decide +kernel
theorem dD_act_25 : decode cD_act 25 = .ok (.getfield 100, 3) := by decide +kernel
theorem dD_act_28 : decode cD_act 28 = .ok (.invokestatic 108, 3) := by decide +kernel
theorem dD_act_31 : decode cD_act 31 = .ok (.ifCond .ne 13, 3) := by decide +kernel
theorem dD_act_34 : decode cD_act 34 = .ok (.new 101, 3) := by decide +kernel
theorem dD_act_37 : decode cD_act 37 = .ok (.dup, 1) := by decide +kernel
theorem dD_act_38 : decode cD_act 38 = .ok (.ldc 111, 2) := by decide +kernel
theorem dD_act_40 : decode cD_act 40 = .ok (.invokespecial 105, 3) := by decide +kernel
theorem dD_act_43 : decode cD_act 43 = .ok (.athrow, 1) := by decide +kernel
theorem dD_act_44 : decode cD_act 44 = .ok (.iload_n 2, 1) := by decide +kernel
theorem dD_act_45 : decode cD_act 45 = .ok (.ifCond .eq 26, 3) := by decide +kernel
theorem dD_act_48 : decode cD_act 48 = .ok (.aload_n 0, 1) := by decide +kernel
theorem dD_act_49 : decode cD_act 49 = .ok (.aload 7, 2) := by decide +kernel
theorem dD_act_51 : decode cD_act 51 = .ok (.getfield 100, 3) := by decide +kernel
theorem dD_act_54 : decode cD_act 54 = .ok (.lload_n 3, 1) := by decide +kernel
theorem dD_act_55 : decode cD_act 55 = .ok (.invokevirtual 113, 3) := by decide +kernel
theorem dD_act_58 : decode cD_act 58 = .ok (.ifCond .ne 13, 3) := by decide +kernel
theorem dD_act_61 : decode cD_act 61 = .ok (.new 101, 3) := by decide +kernel
theorem dD_act_64 : decode cD_act 64 = .ok (.dup, 1) := by decide +kernel
theorem dD_act_65 : decode cD_act 65 = .ok (.ldc 117, 2) := by decide +kernel
theorem dD_act_67 : decode cD_act 67 = .ok (.invokespecial 105, 3) := by decide +kernel
theorem dD_act_70 : decode cD_act 70 = .ok (.athrow, 1) := by decide +kernel
theorem dD_act_71 : decode cD_act 71 = .ok (.iload_n 2, 1) := by decide +kernel
theorem dD_act_72 : decode cD_act 72 = .ok (.iconst 3, 1) := by decide +kernel
theorem dD_act_73 : decode cD_act 73 = .ok (.if_icmp .ne 27, 3) := by decide +kernel
theorem dD_act_76 : decode cD_act 76 = .ok (.aload_n 0, 1) := by decide +kernel
theorem dD_act_77 : decode cD_act 77 = .ok (.aload 7, 2) := by decide +kernel
theorem dD_act_79 : decode cD_act 79 = .ok (.getfield 100, 3) := by decide +kernel
theorem dD_act_82 : decode cD_act 82 = .ok (.lload 5, 2) := by decide +kernel
theorem dD_act_84 : decode cD_act 84 = .ok (.invokevirtual 113, 3) := by decide +kernel
theorem dD_act_87 : decode cD_act 87 = .ok (.ifCond .ne 13, 3) := by decide +kernel
theorem dD_act_90 : decode cD_act 90 = .ok (.new 101, 3) := by decide +kernel
theorem dD_act_93 : decode cD_act 93 = .ok (.dup, 1) := by decide +kernel
theorem dD_act_94 : decode cD_act 94 = .ok (.ldc 119, 2) := by decide +kernel
theorem dD_act_96 : decode cD_act 96 = .ok (.invokespecial 105, 3) := by decide +kernel
theorem dD_act_99 : decode cD_act 99 = .ok (.athrow, 1) := by decide +kernel
theorem dD_act_100 : decode cD_act 100 = .ok (.aload_n 0, 1) := by decide +kernel
theorem dD_act_101 : decode cD_act 101 = .ok (.aload 7, 2) := by decide +kernel
theorem dD_act_103 : decode cD_act 103 = .ok (.iload_n 2, 1) := by decide +kernel
theorem dD_act_104 : decode cD_act 104 = .ok (.lload_n 3, 1) := by decide +kernel
theorem dD_act_105 : decode cD_act 105 = .ok (.lload 5, 2) := by decide +kernel
theorem dD_act_107 : decode cD_act 107 = .ok (.invokevirtual 121, 3) := by decide +kernel
theorem dD_act_110 : decode cD_act 110 = .ok (.lreturn, 1) := by decide +kernel
theorem dD_copy_0 : decode cD_copy 0 = .ok (.aload_n 0, 1) := by decide +kernel
theorem dD_copy_1 : decode cD_copy 1 = .ok (.iload_n 1, 1) := by decide +kernel
theorem dD_copy_2 : decode cD_copy 2 = .ok (.invokevirtual 71, 3) := by decide +kernel
theorem dD_copy_5 : decode cD_copy 5 = .ok (.astore 6, 2) := by decide +kernel
theorem dD_copy_7 : decode cD_copy 7 = .ok (.aload_n 0, 1) := by decide +kernel
theorem dD_copy_8 : decode cD_copy 8 = .ok (.iload_n 3, 1) := by decide +kernel
theorem dD_copy_9 : decode cD_copy 9 = .ok (.invokevirtual 71, 3) := by decide +kernel
theorem dD_copy_12 : decode cD_copy 12 = .ok (.astore 7, 2) := by decide +kernel
theorem dD_copy_14 : decode cD_copy 14 = .ok (.aload 6, 2) := by decide +kernel
theorem dD_copy_16 : decode cD_copy 16 = .ok (.ifnull 8, 3) := by decide +kernel
theorem dD_copy_19 : decode cD_copy 19 = .ok (.aload 7, 2) := by decide +kernel
theorem dD_copy_21 : decode cD_copy 21 = .ok (.ifnonnull 5, 3) := by decide +kernel
theorem dD_copy_24 : decode cD_copy 24 = .ok (.iconst 0, 1) := by decide +kernel
theorem dD_copy_25 : decode cD_copy 25 = .ok (.ireturn, 1) := by decide +kernel
theorem dD_copy_26 : decode cD_copy 26 = .ok (.aload 6, 2) := by decide +kernel
theorem dD_copy_28 : decode cD_copy 28 = .ok (.getfield 75, 3) := by decide +kernel
theorem dD_copy_31 : decode cD_copy 31 = .ok (.ifCond .eq 16, 3) := by decide +kernel
theorem dD_copy_34 : decode cD_copy 34 = .ok (.aload 6, 2) := by decide +kernel
theorem dD_copy_36 : decode cD_copy 36 = .ok (.getfield 75, 3) := by decide +kernel
theorem dD_copy_39 : decode cD_copy 39 = .ok (.aload 7, 2) := by decide +kernel
theorem dD_copy_41 : decode cD_copy 41 = .ok (.getfield 75, 3) := by decide +kernel
theorem dD_copy_44 : decode cD_copy 44 = .ok (.if_icmp .eq 5, 3) := by decide +kernel
theorem dD_copy_47 : decode cD_copy 47 = .ok (.iconst 0, 1) := by decide +kernel
theorem dD_copy_48 : decode cD_copy 48 = .ok (.ireturn, 1) := by decide +kernel
theorem dD_copy_49 : decode cD_copy 49 = .ok (.aload 6, 2) := by decide +kernel
theorem dD_copy_51 : decode cD_copy 51 = .ok (.iload_n 2, 1) := by decide +kernel
theorem dD_copy_52 : decode cD_copy 52 = .ok (.iload 5, 2) := by decide +kernel
theorem dD_copy_54 : decode cD_copy 54 = .ok (.invokevirtual 81, 3) := by decide +kernel
theorem dD_copy_57 : decode cD_copy 57 = .ok (.ifCond .eq 15, 3) := by decide +kernel
theorem dD_copy_60 : decode cD_copy 60 = .ok (.aload 7, 2) := by decide +kernel
theorem dD_copy_62 : decode cD_copy 62 = .ok (.iload 4, 2) := by decide +kernel
theorem dD_copy_64 : decode cD_copy 64 = .ok (.iload 5, 2) := by decide +kernel
theorem dD_copy_66 : decode cD_copy 66 = .ok (.invokevirtual 81, 3) := by decide +kernel
theorem dD_copy_69 : decode cD_copy 69 = .ok (.ifCond .ne 5, 3) := by decide +kernel
theorem dD_copy_72 : decode cD_copy 72 = .ok (.iconst 0, 1) := by decide +kernel
theorem dD_copy_73 : decode cD_copy 73 = .ok (.ireturn, 1) := by decide +kernel
theorem dD_copy_74 : decode cD_copy 74 = .ok (.aload_n 0, 1) := by decide +kernel
theorem dD_copy_75 : decode cD_copy 75 = .ok (.getfield 9, 3) := by decide +kernel
theorem dD_copy_78 : decode cD_copy 78 = .ok (.aload 6, 2) := by decide +kernel
theorem dD_copy_80 : decode cD_copy 80 = .ok (.getfield 85, 3) := by decide +kernel
theorem dD_copy_83 : decode cD_copy 83 = .ok (.iload_n 2, 1) := by decide +kernel
theorem dD_copy_84 : decode cD_copy 84 = .ok (.iadd, 1) := by decide +kernel
theorem dD_copy_85 : decode cD_copy 85 = .ok (.aload_n 0, 1) := by decide +kernel
theorem dD_copy_86 : decode cD_copy 86 = .ok (.getfield 9, 3) := by decide +kernel
theorem dD_copy_89 : decode cD_copy 89 = .ok (.aload 7, 2) := by decide +kernel
theorem dD_copy_91 : decode cD_copy 91 = .ok (.getfield 85, 3) := by decide +kernel
theorem dD_copy_94 : decode cD_copy 94 = .ok (.iload 4, 2) := by decide +kernel
theorem dD_copy_96 : decode cD_copy 96 = .ok (.iadd, 1) := by decide +kernel
theorem dD_copy_97 : decode cD_copy 97 = .ok (.iload 5, 2) := by decide +kernel
theorem dD_copy_99 : decode cD_copy 99 = .ok (.invokestatic 65, 3) := by decide +kernel
theorem dD_copy_102 : decode cD_copy 102 = .ok (.iconst 1, 1) := by decide +kernel
theorem dD_copy_103 : decode cD_copy 103 = .ok (.ireturn, 1) := by decide +kernel
theorem dD_meet_0 : decode cD_meet 0 = .ok (.aload_n 0, 1) := by decide +kernel
theorem dD_meet_1 : decode cD_meet 1 = .ok (.iload_n 1, 1) := by decide +kernel
theorem dD_meet_2 : decode cD_meet 2 = .ok (.invokevirtual 96, 3) := by decide +kernel
theorem dD_meet_5 : decode cD_meet 5 = .ok (.astore_n 3, 1) := by decide +kernel
theorem dD_meet_6 : decode cD_meet 6 = .ok (.aload_n 0, 1) := by decide +kernel
theorem dD_meet_7 : decode cD_meet 7 = .ok (.iload_n 2, 1) := by decide +kernel
theorem dD_meet_8 : decode cD_meet 8 = .ok (.invokevirtual 96, 3) := by decide +kernel
theorem dD_meet_11 : decode cD_meet 11 = .ok (.astore 4, 2) := by decide +kernel
theorem dD_meet_13 : decode cD_meet 13 = .ok (.aload_n 3, 1) := by decide +kernel
theorem dD_meet_14 : decode cD_meet 14 = .ok (.ifnull 21, 3) := by decide +kernel
theorem dD_meet_17 : decode cD_meet 17 = .ok (.aload 4, 2) := by decide +kernel
theorem dD_meet_19 : decode cD_meet 19 = .ok (.ifnull 16, 3) := by decide +kernel
theorem dD_meet_22 : decode cD_meet 22 = .ok (.aload_n 3, 1) := by decide +kernel
theorem dD_meet_23 : decode cD_meet 23 = .ok (.aload 4, 2) := by decide +kernel
theorem dD_meet_25 : decode cD_meet 25 = .ok (.invokevirtual 125, 3) := by decide +kernel
theorem dD_meet_28 : decode cD_meet 28 = .ok (.ifCond .eq 7, 3) := by decide +kernel
theorem dD_meet_31 : decode cD_meet 31 = .ok (.iconst 1, 1) := by decide +kernel
theorem dD_meet_32 : decode cD_meet 32 = .ok (.goto 4, 3) := by decide +kernel
theorem dD_meet_35 : decode cD_meet 35 = .ok (.iconst 0, 1) := by decide +kernel
theorem dD_meet_36 : decode cD_meet 36 = .ok (.ireturn, 1) := by decide +kernel
theorem dD_mark_0 : decode cD_mark 0 = .ok (.aload_n 0, 1) := by decide +kernel
theorem dD_mark_1 : decode cD_mark 1 = .ok (.getfield 51, 3) := by decide +kernel
theorem dD_mark_4 : decode cD_mark 4 = .ok (.bipush 20, 2) := by decide +kernel
theorem dD_mark_6 : decode cD_mark 6 = .ok (.if_icmp .lt 5, 3) := by decide +kernel
theorem dD_mark_9 : decode cD_mark 9 = .ok (.iconst (-1), 1) := by decide +kernel
theorem dD_mark_10 : decode cD_mark 10 = .ok (.ireturn, 1) := by decide +kernel
theorem dD_mark_11 : decode cD_mark 11 = .ok (.aload_n 0, 1) := by decide +kernel
theorem dD_mark_12 : decode cD_mark 12 = .ok (.getfield 47, 3) := by decide +kernel
theorem dD_mark_15 : decode cD_mark 15 = .ok (.aload_n 0, 1) := by decide +kernel
theorem dD_mark_16 : decode cD_mark 16 = .ok (.getfield 51, 3) := by decide +kernel
theorem dD_mark_19 : decode cD_mark 19 = .ok (.aaload, 1) := by decide +kernel
theorem dD_mark_20 : decode cD_mark 20 = .ok (.astore_n 1, 1) := by decide +kernel
theorem dD_mark_21 : decode cD_mark 21 = .ok (.aload_n 1, 1) := by decide +kernel
theorem dD_mark_22 : decode cD_mark 22 = .ok (.ifnonnull 21, 3) := by decide +kernel
theorem dD_mark_25 : decode cD_mark 25 = .ok (.new 45, 3) := by decide +kernel
theorem dD_mark_28 : decode cD_mark 28 = .ok (.dup, 1) := by decide +kernel
theorem dD_mark_29 : decode cD_mark 29 = .ok (.invokespecial 129, 3) := by decide +kernel
theorem dD_mark_32 : decode cD_mark 32 = .ok (.astore_n 1, 1) := by decide +kernel
theorem dD_mark_33 : decode cD_mark 33 = .ok (.aload_n 0, 1) := by decide +kernel
theorem dD_mark_34 : decode cD_mark 34 = .ok (.getfield 47, 3) := by decide +kernel
theorem dD_mark_37 : decode cD_mark 37 = .ok (.aload_n 0, 1) := by decide +kernel
theorem dD_mark_38 : decode cD_mark 38 = .ok (.getfield 51, 3) := by decide +kernel
theorem dD_mark_41 : decode cD_mark 41 = .ok (.aload_n 1, 1) := by decide +kernel
theorem dD_mark_42 : decode cD_mark 42 = .ok (.aastore, 1) := by decide +kernel
theorem dD_mark_43 : decode cD_mark 43 = .ok (.aload_n 1, 1) := by decide +kernel
theorem dD_mark_44 : decode cD_mark 44 = .ok (.aload_n 0, 1) := by decide +kernel
theorem dD_mark_45 : decode cD_mark 45 = .ok (.getfield 9, 3) := by decide +kernel
theorem dD_mark_48 : decode cD_mark 48 = .ok (.aload_n 0, 1) := by decide +kernel
theorem dD_mark_49 : decode cD_mark 49 = .ok (.getfield 17, 3) := by decide +kernel
theorem dD_mark_52 : decode cD_mark 52 = .ok (.invokevirtual 130, 3) := by decide +kernel
theorem dD_mark_55 : decode cD_mark 55 = .ok (.aload_n 0, 1) := by decide +kernel
theorem dD_mark_56 : decode cD_mark 56 = .ok (.dup, 1) := by decide +kernel
theorem dD_mark_57 : decode cD_mark 57 = .ok (.getfield 51, 3) := by decide +kernel
theorem dD_mark_60 : decode cD_mark 60 = .ok (.iconst 1, 1) := by decide +kernel
theorem dD_mark_61 : decode cD_mark 61 = .ok (.iadd, 1) := by decide +kernel
theorem dD_mark_62 : decode cD_mark 62 = .ok (.putfield 51, 3) := by decide +kernel
theorem dD_mark_65 : decode cD_mark 65 = .ok (.aload_n 0, 1) := by decide +kernel
theorem dD_mark_66 : decode cD_mark 66 = .ok (.getfield 51, 3) := by decide +kernel
theorem dD_mark_69 : decode cD_mark 69 = .ok (.iconst 1, 1) := by decide +kernel
theorem dD_mark_70 : decode cD_mark 70 = .ok (.isub, 1) := by decide +kernel
theorem dD_mark_71 : decode cD_mark 71 = .ok (.ireturn, 1) := by decide +kernel
theorem dD_back_0 : decode cD_back 0 = .ok (.aload_n 0, 1) := by decide +kernel
theorem dD_back_1 : decode cD_back 1 = .ok (.iload_n 1, 1) := by decide +kernel
theorem dD_back_2 : decode cD_back 2 = .ok (.invokevirtual 134, 3) := by decide +kernel
theorem dD_back_5 : decode cD_back 5 = .ok (.astore_n 2, 1) := by decide +kernel
theorem dD_back_6 : decode cD_back 6 = .ok (.aload_n 2, 1) := by decide +kernel
theorem dD_back_7 : decode cD_back 7 = .ok (.ifnonnull 5, 3) := by decide +kernel
theorem dD_back_10 : decode cD_back 10 = .ok (.iconst (-1), 1) := by decide +kernel
theorem dD_back_11 : decode cD_back 11 = .ok (.ireturn, 1) := by decide +kernel
theorem dD_back_12 : decode cD_back 12 = .ok (.aload_n 2, 1) := by decide +kernel
theorem dD_back_13 : decode cD_back 13 = .ok (.aload_n 0, 1) := by decide +kernel
theorem dD_back_14 : decode cD_back 14 = .ok (.getfield 9, 3) := by decide +kernel
theorem dD_back_17 : decode cD_back 17 = .ok (.invokevirtual 138, 3) := by decide +kernel
theorem dD_back_20 : decode cD_back 20 = .ok (.istore_n 3, 1) := by decide +kernel
theorem dD_back_21 : decode cD_back 21 = .ok (.aload_n 2, 1) := by decide +kernel
theorem dD_back_22 : decode cD_back 22 = .ok (.aload_n 0, 1) := by decide +kernel
theorem dD_back_23 : decode cD_back 23 = .ok (.getfield 9, 3) := by decide +kernel
theorem dD_back_26 : decode cD_back 26 = .ok (.invokevirtual 142, 3) := by decide +kernel
theorem dD_back_29 : decode cD_back 29 = .ok (.aload_n 0, 1) := by decide +kernel
theorem dD_back_30 : decode cD_back 30 = .ok (.iload_n 1, 1) := by decide +kernel
theorem dD_back_31 : decode cD_back 31 = .ok (.iconst 1, 1) := by decide +kernel
theorem dD_back_32 : decode cD_back 32 = .ok (.iadd, 1) := by decide +kernel
theorem dD_back_33 : decode cD_back 33 = .ok (.putfield 51, 3) := by decide +kernel
theorem dD_back_36 : decode cD_back 36 = .ok (.iload_n 3, 1) := by decide +kernel
theorem dD_back_37 : decode cD_back 37 = .ok (.ireturn, 1) := by decide +kernel
theorem dD_changed_0 : decode cD_changed 0 = .ok (.aload_n 0, 1) := by decide +kernel
theorem dD_changed_1 : decode cD_changed 1 = .ok (.iload_n 1, 1) := by decide +kernel
theorem dD_changed_2 : decode cD_changed 2 = .ok (.invokevirtual 134, 3) := by decide +kernel
theorem dD_changed_5 : decode cD_changed 5 = .ok (.astore_n 2, 1) := by decide +kernel
theorem dD_changed_6 : decode cD_changed 6 = .ok (.aload_n 2, 1) := by decide +kernel
theorem dD_changed_7 : decode cD_changed 7 = .ok (.ifnonnull 7, 3) := by decide +kernel
theorem dD_changed_10 : decode cD_changed 10 = .ok (.iconst (-1), 1) := by decide +kernel
theorem dD_changed_11 : decode cD_changed 11 = .ok (.goto 11, 3) := by decide +kernel
theorem dD_changed_14 : decode cD_changed 14 = .ok (.aload_n 2, 1) := by decide +kernel
theorem dD_changed_15 : decode cD_changed 15 = .ok (.aload_n 0, 1) := by decide +kernel
theorem dD_changed_16 : decode cD_changed 16 = .ok (.getfield 9, 3) := by decide +kernel
theorem dD_changed_19 : decode cD_changed 19 = .ok (.invokevirtual 138, 3) := by decide +kernel
theorem dD_changed_22 : decode cD_changed 22 = .ok (.ireturn, 1) := by decide +kernel
theorem dD_isKind_0 : decode cD_isKind 0 = .ok (.iload_n 0, 1) := by decide +kernel
theorem dD_isKind_1 : decode cD_isKind 1 = .ok (.iconst 1, 1) := by decide +kernel
theorem dD_isKind_2 : decode cD_isKind 2 = .ok (.if_icmp .lt 13, 3) := by decide +kernel
theorem dD_isKind_5 : decode cD_isKind 5 = .ok (.iload_n 0, 1) := by decide +kernel
theorem dD_isKind_6 : decode cD_isKind 6 = .ok (.bipush 7, 2) := by decide +kernel
theorem dD_isKind_8 : decode cD_isKind 8 = .ok (.if_icmp .gt 7, 3) := by decide +kernel
theorem dD_isKind_11 : decode cD_isKind 11 = .ok (.iconst 1, 1) := by decide +kernel
theorem dD_isKind_12 : decode cD_isKind 12 = .ok (.goto 4, 3) := by decide +kernel
theorem dD_isKind_15 : decode cD_isKind 15 = .ok (.iconst 0, 1) := by decide +kernel
theorem dD_isKind_16 : decode cD_isKind 16 = .ok (.ireturn, 1) := by decide +kernel
theorem dD_widthOfView_0 : decode cD_widthOfView 0 = .ok (.iload_n 0, 1) := by decide +kernel
theorem dD_widthOfView_1 : decode cD_widthOfView 1 = .ok (.tableswitch 38 3 6 #[31, 31, 33, 35], 31) := by decide +kernel
theorem dD_widthOfView_32 : decode cD_widthOfView 32 = .ok (.iconst 2, 1) := by decide +kernel
theorem dD_widthOfView_33 : decode cD_widthOfView 33 = .ok (.ireturn, 1) := by decide +kernel
theorem dD_widthOfView_34 : decode cD_widthOfView 34 = .ok (.iconst 4, 1) := by decide +kernel
theorem dD_widthOfView_35 : decode cD_widthOfView 35 = .ok (.ireturn, 1) := by decide +kernel
theorem dD_widthOfView_36 : decode cD_widthOfView 36 = .ok (.bipush 8, 2) := by decide +kernel
theorem dD_widthOfView_38 : decode cD_widthOfView 38 = .ok (.ireturn, 1) := by decide +kernel
theorem dD_widthOfView_39 : decode cD_widthOfView 39 = .ok (.iconst 0, 1) := by decide +kernel
theorem dD_widthOfView_40 : decode cD_widthOfView 40 = .ok (.ireturn, 1) := by decide +kernel
theorem dD_isActOf_0 : decode cD_isActOf 0 = .ok (.iload_n 0, 1) := by decide +kernel
theorem dD_isActOf_1 : decode cD_isActOf 1 = .ok (.tableswitch 78 0 7 #[47, 47, 47, 47, 49, 66, 66, 66], 47) := by decide +kernel
theorem dD_isActOf_48 : decode cD_isActOf 48 = .ok (.iconst 1, 1) := by decide +kernel
theorem dD_isActOf_49 : decode cD_isActOf 49 = .ok (.ireturn, 1) := by decide +kernel
theorem dD_isActOf_50 : decode cD_isActOf 50 = .ok (.iload_n 1, 1) := by decide +kernel
theorem dD_isActOf_51 : decode cD_isActOf 51 = .ok (.iconst 1, 1) := by decide +kernel
theorem dD_isActOf_52 : decode cD_isActOf 52 = .ok (.if_icmp .eq 13, 3) := by decide +kernel
theorem dD_isActOf_55 : decode cD_isActOf 55 = .ok (.iload_n 1, 1) := by decide +kernel
theorem dD_isActOf_56 : decode cD_isActOf 56 = .ok (.bipush 7, 2) := by decide +kernel
theorem dD_isActOf_58 : decode cD_isActOf 58 = .ok (.if_icmp .eq 7, 3) := by decide +kernel
theorem dD_isActOf_61 : decode cD_isActOf 61 = .ok (.iconst 1, 1) := by decide +kernel
theorem dD_isActOf_62 : decode cD_isActOf 62 = .ok (.goto 4, 3) := by decide +kernel
theorem dD_isActOf_65 : decode cD_isActOf 65 = .ok (.iconst 0, 1) := by decide +kernel
theorem dD_isActOf_66 : decode cD_isActOf 66 = .ok (.ireturn, 1) := by decide +kernel
theorem dD_isActOf_67 : decode cD_isActOf 67 = .ok (.iload_n 1, 1) := by decide +kernel
theorem dD_isActOf_68 : decode cD_isActOf 68 = .ok (.bipush 7, 2) := by decide +kernel
theorem dD_isActOf_70 : decode cD_isActOf 70 = .ok (.if_icmp .eq 7, 3) := by decide +kernel
theorem dD_isActOf_73 : decode cD_isActOf 73 = .ok (.iconst 1, 1) := by decide +kernel
theorem dD_isActOf_74 : decode cD_isActOf 74 = .ok (.goto 4, 3) := by decide +kernel
theorem dD_isActOf_77 : decode cD_isActOf 77 = .ok (.iconst 0, 1) := by decide +kernel
theorem dD_isActOf_78 : decode cD_isActOf 78 = .ok (.ireturn, 1) := by decide +kernel
theorem dD_isActOf_79 : decode cD_isActOf 79 = .ok (.iconst 0, 1) := by decide +kernel
theorem dD_isActOf_80 : decode cD_isActOf 80 = .ok (.ireturn, 1) := by decide +kernel
theorem dD_isValue_0 : decode cD_isValue 0 = .ok (.iload_n 1, 1) := by decide +kernel
theorem dD_isValue_1 : decode cD_isValue 1 = .ok (.bipush 7, 2) := by decide +kernel
theorem dD_isValue_3 : decode cD_isValue 3 = .ok (.if_icmp .ne 27, 3) := by decide +kernel
theorem dD_isValue_6 : decode cD_isValue 6 = .ok (.lload_n 2, 1) := by decide +kernel
theorem dD_isValue_7 : decode cD_isValue 7 = .ok (.ldc2_w 146, 3) := by decide +kernel
theorem dD_isValue_10 : decode cD_isValue 10 = .ok (.lcmp, 1) := by decide +kernel
theorem dD_isValue_11 : decode cD_isValue 11 = .ok (.ifCond .lt 17, 3) := by decide +kernel
theorem dD_isValue_14 : decode cD_isValue 14 = .ok (.lload_n 2, 1) := by decide +kernel
theorem dD_isValue_15 : decode cD_isValue 15 = .ok (.aload_n 0, 1) := by decide +kernel
theorem dD_isValue_16 : decode cD_isValue 16 = .ok (.getfield 27, 3) := by decide +kernel
theorem dD_isValue_19 : decode cD_isValue 19 = .ok (.i2l, 1) := by decide +kernel
theorem dD_isValue_20 : decode cD_isValue 20 = .ok (.lcmp, 1) := by decide +kernel
theorem dD_isValue_21 : decode cD_isValue 21 = .ok (.ifCond .ge 7, 3) := by decide +kernel
theorem dD_isValue_24 : decode cD_isValue 24 = .ok (.iconst 1, 1) := by decide +kernel
theorem dD_isValue_25 : decode cD_isValue 25 = .ok (.goto 4, 3) := by decide +kernel
theorem dD_isValue_28 : decode cD_isValue 28 = .ok (.iconst 0, 1) := by decide +kernel
theorem dD_isValue_29 : decode cD_isValue 29 = .ok (.ireturn, 1) := by decide +kernel
theorem dD_isValue_30 : decode cD_isValue 30 = .ok (.iload_n 1, 1) := by decide +kernel
theorem dD_isValue_31 : decode cD_isValue 31 = .ok (.lload_n 2, 1) := by decide +kernel
theorem dD_isValue_32 : decode cD_isValue 32 = .ok (.invokestatic 148, 3) := by decide +kernel
theorem dD_isValue_35 : decode cD_isValue 35 = .ok (.lload_n 2, 1) := by decide +kernel
theorem dD_isValue_36 : decode cD_isValue 36 = .ok (.lcmp, 1) := by decide +kernel
theorem dD_isValue_37 : decode cD_isValue 37 = .ok (.ifCond .ne 7, 3) := by decide +kernel
theorem dD_isValue_40 : decode cD_isValue 40 = .ok (.iconst 1, 1) := by decide +kernel
theorem dD_isValue_41 : decode cD_isValue 41 = .ok (.goto 4, 3) := by decide +kernel
theorem dD_isValue_44 : decode cD_isValue 44 = .ok (.iconst 0, 1) := by decide +kernel
theorem dD_isValue_45 : decode cD_isValue 45 = .ok (.ireturn, 1) := by decide +kernel
theorem dD_lowestBits_0 : decode cD_lowestBits 0 = .ok (.iload_n 0, 1) := by decide +kernel
theorem dD_lowestBits_1 : decode cD_lowestBits 1 = .ok (.tableswitch 59 1 5 #[35, 39, 44, 49, 55], 35) := by decide +kernel
theorem dD_lowestBits_36 : decode cD_lowestBits 36 = .ok (.lload_n 1, 1) := by decide +kernel
theorem dD_lowestBits_37 : decode cD_lowestBits 37 = .ok (.lconst 1, 1) := by decide +kernel
theorem dD_lowestBits_38 : decode cD_lowestBits 38 = .ok (.land, 1) := by decide +kernel
theorem dD_lowestBits_39 : decode cD_lowestBits 39 = .ok (.lreturn, 1) := by decide +kernel
theorem dD_lowestBits_40 : decode cD_lowestBits 40 = .ok (.lload_n 1, 1) := by decide +kernel
theorem dD_lowestBits_41 : decode cD_lowestBits 41 = .ok (.l2i, 1) := by decide +kernel
theorem dD_lowestBits_42 : decode cD_lowestBits 42 = .ok (.i2b, 1) := by decide +kernel
theorem dD_lowestBits_43 : decode cD_lowestBits 43 = .ok (.i2l, 1) := by decide +kernel
theorem dD_lowestBits_44 : decode cD_lowestBits 44 = .ok (.lreturn, 1) := by decide +kernel
theorem dD_lowestBits_45 : decode cD_lowestBits 45 = .ok (.lload_n 1, 1) := by decide +kernel
theorem dD_lowestBits_46 : decode cD_lowestBits 46 = .ok (.l2i, 1) := by decide +kernel
theorem dD_lowestBits_47 : decode cD_lowestBits 47 = .ok (.i2s, 1) := by decide +kernel
theorem dD_lowestBits_48 : decode cD_lowestBits 48 = .ok (.i2l, 1) := by decide +kernel
theorem dD_lowestBits_49 : decode cD_lowestBits 49 = .ok (.lreturn, 1) := by decide +kernel
theorem dD_lowestBits_50 : decode cD_lowestBits 50 = .ok (.lload_n 1, 1) := by decide +kernel
theorem dD_lowestBits_51 : decode cD_lowestBits 51 = .ok (.ldc2_w 152, 3) := by decide +kernel
theorem dD_lowestBits_54 : decode cD_lowestBits 54 = .ok (.land, 1) := by decide +kernel
theorem dD_lowestBits_55 : decode cD_lowestBits 55 = .ok (.lreturn, 1) := by decide +kernel
theorem dD_lowestBits_56 : decode cD_lowestBits 56 = .ok (.lload_n 1, 1) := by decide +kernel
theorem dD_lowestBits_57 : decode cD_lowestBits 57 = .ok (.l2i, 1) := by decide +kernel
theorem dD_lowestBits_58 : decode cD_lowestBits 58 = .ok (.i2l, 1) := by decide +kernel
theorem dD_lowestBits_59 : decode cD_lowestBits 59 = .ok (.lreturn, 1) := by decide +kernel
theorem dD_lowestBits_60 : decode cD_lowestBits 60 = .ok (.lload_n 1, 1) := by decide +kernel
theorem dD_lowestBits_61 : decode cD_lowestBits 61 = .ok (.lreturn, 1) := by decide +kernel
theorem dD_hasRoomFor_0 : decode cD_hasRoomFor 0 = .ok (.aload_n 0, 1) := by decide +kernel
theorem dD_hasRoomFor_1 : decode cD_hasRoomFor 1 = .ok (.getfield 27, 3) := by decide +kernel
theorem dD_hasRoomFor_4 : decode cD_hasRoomFor 4 = .ok (.sipush 300, 3) := by decide +kernel
theorem dD_hasRoomFor_7 : decode cD_hasRoomFor 7 = .ok (.if_icmp .ge 19, 3) := by decide +kernel
theorem dD_hasRoomFor_10 : decode cD_hasRoomFor 10 = .ok (.iload_n 1, 1) := by decide +kernel
theorem dD_hasRoomFor_11 : decode cD_hasRoomFor 11 = .ok (.sipush 4000, 3) := by decide +kernel
theorem dD_hasRoomFor_14 : decode cD_hasRoomFor 14 = .ok (.aload_n 0, 1) := by decide +kernel
theorem dD_hasRoomFor_15 : decode cD_hasRoomFor 15 = .ok (.getfield 17, 3) := by decide +kernel
theorem dD_hasRoomFor_18 : decode cD_hasRoomFor 18 = .ok (.isub, 1) := by decide +kernel
theorem dD_hasRoomFor_19 : decode cD_hasRoomFor 19 = .ok (.if_icmp .gt 7, 3) := by decide +kernel
theorem dD_hasRoomFor_22 : decode cD_hasRoomFor 22 = .ok (.iconst 1, 1) := by decide +kernel
theorem dD_hasRoomFor_23 : decode cD_hasRoomFor 23 = .ok (.goto 4, 3) := by decide +kernel
theorem dD_hasRoomFor_26 : decode cD_hasRoomFor 26 = .ok (.iconst 0, 1) := by decide +kernel
theorem dD_hasRoomFor_27 : decode cD_hasRoomFor 27 = .ok (.ireturn, 1) := by decide +kernel
theorem dD_addThing_0 : decode cD_addThing 0 = .ok (.aload_n 0, 1) := by decide +kernel
theorem dD_addThing_1 : decode cD_addThing 1 = .ok (.getfield 17, 3) := by decide +kernel
theorem dD_addThing_4 : decode cD_addThing 4 = .ok (.istore_n 3, 1) := by decide +kernel
theorem dD_addThing_5 : decode cD_addThing 5 = .ok (.iload_n 3, 1) := by decide +kernel
theorem dD_addThing_6 : decode cD_addThing 6 = .ok (.aload_n 0, 1) := by decide +kernel
theorem dD_addThing_7 : decode cD_addThing 7 = .ok (.getfield 17, 3) := by decide +kernel
theorem dD_addThing_10 : decode cD_addThing 10 = .ok (.iload_n 2, 1) := by decide +kernel
theorem dD_addThing_11 : decode cD_addThing 11 = .ok (.iadd, 1) := by decide +kernel
theorem dD_addThing_12 : decode cD_addThing 12 = .ok (.if_icmp .ge 33, 3) := by decide +kernel
theorem dD_addThing_15 : decode cD_addThing 15 = .ok (.aload_n 0, 1) := by decide +kernel
theorem dD_addThing_16 : decode cD_addThing 16 = .ok (.getfield 9, 3) := by decide +kernel
theorem dD_addThing_19 : decode cD_addThing 19 = .ok (.iload_n 3, 1) := by decide +kernel
theorem dD_addThing_20 : decode cD_addThing 20 = .ok (.aload_n 0, 1) := by decide +kernel
theorem dD_addThing_21 : decode cD_addThing 21 = .ok (.getfield 13, 3) := by decide +kernel
theorem dD_addThing_24 : decode cD_addThing 24 = .ok (.iload_n 3, 1) := by decide +kernel
theorem dD_addThing_25 : decode cD_addThing 25 = .ok (.iaload, 1) := by decide +kernel
theorem dD_addThing_26 : decode cD_addThing 26 = .ok (.bipush 7, 2) := by decide +kernel
theorem dD_addThing_28 : decode cD_addThing 28 = .ok (.if_icmp .ne 9, 3) := by decide +kernel
theorem dD_addThing_31 : decode cD_addThing 31 = .ok (.ldc2_w 146, 3) := by decide +kernel
theorem dD_addThing_34 : decode cD_addThing 34 = .ok (.goto 4, 3) := by decide +kernel
theorem dD_addThing_37 : decode cD_addThing 37 = .ok (.lconst 0, 1) := by decide +kernel
theorem dD_addThing_38 : decode cD_addThing 38 = .ok (.lastore, 1) := by decide +kernel
theorem dD_addThing_39 : decode cD_addThing 39 = .ok (.iinc 3 1, 3) := by decide +kernel
theorem dD_addThing_42 : decode cD_addThing 42 = .ok (.goto (-37), 3) := by decide +kernel
theorem dD_addThing_45 : decode cD_addThing 45 = .ok (.aload_n 0, 1) := by decide +kernel
theorem dD_addThing_46 : decode cD_addThing 46 = .ok (.getfield 23, 3) := by decide +kernel
theorem dD_addThing_49 : decode cD_addThing 49 = .ok (.aload_n 0, 1) := by decide +kernel
theorem dD_addThing_50 : decode cD_addThing 50 = .ok (.getfield 27, 3) := by decide +kernel
theorem dD_addThing_53 : decode cD_addThing 53 = .ok (.new 21, 3) := by decide +kernel
theorem dD_addThing_56 : decode cD_addThing 56 = .ok (.dup, 1) := by decide +kernel
theorem dD_addThing_57 : decode cD_addThing 57 = .ok (.iload_n 1, 1) := by decide +kernel
theorem dD_addThing_58 : decode cD_addThing 58 = .ok (.aload_n 0, 1) := by decide +kernel
theorem dD_addThing_59 : decode cD_addThing 59 = .ok (.getfield 17, 3) := by decide +kernel
theorem dD_addThing_62 : decode cD_addThing 62 = .ok (.iload_n 2, 1) := by decide +kernel
theorem dD_addThing_63 : decode cD_addThing 63 = .ok (.invokespecial 154, 3) := by decide +kernel
theorem dD_addThing_66 : decode cD_addThing 66 = .ok (.aastore, 1) := by decide +kernel
theorem dD_addThing_67 : decode cD_addThing 67 = .ok (.aload_n 0, 1) := by decide +kernel
theorem dD_addThing_68 : decode cD_addThing 68 = .ok (.dup, 1) := by decide +kernel
theorem dD_addThing_69 : decode cD_addThing 69 = .ok (.getfield 17, 3) := by decide +kernel
theorem dD_addThing_72 : decode cD_addThing 72 = .ok (.iload_n 2, 1) := by decide +kernel
theorem dD_addThing_73 : decode cD_addThing 73 = .ok (.iadd, 1) := by decide +kernel
theorem dD_addThing_74 : decode cD_addThing 74 = .ok (.putfield 17, 3) := by decide +kernel
theorem dD_addThing_77 : decode cD_addThing 77 = .ok (.aload_n 0, 1) := by decide +kernel
theorem dD_addThing_78 : decode cD_addThing 78 = .ok (.dup, 1) := by decide +kernel
theorem dD_addThing_79 : decode cD_addThing 79 = .ok (.getfield 27, 3) := by decide +kernel
theorem dD_addThing_82 : decode cD_addThing 82 = .ok (.iconst 1, 1) := by decide +kernel
theorem dD_addThing_83 : decode cD_addThing 83 = .ok (.iadd, 1) := by decide +kernel
theorem dD_addThing_84 : decode cD_addThing 84 = .ok (.putfield 27, 3) := by decide +kernel
theorem dD_addThing_87 : decode cD_addThing 87 = .ok (.aload_n 0, 1) := by decide +kernel
theorem dD_addThing_88 : decode cD_addThing 88 = .ok (.getfield 27, 3) := by decide +kernel
theorem dD_addThing_91 : decode cD_addThing 91 = .ok (.iconst 1, 1) := by decide +kernel
theorem dD_addThing_92 : decode cD_addThing 92 = .ok (.isub, 1) := by decide +kernel
theorem dD_addThing_93 : decode cD_addThing 93 = .ok (.ireturn, 1) := by decide +kernel
theorem dD_addSpot_0 : decode cD_addSpot 0 = .ok (.aload_n 0, 1) := by decide +kernel
theorem dD_addSpot_1 : decode cD_addSpot 1 = .ok (.getfield 42, 3) := by decide +kernel
theorem dD_addSpot_4 : decode cD_addSpot 4 = .ok (.bipush 100, 2) := by decide +kernel
theorem dD_addSpot_6 : decode cD_addSpot 6 = .ok (.if_icmp .lt 5, 3) := by decide +kernel
theorem dD_addSpot_9 : decode cD_addSpot 9 = .ok (.iconst (-1), 1) := by decide +kernel
theorem dD_addSpot_10 : decode cD_addSpot 10 = .ok (.ireturn, 1) := by decide +kernel
theorem dD_addSpot_11 : decode cD_addSpot 11 = .ok (.aload_n 0, 1) := by decide +kernel
theorem dD_addSpot_12 : decode cD_addSpot 12 = .ok (.getfield 38, 3) := by decide +kernel
theorem dD_addSpot_15 : decode cD_addSpot 15 = .ok (.aload_n 0, 1) := by decide +kernel
theorem dD_addSpot_16 : decode cD_addSpot 16 = .ok (.getfield 42, 3) := by decide +kernel
theorem dD_addSpot_19 : decode cD_addSpot 19 = .ok (.new 36, 3) := by decide +kernel
theorem dD_addSpot_22 : decode cD_addSpot 22 = .ok (.dup, 1) := by decide +kernel
theorem dD_addSpot_23 : decode cD_addSpot 23 = .ok (.iload_n 1, 1) := by decide +kernel
theorem dD_addSpot_24 : decode cD_addSpot 24 = .ok (.iload_n 2, 1) := by decide +kernel
theorem dD_addSpot_25 : decode cD_addSpot 25 = .ok (.iload_n 3, 1) := by decide +kernel
theorem dD_addSpot_26 : decode cD_addSpot 26 = .ok (.iload 4, 2) := by decide +kernel
theorem dD_addSpot_28 : decode cD_addSpot 28 = .ok (.invokespecial 157, 3) := by decide +kernel
theorem dD_addSpot_31 : decode cD_addSpot 31 = .ok (.aastore, 1) := by decide +kernel
theorem dD_addSpot_32 : decode cD_addSpot 32 = .ok (.aload_n 0, 1) := by decide +kernel
theorem dD_addSpot_33 : decode cD_addSpot 33 = .ok (.dup, 1) := by decide +kernel
theorem dD_addSpot_34 : decode cD_addSpot 34 = .ok (.getfield 42, 3) := by decide +kernel
theorem dD_addSpot_37 : decode cD_addSpot 37 = .ok (.iconst 1, 1) := by decide +kernel
theorem dD_addSpot_38 : decode cD_addSpot 38 = .ok (.iadd, 1) := by decide +kernel
theorem dD_addSpot_39 : decode cD_addSpot 39 = .ok (.putfield 42, 3) := by decide +kernel
theorem dD_addSpot_42 : decode cD_addSpot 42 = .ok (.aload_n 0, 1) := by decide +kernel
theorem dD_addSpot_43 : decode cD_addSpot 43 = .ok (.getfield 42, 3) := by decide +kernel
theorem dD_addSpot_46 : decode cD_addSpot 46 = .ok (.iconst 1, 1) := by decide +kernel
theorem dD_addSpot_47 : decode cD_addSpot 47 = .ok (.isub, 1) := by decide +kernel
theorem dD_addSpot_48 : decode cD_addSpot 48 = .ok (.ireturn, 1) := by decide +kernel
theorem dD_findThing_0 : decode cD_findThing 0 = .ok (.iload_n 1, 1) := by decide +kernel
theorem dD_findThing_1 : decode cD_findThing 1 = .ok (.ifCond .lt 20, 3) := by decide +kernel
theorem dD_findThing_4 : decode cD_findThing 4 = .ok (.iload_n 1, 1) := by decide +kernel
theorem dD_findThing_5 : decode cD_findThing 5 = .ok (.aload_n 0, 1) := by decide +kernel
theorem dD_findThing_6 : decode cD_findThing 6 = .ok (.getfield 27, 3) := by decide +kernel
theorem dD_findThing_9 : decode cD_findThing 9 = .ok (.if_icmp .ge 12, 3) := by decide +kernel
theorem dD_findThing_12 : decode cD_findThing 12 = .ok (.aload_n 0, 1) := by decide +kernel
theorem dD_findThing_13 : decode cD_findThing 13 = .ok (.getfield 23, 3) := by decide +kernel
theorem dD_findThing_16 : decode cD_findThing 16 = .ok (.iload_n 1, 1) := by decide +kernel
theorem dD_findThing_17 : decode cD_findThing 17 = .ok (.aaload, 1) := by decide +kernel
theorem dD_findThing_18 : decode cD_findThing 18 = .ok (.goto 4, 3) := by decide +kernel
theorem dD_findThing_21 : decode cD_findThing 21 = .ok (.aconst_null, 1) := by decide +kernel
theorem dD_findThing_22 : decode cD_findThing 22 = .ok (.areturn, 1) := by decide +kernel
theorem dD_findSpot_0 : decode cD_findSpot 0 = .ok (.iload_n 1, 1) := by decide +kernel
theorem dD_findSpot_1 : decode cD_findSpot 1 = .ok (.ifCond .lt 20, 3) := by decide +kernel
theorem dD_findSpot_4 : decode cD_findSpot 4 = .ok (.iload_n 1, 1) := by decide +kernel
theorem dD_findSpot_5 : decode cD_findSpot 5 = .ok (.aload_n 0, 1) := by decide +kernel
theorem dD_findSpot_6 : decode cD_findSpot 6 = .ok (.getfield 42, 3) := by decide +kernel
theorem dD_findSpot_9 : decode cD_findSpot 9 = .ok (.if_icmp .ge 12, 3) := by decide +kernel
theorem dD_findSpot_12 : decode cD_findSpot 12 = .ok (.aload_n 0, 1) := by decide +kernel
theorem dD_findSpot_13 : decode cD_findSpot 13 = .ok (.getfield 38, 3) := by decide +kernel
theorem dD_findSpot_16 : decode cD_findSpot 16 = .ok (.iload_n 1, 1) := by decide +kernel
theorem dD_findSpot_17 : decode cD_findSpot 17 = .ok (.aaload, 1) := by decide +kernel
theorem dD_findSpot_18 : decode cD_findSpot 18 = .ok (.goto 4, 3) := by decide +kernel
theorem dD_findSpot_21 : decode cD_findSpot 21 = .ok (.aconst_null, 1) := by decide +kernel
theorem dD_findSpot_22 : decode cD_findSpot 22 = .ok (.areturn, 1) := by decide +kernel
theorem dD_findSnapshot_0 : decode cD_findSnapshot 0 = .ok (.iload_n 1, 1) := by decide +kernel
theorem dD_findSnapshot_1 : decode cD_findSnapshot 1 = .ok (.ifCond .lt 20, 3) := by decide +kernel
theorem dD_findSnapshot_4 : decode cD_findSnapshot 4 = .ok (.iload_n 1, 1) := by decide +kernel
theorem dD_findSnapshot_5 : decode cD_findSnapshot 5 = .ok (.aload_n 0, 1) := by decide +kernel
theorem dD_findSnapshot_6 : decode cD_findSnapshot 6 = .ok (.getfield 51, 3) := by decide +kernel
theorem dD_findSnapshot_9 : decode cD_findSnapshot 9 = .ok (.if_icmp .ge 12, 3) := by decide +kernel
theorem dD_findSnapshot_12 : decode cD_findSnapshot 12 = .ok (.aload_n 0, 1) := by decide +kernel
theorem dD_findSnapshot_13 : decode cD_findSnapshot 13 = .ok (.getfield 47, 3) := by decide +kernel
theorem dD_findSnapshot_16 : decode cD_findSnapshot 16 = .ok (.iload_n 1, 1) := by decide +kernel
theorem dD_findSnapshot_17 : decode cD_findSnapshot 17 = .ok (.aaload, 1) := by decide +kernel
theorem dD_findSnapshot_18 : decode cD_findSnapshot 18 = .ok (.goto 4, 3) := by decide +kernel
theorem dD_findSnapshot_21 : decode cD_findSnapshot 21 = .ok (.aconst_null, 1) := by decide +kernel
theorem dD_findSnapshot_22 : decode cD_findSnapshot 22 = .ok (.areturn, 1) := by decide +kernel
theorem dD_perform_0 : decode cD_perform 0 = .ok (.aload_n 0, 1) := by decide +kernel
theorem dD_perform_1 : decode cD_perform 1 = .ok (.aload_n 1, 1) := by decide +kernel
theorem dD_perform_2 : decode cD_perform 2 = .ok (.invokevirtual 160, 3) := by decide +kernel
theorem dD_perform_5 : decode cD_perform 5 = .ok (.lstore 7, 2) := by decide +kernel
theorem dD_perform_7 : decode cD_perform 7 = .ok (.iload_n 2, 1) := by decide +kernel
theorem dD_perform_8 : decode cD_perform 8 = .ok (.tableswitch 136 1 7 #[44, 52, 61, 79, 98, 110, 122], 44) := by decide +kernel
theorem dD_perform_52 : decode cD_perform 52 = .ok (.aload_n 0, 1) := by decide +kernel
theorem dD_perform_53 : decode cD_perform 53 = .ok (.aload_n 1, 1) := by decide +kernel
theorem dD_perform_54 : decode cD_perform 54 = .ok (.lload_n 3, 1) := by decide +kernel
theorem dD_perform_55 : decode cD_perform 55 = .ok (.invokevirtual 164, 3) := by decide +kernel
theorem dD_perform_58 : decode cD_perform 58 = .ok (.lconst 0, 1) := by decide +kernel
theorem dD_perform_59 : decode cD_perform 59 = .ok (.lreturn, 1) := by decide +kernel
theorem dD_perform_60 : decode cD_perform 60 = .ok (.aload_n 0, 1) := by decide +kernel
theorem dD_perform_61 : decode cD_perform 61 = .ok (.aload_n 1, 1) := by decide +kernel
theorem dD_perform_62 : decode cD_perform 62 = .ok (.lload_n 3, 1) := by decide +kernel
theorem dD_perform_63 : decode cD_perform 63 = .ok (.invokevirtual 164, 3) := by decide +kernel
theorem dD_perform_66 : decode cD_perform 66 = .ok (.lload 7, 2) := by decide +kernel
theorem dD_perform_68 : decode cD_perform 68 = .ok (.lreturn, 1) := by decide +kernel
theorem dD_perform_69 : decode cD_perform 69 = .ok (.lload 7, 2) := by decide +kernel
theorem dD_perform_71 : decode cD_perform 71 = .ok (.lload_n 3, 1) := by decide +kernel
theorem dD_perform_72 : decode cD_perform 72 = .ok (.lcmp, 1) := by decide +kernel
theorem dD_perform_73 : decode cD_perform 73 = .ok (.ifCond .eq 5, 3) := by decide +kernel
theorem dD_perform_76 : decode cD_perform 76 = .ok (.lconst 0, 1) := by decide +kernel
theorem dD_perform_77 : decode cD_perform 77 = .ok (.lreturn, 1) := by decide +kernel
theorem dD_perform_78 : decode cD_perform 78 = .ok (.aload_n 0, 1) := by decide +kernel
theorem dD_perform_79 : decode cD_perform 79 = .ok (.aload_n 1, 1) := by decide +kernel
theorem dD_perform_80 : decode cD_perform 80 = .ok (.lload 5, 2) := by decide +kernel
theorem dD_perform_82 : decode cD_perform 82 = .ok (.invokevirtual 164, 3) := by decide +kernel
theorem dD_perform_85 : decode cD_perform 85 = .ok (.lconst 1, 1) := by decide +kernel
theorem dD_perform_86 : decode cD_perform 86 = .ok (.lreturn, 1) := by decide +kernel
theorem dD_perform_87 : decode cD_perform 87 = .ok (.aload_n 0, 1) := by decide +kernel
theorem dD_perform_88 : decode cD_perform 88 = .ok (.aload_n 1, 1) := by decide +kernel
theorem dD_perform_89 : decode cD_perform 89 = .ok (.aload_n 1, 1) := by decide +kernel
theorem dD_perform_90 : decode cD_perform 90 = .ok (.getfield 100, 3) := by decide +kernel
theorem dD_perform_93 : decode cD_perform 93 = .ok (.lload 7, 2) := by decide +kernel
theorem dD_perform_95 : decode cD_perform 95 = .ok (.lload_n 3, 1) := by decide +kernel
theorem dD_perform_96 : decode cD_perform 96 = .ok (.ladd, 1) := by decide +kernel
theorem dD_perform_97 : decode cD_perform 97 = .ok (.invokestatic 148, 3) := by decide +kernel
theorem dD_perform_100 : decode cD_perform 100 = .ok (.invokevirtual 164, 3) := by decide +kernel
theorem dD_perform_103 : decode cD_perform 103 = .ok (.lload 7, 2) := by decide +kernel
theorem dD_perform_105 : decode cD_perform 105 = .ok (.lreturn, 1) := by decide +kernel
theorem dD_perform_106 : decode cD_perform 106 = .ok (.aload_n 0, 1) := by decide +kernel
theorem dD_perform_107 : decode cD_perform 107 = .ok (.aload_n 1, 1) := by decide +kernel
theorem dD_perform_108 : decode cD_perform 108 = .ok (.lload 7, 2) := by decide +kernel
theorem dD_perform_110 : decode cD_perform 110 = .ok (.lload_n 3, 1) := by decide +kernel
theorem dD_perform_111 : decode cD_perform 111 = .ok (.land, 1) := by decide +kernel
theorem dD_perform_112 : decode cD_perform 112 = .ok (.invokevirtual 164, 3) := by decide +kernel
theorem dD_perform_115 : decode cD_perform 115 = .ok (.lload 7, 2) := by decide +kernel
theorem dD_perform_117 : decode cD_perform 117 = .ok (.lreturn, 1) := by decide +kernel
theorem dD_perform_118 : decode cD_perform 118 = .ok (.aload_n 0, 1) := by decide +kernel
theorem dD_perform_119 : decode cD_perform 119 = .ok (.aload_n 1, 1) := by decide +kernel
theorem dD_perform_120 : decode cD_perform 120 = .ok (.lload 7, 2) := by decide +kernel
theorem dD_perform_122 : decode cD_perform 122 = .ok (.lload_n 3, 1) := by decide +kernel
theorem dD_perform_123 : decode cD_perform 123 = .ok (.lor, 1) := by decide +kernel
theorem dD_perform_124 : decode cD_perform 124 = .ok (.invokevirtual 164, 3) := by decide +kernel
theorem dD_perform_127 : decode cD_perform 127 = .ok (.lload 7, 2) := by decide +kernel
theorem dD_perform_129 : decode cD_perform 129 = .ok (.lreturn, 1) := by decide +kernel
theorem dD_perform_130 : decode cD_perform 130 = .ok (.aload_n 0, 1) := by decide +kernel
theorem dD_perform_131 : decode cD_perform 131 = .ok (.aload_n 1, 1) := by decide +kernel
theorem dD_perform_132 : decode cD_perform 132 = .ok (.lload 7, 2) := by decide +kernel
theorem dD_perform_134 : decode cD_perform 134 = .ok (.lload_n 3, 1) := by decide +kernel
theorem dD_perform_135 : decode cD_perform 135 = .ok (.invokestatic 168, 3) := by decide +kernel
theorem dD_perform_138 : decode cD_perform 138 = .ok (.invokevirtual 164, 3) := by decide +kernel
theorem dD_perform_141 : decode cD_perform 141 = .ok (.lload 7, 2) := by decide +kernel
theorem dD_perform_143 : decode cD_perform 143 = .ok (.lreturn, 1) := by decide +kernel
theorem dD_perform_144 : decode cD_perform 144 = .ok (.lload 7, 2) := by decide +kernel
theorem dD_perform_146 : decode cD_perform 146 = .ok (.lreturn, 1) := by decide +kernel
theorem dD_read_0 : decode cD_read 0 = .ok (.aload_n 1, 1) := by decide +kernel
theorem dD_read_1 : decode cD_read 1 = .ok (.getfield 174, 3) := by decide +kernel
theorem dD_read_4 : decode cD_read 4 = .ok (.iconst 1, 1) := by decide +kernel
theorem dD_read_5 : decode cD_read 5 = .ok (.if_icmp .ne 13, 3) := by decide +kernel
theorem dD_read_8 : decode cD_read 8 = .ok (.aload_n 0, 1) := by decide +kernel
theorem dD_read_9 : decode cD_read 9 = .ok (.getfield 9, 3) := by decide +kernel
theorem dD_read_12 : decode cD_read 12 = .ok (.aload_n 1, 1) := by decide +kernel
theorem dD_read_13 : decode cD_read 13 = .ok (.getfield 177, 3) := by decide +kernel
theorem dD_read_16 : decode cD_read 16 = .ok (.laload, 1) := by decide +kernel
theorem dD_read_17 : decode cD_read 17 = .ok (.lreturn, 1) := by decide +kernel
theorem dD_read_18 : decode cD_read 18 = .ok (.lconst 0, 1) := by decide +kernel
theorem dD_read_19 : decode cD_read 19 = .ok (.lstore_n 2, 1) := by decide +kernel
theorem dD_read_20 : decode cD_read 20 = .ok (.iconst 0, 1) := by decide +kernel
theorem dD_read_21 : decode cD_read 21 = .ok (.istore 4, 2) := by decide +kernel
theorem dD_read_23 : decode cD_read 23 = .ok (.iload 4, 2) := by decide +kernel
theorem dD_read_25 : decode cD_read 25 = .ok (.aload_n 1, 1) := by decide +kernel
theorem dD_read_26 : decode cD_read 26 = .ok (.getfield 174, 3) := by decide +kernel
theorem dD_read_29 : decode cD_read 29 = .ok (.if_icmp .ge 30, 3) := by decide +kernel
theorem dD_read_32 : decode cD_read 32 = .ok (.lload_n 2, 1) := by decide +kernel
theorem dD_read_33 : decode cD_read 33 = .ok (.bipush 8, 2) := by decide +kernel
theorem dD_read_35 : decode cD_read 35 = .ok (.lshl, 1) := by decide +kernel
theorem dD_read_36 : decode cD_read 36 = .ok (.aload_n 0, 1) := by decide +kernel
theorem dD_read_37 : decode cD_read 37 = .ok (.getfield 9, 3) := by decide +kernel
theorem dD_read_40 : decode cD_read 40 = .ok (.aload_n 1, 1) := by decide +kernel
theorem dD_read_41 : decode cD_read 41 = .ok (.iload 4, 2) := by decide +kernel
theorem dD_read_43 : decode cD_read 43 = .ok (.invokevirtual 178, 3) := by decide +kernel
theorem dD_read_46 : decode cD_read 46 = .ok (.laload, 1) := by decide +kernel
theorem dD_read_47 : decode cD_read 47 = .ok (.ldc2_w 181, 3) := by decide +kernel
theorem dD_read_50 : decode cD_read 50 = .ok (.land, 1) := by decide +kernel
theorem dD_read_51 : decode cD_read 51 = .ok (.lor, 1) := by decide +kernel
theorem dD_read_52 : decode cD_read 52 = .ok (.lstore_n 2, 1) := by decide +kernel
theorem dD_read_53 : decode cD_read 53 = .ok (.iinc 4 1, 3) := by decide +kernel
theorem dD_read_56 : decode cD_read 56 = .ok (.goto (-33), 3) := by decide +kernel
theorem dD_read_59 : decode cD_read 59 = .ok (.aload_n 1, 1) := by decide +kernel
theorem dD_read_60 : decode cD_read 60 = .ok (.getfield 100, 3) := by decide +kernel
theorem dD_read_63 : decode cD_read 63 = .ok (.lload_n 2, 1) := by decide +kernel
theorem dD_read_64 : decode cD_read 64 = .ok (.invokestatic 148, 3) := by decide +kernel
theorem dD_read_67 : decode cD_read 67 = .ok (.lreturn, 1) := by decide +kernel
theorem dD_write_0 : decode cD_write 0 = .ok (.aload_n 1, 1) := by decide +kernel
theorem dD_write_1 : decode cD_write 1 = .ok (.getfield 174, 3) := by decide +kernel
theorem dD_write_4 : decode cD_write 4 = .ok (.iconst 1, 1) := by decide +kernel
theorem dD_write_5 : decode cD_write 5 = .ok (.if_icmp .ne 14, 3) := by decide +kernel
theorem dD_write_8 : decode cD_write 8 = .ok (.aload_n 0, 1) := by decide +kernel
theorem dD_write_9 : decode cD_write 9 = .ok (.getfield 9, 3) := by decide +kernel
theorem dD_write_12 : decode cD_write 12 = .ok (.aload_n 1, 1) := by decide +kernel
theorem dD_write_13 : decode cD_write 13 = .ok (.getfield 177, 3) := by decide +kernel
theorem dD_write_16 : decode cD_write 16 = .ok (.lload_n 2, 1) := by decide +kernel
theorem dD_write_17 : decode cD_write 17 = .ok (.lastore, 1) := by decide +kernel
theorem dD_write_18 : decode cD_write 18 = .ok (.return_, 1) := by decide +kernel
theorem dD_write_19 : decode cD_write 19 = .ok (.lload_n 2, 1) := by decide +kernel
theorem dD_write_20 : decode cD_write 20 = .ok (.lstore 4, 2) := by decide +kernel
theorem dD_write_22 : decode cD_write 22 = .ok (.aload_n 1, 1) := by decide +kernel
theorem dD_write_23 : decode cD_write 23 = .ok (.getfield 174, 3) := by decide +kernel
theorem dD_write_26 : decode cD_write 26 = .ok (.iconst 1, 1) := by decide +kernel
theorem dD_write_27 : decode cD_write 27 = .ok (.isub, 1) := by decide +kernel
theorem dD_write_28 : decode cD_write 28 = .ok (.istore 6, 2) := by decide +kernel
theorem dD_write_30 : decode cD_write 30 = .ok (.iload 6, 2) := by decide +kernel
theorem dD_write_32 : decode cD_write 32 = .ok (.ifCond .lt 33, 3) := by decide +kernel
theorem dD_write_35 : decode cD_write 35 = .ok (.aload_n 0, 1) := by decide +kernel
theorem dD_write_36 : decode cD_write 36 = .ok (.getfield 9, 3) := by decide +kernel
theorem dD_write_39 : decode cD_write 39 = .ok (.aload_n 1, 1) := by decide +kernel
theorem dD_write_40 : decode cD_write 40 = .ok (.iload 6, 2) := by decide +kernel
theorem dD_write_42 : decode cD_write 42 = .ok (.invokevirtual 178, 3) := by decide +kernel
theorem dD_write_45 : decode cD_write 45 = .ok (.iconst 2, 1) := by decide +kernel
theorem dD_write_46 : decode cD_write 46 = .ok (.lload 4, 2) := by decide +kernel
theorem dD_write_48 : decode cD_write 48 = .ok (.invokestatic 148, 3) := by decide +kernel
theorem dD_write_51 : decode cD_write 51 = .ok (.lastore, 1) := by decide +kernel
theorem dD_write_52 : decode cD_write 52 = .ok (.lload 4, 2) := by decide +kernel
theorem dD_write_54 : decode cD_write 54 = .ok (.bipush 8, 2) := by decide +kernel
theorem dD_write_56 : decode cD_write 56 = .ok (.lshr, 1) := by decide +kernel
theorem dD_write_57 : decode cD_write 57 = .ok (.lstore 4, 2) := by decide +kernel
theorem dD_write_59 : decode cD_write 59 = .ok (.iinc 6 (-1), 3) := by decide +kernel
theorem dD_write_62 : decode cD_write 62 = .ok (.goto (-32), 3) := by decide +kernel
theorem dD_write_65 : decode cD_write 65 = .ok (.return_, 1) := by decide +kernel
end
section
theorem dL_act_0 : decode cL_act 0 = .ok (.aload 7, 2) := by decide +kernel
theorem dL_act_2 : decode cL_act 2 = .ok (.iconst 0, 1) := by decide +kernel
theorem dL_act_3 : decode cL_act 3 = .ok (.aload_n 0, 1) := by decide +kernel
theorem dL_act_4 : decode cL_act 4 = .ok (.iload_n 1, 1) := by decide +kernel
theorem dL_act_5 : decode cL_act 5 = .ok (.iload_n 2, 1) := by decide +kernel
theorem dL_act_6 : decode cL_act 6 = .ok (.lload_n 3, 1) := by decide +kernel
theorem dL_act_7 : decode cL_act 7 = .ok (.lload 5, 2) := by decide +kernel
theorem dL_act_9 : decode cL_act 9 = .ok (.invokevirtual 7, 3) := by decide +kernel
theorem dL_act_12 : decode cL_act 12 = .ok (.lastore, 1) := by decide +kernel
theorem dL_act_13 : decode cL_act 13 = .ok (.goto 7, 3) := by decide +kernel
theorem dL_act_16 : decode cL_act 16 = .ok (.astore 8, 2) := by decide +kernel
theorem dL_act_18 : decode cL_act 18 = .ok (.iconst 1, 1) := by decide +kernel
theorem dL_act_19 : decode cL_act 19 = .ok (.ireturn, 1) := by decide +kernel
theorem dL_act_20 : decode cL_act 20 = .ok (.iconst 0, 1) := by decide +kernel
theorem dL_act_21 : decode cL_act 21 = .ok (.ireturn, 1) := by decide +kernel
theorem dL_law_0 : decode cL_law 0 = .ok (.new 8, 3) := by decide +kernel
theorem dL_law_3 : decode cL_law 3 = .ok (.dup, 1) := by decide +kernel
theorem dL_law_4 : decode cL_law 4 = .ok (.invokespecial 15, 3) := by decide +kernel
theorem dL_law_7 : decode cL_law 7 = .ok (.astore_n 1, 1) := by decide +kernel
theorem dL_law_8 : decode cL_law 8 = .ok (.new 16, 3) := by decide +kernel
theorem dL_law_11 : decode cL_law 11 = .ok (.dup, 1) := by decide +kernel
theorem dL_law_12 : decode cL_law 12 = .ok (.invokespecial 18, 3) := by decide +kernel
theorem dL_law_15 : decode cL_law 15 = .ok (.astore_n 2, 1) := by decide +kernel
theorem dL_law_16 : decode cL_law 16 = .ok (.iconst 1, 1) := by decide +kernel
theorem dL_law_17 : decode cL_law 17 = .ok (.newarray .long, 2) := by decide +kernel
theorem dL_law_19 : decode cL_law 19 = .ok (.astore_n 3, 1) := by decide +kernel
theorem dL_law_20 : decode cL_law 20 = .ok (.iconst 0, 1) := by decide +kernel
theorem dL_law_21 : decode cL_law 21 = .ok (.istore 4, 2) := by decide +kernel
theorem dL_law_23 : decode cL_law 23 = .ok (.iload 4, 2) := by decide +kernel
theorem dL_law_25 : decode cL_law 25 = .ok (.aload_n 0, 1) := by decide +kernel
theorem dL_law_26 : decode cL_law 26 = .ok (.arraylength, 1) := by decide +kernel
theorem dL_law_27 : decode cL_law 27 = .ok (.bipush 7, 2) := by decide +kernel
theorem dL_law_29 : decode cL_law 29 = .ok (.isub, 1) := by decide +kernel
theorem dL_law_30 : decode cL_law 30 = .ok (.if_icmp .gt 665, 3) := by decide +kernel
theorem dL_law_33 : decode cL_law 33 = .ok (.aload_n 0, 1) := by decide +kernel
theorem dL_law_34 : decode cL_law 34 = .ok (.iload 4, 2) := by decide +kernel
theorem dL_law_36 : decode cL_law 36 = .ok (.iaload, 1) := by decide +kernel
theorem dL_law_37 : decode cL_law 37 = .ok (.bipush 15, 2) := by decide +kernel
theorem dL_law_39 : decode cL_law 39 = .ok (.iand, 1) := by decide +kernel
theorem dL_law_40 : decode cL_law 40 = .ok (.tableswitch 649 0 12 #[68, 105, 130, 143, 180, 217, 294, 319, 476, 549, 586, 599, 624], 68) := by decide +kernel
theorem dL_law_108 : decode cL_law 108 = .ok (.aload_n 1, 1) := by decide +kernel
theorem dL_law_109 : decode cL_law 109 = .ok (.aload_n 0, 1) := by decide +kernel
theorem dL_law_110 : decode cL_law 110 = .ok (.iload 4, 2) := by decide +kernel
theorem dL_law_112 : decode cL_law 112 = .ok (.iconst 1, 1) := by decide +kernel
theorem dL_law_113 : decode cL_law 113 = .ok (.iadd, 1) := by decide +kernel
theorem dL_law_114 : decode cL_law 114 = .ok (.iaload, 1) := by decide +kernel
theorem dL_law_115 : decode cL_law 115 = .ok (.aload_n 0, 1) := by decide +kernel
theorem dL_law_116 : decode cL_law 116 = .ok (.iload 4, 2) := by decide +kernel
theorem dL_law_118 : decode cL_law 118 = .ok (.iconst 2, 1) := by decide +kernel
theorem dL_law_119 : decode cL_law 119 = .ok (.iadd, 1) := by decide +kernel
theorem dL_law_120 : decode cL_law 120 = .ok (.iaload, 1) := by decide +kernel
theorem dL_law_121 : decode cL_law 121 = .ok (.invokevirtual 19, 3) := by decide +kernel
theorem dL_law_124 : decode cL_law 124 = .ok (.aload_n 2, 1) := by decide +kernel
theorem dL_law_125 : decode cL_law 125 = .ok (.aload_n 0, 1) := by decide +kernel
theorem dL_law_126 : decode cL_law 126 = .ok (.iload 4, 2) := by decide +kernel
theorem dL_law_128 : decode cL_law 128 = .ok (.iconst 1, 1) := by decide +kernel
theorem dL_law_129 : decode cL_law 129 = .ok (.iadd, 1) := by decide +kernel
theorem dL_law_130 : decode cL_law 130 = .ok (.iaload, 1) := by decide +kernel
theorem dL_law_131 : decode cL_law 131 = .ok (.aload_n 0, 1) := by decide +kernel
theorem dL_law_132 : decode cL_law 132 = .ok (.iload 4, 2) := by decide +kernel
theorem dL_law_134 : decode cL_law 134 = .ok (.iconst 2, 1) := by decide +kernel
theorem dL_law_135 : decode cL_law 135 = .ok (.iadd, 1) := by decide +kernel
theorem dL_law_136 : decode cL_law 136 = .ok (.iaload, 1) := by decide +kernel
theorem dL_law_137 : decode cL_law 137 = .ok (.invokevirtual 23, 3) := by decide +kernel
theorem dL_law_140 : decode cL_law 140 = .ok (.if_icmp .eq 549, 3) := by decide +kernel
theorem dL_law_143 : decode cL_law 143 = .ok (.iconst 0, 1) := by decide +kernel
theorem dL_law_144 : decode cL_law 144 = .ok (.ireturn, 1) := by decide +kernel
theorem dL_law_145 : decode cL_law 145 = .ok (.aload_n 1, 1) := by decide +kernel
theorem dL_law_146 : decode cL_law 146 = .ok (.aload_n 0, 1) := by decide +kernel
theorem dL_law_147 : decode cL_law 147 = .ok (.iload 4, 2) := by decide +kernel
theorem dL_law_149 : decode cL_law 149 = .ok (.iconst 1, 1) := by decide +kernel
theorem dL_law_150 : decode cL_law 150 = .ok (.iadd, 1) := by decide +kernel
theorem dL_law_151 : decode cL_law 151 = .ok (.iaload, 1) := by decide +kernel
theorem dL_law_152 : decode cL_law 152 = .ok (.invokevirtual 24, 3) := by decide +kernel
theorem dL_law_155 : decode cL_law 155 = .ok (.aload_n 2, 1) := by decide +kernel
theorem dL_law_156 : decode cL_law 156 = .ok (.aload_n 0, 1) := by decide +kernel
theorem dL_law_157 : decode cL_law 157 = .ok (.iload 4, 2) := by decide +kernel
theorem dL_law_159 : decode cL_law 159 = .ok (.iconst 1, 1) := by decide +kernel
theorem dL_law_160 : decode cL_law 160 = .ok (.iadd, 1) := by decide +kernel
theorem dL_law_161 : decode cL_law 161 = .ok (.iaload, 1) := by decide +kernel
theorem dL_law_162 : decode cL_law 162 = .ok (.invokevirtual 28, 3) := by decide +kernel
theorem dL_law_165 : decode cL_law 165 = .ok (.if_icmp .eq 524, 3) := by decide +kernel
theorem dL_law_168 : decode cL_law 168 = .ok (.iconst 0, 1) := by decide +kernel
theorem dL_law_169 : decode cL_law 169 = .ok (.ireturn, 1) := by decide +kernel
theorem dL_law_170 : decode cL_law 170 = .ok (.aload_n 1, 1) := by decide +kernel
theorem dL_law_171 : decode cL_law 171 = .ok (.invokevirtual 29, 3) := by decide +kernel
theorem dL_law_174 : decode cL_law 174 = .ok (.aload_n 2, 1) := by decide +kernel
theorem dL_law_175 : decode cL_law 175 = .ok (.invokevirtual 33, 3) := by decide +kernel
theorem dL_law_178 : decode cL_law 178 = .ok (.if_icmp .eq 511, 3) := by decide +kernel
theorem dL_law_181 : decode cL_law 181 = .ok (.iconst 0, 1) := by decide +kernel
theorem dL_law_182 : decode cL_law 182 = .ok (.ireturn, 1) := by decide +kernel
theorem dL_law_183 : decode cL_law 183 = .ok (.aload_n 1, 1) := by decide +kernel
theorem dL_law_184 : decode cL_law 184 = .ok (.aload_n 0, 1) := by decide +kernel
theorem dL_law_185 : decode cL_law 185 = .ok (.iload 4, 2) := by decide +kernel
theorem dL_law_187 : decode cL_law 187 = .ok (.iconst 1, 1) := by decide +kernel
theorem dL_law_188 : decode cL_law 188 = .ok (.iadd, 1) := by decide +kernel
theorem dL_law_189 : decode cL_law 189 = .ok (.iaload, 1) := by decide +kernel
theorem dL_law_190 : decode cL_law 190 = .ok (.aload_n 0, 1) := by decide +kernel
theorem dL_law_191 : decode cL_law 191 = .ok (.iload 4, 2) := by decide +kernel
theorem dL_law_193 : decode cL_law 193 = .ok (.iconst 2, 1) := by decide +kernel
theorem dL_law_194 : decode cL_law 194 = .ok (.iadd, 1) := by decide +kernel
theorem dL_law_195 : decode cL_law 195 = .ok (.iaload, 1) := by decide +kernel
theorem dL_law_196 : decode cL_law 196 = .ok (.invokevirtual 34, 3) := by decide +kernel
theorem dL_law_199 : decode cL_law 199 = .ok (.aload_n 2, 1) := by decide +kernel
theorem dL_law_200 : decode cL_law 200 = .ok (.aload_n 0, 1) := by decide +kernel
theorem dL_law_201 : decode cL_law 201 = .ok (.iload 4, 2) := by decide +kernel
theorem dL_law_203 : decode cL_law 203 = .ok (.iconst 1, 1) := by decide +kernel
theorem dL_law_204 : decode cL_law 204 = .ok (.iadd, 1) := by decide +kernel
theorem dL_law_205 : decode cL_law 205 = .ok (.iaload, 1) := by decide +kernel
theorem dL_law_206 : decode cL_law 206 = .ok (.aload_n 0, 1) := by decide +kernel
theorem dL_law_207 : decode cL_law 207 = .ok (.iload 4, 2) := by decide +kernel
theorem dL_law_209 : decode cL_law 209 = .ok (.iconst 2, 1) := by decide +kernel
theorem dL_law_210 : decode cL_law 210 = .ok (.iadd, 1) := by decide +kernel
theorem dL_law_211 : decode cL_law 211 = .ok (.iaload, 1) := by decide +kernel
theorem dL_law_212 : decode cL_law 212 = .ok (.invokevirtual 37, 3) := by decide +kernel
theorem dL_law_215 : decode cL_law 215 = .ok (.if_icmp .eq 474, 3) := by decide +kernel
theorem dL_law_218 : decode cL_law 218 = .ok (.iconst 0, 1) := by decide +kernel
theorem dL_law_219 : decode cL_law 219 = .ok (.ireturn, 1) := by decide +kernel
theorem dL_law_220 : decode cL_law 220 = .ok (.aload_n 1, 1) := by decide +kernel
theorem dL_law_221 : decode cL_law 221 = .ok (.aload_n 0, 1) := by decide +kernel
theorem dL_law_222 : decode cL_law 222 = .ok (.iload 4, 2) := by decide +kernel
theorem dL_law_224 : decode cL_law 224 = .ok (.iconst 1, 1) := by decide +kernel
theorem dL_law_225 : decode cL_law 225 = .ok (.iadd, 1) := by decide +kernel
theorem dL_law_226 : decode cL_law 226 = .ok (.iaload, 1) := by decide +kernel
theorem dL_law_227 : decode cL_law 227 = .ok (.aload_n 0, 1) := by decide +kernel
theorem dL_law_228 : decode cL_law 228 = .ok (.iload 4, 2) := by decide +kernel
theorem dL_law_230 : decode cL_law 230 = .ok (.iconst 2, 1) := by decide +kernel
theorem dL_law_231 : decode cL_law 231 = .ok (.iadd, 1) := by decide +kernel
theorem dL_law_232 : decode cL_law 232 = .ok (.iaload, 1) := by decide +kernel
theorem dL_law_233 : decode cL_law 233 = .ok (.invokevirtual 38, 3) := by decide +kernel
theorem dL_law_236 : decode cL_law 236 = .ok (.aload_n 2, 1) := by decide +kernel
theorem dL_law_237 : decode cL_law 237 = .ok (.aload_n 0, 1) := by decide +kernel
theorem dL_law_238 : decode cL_law 238 = .ok (.iload 4, 2) := by decide +kernel
theorem dL_law_240 : decode cL_law 240 = .ok (.iconst 1, 1) := by decide +kernel
theorem dL_law_241 : decode cL_law 241 = .ok (.iadd, 1) := by decide +kernel
theorem dL_law_242 : decode cL_law 242 = .ok (.iaload, 1) := by decide +kernel
theorem dL_law_243 : decode cL_law 243 = .ok (.aload_n 0, 1) := by decide +kernel
theorem dL_law_244 : decode cL_law 244 = .ok (.iload 4, 2) := by decide +kernel
theorem dL_law_246 : decode cL_law 246 = .ok (.iconst 2, 1) := by decide +kernel
theorem dL_law_247 : decode cL_law 247 = .ok (.iadd, 1) := by decide +kernel
theorem dL_law_248 : decode cL_law 248 = .ok (.iaload, 1) := by decide +kernel
theorem dL_law_249 : decode cL_law 249 = .ok (.invokevirtual 41, 3) := by decide +kernel
theorem dL_law_252 : decode cL_law 252 = .ok (.if_icmp .eq 437, 3) := by decide +kernel
theorem dL_law_255 : decode cL_law 255 = .ok (.iconst 0, 1) := by decide +kernel
theorem dL_law_256 : decode cL_law 256 = .ok (.ireturn, 1) := by decide +kernel
theorem dL_law_257 : decode cL_law 257 = .ok (.aload_n 1, 1) := by decide +kernel
theorem dL_law_258 : decode cL_law 258 = .ok (.aload_n 0, 1) := by decide +kernel
theorem dL_law_259 : decode cL_law 259 = .ok (.iload 4, 2) := by decide +kernel
theorem dL_law_261 : decode cL_law 261 = .ok (.iconst 1, 1) := by decide +kernel
theorem dL_law_262 : decode cL_law 262 = .ok (.iadd, 1) := by decide +kernel
theorem dL_law_263 : decode cL_law 263 = .ok (.iaload, 1) := by decide +kernel
theorem dL_law_264 : decode cL_law 264 = .ok (.aload_n 0, 1) := by decide +kernel
theorem dL_law_265 : decode cL_law 265 = .ok (.iload 4, 2) := by decide +kernel
theorem dL_law_267 : decode cL_law 267 = .ok (.iconst 2, 1) := by decide +kernel
theorem dL_law_268 : decode cL_law 268 = .ok (.iadd, 1) := by decide +kernel
theorem dL_law_269 : decode cL_law 269 = .ok (.iaload, 1) := by decide +kernel
theorem dL_law_270 : decode cL_law 270 = .ok (.aload_n 0, 1) := by decide +kernel
theorem dL_law_271 : decode cL_law 271 = .ok (.iload 4, 2) := by decide +kernel
theorem dL_law_273 : decode cL_law 273 = .ok (.iconst 3, 1) := by decide +kernel
theorem dL_law_274 : decode cL_law 274 = .ok (.iadd, 1) := by decide +kernel
theorem dL_law_275 : decode cL_law 275 = .ok (.iaload, 1) := by decide +kernel
theorem dL_law_276 : decode cL_law 276 = .ok (.aload_n 0, 1) := by decide +kernel
theorem dL_law_277 : decode cL_law 277 = .ok (.iload 4, 2) := by decide +kernel
theorem dL_law_279 : decode cL_law 279 = .ok (.iconst 4, 1) := by decide +kernel
theorem dL_law_280 : decode cL_law 280 = .ok (.iadd, 1) := by decide +kernel
theorem dL_law_281 : decode cL_law 281 = .ok (.iaload, 1) := by decide +kernel
theorem dL_law_282 : decode cL_law 282 = .ok (.ifCond .eq 7, 3) := by decide +kernel
theorem dL_law_285 : decode cL_law 285 = .ok (.iconst 1, 1) := by decide +kernel
theorem dL_law_286 : decode cL_law 286 = .ok (.goto 4, 3) := by decide +kernel
theorem dL_law_289 : decode cL_law 289 = .ok (.iconst 0, 1) := by decide +kernel
theorem dL_law_290 : decode cL_law 290 = .ok (.invokevirtual 42, 3) := by decide +kernel
theorem dL_law_293 : decode cL_law 293 = .ok (.aload_n 2, 1) := by decide +kernel
theorem dL_law_294 : decode cL_law 294 = .ok (.aload_n 0, 1) := by decide +kernel
theorem dL_law_295 : decode cL_law 295 = .ok (.iload 4, 2) := by decide +kernel
theorem dL_law_297 : decode cL_law 297 = .ok (.iconst 1, 1) := by decide +kernel
theorem dL_law_298 : decode cL_law 298 = .ok (.iadd, 1) := by decide +kernel
theorem dL_law_299 : decode cL_law 299 = .ok (.iaload, 1) := by decide +kernel
theorem dL_law_300 : decode cL_law 300 = .ok (.aload_n 0, 1) := by decide +kernel
theorem dL_law_301 : decode cL_law 301 = .ok (.iload 4, 2) := by decide +kernel
theorem dL_law_303 : decode cL_law 303 = .ok (.iconst 2, 1) := by decide +kernel
theorem dL_law_304 : decode cL_law 304 = .ok (.iadd, 1) := by decide +kernel
theorem dL_law_305 : decode cL_law 305 = .ok (.iaload, 1) := by decide +kernel
theorem dL_law_306 : decode cL_law 306 = .ok (.aload_n 0, 1) := by decide +kernel
theorem dL_law_307 : decode cL_law 307 = .ok (.iload 4, 2) := by decide +kernel
theorem dL_law_309 : decode cL_law 309 = .ok (.iconst 3, 1) := by decide +kernel
theorem dL_law_310 : decode cL_law 310 = .ok (.iadd, 1) := by decide +kernel
theorem dL_law_311 : decode cL_law 311 = .ok (.iaload, 1) := by decide +kernel
theorem dL_law_312 : decode cL_law 312 = .ok (.aload_n 0, 1) := by decide +kernel
theorem dL_law_313 : decode cL_law 313 = .ok (.iload 4, 2) := by decide +kernel
theorem dL_law_315 : decode cL_law 315 = .ok (.iconst 4, 1) := by decide +kernel
theorem dL_law_316 : decode cL_law 316 = .ok (.iadd, 1) := by decide +kernel
theorem dL_law_317 : decode cL_law 317 = .ok (.iaload, 1) := by decide +kernel
theorem dL_law_318 : decode cL_law 318 = .ok (.ifCond .eq 7, 3) := by decide +kernel
theorem dL_law_321 : decode cL_law 321 = .ok (.iconst 1, 1) := by decide +kernel
theorem dL_law_322 : decode cL_law 322 = .ok (.goto 4, 3) := by decide +kernel
theorem dL_law_325 : decode cL_law 325 = .ok (.iconst 0, 1) := by decide +kernel
theorem dL_law_326 : decode cL_law 326 = .ok (.invokevirtual 46, 3) := by decide +kernel
theorem dL_law_329 : decode cL_law 329 = .ok (.if_icmp .eq 360, 3) := by decide +kernel
theorem dL_law_332 : decode cL_law 332 = .ok (.iconst 0, 1) := by decide +kernel
theorem dL_law_333 : decode cL_law 333 = .ok (.ireturn, 1) := by decide +kernel
theorem dL_law_334 : decode cL_law 334 = .ok (.aload_n 1, 1) := by decide +kernel
theorem dL_law_335 : decode cL_law 335 = .ok (.aload_n 0, 1) := by decide +kernel
theorem dL_law_336 : decode cL_law 336 = .ok (.iload 4, 2) := by decide +kernel
theorem dL_law_338 : decode cL_law 338 = .ok (.iconst 1, 1) := by decide +kernel
theorem dL_law_339 : decode cL_law 339 = .ok (.iadd, 1) := by decide +kernel
theorem dL_law_340 : decode cL_law 340 = .ok (.iaload, 1) := by decide +kernel
theorem dL_law_341 : decode cL_law 341 = .ok (.invokevirtual 47, 3) := by decide +kernel
theorem dL_law_344 : decode cL_law 344 = .ok (.aload_n 2, 1) := by decide +kernel
theorem dL_law_345 : decode cL_law 345 = .ok (.aload_n 0, 1) := by decide +kernel
theorem dL_law_346 : decode cL_law 346 = .ok (.iload 4, 2) := by decide +kernel
theorem dL_law_348 : decode cL_law 348 = .ok (.iconst 1, 1) := by decide +kernel
theorem dL_law_349 : decode cL_law 349 = .ok (.iadd, 1) := by decide +kernel
theorem dL_law_350 : decode cL_law 350 = .ok (.iaload, 1) := by decide +kernel
theorem dL_law_351 : decode cL_law 351 = .ok (.invokevirtual 51, 3) := by decide +kernel
theorem dL_law_354 : decode cL_law 354 = .ok (.if_icmp .eq 335, 3) := by decide +kernel
theorem dL_law_357 : decode cL_law 357 = .ok (.iconst 0, 1) := by decide +kernel
theorem dL_law_358 : decode cL_law 358 = .ok (.ireturn, 1) := by decide +kernel
theorem dL_law_359 : decode cL_law 359 = .ok (.aload_n 1, 1) := by decide +kernel
theorem dL_law_360 : decode cL_law 360 = .ok (.aload_n 0, 1) := by decide +kernel
theorem dL_law_361 : decode cL_law 361 = .ok (.iload 4, 2) := by decide +kernel
theorem dL_law_363 : decode cL_law 363 = .ok (.iconst 1, 1) := by decide +kernel
theorem dL_law_364 : decode cL_law 364 = .ok (.iadd, 1) := by decide +kernel
theorem dL_law_365 : decode cL_law 365 = .ok (.iaload, 1) := by decide +kernel
theorem dL_law_366 : decode cL_law 366 = .ok (.aload_n 0, 1) := by decide +kernel
theorem dL_law_367 : decode cL_law 367 = .ok (.iload 4, 2) := by decide +kernel
theorem dL_law_369 : decode cL_law 369 = .ok (.iconst 2, 1) := by decide +kernel
theorem dL_law_370 : decode cL_law 370 = .ok (.iadd, 1) := by decide +kernel
theorem dL_law_371 : decode cL_law 371 = .ok (.iaload, 1) := by decide +kernel
theorem dL_law_372 : decode cL_law 372 = .ok (.aload_n 0, 1) := by decide +kernel
theorem dL_law_373 : decode cL_law 373 = .ok (.iload 4, 2) := by decide +kernel
theorem dL_law_375 : decode cL_law 375 = .ok (.iconst 3, 1) := by decide +kernel
theorem dL_law_376 : decode cL_law 376 = .ok (.iadd, 1) := by decide +kernel
theorem dL_law_377 : decode cL_law 377 = .ok (.iaload, 1) := by decide +kernel
theorem dL_law_378 : decode cL_law 378 = .ok (.i2l, 1) := by decide +kernel
theorem dL_law_379 : decode cL_law 379 = .ok (.bipush 32, 2) := by decide +kernel
theorem dL_law_381 : decode cL_law 381 = .ok (.lshl, 1) := by decide +kernel
theorem dL_law_382 : decode cL_law 382 = .ok (.aload_n 0, 1) := by decide +kernel
theorem dL_law_383 : decode cL_law 383 = .ok (.iload 4, 2) := by decide +kernel
theorem dL_law_385 : decode cL_law 385 = .ok (.iconst 4, 1) := by decide +kernel
theorem dL_law_386 : decode cL_law 386 = .ok (.iadd, 1) := by decide +kernel
theorem dL_law_387 : decode cL_law 387 = .ok (.iaload, 1) := by decide +kernel
theorem dL_law_388 : decode cL_law 388 = .ok (.i2l, 1) := by decide +kernel
theorem dL_law_389 : decode cL_law 389 = .ok (.ldc2_w 52, 3) := by decide +kernel
theorem dL_law_392 : decode cL_law 392 = .ok (.land, 1) := by decide +kernel
theorem dL_law_393 : decode cL_law 393 = .ok (.lor, 1) := by decide +kernel
theorem dL_law_394 : decode cL_law 394 = .ok (.aload_n 0, 1) := by decide +kernel
theorem dL_law_395 : decode cL_law 395 = .ok (.iload 4, 2) := by decide +kernel
theorem dL_law_397 : decode cL_law 397 = .ok (.iconst 5, 1) := by decide +kernel
theorem dL_law_398 : decode cL_law 398 = .ok (.iadd, 1) := by decide +kernel
theorem dL_law_399 : decode cL_law 399 = .ok (.iaload, 1) := by decide +kernel
theorem dL_law_400 : decode cL_law 400 = .ok (.i2l, 1) := by decide +kernel
theorem dL_law_401 : decode cL_law 401 = .ok (.bipush 32, 2) := by decide +kernel
theorem dL_law_403 : decode cL_law 403 = .ok (.lshl, 1) := by decide +kernel
theorem dL_law_404 : decode cL_law 404 = .ok (.aload_n 0, 1) := by decide +kernel
theorem dL_law_405 : decode cL_law 405 = .ok (.iload 4, 2) := by decide +kernel
theorem dL_law_407 : decode cL_law 407 = .ok (.bipush 6, 2) := by decide +kernel
theorem dL_law_409 : decode cL_law 409 = .ok (.iadd, 1) := by decide +kernel
theorem dL_law_410 : decode cL_law 410 = .ok (.iaload, 1) := by decide +kernel
theorem dL_law_411 : decode cL_law 411 = .ok (.i2l, 1) := by decide +kernel
theorem dL_law_412 : decode cL_law 412 = .ok (.ldc2_w 52, 3) := by decide +kernel
theorem dL_law_415 : decode cL_law 415 = .ok (.land, 1) := by decide +kernel
theorem dL_law_416 : decode cL_law 416 = .ok (.lor, 1) := by decide +kernel
theorem dL_law_417 : decode cL_law 417 = .ok (.aload_n 3, 1) := by decide +kernel
theorem dL_law_418 : decode cL_law 418 = .ok (.invokestatic 54, 3) := by decide +kernel
theorem dL_law_421 : decode cL_law 421 = .ok (.istore 5, 2) := by decide +kernel
theorem dL_law_423 : decode cL_law 423 = .ok (.aload_n 2, 1) := by decide +kernel
theorem dL_law_424 : decode cL_law 424 = .ok (.aload_n 0, 1) := by decide +kernel
theorem dL_law_425 : decode cL_law 425 = .ok (.iload 4, 2) := by decide +kernel
theorem dL_law_427 : decode cL_law 427 = .ok (.iconst 1, 1) := by decide +kernel
theorem dL_law_428 : decode cL_law 428 = .ok (.iadd, 1) := by decide +kernel
theorem dL_law_429 : decode cL_law 429 = .ok (.iaload, 1) := by decide +kernel
theorem dL_law_430 : decode cL_law 430 = .ok (.aload_n 0, 1) := by decide +kernel
theorem dL_law_431 : decode cL_law 431 = .ok (.iload 4, 2) := by decide +kernel
theorem dL_law_433 : decode cL_law 433 = .ok (.iconst 2, 1) := by decide +kernel
theorem dL_law_434 : decode cL_law 434 = .ok (.iadd, 1) := by decide +kernel
theorem dL_law_435 : decode cL_law 435 = .ok (.iaload, 1) := by decide +kernel
theorem dL_law_436 : decode cL_law 436 = .ok (.aload_n 0, 1) := by decide +kernel
theorem dL_law_437 : decode cL_law 437 = .ok (.iload 4, 2) := by decide +kernel
theorem dL_law_439 : decode cL_law 439 = .ok (.iconst 3, 1) := by decide +kernel
theorem dL_law_440 : decode cL_law 440 = .ok (.iadd, 1) := by decide +kernel
theorem dL_law_441 : decode cL_law 441 = .ok (.iaload, 1) := by decide +kernel
theorem dL_law_442 : decode cL_law 442 = .ok (.i2l, 1) := by decide +kernel
theorem dL_law_443 : decode cL_law 443 = .ok (.bipush 32, 2) := by decide +kernel
theorem dL_law_445 : decode cL_law 445 = .ok (.lshl, 1) := by decide +kernel
theorem dL_law_446 : decode cL_law 446 = .ok (.aload_n 0, 1) := by decide +kernel
theorem dL_law_447 : decode cL_law 447 = .ok (.iload 4, 2) := by decide +kernel
theorem dL_law_449 : decode cL_law 449 = .ok (.iconst 4, 1) := by decide +kernel
theorem dL_law_450 : decode cL_law 450 = .ok (.iadd, 1) := by decide +kernel
theorem dL_law_451 : decode cL_law 451 = .ok (.iaload, 1) := by decide +kernel
theorem dL_law_452 : decode cL_law 452 = .ok (.i2l, 1) := by decide +kernel
theorem dL_law_453 : decode cL_law 453 = .ok (.ldc2_w 52, 3) := by decide +kernel
theorem dL_law_456 : decode cL_law 456 = .ok (.land, 1) := by decide +kernel
theorem dL_law_457 : decode cL_law 457 = .ok (.lor, 1) := by decide +kernel
theorem dL_law_458 : decode cL_law 458 = .ok (.aload_n 0, 1) := by decide +kernel
theorem dL_law_459 : decode cL_law 459 = .ok (.iload 4, 2) := by decide +kernel
theorem dL_law_461 : decode cL_law 461 = .ok (.iconst 5, 1) := by decide +kernel
theorem dL_law_462 : decode cL_law 462 = .ok (.iadd, 1) := by decide +kernel
theorem dL_law_463 : decode cL_law 463 = .ok (.iaload, 1) := by decide +kernel
theorem dL_law_464 : decode cL_law 464 = .ok (.i2l, 1) := by decide +kernel
theorem dL_law_465 : decode cL_law 465 = .ok (.bipush 32, 2) := by decide +kernel
theorem dL_law_467 : decode cL_law 467 = .ok (.lshl, 1) := by decide +kernel
theorem dL_law_468 : decode cL_law 468 = .ok (.aload_n 0, 1) := by decide +kernel
theorem dL_law_469 : decode cL_law 469 = .ok (.iload 4, 2) := by decide +kernel
theorem dL_law_471 : decode cL_law 471 = .ok (.bipush 6, 2) := by decide +kernel
theorem dL_law_473 : decode cL_law 473 = .ok (.iadd, 1) := by decide +kernel
theorem dL_law_474 : decode cL_law 474 = .ok (.iaload, 1) := by decide +kernel
theorem dL_law_475 : decode cL_law 475 = .ok (.i2l, 1) := by decide +kernel
theorem dL_law_476 : decode cL_law 476 = .ok (.ldc2_w 52, 3) := by decide +kernel
theorem dL_law_479 : decode cL_law 479 = .ok (.land, 1) := by decide +kernel
theorem dL_law_480 : decode cL_law 480 = .ok (.lor, 1) := by decide +kernel
theorem dL_law_481 : decode cL_law 481 = .ok (.invokevirtual 59, 3) := by decide +kernel
theorem dL_law_484 : decode cL_law 484 = .ok (.lstore 6, 2) := by decide +kernel
theorem dL_law_486 : decode cL_law 486 = .ok (.aload_n 2, 1) := by decide +kernel
theorem dL_law_487 : decode cL_law 487 = .ok (.invokevirtual 60, 3) := by decide +kernel
theorem dL_law_490 : decode cL_law 490 = .ok (.iload 5, 2) := by decide +kernel
theorem dL_law_492 : decode cL_law 492 = .ok (.if_icmp .eq 5, 3) := by decide +kernel
theorem dL_law_495 : decode cL_law 495 = .ok (.iconst 0, 1) := by decide +kernel
theorem dL_law_496 : decode cL_law 496 = .ok (.ireturn, 1) := by decide +kernel
theorem dL_law_497 : decode cL_law 497 = .ok (.iload 5, 2) := by decide +kernel
theorem dL_law_499 : decode cL_law 499 = .ok (.ifCond .ne 14, 3) := by decide +kernel
theorem dL_law_502 : decode cL_law 502 = .ok (.aload_n 3, 1) := by decide +kernel
theorem dL_law_503 : decode cL_law 503 = .ok (.iconst 0, 1) := by decide +kernel
theorem dL_law_504 : decode cL_law 504 = .ok (.laload, 1) := by decide +kernel
theorem dL_law_505 : decode cL_law 505 = .ok (.lload 6, 2) := by decide +kernel
theorem dL_law_507 : decode cL_law 507 = .ok (.lcmp, 1) := by decide +kernel
theorem dL_law_508 : decode cL_law 508 = .ok (.ifCond .eq 5, 3) := by decide +kernel
theorem dL_law_511 : decode cL_law 511 = .ok (.iconst 0, 1) := by decide +kernel
theorem dL_law_512 : decode cL_law 512 = .ok (.ireturn, 1) := by decide +kernel
theorem dL_law_513 : decode cL_law 513 = .ok (.goto 176, 3) := by decide +kernel
theorem dL_law_516 : decode cL_law 516 = .ok (.aload_n 1, 1) := by decide +kernel
theorem dL_law_517 : decode cL_law 517 = .ok (.aload_n 0, 1) := by decide +kernel
theorem dL_law_518 : decode cL_law 518 = .ok (.iload 4, 2) := by decide +kernel
theorem dL_law_520 : decode cL_law 520 = .ok (.iconst 1, 1) := by decide +kernel
theorem dL_law_521 : decode cL_law 521 = .ok (.iadd, 1) := by decide +kernel
theorem dL_law_522 : decode cL_law 522 = .ok (.iaload, 1) := by decide +kernel
theorem dL_law_523 : decode cL_law 523 = .ok (.aload_n 0, 1) := by decide +kernel
theorem dL_law_524 : decode cL_law 524 = .ok (.iload 4, 2) := by decide +kernel
theorem dL_law_526 : decode cL_law 526 = .ok (.iconst 2, 1) := by decide +kernel
theorem dL_law_527 : decode cL_law 527 = .ok (.iadd, 1) := by decide +kernel
theorem dL_law_528 : decode cL_law 528 = .ok (.iaload, 1) := by decide +kernel
theorem dL_law_529 : decode cL_law 529 = .ok (.aload_n 0, 1) := by decide +kernel
theorem dL_law_530 : decode cL_law 530 = .ok (.iload 4, 2) := by decide +kernel
theorem dL_law_532 : decode cL_law 532 = .ok (.iconst 3, 1) := by decide +kernel
theorem dL_law_533 : decode cL_law 533 = .ok (.iadd, 1) := by decide +kernel
theorem dL_law_534 : decode cL_law 534 = .ok (.iaload, 1) := by decide +kernel
theorem dL_law_535 : decode cL_law 535 = .ok (.aload_n 0, 1) := by decide +kernel
theorem dL_law_536 : decode cL_law 536 = .ok (.iload 4, 2) := by decide +kernel
theorem dL_law_538 : decode cL_law 538 = .ok (.iconst 4, 1) := by decide +kernel
theorem dL_law_539 : decode cL_law 539 = .ok (.iadd, 1) := by decide +kernel
theorem dL_law_540 : decode cL_law 540 = .ok (.iaload, 1) := by decide +kernel
theorem dL_law_541 : decode cL_law 541 = .ok (.aload_n 0, 1) := by decide +kernel
theorem dL_law_542 : decode cL_law 542 = .ok (.iload 4, 2) := by decide +kernel
theorem dL_law_544 : decode cL_law 544 = .ok (.iconst 5, 1) := by decide +kernel
theorem dL_law_545 : decode cL_law 545 = .ok (.iadd, 1) := by decide +kernel
theorem dL_law_546 : decode cL_law 546 = .ok (.iaload, 1) := by decide +kernel
theorem dL_law_547 : decode cL_law 547 = .ok (.invokevirtual 63, 3) := by decide +kernel
theorem dL_law_550 : decode cL_law 550 = .ok (.aload_n 2, 1) := by decide +kernel
theorem dL_law_551 : decode cL_law 551 = .ok (.aload_n 0, 1) := by decide +kernel
theorem dL_law_552 : decode cL_law 552 = .ok (.iload 4, 2) := by decide +kernel
theorem dL_law_554 : decode cL_law 554 = .ok (.iconst 1, 1) := by decide +kernel
theorem dL_law_555 : decode cL_law 555 = .ok (.iadd, 1) := by decide +kernel
theorem dL_law_556 : decode cL_law 556 = .ok (.iaload, 1) := by decide +kernel
theorem dL_law_557 : decode cL_law 557 = .ok (.aload_n 0, 1) := by decide +kernel
theorem dL_law_558 : decode cL_law 558 = .ok (.iload 4, 2) := by decide +kernel
theorem dL_law_560 : decode cL_law 560 = .ok (.iconst 2, 1) := by decide +kernel
theorem dL_law_561 : decode cL_law 561 = .ok (.iadd, 1) := by decide +kernel
theorem dL_law_562 : decode cL_law 562 = .ok (.iaload, 1) := by decide +kernel
theorem dL_law_563 : decode cL_law 563 = .ok (.aload_n 0, 1) := by decide +kernel
theorem dL_law_564 : decode cL_law 564 = .ok (.iload 4, 2) := by decide +kernel
theorem dL_law_566 : decode cL_law 566 = .ok (.iconst 3, 1) := by decide +kernel
theorem dL_law_567 : decode cL_law 567 = .ok (.iadd, 1) := by decide +kernel
theorem dL_law_568 : decode cL_law 568 = .ok (.iaload, 1) := by decide +kernel
theorem dL_law_569 : decode cL_law 569 = .ok (.aload_n 0, 1) := by decide +kernel
theorem dL_law_570 : decode cL_law 570 = .ok (.iload 4, 2) := by decide +kernel
theorem dL_law_572 : decode cL_law 572 = .ok (.iconst 4, 1) := by decide +kernel
theorem dL_law_573 : decode cL_law 573 = .ok (.iadd, 1) := by decide +kernel
theorem dL_law_574 : decode cL_law 574 = .ok (.iaload, 1) := by decide +kernel
theorem dL_law_575 : decode cL_law 575 = .ok (.aload_n 0, 1) := by decide +kernel
theorem dL_law_576 : decode cL_law 576 = .ok (.iload 4, 2) := by decide +kernel
theorem dL_law_578 : decode cL_law 578 = .ok (.iconst 5, 1) := by decide +kernel
theorem dL_law_579 : decode cL_law 579 = .ok (.iadd, 1) := by decide +kernel
theorem dL_law_580 : decode cL_law 580 = .ok (.iaload, 1) := by decide +kernel
theorem dL_law_581 : decode cL_law 581 = .ok (.invokevirtual 67, 3) := by decide +kernel
theorem dL_law_584 : decode cL_law 584 = .ok (.if_icmp .eq 105, 3) := by decide +kernel
theorem dL_law_587 : decode cL_law 587 = .ok (.iconst 0, 1) := by decide +kernel
theorem dL_law_588 : decode cL_law 588 = .ok (.ireturn, 1) := by decide +kernel
theorem dL_law_589 : decode cL_law 589 = .ok (.aload_n 1, 1) := by decide +kernel
theorem dL_law_590 : decode cL_law 590 = .ok (.aload_n 0, 1) := by decide +kernel
theorem dL_law_591 : decode cL_law 591 = .ok (.iload 4, 2) := by decide +kernel
theorem dL_law_593 : decode cL_law 593 = .ok (.iconst 1, 1) := by decide +kernel
theorem dL_law_594 : decode cL_law 594 = .ok (.iadd, 1) := by decide +kernel
theorem dL_law_595 : decode cL_law 595 = .ok (.iaload, 1) := by decide +kernel
theorem dL_law_596 : decode cL_law 596 = .ok (.aload_n 0, 1) := by decide +kernel
theorem dL_law_597 : decode cL_law 597 = .ok (.iload 4, 2) := by decide +kernel
theorem dL_law_599 : decode cL_law 599 = .ok (.iconst 2, 1) := by decide +kernel
theorem dL_law_600 : decode cL_law 600 = .ok (.iadd, 1) := by decide +kernel
theorem dL_law_601 : decode cL_law 601 = .ok (.iaload, 1) := by decide +kernel
theorem dL_law_602 : decode cL_law 602 = .ok (.invokevirtual 68, 3) := by decide +kernel
theorem dL_law_605 : decode cL_law 605 = .ok (.aload_n 2, 1) := by decide +kernel
theorem dL_law_606 : decode cL_law 606 = .ok (.aload_n 0, 1) := by decide +kernel
theorem dL_law_607 : decode cL_law 607 = .ok (.iload 4, 2) := by decide +kernel
theorem dL_law_609 : decode cL_law 609 = .ok (.iconst 1, 1) := by decide +kernel
theorem dL_law_610 : decode cL_law 610 = .ok (.iadd, 1) := by decide +kernel
theorem dL_law_611 : decode cL_law 611 = .ok (.iaload, 1) := by decide +kernel
theorem dL_law_612 : decode cL_law 612 = .ok (.aload_n 0, 1) := by decide +kernel
theorem dL_law_613 : decode cL_law 613 = .ok (.iload 4, 2) := by decide +kernel
theorem dL_law_615 : decode cL_law 615 = .ok (.iconst 2, 1) := by decide +kernel
theorem dL_law_616 : decode cL_law 616 = .ok (.iadd, 1) := by decide +kernel
theorem dL_law_617 : decode cL_law 617 = .ok (.iaload, 1) := by decide +kernel
theorem dL_law_618 : decode cL_law 618 = .ok (.invokevirtual 72, 3) := by decide +kernel
theorem dL_law_621 : decode cL_law 621 = .ok (.if_icmp .eq 68, 3) := by decide +kernel
theorem dL_law_624 : decode cL_law 624 = .ok (.iconst 0, 1) := by decide +kernel
theorem dL_law_625 : decode cL_law 625 = .ok (.ireturn, 1) := by decide +kernel
theorem dL_law_626 : decode cL_law 626 = .ok (.aload_n 1, 1) := by decide +kernel
theorem dL_law_627 : decode cL_law 627 = .ok (.invokevirtual 73, 3) := by decide +kernel
theorem dL_law_630 : decode cL_law 630 = .ok (.aload_n 2, 1) := by decide +kernel
theorem dL_law_631 : decode cL_law 631 = .ok (.invokevirtual 76, 3) := by decide +kernel
theorem dL_law_634 : decode cL_law 634 = .ok (.if_icmp .eq 55, 3) := by decide +kernel
theorem dL_law_637 : decode cL_law 637 = .ok (.iconst 0, 1) := by decide +kernel
theorem dL_law_638 : decode cL_law 638 = .ok (.ireturn, 1) := by decide +kernel
theorem dL_law_639 : decode cL_law 639 = .ok (.aload_n 1, 1) := by decide +kernel
theorem dL_law_640 : decode cL_law 640 = .ok (.aload_n 0, 1) := by decide +kernel
theorem dL_law_641 : decode cL_law 641 = .ok (.iload 4, 2) := by decide +kernel
theorem dL_law_643 : decode cL_law 643 = .ok (.iconst 1, 1) := by decide +kernel
theorem dL_law_644 : decode cL_law 644 = .ok (.iadd, 1) := by decide +kernel
theorem dL_law_645 : decode cL_law 645 = .ok (.iaload, 1) := by decide +kernel
theorem dL_law_646 : decode cL_law 646 = .ok (.invokevirtual 77, 3) := by decide +kernel
theorem dL_law_649 : decode cL_law 649 = .ok (.aload_n 2, 1) := by decide +kernel
theorem dL_law_650 : decode cL_law 650 = .ok (.aload_n 0, 1) := by decide +kernel
theorem dL_law_651 : decode cL_law 651 = .ok (.iload 4, 2) := by decide +kernel
theorem dL_law_653 : decode cL_law 653 = .ok (.iconst 1, 1) := by decide +kernel
theorem dL_law_654 : decode cL_law 654 = .ok (.iadd, 1) := by decide +kernel
theorem dL_law_655 : decode cL_law 655 = .ok (.iaload, 1) := by decide +kernel
theorem dL_law_656 : decode cL_law 656 = .ok (.invokevirtual 80, 3) := by decide +kernel
theorem dL_law_659 : decode cL_law 659 = .ok (.if_icmp .eq 30, 3) := by decide +kernel
theorem dL_law_662 : decode cL_law 662 = .ok (.iconst 0, 1) := by decide +kernel
theorem dL_law_663 : decode cL_law 663 = .ok (.ireturn, 1) := by decide +kernel
theorem dL_law_664 : decode cL_law 664 = .ok (.aload_n 1, 1) := by decide +kernel
theorem dL_law_665 : decode cL_law 665 = .ok (.aload_n 0, 1) := by decide +kernel
theorem dL_law_666 : decode cL_law 666 = .ok (.iload 4, 2) := by decide +kernel
theorem dL_law_668 : decode cL_law 668 = .ok (.iconst 1, 1) := by decide +kernel
theorem dL_law_669 : decode cL_law 669 = .ok (.iadd, 1) := by decide +kernel
theorem dL_law_670 : decode cL_law 670 = .ok (.iaload, 1) := by decide +kernel
theorem dL_law_671 : decode cL_law 671 = .ok (.invokevirtual 81, 3) := by decide +kernel
theorem dL_law_674 : decode cL_law 674 = .ok (.aload_n 2, 1) := by decide +kernel
theorem dL_law_675 : decode cL_law 675 = .ok (.aload_n 0, 1) := by decide +kernel
theorem dL_law_676 : decode cL_law 676 = .ok (.iload 4, 2) := by decide +kernel
theorem dL_law_678 : decode cL_law 678 = .ok (.iconst 1, 1) := by decide +kernel
theorem dL_law_679 : decode cL_law 679 = .ok (.iadd, 1) := by decide +kernel
theorem dL_law_680 : decode cL_law 680 = .ok (.iaload, 1) := by decide +kernel
theorem dL_law_681 : decode cL_law 681 = .ok (.invokevirtual 84, 3) := by decide +kernel
theorem dL_law_684 : decode cL_law 684 = .ok (.if_icmp .eq 5, 3) := by decide +kernel
theorem dL_law_687 : decode cL_law 687 = .ok (.iconst 0, 1) := by decide +kernel
theorem dL_law_688 : decode cL_law 688 = .ok (.ireturn, 1) := by decide +kernel
theorem dL_law_689 : decode cL_law 689 = .ok (.iinc 4 7, 3) := by decide +kernel
theorem dL_law_692 : decode cL_law 692 = .ok (.goto (-669), 3) := by decide +kernel
theorem dL_law_695 : decode cL_law 695 = .ok (.iconst 1, 1) := by decide +kernel
theorem dL_law_696 : decode cL_law 696 = .ok (.ireturn, 1) := by decide +kernel
end
section
theorem dM_init_0 : decode cM_init 0 = .ok (.aload_n 0, 1) := by decide +kernel
theorem dM_init_1 : decode cM_init 1 = .ok (.invokespecial 1, 3) := by decide +kernel
theorem dM_init_4 : decode cM_init 4 = .ok (.aload_n 0, 1) := by decide +kernel
theorem dM_init_5 : decode cM_init 5 = .ok (.sipush 4000, 3) := by decide +kernel
theorem dM_init_8 : decode cM_init 8 = .ok (.newarray .long, 2) := by decide +kernel
theorem dM_init_10 : decode cM_init 10 = .ok (.putfield 7, 3) := by decide +kernel
theorem dM_init_13 : decode cM_init 13 = .ok (.aload_n 0, 1) := by decide +kernel
theorem dM_init_14 : decode cM_init 14 = .ok (.sipush 4000, 3) := by decide +kernel
theorem dM_init_17 : decode cM_init 17 = .ok (.newarray .int, 2) := by decide +kernel
theorem dM_init_19 : decode cM_init 19 = .ok (.putfield 13, 3) := by decide +kernel
theorem dM_init_22 : decode cM_init 22 = .ok (.aload_n 0, 1) := by decide +kernel
theorem dM_init_23 : decode cM_init 23 = .ok (.sipush 300, 3) := by decide +kernel
theorem dM_init_26 : decode cM_init 26 = .ok (.newarray .int, 2) := by decide +kernel
theorem dM_init_28 : decode cM_init 28 = .ok (.putfield 17, 3) := by decide +kernel
theorem dM_init_31 : decode cM_init 31 = .ok (.aload_n 0, 1) := by decide +kernel
theorem dM_init_32 : decode cM_init 32 = .ok (.sipush 300, 3) := by decide +kernel
theorem dM_init_35 : decode cM_init 35 = .ok (.newarray .int, 2) := by decide +kernel
theorem dM_init_37 : decode cM_init 37 = .ok (.putfield 20, 3) := by decide +kernel
theorem dM_init_40 : decode cM_init 40 = .ok (.aload_n 0, 1) := by decide +kernel
theorem dM_init_41 : decode cM_init 41 = .ok (.sipush 300, 3) := by decide +kernel
theorem dM_init_44 : decode cM_init 44 = .ok (.newarray .int, 2) := by decide +kernel
theorem dM_init_46 : decode cM_init 46 = .ok (.putfield 23, 3) := by decide +kernel
theorem dM_init_49 : decode cM_init 49 = .ok (.aload_n 0, 1) := by decide +kernel
theorem dM_init_50 : decode cM_init 50 = .ok (.bipush 12, 2) := by decide +kernel
theorem dM_init_52 : decode cM_init 52 = .ok (.newarray .int, 2) := by decide +kernel
theorem dM_init_54 : decode cM_init 54 = .ok (.putfield 26, 3) := by decide +kernel
theorem dM_init_57 : decode cM_init 57 = .ok (.aload_n 0, 1) := by decide +kernel
theorem dM_init_58 : decode cM_init 58 = .ok (.bipush 100, 2) := by decide +kernel
theorem dM_init_60 : decode cM_init 60 = .ok (.newarray .int, 2) := by decide +kernel
theorem dM_init_62 : decode cM_init 62 = .ok (.putfield 29, 3) := by decide +kernel
theorem dM_init_65 : decode cM_init 65 = .ok (.aload_n 0, 1) := by decide +kernel
theorem dM_init_66 : decode cM_init 66 = .ok (.bipush 100, 2) := by decide +kernel
theorem dM_init_68 : decode cM_init 68 = .ok (.newarray .int, 2) := by decide +kernel
theorem dM_init_70 : decode cM_init 70 = .ok (.putfield 32, 3) := by decide +kernel
theorem dM_init_73 : decode cM_init 73 = .ok (.aload_n 0, 1) := by decide +kernel
theorem dM_init_74 : decode cM_init 74 = .ok (.bipush 100, 2) := by decide +kernel
theorem dM_init_76 : decode cM_init 76 = .ok (.newarray .int, 2) := by decide +kernel
theorem dM_init_78 : decode cM_init 78 = .ok (.putfield 35, 3) := by decide +kernel
theorem dM_init_81 : decode cM_init 81 = .ok (.aload_n 0, 1) := by decide +kernel
theorem dM_init_82 : decode cM_init 82 = .ok (.bipush 100, 2) := by decide +kernel
theorem dM_init_84 : decode cM_init 84 = .ok (.newarray .boolean, 2) := by decide +kernel
theorem dM_init_86 : decode cM_init 86 = .ok (.putfield 38, 3) := by decide +kernel
theorem dM_init_89 : decode cM_init 89 = .ok (.aload_n 0, 1) := by decide +kernel
theorem dM_init_90 : decode cM_init 90 = .ok (.ldc 42, 2) := by decide +kernel
theorem dM_init_92 : decode cM_init 92 = .ok (.newarray .long, 2) := by decide +kernel
theorem dM_init_94 : decode cM_init 94 = .ok (.putfield 43, 3) := by decide +kernel
theorem dM_init_97 : decode cM_init 97 = .ok (.aload_n 0, 1) := by decide +kernel
theorem dM_init_98 : decode cM_init 98 = .ok (.bipush 20, 2) := by decide +kernel
theorem dM_init_100 : decode cM_init 100 = .ok (.newarray .int, 2) := by decide +kernel
theorem dM_init_102 : decode cM_init 102 = .ok (.putfield 46, 3) := by decide +kernel
theorem dM_init_105 : decode cM_init 105 = .ok (.return_, 1) := by decide +kernel
theorem dM_thrown_0 : decode cM_thrown 0 = .ok (.aload_n 0, 1) := by decide +kernel
theorem dM_thrown_1 : decode cM_thrown 1 = .ok (.getfield 49, 3) := by decide +kernel
theorem dM_thrown_4 : decode cM_thrown 4 = .ok (.ireturn, 1) := by decide +kernel
theorem dM_isKind_0 : decode cM_isKind 0 = .ok (.iload_n 0, 1) := by decide +kernel
theorem dM_isKind_1 : decode cM_isKind 1 = .ok (.iconst 1, 1) := by decide +kernel
theorem dM_isKind_2 : decode cM_isKind 2 = .ok (.if_icmp .lt 13, 3) := by decide +kernel
theorem dM_isKind_5 : decode cM_isKind 5 = .ok (.iload_n 0, 1) := by decide +kernel
theorem dM_isKind_6 : decode cM_isKind 6 = .ok (.bipush 7, 2) := by decide +kernel
theorem dM_isKind_8 : decode cM_isKind 8 = .ok (.if_icmp .gt 7, 3) := by decide +kernel
theorem dM_isKind_11 : decode cM_isKind 11 = .ok (.iconst 1, 1) := by decide +kernel
theorem dM_isKind_12 : decode cM_isKind 12 = .ok (.goto 4, 3) := by decide +kernel
theorem dM_isKind_15 : decode cM_isKind 15 = .ok (.iconst 0, 1) := by decide +kernel
theorem dM_isKind_16 : decode cM_isKind 16 = .ok (.ireturn, 1) := by decide +kernel
theorem dM_newObject_0 : decode cM_newObject 0 = .ok (.aload_n 0, 1) := by decide +kernel
theorem dM_newObject_1 : decode cM_newObject 1 = .ok (.getfield 17, 3) := by decide +kernel
theorem dM_newObject_4 : decode cM_newObject 4 = .ok (.aload_n 0, 1) := by decide +kernel
theorem dM_newObject_5 : decode cM_newObject 5 = .ok (.getfield 53, 3) := by decide +kernel
theorem dM_newObject_8 : decode cM_newObject 8 = .ok (.aload_n 0, 1) := by decide +kernel
theorem dM_newObject_9 : decode cM_newObject 9 = .ok (.getfield 56, 3) := by decide +kernel
theorem dM_newObject_12 : decode cM_newObject 12 = .ok (.iastore, 1) := by decide +kernel
theorem dM_newObject_13 : decode cM_newObject 13 = .ok (.aload_n 0, 1) := by decide +kernel
theorem dM_newObject_14 : decode cM_newObject 14 = .ok (.getfield 20, 3) := by decide +kernel
theorem dM_newObject_17 : decode cM_newObject 17 = .ok (.aload_n 0, 1) := by decide +kernel
theorem dM_newObject_18 : decode cM_newObject 18 = .ok (.getfield 53, 3) := by decide +kernel
theorem dM_newObject_21 : decode cM_newObject 21 = .ok (.iload_n 2, 1) := by decide +kernel
theorem dM_newObject_22 : decode cM_newObject 22 = .ok (.iastore, 1) := by decide +kernel
theorem dM_newObject_23 : decode cM_newObject 23 = .ok (.aload_n 0, 1) := by decide +kernel
theorem dM_newObject_24 : decode cM_newObject 24 = .ok (.getfield 23, 3) := by decide +kernel
theorem dM_newObject_27 : decode cM_newObject 27 = .ok (.aload_n 0, 1) := by decide +kernel
theorem dM_newObject_28 : decode cM_newObject 28 = .ok (.getfield 53, 3) := by decide +kernel
theorem dM_newObject_31 : decode cM_newObject 31 = .ok (.iload_n 1, 1) := by decide +kernel
theorem dM_newObject_32 : decode cM_newObject 32 = .ok (.iastore, 1) := by decide +kernel
theorem dM_newObject_33 : decode cM_newObject 33 = .ok (.iconst 0, 1) := by decide +kernel
theorem dM_newObject_34 : decode cM_newObject 34 = .ok (.istore_n 3, 1) := by decide +kernel
theorem dM_newObject_35 : decode cM_newObject 35 = .ok (.iload_n 3, 1) := by decide +kernel
theorem dM_newObject_36 : decode cM_newObject 36 = .ok (.iload_n 2, 1) := by decide +kernel
theorem dM_newObject_37 : decode cM_newObject 37 = .ok (.if_icmp .ge 68, 3) := by decide +kernel
theorem dM_newObject_40 : decode cM_newObject 40 = .ok (.aload_n 0, 1) := by decide +kernel
theorem dM_newObject_41 : decode cM_newObject 41 = .ok (.getfield 13, 3) := by decide +kernel
theorem dM_newObject_44 : decode cM_newObject 44 = .ok (.aload_n 0, 1) := by decide +kernel
theorem dM_newObject_45 : decode cM_newObject 45 = .ok (.getfield 56, 3) := by decide +kernel
theorem dM_newObject_48 : decode cM_newObject 48 = .ok (.iload_n 3, 1) := by decide +kernel
theorem dM_newObject_49 : decode cM_newObject 49 = .ok (.iadd, 1) := by decide +kernel
theorem dM_newObject_50 : decode cM_newObject 50 = .ok (.iload_n 1, 1) := by decide +kernel
theorem dM_newObject_51 : decode cM_newObject 51 = .ok (.ifCond .ne 12, 3) := by decide +kernel
theorem dM_newObject_54 : decode cM_newObject 54 = .ok (.aload_n 0, 1) := by decide +kernel
theorem dM_newObject_55 : decode cM_newObject 55 = .ok (.getfield 26, 3) := by decide +kernel
theorem dM_newObject_58 : decode cM_newObject 58 = .ok (.iload_n 3, 1) := by decide +kernel
theorem dM_newObject_59 : decode cM_newObject 59 = .ok (.iaload, 1) := by decide +kernel
theorem dM_newObject_60 : decode cM_newObject 60 = .ok (.goto 4, 3) := by decide +kernel
theorem dM_newObject_63 : decode cM_newObject 63 = .ok (.iload_n 1, 1) := by decide +kernel
theorem dM_newObject_64 : decode cM_newObject 64 = .ok (.iastore, 1) := by decide +kernel
theorem dM_newObject_65 : decode cM_newObject 65 = .ok (.aload_n 0, 1) := by decide +kernel
theorem dM_newObject_66 : decode cM_newObject 66 = .ok (.getfield 7, 3) := by decide +kernel
theorem dM_newObject_69 : decode cM_newObject 69 = .ok (.aload_n 0, 1) := by decide +kernel
theorem dM_newObject_70 : decode cM_newObject 70 = .ok (.getfield 56, 3) := by decide +kernel
theorem dM_newObject_73 : decode cM_newObject 73 = .ok (.iload_n 3, 1) := by decide +kernel
theorem dM_newObject_74 : decode cM_newObject 74 = .ok (.iadd, 1) := by decide +kernel
theorem dM_newObject_75 : decode cM_newObject 75 = .ok (.aload_n 0, 1) := by decide +kernel
theorem dM_newObject_76 : decode cM_newObject 76 = .ok (.getfield 13, 3) := by decide +kernel
theorem dM_newObject_79 : decode cM_newObject 79 = .ok (.aload_n 0, 1) := by decide +kernel
theorem dM_newObject_80 : decode cM_newObject 80 = .ok (.getfield 56, 3) := by decide +kernel
theorem dM_newObject_83 : decode cM_newObject 83 = .ok (.iload_n 3, 1) := by decide +kernel
theorem dM_newObject_84 : decode cM_newObject 84 = .ok (.iadd, 1) := by decide +kernel
theorem dM_newObject_85 : decode cM_newObject 85 = .ok (.iaload, 1) := by decide +kernel
theorem dM_newObject_86 : decode cM_newObject 86 = .ok (.bipush 7, 2) := by decide +kernel
theorem dM_newObject_88 : decode cM_newObject 88 = .ok (.if_icmp .ne 9, 3) := by decide +kernel
theorem dM_newObject_91 : decode cM_newObject 91 = .ok (.ldc2_w 59, 3) := by decide +kernel
theorem dM_newObject_94 : decode cM_newObject 94 = .ok (.goto 4, 3) := by decide +kernel
theorem dM_newObject_97 : decode cM_newObject 97 = .ok (.lconst 0, 1) := by decide +kernel
theorem dM_newObject_98 : decode cM_newObject 98 = .ok (.lastore, 1) := by decide +kernel
theorem dM_newObject_99 : decode cM_newObject 99 = .ok (.iinc 3 1, 3) := by decide +kernel
theorem dM_newObject_102 : decode cM_newObject 102 = .ok (.goto (-67), 3) := by decide +kernel
theorem dM_newObject_105 : decode cM_newObject 105 = .ok (.aload_n 0, 1) := by decide +kernel
theorem dM_newObject_106 : decode cM_newObject 106 = .ok (.dup, 1) := by decide +kernel
theorem dM_newObject_107 : decode cM_newObject 107 = .ok (.getfield 56, 3) := by decide +kernel
theorem dM_newObject_110 : decode cM_newObject 110 = .ok (.iload_n 2, 1) := by decide +kernel
theorem dM_newObject_111 : decode cM_newObject 111 = .ok (.iadd, 1) := by decide +kernel
theorem dM_newObject_112 : decode cM_newObject 112 = .ok (.putfield 56, 3) := by decide +kernel
theorem dM_newObject_115 : decode cM_newObject 115 = .ok (.aload_n 0, 1) := by decide +kernel
theorem dM_newObject_116 : decode cM_newObject 116 = .ok (.dup, 1) := by decide +kernel
theorem dM_newObject_117 : decode cM_newObject 117 = .ok (.getfield 53, 3) := by decide +kernel
theorem dM_newObject_120 : decode cM_newObject 120 = .ok (.iconst 1, 1) := by decide +kernel
theorem dM_newObject_121 : decode cM_newObject 121 = .ok (.iadd, 1) := by decide +kernel
theorem dM_newObject_122 : decode cM_newObject 122 = .ok (.putfield 53, 3) := by decide +kernel
theorem dM_newObject_125 : decode cM_newObject 125 = .ok (.aload_n 0, 1) := by decide +kernel
theorem dM_newObject_126 : decode cM_newObject 126 = .ok (.getfield 53, 3) := by decide +kernel
theorem dM_newObject_129 : decode cM_newObject 129 = .ok (.iconst 1, 1) := by decide +kernel
theorem dM_newObject_130 : decode cM_newObject 130 = .ok (.isub, 1) := by decide +kernel
theorem dM_newObject_131 : decode cM_newObject 131 = .ok (.ireturn, 1) := by decide +kernel
theorem dM_row_0 : decode cM_row 0 = .ok (.aload_n 0, 1) := by decide +kernel
theorem dM_row_1 : decode cM_row 1 = .ok (.iconst 0, 1) := by decide +kernel
theorem dM_row_2 : decode cM_row 2 = .ok (.putfield 49, 3) := by decide +kernel
theorem dM_row_5 : decode cM_row 5 = .ok (.aload_n 0, 1) := by decide +kernel
theorem dM_row_6 : decode cM_row 6 = .ok (.getfield 53, 3) := by decide +kernel
theorem dM_row_9 : decode cM_row 9 = .ok (.sipush 300, 3) := by decide +kernel
theorem dM_row_12 : decode cM_row 12 = .ok (.if_icmp .eq 33, 3) := by decide +kernel
theorem dM_row_15 : decode cM_row 15 = .ok (.iload_n 1, 1) := by decide +kernel
theorem dM_row_16 : decode cM_row 16 = .ok (.invokestatic 61, 3) := by decide +kernel
theorem dM_row_19 : decode cM_row 19 = .ok (.ifCond .eq 26, 3) := by decide +kernel
theorem dM_row_22 : decode cM_row 22 = .ok (.iload_n 2, 1) := by decide +kernel
theorem dM_row_23 : decode cM_row 23 = .ok (.ifCond .lt 22, 3) := by decide +kernel
theorem dM_row_26 : decode cM_row 26 = .ok (.iload_n 2, 1) := by decide +kernel
theorem dM_row_27 : decode cM_row 27 = .ok (.sipush 200, 3) := by decide +kernel
theorem dM_row_30 : decode cM_row 30 = .ok (.if_icmp .gt 15, 3) := by decide +kernel
theorem dM_row_33 : decode cM_row 33 = .ok (.aload_n 0, 1) := by decide +kernel
theorem dM_row_34 : decode cM_row 34 = .ok (.getfield 56, 3) := by decide +kernel
theorem dM_row_37 : decode cM_row 37 = .ok (.iload_n 2, 1) := by decide +kernel
theorem dM_row_38 : decode cM_row 38 = .ok (.iadd, 1) := by decide +kernel
theorem dM_row_39 : decode cM_row 39 = .ok (.sipush 4000, 3) := by decide +kernel
theorem dM_row_42 : decode cM_row 42 = .ok (.if_icmp .le 5, 3) := by decide +kernel
theorem dM_row_45 : decode cM_row 45 = .ok (.iconst (-1), 1) := by decide +kernel
theorem dM_row_46 : decode cM_row 46 = .ok (.ireturn, 1) := by decide +kernel
theorem dM_row_47 : decode cM_row 47 = .ok (.aload_n 0, 1) := by decide +kernel
theorem dM_row_48 : decode cM_row 48 = .ok (.iload_n 1, 1) := by decide +kernel
theorem dM_row_49 : decode cM_row 49 = .ok (.iload_n 2, 1) := by decide +kernel
theorem dM_row_50 : decode cM_row 50 = .ok (.invokevirtual 65, 3) := by decide +kernel
theorem dM_row_53 : decode cM_row 53 = .ok (.ireturn, 1) := by decide +kernel
theorem dM_put_0 : decode cM_put 0 = .ok (.aload_n 0, 1) := by decide +kernel
theorem dM_put_1 : decode cM_put 1 = .ok (.iconst 0, 1) := by decide +kernel
theorem dM_put_2 : decode cM_put 2 = .ok (.putfield 49, 3) := by decide +kernel
theorem dM_put_5 : decode cM_put 5 = .ok (.aload_n 0, 1) := by decide +kernel
theorem dM_put_6 : decode cM_put 6 = .ok (.getfield 69, 3) := by decide +kernel
theorem dM_put_9 : decode cM_put 9 = .ok (.bipush 12, 2) := by decide +kernel
theorem dM_put_11 : decode cM_put 11 = .ok (.if_icmp .eq 10, 3) := by decide +kernel
theorem dM_put_14 : decode cM_put 14 = .ok (.iload_n 1, 1) := by decide +kernel
theorem dM_put_15 : decode cM_put 15 = .ok (.invokestatic 61, 3) := by decide +kernel
theorem dM_put_18 : decode cM_put 18 = .ok (.ifCond .ne 5, 3) := by decide +kernel
theorem dM_put_21 : decode cM_put 21 = .ok (.iconst 0, 1) := by decide +kernel
theorem dM_put_22 : decode cM_put 22 = .ok (.ireturn, 1) := by decide +kernel
theorem dM_put_23 : decode cM_put 23 = .ok (.aload_n 0, 1) := by decide +kernel
theorem dM_put_24 : decode cM_put 24 = .ok (.getfield 26, 3) := by decide +kernel
theorem dM_put_27 : decode cM_put 27 = .ok (.aload_n 0, 1) := by decide +kernel
theorem dM_put_28 : decode cM_put 28 = .ok (.getfield 69, 3) := by decide +kernel
theorem dM_put_31 : decode cM_put 31 = .ok (.iload_n 1, 1) := by decide +kernel
theorem dM_put_32 : decode cM_put 32 = .ok (.iastore, 1) := by decide +kernel
theorem dM_put_33 : decode cM_put 33 = .ok (.aload_n 0, 1) := by decide +kernel
theorem dM_put_34 : decode cM_put 34 = .ok (.dup, 1) := by decide +kernel
theorem dM_put_35 : decode cM_put 35 = .ok (.getfield 69, 3) := by decide +kernel
theorem dM_put_38 : decode cM_put 38 = .ok (.iconst 1, 1) := by decide +kernel
theorem dM_put_39 : decode cM_put 39 = .ok (.iadd, 1) := by decide +kernel
theorem dM_put_40 : decode cM_put 40 = .ok (.putfield 69, 3) := by decide +kernel
theorem dM_put_43 : decode cM_put 43 = .ok (.iconst 1, 1) := by decide +kernel
theorem dM_put_44 : decode cM_put 44 = .ok (.ireturn, 1) := by decide +kernel
theorem dM_instance_0 : decode cM_instance 0 = .ok (.aload_n 0, 1) := by decide +kernel
theorem dM_instance_1 : decode cM_instance 1 = .ok (.iconst 0, 1) := by decide +kernel
theorem dM_instance_2 : decode cM_instance 2 = .ok (.putfield 49, 3) := by decide +kernel
theorem dM_instance_5 : decode cM_instance 5 = .ok (.aload_n 0, 1) := by decide +kernel
theorem dM_instance_6 : decode cM_instance 6 = .ok (.getfield 69, 3) := by decide +kernel
theorem dM_instance_9 : decode cM_instance 9 = .ok (.istore_n 1, 1) := by decide +kernel
theorem dM_instance_10 : decode cM_instance 10 = .ok (.aload_n 0, 1) := by decide +kernel
theorem dM_instance_11 : decode cM_instance 11 = .ok (.iconst 0, 1) := by decide +kernel
theorem dM_instance_12 : decode cM_instance 12 = .ok (.putfield 69, 3) := by decide +kernel
theorem dM_instance_15 : decode cM_instance 15 = .ok (.aload_n 0, 1) := by decide +kernel
theorem dM_instance_16 : decode cM_instance 16 = .ok (.getfield 53, 3) := by decide +kernel
theorem dM_instance_19 : decode cM_instance 19 = .ok (.sipush 300, 3) := by decide +kernel
theorem dM_instance_22 : decode cM_instance 22 = .ok (.if_icmp .eq 19, 3) := by decide +kernel
theorem dM_instance_25 : decode cM_instance 25 = .ok (.iload_n 1, 1) := by decide +kernel
theorem dM_instance_26 : decode cM_instance 26 = .ok (.ifCond .eq 15, 3) := by decide +kernel
theorem dM_instance_29 : decode cM_instance 29 = .ok (.aload_n 0, 1) := by decide +kernel
theorem dM_instance_30 : decode cM_instance 30 = .ok (.getfield 56, 3) := by decide +kernel
theorem dM_instance_33 : decode cM_instance 33 = .ok (.iload_n 1, 1) := by decide +kernel
theorem dM_instance_34 : decode cM_instance 34 = .ok (.iadd, 1) := by decide +kernel
theorem dM_instance_35 : decode cM_instance 35 = .ok (.sipush 4000, 3) := by decide +kernel
theorem dM_instance_38 : decode cM_instance 38 = .ok (.if_icmp .le 5, 3) := by decide +kernel
theorem dM_instance_41 : decode cM_instance 41 = .ok (.iconst (-1), 1) := by decide +kernel
theorem dM_instance_42 : decode cM_instance 42 = .ok (.ireturn, 1) := by decide +kernel
theorem dM_instance_43 : decode cM_instance 43 = .ok (.aload_n 0, 1) := by decide +kernel
theorem dM_instance_44 : decode cM_instance 44 = .ok (.iconst 0, 1) := by decide +kernel
theorem dM_instance_45 : decode cM_instance 45 = .ok (.iload_n 1, 1) := by decide +kernel
theorem dM_instance_46 : decode cM_instance 46 = .ok (.invokevirtual 65, 3) := by decide +kernel
theorem dM_instance_49 : decode cM_instance 49 = .ok (.ireturn, 1) := by decide +kernel
theorem dM_isObject_0 : decode cM_isObject 0 = .ok (.iload_n 1, 1) := by decide +kernel
theorem dM_isObject_1 : decode cM_isObject 1 = .ok (.ifCond .lt 15, 3) := by decide +kernel
theorem dM_isObject_4 : decode cM_isObject 4 = .ok (.iload_n 1, 1) := by decide +kernel
theorem dM_isObject_5 : decode cM_isObject 5 = .ok (.aload_n 0, 1) := by decide +kernel
theorem dM_isObject_6 : decode cM_isObject 6 = .ok (.getfield 53, 3) := by decide +kernel
theorem dM_isObject_9 : decode cM_isObject 9 = .ok (.if_icmp .ge 7, 3) := by decide +kernel
theorem dM_isObject_12 : decode cM_isObject 12 = .ok (.iconst 1, 1) := by decide +kernel
theorem dM_isObject_13 : decode cM_isObject 13 = .ok (.goto 4, 3) := by decide +kernel
theorem dM_isObject_16 : decode cM_isObject 16 = .ok (.iconst 0, 1) := by decide +kernel
theorem dM_isObject_17 : decode cM_isObject 17 = .ok (.ireturn, 1) := by decide +kernel
theorem dM_object_0 : decode cM_object 0 = .ok (.aload_n 0, 1) := by decide +kernel
theorem dM_object_1 : decode cM_object 1 = .ok (.iconst 0, 1) := by decide +kernel
theorem dM_object_2 : decode cM_object 2 = .ok (.putfield 49, 3) := by decide +kernel
theorem dM_object_5 : decode cM_object 5 = .ok (.aload_n 0, 1) := by decide +kernel
theorem dM_object_6 : decode cM_object 6 = .ok (.iload_n 1, 1) := by decide +kernel
theorem dM_object_7 : decode cM_object 7 = .ok (.invokevirtual 72, 3) := by decide +kernel
theorem dM_object_10 : decode cM_object 10 = .ok (.ifCond .ne 5, 3) := by decide +kernel
theorem dM_object_13 : decode cM_object 13 = .ok (.iconst (-1), 1) := by decide +kernel
theorem dM_object_14 : decode cM_object 14 = .ok (.ireturn, 1) := by decide +kernel
theorem dM_object_15 : decode cM_object 15 = .ok (.iload_n 2, 1) := by decide +kernel
theorem dM_object_16 : decode cM_object 16 = .ok (.iconst (-1), 1) := by decide +kernel
theorem dM_object_17 : decode cM_object 17 = .ok (.if_icmp .ne 10, 3) := by decide +kernel
theorem dM_object_20 : decode cM_object 20 = .ok (.aload_n 0, 1) := by decide +kernel
theorem dM_object_21 : decode cM_object 21 = .ok (.getfield 23, 3) := by decide +kernel
theorem dM_object_24 : decode cM_object 24 = .ok (.iload_n 1, 1) := by decide +kernel
theorem dM_object_25 : decode cM_object 25 = .ok (.iaload, 1) := by decide +kernel
theorem dM_object_26 : decode cM_object 26 = .ok (.ireturn, 1) := by decide +kernel
theorem dM_object_27 : decode cM_object 27 = .ok (.iload_n 2, 1) := by decide +kernel
theorem dM_object_28 : decode cM_object 28 = .ok (.bipush (-2), 2) := by decide +kernel
theorem dM_object_30 : decode cM_object 30 = .ok (.if_icmp .ne 10, 3) := by decide +kernel
theorem dM_object_33 : decode cM_object 33 = .ok (.aload_n 0, 1) := by decide +kernel
theorem dM_object_34 : decode cM_object 34 = .ok (.getfield 20, 3) := by decide +kernel
theorem dM_object_37 : decode cM_object 37 = .ok (.iload_n 1, 1) := by decide +kernel
theorem dM_object_38 : decode cM_object 38 = .ok (.iaload, 1) := by decide +kernel
theorem dM_object_39 : decode cM_object 39 = .ok (.ireturn, 1) := by decide +kernel
theorem dM_object_40 : decode cM_object 40 = .ok (.iload_n 2, 1) := by decide +kernel
theorem dM_object_41 : decode cM_object 41 = .ok (.ifCond .lt 29, 3) := by decide +kernel
theorem dM_object_44 : decode cM_object 44 = .ok (.iload_n 2, 1) := by decide +kernel
theorem dM_object_45 : decode cM_object 45 = .ok (.aload_n 0, 1) := by decide +kernel
theorem dM_object_46 : decode cM_object 46 = .ok (.getfield 20, 3) := by decide +kernel
theorem dM_object_49 : decode cM_object 49 = .ok (.iload_n 1, 1) := by decide +kernel
theorem dM_object_50 : decode cM_object 50 = .ok (.iaload, 1) := by decide +kernel
theorem dM_object_51 : decode cM_object 51 = .ok (.if_icmp .ge 19, 3) := by decide +kernel
theorem dM_object_54 : decode cM_object 54 = .ok (.aload_n 0, 1) := by decide +kernel
theorem dM_object_55 : decode cM_object 55 = .ok (.getfield 13, 3) := by decide +kernel
theorem dM_object_58 : decode cM_object 58 = .ok (.aload_n 0, 1) := by decide +kernel
theorem dM_object_59 : decode cM_object 59 = .ok (.getfield 17, 3) := by decide +kernel
theorem dM_object_62 : decode cM_object 62 = .ok (.iload_n 1, 1) := by decide +kernel
theorem dM_object_63 : decode cM_object 63 = .ok (.iaload, 1) := by decide +kernel
theorem dM_object_64 : decode cM_object 64 = .ok (.iload_n 2, 1) := by decide +kernel
theorem dM_object_65 : decode cM_object 65 = .ok (.iadd, 1) := by decide +kernel
theorem dM_object_66 : decode cM_object 66 = .ok (.iaload, 1) := by decide +kernel
theorem dM_object_67 : decode cM_object 67 = .ok (.goto 4, 3) := by decide +kernel
theorem dM_object_70 : decode cM_object 70 = .ok (.iconst (-1), 1) := by decide +kernel
theorem dM_object_71 : decode cM_object 71 = .ok (.ireturn, 1) := by decide +kernel
theorem dM_newPlace_0 : decode cM_newPlace 0 = .ok (.aload_n 0, 1) := by decide +kernel
theorem dM_newPlace_1 : decode cM_newPlace 1 = .ok (.getfield 29, 3) := by decide +kernel
theorem dM_newPlace_4 : decode cM_newPlace 4 = .ok (.aload_n 0, 1) := by decide +kernel
theorem dM_newPlace_5 : decode cM_newPlace 5 = .ok (.getfield 75, 3) := by decide +kernel
theorem dM_newPlace_8 : decode cM_newPlace 8 = .ok (.iload_n 1, 1) := by decide +kernel
theorem dM_newPlace_9 : decode cM_newPlace 9 = .ok (.iastore, 1) := by decide +kernel
theorem dM_newPlace_10 : decode cM_newPlace 10 = .ok (.aload_n 0, 1) := by decide +kernel
theorem dM_newPlace_11 : decode cM_newPlace 11 = .ok (.getfield 32, 3) := by decide +kernel
theorem dM_newPlace_14 : decode cM_newPlace 14 = .ok (.aload_n 0, 1) := by decide +kernel
theorem dM_newPlace_15 : decode cM_newPlace 15 = .ok (.getfield 75, 3) := by decide +kernel
theorem dM_newPlace_18 : decode cM_newPlace 18 = .ok (.iload_n 2, 1) := by decide +kernel
theorem dM_newPlace_19 : decode cM_newPlace 19 = .ok (.iastore, 1) := by decide +kernel
theorem dM_newPlace_20 : decode cM_newPlace 20 = .ok (.aload_n 0, 1) := by decide +kernel
theorem dM_newPlace_21 : decode cM_newPlace 21 = .ok (.getfield 35, 3) := by decide +kernel
theorem dM_newPlace_24 : decode cM_newPlace 24 = .ok (.aload_n 0, 1) := by decide +kernel
theorem dM_newPlace_25 : decode cM_newPlace 25 = .ok (.getfield 75, 3) := by decide +kernel
theorem dM_newPlace_28 : decode cM_newPlace 28 = .ok (.iload_n 3, 1) := by decide +kernel
theorem dM_newPlace_29 : decode cM_newPlace 29 = .ok (.iastore, 1) := by decide +kernel
theorem dM_newPlace_30 : decode cM_newPlace 30 = .ok (.aload_n 0, 1) := by decide +kernel
theorem dM_newPlace_31 : decode cM_newPlace 31 = .ok (.getfield 38, 3) := by decide +kernel
theorem dM_newPlace_34 : decode cM_newPlace 34 = .ok (.aload_n 0, 1) := by decide +kernel
theorem dM_newPlace_35 : decode cM_newPlace 35 = .ok (.getfield 75, 3) := by decide +kernel
theorem dM_newPlace_38 : decode cM_newPlace 38 = .ok (.iload 4, 2) := by decide +kernel
theorem dM_newPlace_40 : decode cM_newPlace 40 = .ok (.bastore, 1) := by decide +kernel
theorem dM_newPlace_41 : decode cM_newPlace 41 = .ok (.aload_n 0, 1) := by decide +kernel
theorem dM_newPlace_42 : decode cM_newPlace 42 = .ok (.dup, 1) := by decide +kernel
theorem dM_newPlace_43 : decode cM_newPlace 43 = .ok (.getfield 75, 3) := by decide +kernel
theorem dM_newPlace_46 : decode cM_newPlace 46 = .ok (.iconst 1, 1) := by decide +kernel
theorem dM_newPlace_47 : decode cM_newPlace 47 = .ok (.iadd, 1) := by decide +kernel
theorem dM_newPlace_48 : decode cM_newPlace 48 = .ok (.putfield 75, 3) := by decide +kernel
theorem dM_newPlace_51 : decode cM_newPlace 51 = .ok (.aload_n 0, 1) := by decide +kernel
theorem dM_newPlace_52 : decode cM_newPlace 52 = .ok (.getfield 75, 3) := by decide +kernel
theorem dM_newPlace_55 : decode cM_newPlace 55 = .ok (.iconst 1, 1) := by decide +kernel
theorem dM_newPlace_56 : decode cM_newPlace 56 = .ok (.isub, 1) := by decide +kernel
theorem dM_newPlace_57 : decode cM_newPlace 57 = .ok (.ireturn, 1) := by decide +kernel
theorem dM_place_0 : decode cM_place 0 = .ok (.aload_n 0, 1) := by decide +kernel
theorem dM_place_1 : decode cM_place 1 = .ok (.iconst 0, 1) := by decide +kernel
theorem dM_place_2 : decode cM_place 2 = .ok (.putfield 49, 3) := by decide +kernel
theorem dM_place_5 : decode cM_place 5 = .ok (.aload_n 0, 1) := by decide +kernel
theorem dM_place_6 : decode cM_place 6 = .ok (.getfield 75, 3) := by decide +kernel
theorem dM_place_9 : decode cM_place 9 = .ok (.bipush 100, 2) := by decide +kernel
theorem dM_place_11 : decode cM_place 11 = .ok (.if_icmp .eq 25, 3) := by decide +kernel
theorem dM_place_14 : decode cM_place 14 = .ok (.aload_n 0, 1) := by decide +kernel
theorem dM_place_15 : decode cM_place 15 = .ok (.iload_n 1, 1) := by decide +kernel
theorem dM_place_16 : decode cM_place 16 = .ok (.invokevirtual 72, 3) := by decide +kernel
theorem dM_place_19 : decode cM_place 19 = .ok (.ifCond .eq 17, 3) := by decide +kernel
theorem dM_place_22 : decode cM_place 22 = .ok (.iload_n 2, 1) := by decide +kernel
theorem dM_place_23 : decode cM_place 23 = .ok (.ifCond .lt 13, 3) := by decide +kernel
theorem dM_place_26 : decode cM_place 26 = .ok (.iload_n 2, 1) := by decide +kernel
theorem dM_place_27 : decode cM_place 27 = .ok (.aload_n 0, 1) := by decide +kernel
theorem dM_place_28 : decode cM_place 28 = .ok (.getfield 20, 3) := by decide +kernel
theorem dM_place_31 : decode cM_place 31 = .ok (.iload_n 1, 1) := by decide +kernel
theorem dM_place_32 : decode cM_place 32 = .ok (.iaload, 1) := by decide +kernel
theorem dM_place_33 : decode cM_place 33 = .ok (.if_icmp .lt 5, 3) := by decide +kernel
theorem dM_place_36 : decode cM_place 36 = .ok (.iconst (-1), 1) := by decide +kernel
theorem dM_place_37 : decode cM_place 37 = .ok (.ireturn, 1) := by decide +kernel
theorem dM_place_38 : decode cM_place 38 = .ok (.aload_n 0, 1) := by decide +kernel
theorem dM_place_39 : decode cM_place 39 = .ok (.aload_n 0, 1) := by decide +kernel
theorem dM_place_40 : decode cM_place 40 = .ok (.getfield 17, 3) := by decide +kernel
theorem dM_place_43 : decode cM_place 43 = .ok (.iload_n 1, 1) := by decide +kernel
theorem dM_place_44 : decode cM_place 44 = .ok (.iaload, 1) := by decide +kernel
theorem dM_place_45 : decode cM_place 45 = .ok (.iload_n 2, 1) := by decide +kernel
theorem dM_place_46 : decode cM_place 46 = .ok (.iadd, 1) := by decide +kernel
theorem dM_place_47 : decode cM_place 47 = .ok (.aload_n 0, 1) := by decide +kernel
theorem dM_place_48 : decode cM_place 48 = .ok (.getfield 13, 3) := by decide +kernel
theorem dM_place_51 : decode cM_place 51 = .ok (.aload_n 0, 1) := by decide +kernel
theorem dM_place_52 : decode cM_place 52 = .ok (.getfield 17, 3) := by decide +kernel
theorem dM_place_55 : decode cM_place 55 = .ok (.iload_n 1, 1) := by decide +kernel
theorem dM_place_56 : decode cM_place 56 = .ok (.iaload, 1) := by decide +kernel
theorem dM_place_57 : decode cM_place 57 = .ok (.iload_n 2, 1) := by decide +kernel
theorem dM_place_58 : decode cM_place 58 = .ok (.iadd, 1) := by decide +kernel
theorem dM_place_59 : decode cM_place 59 = .ok (.iaload, 1) := by decide +kernel
theorem dM_place_60 : decode cM_place 60 = .ok (.iconst 1, 1) := by decide +kernel
theorem dM_place_61 : decode cM_place 61 = .ok (.iconst 1, 1) := by decide +kernel
theorem dM_place_62 : decode cM_place 62 = .ok (.invokevirtual 78, 3) := by decide +kernel
theorem dM_place_65 : decode cM_place 65 = .ok (.ireturn, 1) := by decide +kernel
theorem dM_view_0 : decode cM_view 0 = .ok (.aload_n 0, 1) := by decide +kernel
theorem dM_view_1 : decode cM_view 1 = .ok (.iconst 0, 1) := by decide +kernel
theorem dM_view_2 : decode cM_view 2 = .ok (.putfield 49, 3) := by decide +kernel
theorem dM_view_5 : decode cM_view 5 = .ok (.iload_n 3, 1) := by decide +kernel
theorem dM_view_6 : decode cM_view 6 = .ok (.iconst 3, 1) := by decide +kernel
theorem dM_view_7 : decode cM_view 7 = .ok (.if_icmp .eq 8, 3) := by decide +kernel
theorem dM_view_10 : decode cM_view 10 = .ok (.iload_n 3, 1) := by decide +kernel
theorem dM_view_11 : decode cM_view 11 = .ok (.iconst 4, 1) := by decide +kernel
theorem dM_view_12 : decode cM_view 12 = .ok (.if_icmp .ne 7, 3) := by decide +kernel
theorem dM_view_15 : decode cM_view 15 = .ok (.iconst 2, 1) := by decide +kernel
theorem dM_view_16 : decode cM_view 16 = .ok (.goto 24, 3) := by decide +kernel
theorem dM_view_19 : decode cM_view 19 = .ok (.iload_n 3, 1) := by decide +kernel
theorem dM_view_20 : decode cM_view 20 = .ok (.iconst 5, 1) := by decide +kernel
theorem dM_view_21 : decode cM_view 21 = .ok (.if_icmp .ne 7, 3) := by decide +kernel
theorem dM_view_24 : decode cM_view 24 = .ok (.iconst 4, 1) := by decide +kernel
theorem dM_view_25 : decode cM_view 25 = .ok (.goto 15, 3) := by decide +kernel
theorem dM_view_28 : decode cM_view 28 = .ok (.iload_n 3, 1) := by decide +kernel
theorem dM_view_29 : decode cM_view 29 = .ok (.bipush 6, 2) := by decide +kernel
theorem dM_view_31 : decode cM_view 31 = .ok (.if_icmp .ne 8, 3) := by decide +kernel
theorem dM_view_34 : decode cM_view 34 = .ok (.bipush 8, 2) := by decide +kernel
theorem dM_view_36 : decode cM_view 36 = .ok (.goto 4, 3) := by decide +kernel
theorem dM_view_39 : decode cM_view 39 = .ok (.iconst 0, 1) := by decide +kernel
theorem dM_view_40 : decode cM_view 40 = .ok (.istore 5, 2) := by decide +kernel
theorem dM_view_42 : decode cM_view 42 = .ok (.aload_n 0, 1) := by decide +kernel
theorem dM_view_43 : decode cM_view 43 = .ok (.getfield 75, 3) := by decide +kernel
theorem dM_view_46 : decode cM_view 46 = .ok (.bipush 100, 2) := by decide +kernel
theorem dM_view_48 : decode cM_view 48 = .ok (.if_icmp .eq 43, 3) := by decide +kernel
theorem dM_view_51 : decode cM_view 51 = .ok (.aload_n 0, 1) := by decide +kernel
theorem dM_view_52 : decode cM_view 52 = .ok (.iload_n 1, 1) := by decide +kernel
theorem dM_view_53 : decode cM_view 53 = .ok (.invokevirtual 72, 3) := by decide +kernel
theorem dM_view_56 : decode cM_view 56 = .ok (.ifCond .eq 35, 3) := by decide +kernel
theorem dM_view_59 : decode cM_view 59 = .ok (.aload_n 0, 1) := by decide +kernel
theorem dM_view_60 : decode cM_view 60 = .ok (.getfield 23, 3) := by decide +kernel
theorem dM_view_63 : decode cM_view 63 = .ok (.iload_n 1, 1) := by decide +kernel
theorem dM_view_64 : decode cM_view 64 = .ok (.iaload, 1) := by decide +kernel
theorem dM_view_65 : decode cM_view 65 = .ok (.iconst 2, 1) := by decide +kernel
theorem dM_view_66 : decode cM_view 66 = .ok (.if_icmp .ne 25, 3) := by decide +kernel
theorem dM_view_69 : decode cM_view 69 = .ok (.iload 5, 2) := by decide +kernel
theorem dM_view_71 : decode cM_view 71 = .ok (.ifCond .eq 20, 3) := by decide +kernel
theorem dM_view_74 : decode cM_view 74 = .ok (.iload_n 2, 1) := by decide +kernel
theorem dM_view_75 : decode cM_view 75 = .ok (.ifCond .lt 16, 3) := by decide +kernel
theorem dM_view_78 : decode cM_view 78 = .ok (.iload_n 2, 1) := by decide +kernel
theorem dM_view_79 : decode cM_view 79 = .ok (.aload_n 0, 1) := by decide +kernel
theorem dM_view_80 : decode cM_view 80 = .ok (.getfield 20, 3) := by decide +kernel
theorem dM_view_83 : decode cM_view 83 = .ok (.iload_n 1, 1) := by decide +kernel
theorem dM_view_84 : decode cM_view 84 = .ok (.iaload, 1) := by decide +kernel
theorem dM_view_85 : decode cM_view 85 = .ok (.iload 5, 2) := by decide +kernel
theorem dM_view_87 : decode cM_view 87 = .ok (.isub, 1) := by decide +kernel
theorem dM_view_88 : decode cM_view 88 = .ok (.if_icmp .le 5, 3) := by decide +kernel
theorem dM_view_91 : decode cM_view 91 = .ok (.iconst (-1), 1) := by decide +kernel
theorem dM_view_92 : decode cM_view 92 = .ok (.ireturn, 1) := by decide +kernel
theorem dM_view_93 : decode cM_view 93 = .ok (.aload_n 0, 1) := by decide +kernel
theorem dM_view_94 : decode cM_view 94 = .ok (.aload_n 0, 1) := by decide +kernel
theorem dM_view_95 : decode cM_view 95 = .ok (.getfield 17, 3) := by decide +kernel
theorem dM_view_98 : decode cM_view 98 = .ok (.iload_n 1, 1) := by decide +kernel
theorem dM_view_99 : decode cM_view 99 = .ok (.iaload, 1) := by decide +kernel
theorem dM_view_100 : decode cM_view 100 = .ok (.iload_n 2, 1) := by decide +kernel
theorem dM_view_101 : decode cM_view 101 = .ok (.iadd, 1) := by decide +kernel
theorem dM_view_102 : decode cM_view 102 = .ok (.iload_n 3, 1) := by decide +kernel
theorem dM_view_103 : decode cM_view 103 = .ok (.iload 5, 2) := by decide +kernel
theorem dM_view_105 : decode cM_view 105 = .ok (.iload 4, 2) := by decide +kernel
theorem dM_view_107 : decode cM_view 107 = .ok (.invokevirtual 78, 3) := by decide +kernel
theorem dM_view_110 : decode cM_view 110 = .ok (.ireturn, 1) := by decide +kernel
theorem dM_isPlace_0 : decode cM_isPlace 0 = .ok (.iload_n 1, 1) := by decide +kernel
theorem dM_isPlace_1 : decode cM_isPlace 1 = .ok (.ifCond .lt 15, 3) := by decide +kernel
theorem dM_isPlace_4 : decode cM_isPlace 4 = .ok (.iload_n 1, 1) := by decide +kernel
theorem dM_isPlace_5 : decode cM_isPlace 5 = .ok (.aload_n 0, 1) := by decide +kernel
theorem dM_isPlace_6 : decode cM_isPlace 6 = .ok (.getfield 75, 3) := by decide +kernel
theorem dM_isPlace_9 : decode cM_isPlace 9 = .ok (.if_icmp .ge 7, 3) := by decide +kernel
theorem dM_isPlace_12 : decode cM_isPlace 12 = .ok (.iconst 1, 1) := by decide +kernel
theorem dM_isPlace_13 : decode cM_isPlace 13 = .ok (.goto 4, 3) := by decide +kernel
theorem dM_isPlace_16 : decode cM_isPlace 16 = .ok (.iconst 0, 1) := by decide +kernel
theorem dM_isPlace_17 : decode cM_isPlace 17 = .ok (.ireturn, 1) := by decide +kernel
theorem dM_kindOf_0 : decode cM_kindOf 0 = .ok (.aload_n 0, 1) := by decide +kernel
theorem dM_kindOf_1 : decode cM_kindOf 1 = .ok (.iconst 0, 1) := by decide +kernel
theorem dM_kindOf_2 : decode cM_kindOf 2 = .ok (.putfield 49, 3) := by decide +kernel
theorem dM_kindOf_5 : decode cM_kindOf 5 = .ok (.aload_n 0, 1) := by decide +kernel
theorem dM_kindOf_6 : decode cM_kindOf 6 = .ok (.iload_n 1, 1) := by decide +kernel
theorem dM_kindOf_7 : decode cM_kindOf 7 = .ok (.invokevirtual 82, 3) := by decide +kernel
theorem dM_kindOf_10 : decode cM_kindOf 10 = .ok (.ifCond .eq 12, 3) := by decide +kernel
theorem dM_kindOf_13 : decode cM_kindOf 13 = .ok (.aload_n 0, 1) := by decide +kernel
theorem dM_kindOf_14 : decode cM_kindOf 14 = .ok (.getfield 32, 3) := by decide +kernel
theorem dM_kindOf_17 : decode cM_kindOf 17 = .ok (.iload_n 1, 1) := by decide +kernel
theorem dM_kindOf_18 : decode cM_kindOf 18 = .ok (.iaload, 1) := by decide +kernel
theorem dM_kindOf_19 : decode cM_kindOf 19 = .ok (.goto 4, 3) := by decide +kernel
theorem dM_kindOf_22 : decode cM_kindOf 22 = .ok (.iconst (-1), 1) := by decide +kernel
theorem dM_kindOf_23 : decode cM_kindOf 23 = .ok (.ireturn, 1) := by decide +kernel
theorem dM_as_0 : decode cM_as 0 = .ok (.iload_n 0, 1) := by decide +kernel
theorem dM_as_1 : decode cM_as 1 = .ok (.tableswitch 59 1 5 #[35, 39, 44, 49, 55], 35) := by decide +kernel
theorem dM_as_36 : decode cM_as 36 = .ok (.lload_n 1, 1) := by decide +kernel
theorem dM_as_37 : decode cM_as 37 = .ok (.lconst 1, 1) := by decide +kernel
theorem dM_as_38 : decode cM_as 38 = .ok (.land, 1) := by decide +kernel
theorem dM_as_39 : decode cM_as 39 = .ok (.lreturn, 1) := by decide +kernel
theorem dM_as_40 : decode cM_as 40 = .ok (.lload_n 1, 1) := by decide +kernel
theorem dM_as_41 : decode cM_as 41 = .ok (.l2i, 1) := by decide +kernel
theorem dM_as_42 : decode cM_as 42 = .ok (.i2b, 1) := by decide +kernel
theorem dM_as_43 : decode cM_as 43 = .ok (.i2l, 1) := by decide +kernel
theorem dM_as_44 : decode cM_as 44 = .ok (.lreturn, 1) := by decide +kernel
theorem dM_as_45 : decode cM_as 45 = .ok (.lload_n 1, 1) := by decide +kernel
theorem dM_as_46 : decode cM_as 46 = .ok (.l2i, 1) := by decide +kernel
theorem dM_as_47 : decode cM_as 47 = .ok (.i2s, 1) := by decide +kernel
theorem dM_as_48 : decode cM_as 48 = .ok (.i2l, 1) := by decide +kernel
theorem dM_as_49 : decode cM_as 49 = .ok (.lreturn, 1) := by decide +kernel
theorem dM_as_50 : decode cM_as 50 = .ok (.lload_n 1, 1) := by decide +kernel
theorem dM_as_51 : decode cM_as 51 = .ok (.ldc2_w 85, 3) := by decide +kernel
theorem dM_as_54 : decode cM_as 54 = .ok (.land, 1) := by decide +kernel
theorem dM_as_55 : decode cM_as 55 = .ok (.lreturn, 1) := by decide +kernel
theorem dM_as_56 : decode cM_as 56 = .ok (.lload_n 1, 1) := by decide +kernel
theorem dM_as_57 : decode cM_as 57 = .ok (.l2i, 1) := by decide +kernel
theorem dM_as_58 : decode cM_as 58 = .ok (.i2l, 1) := by decide +kernel
theorem dM_as_59 : decode cM_as 59 = .ok (.lreturn, 1) := by decide +kernel
theorem dM_as_60 : decode cM_as 60 = .ok (.lload_n 1, 1) := by decide +kernel
theorem dM_as_61 : decode cM_as 61 = .ok (.lreturn, 1) := by decide +kernel
theorem dM_isValue_0 : decode cM_isValue 0 = .ok (.iload_n 1, 1) := by decide +kernel
theorem dM_isValue_1 : decode cM_isValue 1 = .ok (.bipush 7, 2) := by decide +kernel
theorem dM_isValue_3 : decode cM_isValue 3 = .ok (.if_icmp .ne 27, 3) := by decide +kernel
theorem dM_isValue_6 : decode cM_isValue 6 = .ok (.lload_n 2, 1) := by decide +kernel
theorem dM_isValue_7 : decode cM_isValue 7 = .ok (.ldc2_w 59, 3) := by decide +kernel
theorem dM_isValue_10 : decode cM_isValue 10 = .ok (.lcmp, 1) := by decide +kernel
theorem dM_isValue_11 : decode cM_isValue 11 = .ok (.ifCond .lt 17, 3) := by decide +kernel
theorem dM_isValue_14 : decode cM_isValue 14 = .ok (.lload_n 2, 1) := by decide +kernel
theorem dM_isValue_15 : decode cM_isValue 15 = .ok (.aload_n 0, 1) := by decide +kernel
theorem dM_isValue_16 : decode cM_isValue 16 = .ok (.getfield 53, 3) := by decide +kernel
theorem dM_isValue_19 : decode cM_isValue 19 = .ok (.i2l, 1) := by decide +kernel
theorem dM_isValue_20 : decode cM_isValue 20 = .ok (.lcmp, 1) := by decide +kernel
theorem dM_isValue_21 : decode cM_isValue 21 = .ok (.ifCond .ge 7, 3) := by decide +kernel
theorem dM_isValue_24 : decode cM_isValue 24 = .ok (.iconst 1, 1) := by decide +kernel
theorem dM_isValue_25 : decode cM_isValue 25 = .ok (.goto 4, 3) := by decide +kernel
theorem dM_isValue_28 : decode cM_isValue 28 = .ok (.iconst 0, 1) := by decide +kernel
theorem dM_isValue_29 : decode cM_isValue 29 = .ok (.ireturn, 1) := by decide +kernel
theorem dM_isValue_30 : decode cM_isValue 30 = .ok (.iload_n 1, 1) := by decide +kernel
theorem dM_isValue_31 : decode cM_isValue 31 = .ok (.iconst 1, 1) := by decide +kernel
theorem dM_isValue_32 : decode cM_isValue 32 = .ok (.if_icmp .ne 23, 3) := by decide +kernel
theorem dM_isValue_35 : decode cM_isValue 35 = .ok (.lload_n 2, 1) := by decide +kernel
theorem dM_isValue_36 : decode cM_isValue 36 = .ok (.lconst 0, 1) := by decide +kernel
theorem dM_isValue_37 : decode cM_isValue 37 = .ok (.lcmp, 1) := by decide +kernel
theorem dM_isValue_38 : decode cM_isValue 38 = .ok (.ifCond .eq 9, 3) := by decide +kernel
theorem dM_isValue_41 : decode cM_isValue 41 = .ok (.lload_n 2, 1) := by decide +kernel
theorem dM_isValue_42 : decode cM_isValue 42 = .ok (.lconst 1, 1) := by decide +kernel
theorem dM_isValue_43 : decode cM_isValue 43 = .ok (.lcmp, 1) := by decide +kernel
theorem dM_isValue_44 : decode cM_isValue 44 = .ok (.ifCond .ne 7, 3) := by decide +kernel
theorem dM_isValue_47 : decode cM_isValue 47 = .ok (.iconst 1, 1) := by decide +kernel
theorem dM_isValue_48 : decode cM_isValue 48 = .ok (.goto 22, 3) := by decide +kernel
theorem dM_isValue_51 : decode cM_isValue 51 = .ok (.iconst 0, 1) := by decide +kernel
theorem dM_isValue_52 : decode cM_isValue 52 = .ok (.goto 18, 3) := by decide +kernel
theorem dM_isValue_55 : decode cM_isValue 55 = .ok (.iload_n 1, 1) := by decide +kernel
theorem dM_isValue_56 : decode cM_isValue 56 = .ok (.lload_n 2, 1) := by decide +kernel
theorem dM_isValue_57 : decode cM_isValue 57 = .ok (.invokestatic 87, 3) := by decide +kernel
theorem dM_isValue_60 : decode cM_isValue 60 = .ok (.lload_n 2, 1) := by decide +kernel
theorem dM_isValue_61 : decode cM_isValue 61 = .ok (.lcmp, 1) := by decide +kernel
theorem dM_isValue_62 : decode cM_isValue 62 = .ok (.ifCond .ne 7, 3) := by decide +kernel
theorem dM_isValue_65 : decode cM_isValue 65 = .ok (.iconst 1, 1) := by decide +kernel
theorem dM_isValue_66 : decode cM_isValue 66 = .ok (.goto 4, 3) := by decide +kernel
theorem dM_isValue_69 : decode cM_isValue 69 = .ok (.iconst 0, 1) := by decide +kernel
theorem dM_isValue_70 : decode cM_isValue 70 = .ok (.ireturn, 1) := by decide +kernel
theorem dM_get_0 : decode cM_get 0 = .ok (.aload_n 0, 1) := by decide +kernel
theorem dM_get_1 : decode cM_get 1 = .ok (.getfield 35, 3) := by decide +kernel
theorem dM_get_4 : decode cM_get 4 = .ok (.iload_n 1, 1) := by decide +kernel
theorem dM_get_5 : decode cM_get 5 = .ok (.iaload, 1) := by decide +kernel
theorem dM_get_6 : decode cM_get 6 = .ok (.istore_n 2, 1) := by decide +kernel
theorem dM_get_7 : decode cM_get 7 = .ok (.iload_n 2, 1) := by decide +kernel
theorem dM_get_8 : decode cM_get 8 = .ok (.iconst 1, 1) := by decide +kernel
theorem dM_get_9 : decode cM_get 9 = .ok (.if_icmp .ne 15, 3) := by decide +kernel
theorem dM_get_12 : decode cM_get 12 = .ok (.aload_n 0, 1) := by decide +kernel
theorem dM_get_13 : decode cM_get 13 = .ok (.getfield 7, 3) := by decide +kernel
theorem dM_get_16 : decode cM_get 16 = .ok (.aload_n 0, 1) := by decide +kernel
theorem dM_get_17 : decode cM_get 17 = .ok (.getfield 29, 3) := by decide +kernel
theorem dM_get_20 : decode cM_get 20 = .ok (.iload_n 1, 1) := by decide +kernel
theorem dM_get_21 : decode cM_get 21 = .ok (.iaload, 1) := by decide +kernel
theorem dM_get_22 : decode cM_get 22 = .ok (.laload, 1) := by decide +kernel
theorem dM_get_23 : decode cM_get 23 = .ok (.lreturn, 1) := by decide +kernel
theorem dM_get_24 : decode cM_get 24 = .ok (.lconst 0, 1) := by decide +kernel
theorem dM_get_25 : decode cM_get 25 = .ok (.lstore_n 3, 1) := by decide +kernel
theorem dM_get_26 : decode cM_get 26 = .ok (.iconst 0, 1) := by decide +kernel
theorem dM_get_27 : decode cM_get 27 = .ok (.istore 5, 2) := by decide +kernel
theorem dM_get_29 : decode cM_get 29 = .ok (.iload 5, 2) := by decide +kernel
theorem dM_get_31 : decode cM_get 31 = .ok (.iload_n 2, 1) := by decide +kernel
theorem dM_get_32 : decode cM_get 32 = .ok (.if_icmp .ge 51, 3) := by decide +kernel
theorem dM_get_35 : decode cM_get 35 = .ok (.lload_n 3, 1) := by decide +kernel
theorem dM_get_36 : decode cM_get 36 = .ok (.bipush 8, 2) := by decide +kernel
theorem dM_get_38 : decode cM_get 38 = .ok (.lshl, 1) := by decide +kernel
theorem dM_get_39 : decode cM_get 39 = .ok (.aload_n 0, 1) := by decide +kernel
theorem dM_get_40 : decode cM_get 40 = .ok (.getfield 7, 3) := by decide +kernel
theorem dM_get_43 : decode cM_get 43 = .ok (.aload_n 0, 1) := by decide +kernel
theorem dM_get_44 : decode cM_get 44 = .ok (.getfield 29, 3) := by decide +kernel
theorem dM_get_47 : decode cM_get 47 = .ok (.iload_n 1, 1) := by decide +kernel
theorem dM_get_48 : decode cM_get 48 = .ok (.iaload, 1) := by decide +kernel
theorem dM_get_49 : decode cM_get 49 = .ok (.aload_n 0, 1) := by decide +kernel
theorem dM_get_50 : decode cM_get 50 = .ok (.getfield 38, 3) := by decide +kernel
theorem dM_get_53 : decode cM_get 53 = .ok (.iload_n 1, 1) := by decide +kernel
theorem dM_get_54 : decode cM_get 54 = .ok (.baload, 1) := by decide +kernel
theorem dM_get_55 : decode cM_get 55 = .ok (.ifCond .eq 12, 3) := by decide +kernel
theorem dM_get_58 : decode cM_get 58 = .ok (.iload_n 2, 1) := by decide +kernel
theorem dM_get_59 : decode cM_get 59 = .ok (.iconst 1, 1) := by decide +kernel
theorem dM_get_60 : decode cM_get 60 = .ok (.isub, 1) := by decide +kernel
theorem dM_get_61 : decode cM_get 61 = .ok (.iload 5, 2) := by decide +kernel
theorem dM_get_63 : decode cM_get 63 = .ok (.isub, 1) := by decide +kernel
theorem dM_get_64 : decode cM_get 64 = .ok (.goto 5, 3) := by decide +kernel
theorem dM_get_67 : decode cM_get 67 = .ok (.iload 5, 2) := by decide +kernel
theorem dM_get_69 : decode cM_get 69 = .ok (.iadd, 1) := by decide +kernel
theorem dM_get_70 : decode cM_get 70 = .ok (.laload, 1) := by decide +kernel
theorem dM_get_71 : decode cM_get 71 = .ok (.ldc2_w 91, 3) := by decide +kernel
theorem dM_get_74 : decode cM_get 74 = .ok (.land, 1) := by decide +kernel
theorem dM_get_75 : decode cM_get 75 = .ok (.lor, 1) := by decide +kernel
theorem dM_get_76 : decode cM_get 76 = .ok (.lstore_n 3, 1) := by decide +kernel
theorem dM_get_77 : decode cM_get 77 = .ok (.iinc 5 1, 3) := by decide +kernel
theorem dM_get_80 : decode cM_get 80 = .ok (.goto (-51), 3) := by decide +kernel
theorem dM_get_83 : decode cM_get 83 = .ok (.aload_n 0, 1) := by decide +kernel
theorem dM_get_84 : decode cM_get 84 = .ok (.getfield 32, 3) := by decide +kernel
theorem dM_get_87 : decode cM_get 87 = .ok (.iload_n 1, 1) := by decide +kernel
theorem dM_get_88 : decode cM_get 88 = .ok (.iaload, 1) := by decide +kernel
theorem dM_get_89 : decode cM_get 89 = .ok (.lload_n 3, 1) := by decide +kernel
theorem dM_get_90 : decode cM_get 90 = .ok (.invokestatic 87, 3) := by decide +kernel
theorem dM_get_93 : decode cM_get 93 = .ok (.lreturn, 1) := by decide +kernel
theorem dM_set_0 : decode cM_set 0 = .ok (.aload_n 0, 1) := by decide +kernel
theorem dM_set_1 : decode cM_set 1 = .ok (.getfield 35, 3) := by decide +kernel
theorem dM_set_4 : decode cM_set 4 = .ok (.iload_n 1, 1) := by decide +kernel
theorem dM_set_5 : decode cM_set 5 = .ok (.iaload, 1) := by decide +kernel
theorem dM_set_6 : decode cM_set 6 = .ok (.istore 4, 2) := by decide +kernel
theorem dM_set_8 : decode cM_set 8 = .ok (.iload 4, 2) := by decide +kernel
theorem dM_set_10 : decode cM_set 10 = .ok (.iconst 1, 1) := by decide +kernel
theorem dM_set_11 : decode cM_set 11 = .ok (.if_icmp .ne 15, 3) := by decide +kernel
theorem dM_set_14 : decode cM_set 14 = .ok (.aload_n 0, 1) := by decide +kernel
theorem dM_set_15 : decode cM_set 15 = .ok (.getfield 7, 3) := by decide +kernel
theorem dM_set_18 : decode cM_set 18 = .ok (.aload_n 0, 1) := by decide +kernel
theorem dM_set_19 : decode cM_set 19 = .ok (.getfield 29, 3) := by decide +kernel
theorem dM_set_22 : decode cM_set 22 = .ok (.iload_n 1, 1) := by decide +kernel
theorem dM_set_23 : decode cM_set 23 = .ok (.iaload, 1) := by decide +kernel
theorem dM_set_24 : decode cM_set 24 = .ok (.lload_n 2, 1) := by decide +kernel
theorem dM_set_25 : decode cM_set 25 = .ok (.lastore, 1) := by decide +kernel
theorem dM_set_26 : decode cM_set 26 = .ok (.iconst 0, 1) := by decide +kernel
theorem dM_set_27 : decode cM_set 27 = .ok (.istore 5, 2) := by decide +kernel
theorem dM_set_29 : decode cM_set 29 = .ok (.iload 4, 2) := by decide +kernel
theorem dM_set_31 : decode cM_set 31 = .ok (.iconst 1, 1) := by decide +kernel
theorem dM_set_32 : decode cM_set 32 = .ok (.if_icmp .le 59, 3) := by decide +kernel
theorem dM_set_35 : decode cM_set 35 = .ok (.iload 5, 2) := by decide +kernel
theorem dM_set_37 : decode cM_set 37 = .ok (.iload 4, 2) := by decide +kernel
theorem dM_set_39 : decode cM_set 39 = .ok (.if_icmp .ge 52, 3) := by decide +kernel
theorem dM_set_42 : decode cM_set 42 = .ok (.aload_n 0, 1) := by decide +kernel
theorem dM_set_43 : decode cM_set 43 = .ok (.getfield 7, 3) := by decide +kernel
theorem dM_set_46 : decode cM_set 46 = .ok (.aload_n 0, 1) := by decide +kernel
theorem dM_set_47 : decode cM_set 47 = .ok (.getfield 29, 3) := by decide +kernel
theorem dM_set_50 : decode cM_set 50 = .ok (.iload_n 1, 1) := by decide +kernel
theorem dM_set_51 : decode cM_set 51 = .ok (.iaload, 1) := by decide +kernel
theorem dM_set_52 : decode cM_set 52 = .ok (.aload_n 0, 1) := by decide +kernel
theorem dM_set_53 : decode cM_set 53 = .ok (.getfield 38, 3) := by decide +kernel
theorem dM_set_56 : decode cM_set 56 = .ok (.iload_n 1, 1) := by decide +kernel
theorem dM_set_57 : decode cM_set 57 = .ok (.baload, 1) := by decide +kernel
theorem dM_set_58 : decode cM_set 58 = .ok (.ifCond .eq 8, 3) := by decide +kernel
theorem dM_set_61 : decode cM_set 61 = .ok (.iload 5, 2) := by decide +kernel
theorem dM_set_63 : decode cM_set 63 = .ok (.goto 10, 3) := by decide +kernel
theorem dM_set_66 : decode cM_set 66 = .ok (.iload 4, 2) := by decide +kernel
theorem dM_set_68 : decode cM_set 68 = .ok (.iconst 1, 1) := by decide +kernel
theorem dM_set_69 : decode cM_set 69 = .ok (.isub, 1) := by decide +kernel
theorem dM_set_70 : decode cM_set 70 = .ok (.iload 5, 2) := by decide +kernel
theorem dM_set_72 : decode cM_set 72 = .ok (.isub, 1) := by decide +kernel
theorem dM_set_73 : decode cM_set 73 = .ok (.iadd, 1) := by decide +kernel
theorem dM_set_74 : decode cM_set 74 = .ok (.lload_n 2, 1) := by decide +kernel
theorem dM_set_75 : decode cM_set 75 = .ok (.bipush 8, 2) := by decide +kernel
theorem dM_set_77 : decode cM_set 77 = .ok (.iload 5, 2) := by decide +kernel
theorem dM_set_79 : decode cM_set 79 = .ok (.imul, 1) := by decide +kernel
theorem dM_set_80 : decode cM_set 80 = .ok (.lshr, 1) := by decide +kernel
theorem dM_set_81 : decode cM_set 81 = .ok (.l2i, 1) := by decide +kernel
theorem dM_set_82 : decode cM_set 82 = .ok (.i2b, 1) := by decide +kernel
theorem dM_set_83 : decode cM_set 83 = .ok (.i2l, 1) := by decide +kernel
theorem dM_set_84 : decode cM_set 84 = .ok (.lastore, 1) := by decide +kernel
theorem dM_set_85 : decode cM_set 85 = .ok (.iinc 5 1, 3) := by decide +kernel
theorem dM_set_88 : decode cM_set 88 = .ok (.goto (-59), 3) := by decide +kernel
theorem dM_set_91 : decode cM_set 91 = .ok (.return_, 1) := by decide +kernel
theorem dM_act_0 : decode cM_act 0 = .ok (.aload_n 0, 1) := by decide +kernel
theorem dM_act_1 : decode cM_act 1 = .ok (.iload_n 1, 1) := by decide +kernel
theorem dM_act_2 : decode cM_act 2 = .ok (.invokevirtual 82, 3) := by decide +kernel
theorem dM_act_5 : decode cM_act 5 = .ok (.ifCond .eq 17, 3) := by decide +kernel
theorem dM_act_8 : decode cM_act 8 = .ok (.iload_n 2, 1) := by decide +kernel
theorem dM_act_9 : decode cM_act 9 = .ok (.ifCond .lt 13, 3) := by decide +kernel
theorem dM_act_12 : decode cM_act 12 = .ok (.iload_n 2, 1) := by decide +kernel
theorem dM_act_13 : decode cM_act 13 = .ok (.bipush 7, 2) := by decide +kernel
theorem dM_act_15 : decode cM_act 15 = .ok (.if_icmp .gt 7, 3) := by decide +kernel
theorem dM_act_18 : decode cM_act 18 = .ok (.iconst 1, 1) := by decide +kernel
theorem dM_act_19 : decode cM_act 19 = .ok (.goto 4, 3) := by decide +kernel
theorem dM_act_22 : decode cM_act 22 = .ok (.iconst 0, 1) := by decide +kernel
theorem dM_act_23 : decode cM_act 23 = .ok (.istore 7, 2) := by decide +kernel
theorem dM_act_25 : decode cM_act 25 = .ok (.iload 7, 2) := by decide +kernel
theorem dM_act_27 : decode cM_act 27 = .ok (.ifCond .eq 12, 3) := by decide +kernel
theorem dM_act_30 : decode cM_act 30 = .ok (.aload_n 0, 1) := by decide +kernel
theorem dM_act_31 : decode cM_act 31 = .ok (.getfield 32, 3) := by decide +kernel
theorem dM_act_34 : decode cM_act 34 = .ok (.iload_n 1, 1) := by decide +kernel
theorem dM_act_35 : decode cM_act 35 = .ok (.iaload, 1) := by decide +kernel
theorem dM_act_36 : decode cM_act 36 = .ok (.goto 4, 3) := by decide +kernel
theorem dM_act_39 : decode cM_act 39 = .ok (.iconst 0, 1) := by decide +kernel
theorem dM_act_40 : decode cM_act 40 = .ok (.istore 8, 2) := by decide +kernel
theorem dM_act_42 : decode cM_act 42 = .ok (.iload 7, 2) := by decide +kernel
theorem dM_act_44 : decode cM_act 44 = .ok (.ifCond .eq 30, 3) := by decide +kernel
theorem dM_act_47 : decode cM_act 47 = .ok (.iload_n 2, 1) := by decide +kernel
theorem dM_act_48 : decode cM_act 48 = .ok (.iconst 4, 1) := by decide +kernel
theorem dM_act_49 : decode cM_act 49 = .ok (.if_icmp .ne 9, 3) := by decide +kernel
theorem dM_act_52 : decode cM_act 52 = .ok (.iload 8, 2) := by decide +kernel
theorem dM_act_54 : decode cM_act 54 = .ok (.iconst 1, 1) := by decide +kernel
theorem dM_act_55 : decode cM_act 55 = .ok (.if_icmp .eq 19, 3) := by decide +kernel
theorem dM_act_58 : decode cM_act 58 = .ok (.iload_n 2, 1) := by decide +kernel
theorem dM_act_59 : decode cM_act 59 = .ok (.iconst 3, 1) := by decide +kernel
theorem dM_act_60 : decode cM_act 60 = .ok (.if_icmp .le 10, 3) := by decide +kernel
theorem dM_act_63 : decode cM_act 63 = .ok (.iload 8, 2) := by decide +kernel
theorem dM_act_65 : decode cM_act 65 = .ok (.bipush 7, 2) := by decide +kernel
theorem dM_act_67 : decode cM_act 67 = .ok (.if_icmp .eq 7, 3) := by decide +kernel
theorem dM_act_70 : decode cM_act 70 = .ok (.iconst 1, 1) := by decide +kernel
theorem dM_act_71 : decode cM_act 71 = .ok (.goto 4, 3) := by decide +kernel
theorem dM_act_74 : decode cM_act 74 = .ok (.iconst 0, 1) := by decide +kernel
theorem dM_act_75 : decode cM_act 75 = .ok (.istore 7, 2) := by decide +kernel
theorem dM_act_77 : decode cM_act 77 = .ok (.iload 7, 2) := by decide +kernel
theorem dM_act_79 : decode cM_act 79 = .ok (.ifCond .eq 37, 3) := by decide +kernel
theorem dM_act_82 : decode cM_act 82 = .ok (.iload_n 2, 1) := by decide +kernel
theorem dM_act_83 : decode cM_act 83 = .ok (.ifCond .eq 13, 3) := by decide +kernel
theorem dM_act_86 : decode cM_act 86 = .ok (.aload_n 0, 1) := by decide +kernel
theorem dM_act_87 : decode cM_act 87 = .ok (.iload 8, 2) := by decide +kernel
theorem dM_act_89 : decode cM_act 89 = .ok (.lload_n 3, 1) := by decide +kernel
theorem dM_act_90 : decode cM_act 90 = .ok (.invokevirtual 93, 3) := by decide +kernel
theorem dM_act_93 : decode cM_act 93 = .ok (.ifCond .eq 23, 3) := by decide +kernel
theorem dM_act_96 : decode cM_act 96 = .ok (.iload_n 2, 1) := by decide +kernel
theorem dM_act_97 : decode cM_act 97 = .ok (.iconst 3, 1) := by decide +kernel
theorem dM_act_98 : decode cM_act 98 = .ok (.if_icmp .ne 14, 3) := by decide +kernel
theorem dM_act_101 : decode cM_act 101 = .ok (.aload_n 0, 1) := by decide +kernel
theorem dM_act_102 : decode cM_act 102 = .ok (.iload 8, 2) := by decide +kernel
theorem dM_act_104 : decode cM_act 104 = .ok (.lload 5, 2) := by decide +kernel
theorem dM_act_106 : decode cM_act 106 = .ok (.invokevirtual 93, 3) := by decide +kernel
theorem dM_act_109 : decode cM_act 109 = .ok (.ifCond .eq 7, 3) := by decide +kernel
theorem dM_act_112 : decode cM_act 112 = .ok (.iconst 1, 1) := by decide +kernel
theorem dM_act_113 : decode cM_act 113 = .ok (.goto 4, 3) := by decide +kernel
theorem dM_act_116 : decode cM_act 116 = .ok (.iconst 0, 1) := by decide +kernel
theorem dM_act_117 : decode cM_act 117 = .ok (.istore 7, 2) := by decide +kernel
theorem dM_act_119 : decode cM_act 119 = .ok (.aload_n 0, 1) := by decide +kernel
theorem dM_act_120 : decode cM_act 120 = .ok (.iload 7, 2) := by decide +kernel
theorem dM_act_122 : decode cM_act 122 = .ok (.ifCond .eq 7, 3) := by decide +kernel
theorem dM_act_125 : decode cM_act 125 = .ok (.iconst 0, 1) := by decide +kernel
theorem dM_act_126 : decode cM_act 126 = .ok (.goto 4, 3) := by decide +kernel
theorem dM_act_129 : decode cM_act 129 = .ok (.iconst 1, 1) := by decide +kernel
theorem dM_act_130 : decode cM_act 130 = .ok (.putfield 49, 3) := by decide +kernel
theorem dM_act_133 : decode cM_act 133 = .ok (.iload 7, 2) := by decide +kernel
theorem dM_act_135 : decode cM_act 135 = .ok (.ifCond .ne 5, 3) := by decide +kernel
theorem dM_act_138 : decode cM_act 138 = .ok (.lconst 0, 1) := by decide +kernel
theorem dM_act_139 : decode cM_act 139 = .ok (.lreturn, 1) := by decide +kernel
theorem dM_act_140 : decode cM_act 140 = .ok (.aload_n 0, 1) := by decide +kernel
theorem dM_act_141 : decode cM_act 141 = .ok (.iload_n 1, 1) := by decide +kernel
theorem dM_act_142 : decode cM_act 142 = .ok (.invokevirtual 97, 3) := by decide +kernel
theorem dM_act_145 : decode cM_act 145 = .ok (.lstore 9, 2) := by decide +kernel
theorem dM_act_147 : decode cM_act 147 = .ok (.iload_n 2, 1) := by decide +kernel
theorem dM_act_148 : decode cM_act 148 = .ok (.tableswitch 142 0 6 #[44, 47, 55, 64, 91, 108, 125], 44) := by decide +kernel
theorem dM_act_192 : decode cM_act 192 = .ok (.lload 9, 2) := by decide +kernel
theorem dM_act_194 : decode cM_act 194 = .ok (.lreturn, 1) := by decide +kernel
theorem dM_act_195 : decode cM_act 195 = .ok (.aload_n 0, 1) := by decide +kernel
theorem dM_act_196 : decode cM_act 196 = .ok (.iload_n 1, 1) := by decide +kernel
theorem dM_act_197 : decode cM_act 197 = .ok (.lload_n 3, 1) := by decide +kernel
theorem dM_act_198 : decode cM_act 198 = .ok (.invokevirtual 101, 3) := by decide +kernel
theorem dM_act_201 : decode cM_act 201 = .ok (.lconst 0, 1) := by decide +kernel
theorem dM_act_202 : decode cM_act 202 = .ok (.lreturn, 1) := by decide +kernel
theorem dM_act_203 : decode cM_act 203 = .ok (.aload_n 0, 1) := by decide +kernel
theorem dM_act_204 : decode cM_act 204 = .ok (.iload_n 1, 1) := by decide +kernel
theorem dM_act_205 : decode cM_act 205 = .ok (.lload_n 3, 1) := by decide +kernel
theorem dM_act_206 : decode cM_act 206 = .ok (.invokevirtual 101, 3) := by decide +kernel
theorem dM_act_209 : decode cM_act 209 = .ok (.goto 99, 3) := by decide +kernel
theorem dM_act_212 : decode cM_act 212 = .ok (.lload 9, 2) := by decide +kernel
theorem dM_act_214 : decode cM_act 214 = .ok (.lload_n 3, 1) := by decide +kernel
theorem dM_act_215 : decode cM_act 215 = .ok (.lcmp, 1) := by decide +kernel
theorem dM_act_216 : decode cM_act 216 = .ok (.ifCond .ne 10, 3) := by decide +kernel
theorem dM_act_219 : decode cM_act 219 = .ok (.aload_n 0, 1) := by decide +kernel
theorem dM_act_220 : decode cM_act 220 = .ok (.iload_n 1, 1) := by decide +kernel
theorem dM_act_221 : decode cM_act 221 = .ok (.lload 5, 2) := by decide +kernel
theorem dM_act_223 : decode cM_act 223 = .ok (.invokevirtual 101, 3) := by decide +kernel
theorem dM_act_226 : decode cM_act 226 = .ok (.lload 9, 2) := by decide +kernel
theorem dM_act_228 : decode cM_act 228 = .ok (.lload_n 3, 1) := by decide +kernel
theorem dM_act_229 : decode cM_act 229 = .ok (.lcmp, 1) := by decide +kernel
theorem dM_act_230 : decode cM_act 230 = .ok (.ifCond .ne 7, 3) := by decide +kernel
theorem dM_act_233 : decode cM_act 233 = .ok (.lconst 1, 1) := by decide +kernel
theorem dM_act_234 : decode cM_act 234 = .ok (.goto 4, 3) := by decide +kernel
theorem dM_act_237 : decode cM_act 237 = .ok (.lconst 0, 1) := by decide +kernel
theorem dM_act_238 : decode cM_act 238 = .ok (.lreturn, 1) := by decide +kernel
theorem dM_act_239 : decode cM_act 239 = .ok (.aload_n 0, 1) := by decide +kernel
theorem dM_act_240 : decode cM_act 240 = .ok (.iload_n 1, 1) := by decide +kernel
theorem dM_act_241 : decode cM_act 241 = .ok (.iload 8, 2) := by decide +kernel
theorem dM_act_243 : decode cM_act 243 = .ok (.lload 9, 2) := by decide +kernel
theorem dM_act_245 : decode cM_act 245 = .ok (.lload_n 3, 1) := by decide +kernel
theorem dM_act_246 : decode cM_act 246 = .ok (.ladd, 1) := by decide +kernel
theorem dM_act_247 : decode cM_act 247 = .ok (.invokestatic 87, 3) := by decide +kernel
theorem dM_act_250 : decode cM_act 250 = .ok (.invokevirtual 101, 3) := by decide +kernel
theorem dM_act_253 : decode cM_act 253 = .ok (.goto 55, 3) := by decide +kernel
theorem dM_act_256 : decode cM_act 256 = .ok (.aload_n 0, 1) := by decide +kernel
theorem dM_act_257 : decode cM_act 257 = .ok (.iload_n 1, 1) := by decide +kernel
theorem dM_act_258 : decode cM_act 258 = .ok (.iload 8, 2) := by decide +kernel
theorem dM_act_260 : decode cM_act 260 = .ok (.lload 9, 2) := by decide +kernel
theorem dM_act_262 : decode cM_act 262 = .ok (.lload_n 3, 1) := by decide +kernel
theorem dM_act_263 : decode cM_act 263 = .ok (.land, 1) := by decide +kernel
theorem dM_act_264 : decode cM_act 264 = .ok (.invokestatic 87, 3) := by decide +kernel
theorem dM_act_267 : decode cM_act 267 = .ok (.invokevirtual 101, 3) := by decide +kernel
theorem dM_act_270 : decode cM_act 270 = .ok (.goto 38, 3) := by decide +kernel
theorem dM_act_273 : decode cM_act 273 = .ok (.aload_n 0, 1) := by decide +kernel
theorem dM_act_274 : decode cM_act 274 = .ok (.iload_n 1, 1) := by decide +kernel
theorem dM_act_275 : decode cM_act 275 = .ok (.iload 8, 2) := by decide +kernel
theorem dM_act_277 : decode cM_act 277 = .ok (.lload 9, 2) := by decide +kernel
theorem dM_act_279 : decode cM_act 279 = .ok (.lload_n 3, 1) := by decide +kernel
theorem dM_act_280 : decode cM_act 280 = .ok (.lor, 1) := by decide +kernel
theorem dM_act_281 : decode cM_act 281 = .ok (.invokestatic 87, 3) := by decide +kernel
theorem dM_act_284 : decode cM_act 284 = .ok (.invokevirtual 101, 3) := by decide +kernel
theorem dM_act_287 : decode cM_act 287 = .ok (.goto 21, 3) := by decide +kernel
theorem dM_act_290 : decode cM_act 290 = .ok (.aload_n 0, 1) := by decide +kernel
theorem dM_act_291 : decode cM_act 291 = .ok (.iload_n 1, 1) := by decide +kernel
theorem dM_act_292 : decode cM_act 292 = .ok (.lload 9, 2) := by decide +kernel
theorem dM_act_294 : decode cM_act 294 = .ok (.lload_n 3, 1) := by decide +kernel
theorem dM_act_295 : decode cM_act 295 = .ok (.lcmp, 1) := by decide +kernel
theorem dM_act_296 : decode cM_act 296 = .ok (.ifCond .le 8, 3) := by decide +kernel
theorem dM_act_299 : decode cM_act 299 = .ok (.lload 9, 2) := by decide +kernel
theorem dM_act_301 : decode cM_act 301 = .ok (.goto 4, 3) := by decide +kernel
theorem dM_act_304 : decode cM_act 304 = .ok (.lload_n 3, 1) := by decide +kernel
theorem dM_act_305 : decode cM_act 305 = .ok (.invokevirtual 101, 3) := by decide +kernel
theorem dM_act_308 : decode cM_act 308 = .ok (.lload 9, 2) := by decide +kernel
theorem dM_act_310 : decode cM_act 310 = .ok (.lreturn, 1) := by decide +kernel
theorem dM_copy_0 : decode cM_copy 0 = .ok (.aload_n 0, 1) := by decide +kernel
theorem dM_copy_1 : decode cM_copy 1 = .ok (.iconst 0, 1) := by decide +kernel
theorem dM_copy_2 : decode cM_copy 2 = .ok (.putfield 49, 3) := by decide +kernel
theorem dM_copy_5 : decode cM_copy 5 = .ok (.aload_n 0, 1) := by decide +kernel
theorem dM_copy_6 : decode cM_copy 6 = .ok (.iload_n 1, 1) := by decide +kernel
theorem dM_copy_7 : decode cM_copy 7 = .ok (.invokevirtual 72, 3) := by decide +kernel
theorem dM_copy_10 : decode cM_copy 10 = .ok (.ifCond .eq 40, 3) := by decide +kernel
theorem dM_copy_13 : decode cM_copy 13 = .ok (.aload_n 0, 1) := by decide +kernel
theorem dM_copy_14 : decode cM_copy 14 = .ok (.iload_n 3, 1) := by decide +kernel
theorem dM_copy_15 : decode cM_copy 15 = .ok (.invokevirtual 72, 3) := by decide +kernel
theorem dM_copy_18 : decode cM_copy 18 = .ok (.ifCond .eq 32, 3) := by decide +kernel
theorem dM_copy_21 : decode cM_copy 21 = .ok (.aload_n 0, 1) := by decide +kernel
theorem dM_copy_22 : decode cM_copy 22 = .ok (.getfield 23, 3) := by decide +kernel
theorem dM_copy_25 : decode cM_copy 25 = .ok (.iload_n 1, 1) := by decide +kernel
theorem dM_copy_26 : decode cM_copy 26 = .ok (.iaload, 1) := by decide +kernel
theorem dM_copy_27 : decode cM_copy 27 = .ok (.ifCond .eq 23, 3) := by decide +kernel
theorem dM_copy_30 : decode cM_copy 30 = .ok (.aload_n 0, 1) := by decide +kernel
theorem dM_copy_31 : decode cM_copy 31 = .ok (.getfield 23, 3) := by decide +kernel
theorem dM_copy_34 : decode cM_copy 34 = .ok (.iload_n 1, 1) := by decide +kernel
theorem dM_copy_35 : decode cM_copy 35 = .ok (.iaload, 1) := by decide +kernel
theorem dM_copy_36 : decode cM_copy 36 = .ok (.aload_n 0, 1) := by decide +kernel
theorem dM_copy_37 : decode cM_copy 37 = .ok (.getfield 23, 3) := by decide +kernel
theorem dM_copy_40 : decode cM_copy 40 = .ok (.iload_n 3, 1) := by decide +kernel
theorem dM_copy_41 : decode cM_copy 41 = .ok (.iaload, 1) := by decide +kernel
theorem dM_copy_42 : decode cM_copy 42 = .ok (.if_icmp .ne 8, 3) := by decide +kernel
theorem dM_copy_45 : decode cM_copy 45 = .ok (.iload 5, 2) := by decide +kernel
theorem dM_copy_47 : decode cM_copy 47 = .ok (.ifCond .ge 5, 3) := by decide +kernel
theorem dM_copy_50 : decode cM_copy 50 = .ok (.iconst 0, 1) := by decide +kernel
theorem dM_copy_51 : decode cM_copy 51 = .ok (.ireturn, 1) := by decide +kernel
theorem dM_copy_52 : decode cM_copy 52 = .ok (.iload_n 2, 1) := by decide +kernel
theorem dM_copy_53 : decode cM_copy 53 = .ok (.ifCond .lt 43, 3) := by decide +kernel
theorem dM_copy_56 : decode cM_copy 56 = .ok (.iload 4, 2) := by decide +kernel
theorem dM_copy_58 : decode cM_copy 58 = .ok (.ifCond .lt 38, 3) := by decide +kernel
theorem dM_copy_61 : decode cM_copy 61 = .ok (.iload_n 2, 1) := by decide +kernel
theorem dM_copy_62 : decode cM_copy 62 = .ok (.i2l, 1) := by decide +kernel
theorem dM_copy_63 : decode cM_copy 63 = .ok (.iload 5, 2) := by decide +kernel
theorem dM_copy_65 : decode cM_copy 65 = .ok (.i2l, 1) := by decide +kernel
theorem dM_copy_66 : decode cM_copy 66 = .ok (.ladd, 1) := by decide +kernel
theorem dM_copy_67 : decode cM_copy 67 = .ok (.aload_n 0, 1) := by decide +kernel
theorem dM_copy_68 : decode cM_copy 68 = .ok (.getfield 20, 3) := by decide +kernel
theorem dM_copy_71 : decode cM_copy 71 = .ok (.iload_n 1, 1) := by decide +kernel
theorem dM_copy_72 : decode cM_copy 72 = .ok (.iaload, 1) := by decide +kernel
theorem dM_copy_73 : decode cM_copy 73 = .ok (.i2l, 1) := by decide +kernel
theorem dM_copy_74 : decode cM_copy 74 = .ok (.lcmp, 1) := by decide +kernel
theorem dM_copy_75 : decode cM_copy 75 = .ok (.ifCond .gt 21, 3) := by decide +kernel
theorem dM_copy_78 : decode cM_copy 78 = .ok (.iload 4, 2) := by decide +kernel
theorem dM_copy_80 : decode cM_copy 80 = .ok (.i2l, 1) := by decide +kernel
theorem dM_copy_81 : decode cM_copy 81 = .ok (.iload 5, 2) := by decide +kernel
theorem dM_copy_83 : decode cM_copy 83 = .ok (.i2l, 1) := by decide +kernel
theorem dM_copy_84 : decode cM_copy 84 = .ok (.ladd, 1) := by decide +kernel
theorem dM_copy_85 : decode cM_copy 85 = .ok (.aload_n 0, 1) := by decide +kernel
theorem dM_copy_86 : decode cM_copy 86 = .ok (.getfield 20, 3) := by decide +kernel
theorem dM_copy_89 : decode cM_copy 89 = .ok (.iload_n 3, 1) := by decide +kernel
theorem dM_copy_90 : decode cM_copy 90 = .ok (.iaload, 1) := by decide +kernel
theorem dM_copy_91 : decode cM_copy 91 = .ok (.i2l, 1) := by decide +kernel
theorem dM_copy_92 : decode cM_copy 92 = .ok (.lcmp, 1) := by decide +kernel
theorem dM_copy_93 : decode cM_copy 93 = .ok (.ifCond .le 5, 3) := by decide +kernel
theorem dM_copy_96 : decode cM_copy 96 = .ok (.iconst 0, 1) := by decide +kernel
theorem dM_copy_97 : decode cM_copy 97 = .ok (.ireturn, 1) := by decide +kernel
theorem dM_copy_98 : decode cM_copy 98 = .ok (.aload_n 0, 1) := by decide +kernel
theorem dM_copy_99 : decode cM_copy 99 = .ok (.getfield 17, 3) := by decide +kernel
theorem dM_copy_102 : decode cM_copy 102 = .ok (.iload_n 1, 1) := by decide +kernel
theorem dM_copy_103 : decode cM_copy 103 = .ok (.iaload, 1) := by decide +kernel
theorem dM_copy_104 : decode cM_copy 104 = .ok (.iload_n 2, 1) := by decide +kernel
theorem dM_copy_105 : decode cM_copy 105 = .ok (.iadd, 1) := by decide +kernel
theorem dM_copy_106 : decode cM_copy 106 = .ok (.istore 6, 2) := by decide +kernel
theorem dM_copy_108 : decode cM_copy 108 = .ok (.aload_n 0, 1) := by decide +kernel
theorem dM_copy_109 : decode cM_copy 109 = .ok (.getfield 17, 3) := by decide +kernel
theorem dM_copy_112 : decode cM_copy 112 = .ok (.iload_n 3, 1) := by decide +kernel
theorem dM_copy_113 : decode cM_copy 113 = .ok (.iaload, 1) := by decide +kernel
theorem dM_copy_114 : decode cM_copy 114 = .ok (.iload 4, 2) := by decide +kernel
theorem dM_copy_116 : decode cM_copy 116 = .ok (.iadd, 1) := by decide +kernel
theorem dM_copy_117 : decode cM_copy 117 = .ok (.istore 7, 2) := by decide +kernel
theorem dM_copy_119 : decode cM_copy 119 = .ok (.iconst 0, 1) := by decide +kernel
theorem dM_copy_120 : decode cM_copy 120 = .ok (.istore 8, 2) := by decide +kernel
theorem dM_copy_122 : decode cM_copy 122 = .ok (.iload 8, 2) := by decide +kernel
theorem dM_copy_124 : decode cM_copy 124 = .ok (.iload 5, 2) := by decide +kernel
theorem dM_copy_126 : decode cM_copy 126 = .ok (.if_icmp .ge 50, 3) := by decide +kernel
theorem dM_copy_129 : decode cM_copy 129 = .ok (.iload 6, 2) := by decide +kernel
theorem dM_copy_131 : decode cM_copy 131 = .ok (.iload 7, 2) := by decide +kernel
theorem dM_copy_133 : decode cM_copy 133 = .ok (.if_icmp .ge 13, 3) := by decide +kernel
theorem dM_copy_136 : decode cM_copy 136 = .ok (.iload 5, 2) := by decide +kernel
theorem dM_copy_138 : decode cM_copy 138 = .ok (.iconst 1, 1) := by decide +kernel
theorem dM_copy_139 : decode cM_copy 139 = .ok (.isub, 1) := by decide +kernel
theorem dM_copy_140 : decode cM_copy 140 = .ok (.iload 8, 2) := by decide +kernel
theorem dM_copy_142 : decode cM_copy 142 = .ok (.isub, 1) := by decide +kernel
theorem dM_copy_143 : decode cM_copy 143 = .ok (.goto 5, 3) := by decide +kernel
theorem dM_copy_146 : decode cM_copy 146 = .ok (.iload 8, 2) := by decide +kernel
theorem dM_copy_148 : decode cM_copy 148 = .ok (.istore 9, 2) := by decide +kernel
theorem dM_copy_150 : decode cM_copy 150 = .ok (.aload_n 0, 1) := by decide +kernel
theorem dM_copy_151 : decode cM_copy 151 = .ok (.getfield 7, 3) := by decide +kernel
theorem dM_copy_154 : decode cM_copy 154 = .ok (.iload 7, 2) := by decide +kernel
theorem dM_copy_156 : decode cM_copy 156 = .ok (.iload 9, 2) := by decide +kernel
theorem dM_copy_158 : decode cM_copy 158 = .ok (.iadd, 1) := by decide +kernel
theorem dM_copy_159 : decode cM_copy 159 = .ok (.aload_n 0, 1) := by decide +kernel
theorem dM_copy_160 : decode cM_copy 160 = .ok (.getfield 7, 3) := by decide +kernel
theorem dM_copy_163 : decode cM_copy 163 = .ok (.iload 6, 2) := by decide +kernel
theorem dM_copy_165 : decode cM_copy 165 = .ok (.iload 9, 2) := by decide +kernel
theorem dM_copy_167 : decode cM_copy 167 = .ok (.iadd, 1) := by decide +kernel
theorem dM_copy_168 : decode cM_copy 168 = .ok (.laload, 1) := by decide +kernel
theorem dM_copy_169 : decode cM_copy 169 = .ok (.lastore, 1) := by decide +kernel
theorem dM_copy_170 : decode cM_copy 170 = .ok (.iinc 8 1, 3) := by decide +kernel
theorem dM_copy_173 : decode cM_copy 173 = .ok (.goto (-51), 3) := by decide +kernel
theorem dM_copy_176 : decode cM_copy 176 = .ok (.iconst 1, 1) := by decide +kernel
theorem dM_copy_177 : decode cM_copy 177 = .ok (.ireturn, 1) := by decide +kernel
theorem dM_meet_0 : decode cM_meet 0 = .ok (.aload_n 0, 1) := by decide +kernel
theorem dM_meet_1 : decode cM_meet 1 = .ok (.iconst 0, 1) := by decide +kernel
theorem dM_meet_2 : decode cM_meet 2 = .ok (.putfield 49, 3) := by decide +kernel
theorem dM_meet_5 : decode cM_meet 5 = .ok (.aload_n 0, 1) := by decide +kernel
theorem dM_meet_6 : decode cM_meet 6 = .ok (.iload_n 1, 1) := by decide +kernel
theorem dM_meet_7 : decode cM_meet 7 = .ok (.invokevirtual 82, 3) := by decide +kernel
theorem dM_meet_10 : decode cM_meet 10 = .ok (.ifCond .eq 59, 3) := by decide +kernel
theorem dM_meet_13 : decode cM_meet 13 = .ok (.aload_n 0, 1) := by decide +kernel
theorem dM_meet_14 : decode cM_meet 14 = .ok (.iload_n 2, 1) := by decide +kernel
theorem dM_meet_15 : decode cM_meet 15 = .ok (.invokevirtual 82, 3) := by decide +kernel
theorem dM_meet_18 : decode cM_meet 18 = .ok (.ifCond .eq 51, 3) := by decide +kernel
theorem dM_meet_21 : decode cM_meet 21 = .ok (.aload_n 0, 1) := by decide +kernel
theorem dM_meet_22 : decode cM_meet 22 = .ok (.getfield 29, 3) := by decide +kernel
theorem dM_meet_25 : decode cM_meet 25 = .ok (.iload_n 1, 1) := by decide +kernel
theorem dM_meet_26 : decode cM_meet 26 = .ok (.iaload, 1) := by decide +kernel
theorem dM_meet_27 : decode cM_meet 27 = .ok (.aload_n 0, 1) := by decide +kernel
theorem dM_meet_28 : decode cM_meet 28 = .ok (.getfield 29, 3) := by decide +kernel
theorem dM_meet_31 : decode cM_meet 31 = .ok (.iload_n 2, 1) := by decide +kernel
theorem dM_meet_32 : decode cM_meet 32 = .ok (.iaload, 1) := by decide +kernel
theorem dM_meet_33 : decode cM_meet 33 = .ok (.aload_n 0, 1) := by decide +kernel
theorem dM_meet_34 : decode cM_meet 34 = .ok (.getfield 35, 3) := by decide +kernel
theorem dM_meet_37 : decode cM_meet 37 = .ok (.iload_n 2, 1) := by decide +kernel
theorem dM_meet_38 : decode cM_meet 38 = .ok (.iaload, 1) := by decide +kernel
theorem dM_meet_39 : decode cM_meet 39 = .ok (.iadd, 1) := by decide +kernel
theorem dM_meet_40 : decode cM_meet 40 = .ok (.if_icmp .ge 29, 3) := by decide +kernel
theorem dM_meet_43 : decode cM_meet 43 = .ok (.aload_n 0, 1) := by decide +kernel
theorem dM_meet_44 : decode cM_meet 44 = .ok (.getfield 29, 3) := by decide +kernel
theorem dM_meet_47 : decode cM_meet 47 = .ok (.iload_n 2, 1) := by decide +kernel
theorem dM_meet_48 : decode cM_meet 48 = .ok (.iaload, 1) := by decide +kernel
theorem dM_meet_49 : decode cM_meet 49 = .ok (.aload_n 0, 1) := by decide +kernel
theorem dM_meet_50 : decode cM_meet 50 = .ok (.getfield 29, 3) := by decide +kernel
theorem dM_meet_53 : decode cM_meet 53 = .ok (.iload_n 1, 1) := by decide +kernel
theorem dM_meet_54 : decode cM_meet 54 = .ok (.iaload, 1) := by decide +kernel
theorem dM_meet_55 : decode cM_meet 55 = .ok (.aload_n 0, 1) := by decide +kernel
theorem dM_meet_56 : decode cM_meet 56 = .ok (.getfield 35, 3) := by decide +kernel
theorem dM_meet_59 : decode cM_meet 59 = .ok (.iload_n 1, 1) := by decide +kernel
theorem dM_meet_60 : decode cM_meet 60 = .ok (.iaload, 1) := by decide +kernel
theorem dM_meet_61 : decode cM_meet 61 = .ok (.iadd, 1) := by decide +kernel
theorem dM_meet_62 : decode cM_meet 62 = .ok (.if_icmp .ge 7, 3) := by decide +kernel
theorem dM_meet_65 : decode cM_meet 65 = .ok (.iconst 1, 1) := by decide +kernel
theorem dM_meet_66 : decode cM_meet 66 = .ok (.goto 4, 3) := by decide +kernel
theorem dM_meet_69 : decode cM_meet 69 = .ok (.iconst 0, 1) := by decide +kernel
theorem dM_meet_70 : decode cM_meet 70 = .ok (.ireturn, 1) := by decide +kernel
theorem dM_mark_0 : decode cM_mark 0 = .ok (.aload_n 0, 1) := by decide +kernel
theorem dM_mark_1 : decode cM_mark 1 = .ok (.iconst 0, 1) := by decide +kernel
theorem dM_mark_2 : decode cM_mark 2 = .ok (.putfield 49, 3) := by decide +kernel
theorem dM_mark_5 : decode cM_mark 5 = .ok (.aload_n 0, 1) := by decide +kernel
theorem dM_mark_6 : decode cM_mark 6 = .ok (.getfield 105, 3) := by decide +kernel
theorem dM_mark_9 : decode cM_mark 9 = .ok (.bipush 20, 2) := by decide +kernel
theorem dM_mark_11 : decode cM_mark 11 = .ok (.if_icmp .ne 5, 3) := by decide +kernel
theorem dM_mark_14 : decode cM_mark 14 = .ok (.iconst (-1), 1) := by decide +kernel
theorem dM_mark_15 : decode cM_mark 15 = .ok (.ireturn, 1) := by decide +kernel
theorem dM_mark_16 : decode cM_mark 16 = .ok (.iconst 0, 1) := by decide +kernel
theorem dM_mark_17 : decode cM_mark 17 = .ok (.istore_n 1, 1) := by decide +kernel
theorem dM_mark_18 : decode cM_mark 18 = .ok (.iload_n 1, 1) := by decide +kernel
theorem dM_mark_19 : decode cM_mark 19 = .ok (.aload_n 0, 1) := by decide +kernel
theorem dM_mark_20 : decode cM_mark 20 = .ok (.getfield 56, 3) := by decide +kernel
theorem dM_mark_23 : decode cM_mark 23 = .ok (.if_icmp .ge 30, 3) := by decide +kernel
theorem dM_mark_26 : decode cM_mark 26 = .ok (.aload_n 0, 1) := by decide +kernel
theorem dM_mark_27 : decode cM_mark 27 = .ok (.getfield 43, 3) := by decide +kernel
theorem dM_mark_30 : decode cM_mark 30 = .ok (.sipush 4000, 3) := by decide +kernel
theorem dM_mark_33 : decode cM_mark 33 = .ok (.aload_n 0, 1) := by decide +kernel
theorem dM_mark_34 : decode cM_mark 34 = .ok (.getfield 105, 3) := by decide +kernel
theorem dM_mark_37 : decode cM_mark 37 = .ok (.imul, 1) := by decide +kernel
theorem dM_mark_38 : decode cM_mark 38 = .ok (.iload_n 1, 1) := by decide +kernel
theorem dM_mark_39 : decode cM_mark 39 = .ok (.iadd, 1) := by decide +kernel
theorem dM_mark_40 : decode cM_mark 40 = .ok (.aload_n 0, 1) := by decide +kernel
theorem dM_mark_41 : decode cM_mark 41 = .ok (.getfield 7, 3) := by decide +kernel
theorem dM_mark_44 : decode cM_mark 44 = .ok (.iload_n 1, 1) := by decide +kernel
theorem dM_mark_45 : decode cM_mark 45 = .ok (.laload, 1) := by decide +kernel
theorem dM_mark_46 : decode cM_mark 46 = .ok (.lastore, 1) := by decide +kernel
theorem dM_mark_47 : decode cM_mark 47 = .ok (.iinc 1 1, 3) := by decide +kernel
theorem dM_mark_50 : decode cM_mark 50 = .ok (.goto (-32), 3) := by decide +kernel
theorem dM_mark_53 : decode cM_mark 53 = .ok (.aload_n 0, 1) := by decide +kernel
theorem dM_mark_54 : decode cM_mark 54 = .ok (.getfield 46, 3) := by decide +kernel
theorem dM_mark_57 : decode cM_mark 57 = .ok (.aload_n 0, 1) := by decide +kernel
theorem dM_mark_58 : decode cM_mark 58 = .ok (.getfield 105, 3) := by decide +kernel
theorem dM_mark_61 : decode cM_mark 61 = .ok (.aload_n 0, 1) := by decide +kernel
theorem dM_mark_62 : decode cM_mark 62 = .ok (.getfield 56, 3) := by decide +kernel
theorem dM_mark_65 : decode cM_mark 65 = .ok (.iastore, 1) := by decide +kernel
theorem dM_mark_66 : decode cM_mark 66 = .ok (.aload_n 0, 1) := by decide +kernel
theorem dM_mark_67 : decode cM_mark 67 = .ok (.dup, 1) := by decide +kernel
theorem dM_mark_68 : decode cM_mark 68 = .ok (.getfield 105, 3) := by decide +kernel
theorem dM_mark_71 : decode cM_mark 71 = .ok (.iconst 1, 1) := by decide +kernel
theorem dM_mark_72 : decode cM_mark 72 = .ok (.iadd, 1) := by decide +kernel
theorem dM_mark_73 : decode cM_mark 73 = .ok (.putfield 105, 3) := by decide +kernel
theorem dM_mark_76 : decode cM_mark 76 = .ok (.aload_n 0, 1) := by decide +kernel
theorem dM_mark_77 : decode cM_mark 77 = .ok (.getfield 105, 3) := by decide +kernel
theorem dM_mark_80 : decode cM_mark 80 = .ok (.iconst 1, 1) := by decide +kernel
theorem dM_mark_81 : decode cM_mark 81 = .ok (.isub, 1) := by decide +kernel
theorem dM_mark_82 : decode cM_mark 82 = .ok (.ireturn, 1) := by decide +kernel
theorem dM_differ_0 : decode cM_differ 0 = .ok (.iconst 0, 1) := by decide +kernel
theorem dM_differ_1 : decode cM_differ 1 = .ok (.istore_n 2, 1) := by decide +kernel
theorem dM_differ_2 : decode cM_differ 2 = .ok (.iconst 0, 1) := by decide +kernel
theorem dM_differ_3 : decode cM_differ 3 = .ok (.istore_n 3, 1) := by decide +kernel
theorem dM_differ_4 : decode cM_differ 4 = .ok (.iload_n 3, 1) := by decide +kernel
theorem dM_differ_5 : decode cM_differ 5 = .ok (.aload_n 0, 1) := by decide +kernel
theorem dM_differ_6 : decode cM_differ 6 = .ok (.getfield 46, 3) := by decide +kernel
theorem dM_differ_9 : decode cM_differ 9 = .ok (.iload_n 1, 1) := by decide +kernel
theorem dM_differ_10 : decode cM_differ 10 = .ok (.iaload, 1) := by decide +kernel
theorem dM_differ_11 : decode cM_differ 11 = .ok (.if_icmp .ge 39, 3) := by decide +kernel
theorem dM_differ_14 : decode cM_differ 14 = .ok (.iload_n 2, 1) := by decide +kernel
theorem dM_differ_15 : decode cM_differ 15 = .ok (.aload_n 0, 1) := by decide +kernel
theorem dM_differ_16 : decode cM_differ 16 = .ok (.getfield 7, 3) := by decide +kernel
theorem dM_differ_19 : decode cM_differ 19 = .ok (.iload_n 3, 1) := by decide +kernel
theorem dM_differ_20 : decode cM_differ 20 = .ok (.laload, 1) := by decide +kernel
theorem dM_differ_21 : decode cM_differ 21 = .ok (.aload_n 0, 1) := by decide +kernel
theorem dM_differ_22 : decode cM_differ 22 = .ok (.getfield 43, 3) := by decide +kernel
theorem dM_differ_25 : decode cM_differ 25 = .ok (.sipush 4000, 3) := by decide +kernel
theorem dM_differ_28 : decode cM_differ 28 = .ok (.iload_n 1, 1) := by decide +kernel
theorem dM_differ_29 : decode cM_differ 29 = .ok (.imul, 1) := by decide +kernel
theorem dM_differ_30 : decode cM_differ 30 = .ok (.iload_n 3, 1) := by decide +kernel
theorem dM_differ_31 : decode cM_differ 31 = .ok (.iadd, 1) := by decide +kernel
theorem dM_differ_32 : decode cM_differ 32 = .ok (.laload, 1) := by decide +kernel
theorem dM_differ_33 : decode cM_differ 33 = .ok (.lcmp, 1) := by decide +kernel
theorem dM_differ_34 : decode cM_differ 34 = .ok (.ifCond .eq 7, 3) := by decide +kernel
theorem dM_differ_37 : decode cM_differ 37 = .ok (.iconst 1, 1) := by decide +kernel
theorem dM_differ_38 : decode cM_differ 38 = .ok (.goto 4, 3) := by decide +kernel
theorem dM_differ_41 : decode cM_differ 41 = .ok (.iconst 0, 1) := by decide +kernel
theorem dM_differ_42 : decode cM_differ 42 = .ok (.iadd, 1) := by decide +kernel
theorem dM_differ_43 : decode cM_differ 43 = .ok (.istore_n 2, 1) := by decide +kernel
theorem dM_differ_44 : decode cM_differ 44 = .ok (.iinc 3 1, 3) := by decide +kernel
theorem dM_differ_47 : decode cM_differ 47 = .ok (.goto (-43), 3) := by decide +kernel
theorem dM_differ_50 : decode cM_differ 50 = .ok (.iload_n 2, 1) := by decide +kernel
theorem dM_differ_51 : decode cM_differ 51 = .ok (.ireturn, 1) := by decide +kernel
theorem dM_back_0 : decode cM_back 0 = .ok (.aload_n 0, 1) := by decide +kernel
theorem dM_back_1 : decode cM_back 1 = .ok (.iconst 0, 1) := by decide +kernel
theorem dM_back_2 : decode cM_back 2 = .ok (.putfield 49, 3) := by decide +kernel
theorem dM_back_5 : decode cM_back 5 = .ok (.iload_n 1, 1) := by decide +kernel
theorem dM_back_6 : decode cM_back 6 = .ok (.ifCond .lt 11, 3) := by decide +kernel
theorem dM_back_9 : decode cM_back 9 = .ok (.iload_n 1, 1) := by decide +kernel
theorem dM_back_10 : decode cM_back 10 = .ok (.aload_n 0, 1) := by decide +kernel
theorem dM_back_11 : decode cM_back 11 = .ok (.getfield 105, 3) := by decide +kernel
theorem dM_back_14 : decode cM_back 14 = .ok (.if_icmp .lt 5, 3) := by decide +kernel
theorem dM_back_17 : decode cM_back 17 = .ok (.iconst (-1), 1) := by decide +kernel
theorem dM_back_18 : decode cM_back 18 = .ok (.ireturn, 1) := by decide +kernel
theorem dM_back_19 : decode cM_back 19 = .ok (.aload_n 0, 1) := by decide +kernel
theorem dM_back_20 : decode cM_back 20 = .ok (.iload_n 1, 1) := by decide +kernel
theorem dM_back_21 : decode cM_back 21 = .ok (.invokevirtual 108, 3) := by decide +kernel
theorem dM_back_24 : decode cM_back 24 = .ok (.istore_n 2, 1) := by decide +kernel
theorem dM_back_25 : decode cM_back 25 = .ok (.iconst 0, 1) := by decide +kernel
theorem dM_back_26 : decode cM_back 26 = .ok (.istore_n 3, 1) := by decide +kernel
theorem dM_back_27 : decode cM_back 27 = .ok (.iload_n 3, 1) := by decide +kernel
theorem dM_back_28 : decode cM_back 28 = .ok (.aload_n 0, 1) := by decide +kernel
theorem dM_back_29 : decode cM_back 29 = .ok (.getfield 46, 3) := by decide +kernel
theorem dM_back_32 : decode cM_back 32 = .ok (.iload_n 1, 1) := by decide +kernel
theorem dM_back_33 : decode cM_back 33 = .ok (.iaload, 1) := by decide +kernel
theorem dM_back_34 : decode cM_back 34 = .ok (.if_icmp .ge 27, 3) := by decide +kernel
theorem dM_back_37 : decode cM_back 37 = .ok (.aload_n 0, 1) := by decide +kernel
theorem dM_back_38 : decode cM_back 38 = .ok (.getfield 7, 3) := by decide +kernel
theorem dM_back_41 : decode cM_back 41 = .ok (.iload_n 3, 1) := by decide +kernel
theorem dM_back_42 : decode cM_back 42 = .ok (.aload_n 0, 1) := by decide +kernel
theorem dM_back_43 : decode cM_back 43 = .ok (.getfield 43, 3) := by decide +kernel
theorem dM_back_46 : decode cM_back 46 = .ok (.sipush 4000, 3) := by decide +kernel
theorem dM_back_49 : decode cM_back 49 = .ok (.iload_n 1, 1) := by decide +kernel
theorem dM_back_50 : decode cM_back 50 = .ok (.imul, 1) := by decide +kernel
theorem dM_back_51 : decode cM_back 51 = .ok (.iload_n 3, 1) := by decide +kernel
theorem dM_back_52 : decode cM_back 52 = .ok (.iadd, 1) := by decide +kernel
theorem dM_back_53 : decode cM_back 53 = .ok (.laload, 1) := by decide +kernel
theorem dM_back_54 : decode cM_back 54 = .ok (.lastore, 1) := by decide +kernel
theorem dM_back_55 : decode cM_back 55 = .ok (.iinc 3 1, 3) := by decide +kernel
theorem dM_back_58 : decode cM_back 58 = .ok (.goto (-31), 3) := by decide +kernel
theorem dM_back_61 : decode cM_back 61 = .ok (.aload_n 0, 1) := by decide +kernel
theorem dM_back_62 : decode cM_back 62 = .ok (.iload_n 1, 1) := by decide +kernel
theorem dM_back_63 : decode cM_back 63 = .ok (.iconst 1, 1) := by decide +kernel
theorem dM_back_64 : decode cM_back 64 = .ok (.iadd, 1) := by decide +kernel
theorem dM_back_65 : decode cM_back 65 = .ok (.putfield 105, 3) := by decide +kernel
theorem dM_back_68 : decode cM_back 68 = .ok (.iload_n 2, 1) := by decide +kernel
theorem dM_back_69 : decode cM_back 69 = .ok (.ireturn, 1) := by decide +kernel
theorem dM_changed_0 : decode cM_changed 0 = .ok (.aload_n 0, 1) := by decide +kernel
theorem dM_changed_1 : decode cM_changed 1 = .ok (.iconst 0, 1) := by decide +kernel
theorem dM_changed_2 : decode cM_changed 2 = .ok (.putfield 49, 3) := by decide +kernel
theorem dM_changed_5 : decode cM_changed 5 = .ok (.iload_n 1, 1) := by decide +kernel
theorem dM_changed_6 : decode cM_changed 6 = .ok (.ifCond .lt 11, 3) := by decide +kernel
theorem dM_changed_9 : decode cM_changed 9 = .ok (.iload_n 1, 1) := by decide +kernel
theorem dM_changed_10 : decode cM_changed 10 = .ok (.aload_n 0, 1) := by decide +kernel
theorem dM_changed_11 : decode cM_changed 11 = .ok (.getfield 105, 3) := by decide +kernel
theorem dM_changed_14 : decode cM_changed 14 = .ok (.if_icmp .lt 7, 3) := by decide +kernel
theorem dM_changed_17 : decode cM_changed 17 = .ok (.iconst (-1), 1) := by decide +kernel
theorem dM_changed_18 : decode cM_changed 18 = .ok (.goto 8, 3) := by decide +kernel
theorem dM_changed_21 : decode cM_changed 21 = .ok (.aload_n 0, 1) := by decide +kernel
theorem dM_changed_22 : decode cM_changed 22 = .ok (.iload_n 1, 1) := by decide +kernel
theorem dM_changed_23 : decode cM_changed 23 = .ok (.invokevirtual 108, 3) := by decide +kernel
theorem dM_changed_26 : decode cM_changed 26 = .ok (.ireturn, 1) := by decide +kernel
end
section
theorem dN_init_0 : decode cN_init 0 = .ok (.aload_n 0, 1) := by decide +kernel
theorem dN_init_1 : decode cN_init 1 = .ok (.invokespecial 3, 3) := by decide +kernel
theorem dN_init_4 : decode cN_init 4 = .ok (.aload_n 0, 1) := by decide +kernel
theorem dN_init_5 : decode cN_init 5 = .ok (.sipush 4000, 3) := by decide +kernel
theorem dN_init_8 : decode cN_init 8 = .ok (.newarray .long, 2) := by decide +kernel
theorem dN_init_10 : decode cN_init 10 = .ok (.putfield 9, 3) := by decide +kernel
theorem dN_init_13 : decode cN_init 13 = .ok (.aload_n 0, 1) := by decide +kernel
theorem dN_init_14 : decode cN_init 14 = .ok (.iconst 0, 1) := by decide +kernel
theorem dN_init_15 : decode cN_init 15 = .ok (.putfield 15, 3) := by decide +kernel
theorem dN_init_18 : decode cN_init 18 = .ok (.return_, 1) := by decide +kernel
theorem dN_remember_0 : decode cN_remember 0 = .ok (.aload_n 0, 1) := by decide +kernel
theorem dN_remember_1 : decode cN_remember 1 = .ok (.iload_n 2, 1) := by decide +kernel
theorem dN_remember_2 : decode cN_remember 2 = .ok (.putfield 15, 3) := by decide +kernel
theorem dN_remember_5 : decode cN_remember 5 = .ok (.aload_n 1, 1) := by decide +kernel
theorem dN_remember_6 : decode cN_remember 6 = .ok (.iconst 0, 1) := by decide +kernel
theorem dN_remember_7 : decode cN_remember 7 = .ok (.aload_n 0, 1) := by decide +kernel
theorem dN_remember_8 : decode cN_remember 8 = .ok (.getfield 9, 3) := by decide +kernel
theorem dN_remember_11 : decode cN_remember 11 = .ok (.iconst 0, 1) := by decide +kernel
theorem dN_remember_12 : decode cN_remember 12 = .ok (.aload_n 0, 1) := by decide +kernel
theorem dN_remember_13 : decode cN_remember 13 = .ok (.getfield 15, 3) := by decide +kernel
theorem dN_remember_16 : decode cN_remember 16 = .ok (.invokestatic 19, 3) := by decide +kernel
theorem dN_remember_19 : decode cN_remember 19 = .ok (.return_, 1) := by decide +kernel
theorem dN_differences_0 : decode cN_differences 0 = .ok (.iconst 0, 1) := by decide +kernel
theorem dN_differences_1 : decode cN_differences 1 = .ok (.istore_n 2, 1) := by decide +kernel
theorem dN_differences_2 : decode cN_differences 2 = .ok (.iconst 0, 1) := by decide +kernel
theorem dN_differences_3 : decode cN_differences 3 = .ok (.istore_n 3, 1) := by decide +kernel
theorem dN_differences_4 : decode cN_differences 4 = .ok (.iload_n 3, 1) := by decide +kernel
theorem dN_differences_5 : decode cN_differences 5 = .ok (.aload_n 0, 1) := by decide +kernel
theorem dN_differences_6 : decode cN_differences 6 = .ok (.getfield 15, 3) := by decide +kernel
theorem dN_differences_9 : decode cN_differences 9 = .ok (.if_icmp .ge 25, 3) := by decide +kernel
theorem dN_differences_12 : decode cN_differences 12 = .ok (.aload_n 1, 1) := by decide +kernel
theorem dN_differences_13 : decode cN_differences 13 = .ok (.iload_n 3, 1) := by decide +kernel
theorem dN_differences_14 : decode cN_differences 14 = .ok (.laload, 1) := by decide +kernel
theorem dN_differences_15 : decode cN_differences 15 = .ok (.aload_n 0, 1) := by decide +kernel
theorem dN_differences_16 : decode cN_differences 16 = .ok (.getfield 9, 3) := by decide +kernel
theorem dN_differences_19 : decode cN_differences 19 = .ok (.iload_n 3, 1) := by decide +kernel
theorem dN_differences_20 : decode cN_differences 20 = .ok (.laload, 1) := by decide +kernel
theorem dN_differences_21 : decode cN_differences 21 = .ok (.lcmp, 1) := by decide +kernel
theorem dN_differences_22 : decode cN_differences 22 = .ok (.ifCond .eq 6, 3) := by decide +kernel
theorem dN_differences_25 : decode cN_differences 25 = .ok (.iinc 2 1, 3) := by decide +kernel
theorem dN_differences_28 : decode cN_differences 28 = .ok (.iinc 3 1, 3) := by decide +kernel
theorem dN_differences_31 : decode cN_differences 31 = .ok (.goto (-27), 3) := by decide +kernel
theorem dN_differences_34 : decode cN_differences 34 = .ok (.iload_n 2, 1) := by decide +kernel
theorem dN_differences_35 : decode cN_differences 35 = .ok (.ireturn, 1) := by decide +kernel
theorem dN_restore_0 : decode cN_restore 0 = .ok (.aload_n 0, 1) := by decide +kernel
theorem dN_restore_1 : decode cN_restore 1 = .ok (.getfield 9, 3) := by decide +kernel
theorem dN_restore_4 : decode cN_restore 4 = .ok (.iconst 0, 1) := by decide +kernel
theorem dN_restore_5 : decode cN_restore 5 = .ok (.aload_n 1, 1) := by decide +kernel
theorem dN_restore_6 : decode cN_restore 6 = .ok (.iconst 0, 1) := by decide +kernel
theorem dN_restore_7 : decode cN_restore 7 = .ok (.aload_n 0, 1) := by decide +kernel
theorem dN_restore_8 : decode cN_restore 8 = .ok (.getfield 15, 3) := by decide +kernel
theorem dN_restore_11 : decode cN_restore 11 = .ok (.invokestatic 19, 3) := by decide +kernel
theorem dN_restore_14 : decode cN_restore 14 = .ok (.return_, 1) := by decide +kernel
theorem dS_init_0 : decode cS_init 0 = .ok (.aload_n 0, 1) := by decide +kernel
theorem dS_init_1 : decode cS_init 1 = .ok (.invokespecial 1, 3) := by decide +kernel
theorem dS_init_4 : decode cS_init 4 = .ok (.aload_n 0, 1) := by decide +kernel
theorem dS_init_5 : decode cS_init 5 = .ok (.iload_n 1, 1) := by decide +kernel
theorem dS_init_6 : decode cS_init 6 = .ok (.putfield 7, 3) := by decide +kernel
theorem dS_init_9 : decode cS_init 9 = .ok (.aload_n 0, 1) := by decide +kernel
theorem dS_init_10 : decode cS_init 10 = .ok (.iload_n 2, 1) := by decide +kernel
theorem dS_init_11 : decode cS_init 11 = .ok (.putfield 13, 3) := by decide +kernel
theorem dS_init_14 : decode cS_init 14 = .ok (.aload_n 0, 1) := by decide +kernel
theorem dS_init_15 : decode cS_init 15 = .ok (.iload_n 3, 1) := by decide +kernel
theorem dS_init_16 : decode cS_init 16 = .ok (.putfield 16, 3) := by decide +kernel
theorem dS_init_19 : decode cS_init 19 = .ok (.aload_n 0, 1) := by decide +kernel
theorem dS_init_20 : decode cS_init 20 = .ok (.iload 4, 2) := by decide +kernel
theorem dS_init_22 : decode cS_init 22 = .ok (.putfield 19, 3) := by decide +kernel
theorem dS_init_25 : decode cS_init 25 = .ok (.return_, 1) := by decide +kernel
theorem dS_indexOfByte_0 : decode cS_indexOfByte 0 = .ok (.aload_n 0, 1) := by decide +kernel
theorem dS_indexOfByte_1 : decode cS_indexOfByte 1 = .ok (.getfield 19, 3) := by decide +kernel
theorem dS_indexOfByte_4 : decode cS_indexOfByte 4 = .ok (.ifCond .eq 19, 3) := by decide +kernel
theorem dS_indexOfByte_7 : decode cS_indexOfByte 7 = .ok (.aload_n 0, 1) := by decide +kernel
theorem dS_indexOfByte_8 : decode cS_indexOfByte 8 = .ok (.getfield 13, 3) := by decide +kernel
theorem dS_indexOfByte_11 : decode cS_indexOfByte 11 = .ok (.aload_n 0, 1) := by decide +kernel
theorem dS_indexOfByte_12 : decode cS_indexOfByte 12 = .ok (.getfield 16, 3) := by decide +kernel
theorem dS_indexOfByte_15 : decode cS_indexOfByte 15 = .ok (.iadd, 1) := by decide +kernel
theorem dS_indexOfByte_16 : decode cS_indexOfByte 16 = .ok (.iconst 1, 1) := by decide +kernel
theorem dS_indexOfByte_17 : decode cS_indexOfByte 17 = .ok (.isub, 1) := by decide +kernel
theorem dS_indexOfByte_18 : decode cS_indexOfByte 18 = .ok (.iload_n 1, 1) := by decide +kernel
theorem dS_indexOfByte_19 : decode cS_indexOfByte 19 = .ok (.isub, 1) := by decide +kernel
theorem dS_indexOfByte_20 : decode cS_indexOfByte 20 = .ok (.goto 9, 3) := by decide +kernel
theorem dS_indexOfByte_23 : decode cS_indexOfByte 23 = .ok (.aload_n 0, 1) := by decide +kernel
theorem dS_indexOfByte_24 : decode cS_indexOfByte 24 = .ok (.getfield 13, 3) := by decide +kernel
theorem dS_indexOfByte_27 : decode cS_indexOfByte 27 = .ok (.iload_n 1, 1) := by decide +kernel
theorem dS_indexOfByte_28 : decode cS_indexOfByte 28 = .ok (.iadd, 1) := by decide +kernel
theorem dS_indexOfByte_29 : decode cS_indexOfByte 29 = .ok (.ireturn, 1) := by decide +kernel
theorem dS_overlaps_0 : decode cS_overlaps 0 = .ok (.aload_n 0, 1) := by decide +kernel
theorem dS_overlaps_1 : decode cS_overlaps 1 = .ok (.getfield 13, 3) := by decide +kernel
theorem dS_overlaps_4 : decode cS_overlaps 4 = .ok (.aload_n 1, 1) := by decide +kernel
theorem dS_overlaps_5 : decode cS_overlaps 5 = .ok (.getfield 13, 3) := by decide +kernel
theorem dS_overlaps_8 : decode cS_overlaps 8 = .ok (.aload_n 1, 1) := by decide +kernel
theorem dS_overlaps_9 : decode cS_overlaps 9 = .ok (.getfield 16, 3) := by decide +kernel
theorem dS_overlaps_12 : decode cS_overlaps 12 = .ok (.iadd, 1) := by decide +kernel
theorem dS_overlaps_13 : decode cS_overlaps 13 = .ok (.if_icmp .ge 23, 3) := by decide +kernel
theorem dS_overlaps_16 : decode cS_overlaps 16 = .ok (.aload_n 1, 1) := by decide +kernel
theorem dS_overlaps_17 : decode cS_overlaps 17 = .ok (.getfield 13, 3) := by decide +kernel
theorem dS_overlaps_20 : decode cS_overlaps 20 = .ok (.aload_n 0, 1) := by decide +kernel
theorem dS_overlaps_21 : decode cS_overlaps 21 = .ok (.getfield 13, 3) := by decide +kernel
theorem dS_overlaps_24 : decode cS_overlaps 24 = .ok (.aload_n 0, 1) := by decide +kernel
theorem dS_overlaps_25 : decode cS_overlaps 25 = .ok (.getfield 16, 3) := by decide +kernel
theorem dS_overlaps_28 : decode cS_overlaps 28 = .ok (.iadd, 1) := by decide +kernel
theorem dS_overlaps_29 : decode cS_overlaps 29 = .ok (.if_icmp .ge 7, 3) := by decide +kernel
theorem dS_overlaps_32 : decode cS_overlaps 32 = .ok (.iconst 1, 1) := by decide +kernel
theorem dS_overlaps_33 : decode cS_overlaps 33 = .ok (.goto 4, 3) := by decide +kernel
theorem dS_overlaps_36 : decode cS_overlaps 36 = .ok (.iconst 0, 1) := by decide +kernel
theorem dS_overlaps_37 : decode cS_overlaps 37 = .ok (.ireturn, 1) := by decide +kernel
theorem dT_init_0 : decode cT_init 0 = .ok (.aload_n 0, 1) := by decide +kernel
theorem dT_init_1 : decode cT_init 1 = .ok (.invokespecial 1, 3) := by decide +kernel
theorem dT_init_4 : decode cT_init 4 = .ok (.aload_n 0, 1) := by decide +kernel
theorem dT_init_5 : decode cT_init 5 = .ok (.iload_n 1, 1) := by decide +kernel
theorem dT_init_6 : decode cT_init 6 = .ok (.putfield 7, 3) := by decide +kernel
theorem dT_init_9 : decode cT_init 9 = .ok (.aload_n 0, 1) := by decide +kernel
theorem dT_init_10 : decode cT_init 10 = .ok (.iload_n 2, 1) := by decide +kernel
theorem dT_init_11 : decode cT_init 11 = .ok (.putfield 13, 3) := by decide +kernel
theorem dT_init_14 : decode cT_init 14 = .ok (.aload_n 0, 1) := by decide +kernel
theorem dT_init_15 : decode cT_init 15 = .ok (.iload_n 3, 1) := by decide +kernel
theorem dT_init_16 : decode cT_init 16 = .ok (.putfield 16, 3) := by decide +kernel
theorem dT_init_19 : decode cT_init 19 = .ok (.return_, 1) := by decide +kernel
theorem dT_holds_0 : decode cT_holds 0 = .ok (.iload_n 1, 1) := by decide +kernel
theorem dT_holds_1 : decode cT_holds 1 = .ok (.ifCond .lt 29, 3) := by decide +kernel
theorem dT_holds_4 : decode cT_holds 4 = .ok (.iload_n 2, 1) := by decide +kernel
theorem dT_holds_5 : decode cT_holds 5 = .ok (.ifCond .lt 25, 3) := by decide +kernel
theorem dT_holds_8 : decode cT_holds 8 = .ok (.iload_n 1, 1) := by decide +kernel
theorem dT_holds_9 : decode cT_holds 9 = .ok (.aload_n 0, 1) := by decide +kernel
theorem dT_holds_10 : decode cT_holds 10 = .ok (.getfield 16, 3) := by decide +kernel
theorem dT_holds_13 : decode cT_holds 13 = .ok (.if_icmp .gt 17, 3) := by decide +kernel
theorem dT_holds_16 : decode cT_holds 16 = .ok (.iload_n 2, 1) := by decide +kernel
theorem dT_holds_17 : decode cT_holds 17 = .ok (.aload_n 0, 1) := by decide +kernel
theorem dT_holds_18 : decode cT_holds 18 = .ok (.getfield 16, 3) := by decide +kernel
theorem dT_holds_21 : decode cT_holds 21 = .ok (.iload_n 1, 1) := by decide +kernel
theorem dT_holds_22 : decode cT_holds 22 = .ok (.isub, 1) := by decide +kernel
theorem dT_holds_23 : decode cT_holds 23 = .ok (.if_icmp .gt 7, 3) := by decide +kernel
theorem dT_holds_26 : decode cT_holds 26 = .ok (.iconst 1, 1) := by decide +kernel
theorem dT_holds_27 : decode cT_holds 27 = .ok (.goto 4, 3) := by decide +kernel
theorem dT_holds_30 : decode cT_holds 30 = .ok (.iconst 0, 1) := by decide +kernel
theorem dT_holds_31 : decode cT_holds 31 = .ok (.ireturn, 1) := by decide +kernel
end
section
/-! ## Worlds as maps: a world is a function from addresses to cells; kit rows restated over it -/
abbrev mp_M : Type := Nat → Option va_E
def mp_up (M : mp_M) (a : Nat) (e : va_E) : mp_M := fun q => if q = a then some e else M q
theorem mp_up_s (M : mp_M) (a : Nat) (e : va_E) : mp_up M a e a = some e := if_pos rfl
theorem mp_up_n {M : mp_M} {a q : Nat} {e : va_E} (h : q ≠ a) : mp_up M a e q = M q := if_neg h
theorem mp_ne {M : mp_M} {a b : Nat} {x y : va_E} (ha : M a = some x) (hb : M b = some y) (h : x ≠ y) : a ≠ b := fun q => h (by rw [q, hb] at ha; exact (Option.some.inj ha).symm)
def mp_w (M : mp_M) (ws : va_W) : Prop := ∀ (a : Nat) (e : va_E), M a = some e ↔ (a, e) ∈ ws
def mp_P (D : va_G) (cl : List vw_C) (A : Nat → Prop) (M : mp_M) (H : Heap) : Prop := ∃ ws : va_W, va_P D cl ws H ∧ va_D A ws ∧ mp_w M ws
/-- what the tables say, beside the classes: the nest's own constructor, the arrays of own classes -/
def mp_K (D : va_G) (cl : List vw_C) (tys : List (ClassId × FieldType)) (U : State) : Prop := va_K D cl tys U ∧ va_Nw (.methodLinkNest "PlaceDesk" 129 yN_init "PlaceDesk") U ∧ va_AO "PlaceDesk$Thing" U ∧ va_AO "PlaceDesk$Spot" U ∧ va_AO "PlaceDesk$Snapshot" U
theorem mp_K.warm {D : va_G} {cl : List vw_C} {tys : List (ClassId × FieldType)} {s U : State} (hW : s.WarmedH U.vm) (h : mp_K D cl tys s) : mp_K D cl tys U :=
  ⟨va_K.moved hW.alike h.1, va_Nw.warmM hW h.2.1, va_AO.moved hW.alike h.2.2.1, va_AO.moved hW.alike h.2.2.2.1, va_AO.moved hW.alike h.2.2.2.2⟩
def mp_I (D : va_G) (cl : List vw_C) (tys : List (ClassId × FieldType)) (s : State) (A : Nat → Prop) (H0 H : Heap) (locs : List Loc) (M : mp_M) : Prop :=
  mp_K D cl tys s ∧ mp_P D cl A M H ∧ va_S A H0 H locs ∧ ∀ q, H0.size ≤ q → A q
theorem mp_w.at {M : mp_M} {ws : va_W} (hw : mp_w M ws) {a : Nat} {e : va_E} (h : M a = some e) : ∃ k : Nat, ws[k]? = some (a, e) := List.getElem?_of_mem ((hw a e).mp h)
theorem mp_w.set {M : mp_M} {ws : va_W} {A : Nat → Prop} (hw : mp_w M ws) (hD : va_D A ws) {k a : Nat} {e0 e : va_E} (hk : ws[k]? = some (a, e0)) : mp_w (mp_up M a e) (ws.set k (a, e)) := by
  intro b x
  have hl := (List.getElem?_eq_some_iff.mp hk).1
  by_cases hb : b = a
  · subst hb
    rw [mp_up_s]
    constructor
    · intro h
      cases h
      exact List.mem_of_getElem? (List.getElem?_set_self hl)
    · intro h
      obtain ⟨j, hj⟩ := List.getElem?_of_mem h
      by_cases hjk : j = k
      · subst hjk
        rw [List.getElem?_set_self hl] at hj
        cases hj
        rfl
      · rw [List.getElem?_set_ne (Ne.symm hjk)] at hj
        exact absurd (hD.1 j k _ _ hj hk rfl) hjk
  · rw [mp_up_n hb, hw]
    constructor
    · intro h
      obtain ⟨j, hj⟩ := List.getElem?_of_mem h
      have hjk : j ≠ k := fun z => by
        subst z
        rw [hk] at hj
        cases hj
        exact hb rfl
      exact List.mem_of_getElem? (i := j) (by rw [List.getElem?_set_ne (Ne.symm hjk)]; exact hj)
    · intro h
      obtain ⟨j, hj⟩ := List.getElem?_of_mem h
      by_cases hjk : j = k
      · subst hjk
        rw [List.getElem?_set_self hl] at hj
        cases hj
        exact absurd rfl hb
      · rw [List.getElem?_set_ne (Ne.symm hjk)] at hj
        exact List.mem_of_getElem? hj
theorem mp_w.push {M : mp_M} {ws : va_W} {A : Nat → Prop} {q : Nat} {e : va_E} (hw : mp_w M ws) (hD : va_D A (ws ++ [(q, e)])) : mp_w (mp_up M q e) (ws ++ [(q, e)]) := by
  intro b x
  by_cases hb : b = q
  · subst hb
    rw [mp_up_s]
    constructor
    · intro h
      cases h
      exact List.mem_append_right _ (List.mem_singleton.mpr rfl)
    · intro h
      rcases List.mem_append.mp h with h | h
      · obtain ⟨j, hj⟩ := List.getElem?_of_mem h
        have hl := (List.getElem?_eq_some_iff.mp hj).1
        have h2 := hD.1 j ws.length (b, x) (b, e) (by rw [List.getElem?_append_left hl]; exact hj) (by rw [List.getElem?_append_right (Nat.le_refl _), Nat.sub_self]; rfl) rfl
        omega
      · cases List.mem_singleton.mp h
        rfl
  · rw [mp_up_n hb, hw]
    constructor
    · exact fun h => List.mem_append_left _ h
    · intro h
      rcases List.mem_append.mp h with h | h
      · exact h
      · cases List.mem_singleton.mp h
        exact absurd rfl hb
theorem mp_w.fresh {M : mp_M} {ws : va_W} {A : Nat → Prop} {q : Nat} {e : va_E} (hw : mp_w M ws) (hD : va_D A (ws ++ [(q, e)])) : M q = none := by
  cases h : M q with
  | none => rfl
  | some x =>
    obtain ⟨j, hj⟩ := hw.at h
    have hl := (List.getElem?_eq_some_iff.mp hj).1
    have h2 := hD.1 j ws.length (q, x) (q, e) (by rw [List.getElem?_append_left hl]; exact hj) (by rw [List.getElem?_append_right (Nat.le_refl _), Nat.sub_self]; rfl) rfl
    omega
theorem mp_P.lt {D : va_G} {cl : List vw_C} {A : Nat → Prop} {M : mp_M} {H : Heap} (h : mp_P D cl A M H) {a : Nat} {e : va_E} (ha : M a = some e) : a < H.size := by
  obtain ⟨ws, hP, -, hw⟩ := h
  obtain ⟨k, hk⟩ := hw.at ha
  exact (hP k _ hk).lt
theorem mp_P.in {D : va_G} {cl : List vw_C} {A : Nat → Prop} {M : mp_M} {H : Heap} (h : mp_P D cl A M H) {a : Nat} {e : va_E} (ha : M a = some e) : A a := by
  obtain ⟨ws, -, hD, hw⟩ := h
  obtain ⟨k, hk⟩ := hw.at ha
  exact hD.2 k _ hk
theorem mp_P.kept {D : va_G} {cl : List vw_C} {A : Nat → Prop} {M : mp_M} {H H1 : Heap} (h : mp_P D cl A M H) (hq : ∀ a e, M a = some e → H1[a]? = H[a]?) : mp_P D cl A M H1 := by
  obtain ⟨ws, hP, hD, hw⟩ := h
  exact ⟨ws, hP.kept (fun k q hk => hq q.1 q.2 ((hw _ _).mpr (List.mem_of_getElem? hk))), hD, hw⟩
theorem mp_P.weaken {D : va_G} {cl : List vw_C} {A B : Nat → Prop} {M : mp_M} {H : Heap} (h : mp_P D cl A M H) (hAB : ∀ a e, M a = some e → A a → B a) : mp_P D cl B M H := by
  obtain ⟨ws, hP, hD, hw⟩ := h
  exact ⟨ws, hP, hD.weaken (fun k q hk => hAB q.1 q.2 ((hw _ _).mpr (List.mem_of_getElem? hk))), hw⟩
/-- which cells a method with the world M may change: M's own, and those that it makes -/
def mp_A (M : mp_M) (sz : Nat) : Nat → Prop := fun q => (∃ e, M q = some e) ∨ sz ≤ q
/-- a method's start and end over a map -/
def mp_B (D : va_G) (cl : List vw_C) (tys : List (ClassId × FieldType)) (M0 : mp_M) (sz : Nat) (M : mp_M) (t : State) : Prop := mp_P D cl (mp_A M0 sz) M t.heap ∧ mp_K D cl tys t
def mp_Pc (D : va_G) (cl : List vw_C) (tys : List (ClassId × FieldType)) (av : List Value) (M : mp_M) (sz : Nat) : Array Value → State → Prop :=
  va_Pc av (fun U => U.heap.size = sz ∧ mp_P D cl (fun _ => True) M U.heap ∧ mp_K D cl tys U)
theorem mp_blind {D : va_G} {cl : List vw_C} {tys : List (ClassId × FieldType)} {av : List Value} {M : mp_M} {sz : Nat} : FrameBlind (mp_Pc D cl tys av M sz) := fun a U g mk q => by
  obtain ⟨q0, q1, qP, qK⟩ := q
  exact ⟨q0, q1, qP, mp_K.warm (s := U) (U := U.calling g mk a) (State.WarmedH.refl U) qK⟩
/-- at a method's entry -/
theorem mp_I.start {D : va_G} {cl : List vw_C} {tys : List (ClassId × FieldType)} {s : State} {M : mp_M} (hK : mp_K D cl tys s) (hP : mp_P D cl (fun _ => True) M s.heap) : mp_I D cl tys s (mp_A M s.heap.size) s.heap s.heap [] M :=
  ⟨hK, hP.weaken (fun _ e h _ => Or.inl ⟨e, h⟩), va_S.rf, fun _ h => Or.inr h⟩
theorem mp_I.lt {D : va_G} {cl : List vw_C} {tys : List (ClassId × FieldType)} {s : State} {A : Nat → Prop} {H0 H : Heap} {locs : List Loc} {M : mp_M} (I : mp_I D cl tys s A H0 H locs M) {a : Nat} {e : va_E} (ha : M a = some e) : a < H.size := I.2.1.lt ha
section MPW
variable {p : Program} {l : Launch} {e : Env} {R : Room} {s : State} {m : MethodId} {args : Array Value} {below : List Frame} {meth : Method} {c : Code} {H : Heap} {locs : List Loc} {cells slots : Nat} {Q : State → Prop}
variable {cc : ByteArray} {pc : Nat} {ls : Array Slot} {rest : List Value} {D : va_G} {cl : List vw_C} {A : Nat → Prop} {a : Nat} {tys : List (ClassId × FieldType)} {H0 : Heap} {M : mp_M}
theorem mp_get (hexec : p.tables.exec = Jvm.exec) (hb : c.code = cc) {own ref C : String} {T : u_T} {N ci index : Nat} {Ts : List Cond} (hts : ∀ w ∈ Ts, w.before args s = true) (hin : ∀ w ∈ u_ws C T N, w ∈ Ts) (hown : s.vm.findClass own = some m.cls) (I : mp_I D cl tys s A H0 H locs M) {fs : List Value} (hM : M a = some (.inr (ci, fs))) (hc : cl[ci]? = some (C, T, N)) (k : Nat) (hk : k < N) (hlink : (Cond.fieldLink own index ref (T k).2.1 (T k).2.2.1).before args s = true) (hsame : ∀ x, s.fieldFound? (T k).1 (T k).2.1 (T k).2.2.1 = some x → s.fieldFound? ref (T k).2.1 (T k).2.2.1 = some x) {v : Value} (hv : fs[k]? = some v) (hdg : decode cc pc = .ok (.getfield index, 3))
    (kk : W p l e R s m args below meth c H locs cells slots Q (F0 m (pc + 3) ls (v :: rest))) : W p l e R s m args below meth c H locs cells slots Q (F0 m pc ls (.ref a :: rest)) := by
  obtain ⟨hK, ⟨ws, hP, hD, hw⟩, hS, hA⟩ := I
  obtain ⟨q0, he⟩ := hw.at hM
  exact va_get hexec hb hts hin hown hK.1 hP q0 he hc k hk hlink hsame hv hdg kk
theorem mp_put (hexec : p.tables.exec = Jvm.exec) (hb : c.code = cc) {own ref C : String} {T : u_T} {N ci index : Nat} {Ts : List Cond} (hts : ∀ w ∈ Ts, w.before args s = true) (hin : ∀ w ∈ u_ws C T N, w ∈ Ts) (ty0 : Nat → FieldType) (hty : ∀ k, k < N → parseFieldDescriptor (T k).2.2.1 = some (ty0 k)) (hnm : ∀ a, a < N → ∀ b, b < N → a ≠ b → (T a).2.1 ≠ (T b).2.1) (hown : s.vm.findClass own = some m.cls) (I : mp_I D cl tys s A H0 H locs M) {fs : List Value} (hM : M a = some (.inr (ci, fs))) (hc : cl[ci]? = some (C, T, N)) (k : Nat) (hk : k < N) (hlink : (Cond.fieldLink own index ref (T k).2.1 (T k).2.2.1).before args s = true) (hsame : ∀ x, s.fieldFound? (T k).1 (T k).2.1 (T k).2.2.1 = some x → s.fieldFound? ref (T k).2.1 (T k).2.2.1 = some x) (hfin : (T k).2.2.2 = false) {ty : FieldType} {v : Value} (hd : parseFieldDescriptor (T k).2.2.1 = some ty) (hn : narrow ty v = v) (hfit : fits ty v = true) (hl : k < fs.length) (hdg : decode cc pc = .ok (.putfield index, 3))
    (kk : ∀ (H1 : Heap) (locs1 : List Loc), mp_I D cl tys s A H0 H1 locs1 (mp_up M a (.inr (ci, fs.set k v))) → W p l e R s m args below meth c H1 locs1 cells slots Q (F0 m (pc + 3) ls rest)) : W p l e R s m args below meth c H locs cells slots Q (F0 m pc ls (v :: .ref a :: rest)) := by
  obtain ⟨hK, ⟨ws, hP, hD, hw⟩, hS, hA⟩ := I
  obtain ⟨q0, he⟩ := hw.at hM
  exact va_put hexec hb hts hin ty0 hty hnm hown hK.1 hP hD hS q0 he hc k hk hlink hsame hfin hd hn hfit hl hdg (fun H1 locs1 hP1 hD1 hS1 => kk H1 locs1 ⟨hK, ⟨_, hP1, hD1, hw.set hD he⟩, hS1, hA⟩)
theorem mp_putF (hexec : p.tables.exec = Jvm.exec) (hb : c.code = cc) {own ref C : String} {T : u_T} {N ci index : Nat} {Ts : List Cond} (hts : ∀ w ∈ Ts, w.before args s = true) (hin : ∀ w ∈ u_ws C T N, w ∈ Ts) (ty0 : Nat → FieldType) (hty : ∀ k, k < N → parseFieldDescriptor (T k).2.2.1 = some (ty0 k)) (hnm : ∀ a, a < N → ∀ b, b < N → a ≠ b → (T a).2.1 ≠ (T b).2.1) (hown : s.vm.findClass own = some m.cls) (I : mp_I D cl tys s A H0 H locs M) {fs : List Value} (hM : M a = some (.inr (ci, fs))) (hc : cl[ci]? = some (C, T, N)) (k : Nat) (hk : k < N) (hlink : (Cond.fieldLink own index ref (T k).2.1 (T k).2.2.1).before args s = true) (hsame : ∀ x, s.fieldFound? (T k).1 (T k).2.1 (T k).2.2.1 = some x → s.fieldFound? ref (T k).2.1 (T k).2.2.1 = some x) (hfin : (T k).2.2.2 = true) (hin2 : meth.name = "<init>") (hdecl : (T k).1 = own) {ty : FieldType} {v : Value} (hd : parseFieldDescriptor (T k).2.2.1 = some ty) (hn : narrow ty v = v) (hfit : fits ty v = true) (hl : k < fs.length) (hdg : decode cc pc = .ok (.putfield index, 3))
    (kk : ∀ (H1 : Heap) (locs1 : List Loc), mp_I D cl tys s A H0 H1 locs1 (mp_up M a (.inr (ci, fs.set k v))) → W p l e R s m args below meth c H1 locs1 cells slots Q (F0 m (pc + 3) ls rest)) : W p l e R s m args below meth c H locs cells slots Q (F0 m pc ls (v :: .ref a :: rest)) := by
  obtain ⟨hK, ⟨ws, hP, hD, hw⟩, hS, hA⟩ := I
  obtain ⟨q0, he⟩ := hw.at hM
  exact va_putF hexec hb hts hin ty0 hty hnm hown hK.1 hP hD hS q0 he hc k hk hlink hsame hfin hin2 hdecl hd hn hfit hl hdg (fun H1 locs1 hP1 hD1 hS1 => kk H1 locs1 ⟨hK, ⟨_, hP1, hD1, hw.set hD he⟩, hS1, hA⟩)
theorem mp_iald (hexec : p.tables.exec = Jvm.exec) (hb : c.code = cc) (I : mp_I D cl tys s A H0 H locs M) (t0 : Nat) {cA : ClassId} {n : Nat} {f : Nat → Int32} (hM : M a = some (.inl (cA, n, .inl f))) (ht : tys[t0]? = some (cA, .int)) {i : Int32} (j : Nat) (hi : i = nI j) (hj : j < n) (hn : n < 2 ^ 31) {v : Int32} (hv : f j = v) (hdg : decode cc pc = .ok (.iaload, 1))
    (kk : W p l e R s m args below meth c H locs cells slots Q (F0 m (pc + 1) ls (.int v :: rest))) : W p l e R s m args below meth c H locs cells slots Q (F0 m pc ls (.int i :: .ref a :: rest)) := by
  obtain ⟨hK, ⟨ws, hP, hD, hw⟩, hS, hA⟩ := I
  obtain ⟨q0, he⟩ := hw.at hM
  subst hi
  exact va_iald hexec hb hK.1 hP q0 t0 he ht (vp_in_nI hj hn) hdg (by rw [nI_clamp (by omega), hv]; exact kk)
theorem mp_lald (hexec : p.tables.exec = Jvm.exec) (hb : c.code = cc) (I : mp_I D cl tys s A H0 H locs M) (t0 : Nat) {cA : ClassId} {n : Nat} {f : Nat → Int64} (hM : M a = some (.inl (cA, n, .inr (.inl f)))) (ht : tys[t0]? = some (cA, .long)) {i : Int32} (j : Nat) (hi : i = nI j) (hj : j < n) (hn : n < 2 ^ 31) {v : Int64} (hv : f j = v) (hdg : decode cc pc = .ok (.laload, 1))
    (kk : W p l e R s m args below meth c H locs cells slots Q (F0 m (pc + 1) ls (.long v :: rest))) : W p l e R s m args below meth c H locs cells slots Q (F0 m pc ls (.int i :: .ref a :: rest)) := by
  obtain ⟨hK, ⟨ws, hP, hD, hw⟩, hS, hA⟩ := I
  obtain ⟨q0, he⟩ := hw.at hM
  subst hi
  exact va_lald hexec hb hK.1 hP q0 t0 he ht (vp_in_nI hj hn) hdg (by rw [nI_clamp (by omega), hv]; exact kk)
theorem mp_zald (hexec : p.tables.exec = Jvm.exec) (hb : c.code = cc) (I : mp_I D cl tys s A H0 H locs M) (t0 : Nat) {cA : ClassId} {n : Nat} {f : Nat → Int32} (hM : M a = some (.inl (cA, n, .inl f))) (ht : tys[t0]? = some (cA, .boolean)) {i : Int32} (j : Nat) (hi : i = nI j) (hj : j < n) (hn : n < 2 ^ 31) {v : Int32} (hv : f j = v) (hdg : decode cc pc = .ok (.baload, 1))
    (kk : W p l e R s m args below meth c H locs cells slots Q (F0 m (pc + 1) ls (.int v :: rest))) : W p l e R s m args below meth c H locs cells slots Q (F0 m pc ls (.int i :: .ref a :: rest)) := by
  obtain ⟨hK, ⟨ws, hP, hD, hw⟩, hS, hA⟩ := I
  obtain ⟨q0, he⟩ := hw.at hM
  subst hi
  exact va_zald hexec hb hK.1 hP q0 t0 he ht (vp_in_nI hj hn) hdg (by rw [nI_clamp (by omega), hv]; exact kk)
theorem mp_zast (hexec : p.tables.exec = Jvm.exec) (hb : c.code = cc) (I : mp_I D cl tys s A H0 H locs M) (t0 : Nat) {cA : ClassId} {n : Nat} {f : Nat → Int32} (hM : M a = some (.inl (cA, n, .inl f))) (ht : tys[t0]? = some (cA, .boolean)) {i x : Int32} (j : Nat) (hi : i = nI j) (hj : j < n) (hn : n < 2 ^ 31) (hx : vp_nar .boolean x = x) (hdg : decode cc pc = .ok (.bastore, 1))
    (kk : ∀ (H1 : Heap) (locs1 : List Loc), mp_I D cl tys s A H0 H1 locs1 (mp_up M a (.inl (cA, n, .inl (upd f j x)))) → W p l e R s m args below meth c H1 locs1 cells slots Q (F0 m (pc + 1) ls rest)) : W p l e R s m args below meth c H locs cells slots Q (F0 m pc ls (.int x :: .int i :: .ref a :: rest)) := by
  obtain ⟨hK, ⟨ws, hP, hD, hw⟩, hS, hA⟩ := I
  obtain ⟨q0, he⟩ := hw.at hM
  subst hi
  exact va_zast hexec hb hK.1 hP hD hS q0 t0 he ht (vp_in_nI hj hn) hdg (fun H1 locs1 hP1 hD1 hS1 => kk H1 locs1 (by rw [nI_clamp (by omega), hx] at hP1 hD1; exact ⟨hK, ⟨_, hP1, hD1, hw.set hD he⟩, hS1, hA⟩))
theorem mp_aald (hexec : p.tables.exec = Jvm.exec) (hb : c.code = cc) (I : mp_I D cl tys s A H0 H locs M) (t0 : Nat) {cA : ClassId} {C : String} {n : Nat} {f : Nat → Option Nat} (hM : M a = some (.inl (cA, n, .inr (.inr (.inr (.inr f)))))) (ht : tys[t0]? = some (cA, .object C)) {i : Int32} (j : Nat) (hi : i = nI j) (hj : j < n) (hn : n < 2 ^ 31) {v : Value} (hv : va_rf (f j) = v) (hdg : decode cc pc = .ok (.aaload, 1))
    (kk : W p l e R s m args below meth c H locs cells slots Q (F0 m (pc + 1) ls (v :: rest))) : W p l e R s m args below meth c H locs cells slots Q (F0 m pc ls (.int i :: .ref a :: rest)) := by
  obtain ⟨hK, ⟨ws, hP, hD, hw⟩, hS, hA⟩ := I
  obtain ⟨q0, he⟩ := hw.at hM
  subst hi
  exact va_aldq hexec hb hK.1 hP q0 t0 he ht (vp_in_nI hj hn) hdg (by rw [nI_clamp (by omega), hv]; exact kk)
theorem mp_iast (hexec : p.tables.exec = Jvm.exec) (hb : c.code = cc) (I : mp_I D cl tys s A H0 H locs M) (t0 : Nat) {cA : ClassId} {n : Nat} {f : Nat → Int32} (hM : M a = some (.inl (cA, n, .inl f))) (ht : tys[t0]? = some (cA, .int)) {i x : Int32} (j : Nat) (hi : i = nI j) (hj : j < n) (hn : n < 2 ^ 31) (hdg : decode cc pc = .ok (.iastore, 1))
    (kk : ∀ (H1 : Heap) (locs1 : List Loc), mp_I D cl tys s A H0 H1 locs1 (mp_up M a (.inl (cA, n, .inl (upd f j x)))) → W p l e R s m args below meth c H1 locs1 cells slots Q (F0 m (pc + 1) ls rest)) : W p l e R s m args below meth c H locs cells slots Q (F0 m pc ls (.int x :: .int i :: .ref a :: rest)) := by
  obtain ⟨hK, ⟨ws, hP, hD, hw⟩, hS, hA⟩ := I
  obtain ⟨q0, he⟩ := hw.at hM
  subst hi
  exact va_iast hexec hb hK.1 hP hD hS q0 t0 he ht (vp_in_nI hj hn) hdg (fun H1 locs1 hP1 hD1 hS1 => kk H1 locs1 (by rw [nI_clamp (by omega)] at hP1 hD1; exact ⟨hK, ⟨_, hP1, hD1, hw.set hD he⟩, hS1, hA⟩))
theorem mp_last (hexec : p.tables.exec = Jvm.exec) (hb : c.code = cc) (I : mp_I D cl tys s A H0 H locs M) (t0 : Nat) {cA : ClassId} {n : Nat} {f : Nat → Int64} (hM : M a = some (.inl (cA, n, .inr (.inl f)))) (ht : tys[t0]? = some (cA, .long)) {i : Int32} {x : Int64} (j : Nat) (hi : i = nI j) (hj : j < n) (hn : n < 2 ^ 31) (hdg : decode cc pc = .ok (.lastore, 1))
    (kk : ∀ (H1 : Heap) (locs1 : List Loc), mp_I D cl tys s A H0 H1 locs1 (mp_up M a (.inl (cA, n, .inr (.inl (vp_updL f j x))))) → W p l e R s m args below meth c H1 locs1 cells slots Q (F0 m (pc + 1) ls rest)) : W p l e R s m args below meth c H locs cells slots Q (F0 m pc ls (.long x :: .int i :: .ref a :: rest)) := by
  obtain ⟨hK, ⟨ws, hP, hD, hw⟩, hS, hA⟩ := I
  obtain ⟨q0, he⟩ := hw.at hM
  subst hi
  exact va_last hexec hb hK.1 hP hD hS q0 t0 he ht (vp_in_nI hj hn) hdg (fun H1 locs1 hP1 hD1 hS1 => kk H1 locs1 (by rw [nI_clamp (by omega)] at hP1 hD1; exact ⟨hK, ⟨_, hP1, hD1, hw.set hD he⟩, hS1, hA⟩))
theorem mp_aast (hexec : p.tables.exec = Jvm.exec) (hb : c.code = cc) (I : mp_I D cl tys s A H0 H locs M) (t0 ci : Nat) {cA : ClassId} {r : vw_C} {n v : Nat} {vs : List Value} {f : Nat → Option Nat} (hM : M a = some (.inl (cA, n, .inr (.inr (.inr (.inr f)))))) (ht : tys[t0]? = some (cA, .object r.1)) (hv : M v = some (.inr (ci, vs))) (hc : cl[ci]? = some r) {i : Int32} (j : Nat) (hi : i = nI j) (hj : j < n) (hn : n < 2 ^ 31) (hdg : decode cc pc = .ok (.aastore, 1))
    (kk : ∀ (H1 : Heap) (locs1 : List Loc), mp_I D cl tys s A H0 H1 locs1 (mp_up M a (.inl (cA, n, .inr (.inr (.inr (.inr (va_up f j (some v)))))))) → W p l e R s m args below meth c H1 locs1 cells slots Q (F0 m (pc + 1) ls rest)) : W p l e R s m args below meth c H locs cells slots Q (F0 m pc ls (.ref v :: .int i :: .ref a :: rest)) := by
  obtain ⟨hK, ⟨ws, hP, hD, hw⟩, hS, hA⟩ := I
  obtain ⟨q0, he⟩ := hw.at hM
  obtain ⟨qk, hek⟩ := hw.at hv
  subst hi
  exact va_astq hexec hb hK.1 hP hD hS q0 t0 qk ci he ht hek hc (vp_in_nI hj hn) hdg (fun H1 locs1 hP1 hD1 hS1 => kk H1 locs1 (by rw [nI_clamp (by omega)] at hP1 hD1; exact ⟨hK, ⟨_, hP1, hD1, hw.set hD he⟩, hS1, hA⟩))
theorem mp_new (hexec : p.tables.exec = Jvm.exec) (hb : c.code = cc) {own C : String} {T : u_T} {N ci index : Nat} {Ts : List Cond} (hts : ∀ w ∈ Ts, w.before args s = true) (hin : ∀ w ∈ u_ws C T N, w ∈ Ts) (ty : Nat → FieldType) (hty : ∀ k, k < N → parseFieldDescriptor (T k).2.2.1 = some (ty k)) (hown : s.vm.findClass own = some m.cls) (hcl : (Cond.classLink own index C).before args s = true) (hinst : (Cond.instantiable C N).before args s = true) (hini : (Cond.initialized C).before args s = true)
    (I : mp_I D cl tys s A H0 H locs M) (hc : cl[ci]? = some (C, T, N)) {fs : List Value} (hfs : ∀ j, j < N → defaultValue (ty j) = vp_V fs j) (hcells : cells + 1 ≤ R.cells) (hslots : slots + N ≤ R.slots) (hdg : decode cc pc = .ok (.new index, 3))
    (kk : ∀ (q : Nat) (H1 : Heap), M q = none → mp_I D cl tys s A H0 H1 locs (mp_up M q (.inr (ci, fs))) → W p l e R s m args below meth c H1 locs (cells + 1) (slots + N) Q (F0 m (pc + 3) ls (.ref q :: rest))) : W p l e R s m args below meth c H locs cells slots Q (F0 m pc ls rest) := by
  obtain ⟨hK, ⟨ws, hP, hD, hw⟩, hS, hA⟩ := I
  have hKn := hK.1.1 ci _ hc
  refine W.newcK hexec hb hown hcl hinst hini rfl hdg hcells hslots hKn.2.1 rfl fun H1 kC hkC e1 z1 o1 => ?_
  have hk : ∀ (k : Nat) (x : Nat × va_E), ws[k]? = some x → H1[x.1]? = H[x.1]? := fun k x hx => o1 x.1 ((hP k x hx).lt)
  have hD1 : va_D A (ws ++ [(H.size, .inr (ci, fs))]) := hD.push hP rfl (hA _ hS.1)
  have hP1 : va_P D cl (ws ++ [(H.size, .inr (ci, fs))]) H1 := (hP.kept hk).app (fun k x hx => by
    have hz : k < 1 := (List.getElem?_eq_some_iff.mp hx).1
    rw [show k = 0 by omega] at hx
    cases hx
    exact ⟨_, hc, (u_born ty hts hin hKn hkC e1 hty).to hfs⟩)
  exact kk H.size H1 (hw.fresh hD1) ⟨hK, ⟨_, hP1, hD1, hw.push hD1⟩, ⟨Nat.le_trans hS.1 (by omega), fun x h1 h2 => (o1 x (Nat.lt_of_lt_of_le h1 hS.1)).trans (hS.2.1 x h1 h2), hS.2.2⟩, hA⟩
theorem mp_copyl (hexec : p.tables.exec = Jvm.exec) (hb : c.code = cc) (hml : c.maxLocals = ls.size) {own : String} {index : Nat} (hown : s.vm.findClass own = some m.cls) (hlink : (Cond.methodLink own index arraycopyName).before args s = true) (hnat : (Cond.native arraycopyName).before args s = true) (hstat : (Cond.static arraycopyName).before args s = true) (hini : (Cond.initialized "java/lang/System").before args s = true)
    (I : mp_I D cl tys s A H0 H locs M) (t0 : Nat) {a0 : Nat} {c0 : ClassId} {n0 n1 : Nat} {f g : Nat → Int64} (hM0 : M a0 = some (.inl (c0, n0, .inr (.inl f)))) (hM1 : M a = some (.inl (c0, n1, .inr (.inl g)))) (ht : tys[t0]? = some (c0, .long)) {x y z : Int32} (sp dp n : Nat) (hsp : x = nI sp) (hdp : y = nI dp) (hn : z = nI n) (h1 : sp + n ≤ n0) (h2 : dp + n ≤ n1) (b0 : n0 < 2 ^ 31) (b1 : n1 < 2 ^ 31)
    (hframes : 1 ≤ R.frames) (hlocals : (rest.map fun v => v.category).sum + (nativeFrameWords "java/lang/System" "arraycopy" 5 + 11) ≤ R.locals) (hdg : decode cc pc = .ok (.invokestatic index, 3))
    (kk : ∀ (H1 : Heap) (locs1 : List Loc), mp_I D cl tys s A H0 H1 locs1 (mp_up M a (.inl (c0, n1, .inr (.inl (va_cpy f g sp dp n))))) → W p l e R s m args below meth c H1 locs1 cells slots Q (F0 m (pc + 3) ls rest)) : W p l e R s m args below meth c H locs cells slots Q (F0 m pc ls (.int z :: .int y :: .ref a :: .int x :: .ref a0 :: rest)) := by
  obtain ⟨hK, ⟨ws, hP, hD, hw⟩, hS, hA⟩ := I
  obtain ⟨q0, he0⟩ := hw.at hM0
  obtain ⟨q1, he1⟩ := hw.at hM1
  subst hsp hdp hn
  have e1 := nI_clamp (n := sp) (by omega)
  have e2 := nI_clamp (n := dp) (by omega)
  have e3 := nI_clamp (n := n) (by omega)
  exact va_copyl hexec hb hml hown hlink hnat hstat hini hK.1 hP hD hS q0 q1 t0 t0 he0 he1 ht ht rfl (nI_pos (by omega)) (nI_pos (by omega)) (nI_pos (by omega)) (by rw [e1, e3]; exact h1) (by rw [e2, e3]; exact h2) (fun i _ => rfl) hframes hlocals hdg (fun H1 locs1 hP1 hD1 hS1 => kk H1 locs1 (by rw [e1, e2, e3] at hP1 hD1; exact ⟨hK, ⟨_, hP1, hD1, hw.set hD he1⟩, hS1, hA⟩))
theorem mp_copyi (hexec : p.tables.exec = Jvm.exec) (hb : c.code = cc) (hml : c.maxLocals = ls.size) {own : String} {index : Nat} (hown : s.vm.findClass own = some m.cls) (hlink : (Cond.methodLink own index arraycopyName).before args s = true) (hnat : (Cond.native arraycopyName).before args s = true) (hstat : (Cond.static arraycopyName).before args s = true) (hini : (Cond.initialized "java/lang/System").before args s = true)
    (I : mp_I D cl tys s A H0 H locs M) (t0 : Nat) {a0 : Nat} {c0 : ClassId} {n0 n1 : Nat} {f g : Nat → Int32} (hM0 : M a0 = some (.inl (c0, n0, .inl f))) (hM1 : M a = some (.inl (c0, n1, .inl g))) (ht : tys[t0]? = some (c0, .int)) {x y z : Int32} (sp dp n : Nat) (hsp : x = nI sp) (hdp : y = nI dp) (hn : z = nI n) (h1 : sp + n ≤ n0) (h2 : dp + n ≤ n1) (b0 : n0 < 2 ^ 31) (b1 : n1 < 2 ^ 31)
    (hframes : 1 ≤ R.frames) (hlocals : (rest.map fun v => v.category).sum + (nativeFrameWords "java/lang/System" "arraycopy" 5 + 11) ≤ R.locals) (hdg : decode cc pc = .ok (.invokestatic index, 3))
    (kk : ∀ (H1 : Heap) (locs1 : List Loc), mp_I D cl tys s A H0 H1 locs1 (mp_up M a (.inl (c0, n1, .inl (va_cpy f g sp dp n)))) → W p l e R s m args below meth c H1 locs1 cells slots Q (F0 m (pc + 3) ls rest)) : W p l e R s m args below meth c H locs cells slots Q (F0 m pc ls (.int z :: .int y :: .ref a :: .int x :: .ref a0 :: rest)) := by
  obtain ⟨hK, ⟨ws, hP, hD, hw⟩, hS, hA⟩ := I
  obtain ⟨q0, he0⟩ := hw.at hM0
  obtain ⟨q1, he1⟩ := hw.at hM1
  subst hsp hdp hn
  have e1 := nI_clamp (n := sp) (by omega)
  have e2 := nI_clamp (n := dp) (by omega)
  have e3 := nI_clamp (n := n) (by omega)
  exact va_copyi hexec hb hml hown hlink hnat hstat hini hK.1 hP hD hS q0 q1 t0 t0 he0 he1 ht ht rfl (nI_pos (by omega)) (nI_pos (by omega)) (nI_pos (by omega)) (by rw [e1, e3]; exact h1) (by rw [e2, e3]; exact h2) (fun i _ => rfl) hframes hlocals hdg (fun H1 locs1 hP1 hD1 hS1 => kk H1 locs1 (by rw [e1, e2, e3] at hP1 hD1; exact ⟨hK, ⟨_, hP1, hD1, hw.set hD he1⟩, hS1, hA⟩))
theorem mp_newa (hexec : p.tables.exec = Jvm.exec) (hb : c.code = cc) {atype : ArrayType} (harr : (Cond.arrayClass (newarray.typeOf atype)).before args s = true) {ty : FieldType} (hty : newarray.typeOf atype = ty) (I : mp_I D cl tys s A H0 H locs M) (t0 : Nat) {cA : ClassId} (ht : tys[t0]? = some (cA, ty)) (hprim : ∀ k, va_RA s k ty → s.vm.findClass ("[" ++ ty.toString) = some k)
    {n : Int32} {N' : Nat} {a0 : vp_A} (ha : ∀ cA : ClassId, vp_cell cA a0 = arrV cA N' (fun _ => defaultValue ty)) (hn : ¬ n < 0) (hN : n.toNatClampNeg = N') (hbytes : N' * componentBytes ty ≤ 536870912) (hcells : cells + 1 ≤ R.cells) (hslots : slots + N' ≤ R.slots) (hdg : decode cc pc = .ok (.newarray atype, 2))
    (kk : ∀ (q : Nat) (H1 : Heap), M q = none → mp_I D cl tys s A H0 H1 locs (mp_up M q (.inl (cA, a0))) → W p l e R s m args below meth c H1 locs (cells + 1) (slots + N') Q (F0 m (pc + 2) ls (.ref q :: rest))) : W p l e R s m args below meth c H locs cells slots Q (F0 m pc ls (.int n :: rest)) := by
  obtain ⟨hK, ⟨ws, hP, hD, hw⟩, hS, hA⟩ := I
  subst hty
  refine va_newaK hexec hb harr rfl hdg rfl hn hN hbytes hcells hslots rfl fun H1 cB e1 z1 o1 hAr hNm => ?_
  have hcc : cB = cA := Option.some.inj (hNm.symm.trans (hprim cA (hK.1.2 t0 _ ht).2))
  subst hcc
  have hk : ∀ (k : Nat) (x : Nat × va_E), ws[k]? = some x → H1[x.1]? = H[x.1]? := fun k x hx => o1 x.1 ((hP k x hx).lt)
  have hD1 : va_D A (ws ++ [(H.size, .inl (cB, a0))]) := hD.push hP rfl (hA _ hS.1)
  have hP1 : va_P D cl (ws ++ [(H.size, .inl (cB, a0))]) H1 := (hP.kept hk).app (fun k x hx => by
    have hz : k < 1 := (List.getElem?_eq_some_iff.mp hx).1
    rw [show k = 0 by omega] at hx
    cases hx
    show H1[H.size]? = some (vp_cell _ _)
    rw [ha]
    exact e1)
  exact kk H.size H1 (hw.fresh hD1) ⟨hK, ⟨_, hP1, hD1, hw.push hD1⟩, ⟨Nat.le_trans hS.1 (by omega), fun x h1 h2 => (o1 x (Nat.lt_of_lt_of_le h1 hS.1)).trans (hS.2.1 x h1 h2), hS.2.2⟩, hA⟩
theorem mp_newq (hexec : p.tables.exec = Jvm.exec) (hb : c.code = cc) {own C : String} {index : Nat} (hown : s.vm.findClass own = some m.cls) (hclink : (Cond.classLink own index C).before args s = true) (hover : va_AO C s) (I : mp_I D cl tys s A H0 H locs M) (t0 : Nat) {cA : ClassId} (ht : tys[t0]? = some (cA, .object C))
    {n : Int32} {N' : Nat} (hn : ¬ n < 0) (hN : n.toNatClampNeg = N') (hbytes : N' * 4 ≤ 536870912) (hcells : cells + 1 ≤ R.cells) (hslots : slots + N' ≤ R.slots) (hdg : decode cc pc = .ok (.anewarray index, 3))
    (kk : ∀ (q : Nat) (H1 : Heap), M q = none → mp_I D cl tys s A H0 H1 locs (mp_up M q (.inl (cA, N', .inr (.inr (.inr (.inr (fun _ => none))))))) → W p l e R s m args below meth c H1 locs (cells + 1) (slots + N') Q (F0 m (pc + 3) ls (.ref q :: rest))) : W p l e R s m args below meth c H locs cells slots Q (F0 m pc ls (.int n :: rest)) := by
  obtain ⟨hK, ⟨ws, hP, hD, hw⟩, hS, hA⟩ := I
  refine va_newq hexec hb hown hclink hover hK.1 hP hD hS hA hn hN hbytes hcells hslots hdg (fun q cB H1 hK1 hP1 hD1 hS1 => ?_)
  have h1 := (hK1.2 tys.length (cB, .object C) (by rw [List.getElem?_append_right (Nat.le_refl _), Nat.sub_self]; rfl)).2
  have h2 := (hK.1.2 t0 _ ht).2
  obtain ⟨_, _, -, -, -, f1⟩ := h1
  obtain ⟨_, _, -, -, -, f2⟩ := h2
  have hcc : cB = cA := Option.some.inj (f1.symm.trans f2)
  subst hcc
  exact kk q H1 (hw.fresh hD1) ⟨hK, ⟨_, hP1, hD1, hw.push hD1⟩, hS1, hA⟩
end MPW
end
section
/-! ## Calls, contracts and ends over maps -/
theorem mp_recv {s : State} {H : Heap} {D : va_G} {cl : List vw_C} {A : Nat → Prop} {H0 : Heap} {locs : List Loc} {M : mp_M} {tys : List (ClassId × FieldType)} (I : mp_I D cl tys s A H0 H locs M) {b ci : Nat} {q : vw_C} {fs : List Value} (hM : M b = some (.inr (ci, fs))) (hc : cl[ci]? = some q) : ∃ cell : Cell, H[b]? = some cell ∧ cell.vm.isStatics = false ∧ s.vm.findClass q.1 = some cell.cls := by
  obtain ⟨hK, ⟨ws, hP, hD, hw⟩, hS, hA⟩ := I
  obtain ⟨q0, he⟩ := hw.at hM
  exact va_recv hK.1 hP hc he
theorem mp_preS {s : State} {H : Heap} {D : va_G} {cl : List vw_C} {A : Nat → Prop} {H0 : Heap} {locs : List Loc} {M : mp_M} {tys : List (ClassId × FieldType)} (I : mp_I D cl tys s A H0 H locs M) (As : List Value) : PreS s H (mp_Pc D cl tys As M H.size) As :=
  ⟨mp_blind, fun U hU hW => ⟨rfl, by rw [hU], by rw [hU]; exact I.2.1.weaken (fun _ _ _ _ => trivial), mp_K.warm hW I.1⟩⟩
theorem mp_preV {s : State} {H : Heap} {D : va_G} {cl : List vw_C} {A : Nat → Prop} {H0 : Heap} {locs : List Loc} {M : mp_M} {tys : List (ClassId × FieldType)} (I : mp_I D cl tys s A H0 H locs M) {b ci : Nat} {C : String} {T : u_T} {N : Nat} {fs : List Value} (hM : M b = some (.inr (ci, fs))) (hc : cl[ci]? = some (C, T, N)) (As : List Value) : PreV s H C b (mp_Pc D cl tys (.ref b :: As) M H.size) As :=
  ⟨mp_blind, mp_recv I hM hc, fun U hU hW => ⟨rfl, by rw [hU], by rw [hU]; exact I.2.1.weaken (fun _ _ _ _ => trivial), mp_K.warm hW I.1⟩⟩
theorem mp_sub {s : State} {H : Heap} {D : va_G} {cl : List vw_C} {A : Nat → Prop} {H0 : Heap} {locs : List Loc} {M : mp_M} {tys : List (ClassId × FieldType)} (I : mp_I D cl tys s A H0 H locs M) : ∀ q, mp_A M H.size q → A q := by
  intro q h
  rcases h with ⟨e, h⟩ | h
  · exact I.2.1.in h
  · exact I.2.2.2 q (Nat.le_trans I.2.2.1.1 h)
section MPC
variable {p : Program} {l : Launch} {e : Env} {R : Room} {s : State} {m : MethodId} {args : Array Value} {below : List Frame} {meth : Method} {c : Code} {H : Heap} {locs : List Loc} {cells slots : Nat} {Q : State → Prop}
variable {pc : Nat} {ls : Array Slot} {rest st0 : List Value} {a : Array Value} {A : Nat → Prop} {H0 : Heap} {mc ms : Nat} {D : va_G} {cl : List vw_C} {tys : List (ClassId × FieldType)} {M : mp_M} {cc : ByteArray}
theorem mp_calli {post : Int32 → mp_M → Prop} (hr : va_Run p l e R s m args below meth c H locs cells slots mc ms (F0 m pc ls st0) rest (va_Qi post (mp_B D cl tys M H.size) (mp_A M H.size) a) (mp_A M H.size)) (I : mp_I D cl tys s A H0 H locs M)
    (kk : ∀ (r : Int32) (M1 : mp_M) (H1 : Heap) (locs1 : List Loc), post r M1 → mp_I D cl tys s A H0 H1 locs1 M1 → W p l e R s m args below meth c H1 locs1 (cells + mc) (slots + ms) Q (F0 m (pc + 3) ls (.int r :: rest))) : W p l e R s m args below meth c H locs cells slots Q (F0 m pc ls st0) :=
  va_calli hr I.2.2.1 (fun q _ h => mp_sub I q h) (mp_sub I) (fun r M1 t H1 locs1 ht _ hp hB _ _ hS => kk r M1 H1 locs1 hp ⟨I.1, by rw [← ht]; exact hB.1.weaken (fun q _ _ h => mp_sub I q h), hS, I.2.2.2⟩)
theorem mp_calll {post : Int64 → mp_M → Prop} (hr : va_Run p l e R s m args below meth c H locs cells slots mc ms (F0 m pc ls st0) rest (va_Ql post (mp_B D cl tys M H.size) (mp_A M H.size) a) (mp_A M H.size)) (I : mp_I D cl tys s A H0 H locs M)
    (kk : ∀ (r : Int64) (M1 : mp_M) (H1 : Heap) (locs1 : List Loc), post r M1 → mp_I D cl tys s A H0 H1 locs1 M1 → W p l e R s m args below meth c H1 locs1 (cells + mc) (slots + ms) Q (F0 m (pc + 3) ls (.long r :: rest))) : W p l e R s m args below meth c H locs cells slots Q (F0 m pc ls st0) :=
  va_calll hr I.2.2.1 (fun q _ h => mp_sub I q h) (mp_sub I) (fun r M1 t H1 locs1 ht _ hp hB _ _ hS => kk r M1 H1 locs1 hp ⟨I.1, by rw [← ht]; exact hB.1.weaken (fun q _ _ h => mp_sub I q h), hS, I.2.2.2⟩)
theorem mp_callv {post : mp_M → Prop} (hr : va_Run p l e R s m args below meth c H locs cells slots mc ms (F0 m pc ls st0) rest (va_Qv post (mp_B D cl tys M H.size) (mp_A M H.size) a) (mp_A M H.size)) (I : mp_I D cl tys s A H0 H locs M)
    (kk : ∀ (M1 : mp_M) (H1 : Heap) (locs1 : List Loc), post M1 → mp_I D cl tys s A H0 H1 locs1 M1 → W p l e R s m args below meth c H1 locs1 (cells + mc) (slots + ms) Q (F0 m (pc + 3) ls rest)) : W p l e R s m args below meth c H locs cells slots Q (F0 m pc ls st0) :=
  va_callv hr I.2.2.1 (fun q _ h => mp_sub I q h) (mp_sub I) (fun M1 t H1 locs1 ht _ hp hB _ _ hS => kk M1 H1 locs1 hp ⟨I.1, by rw [← ht]; exact hB.1.weaken (fun q _ _ h => mp_sub I q h), hS, I.2.2.2⟩)
theorem mp_callq {post : Option Nat → mp_M → Prop} (hr : va_Run p l e R s m args below meth c H locs cells slots mc ms (F0 m pc ls st0) rest (va_Qq post (mp_B D cl tys M H.size) (mp_A M H.size) a) (mp_A M H.size)) (I : mp_I D cl tys s A H0 H locs M)
    (kk : ∀ (r : Option Nat) (M1 : mp_M) (H1 : Heap) (locs1 : List Loc), post r M1 → mp_I D cl tys s A H0 H1 locs1 M1 → W p l e R s m args below meth c H1 locs1 (cells + mc) (slots + ms) Q (F0 m (pc + 3) ls (va_rf r :: rest))) : W p l e R s m args below meth c H locs cells slots Q (F0 m pc ls st0) :=
  va_callq hr I.2.2.1 (fun q _ h => mp_sub I q h) (mp_sub I) (fun r M1 t H1 locs1 ht _ hp hB _ _ hS => kk r M1 H1 locs1 hp ⟨I.1, by rw [← ht]; exact hB.1.weaken (fun q _ _ h => mp_sub I q h), hS, I.2.2.2⟩)
theorem mp_iret {post : Int32 → mp_M → Prop} {M0 : mp_M} (hexec : p.tables.exec = Jvm.exec) (hb : c.code = cc) (hr : meth.sig.returnType = some .int) (hlocks : meth.locks = false) (I : mp_I D cl tys s (mp_A M0 s.heap.size) s.heap H locs M) {v : Int32} (hc : cells ≤ mc) (hs : slots ≤ ms) (hdg : decode cc pc = .ok (.ireturn, 1)) (hp : post v M) :
    W p l e R s m args below meth c H locs cells slots (MQ below (va_Qi post (mp_B D cl tys M0 s.heap.size) (mp_A M0 s.heap.size)) args s mc ms (mp_A M0 s.heap.size)) (F0 m pc ls [.int v]) :=
  W.widen hc hs (W.iret hexec hb hr (fun t ht hW => ⟨⟨v, M, rfl, hp, by rw [ht]; exact I.2.1, mp_K.warm hW I.1⟩, I.2.2.1.F ht⟩) I.2.2.1.2.2 hdg hlocks)
theorem mp_zret {post : Int32 → mp_M → Prop} {M0 : mp_M} {ty : FieldType} (hexec : p.tables.exec = Jvm.exec) (hb : c.code = cc) (hr : meth.sig.returnType = some ty) (hlocks : meth.locks = false) (I : mp_I D cl tys s (mp_A M0 s.heap.size) s.heap H locs M) {v : Int32} (hn : narrow ty (.int v) = .int v) (hc : cells ≤ mc) (hs : slots ≤ ms) (hdg : decode cc pc = .ok (.ireturn, 1)) (hp : post v M) :
    W p l e R s m args below meth c H locs cells slots (MQ below (va_Qi post (mp_B D cl tys M0 s.heap.size) (mp_A M0 s.heap.size)) args s mc ms (mp_A M0 s.heap.size)) (F0 m pc ls [.int v]) :=
  W.widen hc hs (W.zret hexec hb hr hn (fun t ht hW => ⟨⟨v, M, rfl, hp, by rw [ht]; exact I.2.1, mp_K.warm hW I.1⟩, I.2.2.1.F ht⟩) I.2.2.1.2.2 hdg hlocks)
theorem mp_lret {post : Int64 → mp_M → Prop} {M0 : mp_M} (hexec : p.tables.exec = Jvm.exec) (hb : c.code = cc) (hr : meth.sig.returnType = some .long) (hlocks : meth.locks = false) (I : mp_I D cl tys s (mp_A M0 s.heap.size) s.heap H locs M) {v : Int64} (hc : cells ≤ mc) (hs : slots ≤ ms) (hdg : decode cc pc = .ok (.lreturn, 1)) (hp : post v M) :
    W p l e R s m args below meth c H locs cells slots (MQ below (va_Ql post (mp_B D cl tys M0 s.heap.size) (mp_A M0 s.heap.size)) args s mc ms (mp_A M0 s.heap.size)) (F0 m pc ls [.long v]) :=
  W.widen hc hs (W.lret hexec hb hr (fun t ht hW => ⟨⟨v, M, rfl, hp, by rw [ht]; exact I.2.1, mp_K.warm hW I.1⟩, I.2.2.1.F ht⟩) I.2.2.1.2.2 hdg hlocks)
theorem mp_vret {post : mp_M → Prop} {M0 : mp_M} (hexec : p.tables.exec = Jvm.exec) (hb : c.code = cc) (hr : meth.sig.returnType = none) (hlocks : meth.locks = false) (I : mp_I D cl tys s (mp_A M0 s.heap.size) s.heap H locs M) (hc : cells ≤ mc) (hs : slots ≤ ms) (hdg : decode cc pc = .ok (.return_, 1)) (hp : post M) :
    W p l e R s m args below meth c H locs cells slots (MQ below (va_Qv post (mp_B D cl tys M0 s.heap.size) (mp_A M0 s.heap.size)) args s mc ms (mp_A M0 s.heap.size)) (F0 m pc ls []) :=
  W.widen hc hs (W.vret hexec hb hr (fun t ht hW => ⟨⟨M, rfl, hp, by rw [ht]; exact I.2.1, mp_K.warm hW I.1⟩, I.2.2.1.F ht⟩) I.2.2.1.2.2 hdg hlocks)
theorem mp_qret {post : Option Nat → mp_M → Prop} {M0 : mp_M} {C : String} {r : Option Nat} (hexec : p.tables.exec = Jvm.exec) (hb : c.code = cc) (hr : meth.sig.returnType = some (.object C)) (hlocks : meth.locks = false) (I : mp_I D cl tys s (mp_A M0 s.heap.size) s.heap H locs M) {v : Value} (hv : v = va_rf r) (hc : cells ≤ mc) (hs : slots ≤ ms) (hdg : decode cc pc = .ok (.areturn, 1)) (hp : post r M) :
    W p l e R s m args below meth c H locs cells slots (MQ below (va_Qq post (mp_B D cl tys M0 s.heap.size) (mp_A M0 s.heap.size)) args s mc ms (mp_A M0 s.heap.size)) (F0 m pc ls [v]) :=
  W.widen hc hs (W.aret hexec hb hr (Or.inl ⟨C, rfl⟩) (by rw [hv]; cases r <;> simp [va_rf]) (fun t ht hW => ⟨⟨r, M, by rw [hv], hp, by rw [ht]; exact I.2.1, mp_K.warm hW I.1⟩, I.2.2.1.F ht⟩) I.2.2.1.2.2 hdg hlocks)
end MPC
/-- a method's contract: with the world M and the arguments av it comes to an end that Qf allows; at most mc new cells of ms slots -/
def mp_Met (l : Launch) (y : MethodName) (ws : List Cond) (rm : Room) (D : va_G) (cl : List vw_C) (tys : List (ClassId × FieldType)) (av : List Value) (M : mp_M) (Qf : (mp_M → State → Prop) → (Nat → Prop) → Array Value → State → Outcome → State → Prop) (mc ms : Nat) : Prop :=
  ∀ sz : Nat, Met l y ws rm (mp_Pc D cl tys av M sz) (Qf (mp_B D cl tys M sz) (mp_A M sz)) mc ms (mp_A M sz)
theorem mp_Met.of {l : Launch} {y : MethodName} {rm : Room} {D : va_G} {cl : List vw_C} {tys : List (ClassId × FieldType)} {av : List Value} {M : mp_M} {Qf : (mp_M → State → Prop) → (Nat → Prop) → Array Value → State → Outcome → State → Prop} {mc ms : Nat} {cc : ByteArray} {maxL : Nat} {ret : Option FieldType}
    (hy : plainName y.cls = true) (hn : (lg_sl av).length ≤ maxL)
    (body : ∀ (p : Program) (e : Env) (s : State) (m : MethodId) (below : List Frame) (meth : Method) (c : Code), p.tables.exec = Jvm.exec → c.code = cc → meth.sig.returnType = ret → c.maxLocals = maxL → s.vm.findClass y.cls = some m.cls → (∀ w ∈ bw, w.before av.toArray s = true) → meth.locks = false → meth.name = y.name →
      ∀ ls : Array Slot, lv_has ls maxL (lv_args 0 av) → mp_I D cl tys s (mp_A M s.heap.size) s.heap s.heap [] M →
      W p l e rm s m av.toArray below meth c s.heap [] 0 0 (MQ below (Qf (mp_B D cl tys M s.heap.size) (mp_A M s.heap.size)) av.toArray s mc ms (mp_A M s.heap.size)) (F0 m 0 ls [])) : mp_Met l y (Cond.code y cc maxL ret :: bw) rm D cl tys av M Qf mc ms := by
  intro sz
  refine Met.ofW (cc := cc) (maxL := maxL) (ret := ret) hy rfl ?_
  intro p e s m args below meth c s₁ B hml hv
  obtain ⟨rfl, hsz, hP, hK⟩ := hv
  subst hsz
  have hl := lv_entry av (n := maxL) hn
  rw [lg_entry_eq]
  exact body p e s m below meth c B.exec B.bytes B.returns hml (findClass_of_methodNamed B.named) (fun w h => atoms_spec (ws := Cond.code y cc maxL ret :: bw) B.pre w (List.mem_cons_of_mem _ h)) B.notSynchronized (name_of_methodNamed B.named B.method).1 _ hl (mp_I.start hK hP)
theorem bw_call {ws : List Cond} {y : Cond} (hw : ∀ w ∈ ws, w ∈ bw) (hy : y ∈ bw) : GoodIn bw (ws ++ (y :: bw)) := by
  intro w h
  rcases List.mem_append.mp h with h | h
  · exact bw_good w (hw w h)
  · rcases List.mem_cons.mp h with rfl | h
    · exact bw_good _ hy
    · exact bw_good w h
theorem bw_V {own C : String} {idx : Nat} {y : MethodName} {k : Cond} (h1 : .methodLink own idx y ∈ bw) (h2 : .instanceMethod y ∈ bw) (h3 : .selects C y y ∈ bw) (h4 : .initialized C ∈ bw) (h5 : k ∈ bw) : GoodIn bw (wsV own idx C y (k :: bw)) :=
  bw_call (List.forall_mem_cons.mpr ⟨h1, List.forall_mem_cons.mpr ⟨h2, List.forall_mem_cons.mpr ⟨h3, List.forall_mem_cons.mpr ⟨h4, fun _ h => absurd h List.not_mem_nil⟩⟩⟩⟩) h5
theorem bw_S {own : String} {idx : Nat} {y : MethodName} {k : Cond} (h1 : .methodLink own idx y ∈ bw) (h2 : .static y ∈ bw) (h4 : .initialized own ∈ bw) (h5 : k ∈ bw) : GoodIn bw (wsS own idx y (k :: bw)) :=
  bw_call (List.forall_mem_cons.mpr ⟨h1, List.forall_mem_cons.mpr ⟨h2, List.forall_mem_cons.mpr ⟨h4, fun _ h => absurd h List.not_mem_nil⟩⟩⟩) h5
theorem bw_I {k : Cond} (h5 : k ∈ bw) : GoodIn bw (k :: bw) := bw_call (ws := []) (fun _ h => absurd h List.not_mem_nil) h5
end
section
/-! ## Rows whose numbers are Nat and Int: comparisons by toInt, sums of nI -/
theorem zz_eq {x y : Int32} {X Y : Int} (hX : x.toInt = X) (hY : y.toInt = Y) : x = y ↔ X = Y := by rw [← Int32.toInt_inj, hX, hY]
theorem zz_lt {x y : Int32} {X Y : Int} (hX : x.toInt = X) (hY : y.toInt = Y) : x < y ↔ X < Y := by rw [Int32.lt_iff_toInt_lt, hX, hY]
theorem zz_le {x y : Int32} {X Y : Int} (hX : x.toInt = X) (hY : y.toInt = Y) : x ≤ y ↔ X ≤ Y := by rw [Int32.le_iff_toInt_le, hX, hY]
theorem zz_0 : (0 : Int32).toInt = 0 := rfl
section ZZ
variable {p : Program} {l : Launch} {e : Env} {R : Room} {s : State} {m : MethodId} {args : Array Value} {below : List Frame} {meth : Method} {c : Code} {H : Heap} {locs : List Loc} {cells slots : Nat} {Q : State → Prop}
variable {cc : ByteArray} {pc : Nat} {ls : Array Slot} {rest : List Value}
theorem zz_icmp_eq (hexec : p.tables.exec = Jvm.exec) (hb : c.code = cc) {x y : Int32} {X Y : Int} (hX : x.toInt = X) (hY : y.toInt = Y) {off : Int} {tgt : Nat} (hdg : decode cc pc = .ok (.if_icmp .eq off, 3)) (ht : (pc : Int) + off = (tgt : Int)) (kt : X = Y → W p l e R s m args below meth c H locs cells slots Q (F0 m tgt ls rest)) (kf : X ≠ Y → W p l e R s m args below meth c H locs cells slots Q (F0 m (pc + 3) ls rest)) : W p l e R s m args below meth c H locs cells slots Q (F0 m pc ls (.int y :: .int x :: rest)) :=
  lv_icmp_eq hexec hb hdg ht (fun h => kt ((zz_eq hX hY).mp h)) (fun h => kf (fun q => h ((zz_eq hX hY).mpr q)))
theorem zz_if_eq (hexec : p.tables.exec = Jvm.exec) (hb : c.code = cc) {x : Int32} {X : Int} (hX : x.toInt = X) {off : Int} {tgt : Nat} (hdg : decode cc pc = .ok (.ifCond .eq off, 3)) (ht : (pc : Int) + off = (tgt : Int)) (kt : X = 0 → W p l e R s m args below meth c H locs cells slots Q (F0 m tgt ls rest)) (kf : X ≠ 0 → W p l e R s m args below meth c H locs cells slots Q (F0 m (pc + 3) ls rest)) : W p l e R s m args below meth c H locs cells slots Q (F0 m pc ls (.int x :: rest)) :=
  lv_if_eq hexec hb hdg ht (fun h => kt ((zz_eq hX zz_0).mp h)) (fun h => kf (fun q => h ((zz_eq hX zz_0).mpr q)))
theorem zz_icmp_ne (hexec : p.tables.exec = Jvm.exec) (hb : c.code = cc) {x y : Int32} {X Y : Int} (hX : x.toInt = X) (hY : y.toInt = Y) {off : Int} {tgt : Nat} (hdg : decode cc pc = .ok (.if_icmp .ne off, 3)) (ht : (pc : Int) + off = (tgt : Int)) (kt : X ≠ Y → W p l e R s m args below meth c H locs cells slots Q (F0 m tgt ls rest)) (kf : X = Y → W p l e R s m args below meth c H locs cells slots Q (F0 m (pc + 3) ls rest)) : W p l e R s m args below meth c H locs cells slots Q (F0 m pc ls (.int y :: .int x :: rest)) :=
  lv_icmp_ne hexec hb hdg ht (fun h => kt (fun q => h ((zz_eq hX hY).mpr q))) (fun h => kf ((zz_eq hX hY).mp h))
theorem zz_if_ne (hexec : p.tables.exec = Jvm.exec) (hb : c.code = cc) {x : Int32} {X : Int} (hX : x.toInt = X) {off : Int} {tgt : Nat} (hdg : decode cc pc = .ok (.ifCond .ne off, 3)) (ht : (pc : Int) + off = (tgt : Int)) (kt : X ≠ 0 → W p l e R s m args below meth c H locs cells slots Q (F0 m tgt ls rest)) (kf : X = 0 → W p l e R s m args below meth c H locs cells slots Q (F0 m (pc + 3) ls rest)) : W p l e R s m args below meth c H locs cells slots Q (F0 m pc ls (.int x :: rest)) :=
  lv_if_ne hexec hb hdg ht (fun h => kt (fun q => h ((zz_eq hX zz_0).mpr q))) (fun h => kf ((zz_eq hX zz_0).mp h))
theorem zz_icmp_lt (hexec : p.tables.exec = Jvm.exec) (hb : c.code = cc) {x y : Int32} {X Y : Int} (hX : x.toInt = X) (hY : y.toInt = Y) {off : Int} {tgt : Nat} (hdg : decode cc pc = .ok (.if_icmp .lt off, 3)) (ht : (pc : Int) + off = (tgt : Int)) (kt : X < Y → W p l e R s m args below meth c H locs cells slots Q (F0 m tgt ls rest)) (kf : Y ≤ X → W p l e R s m args below meth c H locs cells slots Q (F0 m (pc + 3) ls rest)) : W p l e R s m args below meth c H locs cells slots Q (F0 m pc ls (.int y :: .int x :: rest)) :=
  lv_icmp_lt hexec hb hdg ht (fun h => kt ((zz_lt hX hY).mp h)) (fun h => kf (Int.not_lt.mp (fun q => h ((zz_lt hX hY).mpr q))))
theorem zz_if_lt (hexec : p.tables.exec = Jvm.exec) (hb : c.code = cc) {x : Int32} {X : Int} (hX : x.toInt = X) {off : Int} {tgt : Nat} (hdg : decode cc pc = .ok (.ifCond .lt off, 3)) (ht : (pc : Int) + off = (tgt : Int)) (kt : X < 0 → W p l e R s m args below meth c H locs cells slots Q (F0 m tgt ls rest)) (kf : 0 ≤ X → W p l e R s m args below meth c H locs cells slots Q (F0 m (pc + 3) ls rest)) : W p l e R s m args below meth c H locs cells slots Q (F0 m pc ls (.int x :: rest)) :=
  lv_if_lt hexec hb hdg ht (fun h => kt ((zz_lt hX zz_0).mp h)) (fun h => kf (Int.not_lt.mp (fun q => h ((zz_lt hX zz_0).mpr q))))
theorem zz_icmp_ge (hexec : p.tables.exec = Jvm.exec) (hb : c.code = cc) {x y : Int32} {X Y : Int} (hX : x.toInt = X) (hY : y.toInt = Y) {off : Int} {tgt : Nat} (hdg : decode cc pc = .ok (.if_icmp .ge off, 3)) (ht : (pc : Int) + off = (tgt : Int)) (kt : Y ≤ X → W p l e R s m args below meth c H locs cells slots Q (F0 m tgt ls rest)) (kf : X < Y → W p l e R s m args below meth c H locs cells slots Q (F0 m (pc + 3) ls rest)) : W p l e R s m args below meth c H locs cells slots Q (F0 m pc ls (.int y :: .int x :: rest)) :=
  lv_icmp_ge hexec hb hdg ht (fun h => kt ((zz_le hY hX).mp h)) (fun h => kf (Int.not_le.mp (fun q => h ((zz_le hY hX).mpr q))))
theorem zz_if_ge (hexec : p.tables.exec = Jvm.exec) (hb : c.code = cc) {x : Int32} {X : Int} (hX : x.toInt = X) {off : Int} {tgt : Nat} (hdg : decode cc pc = .ok (.ifCond .ge off, 3)) (ht : (pc : Int) + off = (tgt : Int)) (kt : 0 ≤ X → W p l e R s m args below meth c H locs cells slots Q (F0 m tgt ls rest)) (kf : X < 0 → W p l e R s m args below meth c H locs cells slots Q (F0 m (pc + 3) ls rest)) : W p l e R s m args below meth c H locs cells slots Q (F0 m pc ls (.int x :: rest)) :=
  lv_if_ge hexec hb hdg ht (fun h => kt ((zz_le zz_0 hX).mp h)) (fun h => kf (Int.not_le.mp (fun q => h ((zz_le zz_0 hX).mpr q))))
theorem zz_icmp_gt (hexec : p.tables.exec = Jvm.exec) (hb : c.code = cc) {x y : Int32} {X Y : Int} (hX : x.toInt = X) (hY : y.toInt = Y) {off : Int} {tgt : Nat} (hdg : decode cc pc = .ok (.if_icmp .gt off, 3)) (ht : (pc : Int) + off = (tgt : Int)) (kt : Y < X → W p l e R s m args below meth c H locs cells slots Q (F0 m tgt ls rest)) (kf : X ≤ Y → W p l e R s m args below meth c H locs cells slots Q (F0 m (pc + 3) ls rest)) : W p l e R s m args below meth c H locs cells slots Q (F0 m pc ls (.int y :: .int x :: rest)) :=
  lv_icmp_gt hexec hb hdg ht (fun h => kt ((zz_lt hY hX).mp h)) (fun h => kf (Int.not_lt.mp (fun q => h ((zz_lt hY hX).mpr q))))
theorem zz_if_gt (hexec : p.tables.exec = Jvm.exec) (hb : c.code = cc) {x : Int32} {X : Int} (hX : x.toInt = X) {off : Int} {tgt : Nat} (hdg : decode cc pc = .ok (.ifCond .gt off, 3)) (ht : (pc : Int) + off = (tgt : Int)) (kt : 0 < X → W p l e R s m args below meth c H locs cells slots Q (F0 m tgt ls rest)) (kf : X ≤ 0 → W p l e R s m args below meth c H locs cells slots Q (F0 m (pc + 3) ls rest)) : W p l e R s m args below meth c H locs cells slots Q (F0 m pc ls (.int x :: rest)) :=
  lv_if_gt hexec hb hdg ht (fun h => kt ((zz_lt zz_0 hX).mp h)) (fun h => kf (Int.not_lt.mp (fun q => h ((zz_lt zz_0 hX).mpr q))))
theorem zz_icmp_le (hexec : p.tables.exec = Jvm.exec) (hb : c.code = cc) {x y : Int32} {X Y : Int} (hX : x.toInt = X) (hY : y.toInt = Y) {off : Int} {tgt : Nat} (hdg : decode cc pc = .ok (.if_icmp .le off, 3)) (ht : (pc : Int) + off = (tgt : Int)) (kt : X ≤ Y → W p l e R s m args below meth c H locs cells slots Q (F0 m tgt ls rest)) (kf : Y < X → W p l e R s m args below meth c H locs cells slots Q (F0 m (pc + 3) ls rest)) : W p l e R s m args below meth c H locs cells slots Q (F0 m pc ls (.int y :: .int x :: rest)) :=
  lv_icmp_le hexec hb hdg ht (fun h => kt ((zz_le hX hY).mp h)) (fun h => kf (Int.not_le.mp (fun q => h ((zz_le hX hY).mpr q))))
theorem zz_if_le (hexec : p.tables.exec = Jvm.exec) (hb : c.code = cc) {x : Int32} {X : Int} (hX : x.toInt = X) {off : Int} {tgt : Nat} (hdg : decode cc pc = .ok (.ifCond .le off, 3)) (ht : (pc : Int) + off = (tgt : Int)) (kt : X ≤ 0 → W p l e R s m args below meth c H locs cells slots Q (F0 m tgt ls rest)) (kf : 0 < X → W p l e R s m args below meth c H locs cells slots Q (F0 m (pc + 3) ls rest)) : W p l e R s m args below meth c H locs cells slots Q (F0 m pc ls (.int x :: rest)) :=
  lv_if_le hexec hb hdg ht (fun h => kt ((zz_le hX zz_0).mp h)) (fun h => kf (Int.not_le.mp (fun q => h ((zz_le hX zz_0).mpr q))))
theorem zz_iadd (hexec : p.tables.exec = Jvm.exec) (hb : c.code = cc) {a b : Nat} (hdg : decode cc pc = .ok (.iadd, 1)) (k : W p l e R s m args below meth c H locs cells slots Q (F0 m (pc + 1) ls (.int (nI (a + b)) :: rest))) : W p l e R s m args below meth c H locs cells slots Q (F0 m pc ls (.int (nI b) :: .int (nI a) :: rest)) :=
  lv_iadd hexec hb hdg (by rw [nI_add]; exact k)
theorem zz_isub (hexec : p.tables.exec = Jvm.exec) (hb : c.code = cc) {a b : Nat} (h : b ≤ a) (hdg : decode cc pc = .ok (.isub, 1)) (k : W p l e R s m args below meth c H locs cells slots Q (F0 m (pc + 1) ls (.int (nI (a - b)) :: rest))) : W p l e R s m args below meth c H locs cells slots Q (F0 m pc ls (.int (nI b) :: .int (nI a) :: rest)) :=
  lv_isub hexec hb hdg (by rw [pk_sub h]; exact k)
/-- a null or a cell on the stack, tested -/
theorem zz_ifnull (hexec : p.tables.exec = Jvm.exec) (hb : c.code = cc) {r : Option Nat} {off : Int} {tgt : Nat} (hdg : decode cc pc = .ok (.ifnull off, 3)) (ht : (pc : Int) + off = (tgt : Int)) (kt : r = none → W p l e R s m args below meth c H locs cells slots Q (F0 m tgt ls rest)) (kf : ∀ a, r = some a → W p l e R s m args below meth c H locs cells slots Q (F0 m (pc + 3) ls rest)) : W p l e R s m args below meth c H locs cells slots Q (F0 m pc ls (va_rf r :: rest)) := by
  cases r with
  | none => exact lv_ifnullN hexec hb hdg ht (kt rfl)
  | some a => exact lv_ifnull hexec hb hdg (kf a rfl)
theorem zz_ifnonnull (hexec : p.tables.exec = Jvm.exec) (hb : c.code = cc) {r : Option Nat} {off : Int} {tgt : Nat} (hdg : decode cc pc = .ok (.ifnonnull off, 3)) (ht : (pc : Int) + off = (tgt : Int)) (kt : ∀ a, r = some a → W p l e R s m args below meth c H locs cells slots Q (F0 m tgt ls rest)) (kf : r = none → W p l e R s m args below meth c H locs cells slots Q (F0 m (pc + 3) ls rest)) : W p l e R s m args below meth c H locs cells slots Q (F0 m pc ls (va_rf r :: rest)) := by
  cases r with
  | none => exact lv_ifnonnullN hexec hb hdg (kf rfl)
  | some a => exact lv_ifnonnull hexec hb hdg ht (kt a rfl)
end ZZ
end
section
/-! ## What a state of the two systems is -/
abbrev tys6 (k : Nat → ClassId) : List (ClassId × FieldType) := [(k 0, .int), (k 1, .long), (k 2, .object "PlaceDesk$Thing"), (k 3, .object "PlaceDesk$Spot"), (k 4, .object "PlaceDesk$Snapshot"), (k 5, .boolean)]
/-- a Nat function with one place changed -/
def nu (f : Nat → Nat) (j v : Nat) : Nat → Nat := fun i => if i = j then v else f i
theorem nu_s (f : Nat → Nat) (j v : Nat) : nu f j v j = v := if_pos rfl
theorem nu_n {f : Nat → Nat} {i j v : Nat} (h : i ≠ j) : nu f j v i = f i := if_neg h
theorem upd_nI (f : Nat → Nat) (j v : Nat) : upd (fun i => nI (f i)) j (nI v) = fun i => nI (nu f j v i) := by
  funext i
  by_cases h : i = j <;> simp [upd, nu, h]
theorem nz_nar {b : Nat} (h : b ≤ 1) : narrow .boolean (.int (nI b)) = .int (nI b) := by
  rcases (show b = 0 ∨ b = 1 by omega) with rfl | rfl <;> rfl
theorem nz_fit {b : Nat} (h : b ≤ 1) : fits .boolean (.int (nI b)) = true := by
  rcases (show b = 0 ∨ b = 1 by omega) with rfl | rfl <;> rfl
theorem nz_vp {b : Nat} (h : b ≤ 1) : vp_nar .boolean (nI b) = nI b := by
  rcases (show b = 0 ∨ b = 1 by omega) with rfl | rfl <;> rfl
theorem i32_bd (x : Int32) : -2147483648 ≤ x.toInt ∧ x.toInt < 2147483648 := ⟨Int32.le_toInt x, Int32.toInt_lt x⟩
/-- an int that is no less than 0 is a Nat's -/
theorem i32_nat {x : Int32} (h : 0 ≤ x.toInt) : ∃ n : Nat, n < 2147483648 ∧ x = nI n ∧ x.toInt = (n : Int) := by
  obtain ⟨n, hn, e⟩ := nI_of (x := x) (fun q => by rw [Int32.lt_iff_toInt_lt] at q; have : (0 : Int32).toInt = 0 := rfl; omega)
  exact ⟨n, hn, e, by rw [e]; exact nI_toInt hn⟩
theorem mp_upup (M : mp_M) (a : Nat) (x y : va_E) : mp_up (mp_up M a x) a y = mp_up M a y := by
  funext q
  by_cases h : q = a <;> simp [mp_up, h]
theorem mp_upself {M : mp_M} {a : Nat} {x : va_E} (h : M a = some x) : mp_up M a x = M := by
  funext q
  by_cases e : q = a
  · rw [e, mp_up_s, h]
  · exact mp_up_n e
section MPL
variable {p : Program} {l : Launch} {e : Env} {R : Room} {s : State} {m : MethodId} {args : Array Value} {below : List Frame} {meth : Method} {c : Code} {H : Heap} {locs : List Loc} {cells slots : Nat} {Q : State → Prop}
variable {pc : Nat} {ls : Array Slot} {D : va_G} {cl : List vw_C} {A : Nat → Prop} {tys : List (ClassId × FieldType)} {H0 : Heap}
/-- a loop whose locals and map are functions of its counter -/
theorem mp_loop (N nL : Nat) (lvf : Nat → List (Nat × Value)) (Mf : Nat → mp_M) (i0 : Nat) (h0 : i0 ≤ N) (hl : lv_has ls nL (lvf i0)) (I : mp_I D cl tys s A H0 H locs (Mf i0))
    (step : ∀ (i : Nat) (H : Heap) (locs : List Loc) (ls : Array Slot), i0 ≤ i → i ≤ N → lv_has ls nL (lvf i) → mp_I D cl tys s A H0 H locs (Mf i) →
      (∀ (H1 : Heap) (locs1 : List Loc) (ls1 : Array Slot), i < N → lv_has ls1 nL (lvf (i + 1)) → mp_I D cl tys s A H0 H1 locs1 (Mf (i + 1)) → W p l e R s m args below meth c H1 locs1 cells slots Q (F0 m pc ls1 [])) →
      W p l e R s m args below meth c H locs cells slots Q (F0 m pc ls [])) : W p l e R s m args below meth c H locs cells slots Q (F0 m pc ls []) := by
  have key : ∀ (n i : Nat) (H : Heap) (locs : List Loc) (ls : Array Slot), i0 ≤ i → i ≤ N → N ≤ i + n → lv_has ls nL (lvf i) → mp_I D cl tys s A H0 H locs (Mf i) → W p l e R s m args below meth c H locs cells slots Q (F0 m pc ls []) := by
    intro n
    induction n with
    | zero => exact fun i H locs ls h1 h2 h3 hl I => step i H locs ls h1 h2 hl I (fun _ _ _ h => absurd h (by omega))
    | succ n ih => exact fun i H locs ls h1 h2 h3 hl I => step i H locs ls h1 h2 hl I (fun H1 locs1 ls1 h hl1 I1 => ih (i + 1) H1 locs1 ls1 (by omega) h (by omega) hl1 I1)
  exact key N i0 H locs ls (Nat.le_refl _) h0 (by omega) hl I
end MPL
/-- how many of the first n values differ -/
def dif (f g : Nat → Int64) : Nat → Nat
  | 0 => 0
  | n + 1 => dif f g n + (if f n = g n then 0 else 1)
theorem dif_le (f g : Nat → Int64) (n : Nat) : dif f g n ≤ n := by
  induction n with
  | zero => exact Nat.le_refl 0
  | succ n ih =>
    show dif f g n + _ ≤ n + 1
    split <;> omega
end
section
/-! ## The class: a desk over a map (written by wip/gen/desk.py) -/
def DkX (k : Nat → ClassId) (M : mp_M) (d av ak at_ aw as_ an : Nat) (qt qs qn : Nat → Option Nat) (sa ra : Nat → Nat) (ec tc wc sc nc : Nat) (va : Nat → Int64) (kd wt tk tf tz sk sf sw sl nn : Nat → Nat) (nv : Nat → Nat → Int64) : Prop :=
  M d = some (.inr (0, [.ref av, .ref ak, .int (nI ec), .ref at_, .int (nI tc), .ref aw, .int (nI wc), .ref as_, .int (nI sc), .ref an, .int (nI nc)])) ∧ M av = some (.inl (k 1, 4000, .inr (.inl va))) ∧ M ak = some (.inl (k 0, 4000, .inl (fun i => nI (kd i)))) ∧ M at_ = some (.inl (k 2, 300, .inr (.inr (.inr (.inr qt))))) ∧ M aw = some (.inl (k 0, 12, .inl (fun i => nI (wt i)))) ∧ M as_ = some (.inl (k 3, 100, .inr (.inr (.inr (.inr qs))))) ∧ M an = some (.inl (k 4, 20, .inr (.inr (.inr (.inr qn))))) ∧
  (∀ i, i < tc → ∃ a, qt i = some a ∧ M a = some (.inr (1, [.int (nI (tk i)), .int (nI (tf i)), .int (nI (tz i))]))) ∧
  (∀ i, i < sc → ∃ a, qs i = some a ∧ M a = some (.inr (2, [.int (nI (sk i)), .int (nI (sf i)), .int (nI (sw i)), .int (nI (sl i))]))) ∧
  (∀ i, i < 20 → (qn i = none ∧ nc ≤ i) ∨ (qn i = some (sa i) ∧ ra i ≠ av ∧ ∃ (cn : Nat) (g : Nat → Int64), M (sa i) = some (.inr (3, [.ref (ra i), .int (nI cn)])) ∧ M (ra i) = some (.inl (k 1, 4000, .inr (.inl g))) ∧ cn ≤ 4000 ∧ (i < nc → cn = nn i ∧ ∀ j, j < cn → g j = nv i j))) ∧
  (∀ i j, i < 20 → j < 20 → qn i ≠ none → qn j ≠ none → i ≠ j → sa i ≠ sa j ∧ ra i ≠ ra j)
/-- bounds of the numbers -/
def OkB (ec tc wc sc nc : Nat) (tk tf tz sk sf sw sl nn : Nat → Nat) : Prop := ec ≤ 4000 ∧ tc ≤ 300 ∧ wc ≤ 12 ∧ sc ≤ 100 ∧ nc ≤ 20 ∧ (∀ i, i < tc → tk i ≤ 7 ∧ tz i ≤ 200 ∧ tf i + tz i ≤ ec) ∧ (∀ i, i < sc → 1 ≤ sk i ∧ sk i ≤ 7 ∧ 1 ≤ sw i ∧ sw i ≤ 8 ∧ sf i + sw i ≤ ec ∧ sl i ≤ 1) ∧ (∀ i, i < nc → nn i ≤ ec)
theorem DkX.setV {k : Nat → ClassId} {M : mp_M} {d av ak at_ aw as_ an : Nat} {qt qs qn : Nat → Option Nat} {sa ra : Nat → Nat} {ec tc wc sc nc : Nat} {va : Nat → Int64} {kd wt tk tf tz sk sf sw sl nn : Nat → Nat} {nv : Nat → Nat → Int64} (va2 : Nat → Int64) (h : DkX k M d av ak at_ aw as_ an qt qs qn sa ra ec tc wc sc nc va kd wt tk tf tz sk sf sw sl nn nv) : DkX k (mp_up M av (.inl (k 1, 4000, .inr (.inl va2)))) d av ak at_ aw as_ an qt qs qn sa ra ec tc wc sc nc (va2) kd wt tk tf tz sk sf sw sl nn nv := by
  obtain ⟨h0, hav, hak, hat, haw, has, han, hth, hsp, hsn, hij⟩ := h
  refine ⟨(mp_up_n (mp_ne h0 hav (by simp))).trans h0, mp_up_s _ _ _, (mp_up_n (mp_ne hak hav (by simp))).trans hak, (mp_up_n (mp_ne hat hav (by simp))).trans hat, (mp_up_n (mp_ne haw hav (by simp))).trans haw, (mp_up_n (mp_ne has hav (by simp))).trans has, (mp_up_n (mp_ne han hav (by simp))).trans han, ?_, ?_, ?_, ?_⟩
  · exact fun i hi => by
      obtain ⟨a, h1, h2⟩ := hth i hi
      exact ⟨a, h1, (mp_up_n (mp_ne h2 hav (by simp))).trans h2⟩
  · exact fun i hi => by
      obtain ⟨a, h1, h2⟩ := hsp i hi
      exact ⟨a, h1, (mp_up_n (mp_ne h2 hav (by simp))).trans h2⟩
  · exact fun i hi => by
      rcases hsn i hi with h1 | ⟨h1, h2, cn, g, h3, h4, h5⟩
      · exact Or.inl h1
      · exact Or.inr ⟨h1, h2, cn, g, (mp_up_n (mp_ne h3 hav (by simp))).trans h3, (mp_up_n (fun q => h2 q)).trans h4, h5⟩
  · exact hij
theorem DkX.setK {k : Nat → ClassId} {M : mp_M} {d av ak at_ aw as_ an : Nat} {qt qs qn : Nat → Option Nat} {sa ra : Nat → Nat} {ec tc wc sc nc : Nat} {va : Nat → Int64} {kd wt tk tf tz sk sf sw sl nn : Nat → Nat} {nv : Nat → Nat → Int64} (kd2 : Nat → Nat) (h : DkX k M d av ak at_ aw as_ an qt qs qn sa ra ec tc wc sc nc va kd wt tk tf tz sk sf sw sl nn nv) : DkX k (mp_up M ak (.inl (k 0, 4000, .inl (fun i => nI (kd2 i))))) d av ak at_ aw as_ an qt qs qn sa ra ec tc wc sc nc va (kd2) wt tk tf tz sk sf sw sl nn nv := by
  obtain ⟨h0, hav, hak, hat, haw, has, han, hth, hsp, hsn, hij⟩ := h
  refine ⟨(mp_up_n (mp_ne h0 hak (by simp))).trans h0, (mp_up_n (mp_ne hav hak (by simp))).trans hav, mp_up_s _ _ _, (mp_up_n (mp_ne hat hak (by simp))).trans hat, (mp_up_n (mp_ne haw hak (by simp))).trans haw, (mp_up_n (mp_ne has hak (by simp))).trans has, (mp_up_n (mp_ne han hak (by simp))).trans han, ?_, ?_, ?_, ?_⟩
  · exact fun i hi => by
      obtain ⟨a, h1, h2⟩ := hth i hi
      exact ⟨a, h1, (mp_up_n (mp_ne h2 hak (by simp))).trans h2⟩
  · exact fun i hi => by
      obtain ⟨a, h1, h2⟩ := hsp i hi
      exact ⟨a, h1, (mp_up_n (mp_ne h2 hak (by simp))).trans h2⟩
  · exact fun i hi => by
      rcases hsn i hi with h1 | ⟨h1, h2, cn, g, h3, h4, h5⟩
      · exact Or.inl h1
      · exact Or.inr ⟨h1, h2, cn, g, (mp_up_n (mp_ne h3 hak (by simp))).trans h3, (mp_up_n (mp_ne h4 hak (by simp))).trans h4, h5⟩
  · exact hij
theorem DkX.setW {k : Nat → ClassId} {M : mp_M} {d av ak at_ aw as_ an : Nat} {qt qs qn : Nat → Option Nat} {sa ra : Nat → Nat} {ec tc wc sc nc : Nat} {va : Nat → Int64} {kd wt tk tf tz sk sf sw sl nn : Nat → Nat} {nv : Nat → Nat → Int64} (wt2 : Nat → Nat) (h : DkX k M d av ak at_ aw as_ an qt qs qn sa ra ec tc wc sc nc va kd wt tk tf tz sk sf sw sl nn nv) : DkX k (mp_up M aw (.inl (k 0, 12, .inl (fun i => nI (wt2 i))))) d av ak at_ aw as_ an qt qs qn sa ra ec tc wc sc nc va kd (wt2) tk tf tz sk sf sw sl nn nv := by
  obtain ⟨h0, hav, hak, hat, haw, has, han, hth, hsp, hsn, hij⟩ := h
  refine ⟨(mp_up_n (mp_ne h0 haw (by simp))).trans h0, (mp_up_n (mp_ne hav haw (by simp))).trans hav, (mp_up_n (mp_ne hak haw (by simp))).trans hak, (mp_up_n (mp_ne hat haw (by simp))).trans hat, mp_up_s _ _ _, (mp_up_n (mp_ne has haw (by simp))).trans has, (mp_up_n (mp_ne han haw (by simp))).trans han, ?_, ?_, ?_, ?_⟩
  · exact fun i hi => by
      obtain ⟨a, h1, h2⟩ := hth i hi
      exact ⟨a, h1, (mp_up_n (mp_ne h2 haw (by simp))).trans h2⟩
  · exact fun i hi => by
      obtain ⟨a, h1, h2⟩ := hsp i hi
      exact ⟨a, h1, (mp_up_n (mp_ne h2 haw (by simp))).trans h2⟩
  · exact fun i hi => by
      rcases hsn i hi with h1 | ⟨h1, h2, cn, g, h3, h4, h5⟩
      · exact Or.inl h1
      · exact Or.inr ⟨h1, h2, cn, g, (mp_up_n (mp_ne h3 haw (by simp))).trans h3, (mp_up_n (mp_ne h4 haw (by simp))).trans h4, h5⟩
  · exact hij
theorem DkX.setT {k : Nat → ClassId} {M : mp_M} {d av ak at_ aw as_ an : Nat} {qt qs qn : Nat → Option Nat} {sa ra : Nat → Nat} {ec tc wc sc nc : Nat} {va : Nat → Int64} {kd wt tk tf tz sk sf sw sl nn : Nat → Nat} {nv : Nat → Nat → Int64} (q : Option Nat) (h : DkX k M d av ak at_ aw as_ an qt qs qn sa ra ec tc wc sc nc va kd wt tk tf tz sk sf sw sl nn nv) : DkX k (mp_up M at_ (.inl (k 2, 300, .inr (.inr (.inr (.inr (va_up qt tc q))))))) d av ak at_ aw as_ an (va_up qt tc q) qs qn sa ra ec tc wc sc nc va kd wt tk tf tz sk sf sw sl nn nv := by
  obtain ⟨h0, hav, hak, hat, haw, has, han, hth, hsp, hsn, hij⟩ := h
  refine ⟨(mp_up_n (mp_ne h0 hat (by simp))).trans h0, (mp_up_n (mp_ne hav hat (by simp))).trans hav, (mp_up_n (mp_ne hak hat (by simp))).trans hak, mp_up_s _ _ _, (mp_up_n (mp_ne haw hat (by simp))).trans haw, (mp_up_n (mp_ne has hat (by simp))).trans has, (mp_up_n (mp_ne han hat (by simp))).trans han, ?_, ?_, ?_, ?_⟩
  · exact fun i hi => by
      obtain ⟨a, h1, h2⟩ := hth i hi
      exact ⟨a, by rw [va_up_ne _ _ (by omega)]; exact h1, (mp_up_n (mp_ne h2 hat (by simp))).trans h2⟩
  · exact fun i hi => by
      obtain ⟨a, h1, h2⟩ := hsp i hi
      exact ⟨a, h1, (mp_up_n (mp_ne h2 hat (by simp))).trans h2⟩
  · exact fun i hi => by
      rcases hsn i hi with h1 | ⟨h1, h2, cn, g, h3, h4, h5⟩
      · exact Or.inl h1
      · exact Or.inr ⟨h1, h2, cn, g, (mp_up_n (mp_ne h3 hat (by simp))).trans h3, (mp_up_n (mp_ne h4 hat (by simp))).trans h4, h5⟩
  · exact hij
theorem DkX.setS {k : Nat → ClassId} {M : mp_M} {d av ak at_ aw as_ an : Nat} {qt qs qn : Nat → Option Nat} {sa ra : Nat → Nat} {ec tc wc sc nc : Nat} {va : Nat → Int64} {kd wt tk tf tz sk sf sw sl nn : Nat → Nat} {nv : Nat → Nat → Int64} (q : Option Nat) (h : DkX k M d av ak at_ aw as_ an qt qs qn sa ra ec tc wc sc nc va kd wt tk tf tz sk sf sw sl nn nv) : DkX k (mp_up M as_ (.inl (k 3, 100, .inr (.inr (.inr (.inr (va_up qs sc q))))))) d av ak at_ aw as_ an qt (va_up qs sc q) qn sa ra ec tc wc sc nc va kd wt tk tf tz sk sf sw sl nn nv := by
  obtain ⟨h0, hav, hak, hat, haw, has, han, hth, hsp, hsn, hij⟩ := h
  refine ⟨(mp_up_n (mp_ne h0 has (by simp))).trans h0, (mp_up_n (mp_ne hav has (by simp))).trans hav, (mp_up_n (mp_ne hak has (by simp))).trans hak, (mp_up_n (mp_ne hat has (by simp))).trans hat, (mp_up_n (mp_ne haw has (by simp))).trans haw, mp_up_s _ _ _, (mp_up_n (mp_ne han has (by simp))).trans han, ?_, ?_, ?_, ?_⟩
  · exact fun i hi => by
      obtain ⟨a, h1, h2⟩ := hth i hi
      exact ⟨a, h1, (mp_up_n (mp_ne h2 has (by simp))).trans h2⟩
  · exact fun i hi => by
      obtain ⟨a, h1, h2⟩ := hsp i hi
      exact ⟨a, by rw [va_up_ne _ _ (by omega)]; exact h1, (mp_up_n (mp_ne h2 has (by simp))).trans h2⟩
  · exact fun i hi => by
      rcases hsn i hi with h1 | ⟨h1, h2, cn, g, h3, h4, h5⟩
      · exact Or.inl h1
      · exact Or.inr ⟨h1, h2, cn, g, (mp_up_n (mp_ne h3 has (by simp))).trans h3, (mp_up_n (mp_ne h4 has (by simp))).trans h4, h5⟩
  · exact hij
theorem DkX.cntE {k : Nat → ClassId} {M : mp_M} {d av ak at_ aw as_ an : Nat} {qt qs qn : Nat → Option Nat} {sa ra : Nat → Nat} {ec tc wc sc nc : Nat} {va : Nat → Int64} {kd wt tk tf tz sk sf sw sl nn : Nat → Nat} {nv : Nat → Nat → Int64} (ec2 : Nat) (h : DkX k M d av ak at_ aw as_ an qt qs qn sa ra ec tc wc sc nc va kd wt tk tf tz sk sf sw sl nn nv) : DkX k (mp_up M d (.inr (0, [.ref av, .ref ak, .int (nI (ec2)), .ref at_, .int (nI tc), .ref aw, .int (nI wc), .ref as_, .int (nI sc), .ref an, .int (nI nc)]))) d av ak at_ aw as_ an qt qs qn sa ra (ec2) tc wc sc nc va kd wt tk tf tz sk sf sw sl nn nv := by
  obtain ⟨h0, hav, hak, hat, haw, has, han, hth, hsp, hsn, hij⟩ := h
  refine ⟨mp_up_s _ _ _, (mp_up_n (mp_ne hav h0 (by simp))).trans hav, (mp_up_n (mp_ne hak h0 (by simp))).trans hak, (mp_up_n (mp_ne hat h0 (by simp))).trans hat, (mp_up_n (mp_ne haw h0 (by simp))).trans haw, (mp_up_n (mp_ne has h0 (by simp))).trans has, (mp_up_n (mp_ne han h0 (by simp))).trans han, ?_, ?_, ?_, ?_⟩
  · exact fun i hi => by
      obtain ⟨a, h1, h2⟩ := hth i hi
      exact ⟨a, h1, (mp_up_n (mp_ne h2 h0 (by simp))).trans h2⟩
  · exact fun i hi => by
      obtain ⟨a, h1, h2⟩ := hsp i hi
      exact ⟨a, h1, (mp_up_n (mp_ne h2 h0 (by simp))).trans h2⟩
  · exact fun i hi => by
      rcases hsn i hi with h1 | ⟨h1, h2, cn, g, h3, h4, h5⟩
      · exact Or.inl h1
      · exact Or.inr ⟨h1, h2, cn, g, (mp_up_n (mp_ne h3 h0 (by simp))).trans h3, (mp_up_n (mp_ne h4 h0 (by simp))).trans h4, h5⟩
  · exact hij
theorem DkX.cntW {k : Nat → ClassId} {M : mp_M} {d av ak at_ aw as_ an : Nat} {qt qs qn : Nat → Option Nat} {sa ra : Nat → Nat} {ec tc wc sc nc : Nat} {va : Nat → Int64} {kd wt tk tf tz sk sf sw sl nn : Nat → Nat} {nv : Nat → Nat → Int64} (wc2 : Nat) (h : DkX k M d av ak at_ aw as_ an qt qs qn sa ra ec tc wc sc nc va kd wt tk tf tz sk sf sw sl nn nv) : DkX k (mp_up M d (.inr (0, [.ref av, .ref ak, .int (nI ec), .ref at_, .int (nI tc), .ref aw, .int (nI (wc2)), .ref as_, .int (nI sc), .ref an, .int (nI nc)]))) d av ak at_ aw as_ an qt qs qn sa ra ec tc (wc2) sc nc va kd wt tk tf tz sk sf sw sl nn nv := by
  obtain ⟨h0, hav, hak, hat, haw, has, han, hth, hsp, hsn, hij⟩ := h
  refine ⟨mp_up_s _ _ _, (mp_up_n (mp_ne hav h0 (by simp))).trans hav, (mp_up_n (mp_ne hak h0 (by simp))).trans hak, (mp_up_n (mp_ne hat h0 (by simp))).trans hat, (mp_up_n (mp_ne haw h0 (by simp))).trans haw, (mp_up_n (mp_ne has h0 (by simp))).trans has, (mp_up_n (mp_ne han h0 (by simp))).trans han, ?_, ?_, ?_, ?_⟩
  · exact fun i hi => by
      obtain ⟨a, h1, h2⟩ := hth i hi
      exact ⟨a, h1, (mp_up_n (mp_ne h2 h0 (by simp))).trans h2⟩
  · exact fun i hi => by
      obtain ⟨a, h1, h2⟩ := hsp i hi
      exact ⟨a, h1, (mp_up_n (mp_ne h2 h0 (by simp))).trans h2⟩
  · exact fun i hi => by
      rcases hsn i hi with h1 | ⟨h1, h2, cn, g, h3, h4, h5⟩
      · exact Or.inl h1
      · exact Or.inr ⟨h1, h2, cn, g, (mp_up_n (mp_ne h3 h0 (by simp))).trans h3, (mp_up_n (mp_ne h4 h0 (by simp))).trans h4, h5⟩
  · exact hij
theorem DkX.cntT {k : Nat → ClassId} {M : mp_M} {d av ak at_ aw as_ an : Nat} {qt qs qn : Nat → Option Nat} {sa ra : Nat → Nat} {ec tc wc sc nc : Nat} {va : Nat → Int64} {kd wt tk tf tz sk sf sw sl nn : Nat → Nat} {nv : Nat → Nat → Int64} (a x y z : Nat) (ha : qt tc = some a) (hM : M a = some (.inr (1, [.int (nI x), .int (nI y), .int (nI z)]))) (h : DkX k M d av ak at_ aw as_ an qt qs qn sa ra ec tc wc sc nc va kd wt tk tf tz sk sf sw sl nn nv) : DkX k (mp_up M d (.inr (0, [.ref av, .ref ak, .int (nI ec), .ref at_, .int (nI (tc + 1)), .ref aw, .int (nI wc), .ref as_, .int (nI sc), .ref an, .int (nI nc)]))) d av ak at_ aw as_ an qt qs qn sa ra ec (tc + 1) wc sc nc va kd wt (nu tk tc x) (nu tf tc y) (nu tz tc z) sk sf sw sl nn nv := by
  obtain ⟨h0, hav, hak, hat, haw, has, han, hth, hsp, hsn, hij⟩ := h
  refine ⟨mp_up_s _ _ _, (mp_up_n (mp_ne hav h0 (by simp))).trans hav, (mp_up_n (mp_ne hak h0 (by simp))).trans hak, (mp_up_n (mp_ne hat h0 (by simp))).trans hat, (mp_up_n (mp_ne haw h0 (by simp))).trans haw, (mp_up_n (mp_ne has h0 (by simp))).trans has, (mp_up_n (mp_ne han h0 (by simp))).trans han, ?_, ?_, ?_, ?_⟩
  · exact fun i hi => by
      by_cases e : i = tc
      · subst e
        rw [nu_s, nu_s, nu_s]
        exact ⟨a, ha, (mp_up_n (mp_ne hM h0 (by simp))).trans hM⟩
      · obtain ⟨a, h1, h2⟩ := hth i (by omega)
        rw [nu_n e, nu_n e, nu_n e]
        exact ⟨a, h1, (mp_up_n (mp_ne h2 h0 (by simp))).trans h2⟩
  · exact fun i hi => by
      obtain ⟨a, h1, h2⟩ := hsp i hi
      exact ⟨a, h1, (mp_up_n (mp_ne h2 h0 (by simp))).trans h2⟩
  · exact fun i hi => by
      rcases hsn i hi with h1 | ⟨h1, h2, cn, g, h3, h4, h5⟩
      · exact Or.inl h1
      · exact Or.inr ⟨h1, h2, cn, g, (mp_up_n (mp_ne h3 h0 (by simp))).trans h3, (mp_up_n (mp_ne h4 h0 (by simp))).trans h4, h5⟩
  · exact hij
theorem DkX.cntS {k : Nat → ClassId} {M : mp_M} {d av ak at_ aw as_ an : Nat} {qt qs qn : Nat → Option Nat} {sa ra : Nat → Nat} {ec tc wc sc nc : Nat} {va : Nat → Int64} {kd wt tk tf tz sk sf sw sl nn : Nat → Nat} {nv : Nat → Nat → Int64} (a x y z b : Nat) (ha : qs sc = some a) (hM : M a = some (.inr (2, [.int (nI x), .int (nI y), .int (nI z), .int (nI b)]))) (h : DkX k M d av ak at_ aw as_ an qt qs qn sa ra ec tc wc sc nc va kd wt tk tf tz sk sf sw sl nn nv) : DkX k (mp_up M d (.inr (0, [.ref av, .ref ak, .int (nI ec), .ref at_, .int (nI tc), .ref aw, .int (nI wc), .ref as_, .int (nI (sc + 1)), .ref an, .int (nI nc)]))) d av ak at_ aw as_ an qt qs qn sa ra ec tc wc (sc + 1) nc va kd wt tk tf tz (nu sk sc x) (nu sf sc y) (nu sw sc z) (nu sl sc b) nn nv := by
  obtain ⟨h0, hav, hak, hat, haw, has, han, hth, hsp, hsn, hij⟩ := h
  refine ⟨mp_up_s _ _ _, (mp_up_n (mp_ne hav h0 (by simp))).trans hav, (mp_up_n (mp_ne hak h0 (by simp))).trans hak, (mp_up_n (mp_ne hat h0 (by simp))).trans hat, (mp_up_n (mp_ne haw h0 (by simp))).trans haw, (mp_up_n (mp_ne has h0 (by simp))).trans has, (mp_up_n (mp_ne han h0 (by simp))).trans han, ?_, ?_, ?_, ?_⟩
  · exact fun i hi => by
      obtain ⟨a, h1, h2⟩ := hth i hi
      exact ⟨a, h1, (mp_up_n (mp_ne h2 h0 (by simp))).trans h2⟩
  · exact fun i hi => by
      by_cases e : i = sc
      · subst e
        rw [nu_s, nu_s, nu_s, nu_s]
        exact ⟨a, ha, (mp_up_n (mp_ne hM h0 (by simp))).trans hM⟩
      · obtain ⟨a, h1, h2⟩ := hsp i (by omega)
        rw [nu_n e, nu_n e, nu_n e, nu_n e]
        exact ⟨a, h1, (mp_up_n (mp_ne h2 h0 (by simp))).trans h2⟩
  · exact fun i hi => by
      rcases hsn i hi with h1 | ⟨h1, h2, cn, g, h3, h4, h5⟩
      · exact Or.inl h1
      · exact Or.inr ⟨h1, h2, cn, g, (mp_up_n (mp_ne h3 h0 (by simp))).trans h3, (mp_up_n (mp_ne h4 h0 (by simp))).trans h4, h5⟩
  · exact hij
theorem DkX.cntNle {k : Nat → ClassId} {M : mp_M} {d av ak at_ aw as_ an : Nat} {qt qs qn : Nat → Option Nat} {sa ra : Nat → Nat} {ec tc wc sc nc : Nat} {va : Nat → Int64} {kd wt tk tf tz sk sf sw sl nn : Nat → Nat} {nv : Nat → Nat → Int64} (nc2 : Nat) (hle : nc2 ≤ nc) (h : DkX k M d av ak at_ aw as_ an qt qs qn sa ra ec tc wc sc nc va kd wt tk tf tz sk sf sw sl nn nv) : DkX k (mp_up M d (.inr (0, [.ref av, .ref ak, .int (nI ec), .ref at_, .int (nI tc), .ref aw, .int (nI wc), .ref as_, .int (nI sc), .ref an, .int (nI (nc2))]))) d av ak at_ aw as_ an qt qs qn sa ra ec tc wc sc (nc2) va kd wt tk tf tz sk sf sw sl nn nv := by
  obtain ⟨h0, hav, hak, hat, haw, has, han, hth, hsp, hsn, hij⟩ := h
  refine ⟨mp_up_s _ _ _, (mp_up_n (mp_ne hav h0 (by simp))).trans hav, (mp_up_n (mp_ne hak h0 (by simp))).trans hak, (mp_up_n (mp_ne hat h0 (by simp))).trans hat, (mp_up_n (mp_ne haw h0 (by simp))).trans haw, (mp_up_n (mp_ne has h0 (by simp))).trans has, (mp_up_n (mp_ne han h0 (by simp))).trans han, ?_, ?_, ?_, ?_⟩
  · exact fun i hi => by
      obtain ⟨a, h1, h2⟩ := hth i hi
      exact ⟨a, h1, (mp_up_n (mp_ne h2 h0 (by simp))).trans h2⟩
  · exact fun i hi => by
      obtain ⟨a, h1, h2⟩ := hsp i hi
      exact ⟨a, h1, (mp_up_n (mp_ne h2 h0 (by simp))).trans h2⟩
  · exact fun i hi => by
      rcases hsn i hi with ⟨h1, h1'⟩ | ⟨h1, h2, cn, g, h3, h4, h5, h6⟩
      · exact Or.inl ⟨h1, by omega⟩
      · exact Or.inr ⟨h1, h2, cn, g, (mp_up_n (mp_ne h3 h0 (by simp))).trans h3, (mp_up_n (mp_ne h4 h0 (by simp))).trans h4, h5, fun h => h6 (by omega)⟩
  · exact hij
theorem DkX.fresh {k : Nat → ClassId} {M : mp_M} {d av ak at_ aw as_ an : Nat} {qt qs qn : Nat → Option Nat} {sa ra : Nat → Nat} {ec tc wc sc nc : Nat} {va : Nat → Int64} {kd wt tk tf tz sk sf sw sl nn : Nat → Nat} {nv : Nat → Nat → Int64} (q : Nat) (e : va_E) (hq : M q = none) (h : DkX k M d av ak at_ aw as_ an qt qs qn sa ra ec tc wc sc nc va kd wt tk tf tz sk sf sw sl nn nv) : DkX k (mp_up M q e) d av ak at_ aw as_ an qt qs qn sa ra ec tc wc sc nc va kd wt tk tf tz sk sf sw sl nn nv := by
  obtain ⟨h0, hav, hak, hat, haw, has, han, hth, hsp, hsn, hij⟩ := h
  have nq : ∀ {a : Nat} {x : va_E}, M a = some x → mp_up M q e a = some x := fun {a x} hx => (mp_up_n (fun z => by rw [z, hq] at hx; cases hx)).trans hx
  refine ⟨nq h0, nq hav, nq hak, nq hat, nq haw, nq has, nq han, ?_, ?_, ?_, ?_⟩
  · exact fun i hi => by
      obtain ⟨a, h1, h2⟩ := hth i hi
      exact ⟨a, h1, nq h2⟩
  · exact fun i hi => by
      obtain ⟨a, h1, h2⟩ := hsp i hi
      exact ⟨a, h1, nq h2⟩
  · exact fun i hi => by
      rcases hsn i hi with h1 | ⟨h1, h2, cn, g, h3, h4, h5⟩
      · exact Or.inl h1
      · exact Or.inr ⟨h1, h2, cn, g, nq h3, nq h4, h5⟩
  · exact hij
end
section
abbrev rm_D_isKind : Room := { frames := 0, cells := 0, slots := 0, locals := 0 }
set_option maxHeartbeats 4000000 in
set_option maxRecDepth 100000 in
theorem kD_isKind (l : Launch) (D : va_G) (k : Nat → ClassId) (M : mp_M) (x : Int32) : mp_Met l yD_isKind (Cond.code yD_isKind cD_isKind 1 (some .boolean) :: bw) rm_D_isKind D cls5 (tys6 k) [.int x] M (va_Qi (fun r M1 => M1 = M ∧ ((1 ≤ x.toInt ∧ x.toInt ≤ 7 ∧ r = nI 1) ∨ (¬ (1 ≤ x.toInt ∧ x.toInt ≤ 7) ∧ r = nI 0)))) 0 0 := by
  refine mp_Met.of (by decide) (Nat.le_of_ble_eq_true rfl) ?_
  intro p e s m below meth c hx hb hr hml hown hts hlocks hin ls hl I
  have hl : lv_has ls 1 [(0, .int x)] := hl
  refine lv_iload_n hx hb dD_isKind_0 rfl (lv_at hl 0 rfl) ?_
  refine lv_iconst (v := nI 1) hx hb dD_isKind_1 (by decide) ?_
  refine zz_icmp_lt (tgt := 15) hx hb rfl (nI_toInt (by decide)) dD_isKind_2 (by decide) (fun c_1 => ?_) (fun c_1 => ?_)
  · refine lv_iconst (v := nI 0) hx hb dD_isKind_15 (by decide) ?_
    exact mp_zret hx hb hr hlocks I rfl (Nat.le_of_ble_eq_true rfl) (Nat.le_of_ble_eq_true rfl) dD_isKind_16 ⟨rfl, Or.inr ⟨by omega, rfl⟩⟩
  · refine lv_iload_n hx hb dD_isKind_5 rfl (lv_at hl 0 rfl) ?_
    refine lv_bipush (v := nI 7) hx hb dD_isKind_6 (by decide) ?_
    refine zz_icmp_gt (tgt := 15) hx hb rfl (nI_toInt (by decide)) dD_isKind_8 (by decide) (fun c_2 => ?_) (fun c_2 => ?_)
    · refine lv_iconst (v := nI 0) hx hb dD_isKind_15 (by decide) ?_
      exact mp_zret hx hb hr hlocks I rfl (Nat.le_of_ble_eq_true rfl) (Nat.le_of_ble_eq_true rfl) dD_isKind_16 ⟨rfl, Or.inr ⟨by omega, rfl⟩⟩
    · refine lv_iconst (v := nI 1) hx hb dD_isKind_11 (by decide) ?_
      refine lv_goto (tgt := 16) hx hb dD_isKind_12 (by decide) ?_
      exact mp_zret hx hb hr hlocks I rfl (Nat.le_of_ble_eq_true rfl) (Nat.le_of_ble_eq_true rfl) dD_isKind_16 ⟨rfl, Or.inl ⟨by omega, by omega, rfl⟩⟩
abbrev rm_M_isKind : Room := { frames := 0, cells := 0, slots := 0, locals := 0 }
set_option maxHeartbeats 4000000 in
set_option maxRecDepth 100000 in
theorem kM_isKind (l : Launch) (D : va_G) (k : Nat → ClassId) (M : mp_M) (x : Int32) : mp_Met l yM_isKind (Cond.code yM_isKind cM_isKind 1 (some .boolean) :: bw) rm_M_isKind D cls5 (tys6 k) [.int x] M (va_Qi (fun r M1 => M1 = M ∧ ((1 ≤ x.toInt ∧ x.toInt ≤ 7 ∧ r = nI 1) ∨ (¬ (1 ≤ x.toInt ∧ x.toInt ≤ 7) ∧ r = nI 0)))) 0 0 := by
  refine mp_Met.of (by decide) (Nat.le_of_ble_eq_true rfl) ?_
  intro p e s m below meth c hx hb hr hml hown hts hlocks hin ls hl I
  have hl : lv_has ls 1 [(0, .int x)] := hl
  refine lv_iload_n hx hb dM_isKind_0 rfl (lv_at hl 0 rfl) ?_
  refine lv_iconst (v := nI 1) hx hb dM_isKind_1 (by decide) ?_
  refine zz_icmp_lt (tgt := 15) hx hb rfl (nI_toInt (by decide)) dM_isKind_2 (by decide) (fun c_1 => ?_) (fun c_1 => ?_)
  · refine lv_iconst (v := nI 0) hx hb dM_isKind_15 (by decide) ?_
    exact mp_zret hx hb hr hlocks I rfl (Nat.le_of_ble_eq_true rfl) (Nat.le_of_ble_eq_true rfl) dM_isKind_16 ⟨rfl, Or.inr ⟨by omega, rfl⟩⟩
  · refine lv_iload_n hx hb dM_isKind_5 rfl (lv_at hl 0 rfl) ?_
    refine lv_bipush (v := nI 7) hx hb dM_isKind_6 (by decide) ?_
    refine zz_icmp_gt (tgt := 15) hx hb rfl (nI_toInt (by decide)) dM_isKind_8 (by decide) (fun c_2 => ?_) (fun c_2 => ?_)
    · refine lv_iconst (v := nI 0) hx hb dM_isKind_15 (by decide) ?_
      exact mp_zret hx hb hr hlocks I rfl (Nat.le_of_ble_eq_true rfl) (Nat.le_of_ble_eq_true rfl) dM_isKind_16 ⟨rfl, Or.inr ⟨by omega, rfl⟩⟩
    · refine lv_iconst (v := nI 1) hx hb dM_isKind_11 (by decide) ?_
      refine lv_goto (tgt := 16) hx hb dM_isKind_12 (by decide) ?_
      exact mp_zret hx hb hr hlocks I rfl (Nat.le_of_ble_eq_true rfl) (Nat.le_of_ble_eq_true rfl) dM_isKind_16 ⟨rfl, Or.inl ⟨by omega, by omega, rfl⟩⟩
abbrev rm_T_holds : Room := { frames := 0, cells := 0, slots := 0, locals := 0 }
set_option maxHeartbeats 4000000 in
set_option maxRecDepth 100000 in
theorem kT_holds (l : Launch) (D : va_G) (k : Nat → ClassId) (M : mp_M) (h0 kd tf tz : Nat) (x y : Int32) (hT : M h0 = some (.inr (1, [.int (nI kd), .int (nI tf), .int (nI tz)]))) (hz : tz < 2147483648) : mp_Met l yT_holds (Cond.code yT_holds cT_holds 3 (some .boolean) :: bw) rm_T_holds D cls5 (tys6 k) [.ref h0, .int x, .int y] M (va_Qi (fun r M1 => M1 = M ∧ (((0 ≤ x.toInt ∧ 0 ≤ y.toInt ∧ x.toInt + y.toInt ≤ (tz : Int)) ∧ r = nI 1) ∨ (¬ (0 ≤ x.toInt ∧ 0 ≤ y.toInt ∧ x.toInt + y.toInt ≤ (tz : Int)) ∧ r = nI 0)))) 0 0 := by
  refine mp_Met.of (by decide) (Nat.le_of_ble_eq_true rfl) ?_
  intro p e s m below meth c hx hb hr hml hown hts hlocks hin ls hl I
  have hl : lv_has ls 3 [(0, .ref h0), (1, .int x), (2, .int y)] := hl
  refine lv_iload_n hx hb dT_holds_0 rfl (lv_at hl 1 rfl) ?_
  refine zz_if_lt (tgt := 30) hx hb rfl dT_holds_1 (by decide) (fun c_1 => ?_) (fun c_1 => ?_)
  · refine lv_iconst (v := nI 0) hx hb dT_holds_30 (by decide) ?_
    exact mp_zret hx hb hr hlocks I rfl (Nat.le_of_ble_eq_true rfl) (Nat.le_of_ble_eq_true rfl) dT_holds_31 ⟨rfl, Or.inr ⟨by omega, rfl⟩⟩
  · refine lv_iload_n hx hb dT_holds_4 rfl (lv_at hl 2 rfl) ?_
    refine zz_if_lt (tgt := 30) hx hb rfl dT_holds_5 (by decide) (fun c_2 => ?_) (fun c_2 => ?_)
    · refine lv_iconst (v := nI 0) hx hb dT_holds_30 (by decide) ?_
      exact mp_zret hx hb hr hlocks I rfl (Nat.le_of_ble_eq_true rfl) (Nat.le_of_ble_eq_true rfl) dT_holds_31 ⟨rfl, Or.inr ⟨by omega, rfl⟩⟩
    · refine lv_iload_n hx hb dT_holds_8 rfl (lv_at hl 1 rfl) ?_
      refine lv_aload_n hx hb dT_holds_9 rfl (lv_at hl 0 rfl) ?_
      refine mp_get (v := .int (nI tz)) hx hb hts inT hown I hT rfl 2 (by decide) (hts _ bw_87) (fun _ h9 => h9) rfl dT_holds_10 ?_
      refine zz_icmp_gt (tgt := 30) hx hb rfl (nI_toInt (by first | assumption | omega)) dT_holds_13 (by decide) (fun c_3 => ?_) (fun c_3 => ?_)
      · refine lv_iconst (v := nI 0) hx hb dT_holds_30 (by decide) ?_
        exact mp_zret hx hb hr hlocks I rfl (Nat.le_of_ble_eq_true rfl) (Nat.le_of_ble_eq_true rfl) dT_holds_31 ⟨rfl, Or.inr ⟨by omega, rfl⟩⟩
      · obtain ⟨xn, hn_xn, rfl, hz_xn⟩ := i32_nat (x := x) (by omega)
        refine lv_iload_n hx hb dT_holds_16 rfl (lv_at hl 2 rfl) ?_
        refine lv_aload_n hx hb dT_holds_17 rfl (lv_at hl 0 rfl) ?_
        refine mp_get (v := .int (nI tz)) hx hb hts inT hown I hT rfl 2 (by decide) (hts _ bw_87) (fun _ h9 => h9) rfl dT_holds_18 ?_
        refine lv_iload_n hx hb dT_holds_21 rfl (lv_at hl 1 rfl) ?_
        refine zz_isub hx hb (by omega) dT_holds_22 ?_
        refine zz_icmp_gt (tgt := 30) hx hb rfl (nI_toInt (by first | assumption | omega)) dT_holds_23 (by decide) (fun c_4 => ?_) (fun c_4 => ?_)
        · refine lv_iconst (v := nI 0) hx hb dT_holds_30 (by decide) ?_
          exact mp_zret hx hb hr hlocks I rfl (Nat.le_of_ble_eq_true rfl) (Nat.le_of_ble_eq_true rfl) dT_holds_31 ⟨rfl, Or.inr ⟨by omega, rfl⟩⟩
        · refine lv_iconst (v := nI 1) hx hb dT_holds_26 (by decide) ?_
          refine lv_goto (tgt := 31) hx hb dT_holds_27 (by decide) ?_
          exact mp_zret hx hb hr hlocks I rfl (Nat.le_of_ble_eq_true rfl) (Nat.le_of_ble_eq_true rfl) dT_holds_31 ⟨rfl, Or.inl ⟨by omega, rfl⟩⟩
abbrev rm_T_init : Room := { frames := 1, cells := 0, slots := 0, locals := 20 }
set_option maxHeartbeats 4000000 in
set_option maxRecDepth 100000 in
theorem kT_init (l : Launch) (D : va_G) (k : Nat → ClassId) (M : mp_M) (h0 : Nat) (x y z : Int32) (hT : M h0 = some (.inr (1, [.int 0, .int 0, .int 0]))) : mp_Met l yT_init (Cond.code yT_init cT_init 4 none :: bw) rm_T_init D cls5 (tys6 k) [.ref h0, .int x, .int y, .int z] M (va_Qv (fun M1 => M1 = mp_up M h0 (.inr (1, [.int x, .int y, .int z])))) 0 0 := by
  refine mp_Met.of (by decide) (Nat.le_of_ble_eq_true rfl) ?_
  intro p e s m below meth c hx hb hr hml hown hts hlocks hin ls hl I
  have hl : lv_has ls 4 [(0, .ref h0), (1, .int x), (2, .int y), (3, .int z)] := hl
  refine lv_aload_n hx hb dT_init_0 rfl (lv_at hl 0 rfl) ?_
  refine W.objInit hx hb hown (hts _ bw_82) (hts _ bw_18) (hts _ bw_19) rfl (by rw [hml]; exact hl.1) rfl dT_init_1 (Nat.le_of_ble_eq_true rfl) (Nat.le_of_ble_eq_true rfl) ?_
  refine W.eq (g2 := F0 m 4 ls []) rfl ?_
  refine lv_aload_n hx hb dT_init_4 rfl (lv_at hl 0 rfl) ?_
  refine lv_iload_n hx hb dT_init_5 rfl (lv_at hl 1 rfl) ?_
  refine mp_putF (v := .int x) (ty := .int) hx hb hts inT tyT okT nmT hown I hT rfl 0 (by decide) (hts _ bw_83) (fun _ h9 => h9) rfl hin rfl (by decide +kernel) rfl rfl (Nat.le_of_ble_eq_true rfl) dT_init_6 (fun H locs I => ?_)
  have I : mp_I D cls5 (tys6 k) s _ s.heap H locs (mp_up M h0 (.inr (1, [.int x, .int 0, .int 0]))) := I
  have hT_n : mp_up M h0 (.inr (1, [.int x, .int 0, .int 0])) h0 = some (.inr (1, [.int x, .int 0, .int 0])) := mp_up_s _ _ _
  generalize eM_2 : mp_up M h0 (.inr (1, [.int x, .int 0, .int 0])) = M_1 at I hT_n
  have hT__M_1 := hT_n
  clear hT_n
  refine lv_aload_n hx hb dT_init_9 rfl (lv_at hl 0 rfl) ?_
  refine lv_iload_n hx hb dT_init_10 rfl (lv_at hl 2 rfl) ?_
  refine mp_putF (v := .int y) (ty := .int) hx hb hts inT tyT okT nmT hown I hT__M_1 rfl 1 (by decide) (hts _ bw_85) (fun _ h9 => h9) rfl hin rfl (by decide +kernel) rfl rfl (Nat.le_of_ble_eq_true rfl) dT_init_11 (fun H locs I => ?_)
  have I : mp_I D cls5 (tys6 k) s _ s.heap H locs (mp_up M_1 h0 (.inr (1, [.int x, .int y, .int 0]))) := I
  have hT__M_1_n : mp_up M_1 h0 (.inr (1, [.int x, .int y, .int 0])) h0 = some (.inr (1, [.int x, .int y, .int 0])) := mp_up_s _ _ _
  generalize eM_4 : mp_up M_1 h0 (.inr (1, [.int x, .int y, .int 0])) = M_3 at I hT__M_1_n
  have hT__M_3 := hT__M_1_n
  clear hT__M_1_n
  refine lv_aload_n hx hb dT_init_14 rfl (lv_at hl 0 rfl) ?_
  refine lv_iload_n hx hb dT_init_15 rfl (lv_at hl 3 rfl) ?_
  refine mp_putF (v := .int z) (ty := .int) hx hb hts inT tyT okT nmT hown I hT__M_3 rfl 2 (by decide) (hts _ bw_87) (fun _ h9 => h9) rfl hin rfl (by decide +kernel) rfl rfl (Nat.le_of_ble_eq_true rfl) dT_init_16 (fun H locs I => ?_)
  have I : mp_I D cls5 (tys6 k) s _ s.heap H locs (mp_up M_3 h0 (.inr (1, [.int x, .int y, .int z]))) := I
  have hT__M_3_n : mp_up M_3 h0 (.inr (1, [.int x, .int y, .int z])) h0 = some (.inr (1, [.int x, .int y, .int z])) := mp_up_s _ _ _
  generalize eM_6 : mp_up M_3 h0 (.inr (1, [.int x, .int y, .int z])) = M_5 at I hT__M_3_n
  have hT__M_5 := hT__M_3_n
  clear hT__M_3_n
  exact mp_vret hx hb hr hlocks I (Nat.le_of_ble_eq_true rfl) (Nat.le_of_ble_eq_true rfl) dT_init_19 (by rw [← eM_6]; rw [← eM_4]; rw [← eM_2]; rw [mp_upup, mp_upup])
abbrev rm_S_init : Room := { frames := 1, cells := 0, slots := 0, locals := 20 }
set_option maxHeartbeats 4000000 in
set_option maxRecDepth 100000 in
theorem kS_init (l : Launch) (D : va_G) (k : Nat → ClassId) (M : mp_M) (h0 : Nat) (x y z : Int32) (b : Nat) (hbb : b ≤ 1) (hT : M h0 = some (.inr (2, [.int 0, .int 0, .int 0, .int 0]))) : mp_Met l yS_init (Cond.code yS_init cS_init 5 none :: bw) rm_S_init D cls5 (tys6 k) [.ref h0, .int x, .int y, .int z, .int (nI b)] M (va_Qv (fun M1 => M1 = mp_up M h0 (.inr (2, [.int x, .int y, .int z, .int (nI b)])))) 0 0 := by
  refine mp_Met.of (by decide) (Nat.le_of_ble_eq_true rfl) ?_
  intro p e s m below meth c hx hb hr hml hown hts hlocks hin ls hl I
  have hl : lv_has ls 5 [(0, .ref h0), (1, .int x), (2, .int y), (3, .int z), (4, .int (nI b))] := hl
  refine lv_aload_n hx hb dS_init_0 rfl (lv_at hl 0 rfl) ?_
  refine W.objInit hx hb hown (hts _ bw_131) (hts _ bw_18) (hts _ bw_19) rfl (by rw [hml]; exact hl.1) rfl dS_init_1 (Nat.le_of_ble_eq_true rfl) (Nat.le_of_ble_eq_true rfl) ?_
  refine W.eq (g2 := F0 m 4 ls []) rfl ?_
  refine lv_aload_n hx hb dS_init_4 rfl (lv_at hl 0 rfl) ?_
  refine lv_iload_n hx hb dS_init_5 rfl (lv_at hl 1 rfl) ?_
  refine mp_putF (v := .int x) (ty := .int) hx hb hts inS tyS okS nmS hown I hT rfl 0 (by decide) (hts _ bw_132) (fun _ h9 => h9) rfl hin rfl (by decide +kernel) rfl rfl (Nat.le_of_ble_eq_true rfl) dS_init_6 (fun H locs I => ?_)
  have I : mp_I D cls5 (tys6 k) s _ s.heap H locs (mp_up M h0 (.inr (2, [.int x, .int 0, .int 0, .int 0]))) := I
  have hT_n : mp_up M h0 (.inr (2, [.int x, .int 0, .int 0, .int 0])) h0 = some (.inr (2, [.int x, .int 0, .int 0, .int 0])) := mp_up_s _ _ _
  generalize eM_2 : mp_up M h0 (.inr (2, [.int x, .int 0, .int 0, .int 0])) = M_1 at I hT_n
  have hT__M_1 := hT_n
  clear hT_n
  refine lv_aload_n hx hb dS_init_9 rfl (lv_at hl 0 rfl) ?_
  refine lv_iload_n hx hb dS_init_10 rfl (lv_at hl 2 rfl) ?_
  refine mp_putF (v := .int y) (ty := .int) hx hb hts inS tyS okS nmS hown I hT__M_1 rfl 1 (by decide) (hts _ bw_134) (fun _ h9 => h9) rfl hin rfl (by decide +kernel) rfl rfl (Nat.le_of_ble_eq_true rfl) dS_init_11 (fun H locs I => ?_)
  have I : mp_I D cls5 (tys6 k) s _ s.heap H locs (mp_up M_1 h0 (.inr (2, [.int x, .int y, .int 0, .int 0]))) := I
  have hT__M_1_n : mp_up M_1 h0 (.inr (2, [.int x, .int y, .int 0, .int 0])) h0 = some (.inr (2, [.int x, .int y, .int 0, .int 0])) := mp_up_s _ _ _
  generalize eM_4 : mp_up M_1 h0 (.inr (2, [.int x, .int y, .int 0, .int 0])) = M_3 at I hT__M_1_n
  have hT__M_3 := hT__M_1_n
  clear hT__M_1_n
  refine lv_aload_n hx hb dS_init_14 rfl (lv_at hl 0 rfl) ?_
  refine lv_iload_n hx hb dS_init_15 rfl (lv_at hl 3 rfl) ?_
  refine mp_putF (v := .int z) (ty := .int) hx hb hts inS tyS okS nmS hown I hT__M_3 rfl 2 (by decide) (hts _ bw_136) (fun _ h9 => h9) rfl hin rfl (by decide +kernel) rfl rfl (Nat.le_of_ble_eq_true rfl) dS_init_16 (fun H locs I => ?_)
  have I : mp_I D cls5 (tys6 k) s _ s.heap H locs (mp_up M_3 h0 (.inr (2, [.int x, .int y, .int z, .int 0]))) := I
  have hT__M_3_n : mp_up M_3 h0 (.inr (2, [.int x, .int y, .int z, .int 0])) h0 = some (.inr (2, [.int x, .int y, .int z, .int 0])) := mp_up_s _ _ _
  generalize eM_6 : mp_up M_3 h0 (.inr (2, [.int x, .int y, .int z, .int 0])) = M_5 at I hT__M_3_n
  have hT__M_5 := hT__M_3_n
  clear hT__M_3_n
  refine lv_aload_n hx hb dS_init_19 rfl (lv_at hl 0 rfl) ?_
  refine lv_iload hx hb dS_init_20 (lv_at hl 4 rfl) ?_
  refine mp_putF (v := .int (nI b)) (ty := .boolean) hx hb hts inS tyS okS nmS hown I hT__M_5 rfl 3 (by decide) (hts _ bw_138) (fun _ h9 => h9) rfl hin rfl (by decide +kernel) (nz_nar hbb) (nz_fit hbb) (Nat.le_of_ble_eq_true rfl) dS_init_22 (fun H locs I => ?_)
  have I : mp_I D cls5 (tys6 k) s _ s.heap H locs (mp_up M_5 h0 (.inr (2, [.int x, .int y, .int z, .int (nI b)]))) := I
  have hT__M_5_n : mp_up M_5 h0 (.inr (2, [.int x, .int y, .int z, .int (nI b)])) h0 = some (.inr (2, [.int x, .int y, .int z, .int (nI b)])) := mp_up_s _ _ _
  generalize eM_8 : mp_up M_5 h0 (.inr (2, [.int x, .int y, .int z, .int (nI b)])) = M_7 at I hT__M_5_n
  have hT__M_7 := hT__M_5_n
  clear hT__M_5_n
  exact mp_vret hx hb hr hlocks I (Nat.le_of_ble_eq_true rfl) (Nat.le_of_ble_eq_true rfl) dS_init_25 (by rw [← eM_8]; rw [← eM_6]; rw [← eM_4]; rw [← eM_2]; rw [mp_upup, mp_upup, mp_upup])
def ixb (sf sw sl r : Nat) : Nat := if sl = 0 then sf + r else sf + sw - 1 - r
abbrev rm_S_indexOfByte : Room := { frames := 0, cells := 0, slots := 0, locals := 0 }
set_option maxHeartbeats 4000000 in
set_option maxRecDepth 100000 in
theorem kS_indexOfByte (l : Launch) (D : va_G) (k : Nat → ClassId) (M : mp_M) (h0 sk sf sw sl r : Nat) (hS : M h0 = some (.inr (2, [.int (nI sk), .int (nI sf), .int (nI sw), .int (nI sl)]))) (hsl : sl ≤ 1) (hrw : r < sw) (hbd : sf + sw < 2147483648) : mp_Met l yS_indexOfByte (Cond.code yS_indexOfByte cS_indexOfByte 2 (some .int) :: bw) rm_S_indexOfByte D cls5 (tys6 k) [.ref h0, .int (nI r)] M (va_Qi (fun q M1 => M1 = M ∧ q = nI (ixb sf sw sl r))) 0 0 := by
  refine mp_Met.of (by decide) (Nat.le_of_ble_eq_true rfl) ?_
  intro p e s m below meth c hx hb hr hml hown hts hlocks hin ls hl I
  have hl : lv_has ls 2 [(0, .ref h0), (1, .int (nI r))] := hl
  refine lv_aload_n hx hb dS_indexOfByte_0 rfl (lv_at hl 0 rfl) ?_
  refine mp_get (v := .int (nI sl)) hx hb hts inS hown I hS rfl 3 (by decide) (hts _ bw_138) (fun _ h9 => h9) rfl dS_indexOfByte_1 ?_
  refine zz_if_eq (tgt := 23) hx hb (nI_toInt (by first | assumption | omega)) dS_indexOfByte_4 (by decide) (fun c_1 => ?_) (fun c_1 => ?_)
  · refine lv_aload_n hx hb dS_indexOfByte_23 rfl (lv_at hl 0 rfl) ?_
    refine mp_get (v := .int (nI sf)) hx hb hts inS hown I hS rfl 1 (by decide) (hts _ bw_134) (fun _ h9 => h9) rfl dS_indexOfByte_24 ?_
    refine lv_iload_n hx hb dS_indexOfByte_27 rfl (lv_at hl 1 rfl) ?_
    refine zz_iadd hx hb dS_indexOfByte_28 ?_
    exact mp_iret hx hb hr hlocks I (Nat.le_of_ble_eq_true rfl) (Nat.le_of_ble_eq_true rfl) dS_indexOfByte_29 ⟨rfl, by unfold ixb; split <;> first | rfl | (exfalso; omega)⟩
  · refine lv_aload_n hx hb dS_indexOfByte_7 rfl (lv_at hl 0 rfl) ?_
    refine mp_get (v := .int (nI sf)) hx hb hts inS hown I hS rfl 1 (by decide) (hts _ bw_134) (fun _ h9 => h9) rfl dS_indexOfByte_8 ?_
    refine lv_aload_n hx hb dS_indexOfByte_11 rfl (lv_at hl 0 rfl) ?_
    refine mp_get (v := .int (nI sw)) hx hb hts inS hown I hS rfl 2 (by decide) (hts _ bw_136) (fun _ h9 => h9) rfl dS_indexOfByte_12 ?_
    refine zz_iadd hx hb dS_indexOfByte_15 ?_
    refine lv_iconst (v := nI 1) hx hb dS_indexOfByte_16 (by decide) ?_
    refine zz_isub hx hb (by omega) dS_indexOfByte_17 ?_
    refine lv_iload_n hx hb dS_indexOfByte_18 rfl (lv_at hl 1 rfl) ?_
    refine zz_isub hx hb (by omega) dS_indexOfByte_19 ?_
    refine lv_goto (tgt := 29) hx hb dS_indexOfByte_20 (by decide) ?_
    exact mp_iret hx hb hr hlocks I (Nat.le_of_ble_eq_true rfl) (Nat.le_of_ble_eq_true rfl) dS_indexOfByte_29 ⟨rfl, by unfold ixb; split <;> first | rfl | (exfalso; omega)⟩
abbrev rm_S_overlaps : Room := { frames := 0, cells := 0, slots := 0, locals := 0 }
set_option maxHeartbeats 4000000 in
set_option maxRecDepth 100000 in
theorem kS_overlaps (l : Launch) (D : va_G) (k : Nat → ClassId) (M : mp_M) (h0 h1 sk sf sw sl sk2 sf2 sw2 sl2 : Nat) (hS : M h0 = some (.inr (2, [.int (nI sk), .int (nI sf), .int (nI sw), .int (nI sl)]))) (hS2 : M h1 = some (.inr (2, [.int (nI sk2), .int (nI sf2), .int (nI sw2), .int (nI sl2)]))) (hq1 : sf + sw < 2147483648) (hq2 : sf2 + sw2 < 2147483648) : mp_Met l yS_overlaps (Cond.code yS_overlaps cS_overlaps 2 (some .boolean) :: bw) rm_S_overlaps D cls5 (tys6 k) [.ref h0, .ref h1] M (va_Qi (fun q M1 => M1 = M ∧ (((sf < sf2 + sw2 ∧ sf2 < sf + sw) ∧ q = nI 1) ∨ (¬ (sf < sf2 + sw2 ∧ sf2 < sf + sw) ∧ q = nI 0)))) 0 0 := by
  refine mp_Met.of (by decide) (Nat.le_of_ble_eq_true rfl) ?_
  intro p e s m below meth c hx hb hr hml hown hts hlocks hin ls hl I
  have hl : lv_has ls 2 [(0, .ref h0), (1, .ref h1)] := hl
  refine lv_aload_n hx hb dS_overlaps_0 rfl (lv_at hl 0 rfl) ?_
  refine mp_get (v := .int (nI sf)) hx hb hts inS hown I hS rfl 1 (by decide) (hts _ bw_134) (fun _ h9 => h9) rfl dS_overlaps_1 ?_
  refine lv_aload_n hx hb dS_overlaps_4 rfl (lv_at hl 1 rfl) ?_
  refine mp_get (v := .int (nI sf2)) hx hb hts inS hown I hS2 rfl 1 (by decide) (hts _ bw_134) (fun _ h9 => h9) rfl dS_overlaps_5 ?_
  refine lv_aload_n hx hb dS_overlaps_8 rfl (lv_at hl 1 rfl) ?_
  refine mp_get (v := .int (nI sw2)) hx hb hts inS hown I hS2 rfl 2 (by decide) (hts _ bw_136) (fun _ h9 => h9) rfl dS_overlaps_9 ?_
  refine zz_iadd hx hb dS_overlaps_12 ?_
  refine zz_icmp_ge (tgt := 36) hx hb (nI_toInt (by first | assumption | omega)) (nI_toInt (by first | assumption | omega)) dS_overlaps_13 (by decide) (fun c_1 => ?_) (fun c_1 => ?_)
  · refine lv_iconst (v := nI 0) hx hb dS_overlaps_36 (by decide) ?_
    exact mp_zret hx hb hr hlocks I rfl (Nat.le_of_ble_eq_true rfl) (Nat.le_of_ble_eq_true rfl) dS_overlaps_37 ⟨rfl, Or.inr ⟨by omega, rfl⟩⟩
  · refine lv_aload_n hx hb dS_overlaps_16 rfl (lv_at hl 1 rfl) ?_
    refine mp_get (v := .int (nI sf2)) hx hb hts inS hown I hS2 rfl 1 (by decide) (hts _ bw_134) (fun _ h9 => h9) rfl dS_overlaps_17 ?_
    refine lv_aload_n hx hb dS_overlaps_20 rfl (lv_at hl 0 rfl) ?_
    refine mp_get (v := .int (nI sf)) hx hb hts inS hown I hS rfl 1 (by decide) (hts _ bw_134) (fun _ h9 => h9) rfl dS_overlaps_21 ?_
    refine lv_aload_n hx hb dS_overlaps_24 rfl (lv_at hl 0 rfl) ?_
    refine mp_get (v := .int (nI sw)) hx hb hts inS hown I hS rfl 2 (by decide) (hts _ bw_136) (fun _ h9 => h9) rfl dS_overlaps_25 ?_
    refine zz_iadd hx hb dS_overlaps_28 ?_
    refine zz_icmp_ge (tgt := 36) hx hb (nI_toInt (by first | assumption | omega)) (nI_toInt (by first | assumption | omega)) dS_overlaps_29 (by decide) (fun c_2 => ?_) (fun c_2 => ?_)
    · refine lv_iconst (v := nI 0) hx hb dS_overlaps_36 (by decide) ?_
      exact mp_zret hx hb hr hlocks I rfl (Nat.le_of_ble_eq_true rfl) (Nat.le_of_ble_eq_true rfl) dS_overlaps_37 ⟨rfl, Or.inr ⟨by omega, rfl⟩⟩
    · refine lv_iconst (v := nI 1) hx hb dS_overlaps_32 (by decide) ?_
      refine lv_goto (tgt := 37) hx hb dS_overlaps_33 (by decide) ?_
      exact mp_zret hx hb hr hlocks I rfl (Nat.le_of_ble_eq_true rfl) (Nat.le_of_ble_eq_true rfl) dS_overlaps_37 ⟨rfl, Or.inl ⟨by omega, rfl⟩⟩
end
section
/-- the lowest bits as of a kind -/
def lb (kd : Nat) (b : Int64) : Int64 := if kd = 1 then b &&& 1 else if kd = 2 then b.toInt32.toInt8.toInt32.toInt64 else if kd = 3 then b.toInt32.toInt16.toInt32.toInt64 else if kd = 4 then b &&& 65535 else if kd = 5 then b.toInt32.toInt64 else b
abbrev rm_D_lowestBits : Room := { frames := 0, cells := 0, slots := 0, locals := 0 }
set_option maxHeartbeats 4000000 in
set_option maxRecDepth 100000 in
theorem kD_lowestBits (l : Launch) (D : va_G) (k : Nat → ClassId) (M : mp_M) (kd : Nat) (b : Int64) (hkd : kd ≤ 7) : mp_Met l yD_lowestBits (Cond.code yD_lowestBits cD_lowestBits 3 (some .long) :: bw) rm_D_lowestBits D cls5 (tys6 k) [.int (nI kd), .long b] M (va_Ql (fun r M1 => M1 = M ∧ r = lb kd b)) 0 0 := by
  refine mp_Met.of (by decide) (Nat.le_of_ble_eq_true rfl) ?_
  intro p e s m below meth c hx hb hr hml hown hts hlocks hin ls hl I
  have hl : lv_has ls 3 [(0, .int (nI kd)), (1, .long b)] := hl
  refine lv_iload_n hx hb dD_lowestBits_0 rfl (lv_at hl 0 rfl) ?_
  have c_1 : (kd : Int) = 1 ∨ (kd : Int) = 2 ∨ (kd : Int) = 3 ∨ (kd : Int) = 4 ∨ (kd : Int) = 5 ∨ ((kd : Int) < 1 ∨ 5 < (kd : Int)) := by omega
  rcases c_1 with c_1 | c_1 | c_1 | c_1 | c_1 | c_1
  · refine lv_tableIn (off := 35) (tgt := 36) hx hb dD_lowestBits_1 (by rw [show (nI kd).toInt = (kd : Int) from (nI_toInt (by first | assumption | omega))]; omega) (by rw [show (nI kd).toInt = (kd : Int) from (nI_toInt (by first | assumption | omega))]; omega) (by rw [show (nI kd).toInt = (kd : Int) from (nI_toInt (by first | assumption | omega)), c_1]; rfl) (by decide) ?_
    refine lv_lload_n hx hb dD_lowestBits_36 rfl (lv_at hl 1 rfl) ?_
    refine lv_lconst (v := 1) hx hb dD_lowestBits_37 (by decide) ?_
    refine lv_land hx hb dD_lowestBits_38 ?_
    exact mp_lret hx hb hr hlocks I (Nat.le_of_ble_eq_true rfl) (Nat.le_of_ble_eq_true rfl) dD_lowestBits_39 ⟨rfl, by have h9 : kd = 1 := (by omega); subst h9; rfl⟩
  · refine lv_tableIn (off := 39) (tgt := 40) hx hb dD_lowestBits_1 (by rw [show (nI kd).toInt = (kd : Int) from (nI_toInt (by first | assumption | omega))]; omega) (by rw [show (nI kd).toInt = (kd : Int) from (nI_toInt (by first | assumption | omega))]; omega) (by rw [show (nI kd).toInt = (kd : Int) from (nI_toInt (by first | assumption | omega)), c_1]; rfl) (by decide) ?_
    refine lv_lload_n hx hb dD_lowestBits_40 rfl (lv_at hl 1 rfl) ?_
    refine lv_l2i (v := b.toInt32) hx hb dD_lowestBits_41 rfl ?_
    refine lv_i2b (v := b.toInt32.toInt8.toInt32) hx hb dD_lowestBits_42 rfl ?_
    refine lv_i2l (v := b.toInt32.toInt8.toInt32.toInt64) hx hb dD_lowestBits_43 rfl ?_
    exact mp_lret hx hb hr hlocks I (Nat.le_of_ble_eq_true rfl) (Nat.le_of_ble_eq_true rfl) dD_lowestBits_44 ⟨rfl, by have h9 : kd = 2 := (by omega); subst h9; rfl⟩
  · refine lv_tableIn (off := 44) (tgt := 45) hx hb dD_lowestBits_1 (by rw [show (nI kd).toInt = (kd : Int) from (nI_toInt (by first | assumption | omega))]; omega) (by rw [show (nI kd).toInt = (kd : Int) from (nI_toInt (by first | assumption | omega))]; omega) (by rw [show (nI kd).toInt = (kd : Int) from (nI_toInt (by first | assumption | omega)), c_1]; rfl) (by decide) ?_
    refine lv_lload_n hx hb dD_lowestBits_45 rfl (lv_at hl 1 rfl) ?_
    refine lv_l2i (v := b.toInt32) hx hb dD_lowestBits_46 rfl ?_
    refine lv_i2s (v := b.toInt32.toInt16.toInt32) hx hb dD_lowestBits_47 rfl ?_
    refine lv_i2l (v := b.toInt32.toInt16.toInt32.toInt64) hx hb dD_lowestBits_48 rfl ?_
    exact mp_lret hx hb hr hlocks I (Nat.le_of_ble_eq_true rfl) (Nat.le_of_ble_eq_true rfl) dD_lowestBits_49 ⟨rfl, by have h9 : kd = 3 := (by omega); subst h9; rfl⟩
  · refine lv_tableIn (off := 49) (tgt := 50) hx hb dD_lowestBits_1 (by rw [show (nI kd).toInt = (kd : Int) from (nI_toInt (by first | assumption | omega))]; omega) (by rw [show (nI kd).toInt = (kd : Int) from (nI_toInt (by first | assumption | omega))]; omega) (by rw [show (nI kd).toInt = (kd : Int) from (nI_toInt (by first | assumption | omega)), c_1]; rfl) (by decide) ?_
    refine lv_lload_n hx hb dD_lowestBits_50 rfl (lv_at hl 1 rfl) ?_
    refine lv_ldc2 (v := 65535) hx hb hown (hts _ bw_301) dD_lowestBits_51 ?_
    refine lv_land hx hb dD_lowestBits_54 ?_
    exact mp_lret hx hb hr hlocks I (Nat.le_of_ble_eq_true rfl) (Nat.le_of_ble_eq_true rfl) dD_lowestBits_55 ⟨rfl, by have h9 : kd = 4 := (by omega); subst h9; rfl⟩
  · refine lv_tableIn (off := 55) (tgt := 56) hx hb dD_lowestBits_1 (by rw [show (nI kd).toInt = (kd : Int) from (nI_toInt (by first | assumption | omega))]; omega) (by rw [show (nI kd).toInt = (kd : Int) from (nI_toInt (by first | assumption | omega))]; omega) (by rw [show (nI kd).toInt = (kd : Int) from (nI_toInt (by first | assumption | omega)), c_1]; rfl) (by decide) ?_
    refine lv_lload_n hx hb dD_lowestBits_56 rfl (lv_at hl 1 rfl) ?_
    refine lv_l2i (v := b.toInt32) hx hb dD_lowestBits_57 rfl ?_
    refine lv_i2l (v := b.toInt32.toInt64) hx hb dD_lowestBits_58 rfl ?_
    exact mp_lret hx hb hr hlocks I (Nat.le_of_ble_eq_true rfl) (Nat.le_of_ble_eq_true rfl) dD_lowestBits_59 ⟨rfl, by have h9 : kd = 5 := (by omega); subst h9; rfl⟩
  · refine lv_tableOut (tgt := 60) hx hb dD_lowestBits_1 (by rw [show (nI kd).toInt = (kd : Int) from (nI_toInt (by first | assumption | omega))]; exact c_1) (by decide) ?_
    refine lv_lload_n hx hb dD_lowestBits_60 rfl (lv_at hl 1 rfl) ?_
    exact mp_lret hx hb hr hlocks I (Nat.le_of_ble_eq_true rfl) (Nat.le_of_ble_eq_true rfl) dD_lowestBits_61 ⟨rfl, by unfold lb; rw [if_neg (by omega), if_neg (by omega), if_neg (by omega), if_neg (by omega), if_neg (by omega)]⟩
abbrev rm_M_as : Room := { frames := 0, cells := 0, slots := 0, locals := 0 }
set_option maxHeartbeats 4000000 in
set_option maxRecDepth 100000 in
theorem kM_as (l : Launch) (D : va_G) (k : Nat → ClassId) (M : mp_M) (kd : Nat) (b : Int64) (hkd : kd ≤ 7) : mp_Met l yM_as (Cond.code yM_as cM_as 3 (some .long) :: bw) rm_M_as D cls5 (tys6 k) [.int (nI kd), .long b] M (va_Ql (fun r M1 => M1 = M ∧ r = lb kd b)) 0 0 := by
  refine mp_Met.of (by decide) (Nat.le_of_ble_eq_true rfl) ?_
  intro p e s m below meth c hx hb hr hml hown hts hlocks hin ls hl I
  have hl : lv_has ls 3 [(0, .int (nI kd)), (1, .long b)] := hl
  refine lv_iload_n hx hb dM_as_0 rfl (lv_at hl 0 rfl) ?_
  have c_1 : (kd : Int) = 1 ∨ (kd : Int) = 2 ∨ (kd : Int) = 3 ∨ (kd : Int) = 4 ∨ (kd : Int) = 5 ∨ ((kd : Int) < 1 ∨ 5 < (kd : Int)) := by omega
  rcases c_1 with c_1 | c_1 | c_1 | c_1 | c_1 | c_1
  · refine lv_tableIn (off := 35) (tgt := 36) hx hb dM_as_1 (by rw [show (nI kd).toInt = (kd : Int) from (nI_toInt (by first | assumption | omega))]; omega) (by rw [show (nI kd).toInt = (kd : Int) from (nI_toInt (by first | assumption | omega))]; omega) (by rw [show (nI kd).toInt = (kd : Int) from (nI_toInt (by first | assumption | omega)), c_1]; rfl) (by decide) ?_
    refine lv_lload_n hx hb dM_as_36 rfl (lv_at hl 1 rfl) ?_
    refine lv_lconst (v := 1) hx hb dM_as_37 (by decide) ?_
    refine lv_land hx hb dM_as_38 ?_
    exact mp_lret hx hb hr hlocks I (Nat.le_of_ble_eq_true rfl) (Nat.le_of_ble_eq_true rfl) dM_as_39 ⟨rfl, by have h9 : kd = 1 := (by omega); subst h9; rfl⟩
  · refine lv_tableIn (off := 39) (tgt := 40) hx hb dM_as_1 (by rw [show (nI kd).toInt = (kd : Int) from (nI_toInt (by first | assumption | omega))]; omega) (by rw [show (nI kd).toInt = (kd : Int) from (nI_toInt (by first | assumption | omega))]; omega) (by rw [show (nI kd).toInt = (kd : Int) from (nI_toInt (by first | assumption | omega)), c_1]; rfl) (by decide) ?_
    refine lv_lload_n hx hb dM_as_40 rfl (lv_at hl 1 rfl) ?_
    refine lv_l2i (v := b.toInt32) hx hb dM_as_41 rfl ?_
    refine lv_i2b (v := b.toInt32.toInt8.toInt32) hx hb dM_as_42 rfl ?_
    refine lv_i2l (v := b.toInt32.toInt8.toInt32.toInt64) hx hb dM_as_43 rfl ?_
    exact mp_lret hx hb hr hlocks I (Nat.le_of_ble_eq_true rfl) (Nat.le_of_ble_eq_true rfl) dM_as_44 ⟨rfl, by have h9 : kd = 2 := (by omega); subst h9; rfl⟩
  · refine lv_tableIn (off := 44) (tgt := 45) hx hb dM_as_1 (by rw [show (nI kd).toInt = (kd : Int) from (nI_toInt (by first | assumption | omega))]; omega) (by rw [show (nI kd).toInt = (kd : Int) from (nI_toInt (by first | assumption | omega))]; omega) (by rw [show (nI kd).toInt = (kd : Int) from (nI_toInt (by first | assumption | omega)), c_1]; rfl) (by decide) ?_
    refine lv_lload_n hx hb dM_as_45 rfl (lv_at hl 1 rfl) ?_
    refine lv_l2i (v := b.toInt32) hx hb dM_as_46 rfl ?_
    refine lv_i2s (v := b.toInt32.toInt16.toInt32) hx hb dM_as_47 rfl ?_
    refine lv_i2l (v := b.toInt32.toInt16.toInt32.toInt64) hx hb dM_as_48 rfl ?_
    exact mp_lret hx hb hr hlocks I (Nat.le_of_ble_eq_true rfl) (Nat.le_of_ble_eq_true rfl) dM_as_49 ⟨rfl, by have h9 : kd = 3 := (by omega); subst h9; rfl⟩
  · refine lv_tableIn (off := 49) (tgt := 50) hx hb dM_as_1 (by rw [show (nI kd).toInt = (kd : Int) from (nI_toInt (by first | assumption | omega))]; omega) (by rw [show (nI kd).toInt = (kd : Int) from (nI_toInt (by first | assumption | omega))]; omega) (by rw [show (nI kd).toInt = (kd : Int) from (nI_toInt (by first | assumption | omega)), c_1]; rfl) (by decide) ?_
    refine lv_lload_n hx hb dM_as_50 rfl (lv_at hl 1 rfl) ?_
    refine lv_ldc2 (v := 65535) hx hb hown (hts _ bw_450) dM_as_51 ?_
    refine lv_land hx hb dM_as_54 ?_
    exact mp_lret hx hb hr hlocks I (Nat.le_of_ble_eq_true rfl) (Nat.le_of_ble_eq_true rfl) dM_as_55 ⟨rfl, by have h9 : kd = 4 := (by omega); subst h9; rfl⟩
  · refine lv_tableIn (off := 55) (tgt := 56) hx hb dM_as_1 (by rw [show (nI kd).toInt = (kd : Int) from (nI_toInt (by first | assumption | omega))]; omega) (by rw [show (nI kd).toInt = (kd : Int) from (nI_toInt (by first | assumption | omega))]; omega) (by rw [show (nI kd).toInt = (kd : Int) from (nI_toInt (by first | assumption | omega)), c_1]; rfl) (by decide) ?_
    refine lv_lload_n hx hb dM_as_56 rfl (lv_at hl 1 rfl) ?_
    refine lv_l2i (v := b.toInt32) hx hb dM_as_57 rfl ?_
    refine lv_i2l (v := b.toInt32.toInt64) hx hb dM_as_58 rfl ?_
    exact mp_lret hx hb hr hlocks I (Nat.le_of_ble_eq_true rfl) (Nat.le_of_ble_eq_true rfl) dM_as_59 ⟨rfl, by have h9 : kd = 5 := (by omega); subst h9; rfl⟩
  · refine lv_tableOut (tgt := 60) hx hb dM_as_1 (by rw [show (nI kd).toInt = (kd : Int) from (nI_toInt (by first | assumption | omega))]; exact c_1) (by decide) ?_
    refine lv_lload_n hx hb dM_as_60 rfl (lv_at hl 1 rfl) ?_
    exact mp_lret hx hb hr hlocks I (Nat.le_of_ble_eq_true rfl) (Nat.le_of_ble_eq_true rfl) dM_as_61 ⟨rfl, by unfold lb; rw [if_neg (by omega), if_neg (by omega), if_neg (by omega), if_neg (by omega), if_neg (by omega)]⟩
def wv (x : Int) : Nat := if x = 3 ∨ x = 4 then 2 else if x = 5 then 4 else if x = 6 then 8 else 0
abbrev rm_D_widthOfView : Room := { frames := 0, cells := 0, slots := 0, locals := 0 }
set_option maxHeartbeats 4000000 in
set_option maxRecDepth 100000 in
theorem kD_widthOfView (l : Launch) (D : va_G) (k : Nat → ClassId) (M : mp_M) (x : Int32) : mp_Met l yD_widthOfView (Cond.code yD_widthOfView cD_widthOfView 1 (some .int) :: bw) rm_D_widthOfView D cls5 (tys6 k) [.int x] M (va_Qi (fun r M1 => M1 = M ∧ r = nI (wv x.toInt))) 0 0 := by
  refine mp_Met.of (by decide) (Nat.le_of_ble_eq_true rfl) ?_
  intro p e s m below meth c hx hb hr hml hown hts hlocks hin ls hl I
  have hl : lv_has ls 1 [(0, .int x)] := hl
  refine lv_iload_n hx hb dD_widthOfView_0 rfl (lv_at hl 0 rfl) ?_
  have c_1 : x.toInt = 3 ∨ x.toInt = 4 ∨ x.toInt = 5 ∨ x.toInt = 6 ∨ (x.toInt < 3 ∨ 6 < x.toInt) := by omega
  rcases c_1 with c_1 | c_1 | c_1 | c_1 | c_1
  · refine lv_tableIn (off := 31) (tgt := 32) hx hb dD_widthOfView_1 (by rw [show x.toInt = x.toInt from rfl]; omega) (by rw [show x.toInt = x.toInt from rfl]; omega) (by rw [show x.toInt = x.toInt from rfl, c_1]; rfl) (by decide) ?_
    refine lv_iconst (v := nI 2) hx hb dD_widthOfView_32 (by decide) ?_
    exact mp_iret hx hb hr hlocks I (Nat.le_of_ble_eq_true rfl) (Nat.le_of_ble_eq_true rfl) dD_widthOfView_33 ⟨rfl, by unfold wv; rw [if_pos (by omega)]⟩
  · refine lv_tableIn (off := 31) (tgt := 32) hx hb dD_widthOfView_1 (by rw [show x.toInt = x.toInt from rfl]; omega) (by rw [show x.toInt = x.toInt from rfl]; omega) (by rw [show x.toInt = x.toInt from rfl, c_1]; rfl) (by decide) ?_
    refine lv_iconst (v := nI 2) hx hb dD_widthOfView_32 (by decide) ?_
    exact mp_iret hx hb hr hlocks I (Nat.le_of_ble_eq_true rfl) (Nat.le_of_ble_eq_true rfl) dD_widthOfView_33 ⟨rfl, by unfold wv; rw [if_pos (by omega)]⟩
  · refine lv_tableIn (off := 33) (tgt := 34) hx hb dD_widthOfView_1 (by rw [show x.toInt = x.toInt from rfl]; omega) (by rw [show x.toInt = x.toInt from rfl]; omega) (by rw [show x.toInt = x.toInt from rfl, c_1]; rfl) (by decide) ?_
    refine lv_iconst (v := nI 4) hx hb dD_widthOfView_34 (by decide) ?_
    exact mp_iret hx hb hr hlocks I (Nat.le_of_ble_eq_true rfl) (Nat.le_of_ble_eq_true rfl) dD_widthOfView_35 ⟨rfl, by unfold wv; rw [if_neg (by omega), if_pos (by omega)]⟩
  · refine lv_tableIn (off := 35) (tgt := 36) hx hb dD_widthOfView_1 (by rw [show x.toInt = x.toInt from rfl]; omega) (by rw [show x.toInt = x.toInt from rfl]; omega) (by rw [show x.toInt = x.toInt from rfl, c_1]; rfl) (by decide) ?_
    refine lv_bipush (v := nI 8) hx hb dD_widthOfView_36 (by decide) ?_
    exact mp_iret hx hb hr hlocks I (Nat.le_of_ble_eq_true rfl) (Nat.le_of_ble_eq_true rfl) dD_widthOfView_38 ⟨rfl, by unfold wv; rw [if_neg (by omega), if_neg (by omega), if_pos (by omega)]⟩
  · refine lv_tableOut (tgt := 39) hx hb dD_widthOfView_1 (by rw [show x.toInt = x.toInt from rfl]; exact c_1) (by decide) ?_
    refine lv_iconst (v := nI 0) hx hb dD_widthOfView_39 (by decide) ?_
    exact mp_iret hx hb hr hlocks I (Nat.le_of_ble_eq_true rfl) (Nat.le_of_ble_eq_true rfl) dD_widthOfView_40 ⟨rfl, by unfold wv; rw [if_neg (by omega), if_neg (by omega), if_neg (by omega)]⟩
/-- an act of a kind -/
def aok (a : Int) (kd : Nat) : Prop := (0 ≤ a ∧ a ≤ 3) ∨ (a = 4 ∧ kd ≠ 1 ∧ kd ≠ 7) ∨ (5 ≤ a ∧ a ≤ 7 ∧ kd ≠ 7)
abbrev rm_D_isActOf : Room := { frames := 0, cells := 0, slots := 0, locals := 0 }
set_option maxHeartbeats 4000000 in
set_option maxRecDepth 100000 in
theorem kD_isActOf (l : Launch) (D : va_G) (k : Nat → ClassId) (M : mp_M) (x : Int32) (kd : Nat) (hkd : kd ≤ 7) : mp_Met l yD_isActOf (Cond.code yD_isActOf cD_isActOf 2 (some .boolean) :: bw) rm_D_isActOf D cls5 (tys6 k) [.int x, .int (nI kd)] M (va_Qi (fun r M1 => M1 = M ∧ ((aok x.toInt kd ∧ r = nI 1) ∨ (¬ aok x.toInt kd ∧ r = nI 0)))) 0 0 := by
  refine mp_Met.of (by decide) (Nat.le_of_ble_eq_true rfl) ?_
  intro p e s m below meth c hx hb hr hml hown hts hlocks hin ls hl I
  have hl : lv_has ls 2 [(0, .int x), (1, .int (nI kd))] := hl
  refine lv_iload_n hx hb dD_isActOf_0 rfl (lv_at hl 0 rfl) ?_
  have c_1 : x.toInt = 0 ∨ x.toInt = 1 ∨ x.toInt = 2 ∨ x.toInt = 3 ∨ x.toInt = 4 ∨ x.toInt = 5 ∨ x.toInt = 6 ∨ x.toInt = 7 ∨ (x.toInt < 0 ∨ 7 < x.toInt) := by omega
  rcases c_1 with c_1 | c_1 | c_1 | c_1 | c_1 | c_1 | c_1 | c_1 | c_1
  · refine lv_tableIn (off := 47) (tgt := 48) hx hb dD_isActOf_1 (by rw [show x.toInt = x.toInt from rfl]; omega) (by rw [show x.toInt = x.toInt from rfl]; omega) (by rw [show x.toInt = x.toInt from rfl, c_1]; rfl) (by decide) ?_
    refine lv_iconst (v := nI 1) hx hb dD_isActOf_48 (by decide) ?_
    exact mp_zret hx hb hr hlocks I rfl (Nat.le_of_ble_eq_true rfl) (Nat.le_of_ble_eq_true rfl) dD_isActOf_49 ⟨rfl, Or.inl ⟨by unfold aok; omega, rfl⟩⟩
  · refine lv_tableIn (off := 47) (tgt := 48) hx hb dD_isActOf_1 (by rw [show x.toInt = x.toInt from rfl]; omega) (by rw [show x.toInt = x.toInt from rfl]; omega) (by rw [show x.toInt = x.toInt from rfl, c_1]; rfl) (by decide) ?_
    refine lv_iconst (v := nI 1) hx hb dD_isActOf_48 (by decide) ?_
    exact mp_zret hx hb hr hlocks I rfl (Nat.le_of_ble_eq_true rfl) (Nat.le_of_ble_eq_true rfl) dD_isActOf_49 ⟨rfl, Or.inl ⟨by unfold aok; omega, rfl⟩⟩
  · refine lv_tableIn (off := 47) (tgt := 48) hx hb dD_isActOf_1 (by rw [show x.toInt = x.toInt from rfl]; omega) (by rw [show x.toInt = x.toInt from rfl]; omega) (by rw [show x.toInt = x.toInt from rfl, c_1]; rfl) (by decide) ?_
    refine lv_iconst (v := nI 1) hx hb dD_isActOf_48 (by decide) ?_
    exact mp_zret hx hb hr hlocks I rfl (Nat.le_of_ble_eq_true rfl) (Nat.le_of_ble_eq_true rfl) dD_isActOf_49 ⟨rfl, Or.inl ⟨by unfold aok; omega, rfl⟩⟩
  · refine lv_tableIn (off := 47) (tgt := 48) hx hb dD_isActOf_1 (by rw [show x.toInt = x.toInt from rfl]; omega) (by rw [show x.toInt = x.toInt from rfl]; omega) (by rw [show x.toInt = x.toInt from rfl, c_1]; rfl) (by decide) ?_
    refine lv_iconst (v := nI 1) hx hb dD_isActOf_48 (by decide) ?_
    exact mp_zret hx hb hr hlocks I rfl (Nat.le_of_ble_eq_true rfl) (Nat.le_of_ble_eq_true rfl) dD_isActOf_49 ⟨rfl, Or.inl ⟨by unfold aok; omega, rfl⟩⟩
  · refine lv_tableIn (off := 49) (tgt := 50) hx hb dD_isActOf_1 (by rw [show x.toInt = x.toInt from rfl]; omega) (by rw [show x.toInt = x.toInt from rfl]; omega) (by rw [show x.toInt = x.toInt from rfl, c_1]; rfl) (by decide) ?_
    refine lv_iload_n hx hb dD_isActOf_50 rfl (lv_at hl 1 rfl) ?_
    refine lv_iconst (v := nI 1) hx hb dD_isActOf_51 (by decide) ?_
    refine zz_icmp_eq (tgt := 65) hx hb (nI_toInt (by first | assumption | omega)) (nI_toInt (by decide)) dD_isActOf_52 (by decide) (fun c_2 => ?_) (fun c_2 => ?_)
    · refine lv_iconst (v := nI 0) hx hb dD_isActOf_65 (by decide) ?_
      exact mp_zret hx hb hr hlocks I rfl (Nat.le_of_ble_eq_true rfl) (Nat.le_of_ble_eq_true rfl) dD_isActOf_66 ⟨rfl, Or.inr ⟨by unfold aok; omega, rfl⟩⟩
    · refine lv_iload_n hx hb dD_isActOf_55 rfl (lv_at hl 1 rfl) ?_
      refine lv_bipush (v := nI 7) hx hb dD_isActOf_56 (by decide) ?_
      refine zz_icmp_eq (tgt := 65) hx hb (nI_toInt (by first | assumption | omega)) (nI_toInt (by decide)) dD_isActOf_58 (by decide) (fun c_3 => ?_) (fun c_3 => ?_)
      · refine lv_iconst (v := nI 0) hx hb dD_isActOf_65 (by decide) ?_
        exact mp_zret hx hb hr hlocks I rfl (Nat.le_of_ble_eq_true rfl) (Nat.le_of_ble_eq_true rfl) dD_isActOf_66 ⟨rfl, Or.inr ⟨by unfold aok; omega, rfl⟩⟩
      · refine lv_iconst (v := nI 1) hx hb dD_isActOf_61 (by decide) ?_
        refine lv_goto (tgt := 66) hx hb dD_isActOf_62 (by decide) ?_
        exact mp_zret hx hb hr hlocks I rfl (Nat.le_of_ble_eq_true rfl) (Nat.le_of_ble_eq_true rfl) dD_isActOf_66 ⟨rfl, Or.inl ⟨by unfold aok; omega, rfl⟩⟩
  · refine lv_tableIn (off := 66) (tgt := 67) hx hb dD_isActOf_1 (by rw [show x.toInt = x.toInt from rfl]; omega) (by rw [show x.toInt = x.toInt from rfl]; omega) (by rw [show x.toInt = x.toInt from rfl, c_1]; rfl) (by decide) ?_
    refine lv_iload_n hx hb dD_isActOf_67 rfl (lv_at hl 1 rfl) ?_
    refine lv_bipush (v := nI 7) hx hb dD_isActOf_68 (by decide) ?_
    refine zz_icmp_eq (tgt := 77) hx hb (nI_toInt (by first | assumption | omega)) (nI_toInt (by decide)) dD_isActOf_70 (by decide) (fun c_4 => ?_) (fun c_4 => ?_)
    · refine lv_iconst (v := nI 0) hx hb dD_isActOf_77 (by decide) ?_
      exact mp_zret hx hb hr hlocks I rfl (Nat.le_of_ble_eq_true rfl) (Nat.le_of_ble_eq_true rfl) dD_isActOf_78 ⟨rfl, Or.inr ⟨by unfold aok; omega, rfl⟩⟩
    · refine lv_iconst (v := nI 1) hx hb dD_isActOf_73 (by decide) ?_
      refine lv_goto (tgt := 78) hx hb dD_isActOf_74 (by decide) ?_
      exact mp_zret hx hb hr hlocks I rfl (Nat.le_of_ble_eq_true rfl) (Nat.le_of_ble_eq_true rfl) dD_isActOf_78 ⟨rfl, Or.inl ⟨by unfold aok; omega, rfl⟩⟩
  · refine lv_tableIn (off := 66) (tgt := 67) hx hb dD_isActOf_1 (by rw [show x.toInt = x.toInt from rfl]; omega) (by rw [show x.toInt = x.toInt from rfl]; omega) (by rw [show x.toInt = x.toInt from rfl, c_1]; rfl) (by decide) ?_
    refine lv_iload_n hx hb dD_isActOf_67 rfl (lv_at hl 1 rfl) ?_
    refine lv_bipush (v := nI 7) hx hb dD_isActOf_68 (by decide) ?_
    refine zz_icmp_eq (tgt := 77) hx hb (nI_toInt (by first | assumption | omega)) (nI_toInt (by decide)) dD_isActOf_70 (by decide) (fun c_5 => ?_) (fun c_5 => ?_)
    · refine lv_iconst (v := nI 0) hx hb dD_isActOf_77 (by decide) ?_
      exact mp_zret hx hb hr hlocks I rfl (Nat.le_of_ble_eq_true rfl) (Nat.le_of_ble_eq_true rfl) dD_isActOf_78 ⟨rfl, Or.inr ⟨by unfold aok; omega, rfl⟩⟩
    · refine lv_iconst (v := nI 1) hx hb dD_isActOf_73 (by decide) ?_
      refine lv_goto (tgt := 78) hx hb dD_isActOf_74 (by decide) ?_
      exact mp_zret hx hb hr hlocks I rfl (Nat.le_of_ble_eq_true rfl) (Nat.le_of_ble_eq_true rfl) dD_isActOf_78 ⟨rfl, Or.inl ⟨by unfold aok; omega, rfl⟩⟩
  · refine lv_tableIn (off := 66) (tgt := 67) hx hb dD_isActOf_1 (by rw [show x.toInt = x.toInt from rfl]; omega) (by rw [show x.toInt = x.toInt from rfl]; omega) (by rw [show x.toInt = x.toInt from rfl, c_1]; rfl) (by decide) ?_
    refine lv_iload_n hx hb dD_isActOf_67 rfl (lv_at hl 1 rfl) ?_
    refine lv_bipush (v := nI 7) hx hb dD_isActOf_68 (by decide) ?_
    refine zz_icmp_eq (tgt := 77) hx hb (nI_toInt (by first | assumption | omega)) (nI_toInt (by decide)) dD_isActOf_70 (by decide) (fun c_6 => ?_) (fun c_6 => ?_)
    · refine lv_iconst (v := nI 0) hx hb dD_isActOf_77 (by decide) ?_
      exact mp_zret hx hb hr hlocks I rfl (Nat.le_of_ble_eq_true rfl) (Nat.le_of_ble_eq_true rfl) dD_isActOf_78 ⟨rfl, Or.inr ⟨by unfold aok; omega, rfl⟩⟩
    · refine lv_iconst (v := nI 1) hx hb dD_isActOf_73 (by decide) ?_
      refine lv_goto (tgt := 78) hx hb dD_isActOf_74 (by decide) ?_
      exact mp_zret hx hb hr hlocks I rfl (Nat.le_of_ble_eq_true rfl) (Nat.le_of_ble_eq_true rfl) dD_isActOf_78 ⟨rfl, Or.inl ⟨by unfold aok; omega, rfl⟩⟩
  · refine lv_tableOut (tgt := 79) hx hb dD_isActOf_1 (by rw [show x.toInt = x.toInt from rfl]; exact c_1) (by decide) ?_
    refine lv_iconst (v := nI 0) hx hb dD_isActOf_79 (by decide) ?_
    exact mp_zret hx hb hr hlocks I rfl (Nat.le_of_ble_eq_true rfl) (Nat.le_of_ble_eq_true rfl) dD_isActOf_80 ⟨rfl, Or.inr ⟨by unfold aok; omega, rfl⟩⟩
abbrev rm_N_differences : Room := { frames := 0, cells := 0, slots := 0, locals := 0 }
set_option maxHeartbeats 4000000 in
set_option maxRecDepth 100000 in
theorem kN_differences (l : Launch) (D : va_G) (k : Nat → ClassId) (M : mp_M) (h0 av r cn : Nat) (va g : Nat → Int64) (h0M : M h0 = some (.inr (3, [.ref r, .int (nI cn)]))) (hav : M av = some (.inl (k 1, 4000, .inr (.inl va)))) (hrM : M r = some (.inl (k 1, 4000, .inr (.inl g)))) (hcn : cn ≤ 4000) : mp_Met l yN_differences (Cond.code yN_differences cN_differences 4 (some .int) :: bw) rm_N_differences D cls5 (tys6 k) [.ref h0, .ref av] M (va_Qi (fun q M1 => M1 = M ∧ q = nI (dif va g cn))) 0 0 := by
  refine mp_Met.of (by decide) (Nat.le_of_ble_eq_true rfl) ?_
  intro p e s m below meth c hx hb hr hml hown hts hlocks hin ls hl I
  have hl : lv_has ls 4 [(0, .ref h0), (1, .ref av)] := hl
  refine lv_iconst (v := nI 0) hx hb dN_differences_0 (by decide) ?_
  refine lv_istore_n (lv' := [(2, .int (nI 0)), (0, .ref h0), (1, .ref av)]) hx hb dN_differences_1 rfl hl (by decide) rfl (fun ls hl => ?_)
  refine lv_iconst (v := nI 0) hx hb dN_differences_2 (by decide) ?_
  refine lv_istore_n (lv' := [(3, .int (nI 0)), (2, .int (nI 0)), (0, .ref h0), (1, .ref av)]) hx hb dN_differences_3 rfl hl (by decide) rfl (fun ls hl => ?_)
  refine mp_loop cn 4 (fun i => [(3, .int (nI i)), (2, .int (nI (dif va g i))), (0, .ref h0), (1, .ref av)]) (fun i => M) 0 (by omega) (lv_sub hl [0, 1, 2, 3] rfl) I ?_
  intro i H locs ls hi0_i hi_i hl I ih_i
  have hl : lv_has ls 4 [(3, .int (nI i)), (2, .int (nI (dif va g i))), (0, .ref h0), (1, .ref av)] := hl
  have I : mp_I D cls5 (tys6 k) s _ s.heap H locs (M) := I
  refine lv_iload_n hx hb dN_differences_4 rfl (lv_at hl 0 rfl) ?_
  refine lv_aload_n hx hb dN_differences_5 rfl (lv_at hl 2 rfl) ?_
  refine mp_get (v := .int (nI cn)) hx hb hts inN hown I h0M rfl 1 (by decide) (hts _ bw_185) (fun _ h9 => h9) rfl dN_differences_6 ?_
  refine zz_icmp_ge (tgt := 34) hx hb (nI_toInt (by first | assumption | omega)) (nI_toInt (by first | assumption | omega)) dN_differences_9 (by decide) (fun c_1 => ?_) (fun c_1 => ?_)
  · refine lv_iload_n hx hb dN_differences_34 rfl (lv_at hl 1 rfl) ?_
    exact mp_iret hx hb hr hlocks I (Nat.le_of_ble_eq_true rfl) (Nat.le_of_ble_eq_true rfl) dN_differences_35 ⟨rfl, by rw [show cn = i by omega]⟩
  · refine lv_aload_n hx hb dN_differences_12 rfl (lv_at hl 3 rfl) ?_
    refine lv_iload_n hx hb dN_differences_13 rfl (lv_at hl 0 rfl) ?_
    refine mp_lald hx hb I 1 hav rfl i rfl (by omega) (by decide) (v := va i) rfl dN_differences_14 ?_
    refine lv_aload_n hx hb dN_differences_15 rfl (lv_at hl 2 rfl) ?_
    refine mp_get (v := .ref r) hx hb hts inN hown I h0M rfl 0 (by decide) (hts _ bw_184) (fun _ h9 => h9) rfl dN_differences_16 ?_
    refine lv_iload_n hx hb dN_differences_19 rfl (lv_at hl 0 rfl) ?_
    refine mp_lald hx hb I 1 hrM rfl i rfl (by omega) (by decide) (v := g i) rfl dN_differences_20 ?_
    refine W.lcmp hx hb dN_differences_21 ?_
    refine lv_if_eq (tgt := 28) hx hb dN_differences_22 (by decide) (fun c_2 => ?_) (fun c_2 => ?_)
    all_goals rw [lg_cmp_eq] at c_2
    · have hd : dif va g (i + 1) = dif va g i + 0 := by show dif va g i + _ = _; rw [if_pos c_2]
      refine lv_iinc (v := nI (i + 1)) (lv' := [(3, .int (nI (i + 1))), (2, .int (nI (dif va g i))), (0, .ref h0), (1, .ref av)]) hx hb dN_differences_28 hl (k := 0) rfl (nI_add i 1) (by decide) rfl (fun ls hl => ?_)
      refine lv_goto (tgt := 4) hx hb dN_differences_31 (by decide) ?_
      rw [show dif va g i = dif va g (i + 1) from hd.symm] at hl
      exact ih_i _ _ _ (by omega) (lv_sub hl [0, 1, 2, 3] rfl) I
    · have hd : dif va g (i + 1) = dif va g i + 1 := by show dif va g i + _ = _; rw [if_neg c_2]
      refine lv_iinc (v := nI (dif va g i + 1)) (lv' := [(2, .int (nI (dif va g i + 1))), (3, .int (nI i)), (0, .ref h0), (1, .ref av)]) hx hb dN_differences_25 hl (k := 1) rfl (nI_add (dif va g i) 1) (by decide) rfl (fun ls hl => ?_)
      refine lv_iinc (v := nI (i + 1)) (lv' := [(3, .int (nI (i + 1))), (2, .int (nI (dif va g i + 1))), (0, .ref h0), (1, .ref av)]) hx hb dN_differences_28 hl (k := 1) rfl (nI_add i 1) (by decide) rfl (fun ls hl => ?_)
      refine lv_goto (tgt := 4) hx hb dN_differences_31 (by decide) ?_
      rw [← hd] at hl
      exact ih_i _ _ _ (by omega) (lv_sub hl [0, 1, 2, 3] rfl) I
end
section
theorem cpy_nI (f g : Nat → Nat) (a b n : Nat) : va_cpy (fun i => nI (f i)) (fun i => nI (g i)) a b n = fun i => nI (va_cpy f g a b n i) := by
  funext i
  unfold va_cpy
  split <;> rfl
abbrev rm_D_hasRoomFor : Room := { frames := 0, cells := 0, slots := 0, locals := 0 }
set_option maxHeartbeats 4000000 in
set_option maxRecDepth 100000 in
theorem kD_hasRoomFor (l : Launch) (D : va_G) (k : Nat → ClassId) (M : mp_M) {d av ak at_ aw as_ an : Nat} {qt qs qn : Nat → Option Nat} {sa ra : Nat → Nat} {ec tc wc sc nc : Nat} {va : Nat → Int64} {kd wt tk tf tz sk sf sw sl nn : Nat → Nat} {nv : Nat → Nat → Int64} (hD : DkX k M d av ak at_ aw as_ an qt qs qn sa ra ec tc wc sc nc va kd wt tk tf tz sk sf sw sl nn nv) (hO : OkB ec tc wc sc nc tk tf tz sk sf sw sl nn) (x : Int32) : mp_Met l yD_hasRoomFor (Cond.code yD_hasRoomFor cD_hasRoomFor 2 (some .boolean) :: bw) rm_D_hasRoomFor D cls5 (tys6 k) [.ref d, .int x] M (va_Qi (fun r M1 => M1 = M ∧ (((tc < 300 ∧ x.toInt + ec ≤ 4000) ∧ r = nI 1) ∨ (¬ (tc < 300 ∧ x.toInt + ec ≤ 4000) ∧ r = nI 0)))) 0 0 := by
  refine mp_Met.of (by decide) (Nat.le_of_ble_eq_true rfl) ?_
  intro p e s m below meth c hx hb hr hml hown hts hlocks hin ls hl I
  have hl : lv_has ls 2 [(0, .ref d), (1, .int x)] := hl
  obtain ⟨h0, hav, hak, hat, haw, has, han, hth, hsp, hsn, hij⟩ := id hD
  obtain ⟨b1, b2, b3, b4, b5, bT, bS, bN⟩ := id hO
  refine lv_aload_n hx hb dD_hasRoomFor_0 rfl (lv_at hl 0 rfl) ?_
  refine mp_get (v := .int (nI tc)) hx hb hts inD hown I h0 rfl 4 (by decide) (hts _ bw_30) (fun _ h9 => h9) rfl dD_hasRoomFor_1 ?_
  refine lv_sipush (v := nI 300) hx hb dD_hasRoomFor_4 (by decide) ?_
  refine zz_icmp_ge (tgt := 26) hx hb (nI_toInt (by first | assumption | omega)) (nI_toInt (by decide)) dD_hasRoomFor_7 (by decide) (fun c_1 => ?_) (fun c_1 => ?_)
  · refine lv_iconst (v := nI 0) hx hb dD_hasRoomFor_26 (by decide) ?_
    exact mp_zret hx hb hr hlocks I rfl (Nat.le_of_ble_eq_true rfl) (Nat.le_of_ble_eq_true rfl) dD_hasRoomFor_27 ⟨rfl, Or.inr ⟨by omega, rfl⟩⟩
  · refine lv_iload_n hx hb dD_hasRoomFor_10 rfl (lv_at hl 1 rfl) ?_
    refine lv_sipush (v := nI 4000) hx hb dD_hasRoomFor_11 (by decide) ?_
    refine lv_aload_n hx hb dD_hasRoomFor_14 rfl (lv_at hl 0 rfl) ?_
    refine mp_get (v := .int (nI ec)) hx hb hts inD hown I h0 rfl 2 (by decide) (hts _ bw_28) (fun _ h9 => h9) rfl dD_hasRoomFor_15 ?_
    refine zz_isub hx hb (by omega) dD_hasRoomFor_18 ?_
    refine zz_icmp_gt (tgt := 26) hx hb rfl (nI_toInt (by first | assumption | omega)) dD_hasRoomFor_19 (by decide) (fun c_2 => ?_) (fun c_2 => ?_)
    · refine lv_iconst (v := nI 0) hx hb dD_hasRoomFor_26 (by decide) ?_
      exact mp_zret hx hb hr hlocks I rfl (Nat.le_of_ble_eq_true rfl) (Nat.le_of_ble_eq_true rfl) dD_hasRoomFor_27 ⟨rfl, Or.inr ⟨by omega, rfl⟩⟩
    · refine lv_iconst (v := nI 1) hx hb dD_hasRoomFor_22 (by decide) ?_
      refine lv_goto (tgt := 27) hx hb dD_hasRoomFor_23 (by decide) ?_
      exact mp_zret hx hb hr hlocks I rfl (Nat.le_of_ble_eq_true rfl) (Nat.le_of_ble_eq_true rfl) dD_hasRoomFor_27 ⟨rfl, Or.inl ⟨by omega, rfl⟩⟩
abbrev rm_D_findThing : Room := { frames := 0, cells := 0, slots := 0, locals := 0 }
set_option maxHeartbeats 4000000 in
set_option maxRecDepth 100000 in
theorem kD_findThing (l : Launch) (D : va_G) (k : Nat → ClassId) (M : mp_M) {d av ak at_ aw as_ an : Nat} {qt qs qn : Nat → Option Nat} {sa ra : Nat → Nat} {ec tc wc sc nc : Nat} {va : Nat → Int64} {kd wt tk tf tz sk sf sw sl nn : Nat → Nat} {nv : Nat → Nat → Int64} (hD : DkX k M d av ak at_ aw as_ an qt qs qn sa ra ec tc wc sc nc va kd wt tk tf tz sk sf sw sl nn nv) (hO : OkB ec tc wc sc nc tk tf tz sk sf sw sl nn) (x : Int32) : mp_Met l yD_findThing (Cond.code yD_findThing cD_findThing 2 (some (.object "PlaceDesk$Thing")) :: bw) rm_D_findThing D cls5 (tys6 k) [.ref d, .int x] M (va_Qq (fun r M1 => M1 = M ∧ ((∃ (i a : Nat), i < tc ∧ x.toInt = i ∧ r = some a ∧ M a = some (.inr (1, [.int (nI (tk i)), .int (nI (tf i)), .int (nI (tz i))]))) ∨ (¬ (0 ≤ x.toInt ∧ x.toInt < tc) ∧ r = none)))) 0 0 := by
  refine mp_Met.of (by decide) (Nat.le_of_ble_eq_true rfl) ?_
  intro p e s m below meth c hx hb hr hml hown hts hlocks hin ls hl I
  have hl : lv_has ls 2 [(0, .ref d), (1, .int x)] := hl
  obtain ⟨h0, hav, hak, hat, haw, has, han, hth, hsp, hsn, hij⟩ := id hD
  obtain ⟨b1, b2, b3, b4, b5, bT, bS, bN⟩ := id hO
  refine lv_iload_n hx hb dD_findThing_0 rfl (lv_at hl 1 rfl) ?_
  refine zz_if_lt (tgt := 21) hx hb rfl dD_findThing_1 (by decide) (fun c_1 => ?_) (fun c_1 => ?_)
  · refine lv_null hx hb dD_findThing_21 ?_
    exact mp_qret (r := none) hx hb hr hlocks I rfl (Nat.le_of_ble_eq_true rfl) (Nat.le_of_ble_eq_true rfl) dD_findThing_22 ⟨rfl, Or.inr ⟨by omega, rfl⟩⟩
  · refine lv_iload_n hx hb dD_findThing_4 rfl (lv_at hl 1 rfl) ?_
    refine lv_aload_n hx hb dD_findThing_5 rfl (lv_at hl 0 rfl) ?_
    refine mp_get (v := .int (nI tc)) hx hb hts inD hown I h0 rfl 4 (by decide) (hts _ bw_30) (fun _ h9 => h9) rfl dD_findThing_6 ?_
    refine zz_icmp_ge (tgt := 21) hx hb rfl (nI_toInt (by first | assumption | omega)) dD_findThing_9 (by decide) (fun c_2 => ?_) (fun c_2 => ?_)
    · refine lv_null hx hb dD_findThing_21 ?_
      exact mp_qret (r := none) hx hb hr hlocks I rfl (Nat.le_of_ble_eq_true rfl) (Nat.le_of_ble_eq_true rfl) dD_findThing_22 ⟨rfl, Or.inr ⟨by omega, rfl⟩⟩
    · obtain ⟨xn, hn_xn, rfl, hz_xn⟩ := i32_nat (x := x) (by omega)
      obtain ⟨a, hqa, hMa⟩ := hth xn (by omega)
      refine lv_aload_n hx hb dD_findThing_12 rfl (lv_at hl 0 rfl) ?_
      refine mp_get (v := .ref at_) hx hb hts inD hown I h0 rfl 3 (by decide) (hts _ bw_29) (fun _ h9 => h9) rfl dD_findThing_13 ?_
      refine lv_iload_n hx hb dD_findThing_16 rfl (lv_at hl 1 rfl) ?_
      refine mp_aald hx hb I 2 hat rfl xn rfl (by omega) (by decide) (v := .ref a) (by rw [hqa]; rfl) dD_findThing_17 ?_
      refine lv_goto (tgt := 22) hx hb dD_findThing_18 (by decide) ?_
      exact mp_qret (r := (some a)) hx hb hr hlocks I rfl (Nat.le_of_ble_eq_true rfl) (Nat.le_of_ble_eq_true rfl) dD_findThing_22 ⟨rfl, Or.inl ⟨xn, a, by omega, hz_xn, rfl, hMa⟩⟩
abbrev rm_D_findSpot : Room := { frames := 0, cells := 0, slots := 0, locals := 0 }
set_option maxHeartbeats 4000000 in
set_option maxRecDepth 100000 in
theorem kD_findSpot (l : Launch) (D : va_G) (k : Nat → ClassId) (M : mp_M) {d av ak at_ aw as_ an : Nat} {qt qs qn : Nat → Option Nat} {sa ra : Nat → Nat} {ec tc wc sc nc : Nat} {va : Nat → Int64} {kd wt tk tf tz sk sf sw sl nn : Nat → Nat} {nv : Nat → Nat → Int64} (hD : DkX k M d av ak at_ aw as_ an qt qs qn sa ra ec tc wc sc nc va kd wt tk tf tz sk sf sw sl nn nv) (hO : OkB ec tc wc sc nc tk tf tz sk sf sw sl nn) (x : Int32) : mp_Met l yD_findSpot (Cond.code yD_findSpot cD_findSpot 2 (some (.object "PlaceDesk$Spot")) :: bw) rm_D_findSpot D cls5 (tys6 k) [.ref d, .int x] M (va_Qq (fun r M1 => M1 = M ∧ ((∃ (i a : Nat), i < sc ∧ x.toInt = i ∧ r = some a ∧ M a = some (.inr (2, [.int (nI (sk i)), .int (nI (sf i)), .int (nI (sw i)), .int (nI (sl i))]))) ∨ (¬ (0 ≤ x.toInt ∧ x.toInt < sc) ∧ r = none)))) 0 0 := by
  refine mp_Met.of (by decide) (Nat.le_of_ble_eq_true rfl) ?_
  intro p e s m below meth c hx hb hr hml hown hts hlocks hin ls hl I
  have hl : lv_has ls 2 [(0, .ref d), (1, .int x)] := hl
  obtain ⟨h0, hav, hak, hat, haw, has, han, hth, hsp, hsn, hij⟩ := id hD
  obtain ⟨b1, b2, b3, b4, b5, bT, bS, bN⟩ := id hO
  refine lv_iload_n hx hb dD_findSpot_0 rfl (lv_at hl 1 rfl) ?_
  refine zz_if_lt (tgt := 21) hx hb rfl dD_findSpot_1 (by decide) (fun c_1 => ?_) (fun c_1 => ?_)
  · refine lv_null hx hb dD_findSpot_21 ?_
    exact mp_qret (r := none) hx hb hr hlocks I rfl (Nat.le_of_ble_eq_true rfl) (Nat.le_of_ble_eq_true rfl) dD_findSpot_22 ⟨rfl, Or.inr ⟨by omega, rfl⟩⟩
  · refine lv_iload_n hx hb dD_findSpot_4 rfl (lv_at hl 1 rfl) ?_
    refine lv_aload_n hx hb dD_findSpot_5 rfl (lv_at hl 0 rfl) ?_
    refine mp_get (v := .int (nI sc)) hx hb hts inD hown I h0 rfl 8 (by decide) (hts _ bw_34) (fun _ h9 => h9) rfl dD_findSpot_6 ?_
    refine zz_icmp_ge (tgt := 21) hx hb rfl (nI_toInt (by first | assumption | omega)) dD_findSpot_9 (by decide) (fun c_2 => ?_) (fun c_2 => ?_)
    · refine lv_null hx hb dD_findSpot_21 ?_
      exact mp_qret (r := none) hx hb hr hlocks I rfl (Nat.le_of_ble_eq_true rfl) (Nat.le_of_ble_eq_true rfl) dD_findSpot_22 ⟨rfl, Or.inr ⟨by omega, rfl⟩⟩
    · obtain ⟨xn, hn_xn, rfl, hz_xn⟩ := i32_nat (x := x) (by omega)
      obtain ⟨a, hqa, hMa⟩ := hsp xn (by omega)
      refine lv_aload_n hx hb dD_findSpot_12 rfl (lv_at hl 0 rfl) ?_
      refine mp_get (v := .ref as_) hx hb hts inD hown I h0 rfl 7 (by decide) (hts _ bw_33) (fun _ h9 => h9) rfl dD_findSpot_13 ?_
      refine lv_iload_n hx hb dD_findSpot_16 rfl (lv_at hl 1 rfl) ?_
      refine mp_aald hx hb I 3 has rfl xn rfl (by omega) (by decide) (v := .ref a) (by rw [hqa]; rfl) dD_findSpot_17 ?_
      refine lv_goto (tgt := 22) hx hb dD_findSpot_18 (by decide) ?_
      exact mp_qret (r := (some a)) hx hb hr hlocks I rfl (Nat.le_of_ble_eq_true rfl) (Nat.le_of_ble_eq_true rfl) dD_findSpot_22 ⟨rfl, Or.inl ⟨xn, a, by omega, hz_xn, rfl, hMa⟩⟩
abbrev rm_D_findSnapshot : Room := { frames := 0, cells := 0, slots := 0, locals := 0 }
set_option maxHeartbeats 4000000 in
set_option maxRecDepth 100000 in
theorem kD_findSnapshot (l : Launch) (D : va_G) (k : Nat → ClassId) (M : mp_M) {d av ak at_ aw as_ an : Nat} {qt qs qn : Nat → Option Nat} {sa ra : Nat → Nat} {ec tc wc sc nc : Nat} {va : Nat → Int64} {kd wt tk tf tz sk sf sw sl nn : Nat → Nat} {nv : Nat → Nat → Int64} (hD : DkX k M d av ak at_ aw as_ an qt qs qn sa ra ec tc wc sc nc va kd wt tk tf tz sk sf sw sl nn nv) (hO : OkB ec tc wc sc nc tk tf tz sk sf sw sl nn) (x : Int32) : mp_Met l yD_findSnapshot (Cond.code yD_findSnapshot cD_findSnapshot 2 (some (.object "PlaceDesk$Snapshot")) :: bw) rm_D_findSnapshot D cls5 (tys6 k) [.ref d, .int x] M (va_Qq (fun r M1 => M1 = M ∧ ((∃ (i a : Nat), i < nc ∧ x.toInt = i ∧ r = some a ∧ a = sa i ∧ ra i ≠ av ∧ ∃ (g : Nat → Int64), M (sa i) = some (.inr (3, [.ref (ra i), .int (nI (nn i))])) ∧ M (ra i) = some (.inl (k 1, 4000, .inr (.inl g))) ∧ nn i ≤ 4000 ∧ ∀ j, j < nn i → g j = nv i j) ∨ (¬ (0 ≤ x.toInt ∧ x.toInt < nc) ∧ r = none)))) 0 0 := by
  refine mp_Met.of (by decide) (Nat.le_of_ble_eq_true rfl) ?_
  intro p e s m below meth c hx hb hr hml hown hts hlocks hin ls hl I
  have hl : lv_has ls 2 [(0, .ref d), (1, .int x)] := hl
  obtain ⟨h0, hav, hak, hat, haw, has, han, hth, hsp, hsn, hij⟩ := id hD
  obtain ⟨b1, b2, b3, b4, b5, bT, bS, bN⟩ := id hO
  refine lv_iload_n hx hb dD_findSnapshot_0 rfl (lv_at hl 1 rfl) ?_
  refine zz_if_lt (tgt := 21) hx hb rfl dD_findSnapshot_1 (by decide) (fun c_1 => ?_) (fun c_1 => ?_)
  · refine lv_null hx hb dD_findSnapshot_21 ?_
    exact mp_qret (r := none) hx hb hr hlocks I rfl (Nat.le_of_ble_eq_true rfl) (Nat.le_of_ble_eq_true rfl) dD_findSnapshot_22 ⟨rfl, Or.inr ⟨by omega, rfl⟩⟩
  · refine lv_iload_n hx hb dD_findSnapshot_4 rfl (lv_at hl 1 rfl) ?_
    refine lv_aload_n hx hb dD_findSnapshot_5 rfl (lv_at hl 0 rfl) ?_
    refine mp_get (v := .int (nI nc)) hx hb hts inD hown I h0 rfl 10 (by decide) (hts _ bw_36) (fun _ h9 => h9) rfl dD_findSnapshot_6 ?_
    refine zz_icmp_ge (tgt := 21) hx hb rfl (nI_toInt (by first | assumption | omega)) dD_findSnapshot_9 (by decide) (fun c_2 => ?_) (fun c_2 => ?_)
    · refine lv_null hx hb dD_findSnapshot_21 ?_
      exact mp_qret (r := none) hx hb hr hlocks I rfl (Nat.le_of_ble_eq_true rfl) (Nat.le_of_ble_eq_true rfl) dD_findSnapshot_22 ⟨rfl, Or.inr ⟨by omega, rfl⟩⟩
    · obtain ⟨xn, hn_xn, rfl, hz_xn⟩ := i32_nat (x := x) (by omega)
      have hsx := hsn xn (by omega)
      obtain ⟨hqa, hMa⟩ : ∃ (hqa : qn xn = some (sa xn)), ra xn ≠ av ∧ ∃ (g : Nat → Int64), M (sa xn) = some (.inr (3, [.ref (ra xn), .int (nI (nn xn))])) ∧ M (ra xn) = some (.inl (k 1, 4000, .inr (.inl g))) ∧ nn xn ≤ 4000 ∧ ∀ j, j < nn xn → g j = nv xn j := by
        rcases hsx with ⟨_, h9⟩ | ⟨h1, h2, cn, g, h3, h4, h5, h6⟩
        · exact absurd h9 (by omega)
        · obtain ⟨rfl, h7⟩ := h6 (by omega)
          exact ⟨h1, h2, g, h3, h4, h5, h7⟩
      refine lv_aload_n hx hb dD_findSnapshot_12 rfl (lv_at hl 0 rfl) ?_
      refine mp_get (v := .ref an) hx hb hts inD hown I h0 rfl 9 (by decide) (hts _ bw_35) (fun _ h9 => h9) rfl dD_findSnapshot_13 ?_
      refine lv_iload_n hx hb dD_findSnapshot_16 rfl (lv_at hl 1 rfl) ?_
      refine mp_aald hx hb I 4 han rfl xn rfl (by omega) (by decide) (v := .ref (sa xn)) (by rw [hqa]; rfl) dD_findSnapshot_17 ?_
      refine lv_goto (tgt := 22) hx hb dD_findSnapshot_18 (by decide) ?_
      exact mp_qret (r := (some (sa xn))) hx hb hr hlocks I rfl (Nat.le_of_ble_eq_true rfl) (Nat.le_of_ble_eq_true rfl) dD_findSnapshot_22 ⟨rfl, Or.inl ⟨xn, sa xn, by omega, hz_xn, rfl, rfl, hMa⟩⟩
/-- a value of a kind -/
def isv (tc x : Nat) (v : Int64) : Prop := if x = 7 then -1 ≤ v.toInt ∧ v.toInt < tc else lb x v = v
abbrev rm_D_isValue : Room := { frames := 1, cells := 0, slots := 0, locals := 22 }
set_option maxHeartbeats 4000000 in
set_option maxRecDepth 100000 in
theorem kD_isValue (l : Launch) (D : va_G) (k : Nat → ClassId) (M : mp_M) {d av ak at_ aw as_ an : Nat} {qt qs qn : Nat → Option Nat} {sa ra : Nat → Nat} {ec tc wc sc nc : Nat} {va : Nat → Int64} {kd wt tk tf tz sk sf sw sl nn : Nat → Nat} {nv : Nat → Nat → Int64} (hD : DkX k M d av ak at_ aw as_ an qt qs qn sa ra ec tc wc sc nc va kd wt tk tf tz sk sf sw sl nn nv) (hO : OkB ec tc wc sc nc tk tf tz sk sf sw sl nn) (x : Nat) (v : Int64) (hkx : x ≤ 7) : mp_Met l yD_isValue (Cond.code yD_isValue cD_isValue 4 (some .boolean) :: bw) rm_D_isValue D cls5 (tys6 k) [.ref d, .int (nI x), .long v] M (va_Qi (fun r M1 => M1 = M ∧ ((isv tc x v ∧ r = nI 1) ∨ (¬ isv tc x v ∧ r = nI 0)))) 0 0 := by
  refine mp_Met.of (by decide) (Nat.le_of_ble_eq_true rfl) ?_
  intro p e s m below meth c hx hb hr hml hown hts hlocks hin ls hl I
  have hl : lv_has ls 4 [(0, .ref d), (1, .int (nI x)), (2, .long v)] := hl
  obtain ⟨h0, hav, hak, hat, haw, has, han, hth, hsp, hsn, hij⟩ := id hD
  obtain ⟨b1, b2, b3, b4, b5, bT, bS, bN⟩ := id hO
  refine lv_iload_n hx hb dD_isValue_0 rfl (lv_at hl 1 rfl) ?_
  refine lv_bipush (v := nI 7) hx hb dD_isValue_1 (by decide) ?_
  refine zz_icmp_ne (tgt := 30) hx hb (nI_toInt (by first | assumption | omega)) (nI_toInt (by decide)) dD_isValue_3 (by decide) (fun c_1 => ?_) (fun c_1 => ?_)
  · refine lv_iload_n hx hb dD_isValue_30 rfl (lv_at hl 1 rfl) ?_
    refine lv_lload_n hx hb dD_isValue_31 rfl (lv_at hl 2 rfl) ?_
    refine mp_calll (va_runS (As := [.int (nI x), .long v]) (rest := []) ⟨hx, hb, hml, hown, hts⟩ (kD_lowestBits l D k M x v hkx _) (cwS 2 hts (bw_S bw_298 bw_299 bw_1 bw_300) rfl rfl rfl (by decide +kernel) ⟨Nat.le_of_ble_eq_true rfl, Nat.le_of_ble_eq_true rfl⟩) (mp_preS I _) rfl rfl hl.1 rfl (lv_room (Nat.le_of_ble_eq_true rfl)) dD_isValue_32 ⟨Nat.le_of_ble_eq_true rfl, Nat.le_of_ble_eq_true rfl⟩) I (fun r_2 N1 H locs hp I => ?_)
    obtain ⟨e_3, hp⟩ := hp
    rw [e_3] at I
    rw [hp]
    refine lv_lload_n hx hb dD_isValue_35 rfl (lv_at hl 2 rfl) ?_
    refine W.lcmp hx hb dD_isValue_36 ?_
    refine lv_if_ne (tgt := 44) hx hb dD_isValue_37 (by decide) (fun c_4 => ?_) (fun c_4 => ?_)
    all_goals rw [lg_cmp_eq] at c_4
    · refine lv_iconst (v := nI 0) hx hb dD_isValue_44 (by decide) ?_
      exact mp_zret hx hb hr hlocks I rfl (Nat.le_of_ble_eq_true rfl) (Nat.le_of_ble_eq_true rfl) dD_isValue_45 ⟨rfl, Or.inr ⟨by unfold isv; rw [if_neg (by omega)]; exact c_4, rfl⟩⟩
    · refine lv_iconst (v := nI 1) hx hb dD_isValue_40 (by decide) ?_
      refine lv_goto (tgt := 45) hx hb dD_isValue_41 (by decide) ?_
      exact mp_zret hx hb hr hlocks I rfl (Nat.le_of_ble_eq_true rfl) (Nat.le_of_ble_eq_true rfl) dD_isValue_45 ⟨rfl, Or.inl ⟨by unfold isv; rw [if_neg (by omega)]; exact c_4, rfl⟩⟩
  · refine lv_lload_n hx hb dD_isValue_6 rfl (lv_at hl 2 rfl) ?_
    refine lv_ldc2 (v := (-1)) hx hb hown (hts _ bw_77) dD_isValue_7 ?_
    refine W.lcmp hx hb dD_isValue_10 ?_
    refine lv_if_lt (tgt := 28) hx hb dD_isValue_11 (by decide) (fun c_5 => ?_) (fun c_5 => ?_)
    all_goals rw [lg_cmp_lt] at c_5
    all_goals rw [Int64.lt_iff_toInt_lt, show (-1 : Int64).toInt = -1 from rfl] at c_5
    · refine lv_iconst (v := nI 0) hx hb dD_isValue_28 (by decide) ?_
      exact mp_zret hx hb hr hlocks I rfl (Nat.le_of_ble_eq_true rfl) (Nat.le_of_ble_eq_true rfl) dD_isValue_29 ⟨rfl, Or.inr ⟨by unfold isv; rw [if_pos (by omega)]; omega, rfl⟩⟩
    · refine lv_lload_n hx hb dD_isValue_14 rfl (lv_at hl 2 rfl) ?_
      refine lv_aload_n hx hb dD_isValue_15 rfl (lv_at hl 0 rfl) ?_
      refine mp_get (v := .int (nI tc)) hx hb hts inD hown I h0 rfl 4 (by decide) (hts _ bw_30) (fun _ h9 => h9) rfl dD_isValue_16 ?_
      refine lv_i2l (v := (nI tc).toInt64) hx hb dD_isValue_19 rfl ?_
      refine W.lcmp hx hb dD_isValue_20 ?_
      refine lv_if_ge (tgt := 28) hx hb dD_isValue_21 (by decide) (fun c_6 => ?_) (fun c_6 => ?_)
      all_goals rw [lg_cmp_ge] at c_6
      all_goals rw [Int64.le_iff_toInt_le, Int32.toInt_toInt64, nI_toInt (show tc < 2 ^ 31 by omega)] at c_6
      · refine lv_iconst (v := nI 0) hx hb dD_isValue_28 (by decide) ?_
        exact mp_zret hx hb hr hlocks I rfl (Nat.le_of_ble_eq_true rfl) (Nat.le_of_ble_eq_true rfl) dD_isValue_29 ⟨rfl, Or.inr ⟨by unfold isv; rw [if_pos (by omega)]; omega, rfl⟩⟩
      · refine lv_iconst (v := nI 1) hx hb dD_isValue_24 (by decide) ?_
        refine lv_goto (tgt := 29) hx hb dD_isValue_25 (by decide) ?_
        exact mp_zret hx hb hr hlocks I rfl (Nat.le_of_ble_eq_true rfl) (Nat.le_of_ble_eq_true rfl) dD_isValue_29 ⟨rfl, Or.inl ⟨by unfold isv; rw [if_pos (by omega)]; omega, rfl⟩⟩
abbrev rm_D_put : Room := { frames := 1, cells := 0, slots := 0, locals := 22 }
set_option maxHeartbeats 4000000 in
set_option maxRecDepth 100000 in
theorem kD_put (l : Launch) (D : va_G) (k : Nat → ClassId) (M : mp_M) {d av ak at_ aw as_ an : Nat} {qt qs qn : Nat → Option Nat} {sa ra : Nat → Nat} {ec tc wc sc nc : Nat} {va : Nat → Int64} {kd wt tk tf tz sk sf sw sl nn : Nat → Nat} {nv : Nat → Nat → Int64} (hD : DkX k M d av ak at_ aw as_ an qt qs qn sa ra ec tc wc sc nc va kd wt tk tf tz sk sf sw sl nn nv) (hO : OkB ec tc wc sc nc tk tf tz sk sf sw sl nn) (x : Int32) : mp_Met l yD_put (Cond.code yD_put cD_put 2 (some .boolean) :: bw) rm_D_put D cls5 (tys6 k) [.ref d, .int x] M (va_Qi (fun r M1 => (wc < 12 ∧ (1 ≤ x.toInt ∧ x.toInt ≤ 7) ∧ r = nI 1 ∧ ∃ xn : Nat, x.toInt = xn ∧ DkX k M1 d av ak at_ aw as_ an qt qs qn sa ra ec tc (wc + 1) sc nc va kd (nu wt wc xn) tk tf tz sk sf sw sl nn nv) ∨ (¬ (wc < 12 ∧ (1 ≤ x.toInt ∧ x.toInt ≤ 7)) ∧ r = nI 0 ∧ M1 = M))) 0 0 := by
  refine mp_Met.of (by decide) (Nat.le_of_ble_eq_true rfl) ?_
  intro p e s m below meth c hx hb hr hml hown hts hlocks hin ls hl I
  have hl : lv_has ls 2 [(0, .ref d), (1, .int x)] := hl
  obtain ⟨h0, hav, hak, hat, haw, has, han, hth, hsp, hsn, hij⟩ := id hD
  obtain ⟨b1, b2, b3, b4, b5, bT, bS, bN⟩ := id hO
  refine lv_aload_n hx hb dD_put_0 rfl (lv_at hl 0 rfl) ?_
  refine mp_get (v := .int (nI wc)) hx hb hts inD hown I h0 rfl 6 (by decide) (hts _ bw_32) (fun _ h9 => h9) rfl dD_put_1 ?_
  refine lv_bipush (v := nI 12) hx hb dD_put_4 (by decide) ?_
  refine zz_icmp_ge (tgt := 16) hx hb (nI_toInt (by first | assumption | omega)) (nI_toInt (by decide)) dD_put_6 (by decide) (fun c_1 => ?_) (fun c_1 => ?_)
  · refine lv_iconst (v := nI 0) hx hb dD_put_16 (by decide) ?_
    exact mp_zret hx hb hr hlocks I rfl (Nat.le_of_ble_eq_true rfl) (Nat.le_of_ble_eq_true rfl) dD_put_17 (Or.inr ⟨by omega, rfl, rfl⟩)
  · refine lv_iload_n hx hb dD_put_9 rfl (lv_at hl 1 rfl) ?_
    refine mp_calli (va_runS (As := [.int x]) (rest := []) ⟨hx, hb, hml, hown, hts⟩ (kD_isKind l D k M x _) (cwS 1 hts (bw_S bw_66 bw_67 bw_1 bw_68) rfl rfl rfl (by decide +kernel) ⟨Nat.le_of_ble_eq_true rfl, Nat.le_of_ble_eq_true rfl⟩) (mp_preS I _) rfl rfl hl.1 rfl (lv_room (Nat.le_of_ble_eq_true rfl)) dD_put_10 ⟨Nat.le_of_ble_eq_true rfl, Nat.le_of_ble_eq_true rfl⟩) I (fun r_2 N_3 H locs hp I => ?_)
    obtain ⟨e_4, hp⟩ := hp
    rw [e_4] at I
    rcases hp with ⟨p1, p2, rfl⟩ | ⟨p1, rfl⟩
    · refine zz_if_ne (tgt := 18) hx hb (nI_toInt (by decide)) dD_put_13 (by decide) (fun _ => ?_) (fun c_5 => absurd c_5 (by decide))
      obtain ⟨xn, hn_xn, rfl, hz_xn⟩ := i32_nat (x := x) (by omega)
      refine lv_aload_n hx hb dD_put_18 rfl (lv_at hl 0 rfl) ?_
      refine mp_get (v := .ref aw) hx hb hts inD hown I h0 rfl 5 (by decide) (hts _ bw_31) (fun _ h9 => h9) rfl dD_put_19 ?_
      refine lv_aload_n hx hb dD_put_22 rfl (lv_at hl 0 rfl) ?_
      refine mp_get (v := .int (nI wc)) hx hb hts inD hown I h0 rfl 6 (by decide) (hts _ bw_32) (fun _ h9 => h9) rfl dD_put_23 ?_
      refine lv_iload_n hx hb dD_put_26 rfl (lv_at hl 1 rfl) ?_
      refine mp_iast hx hb I 0 haw rfl (x := nI xn) wc rfl (by omega) (by decide) dD_put_27 (fun H locs I => ?_)
      rw [upd_nI] at I
      have I : mp_I D cls5 (tys6 k) s _ s.heap H locs (mp_up M aw (.inl (k 0, 12, .inl (fun i_ => nI ((nu wt wc xn) i_))))) := I
      have haw_n : mp_up M aw (.inl (k 0, 12, .inl (fun i_ => nI ((nu wt wc xn) i_)))) aw = some (.inl (k 0, 12, .inl (fun i_ => nI ((nu wt wc xn) i_)))) := mp_up_s _ _ _
      have h0_n : mp_up M aw (.inl (k 0, 12, .inl (fun i_ => nI ((nu wt wc xn) i_)))) d = some (.inr (0, [.ref av, .ref ak, .int (nI ec), .ref at_, .int (nI tc), .ref aw, .int (nI wc), .ref as_, .int (nI sc), .ref an, .int (nI nc)])) := (mp_up_n (mp_ne h0 haw (by simp))).trans h0
      have hav_n : mp_up M aw (.inl (k 0, 12, .inl (fun i_ => nI ((nu wt wc xn) i_)))) av = some (.inl (k 1, 4000, .inr (.inl va))) := (mp_up_n (mp_ne hav haw (by simp))).trans hav
      have hak_n : mp_up M aw (.inl (k 0, 12, .inl (fun i_ => nI ((nu wt wc xn) i_)))) ak = some (.inl (k 0, 4000, .inl (fun i_ => nI (kd i_)))) := (mp_up_n (mp_ne hak haw (by simp))).trans hak
      have hat_n : mp_up M aw (.inl (k 0, 12, .inl (fun i_ => nI ((nu wt wc xn) i_)))) at_ = some (.inl (k 2, 300, .inr (.inr (.inr (.inr qt))))) := (mp_up_n (mp_ne hat haw (by simp))).trans hat
      have has_n : mp_up M aw (.inl (k 0, 12, .inl (fun i_ => nI ((nu wt wc xn) i_)))) as_ = some (.inl (k 3, 100, .inr (.inr (.inr (.inr qs))))) := (mp_up_n (mp_ne has haw (by simp))).trans has
      have han_n : mp_up M aw (.inl (k 0, 12, .inl (fun i_ => nI ((nu wt wc xn) i_)))) an = some (.inl (k 4, 20, .inr (.inr (.inr (.inr qn))))) := (mp_up_n (mp_ne han haw (by simp))).trans han
      generalize eM_7 : mp_up M aw (.inl (k 0, 12, .inl (fun i_ => nI ((nu wt wc xn) i_)))) = M_6 at I h0_n hav_n hak_n hat_n haw_n has_n han_n
      have h0__M_6 := h0_n
      have hav__M_6 := hav_n
      have hak__M_6 := hak_n
      have hat__M_6 := hat_n
      have haw__M_6 := haw_n
      have has__M_6 := has_n
      have han__M_6 := han_n
      clear h0_n hav_n hak_n hat_n haw_n has_n han_n
      refine lv_aload_n hx hb dD_put_28 rfl (lv_at hl 0 rfl) ?_
      refine lv_dup hx hb dD_put_29 rfl ?_
      refine mp_get (v := .int (nI wc)) hx hb hts inD hown I h0__M_6 rfl 6 (by decide) (hts _ bw_32) (fun _ h9 => h9) rfl dD_put_30 ?_
      refine lv_iconst (v := nI 1) hx hb dD_put_33 (by decide) ?_
      refine zz_iadd hx hb dD_put_34 ?_
      refine mp_put (v := .int (nI (wc + 1))) (ty := .int) hx hb hts inD tyD okD nmD hown I h0__M_6 rfl 6 (by decide) (hts _ bw_32) (fun _ h9 => h9) rfl (by decide +kernel) rfl rfl (Nat.le_of_ble_eq_true rfl) dD_put_35 (fun H locs I => ?_)
      have I : mp_I D cls5 (tys6 k) s _ s.heap H locs (mp_up M_6 d (.inr (0, [.ref av, .ref ak, .int (nI ec), .ref at_, .int (nI tc), .ref aw, .int (nI (wc + 1)), .ref as_, .int (nI sc), .ref an, .int (nI nc)]))) := I
      have h0__M_6_n : mp_up M_6 d (.inr (0, [.ref av, .ref ak, .int (nI ec), .ref at_, .int (nI tc), .ref aw, .int (nI (wc + 1)), .ref as_, .int (nI sc), .ref an, .int (nI nc)])) d = some (.inr (0, [.ref av, .ref ak, .int (nI ec), .ref at_, .int (nI tc), .ref aw, .int (nI (wc + 1)), .ref as_, .int (nI sc), .ref an, .int (nI nc)])) := mp_up_s _ _ _
      have hav__M_6_n : mp_up M_6 d (.inr (0, [.ref av, .ref ak, .int (nI ec), .ref at_, .int (nI tc), .ref aw, .int (nI (wc + 1)), .ref as_, .int (nI sc), .ref an, .int (nI nc)])) av = some (.inl (k 1, 4000, .inr (.inl va))) := (mp_up_n (mp_ne hav__M_6 h0__M_6 (by simp))).trans hav__M_6
      have hak__M_6_n : mp_up M_6 d (.inr (0, [.ref av, .ref ak, .int (nI ec), .ref at_, .int (nI tc), .ref aw, .int (nI (wc + 1)), .ref as_, .int (nI sc), .ref an, .int (nI nc)])) ak = some (.inl (k 0, 4000, .inl (fun i_ => nI (kd i_)))) := (mp_up_n (mp_ne hak__M_6 h0__M_6 (by simp))).trans hak__M_6
      have hat__M_6_n : mp_up M_6 d (.inr (0, [.ref av, .ref ak, .int (nI ec), .ref at_, .int (nI tc), .ref aw, .int (nI (wc + 1)), .ref as_, .int (nI sc), .ref an, .int (nI nc)])) at_ = some (.inl (k 2, 300, .inr (.inr (.inr (.inr qt))))) := (mp_up_n (mp_ne hat__M_6 h0__M_6 (by simp))).trans hat__M_6
      have haw__M_6_n : mp_up M_6 d (.inr (0, [.ref av, .ref ak, .int (nI ec), .ref at_, .int (nI tc), .ref aw, .int (nI (wc + 1)), .ref as_, .int (nI sc), .ref an, .int (nI nc)])) aw = some (.inl (k 0, 12, .inl (fun i_ => nI ((nu wt wc xn) i_)))) := (mp_up_n (mp_ne haw__M_6 h0__M_6 (by simp))).trans haw__M_6
      have has__M_6_n : mp_up M_6 d (.inr (0, [.ref av, .ref ak, .int (nI ec), .ref at_, .int (nI tc), .ref aw, .int (nI (wc + 1)), .ref as_, .int (nI sc), .ref an, .int (nI nc)])) as_ = some (.inl (k 3, 100, .inr (.inr (.inr (.inr qs))))) := (mp_up_n (mp_ne has__M_6 h0__M_6 (by simp))).trans has__M_6
      have han__M_6_n : mp_up M_6 d (.inr (0, [.ref av, .ref ak, .int (nI ec), .ref at_, .int (nI tc), .ref aw, .int (nI (wc + 1)), .ref as_, .int (nI sc), .ref an, .int (nI nc)])) an = some (.inl (k 4, 20, .inr (.inr (.inr (.inr qn))))) := (mp_up_n (mp_ne han__M_6 h0__M_6 (by simp))).trans han__M_6
      generalize eM_9 : mp_up M_6 d (.inr (0, [.ref av, .ref ak, .int (nI ec), .ref at_, .int (nI tc), .ref aw, .int (nI (wc + 1)), .ref as_, .int (nI sc), .ref an, .int (nI nc)])) = M_8 at I h0__M_6_n hav__M_6_n hak__M_6_n hat__M_6_n haw__M_6_n has__M_6_n han__M_6_n
      have h0__M_8 := h0__M_6_n
      have hav__M_8 := hav__M_6_n
      have hak__M_8 := hak__M_6_n
      have hat__M_8 := hat__M_6_n
      have haw__M_8 := haw__M_6_n
      have has__M_8 := has__M_6_n
      have han__M_8 := han__M_6_n
      clear h0__M_6_n hav__M_6_n hak__M_6_n hat__M_6_n haw__M_6_n has__M_6_n han__M_6_n
      refine lv_iconst (v := nI 1) hx hb dD_put_38 (by decide) ?_
      exact mp_zret hx hb hr hlocks I rfl (Nat.le_of_ble_eq_true rfl) (Nat.le_of_ble_eq_true rfl) dD_put_39 (Or.inl ⟨by omega, by omega, rfl, xn, by omega, by rw [← eM_9, ← eM_7]; exact (hD.setW _).cntW _⟩)
    · refine zz_if_ne (tgt := 18) hx hb (nI_toInt (by decide)) dD_put_13 (by decide) (fun c_10 => absurd c_10 (by decide)) (fun _ => ?_)
      refine lv_iconst (v := nI 0) hx hb dD_put_16 (by decide) ?_
      exact mp_zret hx hb hr hlocks I rfl (Nat.le_of_ble_eq_true rfl) (Nat.le_of_ble_eq_true rfl) dD_put_17 (Or.inr ⟨by omega, rfl, rfl⟩)
end
section
theorem mp_I.to {D : va_G} {cl : List vw_C} {tys : List (ClassId × FieldType)} {s : State} {A : Nat → Prop} {H0 H : Heap} {locs : List Loc} {M M1 : mp_M} (I : mp_I D cl tys s A H0 H locs M) (h : M = M1) : mp_I D cl tys s A H0 H locs M1 := h ▸ I
/-- the new object's values -/
def vin (va : Nat → Int64) (kd : Nat → Nat) (e i : Nat) : Nat → Int64 := fun j => if e ≤ j ∧ j < i then (if kd j = 7 then -1 else 0) else va j
theorem vin_0 (va : Nat → Int64) (kd : Nat → Nat) (e : Nat) : vin va kd e e = va := by
  funext j
  unfold vin
  rw [if_neg (by omega)]
theorem vin_s {va : Nat → Int64} {kd : Nat → Nat} {e i : Nat} {v : Int64} (h : e ≤ i) (hv : v = if kd i = 7 then -1 else 0) : vp_updL (vin va kd e i) i v = vin va kd e (i + 1) := by
  funext j
  unfold vp_updL vin
  by_cases hj : j = i
  · rw [if_pos hj, if_pos (show e ≤ j ∧ j < i + 1 by omega), hv, hj]
  · rw [if_neg hj]
    by_cases h2 : e ≤ j ∧ j < i
    · rw [if_pos h2, if_pos (show e ≤ j ∧ j < i + 1 by omega)]
    · rw [if_neg h2, if_neg (show ¬ (e ≤ j ∧ j < i + 1) by omega)]
/-- kinds of a row -/
def kfl (kd : Nat → Nat) (e i x : Nat) : Nat → Nat := fun j => if e ≤ j ∧ j < e + i then x else kd j
theorem kfl_0 (kd : Nat → Nat) (e x : Nat) : kfl kd e 0 x = kd := by
  funext j
  unfold kfl
  rw [if_neg (by omega)]
theorem kfl_s (kd : Nat → Nat) (e i x : Nat) : nu (kfl kd e i x) (e + i) x = kfl kd e (i + 1) x := by
  funext j
  unfold nu kfl
  by_cases hj : j = e + i
  · rw [if_pos hj, if_pos (show e ≤ j ∧ j < e + (i + 1) by omega)]
  · rw [if_neg hj]
    by_cases h2 : e ≤ j ∧ j < e + i
    · rw [if_pos h2, if_pos (show e ≤ j ∧ j < e + (i + 1) by omega)]
    · rw [if_neg h2, if_neg (show ¬ (e ≤ j ∧ j < e + (i + 1)) by omega)]
abbrev rm_D_addThing : Room := { frames := 2, cells := 1, slots := 3, locals := 60 }
set_option maxHeartbeats 4000000 in
set_option maxRecDepth 100000 in
theorem kD_addThing (l : Launch) (D : va_G) (k : Nat → ClassId) (M : mp_M) {d av ak at_ aw as_ an : Nat} {qt qs qn : Nat → Option Nat} {sa ra : Nat → Nat} {ec tc wc sc nc : Nat} {va : Nat → Int64} {kd wt tk tf tz sk sf sw sl nn : Nat → Nat} {nv : Nat → Nat → Int64} (hD : DkX k M d av ak at_ aw as_ an qt qs qn sa ra ec tc wc sc nc va kd wt tk tf tz sk sf sw sl nn nv) (hO : OkB ec tc wc sc nc tk tf tz sk sf sw sl nn) (x n : Nat) (hx7 : x ≤ 7) (ht : tc < 300) (hn : ec + n ≤ 4000) (hkd : ∀ i, i < ec + n → kd i ≤ 7) : mp_Met l yD_addThing (Cond.code yD_addThing cD_addThing 4 (some .int) :: bw) rm_D_addThing D cls5 (tys6 k) [.ref d, .int (nI x), .int (nI n)] M (va_Qi (fun r M1 => r = nI tc ∧ ∃ q : Nat, DkX k M1 d av ak at_ aw as_ an (va_up qt tc (some q)) qs qn sa ra (ec + n) (tc + 1) wc sc nc (vin va kd ec (ec + n)) kd wt (nu tk tc x) (nu tf tc ec) (nu tz tc n) sk sf sw sl nn nv)) 1 3 := by
  refine mp_Met.of (by decide) (Nat.le_of_ble_eq_true rfl) ?_
  intro p e s m below meth c hx hb hr hml hown hts hlocks hin ls hl I
  have hl : lv_has ls 4 [(0, .ref d), (1, .int (nI x)), (2, .int (nI n))] := hl
  obtain ⟨h0, hav, hak, hat, haw, has, han, hth, hsp, hsn, hij⟩ := id hD
  obtain ⟨b1, b2, b3, b4, b5, bT, bS, bN⟩ := id hO
  refine lv_aload_n hx hb dD_addThing_0 rfl (lv_at hl 0 rfl) ?_
  refine mp_get (v := .int (nI ec)) hx hb hts inD hown I h0 rfl 2 (by decide) (hts _ bw_28) (fun _ h9 => h9) rfl dD_addThing_1 ?_
  refine lv_istore_n (lv' := [(3, .int (nI ec)), (0, .ref d), (1, .int (nI x)), (2, .int (nI n))]) hx hb dD_addThing_4 rfl hl (by decide) rfl (fun ls hl => ?_)
  have I := I.to (show M = mp_up M av (.inl (k 1, 4000, .inr (.inl (vin va kd ec ec)))) by rw [vin_0, mp_upself hav])
  refine mp_loop (ec + n) 4 (fun i => [(3, .int (nI i)), (0, .ref d), (1, .int (nI x)), (2, .int (nI n))]) (fun i => mp_up M av (.inl (k 1, 4000, .inr (.inl (vin va kd ec i))))) ec (by omega) (lv_sub hl [0, 1, 2, 3] rfl) I ?_
  intro i H locs ls hi0_i hi_i hl I ih_i
  have hl : lv_has ls 4 [(3, .int (nI i)), (0, .ref d), (1, .int (nI x)), (2, .int (nI n))] := hl
  have I : mp_I D cls5 (tys6 k) s _ s.heap H locs (mp_up M av (.inl (k 1, 4000, .inr (.inl (vin va kd ec i))))) := I
  have h0__L : mp_up M av (.inl (k 1, 4000, .inr (.inl (vin va kd ec i)))) d = some (.inr (0, [.ref av, .ref ak, .int (nI ec), .ref at_, .int (nI tc), .ref aw, .int (nI wc), .ref as_, .int (nI sc), .ref an, .int (nI nc)])) := (mp_up_n (mp_ne h0 hav (by simp))).trans h0
  have hav__L : mp_up M av (.inl (k 1, 4000, .inr (.inl (vin va kd ec i)))) av = some (.inl (k 1, 4000, .inr (.inl (vin va kd ec i)))) := mp_up_s _ _ _
  have hak__L : mp_up M av (.inl (k 1, 4000, .inr (.inl (vin va kd ec i)))) ak = some (.inl (k 0, 4000, .inl (fun i_ => nI (kd i_)))) := (mp_up_n (mp_ne hak hav (by simp))).trans hak
  have hat__L : mp_up M av (.inl (k 1, 4000, .inr (.inl (vin va kd ec i)))) at_ = some (.inl (k 2, 300, .inr (.inr (.inr (.inr qt))))) := (mp_up_n (mp_ne hat hav (by simp))).trans hat
  have haw__L : mp_up M av (.inl (k 1, 4000, .inr (.inl (vin va kd ec i)))) aw = some (.inl (k 0, 12, .inl (fun i_ => nI (wt i_)))) := (mp_up_n (mp_ne haw hav (by simp))).trans haw
  have has__L : mp_up M av (.inl (k 1, 4000, .inr (.inl (vin va kd ec i)))) as_ = some (.inl (k 3, 100, .inr (.inr (.inr (.inr qs))))) := (mp_up_n (mp_ne has hav (by simp))).trans has
  have han__L : mp_up M av (.inl (k 1, 4000, .inr (.inl (vin va kd ec i)))) an = some (.inl (k 4, 20, .inr (.inr (.inr (.inr qn))))) := (mp_up_n (mp_ne han hav (by simp))).trans han
  refine lv_iload_n hx hb dD_addThing_5 rfl (lv_at hl 0 rfl) ?_
  refine lv_aload_n hx hb dD_addThing_6 rfl (lv_at hl 1 rfl) ?_
  refine mp_get (v := .int (nI ec)) hx hb hts inD hown I h0__L rfl 2 (by decide) (hts _ bw_28) (fun _ h9 => h9) rfl dD_addThing_7 ?_
  refine lv_iload_n hx hb dD_addThing_10 rfl (lv_at hl 3 rfl) ?_
  refine zz_iadd hx hb dD_addThing_11 ?_
  refine zz_icmp_ge (tgt := 45) hx hb (nI_toInt (by first | assumption | omega)) (nI_toInt (by first | assumption | omega)) dD_addThing_12 (by decide) (fun c_1 => ?_) (fun c_1 => ?_)
  · obtain rfl : i = ec + n := by omega
    have hD := hD.setV (vin va kd ec (ec + n))
    generalize eMv : mp_up M av (.inl (k 1, 4000, .inr (.inl (vin va kd ec (ec + n))))) = Mv at I hD
    clear h0__L hav__L hak__L hat__L haw__L has__L han__L
    obtain ⟨h0, hav, hak, hat, haw, has, han, hth, hsp, hsn, hij⟩ := id hD
    refine lv_aload_n hx hb dD_addThing_45 rfl (lv_at hl 1 rfl) ?_
    refine mp_get (v := .ref at_) hx hb hts inD hown I h0 rfl 3 (by decide) (hts _ bw_29) (fun _ h9 => h9) rfl dD_addThing_46 ?_
    refine lv_aload_n hx hb dD_addThing_49 rfl (lv_at hl 1 rfl) ?_
    refine mp_get (v := .int (nI tc)) hx hb hts inD hown I h0 rfl 4 (by decide) (hts _ bw_30) (fun _ h9 => h9) rfl dD_addThing_50 ?_
    refine mp_new (fs := [.int 0, .int 0, .int 0]) hx hb hts inT tyT okT hown (hts _ bw_20) (hts _ bw_78) (hts _ bw_3) I (ci := 1) rfl (fun j hj => by rcases (show j = 0 ∨ j = 1 ∨ j = 2 by omega) with rfl | rfl | rfl <;> rfl) (Nat.le_of_ble_eq_true rfl) (Nat.le_of_ble_eq_true rfl) dD_addThing_53 (fun q H hq_2 I => ?_)
    have hqq_n : mp_up Mv q (.inr (1, [.int 0, .int 0, .int 0])) q = some (.inr (1, [.int 0, .int 0, .int 0])) := mp_up_s _ _ _
    have h0_n : mp_up Mv q (.inr (1, [.int 0, .int 0, .int 0])) d = some (.inr (0, [.ref av, .ref ak, .int (nI ec), .ref at_, .int (nI tc), .ref aw, .int (nI wc), .ref as_, .int (nI sc), .ref an, .int (nI nc)])) := (mp_up_n (fun z => by rw [z, hq_2] at h0; cases h0)).trans h0
    have hav_n : mp_up Mv q (.inr (1, [.int 0, .int 0, .int 0])) av = some (.inl (k 1, 4000, .inr (.inl (vin va kd ec (ec + n))))) := (mp_up_n (fun z => by rw [z, hq_2] at hav; cases hav)).trans hav
    have hak_n : mp_up Mv q (.inr (1, [.int 0, .int 0, .int 0])) ak = some (.inl (k 0, 4000, .inl (fun i_ => nI (kd i_)))) := (mp_up_n (fun z => by rw [z, hq_2] at hak; cases hak)).trans hak
    have hat_n : mp_up Mv q (.inr (1, [.int 0, .int 0, .int 0])) at_ = some (.inl (k 2, 300, .inr (.inr (.inr (.inr qt))))) := (mp_up_n (fun z => by rw [z, hq_2] at hat; cases hat)).trans hat
    have haw_n : mp_up Mv q (.inr (1, [.int 0, .int 0, .int 0])) aw = some (.inl (k 0, 12, .inl (fun i_ => nI (wt i_)))) := (mp_up_n (fun z => by rw [z, hq_2] at haw; cases haw)).trans haw
    have has_n : mp_up Mv q (.inr (1, [.int 0, .int 0, .int 0])) as_ = some (.inl (k 3, 100, .inr (.inr (.inr (.inr qs))))) := (mp_up_n (fun z => by rw [z, hq_2] at has; cases has)).trans has
    have han_n : mp_up Mv q (.inr (1, [.int 0, .int 0, .int 0])) an = some (.inl (k 4, 20, .inr (.inr (.inr (.inr qn))))) := (mp_up_n (fun z => by rw [z, hq_2] at han; cases han)).trans han
    generalize eM_4 : mp_up Mv q (.inr (1, [.int 0, .int 0, .int 0])) = M_3 at I hqq_n h0_n hav_n hak_n hat_n haw_n has_n han_n
    have h0__M_3 := h0_n
    have hav__M_3 := hav_n
    have hak__M_3 := hak_n
    have hat__M_3 := hat_n
    have haw__M_3 := haw_n
    have has__M_3 := has_n
    have han__M_3 := han_n
    have hqq__M_3 := hqq_n
    clear hqq_n h0_n hav_n hak_n hat_n haw_n has_n han_n
    refine lv_dup hx hb dD_addThing_56 rfl ?_
    refine lv_iload_n hx hb dD_addThing_57 rfl (lv_at hl 2 rfl) ?_
    refine lv_aload_n hx hb dD_addThing_58 rfl (lv_at hl 1 rfl) ?_
    refine mp_get (v := .int (nI ec)) hx hb hts inD hown I h0__M_3 rfl 2 (by decide) (hts _ bw_28) (fun _ h9 => h9) rfl dD_addThing_59 ?_
    refine lv_iload_n hx hb dD_addThing_62 rfl (lv_at hl 3 rfl) ?_
    refine mp_callv (va_runI (As := [.int (nI x), .int (nI ec), .int (nI n)]) (rest := [.ref q, .int (nI tc), .ref at_]) ⟨hx, hb, hml, hown, hts⟩ (kT_init l D k M_3 q (nI x) (nI ec) (nI n) hqq__M_3 _) (cwI 3 hts (bw_I bw_81) rfl rfl rfl (hts _ bw_3) (hts _ bw_79) (hts _ bw_80) rfl (by decide +kernel) ⟨Nat.le_of_ble_eq_true rfl, Nat.le_of_ble_eq_true rfl⟩) (mp_preS I _) rfl rfl hl.1 rfl (lv_room (Nat.le_of_ble_eq_true rfl)) dD_addThing_63 ⟨Nat.le_of_ble_eq_true rfl, Nat.le_of_ble_eq_true rfl⟩) I (fun N1 H locs hp I => ?_)
    rw [hp] at I
    have I : mp_I D cls5 (tys6 k) s _ s.heap H locs (mp_up M_3 q (.inr (1, [.int (nI x), .int (nI ec), .int (nI n)]))) := I
    have hqq__M_3_n : mp_up M_3 q (.inr (1, [.int (nI x), .int (nI ec), .int (nI n)])) q = some (.inr (1, [.int (nI x), .int (nI ec), .int (nI n)])) := mp_up_s _ _ _
    have h0__M_3_n : mp_up M_3 q (.inr (1, [.int (nI x), .int (nI ec), .int (nI n)])) d = some (.inr (0, [.ref av, .ref ak, .int (nI ec), .ref at_, .int (nI tc), .ref aw, .int (nI wc), .ref as_, .int (nI sc), .ref an, .int (nI nc)])) := (mp_up_n (mp_ne h0__M_3 hqq__M_3 (by simp))).trans h0__M_3
    have hav__M_3_n : mp_up M_3 q (.inr (1, [.int (nI x), .int (nI ec), .int (nI n)])) av = some (.inl (k 1, 4000, .inr (.inl (vin va kd ec (ec + n))))) := (mp_up_n (mp_ne hav__M_3 hqq__M_3 (by simp))).trans hav__M_3
    have hak__M_3_n : mp_up M_3 q (.inr (1, [.int (nI x), .int (nI ec), .int (nI n)])) ak = some (.inl (k 0, 4000, .inl (fun i_ => nI (kd i_)))) := (mp_up_n (mp_ne hak__M_3 hqq__M_3 (by simp))).trans hak__M_3
    have hat__M_3_n : mp_up M_3 q (.inr (1, [.int (nI x), .int (nI ec), .int (nI n)])) at_ = some (.inl (k 2, 300, .inr (.inr (.inr (.inr qt))))) := (mp_up_n (mp_ne hat__M_3 hqq__M_3 (by simp))).trans hat__M_3
    have haw__M_3_n : mp_up M_3 q (.inr (1, [.int (nI x), .int (nI ec), .int (nI n)])) aw = some (.inl (k 0, 12, .inl (fun i_ => nI (wt i_)))) := (mp_up_n (mp_ne haw__M_3 hqq__M_3 (by simp))).trans haw__M_3
    have has__M_3_n : mp_up M_3 q (.inr (1, [.int (nI x), .int (nI ec), .int (nI n)])) as_ = some (.inl (k 3, 100, .inr (.inr (.inr (.inr qs))))) := (mp_up_n (mp_ne has__M_3 hqq__M_3 (by simp))).trans has__M_3
    have han__M_3_n : mp_up M_3 q (.inr (1, [.int (nI x), .int (nI ec), .int (nI n)])) an = some (.inl (k 4, 20, .inr (.inr (.inr (.inr qn))))) := (mp_up_n (mp_ne han__M_3 hqq__M_3 (by simp))).trans han__M_3
    generalize eM_6 : mp_up M_3 q (.inr (1, [.int (nI x), .int (nI ec), .int (nI n)])) = M_5 at I h0__M_3_n hav__M_3_n hak__M_3_n hat__M_3_n haw__M_3_n has__M_3_n han__M_3_n hqq__M_3_n
    have h0__M_5 := h0__M_3_n
    have hav__M_5 := hav__M_3_n
    have hak__M_5 := hak__M_3_n
    have hat__M_5 := hat__M_3_n
    have haw__M_5 := haw__M_3_n
    have has__M_5 := has__M_3_n
    have han__M_5 := han__M_3_n
    have hqq__M_5 := hqq__M_3_n
    clear h0__M_3_n hav__M_3_n hak__M_3_n hat__M_3_n haw__M_3_n has__M_3_n han__M_3_n hqq__M_3_n
    have hD := hD.fresh q (.inr (1, [.int (nI x), .int (nI ec), .int (nI n)])) hq_2
    rw [← mp_upup Mv q (.inr (1, [.int 0, .int 0, .int 0])) (.inr (1, [.int (nI x), .int (nI ec), .int (nI n)])), eM_4, eM_6] at hD
    refine mp_aast (r := (RT, FT, 3)) hx hb I 2 1 hat__M_5 rfl hqq__M_5 rfl tc rfl (by omega) (by decide) dD_addThing_66 (fun H locs I => ?_)
    have I : mp_I D cls5 (tys6 k) s _ s.heap H locs (mp_up M_5 at_ (.inl (k 2, 300, .inr (.inr (.inr (.inr (va_up qt tc (some q)))))))) := I
    have hat__M_5_n : mp_up M_5 at_ (.inl (k 2, 300, .inr (.inr (.inr (.inr (va_up qt tc (some q))))))) at_ = some (.inl (k 2, 300, .inr (.inr (.inr (.inr (va_up qt tc (some q))))))) := mp_up_s _ _ _
    have h0__M_5_n : mp_up M_5 at_ (.inl (k 2, 300, .inr (.inr (.inr (.inr (va_up qt tc (some q))))))) d = some (.inr (0, [.ref av, .ref ak, .int (nI ec), .ref at_, .int (nI tc), .ref aw, .int (nI wc), .ref as_, .int (nI sc), .ref an, .int (nI nc)])) := (mp_up_n (mp_ne h0__M_5 hat__M_5 (by simp))).trans h0__M_5
    have hav__M_5_n : mp_up M_5 at_ (.inl (k 2, 300, .inr (.inr (.inr (.inr (va_up qt tc (some q))))))) av = some (.inl (k 1, 4000, .inr (.inl (vin va kd ec (ec + n))))) := (mp_up_n (mp_ne hav__M_5 hat__M_5 (by simp))).trans hav__M_5
    have hak__M_5_n : mp_up M_5 at_ (.inl (k 2, 300, .inr (.inr (.inr (.inr (va_up qt tc (some q))))))) ak = some (.inl (k 0, 4000, .inl (fun i_ => nI (kd i_)))) := (mp_up_n (mp_ne hak__M_5 hat__M_5 (by simp))).trans hak__M_5
    have haw__M_5_n : mp_up M_5 at_ (.inl (k 2, 300, .inr (.inr (.inr (.inr (va_up qt tc (some q))))))) aw = some (.inl (k 0, 12, .inl (fun i_ => nI (wt i_)))) := (mp_up_n (mp_ne haw__M_5 hat__M_5 (by simp))).trans haw__M_5
    have has__M_5_n : mp_up M_5 at_ (.inl (k 2, 300, .inr (.inr (.inr (.inr (va_up qt tc (some q))))))) as_ = some (.inl (k 3, 100, .inr (.inr (.inr (.inr qs))))) := (mp_up_n (mp_ne has__M_5 hat__M_5 (by simp))).trans has__M_5
    have han__M_5_n : mp_up M_5 at_ (.inl (k 2, 300, .inr (.inr (.inr (.inr (va_up qt tc (some q))))))) an = some (.inl (k 4, 20, .inr (.inr (.inr (.inr qn))))) := (mp_up_n (mp_ne han__M_5 hat__M_5 (by simp))).trans han__M_5
    have hqq__M_5_n : mp_up M_5 at_ (.inl (k 2, 300, .inr (.inr (.inr (.inr (va_up qt tc (some q))))))) q = some (.inr (1, [.int (nI x), .int (nI ec), .int (nI n)])) := (mp_up_n (mp_ne hqq__M_5 hat__M_5 (by simp))).trans hqq__M_5
    generalize eM_8 : mp_up M_5 at_ (.inl (k 2, 300, .inr (.inr (.inr (.inr (va_up qt tc (some q))))))) = M_7 at I h0__M_5_n hav__M_5_n hak__M_5_n hat__M_5_n haw__M_5_n has__M_5_n han__M_5_n hqq__M_5_n
    have h0__M_7 := h0__M_5_n
    have hav__M_7 := hav__M_5_n
    have hak__M_7 := hak__M_5_n
    have hat__M_7 := hat__M_5_n
    have haw__M_7 := haw__M_5_n
    have has__M_7 := has__M_5_n
    have han__M_7 := han__M_5_n
    have hqq__M_7 := hqq__M_5_n
    clear h0__M_5_n hav__M_5_n hak__M_5_n hat__M_5_n haw__M_5_n has__M_5_n han__M_5_n hqq__M_5_n
    have hD := hD.setT (some q)
    rw [eM_8] at hD
    refine lv_aload_n hx hb dD_addThing_67 rfl (lv_at hl 1 rfl) ?_
    refine lv_dup hx hb dD_addThing_68 rfl ?_
    refine mp_get (v := .int (nI ec)) hx hb hts inD hown I h0__M_7 rfl 2 (by decide) (hts _ bw_28) (fun _ h9 => h9) rfl dD_addThing_69 ?_
    refine lv_iload_n hx hb dD_addThing_72 rfl (lv_at hl 3 rfl) ?_
    refine zz_iadd hx hb dD_addThing_73 ?_
    refine mp_put (v := .int (nI (ec + n))) (ty := .int) hx hb hts inD tyD okD nmD hown I h0__M_7 rfl 2 (by decide) (hts _ bw_28) (fun _ h9 => h9) rfl (by decide +kernel) rfl rfl (Nat.le_of_ble_eq_true rfl) dD_addThing_74 (fun H locs I => ?_)
    have I : mp_I D cls5 (tys6 k) s _ s.heap H locs (mp_up M_7 d (.inr (0, [.ref av, .ref ak, .int (nI (ec + n)), .ref at_, .int (nI tc), .ref aw, .int (nI wc), .ref as_, .int (nI sc), .ref an, .int (nI nc)]))) := I
    have h0__M_7_n : mp_up M_7 d (.inr (0, [.ref av, .ref ak, .int (nI (ec + n)), .ref at_, .int (nI tc), .ref aw, .int (nI wc), .ref as_, .int (nI sc), .ref an, .int (nI nc)])) d = some (.inr (0, [.ref av, .ref ak, .int (nI (ec + n)), .ref at_, .int (nI tc), .ref aw, .int (nI wc), .ref as_, .int (nI sc), .ref an, .int (nI nc)])) := mp_up_s _ _ _
    have hav__M_7_n : mp_up M_7 d (.inr (0, [.ref av, .ref ak, .int (nI (ec + n)), .ref at_, .int (nI tc), .ref aw, .int (nI wc), .ref as_, .int (nI sc), .ref an, .int (nI nc)])) av = some (.inl (k 1, 4000, .inr (.inl (vin va kd ec (ec + n))))) := (mp_up_n (mp_ne hav__M_7 h0__M_7 (by simp))).trans hav__M_7
    have hak__M_7_n : mp_up M_7 d (.inr (0, [.ref av, .ref ak, .int (nI (ec + n)), .ref at_, .int (nI tc), .ref aw, .int (nI wc), .ref as_, .int (nI sc), .ref an, .int (nI nc)])) ak = some (.inl (k 0, 4000, .inl (fun i_ => nI (kd i_)))) := (mp_up_n (mp_ne hak__M_7 h0__M_7 (by simp))).trans hak__M_7
    have hat__M_7_n : mp_up M_7 d (.inr (0, [.ref av, .ref ak, .int (nI (ec + n)), .ref at_, .int (nI tc), .ref aw, .int (nI wc), .ref as_, .int (nI sc), .ref an, .int (nI nc)])) at_ = some (.inl (k 2, 300, .inr (.inr (.inr (.inr (va_up qt tc (some q))))))) := (mp_up_n (mp_ne hat__M_7 h0__M_7 (by simp))).trans hat__M_7
    have haw__M_7_n : mp_up M_7 d (.inr (0, [.ref av, .ref ak, .int (nI (ec + n)), .ref at_, .int (nI tc), .ref aw, .int (nI wc), .ref as_, .int (nI sc), .ref an, .int (nI nc)])) aw = some (.inl (k 0, 12, .inl (fun i_ => nI (wt i_)))) := (mp_up_n (mp_ne haw__M_7 h0__M_7 (by simp))).trans haw__M_7
    have has__M_7_n : mp_up M_7 d (.inr (0, [.ref av, .ref ak, .int (nI (ec + n)), .ref at_, .int (nI tc), .ref aw, .int (nI wc), .ref as_, .int (nI sc), .ref an, .int (nI nc)])) as_ = some (.inl (k 3, 100, .inr (.inr (.inr (.inr qs))))) := (mp_up_n (mp_ne has__M_7 h0__M_7 (by simp))).trans has__M_7
    have han__M_7_n : mp_up M_7 d (.inr (0, [.ref av, .ref ak, .int (nI (ec + n)), .ref at_, .int (nI tc), .ref aw, .int (nI wc), .ref as_, .int (nI sc), .ref an, .int (nI nc)])) an = some (.inl (k 4, 20, .inr (.inr (.inr (.inr qn))))) := (mp_up_n (mp_ne han__M_7 h0__M_7 (by simp))).trans han__M_7
    have hqq__M_7_n : mp_up M_7 d (.inr (0, [.ref av, .ref ak, .int (nI (ec + n)), .ref at_, .int (nI tc), .ref aw, .int (nI wc), .ref as_, .int (nI sc), .ref an, .int (nI nc)])) q = some (.inr (1, [.int (nI x), .int (nI ec), .int (nI n)])) := (mp_up_n (mp_ne hqq__M_7 h0__M_7 (by simp))).trans hqq__M_7
    generalize eM_10 : mp_up M_7 d (.inr (0, [.ref av, .ref ak, .int (nI (ec + n)), .ref at_, .int (nI tc), .ref aw, .int (nI wc), .ref as_, .int (nI sc), .ref an, .int (nI nc)])) = M_9 at I h0__M_7_n hav__M_7_n hak__M_7_n hat__M_7_n haw__M_7_n has__M_7_n han__M_7_n hqq__M_7_n
    have h0__M_9 := h0__M_7_n
    have hav__M_9 := hav__M_7_n
    have hak__M_9 := hak__M_7_n
    have hat__M_9 := hat__M_7_n
    have haw__M_9 := haw__M_7_n
    have has__M_9 := has__M_7_n
    have han__M_9 := han__M_7_n
    have hqq__M_9 := hqq__M_7_n
    clear h0__M_7_n hav__M_7_n hak__M_7_n hat__M_7_n haw__M_7_n has__M_7_n han__M_7_n hqq__M_7_n
    have hD := hD.cntE (ec + n)
    rw [eM_10] at hD
    refine lv_aload_n hx hb dD_addThing_77 rfl (lv_at hl 1 rfl) ?_
    refine lv_dup hx hb dD_addThing_78 rfl ?_
    refine mp_get (v := .int (nI tc)) hx hb hts inD hown I h0__M_9 rfl 4 (by decide) (hts _ bw_30) (fun _ h9 => h9) rfl dD_addThing_79 ?_
    refine lv_iconst (v := nI 1) hx hb dD_addThing_82 (by decide) ?_
    refine zz_iadd hx hb dD_addThing_83 ?_
    refine mp_put (v := .int (nI (tc + 1))) (ty := .int) hx hb hts inD tyD okD nmD hown I h0__M_9 rfl 4 (by decide) (hts _ bw_30) (fun _ h9 => h9) rfl (by decide +kernel) rfl rfl (Nat.le_of_ble_eq_true rfl) dD_addThing_84 (fun H locs I => ?_)
    have I : mp_I D cls5 (tys6 k) s _ s.heap H locs (mp_up M_9 d (.inr (0, [.ref av, .ref ak, .int (nI (ec + n)), .ref at_, .int (nI (tc + 1)), .ref aw, .int (nI wc), .ref as_, .int (nI sc), .ref an, .int (nI nc)]))) := I
    have h0__M_9_n : mp_up M_9 d (.inr (0, [.ref av, .ref ak, .int (nI (ec + n)), .ref at_, .int (nI (tc + 1)), .ref aw, .int (nI wc), .ref as_, .int (nI sc), .ref an, .int (nI nc)])) d = some (.inr (0, [.ref av, .ref ak, .int (nI (ec + n)), .ref at_, .int (nI (tc + 1)), .ref aw, .int (nI wc), .ref as_, .int (nI sc), .ref an, .int (nI nc)])) := mp_up_s _ _ _
    have hav__M_9_n : mp_up M_9 d (.inr (0, [.ref av, .ref ak, .int (nI (ec + n)), .ref at_, .int (nI (tc + 1)), .ref aw, .int (nI wc), .ref as_, .int (nI sc), .ref an, .int (nI nc)])) av = some (.inl (k 1, 4000, .inr (.inl (vin va kd ec (ec + n))))) := (mp_up_n (mp_ne hav__M_9 h0__M_9 (by simp))).trans hav__M_9
    have hak__M_9_n : mp_up M_9 d (.inr (0, [.ref av, .ref ak, .int (nI (ec + n)), .ref at_, .int (nI (tc + 1)), .ref aw, .int (nI wc), .ref as_, .int (nI sc), .ref an, .int (nI nc)])) ak = some (.inl (k 0, 4000, .inl (fun i_ => nI (kd i_)))) := (mp_up_n (mp_ne hak__M_9 h0__M_9 (by simp))).trans hak__M_9
    have hat__M_9_n : mp_up M_9 d (.inr (0, [.ref av, .ref ak, .int (nI (ec + n)), .ref at_, .int (nI (tc + 1)), .ref aw, .int (nI wc), .ref as_, .int (nI sc), .ref an, .int (nI nc)])) at_ = some (.inl (k 2, 300, .inr (.inr (.inr (.inr (va_up qt tc (some q))))))) := (mp_up_n (mp_ne hat__M_9 h0__M_9 (by simp))).trans hat__M_9
    have haw__M_9_n : mp_up M_9 d (.inr (0, [.ref av, .ref ak, .int (nI (ec + n)), .ref at_, .int (nI (tc + 1)), .ref aw, .int (nI wc), .ref as_, .int (nI sc), .ref an, .int (nI nc)])) aw = some (.inl (k 0, 12, .inl (fun i_ => nI (wt i_)))) := (mp_up_n (mp_ne haw__M_9 h0__M_9 (by simp))).trans haw__M_9
    have has__M_9_n : mp_up M_9 d (.inr (0, [.ref av, .ref ak, .int (nI (ec + n)), .ref at_, .int (nI (tc + 1)), .ref aw, .int (nI wc), .ref as_, .int (nI sc), .ref an, .int (nI nc)])) as_ = some (.inl (k 3, 100, .inr (.inr (.inr (.inr qs))))) := (mp_up_n (mp_ne has__M_9 h0__M_9 (by simp))).trans has__M_9
    have han__M_9_n : mp_up M_9 d (.inr (0, [.ref av, .ref ak, .int (nI (ec + n)), .ref at_, .int (nI (tc + 1)), .ref aw, .int (nI wc), .ref as_, .int (nI sc), .ref an, .int (nI nc)])) an = some (.inl (k 4, 20, .inr (.inr (.inr (.inr qn))))) := (mp_up_n (mp_ne han__M_9 h0__M_9 (by simp))).trans han__M_9
    have hqq__M_9_n : mp_up M_9 d (.inr (0, [.ref av, .ref ak, .int (nI (ec + n)), .ref at_, .int (nI (tc + 1)), .ref aw, .int (nI wc), .ref as_, .int (nI sc), .ref an, .int (nI nc)])) q = some (.inr (1, [.int (nI x), .int (nI ec), .int (nI n)])) := (mp_up_n (mp_ne hqq__M_9 h0__M_9 (by simp))).trans hqq__M_9
    generalize eM_12 : mp_up M_9 d (.inr (0, [.ref av, .ref ak, .int (nI (ec + n)), .ref at_, .int (nI (tc + 1)), .ref aw, .int (nI wc), .ref as_, .int (nI sc), .ref an, .int (nI nc)])) = M_11 at I h0__M_9_n hav__M_9_n hak__M_9_n hat__M_9_n haw__M_9_n has__M_9_n han__M_9_n hqq__M_9_n
    have h0__M_11 := h0__M_9_n
    have hav__M_11 := hav__M_9_n
    have hak__M_11 := hak__M_9_n
    have hat__M_11 := hat__M_9_n
    have haw__M_11 := haw__M_9_n
    have has__M_11 := has__M_9_n
    have han__M_11 := han__M_9_n
    have hqq__M_11 := hqq__M_9_n
    clear h0__M_9_n hav__M_9_n hak__M_9_n hat__M_9_n haw__M_9_n has__M_9_n han__M_9_n hqq__M_9_n
    have hD := hD.cntT q x ec n (va_up_self _ _ _) hqq__M_9
    rw [eM_12] at hD
    refine lv_aload_n hx hb dD_addThing_87 rfl (lv_at hl 1 rfl) ?_
    refine mp_get (v := .int (nI (tc + 1))) hx hb hts inD hown I h0__M_11 rfl 4 (by decide) (hts _ bw_30) (fun _ h9 => h9) rfl dD_addThing_88 ?_
    refine lv_iconst (v := nI 1) hx hb dD_addThing_91 (by decide) ?_
    refine zz_isub hx hb (by omega) dD_addThing_92 ?_
    exact mp_iret hx hb hr hlocks I (Nat.le_of_ble_eq_true rfl) (Nat.le_of_ble_eq_true rfl) dD_addThing_93 ⟨rfl, q, hD⟩
  · refine lv_aload_n hx hb dD_addThing_15 rfl (lv_at hl 1 rfl) ?_
    refine mp_get (v := .ref av) hx hb hts inD hown I h0__L rfl 0 (by decide) (hts _ bw_26) (fun _ h9 => h9) rfl dD_addThing_16 ?_
    refine lv_iload_n hx hb dD_addThing_19 rfl (lv_at hl 0 rfl) ?_
    refine lv_aload_n hx hb dD_addThing_20 rfl (lv_at hl 1 rfl) ?_
    refine mp_get (v := .ref ak) hx hb hts inD hown I h0__L rfl 1 (by decide) (hts _ bw_27) (fun _ h9 => h9) rfl dD_addThing_21 ?_
    refine lv_iload_n hx hb dD_addThing_24 rfl (lv_at hl 0 rfl) ?_
    refine mp_iald hx hb I 0 hak__L rfl i rfl (by omega) (by decide) (v := nI (kd i)) rfl dD_addThing_25 ?_
    have hki := hkd i (by omega)
    refine lv_bipush (v := nI 7) hx hb dD_addThing_26 (by decide) ?_
    refine zz_icmp_ne (tgt := 37) hx hb (nI_toInt (by first | assumption | omega)) (nI_toInt (by decide)) dD_addThing_28 (by decide) (fun c_13 => ?_) (fun c_13 => ?_)
    · refine lv_lconst (v := 0) hx hb dD_addThing_37 (by decide) ?_
      refine mp_last hx hb I 1 hav__L rfl (x := 0) i rfl (by omega) (by decide) dD_addThing_38 (fun H locs I => ?_)
      rw [mp_upup, vin_s (by omega) (by rw [if_neg (by omega)])] at I
      refine lv_iinc (v := nI (i + 1)) (lv' := [(3, .int (nI (i + 1))), (0, .ref d), (1, .int (nI x)), (2, .int (nI n))]) hx hb dD_addThing_39 hl (k := 0) rfl (nI_add i 1) (by decide) rfl (fun ls hl => ?_)
      refine lv_goto (tgt := 5) hx hb dD_addThing_42 (by decide) ?_
      exact ih_i _ _ _ (by omega) (lv_sub hl [0, 1, 2, 3] rfl) I
    · refine lv_ldc2 (v := (-1)) hx hb hown (hts _ bw_77) dD_addThing_31 ?_
      refine lv_goto (tgt := 38) hx hb dD_addThing_34 (by decide) ?_
      refine mp_last hx hb I 1 hav__L rfl (x := (-1)) i rfl (by omega) (by decide) dD_addThing_38 (fun H locs I => ?_)
      rw [mp_upup, vin_s (by omega) (by rw [if_pos (by omega)])] at I
      refine lv_iinc (v := nI (i + 1)) (lv' := [(3, .int (nI (i + 1))), (0, .ref d), (1, .int (nI x)), (2, .int (nI n))]) hx hb dD_addThing_39 hl (k := 0) rfl (nI_add i 1) (by decide) rfl (fun ls hl => ?_)
      refine lv_goto (tgt := 5) hx hb dD_addThing_42 (by decide) ?_
      exact ih_i _ _ _ (by omega) (lv_sub hl [0, 1, 2, 3] rfl) I
abbrev rm_D_row : Room := { frames := 3, cells := 1, slots := 3, locals := 90 }
set_option maxHeartbeats 4000000 in
set_option maxRecDepth 100000 in
theorem kD_row (l : Launch) (D : va_G) (k : Nat → ClassId) (M : mp_M) {d av ak at_ aw as_ an : Nat} {qt qs qn : Nat → Option Nat} {sa ra : Nat → Nat} {ec tc wc sc nc : Nat} {va : Nat → Int64} {kd wt tk tf tz sk sf sw sl nn : Nat → Nat} {nv : Nat → Nat → Int64} (hD : DkX k M d av ak at_ aw as_ an qt qs qn sa ra ec tc wc sc nc va kd wt tk tf tz sk sf sw sl nn nv) (hO : OkB ec tc wc sc nc tk tf tz sk sf sw sl nn) (hkd : ∀ i, i < ec → kd i ≤ 7) (x y : Int32) : mp_Met l yD_row (Cond.code yD_row cD_row 4 (some .int) :: bw) rm_D_row D cls5 (tys6 k) [.ref d, .int x, .int y] M (va_Qi (fun r M1 => ((tc < 300 ∧ (1 ≤ x.toInt ∧ x.toInt ≤ 7) ∧ 0 ≤ y.toInt ∧ y.toInt ≤ 200 ∧ y.toInt + ec ≤ 4000) ∧ r = nI tc ∧ ∃ xn yn q : Nat, x.toInt = xn ∧ y.toInt = yn ∧ DkX k M1 d av ak at_ aw as_ an (va_up qt tc (some q)) qs qn sa ra (ec + yn) (tc + 1) wc sc nc (vin va (kfl kd ec yn xn) ec (ec + yn)) (kfl kd ec yn xn) wt (nu tk tc xn) (nu tf tc ec) (nu tz tc yn) sk sf sw sl nn nv) ∨ (¬ (tc < 300 ∧ (1 ≤ x.toInt ∧ x.toInt ≤ 7) ∧ 0 ≤ y.toInt ∧ y.toInt ≤ 200 ∧ y.toInt + ec ≤ 4000) ∧ r = -1 ∧ M1 = M))) 1 3 := by
  refine mp_Met.of (by decide) (Nat.le_of_ble_eq_true rfl) ?_
  intro p e s m below meth c hx hb hr hml hown hts hlocks hin ls hl I
  have hl : lv_has ls 4 [(0, .ref d), (1, .int x), (2, .int y)] := hl
  obtain ⟨h0, hav, hak, hat, haw, has, han, hth, hsp, hsn, hij⟩ := id hD
  obtain ⟨b1, b2, b3, b4, b5, bT, bS, bN⟩ := id hO
  refine lv_iload_n hx hb dD_row_0 rfl (lv_at hl 1 rfl) ?_
  refine mp_calli (va_runS (As := [.int x]) (rest := []) ⟨hx, hb, hml, hown, hts⟩ (kD_isKind l D k M x _) (cwS 1 hts (bw_S bw_66 bw_67 bw_1 bw_68) rfl rfl rfl (by decide +kernel) ⟨Nat.le_of_ble_eq_true rfl, Nat.le_of_ble_eq_true rfl⟩) (mp_preS I _) rfl rfl hl.1 rfl (lv_room (Nat.le_of_ble_eq_true rfl)) dD_row_1 ⟨Nat.le_of_ble_eq_true rfl, Nat.le_of_ble_eq_true rfl⟩) I (fun r_1 N_2 H locs hp I => ?_)
  obtain ⟨e_3, hp⟩ := hp
  rw [e_3] at I
  rcases hp with ⟨p1, p2, rfl⟩ | ⟨p1, rfl⟩
  · refine zz_if_eq (tgt := 26) hx hb (nI_toInt (by decide)) dD_row_4 (by decide) (fun c_4 => absurd c_4 (by decide)) (fun _ => ?_)
    refine lv_iload_n hx hb dD_row_7 rfl (lv_at hl 2 rfl) ?_
    refine zz_if_lt (tgt := 26) hx hb rfl dD_row_8 (by decide) (fun c_5 => ?_) (fun c_5 => ?_)
    · refine lv_iconst (v := (-1)) hx hb dD_row_26 (by decide) ?_
      exact mp_iret hx hb hr hlocks I (Nat.le_of_ble_eq_true rfl) (Nat.le_of_ble_eq_true rfl) dD_row_27 (Or.inr ⟨by omega, rfl, rfl⟩)
    · refine lv_iload_n hx hb dD_row_11 rfl (lv_at hl 2 rfl) ?_
      refine lv_sipush (v := nI 200) hx hb dD_row_12 (by decide) ?_
      refine zz_icmp_gt (tgt := 26) hx hb rfl (nI_toInt (by decide)) dD_row_15 (by decide) (fun c_6 => ?_) (fun c_6 => ?_)
      · refine lv_iconst (v := (-1)) hx hb dD_row_26 (by decide) ?_
        exact mp_iret hx hb hr hlocks I (Nat.le_of_ble_eq_true rfl) (Nat.le_of_ble_eq_true rfl) dD_row_27 (Or.inr ⟨by omega, rfl, rfl⟩)
      · refine lv_aload_n hx hb dD_row_18 rfl (lv_at hl 0 rfl) ?_
        refine lv_iload_n hx hb dD_row_19 rfl (lv_at hl 2 rfl) ?_
        refine mp_calli (va_runV (As := [.int y]) (rest := []) ⟨hx, hb, hml, hown, hts⟩ (kD_hasRoomFor l D k M hD hO y _) (cwV 1 hts (bw_V bw_69 bw_71 bs_0 bw_1 bw_72) rfl rfl rfl (by decide +kernel) ⟨Nat.le_of_ble_eq_true rfl, Nat.le_of_ble_eq_true rfl⟩) (mp_preV I h0 rfl _) rfl rfl hl.1 rfl (lv_room (Nat.le_of_ble_eq_true rfl)) dD_row_20 ⟨Nat.le_of_ble_eq_true rfl, Nat.le_of_ble_eq_true rfl⟩) I (fun r_7 N_8 H locs hp I => ?_)
        obtain ⟨e_9, hp⟩ := hp
        rw [e_9] at I
        rcases hp with ⟨p3, rfl⟩ | ⟨p3, rfl⟩
        · refine zz_if_ne (tgt := 28) hx hb (nI_toInt (by decide)) dD_row_23 (by decide) (fun _ => ?_) (fun c_10 => absurd c_10 (by decide))
          obtain ⟨xn, hn_xn, rfl, hz_xn⟩ := i32_nat (x := x) (by omega)
          obtain ⟨yn, hn_yn, rfl, hz_yn⟩ := i32_nat (x := y) (by omega)
          refine lv_iconst (v := nI 0) hx hb dD_row_28 (by decide) ?_
          refine lv_istore_n (lv' := [(3, .int (nI 0)), (0, .ref d), (1, .int (nI xn)), (2, .int (nI yn))]) hx hb dD_row_29 rfl hl (by decide) rfl (fun ls hl => ?_)
          have I := I.to (show M = mp_up M ak (.inl (k 0, 4000, .inl (fun i_ => nI (kfl kd ec 0 xn i_)))) by rw [kfl_0, mp_upself hak])
          refine mp_loop yn 4 (fun i => [(3, .int (nI i)), (0, .ref d), (1, .int (nI xn)), (2, .int (nI yn))]) (fun i => mp_up M ak (.inl (k 0, 4000, .inl (fun i_ => nI (kfl kd ec i xn i_))))) 0 (by omega) (lv_sub hl [0, 1, 2, 3] rfl) I ?_
          intro i H locs ls hi0_i hi_i hl I ih_i
          have hl : lv_has ls 4 [(3, .int (nI i)), (0, .ref d), (1, .int (nI xn)), (2, .int (nI yn))] := hl
          have I : mp_I D cls5 (tys6 k) s _ s.heap H locs (mp_up M ak (.inl (k 0, 4000, .inl (fun i_ => nI (kfl kd ec i xn i_))))) := I
          have h0__L : mp_up M ak (.inl (k 0, 4000, .inl (fun i_ => nI (kfl kd ec i xn i_)))) d = some (.inr (0, [.ref av, .ref ak, .int (nI ec), .ref at_, .int (nI tc), .ref aw, .int (nI wc), .ref as_, .int (nI sc), .ref an, .int (nI nc)])) := (mp_up_n (mp_ne h0 hak (by simp))).trans h0
          have hav__L : mp_up M ak (.inl (k 0, 4000, .inl (fun i_ => nI (kfl kd ec i xn i_)))) av = some (.inl (k 1, 4000, .inr (.inl va))) := (mp_up_n (mp_ne hav hak (by simp))).trans hav
          have hak__L : mp_up M ak (.inl (k 0, 4000, .inl (fun i_ => nI (kfl kd ec i xn i_)))) ak = some (.inl (k 0, 4000, .inl (fun i_ => nI (kfl kd ec i xn i_)))) := mp_up_s _ _ _
          have hat__L : mp_up M ak (.inl (k 0, 4000, .inl (fun i_ => nI (kfl kd ec i xn i_)))) at_ = some (.inl (k 2, 300, .inr (.inr (.inr (.inr qt))))) := (mp_up_n (mp_ne hat hak (by simp))).trans hat
          have haw__L : mp_up M ak (.inl (k 0, 4000, .inl (fun i_ => nI (kfl kd ec i xn i_)))) aw = some (.inl (k 0, 12, .inl (fun i_ => nI (wt i_)))) := (mp_up_n (mp_ne haw hak (by simp))).trans haw
          have has__L : mp_up M ak (.inl (k 0, 4000, .inl (fun i_ => nI (kfl kd ec i xn i_)))) as_ = some (.inl (k 3, 100, .inr (.inr (.inr (.inr qs))))) := (mp_up_n (mp_ne has hak (by simp))).trans has
          have han__L : mp_up M ak (.inl (k 0, 4000, .inl (fun i_ => nI (kfl kd ec i xn i_)))) an = some (.inl (k 4, 20, .inr (.inr (.inr (.inr qn))))) := (mp_up_n (mp_ne han hak (by simp))).trans han
          refine lv_iload_n hx hb dD_row_30 rfl (lv_at hl 0 rfl) ?_
          refine lv_iload_n hx hb dD_row_31 rfl (lv_at hl 3 rfl) ?_
          refine zz_icmp_ge (tgt := 53) hx hb (nI_toInt (by first | assumption | omega)) hz_yn dD_row_32 (by decide) (fun c_11 => ?_) (fun c_11 => ?_)
          · obtain rfl : i = yn := by omega
            have hD := hD.setK (kfl kd ec i xn)
            generalize eMv : mp_up M ak (.inl (k 0, 4000, .inl (fun i_ => nI (kfl kd ec i xn i_)))) = Mv at I hD
            clear h0__L hav__L hak__L hat__L haw__L has__L han__L
            obtain ⟨h0, hav, hak, hat, haw, has, han, hth, hsp, hsn, hij⟩ := id hD
            refine lv_aload_n hx hb dD_row_53 rfl (lv_at hl 1 rfl) ?_
            refine lv_iload_n hx hb dD_row_54 rfl (lv_at hl 2 rfl) ?_
            refine lv_iload_n hx hb dD_row_55 rfl (lv_at hl 3 rfl) ?_
            refine mp_calli (va_runV (As := [.int (nI xn), .int (nI i)]) (rest := []) ⟨hx, hb, hml, hown, hts⟩ (kD_addThing l D k Mv hD hO xn i (by omega) (by omega) (by omega) (fun j hj => by unfold kfl; split; omega; exact hkd j (by omega)) _) (cwV 2 hts (bw_V bw_73 bw_75 bs_1 bw_1 bw_76) rfl rfl rfl (by decide +kernel) ⟨Nat.le_of_ble_eq_true rfl, Nat.le_of_ble_eq_true rfl⟩) (mp_preV I h0 rfl _) rfl rfl hl.1 rfl (lv_room (Nat.le_of_ble_eq_true rfl)) dD_row_56 ⟨Nat.le_of_ble_eq_true rfl, Nat.le_of_ble_eq_true rfl⟩) I (fun r1 N1 H locs hp I => ?_)
            obtain ⟨rfl, q, hD⟩ := hp
            exact mp_iret hx hb hr hlocks I (Nat.le_of_ble_eq_true rfl) (Nat.le_of_ble_eq_true rfl) dD_row_59 (Or.inl ⟨by omega, rfl, xn, i, q, hz_xn, hz_yn, hD⟩)
          · refine lv_aload_n hx hb dD_row_35 rfl (lv_at hl 1 rfl) ?_
            refine mp_get (v := .ref ak) hx hb hts inD hown I h0__L rfl 1 (by decide) (hts _ bw_27) (fun _ h9 => h9) rfl dD_row_36 ?_
            refine lv_aload_n hx hb dD_row_39 rfl (lv_at hl 1 rfl) ?_
            refine mp_get (v := .int (nI ec)) hx hb hts inD hown I h0__L rfl 2 (by decide) (hts _ bw_28) (fun _ h9 => h9) rfl dD_row_40 ?_
            refine lv_iload_n hx hb dD_row_43 rfl (lv_at hl 0 rfl) ?_
            refine zz_iadd hx hb dD_row_44 ?_
            refine lv_iload_n hx hb dD_row_45 rfl (lv_at hl 2 rfl) ?_
            refine mp_iast hx hb I 0 hak__L rfl (x := nI xn) (ec + i) rfl (by omega) (by decide) dD_row_46 (fun H locs I => ?_)
            rw [mp_upup, upd_nI, kfl_s] at I
            refine lv_iinc (v := nI (i + 1)) (lv' := [(3, .int (nI (i + 1))), (0, .ref d), (1, .int (nI xn)), (2, .int (nI yn))]) hx hb dD_row_47 hl (k := 0) rfl (nI_add i 1) (by decide) rfl (fun ls hl => ?_)
            refine lv_goto (tgt := 30) hx hb dD_row_50 (by decide) ?_
            exact ih_i _ _ _ (by omega) (lv_sub hl [0, 1, 2, 3] rfl) I
        · refine zz_if_ne (tgt := 28) hx hb (nI_toInt (by decide)) dD_row_23 (by decide) (fun c_12 => absurd c_12 (by decide)) (fun _ => ?_)
          refine lv_iconst (v := (-1)) hx hb dD_row_26 (by decide) ?_
          exact mp_iret hx hb hr hlocks I (Nat.le_of_ble_eq_true rfl) (Nat.le_of_ble_eq_true rfl) dD_row_27 (Or.inr ⟨by omega, rfl, rfl⟩)
  · refine zz_if_eq (tgt := 26) hx hb (nI_toInt (by decide)) dD_row_4 (by decide) (fun _ => ?_) (fun c_13 => absurd c_13 (by decide))
    refine lv_iconst (v := (-1)) hx hb dD_row_26 (by decide) ?_
    exact mp_iret hx hb hr hlocks I (Nat.le_of_ble_eq_true rfl) (Nat.le_of_ble_eq_true rfl) dD_row_27 (Or.inr ⟨by omega, rfl, rfl⟩)
end
section
abbrev rm_D_instance : Room := { frames := 3, cells := 1, slots := 3, locals := 90 }
set_option maxHeartbeats 4000000 in
set_option maxRecDepth 100000 in
theorem kD_instance (l : Launch) (D : va_G) (k : Nat → ClassId) (M : mp_M) {d av ak at_ aw as_ an : Nat} {qt qs qn : Nat → Option Nat} {sa ra : Nat → Nat} {ec tc wc sc nc : Nat} {va : Nat → Int64} {kd wt tk tf tz sk sf sw sl nn : Nat → Nat} {nv : Nat → Nat → Int64} (hD : DkX k M d av ak at_ aw as_ an qt qs qn sa ra ec tc wc sc nc va kd wt tk tf tz sk sf sw sl nn nv) (hO : OkB ec tc wc sc nc tk tf tz sk sf sw sl nn) (hkd : ∀ i, i < ec → kd i ≤ 7) (hwt : ∀ i, i < wc → wt i ≤ 7) : mp_Met l yD_instance (Cond.code yD_instance cD_instance 2 (some .int) :: bw) rm_D_instance D cls5 (tys6 k) [.ref d] M (va_Qi (fun r M1 => ((tc < 300 ∧ wc ≠ 0 ∧ wc + ec ≤ 4000) ∧ r = nI tc ∧ ∃ q : Nat, DkX k M1 d av ak at_ aw as_ an (va_up qt tc (some q)) qs qn sa ra (ec + wc) (tc + 1) (0) sc nc (vin va (va_cpy wt kd 0 ec wc) ec (ec + wc)) (va_cpy wt kd 0 ec wc) wt (nu tk tc 0) (nu tf tc ec) (nu tz tc wc) sk sf sw sl nn nv) ∨ (¬ (tc < 300 ∧ wc ≠ 0 ∧ wc + ec ≤ 4000) ∧ r = -1 ∧ DkX k M1 d av ak at_ aw as_ an qt qs qn sa ra ec tc (0) sc nc va kd wt tk tf tz sk sf sw sl nn nv))) 1 3 := by
  refine mp_Met.of (by decide) (Nat.le_of_ble_eq_true rfl) ?_
  intro p e s m below meth c hx hb hr hml hown hts hlocks hin ls hl I
  have hl : lv_has ls 2 [(0, .ref d)] := hl
  obtain ⟨h0, hav, hak, hat, haw, has, han, hth, hsp, hsn, hij⟩ := id hD
  obtain ⟨b1, b2, b3, b4, b5, bT, bS, bN⟩ := id hO
  refine lv_aload_n hx hb dD_instance_0 rfl (lv_at hl 0 rfl) ?_
  refine mp_get (v := .int (nI wc)) hx hb hts inD hown I h0 rfl 6 (by decide) (hts _ bw_32) (fun _ h9 => h9) rfl dD_instance_1 ?_
  refine lv_istore_n (lv' := [(1, .int (nI wc)), (0, .ref d)]) hx hb dD_instance_4 rfl hl (by decide) rfl (fun ls hl => ?_)
  refine lv_aload_n hx hb dD_instance_5 rfl (lv_at hl 1 rfl) ?_
  refine lv_iconst (v := nI 0) hx hb dD_instance_6 (by decide) ?_
  refine mp_put (v := .int (nI 0)) (ty := .int) hx hb hts inD tyD okD nmD hown I h0 rfl 6 (by decide) (hts _ bw_32) (fun _ h9 => h9) rfl (by decide +kernel) rfl rfl (Nat.le_of_ble_eq_true rfl) dD_instance_7 (fun H locs I => ?_)
  have I : mp_I D cls5 (tys6 k) s _ s.heap H locs (mp_up M d (.inr (0, [.ref av, .ref ak, .int (nI ec), .ref at_, .int (nI tc), .ref aw, .int (nI 0), .ref as_, .int (nI sc), .ref an, .int (nI nc)]))) := I
  have h0_n : mp_up M d (.inr (0, [.ref av, .ref ak, .int (nI ec), .ref at_, .int (nI tc), .ref aw, .int (nI 0), .ref as_, .int (nI sc), .ref an, .int (nI nc)])) d = some (.inr (0, [.ref av, .ref ak, .int (nI ec), .ref at_, .int (nI tc), .ref aw, .int (nI 0), .ref as_, .int (nI sc), .ref an, .int (nI nc)])) := mp_up_s _ _ _
  have hav_n : mp_up M d (.inr (0, [.ref av, .ref ak, .int (nI ec), .ref at_, .int (nI tc), .ref aw, .int (nI 0), .ref as_, .int (nI sc), .ref an, .int (nI nc)])) av = some (.inl (k 1, 4000, .inr (.inl va))) := (mp_up_n (mp_ne hav h0 (by simp))).trans hav
  have hak_n : mp_up M d (.inr (0, [.ref av, .ref ak, .int (nI ec), .ref at_, .int (nI tc), .ref aw, .int (nI 0), .ref as_, .int (nI sc), .ref an, .int (nI nc)])) ak = some (.inl (k 0, 4000, .inl (fun i_ => nI (kd i_)))) := (mp_up_n (mp_ne hak h0 (by simp))).trans hak
  have hat_n : mp_up M d (.inr (0, [.ref av, .ref ak, .int (nI ec), .ref at_, .int (nI tc), .ref aw, .int (nI 0), .ref as_, .int (nI sc), .ref an, .int (nI nc)])) at_ = some (.inl (k 2, 300, .inr (.inr (.inr (.inr qt))))) := (mp_up_n (mp_ne hat h0 (by simp))).trans hat
  have haw_n : mp_up M d (.inr (0, [.ref av, .ref ak, .int (nI ec), .ref at_, .int (nI tc), .ref aw, .int (nI 0), .ref as_, .int (nI sc), .ref an, .int (nI nc)])) aw = some (.inl (k 0, 12, .inl (fun i_ => nI (wt i_)))) := (mp_up_n (mp_ne haw h0 (by simp))).trans haw
  have has_n : mp_up M d (.inr (0, [.ref av, .ref ak, .int (nI ec), .ref at_, .int (nI tc), .ref aw, .int (nI 0), .ref as_, .int (nI sc), .ref an, .int (nI nc)])) as_ = some (.inl (k 3, 100, .inr (.inr (.inr (.inr qs))))) := (mp_up_n (mp_ne has h0 (by simp))).trans has
  have han_n : mp_up M d (.inr (0, [.ref av, .ref ak, .int (nI ec), .ref at_, .int (nI tc), .ref aw, .int (nI 0), .ref as_, .int (nI sc), .ref an, .int (nI nc)])) an = some (.inl (k 4, 20, .inr (.inr (.inr (.inr qn))))) := (mp_up_n (mp_ne han h0 (by simp))).trans han
  generalize eM_2 : mp_up M d (.inr (0, [.ref av, .ref ak, .int (nI ec), .ref at_, .int (nI tc), .ref aw, .int (nI 0), .ref as_, .int (nI sc), .ref an, .int (nI nc)])) = M_1 at I h0_n hav_n hak_n hat_n haw_n has_n han_n
  have h0__M_1 := h0_n
  have hav__M_1 := hav_n
  have hak__M_1 := hak_n
  have hat__M_1 := hat_n
  have haw__M_1 := haw_n
  have has__M_1 := has_n
  have han__M_1 := han_n
  clear h0_n hav_n hak_n hat_n haw_n has_n han_n
  have hD := hD.cntW 0
  rw [eM_2] at hD
  have hzw : (nI wc).toInt = wc := nI_toInt (by omega)
  have hO2 : OkB ec tc 0 sc nc tk tf tz sk sf sw sl nn := ⟨b1, b2, by omega, b4, b5, bT, bS, bN⟩
  refine lv_iload_n hx hb dD_instance_10 rfl (lv_at hl 0 rfl) ?_
  refine zz_if_eq (tgt := 22) hx hb (nI_toInt (by first | assumption | omega)) dD_instance_11 (by decide) (fun c_3 => ?_) (fun c_3 => ?_)
  · refine lv_iconst (v := (-1)) hx hb dD_instance_22 (by decide) ?_
    exact mp_iret hx hb hr hlocks I (Nat.le_of_ble_eq_true rfl) (Nat.le_of_ble_eq_true rfl) dD_instance_23 (Or.inr ⟨by omega, rfl, hD⟩)
  · refine lv_aload_n hx hb dD_instance_14 rfl (lv_at hl 1 rfl) ?_
    refine lv_iload_n hx hb dD_instance_15 rfl (lv_at hl 0 rfl) ?_
    refine mp_calli (va_runV (As := [.int (nI wc)]) (rest := []) ⟨hx, hb, hml, hown, hts⟩ (kD_hasRoomFor l D k M_1 hD hO2 (nI wc) _) (cwV 1 hts (bw_V bw_69 bw_71 bs_0 bw_1 bw_72) rfl rfl rfl (by decide +kernel) ⟨Nat.le_of_ble_eq_true rfl, Nat.le_of_ble_eq_true rfl⟩) (mp_preV I h0__M_1 rfl _) rfl rfl hl.1 rfl (lv_room (Nat.le_of_ble_eq_true rfl)) dD_instance_16 ⟨Nat.le_of_ble_eq_true rfl, Nat.le_of_ble_eq_true rfl⟩) I (fun r_4 N_5 H locs hp I => ?_)
    obtain ⟨e_6, hp⟩ := hp
    rw [e_6] at I
    rcases hp with ⟨p3, rfl⟩ | ⟨p3, rfl⟩
    · refine zz_if_ne (tgt := 24) hx hb (nI_toInt (by decide)) dD_instance_19 (by decide) (fun _ => ?_) (fun c_7 => absurd c_7 (by decide))
      refine lv_aload_n hx hb dD_instance_24 rfl (lv_at hl 1 rfl) ?_
      refine mp_get (v := .ref aw) hx hb hts inD hown I h0__M_1 rfl 5 (by decide) (hts _ bw_31) (fun _ h9 => h9) rfl dD_instance_25 ?_
      refine lv_iconst (v := nI 0) hx hb dD_instance_28 (by decide) ?_
      refine lv_aload_n hx hb dD_instance_29 rfl (lv_at hl 1 rfl) ?_
      refine mp_get (v := .ref ak) hx hb hts inD hown I h0__M_1 rfl 1 (by decide) (hts _ bw_27) (fun _ h9 => h9) rfl dD_instance_30 ?_
      refine lv_aload_n hx hb dD_instance_33 rfl (lv_at hl 1 rfl) ?_
      refine mp_get (v := .int (nI ec)) hx hb hts inD hown I h0__M_1 rfl 2 (by decide) (hts _ bw_28) (fun _ h9 => h9) rfl dD_instance_34 ?_
      refine lv_iload_n hx hb dD_instance_37 rfl (lv_at hl 0 rfl) ?_
      refine mp_copyi hx hb (by rw [hml]; exact hl.1.symm) hown (hts _ bw_104) (hts _ bw_106) (hts _ bw_105) (hts _ bw_4) I 0 haw__M_1 hak__M_1 rfl 0 ec wc rfl rfl rfl (by omega) (by omega) (by decide) (by decide) (Nat.le_of_ble_eq_true rfl) (Nat.le_of_ble_eq_true rfl) dD_instance_38 (fun H locs I => ?_)
      rw [cpy_nI] at I
      have I : mp_I D cls5 (tys6 k) s _ s.heap H locs (mp_up M_1 ak (.inl (k 0, 4000, .inl (fun i_ => nI ((va_cpy wt kd 0 ec wc) i_))))) := I
      have hak__M_1_n : mp_up M_1 ak (.inl (k 0, 4000, .inl (fun i_ => nI ((va_cpy wt kd 0 ec wc) i_)))) ak = some (.inl (k 0, 4000, .inl (fun i_ => nI ((va_cpy wt kd 0 ec wc) i_)))) := mp_up_s _ _ _
      have h0__M_1_n : mp_up M_1 ak (.inl (k 0, 4000, .inl (fun i_ => nI ((va_cpy wt kd 0 ec wc) i_)))) d = some (.inr (0, [.ref av, .ref ak, .int (nI ec), .ref at_, .int (nI tc), .ref aw, .int (nI 0), .ref as_, .int (nI sc), .ref an, .int (nI nc)])) := (mp_up_n (mp_ne h0__M_1 hak__M_1 (by simp))).trans h0__M_1
      have hav__M_1_n : mp_up M_1 ak (.inl (k 0, 4000, .inl (fun i_ => nI ((va_cpy wt kd 0 ec wc) i_)))) av = some (.inl (k 1, 4000, .inr (.inl va))) := (mp_up_n (mp_ne hav__M_1 hak__M_1 (by simp))).trans hav__M_1
      have hat__M_1_n : mp_up M_1 ak (.inl (k 0, 4000, .inl (fun i_ => nI ((va_cpy wt kd 0 ec wc) i_)))) at_ = some (.inl (k 2, 300, .inr (.inr (.inr (.inr qt))))) := (mp_up_n (mp_ne hat__M_1 hak__M_1 (by simp))).trans hat__M_1
      have haw__M_1_n : mp_up M_1 ak (.inl (k 0, 4000, .inl (fun i_ => nI ((va_cpy wt kd 0 ec wc) i_)))) aw = some (.inl (k 0, 12, .inl (fun i_ => nI (wt i_)))) := (mp_up_n (mp_ne haw__M_1 hak__M_1 (by simp))).trans haw__M_1
      have has__M_1_n : mp_up M_1 ak (.inl (k 0, 4000, .inl (fun i_ => nI ((va_cpy wt kd 0 ec wc) i_)))) as_ = some (.inl (k 3, 100, .inr (.inr (.inr (.inr qs))))) := (mp_up_n (mp_ne has__M_1 hak__M_1 (by simp))).trans has__M_1
      have han__M_1_n : mp_up M_1 ak (.inl (k 0, 4000, .inl (fun i_ => nI ((va_cpy wt kd 0 ec wc) i_)))) an = some (.inl (k 4, 20, .inr (.inr (.inr (.inr qn))))) := (mp_up_n (mp_ne han__M_1 hak__M_1 (by simp))).trans han__M_1
      generalize eM_9 : mp_up M_1 ak (.inl (k 0, 4000, .inl (fun i_ => nI ((va_cpy wt kd 0 ec wc) i_)))) = M_8 at I h0__M_1_n hav__M_1_n hak__M_1_n hat__M_1_n haw__M_1_n has__M_1_n han__M_1_n
      have h0__M_8 := h0__M_1_n
      have hav__M_8 := hav__M_1_n
      have hak__M_8 := hak__M_1_n
      have hat__M_8 := hat__M_1_n
      have haw__M_8 := haw__M_1_n
      have has__M_8 := has__M_1_n
      have han__M_8 := han__M_1_n
      clear h0__M_1_n hav__M_1_n hak__M_1_n hat__M_1_n haw__M_1_n has__M_1_n han__M_1_n
      have hD := hD.setK (va_cpy wt kd 0 ec wc)
      rw [eM_9] at hD
      refine lv_aload_n hx hb dD_instance_41 rfl (lv_at hl 1 rfl) ?_
      refine lv_iconst (v := nI 0) hx hb dD_instance_42 (by decide) ?_
      refine lv_iload_n hx hb dD_instance_43 rfl (lv_at hl 0 rfl) ?_
      refine mp_calli (va_runV (As := [.int (nI 0), .int (nI wc)]) (rest := []) ⟨hx, hb, hml, hown, hts⟩ (kD_addThing l D k M_8 hD hO2 0 wc (by omega) (by omega) (by omega) (fun j hj => by unfold va_cpy; split; exact hwt _ (by omega); exact hkd j (by omega)) _) (cwV 2 hts (bw_V bw_73 bw_75 bs_1 bw_1 bw_76) rfl rfl rfl (by decide +kernel) ⟨Nat.le_of_ble_eq_true rfl, Nat.le_of_ble_eq_true rfl⟩) (mp_preV I h0__M_8 rfl _) rfl rfl hl.1 rfl (lv_room (Nat.le_of_ble_eq_true rfl)) dD_instance_44 ⟨Nat.le_of_ble_eq_true rfl, Nat.le_of_ble_eq_true rfl⟩) I (fun r1 N1 H locs hp I => ?_)
      obtain ⟨rfl, q, hD⟩ := hp
      exact mp_iret hx hb hr hlocks I (Nat.le_of_ble_eq_true rfl) (Nat.le_of_ble_eq_true rfl) dD_instance_47 (Or.inl ⟨by omega, rfl, q, hD⟩)
    · refine zz_if_ne (tgt := 24) hx hb (nI_toInt (by decide)) dD_instance_19 (by decide) (fun c_10 => absurd c_10 (by decide)) (fun _ => ?_)
      refine lv_iconst (v := (-1)) hx hb dD_instance_22 (by decide) ?_
      exact mp_iret hx hb hr hlocks I (Nat.le_of_ble_eq_true rfl) (Nat.le_of_ble_eq_true rfl) dD_instance_23 (Or.inr ⟨by omega, rfl, hD⟩)
abbrev rm_D_addSpot : Room := { frames := 2, cells := 1, slots := 4, locals := 60 }
set_option maxHeartbeats 4000000 in
set_option maxRecDepth 100000 in
theorem kD_addSpot (l : Launch) (D : va_G) (k : Nat → ClassId) (M : mp_M) {d av ak at_ aw as_ an : Nat} {qt qs qn : Nat → Option Nat} {sa ra : Nat → Nat} {ec tc wc sc nc : Nat} {va : Nat → Int64} {kd wt tk tf tz sk sf sw sl nn : Nat → Nat} {nv : Nat → Nat → Int64} (hD : DkX k M d av ak at_ aw as_ an qt qs qn sa ra ec tc wc sc nc va kd wt tk tf tz sk sf sw sl nn nv) (hO : OkB ec tc wc sc nc tk tf tz sk sf sw sl nn) (x f wd b : Nat) (hbb : b ≤ 1) : mp_Met l yD_addSpot (Cond.code yD_addSpot cD_addSpot 5 (some .int) :: bw) rm_D_addSpot D cls5 (tys6 k) [.ref d, .int (nI x), .int (nI f), .int (nI wd), .int (nI b)] M (va_Qi (fun r M1 => (sc < 100 ∧ r = nI sc ∧ ∃ q : Nat, DkX k M1 d av ak at_ aw as_ an qt (va_up qs sc (some q)) qn sa ra ec tc wc (sc + 1) nc va kd wt tk tf tz (nu sk sc x) (nu sf sc f) (nu sw sc wd) (nu sl sc b) nn nv) ∨ (¬ sc < 100 ∧ r = -1 ∧ M1 = M))) 1 4 := by
  refine mp_Met.of (by decide) (Nat.le_of_ble_eq_true rfl) ?_
  intro p e s m below meth c hx hb hr hml hown hts hlocks hin ls hl I
  have hl : lv_has ls 5 [(0, .ref d), (1, .int (nI x)), (2, .int (nI f)), (3, .int (nI wd)), (4, .int (nI b))] := hl
  obtain ⟨h0, hav, hak, hat, haw, has, han, hth, hsp, hsn, hij⟩ := id hD
  obtain ⟨b1, b2, b3, b4, b5, bT, bS, bN⟩ := id hO
  refine lv_aload_n hx hb dD_addSpot_0 rfl (lv_at hl 0 rfl) ?_
  refine mp_get (v := .int (nI sc)) hx hb hts inD hown I h0 rfl 8 (by decide) (hts _ bw_34) (fun _ h9 => h9) rfl dD_addSpot_1 ?_
  refine lv_bipush (v := nI 100) hx hb dD_addSpot_4 (by decide) ?_
  refine zz_icmp_lt (tgt := 11) hx hb (nI_toInt (by first | assumption | omega)) (nI_toInt (by decide)) dD_addSpot_6 (by decide) (fun c_1 => ?_) (fun c_1 => ?_)
  · refine lv_aload_n hx hb dD_addSpot_11 rfl (lv_at hl 0 rfl) ?_
    refine mp_get (v := .ref as_) hx hb hts inD hown I h0 rfl 7 (by decide) (hts _ bw_33) (fun _ h9 => h9) rfl dD_addSpot_12 ?_
    refine lv_aload_n hx hb dD_addSpot_15 rfl (lv_at hl 0 rfl) ?_
    refine mp_get (v := .int (nI sc)) hx hb hts inD hown I h0 rfl 8 (by decide) (hts _ bw_34) (fun _ h9 => h9) rfl dD_addSpot_16 ?_
    refine mp_new (fs := [.int 0, .int 0, .int 0, .int 0]) hx hb hts inS tyS okS hown (hts _ bw_22) (hts _ bw_127) (hts _ bw_5) I (ci := 2) rfl (fun j hj => by rcases (show j = 0 ∨ j = 1 ∨ j = 2 ∨ j = 3 by omega) with rfl | rfl | rfl | rfl <;> rfl) (Nat.le_of_ble_eq_true rfl) (Nat.le_of_ble_eq_true rfl) dD_addSpot_19 (fun q H hq_2 I => ?_)
    have hqq_n : mp_up M q (.inr (2, [.int 0, .int 0, .int 0, .int 0])) q = some (.inr (2, [.int 0, .int 0, .int 0, .int 0])) := mp_up_s _ _ _
    have h0_n : mp_up M q (.inr (2, [.int 0, .int 0, .int 0, .int 0])) d = some (.inr (0, [.ref av, .ref ak, .int (nI ec), .ref at_, .int (nI tc), .ref aw, .int (nI wc), .ref as_, .int (nI sc), .ref an, .int (nI nc)])) := (mp_up_n (fun z => by rw [z, hq_2] at h0; cases h0)).trans h0
    have hav_n : mp_up M q (.inr (2, [.int 0, .int 0, .int 0, .int 0])) av = some (.inl (k 1, 4000, .inr (.inl va))) := (mp_up_n (fun z => by rw [z, hq_2] at hav; cases hav)).trans hav
    have hak_n : mp_up M q (.inr (2, [.int 0, .int 0, .int 0, .int 0])) ak = some (.inl (k 0, 4000, .inl (fun i_ => nI (kd i_)))) := (mp_up_n (fun z => by rw [z, hq_2] at hak; cases hak)).trans hak
    have hat_n : mp_up M q (.inr (2, [.int 0, .int 0, .int 0, .int 0])) at_ = some (.inl (k 2, 300, .inr (.inr (.inr (.inr qt))))) := (mp_up_n (fun z => by rw [z, hq_2] at hat; cases hat)).trans hat
    have haw_n : mp_up M q (.inr (2, [.int 0, .int 0, .int 0, .int 0])) aw = some (.inl (k 0, 12, .inl (fun i_ => nI (wt i_)))) := (mp_up_n (fun z => by rw [z, hq_2] at haw; cases haw)).trans haw
    have has_n : mp_up M q (.inr (2, [.int 0, .int 0, .int 0, .int 0])) as_ = some (.inl (k 3, 100, .inr (.inr (.inr (.inr qs))))) := (mp_up_n (fun z => by rw [z, hq_2] at has; cases has)).trans has
    have han_n : mp_up M q (.inr (2, [.int 0, .int 0, .int 0, .int 0])) an = some (.inl (k 4, 20, .inr (.inr (.inr (.inr qn))))) := (mp_up_n (fun z => by rw [z, hq_2] at han; cases han)).trans han
    generalize eM_4 : mp_up M q (.inr (2, [.int 0, .int 0, .int 0, .int 0])) = M_3 at I hqq_n h0_n hav_n hak_n hat_n haw_n has_n han_n
    have h0__M_3 := h0_n
    have hav__M_3 := hav_n
    have hak__M_3 := hak_n
    have hat__M_3 := hat_n
    have haw__M_3 := haw_n
    have has__M_3 := has_n
    have han__M_3 := han_n
    have hqq__M_3 := hqq_n
    clear hqq_n h0_n hav_n hak_n hat_n haw_n has_n han_n
    refine lv_dup hx hb dD_addSpot_22 rfl ?_
    refine lv_iload_n hx hb dD_addSpot_23 rfl (lv_at hl 1 rfl) ?_
    refine lv_iload_n hx hb dD_addSpot_24 rfl (lv_at hl 2 rfl) ?_
    refine lv_iload_n hx hb dD_addSpot_25 rfl (lv_at hl 3 rfl) ?_
    refine lv_iload hx hb dD_addSpot_26 (lv_at hl 4 rfl) ?_
    refine mp_callv (va_runI (As := [.int (nI x), .int (nI f), .int (nI wd), .int (nI b)]) (rest := [.ref q, .int (nI sc), .ref as_]) ⟨hx, hb, hml, hown, hts⟩ (kS_init l D k M_3 q (nI x) (nI f) (nI wd) b hbb hqq__M_3 _) (cwI 4 hts (bw_I bw_130) rfl rfl rfl (hts _ bw_5) (hts _ bw_128) (hts _ bw_129) rfl (by decide +kernel) ⟨Nat.le_of_ble_eq_true rfl, Nat.le_of_ble_eq_true rfl⟩) (mp_preS I _) rfl rfl hl.1 rfl (lv_room (Nat.le_of_ble_eq_true rfl)) dD_addSpot_28 ⟨Nat.le_of_ble_eq_true rfl, Nat.le_of_ble_eq_true rfl⟩) I (fun N1 H locs hp I => ?_)
    rw [hp] at I
    have I : mp_I D cls5 (tys6 k) s _ s.heap H locs (mp_up M_3 q (.inr (2, [.int (nI x), .int (nI f), .int (nI wd), .int (nI b)]))) := I
    have hqq__M_3_n : mp_up M_3 q (.inr (2, [.int (nI x), .int (nI f), .int (nI wd), .int (nI b)])) q = some (.inr (2, [.int (nI x), .int (nI f), .int (nI wd), .int (nI b)])) := mp_up_s _ _ _
    have h0__M_3_n : mp_up M_3 q (.inr (2, [.int (nI x), .int (nI f), .int (nI wd), .int (nI b)])) d = some (.inr (0, [.ref av, .ref ak, .int (nI ec), .ref at_, .int (nI tc), .ref aw, .int (nI wc), .ref as_, .int (nI sc), .ref an, .int (nI nc)])) := (mp_up_n (mp_ne h0__M_3 hqq__M_3 (by simp))).trans h0__M_3
    have hav__M_3_n : mp_up M_3 q (.inr (2, [.int (nI x), .int (nI f), .int (nI wd), .int (nI b)])) av = some (.inl (k 1, 4000, .inr (.inl va))) := (mp_up_n (mp_ne hav__M_3 hqq__M_3 (by simp))).trans hav__M_3
    have hak__M_3_n : mp_up M_3 q (.inr (2, [.int (nI x), .int (nI f), .int (nI wd), .int (nI b)])) ak = some (.inl (k 0, 4000, .inl (fun i_ => nI (kd i_)))) := (mp_up_n (mp_ne hak__M_3 hqq__M_3 (by simp))).trans hak__M_3
    have hat__M_3_n : mp_up M_3 q (.inr (2, [.int (nI x), .int (nI f), .int (nI wd), .int (nI b)])) at_ = some (.inl (k 2, 300, .inr (.inr (.inr (.inr qt))))) := (mp_up_n (mp_ne hat__M_3 hqq__M_3 (by simp))).trans hat__M_3
    have haw__M_3_n : mp_up M_3 q (.inr (2, [.int (nI x), .int (nI f), .int (nI wd), .int (nI b)])) aw = some (.inl (k 0, 12, .inl (fun i_ => nI (wt i_)))) := (mp_up_n (mp_ne haw__M_3 hqq__M_3 (by simp))).trans haw__M_3
    have has__M_3_n : mp_up M_3 q (.inr (2, [.int (nI x), .int (nI f), .int (nI wd), .int (nI b)])) as_ = some (.inl (k 3, 100, .inr (.inr (.inr (.inr qs))))) := (mp_up_n (mp_ne has__M_3 hqq__M_3 (by simp))).trans has__M_3
    have han__M_3_n : mp_up M_3 q (.inr (2, [.int (nI x), .int (nI f), .int (nI wd), .int (nI b)])) an = some (.inl (k 4, 20, .inr (.inr (.inr (.inr qn))))) := (mp_up_n (mp_ne han__M_3 hqq__M_3 (by simp))).trans han__M_3
    generalize eM_6 : mp_up M_3 q (.inr (2, [.int (nI x), .int (nI f), .int (nI wd), .int (nI b)])) = M_5 at I h0__M_3_n hav__M_3_n hak__M_3_n hat__M_3_n haw__M_3_n has__M_3_n han__M_3_n hqq__M_3_n
    have h0__M_5 := h0__M_3_n
    have hav__M_5 := hav__M_3_n
    have hak__M_5 := hak__M_3_n
    have hat__M_5 := hat__M_3_n
    have haw__M_5 := haw__M_3_n
    have has__M_5 := has__M_3_n
    have han__M_5 := han__M_3_n
    have hqq__M_5 := hqq__M_3_n
    clear h0__M_3_n hav__M_3_n hak__M_3_n hat__M_3_n haw__M_3_n has__M_3_n han__M_3_n hqq__M_3_n
    have hD := hD.fresh q (.inr (2, [.int (nI x), .int (nI f), .int (nI wd), .int (nI b)])) hq_2
    rw [← mp_upup M q (.inr (2, [.int 0, .int 0, .int 0, .int 0])) (.inr (2, [.int (nI x), .int (nI f), .int (nI wd), .int (nI b)])), eM_4, eM_6] at hD
    refine mp_aast (r := (RS, FS, 4)) hx hb I 3 2 has__M_5 rfl hqq__M_5 rfl sc rfl (by omega) (by decide) dD_addSpot_31 (fun H locs I => ?_)
    have I : mp_I D cls5 (tys6 k) s _ s.heap H locs (mp_up M_5 as_ (.inl (k 3, 100, .inr (.inr (.inr (.inr (va_up qs sc (some q)))))))) := I
    have has__M_5_n : mp_up M_5 as_ (.inl (k 3, 100, .inr (.inr (.inr (.inr (va_up qs sc (some q))))))) as_ = some (.inl (k 3, 100, .inr (.inr (.inr (.inr (va_up qs sc (some q))))))) := mp_up_s _ _ _
    have h0__M_5_n : mp_up M_5 as_ (.inl (k 3, 100, .inr (.inr (.inr (.inr (va_up qs sc (some q))))))) d = some (.inr (0, [.ref av, .ref ak, .int (nI ec), .ref at_, .int (nI tc), .ref aw, .int (nI wc), .ref as_, .int (nI sc), .ref an, .int (nI nc)])) := (mp_up_n (mp_ne h0__M_5 has__M_5 (by simp))).trans h0__M_5
    have hav__M_5_n : mp_up M_5 as_ (.inl (k 3, 100, .inr (.inr (.inr (.inr (va_up qs sc (some q))))))) av = some (.inl (k 1, 4000, .inr (.inl va))) := (mp_up_n (mp_ne hav__M_5 has__M_5 (by simp))).trans hav__M_5
    have hak__M_5_n : mp_up M_5 as_ (.inl (k 3, 100, .inr (.inr (.inr (.inr (va_up qs sc (some q))))))) ak = some (.inl (k 0, 4000, .inl (fun i_ => nI (kd i_)))) := (mp_up_n (mp_ne hak__M_5 has__M_5 (by simp))).trans hak__M_5
    have hat__M_5_n : mp_up M_5 as_ (.inl (k 3, 100, .inr (.inr (.inr (.inr (va_up qs sc (some q))))))) at_ = some (.inl (k 2, 300, .inr (.inr (.inr (.inr qt))))) := (mp_up_n (mp_ne hat__M_5 has__M_5 (by simp))).trans hat__M_5
    have haw__M_5_n : mp_up M_5 as_ (.inl (k 3, 100, .inr (.inr (.inr (.inr (va_up qs sc (some q))))))) aw = some (.inl (k 0, 12, .inl (fun i_ => nI (wt i_)))) := (mp_up_n (mp_ne haw__M_5 has__M_5 (by simp))).trans haw__M_5
    have han__M_5_n : mp_up M_5 as_ (.inl (k 3, 100, .inr (.inr (.inr (.inr (va_up qs sc (some q))))))) an = some (.inl (k 4, 20, .inr (.inr (.inr (.inr qn))))) := (mp_up_n (mp_ne han__M_5 has__M_5 (by simp))).trans han__M_5
    have hqq__M_5_n : mp_up M_5 as_ (.inl (k 3, 100, .inr (.inr (.inr (.inr (va_up qs sc (some q))))))) q = some (.inr (2, [.int (nI x), .int (nI f), .int (nI wd), .int (nI b)])) := (mp_up_n (mp_ne hqq__M_5 has__M_5 (by simp))).trans hqq__M_5
    generalize eM_8 : mp_up M_5 as_ (.inl (k 3, 100, .inr (.inr (.inr (.inr (va_up qs sc (some q))))))) = M_7 at I h0__M_5_n hav__M_5_n hak__M_5_n hat__M_5_n haw__M_5_n has__M_5_n han__M_5_n hqq__M_5_n
    have h0__M_7 := h0__M_5_n
    have hav__M_7 := hav__M_5_n
    have hak__M_7 := hak__M_5_n
    have hat__M_7 := hat__M_5_n
    have haw__M_7 := haw__M_5_n
    have has__M_7 := has__M_5_n
    have han__M_7 := han__M_5_n
    have hqq__M_7 := hqq__M_5_n
    clear h0__M_5_n hav__M_5_n hak__M_5_n hat__M_5_n haw__M_5_n has__M_5_n han__M_5_n hqq__M_5_n
    have hD := hD.setS (some q)
    rw [eM_8] at hD
    refine lv_aload_n hx hb dD_addSpot_32 rfl (lv_at hl 0 rfl) ?_
    refine lv_dup hx hb dD_addSpot_33 rfl ?_
    refine mp_get (v := .int (nI sc)) hx hb hts inD hown I h0__M_7 rfl 8 (by decide) (hts _ bw_34) (fun _ h9 => h9) rfl dD_addSpot_34 ?_
    refine lv_iconst (v := nI 1) hx hb dD_addSpot_37 (by decide) ?_
    refine zz_iadd hx hb dD_addSpot_38 ?_
    refine mp_put (v := .int (nI (sc + 1))) (ty := .int) hx hb hts inD tyD okD nmD hown I h0__M_7 rfl 8 (by decide) (hts _ bw_34) (fun _ h9 => h9) rfl (by decide +kernel) rfl rfl (Nat.le_of_ble_eq_true rfl) dD_addSpot_39 (fun H locs I => ?_)
    have I : mp_I D cls5 (tys6 k) s _ s.heap H locs (mp_up M_7 d (.inr (0, [.ref av, .ref ak, .int (nI ec), .ref at_, .int (nI tc), .ref aw, .int (nI wc), .ref as_, .int (nI (sc + 1)), .ref an, .int (nI nc)]))) := I
    have h0__M_7_n : mp_up M_7 d (.inr (0, [.ref av, .ref ak, .int (nI ec), .ref at_, .int (nI tc), .ref aw, .int (nI wc), .ref as_, .int (nI (sc + 1)), .ref an, .int (nI nc)])) d = some (.inr (0, [.ref av, .ref ak, .int (nI ec), .ref at_, .int (nI tc), .ref aw, .int (nI wc), .ref as_, .int (nI (sc + 1)), .ref an, .int (nI nc)])) := mp_up_s _ _ _
    have hav__M_7_n : mp_up M_7 d (.inr (0, [.ref av, .ref ak, .int (nI ec), .ref at_, .int (nI tc), .ref aw, .int (nI wc), .ref as_, .int (nI (sc + 1)), .ref an, .int (nI nc)])) av = some (.inl (k 1, 4000, .inr (.inl va))) := (mp_up_n (mp_ne hav__M_7 h0__M_7 (by simp))).trans hav__M_7
    have hak__M_7_n : mp_up M_7 d (.inr (0, [.ref av, .ref ak, .int (nI ec), .ref at_, .int (nI tc), .ref aw, .int (nI wc), .ref as_, .int (nI (sc + 1)), .ref an, .int (nI nc)])) ak = some (.inl (k 0, 4000, .inl (fun i_ => nI (kd i_)))) := (mp_up_n (mp_ne hak__M_7 h0__M_7 (by simp))).trans hak__M_7
    have hat__M_7_n : mp_up M_7 d (.inr (0, [.ref av, .ref ak, .int (nI ec), .ref at_, .int (nI tc), .ref aw, .int (nI wc), .ref as_, .int (nI (sc + 1)), .ref an, .int (nI nc)])) at_ = some (.inl (k 2, 300, .inr (.inr (.inr (.inr qt))))) := (mp_up_n (mp_ne hat__M_7 h0__M_7 (by simp))).trans hat__M_7
    have haw__M_7_n : mp_up M_7 d (.inr (0, [.ref av, .ref ak, .int (nI ec), .ref at_, .int (nI tc), .ref aw, .int (nI wc), .ref as_, .int (nI (sc + 1)), .ref an, .int (nI nc)])) aw = some (.inl (k 0, 12, .inl (fun i_ => nI (wt i_)))) := (mp_up_n (mp_ne haw__M_7 h0__M_7 (by simp))).trans haw__M_7
    have has__M_7_n : mp_up M_7 d (.inr (0, [.ref av, .ref ak, .int (nI ec), .ref at_, .int (nI tc), .ref aw, .int (nI wc), .ref as_, .int (nI (sc + 1)), .ref an, .int (nI nc)])) as_ = some (.inl (k 3, 100, .inr (.inr (.inr (.inr (va_up qs sc (some q))))))) := (mp_up_n (mp_ne has__M_7 h0__M_7 (by simp))).trans has__M_7
    have han__M_7_n : mp_up M_7 d (.inr (0, [.ref av, .ref ak, .int (nI ec), .ref at_, .int (nI tc), .ref aw, .int (nI wc), .ref as_, .int (nI (sc + 1)), .ref an, .int (nI nc)])) an = some (.inl (k 4, 20, .inr (.inr (.inr (.inr qn))))) := (mp_up_n (mp_ne han__M_7 h0__M_7 (by simp))).trans han__M_7
    have hqq__M_7_n : mp_up M_7 d (.inr (0, [.ref av, .ref ak, .int (nI ec), .ref at_, .int (nI tc), .ref aw, .int (nI wc), .ref as_, .int (nI (sc + 1)), .ref an, .int (nI nc)])) q = some (.inr (2, [.int (nI x), .int (nI f), .int (nI wd), .int (nI b)])) := (mp_up_n (mp_ne hqq__M_7 h0__M_7 (by simp))).trans hqq__M_7
    generalize eM_10 : mp_up M_7 d (.inr (0, [.ref av, .ref ak, .int (nI ec), .ref at_, .int (nI tc), .ref aw, .int (nI wc), .ref as_, .int (nI (sc + 1)), .ref an, .int (nI nc)])) = M_9 at I h0__M_7_n hav__M_7_n hak__M_7_n hat__M_7_n haw__M_7_n has__M_7_n han__M_7_n hqq__M_7_n
    have h0__M_9 := h0__M_7_n
    have hav__M_9 := hav__M_7_n
    have hak__M_9 := hak__M_7_n
    have hat__M_9 := hat__M_7_n
    have haw__M_9 := haw__M_7_n
    have has__M_9 := has__M_7_n
    have han__M_9 := han__M_7_n
    have hqq__M_9 := hqq__M_7_n
    clear h0__M_7_n hav__M_7_n hak__M_7_n hat__M_7_n haw__M_7_n has__M_7_n han__M_7_n hqq__M_7_n
    have hD := hD.cntS q x f wd b (va_up_self _ _ _) hqq__M_7
    rw [eM_10] at hD
    refine lv_aload_n hx hb dD_addSpot_42 rfl (lv_at hl 0 rfl) ?_
    refine mp_get (v := .int (nI (sc + 1))) hx hb hts inD hown I h0__M_9 rfl 8 (by decide) (hts _ bw_34) (fun _ h9 => h9) rfl dD_addSpot_43 ?_
    refine lv_iconst (v := nI 1) hx hb dD_addSpot_46 (by decide) ?_
    refine zz_isub hx hb (by omega) dD_addSpot_47 ?_
    exact mp_iret hx hb hr hlocks I (Nat.le_of_ble_eq_true rfl) (Nat.le_of_ble_eq_true rfl) dD_addSpot_48 (Or.inl ⟨by omega, rfl, q, hD⟩)
  · refine lv_iconst (v := (-1)) hx hb dD_addSpot_9 (by decide) ?_
    exact mp_iret hx hb hr hlocks I (Nat.le_of_ble_eq_true rfl) (Nat.le_of_ble_eq_true rfl) dD_addSpot_10 (Or.inr ⟨by omega, rfl, rfl⟩)
/-- what object answers -/
def obr (tc : Nat) (kd tk tf tz : Nat → Nat) (x y : Int) : Int32 := if 0 ≤ x ∧ x < (tc : Int) then (if y = -1 then nI (tk x.toNat) else if y = -2 then nI (tz x.toNat) else if 0 ≤ y ∧ y < (tz x.toNat : Int) then nI (kd (tf x.toNat + y.toNat)) else -1) else -1
abbrev rm_D_object : Room := { frames := 1, cells := 0, slots := 0, locals := 30 }
set_option maxHeartbeats 4000000 in
set_option maxRecDepth 100000 in
theorem kD_object (l : Launch) (D : va_G) (k : Nat → ClassId) (M : mp_M) {d av ak at_ aw as_ an : Nat} {qt qs qn : Nat → Option Nat} {sa ra : Nat → Nat} {ec tc wc sc nc : Nat} {va : Nat → Int64} {kd wt tk tf tz sk sf sw sl nn : Nat → Nat} {nv : Nat → Nat → Int64} (hD : DkX k M d av ak at_ aw as_ an qt qs qn sa ra ec tc wc sc nc va kd wt tk tf tz sk sf sw sl nn nv) (hO : OkB ec tc wc sc nc tk tf tz sk sf sw sl nn) (x y : Int32) : mp_Met l yD_object (Cond.code yD_object cD_object 4 (some .int) :: bw) rm_D_object D cls5 (tys6 k) [.ref d, .int x, .int y] M (va_Qi (fun r M1 => M1 = M ∧ r = obr tc kd tk tf tz x.toInt y.toInt)) 0 0 := by
  refine mp_Met.of (by decide) (Nat.le_of_ble_eq_true rfl) ?_
  intro p e s m below meth c hx hb hr hml hown hts hlocks hin ls hl I
  have hl : lv_has ls 4 [(0, .ref d), (1, .int x), (2, .int y)] := hl
  obtain ⟨h0, hav, hak, hat, haw, has, han, hth, hsp, hsn, hij⟩ := id hD
  obtain ⟨b1, b2, b3, b4, b5, bT, bS, bN⟩ := id hO
  refine lv_aload_n hx hb dD_object_0 rfl (lv_at hl 0 rfl) ?_
  refine lv_iload_n hx hb dD_object_1 rfl (lv_at hl 1 rfl) ?_
  refine mp_callq (va_runV (As := [.int x]) (rest := []) ⟨hx, hb, hml, hown, hts⟩ (kD_findThing l D k M hD hO x _) (cwV 1 hts (bw_V bw_111 bw_113 bs_2 bw_1 bw_114) rfl rfl rfl (by decide +kernel) ⟨Nat.le_of_ble_eq_true rfl, Nat.le_of_ble_eq_true rfl⟩) (mp_preV I h0 rfl _) rfl rfl hl.1 rfl (lv_room (Nat.le_of_ble_eq_true rfl)) dD_object_2 ⟨Nat.le_of_ble_eq_true rfl, Nat.le_of_ble_eq_true rfl⟩) I (fun r_1 N1 H locs hp I => ?_)
  obtain ⟨e_2, hp⟩ := hp
  rw [e_2] at I
  rcases hp with ⟨i, a, hii, hzi, rfl, hMa⟩ | ⟨pni, rfl⟩
  · dsimp only [va_rf]
    have hTi := bT i hii
    have hxi : x.toInt.toNat = i := by omega
    refine lv_astore_n (lv' := [(3, .ref a), (0, .ref d), (1, .int x), (2, .int y)]) hx hb dD_object_5 rfl hl (by decide) rfl (fun ls hl => ?_)
    refine lv_aload_n hx hb dD_object_6 rfl (lv_at hl 0 rfl) ?_
    refine lv_ifnonnull (tgt := 12) hx hb dD_object_7 (by decide) ?_
    refine lv_iload_n hx hb dD_object_12 rfl (lv_at hl 3 rfl) ?_
    refine lv_iconst (v := (-1)) hx hb dD_object_13 (by decide) ?_
    refine zz_icmp_ne (tgt := 22) hx hb rfl (show (-1 : Int32).toInt = -1 from rfl) dD_object_14 (by decide) (fun c_3 => ?_) (fun c_3 => ?_)
    · refine lv_iload_n hx hb dD_object_22 rfl (lv_at hl 3 rfl) ?_
      refine lv_bipush (v := (-2)) hx hb dD_object_23 (by decide) ?_
      refine zz_icmp_ne (tgt := 33) hx hb rfl (show (-2 : Int32).toInt = -2 from rfl) dD_object_25 (by decide) (fun c_4 => ?_) (fun c_4 => ?_)
      · refine lv_aload_n hx hb dD_object_33 rfl (lv_at hl 0 rfl) ?_
        refine lv_iload_n hx hb dD_object_34 rfl (lv_at hl 3 rfl) ?_
        refine lv_iconst (v := nI 1) hx hb dD_object_35 (by decide) ?_
        refine mp_calli (va_runV (As := [.int y, .int (nI 1)]) (rest := []) ⟨hx, hb, hml, hown, hts⟩ (kT_holds l D k M a (tk i) (tf i) (tz i) y (nI 1) hMa (by omega) _) (cwV 2 hts (bw_V bw_115 bw_116 bw_117 bw_3 bw_118) rfl rfl rfl (by decide +kernel) ⟨Nat.le_of_ble_eq_true rfl, Nat.le_of_ble_eq_true rfl⟩) (mp_preV I hMa rfl _) rfl rfl hl.1 rfl (lv_room (Nat.le_of_ble_eq_true rfl)) dD_object_36 ⟨Nat.le_of_ble_eq_true rfl, Nat.le_of_ble_eq_true rfl⟩) I (fun r_5 N_6 H locs hp I => ?_)
        obtain ⟨e_7, hp⟩ := hp
        rw [e_7] at I
        rcases hp with ⟨p3, rfl⟩ | ⟨p3, rfl⟩
        · refine zz_if_eq (tgt := 56) hx hb (nI_toInt (by decide)) dD_object_39 (by decide) (fun c_8 => absurd c_8 (by decide)) (fun _ => ?_)
          have h1z : (nI 1).toInt = 1 := rfl
          obtain ⟨yn, hn_yn, rfl, hz_yn⟩ := i32_nat (x := y) (by omega)
          refine lv_aload_n hx hb dD_object_42 rfl (lv_at hl 1 rfl) ?_
          refine mp_get (v := .ref ak) hx hb hts inD hown I h0 rfl 1 (by decide) (hts _ bw_27) (fun _ h9 => h9) rfl dD_object_43 ?_
          refine lv_aload_n hx hb dD_object_46 rfl (lv_at hl 0 rfl) ?_
          refine mp_get (v := .int (nI (tf i))) hx hb hts inT hown I hMa rfl 1 (by decide) (hts _ bw_86) (fun _ h9 => h9) rfl dD_object_47 ?_
          refine lv_iload_n hx hb dD_object_50 rfl (lv_at hl 3 rfl) ?_
          refine zz_iadd hx hb dD_object_51 ?_
          refine mp_iald hx hb I 0 hak rfl (tf i + yn) rfl (by omega) (by decide) (v := nI (kd (tf i + yn))) rfl dD_object_52 ?_
          refine lv_goto (tgt := 57) hx hb dD_object_53 (by decide) ?_
          exact mp_iret hx hb hr hlocks I (Nat.le_of_ble_eq_true rfl) (Nat.le_of_ble_eq_true rfl) dD_object_57 ⟨rfl, by unfold obr; rw [if_pos (show 0 ≤ x.toInt ∧ x.toInt < (tc : Int) by omega), hxi, if_neg (by omega), if_neg (by omega), if_pos (by omega), show (nI yn).toInt.toNat = yn by omega]⟩
        · refine zz_if_eq (tgt := 56) hx hb (nI_toInt (by decide)) dD_object_39 (by decide) (fun _ => ?_) (fun c_9 => absurd c_9 (by decide))
          refine lv_iconst (v := (-1)) hx hb dD_object_56 (by decide) ?_
          have h1z : (nI 1).toInt = 1 := rfl
          exact mp_iret hx hb hr hlocks I (Nat.le_of_ble_eq_true rfl) (Nat.le_of_ble_eq_true rfl) dD_object_57 ⟨rfl, by unfold obr; rw [if_pos (show 0 ≤ x.toInt ∧ x.toInt < (tc : Int) by omega), hxi, if_neg (by omega), if_neg (by omega), if_neg (by omega)]⟩
      · refine lv_aload_n hx hb dD_object_28 rfl (lv_at hl 0 rfl) ?_
        refine mp_get (v := .int (nI (tz i))) hx hb hts inT hown I hMa rfl 2 (by decide) (hts _ bw_88) (fun _ h9 => h9) rfl dD_object_29 ?_
        exact mp_iret hx hb hr hlocks I (Nat.le_of_ble_eq_true rfl) (Nat.le_of_ble_eq_true rfl) dD_object_32 ⟨rfl, by unfold obr; rw [if_pos (show 0 ≤ x.toInt ∧ x.toInt < (tc : Int) by omega), hxi, if_neg (by omega), if_pos (by omega)]⟩
    · refine lv_aload_n hx hb dD_object_17 rfl (lv_at hl 0 rfl) ?_
      refine mp_get (v := .int (nI (tk i))) hx hb hts inT hown I hMa rfl 0 (by decide) (hts _ bw_84) (fun _ h9 => h9) rfl dD_object_18 ?_
      exact mp_iret hx hb hr hlocks I (Nat.le_of_ble_eq_true rfl) (Nat.le_of_ble_eq_true rfl) dD_object_21 ⟨rfl, by unfold obr; rw [if_pos (show 0 ≤ x.toInt ∧ x.toInt < (tc : Int) by omega), hxi, if_pos (by omega)]⟩
  · dsimp only [va_rf]
    refine lv_astore_nN (lv' := [(3, .null), (0, .ref d), (1, .int x), (2, .int y)]) hx hb dD_object_5 rfl hl (by decide) rfl (fun ls hl => ?_)
    refine lv_aload_nN hx hb dD_object_6 rfl (lv_at hl 0 rfl) ?_
    refine lv_ifnonnullN hx hb dD_object_7 ?_
    refine lv_iconst (v := (-1)) hx hb dD_object_10 (by decide) ?_
    exact mp_iret hx hb hr hlocks I (Nat.le_of_ble_eq_true rfl) (Nat.le_of_ble_eq_true rfl) dD_object_11 ⟨rfl, by unfold obr; rw [if_neg (by omega)]⟩
abbrev rm_D_place : Room := { frames := 3, cells := 1, slots := 4, locals := 90 }
set_option maxHeartbeats 4000000 in
set_option maxRecDepth 100000 in
theorem kD_place (l : Launch) (D : va_G) (k : Nat → ClassId) (M : mp_M) {d av ak at_ aw as_ an : Nat} {qt qs qn : Nat → Option Nat} {sa ra : Nat → Nat} {ec tc wc sc nc : Nat} {va : Nat → Int64} {kd wt tk tf tz sk sf sw sl nn : Nat → Nat} {nv : Nat → Nat → Int64} (hD : DkX k M d av ak at_ aw as_ an qt qs qn sa ra ec tc wc sc nc va kd wt tk tf tz sk sf sw sl nn nv) (hO : OkB ec tc wc sc nc tk tf tz sk sf sw sl nn) (x y : Int32) : mp_Met l yD_place (Cond.code yD_place cD_place 5 (some .int) :: bw) rm_D_place D cls5 (tys6 k) [.ref d, .int x, .int y] M (va_Qi (fun r M1 => ((0 ≤ x.toInt ∧ x.toInt < tc ∧ 0 ≤ y.toInt ∧ y.toInt < tz x.toInt.toNat ∧ sc < 100) ∧ r = nI sc ∧ ∃ i yn q : Nat, x.toInt = i ∧ y.toInt = yn ∧ DkX k M1 d av ak at_ aw as_ an qt (va_up qs sc (some q)) qn sa ra ec tc wc (sc + 1) nc va kd wt tk tf tz (nu sk sc (kd (tf i + yn))) (nu sf sc (tf i + yn)) (nu sw sc 1) (nu sl sc 0) nn nv) ∨ (¬ (0 ≤ x.toInt ∧ x.toInt < tc ∧ 0 ≤ y.toInt ∧ y.toInt < tz x.toInt.toNat ∧ sc < 100) ∧ r = -1 ∧ M1 = M))) 1 4 := by
  refine mp_Met.of (by decide) (Nat.le_of_ble_eq_true rfl) ?_
  intro p e s m below meth c hx hb hr hml hown hts hlocks hin ls hl I
  have hl : lv_has ls 5 [(0, .ref d), (1, .int x), (2, .int y)] := hl
  obtain ⟨h0, hav, hak, hat, haw, has, han, hth, hsp, hsn, hij⟩ := id hD
  obtain ⟨b1, b2, b3, b4, b5, bT, bS, bN⟩ := id hO
  refine lv_aload_n hx hb dD_place_0 rfl (lv_at hl 0 rfl) ?_
  refine lv_iload_n hx hb dD_place_1 rfl (lv_at hl 1 rfl) ?_
  refine mp_callq (va_runV (As := [.int x]) (rest := []) ⟨hx, hb, hml, hown, hts⟩ (kD_findThing l D k M hD hO x _) (cwV 1 hts (bw_V bw_111 bw_113 bs_2 bw_1 bw_114) rfl rfl rfl (by decide +kernel) ⟨Nat.le_of_ble_eq_true rfl, Nat.le_of_ble_eq_true rfl⟩) (mp_preV I h0 rfl _) rfl rfl hl.1 rfl (lv_room (Nat.le_of_ble_eq_true rfl)) dD_place_2 ⟨Nat.le_of_ble_eq_true rfl, Nat.le_of_ble_eq_true rfl⟩) I (fun r_1 N1 H locs hp I => ?_)
  obtain ⟨e_2, hp⟩ := hp
  rw [e_2] at I
  rcases hp with ⟨i, a, hii, hzi, rfl, hMa⟩ | ⟨pni, rfl⟩
  · dsimp only [va_rf]
    have hTi := bT i hii
    have hxi : x.toInt.toNat = i := by omega
    refine lv_astore_n (lv' := [(3, .ref a), (0, .ref d), (1, .int x), (2, .int y)]) hx hb dD_place_5 rfl hl (by decide) rfl (fun ls hl => ?_)
    refine lv_aload_n hx hb dD_place_6 rfl (lv_at hl 0 rfl) ?_
    refine lv_ifnull hx hb dD_place_7 ?_
    refine lv_aload_n hx hb dD_place_10 rfl (lv_at hl 0 rfl) ?_
    refine lv_iload_n hx hb dD_place_11 rfl (lv_at hl 3 rfl) ?_
    refine lv_iconst (v := nI 1) hx hb dD_place_12 (by decide) ?_
    have h1z : (nI 1).toInt = 1 := rfl
    refine mp_calli (va_runV (As := [.int y, .int (nI 1)]) (rest := []) ⟨hx, hb, hml, hown, hts⟩ (kT_holds l D k M a (tk i) (tf i) (tz i) y (nI 1) hMa (by omega) _) (cwV 2 hts (bw_V bw_115 bw_116 bw_117 bw_3 bw_118) rfl rfl rfl (by decide +kernel) ⟨Nat.le_of_ble_eq_true rfl, Nat.le_of_ble_eq_true rfl⟩) (mp_preV I hMa rfl _) rfl rfl hl.1 rfl (lv_room (Nat.le_of_ble_eq_true rfl)) dD_place_13 ⟨Nat.le_of_ble_eq_true rfl, Nat.le_of_ble_eq_true rfl⟩) I (fun r_3 N_4 H locs hp I => ?_)
    obtain ⟨e_5, hp⟩ := hp
    rw [e_5] at I
    rcases hp with ⟨p3, rfl⟩ | ⟨p3, rfl⟩
    · refine zz_if_ne (tgt := 21) hx hb (nI_toInt (by decide)) dD_place_16 (by decide) (fun _ => ?_) (fun c_6 => absurd c_6 (by decide))
      obtain ⟨yn, hn_yn, rfl, hz_yn⟩ := i32_nat (x := y) (by omega)
      refine lv_aload_n hx hb dD_place_21 rfl (lv_at hl 0 rfl) ?_
      refine mp_get (v := .int (nI (tf i))) hx hb hts inT hown I hMa rfl 1 (by decide) (hts _ bw_86) (fun _ h9 => h9) rfl dD_place_22 ?_
      refine lv_iload_n hx hb dD_place_25 rfl (lv_at hl 3 rfl) ?_
      refine zz_iadd hx hb dD_place_26 ?_
      refine lv_istore (lv' := [(4, .int (nI (tf i + yn))), (3, .ref a), (0, .ref d), (1, .int x), (2, .int (nI yn))]) hx hb dD_place_27 hl (by decide) rfl (fun ls hl => ?_)
      refine lv_aload_n hx hb dD_place_29 rfl (lv_at hl 2 rfl) ?_
      refine lv_aload_n hx hb dD_place_30 rfl (lv_at hl 2 rfl) ?_
      refine mp_get (v := .ref ak) hx hb hts inD hown I h0 rfl 1 (by decide) (hts _ bw_27) (fun _ h9 => h9) rfl dD_place_31 ?_
      refine lv_iload hx hb dD_place_34 (lv_at hl 0 rfl) ?_
      refine mp_iald hx hb I 0 hak rfl (tf i + yn) rfl (by omega) (by decide) (v := nI (kd (tf i + yn))) rfl dD_place_36 ?_
      refine lv_iload hx hb dD_place_37 (lv_at hl 0 rfl) ?_
      refine lv_iconst (v := nI 1) hx hb dD_place_39 (by decide) ?_
      refine lv_iconst (v := nI 0) hx hb dD_place_40 (by decide) ?_
      refine mp_calli (va_runV (As := [.int (nI (kd (tf i + yn))), .int (nI (tf i + yn)), .int (nI 1), .int (nI 0)]) (rest := []) ⟨hx, hb, hml, hown, hts⟩ (kD_addSpot l D k M hD hO (kd (tf i + yn)) (tf i + yn) 1 0 (by omega) _) (cwV 4 hts (bw_V bw_123 bw_125 bs_3 bw_1 bw_126) rfl rfl rfl (by decide +kernel) ⟨Nat.le_of_ble_eq_true rfl, Nat.le_of_ble_eq_true rfl⟩) (mp_preV I h0 rfl _) rfl rfl hl.1 rfl (lv_room (Nat.le_of_ble_eq_true rfl)) dD_place_41 ⟨Nat.le_of_ble_eq_true rfl, Nat.le_of_ble_eq_true rfl⟩) I (fun r1 N1 H locs hp I => ?_)
      rcases hp with ⟨p4, rfl, q, hD⟩ | ⟨p4, rfl, eN⟩
      · exact mp_iret hx hb hr hlocks I (Nat.le_of_ble_eq_true rfl) (Nat.le_of_ble_eq_true rfl) dD_place_44 (Or.inl ⟨by rw [hxi]; omega, rfl, i, yn, q, hzi, hz_yn, hD⟩)
      · exact mp_iret hx hb hr hlocks I (Nat.le_of_ble_eq_true rfl) (Nat.le_of_ble_eq_true rfl) dD_place_44 (Or.inr ⟨by rw [hxi]; omega, rfl, eN⟩)
    · refine zz_if_ne (tgt := 21) hx hb (nI_toInt (by decide)) dD_place_16 (by decide) (fun c_7 => absurd c_7 (by decide)) (fun _ => ?_)
      refine lv_iconst (v := (-1)) hx hb dD_place_19 (by decide) ?_
      exact mp_iret hx hb hr hlocks I (Nat.le_of_ble_eq_true rfl) (Nat.le_of_ble_eq_true rfl) dD_place_20 (Or.inr ⟨by rw [hxi]; omega, rfl, rfl⟩)
  · dsimp only [va_rf]
    refine lv_astore_nN (lv' := [(3, .null), (0, .ref d), (1, .int x), (2, .int y)]) hx hb dD_place_5 rfl hl (by decide) rfl (fun ls hl => ?_)
    refine lv_aload_nN hx hb dD_place_6 rfl (lv_at hl 0 rfl) ?_
    refine lv_ifnullN (tgt := 19) hx hb dD_place_7 (by decide) ?_
    refine lv_iconst (v := (-1)) hx hb dD_place_19 (by decide) ?_
    exact mp_iret hx hb hr hlocks I (Nat.le_of_ble_eq_true rfl) (Nat.le_of_ble_eq_true rfl) dD_place_20 (Or.inr ⟨by omega, rfl, rfl⟩)
abbrev rm_D_kindOf : Room := { frames := 1, cells := 0, slots := 0, locals := 30 }
set_option maxHeartbeats 4000000 in
set_option maxRecDepth 100000 in
theorem kD_kindOf (l : Launch) (D : va_G) (k : Nat → ClassId) (M : mp_M) {d av ak at_ aw as_ an : Nat} {qt qs qn : Nat → Option Nat} {sa ra : Nat → Nat} {ec tc wc sc nc : Nat} {va : Nat → Int64} {kd wt tk tf tz sk sf sw sl nn : Nat → Nat} {nv : Nat → Nat → Int64} (hD : DkX k M d av ak at_ aw as_ an qt qs qn sa ra ec tc wc sc nc va kd wt tk tf tz sk sf sw sl nn nv) (hO : OkB ec tc wc sc nc tk tf tz sk sf sw sl nn) (x : Int32) : mp_Met l yD_kindOf (Cond.code yD_kindOf cD_kindOf 3 (some .int) :: bw) rm_D_kindOf D cls5 (tys6 k) [.ref d, .int x] M (va_Qi (fun r M1 => M1 = M ∧ r = if 0 ≤ x.toInt ∧ x.toInt < (sc : Int) then nI (sk x.toInt.toNat) else -1)) 0 0 := by
  refine mp_Met.of (by decide) (Nat.le_of_ble_eq_true rfl) ?_
  intro p e s m below meth c hx hb hr hml hown hts hlocks hin ls hl I
  have hl : lv_has ls 3 [(0, .ref d), (1, .int x)] := hl
  obtain ⟨h0, hav, hak, hat, haw, has, han, hth, hsp, hsn, hij⟩ := id hD
  obtain ⟨b1, b2, b3, b4, b5, bT, bS, bN⟩ := id hO
  refine lv_aload_n hx hb dD_kindOf_0 rfl (lv_at hl 0 rfl) ?_
  refine lv_iload_n hx hb dD_kindOf_1 rfl (lv_at hl 1 rfl) ?_
  refine mp_callq (va_runV (As := [.int x]) (rest := []) ⟨hx, hb, hml, hown, hts⟩ (kD_findSpot l D k M hD hO x _) (cwV 1 hts (bw_V bw_159 bw_161 bs_4 bw_1 bw_162) rfl rfl rfl (by decide +kernel) ⟨Nat.le_of_ble_eq_true rfl, Nat.le_of_ble_eq_true rfl⟩) (mp_preV I h0 rfl _) rfl rfl hl.1 rfl (lv_room (Nat.le_of_ble_eq_true rfl)) dD_kindOf_2 ⟨Nat.le_of_ble_eq_true rfl, Nat.le_of_ble_eq_true rfl⟩) I (fun r_1 N1 H locs hp I => ?_)
  obtain ⟨e_2, hp⟩ := hp
  rw [e_2] at I
  rcases hp with ⟨i, a, hii, hzi, rfl, hMa⟩ | ⟨pni, rfl⟩
  · dsimp only [va_rf]
    have hTi := bS i hii
    have hxi : x.toInt.toNat = i := by omega
    refine lv_astore_n (lv' := [(2, .ref a), (0, .ref d), (1, .int x)]) hx hb dD_kindOf_5 rfl hl (by decide) rfl (fun ls hl => ?_)
    refine lv_aload_n hx hb dD_kindOf_6 rfl (lv_at hl 0 rfl) ?_
    refine lv_ifnonnull (tgt := 14) hx hb dD_kindOf_7 (by decide) ?_
    refine lv_aload_n hx hb dD_kindOf_14 rfl (lv_at hl 0 rfl) ?_
    refine mp_get (v := .int (nI (sk i))) hx hb hts inS hown I hMa rfl 0 (by decide) (hts _ bw_133) (fun _ h9 => h9) rfl dD_kindOf_15 ?_
    exact mp_iret hx hb hr hlocks I (Nat.le_of_ble_eq_true rfl) (Nat.le_of_ble_eq_true rfl) dD_kindOf_18 ⟨rfl, by rw [if_pos (show 0 ≤ x.toInt ∧ x.toInt < (sc : Int) by omega), hxi]⟩
  · dsimp only [va_rf]
    refine lv_astore_nN (lv' := [(2, .null), (0, .ref d), (1, .int x)]) hx hb dD_kindOf_5 rfl hl (by decide) rfl (fun ls hl => ?_)
    refine lv_aload_nN hx hb dD_kindOf_6 rfl (lv_at hl 0 rfl) ?_
    refine lv_ifnonnullN hx hb dD_kindOf_7 ?_
    refine lv_iconst (v := (-1)) hx hb dD_kindOf_10 (by decide) ?_
    refine lv_goto (tgt := 18) hx hb dD_kindOf_11 (by decide) ?_
    exact mp_iret hx hb hr hlocks I (Nat.le_of_ble_eq_true rfl) (Nat.le_of_ble_eq_true rfl) dD_kindOf_18 ⟨rfl, by rw [if_neg (by omega)]⟩
abbrev rm_D_meet : Room := { frames := 1, cells := 0, slots := 0, locals := 30 }
set_option maxHeartbeats 4000000 in
set_option maxRecDepth 100000 in
theorem kD_meet (l : Launch) (D : va_G) (k : Nat → ClassId) (M : mp_M) {d av ak at_ aw as_ an : Nat} {qt qs qn : Nat → Option Nat} {sa ra : Nat → Nat} {ec tc wc sc nc : Nat} {va : Nat → Int64} {kd wt tk tf tz sk sf sw sl nn : Nat → Nat} {nv : Nat → Nat → Int64} (hD : DkX k M d av ak at_ aw as_ an qt qs qn sa ra ec tc wc sc nc va kd wt tk tf tz sk sf sw sl nn nv) (hO : OkB ec tc wc sc nc tk tf tz sk sf sw sl nn) (x y : Int32) : mp_Met l yD_meet (Cond.code yD_meet cD_meet 5 (some .boolean) :: bw) rm_D_meet D cls5 (tys6 k) [.ref d, .int x, .int y] M (va_Qi (fun r M1 => M1 = M ∧ (((0 ≤ x.toInt ∧ x.toInt < sc ∧ 0 ≤ y.toInt ∧ y.toInt < sc ∧ sf x.toInt.toNat < sf y.toInt.toNat + sw y.toInt.toNat ∧ sf y.toInt.toNat < sf x.toInt.toNat + sw x.toInt.toNat) ∧ r = nI 1) ∨ (¬ (0 ≤ x.toInt ∧ x.toInt < sc ∧ 0 ≤ y.toInt ∧ y.toInt < sc ∧ sf x.toInt.toNat < sf y.toInt.toNat + sw y.toInt.toNat ∧ sf y.toInt.toNat < sf x.toInt.toNat + sw x.toInt.toNat) ∧ r = nI 0)))) 0 0 := by
  refine mp_Met.of (by decide) (Nat.le_of_ble_eq_true rfl) ?_
  intro p e s m below meth c hx hb hr hml hown hts hlocks hin ls hl I
  have hl : lv_has ls 5 [(0, .ref d), (1, .int x), (2, .int y)] := hl
  obtain ⟨h0, hav, hak, hat, haw, has, han, hth, hsp, hsn, hij⟩ := id hD
  obtain ⟨b1, b2, b3, b4, b5, bT, bS, bN⟩ := id hO
  refine lv_aload_n hx hb dD_meet_0 rfl (lv_at hl 0 rfl) ?_
  refine lv_iload_n hx hb dD_meet_1 rfl (lv_at hl 1 rfl) ?_
  refine mp_callq (va_runV (As := [.int x]) (rest := []) ⟨hx, hb, hml, hown, hts⟩ (kD_findSpot l D k M hD hO x _) (cwV 1 hts (bw_V bw_159 bw_161 bs_4 bw_1 bw_162) rfl rfl rfl (by decide +kernel) ⟨Nat.le_of_ble_eq_true rfl, Nat.le_of_ble_eq_true rfl⟩) (mp_preV I h0 rfl _) rfl rfl hl.1 rfl (lv_room (Nat.le_of_ble_eq_true rfl)) dD_meet_2 ⟨Nat.le_of_ble_eq_true rfl, Nat.le_of_ble_eq_true rfl⟩) I (fun r_1 N1 H locs hp I => ?_)
  obtain ⟨e_2, hp⟩ := hp
  rw [e_2] at I
  rcases hp with ⟨i, a1, hii, hzi, rfl, hMa1⟩ | ⟨pni, rfl⟩
  · dsimp only [va_rf]
    have hTi := bS i hii
    have hxi : x.toInt.toNat = i := by omega
    refine lv_astore_n (lv' := [(3, .ref a1), (0, .ref d), (1, .int x), (2, .int y)]) hx hb dD_meet_5 rfl hl (by decide) rfl (fun ls hl => ?_)
    refine lv_aload_n hx hb dD_meet_6 rfl (lv_at hl 1 rfl) ?_
    refine lv_iload_n hx hb dD_meet_7 rfl (lv_at hl 3 rfl) ?_
    refine mp_callq (va_runV (As := [.int y]) (rest := []) ⟨hx, hb, hml, hown, hts⟩ (kD_findSpot l D k M hD hO y _) (cwV 1 hts (bw_V bw_159 bw_161 bs_4 bw_1 bw_162) rfl rfl rfl (by decide +kernel) ⟨Nat.le_of_ble_eq_true rfl, Nat.le_of_ble_eq_true rfl⟩) (mp_preV I h0 rfl _) rfl rfl hl.1 rfl (lv_room (Nat.le_of_ble_eq_true rfl)) dD_meet_8 ⟨Nat.le_of_ble_eq_true rfl, Nat.le_of_ble_eq_true rfl⟩) I (fun r_3 N1 H locs hp I => ?_)
    obtain ⟨e_4, hp⟩ := hp
    rw [e_4] at I
    rcases hp with ⟨j, a2, hij, hzj, rfl, hMa2⟩ | ⟨pnj, rfl⟩
    · dsimp only [va_rf]
      have hTj := bS j hij
      have hxj : y.toInt.toNat = j := by omega
      refine lv_astore (lv' := [(4, .ref a2), (3, .ref a1), (0, .ref d), (1, .int x), (2, .int y)]) hx hb dD_meet_11 hl (by decide) rfl (fun ls hl => ?_)
      refine lv_aload_n hx hb dD_meet_13 rfl (lv_at hl 1 rfl) ?_
      refine lv_ifnull hx hb dD_meet_14 ?_
      refine lv_aload hx hb dD_meet_17 (lv_at hl 0 rfl) ?_
      refine lv_ifnull hx hb dD_meet_19 ?_
      refine lv_aload_n hx hb dD_meet_22 rfl (lv_at hl 1 rfl) ?_
      refine lv_aload hx hb dD_meet_23 (lv_at hl 0 rfl) ?_
      refine mp_calli (va_runV (As := [.ref a2]) (rest := []) ⟨hx, hb, hml, hown, hts⟩ (kS_overlaps l D k M a1 a2 (sk i) (sf i) (sw i) (sl i) (sk j) (sf j) (sw j) (sl j) hMa1 hMa2 (by omega) (by omega) _) (cwV 1 hts (bw_V bw_171 bw_172 bw_173 bw_5 bw_174) rfl rfl rfl (by decide +kernel) ⟨Nat.le_of_ble_eq_true rfl, Nat.le_of_ble_eq_true rfl⟩) (mp_preV I hMa1 rfl _) rfl rfl hl.1 rfl (lv_room (Nat.le_of_ble_eq_true rfl)) dD_meet_25 ⟨Nat.le_of_ble_eq_true rfl, Nat.le_of_ble_eq_true rfl⟩) I (fun r_5 N_6 H locs hp I => ?_)
      obtain ⟨e_7, hp⟩ := hp
      rw [e_7] at I
      rcases hp with ⟨p3, rfl⟩ | ⟨p3, rfl⟩
      · refine zz_if_eq (tgt := 35) hx hb (nI_toInt (by decide)) dD_meet_28 (by decide) (fun c_8 => absurd c_8 (by decide)) (fun _ => ?_)
        refine lv_iconst (v := nI 1) hx hb dD_meet_31 (by decide) ?_
        refine lv_goto (tgt := 36) hx hb dD_meet_32 (by decide) ?_
        exact mp_zret hx hb hr hlocks I rfl (Nat.le_of_ble_eq_true rfl) (Nat.le_of_ble_eq_true rfl) dD_meet_36 ⟨rfl, Or.inl ⟨by rw [hxi, hxj]; omega, rfl⟩⟩
      · refine zz_if_eq (tgt := 35) hx hb (nI_toInt (by decide)) dD_meet_28 (by decide) (fun _ => ?_) (fun c_9 => absurd c_9 (by decide))
        refine lv_iconst (v := nI 0) hx hb dD_meet_35 (by decide) ?_
        exact mp_zret hx hb hr hlocks I rfl (Nat.le_of_ble_eq_true rfl) (Nat.le_of_ble_eq_true rfl) dD_meet_36 ⟨rfl, Or.inr ⟨by rw [hxi, hxj]; omega, rfl⟩⟩
    · dsimp only [va_rf]
      refine lv_astoreN (lv' := [(4, .null), (3, .ref a1), (0, .ref d), (1, .int x), (2, .int y)]) hx hb dD_meet_11 hl (by decide) rfl (fun ls hl => ?_)
      refine lv_aload_n hx hb dD_meet_13 rfl (lv_at hl 1 rfl) ?_
      refine lv_ifnull hx hb dD_meet_14 ?_
      refine lv_aloadN hx hb dD_meet_17 (lv_at hl 0 rfl) ?_
      refine lv_ifnullN (tgt := 35) hx hb dD_meet_19 (by decide) ?_
      refine lv_iconst (v := nI 0) hx hb dD_meet_35 (by decide) ?_
      exact mp_zret hx hb hr hlocks I rfl (Nat.le_of_ble_eq_true rfl) (Nat.le_of_ble_eq_true rfl) dD_meet_36 ⟨rfl, Or.inr ⟨by rw [hxi]; omega, rfl⟩⟩
  · dsimp only [va_rf]
    refine lv_astore_nN (lv' := [(3, .null), (0, .ref d), (1, .int x), (2, .int y)]) hx hb dD_meet_5 rfl hl (by decide) rfl (fun ls hl => ?_)
    refine lv_aload_n hx hb dD_meet_6 rfl (lv_at hl 1 rfl) ?_
    refine lv_iload_n hx hb dD_meet_7 rfl (lv_at hl 3 rfl) ?_
    refine mp_callq (va_runV (As := [.int y]) (rest := []) ⟨hx, hb, hml, hown, hts⟩ (kD_findSpot l D k M hD hO y _) (cwV 1 hts (bw_V bw_159 bw_161 bs_4 bw_1 bw_162) rfl rfl rfl (by decide +kernel) ⟨Nat.le_of_ble_eq_true rfl, Nat.le_of_ble_eq_true rfl⟩) (mp_preV I h0 rfl _) rfl rfl hl.1 rfl (lv_room (Nat.le_of_ble_eq_true rfl)) dD_meet_8 ⟨Nat.le_of_ble_eq_true rfl, Nat.le_of_ble_eq_true rfl⟩) I (fun r_10 N1 H locs hp I => ?_)
    obtain ⟨e_11, hp⟩ := hp
    rw [e_11] at I
    rcases hp with ⟨j, a2, hij, hzj, rfl, hMa2⟩ | ⟨pnj, rfl⟩
    · dsimp only [va_rf]
      have hTj := bS j hij
      have hxj : y.toInt.toNat = j := by omega
      refine lv_astore (lv' := [(4, .ref a2), (3, .null), (0, .ref d), (1, .int x), (2, .int y)]) hx hb dD_meet_11 hl (by decide) rfl (fun ls hl => ?_)
      refine lv_aload_nN hx hb dD_meet_13 rfl (lv_at hl 1 rfl) ?_
      refine lv_ifnullN (tgt := 35) hx hb dD_meet_14 (by decide) ?_
      refine lv_iconst (v := nI 0) hx hb dD_meet_35 (by decide) ?_
      exact mp_zret hx hb hr hlocks I rfl (Nat.le_of_ble_eq_true rfl) (Nat.le_of_ble_eq_true rfl) dD_meet_36 ⟨rfl, Or.inr ⟨by rw [hxj]; omega, rfl⟩⟩
    · dsimp only [va_rf]
      refine lv_astoreN (lv' := [(4, .null), (3, .null), (0, .ref d), (1, .int x), (2, .int y)]) hx hb dD_meet_11 hl (by decide) rfl (fun ls hl => ?_)
      refine lv_aload_nN hx hb dD_meet_13 rfl (lv_at hl 1 rfl) ?_
      refine lv_ifnullN (tgt := 35) hx hb dD_meet_14 (by decide) ?_
      refine lv_iconst (v := nI 0) hx hb dD_meet_35 (by decide) ?_
      exact mp_zret hx hb hr hlocks I rfl (Nat.le_of_ble_eq_true rfl) (Nat.le_of_ble_eq_true rfl) dD_meet_36 ⟨rfl, Or.inr ⟨by omega, rfl⟩⟩
end
section
theorem wv_le (x : Int) : wv x ≤ 8 := by
  unfold wv
  split
  · omega
  · split
    · omega
    · split <;> omega
theorem wv_pos {x : Int} (h : wv x ≠ 0) : 3 ≤ x ∧ x ≤ 6 := by
  unfold wv at h
  split at h
  · omega
  · split at h
    · omega
    · split at h <;> omega
abbrev rm_D_view : Room := { frames := 3, cells := 1, slots := 4, locals := 90 }
set_option maxHeartbeats 4000000 in
set_option maxRecDepth 100000 in
theorem kD_view (l : Launch) (D : va_G) (k : Nat → ClassId) (M : mp_M) {d av ak at_ aw as_ an : Nat} {qt qs qn : Nat → Option Nat} {sa ra : Nat → Nat} {ec tc wc sc nc : Nat} {va : Nat → Int64} {kd wt tk tf tz sk sf sw sl nn : Nat → Nat} {nv : Nat → Nat → Int64} (hD : DkX k M d av ak at_ aw as_ an qt qs qn sa ra ec tc wc sc nc va kd wt tk tf tz sk sf sw sl nn nv) (hO : OkB ec tc wc sc nc tk tf tz sk sf sw sl nn) (x y z : Int32) (b : Nat) (hbb : b ≤ 1) : mp_Met l yD_view (Cond.code yD_view cD_view 7 (some .int) :: bw) rm_D_view D cls5 (tys6 k) [.ref d, .int x, .int y, .int z, .int (nI b)] M (va_Qi (fun r M1 => ((0 ≤ x.toInt ∧ x.toInt < tc ∧ tk x.toInt.toNat = 2 ∧ wv z.toInt ≠ 0 ∧ 0 ≤ y.toInt ∧ y.toInt + wv z.toInt ≤ tz x.toInt.toNat ∧ sc < 100) ∧ r = nI sc ∧ ∃ i yn zn q : Nat, x.toInt = i ∧ y.toInt = yn ∧ z.toInt = zn ∧ DkX k M1 d av ak at_ aw as_ an qt (va_up qs sc (some q)) qn sa ra ec tc wc (sc + 1) nc va kd wt tk tf tz (nu sk sc zn) (nu sf sc (tf i + yn)) (nu sw sc (wv z.toInt)) (nu sl sc b) nn nv) ∨ (¬ (0 ≤ x.toInt ∧ x.toInt < tc ∧ tk x.toInt.toNat = 2 ∧ wv z.toInt ≠ 0 ∧ 0 ≤ y.toInt ∧ y.toInt + wv z.toInt ≤ tz x.toInt.toNat ∧ sc < 100) ∧ r = -1 ∧ M1 = M))) 1 4 := by
  refine mp_Met.of (by decide) (Nat.le_of_ble_eq_true rfl) ?_
  intro p e s m below meth c hx hb hr hml hown hts hlocks hin ls hl I
  have hl : lv_has ls 7 [(0, .ref d), (1, .int x), (2, .int y), (3, .int z), (4, .int (nI b))] := hl
  obtain ⟨h0, hav, hak, hat, haw, has, han, hth, hsp, hsn, hij⟩ := id hD
  obtain ⟨b1, b2, b3, b4, b5, bT, bS, bN⟩ := id hO
  refine lv_aload_n hx hb dD_view_0 rfl (lv_at hl 0 rfl) ?_
  refine lv_iload_n hx hb dD_view_1 rfl (lv_at hl 1 rfl) ?_
  refine mp_callq (va_runV (As := [.int x]) (rest := []) ⟨hx, hb, hml, hown, hts⟩ (kD_findThing l D k M hD hO x _) (cwV 1 hts (bw_V bw_111 bw_113 bs_2 bw_1 bw_114) rfl rfl rfl (by decide +kernel) ⟨Nat.le_of_ble_eq_true rfl, Nat.le_of_ble_eq_true rfl⟩) (mp_preV I h0 rfl _) rfl rfl hl.1 rfl (lv_room (Nat.le_of_ble_eq_true rfl)) dD_view_2 ⟨Nat.le_of_ble_eq_true rfl, Nat.le_of_ble_eq_true rfl⟩) I (fun r_1 N1 H locs hp I => ?_)
  obtain ⟨e_2, hp⟩ := hp
  rw [e_2] at I
  rcases hp with ⟨i, a, hii, hzi, rfl, hMa⟩ | ⟨pni, rfl⟩
  · dsimp only [va_rf]
    have hTi := bT i hii
    have hxi : x.toInt.toNat = i := by omega
    refine lv_astore (lv' := [(5, .ref a), (0, .ref d), (1, .int x), (2, .int y), (3, .int z), (4, .int (nI b))]) hx hb dD_view_5 hl (by decide) rfl (fun ls hl => ?_)
    refine lv_iload_n hx hb dD_view_7 rfl (lv_at hl 4 rfl) ?_
    refine mp_calli (va_runS (As := [.int z]) (rest := []) ⟨hx, hb, hml, hown, hts⟩ (kD_widthOfView l D k M z _) (cwS 1 hts (bw_S bw_152 bw_153 bw_1 bw_154) rfl rfl rfl (by decide +kernel) ⟨Nat.le_of_ble_eq_true rfl, Nat.le_of_ble_eq_true rfl⟩) (mp_preS I _) rfl rfl hl.1 rfl (lv_room (Nat.le_of_ble_eq_true rfl)) dD_view_8 ⟨Nat.le_of_ble_eq_true rfl, Nat.le_of_ble_eq_true rfl⟩) I (fun r8 N1 H locs hp I => ?_)
    obtain ⟨e_3, hp⟩ := hp
    rw [e_3] at I
    obtain ⟨wd, hwd⟩ : ∃ wd, wd = wv z.toInt := ⟨_, rfl⟩
    rw [← hwd] at hp
    subst hp
    have hwd8 : wd ≤ 8 := by rw [hwd]; exact wv_le _
    refine lv_istore (lv' := [(6, .int (nI wd)), (5, .ref a), (0, .ref d), (1, .int x), (2, .int y), (3, .int z), (4, .int (nI b))]) hx hb dD_view_11 hl (by decide) rfl (fun ls hl => ?_)
    refine lv_aload hx hb dD_view_13 (lv_at hl 1 rfl) ?_
    refine lv_ifnull hx hb dD_view_15 ?_
    refine lv_aload hx hb dD_view_18 (lv_at hl 1 rfl) ?_
    refine mp_get (v := .int (nI (tk i))) hx hb hts inT hown I hMa rfl 0 (by decide) (hts _ bw_84) (fun _ h9 => h9) rfl dD_view_20 ?_
    refine lv_iconst (v := nI 2) hx hb dD_view_23 (by decide) ?_
    refine zz_icmp_ne (tgt := 43) hx hb (nI_toInt (by first | assumption | omega)) (nI_toInt (by decide)) dD_view_24 (by decide) (fun c_4 => ?_) (fun c_4 => ?_)
    · refine lv_iconst (v := (-1)) hx hb dD_view_43 (by decide) ?_
      exact mp_iret hx hb hr hlocks I (Nat.le_of_ble_eq_true rfl) (Nat.le_of_ble_eq_true rfl) dD_view_44 (Or.inr ⟨by rw [hxi, ← hwd]; omega, rfl, rfl⟩)
    · refine lv_iload hx hb dD_view_27 (lv_at hl 0 rfl) ?_
      refine zz_if_eq (tgt := 43) hx hb (nI_toInt (by first | assumption | omega)) dD_view_29 (by decide) (fun c_5 => ?_) (fun c_5 => ?_)
      · refine lv_iconst (v := (-1)) hx hb dD_view_43 (by decide) ?_
        exact mp_iret hx hb hr hlocks I (Nat.le_of_ble_eq_true rfl) (Nat.le_of_ble_eq_true rfl) dD_view_44 (Or.inr ⟨by rw [hxi, ← hwd]; omega, rfl, rfl⟩)
      · refine lv_aload hx hb dD_view_32 (lv_at hl 1 rfl) ?_
        refine lv_iload_n hx hb dD_view_34 rfl (lv_at hl 4 rfl) ?_
        refine lv_iload hx hb dD_view_35 (lv_at hl 0 rfl) ?_
        have hwz : (nI wd).toInt = wd := nI_toInt (by omega)
        refine mp_calli (va_runV (As := [.int y, .int (nI wd)]) (rest := []) ⟨hx, hb, hml, hown, hts⟩ (kT_holds l D k M a (tk i) (tf i) (tz i) y (nI wd) hMa (by omega) _) (cwV 2 hts (bw_V bw_115 bw_116 bw_117 bw_3 bw_118) rfl rfl rfl (by decide +kernel) ⟨Nat.le_of_ble_eq_true rfl, Nat.le_of_ble_eq_true rfl⟩) (mp_preV I hMa rfl _) rfl rfl hl.1 rfl (lv_room (Nat.le_of_ble_eq_true rfl)) dD_view_37 ⟨Nat.le_of_ble_eq_true rfl, Nat.le_of_ble_eq_true rfl⟩) I (fun r_6 N_7 H locs hp I => ?_)
        obtain ⟨e_8, hp⟩ := hp
        rw [e_8] at I
        rcases hp with ⟨p3, rfl⟩ | ⟨p3, rfl⟩
        · refine zz_if_ne (tgt := 45) hx hb (nI_toInt (by decide)) dD_view_40 (by decide) (fun _ => ?_) (fun c_9 => absurd c_9 (by decide))
          have hzz := wv_pos (show wv z.toInt ≠ 0 by rw [← hwd]; omega)
          obtain ⟨yn, hn_yn, rfl, hz_yn⟩ := i32_nat (x := y) (by omega)
          obtain ⟨zn, hn_zn, rfl, hz_zn⟩ := i32_nat (x := z) (by omega)
          refine lv_aload_n hx hb dD_view_45 rfl (lv_at hl 2 rfl) ?_
          refine lv_iload_n hx hb dD_view_46 rfl (lv_at hl 5 rfl) ?_
          refine lv_aload hx hb dD_view_47 (lv_at hl 1 rfl) ?_
          refine mp_get (v := .int (nI (tf i))) hx hb hts inT hown I hMa rfl 1 (by decide) (hts _ bw_86) (fun _ h9 => h9) rfl dD_view_49 ?_
          refine lv_iload_n hx hb dD_view_52 rfl (lv_at hl 4 rfl) ?_
          refine zz_iadd hx hb dD_view_53 ?_
          refine lv_iload hx hb dD_view_54 (lv_at hl 0 rfl) ?_
          refine lv_iload hx hb dD_view_56 (lv_at hl 6 rfl) ?_
          refine mp_calli (va_runV (As := [.int (nI zn), .int (nI (tf i + yn)), .int (nI wd), .int (nI b)]) (rest := []) ⟨hx, hb, hml, hown, hts⟩ (kD_addSpot l D k M hD hO zn (tf i + yn) wd b hbb _) (cwV 4 hts (bw_V bw_123 bw_125 bs_3 bw_1 bw_126) rfl rfl rfl (by decide +kernel) ⟨Nat.le_of_ble_eq_true rfl, Nat.le_of_ble_eq_true rfl⟩) (mp_preV I h0 rfl _) rfl rfl hl.1 rfl (lv_room (Nat.le_of_ble_eq_true rfl)) dD_view_58 ⟨Nat.le_of_ble_eq_true rfl, Nat.le_of_ble_eq_true rfl⟩) I (fun r1 N1 H locs hp I => ?_)
          rcases hp with ⟨p4, rfl, q, hD⟩ | ⟨p4, rfl, eN⟩
          · exact mp_iret hx hb hr hlocks I (Nat.le_of_ble_eq_true rfl) (Nat.le_of_ble_eq_true rfl) dD_view_61 (Or.inl ⟨by rw [hxi, ← hwd]; omega, rfl, i, yn, zn, q, hzi, hz_yn, hz_zn, by rw [← hwd]; exact hD⟩)
          · exact mp_iret hx hb hr hlocks I (Nat.le_of_ble_eq_true rfl) (Nat.le_of_ble_eq_true rfl) dD_view_61 (Or.inr ⟨by rw [hxi, ← hwd]; omega, rfl, eN⟩)
        · refine zz_if_ne (tgt := 45) hx hb (nI_toInt (by decide)) dD_view_40 (by decide) (fun c_10 => absurd c_10 (by decide)) (fun _ => ?_)
          refine lv_iconst (v := (-1)) hx hb dD_view_43 (by decide) ?_
          exact mp_iret hx hb hr hlocks I (Nat.le_of_ble_eq_true rfl) (Nat.le_of_ble_eq_true rfl) dD_view_44 (Or.inr ⟨by rw [hxi, ← hwd]; omega, rfl, rfl⟩)
  · dsimp only [va_rf]
    refine lv_astoreN (lv' := [(5, .null), (0, .ref d), (1, .int x), (2, .int y), (3, .int z), (4, .int (nI b))]) hx hb dD_view_5 hl (by decide) rfl (fun ls hl => ?_)
    refine lv_iload_n hx hb dD_view_7 rfl (lv_at hl 4 rfl) ?_
    refine mp_calli (va_runS (As := [.int z]) (rest := []) ⟨hx, hb, hml, hown, hts⟩ (kD_widthOfView l D k M z _) (cwS 1 hts (bw_S bw_152 bw_153 bw_1 bw_154) rfl rfl rfl (by decide +kernel) ⟨Nat.le_of_ble_eq_true rfl, Nat.le_of_ble_eq_true rfl⟩) (mp_preS I _) rfl rfl hl.1 rfl (lv_room (Nat.le_of_ble_eq_true rfl)) dD_view_8 ⟨Nat.le_of_ble_eq_true rfl, Nat.le_of_ble_eq_true rfl⟩) I (fun r8 N1 H locs hp I => ?_)
    obtain ⟨e_11, hp⟩ := hp
    rw [e_11] at I
    obtain ⟨wd, hwd⟩ : ∃ wd, wd = wv z.toInt := ⟨_, rfl⟩
    rw [← hwd] at hp
    subst hp
    have hwd8 : wd ≤ 8 := by rw [hwd]; exact wv_le _
    refine lv_istore (lv' := [(6, .int (nI wd)), (5, .null), (0, .ref d), (1, .int x), (2, .int y), (3, .int z), (4, .int (nI b))]) hx hb dD_view_11 hl (by decide) rfl (fun ls hl => ?_)
    refine lv_aloadN hx hb dD_view_13 (lv_at hl 1 rfl) ?_
    refine lv_ifnullN (tgt := 43) hx hb dD_view_15 (by decide) ?_
    refine lv_iconst (v := (-1)) hx hb dD_view_43 (by decide) ?_
    exact mp_iret hx hb hr hlocks I (Nat.le_of_ble_eq_true rfl) (Nat.le_of_ble_eq_true rfl) dD_view_44 (Or.inr ⟨by omega, rfl, rfl⟩)
abbrev rm_D_copy : Room := { frames := 1, cells := 0, slots := 0, locals := 60 }
set_option maxHeartbeats 4000000 in
set_option maxRecDepth 100000 in
theorem kD_copy (l : Launch) (D : va_G) (k : Nat → ClassId) (M : mp_M) {d av ak at_ aw as_ an : Nat} {qt qs qn : Nat → Option Nat} {sa ra : Nat → Nat} {ec tc wc sc nc : Nat} {va : Nat → Int64} {kd wt tk tf tz sk sf sw sl nn : Nat → Nat} {nv : Nat → Nat → Int64} (hD : DkX k M d av ak at_ aw as_ an qt qs qn sa ra ec tc wc sc nc va kd wt tk tf tz sk sf sw sl nn nv) (hO : OkB ec tc wc sc nc tk tf tz sk sf sw sl nn) (x a y b n : Int32) : mp_Met l yD_copy (Cond.code yD_copy cD_copy 8 (some .boolean) :: bw) rm_D_copy D cls5 (tys6 k) [.ref d, .int x, .int a, .int y, .int b, .int n] M (va_Qi (fun r M1 => ((0 ≤ x.toInt ∧ x.toInt < tc ∧ 0 ≤ y.toInt ∧ y.toInt < tc ∧ tk x.toInt.toNat ≠ 0 ∧ tk x.toInt.toNat = tk y.toInt.toNat ∧ 0 ≤ n.toInt ∧ 0 ≤ a.toInt ∧ 0 ≤ b.toInt ∧ a.toInt + n.toInt ≤ tz x.toInt.toNat ∧ b.toInt + n.toInt ≤ tz y.toInt.toNat) ∧ r = nI 1 ∧ ∃ i j a_ b_ n_ : Nat, x.toInt = i ∧ y.toInt = j ∧ a.toInt = a_ ∧ b.toInt = b_ ∧ n.toInt = n_ ∧ DkX k M1 d av ak at_ aw as_ an qt qs qn sa ra ec tc wc sc nc (va_cpy va va (tf i + a_) (tf j + b_) n_) kd wt tk tf tz sk sf sw sl nn nv) ∨ (¬ (0 ≤ x.toInt ∧ x.toInt < tc ∧ 0 ≤ y.toInt ∧ y.toInt < tc ∧ tk x.toInt.toNat ≠ 0 ∧ tk x.toInt.toNat = tk y.toInt.toNat ∧ 0 ≤ n.toInt ∧ 0 ≤ a.toInt ∧ 0 ≤ b.toInt ∧ a.toInt + n.toInt ≤ tz x.toInt.toNat ∧ b.toInt + n.toInt ≤ tz y.toInt.toNat) ∧ r = nI 0 ∧ M1 = M))) 0 0 := by
  refine mp_Met.of (by decide) (Nat.le_of_ble_eq_true rfl) ?_
  intro p e s m below meth c hx hb hr hml hown hts hlocks hin ls hl I
  have hl : lv_has ls 8 [(0, .ref d), (1, .int x), (2, .int a), (3, .int y), (4, .int b), (5, .int n)] := hl
  obtain ⟨h0, hav, hak, hat, haw, has, han, hth, hsp, hsn, hij⟩ := id hD
  obtain ⟨b1, b2, b3, b4, b5, bT, bS, bN⟩ := id hO
  refine lv_aload_n hx hb dD_copy_0 rfl (lv_at hl 0 rfl) ?_
  refine lv_iload_n hx hb dD_copy_1 rfl (lv_at hl 1 rfl) ?_
  refine mp_callq (va_runV (As := [.int x]) (rest := []) ⟨hx, hb, hml, hown, hts⟩ (kD_findThing l D k M hD hO x _) (cwV 1 hts (bw_V bw_111 bw_113 bs_2 bw_1 bw_114) rfl rfl rfl (by decide +kernel) ⟨Nat.le_of_ble_eq_true rfl, Nat.le_of_ble_eq_true rfl⟩) (mp_preV I h0 rfl _) rfl rfl hl.1 rfl (lv_room (Nat.le_of_ble_eq_true rfl)) dD_copy_2 ⟨Nat.le_of_ble_eq_true rfl, Nat.le_of_ble_eq_true rfl⟩) I (fun r_1 N1 H locs hp I => ?_)
  obtain ⟨e_2, hp⟩ := hp
  rw [e_2] at I
  rcases hp with ⟨i, a1, hii, hzi, rfl, hMa1⟩ | ⟨pni, rfl⟩
  · dsimp only [va_rf]
    have hTi := bT i hii
    have hxi : x.toInt.toNat = i := by omega
    refine lv_astore (lv' := [(6, .ref a1), (0, .ref d), (1, .int x), (2, .int a), (3, .int y), (4, .int b), (5, .int n)]) hx hb dD_copy_5 hl (by decide) rfl (fun ls hl => ?_)
    refine lv_aload_n hx hb dD_copy_7 rfl (lv_at hl 1 rfl) ?_
    refine lv_iload_n hx hb dD_copy_8 rfl (lv_at hl 4 rfl) ?_
    refine mp_callq (va_runV (As := [.int y]) (rest := []) ⟨hx, hb, hml, hown, hts⟩ (kD_findThing l D k M hD hO y _) (cwV 1 hts (bw_V bw_111 bw_113 bs_2 bw_1 bw_114) rfl rfl rfl (by decide +kernel) ⟨Nat.le_of_ble_eq_true rfl, Nat.le_of_ble_eq_true rfl⟩) (mp_preV I h0 rfl _) rfl rfl hl.1 rfl (lv_room (Nat.le_of_ble_eq_true rfl)) dD_copy_9 ⟨Nat.le_of_ble_eq_true rfl, Nat.le_of_ble_eq_true rfl⟩) I (fun r_3 N1 H locs hp I => ?_)
    obtain ⟨e_4, hp⟩ := hp
    rw [e_4] at I
    rcases hp with ⟨j, a2, hij, hzj, rfl, hMa2⟩ | ⟨pnj, rfl⟩
    · dsimp only [va_rf]
      have hTj := bT j hij
      have hxj : y.toInt.toNat = j := by omega
      refine lv_astore (lv' := [(7, .ref a2), (6, .ref a1), (0, .ref d), (1, .int x), (2, .int a), (3, .int y), (4, .int b), (5, .int n)]) hx hb dD_copy_12 hl (by decide) rfl (fun ls hl => ?_)
      refine lv_aload hx hb dD_copy_14 (lv_at hl 1 rfl) ?_
      refine lv_ifnull hx hb dD_copy_16 ?_
      refine lv_aload hx hb dD_copy_19 (lv_at hl 0 rfl) ?_
      refine lv_ifnonnull (tgt := 26) hx hb dD_copy_21 (by decide) ?_
      refine lv_aload hx hb dD_copy_26 (lv_at hl 1 rfl) ?_
      refine mp_get (v := .int (nI (tk i))) hx hb hts inT hown I hMa1 rfl 0 (by decide) (hts _ bw_84) (fun _ h9 => h9) rfl dD_copy_28 ?_
      refine zz_if_eq (tgt := 47) hx hb (nI_toInt (by first | assumption | omega)) dD_copy_31 (by decide) (fun c_5 => ?_) (fun c_5 => ?_)
      · refine lv_iconst (v := nI 0) hx hb dD_copy_47 (by decide) ?_
        exact mp_zret hx hb hr hlocks I rfl (Nat.le_of_ble_eq_true rfl) (Nat.le_of_ble_eq_true rfl) dD_copy_48 (Or.inr ⟨by rw [hxi, hxj]; omega, rfl, rfl⟩)
      · refine lv_aload hx hb dD_copy_34 (lv_at hl 1 rfl) ?_
        refine mp_get (v := .int (nI (tk i))) hx hb hts inT hown I hMa1 rfl 0 (by decide) (hts _ bw_84) (fun _ h9 => h9) rfl dD_copy_36 ?_
        refine lv_aload hx hb dD_copy_39 (lv_at hl 0 rfl) ?_
        refine mp_get (v := .int (nI (tk j))) hx hb hts inT hown I hMa2 rfl 0 (by decide) (hts _ bw_84) (fun _ h9 => h9) rfl dD_copy_41 ?_
        refine zz_icmp_eq (tgt := 49) hx hb (nI_toInt (by first | assumption | omega)) (nI_toInt (by first | assumption | omega)) dD_copy_44 (by decide) (fun c_6 => ?_) (fun c_6 => ?_)
        · refine lv_aload hx hb dD_copy_49 (lv_at hl 1 rfl) ?_
          refine lv_iload_n hx hb dD_copy_51 rfl (lv_at hl 4 rfl) ?_
          refine lv_iload hx hb dD_copy_52 (lv_at hl 7 rfl) ?_
          refine mp_calli (va_runV (As := [.int a, .int n]) (rest := []) ⟨hx, hb, hml, hown, hts⟩ (kT_holds l D k M a1 (tk i) (tf i) (tz i) a n hMa1 (by omega) _) (cwV 2 hts (bw_V bw_115 bw_116 bw_117 bw_3 bw_118) rfl rfl rfl (by decide +kernel) ⟨Nat.le_of_ble_eq_true rfl, Nat.le_of_ble_eq_true rfl⟩) (mp_preV I hMa1 rfl _) rfl rfl hl.1 rfl (lv_room (Nat.le_of_ble_eq_true rfl)) dD_copy_54 ⟨Nat.le_of_ble_eq_true rfl, Nat.le_of_ble_eq_true rfl⟩) I (fun r_7 N_8 H locs hp I => ?_)
          obtain ⟨e_9, hp⟩ := hp
          rw [e_9] at I
          rcases hp with ⟨p3, rfl⟩ | ⟨p3, rfl⟩
          · refine zz_if_eq (tgt := 72) hx hb (nI_toInt (by decide)) dD_copy_57 (by decide) (fun c_10 => absurd c_10 (by decide)) (fun _ => ?_)
            refine lv_aload hx hb dD_copy_60 (lv_at hl 0 rfl) ?_
            refine lv_iload hx hb dD_copy_62 (lv_at hl 6 rfl) ?_
            refine lv_iload hx hb dD_copy_64 (lv_at hl 7 rfl) ?_
            refine mp_calli (va_runV (As := [.int b, .int n]) (rest := []) ⟨hx, hb, hml, hown, hts⟩ (kT_holds l D k M a2 (tk j) (tf j) (tz j) b n hMa2 (by omega) _) (cwV 2 hts (bw_V bw_115 bw_116 bw_117 bw_3 bw_118) rfl rfl rfl (by decide +kernel) ⟨Nat.le_of_ble_eq_true rfl, Nat.le_of_ble_eq_true rfl⟩) (mp_preV I hMa2 rfl _) rfl rfl hl.1 rfl (lv_room (Nat.le_of_ble_eq_true rfl)) dD_copy_66 ⟨Nat.le_of_ble_eq_true rfl, Nat.le_of_ble_eq_true rfl⟩) I (fun r_11 N_12 H locs hp I => ?_)
            obtain ⟨e_13, hp⟩ := hp
            rw [e_13] at I
            rcases hp with ⟨p4, rfl⟩ | ⟨p4, rfl⟩
            · refine zz_if_ne (tgt := 74) hx hb (nI_toInt (by decide)) dD_copy_69 (by decide) (fun _ => ?_) (fun c_14 => absurd c_14 (by decide))
              obtain ⟨an_, hn_an_, rfl, hz_an_⟩ := i32_nat (x := a) (by omega)
              obtain ⟨bn_, hn_bn_, rfl, hz_bn_⟩ := i32_nat (x := b) (by omega)
              obtain ⟨n_, hn_n_, rfl, hz_n_⟩ := i32_nat (x := n) (by omega)
              refine lv_aload_n hx hb dD_copy_74 rfl (lv_at hl 2 rfl) ?_
              refine mp_get (v := .ref av) hx hb hts inD hown I h0 rfl 0 (by decide) (hts _ bw_26) (fun _ h9 => h9) rfl dD_copy_75 ?_
              refine lv_aload hx hb dD_copy_78 (lv_at hl 1 rfl) ?_
              refine mp_get (v := .int (nI (tf i))) hx hb hts inT hown I hMa1 rfl 1 (by decide) (hts _ bw_86) (fun _ h9 => h9) rfl dD_copy_80 ?_
              refine lv_iload_n hx hb dD_copy_83 rfl (lv_at hl 4 rfl) ?_
              refine zz_iadd hx hb dD_copy_84 ?_
              refine lv_aload_n hx hb dD_copy_85 rfl (lv_at hl 2 rfl) ?_
              refine mp_get (v := .ref av) hx hb hts inD hown I h0 rfl 0 (by decide) (hts _ bw_26) (fun _ h9 => h9) rfl dD_copy_86 ?_
              refine lv_aload hx hb dD_copy_89 (lv_at hl 0 rfl) ?_
              refine mp_get (v := .int (nI (tf j))) hx hb hts inT hown I hMa2 rfl 1 (by decide) (hts _ bw_86) (fun _ h9 => h9) rfl dD_copy_91 ?_
              refine lv_iload hx hb dD_copy_94 (lv_at hl 6 rfl) ?_
              refine zz_iadd hx hb dD_copy_96 ?_
              refine lv_iload hx hb dD_copy_97 (lv_at hl 7 rfl) ?_
              refine mp_copyl hx hb (by rw [hml]; exact hl.1.symm) hown (hts _ bw_104) (hts _ bw_106) (hts _ bw_105) (hts _ bw_4) I 1 hav hav rfl (tf i + an_) (tf j + bn_) n_ rfl rfl rfl (by omega) (by omega) (by decide) (by decide) (Nat.le_of_ble_eq_true rfl) (Nat.le_of_ble_eq_true rfl) dD_copy_99 (fun H locs I => ?_)
              have I : mp_I D cls5 (tys6 k) s _ s.heap H locs (mp_up M av (.inl (k 1, 4000, .inr (.inl (va_cpy va va (tf i + an_) (tf j + bn_) n_))))) := I
              have hav_n : mp_up M av (.inl (k 1, 4000, .inr (.inl (va_cpy va va (tf i + an_) (tf j + bn_) n_)))) av = some (.inl (k 1, 4000, .inr (.inl (va_cpy va va (tf i + an_) (tf j + bn_) n_)))) := mp_up_s _ _ _
              have h0_n : mp_up M av (.inl (k 1, 4000, .inr (.inl (va_cpy va va (tf i + an_) (tf j + bn_) n_)))) d = some (.inr (0, [.ref av, .ref ak, .int (nI ec), .ref at_, .int (nI tc), .ref aw, .int (nI wc), .ref as_, .int (nI sc), .ref an, .int (nI nc)])) := (mp_up_n (mp_ne h0 hav (by simp))).trans h0
              have hak_n : mp_up M av (.inl (k 1, 4000, .inr (.inl (va_cpy va va (tf i + an_) (tf j + bn_) n_)))) ak = some (.inl (k 0, 4000, .inl (fun i_ => nI (kd i_)))) := (mp_up_n (mp_ne hak hav (by simp))).trans hak
              have hat_n : mp_up M av (.inl (k 1, 4000, .inr (.inl (va_cpy va va (tf i + an_) (tf j + bn_) n_)))) at_ = some (.inl (k 2, 300, .inr (.inr (.inr (.inr qt))))) := (mp_up_n (mp_ne hat hav (by simp))).trans hat
              have haw_n : mp_up M av (.inl (k 1, 4000, .inr (.inl (va_cpy va va (tf i + an_) (tf j + bn_) n_)))) aw = some (.inl (k 0, 12, .inl (fun i_ => nI (wt i_)))) := (mp_up_n (mp_ne haw hav (by simp))).trans haw
              have has_n : mp_up M av (.inl (k 1, 4000, .inr (.inl (va_cpy va va (tf i + an_) (tf j + bn_) n_)))) as_ = some (.inl (k 3, 100, .inr (.inr (.inr (.inr qs))))) := (mp_up_n (mp_ne has hav (by simp))).trans has
              have han_n : mp_up M av (.inl (k 1, 4000, .inr (.inl (va_cpy va va (tf i + an_) (tf j + bn_) n_)))) an = some (.inl (k 4, 20, .inr (.inr (.inr (.inr qn))))) := (mp_up_n (mp_ne han hav (by simp))).trans han
              have hMa1_n : mp_up M av (.inl (k 1, 4000, .inr (.inl (va_cpy va va (tf i + an_) (tf j + bn_) n_)))) a1 = some (.inr (1, [.int (nI (tk i)), .int (nI (tf i)), .int (nI (tz i))])) := (mp_up_n (mp_ne hMa1 hav (by simp))).trans hMa1
              have hMa2_n : mp_up M av (.inl (k 1, 4000, .inr (.inl (va_cpy va va (tf i + an_) (tf j + bn_) n_)))) a2 = some (.inr (1, [.int (nI (tk j)), .int (nI (tf j)), .int (nI (tz j))])) := (mp_up_n (mp_ne hMa2 hav (by simp))).trans hMa2
              generalize eM_16 : mp_up M av (.inl (k 1, 4000, .inr (.inl (va_cpy va va (tf i + an_) (tf j + bn_) n_)))) = M_15 at I h0_n hav_n hak_n hat_n haw_n has_n han_n hMa1_n hMa2_n
              have h0__M_15 := h0_n
              have hav__M_15 := hav_n
              have hak__M_15 := hak_n
              have hat__M_15 := hat_n
              have haw__M_15 := haw_n
              have has__M_15 := has_n
              have han__M_15 := han_n
              have hMa1__M_15 := hMa1_n
              have hMa2__M_15 := hMa2_n
              clear h0_n hav_n hak_n hat_n haw_n has_n han_n hMa1_n hMa2_n
              have hD := hD.setV (va_cpy va va (tf i + an_) (tf j + bn_) n_)
              rw [eM_16] at hD
              refine lv_iconst (v := nI 1) hx hb dD_copy_102 (by decide) ?_
              exact mp_zret hx hb hr hlocks I rfl (Nat.le_of_ble_eq_true rfl) (Nat.le_of_ble_eq_true rfl) dD_copy_103 (Or.inl ⟨by rw [hxi, hxj]; omega, rfl, i, j, an_, bn_, n_, hzi, hzj, hz_an_, hz_bn_, hz_n_, hD⟩)
            · refine zz_if_ne (tgt := 74) hx hb (nI_toInt (by decide)) dD_copy_69 (by decide) (fun c_17 => absurd c_17 (by decide)) (fun _ => ?_)
              refine lv_iconst (v := nI 0) hx hb dD_copy_72 (by decide) ?_
              exact mp_zret hx hb hr hlocks I rfl (Nat.le_of_ble_eq_true rfl) (Nat.le_of_ble_eq_true rfl) dD_copy_73 (Or.inr ⟨by rw [hxi, hxj]; omega, rfl, rfl⟩)
          · refine zz_if_eq (tgt := 72) hx hb (nI_toInt (by decide)) dD_copy_57 (by decide) (fun _ => ?_) (fun c_18 => absurd c_18 (by decide))
            refine lv_iconst (v := nI 0) hx hb dD_copy_72 (by decide) ?_
            exact mp_zret hx hb hr hlocks I rfl (Nat.le_of_ble_eq_true rfl) (Nat.le_of_ble_eq_true rfl) dD_copy_73 (Or.inr ⟨by rw [hxi, hxj]; omega, rfl, rfl⟩)
        · refine lv_iconst (v := nI 0) hx hb dD_copy_47 (by decide) ?_
          exact mp_zret hx hb hr hlocks I rfl (Nat.le_of_ble_eq_true rfl) (Nat.le_of_ble_eq_true rfl) dD_copy_48 (Or.inr ⟨by rw [hxi, hxj]; omega, rfl, rfl⟩)
    · dsimp only [va_rf]
      refine lv_astoreN (lv' := [(7, .null), (6, .ref a1), (0, .ref d), (1, .int x), (2, .int a), (3, .int y), (4, .int b), (5, .int n)]) hx hb dD_copy_12 hl (by decide) rfl (fun ls hl => ?_)
      refine lv_aload hx hb dD_copy_14 (lv_at hl 1 rfl) ?_
      refine lv_ifnull hx hb dD_copy_16 ?_
      refine lv_aloadN hx hb dD_copy_19 (lv_at hl 0 rfl) ?_
      refine lv_ifnonnullN hx hb dD_copy_21 ?_
      refine lv_iconst (v := nI 0) hx hb dD_copy_24 (by decide) ?_
      exact mp_zret hx hb hr hlocks I rfl (Nat.le_of_ble_eq_true rfl) (Nat.le_of_ble_eq_true rfl) dD_copy_25 (Or.inr ⟨by rw [hxi]; omega, rfl, rfl⟩)
  · dsimp only [va_rf]
    refine lv_astoreN (lv' := [(6, .null), (0, .ref d), (1, .int x), (2, .int a), (3, .int y), (4, .int b), (5, .int n)]) hx hb dD_copy_5 hl (by decide) rfl (fun ls hl => ?_)
    refine lv_aload_n hx hb dD_copy_7 rfl (lv_at hl 1 rfl) ?_
    refine lv_iload_n hx hb dD_copy_8 rfl (lv_at hl 4 rfl) ?_
    refine mp_callq (va_runV (As := [.int y]) (rest := []) ⟨hx, hb, hml, hown, hts⟩ (kD_findThing l D k M hD hO y _) (cwV 1 hts (bw_V bw_111 bw_113 bs_2 bw_1 bw_114) rfl rfl rfl (by decide +kernel) ⟨Nat.le_of_ble_eq_true rfl, Nat.le_of_ble_eq_true rfl⟩) (mp_preV I h0 rfl _) rfl rfl hl.1 rfl (lv_room (Nat.le_of_ble_eq_true rfl)) dD_copy_9 ⟨Nat.le_of_ble_eq_true rfl, Nat.le_of_ble_eq_true rfl⟩) I (fun r_19 N1 H locs hp I => ?_)
    obtain ⟨e_20, hp⟩ := hp
    rw [e_20] at I
    rcases hp with ⟨j, a2, hij, hzj, rfl, hMa2⟩ | ⟨pnj, rfl⟩
    · dsimp only [va_rf]
      have hTj := bT j hij
      have hxj : y.toInt.toNat = j := by omega
      refine lv_astore (lv' := [(7, .ref a2), (6, .null), (0, .ref d), (1, .int x), (2, .int a), (3, .int y), (4, .int b), (5, .int n)]) hx hb dD_copy_12 hl (by decide) rfl (fun ls hl => ?_)
      refine lv_aloadN hx hb dD_copy_14 (lv_at hl 1 rfl) ?_
      refine lv_ifnullN (tgt := 24) hx hb dD_copy_16 (by decide) ?_
      refine lv_iconst (v := nI 0) hx hb dD_copy_24 (by decide) ?_
      exact mp_zret hx hb hr hlocks I rfl (Nat.le_of_ble_eq_true rfl) (Nat.le_of_ble_eq_true rfl) dD_copy_25 (Or.inr ⟨by rw [hxj]; omega, rfl, rfl⟩)
    · dsimp only [va_rf]
      refine lv_astoreN (lv' := [(7, .null), (6, .null), (0, .ref d), (1, .int x), (2, .int a), (3, .int y), (4, .int b), (5, .int n)]) hx hb dD_copy_12 hl (by decide) rfl (fun ls hl => ?_)
      refine lv_aloadN hx hb dD_copy_14 (lv_at hl 1 rfl) ?_
      refine lv_ifnullN (tgt := 24) hx hb dD_copy_16 (by decide) ?_
      refine lv_iconst (v := nI 0) hx hb dD_copy_24 (by decide) ?_
      exact mp_zret hx hb hr hlocks I rfl (Nat.le_of_ble_eq_true rfl) (Nat.le_of_ble_eq_true rfl) dD_copy_25 (Or.inr ⟨by omega, rfl, rfl⟩)
abbrev rm_N_init : Room := { frames := 1, cells := 1, slots := 4000, locals := 20 }
set_option maxHeartbeats 4000000 in
set_option maxRecDepth 100000 in
theorem kN_init (l : Launch) (D : va_G) (k : Nat → ClassId) (M : mp_M) (h0 : Nat) (hN : M h0 = some (.inr (3, [.null, .int 0]))) : mp_Met l yN_init (Cond.code yN_init cN_init 1 none :: bw) rm_N_init D cls5 (tys6 k) [.ref h0] M (va_Qv (fun M1 => ∃ q : Nat, M q = none ∧ M1 = mp_up (mp_up M q (.inl (k 1, 4000, .inr (.inl (fun _ => 0))))) h0 (.inr (3, [.ref q, .int (nI 0)])))) 1 4000 := by
  refine mp_Met.of (by decide) (Nat.le_of_ble_eq_true rfl) ?_
  intro p e s m below meth c hx hb hr hml hown hts hlocks hin ls hl I
  have hl : lv_has ls 1 [(0, .ref h0)] := hl
  refine lv_aload_n hx hb dN_init_0 rfl (lv_at hl 0 rfl) ?_
  refine W.objInit hx hb hown (hts _ bw_183) (hts _ bw_18) (hts _ bw_19) rfl (by rw [hml]; exact hl.1) rfl dN_init_1 (Nat.le_of_ble_eq_true rfl) (Nat.le_of_ble_eq_true rfl) ?_
  refine W.eq (g2 := F0 m 4 ls []) rfl ?_
  refine lv_aload_n hx hb dN_init_4 rfl (lv_at hl 0 rfl) ?_
  refine lv_sipush (v := nI 4000) hx hb dN_init_5 (by decide) ?_
  refine mp_newa (atype := .long) (ty := .long) (a0 := (4000, .inr (.inl (fun _ => 0)))) hx hb (hts _ bw_60) rfl I 1 rfl (fun _ h => h) (fun _ => rfl) (by decide) (nI_clamp (by decide)) (by decide) (Nat.le_of_ble_eq_true rfl) (Nat.le_of_ble_eq_true rfl) dN_init_8 (fun q H hq_1 I => ?_)
  have hqq_n : mp_up M q (.inl (k 1, 4000, .inr (.inl (fun _ => 0)))) q = some (.inl (k 1, 4000, .inr (.inl (fun _ => 0)))) := mp_up_s _ _ _
  have hN_n : mp_up M q (.inl (k 1, 4000, .inr (.inl (fun _ => 0)))) h0 = some (.inr (3, [.null, .int 0])) := (mp_up_n (fun z => by rw [z, hq_1] at hN; cases hN)).trans hN
  generalize eM_3 : mp_up M q (.inl (k 1, 4000, .inr (.inl (fun _ => 0)))) = M_2 at I hqq_n hN_n
  have hN__M_2 := hN_n
  have hqq__M_2 := hqq_n
  clear hqq_n hN_n
  refine mp_putF (v := .ref q) (ty := .array .long) hx hb hts inN tyN okN nmN hown I hN__M_2 rfl 0 (by decide) (hts _ bw_184) (fun _ h9 => h9) rfl hin rfl (by decide +kernel) rfl rfl (Nat.le_of_ble_eq_true rfl) dN_init_10 (fun H locs I => ?_)
  have I : mp_I D cls5 (tys6 k) s _ s.heap H locs (mp_up M_2 h0 (.inr (3, [.ref q, .int 0]))) := I
  have hN__M_2_n : mp_up M_2 h0 (.inr (3, [.ref q, .int 0])) h0 = some (.inr (3, [.ref q, .int 0])) := mp_up_s _ _ _
  have hqq__M_2_n : mp_up M_2 h0 (.inr (3, [.ref q, .int 0])) q = some (.inl (k 1, 4000, .inr (.inl (fun _ => 0)))) := (mp_up_n (mp_ne hqq__M_2 hN__M_2 (by simp))).trans hqq__M_2
  generalize eM_5 : mp_up M_2 h0 (.inr (3, [.ref q, .int 0])) = M_4 at I hN__M_2_n hqq__M_2_n
  have hN__M_4 := hN__M_2_n
  have hqq__M_4 := hqq__M_2_n
  clear hN__M_2_n hqq__M_2_n
  refine lv_aload_n hx hb dN_init_13 rfl (lv_at hl 0 rfl) ?_
  refine lv_iconst (v := nI 0) hx hb dN_init_14 (by decide) ?_
  refine mp_put (v := .int (nI 0)) (ty := .int) hx hb hts inN tyN okN nmN hown I hN__M_4 rfl 1 (by decide) (hts _ bw_185) (fun _ h9 => h9) rfl (by decide +kernel) rfl rfl (Nat.le_of_ble_eq_true rfl) dN_init_15 (fun H locs I => ?_)
  have I : mp_I D cls5 (tys6 k) s _ s.heap H locs (mp_up M_4 h0 (.inr (3, [.ref q, .int (nI 0)]))) := I
  have hN__M_4_n : mp_up M_4 h0 (.inr (3, [.ref q, .int (nI 0)])) h0 = some (.inr (3, [.ref q, .int (nI 0)])) := mp_up_s _ _ _
  have hqq__M_4_n : mp_up M_4 h0 (.inr (3, [.ref q, .int (nI 0)])) q = some (.inl (k 1, 4000, .inr (.inl (fun _ => 0)))) := (mp_up_n (mp_ne hqq__M_4 hN__M_4 (by simp))).trans hqq__M_4
  generalize eM_7 : mp_up M_4 h0 (.inr (3, [.ref q, .int (nI 0)])) = M_6 at I hN__M_4_n hqq__M_4_n
  have hN__M_6 := hN__M_4_n
  have hqq__M_6 := hqq__M_4_n
  clear hN__M_4_n hqq__M_4_n
  exact mp_vret hx hb hr hlocks I (Nat.le_of_ble_eq_true rfl) (Nat.le_of_ble_eq_true rfl) dN_init_18 ⟨q, hq_1, by rw [← eM_7, ← eM_5, ← eM_3, mp_upup]⟩
abbrev rm_N_remember : Room := { frames := 1, cells := 0, slots := 0, locals := 60 }
set_option maxHeartbeats 4000000 in
set_option maxRecDepth 100000 in
theorem kN_remember (l : Launch) (D : va_G) (k : Nat → ClassId) (M : mp_M) (h0 av r n : Nat) (c0 : Int32) (va g : Nat → Int64) (hN : M h0 = some (.inr (3, [.ref r, .int c0]))) (hav : M av = some (.inl (k 1, 4000, .inr (.inl va)))) (hrM : M r = some (.inl (k 1, 4000, .inr (.inl g)))) (hne : av ≠ r) (hn : n ≤ 4000) : mp_Met l yN_remember (Cond.code yN_remember cN_remember 3 none :: bw) rm_N_remember D cls5 (tys6 k) [.ref h0, .ref av, .int (nI n)] M (va_Qv (fun M1 => M1 = mp_up (mp_up M h0 (.inr (3, [.ref r, .int (nI n)]))) r (.inl (k 1, 4000, .inr (.inl (va_cpy va g 0 0 n)))))) 0 0 := by
  refine mp_Met.of (by decide) (Nat.le_of_ble_eq_true rfl) ?_
  intro p e s m below meth c hx hb hr hml hown hts hlocks hin ls hl I
  have hl : lv_has ls 3 [(0, .ref h0), (1, .ref av), (2, .int (nI n))] := hl
  refine lv_aload_n hx hb dN_remember_0 rfl (lv_at hl 0 rfl) ?_
  refine lv_iload_n hx hb dN_remember_1 rfl (lv_at hl 2 rfl) ?_
  refine mp_put (v := .int (nI n)) (ty := .int) hx hb hts inN tyN okN nmN hown I hN rfl 1 (by decide) (hts _ bw_185) (fun _ h9 => h9) rfl (by decide +kernel) rfl rfl (Nat.le_of_ble_eq_true rfl) dN_remember_2 (fun H locs I => ?_)
  have I : mp_I D cls5 (tys6 k) s _ s.heap H locs (mp_up M h0 (.inr (3, [.ref r, .int (nI n)]))) := I
  have hN_n : mp_up M h0 (.inr (3, [.ref r, .int (nI n)])) h0 = some (.inr (3, [.ref r, .int (nI n)])) := mp_up_s _ _ _
  have hav_n : mp_up M h0 (.inr (3, [.ref r, .int (nI n)])) av = some (.inl (k 1, 4000, .inr (.inl va))) := (mp_up_n (mp_ne hav hN (by simp))).trans hav
  have hrM_n : mp_up M h0 (.inr (3, [.ref r, .int (nI n)])) r = some (.inl (k 1, 4000, .inr (.inl g))) := (mp_up_n (mp_ne hrM hN (by simp))).trans hrM
  generalize eM_2 : mp_up M h0 (.inr (3, [.ref r, .int (nI n)])) = M_1 at I hN_n hav_n hrM_n
  have hN__M_1 := hN_n
  have hav__M_1 := hav_n
  have hrM__M_1 := hrM_n
  clear hN_n hav_n hrM_n
  refine lv_aload_n hx hb dN_remember_5 rfl (lv_at hl 1 rfl) ?_
  refine lv_iconst (v := nI 0) hx hb dN_remember_6 (by decide) ?_
  refine lv_aload_n hx hb dN_remember_7 rfl (lv_at hl 0 rfl) ?_
  refine mp_get (v := .ref r) hx hb hts inN hown I hN__M_1 rfl 0 (by decide) (hts _ bw_184) (fun _ h9 => h9) rfl dN_remember_8 ?_
  refine lv_iconst (v := nI 0) hx hb dN_remember_11 (by decide) ?_
  refine lv_aload_n hx hb dN_remember_12 rfl (lv_at hl 0 rfl) ?_
  refine mp_get (v := .int (nI n)) hx hb hts inN hown I hN__M_1 rfl 1 (by decide) (hts _ bw_185) (fun _ h9 => h9) rfl dN_remember_13 ?_
  refine mp_copyl hx hb (by rw [hml]; exact hl.1.symm) hown (hts _ bw_195) (hts _ bw_106) (hts _ bw_105) (hts _ bw_4) I 1 hav__M_1 hrM__M_1 rfl 0 0 n rfl rfl rfl (by omega) (by omega) (by decide) (by decide) (Nat.le_of_ble_eq_true rfl) (Nat.le_of_ble_eq_true rfl) dN_remember_16 (fun H locs I => ?_)
  have I : mp_I D cls5 (tys6 k) s _ s.heap H locs (mp_up M_1 r (.inl (k 1, 4000, .inr (.inl (va_cpy va g 0 0 n))))) := I
  have hrM__M_1_n : mp_up M_1 r (.inl (k 1, 4000, .inr (.inl (va_cpy va g 0 0 n)))) r = some (.inl (k 1, 4000, .inr (.inl (va_cpy va g 0 0 n)))) := mp_up_s _ _ _
  have hN__M_1_n : mp_up M_1 r (.inl (k 1, 4000, .inr (.inl (va_cpy va g 0 0 n)))) h0 = some (.inr (3, [.ref r, .int (nI n)])) := (mp_up_n (mp_ne hN__M_1 hrM__M_1 (by simp))).trans hN__M_1
  have hav__M_1_n : mp_up M_1 r (.inl (k 1, 4000, .inr (.inl (va_cpy va g 0 0 n)))) av = some (.inl (k 1, 4000, .inr (.inl va))) := (mp_up_n hne).trans hav__M_1
  generalize eM_4 : mp_up M_1 r (.inl (k 1, 4000, .inr (.inl (va_cpy va g 0 0 n)))) = M_3 at I hN__M_1_n hav__M_1_n hrM__M_1_n
  have hN__M_3 := hN__M_1_n
  have hav__M_3 := hav__M_1_n
  have hrM__M_3 := hrM__M_1_n
  clear hN__M_1_n hav__M_1_n hrM__M_1_n
  exact mp_vret hx hb hr hlocks I (Nat.le_of_ble_eq_true rfl) (Nat.le_of_ble_eq_true rfl) dN_remember_19 (by rw [← eM_4, ← eM_2])
abbrev rm_N_restore : Room := { frames := 1, cells := 0, slots := 0, locals := 60 }
set_option maxHeartbeats 4000000 in
set_option maxRecDepth 100000 in
theorem kN_restore (l : Launch) (D : va_G) (k : Nat → ClassId) (M : mp_M) (h0 av r cn : Nat) (va g : Nat → Int64) (hN : M h0 = some (.inr (3, [.ref r, .int (nI cn)]))) (hav : M av = some (.inl (k 1, 4000, .inr (.inl va)))) (hrM : M r = some (.inl (k 1, 4000, .inr (.inl g)))) (hne : av ≠ r) (hn : cn ≤ 4000) : mp_Met l yN_restore (Cond.code yN_restore cN_restore 2 none :: bw) rm_N_restore D cls5 (tys6 k) [.ref h0, .ref av] M (va_Qv (fun M1 => M1 = mp_up M av (.inl (k 1, 4000, .inr (.inl (va_cpy g va 0 0 cn)))))) 0 0 := by
  refine mp_Met.of (by decide) (Nat.le_of_ble_eq_true rfl) ?_
  intro p e s m below meth c hx hb hr hml hown hts hlocks hin ls hl I
  have hl : lv_has ls 2 [(0, .ref h0), (1, .ref av)] := hl
  refine lv_aload_n hx hb dN_restore_0 rfl (lv_at hl 0 rfl) ?_
  refine mp_get (v := .ref r) hx hb hts inN hown I hN rfl 0 (by decide) (hts _ bw_184) (fun _ h9 => h9) rfl dN_restore_1 ?_
  refine lv_iconst (v := nI 0) hx hb dN_restore_4 (by decide) ?_
  refine lv_aload_n hx hb dN_restore_5 rfl (lv_at hl 1 rfl) ?_
  refine lv_iconst (v := nI 0) hx hb dN_restore_6 (by decide) ?_
  refine lv_aload_n hx hb dN_restore_7 rfl (lv_at hl 0 rfl) ?_
  refine mp_get (v := .int (nI cn)) hx hb hts inN hown I hN rfl 1 (by decide) (hts _ bw_185) (fun _ h9 => h9) rfl dN_restore_8 ?_
  refine mp_copyl hx hb (by rw [hml]; exact hl.1.symm) hown (hts _ bw_195) (hts _ bw_106) (hts _ bw_105) (hts _ bw_4) I 1 hrM hav rfl 0 0 cn rfl rfl rfl (by omega) (by omega) (by decide) (by decide) (Nat.le_of_ble_eq_true rfl) (Nat.le_of_ble_eq_true rfl) dN_restore_11 (fun H locs I => ?_)
  have I : mp_I D cls5 (tys6 k) s _ s.heap H locs (mp_up M av (.inl (k 1, 4000, .inr (.inl (va_cpy g va 0 0 cn))))) := I
  have hav_n : mp_up M av (.inl (k 1, 4000, .inr (.inl (va_cpy g va 0 0 cn)))) av = some (.inl (k 1, 4000, .inr (.inl (va_cpy g va 0 0 cn)))) := mp_up_s _ _ _
  have hN_n : mp_up M av (.inl (k 1, 4000, .inr (.inl (va_cpy g va 0 0 cn)))) h0 = some (.inr (3, [.ref r, .int (nI cn)])) := (mp_up_n (mp_ne hN hav (by simp))).trans hN
  have hrM_n : mp_up M av (.inl (k 1, 4000, .inr (.inl (va_cpy g va 0 0 cn)))) r = some (.inl (k 1, 4000, .inr (.inl g))) := (mp_up_n (Ne.symm hne)).trans hrM
  generalize eM_2 : mp_up M av (.inl (k 1, 4000, .inr (.inl (va_cpy g va 0 0 cn)))) = M_1 at I hN_n hav_n hrM_n
  have hN__M_1 := hN_n
  have hav__M_1 := hav_n
  have hrM__M_1 := hrM_n
  clear hN_n hav_n hrM_n
  exact mp_vret hx hb hr hlocks I (Nat.le_of_ble_eq_true rfl) (Nat.le_of_ble_eq_true rfl) dN_restore_14 (by first | rfl | exact eM_2.symm)
end
section
/-- one mark more: what the new map must be -/
theorem DkX.mark {k : Nat → ClassId} {M : mp_M} {d av ak at_ aw as_ an : Nat} {qt qs qn : Nat → Option Nat} {sa ra : Nat → Nat} {ec tc wc sc nc : Nat} {va : Nat → Int64} {kd wt tk tf tz sk sf sw sl nn : Nat → Nat} {nv : Nat → Nat → Int64} (F : mp_M) (q r : Nat) (qn2 : Nat → Option Nat) (g : Nat → Int64) (h : DkX k M d av ak at_ aw as_ an qt qs qn sa ra ec tc wc sc nc va kd wt tk tf tz sk sf sw sl nn nv) (hnc : nc < 20) (hec : ec ≤ 4000)
    (f0 : F d = some (.inr (0, [.ref av, .ref ak, .int (nI ec), .ref at_, .int (nI tc), .ref aw, .int (nI wc), .ref as_, .int (nI sc), .ref an, .int (nI (nc + 1))]))) (f1 : F av = M av) (f2 : F ak = M ak) (f3 : F at_ = M at_) (f4 : F aw = M aw) (f5 : F as_ = M as_) (f6 : F an = some (.inl (k 4, 20, .inr (.inr (.inr (.inr qn2))))))
    (ft : ∀ i a, i < tc → qt i = some a → F a = M a) (fs : ∀ i a, i < sc → qs i = some a → F a = M a) (fn : ∀ i, i < 20 → i ≠ nc → qn i ≠ none → F (sa i) = M (sa i) ∧ F (ra i) = M (ra i))
    (fq : F q = some (.inr (3, [.ref r, .int (nI ec)]))) (fr : F r = some (.inl (k 1, 4000, .inr (.inl g)))) (hg : ∀ j, j < ec → g j = va j) (hra : r ≠ av)
    (hq2 : qn2 nc = some q) (hqo : ∀ i, i ≠ nc → qn2 i = qn i) (hd : ∀ i, i < 20 → i ≠ nc → qn i ≠ none → sa i ≠ q ∧ ra i ≠ r) :
    DkX k F d av ak at_ aw as_ an qt qs (qn2) (nu sa nc q) (nu ra nc r) ec tc wc sc (nc + 1) va kd wt tk tf tz sk sf sw sl (nu nn nc ec) (fun i => if i = nc then va else nv i) := by
  obtain ⟨h0, hav, hak, hat, haw, has, han, hth, hsp, hsn, hij⟩ := h
  refine ⟨f0, f1.trans hav, f2.trans hak, f3.trans hat, f4.trans haw, f5.trans has, f6, ?_, ?_, ?_, ?_⟩
  · exact fun i hi => by
      obtain ⟨a, h1, h2⟩ := hth i hi
      exact ⟨a, h1, (ft i a hi h1).trans h2⟩
  · exact fun i hi => by
      obtain ⟨a, h1, h2⟩ := hsp i hi
      exact ⟨a, h1, (fs i a hi h1).trans h2⟩
  · exact fun i hi => by
      by_cases e : i = nc
      · subst e
        exact Or.inr ⟨by rw [hq2, nu_s], by rw [nu_s]; exact hra, ec, g, by rw [nu_s, nu_s]; exact fq, by rw [nu_s]; exact fr, hec, fun _ => ⟨by rw [nu_s], fun j hj => by show g j = (if i = i then va else nv i) j; rw [if_pos rfl]; exact hg j hj⟩⟩
      · rw [nu_n e, nu_n e, hqo i e, nu_n e]
        rcases hsn i hi with ⟨h1, h2⟩ | ⟨h1, h2, cn, g', h3, h4, h5, h6⟩
        · exact Or.inl ⟨h1, by omega⟩
        · have hf := fn i hi e (by rw [h1]; simp)
          exact Or.inr ⟨h1, h2, cn, g', hf.1.trans h3, hf.2.trans h4, h5, fun hlt => by
            obtain ⟨a1, a2⟩ := h6 (by omega)
            exact ⟨a1, fun j hj => by show g' j = (if i = nc then va else nv i) j; rw [if_neg e]; exact a2 j hj⟩⟩
  · intro i j hi hj h1 h2 hne
    by_cases ei : i = nc
    · have ej : j ≠ nc := fun z => hne (ei.trans z.symm)
      rw [hqo j ej] at h2
      rw [ei, nu_s, nu_s, nu_n ej, nu_n ej]
      exact ⟨(hd j hj ej h2).1.symm, (hd j hj ej h2).2.symm⟩
    · rw [hqo i ei] at h1
      by_cases ej : j = nc
      · rw [ej, nu_s, nu_s, nu_n ei, nu_n ei]
        exact hd i hi ei h1
      · rw [hqo j ej] at h2
        rw [nu_n ei, nu_n ei, nu_n ej, nu_n ej]
        exact hij i j hi hj h1 h2 hne
theorem mp_none_ne {M : mp_M} {a q : Nat} {x : va_E} (ha : M a = some x) (hq : M q = none) : a ≠ q := fun z => by rw [z, hq] at ha; cases ha
abbrev rm_D_mark : Room := { frames := 2, cells := 2, slots := 4002, locals := 90 }
set_option maxHeartbeats 4000000 in
set_option maxRecDepth 100000 in
theorem kD_mark (l : Launch) (D : va_G) (k : Nat → ClassId) (M : mp_M) {d av ak at_ aw as_ an : Nat} {qt qs qn : Nat → Option Nat} {sa ra : Nat → Nat} {ec tc wc sc nc : Nat} {va : Nat → Int64} {kd wt tk tf tz sk sf sw sl nn : Nat → Nat} {nv : Nat → Nat → Int64} (hD : DkX k M d av ak at_ aw as_ an qt qs qn sa ra ec tc wc sc nc va kd wt tk tf tz sk sf sw sl nn nv) (hO : OkB ec tc wc sc nc tk tf tz sk sf sw sl nn) : mp_Met l yD_mark (Cond.code yD_mark cD_mark 2 (some .int) :: bw) rm_D_mark D cls5 (tys6 k) [.ref d] M (va_Qi (fun r M1 => (nc < 20 ∧ r = nI nc ∧ ∃ (qn2 : Nat → Option Nat) (sa2 ra2 : Nat → Nat), DkX k M1 d av ak at_ aw as_ an qt qs (qn2) (sa2) (ra2) ec tc wc sc (nc + 1) va kd wt tk tf tz sk sf sw sl (nu nn nc ec) (fun i => if i = nc then va else nv i)) ∨ (¬ nc < 20 ∧ r = -1 ∧ M1 = M))) 2 4002 := by
  refine mp_Met.of (by decide) (Nat.le_of_ble_eq_true rfl) ?_
  intro p e s m below meth c hx hb hr hml hown hts hlocks hin ls hl I
  have hl : lv_has ls 2 [(0, .ref d)] := hl
  obtain ⟨h0, hav, hak, hat, haw, has, han, hth, hsp, hsn, hij⟩ := id hD
  obtain ⟨b1, b2, b3, b4, b5, bT, bS, bN⟩ := id hO
  refine lv_aload_n hx hb dD_mark_0 rfl (lv_at hl 0 rfl) ?_
  refine mp_get (v := .int (nI nc)) hx hb hts inD hown I h0 rfl 10 (by decide) (hts _ bw_36) (fun _ h9 => h9) rfl dD_mark_1 ?_
  refine lv_bipush (v := nI 20) hx hb dD_mark_4 (by decide) ?_
  refine zz_icmp_lt (tgt := 11) hx hb (nI_toInt (by first | assumption | omega)) (nI_toInt (by decide)) dD_mark_6 (by decide) (fun c_1 => ?_) (fun c_1 => ?_)
  · rcases hsn nc (by omega) with ⟨hqn, -⟩ | ⟨hqn, hra, cn, g, hsa, hrr, hcn, -⟩
    · refine lv_aload_n hx hb dD_mark_11 rfl (lv_at hl 0 rfl) ?_
      refine mp_get (v := .ref an) hx hb hts inD hown I h0 rfl 9 (by decide) (hts _ bw_35) (fun _ h9 => h9) rfl dD_mark_12 ?_
      refine lv_aload_n hx hb dD_mark_15 rfl (lv_at hl 0 rfl) ?_
      refine mp_get (v := .int (nI nc)) hx hb hts inD hown I h0 rfl 10 (by decide) (hts _ bw_36) (fun _ h9 => h9) rfl dD_mark_16 ?_
      refine mp_aald hx hb I 4 han rfl nc rfl (by omega) (by decide) (v := .null) (by rw [hqn]; rfl) dD_mark_19 ?_
      refine lv_astore_nN (lv' := [(1, .null), (0, .ref d)]) hx hb dD_mark_20 rfl hl (by decide) rfl (fun ls hl => ?_)
      refine lv_aload_nN hx hb dD_mark_21 rfl (lv_at hl 0 rfl) ?_
      refine lv_ifnonnullN hx hb dD_mark_22 ?_
      refine mp_new (fs := [.null, .int 0]) hx hb hts inN tyN okN hown (hts _ bw_24) (hts _ bw_179) (hts _ bw_11) I (ci := 3) rfl (fun j hj => by rcases (show j = 0 ∨ j = 1 by omega) with rfl | rfl <;> rfl) (Nat.le_of_ble_eq_true rfl) (Nat.le_of_ble_eq_true rfl) dD_mark_25 (fun q H hq_2 I => ?_)
      have hqq_n : mp_up M q (.inr (3, [.null, .int 0])) q = some (.inr (3, [.null, .int 0])) := mp_up_s _ _ _
      have h0_n : mp_up M q (.inr (3, [.null, .int 0])) d = some (.inr (0, [.ref av, .ref ak, .int (nI ec), .ref at_, .int (nI tc), .ref aw, .int (nI wc), .ref as_, .int (nI sc), .ref an, .int (nI nc)])) := (mp_up_n (fun z => by rw [z, hq_2] at h0; cases h0)).trans h0
      have hav_n : mp_up M q (.inr (3, [.null, .int 0])) av = some (.inl (k 1, 4000, .inr (.inl va))) := (mp_up_n (fun z => by rw [z, hq_2] at hav; cases hav)).trans hav
      have hak_n : mp_up M q (.inr (3, [.null, .int 0])) ak = some (.inl (k 0, 4000, .inl (fun i_ => nI (kd i_)))) := (mp_up_n (fun z => by rw [z, hq_2] at hak; cases hak)).trans hak
      have hat_n : mp_up M q (.inr (3, [.null, .int 0])) at_ = some (.inl (k 2, 300, .inr (.inr (.inr (.inr qt))))) := (mp_up_n (fun z => by rw [z, hq_2] at hat; cases hat)).trans hat
      have haw_n : mp_up M q (.inr (3, [.null, .int 0])) aw = some (.inl (k 0, 12, .inl (fun i_ => nI (wt i_)))) := (mp_up_n (fun z => by rw [z, hq_2] at haw; cases haw)).trans haw
      have has_n : mp_up M q (.inr (3, [.null, .int 0])) as_ = some (.inl (k 3, 100, .inr (.inr (.inr (.inr qs))))) := (mp_up_n (fun z => by rw [z, hq_2] at has; cases has)).trans has
      have han_n : mp_up M q (.inr (3, [.null, .int 0])) an = some (.inl (k 4, 20, .inr (.inr (.inr (.inr qn))))) := (mp_up_n (fun z => by rw [z, hq_2] at han; cases han)).trans han
      generalize eM_4 : mp_up M q (.inr (3, [.null, .int 0])) = M_3 at I hqq_n h0_n hav_n hak_n hat_n haw_n has_n han_n
      have h0__M_3 := h0_n
      have hav__M_3 := hav_n
      have hak__M_3 := hak_n
      have hat__M_3 := hat_n
      have haw__M_3 := haw_n
      have has__M_3 := has_n
      have han__M_3 := han_n
      have hqq__M_3 := hqq_n
      clear hqq_n h0_n hav_n hak_n hat_n haw_n has_n han_n
      have hq0 : M q = none := hq_2
      refine lv_dup hx hb dD_mark_28 rfl ?_
      refine mp_callv (va_runIN (As := []) (rest := [.ref q]) ⟨hx, hb, hml, hown, hts⟩ (kN_init l D k M_3 q hqq__M_3 _) ⟨va_cnB 0 hts (bw_I bw_182) rfl rfl rfl I.1.2.1 (hts _ bw_11) (by decide +kernel) ⟨Nat.le_of_ble_eq_true rfl, Nat.le_of_ble_eq_true rfl⟩, rfl, hts _ bw_181⟩ (mp_preS I _) rfl rfl hl.1 rfl (lv_room (Nat.le_of_ble_eq_true rfl)) dD_mark_29 ⟨Nat.le_of_ble_eq_true rfl, Nat.le_of_ble_eq_true rfl⟩) I (fun N1 H locs hp I => ?_)
      obtain ⟨r, hr0, hp⟩ := hp
      rw [hp] at I
      have hrq : r ≠ q := fun z => by rw [z, hqq__M_3] at hr0; cases hr0
      have hrM : M r = none := by rw [← eM_4, mp_up_n hrq] at hr0; exact hr0
      have hqr_n : mp_up M_3 r (.inl (k 1, 4000, .inr (.inl (fun _ => 0)))) r = some (.inl (k 1, 4000, .inr (.inl (fun _ => 0)))) := mp_up_s _ _ _
      have h0__M_3_n : mp_up M_3 r (.inl (k 1, 4000, .inr (.inl (fun _ => 0)))) d = some (.inr (0, [.ref av, .ref ak, .int (nI ec), .ref at_, .int (nI tc), .ref aw, .int (nI wc), .ref as_, .int (nI sc), .ref an, .int (nI nc)])) := (mp_up_n (fun z => by rw [z, hr0] at h0__M_3; cases h0__M_3)).trans h0__M_3
      have hav__M_3_n : mp_up M_3 r (.inl (k 1, 4000, .inr (.inl (fun _ => 0)))) av = some (.inl (k 1, 4000, .inr (.inl va))) := (mp_up_n (fun z => by rw [z, hr0] at hav__M_3; cases hav__M_3)).trans hav__M_3
      have hak__M_3_n : mp_up M_3 r (.inl (k 1, 4000, .inr (.inl (fun _ => 0)))) ak = some (.inl (k 0, 4000, .inl (fun i_ => nI (kd i_)))) := (mp_up_n (fun z => by rw [z, hr0] at hak__M_3; cases hak__M_3)).trans hak__M_3
      have hat__M_3_n : mp_up M_3 r (.inl (k 1, 4000, .inr (.inl (fun _ => 0)))) at_ = some (.inl (k 2, 300, .inr (.inr (.inr (.inr qt))))) := (mp_up_n (fun z => by rw [z, hr0] at hat__M_3; cases hat__M_3)).trans hat__M_3
      have haw__M_3_n : mp_up M_3 r (.inl (k 1, 4000, .inr (.inl (fun _ => 0)))) aw = some (.inl (k 0, 12, .inl (fun i_ => nI (wt i_)))) := (mp_up_n (fun z => by rw [z, hr0] at haw__M_3; cases haw__M_3)).trans haw__M_3
      have has__M_3_n : mp_up M_3 r (.inl (k 1, 4000, .inr (.inl (fun _ => 0)))) as_ = some (.inl (k 3, 100, .inr (.inr (.inr (.inr qs))))) := (mp_up_n (fun z => by rw [z, hr0] at has__M_3; cases has__M_3)).trans has__M_3
      have han__M_3_n : mp_up M_3 r (.inl (k 1, 4000, .inr (.inl (fun _ => 0)))) an = some (.inl (k 4, 20, .inr (.inr (.inr (.inr qn))))) := (mp_up_n (fun z => by rw [z, hr0] at han__M_3; cases han__M_3)).trans han__M_3
      have hqq__M_3_n : mp_up M_3 r (.inl (k 1, 4000, .inr (.inl (fun _ => 0)))) q = some (.inr (3, [.null, .int 0])) := (mp_up_n (fun z => by rw [z, hr0] at hqq__M_3; cases hqq__M_3)).trans hqq__M_3
      generalize eM_6 : mp_up M_3 r (.inl (k 1, 4000, .inr (.inl (fun _ => 0)))) = M_5 at I hqr_n h0__M_3_n hav__M_3_n hak__M_3_n hat__M_3_n haw__M_3_n has__M_3_n han__M_3_n hqq__M_3_n
      have h0__M_5 := h0__M_3_n
      have hav__M_5 := hav__M_3_n
      have hak__M_5 := hak__M_3_n
      have hat__M_5 := hat__M_3_n
      have haw__M_5 := haw__M_3_n
      have has__M_5 := has__M_3_n
      have han__M_5 := han__M_3_n
      have hqq__M_5 := hqq__M_3_n
      have hqr__M_5 := hqr_n
      clear hqr_n h0__M_3_n hav__M_3_n hak__M_3_n hat__M_3_n haw__M_3_n has__M_3_n han__M_3_n hqq__M_3_n
      have I : mp_I D cls5 (tys6 k) s _ s.heap H locs (mp_up M_5 q (.inr (3, [.ref r, .int (nI 0)]))) := I
      have hqq__M_5_n : mp_up M_5 q (.inr (3, [.ref r, .int (nI 0)])) q = some (.inr (3, [.ref r, .int (nI 0)])) := mp_up_s _ _ _
      have h0__M_5_n : mp_up M_5 q (.inr (3, [.ref r, .int (nI 0)])) d = some (.inr (0, [.ref av, .ref ak, .int (nI ec), .ref at_, .int (nI tc), .ref aw, .int (nI wc), .ref as_, .int (nI sc), .ref an, .int (nI nc)])) := (mp_up_n (mp_ne h0__M_5 hqq__M_5 (by simp))).trans h0__M_5
      have hav__M_5_n : mp_up M_5 q (.inr (3, [.ref r, .int (nI 0)])) av = some (.inl (k 1, 4000, .inr (.inl va))) := (mp_up_n (mp_ne hav__M_5 hqq__M_5 (by simp))).trans hav__M_5
      have hak__M_5_n : mp_up M_5 q (.inr (3, [.ref r, .int (nI 0)])) ak = some (.inl (k 0, 4000, .inl (fun i_ => nI (kd i_)))) := (mp_up_n (mp_ne hak__M_5 hqq__M_5 (by simp))).trans hak__M_5
      have hat__M_5_n : mp_up M_5 q (.inr (3, [.ref r, .int (nI 0)])) at_ = some (.inl (k 2, 300, .inr (.inr (.inr (.inr qt))))) := (mp_up_n (mp_ne hat__M_5 hqq__M_5 (by simp))).trans hat__M_5
      have haw__M_5_n : mp_up M_5 q (.inr (3, [.ref r, .int (nI 0)])) aw = some (.inl (k 0, 12, .inl (fun i_ => nI (wt i_)))) := (mp_up_n (mp_ne haw__M_5 hqq__M_5 (by simp))).trans haw__M_5
      have has__M_5_n : mp_up M_5 q (.inr (3, [.ref r, .int (nI 0)])) as_ = some (.inl (k 3, 100, .inr (.inr (.inr (.inr qs))))) := (mp_up_n (mp_ne has__M_5 hqq__M_5 (by simp))).trans has__M_5
      have han__M_5_n : mp_up M_5 q (.inr (3, [.ref r, .int (nI 0)])) an = some (.inl (k 4, 20, .inr (.inr (.inr (.inr qn))))) := (mp_up_n (mp_ne han__M_5 hqq__M_5 (by simp))).trans han__M_5
      have hqr__M_5_n : mp_up M_5 q (.inr (3, [.ref r, .int (nI 0)])) r = some (.inl (k 1, 4000, .inr (.inl (fun _ => 0)))) := (mp_up_n (mp_ne hqr__M_5 hqq__M_5 (by simp))).trans hqr__M_5
      generalize eM_8 : mp_up M_5 q (.inr (3, [.ref r, .int (nI 0)])) = M_7 at I h0__M_5_n hav__M_5_n hak__M_5_n hat__M_5_n haw__M_5_n has__M_5_n han__M_5_n hqq__M_5_n hqr__M_5_n
      have h0__M_7 := h0__M_5_n
      have hav__M_7 := hav__M_5_n
      have hak__M_7 := hak__M_5_n
      have hat__M_7 := hat__M_5_n
      have haw__M_7 := haw__M_5_n
      have has__M_7 := has__M_5_n
      have han__M_7 := han__M_5_n
      have hqq__M_7 := hqq__M_5_n
      have hqr__M_7 := hqr__M_5_n
      clear h0__M_5_n hav__M_5_n hak__M_5_n hat__M_5_n haw__M_5_n has__M_5_n han__M_5_n hqq__M_5_n hqr__M_5_n
      refine lv_astore_n (lv' := [(1, .ref q), (0, .ref d)]) hx hb dD_mark_32 rfl hl (by decide) rfl (fun ls hl => ?_)
      refine lv_aload_n hx hb dD_mark_33 rfl (lv_at hl 1 rfl) ?_
      refine mp_get (v := .ref an) hx hb hts inD hown I h0__M_7 rfl 9 (by decide) (hts _ bw_35) (fun _ h9 => h9) rfl dD_mark_34 ?_
      refine lv_aload_n hx hb dD_mark_37 rfl (lv_at hl 1 rfl) ?_
      refine mp_get (v := .int (nI nc)) hx hb hts inD hown I h0__M_7 rfl 10 (by decide) (hts _ bw_36) (fun _ h9 => h9) rfl dD_mark_38 ?_
      refine lv_aload_n hx hb dD_mark_41 rfl (lv_at hl 0 rfl) ?_
      refine mp_aast (r := (RN, FN, 2)) hx hb I 4 3 han__M_7 rfl hqq__M_7 rfl nc rfl (by omega) (by decide) dD_mark_42 (fun H locs I => ?_)
      have I : mp_I D cls5 (tys6 k) s _ s.heap H locs (mp_up M_7 an (.inl (k 4, 20, .inr (.inr (.inr (.inr (va_up qn nc (some q)))))))) := I
      have han__M_7_n : mp_up M_7 an (.inl (k 4, 20, .inr (.inr (.inr (.inr (va_up qn nc (some q))))))) an = some (.inl (k 4, 20, .inr (.inr (.inr (.inr (va_up qn nc (some q))))))) := mp_up_s _ _ _
      have h0__M_7_n : mp_up M_7 an (.inl (k 4, 20, .inr (.inr (.inr (.inr (va_up qn nc (some q))))))) d = some (.inr (0, [.ref av, .ref ak, .int (nI ec), .ref at_, .int (nI tc), .ref aw, .int (nI wc), .ref as_, .int (nI sc), .ref an, .int (nI nc)])) := (mp_up_n (mp_ne h0__M_7 han__M_7 (by simp))).trans h0__M_7
      have hav__M_7_n : mp_up M_7 an (.inl (k 4, 20, .inr (.inr (.inr (.inr (va_up qn nc (some q))))))) av = some (.inl (k 1, 4000, .inr (.inl va))) := (mp_up_n (mp_ne hav__M_7 han__M_7 (by simp))).trans hav__M_7
      have hak__M_7_n : mp_up M_7 an (.inl (k 4, 20, .inr (.inr (.inr (.inr (va_up qn nc (some q))))))) ak = some (.inl (k 0, 4000, .inl (fun i_ => nI (kd i_)))) := (mp_up_n (mp_ne hak__M_7 han__M_7 (by simp))).trans hak__M_7
      have hat__M_7_n : mp_up M_7 an (.inl (k 4, 20, .inr (.inr (.inr (.inr (va_up qn nc (some q))))))) at_ = some (.inl (k 2, 300, .inr (.inr (.inr (.inr qt))))) := (mp_up_n (mp_ne hat__M_7 han__M_7 (by simp))).trans hat__M_7
      have haw__M_7_n : mp_up M_7 an (.inl (k 4, 20, .inr (.inr (.inr (.inr (va_up qn nc (some q))))))) aw = some (.inl (k 0, 12, .inl (fun i_ => nI (wt i_)))) := (mp_up_n (mp_ne haw__M_7 han__M_7 (by simp))).trans haw__M_7
      have has__M_7_n : mp_up M_7 an (.inl (k 4, 20, .inr (.inr (.inr (.inr (va_up qn nc (some q))))))) as_ = some (.inl (k 3, 100, .inr (.inr (.inr (.inr qs))))) := (mp_up_n (mp_ne has__M_7 han__M_7 (by simp))).trans has__M_7
      have hqq__M_7_n : mp_up M_7 an (.inl (k 4, 20, .inr (.inr (.inr (.inr (va_up qn nc (some q))))))) q = some (.inr (3, [.ref r, .int (nI 0)])) := (mp_up_n (mp_ne hqq__M_7 han__M_7 (by simp))).trans hqq__M_7
      have hqr__M_7_n : mp_up M_7 an (.inl (k 4, 20, .inr (.inr (.inr (.inr (va_up qn nc (some q))))))) r = some (.inl (k 1, 4000, .inr (.inl (fun _ => 0)))) := (mp_up_n (mp_ne hqr__M_7 han__M_7 (by simp))).trans hqr__M_7
      generalize eM_10 : mp_up M_7 an (.inl (k 4, 20, .inr (.inr (.inr (.inr (va_up qn nc (some q))))))) = M_9 at I h0__M_7_n hav__M_7_n hak__M_7_n hat__M_7_n haw__M_7_n has__M_7_n han__M_7_n hqq__M_7_n hqr__M_7_n
      have h0__M_9 := h0__M_7_n
      have hav__M_9 := hav__M_7_n
      have hak__M_9 := hak__M_7_n
      have hat__M_9 := hat__M_7_n
      have haw__M_9 := haw__M_7_n
      have has__M_9 := has__M_7_n
      have han__M_9 := han__M_7_n
      have hqq__M_9 := hqq__M_7_n
      have hqr__M_9 := hqr__M_7_n
      clear h0__M_7_n hav__M_7_n hak__M_7_n hat__M_7_n haw__M_7_n has__M_7_n han__M_7_n hqq__M_7_n hqr__M_7_n
      refine lv_aload_n hx hb dD_mark_43 rfl (lv_at hl 0 rfl) ?_
      refine lv_aload_n hx hb dD_mark_44 rfl (lv_at hl 1 rfl) ?_
      refine mp_get (v := .ref av) hx hb hts inD hown I h0__M_9 rfl 0 (by decide) (hts _ bw_26) (fun _ h9 => h9) rfl dD_mark_45 ?_
      refine lv_aload_n hx hb dD_mark_48 rfl (lv_at hl 1 rfl) ?_
      refine mp_get (v := .int (nI ec)) hx hb hts inD hown I h0__M_9 rfl 2 (by decide) (hts _ bw_28) (fun _ h9 => h9) rfl dD_mark_49 ?_
      refine mp_callv (va_runV (As := [.ref av, .int (nI ec)]) (rest := []) ⟨hx, hb, hml, hown, hts⟩ (kN_remember l D k M_9 q av r ec (nI 0) va (fun _ => 0) hqq__M_9 hav__M_9 hqr__M_9 (mp_none_ne hav hrM) (by omega) _) (cwV 2 hts (bw_V bw_191 bw_192 bw_193 bw_11 bw_194) rfl rfl rfl (by decide +kernel) ⟨Nat.le_of_ble_eq_true rfl, Nat.le_of_ble_eq_true rfl⟩) (mp_preV I hqq__M_9 rfl _) rfl rfl hl.1 rfl (lv_room (Nat.le_of_ble_eq_true rfl)) dD_mark_52 ⟨Nat.le_of_ble_eq_true rfl, Nat.le_of_ble_eq_true rfl⟩) I (fun N1 H locs hp I => ?_)
      rw [hp] at I
      have I : mp_I D cls5 (tys6 k) s _ s.heap H locs (mp_up (mp_up M_9 q (.inr (3, [.ref r, .int (nI ec)]))) r (.inl (k 1, 4000, .inr (.inl (va_cpy va (fun _ => 0) 0 0 ec))))) := I
      have hqq__M_9_n : mp_up M_9 q (.inr (3, [.ref r, .int (nI ec)])) q = some (.inr (3, [.ref r, .int (nI ec)])) := mp_up_s _ _ _
      have h0__M_9_n : mp_up M_9 q (.inr (3, [.ref r, .int (nI ec)])) d = some (.inr (0, [.ref av, .ref ak, .int (nI ec), .ref at_, .int (nI tc), .ref aw, .int (nI wc), .ref as_, .int (nI sc), .ref an, .int (nI nc)])) := (mp_up_n (mp_ne h0__M_9 hqq__M_9 (by simp))).trans h0__M_9
      have hav__M_9_n : mp_up M_9 q (.inr (3, [.ref r, .int (nI ec)])) av = some (.inl (k 1, 4000, .inr (.inl va))) := (mp_up_n (mp_ne hav__M_9 hqq__M_9 (by simp))).trans hav__M_9
      have hak__M_9_n : mp_up M_9 q (.inr (3, [.ref r, .int (nI ec)])) ak = some (.inl (k 0, 4000, .inl (fun i_ => nI (kd i_)))) := (mp_up_n (mp_ne hak__M_9 hqq__M_9 (by simp))).trans hak__M_9
      have hat__M_9_n : mp_up M_9 q (.inr (3, [.ref r, .int (nI ec)])) at_ = some (.inl (k 2, 300, .inr (.inr (.inr (.inr qt))))) := (mp_up_n (mp_ne hat__M_9 hqq__M_9 (by simp))).trans hat__M_9
      have haw__M_9_n : mp_up M_9 q (.inr (3, [.ref r, .int (nI ec)])) aw = some (.inl (k 0, 12, .inl (fun i_ => nI (wt i_)))) := (mp_up_n (mp_ne haw__M_9 hqq__M_9 (by simp))).trans haw__M_9
      have has__M_9_n : mp_up M_9 q (.inr (3, [.ref r, .int (nI ec)])) as_ = some (.inl (k 3, 100, .inr (.inr (.inr (.inr qs))))) := (mp_up_n (mp_ne has__M_9 hqq__M_9 (by simp))).trans has__M_9
      have han__M_9_n : mp_up M_9 q (.inr (3, [.ref r, .int (nI ec)])) an = some (.inl (k 4, 20, .inr (.inr (.inr (.inr (va_up qn nc (some q))))))) := (mp_up_n (mp_ne han__M_9 hqq__M_9 (by simp))).trans han__M_9
      have hqr__M_9_n : mp_up M_9 q (.inr (3, [.ref r, .int (nI ec)])) r = some (.inl (k 1, 4000, .inr (.inl (fun _ => 0)))) := (mp_up_n (mp_ne hqr__M_9 hqq__M_9 (by simp))).trans hqr__M_9
      generalize eM_12 : mp_up M_9 q (.inr (3, [.ref r, .int (nI ec)])) = M_11 at I h0__M_9_n hav__M_9_n hak__M_9_n hat__M_9_n haw__M_9_n has__M_9_n han__M_9_n hqq__M_9_n hqr__M_9_n
      have h0__M_11 := h0__M_9_n
      have hav__M_11 := hav__M_9_n
      have hak__M_11 := hak__M_9_n
      have hat__M_11 := hat__M_9_n
      have haw__M_11 := haw__M_9_n
      have has__M_11 := has__M_9_n
      have han__M_11 := han__M_9_n
      have hqq__M_11 := hqq__M_9_n
      have hqr__M_11 := hqr__M_9_n
      clear h0__M_9_n hav__M_9_n hak__M_9_n hat__M_9_n haw__M_9_n has__M_9_n han__M_9_n hqq__M_9_n hqr__M_9_n
      have I : mp_I D cls5 (tys6 k) s _ s.heap H locs (mp_up M_11 r (.inl (k 1, 4000, .inr (.inl (va_cpy va (fun _ => 0) 0 0 ec))))) := I
      have hqr__M_11_n : mp_up M_11 r (.inl (k 1, 4000, .inr (.inl (va_cpy va (fun _ => 0) 0 0 ec)))) r = some (.inl (k 1, 4000, .inr (.inl (va_cpy va (fun _ => 0) 0 0 ec)))) := mp_up_s _ _ _
      have h0__M_11_n : mp_up M_11 r (.inl (k 1, 4000, .inr (.inl (va_cpy va (fun _ => 0) 0 0 ec)))) d = some (.inr (0, [.ref av, .ref ak, .int (nI ec), .ref at_, .int (nI tc), .ref aw, .int (nI wc), .ref as_, .int (nI sc), .ref an, .int (nI nc)])) := (mp_up_n (mp_ne h0__M_11 hqr__M_11 (by simp))).trans h0__M_11
      have hav__M_11_n : mp_up M_11 r (.inl (k 1, 4000, .inr (.inl (va_cpy va (fun _ => 0) 0 0 ec)))) av = some (.inl (k 1, 4000, .inr (.inl va))) := (mp_up_n (Ne.symm (Ne.symm (mp_none_ne hav hrM)))).trans hav__M_11
      have hak__M_11_n : mp_up M_11 r (.inl (k 1, 4000, .inr (.inl (va_cpy va (fun _ => 0) 0 0 ec)))) ak = some (.inl (k 0, 4000, .inl (fun i_ => nI (kd i_)))) := (mp_up_n (mp_ne hak__M_11 hqr__M_11 (by simp))).trans hak__M_11
      have hat__M_11_n : mp_up M_11 r (.inl (k 1, 4000, .inr (.inl (va_cpy va (fun _ => 0) 0 0 ec)))) at_ = some (.inl (k 2, 300, .inr (.inr (.inr (.inr qt))))) := (mp_up_n (mp_ne hat__M_11 hqr__M_11 (by simp))).trans hat__M_11
      have haw__M_11_n : mp_up M_11 r (.inl (k 1, 4000, .inr (.inl (va_cpy va (fun _ => 0) 0 0 ec)))) aw = some (.inl (k 0, 12, .inl (fun i_ => nI (wt i_)))) := (mp_up_n (mp_ne haw__M_11 hqr__M_11 (by simp))).trans haw__M_11
      have has__M_11_n : mp_up M_11 r (.inl (k 1, 4000, .inr (.inl (va_cpy va (fun _ => 0) 0 0 ec)))) as_ = some (.inl (k 3, 100, .inr (.inr (.inr (.inr qs))))) := (mp_up_n (mp_ne has__M_11 hqr__M_11 (by simp))).trans has__M_11
      have han__M_11_n : mp_up M_11 r (.inl (k 1, 4000, .inr (.inl (va_cpy va (fun _ => 0) 0 0 ec)))) an = some (.inl (k 4, 20, .inr (.inr (.inr (.inr (va_up qn nc (some q))))))) := (mp_up_n (mp_ne han__M_11 hqr__M_11 (by simp))).trans han__M_11
      have hqq__M_11_n : mp_up M_11 r (.inl (k 1, 4000, .inr (.inl (va_cpy va (fun _ => 0) 0 0 ec)))) q = some (.inr (3, [.ref r, .int (nI ec)])) := (mp_up_n (mp_ne hqq__M_11 hqr__M_11 (by simp))).trans hqq__M_11
      generalize eM_14 : mp_up M_11 r (.inl (k 1, 4000, .inr (.inl (va_cpy va (fun _ => 0) 0 0 ec)))) = M_13 at I h0__M_11_n hav__M_11_n hak__M_11_n hat__M_11_n haw__M_11_n has__M_11_n han__M_11_n hqq__M_11_n hqr__M_11_n
      have h0__M_13 := h0__M_11_n
      have hav__M_13 := hav__M_11_n
      have hak__M_13 := hak__M_11_n
      have hat__M_13 := hat__M_11_n
      have haw__M_13 := haw__M_11_n
      have has__M_13 := has__M_11_n
      have han__M_13 := han__M_11_n
      have hqq__M_13 := hqq__M_11_n
      have hqr__M_13 := hqr__M_11_n
      clear h0__M_11_n hav__M_11_n hak__M_11_n hat__M_11_n haw__M_11_n has__M_11_n han__M_11_n hqq__M_11_n hqr__M_11_n
      refine lv_aload_n hx hb dD_mark_55 rfl (lv_at hl 1 rfl) ?_
      refine lv_dup hx hb dD_mark_56 rfl ?_
      refine mp_get (v := .int (nI nc)) hx hb hts inD hown I h0__M_13 rfl 10 (by decide) (hts _ bw_36) (fun _ h9 => h9) rfl dD_mark_57 ?_
      refine lv_iconst (v := nI 1) hx hb dD_mark_60 (by decide) ?_
      refine zz_iadd hx hb dD_mark_61 ?_
      refine mp_put (v := .int (nI (nc + 1))) (ty := .int) hx hb hts inD tyD okD nmD hown I h0__M_13 rfl 10 (by decide) (hts _ bw_36) (fun _ h9 => h9) rfl (by decide +kernel) rfl rfl (Nat.le_of_ble_eq_true rfl) dD_mark_62 (fun H locs I => ?_)
      have I : mp_I D cls5 (tys6 k) s _ s.heap H locs (mp_up M_13 d (.inr (0, [.ref av, .ref ak, .int (nI ec), .ref at_, .int (nI tc), .ref aw, .int (nI wc), .ref as_, .int (nI sc), .ref an, .int (nI (nc + 1))]))) := I
      have h0__M_13_n : mp_up M_13 d (.inr (0, [.ref av, .ref ak, .int (nI ec), .ref at_, .int (nI tc), .ref aw, .int (nI wc), .ref as_, .int (nI sc), .ref an, .int (nI (nc + 1))])) d = some (.inr (0, [.ref av, .ref ak, .int (nI ec), .ref at_, .int (nI tc), .ref aw, .int (nI wc), .ref as_, .int (nI sc), .ref an, .int (nI (nc + 1))])) := mp_up_s _ _ _
      have hav__M_13_n : mp_up M_13 d (.inr (0, [.ref av, .ref ak, .int (nI ec), .ref at_, .int (nI tc), .ref aw, .int (nI wc), .ref as_, .int (nI sc), .ref an, .int (nI (nc + 1))])) av = some (.inl (k 1, 4000, .inr (.inl va))) := (mp_up_n (mp_ne hav__M_13 h0__M_13 (by simp))).trans hav__M_13
      have hak__M_13_n : mp_up M_13 d (.inr (0, [.ref av, .ref ak, .int (nI ec), .ref at_, .int (nI tc), .ref aw, .int (nI wc), .ref as_, .int (nI sc), .ref an, .int (nI (nc + 1))])) ak = some (.inl (k 0, 4000, .inl (fun i_ => nI (kd i_)))) := (mp_up_n (mp_ne hak__M_13 h0__M_13 (by simp))).trans hak__M_13
      have hat__M_13_n : mp_up M_13 d (.inr (0, [.ref av, .ref ak, .int (nI ec), .ref at_, .int (nI tc), .ref aw, .int (nI wc), .ref as_, .int (nI sc), .ref an, .int (nI (nc + 1))])) at_ = some (.inl (k 2, 300, .inr (.inr (.inr (.inr qt))))) := (mp_up_n (mp_ne hat__M_13 h0__M_13 (by simp))).trans hat__M_13
      have haw__M_13_n : mp_up M_13 d (.inr (0, [.ref av, .ref ak, .int (nI ec), .ref at_, .int (nI tc), .ref aw, .int (nI wc), .ref as_, .int (nI sc), .ref an, .int (nI (nc + 1))])) aw = some (.inl (k 0, 12, .inl (fun i_ => nI (wt i_)))) := (mp_up_n (mp_ne haw__M_13 h0__M_13 (by simp))).trans haw__M_13
      have has__M_13_n : mp_up M_13 d (.inr (0, [.ref av, .ref ak, .int (nI ec), .ref at_, .int (nI tc), .ref aw, .int (nI wc), .ref as_, .int (nI sc), .ref an, .int (nI (nc + 1))])) as_ = some (.inl (k 3, 100, .inr (.inr (.inr (.inr qs))))) := (mp_up_n (mp_ne has__M_13 h0__M_13 (by simp))).trans has__M_13
      have han__M_13_n : mp_up M_13 d (.inr (0, [.ref av, .ref ak, .int (nI ec), .ref at_, .int (nI tc), .ref aw, .int (nI wc), .ref as_, .int (nI sc), .ref an, .int (nI (nc + 1))])) an = some (.inl (k 4, 20, .inr (.inr (.inr (.inr (va_up qn nc (some q))))))) := (mp_up_n (mp_ne han__M_13 h0__M_13 (by simp))).trans han__M_13
      have hqq__M_13_n : mp_up M_13 d (.inr (0, [.ref av, .ref ak, .int (nI ec), .ref at_, .int (nI tc), .ref aw, .int (nI wc), .ref as_, .int (nI sc), .ref an, .int (nI (nc + 1))])) q = some (.inr (3, [.ref r, .int (nI ec)])) := (mp_up_n (mp_ne hqq__M_13 h0__M_13 (by simp))).trans hqq__M_13
      have hqr__M_13_n : mp_up M_13 d (.inr (0, [.ref av, .ref ak, .int (nI ec), .ref at_, .int (nI tc), .ref aw, .int (nI wc), .ref as_, .int (nI sc), .ref an, .int (nI (nc + 1))])) r = some (.inl (k 1, 4000, .inr (.inl (va_cpy va (fun _ => 0) 0 0 ec)))) := (mp_up_n (mp_ne hqr__M_13 h0__M_13 (by simp))).trans hqr__M_13
      generalize eM_16 : mp_up M_13 d (.inr (0, [.ref av, .ref ak, .int (nI ec), .ref at_, .int (nI tc), .ref aw, .int (nI wc), .ref as_, .int (nI sc), .ref an, .int (nI (nc + 1))])) = M_15 at I h0__M_13_n hav__M_13_n hak__M_13_n hat__M_13_n haw__M_13_n has__M_13_n han__M_13_n hqq__M_13_n hqr__M_13_n
      have h0__M_15 := h0__M_13_n
      have hav__M_15 := hav__M_13_n
      have hak__M_15 := hak__M_13_n
      have hat__M_15 := hat__M_13_n
      have haw__M_15 := haw__M_13_n
      have has__M_15 := has__M_13_n
      have han__M_15 := han__M_13_n
      have hqq__M_15 := hqq__M_13_n
      have hqr__M_15 := hqr__M_13_n
      clear h0__M_13_n hav__M_13_n hak__M_13_n hat__M_13_n haw__M_13_n has__M_13_n han__M_13_n hqq__M_13_n hqr__M_13_n
      refine lv_aload_n hx hb dD_mark_65 rfl (lv_at hl 1 rfl) ?_
      refine mp_get (v := .int (nI (nc + 1))) hx hb hts inD hown I h0__M_15 rfl 10 (by decide) (hts _ bw_36) (fun _ h9 => h9) rfl dD_mark_66 ?_
      refine lv_iconst (v := nI 1) hx hb dD_mark_69 (by decide) ?_
      refine zz_isub hx hb (by omega) dD_mark_70 ?_
      have hF : ∀ b : Nat, b ≠ q → b ≠ r → b ≠ an → b ≠ d → M_15 b = M b := by
        intro b gq gr ga gd
        rw [← eM_16, mp_up_n gd, ← eM_14, mp_up_n gr, ← eM_12, mp_up_n gq, ← eM_10, mp_up_n ga, ← eM_8, mp_up_n gq, ← eM_6, mp_up_n gr, ← eM_4, mp_up_n gq]
      have hF2 : ∀ (b : Nat) (x : va_E), M b = some x → b ≠ an → b ≠ d → M_15 b = M b := fun b x hx h1 h2 => hF b (mp_none_ne hx hq0) (mp_none_ne hx hrM) h1 h2
      have hD := hD.mark M_15 q r (va_up qn nc (some q)) (va_cpy va (fun _ => 0) 0 0 ec) (by omega) (by omega) h0__M_15 (hav__M_15.trans hav.symm) (hak__M_15.trans hak.symm) (hat__M_15.trans hat.symm) (haw__M_15.trans haw.symm) (has__M_15.trans has.symm) han__M_15 (fun i a hi h1 => by obtain ⟨a2, z1, z2⟩ := hth i hi; cases h1.symm.trans z1; exact hF2 _ _ z2 (mp_ne z2 han (by simp)) (mp_ne z2 h0 (by simp))) (fun i a hi h1 => by obtain ⟨a2, z1, z2⟩ := hsp i hi; cases h1.symm.trans z1; exact hF2 _ _ z2 (mp_ne z2 han (by simp)) (mp_ne z2 h0 (by simp))) (fun i hi e hn => by rcases hsn i hi with ⟨z1, z2⟩ | ⟨z1, z2, cn, g, z3, z4, z5⟩; exact absurd z1 hn; exact ⟨hF2 _ _ z3 (mp_ne z3 han (by simp)) (mp_ne z3 h0 (by simp)), hF2 _ _ z4 (mp_ne z4 han (by simp)) (mp_ne z4 h0 (by simp))⟩) hqq__M_15 hqr__M_15 (fun j hj => by rw [pk_cpy_in (by omega) (by omega)]; simp) (Ne.symm (mp_none_ne hav hrM)) (va_up_self _ _ _) (fun i e => va_up_ne _ _ e) (fun i hi e hn => by rcases hsn i hi with ⟨z1, z2⟩ | ⟨z1, z2, cn, g, z3, z4, z5⟩; exact absurd z1 hn; exact ⟨mp_none_ne z3 hq0, mp_none_ne z4 hrM⟩)
      exact mp_iret hx hb hr hlocks I (Nat.le_of_ble_eq_true rfl) (Nat.le_of_ble_eq_true rfl) dD_mark_71 (Or.inl ⟨by omega, rfl, _, _, _, hD⟩)
    · refine lv_aload_n hx hb dD_mark_11 rfl (lv_at hl 0 rfl) ?_
      refine mp_get (v := .ref an) hx hb hts inD hown I h0 rfl 9 (by decide) (hts _ bw_35) (fun _ h9 => h9) rfl dD_mark_12 ?_
      refine lv_aload_n hx hb dD_mark_15 rfl (lv_at hl 0 rfl) ?_
      refine mp_get (v := .int (nI nc)) hx hb hts inD hown I h0 rfl 10 (by decide) (hts _ bw_36) (fun _ h9 => h9) rfl dD_mark_16 ?_
      refine mp_aald hx hb I 4 han rfl nc rfl (by omega) (by decide) (v := .ref (sa nc)) (by rw [hqn]; rfl) dD_mark_19 ?_
      refine lv_astore_n (lv' := [(1, .ref (sa nc)), (0, .ref d)]) hx hb dD_mark_20 rfl hl (by decide) rfl (fun ls hl => ?_)
      refine lv_aload_n hx hb dD_mark_21 rfl (lv_at hl 0 rfl) ?_
      refine lv_ifnonnull (tgt := 43) hx hb dD_mark_22 (by decide) ?_
      refine lv_aload_n hx hb dD_mark_43 rfl (lv_at hl 0 rfl) ?_
      refine lv_aload_n hx hb dD_mark_44 rfl (lv_at hl 1 rfl) ?_
      refine mp_get (v := .ref av) hx hb hts inD hown I h0 rfl 0 (by decide) (hts _ bw_26) (fun _ h9 => h9) rfl dD_mark_45 ?_
      refine lv_aload_n hx hb dD_mark_48 rfl (lv_at hl 1 rfl) ?_
      refine mp_get (v := .int (nI ec)) hx hb hts inD hown I h0 rfl 2 (by decide) (hts _ bw_28) (fun _ h9 => h9) rfl dD_mark_49 ?_
      refine mp_callv (va_runV (As := [.ref av, .int (nI ec)]) (rest := []) ⟨hx, hb, hml, hown, hts⟩ (kN_remember l D k M (sa nc) av (ra nc) ec (nI cn) va g hsa hav hrr (Ne.symm hra) (by omega) _) (cwV 2 hts (bw_V bw_191 bw_192 bw_193 bw_11 bw_194) rfl rfl rfl (by decide +kernel) ⟨Nat.le_of_ble_eq_true rfl, Nat.le_of_ble_eq_true rfl⟩) (mp_preV I hsa rfl _) rfl rfl hl.1 rfl (lv_room (Nat.le_of_ble_eq_true rfl)) dD_mark_52 ⟨Nat.le_of_ble_eq_true rfl, Nat.le_of_ble_eq_true rfl⟩) I (fun N1 H locs hp I => ?_)
      rw [hp] at I
      have I : mp_I D cls5 (tys6 k) s _ s.heap H locs (mp_up (mp_up M (sa nc) (.inr (3, [.ref (ra nc), .int (nI ec)]))) (ra nc) (.inl (k 1, 4000, .inr (.inl (va_cpy va g 0 0 ec))))) := I
      have hsa_n : mp_up M (sa nc) (.inr (3, [.ref (ra nc), .int (nI ec)])) (sa nc) = some (.inr (3, [.ref (ra nc), .int (nI ec)])) := mp_up_s _ _ _
      have h0_n : mp_up M (sa nc) (.inr (3, [.ref (ra nc), .int (nI ec)])) d = some (.inr (0, [.ref av, .ref ak, .int (nI ec), .ref at_, .int (nI tc), .ref aw, .int (nI wc), .ref as_, .int (nI sc), .ref an, .int (nI nc)])) := (mp_up_n (mp_ne h0 hsa (by simp))).trans h0
      have hav_n : mp_up M (sa nc) (.inr (3, [.ref (ra nc), .int (nI ec)])) av = some (.inl (k 1, 4000, .inr (.inl va))) := (mp_up_n (mp_ne hav hsa (by simp))).trans hav
      have hak_n : mp_up M (sa nc) (.inr (3, [.ref (ra nc), .int (nI ec)])) ak = some (.inl (k 0, 4000, .inl (fun i_ => nI (kd i_)))) := (mp_up_n (mp_ne hak hsa (by simp))).trans hak
      have hat_n : mp_up M (sa nc) (.inr (3, [.ref (ra nc), .int (nI ec)])) at_ = some (.inl (k 2, 300, .inr (.inr (.inr (.inr qt))))) := (mp_up_n (mp_ne hat hsa (by simp))).trans hat
      have haw_n : mp_up M (sa nc) (.inr (3, [.ref (ra nc), .int (nI ec)])) aw = some (.inl (k 0, 12, .inl (fun i_ => nI (wt i_)))) := (mp_up_n (mp_ne haw hsa (by simp))).trans haw
      have has_n : mp_up M (sa nc) (.inr (3, [.ref (ra nc), .int (nI ec)])) as_ = some (.inl (k 3, 100, .inr (.inr (.inr (.inr qs))))) := (mp_up_n (mp_ne has hsa (by simp))).trans has
      have han_n : mp_up M (sa nc) (.inr (3, [.ref (ra nc), .int (nI ec)])) an = some (.inl (k 4, 20, .inr (.inr (.inr (.inr qn))))) := (mp_up_n (mp_ne han hsa (by simp))).trans han
      have hrr_n : mp_up M (sa nc) (.inr (3, [.ref (ra nc), .int (nI ec)])) (ra nc) = some (.inl (k 1, 4000, .inr (.inl g))) := (mp_up_n (mp_ne hrr hsa (by simp))).trans hrr
      generalize eM_18 : mp_up M (sa nc) (.inr (3, [.ref (ra nc), .int (nI ec)])) = M_17 at I h0_n hav_n hak_n hat_n haw_n has_n han_n hsa_n hrr_n
      have h0__M_17 := h0_n
      have hav__M_17 := hav_n
      have hak__M_17 := hak_n
      have hat__M_17 := hat_n
      have haw__M_17 := haw_n
      have has__M_17 := has_n
      have han__M_17 := han_n
      have hsa__M_17 := hsa_n
      have hrr__M_17 := hrr_n
      clear h0_n hav_n hak_n hat_n haw_n has_n han_n hsa_n hrr_n
      have I : mp_I D cls5 (tys6 k) s _ s.heap H locs (mp_up M_17 (ra nc) (.inl (k 1, 4000, .inr (.inl (va_cpy va g 0 0 ec))))) := I
      have hrr__M_17_n : mp_up M_17 (ra nc) (.inl (k 1, 4000, .inr (.inl (va_cpy va g 0 0 ec)))) (ra nc) = some (.inl (k 1, 4000, .inr (.inl (va_cpy va g 0 0 ec)))) := mp_up_s _ _ _
      have h0__M_17_n : mp_up M_17 (ra nc) (.inl (k 1, 4000, .inr (.inl (va_cpy va g 0 0 ec)))) d = some (.inr (0, [.ref av, .ref ak, .int (nI ec), .ref at_, .int (nI tc), .ref aw, .int (nI wc), .ref as_, .int (nI sc), .ref an, .int (nI nc)])) := (mp_up_n (mp_ne h0__M_17 hrr__M_17 (by simp))).trans h0__M_17
      have hav__M_17_n : mp_up M_17 (ra nc) (.inl (k 1, 4000, .inr (.inl (va_cpy va g 0 0 ec)))) av = some (.inl (k 1, 4000, .inr (.inl va))) := (mp_up_n (Ne.symm hra)).trans hav__M_17
      have hak__M_17_n : mp_up M_17 (ra nc) (.inl (k 1, 4000, .inr (.inl (va_cpy va g 0 0 ec)))) ak = some (.inl (k 0, 4000, .inl (fun i_ => nI (kd i_)))) := (mp_up_n (mp_ne hak__M_17 hrr__M_17 (by simp))).trans hak__M_17
      have hat__M_17_n : mp_up M_17 (ra nc) (.inl (k 1, 4000, .inr (.inl (va_cpy va g 0 0 ec)))) at_ = some (.inl (k 2, 300, .inr (.inr (.inr (.inr qt))))) := (mp_up_n (mp_ne hat__M_17 hrr__M_17 (by simp))).trans hat__M_17
      have haw__M_17_n : mp_up M_17 (ra nc) (.inl (k 1, 4000, .inr (.inl (va_cpy va g 0 0 ec)))) aw = some (.inl (k 0, 12, .inl (fun i_ => nI (wt i_)))) := (mp_up_n (mp_ne haw__M_17 hrr__M_17 (by simp))).trans haw__M_17
      have has__M_17_n : mp_up M_17 (ra nc) (.inl (k 1, 4000, .inr (.inl (va_cpy va g 0 0 ec)))) as_ = some (.inl (k 3, 100, .inr (.inr (.inr (.inr qs))))) := (mp_up_n (mp_ne has__M_17 hrr__M_17 (by simp))).trans has__M_17
      have han__M_17_n : mp_up M_17 (ra nc) (.inl (k 1, 4000, .inr (.inl (va_cpy va g 0 0 ec)))) an = some (.inl (k 4, 20, .inr (.inr (.inr (.inr qn))))) := (mp_up_n (mp_ne han__M_17 hrr__M_17 (by simp))).trans han__M_17
      have hsa__M_17_n : mp_up M_17 (ra nc) (.inl (k 1, 4000, .inr (.inl (va_cpy va g 0 0 ec)))) (sa nc) = some (.inr (3, [.ref (ra nc), .int (nI ec)])) := (mp_up_n (mp_ne hsa__M_17 hrr__M_17 (by simp))).trans hsa__M_17
      generalize eM_20 : mp_up M_17 (ra nc) (.inl (k 1, 4000, .inr (.inl (va_cpy va g 0 0 ec)))) = M_19 at I h0__M_17_n hav__M_17_n hak__M_17_n hat__M_17_n haw__M_17_n has__M_17_n han__M_17_n hsa__M_17_n hrr__M_17_n
      have h0__M_19 := h0__M_17_n
      have hav__M_19 := hav__M_17_n
      have hak__M_19 := hak__M_17_n
      have hat__M_19 := hat__M_17_n
      have haw__M_19 := haw__M_17_n
      have has__M_19 := has__M_17_n
      have han__M_19 := han__M_17_n
      have hsa__M_19 := hsa__M_17_n
      have hrr__M_19 := hrr__M_17_n
      clear h0__M_17_n hav__M_17_n hak__M_17_n hat__M_17_n haw__M_17_n has__M_17_n han__M_17_n hsa__M_17_n hrr__M_17_n
      refine lv_aload_n hx hb dD_mark_55 rfl (lv_at hl 1 rfl) ?_
      refine lv_dup hx hb dD_mark_56 rfl ?_
      refine mp_get (v := .int (nI nc)) hx hb hts inD hown I h0__M_19 rfl 10 (by decide) (hts _ bw_36) (fun _ h9 => h9) rfl dD_mark_57 ?_
      refine lv_iconst (v := nI 1) hx hb dD_mark_60 (by decide) ?_
      refine zz_iadd hx hb dD_mark_61 ?_
      refine mp_put (v := .int (nI (nc + 1))) (ty := .int) hx hb hts inD tyD okD nmD hown I h0__M_19 rfl 10 (by decide) (hts _ bw_36) (fun _ h9 => h9) rfl (by decide +kernel) rfl rfl (Nat.le_of_ble_eq_true rfl) dD_mark_62 (fun H locs I => ?_)
      have I : mp_I D cls5 (tys6 k) s _ s.heap H locs (mp_up M_19 d (.inr (0, [.ref av, .ref ak, .int (nI ec), .ref at_, .int (nI tc), .ref aw, .int (nI wc), .ref as_, .int (nI sc), .ref an, .int (nI (nc + 1))]))) := I
      have h0__M_19_n : mp_up M_19 d (.inr (0, [.ref av, .ref ak, .int (nI ec), .ref at_, .int (nI tc), .ref aw, .int (nI wc), .ref as_, .int (nI sc), .ref an, .int (nI (nc + 1))])) d = some (.inr (0, [.ref av, .ref ak, .int (nI ec), .ref at_, .int (nI tc), .ref aw, .int (nI wc), .ref as_, .int (nI sc), .ref an, .int (nI (nc + 1))])) := mp_up_s _ _ _
      have hav__M_19_n : mp_up M_19 d (.inr (0, [.ref av, .ref ak, .int (nI ec), .ref at_, .int (nI tc), .ref aw, .int (nI wc), .ref as_, .int (nI sc), .ref an, .int (nI (nc + 1))])) av = some (.inl (k 1, 4000, .inr (.inl va))) := (mp_up_n (mp_ne hav__M_19 h0__M_19 (by simp))).trans hav__M_19
      have hak__M_19_n : mp_up M_19 d (.inr (0, [.ref av, .ref ak, .int (nI ec), .ref at_, .int (nI tc), .ref aw, .int (nI wc), .ref as_, .int (nI sc), .ref an, .int (nI (nc + 1))])) ak = some (.inl (k 0, 4000, .inl (fun i_ => nI (kd i_)))) := (mp_up_n (mp_ne hak__M_19 h0__M_19 (by simp))).trans hak__M_19
      have hat__M_19_n : mp_up M_19 d (.inr (0, [.ref av, .ref ak, .int (nI ec), .ref at_, .int (nI tc), .ref aw, .int (nI wc), .ref as_, .int (nI sc), .ref an, .int (nI (nc + 1))])) at_ = some (.inl (k 2, 300, .inr (.inr (.inr (.inr qt))))) := (mp_up_n (mp_ne hat__M_19 h0__M_19 (by simp))).trans hat__M_19
      have haw__M_19_n : mp_up M_19 d (.inr (0, [.ref av, .ref ak, .int (nI ec), .ref at_, .int (nI tc), .ref aw, .int (nI wc), .ref as_, .int (nI sc), .ref an, .int (nI (nc + 1))])) aw = some (.inl (k 0, 12, .inl (fun i_ => nI (wt i_)))) := (mp_up_n (mp_ne haw__M_19 h0__M_19 (by simp))).trans haw__M_19
      have has__M_19_n : mp_up M_19 d (.inr (0, [.ref av, .ref ak, .int (nI ec), .ref at_, .int (nI tc), .ref aw, .int (nI wc), .ref as_, .int (nI sc), .ref an, .int (nI (nc + 1))])) as_ = some (.inl (k 3, 100, .inr (.inr (.inr (.inr qs))))) := (mp_up_n (mp_ne has__M_19 h0__M_19 (by simp))).trans has__M_19
      have han__M_19_n : mp_up M_19 d (.inr (0, [.ref av, .ref ak, .int (nI ec), .ref at_, .int (nI tc), .ref aw, .int (nI wc), .ref as_, .int (nI sc), .ref an, .int (nI (nc + 1))])) an = some (.inl (k 4, 20, .inr (.inr (.inr (.inr qn))))) := (mp_up_n (mp_ne han__M_19 h0__M_19 (by simp))).trans han__M_19
      have hsa__M_19_n : mp_up M_19 d (.inr (0, [.ref av, .ref ak, .int (nI ec), .ref at_, .int (nI tc), .ref aw, .int (nI wc), .ref as_, .int (nI sc), .ref an, .int (nI (nc + 1))])) (sa nc) = some (.inr (3, [.ref (ra nc), .int (nI ec)])) := (mp_up_n (mp_ne hsa__M_19 h0__M_19 (by simp))).trans hsa__M_19
      have hrr__M_19_n : mp_up M_19 d (.inr (0, [.ref av, .ref ak, .int (nI ec), .ref at_, .int (nI tc), .ref aw, .int (nI wc), .ref as_, .int (nI sc), .ref an, .int (nI (nc + 1))])) (ra nc) = some (.inl (k 1, 4000, .inr (.inl (va_cpy va g 0 0 ec)))) := (mp_up_n (mp_ne hrr__M_19 h0__M_19 (by simp))).trans hrr__M_19
      generalize eM_22 : mp_up M_19 d (.inr (0, [.ref av, .ref ak, .int (nI ec), .ref at_, .int (nI tc), .ref aw, .int (nI wc), .ref as_, .int (nI sc), .ref an, .int (nI (nc + 1))])) = M_21 at I h0__M_19_n hav__M_19_n hak__M_19_n hat__M_19_n haw__M_19_n has__M_19_n han__M_19_n hsa__M_19_n hrr__M_19_n
      have h0__M_21 := h0__M_19_n
      have hav__M_21 := hav__M_19_n
      have hak__M_21 := hak__M_19_n
      have hat__M_21 := hat__M_19_n
      have haw__M_21 := haw__M_19_n
      have has__M_21 := has__M_19_n
      have han__M_21 := han__M_19_n
      have hsa__M_21 := hsa__M_19_n
      have hrr__M_21 := hrr__M_19_n
      clear h0__M_19_n hav__M_19_n hak__M_19_n hat__M_19_n haw__M_19_n has__M_19_n han__M_19_n hsa__M_19_n hrr__M_19_n
      refine lv_aload_n hx hb dD_mark_65 rfl (lv_at hl 1 rfl) ?_
      refine mp_get (v := .int (nI (nc + 1))) hx hb hts inD hown I h0__M_21 rfl 10 (by decide) (hts _ bw_36) (fun _ h9 => h9) rfl dD_mark_66 ?_
      refine lv_iconst (v := nI 1) hx hb dD_mark_69 (by decide) ?_
      refine zz_isub hx hb (by omega) dD_mark_70 ?_
      have hF : ∀ b : Nat, b ≠ sa nc → b ≠ ra nc → b ≠ d → M_21 b = M b := by
        intro b gq gr gd
        rw [← eM_22, mp_up_n gd, ← eM_20, mp_up_n gr, ← eM_18, mp_up_n gq]
      have hF2 : ∀ (b : Nat) (x : va_E), M b = some x → b ≠ sa nc → b ≠ ra nc → b ≠ d → M_21 b = M b := fun b x hx h1 h2 h3 => hF b h1 h2 h3
      have hD := hD.mark M_21 (sa nc) (ra nc) qn (va_cpy va g 0 0 ec) (by omega) (by omega) h0__M_21 (hav__M_21.trans hav.symm) (hak__M_21.trans hak.symm) (hat__M_21.trans hat.symm) (haw__M_21.trans haw.symm) (has__M_21.trans has.symm) han__M_21 (fun i a hi h1 => by obtain ⟨a2, z1, z2⟩ := hth i hi; cases h1.symm.trans z1; exact hF2 _ _ z2 (mp_ne z2 hsa (by simp)) (mp_ne z2 hrr (by simp)) (mp_ne z2 h0 (by simp))) (fun i a hi h1 => by obtain ⟨a2, z1, z2⟩ := hsp i hi; cases h1.symm.trans z1; exact hF2 _ _ z2 (mp_ne z2 hsa (by simp)) (mp_ne z2 hrr (by simp)) (mp_ne z2 h0 (by simp))) (fun i hi e hn => by rcases hsn i hi with ⟨z1, z2⟩ | ⟨z1, z2, cn, g, z3, z4, z5⟩; exact absurd z1 hn; exact ⟨hF _ (hij i nc hi (by omega) hn (by rw [hqn]; simp) e).1 (mp_ne z3 hrr (by simp)) (mp_ne z3 h0 (by simp)), hF _ (mp_ne z4 hsa (by simp)) (hij i nc hi (by omega) hn (by rw [hqn]; simp) e).2 (mp_ne z4 h0 (by simp))⟩) hsa__M_21 hrr__M_21 (fun j hj => by rw [pk_cpy_in (by omega) (by omega)]; simp) hra hqn (fun i e => rfl) (fun i hi e hn => hij i nc hi (by omega) hn (by rw [hqn]; simp) e)
      exact mp_iret hx hb hr hlocks I (Nat.le_of_ble_eq_true rfl) (Nat.le_of_ble_eq_true rfl) dD_mark_71 (Or.inl ⟨by omega, rfl, _, _, _, hD⟩)
  · refine lv_iconst (v := (-1)) hx hb dD_mark_9 (by decide) ?_
    exact mp_iret hx hb hr hlocks I (Nat.le_of_ble_eq_true rfl) (Nat.le_of_ble_eq_true rfl) dD_mark_10 (Or.inr ⟨by omega, rfl, rfl⟩)
/-- values gone back to -/
def vbk (va f : Nat → Int64) (n : Nat) : Nat → Int64 := fun j => if j < n then f j else va j
theorem vbk_cpy {va f g : Nat → Int64} {n : Nat} (h : ∀ j, j < n → g j = f j) : va_cpy g va 0 0 n = vbk va f n := by
  funext j
  unfold va_cpy vbk
  by_cases hj : j < n
  · rw [if_pos (by omega), if_pos hj, show 0 + (j - 0) = j by omega]
    exact h j hj
  · rw [if_neg (by omega), if_neg hj]
theorem dif_congr {va f g : Nat → Int64} : ∀ {n : Nat}, (∀ j, j < n → g j = f j) → dif va g n = dif va f n
  | 0, _ => rfl
  | n + 1, h => by
    show dif va g n + _ = dif va f n + _
    rw [dif_congr (fun j hj => h j (by omega)), h n (by omega)]
abbrev rm_D_back : Room := { frames := 2, cells := 0, slots := 0, locals := 90 }
set_option maxHeartbeats 4000000 in
set_option maxRecDepth 100000 in
theorem kD_back (l : Launch) (D : va_G) (k : Nat → ClassId) (M : mp_M) {d av ak at_ aw as_ an : Nat} {qt qs qn : Nat → Option Nat} {sa ra : Nat → Nat} {ec tc wc sc nc : Nat} {va : Nat → Int64} {kd wt tk tf tz sk sf sw sl nn : Nat → Nat} {nv : Nat → Nat → Int64} (hD : DkX k M d av ak at_ aw as_ an qt qs qn sa ra ec tc wc sc nc va kd wt tk tf tz sk sf sw sl nn nv) (hO : OkB ec tc wc sc nc tk tf tz sk sf sw sl nn) (x : Int32) : mp_Met l yD_back (Cond.code yD_back cD_back 4 (some .int) :: bw) rm_D_back D cls5 (tys6 k) [.ref d, .int x] M (va_Qi (fun r M1 => ((0 ≤ x.toInt ∧ x.toInt < nc) ∧ ∃ i : Nat, x.toInt = i ∧ r = nI (dif va (nv i) (nn i)) ∧ DkX k M1 d av ak at_ aw as_ an qt qs qn sa ra ec tc wc sc (i + 1) (vbk va (nv i) (nn i)) kd wt tk tf tz sk sf sw sl nn nv) ∨ (¬ (0 ≤ x.toInt ∧ x.toInt < nc) ∧ r = -1 ∧ M1 = M))) 0 0 := by
  refine mp_Met.of (by decide) (Nat.le_of_ble_eq_true rfl) ?_
  intro p e s m below meth c hx hb hr hml hown hts hlocks hin ls hl I
  have hl : lv_has ls 4 [(0, .ref d), (1, .int x)] := hl
  obtain ⟨h0, hav, hak, hat, haw, has, han, hth, hsp, hsn, hij⟩ := id hD
  obtain ⟨b1, b2, b3, b4, b5, bT, bS, bN⟩ := id hO
  refine lv_aload_n hx hb dD_back_0 rfl (lv_at hl 0 rfl) ?_
  refine lv_iload_n hx hb dD_back_1 rfl (lv_at hl 1 rfl) ?_
  refine mp_callq (va_runV (As := [.int x]) (rest := []) ⟨hx, hb, hml, hown, hts⟩ (kD_findSnapshot l D k M hD hO x _) (cwV 1 hts (bw_V bw_200 bw_202 bs_5 bw_1 bw_203) rfl rfl rfl (by decide +kernel) ⟨Nat.le_of_ble_eq_true rfl, Nat.le_of_ble_eq_true rfl⟩) (mp_preV I h0 rfl _) rfl rfl hl.1 rfl (lv_room (Nat.le_of_ble_eq_true rfl)) dD_back_2 ⟨Nat.le_of_ble_eq_true rfl, Nat.le_of_ble_eq_true rfl⟩) I (fun r_1 N1 H locs hp I => ?_)
  obtain ⟨e_2, hp⟩ := hp
  rw [e_2] at I
  rcases hp with ⟨i, a, hii, hzi, rfl, rfl, hra, g, hsa, hrr, hcn, hg⟩ | ⟨pni, rfl⟩
  · dsimp only [va_rf]
    have hxi : x.toInt.toNat = i := by omega
    obtain ⟨xn, hxn, rfl, hz_xn⟩ := i32_nat (x := x) (by omega)
    obtain rfl : i = xn := by omega
    refine lv_astore_n (lv' := [(2, .ref (sa i)), (0, .ref d), (1, .int (nI i))]) hx hb dD_back_5 rfl hl (by decide) rfl (fun ls hl => ?_)
    refine lv_aload_n hx hb dD_back_6 rfl (lv_at hl 0 rfl) ?_
    refine lv_ifnonnull (tgt := 12) hx hb dD_back_7 (by decide) ?_
    refine lv_aload_n hx hb dD_back_12 rfl (lv_at hl 0 rfl) ?_
    refine lv_aload_n hx hb dD_back_13 rfl (lv_at hl 1 rfl) ?_
    refine mp_get (v := .ref av) hx hb hts inD hown I h0 rfl 0 (by decide) (hts _ bw_26) (fun _ h9 => h9) rfl dD_back_14 ?_
    refine mp_calli (va_runV (As := [.ref av]) (rest := []) ⟨hx, hb, hml, hown, hts⟩ (kN_differences l D k M (sa i) av (ra i) (nn i) va g hsa hav hrr hcn _) (cwV 1 hts (bw_V bw_204 bw_205 bw_206 bw_11 bw_207) rfl rfl rfl (by decide +kernel) ⟨Nat.le_of_ble_eq_true rfl, Nat.le_of_ble_eq_true rfl⟩) (mp_preV I hsa rfl _) rfl rfl hl.1 rfl (lv_room (Nat.le_of_ble_eq_true rfl)) dD_back_17 ⟨Nat.le_of_ble_eq_true rfl, Nat.le_of_ble_eq_true rfl⟩) I (fun rd N1 H locs hp I => ?_)
    obtain ⟨e_3, hp⟩ := hp
    rw [e_3] at I
    rw [dif_congr hg] at hp
    subst hp
    have hdl := dif_le va (nv i) (nn i)
    refine lv_istore_n (lv' := [(3, .int (nI (dif va (nv i) (nn i)))), (2, .ref (sa i)), (0, .ref d), (1, .int (nI i))]) hx hb dD_back_20 rfl hl (by decide) rfl (fun ls hl => ?_)
    refine lv_aload_n hx hb dD_back_21 rfl (lv_at hl 1 rfl) ?_
    refine lv_aload_n hx hb dD_back_22 rfl (lv_at hl 2 rfl) ?_
    refine mp_get (v := .ref av) hx hb hts inD hown I h0 rfl 0 (by decide) (hts _ bw_26) (fun _ h9 => h9) rfl dD_back_23 ?_
    refine mp_callv (va_runV (As := [.ref av]) (rest := []) ⟨hx, hb, hml, hown, hts⟩ (kN_restore l D k M (sa i) av (ra i) (nn i) va g hsa hav hrr (Ne.symm hra) hcn _) (cwV 1 hts (bw_V bw_208 bw_209 bw_210 bw_11 bw_211) rfl rfl rfl (by decide +kernel) ⟨Nat.le_of_ble_eq_true rfl, Nat.le_of_ble_eq_true rfl⟩) (mp_preV I hsa rfl _) rfl rfl hl.1 rfl (lv_room (Nat.le_of_ble_eq_true rfl)) dD_back_26 ⟨Nat.le_of_ble_eq_true rfl, Nat.le_of_ble_eq_true rfl⟩) I (fun N1 H locs hp I => ?_)
    rw [vbk_cpy hg] at hp
    rw [hp] at I
    have I : mp_I D cls5 (tys6 k) s _ s.heap H locs (mp_up M av (.inl (k 1, 4000, .inr (.inl (vbk va (nv i) (nn i)))))) := I
    have hav_n : mp_up M av (.inl (k 1, 4000, .inr (.inl (vbk va (nv i) (nn i))))) av = some (.inl (k 1, 4000, .inr (.inl (vbk va (nv i) (nn i))))) := mp_up_s _ _ _
    have h0_n : mp_up M av (.inl (k 1, 4000, .inr (.inl (vbk va (nv i) (nn i))))) d = some (.inr (0, [.ref av, .ref ak, .int (nI ec), .ref at_, .int (nI tc), .ref aw, .int (nI wc), .ref as_, .int (nI sc), .ref an, .int (nI nc)])) := (mp_up_n (mp_ne h0 hav (by simp))).trans h0
    have hak_n : mp_up M av (.inl (k 1, 4000, .inr (.inl (vbk va (nv i) (nn i))))) ak = some (.inl (k 0, 4000, .inl (fun i_ => nI (kd i_)))) := (mp_up_n (mp_ne hak hav (by simp))).trans hak
    have hat_n : mp_up M av (.inl (k 1, 4000, .inr (.inl (vbk va (nv i) (nn i))))) at_ = some (.inl (k 2, 300, .inr (.inr (.inr (.inr qt))))) := (mp_up_n (mp_ne hat hav (by simp))).trans hat
    have haw_n : mp_up M av (.inl (k 1, 4000, .inr (.inl (vbk va (nv i) (nn i))))) aw = some (.inl (k 0, 12, .inl (fun i_ => nI (wt i_)))) := (mp_up_n (mp_ne haw hav (by simp))).trans haw
    have has_n : mp_up M av (.inl (k 1, 4000, .inr (.inl (vbk va (nv i) (nn i))))) as_ = some (.inl (k 3, 100, .inr (.inr (.inr (.inr qs))))) := (mp_up_n (mp_ne has hav (by simp))).trans has
    have han_n : mp_up M av (.inl (k 1, 4000, .inr (.inl (vbk va (nv i) (nn i))))) an = some (.inl (k 4, 20, .inr (.inr (.inr (.inr qn))))) := (mp_up_n (mp_ne han hav (by simp))).trans han
    have hsa_n : mp_up M av (.inl (k 1, 4000, .inr (.inl (vbk va (nv i) (nn i))))) (sa i) = some (.inr (3, [.ref (ra i), .int (nI (nn i))])) := (mp_up_n (mp_ne hsa hav (by simp))).trans hsa
    have hrr_n : mp_up M av (.inl (k 1, 4000, .inr (.inl (vbk va (nv i) (nn i))))) (ra i) = some (.inl (k 1, 4000, .inr (.inl g))) := (mp_up_n hra).trans hrr
    generalize eM_5 : mp_up M av (.inl (k 1, 4000, .inr (.inl (vbk va (nv i) (nn i))))) = M_4 at I h0_n hav_n hak_n hat_n haw_n has_n han_n hsa_n hrr_n
    have h0__M_4 := h0_n
    have hav__M_4 := hav_n
    have hak__M_4 := hak_n
    have hat__M_4 := hat_n
    have haw__M_4 := haw_n
    have has__M_4 := has_n
    have han__M_4 := han_n
    have hsa__M_4 := hsa_n
    have hrr__M_4 := hrr_n
    clear h0_n hav_n hak_n hat_n haw_n has_n han_n hsa_n hrr_n
    have hD := hD.setV (vbk va (nv i) (nn i))
    rw [eM_5] at hD
    refine lv_aload_n hx hb dD_back_29 rfl (lv_at hl 2 rfl) ?_
    refine lv_iload_n hx hb dD_back_30 rfl (lv_at hl 3 rfl) ?_
    refine lv_iconst (v := nI 1) hx hb dD_back_31 (by decide) ?_
    refine zz_iadd hx hb dD_back_32 ?_
    refine mp_put (v := .int (nI (i + 1))) (ty := .int) hx hb hts inD tyD okD nmD hown I h0__M_4 rfl 10 (by decide) (hts _ bw_36) (fun _ h9 => h9) rfl (by decide +kernel) rfl rfl (Nat.le_of_ble_eq_true rfl) dD_back_33 (fun H locs I => ?_)
    have I : mp_I D cls5 (tys6 k) s _ s.heap H locs (mp_up M_4 d (.inr (0, [.ref av, .ref ak, .int (nI ec), .ref at_, .int (nI tc), .ref aw, .int (nI wc), .ref as_, .int (nI sc), .ref an, .int (nI (i + 1))]))) := I
    have h0__M_4_n : mp_up M_4 d (.inr (0, [.ref av, .ref ak, .int (nI ec), .ref at_, .int (nI tc), .ref aw, .int (nI wc), .ref as_, .int (nI sc), .ref an, .int (nI (i + 1))])) d = some (.inr (0, [.ref av, .ref ak, .int (nI ec), .ref at_, .int (nI tc), .ref aw, .int (nI wc), .ref as_, .int (nI sc), .ref an, .int (nI (i + 1))])) := mp_up_s _ _ _
    have hav__M_4_n : mp_up M_4 d (.inr (0, [.ref av, .ref ak, .int (nI ec), .ref at_, .int (nI tc), .ref aw, .int (nI wc), .ref as_, .int (nI sc), .ref an, .int (nI (i + 1))])) av = some (.inl (k 1, 4000, .inr (.inl (vbk va (nv i) (nn i))))) := (mp_up_n (mp_ne hav__M_4 h0__M_4 (by simp))).trans hav__M_4
    have hak__M_4_n : mp_up M_4 d (.inr (0, [.ref av, .ref ak, .int (nI ec), .ref at_, .int (nI tc), .ref aw, .int (nI wc), .ref as_, .int (nI sc), .ref an, .int (nI (i + 1))])) ak = some (.inl (k 0, 4000, .inl (fun i_ => nI (kd i_)))) := (mp_up_n (mp_ne hak__M_4 h0__M_4 (by simp))).trans hak__M_4
    have hat__M_4_n : mp_up M_4 d (.inr (0, [.ref av, .ref ak, .int (nI ec), .ref at_, .int (nI tc), .ref aw, .int (nI wc), .ref as_, .int (nI sc), .ref an, .int (nI (i + 1))])) at_ = some (.inl (k 2, 300, .inr (.inr (.inr (.inr qt))))) := (mp_up_n (mp_ne hat__M_4 h0__M_4 (by simp))).trans hat__M_4
    have haw__M_4_n : mp_up M_4 d (.inr (0, [.ref av, .ref ak, .int (nI ec), .ref at_, .int (nI tc), .ref aw, .int (nI wc), .ref as_, .int (nI sc), .ref an, .int (nI (i + 1))])) aw = some (.inl (k 0, 12, .inl (fun i_ => nI (wt i_)))) := (mp_up_n (mp_ne haw__M_4 h0__M_4 (by simp))).trans haw__M_4
    have has__M_4_n : mp_up M_4 d (.inr (0, [.ref av, .ref ak, .int (nI ec), .ref at_, .int (nI tc), .ref aw, .int (nI wc), .ref as_, .int (nI sc), .ref an, .int (nI (i + 1))])) as_ = some (.inl (k 3, 100, .inr (.inr (.inr (.inr qs))))) := (mp_up_n (mp_ne has__M_4 h0__M_4 (by simp))).trans has__M_4
    have han__M_4_n : mp_up M_4 d (.inr (0, [.ref av, .ref ak, .int (nI ec), .ref at_, .int (nI tc), .ref aw, .int (nI wc), .ref as_, .int (nI sc), .ref an, .int (nI (i + 1))])) an = some (.inl (k 4, 20, .inr (.inr (.inr (.inr qn))))) := (mp_up_n (mp_ne han__M_4 h0__M_4 (by simp))).trans han__M_4
    have hsa__M_4_n : mp_up M_4 d (.inr (0, [.ref av, .ref ak, .int (nI ec), .ref at_, .int (nI tc), .ref aw, .int (nI wc), .ref as_, .int (nI sc), .ref an, .int (nI (i + 1))])) (sa i) = some (.inr (3, [.ref (ra i), .int (nI (nn i))])) := (mp_up_n (mp_ne hsa__M_4 h0__M_4 (by simp))).trans hsa__M_4
    have hrr__M_4_n : mp_up M_4 d (.inr (0, [.ref av, .ref ak, .int (nI ec), .ref at_, .int (nI tc), .ref aw, .int (nI wc), .ref as_, .int (nI sc), .ref an, .int (nI (i + 1))])) (ra i) = some (.inl (k 1, 4000, .inr (.inl g))) := (mp_up_n (mp_ne hrr__M_4 h0__M_4 (by simp))).trans hrr__M_4
    generalize eM_7 : mp_up M_4 d (.inr (0, [.ref av, .ref ak, .int (nI ec), .ref at_, .int (nI tc), .ref aw, .int (nI wc), .ref as_, .int (nI sc), .ref an, .int (nI (i + 1))])) = M_6 at I h0__M_4_n hav__M_4_n hak__M_4_n hat__M_4_n haw__M_4_n has__M_4_n han__M_4_n hsa__M_4_n hrr__M_4_n
    have h0__M_6 := h0__M_4_n
    have hav__M_6 := hav__M_4_n
    have hak__M_6 := hak__M_4_n
    have hat__M_6 := hat__M_4_n
    have haw__M_6 := haw__M_4_n
    have has__M_6 := has__M_4_n
    have han__M_6 := han__M_4_n
    have hsa__M_6 := hsa__M_4_n
    have hrr__M_6 := hrr__M_4_n
    clear h0__M_4_n hav__M_4_n hak__M_4_n hat__M_4_n haw__M_4_n has__M_4_n han__M_4_n hsa__M_4_n hrr__M_4_n
    have hD := hD.cntNle (i + 1) (by omega)
    rw [eM_7] at hD
    refine lv_iload_n hx hb dD_back_36 rfl (lv_at hl 0 rfl) ?_
    exact mp_iret hx hb hr hlocks I (Nat.le_of_ble_eq_true rfl) (Nat.le_of_ble_eq_true rfl) dD_back_37 (Or.inl ⟨by omega, i, hz_xn, rfl, hD⟩)
  · dsimp only [va_rf]
    refine lv_astore_nN (lv' := [(2, .null), (0, .ref d), (1, .int x)]) hx hb dD_back_5 rfl hl (by decide) rfl (fun ls hl => ?_)
    refine lv_aload_nN hx hb dD_back_6 rfl (lv_at hl 0 rfl) ?_
    refine lv_ifnonnullN hx hb dD_back_7 ?_
    refine lv_iconst (v := (-1)) hx hb dD_back_10 (by decide) ?_
    exact mp_iret hx hb hr hlocks I (Nat.le_of_ble_eq_true rfl) (Nat.le_of_ble_eq_true rfl) dD_back_11 (Or.inr ⟨by omega, rfl, rfl⟩)
abbrev rm_D_changed : Room := { frames := 1, cells := 0, slots := 0, locals := 30 }
set_option maxHeartbeats 4000000 in
set_option maxRecDepth 100000 in
theorem kD_changed (l : Launch) (D : va_G) (k : Nat → ClassId) (M : mp_M) {d av ak at_ aw as_ an : Nat} {qt qs qn : Nat → Option Nat} {sa ra : Nat → Nat} {ec tc wc sc nc : Nat} {va : Nat → Int64} {kd wt tk tf tz sk sf sw sl nn : Nat → Nat} {nv : Nat → Nat → Int64} (hD : DkX k M d av ak at_ aw as_ an qt qs qn sa ra ec tc wc sc nc va kd wt tk tf tz sk sf sw sl nn nv) (hO : OkB ec tc wc sc nc tk tf tz sk sf sw sl nn) (x : Int32) : mp_Met l yD_changed (Cond.code yD_changed cD_changed 3 (some .int) :: bw) rm_D_changed D cls5 (tys6 k) [.ref d, .int x] M (va_Qi (fun r M1 => M1 = M ∧ r = if 0 ≤ x.toInt ∧ x.toInt < (nc : Int) then nI (dif va (nv x.toInt.toNat) (nn x.toInt.toNat)) else -1)) 0 0 := by
  refine mp_Met.of (by decide) (Nat.le_of_ble_eq_true rfl) ?_
  intro p e s m below meth c hx hb hr hml hown hts hlocks hin ls hl I
  have hl : lv_has ls 3 [(0, .ref d), (1, .int x)] := hl
  obtain ⟨h0, hav, hak, hat, haw, has, han, hth, hsp, hsn, hij⟩ := id hD
  obtain ⟨b1, b2, b3, b4, b5, bT, bS, bN⟩ := id hO
  refine lv_aload_n hx hb dD_changed_0 rfl (lv_at hl 0 rfl) ?_
  refine lv_iload_n hx hb dD_changed_1 rfl (lv_at hl 1 rfl) ?_
  refine mp_callq (va_runV (As := [.int x]) (rest := []) ⟨hx, hb, hml, hown, hts⟩ (kD_findSnapshot l D k M hD hO x _) (cwV 1 hts (bw_V bw_200 bw_202 bs_5 bw_1 bw_203) rfl rfl rfl (by decide +kernel) ⟨Nat.le_of_ble_eq_true rfl, Nat.le_of_ble_eq_true rfl⟩) (mp_preV I h0 rfl _) rfl rfl hl.1 rfl (lv_room (Nat.le_of_ble_eq_true rfl)) dD_changed_2 ⟨Nat.le_of_ble_eq_true rfl, Nat.le_of_ble_eq_true rfl⟩) I (fun r_1 N1 H locs hp I => ?_)
  obtain ⟨e_2, hp⟩ := hp
  rw [e_2] at I
  rcases hp with ⟨i, a, hii, hzi, rfl, rfl, hra, g, hsa, hrr, hcn, hg⟩ | ⟨pni, rfl⟩
  · dsimp only [va_rf]
    have hxi : x.toInt.toNat = i := by omega
    refine lv_astore_n (lv' := [(2, .ref (sa i)), (0, .ref d), (1, .int x)]) hx hb dD_changed_5 rfl hl (by decide) rfl (fun ls hl => ?_)
    refine lv_aload_n hx hb dD_changed_6 rfl (lv_at hl 0 rfl) ?_
    refine lv_ifnonnull (tgt := 14) hx hb dD_changed_7 (by decide) ?_
    refine lv_aload_n hx hb dD_changed_14 rfl (lv_at hl 0 rfl) ?_
    refine lv_aload_n hx hb dD_changed_15 rfl (lv_at hl 1 rfl) ?_
    refine mp_get (v := .ref av) hx hb hts inD hown I h0 rfl 0 (by decide) (hts _ bw_26) (fun _ h9 => h9) rfl dD_changed_16 ?_
    refine mp_calli (va_runV (As := [.ref av]) (rest := []) ⟨hx, hb, hml, hown, hts⟩ (kN_differences l D k M (sa i) av (ra i) (nn i) va g hsa hav hrr hcn _) (cwV 1 hts (bw_V bw_204 bw_205 bw_206 bw_11 bw_207) rfl rfl rfl (by decide +kernel) ⟨Nat.le_of_ble_eq_true rfl, Nat.le_of_ble_eq_true rfl⟩) (mp_preV I hsa rfl _) rfl rfl hl.1 rfl (lv_room (Nat.le_of_ble_eq_true rfl)) dD_changed_19 ⟨Nat.le_of_ble_eq_true rfl, Nat.le_of_ble_eq_true rfl⟩) I (fun rd N1 H locs hp I => ?_)
    obtain ⟨e_3, hp⟩ := hp
    rw [e_3] at I
    rw [dif_congr hg] at hp
    subst hp
    have hdl := dif_le va (nv i) (nn i)
    exact mp_iret hx hb hr hlocks I (Nat.le_of_ble_eq_true rfl) (Nat.le_of_ble_eq_true rfl) dD_changed_22 ⟨rfl, by rw [if_pos (show 0 ≤ x.toInt ∧ x.toInt < (nc : Int) by omega), hxi]⟩
  · dsimp only [va_rf]
    refine lv_astore_nN (lv' := [(2, .null), (0, .ref d), (1, .int x)]) hx hb dD_changed_5 rfl hl (by decide) rfl (fun ls hl => ?_)
    refine lv_aload_nN hx hb dD_changed_6 rfl (lv_at hl 0 rfl) ?_
    refine lv_ifnonnullN hx hb dD_changed_7 ?_
    refine lv_iconst (v := (-1)) hx hb dD_changed_10 (by decide) ?_
    refine lv_goto (tgt := 22) hx hb dD_changed_11 (by decide) ?_
    exact mp_iret hx hb hr hlocks I (Nat.le_of_ble_eq_true rfl) (Nat.le_of_ble_eq_true rfl) dD_changed_22 ⟨rfl, by rw [if_neg (by omega)]⟩
end
section
/-- the bits of a view, rank by rank -/
def rdb (va : Nat → Int64) (f wd b : Nat) : Nat → Int64
  | 0 => 0
  | i + 1 => (rdb va f wd b i <<< ((nI 8).toInt64 &&& 63)) ||| (va (ixb f wd b i) &&& 255)
def rdv (va : Nat → Int64) (x f wd b : Nat) : Int64 := if wd = 1 then va f else lb x (rdb va f wd b wd)
def shv (v : Int64) : Nat → Int64
  | 0 => v
  | i + 1 => shv v i >>> ((nI 8).toInt64 &&& 63)
def wrF (va : Nat → Int64) (f wd b : Nat) (v : Int64) : Nat → Nat → Int64
  | 0 => va
  | i + 1 => vp_updL (wrF va f wd b v i) (ixb f wd b (wd - 1 - i)) (lb 2 (shv v i))
def wrv (va : Nat → Int64) (f wd b : Nat) (v : Int64) : Nat → Int64 := if wd = 1 then vp_updL va f v else wrF va f wd b v wd
theorem ixb_lt {f wd b i n : Nat} (h : i < wd) (hn : f + wd ≤ n) : ixb f wd b i < n := by
  unfold ixb
  split <;> omega
def rkI (wd i : Nat) : Int32 := if i < wd then nI (wd - 1 - i) else -1
theorem rk_n {wd i : Nat} (h : i < wd) : rkI wd i = nI (wd - 1 - i) := if_pos h
theorem rk_0 {wd : Nat} (h : 1 ≤ wd) : nI (wd - 1) = rkI wd 0 := by rw [rk_n (by omega)]; rfl
theorem rk_z {wd i : Nat} (h : i ≤ wd) (h8 : wd ≤ 8) : (rkI wd i).toInt = (wd : Int) - 1 - (i : Int) := by
  unfold rkI
  split
  · rw [nI_toInt (by omega)]
    omega
  · show (-1 : Int) = _
    omega
theorem rk_s {wd i : Nat} (h : i < wd) : nI (wd - 1 - i) + Int32.ofInt (-1) = rkI wd (i + 1) := by
  unfold rkI
  split
  · rw [show wd - 1 - i = (wd - 1 - (i + 1)) + 1 by omega]
    exact pk_m1 _
  · rw [show wd - 1 - i = 0 by omega]
    rfl
abbrev rm_D_read : Room := { frames := 1, cells := 0, slots := 0, locals := 30 }
set_option maxHeartbeats 4000000 in
set_option maxRecDepth 100000 in
theorem kD_read (l : Launch) (D : va_G) (k : Nat → ClassId) (M : mp_M) {d av ak at_ aw as_ an : Nat} {qt qs qn : Nat → Option Nat} {sa ra : Nat → Nat} {ec tc wc sc nc : Nat} {va : Nat → Int64} {kd wt tk tf tz sk sf sw sl nn : Nat → Nat} {nv : Nat → Nat → Int64} (hD : DkX k M d av ak at_ aw as_ an qt qs qn sa ra ec tc wc sc nc va kd wt tk tf tz sk sf sw sl nn nv) (hO : OkB ec tc wc sc nc tk tf tz sk sf sw sl nn) (h1 x f wd b : Nat) (hSp : M h1 = some (.inr (2, [.int (nI x), .int (nI f), .int (nI wd), .int (nI b)]))) (hx7 : x ≤ 7) (hw1 : 1 ≤ wd) (hw8 : wd ≤ 8) (hfw : f + wd ≤ 4000) (hb1 : b ≤ 1) : mp_Met l yD_read (Cond.code yD_read cD_read 5 (some .long) :: bw) rm_D_read D cls5 (tys6 k) [.ref d, .ref h1] M (va_Ql (fun r M1 => M1 = M ∧ r = rdv va x f wd b)) 0 0 := by
  refine mp_Met.of (by decide) (Nat.le_of_ble_eq_true rfl) ?_
  intro p e s m below meth c hx hb hr hml hown hts hlocks hin ls hl I
  have hl : lv_has ls 5 [(0, .ref d), (1, .ref h1)] := hl
  obtain ⟨h0, hav, hak, hat, haw, has, han, hth, hsp, hsn, hij⟩ := id hD
  obtain ⟨b1, b2, b3, b4, b5, bT, bS, bN⟩ := id hO
  refine lv_aload_n hx hb dD_read_0 rfl (lv_at hl 1 rfl) ?_
  refine mp_get (v := .int (nI wd)) hx hb hts inS hown I hSp rfl 2 (by decide) (hts _ bw_137) (fun _ h9 => h9) rfl dD_read_1 ?_
  refine lv_iconst (v := nI 1) hx hb dD_read_4 (by decide) ?_
  refine zz_icmp_ne (tgt := 18) hx hb (nI_toInt (by first | assumption | omega)) (nI_toInt (by decide)) dD_read_5 (by decide) (fun c_1 => ?_) (fun c_1 => ?_)
  · refine lv_lconst (v := 0) hx hb dD_read_18 (by decide) ?_
    refine lv_lstore_n (lv' := [(2, .long 0), (0, .ref d), (1, .ref h1)]) hx hb dD_read_19 rfl hl (by decide) rfl (fun ls hl => ?_)
    refine lv_iconst (v := nI 0) hx hb dD_read_20 (by decide) ?_
    refine lv_istore (lv' := [(4, .int (nI 0)), (2, .long 0), (0, .ref d), (1, .ref h1)]) hx hb dD_read_21 hl (by decide) rfl (fun ls hl => ?_)
    refine mp_loop wd 5 (fun i => [(4, .int (nI i)), (2, .long (rdb va f wd b i)), (0, .ref d), (1, .ref h1)]) (fun i => M) 0 (by omega) (lv_sub hl [0, 1, 2, 3] rfl) I ?_
    intro i H locs ls hi0_i hi_i hl I ih_i
    have hl : lv_has ls 5 [(4, .int (nI i)), (2, .long (rdb va f wd b i)), (0, .ref d), (1, .ref h1)] := hl
    have I : mp_I D cls5 (tys6 k) s _ s.heap H locs (M) := I
    refine lv_iload hx hb dD_read_23 (lv_at hl 0 rfl) ?_
    refine lv_aload_n hx hb dD_read_25 rfl (lv_at hl 3 rfl) ?_
    refine mp_get (v := .int (nI wd)) hx hb hts inS hown I hSp rfl 2 (by decide) (hts _ bw_137) (fun _ h9 => h9) rfl dD_read_26 ?_
    refine zz_icmp_ge (tgt := 59) hx hb (nI_toInt (by first | assumption | omega)) (nI_toInt (by first | assumption | omega)) dD_read_29 (by decide) (fun c_2 => ?_) (fun c_2 => ?_)
    · refine lv_aload_n hx hb dD_read_59 rfl (lv_at hl 3 rfl) ?_
      refine mp_get (v := .int (nI x)) hx hb hts inS hown I hSp rfl 0 (by decide) (hts _ bw_133) (fun _ h9 => h9) rfl dD_read_60 ?_
      refine lv_lload_n hx hb dD_read_63 rfl (lv_at hl 1 rfl) ?_
      refine mp_calll (va_runS (As := [.int (nI x), .long (rdb va f wd b i)]) (rest := []) ⟨hx, hb, hml, hown, hts⟩ (kD_lowestBits l D k M x (rdb va f wd b i) hx7 _) (cwS 2 hts (bw_S bw_298 bw_299 bw_1 bw_300) rfl rfl rfl (by decide +kernel) ⟨Nat.le_of_ble_eq_true rfl, Nat.le_of_ble_eq_true rfl⟩) (mp_preS I _) rfl rfl hl.1 rfl (lv_room (Nat.le_of_ble_eq_true rfl)) dD_read_64 ⟨Nat.le_of_ble_eq_true rfl, Nat.le_of_ble_eq_true rfl⟩) I (fun r1 N1 H locs hp I => ?_)
      obtain ⟨e_3, hp⟩ := hp
      rw [e_3] at I
      subst hp
      exact mp_lret hx hb hr hlocks I (Nat.le_of_ble_eq_true rfl) (Nat.le_of_ble_eq_true rfl) dD_read_67 ⟨rfl, by unfold rdv; rw [if_neg (by omega), show i = wd by omega]⟩
    · refine lv_lload_n hx hb dD_read_32 rfl (lv_at hl 1 rfl) ?_
      refine lv_bipush (v := nI 8) hx hb dD_read_33 (by decide) ?_
      refine lv_lshl (v := (rdb va f wd b i) <<< ((nI 8).toInt64 &&& 63)) hx hb dD_read_35 rfl ?_
      refine lv_aload_n hx hb dD_read_36 rfl (lv_at hl 2 rfl) ?_
      refine mp_get (v := .ref av) hx hb hts inD hown I h0 rfl 0 (by decide) (hts _ bw_26) (fun _ h9 => h9) rfl dD_read_37 ?_
      refine lv_aload_n hx hb dD_read_40 rfl (lv_at hl 3 rfl) ?_
      refine lv_iload hx hb dD_read_41 (lv_at hl 0 rfl) ?_
      refine mp_calli (va_runV (As := [.int (nI i)]) (rest := [.ref av, .long ((rdb va f wd b i) <<< ((nI 8).toInt64 &&& 63))]) ⟨hx, hb, hml, hown, hts⟩ (kS_indexOfByte l D k M h1 x f wd b i hSp hb1 (by omega) (by omega) _) (cwV 1 hts (bw_V bw_312 bw_313 bw_314 bw_5 bw_315) rfl rfl rfl (by decide +kernel) ⟨Nat.le_of_ble_eq_true rfl, Nat.le_of_ble_eq_true rfl⟩) (mp_preV I hSp rfl _) rfl rfl hl.1 rfl (lv_room (Nat.le_of_ble_eq_true rfl)) dD_read_43 ⟨Nat.le_of_ble_eq_true rfl, Nat.le_of_ble_eq_true rfl⟩) I (fun r1 N1 H locs hp I => ?_)
      obtain ⟨e_4, hp⟩ := hp
      rw [e_4] at I
      subst hp
      have hix : ixb f wd b i < 4000 := ixb_lt (by omega) hfw
      refine mp_lald hx hb I 1 hav rfl (ixb f wd b i) rfl (by omega) (by decide) (v := va (ixb f wd b i)) rfl dD_read_46 ?_
      refine lv_ldc2 (v := 255) hx hb hown (hts _ bw_316) dD_read_47 ?_
      refine lv_land hx hb dD_read_50 ?_
      refine lv_lor hx hb dD_read_51 ?_
      refine lv_lstore_n (lv' := [(2, .long (((rdb va f wd b i) <<< ((nI 8).toInt64 &&& 63)) ||| ((va (ixb f wd b i)) &&& 255))), (4, .int (nI i)), (0, .ref d), (1, .ref h1)]) hx hb dD_read_52 rfl hl (by decide) rfl (fun ls hl => ?_)
      refine lv_iinc (v := nI (i + 1)) (lv' := [(4, .int (nI (i + 1))), (2, .long (((rdb va f wd b i) <<< ((nI 8).toInt64 &&& 63)) ||| ((va (ixb f wd b i)) &&& 255))), (0, .ref d), (1, .ref h1)]) hx hb dD_read_53 hl (k := 1) rfl (nI_add i 1) (by decide) rfl (fun ls hl => ?_)
      refine lv_goto (tgt := 23) hx hb dD_read_56 (by decide) ?_
      exact ih_i _ _ _ (by omega) (lv_sub hl [0, 1, 2, 3] rfl) I
  · refine lv_aload_n hx hb dD_read_8 rfl (lv_at hl 0 rfl) ?_
    refine mp_get (v := .ref av) hx hb hts inD hown I h0 rfl 0 (by decide) (hts _ bw_26) (fun _ h9 => h9) rfl dD_read_9 ?_
    refine lv_aload_n hx hb dD_read_12 rfl (lv_at hl 1 rfl) ?_
    refine mp_get (v := .int (nI f)) hx hb hts inS hown I hSp rfl 1 (by decide) (hts _ bw_135) (fun _ h9 => h9) rfl dD_read_13 ?_
    refine mp_lald hx hb I 1 hav rfl f rfl (by omega) (by decide) (v := va f) rfl dD_read_16 ?_
    exact mp_lret hx hb hr hlocks I (Nat.le_of_ble_eq_true rfl) (Nat.le_of_ble_eq_true rfl) dD_read_17 ⟨rfl, by unfold rdv; rw [if_pos (by omega)]⟩
abbrev rm_D_write : Room := { frames := 1, cells := 0, slots := 0, locals := 30 }
set_option maxHeartbeats 4000000 in
set_option maxRecDepth 100000 in
theorem kD_write (l : Launch) (D : va_G) (k : Nat → ClassId) (M : mp_M) {d av ak at_ aw as_ an : Nat} {qt qs qn : Nat → Option Nat} {sa ra : Nat → Nat} {ec tc wc sc nc : Nat} {va : Nat → Int64} {kd wt tk tf tz sk sf sw sl nn : Nat → Nat} {nv : Nat → Nat → Int64} (hD : DkX k M d av ak at_ aw as_ an qt qs qn sa ra ec tc wc sc nc va kd wt tk tf tz sk sf sw sl nn nv) (hO : OkB ec tc wc sc nc tk tf tz sk sf sw sl nn) (h1 x f wd b : Nat) (hSp : M h1 = some (.inr (2, [.int (nI x), .int (nI f), .int (nI wd), .int (nI b)]))) (hx7 : x ≤ 7) (hw1 : 1 ≤ wd) (hw8 : wd ≤ 8) (hfw : f + wd ≤ 4000) (hb1 : b ≤ 1) (v : Int64) : mp_Met l yD_write (Cond.code yD_write cD_write 7 none :: bw) rm_D_write D cls5 (tys6 k) [.ref d, .ref h1, .long v] M (va_Qv (fun M1 => M1 = mp_up M av (.inl (k 1, 4000, .inr (.inl (wrv va f wd b v)))))) 0 0 := by
  refine mp_Met.of (by decide) (Nat.le_of_ble_eq_true rfl) ?_
  intro p e s m below meth c hx hb hr hml hown hts hlocks hin ls hl I
  have hl : lv_has ls 7 [(0, .ref d), (1, .ref h1), (2, .long v)] := hl
  obtain ⟨h0, hav, hak, hat, haw, has, han, hth, hsp, hsn, hij⟩ := id hD
  obtain ⟨b1, b2, b3, b4, b5, bT, bS, bN⟩ := id hO
  refine lv_aload_n hx hb dD_write_0 rfl (lv_at hl 1 rfl) ?_
  refine mp_get (v := .int (nI wd)) hx hb hts inS hown I hSp rfl 2 (by decide) (hts _ bw_137) (fun _ h9 => h9) rfl dD_write_1 ?_
  refine lv_iconst (v := nI 1) hx hb dD_write_4 (by decide) ?_
  refine zz_icmp_ne (tgt := 19) hx hb (nI_toInt (by first | assumption | omega)) (nI_toInt (by decide)) dD_write_5 (by decide) (fun c_1 => ?_) (fun c_1 => ?_)
  · refine lv_lload_n hx hb dD_write_19 rfl (lv_at hl 2 rfl) ?_
    refine lv_lstore (lv' := [(4, .long v), (0, .ref d), (1, .ref h1), (2, .long v)]) hx hb dD_write_20 hl (by decide) rfl (fun ls hl => ?_)
    refine lv_aload_n hx hb dD_write_22 rfl (lv_at hl 2 rfl) ?_
    refine mp_get (v := .int (nI wd)) hx hb hts inS hown I hSp rfl 2 (by decide) (hts _ bw_137) (fun _ h9 => h9) rfl dD_write_23 ?_
    refine lv_iconst (v := nI 1) hx hb dD_write_26 (by decide) ?_
    refine zz_isub hx hb (by omega) dD_write_27 ?_
    refine lv_istore (lv' := [(6, .int (nI (wd - 1))), (4, .long v), (0, .ref d), (1, .ref h1), (2, .long v)]) hx hb dD_write_28 hl (by decide) rfl (fun ls hl => ?_)
    rw [rk_0 (by omega)] at hl
    have I := I.to (show M = mp_up M av (.inl (k 1, 4000, .inr (.inl (wrF va f wd b v 0)))) from (mp_upself hav).symm)
    refine mp_loop wd 7 (fun i => [(6, .int (rkI wd i)), (4, .long (shv v i)), (0, .ref d), (1, .ref h1), (2, .long v)]) (fun i => mp_up M av (.inl (k 1, 4000, .inr (.inl (wrF va f wd b v i))))) 0 (by omega) (lv_sub hl [0, 1, 2, 3, 4] rfl) I ?_
    intro i H locs ls hi0_i hi_i hl I ih_i
    have hl : lv_has ls 7 [(6, .int (rkI wd i)), (4, .long (shv v i)), (0, .ref d), (1, .ref h1), (2, .long v)] := hl
    have I : mp_I D cls5 (tys6 k) s _ s.heap H locs (mp_up M av (.inl (k 1, 4000, .inr (.inl (wrF va f wd b v i))))) := I
    have h0__L : mp_up M av (.inl (k 1, 4000, .inr (.inl (wrF va f wd b v i)))) d = some (.inr (0, [.ref av, .ref ak, .int (nI ec), .ref at_, .int (nI tc), .ref aw, .int (nI wc), .ref as_, .int (nI sc), .ref an, .int (nI nc)])) := (mp_up_n (mp_ne h0 hav (by simp))).trans h0
    have hav__L : mp_up M av (.inl (k 1, 4000, .inr (.inl (wrF va f wd b v i)))) av = some (.inl (k 1, 4000, .inr (.inl (wrF va f wd b v i)))) := mp_up_s _ _ _
    have hak__L : mp_up M av (.inl (k 1, 4000, .inr (.inl (wrF va f wd b v i)))) ak = some (.inl (k 0, 4000, .inl (fun i_ => nI (kd i_)))) := (mp_up_n (mp_ne hak hav (by simp))).trans hak
    have hat__L : mp_up M av (.inl (k 1, 4000, .inr (.inl (wrF va f wd b v i)))) at_ = some (.inl (k 2, 300, .inr (.inr (.inr (.inr qt))))) := (mp_up_n (mp_ne hat hav (by simp))).trans hat
    have haw__L : mp_up M av (.inl (k 1, 4000, .inr (.inl (wrF va f wd b v i)))) aw = some (.inl (k 0, 12, .inl (fun i_ => nI (wt i_)))) := (mp_up_n (mp_ne haw hav (by simp))).trans haw
    have has__L : mp_up M av (.inl (k 1, 4000, .inr (.inl (wrF va f wd b v i)))) as_ = some (.inl (k 3, 100, .inr (.inr (.inr (.inr qs))))) := (mp_up_n (mp_ne has hav (by simp))).trans has
    have han__L : mp_up M av (.inl (k 1, 4000, .inr (.inl (wrF va f wd b v i)))) an = some (.inl (k 4, 20, .inr (.inr (.inr (.inr qn))))) := (mp_up_n (mp_ne han hav (by simp))).trans han
    have hSp__L : mp_up M av (.inl (k 1, 4000, .inr (.inl (wrF va f wd b v i)))) h1 = some (.inr (2, [.int (nI x), .int (nI f), .int (nI wd), .int (nI b)])) := (mp_up_n (mp_ne hSp hav (by simp))).trans hSp
    refine lv_iload hx hb dD_write_30 (lv_at hl 0 rfl) ?_
    refine zz_if_lt (tgt := 65) hx hb (rk_z (by omega) hw8) dD_write_32 (by decide) (fun c_2 => ?_) (fun c_2 => ?_)
    · obtain rfl : i = wd := by omega
      exact mp_vret hx hb hr hlocks I (Nat.le_of_ble_eq_true rfl) (Nat.le_of_ble_eq_true rfl) dD_write_65 (by unfold wrv; rw [if_neg (by omega)])
    · rw [rk_n (by omega)] at hl
      refine lv_aload_n hx hb dD_write_35 rfl (lv_at hl 2 rfl) ?_
      refine mp_get (v := .ref av) hx hb hts inD hown I h0__L rfl 0 (by decide) (hts _ bw_26) (fun _ h9 => h9) rfl dD_write_36 ?_
      refine lv_aload_n hx hb dD_write_39 rfl (lv_at hl 3 rfl) ?_
      refine lv_iload hx hb dD_write_40 (lv_at hl 0 rfl) ?_
      refine mp_calli (va_runV (As := [.int (nI (wd - 1 - i))]) (rest := [.ref av]) ⟨hx, hb, hml, hown, hts⟩ (kS_indexOfByte l D k (mp_up M av (.inl (k 1, 4000, .inr (.inl (wrF va f wd b v i))))) h1 x f wd b (wd - 1 - i) hSp__L hb1 (by omega) (by omega) _) (cwV 1 hts (bw_V bw_312 bw_313 bw_314 bw_5 bw_315) rfl rfl rfl (by decide +kernel) ⟨Nat.le_of_ble_eq_true rfl, Nat.le_of_ble_eq_true rfl⟩) (mp_preV I hSp__L rfl _) rfl rfl hl.1 rfl (lv_room (Nat.le_of_ble_eq_true rfl)) dD_write_42 ⟨Nat.le_of_ble_eq_true rfl, Nat.le_of_ble_eq_true rfl⟩) I (fun r1 N1 H locs hp I => ?_)
      obtain ⟨e_3, hp⟩ := hp
      rw [e_3] at I
      subst hp
      have hix : ixb f wd b (wd - 1 - i) < 4000 := ixb_lt (by omega) hfw
      refine lv_iconst (v := nI 2) hx hb dD_write_45 (by decide) ?_
      refine lv_lload hx hb dD_write_46 (lv_at hl 1 rfl) ?_
      refine mp_calll (va_runS (As := [.int (nI 2), .long (shv v i)]) (rest := [.int (nI (ixb f wd b (wd - 1 - i))), .ref av]) ⟨hx, hb, hml, hown, hts⟩ (kD_lowestBits l D k (mp_up M av (.inl (k 1, 4000, .inr (.inl (wrF va f wd b v i))))) 2 (shv v i) (by omega) _) (cwS 2 hts (bw_S bw_298 bw_299 bw_1 bw_300) rfl rfl rfl (by decide +kernel) ⟨Nat.le_of_ble_eq_true rfl, Nat.le_of_ble_eq_true rfl⟩) (mp_preS I _) rfl rfl hl.1 rfl (lv_room (Nat.le_of_ble_eq_true rfl)) dD_write_48 ⟨Nat.le_of_ble_eq_true rfl, Nat.le_of_ble_eq_true rfl⟩) I (fun r1 N1 H locs hp I => ?_)
      obtain ⟨e_4, hp⟩ := hp
      rw [e_4] at I
      subst hp
      refine mp_last hx hb I 1 hav__L rfl (x := lb 2 (shv v i)) (ixb f wd b (wd - 1 - i)) rfl (by omega) (by decide) dD_write_51 (fun H locs I => ?_)
      rw [mp_upup] at I
      have I : mp_I D cls5 (tys6 k) s _ s.heap H locs (mp_up M av (.inl (k 1, 4000, .inr (.inl (wrF va f wd b v (i + 1)))))) := I
      refine lv_lload hx hb dD_write_52 (lv_at hl 1 rfl) ?_
      refine lv_bipush (v := nI 8) hx hb dD_write_54 (by decide) ?_
      refine lv_lshr (v := (shv v i) >>> ((nI 8).toInt64 &&& 63)) hx hb dD_write_56 rfl ?_
      refine lv_lstore (lv' := [(4, .long ((shv v i) >>> ((nI 8).toInt64 &&& 63))), (6, .int (nI (wd - 1 - i))), (0, .ref d), (1, .ref h1), (2, .long v)]) hx hb dD_write_57 hl (by decide) rfl (fun ls hl => ?_)
      refine lv_iinc (v := rkI wd (i + 1)) (lv' := [(6, .int (rkI wd (i + 1))), (4, .long ((shv v i) >>> ((nI 8).toInt64 &&& 63))), (0, .ref d), (1, .ref h1), (2, .long v)]) hx hb dD_write_59 hl (k := 1) rfl (rk_s (by omega)) (by decide) rfl (fun ls hl => ?_)
      refine lv_goto (tgt := 30) hx hb dD_write_62 (by decide) ?_
      exact ih_i _ _ _ (by omega) (lv_sub hl [0, 1, 2, 3, 4] rfl) I
  · refine lv_aload_n hx hb dD_write_8 rfl (lv_at hl 0 rfl) ?_
    refine mp_get (v := .ref av) hx hb hts inD hown I h0 rfl 0 (by decide) (hts _ bw_26) (fun _ h9 => h9) rfl dD_write_9 ?_
    refine lv_aload_n hx hb dD_write_12 rfl (lv_at hl 1 rfl) ?_
    refine mp_get (v := .int (nI f)) hx hb hts inS hown I hSp rfl 1 (by decide) (hts _ bw_135) (fun _ h9 => h9) rfl dD_write_13 ?_
    refine lv_lload_n hx hb dD_write_16 rfl (lv_at hl 2 rfl) ?_
    refine mp_last hx hb I 1 hav rfl (x := v) f rfl (by omega) (by decide) dD_write_17 (fun H locs I => ?_)
    have I : mp_I D cls5 (tys6 k) s _ s.heap H locs (mp_up M av (.inl (k 1, 4000, .inr (.inl (vp_updL va f v))))) := I
    have hav_n : mp_up M av (.inl (k 1, 4000, .inr (.inl (vp_updL va f v)))) av = some (.inl (k 1, 4000, .inr (.inl (vp_updL va f v)))) := mp_up_s _ _ _
    have h0_n : mp_up M av (.inl (k 1, 4000, .inr (.inl (vp_updL va f v)))) d = some (.inr (0, [.ref av, .ref ak, .int (nI ec), .ref at_, .int (nI tc), .ref aw, .int (nI wc), .ref as_, .int (nI sc), .ref an, .int (nI nc)])) := (mp_up_n (mp_ne h0 hav (by simp))).trans h0
    have hak_n : mp_up M av (.inl (k 1, 4000, .inr (.inl (vp_updL va f v)))) ak = some (.inl (k 0, 4000, .inl (fun i_ => nI (kd i_)))) := (mp_up_n (mp_ne hak hav (by simp))).trans hak
    have hat_n : mp_up M av (.inl (k 1, 4000, .inr (.inl (vp_updL va f v)))) at_ = some (.inl (k 2, 300, .inr (.inr (.inr (.inr qt))))) := (mp_up_n (mp_ne hat hav (by simp))).trans hat
    have haw_n : mp_up M av (.inl (k 1, 4000, .inr (.inl (vp_updL va f v)))) aw = some (.inl (k 0, 12, .inl (fun i_ => nI (wt i_)))) := (mp_up_n (mp_ne haw hav (by simp))).trans haw
    have has_n : mp_up M av (.inl (k 1, 4000, .inr (.inl (vp_updL va f v)))) as_ = some (.inl (k 3, 100, .inr (.inr (.inr (.inr qs))))) := (mp_up_n (mp_ne has hav (by simp))).trans has
    have han_n : mp_up M av (.inl (k 1, 4000, .inr (.inl (vp_updL va f v)))) an = some (.inl (k 4, 20, .inr (.inr (.inr (.inr qn))))) := (mp_up_n (mp_ne han hav (by simp))).trans han
    have hSp_n : mp_up M av (.inl (k 1, 4000, .inr (.inl (vp_updL va f v)))) h1 = some (.inr (2, [.int (nI x), .int (nI f), .int (nI wd), .int (nI b)])) := (mp_up_n (mp_ne hSp hav (by simp))).trans hSp
    generalize eM_6 : mp_up M av (.inl (k 1, 4000, .inr (.inl (vp_updL va f v)))) = M_5 at I h0_n hav_n hak_n hat_n haw_n has_n han_n hSp_n
    have h0__M_5 := h0_n
    have hav__M_5 := hav_n
    have hak__M_5 := hak_n
    have hat__M_5 := hat_n
    have haw__M_5 := haw_n
    have has__M_5 := has_n
    have han__M_5 := han_n
    have hSp__M_5 := hSp_n
    clear h0_n hav_n hak_n hat_n haw_n has_n han_n hSp_n
    exact mp_vret hx hb hr hlocks I (Nat.le_of_ble_eq_true rfl) (Nat.le_of_ble_eq_true rfl) dD_write_18 (by first | (unfold wrv; rw [if_pos (by omega)]; exact eM_6.symm) | (rw [← eM_6]; unfold wrv; rw [if_pos (by omega)]))
/-- what an act answers, and what the place has then -/
def pa (act : Int) (x : Nat) (had v w : Int64) : Int64 × Option Int64 := if act = 1 then (0, some v) else if act = 2 then (had, some v) else if act = 3 then (if had = v then (1, some w) else (0, none)) else if act = 4 then (had, some (lb x (had + v))) else if act = 5 then (had, some (had &&& v)) else if act = 6 then (had, some (had ||| v)) else if act = 7 then (had, some (if v < had then had else v)) else (had, none)
def wro (va : Nat → Int64) (f wd b : Nat) : Option Int64 → Nat → Int64
  | none => va
  | some v => wrv va f wd b v
abbrev rm_D_perform : Room := { frames := 2, cells := 0, slots := 0, locals := 60 }
set_option maxHeartbeats 4000000 in
set_option maxRecDepth 100000 in
theorem kD_perform (l : Launch) (D : va_G) (k : Nat → ClassId) (M : mp_M) {d av ak at_ aw as_ an : Nat} {qt qs qn : Nat → Option Nat} {sa ra : Nat → Nat} {ec tc wc sc nc : Nat} {va : Nat → Int64} {kd wt tk tf tz sk sf sw sl nn : Nat → Nat} {nv : Nat → Nat → Int64} (hD : DkX k M d av ak at_ aw as_ an qt qs qn sa ra ec tc wc sc nc va kd wt tk tf tz sk sf sw sl nn nv) (hO : OkB ec tc wc sc nc tk tf tz sk sf sw sl nn) (h1 x f wd b : Nat) (hSp : M h1 = some (.inr (2, [.int (nI x), .int (nI f), .int (nI wd), .int (nI b)]))) (hx7 : x ≤ 7) (hw1 : 1 ≤ wd) (hw8 : wd ≤ 8) (hfw : f + wd ≤ 4000) (hb1 : b ≤ 1) (act : Int32) (v w : Int64) : mp_Met l yD_perform (Cond.code yD_perform cD_perform 9 (some .long) :: bw) rm_D_perform D cls5 (tys6 k) [.ref d, .ref h1, .int act, .long v, .long w] M (va_Ql (fun r M1 => r = (pa act.toInt x (rdv va x f wd b) v w).1 ∧ M1 = mp_up M av (.inl (k 1, 4000, .inr (.inl (wro va f wd b (pa act.toInt x (rdv va x f wd b) v w).2)))))) 0 0 := by
  refine mp_Met.of (by decide) (Nat.le_of_ble_eq_true rfl) ?_
  intro p e s m below meth c hx hb hr hml hown hts hlocks hin ls hl I
  have hl : lv_has ls 9 [(0, .ref d), (1, .ref h1), (2, .int act), (3, .long v), (5, .long w)] := hl
  obtain ⟨h0, hav, hak, hat, haw, has, han, hth, hsp, hsn, hij⟩ := id hD
  obtain ⟨b1, b2, b3, b4, b5, bT, bS, bN⟩ := id hO
  refine lv_aload_n hx hb dD_perform_0 rfl (lv_at hl 0 rfl) ?_
  refine lv_aload_n hx hb dD_perform_1 rfl (lv_at hl 1 rfl) ?_
  refine mp_calll (va_runV (As := [.ref h1]) (rest := []) ⟨hx, hb, hml, hown, hts⟩ (kD_read l D k M hD hO h1 x f wd b hSp hx7 hw1 hw8 hfw hb1 _) (cwV 1 hts (bw_V bw_308 bw_310 bs_9 bw_1 bw_311) rfl rfl rfl (by decide +kernel) ⟨Nat.le_of_ble_eq_true rfl, Nat.le_of_ble_eq_true rfl⟩) (mp_preV I h0 rfl _) rfl rfl hl.1 rfl (lv_room (Nat.le_of_ble_eq_true rfl)) dD_perform_2 ⟨Nat.le_of_ble_eq_true rfl, Nat.le_of_ble_eq_true rfl⟩) I (fun hd_ N1 H locs hp I => ?_)
  obtain ⟨e_1, hp⟩ := hp
  rw [e_1] at I
  generalize rdv va x f wd b = had at hp ⊢
  subst hp
  refine lv_lstore (lv' := [(7, .long hd_), (0, .ref d), (1, .ref h1), (2, .int act), (3, .long v), (5, .long w)]) hx hb dD_perform_5 hl (by decide) rfl (fun ls hl => ?_)
  refine lv_iload_n hx hb dD_perform_7 rfl (lv_at hl 3 rfl) ?_
  have c_2 : act.toInt = 1 ∨ act.toInt = 2 ∨ act.toInt = 3 ∨ act.toInt = 4 ∨ act.toInt = 5 ∨ act.toInt = 6 ∨ act.toInt = 7 ∨ (act.toInt < 1 ∨ 7 < act.toInt) := by omega
  rcases c_2 with c_2 | c_2 | c_2 | c_2 | c_2 | c_2 | c_2 | c_2
  · refine lv_tableIn (off := 44) (tgt := 52) hx hb dD_perform_8 (by rw [show act.toInt = act.toInt from rfl]; omega) (by rw [show act.toInt = act.toInt from rfl]; omega) (by rw [show act.toInt = act.toInt from rfl, c_2]; rfl) (by decide) ?_
    refine lv_aload_n hx hb dD_perform_52 rfl (lv_at hl 1 rfl) ?_
    refine lv_aload_n hx hb dD_perform_53 rfl (lv_at hl 2 rfl) ?_
    refine lv_lload_n hx hb dD_perform_54 rfl (lv_at hl 4 rfl) ?_
    refine mp_callv (va_runV (As := [.ref h1, .long v]) (rest := []) ⟨hx, hb, hml, hown, hts⟩ (kD_write l D k M hD hO h1 x f wd b hSp hx7 hw1 hw8 hfw hb1 v _) (cwV 2 hts (bw_V bw_317 bw_319 bs_10 bw_1 bw_320) rfl rfl rfl (by decide +kernel) ⟨Nat.le_of_ble_eq_true rfl, Nat.le_of_ble_eq_true rfl⟩) (mp_preV I h0 rfl _) rfl rfl hl.1 rfl (lv_room (Nat.le_of_ble_eq_true rfl)) dD_perform_55 ⟨Nat.le_of_ble_eq_true rfl, Nat.le_of_ble_eq_true rfl⟩) I (fun N1 H locs hp I => ?_)
    refine lv_lconst (v := 0) hx hb dD_perform_58 (by decide) ?_
    exact mp_lret hx hb hr hlocks I (Nat.le_of_ble_eq_true rfl) (Nat.le_of_ble_eq_true rfl) dD_perform_59 (by unfold pa; rw [if_pos (show act.toInt = 1 by omega)]; exact ⟨rfl, hp⟩)
  · refine lv_tableIn (off := 52) (tgt := 60) hx hb dD_perform_8 (by rw [show act.toInt = act.toInt from rfl]; omega) (by rw [show act.toInt = act.toInt from rfl]; omega) (by rw [show act.toInt = act.toInt from rfl, c_2]; rfl) (by decide) ?_
    refine lv_aload_n hx hb dD_perform_60 rfl (lv_at hl 1 rfl) ?_
    refine lv_aload_n hx hb dD_perform_61 rfl (lv_at hl 2 rfl) ?_
    refine lv_lload_n hx hb dD_perform_62 rfl (lv_at hl 4 rfl) ?_
    refine mp_callv (va_runV (As := [.ref h1, .long v]) (rest := []) ⟨hx, hb, hml, hown, hts⟩ (kD_write l D k M hD hO h1 x f wd b hSp hx7 hw1 hw8 hfw hb1 v _) (cwV 2 hts (bw_V bw_317 bw_319 bs_10 bw_1 bw_320) rfl rfl rfl (by decide +kernel) ⟨Nat.le_of_ble_eq_true rfl, Nat.le_of_ble_eq_true rfl⟩) (mp_preV I h0 rfl _) rfl rfl hl.1 rfl (lv_room (Nat.le_of_ble_eq_true rfl)) dD_perform_63 ⟨Nat.le_of_ble_eq_true rfl, Nat.le_of_ble_eq_true rfl⟩) I (fun N1 H locs hp I => ?_)
    refine lv_lload hx hb dD_perform_66 (lv_at hl 0 rfl) ?_
    exact mp_lret hx hb hr hlocks I (Nat.le_of_ble_eq_true rfl) (Nat.le_of_ble_eq_true rfl) dD_perform_68 (by unfold pa; rw [if_neg (show ¬ act.toInt = 1 by omega), if_pos (show act.toInt = 2 by omega)]; exact ⟨rfl, hp⟩)
  · refine lv_tableIn (off := 61) (tgt := 69) hx hb dD_perform_8 (by rw [show act.toInt = act.toInt from rfl]; omega) (by rw [show act.toInt = act.toInt from rfl]; omega) (by rw [show act.toInt = act.toInt from rfl, c_2]; rfl) (by decide) ?_
    refine lv_lload hx hb dD_perform_69 (lv_at hl 0 rfl) ?_
    refine lv_lload_n hx hb dD_perform_71 rfl (lv_at hl 4 rfl) ?_
    refine W.lcmp hx hb dD_perform_72 ?_
    refine lv_if_eq (tgt := 78) hx hb dD_perform_73 (by decide) (fun c_3 => ?_) (fun c_3 => ?_)
    all_goals rw [lg_cmp_eq] at c_3
    · refine lv_aload_n hx hb dD_perform_78 rfl (lv_at hl 1 rfl) ?_
      refine lv_aload_n hx hb dD_perform_79 rfl (lv_at hl 2 rfl) ?_
      refine lv_lload hx hb dD_perform_80 (lv_at hl 5 rfl) ?_
      refine mp_callv (va_runV (As := [.ref h1, .long w]) (rest := []) ⟨hx, hb, hml, hown, hts⟩ (kD_write l D k M hD hO h1 x f wd b hSp hx7 hw1 hw8 hfw hb1 w _) (cwV 2 hts (bw_V bw_317 bw_319 bs_10 bw_1 bw_320) rfl rfl rfl (by decide +kernel) ⟨Nat.le_of_ble_eq_true rfl, Nat.le_of_ble_eq_true rfl⟩) (mp_preV I h0 rfl _) rfl rfl hl.1 rfl (lv_room (Nat.le_of_ble_eq_true rfl)) dD_perform_82 ⟨Nat.le_of_ble_eq_true rfl, Nat.le_of_ble_eq_true rfl⟩) I (fun N1 H locs hp I => ?_)
      refine lv_lconst (v := 1) hx hb dD_perform_85 (by decide) ?_
      exact mp_lret hx hb hr hlocks I (Nat.le_of_ble_eq_true rfl) (Nat.le_of_ble_eq_true rfl) dD_perform_86 (by unfold pa; rw [if_neg (show ¬ act.toInt = 1 by omega), if_neg (show ¬ act.toInt = 2 by omega), if_pos (show act.toInt = 3 by omega), if_pos c_3]; exact ⟨rfl, hp⟩)
    · refine lv_lconst (v := 0) hx hb dD_perform_76 (by decide) ?_
      exact mp_lret hx hb hr hlocks I (Nat.le_of_ble_eq_true rfl) (Nat.le_of_ble_eq_true rfl) dD_perform_77 (by unfold pa; rw [if_neg (show ¬ act.toInt = 1 by omega), if_neg (show ¬ act.toInt = 2 by omega), if_pos (show act.toInt = 3 by omega), if_neg c_3]; exact ⟨rfl, (mp_upself hav).symm⟩)
  · refine lv_tableIn (off := 79) (tgt := 87) hx hb dD_perform_8 (by rw [show act.toInt = act.toInt from rfl]; omega) (by rw [show act.toInt = act.toInt from rfl]; omega) (by rw [show act.toInt = act.toInt from rfl, c_2]; rfl) (by decide) ?_
    refine lv_aload_n hx hb dD_perform_87 rfl (lv_at hl 1 rfl) ?_
    refine lv_aload_n hx hb dD_perform_88 rfl (lv_at hl 2 rfl) ?_
    refine lv_aload_n hx hb dD_perform_89 rfl (lv_at hl 2 rfl) ?_
    refine mp_get (v := .int (nI x)) hx hb hts inS hown I hSp rfl 0 (by decide) (hts _ bw_133) (fun _ h9 => h9) rfl dD_perform_90 ?_
    refine lv_lload hx hb dD_perform_93 (lv_at hl 0 rfl) ?_
    refine lv_lload_n hx hb dD_perform_95 rfl (lv_at hl 4 rfl) ?_
    refine lv_ladd hx hb dD_perform_96 ?_
    refine mp_calll (va_runS (As := [.int (nI x), .long (hd_ + v)]) (rest := [.ref h1, .ref d]) ⟨hx, hb, hml, hown, hts⟩ (kD_lowestBits l D k M x (hd_ + v) hx7 _) (cwS 2 hts (bw_S bw_298 bw_299 bw_1 bw_300) rfl rfl rfl (by decide +kernel) ⟨Nat.le_of_ble_eq_true rfl, Nat.le_of_ble_eq_true rfl⟩) (mp_preS I _) rfl rfl hl.1 rfl (lv_room (Nat.le_of_ble_eq_true rfl)) dD_perform_97 ⟨Nat.le_of_ble_eq_true rfl, Nat.le_of_ble_eq_true rfl⟩) I (fun r1 N1 H locs hp I => ?_)
    obtain ⟨e_4, hp⟩ := hp
    rw [e_4] at I
    subst hp
    refine mp_callv (va_runV (As := [.ref h1, .long (lb x (hd_ + v))]) (rest := []) ⟨hx, hb, hml, hown, hts⟩ (kD_write l D k M hD hO h1 x f wd b hSp hx7 hw1 hw8 hfw hb1 (lb x (hd_ + v)) _) (cwV 2 hts (bw_V bw_317 bw_319 bs_10 bw_1 bw_320) rfl rfl rfl (by decide +kernel) ⟨Nat.le_of_ble_eq_true rfl, Nat.le_of_ble_eq_true rfl⟩) (mp_preV I h0 rfl _) rfl rfl hl.1 rfl (lv_room (Nat.le_of_ble_eq_true rfl)) dD_perform_100 ⟨Nat.le_of_ble_eq_true rfl, Nat.le_of_ble_eq_true rfl⟩) I (fun N1 H locs hp I => ?_)
    refine lv_lload hx hb dD_perform_103 (lv_at hl 0 rfl) ?_
    exact mp_lret hx hb hr hlocks I (Nat.le_of_ble_eq_true rfl) (Nat.le_of_ble_eq_true rfl) dD_perform_105 (by unfold pa; rw [if_neg (show ¬ act.toInt = 1 by omega), if_neg (show ¬ act.toInt = 2 by omega), if_neg (show ¬ act.toInt = 3 by omega), if_pos (show act.toInt = 4 by omega)]; exact ⟨rfl, hp⟩)
  · refine lv_tableIn (off := 98) (tgt := 106) hx hb dD_perform_8 (by rw [show act.toInt = act.toInt from rfl]; omega) (by rw [show act.toInt = act.toInt from rfl]; omega) (by rw [show act.toInt = act.toInt from rfl, c_2]; rfl) (by decide) ?_
    refine lv_aload_n hx hb dD_perform_106 rfl (lv_at hl 1 rfl) ?_
    refine lv_aload_n hx hb dD_perform_107 rfl (lv_at hl 2 rfl) ?_
    refine lv_lload hx hb dD_perform_108 (lv_at hl 0 rfl) ?_
    refine lv_lload_n hx hb dD_perform_110 rfl (lv_at hl 4 rfl) ?_
    refine lv_land hx hb dD_perform_111 ?_
    refine mp_callv (va_runV (As := [.ref h1, .long (hd_ &&& v)]) (rest := []) ⟨hx, hb, hml, hown, hts⟩ (kD_write l D k M hD hO h1 x f wd b hSp hx7 hw1 hw8 hfw hb1 (hd_ &&& v) _) (cwV 2 hts (bw_V bw_317 bw_319 bs_10 bw_1 bw_320) rfl rfl rfl (by decide +kernel) ⟨Nat.le_of_ble_eq_true rfl, Nat.le_of_ble_eq_true rfl⟩) (mp_preV I h0 rfl _) rfl rfl hl.1 rfl (lv_room (Nat.le_of_ble_eq_true rfl)) dD_perform_112 ⟨Nat.le_of_ble_eq_true rfl, Nat.le_of_ble_eq_true rfl⟩) I (fun N1 H locs hp I => ?_)
    refine lv_lload hx hb dD_perform_115 (lv_at hl 0 rfl) ?_
    exact mp_lret hx hb hr hlocks I (Nat.le_of_ble_eq_true rfl) (Nat.le_of_ble_eq_true rfl) dD_perform_117 (by unfold pa; rw [if_neg (show ¬ act.toInt = 1 by omega), if_neg (show ¬ act.toInt = 2 by omega), if_neg (show ¬ act.toInt = 3 by omega), if_neg (show ¬ act.toInt = 4 by omega), if_pos (show act.toInt = 5 by omega)]; exact ⟨rfl, hp⟩)
  · refine lv_tableIn (off := 110) (tgt := 118) hx hb dD_perform_8 (by rw [show act.toInt = act.toInt from rfl]; omega) (by rw [show act.toInt = act.toInt from rfl]; omega) (by rw [show act.toInt = act.toInt from rfl, c_2]; rfl) (by decide) ?_
    refine lv_aload_n hx hb dD_perform_118 rfl (lv_at hl 1 rfl) ?_
    refine lv_aload_n hx hb dD_perform_119 rfl (lv_at hl 2 rfl) ?_
    refine lv_lload hx hb dD_perform_120 (lv_at hl 0 rfl) ?_
    refine lv_lload_n hx hb dD_perform_122 rfl (lv_at hl 4 rfl) ?_
    refine lv_lor hx hb dD_perform_123 ?_
    refine mp_callv (va_runV (As := [.ref h1, .long (hd_ ||| v)]) (rest := []) ⟨hx, hb, hml, hown, hts⟩ (kD_write l D k M hD hO h1 x f wd b hSp hx7 hw1 hw8 hfw hb1 (hd_ ||| v) _) (cwV 2 hts (bw_V bw_317 bw_319 bs_10 bw_1 bw_320) rfl rfl rfl (by decide +kernel) ⟨Nat.le_of_ble_eq_true rfl, Nat.le_of_ble_eq_true rfl⟩) (mp_preV I h0 rfl _) rfl rfl hl.1 rfl (lv_room (Nat.le_of_ble_eq_true rfl)) dD_perform_124 ⟨Nat.le_of_ble_eq_true rfl, Nat.le_of_ble_eq_true rfl⟩) I (fun N1 H locs hp I => ?_)
    refine lv_lload hx hb dD_perform_127 (lv_at hl 0 rfl) ?_
    exact mp_lret hx hb hr hlocks I (Nat.le_of_ble_eq_true rfl) (Nat.le_of_ble_eq_true rfl) dD_perform_129 (by unfold pa; rw [if_neg (show ¬ act.toInt = 1 by omega), if_neg (show ¬ act.toInt = 2 by omega), if_neg (show ¬ act.toInt = 3 by omega), if_neg (show ¬ act.toInt = 4 by omega), if_neg (show ¬ act.toInt = 5 by omega), if_pos (show act.toInt = 6 by omega)]; exact ⟨rfl, hp⟩)
  · refine lv_tableIn (off := 122) (tgt := 130) hx hb dD_perform_8 (by rw [show act.toInt = act.toInt from rfl]; omega) (by rw [show act.toInt = act.toInt from rfl]; omega) (by rw [show act.toInt = act.toInt from rfl, c_2]; rfl) (by decide) ?_
    refine lv_aload_n hx hb dD_perform_130 rfl (lv_at hl 1 rfl) ?_
    refine lv_aload_n hx hb dD_perform_131 rfl (lv_at hl 2 rfl) ?_
    refine lv_lload hx hb dD_perform_132 (lv_at hl 0 rfl) ?_
    refine lv_lload_n hx hb dD_perform_134 rfl (lv_at hl 4 rfl) ?_
    refine va_mmax_long hx hb (by rw [hml]; exact hl.1.symm) hown (hts _ bw_321) (hts _ bw_322) (hts _ bw_10) (hts _ bw_323) (Nat.le_of_ble_eq_true rfl) (Nat.le_of_ble_eq_true rfl) (Nat.le_of_ble_eq_true rfl) (Nat.le_of_ble_eq_true rfl) dD_perform_135 ?_
    refine mp_callv (va_runV (As := [.ref h1, .long (if v < hd_ then hd_ else v)]) (rest := []) ⟨hx, hb, hml, hown, hts⟩ (kD_write l D k M hD hO h1 x f wd b hSp hx7 hw1 hw8 hfw hb1 (if v < hd_ then hd_ else v) _) (cwV 2 hts (bw_V bw_317 bw_319 bs_10 bw_1 bw_320) rfl rfl rfl (by decide +kernel) ⟨Nat.le_of_ble_eq_true rfl, Nat.le_of_ble_eq_true rfl⟩) (mp_preV I h0 rfl _) rfl rfl hl.1 rfl (lv_room (Nat.le_of_ble_eq_true rfl)) dD_perform_138 ⟨Nat.le_of_ble_eq_true rfl, Nat.le_of_ble_eq_true rfl⟩) I (fun N1 H locs hp I => ?_)
    refine lv_lload hx hb dD_perform_141 (lv_at hl 0 rfl) ?_
    exact mp_lret hx hb hr hlocks I (Nat.le_of_ble_eq_true rfl) (Nat.le_of_ble_eq_true rfl) dD_perform_143 (by unfold pa; rw [if_neg (show ¬ act.toInt = 1 by omega), if_neg (show ¬ act.toInt = 2 by omega), if_neg (show ¬ act.toInt = 3 by omega), if_neg (show ¬ act.toInt = 4 by omega), if_neg (show ¬ act.toInt = 5 by omega), if_neg (show ¬ act.toInt = 6 by omega), if_pos (show act.toInt = 7 by omega)]; exact ⟨rfl, hp⟩)
  · refine lv_tableOut (tgt := 144) hx hb dD_perform_8 (by rw [show act.toInt = act.toInt from rfl]; exact c_2) (by decide) ?_
    refine lv_lload hx hb dD_perform_144 (lv_at hl 0 rfl) ?_
    exact mp_lret hx hb hr hlocks I (Nat.le_of_ble_eq_true rfl) (Nat.le_of_ble_eq_true rfl) dD_perform_146 (by unfold pa; rw [if_neg (show ¬ act.toInt = 1 by omega), if_neg (show ¬ act.toInt = 2 by omega), if_neg (show ¬ act.toInt = 3 by omega), if_neg (show ¬ act.toInt = 4 by omega), if_neg (show ¬ act.toInt = 5 by omega), if_neg (show ¬ act.toInt = 6 by omega), if_neg (show ¬ act.toInt = 7 by omega)]; exact ⟨rfl, (mp_upself hav).symm⟩)
end
section
/-- what the tables say of the exception, beside bw -/
def xK (s1 s2 s3 s4 : Nat) (U : State) : Prop := va_Nw (.castable "java/lang/IllegalArgumentException" "java/lang/IllegalArgumentException") U ∧ va_Nw (.declares ⟨"java/lang/RuntimeException", "<init>", "(Ljava/lang/String;)V"⟩) U ∧ va_Nw (.declares ⟨"java/lang/Exception", "<init>", "(Ljava/lang/String;)V"⟩) U ∧ va_Nw (.declares ⟨"java/lang/Throwable", "<init>", "(Ljava/lang/String;)V"⟩) U ∧ vk_R "PlaceDesk" 103 "no such place" s1 U ∧ vk_R "PlaceDesk" 111 "no such act, or not of this kind" s2 U ∧ vk_R "PlaceDesk" 117 "v is no value of this kind" s3 U ∧ vk_R "PlaceDesk" 119 "w is no value of this kind" s4 U
theorem xK.warm {s1 s2 s3 s4 : Nat} {s U : State} (hW : s.WarmedH U.vm) (h : xK s1 s2 s3 s4 s) : xK s1 s2 s3 s4 U :=
  ⟨va_Nw.warmC hW h.1, va_Nw.warmD hW h.2.1, va_Nw.warmD hW h.2.2.1, va_Nw.warmD hW h.2.2.2.1, vk_R.warm hW h.2.2.2.2.1, vk_R.warm hW h.2.2.2.2.2.1, vk_R.warm hW h.2.2.2.2.2.2.1, vk_R.warm hW h.2.2.2.2.2.2.2⟩
theorem xat_in : ∀ w ∈ (vx_atS "PlaceDesk" 105 "java/lang/IllegalArgumentException" ["java/lang/RuntimeException", "java/lang/Exception"]).filter goodWord, w ∈ bw := by decide +kernel
theorem xat_no : ∀ w ∈ (vx_atS "PlaceDesk" 105 "java/lang/IllegalArgumentException" ["java/lang/RuntimeException", "java/lang/Exception"]).filter (fun w => !goodWord w), w ∈ [Cond.castable "java/lang/IllegalArgumentException" "java/lang/IllegalArgumentException", .declares ⟨"java/lang/RuntimeException", "<init>", "(Ljava/lang/String;)V"⟩, .declares ⟨"java/lang/Exception", "<init>", "(Ljava/lang/String;)V"⟩, .declares ⟨"java/lang/Throwable", "<init>", "(Ljava/lang/String;)V"⟩] := by decide +kernel
theorem xat_ok : ∀ w ∈ Cond.classLink "PlaceDesk" 101 "java/lang/IllegalArgumentException" :: Cond.initialized "java/lang/IllegalArgumentException" :: vx_atS "PlaceDesk" 105 "java/lang/IllegalArgumentException" ["java/lang/RuntimeException", "java/lang/Exception"], vx_ot w = true := by decide +kernel
theorem xat {s1 s2 s3 s4 : Nat} {args : Array Value} {s : State} (hts : ∀ w ∈ bw, w.before args s = true) (h : xK s1 s2 s3 s4 s) : ∀ w ∈ vx_atS "PlaceDesk" 105 "java/lang/IllegalArgumentException" ["java/lang/RuntimeException", "java/lang/Exception"], w.before args s = true :=
  vx_hat (fun w hw => hts w (xat_in w hw)) xat_no (vx_c (va_Nw.use rfl h.1) (vx_c (va_Nw.use rfl h.2.1) (vx_c (va_Nw.use rfl h.2.2.1) (vx_c (va_Nw.use rfl h.2.2.2.1) vx_n))))
/-- the start of act -/
def ac_Pc (D : va_G) (tys : List (ClassId × FieldType)) (s1 s2 s3 s4 : Nat) (av : List Value) (M : mp_M) (sz : Nat) : Array Value → State → Prop :=
  va_Pc av (fun U => U.heap.size = sz ∧ mp_P D cls5 (fun _ => True) M U.heap ∧ mp_K D cls5 tys U ∧ xK s1 s2 s3 s4 U ∧ vx_Zq Bundle.tN "UNASSIGNED_STACK" Bundle.steD (mp_A M sz) U U.heap ∧ vx_Zq Bundle.tN "SUPPRESSED_SENTINEL" Bundle.listD (mp_A M sz) U U.heap)
theorem ac_blind {D : va_G} {tys : List (ClassId × FieldType)} {s1 s2 s3 s4 : Nat} {av : List Value} {M : mp_M} {sz : Nat} : FrameBlind (ac_Pc D tys s1 s2 s3 s4 av M sz) := fun a U g mk q => by
  obtain ⟨q0, q1, qP, qK, qX, q5, q6⟩ := q
  exact ⟨q0, q1, qP, mp_K.warm (s := U) (U := U.calling g mk a) (State.WarmedH.refl U) qK, xK.warm (s := U) (U := U.calling g mk a) (State.WarmedH.refl U) qX, vx_Zq.moved (u := U) (U := U.calling g mk a) (Vm.Alike.refl U.vm) q5, vx_Zq.moved (u := U) (U := U.calling g mk a) (Vm.Alike.refl U.vm) q6⟩
/-- a good act -/
def gact (tc sc : Nat) (sk : Nat → Nat) (x act : Int) (v w : Int64) : Prop := 0 ≤ x ∧ x < (sc : Int) ∧ aok act (sk x.toNat) ∧ (act ≠ 0 → isv tc (sk x.toNat) v) ∧ (act = 3 → isv tc (sk x.toNat) w)
def acr (va : Nat → Int64) (sk sf sw sl : Nat → Nat) (x act : Int) (v w : Int64) : Int64 × Option Int64 := pa act (sk x.toNat) (rdv va (sk x.toNat) (sf x.toNat) (sw x.toNat) (sl x.toNat)) v w
def acv (va : Nat → Int64) (sk sf sw sl : Nat → Nat) (x act : Int) (v w : Int64) : Nat → Int64 := wro va (sf x.toNat) (sw x.toNat) (sl x.toNat) (acr va sk sf sw sl x act v w).2
abbrev rm_D_act : Room := { frames := 6, cells := 1, slots := 6, locals := 130 }
set_option maxHeartbeats 4000000 in
set_option maxRecDepth 100000 in
theorem kD_act (l : Launch) (hst : l.stackTraces = false) (D : va_G) (k : Nat → ClassId) (M : mp_M) (s1 s2 s3 s4 : Nat) {d av ak at_ aw as_ an : Nat} {qt qs qn : Nat → Option Nat} {sa ra : Nat → Nat} {ec tc wc sc nc : Nat} {va : Nat → Int64} {kd wt tk tf tz sk sf sw sl nn : Nat → Nat} {nv : Nat → Nat → Int64} (hD : DkX k M d av ak at_ aw as_ an qt qs qn sa ra ec tc wc sc nc va kd wt tk tf tz sk sf sw sl nn nv) (hO : OkB ec tc wc sc nc tk tf tz sk sf sw sl nn) (x act : Int32) (v w : Int64) (sz : Nat) : vx_Met l yD_act (Cond.code yD_act cD_act 8 (some .long) :: bw) rm_D_act (ac_Pc D (tys6 k) s1 s2 s3 s4 [.ref d, .int x, .int act, .long v, .long w] M sz) (va_Ql (fun r M1 => gact tc sc sk x.toInt act.toInt v w ∧ r = (acr va sk sf sw sl x.toInt act.toInt v w).1 ∧ M1 = mp_up M av (.inl (k 1, 4000, .inr (.inl (acv va sk sf sw sl x.toInt act.toInt v w))))) (mp_B D cls5 (tys6 k) M sz) (mp_A M sz)) (vx_X (fun M1 : mp_M => M1 = M ∧ ¬ gact tc sc sk x.toInt act.toInt v w) (fun E M1 t => E = "java/lang/IllegalArgumentException" ∧ mp_P D cls5 (mp_A M sz) M1 t.heap) (mp_A M sz)) 1 6 (mp_A M sz) := by
  refine vx_ofW (cc := cD_act) (maxL := 8) (ret := some .long) (by decide) rfl ?_
  intro p e s m args below meth c s₁ B hml hnt hv
  obtain ⟨rfl, hsz, hP, hK, hX, hU, hN⟩ := hv
  subst hsz
  have hx := B.exec
  have hb := B.bytes
  have hr := B.returns
  have hlocks := B.notSynchronized
  have hown : s.vm.findClass "PlaceDesk" = some m.cls := findClass_of_methodNamed B.named
  have hts : ∀ w ∈ bw, w.before _ s = true := fun w h => atoms_spec (ws := Cond.code yD_act cD_act 8 (some .long) :: bw) B.pre w (List.mem_cons_of_mem _ h)
  have I := mp_I.start hK hP
  have hl := lv_entry ([.ref d, .int x, .int act, .long v, .long w]) (n := 8) (Nat.le_of_ble_eq_true rfl)
  rw [lg_entry_eq]
  generalize (lg_sl ([.ref d, .int x, .int act, .long v, .long w]) ++ List.replicate (8 - (lg_sl ([.ref d, .int x, .int act, .long v, .long w])).length) Slot.unset).toArray = ls at hl ⊢
  have hl : lv_has ls 8 [(0, .ref d), (1, .int x), (2, .int act), (3, .long v), (5, .long w)] := hl
  obtain ⟨h0, hav, hak, hat, haw, has, han, hth, hsp, hsn, hij⟩ := id hD
  obtain ⟨b1, b2, b3, b4, b5, bT, bS, bN⟩ := id hO
  refine lv_aload_n hx hb dD_act_0 rfl (lv_at hl 0 rfl) ?_
  refine lv_iload_n hx hb dD_act_1 rfl (lv_at hl 1 rfl) ?_
  refine mp_callq (va_runV (As := [.int x]) (rest := []) ⟨hx, hb, hml, hown, hts⟩ (kD_findSpot l D k M hD hO x _) (cwV 1 hts (bw_V bw_159 bw_161 bs_4 bw_1 bw_162) rfl rfl rfl (by decide +kernel) ⟨Nat.le_of_ble_eq_true rfl, Nat.le_of_ble_eq_true rfl⟩) (mp_preV I h0 rfl _) rfl rfl hl.1 rfl (lv_room (Nat.le_of_ble_eq_true rfl)) dD_act_2 ⟨Nat.le_of_ble_eq_true rfl, Nat.le_of_ble_eq_true rfl⟩) I (fun r_1 N1 H locs hp I => ?_)
  obtain ⟨e_2, hp⟩ := hp
  rw [e_2] at I
  rcases hp with ⟨i, a, hii, hzi, rfl, hMa⟩ | ⟨pni, rfl⟩
  · dsimp only [va_rf]
    have hTi := bS i hii
    have hxi : x.toInt.toNat = i := by omega
    refine lv_astore (lv' := [(7, .ref a), (0, .ref d), (1, .int x), (2, .int act), (3, .long v), (5, .long w)]) hx hb dD_act_5 hl (by decide) rfl (fun ls hl => ?_)
    refine lv_aload hx hb dD_act_7 (lv_at hl 0 rfl) ?_
    refine lv_ifnonnull (tgt := 22) hx hb dD_act_9 (by decide) ?_
    refine lv_iload_n hx hb dD_act_22 rfl (lv_at hl 3 rfl) ?_
    refine lv_aload hx hb dD_act_23 (lv_at hl 0 rfl) ?_
    refine mp_get (v := .int (nI (sk i))) hx hb hts inS hown I hMa rfl 0 (by decide) (hts _ bw_133) (fun _ h9 => h9) rfl dD_act_25 ?_
    refine mp_calli (va_runS (As := [.int act, .int (nI (sk i))]) (rest := []) ⟨hx, hb, hml, hown, hts⟩ (kD_isActOf l D k M act (sk i) (by omega) _) (cwS 2 hts (bw_S bw_290 bw_291 bw_1 bw_292) rfl rfl rfl (by decide +kernel) ⟨Nat.le_of_ble_eq_true rfl, Nat.le_of_ble_eq_true rfl⟩) (mp_preS I _) rfl rfl hl.1 rfl (lv_room (Nat.le_of_ble_eq_true rfl)) dD_act_28 ⟨Nat.le_of_ble_eq_true rfl, Nat.le_of_ble_eq_true rfl⟩) I (fun r_3 N_4 H locs hp I => ?_)
    obtain ⟨e_5, hp⟩ := hp
    rw [e_5] at I
    rcases hp with ⟨p3, rfl⟩ | ⟨p3, rfl⟩
    · refine zz_if_ne (tgt := 44) hx hb (nI_toInt (by decide)) dD_act_31 (by decide) (fun _ => ?_) (fun c_6 => absurd c_6 (by decide))
      refine lv_iload_n hx hb dD_act_44 rfl (lv_at hl 3 rfl) ?_
      refine zz_if_eq (tgt := 71) hx hb rfl dD_act_45 (by decide) (fun c_7 => ?_) (fun c_7 => ?_)
      · refine lv_iload_n hx hb dD_act_71 rfl (lv_at hl 3 rfl) ?_
        refine lv_iconst (v := nI 3) hx hb dD_act_72 (by decide) ?_
        refine zz_icmp_ne (tgt := 100) hx hb rfl (nI_toInt (by decide)) dD_act_73 (by decide) (fun c_8 => ?_) (fun c_8 => ?_)
        · refine lv_aload_n hx hb dD_act_100 rfl (lv_at hl 1 rfl) ?_
          refine lv_aload hx hb dD_act_101 (lv_at hl 0 rfl) ?_
          refine lv_iload_n hx hb dD_act_103 rfl (lv_at hl 3 rfl) ?_
          refine lv_lload_n hx hb dD_act_104 rfl (lv_at hl 4 rfl) ?_
          refine lv_lload hx hb dD_act_105 (lv_at hl 5 rfl) ?_
          refine mp_calll (va_runV (As := [.ref a, .int act, .long v, .long w]) (rest := []) ⟨hx, hb, hml, hown, hts⟩ (kD_perform l D k M hD hO a (sk i) (sf i) (sw i) (sl i) hMa (by omega) (by omega) (by omega) (by omega) (by omega) act v w _) (cwV 4 hts (bw_V bw_304 bw_306 bs_8 bw_1 bw_307) rfl rfl rfl (by decide +kernel) ⟨Nat.le_of_ble_eq_true rfl, Nat.le_of_ble_eq_true rfl⟩) (mp_preV I h0 rfl _) rfl rfl hl.1 rfl (lv_room (Nat.le_of_ble_eq_true rfl)) dD_act_107 ⟨Nat.le_of_ble_eq_true rfl, Nat.le_of_ble_eq_true rfl⟩) I (fun r1 N1 H locs hp I => ?_)
          obtain ⟨rfl, e9⟩ := hp
          refine vx_ret (mp_lret hx hb hr hlocks I (Nat.le_of_ble_eq_true rfl) (Nat.le_of_ble_eq_true rfl) dD_act_110 ⟨?_, by unfold acr; rw [hxi], by unfold acv acr; rw [hxi]; exact e9⟩)
          unfold gact
          rw [hxi]
          exact ⟨by omega, by omega, p3, fun h => by first | exact p4 | (exfalso; omega), fun h => by first | exact p5 | (exfalso; omega)⟩
        · refine lv_aload_n hx hb dD_act_76 rfl (lv_at hl 1 rfl) ?_
          refine lv_aload hx hb dD_act_77 (lv_at hl 0 rfl) ?_
          refine mp_get (v := .int (nI (sk i))) hx hb hts inS hown I hMa rfl 0 (by decide) (hts _ bw_133) (fun _ h9 => h9) rfl dD_act_79 ?_
          refine lv_lload hx hb dD_act_82 (lv_at hl 5 rfl) ?_
          refine mp_calli (va_runV (As := [.int (nI (sk i)), .long w]) (rest := []) ⟨hx, hb, hml, hown, hts⟩ (kD_isValue l D k M hD hO (sk i) w (by omega) _) (cwV 2 hts (bw_V bw_294 bw_296 bs_7 bw_1 bw_297) rfl rfl rfl (by decide +kernel) ⟨Nat.le_of_ble_eq_true rfl, Nat.le_of_ble_eq_true rfl⟩) (mp_preV I h0 rfl _) rfl rfl hl.1 rfl (lv_room (Nat.le_of_ble_eq_true rfl)) dD_act_84 ⟨Nat.le_of_ble_eq_true rfl, Nat.le_of_ble_eq_true rfl⟩) I (fun r_9 N_10 H locs hp I => ?_)
          obtain ⟨e_11, hp⟩ := hp
          rw [e_11] at I
          rcases hp with ⟨p5, rfl⟩ | ⟨p5, rfl⟩
          · refine zz_if_ne (tgt := 100) hx hb (nI_toInt (by decide)) dD_act_87 (by decide) (fun _ => ?_) (fun c_12 => absurd c_12 (by decide))
            refine lv_aload_n hx hb dD_act_100 rfl (lv_at hl 1 rfl) ?_
            refine lv_aload hx hb dD_act_101 (lv_at hl 0 rfl) ?_
            refine lv_iload_n hx hb dD_act_103 rfl (lv_at hl 3 rfl) ?_
            refine lv_lload_n hx hb dD_act_104 rfl (lv_at hl 4 rfl) ?_
            refine lv_lload hx hb dD_act_105 (lv_at hl 5 rfl) ?_
            refine mp_calll (va_runV (As := [.ref a, .int act, .long v, .long w]) (rest := []) ⟨hx, hb, hml, hown, hts⟩ (kD_perform l D k M hD hO a (sk i) (sf i) (sw i) (sl i) hMa (by omega) (by omega) (by omega) (by omega) (by omega) act v w _) (cwV 4 hts (bw_V bw_304 bw_306 bs_8 bw_1 bw_307) rfl rfl rfl (by decide +kernel) ⟨Nat.le_of_ble_eq_true rfl, Nat.le_of_ble_eq_true rfl⟩) (mp_preV I h0 rfl _) rfl rfl hl.1 rfl (lv_room (Nat.le_of_ble_eq_true rfl)) dD_act_107 ⟨Nat.le_of_ble_eq_true rfl, Nat.le_of_ble_eq_true rfl⟩) I (fun r1 N1 H locs hp I => ?_)
            obtain ⟨rfl, e9⟩ := hp
            refine vx_ret (mp_lret hx hb hr hlocks I (Nat.le_of_ble_eq_true rfl) (Nat.le_of_ble_eq_true rfl) dD_act_110 ⟨?_, by unfold acr; rw [hxi], by unfold acv acr; rw [hxi]; exact e9⟩)
            unfold gact
            rw [hxi]
            exact ⟨by omega, by omega, p3, fun h => by first | exact p4 | (exfalso; omega), fun h => by first | exact p5 | (exfalso; omega)⟩
          · refine zz_if_ne (tgt := 100) hx hb (nI_toInt (by decide)) dD_act_87 (by decide) (fun c_13 => absurd c_13 (by decide)) (fun _ => ?_)
            have hng : ¬ gact tc sc sk x.toInt act.toInt v w := by
              unfold gact; rw [hxi]; exact fun h => p5 (h.2.2.2.2 (by omega))
            exact vx_throwS hx hb hst hown (by decide) (by decide) (hts _ bw_224) (hts _ bw_9) hX.2.2.2.2.2.2.2 (xat hts hX) xat_ok hU hN I.2.2.1 (by rw [hml]; exact hl.1) dD_act_90 dD_act_93 dD_act_94 dD_act_96 dD_act_99 (fun x hx => (hnt x hx).elim) (Nat.le_of_ble_eq_true rfl) (Nat.le_of_ble_eq_true rfl) (Nat.le_of_ble_eq_true rfl) (Nat.le_of_ble_eq_true rfl) hlocks (fun t _ hz hq => ⟨M, ⟨rfl, hng⟩, ⟨rfl, I.2.1.kept (fun a e ha => hq a (I.lt ha))⟩, Nat.le_trans I.2.2.1.1 hz, fun q h1 h2 => (hq q (Nat.lt_of_lt_of_le h1 I.2.2.1.1)).trans (I.2.2.1.2.1 q h1 h2)⟩) I.2.2.1.2.2 (Nat.le_of_ble_eq_true rfl) (Nat.le_of_ble_eq_true rfl)
      · refine lv_aload_n hx hb dD_act_48 rfl (lv_at hl 1 rfl) ?_
        refine lv_aload hx hb dD_act_49 (lv_at hl 0 rfl) ?_
        refine mp_get (v := .int (nI (sk i))) hx hb hts inS hown I hMa rfl 0 (by decide) (hts _ bw_133) (fun _ h9 => h9) rfl dD_act_51 ?_
        refine lv_lload_n hx hb dD_act_54 rfl (lv_at hl 4 rfl) ?_
        refine mp_calli (va_runV (As := [.int (nI (sk i)), .long v]) (rest := []) ⟨hx, hb, hml, hown, hts⟩ (kD_isValue l D k M hD hO (sk i) v (by omega) _) (cwV 2 hts (bw_V bw_294 bw_296 bs_7 bw_1 bw_297) rfl rfl rfl (by decide +kernel) ⟨Nat.le_of_ble_eq_true rfl, Nat.le_of_ble_eq_true rfl⟩) (mp_preV I h0 rfl _) rfl rfl hl.1 rfl (lv_room (Nat.le_of_ble_eq_true rfl)) dD_act_55 ⟨Nat.le_of_ble_eq_true rfl, Nat.le_of_ble_eq_true rfl⟩) I (fun r_14 N_15 H locs hp I => ?_)
        obtain ⟨e_16, hp⟩ := hp
        rw [e_16] at I
        rcases hp with ⟨p4, rfl⟩ | ⟨p4, rfl⟩
        · refine zz_if_ne (tgt := 71) hx hb (nI_toInt (by decide)) dD_act_58 (by decide) (fun _ => ?_) (fun c_17 => absurd c_17 (by decide))
          refine lv_iload_n hx hb dD_act_71 rfl (lv_at hl 3 rfl) ?_
          refine lv_iconst (v := nI 3) hx hb dD_act_72 (by decide) ?_
          refine zz_icmp_ne (tgt := 100) hx hb rfl (nI_toInt (by decide)) dD_act_73 (by decide) (fun c_18 => ?_) (fun c_18 => ?_)
          · refine lv_aload_n hx hb dD_act_100 rfl (lv_at hl 1 rfl) ?_
            refine lv_aload hx hb dD_act_101 (lv_at hl 0 rfl) ?_
            refine lv_iload_n hx hb dD_act_103 rfl (lv_at hl 3 rfl) ?_
            refine lv_lload_n hx hb dD_act_104 rfl (lv_at hl 4 rfl) ?_
            refine lv_lload hx hb dD_act_105 (lv_at hl 5 rfl) ?_
            refine mp_calll (va_runV (As := [.ref a, .int act, .long v, .long w]) (rest := []) ⟨hx, hb, hml, hown, hts⟩ (kD_perform l D k M hD hO a (sk i) (sf i) (sw i) (sl i) hMa (by omega) (by omega) (by omega) (by omega) (by omega) act v w _) (cwV 4 hts (bw_V bw_304 bw_306 bs_8 bw_1 bw_307) rfl rfl rfl (by decide +kernel) ⟨Nat.le_of_ble_eq_true rfl, Nat.le_of_ble_eq_true rfl⟩) (mp_preV I h0 rfl _) rfl rfl hl.1 rfl (lv_room (Nat.le_of_ble_eq_true rfl)) dD_act_107 ⟨Nat.le_of_ble_eq_true rfl, Nat.le_of_ble_eq_true rfl⟩) I (fun r1 N1 H locs hp I => ?_)
            obtain ⟨rfl, e9⟩ := hp
            refine vx_ret (mp_lret hx hb hr hlocks I (Nat.le_of_ble_eq_true rfl) (Nat.le_of_ble_eq_true rfl) dD_act_110 ⟨?_, by unfold acr; rw [hxi], by unfold acv acr; rw [hxi]; exact e9⟩)
            unfold gact
            rw [hxi]
            exact ⟨by omega, by omega, p3, fun h => by first | exact p4 | (exfalso; omega), fun h => by first | exact p5 | (exfalso; omega)⟩
          · refine lv_aload_n hx hb dD_act_76 rfl (lv_at hl 1 rfl) ?_
            refine lv_aload hx hb dD_act_77 (lv_at hl 0 rfl) ?_
            refine mp_get (v := .int (nI (sk i))) hx hb hts inS hown I hMa rfl 0 (by decide) (hts _ bw_133) (fun _ h9 => h9) rfl dD_act_79 ?_
            refine lv_lload hx hb dD_act_82 (lv_at hl 5 rfl) ?_
            refine mp_calli (va_runV (As := [.int (nI (sk i)), .long w]) (rest := []) ⟨hx, hb, hml, hown, hts⟩ (kD_isValue l D k M hD hO (sk i) w (by omega) _) (cwV 2 hts (bw_V bw_294 bw_296 bs_7 bw_1 bw_297) rfl rfl rfl (by decide +kernel) ⟨Nat.le_of_ble_eq_true rfl, Nat.le_of_ble_eq_true rfl⟩) (mp_preV I h0 rfl _) rfl rfl hl.1 rfl (lv_room (Nat.le_of_ble_eq_true rfl)) dD_act_84 ⟨Nat.le_of_ble_eq_true rfl, Nat.le_of_ble_eq_true rfl⟩) I (fun r_19 N_20 H locs hp I => ?_)
            obtain ⟨e_21, hp⟩ := hp
            rw [e_21] at I
            rcases hp with ⟨p5, rfl⟩ | ⟨p5, rfl⟩
            · refine zz_if_ne (tgt := 100) hx hb (nI_toInt (by decide)) dD_act_87 (by decide) (fun _ => ?_) (fun c_22 => absurd c_22 (by decide))
              refine lv_aload_n hx hb dD_act_100 rfl (lv_at hl 1 rfl) ?_
              refine lv_aload hx hb dD_act_101 (lv_at hl 0 rfl) ?_
              refine lv_iload_n hx hb dD_act_103 rfl (lv_at hl 3 rfl) ?_
              refine lv_lload_n hx hb dD_act_104 rfl (lv_at hl 4 rfl) ?_
              refine lv_lload hx hb dD_act_105 (lv_at hl 5 rfl) ?_
              refine mp_calll (va_runV (As := [.ref a, .int act, .long v, .long w]) (rest := []) ⟨hx, hb, hml, hown, hts⟩ (kD_perform l D k M hD hO a (sk i) (sf i) (sw i) (sl i) hMa (by omega) (by omega) (by omega) (by omega) (by omega) act v w _) (cwV 4 hts (bw_V bw_304 bw_306 bs_8 bw_1 bw_307) rfl rfl rfl (by decide +kernel) ⟨Nat.le_of_ble_eq_true rfl, Nat.le_of_ble_eq_true rfl⟩) (mp_preV I h0 rfl _) rfl rfl hl.1 rfl (lv_room (Nat.le_of_ble_eq_true rfl)) dD_act_107 ⟨Nat.le_of_ble_eq_true rfl, Nat.le_of_ble_eq_true rfl⟩) I (fun r1 N1 H locs hp I => ?_)
              obtain ⟨rfl, e9⟩ := hp
              refine vx_ret (mp_lret hx hb hr hlocks I (Nat.le_of_ble_eq_true rfl) (Nat.le_of_ble_eq_true rfl) dD_act_110 ⟨?_, by unfold acr; rw [hxi], by unfold acv acr; rw [hxi]; exact e9⟩)
              unfold gact
              rw [hxi]
              exact ⟨by omega, by omega, p3, fun h => by first | exact p4 | (exfalso; omega), fun h => by first | exact p5 | (exfalso; omega)⟩
            · refine zz_if_ne (tgt := 100) hx hb (nI_toInt (by decide)) dD_act_87 (by decide) (fun c_23 => absurd c_23 (by decide)) (fun _ => ?_)
              have hng : ¬ gact tc sc sk x.toInt act.toInt v w := by
                unfold gact; rw [hxi]; exact fun h => p5 (h.2.2.2.2 (by omega))
              exact vx_throwS hx hb hst hown (by decide) (by decide) (hts _ bw_224) (hts _ bw_9) hX.2.2.2.2.2.2.2 (xat hts hX) xat_ok hU hN I.2.2.1 (by rw [hml]; exact hl.1) dD_act_90 dD_act_93 dD_act_94 dD_act_96 dD_act_99 (fun x hx => (hnt x hx).elim) (Nat.le_of_ble_eq_true rfl) (Nat.le_of_ble_eq_true rfl) (Nat.le_of_ble_eq_true rfl) (Nat.le_of_ble_eq_true rfl) hlocks (fun t _ hz hq => ⟨M, ⟨rfl, hng⟩, ⟨rfl, I.2.1.kept (fun a e ha => hq a (I.lt ha))⟩, Nat.le_trans I.2.2.1.1 hz, fun q h1 h2 => (hq q (Nat.lt_of_lt_of_le h1 I.2.2.1.1)).trans (I.2.2.1.2.1 q h1 h2)⟩) I.2.2.1.2.2 (Nat.le_of_ble_eq_true rfl) (Nat.le_of_ble_eq_true rfl)
        · refine zz_if_ne (tgt := 71) hx hb (nI_toInt (by decide)) dD_act_58 (by decide) (fun c_24 => absurd c_24 (by decide)) (fun _ => ?_)
          have hng : ¬ gact tc sc sk x.toInt act.toInt v w := by
            unfold gact; rw [hxi]; exact fun h => p4 (h.2.2.2.1 (by omega))
          exact vx_throwS hx hb hst hown (by decide) (by decide) (hts _ bw_224) (hts _ bw_9) hX.2.2.2.2.2.2.1 (xat hts hX) xat_ok hU hN I.2.2.1 (by rw [hml]; exact hl.1) dD_act_61 dD_act_64 dD_act_65 dD_act_67 dD_act_70 (fun x hx => (hnt x hx).elim) (Nat.le_of_ble_eq_true rfl) (Nat.le_of_ble_eq_true rfl) (Nat.le_of_ble_eq_true rfl) (Nat.le_of_ble_eq_true rfl) hlocks (fun t _ hz hq => ⟨M, ⟨rfl, hng⟩, ⟨rfl, I.2.1.kept (fun a e ha => hq a (I.lt ha))⟩, Nat.le_trans I.2.2.1.1 hz, fun q h1 h2 => (hq q (Nat.lt_of_lt_of_le h1 I.2.2.1.1)).trans (I.2.2.1.2.1 q h1 h2)⟩) I.2.2.1.2.2 (Nat.le_of_ble_eq_true rfl) (Nat.le_of_ble_eq_true rfl)
    · refine zz_if_ne (tgt := 44) hx hb (nI_toInt (by decide)) dD_act_31 (by decide) (fun c_25 => absurd c_25 (by decide)) (fun _ => ?_)
      have hng : ¬ gact tc sc sk x.toInt act.toInt v w := by
        unfold gact; rw [hxi]; exact fun h => p3 h.2.2.1
      exact vx_throwS hx hb hst hown (by decide) (by decide) (hts _ bw_224) (hts _ bw_9) hX.2.2.2.2.2.1 (xat hts hX) xat_ok hU hN I.2.2.1 (by rw [hml]; exact hl.1) dD_act_34 dD_act_37 dD_act_38 dD_act_40 dD_act_43 (fun x hx => (hnt x hx).elim) (Nat.le_of_ble_eq_true rfl) (Nat.le_of_ble_eq_true rfl) (Nat.le_of_ble_eq_true rfl) (Nat.le_of_ble_eq_true rfl) hlocks (fun t _ hz hq => ⟨M, ⟨rfl, hng⟩, ⟨rfl, I.2.1.kept (fun a e ha => hq a (I.lt ha))⟩, Nat.le_trans I.2.2.1.1 hz, fun q h1 h2 => (hq q (Nat.lt_of_lt_of_le h1 I.2.2.1.1)).trans (I.2.2.1.2.1 q h1 h2)⟩) I.2.2.1.2.2 (Nat.le_of_ble_eq_true rfl) (Nat.le_of_ble_eq_true rfl)
  · dsimp only [va_rf]
    refine lv_astoreN (lv' := [(7, .null), (0, .ref d), (1, .int x), (2, .int act), (3, .long v), (5, .long w)]) hx hb dD_act_5 hl (by decide) rfl (fun ls hl => ?_)
    refine lv_aloadN hx hb dD_act_7 (lv_at hl 0 rfl) ?_
    refine lv_ifnonnullN hx hb dD_act_9 ?_
    have hng : ¬ gact tc sc sk x.toInt act.toInt v w := by
      unfold gact; omega
    exact vx_throwS hx hb hst hown (by decide) (by decide) (hts _ bw_224) (hts _ bw_9) hX.2.2.2.2.1 (xat hts hX) xat_ok hU hN I.2.2.1 (by rw [hml]; exact hl.1) dD_act_12 dD_act_15 dD_act_16 dD_act_18 dD_act_21 (fun x hx => (hnt x hx).elim) (Nat.le_of_ble_eq_true rfl) (Nat.le_of_ble_eq_true rfl) (Nat.le_of_ble_eq_true rfl) (Nat.le_of_ble_eq_true rfl) hlocks (fun t _ hz hq => ⟨M, ⟨rfl, hng⟩, ⟨rfl, I.2.1.kept (fun a e ha => hq a (I.lt ha))⟩, Nat.le_trans I.2.2.1.1 hz, fun q h1 h2 => (hq q (Nat.lt_of_lt_of_le h1 I.2.2.1.1)).trans (I.2.2.1.2.1 q h1 h2)⟩) I.2.2.1.2.2 (Nat.le_of_ble_eq_true rfl) (Nat.le_of_ble_eq_true rfl)
end
section
abbrev rm_D_init : Room := { frames := 1, cells := 6, slots := 8432, locals := 20 }
set_option maxHeartbeats 4000000 in
set_option maxRecDepth 100000 in
theorem kD_init (l : Launch) (D : va_G) (k : Nat → ClassId) (M : mp_M) (d : Nat) (h0 : M d = some (.inr (0, [.null, .null, .int 0, .null, .int 0, .null, .int 0, .null, .int 0, .null, .int 0]))) : mp_Met l yD_init (Cond.code yD_init cD_init 1 none :: bw) rm_D_init D cls5 (tys6 k) [.ref d] M (va_Qv (fun M1 => ∃ av ak at_ aw as_ an : Nat, DkX k M1 d av ak at_ aw as_ an (fun _ => none) (fun _ => none) (fun _ => none) (fun _ => 0) (fun _ => 0) 0 0 0 0 0 (fun _ => 0) (fun _ => 0) (fun _ => 0) (fun _ => 0) (fun _ => 0) (fun _ => 0) (fun _ => 0) (fun _ => 0) (fun _ => 0) (fun _ => 0) (fun _ => 0) (fun _ _ => 0))) 6 8432 := by
  refine mp_Met.of (by decide) (Nat.le_of_ble_eq_true rfl) ?_
  intro p e s m below meth c hx hb hr hml hown hts hlocks hin ls hl I
  have hl : lv_has ls 1 [(0, .ref d)] := hl
  refine lv_aload_n hx hb dD_init_0 rfl (lv_at hl 0 rfl) ?_
  refine W.objInit hx hb hown (hts _ bw_17) (hts _ bw_18) (hts _ bw_19) rfl (by rw [hml]; exact hl.1) rfl dD_init_1 (Nat.le_of_ble_eq_true rfl) (Nat.le_of_ble_eq_true rfl) ?_
  refine W.eq (g2 := F0 m 4 ls []) rfl ?_
  refine lv_aload_n hx hb dD_init_4 rfl (lv_at hl 0 rfl) ?_
  refine lv_sipush (v := nI 4000) hx hb dD_init_5 (by decide) ?_
  refine mp_newa (atype := .long) (ty := .long) (a0 := (4000, .inr (.inl (fun _ => 0)))) hx hb (hts _ bw_60) rfl I 1 rfl (fun _ h => h) (fun _ => rfl) (by decide) (nI_clamp (by decide)) (by decide) (Nat.le_of_ble_eq_true rfl) (Nat.le_of_ble_eq_true rfl) dD_init_8 (fun q1 H hq_1 I => ?_)
  have hqq1_n : mp_up M q1 (.inl (k 1, 4000, .inr (.inl (fun _ => 0)))) q1 = some (.inl (k 1, 4000, .inr (.inl (fun _ => 0)))) := mp_up_s _ _ _
  have h0_n : mp_up M q1 (.inl (k 1, 4000, .inr (.inl (fun _ => 0)))) d = some (.inr (0, [.null, .null, .int 0, .null, .int 0, .null, .int 0, .null, .int 0, .null, .int 0])) := (mp_up_n (fun z => by rw [z, hq_1] at h0; cases h0)).trans h0
  generalize eM_3 : mp_up M q1 (.inl (k 1, 4000, .inr (.inl (fun _ => 0)))) = M_2 at I hqq1_n h0_n
  have h0__M_2 := h0_n
  have hqq1__M_2 := hqq1_n
  clear hqq1_n h0_n
  refine mp_putF (v := .ref q1) (ty := .array .long) hx hb hts inD tyD okD nmD hown I h0__M_2 rfl 0 (by decide) (hts _ bw_26) (fun _ h9 => h9) rfl hin rfl (by decide +kernel) rfl rfl (Nat.le_of_ble_eq_true rfl) dD_init_10 (fun H locs I => ?_)
  have I : mp_I D cls5 (tys6 k) s _ s.heap H locs (mp_up M_2 d (.inr (0, [.ref q1, .null, .int 0, .null, .int 0, .null, .int 0, .null, .int 0, .null, .int 0]))) := I
  have h0__M_2_n : mp_up M_2 d (.inr (0, [.ref q1, .null, .int 0, .null, .int 0, .null, .int 0, .null, .int 0, .null, .int 0])) d = some (.inr (0, [.ref q1, .null, .int 0, .null, .int 0, .null, .int 0, .null, .int 0, .null, .int 0])) := mp_up_s _ _ _
  have hqq1__M_2_n : mp_up M_2 d (.inr (0, [.ref q1, .null, .int 0, .null, .int 0, .null, .int 0, .null, .int 0, .null, .int 0])) q1 = some (.inl (k 1, 4000, .inr (.inl (fun _ => 0)))) := (mp_up_n (mp_ne hqq1__M_2 h0__M_2 (by simp))).trans hqq1__M_2
  generalize eM_5 : mp_up M_2 d (.inr (0, [.ref q1, .null, .int 0, .null, .int 0, .null, .int 0, .null, .int 0, .null, .int 0])) = M_4 at I h0__M_2_n hqq1__M_2_n
  have h0__M_4 := h0__M_2_n
  have hqq1__M_4 := hqq1__M_2_n
  clear h0__M_2_n hqq1__M_2_n
  refine lv_aload_n hx hb dD_init_13 rfl (lv_at hl 0 rfl) ?_
  refine lv_sipush (v := nI 4000) hx hb dD_init_14 (by decide) ?_
  refine mp_newa (atype := .int) (ty := .int) (a0 := (4000, .inl (fun i_ => nI ((fun _ => 0) i_)))) hx hb (hts _ bw_61) rfl I 0 rfl (fun _ h => h) (fun _ => rfl) (by decide) (nI_clamp (by decide)) (by decide) (Nat.le_of_ble_eq_true rfl) (Nat.le_of_ble_eq_true rfl) dD_init_17 (fun q2 H hq_6 I => ?_)
  have hqq2_n : mp_up M_4 q2 (.inl (k 0, 4000, .inl (fun i_ => nI ((fun _ => 0) i_)))) q2 = some (.inl (k 0, 4000, .inl (fun i_ => nI ((fun _ => 0) i_)))) := mp_up_s _ _ _
  have h0__M_4_n : mp_up M_4 q2 (.inl (k 0, 4000, .inl (fun i_ => nI ((fun _ => 0) i_)))) d = some (.inr (0, [.ref q1, .null, .int 0, .null, .int 0, .null, .int 0, .null, .int 0, .null, .int 0])) := (mp_up_n (fun z => by rw [z, hq_6] at h0__M_4; cases h0__M_4)).trans h0__M_4
  have hqq1__M_4_n : mp_up M_4 q2 (.inl (k 0, 4000, .inl (fun i_ => nI ((fun _ => 0) i_)))) q1 = some (.inl (k 1, 4000, .inr (.inl (fun _ => 0)))) := (mp_up_n (fun z => by rw [z, hq_6] at hqq1__M_4; cases hqq1__M_4)).trans hqq1__M_4
  generalize eM_8 : mp_up M_4 q2 (.inl (k 0, 4000, .inl (fun i_ => nI ((fun _ => 0) i_)))) = M_7 at I hqq2_n h0__M_4_n hqq1__M_4_n
  have h0__M_7 := h0__M_4_n
  have hqq1__M_7 := hqq1__M_4_n
  have hqq2__M_7 := hqq2_n
  clear hqq2_n h0__M_4_n hqq1__M_4_n
  refine mp_putF (v := .ref q2) (ty := .array .int) hx hb hts inD tyD okD nmD hown I h0__M_7 rfl 1 (by decide) (hts _ bw_27) (fun _ h9 => h9) rfl hin rfl (by decide +kernel) rfl rfl (Nat.le_of_ble_eq_true rfl) dD_init_19 (fun H locs I => ?_)
  have I : mp_I D cls5 (tys6 k) s _ s.heap H locs (mp_up M_7 d (.inr (0, [.ref q1, .ref q2, .int 0, .null, .int 0, .null, .int 0, .null, .int 0, .null, .int 0]))) := I
  have h0__M_7_n : mp_up M_7 d (.inr (0, [.ref q1, .ref q2, .int 0, .null, .int 0, .null, .int 0, .null, .int 0, .null, .int 0])) d = some (.inr (0, [.ref q1, .ref q2, .int 0, .null, .int 0, .null, .int 0, .null, .int 0, .null, .int 0])) := mp_up_s _ _ _
  have hqq1__M_7_n : mp_up M_7 d (.inr (0, [.ref q1, .ref q2, .int 0, .null, .int 0, .null, .int 0, .null, .int 0, .null, .int 0])) q1 = some (.inl (k 1, 4000, .inr (.inl (fun _ => 0)))) := (mp_up_n (mp_ne hqq1__M_7 h0__M_7 (by simp))).trans hqq1__M_7
  have hqq2__M_7_n : mp_up M_7 d (.inr (0, [.ref q1, .ref q2, .int 0, .null, .int 0, .null, .int 0, .null, .int 0, .null, .int 0])) q2 = some (.inl (k 0, 4000, .inl (fun i_ => nI ((fun _ => 0) i_)))) := (mp_up_n (mp_ne hqq2__M_7 h0__M_7 (by simp))).trans hqq2__M_7
  generalize eM_10 : mp_up M_7 d (.inr (0, [.ref q1, .ref q2, .int 0, .null, .int 0, .null, .int 0, .null, .int 0, .null, .int 0])) = M_9 at I h0__M_7_n hqq1__M_7_n hqq2__M_7_n
  have h0__M_9 := h0__M_7_n
  have hqq1__M_9 := hqq1__M_7_n
  have hqq2__M_9 := hqq2__M_7_n
  clear h0__M_7_n hqq1__M_7_n hqq2__M_7_n
  refine lv_aload_n hx hb dD_init_22 rfl (lv_at hl 0 rfl) ?_
  refine lv_iconst (v := nI 0) hx hb dD_init_23 (by decide) ?_
  refine mp_put (v := .int (nI 0)) (ty := .int) hx hb hts inD tyD okD nmD hown I h0__M_9 rfl 2 (by decide) (hts _ bw_28) (fun _ h9 => h9) rfl (by decide +kernel) rfl rfl (Nat.le_of_ble_eq_true rfl) dD_init_24 (fun H locs I => ?_)
  have I : mp_I D cls5 (tys6 k) s _ s.heap H locs (mp_up M_9 d (.inr (0, [.ref q1, .ref q2, .int (nI 0), .null, .int 0, .null, .int 0, .null, .int 0, .null, .int 0]))) := I
  have h0__M_9_n : mp_up M_9 d (.inr (0, [.ref q1, .ref q2, .int (nI 0), .null, .int 0, .null, .int 0, .null, .int 0, .null, .int 0])) d = some (.inr (0, [.ref q1, .ref q2, .int (nI 0), .null, .int 0, .null, .int 0, .null, .int 0, .null, .int 0])) := mp_up_s _ _ _
  have hqq1__M_9_n : mp_up M_9 d (.inr (0, [.ref q1, .ref q2, .int (nI 0), .null, .int 0, .null, .int 0, .null, .int 0, .null, .int 0])) q1 = some (.inl (k 1, 4000, .inr (.inl (fun _ => 0)))) := (mp_up_n (mp_ne hqq1__M_9 h0__M_9 (by simp))).trans hqq1__M_9
  have hqq2__M_9_n : mp_up M_9 d (.inr (0, [.ref q1, .ref q2, .int (nI 0), .null, .int 0, .null, .int 0, .null, .int 0, .null, .int 0])) q2 = some (.inl (k 0, 4000, .inl (fun i_ => nI ((fun _ => 0) i_)))) := (mp_up_n (mp_ne hqq2__M_9 h0__M_9 (by simp))).trans hqq2__M_9
  generalize eM_12 : mp_up M_9 d (.inr (0, [.ref q1, .ref q2, .int (nI 0), .null, .int 0, .null, .int 0, .null, .int 0, .null, .int 0])) = M_11 at I h0__M_9_n hqq1__M_9_n hqq2__M_9_n
  have h0__M_11 := h0__M_9_n
  have hqq1__M_11 := hqq1__M_9_n
  have hqq2__M_11 := hqq2__M_9_n
  clear h0__M_9_n hqq1__M_9_n hqq2__M_9_n
  refine lv_aload_n hx hb dD_init_27 rfl (lv_at hl 0 rfl) ?_
  refine lv_sipush (v := nI 300) hx hb dD_init_28 (by decide) ?_
  refine mp_newq hx hb hown (hts _ bw_20) I.1.2.2.1 I 2 rfl (by decide) (nI_clamp (by decide)) (by decide) (Nat.le_of_ble_eq_true rfl) (Nat.le_of_ble_eq_true rfl) dD_init_31 (fun q3 H hq_13 I => ?_)
  have hqq3_n : mp_up M_11 q3 (.inl (k 2, 300, .inr (.inr (.inr (.inr (fun _ => none)))))) q3 = some (.inl (k 2, 300, .inr (.inr (.inr (.inr (fun _ => none)))))) := mp_up_s _ _ _
  have h0__M_11_n : mp_up M_11 q3 (.inl (k 2, 300, .inr (.inr (.inr (.inr (fun _ => none)))))) d = some (.inr (0, [.ref q1, .ref q2, .int (nI 0), .null, .int 0, .null, .int 0, .null, .int 0, .null, .int 0])) := (mp_up_n (fun z => by rw [z, hq_13] at h0__M_11; cases h0__M_11)).trans h0__M_11
  have hqq1__M_11_n : mp_up M_11 q3 (.inl (k 2, 300, .inr (.inr (.inr (.inr (fun _ => none)))))) q1 = some (.inl (k 1, 4000, .inr (.inl (fun _ => 0)))) := (mp_up_n (fun z => by rw [z, hq_13] at hqq1__M_11; cases hqq1__M_11)).trans hqq1__M_11
  have hqq2__M_11_n : mp_up M_11 q3 (.inl (k 2, 300, .inr (.inr (.inr (.inr (fun _ => none)))))) q2 = some (.inl (k 0, 4000, .inl (fun i_ => nI ((fun _ => 0) i_)))) := (mp_up_n (fun z => by rw [z, hq_13] at hqq2__M_11; cases hqq2__M_11)).trans hqq2__M_11
  generalize eM_15 : mp_up M_11 q3 (.inl (k 2, 300, .inr (.inr (.inr (.inr (fun _ => none)))))) = M_14 at I hqq3_n h0__M_11_n hqq1__M_11_n hqq2__M_11_n
  have h0__M_14 := h0__M_11_n
  have hqq1__M_14 := hqq1__M_11_n
  have hqq2__M_14 := hqq2__M_11_n
  have hqq3__M_14 := hqq3_n
  clear hqq3_n h0__M_11_n hqq1__M_11_n hqq2__M_11_n
  refine mp_putF (v := .ref q3) (ty := .array (.object "PlaceDesk$Thing")) hx hb hts inD tyD okD nmD hown I h0__M_14 rfl 3 (by decide) (hts _ bw_29) (fun _ h9 => h9) rfl hin rfl (by decide +kernel) rfl rfl (Nat.le_of_ble_eq_true rfl) dD_init_34 (fun H locs I => ?_)
  have I : mp_I D cls5 (tys6 k) s _ s.heap H locs (mp_up M_14 d (.inr (0, [.ref q1, .ref q2, .int (nI 0), .ref q3, .int 0, .null, .int 0, .null, .int 0, .null, .int 0]))) := I
  have h0__M_14_n : mp_up M_14 d (.inr (0, [.ref q1, .ref q2, .int (nI 0), .ref q3, .int 0, .null, .int 0, .null, .int 0, .null, .int 0])) d = some (.inr (0, [.ref q1, .ref q2, .int (nI 0), .ref q3, .int 0, .null, .int 0, .null, .int 0, .null, .int 0])) := mp_up_s _ _ _
  have hqq1__M_14_n : mp_up M_14 d (.inr (0, [.ref q1, .ref q2, .int (nI 0), .ref q3, .int 0, .null, .int 0, .null, .int 0, .null, .int 0])) q1 = some (.inl (k 1, 4000, .inr (.inl (fun _ => 0)))) := (mp_up_n (mp_ne hqq1__M_14 h0__M_14 (by simp))).trans hqq1__M_14
  have hqq2__M_14_n : mp_up M_14 d (.inr (0, [.ref q1, .ref q2, .int (nI 0), .ref q3, .int 0, .null, .int 0, .null, .int 0, .null, .int 0])) q2 = some (.inl (k 0, 4000, .inl (fun i_ => nI ((fun _ => 0) i_)))) := (mp_up_n (mp_ne hqq2__M_14 h0__M_14 (by simp))).trans hqq2__M_14
  have hqq3__M_14_n : mp_up M_14 d (.inr (0, [.ref q1, .ref q2, .int (nI 0), .ref q3, .int 0, .null, .int 0, .null, .int 0, .null, .int 0])) q3 = some (.inl (k 2, 300, .inr (.inr (.inr (.inr (fun _ => none)))))) := (mp_up_n (mp_ne hqq3__M_14 h0__M_14 (by simp))).trans hqq3__M_14
  generalize eM_17 : mp_up M_14 d (.inr (0, [.ref q1, .ref q2, .int (nI 0), .ref q3, .int 0, .null, .int 0, .null, .int 0, .null, .int 0])) = M_16 at I h0__M_14_n hqq1__M_14_n hqq2__M_14_n hqq3__M_14_n
  have h0__M_16 := h0__M_14_n
  have hqq1__M_16 := hqq1__M_14_n
  have hqq2__M_16 := hqq2__M_14_n
  have hqq3__M_16 := hqq3__M_14_n
  clear h0__M_14_n hqq1__M_14_n hqq2__M_14_n hqq3__M_14_n
  refine lv_aload_n hx hb dD_init_37 rfl (lv_at hl 0 rfl) ?_
  refine lv_iconst (v := nI 0) hx hb dD_init_38 (by decide) ?_
  refine mp_put (v := .int (nI 0)) (ty := .int) hx hb hts inD tyD okD nmD hown I h0__M_16 rfl 4 (by decide) (hts _ bw_30) (fun _ h9 => h9) rfl (by decide +kernel) rfl rfl (Nat.le_of_ble_eq_true rfl) dD_init_39 (fun H locs I => ?_)
  have I : mp_I D cls5 (tys6 k) s _ s.heap H locs (mp_up M_16 d (.inr (0, [.ref q1, .ref q2, .int (nI 0), .ref q3, .int (nI 0), .null, .int 0, .null, .int 0, .null, .int 0]))) := I
  have h0__M_16_n : mp_up M_16 d (.inr (0, [.ref q1, .ref q2, .int (nI 0), .ref q3, .int (nI 0), .null, .int 0, .null, .int 0, .null, .int 0])) d = some (.inr (0, [.ref q1, .ref q2, .int (nI 0), .ref q3, .int (nI 0), .null, .int 0, .null, .int 0, .null, .int 0])) := mp_up_s _ _ _
  have hqq1__M_16_n : mp_up M_16 d (.inr (0, [.ref q1, .ref q2, .int (nI 0), .ref q3, .int (nI 0), .null, .int 0, .null, .int 0, .null, .int 0])) q1 = some (.inl (k 1, 4000, .inr (.inl (fun _ => 0)))) := (mp_up_n (mp_ne hqq1__M_16 h0__M_16 (by simp))).trans hqq1__M_16
  have hqq2__M_16_n : mp_up M_16 d (.inr (0, [.ref q1, .ref q2, .int (nI 0), .ref q3, .int (nI 0), .null, .int 0, .null, .int 0, .null, .int 0])) q2 = some (.inl (k 0, 4000, .inl (fun i_ => nI ((fun _ => 0) i_)))) := (mp_up_n (mp_ne hqq2__M_16 h0__M_16 (by simp))).trans hqq2__M_16
  have hqq3__M_16_n : mp_up M_16 d (.inr (0, [.ref q1, .ref q2, .int (nI 0), .ref q3, .int (nI 0), .null, .int 0, .null, .int 0, .null, .int 0])) q3 = some (.inl (k 2, 300, .inr (.inr (.inr (.inr (fun _ => none)))))) := (mp_up_n (mp_ne hqq3__M_16 h0__M_16 (by simp))).trans hqq3__M_16
  generalize eM_19 : mp_up M_16 d (.inr (0, [.ref q1, .ref q2, .int (nI 0), .ref q3, .int (nI 0), .null, .int 0, .null, .int 0, .null, .int 0])) = M_18 at I h0__M_16_n hqq1__M_16_n hqq2__M_16_n hqq3__M_16_n
  have h0__M_18 := h0__M_16_n
  have hqq1__M_18 := hqq1__M_16_n
  have hqq2__M_18 := hqq2__M_16_n
  have hqq3__M_18 := hqq3__M_16_n
  clear h0__M_16_n hqq1__M_16_n hqq2__M_16_n hqq3__M_16_n
  refine lv_aload_n hx hb dD_init_42 rfl (lv_at hl 0 rfl) ?_
  refine lv_bipush (v := nI 12) hx hb dD_init_43 (by decide) ?_
  refine mp_newa (atype := .int) (ty := .int) (a0 := (12, .inl (fun i_ => nI ((fun _ => 0) i_)))) hx hb (hts _ bw_61) rfl I 0 rfl (fun _ h => h) (fun _ => rfl) (by decide) (nI_clamp (by decide)) (by decide) (Nat.le_of_ble_eq_true rfl) (Nat.le_of_ble_eq_true rfl) dD_init_45 (fun q4 H hq_20 I => ?_)
  have hqq4_n : mp_up M_18 q4 (.inl (k 0, 12, .inl (fun i_ => nI ((fun _ => 0) i_)))) q4 = some (.inl (k 0, 12, .inl (fun i_ => nI ((fun _ => 0) i_)))) := mp_up_s _ _ _
  have h0__M_18_n : mp_up M_18 q4 (.inl (k 0, 12, .inl (fun i_ => nI ((fun _ => 0) i_)))) d = some (.inr (0, [.ref q1, .ref q2, .int (nI 0), .ref q3, .int (nI 0), .null, .int 0, .null, .int 0, .null, .int 0])) := (mp_up_n (fun z => by rw [z, hq_20] at h0__M_18; cases h0__M_18)).trans h0__M_18
  have hqq1__M_18_n : mp_up M_18 q4 (.inl (k 0, 12, .inl (fun i_ => nI ((fun _ => 0) i_)))) q1 = some (.inl (k 1, 4000, .inr (.inl (fun _ => 0)))) := (mp_up_n (fun z => by rw [z, hq_20] at hqq1__M_18; cases hqq1__M_18)).trans hqq1__M_18
  have hqq2__M_18_n : mp_up M_18 q4 (.inl (k 0, 12, .inl (fun i_ => nI ((fun _ => 0) i_)))) q2 = some (.inl (k 0, 4000, .inl (fun i_ => nI ((fun _ => 0) i_)))) := (mp_up_n (fun z => by rw [z, hq_20] at hqq2__M_18; cases hqq2__M_18)).trans hqq2__M_18
  have hqq3__M_18_n : mp_up M_18 q4 (.inl (k 0, 12, .inl (fun i_ => nI ((fun _ => 0) i_)))) q3 = some (.inl (k 2, 300, .inr (.inr (.inr (.inr (fun _ => none)))))) := (mp_up_n (fun z => by rw [z, hq_20] at hqq3__M_18; cases hqq3__M_18)).trans hqq3__M_18
  generalize eM_22 : mp_up M_18 q4 (.inl (k 0, 12, .inl (fun i_ => nI ((fun _ => 0) i_)))) = M_21 at I hqq4_n h0__M_18_n hqq1__M_18_n hqq2__M_18_n hqq3__M_18_n
  have h0__M_21 := h0__M_18_n
  have hqq1__M_21 := hqq1__M_18_n
  have hqq2__M_21 := hqq2__M_18_n
  have hqq3__M_21 := hqq3__M_18_n
  have hqq4__M_21 := hqq4_n
  clear hqq4_n h0__M_18_n hqq1__M_18_n hqq2__M_18_n hqq3__M_18_n
  refine mp_putF (v := .ref q4) (ty := .array .int) hx hb hts inD tyD okD nmD hown I h0__M_21 rfl 5 (by decide) (hts _ bw_31) (fun _ h9 => h9) rfl hin rfl (by decide +kernel) rfl rfl (Nat.le_of_ble_eq_true rfl) dD_init_47 (fun H locs I => ?_)
  have I : mp_I D cls5 (tys6 k) s _ s.heap H locs (mp_up M_21 d (.inr (0, [.ref q1, .ref q2, .int (nI 0), .ref q3, .int (nI 0), .ref q4, .int 0, .null, .int 0, .null, .int 0]))) := I
  have h0__M_21_n : mp_up M_21 d (.inr (0, [.ref q1, .ref q2, .int (nI 0), .ref q3, .int (nI 0), .ref q4, .int 0, .null, .int 0, .null, .int 0])) d = some (.inr (0, [.ref q1, .ref q2, .int (nI 0), .ref q3, .int (nI 0), .ref q4, .int 0, .null, .int 0, .null, .int 0])) := mp_up_s _ _ _
  have hqq1__M_21_n : mp_up M_21 d (.inr (0, [.ref q1, .ref q2, .int (nI 0), .ref q3, .int (nI 0), .ref q4, .int 0, .null, .int 0, .null, .int 0])) q1 = some (.inl (k 1, 4000, .inr (.inl (fun _ => 0)))) := (mp_up_n (mp_ne hqq1__M_21 h0__M_21 (by simp))).trans hqq1__M_21
  have hqq2__M_21_n : mp_up M_21 d (.inr (0, [.ref q1, .ref q2, .int (nI 0), .ref q3, .int (nI 0), .ref q4, .int 0, .null, .int 0, .null, .int 0])) q2 = some (.inl (k 0, 4000, .inl (fun i_ => nI ((fun _ => 0) i_)))) := (mp_up_n (mp_ne hqq2__M_21 h0__M_21 (by simp))).trans hqq2__M_21
  have hqq3__M_21_n : mp_up M_21 d (.inr (0, [.ref q1, .ref q2, .int (nI 0), .ref q3, .int (nI 0), .ref q4, .int 0, .null, .int 0, .null, .int 0])) q3 = some (.inl (k 2, 300, .inr (.inr (.inr (.inr (fun _ => none)))))) := (mp_up_n (mp_ne hqq3__M_21 h0__M_21 (by simp))).trans hqq3__M_21
  have hqq4__M_21_n : mp_up M_21 d (.inr (0, [.ref q1, .ref q2, .int (nI 0), .ref q3, .int (nI 0), .ref q4, .int 0, .null, .int 0, .null, .int 0])) q4 = some (.inl (k 0, 12, .inl (fun i_ => nI ((fun _ => 0) i_)))) := (mp_up_n (mp_ne hqq4__M_21 h0__M_21 (by simp))).trans hqq4__M_21
  generalize eM_24 : mp_up M_21 d (.inr (0, [.ref q1, .ref q2, .int (nI 0), .ref q3, .int (nI 0), .ref q4, .int 0, .null, .int 0, .null, .int 0])) = M_23 at I h0__M_21_n hqq1__M_21_n hqq2__M_21_n hqq3__M_21_n hqq4__M_21_n
  have h0__M_23 := h0__M_21_n
  have hqq1__M_23 := hqq1__M_21_n
  have hqq2__M_23 := hqq2__M_21_n
  have hqq3__M_23 := hqq3__M_21_n
  have hqq4__M_23 := hqq4__M_21_n
  clear h0__M_21_n hqq1__M_21_n hqq2__M_21_n hqq3__M_21_n hqq4__M_21_n
  refine lv_aload_n hx hb dD_init_50 rfl (lv_at hl 0 rfl) ?_
  refine lv_iconst (v := nI 0) hx hb dD_init_51 (by decide) ?_
  refine mp_put (v := .int (nI 0)) (ty := .int) hx hb hts inD tyD okD nmD hown I h0__M_23 rfl 6 (by decide) (hts _ bw_32) (fun _ h9 => h9) rfl (by decide +kernel) rfl rfl (Nat.le_of_ble_eq_true rfl) dD_init_52 (fun H locs I => ?_)
  have I : mp_I D cls5 (tys6 k) s _ s.heap H locs (mp_up M_23 d (.inr (0, [.ref q1, .ref q2, .int (nI 0), .ref q3, .int (nI 0), .ref q4, .int (nI 0), .null, .int 0, .null, .int 0]))) := I
  have h0__M_23_n : mp_up M_23 d (.inr (0, [.ref q1, .ref q2, .int (nI 0), .ref q3, .int (nI 0), .ref q4, .int (nI 0), .null, .int 0, .null, .int 0])) d = some (.inr (0, [.ref q1, .ref q2, .int (nI 0), .ref q3, .int (nI 0), .ref q4, .int (nI 0), .null, .int 0, .null, .int 0])) := mp_up_s _ _ _
  have hqq1__M_23_n : mp_up M_23 d (.inr (0, [.ref q1, .ref q2, .int (nI 0), .ref q3, .int (nI 0), .ref q4, .int (nI 0), .null, .int 0, .null, .int 0])) q1 = some (.inl (k 1, 4000, .inr (.inl (fun _ => 0)))) := (mp_up_n (mp_ne hqq1__M_23 h0__M_23 (by simp))).trans hqq1__M_23
  have hqq2__M_23_n : mp_up M_23 d (.inr (0, [.ref q1, .ref q2, .int (nI 0), .ref q3, .int (nI 0), .ref q4, .int (nI 0), .null, .int 0, .null, .int 0])) q2 = some (.inl (k 0, 4000, .inl (fun i_ => nI ((fun _ => 0) i_)))) := (mp_up_n (mp_ne hqq2__M_23 h0__M_23 (by simp))).trans hqq2__M_23
  have hqq3__M_23_n : mp_up M_23 d (.inr (0, [.ref q1, .ref q2, .int (nI 0), .ref q3, .int (nI 0), .ref q4, .int (nI 0), .null, .int 0, .null, .int 0])) q3 = some (.inl (k 2, 300, .inr (.inr (.inr (.inr (fun _ => none)))))) := (mp_up_n (mp_ne hqq3__M_23 h0__M_23 (by simp))).trans hqq3__M_23
  have hqq4__M_23_n : mp_up M_23 d (.inr (0, [.ref q1, .ref q2, .int (nI 0), .ref q3, .int (nI 0), .ref q4, .int (nI 0), .null, .int 0, .null, .int 0])) q4 = some (.inl (k 0, 12, .inl (fun i_ => nI ((fun _ => 0) i_)))) := (mp_up_n (mp_ne hqq4__M_23 h0__M_23 (by simp))).trans hqq4__M_23
  generalize eM_26 : mp_up M_23 d (.inr (0, [.ref q1, .ref q2, .int (nI 0), .ref q3, .int (nI 0), .ref q4, .int (nI 0), .null, .int 0, .null, .int 0])) = M_25 at I h0__M_23_n hqq1__M_23_n hqq2__M_23_n hqq3__M_23_n hqq4__M_23_n
  have h0__M_25 := h0__M_23_n
  have hqq1__M_25 := hqq1__M_23_n
  have hqq2__M_25 := hqq2__M_23_n
  have hqq3__M_25 := hqq3__M_23_n
  have hqq4__M_25 := hqq4__M_23_n
  clear h0__M_23_n hqq1__M_23_n hqq2__M_23_n hqq3__M_23_n hqq4__M_23_n
  refine lv_aload_n hx hb dD_init_55 rfl (lv_at hl 0 rfl) ?_
  refine lv_bipush (v := nI 100) hx hb dD_init_56 (by decide) ?_
  refine mp_newq hx hb hown (hts _ bw_22) I.1.2.2.2.1 I 3 rfl (by decide) (nI_clamp (by decide)) (by decide) (Nat.le_of_ble_eq_true rfl) (Nat.le_of_ble_eq_true rfl) dD_init_58 (fun q5 H hq_27 I => ?_)
  have hqq5_n : mp_up M_25 q5 (.inl (k 3, 100, .inr (.inr (.inr (.inr (fun _ => none)))))) q5 = some (.inl (k 3, 100, .inr (.inr (.inr (.inr (fun _ => none)))))) := mp_up_s _ _ _
  have h0__M_25_n : mp_up M_25 q5 (.inl (k 3, 100, .inr (.inr (.inr (.inr (fun _ => none)))))) d = some (.inr (0, [.ref q1, .ref q2, .int (nI 0), .ref q3, .int (nI 0), .ref q4, .int (nI 0), .null, .int 0, .null, .int 0])) := (mp_up_n (fun z => by rw [z, hq_27] at h0__M_25; cases h0__M_25)).trans h0__M_25
  have hqq1__M_25_n : mp_up M_25 q5 (.inl (k 3, 100, .inr (.inr (.inr (.inr (fun _ => none)))))) q1 = some (.inl (k 1, 4000, .inr (.inl (fun _ => 0)))) := (mp_up_n (fun z => by rw [z, hq_27] at hqq1__M_25; cases hqq1__M_25)).trans hqq1__M_25
  have hqq2__M_25_n : mp_up M_25 q5 (.inl (k 3, 100, .inr (.inr (.inr (.inr (fun _ => none)))))) q2 = some (.inl (k 0, 4000, .inl (fun i_ => nI ((fun _ => 0) i_)))) := (mp_up_n (fun z => by rw [z, hq_27] at hqq2__M_25; cases hqq2__M_25)).trans hqq2__M_25
  have hqq3__M_25_n : mp_up M_25 q5 (.inl (k 3, 100, .inr (.inr (.inr (.inr (fun _ => none)))))) q3 = some (.inl (k 2, 300, .inr (.inr (.inr (.inr (fun _ => none)))))) := (mp_up_n (fun z => by rw [z, hq_27] at hqq3__M_25; cases hqq3__M_25)).trans hqq3__M_25
  have hqq4__M_25_n : mp_up M_25 q5 (.inl (k 3, 100, .inr (.inr (.inr (.inr (fun _ => none)))))) q4 = some (.inl (k 0, 12, .inl (fun i_ => nI ((fun _ => 0) i_)))) := (mp_up_n (fun z => by rw [z, hq_27] at hqq4__M_25; cases hqq4__M_25)).trans hqq4__M_25
  generalize eM_29 : mp_up M_25 q5 (.inl (k 3, 100, .inr (.inr (.inr (.inr (fun _ => none)))))) = M_28 at I hqq5_n h0__M_25_n hqq1__M_25_n hqq2__M_25_n hqq3__M_25_n hqq4__M_25_n
  have h0__M_28 := h0__M_25_n
  have hqq1__M_28 := hqq1__M_25_n
  have hqq2__M_28 := hqq2__M_25_n
  have hqq3__M_28 := hqq3__M_25_n
  have hqq4__M_28 := hqq4__M_25_n
  have hqq5__M_28 := hqq5_n
  clear hqq5_n h0__M_25_n hqq1__M_25_n hqq2__M_25_n hqq3__M_25_n hqq4__M_25_n
  refine mp_putF (v := .ref q5) (ty := .array (.object "PlaceDesk$Spot")) hx hb hts inD tyD okD nmD hown I h0__M_28 rfl 7 (by decide) (hts _ bw_33) (fun _ h9 => h9) rfl hin rfl (by decide +kernel) rfl rfl (Nat.le_of_ble_eq_true rfl) dD_init_61 (fun H locs I => ?_)
  have I : mp_I D cls5 (tys6 k) s _ s.heap H locs (mp_up M_28 d (.inr (0, [.ref q1, .ref q2, .int (nI 0), .ref q3, .int (nI 0), .ref q4, .int (nI 0), .ref q5, .int 0, .null, .int 0]))) := I
  have h0__M_28_n : mp_up M_28 d (.inr (0, [.ref q1, .ref q2, .int (nI 0), .ref q3, .int (nI 0), .ref q4, .int (nI 0), .ref q5, .int 0, .null, .int 0])) d = some (.inr (0, [.ref q1, .ref q2, .int (nI 0), .ref q3, .int (nI 0), .ref q4, .int (nI 0), .ref q5, .int 0, .null, .int 0])) := mp_up_s _ _ _
  have hqq1__M_28_n : mp_up M_28 d (.inr (0, [.ref q1, .ref q2, .int (nI 0), .ref q3, .int (nI 0), .ref q4, .int (nI 0), .ref q5, .int 0, .null, .int 0])) q1 = some (.inl (k 1, 4000, .inr (.inl (fun _ => 0)))) := (mp_up_n (mp_ne hqq1__M_28 h0__M_28 (by simp))).trans hqq1__M_28
  have hqq2__M_28_n : mp_up M_28 d (.inr (0, [.ref q1, .ref q2, .int (nI 0), .ref q3, .int (nI 0), .ref q4, .int (nI 0), .ref q5, .int 0, .null, .int 0])) q2 = some (.inl (k 0, 4000, .inl (fun i_ => nI ((fun _ => 0) i_)))) := (mp_up_n (mp_ne hqq2__M_28 h0__M_28 (by simp))).trans hqq2__M_28
  have hqq3__M_28_n : mp_up M_28 d (.inr (0, [.ref q1, .ref q2, .int (nI 0), .ref q3, .int (nI 0), .ref q4, .int (nI 0), .ref q5, .int 0, .null, .int 0])) q3 = some (.inl (k 2, 300, .inr (.inr (.inr (.inr (fun _ => none)))))) := (mp_up_n (mp_ne hqq3__M_28 h0__M_28 (by simp))).trans hqq3__M_28
  have hqq4__M_28_n : mp_up M_28 d (.inr (0, [.ref q1, .ref q2, .int (nI 0), .ref q3, .int (nI 0), .ref q4, .int (nI 0), .ref q5, .int 0, .null, .int 0])) q4 = some (.inl (k 0, 12, .inl (fun i_ => nI ((fun _ => 0) i_)))) := (mp_up_n (mp_ne hqq4__M_28 h0__M_28 (by simp))).trans hqq4__M_28
  have hqq5__M_28_n : mp_up M_28 d (.inr (0, [.ref q1, .ref q2, .int (nI 0), .ref q3, .int (nI 0), .ref q4, .int (nI 0), .ref q5, .int 0, .null, .int 0])) q5 = some (.inl (k 3, 100, .inr (.inr (.inr (.inr (fun _ => none)))))) := (mp_up_n (mp_ne hqq5__M_28 h0__M_28 (by simp))).trans hqq5__M_28
  generalize eM_31 : mp_up M_28 d (.inr (0, [.ref q1, .ref q2, .int (nI 0), .ref q3, .int (nI 0), .ref q4, .int (nI 0), .ref q5, .int 0, .null, .int 0])) = M_30 at I h0__M_28_n hqq1__M_28_n hqq2__M_28_n hqq3__M_28_n hqq4__M_28_n hqq5__M_28_n
  have h0__M_30 := h0__M_28_n
  have hqq1__M_30 := hqq1__M_28_n
  have hqq2__M_30 := hqq2__M_28_n
  have hqq3__M_30 := hqq3__M_28_n
  have hqq4__M_30 := hqq4__M_28_n
  have hqq5__M_30 := hqq5__M_28_n
  clear h0__M_28_n hqq1__M_28_n hqq2__M_28_n hqq3__M_28_n hqq4__M_28_n hqq5__M_28_n
  refine lv_aload_n hx hb dD_init_64 rfl (lv_at hl 0 rfl) ?_
  refine lv_iconst (v := nI 0) hx hb dD_init_65 (by decide) ?_
  refine mp_put (v := .int (nI 0)) (ty := .int) hx hb hts inD tyD okD nmD hown I h0__M_30 rfl 8 (by decide) (hts _ bw_34) (fun _ h9 => h9) rfl (by decide +kernel) rfl rfl (Nat.le_of_ble_eq_true rfl) dD_init_66 (fun H locs I => ?_)
  have I : mp_I D cls5 (tys6 k) s _ s.heap H locs (mp_up M_30 d (.inr (0, [.ref q1, .ref q2, .int (nI 0), .ref q3, .int (nI 0), .ref q4, .int (nI 0), .ref q5, .int (nI 0), .null, .int 0]))) := I
  have h0__M_30_n : mp_up M_30 d (.inr (0, [.ref q1, .ref q2, .int (nI 0), .ref q3, .int (nI 0), .ref q4, .int (nI 0), .ref q5, .int (nI 0), .null, .int 0])) d = some (.inr (0, [.ref q1, .ref q2, .int (nI 0), .ref q3, .int (nI 0), .ref q4, .int (nI 0), .ref q5, .int (nI 0), .null, .int 0])) := mp_up_s _ _ _
  have hqq1__M_30_n : mp_up M_30 d (.inr (0, [.ref q1, .ref q2, .int (nI 0), .ref q3, .int (nI 0), .ref q4, .int (nI 0), .ref q5, .int (nI 0), .null, .int 0])) q1 = some (.inl (k 1, 4000, .inr (.inl (fun _ => 0)))) := (mp_up_n (mp_ne hqq1__M_30 h0__M_30 (by simp))).trans hqq1__M_30
  have hqq2__M_30_n : mp_up M_30 d (.inr (0, [.ref q1, .ref q2, .int (nI 0), .ref q3, .int (nI 0), .ref q4, .int (nI 0), .ref q5, .int (nI 0), .null, .int 0])) q2 = some (.inl (k 0, 4000, .inl (fun i_ => nI ((fun _ => 0) i_)))) := (mp_up_n (mp_ne hqq2__M_30 h0__M_30 (by simp))).trans hqq2__M_30
  have hqq3__M_30_n : mp_up M_30 d (.inr (0, [.ref q1, .ref q2, .int (nI 0), .ref q3, .int (nI 0), .ref q4, .int (nI 0), .ref q5, .int (nI 0), .null, .int 0])) q3 = some (.inl (k 2, 300, .inr (.inr (.inr (.inr (fun _ => none)))))) := (mp_up_n (mp_ne hqq3__M_30 h0__M_30 (by simp))).trans hqq3__M_30
  have hqq4__M_30_n : mp_up M_30 d (.inr (0, [.ref q1, .ref q2, .int (nI 0), .ref q3, .int (nI 0), .ref q4, .int (nI 0), .ref q5, .int (nI 0), .null, .int 0])) q4 = some (.inl (k 0, 12, .inl (fun i_ => nI ((fun _ => 0) i_)))) := (mp_up_n (mp_ne hqq4__M_30 h0__M_30 (by simp))).trans hqq4__M_30
  have hqq5__M_30_n : mp_up M_30 d (.inr (0, [.ref q1, .ref q2, .int (nI 0), .ref q3, .int (nI 0), .ref q4, .int (nI 0), .ref q5, .int (nI 0), .null, .int 0])) q5 = some (.inl (k 3, 100, .inr (.inr (.inr (.inr (fun _ => none)))))) := (mp_up_n (mp_ne hqq5__M_30 h0__M_30 (by simp))).trans hqq5__M_30
  generalize eM_33 : mp_up M_30 d (.inr (0, [.ref q1, .ref q2, .int (nI 0), .ref q3, .int (nI 0), .ref q4, .int (nI 0), .ref q5, .int (nI 0), .null, .int 0])) = M_32 at I h0__M_30_n hqq1__M_30_n hqq2__M_30_n hqq3__M_30_n hqq4__M_30_n hqq5__M_30_n
  have h0__M_32 := h0__M_30_n
  have hqq1__M_32 := hqq1__M_30_n
  have hqq2__M_32 := hqq2__M_30_n
  have hqq3__M_32 := hqq3__M_30_n
  have hqq4__M_32 := hqq4__M_30_n
  have hqq5__M_32 := hqq5__M_30_n
  clear h0__M_30_n hqq1__M_30_n hqq2__M_30_n hqq3__M_30_n hqq4__M_30_n hqq5__M_30_n
  refine lv_aload_n hx hb dD_init_69 rfl (lv_at hl 0 rfl) ?_
  refine lv_bipush (v := nI 20) hx hb dD_init_70 (by decide) ?_
  refine mp_newq hx hb hown (hts _ bw_24) I.1.2.2.2.2 I 4 rfl (by decide) (nI_clamp (by decide)) (by decide) (Nat.le_of_ble_eq_true rfl) (Nat.le_of_ble_eq_true rfl) dD_init_72 (fun q6 H hq_34 I => ?_)
  have hqq6_n : mp_up M_32 q6 (.inl (k 4, 20, .inr (.inr (.inr (.inr (fun _ => none)))))) q6 = some (.inl (k 4, 20, .inr (.inr (.inr (.inr (fun _ => none)))))) := mp_up_s _ _ _
  have h0__M_32_n : mp_up M_32 q6 (.inl (k 4, 20, .inr (.inr (.inr (.inr (fun _ => none)))))) d = some (.inr (0, [.ref q1, .ref q2, .int (nI 0), .ref q3, .int (nI 0), .ref q4, .int (nI 0), .ref q5, .int (nI 0), .null, .int 0])) := (mp_up_n (fun z => by rw [z, hq_34] at h0__M_32; cases h0__M_32)).trans h0__M_32
  have hqq1__M_32_n : mp_up M_32 q6 (.inl (k 4, 20, .inr (.inr (.inr (.inr (fun _ => none)))))) q1 = some (.inl (k 1, 4000, .inr (.inl (fun _ => 0)))) := (mp_up_n (fun z => by rw [z, hq_34] at hqq1__M_32; cases hqq1__M_32)).trans hqq1__M_32
  have hqq2__M_32_n : mp_up M_32 q6 (.inl (k 4, 20, .inr (.inr (.inr (.inr (fun _ => none)))))) q2 = some (.inl (k 0, 4000, .inl (fun i_ => nI ((fun _ => 0) i_)))) := (mp_up_n (fun z => by rw [z, hq_34] at hqq2__M_32; cases hqq2__M_32)).trans hqq2__M_32
  have hqq3__M_32_n : mp_up M_32 q6 (.inl (k 4, 20, .inr (.inr (.inr (.inr (fun _ => none)))))) q3 = some (.inl (k 2, 300, .inr (.inr (.inr (.inr (fun _ => none)))))) := (mp_up_n (fun z => by rw [z, hq_34] at hqq3__M_32; cases hqq3__M_32)).trans hqq3__M_32
  have hqq4__M_32_n : mp_up M_32 q6 (.inl (k 4, 20, .inr (.inr (.inr (.inr (fun _ => none)))))) q4 = some (.inl (k 0, 12, .inl (fun i_ => nI ((fun _ => 0) i_)))) := (mp_up_n (fun z => by rw [z, hq_34] at hqq4__M_32; cases hqq4__M_32)).trans hqq4__M_32
  have hqq5__M_32_n : mp_up M_32 q6 (.inl (k 4, 20, .inr (.inr (.inr (.inr (fun _ => none)))))) q5 = some (.inl (k 3, 100, .inr (.inr (.inr (.inr (fun _ => none)))))) := (mp_up_n (fun z => by rw [z, hq_34] at hqq5__M_32; cases hqq5__M_32)).trans hqq5__M_32
  generalize eM_36 : mp_up M_32 q6 (.inl (k 4, 20, .inr (.inr (.inr (.inr (fun _ => none)))))) = M_35 at I hqq6_n h0__M_32_n hqq1__M_32_n hqq2__M_32_n hqq3__M_32_n hqq4__M_32_n hqq5__M_32_n
  have h0__M_35 := h0__M_32_n
  have hqq1__M_35 := hqq1__M_32_n
  have hqq2__M_35 := hqq2__M_32_n
  have hqq3__M_35 := hqq3__M_32_n
  have hqq4__M_35 := hqq4__M_32_n
  have hqq5__M_35 := hqq5__M_32_n
  have hqq6__M_35 := hqq6_n
  clear hqq6_n h0__M_32_n hqq1__M_32_n hqq2__M_32_n hqq3__M_32_n hqq4__M_32_n hqq5__M_32_n
  refine mp_putF (v := .ref q6) (ty := .array (.object "PlaceDesk$Snapshot")) hx hb hts inD tyD okD nmD hown I h0__M_35 rfl 9 (by decide) (hts _ bw_35) (fun _ h9 => h9) rfl hin rfl (by decide +kernel) rfl rfl (Nat.le_of_ble_eq_true rfl) dD_init_75 (fun H locs I => ?_)
  have I : mp_I D cls5 (tys6 k) s _ s.heap H locs (mp_up M_35 d (.inr (0, [.ref q1, .ref q2, .int (nI 0), .ref q3, .int (nI 0), .ref q4, .int (nI 0), .ref q5, .int (nI 0), .ref q6, .int 0]))) := I
  have h0__M_35_n : mp_up M_35 d (.inr (0, [.ref q1, .ref q2, .int (nI 0), .ref q3, .int (nI 0), .ref q4, .int (nI 0), .ref q5, .int (nI 0), .ref q6, .int 0])) d = some (.inr (0, [.ref q1, .ref q2, .int (nI 0), .ref q3, .int (nI 0), .ref q4, .int (nI 0), .ref q5, .int (nI 0), .ref q6, .int 0])) := mp_up_s _ _ _
  have hqq1__M_35_n : mp_up M_35 d (.inr (0, [.ref q1, .ref q2, .int (nI 0), .ref q3, .int (nI 0), .ref q4, .int (nI 0), .ref q5, .int (nI 0), .ref q6, .int 0])) q1 = some (.inl (k 1, 4000, .inr (.inl (fun _ => 0)))) := (mp_up_n (mp_ne hqq1__M_35 h0__M_35 (by simp))).trans hqq1__M_35
  have hqq2__M_35_n : mp_up M_35 d (.inr (0, [.ref q1, .ref q2, .int (nI 0), .ref q3, .int (nI 0), .ref q4, .int (nI 0), .ref q5, .int (nI 0), .ref q6, .int 0])) q2 = some (.inl (k 0, 4000, .inl (fun i_ => nI ((fun _ => 0) i_)))) := (mp_up_n (mp_ne hqq2__M_35 h0__M_35 (by simp))).trans hqq2__M_35
  have hqq3__M_35_n : mp_up M_35 d (.inr (0, [.ref q1, .ref q2, .int (nI 0), .ref q3, .int (nI 0), .ref q4, .int (nI 0), .ref q5, .int (nI 0), .ref q6, .int 0])) q3 = some (.inl (k 2, 300, .inr (.inr (.inr (.inr (fun _ => none)))))) := (mp_up_n (mp_ne hqq3__M_35 h0__M_35 (by simp))).trans hqq3__M_35
  have hqq4__M_35_n : mp_up M_35 d (.inr (0, [.ref q1, .ref q2, .int (nI 0), .ref q3, .int (nI 0), .ref q4, .int (nI 0), .ref q5, .int (nI 0), .ref q6, .int 0])) q4 = some (.inl (k 0, 12, .inl (fun i_ => nI ((fun _ => 0) i_)))) := (mp_up_n (mp_ne hqq4__M_35 h0__M_35 (by simp))).trans hqq4__M_35
  have hqq5__M_35_n : mp_up M_35 d (.inr (0, [.ref q1, .ref q2, .int (nI 0), .ref q3, .int (nI 0), .ref q4, .int (nI 0), .ref q5, .int (nI 0), .ref q6, .int 0])) q5 = some (.inl (k 3, 100, .inr (.inr (.inr (.inr (fun _ => none)))))) := (mp_up_n (mp_ne hqq5__M_35 h0__M_35 (by simp))).trans hqq5__M_35
  have hqq6__M_35_n : mp_up M_35 d (.inr (0, [.ref q1, .ref q2, .int (nI 0), .ref q3, .int (nI 0), .ref q4, .int (nI 0), .ref q5, .int (nI 0), .ref q6, .int 0])) q6 = some (.inl (k 4, 20, .inr (.inr (.inr (.inr (fun _ => none)))))) := (mp_up_n (mp_ne hqq6__M_35 h0__M_35 (by simp))).trans hqq6__M_35
  generalize eM_38 : mp_up M_35 d (.inr (0, [.ref q1, .ref q2, .int (nI 0), .ref q3, .int (nI 0), .ref q4, .int (nI 0), .ref q5, .int (nI 0), .ref q6, .int 0])) = M_37 at I h0__M_35_n hqq1__M_35_n hqq2__M_35_n hqq3__M_35_n hqq4__M_35_n hqq5__M_35_n hqq6__M_35_n
  have h0__M_37 := h0__M_35_n
  have hqq1__M_37 := hqq1__M_35_n
  have hqq2__M_37 := hqq2__M_35_n
  have hqq3__M_37 := hqq3__M_35_n
  have hqq4__M_37 := hqq4__M_35_n
  have hqq5__M_37 := hqq5__M_35_n
  have hqq6__M_37 := hqq6__M_35_n
  clear h0__M_35_n hqq1__M_35_n hqq2__M_35_n hqq3__M_35_n hqq4__M_35_n hqq5__M_35_n hqq6__M_35_n
  refine lv_aload_n hx hb dD_init_78 rfl (lv_at hl 0 rfl) ?_
  refine lv_iconst (v := nI 0) hx hb dD_init_79 (by decide) ?_
  refine mp_put (v := .int (nI 0)) (ty := .int) hx hb hts inD tyD okD nmD hown I h0__M_37 rfl 10 (by decide) (hts _ bw_36) (fun _ h9 => h9) rfl (by decide +kernel) rfl rfl (Nat.le_of_ble_eq_true rfl) dD_init_80 (fun H locs I => ?_)
  have I : mp_I D cls5 (tys6 k) s _ s.heap H locs (mp_up M_37 d (.inr (0, [.ref q1, .ref q2, .int (nI 0), .ref q3, .int (nI 0), .ref q4, .int (nI 0), .ref q5, .int (nI 0), .ref q6, .int (nI 0)]))) := I
  have h0__M_37_n : mp_up M_37 d (.inr (0, [.ref q1, .ref q2, .int (nI 0), .ref q3, .int (nI 0), .ref q4, .int (nI 0), .ref q5, .int (nI 0), .ref q6, .int (nI 0)])) d = some (.inr (0, [.ref q1, .ref q2, .int (nI 0), .ref q3, .int (nI 0), .ref q4, .int (nI 0), .ref q5, .int (nI 0), .ref q6, .int (nI 0)])) := mp_up_s _ _ _
  have hqq1__M_37_n : mp_up M_37 d (.inr (0, [.ref q1, .ref q2, .int (nI 0), .ref q3, .int (nI 0), .ref q4, .int (nI 0), .ref q5, .int (nI 0), .ref q6, .int (nI 0)])) q1 = some (.inl (k 1, 4000, .inr (.inl (fun _ => 0)))) := (mp_up_n (mp_ne hqq1__M_37 h0__M_37 (by simp))).trans hqq1__M_37
  have hqq2__M_37_n : mp_up M_37 d (.inr (0, [.ref q1, .ref q2, .int (nI 0), .ref q3, .int (nI 0), .ref q4, .int (nI 0), .ref q5, .int (nI 0), .ref q6, .int (nI 0)])) q2 = some (.inl (k 0, 4000, .inl (fun i_ => nI ((fun _ => 0) i_)))) := (mp_up_n (mp_ne hqq2__M_37 h0__M_37 (by simp))).trans hqq2__M_37
  have hqq3__M_37_n : mp_up M_37 d (.inr (0, [.ref q1, .ref q2, .int (nI 0), .ref q3, .int (nI 0), .ref q4, .int (nI 0), .ref q5, .int (nI 0), .ref q6, .int (nI 0)])) q3 = some (.inl (k 2, 300, .inr (.inr (.inr (.inr (fun _ => none)))))) := (mp_up_n (mp_ne hqq3__M_37 h0__M_37 (by simp))).trans hqq3__M_37
  have hqq4__M_37_n : mp_up M_37 d (.inr (0, [.ref q1, .ref q2, .int (nI 0), .ref q3, .int (nI 0), .ref q4, .int (nI 0), .ref q5, .int (nI 0), .ref q6, .int (nI 0)])) q4 = some (.inl (k 0, 12, .inl (fun i_ => nI ((fun _ => 0) i_)))) := (mp_up_n (mp_ne hqq4__M_37 h0__M_37 (by simp))).trans hqq4__M_37
  have hqq5__M_37_n : mp_up M_37 d (.inr (0, [.ref q1, .ref q2, .int (nI 0), .ref q3, .int (nI 0), .ref q4, .int (nI 0), .ref q5, .int (nI 0), .ref q6, .int (nI 0)])) q5 = some (.inl (k 3, 100, .inr (.inr (.inr (.inr (fun _ => none)))))) := (mp_up_n (mp_ne hqq5__M_37 h0__M_37 (by simp))).trans hqq5__M_37
  have hqq6__M_37_n : mp_up M_37 d (.inr (0, [.ref q1, .ref q2, .int (nI 0), .ref q3, .int (nI 0), .ref q4, .int (nI 0), .ref q5, .int (nI 0), .ref q6, .int (nI 0)])) q6 = some (.inl (k 4, 20, .inr (.inr (.inr (.inr (fun _ => none)))))) := (mp_up_n (mp_ne hqq6__M_37 h0__M_37 (by simp))).trans hqq6__M_37
  generalize eM_40 : mp_up M_37 d (.inr (0, [.ref q1, .ref q2, .int (nI 0), .ref q3, .int (nI 0), .ref q4, .int (nI 0), .ref q5, .int (nI 0), .ref q6, .int (nI 0)])) = M_39 at I h0__M_37_n hqq1__M_37_n hqq2__M_37_n hqq3__M_37_n hqq4__M_37_n hqq5__M_37_n hqq6__M_37_n
  have h0__M_39 := h0__M_37_n
  have hqq1__M_39 := hqq1__M_37_n
  have hqq2__M_39 := hqq2__M_37_n
  have hqq3__M_39 := hqq3__M_37_n
  have hqq4__M_39 := hqq4__M_37_n
  have hqq5__M_39 := hqq5__M_37_n
  have hqq6__M_39 := hqq6__M_37_n
  clear h0__M_37_n hqq1__M_37_n hqq2__M_37_n hqq3__M_37_n hqq4__M_37_n hqq5__M_37_n hqq6__M_37_n
  exact mp_vret hx hb hr hlocks I (Nat.le_of_ble_eq_true rfl) (Nat.le_of_ble_eq_true rfl) dD_init_83 ⟨q1, q2, q3, q4, q5, q6, h0__M_39, hqq1__M_39, hqq2__M_39, hqq3__M_39, hqq4__M_39, hqq5__M_39, hqq6__M_39, fun i hi => absurd hi (by omega), fun i hi => absurd hi (by omega), fun i _ => Or.inl ⟨rfl, by omega⟩, fun i j _ _ h => absurd rfl h⟩
end
section
/-! ## The reference over a map (written by wip/gen/mdl.py) -/
def MdX (k : Nat → ClassId) (M : mp_M) (mo el ek bg sz kn rw pp pk wd lo kp ks : Nat) (ec tc wc sc nc th : Nat) (va mk : Nat → Int64) (kd wt tk tf tz sk sf sw ml nn : Nat → Nat) : Prop :=
  M mo = some (.inr (4, [.ref el, .ref ek, .int (nI ec), .ref bg, .ref sz, .ref kn, .int (nI tc), .ref rw, .int (nI wc), .ref pp, .ref pk, .ref wd, .ref lo, .int (nI sc), .ref kp, .ref ks, .int (nI nc), .int (nI th)])) ∧ M el = some (.inl (k 1, 4000, .inr (.inl va))) ∧ M ek = some (.inl (k 0, 4000, .inl (fun i => nI (kd i)))) ∧ M bg = some (.inl (k 0, 300, .inl (fun i => nI (tf i)))) ∧ M sz = some (.inl (k 0, 300, .inl (fun i => nI (tz i)))) ∧ M kn = some (.inl (k 0, 300, .inl (fun i => nI (tk i)))) ∧ M rw = some (.inl (k 0, 12, .inl (fun i => nI (wt i)))) ∧ M pp = some (.inl (k 0, 100, .inl (fun i => nI (sf i)))) ∧ M pk = some (.inl (k 0, 100, .inl (fun i => nI (sk i)))) ∧ M wd = some (.inl (k 0, 100, .inl (fun i => nI (sw i)))) ∧ M lo = some (.inl (k 5, 100, .inl (fun i => nI (ml i)))) ∧ M kp = some (.inl (k 1, 80000, .inr (.inl mk))) ∧ M ks = some (.inl (k 0, 20, .inl (fun i => nI (nn i)))) ∧ bg ≠ sz ∧ bg ≠ kn ∧ sz ≠ kn ∧ pp ≠ pk ∧ pp ≠ wd ∧ pk ≠ wd ∧ pp ≠ lo ∧ pk ≠ lo ∧ wd ≠ lo
theorem MdX.set_el {k : Nat → ClassId} {M : mp_M} {mo el ek bg sz kn rw pp pk wd lo kp ks : Nat} {ec tc wc sc nc th : Nat} {va mk : Nat → Int64} {kd wt tk tf tz sk sf sw ml nn : Nat → Nat} (f2 : Nat → Int64) (h : MdX k M mo el ek bg sz kn rw pp pk wd lo kp ks ec tc wc sc nc th va mk kd wt tk tf tz sk sf sw ml nn) : MdX k (mp_up M el (.inl (k 1, 4000, .inr (.inl f2)))) mo el ek bg sz kn rw pp pk wd lo kp ks ec tc wc sc nc th (f2) mk kd wt tk tf tz sk sf sw ml nn := by
  obtain ⟨h0, hel, hek, hbg, hsz, hkn, hrw, hpp, hpk, hwd, hlo, hkp, hks, n_bg_sz, n_bg_kn, n_sz_kn, n_pp_pk, n_pp_wd, n_pk_wd, n_pp_lo, n_pk_lo, n_wd_lo⟩ := h
  exact ⟨(mp_up_n (mp_ne h0 hel (by simp))).trans h0, mp_up_s _ _ _, (mp_up_n (mp_ne hek hel (by simp))).trans hek, (mp_up_n (mp_ne hbg hel (by simp))).trans hbg, (mp_up_n (mp_ne hsz hel (by simp))).trans hsz, (mp_up_n (mp_ne hkn hel (by simp))).trans hkn, (mp_up_n (mp_ne hrw hel (by simp))).trans hrw, (mp_up_n (mp_ne hpp hel (by simp))).trans hpp, (mp_up_n (mp_ne hpk hel (by simp))).trans hpk, (mp_up_n (mp_ne hwd hel (by simp))).trans hwd, (mp_up_n (mp_ne hlo hel (by simp))).trans hlo, (mp_up_n (mp_ne hkp hel (by simp))).trans hkp, (mp_up_n (mp_ne hks hel (by simp))).trans hks, n_bg_sz, n_bg_kn, n_sz_kn, n_pp_pk, n_pp_wd, n_pk_wd, n_pp_lo, n_pk_lo, n_wd_lo⟩
theorem MdX.set_ek {k : Nat → ClassId} {M : mp_M} {mo el ek bg sz kn rw pp pk wd lo kp ks : Nat} {ec tc wc sc nc th : Nat} {va mk : Nat → Int64} {kd wt tk tf tz sk sf sw ml nn : Nat → Nat} (f2 : Nat → Nat) (h : MdX k M mo el ek bg sz kn rw pp pk wd lo kp ks ec tc wc sc nc th va mk kd wt tk tf tz sk sf sw ml nn) : MdX k (mp_up M ek (.inl (k 0, 4000, .inl (fun i => nI (f2 i))))) mo el ek bg sz kn rw pp pk wd lo kp ks ec tc wc sc nc th va mk (f2) wt tk tf tz sk sf sw ml nn := by
  obtain ⟨h0, hel, hek, hbg, hsz, hkn, hrw, hpp, hpk, hwd, hlo, hkp, hks, n_bg_sz, n_bg_kn, n_sz_kn, n_pp_pk, n_pp_wd, n_pk_wd, n_pp_lo, n_pk_lo, n_wd_lo⟩ := h
  exact ⟨(mp_up_n (mp_ne h0 hek (by simp))).trans h0, (mp_up_n (mp_ne hel hek (by simp))).trans hel, mp_up_s _ _ _, (mp_up_n (mp_ne hbg hek (by simp))).trans hbg, (mp_up_n (mp_ne hsz hek (by simp))).trans hsz, (mp_up_n (mp_ne hkn hek (by simp))).trans hkn, (mp_up_n (mp_ne hrw hek (by simp))).trans hrw, (mp_up_n (mp_ne hpp hek (by simp))).trans hpp, (mp_up_n (mp_ne hpk hek (by simp))).trans hpk, (mp_up_n (mp_ne hwd hek (by simp))).trans hwd, (mp_up_n (mp_ne hlo hek (by simp))).trans hlo, (mp_up_n (mp_ne hkp hek (by simp))).trans hkp, (mp_up_n (mp_ne hks hek (by simp))).trans hks, n_bg_sz, n_bg_kn, n_sz_kn, n_pp_pk, n_pp_wd, n_pk_wd, n_pp_lo, n_pk_lo, n_wd_lo⟩
theorem MdX.set_bg {k : Nat → ClassId} {M : mp_M} {mo el ek bg sz kn rw pp pk wd lo kp ks : Nat} {ec tc wc sc nc th : Nat} {va mk : Nat → Int64} {kd wt tk tf tz sk sf sw ml nn : Nat → Nat} (f2 : Nat → Nat) (h : MdX k M mo el ek bg sz kn rw pp pk wd lo kp ks ec tc wc sc nc th va mk kd wt tk tf tz sk sf sw ml nn) : MdX k (mp_up M bg (.inl (k 0, 300, .inl (fun i => nI (f2 i))))) mo el ek bg sz kn rw pp pk wd lo kp ks ec tc wc sc nc th va mk kd wt tk (f2) tz sk sf sw ml nn := by
  obtain ⟨h0, hel, hek, hbg, hsz, hkn, hrw, hpp, hpk, hwd, hlo, hkp, hks, n_bg_sz, n_bg_kn, n_sz_kn, n_pp_pk, n_pp_wd, n_pk_wd, n_pp_lo, n_pk_lo, n_wd_lo⟩ := h
  exact ⟨(mp_up_n (mp_ne h0 hbg (by simp))).trans h0, (mp_up_n (mp_ne hel hbg (by simp))).trans hel, (mp_up_n (mp_ne hek hbg (by simp))).trans hek, mp_up_s _ _ _, (mp_up_n (Ne.symm n_bg_sz)).trans hsz, (mp_up_n (Ne.symm n_bg_kn)).trans hkn, (mp_up_n (mp_ne hrw hbg (by simp))).trans hrw, (mp_up_n (mp_ne hpp hbg (by simp))).trans hpp, (mp_up_n (mp_ne hpk hbg (by simp))).trans hpk, (mp_up_n (mp_ne hwd hbg (by simp))).trans hwd, (mp_up_n (mp_ne hlo hbg (by simp))).trans hlo, (mp_up_n (mp_ne hkp hbg (by simp))).trans hkp, (mp_up_n (mp_ne hks hbg (by simp))).trans hks, n_bg_sz, n_bg_kn, n_sz_kn, n_pp_pk, n_pp_wd, n_pk_wd, n_pp_lo, n_pk_lo, n_wd_lo⟩
theorem MdX.set_sz {k : Nat → ClassId} {M : mp_M} {mo el ek bg sz kn rw pp pk wd lo kp ks : Nat} {ec tc wc sc nc th : Nat} {va mk : Nat → Int64} {kd wt tk tf tz sk sf sw ml nn : Nat → Nat} (f2 : Nat → Nat) (h : MdX k M mo el ek bg sz kn rw pp pk wd lo kp ks ec tc wc sc nc th va mk kd wt tk tf tz sk sf sw ml nn) : MdX k (mp_up M sz (.inl (k 0, 300, .inl (fun i => nI (f2 i))))) mo el ek bg sz kn rw pp pk wd lo kp ks ec tc wc sc nc th va mk kd wt tk tf (f2) sk sf sw ml nn := by
  obtain ⟨h0, hel, hek, hbg, hsz, hkn, hrw, hpp, hpk, hwd, hlo, hkp, hks, n_bg_sz, n_bg_kn, n_sz_kn, n_pp_pk, n_pp_wd, n_pk_wd, n_pp_lo, n_pk_lo, n_wd_lo⟩ := h
  exact ⟨(mp_up_n (mp_ne h0 hsz (by simp))).trans h0, (mp_up_n (mp_ne hel hsz (by simp))).trans hel, (mp_up_n (mp_ne hek hsz (by simp))).trans hek, (mp_up_n n_bg_sz).trans hbg, mp_up_s _ _ _, (mp_up_n (Ne.symm n_sz_kn)).trans hkn, (mp_up_n (mp_ne hrw hsz (by simp))).trans hrw, (mp_up_n (mp_ne hpp hsz (by simp))).trans hpp, (mp_up_n (mp_ne hpk hsz (by simp))).trans hpk, (mp_up_n (mp_ne hwd hsz (by simp))).trans hwd, (mp_up_n (mp_ne hlo hsz (by simp))).trans hlo, (mp_up_n (mp_ne hkp hsz (by simp))).trans hkp, (mp_up_n (mp_ne hks hsz (by simp))).trans hks, n_bg_sz, n_bg_kn, n_sz_kn, n_pp_pk, n_pp_wd, n_pk_wd, n_pp_lo, n_pk_lo, n_wd_lo⟩
theorem MdX.set_kn {k : Nat → ClassId} {M : mp_M} {mo el ek bg sz kn rw pp pk wd lo kp ks : Nat} {ec tc wc sc nc th : Nat} {va mk : Nat → Int64} {kd wt tk tf tz sk sf sw ml nn : Nat → Nat} (f2 : Nat → Nat) (h : MdX k M mo el ek bg sz kn rw pp pk wd lo kp ks ec tc wc sc nc th va mk kd wt tk tf tz sk sf sw ml nn) : MdX k (mp_up M kn (.inl (k 0, 300, .inl (fun i => nI (f2 i))))) mo el ek bg sz kn rw pp pk wd lo kp ks ec tc wc sc nc th va mk kd wt (f2) tf tz sk sf sw ml nn := by
  obtain ⟨h0, hel, hek, hbg, hsz, hkn, hrw, hpp, hpk, hwd, hlo, hkp, hks, n_bg_sz, n_bg_kn, n_sz_kn, n_pp_pk, n_pp_wd, n_pk_wd, n_pp_lo, n_pk_lo, n_wd_lo⟩ := h
  exact ⟨(mp_up_n (mp_ne h0 hkn (by simp))).trans h0, (mp_up_n (mp_ne hel hkn (by simp))).trans hel, (mp_up_n (mp_ne hek hkn (by simp))).trans hek, (mp_up_n n_bg_kn).trans hbg, (mp_up_n n_sz_kn).trans hsz, mp_up_s _ _ _, (mp_up_n (mp_ne hrw hkn (by simp))).trans hrw, (mp_up_n (mp_ne hpp hkn (by simp))).trans hpp, (mp_up_n (mp_ne hpk hkn (by simp))).trans hpk, (mp_up_n (mp_ne hwd hkn (by simp))).trans hwd, (mp_up_n (mp_ne hlo hkn (by simp))).trans hlo, (mp_up_n (mp_ne hkp hkn (by simp))).trans hkp, (mp_up_n (mp_ne hks hkn (by simp))).trans hks, n_bg_sz, n_bg_kn, n_sz_kn, n_pp_pk, n_pp_wd, n_pk_wd, n_pp_lo, n_pk_lo, n_wd_lo⟩
theorem MdX.set_rw {k : Nat → ClassId} {M : mp_M} {mo el ek bg sz kn rw pp pk wd lo kp ks : Nat} {ec tc wc sc nc th : Nat} {va mk : Nat → Int64} {kd wt tk tf tz sk sf sw ml nn : Nat → Nat} (f2 : Nat → Nat) (h : MdX k M mo el ek bg sz kn rw pp pk wd lo kp ks ec tc wc sc nc th va mk kd wt tk tf tz sk sf sw ml nn) : MdX k (mp_up M rw (.inl (k 0, 12, .inl (fun i => nI (f2 i))))) mo el ek bg sz kn rw pp pk wd lo kp ks ec tc wc sc nc th va mk kd (f2) tk tf tz sk sf sw ml nn := by
  obtain ⟨h0, hel, hek, hbg, hsz, hkn, hrw, hpp, hpk, hwd, hlo, hkp, hks, n_bg_sz, n_bg_kn, n_sz_kn, n_pp_pk, n_pp_wd, n_pk_wd, n_pp_lo, n_pk_lo, n_wd_lo⟩ := h
  exact ⟨(mp_up_n (mp_ne h0 hrw (by simp))).trans h0, (mp_up_n (mp_ne hel hrw (by simp))).trans hel, (mp_up_n (mp_ne hek hrw (by simp))).trans hek, (mp_up_n (mp_ne hbg hrw (by simp))).trans hbg, (mp_up_n (mp_ne hsz hrw (by simp))).trans hsz, (mp_up_n (mp_ne hkn hrw (by simp))).trans hkn, mp_up_s _ _ _, (mp_up_n (mp_ne hpp hrw (by simp))).trans hpp, (mp_up_n (mp_ne hpk hrw (by simp))).trans hpk, (mp_up_n (mp_ne hwd hrw (by simp))).trans hwd, (mp_up_n (mp_ne hlo hrw (by simp))).trans hlo, (mp_up_n (mp_ne hkp hrw (by simp))).trans hkp, (mp_up_n (mp_ne hks hrw (by simp))).trans hks, n_bg_sz, n_bg_kn, n_sz_kn, n_pp_pk, n_pp_wd, n_pk_wd, n_pp_lo, n_pk_lo, n_wd_lo⟩
theorem MdX.set_pp {k : Nat → ClassId} {M : mp_M} {mo el ek bg sz kn rw pp pk wd lo kp ks : Nat} {ec tc wc sc nc th : Nat} {va mk : Nat → Int64} {kd wt tk tf tz sk sf sw ml nn : Nat → Nat} (f2 : Nat → Nat) (h : MdX k M mo el ek bg sz kn rw pp pk wd lo kp ks ec tc wc sc nc th va mk kd wt tk tf tz sk sf sw ml nn) : MdX k (mp_up M pp (.inl (k 0, 100, .inl (fun i => nI (f2 i))))) mo el ek bg sz kn rw pp pk wd lo kp ks ec tc wc sc nc th va mk kd wt tk tf tz sk (f2) sw ml nn := by
  obtain ⟨h0, hel, hek, hbg, hsz, hkn, hrw, hpp, hpk, hwd, hlo, hkp, hks, n_bg_sz, n_bg_kn, n_sz_kn, n_pp_pk, n_pp_wd, n_pk_wd, n_pp_lo, n_pk_lo, n_wd_lo⟩ := h
  exact ⟨(mp_up_n (mp_ne h0 hpp (by simp))).trans h0, (mp_up_n (mp_ne hel hpp (by simp))).trans hel, (mp_up_n (mp_ne hek hpp (by simp))).trans hek, (mp_up_n (mp_ne hbg hpp (by simp))).trans hbg, (mp_up_n (mp_ne hsz hpp (by simp))).trans hsz, (mp_up_n (mp_ne hkn hpp (by simp))).trans hkn, (mp_up_n (mp_ne hrw hpp (by simp))).trans hrw, mp_up_s _ _ _, (mp_up_n (Ne.symm n_pp_pk)).trans hpk, (mp_up_n (Ne.symm n_pp_wd)).trans hwd, (mp_up_n (Ne.symm n_pp_lo)).trans hlo, (mp_up_n (mp_ne hkp hpp (by simp))).trans hkp, (mp_up_n (mp_ne hks hpp (by simp))).trans hks, n_bg_sz, n_bg_kn, n_sz_kn, n_pp_pk, n_pp_wd, n_pk_wd, n_pp_lo, n_pk_lo, n_wd_lo⟩
theorem MdX.set_pk {k : Nat → ClassId} {M : mp_M} {mo el ek bg sz kn rw pp pk wd lo kp ks : Nat} {ec tc wc sc nc th : Nat} {va mk : Nat → Int64} {kd wt tk tf tz sk sf sw ml nn : Nat → Nat} (f2 : Nat → Nat) (h : MdX k M mo el ek bg sz kn rw pp pk wd lo kp ks ec tc wc sc nc th va mk kd wt tk tf tz sk sf sw ml nn) : MdX k (mp_up M pk (.inl (k 0, 100, .inl (fun i => nI (f2 i))))) mo el ek bg sz kn rw pp pk wd lo kp ks ec tc wc sc nc th va mk kd wt tk tf tz (f2) sf sw ml nn := by
  obtain ⟨h0, hel, hek, hbg, hsz, hkn, hrw, hpp, hpk, hwd, hlo, hkp, hks, n_bg_sz, n_bg_kn, n_sz_kn, n_pp_pk, n_pp_wd, n_pk_wd, n_pp_lo, n_pk_lo, n_wd_lo⟩ := h
  exact ⟨(mp_up_n (mp_ne h0 hpk (by simp))).trans h0, (mp_up_n (mp_ne hel hpk (by simp))).trans hel, (mp_up_n (mp_ne hek hpk (by simp))).trans hek, (mp_up_n (mp_ne hbg hpk (by simp))).trans hbg, (mp_up_n (mp_ne hsz hpk (by simp))).trans hsz, (mp_up_n (mp_ne hkn hpk (by simp))).trans hkn, (mp_up_n (mp_ne hrw hpk (by simp))).trans hrw, (mp_up_n n_pp_pk).trans hpp, mp_up_s _ _ _, (mp_up_n (Ne.symm n_pk_wd)).trans hwd, (mp_up_n (Ne.symm n_pk_lo)).trans hlo, (mp_up_n (mp_ne hkp hpk (by simp))).trans hkp, (mp_up_n (mp_ne hks hpk (by simp))).trans hks, n_bg_sz, n_bg_kn, n_sz_kn, n_pp_pk, n_pp_wd, n_pk_wd, n_pp_lo, n_pk_lo, n_wd_lo⟩
theorem MdX.set_wd {k : Nat → ClassId} {M : mp_M} {mo el ek bg sz kn rw pp pk wd lo kp ks : Nat} {ec tc wc sc nc th : Nat} {va mk : Nat → Int64} {kd wt tk tf tz sk sf sw ml nn : Nat → Nat} (f2 : Nat → Nat) (h : MdX k M mo el ek bg sz kn rw pp pk wd lo kp ks ec tc wc sc nc th va mk kd wt tk tf tz sk sf sw ml nn) : MdX k (mp_up M wd (.inl (k 0, 100, .inl (fun i => nI (f2 i))))) mo el ek bg sz kn rw pp pk wd lo kp ks ec tc wc sc nc th va mk kd wt tk tf tz sk sf (f2) ml nn := by
  obtain ⟨h0, hel, hek, hbg, hsz, hkn, hrw, hpp, hpk, hwd, hlo, hkp, hks, n_bg_sz, n_bg_kn, n_sz_kn, n_pp_pk, n_pp_wd, n_pk_wd, n_pp_lo, n_pk_lo, n_wd_lo⟩ := h
  exact ⟨(mp_up_n (mp_ne h0 hwd (by simp))).trans h0, (mp_up_n (mp_ne hel hwd (by simp))).trans hel, (mp_up_n (mp_ne hek hwd (by simp))).trans hek, (mp_up_n (mp_ne hbg hwd (by simp))).trans hbg, (mp_up_n (mp_ne hsz hwd (by simp))).trans hsz, (mp_up_n (mp_ne hkn hwd (by simp))).trans hkn, (mp_up_n (mp_ne hrw hwd (by simp))).trans hrw, (mp_up_n n_pp_wd).trans hpp, (mp_up_n n_pk_wd).trans hpk, mp_up_s _ _ _, (mp_up_n (Ne.symm n_wd_lo)).trans hlo, (mp_up_n (mp_ne hkp hwd (by simp))).trans hkp, (mp_up_n (mp_ne hks hwd (by simp))).trans hks, n_bg_sz, n_bg_kn, n_sz_kn, n_pp_pk, n_pp_wd, n_pk_wd, n_pp_lo, n_pk_lo, n_wd_lo⟩
theorem MdX.set_lo {k : Nat → ClassId} {M : mp_M} {mo el ek bg sz kn rw pp pk wd lo kp ks : Nat} {ec tc wc sc nc th : Nat} {va mk : Nat → Int64} {kd wt tk tf tz sk sf sw ml nn : Nat → Nat} (f2 : Nat → Nat) (h : MdX k M mo el ek bg sz kn rw pp pk wd lo kp ks ec tc wc sc nc th va mk kd wt tk tf tz sk sf sw ml nn) : MdX k (mp_up M lo (.inl (k 5, 100, .inl (fun i => nI (f2 i))))) mo el ek bg sz kn rw pp pk wd lo kp ks ec tc wc sc nc th va mk kd wt tk tf tz sk sf sw (f2) nn := by
  obtain ⟨h0, hel, hek, hbg, hsz, hkn, hrw, hpp, hpk, hwd, hlo, hkp, hks, n_bg_sz, n_bg_kn, n_sz_kn, n_pp_pk, n_pp_wd, n_pk_wd, n_pp_lo, n_pk_lo, n_wd_lo⟩ := h
  exact ⟨(mp_up_n (mp_ne h0 hlo (by simp))).trans h0, (mp_up_n (mp_ne hel hlo (by simp))).trans hel, (mp_up_n (mp_ne hek hlo (by simp))).trans hek, (mp_up_n (mp_ne hbg hlo (by simp))).trans hbg, (mp_up_n (mp_ne hsz hlo (by simp))).trans hsz, (mp_up_n (mp_ne hkn hlo (by simp))).trans hkn, (mp_up_n (mp_ne hrw hlo (by simp))).trans hrw, (mp_up_n n_pp_lo).trans hpp, (mp_up_n n_pk_lo).trans hpk, (mp_up_n n_wd_lo).trans hwd, mp_up_s _ _ _, (mp_up_n (mp_ne hkp hlo (by simp))).trans hkp, (mp_up_n (mp_ne hks hlo (by simp))).trans hks, n_bg_sz, n_bg_kn, n_sz_kn, n_pp_pk, n_pp_wd, n_pk_wd, n_pp_lo, n_pk_lo, n_wd_lo⟩
theorem MdX.set_kp {k : Nat → ClassId} {M : mp_M} {mo el ek bg sz kn rw pp pk wd lo kp ks : Nat} {ec tc wc sc nc th : Nat} {va mk : Nat → Int64} {kd wt tk tf tz sk sf sw ml nn : Nat → Nat} (f2 : Nat → Int64) (h : MdX k M mo el ek bg sz kn rw pp pk wd lo kp ks ec tc wc sc nc th va mk kd wt tk tf tz sk sf sw ml nn) : MdX k (mp_up M kp (.inl (k 1, 80000, .inr (.inl f2)))) mo el ek bg sz kn rw pp pk wd lo kp ks ec tc wc sc nc th va (f2) kd wt tk tf tz sk sf sw ml nn := by
  obtain ⟨h0, hel, hek, hbg, hsz, hkn, hrw, hpp, hpk, hwd, hlo, hkp, hks, n_bg_sz, n_bg_kn, n_sz_kn, n_pp_pk, n_pp_wd, n_pk_wd, n_pp_lo, n_pk_lo, n_wd_lo⟩ := h
  exact ⟨(mp_up_n (mp_ne h0 hkp (by simp))).trans h0, (mp_up_n (mp_ne hel hkp (by simp))).trans hel, (mp_up_n (mp_ne hek hkp (by simp))).trans hek, (mp_up_n (mp_ne hbg hkp (by simp))).trans hbg, (mp_up_n (mp_ne hsz hkp (by simp))).trans hsz, (mp_up_n (mp_ne hkn hkp (by simp))).trans hkn, (mp_up_n (mp_ne hrw hkp (by simp))).trans hrw, (mp_up_n (mp_ne hpp hkp (by simp))).trans hpp, (mp_up_n (mp_ne hpk hkp (by simp))).trans hpk, (mp_up_n (mp_ne hwd hkp (by simp))).trans hwd, (mp_up_n (mp_ne hlo hkp (by simp))).trans hlo, mp_up_s _ _ _, (mp_up_n (mp_ne hks hkp (by simp))).trans hks, n_bg_sz, n_bg_kn, n_sz_kn, n_pp_pk, n_pp_wd, n_pk_wd, n_pp_lo, n_pk_lo, n_wd_lo⟩
theorem MdX.set_ks {k : Nat → ClassId} {M : mp_M} {mo el ek bg sz kn rw pp pk wd lo kp ks : Nat} {ec tc wc sc nc th : Nat} {va mk : Nat → Int64} {kd wt tk tf tz sk sf sw ml nn : Nat → Nat} (f2 : Nat → Nat) (h : MdX k M mo el ek bg sz kn rw pp pk wd lo kp ks ec tc wc sc nc th va mk kd wt tk tf tz sk sf sw ml nn) : MdX k (mp_up M ks (.inl (k 0, 20, .inl (fun i => nI (f2 i))))) mo el ek bg sz kn rw pp pk wd lo kp ks ec tc wc sc nc th va mk kd wt tk tf tz sk sf sw ml (f2) := by
  obtain ⟨h0, hel, hek, hbg, hsz, hkn, hrw, hpp, hpk, hwd, hlo, hkp, hks, n_bg_sz, n_bg_kn, n_sz_kn, n_pp_pk, n_pp_wd, n_pk_wd, n_pp_lo, n_pk_lo, n_wd_lo⟩ := h
  exact ⟨(mp_up_n (mp_ne h0 hks (by simp))).trans h0, (mp_up_n (mp_ne hel hks (by simp))).trans hel, (mp_up_n (mp_ne hek hks (by simp))).trans hek, (mp_up_n (mp_ne hbg hks (by simp))).trans hbg, (mp_up_n (mp_ne hsz hks (by simp))).trans hsz, (mp_up_n (mp_ne hkn hks (by simp))).trans hkn, (mp_up_n (mp_ne hrw hks (by simp))).trans hrw, (mp_up_n (mp_ne hpp hks (by simp))).trans hpp, (mp_up_n (mp_ne hpk hks (by simp))).trans hpk, (mp_up_n (mp_ne hwd hks (by simp))).trans hwd, (mp_up_n (mp_ne hlo hks (by simp))).trans hlo, (mp_up_n (mp_ne hkp hks (by simp))).trans hkp, mp_up_s _ _ _, n_bg_sz, n_bg_kn, n_sz_kn, n_pp_pk, n_pp_wd, n_pk_wd, n_pp_lo, n_pk_lo, n_wd_lo⟩
theorem MdX.cnt {k : Nat → ClassId} {M : mp_M} {mo el ek bg sz kn rw pp pk wd lo kp ks : Nat} {ec tc wc sc nc th : Nat} {va mk : Nat → Int64} {kd wt tk tf tz sk sf sw ml nn : Nat → Nat} (ec2 tc2 wc2 sc2 nc2 th2 : Nat) (h : MdX k M mo el ek bg sz kn rw pp pk wd lo kp ks ec tc wc sc nc th va mk kd wt tk tf tz sk sf sw ml nn) : MdX k (mp_up M mo (.inr (4, [.ref el, .ref ek, .int (nI (ec2)), .ref bg, .ref sz, .ref kn, .int (nI (tc2)), .ref rw, .int (nI (wc2)), .ref pp, .ref pk, .ref wd, .ref lo, .int (nI (sc2)), .ref kp, .ref ks, .int (nI (nc2)), .int (nI (th2))]))) mo el ek bg sz kn rw pp pk wd lo kp ks (ec2) (tc2) (wc2) (sc2) (nc2) (th2) va mk kd wt tk tf tz sk sf sw ml nn := by
  obtain ⟨h0, hel, hek, hbg, hsz, hkn, hrw, hpp, hpk, hwd, hlo, hkp, hks, n_bg_sz, n_bg_kn, n_sz_kn, n_pp_pk, n_pp_wd, n_pk_wd, n_pp_lo, n_pk_lo, n_wd_lo⟩ := h
  exact ⟨mp_up_s _ _ _, (mp_up_n (mp_ne hel h0 (by simp))).trans hel, (mp_up_n (mp_ne hek h0 (by simp))).trans hek, (mp_up_n (mp_ne hbg h0 (by simp))).trans hbg, (mp_up_n (mp_ne hsz h0 (by simp))).trans hsz, (mp_up_n (mp_ne hkn h0 (by simp))).trans hkn, (mp_up_n (mp_ne hrw h0 (by simp))).trans hrw, (mp_up_n (mp_ne hpp h0 (by simp))).trans hpp, (mp_up_n (mp_ne hpk h0 (by simp))).trans hpk, (mp_up_n (mp_ne hwd h0 (by simp))).trans hwd, (mp_up_n (mp_ne hlo h0 (by simp))).trans hlo, (mp_up_n (mp_ne hkp h0 (by simp))).trans hkp, (mp_up_n (mp_ne hks h0 (by simp))).trans hks, n_bg_sz, n_bg_kn, n_sz_kn, n_pp_pk, n_pp_wd, n_pk_wd, n_pp_lo, n_pk_lo, n_wd_lo⟩
theorem mp_up4 {M : mp_M} {a b : Nat} (h : a ≠ b) (x y x2 y2 : va_E) : mp_up (mp_up (mp_up (mp_up M a x) b y) a x2) b y2 = mp_up (mp_up M a x2) b y2 := by
  funext q
  by_cases e1 : q = b
  · rw [e1, mp_up_s, mp_up_s]
  · rw [mp_up_n e1, mp_up_n e1]
    by_cases e2 : q = a
    · rw [e2, mp_up_s, mp_up_s]
    · rw [mp_up_n e2, mp_up_n e1, mp_up_n e2, mp_up_n e2]
section ZM
variable {p : Program} {l : Launch} {e : Env} {R : Room} {s : State} {m : MethodId} {args : Array Value} {below : List Frame} {meth : Method} {c : Code} {H : Heap} {locs : List Loc} {cells slots : Nat} {Q : State → Prop}
variable {cc : ByteArray} {pc : Nat} {ls : Array Slot} {rest : List Value}
theorem zz_imul (hexec : p.tables.exec = Jvm.exec) (hb : c.code = cc) {a b : Nat} (hdg : decode cc pc = .ok (.imul, 1)) (k : W p l e R s m args below meth c H locs cells slots Q (F0 m (pc + 1) ls (.int (nI (a * b)) :: rest))) : W p l e R s m args below meth c H locs cells slots Q (F0 m pc ls (.int (nI b) :: .int (nI a) :: rest)) :=
  lv_imul hexec hb hdg (by rw [pk_mul]; exact k)
end ZM
end
section
abbrev rm_M_thrown : Room := { frames := 0, cells := 0, slots := 0, locals := 0 }
set_option maxHeartbeats 4000000 in
set_option maxRecDepth 100000 in
theorem kM_thrown (l : Launch) (D : va_G) (k : Nat → ClassId) (M : mp_M) {mo el ek bg sz kn rw pp pk wd lo kp ks : Nat} {ec tc wc sc nc th : Nat} {va mk : Nat → Int64} {kd wt tk tf tz sk sf sw ml nn : Nat → Nat} (hE : MdX k M mo el ek bg sz kn rw pp pk wd lo kp ks ec tc wc sc nc th va mk kd wt tk tf tz sk sf sw ml nn) (hO : OkB ec tc wc sc nc tk tf tz sk sf sw ml nn) : mp_Met l yM_thrown (Cond.code yM_thrown cM_thrown 1 (some .int) :: bw) rm_M_thrown D cls5 (tys6 k) [.ref mo] M (va_Qi (fun r M1 => M1 = M ∧ r = nI th)) 0 0 := by
  refine mp_Met.of (by decide) (Nat.le_of_ble_eq_true rfl) ?_
  intro p e s m below meth c hx hb hr hml hown hts hlocks hin ls hl I
  have hl : lv_has ls 1 [(0, .ref mo)] := hl
  obtain ⟨h0, hel, hek, hbg, hsz, hkn, hrw, hpp, hpk, hwd, hlo, hkp, hks, n_bg_sz, n_bg_kn, n_sz_kn, n_pp_pk, n_pp_wd, n_pk_wd, n_pp_lo, n_pk_lo, n_wd_lo⟩ := id hE
  obtain ⟨b1, b2, b3, b4, b5, bT, bS, bN⟩ := id hO
  refine lv_aload_n hx hb dM_thrown_0 rfl (lv_at hl 0 rfl) ?_
  refine mp_get (v := .int (nI th)) hx hb hts inM hown I h0 rfl 17 (by decide) (hts _ bw_348) (fun _ h9 => h9) rfl dM_thrown_1 ?_
  exact mp_iret hx hb hr hlocks I (Nat.le_of_ble_eq_true rfl) (Nat.le_of_ble_eq_true rfl) dM_thrown_4 ⟨rfl, rfl⟩
abbrev rm_M_isObject : Room := { frames := 0, cells := 0, slots := 0, locals := 0 }
set_option maxHeartbeats 4000000 in
set_option maxRecDepth 100000 in
theorem kM_isObject (l : Launch) (D : va_G) (k : Nat → ClassId) (M : mp_M) {mo el ek bg sz kn rw pp pk wd lo kp ks : Nat} {ec tc wc sc nc th : Nat} {va mk : Nat → Int64} {kd wt tk tf tz sk sf sw ml nn : Nat → Nat} (hE : MdX k M mo el ek bg sz kn rw pp pk wd lo kp ks ec tc wc sc nc th va mk kd wt tk tf tz sk sf sw ml nn) (hO : OkB ec tc wc sc nc tk tf tz sk sf sw ml nn) (x : Int32) : mp_Met l yM_isObject (Cond.code yM_isObject cM_isObject 2 (some .boolean) :: bw) rm_M_isObject D cls5 (tys6 k) [.ref mo, .int x] M (va_Qi (fun r M1 => M1 = M ∧ (((0 ≤ x.toInt ∧ x.toInt < (tc : Int)) ∧ r = nI 1) ∨ (¬ (0 ≤ x.toInt ∧ x.toInt < (tc : Int)) ∧ r = nI 0)))) 0 0 := by
  refine mp_Met.of (by decide) (Nat.le_of_ble_eq_true rfl) ?_
  intro p e s m below meth c hx hb hr hml hown hts hlocks hin ls hl I
  have hl : lv_has ls 2 [(0, .ref mo), (1, .int x)] := hl
  obtain ⟨h0, hel, hek, hbg, hsz, hkn, hrw, hpp, hpk, hwd, hlo, hkp, hks, n_bg_sz, n_bg_kn, n_sz_kn, n_pp_pk, n_pp_wd, n_pk_wd, n_pp_lo, n_pk_lo, n_wd_lo⟩ := id hE
  obtain ⟨b1, b2, b3, b4, b5, bT, bS, bN⟩ := id hO
  refine lv_iload_n hx hb dM_isObject_0 rfl (lv_at hl 1 rfl) ?_
  refine zz_if_lt (tgt := 16) hx hb rfl dM_isObject_1 (by decide) (fun c_1 => ?_) (fun c_1 => ?_)
  · refine lv_iconst (v := nI 0) hx hb dM_isObject_16 (by decide) ?_
    exact mp_zret hx hb hr hlocks I rfl (Nat.le_of_ble_eq_true rfl) (Nat.le_of_ble_eq_true rfl) dM_isObject_17 ⟨rfl, Or.inr ⟨by omega, rfl⟩⟩
  · refine lv_iload_n hx hb dM_isObject_4 rfl (lv_at hl 1 rfl) ?_
    refine lv_aload_n hx hb dM_isObject_5 rfl (lv_at hl 0 rfl) ?_
    refine mp_get (v := .int (nI tc)) hx hb hts inM hown I h0 rfl 6 (by decide) (hts _ bw_337) (fun _ h9 => h9) rfl dM_isObject_6 ?_
    refine zz_icmp_ge (tgt := 16) hx hb rfl (nI_toInt (by first | assumption | omega)) dM_isObject_9 (by decide) (fun c_2 => ?_) (fun c_2 => ?_)
    · refine lv_iconst (v := nI 0) hx hb dM_isObject_16 (by decide) ?_
      exact mp_zret hx hb hr hlocks I rfl (Nat.le_of_ble_eq_true rfl) (Nat.le_of_ble_eq_true rfl) dM_isObject_17 ⟨rfl, Or.inr ⟨by omega, rfl⟩⟩
    · refine lv_iconst (v := nI 1) hx hb dM_isObject_12 (by decide) ?_
      refine lv_goto (tgt := 17) hx hb dM_isObject_13 (by decide) ?_
      exact mp_zret hx hb hr hlocks I rfl (Nat.le_of_ble_eq_true rfl) (Nat.le_of_ble_eq_true rfl) dM_isObject_17 ⟨rfl, Or.inl ⟨by omega, rfl⟩⟩
abbrev rm_M_isPlace : Room := { frames := 0, cells := 0, slots := 0, locals := 0 }
set_option maxHeartbeats 4000000 in
set_option maxRecDepth 100000 in
theorem kM_isPlace (l : Launch) (D : va_G) (k : Nat → ClassId) (M : mp_M) {mo el ek bg sz kn rw pp pk wd lo kp ks : Nat} {ec tc wc sc nc th : Nat} {va mk : Nat → Int64} {kd wt tk tf tz sk sf sw ml nn : Nat → Nat} (hE : MdX k M mo el ek bg sz kn rw pp pk wd lo kp ks ec tc wc sc nc th va mk kd wt tk tf tz sk sf sw ml nn) (hO : OkB ec tc wc sc nc tk tf tz sk sf sw ml nn) (x : Int32) : mp_Met l yM_isPlace (Cond.code yM_isPlace cM_isPlace 2 (some .boolean) :: bw) rm_M_isPlace D cls5 (tys6 k) [.ref mo, .int x] M (va_Qi (fun r M1 => M1 = M ∧ (((0 ≤ x.toInt ∧ x.toInt < (sc : Int)) ∧ r = nI 1) ∨ (¬ (0 ≤ x.toInt ∧ x.toInt < (sc : Int)) ∧ r = nI 0)))) 0 0 := by
  refine mp_Met.of (by decide) (Nat.le_of_ble_eq_true rfl) ?_
  intro p e s m below meth c hx hb hr hml hown hts hlocks hin ls hl I
  have hl : lv_has ls 2 [(0, .ref mo), (1, .int x)] := hl
  obtain ⟨h0, hel, hek, hbg, hsz, hkn, hrw, hpp, hpk, hwd, hlo, hkp, hks, n_bg_sz, n_bg_kn, n_sz_kn, n_pp_pk, n_pp_wd, n_pk_wd, n_pp_lo, n_pk_lo, n_wd_lo⟩ := id hE
  obtain ⟨b1, b2, b3, b4, b5, bT, bS, bN⟩ := id hO
  refine lv_iload_n hx hb dM_isPlace_0 rfl (lv_at hl 1 rfl) ?_
  refine zz_if_lt (tgt := 16) hx hb rfl dM_isPlace_1 (by decide) (fun c_1 => ?_) (fun c_1 => ?_)
  · refine lv_iconst (v := nI 0) hx hb dM_isPlace_16 (by decide) ?_
    exact mp_zret hx hb hr hlocks I rfl (Nat.le_of_ble_eq_true rfl) (Nat.le_of_ble_eq_true rfl) dM_isPlace_17 ⟨rfl, Or.inr ⟨by omega, rfl⟩⟩
  · refine lv_iload_n hx hb dM_isPlace_4 rfl (lv_at hl 1 rfl) ?_
    refine lv_aload_n hx hb dM_isPlace_5 rfl (lv_at hl 0 rfl) ?_
    refine mp_get (v := .int (nI sc)) hx hb hts inM hown I h0 rfl 13 (by decide) (hts _ bw_344) (fun _ h9 => h9) rfl dM_isPlace_6 ?_
    refine zz_icmp_ge (tgt := 16) hx hb rfl (nI_toInt (by first | assumption | omega)) dM_isPlace_9 (by decide) (fun c_2 => ?_) (fun c_2 => ?_)
    · refine lv_iconst (v := nI 0) hx hb dM_isPlace_16 (by decide) ?_
      exact mp_zret hx hb hr hlocks I rfl (Nat.le_of_ble_eq_true rfl) (Nat.le_of_ble_eq_true rfl) dM_isPlace_17 ⟨rfl, Or.inr ⟨by omega, rfl⟩⟩
    · refine lv_iconst (v := nI 1) hx hb dM_isPlace_12 (by decide) ?_
      refine lv_goto (tgt := 17) hx hb dM_isPlace_13 (by decide) ?_
      exact mp_zret hx hb hr hlocks I rfl (Nat.le_of_ble_eq_true rfl) (Nat.le_of_ble_eq_true rfl) dM_isPlace_17 ⟨rfl, Or.inl ⟨by omega, rfl⟩⟩
abbrev rm_M_put : Room := { frames := 1, cells := 0, slots := 0, locals := 22 }
set_option maxHeartbeats 4000000 in
set_option maxRecDepth 100000 in
theorem kM_put (l : Launch) (D : va_G) (k : Nat → ClassId) (M : mp_M) {mo el ek bg sz kn rw pp pk wd lo kp ks : Nat} {ec tc wc sc nc th : Nat} {va mk : Nat → Int64} {kd wt tk tf tz sk sf sw ml nn : Nat → Nat} (hE : MdX k M mo el ek bg sz kn rw pp pk wd lo kp ks ec tc wc sc nc th va mk kd wt tk tf tz sk sf sw ml nn) (hO : OkB ec tc wc sc nc tk tf tz sk sf sw ml nn) (x : Int32) : mp_Met l yM_put (Cond.code yM_put cM_put 2 (some .boolean) :: bw) rm_M_put D cls5 (tys6 k) [.ref mo, .int x] M (va_Qi (fun r M1 => (wc < 12 ∧ (1 ≤ x.toInt ∧ x.toInt ≤ 7) ∧ r = nI 1 ∧ ∃ xn : Nat, x.toInt = xn ∧ MdX k M1 mo el ek bg sz kn rw pp pk wd lo kp ks ec tc (wc + 1) sc nc (0) va mk kd (nu wt wc xn) tk tf tz sk sf sw ml nn) ∨ (¬ (wc < 12 ∧ (1 ≤ x.toInt ∧ x.toInt ≤ 7)) ∧ r = nI 0 ∧ MdX k M1 mo el ek bg sz kn rw pp pk wd lo kp ks ec tc wc sc nc (0) va mk kd wt tk tf tz sk sf sw ml nn))) 0 0 := by
  refine mp_Met.of (by decide) (Nat.le_of_ble_eq_true rfl) ?_
  intro p e s m below meth c hx hb hr hml hown hts hlocks hin ls hl I
  have hl : lv_has ls 2 [(0, .ref mo), (1, .int x)] := hl
  obtain ⟨h0, hel, hek, hbg, hsz, hkn, hrw, hpp, hpk, hwd, hlo, hkp, hks, n_bg_sz, n_bg_kn, n_sz_kn, n_pp_pk, n_pp_wd, n_pk_wd, n_pp_lo, n_pk_lo, n_wd_lo⟩ := id hE
  obtain ⟨b1, b2, b3, b4, b5, bT, bS, bN⟩ := id hO
  refine lv_aload_n hx hb dM_put_0 rfl (lv_at hl 0 rfl) ?_
  refine lv_iconst (v := nI 0) hx hb dM_put_1 (by decide) ?_
  refine mp_put (v := .int (nI 0)) (ty := .int) hx hb hts inM tyM okM nmM hown I h0 rfl 17 (by decide) (hts _ bw_348) (fun _ h9 => h9) rfl (by decide +kernel) rfl rfl (Nat.le_of_ble_eq_true rfl) dM_put_2 (fun H locs I => ?_)
  have I : mp_I D cls5 (tys6 k) s _ s.heap H locs (mp_up M mo (.inr (4, [.ref el, .ref ek, .int (nI ec), .ref bg, .ref sz, .ref kn, .int (nI tc), .ref rw, .int (nI wc), .ref pp, .ref pk, .ref wd, .ref lo, .int (nI sc), .ref kp, .ref ks, .int (nI nc), .int (nI 0)]))) := I
  have h0_n : mp_up M mo (.inr (4, [.ref el, .ref ek, .int (nI ec), .ref bg, .ref sz, .ref kn, .int (nI tc), .ref rw, .int (nI wc), .ref pp, .ref pk, .ref wd, .ref lo, .int (nI sc), .ref kp, .ref ks, .int (nI nc), .int (nI 0)])) mo = some (.inr (4, [.ref el, .ref ek, .int (nI ec), .ref bg, .ref sz, .ref kn, .int (nI tc), .ref rw, .int (nI wc), .ref pp, .ref pk, .ref wd, .ref lo, .int (nI sc), .ref kp, .ref ks, .int (nI nc), .int (nI 0)])) := mp_up_s _ _ _
  have hel_n : mp_up M mo (.inr (4, [.ref el, .ref ek, .int (nI ec), .ref bg, .ref sz, .ref kn, .int (nI tc), .ref rw, .int (nI wc), .ref pp, .ref pk, .ref wd, .ref lo, .int (nI sc), .ref kp, .ref ks, .int (nI nc), .int (nI 0)])) el = some (.inl (k 1, 4000, .inr (.inl va))) := (mp_up_n (mp_ne hel h0 (by simp))).trans hel
  have hek_n : mp_up M mo (.inr (4, [.ref el, .ref ek, .int (nI ec), .ref bg, .ref sz, .ref kn, .int (nI tc), .ref rw, .int (nI wc), .ref pp, .ref pk, .ref wd, .ref lo, .int (nI sc), .ref kp, .ref ks, .int (nI nc), .int (nI 0)])) ek = some (.inl (k 0, 4000, .inl (fun i_ => nI (kd i_)))) := (mp_up_n (mp_ne hek h0 (by simp))).trans hek
  have hbg_n : mp_up M mo (.inr (4, [.ref el, .ref ek, .int (nI ec), .ref bg, .ref sz, .ref kn, .int (nI tc), .ref rw, .int (nI wc), .ref pp, .ref pk, .ref wd, .ref lo, .int (nI sc), .ref kp, .ref ks, .int (nI nc), .int (nI 0)])) bg = some (.inl (k 0, 300, .inl (fun i_ => nI (tf i_)))) := (mp_up_n (mp_ne hbg h0 (by simp))).trans hbg
  have hsz_n : mp_up M mo (.inr (4, [.ref el, .ref ek, .int (nI ec), .ref bg, .ref sz, .ref kn, .int (nI tc), .ref rw, .int (nI wc), .ref pp, .ref pk, .ref wd, .ref lo, .int (nI sc), .ref kp, .ref ks, .int (nI nc), .int (nI 0)])) sz = some (.inl (k 0, 300, .inl (fun i_ => nI (tz i_)))) := (mp_up_n (mp_ne hsz h0 (by simp))).trans hsz
  have hkn_n : mp_up M mo (.inr (4, [.ref el, .ref ek, .int (nI ec), .ref bg, .ref sz, .ref kn, .int (nI tc), .ref rw, .int (nI wc), .ref pp, .ref pk, .ref wd, .ref lo, .int (nI sc), .ref kp, .ref ks, .int (nI nc), .int (nI 0)])) kn = some (.inl (k 0, 300, .inl (fun i_ => nI (tk i_)))) := (mp_up_n (mp_ne hkn h0 (by simp))).trans hkn
  have hrw_n : mp_up M mo (.inr (4, [.ref el, .ref ek, .int (nI ec), .ref bg, .ref sz, .ref kn, .int (nI tc), .ref rw, .int (nI wc), .ref pp, .ref pk, .ref wd, .ref lo, .int (nI sc), .ref kp, .ref ks, .int (nI nc), .int (nI 0)])) rw = some (.inl (k 0, 12, .inl (fun i_ => nI (wt i_)))) := (mp_up_n (mp_ne hrw h0 (by simp))).trans hrw
  have hpp_n : mp_up M mo (.inr (4, [.ref el, .ref ek, .int (nI ec), .ref bg, .ref sz, .ref kn, .int (nI tc), .ref rw, .int (nI wc), .ref pp, .ref pk, .ref wd, .ref lo, .int (nI sc), .ref kp, .ref ks, .int (nI nc), .int (nI 0)])) pp = some (.inl (k 0, 100, .inl (fun i_ => nI (sf i_)))) := (mp_up_n (mp_ne hpp h0 (by simp))).trans hpp
  have hpk_n : mp_up M mo (.inr (4, [.ref el, .ref ek, .int (nI ec), .ref bg, .ref sz, .ref kn, .int (nI tc), .ref rw, .int (nI wc), .ref pp, .ref pk, .ref wd, .ref lo, .int (nI sc), .ref kp, .ref ks, .int (nI nc), .int (nI 0)])) pk = some (.inl (k 0, 100, .inl (fun i_ => nI (sk i_)))) := (mp_up_n (mp_ne hpk h0 (by simp))).trans hpk
  have hwd_n : mp_up M mo (.inr (4, [.ref el, .ref ek, .int (nI ec), .ref bg, .ref sz, .ref kn, .int (nI tc), .ref rw, .int (nI wc), .ref pp, .ref pk, .ref wd, .ref lo, .int (nI sc), .ref kp, .ref ks, .int (nI nc), .int (nI 0)])) wd = some (.inl (k 0, 100, .inl (fun i_ => nI (sw i_)))) := (mp_up_n (mp_ne hwd h0 (by simp))).trans hwd
  have hlo_n : mp_up M mo (.inr (4, [.ref el, .ref ek, .int (nI ec), .ref bg, .ref sz, .ref kn, .int (nI tc), .ref rw, .int (nI wc), .ref pp, .ref pk, .ref wd, .ref lo, .int (nI sc), .ref kp, .ref ks, .int (nI nc), .int (nI 0)])) lo = some (.inl (k 5, 100, .inl (fun i_ => nI (ml i_)))) := (mp_up_n (mp_ne hlo h0 (by simp))).trans hlo
  have hkp_n : mp_up M mo (.inr (4, [.ref el, .ref ek, .int (nI ec), .ref bg, .ref sz, .ref kn, .int (nI tc), .ref rw, .int (nI wc), .ref pp, .ref pk, .ref wd, .ref lo, .int (nI sc), .ref kp, .ref ks, .int (nI nc), .int (nI 0)])) kp = some (.inl (k 1, 80000, .inr (.inl mk))) := (mp_up_n (mp_ne hkp h0 (by simp))).trans hkp
  have hks_n : mp_up M mo (.inr (4, [.ref el, .ref ek, .int (nI ec), .ref bg, .ref sz, .ref kn, .int (nI tc), .ref rw, .int (nI wc), .ref pp, .ref pk, .ref wd, .ref lo, .int (nI sc), .ref kp, .ref ks, .int (nI nc), .int (nI 0)])) ks = some (.inl (k 0, 20, .inl (fun i_ => nI (nn i_)))) := (mp_up_n (mp_ne hks h0 (by simp))).trans hks
  generalize eM_2 : mp_up M mo (.inr (4, [.ref el, .ref ek, .int (nI ec), .ref bg, .ref sz, .ref kn, .int (nI tc), .ref rw, .int (nI wc), .ref pp, .ref pk, .ref wd, .ref lo, .int (nI sc), .ref kp, .ref ks, .int (nI nc), .int (nI 0)])) = M_1 at I h0_n hel_n hek_n hbg_n hsz_n hkn_n hrw_n hpp_n hpk_n hwd_n hlo_n hkp_n hks_n
  have h0__M_1 := h0_n
  have hel__M_1 := hel_n
  have hek__M_1 := hek_n
  have hbg__M_1 := hbg_n
  have hsz__M_1 := hsz_n
  have hkn__M_1 := hkn_n
  have hrw__M_1 := hrw_n
  have hpp__M_1 := hpp_n
  have hpk__M_1 := hpk_n
  have hwd__M_1 := hwd_n
  have hlo__M_1 := hlo_n
  have hkp__M_1 := hkp_n
  have hks__M_1 := hks_n
  clear h0_n hel_n hek_n hbg_n hsz_n hkn_n hrw_n hpp_n hpk_n hwd_n hlo_n hkp_n hks_n
  have hE := hE.cnt ec tc wc sc nc 0
  rw [eM_2] at hE
  refine lv_aload_n hx hb dM_put_5 rfl (lv_at hl 0 rfl) ?_
  refine mp_get (v := .int (nI wc)) hx hb hts inM hown I h0__M_1 rfl 8 (by decide) (hts _ bw_339) (fun _ h9 => h9) rfl dM_put_6 ?_
  refine lv_bipush (v := nI 12) hx hb dM_put_9 (by decide) ?_
  refine zz_icmp_eq (tgt := 21) hx hb (nI_toInt (by first | assumption | omega)) (nI_toInt (by decide)) dM_put_11 (by decide) (fun c_3 => ?_) (fun c_3 => ?_)
  · refine lv_iconst (v := nI 0) hx hb dM_put_21 (by decide) ?_
    exact mp_zret hx hb hr hlocks I rfl (Nat.le_of_ble_eq_true rfl) (Nat.le_of_ble_eq_true rfl) dM_put_22 (Or.inr ⟨by omega, rfl, hE⟩)
  · refine lv_iload_n hx hb dM_put_14 rfl (lv_at hl 1 rfl) ?_
    refine mp_calli (va_runS (As := [.int x]) (rest := []) ⟨hx, hb, hml, hown, hts⟩ (kM_isKind l D k M_1 x _) (cwS 1 hts (bw_S bw_395 bw_396 bw_2 bw_397) rfl rfl rfl (by decide +kernel) ⟨Nat.le_of_ble_eq_true rfl, Nat.le_of_ble_eq_true rfl⟩) (mp_preS I _) rfl rfl hl.1 rfl (lv_room (Nat.le_of_ble_eq_true rfl)) dM_put_15 ⟨Nat.le_of_ble_eq_true rfl, Nat.le_of_ble_eq_true rfl⟩) I (fun r_4 N_5 H locs hp I => ?_)
    obtain ⟨e_6, hp⟩ := hp
    rw [e_6] at I
    rcases hp with ⟨p1, p2, rfl⟩ | ⟨p1, rfl⟩
    · refine zz_if_ne (tgt := 23) hx hb (nI_toInt (by decide)) dM_put_18 (by decide) (fun _ => ?_) (fun c_7 => absurd c_7 (by decide))
      obtain ⟨xn, hn_xn, rfl, hz_xn⟩ := i32_nat (x := x) (by omega)
      refine lv_aload_n hx hb dM_put_23 rfl (lv_at hl 0 rfl) ?_
      refine mp_get (v := .ref rw) hx hb hts inM hown I h0__M_1 rfl 7 (by decide) (hts _ bw_338) (fun _ h9 => h9) rfl dM_put_24 ?_
      refine lv_aload_n hx hb dM_put_27 rfl (lv_at hl 0 rfl) ?_
      refine mp_get (v := .int (nI wc)) hx hb hts inM hown I h0__M_1 rfl 8 (by decide) (hts _ bw_339) (fun _ h9 => h9) rfl dM_put_28 ?_
      refine lv_iload_n hx hb dM_put_31 rfl (lv_at hl 1 rfl) ?_
      refine mp_iast hx hb I 0 hrw__M_1 rfl (x := nI xn) wc rfl (by omega) (by decide) dM_put_32 (fun H locs I => ?_)
      rw [upd_nI] at I
      have I : mp_I D cls5 (tys6 k) s _ s.heap H locs (mp_up M_1 rw (.inl (k 0, 12, .inl (fun i_ => nI ((nu wt wc xn) i_))))) := I
      have hrw__M_1_n : mp_up M_1 rw (.inl (k 0, 12, .inl (fun i_ => nI ((nu wt wc xn) i_)))) rw = some (.inl (k 0, 12, .inl (fun i_ => nI ((nu wt wc xn) i_)))) := mp_up_s _ _ _
      have h0__M_1_n : mp_up M_1 rw (.inl (k 0, 12, .inl (fun i_ => nI ((nu wt wc xn) i_)))) mo = some (.inr (4, [.ref el, .ref ek, .int (nI ec), .ref bg, .ref sz, .ref kn, .int (nI tc), .ref rw, .int (nI wc), .ref pp, .ref pk, .ref wd, .ref lo, .int (nI sc), .ref kp, .ref ks, .int (nI nc), .int (nI 0)])) := (mp_up_n (mp_ne h0__M_1 hrw__M_1 (by simp))).trans h0__M_1
      have hel__M_1_n : mp_up M_1 rw (.inl (k 0, 12, .inl (fun i_ => nI ((nu wt wc xn) i_)))) el = some (.inl (k 1, 4000, .inr (.inl va))) := (mp_up_n (mp_ne hel__M_1 hrw__M_1 (by simp))).trans hel__M_1
      have hek__M_1_n : mp_up M_1 rw (.inl (k 0, 12, .inl (fun i_ => nI ((nu wt wc xn) i_)))) ek = some (.inl (k 0, 4000, .inl (fun i_ => nI (kd i_)))) := (mp_up_n (mp_ne hek__M_1 hrw__M_1 (by simp))).trans hek__M_1
      have hbg__M_1_n : mp_up M_1 rw (.inl (k 0, 12, .inl (fun i_ => nI ((nu wt wc xn) i_)))) bg = some (.inl (k 0, 300, .inl (fun i_ => nI (tf i_)))) := (mp_up_n (mp_ne hbg__M_1 hrw__M_1 (by simp))).trans hbg__M_1
      have hsz__M_1_n : mp_up M_1 rw (.inl (k 0, 12, .inl (fun i_ => nI ((nu wt wc xn) i_)))) sz = some (.inl (k 0, 300, .inl (fun i_ => nI (tz i_)))) := (mp_up_n (mp_ne hsz__M_1 hrw__M_1 (by simp))).trans hsz__M_1
      have hkn__M_1_n : mp_up M_1 rw (.inl (k 0, 12, .inl (fun i_ => nI ((nu wt wc xn) i_)))) kn = some (.inl (k 0, 300, .inl (fun i_ => nI (tk i_)))) := (mp_up_n (mp_ne hkn__M_1 hrw__M_1 (by simp))).trans hkn__M_1
      have hpp__M_1_n : mp_up M_1 rw (.inl (k 0, 12, .inl (fun i_ => nI ((nu wt wc xn) i_)))) pp = some (.inl (k 0, 100, .inl (fun i_ => nI (sf i_)))) := (mp_up_n (mp_ne hpp__M_1 hrw__M_1 (by simp))).trans hpp__M_1
      have hpk__M_1_n : mp_up M_1 rw (.inl (k 0, 12, .inl (fun i_ => nI ((nu wt wc xn) i_)))) pk = some (.inl (k 0, 100, .inl (fun i_ => nI (sk i_)))) := (mp_up_n (mp_ne hpk__M_1 hrw__M_1 (by simp))).trans hpk__M_1
      have hwd__M_1_n : mp_up M_1 rw (.inl (k 0, 12, .inl (fun i_ => nI ((nu wt wc xn) i_)))) wd = some (.inl (k 0, 100, .inl (fun i_ => nI (sw i_)))) := (mp_up_n (mp_ne hwd__M_1 hrw__M_1 (by simp))).trans hwd__M_1
      have hlo__M_1_n : mp_up M_1 rw (.inl (k 0, 12, .inl (fun i_ => nI ((nu wt wc xn) i_)))) lo = some (.inl (k 5, 100, .inl (fun i_ => nI (ml i_)))) := (mp_up_n (mp_ne hlo__M_1 hrw__M_1 (by simp))).trans hlo__M_1
      have hkp__M_1_n : mp_up M_1 rw (.inl (k 0, 12, .inl (fun i_ => nI ((nu wt wc xn) i_)))) kp = some (.inl (k 1, 80000, .inr (.inl mk))) := (mp_up_n (mp_ne hkp__M_1 hrw__M_1 (by simp))).trans hkp__M_1
      have hks__M_1_n : mp_up M_1 rw (.inl (k 0, 12, .inl (fun i_ => nI ((nu wt wc xn) i_)))) ks = some (.inl (k 0, 20, .inl (fun i_ => nI (nn i_)))) := (mp_up_n (mp_ne hks__M_1 hrw__M_1 (by simp))).trans hks__M_1
      generalize eM_9 : mp_up M_1 rw (.inl (k 0, 12, .inl (fun i_ => nI ((nu wt wc xn) i_)))) = M_8 at I h0__M_1_n hel__M_1_n hek__M_1_n hbg__M_1_n hsz__M_1_n hkn__M_1_n hrw__M_1_n hpp__M_1_n hpk__M_1_n hwd__M_1_n hlo__M_1_n hkp__M_1_n hks__M_1_n
      have h0__M_8 := h0__M_1_n
      have hel__M_8 := hel__M_1_n
      have hek__M_8 := hek__M_1_n
      have hbg__M_8 := hbg__M_1_n
      have hsz__M_8 := hsz__M_1_n
      have hkn__M_8 := hkn__M_1_n
      have hrw__M_8 := hrw__M_1_n
      have hpp__M_8 := hpp__M_1_n
      have hpk__M_8 := hpk__M_1_n
      have hwd__M_8 := hwd__M_1_n
      have hlo__M_8 := hlo__M_1_n
      have hkp__M_8 := hkp__M_1_n
      have hks__M_8 := hks__M_1_n
      clear h0__M_1_n hel__M_1_n hek__M_1_n hbg__M_1_n hsz__M_1_n hkn__M_1_n hrw__M_1_n hpp__M_1_n hpk__M_1_n hwd__M_1_n hlo__M_1_n hkp__M_1_n hks__M_1_n
      have hE := hE.set_rw (nu wt wc xn)
      rw [eM_9] at hE
      refine lv_aload_n hx hb dM_put_33 rfl (lv_at hl 0 rfl) ?_
      refine lv_dup hx hb dM_put_34 rfl ?_
      refine mp_get (v := .int (nI wc)) hx hb hts inM hown I h0__M_8 rfl 8 (by decide) (hts _ bw_339) (fun _ h9 => h9) rfl dM_put_35 ?_
      refine lv_iconst (v := nI 1) hx hb dM_put_38 (by decide) ?_
      refine zz_iadd hx hb dM_put_39 ?_
      refine mp_put (v := .int (nI (wc + 1))) (ty := .int) hx hb hts inM tyM okM nmM hown I h0__M_8 rfl 8 (by decide) (hts _ bw_339) (fun _ h9 => h9) rfl (by decide +kernel) rfl rfl (Nat.le_of_ble_eq_true rfl) dM_put_40 (fun H locs I => ?_)
      have I : mp_I D cls5 (tys6 k) s _ s.heap H locs (mp_up M_8 mo (.inr (4, [.ref el, .ref ek, .int (nI ec), .ref bg, .ref sz, .ref kn, .int (nI tc), .ref rw, .int (nI (wc + 1)), .ref pp, .ref pk, .ref wd, .ref lo, .int (nI sc), .ref kp, .ref ks, .int (nI nc), .int (nI 0)]))) := I
      have h0__M_8_n : mp_up M_8 mo (.inr (4, [.ref el, .ref ek, .int (nI ec), .ref bg, .ref sz, .ref kn, .int (nI tc), .ref rw, .int (nI (wc + 1)), .ref pp, .ref pk, .ref wd, .ref lo, .int (nI sc), .ref kp, .ref ks, .int (nI nc), .int (nI 0)])) mo = some (.inr (4, [.ref el, .ref ek, .int (nI ec), .ref bg, .ref sz, .ref kn, .int (nI tc), .ref rw, .int (nI (wc + 1)), .ref pp, .ref pk, .ref wd, .ref lo, .int (nI sc), .ref kp, .ref ks, .int (nI nc), .int (nI 0)])) := mp_up_s _ _ _
      have hel__M_8_n : mp_up M_8 mo (.inr (4, [.ref el, .ref ek, .int (nI ec), .ref bg, .ref sz, .ref kn, .int (nI tc), .ref rw, .int (nI (wc + 1)), .ref pp, .ref pk, .ref wd, .ref lo, .int (nI sc), .ref kp, .ref ks, .int (nI nc), .int (nI 0)])) el = some (.inl (k 1, 4000, .inr (.inl va))) := (mp_up_n (mp_ne hel__M_8 h0__M_8 (by simp))).trans hel__M_8
      have hek__M_8_n : mp_up M_8 mo (.inr (4, [.ref el, .ref ek, .int (nI ec), .ref bg, .ref sz, .ref kn, .int (nI tc), .ref rw, .int (nI (wc + 1)), .ref pp, .ref pk, .ref wd, .ref lo, .int (nI sc), .ref kp, .ref ks, .int (nI nc), .int (nI 0)])) ek = some (.inl (k 0, 4000, .inl (fun i_ => nI (kd i_)))) := (mp_up_n (mp_ne hek__M_8 h0__M_8 (by simp))).trans hek__M_8
      have hbg__M_8_n : mp_up M_8 mo (.inr (4, [.ref el, .ref ek, .int (nI ec), .ref bg, .ref sz, .ref kn, .int (nI tc), .ref rw, .int (nI (wc + 1)), .ref pp, .ref pk, .ref wd, .ref lo, .int (nI sc), .ref kp, .ref ks, .int (nI nc), .int (nI 0)])) bg = some (.inl (k 0, 300, .inl (fun i_ => nI (tf i_)))) := (mp_up_n (mp_ne hbg__M_8 h0__M_8 (by simp))).trans hbg__M_8
      have hsz__M_8_n : mp_up M_8 mo (.inr (4, [.ref el, .ref ek, .int (nI ec), .ref bg, .ref sz, .ref kn, .int (nI tc), .ref rw, .int (nI (wc + 1)), .ref pp, .ref pk, .ref wd, .ref lo, .int (nI sc), .ref kp, .ref ks, .int (nI nc), .int (nI 0)])) sz = some (.inl (k 0, 300, .inl (fun i_ => nI (tz i_)))) := (mp_up_n (mp_ne hsz__M_8 h0__M_8 (by simp))).trans hsz__M_8
      have hkn__M_8_n : mp_up M_8 mo (.inr (4, [.ref el, .ref ek, .int (nI ec), .ref bg, .ref sz, .ref kn, .int (nI tc), .ref rw, .int (nI (wc + 1)), .ref pp, .ref pk, .ref wd, .ref lo, .int (nI sc), .ref kp, .ref ks, .int (nI nc), .int (nI 0)])) kn = some (.inl (k 0, 300, .inl (fun i_ => nI (tk i_)))) := (mp_up_n (mp_ne hkn__M_8 h0__M_8 (by simp))).trans hkn__M_8
      have hrw__M_8_n : mp_up M_8 mo (.inr (4, [.ref el, .ref ek, .int (nI ec), .ref bg, .ref sz, .ref kn, .int (nI tc), .ref rw, .int (nI (wc + 1)), .ref pp, .ref pk, .ref wd, .ref lo, .int (nI sc), .ref kp, .ref ks, .int (nI nc), .int (nI 0)])) rw = some (.inl (k 0, 12, .inl (fun i_ => nI ((nu wt wc xn) i_)))) := (mp_up_n (mp_ne hrw__M_8 h0__M_8 (by simp))).trans hrw__M_8
      have hpp__M_8_n : mp_up M_8 mo (.inr (4, [.ref el, .ref ek, .int (nI ec), .ref bg, .ref sz, .ref kn, .int (nI tc), .ref rw, .int (nI (wc + 1)), .ref pp, .ref pk, .ref wd, .ref lo, .int (nI sc), .ref kp, .ref ks, .int (nI nc), .int (nI 0)])) pp = some (.inl (k 0, 100, .inl (fun i_ => nI (sf i_)))) := (mp_up_n (mp_ne hpp__M_8 h0__M_8 (by simp))).trans hpp__M_8
      have hpk__M_8_n : mp_up M_8 mo (.inr (4, [.ref el, .ref ek, .int (nI ec), .ref bg, .ref sz, .ref kn, .int (nI tc), .ref rw, .int (nI (wc + 1)), .ref pp, .ref pk, .ref wd, .ref lo, .int (nI sc), .ref kp, .ref ks, .int (nI nc), .int (nI 0)])) pk = some (.inl (k 0, 100, .inl (fun i_ => nI (sk i_)))) := (mp_up_n (mp_ne hpk__M_8 h0__M_8 (by simp))).trans hpk__M_8
      have hwd__M_8_n : mp_up M_8 mo (.inr (4, [.ref el, .ref ek, .int (nI ec), .ref bg, .ref sz, .ref kn, .int (nI tc), .ref rw, .int (nI (wc + 1)), .ref pp, .ref pk, .ref wd, .ref lo, .int (nI sc), .ref kp, .ref ks, .int (nI nc), .int (nI 0)])) wd = some (.inl (k 0, 100, .inl (fun i_ => nI (sw i_)))) := (mp_up_n (mp_ne hwd__M_8 h0__M_8 (by simp))).trans hwd__M_8
      have hlo__M_8_n : mp_up M_8 mo (.inr (4, [.ref el, .ref ek, .int (nI ec), .ref bg, .ref sz, .ref kn, .int (nI tc), .ref rw, .int (nI (wc + 1)), .ref pp, .ref pk, .ref wd, .ref lo, .int (nI sc), .ref kp, .ref ks, .int (nI nc), .int (nI 0)])) lo = some (.inl (k 5, 100, .inl (fun i_ => nI (ml i_)))) := (mp_up_n (mp_ne hlo__M_8 h0__M_8 (by simp))).trans hlo__M_8
      have hkp__M_8_n : mp_up M_8 mo (.inr (4, [.ref el, .ref ek, .int (nI ec), .ref bg, .ref sz, .ref kn, .int (nI tc), .ref rw, .int (nI (wc + 1)), .ref pp, .ref pk, .ref wd, .ref lo, .int (nI sc), .ref kp, .ref ks, .int (nI nc), .int (nI 0)])) kp = some (.inl (k 1, 80000, .inr (.inl mk))) := (mp_up_n (mp_ne hkp__M_8 h0__M_8 (by simp))).trans hkp__M_8
      have hks__M_8_n : mp_up M_8 mo (.inr (4, [.ref el, .ref ek, .int (nI ec), .ref bg, .ref sz, .ref kn, .int (nI tc), .ref rw, .int (nI (wc + 1)), .ref pp, .ref pk, .ref wd, .ref lo, .int (nI sc), .ref kp, .ref ks, .int (nI nc), .int (nI 0)])) ks = some (.inl (k 0, 20, .inl (fun i_ => nI (nn i_)))) := (mp_up_n (mp_ne hks__M_8 h0__M_8 (by simp))).trans hks__M_8
      generalize eM_11 : mp_up M_8 mo (.inr (4, [.ref el, .ref ek, .int (nI ec), .ref bg, .ref sz, .ref kn, .int (nI tc), .ref rw, .int (nI (wc + 1)), .ref pp, .ref pk, .ref wd, .ref lo, .int (nI sc), .ref kp, .ref ks, .int (nI nc), .int (nI 0)])) = M_10 at I h0__M_8_n hel__M_8_n hek__M_8_n hbg__M_8_n hsz__M_8_n hkn__M_8_n hrw__M_8_n hpp__M_8_n hpk__M_8_n hwd__M_8_n hlo__M_8_n hkp__M_8_n hks__M_8_n
      have h0__M_10 := h0__M_8_n
      have hel__M_10 := hel__M_8_n
      have hek__M_10 := hek__M_8_n
      have hbg__M_10 := hbg__M_8_n
      have hsz__M_10 := hsz__M_8_n
      have hkn__M_10 := hkn__M_8_n
      have hrw__M_10 := hrw__M_8_n
      have hpp__M_10 := hpp__M_8_n
      have hpk__M_10 := hpk__M_8_n
      have hwd__M_10 := hwd__M_8_n
      have hlo__M_10 := hlo__M_8_n
      have hkp__M_10 := hkp__M_8_n
      have hks__M_10 := hks__M_8_n
      clear h0__M_8_n hel__M_8_n hek__M_8_n hbg__M_8_n hsz__M_8_n hkn__M_8_n hrw__M_8_n hpp__M_8_n hpk__M_8_n hwd__M_8_n hlo__M_8_n hkp__M_8_n hks__M_8_n
      have hE := hE.cnt ec tc (wc + 1) sc nc 0
      rw [eM_11] at hE
      refine lv_iconst (v := nI 1) hx hb dM_put_43 (by decide) ?_
      exact mp_zret hx hb hr hlocks I rfl (Nat.le_of_ble_eq_true rfl) (Nat.le_of_ble_eq_true rfl) dM_put_44 (Or.inl ⟨by omega, by omega, rfl, xn, by omega, hE⟩)
    · refine zz_if_ne (tgt := 23) hx hb (nI_toInt (by decide)) dM_put_18 (by decide) (fun c_12 => absurd c_12 (by decide)) (fun _ => ?_)
      refine lv_iconst (v := nI 0) hx hb dM_put_21 (by decide) ?_
      exact mp_zret hx hb hr hlocks I rfl (Nat.le_of_ble_eq_true rfl) (Nat.le_of_ble_eq_true rfl) dM_put_22 (Or.inr ⟨by omega, rfl, hE⟩)
abbrev rm_M_object : Room := { frames := 1, cells := 0, slots := 0, locals := 30 }
set_option maxHeartbeats 4000000 in
set_option maxRecDepth 100000 in
theorem kM_object (l : Launch) (D : va_G) (k : Nat → ClassId) (M : mp_M) {mo el ek bg sz kn rw pp pk wd lo kp ks : Nat} {ec tc wc sc nc th : Nat} {va mk : Nat → Int64} {kd wt tk tf tz sk sf sw ml nn : Nat → Nat} (hE : MdX k M mo el ek bg sz kn rw pp pk wd lo kp ks ec tc wc sc nc th va mk kd wt tk tf tz sk sf sw ml nn) (hO : OkB ec tc wc sc nc tk tf tz sk sf sw ml nn) (x y : Int32) : mp_Met l yM_object (Cond.code yM_object cM_object 3 (some .int) :: bw) rm_M_object D cls5 (tys6 k) [.ref mo, .int x, .int y] M (va_Qi (fun r M1 => r = obr tc kd tk tf tz x.toInt y.toInt ∧ MdX k M1 mo el ek bg sz kn rw pp pk wd lo kp ks ec tc wc sc nc (0) va mk kd wt tk tf tz sk sf sw ml nn)) 0 0 := by
  refine mp_Met.of (by decide) (Nat.le_of_ble_eq_true rfl) ?_
  intro p e s m below meth c hx hb hr hml hown hts hlocks hin ls hl I
  have hl : lv_has ls 3 [(0, .ref mo), (1, .int x), (2, .int y)] := hl
  obtain ⟨h0, hel, hek, hbg, hsz, hkn, hrw, hpp, hpk, hwd, hlo, hkp, hks, n_bg_sz, n_bg_kn, n_sz_kn, n_pp_pk, n_pp_wd, n_pk_wd, n_pp_lo, n_pk_lo, n_wd_lo⟩ := id hE
  obtain ⟨b1, b2, b3, b4, b5, bT, bS, bN⟩ := id hO
  refine lv_aload_n hx hb dM_object_0 rfl (lv_at hl 0 rfl) ?_
  refine lv_iconst (v := nI 0) hx hb dM_object_1 (by decide) ?_
  refine mp_put (v := .int (nI 0)) (ty := .int) hx hb hts inM tyM okM nmM hown I h0 rfl 17 (by decide) (hts _ bw_348) (fun _ h9 => h9) rfl (by decide +kernel) rfl rfl (Nat.le_of_ble_eq_true rfl) dM_object_2 (fun H locs I => ?_)
  have I : mp_I D cls5 (tys6 k) s _ s.heap H locs (mp_up M mo (.inr (4, [.ref el, .ref ek, .int (nI ec), .ref bg, .ref sz, .ref kn, .int (nI tc), .ref rw, .int (nI wc), .ref pp, .ref pk, .ref wd, .ref lo, .int (nI sc), .ref kp, .ref ks, .int (nI nc), .int (nI 0)]))) := I
  have h0_n : mp_up M mo (.inr (4, [.ref el, .ref ek, .int (nI ec), .ref bg, .ref sz, .ref kn, .int (nI tc), .ref rw, .int (nI wc), .ref pp, .ref pk, .ref wd, .ref lo, .int (nI sc), .ref kp, .ref ks, .int (nI nc), .int (nI 0)])) mo = some (.inr (4, [.ref el, .ref ek, .int (nI ec), .ref bg, .ref sz, .ref kn, .int (nI tc), .ref rw, .int (nI wc), .ref pp, .ref pk, .ref wd, .ref lo, .int (nI sc), .ref kp, .ref ks, .int (nI nc), .int (nI 0)])) := mp_up_s _ _ _
  have hel_n : mp_up M mo (.inr (4, [.ref el, .ref ek, .int (nI ec), .ref bg, .ref sz, .ref kn, .int (nI tc), .ref rw, .int (nI wc), .ref pp, .ref pk, .ref wd, .ref lo, .int (nI sc), .ref kp, .ref ks, .int (nI nc), .int (nI 0)])) el = some (.inl (k 1, 4000, .inr (.inl va))) := (mp_up_n (mp_ne hel h0 (by simp))).trans hel
  have hek_n : mp_up M mo (.inr (4, [.ref el, .ref ek, .int (nI ec), .ref bg, .ref sz, .ref kn, .int (nI tc), .ref rw, .int (nI wc), .ref pp, .ref pk, .ref wd, .ref lo, .int (nI sc), .ref kp, .ref ks, .int (nI nc), .int (nI 0)])) ek = some (.inl (k 0, 4000, .inl (fun i_ => nI (kd i_)))) := (mp_up_n (mp_ne hek h0 (by simp))).trans hek
  have hbg_n : mp_up M mo (.inr (4, [.ref el, .ref ek, .int (nI ec), .ref bg, .ref sz, .ref kn, .int (nI tc), .ref rw, .int (nI wc), .ref pp, .ref pk, .ref wd, .ref lo, .int (nI sc), .ref kp, .ref ks, .int (nI nc), .int (nI 0)])) bg = some (.inl (k 0, 300, .inl (fun i_ => nI (tf i_)))) := (mp_up_n (mp_ne hbg h0 (by simp))).trans hbg
  have hsz_n : mp_up M mo (.inr (4, [.ref el, .ref ek, .int (nI ec), .ref bg, .ref sz, .ref kn, .int (nI tc), .ref rw, .int (nI wc), .ref pp, .ref pk, .ref wd, .ref lo, .int (nI sc), .ref kp, .ref ks, .int (nI nc), .int (nI 0)])) sz = some (.inl (k 0, 300, .inl (fun i_ => nI (tz i_)))) := (mp_up_n (mp_ne hsz h0 (by simp))).trans hsz
  have hkn_n : mp_up M mo (.inr (4, [.ref el, .ref ek, .int (nI ec), .ref bg, .ref sz, .ref kn, .int (nI tc), .ref rw, .int (nI wc), .ref pp, .ref pk, .ref wd, .ref lo, .int (nI sc), .ref kp, .ref ks, .int (nI nc), .int (nI 0)])) kn = some (.inl (k 0, 300, .inl (fun i_ => nI (tk i_)))) := (mp_up_n (mp_ne hkn h0 (by simp))).trans hkn
  have hrw_n : mp_up M mo (.inr (4, [.ref el, .ref ek, .int (nI ec), .ref bg, .ref sz, .ref kn, .int (nI tc), .ref rw, .int (nI wc), .ref pp, .ref pk, .ref wd, .ref lo, .int (nI sc), .ref kp, .ref ks, .int (nI nc), .int (nI 0)])) rw = some (.inl (k 0, 12, .inl (fun i_ => nI (wt i_)))) := (mp_up_n (mp_ne hrw h0 (by simp))).trans hrw
  have hpp_n : mp_up M mo (.inr (4, [.ref el, .ref ek, .int (nI ec), .ref bg, .ref sz, .ref kn, .int (nI tc), .ref rw, .int (nI wc), .ref pp, .ref pk, .ref wd, .ref lo, .int (nI sc), .ref kp, .ref ks, .int (nI nc), .int (nI 0)])) pp = some (.inl (k 0, 100, .inl (fun i_ => nI (sf i_)))) := (mp_up_n (mp_ne hpp h0 (by simp))).trans hpp
  have hpk_n : mp_up M mo (.inr (4, [.ref el, .ref ek, .int (nI ec), .ref bg, .ref sz, .ref kn, .int (nI tc), .ref rw, .int (nI wc), .ref pp, .ref pk, .ref wd, .ref lo, .int (nI sc), .ref kp, .ref ks, .int (nI nc), .int (nI 0)])) pk = some (.inl (k 0, 100, .inl (fun i_ => nI (sk i_)))) := (mp_up_n (mp_ne hpk h0 (by simp))).trans hpk
  have hwd_n : mp_up M mo (.inr (4, [.ref el, .ref ek, .int (nI ec), .ref bg, .ref sz, .ref kn, .int (nI tc), .ref rw, .int (nI wc), .ref pp, .ref pk, .ref wd, .ref lo, .int (nI sc), .ref kp, .ref ks, .int (nI nc), .int (nI 0)])) wd = some (.inl (k 0, 100, .inl (fun i_ => nI (sw i_)))) := (mp_up_n (mp_ne hwd h0 (by simp))).trans hwd
  have hlo_n : mp_up M mo (.inr (4, [.ref el, .ref ek, .int (nI ec), .ref bg, .ref sz, .ref kn, .int (nI tc), .ref rw, .int (nI wc), .ref pp, .ref pk, .ref wd, .ref lo, .int (nI sc), .ref kp, .ref ks, .int (nI nc), .int (nI 0)])) lo = some (.inl (k 5, 100, .inl (fun i_ => nI (ml i_)))) := (mp_up_n (mp_ne hlo h0 (by simp))).trans hlo
  have hkp_n : mp_up M mo (.inr (4, [.ref el, .ref ek, .int (nI ec), .ref bg, .ref sz, .ref kn, .int (nI tc), .ref rw, .int (nI wc), .ref pp, .ref pk, .ref wd, .ref lo, .int (nI sc), .ref kp, .ref ks, .int (nI nc), .int (nI 0)])) kp = some (.inl (k 1, 80000, .inr (.inl mk))) := (mp_up_n (mp_ne hkp h0 (by simp))).trans hkp
  have hks_n : mp_up M mo (.inr (4, [.ref el, .ref ek, .int (nI ec), .ref bg, .ref sz, .ref kn, .int (nI tc), .ref rw, .int (nI wc), .ref pp, .ref pk, .ref wd, .ref lo, .int (nI sc), .ref kp, .ref ks, .int (nI nc), .int (nI 0)])) ks = some (.inl (k 0, 20, .inl (fun i_ => nI (nn i_)))) := (mp_up_n (mp_ne hks h0 (by simp))).trans hks
  generalize eM_2 : mp_up M mo (.inr (4, [.ref el, .ref ek, .int (nI ec), .ref bg, .ref sz, .ref kn, .int (nI tc), .ref rw, .int (nI wc), .ref pp, .ref pk, .ref wd, .ref lo, .int (nI sc), .ref kp, .ref ks, .int (nI nc), .int (nI 0)])) = M_1 at I h0_n hel_n hek_n hbg_n hsz_n hkn_n hrw_n hpp_n hpk_n hwd_n hlo_n hkp_n hks_n
  have h0__M_1 := h0_n
  have hel__M_1 := hel_n
  have hek__M_1 := hek_n
  have hbg__M_1 := hbg_n
  have hsz__M_1 := hsz_n
  have hkn__M_1 := hkn_n
  have hrw__M_1 := hrw_n
  have hpp__M_1 := hpp_n
  have hpk__M_1 := hpk_n
  have hwd__M_1 := hwd_n
  have hlo__M_1 := hlo_n
  have hkp__M_1 := hkp_n
  have hks__M_1 := hks_n
  clear h0_n hel_n hek_n hbg_n hsz_n hkn_n hrw_n hpp_n hpk_n hwd_n hlo_n hkp_n hks_n
  have hE := hE.cnt ec tc wc sc nc 0
  rw [eM_2] at hE
  refine lv_aload_n hx hb dM_object_5 rfl (lv_at hl 0 rfl) ?_
  refine lv_iload_n hx hb dM_object_6 rfl (lv_at hl 1 rfl) ?_
  refine mp_calli (va_runV (As := [.int x]) (rest := []) ⟨hx, hb, hml, hown, hts⟩ (kM_isObject l D k M_1 hE hO x _) (cwV 1 hts (bw_V bw_415 bw_417 bs_12 bw_2 bw_418) rfl rfl rfl (by decide +kernel) ⟨Nat.le_of_ble_eq_true rfl, Nat.le_of_ble_eq_true rfl⟩) (mp_preV I h0__M_1 rfl _) rfl rfl hl.1 rfl (lv_room (Nat.le_of_ble_eq_true rfl)) dM_object_7 ⟨Nat.le_of_ble_eq_true rfl, Nat.le_of_ble_eq_true rfl⟩) I (fun r_3 N_4 H locs hp I => ?_)
  obtain ⟨e_5, hp⟩ := hp
  rw [e_5] at I
  rcases hp with ⟨p1, rfl⟩ | ⟨p1, rfl⟩
  · refine zz_if_ne (tgt := 15) hx hb (nI_toInt (by decide)) dM_object_10 (by decide) (fun _ => ?_) (fun c_6 => absurd c_6 (by decide))
    obtain ⟨xn, hn_xn, rfl, hz_xn⟩ := i32_nat (x := x) (by omega)
    have hTx := bT xn (by omega)
    have hxi : (nI xn).toInt.toNat = xn := by omega
    refine lv_iload_n hx hb dM_object_15 rfl (lv_at hl 2 rfl) ?_
    refine lv_iconst (v := (-1)) hx hb dM_object_16 (by decide) ?_
    refine zz_icmp_ne (tgt := 27) hx hb rfl (show (-1 : Int32).toInt = -1 from rfl) dM_object_17 (by decide) (fun c_7 => ?_) (fun c_7 => ?_)
    · refine lv_iload_n hx hb dM_object_27 rfl (lv_at hl 2 rfl) ?_
      refine lv_bipush (v := (-2)) hx hb dM_object_28 (by decide) ?_
      refine zz_icmp_ne (tgt := 40) hx hb rfl (show (-2 : Int32).toInt = -2 from rfl) dM_object_30 (by decide) (fun c_8 => ?_) (fun c_8 => ?_)
      · refine lv_iload_n hx hb dM_object_40 rfl (lv_at hl 2 rfl) ?_
        refine zz_if_lt (tgt := 70) hx hb rfl dM_object_41 (by decide) (fun c_9 => ?_) (fun c_9 => ?_)
        · refine lv_iconst (v := (-1)) hx hb dM_object_70 (by decide) ?_
          exact mp_iret hx hb hr hlocks I (Nat.le_of_ble_eq_true rfl) (Nat.le_of_ble_eq_true rfl) dM_object_71 ⟨by unfold obr; rw [if_pos (show 0 ≤ (nI xn).toInt ∧ (nI xn).toInt < (tc : Int) by omega), hxi, if_neg (by omega), if_neg (by omega), if_neg (by omega)], hE⟩
        · refine lv_iload_n hx hb dM_object_44 rfl (lv_at hl 2 rfl) ?_
          refine lv_aload_n hx hb dM_object_45 rfl (lv_at hl 0 rfl) ?_
          refine mp_get (v := .ref sz) hx hb hts inM hown I h0__M_1 rfl 4 (by decide) (hts _ bw_335) (fun _ h9 => h9) rfl dM_object_46 ?_
          refine lv_iload_n hx hb dM_object_49 rfl (lv_at hl 1 rfl) ?_
          refine mp_iald hx hb I 0 hsz__M_1 rfl xn rfl (by omega) (by decide) (v := nI (tz xn)) rfl dM_object_50 ?_
          refine zz_icmp_ge (tgt := 70) hx hb rfl (nI_toInt (by first | assumption | omega)) dM_object_51 (by decide) (fun c_10 => ?_) (fun c_10 => ?_)
          · refine lv_iconst (v := (-1)) hx hb dM_object_70 (by decide) ?_
            exact mp_iret hx hb hr hlocks I (Nat.le_of_ble_eq_true rfl) (Nat.le_of_ble_eq_true rfl) dM_object_71 ⟨by unfold obr; rw [if_pos (show 0 ≤ (nI xn).toInt ∧ (nI xn).toInt < (tc : Int) by omega), hxi, if_neg (by omega), if_neg (by omega), if_neg (by omega)], hE⟩
          · obtain ⟨yn, hn_yn, rfl, hz_yn⟩ := i32_nat (x := y) (by omega)
            refine lv_aload_n hx hb dM_object_54 rfl (lv_at hl 0 rfl) ?_
            refine mp_get (v := .ref ek) hx hb hts inM hown I h0__M_1 rfl 1 (by decide) (hts _ bw_332) (fun _ h9 => h9) rfl dM_object_55 ?_
            refine lv_aload_n hx hb dM_object_58 rfl (lv_at hl 0 rfl) ?_
            refine mp_get (v := .ref bg) hx hb hts inM hown I h0__M_1 rfl 3 (by decide) (hts _ bw_334) (fun _ h9 => h9) rfl dM_object_59 ?_
            refine lv_iload_n hx hb dM_object_62 rfl (lv_at hl 1 rfl) ?_
            refine mp_iald hx hb I 0 hbg__M_1 rfl xn rfl (by omega) (by decide) (v := nI (tf xn)) rfl dM_object_63 ?_
            refine lv_iload_n hx hb dM_object_64 rfl (lv_at hl 2 rfl) ?_
            refine zz_iadd hx hb dM_object_65 ?_
            refine mp_iald hx hb I 0 hek__M_1 rfl (tf xn + yn) rfl (by omega) (by decide) (v := nI (kd (tf xn + yn))) rfl dM_object_66 ?_
            refine lv_goto (tgt := 71) hx hb dM_object_67 (by decide) ?_
            exact mp_iret hx hb hr hlocks I (Nat.le_of_ble_eq_true rfl) (Nat.le_of_ble_eq_true rfl) dM_object_71 ⟨by unfold obr; rw [if_pos (show 0 ≤ (nI xn).toInt ∧ (nI xn).toInt < (tc : Int) by omega), hxi, if_neg (by omega), if_neg (by omega), if_pos (by omega), show (nI yn).toInt.toNat = yn by omega], hE⟩
      · refine lv_aload_n hx hb dM_object_33 rfl (lv_at hl 0 rfl) ?_
        refine mp_get (v := .ref sz) hx hb hts inM hown I h0__M_1 rfl 4 (by decide) (hts _ bw_335) (fun _ h9 => h9) rfl dM_object_34 ?_
        refine lv_iload_n hx hb dM_object_37 rfl (lv_at hl 1 rfl) ?_
        refine mp_iald hx hb I 0 hsz__M_1 rfl xn rfl (by omega) (by decide) (v := nI (tz xn)) rfl dM_object_38 ?_
        exact mp_iret hx hb hr hlocks I (Nat.le_of_ble_eq_true rfl) (Nat.le_of_ble_eq_true rfl) dM_object_39 ⟨by unfold obr; rw [if_pos (show 0 ≤ (nI xn).toInt ∧ (nI xn).toInt < (tc : Int) by omega), hxi, if_neg (by omega), if_pos (by omega)], hE⟩
    · refine lv_aload_n hx hb dM_object_20 rfl (lv_at hl 0 rfl) ?_
      refine mp_get (v := .ref kn) hx hb hts inM hown I h0__M_1 rfl 5 (by decide) (hts _ bw_336) (fun _ h9 => h9) rfl dM_object_21 ?_
      refine lv_iload_n hx hb dM_object_24 rfl (lv_at hl 1 rfl) ?_
      refine mp_iald hx hb I 0 hkn__M_1 rfl xn rfl (by omega) (by decide) (v := nI (tk xn)) rfl dM_object_25 ?_
      exact mp_iret hx hb hr hlocks I (Nat.le_of_ble_eq_true rfl) (Nat.le_of_ble_eq_true rfl) dM_object_26 ⟨by unfold obr; rw [if_pos (show 0 ≤ (nI xn).toInt ∧ (nI xn).toInt < (tc : Int) by omega), hxi, if_pos (by omega)], hE⟩
  · refine zz_if_ne (tgt := 15) hx hb (nI_toInt (by decide)) dM_object_10 (by decide) (fun c_11 => absurd c_11 (by decide)) (fun _ => ?_)
    refine lv_iconst (v := (-1)) hx hb dM_object_13 (by decide) ?_
    exact mp_iret hx hb hr hlocks I (Nat.le_of_ble_eq_true rfl) (Nat.le_of_ble_eq_true rfl) dM_object_14 ⟨by unfold obr; rw [if_neg (by omega)], hE⟩
abbrev rm_M_kindOf : Room := { frames := 1, cells := 0, slots := 0, locals := 30 }
set_option maxHeartbeats 4000000 in
set_option maxRecDepth 100000 in
theorem kM_kindOf (l : Launch) (D : va_G) (k : Nat → ClassId) (M : mp_M) {mo el ek bg sz kn rw pp pk wd lo kp ks : Nat} {ec tc wc sc nc th : Nat} {va mk : Nat → Int64} {kd wt tk tf tz sk sf sw ml nn : Nat → Nat} (hE : MdX k M mo el ek bg sz kn rw pp pk wd lo kp ks ec tc wc sc nc th va mk kd wt tk tf tz sk sf sw ml nn) (hO : OkB ec tc wc sc nc tk tf tz sk sf sw ml nn) (x : Int32) : mp_Met l yM_kindOf (Cond.code yM_kindOf cM_kindOf 2 (some .int) :: bw) rm_M_kindOf D cls5 (tys6 k) [.ref mo, .int x] M (va_Qi (fun r M1 => (r = if 0 ≤ x.toInt ∧ x.toInt < (sc : Int) then nI (sk x.toInt.toNat) else -1) ∧ MdX k M1 mo el ek bg sz kn rw pp pk wd lo kp ks ec tc wc sc nc (0) va mk kd wt tk tf tz sk sf sw ml nn)) 0 0 := by
  refine mp_Met.of (by decide) (Nat.le_of_ble_eq_true rfl) ?_
  intro p e s m below meth c hx hb hr hml hown hts hlocks hin ls hl I
  have hl : lv_has ls 2 [(0, .ref mo), (1, .int x)] := hl
  obtain ⟨h0, hel, hek, hbg, hsz, hkn, hrw, hpp, hpk, hwd, hlo, hkp, hks, n_bg_sz, n_bg_kn, n_sz_kn, n_pp_pk, n_pp_wd, n_pk_wd, n_pp_lo, n_pk_lo, n_wd_lo⟩ := id hE
  obtain ⟨b1, b2, b3, b4, b5, bT, bS, bN⟩ := id hO
  refine lv_aload_n hx hb dM_kindOf_0 rfl (lv_at hl 0 rfl) ?_
  refine lv_iconst (v := nI 0) hx hb dM_kindOf_1 (by decide) ?_
  refine mp_put (v := .int (nI 0)) (ty := .int) hx hb hts inM tyM okM nmM hown I h0 rfl 17 (by decide) (hts _ bw_348) (fun _ h9 => h9) rfl (by decide +kernel) rfl rfl (Nat.le_of_ble_eq_true rfl) dM_kindOf_2 (fun H locs I => ?_)
  have I : mp_I D cls5 (tys6 k) s _ s.heap H locs (mp_up M mo (.inr (4, [.ref el, .ref ek, .int (nI ec), .ref bg, .ref sz, .ref kn, .int (nI tc), .ref rw, .int (nI wc), .ref pp, .ref pk, .ref wd, .ref lo, .int (nI sc), .ref kp, .ref ks, .int (nI nc), .int (nI 0)]))) := I
  have h0_n : mp_up M mo (.inr (4, [.ref el, .ref ek, .int (nI ec), .ref bg, .ref sz, .ref kn, .int (nI tc), .ref rw, .int (nI wc), .ref pp, .ref pk, .ref wd, .ref lo, .int (nI sc), .ref kp, .ref ks, .int (nI nc), .int (nI 0)])) mo = some (.inr (4, [.ref el, .ref ek, .int (nI ec), .ref bg, .ref sz, .ref kn, .int (nI tc), .ref rw, .int (nI wc), .ref pp, .ref pk, .ref wd, .ref lo, .int (nI sc), .ref kp, .ref ks, .int (nI nc), .int (nI 0)])) := mp_up_s _ _ _
  have hel_n : mp_up M mo (.inr (4, [.ref el, .ref ek, .int (nI ec), .ref bg, .ref sz, .ref kn, .int (nI tc), .ref rw, .int (nI wc), .ref pp, .ref pk, .ref wd, .ref lo, .int (nI sc), .ref kp, .ref ks, .int (nI nc), .int (nI 0)])) el = some (.inl (k 1, 4000, .inr (.inl va))) := (mp_up_n (mp_ne hel h0 (by simp))).trans hel
  have hek_n : mp_up M mo (.inr (4, [.ref el, .ref ek, .int (nI ec), .ref bg, .ref sz, .ref kn, .int (nI tc), .ref rw, .int (nI wc), .ref pp, .ref pk, .ref wd, .ref lo, .int (nI sc), .ref kp, .ref ks, .int (nI nc), .int (nI 0)])) ek = some (.inl (k 0, 4000, .inl (fun i_ => nI (kd i_)))) := (mp_up_n (mp_ne hek h0 (by simp))).trans hek
  have hbg_n : mp_up M mo (.inr (4, [.ref el, .ref ek, .int (nI ec), .ref bg, .ref sz, .ref kn, .int (nI tc), .ref rw, .int (nI wc), .ref pp, .ref pk, .ref wd, .ref lo, .int (nI sc), .ref kp, .ref ks, .int (nI nc), .int (nI 0)])) bg = some (.inl (k 0, 300, .inl (fun i_ => nI (tf i_)))) := (mp_up_n (mp_ne hbg h0 (by simp))).trans hbg
  have hsz_n : mp_up M mo (.inr (4, [.ref el, .ref ek, .int (nI ec), .ref bg, .ref sz, .ref kn, .int (nI tc), .ref rw, .int (nI wc), .ref pp, .ref pk, .ref wd, .ref lo, .int (nI sc), .ref kp, .ref ks, .int (nI nc), .int (nI 0)])) sz = some (.inl (k 0, 300, .inl (fun i_ => nI (tz i_)))) := (mp_up_n (mp_ne hsz h0 (by simp))).trans hsz
  have hkn_n : mp_up M mo (.inr (4, [.ref el, .ref ek, .int (nI ec), .ref bg, .ref sz, .ref kn, .int (nI tc), .ref rw, .int (nI wc), .ref pp, .ref pk, .ref wd, .ref lo, .int (nI sc), .ref kp, .ref ks, .int (nI nc), .int (nI 0)])) kn = some (.inl (k 0, 300, .inl (fun i_ => nI (tk i_)))) := (mp_up_n (mp_ne hkn h0 (by simp))).trans hkn
  have hrw_n : mp_up M mo (.inr (4, [.ref el, .ref ek, .int (nI ec), .ref bg, .ref sz, .ref kn, .int (nI tc), .ref rw, .int (nI wc), .ref pp, .ref pk, .ref wd, .ref lo, .int (nI sc), .ref kp, .ref ks, .int (nI nc), .int (nI 0)])) rw = some (.inl (k 0, 12, .inl (fun i_ => nI (wt i_)))) := (mp_up_n (mp_ne hrw h0 (by simp))).trans hrw
  have hpp_n : mp_up M mo (.inr (4, [.ref el, .ref ek, .int (nI ec), .ref bg, .ref sz, .ref kn, .int (nI tc), .ref rw, .int (nI wc), .ref pp, .ref pk, .ref wd, .ref lo, .int (nI sc), .ref kp, .ref ks, .int (nI nc), .int (nI 0)])) pp = some (.inl (k 0, 100, .inl (fun i_ => nI (sf i_)))) := (mp_up_n (mp_ne hpp h0 (by simp))).trans hpp
  have hpk_n : mp_up M mo (.inr (4, [.ref el, .ref ek, .int (nI ec), .ref bg, .ref sz, .ref kn, .int (nI tc), .ref rw, .int (nI wc), .ref pp, .ref pk, .ref wd, .ref lo, .int (nI sc), .ref kp, .ref ks, .int (nI nc), .int (nI 0)])) pk = some (.inl (k 0, 100, .inl (fun i_ => nI (sk i_)))) := (mp_up_n (mp_ne hpk h0 (by simp))).trans hpk
  have hwd_n : mp_up M mo (.inr (4, [.ref el, .ref ek, .int (nI ec), .ref bg, .ref sz, .ref kn, .int (nI tc), .ref rw, .int (nI wc), .ref pp, .ref pk, .ref wd, .ref lo, .int (nI sc), .ref kp, .ref ks, .int (nI nc), .int (nI 0)])) wd = some (.inl (k 0, 100, .inl (fun i_ => nI (sw i_)))) := (mp_up_n (mp_ne hwd h0 (by simp))).trans hwd
  have hlo_n : mp_up M mo (.inr (4, [.ref el, .ref ek, .int (nI ec), .ref bg, .ref sz, .ref kn, .int (nI tc), .ref rw, .int (nI wc), .ref pp, .ref pk, .ref wd, .ref lo, .int (nI sc), .ref kp, .ref ks, .int (nI nc), .int (nI 0)])) lo = some (.inl (k 5, 100, .inl (fun i_ => nI (ml i_)))) := (mp_up_n (mp_ne hlo h0 (by simp))).trans hlo
  have hkp_n : mp_up M mo (.inr (4, [.ref el, .ref ek, .int (nI ec), .ref bg, .ref sz, .ref kn, .int (nI tc), .ref rw, .int (nI wc), .ref pp, .ref pk, .ref wd, .ref lo, .int (nI sc), .ref kp, .ref ks, .int (nI nc), .int (nI 0)])) kp = some (.inl (k 1, 80000, .inr (.inl mk))) := (mp_up_n (mp_ne hkp h0 (by simp))).trans hkp
  have hks_n : mp_up M mo (.inr (4, [.ref el, .ref ek, .int (nI ec), .ref bg, .ref sz, .ref kn, .int (nI tc), .ref rw, .int (nI wc), .ref pp, .ref pk, .ref wd, .ref lo, .int (nI sc), .ref kp, .ref ks, .int (nI nc), .int (nI 0)])) ks = some (.inl (k 0, 20, .inl (fun i_ => nI (nn i_)))) := (mp_up_n (mp_ne hks h0 (by simp))).trans hks
  generalize eM_2 : mp_up M mo (.inr (4, [.ref el, .ref ek, .int (nI ec), .ref bg, .ref sz, .ref kn, .int (nI tc), .ref rw, .int (nI wc), .ref pp, .ref pk, .ref wd, .ref lo, .int (nI sc), .ref kp, .ref ks, .int (nI nc), .int (nI 0)])) = M_1 at I h0_n hel_n hek_n hbg_n hsz_n hkn_n hrw_n hpp_n hpk_n hwd_n hlo_n hkp_n hks_n
  have h0__M_1 := h0_n
  have hel__M_1 := hel_n
  have hek__M_1 := hek_n
  have hbg__M_1 := hbg_n
  have hsz__M_1 := hsz_n
  have hkn__M_1 := hkn_n
  have hrw__M_1 := hrw_n
  have hpp__M_1 := hpp_n
  have hpk__M_1 := hpk_n
  have hwd__M_1 := hwd_n
  have hlo__M_1 := hlo_n
  have hkp__M_1 := hkp_n
  have hks__M_1 := hks_n
  clear h0_n hel_n hek_n hbg_n hsz_n hkn_n hrw_n hpp_n hpk_n hwd_n hlo_n hkp_n hks_n
  have hE := hE.cnt ec tc wc sc nc 0
  rw [eM_2] at hE
  refine lv_aload_n hx hb dM_kindOf_5 rfl (lv_at hl 0 rfl) ?_
  refine lv_iload_n hx hb dM_kindOf_6 rfl (lv_at hl 1 rfl) ?_
  refine mp_calli (va_runV (As := [.int x]) (rest := []) ⟨hx, hb, hml, hown, hts⟩ (kM_isPlace l D k M_1 hE hO x _) (cwV 1 hts (bw_V bw_435 bw_437 bs_14 bw_2 bw_438) rfl rfl rfl (by decide +kernel) ⟨Nat.le_of_ble_eq_true rfl, Nat.le_of_ble_eq_true rfl⟩) (mp_preV I h0__M_1 rfl _) rfl rfl hl.1 rfl (lv_room (Nat.le_of_ble_eq_true rfl)) dM_kindOf_7 ⟨Nat.le_of_ble_eq_true rfl, Nat.le_of_ble_eq_true rfl⟩) I (fun r_3 N_4 H locs hp I => ?_)
  obtain ⟨e_5, hp⟩ := hp
  rw [e_5] at I
  rcases hp with ⟨p1, rfl⟩ | ⟨p1, rfl⟩
  · refine zz_if_eq (tgt := 22) hx hb (nI_toInt (by decide)) dM_kindOf_10 (by decide) (fun c_6 => absurd c_6 (by decide)) (fun _ => ?_)
    obtain ⟨xn, hn_xn, rfl, hz_xn⟩ := i32_nat (x := x) (by omega)
    have hxi : (nI xn).toInt.toNat = xn := by omega
    refine lv_aload_n hx hb dM_kindOf_13 rfl (lv_at hl 0 rfl) ?_
    refine mp_get (v := .ref pk) hx hb hts inM hown I h0__M_1 rfl 10 (by decide) (hts _ bw_341) (fun _ h9 => h9) rfl dM_kindOf_14 ?_
    refine lv_iload_n hx hb dM_kindOf_17 rfl (lv_at hl 1 rfl) ?_
    refine mp_iald hx hb I 0 hpk__M_1 rfl xn rfl (by omega) (by decide) (v := nI (sk xn)) rfl dM_kindOf_18 ?_
    refine lv_goto (tgt := 23) hx hb dM_kindOf_19 (by decide) ?_
    exact mp_iret hx hb hr hlocks I (Nat.le_of_ble_eq_true rfl) (Nat.le_of_ble_eq_true rfl) dM_kindOf_23 ⟨by rw [if_pos (show 0 ≤ (nI xn).toInt ∧ (nI xn).toInt < (sc : Int) by omega), hxi], hE⟩
  · refine zz_if_eq (tgt := 22) hx hb (nI_toInt (by decide)) dM_kindOf_10 (by decide) (fun _ => ?_) (fun c_7 => absurd c_7 (by decide))
    refine lv_iconst (v := (-1)) hx hb dM_kindOf_22 (by decide) ?_
    exact mp_iret hx hb hr hlocks I (Nat.le_of_ble_eq_true rfl) (Nat.le_of_ble_eq_true rfl) dM_kindOf_23 ⟨by rw [if_neg (by omega)], hE⟩
abbrev rm_M_meet : Room := { frames := 1, cells := 0, slots := 0, locals := 30 }
set_option maxHeartbeats 4000000 in
set_option maxRecDepth 100000 in
theorem kM_meet (l : Launch) (D : va_G) (k : Nat → ClassId) (M : mp_M) {mo el ek bg sz kn rw pp pk wd lo kp ks : Nat} {ec tc wc sc nc th : Nat} {va mk : Nat → Int64} {kd wt tk tf tz sk sf sw ml nn : Nat → Nat} (hE : MdX k M mo el ek bg sz kn rw pp pk wd lo kp ks ec tc wc sc nc th va mk kd wt tk tf tz sk sf sw ml nn) (hO : OkB ec tc wc sc nc tk tf tz sk sf sw ml nn) (x y : Int32) : mp_Met l yM_meet (Cond.code yM_meet cM_meet 3 (some .boolean) :: bw) rm_M_meet D cls5 (tys6 k) [.ref mo, .int x, .int y] M (va_Qi (fun r M1 => (((0 ≤ x.toInt ∧ x.toInt < sc ∧ 0 ≤ y.toInt ∧ y.toInt < sc ∧ sf x.toInt.toNat < sf y.toInt.toNat + sw y.toInt.toNat ∧ sf y.toInt.toNat < sf x.toInt.toNat + sw x.toInt.toNat) ∧ r = nI 1) ∨ (¬ (0 ≤ x.toInt ∧ x.toInt < sc ∧ 0 ≤ y.toInt ∧ y.toInt < sc ∧ sf x.toInt.toNat < sf y.toInt.toNat + sw y.toInt.toNat ∧ sf y.toInt.toNat < sf x.toInt.toNat + sw x.toInt.toNat) ∧ r = nI 0)) ∧ MdX k M1 mo el ek bg sz kn rw pp pk wd lo kp ks ec tc wc sc nc (0) va mk kd wt tk tf tz sk sf sw ml nn)) 0 0 := by
  refine mp_Met.of (by decide) (Nat.le_of_ble_eq_true rfl) ?_
  intro p e s m below meth c hx hb hr hml hown hts hlocks hin ls hl I
  have hl : lv_has ls 3 [(0, .ref mo), (1, .int x), (2, .int y)] := hl
  obtain ⟨h0, hel, hek, hbg, hsz, hkn, hrw, hpp, hpk, hwd, hlo, hkp, hks, n_bg_sz, n_bg_kn, n_sz_kn, n_pp_pk, n_pp_wd, n_pk_wd, n_pp_lo, n_pk_lo, n_wd_lo⟩ := id hE
  obtain ⟨b1, b2, b3, b4, b5, bT, bS, bN⟩ := id hO
  refine lv_aload_n hx hb dM_meet_0 rfl (lv_at hl 0 rfl) ?_
  refine lv_iconst (v := nI 0) hx hb dM_meet_1 (by decide) ?_
  refine mp_put (v := .int (nI 0)) (ty := .int) hx hb hts inM tyM okM nmM hown I h0 rfl 17 (by decide) (hts _ bw_348) (fun _ h9 => h9) rfl (by decide +kernel) rfl rfl (Nat.le_of_ble_eq_true rfl) dM_meet_2 (fun H locs I => ?_)
  have I : mp_I D cls5 (tys6 k) s _ s.heap H locs (mp_up M mo (.inr (4, [.ref el, .ref ek, .int (nI ec), .ref bg, .ref sz, .ref kn, .int (nI tc), .ref rw, .int (nI wc), .ref pp, .ref pk, .ref wd, .ref lo, .int (nI sc), .ref kp, .ref ks, .int (nI nc), .int (nI 0)]))) := I
  have h0_n : mp_up M mo (.inr (4, [.ref el, .ref ek, .int (nI ec), .ref bg, .ref sz, .ref kn, .int (nI tc), .ref rw, .int (nI wc), .ref pp, .ref pk, .ref wd, .ref lo, .int (nI sc), .ref kp, .ref ks, .int (nI nc), .int (nI 0)])) mo = some (.inr (4, [.ref el, .ref ek, .int (nI ec), .ref bg, .ref sz, .ref kn, .int (nI tc), .ref rw, .int (nI wc), .ref pp, .ref pk, .ref wd, .ref lo, .int (nI sc), .ref kp, .ref ks, .int (nI nc), .int (nI 0)])) := mp_up_s _ _ _
  have hel_n : mp_up M mo (.inr (4, [.ref el, .ref ek, .int (nI ec), .ref bg, .ref sz, .ref kn, .int (nI tc), .ref rw, .int (nI wc), .ref pp, .ref pk, .ref wd, .ref lo, .int (nI sc), .ref kp, .ref ks, .int (nI nc), .int (nI 0)])) el = some (.inl (k 1, 4000, .inr (.inl va))) := (mp_up_n (mp_ne hel h0 (by simp))).trans hel
  have hek_n : mp_up M mo (.inr (4, [.ref el, .ref ek, .int (nI ec), .ref bg, .ref sz, .ref kn, .int (nI tc), .ref rw, .int (nI wc), .ref pp, .ref pk, .ref wd, .ref lo, .int (nI sc), .ref kp, .ref ks, .int (nI nc), .int (nI 0)])) ek = some (.inl (k 0, 4000, .inl (fun i_ => nI (kd i_)))) := (mp_up_n (mp_ne hek h0 (by simp))).trans hek
  have hbg_n : mp_up M mo (.inr (4, [.ref el, .ref ek, .int (nI ec), .ref bg, .ref sz, .ref kn, .int (nI tc), .ref rw, .int (nI wc), .ref pp, .ref pk, .ref wd, .ref lo, .int (nI sc), .ref kp, .ref ks, .int (nI nc), .int (nI 0)])) bg = some (.inl (k 0, 300, .inl (fun i_ => nI (tf i_)))) := (mp_up_n (mp_ne hbg h0 (by simp))).trans hbg
  have hsz_n : mp_up M mo (.inr (4, [.ref el, .ref ek, .int (nI ec), .ref bg, .ref sz, .ref kn, .int (nI tc), .ref rw, .int (nI wc), .ref pp, .ref pk, .ref wd, .ref lo, .int (nI sc), .ref kp, .ref ks, .int (nI nc), .int (nI 0)])) sz = some (.inl (k 0, 300, .inl (fun i_ => nI (tz i_)))) := (mp_up_n (mp_ne hsz h0 (by simp))).trans hsz
  have hkn_n : mp_up M mo (.inr (4, [.ref el, .ref ek, .int (nI ec), .ref bg, .ref sz, .ref kn, .int (nI tc), .ref rw, .int (nI wc), .ref pp, .ref pk, .ref wd, .ref lo, .int (nI sc), .ref kp, .ref ks, .int (nI nc), .int (nI 0)])) kn = some (.inl (k 0, 300, .inl (fun i_ => nI (tk i_)))) := (mp_up_n (mp_ne hkn h0 (by simp))).trans hkn
  have hrw_n : mp_up M mo (.inr (4, [.ref el, .ref ek, .int (nI ec), .ref bg, .ref sz, .ref kn, .int (nI tc), .ref rw, .int (nI wc), .ref pp, .ref pk, .ref wd, .ref lo, .int (nI sc), .ref kp, .ref ks, .int (nI nc), .int (nI 0)])) rw = some (.inl (k 0, 12, .inl (fun i_ => nI (wt i_)))) := (mp_up_n (mp_ne hrw h0 (by simp))).trans hrw
  have hpp_n : mp_up M mo (.inr (4, [.ref el, .ref ek, .int (nI ec), .ref bg, .ref sz, .ref kn, .int (nI tc), .ref rw, .int (nI wc), .ref pp, .ref pk, .ref wd, .ref lo, .int (nI sc), .ref kp, .ref ks, .int (nI nc), .int (nI 0)])) pp = some (.inl (k 0, 100, .inl (fun i_ => nI (sf i_)))) := (mp_up_n (mp_ne hpp h0 (by simp))).trans hpp
  have hpk_n : mp_up M mo (.inr (4, [.ref el, .ref ek, .int (nI ec), .ref bg, .ref sz, .ref kn, .int (nI tc), .ref rw, .int (nI wc), .ref pp, .ref pk, .ref wd, .ref lo, .int (nI sc), .ref kp, .ref ks, .int (nI nc), .int (nI 0)])) pk = some (.inl (k 0, 100, .inl (fun i_ => nI (sk i_)))) := (mp_up_n (mp_ne hpk h0 (by simp))).trans hpk
  have hwd_n : mp_up M mo (.inr (4, [.ref el, .ref ek, .int (nI ec), .ref bg, .ref sz, .ref kn, .int (nI tc), .ref rw, .int (nI wc), .ref pp, .ref pk, .ref wd, .ref lo, .int (nI sc), .ref kp, .ref ks, .int (nI nc), .int (nI 0)])) wd = some (.inl (k 0, 100, .inl (fun i_ => nI (sw i_)))) := (mp_up_n (mp_ne hwd h0 (by simp))).trans hwd
  have hlo_n : mp_up M mo (.inr (4, [.ref el, .ref ek, .int (nI ec), .ref bg, .ref sz, .ref kn, .int (nI tc), .ref rw, .int (nI wc), .ref pp, .ref pk, .ref wd, .ref lo, .int (nI sc), .ref kp, .ref ks, .int (nI nc), .int (nI 0)])) lo = some (.inl (k 5, 100, .inl (fun i_ => nI (ml i_)))) := (mp_up_n (mp_ne hlo h0 (by simp))).trans hlo
  have hkp_n : mp_up M mo (.inr (4, [.ref el, .ref ek, .int (nI ec), .ref bg, .ref sz, .ref kn, .int (nI tc), .ref rw, .int (nI wc), .ref pp, .ref pk, .ref wd, .ref lo, .int (nI sc), .ref kp, .ref ks, .int (nI nc), .int (nI 0)])) kp = some (.inl (k 1, 80000, .inr (.inl mk))) := (mp_up_n (mp_ne hkp h0 (by simp))).trans hkp
  have hks_n : mp_up M mo (.inr (4, [.ref el, .ref ek, .int (nI ec), .ref bg, .ref sz, .ref kn, .int (nI tc), .ref rw, .int (nI wc), .ref pp, .ref pk, .ref wd, .ref lo, .int (nI sc), .ref kp, .ref ks, .int (nI nc), .int (nI 0)])) ks = some (.inl (k 0, 20, .inl (fun i_ => nI (nn i_)))) := (mp_up_n (mp_ne hks h0 (by simp))).trans hks
  generalize eM_2 : mp_up M mo (.inr (4, [.ref el, .ref ek, .int (nI ec), .ref bg, .ref sz, .ref kn, .int (nI tc), .ref rw, .int (nI wc), .ref pp, .ref pk, .ref wd, .ref lo, .int (nI sc), .ref kp, .ref ks, .int (nI nc), .int (nI 0)])) = M_1 at I h0_n hel_n hek_n hbg_n hsz_n hkn_n hrw_n hpp_n hpk_n hwd_n hlo_n hkp_n hks_n
  have h0__M_1 := h0_n
  have hel__M_1 := hel_n
  have hek__M_1 := hek_n
  have hbg__M_1 := hbg_n
  have hsz__M_1 := hsz_n
  have hkn__M_1 := hkn_n
  have hrw__M_1 := hrw_n
  have hpp__M_1 := hpp_n
  have hpk__M_1 := hpk_n
  have hwd__M_1 := hwd_n
  have hlo__M_1 := hlo_n
  have hkp__M_1 := hkp_n
  have hks__M_1 := hks_n
  clear h0_n hel_n hek_n hbg_n hsz_n hkn_n hrw_n hpp_n hpk_n hwd_n hlo_n hkp_n hks_n
  have hE := hE.cnt ec tc wc sc nc 0
  rw [eM_2] at hE
  refine lv_aload_n hx hb dM_meet_5 rfl (lv_at hl 0 rfl) ?_
  refine lv_iload_n hx hb dM_meet_6 rfl (lv_at hl 1 rfl) ?_
  refine mp_calli (va_runV (As := [.int x]) (rest := []) ⟨hx, hb, hml, hown, hts⟩ (kM_isPlace l D k M_1 hE hO x _) (cwV 1 hts (bw_V bw_435 bw_437 bs_14 bw_2 bw_438) rfl rfl rfl (by decide +kernel) ⟨Nat.le_of_ble_eq_true rfl, Nat.le_of_ble_eq_true rfl⟩) (mp_preV I h0__M_1 rfl _) rfl rfl hl.1 rfl (lv_room (Nat.le_of_ble_eq_true rfl)) dM_meet_7 ⟨Nat.le_of_ble_eq_true rfl, Nat.le_of_ble_eq_true rfl⟩) I (fun r_3 N_4 H locs hp I => ?_)
  obtain ⟨e_5, hp⟩ := hp
  rw [e_5] at I
  rcases hp with ⟨p1, rfl⟩ | ⟨p1, rfl⟩
  · refine zz_if_eq (tgt := 69) hx hb (nI_toInt (by decide)) dM_meet_10 (by decide) (fun c_6 => absurd c_6 (by decide)) (fun _ => ?_)
    refine lv_aload_n hx hb dM_meet_13 rfl (lv_at hl 0 rfl) ?_
    refine lv_iload_n hx hb dM_meet_14 rfl (lv_at hl 2 rfl) ?_
    refine mp_calli (va_runV (As := [.int y]) (rest := []) ⟨hx, hb, hml, hown, hts⟩ (kM_isPlace l D k M_1 hE hO y _) (cwV 1 hts (bw_V bw_435 bw_437 bs_14 bw_2 bw_438) rfl rfl rfl (by decide +kernel) ⟨Nat.le_of_ble_eq_true rfl, Nat.le_of_ble_eq_true rfl⟩) (mp_preV I h0__M_1 rfl _) rfl rfl hl.1 rfl (lv_room (Nat.le_of_ble_eq_true rfl)) dM_meet_15 ⟨Nat.le_of_ble_eq_true rfl, Nat.le_of_ble_eq_true rfl⟩) I (fun r_7 N_8 H locs hp I => ?_)
    obtain ⟨e_9, hp⟩ := hp
    rw [e_9] at I
    rcases hp with ⟨p2, rfl⟩ | ⟨p2, rfl⟩
    · refine zz_if_eq (tgt := 69) hx hb (nI_toInt (by decide)) dM_meet_18 (by decide) (fun c_10 => absurd c_10 (by decide)) (fun _ => ?_)
      obtain ⟨xn, hn_xn, rfl, hz_xn⟩ := i32_nat (x := x) (by omega)
      obtain ⟨yn, hn_yn, rfl, hz_yn⟩ := i32_nat (x := y) (by omega)
      have hSx := bS xn (by omega)
      have hSy := bS yn (by omega)
      have hxi : (nI xn).toInt.toNat = xn := by omega
      have hyi : (nI yn).toInt.toNat = yn := by omega
      refine lv_aload_n hx hb dM_meet_21 rfl (lv_at hl 0 rfl) ?_
      refine mp_get (v := .ref pp) hx hb hts inM hown I h0__M_1 rfl 9 (by decide) (hts _ bw_340) (fun _ h9 => h9) rfl dM_meet_22 ?_
      refine lv_iload_n hx hb dM_meet_25 rfl (lv_at hl 1 rfl) ?_
      refine mp_iald hx hb I 0 hpp__M_1 rfl xn rfl (by omega) (by decide) (v := nI (sf xn)) rfl dM_meet_26 ?_
      refine lv_aload_n hx hb dM_meet_27 rfl (lv_at hl 0 rfl) ?_
      refine mp_get (v := .ref pp) hx hb hts inM hown I h0__M_1 rfl 9 (by decide) (hts _ bw_340) (fun _ h9 => h9) rfl dM_meet_28 ?_
      refine lv_iload_n hx hb dM_meet_31 rfl (lv_at hl 2 rfl) ?_
      refine mp_iald hx hb I 0 hpp__M_1 rfl yn rfl (by omega) (by decide) (v := nI (sf yn)) rfl dM_meet_32 ?_
      refine lv_aload_n hx hb dM_meet_33 rfl (lv_at hl 0 rfl) ?_
      refine mp_get (v := .ref wd) hx hb hts inM hown I h0__M_1 rfl 11 (by decide) (hts _ bw_342) (fun _ h9 => h9) rfl dM_meet_34 ?_
      refine lv_iload_n hx hb dM_meet_37 rfl (lv_at hl 2 rfl) ?_
      refine mp_iald hx hb I 0 hwd__M_1 rfl yn rfl (by omega) (by decide) (v := nI (sw yn)) rfl dM_meet_38 ?_
      refine zz_iadd hx hb dM_meet_39 ?_
      refine zz_icmp_ge (tgt := 69) hx hb (nI_toInt (by first | assumption | omega)) (nI_toInt (by first | assumption | omega)) dM_meet_40 (by decide) (fun c_11 => ?_) (fun c_11 => ?_)
      · refine lv_iconst (v := nI 0) hx hb dM_meet_69 (by decide) ?_
        exact mp_zret hx hb hr hlocks I rfl (Nat.le_of_ble_eq_true rfl) (Nat.le_of_ble_eq_true rfl) dM_meet_70 ⟨Or.inr ⟨by rw [hxi, hyi]; omega, rfl⟩, hE⟩
      · refine lv_aload_n hx hb dM_meet_43 rfl (lv_at hl 0 rfl) ?_
        refine mp_get (v := .ref pp) hx hb hts inM hown I h0__M_1 rfl 9 (by decide) (hts _ bw_340) (fun _ h9 => h9) rfl dM_meet_44 ?_
        refine lv_iload_n hx hb dM_meet_47 rfl (lv_at hl 2 rfl) ?_
        refine mp_iald hx hb I 0 hpp__M_1 rfl yn rfl (by omega) (by decide) (v := nI (sf yn)) rfl dM_meet_48 ?_
        refine lv_aload_n hx hb dM_meet_49 rfl (lv_at hl 0 rfl) ?_
        refine mp_get (v := .ref pp) hx hb hts inM hown I h0__M_1 rfl 9 (by decide) (hts _ bw_340) (fun _ h9 => h9) rfl dM_meet_50 ?_
        refine lv_iload_n hx hb dM_meet_53 rfl (lv_at hl 1 rfl) ?_
        refine mp_iald hx hb I 0 hpp__M_1 rfl xn rfl (by omega) (by decide) (v := nI (sf xn)) rfl dM_meet_54 ?_
        refine lv_aload_n hx hb dM_meet_55 rfl (lv_at hl 0 rfl) ?_
        refine mp_get (v := .ref wd) hx hb hts inM hown I h0__M_1 rfl 11 (by decide) (hts _ bw_342) (fun _ h9 => h9) rfl dM_meet_56 ?_
        refine lv_iload_n hx hb dM_meet_59 rfl (lv_at hl 1 rfl) ?_
        refine mp_iald hx hb I 0 hwd__M_1 rfl xn rfl (by omega) (by decide) (v := nI (sw xn)) rfl dM_meet_60 ?_
        refine zz_iadd hx hb dM_meet_61 ?_
        refine zz_icmp_ge (tgt := 69) hx hb (nI_toInt (by first | assumption | omega)) (nI_toInt (by first | assumption | omega)) dM_meet_62 (by decide) (fun c_12 => ?_) (fun c_12 => ?_)
        · refine lv_iconst (v := nI 0) hx hb dM_meet_69 (by decide) ?_
          exact mp_zret hx hb hr hlocks I rfl (Nat.le_of_ble_eq_true rfl) (Nat.le_of_ble_eq_true rfl) dM_meet_70 ⟨Or.inr ⟨by rw [hxi, hyi]; omega, rfl⟩, hE⟩
        · refine lv_iconst (v := nI 1) hx hb dM_meet_65 (by decide) ?_
          refine lv_goto (tgt := 70) hx hb dM_meet_66 (by decide) ?_
          exact mp_zret hx hb hr hlocks I rfl (Nat.le_of_ble_eq_true rfl) (Nat.le_of_ble_eq_true rfl) dM_meet_70 ⟨Or.inl ⟨by rw [hxi, hyi]; omega, rfl⟩, hE⟩
    · refine zz_if_eq (tgt := 69) hx hb (nI_toInt (by decide)) dM_meet_18 (by decide) (fun _ => ?_) (fun c_13 => absurd c_13 (by decide))
      refine lv_iconst (v := nI 0) hx hb dM_meet_69 (by decide) ?_
      exact mp_zret hx hb hr hlocks I rfl (Nat.le_of_ble_eq_true rfl) (Nat.le_of_ble_eq_true rfl) dM_meet_70 ⟨Or.inr ⟨by omega, rfl⟩, hE⟩
  · refine zz_if_eq (tgt := 69) hx hb (nI_toInt (by decide)) dM_meet_10 (by decide) (fun _ => ?_) (fun c_14 => absurd c_14 (by decide))
    refine lv_iconst (v := nI 0) hx hb dM_meet_69 (by decide) ?_
    exact mp_zret hx hb hr hlocks I rfl (Nat.le_of_ble_eq_true rfl) (Nat.le_of_ble_eq_true rfl) dM_meet_70 ⟨Or.inr ⟨by omega, rfl⟩, hE⟩
end
