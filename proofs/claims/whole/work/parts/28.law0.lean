/-! THE CLAIM OUT OF ONE WALK OF THE LAW'S BODY. Your part is whole_start (and what it stands on); all else here is the same for every law, but numbers. -/
def R_law : String := "PlaceDeskLaw"
def lw_P (b : Addr) (xs : List Int32) (args : Array Value) (s : State) : Prop := args = #[.ref b] ∧ s.IntsAt b xs ∧ xs.length ≤ 3584 ∧ (Jvm.Cond.and given_1 narrow_1).before args s = true
def lw_Q (_ : Array Value) (s : State) (o : Outcome) (t : State) : Prop := o = .returned (some (.int 1)) ∧ Framed s o t [] 434553 7792446
def lw_Z (below : List Frame) (a : Array Value) (s : State) : State → Prop := fun t => ∃ o, t.status = .running ∧ Ended t below o ∧ lw_Q a s o t
/-- the law's own end, with 1 on the stack, nothing written that was there before, its room as the claim has it -/
theorem lw_ret {p : Program} {l : Launch} {e : Env} {s : State} {m : MethodId} {below : List Frame} {meth : Method} {c : Code} {b : Nat} (hx : p.tables.exec = Jvm.exec) (hb : c.code = code) (hr : meth.sig.returnType = ret) (hlocks : meth.locks = false) {pc : Nat} {H : Heap} {ls : Array Slot} (hdg : decode code pc = .ok (.ireturn, 1)) : W p l e room_1 s m #[Value.ref b] below meth c H [] 434553 7792446 (lw_Z below #[Value.ref b] s) (F0 m pc ls [.int 1]) := by
  intro T hT X
  obtain ⟨fs, hret, hrun, hended, hW, hframe⟩ := X.leave (v := some (.int 1)) (hlocks := hlocks) (fun h => by rw [hr] at h; cases h)
  have hmeth' : T.vm.method? m = some meth := X.method'
  refine ⟨T.setFrames fs, ?_, .returned (some (.int 1)), hrun, hended, rfl, ⟨_, rfl⟩, hW, hframe⟩
  jvm_step X.here [X.here.top, hx, hb, hdg, hmeth', hr, ret, narrow_b1]
  (try refine ⟨rfl, ?_⟩); (try refine ⟨rfl, ?_⟩)
  first | (intro acts; rw [hret _ acts rfl rfl rfl]) | rw [hret _ _ rfl rfl rfl]
  exact Steps.refl _
/-- what holds at the law's entry: the machine, the code, the tables' words (any of lw_tbl by 'hts w (by decide +kernel)'), the script of L ints xs at the cell b, what the Statement gives of the start (any of its parts by flat_of_before) -/
def lw_At (p : Program) (s : State) (m : MethodId) (meth : Method) (c : Code) (b L : Nat) (xs : Nat → Int32) : Prop :=
  p.tables.exec = Jvm.exec ∧ c.code = code ∧ meth.sig.returnType = ret ∧ c.maxLocals = 8 ∧ s.vm.findClass R_law = some m.cls ∧ (∀ w ∈ lw_tbl, w.before #[Value.ref b] s = true) ∧ va_X b L xs s s.heap ∧ b < s.heap.size ∧ meth.locks = false ∧ (Jvm.Cond.and given_1 narrow_1).before #[Value.ref b] s = true
theorem bw_218 : (Jvm.Cond.codeWith ({ cls := "PlaceDeskLaw", name := "act", desc := "(LPlaceDesk;IIJJ[J)I" } : Jvm.MethodName) method_3_code (9 : Nat) (Option.some Jvm.ClassFile.FieldType.int) [((0 : Nat), (13 : Nat), (16 : Nat), (13 : Nat))]) ∈ bw := bw_of 237 (by decide +kernel) (by decide +kernel)
section LWS
variable {p : Program} {l : Launch} {e : Env} {R : Room} {s : State} {m : MethodId} {args : Array Value} {below : List Frame} {meth : Method} {c : Code} {H : Heap} {locs : List Loc} {cells slots : Nat} {Q : State → Prop}
variable {pc : Nat} {ls : Array Slot} {rest : List Value} {A : Nat → Prop} {H0 : Heap} {cc : ByteArray} {D : va_G} {cl : List vw_C} {tys : List (ClassId × FieldType)}
/-- an int of the script -/
theorem lj_sld (hexec : p.tables.exec = Jvm.exec) (hb : c.code = cc) {b L : Nat} {xs : Nat → Int32} (hX : va_X b L xs s H0) (hbl : b < H0.size) (hbA : ¬ A b) (hS : va_S A H0 H locs) {n : Nat} (hn : n < L) (hL : L ≤ 3584) (hdg : decode cc pc = .ok (.iaload, 1))
    (kk : W p l e R s m args below meth c H locs cells slots Q (F0 m (pc + 1) ls (.int (xs n) :: rest))) : W p l e R s m args below meth c H locs cells slots Q (F0 m pc ls (.int (nI n) :: .ref b :: rest)) :=
  va_sld hexec hb hX hbl hbA hS (i := nI n) (vp_in_nI hn (by omega)) hdg (by rw [nI_clamp (by omega)]; exact kk)
theorem LJ.out {Md Mm : mp_M} {o : Nat} {e0 : va_E} (J : LJ D cl tys s A H0 H locs Md Mm (mp_1 o e0)) : Md o = none := by
  rcases J.2.2.2.2.1 o with h | h
  · exact h
  · rw [mp_1s] at h; cases h
/-- the cell o joins the first world -/
theorem LJ.join {Md Mm : mp_M} {o : Nat} {e0 : va_E} (J : LJ D cl tys s A H0 H locs Md Mm (mp_1 o e0)) : LJ D cl tys s A H0 H locs (mp_up Md o e0) Mm (fun _ => none) := by
  refine ⟨⟨J.1.1, mp_P.add J.1.2.1 J.2.2.1.2.1 J.out, J.1.2.2.1, J.1.2.2.2⟩, J.2.1, ⟨J.1.1, J.1.2.1.part (fun a e h => by cases h), J.1.2.2.1, J.1.2.2.2⟩, fun q => ?_, fun q => Or.inr rfl, fun q => Or.inr rfl⟩
  by_cases h : q = o
  · refine Or.inr ?_
    subst h
    rcases J.2.2.2.2.2 q with h | h
    · exact h
    · rw [mp_1s] at h; cases h
  · rw [mp_up_n h]; exact J.2.2.2.1 q
/-- .. and leaves it -/
theorem LJ.split {M1 Mm P0 N : mp_M} {o : Nat} {e1 : va_E} (J : LJ D cl tys s A H0 H locs M1 Mm P0) (h1 : ∀ a e, N a = some e → M1 a = some e) (h2 : M1 o = some e1) (h3 : N o = none) : LJ D cl tys s A H0 H locs N Mm (mp_1 o e1) := by
  refine ⟨⟨J.1.1, J.1.2.1.part h1, J.1.2.2.1, J.1.2.2.2⟩, J.2.1, ⟨J.1.1, J.1.2.1.part (fun a e h => ?_), J.1.2.2.1, J.1.2.2.2⟩, fun q => ?_, fun q => ?_, fun q => ?_⟩
  · by_cases g : a = o
    · subst g; rw [mp_1s] at h; cases h; exact h2
    · rw [mp_1n g] at h; cases h
  · cases hN : N q with
    | none => exact Or.inl rfl
    | some e =>
      refine Or.inr ?_
      rcases J.2.2.2.1 q with h | h
      · rw [h1 q e hN] at h; cases h
      · exact h
  · by_cases g : q = o
    · subst g; exact Or.inl h3
    · exact Or.inr (mp_1n g)
  · by_cases g : q = o
    · subst g
      rcases J.2.2.2.1 q with h | h
      · rw [h2] at h; cases h
      · exact Or.inl h
    · exact Or.inr (mp_1n g)
theorem up_part {Md : mp_M} {o av : Nat} {e0 V e1 : va_E} (hn : Md o = none) (hne : o ≠ av) : ∀ a e, mp_up Md av V a = some e → mp_up (mp_up (mp_up Md o e0) av V) o e1 a = some e := by
  intro a e h
  have hao : a ≠ o := fun z => by rw [z, mp_up_n hne, hn] at h; cases h
  rw [mp_up_n hao]
  by_cases g : a = av
  · subst g; rw [mp_up_s] at h ⊢; exact h
  · rw [mp_up_n g] at h ⊢; rw [mp_up_n hao]; exact h
theorem up_part0 {Md : mp_M} {o : Nat} {e0 : va_E} (hn : Md o = none) : ∀ a e, Md a = some e → mp_up Md o e0 a = some e := fun a e h => (mp_up_n (fun z => by rw [z, hn] at h; cases h)).trans h
end LWS
/-- both hold the same numbers -/
def LSt (k : Nat → ClassId) (d mo : Nat) (Md Mm : mp_M) : Prop := ∃ (av ak at_ aw as_ an : Nat) (qt qs qn : Nat → Option Nat) (sa ra : Nat → Nat) (ec tc wc sc nc : Nat) (va : Nat → Int64) (kd wt tk tf tz sk sf sw sl nn : Nat → Nat) (nv : Nat → Nat → Int64) (el ek bg sz kn rw pp pk wd lo kp ks th : Nat) (mk : Nat → Int64) (ml : Nat → Nat), DkX k Md d av ak at_ aw as_ an qt qs qn sa ra ec tc wc sc nc va kd wt tk tf tz sk sf sw sl nn nv ∧ MdX k Mm mo el ek bg sz kn rw pp pk wd lo kp ks ec tc wc sc nc th va mk kd wt tk tf tz sk sf sw ml nn ∧ LI ec tc wc sc nc va mk kd wt tk tf tz sk sf sw sl ml nn nv
theorem LSt.mk {k : Nat → ClassId} {d mo : Nat} {Md Mm : mp_M} {av ak at_ aw as_ an : Nat} {qt qs qn : Nat → Option Nat} {sa ra : Nat → Nat} {ec tc wc sc nc : Nat} {va : Nat → Int64} {kd wt tk tf tz sk sf sw sl nn : Nat → Nat} {nv : Nat → Nat → Int64} {el ek bg sz kn rw pp pk wd lo kp ks th : Nat} {mk : Nat → Int64} {ml : Nat → Nat} (hD : DkX k Md d av ak at_ aw as_ an qt qs qn sa ra ec tc wc sc nc va kd wt tk tf tz sk sf sw sl nn nv) (hE : MdX k Mm mo el ek bg sz kn rw pp pk wd lo kp ks ec tc wc sc nc th va mk kd wt tk tf tz sk sf sw ml nn) (hI : LI ec tc wc sc nc va mk kd wt tk tf tz sk sf sw sl ml nn nv) : LSt k d mo Md Mm := ⟨av, ak, at_, aw, as_, an, qt, qs, qn, sa, ra, ec, tc, wc, sc, nc, va, kd, wt, tk, tf, tz, sk, sf, sw, sl, nn, nv, el, ek, bg, sz, kn, rw, pp, pk, wd, lo, kp, ks, th, mk, ml, hD, hE, hI⟩
def LWd (D : va_G) (k : Nat → ClassId) (s : State) (b d mo o i : Nat) (H : Heap) (locs : List Loc) (ls : Array Slot) : Prop := ∃ (Md Mm : mp_M) (ov : Nat → Int64), LJ D cls5 (tys6 k) s (fun q : Nat => s.heap.size ≤ q) s.heap H locs Md Mm (mp_1 o (.inl (k 1, 1, .inr (.inl ov)))) ∧ LSt k d mo Md Mm ∧ lv_has ls 8 [(0, .ref b), (1, .ref d), (2, .ref mo), (3, .ref o), (4, .int (nI i))]
