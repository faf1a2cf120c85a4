theorem arr_p {args : Array Value} {s : State} {ty : FieldType} (h : (Cond.arrayClass ty).before args s = true) : ∃ cA : ClassId, ArrOfT s cA ty ∧ s.vm.findClass ("[" ++ ty.toString) = some cA := by
  obtain ⟨c, k, comp, h1, h2, h3⟩ := Cond.arrayClass_spec h
  exact ⟨c, fun n z => ⟨fun k h => (by cases h), k, h2, comp, h3⟩, h1⟩
theorem arr_o {args : Array Value} {s : State} {C : String} (h : (Cond.arrayOver (.object C)).before args s = true) : ∃ cA : ClassId, ArrOfT s cA (.object C) ∧ va_RA s cA (.object C) := by
  obtain ⟨comp, c, k, h1, -, h3, h4, h5⟩ := Cond.arrayOver_spec h
  exact ⟨c, fun n z => ⟨fun k h => (by cases h), k, h3, comp, h4⟩, k, comp, h3, h4, h1, h5⟩
theorem mp_P.or {D : va_G} {cl : List vw_C} {A : Nat → Prop} {M N : mp_M} {H : Heap} (h : mp_P D cl A M H) (h2 : mp_P D cl A N H) (hd : dj M N) : mp_P D cl A (fun q => (M q).or (N q)) H := by
  obtain ⟨ws, hP, hD, hw⟩ := h
  obtain ⟨vs, hP2, hD2, hw2⟩ := h2
  refine ⟨ws ++ vs, va_P.app hP hP2, va_D.app hD hD2 (fun i j x y hi hj hxy => ?_), fun a e => ?_⟩
  · have g1 := (hw x.1 x.2).mpr (List.mem_of_getElem? hi)
    have g2 := (hw2 y.1 y.2).mpr (List.mem_of_getElem? hj)
    rcases hd x.1 with h | h
    · rw [h] at g1; cases g1
    · rw [hxy] at h; rw [h] at g2; cases g2
  · rw [List.mem_append, ← hw, ← hw2]
    show (M a).or (N a) = some e ↔ _
    cases hM : M a with
    | none => simp
    | some x =>
      rcases hd a with h | h
      · rw [h] at hM; cases hM
      · simp [h]
theorem LJ.new2 {D : va_G} {cl : List vw_C} {tys : List (ClassId × FieldType)} {s : State} {A : Nat → Prop} {H0 H : Heap} {locs : List Loc} {Md : mp_M} {o : Nat} {e0 : va_E} (I : mp_I D cl tys s A H0 H locs (mp_up Md o e0)) (hq : Md o = none) : LJ D cl tys s A H0 H locs (mp_1 o e0) Md (fun _ => none) := by
  refine ⟨⟨I.1, I.2.1.part (fun a e h => ?_), I.2.2.1, I.2.2.2⟩, ⟨I.1, I.2.1.part (up_part0 hq), I.2.2.1, I.2.2.2⟩, ⟨I.1, I.2.1.part (fun a e h => by cases h), I.2.2.1, I.2.2.2⟩, fun q => ?_, fun q => Or.inr rfl, fun q => Or.inr rfl⟩
  · by_cases g : a = o
    · subst g; rw [mp_1s] at h; cases h; exact mp_up_s _ _ _
    · rw [mp_1n g] at h; cases h
  · by_cases g : q = o
    · subst g; exact Or.inr hq
    · exact Or.inl (mp_1n g)
theorem LJ.new3 {D : va_G} {cl : List vw_C} {tys : List (ClassId × FieldType)} {s : State} {A : Nat → Prop} {H0 H : Heap} {locs : List Loc} {Md Mm : mp_M} {o : Nat} {e0 : va_E} (hd : dj Md Mm) (I : mp_I D cl tys s A H0 H locs (mp_up (fun q => (Md q).or (Mm q)) o e0)) (hq : (Md o).or (Mm o) = none) : LJ D cl tys s A H0 H locs Md Mm (mp_1 o e0) := by
  have hq1 : Md o = none := by
    cases h : Md o with
    | none => rfl
    | some x => rw [h] at hq; cases hq
  have hq2 : Mm o = none := by rw [hq1] at hq; exact hq
  refine ⟨⟨I.1, I.2.1.part (fun a e h => ?_), I.2.2.1, I.2.2.2⟩, ⟨I.1, I.2.1.part (fun a e h => ?_), I.2.2.1, I.2.2.2⟩, ⟨I.1, I.2.1.part (fun a e h => ?_), I.2.2.1, I.2.2.2⟩, hd, fun q => ?_, fun q => ?_⟩
  · rw [mp_up_n (fun z => by rw [z, hq1] at h; cases h)]
    show (Md a).or (Mm a) = some e
    rw [h]; rfl
  · rw [mp_up_n (fun z => by rw [z, hq2] at h; cases h)]
    show (Md a).or (Mm a) = some e
    rcases hd a with g | g
    · rw [g]; exact h
    · rw [g] at h; cases h
  · by_cases g : a = o
    · subst g; rw [mp_1s] at h; cases h; exact mp_up_s _ _ _
    · rw [mp_1n g] at h; cases h
  · by_cases g : q = o
    · subst g; exact Or.inl hq1
    · exact Or.inr (mp_1n g)
  · by_cases g : q = o
    · subst g; exact Or.inl hq2
    · exact Or.inr (mp_1n g)
set_option maxHeartbeats 4000000 in
set_option maxRecDepth 100000 in
/-- THE LAW, from its entry -/
theorem whole_start {p : Program} {e : Env} {s : State} {m : MethodId} {below : List Frame} {meth : Method} {c : Code} (l : Launch) (hst : l.stackTraces = false) {b L : Nat} {xs : Nat → Int32} (hL : L ≤ 3584) (C0 : lw_At p s m meth c b L xs) : W p l e room_1 s m #[Value.ref b] below meth c s.heap [] 0 0 (lw_Z below #[Value.ref b] s) (entryFrame m ([Value.ref b] : List Value).toArray 8) := by
  obtain ⟨hx, hb, hr, hml, hown, hts0, hX, hbl, hlocks, hgv⟩ := id C0
  have hts : ∀ w ∈ bw, w.before #[Value.ref b] s = true := fun w h => hts0 w (bw_in h)
  have hown : s.vm.findClass "PlaceDeskLaw" = some m.cls := hown
  obtain ⟨c0, iS0, hKn0⟩ := u_known (C := RD) (T := FD) (N := 11) (n := 11) hts inD (hts _ bw_13)
  obtain ⟨c1, iS1, hKn1⟩ := u_known (C := RT) (T := FT) (N := 3) (n := 3) hts inT (hts _ bw_78)
  obtain ⟨c2, iS2, hKn2⟩ := u_known (C := RS) (T := FS) (N := 4) (n := 4) hts inS (hts _ bw_127)
  obtain ⟨c3, iS3, hKn3⟩ := u_known (C := RN) (T := FN) (N := 2) (n := 2) hts inN (hts _ bw_179)
  obtain ⟨c4, iS4, hKn4⟩ := u_known (C := RM) (T := FM) (N := 18) (n := 18) hts inM (hts _ bw_325)
  obtain ⟨cI, aI, fI⟩ := arr_p (hts _ bw_61)
  obtain ⟨cL, aL, fL⟩ := arr_p (hts _ bw_60)
  obtain ⟨cZ, aZ, fZ⟩ := arr_p (hts _ bw_386)
  obtain ⟨cT, aT, fT⟩ := arr_o (hts0 (Jvm.Cond.arrayOver (Jvm.ClassFile.FieldType.object "PlaceDesk$Thing")) (List.mem_of_getElem? (i := 40) (by decide +kernel)))
  obtain ⟨cS, aS, fS⟩ := arr_o (hts0 (Jvm.Cond.arrayOver (Jvm.ClassFile.FieldType.object "PlaceDesk$Spot")) (List.mem_of_getElem? (i := 42) (by decide +kernel)))
  obtain ⟨cN, aN, fN⟩ := arr_o (hts0 (Jvm.Cond.arrayOver (Jvm.ClassFile.FieldType.object "PlaceDesk$Snapshot")) (List.mem_of_getElem? (i := 44) (by decide +kernel)))
  obtain ⟨D, k, hK⟩ : ∃ (D : va_G) (k : Nat → ClassId), va_K D cls5 (tys6 k) s := by
    refine ⟨(fun j => match j with | 0 => c0 | 1 => c1 | 2 => c2 | 3 => c3 | _ => c4, fun j => match j with | 0 => iS0 | 1 => iS1 | 2 => iS2 | 3 => iS3 | _ => iS4), fun j => match j with | 0 => cI | 1 => cL | 2 => cT | 3 => cS | 4 => cN | _ => cZ, fun j q hq => ?_, fun j q hq => ?_⟩
    · match j, hq with
      | 0, hq => cases hq; exact hKn0
      | 1, hq => cases hq; exact hKn1
      | 2, hq => cases hq; exact hKn2
      | 3, hq => cases hq; exact hKn3
      | 4, hq => cases hq; exact hKn4
      | j + 5, hq => simp [cls5] at hq
    · match j, hq with
      | 0, hq => cases hq; exact ⟨aI, fI⟩
      | 1, hq => cases hq; exact ⟨aL, fL⟩
      | 2, hq => cases hq; exact ⟨aT, fT⟩
      | 3, hq => cases hq; exact ⟨aS, fS⟩
      | 4, hq => cases hq; exact ⟨aN, fN⟩
      | 5, hq => cases hq; exact ⟨aZ, fZ⟩
      | j + 6, hq => simp [tys6] at hq
  have hMK : mp_K D cls5 (tys6 k) s := ⟨hK, va_Nw.of rfl (hts0 (Jvm.Cond.methodLinkNest "PlaceDesk" (129 : Nat) ({ cls := "PlaceDesk$Snapshot", name := "<init>", desc := "()V" } : Jvm.MethodName) "PlaceDesk") (List.mem_of_getElem? (i := 199) (by decide +kernel))), va_AO.of (hts0 (Jvm.Cond.arrayOver (Jvm.ClassFile.FieldType.object "PlaceDesk$Thing")) (List.mem_of_getElem? (i := 40) (by decide +kernel))), va_AO.of (hts0 (Jvm.Cond.arrayOver (Jvm.ClassFile.FieldType.object "PlaceDesk$Spot")) (List.mem_of_getElem? (i := 42) (by decide +kernel))), va_AO.of (hts0 (Jvm.Cond.arrayOver (Jvm.ClassFile.FieldType.object "PlaceDesk$Snapshot")) (List.mem_of_getElem? (i := 44) (by decide +kernel)))⟩
  have hs1 := (hts0 (Jvm.Cond.stringRef "PlaceDesk" (103 : Nat) "no such place") (List.mem_of_getElem? (i := 282) (by decide +kernel)))
  obtain ⟨-, -, -, s1, -, -, -, -, -, ev1⟩ := Cond.stringRef_spec hKn0.2.1 hs1
  have hs2 := (hts0 (Jvm.Cond.stringRef "PlaceDesk" (111 : Nat) "no such act, or not of this kind") (List.mem_of_getElem? (i := 312) (by decide +kernel)))
  obtain ⟨-, -, -, s2, -, -, -, -, -, ev2⟩ := Cond.stringRef_spec hKn0.2.1 hs2
  have hs3 := (hts0 (Jvm.Cond.stringRef "PlaceDesk" (117 : Nat) "v is no value of this kind") (List.mem_of_getElem? (i := 321) (by decide +kernel)))
  obtain ⟨-, -, -, s3, -, -, -, -, -, ev3⟩ := Cond.stringRef_spec hKn0.2.1 hs3
  have hs4 := (hts0 (Jvm.Cond.stringRef "PlaceDesk" (119 : Nat) "w is no value of this kind") (List.mem_of_getElem? (i := 322) (by decide +kernel)))
  obtain ⟨-, -, -, s4, -, -, -, -, -, ev4⟩ := Cond.stringRef_spec hKn0.2.1 hs4
  have hXk : xK s1 s2 s3 s4 s := ⟨va_Nw.of rfl (hts0 (Jvm.Cond.castable "java/lang/IllegalArgumentException" "java/lang/IllegalArgumentException") (List.mem_of_getElem? (i := 245) (by decide +kernel))), va_Nw.of rfl (hts0 (Jvm.Cond.declares ({ cls := "java/lang/RuntimeException", name := "<init>", desc := "(Ljava/lang/String;)V" } : Jvm.MethodName)) (List.mem_of_getElem? (i := 247) (by decide +kernel))), va_Nw.of rfl (hts0 (Jvm.Cond.declares ({ cls := "java/lang/Exception", name := "<init>", desc := "(Ljava/lang/String;)V" } : Jvm.MethodName)) (List.mem_of_getElem? (i := 249) (by decide +kernel))), va_Nw.of rfl (hts0 (Jvm.Cond.declares ({ cls := "java/lang/Throwable", name := "<init>", desc := "(Ljava/lang/String;)V" } : Jvm.MethodName)) (List.mem_of_getElem? (i := 251) (by decide +kernel))), vk_R.of hs1 ev1, vk_R.of hs2 ev2, vk_R.of hs3 ev3, vk_R.of hs4 ev4⟩
  have hgf := flat_of_before _ hgv
  have hU : vx_Zq Bundle.tN "UNASSIGNED_STACK" Bundle.steD (fun q : Nat => s.heap.size ≤ q) s s.heap := vx_Zqof (C := "java/lang/Throwable") (n := "UNASSIGNED_STACK") (d := "[Ljava/lang/StackTraceElement;") (hts0 (Jvm.Cond.laysStatic "java/lang/Throwable" "UNASSIGNED_STACK" "[Ljava/lang/StackTraceElement;") (List.mem_of_getElem? (i := 270) (by decide +kernel))) (hts _ bw_6) (hgf (Cond.isRef (.static "java/lang/Throwable" "UNASSIGNED_STACK" "[Ljava/lang/StackTraceElement;")) (by decide +kernel)) (fun a h => Nat.not_le.mpr h)
  have hN : vx_Zq Bundle.tN "SUPPRESSED_SENTINEL" Bundle.listD (fun q : Nat => s.heap.size ≤ q) s s.heap := vx_Zqof (C := "java/lang/Throwable") (n := "SUPPRESSED_SENTINEL") (d := "Ljava/util/List;") (hts0 (Jvm.Cond.laysStatic "java/lang/Throwable" "SUPPRESSED_SENTINEL" "Ljava/util/List;") (List.mem_of_getElem? (i := 272) (by decide +kernel))) (hts _ bw_6) (hgf (Cond.isRef (.static "java/lang/Throwable" "SUPPRESSED_SENTINEL" "Ljava/util/List;")) (by decide +kernel)) (fun a h => Nat.not_le.mpr h)
  have I : mp_I D cls5 (tys6 k) s (fun q : Nat => s.heap.size ≤ q) s.heap s.heap [] (fun _ => none) := ⟨hMK, ⟨[], fun k q h => (by simp at h), ⟨fun i j p q h => (by simp at h), fun k q h => (by simp at h)⟩, fun a e => (by simp)⟩, va_S.rf, fun _ h => h⟩
  have hl := lv_entry ([.ref b]) (n := 8) (Nat.le_of_ble_eq_true rfl)
  rw [lg_entry_eq]
  generalize (lg_sl ([.ref b]) ++ List.replicate (8 - (lg_sl ([.ref b])).length) Slot.unset).toArray = ls at hl ⊢
  have hl : lv_has ls 8 [(0, .ref b)] := hl
  refine mp_new (fs := [.null, .null, .int 0, .null, .int 0, .null, .int 0, .null, .int 0, .null, .int 0]) hx hb hts inD tyD okD hown (hts _ bw_12) (hts _ bw_13) (hts _ bw_1) I (ci := 0) rfl (fun j hj => by rcases (show j = 0 ∨ j = 1 ∨ j = 2 ∨ j = 3 ∨ j = 4 ∨ j = 5 ∨ j = 6 ∨ j = 7 ∨ j = 8 ∨ j = 9 ∨ j = 10 by omega) with rfl | rfl | rfl | rfl | rfl | rfl | rfl | rfl | rfl | rfl | rfl <;> rfl) (Nat.le_of_ble_eq_true rfl) (Nat.le_of_ble_eq_true rfl) dL_law_0 (fun d H hq_d I => ?_)
  refine lv_dup hx hb dL_law_3 rfl ?_
  refine mp_callv (va_runI (As := []) (rest := [.ref d]) ⟨hx, hb, hml, hown, hts⟩ (kD_init l D k _ d (mp_up_s _ _ _) _) (cwI 0 hts (bw_I bw_16) rfl rfl rfl (hts _ bw_1) (hts _ bw_14) (hts _ bw_15) rfl (by decide +kernel) ⟨Nat.le_of_ble_eq_true rfl, Nat.le_of_ble_eq_true rfl⟩) (mp_preS I _) rfl rfl hl.1 rfl (lv_room (Nat.le_of_ble_eq_true rfl)) dL_law_4 ⟨Nat.le_of_ble_eq_true rfl, Nat.le_of_ble_eq_true rfl⟩) I (fun Md H locs hp I => ?_)
  obtain ⟨av, ak, at_, aw, as_, an, hD⟩ := hp
  refine lv_astore_n (lv' := [(1, .ref d), (0, .ref b)]) hx hb dL_law_7 rfl hl (by decide) rfl (fun ls hl => ?_)
  refine mp_new (fs := [.null, .null, .int 0, .null, .null, .null, .int 0, .null, .int 0, .null, .null, .null, .null, .int 0, .null, .null, .int 0, .int 0]) hx hb hts inM tyM okM hown (hts _ bw_324) (hts _ bw_325) (hts _ bw_2) I (ci := 4) rfl (fun j hj => by rcases (show j = 0 ∨ j = 1 ∨ j = 2 ∨ j = 3 ∨ j = 4 ∨ j = 5 ∨ j = 6 ∨ j = 7 ∨ j = 8 ∨ j = 9 ∨ j = 10 ∨ j = 11 ∨ j = 12 ∨ j = 13 ∨ j = 14 ∨ j = 15 ∨ j = 16 ∨ j = 17 by omega) with rfl | rfl | rfl | rfl | rfl | rfl | rfl | rfl | rfl | rfl | rfl | rfl | rfl | rfl | rfl | rfl | rfl | rfl <;> rfl) (Nat.le_of_ble_eq_true rfl) (Nat.le_of_ble_eq_true rfl) dL_law_8 (fun mo H hq_mo I => ?_)
  have J := LJ.new2 I hq_mo
  refine lv_dup hx hb dL_law_11 rfl ?_
  refine lj_v (va_runI (As := []) (rest := [.ref mo]) ⟨hx, hb, hml, hown, hts⟩ (kM_init l D k _ mo (mp_1s _ _) _) (cwI 0 hts (bw_I bw_328) rfl rfl rfl (hts _ bw_2) (hts _ bw_326) (hts _ bw_327) rfl (by decide +kernel) ⟨Nat.le_of_ble_eq_true rfl, Nat.le_of_ble_eq_true rfl⟩) (mp_preS J.1 _) rfl rfl hl.1 rfl (lv_room (Nat.le_of_ble_eq_true rfl)) dL_law_12 ⟨Nat.le_of_ble_eq_true rfl, Nat.le_of_ble_eq_true rfl⟩) J (fun Mm H locs hp J => ?_)
  obtain ⟨el, ek, bg, sz, kn, rw, pp, pk, wd, lo, kp, ks, hE⟩ := hp
  have J := J.rot
  refine lv_astore_n (lv' := [(2, .ref mo), (1, .ref d), (0, .ref b)]) hx hb dL_law_15 rfl hl (by decide) rfl (fun ls hl => ?_)
  refine lv_iconst (v := nI 1) hx hb dL_law_16 (by decide) ?_
  have IU : mp_I D cls5 (tys6 k) s (fun q : Nat => s.heap.size ≤ q) s.heap H locs (fun q => (Md q).or (Mm q)) := ⟨J.1.1, mp_P.or J.1.2.1 J.2.1.2.1 J.2.2.2.1, J.1.2.2.1, J.1.2.2.2⟩
  have hdj := J.2.2.2.1
  refine mp_newa (atype := .long) (ty := .long) (a0 := (1, .inr (.inl (fun _ => 0)))) hx hb (hts _ bw_60) rfl IU 1 rfl (fun _ h => h) (fun _ => rfl) (by decide) (nI_clamp (by decide)) (by decide) (Nat.le_of_ble_eq_true rfl) (Nat.le_of_ble_eq_true rfl) dL_law_17 (fun o H hq_o I => ?_)
  have J := LJ.new3 hdj I hq_o
  refine lv_astore_n (lv' := [(3, .ref o), (2, .ref mo), (1, .ref d), (0, .ref b)]) hx hb dL_law_19 rfl hl (by decide) rfl (fun ls hl => ?_)
  refine lv_iconst (v := nI 0) hx hb dL_law_20 (by decide) ?_
  refine lv_istore (lv' := [(4, .int (nI 0)), (3, .ref o), (2, .ref mo), (1, .ref d), (0, .ref b)]) hx hb dL_law_21 hl (by decide) rfl (fun ls hl => ?_)
  have hZ : LSt k d mo Md Mm := LSt.mk hD hE LI.init
  refine W.widen (k := 21 + 2 * 0) (n := 97794 + 4002 * 0) (by omega) (by omega) ?_
  exact law_loop hL C0 hst hXk hU hN 513 0 _ _ _ (by omega) (by omega) ⟨Md, Mm, _, J, hZ, lv_sub hl [4, 3, 2, 1, 0] rfl⟩
