theorem mt_ofWH {l : Launch} {y : MethodName} {ws ws' : List Cond} {rm : Room} {Pc : Array Value → State → Prop} {Qc : Array Value → State → Outcome → State → Prop} {mc ms : Nat} {free : Addr → Prop} {cc : ByteArray} {maxL : Nat} {ret : Option FieldType} {hh : List (Nat × Nat × Nat × Nat)}
    (hy : plainName y.cls = true) (hw : ws = Cond.codeWith y cc maxL ret hh :: ws')
    (body : ∀ p e s m args below meth c s₁, BodyLoose p l y (headSpec ws rm) cc maxL ret e s m args below meth c s₁ → c.maxLocals = maxL → Pc args s →
      W p l e (headSpec ws rm).room s m args below meth c s.heap [] 0 0 (MQ below Qc args s mc ms free) (entryFrame m args maxL)) : Met l y ws rm Pc Qc mc ms free := by
  refine MetFree.of_bodyS (code := cc) (maxLocals := maxL) (ret := ret) hy ?_ ?_
  · intro args s m h hn
    obtain ⟨m9, meth, c, hn9, h1, h2, h3, h4, -, h5, h6, -⟩ := Cond.codeWith_spec (atoms_spec (ws := ws) h _ (by rw [hw]; exact List.mem_cons_self))
    cases hn.symm.trans hn9
    exact ⟨meth, c, h1, h2, h3, h4, h5, h6⟩
  · intro p e s m args below meth c s₁ B hml hP _
    have hh0 : s₁.heap = s.heap := by rw [B.state]; rfl
    obtain ⟨t, a1, o, b1, b2, b3⟩ := body p e s m args below meth c s₁ B hml hP s₁ hh0 (Stand.of_body B)
    exact ⟨t, o, a1, b1, b2, ⟨b3.1, b3.2⟩⟩
abbrev rm_L_act : Room := { frames := 7, cells := 1, slots := 6, locals := 170 }
set_option maxHeartbeats 4000000 in
set_option maxRecDepth 100000 in
theorem kL_act (l : Launch) (hst : l.stackTraces = false) (D : va_G) (k : Nat → ClassId) (M : mp_M) (s1 s2 s3 s4 : Nat) {d av ak at_ aw as_ an : Nat} {qt qs qn : Nat → Option Nat} {sa ra : Nat → Nat} {ec tc wc sc nc : Nat} {va : Nat → Int64} {kd wt tk tf tz sk sf sw sl nn : Nat → Nat} {nv : Nat → Nat → Int64} (hD : DkX k M d av ak at_ aw as_ an qt qs qn sa ra ec tc wc sc nc va kd wt tk tf tz sk sf sw sl nn nv) (hO : OkB ec tc wc sc nc tk tf tz sk sf sw sl nn) (o : Nat) (ov : Nat → Int64) (hoM : M o = some (.inl (k 1, 1, .inr (.inl (ov))))) (x act : Int32) (v w : Int64) (sz : Nat) : Met l yL_act (Cond.codeWith yL_act cL_act 9 (some .int) [(0, 13, 16, 13)] :: bw) rm_L_act (ac_Pc D (tys6 k) s1 s2 s3 s4 [.ref d, .int x, .int act, .long v, .long w, .ref o] M sz) (va_Qi (fun r M1 => (gact tc sc sk x.toInt act.toInt v w ∧ r = nI 0 ∧ M1 = mp_up (mp_up M av (.inl (k 1, 4000, .inr (.inl (acv va sk sf sw sl x.toInt act.toInt v w))))) o (.inl (k 1, 1, .inr (.inl (vp_updL ov 0 (acr va sk sf sw sl x.toInt act.toInt v w).1))))) ∨ (¬ gact tc sc sk x.toInt act.toInt v w ∧ r = nI 1 ∧ M1 = M)) (mp_B D cls5 (tys6 k) M sz) (mp_A M sz)) 1 6 (mp_A M sz) := by
  refine mt_ofWH (cc := cL_act) (maxL := 9) (ret := some .int) (hh := [(0, 13, 16, 13)]) (by decide) rfl ?_
  intro p e s m args below meth c s₁ B hml hv
  obtain ⟨rfl, hsz, hP, hK, hX, hU, hN⟩ := hv
  subst hsz
  have hx := B.exec
  have hb := B.bytes
  have hr := B.returns
  have hlocks := B.notSynchronized
  have hown : s.vm.findClass "PlaceDeskLaw" = some m.cls := findClass_of_methodNamed B.named
  have hts0 := atoms_spec (ws := (Cond.codeWith yL_act cL_act 9 (some .int) [(0, 13, 16, 13)] :: bw)) B.pre
  have hts : ∀ w ∈ bw, w.before _ s = true := fun w h => hts0 w (List.mem_cons_of_mem _ h)
  have htab := vx_table (x := yL_act) B (hts0 _ List.mem_cons_self)
  have I := mp_I.start hK hP
  have hl := lv_entry ([.ref d, .int x, .int act, .long v, .long w, .ref o]) (n := 9) (Nat.le_of_ble_eq_true rfl)
  rw [lg_entry_eq]
  generalize (lg_sl ([.ref d, .int x, .int act, .long v, .long w, .ref o]) ++ List.replicate (9 - (lg_sl ([.ref d, .int x, .int act, .long v, .long w, .ref o])).length) Slot.unset).toArray = ls at hl ⊢
  have hl : lv_has ls 9 [(0, .ref d), (1, .int x), (2, .int act), (3, .long v), (5, .long w), (7, .ref o)] := hl
  obtain ⟨h0, hav, hak, hat, haw, has, han, hth, hsp, hsn, hij⟩ := id hD
  refine lv_aload hx hb dL_act_0 (lv_at hl 5 rfl) ?_
  refine lv_iconst (v := nI 0) hx hb dL_act_2 (by decide) ?_
  refine lv_aload_n hx hb dL_act_3 rfl (lv_at hl 0 rfl) ?_
  refine lv_iload_n hx hb dL_act_4 rfl (lv_at hl 1 rfl) ?_
  refine lv_iload_n hx hb dL_act_5 rfl (lv_at hl 2 rfl) ?_
  refine lv_lload_n hx hb dL_act_6 rfl (lv_at hl 3 rfl) ?_
  refine lv_lload hx hb dL_act_7 (lv_at hl 4 rfl) ?_
  refine vx_calll (vx_runV (C := "PlaceDesk") (As := [.int x, .int act, .long v, .long w]) (rest := [.int (nI 0), .ref o]) ⟨hx, hb, hml, hown, hts⟩ (kD_act l hst D k M s1 s2 s3 s4 hD hO x act v w _) (cwV 4 hts (bw_V bw_220 bw_221 bw_222 bw_1 bw_223) rfl rfl rfl (by decide +kernel) ⟨Nat.le_of_ble_eq_true rfl, Nat.le_of_ble_eq_true rfl⟩) ⟨ac_blind, mp_recv I h0 (q := (RD, FD, 11)) rfl, fun U hU9 hW => ⟨rfl, by rw [hU9], by rw [hU9]; exact I.2.1.weaken (fun _ _ _ _ => trivial), mp_K.warm hW I.1, xK.warm hW hX, by rw [hU9]; exact vx_Zq.moved hW.alike hU, by rw [hU9]; exact vx_Zq.moved hW.alike hN⟩⟩ rfl rfl hl.1 rfl (lv_room (Nat.le_of_ble_eq_true rfl)) dL_act_9 ⟨Nat.le_of_ble_eq_true rfl, Nat.le_of_ble_eq_true rfl⟩) I.2.2.1 (fun q _ h => mp_sub I q h) (mp_sub I) (fun q _ h => mp_sub I q h) (fun E ce q9 u t H locs ht hvm hpx hB hz hk hS hcell hvn hcl => ?_) (fun r u t H locs ht hvm hp hB hz hk hS => ?_)
  · obtain ⟨hu, hng⟩ := hpx
    obtain ⟨rfl, hB⟩ := hB
    rw [hu] at hB
    have I1 : mp_I D cls5 (tys6 k) s (mp_A M s.heap.size) s.heap H locs M := ⟨I.1, by rw [← ht]; exact hB.weaken (fun q _ _ h => mp_sub I q h), hS, I.2.2.2⟩
    refine vx_catch (name := "java/lang/IllegalArgumentException") hown [] ⟨0, 13, 16, 13⟩ [] (by rw [htab]; rfl) (fun z h => absurd h List.not_mem_nil) (by decide) (by decide) (hts _ bw_219) (va_Nw.use rfl hX.1) hcell hvn hcl ?_
    refine lv_astore (lv' := [(8, .ref q9), (0, .ref d), (1, .int x), (2, .int act), (3, .long v), (5, .long w), (7, .ref o)]) hx hb dL_act_16 hl (by decide) rfl (fun ls hl => ?_)
    refine lv_iconst (v := nI 1) hx hb dL_act_18 (by decide) ?_
    exact mp_iret hx hb hr hlocks I1 (Nat.le_of_ble_eq_true rfl) (Nat.le_of_ble_eq_true rfl) dL_act_19 (Or.inr ⟨hng, rfl, rfl⟩)
  · obtain ⟨hg, rfl, e9⟩ := hp
    rw [e9] at hB
    have I1 : mp_I D cls5 (tys6 k) s (mp_A M s.heap.size) s.heap H locs (mp_up M av (.inl (k 1, 4000, .inr (.inl (acv va sk sf sw sl x.toInt act.toInt v w))))) := ⟨I.1, by rw [← ht]; exact hB.1.weaken (fun q _ _ h => mp_sub I q h), hS, I.2.2.2⟩
    have ho1 : mp_up M av (.inl (k 1, 4000, .inr (.inl (acv va sk sf sw sl x.toInt act.toInt v w)))) o = some (.inl (k 1, 1, .inr (.inl (ov)))) := (mp_up_n (mp_ne hoM hav (by simp))).trans hoM
    refine mp_last hx hb I1 1 ho1 rfl (x := (acr va sk sf sw sl x.toInt act.toInt v w).1) 0 rfl (by decide) (by decide) dL_act_12 (fun H locs I1 => ?_)
    refine lv_goto (tgt := 20) hx hb dL_act_13 (by decide) ?_
    refine lv_iconst (v := nI 0) hx hb dL_act_20 (by decide) ?_
    exact mp_iret hx hb hr hlocks I1 (Nat.le_of_ble_eq_true rfl) (Nat.le_of_ble_eq_true rfl) dL_act_21 (Or.inl ⟨hg, rfl, rfl⟩)
