/-- what the tables say of the exception, beside bw -/
def xK (s1 s2 s3 s4 : Nat) (U : State) : Prop := va_Nw (.castable "java/lang/IllegalArgumentException" "java/lang/IllegalArgumentException") U ∧ va_Nw (.declares ⟨"java/lang/RuntimeException", "<init>", "(Ljava/lang/String;)V"⟩) U ∧ va_Nw (.declares ⟨"java/lang/Exception", "<init>", "(Ljava/lang/String;)V"⟩) U ∧ va_Nw (.declares ⟨"java/lang/Throwable", "<init>", "(Ljava/lang/String;)V"⟩) U ∧ vk_R "PlaceDesk" 103 "no such place" s1 U ∧ vk_R "PlaceDesk" 111 "no such act, or not of this kind" s2 U ∧ vk_R "PlaceDesk" 117 "v is no value of this kind" s3 U ∧ vk_R "PlaceDesk" 119 "w is no value of this kind" s4 U
theorem xK.warm {s1 s2 s3 s4 : Nat} {s U : State} (hW : s.WarmedH U.vm) (h : xK s1 s2 s3 s4 s) : xK s1 s2 s3 s4 U :=
  ⟨va_Nw.warmC hW h.1, va_Nw.warmD hW h.2.1, va_Nw.warmD hW h.2.2.1, va_Nw.warmD hW h.2.2.2.1, vk_R.warm hW h.2.2.2.2.1, vk_R.warm hW h.2.2.2.2.2.1, vk_R.warm hW h.2.2.2.2.2.2.1, vk_R.warm hW h.2.2.2.2.2.2.2⟩
theorem xat_in : ∀ w ∈ (vx_atS "PlaceDesk" 105 "java/lang/IllegalArgumentException" ["java/lang/RuntimeException", "java/lang/Exception"]).filter goodWord, w ∈ bw := by decide +kernel
theorem xat_no : ∀ w ∈ (vx_atS "PlaceDesk" 105 "java/lang/IllegalArgumentException" ["java/lang/RuntimeException", "java/lang/Exception"]).filter (fun w => !goodWord w), w ∈ [Cond.castable "java/lang/IllegalArgumentException" "java/lang/IllegalArgumentException", .declares ⟨"java/lang/RuntimeException", "<init>", "(Ljava/lang/String;)V"⟩, .declares ⟨"java/lang/Exception", "<init>", "(Ljava/lang/String;)V"⟩, .declares ⟨"java/lang/Throwable", "<init>", "(Ljava/lang/String;)V"⟩] := by decide +kernel
theorem xat_ok : ∀ w ∈ Cond.classLink "PlaceDesk" 101 "java/lang/IllegalArgumentException" :: Cond.initialized "java/lang/IllegalArgumentException" :: vx_atS "PlaceDesk" 105 "java/lang/IllegalArgumentException" ["java/lang/RuntimeException", "java/lang/Exception"], vx_ot w = true := by decide +kernel
theorem xat {s1 s2 s3 s4 : Nat} {args : Array Value} {s : State} (hts : ∀ w ∈ bw, w.before args s = true) (h : xK s1 s2 s3 s4 s) : ∀ w ∈ vx_atS "PlaceDesk" 105 "java/lang/IllegalArgumentException" ["java/lang/RuntimeException", "java/lang/Exception"], w.before args s = true :=
  vx_hat (fun w hw => hts w (xat_in w hw)) xat_no (vx_c (va_Nw.use rfl h.1) (vx_c (va_Nw.use rfl h.2.1) (vx_c (va_Nw.use rfl h.2.2.1) (vx_c (va_Nw.use rfl h.2.2.2.1) vx_n))))
/-- the start of act -/
def ac_Pc (D : va_G) (tys : List (ClassId × FieldType)) (s1 s2 s3 s4 : Nat) (av : List Value) (M : mp_M) (sz : Nat) : Array Value → State → Prop :=
  va_Pc av (fun U => U.heap.size = sz ∧ mp_P D cls5 (fun _ => True) M U.heap ∧ mp_K D cls5 tys U ∧ xK s1 s2 s3 s4 U ∧ vx_Zq Bundle.tN "UNASSIGNED_STACK" Bundle.steD (mp_A M sz) U U.heap ∧ vx_Zq Bundle.tN "SUPPRESSED_SENTINEL" Bundle.listD (mp_A M sz) U U.heap)
theorem ac_blind {D : va_G} {tys : List (ClassId × FieldType)} {s1 s2 s3 s4 : Nat} {av : List Value} {M : mp_M} {sz : Nat} : FrameBlind (ac_Pc D tys s1 s2 s3 s4 av M sz) := fun a U g mk q => by
  obtain ⟨q0, q1, qP, qK, qX, q5, q6⟩ := q
  exact ⟨q0, q1, qP, mp_K.warm (s := U) (U := U.calling g mk a) (State.WarmedH.refl U) qK, xK.warm (s := U) (U := U.calling g mk a) (State.WarmedH.refl U) qX, vx_Zq.moved (u := U) (U := U.calling g mk a) (Vm.Alike.refl U.vm) q5, vx_Zq.moved (u := U) (U := U.calling g mk a) (Vm.Alike.refl U.vm) q6⟩
/-- a good act -/
def gact (tc sc : Nat) (sk : Nat → Nat) (x act : Int) (v w : Int64) : Prop := 0 ≤ x ∧ x < (sc : Int) ∧ aok act (sk x.toNat) ∧ (act ≠ 0 → isv tc (sk x.toNat) v) ∧ (act = 3 → isv tc (sk x.toNat) w)
def acr (va : Nat → Int64) (sk sf sw sl : Nat → Nat) (x act : Int) (v w : Int64) : Int64 × Option Int64 := pa act (sk x.toNat) (rdv va (sk x.toNat) (sf x.toNat) (sw x.toNat) (sl x.toNat)) v w
def acv (va : Nat → Int64) (sk sf sw sl : Nat → Nat) (x act : Int) (v w : Int64) : Nat → Int64 := wro va (sf x.toNat) (sw x.toNat) (sl x.toNat) (acr va sk sf sw sl x act v w).2
abbrev rm_D_act : Room := { frames := 6, cells := 1, slots := 6, locals := 130 }
set_option maxHeartbeats 4000000 in
set_option maxRecDepth 100000 in
theorem kD_act (l : Launch) (hst : l.stackTraces = false) (D : va_G) (k : Nat → ClassId) (M : mp_M) (s1 s2 s3 s4 : Nat) {d av ak at_ aw as_ an : Nat} {qt qs qn : Nat → Option Nat} {sa ra : Nat → Nat} {ec tc wc sc nc : Nat} {va : Nat → Int64} {kd wt tk tf tz sk sf sw sl nn : Nat → Nat} {nv : Nat → Nat → Int64} (hD : DkX k M d av ak at_ aw as_ an qt qs qn sa ra ec tc wc sc nc va kd wt tk tf tz sk sf sw sl nn nv) (hO : OkB ec tc wc sc nc tk tf tz sk sf sw sl nn) (x act : Int32) (v w : Int64) (sz : Nat) : vx_Met l yD_act (Cond.code yD_act cD_act 8 (some .long) :: bw) rm_D_act (ac_Pc D (tys6 k) s1 s2 s3 s4 [.ref d, .int x, .int act, .long v, .long w] M sz) (va_Ql (fun r M1 => gact tc sc sk x.toInt act.toInt v w ∧ r = (acr va sk sf sw sl x.toInt act.toInt v w).1 ∧ M1 = mp_up M av (.inl (k 1, 4000, .inr (.inl (acv va sk sf sw sl x.toInt act.toInt v w))))) (mp_B D cls5 (tys6 k) M sz) (mp_A M sz)) (vx_X (fun M1 : mp_M => M1 = M ∧ ¬ gact tc sc sk x.toInt act.toInt v w) (fun E M1 t => E = "java/lang/IllegalArgumentException" ∧ mp_P D cls5 (mp_A M sz) M1 t.heap) (mp_A M sz)) 1 6 (mp_A M sz) := by
  refine vx_ofW (cc := cD_act) (maxL := 8) (ret := some .long) (by decide) rfl ?_
  intro p e s m args below meth c s₁ B hml hnt hv
  obtain ⟨rfl, hsz, hP, hK, hX, hU, hN⟩ := hv
  subst hsz
  have hx := B.exec
  have hb := B.bytes
  have hr := B.returns
  have hlocks := B.notSynchronized
  have hown : s.vm.findClass "PlaceDesk" = some m.cls := findClass_of_methodNamed B.named
  have hts : ∀ w ∈ bw, w.before _ s = true := fun w h => atoms_spec (ws := Cond.code yD_act cD_act 8 (some .long) :: bw) B.pre w (List.mem_cons_of_mem _ h)
  have I := mp_I.start hK hP
  have hl := lv_entry ([.ref d, .int x, .int act, .long v, .long w]) (n := 8) (Nat.le_of_ble_eq_true rfl)
  rw [lg_entry_eq]
  generalize (lg_sl ([.ref d, .int x, .int act, .long v, .long w]) ++ List.replicate (8 - (lg_sl ([.ref d, .int x, .int act, .long v, .long w])).length) Slot.unset).toArray = ls at hl ⊢
  have hl : lv_has ls 8 [(0, .ref d), (1, .int x), (2, .int act), (3, .long v), (5, .long w)] := hl
  obtain ⟨h0, hav, hak, hat, haw, has, han, hth, hsp, hsn, hij⟩ := id hD
  obtain ⟨b1, b2, b3, b4, b5, bT, bS, bN⟩ := id hO
  refine lv_aload_n hx hb dD_act_0 rfl (lv_at hl 0 rfl) ?_
  refine lv_iload_n hx hb dD_act_1 rfl (lv_at hl 1 rfl) ?_
  refine mp_callq (va_runV (As := [.int x]) (rest := []) ⟨hx, hb, hml, hown, hts⟩ (kD_findSpot l D k M hD hO x _) (cwV 1 hts (bw_V bw_159 bw_161 bs_4 bw_1 bw_162) rfl rfl rfl (by decide +kernel) ⟨Nat.le_of_ble_eq_true rfl, Nat.le_of_ble_eq_true rfl⟩) (mp_preV I h0 rfl _) rfl rfl hl.1 rfl (lv_room (Nat.le_of_ble_eq_true rfl)) dD_act_2 ⟨Nat.le_of_ble_eq_true rfl, Nat.le_of_ble_eq_true rfl⟩) I (fun r_1 N1 H locs hp I => ?_)
  obtain ⟨e_2, hp⟩ := hp
  rw [e_2] at I
  rcases hp with ⟨i, a, hii, hzi, rfl, hMa⟩ | ⟨pni, rfl⟩
  · dsimp only [va_rf]
    have hTi := bS i hii
    have hxi : x.toInt.toNat = i := by omega
    refine lv_astore (lv' := [(7, .ref a), (0, .ref d), (1, .int x), (2, .int act), (3, .long v), (5, .long w)]) hx hb dD_act_5 hl (by decide) rfl (fun ls hl => ?_)
    refine lv_aload hx hb dD_act_7 (lv_at hl 0 rfl) ?_
    refine lv_ifnonnull (tgt := 22) hx hb dD_act_9 (by decide) ?_
    refine lv_iload_n hx hb dD_act_22 rfl (lv_at hl 3 rfl) ?_
    refine lv_aload hx hb dD_act_23 (lv_at hl 0 rfl) ?_
    refine mp_get (v := .int (nI (sk i))) hx hb hts inS hown I hMa rfl 0 (by decide) (hts _ bw_133) (fun _ h9 => h9) rfl dD_act_25 ?_
    refine mp_calli (va_runS (As := [.int act, .int (nI (sk i))]) (rest := []) ⟨hx, hb, hml, hown, hts⟩ (kD_isActOf l D k M act (sk i) (by omega) _) (cwS 2 hts (bw_S bw_290 bw_291 bw_1 bw_292) rfl rfl rfl (by decide +kernel) ⟨Nat.le_of_ble_eq_true rfl, Nat.le_of_ble_eq_true rfl⟩) (mp_preS I _) rfl rfl hl.1 rfl (lv_room (Nat.le_of_ble_eq_true rfl)) dD_act_28 ⟨Nat.le_of_ble_eq_true rfl, Nat.le_of_ble_eq_true rfl⟩) I (fun r_3 N_4 H locs hp I => ?_)
    obtain ⟨e_5, hp⟩ := hp
    rw [e_5] at I
    rcases hp with ⟨p3, rfl⟩ | ⟨p3, rfl⟩
    · refine zz_if_ne (tgt := 44) hx hb (nI_toInt (by decide)) dD_act_31 (by decide) (fun _ => ?_) (fun c_6 => absurd c_6 (by decide))
      refine lv_iload_n hx hb dD_act_44 rfl (lv_at hl 3 rfl) ?_
      refine zz_if_eq (tgt := 71) hx hb rfl dD_act_45 (by decide) (fun c_7 => ?_) (fun c_7 => ?_)
      · refine lv_iload_n hx hb dD_act_71 rfl (lv_at hl 3 rfl) ?_
        refine lv_iconst (v := nI 3) hx hb dD_act_72 (by decide) ?_
        refine zz_icmp_ne (tgt := 100) hx hb rfl (nI_toInt (by decide)) dD_act_73 (by decide) (fun c_8 => ?_) (fun c_8 => ?_)
        · refine lv_aload_n hx hb dD_act_100 rfl (lv_at hl 1 rfl) ?_
          refine lv_aload hx hb dD_act_101 (lv_at hl 0 rfl) ?_
          refine lv_iload_n hx hb dD_act_103 rfl (lv_at hl 3 rfl) ?_
          refine lv_lload_n hx hb dD_act_104 rfl (lv_at hl 4 rfl) ?_
          refine lv_lload hx hb dD_act_105 (lv_at hl 5 rfl) ?_
          refine mp_calll (va_runV (As := [.ref a, .int act, .long v, .long w]) (rest := []) ⟨hx, hb, hml, hown, hts⟩ (kD_perform l D k M hD hO a (sk i) (sf i) (sw i) (sl i) hMa (by omega) (by omega) (by omega) (by omega) (by omega) act v w _) (cwV 4 hts (bw_V bw_304 bw_306 bs_8 bw_1 bw_307) rfl rfl rfl (by decide +kernel) ⟨Nat.le_of_ble_eq_true rfl, Nat.le_of_ble_eq_true rfl⟩) (mp_preV I h0 rfl _) rfl rfl hl.1 rfl (lv_room (Nat.le_of_ble_eq_true rfl)) dD_act_107 ⟨Nat.le_of_ble_eq_true rfl, Nat.le_of_ble_eq_true rfl⟩) I (fun r1 N1 H locs hp I => ?_)
          obtain ⟨rfl, e9⟩ := hp
          refine vx_ret (mp_lret hx hb hr hlocks I (Nat.le_of_ble_eq_true rfl) (Nat.le_of_ble_eq_true rfl) dD_act_110 ⟨?_, by unfold acr; rw [hxi], by unfold acv acr; rw [hxi]; exact e9⟩)
          unfold gact
          rw [hxi]
          exact ⟨by omega, by omega, p3, fun h => by first | exact p4 | (exfalso; omega), fun h => by first | exact p5 | (exfalso; omega)⟩
        · refine lv_aload_n hx hb dD_act_76 rfl (lv_at hl 1 rfl) ?_
          refine lv_aload hx hb dD_act_77 (lv_at hl 0 rfl) ?_
          refine mp_get (v := .int (nI (sk i))) hx hb hts inS hown I hMa rfl 0 (by decide) (hts _ bw_133) (fun _ h9 => h9) rfl dD_act_79 ?_
          refine lv_lload hx hb dD_act_82 (lv_at hl 5 rfl) ?_
          refine mp_calli (va_runV (As := [.int (nI (sk i)), .long w]) (rest := []) ⟨hx, hb, hml, hown, hts⟩ (kD_isValue l D k M hD hO (sk i) w (by omega) _) (cwV 2 hts (bw_V bw_294 bw_296 bs_7 bw_1 bw_297) rfl rfl rfl (by decide +kernel) ⟨Nat.le_of_ble_eq_true rfl, Nat.le_of_ble_eq_true rfl⟩) (mp_preV I h0 rfl _) rfl rfl hl.1 rfl (lv_room (Nat.le_of_ble_eq_true rfl)) dD_act_84 ⟨Nat.le_of_ble_eq_true rfl, Nat.le_of_ble_eq_true rfl⟩) I (fun r_9 N_10 H locs hp I => ?_)
          obtain ⟨e_11, hp⟩ := hp
          rw [e_11] at I
          rcases hp with ⟨p5, rfl⟩ | ⟨p5, rfl⟩
          · refine zz_if_ne (tgt := 100) hx hb (nI_toInt (by decide)) dD_act_87 (by decide) (fun _ => ?_) (fun c_12 => absurd c_12 (by decide))
            refine lv_aload_n hx hb dD_act_100 rfl (lv_at hl 1 rfl) ?_
            refine lv_aload hx hb dD_act_101 (lv_at hl 0 rfl) ?_
            refine lv_iload_n hx hb dD_act_103 rfl (lv_at hl 3 rfl) ?_
            refine lv_lload_n hx hb dD_act_104 rfl (lv_at hl 4 rfl) ?_
            refine lv_lload hx hb dD_act_105 (lv_at hl 5 rfl) ?_
            refine mp_calll (va_runV (As := [.ref a, .int act, .long v, .long w]) (rest := []) ⟨hx, hb, hml, hown, hts⟩ (kD_perform l D k M hD hO a (sk i) (sf i) (sw i) (sl i) hMa (by omega) (by omega) (by omega) (by omega) (by omega) act v w _) (cwV 4 hts (bw_V bw_304 bw_306 bs_8 bw_1 bw_307) rfl rfl rfl (by decide +kernel) ⟨Nat.le_of_ble_eq_true rfl, Nat.le_of_ble_eq_true rfl⟩) (mp_preV I h0 rfl _) rfl rfl hl.1 rfl (lv_room (Nat.le_of_ble_eq_true rfl)) dD_act_107 ⟨Nat.le_of_ble_eq_true rfl, Nat.le_of_ble_eq_true rfl⟩) I (fun r1 N1 H locs hp I => ?_)
            obtain ⟨rfl, e9⟩ := hp
            refine vx_ret (mp_lret hx hb hr hlocks I (Nat.le_of_ble_eq_true rfl) (Nat.le_of_ble_eq_true rfl) dD_act_110 ⟨?_, by unfold acr; rw [hxi], by unfold acv acr; rw [hxi]; exact e9⟩)
            unfold gact
            rw [hxi]
            exact ⟨by omega, by omega, p3, fun h => by first | exact p4 | (exfalso; omega), fun h => by first | exact p5 | (exfalso; omega)⟩
          · refine zz_if_ne (tgt := 100) hx hb (nI_toInt (by decide)) dD_act_87 (by decide) (fun c_13 => absurd c_13 (by decide)) (fun _ => ?_)
            have hng : ¬ gact tc sc sk x.toInt act.toInt v w := by
              unfold gact; rw [hxi]; exact fun h => p5 (h.2.2.2.2 (by omega))
            exact vx_throwS hx hb hst hown (by decide) (by decide) (hts _ bw_224) (hts _ bw_9) hX.2.2.2.2.2.2.2 (xat hts hX) xat_ok hU hN I.2.2.1 (by rw [hml]; exact hl.1) dD_act_90 dD_act_93 dD_act_94 dD_act_96 dD_act_99 (fun x hx => (hnt x hx).elim) (Nat.le_of_ble_eq_true rfl) (Nat.le_of_ble_eq_true rfl) (Nat.le_of_ble_eq_true rfl) (Nat.le_of_ble_eq_true rfl) hlocks (fun t _ hz hq => ⟨M, ⟨rfl, hng⟩, ⟨rfl, I.2.1.kept (fun a e ha => hq a (I.lt ha))⟩, Nat.le_trans I.2.2.1.1 hz, fun q h1 h2 => (hq q (Nat.lt_of_lt_of_le h1 I.2.2.1.1)).trans (I.2.2.1.2.1 q h1 h2)⟩) I.2.2.1.2.2 (Nat.le_of_ble_eq_true rfl) (Nat.le_of_ble_eq_true rfl)
      · refine lv_aload_n hx hb dD_act_48 rfl (lv_at hl 1 rfl) ?_
        refine lv_aload hx hb dD_act_49 (lv_at hl 0 rfl) ?_
        refine mp_get (v := .int (nI (sk i))) hx hb hts inS hown I hMa rfl 0 (by decide) (hts _ bw_133) (fun _ h9 => h9) rfl dD_act_51 ?_
        refine lv_lload_n hx hb dD_act_54 rfl (lv_at hl 4 rfl) ?_
        refine mp_calli (va_runV (As := [.int (nI (sk i)), .long v]) (rest := []) ⟨hx, hb, hml, hown, hts⟩ (kD_isValue l D k M hD hO (sk i) v (by omega) _) (cwV 2 hts (bw_V bw_294 bw_296 bs_7 bw_1 bw_297) rfl rfl rfl (by decide +kernel) ⟨Nat.le_of_ble_eq_true rfl, Nat.le_of_ble_eq_true rfl⟩) (mp_preV I h0 rfl _) rfl rfl hl.1 rfl (lv_room (Nat.le_of_ble_eq_true rfl)) dD_act_55 ⟨Nat.le_of_ble_eq_true rfl, Nat.le_of_ble_eq_true rfl⟩) I (fun r_14 N_15 H locs hp I => ?_)
        obtain ⟨e_16, hp⟩ := hp
        rw [e_16] at I
        rcases hp with ⟨p4, rfl⟩ | ⟨p4, rfl⟩
        · refine zz_if_ne (tgt := 71) hx hb (nI_toInt (by decide)) dD_act_58 (by decide) (fun _ => ?_) (fun c_17 => absurd c_17 (by decide))
          refine lv_iload_n hx hb dD_act_71 rfl (lv_at hl 3 rfl) ?_
          refine lv_iconst (v := nI 3) hx hb dD_act_72 (by decide) ?_
          refine zz_icmp_ne (tgt := 100) hx hb rfl (nI_toInt (by decide)) dD_act_73 (by decide) (fun c_18 => ?_) (fun c_18 => ?_)
          · refine lv_aload_n hx hb dD_act_100 rfl (lv_at hl 1 rfl) ?_
            refine lv_aload hx hb dD_act_101 (lv_at hl 0 rfl) ?_
            refine lv_iload_n hx hb dD_act_103 rfl (lv_at hl 3 rfl) ?_
            refine lv_lload_n hx hb dD_act_104 rfl (lv_at hl 4 rfl) ?_
            refine lv_lload hx hb dD_act_105 (lv_at hl 5 rfl) ?_
            refine mp_calll (va_runV (As := [.ref a, .int act, .long v, .long w]) (rest := []) ⟨hx, hb, hml, hown, hts⟩ (kD_perform l D k M hD hO a (sk i) (sf i) (sw i) (sl i) hMa (by omega) (by omega) (by omega) (by omega) (by omega) act v w _) (cwV 4 hts (bw_V bw_304 bw_306 bs_8 bw_1 bw_307) rfl rfl rfl (by decide +kernel) ⟨Nat.le_of_ble_eq_true rfl, Nat.le_of_ble_eq_true rfl⟩) (mp_preV I h0 rfl _) rfl rfl hl.1 rfl (lv_room (Nat.le_of_ble_eq_true rfl)) dD_act_107 ⟨Nat.le_of_ble_eq_true rfl, Nat.le_of_ble_eq_true rfl⟩) I (fun r1 N1 H locs hp I => ?_)
            obtain ⟨rfl, e9⟩ := hp
            refine vx_ret (mp_lret hx hb hr hlocks I (Nat.le_of_ble_eq_true rfl) (Nat.le_of_ble_eq_true rfl) dD_act_110 ⟨?_, by unfold acr; rw [hxi], by unfold acv acr; rw [hxi]; exact e9⟩)
            unfold gact
            rw [hxi]
            exact ⟨by omega, by omega, p3, fun h => by first | exact p4 | (exfalso; omega), fun h => by first | exact p5 | (exfalso; omega)⟩
          · refine lv_aload_n hx hb dD_act_76 rfl (lv_at hl 1 rfl) ?_
            refine lv_aload hx hb dD_act_77 (lv_at hl 0 rfl) ?_
            refine mp_get (v := .int (nI (sk i))) hx hb hts inS hown I hMa rfl 0 (by decide) (hts _ bw_133) (fun _ h9 => h9) rfl dD_act_79 ?_
            refine lv_lload hx hb dD_act_82 (lv_at hl 5 rfl) ?_
            refine mp_calli (va_runV (As := [.int (nI (sk i)), .long w]) (rest := []) ⟨hx, hb, hml, hown, hts⟩ (kD_isValue l D k M hD hO (sk i) w (by omega) _) (cwV 2 hts (bw_V bw_294 bw_296 bs_7 bw_1 bw_297) rfl rfl rfl (by decide +kernel) ⟨Nat.le_of_ble_eq_true rfl, Nat.le_of_ble_eq_true rfl⟩) (mp_preV I h0 rfl _) rfl rfl hl.1 rfl (lv_room (Nat.le_of_ble_eq_true rfl)) dD_act_84 ⟨Nat.le_of_ble_eq_true rfl, Nat.le_of_ble_eq_true rfl⟩) I (fun r_19 N_20 H locs hp I => ?_)
            obtain ⟨e_21, hp⟩ := hp
            rw [e_21] at I
            rcases hp with ⟨p5, rfl⟩ | ⟨p5, rfl⟩
            · refine zz_if_ne (tgt := 100) hx hb (nI_toInt (by decide)) dD_act_87 (by decide) (fun _ => ?_) (fun c_22 => absurd c_22 (by decide))
              refine lv_aload_n hx hb dD_act_100 rfl (lv_at hl 1 rfl) ?_
              refine lv_aload hx hb dD_act_101 (lv_at hl 0 rfl) ?_
              refine lv_iload_n hx hb dD_act_103 rfl (lv_at hl 3 rfl) ?_
              refine lv_lload_n hx hb dD_act_104 rfl (lv_at hl 4 rfl) ?_
              refine lv_lload hx hb dD_act_105 (lv_at hl 5 rfl) ?_
              refine mp_calll (va_runV (As := [.ref a, .int act, .long v, .long w]) (rest := []) ⟨hx, hb, hml, hown, hts⟩ (kD_perform l D k M hD hO a (sk i) (sf i) (sw i) (sl i) hMa (by omega) (by omega) (by omega) (by omega) (by omega) act v w _) (cwV 4 hts (bw_V bw_304 bw_306 bs_8 bw_1 bw_307) rfl rfl rfl (by decide +kernel) ⟨Nat.le_of_ble_eq_true rfl, Nat.le_of_ble_eq_true rfl⟩) (mp_preV I h0 rfl _) rfl rfl hl.1 rfl (lv_room (Nat.le_of_ble_eq_true rfl)) dD_act_107 ⟨Nat.le_of_ble_eq_true rfl, Nat.le_of_ble_eq_true rfl⟩) I (fun r1 N1 H locs hp I => ?_)
              obtain ⟨rfl, e9⟩ := hp
              refine vx_ret (mp_lret hx hb hr hlocks I (Nat.le_of_ble_eq_true rfl) (Nat.le_of_ble_eq_true rfl) dD_act_110 ⟨?_, by unfold acr; rw [hxi], by unfold acv acr; rw [hxi]; exact e9⟩)
              unfold gact
              rw [hxi]
              exact ⟨by omega, by omega, p3, fun h => by first | exact p4 | (exfalso; omega), fun h => by first | exact p5 | (exfalso; omega)⟩
            · refine zz_if_ne (tgt := 100) hx hb (nI_toInt (by decide)) dD_act_87 (by decide) (fun c_23 => absurd c_23 (by decide)) (fun _ => ?_)
              have hng : ¬ gact tc sc sk x.toInt act.toInt v w := by
                unfold gact; rw [hxi]; exact fun h => p5 (h.2.2.2.2 (by omega))
              exact vx_throwS hx hb hst hown (by decide) (by decide) (hts _ bw_224) (hts _ bw_9) hX.2.2.2.2.2.2.2 (xat hts hX) xat_ok hU hN I.2.2.1 (by rw [hml]; exact hl.1) dD_act_90 dD_act_93 dD_act_94 dD_act_96 dD_act_99 (fun x hx => (hnt x hx).elim) (Nat.le_of_ble_eq_true rfl) (Nat.le_of_ble_eq_true rfl) (Nat.le_of_ble_eq_true rfl) (Nat.le_of_ble_eq_true rfl) hlocks (fun t _ hz hq => ⟨M, ⟨rfl, hng⟩, ⟨rfl, I.2.1.kept (fun a e ha => hq a (I.lt ha))⟩, Nat.le_trans I.2.2.1.1 hz, fun q h1 h2 => (hq q (Nat.lt_of_lt_of_le h1 I.2.2.1.1)).trans (I.2.2.1.2.1 q h1 h2)⟩) I.2.2.1.2.2 (Nat.le_of_ble_eq_true rfl) (Nat.le_of_ble_eq_true rfl)
        · refine zz_if_ne (tgt := 71) hx hb (nI_toInt (by decide)) dD_act_58 (by decide) (fun c_24 => absurd c_24 (by decide)) (fun _ => ?_)
          have hng : ¬ gact tc sc sk x.toInt act.toInt v w := by
            unfold gact; rw [hxi]; exact fun h => p4 (h.2.2.2.1 (by omega))
          exact vx_throwS hx hb hst hown (by decide) (by decide) (hts _ bw_224) (hts _ bw_9) hX.2.2.2.2.2.2.1 (xat hts hX) xat_ok hU hN I.2.2.1 (by rw [hml]; exact hl.1) dD_act_61 dD_act_64 dD_act_65 dD_act_67 dD_act_70 (fun x hx => (hnt x hx).elim) (Nat.le_of_ble_eq_true rfl) (Nat.le_of_ble_eq_true rfl) (Nat.le_of_ble_eq_true rfl) (Nat.le_of_ble_eq_true rfl) hlocks (fun t _ hz hq => ⟨M, ⟨rfl, hng⟩, ⟨rfl, I.2.1.kept (fun a e ha => hq a (I.lt ha))⟩, Nat.le_trans I.2.2.1.1 hz, fun q h1 h2 => (hq q (Nat.lt_of_lt_of_le h1 I.2.2.1.1)).trans (I.2.2.1.2.1 q h1 h2)⟩) I.2.2.1.2.2 (Nat.le_of_ble_eq_true rfl) (Nat.le_of_ble_eq_true rfl)
    · refine zz_if_ne (tgt := 44) hx hb (nI_toInt (by decide)) dD_act_31 (by decide) (fun c_25 => absurd c_25 (by decide)) (fun _ => ?_)
      have hng : ¬ gact tc sc sk x.toInt act.toInt v w := by
        unfold gact; rw [hxi]; exact fun h => p3 h.2.2.1
      exact vx_throwS hx hb hst hown (by decide) (by decide) (hts _ bw_224) (hts _ bw_9) hX.2.2.2.2.2.1 (xat hts hX) xat_ok hU hN I.2.2.1 (by rw [hml]; exact hl.1) dD_act_34 dD_act_37 dD_act_38 dD_act_40 dD_act_43 (fun x hx => (hnt x hx).elim) (Nat.le_of_ble_eq_true rfl) (Nat.le_of_ble_eq_true rfl) (Nat.le_of_ble_eq_true rfl) (Nat.le_of_ble_eq_true rfl) hlocks (fun t _ hz hq => ⟨M, ⟨rfl, hng⟩, ⟨rfl, I.2.1.kept (fun a e ha => hq a (I.lt ha))⟩, Nat.le_trans I.2.2.1.1 hz, fun q h1 h2 => (hq q (Nat.lt_of_lt_of_le h1 I.2.2.1.1)).trans (I.2.2.1.2.1 q h1 h2)⟩) I.2.2.1.2.2 (Nat.le_of_ble_eq_true rfl) (Nat.le_of_ble_eq_true rfl)
  · dsimp only [va_rf]
    refine lv_astoreN (lv' := [(7, .null), (0, .ref d), (1, .int x), (2, .int act), (3, .long v), (5, .long w)]) hx hb dD_act_5 hl (by decide) rfl (fun ls hl => ?_)
    refine lv_aloadN hx hb dD_act_7 (lv_at hl 0 rfl) ?_
    refine lv_ifnonnullN hx hb dD_act_9 ?_
    have hng : ¬ gact tc sc sk x.toInt act.toInt v w := by
      unfold gact; omega
    exact vx_throwS hx hb hst hown (by decide) (by decide) (hts _ bw_224) (hts _ bw_9) hX.2.2.2.2.1 (xat hts hX) xat_ok hU hN I.2.2.1 (by rw [hml]; exact hl.1) dD_act_12 dD_act_15 dD_act_16 dD_act_18 dD_act_21 (fun x hx => (hnt x hx).elim) (Nat.le_of_ble_eq_true rfl) (Nat.le_of_ble_eq_true rfl) (Nat.le_of_ble_eq_true rfl) (Nat.le_of_ble_eq_true rfl) hlocks (fun t _ hz hq => ⟨M, ⟨rfl, hng⟩, ⟨rfl, I.2.1.kept (fun a e ha => hq a (I.lt ha))⟩, Nat.le_trans I.2.2.1.1 hz, fun q h1 h2 => (hq q (Nat.lt_of_lt_of_le h1 I.2.2.1.1)).trans (I.2.2.1.2.1 q h1 h2)⟩) I.2.2.1.2.2 (Nat.le_of_ble_eq_true rfl) (Nat.le_of_ble_eq_true rfl)
