abbrev rm_D_instance : Room := { frames := 3, cells := 1, slots := 3, locals := 90 }
set_option maxHeartbeats 4000000 in
set_option maxRecDepth 100000 in
theorem kD_instance (l : Launch) (D : va_G) (k : Nat → ClassId) (M : mp_M) {d av ak at_ aw as_ an : Nat} {qt qs qn : Nat → Option Nat} {sa ra : Nat → Nat} {ec tc wc sc nc : Nat} {va : Nat → Int64} {kd wt tk tf tz sk sf sw sl nn : Nat → Nat} {nv : Nat → Nat → Int64} (hD : DkX k M d av ak at_ aw as_ an qt qs qn sa ra ec tc wc sc nc va kd wt tk tf tz sk sf sw sl nn nv) (hO : OkB ec tc wc sc nc tk tf tz sk sf sw sl nn) (hkd : ∀ i, i < ec → kd i ≤ 7) (hwt : ∀ i, i < wc → wt i ≤ 7) : mp_Met l yD_instance (Cond.code yD_instance cD_instance 2 (some .int) :: bw) rm_D_instance D cls5 (tys6 k) [.ref d] M (va_Qi (fun r M1 => ((tc < 300 ∧ wc ≠ 0 ∧ wc + ec ≤ 4000) ∧ r = nI tc ∧ ∃ q : Nat, DkX k M1 d av ak at_ aw as_ an (va_up qt tc (some q)) qs qn sa ra (ec + wc) (tc + 1) (0) sc nc (vin va (va_cpy wt kd 0 ec wc) ec (ec + wc)) (va_cpy wt kd 0 ec wc) wt (nu tk tc 0) (nu tf tc ec) (nu tz tc wc) sk sf sw sl nn nv) ∨ (¬ (tc < 300 ∧ wc ≠ 0 ∧ wc + ec ≤ 4000) ∧ r = -1 ∧ DkX k M1 d av ak at_ aw as_ an qt qs qn sa ra ec tc (0) sc nc va kd wt tk tf tz sk sf sw sl nn nv))) 1 3 := by
  refine mp_Met.of (by decide) (Nat.le_of_ble_eq_true rfl) ?_
  intro p e s m below meth c hx hb hr hml hown hts hlocks hin ls hl I
  have hl : lv_has ls 2 [(0, .ref d)] := hl
  obtain ⟨h0, hav, hak, hat, haw, has, han, hth, hsp, hsn, hij⟩ := id hD
  obtain ⟨b1, b2, b3, b4, b5, bT, bS, bN⟩ := id hO
  refine lv_aload_n hx hb dD_instance_0 rfl (lv_at hl 0 rfl) ?_
  refine mp_get (v := .int (nI wc)) hx hb hts inD hown I h0 rfl 6 (by decide) (hts _ bw_32) (fun _ h9 => h9) rfl dD_instance_1 ?_
  refine lv_istore_n (lv' := [(1, .int (nI wc)), (0, .ref d)]) hx hb dD_instance_4 rfl hl (by decide) rfl (fun ls hl => ?_)
  refine lv_aload_n hx hb dD_instance_5 rfl (lv_at hl 1 rfl) ?_
  refine lv_iconst (v := nI 0) hx hb dD_instance_6 (by decide) ?_
  refine mp_put (v := .int (nI 0)) (ty := .int) hx hb hts inD tyD okD nmD hown I h0 rfl 6 (by decide) (hts _ bw_32) (fun _ h9 => h9) rfl (by decide +kernel) rfl rfl (Nat.le_of_ble_eq_true rfl) dD_instance_7 (fun H locs I => ?_)
  have I : mp_I D cls5 (tys6 k) s _ s.heap H locs (mp_up M d (.inr (0, [.ref av, .ref ak, .int (nI ec), .ref at_, .int (nI tc), .ref aw, .int (nI 0), .ref as_, .int (nI sc), .ref an, .int (nI nc)]))) := I
  have h0_n : mp_up M d (.inr (0, [.ref av, .ref ak, .int (nI ec), .ref at_, .int (nI tc), .ref aw, .int (nI 0), .ref as_, .int (nI sc), .ref an, .int (nI nc)])) d = some (.inr (0, [.ref av, .ref ak, .int (nI ec), .ref at_, .int (nI tc), .ref aw, .int (nI 0), .ref as_, .int (nI sc), .ref an, .int (nI nc)])) := mp_up_s _ _ _
  have hav_n : mp_up M d (.inr (0, [.ref av, .ref ak, .int (nI ec), .ref at_, .int (nI tc), .ref aw, .int (nI 0), .ref as_, .int (nI sc), .ref an, .int (nI nc)])) av = some (.inl (k 1, 4000, .inr (.inl va))) := (mp_up_n (mp_ne hav h0 (by simp))).trans hav
  have hak_n : mp_up M d (.inr (0, [.ref av, .ref ak, .int (nI ec), .ref at_, .int (nI tc), .ref aw, .int (nI 0), .ref as_, .int (nI sc), .ref an, .int (nI nc)])) ak = some (.inl (k 0, 4000, .inl (fun i_ => nI (kd i_)))) := (mp_up_n (mp_ne hak h0 (by simp))).trans hak
  have hat_n : mp_up M d (.inr (0, [.ref av, .ref ak, .int (nI ec), .ref at_, .int (nI tc), .ref aw, .int (nI 0), .ref as_, .int (nI sc), .ref an, .int (nI nc)])) at_ = some (.inl (k 2, 300, .inr (.inr (.inr (.inr qt))))) := (mp_up_n (mp_ne hat h0 (by simp))).trans hat
  have haw_n : mp_up M d (.inr (0, [.ref av, .ref ak, .int (nI ec), .ref at_, .int (nI tc), .ref aw, .int (nI 0), .ref as_, .int (nI sc), .ref an, .int (nI nc)])) aw = some (.inl (k 0, 12, .inl (fun i_ => nI (wt i_)))) := (mp_up_n (mp_ne haw h0 (by simp))).trans haw
  have has_n : mp_up M d (.inr (0, [.ref av, .ref ak, .int (nI ec), .ref at_, .int (nI tc), .ref aw, .int (nI 0), .ref as_, .int (nI sc), .ref an, .int (nI nc)])) as_ = some (.inl (k 3, 100, .inr (.inr (.inr (.inr qs))))) := (mp_up_n (mp_ne has h0 (by simp))).trans has
  have han_n : mp_up M d (.inr (0, [.ref av, .ref ak, .int (nI ec), .ref at_, .int (nI tc), .ref aw, .int (nI 0), .ref as_, .int (nI sc), .ref an, .int (nI nc)])) an = some (.inl (k 4, 20, .inr (.inr (.inr (.inr qn))))) := (mp_up_n (mp_ne han h0 (by simp))).trans han
  generalize eM_2 : mp_up M d (.inr (0, [.ref av, .ref ak, .int (nI ec), .ref at_, .int (nI tc), .ref aw, .int (nI 0), .ref as_, .int (nI sc), .ref an, .int (nI nc)])) = M_1 at I h0_n hav_n hak_n hat_n haw_n has_n han_n
  have h0__M_1 := h0_n
  have hav__M_1 := hav_n
  have hak__M_1 := hak_n
  have hat__M_1 := hat_n
  have haw__M_1 := haw_n
  have has__M_1 := has_n
  have han__M_1 := han_n
  clear h0_n hav_n hak_n hat_n haw_n has_n han_n
  have hD := hD.cntW 0
  rw [eM_2] at hD
  have hzw : (nI wc).toInt = wc := nI_toInt (by omega)
  have hO2 : OkB ec tc 0 sc nc tk tf tz sk sf sw sl nn := ⟨b1, b2, by omega, b4, b5, bT, bS, bN⟩
  refine lv_iload_n hx hb dD_instance_10 rfl (lv_at hl 0 rfl) ?_
  refine zz_if_eq (tgt := 22) hx hb (nI_toInt (by first | assumption | omega)) dD_instance_11 (by decide) (fun c_3 => ?_) (fun c_3 => ?_)
  · refine lv_iconst (v := (-1)) hx hb dD_instance_22 (by decide) ?_
    exact mp_iret hx hb hr hlocks I (Nat.le_of_ble_eq_true rfl) (Nat.le_of_ble_eq_true rfl) dD_instance_23 (Or.inr ⟨by omega, rfl, hD⟩)
  · refine lv_aload_n hx hb dD_instance_14 rfl (lv_at hl 1 rfl) ?_
    refine lv_iload_n hx hb dD_instance_15 rfl (lv_at hl 0 rfl) ?_
    refine mp_calli (va_runV (As := [.int (nI wc)]) (rest := []) ⟨hx, hb, hml, hown, hts⟩ (kD_hasRoomFor l D k M_1 hD hO2 (nI wc) _) (cwV 1 hts (bw_V bw_69 bw_71 bs_0 bw_1 bw_72) rfl rfl rfl (by decide +kernel) ⟨Nat.le_of_ble_eq_true rfl, Nat.le_of_ble_eq_true rfl⟩) (mp_preV I h0__M_1 rfl _) rfl rfl hl.1 rfl (lv_room (Nat.le_of_ble_eq_true rfl)) dD_instance_16 ⟨Nat.le_of_ble_eq_true rfl, Nat.le_of_ble_eq_true rfl⟩) I (fun r_4 N_5 H locs hp I => ?_)
    obtain ⟨e_6, hp⟩ := hp
    rw [e_6] at I
    rcases hp with ⟨p3, rfl⟩ | ⟨p3, rfl⟩
    · refine zz_if_ne (tgt := 24) hx hb (nI_toInt (by decide)) dD_instance_19 (by decide) (fun _ => ?_) (fun c_7 => absurd c_7 (by decide))
      refine lv_aload_n hx hb dD_instance_24 rfl (lv_at hl 1 rfl) ?_
      refine mp_get (v := .ref aw) hx hb hts inD hown I h0__M_1 rfl 5 (by decide) (hts _ bw_31) (fun _ h9 => h9) rfl dD_instance_25 ?_
      refine lv_iconst (v := nI 0) hx hb dD_instance_28 (by decide) ?_
      refine lv_aload_n hx hb dD_instance_29 rfl (lv_at hl 1 rfl) ?_
      refine mp_get (v := .ref ak) hx hb hts inD hown I h0__M_1 rfl 1 (by decide) (hts _ bw_27) (fun _ h9 => h9) rfl dD_instance_30 ?_
      refine lv_aload_n hx hb dD_instance_33 rfl (lv_at hl 1 rfl) ?_
      refine mp_get (v := .int (nI ec)) hx hb hts inD hown I h0__M_1 rfl 2 (by decide) (hts _ bw_28) (fun _ h9 => h9) rfl dD_instance_34 ?_
      refine lv_iload_n hx hb dD_instance_37 rfl (lv_at hl 0 rfl) ?_
      refine mp_copyi hx hb (by rw [hml]; exact hl.1.symm) hown (hts _ bw_104) (hts _ bw_106) (hts _ bw_105) (hts _ bw_4) I 0 haw__M_1 hak__M_1 rfl 0 ec wc rfl rfl rfl (by omega) (by omega) (by decide) (by decide) (Nat.le_of_ble_eq_true rfl) (Nat.le_of_ble_eq_true rfl) dD_instance_38 (fun H locs I => ?_)
      rw [cpy_nI] at I
      have I : mp_I D cls5 (tys6 k) s _ s.heap H locs (mp_up M_1 ak (.inl (k 0, 4000, .inl (fun i_ => nI ((va_cpy wt kd 0 ec wc) i_))))) := I
      have hak__M_1_n : mp_up M_1 ak (.inl (k 0, 4000, .inl (fun i_ => nI ((va_cpy wt kd 0 ec wc) i_)))) ak = some (.inl (k 0, 4000, .inl (fun i_ => nI ((va_cpy wt kd 0 ec wc) i_)))) := mp_up_s _ _ _
      have h0__M_1_n : mp_up M_1 ak (.inl (k 0, 4000, .inl (fun i_ => nI ((va_cpy wt kd 0 ec wc) i_)))) d = some (.inr (0, [.ref av, .ref ak, .int (nI ec), .ref at_, .int (nI tc), .ref aw, .int (nI 0), .ref as_, .int (nI sc), .ref an, .int (nI nc)])) := (mp_up_n (mp_ne h0__M_1 hak__M_1 (by simp))).trans h0__M_1
      have hav__M_1_n : mp_up M_1 ak (.inl (k 0, 4000, .inl (fun i_ => nI ((va_cpy wt kd 0 ec wc) i_)))) av = some (.inl (k 1, 4000, .inr (.inl va))) := (mp_up_n (mp_ne hav__M_1 hak__M_1 (by simp))).trans hav__M_1
      have hat__M_1_n : mp_up M_1 ak (.inl (k 0, 4000, .inl (fun i_ => nI ((va_cpy wt kd 0 ec wc) i_)))) at_ = some (.inl (k 2, 300, .inr (.inr (.inr (.inr qt))))) := (mp_up_n (mp_ne hat__M_1 hak__M_1 (by simp))).trans hat__M_1
      have haw__M_1_n : mp_up M_1 ak (.inl (k 0, 4000, .inl (fun i_ => nI ((va_cpy wt kd 0 ec wc) i_)))) aw = some (.inl (k 0, 12, .inl (fun i_ => nI (wt i_)))) := (mp_up_n (mp_ne haw__M_1 hak__M_1 (by simp))).trans haw__M_1
      have has__M_1_n : mp_up M_1 ak (.inl (k 0, 4000, .inl (fun i_ => nI ((va_cpy wt kd 0 ec wc) i_)))) as_ = some (.inl (k 3, 100, .inr (.inr (.inr (.inr qs))))) := (mp_up_n (mp_ne has__M_1 hak__M_1 (by simp))).trans has__M_1
      have han__M_1_n : mp_up M_1 ak (.inl (k 0, 4000, .inl (fun i_ => nI ((va_cpy wt kd 0 ec wc) i_)))) an = some (.inl (k 4, 20, .inr (.inr (.inr (.inr qn))))) := (mp_up_n (mp_ne han__M_1 hak__M_1 (by simp))).trans han__M_1
      generalize eM_9 : mp_up M_1 ak (.inl (k 0, 4000, .inl (fun i_ => nI ((va_cpy wt kd 0 ec wc) i_)))) = M_8 at I h0__M_1_n hav__M_1_n hak__M_1_n hat__M_1_n haw__M_1_n has__M_1_n han__M_1_n
      have h0__M_8 := h0__M_1_n
      have hav__M_8 := hav__M_1_n
      have hak__M_8 := hak__M_1_n
      have hat__M_8 := hat__M_1_n
      have haw__M_8 := haw__M_1_n
      have has__M_8 := has__M_1_n
      have han__M_8 := han__M_1_n
      clear h0__M_1_n hav__M_1_n hak__M_1_n hat__M_1_n haw__M_1_n has__M_1_n han__M_1_n
      have hD := hD.setK (va_cpy wt kd 0 ec wc)
      rw [eM_9] at hD
      refine lv_aload_n hx hb dD_instance_41 rfl (lv_at hl 1 rfl) ?_
      refine lv_iconst (v := nI 0) hx hb dD_instance_42 (by decide) ?_
      refine lv_iload_n hx hb dD_instance_43 rfl (lv_at hl 0 rfl) ?_
      refine mp_calli (va_runV (As := [.int (nI 0), .int (nI wc)]) (rest := []) ⟨hx, hb, hml, hown, hts⟩ (kD_addThing l D k M_8 hD hO2 0 wc (by omega) (by omega) (by omega) (fun j hj => by unfold va_cpy; split; exact hwt _ (by omega); exact hkd j (by omega)) _) (cwV 2 hts (bw_V bw_73 bw_75 bs_1 bw_1 bw_76) rfl rfl rfl (by decide +kernel) ⟨Nat.le_of_ble_eq_true rfl, Nat.le_of_ble_eq_true rfl⟩) (mp_preV I h0__M_8 rfl _) rfl rfl hl.1 rfl (lv_room (Nat.le_of_ble_eq_true rfl)) dD_instance_44 ⟨Nat.le_of_ble_eq_true rfl, Nat.le_of_ble_eq_true rfl⟩) I (fun r1 N1 H locs hp I => ?_)
      obtain ⟨rfl, q, hD⟩ := hp
      exact mp_iret hx hb hr hlocks I (Nat.le_of_ble_eq_true rfl) (Nat.le_of_ble_eq_true rfl) dD_instance_47 (Or.inl ⟨by omega, rfl, q, hD⟩)
    · refine zz_if_ne (tgt := 24) hx hb (nI_toInt (by decide)) dD_instance_19 (by decide) (fun c_10 => absurd c_10 (by decide)) (fun _ => ?_)
      refine lv_iconst (v := (-1)) hx hb dD_instance_22 (by decide) ?_
      exact mp_iret hx hb hr hlocks I (Nat.le_of_ble_eq_true rfl) (Nat.le_of_ble_eq_true rfl) dD_instance_23 (Or.inr ⟨by omega, rfl, hD⟩)
abbrev rm_D_addSpot : Room := { frames := 2, cells := 1, slots := 4, locals := 60 }
set_option maxHeartbeats 4000000 in
set_option maxRecDepth 100000 in
theorem kD_addSpot (l : Launch) (D : va_G) (k : Nat → ClassId) (M : mp_M) {d av ak at_ aw as_ an : Nat} {qt qs qn : Nat → Option Nat} {sa ra : Nat → Nat} {ec tc wc sc nc : Nat} {va : Nat → Int64} {kd wt tk tf tz sk sf sw sl nn : Nat → Nat} {nv : Nat → Nat → Int64} (hD : DkX k M d av ak at_ aw as_ an qt qs qn sa ra ec tc wc sc nc va kd wt tk tf tz sk sf sw sl nn nv) (hO : OkB ec tc wc sc nc tk tf tz sk sf sw sl nn) (x f wd b : Nat) (hbb : b ≤ 1) : mp_Met l yD_addSpot (Cond.code yD_addSpot cD_addSpot 5 (some .int) :: bw) rm_D_addSpot D cls5 (tys6 k) [.ref d, .int (nI x), .int (nI f), .int (nI wd), .int (nI b)] M (va_Qi (fun r M1 => (sc < 100 ∧ r = nI sc ∧ ∃ q : Nat, DkX k M1 d av ak at_ aw as_ an qt (va_up qs sc (some q)) qn sa ra ec tc wc (sc + 1) nc va kd wt tk tf tz (nu sk sc x) (nu sf sc f) (nu sw sc wd) (nu sl sc b) nn nv) ∨ (¬ sc < 100 ∧ r = -1 ∧ M1 = M))) 1 4 := by
  refine mp_Met.of (by decide) (Nat.le_of_ble_eq_true rfl) ?_
  intro p e s m below meth c hx hb hr hml hown hts hlocks hin ls hl I
  have hl : lv_has ls 5 [(0, .ref d), (1, .int (nI x)), (2, .int (nI f)), (3, .int (nI wd)), (4, .int (nI b))] := hl
  obtain ⟨h0, hav, hak, hat, haw, has, han, hth, hsp, hsn, hij⟩ := id hD
  obtain ⟨b1, b2, b3, b4, b5, bT, bS, bN⟩ := id hO
  refine lv_aload_n hx hb dD_addSpot_0 rfl (lv_at hl 0 rfl) ?_
  refine mp_get (v := .int (nI sc)) hx hb hts inD hown I h0 rfl 8 (by decide) (hts _ bw_34) (fun _ h9 => h9) rfl dD_addSpot_1 ?_
  refine lv_bipush (v := nI 100) hx hb dD_addSpot_4 (by decide) ?_
  refine zz_icmp_lt (tgt := 11) hx hb (nI_toInt (by first | assumption | omega)) (nI_toInt (by decide)) dD_addSpot_6 (by decide) (fun c_1 => ?_) (fun c_1 => ?_)
  · refine lv_aload_n hx hb dD_addSpot_11 rfl (lv_at hl 0 rfl) ?_
    refine mp_get (v := .ref as_) hx hb hts inD hown I h0 rfl 7 (by decide) (hts _ bw_33) (fun _ h9 => h9) rfl dD_addSpot_12 ?_
    refine lv_aload_n hx hb dD_addSpot_15 rfl (lv_at hl 0 rfl) ?_
    refine mp_get (v := .int (nI sc)) hx hb hts inD hown I h0 rfl 8 (by decide) (hts _ bw_34) (fun _ h9 => h9) rfl dD_addSpot_16 ?_
    refine mp_new (fs := [.int 0, .int 0, .int 0, .int 0]) hx hb hts inS tyS okS hown (hts _ bw_22) (hts _ bw_127) (hts _ bw_5) I (ci := 2) rfl (fun j hj => by rcases (show j = 0 ∨ j = 1 ∨ j = 2 ∨ j = 3 by omega) with rfl | rfl | rfl | rfl <;> rfl) (Nat.le_of_ble_eq_true rfl) (Nat.le_of_ble_eq_true rfl) dD_addSpot_19 (fun q H hq_2 I => ?_)
    have hqq_n : mp_up M q (.inr (2, [.int 0, .int 0, .int 0, .int 0])) q = some (.inr (2, [.int 0, .int 0, .int 0, .int 0])) := mp_up_s _ _ _
    have h0_n : mp_up M q (.inr (2, [.int 0, .int 0, .int 0, .int 0])) d = some (.inr (0, [.ref av, .ref ak, .int (nI ec), .ref at_, .int (nI tc), .ref aw, .int (nI wc), .ref as_, .int (nI sc), .ref an, .int (nI nc)])) := (mp_up_n (fun z => by rw [z, hq_2] at h0; cases h0)).trans h0
    have hav_n : mp_up M q (.inr (2, [.int 0, .int 0, .int 0, .int 0])) av = some (.inl (k 1, 4000, .inr (.inl va))) := (mp_up_n (fun z => by rw [z, hq_2] at hav; cases hav)).trans hav
    have hak_n : mp_up M q (.inr (2, [.int 0, .int 0, .int 0, .int 0])) ak = some (.inl (k 0, 4000, .inl (fun i_ => nI (kd i_)))) := (mp_up_n (fun z => by rw [z, hq_2] at hak; cases hak)).trans hak
    have hat_n : mp_up M q (.inr (2, [.int 0, .int 0, .int 0, .int 0])) at_ = some (.inl (k 2, 300, .inr (.inr (.inr (.inr qt))))) := (mp_up_n (fun z => by rw [z, hq_2] at hat; cases hat)).trans hat
    have haw_n : mp_up M q (.inr (2, [.int 0, .int 0, .int 0, .int 0])) aw = some (.inl (k 0, 12, .inl (fun i_ => nI (wt i_)))) := (mp_up_n (fun z => by rw [z, hq_2] at haw; cases haw)).trans haw
    have has_n : mp_up M q (.inr (2, [.int 0, .int 0, .int 0, .int 0])) as_ = some (.inl (k 3, 100, .inr (.inr (.inr (.inr qs))))) := (mp_up_n (fun z => by rw [z, hq_2] at has; cases has)).trans has
    have han_n : mp_up M q (.inr (2, [.int 0, .int 0, .int 0, .int 0])) an = some (.inl (k 4, 20, .inr (.inr (.inr (.inr qn))))) := (mp_up_n (fun z => by rw [z, hq_2] at han; cases han)).trans han
    generalize eM_4 : mp_up M q (.inr (2, [.int 0, .int 0, .int 0, .int 0])) = M_3 at I hqq_n h0_n hav_n hak_n hat_n haw_n has_n han_n
    have h0__M_3 := h0_n
    have hav__M_3 := hav_n
    have hak__M_3 := hak_n
    have hat__M_3 := hat_n
    have haw__M_3 := haw_n
    have has__M_3 := has_n
    have han__M_3 := han_n
    have hqq__M_3 := hqq_n
    clear hqq_n h0_n hav_n hak_n hat_n haw_n has_n han_n
    refine lv_dup hx hb dD_addSpot_22 rfl ?_
    refine lv_iload_n hx hb dD_addSpot_23 rfl (lv_at hl 1 rfl) ?_
    refine lv_iload_n hx hb dD_addSpot_24 rfl (lv_at hl 2 rfl) ?_
    refine lv_iload_n hx hb dD_addSpot_25 rfl (lv_at hl 3 rfl) ?_
    refine lv_iload hx hb dD_addSpot_26 (lv_at hl 4 rfl) ?_
    refine mp_callv (va_runI (As := [.int (nI x), .int (nI f), .int (nI wd), .int (nI b)]) (rest := [.ref q, .int (nI sc), .ref as_]) ⟨hx, hb, hml, hown, hts⟩ (kS_init l D k M_3 q (nI x) (nI f) (nI wd) b hbb hqq__M_3 _) (cwI 4 hts (bw_I bw_130) rfl rfl rfl (hts _ bw_5) (hts _ bw_128) (hts _ bw_129) rfl (by decide +kernel) ⟨Nat.le_of_ble_eq_true rfl, Nat.le_of_ble_eq_true rfl⟩) (mp_preS I _) rfl rfl hl.1 rfl (lv_room (Nat.le_of_ble_eq_true rfl)) dD_addSpot_28 ⟨Nat.le_of_ble_eq_true rfl, Nat.le_of_ble_eq_true rfl⟩) I (fun N1 H locs hp I => ?_)
    rw [hp] at I
    have I : mp_I D cls5 (tys6 k) s _ s.heap H locs (mp_up M_3 q (.inr (2, [.int (nI x), .int (nI f), .int (nI wd), .int (nI b)]))) := I
    have hqq__M_3_n : mp_up M_3 q (.inr (2, [.int (nI x), .int (nI f), .int (nI wd), .int (nI b)])) q = some (.inr (2, [.int (nI x), .int (nI f), .int (nI wd), .int (nI b)])) := mp_up_s _ _ _
    have h0__M_3_n : mp_up M_3 q (.inr (2, [.int (nI x), .int (nI f), .int (nI wd), .int (nI b)])) d = some (.inr (0, [.ref av, .ref ak, .int (nI ec), .ref at_, .int (nI tc), .ref aw, .int (nI wc), .ref as_, .int (nI sc), .ref an, .int (nI nc)])) := (mp_up_n (mp_ne h0__M_3 hqq__M_3 (by simp))).trans h0__M_3
    have hav__M_3_n : mp_up M_3 q (.inr (2, [.int (nI x), .int (nI f), .int (nI wd), .int (nI b)])) av = some (.inl (k 1, 4000, .inr (.inl va))) := (mp_up_n (mp_ne hav__M_3 hqq__M_3 (by simp))).trans hav__M_3
    have hak__M_3_n : mp_up M_3 q (.inr (2, [.int (nI x), .int (nI f), .int (nI wd), .int (nI b)])) ak = some (.inl (k 0, 4000, .inl (fun i_ => nI (kd i_)))) := (mp_up_n (mp_ne hak__M_3 hqq__M_3 (by simp))).trans hak__M_3
    have hat__M_3_n : mp_up M_3 q (.inr (2, [.int (nI x), .int (nI f), .int (nI wd), .int (nI b)])) at_ = some (.inl (k 2, 300, .inr (.inr (.inr (.inr qt))))) := (mp_up_n (mp_ne hat__M_3 hqq__M_3 (by simp))).trans hat__M_3
    have haw__M_3_n : mp_up M_3 q (.inr (2, [.int (nI x), .int (nI f), .int (nI wd), .int (nI b)])) aw = some (.inl (k 0, 12, .inl (fun i_ => nI (wt i_)))) := (mp_up_n (mp_ne haw__M_3 hqq__M_3 (by simp))).trans haw__M_3
    have has__M_3_n : mp_up M_3 q (.inr (2, [.int (nI x), .int (nI f), .int (nI wd), .int (nI b)])) as_ = some (.inl (k 3, 100, .inr (.inr (.inr (.inr qs))))) := (mp_up_n (mp_ne has__M_3 hqq__M_3 (by simp))).trans has__M_3
    have han__M_3_n : mp_up M_3 q (.inr (2, [.int (nI x), .int (nI f), .int (nI wd), .int (nI b)])) an = some (.inl (k 4, 20, .inr (.inr (.inr (.inr qn))))) := (mp_up_n (mp_ne han__M_3 hqq__M_3 (by simp))).trans han__M_3
    generalize eM_6 : mp_up M_3 q (.inr (2, [.int (nI x), .int (nI f), .int (nI wd), .int (nI b)])) = M_5 at I h0__M_3_n hav__M_3_n hak__M_3_n hat__M_3_n haw__M_3_n has__M_3_n han__M_3_n hqq__M_3_n
    have h0__M_5 := h0__M_3_n
    have hav__M_5 := hav__M_3_n
    have hak__M_5 := hak__M_3_n
    have hat__M_5 := hat__M_3_n
    have haw__M_5 := haw__M_3_n
    have has__M_5 := has__M_3_n
    have han__M_5 := han__M_3_n
    have hqq__M_5 := hqq__M_3_n
    clear h0__M_3_n hav__M_3_n hak__M_3_n hat__M_3_n haw__M_3_n has__M_3_n han__M_3_n hqq__M_3_n
    have hD := hD.fresh q (.inr (2, [.int (nI x), .int (nI f), .int (nI wd), .int (nI b)])) hq_2
    rw [← mp_upup M q (.inr (2, [.int 0, .int 0, .int 0, .int 0])) (.inr (2, [.int (nI x), .int (nI f), .int (nI wd), .int (nI b)])), eM_4, eM_6] at hD
    refine mp_aast (r := (RS, FS, 4)) hx hb I 3 2 has__M_5 rfl hqq__M_5 rfl sc rfl (by omega) (by decide) dD_addSpot_31 (fun H locs I => ?_)
    have I : mp_I D cls5 (tys6 k) s _ s.heap H locs (mp_up M_5 as_ (.inl (k 3, 100, .inr (.inr (.inr (.inr (va_up qs sc (some q)))))))) := I
    have has__M_5_n : mp_up M_5 as_ (.inl (k 3, 100, .inr (.inr (.inr (.inr (va_up qs sc (some q))))))) as_ = some (.inl (k 3, 100, .inr (.inr (.inr (.inr (va_up qs sc (some q))))))) := mp_up_s _ _ _
    have h0__M_5_n : mp_up M_5 as_ (.inl (k 3, 100, .inr (.inr (.inr (.inr (va_up qs sc (some q))))))) d = some (.inr (0, [.ref av, .ref ak, .int (nI ec), .ref at_, .int (nI tc), .ref aw, .int (nI wc), .ref as_, .int (nI sc), .ref an, .int (nI nc)])) := (mp_up_n (mp_ne h0__M_5 has__M_5 (by simp))).trans h0__M_5
    have hav__M_5_n : mp_up M_5 as_ (.inl (k 3, 100, .inr (.inr (.inr (.inr (va_up qs sc (some q))))))) av = some (.inl (k 1, 4000, .inr (.inl va))) := (mp_up_n (mp_ne hav__M_5 has__M_5 (by simp))).trans hav__M_5
    have hak__M_5_n : mp_up M_5 as_ (.inl (k 3, 100, .inr (.inr (.inr (.inr (va_up qs sc (some q))))))) ak = some (.inl (k 0, 4000, .inl (fun i_ => nI (kd i_)))) := (mp_up_n (mp_ne hak__M_5 has__M_5 (by simp))).trans hak__M_5
    have hat__M_5_n : mp_up M_5 as_ (.inl (k 3, 100, .inr (.inr (.inr (.inr (va_up qs sc (some q))))))) at_ = some (.inl (k 2, 300, .inr (.inr (.inr (.inr qt))))) := (mp_up_n (mp_ne hat__M_5 has__M_5 (by simp))).trans hat__M_5
    have haw__M_5_n : mp_up M_5 as_ (.inl (k 3, 100, .inr (.inr (.inr (.inr (va_up qs sc (some q))))))) aw = some (.inl (k 0, 12, .inl (fun i_ => nI (wt i_)))) := (mp_up_n (mp_ne haw__M_5 has__M_5 (by simp))).trans haw__M_5
    have han__M_5_n : mp_up M_5 as_ (.inl (k 3, 100, .inr (.inr (.inr (.inr (va_up qs sc (some q))))))) an = some (.inl (k 4, 20, .inr (.inr (.inr (.inr qn))))) := (mp_up_n (mp_ne han__M_5 has__M_5 (by simp))).trans han__M_5
    have hqq__M_5_n : mp_up M_5 as_ (.inl (k 3, 100, .inr (.inr (.inr (.inr (va_up qs sc (some q))))))) q = some (.inr (2, [.int (nI x), .int (nI f), .int (nI wd), .int (nI b)])) := (mp_up_n (mp_ne hqq__M_5 has__M_5 (by simp))).trans hqq__M_5
    generalize eM_8 : mp_up M_5 as_ (.inl (k 3, 100, .inr (.inr (.inr (.inr (va_up qs sc (some q))))))) = M_7 at I h0__M_5_n hav__M_5_n hak__M_5_n hat__M_5_n haw__M_5_n has__M_5_n han__M_5_n hqq__M_5_n
    have h0__M_7 := h0__M_5_n
    have hav__M_7 := hav__M_5_n
    have hak__M_7 := hak__M_5_n
    have hat__M_7 := hat__M_5_n
    have haw__M_7 := haw__M_5_n
    have has__M_7 := has__M_5_n
    have han__M_7 := han__M_5_n
    have hqq__M_7 := hqq__M_5_n
    clear h0__M_5_n hav__M_5_n hak__M_5_n hat__M_5_n haw__M_5_n has__M_5_n han__M_5_n hqq__M_5_n
    have hD := hD.setS (some q)
    rw [eM_8] at hD
    refine lv_aload_n hx hb dD_addSpot_32 rfl (lv_at hl 0 rfl) ?_
    refine lv_dup hx hb dD_addSpot_33 rfl ?_
    refine mp_get (v := .int (nI sc)) hx hb hts inD hown I h0__M_7 rfl 8 (by decide) (hts _ bw_34) (fun _ h9 => h9) rfl dD_addSpot_34 ?_
    refine lv_iconst (v := nI 1) hx hb dD_addSpot_37 (by decide) ?_
    refine zz_iadd hx hb dD_addSpot_38 ?_
    refine mp_put (v := .int (nI (sc + 1))) (ty := .int) hx hb hts inD tyD okD nmD hown I h0__M_7 rfl 8 (by decide) (hts _ bw_34) (fun _ h9 => h9) rfl (by decide +kernel) rfl rfl (Nat.le_of_ble_eq_true rfl) dD_addSpot_39 (fun H locs I => ?_)
    have I : mp_I D cls5 (tys6 k) s _ s.heap H locs (mp_up M_7 d (.inr (0, [.ref av, .ref ak, .int (nI ec), .ref at_, .int (nI tc), .ref aw, .int (nI wc), .ref as_, .int (nI (sc + 1)), .ref an, .int (nI nc)]))) := I
    have h0__M_7_n : mp_up M_7 d (.inr (0, [.ref av, .ref ak, .int (nI ec), .ref at_, .int (nI tc), .ref aw, .int (nI wc), .ref as_, .int (nI (sc + 1)), .ref an, .int (nI nc)])) d = some (.inr (0, [.ref av, .ref ak, .int (nI ec), .ref at_, .int (nI tc), .ref aw, .int (nI wc), .ref as_, .int (nI (sc + 1)), .ref an, .int (nI nc)])) := mp_up_s _ _ _
    have hav__M_7_n : mp_up M_7 d (.inr (0, [.ref av, .ref ak, .int (nI ec), .ref at_, .int (nI tc), .ref aw, .int (nI wc), .ref as_, .int (nI (sc + 1)), .ref an, .int (nI nc)])) av = some (.inl (k 1, 4000, .inr (.inl va))) := (mp_up_n (mp_ne hav__M_7 h0__M_7 (by simp))).trans hav__M_7
    have hak__M_7_n : mp_up M_7 d (.inr (0, [.ref av, .ref ak, .int (nI ec), .ref at_, .int (nI tc), .ref aw, .int (nI wc), .ref as_, .int (nI (sc + 1)), .ref an, .int (nI nc)])) ak = some (.inl (k 0, 4000, .inl (fun i_ => nI (kd i_)))) := (mp_up_n (mp_ne hak__M_7 h0__M_7 (by simp))).trans hak__M_7
    have hat__M_7_n : mp_up M_7 d (.inr (0, [.ref av, .ref ak, .int (nI ec), .ref at_, .int (nI tc), .ref aw, .int (nI wc), .ref as_, .int (nI (sc + 1)), .ref an, .int (nI nc)])) at_ = some (.inl (k 2, 300, .inr (.inr (.inr (.inr qt))))) := (mp_up_n (mp_ne hat__M_7 h0__M_7 (by simp))).trans hat__M_7
    have haw__M_7_n : mp_up M_7 d (.inr (0, [.ref av, .ref ak, .int (nI ec), .ref at_, .int (nI tc), .ref aw, .int (nI wc), .ref as_, .int (nI (sc + 1)), .ref an, .int (nI nc)])) aw = some (.inl (k 0, 12, .inl (fun i_ => nI (wt i_)))) := (mp_up_n (mp_ne haw__M_7 h0__M_7 (by simp))).trans haw__M_7
    have has__M_7_n : mp_up M_7 d (.inr (0, [.ref av, .ref ak, .int (nI ec), .ref at_, .int (nI tc), .ref aw, .int (nI wc), .ref as_, .int (nI (sc + 1)), .ref an, .int (nI nc)])) as_ = some (.inl (k 3, 100, .inr (.inr (.inr (.inr (va_up qs sc (some q))))))) := (mp_up_n (mp_ne has__M_7 h0__M_7 (by simp))).trans has__M_7
    have han__M_7_n : mp_up M_7 d (.inr (0, [.ref av, .ref ak, .int (nI ec), .ref at_, .int (nI tc), .ref aw, .int (nI wc), .ref as_, .int (nI (sc + 1)), .ref an, .int (nI nc)])) an = some (.inl (k 4, 20, .inr (.inr (.inr (.inr qn))))) := (mp_up_n (mp_ne han__M_7 h0__M_7 (by simp))).trans han__M_7
    have hqq__M_7_n : mp_up M_7 d (.inr (0, [.ref av, .ref ak, .int (nI ec), .ref at_, .int (nI tc), .ref aw, .int (nI wc), .ref as_, .int (nI (sc + 1)), .ref an, .int (nI nc)])) q = some (.inr (2, [.int (nI x), .int (nI f), .int (nI wd), .int (nI b)])) := (mp_up_n (mp_ne hqq__M_7 h0__M_7 (by simp))).trans hqq__M_7
    generalize eM_10 : mp_up M_7 d (.inr (0, [.ref av, .ref ak, .int (nI ec), .ref at_, .int (nI tc), .ref aw, .int (nI wc), .ref as_, .int (nI (sc + 1)), .ref an, .int (nI nc)])) = M_9 at I h0__M_7_n hav__M_7_n hak__M_7_n hat__M_7_n haw__M_7_n has__M_7_n han__M_7_n hqq__M_7_n
    have h0__M_9 := h0__M_7_n
    have hav__M_9 := hav__M_7_n
    have hak__M_9 := hak__M_7_n
    have hat__M_9 := hat__M_7_n
    have haw__M_9 := haw__M_7_n
    have has__M_9 := has__M_7_n
    have han__M_9 := han__M_7_n
    have hqq__M_9 := hqq__M_7_n
    clear h0__M_7_n hav__M_7_n hak__M_7_n hat__M_7_n haw__M_7_n has__M_7_n han__M_7_n hqq__M_7_n
    have hD := hD.cntS q x f wd b (va_up_self _ _ _) hqq__M_7
    rw [eM_10] at hD
    refine lv_aload_n hx hb dD_addSpot_42 rfl (lv_at hl 0 rfl) ?_
    refine mp_get (v := .int (nI (sc + 1))) hx hb hts inD hown I h0__M_9 rfl 8 (by decide) (hts _ bw_34) (fun _ h9 => h9) rfl dD_addSpot_43 ?_
    refine lv_iconst (v := nI 1) hx hb dD_addSpot_46 (by decide) ?_
    refine zz_isub hx hb (by omega) dD_addSpot_47 ?_
    exact mp_iret hx hb hr hlocks I (Nat.le_of_ble_eq_true rfl) (Nat.le_of_ble_eq_true rfl) dD_addSpot_48 (Or.inl ⟨by omega, rfl, q, hD⟩)
  · refine lv_iconst (v := (-1)) hx hb dD_addSpot_9 (by decide) ?_
    exact mp_iret hx hb hr hlocks I (Nat.le_of_ble_eq_true rfl) (Nat.le_of_ble_eq_true rfl) dD_addSpot_10 (Or.inr ⟨by omega, rfl, rfl⟩)
/-- what object answers -/
def obr (tc : Nat) (kd tk tf tz : Nat → Nat) (x y : Int) : Int32 := if 0 ≤ x ∧ x < (tc : Int) then (if y = -1 then nI (tk x.toNat) else if y = -2 then nI (tz x.toNat) else if 0 ≤ y ∧ y < (tz x.toNat : Int) then nI (kd (tf x.toNat + y.toNat)) else -1) else -1
abbrev rm_D_object : Room := { frames := 1, cells := 0, slots := 0, locals := 30 }
set_option maxHeartbeats 4000000 in
set_option maxRecDepth 100000 in
theorem kD_object (l : Launch) (D : va_G) (k : Nat → ClassId) (M : mp_M) {d av ak at_ aw as_ an : Nat} {qt qs qn : Nat → Option Nat} {sa ra : Nat → Nat} {ec tc wc sc nc : Nat} {va : Nat → Int64} {kd wt tk tf tz sk sf sw sl nn : Nat → Nat} {nv : Nat → Nat → Int64} (hD : DkX k M d av ak at_ aw as_ an qt qs qn sa ra ec tc wc sc nc va kd wt tk tf tz sk sf sw sl nn nv) (hO : OkB ec tc wc sc nc tk tf tz sk sf sw sl nn) (x y : Int32) : mp_Met l yD_object (Cond.code yD_object cD_object 4 (some .int) :: bw) rm_D_object D cls5 (tys6 k) [.ref d, .int x, .int y] M (va_Qi (fun r M1 => M1 = M ∧ r = obr tc kd tk tf tz x.toInt y.toInt)) 0 0 := by
  refine mp_Met.of (by decide) (Nat.le_of_ble_eq_true rfl) ?_
  intro p e s m below meth c hx hb hr hml hown hts hlocks hin ls hl I
  have hl : lv_has ls 4 [(0, .ref d), (1, .int x), (2, .int y)] := hl
  obtain ⟨h0, hav, hak, hat, haw, has, han, hth, hsp, hsn, hij⟩ := id hD
  obtain ⟨b1, b2, b3, b4, b5, bT, bS, bN⟩ := id hO
  refine lv_aload_n hx hb dD_object_0 rfl (lv_at hl 0 rfl) ?_
  refine lv_iload_n hx hb dD_object_1 rfl (lv_at hl 1 rfl) ?_
  refine mp_callq (va_runV (As := [.int x]) (rest := []) ⟨hx, hb, hml, hown, hts⟩ (kD_findThing l D k M hD hO x _) (cwV 1 hts (bw_V bw_111 bw_113 bs_2 bw_1 bw_114) rfl rfl rfl (by decide +kernel) ⟨Nat.le_of_ble_eq_true rfl, Nat.le_of_ble_eq_true rfl⟩) (mp_preV I h0 rfl _) rfl rfl hl.1 rfl (lv_room (Nat.le_of_ble_eq_true rfl)) dD_object_2 ⟨Nat.le_of_ble_eq_true rfl, Nat.le_of_ble_eq_true rfl⟩) I (fun r_1 N1 H locs hp I => ?_)
  obtain ⟨e_2, hp⟩ := hp
  rw [e_2] at I
  rcases hp with ⟨i, a, hii, hzi, rfl, hMa⟩ | ⟨pni, rfl⟩
  · dsimp only [va_rf]
    have hTi := bT i hii
    have hxi : x.toInt.toNat = i := by omega
    refine lv_astore_n (lv' := [(3, .ref a), (0, .ref d), (1, .int x), (2, .int y)]) hx hb dD_object_5 rfl hl (by decide) rfl (fun ls hl => ?_)
    refine lv_aload_n hx hb dD_object_6 rfl (lv_at hl 0 rfl) ?_
    refine lv_ifnonnull (tgt := 12) hx hb dD_object_7 (by decide) ?_
    refine lv_iload_n hx hb dD_object_12 rfl (lv_at hl 3 rfl) ?_
    refine lv_iconst (v := (-1)) hx hb dD_object_13 (by decide) ?_
    refine zz_icmp_ne (tgt := 22) hx hb rfl (show (-1 : Int32).toInt = -1 from rfl) dD_object_14 (by decide) (fun c_3 => ?_) (fun c_3 => ?_)
    · refine lv_iload_n hx hb dD_object_22 rfl (lv_at hl 3 rfl) ?_
      refine lv_bipush (v := (-2)) hx hb dD_object_23 (by decide) ?_
      refine zz_icmp_ne (tgt := 33) hx hb rfl (show (-2 : Int32).toInt = -2 from rfl) dD_object_25 (by decide) (fun c_4 => ?_) (fun c_4 => ?_)
      · refine lv_aload_n hx hb dD_object_33 rfl (lv_at hl 0 rfl) ?_
        refine lv_iload_n hx hb dD_object_34 rfl (lv_at hl 3 rfl) ?_
        refine lv_iconst (v := nI 1) hx hb dD_object_35 (by decide) ?_
        refine mp_calli (va_runV (As := [.int y, .int (nI 1)]) (rest := []) ⟨hx, hb, hml, hown, hts⟩ (kT_holds l D k M a (tk i) (tf i) (tz i) y (nI 1) hMa (by omega) _) (cwV 2 hts (bw_V bw_115 bw_116 bw_117 bw_3 bw_118) rfl rfl rfl (by decide +kernel) ⟨Nat.le_of_ble_eq_true rfl, Nat.le_of_ble_eq_true rfl⟩) (mp_preV I hMa rfl _) rfl rfl hl.1 rfl (lv_room (Nat.le_of_ble_eq_true rfl)) dD_object_36 ⟨Nat.le_of_ble_eq_true rfl, Nat.le_of_ble_eq_true rfl⟩) I (fun r_5 N_6 H locs hp I => ?_)
        obtain ⟨e_7, hp⟩ := hp
        rw [e_7] at I
        rcases hp with ⟨p3, rfl⟩ | ⟨p3, rfl⟩
        · refine zz_if_eq (tgt := 56) hx hb (nI_toInt (by decide)) dD_object_39 (by decide) (fun c_8 => absurd c_8 (by decide)) (fun _ => ?_)
          have h1z : (nI 1).toInt = 1 := rfl
          obtain ⟨yn, hn_yn, rfl, hz_yn⟩ := i32_nat (x := y) (by omega)
          refine lv_aload_n hx hb dD_object_42 rfl (lv_at hl 1 rfl) ?_
          refine mp_get (v := .ref ak) hx hb hts inD hown I h0 rfl 1 (by decide) (hts _ bw_27) (fun _ h9 => h9) rfl dD_object_43 ?_
          refine lv_aload_n hx hb dD_object_46 rfl (lv_at hl 0 rfl) ?_
          refine mp_get (v := .int (nI (tf i))) hx hb hts inT hown I hMa rfl 1 (by decide) (hts _ bw_86) (fun _ h9 => h9) rfl dD_object_47 ?_
          refine lv_iload_n hx hb dD_object_50 rfl (lv_at hl 3 rfl) ?_
          refine zz_iadd hx hb dD_object_51 ?_
          refine mp_iald hx hb I 0 hak rfl (tf i + yn) rfl (by omega) (by decide) (v := nI (kd (tf i + yn))) rfl dD_object_52 ?_
          refine lv_goto (tgt := 57) hx hb dD_object_53 (by decide) ?_
          exact mp_iret hx hb hr hlocks I (Nat.le_of_ble_eq_true rfl) (Nat.le_of_ble_eq_true rfl) dD_object_57 ⟨rfl, by unfold obr; rw [if_pos (show 0 ≤ x.toInt ∧ x.toInt < (tc : Int) by omega), hxi, if_neg (by omega), if_neg (by omega), if_pos (by omega), show (nI yn).toInt.toNat = yn by omega]⟩
        · refine zz_if_eq (tgt := 56) hx hb (nI_toInt (by decide)) dD_object_39 (by decide) (fun _ => ?_) (fun c_9 => absurd c_9 (by decide))
          refine lv_iconst (v := (-1)) hx hb dD_object_56 (by decide) ?_
          have h1z : (nI 1).toInt = 1 := rfl
          exact mp_iret hx hb hr hlocks I (Nat.le_of_ble_eq_true rfl) (Nat.le_of_ble_eq_true rfl) dD_object_57 ⟨rfl, by unfold obr; rw [if_pos (show 0 ≤ x.toInt ∧ x.toInt < (tc : Int) by omega), hxi, if_neg (by omega), if_neg (by omega), if_neg (by omega)]⟩
      · refine lv_aload_n hx hb dD_object_28 rfl (lv_at hl 0 rfl) ?_
        refine mp_get (v := .int (nI (tz i))) hx hb hts inT hown I hMa rfl 2 (by decide) (hts _ bw_88) (fun _ h9 => h9) rfl dD_object_29 ?_
        exact mp_iret hx hb hr hlocks I (Nat.le_of_ble_eq_true rfl) (Nat.le_of_ble_eq_true rfl) dD_object_32 ⟨rfl, by unfold obr; rw [if_pos (show 0 ≤ x.toInt ∧ x.toInt < (tc : Int) by omega), hxi, if_neg (by omega), if_pos (by omega)]⟩
    · refine lv_aload_n hx hb dD_object_17 rfl (lv_at hl 0 rfl) ?_
      refine mp_get (v := .int (nI (tk i))) hx hb hts inT hown I hMa rfl 0 (by decide) (hts _ bw_84) (fun _ h9 => h9) rfl dD_object_18 ?_
      exact mp_iret hx hb hr hlocks I (Nat.le_of_ble_eq_true rfl) (Nat.le_of_ble_eq_true rfl) dD_object_21 ⟨rfl, by unfold obr; rw [if_pos (show 0 ≤ x.toInt ∧ x.toInt < (tc : Int) by omega), hxi, if_pos (by omega)]⟩
  · dsimp only [va_rf]
    refine lv_astore_nN (lv' := [(3, .null), (0, .ref d), (1, .int x), (2, .int y)]) hx hb dD_object_5 rfl hl (by decide) rfl (fun ls hl => ?_)
    refine lv_aload_nN hx hb dD_object_6 rfl (lv_at hl 0 rfl) ?_
    refine lv_ifnonnullN hx hb dD_object_7 ?_
    refine lv_iconst (v := (-1)) hx hb dD_object_10 (by decide) ?_
    exact mp_iret hx hb hr hlocks I (Nat.le_of_ble_eq_true rfl) (Nat.le_of_ble_eq_true rfl) dD_object_11 ⟨rfl, by unfold obr; rw [if_neg (by omega)]⟩
abbrev rm_D_place : Room := { frames := 3, cells := 1, slots := 4, locals := 90 }
set_option maxHeartbeats 4000000 in
set_option maxRecDepth 100000 in
theorem kD_place (l : Launch) (D : va_G) (k : Nat → ClassId) (M : mp_M) {d av ak at_ aw as_ an : Nat} {qt qs qn : Nat → Option Nat} {sa ra : Nat → Nat} {ec tc wc sc nc : Nat} {va : Nat → Int64} {kd wt tk tf tz sk sf sw sl nn : Nat → Nat} {nv : Nat → Nat → Int64} (hD : DkX k M d av ak at_ aw as_ an qt qs qn sa ra ec tc wc sc nc va kd wt tk tf tz sk sf sw sl nn nv) (hO : OkB ec tc wc sc nc tk tf tz sk sf sw sl nn) (x y : Int32) : mp_Met l yD_place (Cond.code yD_place cD_place 5 (some .int) :: bw) rm_D_place D cls5 (tys6 k) [.ref d, .int x, .int y] M (va_Qi (fun r M1 => ((0 ≤ x.toInt ∧ x.toInt < tc ∧ 0 ≤ y.toInt ∧ y.toInt < tz x.toInt.toNat ∧ sc < 100) ∧ r = nI sc ∧ ∃ i yn q : Nat, x.toInt = i ∧ y.toInt = yn ∧ DkX k M1 d av ak at_ aw as_ an qt (va_up qs sc (some q)) qn sa ra ec tc wc (sc + 1) nc va kd wt tk tf tz (nu sk sc (kd (tf i + yn))) (nu sf sc (tf i + yn)) (nu sw sc 1) (nu sl sc 0) nn nv) ∨ (¬ (0 ≤ x.toInt ∧ x.toInt < tc ∧ 0 ≤ y.toInt ∧ y.toInt < tz x.toInt.toNat ∧ sc < 100) ∧ r = -1 ∧ M1 = M))) 1 4 := by
  refine mp_Met.of (by decide) (Nat.le_of_ble_eq_true rfl) ?_
  intro p e s m below meth c hx hb hr hml hown hts hlocks hin ls hl I
  have hl : lv_has ls 5 [(0, .ref d), (1, .int x), (2, .int y)] := hl
  obtain ⟨h0, hav, hak, hat, haw, has, han, hth, hsp, hsn, hij⟩ := id hD
  obtain ⟨b1, b2, b3, b4, b5, bT, bS, bN⟩ := id hO
  refine lv_aload_n hx hb dD_place_0 rfl (lv_at hl 0 rfl) ?_
  refine lv_iload_n hx hb dD_place_1 rfl (lv_at hl 1 rfl) ?_
  refine mp_callq (va_runV (As := [.int x]) (rest := []) ⟨hx, hb, hml, hown, hts⟩ (kD_findThing l D k M hD hO x _) (cwV 1 hts (bw_V bw_111 bw_113 bs_2 bw_1 bw_114) rfl rfl rfl (by decide +kernel) ⟨Nat.le_of_ble_eq_true rfl, Nat.le_of_ble_eq_true rfl⟩) (mp_preV I h0 rfl _) rfl rfl hl.1 rfl (lv_room (Nat.le_of_ble_eq_true rfl)) dD_place_2 ⟨Nat.le_of_ble_eq_true rfl, Nat.le_of_ble_eq_true rfl⟩) I (fun r_1 N1 H locs hp I => ?_)
  obtain ⟨e_2, hp⟩ := hp
  rw [e_2] at I
  rcases hp with ⟨i, a, hii, hzi, rfl, hMa⟩ | ⟨pni, rfl⟩
  · dsimp only [va_rf]
    have hTi := bT i hii
    have hxi : x.toInt.toNat = i := by omega
    refine lv_astore_n (lv' := [(3, .ref a), (0, .ref d), (1, .int x), (2, .int y)]) hx hb dD_place_5 rfl hl (by decide) rfl (fun ls hl => ?_)
    refine lv_aload_n hx hb dD_place_6 rfl (lv_at hl 0 rfl) ?_
    refine lv_ifnull hx hb dD_place_7 ?_
    refine lv_aload_n hx hb dD_place_10 rfl (lv_at hl 0 rfl) ?_
    refine lv_iload_n hx hb dD_place_11 rfl (lv_at hl 3 rfl) ?_
    refine lv_iconst (v := nI 1) hx hb dD_place_12 (by decide) ?_
    have h1z : (nI 1).toInt = 1 := rfl
    refine mp_calli (va_runV (As := [.int y, .int (nI 1)]) (rest := []) ⟨hx, hb, hml, hown, hts⟩ (kT_holds l D k M a (tk i) (tf i) (tz i) y (nI 1) hMa (by omega) _) (cwV 2 hts (bw_V bw_115 bw_116 bw_117 bw_3 bw_118) rfl rfl rfl (by decide +kernel) ⟨Nat.le_of_ble_eq_true rfl, Nat.le_of_ble_eq_true rfl⟩) (mp_preV I hMa rfl _) rfl rfl hl.1 rfl (lv_room (Nat.le_of_ble_eq_true rfl)) dD_place_13 ⟨Nat.le_of_ble_eq_true rfl, Nat.le_of_ble_eq_true rfl⟩) I (fun r_3 N_4 H locs hp I => ?_)
    obtain ⟨e_5, hp⟩ := hp
    rw [e_5] at I
    rcases hp with ⟨p3, rfl⟩ | ⟨p3, rfl⟩
    · refine zz_if_ne (tgt := 21) hx hb (nI_toInt (by decide)) dD_place_16 (by decide) (fun _ => ?_) (fun c_6 => absurd c_6 (by decide))
      obtain ⟨yn, hn_yn, rfl, hz_yn⟩ := i32_nat (x := y) (by omega)
      refine lv_aload_n hx hb dD_place_21 rfl (lv_at hl 0 rfl) ?_
      refine mp_get (v := .int (nI (tf i))) hx hb hts inT hown I hMa rfl 1 (by decide) (hts _ bw_86) (fun _ h9 => h9) rfl dD_place_22 ?_
      refine lv_iload_n hx hb dD_place_25 rfl (lv_at hl 3 rfl) ?_
      refine zz_iadd hx hb dD_place_26 ?_
      refine lv_istore (lv' := [(4, .int (nI (tf i + yn))), (3, .ref a), (0, .ref d), (1, .int x), (2, .int (nI yn))]) hx hb dD_place_27 hl (by decide) rfl (fun ls hl => ?_)
      refine lv_aload_n hx hb dD_place_29 rfl (lv_at hl 2 rfl) ?_
      refine lv_aload_n hx hb dD_place_30 rfl (lv_at hl 2 rfl) ?_
      refine mp_get (v := .ref ak) hx hb hts inD hown I h0 rfl 1 (by decide) (hts _ bw_27) (fun _ h9 => h9) rfl dD_place_31 ?_
      refine lv_iload hx hb dD_place_34 (lv_at hl 0 rfl) ?_
      refine mp_iald hx hb I 0 hak rfl (tf i + yn) rfl (by omega) (by decide) (v := nI (kd (tf i + yn))) rfl dD_place_36 ?_
      refine lv_iload hx hb dD_place_37 (lv_at hl 0 rfl) ?_
      refine lv_iconst (v := nI 1) hx hb dD_place_39 (by decide) ?_
      refine lv_iconst (v := nI 0) hx hb dD_place_40 (by decide) ?_
      refine mp_calli (va_runV (As := [.int (nI (kd (tf i + yn))), .int (nI (tf i + yn)), .int (nI 1), .int (nI 0)]) (rest := []) ⟨hx, hb, hml, hown, hts⟩ (kD_addSpot l D k M hD hO (kd (tf i + yn)) (tf i + yn) 1 0 (by omega) _) (cwV 4 hts (bw_V bw_123 bw_125 bs_3 bw_1 bw_126) rfl rfl rfl (by decide +kernel) ⟨Nat.le_of_ble_eq_true rfl, Nat.le_of_ble_eq_true rfl⟩) (mp_preV I h0 rfl _) rfl rfl hl.1 rfl (lv_room (Nat.le_of_ble_eq_true rfl)) dD_place_41 ⟨Nat.le_of_ble_eq_true rfl, Nat.le_of_ble_eq_true rfl⟩) I (fun r1 N1 H locs hp I => ?_)
      rcases hp with ⟨p4, rfl, q, hD⟩ | ⟨p4, rfl, eN⟩
      · exact mp_iret hx hb hr hlocks I (Nat.le_of_ble_eq_true rfl) (Nat.le_of_ble_eq_true rfl) dD_place_44 (Or.inl ⟨by rw [hxi]; omega, rfl, i, yn, q, hzi, hz_yn, hD⟩)
      · exact mp_iret hx hb hr hlocks I (Nat.le_of_ble_eq_true rfl) (Nat.le_of_ble_eq_true rfl) dD_place_44 (Or.inr ⟨by rw [hxi]; omega, rfl, eN⟩)
    · refine zz_if_ne (tgt := 21) hx hb (nI_toInt (by decide)) dD_place_16 (by decide) (fun c_7 => absurd c_7 (by decide)) (fun _ => ?_)
      refine lv_iconst (v := (-1)) hx hb dD_place_19 (by decide) ?_
      exact mp_iret hx hb hr hlocks I (Nat.le_of_ble_eq_true rfl) (Nat.le_of_ble_eq_true rfl) dD_place_20 (Or.inr ⟨by rw [hxi]; omega, rfl, rfl⟩)
  · dsimp only [va_rf]
    refine lv_astore_nN (lv' := [(3, .null), (0, .ref d), (1, .int x), (2, .int y)]) hx hb dD_place_5 rfl hl (by decide) rfl (fun ls hl => ?_)
    refine lv_aload_nN hx hb dD_place_6 rfl (lv_at hl 0 rfl) ?_
    refine lv_ifnullN (tgt := 19) hx hb dD_place_7 (by decide) ?_
    refine lv_iconst (v := (-1)) hx hb dD_place_19 (by decide) ?_
    exact mp_iret hx hb hr hlocks I (Nat.le_of_ble_eq_true rfl) (Nat.le_of_ble_eq_true rfl) dD_place_20 (Or.inr ⟨by omega, rfl, rfl⟩)
abbrev rm_D_kindOf : Room := { frames := 1, cells := 0, slots := 0, locals := 30 }
set_option maxHeartbeats 4000000 in
set_option maxRecDepth 100000 in
theorem kD_kindOf (l : Launch) (D : va_G) (k : Nat → ClassId) (M : mp_M) {d av ak at_ aw as_ an : Nat} {qt qs qn : Nat → Option Nat} {sa ra : Nat → Nat} {ec tc wc sc nc : Nat} {va : Nat → Int64} {kd wt tk tf tz sk sf sw sl nn : Nat → Nat} {nv : Nat → Nat → Int64} (hD : DkX k M d av ak at_ aw as_ an qt qs qn sa ra ec tc wc sc nc va kd wt tk tf tz sk sf sw sl nn nv) (hO : OkB ec tc wc sc nc tk tf tz sk sf sw sl nn) (x : Int32) : mp_Met l yD_kindOf (Cond.code yD_kindOf cD_kindOf 3 (some .int) :: bw) rm_D_kindOf D cls5 (tys6 k) [.ref d, .int x] M (va_Qi (fun r M1 => M1 = M ∧ r = if 0 ≤ x.toInt ∧ x.toInt < (sc : Int) then nI (sk x.toInt.toNat) else -1)) 0 0 := by
  refine mp_Met.of (by decide) (Nat.le_of_ble_eq_true rfl) ?_
  intro p e s m below meth c hx hb hr hml hown hts hlocks hin ls hl I
  have hl : lv_has ls 3 [(0, .ref d), (1, .int x)] := hl
  obtain ⟨h0, hav, hak, hat, haw, has, han, hth, hsp, hsn, hij⟩ := id hD
  obtain ⟨b1, b2, b3, b4, b5, bT, bS, bN⟩ := id hO
  refine lv_aload_n hx hb dD_kindOf_0 rfl (lv_at hl 0 rfl) ?_
  refine lv_iload_n hx hb dD_kindOf_1 rfl (lv_at hl 1 rfl) ?_
  refine mp_callq (va_runV (As := [.int x]) (rest := []) ⟨hx, hb, hml, hown, hts⟩ (kD_findSpot l D k M hD hO x _) (cwV 1 hts (bw_V bw_159 bw_161 bs_4 bw_1 bw_162) rfl rfl rfl (by decide +kernel) ⟨Nat.le_of_ble_eq_true rfl, Nat.le_of_ble_eq_true rfl⟩) (mp_preV I h0 rfl _) rfl rfl hl.1 rfl (lv_room (Nat.le_of_ble_eq_true rfl)) dD_kindOf_2 ⟨Nat.le_of_ble_eq_true rfl, Nat.le_of_ble_eq_true rfl⟩) I (fun r_1 N1 H locs hp I => ?_)
  obtain ⟨e_2, hp⟩ := hp
  rw [e_2] at I
  rcases hp with ⟨i, a, hii, hzi, rfl, hMa⟩ | ⟨pni, rfl⟩
  · dsimp only [va_rf]
    have hTi := bS i hii
    have hxi : x.toInt.toNat = i := by omega
    refine lv_astore_n (lv' := [(2, .ref a), (0, .ref d), (1, .int x)]) hx hb dD_kindOf_5 rfl hl (by decide) rfl (fun ls hl => ?_)
    refine lv_aload_n hx hb dD_kindOf_6 rfl (lv_at hl 0 rfl) ?_
    refine lv_ifnonnull (tgt := 14) hx hb dD_kindOf_7 (by decide) ?_
    refine lv_aload_n hx hb dD_kindOf_14 rfl (lv_at hl 0 rfl) ?_
    refine mp_get (v := .int (nI (sk i))) hx hb hts inS hown I hMa rfl 0 (by decide) (hts _ bw_133) (fun _ h9 => h9) rfl dD_kindOf_15 ?_
    exact mp_iret hx hb hr hlocks I (Nat.le_of_ble_eq_true rfl) (Nat.le_of_ble_eq_true rfl) dD_kindOf_18 ⟨rfl, by rw [if_pos (show 0 ≤ x.toInt ∧ x.toInt < (sc : Int) by omega), hxi]⟩
  · dsimp only [va_rf]
    refine lv_astore_nN (lv' := [(2, .null), (0, .ref d), (1, .int x)]) hx hb dD_kindOf_5 rfl hl (by decide) rfl (fun ls hl => ?_)
    refine lv_aload_nN hx hb dD_kindOf_6 rfl (lv_at hl 0 rfl) ?_
    refine lv_ifnonnullN hx hb dD_kindOf_7 ?_
    refine lv_iconst (v := (-1)) hx hb dD_kindOf_10 (by decide) ?_
    refine lv_goto (tgt := 18) hx hb dD_kindOf_11 (by decide) ?_
    exact mp_iret hx hb hr hlocks I (Nat.le_of_ble_eq_true rfl) (Nat.le_of_ble_eq_true rfl) dD_kindOf_18 ⟨rfl, by rw [if_neg (by omega)]⟩
abbrev rm_D_meet : Room := { frames := 1, cells := 0, slots := 0, locals := 30 }
set_option maxHeartbeats 4000000 in
set_option maxRecDepth 100000 in
theorem kD_meet (l : Launch) (D : va_G) (k : Nat → ClassId) (M : mp_M) {d av ak at_ aw as_ an : Nat} {qt qs qn : Nat → Option Nat} {sa ra : Nat → Nat} {ec tc wc sc nc : Nat} {va : Nat → Int64} {kd wt tk tf tz sk sf sw sl nn : Nat → Nat} {nv : Nat → Nat → Int64} (hD : DkX k M d av ak at_ aw as_ an qt qs qn sa ra ec tc wc sc nc va kd wt tk tf tz sk sf sw sl nn nv) (hO : OkB ec tc wc sc nc tk tf tz sk sf sw sl nn) (x y : Int32) : mp_Met l yD_meet (Cond.code yD_meet cD_meet 5 (some .boolean) :: bw) rm_D_meet D cls5 (tys6 k) [.ref d, .int x, .int y] M (va_Qi (fun r M1 => M1 = M ∧ (((0 ≤ x.toInt ∧ x.toInt < sc ∧ 0 ≤ y.toInt ∧ y.toInt < sc ∧ sf x.toInt.toNat < sf y.toInt.toNat + sw y.toInt.toNat ∧ sf y.toInt.toNat < sf x.toInt.toNat + sw x.toInt.toNat) ∧ r = nI 1) ∨ (¬ (0 ≤ x.toInt ∧ x.toInt < sc ∧ 0 ≤ y.toInt ∧ y.toInt < sc ∧ sf x.toInt.toNat < sf y.toInt.toNat + sw y.toInt.toNat ∧ sf y.toInt.toNat < sf x.toInt.toNat + sw x.toInt.toNat) ∧ r = nI 0)))) 0 0 := by
  refine mp_Met.of (by decide) (Nat.le_of_ble_eq_true rfl) ?_
  intro p e s m below meth c hx hb hr hml hown hts hlocks hin ls hl I
  have hl : lv_has ls 5 [(0, .ref d), (1, .int x), (2, .int y)] := hl
  obtain ⟨h0, hav, hak, hat, haw, has, han, hth, hsp, hsn, hij⟩ := id hD
  obtain ⟨b1, b2, b3, b4, b5, bT, bS, bN⟩ := id hO
  refine lv_aload_n hx hb dD_meet_0 rfl (lv_at hl 0 rfl) ?_
  refine lv_iload_n hx hb dD_meet_1 rfl (lv_at hl 1 rfl) ?_
  refine mp_callq (va_runV (As := [.int x]) (rest := []) ⟨hx, hb, hml, hown, hts⟩ (kD_findSpot l D k M hD hO x _) (cwV 1 hts (bw_V bw_159 bw_161 bs_4 bw_1 bw_162) rfl rfl rfl (by decide +kernel) ⟨Nat.le_of_ble_eq_true rfl, Nat.le_of_ble_eq_true rfl⟩) (mp_preV I h0 rfl _) rfl rfl hl.1 rfl (lv_room (Nat.le_of_ble_eq_true rfl)) dD_meet_2 ⟨Nat.le_of_ble_eq_true rfl, Nat.le_of_ble_eq_true rfl⟩) I (fun r_1 N1 H locs hp I => ?_)
  obtain ⟨e_2, hp⟩ := hp
  rw [e_2] at I
  rcases hp with ⟨i, a1, hii, hzi, rfl, hMa1⟩ | ⟨pni, rfl⟩
  · dsimp only [va_rf]
    have hTi := bS i hii
    have hxi : x.toInt.toNat = i := by omega
    refine lv_astore_n (lv' := [(3, .ref a1), (0, .ref d), (1, .int x), (2, .int y)]) hx hb dD_meet_5 rfl hl (by decide) rfl (fun ls hl => ?_)
    refine lv_aload_n hx hb dD_meet_6 rfl (lv_at hl 1 rfl) ?_
    refine lv_iload_n hx hb dD_meet_7 rfl (lv_at hl 3 rfl) ?_
    refine mp_callq (va_runV (As := [.int y]) (rest := []) ⟨hx, hb, hml, hown, hts⟩ (kD_findSpot l D k M hD hO y _) (cwV 1 hts (bw_V bw_159 bw_161 bs_4 bw_1 bw_162) rfl rfl rfl (by decide +kernel) ⟨Nat.le_of_ble_eq_true rfl, Nat.le_of_ble_eq_true rfl⟩) (mp_preV I h0 rfl _) rfl rfl hl.1 rfl (lv_room (Nat.le_of_ble_eq_true rfl)) dD_meet_8 ⟨Nat.le_of_ble_eq_true rfl, Nat.le_of_ble_eq_true rfl⟩) I (fun r_3 N1 H locs hp I => ?_)
    obtain ⟨e_4, hp⟩ := hp
    rw [e_4] at I
    rcases hp with ⟨j, a2, hij, hzj, rfl, hMa2⟩ | ⟨pnj, rfl⟩
    · dsimp only [va_rf]
      have hTj := bS j hij
      have hxj : y.toInt.toNat = j := by omega
      refine lv_astore (lv' := [(4, .ref a2), (3, .ref a1), (0, .ref d), (1, .int x), (2, .int y)]) hx hb dD_meet_11 hl (by decide) rfl (fun ls hl => ?_)
      refine lv_aload_n hx hb dD_meet_13 rfl (lv_at hl 1 rfl) ?_
      refine lv_ifnull hx hb dD_meet_14 ?_
      refine lv_aload hx hb dD_meet_17 (lv_at hl 0 rfl) ?_
      refine lv_ifnull hx hb dD_meet_19 ?_
      refine lv_aload_n hx hb dD_meet_22 rfl (lv_at hl 1 rfl) ?_
      refine lv_aload hx hb dD_meet_23 (lv_at hl 0 rfl) ?_
      refine mp_calli (va_runV (As := [.ref a2]) (rest := []) ⟨hx, hb, hml, hown, hts⟩ (kS_overlaps l D k M a1 a2 (sk i) (sf i) (sw i) (sl i) (sk j) (sf j) (sw j) (sl j) hMa1 hMa2 (by omega) (by omega) _) (cwV 1 hts (bw_V bw_171 bw_172 bw_173 bw_5 bw_174) rfl rfl rfl (by decide +kernel) ⟨Nat.le_of_ble_eq_true rfl, Nat.le_of_ble_eq_true rfl⟩) (mp_preV I hMa1 rfl _) rfl rfl hl.1 rfl (lv_room (Nat.le_of_ble_eq_true rfl)) dD_meet_25 ⟨Nat.le_of_ble_eq_true rfl, Nat.le_of_ble_eq_true rfl⟩) I (fun r_5 N_6 H locs hp I => ?_)
      obtain ⟨e_7, hp⟩ := hp
      rw [e_7] at I
      rcases hp with ⟨p3, rfl⟩ | ⟨p3, rfl⟩
      · refine zz_if_eq (tgt := 35) hx hb (nI_toInt (by decide)) dD_meet_28 (by decide) (fun c_8 => absurd c_8 (by decide)) (fun _ => ?_)
        refine lv_iconst (v := nI 1) hx hb dD_meet_31 (by decide) ?_
        refine lv_goto (tgt := 36) hx hb dD_meet_32 (by decide) ?_
        exact mp_zret hx hb hr hlocks I rfl (Nat.le_of_ble_eq_true rfl) (Nat.le_of_ble_eq_true rfl) dD_meet_36 ⟨rfl, Or.inl ⟨by rw [hxi, hxj]; omega, rfl⟩⟩
      · refine zz_if_eq (tgt := 35) hx hb (nI_toInt (by decide)) dD_meet_28 (by decide) (fun _ => ?_) (fun c_9 => absurd c_9 (by decide))
        refine lv_iconst (v := nI 0) hx hb dD_meet_35 (by decide) ?_
        exact mp_zret hx hb hr hlocks I rfl (Nat.le_of_ble_eq_true rfl) (Nat.le_of_ble_eq_true rfl) dD_meet_36 ⟨rfl, Or.inr ⟨by rw [hxi, hxj]; omega, rfl⟩⟩
    · dsimp only [va_rf]
      refine lv_astoreN (lv' := [(4, .null), (3, .ref a1), (0, .ref d), (1, .int x), (2, .int y)]) hx hb dD_meet_11 hl (by decide) rfl (fun ls hl => ?_)
      refine lv_aload_n hx hb dD_meet_13 rfl (lv_at hl 1 rfl) ?_
      refine lv_ifnull hx hb dD_meet_14 ?_
      refine lv_aloadN hx hb dD_meet_17 (lv_at hl 0 rfl) ?_
      refine lv_ifnullN (tgt := 35) hx hb dD_meet_19 (by decide) ?_
      refine lv_iconst (v := nI 0) hx hb dD_meet_35 (by decide) ?_
      exact mp_zret hx hb hr hlocks I rfl (Nat.le_of_ble_eq_true rfl) (Nat.le_of_ble_eq_true rfl) dD_meet_36 ⟨rfl, Or.inr ⟨by rw [hxi]; omega, rfl⟩⟩
  · dsimp only [va_rf]
    refine lv_astore_nN (lv' := [(3, .null), (0, .ref d), (1, .int x), (2, .int y)]) hx hb dD_meet_5 rfl hl (by decide) rfl (fun ls hl => ?_)
    refine lv_aload_n hx hb dD_meet_6 rfl (lv_at hl 1 rfl) ?_
    refine lv_iload_n hx hb dD_meet_7 rfl (lv_at hl 3 rfl) ?_
    refine mp_callq (va_runV (As := [.int y]) (rest := []) ⟨hx, hb, hml, hown, hts⟩ (kD_findSpot l D k M hD hO y _) (cwV 1 hts (bw_V bw_159 bw_161 bs_4 bw_1 bw_162) rfl rfl rfl (by decide +kernel) ⟨Nat.le_of_ble_eq_true rfl, Nat.le_of_ble_eq_true rfl⟩) (mp_preV I h0 rfl _) rfl rfl hl.1 rfl (lv_room (Nat.le_of_ble_eq_true rfl)) dD_meet_8 ⟨Nat.le_of_ble_eq_true rfl, Nat.le_of_ble_eq_true rfl⟩) I (fun r_10 N1 H locs hp I => ?_)
    obtain ⟨e_11, hp⟩ := hp
    rw [e_11] at I
    rcases hp with ⟨j, a2, hij, hzj, rfl, hMa2⟩ | ⟨pnj, rfl⟩
    · dsimp only [va_rf]
      have hTj := bS j hij
      have hxj : y.toInt.toNat = j := by omega
      refine lv_astore (lv' := [(4, .ref a2), (3, .null), (0, .ref d), (1, .int x), (2, .int y)]) hx hb dD_meet_11 hl (by decide) rfl (fun ls hl => ?_)
      refine lv_aload_nN hx hb dD_meet_13 rfl (lv_at hl 1 rfl) ?_
      refine lv_ifnullN (tgt := 35) hx hb dD_meet_14 (by decide) ?_
      refine lv_iconst (v := nI 0) hx hb dD_meet_35 (by decide) ?_
      exact mp_zret hx hb hr hlocks I rfl (Nat.le_of_ble_eq_true rfl) (Nat.le_of_ble_eq_true rfl) dD_meet_36 ⟨rfl, Or.inr ⟨by rw [hxj]; omega, rfl⟩⟩
    · dsimp only [va_rf]
      refine lv_astoreN (lv' := [(4, .null), (3, .null), (0, .ref d), (1, .int x), (2, .int y)]) hx hb dD_meet_11 hl (by decide) rfl (fun ls hl => ?_)
      refine lv_aload_nN hx hb dD_meet_13 rfl (lv_at hl 1 rfl) ?_
      refine lv_ifnullN (tgt := 35) hx hb dD_meet_14 (by decide) ?_
      refine lv_iconst (v := nI 0) hx hb dD_meet_35 (by decide) ?_
      exact mp_zret hx hb hr hlocks I rfl (Nat.le_of_ble_eq_true rfl) (Nat.le_of_ble_eq_true rfl) dD_meet_36 ⟨rfl, Or.inr ⟨by omega, rfl⟩⟩
