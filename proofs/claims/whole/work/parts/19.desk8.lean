abbrev rm_D_init : Room := { frames := 1, cells := 6, slots := 8432, locals := 20 }
set_option maxHeartbeats 4000000 in
set_option maxRecDepth 100000 in
theorem kD_init (l : Launch) (D : va_G) (k : Nat → ClassId) (M : mp_M) (d : Nat) (h0 : M d = some (.inr (0, [.null, .null, .int 0, .null, .int 0, .null, .int 0, .null, .int 0, .null, .int 0]))) : mp_Met l yD_init (Cond.code yD_init cD_init 1 none :: bw) rm_D_init D cls5 (tys6 k) [.ref d] M (va_Qv (fun M1 => ∃ av ak at_ aw as_ an : Nat, DkX k M1 d av ak at_ aw as_ an (fun _ => none) (fun _ => none) (fun _ => none) (fun _ => 0) (fun _ => 0) 0 0 0 0 0 (fun _ => 0) (fun _ => 0) (fun _ => 0) (fun _ => 0) (fun _ => 0) (fun _ => 0) (fun _ => 0) (fun _ => 0) (fun _ => 0) (fun _ => 0) (fun _ => 0) (fun _ _ => 0))) 6 8432 := by
  refine mp_Met.of (by decide) (Nat.le_of_ble_eq_true rfl) ?_
  intro p e s m below meth c hx hb hr hml hown hts hlocks hin ls hl I
  have hl : lv_has ls 1 [(0, .ref d)] := hl
  refine lv_aload_n hx hb dD_init_0 rfl (lv_at hl 0 rfl) ?_
  refine W.objInit hx hb hown (hts _ bw_17) (hts _ bw_18) (hts _ bw_19) rfl (by rw [hml]; exact hl.1) rfl dD_init_1 (Nat.le_of_ble_eq_true rfl) (Nat.le_of_ble_eq_true rfl) ?_
  refine W.eq (g2 := F0 m 4 ls []) rfl ?_
  refine lv_aload_n hx hb dD_init_4 rfl (lv_at hl 0 rfl) ?_
  refine lv_sipush (v := nI 4000) hx hb dD_init_5 (by decide) ?_
  refine mp_newa (atype := .long) (ty := .long) (a0 := (4000, .inr (.inl (fun _ => 0)))) hx hb (hts _ bw_60) rfl I 1 rfl (fun _ h => h) (fun _ => rfl) (by decide) (nI_clamp (by decide)) (by decide) (Nat.le_of_ble_eq_true rfl) (Nat.le_of_ble_eq_true rfl) dD_init_8 (fun q1 H hq_1 I => ?_)
  have hqq1_n : mp_up M q1 (.inl (k 1, 4000, .inr (.inl (fun _ => 0)))) q1 = some (.inl (k 1, 4000, .inr (.inl (fun _ => 0)))) := mp_up_s _ _ _
  have h0_n : mp_up M q1 (.inl (k 1, 4000, .inr (.inl (fun _ => 0)))) d = some (.inr (0, [.null, .null, .int 0, .null, .int 0, .null, .int 0, .null, .int 0, .null, .int 0])) := (mp_up_n (fun z => by rw [z, hq_1] at h0; cases h0)).trans h0
  generalize eM_3 : mp_up M q1 (.inl (k 1, 4000, .inr (.inl (fun _ => 0)))) = M_2 at I hqq1_n h0_n
  have h0__M_2 := h0_n
  have hqq1__M_2 := hqq1_n
  clear hqq1_n h0_n
  refine mp_putF (v := .ref q1) (ty := .array .long) hx hb hts inD tyD okD nmD hown I h0__M_2 rfl 0 (by decide) (hts _ bw_26) (fun _ h9 => h9) rfl hin rfl (by decide +kernel) rfl rfl (Nat.le_of_ble_eq_true rfl) dD_init_10 (fun H locs I => ?_)
  have I : mp_I D cls5 (tys6 k) s _ s.heap H locs (mp_up M_2 d (.inr (0, [.ref q1, .null, .int 0, .null, .int 0, .null, .int 0, .null, .int 0, .null, .int 0]))) := I
  have h0__M_2_n : mp_up M_2 d (.inr (0, [.ref q1, .null, .int 0, .null, .int 0, .null, .int 0, .null, .int 0, .null, .int 0])) d = some (.inr (0, [.ref q1, .null, .int 0, .null, .int 0, .null, .int 0, .null, .int 0, .null, .int 0])) := mp_up_s _ _ _
  have hqq1__M_2_n : mp_up M_2 d (.inr (0, [.ref q1, .null, .int 0, .null, .int 0, .null, .int 0, .null, .int 0, .null, .int 0])) q1 = some (.inl (k 1, 4000, .inr (.inl (fun _ => 0)))) := (mp_up_n (mp_ne hqq1__M_2 h0__M_2 (by simp))).trans hqq1__M_2
  generalize eM_5 : mp_up M_2 d (.inr (0, [.ref q1, .null, .int 0, .null, .int 0, .null, .int 0, .null, .int 0, .null, .int 0])) = M_4 at I h0__M_2_n hqq1__M_2_n
  have h0__M_4 := h0__M_2_n
  have hqq1__M_4 := hqq1__M_2_n
  clear h0__M_2_n hqq1__M_2_n
  refine lv_aload_n hx hb dD_init_13 rfl (lv_at hl 0 rfl) ?_
  refine lv_sipush (v := nI 4000) hx hb dD_init_14 (by decide) ?_
  refine mp_newa (atype := .int) (ty := .int) (a0 := (4000, .inl (fun i_ => nI ((fun _ => 0) i_)))) hx hb (hts _ bw_61) rfl I 0 rfl (fun _ h => h) (fun _ => rfl) (by decide) (nI_clamp (by decide)) (by decide) (Nat.le_of_ble_eq_true rfl) (Nat.le_of_ble_eq_true rfl) dD_init_17 (fun q2 H hq_6 I => ?_)
  have hqq2_n : mp_up M_4 q2 (.inl (k 0, 4000, .inl (fun i_ => nI ((fun _ => 0) i_)))) q2 = some (.inl (k 0, 4000, .inl (fun i_ => nI ((fun _ => 0) i_)))) := mp_up_s _ _ _
  have h0__M_4_n : mp_up M_4 q2 (.inl (k 0, 4000, .inl (fun i_ => nI ((fun _ => 0) i_)))) d = some (.inr (0, [.ref q1, .null, .int 0, .null, .int 0, .null, .int 0, .null, .int 0, .null, .int 0])) := (mp_up_n (fun z => by rw [z, hq_6] at h0__M_4; cases h0__M_4)).trans h0__M_4
  have hqq1__M_4_n : mp_up M_4 q2 (.inl (k 0, 4000, .inl (fun i_ => nI ((fun _ => 0) i_)))) q1 = some (.inl (k 1, 4000, .inr (.inl (fun _ => 0)))) := (mp_up_n (fun z => by rw [z, hq_6] at hqq1__M_4; cases hqq1__M_4)).trans hqq1__M_4
  generalize eM_8 : mp_up M_4 q2 (.inl (k 0, 4000, .inl (fun i_ => nI ((fun _ => 0) i_)))) = M_7 at I hqq2_n h0__M_4_n hqq1__M_4_n
  have h0__M_7 := h0__M_4_n
  have hqq1__M_7 := hqq1__M_4_n
  have hqq2__M_7 := hqq2_n
  clear hqq2_n h0__M_4_n hqq1__M_4_n
  refine mp_putF (v := .ref q2) (ty := .array .int) hx hb hts inD tyD okD nmD hown I h0__M_7 rfl 1 (by decide) (hts _ bw_27) (fun _ h9 => h9) rfl hin rfl (by decide +kernel) rfl rfl (Nat.le_of_ble_eq_true rfl) dD_init_19 (fun H locs I => ?_)
  have I : mp_I D cls5 (tys6 k) s _ s.heap H locs (mp_up M_7 d (.inr (0, [.ref q1, .ref q2, .int 0, .null, .int 0, .null, .int 0, .null, .int 0, .null, .int 0]))) := I
  have h0__M_7_n : mp_up M_7 d (.inr (0, [.ref q1, .ref q2, .int 0, .null, .int 0, .null, .int 0, .null, .int 0, .null, .int 0])) d = some (.inr (0, [.ref q1, .ref q2, .int 0, .null, .int 0, .null, .int 0, .null, .int 0, .null, .int 0])) := mp_up_s _ _ _
  have hqq1__M_7_n : mp_up M_7 d (.inr (0, [.ref q1, .ref q2, .int 0, .null, .int 0, .null, .int 0, .null, .int 0, .null, .int 0])) q1 = some (.inl (k 1, 4000, .inr (.inl (fun _ => 0)))) := (mp_up_n (mp_ne hqq1__M_7 h0__M_7 (by simp))).trans hqq1__M_7
  have hqq2__M_7_n : mp_up M_7 d (.inr (0, [.ref q1, .ref q2, .int 0, .null, .int 0, .null, .int 0, .null, .int 0, .null, .int 0])) q2 = some (.inl (k 0, 4000, .inl (fun i_ => nI ((fun _ => 0) i_)))) := (mp_up_n (mp_ne hqq2__M_7 h0__M_7 (by simp))).trans hqq2__M_7
  generalize eM_10 : mp_up M_7 d (.inr (0, [.ref q1, .ref q2, .int 0, .null, .int 0, .null, .int 0, .null, .int 0, .null, .int 0])) = M_9 at I h0__M_7_n hqq1__M_7_n hqq2__M_7_n
  have h0__M_9 := h0__M_7_n
  have hqq1__M_9 := hqq1__M_7_n
  have hqq2__M_9 := hqq2__M_7_n
  clear h0__M_7_n hqq1__M_7_n hqq2__M_7_n
  refine lv_aload_n hx hb dD_init_22 rfl (lv_at hl 0 rfl) ?_
  refine lv_iconst (v := nI 0) hx hb dD_init_23 (by decide) ?_
  refine mp_put (v := .int (nI 0)) (ty := .int) hx hb hts inD tyD okD nmD hown I h0__M_9 rfl 2 (by decide) (hts _ bw_28) (fun _ h9 => h9) rfl (by decide +kernel) rfl rfl (Nat.le_of_ble_eq_true rfl) dD_init_24 (fun H locs I => ?_)
  have I : mp_I D cls5 (tys6 k) s _ s.heap H locs (mp_up M_9 d (.inr (0, [.ref q1, .ref q2, .int (nI 0), .null, .int 0, .null, .int 0, .null, .int 0, .null, .int 0]))) := I
  have h0__M_9_n : mp_up M_9 d (.inr (0, [.ref q1, .ref q2, .int (nI 0), .null, .int 0, .null, .int 0, .null, .int 0, .null, .int 0])) d = some (.inr (0, [.ref q1, .ref q2, .int (nI 0), .null, .int 0, .null, .int 0, .null, .int 0, .null, .int 0])) := mp_up_s _ _ _
  have hqq1__M_9_n : mp_up M_9 d (.inr (0, [.ref q1, .ref q2, .int (nI 0), .null, .int 0, .null, .int 0, .null, .int 0, .null, .int 0])) q1 = some (.inl (k 1, 4000, .inr (.inl (fun _ => 0)))) := (mp_up_n (mp_ne hqq1__M_9 h0__M_9 (by simp))).trans hqq1__M_9
  have hqq2__M_9_n : mp_up M_9 d (.inr (0, [.ref q1, .ref q2, .int (nI 0), .null, .int 0, .null, .int 0, .null, .int 0, .null, .int 0])) q2 = some (.inl (k 0, 4000, .inl (fun i_ => nI ((fun _ => 0) i_)))) := (mp_up_n (mp_ne hqq2__M_9 h0__M_9 (by simp))).trans hqq2__M_9
  generalize eM_12 : mp_up M_9 d (.inr (0, [.ref q1, .ref q2, .int (nI 0), .null, .int 0, .null, .int 0, .null, .int 0, .null, .int 0])) = M_11 at I h0__M_9_n hqq1__M_9_n hqq2__M_9_n
  have h0__M_11 := h0__M_9_n
  have hqq1__M_11 := hqq1__M_9_n
  have hqq2__M_11 := hqq2__M_9_n
  clear h0__M_9_n hqq1__M_9_n hqq2__M_9_n
  refine lv_aload_n hx hb dD_init_27 rfl (lv_at hl 0 rfl) ?_
  refine lv_sipush (v := nI 300) hx hb dD_init_28 (by decide) ?_
  refine mp_newq hx hb hown (hts _ bw_20) I.1.2.2.1 I 2 rfl (by decide) (nI_clamp (by decide)) (by decide) (Nat.le_of_ble_eq_true rfl) (Nat.le_of_ble_eq_true rfl) dD_init_31 (fun q3 H hq_13 I => ?_)
  have hqq3_n : mp_up M_11 q3 (.inl (k 2, 300, .inr (.inr (.inr (.inr (fun _ => none)))))) q3 = some (.inl (k 2, 300, .inr (.inr (.inr (.inr (fun _ => none)))))) := mp_up_s _ _ _
  have h0__M_11_n : mp_up M_11 q3 (.inl (k 2, 300, .inr (.inr (.inr (.inr (fun _ => none)))))) d = some (.inr (0, [.ref q1, .ref q2, .int (nI 0), .null, .int 0, .null, .int 0, .null, .int 0, .null, .int 0])) := (mp_up_n (fun z => by rw [z, hq_13] at h0__M_11; cases h0__M_11)).trans h0__M_11
  have hqq1__M_11_n : mp_up M_11 q3 (.inl (k 2, 300, .inr (.inr (.inr (.inr (fun _ => none)))))) q1 = some (.inl (k 1, 4000, .inr (.inl (fun _ => 0)))) := (mp_up_n (fun z => by rw [z, hq_13] at hqq1__M_11; cases hqq1__M_11)).trans hqq1__M_11
  have hqq2__M_11_n : mp_up M_11 q3 (.inl (k 2, 300, .inr (.inr (.inr (.inr (fun _ => none)))))) q2 = some (.inl (k 0, 4000, .inl (fun i_ => nI ((fun _ => 0) i_)))) := (mp_up_n (fun z => by rw [z, hq_13] at hqq2__M_11; cases hqq2__M_11)).trans hqq2__M_11
  generalize eM_15 : mp_up M_11 q3 (.inl (k 2, 300, .inr (.inr (.inr (.inr (fun _ => none)))))) = M_14 at I hqq3_n h0__M_11_n hqq1__M_11_n hqq2__M_11_n
  have h0__M_14 := h0__M_11_n
  have hqq1__M_14 := hqq1__M_11_n
  have hqq2__M_14 := hqq2__M_11_n
  have hqq3__M_14 := hqq3_n
  clear hqq3_n h0__M_11_n hqq1__M_11_n hqq2__M_11_n
  refine mp_putF (v := .ref q3) (ty := .array (.object "PlaceDesk$Thing")) hx hb hts inD tyD okD nmD hown I h0__M_14 rfl 3 (by decide) (hts _ bw_29) (fun _ h9 => h9) rfl hin rfl (by decide +kernel) rfl rfl (Nat.le_of_ble_eq_true rfl) dD_init_34 (fun H locs I => ?_)
  have I : mp_I D cls5 (tys6 k) s _ s.heap H locs (mp_up M_14 d (.inr (0, [.ref q1, .ref q2, .int (nI 0), .ref q3, .int 0, .null, .int 0, .null, .int 0, .null, .int 0]))) := I
  have h0__M_14_n : mp_up M_14 d (.inr (0, [.ref q1, .ref q2, .int (nI 0), .ref q3, .int 0, .null, .int 0, .null, .int 0, .null, .int 0])) d = some (.inr (0, [.ref q1, .ref q2, .int (nI 0), .ref q3, .int 0, .null, .int 0, .null, .int 0, .null, .int 0])) := mp_up_s _ _ _
  have hqq1__M_14_n : mp_up M_14 d (.inr (0, [.ref q1, .ref q2, .int (nI 0), .ref q3, .int 0, .null, .int 0, .null, .int 0, .null, .int 0])) q1 = some (.inl (k 1, 4000, .inr (.inl (fun _ => 0)))) := (mp_up_n (mp_ne hqq1__M_14 h0__M_14 (by simp))).trans hqq1__M_14
  have hqq2__M_14_n : mp_up M_14 d (.inr (0, [.ref q1, .ref q2, .int (nI 0), .ref q3, .int 0, .null, .int 0, .null, .int 0, .null, .int 0])) q2 = some (.inl (k 0, 4000, .inl (fun i_ => nI ((fun _ => 0) i_)))) := (mp_up_n (mp_ne hqq2__M_14 h0__M_14 (by simp))).trans hqq2__M_14
  have hqq3__M_14_n : mp_up M_14 d (.inr (0, [.ref q1, .ref q2, .int (nI 0), .ref q3, .int 0, .null, .int 0, .null, .int 0, .null, .int 0])) q3 = some (.inl (k 2, 300, .inr (.inr (.inr (.inr (fun _ => none)))))) := (mp_up_n (mp_ne hqq3__M_14 h0__M_14 (by simp))).trans hqq3__M_14
  generalize eM_17 : mp_up M_14 d (.inr (0, [.ref q1, .ref q2, .int (nI 0), .ref q3, .int 0, .null, .int 0, .null, .int 0, .null, .int 0])) = M_16 at I h0__M_14_n hqq1__M_14_n hqq2__M_14_n hqq3__M_14_n
  have h0__M_16 := h0__M_14_n
  have hqq1__M_16 := hqq1__M_14_n
  have hqq2__M_16 := hqq2__M_14_n
  have hqq3__M_16 := hqq3__M_14_n
  clear h0__M_14_n hqq1__M_14_n hqq2__M_14_n hqq3__M_14_n
  refine lv_aload_n hx hb dD_init_37 rfl (lv_at hl 0 rfl) ?_
  refine lv_iconst (v := nI 0) hx hb dD_init_38 (by decide) ?_
  refine mp_put (v := .int (nI 0)) (ty := .int) hx hb hts inD tyD okD nmD hown I h0__M_16 rfl 4 (by decide) (hts _ bw_30) (fun _ h9 => h9) rfl (by decide +kernel) rfl rfl (Nat.le_of_ble_eq_true rfl) dD_init_39 (fun H locs I => ?_)
  have I : mp_I D cls5 (tys6 k) s _ s.heap H locs (mp_up M_16 d (.inr (0, [.ref q1, .ref q2, .int (nI 0), .ref q3, .int (nI 0), .null, .int 0, .null, .int 0, .null, .int 0]))) := I
  have h0__M_16_n : mp_up M_16 d (.inr (0, [.ref q1, .ref q2, .int (nI 0), .ref q3, .int (nI 0), .null, .int 0, .null, .int 0, .null, .int 0])) d = some (.inr (0, [.ref q1, .ref q2, .int (nI 0), .ref q3, .int (nI 0), .null, .int 0, .null, .int 0, .null, .int 0])) := mp_up_s _ _ _
  have hqq1__M_16_n : mp_up M_16 d (.inr (0, [.ref q1, .ref q2, .int (nI 0), .ref q3, .int (nI 0), .null, .int 0, .null, .int 0, .null, .int 0])) q1 = some (.inl (k 1, 4000, .inr (.inl (fun _ => 0)))) := (mp_up_n (mp_ne hqq1__M_16 h0__M_16 (by simp))).trans hqq1__M_16
  have hqq2__M_16_n : mp_up M_16 d (.inr (0, [.ref q1, .ref q2, .int (nI 0), .ref q3, .int (nI 0), .null, .int 0, .null, .int 0, .null, .int 0])) q2 = some (.inl (k 0, 4000, .inl (fun i_ => nI ((fun _ => 0) i_)))) := (mp_up_n (mp_ne hqq2__M_16 h0__M_16 (by simp))).trans hqq2__M_16
  have hqq3__M_16_n : mp_up M_16 d (.inr (0, [.ref q1, .ref q2, .int (nI 0), .ref q3, .int (nI 0), .null, .int 0, .null, .int 0, .null, .int 0])) q3 = some (.inl (k 2, 300, .inr (.inr (.inr (.inr (fun _ => none)))))) := (mp_up_n (mp_ne hqq3__M_16 h0__M_16 (by simp))).trans hqq3__M_16
  generalize eM_19 : mp_up M_16 d (.inr (0, [.ref q1, .ref q2, .int (nI 0), .ref q3, .int (nI 0), .null, .int 0, .null, .int 0, .null, .int 0])) = M_18 at I h0__M_16_n hqq1__M_16_n hqq2__M_16_n hqq3__M_16_n
  have h0__M_18 := h0__M_16_n
  have hqq1__M_18 := hqq1__M_16_n
  have hqq2__M_18 := hqq2__M_16_n
  have hqq3__M_18 := hqq3__M_16_n
  clear h0__M_16_n hqq1__M_16_n hqq2__M_16_n hqq3__M_16_n
  refine lv_aload_n hx hb dD_init_42 rfl (lv_at hl 0 rfl) ?_
  refine lv_bipush (v := nI 12) hx hb dD_init_43 (by decide) ?_
  refine mp_newa (atype := .int) (ty := .int) (a0 := (12, .inl (fun i_ => nI ((fun _ => 0) i_)))) hx hb (hts _ bw_61) rfl I 0 rfl (fun _ h => h) (fun _ => rfl) (by decide) (nI_clamp (by decide)) (by decide) (Nat.le_of_ble_eq_true rfl) (Nat.le_of_ble_eq_true rfl) dD_init_45 (fun q4 H hq_20 I => ?_)
  have hqq4_n : mp_up M_18 q4 (.inl (k 0, 12, .inl (fun i_ => nI ((fun _ => 0) i_)))) q4 = some (.inl (k 0, 12, .inl (fun i_ => nI ((fun _ => 0) i_)))) := mp_up_s _ _ _
  have h0__M_18_n : mp_up M_18 q4 (.inl (k 0, 12, .inl (fun i_ => nI ((fun _ => 0) i_)))) d = some (.inr (0, [.ref q1, .ref q2, .int (nI 0), .ref q3, .int (nI 0), .null, .int 0, .null, .int 0, .null, .int 0])) := (mp_up_n (fun z => by rw [z, hq_20] at h0__M_18; cases h0__M_18)).trans h0__M_18
  have hqq1__M_18_n : mp_up M_18 q4 (.inl (k 0, 12, .inl (fun i_ => nI ((fun _ => 0) i_)))) q1 = some (.inl (k 1, 4000, .inr (.inl (fun _ => 0)))) := (mp_up_n (fun z => by rw [z, hq_20] at hqq1__M_18; cases hqq1__M_18)).trans hqq1__M_18
  have hqq2__M_18_n : mp_up M_18 q4 (.inl (k 0, 12, .inl (fun i_ => nI ((fun _ => 0) i_)))) q2 = some (.inl (k 0, 4000, .inl (fun i_ => nI ((fun _ => 0) i_)))) := (mp_up_n (fun z => by rw [z, hq_20] at hqq2__M_18; cases hqq2__M_18)).trans hqq2__M_18
  have hqq3__M_18_n : mp_up M_18 q4 (.inl (k 0, 12, .inl (fun i_ => nI ((fun _ => 0) i_)))) q3 = some (.inl (k 2, 300, .inr (.inr (.inr (.inr (fun _ => none)))))) := (mp_up_n (fun z => by rw [z, hq_20] at hqq3__M_18; cases hqq3__M_18)).trans hqq3__M_18
  generalize eM_22 : mp_up M_18 q4 (.inl (k 0, 12, .inl (fun i_ => nI ((fun _ => 0) i_)))) = M_21 at I hqq4_n h0__M_18_n hqq1__M_18_n hqq2__M_18_n hqq3__M_18_n
  have h0__M_21 := h0__M_18_n
  have hqq1__M_21 := hqq1__M_18_n
  have hqq2__M_21 := hqq2__M_18_n
  have hqq3__M_21 := hqq3__M_18_n
  have hqq4__M_21 := hqq4_n
  clear hqq4_n h0__M_18_n hqq1__M_18_n hqq2__M_18_n hqq3__M_18_n
  refine mp_putF (v := .ref q4) (ty := .array .int) hx hb hts inD tyD okD nmD hown I h0__M_21 rfl 5 (by decide) (hts _ bw_31) (fun _ h9 => h9) rfl hin rfl (by decide +kernel) rfl rfl (Nat.le_of_ble_eq_true rfl) dD_init_47 (fun H locs I => ?_)
  have I : mp_I D cls5 (tys6 k) s _ s.heap H locs (mp_up M_21 d (.inr (0, [.ref q1, .ref q2, .int (nI 0), .ref q3, .int (nI 0), .ref q4, .int 0, .null, .int 0, .null, .int 0]))) := I
  have h0__M_21_n : mp_up M_21 d (.inr (0, [.ref q1, .ref q2, .int (nI 0), .ref q3, .int (nI 0), .ref q4, .int 0, .null, .int 0, .null, .int 0])) d = some (.inr (0, [.ref q1, .ref q2, .int (nI 0), .ref q3, .int (nI 0), .ref q4, .int 0, .null, .int 0, .null, .int 0])) := mp_up_s _ _ _
  have hqq1__M_21_n : mp_up M_21 d (.inr (0, [.ref q1, .ref q2, .int (nI 0), .ref q3, .int (nI 0), .ref q4, .int 0, .null, .int 0, .null, .int 0])) q1 = some (.inl (k 1, 4000, .inr (.inl (fun _ => 0)))) := (mp_up_n (mp_ne hqq1__M_21 h0__M_21 (by simp))).trans hqq1__M_21
  have hqq2__M_21_n : mp_up M_21 d (.inr (0, [.ref q1, .ref q2, .int (nI 0), .ref q3, .int (nI 0), .ref q4, .int 0, .null, .int 0, .null, .int 0])) q2 = some (.inl (k 0, 4000, .inl (fun i_ => nI ((fun _ => 0) i_)))) := (mp_up_n (mp_ne hqq2__M_21 h0__M_21 (by simp))).trans hqq2__M_21
  have hqq3__M_21_n : mp_up M_21 d (.inr (0, [.ref q1, .ref q2, .int (nI 0), .ref q3, .int (nI 0), .ref q4, .int 0, .null, .int 0, .null, .int 0])) q3 = some (.inl (k 2, 300, .inr (.inr (.inr (.inr (fun _ => none)))))) := (mp_up_n (mp_ne hqq3__M_21 h0__M_21 (by simp))).trans hqq3__M_21
  have hqq4__M_21_n : mp_up M_21 d (.inr (0, [.ref q1, .ref q2, .int (nI 0), .ref q3, .int (nI 0), .ref q4, .int 0, .null, .int 0, .null, .int 0])) q4 = some (.inl (k 0, 12, .inl (fun i_ => nI ((fun _ => 0) i_)))) := (mp_up_n (mp_ne hqq4__M_21 h0__M_21 (by simp))).trans hqq4__M_21
  generalize eM_24 : mp_up M_21 d (.inr (0, [.ref q1, .ref q2, .int (nI 0), .ref q3, .int (nI 0), .ref q4, .int 0, .null, .int 0, .null, .int 0])) = M_23 at I h0__M_21_n hqq1__M_21_n hqq2__M_21_n hqq3__M_21_n hqq4__M_21_n
  have h0__M_23 := h0__M_21_n
  have hqq1__M_23 := hqq1__M_21_n
  have hqq2__M_23 := hqq2__M_21_n
  have hqq3__M_23 := hqq3__M_21_n
  have hqq4__M_23 := hqq4__M_21_n
  clear h0__M_21_n hqq1__M_21_n hqq2__M_21_n hqq3__M_21_n hqq4__M_21_n
  refine lv_aload_n hx hb dD_init_50 rfl (lv_at hl 0 rfl) ?_
  refine lv_iconst (v := nI 0) hx hb dD_init_51 (by decide) ?_
  refine mp_put (v := .int (nI 0)) (ty := .int) hx hb hts inD tyD okD nmD hown I h0__M_23 rfl 6 (by decide) (hts _ bw_32) (fun _ h9 => h9) rfl (by decide +kernel) rfl rfl (Nat.le_of_ble_eq_true rfl) dD_init_52 (fun H locs I => ?_)
  have I : mp_I D cls5 (tys6 k) s _ s.heap H locs (mp_up M_23 d (.inr (0, [.ref q1, .ref q2, .int (nI 0), .ref q3, .int (nI 0), .ref q4, .int (nI 0), .null, .int 0, .null, .int 0]))) := I
  have h0__M_23_n : mp_up M_23 d (.inr (0, [.ref q1, .ref q2, .int (nI 0), .ref q3, .int (nI 0), .ref q4, .int (nI 0), .null, .int 0, .null, .int 0])) d = some (.inr (0, [.ref q1, .ref q2, .int (nI 0), .ref q3, .int (nI 0), .ref q4, .int (nI 0), .null, .int 0, .null, .int 0])) := mp_up_s _ _ _
  have hqq1__M_23_n : mp_up M_23 d (.inr (0, [.ref q1, .ref q2, .int (nI 0), .ref q3, .int (nI 0), .ref q4, .int (nI 0), .null, .int 0, .null, .int 0])) q1 = some (.inl (k 1, 4000, .inr (.inl (fun _ => 0)))) := (mp_up_n (mp_ne hqq1__M_23 h0__M_23 (by simp))).trans hqq1__M_23
  have hqq2__M_23_n : mp_up M_23 d (.inr (0, [.ref q1, .ref q2, .int (nI 0), .ref q3, .int (nI 0), .ref q4, .int (nI 0), .null, .int 0, .null, .int 0])) q2 = some (.inl (k 0, 4000, .inl (fun i_ => nI ((fun _ => 0) i_)))) := (mp_up_n (mp_ne hqq2__M_23 h0__M_23 (by simp))).trans hqq2__M_23
  have hqq3__M_23_n : mp_up M_23 d (.inr (0, [.ref q1, .ref q2, .int (nI 0), .ref q3, .int (nI 0), .ref q4, .int (nI 0), .null, .int 0, .null, .int 0])) q3 = some (.inl (k 2, 300, .inr (.inr (.inr (.inr (fun _ => none)))))) := (mp_up_n (mp_ne hqq3__M_23 h0__M_23 (by simp))).trans hqq3__M_23
  have hqq4__M_23_n : mp_up M_23 d (.inr (0, [.ref q1, .ref q2, .int (nI 0), .ref q3, .int (nI 0), .ref q4, .int (nI 0), .null, .int 0, .null, .int 0])) q4 = some (.inl (k 0, 12, .inl (fun i_ => nI ((fun _ => 0) i_)))) := (mp_up_n (mp_ne hqq4__M_23 h0__M_23 (by simp))).trans hqq4__M_23
  generalize eM_26 : mp_up M_23 d (.inr (0, [.ref q1, .ref q2, .int (nI 0), .ref q3, .int (nI 0), .ref q4, .int (nI 0), .null, .int 0, .null, .int 0])) = M_25 at I h0__M_23_n hqq1__M_23_n hqq2__M_23_n hqq3__M_23_n hqq4__M_23_n
  have h0__M_25 := h0__M_23_n
  have hqq1__M_25 := hqq1__M_23_n
  have hqq2__M_25 := hqq2__M_23_n
  have hqq3__M_25 := hqq3__M_23_n
  have hqq4__M_25 := hqq4__M_23_n
  clear h0__M_23_n hqq1__M_23_n hqq2__M_23_n hqq3__M_23_n hqq4__M_23_n
  refine lv_aload_n hx hb dD_init_55 rfl (lv_at hl 0 rfl) ?_
  refine lv_bipush (v := nI 100) hx hb dD_init_56 (by decide) ?_
  refine mp_newq hx hb hown (hts _ bw_22) I.1.2.2.2.1 I 3 rfl (by decide) (nI_clamp (by decide)) (by decide) (Nat.le_of_ble_eq_true rfl) (Nat.le_of_ble_eq_true rfl) dD_init_58 (fun q5 H hq_27 I => ?_)
  have hqq5_n : mp_up M_25 q5 (.inl (k 3, 100, .inr (.inr (.inr (.inr (fun _ => none)))))) q5 = some (.inl (k 3, 100, .inr (.inr (.inr (.inr (fun _ => none)))))) := mp_up_s _ _ _
  have h0__M_25_n : mp_up M_25 q5 (.inl (k 3, 100, .inr (.inr (.inr (.inr (fun _ => none)))))) d = some (.inr (0, [.ref q1, .ref q2, .int (nI 0), .ref q3, .int (nI 0), .ref q4, .int (nI 0), .null, .int 0, .null, .int 0])) := (mp_up_n (fun z => by rw [z, hq_27] at h0__M_25; cases h0__M_25)).trans h0__M_25
  have hqq1__M_25_n : mp_up M_25 q5 (.inl (k 3, 100, .inr (.inr (.inr (.inr (fun _ => none)))))) q1 = some (.inl (k 1, 4000, .inr (.inl (fun _ => 0)))) := (mp_up_n (fun z => by rw [z, hq_27] at hqq1__M_25; cases hqq1__M_25)).trans hqq1__M_25
  have hqq2__M_25_n : mp_up M_25 q5 (.inl (k 3, 100, .inr (.inr (.inr (.inr (fun _ => none)))))) q2 = some (.inl (k 0, 4000, .inl (fun i_ => nI ((fun _ => 0) i_)))) := (mp_up_n (fun z => by rw [z, hq_27] at hqq2__M_25; cases hqq2__M_25)).trans hqq2__M_25
  have hqq3__M_25_n : mp_up M_25 q5 (.inl (k 3, 100, .inr (.inr (.inr (.inr (fun _ => none)))))) q3 = some (.inl (k 2, 300, .inr (.inr (.inr (.inr (fun _ => none)))))) := (mp_up_n (fun z => by rw [z, hq_27] at hqq3__M_25; cases hqq3__M_25)).trans hqq3__M_25
  have hqq4__M_25_n : mp_up M_25 q5 (.inl (k 3, 100, .inr (.inr (.inr (.inr (fun _ => none)))))) q4 = some (.inl (k 0, 12, .inl (fun i_ => nI ((fun _ => 0) i_)))) := (mp_up_n (fun z => by rw [z, hq_27] at hqq4__M_25; cases hqq4__M_25)).trans hqq4__M_25
  generalize eM_29 : mp_up M_25 q5 (.inl (k 3, 100, .inr (.inr (.inr (.inr (fun _ => none)))))) = M_28 at I hqq5_n h0__M_25_n hqq1__M_25_n hqq2__M_25_n hqq3__M_25_n hqq4__M_25_n
  have h0__M_28 := h0__M_25_n
  have hqq1__M_28 := hqq1__M_25_n
  have hqq2__M_28 := hqq2__M_25_n
  have hqq3__M_28 := hqq3__M_25_n
  have hqq4__M_28 := hqq4__M_25_n
  have hqq5__M_28 := hqq5_n
  clear hqq5_n h0__M_25_n hqq1__M_25_n hqq2__M_25_n hqq3__M_25_n hqq4__M_25_n
  refine mp_putF (v := .ref q5) (ty := .array (.object "PlaceDesk$Spot")) hx hb hts inD tyD okD nmD hown I h0__M_28 rfl 7 (by decide) (hts _ bw_33) (fun _ h9 => h9) rfl hin rfl (by decide +kernel) rfl rfl (Nat.le_of_ble_eq_true rfl) dD_init_61 (fun H locs I => ?_)
  have I : mp_I D cls5 (tys6 k) s _ s.heap H locs (mp_up M_28 d (.inr (0, [.ref q1, .ref q2, .int (nI 0), .ref q3, .int (nI 0), .ref q4, .int (nI 0), .ref q5, .int 0, .null, .int 0]))) := I
  have h0__M_28_n : mp_up M_28 d (.inr (0, [.ref q1, .ref q2, .int (nI 0), .ref q3, .int (nI 0), .ref q4, .int (nI 0), .ref q5, .int 0, .null, .int 0])) d = some (.inr (0, [.ref q1, .ref q2, .int (nI 0), .ref q3, .int (nI 0), .ref q4, .int (nI 0), .ref q5, .int 0, .null, .int 0])) := mp_up_s _ _ _
  have hqq1__M_28_n : mp_up M_28 d (.inr (0, [.ref q1, .ref q2, .int (nI 0), .ref q3, .int (nI 0), .ref q4, .int (nI 0), .ref q5, .int 0, .null, .int 0])) q1 = some (.inl (k 1, 4000, .inr (.inl (fun _ => 0)))) := (mp_up_n (mp_ne hqq1__M_28 h0__M_28 (by simp))).trans hqq1__M_28
  have hqq2__M_28_n : mp_up M_28 d (.inr (0, [.ref q1, .ref q2, .int (nI 0), .ref q3, .int (nI 0), .ref q4, .int (nI 0), .ref q5, .int 0, .null, .int 0])) q2 = some (.inl (k 0, 4000, .inl (fun i_ => nI ((fun _ => 0) i_)))) := (mp_up_n (mp_ne hqq2__M_28 h0__M_28 (by simp))).trans hqq2__M_28
  have hqq3__M_28_n : mp_up M_28 d (.inr (0, [.ref q1, .ref q2, .int (nI 0), .ref q3, .int (nI 0), .ref q4, .int (nI 0), .ref q5, .int 0, .null, .int 0])) q3 = some (.inl (k 2, 300, .inr (.inr (.inr (.inr (fun _ => none)))))) := (mp_up_n (mp_ne hqq3__M_28 h0__M_28 (by simp))).trans hqq3__M_28
  have hqq4__M_28_n : mp_up M_28 d (.inr (0, [.ref q1, .ref q2, .int (nI 0), .ref q3, .int (nI 0), .ref q4, .int (nI 0), .ref q5, .int 0, .null, .int 0])) q4 = some (.inl (k 0, 12, .inl (fun i_ => nI ((fun _ => 0) i_)))) := (mp_up_n (mp_ne hqq4__M_28 h0__M_28 (by simp))).trans hqq4__M_28
  have hqq5__M_28_n : mp_up M_28 d (.inr (0, [.ref q1, .ref q2, .int (nI 0), .ref q3, .int (nI 0), .ref q4, .int (nI 0), .ref q5, .int 0, .null, .int 0])) q5 = some (.inl (k 3, 100, .inr (.inr (.inr (.inr (fun _ => none)))))) := (mp_up_n (mp_ne hqq5__M_28 h0__M_28 (by simp))).trans hqq5__M_28
  generalize eM_31 : mp_up M_28 d (.inr (0, [.ref q1, .ref q2, .int (nI 0), .ref q3, .int (nI 0), .ref q4, .int (nI 0), .ref q5, .int 0, .null, .int 0])) = M_30 at I h0__M_28_n hqq1__M_28_n hqq2__M_28_n hqq3__M_28_n hqq4__M_28_n hqq5__M_28_n
  have h0__M_30 := h0__M_28_n
  have hqq1__M_30 := hqq1__M_28_n
  have hqq2__M_30 := hqq2__M_28_n
  have hqq3__M_30 := hqq3__M_28_n
  have hqq4__M_30 := hqq4__M_28_n
  have hqq5__M_30 := hqq5__M_28_n
  clear h0__M_28_n hqq1__M_28_n hqq2__M_28_n hqq3__M_28_n hqq4__M_28_n hqq5__M_28_n
  refine lv_aload_n hx hb dD_init_64 rfl (lv_at hl 0 rfl) ?_
  refine lv_iconst (v := nI 0) hx hb dD_init_65 (by decide) ?_
  refine mp_put (v := .int (nI 0)) (ty := .int) hx hb hts inD tyD okD nmD hown I h0__M_30 rfl 8 (by decide) (hts _ bw_34) (fun _ h9 => h9) rfl (by decide +kernel) rfl rfl (Nat.le_of_ble_eq_true rfl) dD_init_66 (fun H locs I => ?_)
  have I : mp_I D cls5 (tys6 k) s _ s.heap H locs (mp_up M_30 d (.inr (0, [.ref q1, .ref q2, .int (nI 0), .ref q3, .int (nI 0), .ref q4, .int (nI 0), .ref q5, .int (nI 0), .null, .int 0]))) := I
  have h0__M_30_n : mp_up M_30 d (.inr (0, [.ref q1, .ref q2, .int (nI 0), .ref q3, .int (nI 0), .ref q4, .int (nI 0), .ref q5, .int (nI 0), .null, .int 0])) d = some (.inr (0, [.ref q1, .ref q2, .int (nI 0), .ref q3, .int (nI 0), .ref q4, .int (nI 0), .ref q5, .int (nI 0), .null, .int 0])) := mp_up_s _ _ _
  have hqq1__M_30_n : mp_up M_30 d (.inr (0, [.ref q1, .ref q2, .int (nI 0), .ref q3, .int (nI 0), .ref q4, .int (nI 0), .ref q5, .int (nI 0), .null, .int 0])) q1 = some (.inl (k 1, 4000, .inr (.inl (fun _ => 0)))) := (mp_up_n (mp_ne hqq1__M_30 h0__M_30 (by simp))).trans hqq1__M_30
  have hqq2__M_30_n : mp_up M_30 d (.inr (0, [.ref q1, .ref q2, .int (nI 0), .ref q3, .int (nI 0), .ref q4, .int (nI 0), .ref q5, .int (nI 0), .null, .int 0])) q2 = some (.inl (k 0, 4000, .inl (fun i_ => nI ((fun _ => 0) i_)))) := (mp_up_n (mp_ne hqq2__M_30 h0__M_30 (by simp))).trans hqq2__M_30
  have hqq3__M_30_n : mp_up M_30 d (.inr (0, [.ref q1, .ref q2, .int (nI 0), .ref q3, .int (nI 0), .ref q4, .int (nI 0), .ref q5, .int (nI 0), .null, .int 0])) q3 = some (.inl (k 2, 300, .inr (.inr (.inr (.inr (fun _ => none)))))) := (mp_up_n (mp_ne hqq3__M_30 h0__M_30 (by simp))).trans hqq3__M_30
  have hqq4__M_30_n : mp_up M_30 d (.inr (0, [.ref q1, .ref q2, .int (nI 0), .ref q3, .int (nI 0), .ref q4, .int (nI 0), .ref q5, .int (nI 0), .null, .int 0])) q4 = some (.inl (k 0, 12, .inl (fun i_ => nI ((fun _ => 0) i_)))) := (mp_up_n (mp_ne hqq4__M_30 h0__M_30 (by simp))).trans hqq4__M_30
  have hqq5__M_30_n : mp_up M_30 d (.inr (0, [.ref q1, .ref q2, .int (nI 0), .ref q3, .int (nI 0), .ref q4, .int (nI 0), .ref q5, .int (nI 0), .null, .int 0])) q5 = some (.inl (k 3, 100, .inr (.inr (.inr (.inr (fun _ => none)))))) := (mp_up_n (mp_ne hqq5__M_30 h0__M_30 (by simp))).trans hqq5__M_30
  generalize eM_33 : mp_up M_30 d (.inr (0, [.ref q1, .ref q2, .int (nI 0), .ref q3, .int (nI 0), .ref q4, .int (nI 0), .ref q5, .int (nI 0), .null, .int 0])) = M_32 at I h0__M_30_n hqq1__M_30_n hqq2__M_30_n hqq3__M_30_n hqq4__M_30_n hqq5__M_30_n
  have h0__M_32 := h0__M_30_n
  have hqq1__M_32 := hqq1__M_30_n
  have hqq2__M_32 := hqq2__M_30_n
  have hqq3__M_32 := hqq3__M_30_n
  have hqq4__M_32 := hqq4__M_30_n
  have hqq5__M_32 := hqq5__M_30_n
  clear h0__M_30_n hqq1__M_30_n hqq2__M_30_n hqq3__M_30_n hqq4__M_30_n hqq5__M_30_n
  refine lv_aload_n hx hb dD_init_69 rfl (lv_at hl 0 rfl) ?_
  refine lv_bipush (v := nI 20) hx hb dD_init_70 (by decide) ?_
  refine mp_newq hx hb hown (hts _ bw_24) I.1.2.2.2.2 I 4 rfl (by decide) (nI_clamp (by decide)) (by decide) (Nat.le_of_ble_eq_true rfl) (Nat.le_of_ble_eq_true rfl) dD_init_72 (fun q6 H hq_34 I => ?_)
  have hqq6_n : mp_up M_32 q6 (.inl (k 4, 20, .inr (.inr (.inr (.inr (fun _ => none)))))) q6 = some (.inl (k 4, 20, .inr (.inr (.inr (.inr (fun _ => none)))))) := mp_up_s _ _ _
  have h0__M_32_n : mp_up M_32 q6 (.inl (k 4, 20, .inr (.inr (.inr (.inr (fun _ => none)))))) d = some (.inr (0, [.ref q1, .ref q2, .int (nI 0), .ref q3, .int (nI 0), .ref q4, .int (nI 0), .ref q5, .int (nI 0), .null, .int 0])) := (mp_up_n (fun z => by rw [z, hq_34] at h0__M_32; cases h0__M_32)).trans h0__M_32
  have hqq1__M_32_n : mp_up M_32 q6 (.inl (k 4, 20, .inr (.inr (.inr (.inr (fun _ => none)))))) q1 = some (.inl (k 1, 4000, .inr (.inl (fun _ => 0)))) := (mp_up_n (fun z => by rw [z, hq_34] at hqq1__M_32; cases hqq1__M_32)).trans hqq1__M_32
  have hqq2__M_32_n : mp_up M_32 q6 (.inl (k 4, 20, .inr (.inr (.inr (.inr (fun _ => none)))))) q2 = some (.inl (k 0, 4000, .inl (fun i_ => nI ((fun _ => 0) i_)))) := (mp_up_n (fun z => by rw [z, hq_34] at hqq2__M_32; cases hqq2__M_32)).trans hqq2__M_32
  have hqq3__M_32_n : mp_up M_32 q6 (.inl (k 4, 20, .inr (.inr (.inr (.inr (fun _ => none)))))) q3 = some (.inl (k 2, 300, .inr (.inr (.inr (.inr (fun _ => none)))))) := (mp_up_n (fun z => by rw [z, hq_34] at hqq3__M_32; cases hqq3__M_32)).trans hqq3__M_32
  have hqq4__M_32_n : mp_up M_32 q6 (.inl (k 4, 20, .inr (.inr (.inr (.inr (fun _ => none)))))) q4 = some (.inl (k 0, 12, .inl (fun i_ => nI ((fun _ => 0) i_)))) := (mp_up_n (fun z => by rw [z, hq_34] at hqq4__M_32; cases hqq4__M_32)).trans hqq4__M_32
  have hqq5__M_32_n : mp_up M_32 q6 (.inl (k 4, 20, .inr (.inr (.inr (.inr (fun _ => none)))))) q5 = some (.inl (k 3, 100, .inr (.inr (.inr (.inr (fun _ => none)))))) := (mp_up_n (fun z => by rw [z, hq_34] at hqq5__M_32; cases hqq5__M_32)).trans hqq5__M_32
  generalize eM_36 : mp_up M_32 q6 (.inl (k 4, 20, .inr (.inr (.inr (.inr (fun _ => none)))))) = M_35 at I hqq6_n h0__M_32_n hqq1__M_32_n hqq2__M_32_n hqq3__M_32_n hqq4__M_32_n hqq5__M_32_n
  have h0__M_35 := h0__M_32_n
  have hqq1__M_35 := hqq1__M_32_n
  have hqq2__M_35 := hqq2__M_32_n
  have hqq3__M_35 := hqq3__M_32_n
  have hqq4__M_35 := hqq4__M_32_n
  have hqq5__M_35 := hqq5__M_32_n
  have hqq6__M_35 := hqq6_n
  clear hqq6_n h0__M_32_n hqq1__M_32_n hqq2__M_32_n hqq3__M_32_n hqq4__M_32_n hqq5__M_32_n
  refine mp_putF (v := .ref q6) (ty := .array (.object "PlaceDesk$Snapshot")) hx hb hts inD tyD okD nmD hown I h0__M_35 rfl 9 (by decide) (hts _ bw_35) (fun _ h9 => h9) rfl hin rfl (by decide +kernel) rfl rfl (Nat.le_of_ble_eq_true rfl) dD_init_75 (fun H locs I => ?_)
  have I : mp_I D cls5 (tys6 k) s _ s.heap H locs (mp_up M_35 d (.inr (0, [.ref q1, .ref q2, .int (nI 0), .ref q3, .int (nI 0), .ref q4, .int (nI 0), .ref q5, .int (nI 0), .ref q6, .int 0]))) := I
  have h0__M_35_n : mp_up M_35 d (.inr (0, [.ref q1, .ref q2, .int (nI 0), .ref q3, .int (nI 0), .ref q4, .int (nI 0), .ref q5, .int (nI 0), .ref q6, .int 0])) d = some (.inr (0, [.ref q1, .ref q2, .int (nI 0), .ref q3, .int (nI 0), .ref q4, .int (nI 0), .ref q5, .int (nI 0), .ref q6, .int 0])) := mp_up_s _ _ _
  have hqq1__M_35_n : mp_up M_35 d (.inr (0, [.ref q1, .ref q2, .int (nI 0), .ref q3, .int (nI 0), .ref q4, .int (nI 0), .ref q5, .int (nI 0), .ref q6, .int 0])) q1 = some (.inl (k 1, 4000, .inr (.inl (fun _ => 0)))) := (mp_up_n (mp_ne hqq1__M_35 h0__M_35 (by simp))).trans hqq1__M_35
  have hqq2__M_35_n : mp_up M_35 d (.inr (0, [.ref q1, .ref q2, .int (nI 0), .ref q3, .int (nI 0), .ref q4, .int (nI 0), .ref q5, .int (nI 0), .ref q6, .int 0])) q2 = some (.inl (k 0, 4000, .inl (fun i_ => nI ((fun _ => 0) i_)))) := (mp_up_n (mp_ne hqq2__M_35 h0__M_35 (by simp))).trans hqq2__M_35
  have hqq3__M_35_n : mp_up M_35 d (.inr (0, [.ref q1, .ref q2, .int (nI 0), .ref q3, .int (nI 0), .ref q4, .int (nI 0), .ref q5, .int (nI 0), .ref q6, .int 0])) q3 = some (.inl (k 2, 300, .inr (.inr (.inr (.inr (fun _ => none)))))) := (mp_up_n (mp_ne hqq3__M_35 h0__M_35 (by simp))).trans hqq3__M_35
  have hqq4__M_35_n : mp_up M_35 d (.inr (0, [.ref q1, .ref q2, .int (nI 0), .ref q3, .int (nI 0), .ref q4, .int (nI 0), .ref q5, .int (nI 0), .ref q6, .int 0])) q4 = some (.inl (k 0, 12, .inl (fun i_ => nI ((fun _ => 0) i_)))) := (mp_up_n (mp_ne hqq4__M_35 h0__M_35 (by simp))).trans hqq4__M_35
  have hqq5__M_35_n : mp_up M_35 d (.inr (0, [.ref q1, .ref q2, .int (nI 0), .ref q3, .int (nI 0), .ref q4, .int (nI 0), .ref q5, .int (nI 0), .ref q6, .int 0])) q5 = some (.inl (k 3, 100, .inr (.inr (.inr (.inr (fun _ => none)))))) := (mp_up_n (mp_ne hqq5__M_35 h0__M_35 (by simp))).trans hqq5__M_35
  have hqq6__M_35_n : mp_up M_35 d (.inr (0, [.ref q1, .ref q2, .int (nI 0), .ref q3, .int (nI 0), .ref q4, .int (nI 0), .ref q5, .int (nI 0), .ref q6, .int 0])) q6 = some (.inl (k 4, 20, .inr (.inr (.inr (.inr (fun _ => none)))))) := (mp_up_n (mp_ne hqq6__M_35 h0__M_35 (by simp))).trans hqq6__M_35
  generalize eM_38 : mp_up M_35 d (.inr (0, [.ref q1, .ref q2, .int (nI 0), .ref q3, .int (nI 0), .ref q4, .int (nI 0), .ref q5, .int (nI 0), .ref q6, .int 0])) = M_37 at I h0__M_35_n hqq1__M_35_n hqq2__M_35_n hqq3__M_35_n hqq4__M_35_n hqq5__M_35_n hqq6__M_35_n
  have h0__M_37 := h0__M_35_n
  have hqq1__M_37 := hqq1__M_35_n
  have hqq2__M_37 := hqq2__M_35_n
  have hqq3__M_37 := hqq3__M_35_n
  have hqq4__M_37 := hqq4__M_35_n
  have hqq5__M_37 := hqq5__M_35_n
  have hqq6__M_37 := hqq6__M_35_n
  clear h0__M_35_n hqq1__M_35_n hqq2__M_35_n hqq3__M_35_n hqq4__M_35_n hqq5__M_35_n hqq6__M_35_n
  refine lv_aload_n hx hb dD_init_78 rfl (lv_at hl 0 rfl) ?_
  refine lv_iconst (v := nI 0) hx hb dD_init_79 (by decide) ?_
  refine mp_put (v := .int (nI 0)) (ty := .int) hx hb hts inD tyD okD nmD hown I h0__M_37 rfl 10 (by decide) (hts _ bw_36) (fun _ h9 => h9) rfl (by decide +kernel) rfl rfl (Nat.le_of_ble_eq_true rfl) dD_init_80 (fun H locs I => ?_)
  have I : mp_I D cls5 (tys6 k) s _ s.heap H locs (mp_up M_37 d (.inr (0, [.ref q1, .ref q2, .int (nI 0), .ref q3, .int (nI 0), .ref q4, .int (nI 0), .ref q5, .int (nI 0), .ref q6, .int (nI 0)]))) := I
  have h0__M_37_n : mp_up M_37 d (.inr (0, [.ref q1, .ref q2, .int (nI 0), .ref q3, .int (nI 0), .ref q4, .int (nI 0), .ref q5, .int (nI 0), .ref q6, .int (nI 0)])) d = some (.inr (0, [.ref q1, .ref q2, .int (nI 0), .ref q3, .int (nI 0), .ref q4, .int (nI 0), .ref q5, .int (nI 0), .ref q6, .int (nI 0)])) := mp_up_s _ _ _
  have hqq1__M_37_n : mp_up M_37 d (.inr (0, [.ref q1, .ref q2, .int (nI 0), .ref q3, .int (nI 0), .ref q4, .int (nI 0), .ref q5, .int (nI 0), .ref q6, .int (nI 0)])) q1 = some (.inl (k 1, 4000, .inr (.inl (fun _ => 0)))) := (mp_up_n (mp_ne hqq1__M_37 h0__M_37 (by simp))).trans hqq1__M_37
  have hqq2__M_37_n : mp_up M_37 d (.inr (0, [.ref q1, .ref q2, .int (nI 0), .ref q3, .int (nI 0), .ref q4, .int (nI 0), .ref q5, .int (nI 0), .ref q6, .int (nI 0)])) q2 = some (.inl (k 0, 4000, .inl (fun i_ => nI ((fun _ => 0) i_)))) := (mp_up_n (mp_ne hqq2__M_37 h0__M_37 (by simp))).trans hqq2__M_37
  have hqq3__M_37_n : mp_up M_37 d (.inr (0, [.ref q1, .ref q2, .int (nI 0), .ref q3, .int (nI 0), .ref q4, .int (nI 0), .ref q5, .int (nI 0), .ref q6, .int (nI 0)])) q3 = some (.inl (k 2, 300, .inr (.inr (.inr (.inr (fun _ => none)))))) := (mp_up_n (mp_ne hqq3__M_37 h0__M_37 (by simp))).trans hqq3__M_37
  have hqq4__M_37_n : mp_up M_37 d (.inr (0, [.ref q1, .ref q2, .int (nI 0), .ref q3, .int (nI 0), .ref q4, .int (nI 0), .ref q5, .int (nI 0), .ref q6, .int (nI 0)])) q4 = some (.inl (k 0, 12, .inl (fun i_ => nI ((fun _ => 0) i_)))) := (mp_up_n (mp_ne hqq4__M_37 h0__M_37 (by simp))).trans hqq4__M_37
  have hqq5__M_37_n : mp_up M_37 d (.inr (0, [.ref q1, .ref q2, .int (nI 0), .ref q3, .int (nI 0), .ref q4, .int (nI 0), .ref q5, .int (nI 0), .ref q6, .int (nI 0)])) q5 = some (.inl (k 3, 100, .inr (.inr (.inr (.inr (fun _ => none)))))) := (mp_up_n (mp_ne hqq5__M_37 h0__M_37 (by simp))).trans hqq5__M_37
  have hqq6__M_37_n : mp_up M_37 d (.inr (0, [.ref q1, .ref q2, .int (nI 0), .ref q3, .int (nI 0), .ref q4, .int (nI 0), .ref q5, .int (nI 0), .ref q6, .int (nI 0)])) q6 = some (.inl (k 4, 20, .inr (.inr (.inr (.inr (fun _ => none)))))) := (mp_up_n (mp_ne hqq6__M_37 h0__M_37 (by simp))).trans hqq6__M_37
  generalize eM_40 : mp_up M_37 d (.inr (0, [.ref q1, .ref q2, .int (nI 0), .ref q3, .int (nI 0), .ref q4, .int (nI 0), .ref q5, .int (nI 0), .ref q6, .int (nI 0)])) = M_39 at I h0__M_37_n hqq1__M_37_n hqq2__M_37_n hqq3__M_37_n hqq4__M_37_n hqq5__M_37_n hqq6__M_37_n
  have h0__M_39 := h0__M_37_n
  have hqq1__M_39 := hqq1__M_37_n
  have hqq2__M_39 := hqq2__M_37_n
  have hqq3__M_39 := hqq3__M_37_n
  have hqq4__M_39 := hqq4__M_37_n
  have hqq5__M_39 := hqq5__M_37_n
  have hqq6__M_39 := hqq6__M_37_n
  clear h0__M_37_n hqq1__M_37_n hqq2__M_37_n hqq3__M_37_n hqq4__M_37_n hqq5__M_37_n hqq6__M_37_n
  exact mp_vret hx hb hr hlocks I (Nat.le_of_ble_eq_true rfl) (Nat.le_of_ble_eq_true rfl) dD_init_83 ⟨q1, q2, q3, q4, q5, q6, h0__M_39, hqq1__M_39, hqq2__M_39, hqq3__M_39, hqq4__M_39, hqq5__M_39, hqq6__M_39, fun i hi => absurd hi (by omega), fun i hi => absurd hi (by omega), fun i _ => Or.inl ⟨rfl, by omega⟩, fun i j _ _ h => absurd rfl h⟩
