abbrev rm_D_isKind : Room := { frames := 0, cells := 0, slots := 0, locals := 0 }
set_option maxHeartbeats 4000000 in
set_option maxRecDepth 100000 in
theorem kD_isKind (l : Launch) (D : va_G) (k : Nat → ClassId) (M : mp_M) (x : Int32) : mp_Met l yD_isKind (Cond.code yD_isKind cD_isKind 1 (some .boolean) :: bw) rm_D_isKind D cls5 (tys6 k) [.int x] M (va_Qi (fun r M1 => M1 = M ∧ ((1 ≤ x.toInt ∧ x.toInt ≤ 7 ∧ r = nI 1) ∨ (¬ (1 ≤ x.toInt ∧ x.toInt ≤ 7) ∧ r = nI 0)))) 0 0 := by
  refine mp_Met.of (by decide) (Nat.le_of_ble_eq_true rfl) ?_
  intro p e s m below meth c hx hb hr hml hown hts hlocks hin ls hl I
  have hl : lv_has ls 1 [(0, .int x)] := hl
  refine lv_iload_n hx hb dD_isKind_0 rfl (lv_at hl 0 rfl) ?_
  refine lv_iconst (v := nI 1) hx hb dD_isKind_1 (by decide) ?_
  refine zz_icmp_lt (tgt := 15) hx hb rfl (nI_toInt (by decide)) dD_isKind_2 (by decide) (fun c_1 => ?_) (fun c_1 => ?_)
  · refine lv_iconst (v := nI 0) hx hb dD_isKind_15 (by decide) ?_
    exact mp_zret hx hb hr hlocks I rfl (Nat.le_of_ble_eq_true rfl) (Nat.le_of_ble_eq_true rfl) dD_isKind_16 ⟨rfl, Or.inr ⟨by omega, rfl⟩⟩
  · refine lv_iload_n hx hb dD_isKind_5 rfl (lv_at hl 0 rfl) ?_
    refine lv_bipush (v := nI 7) hx hb dD_isKind_6 (by decide) ?_
    refine zz_icmp_gt (tgt := 15) hx hb rfl (nI_toInt (by decide)) dD_isKind_8 (by decide) (fun c_2 => ?_) (fun c_2 => ?_)
    · refine lv_iconst (v := nI 0) hx hb dD_isKind_15 (by decide) ?_
      exact mp_zret hx hb hr hlocks I rfl (Nat.le_of_ble_eq_true rfl) (Nat.le_of_ble_eq_true rfl) dD_isKind_16 ⟨rfl, Or.inr ⟨by omega, rfl⟩⟩
    · refine lv_iconst (v := nI 1) hx hb dD_isKind_11 (by decide) ?_
      refine lv_goto (tgt := 16) hx hb dD_isKind_12 (by decide) ?_
      exact mp_zret hx hb hr hlocks I rfl (Nat.le_of_ble_eq_true rfl) (Nat.le_of_ble_eq_true rfl) dD_isKind_16 ⟨rfl, Or.inl ⟨by omega, by omega, rfl⟩⟩
abbrev rm_M_isKind : Room := { frames := 0, cells := 0, slots := 0, locals := 0 }
set_option maxHeartbeats 4000000 in
set_option maxRecDepth 100000 in
theorem kM_isKind (l : Launch) (D : va_G) (k : Nat → ClassId) (M : mp_M) (x : Int32) : mp_Met l yM_isKind (Cond.code yM_isKind cM_isKind 1 (some .boolean) :: bw) rm_M_isKind D cls5 (tys6 k) [.int x] M (va_Qi (fun r M1 => M1 = M ∧ ((1 ≤ x.toInt ∧ x.toInt ≤ 7 ∧ r = nI 1) ∨ (¬ (1 ≤ x.toInt ∧ x.toInt ≤ 7) ∧ r = nI 0)))) 0 0 := by
  refine mp_Met.of (by decide) (Nat.le_of_ble_eq_true rfl) ?_
  intro p e s m below meth c hx hb hr hml hown hts hlocks hin ls hl I
  have hl : lv_has ls 1 [(0, .int x)] := hl
  refine lv_iload_n hx hb dM_isKind_0 rfl (lv_at hl 0 rfl) ?_
  refine lv_iconst (v := nI 1) hx hb dM_isKind_1 (by decide) ?_
  refine zz_icmp_lt (tgt := 15) hx hb rfl (nI_toInt (by decide)) dM_isKind_2 (by decide) (fun c_1 => ?_) (fun c_1 => ?_)
  · refine lv_iconst (v := nI 0) hx hb dM_isKind_15 (by decide) ?_
    exact mp_zret hx hb hr hlocks I rfl (Nat.le_of_ble_eq_true rfl) (Nat.le_of_ble_eq_true rfl) dM_isKind_16 ⟨rfl, Or.inr ⟨by omega, rfl⟩⟩
  · refine lv_iload_n hx hb dM_isKind_5 rfl (lv_at hl 0 rfl) ?_
    refine lv_bipush (v := nI 7) hx hb dM_isKind_6 (by decide) ?_
    refine zz_icmp_gt (tgt := 15) hx hb rfl (nI_toInt (by decide)) dM_isKind_8 (by decide) (fun c_2 => ?_) (fun c_2 => ?_)
    · refine lv_iconst (v := nI 0) hx hb dM_isKind_15 (by decide) ?_
      exact mp_zret hx hb hr hlocks I rfl (Nat.le_of_ble_eq_true rfl) (Nat.le_of_ble_eq_true rfl) dM_isKind_16 ⟨rfl, Or.inr ⟨by omega, rfl⟩⟩
    · refine lv_iconst (v := nI 1) hx hb dM_isKind_11 (by decide) ?_
      refine lv_goto (tgt := 16) hx hb dM_isKind_12 (by decide) ?_
      exact mp_zret hx hb hr hlocks I rfl (Nat.le_of_ble_eq_true rfl) (Nat.le_of_ble_eq_true rfl) dM_isKind_16 ⟨rfl, Or.inl ⟨by omega, by omega, rfl⟩⟩
abbrev rm_T_holds : Room := { frames := 0, cells := 0, slots := 0, locals := 0 }
set_option maxHeartbeats 4000000 in
set_option maxRecDepth 100000 in
theorem kT_holds (l : Launch) (D : va_G) (k : Nat → ClassId) (M : mp_M) (h0 kd tf tz : Nat) (x y : Int32) (hT : M h0 = some (.inr (1, [.int (nI kd), .int (nI tf), .int (nI tz)]))) (hz : tz < 2147483648) : mp_Met l yT_holds (Cond.code yT_holds cT_holds 3 (some .boolean) :: bw) rm_T_holds D cls5 (tys6 k) [.ref h0, .int x, .int y] M (va_Qi (fun r M1 => M1 = M ∧ (((0 ≤ x.toInt ∧ 0 ≤ y.toInt ∧ x.toInt + y.toInt ≤ (tz : Int)) ∧ r = nI 1) ∨ (¬ (0 ≤ x.toInt ∧ 0 ≤ y.toInt ∧ x.toInt + y.toInt ≤ (tz : Int)) ∧ r = nI 0)))) 0 0 := by
  refine mp_Met.of (by decide) (Nat.le_of_ble_eq_true rfl) ?_
  intro p e s m below meth c hx hb hr hml hown hts hlocks hin ls hl I
  have hl : lv_has ls 3 [(0, .ref h0), (1, .int x), (2, .int y)] := hl
  refine lv_iload_n hx hb dT_holds_0 rfl (lv_at hl 1 rfl) ?_
  refine zz_if_lt (tgt := 30) hx hb rfl dT_holds_1 (by decide) (fun c_1 => ?_) (fun c_1 => ?_)
  · refine lv_iconst (v := nI 0) hx hb dT_holds_30 (by decide) ?_
    exact mp_zret hx hb hr hlocks I rfl (Nat.le_of_ble_eq_true rfl) (Nat.le_of_ble_eq_true rfl) dT_holds_31 ⟨rfl, Or.inr ⟨by omega, rfl⟩⟩
  · refine lv_iload_n hx hb dT_holds_4 rfl (lv_at hl 2 rfl) ?_
    refine zz_if_lt (tgt := 30) hx hb rfl dT_holds_5 (by decide) (fun c_2 => ?_) (fun c_2 => ?_)
    · refine lv_iconst (v := nI 0) hx hb dT_holds_30 (by decide) ?_
      exact mp_zret hx hb hr hlocks I rfl (Nat.le_of_ble_eq_true rfl) (Nat.le_of_ble_eq_true rfl) dT_holds_31 ⟨rfl, Or.inr ⟨by omega, rfl⟩⟩
    · refine lv_iload_n hx hb dT_holds_8 rfl (lv_at hl 1 rfl) ?_
      refine lv_aload_n hx hb dT_holds_9 rfl (lv_at hl 0 rfl) ?_
      refine mp_get (v := .int (nI tz)) hx hb hts inT hown I hT rfl 2 (by decide) (hts _ bw_87) (fun _ h9 => h9) rfl dT_holds_10 ?_
      refine zz_icmp_gt (tgt := 30) hx hb rfl (nI_toInt (by first | assumption | omega)) dT_holds_13 (by decide) (fun c_3 => ?_) (fun c_3 => ?_)
      · refine lv_iconst (v := nI 0) hx hb dT_holds_30 (by decide) ?_
        exact mp_zret hx hb hr hlocks I rfl (Nat.le_of_ble_eq_true rfl) (Nat.le_of_ble_eq_true rfl) dT_holds_31 ⟨rfl, Or.inr ⟨by omega, rfl⟩⟩
      · obtain ⟨xn, hn_xn, rfl, hz_xn⟩ := i32_nat (x := x) (by omega)
        refine lv_iload_n hx hb dT_holds_16 rfl (lv_at hl 2 rfl) ?_
        refine lv_aload_n hx hb dT_holds_17 rfl (lv_at hl 0 rfl) ?_
        refine mp_get (v := .int (nI tz)) hx hb hts inT hown I hT rfl 2 (by decide) (hts _ bw_87) (fun _ h9 => h9) rfl dT_holds_18 ?_
        refine lv_iload_n hx hb dT_holds_21 rfl (lv_at hl 1 rfl) ?_
        refine zz_isub hx hb (by omega) dT_holds_22 ?_
        refine zz_icmp_gt (tgt := 30) hx hb rfl (nI_toInt (by first | assumption | omega)) dT_holds_23 (by decide) (fun c_4 => ?_) (fun c_4 => ?_)
        · refine lv_iconst (v := nI 0) hx hb dT_holds_30 (by decide) ?_
          exact mp_zret hx hb hr hlocks I rfl (Nat.le_of_ble_eq_true rfl) (Nat.le_of_ble_eq_true rfl) dT_holds_31 ⟨rfl, Or.inr ⟨by omega, rfl⟩⟩
        · refine lv_iconst (v := nI 1) hx hb dT_holds_26 (by decide) ?_
          refine lv_goto (tgt := 31) hx hb dT_holds_27 (by decide) ?_
          exact mp_zret hx hb hr hlocks I rfl (Nat.le_of_ble_eq_true rfl) (Nat.le_of_ble_eq_true rfl) dT_holds_31 ⟨rfl, Or.inl ⟨by omega, rfl⟩⟩
abbrev rm_T_init : Room := { frames := 1, cells := 0, slots := 0, locals := 20 }
set_option maxHeartbeats 4000000 in
set_option maxRecDepth 100000 in
theorem kT_init (l : Launch) (D : va_G) (k : Nat → ClassId) (M : mp_M) (h0 : Nat) (x y z : Int32) (hT : M h0 = some (.inr (1, [.int 0, .int 0, .int 0]))) : mp_Met l yT_init (Cond.code yT_init cT_init 4 none :: bw) rm_T_init D cls5 (tys6 k) [.ref h0, .int x, .int y, .int z] M (va_Qv (fun M1 => M1 = mp_up M h0 (.inr (1, [.int x, .int y, .int z])))) 0 0 := by
  refine mp_Met.of (by decide) (Nat.le_of_ble_eq_true rfl) ?_
  intro p e s m below meth c hx hb hr hml hown hts hlocks hin ls hl I
  have hl : lv_has ls 4 [(0, .ref h0), (1, .int x), (2, .int y), (3, .int z)] := hl
  refine lv_aload_n hx hb dT_init_0 rfl (lv_at hl 0 rfl) ?_
  refine W.objInit hx hb hown (hts _ bw_82) (hts _ bw_18) (hts _ bw_19) rfl (by rw [hml]; exact hl.1) rfl dT_init_1 (Nat.le_of_ble_eq_true rfl) (Nat.le_of_ble_eq_true rfl) ?_
  refine W.eq (g2 := F0 m 4 ls []) rfl ?_
  refine lv_aload_n hx hb dT_init_4 rfl (lv_at hl 0 rfl) ?_
  refine lv_iload_n hx hb dT_init_5 rfl (lv_at hl 1 rfl) ?_
  refine mp_putF (v := .int x) (ty := .int) hx hb hts inT tyT okT nmT hown I hT rfl 0 (by decide) (hts _ bw_83) (fun _ h9 => h9) rfl hin rfl (by decide +kernel) rfl rfl (Nat.le_of_ble_eq_true rfl) dT_init_6 (fun H locs I => ?_)
  have I : mp_I D cls5 (tys6 k) s _ s.heap H locs (mp_up M h0 (.inr (1, [.int x, .int 0, .int 0]))) := I
  have hT_n : mp_up M h0 (.inr (1, [.int x, .int 0, .int 0])) h0 = some (.inr (1, [.int x, .int 0, .int 0])) := mp_up_s _ _ _
  generalize eM_2 : mp_up M h0 (.inr (1, [.int x, .int 0, .int 0])) = M_1 at I hT_n
  have hT__M_1 := hT_n
  clear hT_n
  refine lv_aload_n hx hb dT_init_9 rfl (lv_at hl 0 rfl) ?_
  refine lv_iload_n hx hb dT_init_10 rfl (lv_at hl 2 rfl) ?_
  refine mp_putF (v := .int y) (ty := .int) hx hb hts inT tyT okT nmT hown I hT__M_1 rfl 1 (by decide) (hts _ bw_85) (fun _ h9 => h9) rfl hin rfl (by decide +kernel) rfl rfl (Nat.le_of_ble_eq_true rfl) dT_init_11 (fun H locs I => ?_)
  have I : mp_I D cls5 (tys6 k) s _ s.heap H locs (mp_up M_1 h0 (.inr (1, [.int x, .int y, .int 0]))) := I
  have hT__M_1_n : mp_up M_1 h0 (.inr (1, [.int x, .int y, .int 0])) h0 = some (.inr (1, [.int x, .int y, .int 0])) := mp_up_s _ _ _
  generalize eM_4 : mp_up M_1 h0 (.inr (1, [.int x, .int y, .int 0])) = M_3 at I hT__M_1_n
  have hT__M_3 := hT__M_1_n
  clear hT__M_1_n
  refine lv_aload_n hx hb dT_init_14 rfl (lv_at hl 0 rfl) ?_
  refine lv_iload_n hx hb dT_init_15 rfl (lv_at hl 3 rfl) ?_
  refine mp_putF (v := .int z) (ty := .int) hx hb hts inT tyT okT nmT hown I hT__M_3 rfl 2 (by decide) (hts _ bw_87) (fun _ h9 => h9) rfl hin rfl (by decide +kernel) rfl rfl (Nat.le_of_ble_eq_true rfl) dT_init_16 (fun H locs I => ?_)
  have I : mp_I D cls5 (tys6 k) s _ s.heap H locs (mp_up M_3 h0 (.inr (1, [.int x, .int y, .int z]))) := I
  have hT__M_3_n : mp_up M_3 h0 (.inr (1, [.int x, .int y, .int z])) h0 = some (.inr (1, [.int x, .int y, .int z])) := mp_up_s _ _ _
  generalize eM_6 : mp_up M_3 h0 (.inr (1, [.int x, .int y, .int z])) = M_5 at I hT__M_3_n
  have hT__M_5 := hT__M_3_n
  clear hT__M_3_n
  exact mp_vret hx hb hr hlocks I (Nat.le_of_ble_eq_true rfl) (Nat.le_of_ble_eq_true rfl) dT_init_19 (by rw [← eM_6]; rw [← eM_4]; rw [← eM_2]; rw [mp_upup, mp_upup])
abbrev rm_S_init : Room := { frames := 1, cells := 0, slots := 0, locals := 20 }
set_option maxHeartbeats 4000000 in
set_option maxRecDepth 100000 in
theorem kS_init (l : Launch) (D : va_G) (k : Nat → ClassId) (M : mp_M) (h0 : Nat) (x y z : Int32) (b : Nat) (hbb : b ≤ 1) (hT : M h0 = some (.inr (2, [.int 0, .int 0, .int 0, .int 0]))) : mp_Met l yS_init (Cond.code yS_init cS_init 5 none :: bw) rm_S_init D cls5 (tys6 k) [.ref h0, .int x, .int y, .int z, .int (nI b)] M (va_Qv (fun M1 => M1 = mp_up M h0 (.inr (2, [.int x, .int y, .int z, .int (nI b)])))) 0 0 := by
  refine mp_Met.of (by decide) (Nat.le_of_ble_eq_true rfl) ?_
  intro p e s m below meth c hx hb hr hml hown hts hlocks hin ls hl I
  have hl : lv_has ls 5 [(0, .ref h0), (1, .int x), (2, .int y), (3, .int z), (4, .int (nI b))] := hl
  refine lv_aload_n hx hb dS_init_0 rfl (lv_at hl 0 rfl) ?_
  refine W.objInit hx hb hown (hts _ bw_131) (hts _ bw_18) (hts _ bw_19) rfl (by rw [hml]; exact hl.1) rfl dS_init_1 (Nat.le_of_ble_eq_true rfl) (Nat.le_of_ble_eq_true rfl) ?_
  refine W.eq (g2 := F0 m 4 ls []) rfl ?_
  refine lv_aload_n hx hb dS_init_4 rfl (lv_at hl 0 rfl) ?_
  refine lv_iload_n hx hb dS_init_5 rfl (lv_at hl 1 rfl) ?_
  refine mp_putF (v := .int x) (ty := .int) hx hb hts inS tyS okS nmS hown I hT rfl 0 (by decide) (hts _ bw_132) (fun _ h9 => h9) rfl hin rfl (by decide +kernel) rfl rfl (Nat.le_of_ble_eq_true rfl) dS_init_6 (fun H locs I => ?_)
  have I : mp_I D cls5 (tys6 k) s _ s.heap H locs (mp_up M h0 (.inr (2, [.int x, .int 0, .int 0, .int 0]))) := I
  have hT_n : mp_up M h0 (.inr (2, [.int x, .int 0, .int 0, .int 0])) h0 = some (.inr (2, [.int x, .int 0, .int 0, .int 0])) := mp_up_s _ _ _
  generalize eM_2 : mp_up M h0 (.inr (2, [.int x, .int 0, .int 0, .int 0])) = M_1 at I hT_n
  have hT__M_1 := hT_n
  clear hT_n
  refine lv_aload_n hx hb dS_init_9 rfl (lv_at hl 0 rfl) ?_
  refine lv_iload_n hx hb dS_init_10 rfl (lv_at hl 2 rfl) ?_
  refine mp_putF (v := .int y) (ty := .int) hx hb hts inS tyS okS nmS hown I hT__M_1 rfl 1 (by decide) (hts _ bw_134) (fun _ h9 => h9) rfl hin rfl (by decide +kernel) rfl rfl (Nat.le_of_ble_eq_true rfl) dS_init_11 (fun H locs I => ?_)
  have I : mp_I D cls5 (tys6 k) s _ s.heap H locs (mp_up M_1 h0 (.inr (2, [.int x, .int y, .int 0, .int 0]))) := I
  have hT__M_1_n : mp_up M_1 h0 (.inr (2, [.int x, .int y, .int 0, .int 0])) h0 = some (.inr (2, [.int x, .int y, .int 0, .int 0])) := mp_up_s _ _ _
  generalize eM_4 : mp_up M_1 h0 (.inr (2, [.int x, .int y, .int 0, .int 0])) = M_3 at I hT__M_1_n
  have hT__M_3 := hT__M_1_n
  clear hT__M_1_n
  refine lv_aload_n hx hb dS_init_14 rfl (lv_at hl 0 rfl) ?_
  refine lv_iload_n hx hb dS_init_15 rfl (lv_at hl 3 rfl) ?_
  refine mp_putF (v := .int z) (ty := .int) hx hb hts inS tyS okS nmS hown I hT__M_3 rfl 2 (by decide) (hts _ bw_136) (fun _ h9 => h9) rfl hin rfl (by decide +kernel) rfl rfl (Nat.le_of_ble_eq_true rfl) dS_init_16 (fun H locs I => ?_)
  have I : mp_I D cls5 (tys6 k) s _ s.heap H locs (mp_up M_3 h0 (.inr (2, [.int x, .int y, .int z, .int 0]))) := I
  have hT__M_3_n : mp_up M_3 h0 (.inr (2, [.int x, .int y, .int z, .int 0])) h0 = some (.inr (2, [.int x, .int y, .int z, .int 0])) := mp_up_s _ _ _
  generalize eM_6 : mp_up M_3 h0 (.inr (2, [.int x, .int y, .int z, .int 0])) = M_5 at I hT__M_3_n
  have hT__M_5 := hT__M_3_n
  clear hT__M_3_n
  refine lv_aload_n hx hb dS_init_19 rfl (lv_at hl 0 rfl) ?_
  refine lv_iload hx hb dS_init_20 (lv_at hl 4 rfl) ?_
  refine mp_putF (v := .int (nI b)) (ty := .boolean) hx hb hts inS tyS okS nmS hown I hT__M_5 rfl 3 (by decide) (hts _ bw_138) (fun _ h9 => h9) rfl hin rfl (by decide +kernel) (nz_nar hbb) (nz_fit hbb) (Nat.le_of_ble_eq_true rfl) dS_init_22 (fun H locs I => ?_)
  have I : mp_I D cls5 (tys6 k) s _ s.heap H locs (mp_up M_5 h0 (.inr (2, [.int x, .int y, .int z, .int (nI b)]))) := I
  have hT__M_5_n : mp_up M_5 h0 (.inr (2, [.int x, .int y, .int z, .int (nI b)])) h0 = some (.inr (2, [.int x, .int y, .int z, .int (nI b)])) := mp_up_s _ _ _
  generalize eM_8 : mp_up M_5 h0 (.inr (2, [.int x, .int y, .int z, .int (nI b)])) = M_7 at I hT__M_5_n
  have hT__M_7 := hT__M_5_n
  clear hT__M_5_n
  exact mp_vret hx hb hr hlocks I (Nat.le_of_ble_eq_true rfl) (Nat.le_of_ble_eq_true rfl) dS_init_25 (by rw [← eM_8]; rw [← eM_6]; rw [← eM_4]; rw [← eM_2]; rw [mp_upup, mp_upup, mp_upup])
def ixb (sf sw sl r : Nat) : Nat := if sl = 0 then sf + r else sf + sw - 1 - r
abbrev rm_S_indexOfByte : Room := { frames := 0, cells := 0, slots := 0, locals := 0 }
set_option maxHeartbeats 4000000 in
set_option maxRecDepth 100000 in
theorem kS_indexOfByte (l : Launch) (D : va_G) (k : Nat → ClassId) (M : mp_M) (h0 sk sf sw sl r : Nat) (hS : M h0 = some (.inr (2, [.int (nI sk), .int (nI sf), .int (nI sw), .int (nI sl)]))) (hsl : sl ≤ 1) (hrw : r < sw) (hbd : sf + sw < 2147483648) : mp_Met l yS_indexOfByte (Cond.code yS_indexOfByte cS_indexOfByte 2 (some .int) :: bw) rm_S_indexOfByte D cls5 (tys6 k) [.ref h0, .int (nI r)] M (va_Qi (fun q M1 => M1 = M ∧ q = nI (ixb sf sw sl r))) 0 0 := by
  refine mp_Met.of (by decide) (Nat.le_of_ble_eq_true rfl) ?_
  intro p e s m below meth c hx hb hr hml hown hts hlocks hin ls hl I
  have hl : lv_has ls 2 [(0, .ref h0), (1, .int (nI r))] := hl
  refine lv_aload_n hx hb dS_indexOfByte_0 rfl (lv_at hl 0 rfl) ?_
  refine mp_get (v := .int (nI sl)) hx hb hts inS hown I hS rfl 3 (by decide) (hts _ bw_138) (fun _ h9 => h9) rfl dS_indexOfByte_1 ?_
  refine zz_if_eq (tgt := 23) hx hb (nI_toInt (by first | assumption | omega)) dS_indexOfByte_4 (by decide) (fun c_1 => ?_) (fun c_1 => ?_)
  · refine lv_aload_n hx hb dS_indexOfByte_23 rfl (lv_at hl 0 rfl) ?_
    refine mp_get (v := .int (nI sf)) hx hb hts inS hown I hS rfl 1 (by decide) (hts _ bw_134) (fun _ h9 => h9) rfl dS_indexOfByte_24 ?_
    refine lv_iload_n hx hb dS_indexOfByte_27 rfl (lv_at hl 1 rfl) ?_
    refine zz_iadd hx hb dS_indexOfByte_28 ?_
    exact mp_iret hx hb hr hlocks I (Nat.le_of_ble_eq_true rfl) (Nat.le_of_ble_eq_true rfl) dS_indexOfByte_29 ⟨rfl, by unfold ixb; split <;> first | rfl | (exfalso; omega)⟩
  · refine lv_aload_n hx hb dS_indexOfByte_7 rfl (lv_at hl 0 rfl) ?_
    refine mp_get (v := .int (nI sf)) hx hb hts inS hown I hS rfl 1 (by decide) (hts _ bw_134) (fun _ h9 => h9) rfl dS_indexOfByte_8 ?_
    refine lv_aload_n hx hb dS_indexOfByte_11 rfl (lv_at hl 0 rfl) ?_
    refine mp_get (v := .int (nI sw)) hx hb hts inS hown I hS rfl 2 (by decide) (hts _ bw_136) (fun _ h9 => h9) rfl dS_indexOfByte_12 ?_
    refine zz_iadd hx hb dS_indexOfByte_15 ?_
    refine lv_iconst (v := nI 1) hx hb dS_indexOfByte_16 (by decide) ?_
    refine zz_isub hx hb (by omega) dS_indexOfByte_17 ?_
    refine lv_iload_n hx hb dS_indexOfByte_18 rfl (lv_at hl 1 rfl) ?_
    refine zz_isub hx hb (by omega) dS_indexOfByte_19 ?_
    refine lv_goto (tgt := 29) hx hb dS_indexOfByte_20 (by decide) ?_
    exact mp_iret hx hb hr hlocks I (Nat.le_of_ble_eq_true rfl) (Nat.le_of_ble_eq_true rfl) dS_indexOfByte_29 ⟨rfl, by unfold ixb; split <;> first | rfl | (exfalso; omega)⟩
abbrev rm_S_overlaps : Room := { frames := 0, cells := 0, slots := 0, locals := 0 }
set_option maxHeartbeats 4000000 in
set_option maxRecDepth 100000 in
theorem kS_overlaps (l : Launch) (D : va_G) (k : Nat → ClassId) (M : mp_M) (h0 h1 sk sf sw sl sk2 sf2 sw2 sl2 : Nat) (hS : M h0 = some (.inr (2, [.int (nI sk), .int (nI sf), .int (nI sw), .int (nI sl)]))) (hS2 : M h1 = some (.inr (2, [.int (nI sk2), .int (nI sf2), .int (nI sw2), .int (nI sl2)]))) (hq1 : sf + sw < 2147483648) (hq2 : sf2 + sw2 < 2147483648) : mp_Met l yS_overlaps (Cond.code yS_overlaps cS_overlaps 2 (some .boolean) :: bw) rm_S_overlaps D cls5 (tys6 k) [.ref h0, .ref h1] M (va_Qi (fun q M1 => M1 = M ∧ (((sf < sf2 + sw2 ∧ sf2 < sf + sw) ∧ q = nI 1) ∨ (¬ (sf < sf2 + sw2 ∧ sf2 < sf + sw) ∧ q = nI 0)))) 0 0 := by
  refine mp_Met.of (by decide) (Nat.le_of_ble_eq_true rfl) ?_
  intro p e s m below meth c hx hb hr hml hown hts hlocks hin ls hl I
  have hl : lv_has ls 2 [(0, .ref h0), (1, .ref h1)] := hl
  refine lv_aload_n hx hb dS_overlaps_0 rfl (lv_at hl 0 rfl) ?_
  refine mp_get (v := .int (nI sf)) hx hb hts inS hown I hS rfl 1 (by decide) (hts _ bw_134) (fun _ h9 => h9) rfl dS_overlaps_1 ?_
  refine lv_aload_n hx hb dS_overlaps_4 rfl (lv_at hl 1 rfl) ?_
  refine mp_get (v := .int (nI sf2)) hx hb hts inS hown I hS2 rfl 1 (by decide) (hts _ bw_134) (fun _ h9 => h9) rfl dS_overlaps_5 ?_
  refine lv_aload_n hx hb dS_overlaps_8 rfl (lv_at hl 1 rfl) ?_
  refine mp_get (v := .int (nI sw2)) hx hb hts inS hown I hS2 rfl 2 (by decide) (hts _ bw_136) (fun _ h9 => h9) rfl dS_overlaps_9 ?_
  refine zz_iadd hx hb dS_overlaps_12 ?_
  refine zz_icmp_ge (tgt := 36) hx hb (nI_toInt (by first | assumption | omega)) (nI_toInt (by first | assumption | omega)) dS_overlaps_13 (by decide) (fun c_1 => ?_) (fun c_1 => ?_)
  · refine lv_iconst (v := nI 0) hx hb dS_overlaps_36 (by decide) ?_
    exact mp_zret hx hb hr hlocks I rfl (Nat.le_of_ble_eq_true rfl) (Nat.le_of_ble_eq_true rfl) dS_overlaps_37 ⟨rfl, Or.inr ⟨by omega, rfl⟩⟩
  · refine lv_aload_n hx hb dS_overlaps_16 rfl (lv_at hl 1 rfl) ?_
    refine mp_get (v := .int (nI sf2)) hx hb hts inS hown I hS2 rfl 1 (by decide) (hts _ bw_134) (fun _ h9 => h9) rfl dS_overlaps_17 ?_
    refine lv_aload_n hx hb dS_overlaps_20 rfl (lv_at hl 0 rfl) ?_
    refine mp_get (v := .int (nI sf)) hx hb hts inS hown I hS rfl 1 (by decide) (hts _ bw_134) (fun _ h9 => h9) rfl dS_overlaps_21 ?_
    refine lv_aload_n hx hb dS_overlaps_24 rfl (lv_at hl 0 rfl) ?_
    refine mp_get (v := .int (nI sw)) hx hb hts inS hown I hS rfl 2 (by decide) (hts _ bw_136) (fun _ h9 => h9) rfl dS_overlaps_25 ?_
    refine zz_iadd hx hb dS_overlaps_28 ?_
    refine zz_icmp_ge (tgt := 36) hx hb (nI_toInt (by first | assumption | omega)) (nI_toInt (by first | assumption | omega)) dS_overlaps_29 (by decide) (fun c_2 => ?_) (fun c_2 => ?_)
    · refine lv_iconst (v := nI 0) hx hb dS_overlaps_36 (by decide) ?_
      exact mp_zret hx hb hr hlocks I rfl (Nat.le_of_ble_eq_true rfl) (Nat.le_of_ble_eq_true rfl) dS_overlaps_37 ⟨rfl, Or.inr ⟨by omega, rfl⟩⟩
    · refine lv_iconst (v := nI 1) hx hb dS_overlaps_32 (by decide) ?_
      refine lv_goto (tgt := 37) hx hb dS_overlaps_33 (by decide) ?_
      exact mp_zret hx hb hr hlocks I rfl (Nat.le_of_ble_eq_true rfl) (Nat.le_of_ble_eq_true rfl) dS_overlaps_37 ⟨rfl, Or.inl ⟨by omega, rfl⟩⟩
