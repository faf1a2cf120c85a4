abbrev rm_M_copy : Room := { frames := 1, cells := 0, slots := 0, locals := 30 }
set_option maxHeartbeats 4000000 in
set_option maxRecDepth 100000 in
theorem kM_copy (l : Launch) (D : va_G) (k : Nat → ClassId) (M : mp_M) {mo el ek bg sz kn rw pp pk wd lo kp ks : Nat} {ec tc wc sc nc th : Nat} {va mk : Nat → Int64} {kd wt tk tf tz sk sf sw ml nn : Nat → Nat} (hE : MdX k M mo el ek bg sz kn rw pp pk wd lo kp ks ec tc wc sc nc th va mk kd wt tk tf tz sk sf sw ml nn) (hO : OkB ec tc wc sc nc tk tf tz sk sf sw ml nn) (x a y b n : Int32) : mp_Met l yM_copy (Cond.code yM_copy cM_copy 10 (some .boolean) :: bw) rm_M_copy D cls5 (tys6 k) [.ref mo, .int x, .int a, .int y, .int b, .int n] M (va_Qi (fun r M1 => ((0 ≤ x.toInt ∧ x.toInt < tc ∧ 0 ≤ y.toInt ∧ y.toInt < tc ∧ tk x.toInt.toNat ≠ 0 ∧ tk x.toInt.toNat = tk y.toInt.toNat ∧ 0 ≤ n.toInt ∧ 0 ≤ a.toInt ∧ 0 ≤ b.toInt ∧ a.toInt + n.toInt ≤ tz x.toInt.toNat ∧ b.toInt + n.toInt ≤ tz y.toInt.toNat) ∧ r = nI 1 ∧ ∃ i j a_ b_ n_ : Nat, x.toInt = i ∧ y.toInt = j ∧ a.toInt = a_ ∧ b.toInt = b_ ∧ n.toInt = n_ ∧ MdX k M1 mo el ek bg sz kn rw pp pk wd lo kp ks ec tc wc sc nc (0) (va_cpy va va (tf i + a_) (tf j + b_) n_) mk kd wt tk tf tz sk sf sw ml nn) ∨ (¬ (0 ≤ x.toInt ∧ x.toInt < tc ∧ 0 ≤ y.toInt ∧ y.toInt < tc ∧ tk x.toInt.toNat ≠ 0 ∧ tk x.toInt.toNat = tk y.toInt.toNat ∧ 0 ≤ n.toInt ∧ 0 ≤ a.toInt ∧ 0 ≤ b.toInt ∧ a.toInt + n.toInt ≤ tz x.toInt.toNat ∧ b.toInt + n.toInt ≤ tz y.toInt.toNat) ∧ r = nI 0 ∧ MdX k M1 mo el ek bg sz kn rw pp pk wd lo kp ks ec tc wc sc nc (0) va mk kd wt tk tf tz sk sf sw ml nn))) 0 0 := by
  refine mp_Met.of (by decide) (Nat.le_of_ble_eq_true rfl) ?_
  intro p e s m below meth c hx hb hr hml hown hts hlocks hin ls hl I
  have hl : lv_has ls 10 [(0, .ref mo), (1, .int x), (2, .int a), (3, .int y), (4, .int b), (5, .int n)] := hl
  obtain ⟨h0, hel, hek, hbg, hsz, hkn, hrw, hpp, hpk, hwd, hlo, hkp, hks, n_bg_sz, n_bg_kn, n_sz_kn, n_pp_pk, n_pp_wd, n_pk_wd, n_pp_lo, n_pk_lo, n_wd_lo⟩ := id hE
  obtain ⟨b1, b2, b3, b4, b5, bT, bS, bN⟩ := id hO
  refine lv_aload_n hx hb dM_copy_0 rfl (lv_at hl 0 rfl) ?_
  refine lv_iconst (v := nI 0) hx hb dM_copy_1 (by decide) ?_
  refine mp_put (v := .int (nI 0)) (ty := .int) hx hb hts inM tyM okM nmM hown I h0 rfl 17 (by decide) (hts _ bw_348) (fun _ h9 => h9) rfl (by decide +kernel) rfl rfl (Nat.le_of_ble_eq_true rfl) dM_copy_2 (fun H locs I => ?_)
  have I : mp_I D cls5 (tys6 k) s _ s.heap H locs (mp_up M mo (.inr (4, [.ref el, .ref ek, .int (nI ec), .ref bg, .ref sz, .ref kn, .int (nI tc), .ref rw, .int (nI wc), .ref pp, .ref pk, .ref wd, .ref lo, .int (nI sc), .ref kp, .ref ks, .int (nI nc), .int (nI 0)]))) := I
  have h0_n : mp_up M mo (.inr (4, [.ref el, .ref ek, .int (nI ec), .ref bg, .ref sz, .ref kn, .int (nI tc), .ref rw, .int (nI wc), .ref pp, .ref pk, .ref wd, .ref lo, .int (nI sc), .ref kp, .ref ks, .int (nI nc), .int (nI 0)])) mo = some (.inr (4, [.ref el, .ref ek, .int (nI ec), .ref bg, .ref sz, .ref kn, .int (nI tc), .ref rw, .int (nI wc), .ref pp, .ref pk, .ref wd, .ref lo, .int (nI sc), .ref kp, .ref ks, .int (nI nc), .int (nI 0)])) := mp_up_s _ _ _
  have hel_n : mp_up M mo (.inr (4, [.ref el, .ref ek, .int (nI ec), .ref bg, .ref sz, .ref kn, .int (nI tc), .ref rw, .int (nI wc), .ref pp, .ref pk, .ref wd, .ref lo, .int (nI sc), .ref kp, .ref ks, .int (nI nc), .int (nI 0)])) el = some (.inl (k 1, 4000, .inr (.inl va))) := (mp_up_n (mp_ne hel h0 (by simp))).trans hel
  have hek_n : mp_up M mo (.inr (4, [.ref el, .ref ek, .int (nI ec), .ref bg, .ref sz, .ref kn, .int (nI tc), .ref rw, .int (nI wc), .ref pp, .ref pk, .ref wd, .ref lo, .int (nI sc), .ref kp, .ref ks, .int (nI nc), .int (nI 0)])) ek = some (.inl (k 0, 4000, .inl (fun i_ => nI (kd i_)))) := (mp_up_n (mp_ne hek h0 (by simp))).trans hek
  have hbg_n : mp_up M mo (.inr (4, [.ref el, .ref ek, .int (nI ec), .ref bg, .ref sz, .ref kn, .int (nI tc), .ref rw, .int (nI wc), .ref pp, .ref pk, .ref wd, .ref lo, .int (nI sc), .ref kp, .ref ks, .int (nI nc), .int (nI 0)])) bg = some (.inl (k 0, 300, .inl (fun i_ => nI (tf i_)))) := (mp_up_n (mp_ne hbg h0 (by simp))).trans hbg
  have hsz_n : mp_up M mo (.inr (4, [.ref el, .ref ek, .int (nI ec), .ref bg, .ref sz, .ref kn, .int (nI tc), .ref rw, .int (nI wc), .ref pp, .ref pk, .ref wd, .ref lo, .int (nI sc), .ref kp, .ref ks, .int (nI nc), .int (nI 0)])) sz = some (.inl (k 0, 300, .inl (fun i_ => nI (tz i_)))) := (mp_up_n (mp_ne hsz h0 (by simp))).trans hsz
  have hkn_n : mp_up M mo (.inr (4, [.ref el, .ref ek, .int (nI ec), .ref bg, .ref sz, .ref kn, .int (nI tc), .ref rw, .int (nI wc), .ref pp, .ref pk, .ref wd, .ref lo, .int (nI sc), .ref kp, .ref ks, .int (nI nc), .int (nI 0)])) kn = some (.inl (k 0, 300, .inl (fun i_ => nI (tk i_)))) := (mp_up_n (mp_ne hkn h0 (by simp))).trans hkn
  have hrw_n : mp_up M mo (.inr (4, [.ref el, .ref ek, .int (nI ec), .ref bg, .ref sz, .ref kn, .int (nI tc), .ref rw, .int (nI wc), .ref pp, .ref pk, .ref wd, .ref lo, .int (nI sc), .ref kp, .ref ks, .int (nI nc), .int (nI 0)])) rw = some (.inl (k 0, 12, .inl (fun i_ => nI (wt i_)))) := (mp_up_n (mp_ne hrw h0 (by simp))).trans hrw
  have hpp_n : mp_up M mo (.inr (4, [.ref el, .ref ek, .int (nI ec), .ref bg, .ref sz, .ref kn, .int (nI tc), .ref rw, .int (nI wc), .ref pp, .ref pk, .ref wd, .ref lo, .int (nI sc), .ref kp, .ref ks, .int (nI nc), .int (nI 0)])) pp = some (.inl (k 0, 100, .inl (fun i_ => nI (sf i_)))) := (mp_up_n (mp_ne hpp h0 (by simp))).trans hpp
  have hpk_n : mp_up M mo (.inr (4, [.ref el, .ref ek, .int (nI ec), .ref bg, .ref sz, .ref kn, .int (nI tc), .ref rw, .int (nI wc), .ref pp, .ref pk, .ref wd, .ref lo, .int (nI sc), .ref kp, .ref ks, .int (nI nc), .int (nI 0)])) pk = some (.inl (k 0, 100, .inl (fun i_ => nI (sk i_)))) := (mp_up_n (mp_ne hpk h0 (by simp))).trans hpk
  have hwd_n : mp_up M mo (.inr (4, [.ref el, .ref ek, .int (nI ec), .ref bg, .ref sz, .ref kn, .int (nI tc), .ref rw, .int (nI wc), .ref pp, .ref pk, .ref wd, .ref lo, .int (nI sc), .ref kp, .ref ks, .int (nI nc), .int (nI 0)])) wd = some (.inl (k 0, 100, .inl (fun i_ => nI (sw i_)))) := (mp_up_n (mp_ne hwd h0 (by simp))).trans hwd
  have hlo_n : mp_up M mo (.inr (4, [.ref el, .ref ek, .int (nI ec), .ref bg, .ref sz, .ref kn, .int (nI tc), .ref rw, .int (nI wc), .ref pp, .ref pk, .ref wd, .ref lo, .int (nI sc), .ref kp, .ref ks, .int (nI nc), .int (nI 0)])) lo = some (.inl (k 5, 100, .inl (fun i_ => nI (ml i_)))) := (mp_up_n (mp_ne hlo h0 (by simp))).trans hlo
  have hkp_n : mp_up M mo (.inr (4, [.ref el, .ref ek, .int (nI ec), .ref bg, .ref sz, .ref kn, .int (nI tc), .ref rw, .int (nI wc), .ref pp, .ref pk, .ref wd, .ref lo, .int (nI sc), .ref kp, .ref ks, .int (nI nc), .int (nI 0)])) kp = some (.inl (k 1, 80000, .inr (.inl mk))) := (mp_up_n (mp_ne hkp h0 (by simp))).trans hkp
  have hks_n : mp_up M mo (.inr (4, [.ref el, .ref ek, .int (nI ec), .ref bg, .ref sz, .ref kn, .int (nI tc), .ref rw, .int (nI wc), .ref pp, .ref pk, .ref wd, .ref lo, .int (nI sc), .ref kp, .ref ks, .int (nI nc), .int (nI 0)])) ks = some (.inl (k 0, 20, .inl (fun i_ => nI (nn i_)))) := (mp_up_n (mp_ne hks h0 (by simp))).trans hks
  generalize eM_2 : mp_up M mo (.inr (4, [.ref el, .ref ek, .int (nI ec), .ref bg, .ref sz, .ref kn, .int (nI tc), .ref rw, .int (nI wc), .ref pp, .ref pk, .ref wd, .ref lo, .int (nI sc), .ref kp, .ref ks, .int (nI nc), .int (nI 0)])) = M_1 at I h0_n hel_n hek_n hbg_n hsz_n hkn_n hrw_n hpp_n hpk_n hwd_n hlo_n hkp_n hks_n
  have h0__M_1 := h0_n
  have hel__M_1 := hel_n
  have hek__M_1 := hek_n
  have hbg__M_1 := hbg_n
  have hsz__M_1 := hsz_n
  have hkn__M_1 := hkn_n
  have hrw__M_1 := hrw_n
  have hpp__M_1 := hpp_n
  have hpk__M_1 := hpk_n
  have hwd__M_1 := hwd_n
  have hlo__M_1 := hlo_n
  have hkp__M_1 := hkp_n
  have hks__M_1 := hks_n
  clear h0_n hel_n hek_n hbg_n hsz_n hkn_n hrw_n hpp_n hpk_n hwd_n hlo_n hkp_n hks_n
  have hE := hE.cnt ec tc wc sc nc 0
  rw [eM_2] at hE
  refine lv_aload_n hx hb dM_copy_5 rfl (lv_at hl 0 rfl) ?_
  refine lv_iload_n hx hb dM_copy_6 rfl (lv_at hl 1 rfl) ?_
  refine mp_calli (va_runV (As := [.int x]) (rest := []) ⟨hx, hb, hml, hown, hts⟩ (kM_isObject l D k M_1 hE hO x _) (cwV 1 hts (bw_V bw_415 bw_417 bs_12 bw_2 bw_418) rfl rfl rfl (by decide +kernel) ⟨Nat.le_of_ble_eq_true rfl, Nat.le_of_ble_eq_true rfl⟩) (mp_preV I h0__M_1 rfl _) rfl rfl hl.1 rfl (lv_room (Nat.le_of_ble_eq_true rfl)) dM_copy_7 ⟨Nat.le_of_ble_eq_true rfl, Nat.le_of_ble_eq_true rfl⟩) I (fun r_3 N_4 H locs hp I => ?_)
  obtain ⟨e_5, hp⟩ := hp
  rw [e_5] at I
  rcases hp with ⟨p1, rfl⟩ | ⟨p1, rfl⟩
  · refine zz_if_eq (tgt := 50) hx hb (nI_toInt (by decide)) dM_copy_10 (by decide) (fun c_6 => absurd c_6 (by decide)) (fun _ => ?_)
    refine lv_aload_n hx hb dM_copy_13 rfl (lv_at hl 0 rfl) ?_
    refine lv_iload_n hx hb dM_copy_14 rfl (lv_at hl 3 rfl) ?_
    refine mp_calli (va_runV (As := [.int y]) (rest := []) ⟨hx, hb, hml, hown, hts⟩ (kM_isObject l D k M_1 hE hO y _) (cwV 1 hts (bw_V bw_415 bw_417 bs_12 bw_2 bw_418) rfl rfl rfl (by decide +kernel) ⟨Nat.le_of_ble_eq_true rfl, Nat.le_of_ble_eq_true rfl⟩) (mp_preV I h0__M_1 rfl _) rfl rfl hl.1 rfl (lv_room (Nat.le_of_ble_eq_true rfl)) dM_copy_15 ⟨Nat.le_of_ble_eq_true rfl, Nat.le_of_ble_eq_true rfl⟩) I (fun r_7 N_8 H locs hp I => ?_)
    obtain ⟨e_9, hp⟩ := hp
    rw [e_9] at I
    rcases hp with ⟨p2, rfl⟩ | ⟨p2, rfl⟩
    · refine zz_if_eq (tgt := 50) hx hb (nI_toInt (by decide)) dM_copy_18 (by decide) (fun c_10 => absurd c_10 (by decide)) (fun _ => ?_)
      obtain ⟨xn, hn_xn, rfl, hz_xn⟩ := i32_nat (x := x) (by omega)
      obtain ⟨yn, hn_yn, rfl, hz_yn⟩ := i32_nat (x := y) (by omega)
      have hTx := bT xn (by omega)
      have hxi : (nI xn).toInt.toNat = xn := by omega
      have hTy := bT yn (by omega)
      have hyi : (nI yn).toInt.toNat = yn := by omega
      refine lv_aload_n hx hb dM_copy_21 rfl (lv_at hl 0 rfl) ?_
      refine mp_get (v := .ref kn) hx hb hts inM hown I h0__M_1 rfl 5 (by decide) (hts _ bw_336) (fun _ h9 => h9) rfl dM_copy_22 ?_
      refine lv_iload_n hx hb dM_copy_25 rfl (lv_at hl 1 rfl) ?_
      refine mp_iald hx hb I 0 hkn__M_1 rfl xn rfl (by omega) (by decide) (v := nI (tk xn)) rfl dM_copy_26 ?_
      refine zz_if_eq (tgt := 50) hx hb (nI_toInt (by first | assumption | omega)) dM_copy_27 (by decide) (fun c_11 => ?_) (fun c_11 => ?_)
      · refine lv_iconst (v := nI 0) hx hb dM_copy_50 (by decide) ?_
        exact mp_zret hx hb hr hlocks I rfl (Nat.le_of_ble_eq_true rfl) (Nat.le_of_ble_eq_true rfl) dM_copy_51 (Or.inr ⟨by rw [hxi, hyi]; omega, rfl, hE⟩)
      · refine lv_aload_n hx hb dM_copy_30 rfl (lv_at hl 0 rfl) ?_
        refine mp_get (v := .ref kn) hx hb hts inM hown I h0__M_1 rfl 5 (by decide) (hts _ bw_336) (fun _ h9 => h9) rfl dM_copy_31 ?_
        refine lv_iload_n hx hb dM_copy_34 rfl (lv_at hl 1 rfl) ?_
        refine mp_iald hx hb I 0 hkn__M_1 rfl xn rfl (by omega) (by decide) (v := nI (tk xn)) rfl dM_copy_35 ?_
        refine lv_aload_n hx hb dM_copy_36 rfl (lv_at hl 0 rfl) ?_
        refine mp_get (v := .ref kn) hx hb hts inM hown I h0__M_1 rfl 5 (by decide) (hts _ bw_336) (fun _ h9 => h9) rfl dM_copy_37 ?_
        refine lv_iload_n hx hb dM_copy_40 rfl (lv_at hl 3 rfl) ?_
        refine mp_iald hx hb I 0 hkn__M_1 rfl yn rfl (by omega) (by decide) (v := nI (tk yn)) rfl dM_copy_41 ?_
        refine zz_icmp_ne (tgt := 50) hx hb (nI_toInt (by first | assumption | omega)) (nI_toInt (by first | assumption | omega)) dM_copy_42 (by decide) (fun c_12 => ?_) (fun c_12 => ?_)
        · refine lv_iconst (v := nI 0) hx hb dM_copy_50 (by decide) ?_
          exact mp_zret hx hb hr hlocks I rfl (Nat.le_of_ble_eq_true rfl) (Nat.le_of_ble_eq_true rfl) dM_copy_51 (Or.inr ⟨by rw [hxi, hyi]; omega, rfl, hE⟩)
        · refine lv_iload hx hb dM_copy_45 (lv_at hl 5 rfl) ?_
          refine zz_if_ge (tgt := 52) hx hb rfl dM_copy_47 (by decide) (fun c_13 => ?_) (fun c_13 => ?_)
          · refine lv_iload_n hx hb dM_copy_52 rfl (lv_at hl 2 rfl) ?_
            refine zz_if_lt (tgt := 96) hx hb rfl dM_copy_53 (by decide) (fun c_14 => ?_) (fun c_14 => ?_)
            · refine lv_iconst (v := nI 0) hx hb dM_copy_96 (by decide) ?_
              exact mp_zret hx hb hr hlocks I rfl (Nat.le_of_ble_eq_true rfl) (Nat.le_of_ble_eq_true rfl) dM_copy_97 (Or.inr ⟨by rw [hxi, hyi]; omega, rfl, hE⟩)
            · refine lv_iload hx hb dM_copy_56 (lv_at hl 4 rfl) ?_
              refine zz_if_lt (tgt := 96) hx hb rfl dM_copy_58 (by decide) (fun c_15 => ?_) (fun c_15 => ?_)
              · refine lv_iconst (v := nI 0) hx hb dM_copy_96 (by decide) ?_
                exact mp_zret hx hb hr hlocks I rfl (Nat.le_of_ble_eq_true rfl) (Nat.le_of_ble_eq_true rfl) dM_copy_97 (Or.inr ⟨by rw [hxi, hyi]; omega, rfl, hE⟩)
              · refine lv_iload_n hx hb dM_copy_61 rfl (lv_at hl 2 rfl) ?_
                refine lv_i2l (v := a.toInt64) hx hb dM_copy_62 rfl ?_
                refine lv_iload hx hb dM_copy_63 (lv_at hl 5 rfl) ?_
                refine lv_i2l (v := n.toInt64) hx hb dM_copy_65 rfl ?_
                refine lv_ladd hx hb dM_copy_66 ?_
                refine lv_aload_n hx hb dM_copy_67 rfl (lv_at hl 0 rfl) ?_
                refine mp_get (v := .ref sz) hx hb hts inM hown I h0__M_1 rfl 4 (by decide) (hts _ bw_335) (fun _ h9 => h9) rfl dM_copy_68 ?_
                refine lv_iload_n hx hb dM_copy_71 rfl (lv_at hl 1 rfl) ?_
                refine mp_iald hx hb I 0 hsz__M_1 rfl xn rfl (by omega) (by decide) (v := nI (tz xn)) rfl dM_copy_72 ?_
                refine lv_i2l (v := (nI (tz xn)).toInt64) hx hb dM_copy_73 rfl ?_
                refine W.lcmp hx hb dM_copy_74 ?_
                refine lv_if_gt (tgt := 96) hx hb dM_copy_75 (by decide) (fun c_16 => ?_) (fun c_16 => ?_)
                all_goals rw [lg_cmp_gt] at c_16
                all_goals rw [Int64.lt_iff_toInt_lt, lg_i2l_add, Int32.toInt_toInt64, nI_toInt (show tz xn < 2 ^ 31 by omega)] at c_16
                · refine lv_iconst (v := nI 0) hx hb dM_copy_96 (by decide) ?_
                  exact mp_zret hx hb hr hlocks I rfl (Nat.le_of_ble_eq_true rfl) (Nat.le_of_ble_eq_true rfl) dM_copy_97 (Or.inr ⟨by rw [hxi, hyi]; omega, rfl, hE⟩)
                · refine lv_iload hx hb dM_copy_78 (lv_at hl 4 rfl) ?_
                  refine lv_i2l (v := b.toInt64) hx hb dM_copy_80 rfl ?_
                  refine lv_iload hx hb dM_copy_81 (lv_at hl 5 rfl) ?_
                  refine lv_i2l (v := n.toInt64) hx hb dM_copy_83 rfl ?_
                  refine lv_ladd hx hb dM_copy_84 ?_
                  refine lv_aload_n hx hb dM_copy_85 rfl (lv_at hl 0 rfl) ?_
                  refine mp_get (v := .ref sz) hx hb hts inM hown I h0__M_1 rfl 4 (by decide) (hts _ bw_335) (fun _ h9 => h9) rfl dM_copy_86 ?_
                  refine lv_iload_n hx hb dM_copy_89 rfl (lv_at hl 3 rfl) ?_
                  refine mp_iald hx hb I 0 hsz__M_1 rfl yn rfl (by omega) (by decide) (v := nI (tz yn)) rfl dM_copy_90 ?_
                  refine lv_i2l (v := (nI (tz yn)).toInt64) hx hb dM_copy_91 rfl ?_
                  refine W.lcmp hx hb dM_copy_92 ?_
                  refine lv_if_le (tgt := 98) hx hb dM_copy_93 (by decide) (fun c_17 => ?_) (fun c_17 => ?_)
                  all_goals rw [lg_cmp_le] at c_17
                  all_goals rw [Int64.le_iff_toInt_le, lg_i2l_add, Int32.toInt_toInt64, nI_toInt (show tz yn < 2 ^ 31 by omega)] at c_17
                  · obtain ⟨a_, hn_a_, rfl, hz_a_⟩ := i32_nat (x := a) (by omega)
                    obtain ⟨b_, hn_b_, rfl, hz_b_⟩ := i32_nat (x := b) (by omega)
                    obtain ⟨n_, hn_n_, rfl, hz_n_⟩ := i32_nat (x := n) (by omega)
                    refine lv_aload_n hx hb dM_copy_98 rfl (lv_at hl 0 rfl) ?_
                    refine mp_get (v := .ref bg) hx hb hts inM hown I h0__M_1 rfl 3 (by decide) (hts _ bw_334) (fun _ h9 => h9) rfl dM_copy_99 ?_
                    refine lv_iload_n hx hb dM_copy_102 rfl (lv_at hl 1 rfl) ?_
                    refine mp_iald hx hb I 0 hbg__M_1 rfl xn rfl (by omega) (by decide) (v := nI (tf xn)) rfl dM_copy_103 ?_
                    refine lv_iload_n hx hb dM_copy_104 rfl (lv_at hl 2 rfl) ?_
                    refine zz_iadd hx hb dM_copy_105 ?_
                    refine lv_istore (lv' := [(6, .int (nI (tf xn + a_))), (0, .ref mo), (1, .int (nI xn)), (2, .int (nI a_)), (3, .int (nI yn)), (4, .int (nI b_)), (5, .int (nI n_))]) hx hb dM_copy_106 hl (by decide) rfl (fun ls hl => ?_)
                    refine lv_aload_n hx hb dM_copy_108 rfl (lv_at hl 1 rfl) ?_
                    refine mp_get (v := .ref bg) hx hb hts inM hown I h0__M_1 rfl 3 (by decide) (hts _ bw_334) (fun _ h9 => h9) rfl dM_copy_109 ?_
                    refine lv_iload_n hx hb dM_copy_112 rfl (lv_at hl 4 rfl) ?_
                    refine mp_iald hx hb I 0 hbg__M_1 rfl yn rfl (by omega) (by decide) (v := nI (tf yn)) rfl dM_copy_113 ?_
                    refine lv_iload hx hb dM_copy_114 (lv_at hl 5 rfl) ?_
                    refine zz_iadd hx hb dM_copy_116 ?_
                    refine lv_istore (lv' := [(7, .int (nI (tf yn + b_))), (6, .int (nI (tf xn + a_))), (0, .ref mo), (1, .int (nI xn)), (2, .int (nI a_)), (3, .int (nI yn)), (4, .int (nI b_)), (5, .int (nI n_))]) hx hb dM_copy_117 hl (by decide) rfl (fun ls hl => ?_)
                    refine lv_iconst (v := nI 0) hx hb dM_copy_119 (by decide) ?_
                    refine lv_istore (lv' := [(8, .int (nI 0)), (7, .int (nI (tf yn + b_))), (6, .int (nI (tf xn + a_))), (0, .ref mo), (1, .int (nI xn)), (2, .int (nI a_)), (3, .int (nI yn)), (4, .int (nI b_)), (5, .int (nI n_))]) hx hb dM_copy_120 hl (by decide) rfl (fun ls hl => ?_)
                    by_cases hxy : tf xn + a_ < tf yn + b_
                    · have I := I.to (show M_1 = mp_up M_1 el (.inl (k 1, 4000, .inr (.inl (cpB va (tf xn + a_) (tf yn + b_) n_ 0)))) by rw [cpB_0, mp_upself hel__M_1])
                      refine mp_loop n_ 10 (fun i => [(8, .int (nI i)), (0, .ref mo), (5, .int (nI n_)), (6, .int (nI (tf xn + a_))), (7, .int (nI (tf yn + b_)))]) (fun i => mp_up M_1 el (.inl (k 1, 4000, .inr (.inl (cpB va (tf xn + a_) (tf yn + b_) n_ i))))) 0 (by omega) (lv_sub hl [0, 3, 8, 2, 1] rfl) I ?_
                      intro i H locs ls hi0_i hi_i hl I ih_i
                      have hl : lv_has ls 10 [(8, .int (nI i)), (0, .ref mo), (5, .int (nI n_)), (6, .int (nI (tf xn + a_))), (7, .int (nI (tf yn + b_)))] := hl
                      have I : mp_I D cls5 (tys6 k) s _ s.heap H locs (mp_up M_1 el (.inl (k 1, 4000, .inr (.inl (cpB va (tf xn + a_) (tf yn + b_) n_ i))))) := I
                      have h0__L : mp_up M_1 el (.inl (k 1, 4000, .inr (.inl (cpB va (tf xn + a_) (tf yn + b_) n_ i)))) mo = some (.inr (4, [.ref el, .ref ek, .int (nI ec), .ref bg, .ref sz, .ref kn, .int (nI tc), .ref rw, .int (nI wc), .ref pp, .ref pk, .ref wd, .ref lo, .int (nI sc), .ref kp, .ref ks, .int (nI nc), .int (nI 0)])) := (mp_up_n (mp_ne h0__M_1 hel__M_1 (by simp))).trans h0__M_1
                      have hel__L : mp_up M_1 el (.inl (k 1, 4000, .inr (.inl (cpB va (tf xn + a_) (tf yn + b_) n_ i)))) el = some (.inl (k 1, 4000, .inr (.inl (cpB va (tf xn + a_) (tf yn + b_) n_ i)))) := mp_up_s _ _ _
                      have hek__L : mp_up M_1 el (.inl (k 1, 4000, .inr (.inl (cpB va (tf xn + a_) (tf yn + b_) n_ i)))) ek = some (.inl (k 0, 4000, .inl (fun i_ => nI (kd i_)))) := (mp_up_n (mp_ne hek__M_1 hel__M_1 (by simp))).trans hek__M_1
                      have hbg__L : mp_up M_1 el (.inl (k 1, 4000, .inr (.inl (cpB va (tf xn + a_) (tf yn + b_) n_ i)))) bg = some (.inl (k 0, 300, .inl (fun i_ => nI (tf i_)))) := (mp_up_n (mp_ne hbg__M_1 hel__M_1 (by simp))).trans hbg__M_1
                      have hsz__L : mp_up M_1 el (.inl (k 1, 4000, .inr (.inl (cpB va (tf xn + a_) (tf yn + b_) n_ i)))) sz = some (.inl (k 0, 300, .inl (fun i_ => nI (tz i_)))) := (mp_up_n (mp_ne hsz__M_1 hel__M_1 (by simp))).trans hsz__M_1
                      have hkn__L : mp_up M_1 el (.inl (k 1, 4000, .inr (.inl (cpB va (tf xn + a_) (tf yn + b_) n_ i)))) kn = some (.inl (k 0, 300, .inl (fun i_ => nI (tk i_)))) := (mp_up_n (mp_ne hkn__M_1 hel__M_1 (by simp))).trans hkn__M_1
                      have hrw__L : mp_up M_1 el (.inl (k 1, 4000, .inr (.inl (cpB va (tf xn + a_) (tf yn + b_) n_ i)))) rw = some (.inl (k 0, 12, .inl (fun i_ => nI (wt i_)))) := (mp_up_n (mp_ne hrw__M_1 hel__M_1 (by simp))).trans hrw__M_1
                      have hpp__L : mp_up M_1 el (.inl (k 1, 4000, .inr (.inl (cpB va (tf xn + a_) (tf yn + b_) n_ i)))) pp = some (.inl (k 0, 100, .inl (fun i_ => nI (sf i_)))) := (mp_up_n (mp_ne hpp__M_1 hel__M_1 (by simp))).trans hpp__M_1
                      have hpk__L : mp_up M_1 el (.inl (k 1, 4000, .inr (.inl (cpB va (tf xn + a_) (tf yn + b_) n_ i)))) pk = some (.inl (k 0, 100, .inl (fun i_ => nI (sk i_)))) := (mp_up_n (mp_ne hpk__M_1 hel__M_1 (by simp))).trans hpk__M_1
                      have hwd__L : mp_up M_1 el (.inl (k 1, 4000, .inr (.inl (cpB va (tf xn + a_) (tf yn + b_) n_ i)))) wd = some (.inl (k 0, 100, .inl (fun i_ => nI (sw i_)))) := (mp_up_n (mp_ne hwd__M_1 hel__M_1 (by simp))).trans hwd__M_1
                      have hlo__L : mp_up M_1 el (.inl (k 1, 4000, .inr (.inl (cpB va (tf xn + a_) (tf yn + b_) n_ i)))) lo = some (.inl (k 5, 100, .inl (fun i_ => nI (ml i_)))) := (mp_up_n (mp_ne hlo__M_1 hel__M_1 (by simp))).trans hlo__M_1
                      have hkp__L : mp_up M_1 el (.inl (k 1, 4000, .inr (.inl (cpB va (tf xn + a_) (tf yn + b_) n_ i)))) kp = some (.inl (k 1, 80000, .inr (.inl mk))) := (mp_up_n (mp_ne hkp__M_1 hel__M_1 (by simp))).trans hkp__M_1
                      have hks__L : mp_up M_1 el (.inl (k 1, 4000, .inr (.inl (cpB va (tf xn + a_) (tf yn + b_) n_ i)))) ks = some (.inl (k 0, 20, .inl (fun i_ => nI (nn i_)))) := (mp_up_n (mp_ne hks__M_1 hel__M_1 (by simp))).trans hks__M_1
                      refine lv_iload hx hb dM_copy_122 (lv_at hl 0 rfl) ?_
                      refine lv_iload hx hb dM_copy_124 (lv_at hl 2 rfl) ?_
                      refine zz_icmp_ge (tgt := 176) hx hb (nI_toInt (by first | assumption | omega)) hz_n_ dM_copy_126 (by decide) (fun c_18 => ?_) (fun c_18 => ?_)
                      · refine lv_iconst (v := nI 1) hx hb dM_copy_176 (by decide) ?_
                        obtain rfl : n_ = i := by omega
                        have hE := hE.set_el (va_cpy va va (tf xn + a_) (tf yn + b_) n_)
                        rw [cpB_n] at I
                        generalize eMv : mp_up M_1 el (.inl (k 1, 4000, .inr (.inl (va_cpy va va (tf xn + a_) (tf yn + b_) n_)))) = Mv at I hE
                        exact mp_zret hx hb hr hlocks I rfl (Nat.le_of_ble_eq_true rfl) (Nat.le_of_ble_eq_true rfl) dM_copy_177 (Or.inl ⟨by rw [hxi, hyi]; omega, rfl, xn, yn, a_, b_, n_, hz_xn, hz_yn, hz_a_, hz_b_, hz_n_, hE⟩)
                      · refine lv_iload hx hb dM_copy_129 (lv_at hl 3 rfl) ?_
                        refine lv_iload hx hb dM_copy_131 (lv_at hl 4 rfl) ?_
                        refine zz_icmp_ge (tgt := 146) hx hb (nI_toInt (by first | assumption | omega)) (nI_toInt (by first | assumption | omega)) dM_copy_133 (by decide) (fun c_19 => ?_) (fun c_19 => ?_)
                        · exfalso
                          omega
                        · refine lv_iload hx hb dM_copy_136 (lv_at hl 2 rfl) ?_
                          refine lv_iconst (v := nI 1) hx hb dM_copy_138 (by decide) ?_
                          refine zz_isub hx hb (by omega) dM_copy_139 ?_
                          refine lv_iload hx hb dM_copy_140 (lv_at hl 0 rfl) ?_
                          refine zz_isub hx hb (by omega) dM_copy_142 ?_
                          refine lv_goto (tgt := 148) hx hb dM_copy_143 (by decide) ?_
                          refine lv_istore (lv' := [(9, .int (nI (n_ - 1 - i))), (8, .int (nI i)), (0, .ref mo), (5, .int (nI n_)), (6, .int (nI (tf xn + a_))), (7, .int (nI (tf yn + b_)))]) hx hb dM_copy_148 hl (by decide) rfl (fun ls hl => ?_)
                          refine lv_aload_n hx hb dM_copy_150 rfl (lv_at hl 2 rfl) ?_
                          refine mp_get (v := .ref el) hx hb hts inM hown I h0__L rfl 0 (by decide) (hts _ bw_331) (fun _ h9 => h9) rfl dM_copy_151 ?_
                          refine lv_iload hx hb dM_copy_154 (lv_at hl 5 rfl) ?_
                          refine lv_iload hx hb dM_copy_156 (lv_at hl 0 rfl) ?_
                          refine zz_iadd hx hb dM_copy_158 ?_
                          refine lv_aload_n hx hb dM_copy_159 rfl (lv_at hl 2 rfl) ?_
                          refine mp_get (v := .ref el) hx hb hts inM hown I h0__L rfl 0 (by decide) (hts _ bw_331) (fun _ h9 => h9) rfl dM_copy_160 ?_
                          refine lv_iload hx hb dM_copy_163 (lv_at hl 4 rfl) ?_
                          refine lv_iload hx hb dM_copy_165 (lv_at hl 0 rfl) ?_
                          refine zz_iadd hx hb dM_copy_167 ?_
                          refine mp_lald hx hb I 1 hel__L rfl (tf xn + a_ + (n_ - 1 - i)) rfl (by omega) (by decide) (v := cpB va (tf xn + a_) (tf yn + b_) n_ i (tf xn + a_ + (n_ - 1 - i))) rfl dM_copy_168 ?_
                          refine mp_last hx hb I 1 hel__L rfl (x := cpB va (tf xn + a_) (tf yn + b_) n_ i (tf xn + a_ + (n_ - 1 - i))) (tf yn + b_ + (n_ - 1 - i)) rfl (by omega) (by decide) dM_copy_169 (fun H locs I => ?_)
                          rw [mp_upup, cpB_s (by omega) (cpB_r (by omega) hxy)] at I
                          refine lv_iinc (v := nI (i + 1)) (lv' := [(8, .int (nI (i + 1))), (9, .int (nI (n_ - 1 - i))), (0, .ref mo), (5, .int (nI n_)), (6, .int (nI (tf xn + a_))), (7, .int (nI (tf yn + b_)))]) hx hb dM_copy_170 hl (k := 1) rfl (nI_add i 1) (by decide) rfl (fun ls hl => ?_)
                          refine lv_goto (tgt := 122) hx hb dM_copy_173 (by decide) ?_
                          exact ih_i _ _ _ (by omega) (lv_sub hl [0, 2, 3, 4, 5] rfl) I
                    · have I := I.to (show M_1 = mp_up M_1 el (.inl (k 1, 4000, .inr (.inl (va_cpy va va (tf xn + a_) (tf yn + b_) 0)))) by rw [cpy_0, mp_upself hel__M_1])
                      refine mp_loop n_ 10 (fun i => [(8, .int (nI i)), (0, .ref mo), (5, .int (nI n_)), (6, .int (nI (tf xn + a_))), (7, .int (nI (tf yn + b_)))]) (fun i => mp_up M_1 el (.inl (k 1, 4000, .inr (.inl (va_cpy va va (tf xn + a_) (tf yn + b_) i))))) 0 (by omega) (lv_sub hl [0, 3, 8, 2, 1] rfl) I ?_
                      intro i H locs ls hi0_i hi_i hl I ih_i
                      have hl : lv_has ls 10 [(8, .int (nI i)), (0, .ref mo), (5, .int (nI n_)), (6, .int (nI (tf xn + a_))), (7, .int (nI (tf yn + b_)))] := hl
                      have I : mp_I D cls5 (tys6 k) s _ s.heap H locs (mp_up M_1 el (.inl (k 1, 4000, .inr (.inl (va_cpy va va (tf xn + a_) (tf yn + b_) i))))) := I
                      have h0__L : mp_up M_1 el (.inl (k 1, 4000, .inr (.inl (va_cpy va va (tf xn + a_) (tf yn + b_) i)))) mo = some (.inr (4, [.ref el, .ref ek, .int (nI ec), .ref bg, .ref sz, .ref kn, .int (nI tc), .ref rw, .int (nI wc), .ref pp, .ref pk, .ref wd, .ref lo, .int (nI sc), .ref kp, .ref ks, .int (nI nc), .int (nI 0)])) := (mp_up_n (mp_ne h0__M_1 hel__M_1 (by simp))).trans h0__M_1
                      have hel__L : mp_up M_1 el (.inl (k 1, 4000, .inr (.inl (va_cpy va va (tf xn + a_) (tf yn + b_) i)))) el = some (.inl (k 1, 4000, .inr (.inl (va_cpy va va (tf xn + a_) (tf yn + b_) i)))) := mp_up_s _ _ _
                      have hek__L : mp_up M_1 el (.inl (k 1, 4000, .inr (.inl (va_cpy va va (tf xn + a_) (tf yn + b_) i)))) ek = some (.inl (k 0, 4000, .inl (fun i_ => nI (kd i_)))) := (mp_up_n (mp_ne hek__M_1 hel__M_1 (by simp))).trans hek__M_1
                      have hbg__L : mp_up M_1 el (.inl (k 1, 4000, .inr (.inl (va_cpy va va (tf xn + a_) (tf yn + b_) i)))) bg = some (.inl (k 0, 300, .inl (fun i_ => nI (tf i_)))) := (mp_up_n (mp_ne hbg__M_1 hel__M_1 (by simp))).trans hbg__M_1
                      have hsz__L : mp_up M_1 el (.inl (k 1, 4000, .inr (.inl (va_cpy va va (tf xn + a_) (tf yn + b_) i)))) sz = some (.inl (k 0, 300, .inl (fun i_ => nI (tz i_)))) := (mp_up_n (mp_ne hsz__M_1 hel__M_1 (by simp))).trans hsz__M_1
                      have hkn__L : mp_up M_1 el (.inl (k 1, 4000, .inr (.inl (va_cpy va va (tf xn + a_) (tf yn + b_) i)))) kn = some (.inl (k 0, 300, .inl (fun i_ => nI (tk i_)))) := (mp_up_n (mp_ne hkn__M_1 hel__M_1 (by simp))).trans hkn__M_1
                      have hrw__L : mp_up M_1 el (.inl (k 1, 4000, .inr (.inl (va_cpy va va (tf xn + a_) (tf yn + b_) i)))) rw = some (.inl (k 0, 12, .inl (fun i_ => nI (wt i_)))) := (mp_up_n (mp_ne hrw__M_1 hel__M_1 (by simp))).trans hrw__M_1
                      have hpp__L : mp_up M_1 el (.inl (k 1, 4000, .inr (.inl (va_cpy va va (tf xn + a_) (tf yn + b_) i)))) pp = some (.inl (k 0, 100, .inl (fun i_ => nI (sf i_)))) := (mp_up_n (mp_ne hpp__M_1 hel__M_1 (by simp))).trans hpp__M_1
                      have hpk__L : mp_up M_1 el (.inl (k 1, 4000, .inr (.inl (va_cpy va va (tf xn + a_) (tf yn + b_) i)))) pk = some (.inl (k 0, 100, .inl (fun i_ => nI (sk i_)))) := (mp_up_n (mp_ne hpk__M_1 hel__M_1 (by simp))).trans hpk__M_1
                      have hwd__L : mp_up M_1 el (.inl (k 1, 4000, .inr (.inl (va_cpy va va (tf xn + a_) (tf yn + b_) i)))) wd = some (.inl (k 0, 100, .inl (fun i_ => nI (sw i_)))) := (mp_up_n (mp_ne hwd__M_1 hel__M_1 (by simp))).trans hwd__M_1
                      have hlo__L : mp_up M_1 el (.inl (k 1, 4000, .inr (.inl (va_cpy va va (tf xn + a_) (tf yn + b_) i)))) lo = some (.inl (k 5, 100, .inl (fun i_ => nI (ml i_)))) := (mp_up_n (mp_ne hlo__M_1 hel__M_1 (by simp))).trans hlo__M_1
                      have hkp__L : mp_up M_1 el (.inl (k 1, 4000, .inr (.inl (va_cpy va va (tf xn + a_) (tf yn + b_) i)))) kp = some (.inl (k 1, 80000, .inr (.inl mk))) := (mp_up_n (mp_ne hkp__M_1 hel__M_1 (by simp))).trans hkp__M_1
                      have hks__L : mp_up M_1 el (.inl (k 1, 4000, .inr (.inl (va_cpy va va (tf xn + a_) (tf yn + b_) i)))) ks = some (.inl (k 0, 20, .inl (fun i_ => nI (nn i_)))) := (mp_up_n (mp_ne hks__M_1 hel__M_1 (by simp))).trans hks__M_1
                      refine lv_iload hx hb dM_copy_122 (lv_at hl 0 rfl) ?_
                      refine lv_iload hx hb dM_copy_124 (lv_at hl 2 rfl) ?_
                      refine zz_icmp_ge (tgt := 176) hx hb (nI_toInt (by first | assumption | omega)) hz_n_ dM_copy_126 (by decide) (fun c_20 => ?_) (fun c_20 => ?_)
                      · refine lv_iconst (v := nI 1) hx hb dM_copy_176 (by decide) ?_
                        obtain rfl : n_ = i := by omega
                        have hE := hE.set_el (va_cpy va va (tf xn + a_) (tf yn + b_) n_)
                        generalize eMv : mp_up M_1 el (.inl (k 1, 4000, .inr (.inl (va_cpy va va (tf xn + a_) (tf yn + b_) n_)))) = Mv at I hE
                        exact mp_zret hx hb hr hlocks I rfl (Nat.le_of_ble_eq_true rfl) (Nat.le_of_ble_eq_true rfl) dM_copy_177 (Or.inl ⟨by rw [hxi, hyi]; omega, rfl, xn, yn, a_, b_, n_, hz_xn, hz_yn, hz_a_, hz_b_, hz_n_, hE⟩)
                      · refine lv_iload hx hb dM_copy_129 (lv_at hl 3 rfl) ?_
                        refine lv_iload hx hb dM_copy_131 (lv_at hl 4 rfl) ?_
                        refine zz_icmp_ge (tgt := 146) hx hb (nI_toInt (by first | assumption | omega)) (nI_toInt (by first | assumption | omega)) dM_copy_133 (by decide) (fun c_21 => ?_) (fun c_21 => ?_)
                        · refine lv_iload hx hb dM_copy_146 (lv_at hl 0 rfl) ?_
                          refine lv_istore (lv' := [(9, .int (nI i)), (8, .int (nI i)), (0, .ref mo), (5, .int (nI n_)), (6, .int (nI (tf xn + a_))), (7, .int (nI (tf yn + b_)))]) hx hb dM_copy_148 hl (by decide) rfl (fun ls hl => ?_)
                          refine lv_aload_n hx hb dM_copy_150 rfl (lv_at hl 2 rfl) ?_
                          refine mp_get (v := .ref el) hx hb hts inM hown I h0__L rfl 0 (by decide) (hts _ bw_331) (fun _ h9 => h9) rfl dM_copy_151 ?_
                          refine lv_iload hx hb dM_copy_154 (lv_at hl 5 rfl) ?_
                          refine lv_iload hx hb dM_copy_156 (lv_at hl 0 rfl) ?_
                          refine zz_iadd hx hb dM_copy_158 ?_
                          refine lv_aload_n hx hb dM_copy_159 rfl (lv_at hl 2 rfl) ?_
                          refine mp_get (v := .ref el) hx hb hts inM hown I h0__L rfl 0 (by decide) (hts _ bw_331) (fun _ h9 => h9) rfl dM_copy_160 ?_
                          refine lv_iload hx hb dM_copy_163 (lv_at hl 4 rfl) ?_
                          refine lv_iload hx hb dM_copy_165 (lv_at hl 0 rfl) ?_
                          refine zz_iadd hx hb dM_copy_167 ?_
                          refine mp_lald hx hb I 1 hel__L rfl (tf xn + a_ + i) rfl (by omega) (by decide) (v := va_cpy va va (tf xn + a_) (tf yn + b_) i (tf xn + a_ + i)) rfl dM_copy_168 ?_
                          refine mp_last hx hb I 1 hel__L rfl (x := va_cpy va va (tf xn + a_) (tf yn + b_) i (tf xn + a_ + i)) (tf yn + b_ + i) rfl (by omega) (by decide) dM_copy_169 (fun H locs I => ?_)
                          rw [mp_upup, cpy_s (pk_cpy_out (by omega))] at I
                          refine lv_iinc (v := nI (i + 1)) (lv' := [(8, .int (nI (i + 1))), (9, .int (nI i)), (0, .ref mo), (5, .int (nI n_)), (6, .int (nI (tf xn + a_))), (7, .int (nI (tf yn + b_)))]) hx hb dM_copy_170 hl (k := 1) rfl (nI_add i 1) (by decide) rfl (fun ls hl => ?_)
                          refine lv_goto (tgt := 122) hx hb dM_copy_173 (by decide) ?_
                          exact ih_i _ _ _ (by omega) (lv_sub hl [0, 2, 3, 4, 5] rfl) I
                        · exfalso
                          omega
                  · refine lv_iconst (v := nI 0) hx hb dM_copy_96 (by decide) ?_
                    exact mp_zret hx hb hr hlocks I rfl (Nat.le_of_ble_eq_true rfl) (Nat.le_of_ble_eq_true rfl) dM_copy_97 (Or.inr ⟨by rw [hxi, hyi]; omega, rfl, hE⟩)
          · refine lv_iconst (v := nI 0) hx hb dM_copy_50 (by decide) ?_
            exact mp_zret hx hb hr hlocks I rfl (Nat.le_of_ble_eq_true rfl) (Nat.le_of_ble_eq_true rfl) dM_copy_51 (Or.inr ⟨by rw [hxi, hyi]; omega, rfl, hE⟩)
    · refine zz_if_eq (tgt := 50) hx hb (nI_toInt (by decide)) dM_copy_18 (by decide) (fun _ => ?_) (fun c_22 => absurd c_22 (by decide))
      refine lv_iconst (v := nI 0) hx hb dM_copy_50 (by decide) ?_
      exact mp_zret hx hb hr hlocks I rfl (Nat.le_of_ble_eq_true rfl) (Nat.le_of_ble_eq_true rfl) dM_copy_51 (Or.inr ⟨by omega, rfl, hE⟩)
  · refine zz_if_eq (tgt := 50) hx hb (nI_toInt (by decide)) dM_copy_10 (by decide) (fun _ => ?_) (fun c_23 => absurd c_23 (by decide))
    refine lv_iconst (v := nI 0) hx hb dM_copy_50 (by decide) ?_
    exact mp_zret hx hb hr hlocks I rfl (Nat.le_of_ble_eq_true rfl) (Nat.le_of_ble_eq_true rfl) dM_copy_51 (Or.inr ⟨by omega, rfl, hE⟩)
abbrev rm_M_act : Room := { frames := 2, cells := 0, slots := 0, locals := 60 }
set_option maxHeartbeats 4000000 in
set_option maxRecDepth 100000 in
theorem kM_act (l : Launch) (D : va_G) (k : Nat → ClassId) (M : mp_M) {mo el ek bg sz kn rw pp pk wd lo kp ks : Nat} {ec tc wc sc nc th : Nat} {va mk : Nat → Int64} {kd wt tk tf tz sk sf sw ml nn : Nat → Nat} (hE : MdX k M mo el ek bg sz kn rw pp pk wd lo kp ks ec tc wc sc nc th va mk kd wt tk tf tz sk sf sw ml nn) (hO : OkB ec tc wc sc nc tk tf tz sk sf sw ml nn) (x act : Int32) (v w : Int64) : mp_Met l yM_act (Cond.code yM_act cM_act 11 (some .long) :: bw) rm_M_act D cls5 (tys6 k) [.ref mo, .int x, .int act, .long v, .long w] M (va_Ql (fun r M1 => (gact tc sc sk x.toInt act.toInt v w ∧ r = (pm act.toInt (sk x.toInt.toNat) (rdv va (sk x.toInt.toNat) (sf x.toInt.toNat) (sw x.toInt.toNat) (ml x.toInt.toNat)) v w).1 ∧ MdX k M1 mo el ek bg sz kn rw pp pk wd lo kp ks ec tc wc sc nc (0) (wro va (sf x.toInt.toNat) (sw x.toInt.toNat) (ml x.toInt.toNat) (pm act.toInt (sk x.toInt.toNat) (rdv va (sk x.toInt.toNat) (sf x.toInt.toNat) (sw x.toInt.toNat) (ml x.toInt.toNat)) v w).2) mk kd wt tk tf tz sk sf sw ml nn) ∨ (¬ gact tc sc sk x.toInt act.toInt v w ∧ r = 0 ∧ MdX k M1 mo el ek bg sz kn rw pp pk wd lo kp ks ec tc wc sc nc (1) va mk kd wt tk tf tz sk sf sw ml nn))) 0 0 := by
  refine mp_Met.of (by decide) (Nat.le_of_ble_eq_true rfl) ?_
  intro p e s m below meth c hx hb hr hml hown hts hlocks hin ls hl I
  have hl : lv_has ls 11 [(0, .ref mo), (1, .int x), (2, .int act), (3, .long v), (5, .long w)] := hl
  obtain ⟨h0, hel, hek, hbg, hsz, hkn, hrw, hpp, hpk, hwd, hlo, hkp, hks, n_bg_sz, n_bg_kn, n_sz_kn, n_pp_pk, n_pp_wd, n_pk_wd, n_pp_lo, n_pk_lo, n_wd_lo⟩ := id hE
  obtain ⟨b1, b2, b3, b4, b5, bT, bS, bN⟩ := id hO
  refine lv_aload_n hx hb dM_act_0 rfl (lv_at hl 0 rfl) ?_
  refine lv_iload_n hx hb dM_act_1 rfl (lv_at hl 1 rfl) ?_
  refine mp_calli (va_runV (As := [.int x]) (rest := []) ⟨hx, hb, hml, hown, hts⟩ (kM_isPlace l D k M hE hO x _) (cwV 1 hts (bw_V bw_435 bw_437 bs_14 bw_2 bw_438) rfl rfl rfl (by decide +kernel) ⟨Nat.le_of_ble_eq_true rfl, Nat.le_of_ble_eq_true rfl⟩) (mp_preV I h0 rfl _) rfl rfl hl.1 rfl (lv_room (Nat.le_of_ble_eq_true rfl)) dM_act_2 ⟨Nat.le_of_ble_eq_true rfl, Nat.le_of_ble_eq_true rfl⟩) I (fun r_1 N_2 H locs hp I => ?_)
  obtain ⟨e_3, hp⟩ := hp
  rw [e_3] at I
  rcases hp with ⟨p1, rfl⟩ | ⟨p1, rfl⟩
  · refine zz_if_eq (tgt := 22) hx hb (nI_toInt (by decide)) dM_act_5 (by decide) (fun c_4 => absurd c_4 (by decide)) (fun _ => ?_)
    refine lv_iload_n hx hb dM_act_8 rfl (lv_at hl 2 rfl) ?_
    refine zz_if_lt (tgt := 22) hx hb rfl dM_act_9 (by decide) (fun c_5 => ?_) (fun c_5 => ?_)
    · refine lv_iconst (v := nI 0) hx hb dM_act_22 (by decide) ?_
      refine lv_istore (lv' := [(7, .int (nI 0)), (0, .ref mo), (1, .int x), (2, .int act), (3, .long v), (5, .long w)]) hx hb dM_act_23 hl (by decide) rfl (fun ls hl => ?_)
      refine lv_iload hx hb dM_act_25 (lv_at hl 0 rfl) ?_
      refine zz_if_eq (tgt := 39) hx hb (nI_toInt (by decide)) dM_act_27 (by decide) (fun _ => ?_) (fun c_6 => absurd c_6 (by decide))
      refine lv_iconst (v := nI 0) hx hb dM_act_39 (by decide) ?_
      refine lv_istore (lv' := [(8, .int (nI 0)), (7, .int (nI 0)), (0, .ref mo), (1, .int x), (2, .int act), (3, .long v), (5, .long w)]) hx hb dM_act_40 hl (by decide) rfl (fun ls hl => ?_)
      refine lv_iload hx hb dM_act_42 (lv_at hl 1 rfl) ?_
      refine zz_if_eq (tgt := 74) hx hb (nI_toInt (by decide)) dM_act_44 (by decide) (fun _ => ?_) (fun c_7 => absurd c_7 (by decide))
      refine lv_iconst (v := nI 0) hx hb dM_act_74 (by decide) ?_
      refine lv_istore (lv' := [(7, .int (nI 0)), (8, .int (nI 0)), (0, .ref mo), (1, .int x), (2, .int act), (3, .long v), (5, .long w)]) hx hb dM_act_75 hl (by decide) rfl (fun ls hl => ?_)
      refine lv_iload hx hb dM_act_77 (lv_at hl 0 rfl) ?_
      refine zz_if_eq (tgt := 116) hx hb (nI_toInt (by decide)) dM_act_79 (by decide) (fun _ => ?_) (fun c_8 => absurd c_8 (by decide))
      refine lv_iconst (v := nI 0) hx hb dM_act_116 (by decide) ?_
      refine lv_istore (lv' := [(7, .int (nI 0)), (8, .int (nI 0)), (0, .ref mo), (1, .int x), (2, .int act), (3, .long v), (5, .long w)]) hx hb dM_act_117 hl (by decide) rfl (fun ls hl => ?_)
      refine lv_aload_n hx hb dM_act_119 rfl (lv_at hl 2 rfl) ?_
      refine lv_iload hx hb dM_act_120 (lv_at hl 0 rfl) ?_
      refine zz_if_eq (tgt := 129) hx hb (nI_toInt (by decide)) dM_act_122 (by decide) (fun _ => ?_) (fun c_9 => absurd c_9 (by decide))
      refine lv_iconst (v := nI 1) hx hb dM_act_129 (by decide) ?_
      refine mp_put (v := .int (nI 1)) (ty := .int) hx hb hts inM tyM okM nmM hown I h0 rfl 17 (by decide) (hts _ bw_348) (fun _ h9 => h9) rfl (by decide +kernel) rfl rfl (Nat.le_of_ble_eq_true rfl) dM_act_130 (fun H locs I => ?_)
      have I : mp_I D cls5 (tys6 k) s _ s.heap H locs (mp_up M mo (.inr (4, [.ref el, .ref ek, .int (nI ec), .ref bg, .ref sz, .ref kn, .int (nI tc), .ref rw, .int (nI wc), .ref pp, .ref pk, .ref wd, .ref lo, .int (nI sc), .ref kp, .ref ks, .int (nI nc), .int (nI 1)]))) := I
      have h0_n : mp_up M mo (.inr (4, [.ref el, .ref ek, .int (nI ec), .ref bg, .ref sz, .ref kn, .int (nI tc), .ref rw, .int (nI wc), .ref pp, .ref pk, .ref wd, .ref lo, .int (nI sc), .ref kp, .ref ks, .int (nI nc), .int (nI 1)])) mo = some (.inr (4, [.ref el, .ref ek, .int (nI ec), .ref bg, .ref sz, .ref kn, .int (nI tc), .ref rw, .int (nI wc), .ref pp, .ref pk, .ref wd, .ref lo, .int (nI sc), .ref kp, .ref ks, .int (nI nc), .int (nI 1)])) := mp_up_s _ _ _
      have hel_n : mp_up M mo (.inr (4, [.ref el, .ref ek, .int (nI ec), .ref bg, .ref sz, .ref kn, .int (nI tc), .ref rw, .int (nI wc), .ref pp, .ref pk, .ref wd, .ref lo, .int (nI sc), .ref kp, .ref ks, .int (nI nc), .int (nI 1)])) el = some (.inl (k 1, 4000, .inr (.inl va))) := (mp_up_n (mp_ne hel h0 (by simp))).trans hel
      have hek_n : mp_up M mo (.inr (4, [.ref el, .ref ek, .int (nI ec), .ref bg, .ref sz, .ref kn, .int (nI tc), .ref rw, .int (nI wc), .ref pp, .ref pk, .ref wd, .ref lo, .int (nI sc), .ref kp, .ref ks, .int (nI nc), .int (nI 1)])) ek = some (.inl (k 0, 4000, .inl (fun i_ => nI (kd i_)))) := (mp_up_n (mp_ne hek h0 (by simp))).trans hek
      have hbg_n : mp_up M mo (.inr (4, [.ref el, .ref ek, .int (nI ec), .ref bg, .ref sz, .ref kn, .int (nI tc), .ref rw, .int (nI wc), .ref pp, .ref pk, .ref wd, .ref lo, .int (nI sc), .ref kp, .ref ks, .int (nI nc), .int (nI 1)])) bg = some (.inl (k 0, 300, .inl (fun i_ => nI (tf i_)))) := (mp_up_n (mp_ne hbg h0 (by simp))).trans hbg
      have hsz_n : mp_up M mo (.inr (4, [.ref el, .ref ek, .int (nI ec), .ref bg, .ref sz, .ref kn, .int (nI tc), .ref rw, .int (nI wc), .ref pp, .ref pk, .ref wd, .ref lo, .int (nI sc), .ref kp, .ref ks, .int (nI nc), .int (nI 1)])) sz = some (.inl (k 0, 300, .inl (fun i_ => nI (tz i_)))) := (mp_up_n (mp_ne hsz h0 (by simp))).trans hsz
      have hkn_n : mp_up M mo (.inr (4, [.ref el, .ref ek, .int (nI ec), .ref bg, .ref sz, .ref kn, .int (nI tc), .ref rw, .int (nI wc), .ref pp, .ref pk, .ref wd, .ref lo, .int (nI sc), .ref kp, .ref ks, .int (nI nc), .int (nI 1)])) kn = some (.inl (k 0, 300, .inl (fun i_ => nI (tk i_)))) := (mp_up_n (mp_ne hkn h0 (by simp))).trans hkn
      have hrw_n : mp_up M mo (.inr (4, [.ref el, .ref ek, .int (nI ec), .ref bg, .ref sz, .ref kn, .int (nI tc), .ref rw, .int (nI wc), .ref pp, .ref pk, .ref wd, .ref lo, .int (nI sc), .ref kp, .ref ks, .int (nI nc), .int (nI 1)])) rw = some (.inl (k 0, 12, .inl (fun i_ => nI (wt i_)))) := (mp_up_n (mp_ne hrw h0 (by simp))).trans hrw
      have hpp_n : mp_up M mo (.inr (4, [.ref el, .ref ek, .int (nI ec), .ref bg, .ref sz, .ref kn, .int (nI tc), .ref rw, .int (nI wc), .ref pp, .ref pk, .ref wd, .ref lo, .int (nI sc), .ref kp, .ref ks, .int (nI nc), .int (nI 1)])) pp = some (.inl (k 0, 100, .inl (fun i_ => nI (sf i_)))) := (mp_up_n (mp_ne hpp h0 (by simp))).trans hpp
      have hpk_n : mp_up M mo (.inr (4, [.ref el, .ref ek, .int (nI ec), .ref bg, .ref sz, .ref kn, .int (nI tc), .ref rw, .int (nI wc), .ref pp, .ref pk, .ref wd, .ref lo, .int (nI sc), .ref kp, .ref ks, .int (nI nc), .int (nI 1)])) pk = some (.inl (k 0, 100, .inl (fun i_ => nI (sk i_)))) := (mp_up_n (mp_ne hpk h0 (by simp))).trans hpk
      have hwd_n : mp_up M mo (.inr (4, [.ref el, .ref ek, .int (nI ec), .ref bg, .ref sz, .ref kn, .int (nI tc), .ref rw, .int (nI wc), .ref pp, .ref pk, .ref wd, .ref lo, .int (nI sc), .ref kp, .ref ks, .int (nI nc), .int (nI 1)])) wd = some (.inl (k 0, 100, .inl (fun i_ => nI (sw i_)))) := (mp_up_n (mp_ne hwd h0 (by simp))).trans hwd
      have hlo_n : mp_up M mo (.inr (4, [.ref el, .ref ek, .int (nI ec), .ref bg, .ref sz, .ref kn, .int (nI tc), .ref rw, .int (nI wc), .ref pp, .ref pk, .ref wd, .ref lo, .int (nI sc), .ref kp, .ref ks, .int (nI nc), .int (nI 1)])) lo = some (.inl (k 5, 100, .inl (fun i_ => nI (ml i_)))) := (mp_up_n (mp_ne hlo h0 (by simp))).trans hlo
      have hkp_n : mp_up M mo (.inr (4, [.ref el, .ref ek, .int (nI ec), .ref bg, .ref sz, .ref kn, .int (nI tc), .ref rw, .int (nI wc), .ref pp, .ref pk, .ref wd, .ref lo, .int (nI sc), .ref kp, .ref ks, .int (nI nc), .int (nI 1)])) kp = some (.inl (k 1, 80000, .inr (.inl mk))) := (mp_up_n (mp_ne hkp h0 (by simp))).trans hkp
      have hks_n : mp_up M mo (.inr (4, [.ref el, .ref ek, .int (nI ec), .ref bg, .ref sz, .ref kn, .int (nI tc), .ref rw, .int (nI wc), .ref pp, .ref pk, .ref wd, .ref lo, .int (nI sc), .ref kp, .ref ks, .int (nI nc), .int (nI 1)])) ks = some (.inl (k 0, 20, .inl (fun i_ => nI (nn i_)))) := (mp_up_n (mp_ne hks h0 (by simp))).trans hks
      generalize eM_11 : mp_up M mo (.inr (4, [.ref el, .ref ek, .int (nI ec), .ref bg, .ref sz, .ref kn, .int (nI tc), .ref rw, .int (nI wc), .ref pp, .ref pk, .ref wd, .ref lo, .int (nI sc), .ref kp, .ref ks, .int (nI nc), .int (nI 1)])) = M_10 at I h0_n hel_n hek_n hbg_n hsz_n hkn_n hrw_n hpp_n hpk_n hwd_n hlo_n hkp_n hks_n
      have h0__M_10 := h0_n
      have hel__M_10 := hel_n
      have hek__M_10 := hek_n
      have hbg__M_10 := hbg_n
      have hsz__M_10 := hsz_n
      have hkn__M_10 := hkn_n
      have hrw__M_10 := hrw_n
      have hpp__M_10 := hpp_n
      have hpk__M_10 := hpk_n
      have hwd__M_10 := hwd_n
      have hlo__M_10 := hlo_n
      have hkp__M_10 := hkp_n
      have hks__M_10 := hks_n
      clear h0_n hel_n hek_n hbg_n hsz_n hkn_n hrw_n hpp_n hpk_n hwd_n hlo_n hkp_n hks_n
      have hE := hE.cnt ec tc wc sc nc 1
      rw [eM_11] at hE
      refine lv_iload hx hb dM_act_133 (lv_at hl 0 rfl) ?_
      refine zz_if_ne (tgt := 140) hx hb (nI_toInt (by decide)) dM_act_135 (by decide) (fun c_12 => absurd c_12 (by decide)) (fun _ => ?_)
      refine lv_lconst (v := 0) hx hb dM_act_138 (by decide) ?_
      exact mp_lret hx hb hr hlocks I (Nat.le_of_ble_eq_true rfl) (Nat.le_of_ble_eq_true rfl) dM_act_139 (Or.inr ⟨by intro hg; obtain ⟨g1, g2, g3, g4, g5⟩ := hg; unfold aok at g3; first | omega | exact p4 (g4 (by omega)) | exact p5 (g5 (by omega)), rfl, hE⟩)
    · refine lv_iload_n hx hb dM_act_12 rfl (lv_at hl 2 rfl) ?_
      refine lv_bipush (v := nI 7) hx hb dM_act_13 (by decide) ?_
      refine zz_icmp_gt (tgt := 22) hx hb rfl (nI_toInt (by decide)) dM_act_15 (by decide) (fun c_13 => ?_) (fun c_13 => ?_)
      · refine lv_iconst (v := nI 0) hx hb dM_act_22 (by decide) ?_
        refine lv_istore (lv' := [(7, .int (nI 0)), (0, .ref mo), (1, .int x), (2, .int act), (3, .long v), (5, .long w)]) hx hb dM_act_23 hl (by decide) rfl (fun ls hl => ?_)
        refine lv_iload hx hb dM_act_25 (lv_at hl 0 rfl) ?_
        refine zz_if_eq (tgt := 39) hx hb (nI_toInt (by decide)) dM_act_27 (by decide) (fun _ => ?_) (fun c_14 => absurd c_14 (by decide))
        refine lv_iconst (v := nI 0) hx hb dM_act_39 (by decide) ?_
        refine lv_istore (lv' := [(8, .int (nI 0)), (7, .int (nI 0)), (0, .ref mo), (1, .int x), (2, .int act), (3, .long v), (5, .long w)]) hx hb dM_act_40 hl (by decide) rfl (fun ls hl => ?_)
        refine lv_iload hx hb dM_act_42 (lv_at hl 1 rfl) ?_
        refine zz_if_eq (tgt := 74) hx hb (nI_toInt (by decide)) dM_act_44 (by decide) (fun _ => ?_) (fun c_15 => absurd c_15 (by decide))
        refine lv_iconst (v := nI 0) hx hb dM_act_74 (by decide) ?_
        refine lv_istore (lv' := [(7, .int (nI 0)), (8, .int (nI 0)), (0, .ref mo), (1, .int x), (2, .int act), (3, .long v), (5, .long w)]) hx hb dM_act_75 hl (by decide) rfl (fun ls hl => ?_)
        refine lv_iload hx hb dM_act_77 (lv_at hl 0 rfl) ?_
        refine zz_if_eq (tgt := 116) hx hb (nI_toInt (by decide)) dM_act_79 (by decide) (fun _ => ?_) (fun c_16 => absurd c_16 (by decide))
        refine lv_iconst (v := nI 0) hx hb dM_act_116 (by decide) ?_
        refine lv_istore (lv' := [(7, .int (nI 0)), (8, .int (nI 0)), (0, .ref mo), (1, .int x), (2, .int act), (3, .long v), (5, .long w)]) hx hb dM_act_117 hl (by decide) rfl (fun ls hl => ?_)
        refine lv_aload_n hx hb dM_act_119 rfl (lv_at hl 2 rfl) ?_
        refine lv_iload hx hb dM_act_120 (lv_at hl 0 rfl) ?_
        refine zz_if_eq (tgt := 129) hx hb (nI_toInt (by decide)) dM_act_122 (by decide) (fun _ => ?_) (fun c_17 => absurd c_17 (by decide))
        refine lv_iconst (v := nI 1) hx hb dM_act_129 (by decide) ?_
        refine mp_put (v := .int (nI 1)) (ty := .int) hx hb hts inM tyM okM nmM hown I h0 rfl 17 (by decide) (hts _ bw_348) (fun _ h9 => h9) rfl (by decide +kernel) rfl rfl (Nat.le_of_ble_eq_true rfl) dM_act_130 (fun H locs I => ?_)
        have I : mp_I D cls5 (tys6 k) s _ s.heap H locs (mp_up M mo (.inr (4, [.ref el, .ref ek, .int (nI ec), .ref bg, .ref sz, .ref kn, .int (nI tc), .ref rw, .int (nI wc), .ref pp, .ref pk, .ref wd, .ref lo, .int (nI sc), .ref kp, .ref ks, .int (nI nc), .int (nI 1)]))) := I
        have h0_n : mp_up M mo (.inr (4, [.ref el, .ref ek, .int (nI ec), .ref bg, .ref sz, .ref kn, .int (nI tc), .ref rw, .int (nI wc), .ref pp, .ref pk, .ref wd, .ref lo, .int (nI sc), .ref kp, .ref ks, .int (nI nc), .int (nI 1)])) mo = some (.inr (4, [.ref el, .ref ek, .int (nI ec), .ref bg, .ref sz, .ref kn, .int (nI tc), .ref rw, .int (nI wc), .ref pp, .ref pk, .ref wd, .ref lo, .int (nI sc), .ref kp, .ref ks, .int (nI nc), .int (nI 1)])) := mp_up_s _ _ _
        have hel_n : mp_up M mo (.inr (4, [.ref el, .ref ek, .int (nI ec), .ref bg, .ref sz, .ref kn, .int (nI tc), .ref rw, .int (nI wc), .ref pp, .ref pk, .ref wd, .ref lo, .int (nI sc), .ref kp, .ref ks, .int (nI nc), .int (nI 1)])) el = some (.inl (k 1, 4000, .inr (.inl va))) := (mp_up_n (mp_ne hel h0 (by simp))).trans hel
        have hek_n : mp_up M mo (.inr (4, [.ref el, .ref ek, .int (nI ec), .ref bg, .ref sz, .ref kn, .int (nI tc), .ref rw, .int (nI wc), .ref pp, .ref pk, .ref wd, .ref lo, .int (nI sc), .ref kp, .ref ks, .int (nI nc), .int (nI 1)])) ek = some (.inl (k 0, 4000, .inl (fun i_ => nI (kd i_)))) := (mp_up_n (mp_ne hek h0 (by simp))).trans hek
        have hbg_n : mp_up M mo (.inr (4, [.ref el, .ref ek, .int (nI ec), .ref bg, .ref sz, .ref kn, .int (nI tc), .ref rw, .int (nI wc), .ref pp, .ref pk, .ref wd, .ref lo, .int (nI sc), .ref kp, .ref ks, .int (nI nc), .int (nI 1)])) bg = some (.inl (k 0, 300, .inl (fun i_ => nI (tf i_)))) := (mp_up_n (mp_ne hbg h0 (by simp))).trans hbg
        have hsz_n : mp_up M mo (.inr (4, [.ref el, .ref ek, .int (nI ec), .ref bg, .ref sz, .ref kn, .int (nI tc), .ref rw, .int (nI wc), .ref pp, .ref pk, .ref wd, .ref lo, .int (nI sc), .ref kp, .ref ks, .int (nI nc), .int (nI 1)])) sz = some (.inl (k 0, 300, .inl (fun i_ => nI (tz i_)))) := (mp_up_n (mp_ne hsz h0 (by simp))).trans hsz
        have hkn_n : mp_up M mo (.inr (4, [.ref el, .ref ek, .int (nI ec), .ref bg, .ref sz, .ref kn, .int (nI tc), .ref rw, .int (nI wc), .ref pp, .ref pk, .ref wd, .ref lo, .int (nI sc), .ref kp, .ref ks, .int (nI nc), .int (nI 1)])) kn = some (.inl (k 0, 300, .inl (fun i_ => nI (tk i_)))) := (mp_up_n (mp_ne hkn h0 (by simp))).trans hkn
        have hrw_n : mp_up M mo (.inr (4, [.ref el, .ref ek, .int (nI ec), .ref bg, .ref sz, .ref kn, .int (nI tc), .ref rw, .int (nI wc), .ref pp, .ref pk, .ref wd, .ref lo, .int (nI sc), .ref kp, .ref ks, .int (nI nc), .int (nI 1)])) rw = some (.inl (k 0, 12, .inl (fun i_ => nI (wt i_)))) := (mp_up_n (mp_ne hrw h0 (by simp))).trans hrw
        have hpp_n : mp_up M mo (.inr (4, [.ref el, .ref ek, .int (nI ec), .ref bg, .ref sz, .ref kn, .int (nI tc), .ref rw, .int (nI wc), .ref pp, .ref pk, .ref wd, .ref lo, .int (nI sc), .ref kp, .ref ks, .int (nI nc), .int (nI 1)])) pp = some (.inl (k 0, 100, .inl (fun i_ => nI (sf i_)))) := (mp_up_n (mp_ne hpp h0 (by simp))).trans hpp
        have hpk_n : mp_up M mo (.inr (4, [.ref el, .ref ek, .int (nI ec), .ref bg, .ref sz, .ref kn, .int (nI tc), .ref rw, .int (nI wc), .ref pp, .ref pk, .ref wd, .ref lo, .int (nI sc), .ref kp, .ref ks, .int (nI nc), .int (nI 1)])) pk = some (.inl (k 0, 100, .inl (fun i_ => nI (sk i_)))) := (mp_up_n (mp_ne hpk h0 (by simp))).trans hpk
        have hwd_n : mp_up M mo (.inr (4, [.ref el, .ref ek, .int (nI ec), .ref bg, .ref sz, .ref kn, .int (nI tc), .ref rw, .int (nI wc), .ref pp, .ref pk, .ref wd, .ref lo, .int (nI sc), .ref kp, .ref ks, .int (nI nc), .int (nI 1)])) wd = some (.inl (k 0, 100, .inl (fun i_ => nI (sw i_)))) := (mp_up_n (mp_ne hwd h0 (by simp))).trans hwd
        have hlo_n : mp_up M mo (.inr (4, [.ref el, .ref ek, .int (nI ec), .ref bg, .ref sz, .ref kn, .int (nI tc), .ref rw, .int (nI wc), .ref pp, .ref pk, .ref wd, .ref lo, .int (nI sc), .ref kp, .ref ks, .int (nI nc), .int (nI 1)])) lo = some (.inl (k 5, 100, .inl (fun i_ => nI (ml i_)))) := (mp_up_n (mp_ne hlo h0 (by simp))).trans hlo
        have hkp_n : mp_up M mo (.inr (4, [.ref el, .ref ek, .int (nI ec), .ref bg, .ref sz, .ref kn, .int (nI tc), .ref rw, .int (nI wc), .ref pp, .ref pk, .ref wd, .ref lo, .int (nI sc), .ref kp, .ref ks, .int (nI nc), .int (nI 1)])) kp = some (.inl (k 1, 80000, .inr (.inl mk))) := (mp_up_n (mp_ne hkp h0 (by simp))).trans hkp
        have hks_n : mp_up M mo (.inr (4, [.ref el, .ref ek, .int (nI ec), .ref bg, .ref sz, .ref kn, .int (nI tc), .ref rw, .int (nI wc), .ref pp, .ref pk, .ref wd, .ref lo, .int (nI sc), .ref kp, .ref ks, .int (nI nc), .int (nI 1)])) ks = some (.inl (k 0, 20, .inl (fun i_ => nI (nn i_)))) := (mp_up_n (mp_ne hks h0 (by simp))).trans hks
        generalize eM_19 : mp_up M mo (.inr (4, [.ref el, .ref ek, .int (nI ec), .ref bg, .ref sz, .ref kn, .int (nI tc), .ref rw, .int (nI wc), .ref pp, .ref pk, .ref wd, .ref lo, .int (nI sc), .ref kp, .ref ks, .int (nI nc), .int (nI 1)])) = M_18 at I h0_n hel_n hek_n hbg_n hsz_n hkn_n hrw_n hpp_n hpk_n hwd_n hlo_n hkp_n hks_n
        have h0__M_18 := h0_n
        have hel__M_18 := hel_n
        have hek__M_18 := hek_n
        have hbg__M_18 := hbg_n
        have hsz__M_18 := hsz_n
        have hkn__M_18 := hkn_n
        have hrw__M_18 := hrw_n
        have hpp__M_18 := hpp_n
        have hpk__M_18 := hpk_n
        have hwd__M_18 := hwd_n
        have hlo__M_18 := hlo_n
        have hkp__M_18 := hkp_n
        have hks__M_18 := hks_n
        clear h0_n hel_n hek_n hbg_n hsz_n hkn_n hrw_n hpp_n hpk_n hwd_n hlo_n hkp_n hks_n
        have hE := hE.cnt ec tc wc sc nc 1
        rw [eM_19] at hE
        refine lv_iload hx hb dM_act_133 (lv_at hl 0 rfl) ?_
        refine zz_if_ne (tgt := 140) hx hb (nI_toInt (by decide)) dM_act_135 (by decide) (fun c_20 => absurd c_20 (by decide)) (fun _ => ?_)
        refine lv_lconst (v := 0) hx hb dM_act_138 (by decide) ?_
        exact mp_lret hx hb hr hlocks I (Nat.le_of_ble_eq_true rfl) (Nat.le_of_ble_eq_true rfl) dM_act_139 (Or.inr ⟨by intro hg; obtain ⟨g1, g2, g3, g4, g5⟩ := hg; unfold aok at g3; first | omega | exact p4 (g4 (by omega)) | exact p5 (g5 (by omega)), rfl, hE⟩)
      · refine lv_iconst (v := nI 1) hx hb dM_act_18 (by decide) ?_
        refine lv_goto (tgt := 23) hx hb dM_act_19 (by decide) ?_
        refine lv_istore (lv' := [(7, .int (nI 1)), (0, .ref mo), (1, .int x), (2, .int act), (3, .long v), (5, .long w)]) hx hb dM_act_23 hl (by decide) rfl (fun ls hl => ?_)
        refine lv_iload hx hb dM_act_25 (lv_at hl 0 rfl) ?_
        refine zz_if_eq (tgt := 39) hx hb (nI_toInt (by decide)) dM_act_27 (by decide) (fun c_21 => absurd c_21 (by decide)) (fun _ => ?_)
        obtain ⟨xn, hn_xn, rfl, hz_xn⟩ := i32_nat (x := x) (by omega)
        have hSx := bS xn (by omega)
        have hxi : (nI xn).toInt.toNat = xn := by omega
        refine lv_aload_n hx hb dM_act_30 rfl (lv_at hl 1 rfl) ?_
        refine mp_get (v := .ref pk) hx hb hts inM hown I h0 rfl 10 (by decide) (hts _ bw_341) (fun _ h9 => h9) rfl dM_act_31 ?_
        refine lv_iload_n hx hb dM_act_34 rfl (lv_at hl 2 rfl) ?_
        refine mp_iald hx hb I 0 hpk rfl xn rfl (by omega) (by decide) (v := nI (sk xn)) rfl dM_act_35 ?_
        refine lv_goto (tgt := 40) hx hb dM_act_36 (by decide) ?_
        refine lv_istore (lv' := [(8, .int (nI (sk xn))), (7, .int (nI 1)), (0, .ref mo), (1, .int (nI xn)), (2, .int act), (3, .long v), (5, .long w)]) hx hb dM_act_40 hl (by decide) rfl (fun ls hl => ?_)
        refine lv_iload hx hb dM_act_42 (lv_at hl 1 rfl) ?_
        refine zz_if_eq (tgt := 74) hx hb (nI_toInt (by decide)) dM_act_44 (by decide) (fun c_22 => absurd c_22 (by decide)) (fun _ => ?_)
        refine lv_iload_n hx hb dM_act_47 rfl (lv_at hl 4 rfl) ?_
        refine lv_iconst (v := nI 4) hx hb dM_act_48 (by decide) ?_
        refine zz_icmp_ne (tgt := 58) hx hb rfl (nI_toInt (by decide)) dM_act_49 (by decide) (fun c_23 => ?_) (fun c_23 => ?_)
        · refine lv_iload_n hx hb dM_act_58 rfl (lv_at hl 4 rfl) ?_
          refine lv_iconst (v := nI 3) hx hb dM_act_59 (by decide) ?_
          refine zz_icmp_le (tgt := 70) hx hb rfl (nI_toInt (by decide)) dM_act_60 (by decide) (fun c_24 => ?_) (fun c_24 => ?_)
          · refine lv_iconst (v := nI 1) hx hb dM_act_70 (by decide) ?_
            refine lv_goto (tgt := 75) hx hb dM_act_71 (by decide) ?_
            refine lv_istore (lv' := [(7, .int (nI 1)), (8, .int (nI (sk xn))), (0, .ref mo), (1, .int (nI xn)), (2, .int act), (3, .long v), (5, .long w)]) hx hb dM_act_75 hl (by decide) rfl (fun ls hl => ?_)
            refine lv_iload hx hb dM_act_77 (lv_at hl 0 rfl) ?_
            refine zz_if_eq (tgt := 116) hx hb (nI_toInt (by decide)) dM_act_79 (by decide) (fun c_25 => absurd c_25 (by decide)) (fun _ => ?_)
            refine lv_iload_n hx hb dM_act_82 rfl (lv_at hl 4 rfl) ?_
            refine zz_if_eq (tgt := 96) hx hb rfl dM_act_83 (by decide) (fun c_26 => ?_) (fun c_26 => ?_)
            · refine lv_iload_n hx hb dM_act_96 rfl (lv_at hl 4 rfl) ?_
              refine lv_iconst (v := nI 3) hx hb dM_act_97 (by decide) ?_
              refine zz_icmp_ne (tgt := 112) hx hb rfl (nI_toInt (by decide)) dM_act_98 (by decide) (fun c_27 => ?_) (fun c_27 => ?_)
              · refine lv_iconst (v := nI 1) hx hb dM_act_112 (by decide) ?_
                refine lv_goto (tgt := 117) hx hb dM_act_113 (by decide) ?_
                refine lv_istore (lv' := [(7, .int (nI 1)), (8, .int (nI (sk xn))), (0, .ref mo), (1, .int (nI xn)), (2, .int act), (3, .long v), (5, .long w)]) hx hb dM_act_117 hl (by decide) rfl (fun ls hl => ?_)
                refine lv_aload_n hx hb dM_act_119 rfl (lv_at hl 2 rfl) ?_
                refine lv_iload hx hb dM_act_120 (lv_at hl 0 rfl) ?_
                refine zz_if_eq (tgt := 129) hx hb (nI_toInt (by decide)) dM_act_122 (by decide) (fun c_28 => absurd c_28 (by decide)) (fun _ => ?_)
                refine lv_iconst (v := nI 0) hx hb dM_act_125 (by decide) ?_
                refine lv_goto (tgt := 130) hx hb dM_act_126 (by decide) ?_
                refine mp_put (v := .int (nI 0)) (ty := .int) hx hb hts inM tyM okM nmM hown I h0 rfl 17 (by decide) (hts _ bw_348) (fun _ h9 => h9) rfl (by decide +kernel) rfl rfl (Nat.le_of_ble_eq_true rfl) dM_act_130 (fun H locs I => ?_)
                have I : mp_I D cls5 (tys6 k) s _ s.heap H locs (mp_up M mo (.inr (4, [.ref el, .ref ek, .int (nI ec), .ref bg, .ref sz, .ref kn, .int (nI tc), .ref rw, .int (nI wc), .ref pp, .ref pk, .ref wd, .ref lo, .int (nI sc), .ref kp, .ref ks, .int (nI nc), .int (nI 0)]))) := I
                have h0_n : mp_up M mo (.inr (4, [.ref el, .ref ek, .int (nI ec), .ref bg, .ref sz, .ref kn, .int (nI tc), .ref rw, .int (nI wc), .ref pp, .ref pk, .ref wd, .ref lo, .int (nI sc), .ref kp, .ref ks, .int (nI nc), .int (nI 0)])) mo = some (.inr (4, [.ref el, .ref ek, .int (nI ec), .ref bg, .ref sz, .ref kn, .int (nI tc), .ref rw, .int (nI wc), .ref pp, .ref pk, .ref wd, .ref lo, .int (nI sc), .ref kp, .ref ks, .int (nI nc), .int (nI 0)])) := mp_up_s _ _ _
                have hel_n : mp_up M mo (.inr (4, [.ref el, .ref ek, .int (nI ec), .ref bg, .ref sz, .ref kn, .int (nI tc), .ref rw, .int (nI wc), .ref pp, .ref pk, .ref wd, .ref lo, .int (nI sc), .ref kp, .ref ks, .int (nI nc), .int (nI 0)])) el = some (.inl (k 1, 4000, .inr (.inl va))) := (mp_up_n (mp_ne hel h0 (by simp))).trans hel
                have hek_n : mp_up M mo (.inr (4, [.ref el, .ref ek, .int (nI ec), .ref bg, .ref sz, .ref kn, .int (nI tc), .ref rw, .int (nI wc), .ref pp, .ref pk, .ref wd, .ref lo, .int (nI sc), .ref kp, .ref ks, .int (nI nc), .int (nI 0)])) ek = some (.inl (k 0, 4000, .inl (fun i_ => nI (kd i_)))) := (mp_up_n (mp_ne hek h0 (by simp))).trans hek
                have hbg_n : mp_up M mo (.inr (4, [.ref el, .ref ek, .int (nI ec), .ref bg, .ref sz, .ref kn, .int (nI tc), .ref rw, .int (nI wc), .ref pp, .ref pk, .ref wd, .ref lo, .int (nI sc), .ref kp, .ref ks, .int (nI nc), .int (nI 0)])) bg = some (.inl (k 0, 300, .inl (fun i_ => nI (tf i_)))) := (mp_up_n (mp_ne hbg h0 (by simp))).trans hbg
                have hsz_n : mp_up M mo (.inr (4, [.ref el, .ref ek, .int (nI ec), .ref bg, .ref sz, .ref kn, .int (nI tc), .ref rw, .int (nI wc), .ref pp, .ref pk, .ref wd, .ref lo, .int (nI sc), .ref kp, .ref ks, .int (nI nc), .int (nI 0)])) sz = some (.inl (k 0, 300, .inl (fun i_ => nI (tz i_)))) := (mp_up_n (mp_ne hsz h0 (by simp))).trans hsz
                have hkn_n : mp_up M mo (.inr (4, [.ref el, .ref ek, .int (nI ec), .ref bg, .ref sz, .ref kn, .int (nI tc), .ref rw, .int (nI wc), .ref pp, .ref pk, .ref wd, .ref lo, .int (nI sc), .ref kp, .ref ks, .int (nI nc), .int (nI 0)])) kn = some (.inl (k 0, 300, .inl (fun i_ => nI (tk i_)))) := (mp_up_n (mp_ne hkn h0 (by simp))).trans hkn
                have hrw_n : mp_up M mo (.inr (4, [.ref el, .ref ek, .int (nI ec), .ref bg, .ref sz, .ref kn, .int (nI tc), .ref rw, .int (nI wc), .ref pp, .ref pk, .ref wd, .ref lo, .int (nI sc), .ref kp, .ref ks, .int (nI nc), .int (nI 0)])) rw = some (.inl (k 0, 12, .inl (fun i_ => nI (wt i_)))) := (mp_up_n (mp_ne hrw h0 (by simp))).trans hrw
                have hpp_n : mp_up M mo (.inr (4, [.ref el, .ref ek, .int (nI ec), .ref bg, .ref sz, .ref kn, .int (nI tc), .ref rw, .int (nI wc), .ref pp, .ref pk, .ref wd, .ref lo, .int (nI sc), .ref kp, .ref ks, .int (nI nc), .int (nI 0)])) pp = some (.inl (k 0, 100, .inl (fun i_ => nI (sf i_)))) := (mp_up_n (mp_ne hpp h0 (by simp))).trans hpp
                have hpk_n : mp_up M mo (.inr (4, [.ref el, .ref ek, .int (nI ec), .ref bg, .ref sz, .ref kn, .int (nI tc), .ref rw, .int (nI wc), .ref pp, .ref pk, .ref wd, .ref lo, .int (nI sc), .ref kp, .ref ks, .int (nI nc), .int (nI 0)])) pk = some (.inl (k 0, 100, .inl (fun i_ => nI (sk i_)))) := (mp_up_n (mp_ne hpk h0 (by simp))).trans hpk
                have hwd_n : mp_up M mo (.inr (4, [.ref el, .ref ek, .int (nI ec), .ref bg, .ref sz, .ref kn, .int (nI tc), .ref rw, .int (nI wc), .ref pp, .ref pk, .ref wd, .ref lo, .int (nI sc), .ref kp, .ref ks, .int (nI nc), .int (nI 0)])) wd = some (.inl (k 0, 100, .inl (fun i_ => nI (sw i_)))) := (mp_up_n (mp_ne hwd h0 (by simp))).trans hwd
                have hlo_n : mp_up M mo (.inr (4, [.ref el, .ref ek, .int (nI ec), .ref bg, .ref sz, .ref kn, .int (nI tc), .ref rw, .int (nI wc), .ref pp, .ref pk, .ref wd, .ref lo, .int (nI sc), .ref kp, .ref ks, .int (nI nc), .int (nI 0)])) lo = some (.inl (k 5, 100, .inl (fun i_ => nI (ml i_)))) := (mp_up_n (mp_ne hlo h0 (by simp))).trans hlo
                have hkp_n : mp_up M mo (.inr (4, [.ref el, .ref ek, .int (nI ec), .ref bg, .ref sz, .ref kn, .int (nI tc), .ref rw, .int (nI wc), .ref pp, .ref pk, .ref wd, .ref lo, .int (nI sc), .ref kp, .ref ks, .int (nI nc), .int (nI 0)])) kp = some (.inl (k 1, 80000, .inr (.inl mk))) := (mp_up_n (mp_ne hkp h0 (by simp))).trans hkp
                have hks_n : mp_up M mo (.inr (4, [.ref el, .ref ek, .int (nI ec), .ref bg, .ref sz, .ref kn, .int (nI tc), .ref rw, .int (nI wc), .ref pp, .ref pk, .ref wd, .ref lo, .int (nI sc), .ref kp, .ref ks, .int (nI nc), .int (nI 0)])) ks = some (.inl (k 0, 20, .inl (fun i_ => nI (nn i_)))) := (mp_up_n (mp_ne hks h0 (by simp))).trans hks
                generalize eM_30 : mp_up M mo (.inr (4, [.ref el, .ref ek, .int (nI ec), .ref bg, .ref sz, .ref kn, .int (nI tc), .ref rw, .int (nI wc), .ref pp, .ref pk, .ref wd, .ref lo, .int (nI sc), .ref kp, .ref ks, .int (nI nc), .int (nI 0)])) = M_29 at I h0_n hel_n hek_n hbg_n hsz_n hkn_n hrw_n hpp_n hpk_n hwd_n hlo_n hkp_n hks_n
                have h0__M_29 := h0_n
                have hel__M_29 := hel_n
                have hek__M_29 := hek_n
                have hbg__M_29 := hbg_n
                have hsz__M_29 := hsz_n
                have hkn__M_29 := hkn_n
                have hrw__M_29 := hrw_n
                have hpp__M_29 := hpp_n
                have hpk__M_29 := hpk_n
                have hwd__M_29 := hwd_n
                have hlo__M_29 := hlo_n
                have hkp__M_29 := hkp_n
                have hks__M_29 := hks_n
                clear h0_n hel_n hek_n hbg_n hsz_n hkn_n hrw_n hpp_n hpk_n hwd_n hlo_n hkp_n hks_n
                have hE := hE.cnt ec tc wc sc nc 0
                rw [eM_30] at hE
                refine lv_iload hx hb dM_act_133 (lv_at hl 0 rfl) ?_
                refine zz_if_ne (tgt := 140) hx hb (nI_toInt (by decide)) dM_act_135 (by decide) (fun _ => ?_) (fun c_31 => absurd c_31 (by decide))
                refine lv_aload_n hx hb dM_act_140 rfl (lv_at hl 2 rfl) ?_
                refine lv_iload_n hx hb dM_act_141 rfl (lv_at hl 3 rfl) ?_
                have hg : gact tc sc sk (nI xn).toInt act.toInt v w := by unfold gact; rw [hxi]; exact ⟨by omega, by omega, by unfold aok; omega, fun h => by first | exact p4 | (exfalso; omega), fun h => by first | exact p5 | (exfalso; omega)⟩
                refine mp_calll (va_runV (As := [.int (nI xn)]) (rest := []) ⟨hx, hb, hml, hown, hts⟩ (kM_get l D k M_29 hE hO xn (by omega) _) (cwV 1 hts (bw_V bw_451 bw_453 bs_16 bw_2 bw_454) rfl rfl rfl (by decide +kernel) ⟨Nat.le_of_ble_eq_true rfl, Nat.le_of_ble_eq_true rfl⟩) (mp_preV I h0__M_29 rfl _) rfl rfl hl.1 rfl (lv_room (Nat.le_of_ble_eq_true rfl)) dM_act_142 ⟨Nat.le_of_ble_eq_true rfl, Nat.le_of_ble_eq_true rfl⟩) I (fun hd_ N1 H locs hp I => ?_)
                obtain ⟨e_32, hp⟩ := hp
                rw [e_32] at I
                refine lv_lstore (lv' := [(9, .long hd_), (7, .int (nI 1)), (8, .int (nI (sk xn))), (0, .ref mo), (1, .int (nI xn)), (2, .int act), (3, .long v), (5, .long w)]) hx hb dM_act_145 hl (by decide) rfl (fun ls hl => ?_)
                refine lv_iload_n hx hb dM_act_147 rfl (lv_at hl 5 rfl) ?_
                have c_33 : act.toInt = 0 ∨ act.toInt = 1 ∨ act.toInt = 2 ∨ act.toInt = 3 ∨ act.toInt = 4 ∨ act.toInt = 5 ∨ act.toInt = 6 ∨ (act.toInt < 0 ∨ 6 < act.toInt) := by omega
                rcases c_33 with c_33 | c_33 | c_33 | c_33 | c_33 | c_33 | c_33 | c_33
                · refine lv_tableIn (off := 44) (tgt := 192) hx hb dM_act_148 (by rw [show act.toInt = act.toInt from rfl]; omega) (by rw [show act.toInt = act.toInt from rfl]; omega) (by rw [show act.toInt = act.toInt from rfl, c_33]; rfl) (by decide) ?_
                  refine lv_lload hx hb dM_act_192 (lv_at hl 0 rfl) ?_
                  exact mp_lret hx hb hr hlocks I (Nat.le_of_ble_eq_true rfl) (Nat.le_of_ble_eq_true rfl) dM_act_194 (Or.inl ⟨hg, by rw [hxi, ← hp]; unfold pm; rw [if_neg (show ¬ act.toInt = 1 by omega), if_neg (show ¬ act.toInt = 2 by omega), if_neg (show ¬ act.toInt = 3 by omega), if_neg (show ¬ act.toInt = 4 by omega), if_neg (show ¬ act.toInt = 5 by omega), if_neg (show ¬ act.toInt = 6 by omega), if_neg (show ¬ act.toInt = 7 by omega)]; exact ⟨rfl, hE⟩⟩)
                · refine lv_tableIn (off := 47) (tgt := 195) hx hb dM_act_148 (by rw [show act.toInt = act.toInt from rfl]; omega) (by rw [show act.toInt = act.toInt from rfl]; omega) (by rw [show act.toInt = act.toInt from rfl, c_33]; rfl) (by decide) ?_
                  refine lv_aload_n hx hb dM_act_195 rfl (lv_at hl 3 rfl) ?_
                  refine lv_iload_n hx hb dM_act_196 rfl (lv_at hl 4 rfl) ?_
                  refine lv_lload_n hx hb dM_act_197 rfl (lv_at hl 6 rfl) ?_
                  have hget := hp
                  refine mp_callv (va_runV (As := [.int (nI xn), .long v]) (rest := []) ⟨hx, hb, hml, hown, hts⟩ (kM_set l D k M_29 hE hO xn (by omega) v _) (cwV 2 hts (bw_V bw_456 bw_458 bs_17 bw_2 bw_459) rfl rfl rfl (by decide +kernel) ⟨Nat.le_of_ble_eq_true rfl, Nat.le_of_ble_eq_true rfl⟩) (mp_preV I h0__M_29 rfl _) rfl rfl hl.1 rfl (lv_room (Nat.le_of_ble_eq_true rfl)) dM_act_198 ⟨Nat.le_of_ble_eq_true rfl, Nat.le_of_ble_eq_true rfl⟩) I (fun N1 H locs hp I => ?_)
                  have hE := hp
                  refine lv_lconst (v := 0) hx hb dM_act_201 (by decide) ?_
                  exact mp_lret hx hb hr hlocks I (Nat.le_of_ble_eq_true rfl) (Nat.le_of_ble_eq_true rfl) dM_act_202 (Or.inl ⟨hg, by rw [hxi, ← hget]; unfold pm; rw [if_pos (show act.toInt = 1 by omega)]; exact ⟨rfl, hE⟩⟩)
                · refine lv_tableIn (off := 55) (tgt := 203) hx hb dM_act_148 (by rw [show act.toInt = act.toInt from rfl]; omega) (by rw [show act.toInt = act.toInt from rfl]; omega) (by rw [show act.toInt = act.toInt from rfl, c_33]; rfl) (by decide) ?_
                  refine lv_aload_n hx hb dM_act_203 rfl (lv_at hl 3 rfl) ?_
                  refine lv_iload_n hx hb dM_act_204 rfl (lv_at hl 4 rfl) ?_
                  refine lv_lload_n hx hb dM_act_205 rfl (lv_at hl 6 rfl) ?_
                  have hget := hp
                  refine mp_callv (va_runV (As := [.int (nI xn), .long v]) (rest := []) ⟨hx, hb, hml, hown, hts⟩ (kM_set l D k M_29 hE hO xn (by omega) v _) (cwV 2 hts (bw_V bw_456 bw_458 bs_17 bw_2 bw_459) rfl rfl rfl (by decide +kernel) ⟨Nat.le_of_ble_eq_true rfl, Nat.le_of_ble_eq_true rfl⟩) (mp_preV I h0__M_29 rfl _) rfl rfl hl.1 rfl (lv_room (Nat.le_of_ble_eq_true rfl)) dM_act_206 ⟨Nat.le_of_ble_eq_true rfl, Nat.le_of_ble_eq_true rfl⟩) I (fun N1 H locs hp I => ?_)
                  have hE := hp
                  refine lv_goto (tgt := 308) hx hb dM_act_209 (by decide) ?_
                  refine lv_lload hx hb dM_act_308 (lv_at hl 0 rfl) ?_
                  exact mp_lret hx hb hr hlocks I (Nat.le_of_ble_eq_true rfl) (Nat.le_of_ble_eq_true rfl) dM_act_310 (Or.inl ⟨hg, by rw [hxi, ← hget]; unfold pm; rw [if_neg (show ¬ act.toInt = 1 by omega), if_pos (show act.toInt = 2 by omega)]; exact ⟨rfl, hE⟩⟩)
                · refine lv_tableIn (off := 64) (tgt := 212) hx hb dM_act_148 (by rw [show act.toInt = act.toInt from rfl]; omega) (by rw [show act.toInt = act.toInt from rfl]; omega) (by rw [show act.toInt = act.toInt from rfl, c_33]; rfl) (by decide) ?_
                  refine lv_lload hx hb dM_act_212 (lv_at hl 0 rfl) ?_
                  refine lv_lload_n hx hb dM_act_214 rfl (lv_at hl 6 rfl) ?_
                  have hget := hp
                  refine W.lcmp hx hb dM_act_215 ?_
                  refine lv_if_ne (tgt := 226) hx hb dM_act_216 (by decide) (fun c_36 => ?_) (fun c_36 => ?_)
                  all_goals rw [lg_cmp_eq] at c_36
                  · refine lv_lload hx hb dM_act_226 (lv_at hl 0 rfl) ?_
                    refine lv_lload_n hx hb dM_act_228 rfl (lv_at hl 6 rfl) ?_
                    refine W.lcmp hx hb dM_act_229 ?_
                    refine lv_if_ne (tgt := 237) hx hb dM_act_230 (by decide) (fun c_37 => ?_) (fun c_37 => ?_)
                    all_goals rw [lg_cmp_eq] at c_37
                    · refine lv_lconst (v := 0) hx hb dM_act_237 (by decide) ?_
                      exact mp_lret hx hb hr hlocks I (Nat.le_of_ble_eq_true rfl) (Nat.le_of_ble_eq_true rfl) dM_act_238 (Or.inl ⟨hg, by rw [hxi, ← hget]; unfold pm; rw [if_neg (show ¬ act.toInt = 1 by omega), if_neg (show ¬ act.toInt = 2 by omega), if_pos (show act.toInt = 3 by omega), if_neg c_36]; exact ⟨rfl, hE⟩⟩)
                    · exact absurd c_37 c_36
                  · refine lv_aload_n hx hb dM_act_219 rfl (lv_at hl 3 rfl) ?_
                    refine lv_iload_n hx hb dM_act_220 rfl (lv_at hl 4 rfl) ?_
                    refine lv_lload hx hb dM_act_221 (lv_at hl 7 rfl) ?_
                    refine mp_callv (va_runV (As := [.int (nI xn), .long w]) (rest := []) ⟨hx, hb, hml, hown, hts⟩ (kM_set l D k M_29 hE hO xn (by omega) w _) (cwV 2 hts (bw_V bw_456 bw_458 bs_17 bw_2 bw_459) rfl rfl rfl (by decide +kernel) ⟨Nat.le_of_ble_eq_true rfl, Nat.le_of_ble_eq_true rfl⟩) (mp_preV I h0__M_29 rfl _) rfl rfl hl.1 rfl (lv_room (Nat.le_of_ble_eq_true rfl)) dM_act_223 ⟨Nat.le_of_ble_eq_true rfl, Nat.le_of_ble_eq_true rfl⟩) I (fun N1 H locs hp I => ?_)
                    have hE := hp
                    refine lv_lload hx hb dM_act_226 (lv_at hl 0 rfl) ?_
                    refine lv_lload_n hx hb dM_act_228 rfl (lv_at hl 6 rfl) ?_
                    refine W.lcmp hx hb dM_act_229 ?_
                    refine lv_if_ne (tgt := 237) hx hb dM_act_230 (by decide) (fun c_39 => ?_) (fun c_39 => ?_)
                    all_goals rw [lg_cmp_eq] at c_39
                    · exact absurd c_36 c_39
                    · refine lv_lconst (v := 1) hx hb dM_act_233 (by decide) ?_
                      refine lv_goto (tgt := 238) hx hb dM_act_234 (by decide) ?_
                      exact mp_lret hx hb hr hlocks I (Nat.le_of_ble_eq_true rfl) (Nat.le_of_ble_eq_true rfl) dM_act_238 (Or.inl ⟨hg, by rw [hxi, ← hget]; unfold pm; rw [if_neg (show ¬ act.toInt = 1 by omega), if_neg (show ¬ act.toInt = 2 by omega), if_pos (show act.toInt = 3 by omega), if_pos c_36]; exact ⟨rfl, hE⟩⟩)
                · refine lv_tableIn (off := 91) (tgt := 239) hx hb dM_act_148 (by rw [show act.toInt = act.toInt from rfl]; omega) (by rw [show act.toInt = act.toInt from rfl]; omega) (by rw [show act.toInt = act.toInt from rfl, c_33]; rfl) (by decide) ?_
                  refine lv_aload_n hx hb dM_act_239 rfl (lv_at hl 3 rfl) ?_
                  refine lv_iload_n hx hb dM_act_240 rfl (lv_at hl 4 rfl) ?_
                  refine lv_iload hx hb dM_act_241 (lv_at hl 2 rfl) ?_
                  refine lv_lload hx hb dM_act_243 (lv_at hl 0 rfl) ?_
                  refine lv_lload_n hx hb dM_act_245 rfl (lv_at hl 6 rfl) ?_
                  refine lv_ladd hx hb dM_act_246 ?_
                  have hget := hp
                  refine mp_calll (va_runS (As := [.int (nI (sk xn)), .long (hd_ + v)]) (rest := [.int (nI xn), .ref mo]) ⟨hx, hb, hml, hown, hts⟩ (kM_as l D k M_29 (sk xn) (hd_ + v) (by omega) _) (cwS 2 hts (bw_S bw_447 bw_448 bw_2 bw_449) rfl rfl rfl (by decide +kernel) ⟨Nat.le_of_ble_eq_true rfl, Nat.le_of_ble_eq_true rfl⟩) (mp_preS I _) rfl rfl hl.1 rfl (lv_room (Nat.le_of_ble_eq_true rfl)) dM_act_247 ⟨Nat.le_of_ble_eq_true rfl, Nat.le_of_ble_eq_true rfl⟩) I (fun r2 N1 H locs hp I => ?_)
                  obtain ⟨e_40, hp⟩ := hp
                  rw [e_40] at I
                  subst hp
                  refine mp_callv (va_runV (As := [.int (nI xn), .long (lb (sk xn) (hd_ + v))]) (rest := []) ⟨hx, hb, hml, hown, hts⟩ (kM_set l D k M_29 hE hO xn (by omega) (lb (sk xn) (hd_ + v)) _) (cwV 2 hts (bw_V bw_456 bw_458 bs_17 bw_2 bw_459) rfl rfl rfl (by decide +kernel) ⟨Nat.le_of_ble_eq_true rfl, Nat.le_of_ble_eq_true rfl⟩) (mp_preV I h0__M_29 rfl _) rfl rfl hl.1 rfl (lv_room (Nat.le_of_ble_eq_true rfl)) dM_act_250 ⟨Nat.le_of_ble_eq_true rfl, Nat.le_of_ble_eq_true rfl⟩) I (fun N1 H locs hp I => ?_)
                  have hE := hp
                  refine lv_goto (tgt := 308) hx hb dM_act_253 (by decide) ?_
                  refine lv_lload hx hb dM_act_308 (lv_at hl 0 rfl) ?_
                  exact mp_lret hx hb hr hlocks I (Nat.le_of_ble_eq_true rfl) (Nat.le_of_ble_eq_true rfl) dM_act_310 (Or.inl ⟨hg, by rw [hxi, ← hget]; unfold pm; rw [if_neg (show ¬ act.toInt = 1 by omega), if_neg (show ¬ act.toInt = 2 by omega), if_neg (show ¬ act.toInt = 3 by omega), if_pos (show act.toInt = 4 by omega)]; exact ⟨rfl, hE⟩⟩)
                · refine lv_tableIn (off := 108) (tgt := 256) hx hb dM_act_148 (by rw [show act.toInt = act.toInt from rfl]; omega) (by rw [show act.toInt = act.toInt from rfl]; omega) (by rw [show act.toInt = act.toInt from rfl, c_33]; rfl) (by decide) ?_
                  refine lv_aload_n hx hb dM_act_256 rfl (lv_at hl 3 rfl) ?_
                  refine lv_iload_n hx hb dM_act_257 rfl (lv_at hl 4 rfl) ?_
                  refine lv_iload hx hb dM_act_258 (lv_at hl 2 rfl) ?_
                  refine lv_lload hx hb dM_act_260 (lv_at hl 0 rfl) ?_
                  refine lv_lload_n hx hb dM_act_262 rfl (lv_at hl 6 rfl) ?_
                  refine lv_land hx hb dM_act_263 ?_
                  have hget := hp
                  refine mp_calll (va_runS (As := [.int (nI (sk xn)), .long (hd_ &&& v)]) (rest := [.int (nI xn), .ref mo]) ⟨hx, hb, hml, hown, hts⟩ (kM_as l D k M_29 (sk xn) (hd_ &&& v) (by omega) _) (cwS 2 hts (bw_S bw_447 bw_448 bw_2 bw_449) rfl rfl rfl (by decide +kernel) ⟨Nat.le_of_ble_eq_true rfl, Nat.le_of_ble_eq_true rfl⟩) (mp_preS I _) rfl rfl hl.1 rfl (lv_room (Nat.le_of_ble_eq_true rfl)) dM_act_264 ⟨Nat.le_of_ble_eq_true rfl, Nat.le_of_ble_eq_true rfl⟩) I (fun r2 N1 H locs hp I => ?_)
                  obtain ⟨e_42, hp⟩ := hp
                  rw [e_42] at I
                  subst hp
                  refine mp_callv (va_runV (As := [.int (nI xn), .long (lb (sk xn) (hd_ &&& v))]) (rest := []) ⟨hx, hb, hml, hown, hts⟩ (kM_set l D k M_29 hE hO xn (by omega) (lb (sk xn) (hd_ &&& v)) _) (cwV 2 hts (bw_V bw_456 bw_458 bs_17 bw_2 bw_459) rfl rfl rfl (by decide +kernel) ⟨Nat.le_of_ble_eq_true rfl, Nat.le_of_ble_eq_true rfl⟩) (mp_preV I h0__M_29 rfl _) rfl rfl hl.1 rfl (lv_room (Nat.le_of_ble_eq_true rfl)) dM_act_267 ⟨Nat.le_of_ble_eq_true rfl, Nat.le_of_ble_eq_true rfl⟩) I (fun N1 H locs hp I => ?_)
                  have hE := hp
                  refine lv_goto (tgt := 308) hx hb dM_act_270 (by decide) ?_
                  refine lv_lload hx hb dM_act_308 (lv_at hl 0 rfl) ?_
                  exact mp_lret hx hb hr hlocks I (Nat.le_of_ble_eq_true rfl) (Nat.le_of_ble_eq_true rfl) dM_act_310 (Or.inl ⟨hg, by rw [hxi, ← hget]; unfold pm; rw [if_neg (show ¬ act.toInt = 1 by omega), if_neg (show ¬ act.toInt = 2 by omega), if_neg (show ¬ act.toInt = 3 by omega), if_neg (show ¬ act.toInt = 4 by omega), if_pos (show act.toInt = 5 by omega)]; exact ⟨rfl, hE⟩⟩)
                · refine lv_tableIn (off := 125) (tgt := 273) hx hb dM_act_148 (by rw [show act.toInt = act.toInt from rfl]; omega) (by rw [show act.toInt = act.toInt from rfl]; omega) (by rw [show act.toInt = act.toInt from rfl, c_33]; rfl) (by decide) ?_
                  refine lv_aload_n hx hb dM_act_273 rfl (lv_at hl 3 rfl) ?_
                  refine lv_iload_n hx hb dM_act_274 rfl (lv_at hl 4 rfl) ?_
                  refine lv_iload hx hb dM_act_275 (lv_at hl 2 rfl) ?_
                  refine lv_lload hx hb dM_act_277 (lv_at hl 0 rfl) ?_
                  refine lv_lload_n hx hb dM_act_279 rfl (lv_at hl 6 rfl) ?_
                  refine lv_lor hx hb dM_act_280 ?_
                  have hget := hp
                  refine mp_calll (va_runS (As := [.int (nI (sk xn)), .long (hd_ ||| v)]) (rest := [.int (nI xn), .ref mo]) ⟨hx, hb, hml, hown, hts⟩ (kM_as l D k M_29 (sk xn) (hd_ ||| v) (by omega) _) (cwS 2 hts (bw_S bw_447 bw_448 bw_2 bw_449) rfl rfl rfl (by decide +kernel) ⟨Nat.le_of_ble_eq_true rfl, Nat.le_of_ble_eq_true rfl⟩) (mp_preS I _) rfl rfl hl.1 rfl (lv_room (Nat.le_of_ble_eq_true rfl)) dM_act_281 ⟨Nat.le_of_ble_eq_true rfl, Nat.le_of_ble_eq_true rfl⟩) I (fun r2 N1 H locs hp I => ?_)
                  obtain ⟨e_44, hp⟩ := hp
                  rw [e_44] at I
                  subst hp
                  refine mp_callv (va_runV (As := [.int (nI xn), .long (lb (sk xn) (hd_ ||| v))]) (rest := []) ⟨hx, hb, hml, hown, hts⟩ (kM_set l D k M_29 hE hO xn (by omega) (lb (sk xn) (hd_ ||| v)) _) (cwV 2 hts (bw_V bw_456 bw_458 bs_17 bw_2 bw_459) rfl rfl rfl (by decide +kernel) ⟨Nat.le_of_ble_eq_true rfl, Nat.le_of_ble_eq_true rfl⟩) (mp_preV I h0__M_29 rfl _) rfl rfl hl.1 rfl (lv_room (Nat.le_of_ble_eq_true rfl)) dM_act_284 ⟨Nat.le_of_ble_eq_true rfl, Nat.le_of_ble_eq_true rfl⟩) I (fun N1 H locs hp I => ?_)
                  have hE := hp
                  refine lv_goto (tgt := 308) hx hb dM_act_287 (by decide) ?_
                  refine lv_lload hx hb dM_act_308 (lv_at hl 0 rfl) ?_
                  exact mp_lret hx hb hr hlocks I (Nat.le_of_ble_eq_true rfl) (Nat.le_of_ble_eq_true rfl) dM_act_310 (Or.inl ⟨hg, by rw [hxi, ← hget]; unfold pm; rw [if_neg (show ¬ act.toInt = 1 by omega), if_neg (show ¬ act.toInt = 2 by omega), if_neg (show ¬ act.toInt = 3 by omega), if_neg (show ¬ act.toInt = 4 by omega), if_neg (show ¬ act.toInt = 5 by omega), if_pos (show act.toInt = 6 by omega)]; exact ⟨rfl, hE⟩⟩)
                · refine lv_tableOut (tgt := 290) hx hb dM_act_148 (by rw [show act.toInt = act.toInt from rfl]; exact c_33) (by decide) ?_
                  refine lv_aload_n hx hb dM_act_290 rfl (lv_at hl 3 rfl) ?_
                  refine lv_iload_n hx hb dM_act_291 rfl (lv_at hl 4 rfl) ?_
                  refine lv_lload hx hb dM_act_292 (lv_at hl 0 rfl) ?_
                  refine lv_lload_n hx hb dM_act_294 rfl (lv_at hl 6 rfl) ?_
                  have hget := hp
                  refine W.lcmp hx hb dM_act_295 ?_
                  refine lv_if_le (tgt := 304) hx hb dM_act_296 (by decide) (fun c_46 => ?_) (fun c_46 => ?_)
                  all_goals rw [lg_cmp_le] at c_46
                  · refine lv_lload_n hx hb dM_act_304 rfl (lv_at hl 6 rfl) ?_
                    refine mp_callv (va_runV (As := [.int (nI xn), .long v]) (rest := []) ⟨hx, hb, hml, hown, hts⟩ (kM_set l D k M_29 hE hO xn (by omega) v _) (cwV 2 hts (bw_V bw_456 bw_458 bs_17 bw_2 bw_459) rfl rfl rfl (by decide +kernel) ⟨Nat.le_of_ble_eq_true rfl, Nat.le_of_ble_eq_true rfl⟩) (mp_preV I h0__M_29 rfl _) rfl rfl hl.1 rfl (lv_room (Nat.le_of_ble_eq_true rfl)) dM_act_305 ⟨Nat.le_of_ble_eq_true rfl, Nat.le_of_ble_eq_true rfl⟩) I (fun N1 H locs hp I => ?_)
                    have hE := hp
                    refine lv_lload hx hb dM_act_308 (lv_at hl 0 rfl) ?_
                    exact mp_lret hx hb hr hlocks I (Nat.le_of_ble_eq_true rfl) (Nat.le_of_ble_eq_true rfl) dM_act_310 (Or.inl ⟨hg, by rw [hxi, ← hget]; unfold pm; rw [if_neg (show ¬ act.toInt = 1 by omega), if_neg (show ¬ act.toInt = 2 by omega), if_neg (show ¬ act.toInt = 3 by omega), if_neg (show ¬ act.toInt = 4 by omega), if_neg (show ¬ act.toInt = 5 by omega), if_neg (show ¬ act.toInt = 6 by omega), if_pos (show act.toInt = 7 by unfold gact aok at hg; omega), if_neg (Int64.not_lt.mpr c_46)]; exact ⟨rfl, hE⟩⟩)
                  · refine lv_lload hx hb dM_act_299 (lv_at hl 0 rfl) ?_
                    refine lv_goto (tgt := 305) hx hb dM_act_301 (by decide) ?_
                    refine mp_callv (va_runV (As := [.int (nI xn), .long hd_]) (rest := []) ⟨hx, hb, hml, hown, hts⟩ (kM_set l D k M_29 hE hO xn (by omega) hd_ _) (cwV 2 hts (bw_V bw_456 bw_458 bs_17 bw_2 bw_459) rfl rfl rfl (by decide +kernel) ⟨Nat.le_of_ble_eq_true rfl, Nat.le_of_ble_eq_true rfl⟩) (mp_preV I h0__M_29 rfl _) rfl rfl hl.1 rfl (lv_room (Nat.le_of_ble_eq_true rfl)) dM_act_305 ⟨Nat.le_of_ble_eq_true rfl, Nat.le_of_ble_eq_true rfl⟩) I (fun N1 H locs hp I => ?_)
                    have hE := hp
                    refine lv_lload hx hb dM_act_308 (lv_at hl 0 rfl) ?_
                    exact mp_lret hx hb hr hlocks I (Nat.le_of_ble_eq_true rfl) (Nat.le_of_ble_eq_true rfl) dM_act_310 (Or.inl ⟨hg, by rw [hxi, ← hget]; unfold pm; rw [if_neg (show ¬ act.toInt = 1 by omega), if_neg (show ¬ act.toInt = 2 by omega), if_neg (show ¬ act.toInt = 3 by omega), if_neg (show ¬ act.toInt = 4 by omega), if_neg (show ¬ act.toInt = 5 by omega), if_neg (show ¬ act.toInt = 6 by omega), if_pos (show act.toInt = 7 by unfold gact aok at hg; omega), if_pos (Int64.not_le.mp c_46)]; exact ⟨rfl, hE⟩⟩)
              · refine lv_aload_n hx hb dM_act_101 rfl (lv_at hl 2 rfl) ?_
                refine lv_iload hx hb dM_act_102 (lv_at hl 1 rfl) ?_
                refine lv_lload hx hb dM_act_104 (lv_at hl 6 rfl) ?_
                refine mp_calli (va_runV (As := [.int (nI (sk xn)), .long w]) (rest := []) ⟨hx, hb, hml, hown, hts⟩ (kM_isValue l D k M hE hO (sk xn) w (by omega) _) (cwV 2 hts (bw_V bw_443 bw_445 bs_15 bw_2 bw_446) rfl rfl rfl (by decide +kernel) ⟨Nat.le_of_ble_eq_true rfl, Nat.le_of_ble_eq_true rfl⟩) (mp_preV I h0 rfl _) rfl rfl hl.1 rfl (lv_room (Nat.le_of_ble_eq_true rfl)) dM_act_106 ⟨Nat.le_of_ble_eq_true rfl, Nat.le_of_ble_eq_true rfl⟩) I (fun r_49 N_50 H locs hp I => ?_)
                obtain ⟨e_51, hp⟩ := hp
                rw [e_51] at I
                rcases hp with ⟨p5, rfl⟩ | ⟨p5, rfl⟩
                · refine zz_if_eq (tgt := 116) hx hb (nI_toInt (by decide)) dM_act_109 (by decide) (fun c_52 => absurd c_52 (by decide)) (fun _ => ?_)
                  refine lv_iconst (v := nI 1) hx hb dM_act_112 (by decide) ?_
                  refine lv_goto (tgt := 117) hx hb dM_act_113 (by decide) ?_
                  refine lv_istore (lv' := [(7, .int (nI 1)), (8, .int (nI (sk xn))), (0, .ref mo), (1, .int (nI xn)), (2, .int act), (3, .long v), (5, .long w)]) hx hb dM_act_117 hl (by decide) rfl (fun ls hl => ?_)
                  refine lv_aload_n hx hb dM_act_119 rfl (lv_at hl 2 rfl) ?_
                  refine lv_iload hx hb dM_act_120 (lv_at hl 0 rfl) ?_
                  refine zz_if_eq (tgt := 129) hx hb (nI_toInt (by decide)) dM_act_122 (by decide) (fun c_53 => absurd c_53 (by decide)) (fun _ => ?_)
                  refine lv_iconst (v := nI 0) hx hb dM_act_125 (by decide) ?_
                  refine lv_goto (tgt := 130) hx hb dM_act_126 (by decide) ?_
                  refine mp_put (v := .int (nI 0)) (ty := .int) hx hb hts inM tyM okM nmM hown I h0 rfl 17 (by decide) (hts _ bw_348) (fun _ h9 => h9) rfl (by decide +kernel) rfl rfl (Nat.le_of_ble_eq_true rfl) dM_act_130 (fun H locs I => ?_)
                  have I : mp_I D cls5 (tys6 k) s _ s.heap H locs (mp_up M mo (.inr (4, [.ref el, .ref ek, .int (nI ec), .ref bg, .ref sz, .ref kn, .int (nI tc), .ref rw, .int (nI wc), .ref pp, .ref pk, .ref wd, .ref lo, .int (nI sc), .ref kp, .ref ks, .int (nI nc), .int (nI 0)]))) := I
                  have h0_n : mp_up M mo (.inr (4, [.ref el, .ref ek, .int (nI ec), .ref bg, .ref sz, .ref kn, .int (nI tc), .ref rw, .int (nI wc), .ref pp, .ref pk, .ref wd, .ref lo, .int (nI sc), .ref kp, .ref ks, .int (nI nc), .int (nI 0)])) mo = some (.inr (4, [.ref el, .ref ek, .int (nI ec), .ref bg, .ref sz, .ref kn, .int (nI tc), .ref rw, .int (nI wc), .ref pp, .ref pk, .ref wd, .ref lo, .int (nI sc), .ref kp, .ref ks, .int (nI nc), .int (nI 0)])) := mp_up_s _ _ _
                  have hel_n : mp_up M mo (.inr (4, [.ref el, .ref ek, .int (nI ec), .ref bg, .ref sz, .ref kn, .int (nI tc), .ref rw, .int (nI wc), .ref pp, .ref pk, .ref wd, .ref lo, .int (nI sc), .ref kp, .ref ks, .int (nI nc), .int (nI 0)])) el = some (.inl (k 1, 4000, .inr (.inl va))) := (mp_up_n (mp_ne hel h0 (by simp))).trans hel
                  have hek_n : mp_up M mo (.inr (4, [.ref el, .ref ek, .int (nI ec), .ref bg, .ref sz, .ref kn, .int (nI tc), .ref rw, .int (nI wc), .ref pp, .ref pk, .ref wd, .ref lo, .int (nI sc), .ref kp, .ref ks, .int (nI nc), .int (nI 0)])) ek = some (.inl (k 0, 4000, .inl (fun i_ => nI (kd i_)))) := (mp_up_n (mp_ne hek h0 (by simp))).trans hek
                  have hbg_n : mp_up M mo (.inr (4, [.ref el, .ref ek, .int (nI ec), .ref bg, .ref sz, .ref kn, .int (nI tc), .ref rw, .int (nI wc), .ref pp, .ref pk, .ref wd, .ref lo, .int (nI sc), .ref kp, .ref ks, .int (nI nc), .int (nI 0)])) bg = some (.inl (k 0, 300, .inl (fun i_ => nI (tf i_)))) := (mp_up_n (mp_ne hbg h0 (by simp))).trans hbg
                  have hsz_n : mp_up M mo (.inr (4, [.ref el, .ref ek, .int (nI ec), .ref bg, .ref sz, .ref kn, .int (nI tc), .ref rw, .int (nI wc), .ref pp, .ref pk, .ref wd, .ref lo, .int (nI sc), .ref kp, .ref ks, .int (nI nc), .int (nI 0)])) sz = some (.inl (k 0, 300, .inl (fun i_ => nI (tz i_)))) := (mp_up_n (mp_ne hsz h0 (by simp))).trans hsz
                  have hkn_n : mp_up M mo (.inr (4, [.ref el, .ref ek, .int (nI ec), .ref bg, .ref sz, .ref kn, .int (nI tc), .ref rw, .int (nI wc), .ref pp, .ref pk, .ref wd, .ref lo, .int (nI sc), .ref kp, .ref ks, .int (nI nc), .int (nI 0)])) kn = some (.inl (k 0, 300, .inl (fun i_ => nI (tk i_)))) := (mp_up_n (mp_ne hkn h0 (by simp))).trans hkn
                  have hrw_n : mp_up M mo (.inr (4, [.ref el, .ref ek, .int (nI ec), .ref bg, .ref sz, .ref kn, .int (nI tc), .ref rw, .int (nI wc), .ref pp, .ref pk, .ref wd, .ref lo, .int (nI sc), .ref kp, .ref ks, .int (nI nc), .int (nI 0)])) rw = some (.inl (k 0, 12, .inl (fun i_ => nI (wt i_)))) := (mp_up_n (mp_ne hrw h0 (by simp))).trans hrw
                  have hpp_n : mp_up M mo (.inr (4, [.ref el, .ref ek, .int (nI ec), .ref bg, .ref sz, .ref kn, .int (nI tc), .ref rw, .int (nI wc), .ref pp, .ref pk, .ref wd, .ref lo, .int (nI sc), .ref kp, .ref ks, .int (nI nc), .int (nI 0)])) pp = some (.inl (k 0, 100, .inl (fun i_ => nI (sf i_)))) := (mp_up_n (mp_ne hpp h0 (by simp))).trans hpp
                  have hpk_n : mp_up M mo (.inr (4, [.ref el, .ref ek, .int (nI ec), .ref bg, .ref sz, .ref kn, .int (nI tc), .ref rw, .int (nI wc), .ref pp, .ref pk, .ref wd, .ref lo, .int (nI sc), .ref kp, .ref ks, .int (nI nc), .int (nI 0)])) pk = some (.inl (k 0, 100, .inl (fun i_ => nI (sk i_)))) := (mp_up_n (mp_ne hpk h0 (by simp))).trans hpk
                  have hwd_n : mp_up M mo (.inr (4, [.ref el, .ref ek, .int (nI ec), .ref bg, .ref sz, .ref kn, .int (nI tc), .ref rw, .int (nI wc), .ref pp, .ref pk, .ref wd, .ref lo, .int (nI sc), .ref kp, .ref ks, .int (nI nc), .int (nI 0)])) wd = some (.inl (k 0, 100, .inl (fun i_ => nI (sw i_)))) := (mp_up_n (mp_ne hwd h0 (by simp))).trans hwd
                  have hlo_n : mp_up M mo (.inr (4, [.ref el, .ref ek, .int (nI ec), .ref bg, .ref sz, .ref kn, .int (nI tc), .ref rw, .int (nI wc), .ref pp, .ref pk, .ref wd, .ref lo, .int (nI sc), .ref kp, .ref ks, .int (nI nc), .int (nI 0)])) lo = some (.inl (k 5, 100, .inl (fun i_ => nI (ml i_)))) := (mp_up_n (mp_ne hlo h0 (by simp))).trans hlo
                  have hkp_n : mp_up M mo (.inr (4, [.ref el, .ref ek, .int (nI ec), .ref bg, .ref sz, .ref kn, .int (nI tc), .ref rw, .int (nI wc), .ref pp, .ref pk, .ref wd, .ref lo, .int (nI sc), .ref kp, .ref ks, .int (nI nc), .int (nI 0)])) kp = some (.inl (k 1, 80000, .inr (.inl mk))) := (mp_up_n (mp_ne hkp h0 (by simp))).trans hkp
                  have hks_n : mp_up M mo (.inr (4, [.ref el, .ref ek, .int (nI ec), .ref bg, .ref sz, .ref kn, .int (nI tc), .ref rw, .int (nI wc), .ref pp, .ref pk, .ref wd, .ref lo, .int (nI sc), .ref kp, .ref ks, .int (nI nc), .int (nI 0)])) ks = some (.inl (k 0, 20, .inl (fun i_ => nI (nn i_)))) := (mp_up_n (mp_ne hks h0 (by simp))).trans hks
                  generalize eM_55 : mp_up M mo (.inr (4, [.ref el, .ref ek, .int (nI ec), .ref bg, .ref sz, .ref kn, .int (nI tc), .ref rw, .int (nI wc), .ref pp, .ref pk, .ref wd, .ref lo, .int (nI sc), .ref kp, .ref ks, .int (nI nc), .int (nI 0)])) = M_54 at I h0_n hel_n hek_n hbg_n hsz_n hkn_n hrw_n hpp_n hpk_n hwd_n hlo_n hkp_n hks_n
                  have h0__M_54 := h0_n
                  have hel__M_54 := hel_n
                  have hek__M_54 := hek_n
                  have hbg__M_54 := hbg_n
                  have hsz__M_54 := hsz_n
                  have hkn__M_54 := hkn_n
                  have hrw__M_54 := hrw_n
                  have hpp__M_54 := hpp_n
                  have hpk__M_54 := hpk_n
                  have hwd__M_54 := hwd_n
                  have hlo__M_54 := hlo_n
                  have hkp__M_54 := hkp_n
                  have hks__M_54 := hks_n
                  clear h0_n hel_n hek_n hbg_n hsz_n hkn_n hrw_n hpp_n hpk_n hwd_n hlo_n hkp_n hks_n
                  have hE := hE.cnt ec tc wc sc nc 0
                  rw [eM_55] at hE
                  refine lv_iload hx hb dM_act_133 (lv_at hl 0 rfl) ?_
                  refine zz_if_ne (tgt := 140) hx hb (nI_toInt (by decide)) dM_act_135 (by decide) (fun _ => ?_) (fun c_56 => absurd c_56 (by decide))
                  refine lv_aload_n hx hb dM_act_140 rfl (lv_at hl 2 rfl) ?_
                  refine lv_iload_n hx hb dM_act_141 rfl (lv_at hl 3 rfl) ?_
                  have hg : gact tc sc sk (nI xn).toInt act.toInt v w := by unfold gact; rw [hxi]; exact ⟨by omega, by omega, by unfold aok; omega, fun h => by first | exact p4 | (exfalso; omega), fun h => by first | exact p5 | (exfalso; omega)⟩
                  refine mp_calll (va_runV (As := [.int (nI xn)]) (rest := []) ⟨hx, hb, hml, hown, hts⟩ (kM_get l D k M_54 hE hO xn (by omega) _) (cwV 1 hts (bw_V bw_451 bw_453 bs_16 bw_2 bw_454) rfl rfl rfl (by decide +kernel) ⟨Nat.le_of_ble_eq_true rfl, Nat.le_of_ble_eq_true rfl⟩) (mp_preV I h0__M_54 rfl _) rfl rfl hl.1 rfl (lv_room (Nat.le_of_ble_eq_true rfl)) dM_act_142 ⟨Nat.le_of_ble_eq_true rfl, Nat.le_of_ble_eq_true rfl⟩) I (fun hd_ N1 H locs hp I => ?_)
                  obtain ⟨e_57, hp⟩ := hp
                  rw [e_57] at I
                  refine lv_lstore (lv' := [(9, .long hd_), (7, .int (nI 1)), (8, .int (nI (sk xn))), (0, .ref mo), (1, .int (nI xn)), (2, .int act), (3, .long v), (5, .long w)]) hx hb dM_act_145 hl (by decide) rfl (fun ls hl => ?_)
                  refine lv_iload_n hx hb dM_act_147 rfl (lv_at hl 5 rfl) ?_
                  have c_58 : act.toInt = 0 ∨ act.toInt = 1 ∨ act.toInt = 2 ∨ act.toInt = 3 ∨ act.toInt = 4 ∨ act.toInt = 5 ∨ act.toInt = 6 ∨ (act.toInt < 0 ∨ 6 < act.toInt) := by omega
                  rcases c_58 with c_58 | c_58 | c_58 | c_58 | c_58 | c_58 | c_58 | c_58
                  · refine lv_tableIn (off := 44) (tgt := 192) hx hb dM_act_148 (by rw [show act.toInt = act.toInt from rfl]; omega) (by rw [show act.toInt = act.toInt from rfl]; omega) (by rw [show act.toInt = act.toInt from rfl, c_58]; rfl) (by decide) ?_
                    refine lv_lload hx hb dM_act_192 (lv_at hl 0 rfl) ?_
                    exact mp_lret hx hb hr hlocks I (Nat.le_of_ble_eq_true rfl) (Nat.le_of_ble_eq_true rfl) dM_act_194 (Or.inl ⟨hg, by rw [hxi, ← hp]; unfold pm; rw [if_neg (show ¬ act.toInt = 1 by omega), if_neg (show ¬ act.toInt = 2 by omega), if_neg (show ¬ act.toInt = 3 by omega), if_neg (show ¬ act.toInt = 4 by omega), if_neg (show ¬ act.toInt = 5 by omega), if_neg (show ¬ act.toInt = 6 by omega), if_neg (show ¬ act.toInt = 7 by omega)]; exact ⟨rfl, hE⟩⟩)
                  · refine lv_tableIn (off := 47) (tgt := 195) hx hb dM_act_148 (by rw [show act.toInt = act.toInt from rfl]; omega) (by rw [show act.toInt = act.toInt from rfl]; omega) (by rw [show act.toInt = act.toInt from rfl, c_58]; rfl) (by decide) ?_
                    refine lv_aload_n hx hb dM_act_195 rfl (lv_at hl 3 rfl) ?_
                    refine lv_iload_n hx hb dM_act_196 rfl (lv_at hl 4 rfl) ?_
                    refine lv_lload_n hx hb dM_act_197 rfl (lv_at hl 6 rfl) ?_
                    have hget := hp
                    refine mp_callv (va_runV (As := [.int (nI xn), .long v]) (rest := []) ⟨hx, hb, hml, hown, hts⟩ (kM_set l D k M_54 hE hO xn (by omega) v _) (cwV 2 hts (bw_V bw_456 bw_458 bs_17 bw_2 bw_459) rfl rfl rfl (by decide +kernel) ⟨Nat.le_of_ble_eq_true rfl, Nat.le_of_ble_eq_true rfl⟩) (mp_preV I h0__M_54 rfl _) rfl rfl hl.1 rfl (lv_room (Nat.le_of_ble_eq_true rfl)) dM_act_198 ⟨Nat.le_of_ble_eq_true rfl, Nat.le_of_ble_eq_true rfl⟩) I (fun N1 H locs hp I => ?_)
                    have hE := hp
                    refine lv_lconst (v := 0) hx hb dM_act_201 (by decide) ?_
                    exact mp_lret hx hb hr hlocks I (Nat.le_of_ble_eq_true rfl) (Nat.le_of_ble_eq_true rfl) dM_act_202 (Or.inl ⟨hg, by rw [hxi, ← hget]; unfold pm; rw [if_pos (show act.toInt = 1 by omega)]; exact ⟨rfl, hE⟩⟩)
                  · refine lv_tableIn (off := 55) (tgt := 203) hx hb dM_act_148 (by rw [show act.toInt = act.toInt from rfl]; omega) (by rw [show act.toInt = act.toInt from rfl]; omega) (by rw [show act.toInt = act.toInt from rfl, c_58]; rfl) (by decide) ?_
                    refine lv_aload_n hx hb dM_act_203 rfl (lv_at hl 3 rfl) ?_
                    refine lv_iload_n hx hb dM_act_204 rfl (lv_at hl 4 rfl) ?_
                    refine lv_lload_n hx hb dM_act_205 rfl (lv_at hl 6 rfl) ?_
                    have hget := hp
                    refine mp_callv (va_runV (As := [.int (nI xn), .long v]) (rest := []) ⟨hx, hb, hml, hown, hts⟩ (kM_set l D k M_54 hE hO xn (by omega) v _) (cwV 2 hts (bw_V bw_456 bw_458 bs_17 bw_2 bw_459) rfl rfl rfl (by decide +kernel) ⟨Nat.le_of_ble_eq_true rfl, Nat.le_of_ble_eq_true rfl⟩) (mp_preV I h0__M_54 rfl _) rfl rfl hl.1 rfl (lv_room (Nat.le_of_ble_eq_true rfl)) dM_act_206 ⟨Nat.le_of_ble_eq_true rfl, Nat.le_of_ble_eq_true rfl⟩) I (fun N1 H locs hp I => ?_)
                    have hE := hp
                    refine lv_goto (tgt := 308) hx hb dM_act_209 (by decide) ?_
                    refine lv_lload hx hb dM_act_308 (lv_at hl 0 rfl) ?_
                    exact mp_lret hx hb hr hlocks I (Nat.le_of_ble_eq_true rfl) (Nat.le_of_ble_eq_true rfl) dM_act_310 (Or.inl ⟨hg, by rw [hxi, ← hget]; unfold pm; rw [if_neg (show ¬ act.toInt = 1 by omega), if_pos (show act.toInt = 2 by omega)]; exact ⟨rfl, hE⟩⟩)
                  · refine lv_tableIn (off := 64) (tgt := 212) hx hb dM_act_148 (by rw [show act.toInt = act.toInt from rfl]; omega) (by rw [show act.toInt = act.toInt from rfl]; omega) (by rw [show act.toInt = act.toInt from rfl, c_58]; rfl) (by decide) ?_
                    refine lv_lload hx hb dM_act_212 (lv_at hl 0 rfl) ?_
                    refine lv_lload_n hx hb dM_act_214 rfl (lv_at hl 6 rfl) ?_
                    have hget := hp
                    refine W.lcmp hx hb dM_act_215 ?_
                    refine lv_if_ne (tgt := 226) hx hb dM_act_216 (by decide) (fun c_61 => ?_) (fun c_61 => ?_)
                    all_goals rw [lg_cmp_eq] at c_61
                    · refine lv_lload hx hb dM_act_226 (lv_at hl 0 rfl) ?_
                      refine lv_lload_n hx hb dM_act_228 rfl (lv_at hl 6 rfl) ?_
                      refine W.lcmp hx hb dM_act_229 ?_
                      refine lv_if_ne (tgt := 237) hx hb dM_act_230 (by decide) (fun c_62 => ?_) (fun c_62 => ?_)
                      all_goals rw [lg_cmp_eq] at c_62
                      · refine lv_lconst (v := 0) hx hb dM_act_237 (by decide) ?_
                        exact mp_lret hx hb hr hlocks I (Nat.le_of_ble_eq_true rfl) (Nat.le_of_ble_eq_true rfl) dM_act_238 (Or.inl ⟨hg, by rw [hxi, ← hget]; unfold pm; rw [if_neg (show ¬ act.toInt = 1 by omega), if_neg (show ¬ act.toInt = 2 by omega), if_pos (show act.toInt = 3 by omega), if_neg c_61]; exact ⟨rfl, hE⟩⟩)
                      · exact absurd c_62 c_61
                    · refine lv_aload_n hx hb dM_act_219 rfl (lv_at hl 3 rfl) ?_
                      refine lv_iload_n hx hb dM_act_220 rfl (lv_at hl 4 rfl) ?_
                      refine lv_lload hx hb dM_act_221 (lv_at hl 7 rfl) ?_
                      refine mp_callv (va_runV (As := [.int (nI xn), .long w]) (rest := []) ⟨hx, hb, hml, hown, hts⟩ (kM_set l D k M_54 hE hO xn (by omega) w _) (cwV 2 hts (bw_V bw_456 bw_458 bs_17 bw_2 bw_459) rfl rfl rfl (by decide +kernel) ⟨Nat.le_of_ble_eq_true rfl, Nat.le_of_ble_eq_true rfl⟩) (mp_preV I h0__M_54 rfl _) rfl rfl hl.1 rfl (lv_room (Nat.le_of_ble_eq_true rfl)) dM_act_223 ⟨Nat.le_of_ble_eq_true rfl, Nat.le_of_ble_eq_true rfl⟩) I (fun N1 H locs hp I => ?_)
                      have hE := hp
                      refine lv_lload hx hb dM_act_226 (lv_at hl 0 rfl) ?_
                      refine lv_lload_n hx hb dM_act_228 rfl (lv_at hl 6 rfl) ?_
                      refine W.lcmp hx hb dM_act_229 ?_
                      refine lv_if_ne (tgt := 237) hx hb dM_act_230 (by decide) (fun c_64 => ?_) (fun c_64 => ?_)
                      all_goals rw [lg_cmp_eq] at c_64
                      · exact absurd c_61 c_64
                      · refine lv_lconst (v := 1) hx hb dM_act_233 (by decide) ?_
                        refine lv_goto (tgt := 238) hx hb dM_act_234 (by decide) ?_
                        exact mp_lret hx hb hr hlocks I (Nat.le_of_ble_eq_true rfl) (Nat.le_of_ble_eq_true rfl) dM_act_238 (Or.inl ⟨hg, by rw [hxi, ← hget]; unfold pm; rw [if_neg (show ¬ act.toInt = 1 by omega), if_neg (show ¬ act.toInt = 2 by omega), if_pos (show act.toInt = 3 by omega), if_pos c_61]; exact ⟨rfl, hE⟩⟩)
                  · refine lv_tableIn (off := 91) (tgt := 239) hx hb dM_act_148 (by rw [show act.toInt = act.toInt from rfl]; omega) (by rw [show act.toInt = act.toInt from rfl]; omega) (by rw [show act.toInt = act.toInt from rfl, c_58]; rfl) (by decide) ?_
                    refine lv_aload_n hx hb dM_act_239 rfl (lv_at hl 3 rfl) ?_
                    refine lv_iload_n hx hb dM_act_240 rfl (lv_at hl 4 rfl) ?_
                    refine lv_iload hx hb dM_act_241 (lv_at hl 2 rfl) ?_
                    refine lv_lload hx hb dM_act_243 (lv_at hl 0 rfl) ?_
                    refine lv_lload_n hx hb dM_act_245 rfl (lv_at hl 6 rfl) ?_
                    refine lv_ladd hx hb dM_act_246 ?_
                    have hget := hp
                    refine mp_calll (va_runS (As := [.int (nI (sk xn)), .long (hd_ + v)]) (rest := [.int (nI xn), .ref mo]) ⟨hx, hb, hml, hown, hts⟩ (kM_as l D k M_54 (sk xn) (hd_ + v) (by omega) _) (cwS 2 hts (bw_S bw_447 bw_448 bw_2 bw_449) rfl rfl rfl (by decide +kernel) ⟨Nat.le_of_ble_eq_true rfl, Nat.le_of_ble_eq_true rfl⟩) (mp_preS I _) rfl rfl hl.1 rfl (lv_room (Nat.le_of_ble_eq_true rfl)) dM_act_247 ⟨Nat.le_of_ble_eq_true rfl, Nat.le_of_ble_eq_true rfl⟩) I (fun r2 N1 H locs hp I => ?_)
                    obtain ⟨e_65, hp⟩ := hp
                    rw [e_65] at I
                    subst hp
                    refine mp_callv (va_runV (As := [.int (nI xn), .long (lb (sk xn) (hd_ + v))]) (rest := []) ⟨hx, hb, hml, hown, hts⟩ (kM_set l D k M_54 hE hO xn (by omega) (lb (sk xn) (hd_ + v)) _) (cwV 2 hts (bw_V bw_456 bw_458 bs_17 bw_2 bw_459) rfl rfl rfl (by decide +kernel) ⟨Nat.le_of_ble_eq_true rfl, Nat.le_of_ble_eq_true rfl⟩) (mp_preV I h0__M_54 rfl _) rfl rfl hl.1 rfl (lv_room (Nat.le_of_ble_eq_true rfl)) dM_act_250 ⟨Nat.le_of_ble_eq_true rfl, Nat.le_of_ble_eq_true rfl⟩) I (fun N1 H locs hp I => ?_)
                    have hE := hp
                    refine lv_goto (tgt := 308) hx hb dM_act_253 (by decide) ?_
                    refine lv_lload hx hb dM_act_308 (lv_at hl 0 rfl) ?_
                    exact mp_lret hx hb hr hlocks I (Nat.le_of_ble_eq_true rfl) (Nat.le_of_ble_eq_true rfl) dM_act_310 (Or.inl ⟨hg, by rw [hxi, ← hget]; unfold pm; rw [if_neg (show ¬ act.toInt = 1 by omega), if_neg (show ¬ act.toInt = 2 by omega), if_neg (show ¬ act.toInt = 3 by omega), if_pos (show act.toInt = 4 by omega)]; exact ⟨rfl, hE⟩⟩)
                  · refine lv_tableIn (off := 108) (tgt := 256) hx hb dM_act_148 (by rw [show act.toInt = act.toInt from rfl]; omega) (by rw [show act.toInt = act.toInt from rfl]; omega) (by rw [show act.toInt = act.toInt from rfl, c_58]; rfl) (by decide) ?_
                    refine lv_aload_n hx hb dM_act_256 rfl (lv_at hl 3 rfl) ?_
                    refine lv_iload_n hx hb dM_act_257 rfl (lv_at hl 4 rfl) ?_
                    refine lv_iload hx hb dM_act_258 (lv_at hl 2 rfl) ?_
                    refine lv_lload hx hb dM_act_260 (lv_at hl 0 rfl) ?_
                    refine lv_lload_n hx hb dM_act_262 rfl (lv_at hl 6 rfl) ?_
                    refine lv_land hx hb dM_act_263 ?_
                    have hget := hp
                    refine mp_calll (va_runS (As := [.int (nI (sk xn)), .long (hd_ &&& v)]) (rest := [.int (nI xn), .ref mo]) ⟨hx, hb, hml, hown, hts⟩ (kM_as l D k M_54 (sk xn) (hd_ &&& v) (by omega) _) (cwS 2 hts (bw_S bw_447 bw_448 bw_2 bw_449) rfl rfl rfl (by decide +kernel) ⟨Nat.le_of_ble_eq_true rfl, Nat.le_of_ble_eq_true rfl⟩) (mp_preS I _) rfl rfl hl.1 rfl (lv_room (Nat.le_of_ble_eq_true rfl)) dM_act_264 ⟨Nat.le_of_ble_eq_true rfl, Nat.le_of_ble_eq_true rfl⟩) I (fun r2 N1 H locs hp I => ?_)
                    obtain ⟨e_67, hp⟩ := hp
                    rw [e_67] at I
                    subst hp
                    refine mp_callv (va_runV (As := [.int (nI xn), .long (lb (sk xn) (hd_ &&& v))]) (rest := []) ⟨hx, hb, hml, hown, hts⟩ (kM_set l D k M_54 hE hO xn (by omega) (lb (sk xn) (hd_ &&& v)) _) (cwV 2 hts (bw_V bw_456 bw_458 bs_17 bw_2 bw_459) rfl rfl rfl (by decide +kernel) ⟨Nat.le_of_ble_eq_true rfl, Nat.le_of_ble_eq_true rfl⟩) (mp_preV I h0__M_54 rfl _) rfl rfl hl.1 rfl (lv_room (Nat.le_of_ble_eq_true rfl)) dM_act_267 ⟨Nat.le_of_ble_eq_true rfl, Nat.le_of_ble_eq_true rfl⟩) I (fun N1 H locs hp I => ?_)
                    have hE := hp
                    refine lv_goto (tgt := 308) hx hb dM_act_270 (by decide) ?_
                    refine lv_lload hx hb dM_act_308 (lv_at hl 0 rfl) ?_
                    exact mp_lret hx hb hr hlocks I (Nat.le_of_ble_eq_true rfl) (Nat.le_of_ble_eq_true rfl) dM_act_310 (Or.inl ⟨hg, by rw [hxi, ← hget]; unfold pm; rw [if_neg (show ¬ act.toInt = 1 by omega), if_neg (show ¬ act.toInt = 2 by omega), if_neg (show ¬ act.toInt = 3 by omega), if_neg (show ¬ act.toInt = 4 by omega), if_pos (show act.toInt = 5 by omega)]; exact ⟨rfl, hE⟩⟩)
                  · refine lv_tableIn (off := 125) (tgt := 273) hx hb dM_act_148 (by rw [show act.toInt = act.toInt from rfl]; omega) (by rw [show act.toInt = act.toInt from rfl]; omega) (by rw [show act.toInt = act.toInt from rfl, c_58]; rfl) (by decide) ?_
                    refine lv_aload_n hx hb dM_act_273 rfl (lv_at hl 3 rfl) ?_
                    refine lv_iload_n hx hb dM_act_274 rfl (lv_at hl 4 rfl) ?_
                    refine lv_iload hx hb dM_act_275 (lv_at hl 2 rfl) ?_
                    refine lv_lload hx hb dM_act_277 (lv_at hl 0 rfl) ?_
                    refine lv_lload_n hx hb dM_act_279 rfl (lv_at hl 6 rfl) ?_
                    refine lv_lor hx hb dM_act_280 ?_
                    have hget := hp
                    refine mp_calll (va_runS (As := [.int (nI (sk xn)), .long (hd_ ||| v)]) (rest := [.int (nI xn), .ref mo]) ⟨hx, hb, hml, hown, hts⟩ (kM_as l D k M_54 (sk xn) (hd_ ||| v) (by omega) _) (cwS 2 hts (bw_S bw_447 bw_448 bw_2 bw_449) rfl rfl rfl (by decide +kernel) ⟨Nat.le_of_ble_eq_true rfl, Nat.le_of_ble_eq_true rfl⟩) (mp_preS I _) rfl rfl hl.1 rfl (lv_room (Nat.le_of_ble_eq_true rfl)) dM_act_281 ⟨Nat.le_of_ble_eq_true rfl, Nat.le_of_ble_eq_true rfl⟩) I (fun r2 N1 H locs hp I => ?_)
                    obtain ⟨e_69, hp⟩ := hp
                    rw [e_69] at I
                    subst hp
                    refine mp_callv (va_runV (As := [.int (nI xn), .long (lb (sk xn) (hd_ ||| v))]) (rest := []) ⟨hx, hb, hml, hown, hts⟩ (kM_set l D k M_54 hE hO xn (by omega) (lb (sk xn) (hd_ ||| v)) _) (cwV 2 hts (bw_V bw_456 bw_458 bs_17 bw_2 bw_459) rfl rfl rfl (by decide +kernel) ⟨Nat.le_of_ble_eq_true rfl, Nat.le_of_ble_eq_true rfl⟩) (mp_preV I h0__M_54 rfl _) rfl rfl hl.1 rfl (lv_room (Nat.le_of_ble_eq_true rfl)) dM_act_284 ⟨Nat.le_of_ble_eq_true rfl, Nat.le_of_ble_eq_true rfl⟩) I (fun N1 H locs hp I => ?_)
                    have hE := hp
                    refine lv_goto (tgt := 308) hx hb dM_act_287 (by decide) ?_
                    refine lv_lload hx hb dM_act_308 (lv_at hl 0 rfl) ?_
                    exact mp_lret hx hb hr hlocks I (Nat.le_of_ble_eq_true rfl) (Nat.le_of_ble_eq_true rfl) dM_act_310 (Or.inl ⟨hg, by rw [hxi, ← hget]; unfold pm; rw [if_neg (show ¬ act.toInt = 1 by omega), if_neg (show ¬ act.toInt = 2 by omega), if_neg (show ¬ act.toInt = 3 by omega), if_neg (show ¬ act.toInt = 4 by omega), if_neg (show ¬ act.toInt = 5 by omega), if_pos (show act.toInt = 6 by omega)]; exact ⟨rfl, hE⟩⟩)
                  · refine lv_tableOut (tgt := 290) hx hb dM_act_148 (by rw [show act.toInt = act.toInt from rfl]; exact c_58) (by decide) ?_
                    refine lv_aload_n hx hb dM_act_290 rfl (lv_at hl 3 rfl) ?_
                    refine lv_iload_n hx hb dM_act_291 rfl (lv_at hl 4 rfl) ?_
                    refine lv_lload hx hb dM_act_292 (lv_at hl 0 rfl) ?_
                    refine lv_lload_n hx hb dM_act_294 rfl (lv_at hl 6 rfl) ?_
                    have hget := hp
                    refine W.lcmp hx hb dM_act_295 ?_
                    refine lv_if_le (tgt := 304) hx hb dM_act_296 (by decide) (fun c_71 => ?_) (fun c_71 => ?_)
                    all_goals rw [lg_cmp_le] at c_71
                    · refine lv_lload_n hx hb dM_act_304 rfl (lv_at hl 6 rfl) ?_
                      refine mp_callv (va_runV (As := [.int (nI xn), .long v]) (rest := []) ⟨hx, hb, hml, hown, hts⟩ (kM_set l D k M_54 hE hO xn (by omega) v _) (cwV 2 hts (bw_V bw_456 bw_458 bs_17 bw_2 bw_459) rfl rfl rfl (by decide +kernel) ⟨Nat.le_of_ble_eq_true rfl, Nat.le_of_ble_eq_true rfl⟩) (mp_preV I h0__M_54 rfl _) rfl rfl hl.1 rfl (lv_room (Nat.le_of_ble_eq_true rfl)) dM_act_305 ⟨Nat.le_of_ble_eq_true rfl, Nat.le_of_ble_eq_true rfl⟩) I (fun N1 H locs hp I => ?_)
                      have hE := hp
                      refine lv_lload hx hb dM_act_308 (lv_at hl 0 rfl) ?_
                      exact mp_lret hx hb hr hlocks I (Nat.le_of_ble_eq_true rfl) (Nat.le_of_ble_eq_true rfl) dM_act_310 (Or.inl ⟨hg, by rw [hxi, ← hget]; unfold pm; rw [if_neg (show ¬ act.toInt = 1 by omega), if_neg (show ¬ act.toInt = 2 by omega), if_neg (show ¬ act.toInt = 3 by omega), if_neg (show ¬ act.toInt = 4 by omega), if_neg (show ¬ act.toInt = 5 by omega), if_neg (show ¬ act.toInt = 6 by omega), if_pos (show act.toInt = 7 by unfold gact aok at hg; omega), if_neg (Int64.not_lt.mpr c_71)]; exact ⟨rfl, hE⟩⟩)
                    · refine lv_lload hx hb dM_act_299 (lv_at hl 0 rfl) ?_
                      refine lv_goto (tgt := 305) hx hb dM_act_301 (by decide) ?_
                      refine mp_callv (va_runV (As := [.int (nI xn), .long hd_]) (rest := []) ⟨hx, hb, hml, hown, hts⟩ (kM_set l D k M_54 hE hO xn (by omega) hd_ _) (cwV 2 hts (bw_V bw_456 bw_458 bs_17 bw_2 bw_459) rfl rfl rfl (by decide +kernel) ⟨Nat.le_of_ble_eq_true rfl, Nat.le_of_ble_eq_true rfl⟩) (mp_preV I h0__M_54 rfl _) rfl rfl hl.1 rfl (lv_room (Nat.le_of_ble_eq_true rfl)) dM_act_305 ⟨Nat.le_of_ble_eq_true rfl, Nat.le_of_ble_eq_true rfl⟩) I (fun N1 H locs hp I => ?_)
                      have hE := hp
                      refine lv_lload hx hb dM_act_308 (lv_at hl 0 rfl) ?_
                      exact mp_lret hx hb hr hlocks I (Nat.le_of_ble_eq_true rfl) (Nat.le_of_ble_eq_true rfl) dM_act_310 (Or.inl ⟨hg, by rw [hxi, ← hget]; unfold pm; rw [if_neg (show ¬ act.toInt = 1 by omega), if_neg (show ¬ act.toInt = 2 by omega), if_neg (show ¬ act.toInt = 3 by omega), if_neg (show ¬ act.toInt = 4 by omega), if_neg (show ¬ act.toInt = 5 by omega), if_neg (show ¬ act.toInt = 6 by omega), if_pos (show act.toInt = 7 by unfold gact aok at hg; omega), if_pos (Int64.not_le.mp c_71)]; exact ⟨rfl, hE⟩⟩)
                · refine zz_if_eq (tgt := 116) hx hb (nI_toInt (by decide)) dM_act_109 (by decide) (fun _ => ?_) (fun c_74 => absurd c_74 (by decide))
                  refine lv_iconst (v := nI 0) hx hb dM_act_116 (by decide) ?_
                  refine lv_istore (lv' := [(7, .int (nI 0)), (8, .int (nI (sk xn))), (0, .ref mo), (1, .int (nI xn)), (2, .int act), (3, .long v), (5, .long w)]) hx hb dM_act_117 hl (by decide) rfl (fun ls hl => ?_)
                  refine lv_aload_n hx hb dM_act_119 rfl (lv_at hl 2 rfl) ?_
                  refine lv_iload hx hb dM_act_120 (lv_at hl 0 rfl) ?_
                  refine zz_if_eq (tgt := 129) hx hb (nI_toInt (by decide)) dM_act_122 (by decide) (fun _ => ?_) (fun c_75 => absurd c_75 (by decide))
                  refine lv_iconst (v := nI 1) hx hb dM_act_129 (by decide) ?_
                  refine mp_put (v := .int (nI 1)) (ty := .int) hx hb hts inM tyM okM nmM hown I h0 rfl 17 (by decide) (hts _ bw_348) (fun _ h9 => h9) rfl (by decide +kernel) rfl rfl (Nat.le_of_ble_eq_true rfl) dM_act_130 (fun H locs I => ?_)
                  have I : mp_I D cls5 (tys6 k) s _ s.heap H locs (mp_up M mo (.inr (4, [.ref el, .ref ek, .int (nI ec), .ref bg, .ref sz, .ref kn, .int (nI tc), .ref rw, .int (nI wc), .ref pp, .ref pk, .ref wd, .ref lo, .int (nI sc), .ref kp, .ref ks, .int (nI nc), .int (nI 1)]))) := I
                  have h0_n : mp_up M mo (.inr (4, [.ref el, .ref ek, .int (nI ec), .ref bg, .ref sz, .ref kn, .int (nI tc), .ref rw, .int (nI wc), .ref pp, .ref pk, .ref wd, .ref lo, .int (nI sc), .ref kp, .ref ks, .int (nI nc), .int (nI 1)])) mo = some (.inr (4, [.ref el, .ref ek, .int (nI ec), .ref bg, .ref sz, .ref kn, .int (nI tc), .ref rw, .int (nI wc), .ref pp, .ref pk, .ref wd, .ref lo, .int (nI sc), .ref kp, .ref ks, .int (nI nc), .int (nI 1)])) := mp_up_s _ _ _
                  have hel_n : mp_up M mo (.inr (4, [.ref el, .ref ek, .int (nI ec), .ref bg, .ref sz, .ref kn, .int (nI tc), .ref rw, .int (nI wc), .ref pp, .ref pk, .ref wd, .ref lo, .int (nI sc), .ref kp, .ref ks, .int (nI nc), .int (nI 1)])) el = some (.inl (k 1, 4000, .inr (.inl va))) := (mp_up_n (mp_ne hel h0 (by simp))).trans hel
                  have hek_n : mp_up M mo (.inr (4, [.ref el, .ref ek, .int (nI ec), .ref bg, .ref sz, .ref kn, .int (nI tc), .ref rw, .int (nI wc), .ref pp, .ref pk, .ref wd, .ref lo, .int (nI sc), .ref kp, .ref ks, .int (nI nc), .int (nI 1)])) ek = some (.inl (k 0, 4000, .inl (fun i_ => nI (kd i_)))) := (mp_up_n (mp_ne hek h0 (by simp))).trans hek
                  have hbg_n : mp_up M mo (.inr (4, [.ref el, .ref ek, .int (nI ec), .ref bg, .ref sz, .ref kn, .int (nI tc), .ref rw, .int (nI wc), .ref pp, .ref pk, .ref wd, .ref lo, .int (nI sc), .ref kp, .ref ks, .int (nI nc), .int (nI 1)])) bg = some (.inl (k 0, 300, .inl (fun i_ => nI (tf i_)))) := (mp_up_n (mp_ne hbg h0 (by simp))).trans hbg
                  have hsz_n : mp_up M mo (.inr (4, [.ref el, .ref ek, .int (nI ec), .ref bg, .ref sz, .ref kn, .int (nI tc), .ref rw, .int (nI wc), .ref pp, .ref pk, .ref wd, .ref lo, .int (nI sc), .ref kp, .ref ks, .int (nI nc), .int (nI 1)])) sz = some (.inl (k 0, 300, .inl (fun i_ => nI (tz i_)))) := (mp_up_n (mp_ne hsz h0 (by simp))).trans hsz
                  have hkn_n : mp_up M mo (.inr (4, [.ref el, .ref ek, .int (nI ec), .ref bg, .ref sz, .ref kn, .int (nI tc), .ref rw, .int (nI wc), .ref pp, .ref pk, .ref wd, .ref lo, .int (nI sc), .ref kp, .ref ks, .int (nI nc), .int (nI 1)])) kn = some (.inl (k 0, 300, .inl (fun i_ => nI (tk i_)))) := (mp_up_n (mp_ne hkn h0 (by simp))).trans hkn
                  have hrw_n : mp_up M mo (.inr (4, [.ref el, .ref ek, .int (nI ec), .ref bg, .ref sz, .ref kn, .int (nI tc), .ref rw, .int (nI wc), .ref pp, .ref pk, .ref wd, .ref lo, .int (nI sc), .ref kp, .ref ks, .int (nI nc), .int (nI 1)])) rw = some (.inl (k 0, 12, .inl (fun i_ => nI (wt i_)))) := (mp_up_n (mp_ne hrw h0 (by simp))).trans hrw
                  have hpp_n : mp_up M mo (.inr (4, [.ref el, .ref ek, .int (nI ec), .ref bg, .ref sz, .ref kn, .int (nI tc), .ref rw, .int (nI wc), .ref pp, .ref pk, .ref wd, .ref lo, .int (nI sc), .ref kp, .ref ks, .int (nI nc), .int (nI 1)])) pp = some (.inl (k 0, 100, .inl (fun i_ => nI (sf i_)))) := (mp_up_n (mp_ne hpp h0 (by simp))).trans hpp
                  have hpk_n : mp_up M mo (.inr (4, [.ref el, .ref ek, .int (nI ec), .ref bg, .ref sz, .ref kn, .int (nI tc), .ref rw, .int (nI wc), .ref pp, .ref pk, .ref wd, .ref lo, .int (nI sc), .ref kp, .ref ks, .int (nI nc), .int (nI 1)])) pk = some (.inl (k 0, 100, .inl (fun i_ => nI (sk i_)))) := (mp_up_n (mp_ne hpk h0 (by simp))).trans hpk
                  have hwd_n : mp_up M mo (.inr (4, [.ref el, .ref ek, .int (nI ec), .ref bg, .ref sz, .ref kn, .int (nI tc), .ref rw, .int (nI wc), .ref pp, .ref pk, .ref wd, .ref lo, .int (nI sc), .ref kp, .ref ks, .int (nI nc), .int (nI 1)])) wd = some (.inl (k 0, 100, .inl (fun i_ => nI (sw i_)))) := (mp_up_n (mp_ne hwd h0 (by simp))).trans hwd
                  have hlo_n : mp_up M mo (.inr (4, [.ref el, .ref ek, .int (nI ec), .ref bg, .ref sz, .ref kn, .int (nI tc), .ref rw, .int (nI wc), .ref pp, .ref pk, .ref wd, .ref lo, .int (nI sc), .ref kp, .ref ks, .int (nI nc), .int (nI 1)])) lo = some (.inl (k 5, 100, .inl (fun i_ => nI (ml i_)))) := (mp_up_n (mp_ne hlo h0 (by simp))).trans hlo
                  have hkp_n : mp_up M mo (.inr (4, [.ref el, .ref ek, .int (nI ec), .ref bg, .ref sz, .ref kn, .int (nI tc), .ref rw, .int (nI wc), .ref pp, .ref pk, .ref wd, .ref lo, .int (nI sc), .ref kp, .ref ks, .int (nI nc), .int (nI 1)])) kp = some (.inl (k 1, 80000, .inr (.inl mk))) := (mp_up_n (mp_ne hkp h0 (by simp))).trans hkp
                  have hks_n : mp_up M mo (.inr (4, [.ref el, .ref ek, .int (nI ec), .ref bg, .ref sz, .ref kn, .int (nI tc), .ref rw, .int (nI wc), .ref pp, .ref pk, .ref wd, .ref lo, .int (nI sc), .ref kp, .ref ks, .int (nI nc), .int (nI 1)])) ks = some (.inl (k 0, 20, .inl (fun i_ => nI (nn i_)))) := (mp_up_n (mp_ne hks h0 (by simp))).trans hks
                  generalize eM_77 : mp_up M mo (.inr (4, [.ref el, .ref ek, .int (nI ec), .ref bg, .ref sz, .ref kn, .int (nI tc), .ref rw, .int (nI wc), .ref pp, .ref pk, .ref wd, .ref lo, .int (nI sc), .ref kp, .ref ks, .int (nI nc), .int (nI 1)])) = M_76 at I h0_n hel_n hek_n hbg_n hsz_n hkn_n hrw_n hpp_n hpk_n hwd_n hlo_n hkp_n hks_n
                  have h0__M_76 := h0_n
                  have hel__M_76 := hel_n
                  have hek__M_76 := hek_n
                  have hbg__M_76 := hbg_n
                  have hsz__M_76 := hsz_n
                  have hkn__M_76 := hkn_n
                  have hrw__M_76 := hrw_n
                  have hpp__M_76 := hpp_n
                  have hpk__M_76 := hpk_n
                  have hwd__M_76 := hwd_n
                  have hlo__M_76 := hlo_n
                  have hkp__M_76 := hkp_n
                  have hks__M_76 := hks_n
                  clear h0_n hel_n hek_n hbg_n hsz_n hkn_n hrw_n hpp_n hpk_n hwd_n hlo_n hkp_n hks_n
                  have hE := hE.cnt ec tc wc sc nc 1
                  rw [eM_77] at hE
                  refine lv_iload hx hb dM_act_133 (lv_at hl 0 rfl) ?_
                  refine zz_if_ne (tgt := 140) hx hb (nI_toInt (by decide)) dM_act_135 (by decide) (fun c_78 => absurd c_78 (by decide)) (fun _ => ?_)
                  refine lv_lconst (v := 0) hx hb dM_act_138 (by decide) ?_
                  exact mp_lret hx hb hr hlocks I (Nat.le_of_ble_eq_true rfl) (Nat.le_of_ble_eq_true rfl) dM_act_139 (Or.inr ⟨by intro hg; obtain ⟨g1, g2, g3, g4, g5⟩ := hg; rw [hxi] at g3 g4 g5; unfold aok at g3; first | omega | exact p4 (g4 (by omega)) | exact p5 (g5 (by omega)), rfl, hE⟩)
            · refine lv_aload_n hx hb dM_act_86 rfl (lv_at hl 2 rfl) ?_
              refine lv_iload hx hb dM_act_87 (lv_at hl 1 rfl) ?_
              refine lv_lload_n hx hb dM_act_89 rfl (lv_at hl 5 rfl) ?_
              refine mp_calli (va_runV (As := [.int (nI (sk xn)), .long v]) (rest := []) ⟨hx, hb, hml, hown, hts⟩ (kM_isValue l D k M hE hO (sk xn) v (by omega) _) (cwV 2 hts (bw_V bw_443 bw_445 bs_15 bw_2 bw_446) rfl rfl rfl (by decide +kernel) ⟨Nat.le_of_ble_eq_true rfl, Nat.le_of_ble_eq_true rfl⟩) (mp_preV I h0 rfl _) rfl rfl hl.1 rfl (lv_room (Nat.le_of_ble_eq_true rfl)) dM_act_90 ⟨Nat.le_of_ble_eq_true rfl, Nat.le_of_ble_eq_true rfl⟩) I (fun r_79 N_80 H locs hp I => ?_)
              obtain ⟨e_81, hp⟩ := hp
              rw [e_81] at I
              rcases hp with ⟨p4, rfl⟩ | ⟨p4, rfl⟩
              · refine zz_if_eq (tgt := 116) hx hb (nI_toInt (by decide)) dM_act_93 (by decide) (fun c_82 => absurd c_82 (by decide)) (fun _ => ?_)
                refine lv_iload_n hx hb dM_act_96 rfl (lv_at hl 4 rfl) ?_
                refine lv_iconst (v := nI 3) hx hb dM_act_97 (by decide) ?_
                refine zz_icmp_ne (tgt := 112) hx hb rfl (nI_toInt (by decide)) dM_act_98 (by decide) (fun c_83 => ?_) (fun c_83 => ?_)
                · refine lv_iconst (v := nI 1) hx hb dM_act_112 (by decide) ?_
                  refine lv_goto (tgt := 117) hx hb dM_act_113 (by decide) ?_
                  refine lv_istore (lv' := [(7, .int (nI 1)), (8, .int (nI (sk xn))), (0, .ref mo), (1, .int (nI xn)), (2, .int act), (3, .long v), (5, .long w)]) hx hb dM_act_117 hl (by decide) rfl (fun ls hl => ?_)
                  refine lv_aload_n hx hb dM_act_119 rfl (lv_at hl 2 rfl) ?_
                  refine lv_iload hx hb dM_act_120 (lv_at hl 0 rfl) ?_
                  refine zz_if_eq (tgt := 129) hx hb (nI_toInt (by decide)) dM_act_122 (by decide) (fun c_84 => absurd c_84 (by decide)) (fun _ => ?_)
                  refine lv_iconst (v := nI 0) hx hb dM_act_125 (by decide) ?_
                  refine lv_goto (tgt := 130) hx hb dM_act_126 (by decide) ?_
                  refine mp_put (v := .int (nI 0)) (ty := .int) hx hb hts inM tyM okM nmM hown I h0 rfl 17 (by decide) (hts _ bw_348) (fun _ h9 => h9) rfl (by decide +kernel) rfl rfl (Nat.le_of_ble_eq_true rfl) dM_act_130 (fun H locs I => ?_)
                  have I : mp_I D cls5 (tys6 k) s _ s.heap H locs (mp_up M mo (.inr (4, [.ref el, .ref ek, .int (nI ec), .ref bg, .ref sz, .ref kn, .int (nI tc), .ref rw, .int (nI wc), .ref pp, .ref pk, .ref wd, .ref lo, .int (nI sc), .ref kp, .ref ks, .int (nI nc), .int (nI 0)]))) := I
                  have h0_n : mp_up M mo (.inr (4, [.ref el, .ref ek, .int (nI ec), .ref bg, .ref sz, .ref kn, .int (nI tc), .ref rw, .int (nI wc), .ref pp, .ref pk, .ref wd, .ref lo, .int (nI sc), .ref kp, .ref ks, .int (nI nc), .int (nI 0)])) mo = some (.inr (4, [.ref el, .ref ek, .int (nI ec), .ref bg, .ref sz, .ref kn, .int (nI tc), .ref rw, .int (nI wc), .ref pp, .ref pk, .ref wd, .ref lo, .int (nI sc), .ref kp, .ref ks, .int (nI nc), .int (nI 0)])) := mp_up_s _ _ _
                  have hel_n : mp_up M mo (.inr (4, [.ref el, .ref ek, .int (nI ec), .ref bg, .ref sz, .ref kn, .int (nI tc), .ref rw, .int (nI wc), .ref pp, .ref pk, .ref wd, .ref lo, .int (nI sc), .ref kp, .ref ks, .int (nI nc), .int (nI 0)])) el = some (.inl (k 1, 4000, .inr (.inl va))) := (mp_up_n (mp_ne hel h0 (by simp))).trans hel
                  have hek_n : mp_up M mo (.inr (4, [.ref el, .ref ek, .int (nI ec), .ref bg, .ref sz, .ref kn, .int (nI tc), .ref rw, .int (nI wc), .ref pp, .ref pk, .ref wd, .ref lo, .int (nI sc), .ref kp, .ref ks, .int (nI nc), .int (nI 0)])) ek = some (.inl (k 0, 4000, .inl (fun i_ => nI (kd i_)))) := (mp_up_n (mp_ne hek h0 (by simp))).trans hek
                  have hbg_n : mp_up M mo (.inr (4, [.ref el, .ref ek, .int (nI ec), .ref bg, .ref sz, .ref kn, .int (nI tc), .ref rw, .int (nI wc), .ref pp, .ref pk, .ref wd, .ref lo, .int (nI sc), .ref kp, .ref ks, .int (nI nc), .int (nI 0)])) bg = some (.inl (k 0, 300, .inl (fun i_ => nI (tf i_)))) := (mp_up_n (mp_ne hbg h0 (by simp))).trans hbg
                  have hsz_n : mp_up M mo (.inr (4, [.ref el, .ref ek, .int (nI ec), .ref bg, .ref sz, .ref kn, .int (nI tc), .ref rw, .int (nI wc), .ref pp, .ref pk, .ref wd, .ref lo, .int (nI sc), .ref kp, .ref ks, .int (nI nc), .int (nI 0)])) sz = some (.inl (k 0, 300, .inl (fun i_ => nI (tz i_)))) := (mp_up_n (mp_ne hsz h0 (by simp))).trans hsz
                  have hkn_n : mp_up M mo (.inr (4, [.ref el, .ref ek, .int (nI ec), .ref bg, .ref sz, .ref kn, .int (nI tc), .ref rw, .int (nI wc), .ref pp, .ref pk, .ref wd, .ref lo, .int (nI sc), .ref kp, .ref ks, .int (nI nc), .int (nI 0)])) kn = some (.inl (k 0, 300, .inl (fun i_ => nI (tk i_)))) := (mp_up_n (mp_ne hkn h0 (by simp))).trans hkn
                  have hrw_n : mp_up M mo (.inr (4, [.ref el, .ref ek, .int (nI ec), .ref bg, .ref sz, .ref kn, .int (nI tc), .ref rw, .int (nI wc), .ref pp, .ref pk, .ref wd, .ref lo, .int (nI sc), .ref kp, .ref ks, .int (nI nc), .int (nI 0)])) rw = some (.inl (k 0, 12, .inl (fun i_ => nI (wt i_)))) := (mp_up_n (mp_ne hrw h0 (by simp))).trans hrw
                  have hpp_n : mp_up M mo (.inr (4, [.ref el, .ref ek, .int (nI ec), .ref bg, .ref sz, .ref kn, .int (nI tc), .ref rw, .int (nI wc), .ref pp, .ref pk, .ref wd, .ref lo, .int (nI sc), .ref kp, .ref ks, .int (nI nc), .int (nI 0)])) pp = some (.inl (k 0, 100, .inl (fun i_ => nI (sf i_)))) := (mp_up_n (mp_ne hpp h0 (by simp))).trans hpp
                  have hpk_n : mp_up M mo (.inr (4, [.ref el, .ref ek, .int (nI ec), .ref bg, .ref sz, .ref kn, .int (nI tc), .ref rw, .int (nI wc), .ref pp, .ref pk, .ref wd, .ref lo, .int (nI sc), .ref kp, .ref ks, .int (nI nc), .int (nI 0)])) pk = some (.inl (k 0, 100, .inl (fun i_ => nI (sk i_)))) := (mp_up_n (mp_ne hpk h0 (by simp))).trans hpk
                  have hwd_n : mp_up M mo (.inr (4, [.ref el, .ref ek, .int (nI ec), .ref bg, .ref sz, .ref kn, .int (nI tc), .ref rw, .int (nI wc), .ref pp, .ref pk, .ref wd, .ref lo, .int (nI sc), .ref kp, .ref ks, .int (nI nc), .int (nI 0)])) wd = some (.inl (k 0, 100, .inl (fun i_ => nI (sw i_)))) := (mp_up_n (mp_ne hwd h0 (by simp))).trans hwd
                  have hlo_n : mp_up M mo (.inr (4, [.ref el, .ref ek, .int (nI ec), .ref bg, .ref sz, .ref kn, .int (nI tc), .ref rw, .int (nI wc), .ref pp, .ref pk, .ref wd, .ref lo, .int (nI sc), .ref kp, .ref ks, .int (nI nc), .int (nI 0)])) lo = some (.inl (k 5, 100, .inl (fun i_ => nI (ml i_)))) := (mp_up_n (mp_ne hlo h0 (by simp))).trans hlo
                  have hkp_n : mp_up M mo (.inr (4, [.ref el, .ref ek, .int (nI ec), .ref bg, .ref sz, .ref kn, .int (nI tc), .ref rw, .int (nI wc), .ref pp, .ref pk, .ref wd, .ref lo, .int (nI sc), .ref kp, .ref ks, .int (nI nc), .int (nI 0)])) kp = some (.inl (k 1, 80000, .inr (.inl mk))) := (mp_up_n (mp_ne hkp h0 (by simp))).trans hkp
                  have hks_n : mp_up M mo (.inr (4, [.ref el, .ref ek, .int (nI ec), .ref bg, .ref sz, .ref kn, .int (nI tc), .ref rw, .int (nI wc), .ref pp, .ref pk, .ref wd, .ref lo, .int (nI sc), .ref kp, .ref ks, .int (nI nc), .int (nI 0)])) ks = some (.inl (k 0, 20, .inl (fun i_ => nI (nn i_)))) := (mp_up_n (mp_ne hks h0 (by simp))).trans hks
                  generalize eM_86 : mp_up M mo (.inr (4, [.ref el, .ref ek, .int (nI ec), .ref bg, .ref sz, .ref kn, .int (nI tc), .ref rw, .int (nI wc), .ref pp, .ref pk, .ref wd, .ref lo, .int (nI sc), .ref kp, .ref ks, .int (nI nc), .int (nI 0)])) = M_85 at I h0_n hel_n hek_n hbg_n hsz_n hkn_n hrw_n hpp_n hpk_n hwd_n hlo_n hkp_n hks_n
                  have h0__M_85 := h0_n
                  have hel__M_85 := hel_n
                  have hek__M_85 := hek_n
                  have hbg__M_85 := hbg_n
                  have hsz__M_85 := hsz_n
                  have hkn__M_85 := hkn_n
                  have hrw__M_85 := hrw_n
                  have hpp__M_85 := hpp_n
                  have hpk__M_85 := hpk_n
                  have hwd__M_85 := hwd_n
                  have hlo__M_85 := hlo_n
                  have hkp__M_85 := hkp_n
                  have hks__M_85 := hks_n
                  clear h0_n hel_n hek_n hbg_n hsz_n hkn_n hrw_n hpp_n hpk_n hwd_n hlo_n hkp_n hks_n
                  have hE := hE.cnt ec tc wc sc nc 0
                  rw [eM_86] at hE
                  refine lv_iload hx hb dM_act_133 (lv_at hl 0 rfl) ?_
                  refine zz_if_ne (tgt := 140) hx hb (nI_toInt (by decide)) dM_act_135 (by decide) (fun _ => ?_) (fun c_87 => absurd c_87 (by decide))
                  refine lv_aload_n hx hb dM_act_140 rfl (lv_at hl 2 rfl) ?_
                  refine lv_iload_n hx hb dM_act_141 rfl (lv_at hl 3 rfl) ?_
                  have hg : gact tc sc sk (nI xn).toInt act.toInt v w := by unfold gact; rw [hxi]; exact ⟨by omega, by omega, by unfold aok; omega, fun h => by first | exact p4 | (exfalso; omega), fun h => by first | exact p5 | (exfalso; omega)⟩
                  refine mp_calll (va_runV (As := [.int (nI xn)]) (rest := []) ⟨hx, hb, hml, hown, hts⟩ (kM_get l D k M_85 hE hO xn (by omega) _) (cwV 1 hts (bw_V bw_451 bw_453 bs_16 bw_2 bw_454) rfl rfl rfl (by decide +kernel) ⟨Nat.le_of_ble_eq_true rfl, Nat.le_of_ble_eq_true rfl⟩) (mp_preV I h0__M_85 rfl _) rfl rfl hl.1 rfl (lv_room (Nat.le_of_ble_eq_true rfl)) dM_act_142 ⟨Nat.le_of_ble_eq_true rfl, Nat.le_of_ble_eq_true rfl⟩) I (fun hd_ N1 H locs hp I => ?_)
                  obtain ⟨e_88, hp⟩ := hp
                  rw [e_88] at I
                  refine lv_lstore (lv' := [(9, .long hd_), (7, .int (nI 1)), (8, .int (nI (sk xn))), (0, .ref mo), (1, .int (nI xn)), (2, .int act), (3, .long v), (5, .long w)]) hx hb dM_act_145 hl (by decide) rfl (fun ls hl => ?_)
                  refine lv_iload_n hx hb dM_act_147 rfl (lv_at hl 5 rfl) ?_
                  have c_89 : act.toInt = 0 ∨ act.toInt = 1 ∨ act.toInt = 2 ∨ act.toInt = 3 ∨ act.toInt = 4 ∨ act.toInt = 5 ∨ act.toInt = 6 ∨ (act.toInt < 0 ∨ 6 < act.toInt) := by omega
                  rcases c_89 with c_89 | c_89 | c_89 | c_89 | c_89 | c_89 | c_89 | c_89
                  · refine lv_tableIn (off := 44) (tgt := 192) hx hb dM_act_148 (by rw [show act.toInt = act.toInt from rfl]; omega) (by rw [show act.toInt = act.toInt from rfl]; omega) (by rw [show act.toInt = act.toInt from rfl, c_89]; rfl) (by decide) ?_
                    refine lv_lload hx hb dM_act_192 (lv_at hl 0 rfl) ?_
                    exact mp_lret hx hb hr hlocks I (Nat.le_of_ble_eq_true rfl) (Nat.le_of_ble_eq_true rfl) dM_act_194 (Or.inl ⟨hg, by rw [hxi, ← hp]; unfold pm; rw [if_neg (show ¬ act.toInt = 1 by omega), if_neg (show ¬ act.toInt = 2 by omega), if_neg (show ¬ act.toInt = 3 by omega), if_neg (show ¬ act.toInt = 4 by omega), if_neg (show ¬ act.toInt = 5 by omega), if_neg (show ¬ act.toInt = 6 by omega), if_neg (show ¬ act.toInt = 7 by omega)]; exact ⟨rfl, hE⟩⟩)
                  · refine lv_tableIn (off := 47) (tgt := 195) hx hb dM_act_148 (by rw [show act.toInt = act.toInt from rfl]; omega) (by rw [show act.toInt = act.toInt from rfl]; omega) (by rw [show act.toInt = act.toInt from rfl, c_89]; rfl) (by decide) ?_
                    refine lv_aload_n hx hb dM_act_195 rfl (lv_at hl 3 rfl) ?_
                    refine lv_iload_n hx hb dM_act_196 rfl (lv_at hl 4 rfl) ?_
                    refine lv_lload_n hx hb dM_act_197 rfl (lv_at hl 6 rfl) ?_
                    have hget := hp
                    refine mp_callv (va_runV (As := [.int (nI xn), .long v]) (rest := []) ⟨hx, hb, hml, hown, hts⟩ (kM_set l D k M_85 hE hO xn (by omega) v _) (cwV 2 hts (bw_V bw_456 bw_458 bs_17 bw_2 bw_459) rfl rfl rfl (by decide +kernel) ⟨Nat.le_of_ble_eq_true rfl, Nat.le_of_ble_eq_true rfl⟩) (mp_preV I h0__M_85 rfl _) rfl rfl hl.1 rfl (lv_room (Nat.le_of_ble_eq_true rfl)) dM_act_198 ⟨Nat.le_of_ble_eq_true rfl, Nat.le_of_ble_eq_true rfl⟩) I (fun N1 H locs hp I => ?_)
                    have hE := hp
                    refine lv_lconst (v := 0) hx hb dM_act_201 (by decide) ?_
                    exact mp_lret hx hb hr hlocks I (Nat.le_of_ble_eq_true rfl) (Nat.le_of_ble_eq_true rfl) dM_act_202 (Or.inl ⟨hg, by rw [hxi, ← hget]; unfold pm; rw [if_pos (show act.toInt = 1 by omega)]; exact ⟨rfl, hE⟩⟩)
                  · refine lv_tableIn (off := 55) (tgt := 203) hx hb dM_act_148 (by rw [show act.toInt = act.toInt from rfl]; omega) (by rw [show act.toInt = act.toInt from rfl]; omega) (by rw [show act.toInt = act.toInt from rfl, c_89]; rfl) (by decide) ?_
                    refine lv_aload_n hx hb dM_act_203 rfl (lv_at hl 3 rfl) ?_
                    refine lv_iload_n hx hb dM_act_204 rfl (lv_at hl 4 rfl) ?_
                    refine lv_lload_n hx hb dM_act_205 rfl (lv_at hl 6 rfl) ?_
                    have hget := hp
                    refine mp_callv (va_runV (As := [.int (nI xn), .long v]) (rest := []) ⟨hx, hb, hml, hown, hts⟩ (kM_set l D k M_85 hE hO xn (by omega) v _) (cwV 2 hts (bw_V bw_456 bw_458 bs_17 bw_2 bw_459) rfl rfl rfl (by decide +kernel) ⟨Nat.le_of_ble_eq_true rfl, Nat.le_of_ble_eq_true rfl⟩) (mp_preV I h0__M_85 rfl _) rfl rfl hl.1 rfl (lv_room (Nat.le_of_ble_eq_true rfl)) dM_act_206 ⟨Nat.le_of_ble_eq_true rfl, Nat.le_of_ble_eq_true rfl⟩) I (fun N1 H locs hp I => ?_)
                    have hE := hp
                    refine lv_goto (tgt := 308) hx hb dM_act_209 (by decide) ?_
                    refine lv_lload hx hb dM_act_308 (lv_at hl 0 rfl) ?_
                    exact mp_lret hx hb hr hlocks I (Nat.le_of_ble_eq_true rfl) (Nat.le_of_ble_eq_true rfl) dM_act_310 (Or.inl ⟨hg, by rw [hxi, ← hget]; unfold pm; rw [if_neg (show ¬ act.toInt = 1 by omega), if_pos (show act.toInt = 2 by omega)]; exact ⟨rfl, hE⟩⟩)
                  · refine lv_tableIn (off := 64) (tgt := 212) hx hb dM_act_148 (by rw [show act.toInt = act.toInt from rfl]; omega) (by rw [show act.toInt = act.toInt from rfl]; omega) (by rw [show act.toInt = act.toInt from rfl, c_89]; rfl) (by decide) ?_
                    refine lv_lload hx hb dM_act_212 (lv_at hl 0 rfl) ?_
                    refine lv_lload_n hx hb dM_act_214 rfl (lv_at hl 6 rfl) ?_
                    have hget := hp
                    refine W.lcmp hx hb dM_act_215 ?_
                    refine lv_if_ne (tgt := 226) hx hb dM_act_216 (by decide) (fun c_92 => ?_) (fun c_92 => ?_)
                    all_goals rw [lg_cmp_eq] at c_92
                    · refine lv_lload hx hb dM_act_226 (lv_at hl 0 rfl) ?_
                      refine lv_lload_n hx hb dM_act_228 rfl (lv_at hl 6 rfl) ?_
                      refine W.lcmp hx hb dM_act_229 ?_
                      refine lv_if_ne (tgt := 237) hx hb dM_act_230 (by decide) (fun c_93 => ?_) (fun c_93 => ?_)
                      all_goals rw [lg_cmp_eq] at c_93
                      · refine lv_lconst (v := 0) hx hb dM_act_237 (by decide) ?_
                        exact mp_lret hx hb hr hlocks I (Nat.le_of_ble_eq_true rfl) (Nat.le_of_ble_eq_true rfl) dM_act_238 (Or.inl ⟨hg, by rw [hxi, ← hget]; unfold pm; rw [if_neg (show ¬ act.toInt = 1 by omega), if_neg (show ¬ act.toInt = 2 by omega), if_pos (show act.toInt = 3 by omega), if_neg c_92]; exact ⟨rfl, hE⟩⟩)
                      · exact absurd c_93 c_92
                    · refine lv_aload_n hx hb dM_act_219 rfl (lv_at hl 3 rfl) ?_
                      refine lv_iload_n hx hb dM_act_220 rfl (lv_at hl 4 rfl) ?_
                      refine lv_lload hx hb dM_act_221 (lv_at hl 7 rfl) ?_
                      refine mp_callv (va_runV (As := [.int (nI xn), .long w]) (rest := []) ⟨hx, hb, hml, hown, hts⟩ (kM_set l D k M_85 hE hO xn (by omega) w _) (cwV 2 hts (bw_V bw_456 bw_458 bs_17 bw_2 bw_459) rfl rfl rfl (by decide +kernel) ⟨Nat.le_of_ble_eq_true rfl, Nat.le_of_ble_eq_true rfl⟩) (mp_preV I h0__M_85 rfl _) rfl rfl hl.1 rfl (lv_room (Nat.le_of_ble_eq_true rfl)) dM_act_223 ⟨Nat.le_of_ble_eq_true rfl, Nat.le_of_ble_eq_true rfl⟩) I (fun N1 H locs hp I => ?_)
                      have hE := hp
                      refine lv_lload hx hb dM_act_226 (lv_at hl 0 rfl) ?_
                      refine lv_lload_n hx hb dM_act_228 rfl (lv_at hl 6 rfl) ?_
                      refine W.lcmp hx hb dM_act_229 ?_
                      refine lv_if_ne (tgt := 237) hx hb dM_act_230 (by decide) (fun c_95 => ?_) (fun c_95 => ?_)
                      all_goals rw [lg_cmp_eq] at c_95
                      · exact absurd c_92 c_95
                      · refine lv_lconst (v := 1) hx hb dM_act_233 (by decide) ?_
                        refine lv_goto (tgt := 238) hx hb dM_act_234 (by decide) ?_
                        exact mp_lret hx hb hr hlocks I (Nat.le_of_ble_eq_true rfl) (Nat.le_of_ble_eq_true rfl) dM_act_238 (Or.inl ⟨hg, by rw [hxi, ← hget]; unfold pm; rw [if_neg (show ¬ act.toInt = 1 by omega), if_neg (show ¬ act.toInt = 2 by omega), if_pos (show act.toInt = 3 by omega), if_pos c_92]; exact ⟨rfl, hE⟩⟩)
                  · refine lv_tableIn (off := 91) (tgt := 239) hx hb dM_act_148 (by rw [show act.toInt = act.toInt from rfl]; omega) (by rw [show act.toInt = act.toInt from rfl]; omega) (by rw [show act.toInt = act.toInt from rfl, c_89]; rfl) (by decide) ?_
                    refine lv_aload_n hx hb dM_act_239 rfl (lv_at hl 3 rfl) ?_
                    refine lv_iload_n hx hb dM_act_240 rfl (lv_at hl 4 rfl) ?_
                    refine lv_iload hx hb dM_act_241 (lv_at hl 2 rfl) ?_
                    refine lv_lload hx hb dM_act_243 (lv_at hl 0 rfl) ?_
                    refine lv_lload_n hx hb dM_act_245 rfl (lv_at hl 6 rfl) ?_
                    refine lv_ladd hx hb dM_act_246 ?_
                    have hget := hp
                    refine mp_calll (va_runS (As := [.int (nI (sk xn)), .long (hd_ + v)]) (rest := [.int (nI xn), .ref mo]) ⟨hx, hb, hml, hown, hts⟩ (kM_as l D k M_85 (sk xn) (hd_ + v) (by omega) _) (cwS 2 hts (bw_S bw_447 bw_448 bw_2 bw_449) rfl rfl rfl (by decide +kernel) ⟨Nat.le_of_ble_eq_true rfl, Nat.le_of_ble_eq_true rfl⟩) (mp_preS I _) rfl rfl hl.1 rfl (lv_room (Nat.le_of_ble_eq_true rfl)) dM_act_247 ⟨Nat.le_of_ble_eq_true rfl, Nat.le_of_ble_eq_true rfl⟩) I (fun r2 N1 H locs hp I => ?_)
                    obtain ⟨e_96, hp⟩ := hp
                    rw [e_96] at I
                    subst hp
                    refine mp_callv (va_runV (As := [.int (nI xn), .long (lb (sk xn) (hd_ + v))]) (rest := []) ⟨hx, hb, hml, hown, hts⟩ (kM_set l D k M_85 hE hO xn (by omega) (lb (sk xn) (hd_ + v)) _) (cwV 2 hts (bw_V bw_456 bw_458 bs_17 bw_2 bw_459) rfl rfl rfl (by decide +kernel) ⟨Nat.le_of_ble_eq_true rfl, Nat.le_of_ble_eq_true rfl⟩) (mp_preV I h0__M_85 rfl _) rfl rfl hl.1 rfl (lv_room (Nat.le_of_ble_eq_true rfl)) dM_act_250 ⟨Nat.le_of_ble_eq_true rfl, Nat.le_of_ble_eq_true rfl⟩) I (fun N1 H locs hp I => ?_)
                    have hE := hp
                    refine lv_goto (tgt := 308) hx hb dM_act_253 (by decide) ?_
                    refine lv_lload hx hb dM_act_308 (lv_at hl 0 rfl) ?_
                    exact mp_lret hx hb hr hlocks I (Nat.le_of_ble_eq_true rfl) (Nat.le_of_ble_eq_true rfl) dM_act_310 (Or.inl ⟨hg, by rw [hxi, ← hget]; unfold pm; rw [if_neg (show ¬ act.toInt = 1 by omega), if_neg (show ¬ act.toInt = 2 by omega), if_neg (show ¬ act.toInt = 3 by omega), if_pos (show act.toInt = 4 by omega)]; exact ⟨rfl, hE⟩⟩)
                  · refine lv_tableIn (off := 108) (tgt := 256) hx hb dM_act_148 (by rw [show act.toInt = act.toInt from rfl]; omega) (by rw [show act.toInt = act.toInt from rfl]; omega) (by rw [show act.toInt = act.toInt from rfl, c_89]; rfl) (by decide) ?_
                    refine lv_aload_n hx hb dM_act_256 rfl (lv_at hl 3 rfl) ?_
                    refine lv_iload_n hx hb dM_act_257 rfl (lv_at hl 4 rfl) ?_
                    refine lv_iload hx hb dM_act_258 (lv_at hl 2 rfl) ?_
                    refine lv_lload hx hb dM_act_260 (lv_at hl 0 rfl) ?_
                    refine lv_lload_n hx hb dM_act_262 rfl (lv_at hl 6 rfl) ?_
                    refine lv_land hx hb dM_act_263 ?_
                    have hget := hp
                    refine mp_calll (va_runS (As := [.int (nI (sk xn)), .long (hd_ &&& v)]) (rest := [.int (nI xn), .ref mo]) ⟨hx, hb, hml, hown, hts⟩ (kM_as l D k M_85 (sk xn) (hd_ &&& v) (by omega) _) (cwS 2 hts (bw_S bw_447 bw_448 bw_2 bw_449) rfl rfl rfl (by decide +kernel) ⟨Nat.le_of_ble_eq_true rfl, Nat.le_of_ble_eq_true rfl⟩) (mp_preS I _) rfl rfl hl.1 rfl (lv_room (Nat.le_of_ble_eq_true rfl)) dM_act_264 ⟨Nat.le_of_ble_eq_true rfl, Nat.le_of_ble_eq_true rfl⟩) I (fun r2 N1 H locs hp I => ?_)
                    obtain ⟨e_98, hp⟩ := hp
                    rw [e_98] at I
                    subst hp
                    refine mp_callv (va_runV (As := [.int (nI xn), .long (lb (sk xn) (hd_ &&& v))]) (rest := []) ⟨hx, hb, hml, hown, hts⟩ (kM_set l D k M_85 hE hO xn (by omega) (lb (sk xn) (hd_ &&& v)) _) (cwV 2 hts (bw_V bw_456 bw_458 bs_17 bw_2 bw_459) rfl rfl rfl (by decide +kernel) ⟨Nat.le_of_ble_eq_true rfl, Nat.le_of_ble_eq_true rfl⟩) (mp_preV I h0__M_85 rfl _) rfl rfl hl.1 rfl (lv_room (Nat.le_of_ble_eq_true rfl)) dM_act_267 ⟨Nat.le_of_ble_eq_true rfl, Nat.le_of_ble_eq_true rfl⟩) I (fun N1 H locs hp I => ?_)
                    have hE := hp
                    refine lv_goto (tgt := 308) hx hb dM_act_270 (by decide) ?_
                    refine lv_lload hx hb dM_act_308 (lv_at hl 0 rfl) ?_
                    exact mp_lret hx hb hr hlocks I (Nat.le_of_ble_eq_true rfl) (Nat.le_of_ble_eq_true rfl) dM_act_310 (Or.inl ⟨hg, by rw [hxi, ← hget]; unfold pm; rw [if_neg (show ¬ act.toInt = 1 by omega), if_neg (show ¬ act.toInt = 2 by omega), if_neg (show ¬ act.toInt = 3 by omega), if_neg (show ¬ act.toInt = 4 by omega), if_pos (show act.toInt = 5 by omega)]; exact ⟨rfl, hE⟩⟩)
                  · refine lv_tableIn (off := 125) (tgt := 273) hx hb dM_act_148 (by rw [show act.toInt = act.toInt from rfl]; omega) (by rw [show act.toInt = act.toInt from rfl]; omega) (by rw [show act.toInt = act.toInt from rfl, c_89]; rfl) (by decide) ?_
                    refine lv_aload_n hx hb dM_act_273 rfl (lv_at hl 3 rfl) ?_
                    refine lv_iload_n hx hb dM_act_274 rfl (lv_at hl 4 rfl) ?_
                    refine lv_iload hx hb dM_act_275 (lv_at hl 2 rfl) ?_
                    refine lv_lload hx hb dM_act_277 (lv_at hl 0 rfl) ?_
                    refine lv_lload_n hx hb dM_act_279 rfl (lv_at hl 6 rfl) ?_
                    refine lv_lor hx hb dM_act_280 ?_
                    have hget := hp
                    refine mp_calll (va_runS (As := [.int (nI (sk xn)), .long (hd_ ||| v)]) (rest := [.int (nI xn), .ref mo]) ⟨hx, hb, hml, hown, hts⟩ (kM_as l D k M_85 (sk xn) (hd_ ||| v) (by omega) _) (cwS 2 hts (bw_S bw_447 bw_448 bw_2 bw_449) rfl rfl rfl (by decide +kernel) ⟨Nat.le_of_ble_eq_true rfl, Nat.le_of_ble_eq_true rfl⟩) (mp_preS I _) rfl rfl hl.1 rfl (lv_room (Nat.le_of_ble_eq_true rfl)) dM_act_281 ⟨Nat.le_of_ble_eq_true rfl, Nat.le_of_ble_eq_true rfl⟩) I (fun r2 N1 H locs hp I => ?_)
                    obtain ⟨e_100, hp⟩ := hp
                    rw [e_100] at I
                    subst hp
                    refine mp_callv (va_runV (As := [.int (nI xn), .long (lb (sk xn) (hd_ ||| v))]) (rest := []) ⟨hx, hb, hml, hown, hts⟩ (kM_set l D k M_85 hE hO xn (by omega) (lb (sk xn) (hd_ ||| v)) _) (cwV 2 hts (bw_V bw_456 bw_458 bs_17 bw_2 bw_459) rfl rfl rfl (by decide +kernel) ⟨Nat.le_of_ble_eq_true rfl, Nat.le_of_ble_eq_true rfl⟩) (mp_preV I h0__M_85 rfl _) rfl rfl hl.1 rfl (lv_room (Nat.le_of_ble_eq_true rfl)) dM_act_284 ⟨Nat.le_of_ble_eq_true rfl, Nat.le_of_ble_eq_true rfl⟩) I (fun N1 H locs hp I => ?_)
                    have hE := hp
                    refine lv_goto (tgt := 308) hx hb dM_act_287 (by decide) ?_
                    refine lv_lload hx hb dM_act_308 (lv_at hl 0 rfl) ?_
                    exact mp_lret hx hb hr hlocks I (Nat.le_of_ble_eq_true rfl) (Nat.le_of_ble_eq_true rfl) dM_act_310 (Or.inl ⟨hg, by rw [hxi, ← hget]; unfold pm; rw [if_neg (show ¬ act.toInt = 1 by omega), if_neg (show ¬ act.toInt = 2 by omega), if_neg (show ¬ act.toInt = 3 by omega), if_neg (show ¬ act.toInt = 4 by omega), if_neg (show ¬ act.toInt = 5 by omega), if_pos (show act.toInt = 6 by omega)]; exact ⟨rfl, hE⟩⟩)
                  · refine lv_tableOut (tgt := 290) hx hb dM_act_148 (by rw [show act.toInt = act.toInt from rfl]; exact c_89) (by decide) ?_
                    refine lv_aload_n hx hb dM_act_290 rfl (lv_at hl 3 rfl) ?_
                    refine lv_iload_n hx hb dM_act_291 rfl (lv_at hl 4 rfl) ?_
                    refine lv_lload hx hb dM_act_292 (lv_at hl 0 rfl) ?_
                    refine lv_lload_n hx hb dM_act_294 rfl (lv_at hl 6 rfl) ?_
                    have hget := hp
                    refine W.lcmp hx hb dM_act_295 ?_
                    refine lv_if_le (tgt := 304) hx hb dM_act_296 (by decide) (fun c_102 => ?_) (fun c_102 => ?_)
                    all_goals rw [lg_cmp_le] at c_102
                    · refine lv_lload_n hx hb dM_act_304 rfl (lv_at hl 6 rfl) ?_
                      refine mp_callv (va_runV (As := [.int (nI xn), .long v]) (rest := []) ⟨hx, hb, hml, hown, hts⟩ (kM_set l D k M_85 hE hO xn (by omega) v _) (cwV 2 hts (bw_V bw_456 bw_458 bs_17 bw_2 bw_459) rfl rfl rfl (by decide +kernel) ⟨Nat.le_of_ble_eq_true rfl, Nat.le_of_ble_eq_true rfl⟩) (mp_preV I h0__M_85 rfl _) rfl rfl hl.1 rfl (lv_room (Nat.le_of_ble_eq_true rfl)) dM_act_305 ⟨Nat.le_of_ble_eq_true rfl, Nat.le_of_ble_eq_true rfl⟩) I (fun N1 H locs hp I => ?_)
                      have hE := hp
                      refine lv_lload hx hb dM_act_308 (lv_at hl 0 rfl) ?_
                      exact mp_lret hx hb hr hlocks I (Nat.le_of_ble_eq_true rfl) (Nat.le_of_ble_eq_true rfl) dM_act_310 (Or.inl ⟨hg, by rw [hxi, ← hget]; unfold pm; rw [if_neg (show ¬ act.toInt = 1 by omega), if_neg (show ¬ act.toInt = 2 by omega), if_neg (show ¬ act.toInt = 3 by omega), if_neg (show ¬ act.toInt = 4 by omega), if_neg (show ¬ act.toInt = 5 by omega), if_neg (show ¬ act.toInt = 6 by omega), if_pos (show act.toInt = 7 by unfold gact aok at hg; omega), if_neg (Int64.not_lt.mpr c_102)]; exact ⟨rfl, hE⟩⟩)
                    · refine lv_lload hx hb dM_act_299 (lv_at hl 0 rfl) ?_
                      refine lv_goto (tgt := 305) hx hb dM_act_301 (by decide) ?_
                      refine mp_callv (va_runV (As := [.int (nI xn), .long hd_]) (rest := []) ⟨hx, hb, hml, hown, hts⟩ (kM_set l D k M_85 hE hO xn (by omega) hd_ _) (cwV 2 hts (bw_V bw_456 bw_458 bs_17 bw_2 bw_459) rfl rfl rfl (by decide +kernel) ⟨Nat.le_of_ble_eq_true rfl, Nat.le_of_ble_eq_true rfl⟩) (mp_preV I h0__M_85 rfl _) rfl rfl hl.1 rfl (lv_room (Nat.le_of_ble_eq_true rfl)) dM_act_305 ⟨Nat.le_of_ble_eq_true rfl, Nat.le_of_ble_eq_true rfl⟩) I (fun N1 H locs hp I => ?_)
                      have hE := hp
                      refine lv_lload hx hb dM_act_308 (lv_at hl 0 rfl) ?_
                      exact mp_lret hx hb hr hlocks I (Nat.le_of_ble_eq_true rfl) (Nat.le_of_ble_eq_true rfl) dM_act_310 (Or.inl ⟨hg, by rw [hxi, ← hget]; unfold pm; rw [if_neg (show ¬ act.toInt = 1 by omega), if_neg (show ¬ act.toInt = 2 by omega), if_neg (show ¬ act.toInt = 3 by omega), if_neg (show ¬ act.toInt = 4 by omega), if_neg (show ¬ act.toInt = 5 by omega), if_neg (show ¬ act.toInt = 6 by omega), if_pos (show act.toInt = 7 by unfold gact aok at hg; omega), if_pos (Int64.not_le.mp c_102)]; exact ⟨rfl, hE⟩⟩)
                · refine lv_aload_n hx hb dM_act_101 rfl (lv_at hl 2 rfl) ?_
                  refine lv_iload hx hb dM_act_102 (lv_at hl 1 rfl) ?_
                  refine lv_lload hx hb dM_act_104 (lv_at hl 6 rfl) ?_
                  refine mp_calli (va_runV (As := [.int (nI (sk xn)), .long w]) (rest := []) ⟨hx, hb, hml, hown, hts⟩ (kM_isValue l D k M hE hO (sk xn) w (by omega) _) (cwV 2 hts (bw_V bw_443 bw_445 bs_15 bw_2 bw_446) rfl rfl rfl (by decide +kernel) ⟨Nat.le_of_ble_eq_true rfl, Nat.le_of_ble_eq_true rfl⟩) (mp_preV I h0 rfl _) rfl rfl hl.1 rfl (lv_room (Nat.le_of_ble_eq_true rfl)) dM_act_106 ⟨Nat.le_of_ble_eq_true rfl, Nat.le_of_ble_eq_true rfl⟩) I (fun r_105 N_106 H locs hp I => ?_)
                  obtain ⟨e_107, hp⟩ := hp
                  rw [e_107] at I
                  rcases hp with ⟨p5, rfl⟩ | ⟨p5, rfl⟩
                  · refine zz_if_eq (tgt := 116) hx hb (nI_toInt (by decide)) dM_act_109 (by decide) (fun c_108 => absurd c_108 (by decide)) (fun _ => ?_)
                    refine lv_iconst (v := nI 1) hx hb dM_act_112 (by decide) ?_
                    refine lv_goto (tgt := 117) hx hb dM_act_113 (by decide) ?_
                    refine lv_istore (lv' := [(7, .int (nI 1)), (8, .int (nI (sk xn))), (0, .ref mo), (1, .int (nI xn)), (2, .int act), (3, .long v), (5, .long w)]) hx hb dM_act_117 hl (by decide) rfl (fun ls hl => ?_)
                    refine lv_aload_n hx hb dM_act_119 rfl (lv_at hl 2 rfl) ?_
                    refine lv_iload hx hb dM_act_120 (lv_at hl 0 rfl) ?_
                    refine zz_if_eq (tgt := 129) hx hb (nI_toInt (by decide)) dM_act_122 (by decide) (fun c_109 => absurd c_109 (by decide)) (fun _ => ?_)
                    refine lv_iconst (v := nI 0) hx hb dM_act_125 (by decide) ?_
                    refine lv_goto (tgt := 130) hx hb dM_act_126 (by decide) ?_
                    refine mp_put (v := .int (nI 0)) (ty := .int) hx hb hts inM tyM okM nmM hown I h0 rfl 17 (by decide) (hts _ bw_348) (fun _ h9 => h9) rfl (by decide +kernel) rfl rfl (Nat.le_of_ble_eq_true rfl) dM_act_130 (fun H locs I => ?_)
                    have I : mp_I D cls5 (tys6 k) s _ s.heap H locs (mp_up M mo (.inr (4, [.ref el, .ref ek, .int (nI ec), .ref bg, .ref sz, .ref kn, .int (nI tc), .ref rw, .int (nI wc), .ref pp, .ref pk, .ref wd, .ref lo, .int (nI sc), .ref kp, .ref ks, .int (nI nc), .int (nI 0)]))) := I
                    have h0_n : mp_up M mo (.inr (4, [.ref el, .ref ek, .int (nI ec), .ref bg, .ref sz, .ref kn, .int (nI tc), .ref rw, .int (nI wc), .ref pp, .ref pk, .ref wd, .ref lo, .int (nI sc), .ref kp, .ref ks, .int (nI nc), .int (nI 0)])) mo = some (.inr (4, [.ref el, .ref ek, .int (nI ec), .ref bg, .ref sz, .ref kn, .int (nI tc), .ref rw, .int (nI wc), .ref pp, .ref pk, .ref wd, .ref lo, .int (nI sc), .ref kp, .ref ks, .int (nI nc), .int (nI 0)])) := mp_up_s _ _ _
                    have hel_n : mp_up M mo (.inr (4, [.ref el, .ref ek, .int (nI ec), .ref bg, .ref sz, .ref kn, .int (nI tc), .ref rw, .int (nI wc), .ref pp, .ref pk, .ref wd, .ref lo, .int (nI sc), .ref kp, .ref ks, .int (nI nc), .int (nI 0)])) el = some (.inl (k 1, 4000, .inr (.inl va))) := (mp_up_n (mp_ne hel h0 (by simp))).trans hel
                    have hek_n : mp_up M mo (.inr (4, [.ref el, .ref ek, .int (nI ec), .ref bg, .ref sz, .ref kn, .int (nI tc), .ref rw, .int (nI wc), .ref pp, .ref pk, .ref wd, .ref lo, .int (nI sc), .ref kp, .ref ks, .int (nI nc), .int (nI 0)])) ek = some (.inl (k 0, 4000, .inl (fun i_ => nI (kd i_)))) := (mp_up_n (mp_ne hek h0 (by simp))).trans hek
                    have hbg_n : mp_up M mo (.inr (4, [.ref el, .ref ek, .int (nI ec), .ref bg, .ref sz, .ref kn, .int (nI tc), .ref rw, .int (nI wc), .ref pp, .ref pk, .ref wd, .ref lo, .int (nI sc), .ref kp, .ref ks, .int (nI nc), .int (nI 0)])) bg = some (.inl (k 0, 300, .inl (fun i_ => nI (tf i_)))) := (mp_up_n (mp_ne hbg h0 (by simp))).trans hbg
                    have hsz_n : mp_up M mo (.inr (4, [.ref el, .ref ek, .int (nI ec), .ref bg, .ref sz, .ref kn, .int (nI tc), .ref rw, .int (nI wc), .ref pp, .ref pk, .ref wd, .ref lo, .int (nI sc), .ref kp, .ref ks, .int (nI nc), .int (nI 0)])) sz = some (.inl (k 0, 300, .inl (fun i_ => nI (tz i_)))) := (mp_up_n (mp_ne hsz h0 (by simp))).trans hsz
                    have hkn_n : mp_up M mo (.inr (4, [.ref el, .ref ek, .int (nI ec), .ref bg, .ref sz, .ref kn, .int (nI tc), .ref rw, .int (nI wc), .ref pp, .ref pk, .ref wd, .ref lo, .int (nI sc), .ref kp, .ref ks, .int (nI nc), .int (nI 0)])) kn = some (.inl (k 0, 300, .inl (fun i_ => nI (tk i_)))) := (mp_up_n (mp_ne hkn h0 (by simp))).trans hkn
                    have hrw_n : mp_up M mo (.inr (4, [.ref el, .ref ek, .int (nI ec), .ref bg, .ref sz, .ref kn, .int (nI tc), .ref rw, .int (nI wc), .ref pp, .ref pk, .ref wd, .ref lo, .int (nI sc), .ref kp, .ref ks, .int (nI nc), .int (nI 0)])) rw = some (.inl (k 0, 12, .inl (fun i_ => nI (wt i_)))) := (mp_up_n (mp_ne hrw h0 (by simp))).trans hrw
                    have hpp_n : mp_up M mo (.inr (4, [.ref el, .ref ek, .int (nI ec), .ref bg, .ref sz, .ref kn, .int (nI tc), .ref rw, .int (nI wc), .ref pp, .ref pk, .ref wd, .ref lo, .int (nI sc), .ref kp, .ref ks, .int (nI nc), .int (nI 0)])) pp = some (.inl (k 0, 100, .inl (fun i_ => nI (sf i_)))) := (mp_up_n (mp_ne hpp h0 (by simp))).trans hpp
                    have hpk_n : mp_up M mo (.inr (4, [.ref el, .ref ek, .int (nI ec), .ref bg, .ref sz, .ref kn, .int (nI tc), .ref rw, .int (nI wc), .ref pp, .ref pk, .ref wd, .ref lo, .int (nI sc), .ref kp, .ref ks, .int (nI nc), .int (nI 0)])) pk = some (.inl (k 0, 100, .inl (fun i_ => nI (sk i_)))) := (mp_up_n (mp_ne hpk h0 (by simp))).trans hpk
                    have hwd_n : mp_up M mo (.inr (4, [.ref el, .ref ek, .int (nI ec), .ref bg, .ref sz, .ref kn, .int (nI tc), .ref rw, .int (nI wc), .ref pp, .ref pk, .ref wd, .ref lo, .int (nI sc), .ref kp, .ref ks, .int (nI nc), .int (nI 0)])) wd = some (.inl (k 0, 100, .inl (fun i_ => nI (sw i_)))) := (mp_up_n (mp_ne hwd h0 (by simp))).trans hwd
                    have hlo_n : mp_up M mo (.inr (4, [.ref el, .ref ek, .int (nI ec), .ref bg, .ref sz, .ref kn, .int (nI tc), .ref rw, .int (nI wc), .ref pp, .ref pk, .ref wd, .ref lo, .int (nI sc), .ref kp, .ref ks, .int (nI nc), .int (nI 0)])) lo = some (.inl (k 5, 100, .inl (fun i_ => nI (ml i_)))) := (mp_up_n (mp_ne hlo h0 (by simp))).trans hlo
                    have hkp_n : mp_up M mo (.inr (4, [.ref el, .ref ek, .int (nI ec), .ref bg, .ref sz, .ref kn, .int (nI tc), .ref rw, .int (nI wc), .ref pp, .ref pk, .ref wd, .ref lo, .int (nI sc), .ref kp, .ref ks, .int (nI nc), .int (nI 0)])) kp = some (.inl (k 1, 80000, .inr (.inl mk))) := (mp_up_n (mp_ne hkp h0 (by simp))).trans hkp
                    have hks_n : mp_up M mo (.inr (4, [.ref el, .ref ek, .int (nI ec), .ref bg, .ref sz, .ref kn, .int (nI tc), .ref rw, .int (nI wc), .ref pp, .ref pk, .ref wd, .ref lo, .int (nI sc), .ref kp, .ref ks, .int (nI nc), .int (nI 0)])) ks = some (.inl (k 0, 20, .inl (fun i_ => nI (nn i_)))) := (mp_up_n (mp_ne hks h0 (by simp))).trans hks
                    generalize eM_111 : mp_up M mo (.inr (4, [.ref el, .ref ek, .int (nI ec), .ref bg, .ref sz, .ref kn, .int (nI tc), .ref rw, .int (nI wc), .ref pp, .ref pk, .ref wd, .ref lo, .int (nI sc), .ref kp, .ref ks, .int (nI nc), .int (nI 0)])) = M_110 at I h0_n hel_n hek_n hbg_n hsz_n hkn_n hrw_n hpp_n hpk_n hwd_n hlo_n hkp_n hks_n
                    have h0__M_110 := h0_n
                    have hel__M_110 := hel_n
                    have hek__M_110 := hek_n
                    have hbg__M_110 := hbg_n
                    have hsz__M_110 := hsz_n
                    have hkn__M_110 := hkn_n
                    have hrw__M_110 := hrw_n
                    have hpp__M_110 := hpp_n
                    have hpk__M_110 := hpk_n
                    have hwd__M_110 := hwd_n
                    have hlo__M_110 := hlo_n
                    have hkp__M_110 := hkp_n
                    have hks__M_110 := hks_n
                    clear h0_n hel_n hek_n hbg_n hsz_n hkn_n hrw_n hpp_n hpk_n hwd_n hlo_n hkp_n hks_n
                    have hE := hE.cnt ec tc wc sc nc 0
                    rw [eM_111] at hE
                    refine lv_iload hx hb dM_act_133 (lv_at hl 0 rfl) ?_
                    refine zz_if_ne (tgt := 140) hx hb (nI_toInt (by decide)) dM_act_135 (by decide) (fun _ => ?_) (fun c_112 => absurd c_112 (by decide))
                    refine lv_aload_n hx hb dM_act_140 rfl (lv_at hl 2 rfl) ?_
                    refine lv_iload_n hx hb dM_act_141 rfl (lv_at hl 3 rfl) ?_
                    have hg : gact tc sc sk (nI xn).toInt act.toInt v w := by unfold gact; rw [hxi]; exact ⟨by omega, by omega, by unfold aok; omega, fun h => by first | exact p4 | (exfalso; omega), fun h => by first | exact p5 | (exfalso; omega)⟩
                    refine mp_calll (va_runV (As := [.int (nI xn)]) (rest := []) ⟨hx, hb, hml, hown, hts⟩ (kM_get l D k M_110 hE hO xn (by omega) _) (cwV 1 hts (bw_V bw_451 bw_453 bs_16 bw_2 bw_454) rfl rfl rfl (by decide +kernel) ⟨Nat.le_of_ble_eq_true rfl, Nat.le_of_ble_eq_true rfl⟩) (mp_preV I h0__M_110 rfl _) rfl rfl hl.1 rfl (lv_room (Nat.le_of_ble_eq_true rfl)) dM_act_142 ⟨Nat.le_of_ble_eq_true rfl, Nat.le_of_ble_eq_true rfl⟩) I (fun hd_ N1 H locs hp I => ?_)
                    obtain ⟨e_113, hp⟩ := hp
                    rw [e_113] at I
                    refine lv_lstore (lv' := [(9, .long hd_), (7, .int (nI 1)), (8, .int (nI (sk xn))), (0, .ref mo), (1, .int (nI xn)), (2, .int act), (3, .long v), (5, .long w)]) hx hb dM_act_145 hl (by decide) rfl (fun ls hl => ?_)
                    refine lv_iload_n hx hb dM_act_147 rfl (lv_at hl 5 rfl) ?_
                    have c_114 : act.toInt = 0 ∨ act.toInt = 1 ∨ act.toInt = 2 ∨ act.toInt = 3 ∨ act.toInt = 4 ∨ act.toInt = 5 ∨ act.toInt = 6 ∨ (act.toInt < 0 ∨ 6 < act.toInt) := by omega
                    rcases c_114 with c_114 | c_114 | c_114 | c_114 | c_114 | c_114 | c_114 | c_114
                    · refine lv_tableIn (off := 44) (tgt := 192) hx hb dM_act_148 (by rw [show act.toInt = act.toInt from rfl]; omega) (by rw [show act.toInt = act.toInt from rfl]; omega) (by rw [show act.toInt = act.toInt from rfl, c_114]; rfl) (by decide) ?_
                      refine lv_lload hx hb dM_act_192 (lv_at hl 0 rfl) ?_
                      exact mp_lret hx hb hr hlocks I (Nat.le_of_ble_eq_true rfl) (Nat.le_of_ble_eq_true rfl) dM_act_194 (Or.inl ⟨hg, by rw [hxi, ← hp]; unfold pm; rw [if_neg (show ¬ act.toInt = 1 by omega), if_neg (show ¬ act.toInt = 2 by omega), if_neg (show ¬ act.toInt = 3 by omega), if_neg (show ¬ act.toInt = 4 by omega), if_neg (show ¬ act.toInt = 5 by omega), if_neg (show ¬ act.toInt = 6 by omega), if_neg (show ¬ act.toInt = 7 by omega)]; exact ⟨rfl, hE⟩⟩)
                    · refine lv_tableIn (off := 47) (tgt := 195) hx hb dM_act_148 (by rw [show act.toInt = act.toInt from rfl]; omega) (by rw [show act.toInt = act.toInt from rfl]; omega) (by rw [show act.toInt = act.toInt from rfl, c_114]; rfl) (by decide) ?_
                      refine lv_aload_n hx hb dM_act_195 rfl (lv_at hl 3 rfl) ?_
                      refine lv_iload_n hx hb dM_act_196 rfl (lv_at hl 4 rfl) ?_
                      refine lv_lload_n hx hb dM_act_197 rfl (lv_at hl 6 rfl) ?_
                      have hget := hp
                      refine mp_callv (va_runV (As := [.int (nI xn), .long v]) (rest := []) ⟨hx, hb, hml, hown, hts⟩ (kM_set l D k M_110 hE hO xn (by omega) v _) (cwV 2 hts (bw_V bw_456 bw_458 bs_17 bw_2 bw_459) rfl rfl rfl (by decide +kernel) ⟨Nat.le_of_ble_eq_true rfl, Nat.le_of_ble_eq_true rfl⟩) (mp_preV I h0__M_110 rfl _) rfl rfl hl.1 rfl (lv_room (Nat.le_of_ble_eq_true rfl)) dM_act_198 ⟨Nat.le_of_ble_eq_true rfl, Nat.le_of_ble_eq_true rfl⟩) I (fun N1 H locs hp I => ?_)
                      have hE := hp
                      refine lv_lconst (v := 0) hx hb dM_act_201 (by decide) ?_
                      exact mp_lret hx hb hr hlocks I (Nat.le_of_ble_eq_true rfl) (Nat.le_of_ble_eq_true rfl) dM_act_202 (Or.inl ⟨hg, by rw [hxi, ← hget]; unfold pm; rw [if_pos (show act.toInt = 1 by omega)]; exact ⟨rfl, hE⟩⟩)
                    · refine lv_tableIn (off := 55) (tgt := 203) hx hb dM_act_148 (by rw [show act.toInt = act.toInt from rfl]; omega) (by rw [show act.toInt = act.toInt from rfl]; omega) (by rw [show act.toInt = act.toInt from rfl, c_114]; rfl) (by decide) ?_
                      refine lv_aload_n hx hb dM_act_203 rfl (lv_at hl 3 rfl) ?_
                      refine lv_iload_n hx hb dM_act_204 rfl (lv_at hl 4 rfl) ?_
                      refine lv_lload_n hx hb dM_act_205 rfl (lv_at hl 6 rfl) ?_
                      have hget := hp
                      refine mp_callv (va_runV (As := [.int (nI xn), .long v]) (rest := []) ⟨hx, hb, hml, hown, hts⟩ (kM_set l D k M_110 hE hO xn (by omega) v _) (cwV 2 hts (bw_V bw_456 bw_458 bs_17 bw_2 bw_459) rfl rfl rfl (by decide +kernel) ⟨Nat.le_of_ble_eq_true rfl, Nat.le_of_ble_eq_true rfl⟩) (mp_preV I h0__M_110 rfl _) rfl rfl hl.1 rfl (lv_room (Nat.le_of_ble_eq_true rfl)) dM_act_206 ⟨Nat.le_of_ble_eq_true rfl, Nat.le_of_ble_eq_true rfl⟩) I (fun N1 H locs hp I => ?_)
                      have hE := hp
                      refine lv_goto (tgt := 308) hx hb dM_act_209 (by decide) ?_
                      refine lv_lload hx hb dM_act_308 (lv_at hl 0 rfl) ?_
                      exact mp_lret hx hb hr hlocks I (Nat.le_of_ble_eq_true rfl) (Nat.le_of_ble_eq_true rfl) dM_act_310 (Or.inl ⟨hg, by rw [hxi, ← hget]; unfold pm; rw [if_neg (show ¬ act.toInt = 1 by omega), if_pos (show act.toInt = 2 by omega)]; exact ⟨rfl, hE⟩⟩)
                    · refine lv_tableIn (off := 64) (tgt := 212) hx hb dM_act_148 (by rw [show act.toInt = act.toInt from rfl]; omega) (by rw [show act.toInt = act.toInt from rfl]; omega) (by rw [show act.toInt = act.toInt from rfl, c_114]; rfl) (by decide) ?_
                      refine lv_lload hx hb dM_act_212 (lv_at hl 0 rfl) ?_
                      refine lv_lload_n hx hb dM_act_214 rfl (lv_at hl 6 rfl) ?_
                      have hget := hp
                      refine W.lcmp hx hb dM_act_215 ?_
                      refine lv_if_ne (tgt := 226) hx hb dM_act_216 (by decide) (fun c_117 => ?_) (fun c_117 => ?_)
                      all_goals rw [lg_cmp_eq] at c_117
                      · refine lv_lload hx hb dM_act_226 (lv_at hl 0 rfl) ?_
                        refine lv_lload_n hx hb dM_act_228 rfl (lv_at hl 6 rfl) ?_
                        refine W.lcmp hx hb dM_act_229 ?_
                        refine lv_if_ne (tgt := 237) hx hb dM_act_230 (by decide) (fun c_118 => ?_) (fun c_118 => ?_)
                        all_goals rw [lg_cmp_eq] at c_118
                        · refine lv_lconst (v := 0) hx hb dM_act_237 (by decide) ?_
                          exact mp_lret hx hb hr hlocks I (Nat.le_of_ble_eq_true rfl) (Nat.le_of_ble_eq_true rfl) dM_act_238 (Or.inl ⟨hg, by rw [hxi, ← hget]; unfold pm; rw [if_neg (show ¬ act.toInt = 1 by omega), if_neg (show ¬ act.toInt = 2 by omega), if_pos (show act.toInt = 3 by omega), if_neg c_117]; exact ⟨rfl, hE⟩⟩)
                        · exact absurd c_118 c_117
                      · refine lv_aload_n hx hb dM_act_219 rfl (lv_at hl 3 rfl) ?_
                        refine lv_iload_n hx hb dM_act_220 rfl (lv_at hl 4 rfl) ?_
                        refine lv_lload hx hb dM_act_221 (lv_at hl 7 rfl) ?_
                        refine mp_callv (va_runV (As := [.int (nI xn), .long w]) (rest := []) ⟨hx, hb, hml, hown, hts⟩ (kM_set l D k M_110 hE hO xn (by omega) w _) (cwV 2 hts (bw_V bw_456 bw_458 bs_17 bw_2 bw_459) rfl rfl rfl (by decide +kernel) ⟨Nat.le_of_ble_eq_true rfl, Nat.le_of_ble_eq_true rfl⟩) (mp_preV I h0__M_110 rfl _) rfl rfl hl.1 rfl (lv_room (Nat.le_of_ble_eq_true rfl)) dM_act_223 ⟨Nat.le_of_ble_eq_true rfl, Nat.le_of_ble_eq_true rfl⟩) I (fun N1 H locs hp I => ?_)
                        have hE := hp
                        refine lv_lload hx hb dM_act_226 (lv_at hl 0 rfl) ?_
                        refine lv_lload_n hx hb dM_act_228 rfl (lv_at hl 6 rfl) ?_
                        refine W.lcmp hx hb dM_act_229 ?_
                        refine lv_if_ne (tgt := 237) hx hb dM_act_230 (by decide) (fun c_120 => ?_) (fun c_120 => ?_)
                        all_goals rw [lg_cmp_eq] at c_120
                        · exact absurd c_117 c_120
                        · refine lv_lconst (v := 1) hx hb dM_act_233 (by decide) ?_
                          refine lv_goto (tgt := 238) hx hb dM_act_234 (by decide) ?_
                          exact mp_lret hx hb hr hlocks I (Nat.le_of_ble_eq_true rfl) (Nat.le_of_ble_eq_true rfl) dM_act_238 (Or.inl ⟨hg, by rw [hxi, ← hget]; unfold pm; rw [if_neg (show ¬ act.toInt = 1 by omega), if_neg (show ¬ act.toInt = 2 by omega), if_pos (show act.toInt = 3 by omega), if_pos c_117]; exact ⟨rfl, hE⟩⟩)
                    · refine lv_tableIn (off := 91) (tgt := 239) hx hb dM_act_148 (by rw [show act.toInt = act.toInt from rfl]; omega) (by rw [show act.toInt = act.toInt from rfl]; omega) (by rw [show act.toInt = act.toInt from rfl, c_114]; rfl) (by decide) ?_
                      refine lv_aload_n hx hb dM_act_239 rfl (lv_at hl 3 rfl) ?_
                      refine lv_iload_n hx hb dM_act_240 rfl (lv_at hl 4 rfl) ?_
                      refine lv_iload hx hb dM_act_241 (lv_at hl 2 rfl) ?_
                      refine lv_lload hx hb dM_act_243 (lv_at hl 0 rfl) ?_
                      refine lv_lload_n hx hb dM_act_245 rfl (lv_at hl 6 rfl) ?_
                      refine lv_ladd hx hb dM_act_246 ?_
                      have hget := hp
                      refine mp_calll (va_runS (As := [.int (nI (sk xn)), .long (hd_ + v)]) (rest := [.int (nI xn), .ref mo]) ⟨hx, hb, hml, hown, hts⟩ (kM_as l D k M_110 (sk xn) (hd_ + v) (by omega) _) (cwS 2 hts (bw_S bw_447 bw_448 bw_2 bw_449) rfl rfl rfl (by decide +kernel) ⟨Nat.le_of_ble_eq_true rfl, Nat.le_of_ble_eq_true rfl⟩) (mp_preS I _) rfl rfl hl.1 rfl (lv_room (Nat.le_of_ble_eq_true rfl)) dM_act_247 ⟨Nat.le_of_ble_eq_true rfl, Nat.le_of_ble_eq_true rfl⟩) I (fun r2 N1 H locs hp I => ?_)
                      obtain ⟨e_121, hp⟩ := hp
                      rw [e_121] at I
                      subst hp
                      refine mp_callv (va_runV (As := [.int (nI xn), .long (lb (sk xn) (hd_ + v))]) (rest := []) ⟨hx, hb, hml, hown, hts⟩ (kM_set l D k M_110 hE hO xn (by omega) (lb (sk xn) (hd_ + v)) _) (cwV 2 hts (bw_V bw_456 bw_458 bs_17 bw_2 bw_459) rfl rfl rfl (by decide +kernel) ⟨Nat.le_of_ble_eq_true rfl, Nat.le_of_ble_eq_true rfl⟩) (mp_preV I h0__M_110 rfl _) rfl rfl hl.1 rfl (lv_room (Nat.le_of_ble_eq_true rfl)) dM_act_250 ⟨Nat.le_of_ble_eq_true rfl, Nat.le_of_ble_eq_true rfl⟩) I (fun N1 H locs hp I => ?_)
                      have hE := hp
                      refine lv_goto (tgt := 308) hx hb dM_act_253 (by decide) ?_
                      refine lv_lload hx hb dM_act_308 (lv_at hl 0 rfl) ?_
                      exact mp_lret hx hb hr hlocks I (Nat.le_of_ble_eq_true rfl) (Nat.le_of_ble_eq_true rfl) dM_act_310 (Or.inl ⟨hg, by rw [hxi, ← hget]; unfold pm; rw [if_neg (show ¬ act.toInt = 1 by omega), if_neg (show ¬ act.toInt = 2 by omega), if_neg (show ¬ act.toInt = 3 by omega), if_pos (show act.toInt = 4 by omega)]; exact ⟨rfl, hE⟩⟩)
                    · refine lv_tableIn (off := 108) (tgt := 256) hx hb dM_act_148 (by rw [show act.toInt = act.toInt from rfl]; omega) (by rw [show act.toInt = act.toInt from rfl]; omega) (by rw [show act.toInt = act.toInt from rfl, c_114]; rfl) (by decide) ?_
                      refine lv_aload_n hx hb dM_act_256 rfl (lv_at hl 3 rfl) ?_
                      refine lv_iload_n hx hb dM_act_257 rfl (lv_at hl 4 rfl) ?_
                      refine lv_iload hx hb dM_act_258 (lv_at hl 2 rfl) ?_
                      refine lv_lload hx hb dM_act_260 (lv_at hl 0 rfl) ?_
                      refine lv_lload_n hx hb dM_act_262 rfl (lv_at hl 6 rfl) ?_
                      refine lv_land hx hb dM_act_263 ?_
                      have hget := hp
                      refine mp_calll (va_runS (As := [.int (nI (sk xn)), .long (hd_ &&& v)]) (rest := [.int (nI xn), .ref mo]) ⟨hx, hb, hml, hown, hts⟩ (kM_as l D k M_110 (sk xn) (hd_ &&& v) (by omega) _) (cwS 2 hts (bw_S bw_447 bw_448 bw_2 bw_449) rfl rfl rfl (by decide +kernel) ⟨Nat.le_of_ble_eq_true rfl, Nat.le_of_ble_eq_true rfl⟩) (mp_preS I _) rfl rfl hl.1 rfl (lv_room (Nat.le_of_ble_eq_true rfl)) dM_act_264 ⟨Nat.le_of_ble_eq_true rfl, Nat.le_of_ble_eq_true rfl⟩) I (fun r2 N1 H locs hp I => ?_)
                      obtain ⟨e_123, hp⟩ := hp
                      rw [e_123] at I
                      subst hp
                      refine mp_callv (va_runV (As := [.int (nI xn), .long (lb (sk xn) (hd_ &&& v))]) (rest := []) ⟨hx, hb, hml, hown, hts⟩ (kM_set l D k M_110 hE hO xn (by omega) (lb (sk xn) (hd_ &&& v)) _) (cwV 2 hts (bw_V bw_456 bw_458 bs_17 bw_2 bw_459) rfl rfl rfl (by decide +kernel) ⟨Nat.le_of_ble_eq_true rfl, Nat.le_of_ble_eq_true rfl⟩) (mp_preV I h0__M_110 rfl _) rfl rfl hl.1 rfl (lv_room (Nat.le_of_ble_eq_true rfl)) dM_act_267 ⟨Nat.le_of_ble_eq_true rfl, Nat.le_of_ble_eq_true rfl⟩) I (fun N1 H locs hp I => ?_)
                      have hE := hp
                      refine lv_goto (tgt := 308) hx hb dM_act_270 (by decide) ?_
                      refine lv_lload hx hb dM_act_308 (lv_at hl 0 rfl) ?_
                      exact mp_lret hx hb hr hlocks I (Nat.le_of_ble_eq_true rfl) (Nat.le_of_ble_eq_true rfl) dM_act_310 (Or.inl ⟨hg, by rw [hxi, ← hget]; unfold pm; rw [if_neg (show ¬ act.toInt = 1 by omega), if_neg (show ¬ act.toInt = 2 by omega), if_neg (show ¬ act.toInt = 3 by omega), if_neg (show ¬ act.toInt = 4 by omega), if_pos (show act.toInt = 5 by omega)]; exact ⟨rfl, hE⟩⟩)
                    · refine lv_tableIn (off := 125) (tgt := 273) hx hb dM_act_148 (by rw [show act.toInt = act.toInt from rfl]; omega) (by rw [show act.toInt = act.toInt from rfl]; omega) (by rw [show act.toInt = act.toInt from rfl, c_114]; rfl) (by decide) ?_
                      refine lv_aload_n hx hb dM_act_273 rfl (lv_at hl 3 rfl) ?_
                      refine lv_iload_n hx hb dM_act_274 rfl (lv_at hl 4 rfl) ?_
                      refine lv_iload hx hb dM_act_275 (lv_at hl 2 rfl) ?_
                      refine lv_lload hx hb dM_act_277 (lv_at hl 0 rfl) ?_
                      refine lv_lload_n hx hb dM_act_279 rfl (lv_at hl 6 rfl) ?_
                      refine lv_lor hx hb dM_act_280 ?_
                      have hget := hp
                      refine mp_calll (va_runS (As := [.int (nI (sk xn)), .long (hd_ ||| v)]) (rest := [.int (nI xn), .ref mo]) ⟨hx, hb, hml, hown, hts⟩ (kM_as l D k M_110 (sk xn) (hd_ ||| v) (by omega) _) (cwS 2 hts (bw_S bw_447 bw_448 bw_2 bw_449) rfl rfl rfl (by decide +kernel) ⟨Nat.le_of_ble_eq_true rfl, Nat.le_of_ble_eq_true rfl⟩) (mp_preS I _) rfl rfl hl.1 rfl (lv_room (Nat.le_of_ble_eq_true rfl)) dM_act_281 ⟨Nat.le_of_ble_eq_true rfl, Nat.le_of_ble_eq_true rfl⟩) I (fun r2 N1 H locs hp I => ?_)
                      obtain ⟨e_125, hp⟩ := hp
                      rw [e_125] at I
                      subst hp
                      refine mp_callv (va_runV (As := [.int (nI xn), .long (lb (sk xn) (hd_ ||| v))]) (rest := []) ⟨hx, hb, hml, hown, hts⟩ (kM_set l D k M_110 hE hO xn (by omega) (lb (sk xn) (hd_ ||| v)) _) (cwV 2 hts (bw_V bw_456 bw_458 bs_17 bw_2 bw_459) rfl rfl rfl (by decide +kernel) ⟨Nat.le_of_ble_eq_true rfl, Nat.le_of_ble_eq_true rfl⟩) (mp_preV I h0__M_110 rfl _) rfl rfl hl.1 rfl (lv_room (Nat.le_of_ble_eq_true rfl)) dM_act_284 ⟨Nat.le_of_ble_eq_true rfl, Nat.le_of_ble_eq_true rfl⟩) I (fun N1 H locs hp I => ?_)
                      have hE := hp
                      refine lv_goto (tgt := 308) hx hb dM_act_287 (by decide) ?_
                      refine lv_lload hx hb dM_act_308 (lv_at hl 0 rfl) ?_
                      exact mp_lret hx hb hr hlocks I (Nat.le_of_ble_eq_true rfl) (Nat.le_of_ble_eq_true rfl) dM_act_310 (Or.inl ⟨hg, by rw [hxi, ← hget]; unfold pm; rw [if_neg (show ¬ act.toInt = 1 by omega), if_neg (show ¬ act.toInt = 2 by omega), if_neg (show ¬ act.toInt = 3 by omega), if_neg (show ¬ act.toInt = 4 by omega), if_neg (show ¬ act.toInt = 5 by omega), if_pos (show act.toInt = 6 by omega)]; exact ⟨rfl, hE⟩⟩)
                    · refine lv_tableOut (tgt := 290) hx hb dM_act_148 (by rw [show act.toInt = act.toInt from rfl]; exact c_114) (by decide) ?_
                      refine lv_aload_n hx hb dM_act_290 rfl (lv_at hl 3 rfl) ?_
                      refine lv_iload_n hx hb dM_act_291 rfl (lv_at hl 4 rfl) ?_
                      refine lv_lload hx hb dM_act_292 (lv_at hl 0 rfl) ?_
                      refine lv_lload_n hx hb dM_act_294 rfl (lv_at hl 6 rfl) ?_
                      have hget := hp
                      refine W.lcmp hx hb dM_act_295 ?_
                      refine lv_if_le (tgt := 304) hx hb dM_act_296 (by decide) (fun c_127 => ?_) (fun c_127 => ?_)
                      all_goals rw [lg_cmp_le] at c_127
                      · refine lv_lload_n hx hb dM_act_304 rfl (lv_at hl 6 rfl) ?_
                        refine mp_callv (va_runV (As := [.int (nI xn), .long v]) (rest := []) ⟨hx, hb, hml, hown, hts⟩ (kM_set l D k M_110 hE hO xn (by omega) v _) (cwV 2 hts (bw_V bw_456 bw_458 bs_17 bw_2 bw_459) rfl rfl rfl (by decide +kernel) ⟨Nat.le_of_ble_eq_true rfl, Nat.le_of_ble_eq_true rfl⟩) (mp_preV I h0__M_110 rfl _) rfl rfl hl.1 rfl (lv_room (Nat.le_of_ble_eq_true rfl)) dM_act_305 ⟨Nat.le_of_ble_eq_true rfl, Nat.le_of_ble_eq_true rfl⟩) I (fun N1 H locs hp I => ?_)
                        have hE := hp
                        refine lv_lload hx hb dM_act_308 (lv_at hl 0 rfl) ?_
                        exact mp_lret hx hb hr hlocks I (Nat.le_of_ble_eq_true rfl) (Nat.le_of_ble_eq_true rfl) dM_act_310 (Or.inl ⟨hg, by rw [hxi, ← hget]; unfold pm; rw [if_neg (show ¬ act.toInt = 1 by omega), if_neg (show ¬ act.toInt = 2 by omega), if_neg (show ¬ act.toInt = 3 by omega), if_neg (show ¬ act.toInt = 4 by omega), if_neg (show ¬ act.toInt = 5 by omega), if_neg (show ¬ act.toInt = 6 by omega), if_pos (show act.toInt = 7 by unfold gact aok at hg; omega), if_neg (Int64.not_lt.mpr c_127)]; exact ⟨rfl, hE⟩⟩)
                      · refine lv_lload hx hb dM_act_299 (lv_at hl 0 rfl) ?_
                        refine lv_goto (tgt := 305) hx hb dM_act_301 (by decide) ?_
                        refine mp_callv (va_runV (As := [.int (nI xn), .long hd_]) (rest := []) ⟨hx, hb, hml, hown, hts⟩ (kM_set l D k M_110 hE hO xn (by omega) hd_ _) (cwV 2 hts (bw_V bw_456 bw_458 bs_17 bw_2 bw_459) rfl rfl rfl (by decide +kernel) ⟨Nat.le_of_ble_eq_true rfl, Nat.le_of_ble_eq_true rfl⟩) (mp_preV I h0__M_110 rfl _) rfl rfl hl.1 rfl (lv_room (Nat.le_of_ble_eq_true rfl)) dM_act_305 ⟨Nat.le_of_ble_eq_true rfl, Nat.le_of_ble_eq_true rfl⟩) I (fun N1 H locs hp I => ?_)
                        have hE := hp
                        refine lv_lload hx hb dM_act_308 (lv_at hl 0 rfl) ?_
                        exact mp_lret hx hb hr hlocks I (Nat.le_of_ble_eq_true rfl) (Nat.le_of_ble_eq_true rfl) dM_act_310 (Or.inl ⟨hg, by rw [hxi, ← hget]; unfold pm; rw [if_neg (show ¬ act.toInt = 1 by omega), if_neg (show ¬ act.toInt = 2 by omega), if_neg (show ¬ act.toInt = 3 by omega), if_neg (show ¬ act.toInt = 4 by omega), if_neg (show ¬ act.toInt = 5 by omega), if_neg (show ¬ act.toInt = 6 by omega), if_pos (show act.toInt = 7 by unfold gact aok at hg; omega), if_pos (Int64.not_le.mp c_127)]; exact ⟨rfl, hE⟩⟩)
                  · refine zz_if_eq (tgt := 116) hx hb (nI_toInt (by decide)) dM_act_109 (by decide) (fun _ => ?_) (fun c_130 => absurd c_130 (by decide))
                    refine lv_iconst (v := nI 0) hx hb dM_act_116 (by decide) ?_
                    refine lv_istore (lv' := [(7, .int (nI 0)), (8, .int (nI (sk xn))), (0, .ref mo), (1, .int (nI xn)), (2, .int act), (3, .long v), (5, .long w)]) hx hb dM_act_117 hl (by decide) rfl (fun ls hl => ?_)
                    refine lv_aload_n hx hb dM_act_119 rfl (lv_at hl 2 rfl) ?_
                    refine lv_iload hx hb dM_act_120 (lv_at hl 0 rfl) ?_
                    refine zz_if_eq (tgt := 129) hx hb (nI_toInt (by decide)) dM_act_122 (by decide) (fun _ => ?_) (fun c_131 => absurd c_131 (by decide))
                    refine lv_iconst (v := nI 1) hx hb dM_act_129 (by decide) ?_
                    refine mp_put (v := .int (nI 1)) (ty := .int) hx hb hts inM tyM okM nmM hown I h0 rfl 17 (by decide) (hts _ bw_348) (fun _ h9 => h9) rfl (by decide +kernel) rfl rfl (Nat.le_of_ble_eq_true rfl) dM_act_130 (fun H locs I => ?_)
                    have I : mp_I D cls5 (tys6 k) s _ s.heap H locs (mp_up M mo (.inr (4, [.ref el, .ref ek, .int (nI ec), .ref bg, .ref sz, .ref kn, .int (nI tc), .ref rw, .int (nI wc), .ref pp, .ref pk, .ref wd, .ref lo, .int (nI sc), .ref kp, .ref ks, .int (nI nc), .int (nI 1)]))) := I
                    have h0_n : mp_up M mo (.inr (4, [.ref el, .ref ek, .int (nI ec), .ref bg, .ref sz, .ref kn, .int (nI tc), .ref rw, .int (nI wc), .ref pp, .ref pk, .ref wd, .ref lo, .int (nI sc), .ref kp, .ref ks, .int (nI nc), .int (nI 1)])) mo = some (.inr (4, [.ref el, .ref ek, .int (nI ec), .ref bg, .ref sz, .ref kn, .int (nI tc), .ref rw, .int (nI wc), .ref pp, .ref pk, .ref wd, .ref lo, .int (nI sc), .ref kp, .ref ks, .int (nI nc), .int (nI 1)])) := mp_up_s _ _ _
                    have hel_n : mp_up M mo (.inr (4, [.ref el, .ref ek, .int (nI ec), .ref bg, .ref sz, .ref kn, .int (nI tc), .ref rw, .int (nI wc), .ref pp, .ref pk, .ref wd, .ref lo, .int (nI sc), .ref kp, .ref ks, .int (nI nc), .int (nI 1)])) el = some (.inl (k 1, 4000, .inr (.inl va))) := (mp_up_n (mp_ne hel h0 (by simp))).trans hel
                    have hek_n : mp_up M mo (.inr (4, [.ref el, .ref ek, .int (nI ec), .ref bg, .ref sz, .ref kn, .int (nI tc), .ref rw, .int (nI wc), .ref pp, .ref pk, .ref wd, .ref lo, .int (nI sc), .ref kp, .ref ks, .int (nI nc), .int (nI 1)])) ek = some (.inl (k 0, 4000, .inl (fun i_ => nI (kd i_)))) := (mp_up_n (mp_ne hek h0 (by simp))).trans hek
                    have hbg_n : mp_up M mo (.inr (4, [.ref el, .ref ek, .int (nI ec), .ref bg, .ref sz, .ref kn, .int (nI tc), .ref rw, .int (nI wc), .ref pp, .ref pk, .ref wd, .ref lo, .int (nI sc), .ref kp, .ref ks, .int (nI nc), .int (nI 1)])) bg = some (.inl (k 0, 300, .inl (fun i_ => nI (tf i_)))) := (mp_up_n (mp_ne hbg h0 (by simp))).trans hbg
                    have hsz_n : mp_up M mo (.inr (4, [.ref el, .ref ek, .int (nI ec), .ref bg, .ref sz, .ref kn, .int (nI tc), .ref rw, .int (nI wc), .ref pp, .ref pk, .ref wd, .ref lo, .int (nI sc), .ref kp, .ref ks, .int (nI nc), .int (nI 1)])) sz = some (.inl (k 0, 300, .inl (fun i_ => nI (tz i_)))) := (mp_up_n (mp_ne hsz h0 (by simp))).trans hsz
                    have hkn_n : mp_up M mo (.inr (4, [.ref el, .ref ek, .int (nI ec), .ref bg, .ref sz, .ref kn, .int (nI tc), .ref rw, .int (nI wc), .ref pp, .ref pk, .ref wd, .ref lo, .int (nI sc), .ref kp, .ref ks, .int (nI nc), .int (nI 1)])) kn = some (.inl (k 0, 300, .inl (fun i_ => nI (tk i_)))) := (mp_up_n (mp_ne hkn h0 (by simp))).trans hkn
                    have hrw_n : mp_up M mo (.inr (4, [.ref el, .ref ek, .int (nI ec), .ref bg, .ref sz, .ref kn, .int (nI tc), .ref rw, .int (nI wc), .ref pp, .ref pk, .ref wd, .ref lo, .int (nI sc), .ref kp, .ref ks, .int (nI nc), .int (nI 1)])) rw = some (.inl (k 0, 12, .inl (fun i_ => nI (wt i_)))) := (mp_up_n (mp_ne hrw h0 (by simp))).trans hrw
                    have hpp_n : mp_up M mo (.inr (4, [.ref el, .ref ek, .int (nI ec), .ref bg, .ref sz, .ref kn, .int (nI tc), .ref rw, .int (nI wc), .ref pp, .ref pk, .ref wd, .ref lo, .int (nI sc), .ref kp, .ref ks, .int (nI nc), .int (nI 1)])) pp = some (.inl (k 0, 100, .inl (fun i_ => nI (sf i_)))) := (mp_up_n (mp_ne hpp h0 (by simp))).trans hpp
                    have hpk_n : mp_up M mo (.inr (4, [.ref el, .ref ek, .int (nI ec), .ref bg, .ref sz, .ref kn, .int (nI tc), .ref rw, .int (nI wc), .ref pp, .ref pk, .ref wd, .ref lo, .int (nI sc), .ref kp, .ref ks, .int (nI nc), .int (nI 1)])) pk = some (.inl (k 0, 100, .inl (fun i_ => nI (sk i_)))) := (mp_up_n (mp_ne hpk h0 (by simp))).trans hpk
                    have hwd_n : mp_up M mo (.inr (4, [.ref el, .ref ek, .int (nI ec), .ref bg, .ref sz, .ref kn, .int (nI tc), .ref rw, .int (nI wc), .ref pp, .ref pk, .ref wd, .ref lo, .int (nI sc), .ref kp, .ref ks, .int (nI nc), .int (nI 1)])) wd = some (.inl (k 0, 100, .inl (fun i_ => nI (sw i_)))) := (mp_up_n (mp_ne hwd h0 (by simp))).trans hwd
                    have hlo_n : mp_up M mo (.inr (4, [.ref el, .ref ek, .int (nI ec), .ref bg, .ref sz, .ref kn, .int (nI tc), .ref rw, .int (nI wc), .ref pp, .ref pk, .ref wd, .ref lo, .int (nI sc), .ref kp, .ref ks, .int (nI nc), .int (nI 1)])) lo = some (.inl (k 5, 100, .inl (fun i_ => nI (ml i_)))) := (mp_up_n (mp_ne hlo h0 (by simp))).trans hlo
                    have hkp_n : mp_up M mo (.inr (4, [.ref el, .ref ek, .int (nI ec), .ref bg, .ref sz, .ref kn, .int (nI tc), .ref rw, .int (nI wc), .ref pp, .ref pk, .ref wd, .ref lo, .int (nI sc), .ref kp, .ref ks, .int (nI nc), .int (nI 1)])) kp = some (.inl (k 1, 80000, .inr (.inl mk))) := (mp_up_n (mp_ne hkp h0 (by simp))).trans hkp
                    have hks_n : mp_up M mo (.inr (4, [.ref el, .ref ek, .int (nI ec), .ref bg, .ref sz, .ref kn, .int (nI tc), .ref rw, .int (nI wc), .ref pp, .ref pk, .ref wd, .ref lo, .int (nI sc), .ref kp, .ref ks, .int (nI nc), .int (nI 1)])) ks = some (.inl (k 0, 20, .inl (fun i_ => nI (nn i_)))) := (mp_up_n (mp_ne hks h0 (by simp))).trans hks
                    generalize eM_133 : mp_up M mo (.inr (4, [.ref el, .ref ek, .int (nI ec), .ref bg, .ref sz, .ref kn, .int (nI tc), .ref rw, .int (nI wc), .ref pp, .ref pk, .ref wd, .ref lo, .int (nI sc), .ref kp, .ref ks, .int (nI nc), .int (nI 1)])) = M_132 at I h0_n hel_n hek_n hbg_n hsz_n hkn_n hrw_n hpp_n hpk_n hwd_n hlo_n hkp_n hks_n
                    have h0__M_132 := h0_n
                    have hel__M_132 := hel_n
                    have hek__M_132 := hek_n
                    have hbg__M_132 := hbg_n
                    have hsz__M_132 := hsz_n
                    have hkn__M_132 := hkn_n
                    have hrw__M_132 := hrw_n
                    have hpp__M_132 := hpp_n
                    have hpk__M_132 := hpk_n
                    have hwd__M_132 := hwd_n
                    have hlo__M_132 := hlo_n
                    have hkp__M_132 := hkp_n
                    have hks__M_132 := hks_n
                    clear h0_n hel_n hek_n hbg_n hsz_n hkn_n hrw_n hpp_n hpk_n hwd_n hlo_n hkp_n hks_n
                    have hE := hE.cnt ec tc wc sc nc 1
                    rw [eM_133] at hE
                    refine lv_iload hx hb dM_act_133 (lv_at hl 0 rfl) ?_
                    refine zz_if_ne (tgt := 140) hx hb (nI_toInt (by decide)) dM_act_135 (by decide) (fun c_134 => absurd c_134 (by decide)) (fun _ => ?_)
                    refine lv_lconst (v := 0) hx hb dM_act_138 (by decide) ?_
                    exact mp_lret hx hb hr hlocks I (Nat.le_of_ble_eq_true rfl) (Nat.le_of_ble_eq_true rfl) dM_act_139 (Or.inr ⟨by intro hg; obtain ⟨g1, g2, g3, g4, g5⟩ := hg; rw [hxi] at g3 g4 g5; unfold aok at g3; first | omega | exact p4 (g4 (by omega)) | exact p5 (g5 (by omega)), rfl, hE⟩)
              · refine zz_if_eq (tgt := 116) hx hb (nI_toInt (by decide)) dM_act_93 (by decide) (fun _ => ?_) (fun c_135 => absurd c_135 (by decide))
                refine lv_iconst (v := nI 0) hx hb dM_act_116 (by decide) ?_
                refine lv_istore (lv' := [(7, .int (nI 0)), (8, .int (nI (sk xn))), (0, .ref mo), (1, .int (nI xn)), (2, .int act), (3, .long v), (5, .long w)]) hx hb dM_act_117 hl (by decide) rfl (fun ls hl => ?_)
                refine lv_aload_n hx hb dM_act_119 rfl (lv_at hl 2 rfl) ?_
                refine lv_iload hx hb dM_act_120 (lv_at hl 0 rfl) ?_
                refine zz_if_eq (tgt := 129) hx hb (nI_toInt (by decide)) dM_act_122 (by decide) (fun _ => ?_) (fun c_136 => absurd c_136 (by decide))
                refine lv_iconst (v := nI 1) hx hb dM_act_129 (by decide) ?_
                refine mp_put (v := .int (nI 1)) (ty := .int) hx hb hts inM tyM okM nmM hown I h0 rfl 17 (by decide) (hts _ bw_348) (fun _ h9 => h9) rfl (by decide +kernel) rfl rfl (Nat.le_of_ble_eq_true rfl) dM_act_130 (fun H locs I => ?_)
                have I : mp_I D cls5 (tys6 k) s _ s.heap H locs (mp_up M mo (.inr (4, [.ref el, .ref ek, .int (nI ec), .ref bg, .ref sz, .ref kn, .int (nI tc), .ref rw, .int (nI wc), .ref pp, .ref pk, .ref wd, .ref lo, .int (nI sc), .ref kp, .ref ks, .int (nI nc), .int (nI 1)]))) := I
                have h0_n : mp_up M mo (.inr (4, [.ref el, .ref ek, .int (nI ec), .ref bg, .ref sz, .ref kn, .int (nI tc), .ref rw, .int (nI wc), .ref pp, .ref pk, .ref wd, .ref lo, .int (nI sc), .ref kp, .ref ks, .int (nI nc), .int (nI 1)])) mo = some (.inr (4, [.ref el, .ref ek, .int (nI ec), .ref bg, .ref sz, .ref kn, .int (nI tc), .ref rw, .int (nI wc), .ref pp, .ref pk, .ref wd, .ref lo, .int (nI sc), .ref kp, .ref ks, .int (nI nc), .int (nI 1)])) := mp_up_s _ _ _
                have hel_n : mp_up M mo (.inr (4, [.ref el, .ref ek, .int (nI ec), .ref bg, .ref sz, .ref kn, .int (nI tc), .ref rw, .int (nI wc), .ref pp, .ref pk, .ref wd, .ref lo, .int (nI sc), .ref kp, .ref ks, .int (nI nc), .int (nI 1)])) el = some (.inl (k 1, 4000, .inr (.inl va))) := (mp_up_n (mp_ne hel h0 (by simp))).trans hel
                have hek_n : mp_up M mo (.inr (4, [.ref el, .ref ek, .int (nI ec), .ref bg, .ref sz, .ref kn, .int (nI tc), .ref rw, .int (nI wc), .ref pp, .ref pk, .ref wd, .ref lo, .int (nI sc), .ref kp, .ref ks, .int (nI nc), .int (nI 1)])) ek = some (.inl (k 0, 4000, .inl (fun i_ => nI (kd i_)))) := (mp_up_n (mp_ne hek h0 (by simp))).trans hek
                have hbg_n : mp_up M mo (.inr (4, [.ref el, .ref ek, .int (nI ec), .ref bg, .ref sz, .ref kn, .int (nI tc), .ref rw, .int (nI wc), .ref pp, .ref pk, .ref wd, .ref lo, .int (nI sc), .ref kp, .ref ks, .int (nI nc), .int (nI 1)])) bg = some (.inl (k 0, 300, .inl (fun i_ => nI (tf i_)))) := (mp_up_n (mp_ne hbg h0 (by simp))).trans hbg
                have hsz_n : mp_up M mo (.inr (4, [.ref el, .ref ek, .int (nI ec), .ref bg, .ref sz, .ref kn, .int (nI tc), .ref rw, .int (nI wc), .ref pp, .ref pk, .ref wd, .ref lo, .int (nI sc), .ref kp, .ref ks, .int (nI nc), .int (nI 1)])) sz = some (.inl (k 0, 300, .inl (fun i_ => nI (tz i_)))) := (mp_up_n (mp_ne hsz h0 (by simp))).trans hsz
                have hkn_n : mp_up M mo (.inr (4, [.ref el, .ref ek, .int (nI ec), .ref bg, .ref sz, .ref kn, .int (nI tc), .ref rw, .int (nI wc), .ref pp, .ref pk, .ref wd, .ref lo, .int (nI sc), .ref kp, .ref ks, .int (nI nc), .int (nI 1)])) kn = some (.inl (k 0, 300, .inl (fun i_ => nI (tk i_)))) := (mp_up_n (mp_ne hkn h0 (by simp))).trans hkn
                have hrw_n : mp_up M mo (.inr (4, [.ref el, .ref ek, .int (nI ec), .ref bg, .ref sz, .ref kn, .int (nI tc), .ref rw, .int (nI wc), .ref pp, .ref pk, .ref wd, .ref lo, .int (nI sc), .ref kp, .ref ks, .int (nI nc), .int (nI 1)])) rw = some (.inl (k 0, 12, .inl (fun i_ => nI (wt i_)))) := (mp_up_n (mp_ne hrw h0 (by simp))).trans hrw
                have hpp_n : mp_up M mo (.inr (4, [.ref el, .ref ek, .int (nI ec), .ref bg, .ref sz, .ref kn, .int (nI tc), .ref rw, .int (nI wc), .ref pp, .ref pk, .ref wd, .ref lo, .int (nI sc), .ref kp, .ref ks, .int (nI nc), .int (nI 1)])) pp = some (.inl (k 0, 100, .inl (fun i_ => nI (sf i_)))) := (mp_up_n (mp_ne hpp h0 (by simp))).trans hpp
                have hpk_n : mp_up M mo (.inr (4, [.ref el, .ref ek, .int (nI ec), .ref bg, .ref sz, .ref kn, .int (nI tc), .ref rw, .int (nI wc), .ref pp, .ref pk, .ref wd, .ref lo, .int (nI sc), .ref kp, .ref ks, .int (nI nc), .int (nI 1)])) pk = some (.inl (k 0, 100, .inl (fun i_ => nI (sk i_)))) := (mp_up_n (mp_ne hpk h0 (by simp))).trans hpk
                have hwd_n : mp_up M mo (.inr (4, [.ref el, .ref ek, .int (nI ec), .ref bg, .ref sz, .ref kn, .int (nI tc), .ref rw, .int (nI wc), .ref pp, .ref pk, .ref wd, .ref lo, .int (nI sc), .ref kp, .ref ks, .int (nI nc), .int (nI 1)])) wd = some (.inl (k 0, 100, .inl (fun i_ => nI (sw i_)))) := (mp_up_n (mp_ne hwd h0 (by simp))).trans hwd
                have hlo_n : mp_up M mo (.inr (4, [.ref el, .ref ek, .int (nI ec), .ref bg, .ref sz, .ref kn, .int (nI tc), .ref rw, .int (nI wc), .ref pp, .ref pk, .ref wd, .ref lo, .int (nI sc), .ref kp, .ref ks, .int (nI nc), .int (nI 1)])) lo = some (.inl (k 5, 100, .inl (fun i_ => nI (ml i_)))) := (mp_up_n (mp_ne hlo h0 (by simp))).trans hlo
                have hkp_n : mp_up M mo (.inr (4, [.ref el, .ref ek, .int (nI ec), .ref bg, .ref sz, .ref kn, .int (nI tc), .ref rw, .int (nI wc), .ref pp, .ref pk, .ref wd, .ref lo, .int (nI sc), .ref kp, .ref ks, .int (nI nc), .int (nI 1)])) kp = some (.inl (k 1, 80000, .inr (.inl mk))) := (mp_up_n (mp_ne hkp h0 (by simp))).trans hkp
                have hks_n : mp_up M mo (.inr (4, [.ref el, .ref ek, .int (nI ec), .ref bg, .ref sz, .ref kn, .int (nI tc), .ref rw, .int (nI wc), .ref pp, .ref pk, .ref wd, .ref lo, .int (nI sc), .ref kp, .ref ks, .int (nI nc), .int (nI 1)])) ks = some (.inl (k 0, 20, .inl (fun i_ => nI (nn i_)))) := (mp_up_n (mp_ne hks h0 (by simp))).trans hks
                generalize eM_138 : mp_up M mo (.inr (4, [.ref el, .ref ek, .int (nI ec), .ref bg, .ref sz, .ref kn, .int (nI tc), .ref rw, .int (nI wc), .ref pp, .ref pk, .ref wd, .ref lo, .int (nI sc), .ref kp, .ref ks, .int (nI nc), .int (nI 1)])) = M_137 at I h0_n hel_n hek_n hbg_n hsz_n hkn_n hrw_n hpp_n hpk_n hwd_n hlo_n hkp_n hks_n
                have h0__M_137 := h0_n
                have hel__M_137 := hel_n
                have hek__M_137 := hek_n
                have hbg__M_137 := hbg_n
                have hsz__M_137 := hsz_n
                have hkn__M_137 := hkn_n
                have hrw__M_137 := hrw_n
                have hpp__M_137 := hpp_n
                have hpk__M_137 := hpk_n
                have hwd__M_137 := hwd_n
                have hlo__M_137 := hlo_n
                have hkp__M_137 := hkp_n
                have hks__M_137 := hks_n
                clear h0_n hel_n hek_n hbg_n hsz_n hkn_n hrw_n hpp_n hpk_n hwd_n hlo_n hkp_n hks_n
                have hE := hE.cnt ec tc wc sc nc 1
                rw [eM_138] at hE
                refine lv_iload hx hb dM_act_133 (lv_at hl 0 rfl) ?_
                refine zz_if_ne (tgt := 140) hx hb (nI_toInt (by decide)) dM_act_135 (by decide) (fun c_139 => absurd c_139 (by decide)) (fun _ => ?_)
                refine lv_lconst (v := 0) hx hb dM_act_138 (by decide) ?_
                exact mp_lret hx hb hr hlocks I (Nat.le_of_ble_eq_true rfl) (Nat.le_of_ble_eq_true rfl) dM_act_139 (Or.inr ⟨by intro hg; obtain ⟨g1, g2, g3, g4, g5⟩ := hg; rw [hxi] at g3 g4 g5; unfold aok at g3; first | omega | exact p4 (g4 (by omega)) | exact p5 (g5 (by omega)), rfl, hE⟩)
          · refine lv_iload hx hb dM_act_63 (lv_at hl 0 rfl) ?_
            refine lv_bipush (v := nI 7) hx hb dM_act_65 (by decide) ?_
            refine zz_icmp_eq (tgt := 74) hx hb (nI_toInt (by first | assumption | omega)) (nI_toInt (by decide)) dM_act_67 (by decide) (fun c_140 => ?_) (fun c_140 => ?_)
            · refine lv_iconst (v := nI 0) hx hb dM_act_74 (by decide) ?_
              refine lv_istore (lv' := [(7, .int (nI 0)), (8, .int (nI (sk xn))), (0, .ref mo), (1, .int (nI xn)), (2, .int act), (3, .long v), (5, .long w)]) hx hb dM_act_75 hl (by decide) rfl (fun ls hl => ?_)
              refine lv_iload hx hb dM_act_77 (lv_at hl 0 rfl) ?_
              refine zz_if_eq (tgt := 116) hx hb (nI_toInt (by decide)) dM_act_79 (by decide) (fun _ => ?_) (fun c_141 => absurd c_141 (by decide))
              refine lv_iconst (v := nI 0) hx hb dM_act_116 (by decide) ?_
              refine lv_istore (lv' := [(7, .int (nI 0)), (8, .int (nI (sk xn))), (0, .ref mo), (1, .int (nI xn)), (2, .int act), (3, .long v), (5, .long w)]) hx hb dM_act_117 hl (by decide) rfl (fun ls hl => ?_)
              refine lv_aload_n hx hb dM_act_119 rfl (lv_at hl 2 rfl) ?_
              refine lv_iload hx hb dM_act_120 (lv_at hl 0 rfl) ?_
              refine zz_if_eq (tgt := 129) hx hb (nI_toInt (by decide)) dM_act_122 (by decide) (fun _ => ?_) (fun c_142 => absurd c_142 (by decide))
              refine lv_iconst (v := nI 1) hx hb dM_act_129 (by decide) ?_
              refine mp_put (v := .int (nI 1)) (ty := .int) hx hb hts inM tyM okM nmM hown I h0 rfl 17 (by decide) (hts _ bw_348) (fun _ h9 => h9) rfl (by decide +kernel) rfl rfl (Nat.le_of_ble_eq_true rfl) dM_act_130 (fun H locs I => ?_)
              have I : mp_I D cls5 (tys6 k) s _ s.heap H locs (mp_up M mo (.inr (4, [.ref el, .ref ek, .int (nI ec), .ref bg, .ref sz, .ref kn, .int (nI tc), .ref rw, .int (nI wc), .ref pp, .ref pk, .ref wd, .ref lo, .int (nI sc), .ref kp, .ref ks, .int (nI nc), .int (nI 1)]))) := I
              have h0_n : mp_up M mo (.inr (4, [.ref el, .ref ek, .int (nI ec), .ref bg, .ref sz, .ref kn, .int (nI tc), .ref rw, .int (nI wc), .ref pp, .ref pk, .ref wd, .ref lo, .int (nI sc), .ref kp, .ref ks, .int (nI nc), .int (nI 1)])) mo = some (.inr (4, [.ref el, .ref ek, .int (nI ec), .ref bg, .ref sz, .ref kn, .int (nI tc), .ref rw, .int (nI wc), .ref pp, .ref pk, .ref wd, .ref lo, .int (nI sc), .ref kp, .ref ks, .int (nI nc), .int (nI 1)])) := mp_up_s _ _ _
              have hel_n : mp_up M mo (.inr (4, [.ref el, .ref ek, .int (nI ec), .ref bg, .ref sz, .ref kn, .int (nI tc), .ref rw, .int (nI wc), .ref pp, .ref pk, .ref wd, .ref lo, .int (nI sc), .ref kp, .ref ks, .int (nI nc), .int (nI 1)])) el = some (.inl (k 1, 4000, .inr (.inl va))) := (mp_up_n (mp_ne hel h0 (by simp))).trans hel
              have hek_n : mp_up M mo (.inr (4, [.ref el, .ref ek, .int (nI ec), .ref bg, .ref sz, .ref kn, .int (nI tc), .ref rw, .int (nI wc), .ref pp, .ref pk, .ref wd, .ref lo, .int (nI sc), .ref kp, .ref ks, .int (nI nc), .int (nI 1)])) ek = some (.inl (k 0, 4000, .inl (fun i_ => nI (kd i_)))) := (mp_up_n (mp_ne hek h0 (by simp))).trans hek
              have hbg_n : mp_up M mo (.inr (4, [.ref el, .ref ek, .int (nI ec), .ref bg, .ref sz, .ref kn, .int (nI tc), .ref rw, .int (nI wc), .ref pp, .ref pk, .ref wd, .ref lo, .int (nI sc), .ref kp, .ref ks, .int (nI nc), .int (nI 1)])) bg = some (.inl (k 0, 300, .inl (fun i_ => nI (tf i_)))) := (mp_up_n (mp_ne hbg h0 (by simp))).trans hbg
              have hsz_n : mp_up M mo (.inr (4, [.ref el, .ref ek, .int (nI ec), .ref bg, .ref sz, .ref kn, .int (nI tc), .ref rw, .int (nI wc), .ref pp, .ref pk, .ref wd, .ref lo, .int (nI sc), .ref kp, .ref ks, .int (nI nc), .int (nI 1)])) sz = some (.inl (k 0, 300, .inl (fun i_ => nI (tz i_)))) := (mp_up_n (mp_ne hsz h0 (by simp))).trans hsz
              have hkn_n : mp_up M mo (.inr (4, [.ref el, .ref ek, .int (nI ec), .ref bg, .ref sz, .ref kn, .int (nI tc), .ref rw, .int (nI wc), .ref pp, .ref pk, .ref wd, .ref lo, .int (nI sc), .ref kp, .ref ks, .int (nI nc), .int (nI 1)])) kn = some (.inl (k 0, 300, .inl (fun i_ => nI (tk i_)))) := (mp_up_n (mp_ne hkn h0 (by simp))).trans hkn
              have hrw_n : mp_up M mo (.inr (4, [.ref el, .ref ek, .int (nI ec), .ref bg, .ref sz, .ref kn, .int (nI tc), .ref rw, .int (nI wc), .ref pp, .ref pk, .ref wd, .ref lo, .int (nI sc), .ref kp, .ref ks, .int (nI nc), .int (nI 1)])) rw = some (.inl (k 0, 12, .inl (fun i_ => nI (wt i_)))) := (mp_up_n (mp_ne hrw h0 (by simp))).trans hrw
              have hpp_n : mp_up M mo (.inr (4, [.ref el, .ref ek, .int (nI ec), .ref bg, .ref sz, .ref kn, .int (nI tc), .ref rw, .int (nI wc), .ref pp, .ref pk, .ref wd, .ref lo, .int (nI sc), .ref kp, .ref ks, .int (nI nc), .int (nI 1)])) pp = some (.inl (k 0, 100, .inl (fun i_ => nI (sf i_)))) := (mp_up_n (mp_ne hpp h0 (by simp))).trans hpp
              have hpk_n : mp_up M mo (.inr (4, [.ref el, .ref ek, .int (nI ec), .ref bg, .ref sz, .ref kn, .int (nI tc), .ref rw, .int (nI wc), .ref pp, .ref pk, .ref wd, .ref lo, .int (nI sc), .ref kp, .ref ks, .int (nI nc), .int (nI 1)])) pk = some (.inl (k 0, 100, .inl (fun i_ => nI (sk i_)))) := (mp_up_n (mp_ne hpk h0 (by simp))).trans hpk
              have hwd_n : mp_up M mo (.inr (4, [.ref el, .ref ek, .int (nI ec), .ref bg, .ref sz, .ref kn, .int (nI tc), .ref rw, .int (nI wc), .ref pp, .ref pk, .ref wd, .ref lo, .int (nI sc), .ref kp, .ref ks, .int (nI nc), .int (nI 1)])) wd = some (.inl (k 0, 100, .inl (fun i_ => nI (sw i_)))) := (mp_up_n (mp_ne hwd h0 (by simp))).trans hwd
              have hlo_n : mp_up M mo (.inr (4, [.ref el, .ref ek, .int (nI ec), .ref bg, .ref sz, .ref kn, .int (nI tc), .ref rw, .int (nI wc), .ref pp, .ref pk, .ref wd, .ref lo, .int (nI sc), .ref kp, .ref ks, .int (nI nc), .int (nI 1)])) lo = some (.inl (k 5, 100, .inl (fun i_ => nI (ml i_)))) := (mp_up_n (mp_ne hlo h0 (by simp))).trans hlo
              have hkp_n : mp_up M mo (.inr (4, [.ref el, .ref ek, .int (nI ec), .ref bg, .ref sz, .ref kn, .int (nI tc), .ref rw, .int (nI wc), .ref pp, .ref pk, .ref wd, .ref lo, .int (nI sc), .ref kp, .ref ks, .int (nI nc), .int (nI 1)])) kp = some (.inl (k 1, 80000, .inr (.inl mk))) := (mp_up_n (mp_ne hkp h0 (by simp))).trans hkp
              have hks_n : mp_up M mo (.inr (4, [.ref el, .ref ek, .int (nI ec), .ref bg, .ref sz, .ref kn, .int (nI tc), .ref rw, .int (nI wc), .ref pp, .ref pk, .ref wd, .ref lo, .int (nI sc), .ref kp, .ref ks, .int (nI nc), .int (nI 1)])) ks = some (.inl (k 0, 20, .inl (fun i_ => nI (nn i_)))) := (mp_up_n (mp_ne hks h0 (by simp))).trans hks
              generalize eM_144 : mp_up M mo (.inr (4, [.ref el, .ref ek, .int (nI ec), .ref bg, .ref sz, .ref kn, .int (nI tc), .ref rw, .int (nI wc), .ref pp, .ref pk, .ref wd, .ref lo, .int (nI sc), .ref kp, .ref ks, .int (nI nc), .int (nI 1)])) = M_143 at I h0_n hel_n hek_n hbg_n hsz_n hkn_n hrw_n hpp_n hpk_n hwd_n hlo_n hkp_n hks_n
              have h0__M_143 := h0_n
              have hel__M_143 := hel_n
              have hek__M_143 := hek_n
              have hbg__M_143 := hbg_n
              have hsz__M_143 := hsz_n
              have hkn__M_143 := hkn_n
              have hrw__M_143 := hrw_n
              have hpp__M_143 := hpp_n
              have hpk__M_143 := hpk_n
              have hwd__M_143 := hwd_n
              have hlo__M_143 := hlo_n
              have hkp__M_143 := hkp_n
              have hks__M_143 := hks_n
              clear h0_n hel_n hek_n hbg_n hsz_n hkn_n hrw_n hpp_n hpk_n hwd_n hlo_n hkp_n hks_n
              have hE := hE.cnt ec tc wc sc nc 1
              rw [eM_144] at hE
              refine lv_iload hx hb dM_act_133 (lv_at hl 0 rfl) ?_
              refine zz_if_ne (tgt := 140) hx hb (nI_toInt (by decide)) dM_act_135 (by decide) (fun c_145 => absurd c_145 (by decide)) (fun _ => ?_)
              refine lv_lconst (v := 0) hx hb dM_act_138 (by decide) ?_
              exact mp_lret hx hb hr hlocks I (Nat.le_of_ble_eq_true rfl) (Nat.le_of_ble_eq_true rfl) dM_act_139 (Or.inr ⟨by intro hg; obtain ⟨g1, g2, g3, g4, g5⟩ := hg; rw [hxi] at g3 g4 g5; unfold aok at g3; first | omega | exact p4 (g4 (by omega)) | exact p5 (g5 (by omega)), rfl, hE⟩)
            · refine lv_iconst (v := nI 1) hx hb dM_act_70 (by decide) ?_
              refine lv_goto (tgt := 75) hx hb dM_act_71 (by decide) ?_
              refine lv_istore (lv' := [(7, .int (nI 1)), (8, .int (nI (sk xn))), (0, .ref mo), (1, .int (nI xn)), (2, .int act), (3, .long v), (5, .long w)]) hx hb dM_act_75 hl (by decide) rfl (fun ls hl => ?_)
              refine lv_iload hx hb dM_act_77 (lv_at hl 0 rfl) ?_
              refine zz_if_eq (tgt := 116) hx hb (nI_toInt (by decide)) dM_act_79 (by decide) (fun c_146 => absurd c_146 (by decide)) (fun _ => ?_)
              refine lv_iload_n hx hb dM_act_82 rfl (lv_at hl 4 rfl) ?_
              refine zz_if_eq (tgt := 96) hx hb rfl dM_act_83 (by decide) (fun c_147 => ?_) (fun c_147 => ?_)
              · refine lv_iload_n hx hb dM_act_96 rfl (lv_at hl 4 rfl) ?_
                refine lv_iconst (v := nI 3) hx hb dM_act_97 (by decide) ?_
                refine zz_icmp_ne (tgt := 112) hx hb rfl (nI_toInt (by decide)) dM_act_98 (by decide) (fun c_148 => ?_) (fun c_148 => ?_)
                · refine lv_iconst (v := nI 1) hx hb dM_act_112 (by decide) ?_
                  refine lv_goto (tgt := 117) hx hb dM_act_113 (by decide) ?_
                  refine lv_istore (lv' := [(7, .int (nI 1)), (8, .int (nI (sk xn))), (0, .ref mo), (1, .int (nI xn)), (2, .int act), (3, .long v), (5, .long w)]) hx hb dM_act_117 hl (by decide) rfl (fun ls hl => ?_)
                  refine lv_aload_n hx hb dM_act_119 rfl (lv_at hl 2 rfl) ?_
                  refine lv_iload hx hb dM_act_120 (lv_at hl 0 rfl) ?_
                  refine zz_if_eq (tgt := 129) hx hb (nI_toInt (by decide)) dM_act_122 (by decide) (fun c_149 => absurd c_149 (by decide)) (fun _ => ?_)
                  refine lv_iconst (v := nI 0) hx hb dM_act_125 (by decide) ?_
                  refine lv_goto (tgt := 130) hx hb dM_act_126 (by decide) ?_
                  refine mp_put (v := .int (nI 0)) (ty := .int) hx hb hts inM tyM okM nmM hown I h0 rfl 17 (by decide) (hts _ bw_348) (fun _ h9 => h9) rfl (by decide +kernel) rfl rfl (Nat.le_of_ble_eq_true rfl) dM_act_130 (fun H locs I => ?_)
                  have I : mp_I D cls5 (tys6 k) s _ s.heap H locs (mp_up M mo (.inr (4, [.ref el, .ref ek, .int (nI ec), .ref bg, .ref sz, .ref kn, .int (nI tc), .ref rw, .int (nI wc), .ref pp, .ref pk, .ref wd, .ref lo, .int (nI sc), .ref kp, .ref ks, .int (nI nc), .int (nI 0)]))) := I
                  have h0_n : mp_up M mo (.inr (4, [.ref el, .ref ek, .int (nI ec), .ref bg, .ref sz, .ref kn, .int (nI tc), .ref rw, .int (nI wc), .ref pp, .ref pk, .ref wd, .ref lo, .int (nI sc), .ref kp, .ref ks, .int (nI nc), .int (nI 0)])) mo = some (.inr (4, [.ref el, .ref ek, .int (nI ec), .ref bg, .ref sz, .ref kn, .int (nI tc), .ref rw, .int (nI wc), .ref pp, .ref pk, .ref wd, .ref lo, .int (nI sc), .ref kp, .ref ks, .int (nI nc), .int (nI 0)])) := mp_up_s _ _ _
                  have hel_n : mp_up M mo (.inr (4, [.ref el, .ref ek, .int (nI ec), .ref bg, .ref sz, .ref kn, .int (nI tc), .ref rw, .int (nI wc), .ref pp, .ref pk, .ref wd, .ref lo, .int (nI sc), .ref kp, .ref ks, .int (nI nc), .int (nI 0)])) el = some (.inl (k 1, 4000, .inr (.inl va))) := (mp_up_n (mp_ne hel h0 (by simp))).trans hel
                  have hek_n : mp_up M mo (.inr (4, [.ref el, .ref ek, .int (nI ec), .ref bg, .ref sz, .ref kn, .int (nI tc), .ref rw, .int (nI wc), .ref pp, .ref pk, .ref wd, .ref lo, .int (nI sc), .ref kp, .ref ks, .int (nI nc), .int (nI 0)])) ek = some (.inl (k 0, 4000, .inl (fun i_ => nI (kd i_)))) := (mp_up_n (mp_ne hek h0 (by simp))).trans hek
                  have hbg_n : mp_up M mo (.inr (4, [.ref el, .ref ek, .int (nI ec), .ref bg, .ref sz, .ref kn, .int (nI tc), .ref rw, .int (nI wc), .ref pp, .ref pk, .ref wd, .ref lo, .int (nI sc), .ref kp, .ref ks, .int (nI nc), .int (nI 0)])) bg = some (.inl (k 0, 300, .inl (fun i_ => nI (tf i_)))) := (mp_up_n (mp_ne hbg h0 (by simp))).trans hbg
                  have hsz_n : mp_up M mo (.inr (4, [.ref el, .ref ek, .int (nI ec), .ref bg, .ref sz, .ref kn, .int (nI tc), .ref rw, .int (nI wc), .ref pp, .ref pk, .ref wd, .ref lo, .int (nI sc), .ref kp, .ref ks, .int (nI nc), .int (nI 0)])) sz = some (.inl (k 0, 300, .inl (fun i_ => nI (tz i_)))) := (mp_up_n (mp_ne hsz h0 (by simp))).trans hsz
                  have hkn_n : mp_up M mo (.inr (4, [.ref el, .ref ek, .int (nI ec), .ref bg, .ref sz, .ref kn, .int (nI tc), .ref rw, .int (nI wc), .ref pp, .ref pk, .ref wd, .ref lo, .int (nI sc), .ref kp, .ref ks, .int (nI nc), .int (nI 0)])) kn = some (.inl (k 0, 300, .inl (fun i_ => nI (tk i_)))) := (mp_up_n (mp_ne hkn h0 (by simp))).trans hkn
                  have hrw_n : mp_up M mo (.inr (4, [.ref el, .ref ek, .int (nI ec), .ref bg, .ref sz, .ref kn, .int (nI tc), .ref rw, .int (nI wc), .ref pp, .ref pk, .ref wd, .ref lo, .int (nI sc), .ref kp, .ref ks, .int (nI nc), .int (nI 0)])) rw = some (.inl (k 0, 12, .inl (fun i_ => nI (wt i_)))) := (mp_up_n (mp_ne hrw h0 (by simp))).trans hrw
                  have hpp_n : mp_up M mo (.inr (4, [.ref el, .ref ek, .int (nI ec), .ref bg, .ref sz, .ref kn, .int (nI tc), .ref rw, .int (nI wc), .ref pp, .ref pk, .ref wd, .ref lo, .int (nI sc), .ref kp, .ref ks, .int (nI nc), .int (nI 0)])) pp = some (.inl (k 0, 100, .inl (fun i_ => nI (sf i_)))) := (mp_up_n (mp_ne hpp h0 (by simp))).trans hpp
                  have hpk_n : mp_up M mo (.inr (4, [.ref el, .ref ek, .int (nI ec), .ref bg, .ref sz, .ref kn, .int (nI tc), .ref rw, .int (nI wc), .ref pp, .ref pk, .ref wd, .ref lo, .int (nI sc), .ref kp, .ref ks, .int (nI nc), .int (nI 0)])) pk = some (.inl (k 0, 100, .inl (fun i_ => nI (sk i_)))) := (mp_up_n (mp_ne hpk h0 (by simp))).trans hpk
                  have hwd_n : mp_up M mo (.inr (4, [.ref el, .ref ek, .int (nI ec), .ref bg, .ref sz, .ref kn, .int (nI tc), .ref rw, .int (nI wc), .ref pp, .ref pk, .ref wd, .ref lo, .int (nI sc), .ref kp, .ref ks, .int (nI nc), .int (nI 0)])) wd = some (.inl (k 0, 100, .inl (fun i_ => nI (sw i_)))) := (mp_up_n (mp_ne hwd h0 (by simp))).trans hwd
                  have hlo_n : mp_up M mo (.inr (4, [.ref el, .ref ek, .int (nI ec), .ref bg, .ref sz, .ref kn, .int (nI tc), .ref rw, .int (nI wc), .ref pp, .ref pk, .ref wd, .ref lo, .int (nI sc), .ref kp, .ref ks, .int (nI nc), .int (nI 0)])) lo = some (.inl (k 5, 100, .inl (fun i_ => nI (ml i_)))) := (mp_up_n (mp_ne hlo h0 (by simp))).trans hlo
                  have hkp_n : mp_up M mo (.inr (4, [.ref el, .ref ek, .int (nI ec), .ref bg, .ref sz, .ref kn, .int (nI tc), .ref rw, .int (nI wc), .ref pp, .ref pk, .ref wd, .ref lo, .int (nI sc), .ref kp, .ref ks, .int (nI nc), .int (nI 0)])) kp = some (.inl (k 1, 80000, .inr (.inl mk))) := (mp_up_n (mp_ne hkp h0 (by simp))).trans hkp
                  have hks_n : mp_up M mo (.inr (4, [.ref el, .ref ek, .int (nI ec), .ref bg, .ref sz, .ref kn, .int (nI tc), .ref rw, .int (nI wc), .ref pp, .ref pk, .ref wd, .ref lo, .int (nI sc), .ref kp, .ref ks, .int (nI nc), .int (nI 0)])) ks = some (.inl (k 0, 20, .inl (fun i_ => nI (nn i_)))) := (mp_up_n (mp_ne hks h0 (by simp))).trans hks
                  generalize eM_151 : mp_up M mo (.inr (4, [.ref el, .ref ek, .int (nI ec), .ref bg, .ref sz, .ref kn, .int (nI tc), .ref rw, .int (nI wc), .ref pp, .ref pk, .ref wd, .ref lo, .int (nI sc), .ref kp, .ref ks, .int (nI nc), .int (nI 0)])) = M_150 at I h0_n hel_n hek_n hbg_n hsz_n hkn_n hrw_n hpp_n hpk_n hwd_n hlo_n hkp_n hks_n
                  have h0__M_150 := h0_n
                  have hel__M_150 := hel_n
                  have hek__M_150 := hek_n
                  have hbg__M_150 := hbg_n
                  have hsz__M_150 := hsz_n
                  have hkn__M_150 := hkn_n
                  have hrw__M_150 := hrw_n
                  have hpp__M_150 := hpp_n
                  have hpk__M_150 := hpk_n
                  have hwd__M_150 := hwd_n
                  have hlo__M_150 := hlo_n
                  have hkp__M_150 := hkp_n
                  have hks__M_150 := hks_n
                  clear h0_n hel_n hek_n hbg_n hsz_n hkn_n hrw_n hpp_n hpk_n hwd_n hlo_n hkp_n hks_n
                  have hE := hE.cnt ec tc wc sc nc 0
                  rw [eM_151] at hE
                  refine lv_iload hx hb dM_act_133 (lv_at hl 0 rfl) ?_
                  refine zz_if_ne (tgt := 140) hx hb (nI_toInt (by decide)) dM_act_135 (by decide) (fun _ => ?_) (fun c_152 => absurd c_152 (by decide))
                  refine lv_aload_n hx hb dM_act_140 rfl (lv_at hl 2 rfl) ?_
                  refine lv_iload_n hx hb dM_act_141 rfl (lv_at hl 3 rfl) ?_
                  have hg : gact tc sc sk (nI xn).toInt act.toInt v w := by unfold gact; rw [hxi]; exact ⟨by omega, by omega, by unfold aok; omega, fun h => by first | exact p4 | (exfalso; omega), fun h => by first | exact p5 | (exfalso; omega)⟩
                  refine mp_calll (va_runV (As := [.int (nI xn)]) (rest := []) ⟨hx, hb, hml, hown, hts⟩ (kM_get l D k M_150 hE hO xn (by omega) _) (cwV 1 hts (bw_V bw_451 bw_453 bs_16 bw_2 bw_454) rfl rfl rfl (by decide +kernel) ⟨Nat.le_of_ble_eq_true rfl, Nat.le_of_ble_eq_true rfl⟩) (mp_preV I h0__M_150 rfl _) rfl rfl hl.1 rfl (lv_room (Nat.le_of_ble_eq_true rfl)) dM_act_142 ⟨Nat.le_of_ble_eq_true rfl, Nat.le_of_ble_eq_true rfl⟩) I (fun hd_ N1 H locs hp I => ?_)
                  obtain ⟨e_153, hp⟩ := hp
                  rw [e_153] at I
                  refine lv_lstore (lv' := [(9, .long hd_), (7, .int (nI 1)), (8, .int (nI (sk xn))), (0, .ref mo), (1, .int (nI xn)), (2, .int act), (3, .long v), (5, .long w)]) hx hb dM_act_145 hl (by decide) rfl (fun ls hl => ?_)
                  refine lv_iload_n hx hb dM_act_147 rfl (lv_at hl 5 rfl) ?_
                  have c_154 : act.toInt = 0 ∨ act.toInt = 1 ∨ act.toInt = 2 ∨ act.toInt = 3 ∨ act.toInt = 4 ∨ act.toInt = 5 ∨ act.toInt = 6 ∨ (act.toInt < 0 ∨ 6 < act.toInt) := by omega
                  rcases c_154 with c_154 | c_154 | c_154 | c_154 | c_154 | c_154 | c_154 | c_154
                  · refine lv_tableIn (off := 44) (tgt := 192) hx hb dM_act_148 (by rw [show act.toInt = act.toInt from rfl]; omega) (by rw [show act.toInt = act.toInt from rfl]; omega) (by rw [show act.toInt = act.toInt from rfl, c_154]; rfl) (by decide) ?_
                    refine lv_lload hx hb dM_act_192 (lv_at hl 0 rfl) ?_
                    exact mp_lret hx hb hr hlocks I (Nat.le_of_ble_eq_true rfl) (Nat.le_of_ble_eq_true rfl) dM_act_194 (Or.inl ⟨hg, by rw [hxi, ← hp]; unfold pm; rw [if_neg (show ¬ act.toInt = 1 by omega), if_neg (show ¬ act.toInt = 2 by omega), if_neg (show ¬ act.toInt = 3 by omega), if_neg (show ¬ act.toInt = 4 by omega), if_neg (show ¬ act.toInt = 5 by omega), if_neg (show ¬ act.toInt = 6 by omega), if_neg (show ¬ act.toInt = 7 by omega)]; exact ⟨rfl, hE⟩⟩)
                  · refine lv_tableIn (off := 47) (tgt := 195) hx hb dM_act_148 (by rw [show act.toInt = act.toInt from rfl]; omega) (by rw [show act.toInt = act.toInt from rfl]; omega) (by rw [show act.toInt = act.toInt from rfl, c_154]; rfl) (by decide) ?_
                    refine lv_aload_n hx hb dM_act_195 rfl (lv_at hl 3 rfl) ?_
                    refine lv_iload_n hx hb dM_act_196 rfl (lv_at hl 4 rfl) ?_
                    refine lv_lload_n hx hb dM_act_197 rfl (lv_at hl 6 rfl) ?_
                    have hget := hp
                    refine mp_callv (va_runV (As := [.int (nI xn), .long v]) (rest := []) ⟨hx, hb, hml, hown, hts⟩ (kM_set l D k M_150 hE hO xn (by omega) v _) (cwV 2 hts (bw_V bw_456 bw_458 bs_17 bw_2 bw_459) rfl rfl rfl (by decide +kernel) ⟨Nat.le_of_ble_eq_true rfl, Nat.le_of_ble_eq_true rfl⟩) (mp_preV I h0__M_150 rfl _) rfl rfl hl.1 rfl (lv_room (Nat.le_of_ble_eq_true rfl)) dM_act_198 ⟨Nat.le_of_ble_eq_true rfl, Nat.le_of_ble_eq_true rfl⟩) I (fun N1 H locs hp I => ?_)
                    have hE := hp
                    refine lv_lconst (v := 0) hx hb dM_act_201 (by decide) ?_
                    exact mp_lret hx hb hr hlocks I (Nat.le_of_ble_eq_true rfl) (Nat.le_of_ble_eq_true rfl) dM_act_202 (Or.inl ⟨hg, by rw [hxi, ← hget]; unfold pm; rw [if_pos (show act.toInt = 1 by omega)]; exact ⟨rfl, hE⟩⟩)
                  · refine lv_tableIn (off := 55) (tgt := 203) hx hb dM_act_148 (by rw [show act.toInt = act.toInt from rfl]; omega) (by rw [show act.toInt = act.toInt from rfl]; omega) (by rw [show act.toInt = act.toInt from rfl, c_154]; rfl) (by decide) ?_
                    refine lv_aload_n hx hb dM_act_203 rfl (lv_at hl 3 rfl) ?_
                    refine lv_iload_n hx hb dM_act_204 rfl (lv_at hl 4 rfl) ?_
                    refine lv_lload_n hx hb dM_act_205 rfl (lv_at hl 6 rfl) ?_
                    have hget := hp
                    refine mp_callv (va_runV (As := [.int (nI xn), .long v]) (rest := []) ⟨hx, hb, hml, hown, hts⟩ (kM_set l D k M_150 hE hO xn (by omega) v _) (cwV 2 hts (bw_V bw_456 bw_458 bs_17 bw_2 bw_459) rfl rfl rfl (by decide +kernel) ⟨Nat.le_of_ble_eq_true rfl, Nat.le_of_ble_eq_true rfl⟩) (mp_preV I h0__M_150 rfl _) rfl rfl hl.1 rfl (lv_room (Nat.le_of_ble_eq_true rfl)) dM_act_206 ⟨Nat.le_of_ble_eq_true rfl, Nat.le_of_ble_eq_true rfl⟩) I (fun N1 H locs hp I => ?_)
                    have hE := hp
                    refine lv_goto (tgt := 308) hx hb dM_act_209 (by decide) ?_
                    refine lv_lload hx hb dM_act_308 (lv_at hl 0 rfl) ?_
                    exact mp_lret hx hb hr hlocks I (Nat.le_of_ble_eq_true rfl) (Nat.le_of_ble_eq_true rfl) dM_act_310 (Or.inl ⟨hg, by rw [hxi, ← hget]; unfold pm; rw [if_neg (show ¬ act.toInt = 1 by omega), if_pos (show act.toInt = 2 by omega)]; exact ⟨rfl, hE⟩⟩)
                  · refine lv_tableIn (off := 64) (tgt := 212) hx hb dM_act_148 (by rw [show act.toInt = act.toInt from rfl]; omega) (by rw [show act.toInt = act.toInt from rfl]; omega) (by rw [show act.toInt = act.toInt from rfl, c_154]; rfl) (by decide) ?_
                    refine lv_lload hx hb dM_act_212 (lv_at hl 0 rfl) ?_
                    refine lv_lload_n hx hb dM_act_214 rfl (lv_at hl 6 rfl) ?_
                    have hget := hp
                    refine W.lcmp hx hb dM_act_215 ?_
                    refine lv_if_ne (tgt := 226) hx hb dM_act_216 (by decide) (fun c_157 => ?_) (fun c_157 => ?_)
                    all_goals rw [lg_cmp_eq] at c_157
                    · refine lv_lload hx hb dM_act_226 (lv_at hl 0 rfl) ?_
                      refine lv_lload_n hx hb dM_act_228 rfl (lv_at hl 6 rfl) ?_
                      refine W.lcmp hx hb dM_act_229 ?_
                      refine lv_if_ne (tgt := 237) hx hb dM_act_230 (by decide) (fun c_158 => ?_) (fun c_158 => ?_)
                      all_goals rw [lg_cmp_eq] at c_158
                      · refine lv_lconst (v := 0) hx hb dM_act_237 (by decide) ?_
                        exact mp_lret hx hb hr hlocks I (Nat.le_of_ble_eq_true rfl) (Nat.le_of_ble_eq_true rfl) dM_act_238 (Or.inl ⟨hg, by rw [hxi, ← hget]; unfold pm; rw [if_neg (show ¬ act.toInt = 1 by omega), if_neg (show ¬ act.toInt = 2 by omega), if_pos (show act.toInt = 3 by omega), if_neg c_157]; exact ⟨rfl, hE⟩⟩)
                      · exact absurd c_158 c_157
                    · refine lv_aload_n hx hb dM_act_219 rfl (lv_at hl 3 rfl) ?_
                      refine lv_iload_n hx hb dM_act_220 rfl (lv_at hl 4 rfl) ?_
                      refine lv_lload hx hb dM_act_221 (lv_at hl 7 rfl) ?_
                      refine mp_callv (va_runV (As := [.int (nI xn), .long w]) (rest := []) ⟨hx, hb, hml, hown, hts⟩ (kM_set l D k M_150 hE hO xn (by omega) w _) (cwV 2 hts (bw_V bw_456 bw_458 bs_17 bw_2 bw_459) rfl rfl rfl (by decide +kernel) ⟨Nat.le_of_ble_eq_true rfl, Nat.le_of_ble_eq_true rfl⟩) (mp_preV I h0__M_150 rfl _) rfl rfl hl.1 rfl (lv_room (Nat.le_of_ble_eq_true rfl)) dM_act_223 ⟨Nat.le_of_ble_eq_true rfl, Nat.le_of_ble_eq_true rfl⟩) I (fun N1 H locs hp I => ?_)
                      have hE := hp
                      refine lv_lload hx hb dM_act_226 (lv_at hl 0 rfl) ?_
                      refine lv_lload_n hx hb dM_act_228 rfl (lv_at hl 6 rfl) ?_
                      refine W.lcmp hx hb dM_act_229 ?_
                      refine lv_if_ne (tgt := 237) hx hb dM_act_230 (by decide) (fun c_160 => ?_) (fun c_160 => ?_)
                      all_goals rw [lg_cmp_eq] at c_160
                      · exact absurd c_157 c_160
                      · refine lv_lconst (v := 1) hx hb dM_act_233 (by decide) ?_
                        refine lv_goto (tgt := 238) hx hb dM_act_234 (by decide) ?_
                        exact mp_lret hx hb hr hlocks I (Nat.le_of_ble_eq_true rfl) (Nat.le_of_ble_eq_true rfl) dM_act_238 (Or.inl ⟨hg, by rw [hxi, ← hget]; unfold pm; rw [if_neg (show ¬ act.toInt = 1 by omega), if_neg (show ¬ act.toInt = 2 by omega), if_pos (show act.toInt = 3 by omega), if_pos c_157]; exact ⟨rfl, hE⟩⟩)
                  · refine lv_tableIn (off := 91) (tgt := 239) hx hb dM_act_148 (by rw [show act.toInt = act.toInt from rfl]; omega) (by rw [show act.toInt = act.toInt from rfl]; omega) (by rw [show act.toInt = act.toInt from rfl, c_154]; rfl) (by decide) ?_
                    refine lv_aload_n hx hb dM_act_239 rfl (lv_at hl 3 rfl) ?_
                    refine lv_iload_n hx hb dM_act_240 rfl (lv_at hl 4 rfl) ?_
                    refine lv_iload hx hb dM_act_241 (lv_at hl 2 rfl) ?_
                    refine lv_lload hx hb dM_act_243 (lv_at hl 0 rfl) ?_
                    refine lv_lload_n hx hb dM_act_245 rfl (lv_at hl 6 rfl) ?_
                    refine lv_ladd hx hb dM_act_246 ?_
                    have hget := hp
                    refine mp_calll (va_runS (As := [.int (nI (sk xn)), .long (hd_ + v)]) (rest := [.int (nI xn), .ref mo]) ⟨hx, hb, hml, hown, hts⟩ (kM_as l D k M_150 (sk xn) (hd_ + v) (by omega) _) (cwS 2 hts (bw_S bw_447 bw_448 bw_2 bw_449) rfl rfl rfl (by decide +kernel) ⟨Nat.le_of_ble_eq_true rfl, Nat.le_of_ble_eq_true rfl⟩) (mp_preS I _) rfl rfl hl.1 rfl (lv_room (Nat.le_of_ble_eq_true rfl)) dM_act_247 ⟨Nat.le_of_ble_eq_true rfl, Nat.le_of_ble_eq_true rfl⟩) I (fun r2 N1 H locs hp I => ?_)
                    obtain ⟨e_161, hp⟩ := hp
                    rw [e_161] at I
                    subst hp
                    refine mp_callv (va_runV (As := [.int (nI xn), .long (lb (sk xn) (hd_ + v))]) (rest := []) ⟨hx, hb, hml, hown, hts⟩ (kM_set l D k M_150 hE hO xn (by omega) (lb (sk xn) (hd_ + v)) _) (cwV 2 hts (bw_V bw_456 bw_458 bs_17 bw_2 bw_459) rfl rfl rfl (by decide +kernel) ⟨Nat.le_of_ble_eq_true rfl, Nat.le_of_ble_eq_true rfl⟩) (mp_preV I h0__M_150 rfl _) rfl rfl hl.1 rfl (lv_room (Nat.le_of_ble_eq_true rfl)) dM_act_250 ⟨Nat.le_of_ble_eq_true rfl, Nat.le_of_ble_eq_true rfl⟩) I (fun N1 H locs hp I => ?_)
                    have hE := hp
                    refine lv_goto (tgt := 308) hx hb dM_act_253 (by decide) ?_
                    refine lv_lload hx hb dM_act_308 (lv_at hl 0 rfl) ?_
                    exact mp_lret hx hb hr hlocks I (Nat.le_of_ble_eq_true rfl) (Nat.le_of_ble_eq_true rfl) dM_act_310 (Or.inl ⟨hg, by rw [hxi, ← hget]; unfold pm; rw [if_neg (show ¬ act.toInt = 1 by omega), if_neg (show ¬ act.toInt = 2 by omega), if_neg (show ¬ act.toInt = 3 by omega), if_pos (show act.toInt = 4 by omega)]; exact ⟨rfl, hE⟩⟩)
                  · refine lv_tableIn (off := 108) (tgt := 256) hx hb dM_act_148 (by rw [show act.toInt = act.toInt from rfl]; omega) (by rw [show act.toInt = act.toInt from rfl]; omega) (by rw [show act.toInt = act.toInt from rfl, c_154]; rfl) (by decide) ?_
                    refine lv_aload_n hx hb dM_act_256 rfl (lv_at hl 3 rfl) ?_
                    refine lv_iload_n hx hb dM_act_257 rfl (lv_at hl 4 rfl) ?_
                    refine lv_iload hx hb dM_act_258 (lv_at hl 2 rfl) ?_
                    refine lv_lload hx hb dM_act_260 (lv_at hl 0 rfl) ?_
                    refine lv_lload_n hx hb dM_act_262 rfl (lv_at hl 6 rfl) ?_
                    refine lv_land hx hb dM_act_263 ?_
                    have hget := hp
                    refine mp_calll (va_runS (As := [.int (nI (sk xn)), .long (hd_ &&& v)]) (rest := [.int (nI xn), .ref mo]) ⟨hx, hb, hml, hown, hts⟩ (kM_as l D k M_150 (sk xn) (hd_ &&& v) (by omega) _) (cwS 2 hts (bw_S bw_447 bw_448 bw_2 bw_449) rfl rfl rfl (by decide +kernel) ⟨Nat.le_of_ble_eq_true rfl, Nat.le_of_ble_eq_true rfl⟩) (mp_preS I _) rfl rfl hl.1 rfl (lv_room (Nat.le_of_ble_eq_true rfl)) dM_act_264 ⟨Nat.le_of_ble_eq_true rfl, Nat.le_of_ble_eq_true rfl⟩) I (fun r2 N1 H locs hp I => ?_)
                    obtain ⟨e_163, hp⟩ := hp
                    rw [e_163] at I
                    subst hp
                    refine mp_callv (va_runV (As := [.int (nI xn), .long (lb (sk xn) (hd_ &&& v))]) (rest := []) ⟨hx, hb, hml, hown, hts⟩ (kM_set l D k M_150 hE hO xn (by omega) (lb (sk xn) (hd_ &&& v)) _) (cwV 2 hts (bw_V bw_456 bw_458 bs_17 bw_2 bw_459) rfl rfl rfl (by decide +kernel) ⟨Nat.le_of_ble_eq_true rfl, Nat.le_of_ble_eq_true rfl⟩) (mp_preV I h0__M_150 rfl _) rfl rfl hl.1 rfl (lv_room (Nat.le_of_ble_eq_true rfl)) dM_act_267 ⟨Nat.le_of_ble_eq_true rfl, Nat.le_of_ble_eq_true rfl⟩) I (fun N1 H locs hp I => ?_)
                    have hE := hp
                    refine lv_goto (tgt := 308) hx hb dM_act_270 (by decide) ?_
                    refine lv_lload hx hb dM_act_308 (lv_at hl 0 rfl) ?_
                    exact mp_lret hx hb hr hlocks I (Nat.le_of_ble_eq_true rfl) (Nat.le_of_ble_eq_true rfl) dM_act_310 (Or.inl ⟨hg, by rw [hxi, ← hget]; unfold pm; rw [if_neg (show ¬ act.toInt = 1 by omega), if_neg (show ¬ act.toInt = 2 by omega), if_neg (show ¬ act.toInt = 3 by omega), if_neg (show ¬ act.toInt = 4 by omega), if_pos (show act.toInt = 5 by omega)]; exact ⟨rfl, hE⟩⟩)
                  · refine lv_tableIn (off := 125) (tgt := 273) hx hb dM_act_148 (by rw [show act.toInt = act.toInt from rfl]; omega) (by rw [show act.toInt = act.toInt from rfl]; omega) (by rw [show act.toInt = act.toInt from rfl, c_154]; rfl) (by decide) ?_
                    refine lv_aload_n hx hb dM_act_273 rfl (lv_at hl 3 rfl) ?_
                    refine lv_iload_n hx hb dM_act_274 rfl (lv_at hl 4 rfl) ?_
                    refine lv_iload hx hb dM_act_275 (lv_at hl 2 rfl) ?_
                    refine lv_lload hx hb dM_act_277 (lv_at hl 0 rfl) ?_
                    refine lv_lload_n hx hb dM_act_279 rfl (lv_at hl 6 rfl) ?_
                    refine lv_lor hx hb dM_act_280 ?_
                    have hget := hp
                    refine mp_calll (va_runS (As := [.int (nI (sk xn)), .long (hd_ ||| v)]) (rest := [.int (nI xn), .ref mo]) ⟨hx, hb, hml, hown, hts⟩ (kM_as l D k M_150 (sk xn) (hd_ ||| v) (by omega) _) (cwS 2 hts (bw_S bw_447 bw_448 bw_2 bw_449) rfl rfl rfl (by decide +kernel) ⟨Nat.le_of_ble_eq_true rfl, Nat.le_of_ble_eq_true rfl⟩) (mp_preS I _) rfl rfl hl.1 rfl (lv_room (Nat.le_of_ble_eq_true rfl)) dM_act_281 ⟨Nat.le_of_ble_eq_true rfl, Nat.le_of_ble_eq_true rfl⟩) I (fun r2 N1 H locs hp I => ?_)
                    obtain ⟨e_165, hp⟩ := hp
                    rw [e_165] at I
                    subst hp
                    refine mp_callv (va_runV (As := [.int (nI xn), .long (lb (sk xn) (hd_ ||| v))]) (rest := []) ⟨hx, hb, hml, hown, hts⟩ (kM_set l D k M_150 hE hO xn (by omega) (lb (sk xn) (hd_ ||| v)) _) (cwV 2 hts (bw_V bw_456 bw_458 bs_17 bw_2 bw_459) rfl rfl rfl (by decide +kernel) ⟨Nat.le_of_ble_eq_true rfl, Nat.le_of_ble_eq_true rfl⟩) (mp_preV I h0__M_150 rfl _) rfl rfl hl.1 rfl (lv_room (Nat.le_of_ble_eq_true rfl)) dM_act_284 ⟨Nat.le_of_ble_eq_true rfl, Nat.le_of_ble_eq_true rfl⟩) I (fun N1 H locs hp I => ?_)
                    have hE := hp
                    refine lv_goto (tgt := 308) hx hb dM_act_287 (by decide) ?_
                    refine lv_lload hx hb dM_act_308 (lv_at hl 0 rfl) ?_
                    exact mp_lret hx hb hr hlocks I (Nat.le_of_ble_eq_true rfl) (Nat.le_of_ble_eq_true rfl) dM_act_310 (Or.inl ⟨hg, by rw [hxi, ← hget]; unfold pm; rw [if_neg (show ¬ act.toInt = 1 by omega), if_neg (show ¬ act.toInt = 2 by omega), if_neg (show ¬ act.toInt = 3 by omega), if_neg (show ¬ act.toInt = 4 by omega), if_neg (show ¬ act.toInt = 5 by omega), if_pos (show act.toInt = 6 by omega)]; exact ⟨rfl, hE⟩⟩)
                  · refine lv_tableOut (tgt := 290) hx hb dM_act_148 (by rw [show act.toInt = act.toInt from rfl]; exact c_154) (by decide) ?_
                    refine lv_aload_n hx hb dM_act_290 rfl (lv_at hl 3 rfl) ?_
                    refine lv_iload_n hx hb dM_act_291 rfl (lv_at hl 4 rfl) ?_
                    refine lv_lload hx hb dM_act_292 (lv_at hl 0 rfl) ?_
                    refine lv_lload_n hx hb dM_act_294 rfl (lv_at hl 6 rfl) ?_
                    have hget := hp
                    refine W.lcmp hx hb dM_act_295 ?_
                    refine lv_if_le (tgt := 304) hx hb dM_act_296 (by decide) (fun c_167 => ?_) (fun c_167 => ?_)
                    all_goals rw [lg_cmp_le] at c_167
                    · refine lv_lload_n hx hb dM_act_304 rfl (lv_at hl 6 rfl) ?_
                      refine mp_callv (va_runV (As := [.int (nI xn), .long v]) (rest := []) ⟨hx, hb, hml, hown, hts⟩ (kM_set l D k M_150 hE hO xn (by omega) v _) (cwV 2 hts (bw_V bw_456 bw_458 bs_17 bw_2 bw_459) rfl rfl rfl (by decide +kernel) ⟨Nat.le_of_ble_eq_true rfl, Nat.le_of_ble_eq_true rfl⟩) (mp_preV I h0__M_150 rfl _) rfl rfl hl.1 rfl (lv_room (Nat.le_of_ble_eq_true rfl)) dM_act_305 ⟨Nat.le_of_ble_eq_true rfl, Nat.le_of_ble_eq_true rfl⟩) I (fun N1 H locs hp I => ?_)
                      have hE := hp
                      refine lv_lload hx hb dM_act_308 (lv_at hl 0 rfl) ?_
                      exact mp_lret hx hb hr hlocks I (Nat.le_of_ble_eq_true rfl) (Nat.le_of_ble_eq_true rfl) dM_act_310 (Or.inl ⟨hg, by rw [hxi, ← hget]; unfold pm; rw [if_neg (show ¬ act.toInt = 1 by omega), if_neg (show ¬ act.toInt = 2 by omega), if_neg (show ¬ act.toInt = 3 by omega), if_neg (show ¬ act.toInt = 4 by omega), if_neg (show ¬ act.toInt = 5 by omega), if_neg (show ¬ act.toInt = 6 by omega), if_pos (show act.toInt = 7 by unfold gact aok at hg; omega), if_neg (Int64.not_lt.mpr c_167)]; exact ⟨rfl, hE⟩⟩)
                    · refine lv_lload hx hb dM_act_299 (lv_at hl 0 rfl) ?_
                      refine lv_goto (tgt := 305) hx hb dM_act_301 (by decide) ?_
                      refine mp_callv (va_runV (As := [.int (nI xn), .long hd_]) (rest := []) ⟨hx, hb, hml, hown, hts⟩ (kM_set l D k M_150 hE hO xn (by omega) hd_ _) (cwV 2 hts (bw_V bw_456 bw_458 bs_17 bw_2 bw_459) rfl rfl rfl (by decide +kernel) ⟨Nat.le_of_ble_eq_true rfl, Nat.le_of_ble_eq_true rfl⟩) (mp_preV I h0__M_150 rfl _) rfl rfl hl.1 rfl (lv_room (Nat.le_of_ble_eq_true rfl)) dM_act_305 ⟨Nat.le_of_ble_eq_true rfl, Nat.le_of_ble_eq_true rfl⟩) I (fun N1 H locs hp I => ?_)
                      have hE := hp
                      refine lv_lload hx hb dM_act_308 (lv_at hl 0 rfl) ?_
                      exact mp_lret hx hb hr hlocks I (Nat.le_of_ble_eq_true rfl) (Nat.le_of_ble_eq_true rfl) dM_act_310 (Or.inl ⟨hg, by rw [hxi, ← hget]; unfold pm; rw [if_neg (show ¬ act.toInt = 1 by omega), if_neg (show ¬ act.toInt = 2 by omega), if_neg (show ¬ act.toInt = 3 by omega), if_neg (show ¬ act.toInt = 4 by omega), if_neg (show ¬ act.toInt = 5 by omega), if_neg (show ¬ act.toInt = 6 by omega), if_pos (show act.toInt = 7 by unfold gact aok at hg; omega), if_pos (Int64.not_le.mp c_167)]; exact ⟨rfl, hE⟩⟩)
                · refine lv_aload_n hx hb dM_act_101 rfl (lv_at hl 2 rfl) ?_
                  refine lv_iload hx hb dM_act_102 (lv_at hl 1 rfl) ?_
                  refine lv_lload hx hb dM_act_104 (lv_at hl 6 rfl) ?_
                  refine mp_calli (va_runV (As := [.int (nI (sk xn)), .long w]) (rest := []) ⟨hx, hb, hml, hown, hts⟩ (kM_isValue l D k M hE hO (sk xn) w (by omega) _) (cwV 2 hts (bw_V bw_443 bw_445 bs_15 bw_2 bw_446) rfl rfl rfl (by decide +kernel) ⟨Nat.le_of_ble_eq_true rfl, Nat.le_of_ble_eq_true rfl⟩) (mp_preV I h0 rfl _) rfl rfl hl.1 rfl (lv_room (Nat.le_of_ble_eq_true rfl)) dM_act_106 ⟨Nat.le_of_ble_eq_true rfl, Nat.le_of_ble_eq_true rfl⟩) I (fun r_170 N_171 H locs hp I => ?_)
                  obtain ⟨e_172, hp⟩ := hp
                  rw [e_172] at I
                  rcases hp with ⟨p5, rfl⟩ | ⟨p5, rfl⟩
                  · refine zz_if_eq (tgt := 116) hx hb (nI_toInt (by decide)) dM_act_109 (by decide) (fun c_173 => absurd c_173 (by decide)) (fun _ => ?_)
                    refine lv_iconst (v := nI 1) hx hb dM_act_112 (by decide) ?_
                    refine lv_goto (tgt := 117) hx hb dM_act_113 (by decide) ?_
                    refine lv_istore (lv' := [(7, .int (nI 1)), (8, .int (nI (sk xn))), (0, .ref mo), (1, .int (nI xn)), (2, .int act), (3, .long v), (5, .long w)]) hx hb dM_act_117 hl (by decide) rfl (fun ls hl => ?_)
                    refine lv_aload_n hx hb dM_act_119 rfl (lv_at hl 2 rfl) ?_
                    refine lv_iload hx hb dM_act_120 (lv_at hl 0 rfl) ?_
                    refine zz_if_eq (tgt := 129) hx hb (nI_toInt (by decide)) dM_act_122 (by decide) (fun c_174 => absurd c_174 (by decide)) (fun _ => ?_)
                    refine lv_iconst (v := nI 0) hx hb dM_act_125 (by decide) ?_
                    refine lv_goto (tgt := 130) hx hb dM_act_126 (by decide) ?_
                    refine mp_put (v := .int (nI 0)) (ty := .int) hx hb hts inM tyM okM nmM hown I h0 rfl 17 (by decide) (hts _ bw_348) (fun _ h9 => h9) rfl (by decide +kernel) rfl rfl (Nat.le_of_ble_eq_true rfl) dM_act_130 (fun H locs I => ?_)
                    have I : mp_I D cls5 (tys6 k) s _ s.heap H locs (mp_up M mo (.inr (4, [.ref el, .ref ek, .int (nI ec), .ref bg, .ref sz, .ref kn, .int (nI tc), .ref rw, .int (nI wc), .ref pp, .ref pk, .ref wd, .ref lo, .int (nI sc), .ref kp, .ref ks, .int (nI nc), .int (nI 0)]))) := I
                    have h0_n : mp_up M mo (.inr (4, [.ref el, .ref ek, .int (nI ec), .ref bg, .ref sz, .ref kn, .int (nI tc), .ref rw, .int (nI wc), .ref pp, .ref pk, .ref wd, .ref lo, .int (nI sc), .ref kp, .ref ks, .int (nI nc), .int (nI 0)])) mo = some (.inr (4, [.ref el, .ref ek, .int (nI ec), .ref bg, .ref sz, .ref kn, .int (nI tc), .ref rw, .int (nI wc), .ref pp, .ref pk, .ref wd, .ref lo, .int (nI sc), .ref kp, .ref ks, .int (nI nc), .int (nI 0)])) := mp_up_s _ _ _
                    have hel_n : mp_up M mo (.inr (4, [.ref el, .ref ek, .int (nI ec), .ref bg, .ref sz, .ref kn, .int (nI tc), .ref rw, .int (nI wc), .ref pp, .ref pk, .ref wd, .ref lo, .int (nI sc), .ref kp, .ref ks, .int (nI nc), .int (nI 0)])) el = some (.inl (k 1, 4000, .inr (.inl va))) := (mp_up_n (mp_ne hel h0 (by simp))).trans hel
                    have hek_n : mp_up M mo (.inr (4, [.ref el, .ref ek, .int (nI ec), .ref bg, .ref sz, .ref kn, .int (nI tc), .ref rw, .int (nI wc), .ref pp, .ref pk, .ref wd, .ref lo, .int (nI sc), .ref kp, .ref ks, .int (nI nc), .int (nI 0)])) ek = some (.inl (k 0, 4000, .inl (fun i_ => nI (kd i_)))) := (mp_up_n (mp_ne hek h0 (by simp))).trans hek
                    have hbg_n : mp_up M mo (.inr (4, [.ref el, .ref ek, .int (nI ec), .ref bg, .ref sz, .ref kn, .int (nI tc), .ref rw, .int (nI wc), .ref pp, .ref pk, .ref wd, .ref lo, .int (nI sc), .ref kp, .ref ks, .int (nI nc), .int (nI 0)])) bg = some (.inl (k 0, 300, .inl (fun i_ => nI (tf i_)))) := (mp_up_n (mp_ne hbg h0 (by simp))).trans hbg
                    have hsz_n : mp_up M mo (.inr (4, [.ref el, .ref ek, .int (nI ec), .ref bg, .ref sz, .ref kn, .int (nI tc), .ref rw, .int (nI wc), .ref pp, .ref pk, .ref wd, .ref lo, .int (nI sc), .ref kp, .ref ks, .int (nI nc), .int (nI 0)])) sz = some (.inl (k 0, 300, .inl (fun i_ => nI (tz i_)))) := (mp_up_n (mp_ne hsz h0 (by simp))).trans hsz
                    have hkn_n : mp_up M mo (.inr (4, [.ref el, .ref ek, .int (nI ec), .ref bg, .ref sz, .ref kn, .int (nI tc), .ref rw, .int (nI wc), .ref pp, .ref pk, .ref wd, .ref lo, .int (nI sc), .ref kp, .ref ks, .int (nI nc), .int (nI 0)])) kn = some (.inl (k 0, 300, .inl (fun i_ => nI (tk i_)))) := (mp_up_n (mp_ne hkn h0 (by simp))).trans hkn
                    have hrw_n : mp_up M mo (.inr (4, [.ref el, .ref ek, .int (nI ec), .ref bg, .ref sz, .ref kn, .int (nI tc), .ref rw, .int (nI wc), .ref pp, .ref pk, .ref wd, .ref lo, .int (nI sc), .ref kp, .ref ks, .int (nI nc), .int (nI 0)])) rw = some (.inl (k 0, 12, .inl (fun i_ => nI (wt i_)))) := (mp_up_n (mp_ne hrw h0 (by simp))).trans hrw
                    have hpp_n : mp_up M mo (.inr (4, [.ref el, .ref ek, .int (nI ec), .ref bg, .ref sz, .ref kn, .int (nI tc), .ref rw, .int (nI wc), .ref pp, .ref pk, .ref wd, .ref lo, .int (nI sc), .ref kp, .ref ks, .int (nI nc), .int (nI 0)])) pp = some (.inl (k 0, 100, .inl (fun i_ => nI (sf i_)))) := (mp_up_n (mp_ne hpp h0 (by simp))).trans hpp
                    have hpk_n : mp_up M mo (.inr (4, [.ref el, .ref ek, .int (nI ec), .ref bg, .ref sz, .ref kn, .int (nI tc), .ref rw, .int (nI wc), .ref pp, .ref pk, .ref wd, .ref lo, .int (nI sc), .ref kp, .ref ks, .int (nI nc), .int (nI 0)])) pk = some (.inl (k 0, 100, .inl (fun i_ => nI (sk i_)))) := (mp_up_n (mp_ne hpk h0 (by simp))).trans hpk
                    have hwd_n : mp_up M mo (.inr (4, [.ref el, .ref ek, .int (nI ec), .ref bg, .ref sz, .ref kn, .int (nI tc), .ref rw, .int (nI wc), .ref pp, .ref pk, .ref wd, .ref lo, .int (nI sc), .ref kp, .ref ks, .int (nI nc), .int (nI 0)])) wd = some (.inl (k 0, 100, .inl (fun i_ => nI (sw i_)))) := (mp_up_n (mp_ne hwd h0 (by simp))).trans hwd
                    have hlo_n : mp_up M mo (.inr (4, [.ref el, .ref ek, .int (nI ec), .ref bg, .ref sz, .ref kn, .int (nI tc), .ref rw, .int (nI wc), .ref pp, .ref pk, .ref wd, .ref lo, .int (nI sc), .ref kp, .ref ks, .int (nI nc), .int (nI 0)])) lo = some (.inl (k 5, 100, .inl (fun i_ => nI (ml i_)))) := (mp_up_n (mp_ne hlo h0 (by simp))).trans hlo
                    have hkp_n : mp_up M mo (.inr (4, [.ref el, .ref ek, .int (nI ec), .ref bg, .ref sz, .ref kn, .int (nI tc), .ref rw, .int (nI wc), .ref pp, .ref pk, .ref wd, .ref lo, .int (nI sc), .ref kp, .ref ks, .int (nI nc), .int (nI 0)])) kp = some (.inl (k 1, 80000, .inr (.inl mk))) := (mp_up_n (mp_ne hkp h0 (by simp))).trans hkp
                    have hks_n : mp_up M mo (.inr (4, [.ref el, .ref ek, .int (nI ec), .ref bg, .ref sz, .ref kn, .int (nI tc), .ref rw, .int (nI wc), .ref pp, .ref pk, .ref wd, .ref lo, .int (nI sc), .ref kp, .ref ks, .int (nI nc), .int (nI 0)])) ks = some (.inl (k 0, 20, .inl (fun i_ => nI (nn i_)))) := (mp_up_n (mp_ne hks h0 (by simp))).trans hks
                    generalize eM_176 : mp_up M mo (.inr (4, [.ref el, .ref ek, .int (nI ec), .ref bg, .ref sz, .ref kn, .int (nI tc), .ref rw, .int (nI wc), .ref pp, .ref pk, .ref wd, .ref lo, .int (nI sc), .ref kp, .ref ks, .int (nI nc), .int (nI 0)])) = M_175 at I h0_n hel_n hek_n hbg_n hsz_n hkn_n hrw_n hpp_n hpk_n hwd_n hlo_n hkp_n hks_n
                    have h0__M_175 := h0_n
                    have hel__M_175 := hel_n
                    have hek__M_175 := hek_n
                    have hbg__M_175 := hbg_n
                    have hsz__M_175 := hsz_n
                    have hkn__M_175 := hkn_n
                    have hrw__M_175 := hrw_n
                    have hpp__M_175 := hpp_n
                    have hpk__M_175 := hpk_n
                    have hwd__M_175 := hwd_n
                    have hlo__M_175 := hlo_n
                    have hkp__M_175 := hkp_n
                    have hks__M_175 := hks_n
                    clear h0_n hel_n hek_n hbg_n hsz_n hkn_n hrw_n hpp_n hpk_n hwd_n hlo_n hkp_n hks_n
                    have hE := hE.cnt ec tc wc sc nc 0
                    rw [eM_176] at hE
                    refine lv_iload hx hb dM_act_133 (lv_at hl 0 rfl) ?_
                    refine zz_if_ne (tgt := 140) hx hb (nI_toInt (by decide)) dM_act_135 (by decide) (fun _ => ?_) (fun c_177 => absurd c_177 (by decide))
                    refine lv_aload_n hx hb dM_act_140 rfl (lv_at hl 2 rfl) ?_
                    refine lv_iload_n hx hb dM_act_141 rfl (lv_at hl 3 rfl) ?_
                    have hg : gact tc sc sk (nI xn).toInt act.toInt v w := by unfold gact; rw [hxi]; exact ⟨by omega, by omega, by unfold aok; omega, fun h => by first | exact p4 | (exfalso; omega), fun h => by first | exact p5 | (exfalso; omega)⟩
                    refine mp_calll (va_runV (As := [.int (nI xn)]) (rest := []) ⟨hx, hb, hml, hown, hts⟩ (kM_get l D k M_175 hE hO xn (by omega) _) (cwV 1 hts (bw_V bw_451 bw_453 bs_16 bw_2 bw_454) rfl rfl rfl (by decide +kernel) ⟨Nat.le_of_ble_eq_true rfl, Nat.le_of_ble_eq_true rfl⟩) (mp_preV I h0__M_175 rfl _) rfl rfl hl.1 rfl (lv_room (Nat.le_of_ble_eq_true rfl)) dM_act_142 ⟨Nat.le_of_ble_eq_true rfl, Nat.le_of_ble_eq_true rfl⟩) I (fun hd_ N1 H locs hp I => ?_)
                    obtain ⟨e_178, hp⟩ := hp
                    rw [e_178] at I
                    refine lv_lstore (lv' := [(9, .long hd_), (7, .int (nI 1)), (8, .int (nI (sk xn))), (0, .ref mo), (1, .int (nI xn)), (2, .int act), (3, .long v), (5, .long w)]) hx hb dM_act_145 hl (by decide) rfl (fun ls hl => ?_)
                    refine lv_iload_n hx hb dM_act_147 rfl (lv_at hl 5 rfl) ?_
                    have c_179 : act.toInt = 0 ∨ act.toInt = 1 ∨ act.toInt = 2 ∨ act.toInt = 3 ∨ act.toInt = 4 ∨ act.toInt = 5 ∨ act.toInt = 6 ∨ (act.toInt < 0 ∨ 6 < act.toInt) := by omega
                    rcases c_179 with c_179 | c_179 | c_179 | c_179 | c_179 | c_179 | c_179 | c_179
                    · refine lv_tableIn (off := 44) (tgt := 192) hx hb dM_act_148 (by rw [show act.toInt = act.toInt from rfl]; omega) (by rw [show act.toInt = act.toInt from rfl]; omega) (by rw [show act.toInt = act.toInt from rfl, c_179]; rfl) (by decide) ?_
                      refine lv_lload hx hb dM_act_192 (lv_at hl 0 rfl) ?_
                      exact mp_lret hx hb hr hlocks I (Nat.le_of_ble_eq_true rfl) (Nat.le_of_ble_eq_true rfl) dM_act_194 (Or.inl ⟨hg, by rw [hxi, ← hp]; unfold pm; rw [if_neg (show ¬ act.toInt = 1 by omega), if_neg (show ¬ act.toInt = 2 by omega), if_neg (show ¬ act.toInt = 3 by omega), if_neg (show ¬ act.toInt = 4 by omega), if_neg (show ¬ act.toInt = 5 by omega), if_neg (show ¬ act.toInt = 6 by omega), if_neg (show ¬ act.toInt = 7 by omega)]; exact ⟨rfl, hE⟩⟩)
                    · refine lv_tableIn (off := 47) (tgt := 195) hx hb dM_act_148 (by rw [show act.toInt = act.toInt from rfl]; omega) (by rw [show act.toInt = act.toInt from rfl]; omega) (by rw [show act.toInt = act.toInt from rfl, c_179]; rfl) (by decide) ?_
                      refine lv_aload_n hx hb dM_act_195 rfl (lv_at hl 3 rfl) ?_
                      refine lv_iload_n hx hb dM_act_196 rfl (lv_at hl 4 rfl) ?_
                      refine lv_lload_n hx hb dM_act_197 rfl (lv_at hl 6 rfl) ?_
                      have hget := hp
                      refine mp_callv (va_runV (As := [.int (nI xn), .long v]) (rest := []) ⟨hx, hb, hml, hown, hts⟩ (kM_set l D k M_175 hE hO xn (by omega) v _) (cwV 2 hts (bw_V bw_456 bw_458 bs_17 bw_2 bw_459) rfl rfl rfl (by decide +kernel) ⟨Nat.le_of_ble_eq_true rfl, Nat.le_of_ble_eq_true rfl⟩) (mp_preV I h0__M_175 rfl _) rfl rfl hl.1 rfl (lv_room (Nat.le_of_ble_eq_true rfl)) dM_act_198 ⟨Nat.le_of_ble_eq_true rfl, Nat.le_of_ble_eq_true rfl⟩) I (fun N1 H locs hp I => ?_)
                      have hE := hp
                      refine lv_lconst (v := 0) hx hb dM_act_201 (by decide) ?_
                      exact mp_lret hx hb hr hlocks I (Nat.le_of_ble_eq_true rfl) (Nat.le_of_ble_eq_true rfl) dM_act_202 (Or.inl ⟨hg, by rw [hxi, ← hget]; unfold pm; rw [if_pos (show act.toInt = 1 by omega)]; exact ⟨rfl, hE⟩⟩)
                    · refine lv_tableIn (off := 55) (tgt := 203) hx hb dM_act_148 (by rw [show act.toInt = act.toInt from rfl]; omega) (by rw [show act.toInt = act.toInt from rfl]; omega) (by rw [show act.toInt = act.toInt from rfl, c_179]; rfl) (by decide) ?_
                      refine lv_aload_n hx hb dM_act_203 rfl (lv_at hl 3 rfl) ?_
                      refine lv_iload_n hx hb dM_act_204 rfl (lv_at hl 4 rfl) ?_
                      refine lv_lload_n hx hb dM_act_205 rfl (lv_at hl 6 rfl) ?_
                      have hget := hp
                      refine mp_callv (va_runV (As := [.int (nI xn), .long v]) (rest := []) ⟨hx, hb, hml, hown, hts⟩ (kM_set l D k M_175 hE hO xn (by omega) v _) (cwV 2 hts (bw_V bw_456 bw_458 bs_17 bw_2 bw_459) rfl rfl rfl (by decide +kernel) ⟨Nat.le_of_ble_eq_true rfl, Nat.le_of_ble_eq_true rfl⟩) (mp_preV I h0__M_175 rfl _) rfl rfl hl.1 rfl (lv_room (Nat.le_of_ble_eq_true rfl)) dM_act_206 ⟨Nat.le_of_ble_eq_true rfl, Nat.le_of_ble_eq_true rfl⟩) I (fun N1 H locs hp I => ?_)
                      have hE := hp
                      refine lv_goto (tgt := 308) hx hb dM_act_209 (by decide) ?_
                      refine lv_lload hx hb dM_act_308 (lv_at hl 0 rfl) ?_
                      exact mp_lret hx hb hr hlocks I (Nat.le_of_ble_eq_true rfl) (Nat.le_of_ble_eq_true rfl) dM_act_310 (Or.inl ⟨hg, by rw [hxi, ← hget]; unfold pm; rw [if_neg (show ¬ act.toInt = 1 by omega), if_pos (show act.toInt = 2 by omega)]; exact ⟨rfl, hE⟩⟩)
                    · refine lv_tableIn (off := 64) (tgt := 212) hx hb dM_act_148 (by rw [show act.toInt = act.toInt from rfl]; omega) (by rw [show act.toInt = act.toInt from rfl]; omega) (by rw [show act.toInt = act.toInt from rfl, c_179]; rfl) (by decide) ?_
                      refine lv_lload hx hb dM_act_212 (lv_at hl 0 rfl) ?_
                      refine lv_lload_n hx hb dM_act_214 rfl (lv_at hl 6 rfl) ?_
                      have hget := hp
                      refine W.lcmp hx hb dM_act_215 ?_
                      refine lv_if_ne (tgt := 226) hx hb dM_act_216 (by decide) (fun c_182 => ?_) (fun c_182 => ?_)
                      all_goals rw [lg_cmp_eq] at c_182
                      · refine lv_lload hx hb dM_act_226 (lv_at hl 0 rfl) ?_
                        refine lv_lload_n hx hb dM_act_228 rfl (lv_at hl 6 rfl) ?_
                        refine W.lcmp hx hb dM_act_229 ?_
                        refine lv_if_ne (tgt := 237) hx hb dM_act_230 (by decide) (fun c_183 => ?_) (fun c_183 => ?_)
                        all_goals rw [lg_cmp_eq] at c_183
                        · refine lv_lconst (v := 0) hx hb dM_act_237 (by decide) ?_
                          exact mp_lret hx hb hr hlocks I (Nat.le_of_ble_eq_true rfl) (Nat.le_of_ble_eq_true rfl) dM_act_238 (Or.inl ⟨hg, by rw [hxi, ← hget]; unfold pm; rw [if_neg (show ¬ act.toInt = 1 by omega), if_neg (show ¬ act.toInt = 2 by omega), if_pos (show act.toInt = 3 by omega), if_neg c_182]; exact ⟨rfl, hE⟩⟩)
                        · exact absurd c_183 c_182
                      · refine lv_aload_n hx hb dM_act_219 rfl (lv_at hl 3 rfl) ?_
                        refine lv_iload_n hx hb dM_act_220 rfl (lv_at hl 4 rfl) ?_
                        refine lv_lload hx hb dM_act_221 (lv_at hl 7 rfl) ?_
                        refine mp_callv (va_runV (As := [.int (nI xn), .long w]) (rest := []) ⟨hx, hb, hml, hown, hts⟩ (kM_set l D k M_175 hE hO xn (by omega) w _) (cwV 2 hts (bw_V bw_456 bw_458 bs_17 bw_2 bw_459) rfl rfl rfl (by decide +kernel) ⟨Nat.le_of_ble_eq_true rfl, Nat.le_of_ble_eq_true rfl⟩) (mp_preV I h0__M_175 rfl _) rfl rfl hl.1 rfl (lv_room (Nat.le_of_ble_eq_true rfl)) dM_act_223 ⟨Nat.le_of_ble_eq_true rfl, Nat.le_of_ble_eq_true rfl⟩) I (fun N1 H locs hp I => ?_)
                        have hE := hp
                        refine lv_lload hx hb dM_act_226 (lv_at hl 0 rfl) ?_
                        refine lv_lload_n hx hb dM_act_228 rfl (lv_at hl 6 rfl) ?_
                        refine W.lcmp hx hb dM_act_229 ?_
                        refine lv_if_ne (tgt := 237) hx hb dM_act_230 (by decide) (fun c_185 => ?_) (fun c_185 => ?_)
                        all_goals rw [lg_cmp_eq] at c_185
                        · exact absurd c_182 c_185
                        · refine lv_lconst (v := 1) hx hb dM_act_233 (by decide) ?_
                          refine lv_goto (tgt := 238) hx hb dM_act_234 (by decide) ?_
                          exact mp_lret hx hb hr hlocks I (Nat.le_of_ble_eq_true rfl) (Nat.le_of_ble_eq_true rfl) dM_act_238 (Or.inl ⟨hg, by rw [hxi, ← hget]; unfold pm; rw [if_neg (show ¬ act.toInt = 1 by omega), if_neg (show ¬ act.toInt = 2 by omega), if_pos (show act.toInt = 3 by omega), if_pos c_182]; exact ⟨rfl, hE⟩⟩)
                    · refine lv_tableIn (off := 91) (tgt := 239) hx hb dM_act_148 (by rw [show act.toInt = act.toInt from rfl]; omega) (by rw [show act.toInt = act.toInt from rfl]; omega) (by rw [show act.toInt = act.toInt from rfl, c_179]; rfl) (by decide) ?_
                      refine lv_aload_n hx hb dM_act_239 rfl (lv_at hl 3 rfl) ?_
                      refine lv_iload_n hx hb dM_act_240 rfl (lv_at hl 4 rfl) ?_
                      refine lv_iload hx hb dM_act_241 (lv_at hl 2 rfl) ?_
                      refine lv_lload hx hb dM_act_243 (lv_at hl 0 rfl) ?_
                      refine lv_lload_n hx hb dM_act_245 rfl (lv_at hl 6 rfl) ?_
                      refine lv_ladd hx hb dM_act_246 ?_
                      have hget := hp
                      refine mp_calll (va_runS (As := [.int (nI (sk xn)), .long (hd_ + v)]) (rest := [.int (nI xn), .ref mo]) ⟨hx, hb, hml, hown, hts⟩ (kM_as l D k M_175 (sk xn) (hd_ + v) (by omega) _) (cwS 2 hts (bw_S bw_447 bw_448 bw_2 bw_449) rfl rfl rfl (by decide +kernel) ⟨Nat.le_of_ble_eq_true rfl, Nat.le_of_ble_eq_true rfl⟩) (mp_preS I _) rfl rfl hl.1 rfl (lv_room (Nat.le_of_ble_eq_true rfl)) dM_act_247 ⟨Nat.le_of_ble_eq_true rfl, Nat.le_of_ble_eq_true rfl⟩) I (fun r2 N1 H locs hp I => ?_)
                      obtain ⟨e_186, hp⟩ := hp
                      rw [e_186] at I
                      subst hp
                      refine mp_callv (va_runV (As := [.int (nI xn), .long (lb (sk xn) (hd_ + v))]) (rest := []) ⟨hx, hb, hml, hown, hts⟩ (kM_set l D k M_175 hE hO xn (by omega) (lb (sk xn) (hd_ + v)) _) (cwV 2 hts (bw_V bw_456 bw_458 bs_17 bw_2 bw_459) rfl rfl rfl (by decide +kernel) ⟨Nat.le_of_ble_eq_true rfl, Nat.le_of_ble_eq_true rfl⟩) (mp_preV I h0__M_175 rfl _) rfl rfl hl.1 rfl (lv_room (Nat.le_of_ble_eq_true rfl)) dM_act_250 ⟨Nat.le_of_ble_eq_true rfl, Nat.le_of_ble_eq_true rfl⟩) I (fun N1 H locs hp I => ?_)
                      have hE := hp
                      refine lv_goto (tgt := 308) hx hb dM_act_253 (by decide) ?_
                      refine lv_lload hx hb dM_act_308 (lv_at hl 0 rfl) ?_
                      exact mp_lret hx hb hr hlocks I (Nat.le_of_ble_eq_true rfl) (Nat.le_of_ble_eq_true rfl) dM_act_310 (Or.inl ⟨hg, by rw [hxi, ← hget]; unfold pm; rw [if_neg (show ¬ act.toInt = 1 by omega), if_neg (show ¬ act.toInt = 2 by omega), if_neg (show ¬ act.toInt = 3 by omega), if_pos (show act.toInt = 4 by omega)]; exact ⟨rfl, hE⟩⟩)
                    · refine lv_tableIn (off := 108) (tgt := 256) hx hb dM_act_148 (by rw [show act.toInt = act.toInt from rfl]; omega) (by rw [show act.toInt = act.toInt from rfl]; omega) (by rw [show act.toInt = act.toInt from rfl, c_179]; rfl) (by decide) ?_
                      refine lv_aload_n hx hb dM_act_256 rfl (lv_at hl 3 rfl) ?_
                      refine lv_iload_n hx hb dM_act_257 rfl (lv_at hl 4 rfl) ?_
                      refine lv_iload hx hb dM_act_258 (lv_at hl 2 rfl) ?_
                      refine lv_lload hx hb dM_act_260 (lv_at hl 0 rfl) ?_
                      refine lv_lload_n hx hb dM_act_262 rfl (lv_at hl 6 rfl) ?_
                      refine lv_land hx hb dM_act_263 ?_
                      have hget := hp
                      refine mp_calll (va_runS (As := [.int (nI (sk xn)), .long (hd_ &&& v)]) (rest := [.int (nI xn), .ref mo]) ⟨hx, hb, hml, hown, hts⟩ (kM_as l D k M_175 (sk xn) (hd_ &&& v) (by omega) _) (cwS 2 hts (bw_S bw_447 bw_448 bw_2 bw_449) rfl rfl rfl (by decide +kernel) ⟨Nat.le_of_ble_eq_true rfl, Nat.le_of_ble_eq_true rfl⟩) (mp_preS I _) rfl rfl hl.1 rfl (lv_room (Nat.le_of_ble_eq_true rfl)) dM_act_264 ⟨Nat.le_of_ble_eq_true rfl, Nat.le_of_ble_eq_true rfl⟩) I (fun r2 N1 H locs hp I => ?_)
                      obtain ⟨e_188, hp⟩ := hp
                      rw [e_188] at I
                      subst hp
                      refine mp_callv (va_runV (As := [.int (nI xn), .long (lb (sk xn) (hd_ &&& v))]) (rest := []) ⟨hx, hb, hml, hown, hts⟩ (kM_set l D k M_175 hE hO xn (by omega) (lb (sk xn) (hd_ &&& v)) _) (cwV 2 hts (bw_V bw_456 bw_458 bs_17 bw_2 bw_459) rfl rfl rfl (by decide +kernel) ⟨Nat.le_of_ble_eq_true rfl, Nat.le_of_ble_eq_true rfl⟩) (mp_preV I h0__M_175 rfl _) rfl rfl hl.1 rfl (lv_room (Nat.le_of_ble_eq_true rfl)) dM_act_267 ⟨Nat.le_of_ble_eq_true rfl, Nat.le_of_ble_eq_true rfl⟩) I (fun N1 H locs hp I => ?_)
                      have hE := hp
                      refine lv_goto (tgt := 308) hx hb dM_act_270 (by decide) ?_
                      refine lv_lload hx hb dM_act_308 (lv_at hl 0 rfl) ?_
                      exact mp_lret hx hb hr hlocks I (Nat.le_of_ble_eq_true rfl) (Nat.le_of_ble_eq_true rfl) dM_act_310 (Or.inl ⟨hg, by rw [hxi, ← hget]; unfold pm; rw [if_neg (show ¬ act.toInt = 1 by omega), if_neg (show ¬ act.toInt = 2 by omega), if_neg (show ¬ act.toInt = 3 by omega), if_neg (show ¬ act.toInt = 4 by omega), if_pos (show act.toInt = 5 by omega)]; exact ⟨rfl, hE⟩⟩)
                    · refine lv_tableIn (off := 125) (tgt := 273) hx hb dM_act_148 (by rw [show act.toInt = act.toInt from rfl]; omega) (by rw [show act.toInt = act.toInt from rfl]; omega) (by rw [show act.toInt = act.toInt from rfl, c_179]; rfl) (by decide) ?_
                      refine lv_aload_n hx hb dM_act_273 rfl (lv_at hl 3 rfl) ?_
                      refine lv_iload_n hx hb dM_act_274 rfl (lv_at hl 4 rfl) ?_
                      refine lv_iload hx hb dM_act_275 (lv_at hl 2 rfl) ?_
                      refine lv_lload hx hb dM_act_277 (lv_at hl 0 rfl) ?_
                      refine lv_lload_n hx hb dM_act_279 rfl (lv_at hl 6 rfl) ?_
                      refine lv_lor hx hb dM_act_280 ?_
                      have hget := hp
                      refine mp_calll (va_runS (As := [.int (nI (sk xn)), .long (hd_ ||| v)]) (rest := [.int (nI xn), .ref mo]) ⟨hx, hb, hml, hown, hts⟩ (kM_as l D k M_175 (sk xn) (hd_ ||| v) (by omega) _) (cwS 2 hts (bw_S bw_447 bw_448 bw_2 bw_449) rfl rfl rfl (by decide +kernel) ⟨Nat.le_of_ble_eq_true rfl, Nat.le_of_ble_eq_true rfl⟩) (mp_preS I _) rfl rfl hl.1 rfl (lv_room (Nat.le_of_ble_eq_true rfl)) dM_act_281 ⟨Nat.le_of_ble_eq_true rfl, Nat.le_of_ble_eq_true rfl⟩) I (fun r2 N1 H locs hp I => ?_)
                      obtain ⟨e_190, hp⟩ := hp
                      rw [e_190] at I
                      subst hp
                      refine mp_callv (va_runV (As := [.int (nI xn), .long (lb (sk xn) (hd_ ||| v))]) (rest := []) ⟨hx, hb, hml, hown, hts⟩ (kM_set l D k M_175 hE hO xn (by omega) (lb (sk xn) (hd_ ||| v)) _) (cwV 2 hts (bw_V bw_456 bw_458 bs_17 bw_2 bw_459) rfl rfl rfl (by decide +kernel) ⟨Nat.le_of_ble_eq_true rfl, Nat.le_of_ble_eq_true rfl⟩) (mp_preV I h0__M_175 rfl _) rfl rfl hl.1 rfl (lv_room (Nat.le_of_ble_eq_true rfl)) dM_act_284 ⟨Nat.le_of_ble_eq_true rfl, Nat.le_of_ble_eq_true rfl⟩) I (fun N1 H locs hp I => ?_)
                      have hE := hp
                      refine lv_goto (tgt := 308) hx hb dM_act_287 (by decide) ?_
                      refine lv_lload hx hb dM_act_308 (lv_at hl 0 rfl) ?_
                      exact mp_lret hx hb hr hlocks I (Nat.le_of_ble_eq_true rfl) (Nat.le_of_ble_eq_true rfl) dM_act_310 (Or.inl ⟨hg, by rw [hxi, ← hget]; unfold pm; rw [if_neg (show ¬ act.toInt = 1 by omega), if_neg (show ¬ act.toInt = 2 by omega), if_neg (show ¬ act.toInt = 3 by omega), if_neg (show ¬ act.toInt = 4 by omega), if_neg (show ¬ act.toInt = 5 by omega), if_pos (show act.toInt = 6 by omega)]; exact ⟨rfl, hE⟩⟩)
                    · refine lv_tableOut (tgt := 290) hx hb dM_act_148 (by rw [show act.toInt = act.toInt from rfl]; exact c_179) (by decide) ?_
                      refine lv_aload_n hx hb dM_act_290 rfl (lv_at hl 3 rfl) ?_
                      refine lv_iload_n hx hb dM_act_291 rfl (lv_at hl 4 rfl) ?_
                      refine lv_lload hx hb dM_act_292 (lv_at hl 0 rfl) ?_
                      refine lv_lload_n hx hb dM_act_294 rfl (lv_at hl 6 rfl) ?_
                      have hget := hp
                      refine W.lcmp hx hb dM_act_295 ?_
                      refine lv_if_le (tgt := 304) hx hb dM_act_296 (by decide) (fun c_192 => ?_) (fun c_192 => ?_)
                      all_goals rw [lg_cmp_le] at c_192
                      · refine lv_lload_n hx hb dM_act_304 rfl (lv_at hl 6 rfl) ?_
                        refine mp_callv (va_runV (As := [.int (nI xn), .long v]) (rest := []) ⟨hx, hb, hml, hown, hts⟩ (kM_set l D k M_175 hE hO xn (by omega) v _) (cwV 2 hts (bw_V bw_456 bw_458 bs_17 bw_2 bw_459) rfl rfl rfl (by decide +kernel) ⟨Nat.le_of_ble_eq_true rfl, Nat.le_of_ble_eq_true rfl⟩) (mp_preV I h0__M_175 rfl _) rfl rfl hl.1 rfl (lv_room (Nat.le_of_ble_eq_true rfl)) dM_act_305 ⟨Nat.le_of_ble_eq_true rfl, Nat.le_of_ble_eq_true rfl⟩) I (fun N1 H locs hp I => ?_)
                        have hE := hp
                        refine lv_lload hx hb dM_act_308 (lv_at hl 0 rfl) ?_
                        exact mp_lret hx hb hr hlocks I (Nat.le_of_ble_eq_true rfl) (Nat.le_of_ble_eq_true rfl) dM_act_310 (Or.inl ⟨hg, by rw [hxi, ← hget]; unfold pm; rw [if_neg (show ¬ act.toInt = 1 by omega), if_neg (show ¬ act.toInt = 2 by omega), if_neg (show ¬ act.toInt = 3 by omega), if_neg (show ¬ act.toInt = 4 by omega), if_neg (show ¬ act.toInt = 5 by omega), if_neg (show ¬ act.toInt = 6 by omega), if_pos (show act.toInt = 7 by unfold gact aok at hg; omega), if_neg (Int64.not_lt.mpr c_192)]; exact ⟨rfl, hE⟩⟩)
                      · refine lv_lload hx hb dM_act_299 (lv_at hl 0 rfl) ?_
                        refine lv_goto (tgt := 305) hx hb dM_act_301 (by decide) ?_
                        refine mp_callv (va_runV (As := [.int (nI xn), .long hd_]) (rest := []) ⟨hx, hb, hml, hown, hts⟩ (kM_set l D k M_175 hE hO xn (by omega) hd_ _) (cwV 2 hts (bw_V bw_456 bw_458 bs_17 bw_2 bw_459) rfl rfl rfl (by decide +kernel) ⟨Nat.le_of_ble_eq_true rfl, Nat.le_of_ble_eq_true rfl⟩) (mp_preV I h0__M_175 rfl _) rfl rfl hl.1 rfl (lv_room (Nat.le_of_ble_eq_true rfl)) dM_act_305 ⟨Nat.le_of_ble_eq_true rfl, Nat.le_of_ble_eq_true rfl⟩) I (fun N1 H locs hp I => ?_)
                        have hE := hp
                        refine lv_lload hx hb dM_act_308 (lv_at hl 0 rfl) ?_
                        exact mp_lret hx hb hr hlocks I (Nat.le_of_ble_eq_true rfl) (Nat.le_of_ble_eq_true rfl) dM_act_310 (Or.inl ⟨hg, by rw [hxi, ← hget]; unfold pm; rw [if_neg (show ¬ act.toInt = 1 by omega), if_neg (show ¬ act.toInt = 2 by omega), if_neg (show ¬ act.toInt = 3 by omega), if_neg (show ¬ act.toInt = 4 by omega), if_neg (show ¬ act.toInt = 5 by omega), if_neg (show ¬ act.toInt = 6 by omega), if_pos (show act.toInt = 7 by unfold gact aok at hg; omega), if_pos (Int64.not_le.mp c_192)]; exact ⟨rfl, hE⟩⟩)
                  · refine zz_if_eq (tgt := 116) hx hb (nI_toInt (by decide)) dM_act_109 (by decide) (fun _ => ?_) (fun c_195 => absurd c_195 (by decide))
                    refine lv_iconst (v := nI 0) hx hb dM_act_116 (by decide) ?_
                    refine lv_istore (lv' := [(7, .int (nI 0)), (8, .int (nI (sk xn))), (0, .ref mo), (1, .int (nI xn)), (2, .int act), (3, .long v), (5, .long w)]) hx hb dM_act_117 hl (by decide) rfl (fun ls hl => ?_)
                    refine lv_aload_n hx hb dM_act_119 rfl (lv_at hl 2 rfl) ?_
                    refine lv_iload hx hb dM_act_120 (lv_at hl 0 rfl) ?_
                    refine zz_if_eq (tgt := 129) hx hb (nI_toInt (by decide)) dM_act_122 (by decide) (fun _ => ?_) (fun c_196 => absurd c_196 (by decide))
                    refine lv_iconst (v := nI 1) hx hb dM_act_129 (by decide) ?_
                    refine mp_put (v := .int (nI 1)) (ty := .int) hx hb hts inM tyM okM nmM hown I h0 rfl 17 (by decide) (hts _ bw_348) (fun _ h9 => h9) rfl (by decide +kernel) rfl rfl (Nat.le_of_ble_eq_true rfl) dM_act_130 (fun H locs I => ?_)
                    have I : mp_I D cls5 (tys6 k) s _ s.heap H locs (mp_up M mo (.inr (4, [.ref el, .ref ek, .int (nI ec), .ref bg, .ref sz, .ref kn, .int (nI tc), .ref rw, .int (nI wc), .ref pp, .ref pk, .ref wd, .ref lo, .int (nI sc), .ref kp, .ref ks, .int (nI nc), .int (nI 1)]))) := I
                    have h0_n : mp_up M mo (.inr (4, [.ref el, .ref ek, .int (nI ec), .ref bg, .ref sz, .ref kn, .int (nI tc), .ref rw, .int (nI wc), .ref pp, .ref pk, .ref wd, .ref lo, .int (nI sc), .ref kp, .ref ks, .int (nI nc), .int (nI 1)])) mo = some (.inr (4, [.ref el, .ref ek, .int (nI ec), .ref bg, .ref sz, .ref kn, .int (nI tc), .ref rw, .int (nI wc), .ref pp, .ref pk, .ref wd, .ref lo, .int (nI sc), .ref kp, .ref ks, .int (nI nc), .int (nI 1)])) := mp_up_s _ _ _
                    have hel_n : mp_up M mo (.inr (4, [.ref el, .ref ek, .int (nI ec), .ref bg, .ref sz, .ref kn, .int (nI tc), .ref rw, .int (nI wc), .ref pp, .ref pk, .ref wd, .ref lo, .int (nI sc), .ref kp, .ref ks, .int (nI nc), .int (nI 1)])) el = some (.inl (k 1, 4000, .inr (.inl va))) := (mp_up_n (mp_ne hel h0 (by simp))).trans hel
                    have hek_n : mp_up M mo (.inr (4, [.ref el, .ref ek, .int (nI ec), .ref bg, .ref sz, .ref kn, .int (nI tc), .ref rw, .int (nI wc), .ref pp, .ref pk, .ref wd, .ref lo, .int (nI sc), .ref kp, .ref ks, .int (nI nc), .int (nI 1)])) ek = some (.inl (k 0, 4000, .inl (fun i_ => nI (kd i_)))) := (mp_up_n (mp_ne hek h0 (by simp))).trans hek
                    have hbg_n : mp_up M mo (.inr (4, [.ref el, .ref ek, .int (nI ec), .ref bg, .ref sz, .ref kn, .int (nI tc), .ref rw, .int (nI wc), .ref pp, .ref pk, .ref wd, .ref lo, .int (nI sc), .ref kp, .ref ks, .int (nI nc), .int (nI 1)])) bg = some (.inl (k 0, 300, .inl (fun i_ => nI (tf i_)))) := (mp_up_n (mp_ne hbg h0 (by simp))).trans hbg
                    have hsz_n : mp_up M mo (.inr (4, [.ref el, .ref ek, .int (nI ec), .ref bg, .ref sz, .ref kn, .int (nI tc), .ref rw, .int (nI wc), .ref pp, .ref pk, .ref wd, .ref lo, .int (nI sc), .ref kp, .ref ks, .int (nI nc), .int (nI 1)])) sz = some (.inl (k 0, 300, .inl (fun i_ => nI (tz i_)))) := (mp_up_n (mp_ne hsz h0 (by simp))).trans hsz
                    have hkn_n : mp_up M mo (.inr (4, [.ref el, .ref ek, .int (nI ec), .ref bg, .ref sz, .ref kn, .int (nI tc), .ref rw, .int (nI wc), .ref pp, .ref pk, .ref wd, .ref lo, .int (nI sc), .ref kp, .ref ks, .int (nI nc), .int (nI 1)])) kn = some (.inl (k 0, 300, .inl (fun i_ => nI (tk i_)))) := (mp_up_n (mp_ne hkn h0 (by simp))).trans hkn
                    have hrw_n : mp_up M mo (.inr (4, [.ref el, .ref ek, .int (nI ec), .ref bg, .ref sz, .ref kn, .int (nI tc), .ref rw, .int (nI wc), .ref pp, .ref pk, .ref wd, .ref lo, .int (nI sc), .ref kp, .ref ks, .int (nI nc), .int (nI 1)])) rw = some (.inl (k 0, 12, .inl (fun i_ => nI (wt i_)))) := (mp_up_n (mp_ne hrw h0 (by simp))).trans hrw
                    have hpp_n : mp_up M mo (.inr (4, [.ref el, .ref ek, .int (nI ec), .ref bg, .ref sz, .ref kn, .int (nI tc), .ref rw, .int (nI wc), .ref pp, .ref pk, .ref wd, .ref lo, .int (nI sc), .ref kp, .ref ks, .int (nI nc), .int (nI 1)])) pp = some (.inl (k 0, 100, .inl (fun i_ => nI (sf i_)))) := (mp_up_n (mp_ne hpp h0 (by simp))).trans hpp
                    have hpk_n : mp_up M mo (.inr (4, [.ref el, .ref ek, .int (nI ec), .ref bg, .ref sz, .ref kn, .int (nI tc), .ref rw, .int (nI wc), .ref pp, .ref pk, .ref wd, .ref lo, .int (nI sc), .ref kp, .ref ks, .int (nI nc), .int (nI 1)])) pk = some (.inl (k 0, 100, .inl (fun i_ => nI (sk i_)))) := (mp_up_n (mp_ne hpk h0 (by simp))).trans hpk
                    have hwd_n : mp_up M mo (.inr (4, [.ref el, .ref ek, .int (nI ec), .ref bg, .ref sz, .ref kn, .int (nI tc), .ref rw, .int (nI wc), .ref pp, .ref pk, .ref wd, .ref lo, .int (nI sc), .ref kp, .ref ks, .int (nI nc), .int (nI 1)])) wd = some (.inl (k 0, 100, .inl (fun i_ => nI (sw i_)))) := (mp_up_n (mp_ne hwd h0 (by simp))).trans hwd
                    have hlo_n : mp_up M mo (.inr (4, [.ref el, .ref ek, .int (nI ec), .ref bg, .ref sz, .ref kn, .int (nI tc), .ref rw, .int (nI wc), .ref pp, .ref pk, .ref wd, .ref lo, .int (nI sc), .ref kp, .ref ks, .int (nI nc), .int (nI 1)])) lo = some (.inl (k 5, 100, .inl (fun i_ => nI (ml i_)))) := (mp_up_n (mp_ne hlo h0 (by simp))).trans hlo
                    have hkp_n : mp_up M mo (.inr (4, [.ref el, .ref ek, .int (nI ec), .ref bg, .ref sz, .ref kn, .int (nI tc), .ref rw, .int (nI wc), .ref pp, .ref pk, .ref wd, .ref lo, .int (nI sc), .ref kp, .ref ks, .int (nI nc), .int (nI 1)])) kp = some (.inl (k 1, 80000, .inr (.inl mk))) := (mp_up_n (mp_ne hkp h0 (by simp))).trans hkp
                    have hks_n : mp_up M mo (.inr (4, [.ref el, .ref ek, .int (nI ec), .ref bg, .ref sz, .ref kn, .int (nI tc), .ref rw, .int (nI wc), .ref pp, .ref pk, .ref wd, .ref lo, .int (nI sc), .ref kp, .ref ks, .int (nI nc), .int (nI 1)])) ks = some (.inl (k 0, 20, .inl (fun i_ => nI (nn i_)))) := (mp_up_n (mp_ne hks h0 (by simp))).trans hks
                    generalize eM_198 : mp_up M mo (.inr (4, [.ref el, .ref ek, .int (nI ec), .ref bg, .ref sz, .ref kn, .int (nI tc), .ref rw, .int (nI wc), .ref pp, .ref pk, .ref wd, .ref lo, .int (nI sc), .ref kp, .ref ks, .int (nI nc), .int (nI 1)])) = M_197 at I h0_n hel_n hek_n hbg_n hsz_n hkn_n hrw_n hpp_n hpk_n hwd_n hlo_n hkp_n hks_n
                    have h0__M_197 := h0_n
                    have hel__M_197 := hel_n
                    have hek__M_197 := hek_n
                    have hbg__M_197 := hbg_n
                    have hsz__M_197 := hsz_n
                    have hkn__M_197 := hkn_n
                    have hrw__M_197 := hrw_n
                    have hpp__M_197 := hpp_n
                    have hpk__M_197 := hpk_n
                    have hwd__M_197 := hwd_n
                    have hlo__M_197 := hlo_n
                    have hkp__M_197 := hkp_n
                    have hks__M_197 := hks_n
                    clear h0_n hel_n hek_n hbg_n hsz_n hkn_n hrw_n hpp_n hpk_n hwd_n hlo_n hkp_n hks_n
                    have hE := hE.cnt ec tc wc sc nc 1
                    rw [eM_198] at hE
                    refine lv_iload hx hb dM_act_133 (lv_at hl 0 rfl) ?_
                    refine zz_if_ne (tgt := 140) hx hb (nI_toInt (by decide)) dM_act_135 (by decide) (fun c_199 => absurd c_199 (by decide)) (fun _ => ?_)
                    refine lv_lconst (v := 0) hx hb dM_act_138 (by decide) ?_
                    exact mp_lret hx hb hr hlocks I (Nat.le_of_ble_eq_true rfl) (Nat.le_of_ble_eq_true rfl) dM_act_139 (Or.inr ⟨by intro hg; obtain ⟨g1, g2, g3, g4, g5⟩ := hg; rw [hxi] at g3 g4 g5; unfold aok at g3; first | omega | exact p4 (g4 (by omega)) | exact p5 (g5 (by omega)), rfl, hE⟩)
              · refine lv_aload_n hx hb dM_act_86 rfl (lv_at hl 2 rfl) ?_
                refine lv_iload hx hb dM_act_87 (lv_at hl 1 rfl) ?_
                refine lv_lload_n hx hb dM_act_89 rfl (lv_at hl 5 rfl) ?_
                refine mp_calli (va_runV (As := [.int (nI (sk xn)), .long v]) (rest := []) ⟨hx, hb, hml, hown, hts⟩ (kM_isValue l D k M hE hO (sk xn) v (by omega) _) (cwV 2 hts (bw_V bw_443 bw_445 bs_15 bw_2 bw_446) rfl rfl rfl (by decide +kernel) ⟨Nat.le_of_ble_eq_true rfl, Nat.le_of_ble_eq_true rfl⟩) (mp_preV I h0 rfl _) rfl rfl hl.1 rfl (lv_room (Nat.le_of_ble_eq_true rfl)) dM_act_90 ⟨Nat.le_of_ble_eq_true rfl, Nat.le_of_ble_eq_true rfl⟩) I (fun r_200 N_201 H locs hp I => ?_)
                obtain ⟨e_202, hp⟩ := hp
                rw [e_202] at I
                rcases hp with ⟨p4, rfl⟩ | ⟨p4, rfl⟩
                · refine zz_if_eq (tgt := 116) hx hb (nI_toInt (by decide)) dM_act_93 (by decide) (fun c_203 => absurd c_203 (by decide)) (fun _ => ?_)
                  refine lv_iload_n hx hb dM_act_96 rfl (lv_at hl 4 rfl) ?_
                  refine lv_iconst (v := nI 3) hx hb dM_act_97 (by decide) ?_
                  refine zz_icmp_ne (tgt := 112) hx hb rfl (nI_toInt (by decide)) dM_act_98 (by decide) (fun c_204 => ?_) (fun c_204 => ?_)
                  · refine lv_iconst (v := nI 1) hx hb dM_act_112 (by decide) ?_
                    refine lv_goto (tgt := 117) hx hb dM_act_113 (by decide) ?_
                    refine lv_istore (lv' := [(7, .int (nI 1)), (8, .int (nI (sk xn))), (0, .ref mo), (1, .int (nI xn)), (2, .int act), (3, .long v), (5, .long w)]) hx hb dM_act_117 hl (by decide) rfl (fun ls hl => ?_)
                    refine lv_aload_n hx hb dM_act_119 rfl (lv_at hl 2 rfl) ?_
                    refine lv_iload hx hb dM_act_120 (lv_at hl 0 rfl) ?_
                    refine zz_if_eq (tgt := 129) hx hb (nI_toInt (by decide)) dM_act_122 (by decide) (fun c_205 => absurd c_205 (by decide)) (fun _ => ?_)
                    refine lv_iconst (v := nI 0) hx hb dM_act_125 (by decide) ?_
                    refine lv_goto (tgt := 130) hx hb dM_act_126 (by decide) ?_
                    refine mp_put (v := .int (nI 0)) (ty := .int) hx hb hts inM tyM okM nmM hown I h0 rfl 17 (by decide) (hts _ bw_348) (fun _ h9 => h9) rfl (by decide +kernel) rfl rfl (Nat.le_of_ble_eq_true rfl) dM_act_130 (fun H locs I => ?_)
                    have I : mp_I D cls5 (tys6 k) s _ s.heap H locs (mp_up M mo (.inr (4, [.ref el, .ref ek, .int (nI ec), .ref bg, .ref sz, .ref kn, .int (nI tc), .ref rw, .int (nI wc), .ref pp, .ref pk, .ref wd, .ref lo, .int (nI sc), .ref kp, .ref ks, .int (nI nc), .int (nI 0)]))) := I
                    have h0_n : mp_up M mo (.inr (4, [.ref el, .ref ek, .int (nI ec), .ref bg, .ref sz, .ref kn, .int (nI tc), .ref rw, .int (nI wc), .ref pp, .ref pk, .ref wd, .ref lo, .int (nI sc), .ref kp, .ref ks, .int (nI nc), .int (nI 0)])) mo = some (.inr (4, [.ref el, .ref ek, .int (nI ec), .ref bg, .ref sz, .ref kn, .int (nI tc), .ref rw, .int (nI wc), .ref pp, .ref pk, .ref wd, .ref lo, .int (nI sc), .ref kp, .ref ks, .int (nI nc), .int (nI 0)])) := mp_up_s _ _ _
                    have hel_n : mp_up M mo (.inr (4, [.ref el, .ref ek, .int (nI ec), .ref bg, .ref sz, .ref kn, .int (nI tc), .ref rw, .int (nI wc), .ref pp, .ref pk, .ref wd, .ref lo, .int (nI sc), .ref kp, .ref ks, .int (nI nc), .int (nI 0)])) el = some (.inl (k 1, 4000, .inr (.inl va))) := (mp_up_n (mp_ne hel h0 (by simp))).trans hel
                    have hek_n : mp_up M mo (.inr (4, [.ref el, .ref ek, .int (nI ec), .ref bg, .ref sz, .ref kn, .int (nI tc), .ref rw, .int (nI wc), .ref pp, .ref pk, .ref wd, .ref lo, .int (nI sc), .ref kp, .ref ks, .int (nI nc), .int (nI 0)])) ek = some (.inl (k 0, 4000, .inl (fun i_ => nI (kd i_)))) := (mp_up_n (mp_ne hek h0 (by simp))).trans hek
                    have hbg_n : mp_up M mo (.inr (4, [.ref el, .ref ek, .int (nI ec), .ref bg, .ref sz, .ref kn, .int (nI tc), .ref rw, .int (nI wc), .ref pp, .ref pk, .ref wd, .ref lo, .int (nI sc), .ref kp, .ref ks, .int (nI nc), .int (nI 0)])) bg = some (.inl (k 0, 300, .inl (fun i_ => nI (tf i_)))) := (mp_up_n (mp_ne hbg h0 (by simp))).trans hbg
                    have hsz_n : mp_up M mo (.inr (4, [.ref el, .ref ek, .int (nI ec), .ref bg, .ref sz, .ref kn, .int (nI tc), .ref rw, .int (nI wc), .ref pp, .ref pk, .ref wd, .ref lo, .int (nI sc), .ref kp, .ref ks, .int (nI nc), .int (nI 0)])) sz = some (.inl (k 0, 300, .inl (fun i_ => nI (tz i_)))) := (mp_up_n (mp_ne hsz h0 (by simp))).trans hsz
                    have hkn_n : mp_up M mo (.inr (4, [.ref el, .ref ek, .int (nI ec), .ref bg, .ref sz, .ref kn, .int (nI tc), .ref rw, .int (nI wc), .ref pp, .ref pk, .ref wd, .ref lo, .int (nI sc), .ref kp, .ref ks, .int (nI nc), .int (nI 0)])) kn = some (.inl (k 0, 300, .inl (fun i_ => nI (tk i_)))) := (mp_up_n (mp_ne hkn h0 (by simp))).trans hkn
                    have hrw_n : mp_up M mo (.inr (4, [.ref el, .ref ek, .int (nI ec), .ref bg, .ref sz, .ref kn, .int (nI tc), .ref rw, .int (nI wc), .ref pp, .ref pk, .ref wd, .ref lo, .int (nI sc), .ref kp, .ref ks, .int (nI nc), .int (nI 0)])) rw = some (.inl (k 0, 12, .inl (fun i_ => nI (wt i_)))) := (mp_up_n (mp_ne hrw h0 (by simp))).trans hrw
                    have hpp_n : mp_up M mo (.inr (4, [.ref el, .ref ek, .int (nI ec), .ref bg, .ref sz, .ref kn, .int (nI tc), .ref rw, .int (nI wc), .ref pp, .ref pk, .ref wd, .ref lo, .int (nI sc), .ref kp, .ref ks, .int (nI nc), .int (nI 0)])) pp = some (.inl (k 0, 100, .inl (fun i_ => nI (sf i_)))) := (mp_up_n (mp_ne hpp h0 (by simp))).trans hpp
                    have hpk_n : mp_up M mo (.inr (4, [.ref el, .ref ek, .int (nI ec), .ref bg, .ref sz, .ref kn, .int (nI tc), .ref rw, .int (nI wc), .ref pp, .ref pk, .ref wd, .ref lo, .int (nI sc), .ref kp, .ref ks, .int (nI nc), .int (nI 0)])) pk = some (.inl (k 0, 100, .inl (fun i_ => nI (sk i_)))) := (mp_up_n (mp_ne hpk h0 (by simp))).trans hpk
                    have hwd_n : mp_up M mo (.inr (4, [.ref el, .ref ek, .int (nI ec), .ref bg, .ref sz, .ref kn, .int (nI tc), .ref rw, .int (nI wc), .ref pp, .ref pk, .ref wd, .ref lo, .int (nI sc), .ref kp, .ref ks, .int (nI nc), .int (nI 0)])) wd = some (.inl (k 0, 100, .inl (fun i_ => nI (sw i_)))) := (mp_up_n (mp_ne hwd h0 (by simp))).trans hwd
                    have hlo_n : mp_up M mo (.inr (4, [.ref el, .ref ek, .int (nI ec), .ref bg, .ref sz, .ref kn, .int (nI tc), .ref rw, .int (nI wc), .ref pp, .ref pk, .ref wd, .ref lo, .int (nI sc), .ref kp, .ref ks, .int (nI nc), .int (nI 0)])) lo = some (.inl (k 5, 100, .inl (fun i_ => nI (ml i_)))) := (mp_up_n (mp_ne hlo h0 (by simp))).trans hlo
                    have hkp_n : mp_up M mo (.inr (4, [.ref el, .ref ek, .int (nI ec), .ref bg, .ref sz, .ref kn, .int (nI tc), .ref rw, .int (nI wc), .ref pp, .ref pk, .ref wd, .ref lo, .int (nI sc), .ref kp, .ref ks, .int (nI nc), .int (nI 0)])) kp = some (.inl (k 1, 80000, .inr (.inl mk))) := (mp_up_n (mp_ne hkp h0 (by simp))).trans hkp
                    have hks_n : mp_up M mo (.inr (4, [.ref el, .ref ek, .int (nI ec), .ref bg, .ref sz, .ref kn, .int (nI tc), .ref rw, .int (nI wc), .ref pp, .ref pk, .ref wd, .ref lo, .int (nI sc), .ref kp, .ref ks, .int (nI nc), .int (nI 0)])) ks = some (.inl (k 0, 20, .inl (fun i_ => nI (nn i_)))) := (mp_up_n (mp_ne hks h0 (by simp))).trans hks
                    generalize eM_207 : mp_up M mo (.inr (4, [.ref el, .ref ek, .int (nI ec), .ref bg, .ref sz, .ref kn, .int (nI tc), .ref rw, .int (nI wc), .ref pp, .ref pk, .ref wd, .ref lo, .int (nI sc), .ref kp, .ref ks, .int (nI nc), .int (nI 0)])) = M_206 at I h0_n hel_n hek_n hbg_n hsz_n hkn_n hrw_n hpp_n hpk_n hwd_n hlo_n hkp_n hks_n
                    have h0__M_206 := h0_n
                    have hel__M_206 := hel_n
                    have hek__M_206 := hek_n
                    have hbg__M_206 := hbg_n
                    have hsz__M_206 := hsz_n
                    have hkn__M_206 := hkn_n
                    have hrw__M_206 := hrw_n
                    have hpp__M_206 := hpp_n
                    have hpk__M_206 := hpk_n
                    have hwd__M_206 := hwd_n
                    have hlo__M_206 := hlo_n
                    have hkp__M_206 := hkp_n
                    have hks__M_206 := hks_n
                    clear h0_n hel_n hek_n hbg_n hsz_n hkn_n hrw_n hpp_n hpk_n hwd_n hlo_n hkp_n hks_n
                    have hE := hE.cnt ec tc wc sc nc 0
                    rw [eM_207] at hE
                    refine lv_iload hx hb dM_act_133 (lv_at hl 0 rfl) ?_
                    refine zz_if_ne (tgt := 140) hx hb (nI_toInt (by decide)) dM_act_135 (by decide) (fun _ => ?_) (fun c_208 => absurd c_208 (by decide))
                    refine lv_aload_n hx hb dM_act_140 rfl (lv_at hl 2 rfl) ?_
                    refine lv_iload_n hx hb dM_act_141 rfl (lv_at hl 3 rfl) ?_
                    have hg : gact tc sc sk (nI xn).toInt act.toInt v w := by unfold gact; rw [hxi]; exact ⟨by omega, by omega, by unfold aok; omega, fun h => by first | exact p4 | (exfalso; omega), fun h => by first | exact p5 | (exfalso; omega)⟩
                    refine mp_calll (va_runV (As := [.int (nI xn)]) (rest := []) ⟨hx, hb, hml, hown, hts⟩ (kM_get l D k M_206 hE hO xn (by omega) _) (cwV 1 hts (bw_V bw_451 bw_453 bs_16 bw_2 bw_454) rfl rfl rfl (by decide +kernel) ⟨Nat.le_of_ble_eq_true rfl, Nat.le_of_ble_eq_true rfl⟩) (mp_preV I h0__M_206 rfl _) rfl rfl hl.1 rfl (lv_room (Nat.le_of_ble_eq_true rfl)) dM_act_142 ⟨Nat.le_of_ble_eq_true rfl, Nat.le_of_ble_eq_true rfl⟩) I (fun hd_ N1 H locs hp I => ?_)
                    obtain ⟨e_209, hp⟩ := hp
                    rw [e_209] at I
                    refine lv_lstore (lv' := [(9, .long hd_), (7, .int (nI 1)), (8, .int (nI (sk xn))), (0, .ref mo), (1, .int (nI xn)), (2, .int act), (3, .long v), (5, .long w)]) hx hb dM_act_145 hl (by decide) rfl (fun ls hl => ?_)
                    refine lv_iload_n hx hb dM_act_147 rfl (lv_at hl 5 rfl) ?_
                    have c_210 : act.toInt = 0 ∨ act.toInt = 1 ∨ act.toInt = 2 ∨ act.toInt = 3 ∨ act.toInt = 4 ∨ act.toInt = 5 ∨ act.toInt = 6 ∨ (act.toInt < 0 ∨ 6 < act.toInt) := by omega
                    rcases c_210 with c_210 | c_210 | c_210 | c_210 | c_210 | c_210 | c_210 | c_210
                    · refine lv_tableIn (off := 44) (tgt := 192) hx hb dM_act_148 (by rw [show act.toInt = act.toInt from rfl]; omega) (by rw [show act.toInt = act.toInt from rfl]; omega) (by rw [show act.toInt = act.toInt from rfl, c_210]; rfl) (by decide) ?_
                      refine lv_lload hx hb dM_act_192 (lv_at hl 0 rfl) ?_
                      exact mp_lret hx hb hr hlocks I (Nat.le_of_ble_eq_true rfl) (Nat.le_of_ble_eq_true rfl) dM_act_194 (Or.inl ⟨hg, by rw [hxi, ← hp]; unfold pm; rw [if_neg (show ¬ act.toInt = 1 by omega), if_neg (show ¬ act.toInt = 2 by omega), if_neg (show ¬ act.toInt = 3 by omega), if_neg (show ¬ act.toInt = 4 by omega), if_neg (show ¬ act.toInt = 5 by omega), if_neg (show ¬ act.toInt = 6 by omega), if_neg (show ¬ act.toInt = 7 by omega)]; exact ⟨rfl, hE⟩⟩)
                    · refine lv_tableIn (off := 47) (tgt := 195) hx hb dM_act_148 (by rw [show act.toInt = act.toInt from rfl]; omega) (by rw [show act.toInt = act.toInt from rfl]; omega) (by rw [show act.toInt = act.toInt from rfl, c_210]; rfl) (by decide) ?_
                      refine lv_aload_n hx hb dM_act_195 rfl (lv_at hl 3 rfl) ?_
                      refine lv_iload_n hx hb dM_act_196 rfl (lv_at hl 4 rfl) ?_
                      refine lv_lload_n hx hb dM_act_197 rfl (lv_at hl 6 rfl) ?_
                      have hget := hp
                      refine mp_callv (va_runV (As := [.int (nI xn), .long v]) (rest := []) ⟨hx, hb, hml, hown, hts⟩ (kM_set l D k M_206 hE hO xn (by omega) v _) (cwV 2 hts (bw_V bw_456 bw_458 bs_17 bw_2 bw_459) rfl rfl rfl (by decide +kernel) ⟨Nat.le_of_ble_eq_true rfl, Nat.le_of_ble_eq_true rfl⟩) (mp_preV I h0__M_206 rfl _) rfl rfl hl.1 rfl (lv_room (Nat.le_of_ble_eq_true rfl)) dM_act_198 ⟨Nat.le_of_ble_eq_true rfl, Nat.le_of_ble_eq_true rfl⟩) I (fun N1 H locs hp I => ?_)
                      have hE := hp
                      refine lv_lconst (v := 0) hx hb dM_act_201 (by decide) ?_
                      exact mp_lret hx hb hr hlocks I (Nat.le_of_ble_eq_true rfl) (Nat.le_of_ble_eq_true rfl) dM_act_202 (Or.inl ⟨hg, by rw [hxi, ← hget]; unfold pm; rw [if_pos (show act.toInt = 1 by omega)]; exact ⟨rfl, hE⟩⟩)
                    · refine lv_tableIn (off := 55) (tgt := 203) hx hb dM_act_148 (by rw [show act.toInt = act.toInt from rfl]; omega) (by rw [show act.toInt = act.toInt from rfl]; omega) (by rw [show act.toInt = act.toInt from rfl, c_210]; rfl) (by decide) ?_
                      refine lv_aload_n hx hb dM_act_203 rfl (lv_at hl 3 rfl) ?_
                      refine lv_iload_n hx hb dM_act_204 rfl (lv_at hl 4 rfl) ?_
                      refine lv_lload_n hx hb dM_act_205 rfl (lv_at hl 6 rfl) ?_
                      have hget := hp
                      refine mp_callv (va_runV (As := [.int (nI xn), .long v]) (rest := []) ⟨hx, hb, hml, hown, hts⟩ (kM_set l D k M_206 hE hO xn (by omega) v _) (cwV 2 hts (bw_V bw_456 bw_458 bs_17 bw_2 bw_459) rfl rfl rfl (by decide +kernel) ⟨Nat.le_of_ble_eq_true rfl, Nat.le_of_ble_eq_true rfl⟩) (mp_preV I h0__M_206 rfl _) rfl rfl hl.1 rfl (lv_room (Nat.le_of_ble_eq_true rfl)) dM_act_206 ⟨Nat.le_of_ble_eq_true rfl, Nat.le_of_ble_eq_true rfl⟩) I (fun N1 H locs hp I => ?_)
                      have hE := hp
                      refine lv_goto (tgt := 308) hx hb dM_act_209 (by decide) ?_
                      refine lv_lload hx hb dM_act_308 (lv_at hl 0 rfl) ?_
                      exact mp_lret hx hb hr hlocks I (Nat.le_of_ble_eq_true rfl) (Nat.le_of_ble_eq_true rfl) dM_act_310 (Or.inl ⟨hg, by rw [hxi, ← hget]; unfold pm; rw [if_neg (show ¬ act.toInt = 1 by omega), if_pos (show act.toInt = 2 by omega)]; exact ⟨rfl, hE⟩⟩)
                    · refine lv_tableIn (off := 64) (tgt := 212) hx hb dM_act_148 (by rw [show act.toInt = act.toInt from rfl]; omega) (by rw [show act.toInt = act.toInt from rfl]; omega) (by rw [show act.toInt = act.toInt from rfl, c_210]; rfl) (by decide) ?_
                      refine lv_lload hx hb dM_act_212 (lv_at hl 0 rfl) ?_
                      refine lv_lload_n hx hb dM_act_214 rfl (lv_at hl 6 rfl) ?_
                      have hget := hp
                      refine W.lcmp hx hb dM_act_215 ?_
                      refine lv_if_ne (tgt := 226) hx hb dM_act_216 (by decide) (fun c_213 => ?_) (fun c_213 => ?_)
                      all_goals rw [lg_cmp_eq] at c_213
                      · refine lv_lload hx hb dM_act_226 (lv_at hl 0 rfl) ?_
                        refine lv_lload_n hx hb dM_act_228 rfl (lv_at hl 6 rfl) ?_
                        refine W.lcmp hx hb dM_act_229 ?_
                        refine lv_if_ne (tgt := 237) hx hb dM_act_230 (by decide) (fun c_214 => ?_) (fun c_214 => ?_)
                        all_goals rw [lg_cmp_eq] at c_214
                        · refine lv_lconst (v := 0) hx hb dM_act_237 (by decide) ?_
                          exact mp_lret hx hb hr hlocks I (Nat.le_of_ble_eq_true rfl) (Nat.le_of_ble_eq_true rfl) dM_act_238 (Or.inl ⟨hg, by rw [hxi, ← hget]; unfold pm; rw [if_neg (show ¬ act.toInt = 1 by omega), if_neg (show ¬ act.toInt = 2 by omega), if_pos (show act.toInt = 3 by omega), if_neg c_213]; exact ⟨rfl, hE⟩⟩)
                        · exact absurd c_214 c_213
                      · refine lv_aload_n hx hb dM_act_219 rfl (lv_at hl 3 rfl) ?_
                        refine lv_iload_n hx hb dM_act_220 rfl (lv_at hl 4 rfl) ?_
                        refine lv_lload hx hb dM_act_221 (lv_at hl 7 rfl) ?_
                        refine mp_callv (va_runV (As := [.int (nI xn), .long w]) (rest := []) ⟨hx, hb, hml, hown, hts⟩ (kM_set l D k M_206 hE hO xn (by omega) w _) (cwV 2 hts (bw_V bw_456 bw_458 bs_17 bw_2 bw_459) rfl rfl rfl (by decide +kernel) ⟨Nat.le_of_ble_eq_true rfl, Nat.le_of_ble_eq_true rfl⟩) (mp_preV I h0__M_206 rfl _) rfl rfl hl.1 rfl (lv_room (Nat.le_of_ble_eq_true rfl)) dM_act_223 ⟨Nat.le_of_ble_eq_true rfl, Nat.le_of_ble_eq_true rfl⟩) I (fun N1 H locs hp I => ?_)
                        have hE := hp
                        refine lv_lload hx hb dM_act_226 (lv_at hl 0 rfl) ?_
                        refine lv_lload_n hx hb dM_act_228 rfl (lv_at hl 6 rfl) ?_
                        refine W.lcmp hx hb dM_act_229 ?_
                        refine lv_if_ne (tgt := 237) hx hb dM_act_230 (by decide) (fun c_216 => ?_) (fun c_216 => ?_)
                        all_goals rw [lg_cmp_eq] at c_216
                        · exact absurd c_213 c_216
                        · refine lv_lconst (v := 1) hx hb dM_act_233 (by decide) ?_
                          refine lv_goto (tgt := 238) hx hb dM_act_234 (by decide) ?_
                          exact mp_lret hx hb hr hlocks I (Nat.le_of_ble_eq_true rfl) (Nat.le_of_ble_eq_true rfl) dM_act_238 (Or.inl ⟨hg, by rw [hxi, ← hget]; unfold pm; rw [if_neg (show ¬ act.toInt = 1 by omega), if_neg (show ¬ act.toInt = 2 by omega), if_pos (show act.toInt = 3 by omega), if_pos c_213]; exact ⟨rfl, hE⟩⟩)
                    · refine lv_tableIn (off := 91) (tgt := 239) hx hb dM_act_148 (by rw [show act.toInt = act.toInt from rfl]; omega) (by rw [show act.toInt = act.toInt from rfl]; omega) (by rw [show act.toInt = act.toInt from rfl, c_210]; rfl) (by decide) ?_
                      refine lv_aload_n hx hb dM_act_239 rfl (lv_at hl 3 rfl) ?_
                      refine lv_iload_n hx hb dM_act_240 rfl (lv_at hl 4 rfl) ?_
                      refine lv_iload hx hb dM_act_241 (lv_at hl 2 rfl) ?_
                      refine lv_lload hx hb dM_act_243 (lv_at hl 0 rfl) ?_
                      refine lv_lload_n hx hb dM_act_245 rfl (lv_at hl 6 rfl) ?_
                      refine lv_ladd hx hb dM_act_246 ?_
                      have hget := hp
                      refine mp_calll (va_runS (As := [.int (nI (sk xn)), .long (hd_ + v)]) (rest := [.int (nI xn), .ref mo]) ⟨hx, hb, hml, hown, hts⟩ (kM_as l D k M_206 (sk xn) (hd_ + v) (by omega) _) (cwS 2 hts (bw_S bw_447 bw_448 bw_2 bw_449) rfl rfl rfl (by decide +kernel) ⟨Nat.le_of_ble_eq_true rfl, Nat.le_of_ble_eq_true rfl⟩) (mp_preS I _) rfl rfl hl.1 rfl (lv_room (Nat.le_of_ble_eq_true rfl)) dM_act_247 ⟨Nat.le_of_ble_eq_true rfl, Nat.le_of_ble_eq_true rfl⟩) I (fun r2 N1 H locs hp I => ?_)
                      obtain ⟨e_217, hp⟩ := hp
                      rw [e_217] at I
                      subst hp
                      refine mp_callv (va_runV (As := [.int (nI xn), .long (lb (sk xn) (hd_ + v))]) (rest := []) ⟨hx, hb, hml, hown, hts⟩ (kM_set l D k M_206 hE hO xn (by omega) (lb (sk xn) (hd_ + v)) _) (cwV 2 hts (bw_V bw_456 bw_458 bs_17 bw_2 bw_459) rfl rfl rfl (by decide +kernel) ⟨Nat.le_of_ble_eq_true rfl, Nat.le_of_ble_eq_true rfl⟩) (mp_preV I h0__M_206 rfl _) rfl rfl hl.1 rfl (lv_room (Nat.le_of_ble_eq_true rfl)) dM_act_250 ⟨Nat.le_of_ble_eq_true rfl, Nat.le_of_ble_eq_true rfl⟩) I (fun N1 H locs hp I => ?_)
                      have hE := hp
                      refine lv_goto (tgt := 308) hx hb dM_act_253 (by decide) ?_
                      refine lv_lload hx hb dM_act_308 (lv_at hl 0 rfl) ?_
                      exact mp_lret hx hb hr hlocks I (Nat.le_of_ble_eq_true rfl) (Nat.le_of_ble_eq_true rfl) dM_act_310 (Or.inl ⟨hg, by rw [hxi, ← hget]; unfold pm; rw [if_neg (show ¬ act.toInt = 1 by omega), if_neg (show ¬ act.toInt = 2 by omega), if_neg (show ¬ act.toInt = 3 by omega), if_pos (show act.toInt = 4 by omega)]; exact ⟨rfl, hE⟩⟩)
                    · refine lv_tableIn (off := 108) (tgt := 256) hx hb dM_act_148 (by rw [show act.toInt = act.toInt from rfl]; omega) (by rw [show act.toInt = act.toInt from rfl]; omega) (by rw [show act.toInt = act.toInt from rfl, c_210]; rfl) (by decide) ?_
                      refine lv_aload_n hx hb dM_act_256 rfl (lv_at hl 3 rfl) ?_
                      refine lv_iload_n hx hb dM_act_257 rfl (lv_at hl 4 rfl) ?_
                      refine lv_iload hx hb dM_act_258 (lv_at hl 2 rfl) ?_
                      refine lv_lload hx hb dM_act_260 (lv_at hl 0 rfl) ?_
                      refine lv_lload_n hx hb dM_act_262 rfl (lv_at hl 6 rfl) ?_
                      refine lv_land hx hb dM_act_263 ?_
                      have hget := hp
                      refine mp_calll (va_runS (As := [.int (nI (sk xn)), .long (hd_ &&& v)]) (rest := [.int (nI xn), .ref mo]) ⟨hx, hb, hml, hown, hts⟩ (kM_as l D k M_206 (sk xn) (hd_ &&& v) (by omega) _) (cwS 2 hts (bw_S bw_447 bw_448 bw_2 bw_449) rfl rfl rfl (by decide +kernel) ⟨Nat.le_of_ble_eq_true rfl, Nat.le_of_ble_eq_true rfl⟩) (mp_preS I _) rfl rfl hl.1 rfl (lv_room (Nat.le_of_ble_eq_true rfl)) dM_act_264 ⟨Nat.le_of_ble_eq_true rfl, Nat.le_of_ble_eq_true rfl⟩) I (fun r2 N1 H locs hp I => ?_)
                      obtain ⟨e_219, hp⟩ := hp
                      rw [e_219] at I
                      subst hp
                      refine mp_callv (va_runV (As := [.int (nI xn), .long (lb (sk xn) (hd_ &&& v))]) (rest := []) ⟨hx, hb, hml, hown, hts⟩ (kM_set l D k M_206 hE hO xn (by omega) (lb (sk xn) (hd_ &&& v)) _) (cwV 2 hts (bw_V bw_456 bw_458 bs_17 bw_2 bw_459) rfl rfl rfl (by decide +kernel) ⟨Nat.le_of_ble_eq_true rfl, Nat.le_of_ble_eq_true rfl⟩) (mp_preV I h0__M_206 rfl _) rfl rfl hl.1 rfl (lv_room (Nat.le_of_ble_eq_true rfl)) dM_act_267 ⟨Nat.le_of_ble_eq_true rfl, Nat.le_of_ble_eq_true rfl⟩) I (fun N1 H locs hp I => ?_)
                      have hE := hp
                      refine lv_goto (tgt := 308) hx hb dM_act_270 (by decide) ?_
                      refine lv_lload hx hb dM_act_308 (lv_at hl 0 rfl) ?_
                      exact mp_lret hx hb hr hlocks I (Nat.le_of_ble_eq_true rfl) (Nat.le_of_ble_eq_true rfl) dM_act_310 (Or.inl ⟨hg, by rw [hxi, ← hget]; unfold pm; rw [if_neg (show ¬ act.toInt = 1 by omega), if_neg (show ¬ act.toInt = 2 by omega), if_neg (show ¬ act.toInt = 3 by omega), if_neg (show ¬ act.toInt = 4 by omega), if_pos (show act.toInt = 5 by omega)]; exact ⟨rfl, hE⟩⟩)
                    · refine lv_tableIn (off := 125) (tgt := 273) hx hb dM_act_148 (by rw [show act.toInt = act.toInt from rfl]; omega) (by rw [show act.toInt = act.toInt from rfl]; omega) (by rw [show act.toInt = act.toInt from rfl, c_210]; rfl) (by decide) ?_
                      refine lv_aload_n hx hb dM_act_273 rfl (lv_at hl 3 rfl) ?_
                      refine lv_iload_n hx hb dM_act_274 rfl (lv_at hl 4 rfl) ?_
                      refine lv_iload hx hb dM_act_275 (lv_at hl 2 rfl) ?_
                      refine lv_lload hx hb dM_act_277 (lv_at hl 0 rfl) ?_
                      refine lv_lload_n hx hb dM_act_279 rfl (lv_at hl 6 rfl) ?_
                      refine lv_lor hx hb dM_act_280 ?_
                      have hget := hp
                      refine mp_calll (va_runS (As := [.int (nI (sk xn)), .long (hd_ ||| v)]) (rest := [.int (nI xn), .ref mo]) ⟨hx, hb, hml, hown, hts⟩ (kM_as l D k M_206 (sk xn) (hd_ ||| v) (by omega) _) (cwS 2 hts (bw_S bw_447 bw_448 bw_2 bw_449) rfl rfl rfl (by decide +kernel) ⟨Nat.le_of_ble_eq_true rfl, Nat.le_of_ble_eq_true rfl⟩) (mp_preS I _) rfl rfl hl.1 rfl (lv_room (Nat.le_of_ble_eq_true rfl)) dM_act_281 ⟨Nat.le_of_ble_eq_true rfl, Nat.le_of_ble_eq_true rfl⟩) I (fun r2 N1 H locs hp I => ?_)
                      obtain ⟨e_221, hp⟩ := hp
                      rw [e_221] at I
                      subst hp
                      refine mp_callv (va_runV (As := [.int (nI xn), .long (lb (sk xn) (hd_ ||| v))]) (rest := []) ⟨hx, hb, hml, hown, hts⟩ (kM_set l D k M_206 hE hO xn (by omega) (lb (sk xn) (hd_ ||| v)) _) (cwV 2 hts (bw_V bw_456 bw_458 bs_17 bw_2 bw_459) rfl rfl rfl (by decide +kernel) ⟨Nat.le_of_ble_eq_true rfl, Nat.le_of_ble_eq_true rfl⟩) (mp_preV I h0__M_206 rfl _) rfl rfl hl.1 rfl (lv_room (Nat.le_of_ble_eq_true rfl)) dM_act_284 ⟨Nat.le_of_ble_eq_true rfl, Nat.le_of_ble_eq_true rfl⟩) I (fun N1 H locs hp I => ?_)
                      have hE := hp
                      refine lv_goto (tgt := 308) hx hb dM_act_287 (by decide) ?_
                      refine lv_lload hx hb dM_act_308 (lv_at hl 0 rfl) ?_
                      exact mp_lret hx hb hr hlocks I (Nat.le_of_ble_eq_true rfl) (Nat.le_of_ble_eq_true rfl) dM_act_310 (Or.inl ⟨hg, by rw [hxi, ← hget]; unfold pm; rw [if_neg (show ¬ act.toInt = 1 by omega), if_neg (show ¬ act.toInt = 2 by omega), if_neg (show ¬ act.toInt = 3 by omega), if_neg (show ¬ act.toInt = 4 by omega), if_neg (show ¬ act.toInt = 5 by omega), if_pos (show act.toInt = 6 by omega)]; exact ⟨rfl, hE⟩⟩)
                    · refine lv_tableOut (tgt := 290) hx hb dM_act_148 (by rw [show act.toInt = act.toInt from rfl]; exact c_210) (by decide) ?_
                      refine lv_aload_n hx hb dM_act_290 rfl (lv_at hl 3 rfl) ?_
                      refine lv_iload_n hx hb dM_act_291 rfl (lv_at hl 4 rfl) ?_
                      refine lv_lload hx hb dM_act_292 (lv_at hl 0 rfl) ?_
                      refine lv_lload_n hx hb dM_act_294 rfl (lv_at hl 6 rfl) ?_
                      have hget := hp
                      refine W.lcmp hx hb dM_act_295 ?_
                      refine lv_if_le (tgt := 304) hx hb dM_act_296 (by decide) (fun c_223 => ?_) (fun c_223 => ?_)
                      all_goals rw [lg_cmp_le] at c_223
                      · refine lv_lload_n hx hb dM_act_304 rfl (lv_at hl 6 rfl) ?_
                        refine mp_callv (va_runV (As := [.int (nI xn), .long v]) (rest := []) ⟨hx, hb, hml, hown, hts⟩ (kM_set l D k M_206 hE hO xn (by omega) v _) (cwV 2 hts (bw_V bw_456 bw_458 bs_17 bw_2 bw_459) rfl rfl rfl (by decide +kernel) ⟨Nat.le_of_ble_eq_true rfl, Nat.le_of_ble_eq_true rfl⟩) (mp_preV I h0__M_206 rfl _) rfl rfl hl.1 rfl (lv_room (Nat.le_of_ble_eq_true rfl)) dM_act_305 ⟨Nat.le_of_ble_eq_true rfl, Nat.le_of_ble_eq_true rfl⟩) I (fun N1 H locs hp I => ?_)
                        have hE := hp
                        refine lv_lload hx hb dM_act_308 (lv_at hl 0 rfl) ?_
                        exact mp_lret hx hb hr hlocks I (Nat.le_of_ble_eq_true rfl) (Nat.le_of_ble_eq_true rfl) dM_act_310 (Or.inl ⟨hg, by rw [hxi, ← hget]; unfold pm; rw [if_neg (show ¬ act.toInt = 1 by omega), if_neg (show ¬ act.toInt = 2 by omega), if_neg (show ¬ act.toInt = 3 by omega), if_neg (show ¬ act.toInt = 4 by omega), if_neg (show ¬ act.toInt = 5 by omega), if_neg (show ¬ act.toInt = 6 by omega), if_pos (show act.toInt = 7 by unfold gact aok at hg; omega), if_neg (Int64.not_lt.mpr c_223)]; exact ⟨rfl, hE⟩⟩)
                      · refine lv_lload hx hb dM_act_299 (lv_at hl 0 rfl) ?_
                        refine lv_goto (tgt := 305) hx hb dM_act_301 (by decide) ?_
                        refine mp_callv (va_runV (As := [.int (nI xn), .long hd_]) (rest := []) ⟨hx, hb, hml, hown, hts⟩ (kM_set l D k M_206 hE hO xn (by omega) hd_ _) (cwV 2 hts (bw_V bw_456 bw_458 bs_17 bw_2 bw_459) rfl rfl rfl (by decide +kernel) ⟨Nat.le_of_ble_eq_true rfl, Nat.le_of_ble_eq_true rfl⟩) (mp_preV I h0__M_206 rfl _) rfl rfl hl.1 rfl (lv_room (Nat.le_of_ble_eq_true rfl)) dM_act_305 ⟨Nat.le_of_ble_eq_true rfl, Nat.le_of_ble_eq_true rfl⟩) I (fun N1 H locs hp I => ?_)
                        have hE := hp
                        refine lv_lload hx hb dM_act_308 (lv_at hl 0 rfl) ?_
                        exact mp_lret hx hb hr hlocks I (Nat.le_of_ble_eq_true rfl) (Nat.le_of_ble_eq_true rfl) dM_act_310 (Or.inl ⟨hg, by rw [hxi, ← hget]; unfold pm; rw [if_neg (show ¬ act.toInt = 1 by omega), if_neg (show ¬ act.toInt = 2 by omega), if_neg (show ¬ act.toInt = 3 by omega), if_neg (show ¬ act.toInt = 4 by omega), if_neg (show ¬ act.toInt = 5 by omega), if_neg (show ¬ act.toInt = 6 by omega), if_pos (show act.toInt = 7 by unfold gact aok at hg; omega), if_pos (Int64.not_le.mp c_223)]; exact ⟨rfl, hE⟩⟩)
                  · refine lv_aload_n hx hb dM_act_101 rfl (lv_at hl 2 rfl) ?_
                    refine lv_iload hx hb dM_act_102 (lv_at hl 1 rfl) ?_
                    refine lv_lload hx hb dM_act_104 (lv_at hl 6 rfl) ?_
                    refine mp_calli (va_runV (As := [.int (nI (sk xn)), .long w]) (rest := []) ⟨hx, hb, hml, hown, hts⟩ (kM_isValue l D k M hE hO (sk xn) w (by omega) _) (cwV 2 hts (bw_V bw_443 bw_445 bs_15 bw_2 bw_446) rfl rfl rfl (by decide +kernel) ⟨Nat.le_of_ble_eq_true rfl, Nat.le_of_ble_eq_true rfl⟩) (mp_preV I h0 rfl _) rfl rfl hl.1 rfl (lv_room (Nat.le_of_ble_eq_true rfl)) dM_act_106 ⟨Nat.le_of_ble_eq_true rfl, Nat.le_of_ble_eq_true rfl⟩) I (fun r_226 N_227 H locs hp I => ?_)
                    obtain ⟨e_228, hp⟩ := hp
                    rw [e_228] at I
                    rcases hp with ⟨p5, rfl⟩ | ⟨p5, rfl⟩
                    · refine zz_if_eq (tgt := 116) hx hb (nI_toInt (by decide)) dM_act_109 (by decide) (fun c_229 => absurd c_229 (by decide)) (fun _ => ?_)
                      refine lv_iconst (v := nI 1) hx hb dM_act_112 (by decide) ?_
                      refine lv_goto (tgt := 117) hx hb dM_act_113 (by decide) ?_
                      refine lv_istore (lv' := [(7, .int (nI 1)), (8, .int (nI (sk xn))), (0, .ref mo), (1, .int (nI xn)), (2, .int act), (3, .long v), (5, .long w)]) hx hb dM_act_117 hl (by decide) rfl (fun ls hl => ?_)
                      refine lv_aload_n hx hb dM_act_119 rfl (lv_at hl 2 rfl) ?_
                      refine lv_iload hx hb dM_act_120 (lv_at hl 0 rfl) ?_
                      refine zz_if_eq (tgt := 129) hx hb (nI_toInt (by decide)) dM_act_122 (by decide) (fun c_230 => absurd c_230 (by decide)) (fun _ => ?_)
                      refine lv_iconst (v := nI 0) hx hb dM_act_125 (by decide) ?_
                      refine lv_goto (tgt := 130) hx hb dM_act_126 (by decide) ?_
                      refine mp_put (v := .int (nI 0)) (ty := .int) hx hb hts inM tyM okM nmM hown I h0 rfl 17 (by decide) (hts _ bw_348) (fun _ h9 => h9) rfl (by decide +kernel) rfl rfl (Nat.le_of_ble_eq_true rfl) dM_act_130 (fun H locs I => ?_)
                      have I : mp_I D cls5 (tys6 k) s _ s.heap H locs (mp_up M mo (.inr (4, [.ref el, .ref ek, .int (nI ec), .ref bg, .ref sz, .ref kn, .int (nI tc), .ref rw, .int (nI wc), .ref pp, .ref pk, .ref wd, .ref lo, .int (nI sc), .ref kp, .ref ks, .int (nI nc), .int (nI 0)]))) := I
                      have h0_n : mp_up M mo (.inr (4, [.ref el, .ref ek, .int (nI ec), .ref bg, .ref sz, .ref kn, .int (nI tc), .ref rw, .int (nI wc), .ref pp, .ref pk, .ref wd, .ref lo, .int (nI sc), .ref kp, .ref ks, .int (nI nc), .int (nI 0)])) mo = some (.inr (4, [.ref el, .ref ek, .int (nI ec), .ref bg, .ref sz, .ref kn, .int (nI tc), .ref rw, .int (nI wc), .ref pp, .ref pk, .ref wd, .ref lo, .int (nI sc), .ref kp, .ref ks, .int (nI nc), .int (nI 0)])) := mp_up_s _ _ _
                      have hel_n : mp_up M mo (.inr (4, [.ref el, .ref ek, .int (nI ec), .ref bg, .ref sz, .ref kn, .int (nI tc), .ref rw, .int (nI wc), .ref pp, .ref pk, .ref wd, .ref lo, .int (nI sc), .ref kp, .ref ks, .int (nI nc), .int (nI 0)])) el = some (.inl (k 1, 4000, .inr (.inl va))) := (mp_up_n (mp_ne hel h0 (by simp))).trans hel
                      have hek_n : mp_up M mo (.inr (4, [.ref el, .ref ek, .int (nI ec), .ref bg, .ref sz, .ref kn, .int (nI tc), .ref rw, .int (nI wc), .ref pp, .ref pk, .ref wd, .ref lo, .int (nI sc), .ref kp, .ref ks, .int (nI nc), .int (nI 0)])) ek = some (.inl (k 0, 4000, .inl (fun i_ => nI (kd i_)))) := (mp_up_n (mp_ne hek h0 (by simp))).trans hek
                      have hbg_n : mp_up M mo (.inr (4, [.ref el, .ref ek, .int (nI ec), .ref bg, .ref sz, .ref kn, .int (nI tc), .ref rw, .int (nI wc), .ref pp, .ref pk, .ref wd, .ref lo, .int (nI sc), .ref kp, .ref ks, .int (nI nc), .int (nI 0)])) bg = some (.inl (k 0, 300, .inl (fun i_ => nI (tf i_)))) := (mp_up_n (mp_ne hbg h0 (by simp))).trans hbg
                      have hsz_n : mp_up M mo (.inr (4, [.ref el, .ref ek, .int (nI ec), .ref bg, .ref sz, .ref kn, .int (nI tc), .ref rw, .int (nI wc), .ref pp, .ref pk, .ref wd, .ref lo, .int (nI sc), .ref kp, .ref ks, .int (nI nc), .int (nI 0)])) sz = some (.inl (k 0, 300, .inl (fun i_ => nI (tz i_)))) := (mp_up_n (mp_ne hsz h0 (by simp))).trans hsz
                      have hkn_n : mp_up M mo (.inr (4, [.ref el, .ref ek, .int (nI ec), .ref bg, .ref sz, .ref kn, .int (nI tc), .ref rw, .int (nI wc), .ref pp, .ref pk, .ref wd, .ref lo, .int (nI sc), .ref kp, .ref ks, .int (nI nc), .int (nI 0)])) kn = some (.inl (k 0, 300, .inl (fun i_ => nI (tk i_)))) := (mp_up_n (mp_ne hkn h0 (by simp))).trans hkn
                      have hrw_n : mp_up M mo (.inr (4, [.ref el, .ref ek, .int (nI ec), .ref bg, .ref sz, .ref kn, .int (nI tc), .ref rw, .int (nI wc), .ref pp, .ref pk, .ref wd, .ref lo, .int (nI sc), .ref kp, .ref ks, .int (nI nc), .int (nI 0)])) rw = some (.inl (k 0, 12, .inl (fun i_ => nI (wt i_)))) := (mp_up_n (mp_ne hrw h0 (by simp))).trans hrw
                      have hpp_n : mp_up M mo (.inr (4, [.ref el, .ref ek, .int (nI ec), .ref bg, .ref sz, .ref kn, .int (nI tc), .ref rw, .int (nI wc), .ref pp, .ref pk, .ref wd, .ref lo, .int (nI sc), .ref kp, .ref ks, .int (nI nc), .int (nI 0)])) pp = some (.inl (k 0, 100, .inl (fun i_ => nI (sf i_)))) := (mp_up_n (mp_ne hpp h0 (by simp))).trans hpp
                      have hpk_n : mp_up M mo (.inr (4, [.ref el, .ref ek, .int (nI ec), .ref bg, .ref sz, .ref kn, .int (nI tc), .ref rw, .int (nI wc), .ref pp, .ref pk, .ref wd, .ref lo, .int (nI sc), .ref kp, .ref ks, .int (nI nc), .int (nI 0)])) pk = some (.inl (k 0, 100, .inl (fun i_ => nI (sk i_)))) := (mp_up_n (mp_ne hpk h0 (by simp))).trans hpk
                      have hwd_n : mp_up M mo (.inr (4, [.ref el, .ref ek, .int (nI ec), .ref bg, .ref sz, .ref kn, .int (nI tc), .ref rw, .int (nI wc), .ref pp, .ref pk, .ref wd, .ref lo, .int (nI sc), .ref kp, .ref ks, .int (nI nc), .int (nI 0)])) wd = some (.inl (k 0, 100, .inl (fun i_ => nI (sw i_)))) := (mp_up_n (mp_ne hwd h0 (by simp))).trans hwd
                      have hlo_n : mp_up M mo (.inr (4, [.ref el, .ref ek, .int (nI ec), .ref bg, .ref sz, .ref kn, .int (nI tc), .ref rw, .int (nI wc), .ref pp, .ref pk, .ref wd, .ref lo, .int (nI sc), .ref kp, .ref ks, .int (nI nc), .int (nI 0)])) lo = some (.inl (k 5, 100, .inl (fun i_ => nI (ml i_)))) := (mp_up_n (mp_ne hlo h0 (by simp))).trans hlo
                      have hkp_n : mp_up M mo (.inr (4, [.ref el, .ref ek, .int (nI ec), .ref bg, .ref sz, .ref kn, .int (nI tc), .ref rw, .int (nI wc), .ref pp, .ref pk, .ref wd, .ref lo, .int (nI sc), .ref kp, .ref ks, .int (nI nc), .int (nI 0)])) kp = some (.inl (k 1, 80000, .inr (.inl mk))) := (mp_up_n (mp_ne hkp h0 (by simp))).trans hkp
                      have hks_n : mp_up M mo (.inr (4, [.ref el, .ref ek, .int (nI ec), .ref bg, .ref sz, .ref kn, .int (nI tc), .ref rw, .int (nI wc), .ref pp, .ref pk, .ref wd, .ref lo, .int (nI sc), .ref kp, .ref ks, .int (nI nc), .int (nI 0)])) ks = some (.inl (k 0, 20, .inl (fun i_ => nI (nn i_)))) := (mp_up_n (mp_ne hks h0 (by simp))).trans hks
                      generalize eM_232 : mp_up M mo (.inr (4, [.ref el, .ref ek, .int (nI ec), .ref bg, .ref sz, .ref kn, .int (nI tc), .ref rw, .int (nI wc), .ref pp, .ref pk, .ref wd, .ref lo, .int (nI sc), .ref kp, .ref ks, .int (nI nc), .int (nI 0)])) = M_231 at I h0_n hel_n hek_n hbg_n hsz_n hkn_n hrw_n hpp_n hpk_n hwd_n hlo_n hkp_n hks_n
                      have h0__M_231 := h0_n
                      have hel__M_231 := hel_n
                      have hek__M_231 := hek_n
                      have hbg__M_231 := hbg_n
                      have hsz__M_231 := hsz_n
                      have hkn__M_231 := hkn_n
                      have hrw__M_231 := hrw_n
                      have hpp__M_231 := hpp_n
                      have hpk__M_231 := hpk_n
                      have hwd__M_231 := hwd_n
                      have hlo__M_231 := hlo_n
                      have hkp__M_231 := hkp_n
                      have hks__M_231 := hks_n
                      clear h0_n hel_n hek_n hbg_n hsz_n hkn_n hrw_n hpp_n hpk_n hwd_n hlo_n hkp_n hks_n
                      have hE := hE.cnt ec tc wc sc nc 0
                      rw [eM_232] at hE
                      refine lv_iload hx hb dM_act_133 (lv_at hl 0 rfl) ?_
                      refine zz_if_ne (tgt := 140) hx hb (nI_toInt (by decide)) dM_act_135 (by decide) (fun _ => ?_) (fun c_233 => absurd c_233 (by decide))
                      refine lv_aload_n hx hb dM_act_140 rfl (lv_at hl 2 rfl) ?_
                      refine lv_iload_n hx hb dM_act_141 rfl (lv_at hl 3 rfl) ?_
                      have hg : gact tc sc sk (nI xn).toInt act.toInt v w := by unfold gact; rw [hxi]; exact ⟨by omega, by omega, by unfold aok; omega, fun h => by first | exact p4 | (exfalso; omega), fun h => by first | exact p5 | (exfalso; omega)⟩
                      refine mp_calll (va_runV (As := [.int (nI xn)]) (rest := []) ⟨hx, hb, hml, hown, hts⟩ (kM_get l D k M_231 hE hO xn (by omega) _) (cwV 1 hts (bw_V bw_451 bw_453 bs_16 bw_2 bw_454) rfl rfl rfl (by decide +kernel) ⟨Nat.le_of_ble_eq_true rfl, Nat.le_of_ble_eq_true rfl⟩) (mp_preV I h0__M_231 rfl _) rfl rfl hl.1 rfl (lv_room (Nat.le_of_ble_eq_true rfl)) dM_act_142 ⟨Nat.le_of_ble_eq_true rfl, Nat.le_of_ble_eq_true rfl⟩) I (fun hd_ N1 H locs hp I => ?_)
                      obtain ⟨e_234, hp⟩ := hp
                      rw [e_234] at I
                      refine lv_lstore (lv' := [(9, .long hd_), (7, .int (nI 1)), (8, .int (nI (sk xn))), (0, .ref mo), (1, .int (nI xn)), (2, .int act), (3, .long v), (5, .long w)]) hx hb dM_act_145 hl (by decide) rfl (fun ls hl => ?_)
                      refine lv_iload_n hx hb dM_act_147 rfl (lv_at hl 5 rfl) ?_
                      have c_235 : act.toInt = 0 ∨ act.toInt = 1 ∨ act.toInt = 2 ∨ act.toInt = 3 ∨ act.toInt = 4 ∨ act.toInt = 5 ∨ act.toInt = 6 ∨ (act.toInt < 0 ∨ 6 < act.toInt) := by omega
                      rcases c_235 with c_235 | c_235 | c_235 | c_235 | c_235 | c_235 | c_235 | c_235
                      · refine lv_tableIn (off := 44) (tgt := 192) hx hb dM_act_148 (by rw [show act.toInt = act.toInt from rfl]; omega) (by rw [show act.toInt = act.toInt from rfl]; omega) (by rw [show act.toInt = act.toInt from rfl, c_235]; rfl) (by decide) ?_
                        refine lv_lload hx hb dM_act_192 (lv_at hl 0 rfl) ?_
                        exact mp_lret hx hb hr hlocks I (Nat.le_of_ble_eq_true rfl) (Nat.le_of_ble_eq_true rfl) dM_act_194 (Or.inl ⟨hg, by rw [hxi, ← hp]; unfold pm; rw [if_neg (show ¬ act.toInt = 1 by omega), if_neg (show ¬ act.toInt = 2 by omega), if_neg (show ¬ act.toInt = 3 by omega), if_neg (show ¬ act.toInt = 4 by omega), if_neg (show ¬ act.toInt = 5 by omega), if_neg (show ¬ act.toInt = 6 by omega), if_neg (show ¬ act.toInt = 7 by omega)]; exact ⟨rfl, hE⟩⟩)
                      · refine lv_tableIn (off := 47) (tgt := 195) hx hb dM_act_148 (by rw [show act.toInt = act.toInt from rfl]; omega) (by rw [show act.toInt = act.toInt from rfl]; omega) (by rw [show act.toInt = act.toInt from rfl, c_235]; rfl) (by decide) ?_
                        refine lv_aload_n hx hb dM_act_195 rfl (lv_at hl 3 rfl) ?_
                        refine lv_iload_n hx hb dM_act_196 rfl (lv_at hl 4 rfl) ?_
                        refine lv_lload_n hx hb dM_act_197 rfl (lv_at hl 6 rfl) ?_
                        have hget := hp
                        refine mp_callv (va_runV (As := [.int (nI xn), .long v]) (rest := []) ⟨hx, hb, hml, hown, hts⟩ (kM_set l D k M_231 hE hO xn (by omega) v _) (cwV 2 hts (bw_V bw_456 bw_458 bs_17 bw_2 bw_459) rfl rfl rfl (by decide +kernel) ⟨Nat.le_of_ble_eq_true rfl, Nat.le_of_ble_eq_true rfl⟩) (mp_preV I h0__M_231 rfl _) rfl rfl hl.1 rfl (lv_room (Nat.le_of_ble_eq_true rfl)) dM_act_198 ⟨Nat.le_of_ble_eq_true rfl, Nat.le_of_ble_eq_true rfl⟩) I (fun N1 H locs hp I => ?_)
                        have hE := hp
                        refine lv_lconst (v := 0) hx hb dM_act_201 (by decide) ?_
                        exact mp_lret hx hb hr hlocks I (Nat.le_of_ble_eq_true rfl) (Nat.le_of_ble_eq_true rfl) dM_act_202 (Or.inl ⟨hg, by rw [hxi, ← hget]; unfold pm; rw [if_pos (show act.toInt = 1 by omega)]; exact ⟨rfl, hE⟩⟩)
                      · refine lv_tableIn (off := 55) (tgt := 203) hx hb dM_act_148 (by rw [show act.toInt = act.toInt from rfl]; omega) (by rw [show act.toInt = act.toInt from rfl]; omega) (by rw [show act.toInt = act.toInt from rfl, c_235]; rfl) (by decide) ?_
                        refine lv_aload_n hx hb dM_act_203 rfl (lv_at hl 3 rfl) ?_
                        refine lv_iload_n hx hb dM_act_204 rfl (lv_at hl 4 rfl) ?_
                        refine lv_lload_n hx hb dM_act_205 rfl (lv_at hl 6 rfl) ?_
                        have hget := hp
                        refine mp_callv (va_runV (As := [.int (nI xn), .long v]) (rest := []) ⟨hx, hb, hml, hown, hts⟩ (kM_set l D k M_231 hE hO xn (by omega) v _) (cwV 2 hts (bw_V bw_456 bw_458 bs_17 bw_2 bw_459) rfl rfl rfl (by decide +kernel) ⟨Nat.le_of_ble_eq_true rfl, Nat.le_of_ble_eq_true rfl⟩) (mp_preV I h0__M_231 rfl _) rfl rfl hl.1 rfl (lv_room (Nat.le_of_ble_eq_true rfl)) dM_act_206 ⟨Nat.le_of_ble_eq_true rfl, Nat.le_of_ble_eq_true rfl⟩) I (fun N1 H locs hp I => ?_)
                        have hE := hp
                        refine lv_goto (tgt := 308) hx hb dM_act_209 (by decide) ?_
                        refine lv_lload hx hb dM_act_308 (lv_at hl 0 rfl) ?_
                        exact mp_lret hx hb hr hlocks I (Nat.le_of_ble_eq_true rfl) (Nat.le_of_ble_eq_true rfl) dM_act_310 (Or.inl ⟨hg, by rw [hxi, ← hget]; unfold pm; rw [if_neg (show ¬ act.toInt = 1 by omega), if_pos (show act.toInt = 2 by omega)]; exact ⟨rfl, hE⟩⟩)
                      · refine lv_tableIn (off := 64) (tgt := 212) hx hb dM_act_148 (by rw [show act.toInt = act.toInt from rfl]; omega) (by rw [show act.toInt = act.toInt from rfl]; omega) (by rw [show act.toInt = act.toInt from rfl, c_235]; rfl) (by decide) ?_
                        refine lv_lload hx hb dM_act_212 (lv_at hl 0 rfl) ?_
                        refine lv_lload_n hx hb dM_act_214 rfl (lv_at hl 6 rfl) ?_
                        have hget := hp
                        refine W.lcmp hx hb dM_act_215 ?_
                        refine lv_if_ne (tgt := 226) hx hb dM_act_216 (by decide) (fun c_238 => ?_) (fun c_238 => ?_)
                        all_goals rw [lg_cmp_eq] at c_238
                        · refine lv_lload hx hb dM_act_226 (lv_at hl 0 rfl) ?_
                          refine lv_lload_n hx hb dM_act_228 rfl (lv_at hl 6 rfl) ?_
                          refine W.lcmp hx hb dM_act_229 ?_
                          refine lv_if_ne (tgt := 237) hx hb dM_act_230 (by decide) (fun c_239 => ?_) (fun c_239 => ?_)
                          all_goals rw [lg_cmp_eq] at c_239
                          · refine lv_lconst (v := 0) hx hb dM_act_237 (by decide) ?_
                            exact mp_lret hx hb hr hlocks I (Nat.le_of_ble_eq_true rfl) (Nat.le_of_ble_eq_true rfl) dM_act_238 (Or.inl ⟨hg, by rw [hxi, ← hget]; unfold pm; rw [if_neg (show ¬ act.toInt = 1 by omega), if_neg (show ¬ act.toInt = 2 by omega), if_pos (show act.toInt = 3 by omega), if_neg c_238]; exact ⟨rfl, hE⟩⟩)
                          · exact absurd c_239 c_238
                        · refine lv_aload_n hx hb dM_act_219 rfl (lv_at hl 3 rfl) ?_
                          refine lv_iload_n hx hb dM_act_220 rfl (lv_at hl 4 rfl) ?_
                          refine lv_lload hx hb dM_act_221 (lv_at hl 7 rfl) ?_
                          refine mp_callv (va_runV (As := [.int (nI xn), .long w]) (rest := []) ⟨hx, hb, hml, hown, hts⟩ (kM_set l D k M_231 hE hO xn (by omega) w _) (cwV 2 hts (bw_V bw_456 bw_458 bs_17 bw_2 bw_459) rfl rfl rfl (by decide +kernel) ⟨Nat.le_of_ble_eq_true rfl, Nat.le_of_ble_eq_true rfl⟩) (mp_preV I h0__M_231 rfl _) rfl rfl hl.1 rfl (lv_room (Nat.le_of_ble_eq_true rfl)) dM_act_223 ⟨Nat.le_of_ble_eq_true rfl, Nat.le_of_ble_eq_true rfl⟩) I (fun N1 H locs hp I => ?_)
                          have hE := hp
                          refine lv_lload hx hb dM_act_226 (lv_at hl 0 rfl) ?_
                          refine lv_lload_n hx hb dM_act_228 rfl (lv_at hl 6 rfl) ?_
                          refine W.lcmp hx hb dM_act_229 ?_
                          refine lv_if_ne (tgt := 237) hx hb dM_act_230 (by decide) (fun c_241 => ?_) (fun c_241 => ?_)
                          all_goals rw [lg_cmp_eq] at c_241
                          · exact absurd c_238 c_241
                          · refine lv_lconst (v := 1) hx hb dM_act_233 (by decide) ?_
                            refine lv_goto (tgt := 238) hx hb dM_act_234 (by decide) ?_
                            exact mp_lret hx hb hr hlocks I (Nat.le_of_ble_eq_true rfl) (Nat.le_of_ble_eq_true rfl) dM_act_238 (Or.inl ⟨hg, by rw [hxi, ← hget]; unfold pm; rw [if_neg (show ¬ act.toInt = 1 by omega), if_neg (show ¬ act.toInt = 2 by omega), if_pos (show act.toInt = 3 by omega), if_pos c_238]; exact ⟨rfl, hE⟩⟩)
                      · refine lv_tableIn (off := 91) (tgt := 239) hx hb dM_act_148 (by rw [show act.toInt = act.toInt from rfl]; omega) (by rw [show act.toInt = act.toInt from rfl]; omega) (by rw [show act.toInt = act.toInt from rfl, c_235]; rfl) (by decide) ?_
                        refine lv_aload_n hx hb dM_act_239 rfl (lv_at hl 3 rfl) ?_
                        refine lv_iload_n hx hb dM_act_240 rfl (lv_at hl 4 rfl) ?_
                        refine lv_iload hx hb dM_act_241 (lv_at hl 2 rfl) ?_
                        refine lv_lload hx hb dM_act_243 (lv_at hl 0 rfl) ?_
                        refine lv_lload_n hx hb dM_act_245 rfl (lv_at hl 6 rfl) ?_
                        refine lv_ladd hx hb dM_act_246 ?_
                        have hget := hp
                        refine mp_calll (va_runS (As := [.int (nI (sk xn)), .long (hd_ + v)]) (rest := [.int (nI xn), .ref mo]) ⟨hx, hb, hml, hown, hts⟩ (kM_as l D k M_231 (sk xn) (hd_ + v) (by omega) _) (cwS 2 hts (bw_S bw_447 bw_448 bw_2 bw_449) rfl rfl rfl (by decide +kernel) ⟨Nat.le_of_ble_eq_true rfl, Nat.le_of_ble_eq_true rfl⟩) (mp_preS I _) rfl rfl hl.1 rfl (lv_room (Nat.le_of_ble_eq_true rfl)) dM_act_247 ⟨Nat.le_of_ble_eq_true rfl, Nat.le_of_ble_eq_true rfl⟩) I (fun r2 N1 H locs hp I => ?_)
                        obtain ⟨e_242, hp⟩ := hp
                        rw [e_242] at I
                        subst hp
                        refine mp_callv (va_runV (As := [.int (nI xn), .long (lb (sk xn) (hd_ + v))]) (rest := []) ⟨hx, hb, hml, hown, hts⟩ (kM_set l D k M_231 hE hO xn (by omega) (lb (sk xn) (hd_ + v)) _) (cwV 2 hts (bw_V bw_456 bw_458 bs_17 bw_2 bw_459) rfl rfl rfl (by decide +kernel) ⟨Nat.le_of_ble_eq_true rfl, Nat.le_of_ble_eq_true rfl⟩) (mp_preV I h0__M_231 rfl _) rfl rfl hl.1 rfl (lv_room (Nat.le_of_ble_eq_true rfl)) dM_act_250 ⟨Nat.le_of_ble_eq_true rfl, Nat.le_of_ble_eq_true rfl⟩) I (fun N1 H locs hp I => ?_)
                        have hE := hp
                        refine lv_goto (tgt := 308) hx hb dM_act_253 (by decide) ?_
                        refine lv_lload hx hb dM_act_308 (lv_at hl 0 rfl) ?_
                        exact mp_lret hx hb hr hlocks I (Nat.le_of_ble_eq_true rfl) (Nat.le_of_ble_eq_true rfl) dM_act_310 (Or.inl ⟨hg, by rw [hxi, ← hget]; unfold pm; rw [if_neg (show ¬ act.toInt = 1 by omega), if_neg (show ¬ act.toInt = 2 by omega), if_neg (show ¬ act.toInt = 3 by omega), if_pos (show act.toInt = 4 by omega)]; exact ⟨rfl, hE⟩⟩)
                      · refine lv_tableIn (off := 108) (tgt := 256) hx hb dM_act_148 (by rw [show act.toInt = act.toInt from rfl]; omega) (by rw [show act.toInt = act.toInt from rfl]; omega) (by rw [show act.toInt = act.toInt from rfl, c_235]; rfl) (by decide) ?_
                        refine lv_aload_n hx hb dM_act_256 rfl (lv_at hl 3 rfl) ?_
                        refine lv_iload_n hx hb dM_act_257 rfl (lv_at hl 4 rfl) ?_
                        refine lv_iload hx hb dM_act_258 (lv_at hl 2 rfl) ?_
                        refine lv_lload hx hb dM_act_260 (lv_at hl 0 rfl) ?_
                        refine lv_lload_n hx hb dM_act_262 rfl (lv_at hl 6 rfl) ?_
                        refine lv_land hx hb dM_act_263 ?_
                        have hget := hp
                        refine mp_calll (va_runS (As := [.int (nI (sk xn)), .long (hd_ &&& v)]) (rest := [.int (nI xn), .ref mo]) ⟨hx, hb, hml, hown, hts⟩ (kM_as l D k M_231 (sk xn) (hd_ &&& v) (by omega) _) (cwS 2 hts (bw_S bw_447 bw_448 bw_2 bw_449) rfl rfl rfl (by decide +kernel) ⟨Nat.le_of_ble_eq_true rfl, Nat.le_of_ble_eq_true rfl⟩) (mp_preS I _) rfl rfl hl.1 rfl (lv_room (Nat.le_of_ble_eq_true rfl)) dM_act_264 ⟨Nat.le_of_ble_eq_true rfl, Nat.le_of_ble_eq_true rfl⟩) I (fun r2 N1 H locs hp I => ?_)
                        obtain ⟨e_244, hp⟩ := hp
                        rw [e_244] at I
                        subst hp
                        refine mp_callv (va_runV (As := [.int (nI xn), .long (lb (sk xn) (hd_ &&& v))]) (rest := []) ⟨hx, hb, hml, hown, hts⟩ (kM_set l D k M_231 hE hO xn (by omega) (lb (sk xn) (hd_ &&& v)) _) (cwV 2 hts (bw_V bw_456 bw_458 bs_17 bw_2 bw_459) rfl rfl rfl (by decide +kernel) ⟨Nat.le_of_ble_eq_true rfl, Nat.le_of_ble_eq_true rfl⟩) (mp_preV I h0__M_231 rfl _) rfl rfl hl.1 rfl (lv_room (Nat.le_of_ble_eq_true rfl)) dM_act_267 ⟨Nat.le_of_ble_eq_true rfl, Nat.le_of_ble_eq_true rfl⟩) I (fun N1 H locs hp I => ?_)
                        have hE := hp
                        refine lv_goto (tgt := 308) hx hb dM_act_270 (by decide) ?_
                        refine lv_lload hx hb dM_act_308 (lv_at hl 0 rfl) ?_
                        exact mp_lret hx hb hr hlocks I (Nat.le_of_ble_eq_true rfl) (Nat.le_of_ble_eq_true rfl) dM_act_310 (Or.inl ⟨hg, by rw [hxi, ← hget]; unfold pm; rw [if_neg (show ¬ act.toInt = 1 by omega), if_neg (show ¬ act.toInt = 2 by omega), if_neg (show ¬ act.toInt = 3 by omega), if_neg (show ¬ act.toInt = 4 by omega), if_pos (show act.toInt = 5 by omega)]; exact ⟨rfl, hE⟩⟩)
                      · refine lv_tableIn (off := 125) (tgt := 273) hx hb dM_act_148 (by rw [show act.toInt = act.toInt from rfl]; omega) (by rw [show act.toInt = act.toInt from rfl]; omega) (by rw [show act.toInt = act.toInt from rfl, c_235]; rfl) (by decide) ?_
                        refine lv_aload_n hx hb dM_act_273 rfl (lv_at hl 3 rfl) ?_
                        refine lv_iload_n hx hb dM_act_274 rfl (lv_at hl 4 rfl) ?_
                        refine lv_iload hx hb dM_act_275 (lv_at hl 2 rfl) ?_
                        refine lv_lload hx hb dM_act_277 (lv_at hl 0 rfl) ?_
                        refine lv_lload_n hx hb dM_act_279 rfl (lv_at hl 6 rfl) ?_
                        refine lv_lor hx hb dM_act_280 ?_
                        have hget := hp
                        refine mp_calll (va_runS (As := [.int (nI (sk xn)), .long (hd_ ||| v)]) (rest := [.int (nI xn), .ref mo]) ⟨hx, hb, hml, hown, hts⟩ (kM_as l D k M_231 (sk xn) (hd_ ||| v) (by omega) _) (cwS 2 hts (bw_S bw_447 bw_448 bw_2 bw_449) rfl rfl rfl (by decide +kernel) ⟨Nat.le_of_ble_eq_true rfl, Nat.le_of_ble_eq_true rfl⟩) (mp_preS I _) rfl rfl hl.1 rfl (lv_room (Nat.le_of_ble_eq_true rfl)) dM_act_281 ⟨Nat.le_of_ble_eq_true rfl, Nat.le_of_ble_eq_true rfl⟩) I (fun r2 N1 H locs hp I => ?_)
                        obtain ⟨e_246, hp⟩ := hp
                        rw [e_246] at I
                        subst hp
                        refine mp_callv (va_runV (As := [.int (nI xn), .long (lb (sk xn) (hd_ ||| v))]) (rest := []) ⟨hx, hb, hml, hown, hts⟩ (kM_set l D k M_231 hE hO xn (by omega) (lb (sk xn) (hd_ ||| v)) _) (cwV 2 hts (bw_V bw_456 bw_458 bs_17 bw_2 bw_459) rfl rfl rfl (by decide +kernel) ⟨Nat.le_of_ble_eq_true rfl, Nat.le_of_ble_eq_true rfl⟩) (mp_preV I h0__M_231 rfl _) rfl rfl hl.1 rfl (lv_room (Nat.le_of_ble_eq_true rfl)) dM_act_284 ⟨Nat.le_of_ble_eq_true rfl, Nat.le_of_ble_eq_true rfl⟩) I (fun N1 H locs hp I => ?_)
                        have hE := hp
                        refine lv_goto (tgt := 308) hx hb dM_act_287 (by decide) ?_
                        refine lv_lload hx hb dM_act_308 (lv_at hl 0 rfl) ?_
                        exact mp_lret hx hb hr hlocks I (Nat.le_of_ble_eq_true rfl) (Nat.le_of_ble_eq_true rfl) dM_act_310 (Or.inl ⟨hg, by rw [hxi, ← hget]; unfold pm; rw [if_neg (show ¬ act.toInt = 1 by omega), if_neg (show ¬ act.toInt = 2 by omega), if_neg (show ¬ act.toInt = 3 by omega), if_neg (show ¬ act.toInt = 4 by omega), if_neg (show ¬ act.toInt = 5 by omega), if_pos (show act.toInt = 6 by omega)]; exact ⟨rfl, hE⟩⟩)
                      · refine lv_tableOut (tgt := 290) hx hb dM_act_148 (by rw [show act.toInt = act.toInt from rfl]; exact c_235) (by decide) ?_
                        refine lv_aload_n hx hb dM_act_290 rfl (lv_at hl 3 rfl) ?_
                        refine lv_iload_n hx hb dM_act_291 rfl (lv_at hl 4 rfl) ?_
                        refine lv_lload hx hb dM_act_292 (lv_at hl 0 rfl) ?_
                        refine lv_lload_n hx hb dM_act_294 rfl (lv_at hl 6 rfl) ?_
                        have hget := hp
                        refine W.lcmp hx hb dM_act_295 ?_
                        refine lv_if_le (tgt := 304) hx hb dM_act_296 (by decide) (fun c_248 => ?_) (fun c_248 => ?_)
                        all_goals rw [lg_cmp_le] at c_248
                        · refine lv_lload_n hx hb dM_act_304 rfl (lv_at hl 6 rfl) ?_
                          refine mp_callv (va_runV (As := [.int (nI xn), .long v]) (rest := []) ⟨hx, hb, hml, hown, hts⟩ (kM_set l D k M_231 hE hO xn (by omega) v _) (cwV 2 hts (bw_V bw_456 bw_458 bs_17 bw_2 bw_459) rfl rfl rfl (by decide +kernel) ⟨Nat.le_of_ble_eq_true rfl, Nat.le_of_ble_eq_true rfl⟩) (mp_preV I h0__M_231 rfl _) rfl rfl hl.1 rfl (lv_room (Nat.le_of_ble_eq_true rfl)) dM_act_305 ⟨Nat.le_of_ble_eq_true rfl, Nat.le_of_ble_eq_true rfl⟩) I (fun N1 H locs hp I => ?_)
                          have hE := hp
                          refine lv_lload hx hb dM_act_308 (lv_at hl 0 rfl) ?_
                          exact mp_lret hx hb hr hlocks I (Nat.le_of_ble_eq_true rfl) (Nat.le_of_ble_eq_true rfl) dM_act_310 (Or.inl ⟨hg, by rw [hxi, ← hget]; unfold pm; rw [if_neg (show ¬ act.toInt = 1 by omega), if_neg (show ¬ act.toInt = 2 by omega), if_neg (show ¬ act.toInt = 3 by omega), if_neg (show ¬ act.toInt = 4 by omega), if_neg (show ¬ act.toInt = 5 by omega), if_neg (show ¬ act.toInt = 6 by omega), if_pos (show act.toInt = 7 by unfold gact aok at hg; omega), if_neg (Int64.not_lt.mpr c_248)]; exact ⟨rfl, hE⟩⟩)
                        · refine lv_lload hx hb dM_act_299 (lv_at hl 0 rfl) ?_
                          refine lv_goto (tgt := 305) hx hb dM_act_301 (by decide) ?_
                          refine mp_callv (va_runV (As := [.int (nI xn), .long hd_]) (rest := []) ⟨hx, hb, hml, hown, hts⟩ (kM_set l D k M_231 hE hO xn (by omega) hd_ _) (cwV 2 hts (bw_V bw_456 bw_458 bs_17 bw_2 bw_459) rfl rfl rfl (by decide +kernel) ⟨Nat.le_of_ble_eq_true rfl, Nat.le_of_ble_eq_true rfl⟩) (mp_preV I h0__M_231 rfl _) rfl rfl hl.1 rfl (lv_room (Nat.le_of_ble_eq_true rfl)) dM_act_305 ⟨Nat.le_of_ble_eq_true rfl, Nat.le_of_ble_eq_true rfl⟩) I (fun N1 H locs hp I => ?_)
                          have hE := hp
                          refine lv_lload hx hb dM_act_308 (lv_at hl 0 rfl) ?_
                          exact mp_lret hx hb hr hlocks I (Nat.le_of_ble_eq_true rfl) (Nat.le_of_ble_eq_true rfl) dM_act_310 (Or.inl ⟨hg, by rw [hxi, ← hget]; unfold pm; rw [if_neg (show ¬ act.toInt = 1 by omega), if_neg (show ¬ act.toInt = 2 by omega), if_neg (show ¬ act.toInt = 3 by omega), if_neg (show ¬ act.toInt = 4 by omega), if_neg (show ¬ act.toInt = 5 by omega), if_neg (show ¬ act.toInt = 6 by omega), if_pos (show act.toInt = 7 by unfold gact aok at hg; omega), if_pos (Int64.not_le.mp c_248)]; exact ⟨rfl, hE⟩⟩)
                    · refine zz_if_eq (tgt := 116) hx hb (nI_toInt (by decide)) dM_act_109 (by decide) (fun _ => ?_) (fun c_251 => absurd c_251 (by decide))
                      refine lv_iconst (v := nI 0) hx hb dM_act_116 (by decide) ?_
                      refine lv_istore (lv' := [(7, .int (nI 0)), (8, .int (nI (sk xn))), (0, .ref mo), (1, .int (nI xn)), (2, .int act), (3, .long v), (5, .long w)]) hx hb dM_act_117 hl (by decide) rfl (fun ls hl => ?_)
                      refine lv_aload_n hx hb dM_act_119 rfl (lv_at hl 2 rfl) ?_
                      refine lv_iload hx hb dM_act_120 (lv_at hl 0 rfl) ?_
                      refine zz_if_eq (tgt := 129) hx hb (nI_toInt (by decide)) dM_act_122 (by decide) (fun _ => ?_) (fun c_252 => absurd c_252 (by decide))
                      refine lv_iconst (v := nI 1) hx hb dM_act_129 (by decide) ?_
                      refine mp_put (v := .int (nI 1)) (ty := .int) hx hb hts inM tyM okM nmM hown I h0 rfl 17 (by decide) (hts _ bw_348) (fun _ h9 => h9) rfl (by decide +kernel) rfl rfl (Nat.le_of_ble_eq_true rfl) dM_act_130 (fun H locs I => ?_)
                      have I : mp_I D cls5 (tys6 k) s _ s.heap H locs (mp_up M mo (.inr (4, [.ref el, .ref ek, .int (nI ec), .ref bg, .ref sz, .ref kn, .int (nI tc), .ref rw, .int (nI wc), .ref pp, .ref pk, .ref wd, .ref lo, .int (nI sc), .ref kp, .ref ks, .int (nI nc), .int (nI 1)]))) := I
                      have h0_n : mp_up M mo (.inr (4, [.ref el, .ref ek, .int (nI ec), .ref bg, .ref sz, .ref kn, .int (nI tc), .ref rw, .int (nI wc), .ref pp, .ref pk, .ref wd, .ref lo, .int (nI sc), .ref kp, .ref ks, .int (nI nc), .int (nI 1)])) mo = some (.inr (4, [.ref el, .ref ek, .int (nI ec), .ref bg, .ref sz, .ref kn, .int (nI tc), .ref rw, .int (nI wc), .ref pp, .ref pk, .ref wd, .ref lo, .int (nI sc), .ref kp, .ref ks, .int (nI nc), .int (nI 1)])) := mp_up_s _ _ _
                      have hel_n : mp_up M mo (.inr (4, [.ref el, .ref ek, .int (nI ec), .ref bg, .ref sz, .ref kn, .int (nI tc), .ref rw, .int (nI wc), .ref pp, .ref pk, .ref wd, .ref lo, .int (nI sc), .ref kp, .ref ks, .int (nI nc), .int (nI 1)])) el = some (.inl (k 1, 4000, .inr (.inl va))) := (mp_up_n (mp_ne hel h0 (by simp))).trans hel
                      have hek_n : mp_up M mo (.inr (4, [.ref el, .ref ek, .int (nI ec), .ref bg, .ref sz, .ref kn, .int (nI tc), .ref rw, .int (nI wc), .ref pp, .ref pk, .ref wd, .ref lo, .int (nI sc), .ref kp, .ref ks, .int (nI nc), .int (nI 1)])) ek = some (.inl (k 0, 4000, .inl (fun i_ => nI (kd i_)))) := (mp_up_n (mp_ne hek h0 (by simp))).trans hek
                      have hbg_n : mp_up M mo (.inr (4, [.ref el, .ref ek, .int (nI ec), .ref bg, .ref sz, .ref kn, .int (nI tc), .ref rw, .int (nI wc), .ref pp, .ref pk, .ref wd, .ref lo, .int (nI sc), .ref kp, .ref ks, .int (nI nc), .int (nI 1)])) bg = some (.inl (k 0, 300, .inl (fun i_ => nI (tf i_)))) := (mp_up_n (mp_ne hbg h0 (by simp))).trans hbg
                      have hsz_n : mp_up M mo (.inr (4, [.ref el, .ref ek, .int (nI ec), .ref bg, .ref sz, .ref kn, .int (nI tc), .ref rw, .int (nI wc), .ref pp, .ref pk, .ref wd, .ref lo, .int (nI sc), .ref kp, .ref ks, .int (nI nc), .int (nI 1)])) sz = some (.inl (k 0, 300, .inl (fun i_ => nI (tz i_)))) := (mp_up_n (mp_ne hsz h0 (by simp))).trans hsz
                      have hkn_n : mp_up M mo (.inr (4, [.ref el, .ref ek, .int (nI ec), .ref bg, .ref sz, .ref kn, .int (nI tc), .ref rw, .int (nI wc), .ref pp, .ref pk, .ref wd, .ref lo, .int (nI sc), .ref kp, .ref ks, .int (nI nc), .int (nI 1)])) kn = some (.inl (k 0, 300, .inl (fun i_ => nI (tk i_)))) := (mp_up_n (mp_ne hkn h0 (by simp))).trans hkn
                      have hrw_n : mp_up M mo (.inr (4, [.ref el, .ref ek, .int (nI ec), .ref bg, .ref sz, .ref kn, .int (nI tc), .ref rw, .int (nI wc), .ref pp, .ref pk, .ref wd, .ref lo, .int (nI sc), .ref kp, .ref ks, .int (nI nc), .int (nI 1)])) rw = some (.inl (k 0, 12, .inl (fun i_ => nI (wt i_)))) := (mp_up_n (mp_ne hrw h0 (by simp))).trans hrw
                      have hpp_n : mp_up M mo (.inr (4, [.ref el, .ref ek, .int (nI ec), .ref bg, .ref sz, .ref kn, .int (nI tc), .ref rw, .int (nI wc), .ref pp, .ref pk, .ref wd, .ref lo, .int (nI sc), .ref kp, .ref ks, .int (nI nc), .int (nI 1)])) pp = some (.inl (k 0, 100, .inl (fun i_ => nI (sf i_)))) := (mp_up_n (mp_ne hpp h0 (by simp))).trans hpp
                      have hpk_n : mp_up M mo (.inr (4, [.ref el, .ref ek, .int (nI ec), .ref bg, .ref sz, .ref kn, .int (nI tc), .ref rw, .int (nI wc), .ref pp, .ref pk, .ref wd, .ref lo, .int (nI sc), .ref kp, .ref ks, .int (nI nc), .int (nI 1)])) pk = some (.inl (k 0, 100, .inl (fun i_ => nI (sk i_)))) := (mp_up_n (mp_ne hpk h0 (by simp))).trans hpk
                      have hwd_n : mp_up M mo (.inr (4, [.ref el, .ref ek, .int (nI ec), .ref bg, .ref sz, .ref kn, .int (nI tc), .ref rw, .int (nI wc), .ref pp, .ref pk, .ref wd, .ref lo, .int (nI sc), .ref kp, .ref ks, .int (nI nc), .int (nI 1)])) wd = some (.inl (k 0, 100, .inl (fun i_ => nI (sw i_)))) := (mp_up_n (mp_ne hwd h0 (by simp))).trans hwd
                      have hlo_n : mp_up M mo (.inr (4, [.ref el, .ref ek, .int (nI ec), .ref bg, .ref sz, .ref kn, .int (nI tc), .ref rw, .int (nI wc), .ref pp, .ref pk, .ref wd, .ref lo, .int (nI sc), .ref kp, .ref ks, .int (nI nc), .int (nI 1)])) lo = some (.inl (k 5, 100, .inl (fun i_ => nI (ml i_)))) := (mp_up_n (mp_ne hlo h0 (by simp))).trans hlo
                      have hkp_n : mp_up M mo (.inr (4, [.ref el, .ref ek, .int (nI ec), .ref bg, .ref sz, .ref kn, .int (nI tc), .ref rw, .int (nI wc), .ref pp, .ref pk, .ref wd, .ref lo, .int (nI sc), .ref kp, .ref ks, .int (nI nc), .int (nI 1)])) kp = some (.inl (k 1, 80000, .inr (.inl mk))) := (mp_up_n (mp_ne hkp h0 (by simp))).trans hkp
                      have hks_n : mp_up M mo (.inr (4, [.ref el, .ref ek, .int (nI ec), .ref bg, .ref sz, .ref kn, .int (nI tc), .ref rw, .int (nI wc), .ref pp, .ref pk, .ref wd, .ref lo, .int (nI sc), .ref kp, .ref ks, .int (nI nc), .int (nI 1)])) ks = some (.inl (k 0, 20, .inl (fun i_ => nI (nn i_)))) := (mp_up_n (mp_ne hks h0 (by simp))).trans hks
                      generalize eM_254 : mp_up M mo (.inr (4, [.ref el, .ref ek, .int (nI ec), .ref bg, .ref sz, .ref kn, .int (nI tc), .ref rw, .int (nI wc), .ref pp, .ref pk, .ref wd, .ref lo, .int (nI sc), .ref kp, .ref ks, .int (nI nc), .int (nI 1)])) = M_253 at I h0_n hel_n hek_n hbg_n hsz_n hkn_n hrw_n hpp_n hpk_n hwd_n hlo_n hkp_n hks_n
                      have h0__M_253 := h0_n
                      have hel__M_253 := hel_n
                      have hek__M_253 := hek_n
                      have hbg__M_253 := hbg_n
                      have hsz__M_253 := hsz_n
                      have hkn__M_253 := hkn_n
                      have hrw__M_253 := hrw_n
                      have hpp__M_253 := hpp_n
                      have hpk__M_253 := hpk_n
                      have hwd__M_253 := hwd_n
                      have hlo__M_253 := hlo_n
                      have hkp__M_253 := hkp_n
                      have hks__M_253 := hks_n
                      clear h0_n hel_n hek_n hbg_n hsz_n hkn_n hrw_n hpp_n hpk_n hwd_n hlo_n hkp_n hks_n
                      have hE := hE.cnt ec tc wc sc nc 1
                      rw [eM_254] at hE
                      refine lv_iload hx hb dM_act_133 (lv_at hl 0 rfl) ?_
                      refine zz_if_ne (tgt := 140) hx hb (nI_toInt (by decide)) dM_act_135 (by decide) (fun c_255 => absurd c_255 (by decide)) (fun _ => ?_)
                      refine lv_lconst (v := 0) hx hb dM_act_138 (by decide) ?_
                      exact mp_lret hx hb hr hlocks I (Nat.le_of_ble_eq_true rfl) (Nat.le_of_ble_eq_true rfl) dM_act_139 (Or.inr ⟨by intro hg; obtain ⟨g1, g2, g3, g4, g5⟩ := hg; rw [hxi] at g3 g4 g5; unfold aok at g3; first | omega | exact p4 (g4 (by omega)) | exact p5 (g5 (by omega)), rfl, hE⟩)
                · refine zz_if_eq (tgt := 116) hx hb (nI_toInt (by decide)) dM_act_93 (by decide) (fun _ => ?_) (fun c_256 => absurd c_256 (by decide))
                  refine lv_iconst (v := nI 0) hx hb dM_act_116 (by decide) ?_
                  refine lv_istore (lv' := [(7, .int (nI 0)), (8, .int (nI (sk xn))), (0, .ref mo), (1, .int (nI xn)), (2, .int act), (3, .long v), (5, .long w)]) hx hb dM_act_117 hl (by decide) rfl (fun ls hl => ?_)
                  refine lv_aload_n hx hb dM_act_119 rfl (lv_at hl 2 rfl) ?_
                  refine lv_iload hx hb dM_act_120 (lv_at hl 0 rfl) ?_
                  refine zz_if_eq (tgt := 129) hx hb (nI_toInt (by decide)) dM_act_122 (by decide) (fun _ => ?_) (fun c_257 => absurd c_257 (by decide))
                  refine lv_iconst (v := nI 1) hx hb dM_act_129 (by decide) ?_
                  refine mp_put (v := .int (nI 1)) (ty := .int) hx hb hts inM tyM okM nmM hown I h0 rfl 17 (by decide) (hts _ bw_348) (fun _ h9 => h9) rfl (by decide +kernel) rfl rfl (Nat.le_of_ble_eq_true rfl) dM_act_130 (fun H locs I => ?_)
                  have I : mp_I D cls5 (tys6 k) s _ s.heap H locs (mp_up M mo (.inr (4, [.ref el, .ref ek, .int (nI ec), .ref bg, .ref sz, .ref kn, .int (nI tc), .ref rw, .int (nI wc), .ref pp, .ref pk, .ref wd, .ref lo, .int (nI sc), .ref kp, .ref ks, .int (nI nc), .int (nI 1)]))) := I
                  have h0_n : mp_up M mo (.inr (4, [.ref el, .ref ek, .int (nI ec), .ref bg, .ref sz, .ref kn, .int (nI tc), .ref rw, .int (nI wc), .ref pp, .ref pk, .ref wd, .ref lo, .int (nI sc), .ref kp, .ref ks, .int (nI nc), .int (nI 1)])) mo = some (.inr (4, [.ref el, .ref ek, .int (nI ec), .ref bg, .ref sz, .ref kn, .int (nI tc), .ref rw, .int (nI wc), .ref pp, .ref pk, .ref wd, .ref lo, .int (nI sc), .ref kp, .ref ks, .int (nI nc), .int (nI 1)])) := mp_up_s _ _ _
                  have hel_n : mp_up M mo (.inr (4, [.ref el, .ref ek, .int (nI ec), .ref bg, .ref sz, .ref kn, .int (nI tc), .ref rw, .int (nI wc), .ref pp, .ref pk, .ref wd, .ref lo, .int (nI sc), .ref kp, .ref ks, .int (nI nc), .int (nI 1)])) el = some (.inl (k 1, 4000, .inr (.inl va))) := (mp_up_n (mp_ne hel h0 (by simp))).trans hel
                  have hek_n : mp_up M mo (.inr (4, [.ref el, .ref ek, .int (nI ec), .ref bg, .ref sz, .ref kn, .int (nI tc), .ref rw, .int (nI wc), .ref pp, .ref pk, .ref wd, .ref lo, .int (nI sc), .ref kp, .ref ks, .int (nI nc), .int (nI 1)])) ek = some (.inl (k 0, 4000, .inl (fun i_ => nI (kd i_)))) := (mp_up_n (mp_ne hek h0 (by simp))).trans hek
                  have hbg_n : mp_up M mo (.inr (4, [.ref el, .ref ek, .int (nI ec), .ref bg, .ref sz, .ref kn, .int (nI tc), .ref rw, .int (nI wc), .ref pp, .ref pk, .ref wd, .ref lo, .int (nI sc), .ref kp, .ref ks, .int (nI nc), .int (nI 1)])) bg = some (.inl (k 0, 300, .inl (fun i_ => nI (tf i_)))) := (mp_up_n (mp_ne hbg h0 (by simp))).trans hbg
                  have hsz_n : mp_up M mo (.inr (4, [.ref el, .ref ek, .int (nI ec), .ref bg, .ref sz, .ref kn, .int (nI tc), .ref rw, .int (nI wc), .ref pp, .ref pk, .ref wd, .ref lo, .int (nI sc), .ref kp, .ref ks, .int (nI nc), .int (nI 1)])) sz = some (.inl (k 0, 300, .inl (fun i_ => nI (tz i_)))) := (mp_up_n (mp_ne hsz h0 (by simp))).trans hsz
                  have hkn_n : mp_up M mo (.inr (4, [.ref el, .ref ek, .int (nI ec), .ref bg, .ref sz, .ref kn, .int (nI tc), .ref rw, .int (nI wc), .ref pp, .ref pk, .ref wd, .ref lo, .int (nI sc), .ref kp, .ref ks, .int (nI nc), .int (nI 1)])) kn = some (.inl (k 0, 300, .inl (fun i_ => nI (tk i_)))) := (mp_up_n (mp_ne hkn h0 (by simp))).trans hkn
                  have hrw_n : mp_up M mo (.inr (4, [.ref el, .ref ek, .int (nI ec), .ref bg, .ref sz, .ref kn, .int (nI tc), .ref rw, .int (nI wc), .ref pp, .ref pk, .ref wd, .ref lo, .int (nI sc), .ref kp, .ref ks, .int (nI nc), .int (nI 1)])) rw = some (.inl (k 0, 12, .inl (fun i_ => nI (wt i_)))) := (mp_up_n (mp_ne hrw h0 (by simp))).trans hrw
                  have hpp_n : mp_up M mo (.inr (4, [.ref el, .ref ek, .int (nI ec), .ref bg, .ref sz, .ref kn, .int (nI tc), .ref rw, .int (nI wc), .ref pp, .ref pk, .ref wd, .ref lo, .int (nI sc), .ref kp, .ref ks, .int (nI nc), .int (nI 1)])) pp = some (.inl (k 0, 100, .inl (fun i_ => nI (sf i_)))) := (mp_up_n (mp_ne hpp h0 (by simp))).trans hpp
                  have hpk_n : mp_up M mo (.inr (4, [.ref el, .ref ek, .int (nI ec), .ref bg, .ref sz, .ref kn, .int (nI tc), .ref rw, .int (nI wc), .ref pp, .ref pk, .ref wd, .ref lo, .int (nI sc), .ref kp, .ref ks, .int (nI nc), .int (nI 1)])) pk = some (.inl (k 0, 100, .inl (fun i_ => nI (sk i_)))) := (mp_up_n (mp_ne hpk h0 (by simp))).trans hpk
                  have hwd_n : mp_up M mo (.inr (4, [.ref el, .ref ek, .int (nI ec), .ref bg, .ref sz, .ref kn, .int (nI tc), .ref rw, .int (nI wc), .ref pp, .ref pk, .ref wd, .ref lo, .int (nI sc), .ref kp, .ref ks, .int (nI nc), .int (nI 1)])) wd = some (.inl (k 0, 100, .inl (fun i_ => nI (sw i_)))) := (mp_up_n (mp_ne hwd h0 (by simp))).trans hwd
                  have hlo_n : mp_up M mo (.inr (4, [.ref el, .ref ek, .int (nI ec), .ref bg, .ref sz, .ref kn, .int (nI tc), .ref rw, .int (nI wc), .ref pp, .ref pk, .ref wd, .ref lo, .int (nI sc), .ref kp, .ref ks, .int (nI nc), .int (nI 1)])) lo = some (.inl (k 5, 100, .inl (fun i_ => nI (ml i_)))) := (mp_up_n (mp_ne hlo h0 (by simp))).trans hlo
                  have hkp_n : mp_up M mo (.inr (4, [.ref el, .ref ek, .int (nI ec), .ref bg, .ref sz, .ref kn, .int (nI tc), .ref rw, .int (nI wc), .ref pp, .ref pk, .ref wd, .ref lo, .int (nI sc), .ref kp, .ref ks, .int (nI nc), .int (nI 1)])) kp = some (.inl (k 1, 80000, .inr (.inl mk))) := (mp_up_n (mp_ne hkp h0 (by simp))).trans hkp
                  have hks_n : mp_up M mo (.inr (4, [.ref el, .ref ek, .int (nI ec), .ref bg, .ref sz, .ref kn, .int (nI tc), .ref rw, .int (nI wc), .ref pp, .ref pk, .ref wd, .ref lo, .int (nI sc), .ref kp, .ref ks, .int (nI nc), .int (nI 1)])) ks = some (.inl (k 0, 20, .inl (fun i_ => nI (nn i_)))) := (mp_up_n (mp_ne hks h0 (by simp))).trans hks
                  generalize eM_259 : mp_up M mo (.inr (4, [.ref el, .ref ek, .int (nI ec), .ref bg, .ref sz, .ref kn, .int (nI tc), .ref rw, .int (nI wc), .ref pp, .ref pk, .ref wd, .ref lo, .int (nI sc), .ref kp, .ref ks, .int (nI nc), .int (nI 1)])) = M_258 at I h0_n hel_n hek_n hbg_n hsz_n hkn_n hrw_n hpp_n hpk_n hwd_n hlo_n hkp_n hks_n
                  have h0__M_258 := h0_n
                  have hel__M_258 := hel_n
                  have hek__M_258 := hek_n
                  have hbg__M_258 := hbg_n
                  have hsz__M_258 := hsz_n
                  have hkn__M_258 := hkn_n
                  have hrw__M_258 := hrw_n
                  have hpp__M_258 := hpp_n
                  have hpk__M_258 := hpk_n
                  have hwd__M_258 := hwd_n
                  have hlo__M_258 := hlo_n
                  have hkp__M_258 := hkp_n
                  have hks__M_258 := hks_n
                  clear h0_n hel_n hek_n hbg_n hsz_n hkn_n hrw_n hpp_n hpk_n hwd_n hlo_n hkp_n hks_n
                  have hE := hE.cnt ec tc wc sc nc 1
                  rw [eM_259] at hE
                  refine lv_iload hx hb dM_act_133 (lv_at hl 0 rfl) ?_
                  refine zz_if_ne (tgt := 140) hx hb (nI_toInt (by decide)) dM_act_135 (by decide) (fun c_260 => absurd c_260 (by decide)) (fun _ => ?_)
                  refine lv_lconst (v := 0) hx hb dM_act_138 (by decide) ?_
                  exact mp_lret hx hb hr hlocks I (Nat.le_of_ble_eq_true rfl) (Nat.le_of_ble_eq_true rfl) dM_act_139 (Or.inr ⟨by intro hg; obtain ⟨g1, g2, g3, g4, g5⟩ := hg; rw [hxi] at g3 g4 g5; unfold aok at g3; first | omega | exact p4 (g4 (by omega)) | exact p5 (g5 (by omega)), rfl, hE⟩)
        · refine lv_iload hx hb dM_act_52 (lv_at hl 0 rfl) ?_
          refine lv_iconst (v := nI 1) hx hb dM_act_54 (by decide) ?_
          refine zz_icmp_eq (tgt := 74) hx hb (nI_toInt (by first | assumption | omega)) (nI_toInt (by decide)) dM_act_55 (by decide) (fun c_261 => ?_) (fun c_261 => ?_)
          · refine lv_iconst (v := nI 0) hx hb dM_act_74 (by decide) ?_
            refine lv_istore (lv' := [(7, .int (nI 0)), (8, .int (nI (sk xn))), (0, .ref mo), (1, .int (nI xn)), (2, .int act), (3, .long v), (5, .long w)]) hx hb dM_act_75 hl (by decide) rfl (fun ls hl => ?_)
            refine lv_iload hx hb dM_act_77 (lv_at hl 0 rfl) ?_
            refine zz_if_eq (tgt := 116) hx hb (nI_toInt (by decide)) dM_act_79 (by decide) (fun _ => ?_) (fun c_262 => absurd c_262 (by decide))
            refine lv_iconst (v := nI 0) hx hb dM_act_116 (by decide) ?_
            refine lv_istore (lv' := [(7, .int (nI 0)), (8, .int (nI (sk xn))), (0, .ref mo), (1, .int (nI xn)), (2, .int act), (3, .long v), (5, .long w)]) hx hb dM_act_117 hl (by decide) rfl (fun ls hl => ?_)
            refine lv_aload_n hx hb dM_act_119 rfl (lv_at hl 2 rfl) ?_
            refine lv_iload hx hb dM_act_120 (lv_at hl 0 rfl) ?_
            refine zz_if_eq (tgt := 129) hx hb (nI_toInt (by decide)) dM_act_122 (by decide) (fun _ => ?_) (fun c_263 => absurd c_263 (by decide))
            refine lv_iconst (v := nI 1) hx hb dM_act_129 (by decide) ?_
            refine mp_put (v := .int (nI 1)) (ty := .int) hx hb hts inM tyM okM nmM hown I h0 rfl 17 (by decide) (hts _ bw_348) (fun _ h9 => h9) rfl (by decide +kernel) rfl rfl (Nat.le_of_ble_eq_true rfl) dM_act_130 (fun H locs I => ?_)
            have I : mp_I D cls5 (tys6 k) s _ s.heap H locs (mp_up M mo (.inr (4, [.ref el, .ref ek, .int (nI ec), .ref bg, .ref sz, .ref kn, .int (nI tc), .ref rw, .int (nI wc), .ref pp, .ref pk, .ref wd, .ref lo, .int (nI sc), .ref kp, .ref ks, .int (nI nc), .int (nI 1)]))) := I
            have h0_n : mp_up M mo (.inr (4, [.ref el, .ref ek, .int (nI ec), .ref bg, .ref sz, .ref kn, .int (nI tc), .ref rw, .int (nI wc), .ref pp, .ref pk, .ref wd, .ref lo, .int (nI sc), .ref kp, .ref ks, .int (nI nc), .int (nI 1)])) mo = some (.inr (4, [.ref el, .ref ek, .int (nI ec), .ref bg, .ref sz, .ref kn, .int (nI tc), .ref rw, .int (nI wc), .ref pp, .ref pk, .ref wd, .ref lo, .int (nI sc), .ref kp, .ref ks, .int (nI nc), .int (nI 1)])) := mp_up_s _ _ _
            have hel_n : mp_up M mo (.inr (4, [.ref el, .ref ek, .int (nI ec), .ref bg, .ref sz, .ref kn, .int (nI tc), .ref rw, .int (nI wc), .ref pp, .ref pk, .ref wd, .ref lo, .int (nI sc), .ref kp, .ref ks, .int (nI nc), .int (nI 1)])) el = some (.inl (k 1, 4000, .inr (.inl va))) := (mp_up_n (mp_ne hel h0 (by simp))).trans hel
            have hek_n : mp_up M mo (.inr (4, [.ref el, .ref ek, .int (nI ec), .ref bg, .ref sz, .ref kn, .int (nI tc), .ref rw, .int (nI wc), .ref pp, .ref pk, .ref wd, .ref lo, .int (nI sc), .ref kp, .ref ks, .int (nI nc), .int (nI 1)])) ek = some (.inl (k 0, 4000, .inl (fun i_ => nI (kd i_)))) := (mp_up_n (mp_ne hek h0 (by simp))).trans hek
            have hbg_n : mp_up M mo (.inr (4, [.ref el, .ref ek, .int (nI ec), .ref bg, .ref sz, .ref kn, .int (nI tc), .ref rw, .int (nI wc), .ref pp, .ref pk, .ref wd, .ref lo, .int (nI sc), .ref kp, .ref ks, .int (nI nc), .int (nI 1)])) bg = some (.inl (k 0, 300, .inl (fun i_ => nI (tf i_)))) := (mp_up_n (mp_ne hbg h0 (by simp))).trans hbg
            have hsz_n : mp_up M mo (.inr (4, [.ref el, .ref ek, .int (nI ec), .ref bg, .ref sz, .ref kn, .int (nI tc), .ref rw, .int (nI wc), .ref pp, .ref pk, .ref wd, .ref lo, .int (nI sc), .ref kp, .ref ks, .int (nI nc), .int (nI 1)])) sz = some (.inl (k 0, 300, .inl (fun i_ => nI (tz i_)))) := (mp_up_n (mp_ne hsz h0 (by simp))).trans hsz
            have hkn_n : mp_up M mo (.inr (4, [.ref el, .ref ek, .int (nI ec), .ref bg, .ref sz, .ref kn, .int (nI tc), .ref rw, .int (nI wc), .ref pp, .ref pk, .ref wd, .ref lo, .int (nI sc), .ref kp, .ref ks, .int (nI nc), .int (nI 1)])) kn = some (.inl (k 0, 300, .inl (fun i_ => nI (tk i_)))) := (mp_up_n (mp_ne hkn h0 (by simp))).trans hkn
            have hrw_n : mp_up M mo (.inr (4, [.ref el, .ref ek, .int (nI ec), .ref bg, .ref sz, .ref kn, .int (nI tc), .ref rw, .int (nI wc), .ref pp, .ref pk, .ref wd, .ref lo, .int (nI sc), .ref kp, .ref ks, .int (nI nc), .int (nI 1)])) rw = some (.inl (k 0, 12, .inl (fun i_ => nI (wt i_)))) := (mp_up_n (mp_ne hrw h0 (by simp))).trans hrw
            have hpp_n : mp_up M mo (.inr (4, [.ref el, .ref ek, .int (nI ec), .ref bg, .ref sz, .ref kn, .int (nI tc), .ref rw, .int (nI wc), .ref pp, .ref pk, .ref wd, .ref lo, .int (nI sc), .ref kp, .ref ks, .int (nI nc), .int (nI 1)])) pp = some (.inl (k 0, 100, .inl (fun i_ => nI (sf i_)))) := (mp_up_n (mp_ne hpp h0 (by simp))).trans hpp
            have hpk_n : mp_up M mo (.inr (4, [.ref el, .ref ek, .int (nI ec), .ref bg, .ref sz, .ref kn, .int (nI tc), .ref rw, .int (nI wc), .ref pp, .ref pk, .ref wd, .ref lo, .int (nI sc), .ref kp, .ref ks, .int (nI nc), .int (nI 1)])) pk = some (.inl (k 0, 100, .inl (fun i_ => nI (sk i_)))) := (mp_up_n (mp_ne hpk h0 (by simp))).trans hpk
            have hwd_n : mp_up M mo (.inr (4, [.ref el, .ref ek, .int (nI ec), .ref bg, .ref sz, .ref kn, .int (nI tc), .ref rw, .int (nI wc), .ref pp, .ref pk, .ref wd, .ref lo, .int (nI sc), .ref kp, .ref ks, .int (nI nc), .int (nI 1)])) wd = some (.inl (k 0, 100, .inl (fun i_ => nI (sw i_)))) := (mp_up_n (mp_ne hwd h0 (by simp))).trans hwd
            have hlo_n : mp_up M mo (.inr (4, [.ref el, .ref ek, .int (nI ec), .ref bg, .ref sz, .ref kn, .int (nI tc), .ref rw, .int (nI wc), .ref pp, .ref pk, .ref wd, .ref lo, .int (nI sc), .ref kp, .ref ks, .int (nI nc), .int (nI 1)])) lo = some (.inl (k 5, 100, .inl (fun i_ => nI (ml i_)))) := (mp_up_n (mp_ne hlo h0 (by simp))).trans hlo
            have hkp_n : mp_up M mo (.inr (4, [.ref el, .ref ek, .int (nI ec), .ref bg, .ref sz, .ref kn, .int (nI tc), .ref rw, .int (nI wc), .ref pp, .ref pk, .ref wd, .ref lo, .int (nI sc), .ref kp, .ref ks, .int (nI nc), .int (nI 1)])) kp = some (.inl (k 1, 80000, .inr (.inl mk))) := (mp_up_n (mp_ne hkp h0 (by simp))).trans hkp
            have hks_n : mp_up M mo (.inr (4, [.ref el, .ref ek, .int (nI ec), .ref bg, .ref sz, .ref kn, .int (nI tc), .ref rw, .int (nI wc), .ref pp, .ref pk, .ref wd, .ref lo, .int (nI sc), .ref kp, .ref ks, .int (nI nc), .int (nI 1)])) ks = some (.inl (k 0, 20, .inl (fun i_ => nI (nn i_)))) := (mp_up_n (mp_ne hks h0 (by simp))).trans hks
            generalize eM_265 : mp_up M mo (.inr (4, [.ref el, .ref ek, .int (nI ec), .ref bg, .ref sz, .ref kn, .int (nI tc), .ref rw, .int (nI wc), .ref pp, .ref pk, .ref wd, .ref lo, .int (nI sc), .ref kp, .ref ks, .int (nI nc), .int (nI 1)])) = M_264 at I h0_n hel_n hek_n hbg_n hsz_n hkn_n hrw_n hpp_n hpk_n hwd_n hlo_n hkp_n hks_n
            have h0__M_264 := h0_n
            have hel__M_264 := hel_n
            have hek__M_264 := hek_n
            have hbg__M_264 := hbg_n
            have hsz__M_264 := hsz_n
            have hkn__M_264 := hkn_n
            have hrw__M_264 := hrw_n
            have hpp__M_264 := hpp_n
            have hpk__M_264 := hpk_n
            have hwd__M_264 := hwd_n
            have hlo__M_264 := hlo_n
            have hkp__M_264 := hkp_n
            have hks__M_264 := hks_n
            clear h0_n hel_n hek_n hbg_n hsz_n hkn_n hrw_n hpp_n hpk_n hwd_n hlo_n hkp_n hks_n
            have hE := hE.cnt ec tc wc sc nc 1
            rw [eM_265] at hE
            refine lv_iload hx hb dM_act_133 (lv_at hl 0 rfl) ?_
            refine zz_if_ne (tgt := 140) hx hb (nI_toInt (by decide)) dM_act_135 (by decide) (fun c_266 => absurd c_266 (by decide)) (fun _ => ?_)
            refine lv_lconst (v := 0) hx hb dM_act_138 (by decide) ?_
            exact mp_lret hx hb hr hlocks I (Nat.le_of_ble_eq_true rfl) (Nat.le_of_ble_eq_true rfl) dM_act_139 (Or.inr ⟨by intro hg; obtain ⟨g1, g2, g3, g4, g5⟩ := hg; rw [hxi] at g3 g4 g5; unfold aok at g3; first | omega | exact p4 (g4 (by omega)) | exact p5 (g5 (by omega)), rfl, hE⟩)
          · refine lv_iload_n hx hb dM_act_58 rfl (lv_at hl 4 rfl) ?_
            refine lv_iconst (v := nI 3) hx hb dM_act_59 (by decide) ?_
            refine zz_icmp_le (tgt := 70) hx hb rfl (nI_toInt (by decide)) dM_act_60 (by decide) (fun c_267 => ?_) (fun c_267 => ?_)
            · refine lv_iconst (v := nI 1) hx hb dM_act_70 (by decide) ?_
              refine lv_goto (tgt := 75) hx hb dM_act_71 (by decide) ?_
              refine lv_istore (lv' := [(7, .int (nI 1)), (8, .int (nI (sk xn))), (0, .ref mo), (1, .int (nI xn)), (2, .int act), (3, .long v), (5, .long w)]) hx hb dM_act_75 hl (by decide) rfl (fun ls hl => ?_)
              refine lv_iload hx hb dM_act_77 (lv_at hl 0 rfl) ?_
              refine zz_if_eq (tgt := 116) hx hb (nI_toInt (by decide)) dM_act_79 (by decide) (fun c_268 => absurd c_268 (by decide)) (fun _ => ?_)
              refine lv_iload_n hx hb dM_act_82 rfl (lv_at hl 4 rfl) ?_
              refine zz_if_eq (tgt := 96) hx hb rfl dM_act_83 (by decide) (fun c_269 => ?_) (fun c_269 => ?_)
              · refine lv_iload_n hx hb dM_act_96 rfl (lv_at hl 4 rfl) ?_
                refine lv_iconst (v := nI 3) hx hb dM_act_97 (by decide) ?_
                refine zz_icmp_ne (tgt := 112) hx hb rfl (nI_toInt (by decide)) dM_act_98 (by decide) (fun c_270 => ?_) (fun c_270 => ?_)
                · refine lv_iconst (v := nI 1) hx hb dM_act_112 (by decide) ?_
                  refine lv_goto (tgt := 117) hx hb dM_act_113 (by decide) ?_
                  refine lv_istore (lv' := [(7, .int (nI 1)), (8, .int (nI (sk xn))), (0, .ref mo), (1, .int (nI xn)), (2, .int act), (3, .long v), (5, .long w)]) hx hb dM_act_117 hl (by decide) rfl (fun ls hl => ?_)
                  refine lv_aload_n hx hb dM_act_119 rfl (lv_at hl 2 rfl) ?_
                  refine lv_iload hx hb dM_act_120 (lv_at hl 0 rfl) ?_
                  refine zz_if_eq (tgt := 129) hx hb (nI_toInt (by decide)) dM_act_122 (by decide) (fun c_271 => absurd c_271 (by decide)) (fun _ => ?_)
                  refine lv_iconst (v := nI 0) hx hb dM_act_125 (by decide) ?_
                  refine lv_goto (tgt := 130) hx hb dM_act_126 (by decide) ?_
                  refine mp_put (v := .int (nI 0)) (ty := .int) hx hb hts inM tyM okM nmM hown I h0 rfl 17 (by decide) (hts _ bw_348) (fun _ h9 => h9) rfl (by decide +kernel) rfl rfl (Nat.le_of_ble_eq_true rfl) dM_act_130 (fun H locs I => ?_)
                  have I : mp_I D cls5 (tys6 k) s _ s.heap H locs (mp_up M mo (.inr (4, [.ref el, .ref ek, .int (nI ec), .ref bg, .ref sz, .ref kn, .int (nI tc), .ref rw, .int (nI wc), .ref pp, .ref pk, .ref wd, .ref lo, .int (nI sc), .ref kp, .ref ks, .int (nI nc), .int (nI 0)]))) := I
                  have h0_n : mp_up M mo (.inr (4, [.ref el, .ref ek, .int (nI ec), .ref bg, .ref sz, .ref kn, .int (nI tc), .ref rw, .int (nI wc), .ref pp, .ref pk, .ref wd, .ref lo, .int (nI sc), .ref kp, .ref ks, .int (nI nc), .int (nI 0)])) mo = some (.inr (4, [.ref el, .ref ek, .int (nI ec), .ref bg, .ref sz, .ref kn, .int (nI tc), .ref rw, .int (nI wc), .ref pp, .ref pk, .ref wd, .ref lo, .int (nI sc), .ref kp, .ref ks, .int (nI nc), .int (nI 0)])) := mp_up_s _ _ _
                  have hel_n : mp_up M mo (.inr (4, [.ref el, .ref ek, .int (nI ec), .ref bg, .ref sz, .ref kn, .int (nI tc), .ref rw, .int (nI wc), .ref pp, .ref pk, .ref wd, .ref lo, .int (nI sc), .ref kp, .ref ks, .int (nI nc), .int (nI 0)])) el = some (.inl (k 1, 4000, .inr (.inl va))) := (mp_up_n (mp_ne hel h0 (by simp))).trans hel
                  have hek_n : mp_up M mo (.inr (4, [.ref el, .ref ek, .int (nI ec), .ref bg, .ref sz, .ref kn, .int (nI tc), .ref rw, .int (nI wc), .ref pp, .ref pk, .ref wd, .ref lo, .int (nI sc), .ref kp, .ref ks, .int (nI nc), .int (nI 0)])) ek = some (.inl (k 0, 4000, .inl (fun i_ => nI (kd i_)))) := (mp_up_n (mp_ne hek h0 (by simp))).trans hek
                  have hbg_n : mp_up M mo (.inr (4, [.ref el, .ref ek, .int (nI ec), .ref bg, .ref sz, .ref kn, .int (nI tc), .ref rw, .int (nI wc), .ref pp, .ref pk, .ref wd, .ref lo, .int (nI sc), .ref kp, .ref ks, .int (nI nc), .int (nI 0)])) bg = some (.inl (k 0, 300, .inl (fun i_ => nI (tf i_)))) := (mp_up_n (mp_ne hbg h0 (by simp))).trans hbg
                  have hsz_n : mp_up M mo (.inr (4, [.ref el, .ref ek, .int (nI ec), .ref bg, .ref sz, .ref kn, .int (nI tc), .ref rw, .int (nI wc), .ref pp, .ref pk, .ref wd, .ref lo, .int (nI sc), .ref kp, .ref ks, .int (nI nc), .int (nI 0)])) sz = some (.inl (k 0, 300, .inl (fun i_ => nI (tz i_)))) := (mp_up_n (mp_ne hsz h0 (by simp))).trans hsz
                  have hkn_n : mp_up M mo (.inr (4, [.ref el, .ref ek, .int (nI ec), .ref bg, .ref sz, .ref kn, .int (nI tc), .ref rw, .int (nI wc), .ref pp, .ref pk, .ref wd, .ref lo, .int (nI sc), .ref kp, .ref ks, .int (nI nc), .int (nI 0)])) kn = some (.inl (k 0, 300, .inl (fun i_ => nI (tk i_)))) := (mp_up_n (mp_ne hkn h0 (by simp))).trans hkn
                  have hrw_n : mp_up M mo (.inr (4, [.ref el, .ref ek, .int (nI ec), .ref bg, .ref sz, .ref kn, .int (nI tc), .ref rw, .int (nI wc), .ref pp, .ref pk, .ref wd, .ref lo, .int (nI sc), .ref kp, .ref ks, .int (nI nc), .int (nI 0)])) rw = some (.inl (k 0, 12, .inl (fun i_ => nI (wt i_)))) := (mp_up_n (mp_ne hrw h0 (by simp))).trans hrw
                  have hpp_n : mp_up M mo (.inr (4, [.ref el, .ref ek, .int (nI ec), .ref bg, .ref sz, .ref kn, .int (nI tc), .ref rw, .int (nI wc), .ref pp, .ref pk, .ref wd, .ref lo, .int (nI sc), .ref kp, .ref ks, .int (nI nc), .int (nI 0)])) pp = some (.inl (k 0, 100, .inl (fun i_ => nI (sf i_)))) := (mp_up_n (mp_ne hpp h0 (by simp))).trans hpp
                  have hpk_n : mp_up M mo (.inr (4, [.ref el, .ref ek, .int (nI ec), .ref bg, .ref sz, .ref kn, .int (nI tc), .ref rw, .int (nI wc), .ref pp, .ref pk, .ref wd, .ref lo, .int (nI sc), .ref kp, .ref ks, .int (nI nc), .int (nI 0)])) pk = some (.inl (k 0, 100, .inl (fun i_ => nI (sk i_)))) := (mp_up_n (mp_ne hpk h0 (by simp))).trans hpk
                  have hwd_n : mp_up M mo (.inr (4, [.ref el, .ref ek, .int (nI ec), .ref bg, .ref sz, .ref kn, .int (nI tc), .ref rw, .int (nI wc), .ref pp, .ref pk, .ref wd, .ref lo, .int (nI sc), .ref kp, .ref ks, .int (nI nc), .int (nI 0)])) wd = some (.inl (k 0, 100, .inl (fun i_ => nI (sw i_)))) := (mp_up_n (mp_ne hwd h0 (by simp))).trans hwd
                  have hlo_n : mp_up M mo (.inr (4, [.ref el, .ref ek, .int (nI ec), .ref bg, .ref sz, .ref kn, .int (nI tc), .ref rw, .int (nI wc), .ref pp, .ref pk, .ref wd, .ref lo, .int (nI sc), .ref kp, .ref ks, .int (nI nc), .int (nI 0)])) lo = some (.inl (k 5, 100, .inl (fun i_ => nI (ml i_)))) := (mp_up_n (mp_ne hlo h0 (by simp))).trans hlo
                  have hkp_n : mp_up M mo (.inr (4, [.ref el, .ref ek, .int (nI ec), .ref bg, .ref sz, .ref kn, .int (nI tc), .ref rw, .int (nI wc), .ref pp, .ref pk, .ref wd, .ref lo, .int (nI sc), .ref kp, .ref ks, .int (nI nc), .int (nI 0)])) kp = some (.inl (k 1, 80000, .inr (.inl mk))) := (mp_up_n (mp_ne hkp h0 (by simp))).trans hkp
                  have hks_n : mp_up M mo (.inr (4, [.ref el, .ref ek, .int (nI ec), .ref bg, .ref sz, .ref kn, .int (nI tc), .ref rw, .int (nI wc), .ref pp, .ref pk, .ref wd, .ref lo, .int (nI sc), .ref kp, .ref ks, .int (nI nc), .int (nI 0)])) ks = some (.inl (k 0, 20, .inl (fun i_ => nI (nn i_)))) := (mp_up_n (mp_ne hks h0 (by simp))).trans hks
                  generalize eM_273 : mp_up M mo (.inr (4, [.ref el, .ref ek, .int (nI ec), .ref bg, .ref sz, .ref kn, .int (nI tc), .ref rw, .int (nI wc), .ref pp, .ref pk, .ref wd, .ref lo, .int (nI sc), .ref kp, .ref ks, .int (nI nc), .int (nI 0)])) = M_272 at I h0_n hel_n hek_n hbg_n hsz_n hkn_n hrw_n hpp_n hpk_n hwd_n hlo_n hkp_n hks_n
                  have h0__M_272 := h0_n
                  have hel__M_272 := hel_n
                  have hek__M_272 := hek_n
                  have hbg__M_272 := hbg_n
                  have hsz__M_272 := hsz_n
                  have hkn__M_272 := hkn_n
                  have hrw__M_272 := hrw_n
                  have hpp__M_272 := hpp_n
                  have hpk__M_272 := hpk_n
                  have hwd__M_272 := hwd_n
                  have hlo__M_272 := hlo_n
                  have hkp__M_272 := hkp_n
                  have hks__M_272 := hks_n
                  clear h0_n hel_n hek_n hbg_n hsz_n hkn_n hrw_n hpp_n hpk_n hwd_n hlo_n hkp_n hks_n
                  have hE := hE.cnt ec tc wc sc nc 0
                  rw [eM_273] at hE
                  refine lv_iload hx hb dM_act_133 (lv_at hl 0 rfl) ?_
                  refine zz_if_ne (tgt := 140) hx hb (nI_toInt (by decide)) dM_act_135 (by decide) (fun _ => ?_) (fun c_274 => absurd c_274 (by decide))
                  refine lv_aload_n hx hb dM_act_140 rfl (lv_at hl 2 rfl) ?_
                  refine lv_iload_n hx hb dM_act_141 rfl (lv_at hl 3 rfl) ?_
                  have hg : gact tc sc sk (nI xn).toInt act.toInt v w := by unfold gact; rw [hxi]; exact ⟨by omega, by omega, by unfold aok; omega, fun h => by first | exact p4 | (exfalso; omega), fun h => by first | exact p5 | (exfalso; omega)⟩
                  refine mp_calll (va_runV (As := [.int (nI xn)]) (rest := []) ⟨hx, hb, hml, hown, hts⟩ (kM_get l D k M_272 hE hO xn (by omega) _) (cwV 1 hts (bw_V bw_451 bw_453 bs_16 bw_2 bw_454) rfl rfl rfl (by decide +kernel) ⟨Nat.le_of_ble_eq_true rfl, Nat.le_of_ble_eq_true rfl⟩) (mp_preV I h0__M_272 rfl _) rfl rfl hl.1 rfl (lv_room (Nat.le_of_ble_eq_true rfl)) dM_act_142 ⟨Nat.le_of_ble_eq_true rfl, Nat.le_of_ble_eq_true rfl⟩) I (fun hd_ N1 H locs hp I => ?_)
                  obtain ⟨e_275, hp⟩ := hp
                  rw [e_275] at I
                  refine lv_lstore (lv' := [(9, .long hd_), (7, .int (nI 1)), (8, .int (nI (sk xn))), (0, .ref mo), (1, .int (nI xn)), (2, .int act), (3, .long v), (5, .long w)]) hx hb dM_act_145 hl (by decide) rfl (fun ls hl => ?_)
                  refine lv_iload_n hx hb dM_act_147 rfl (lv_at hl 5 rfl) ?_
                  have c_276 : act.toInt = 0 ∨ act.toInt = 1 ∨ act.toInt = 2 ∨ act.toInt = 3 ∨ act.toInt = 4 ∨ act.toInt = 5 ∨ act.toInt = 6 ∨ (act.toInt < 0 ∨ 6 < act.toInt) := by omega
                  rcases c_276 with c_276 | c_276 | c_276 | c_276 | c_276 | c_276 | c_276 | c_276
                  · refine lv_tableIn (off := 44) (tgt := 192) hx hb dM_act_148 (by rw [show act.toInt = act.toInt from rfl]; omega) (by rw [show act.toInt = act.toInt from rfl]; omega) (by rw [show act.toInt = act.toInt from rfl, c_276]; rfl) (by decide) ?_
                    refine lv_lload hx hb dM_act_192 (lv_at hl 0 rfl) ?_
                    exact mp_lret hx hb hr hlocks I (Nat.le_of_ble_eq_true rfl) (Nat.le_of_ble_eq_true rfl) dM_act_194 (Or.inl ⟨hg, by rw [hxi, ← hp]; unfold pm; rw [if_neg (show ¬ act.toInt = 1 by omega), if_neg (show ¬ act.toInt = 2 by omega), if_neg (show ¬ act.toInt = 3 by omega), if_neg (show ¬ act.toInt = 4 by omega), if_neg (show ¬ act.toInt = 5 by omega), if_neg (show ¬ act.toInt = 6 by omega), if_neg (show ¬ act.toInt = 7 by omega)]; exact ⟨rfl, hE⟩⟩)
                  · refine lv_tableIn (off := 47) (tgt := 195) hx hb dM_act_148 (by rw [show act.toInt = act.toInt from rfl]; omega) (by rw [show act.toInt = act.toInt from rfl]; omega) (by rw [show act.toInt = act.toInt from rfl, c_276]; rfl) (by decide) ?_
                    refine lv_aload_n hx hb dM_act_195 rfl (lv_at hl 3 rfl) ?_
                    refine lv_iload_n hx hb dM_act_196 rfl (lv_at hl 4 rfl) ?_
                    refine lv_lload_n hx hb dM_act_197 rfl (lv_at hl 6 rfl) ?_
                    have hget := hp
                    refine mp_callv (va_runV (As := [.int (nI xn), .long v]) (rest := []) ⟨hx, hb, hml, hown, hts⟩ (kM_set l D k M_272 hE hO xn (by omega) v _) (cwV 2 hts (bw_V bw_456 bw_458 bs_17 bw_2 bw_459) rfl rfl rfl (by decide +kernel) ⟨Nat.le_of_ble_eq_true rfl, Nat.le_of_ble_eq_true rfl⟩) (mp_preV I h0__M_272 rfl _) rfl rfl hl.1 rfl (lv_room (Nat.le_of_ble_eq_true rfl)) dM_act_198 ⟨Nat.le_of_ble_eq_true rfl, Nat.le_of_ble_eq_true rfl⟩) I (fun N1 H locs hp I => ?_)
                    have hE := hp
                    refine lv_lconst (v := 0) hx hb dM_act_201 (by decide) ?_
                    exact mp_lret hx hb hr hlocks I (Nat.le_of_ble_eq_true rfl) (Nat.le_of_ble_eq_true rfl) dM_act_202 (Or.inl ⟨hg, by rw [hxi, ← hget]; unfold pm; rw [if_pos (show act.toInt = 1 by omega)]; exact ⟨rfl, hE⟩⟩)
                  · refine lv_tableIn (off := 55) (tgt := 203) hx hb dM_act_148 (by rw [show act.toInt = act.toInt from rfl]; omega) (by rw [show act.toInt = act.toInt from rfl]; omega) (by rw [show act.toInt = act.toInt from rfl, c_276]; rfl) (by decide) ?_
                    refine lv_aload_n hx hb dM_act_203 rfl (lv_at hl 3 rfl) ?_
                    refine lv_iload_n hx hb dM_act_204 rfl (lv_at hl 4 rfl) ?_
                    refine lv_lload_n hx hb dM_act_205 rfl (lv_at hl 6 rfl) ?_
                    have hget := hp
                    refine mp_callv (va_runV (As := [.int (nI xn), .long v]) (rest := []) ⟨hx, hb, hml, hown, hts⟩ (kM_set l D k M_272 hE hO xn (by omega) v _) (cwV 2 hts (bw_V bw_456 bw_458 bs_17 bw_2 bw_459) rfl rfl rfl (by decide +kernel) ⟨Nat.le_of_ble_eq_true rfl, Nat.le_of_ble_eq_true rfl⟩) (mp_preV I h0__M_272 rfl _) rfl rfl hl.1 rfl (lv_room (Nat.le_of_ble_eq_true rfl)) dM_act_206 ⟨Nat.le_of_ble_eq_true rfl, Nat.le_of_ble_eq_true rfl⟩) I (fun N1 H locs hp I => ?_)
                    have hE := hp
                    refine lv_goto (tgt := 308) hx hb dM_act_209 (by decide) ?_
                    refine lv_lload hx hb dM_act_308 (lv_at hl 0 rfl) ?_
                    exact mp_lret hx hb hr hlocks I (Nat.le_of_ble_eq_true rfl) (Nat.le_of_ble_eq_true rfl) dM_act_310 (Or.inl ⟨hg, by rw [hxi, ← hget]; unfold pm; rw [if_neg (show ¬ act.toInt = 1 by omega), if_pos (show act.toInt = 2 by omega)]; exact ⟨rfl, hE⟩⟩)
                  · refine lv_tableIn (off := 64) (tgt := 212) hx hb dM_act_148 (by rw [show act.toInt = act.toInt from rfl]; omega) (by rw [show act.toInt = act.toInt from rfl]; omega) (by rw [show act.toInt = act.toInt from rfl, c_276]; rfl) (by decide) ?_
                    refine lv_lload hx hb dM_act_212 (lv_at hl 0 rfl) ?_
                    refine lv_lload_n hx hb dM_act_214 rfl (lv_at hl 6 rfl) ?_
                    have hget := hp
                    refine W.lcmp hx hb dM_act_215 ?_
                    refine lv_if_ne (tgt := 226) hx hb dM_act_216 (by decide) (fun c_279 => ?_) (fun c_279 => ?_)
                    all_goals rw [lg_cmp_eq] at c_279
                    · refine lv_lload hx hb dM_act_226 (lv_at hl 0 rfl) ?_
                      refine lv_lload_n hx hb dM_act_228 rfl (lv_at hl 6 rfl) ?_
                      refine W.lcmp hx hb dM_act_229 ?_
                      refine lv_if_ne (tgt := 237) hx hb dM_act_230 (by decide) (fun c_280 => ?_) (fun c_280 => ?_)
                      all_goals rw [lg_cmp_eq] at c_280
                      · refine lv_lconst (v := 0) hx hb dM_act_237 (by decide) ?_
                        exact mp_lret hx hb hr hlocks I (Nat.le_of_ble_eq_true rfl) (Nat.le_of_ble_eq_true rfl) dM_act_238 (Or.inl ⟨hg, by rw [hxi, ← hget]; unfold pm; rw [if_neg (show ¬ act.toInt = 1 by omega), if_neg (show ¬ act.toInt = 2 by omega), if_pos (show act.toInt = 3 by omega), if_neg c_279]; exact ⟨rfl, hE⟩⟩)
                      · exact absurd c_280 c_279
                    · refine lv_aload_n hx hb dM_act_219 rfl (lv_at hl 3 rfl) ?_
                      refine lv_iload_n hx hb dM_act_220 rfl (lv_at hl 4 rfl) ?_
                      refine lv_lload hx hb dM_act_221 (lv_at hl 7 rfl) ?_
                      refine mp_callv (va_runV (As := [.int (nI xn), .long w]) (rest := []) ⟨hx, hb, hml, hown, hts⟩ (kM_set l D k M_272 hE hO xn (by omega) w _) (cwV 2 hts (bw_V bw_456 bw_458 bs_17 bw_2 bw_459) rfl rfl rfl (by decide +kernel) ⟨Nat.le_of_ble_eq_true rfl, Nat.le_of_ble_eq_true rfl⟩) (mp_preV I h0__M_272 rfl _) rfl rfl hl.1 rfl (lv_room (Nat.le_of_ble_eq_true rfl)) dM_act_223 ⟨Nat.le_of_ble_eq_true rfl, Nat.le_of_ble_eq_true rfl⟩) I (fun N1 H locs hp I => ?_)
                      have hE := hp
                      refine lv_lload hx hb dM_act_226 (lv_at hl 0 rfl) ?_
                      refine lv_lload_n hx hb dM_act_228 rfl (lv_at hl 6 rfl) ?_
                      refine W.lcmp hx hb dM_act_229 ?_
                      refine lv_if_ne (tgt := 237) hx hb dM_act_230 (by decide) (fun c_282 => ?_) (fun c_282 => ?_)
                      all_goals rw [lg_cmp_eq] at c_282
                      · exact absurd c_279 c_282
                      · refine lv_lconst (v := 1) hx hb dM_act_233 (by decide) ?_
                        refine lv_goto (tgt := 238) hx hb dM_act_234 (by decide) ?_
                        exact mp_lret hx hb hr hlocks I (Nat.le_of_ble_eq_true rfl) (Nat.le_of_ble_eq_true rfl) dM_act_238 (Or.inl ⟨hg, by rw [hxi, ← hget]; unfold pm; rw [if_neg (show ¬ act.toInt = 1 by omega), if_neg (show ¬ act.toInt = 2 by omega), if_pos (show act.toInt = 3 by omega), if_pos c_279]; exact ⟨rfl, hE⟩⟩)
                  · refine lv_tableIn (off := 91) (tgt := 239) hx hb dM_act_148 (by rw [show act.toInt = act.toInt from rfl]; omega) (by rw [show act.toInt = act.toInt from rfl]; omega) (by rw [show act.toInt = act.toInt from rfl, c_276]; rfl) (by decide) ?_
                    refine lv_aload_n hx hb dM_act_239 rfl (lv_at hl 3 rfl) ?_
                    refine lv_iload_n hx hb dM_act_240 rfl (lv_at hl 4 rfl) ?_
                    refine lv_iload hx hb dM_act_241 (lv_at hl 2 rfl) ?_
                    refine lv_lload hx hb dM_act_243 (lv_at hl 0 rfl) ?_
                    refine lv_lload_n hx hb dM_act_245 rfl (lv_at hl 6 rfl) ?_
                    refine lv_ladd hx hb dM_act_246 ?_
                    have hget := hp
                    refine mp_calll (va_runS (As := [.int (nI (sk xn)), .long (hd_ + v)]) (rest := [.int (nI xn), .ref mo]) ⟨hx, hb, hml, hown, hts⟩ (kM_as l D k M_272 (sk xn) (hd_ + v) (by omega) _) (cwS 2 hts (bw_S bw_447 bw_448 bw_2 bw_449) rfl rfl rfl (by decide +kernel) ⟨Nat.le_of_ble_eq_true rfl, Nat.le_of_ble_eq_true rfl⟩) (mp_preS I _) rfl rfl hl.1 rfl (lv_room (Nat.le_of_ble_eq_true rfl)) dM_act_247 ⟨Nat.le_of_ble_eq_true rfl, Nat.le_of_ble_eq_true rfl⟩) I (fun r2 N1 H locs hp I => ?_)
                    obtain ⟨e_283, hp⟩ := hp
                    rw [e_283] at I
                    subst hp
                    refine mp_callv (va_runV (As := [.int (nI xn), .long (lb (sk xn) (hd_ + v))]) (rest := []) ⟨hx, hb, hml, hown, hts⟩ (kM_set l D k M_272 hE hO xn (by omega) (lb (sk xn) (hd_ + v)) _) (cwV 2 hts (bw_V bw_456 bw_458 bs_17 bw_2 bw_459) rfl rfl rfl (by decide +kernel) ⟨Nat.le_of_ble_eq_true rfl, Nat.le_of_ble_eq_true rfl⟩) (mp_preV I h0__M_272 rfl _) rfl rfl hl.1 rfl (lv_room (Nat.le_of_ble_eq_true rfl)) dM_act_250 ⟨Nat.le_of_ble_eq_true rfl, Nat.le_of_ble_eq_true rfl⟩) I (fun N1 H locs hp I => ?_)
                    have hE := hp
                    refine lv_goto (tgt := 308) hx hb dM_act_253 (by decide) ?_
                    refine lv_lload hx hb dM_act_308 (lv_at hl 0 rfl) ?_
                    exact mp_lret hx hb hr hlocks I (Nat.le_of_ble_eq_true rfl) (Nat.le_of_ble_eq_true rfl) dM_act_310 (Or.inl ⟨hg, by rw [hxi, ← hget]; unfold pm; rw [if_neg (show ¬ act.toInt = 1 by omega), if_neg (show ¬ act.toInt = 2 by omega), if_neg (show ¬ act.toInt = 3 by omega), if_pos (show act.toInt = 4 by omega)]; exact ⟨rfl, hE⟩⟩)
                  · refine lv_tableIn (off := 108) (tgt := 256) hx hb dM_act_148 (by rw [show act.toInt = act.toInt from rfl]; omega) (by rw [show act.toInt = act.toInt from rfl]; omega) (by rw [show act.toInt = act.toInt from rfl, c_276]; rfl) (by decide) ?_
                    refine lv_aload_n hx hb dM_act_256 rfl (lv_at hl 3 rfl) ?_
                    refine lv_iload_n hx hb dM_act_257 rfl (lv_at hl 4 rfl) ?_
                    refine lv_iload hx hb dM_act_258 (lv_at hl 2 rfl) ?_
                    refine lv_lload hx hb dM_act_260 (lv_at hl 0 rfl) ?_
                    refine lv_lload_n hx hb dM_act_262 rfl (lv_at hl 6 rfl) ?_
                    refine lv_land hx hb dM_act_263 ?_
                    have hget := hp
                    refine mp_calll (va_runS (As := [.int (nI (sk xn)), .long (hd_ &&& v)]) (rest := [.int (nI xn), .ref mo]) ⟨hx, hb, hml, hown, hts⟩ (kM_as l D k M_272 (sk xn) (hd_ &&& v) (by omega) _) (cwS 2 hts (bw_S bw_447 bw_448 bw_2 bw_449) rfl rfl rfl (by decide +kernel) ⟨Nat.le_of_ble_eq_true rfl, Nat.le_of_ble_eq_true rfl⟩) (mp_preS I _) rfl rfl hl.1 rfl (lv_room (Nat.le_of_ble_eq_true rfl)) dM_act_264 ⟨Nat.le_of_ble_eq_true rfl, Nat.le_of_ble_eq_true rfl⟩) I (fun r2 N1 H locs hp I => ?_)
                    obtain ⟨e_285, hp⟩ := hp
                    rw [e_285] at I
                    subst hp
                    refine mp_callv (va_runV (As := [.int (nI xn), .long (lb (sk xn) (hd_ &&& v))]) (rest := []) ⟨hx, hb, hml, hown, hts⟩ (kM_set l D k M_272 hE hO xn (by omega) (lb (sk xn) (hd_ &&& v)) _) (cwV 2 hts (bw_V bw_456 bw_458 bs_17 bw_2 bw_459) rfl rfl rfl (by decide +kernel) ⟨Nat.le_of_ble_eq_true rfl, Nat.le_of_ble_eq_true rfl⟩) (mp_preV I h0__M_272 rfl _) rfl rfl hl.1 rfl (lv_room (Nat.le_of_ble_eq_true rfl)) dM_act_267 ⟨Nat.le_of_ble_eq_true rfl, Nat.le_of_ble_eq_true rfl⟩) I (fun N1 H locs hp I => ?_)
                    have hE := hp
                    refine lv_goto (tgt := 308) hx hb dM_act_270 (by decide) ?_
                    refine lv_lload hx hb dM_act_308 (lv_at hl 0 rfl) ?_
                    exact mp_lret hx hb hr hlocks I (Nat.le_of_ble_eq_true rfl) (Nat.le_of_ble_eq_true rfl) dM_act_310 (Or.inl ⟨hg, by rw [hxi, ← hget]; unfold pm; rw [if_neg (show ¬ act.toInt = 1 by omega), if_neg (show ¬ act.toInt = 2 by omega), if_neg (show ¬ act.toInt = 3 by omega), if_neg (show ¬ act.toInt = 4 by omega), if_pos (show act.toInt = 5 by omega)]; exact ⟨rfl, hE⟩⟩)
                  · refine lv_tableIn (off := 125) (tgt := 273) hx hb dM_act_148 (by rw [show act.toInt = act.toInt from rfl]; omega) (by rw [show act.toInt = act.toInt from rfl]; omega) (by rw [show act.toInt = act.toInt from rfl, c_276]; rfl) (by decide) ?_
                    refine lv_aload_n hx hb dM_act_273 rfl (lv_at hl 3 rfl) ?_
                    refine lv_iload_n hx hb dM_act_274 rfl (lv_at hl 4 rfl) ?_
                    refine lv_iload hx hb dM_act_275 (lv_at hl 2 rfl) ?_
                    refine lv_lload hx hb dM_act_277 (lv_at hl 0 rfl) ?_
                    refine lv_lload_n hx hb dM_act_279 rfl (lv_at hl 6 rfl) ?_
                    refine lv_lor hx hb dM_act_280 ?_
                    have hget := hp
                    refine mp_calll (va_runS (As := [.int (nI (sk xn)), .long (hd_ ||| v)]) (rest := [.int (nI xn), .ref mo]) ⟨hx, hb, hml, hown, hts⟩ (kM_as l D k M_272 (sk xn) (hd_ ||| v) (by omega) _) (cwS 2 hts (bw_S bw_447 bw_448 bw_2 bw_449) rfl rfl rfl (by decide +kernel) ⟨Nat.le_of_ble_eq_true rfl, Nat.le_of_ble_eq_true rfl⟩) (mp_preS I _) rfl rfl hl.1 rfl (lv_room (Nat.le_of_ble_eq_true rfl)) dM_act_281 ⟨Nat.le_of_ble_eq_true rfl, Nat.le_of_ble_eq_true rfl⟩) I (fun r2 N1 H locs hp I => ?_)
                    obtain ⟨e_287, hp⟩ := hp
                    rw [e_287] at I
                    subst hp
                    refine mp_callv (va_runV (As := [.int (nI xn), .long (lb (sk xn) (hd_ ||| v))]) (rest := []) ⟨hx, hb, hml, hown, hts⟩ (kM_set l D k M_272 hE hO xn (by omega) (lb (sk xn) (hd_ ||| v)) _) (cwV 2 hts (bw_V bw_456 bw_458 bs_17 bw_2 bw_459) rfl rfl rfl (by decide +kernel) ⟨Nat.le_of_ble_eq_true rfl, Nat.le_of_ble_eq_true rfl⟩) (mp_preV I h0__M_272 rfl _) rfl rfl hl.1 rfl (lv_room (Nat.le_of_ble_eq_true rfl)) dM_act_284 ⟨Nat.le_of_ble_eq_true rfl, Nat.le_of_ble_eq_true rfl⟩) I (fun N1 H locs hp I => ?_)
                    have hE := hp
                    refine lv_goto (tgt := 308) hx hb dM_act_287 (by decide) ?_
                    refine lv_lload hx hb dM_act_308 (lv_at hl 0 rfl) ?_
                    exact mp_lret hx hb hr hlocks I (Nat.le_of_ble_eq_true rfl) (Nat.le_of_ble_eq_true rfl) dM_act_310 (Or.inl ⟨hg, by rw [hxi, ← hget]; unfold pm; rw [if_neg (show ¬ act.toInt = 1 by omega), if_neg (show ¬ act.toInt = 2 by omega), if_neg (show ¬ act.toInt = 3 by omega), if_neg (show ¬ act.toInt = 4 by omega), if_neg (show ¬ act.toInt = 5 by omega), if_pos (show act.toInt = 6 by omega)]; exact ⟨rfl, hE⟩⟩)
                  · refine lv_tableOut (tgt := 290) hx hb dM_act_148 (by rw [show act.toInt = act.toInt from rfl]; exact c_276) (by decide) ?_
                    refine lv_aload_n hx hb dM_act_290 rfl (lv_at hl 3 rfl) ?_
                    refine lv_iload_n hx hb dM_act_291 rfl (lv_at hl 4 rfl) ?_
                    refine lv_lload hx hb dM_act_292 (lv_at hl 0 rfl) ?_
                    refine lv_lload_n hx hb dM_act_294 rfl (lv_at hl 6 rfl) ?_
                    have hget := hp
                    refine W.lcmp hx hb dM_act_295 ?_
                    refine lv_if_le (tgt := 304) hx hb dM_act_296 (by decide) (fun c_289 => ?_) (fun c_289 => ?_)
                    all_goals rw [lg_cmp_le] at c_289
                    · refine lv_lload_n hx hb dM_act_304 rfl (lv_at hl 6 rfl) ?_
                      refine mp_callv (va_runV (As := [.int (nI xn), .long v]) (rest := []) ⟨hx, hb, hml, hown, hts⟩ (kM_set l D k M_272 hE hO xn (by omega) v _) (cwV 2 hts (bw_V bw_456 bw_458 bs_17 bw_2 bw_459) rfl rfl rfl (by decide +kernel) ⟨Nat.le_of_ble_eq_true rfl, Nat.le_of_ble_eq_true rfl⟩) (mp_preV I h0__M_272 rfl _) rfl rfl hl.1 rfl (lv_room (Nat.le_of_ble_eq_true rfl)) dM_act_305 ⟨Nat.le_of_ble_eq_true rfl, Nat.le_of_ble_eq_true rfl⟩) I (fun N1 H locs hp I => ?_)
                      have hE := hp
                      refine lv_lload hx hb dM_act_308 (lv_at hl 0 rfl) ?_
                      exact mp_lret hx hb hr hlocks I (Nat.le_of_ble_eq_true rfl) (Nat.le_of_ble_eq_true rfl) dM_act_310 (Or.inl ⟨hg, by rw [hxi, ← hget]; unfold pm; rw [if_neg (show ¬ act.toInt = 1 by omega), if_neg (show ¬ act.toInt = 2 by omega), if_neg (show ¬ act.toInt = 3 by omega), if_neg (show ¬ act.toInt = 4 by omega), if_neg (show ¬ act.toInt = 5 by omega), if_neg (show ¬ act.toInt = 6 by omega), if_pos (show act.toInt = 7 by unfold gact aok at hg; omega), if_neg (Int64.not_lt.mpr c_289)]; exact ⟨rfl, hE⟩⟩)
                    · refine lv_lload hx hb dM_act_299 (lv_at hl 0 rfl) ?_
                      refine lv_goto (tgt := 305) hx hb dM_act_301 (by decide) ?_
                      refine mp_callv (va_runV (As := [.int (nI xn), .long hd_]) (rest := []) ⟨hx, hb, hml, hown, hts⟩ (kM_set l D k M_272 hE hO xn (by omega) hd_ _) (cwV 2 hts (bw_V bw_456 bw_458 bs_17 bw_2 bw_459) rfl rfl rfl (by decide +kernel) ⟨Nat.le_of_ble_eq_true rfl, Nat.le_of_ble_eq_true rfl⟩) (mp_preV I h0__M_272 rfl _) rfl rfl hl.1 rfl (lv_room (Nat.le_of_ble_eq_true rfl)) dM_act_305 ⟨Nat.le_of_ble_eq_true rfl, Nat.le_of_ble_eq_true rfl⟩) I (fun N1 H locs hp I => ?_)
                      have hE := hp
                      refine lv_lload hx hb dM_act_308 (lv_at hl 0 rfl) ?_
                      exact mp_lret hx hb hr hlocks I (Nat.le_of_ble_eq_true rfl) (Nat.le_of_ble_eq_true rfl) dM_act_310 (Or.inl ⟨hg, by rw [hxi, ← hget]; unfold pm; rw [if_neg (show ¬ act.toInt = 1 by omega), if_neg (show ¬ act.toInt = 2 by omega), if_neg (show ¬ act.toInt = 3 by omega), if_neg (show ¬ act.toInt = 4 by omega), if_neg (show ¬ act.toInt = 5 by omega), if_neg (show ¬ act.toInt = 6 by omega), if_pos (show act.toInt = 7 by unfold gact aok at hg; omega), if_pos (Int64.not_le.mp c_289)]; exact ⟨rfl, hE⟩⟩)
                · refine lv_aload_n hx hb dM_act_101 rfl (lv_at hl 2 rfl) ?_
                  refine lv_iload hx hb dM_act_102 (lv_at hl 1 rfl) ?_
                  refine lv_lload hx hb dM_act_104 (lv_at hl 6 rfl) ?_
                  refine mp_calli (va_runV (As := [.int (nI (sk xn)), .long w]) (rest := []) ⟨hx, hb, hml, hown, hts⟩ (kM_isValue l D k M hE hO (sk xn) w (by omega) _) (cwV 2 hts (bw_V bw_443 bw_445 bs_15 bw_2 bw_446) rfl rfl rfl (by decide +kernel) ⟨Nat.le_of_ble_eq_true rfl, Nat.le_of_ble_eq_true rfl⟩) (mp_preV I h0 rfl _) rfl rfl hl.1 rfl (lv_room (Nat.le_of_ble_eq_true rfl)) dM_act_106 ⟨Nat.le_of_ble_eq_true rfl, Nat.le_of_ble_eq_true rfl⟩) I (fun r_292 N_293 H locs hp I => ?_)
                  obtain ⟨e_294, hp⟩ := hp
                  rw [e_294] at I
                  rcases hp with ⟨p5, rfl⟩ | ⟨p5, rfl⟩
                  · refine zz_if_eq (tgt := 116) hx hb (nI_toInt (by decide)) dM_act_109 (by decide) (fun c_295 => absurd c_295 (by decide)) (fun _ => ?_)
                    refine lv_iconst (v := nI 1) hx hb dM_act_112 (by decide) ?_
                    refine lv_goto (tgt := 117) hx hb dM_act_113 (by decide) ?_
                    refine lv_istore (lv' := [(7, .int (nI 1)), (8, .int (nI (sk xn))), (0, .ref mo), (1, .int (nI xn)), (2, .int act), (3, .long v), (5, .long w)]) hx hb dM_act_117 hl (by decide) rfl (fun ls hl => ?_)
                    refine lv_aload_n hx hb dM_act_119 rfl (lv_at hl 2 rfl) ?_
                    refine lv_iload hx hb dM_act_120 (lv_at hl 0 rfl) ?_
                    refine zz_if_eq (tgt := 129) hx hb (nI_toInt (by decide)) dM_act_122 (by decide) (fun c_296 => absurd c_296 (by decide)) (fun _ => ?_)
                    refine lv_iconst (v := nI 0) hx hb dM_act_125 (by decide) ?_
                    refine lv_goto (tgt := 130) hx hb dM_act_126 (by decide) ?_
                    refine mp_put (v := .int (nI 0)) (ty := .int) hx hb hts inM tyM okM nmM hown I h0 rfl 17 (by decide) (hts _ bw_348) (fun _ h9 => h9) rfl (by decide +kernel) rfl rfl (Nat.le_of_ble_eq_true rfl) dM_act_130 (fun H locs I => ?_)
                    have I : mp_I D cls5 (tys6 k) s _ s.heap H locs (mp_up M mo (.inr (4, [.ref el, .ref ek, .int (nI ec), .ref bg, .ref sz, .ref kn, .int (nI tc), .ref rw, .int (nI wc), .ref pp, .ref pk, .ref wd, .ref lo, .int (nI sc), .ref kp, .ref ks, .int (nI nc), .int (nI 0)]))) := I
                    have h0_n : mp_up M mo (.inr (4, [.ref el, .ref ek, .int (nI ec), .ref bg, .ref sz, .ref kn, .int (nI tc), .ref rw, .int (nI wc), .ref pp, .ref pk, .ref wd, .ref lo, .int (nI sc), .ref kp, .ref ks, .int (nI nc), .int (nI 0)])) mo = some (.inr (4, [.ref el, .ref ek, .int (nI ec), .ref bg, .ref sz, .ref kn, .int (nI tc), .ref rw, .int (nI wc), .ref pp, .ref pk, .ref wd, .ref lo, .int (nI sc), .ref kp, .ref ks, .int (nI nc), .int (nI 0)])) := mp_up_s _ _ _
                    have hel_n : mp_up M mo (.inr (4, [.ref el, .ref ek, .int (nI ec), .ref bg, .ref sz, .ref kn, .int (nI tc), .ref rw, .int (nI wc), .ref pp, .ref pk, .ref wd, .ref lo, .int (nI sc), .ref kp, .ref ks, .int (nI nc), .int (nI 0)])) el = some (.inl (k 1, 4000, .inr (.inl va))) := (mp_up_n (mp_ne hel h0 (by simp))).trans hel
                    have hek_n : mp_up M mo (.inr (4, [.ref el, .ref ek, .int (nI ec), .ref bg, .ref sz, .ref kn, .int (nI tc), .ref rw, .int (nI wc), .ref pp, .ref pk, .ref wd, .ref lo, .int (nI sc), .ref kp, .ref ks, .int (nI nc), .int (nI 0)])) ek = some (.inl (k 0, 4000, .inl (fun i_ => nI (kd i_)))) := (mp_up_n (mp_ne hek h0 (by simp))).trans hek
                    have hbg_n : mp_up M mo (.inr (4, [.ref el, .ref ek, .int (nI ec), .ref bg, .ref sz, .ref kn, .int (nI tc), .ref rw, .int (nI wc), .ref pp, .ref pk, .ref wd, .ref lo, .int (nI sc), .ref kp, .ref ks, .int (nI nc), .int (nI 0)])) bg = some (.inl (k 0, 300, .inl (fun i_ => nI (tf i_)))) := (mp_up_n (mp_ne hbg h0 (by simp))).trans hbg
                    have hsz_n : mp_up M mo (.inr (4, [.ref el, .ref ek, .int (nI ec), .ref bg, .ref sz, .ref kn, .int (nI tc), .ref rw, .int (nI wc), .ref pp, .ref pk, .ref wd, .ref lo, .int (nI sc), .ref kp, .ref ks, .int (nI nc), .int (nI 0)])) sz = some (.inl (k 0, 300, .inl (fun i_ => nI (tz i_)))) := (mp_up_n (mp_ne hsz h0 (by simp))).trans hsz
                    have hkn_n : mp_up M mo (.inr (4, [.ref el, .ref ek, .int (nI ec), .ref bg, .ref sz, .ref kn, .int (nI tc), .ref rw, .int (nI wc), .ref pp, .ref pk, .ref wd, .ref lo, .int (nI sc), .ref kp, .ref ks, .int (nI nc), .int (nI 0)])) kn = some (.inl (k 0, 300, .inl (fun i_ => nI (tk i_)))) := (mp_up_n (mp_ne hkn h0 (by simp))).trans hkn
                    have hrw_n : mp_up M mo (.inr (4, [.ref el, .ref ek, .int (nI ec), .ref bg, .ref sz, .ref kn, .int (nI tc), .ref rw, .int (nI wc), .ref pp, .ref pk, .ref wd, .ref lo, .int (nI sc), .ref kp, .ref ks, .int (nI nc), .int (nI 0)])) rw = some (.inl (k 0, 12, .inl (fun i_ => nI (wt i_)))) := (mp_up_n (mp_ne hrw h0 (by simp))).trans hrw
                    have hpp_n : mp_up M mo (.inr (4, [.ref el, .ref ek, .int (nI ec), .ref bg, .ref sz, .ref kn, .int (nI tc), .ref rw, .int (nI wc), .ref pp, .ref pk, .ref wd, .ref lo, .int (nI sc), .ref kp, .ref ks, .int (nI nc), .int (nI 0)])) pp = some (.inl (k 0, 100, .inl (fun i_ => nI (sf i_)))) := (mp_up_n (mp_ne hpp h0 (by simp))).trans hpp
                    have hpk_n : mp_up M mo (.inr (4, [.ref el, .ref ek, .int (nI ec), .ref bg, .ref sz, .ref kn, .int (nI tc), .ref rw, .int (nI wc), .ref pp, .ref pk, .ref wd, .ref lo, .int (nI sc), .ref kp, .ref ks, .int (nI nc), .int (nI 0)])) pk = some (.inl (k 0, 100, .inl (fun i_ => nI (sk i_)))) := (mp_up_n (mp_ne hpk h0 (by simp))).trans hpk
                    have hwd_n : mp_up M mo (.inr (4, [.ref el, .ref ek, .int (nI ec), .ref bg, .ref sz, .ref kn, .int (nI tc), .ref rw, .int (nI wc), .ref pp, .ref pk, .ref wd, .ref lo, .int (nI sc), .ref kp, .ref ks, .int (nI nc), .int (nI 0)])) wd = some (.inl (k 0, 100, .inl (fun i_ => nI (sw i_)))) := (mp_up_n (mp_ne hwd h0 (by simp))).trans hwd
                    have hlo_n : mp_up M mo (.inr (4, [.ref el, .ref ek, .int (nI ec), .ref bg, .ref sz, .ref kn, .int (nI tc), .ref rw, .int (nI wc), .ref pp, .ref pk, .ref wd, .ref lo, .int (nI sc), .ref kp, .ref ks, .int (nI nc), .int (nI 0)])) lo = some (.inl (k 5, 100, .inl (fun i_ => nI (ml i_)))) := (mp_up_n (mp_ne hlo h0 (by simp))).trans hlo
                    have hkp_n : mp_up M mo (.inr (4, [.ref el, .ref ek, .int (nI ec), .ref bg, .ref sz, .ref kn, .int (nI tc), .ref rw, .int (nI wc), .ref pp, .ref pk, .ref wd, .ref lo, .int (nI sc), .ref kp, .ref ks, .int (nI nc), .int (nI 0)])) kp = some (.inl (k 1, 80000, .inr (.inl mk))) := (mp_up_n (mp_ne hkp h0 (by simp))).trans hkp
                    have hks_n : mp_up M mo (.inr (4, [.ref el, .ref ek, .int (nI ec), .ref bg, .ref sz, .ref kn, .int (nI tc), .ref rw, .int (nI wc), .ref pp, .ref pk, .ref wd, .ref lo, .int (nI sc), .ref kp, .ref ks, .int (nI nc), .int (nI 0)])) ks = some (.inl (k 0, 20, .inl (fun i_ => nI (nn i_)))) := (mp_up_n (mp_ne hks h0 (by simp))).trans hks
                    generalize eM_298 : mp_up M mo (.inr (4, [.ref el, .ref ek, .int (nI ec), .ref bg, .ref sz, .ref kn, .int (nI tc), .ref rw, .int (nI wc), .ref pp, .ref pk, .ref wd, .ref lo, .int (nI sc), .ref kp, .ref ks, .int (nI nc), .int (nI 0)])) = M_297 at I h0_n hel_n hek_n hbg_n hsz_n hkn_n hrw_n hpp_n hpk_n hwd_n hlo_n hkp_n hks_n
                    have h0__M_297 := h0_n
                    have hel__M_297 := hel_n
                    have hek__M_297 := hek_n
                    have hbg__M_297 := hbg_n
                    have hsz__M_297 := hsz_n
                    have hkn__M_297 := hkn_n
                    have hrw__M_297 := hrw_n
                    have hpp__M_297 := hpp_n
                    have hpk__M_297 := hpk_n
                    have hwd__M_297 := hwd_n
                    have hlo__M_297 := hlo_n
                    have hkp__M_297 := hkp_n
                    have hks__M_297 := hks_n
                    clear h0_n hel_n hek_n hbg_n hsz_n hkn_n hrw_n hpp_n hpk_n hwd_n hlo_n hkp_n hks_n
                    have hE := hE.cnt ec tc wc sc nc 0
                    rw [eM_298] at hE
                    refine lv_iload hx hb dM_act_133 (lv_at hl 0 rfl) ?_
                    refine zz_if_ne (tgt := 140) hx hb (nI_toInt (by decide)) dM_act_135 (by decide) (fun _ => ?_) (fun c_299 => absurd c_299 (by decide))
                    refine lv_aload_n hx hb dM_act_140 rfl (lv_at hl 2 rfl) ?_
                    refine lv_iload_n hx hb dM_act_141 rfl (lv_at hl 3 rfl) ?_
                    have hg : gact tc sc sk (nI xn).toInt act.toInt v w := by unfold gact; rw [hxi]; exact ⟨by omega, by omega, by unfold aok; omega, fun h => by first | exact p4 | (exfalso; omega), fun h => by first | exact p5 | (exfalso; omega)⟩
                    refine mp_calll (va_runV (As := [.int (nI xn)]) (rest := []) ⟨hx, hb, hml, hown, hts⟩ (kM_get l D k M_297 hE hO xn (by omega) _) (cwV 1 hts (bw_V bw_451 bw_453 bs_16 bw_2 bw_454) rfl rfl rfl (by decide +kernel) ⟨Nat.le_of_ble_eq_true rfl, Nat.le_of_ble_eq_true rfl⟩) (mp_preV I h0__M_297 rfl _) rfl rfl hl.1 rfl (lv_room (Nat.le_of_ble_eq_true rfl)) dM_act_142 ⟨Nat.le_of_ble_eq_true rfl, Nat.le_of_ble_eq_true rfl⟩) I (fun hd_ N1 H locs hp I => ?_)
                    obtain ⟨e_300, hp⟩ := hp
                    rw [e_300] at I
                    refine lv_lstore (lv' := [(9, .long hd_), (7, .int (nI 1)), (8, .int (nI (sk xn))), (0, .ref mo), (1, .int (nI xn)), (2, .int act), (3, .long v), (5, .long w)]) hx hb dM_act_145 hl (by decide) rfl (fun ls hl => ?_)
                    refine lv_iload_n hx hb dM_act_147 rfl (lv_at hl 5 rfl) ?_
                    have c_301 : act.toInt = 0 ∨ act.toInt = 1 ∨ act.toInt = 2 ∨ act.toInt = 3 ∨ act.toInt = 4 ∨ act.toInt = 5 ∨ act.toInt = 6 ∨ (act.toInt < 0 ∨ 6 < act.toInt) := by omega
                    rcases c_301 with c_301 | c_301 | c_301 | c_301 | c_301 | c_301 | c_301 | c_301
                    · refine lv_tableIn (off := 44) (tgt := 192) hx hb dM_act_148 (by rw [show act.toInt = act.toInt from rfl]; omega) (by rw [show act.toInt = act.toInt from rfl]; omega) (by rw [show act.toInt = act.toInt from rfl, c_301]; rfl) (by decide) ?_
                      refine lv_lload hx hb dM_act_192 (lv_at hl 0 rfl) ?_
                      exact mp_lret hx hb hr hlocks I (Nat.le_of_ble_eq_true rfl) (Nat.le_of_ble_eq_true rfl) dM_act_194 (Or.inl ⟨hg, by rw [hxi, ← hp]; unfold pm; rw [if_neg (show ¬ act.toInt = 1 by omega), if_neg (show ¬ act.toInt = 2 by omega), if_neg (show ¬ act.toInt = 3 by omega), if_neg (show ¬ act.toInt = 4 by omega), if_neg (show ¬ act.toInt = 5 by omega), if_neg (show ¬ act.toInt = 6 by omega), if_neg (show ¬ act.toInt = 7 by omega)]; exact ⟨rfl, hE⟩⟩)
                    · refine lv_tableIn (off := 47) (tgt := 195) hx hb dM_act_148 (by rw [show act.toInt = act.toInt from rfl]; omega) (by rw [show act.toInt = act.toInt from rfl]; omega) (by rw [show act.toInt = act.toInt from rfl, c_301]; rfl) (by decide) ?_
                      refine lv_aload_n hx hb dM_act_195 rfl (lv_at hl 3 rfl) ?_
                      refine lv_iload_n hx hb dM_act_196 rfl (lv_at hl 4 rfl) ?_
                      refine lv_lload_n hx hb dM_act_197 rfl (lv_at hl 6 rfl) ?_
                      have hget := hp
                      refine mp_callv (va_runV (As := [.int (nI xn), .long v]) (rest := []) ⟨hx, hb, hml, hown, hts⟩ (kM_set l D k M_297 hE hO xn (by omega) v _) (cwV 2 hts (bw_V bw_456 bw_458 bs_17 bw_2 bw_459) rfl rfl rfl (by decide +kernel) ⟨Nat.le_of_ble_eq_true rfl, Nat.le_of_ble_eq_true rfl⟩) (mp_preV I h0__M_297 rfl _) rfl rfl hl.1 rfl (lv_room (Nat.le_of_ble_eq_true rfl)) dM_act_198 ⟨Nat.le_of_ble_eq_true rfl, Nat.le_of_ble_eq_true rfl⟩) I (fun N1 H locs hp I => ?_)
                      have hE := hp
                      refine lv_lconst (v := 0) hx hb dM_act_201 (by decide) ?_
                      exact mp_lret hx hb hr hlocks I (Nat.le_of_ble_eq_true rfl) (Nat.le_of_ble_eq_true rfl) dM_act_202 (Or.inl ⟨hg, by rw [hxi, ← hget]; unfold pm; rw [if_pos (show act.toInt = 1 by omega)]; exact ⟨rfl, hE⟩⟩)
                    · refine lv_tableIn (off := 55) (tgt := 203) hx hb dM_act_148 (by rw [show act.toInt = act.toInt from rfl]; omega) (by rw [show act.toInt = act.toInt from rfl]; omega) (by rw [show act.toInt = act.toInt from rfl, c_301]; rfl) (by decide) ?_
                      refine lv_aload_n hx hb dM_act_203 rfl (lv_at hl 3 rfl) ?_
                      refine lv_iload_n hx hb dM_act_204 rfl (lv_at hl 4 rfl) ?_
                      refine lv_lload_n hx hb dM_act_205 rfl (lv_at hl 6 rfl) ?_
                      have hget := hp
                      refine mp_callv (va_runV (As := [.int (nI xn), .long v]) (rest := []) ⟨hx, hb, hml, hown, hts⟩ (kM_set l D k M_297 hE hO xn (by omega) v _) (cwV 2 hts (bw_V bw_456 bw_458 bs_17 bw_2 bw_459) rfl rfl rfl (by decide +kernel) ⟨Nat.le_of_ble_eq_true rfl, Nat.le_of_ble_eq_true rfl⟩) (mp_preV I h0__M_297 rfl _) rfl rfl hl.1 rfl (lv_room (Nat.le_of_ble_eq_true rfl)) dM_act_206 ⟨Nat.le_of_ble_eq_true rfl, Nat.le_of_ble_eq_true rfl⟩) I (fun N1 H locs hp I => ?_)
                      have hE := hp
                      refine lv_goto (tgt := 308) hx hb dM_act_209 (by decide) ?_
                      refine lv_lload hx hb dM_act_308 (lv_at hl 0 rfl) ?_
                      exact mp_lret hx hb hr hlocks I (Nat.le_of_ble_eq_true rfl) (Nat.le_of_ble_eq_true rfl) dM_act_310 (Or.inl ⟨hg, by rw [hxi, ← hget]; unfold pm; rw [if_neg (show ¬ act.toInt = 1 by omega), if_pos (show act.toInt = 2 by omega)]; exact ⟨rfl, hE⟩⟩)
                    · refine lv_tableIn (off := 64) (tgt := 212) hx hb dM_act_148 (by rw [show act.toInt = act.toInt from rfl]; omega) (by rw [show act.toInt = act.toInt from rfl]; omega) (by rw [show act.toInt = act.toInt from rfl, c_301]; rfl) (by decide) ?_
                      refine lv_lload hx hb dM_act_212 (lv_at hl 0 rfl) ?_
                      refine lv_lload_n hx hb dM_act_214 rfl (lv_at hl 6 rfl) ?_
                      have hget := hp
                      refine W.lcmp hx hb dM_act_215 ?_
                      refine lv_if_ne (tgt := 226) hx hb dM_act_216 (by decide) (fun c_304 => ?_) (fun c_304 => ?_)
                      all_goals rw [lg_cmp_eq] at c_304
                      · refine lv_lload hx hb dM_act_226 (lv_at hl 0 rfl) ?_
                        refine lv_lload_n hx hb dM_act_228 rfl (lv_at hl 6 rfl) ?_
                        refine W.lcmp hx hb dM_act_229 ?_
                        refine lv_if_ne (tgt := 237) hx hb dM_act_230 (by decide) (fun c_305 => ?_) (fun c_305 => ?_)
                        all_goals rw [lg_cmp_eq] at c_305
                        · refine lv_lconst (v := 0) hx hb dM_act_237 (by decide) ?_
                          exact mp_lret hx hb hr hlocks I (Nat.le_of_ble_eq_true rfl) (Nat.le_of_ble_eq_true rfl) dM_act_238 (Or.inl ⟨hg, by rw [hxi, ← hget]; unfold pm; rw [if_neg (show ¬ act.toInt = 1 by omega), if_neg (show ¬ act.toInt = 2 by omega), if_pos (show act.toInt = 3 by omega), if_neg c_304]; exact ⟨rfl, hE⟩⟩)
                        · exact absurd c_305 c_304
                      · refine lv_aload_n hx hb dM_act_219 rfl (lv_at hl 3 rfl) ?_
                        refine lv_iload_n hx hb dM_act_220 rfl (lv_at hl 4 rfl) ?_
                        refine lv_lload hx hb dM_act_221 (lv_at hl 7 rfl) ?_
                        refine mp_callv (va_runV (As := [.int (nI xn), .long w]) (rest := []) ⟨hx, hb, hml, hown, hts⟩ (kM_set l D k M_297 hE hO xn (by omega) w _) (cwV 2 hts (bw_V bw_456 bw_458 bs_17 bw_2 bw_459) rfl rfl rfl (by decide +kernel) ⟨Nat.le_of_ble_eq_true rfl, Nat.le_of_ble_eq_true rfl⟩) (mp_preV I h0__M_297 rfl _) rfl rfl hl.1 rfl (lv_room (Nat.le_of_ble_eq_true rfl)) dM_act_223 ⟨Nat.le_of_ble_eq_true rfl, Nat.le_of_ble_eq_true rfl⟩) I (fun N1 H locs hp I => ?_)
                        have hE := hp
                        refine lv_lload hx hb dM_act_226 (lv_at hl 0 rfl) ?_
                        refine lv_lload_n hx hb dM_act_228 rfl (lv_at hl 6 rfl) ?_
                        refine W.lcmp hx hb dM_act_229 ?_
                        refine lv_if_ne (tgt := 237) hx hb dM_act_230 (by decide) (fun c_307 => ?_) (fun c_307 => ?_)
                        all_goals rw [lg_cmp_eq] at c_307
                        · exact absurd c_304 c_307
                        · refine lv_lconst (v := 1) hx hb dM_act_233 (by decide) ?_
                          refine lv_goto (tgt := 238) hx hb dM_act_234 (by decide) ?_
                          exact mp_lret hx hb hr hlocks I (Nat.le_of_ble_eq_true rfl) (Nat.le_of_ble_eq_true rfl) dM_act_238 (Or.inl ⟨hg, by rw [hxi, ← hget]; unfold pm; rw [if_neg (show ¬ act.toInt = 1 by omega), if_neg (show ¬ act.toInt = 2 by omega), if_pos (show act.toInt = 3 by omega), if_pos c_304]; exact ⟨rfl, hE⟩⟩)
                    · refine lv_tableIn (off := 91) (tgt := 239) hx hb dM_act_148 (by rw [show act.toInt = act.toInt from rfl]; omega) (by rw [show act.toInt = act.toInt from rfl]; omega) (by rw [show act.toInt = act.toInt from rfl, c_301]; rfl) (by decide) ?_
                      refine lv_aload_n hx hb dM_act_239 rfl (lv_at hl 3 rfl) ?_
                      refine lv_iload_n hx hb dM_act_240 rfl (lv_at hl 4 rfl) ?_
                      refine lv_iload hx hb dM_act_241 (lv_at hl 2 rfl) ?_
                      refine lv_lload hx hb dM_act_243 (lv_at hl 0 rfl) ?_
                      refine lv_lload_n hx hb dM_act_245 rfl (lv_at hl 6 rfl) ?_
                      refine lv_ladd hx hb dM_act_246 ?_
                      have hget := hp
                      refine mp_calll (va_runS (As := [.int (nI (sk xn)), .long (hd_ + v)]) (rest := [.int (nI xn), .ref mo]) ⟨hx, hb, hml, hown, hts⟩ (kM_as l D k M_297 (sk xn) (hd_ + v) (by omega) _) (cwS 2 hts (bw_S bw_447 bw_448 bw_2 bw_449) rfl rfl rfl (by decide +kernel) ⟨Nat.le_of_ble_eq_true rfl, Nat.le_of_ble_eq_true rfl⟩) (mp_preS I _) rfl rfl hl.1 rfl (lv_room (Nat.le_of_ble_eq_true rfl)) dM_act_247 ⟨Nat.le_of_ble_eq_true rfl, Nat.le_of_ble_eq_true rfl⟩) I (fun r2 N1 H locs hp I => ?_)
                      obtain ⟨e_308, hp⟩ := hp
                      rw [e_308] at I
                      subst hp
                      refine mp_callv (va_runV (As := [.int (nI xn), .long (lb (sk xn) (hd_ + v))]) (rest := []) ⟨hx, hb, hml, hown, hts⟩ (kM_set l D k M_297 hE hO xn (by omega) (lb (sk xn) (hd_ + v)) _) (cwV 2 hts (bw_V bw_456 bw_458 bs_17 bw_2 bw_459) rfl rfl rfl (by decide +kernel) ⟨Nat.le_of_ble_eq_true rfl, Nat.le_of_ble_eq_true rfl⟩) (mp_preV I h0__M_297 rfl _) rfl rfl hl.1 rfl (lv_room (Nat.le_of_ble_eq_true rfl)) dM_act_250 ⟨Nat.le_of_ble_eq_true rfl, Nat.le_of_ble_eq_true rfl⟩) I (fun N1 H locs hp I => ?_)
                      have hE := hp
                      refine lv_goto (tgt := 308) hx hb dM_act_253 (by decide) ?_
                      refine lv_lload hx hb dM_act_308 (lv_at hl 0 rfl) ?_
                      exact mp_lret hx hb hr hlocks I (Nat.le_of_ble_eq_true rfl) (Nat.le_of_ble_eq_true rfl) dM_act_310 (Or.inl ⟨hg, by rw [hxi, ← hget]; unfold pm; rw [if_neg (show ¬ act.toInt = 1 by omega), if_neg (show ¬ act.toInt = 2 by omega), if_neg (show ¬ act.toInt = 3 by omega), if_pos (show act.toInt = 4 by omega)]; exact ⟨rfl, hE⟩⟩)
                    · refine lv_tableIn (off := 108) (tgt := 256) hx hb dM_act_148 (by rw [show act.toInt = act.toInt from rfl]; omega) (by rw [show act.toInt = act.toInt from rfl]; omega) (by rw [show act.toInt = act.toInt from rfl, c_301]; rfl) (by decide) ?_
                      refine lv_aload_n hx hb dM_act_256 rfl (lv_at hl 3 rfl) ?_
                      refine lv_iload_n hx hb dM_act_257 rfl (lv_at hl 4 rfl) ?_
                      refine lv_iload hx hb dM_act_258 (lv_at hl 2 rfl) ?_
                      refine lv_lload hx hb dM_act_260 (lv_at hl 0 rfl) ?_
                      refine lv_lload_n hx hb dM_act_262 rfl (lv_at hl 6 rfl) ?_
                      refine lv_land hx hb dM_act_263 ?_
                      have hget := hp
                      refine mp_calll (va_runS (As := [.int (nI (sk xn)), .long (hd_ &&& v)]) (rest := [.int (nI xn), .ref mo]) ⟨hx, hb, hml, hown, hts⟩ (kM_as l D k M_297 (sk xn) (hd_ &&& v) (by omega) _) (cwS 2 hts (bw_S bw_447 bw_448 bw_2 bw_449) rfl rfl rfl (by decide +kernel) ⟨Nat.le_of_ble_eq_true rfl, Nat.le_of_ble_eq_true rfl⟩) (mp_preS I _) rfl rfl hl.1 rfl (lv_room (Nat.le_of_ble_eq_true rfl)) dM_act_264 ⟨Nat.le_of_ble_eq_true rfl, Nat.le_of_ble_eq_true rfl⟩) I (fun r2 N1 H locs hp I => ?_)
                      obtain ⟨e_310, hp⟩ := hp
                      rw [e_310] at I
                      subst hp
                      refine mp_callv (va_runV (As := [.int (nI xn), .long (lb (sk xn) (hd_ &&& v))]) (rest := []) ⟨hx, hb, hml, hown, hts⟩ (kM_set l D k M_297 hE hO xn (by omega) (lb (sk xn) (hd_ &&& v)) _) (cwV 2 hts (bw_V bw_456 bw_458 bs_17 bw_2 bw_459) rfl rfl rfl (by decide +kernel) ⟨Nat.le_of_ble_eq_true rfl, Nat.le_of_ble_eq_true rfl⟩) (mp_preV I h0__M_297 rfl _) rfl rfl hl.1 rfl (lv_room (Nat.le_of_ble_eq_true rfl)) dM_act_267 ⟨Nat.le_of_ble_eq_true rfl, Nat.le_of_ble_eq_true rfl⟩) I (fun N1 H locs hp I => ?_)
                      have hE := hp
                      refine lv_goto (tgt := 308) hx hb dM_act_270 (by decide) ?_
                      refine lv_lload hx hb dM_act_308 (lv_at hl 0 rfl) ?_
                      exact mp_lret hx hb hr hlocks I (Nat.le_of_ble_eq_true rfl) (Nat.le_of_ble_eq_true rfl) dM_act_310 (Or.inl ⟨hg, by rw [hxi, ← hget]; unfold pm; rw [if_neg (show ¬ act.toInt = 1 by omega), if_neg (show ¬ act.toInt = 2 by omega), if_neg (show ¬ act.toInt = 3 by omega), if_neg (show ¬ act.toInt = 4 by omega), if_pos (show act.toInt = 5 by omega)]; exact ⟨rfl, hE⟩⟩)
                    · refine lv_tableIn (off := 125) (tgt := 273) hx hb dM_act_148 (by rw [show act.toInt = act.toInt from rfl]; omega) (by rw [show act.toInt = act.toInt from rfl]; omega) (by rw [show act.toInt = act.toInt from rfl, c_301]; rfl) (by decide) ?_
                      refine lv_aload_n hx hb dM_act_273 rfl (lv_at hl 3 rfl) ?_
                      refine lv_iload_n hx hb dM_act_274 rfl (lv_at hl 4 rfl) ?_
                      refine lv_iload hx hb dM_act_275 (lv_at hl 2 rfl) ?_
                      refine lv_lload hx hb dM_act_277 (lv_at hl 0 rfl) ?_
                      refine lv_lload_n hx hb dM_act_279 rfl (lv_at hl 6 rfl) ?_
                      refine lv_lor hx hb dM_act_280 ?_
                      have hget := hp
                      refine mp_calll (va_runS (As := [.int (nI (sk xn)), .long (hd_ ||| v)]) (rest := [.int (nI xn), .ref mo]) ⟨hx, hb, hml, hown, hts⟩ (kM_as l D k M_297 (sk xn) (hd_ ||| v) (by omega) _) (cwS 2 hts (bw_S bw_447 bw_448 bw_2 bw_449) rfl rfl rfl (by decide +kernel) ⟨Nat.le_of_ble_eq_true rfl, Nat.le_of_ble_eq_true rfl⟩) (mp_preS I _) rfl rfl hl.1 rfl (lv_room (Nat.le_of_ble_eq_true rfl)) dM_act_281 ⟨Nat.le_of_ble_eq_true rfl, Nat.le_of_ble_eq_true rfl⟩) I (fun r2 N1 H locs hp I => ?_)
                      obtain ⟨e_312, hp⟩ := hp
                      rw [e_312] at I
                      subst hp
                      refine mp_callv (va_runV (As := [.int (nI xn), .long (lb (sk xn) (hd_ ||| v))]) (rest := []) ⟨hx, hb, hml, hown, hts⟩ (kM_set l D k M_297 hE hO xn (by omega) (lb (sk xn) (hd_ ||| v)) _) (cwV 2 hts (bw_V bw_456 bw_458 bs_17 bw_2 bw_459) rfl rfl rfl (by decide +kernel) ⟨Nat.le_of_ble_eq_true rfl, Nat.le_of_ble_eq_true rfl⟩) (mp_preV I h0__M_297 rfl _) rfl rfl hl.1 rfl (lv_room (Nat.le_of_ble_eq_true rfl)) dM_act_284 ⟨Nat.le_of_ble_eq_true rfl, Nat.le_of_ble_eq_true rfl⟩) I (fun N1 H locs hp I => ?_)
                      have hE := hp
                      refine lv_goto (tgt := 308) hx hb dM_act_287 (by decide) ?_
                      refine lv_lload hx hb dM_act_308 (lv_at hl 0 rfl) ?_
                      exact mp_lret hx hb hr hlocks I (Nat.le_of_ble_eq_true rfl) (Nat.le_of_ble_eq_true rfl) dM_act_310 (Or.inl ⟨hg, by rw [hxi, ← hget]; unfold pm; rw [if_neg (show ¬ act.toInt = 1 by omega), if_neg (show ¬ act.toInt = 2 by omega), if_neg (show ¬ act.toInt = 3 by omega), if_neg (show ¬ act.toInt = 4 by omega), if_neg (show ¬ act.toInt = 5 by omega), if_pos (show act.toInt = 6 by omega)]; exact ⟨rfl, hE⟩⟩)
                    · refine lv_tableOut (tgt := 290) hx hb dM_act_148 (by rw [show act.toInt = act.toInt from rfl]; exact c_301) (by decide) ?_
                      refine lv_aload_n hx hb dM_act_290 rfl (lv_at hl 3 rfl) ?_
                      refine lv_iload_n hx hb dM_act_291 rfl (lv_at hl 4 rfl) ?_
                      refine lv_lload hx hb dM_act_292 (lv_at hl 0 rfl) ?_
                      refine lv_lload_n hx hb dM_act_294 rfl (lv_at hl 6 rfl) ?_
                      have hget := hp
                      refine W.lcmp hx hb dM_act_295 ?_
                      refine lv_if_le (tgt := 304) hx hb dM_act_296 (by decide) (fun c_314 => ?_) (fun c_314 => ?_)
                      all_goals rw [lg_cmp_le] at c_314
                      · refine lv_lload_n hx hb dM_act_304 rfl (lv_at hl 6 rfl) ?_
                        refine mp_callv (va_runV (As := [.int (nI xn), .long v]) (rest := []) ⟨hx, hb, hml, hown, hts⟩ (kM_set l D k M_297 hE hO xn (by omega) v _) (cwV 2 hts (bw_V bw_456 bw_458 bs_17 bw_2 bw_459) rfl rfl rfl (by decide +kernel) ⟨Nat.le_of_ble_eq_true rfl, Nat.le_of_ble_eq_true rfl⟩) (mp_preV I h0__M_297 rfl _) rfl rfl hl.1 rfl (lv_room (Nat.le_of_ble_eq_true rfl)) dM_act_305 ⟨Nat.le_of_ble_eq_true rfl, Nat.le_of_ble_eq_true rfl⟩) I (fun N1 H locs hp I => ?_)
                        have hE := hp
                        refine lv_lload hx hb dM_act_308 (lv_at hl 0 rfl) ?_
                        exact mp_lret hx hb hr hlocks I (Nat.le_of_ble_eq_true rfl) (Nat.le_of_ble_eq_true rfl) dM_act_310 (Or.inl ⟨hg, by rw [hxi, ← hget]; unfold pm; rw [if_neg (show ¬ act.toInt = 1 by omega), if_neg (show ¬ act.toInt = 2 by omega), if_neg (show ¬ act.toInt = 3 by omega), if_neg (show ¬ act.toInt = 4 by omega), if_neg (show ¬ act.toInt = 5 by omega), if_neg (show ¬ act.toInt = 6 by omega), if_pos (show act.toInt = 7 by unfold gact aok at hg; omega), if_neg (Int64.not_lt.mpr c_314)]; exact ⟨rfl, hE⟩⟩)
                      · refine lv_lload hx hb dM_act_299 (lv_at hl 0 rfl) ?_
                        refine lv_goto (tgt := 305) hx hb dM_act_301 (by decide) ?_
                        refine mp_callv (va_runV (As := [.int (nI xn), .long hd_]) (rest := []) ⟨hx, hb, hml, hown, hts⟩ (kM_set l D k M_297 hE hO xn (by omega) hd_ _) (cwV 2 hts (bw_V bw_456 bw_458 bs_17 bw_2 bw_459) rfl rfl rfl (by decide +kernel) ⟨Nat.le_of_ble_eq_true rfl, Nat.le_of_ble_eq_true rfl⟩) (mp_preV I h0__M_297 rfl _) rfl rfl hl.1 rfl (lv_room (Nat.le_of_ble_eq_true rfl)) dM_act_305 ⟨Nat.le_of_ble_eq_true rfl, Nat.le_of_ble_eq_true rfl⟩) I (fun N1 H locs hp I => ?_)
                        have hE := hp
                        refine lv_lload hx hb dM_act_308 (lv_at hl 0 rfl) ?_
                        exact mp_lret hx hb hr hlocks I (Nat.le_of_ble_eq_true rfl) (Nat.le_of_ble_eq_true rfl) dM_act_310 (Or.inl ⟨hg, by rw [hxi, ← hget]; unfold pm; rw [if_neg (show ¬ act.toInt = 1 by omega), if_neg (show ¬ act.toInt = 2 by omega), if_neg (show ¬ act.toInt = 3 by omega), if_neg (show ¬ act.toInt = 4 by omega), if_neg (show ¬ act.toInt = 5 by omega), if_neg (show ¬ act.toInt = 6 by omega), if_pos (show act.toInt = 7 by unfold gact aok at hg; omega), if_pos (Int64.not_le.mp c_314)]; exact ⟨rfl, hE⟩⟩)
                  · refine zz_if_eq (tgt := 116) hx hb (nI_toInt (by decide)) dM_act_109 (by decide) (fun _ => ?_) (fun c_317 => absurd c_317 (by decide))
                    refine lv_iconst (v := nI 0) hx hb dM_act_116 (by decide) ?_
                    refine lv_istore (lv' := [(7, .int (nI 0)), (8, .int (nI (sk xn))), (0, .ref mo), (1, .int (nI xn)), (2, .int act), (3, .long v), (5, .long w)]) hx hb dM_act_117 hl (by decide) rfl (fun ls hl => ?_)
                    refine lv_aload_n hx hb dM_act_119 rfl (lv_at hl 2 rfl) ?_
                    refine lv_iload hx hb dM_act_120 (lv_at hl 0 rfl) ?_
                    refine zz_if_eq (tgt := 129) hx hb (nI_toInt (by decide)) dM_act_122 (by decide) (fun _ => ?_) (fun c_318 => absurd c_318 (by decide))
                    refine lv_iconst (v := nI 1) hx hb dM_act_129 (by decide) ?_
                    refine mp_put (v := .int (nI 1)) (ty := .int) hx hb hts inM tyM okM nmM hown I h0 rfl 17 (by decide) (hts _ bw_348) (fun _ h9 => h9) rfl (by decide +kernel) rfl rfl (Nat.le_of_ble_eq_true rfl) dM_act_130 (fun H locs I => ?_)
                    have I : mp_I D cls5 (tys6 k) s _ s.heap H locs (mp_up M mo (.inr (4, [.ref el, .ref ek, .int (nI ec), .ref bg, .ref sz, .ref kn, .int (nI tc), .ref rw, .int (nI wc), .ref pp, .ref pk, .ref wd, .ref lo, .int (nI sc), .ref kp, .ref ks, .int (nI nc), .int (nI 1)]))) := I
                    have h0_n : mp_up M mo (.inr (4, [.ref el, .ref ek, .int (nI ec), .ref bg, .ref sz, .ref kn, .int (nI tc), .ref rw, .int (nI wc), .ref pp, .ref pk, .ref wd, .ref lo, .int (nI sc), .ref kp, .ref ks, .int (nI nc), .int (nI 1)])) mo = some (.inr (4, [.ref el, .ref ek, .int (nI ec), .ref bg, .ref sz, .ref kn, .int (nI tc), .ref rw, .int (nI wc), .ref pp, .ref pk, .ref wd, .ref lo, .int (nI sc), .ref kp, .ref ks, .int (nI nc), .int (nI 1)])) := mp_up_s _ _ _
                    have hel_n : mp_up M mo (.inr (4, [.ref el, .ref ek, .int (nI ec), .ref bg, .ref sz, .ref kn, .int (nI tc), .ref rw, .int (nI wc), .ref pp, .ref pk, .ref wd, .ref lo, .int (nI sc), .ref kp, .ref ks, .int (nI nc), .int (nI 1)])) el = some (.inl (k 1, 4000, .inr (.inl va))) := (mp_up_n (mp_ne hel h0 (by simp))).trans hel
                    have hek_n : mp_up M mo (.inr (4, [.ref el, .ref ek, .int (nI ec), .ref bg, .ref sz, .ref kn, .int (nI tc), .ref rw, .int (nI wc), .ref pp, .ref pk, .ref wd, .ref lo, .int (nI sc), .ref kp, .ref ks, .int (nI nc), .int (nI 1)])) ek = some (.inl (k 0, 4000, .inl (fun i_ => nI (kd i_)))) := (mp_up_n (mp_ne hek h0 (by simp))).trans hek
                    have hbg_n : mp_up M mo (.inr (4, [.ref el, .ref ek, .int (nI ec), .ref bg, .ref sz, .ref kn, .int (nI tc), .ref rw, .int (nI wc), .ref pp, .ref pk, .ref wd, .ref lo, .int (nI sc), .ref kp, .ref ks, .int (nI nc), .int (nI 1)])) bg = some (.inl (k 0, 300, .inl (fun i_ => nI (tf i_)))) := (mp_up_n (mp_ne hbg h0 (by simp))).trans hbg
                    have hsz_n : mp_up M mo (.inr (4, [.ref el, .ref ek, .int (nI ec), .ref bg, .ref sz, .ref kn, .int (nI tc), .ref rw, .int (nI wc), .ref pp, .ref pk, .ref wd, .ref lo, .int (nI sc), .ref kp, .ref ks, .int (nI nc), .int (nI 1)])) sz = some (.inl (k 0, 300, .inl (fun i_ => nI (tz i_)))) := (mp_up_n (mp_ne hsz h0 (by simp))).trans hsz
                    have hkn_n : mp_up M mo (.inr (4, [.ref el, .ref ek, .int (nI ec), .ref bg, .ref sz, .ref kn, .int (nI tc), .ref rw, .int (nI wc), .ref pp, .ref pk, .ref wd, .ref lo, .int (nI sc), .ref kp, .ref ks, .int (nI nc), .int (nI 1)])) kn = some (.inl (k 0, 300, .inl (fun i_ => nI (tk i_)))) := (mp_up_n (mp_ne hkn h0 (by simp))).trans hkn
                    have hrw_n : mp_up M mo (.inr (4, [.ref el, .ref ek, .int (nI ec), .ref bg, .ref sz, .ref kn, .int (nI tc), .ref rw, .int (nI wc), .ref pp, .ref pk, .ref wd, .ref lo, .int (nI sc), .ref kp, .ref ks, .int (nI nc), .int (nI 1)])) rw = some (.inl (k 0, 12, .inl (fun i_ => nI (wt i_)))) := (mp_up_n (mp_ne hrw h0 (by simp))).trans hrw
                    have hpp_n : mp_up M mo (.inr (4, [.ref el, .ref ek, .int (nI ec), .ref bg, .ref sz, .ref kn, .int (nI tc), .ref rw, .int (nI wc), .ref pp, .ref pk, .ref wd, .ref lo, .int (nI sc), .ref kp, .ref ks, .int (nI nc), .int (nI 1)])) pp = some (.inl (k 0, 100, .inl (fun i_ => nI (sf i_)))) := (mp_up_n (mp_ne hpp h0 (by simp))).trans hpp
                    have hpk_n : mp_up M mo (.inr (4, [.ref el, .ref ek, .int (nI ec), .ref bg, .ref sz, .ref kn, .int (nI tc), .ref rw, .int (nI wc), .ref pp, .ref pk, .ref wd, .ref lo, .int (nI sc), .ref kp, .ref ks, .int (nI nc), .int (nI 1)])) pk = some (.inl (k 0, 100, .inl (fun i_ => nI (sk i_)))) := (mp_up_n (mp_ne hpk h0 (by simp))).trans hpk
                    have hwd_n : mp_up M mo (.inr (4, [.ref el, .ref ek, .int (nI ec), .ref bg, .ref sz, .ref kn, .int (nI tc), .ref rw, .int (nI wc), .ref pp, .ref pk, .ref wd, .ref lo, .int (nI sc), .ref kp, .ref ks, .int (nI nc), .int (nI 1)])) wd = some (.inl (k 0, 100, .inl (fun i_ => nI (sw i_)))) := (mp_up_n (mp_ne hwd h0 (by simp))).trans hwd
                    have hlo_n : mp_up M mo (.inr (4, [.ref el, .ref ek, .int (nI ec), .ref bg, .ref sz, .ref kn, .int (nI tc), .ref rw, .int (nI wc), .ref pp, .ref pk, .ref wd, .ref lo, .int (nI sc), .ref kp, .ref ks, .int (nI nc), .int (nI 1)])) lo = some (.inl (k 5, 100, .inl (fun i_ => nI (ml i_)))) := (mp_up_n (mp_ne hlo h0 (by simp))).trans hlo
                    have hkp_n : mp_up M mo (.inr (4, [.ref el, .ref ek, .int (nI ec), .ref bg, .ref sz, .ref kn, .int (nI tc), .ref rw, .int (nI wc), .ref pp, .ref pk, .ref wd, .ref lo, .int (nI sc), .ref kp, .ref ks, .int (nI nc), .int (nI 1)])) kp = some (.inl (k 1, 80000, .inr (.inl mk))) := (mp_up_n (mp_ne hkp h0 (by simp))).trans hkp
                    have hks_n : mp_up M mo (.inr (4, [.ref el, .ref ek, .int (nI ec), .ref bg, .ref sz, .ref kn, .int (nI tc), .ref rw, .int (nI wc), .ref pp, .ref pk, .ref wd, .ref lo, .int (nI sc), .ref kp, .ref ks, .int (nI nc), .int (nI 1)])) ks = some (.inl (k 0, 20, .inl (fun i_ => nI (nn i_)))) := (mp_up_n (mp_ne hks h0 (by simp))).trans hks
                    generalize eM_320 : mp_up M mo (.inr (4, [.ref el, .ref ek, .int (nI ec), .ref bg, .ref sz, .ref kn, .int (nI tc), .ref rw, .int (nI wc), .ref pp, .ref pk, .ref wd, .ref lo, .int (nI sc), .ref kp, .ref ks, .int (nI nc), .int (nI 1)])) = M_319 at I h0_n hel_n hek_n hbg_n hsz_n hkn_n hrw_n hpp_n hpk_n hwd_n hlo_n hkp_n hks_n
                    have h0__M_319 := h0_n
                    have hel__M_319 := hel_n
                    have hek__M_319 := hek_n
                    have hbg__M_319 := hbg_n
                    have hsz__M_319 := hsz_n
                    have hkn__M_319 := hkn_n
                    have hrw__M_319 := hrw_n
                    have hpp__M_319 := hpp_n
                    have hpk__M_319 := hpk_n
                    have hwd__M_319 := hwd_n
                    have hlo__M_319 := hlo_n
                    have hkp__M_319 := hkp_n
                    have hks__M_319 := hks_n
                    clear h0_n hel_n hek_n hbg_n hsz_n hkn_n hrw_n hpp_n hpk_n hwd_n hlo_n hkp_n hks_n
                    have hE := hE.cnt ec tc wc sc nc 1
                    rw [eM_320] at hE
                    refine lv_iload hx hb dM_act_133 (lv_at hl 0 rfl) ?_
                    refine zz_if_ne (tgt := 140) hx hb (nI_toInt (by decide)) dM_act_135 (by decide) (fun c_321 => absurd c_321 (by decide)) (fun _ => ?_)
                    refine lv_lconst (v := 0) hx hb dM_act_138 (by decide) ?_
                    exact mp_lret hx hb hr hlocks I (Nat.le_of_ble_eq_true rfl) (Nat.le_of_ble_eq_true rfl) dM_act_139 (Or.inr ⟨by intro hg; obtain ⟨g1, g2, g3, g4, g5⟩ := hg; rw [hxi] at g3 g4 g5; unfold aok at g3; first | omega | exact p4 (g4 (by omega)) | exact p5 (g5 (by omega)), rfl, hE⟩)
              · refine lv_aload_n hx hb dM_act_86 rfl (lv_at hl 2 rfl) ?_
                refine lv_iload hx hb dM_act_87 (lv_at hl 1 rfl) ?_
                refine lv_lload_n hx hb dM_act_89 rfl (lv_at hl 5 rfl) ?_
                refine mp_calli (va_runV (As := [.int (nI (sk xn)), .long v]) (rest := []) ⟨hx, hb, hml, hown, hts⟩ (kM_isValue l D k M hE hO (sk xn) v (by omega) _) (cwV 2 hts (bw_V bw_443 bw_445 bs_15 bw_2 bw_446) rfl rfl rfl (by decide +kernel) ⟨Nat.le_of_ble_eq_true rfl, Nat.le_of_ble_eq_true rfl⟩) (mp_preV I h0 rfl _) rfl rfl hl.1 rfl (lv_room (Nat.le_of_ble_eq_true rfl)) dM_act_90 ⟨Nat.le_of_ble_eq_true rfl, Nat.le_of_ble_eq_true rfl⟩) I (fun r_322 N_323 H locs hp I => ?_)
                obtain ⟨e_324, hp⟩ := hp
                rw [e_324] at I
                rcases hp with ⟨p4, rfl⟩ | ⟨p4, rfl⟩
                · refine zz_if_eq (tgt := 116) hx hb (nI_toInt (by decide)) dM_act_93 (by decide) (fun c_325 => absurd c_325 (by decide)) (fun _ => ?_)
                  refine lv_iload_n hx hb dM_act_96 rfl (lv_at hl 4 rfl) ?_
                  refine lv_iconst (v := nI 3) hx hb dM_act_97 (by decide) ?_
                  refine zz_icmp_ne (tgt := 112) hx hb rfl (nI_toInt (by decide)) dM_act_98 (by decide) (fun c_326 => ?_) (fun c_326 => ?_)
                  · refine lv_iconst (v := nI 1) hx hb dM_act_112 (by decide) ?_
                    refine lv_goto (tgt := 117) hx hb dM_act_113 (by decide) ?_
                    refine lv_istore (lv' := [(7, .int (nI 1)), (8, .int (nI (sk xn))), (0, .ref mo), (1, .int (nI xn)), (2, .int act), (3, .long v), (5, .long w)]) hx hb dM_act_117 hl (by decide) rfl (fun ls hl => ?_)
                    refine lv_aload_n hx hb dM_act_119 rfl (lv_at hl 2 rfl) ?_
                    refine lv_iload hx hb dM_act_120 (lv_at hl 0 rfl) ?_
                    refine zz_if_eq (tgt := 129) hx hb (nI_toInt (by decide)) dM_act_122 (by decide) (fun c_327 => absurd c_327 (by decide)) (fun _ => ?_)
                    refine lv_iconst (v := nI 0) hx hb dM_act_125 (by decide) ?_
                    refine lv_goto (tgt := 130) hx hb dM_act_126 (by decide) ?_
                    refine mp_put (v := .int (nI 0)) (ty := .int) hx hb hts inM tyM okM nmM hown I h0 rfl 17 (by decide) (hts _ bw_348) (fun _ h9 => h9) rfl (by decide +kernel) rfl rfl (Nat.le_of_ble_eq_true rfl) dM_act_130 (fun H locs I => ?_)
                    have I : mp_I D cls5 (tys6 k) s _ s.heap H locs (mp_up M mo (.inr (4, [.ref el, .ref ek, .int (nI ec), .ref bg, .ref sz, .ref kn, .int (nI tc), .ref rw, .int (nI wc), .ref pp, .ref pk, .ref wd, .ref lo, .int (nI sc), .ref kp, .ref ks, .int (nI nc), .int (nI 0)]))) := I
                    have h0_n : mp_up M mo (.inr (4, [.ref el, .ref ek, .int (nI ec), .ref bg, .ref sz, .ref kn, .int (nI tc), .ref rw, .int (nI wc), .ref pp, .ref pk, .ref wd, .ref lo, .int (nI sc), .ref kp, .ref ks, .int (nI nc), .int (nI 0)])) mo = some (.inr (4, [.ref el, .ref ek, .int (nI ec), .ref bg, .ref sz, .ref kn, .int (nI tc), .ref rw, .int (nI wc), .ref pp, .ref pk, .ref wd, .ref lo, .int (nI sc), .ref kp, .ref ks, .int (nI nc), .int (nI 0)])) := mp_up_s _ _ _
                    have hel_n : mp_up M mo (.inr (4, [.ref el, .ref ek, .int (nI ec), .ref bg, .ref sz, .ref kn, .int (nI tc), .ref rw, .int (nI wc), .ref pp, .ref pk, .ref wd, .ref lo, .int (nI sc), .ref kp, .ref ks, .int (nI nc), .int (nI 0)])) el = some (.inl (k 1, 4000, .inr (.inl va))) := (mp_up_n (mp_ne hel h0 (by simp))).trans hel
                    have hek_n : mp_up M mo (.inr (4, [.ref el, .ref ek, .int (nI ec), .ref bg, .ref sz, .ref kn, .int (nI tc), .ref rw, .int (nI wc), .ref pp, .ref pk, .ref wd, .ref lo, .int (nI sc), .ref kp, .ref ks, .int (nI nc), .int (nI 0)])) ek = some (.inl (k 0, 4000, .inl (fun i_ => nI (kd i_)))) := (mp_up_n (mp_ne hek h0 (by simp))).trans hek
                    have hbg_n : mp_up M mo (.inr (4, [.ref el, .ref ek, .int (nI ec), .ref bg, .ref sz, .ref kn, .int (nI tc), .ref rw, .int (nI wc), .ref pp, .ref pk, .ref wd, .ref lo, .int (nI sc), .ref kp, .ref ks, .int (nI nc), .int (nI 0)])) bg = some (.inl (k 0, 300, .inl (fun i_ => nI (tf i_)))) := (mp_up_n (mp_ne hbg h0 (by simp))).trans hbg
                    have hsz_n : mp_up M mo (.inr (4, [.ref el, .ref ek, .int (nI ec), .ref bg, .ref sz, .ref kn, .int (nI tc), .ref rw, .int (nI wc), .ref pp, .ref pk, .ref wd, .ref lo, .int (nI sc), .ref kp, .ref ks, .int (nI nc), .int (nI 0)])) sz = some (.inl (k 0, 300, .inl (fun i_ => nI (tz i_)))) := (mp_up_n (mp_ne hsz h0 (by simp))).trans hsz
                    have hkn_n : mp_up M mo (.inr (4, [.ref el, .ref ek, .int (nI ec), .ref bg, .ref sz, .ref kn, .int (nI tc), .ref rw, .int (nI wc), .ref pp, .ref pk, .ref wd, .ref lo, .int (nI sc), .ref kp, .ref ks, .int (nI nc), .int (nI 0)])) kn = some (.inl (k 0, 300, .inl (fun i_ => nI (tk i_)))) := (mp_up_n (mp_ne hkn h0 (by simp))).trans hkn
                    have hrw_n : mp_up M mo (.inr (4, [.ref el, .ref ek, .int (nI ec), .ref bg, .ref sz, .ref kn, .int (nI tc), .ref rw, .int (nI wc), .ref pp, .ref pk, .ref wd, .ref lo, .int (nI sc), .ref kp, .ref ks, .int (nI nc), .int (nI 0)])) rw = some (.inl (k 0, 12, .inl (fun i_ => nI (wt i_)))) := (mp_up_n (mp_ne hrw h0 (by simp))).trans hrw
                    have hpp_n : mp_up M mo (.inr (4, [.ref el, .ref ek, .int (nI ec), .ref bg, .ref sz, .ref kn, .int (nI tc), .ref rw, .int (nI wc), .ref pp, .ref pk, .ref wd, .ref lo, .int (nI sc), .ref kp, .ref ks, .int (nI nc), .int (nI 0)])) pp = some (.inl (k 0, 100, .inl (fun i_ => nI (sf i_)))) := (mp_up_n (mp_ne hpp h0 (by simp))).trans hpp
                    have hpk_n : mp_up M mo (.inr (4, [.ref el, .ref ek, .int (nI ec), .ref bg, .ref sz, .ref kn, .int (nI tc), .ref rw, .int (nI wc), .ref pp, .ref pk, .ref wd, .ref lo, .int (nI sc), .ref kp, .ref ks, .int (nI nc), .int (nI 0)])) pk = some (.inl (k 0, 100, .inl (fun i_ => nI (sk i_)))) := (mp_up_n (mp_ne hpk h0 (by simp))).trans hpk
                    have hwd_n : mp_up M mo (.inr (4, [.ref el, .ref ek, .int (nI ec), .ref bg, .ref sz, .ref kn, .int (nI tc), .ref rw, .int (nI wc), .ref pp, .ref pk, .ref wd, .ref lo, .int (nI sc), .ref kp, .ref ks, .int (nI nc), .int (nI 0)])) wd = some (.inl (k 0, 100, .inl (fun i_ => nI (sw i_)))) := (mp_up_n (mp_ne hwd h0 (by simp))).trans hwd
                    have hlo_n : mp_up M mo (.inr (4, [.ref el, .ref ek, .int (nI ec), .ref bg, .ref sz, .ref kn, .int (nI tc), .ref rw, .int (nI wc), .ref pp, .ref pk, .ref wd, .ref lo, .int (nI sc), .ref kp, .ref ks, .int (nI nc), .int (nI 0)])) lo = some (.inl (k 5, 100, .inl (fun i_ => nI (ml i_)))) := (mp_up_n (mp_ne hlo h0 (by simp))).trans hlo
                    have hkp_n : mp_up M mo (.inr (4, [.ref el, .ref ek, .int (nI ec), .ref bg, .ref sz, .ref kn, .int (nI tc), .ref rw, .int (nI wc), .ref pp, .ref pk, .ref wd, .ref lo, .int (nI sc), .ref kp, .ref ks, .int (nI nc), .int (nI 0)])) kp = some (.inl (k 1, 80000, .inr (.inl mk))) := (mp_up_n (mp_ne hkp h0 (by simp))).trans hkp
                    have hks_n : mp_up M mo (.inr (4, [.ref el, .ref ek, .int (nI ec), .ref bg, .ref sz, .ref kn, .int (nI tc), .ref rw, .int (nI wc), .ref pp, .ref pk, .ref wd, .ref lo, .int (nI sc), .ref kp, .ref ks, .int (nI nc), .int (nI 0)])) ks = some (.inl (k 0, 20, .inl (fun i_ => nI (nn i_)))) := (mp_up_n (mp_ne hks h0 (by simp))).trans hks
                    generalize eM_329 : mp_up M mo (.inr (4, [.ref el, .ref ek, .int (nI ec), .ref bg, .ref sz, .ref kn, .int (nI tc), .ref rw, .int (nI wc), .ref pp, .ref pk, .ref wd, .ref lo, .int (nI sc), .ref kp, .ref ks, .int (nI nc), .int (nI 0)])) = M_328 at I h0_n hel_n hek_n hbg_n hsz_n hkn_n hrw_n hpp_n hpk_n hwd_n hlo_n hkp_n hks_n
                    have h0__M_328 := h0_n
                    have hel__M_328 := hel_n
                    have hek__M_328 := hek_n
                    have hbg__M_328 := hbg_n
                    have hsz__M_328 := hsz_n
                    have hkn__M_328 := hkn_n
                    have hrw__M_328 := hrw_n
                    have hpp__M_328 := hpp_n
                    have hpk__M_328 := hpk_n
                    have hwd__M_328 := hwd_n
                    have hlo__M_328 := hlo_n
                    have hkp__M_328 := hkp_n
                    have hks__M_328 := hks_n
                    clear h0_n hel_n hek_n hbg_n hsz_n hkn_n hrw_n hpp_n hpk_n hwd_n hlo_n hkp_n hks_n
                    have hE := hE.cnt ec tc wc sc nc 0
                    rw [eM_329] at hE
                    refine lv_iload hx hb dM_act_133 (lv_at hl 0 rfl) ?_
                    refine zz_if_ne (tgt := 140) hx hb (nI_toInt (by decide)) dM_act_135 (by decide) (fun _ => ?_) (fun c_330 => absurd c_330 (by decide))
                    refine lv_aload_n hx hb dM_act_140 rfl (lv_at hl 2 rfl) ?_
                    refine lv_iload_n hx hb dM_act_141 rfl (lv_at hl 3 rfl) ?_
                    have hg : gact tc sc sk (nI xn).toInt act.toInt v w := by unfold gact; rw [hxi]; exact ⟨by omega, by omega, by unfold aok; omega, fun h => by first | exact p4 | (exfalso; omega), fun h => by first | exact p5 | (exfalso; omega)⟩
                    refine mp_calll (va_runV (As := [.int (nI xn)]) (rest := []) ⟨hx, hb, hml, hown, hts⟩ (kM_get l D k M_328 hE hO xn (by omega) _) (cwV 1 hts (bw_V bw_451 bw_453 bs_16 bw_2 bw_454) rfl rfl rfl (by decide +kernel) ⟨Nat.le_of_ble_eq_true rfl, Nat.le_of_ble_eq_true rfl⟩) (mp_preV I h0__M_328 rfl _) rfl rfl hl.1 rfl (lv_room (Nat.le_of_ble_eq_true rfl)) dM_act_142 ⟨Nat.le_of_ble_eq_true rfl, Nat.le_of_ble_eq_true rfl⟩) I (fun hd_ N1 H locs hp I => ?_)
                    obtain ⟨e_331, hp⟩ := hp
                    rw [e_331] at I
                    refine lv_lstore (lv' := [(9, .long hd_), (7, .int (nI 1)), (8, .int (nI (sk xn))), (0, .ref mo), (1, .int (nI xn)), (2, .int act), (3, .long v), (5, .long w)]) hx hb dM_act_145 hl (by decide) rfl (fun ls hl => ?_)
                    refine lv_iload_n hx hb dM_act_147 rfl (lv_at hl 5 rfl) ?_
                    have c_332 : act.toInt = 0 ∨ act.toInt = 1 ∨ act.toInt = 2 ∨ act.toInt = 3 ∨ act.toInt = 4 ∨ act.toInt = 5 ∨ act.toInt = 6 ∨ (act.toInt < 0 ∨ 6 < act.toInt) := by omega
                    rcases c_332 with c_332 | c_332 | c_332 | c_332 | c_332 | c_332 | c_332 | c_332
                    · refine lv_tableIn (off := 44) (tgt := 192) hx hb dM_act_148 (by rw [show act.toInt = act.toInt from rfl]; omega) (by rw [show act.toInt = act.toInt from rfl]; omega) (by rw [show act.toInt = act.toInt from rfl, c_332]; rfl) (by decide) ?_
                      refine lv_lload hx hb dM_act_192 (lv_at hl 0 rfl) ?_
                      exact mp_lret hx hb hr hlocks I (Nat.le_of_ble_eq_true rfl) (Nat.le_of_ble_eq_true rfl) dM_act_194 (Or.inl ⟨hg, by rw [hxi, ← hp]; unfold pm; rw [if_neg (show ¬ act.toInt = 1 by omega), if_neg (show ¬ act.toInt = 2 by omega), if_neg (show ¬ act.toInt = 3 by omega), if_neg (show ¬ act.toInt = 4 by omega), if_neg (show ¬ act.toInt = 5 by omega), if_neg (show ¬ act.toInt = 6 by omega), if_neg (show ¬ act.toInt = 7 by omega)]; exact ⟨rfl, hE⟩⟩)
                    · refine lv_tableIn (off := 47) (tgt := 195) hx hb dM_act_148 (by rw [show act.toInt = act.toInt from rfl]; omega) (by rw [show act.toInt = act.toInt from rfl]; omega) (by rw [show act.toInt = act.toInt from rfl, c_332]; rfl) (by decide) ?_
                      refine lv_aload_n hx hb dM_act_195 rfl (lv_at hl 3 rfl) ?_
                      refine lv_iload_n hx hb dM_act_196 rfl (lv_at hl 4 rfl) ?_
                      refine lv_lload_n hx hb dM_act_197 rfl (lv_at hl 6 rfl) ?_
                      have hget := hp
                      refine mp_callv (va_runV (As := [.int (nI xn), .long v]) (rest := []) ⟨hx, hb, hml, hown, hts⟩ (kM_set l D k M_328 hE hO xn (by omega) v _) (cwV 2 hts (bw_V bw_456 bw_458 bs_17 bw_2 bw_459) rfl rfl rfl (by decide +kernel) ⟨Nat.le_of_ble_eq_true rfl, Nat.le_of_ble_eq_true rfl⟩) (mp_preV I h0__M_328 rfl _) rfl rfl hl.1 rfl (lv_room (Nat.le_of_ble_eq_true rfl)) dM_act_198 ⟨Nat.le_of_ble_eq_true rfl, Nat.le_of_ble_eq_true rfl⟩) I (fun N1 H locs hp I => ?_)
                      have hE := hp
                      refine lv_lconst (v := 0) hx hb dM_act_201 (by decide) ?_
                      exact mp_lret hx hb hr hlocks I (Nat.le_of_ble_eq_true rfl) (Nat.le_of_ble_eq_true rfl) dM_act_202 (Or.inl ⟨hg, by rw [hxi, ← hget]; unfold pm; rw [if_pos (show act.toInt = 1 by omega)]; exact ⟨rfl, hE⟩⟩)
                    · refine lv_tableIn (off := 55) (tgt := 203) hx hb dM_act_148 (by rw [show act.toInt = act.toInt from rfl]; omega) (by rw [show act.toInt = act.toInt from rfl]; omega) (by rw [show act.toInt = act.toInt from rfl, c_332]; rfl) (by decide) ?_
                      refine lv_aload_n hx hb dM_act_203 rfl (lv_at hl 3 rfl) ?_
                      refine lv_iload_n hx hb dM_act_204 rfl (lv_at hl 4 rfl) ?_
                      refine lv_lload_n hx hb dM_act_205 rfl (lv_at hl 6 rfl) ?_
                      have hget := hp
                      refine mp_callv (va_runV (As := [.int (nI xn), .long v]) (rest := []) ⟨hx, hb, hml, hown, hts⟩ (kM_set l D k M_328 hE hO xn (by omega) v _) (cwV 2 hts (bw_V bw_456 bw_458 bs_17 bw_2 bw_459) rfl rfl rfl (by decide +kernel) ⟨Nat.le_of_ble_eq_true rfl, Nat.le_of_ble_eq_true rfl⟩) (mp_preV I h0__M_328 rfl _) rfl rfl hl.1 rfl (lv_room (Nat.le_of_ble_eq_true rfl)) dM_act_206 ⟨Nat.le_of_ble_eq_true rfl, Nat.le_of_ble_eq_true rfl⟩) I (fun N1 H locs hp I => ?_)
                      have hE := hp
                      refine lv_goto (tgt := 308) hx hb dM_act_209 (by decide) ?_
                      refine lv_lload hx hb dM_act_308 (lv_at hl 0 rfl) ?_
                      exact mp_lret hx hb hr hlocks I (Nat.le_of_ble_eq_true rfl) (Nat.le_of_ble_eq_true rfl) dM_act_310 (Or.inl ⟨hg, by rw [hxi, ← hget]; unfold pm; rw [if_neg (show ¬ act.toInt = 1 by omega), if_pos (show act.toInt = 2 by omega)]; exact ⟨rfl, hE⟩⟩)
                    · refine lv_tableIn (off := 64) (tgt := 212) hx hb dM_act_148 (by rw [show act.toInt = act.toInt from rfl]; omega) (by rw [show act.toInt = act.toInt from rfl]; omega) (by rw [show act.toInt = act.toInt from rfl, c_332]; rfl) (by decide) ?_
                      refine lv_lload hx hb dM_act_212 (lv_at hl 0 rfl) ?_
                      refine lv_lload_n hx hb dM_act_214 rfl (lv_at hl 6 rfl) ?_
                      have hget := hp
                      refine W.lcmp hx hb dM_act_215 ?_
                      refine lv_if_ne (tgt := 226) hx hb dM_act_216 (by decide) (fun c_335 => ?_) (fun c_335 => ?_)
                      all_goals rw [lg_cmp_eq] at c_335
                      · refine lv_lload hx hb dM_act_226 (lv_at hl 0 rfl) ?_
                        refine lv_lload_n hx hb dM_act_228 rfl (lv_at hl 6 rfl) ?_
                        refine W.lcmp hx hb dM_act_229 ?_
                        refine lv_if_ne (tgt := 237) hx hb dM_act_230 (by decide) (fun c_336 => ?_) (fun c_336 => ?_)
                        all_goals rw [lg_cmp_eq] at c_336
                        · refine lv_lconst (v := 0) hx hb dM_act_237 (by decide) ?_
                          exact mp_lret hx hb hr hlocks I (Nat.le_of_ble_eq_true rfl) (Nat.le_of_ble_eq_true rfl) dM_act_238 (Or.inl ⟨hg, by rw [hxi, ← hget]; unfold pm; rw [if_neg (show ¬ act.toInt = 1 by omega), if_neg (show ¬ act.toInt = 2 by omega), if_pos (show act.toInt = 3 by omega), if_neg c_335]; exact ⟨rfl, hE⟩⟩)
                        · exact absurd c_336 c_335
                      · refine lv_aload_n hx hb dM_act_219 rfl (lv_at hl 3 rfl) ?_
                        refine lv_iload_n hx hb dM_act_220 rfl (lv_at hl 4 rfl) ?_
                        refine lv_lload hx hb dM_act_221 (lv_at hl 7 rfl) ?_
                        refine mp_callv (va_runV (As := [.int (nI xn), .long w]) (rest := []) ⟨hx, hb, hml, hown, hts⟩ (kM_set l D k M_328 hE hO xn (by omega) w _) (cwV 2 hts (bw_V bw_456 bw_458 bs_17 bw_2 bw_459) rfl rfl rfl (by decide +kernel) ⟨Nat.le_of_ble_eq_true rfl, Nat.le_of_ble_eq_true rfl⟩) (mp_preV I h0__M_328 rfl _) rfl rfl hl.1 rfl (lv_room (Nat.le_of_ble_eq_true rfl)) dM_act_223 ⟨Nat.le_of_ble_eq_true rfl, Nat.le_of_ble_eq_true rfl⟩) I (fun N1 H locs hp I => ?_)
                        have hE := hp
                        refine lv_lload hx hb dM_act_226 (lv_at hl 0 rfl) ?_
                        refine lv_lload_n hx hb dM_act_228 rfl (lv_at hl 6 rfl) ?_
                        refine W.lcmp hx hb dM_act_229 ?_
                        refine lv_if_ne (tgt := 237) hx hb dM_act_230 (by decide) (fun c_338 => ?_) (fun c_338 => ?_)
                        all_goals rw [lg_cmp_eq] at c_338
                        · exact absurd c_335 c_338
                        · refine lv_lconst (v := 1) hx hb dM_act_233 (by decide) ?_
                          refine lv_goto (tgt := 238) hx hb dM_act_234 (by decide) ?_
                          exact mp_lret hx hb hr hlocks I (Nat.le_of_ble_eq_true rfl) (Nat.le_of_ble_eq_true rfl) dM_act_238 (Or.inl ⟨hg, by rw [hxi, ← hget]; unfold pm; rw [if_neg (show ¬ act.toInt = 1 by omega), if_neg (show ¬ act.toInt = 2 by omega), if_pos (show act.toInt = 3 by omega), if_pos c_335]; exact ⟨rfl, hE⟩⟩)
                    · refine lv_tableIn (off := 91) (tgt := 239) hx hb dM_act_148 (by rw [show act.toInt = act.toInt from rfl]; omega) (by rw [show act.toInt = act.toInt from rfl]; omega) (by rw [show act.toInt = act.toInt from rfl, c_332]; rfl) (by decide) ?_
                      refine lv_aload_n hx hb dM_act_239 rfl (lv_at hl 3 rfl) ?_
                      refine lv_iload_n hx hb dM_act_240 rfl (lv_at hl 4 rfl) ?_
                      refine lv_iload hx hb dM_act_241 (lv_at hl 2 rfl) ?_
                      refine lv_lload hx hb dM_act_243 (lv_at hl 0 rfl) ?_
                      refine lv_lload_n hx hb dM_act_245 rfl (lv_at hl 6 rfl) ?_
                      refine lv_ladd hx hb dM_act_246 ?_
                      have hget := hp
                      refine mp_calll (va_runS (As := [.int (nI (sk xn)), .long (hd_ + v)]) (rest := [.int (nI xn), .ref mo]) ⟨hx, hb, hml, hown, hts⟩ (kM_as l D k M_328 (sk xn) (hd_ + v) (by omega) _) (cwS 2 hts (bw_S bw_447 bw_448 bw_2 bw_449) rfl rfl rfl (by decide +kernel) ⟨Nat.le_of_ble_eq_true rfl, Nat.le_of_ble_eq_true rfl⟩) (mp_preS I _) rfl rfl hl.1 rfl (lv_room (Nat.le_of_ble_eq_true rfl)) dM_act_247 ⟨Nat.le_of_ble_eq_true rfl, Nat.le_of_ble_eq_true rfl⟩) I (fun r2 N1 H locs hp I => ?_)
                      obtain ⟨e_339, hp⟩ := hp
                      rw [e_339] at I
                      subst hp
                      refine mp_callv (va_runV (As := [.int (nI xn), .long (lb (sk xn) (hd_ + v))]) (rest := []) ⟨hx, hb, hml, hown, hts⟩ (kM_set l D k M_328 hE hO xn (by omega) (lb (sk xn) (hd_ + v)) _) (cwV 2 hts (bw_V bw_456 bw_458 bs_17 bw_2 bw_459) rfl rfl rfl (by decide +kernel) ⟨Nat.le_of_ble_eq_true rfl, Nat.le_of_ble_eq_true rfl⟩) (mp_preV I h0__M_328 rfl _) rfl rfl hl.1 rfl (lv_room (Nat.le_of_ble_eq_true rfl)) dM_act_250 ⟨Nat.le_of_ble_eq_true rfl, Nat.le_of_ble_eq_true rfl⟩) I (fun N1 H locs hp I => ?_)
                      have hE := hp
                      refine lv_goto (tgt := 308) hx hb dM_act_253 (by decide) ?_
                      refine lv_lload hx hb dM_act_308 (lv_at hl 0 rfl) ?_
                      exact mp_lret hx hb hr hlocks I (Nat.le_of_ble_eq_true rfl) (Nat.le_of_ble_eq_true rfl) dM_act_310 (Or.inl ⟨hg, by rw [hxi, ← hget]; unfold pm; rw [if_neg (show ¬ act.toInt = 1 by omega), if_neg (show ¬ act.toInt = 2 by omega), if_neg (show ¬ act.toInt = 3 by omega), if_pos (show act.toInt = 4 by omega)]; exact ⟨rfl, hE⟩⟩)
                    · refine lv_tableIn (off := 108) (tgt := 256) hx hb dM_act_148 (by rw [show act.toInt = act.toInt from rfl]; omega) (by rw [show act.toInt = act.toInt from rfl]; omega) (by rw [show act.toInt = act.toInt from rfl, c_332]; rfl) (by decide) ?_
                      refine lv_aload_n hx hb dM_act_256 rfl (lv_at hl 3 rfl) ?_
                      refine lv_iload_n hx hb dM_act_257 rfl (lv_at hl 4 rfl) ?_
                      refine lv_iload hx hb dM_act_258 (lv_at hl 2 rfl) ?_
                      refine lv_lload hx hb dM_act_260 (lv_at hl 0 rfl) ?_
                      refine lv_lload_n hx hb dM_act_262 rfl (lv_at hl 6 rfl) ?_
                      refine lv_land hx hb dM_act_263 ?_
                      have hget := hp
                      refine mp_calll (va_runS (As := [.int (nI (sk xn)), .long (hd_ &&& v)]) (rest := [.int (nI xn), .ref mo]) ⟨hx, hb, hml, hown, hts⟩ (kM_as l D k M_328 (sk xn) (hd_ &&& v) (by omega) _) (cwS 2 hts (bw_S bw_447 bw_448 bw_2 bw_449) rfl rfl rfl (by decide +kernel) ⟨Nat.le_of_ble_eq_true rfl, Nat.le_of_ble_eq_true rfl⟩) (mp_preS I _) rfl rfl hl.1 rfl (lv_room (Nat.le_of_ble_eq_true rfl)) dM_act_264 ⟨Nat.le_of_ble_eq_true rfl, Nat.le_of_ble_eq_true rfl⟩) I (fun r2 N1 H locs hp I => ?_)
                      obtain ⟨e_341, hp⟩ := hp
                      rw [e_341] at I
                      subst hp
                      refine mp_callv (va_runV (As := [.int (nI xn), .long (lb (sk xn) (hd_ &&& v))]) (rest := []) ⟨hx, hb, hml, hown, hts⟩ (kM_set l D k M_328 hE hO xn (by omega) (lb (sk xn) (hd_ &&& v)) _) (cwV 2 hts (bw_V bw_456 bw_458 bs_17 bw_2 bw_459) rfl rfl rfl (by decide +kernel) ⟨Nat.le_of_ble_eq_true rfl, Nat.le_of_ble_eq_true rfl⟩) (mp_preV I h0__M_328 rfl _) rfl rfl hl.1 rfl (lv_room (Nat.le_of_ble_eq_true rfl)) dM_act_267 ⟨Nat.le_of_ble_eq_true rfl, Nat.le_of_ble_eq_true rfl⟩) I (fun N1 H locs hp I => ?_)
                      have hE := hp
                      refine lv_goto (tgt := 308) hx hb dM_act_270 (by decide) ?_
                      refine lv_lload hx hb dM_act_308 (lv_at hl 0 rfl) ?_
                      exact mp_lret hx hb hr hlocks I (Nat.le_of_ble_eq_true rfl) (Nat.le_of_ble_eq_true rfl) dM_act_310 (Or.inl ⟨hg, by rw [hxi, ← hget]; unfold pm; rw [if_neg (show ¬ act.toInt = 1 by omega), if_neg (show ¬ act.toInt = 2 by omega), if_neg (show ¬ act.toInt = 3 by omega), if_neg (show ¬ act.toInt = 4 by omega), if_pos (show act.toInt = 5 by omega)]; exact ⟨rfl, hE⟩⟩)
                    · refine lv_tableIn (off := 125) (tgt := 273) hx hb dM_act_148 (by rw [show act.toInt = act.toInt from rfl]; omega) (by rw [show act.toInt = act.toInt from rfl]; omega) (by rw [show act.toInt = act.toInt from rfl, c_332]; rfl) (by decide) ?_
                      refine lv_aload_n hx hb dM_act_273 rfl (lv_at hl 3 rfl) ?_
                      refine lv_iload_n hx hb dM_act_274 rfl (lv_at hl 4 rfl) ?_
                      refine lv_iload hx hb dM_act_275 (lv_at hl 2 rfl) ?_
                      refine lv_lload hx hb dM_act_277 (lv_at hl 0 rfl) ?_
                      refine lv_lload_n hx hb dM_act_279 rfl (lv_at hl 6 rfl) ?_
                      refine lv_lor hx hb dM_act_280 ?_
                      have hget := hp
                      refine mp_calll (va_runS (As := [.int (nI (sk xn)), .long (hd_ ||| v)]) (rest := [.int (nI xn), .ref mo]) ⟨hx, hb, hml, hown, hts⟩ (kM_as l D k M_328 (sk xn) (hd_ ||| v) (by omega) _) (cwS 2 hts (bw_S bw_447 bw_448 bw_2 bw_449) rfl rfl rfl (by decide +kernel) ⟨Nat.le_of_ble_eq_true rfl, Nat.le_of_ble_eq_true rfl⟩) (mp_preS I _) rfl rfl hl.1 rfl (lv_room (Nat.le_of_ble_eq_true rfl)) dM_act_281 ⟨Nat.le_of_ble_eq_true rfl, Nat.le_of_ble_eq_true rfl⟩) I (fun r2 N1 H locs hp I => ?_)
                      obtain ⟨e_343, hp⟩ := hp
                      rw [e_343] at I
                      subst hp
                      refine mp_callv (va_runV (As := [.int (nI xn), .long (lb (sk xn) (hd_ ||| v))]) (rest := []) ⟨hx, hb, hml, hown, hts⟩ (kM_set l D k M_328 hE hO xn (by omega) (lb (sk xn) (hd_ ||| v)) _) (cwV 2 hts (bw_V bw_456 bw_458 bs_17 bw_2 bw_459) rfl rfl rfl (by decide +kernel) ⟨Nat.le_of_ble_eq_true rfl, Nat.le_of_ble_eq_true rfl⟩) (mp_preV I h0__M_328 rfl _) rfl rfl hl.1 rfl (lv_room (Nat.le_of_ble_eq_true rfl)) dM_act_284 ⟨Nat.le_of_ble_eq_true rfl, Nat.le_of_ble_eq_true rfl⟩) I (fun N1 H locs hp I => ?_)
                      have hE := hp
                      refine lv_goto (tgt := 308) hx hb dM_act_287 (by decide) ?_
                      refine lv_lload hx hb dM_act_308 (lv_at hl 0 rfl) ?_
                      exact mp_lret hx hb hr hlocks I (Nat.le_of_ble_eq_true rfl) (Nat.le_of_ble_eq_true rfl) dM_act_310 (Or.inl ⟨hg, by rw [hxi, ← hget]; unfold pm; rw [if_neg (show ¬ act.toInt = 1 by omega), if_neg (show ¬ act.toInt = 2 by omega), if_neg (show ¬ act.toInt = 3 by omega), if_neg (show ¬ act.toInt = 4 by omega), if_neg (show ¬ act.toInt = 5 by omega), if_pos (show act.toInt = 6 by omega)]; exact ⟨rfl, hE⟩⟩)
                    · refine lv_tableOut (tgt := 290) hx hb dM_act_148 (by rw [show act.toInt = act.toInt from rfl]; exact c_332) (by decide) ?_
                      refine lv_aload_n hx hb dM_act_290 rfl (lv_at hl 3 rfl) ?_
                      refine lv_iload_n hx hb dM_act_291 rfl (lv_at hl 4 rfl) ?_
                      refine lv_lload hx hb dM_act_292 (lv_at hl 0 rfl) ?_
                      refine lv_lload_n hx hb dM_act_294 rfl (lv_at hl 6 rfl) ?_
                      have hget := hp
                      refine W.lcmp hx hb dM_act_295 ?_
                      refine lv_if_le (tgt := 304) hx hb dM_act_296 (by decide) (fun c_345 => ?_) (fun c_345 => ?_)
                      all_goals rw [lg_cmp_le] at c_345
                      · refine lv_lload_n hx hb dM_act_304 rfl (lv_at hl 6 rfl) ?_
                        refine mp_callv (va_runV (As := [.int (nI xn), .long v]) (rest := []) ⟨hx, hb, hml, hown, hts⟩ (kM_set l D k M_328 hE hO xn (by omega) v _) (cwV 2 hts (bw_V bw_456 bw_458 bs_17 bw_2 bw_459) rfl rfl rfl (by decide +kernel) ⟨Nat.le_of_ble_eq_true rfl, Nat.le_of_ble_eq_true rfl⟩) (mp_preV I h0__M_328 rfl _) rfl rfl hl.1 rfl (lv_room (Nat.le_of_ble_eq_true rfl)) dM_act_305 ⟨Nat.le_of_ble_eq_true rfl, Nat.le_of_ble_eq_true rfl⟩) I (fun N1 H locs hp I => ?_)
                        have hE := hp
                        refine lv_lload hx hb dM_act_308 (lv_at hl 0 rfl) ?_
                        exact mp_lret hx hb hr hlocks I (Nat.le_of_ble_eq_true rfl) (Nat.le_of_ble_eq_true rfl) dM_act_310 (Or.inl ⟨hg, by rw [hxi, ← hget]; unfold pm; rw [if_neg (show ¬ act.toInt = 1 by omega), if_neg (show ¬ act.toInt = 2 by omega), if_neg (show ¬ act.toInt = 3 by omega), if_neg (show ¬ act.toInt = 4 by omega), if_neg (show ¬ act.toInt = 5 by omega), if_neg (show ¬ act.toInt = 6 by omega), if_pos (show act.toInt = 7 by unfold gact aok at hg; omega), if_neg (Int64.not_lt.mpr c_345)]; exact ⟨rfl, hE⟩⟩)
                      · refine lv_lload hx hb dM_act_299 (lv_at hl 0 rfl) ?_
                        refine lv_goto (tgt := 305) hx hb dM_act_301 (by decide) ?_
                        refine mp_callv (va_runV (As := [.int (nI xn), .long hd_]) (rest := []) ⟨hx, hb, hml, hown, hts⟩ (kM_set l D k M_328 hE hO xn (by omega) hd_ _) (cwV 2 hts (bw_V bw_456 bw_458 bs_17 bw_2 bw_459) rfl rfl rfl (by decide +kernel) ⟨Nat.le_of_ble_eq_true rfl, Nat.le_of_ble_eq_true rfl⟩) (mp_preV I h0__M_328 rfl _) rfl rfl hl.1 rfl (lv_room (Nat.le_of_ble_eq_true rfl)) dM_act_305 ⟨Nat.le_of_ble_eq_true rfl, Nat.le_of_ble_eq_true rfl⟩) I (fun N1 H locs hp I => ?_)
                        have hE := hp
                        refine lv_lload hx hb dM_act_308 (lv_at hl 0 rfl) ?_
                        exact mp_lret hx hb hr hlocks I (Nat.le_of_ble_eq_true rfl) (Nat.le_of_ble_eq_true rfl) dM_act_310 (Or.inl ⟨hg, by rw [hxi, ← hget]; unfold pm; rw [if_neg (show ¬ act.toInt = 1 by omega), if_neg (show ¬ act.toInt = 2 by omega), if_neg (show ¬ act.toInt = 3 by omega), if_neg (show ¬ act.toInt = 4 by omega), if_neg (show ¬ act.toInt = 5 by omega), if_neg (show ¬ act.toInt = 6 by omega), if_pos (show act.toInt = 7 by unfold gact aok at hg; omega), if_pos (Int64.not_le.mp c_345)]; exact ⟨rfl, hE⟩⟩)
                  · refine lv_aload_n hx hb dM_act_101 rfl (lv_at hl 2 rfl) ?_
                    refine lv_iload hx hb dM_act_102 (lv_at hl 1 rfl) ?_
                    refine lv_lload hx hb dM_act_104 (lv_at hl 6 rfl) ?_
                    refine mp_calli (va_runV (As := [.int (nI (sk xn)), .long w]) (rest := []) ⟨hx, hb, hml, hown, hts⟩ (kM_isValue l D k M hE hO (sk xn) w (by omega) _) (cwV 2 hts (bw_V bw_443 bw_445 bs_15 bw_2 bw_446) rfl rfl rfl (by decide +kernel) ⟨Nat.le_of_ble_eq_true rfl, Nat.le_of_ble_eq_true rfl⟩) (mp_preV I h0 rfl _) rfl rfl hl.1 rfl (lv_room (Nat.le_of_ble_eq_true rfl)) dM_act_106 ⟨Nat.le_of_ble_eq_true rfl, Nat.le_of_ble_eq_true rfl⟩) I (fun r_348 N_349 H locs hp I => ?_)
                    obtain ⟨e_350, hp⟩ := hp
                    rw [e_350] at I
                    rcases hp with ⟨p5, rfl⟩ | ⟨p5, rfl⟩
                    · refine zz_if_eq (tgt := 116) hx hb (nI_toInt (by decide)) dM_act_109 (by decide) (fun c_351 => absurd c_351 (by decide)) (fun _ => ?_)
                      refine lv_iconst (v := nI 1) hx hb dM_act_112 (by decide) ?_
                      refine lv_goto (tgt := 117) hx hb dM_act_113 (by decide) ?_
                      refine lv_istore (lv' := [(7, .int (nI 1)), (8, .int (nI (sk xn))), (0, .ref mo), (1, .int (nI xn)), (2, .int act), (3, .long v), (5, .long w)]) hx hb dM_act_117 hl (by decide) rfl (fun ls hl => ?_)
                      refine lv_aload_n hx hb dM_act_119 rfl (lv_at hl 2 rfl) ?_
                      refine lv_iload hx hb dM_act_120 (lv_at hl 0 rfl) ?_
                      refine zz_if_eq (tgt := 129) hx hb (nI_toInt (by decide)) dM_act_122 (by decide) (fun c_352 => absurd c_352 (by decide)) (fun _ => ?_)
                      refine lv_iconst (v := nI 0) hx hb dM_act_125 (by decide) ?_
                      refine lv_goto (tgt := 130) hx hb dM_act_126 (by decide) ?_
                      refine mp_put (v := .int (nI 0)) (ty := .int) hx hb hts inM tyM okM nmM hown I h0 rfl 17 (by decide) (hts _ bw_348) (fun _ h9 => h9) rfl (by decide +kernel) rfl rfl (Nat.le_of_ble_eq_true rfl) dM_act_130 (fun H locs I => ?_)
                      have I : mp_I D cls5 (tys6 k) s _ s.heap H locs (mp_up M mo (.inr (4, [.ref el, .ref ek, .int (nI ec), .ref bg, .ref sz, .ref kn, .int (nI tc), .ref rw, .int (nI wc), .ref pp, .ref pk, .ref wd, .ref lo, .int (nI sc), .ref kp, .ref ks, .int (nI nc), .int (nI 0)]))) := I
                      have h0_n : mp_up M mo (.inr (4, [.ref el, .ref ek, .int (nI ec), .ref bg, .ref sz, .ref kn, .int (nI tc), .ref rw, .int (nI wc), .ref pp, .ref pk, .ref wd, .ref lo, .int (nI sc), .ref kp, .ref ks, .int (nI nc), .int (nI 0)])) mo = some (.inr (4, [.ref el, .ref ek, .int (nI ec), .ref bg, .ref sz, .ref kn, .int (nI tc), .ref rw, .int (nI wc), .ref pp, .ref pk, .ref wd, .ref lo, .int (nI sc), .ref kp, .ref ks, .int (nI nc), .int (nI 0)])) := mp_up_s _ _ _
                      have hel_n : mp_up M mo (.inr (4, [.ref el, .ref ek, .int (nI ec), .ref bg, .ref sz, .ref kn, .int (nI tc), .ref rw, .int (nI wc), .ref pp, .ref pk, .ref wd, .ref lo, .int (nI sc), .ref kp, .ref ks, .int (nI nc), .int (nI 0)])) el = some (.inl (k 1, 4000, .inr (.inl va))) := (mp_up_n (mp_ne hel h0 (by simp))).trans hel
                      have hek_n : mp_up M mo (.inr (4, [.ref el, .ref ek, .int (nI ec), .ref bg, .ref sz, .ref kn, .int (nI tc), .ref rw, .int (nI wc), .ref pp, .ref pk, .ref wd, .ref lo, .int (nI sc), .ref kp, .ref ks, .int (nI nc), .int (nI 0)])) ek = some (.inl (k 0, 4000, .inl (fun i_ => nI (kd i_)))) := (mp_up_n (mp_ne hek h0 (by simp))).trans hek
                      have hbg_n : mp_up M mo (.inr (4, [.ref el, .ref ek, .int (nI ec), .ref bg, .ref sz, .ref kn, .int (nI tc), .ref rw, .int (nI wc), .ref pp, .ref pk, .ref wd, .ref lo, .int (nI sc), .ref kp, .ref ks, .int (nI nc), .int (nI 0)])) bg = some (.inl (k 0, 300, .inl (fun i_ => nI (tf i_)))) := (mp_up_n (mp_ne hbg h0 (by simp))).trans hbg
                      have hsz_n : mp_up M mo (.inr (4, [.ref el, .ref ek, .int (nI ec), .ref bg, .ref sz, .ref kn, .int (nI tc), .ref rw, .int (nI wc), .ref pp, .ref pk, .ref wd, .ref lo, .int (nI sc), .ref kp, .ref ks, .int (nI nc), .int (nI 0)])) sz = some (.inl (k 0, 300, .inl (fun i_ => nI (tz i_)))) := (mp_up_n (mp_ne hsz h0 (by simp))).trans hsz
                      have hkn_n : mp_up M mo (.inr (4, [.ref el, .ref ek, .int (nI ec), .ref bg, .ref sz, .ref kn, .int (nI tc), .ref rw, .int (nI wc), .ref pp, .ref pk, .ref wd, .ref lo, .int (nI sc), .ref kp, .ref ks, .int (nI nc), .int (nI 0)])) kn = some (.inl (k 0, 300, .inl (fun i_ => nI (tk i_)))) := (mp_up_n (mp_ne hkn h0 (by simp))).trans hkn
                      have hrw_n : mp_up M mo (.inr (4, [.ref el, .ref ek, .int (nI ec), .ref bg, .ref sz, .ref kn, .int (nI tc), .ref rw, .int (nI wc), .ref pp, .ref pk, .ref wd, .ref lo, .int (nI sc), .ref kp, .ref ks, .int (nI nc), .int (nI 0)])) rw = some (.inl (k 0, 12, .inl (fun i_ => nI (wt i_)))) := (mp_up_n (mp_ne hrw h0 (by simp))).trans hrw
                      have hpp_n : mp_up M mo (.inr (4, [.ref el, .ref ek, .int (nI ec), .ref bg, .ref sz, .ref kn, .int (nI tc), .ref rw, .int (nI wc), .ref pp, .ref pk, .ref wd, .ref lo, .int (nI sc), .ref kp, .ref ks, .int (nI nc), .int (nI 0)])) pp = some (.inl (k 0, 100, .inl (fun i_ => nI (sf i_)))) := (mp_up_n (mp_ne hpp h0 (by simp))).trans hpp
                      have hpk_n : mp_up M mo (.inr (4, [.ref el, .ref ek, .int (nI ec), .ref bg, .ref sz, .ref kn, .int (nI tc), .ref rw, .int (nI wc), .ref pp, .ref pk, .ref wd, .ref lo, .int (nI sc), .ref kp, .ref ks, .int (nI nc), .int (nI 0)])) pk = some (.inl (k 0, 100, .inl (fun i_ => nI (sk i_)))) := (mp_up_n (mp_ne hpk h0 (by simp))).trans hpk
                      have hwd_n : mp_up M mo (.inr (4, [.ref el, .ref ek, .int (nI ec), .ref bg, .ref sz, .ref kn, .int (nI tc), .ref rw, .int (nI wc), .ref pp, .ref pk, .ref wd, .ref lo, .int (nI sc), .ref kp, .ref ks, .int (nI nc), .int (nI 0)])) wd = some (.inl (k 0, 100, .inl (fun i_ => nI (sw i_)))) := (mp_up_n (mp_ne hwd h0 (by simp))).trans hwd
                      have hlo_n : mp_up M mo (.inr (4, [.ref el, .ref ek, .int (nI ec), .ref bg, .ref sz, .ref kn, .int (nI tc), .ref rw, .int (nI wc), .ref pp, .ref pk, .ref wd, .ref lo, .int (nI sc), .ref kp, .ref ks, .int (nI nc), .int (nI 0)])) lo = some (.inl (k 5, 100, .inl (fun i_ => nI (ml i_)))) := (mp_up_n (mp_ne hlo h0 (by simp))).trans hlo
                      have hkp_n : mp_up M mo (.inr (4, [.ref el, .ref ek, .int (nI ec), .ref bg, .ref sz, .ref kn, .int (nI tc), .ref rw, .int (nI wc), .ref pp, .ref pk, .ref wd, .ref lo, .int (nI sc), .ref kp, .ref ks, .int (nI nc), .int (nI 0)])) kp = some (.inl (k 1, 80000, .inr (.inl mk))) := (mp_up_n (mp_ne hkp h0 (by simp))).trans hkp
                      have hks_n : mp_up M mo (.inr (4, [.ref el, .ref ek, .int (nI ec), .ref bg, .ref sz, .ref kn, .int (nI tc), .ref rw, .int (nI wc), .ref pp, .ref pk, .ref wd, .ref lo, .int (nI sc), .ref kp, .ref ks, .int (nI nc), .int (nI 0)])) ks = some (.inl (k 0, 20, .inl (fun i_ => nI (nn i_)))) := (mp_up_n (mp_ne hks h0 (by simp))).trans hks
                      generalize eM_354 : mp_up M mo (.inr (4, [.ref el, .ref ek, .int (nI ec), .ref bg, .ref sz, .ref kn, .int (nI tc), .ref rw, .int (nI wc), .ref pp, .ref pk, .ref wd, .ref lo, .int (nI sc), .ref kp, .ref ks, .int (nI nc), .int (nI 0)])) = M_353 at I h0_n hel_n hek_n hbg_n hsz_n hkn_n hrw_n hpp_n hpk_n hwd_n hlo_n hkp_n hks_n
                      have h0__M_353 := h0_n
                      have hel__M_353 := hel_n
                      have hek__M_353 := hek_n
                      have hbg__M_353 := hbg_n
                      have hsz__M_353 := hsz_n
                      have hkn__M_353 := hkn_n
                      have hrw__M_353 := hrw_n
                      have hpp__M_353 := hpp_n
                      have hpk__M_353 := hpk_n
                      have hwd__M_353 := hwd_n
                      have hlo__M_353 := hlo_n
                      have hkp__M_353 := hkp_n
                      have hks__M_353 := hks_n
                      clear h0_n hel_n hek_n hbg_n hsz_n hkn_n hrw_n hpp_n hpk_n hwd_n hlo_n hkp_n hks_n
                      have hE := hE.cnt ec tc wc sc nc 0
                      rw [eM_354] at hE
                      refine lv_iload hx hb dM_act_133 (lv_at hl 0 rfl) ?_
                      refine zz_if_ne (tgt := 140) hx hb (nI_toInt (by decide)) dM_act_135 (by decide) (fun _ => ?_) (fun c_355 => absurd c_355 (by decide))
                      refine lv_aload_n hx hb dM_act_140 rfl (lv_at hl 2 rfl) ?_
                      refine lv_iload_n hx hb dM_act_141 rfl (lv_at hl 3 rfl) ?_
                      have hg : gact tc sc sk (nI xn).toInt act.toInt v w := by unfold gact; rw [hxi]; exact ⟨by omega, by omega, by unfold aok; omega, fun h => by first | exact p4 | (exfalso; omega), fun h => by first | exact p5 | (exfalso; omega)⟩
                      refine mp_calll (va_runV (As := [.int (nI xn)]) (rest := []) ⟨hx, hb, hml, hown, hts⟩ (kM_get l D k M_353 hE hO xn (by omega) _) (cwV 1 hts (bw_V bw_451 bw_453 bs_16 bw_2 bw_454) rfl rfl rfl (by decide +kernel) ⟨Nat.le_of_ble_eq_true rfl, Nat.le_of_ble_eq_true rfl⟩) (mp_preV I h0__M_353 rfl _) rfl rfl hl.1 rfl (lv_room (Nat.le_of_ble_eq_true rfl)) dM_act_142 ⟨Nat.le_of_ble_eq_true rfl, Nat.le_of_ble_eq_true rfl⟩) I (fun hd_ N1 H locs hp I => ?_)
                      obtain ⟨e_356, hp⟩ := hp
                      rw [e_356] at I
                      refine lv_lstore (lv' := [(9, .long hd_), (7, .int (nI 1)), (8, .int (nI (sk xn))), (0, .ref mo), (1, .int (nI xn)), (2, .int act), (3, .long v), (5, .long w)]) hx hb dM_act_145 hl (by decide) rfl (fun ls hl => ?_)
                      refine lv_iload_n hx hb dM_act_147 rfl (lv_at hl 5 rfl) ?_
                      have c_357 : act.toInt = 0 ∨ act.toInt = 1 ∨ act.toInt = 2 ∨ act.toInt = 3 ∨ act.toInt = 4 ∨ act.toInt = 5 ∨ act.toInt = 6 ∨ (act.toInt < 0 ∨ 6 < act.toInt) := by omega
                      rcases c_357 with c_357 | c_357 | c_357 | c_357 | c_357 | c_357 | c_357 | c_357
                      · refine lv_tableIn (off := 44) (tgt := 192) hx hb dM_act_148 (by rw [show act.toInt = act.toInt from rfl]; omega) (by rw [show act.toInt = act.toInt from rfl]; omega) (by rw [show act.toInt = act.toInt from rfl, c_357]; rfl) (by decide) ?_
                        refine lv_lload hx hb dM_act_192 (lv_at hl 0 rfl) ?_
                        exact mp_lret hx hb hr hlocks I (Nat.le_of_ble_eq_true rfl) (Nat.le_of_ble_eq_true rfl) dM_act_194 (Or.inl ⟨hg, by rw [hxi, ← hp]; unfold pm; rw [if_neg (show ¬ act.toInt = 1 by omega), if_neg (show ¬ act.toInt = 2 by omega), if_neg (show ¬ act.toInt = 3 by omega), if_neg (show ¬ act.toInt = 4 by omega), if_neg (show ¬ act.toInt = 5 by omega), if_neg (show ¬ act.toInt = 6 by omega), if_neg (show ¬ act.toInt = 7 by omega)]; exact ⟨rfl, hE⟩⟩)
                      · refine lv_tableIn (off := 47) (tgt := 195) hx hb dM_act_148 (by rw [show act.toInt = act.toInt from rfl]; omega) (by rw [show act.toInt = act.toInt from rfl]; omega) (by rw [show act.toInt = act.toInt from rfl, c_357]; rfl) (by decide) ?_
                        refine lv_aload_n hx hb dM_act_195 rfl (lv_at hl 3 rfl) ?_
                        refine lv_iload_n hx hb dM_act_196 rfl (lv_at hl 4 rfl) ?_
                        refine lv_lload_n hx hb dM_act_197 rfl (lv_at hl 6 rfl) ?_
                        have hget := hp
                        refine mp_callv (va_runV (As := [.int (nI xn), .long v]) (rest := []) ⟨hx, hb, hml, hown, hts⟩ (kM_set l D k M_353 hE hO xn (by omega) v _) (cwV 2 hts (bw_V bw_456 bw_458 bs_17 bw_2 bw_459) rfl rfl rfl (by decide +kernel) ⟨Nat.le_of_ble_eq_true rfl, Nat.le_of_ble_eq_true rfl⟩) (mp_preV I h0__M_353 rfl _) rfl rfl hl.1 rfl (lv_room (Nat.le_of_ble_eq_true rfl)) dM_act_198 ⟨Nat.le_of_ble_eq_true rfl, Nat.le_of_ble_eq_true rfl⟩) I (fun N1 H locs hp I => ?_)
                        have hE := hp
                        refine lv_lconst (v := 0) hx hb dM_act_201 (by decide) ?_
                        exact mp_lret hx hb hr hlocks I (Nat.le_of_ble_eq_true rfl) (Nat.le_of_ble_eq_true rfl) dM_act_202 (Or.inl ⟨hg, by rw [hxi, ← hget]; unfold pm; rw [if_pos (show act.toInt = 1 by omega)]; exact ⟨rfl, hE⟩⟩)
                      · refine lv_tableIn (off := 55) (tgt := 203) hx hb dM_act_148 (by rw [show act.toInt = act.toInt from rfl]; omega) (by rw [show act.toInt = act.toInt from rfl]; omega) (by rw [show act.toInt = act.toInt from rfl, c_357]; rfl) (by decide) ?_
                        refine lv_aload_n hx hb dM_act_203 rfl (lv_at hl 3 rfl) ?_
                        refine lv_iload_n hx hb dM_act_204 rfl (lv_at hl 4 rfl) ?_
                        refine lv_lload_n hx hb dM_act_205 rfl (lv_at hl 6 rfl) ?_
                        have hget := hp
                        refine mp_callv (va_runV (As := [.int (nI xn), .long v]) (rest := []) ⟨hx, hb, hml, hown, hts⟩ (kM_set l D k M_353 hE hO xn (by omega) v _) (cwV 2 hts (bw_V bw_456 bw_458 bs_17 bw_2 bw_459) rfl rfl rfl (by decide +kernel) ⟨Nat.le_of_ble_eq_true rfl, Nat.le_of_ble_eq_true rfl⟩) (mp_preV I h0__M_353 rfl _) rfl rfl hl.1 rfl (lv_room (Nat.le_of_ble_eq_true rfl)) dM_act_206 ⟨Nat.le_of_ble_eq_true rfl, Nat.le_of_ble_eq_true rfl⟩) I (fun N1 H locs hp I => ?_)
                        have hE := hp
                        refine lv_goto (tgt := 308) hx hb dM_act_209 (by decide) ?_
                        refine lv_lload hx hb dM_act_308 (lv_at hl 0 rfl) ?_
                        exact mp_lret hx hb hr hlocks I (Nat.le_of_ble_eq_true rfl) (Nat.le_of_ble_eq_true rfl) dM_act_310 (Or.inl ⟨hg, by rw [hxi, ← hget]; unfold pm; rw [if_neg (show ¬ act.toInt = 1 by omega), if_pos (show act.toInt = 2 by omega)]; exact ⟨rfl, hE⟩⟩)
                      · refine lv_tableIn (off := 64) (tgt := 212) hx hb dM_act_148 (by rw [show act.toInt = act.toInt from rfl]; omega) (by rw [show act.toInt = act.toInt from rfl]; omega) (by rw [show act.toInt = act.toInt from rfl, c_357]; rfl) (by decide) ?_
                        refine lv_lload hx hb dM_act_212 (lv_at hl 0 rfl) ?_
                        refine lv_lload_n hx hb dM_act_214 rfl (lv_at hl 6 rfl) ?_
                        have hget := hp
                        refine W.lcmp hx hb dM_act_215 ?_
                        refine lv_if_ne (tgt := 226) hx hb dM_act_216 (by decide) (fun c_360 => ?_) (fun c_360 => ?_)
                        all_goals rw [lg_cmp_eq] at c_360
                        · refine lv_lload hx hb dM_act_226 (lv_at hl 0 rfl) ?_
                          refine lv_lload_n hx hb dM_act_228 rfl (lv_at hl 6 rfl) ?_
                          refine W.lcmp hx hb dM_act_229 ?_
                          refine lv_if_ne (tgt := 237) hx hb dM_act_230 (by decide) (fun c_361 => ?_) (fun c_361 => ?_)
                          all_goals rw [lg_cmp_eq] at c_361
                          · refine lv_lconst (v := 0) hx hb dM_act_237 (by decide) ?_
                            exact mp_lret hx hb hr hlocks I (Nat.le_of_ble_eq_true rfl) (Nat.le_of_ble_eq_true rfl) dM_act_238 (Or.inl ⟨hg, by rw [hxi, ← hget]; unfold pm; rw [if_neg (show ¬ act.toInt = 1 by omega), if_neg (show ¬ act.toInt = 2 by omega), if_pos (show act.toInt = 3 by omega), if_neg c_360]; exact ⟨rfl, hE⟩⟩)
                          · exact absurd c_361 c_360
                        · refine lv_aload_n hx hb dM_act_219 rfl (lv_at hl 3 rfl) ?_
                          refine lv_iload_n hx hb dM_act_220 rfl (lv_at hl 4 rfl) ?_
                          refine lv_lload hx hb dM_act_221 (lv_at hl 7 rfl) ?_
                          refine mp_callv (va_runV (As := [.int (nI xn), .long w]) (rest := []) ⟨hx, hb, hml, hown, hts⟩ (kM_set l D k M_353 hE hO xn (by omega) w _) (cwV 2 hts (bw_V bw_456 bw_458 bs_17 bw_2 bw_459) rfl rfl rfl (by decide +kernel) ⟨Nat.le_of_ble_eq_true rfl, Nat.le_of_ble_eq_true rfl⟩) (mp_preV I h0__M_353 rfl _) rfl rfl hl.1 rfl (lv_room (Nat.le_of_ble_eq_true rfl)) dM_act_223 ⟨Nat.le_of_ble_eq_true rfl, Nat.le_of_ble_eq_true rfl⟩) I (fun N1 H locs hp I => ?_)
                          have hE := hp
                          refine lv_lload hx hb dM_act_226 (lv_at hl 0 rfl) ?_
                          refine lv_lload_n hx hb dM_act_228 rfl (lv_at hl 6 rfl) ?_
                          refine W.lcmp hx hb dM_act_229 ?_
                          refine lv_if_ne (tgt := 237) hx hb dM_act_230 (by decide) (fun c_363 => ?_) (fun c_363 => ?_)
                          all_goals rw [lg_cmp_eq] at c_363
                          · exact absurd c_360 c_363
                          · refine lv_lconst (v := 1) hx hb dM_act_233 (by decide) ?_
                            refine lv_goto (tgt := 238) hx hb dM_act_234 (by decide) ?_
                            exact mp_lret hx hb hr hlocks I (Nat.le_of_ble_eq_true rfl) (Nat.le_of_ble_eq_true rfl) dM_act_238 (Or.inl ⟨hg, by rw [hxi, ← hget]; unfold pm; rw [if_neg (show ¬ act.toInt = 1 by omega), if_neg (show ¬ act.toInt = 2 by omega), if_pos (show act.toInt = 3 by omega), if_pos c_360]; exact ⟨rfl, hE⟩⟩)
                      · refine lv_tableIn (off := 91) (tgt := 239) hx hb dM_act_148 (by rw [show act.toInt = act.toInt from rfl]; omega) (by rw [show act.toInt = act.toInt from rfl]; omega) (by rw [show act.toInt = act.toInt from rfl, c_357]; rfl) (by decide) ?_
                        refine lv_aload_n hx hb dM_act_239 rfl (lv_at hl 3 rfl) ?_
                        refine lv_iload_n hx hb dM_act_240 rfl (lv_at hl 4 rfl) ?_
                        refine lv_iload hx hb dM_act_241 (lv_at hl 2 rfl) ?_
                        refine lv_lload hx hb dM_act_243 (lv_at hl 0 rfl) ?_
                        refine lv_lload_n hx hb dM_act_245 rfl (lv_at hl 6 rfl) ?_
                        refine lv_ladd hx hb dM_act_246 ?_
                        have hget := hp
                        refine mp_calll (va_runS (As := [.int (nI (sk xn)), .long (hd_ + v)]) (rest := [.int (nI xn), .ref mo]) ⟨hx, hb, hml, hown, hts⟩ (kM_as l D k M_353 (sk xn) (hd_ + v) (by omega) _) (cwS 2 hts (bw_S bw_447 bw_448 bw_2 bw_449) rfl rfl rfl (by decide +kernel) ⟨Nat.le_of_ble_eq_true rfl, Nat.le_of_ble_eq_true rfl⟩) (mp_preS I _) rfl rfl hl.1 rfl (lv_room (Nat.le_of_ble_eq_true rfl)) dM_act_247 ⟨Nat.le_of_ble_eq_true rfl, Nat.le_of_ble_eq_true rfl⟩) I (fun r2 N1 H locs hp I => ?_)
                        obtain ⟨e_364, hp⟩ := hp
                        rw [e_364] at I
                        subst hp
                        refine mp_callv (va_runV (As := [.int (nI xn), .long (lb (sk xn) (hd_ + v))]) (rest := []) ⟨hx, hb, hml, hown, hts⟩ (kM_set l D k M_353 hE hO xn (by omega) (lb (sk xn) (hd_ + v)) _) (cwV 2 hts (bw_V bw_456 bw_458 bs_17 bw_2 bw_459) rfl rfl rfl (by decide +kernel) ⟨Nat.le_of_ble_eq_true rfl, Nat.le_of_ble_eq_true rfl⟩) (mp_preV I h0__M_353 rfl _) rfl rfl hl.1 rfl (lv_room (Nat.le_of_ble_eq_true rfl)) dM_act_250 ⟨Nat.le_of_ble_eq_true rfl, Nat.le_of_ble_eq_true rfl⟩) I (fun N1 H locs hp I => ?_)
                        have hE := hp
                        refine lv_goto (tgt := 308) hx hb dM_act_253 (by decide) ?_
                        refine lv_lload hx hb dM_act_308 (lv_at hl 0 rfl) ?_
                        exact mp_lret hx hb hr hlocks I (Nat.le_of_ble_eq_true rfl) (Nat.le_of_ble_eq_true rfl) dM_act_310 (Or.inl ⟨hg, by rw [hxi, ← hget]; unfold pm; rw [if_neg (show ¬ act.toInt = 1 by omega), if_neg (show ¬ act.toInt = 2 by omega), if_neg (show ¬ act.toInt = 3 by omega), if_pos (show act.toInt = 4 by omega)]; exact ⟨rfl, hE⟩⟩)
                      · refine lv_tableIn (off := 108) (tgt := 256) hx hb dM_act_148 (by rw [show act.toInt = act.toInt from rfl]; omega) (by rw [show act.toInt = act.toInt from rfl]; omega) (by rw [show act.toInt = act.toInt from rfl, c_357]; rfl) (by decide) ?_
                        refine lv_aload_n hx hb dM_act_256 rfl (lv_at hl 3 rfl) ?_
                        refine lv_iload_n hx hb dM_act_257 rfl (lv_at hl 4 rfl) ?_
                        refine lv_iload hx hb dM_act_258 (lv_at hl 2 rfl) ?_
                        refine lv_lload hx hb dM_act_260 (lv_at hl 0 rfl) ?_
                        refine lv_lload_n hx hb dM_act_262 rfl (lv_at hl 6 rfl) ?_
                        refine lv_land hx hb dM_act_263 ?_
                        have hget := hp
                        refine mp_calll (va_runS (As := [.int (nI (sk xn)), .long (hd_ &&& v)]) (rest := [.int (nI xn), .ref mo]) ⟨hx, hb, hml, hown, hts⟩ (kM_as l D k M_353 (sk xn) (hd_ &&& v) (by omega) _) (cwS 2 hts (bw_S bw_447 bw_448 bw_2 bw_449) rfl rfl rfl (by decide +kernel) ⟨Nat.le_of_ble_eq_true rfl, Nat.le_of_ble_eq_true rfl⟩) (mp_preS I _) rfl rfl hl.1 rfl (lv_room (Nat.le_of_ble_eq_true rfl)) dM_act_264 ⟨Nat.le_of_ble_eq_true rfl, Nat.le_of_ble_eq_true rfl⟩) I (fun r2 N1 H locs hp I => ?_)
                        obtain ⟨e_366, hp⟩ := hp
                        rw [e_366] at I
                        subst hp
                        refine mp_callv (va_runV (As := [.int (nI xn), .long (lb (sk xn) (hd_ &&& v))]) (rest := []) ⟨hx, hb, hml, hown, hts⟩ (kM_set l D k M_353 hE hO xn (by omega) (lb (sk xn) (hd_ &&& v)) _) (cwV 2 hts (bw_V bw_456 bw_458 bs_17 bw_2 bw_459) rfl rfl rfl (by decide +kernel) ⟨Nat.le_of_ble_eq_true rfl, Nat.le_of_ble_eq_true rfl⟩) (mp_preV I h0__M_353 rfl _) rfl rfl hl.1 rfl (lv_room (Nat.le_of_ble_eq_true rfl)) dM_act_267 ⟨Nat.le_of_ble_eq_true rfl, Nat.le_of_ble_eq_true rfl⟩) I (fun N1 H locs hp I => ?_)
                        have hE := hp
                        refine lv_goto (tgt := 308) hx hb dM_act_270 (by decide) ?_
                        refine lv_lload hx hb dM_act_308 (lv_at hl 0 rfl) ?_
                        exact mp_lret hx hb hr hlocks I (Nat.le_of_ble_eq_true rfl) (Nat.le_of_ble_eq_true rfl) dM_act_310 (Or.inl ⟨hg, by rw [hxi, ← hget]; unfold pm; rw [if_neg (show ¬ act.toInt = 1 by omega), if_neg (show ¬ act.toInt = 2 by omega), if_neg (show ¬ act.toInt = 3 by omega), if_neg (show ¬ act.toInt = 4 by omega), if_pos (show act.toInt = 5 by omega)]; exact ⟨rfl, hE⟩⟩)
                      · refine lv_tableIn (off := 125) (tgt := 273) hx hb dM_act_148 (by rw [show act.toInt = act.toInt from rfl]; omega) (by rw [show act.toInt = act.toInt from rfl]; omega) (by rw [show act.toInt = act.toInt from rfl, c_357]; rfl) (by decide) ?_
                        refine lv_aload_n hx hb dM_act_273 rfl (lv_at hl 3 rfl) ?_
                        refine lv_iload_n hx hb dM_act_274 rfl (lv_at hl 4 rfl) ?_
                        refine lv_iload hx hb dM_act_275 (lv_at hl 2 rfl) ?_
                        refine lv_lload hx hb dM_act_277 (lv_at hl 0 rfl) ?_
                        refine lv_lload_n hx hb dM_act_279 rfl (lv_at hl 6 rfl) ?_
                        refine lv_lor hx hb dM_act_280 ?_
                        have hget := hp
                        refine mp_calll (va_runS (As := [.int (nI (sk xn)), .long (hd_ ||| v)]) (rest := [.int (nI xn), .ref mo]) ⟨hx, hb, hml, hown, hts⟩ (kM_as l D k M_353 (sk xn) (hd_ ||| v) (by omega) _) (cwS 2 hts (bw_S bw_447 bw_448 bw_2 bw_449) rfl rfl rfl (by decide +kernel) ⟨Nat.le_of_ble_eq_true rfl, Nat.le_of_ble_eq_true rfl⟩) (mp_preS I _) rfl rfl hl.1 rfl (lv_room (Nat.le_of_ble_eq_true rfl)) dM_act_281 ⟨Nat.le_of_ble_eq_true rfl, Nat.le_of_ble_eq_true rfl⟩) I (fun r2 N1 H locs hp I => ?_)
                        obtain ⟨e_368, hp⟩ := hp
                        rw [e_368] at I
                        subst hp
                        refine mp_callv (va_runV (As := [.int (nI xn), .long (lb (sk xn) (hd_ ||| v))]) (rest := []) ⟨hx, hb, hml, hown, hts⟩ (kM_set l D k M_353 hE hO xn (by omega) (lb (sk xn) (hd_ ||| v)) _) (cwV 2 hts (bw_V bw_456 bw_458 bs_17 bw_2 bw_459) rfl rfl rfl (by decide +kernel) ⟨Nat.le_of_ble_eq_true rfl, Nat.le_of_ble_eq_true rfl⟩) (mp_preV I h0__M_353 rfl _) rfl rfl hl.1 rfl (lv_room (Nat.le_of_ble_eq_true rfl)) dM_act_284 ⟨Nat.le_of_ble_eq_true rfl, Nat.le_of_ble_eq_true rfl⟩) I (fun N1 H locs hp I => ?_)
                        have hE := hp
                        refine lv_goto (tgt := 308) hx hb dM_act_287 (by decide) ?_
                        refine lv_lload hx hb dM_act_308 (lv_at hl 0 rfl) ?_
                        exact mp_lret hx hb hr hlocks I (Nat.le_of_ble_eq_true rfl) (Nat.le_of_ble_eq_true rfl) dM_act_310 (Or.inl ⟨hg, by rw [hxi, ← hget]; unfold pm; rw [if_neg (show ¬ act.toInt = 1 by omega), if_neg (show ¬ act.toInt = 2 by omega), if_neg (show ¬ act.toInt = 3 by omega), if_neg (show ¬ act.toInt = 4 by omega), if_neg (show ¬ act.toInt = 5 by omega), if_pos (show act.toInt = 6 by omega)]; exact ⟨rfl, hE⟩⟩)
                      · refine lv_tableOut (tgt := 290) hx hb dM_act_148 (by rw [show act.toInt = act.toInt from rfl]; exact c_357) (by decide) ?_
                        refine lv_aload_n hx hb dM_act_290 rfl (lv_at hl 3 rfl) ?_
                        refine lv_iload_n hx hb dM_act_291 rfl (lv_at hl 4 rfl) ?_
                        refine lv_lload hx hb dM_act_292 (lv_at hl 0 rfl) ?_
                        refine lv_lload_n hx hb dM_act_294 rfl (lv_at hl 6 rfl) ?_
                        have hget := hp
                        refine W.lcmp hx hb dM_act_295 ?_
                        refine lv_if_le (tgt := 304) hx hb dM_act_296 (by decide) (fun c_370 => ?_) (fun c_370 => ?_)
                        all_goals rw [lg_cmp_le] at c_370
                        · refine lv_lload_n hx hb dM_act_304 rfl (lv_at hl 6 rfl) ?_
                          refine mp_callv (va_runV (As := [.int (nI xn), .long v]) (rest := []) ⟨hx, hb, hml, hown, hts⟩ (kM_set l D k M_353 hE hO xn (by omega) v _) (cwV 2 hts (bw_V bw_456 bw_458 bs_17 bw_2 bw_459) rfl rfl rfl (by decide +kernel) ⟨Nat.le_of_ble_eq_true rfl, Nat.le_of_ble_eq_true rfl⟩) (mp_preV I h0__M_353 rfl _) rfl rfl hl.1 rfl (lv_room (Nat.le_of_ble_eq_true rfl)) dM_act_305 ⟨Nat.le_of_ble_eq_true rfl, Nat.le_of_ble_eq_true rfl⟩) I (fun N1 H locs hp I => ?_)
                          have hE := hp
                          refine lv_lload hx hb dM_act_308 (lv_at hl 0 rfl) ?_
                          exact mp_lret hx hb hr hlocks I (Nat.le_of_ble_eq_true rfl) (Nat.le_of_ble_eq_true rfl) dM_act_310 (Or.inl ⟨hg, by rw [hxi, ← hget]; unfold pm; rw [if_neg (show ¬ act.toInt = 1 by omega), if_neg (show ¬ act.toInt = 2 by omega), if_neg (show ¬ act.toInt = 3 by omega), if_neg (show ¬ act.toInt = 4 by omega), if_neg (show ¬ act.toInt = 5 by omega), if_neg (show ¬ act.toInt = 6 by omega), if_pos (show act.toInt = 7 by unfold gact aok at hg; omega), if_neg (Int64.not_lt.mpr c_370)]; exact ⟨rfl, hE⟩⟩)
                        · refine lv_lload hx hb dM_act_299 (lv_at hl 0 rfl) ?_
                          refine lv_goto (tgt := 305) hx hb dM_act_301 (by decide) ?_
                          refine mp_callv (va_runV (As := [.int (nI xn), .long hd_]) (rest := []) ⟨hx, hb, hml, hown, hts⟩ (kM_set l D k M_353 hE hO xn (by omega) hd_ _) (cwV 2 hts (bw_V bw_456 bw_458 bs_17 bw_2 bw_459) rfl rfl rfl (by decide +kernel) ⟨Nat.le_of_ble_eq_true rfl, Nat.le_of_ble_eq_true rfl⟩) (mp_preV I h0__M_353 rfl _) rfl rfl hl.1 rfl (lv_room (Nat.le_of_ble_eq_true rfl)) dM_act_305 ⟨Nat.le_of_ble_eq_true rfl, Nat.le_of_ble_eq_true rfl⟩) I (fun N1 H locs hp I => ?_)
                          have hE := hp
                          refine lv_lload hx hb dM_act_308 (lv_at hl 0 rfl) ?_
                          exact mp_lret hx hb hr hlocks I (Nat.le_of_ble_eq_true rfl) (Nat.le_of_ble_eq_true rfl) dM_act_310 (Or.inl ⟨hg, by rw [hxi, ← hget]; unfold pm; rw [if_neg (show ¬ act.toInt = 1 by omega), if_neg (show ¬ act.toInt = 2 by omega), if_neg (show ¬ act.toInt = 3 by omega), if_neg (show ¬ act.toInt = 4 by omega), if_neg (show ¬ act.toInt = 5 by omega), if_neg (show ¬ act.toInt = 6 by omega), if_pos (show act.toInt = 7 by unfold gact aok at hg; omega), if_pos (Int64.not_le.mp c_370)]; exact ⟨rfl, hE⟩⟩)
                    · refine zz_if_eq (tgt := 116) hx hb (nI_toInt (by decide)) dM_act_109 (by decide) (fun _ => ?_) (fun c_373 => absurd c_373 (by decide))
                      refine lv_iconst (v := nI 0) hx hb dM_act_116 (by decide) ?_
                      refine lv_istore (lv' := [(7, .int (nI 0)), (8, .int (nI (sk xn))), (0, .ref mo), (1, .int (nI xn)), (2, .int act), (3, .long v), (5, .long w)]) hx hb dM_act_117 hl (by decide) rfl (fun ls hl => ?_)
                      refine lv_aload_n hx hb dM_act_119 rfl (lv_at hl 2 rfl) ?_
                      refine lv_iload hx hb dM_act_120 (lv_at hl 0 rfl) ?_
                      refine zz_if_eq (tgt := 129) hx hb (nI_toInt (by decide)) dM_act_122 (by decide) (fun _ => ?_) (fun c_374 => absurd c_374 (by decide))
                      refine lv_iconst (v := nI 1) hx hb dM_act_129 (by decide) ?_
                      refine mp_put (v := .int (nI 1)) (ty := .int) hx hb hts inM tyM okM nmM hown I h0 rfl 17 (by decide) (hts _ bw_348) (fun _ h9 => h9) rfl (by decide +kernel) rfl rfl (Nat.le_of_ble_eq_true rfl) dM_act_130 (fun H locs I => ?_)
                      have I : mp_I D cls5 (tys6 k) s _ s.heap H locs (mp_up M mo (.inr (4, [.ref el, .ref ek, .int (nI ec), .ref bg, .ref sz, .ref kn, .int (nI tc), .ref rw, .int (nI wc), .ref pp, .ref pk, .ref wd, .ref lo, .int (nI sc), .ref kp, .ref ks, .int (nI nc), .int (nI 1)]))) := I
                      have h0_n : mp_up M mo (.inr (4, [.ref el, .ref ek, .int (nI ec), .ref bg, .ref sz, .ref kn, .int (nI tc), .ref rw, .int (nI wc), .ref pp, .ref pk, .ref wd, .ref lo, .int (nI sc), .ref kp, .ref ks, .int (nI nc), .int (nI 1)])) mo = some (.inr (4, [.ref el, .ref ek, .int (nI ec), .ref bg, .ref sz, .ref kn, .int (nI tc), .ref rw, .int (nI wc), .ref pp, .ref pk, .ref wd, .ref lo, .int (nI sc), .ref kp, .ref ks, .int (nI nc), .int (nI 1)])) := mp_up_s _ _ _
                      have hel_n : mp_up M mo (.inr (4, [.ref el, .ref ek, .int (nI ec), .ref bg, .ref sz, .ref kn, .int (nI tc), .ref rw, .int (nI wc), .ref pp, .ref pk, .ref wd, .ref lo, .int (nI sc), .ref kp, .ref ks, .int (nI nc), .int (nI 1)])) el = some (.inl (k 1, 4000, .inr (.inl va))) := (mp_up_n (mp_ne hel h0 (by simp))).trans hel
                      have hek_n : mp_up M mo (.inr (4, [.ref el, .ref ek, .int (nI ec), .ref bg, .ref sz, .ref kn, .int (nI tc), .ref rw, .int (nI wc), .ref pp, .ref pk, .ref wd, .ref lo, .int (nI sc), .ref kp, .ref ks, .int (nI nc), .int (nI 1)])) ek = some (.inl (k 0, 4000, .inl (fun i_ => nI (kd i_)))) := (mp_up_n (mp_ne hek h0 (by simp))).trans hek
                      have hbg_n : mp_up M mo (.inr (4, [.ref el, .ref ek, .int (nI ec), .ref bg, .ref sz, .ref kn, .int (nI tc), .ref rw, .int (nI wc), .ref pp, .ref pk, .ref wd, .ref lo, .int (nI sc), .ref kp, .ref ks, .int (nI nc), .int (nI 1)])) bg = some (.inl (k 0, 300, .inl (fun i_ => nI (tf i_)))) := (mp_up_n (mp_ne hbg h0 (by simp))).trans hbg
                      have hsz_n : mp_up M mo (.inr (4, [.ref el, .ref ek, .int (nI ec), .ref bg, .ref sz, .ref kn, .int (nI tc), .ref rw, .int (nI wc), .ref pp, .ref pk, .ref wd, .ref lo, .int (nI sc), .ref kp, .ref ks, .int (nI nc), .int (nI 1)])) sz = some (.inl (k 0, 300, .inl (fun i_ => nI (tz i_)))) := (mp_up_n (mp_ne hsz h0 (by simp))).trans hsz
                      have hkn_n : mp_up M mo (.inr (4, [.ref el, .ref ek, .int (nI ec), .ref bg, .ref sz, .ref kn, .int (nI tc), .ref rw, .int (nI wc), .ref pp, .ref pk, .ref wd, .ref lo, .int (nI sc), .ref kp, .ref ks, .int (nI nc), .int (nI 1)])) kn = some (.inl (k 0, 300, .inl (fun i_ => nI (tk i_)))) := (mp_up_n (mp_ne hkn h0 (by simp))).trans hkn
                      have hrw_n : mp_up M mo (.inr (4, [.ref el, .ref ek, .int (nI ec), .ref bg, .ref sz, .ref kn, .int (nI tc), .ref rw, .int (nI wc), .ref pp, .ref pk, .ref wd, .ref lo, .int (nI sc), .ref kp, .ref ks, .int (nI nc), .int (nI 1)])) rw = some (.inl (k 0, 12, .inl (fun i_ => nI (wt i_)))) := (mp_up_n (mp_ne hrw h0 (by simp))).trans hrw
                      have hpp_n : mp_up M mo (.inr (4, [.ref el, .ref ek, .int (nI ec), .ref bg, .ref sz, .ref kn, .int (nI tc), .ref rw, .int (nI wc), .ref pp, .ref pk, .ref wd, .ref lo, .int (nI sc), .ref kp, .ref ks, .int (nI nc), .int (nI 1)])) pp = some (.inl (k 0, 100, .inl (fun i_ => nI (sf i_)))) := (mp_up_n (mp_ne hpp h0 (by simp))).trans hpp
                      have hpk_n : mp_up M mo (.inr (4, [.ref el, .ref ek, .int (nI ec), .ref bg, .ref sz, .ref kn, .int (nI tc), .ref rw, .int (nI wc), .ref pp, .ref pk, .ref wd, .ref lo, .int (nI sc), .ref kp, .ref ks, .int (nI nc), .int (nI 1)])) pk = some (.inl (k 0, 100, .inl (fun i_ => nI (sk i_)))) := (mp_up_n (mp_ne hpk h0 (by simp))).trans hpk
                      have hwd_n : mp_up M mo (.inr (4, [.ref el, .ref ek, .int (nI ec), .ref bg, .ref sz, .ref kn, .int (nI tc), .ref rw, .int (nI wc), .ref pp, .ref pk, .ref wd, .ref lo, .int (nI sc), .ref kp, .ref ks, .int (nI nc), .int (nI 1)])) wd = some (.inl (k 0, 100, .inl (fun i_ => nI (sw i_)))) := (mp_up_n (mp_ne hwd h0 (by simp))).trans hwd
                      have hlo_n : mp_up M mo (.inr (4, [.ref el, .ref ek, .int (nI ec), .ref bg, .ref sz, .ref kn, .int (nI tc), .ref rw, .int (nI wc), .ref pp, .ref pk, .ref wd, .ref lo, .int (nI sc), .ref kp, .ref ks, .int (nI nc), .int (nI 1)])) lo = some (.inl (k 5, 100, .inl (fun i_ => nI (ml i_)))) := (mp_up_n (mp_ne hlo h0 (by simp))).trans hlo
                      have hkp_n : mp_up M mo (.inr (4, [.ref el, .ref ek, .int (nI ec), .ref bg, .ref sz, .ref kn, .int (nI tc), .ref rw, .int (nI wc), .ref pp, .ref pk, .ref wd, .ref lo, .int (nI sc), .ref kp, .ref ks, .int (nI nc), .int (nI 1)])) kp = some (.inl (k 1, 80000, .inr (.inl mk))) := (mp_up_n (mp_ne hkp h0 (by simp))).trans hkp
                      have hks_n : mp_up M mo (.inr (4, [.ref el, .ref ek, .int (nI ec), .ref bg, .ref sz, .ref kn, .int (nI tc), .ref rw, .int (nI wc), .ref pp, .ref pk, .ref wd, .ref lo, .int (nI sc), .ref kp, .ref ks, .int (nI nc), .int (nI 1)])) ks = some (.inl (k 0, 20, .inl (fun i_ => nI (nn i_)))) := (mp_up_n (mp_ne hks h0 (by simp))).trans hks
                      generalize eM_376 : mp_up M mo (.inr (4, [.ref el, .ref ek, .int (nI ec), .ref bg, .ref sz, .ref kn, .int (nI tc), .ref rw, .int (nI wc), .ref pp, .ref pk, .ref wd, .ref lo, .int (nI sc), .ref kp, .ref ks, .int (nI nc), .int (nI 1)])) = M_375 at I h0_n hel_n hek_n hbg_n hsz_n hkn_n hrw_n hpp_n hpk_n hwd_n hlo_n hkp_n hks_n
                      have h0__M_375 := h0_n
                      have hel__M_375 := hel_n
                      have hek__M_375 := hek_n
                      have hbg__M_375 := hbg_n
                      have hsz__M_375 := hsz_n
                      have hkn__M_375 := hkn_n
                      have hrw__M_375 := hrw_n
                      have hpp__M_375 := hpp_n
                      have hpk__M_375 := hpk_n
                      have hwd__M_375 := hwd_n
                      have hlo__M_375 := hlo_n
                      have hkp__M_375 := hkp_n
                      have hks__M_375 := hks_n
                      clear h0_n hel_n hek_n hbg_n hsz_n hkn_n hrw_n hpp_n hpk_n hwd_n hlo_n hkp_n hks_n
                      have hE := hE.cnt ec tc wc sc nc 1
                      rw [eM_376] at hE
                      refine lv_iload hx hb dM_act_133 (lv_at hl 0 rfl) ?_
                      refine zz_if_ne (tgt := 140) hx hb (nI_toInt (by decide)) dM_act_135 (by decide) (fun c_377 => absurd c_377 (by decide)) (fun _ => ?_)
                      refine lv_lconst (v := 0) hx hb dM_act_138 (by decide) ?_
                      exact mp_lret hx hb hr hlocks I (Nat.le_of_ble_eq_true rfl) (Nat.le_of_ble_eq_true rfl) dM_act_139 (Or.inr ⟨by intro hg; obtain ⟨g1, g2, g3, g4, g5⟩ := hg; rw [hxi] at g3 g4 g5; unfold aok at g3; first | omega | exact p4 (g4 (by omega)) | exact p5 (g5 (by omega)), rfl, hE⟩)
                · refine zz_if_eq (tgt := 116) hx hb (nI_toInt (by decide)) dM_act_93 (by decide) (fun _ => ?_) (fun c_378 => absurd c_378 (by decide))
                  refine lv_iconst (v := nI 0) hx hb dM_act_116 (by decide) ?_
                  refine lv_istore (lv' := [(7, .int (nI 0)), (8, .int (nI (sk xn))), (0, .ref mo), (1, .int (nI xn)), (2, .int act), (3, .long v), (5, .long w)]) hx hb dM_act_117 hl (by decide) rfl (fun ls hl => ?_)
                  refine lv_aload_n hx hb dM_act_119 rfl (lv_at hl 2 rfl) ?_
                  refine lv_iload hx hb dM_act_120 (lv_at hl 0 rfl) ?_
                  refine zz_if_eq (tgt := 129) hx hb (nI_toInt (by decide)) dM_act_122 (by decide) (fun _ => ?_) (fun c_379 => absurd c_379 (by decide))
                  refine lv_iconst (v := nI 1) hx hb dM_act_129 (by decide) ?_
                  refine mp_put (v := .int (nI 1)) (ty := .int) hx hb hts inM tyM okM nmM hown I h0 rfl 17 (by decide) (hts _ bw_348) (fun _ h9 => h9) rfl (by decide +kernel) rfl rfl (Nat.le_of_ble_eq_true rfl) dM_act_130 (fun H locs I => ?_)
                  have I : mp_I D cls5 (tys6 k) s _ s.heap H locs (mp_up M mo (.inr (4, [.ref el, .ref ek, .int (nI ec), .ref bg, .ref sz, .ref kn, .int (nI tc), .ref rw, .int (nI wc), .ref pp, .ref pk, .ref wd, .ref lo, .int (nI sc), .ref kp, .ref ks, .int (nI nc), .int (nI 1)]))) := I
                  have h0_n : mp_up M mo (.inr (4, [.ref el, .ref ek, .int (nI ec), .ref bg, .ref sz, .ref kn, .int (nI tc), .ref rw, .int (nI wc), .ref pp, .ref pk, .ref wd, .ref lo, .int (nI sc), .ref kp, .ref ks, .int (nI nc), .int (nI 1)])) mo = some (.inr (4, [.ref el, .ref ek, .int (nI ec), .ref bg, .ref sz, .ref kn, .int (nI tc), .ref rw, .int (nI wc), .ref pp, .ref pk, .ref wd, .ref lo, .int (nI sc), .ref kp, .ref ks, .int (nI nc), .int (nI 1)])) := mp_up_s _ _ _
                  have hel_n : mp_up M mo (.inr (4, [.ref el, .ref ek, .int (nI ec), .ref bg, .ref sz, .ref kn, .int (nI tc), .ref rw, .int (nI wc), .ref pp, .ref pk, .ref wd, .ref lo, .int (nI sc), .ref kp, .ref ks, .int (nI nc), .int (nI 1)])) el = some (.inl (k 1, 4000, .inr (.inl va))) := (mp_up_n (mp_ne hel h0 (by simp))).trans hel
                  have hek_n : mp_up M mo (.inr (4, [.ref el, .ref ek, .int (nI ec), .ref bg, .ref sz, .ref kn, .int (nI tc), .ref rw, .int (nI wc), .ref pp, .ref pk, .ref wd, .ref lo, .int (nI sc), .ref kp, .ref ks, .int (nI nc), .int (nI 1)])) ek = some (.inl (k 0, 4000, .inl (fun i_ => nI (kd i_)))) := (mp_up_n (mp_ne hek h0 (by simp))).trans hek
                  have hbg_n : mp_up M mo (.inr (4, [.ref el, .ref ek, .int (nI ec), .ref bg, .ref sz, .ref kn, .int (nI tc), .ref rw, .int (nI wc), .ref pp, .ref pk, .ref wd, .ref lo, .int (nI sc), .ref kp, .ref ks, .int (nI nc), .int (nI 1)])) bg = some (.inl (k 0, 300, .inl (fun i_ => nI (tf i_)))) := (mp_up_n (mp_ne hbg h0 (by simp))).trans hbg
                  have hsz_n : mp_up M mo (.inr (4, [.ref el, .ref ek, .int (nI ec), .ref bg, .ref sz, .ref kn, .int (nI tc), .ref rw, .int (nI wc), .ref pp, .ref pk, .ref wd, .ref lo, .int (nI sc), .ref kp, .ref ks, .int (nI nc), .int (nI 1)])) sz = some (.inl (k 0, 300, .inl (fun i_ => nI (tz i_)))) := (mp_up_n (mp_ne hsz h0 (by simp))).trans hsz
                  have hkn_n : mp_up M mo (.inr (4, [.ref el, .ref ek, .int (nI ec), .ref bg, .ref sz, .ref kn, .int (nI tc), .ref rw, .int (nI wc), .ref pp, .ref pk, .ref wd, .ref lo, .int (nI sc), .ref kp, .ref ks, .int (nI nc), .int (nI 1)])) kn = some (.inl (k 0, 300, .inl (fun i_ => nI (tk i_)))) := (mp_up_n (mp_ne hkn h0 (by simp))).trans hkn
                  have hrw_n : mp_up M mo (.inr (4, [.ref el, .ref ek, .int (nI ec), .ref bg, .ref sz, .ref kn, .int (nI tc), .ref rw, .int (nI wc), .ref pp, .ref pk, .ref wd, .ref lo, .int (nI sc), .ref kp, .ref ks, .int (nI nc), .int (nI 1)])) rw = some (.inl (k 0, 12, .inl (fun i_ => nI (wt i_)))) := (mp_up_n (mp_ne hrw h0 (by simp))).trans hrw
                  have hpp_n : mp_up M mo (.inr (4, [.ref el, .ref ek, .int (nI ec), .ref bg, .ref sz, .ref kn, .int (nI tc), .ref rw, .int (nI wc), .ref pp, .ref pk, .ref wd, .ref lo, .int (nI sc), .ref kp, .ref ks, .int (nI nc), .int (nI 1)])) pp = some (.inl (k 0, 100, .inl (fun i_ => nI (sf i_)))) := (mp_up_n (mp_ne hpp h0 (by simp))).trans hpp
                  have hpk_n : mp_up M mo (.inr (4, [.ref el, .ref ek, .int (nI ec), .ref bg, .ref sz, .ref kn, .int (nI tc), .ref rw, .int (nI wc), .ref pp, .ref pk, .ref wd, .ref lo, .int (nI sc), .ref kp, .ref ks, .int (nI nc), .int (nI 1)])) pk = some (.inl (k 0, 100, .inl (fun i_ => nI (sk i_)))) := (mp_up_n (mp_ne hpk h0 (by simp))).trans hpk
                  have hwd_n : mp_up M mo (.inr (4, [.ref el, .ref ek, .int (nI ec), .ref bg, .ref sz, .ref kn, .int (nI tc), .ref rw, .int (nI wc), .ref pp, .ref pk, .ref wd, .ref lo, .int (nI sc), .ref kp, .ref ks, .int (nI nc), .int (nI 1)])) wd = some (.inl (k 0, 100, .inl (fun i_ => nI (sw i_)))) := (mp_up_n (mp_ne hwd h0 (by simp))).trans hwd
                  have hlo_n : mp_up M mo (.inr (4, [.ref el, .ref ek, .int (nI ec), .ref bg, .ref sz, .ref kn, .int (nI tc), .ref rw, .int (nI wc), .ref pp, .ref pk, .ref wd, .ref lo, .int (nI sc), .ref kp, .ref ks, .int (nI nc), .int (nI 1)])) lo = some (.inl (k 5, 100, .inl (fun i_ => nI (ml i_)))) := (mp_up_n (mp_ne hlo h0 (by simp))).trans hlo
                  have hkp_n : mp_up M mo (.inr (4, [.ref el, .ref ek, .int (nI ec), .ref bg, .ref sz, .ref kn, .int (nI tc), .ref rw, .int (nI wc), .ref pp, .ref pk, .ref wd, .ref lo, .int (nI sc), .ref kp, .ref ks, .int (nI nc), .int (nI 1)])) kp = some (.inl (k 1, 80000, .inr (.inl mk))) := (mp_up_n (mp_ne hkp h0 (by simp))).trans hkp
                  have hks_n : mp_up M mo (.inr (4, [.ref el, .ref ek, .int (nI ec), .ref bg, .ref sz, .ref kn, .int (nI tc), .ref rw, .int (nI wc), .ref pp, .ref pk, .ref wd, .ref lo, .int (nI sc), .ref kp, .ref ks, .int (nI nc), .int (nI 1)])) ks = some (.inl (k 0, 20, .inl (fun i_ => nI (nn i_)))) := (mp_up_n (mp_ne hks h0 (by simp))).trans hks
                  generalize eM_381 : mp_up M mo (.inr (4, [.ref el, .ref ek, .int (nI ec), .ref bg, .ref sz, .ref kn, .int (nI tc), .ref rw, .int (nI wc), .ref pp, .ref pk, .ref wd, .ref lo, .int (nI sc), .ref kp, .ref ks, .int (nI nc), .int (nI 1)])) = M_380 at I h0_n hel_n hek_n hbg_n hsz_n hkn_n hrw_n hpp_n hpk_n hwd_n hlo_n hkp_n hks_n
                  have h0__M_380 := h0_n
                  have hel__M_380 := hel_n
                  have hek__M_380 := hek_n
                  have hbg__M_380 := hbg_n
                  have hsz__M_380 := hsz_n
                  have hkn__M_380 := hkn_n
                  have hrw__M_380 := hrw_n
                  have hpp__M_380 := hpp_n
                  have hpk__M_380 := hpk_n
                  have hwd__M_380 := hwd_n
                  have hlo__M_380 := hlo_n
                  have hkp__M_380 := hkp_n
                  have hks__M_380 := hks_n
                  clear h0_n hel_n hek_n hbg_n hsz_n hkn_n hrw_n hpp_n hpk_n hwd_n hlo_n hkp_n hks_n
                  have hE := hE.cnt ec tc wc sc nc 1
                  rw [eM_381] at hE
                  refine lv_iload hx hb dM_act_133 (lv_at hl 0 rfl) ?_
                  refine zz_if_ne (tgt := 140) hx hb (nI_toInt (by decide)) dM_act_135 (by decide) (fun c_382 => absurd c_382 (by decide)) (fun _ => ?_)
                  refine lv_lconst (v := 0) hx hb dM_act_138 (by decide) ?_
                  exact mp_lret hx hb hr hlocks I (Nat.le_of_ble_eq_true rfl) (Nat.le_of_ble_eq_true rfl) dM_act_139 (Or.inr ⟨by intro hg; obtain ⟨g1, g2, g3, g4, g5⟩ := hg; rw [hxi] at g3 g4 g5; unfold aok at g3; first | omega | exact p4 (g4 (by omega)) | exact p5 (g5 (by omega)), rfl, hE⟩)
            · refine lv_iload hx hb dM_act_63 (lv_at hl 0 rfl) ?_
              refine lv_bipush (v := nI 7) hx hb dM_act_65 (by decide) ?_
              refine zz_icmp_eq (tgt := 74) hx hb (nI_toInt (by first | assumption | omega)) (nI_toInt (by decide)) dM_act_67 (by decide) (fun c_383 => ?_) (fun c_383 => ?_)
              · refine lv_iconst (v := nI 0) hx hb dM_act_74 (by decide) ?_
                refine lv_istore (lv' := [(7, .int (nI 0)), (8, .int (nI (sk xn))), (0, .ref mo), (1, .int (nI xn)), (2, .int act), (3, .long v), (5, .long w)]) hx hb dM_act_75 hl (by decide) rfl (fun ls hl => ?_)
                refine lv_iload hx hb dM_act_77 (lv_at hl 0 rfl) ?_
                refine zz_if_eq (tgt := 116) hx hb (nI_toInt (by decide)) dM_act_79 (by decide) (fun _ => ?_) (fun c_384 => absurd c_384 (by decide))
                refine lv_iconst (v := nI 0) hx hb dM_act_116 (by decide) ?_
                refine lv_istore (lv' := [(7, .int (nI 0)), (8, .int (nI (sk xn))), (0, .ref mo), (1, .int (nI xn)), (2, .int act), (3, .long v), (5, .long w)]) hx hb dM_act_117 hl (by decide) rfl (fun ls hl => ?_)
                refine lv_aload_n hx hb dM_act_119 rfl (lv_at hl 2 rfl) ?_
                refine lv_iload hx hb dM_act_120 (lv_at hl 0 rfl) ?_
                refine zz_if_eq (tgt := 129) hx hb (nI_toInt (by decide)) dM_act_122 (by decide) (fun _ => ?_) (fun c_385 => absurd c_385 (by decide))
                refine lv_iconst (v := nI 1) hx hb dM_act_129 (by decide) ?_
                refine mp_put (v := .int (nI 1)) (ty := .int) hx hb hts inM tyM okM nmM hown I h0 rfl 17 (by decide) (hts _ bw_348) (fun _ h9 => h9) rfl (by decide +kernel) rfl rfl (Nat.le_of_ble_eq_true rfl) dM_act_130 (fun H locs I => ?_)
                have I : mp_I D cls5 (tys6 k) s _ s.heap H locs (mp_up M mo (.inr (4, [.ref el, .ref ek, .int (nI ec), .ref bg, .ref sz, .ref kn, .int (nI tc), .ref rw, .int (nI wc), .ref pp, .ref pk, .ref wd, .ref lo, .int (nI sc), .ref kp, .ref ks, .int (nI nc), .int (nI 1)]))) := I
                have h0_n : mp_up M mo (.inr (4, [.ref el, .ref ek, .int (nI ec), .ref bg, .ref sz, .ref kn, .int (nI tc), .ref rw, .int (nI wc), .ref pp, .ref pk, .ref wd, .ref lo, .int (nI sc), .ref kp, .ref ks, .int (nI nc), .int (nI 1)])) mo = some (.inr (4, [.ref el, .ref ek, .int (nI ec), .ref bg, .ref sz, .ref kn, .int (nI tc), .ref rw, .int (nI wc), .ref pp, .ref pk, .ref wd, .ref lo, .int (nI sc), .ref kp, .ref ks, .int (nI nc), .int (nI 1)])) := mp_up_s _ _ _
                have hel_n : mp_up M mo (.inr (4, [.ref el, .ref ek, .int (nI ec), .ref bg, .ref sz, .ref kn, .int (nI tc), .ref rw, .int (nI wc), .ref pp, .ref pk, .ref wd, .ref lo, .int (nI sc), .ref kp, .ref ks, .int (nI nc), .int (nI 1)])) el = some (.inl (k 1, 4000, .inr (.inl va))) := (mp_up_n (mp_ne hel h0 (by simp))).trans hel
                have hek_n : mp_up M mo (.inr (4, [.ref el, .ref ek, .int (nI ec), .ref bg, .ref sz, .ref kn, .int (nI tc), .ref rw, .int (nI wc), .ref pp, .ref pk, .ref wd, .ref lo, .int (nI sc), .ref kp, .ref ks, .int (nI nc), .int (nI 1)])) ek = some (.inl (k 0, 4000, .inl (fun i_ => nI (kd i_)))) := (mp_up_n (mp_ne hek h0 (by simp))).trans hek
                have hbg_n : mp_up M mo (.inr (4, [.ref el, .ref ek, .int (nI ec), .ref bg, .ref sz, .ref kn, .int (nI tc), .ref rw, .int (nI wc), .ref pp, .ref pk, .ref wd, .ref lo, .int (nI sc), .ref kp, .ref ks, .int (nI nc), .int (nI 1)])) bg = some (.inl (k 0, 300, .inl (fun i_ => nI (tf i_)))) := (mp_up_n (mp_ne hbg h0 (by simp))).trans hbg
                have hsz_n : mp_up M mo (.inr (4, [.ref el, .ref ek, .int (nI ec), .ref bg, .ref sz, .ref kn, .int (nI tc), .ref rw, .int (nI wc), .ref pp, .ref pk, .ref wd, .ref lo, .int (nI sc), .ref kp, .ref ks, .int (nI nc), .int (nI 1)])) sz = some (.inl (k 0, 300, .inl (fun i_ => nI (tz i_)))) := (mp_up_n (mp_ne hsz h0 (by simp))).trans hsz
                have hkn_n : mp_up M mo (.inr (4, [.ref el, .ref ek, .int (nI ec), .ref bg, .ref sz, .ref kn, .int (nI tc), .ref rw, .int (nI wc), .ref pp, .ref pk, .ref wd, .ref lo, .int (nI sc), .ref kp, .ref ks, .int (nI nc), .int (nI 1)])) kn = some (.inl (k 0, 300, .inl (fun i_ => nI (tk i_)))) := (mp_up_n (mp_ne hkn h0 (by simp))).trans hkn
                have hrw_n : mp_up M mo (.inr (4, [.ref el, .ref ek, .int (nI ec), .ref bg, .ref sz, .ref kn, .int (nI tc), .ref rw, .int (nI wc), .ref pp, .ref pk, .ref wd, .ref lo, .int (nI sc), .ref kp, .ref ks, .int (nI nc), .int (nI 1)])) rw = some (.inl (k 0, 12, .inl (fun i_ => nI (wt i_)))) := (mp_up_n (mp_ne hrw h0 (by simp))).trans hrw
                have hpp_n : mp_up M mo (.inr (4, [.ref el, .ref ek, .int (nI ec), .ref bg, .ref sz, .ref kn, .int (nI tc), .ref rw, .int (nI wc), .ref pp, .ref pk, .ref wd, .ref lo, .int (nI sc), .ref kp, .ref ks, .int (nI nc), .int (nI 1)])) pp = some (.inl (k 0, 100, .inl (fun i_ => nI (sf i_)))) := (mp_up_n (mp_ne hpp h0 (by simp))).trans hpp
                have hpk_n : mp_up M mo (.inr (4, [.ref el, .ref ek, .int (nI ec), .ref bg, .ref sz, .ref kn, .int (nI tc), .ref rw, .int (nI wc), .ref pp, .ref pk, .ref wd, .ref lo, .int (nI sc), .ref kp, .ref ks, .int (nI nc), .int (nI 1)])) pk = some (.inl (k 0, 100, .inl (fun i_ => nI (sk i_)))) := (mp_up_n (mp_ne hpk h0 (by simp))).trans hpk
                have hwd_n : mp_up M mo (.inr (4, [.ref el, .ref ek, .int (nI ec), .ref bg, .ref sz, .ref kn, .int (nI tc), .ref rw, .int (nI wc), .ref pp, .ref pk, .ref wd, .ref lo, .int (nI sc), .ref kp, .ref ks, .int (nI nc), .int (nI 1)])) wd = some (.inl (k 0, 100, .inl (fun i_ => nI (sw i_)))) := (mp_up_n (mp_ne hwd h0 (by simp))).trans hwd
                have hlo_n : mp_up M mo (.inr (4, [.ref el, .ref ek, .int (nI ec), .ref bg, .ref sz, .ref kn, .int (nI tc), .ref rw, .int (nI wc), .ref pp, .ref pk, .ref wd, .ref lo, .int (nI sc), .ref kp, .ref ks, .int (nI nc), .int (nI 1)])) lo = some (.inl (k 5, 100, .inl (fun i_ => nI (ml i_)))) := (mp_up_n (mp_ne hlo h0 (by simp))).trans hlo
                have hkp_n : mp_up M mo (.inr (4, [.ref el, .ref ek, .int (nI ec), .ref bg, .ref sz, .ref kn, .int (nI tc), .ref rw, .int (nI wc), .ref pp, .ref pk, .ref wd, .ref lo, .int (nI sc), .ref kp, .ref ks, .int (nI nc), .int (nI 1)])) kp = some (.inl (k 1, 80000, .inr (.inl mk))) := (mp_up_n (mp_ne hkp h0 (by simp))).trans hkp
                have hks_n : mp_up M mo (.inr (4, [.ref el, .ref ek, .int (nI ec), .ref bg, .ref sz, .ref kn, .int (nI tc), .ref rw, .int (nI wc), .ref pp, .ref pk, .ref wd, .ref lo, .int (nI sc), .ref kp, .ref ks, .int (nI nc), .int (nI 1)])) ks = some (.inl (k 0, 20, .inl (fun i_ => nI (nn i_)))) := (mp_up_n (mp_ne hks h0 (by simp))).trans hks
                generalize eM_387 : mp_up M mo (.inr (4, [.ref el, .ref ek, .int (nI ec), .ref bg, .ref sz, .ref kn, .int (nI tc), .ref rw, .int (nI wc), .ref pp, .ref pk, .ref wd, .ref lo, .int (nI sc), .ref kp, .ref ks, .int (nI nc), .int (nI 1)])) = M_386 at I h0_n hel_n hek_n hbg_n hsz_n hkn_n hrw_n hpp_n hpk_n hwd_n hlo_n hkp_n hks_n
                have h0__M_386 := h0_n
                have hel__M_386 := hel_n
                have hek__M_386 := hek_n
                have hbg__M_386 := hbg_n
                have hsz__M_386 := hsz_n
                have hkn__M_386 := hkn_n
                have hrw__M_386 := hrw_n
                have hpp__M_386 := hpp_n
                have hpk__M_386 := hpk_n
                have hwd__M_386 := hwd_n
                have hlo__M_386 := hlo_n
                have hkp__M_386 := hkp_n
                have hks__M_386 := hks_n
                clear h0_n hel_n hek_n hbg_n hsz_n hkn_n hrw_n hpp_n hpk_n hwd_n hlo_n hkp_n hks_n
                have hE := hE.cnt ec tc wc sc nc 1
                rw [eM_387] at hE
                refine lv_iload hx hb dM_act_133 (lv_at hl 0 rfl) ?_
                refine zz_if_ne (tgt := 140) hx hb (nI_toInt (by decide)) dM_act_135 (by decide) (fun c_388 => absurd c_388 (by decide)) (fun _ => ?_)
                refine lv_lconst (v := 0) hx hb dM_act_138 (by decide) ?_
                exact mp_lret hx hb hr hlocks I (Nat.le_of_ble_eq_true rfl) (Nat.le_of_ble_eq_true rfl) dM_act_139 (Or.inr ⟨by intro hg; obtain ⟨g1, g2, g3, g4, g5⟩ := hg; rw [hxi] at g3 g4 g5; unfold aok at g3; first | omega | exact p4 (g4 (by omega)) | exact p5 (g5 (by omega)), rfl, hE⟩)
              · refine lv_iconst (v := nI 1) hx hb dM_act_70 (by decide) ?_
                refine lv_goto (tgt := 75) hx hb dM_act_71 (by decide) ?_
                refine lv_istore (lv' := [(7, .int (nI 1)), (8, .int (nI (sk xn))), (0, .ref mo), (1, .int (nI xn)), (2, .int act), (3, .long v), (5, .long w)]) hx hb dM_act_75 hl (by decide) rfl (fun ls hl => ?_)
                refine lv_iload hx hb dM_act_77 (lv_at hl 0 rfl) ?_
                refine zz_if_eq (tgt := 116) hx hb (nI_toInt (by decide)) dM_act_79 (by decide) (fun c_389 => absurd c_389 (by decide)) (fun _ => ?_)
                refine lv_iload_n hx hb dM_act_82 rfl (lv_at hl 4 rfl) ?_
                refine zz_if_eq (tgt := 96) hx hb rfl dM_act_83 (by decide) (fun c_390 => ?_) (fun c_390 => ?_)
                · refine lv_iload_n hx hb dM_act_96 rfl (lv_at hl 4 rfl) ?_
                  refine lv_iconst (v := nI 3) hx hb dM_act_97 (by decide) ?_
                  refine zz_icmp_ne (tgt := 112) hx hb rfl (nI_toInt (by decide)) dM_act_98 (by decide) (fun c_391 => ?_) (fun c_391 => ?_)
                  · refine lv_iconst (v := nI 1) hx hb dM_act_112 (by decide) ?_
                    refine lv_goto (tgt := 117) hx hb dM_act_113 (by decide) ?_
                    refine lv_istore (lv' := [(7, .int (nI 1)), (8, .int (nI (sk xn))), (0, .ref mo), (1, .int (nI xn)), (2, .int act), (3, .long v), (5, .long w)]) hx hb dM_act_117 hl (by decide) rfl (fun ls hl => ?_)
                    refine lv_aload_n hx hb dM_act_119 rfl (lv_at hl 2 rfl) ?_
                    refine lv_iload hx hb dM_act_120 (lv_at hl 0 rfl) ?_
                    refine zz_if_eq (tgt := 129) hx hb (nI_toInt (by decide)) dM_act_122 (by decide) (fun c_392 => absurd c_392 (by decide)) (fun _ => ?_)
                    refine lv_iconst (v := nI 0) hx hb dM_act_125 (by decide) ?_
                    refine lv_goto (tgt := 130) hx hb dM_act_126 (by decide) ?_
                    refine mp_put (v := .int (nI 0)) (ty := .int) hx hb hts inM tyM okM nmM hown I h0 rfl 17 (by decide) (hts _ bw_348) (fun _ h9 => h9) rfl (by decide +kernel) rfl rfl (Nat.le_of_ble_eq_true rfl) dM_act_130 (fun H locs I => ?_)
                    have I : mp_I D cls5 (tys6 k) s _ s.heap H locs (mp_up M mo (.inr (4, [.ref el, .ref ek, .int (nI ec), .ref bg, .ref sz, .ref kn, .int (nI tc), .ref rw, .int (nI wc), .ref pp, .ref pk, .ref wd, .ref lo, .int (nI sc), .ref kp, .ref ks, .int (nI nc), .int (nI 0)]))) := I
                    have h0_n : mp_up M mo (.inr (4, [.ref el, .ref ek, .int (nI ec), .ref bg, .ref sz, .ref kn, .int (nI tc), .ref rw, .int (nI wc), .ref pp, .ref pk, .ref wd, .ref lo, .int (nI sc), .ref kp, .ref ks, .int (nI nc), .int (nI 0)])) mo = some (.inr (4, [.ref el, .ref ek, .int (nI ec), .ref bg, .ref sz, .ref kn, .int (nI tc), .ref rw, .int (nI wc), .ref pp, .ref pk, .ref wd, .ref lo, .int (nI sc), .ref kp, .ref ks, .int (nI nc), .int (nI 0)])) := mp_up_s _ _ _
                    have hel_n : mp_up M mo (.inr (4, [.ref el, .ref ek, .int (nI ec), .ref bg, .ref sz, .ref kn, .int (nI tc), .ref rw, .int (nI wc), .ref pp, .ref pk, .ref wd, .ref lo, .int (nI sc), .ref kp, .ref ks, .int (nI nc), .int (nI 0)])) el = some (.inl (k 1, 4000, .inr (.inl va))) := (mp_up_n (mp_ne hel h0 (by simp))).trans hel
                    have hek_n : mp_up M mo (.inr (4, [.ref el, .ref ek, .int (nI ec), .ref bg, .ref sz, .ref kn, .int (nI tc), .ref rw, .int (nI wc), .ref pp, .ref pk, .ref wd, .ref lo, .int (nI sc), .ref kp, .ref ks, .int (nI nc), .int (nI 0)])) ek = some (.inl (k 0, 4000, .inl (fun i_ => nI (kd i_)))) := (mp_up_n (mp_ne hek h0 (by simp))).trans hek
                    have hbg_n : mp_up M mo (.inr (4, [.ref el, .ref ek, .int (nI ec), .ref bg, .ref sz, .ref kn, .int (nI tc), .ref rw, .int (nI wc), .ref pp, .ref pk, .ref wd, .ref lo, .int (nI sc), .ref kp, .ref ks, .int (nI nc), .int (nI 0)])) bg = some (.inl (k 0, 300, .inl (fun i_ => nI (tf i_)))) := (mp_up_n (mp_ne hbg h0 (by simp))).trans hbg
                    have hsz_n : mp_up M mo (.inr (4, [.ref el, .ref ek, .int (nI ec), .ref bg, .ref sz, .ref kn, .int (nI tc), .ref rw, .int (nI wc), .ref pp, .ref pk, .ref wd, .ref lo, .int (nI sc), .ref kp, .ref ks, .int (nI nc), .int (nI 0)])) sz = some (.inl (k 0, 300, .inl (fun i_ => nI (tz i_)))) := (mp_up_n (mp_ne hsz h0 (by simp))).trans hsz
                    have hkn_n : mp_up M mo (.inr (4, [.ref el, .ref ek, .int (nI ec), .ref bg, .ref sz, .ref kn, .int (nI tc), .ref rw, .int (nI wc), .ref pp, .ref pk, .ref wd, .ref lo, .int (nI sc), .ref kp, .ref ks, .int (nI nc), .int (nI 0)])) kn = some (.inl (k 0, 300, .inl (fun i_ => nI (tk i_)))) := (mp_up_n (mp_ne hkn h0 (by simp))).trans hkn
                    have hrw_n : mp_up M mo (.inr (4, [.ref el, .ref ek, .int (nI ec), .ref bg, .ref sz, .ref kn, .int (nI tc), .ref rw, .int (nI wc), .ref pp, .ref pk, .ref wd, .ref lo, .int (nI sc), .ref kp, .ref ks, .int (nI nc), .int (nI 0)])) rw = some (.inl (k 0, 12, .inl (fun i_ => nI (wt i_)))) := (mp_up_n (mp_ne hrw h0 (by simp))).trans hrw
                    have hpp_n : mp_up M mo (.inr (4, [.ref el, .ref ek, .int (nI ec), .ref bg, .ref sz, .ref kn, .int (nI tc), .ref rw, .int (nI wc), .ref pp, .ref pk, .ref wd, .ref lo, .int (nI sc), .ref kp, .ref ks, .int (nI nc), .int (nI 0)])) pp = some (.inl (k 0, 100, .inl (fun i_ => nI (sf i_)))) := (mp_up_n (mp_ne hpp h0 (by simp))).trans hpp
                    have hpk_n : mp_up M mo (.inr (4, [.ref el, .ref ek, .int (nI ec), .ref bg, .ref sz, .ref kn, .int (nI tc), .ref rw, .int (nI wc), .ref pp, .ref pk, .ref wd, .ref lo, .int (nI sc), .ref kp, .ref ks, .int (nI nc), .int (nI 0)])) pk = some (.inl (k 0, 100, .inl (fun i_ => nI (sk i_)))) := (mp_up_n (mp_ne hpk h0 (by simp))).trans hpk
                    have hwd_n : mp_up M mo (.inr (4, [.ref el, .ref ek, .int (nI ec), .ref bg, .ref sz, .ref kn, .int (nI tc), .ref rw, .int (nI wc), .ref pp, .ref pk, .ref wd, .ref lo, .int (nI sc), .ref kp, .ref ks, .int (nI nc), .int (nI 0)])) wd = some (.inl (k 0, 100, .inl (fun i_ => nI (sw i_)))) := (mp_up_n (mp_ne hwd h0 (by simp))).trans hwd
                    have hlo_n : mp_up M mo (.inr (4, [.ref el, .ref ek, .int (nI ec), .ref bg, .ref sz, .ref kn, .int (nI tc), .ref rw, .int (nI wc), .ref pp, .ref pk, .ref wd, .ref lo, .int (nI sc), .ref kp, .ref ks, .int (nI nc), .int (nI 0)])) lo = some (.inl (k 5, 100, .inl (fun i_ => nI (ml i_)))) := (mp_up_n (mp_ne hlo h0 (by simp))).trans hlo
                    have hkp_n : mp_up M mo (.inr (4, [.ref el, .ref ek, .int (nI ec), .ref bg, .ref sz, .ref kn, .int (nI tc), .ref rw, .int (nI wc), .ref pp, .ref pk, .ref wd, .ref lo, .int (nI sc), .ref kp, .ref ks, .int (nI nc), .int (nI 0)])) kp = some (.inl (k 1, 80000, .inr (.inl mk))) := (mp_up_n (mp_ne hkp h0 (by simp))).trans hkp
                    have hks_n : mp_up M mo (.inr (4, [.ref el, .ref ek, .int (nI ec), .ref bg, .ref sz, .ref kn, .int (nI tc), .ref rw, .int (nI wc), .ref pp, .ref pk, .ref wd, .ref lo, .int (nI sc), .ref kp, .ref ks, .int (nI nc), .int (nI 0)])) ks = some (.inl (k 0, 20, .inl (fun i_ => nI (nn i_)))) := (mp_up_n (mp_ne hks h0 (by simp))).trans hks
                    generalize eM_394 : mp_up M mo (.inr (4, [.ref el, .ref ek, .int (nI ec), .ref bg, .ref sz, .ref kn, .int (nI tc), .ref rw, .int (nI wc), .ref pp, .ref pk, .ref wd, .ref lo, .int (nI sc), .ref kp, .ref ks, .int (nI nc), .int (nI 0)])) = M_393 at I h0_n hel_n hek_n hbg_n hsz_n hkn_n hrw_n hpp_n hpk_n hwd_n hlo_n hkp_n hks_n
                    have h0__M_393 := h0_n
                    have hel__M_393 := hel_n
                    have hek__M_393 := hek_n
                    have hbg__M_393 := hbg_n
                    have hsz__M_393 := hsz_n
                    have hkn__M_393 := hkn_n
                    have hrw__M_393 := hrw_n
                    have hpp__M_393 := hpp_n
                    have hpk__M_393 := hpk_n
                    have hwd__M_393 := hwd_n
                    have hlo__M_393 := hlo_n
                    have hkp__M_393 := hkp_n
                    have hks__M_393 := hks_n
                    clear h0_n hel_n hek_n hbg_n hsz_n hkn_n hrw_n hpp_n hpk_n hwd_n hlo_n hkp_n hks_n
                    have hE := hE.cnt ec tc wc sc nc 0
                    rw [eM_394] at hE
                    refine lv_iload hx hb dM_act_133 (lv_at hl 0 rfl) ?_
                    refine zz_if_ne (tgt := 140) hx hb (nI_toInt (by decide)) dM_act_135 (by decide) (fun _ => ?_) (fun c_395 => absurd c_395 (by decide))
                    refine lv_aload_n hx hb dM_act_140 rfl (lv_at hl 2 rfl) ?_
                    refine lv_iload_n hx hb dM_act_141 rfl (lv_at hl 3 rfl) ?_
                    have hg : gact tc sc sk (nI xn).toInt act.toInt v w := by unfold gact; rw [hxi]; exact ⟨by omega, by omega, by unfold aok; omega, fun h => by first | exact p4 | (exfalso; omega), fun h => by first | exact p5 | (exfalso; omega)⟩
                    refine mp_calll (va_runV (As := [.int (nI xn)]) (rest := []) ⟨hx, hb, hml, hown, hts⟩ (kM_get l D k M_393 hE hO xn (by omega) _) (cwV 1 hts (bw_V bw_451 bw_453 bs_16 bw_2 bw_454) rfl rfl rfl (by decide +kernel) ⟨Nat.le_of_ble_eq_true rfl, Nat.le_of_ble_eq_true rfl⟩) (mp_preV I h0__M_393 rfl _) rfl rfl hl.1 rfl (lv_room (Nat.le_of_ble_eq_true rfl)) dM_act_142 ⟨Nat.le_of_ble_eq_true rfl, Nat.le_of_ble_eq_true rfl⟩) I (fun hd_ N1 H locs hp I => ?_)
                    obtain ⟨e_396, hp⟩ := hp
                    rw [e_396] at I
                    refine lv_lstore (lv' := [(9, .long hd_), (7, .int (nI 1)), (8, .int (nI (sk xn))), (0, .ref mo), (1, .int (nI xn)), (2, .int act), (3, .long v), (5, .long w)]) hx hb dM_act_145 hl (by decide) rfl (fun ls hl => ?_)
                    refine lv_iload_n hx hb dM_act_147 rfl (lv_at hl 5 rfl) ?_
                    have c_397 : act.toInt = 0 ∨ act.toInt = 1 ∨ act.toInt = 2 ∨ act.toInt = 3 ∨ act.toInt = 4 ∨ act.toInt = 5 ∨ act.toInt = 6 ∨ (act.toInt < 0 ∨ 6 < act.toInt) := by omega
                    rcases c_397 with c_397 | c_397 | c_397 | c_397 | c_397 | c_397 | c_397 | c_397
                    · refine lv_tableIn (off := 44) (tgt := 192) hx hb dM_act_148 (by rw [show act.toInt = act.toInt from rfl]; omega) (by rw [show act.toInt = act.toInt from rfl]; omega) (by rw [show act.toInt = act.toInt from rfl, c_397]; rfl) (by decide) ?_
                      refine lv_lload hx hb dM_act_192 (lv_at hl 0 rfl) ?_
                      exact mp_lret hx hb hr hlocks I (Nat.le_of_ble_eq_true rfl) (Nat.le_of_ble_eq_true rfl) dM_act_194 (Or.inl ⟨hg, by rw [hxi, ← hp]; unfold pm; rw [if_neg (show ¬ act.toInt = 1 by omega), if_neg (show ¬ act.toInt = 2 by omega), if_neg (show ¬ act.toInt = 3 by omega), if_neg (show ¬ act.toInt = 4 by omega), if_neg (show ¬ act.toInt = 5 by omega), if_neg (show ¬ act.toInt = 6 by omega), if_neg (show ¬ act.toInt = 7 by omega)]; exact ⟨rfl, hE⟩⟩)
                    · refine lv_tableIn (off := 47) (tgt := 195) hx hb dM_act_148 (by rw [show act.toInt = act.toInt from rfl]; omega) (by rw [show act.toInt = act.toInt from rfl]; omega) (by rw [show act.toInt = act.toInt from rfl, c_397]; rfl) (by decide) ?_
                      refine lv_aload_n hx hb dM_act_195 rfl (lv_at hl 3 rfl) ?_
                      refine lv_iload_n hx hb dM_act_196 rfl (lv_at hl 4 rfl) ?_
                      refine lv_lload_n hx hb dM_act_197 rfl (lv_at hl 6 rfl) ?_
                      have hget := hp
                      refine mp_callv (va_runV (As := [.int (nI xn), .long v]) (rest := []) ⟨hx, hb, hml, hown, hts⟩ (kM_set l D k M_393 hE hO xn (by omega) v _) (cwV 2 hts (bw_V bw_456 bw_458 bs_17 bw_2 bw_459) rfl rfl rfl (by decide +kernel) ⟨Nat.le_of_ble_eq_true rfl, Nat.le_of_ble_eq_true rfl⟩) (mp_preV I h0__M_393 rfl _) rfl rfl hl.1 rfl (lv_room (Nat.le_of_ble_eq_true rfl)) dM_act_198 ⟨Nat.le_of_ble_eq_true rfl, Nat.le_of_ble_eq_true rfl⟩) I (fun N1 H locs hp I => ?_)
                      have hE := hp
                      refine lv_lconst (v := 0) hx hb dM_act_201 (by decide) ?_
                      exact mp_lret hx hb hr hlocks I (Nat.le_of_ble_eq_true rfl) (Nat.le_of_ble_eq_true rfl) dM_act_202 (Or.inl ⟨hg, by rw [hxi, ← hget]; unfold pm; rw [if_pos (show act.toInt = 1 by omega)]; exact ⟨rfl, hE⟩⟩)
                    · refine lv_tableIn (off := 55) (tgt := 203) hx hb dM_act_148 (by rw [show act.toInt = act.toInt from rfl]; omega) (by rw [show act.toInt = act.toInt from rfl]; omega) (by rw [show act.toInt = act.toInt from rfl, c_397]; rfl) (by decide) ?_
                      refine lv_aload_n hx hb dM_act_203 rfl (lv_at hl 3 rfl) ?_
                      refine lv_iload_n hx hb dM_act_204 rfl (lv_at hl 4 rfl) ?_
                      refine lv_lload_n hx hb dM_act_205 rfl (lv_at hl 6 rfl) ?_
                      have hget := hp
                      refine mp_callv (va_runV (As := [.int (nI xn), .long v]) (rest := []) ⟨hx, hb, hml, hown, hts⟩ (kM_set l D k M_393 hE hO xn (by omega) v _) (cwV 2 hts (bw_V bw_456 bw_458 bs_17 bw_2 bw_459) rfl rfl rfl (by decide +kernel) ⟨Nat.le_of_ble_eq_true rfl, Nat.le_of_ble_eq_true rfl⟩) (mp_preV I h0__M_393 rfl _) rfl rfl hl.1 rfl (lv_room (Nat.le_of_ble_eq_true rfl)) dM_act_206 ⟨Nat.le_of_ble_eq_true rfl, Nat.le_of_ble_eq_true rfl⟩) I (fun N1 H locs hp I => ?_)
                      have hE := hp
                      refine lv_goto (tgt := 308) hx hb dM_act_209 (by decide) ?_
                      refine lv_lload hx hb dM_act_308 (lv_at hl 0 rfl) ?_
                      exact mp_lret hx hb hr hlocks I (Nat.le_of_ble_eq_true rfl) (Nat.le_of_ble_eq_true rfl) dM_act_310 (Or.inl ⟨hg, by rw [hxi, ← hget]; unfold pm; rw [if_neg (show ¬ act.toInt = 1 by omega), if_pos (show act.toInt = 2 by omega)]; exact ⟨rfl, hE⟩⟩)
                    · refine lv_tableIn (off := 64) (tgt := 212) hx hb dM_act_148 (by rw [show act.toInt = act.toInt from rfl]; omega) (by rw [show act.toInt = act.toInt from rfl]; omega) (by rw [show act.toInt = act.toInt from rfl, c_397]; rfl) (by decide) ?_
                      refine lv_lload hx hb dM_act_212 (lv_at hl 0 rfl) ?_
                      refine lv_lload_n hx hb dM_act_214 rfl (lv_at hl 6 rfl) ?_
                      have hget := hp
                      refine W.lcmp hx hb dM_act_215 ?_
                      refine lv_if_ne (tgt := 226) hx hb dM_act_216 (by decide) (fun c_400 => ?_) (fun c_400 => ?_)
                      all_goals rw [lg_cmp_eq] at c_400
                      · refine lv_lload hx hb dM_act_226 (lv_at hl 0 rfl) ?_
                        refine lv_lload_n hx hb dM_act_228 rfl (lv_at hl 6 rfl) ?_
                        refine W.lcmp hx hb dM_act_229 ?_
                        refine lv_if_ne (tgt := 237) hx hb dM_act_230 (by decide) (fun c_401 => ?_) (fun c_401 => ?_)
                        all_goals rw [lg_cmp_eq] at c_401
                        · refine lv_lconst (v := 0) hx hb dM_act_237 (by decide) ?_
                          exact mp_lret hx hb hr hlocks I (Nat.le_of_ble_eq_true rfl) (Nat.le_of_ble_eq_true rfl) dM_act_238 (Or.inl ⟨hg, by rw [hxi, ← hget]; unfold pm; rw [if_neg (show ¬ act.toInt = 1 by omega), if_neg (show ¬ act.toInt = 2 by omega), if_pos (show act.toInt = 3 by omega), if_neg c_400]; exact ⟨rfl, hE⟩⟩)
                        · exact absurd c_401 c_400
                      · refine lv_aload_n hx hb dM_act_219 rfl (lv_at hl 3 rfl) ?_
                        refine lv_iload_n hx hb dM_act_220 rfl (lv_at hl 4 rfl) ?_
                        refine lv_lload hx hb dM_act_221 (lv_at hl 7 rfl) ?_
                        refine mp_callv (va_runV (As := [.int (nI xn), .long w]) (rest := []) ⟨hx, hb, hml, hown, hts⟩ (kM_set l D k M_393 hE hO xn (by omega) w _) (cwV 2 hts (bw_V bw_456 bw_458 bs_17 bw_2 bw_459) rfl rfl rfl (by decide +kernel) ⟨Nat.le_of_ble_eq_true rfl, Nat.le_of_ble_eq_true rfl⟩) (mp_preV I h0__M_393 rfl _) rfl rfl hl.1 rfl (lv_room (Nat.le_of_ble_eq_true rfl)) dM_act_223 ⟨Nat.le_of_ble_eq_true rfl, Nat.le_of_ble_eq_true rfl⟩) I (fun N1 H locs hp I => ?_)
                        have hE := hp
                        refine lv_lload hx hb dM_act_226 (lv_at hl 0 rfl) ?_
                        refine lv_lload_n hx hb dM_act_228 rfl (lv_at hl 6 rfl) ?_
                        refine W.lcmp hx hb dM_act_229 ?_
                        refine lv_if_ne (tgt := 237) hx hb dM_act_230 (by decide) (fun c_403 => ?_) (fun c_403 => ?_)
                        all_goals rw [lg_cmp_eq] at c_403
                        · exact absurd c_400 c_403
                        · refine lv_lconst (v := 1) hx hb dM_act_233 (by decide) ?_
                          refine lv_goto (tgt := 238) hx hb dM_act_234 (by decide) ?_
                          exact mp_lret hx hb hr hlocks I (Nat.le_of_ble_eq_true rfl) (Nat.le_of_ble_eq_true rfl) dM_act_238 (Or.inl ⟨hg, by rw [hxi, ← hget]; unfold pm; rw [if_neg (show ¬ act.toInt = 1 by omega), if_neg (show ¬ act.toInt = 2 by omega), if_pos (show act.toInt = 3 by omega), if_pos c_400]; exact ⟨rfl, hE⟩⟩)
                    · refine lv_tableIn (off := 91) (tgt := 239) hx hb dM_act_148 (by rw [show act.toInt = act.toInt from rfl]; omega) (by rw [show act.toInt = act.toInt from rfl]; omega) (by rw [show act.toInt = act.toInt from rfl, c_397]; rfl) (by decide) ?_
                      refine lv_aload_n hx hb dM_act_239 rfl (lv_at hl 3 rfl) ?_
                      refine lv_iload_n hx hb dM_act_240 rfl (lv_at hl 4 rfl) ?_
                      refine lv_iload hx hb dM_act_241 (lv_at hl 2 rfl) ?_
                      refine lv_lload hx hb dM_act_243 (lv_at hl 0 rfl) ?_
                      refine lv_lload_n hx hb dM_act_245 rfl (lv_at hl 6 rfl) ?_
                      refine lv_ladd hx hb dM_act_246 ?_
                      have hget := hp
                      refine mp_calll (va_runS (As := [.int (nI (sk xn)), .long (hd_ + v)]) (rest := [.int (nI xn), .ref mo]) ⟨hx, hb, hml, hown, hts⟩ (kM_as l D k M_393 (sk xn) (hd_ + v) (by omega) _) (cwS 2 hts (bw_S bw_447 bw_448 bw_2 bw_449) rfl rfl rfl (by decide +kernel) ⟨Nat.le_of_ble_eq_true rfl, Nat.le_of_ble_eq_true rfl⟩) (mp_preS I _) rfl rfl hl.1 rfl (lv_room (Nat.le_of_ble_eq_true rfl)) dM_act_247 ⟨Nat.le_of_ble_eq_true rfl, Nat.le_of_ble_eq_true rfl⟩) I (fun r2 N1 H locs hp I => ?_)
                      obtain ⟨e_404, hp⟩ := hp
                      rw [e_404] at I
                      subst hp
                      refine mp_callv (va_runV (As := [.int (nI xn), .long (lb (sk xn) (hd_ + v))]) (rest := []) ⟨hx, hb, hml, hown, hts⟩ (kM_set l D k M_393 hE hO xn (by omega) (lb (sk xn) (hd_ + v)) _) (cwV 2 hts (bw_V bw_456 bw_458 bs_17 bw_2 bw_459) rfl rfl rfl (by decide +kernel) ⟨Nat.le_of_ble_eq_true rfl, Nat.le_of_ble_eq_true rfl⟩) (mp_preV I h0__M_393 rfl _) rfl rfl hl.1 rfl (lv_room (Nat.le_of_ble_eq_true rfl)) dM_act_250 ⟨Nat.le_of_ble_eq_true rfl, Nat.le_of_ble_eq_true rfl⟩) I (fun N1 H locs hp I => ?_)
                      have hE := hp
                      refine lv_goto (tgt := 308) hx hb dM_act_253 (by decide) ?_
                      refine lv_lload hx hb dM_act_308 (lv_at hl 0 rfl) ?_
                      exact mp_lret hx hb hr hlocks I (Nat.le_of_ble_eq_true rfl) (Nat.le_of_ble_eq_true rfl) dM_act_310 (Or.inl ⟨hg, by rw [hxi, ← hget]; unfold pm; rw [if_neg (show ¬ act.toInt = 1 by omega), if_neg (show ¬ act.toInt = 2 by omega), if_neg (show ¬ act.toInt = 3 by omega), if_pos (show act.toInt = 4 by omega)]; exact ⟨rfl, hE⟩⟩)
                    · refine lv_tableIn (off := 108) (tgt := 256) hx hb dM_act_148 (by rw [show act.toInt = act.toInt from rfl]; omega) (by rw [show act.toInt = act.toInt from rfl]; omega) (by rw [show act.toInt = act.toInt from rfl, c_397]; rfl) (by decide) ?_
                      refine lv_aload_n hx hb dM_act_256 rfl (lv_at hl 3 rfl) ?_
                      refine lv_iload_n hx hb dM_act_257 rfl (lv_at hl 4 rfl) ?_
                      refine lv_iload hx hb dM_act_258 (lv_at hl 2 rfl) ?_
                      refine lv_lload hx hb dM_act_260 (lv_at hl 0 rfl) ?_
                      refine lv_lload_n hx hb dM_act_262 rfl (lv_at hl 6 rfl) ?_
                      refine lv_land hx hb dM_act_263 ?_
                      have hget := hp
                      refine mp_calll (va_runS (As := [.int (nI (sk xn)), .long (hd_ &&& v)]) (rest := [.int (nI xn), .ref mo]) ⟨hx, hb, hml, hown, hts⟩ (kM_as l D k M_393 (sk xn) (hd_ &&& v) (by omega) _) (cwS 2 hts (bw_S bw_447 bw_448 bw_2 bw_449) rfl rfl rfl (by decide +kernel) ⟨Nat.le_of_ble_eq_true rfl, Nat.le_of_ble_eq_true rfl⟩) (mp_preS I _) rfl rfl hl.1 rfl (lv_room (Nat.le_of_ble_eq_true rfl)) dM_act_264 ⟨Nat.le_of_ble_eq_true rfl, Nat.le_of_ble_eq_true rfl⟩) I (fun r2 N1 H locs hp I => ?_)
                      obtain ⟨e_406, hp⟩ := hp
                      rw [e_406] at I
                      subst hp
                      refine mp_callv (va_runV (As := [.int (nI xn), .long (lb (sk xn) (hd_ &&& v))]) (rest := []) ⟨hx, hb, hml, hown, hts⟩ (kM_set l D k M_393 hE hO xn (by omega) (lb (sk xn) (hd_ &&& v)) _) (cwV 2 hts (bw_V bw_456 bw_458 bs_17 bw_2 bw_459) rfl rfl rfl (by decide +kernel) ⟨Nat.le_of_ble_eq_true rfl, Nat.le_of_ble_eq_true rfl⟩) (mp_preV I h0__M_393 rfl _) rfl rfl hl.1 rfl (lv_room (Nat.le_of_ble_eq_true rfl)) dM_act_267 ⟨Nat.le_of_ble_eq_true rfl, Nat.le_of_ble_eq_true rfl⟩) I (fun N1 H locs hp I => ?_)
                      have hE := hp
                      refine lv_goto (tgt := 308) hx hb dM_act_270 (by decide) ?_
                      refine lv_lload hx hb dM_act_308 (lv_at hl 0 rfl) ?_
                      exact mp_lret hx hb hr hlocks I (Nat.le_of_ble_eq_true rfl) (Nat.le_of_ble_eq_true rfl) dM_act_310 (Or.inl ⟨hg, by rw [hxi, ← hget]; unfold pm; rw [if_neg (show ¬ act.toInt = 1 by omega), if_neg (show ¬ act.toInt = 2 by omega), if_neg (show ¬ act.toInt = 3 by omega), if_neg (show ¬ act.toInt = 4 by omega), if_pos (show act.toInt = 5 by omega)]; exact ⟨rfl, hE⟩⟩)
                    · refine lv_tableIn (off := 125) (tgt := 273) hx hb dM_act_148 (by rw [show act.toInt = act.toInt from rfl]; omega) (by rw [show act.toInt = act.toInt from rfl]; omega) (by rw [show act.toInt = act.toInt from rfl, c_397]; rfl) (by decide) ?_
                      refine lv_aload_n hx hb dM_act_273 rfl (lv_at hl 3 rfl) ?_
                      refine lv_iload_n hx hb dM_act_274 rfl (lv_at hl 4 rfl) ?_
                      refine lv_iload hx hb dM_act_275 (lv_at hl 2 rfl) ?_
                      refine lv_lload hx hb dM_act_277 (lv_at hl 0 rfl) ?_
                      refine lv_lload_n hx hb dM_act_279 rfl (lv_at hl 6 rfl) ?_
                      refine lv_lor hx hb dM_act_280 ?_
                      have hget := hp
                      refine mp_calll (va_runS (As := [.int (nI (sk xn)), .long (hd_ ||| v)]) (rest := [.int (nI xn), .ref mo]) ⟨hx, hb, hml, hown, hts⟩ (kM_as l D k M_393 (sk xn) (hd_ ||| v) (by omega) _) (cwS 2 hts (bw_S bw_447 bw_448 bw_2 bw_449) rfl rfl rfl (by decide +kernel) ⟨Nat.le_of_ble_eq_true rfl, Nat.le_of_ble_eq_true rfl⟩) (mp_preS I _) rfl rfl hl.1 rfl (lv_room (Nat.le_of_ble_eq_true rfl)) dM_act_281 ⟨Nat.le_of_ble_eq_true rfl, Nat.le_of_ble_eq_true rfl⟩) I (fun r2 N1 H locs hp I => ?_)
                      obtain ⟨e_408, hp⟩ := hp
                      rw [e_408] at I
                      subst hp
                      refine mp_callv (va_runV (As := [.int (nI xn), .long (lb (sk xn) (hd_ ||| v))]) (rest := []) ⟨hx, hb, hml, hown, hts⟩ (kM_set l D k M_393 hE hO xn (by omega) (lb (sk xn) (hd_ ||| v)) _) (cwV 2 hts (bw_V bw_456 bw_458 bs_17 bw_2 bw_459) rfl rfl rfl (by decide +kernel) ⟨Nat.le_of_ble_eq_true rfl, Nat.le_of_ble_eq_true rfl⟩) (mp_preV I h0__M_393 rfl _) rfl rfl hl.1 rfl (lv_room (Nat.le_of_ble_eq_true rfl)) dM_act_284 ⟨Nat.le_of_ble_eq_true rfl, Nat.le_of_ble_eq_true rfl⟩) I (fun N1 H locs hp I => ?_)
                      have hE := hp
                      refine lv_goto (tgt := 308) hx hb dM_act_287 (by decide) ?_
                      refine lv_lload hx hb dM_act_308 (lv_at hl 0 rfl) ?_
                      exact mp_lret hx hb hr hlocks I (Nat.le_of_ble_eq_true rfl) (Nat.le_of_ble_eq_true rfl) dM_act_310 (Or.inl ⟨hg, by rw [hxi, ← hget]; unfold pm; rw [if_neg (show ¬ act.toInt = 1 by omega), if_neg (show ¬ act.toInt = 2 by omega), if_neg (show ¬ act.toInt = 3 by omega), if_neg (show ¬ act.toInt = 4 by omega), if_neg (show ¬ act.toInt = 5 by omega), if_pos (show act.toInt = 6 by omega)]; exact ⟨rfl, hE⟩⟩)
                    · refine lv_tableOut (tgt := 290) hx hb dM_act_148 (by rw [show act.toInt = act.toInt from rfl]; exact c_397) (by decide) ?_
                      refine lv_aload_n hx hb dM_act_290 rfl (lv_at hl 3 rfl) ?_
                      refine lv_iload_n hx hb dM_act_291 rfl (lv_at hl 4 rfl) ?_
                      refine lv_lload hx hb dM_act_292 (lv_at hl 0 rfl) ?_
                      refine lv_lload_n hx hb dM_act_294 rfl (lv_at hl 6 rfl) ?_
                      have hget := hp
                      refine W.lcmp hx hb dM_act_295 ?_
                      refine lv_if_le (tgt := 304) hx hb dM_act_296 (by decide) (fun c_410 => ?_) (fun c_410 => ?_)
                      all_goals rw [lg_cmp_le] at c_410
                      · refine lv_lload_n hx hb dM_act_304 rfl (lv_at hl 6 rfl) ?_
                        refine mp_callv (va_runV (As := [.int (nI xn), .long v]) (rest := []) ⟨hx, hb, hml, hown, hts⟩ (kM_set l D k M_393 hE hO xn (by omega) v _) (cwV 2 hts (bw_V bw_456 bw_458 bs_17 bw_2 bw_459) rfl rfl rfl (by decide +kernel) ⟨Nat.le_of_ble_eq_true rfl, Nat.le_of_ble_eq_true rfl⟩) (mp_preV I h0__M_393 rfl _) rfl rfl hl.1 rfl (lv_room (Nat.le_of_ble_eq_true rfl)) dM_act_305 ⟨Nat.le_of_ble_eq_true rfl, Nat.le_of_ble_eq_true rfl⟩) I (fun N1 H locs hp I => ?_)
                        have hE := hp
                        refine lv_lload hx hb dM_act_308 (lv_at hl 0 rfl) ?_
                        exact mp_lret hx hb hr hlocks I (Nat.le_of_ble_eq_true rfl) (Nat.le_of_ble_eq_true rfl) dM_act_310 (Or.inl ⟨hg, by rw [hxi, ← hget]; unfold pm; rw [if_neg (show ¬ act.toInt = 1 by omega), if_neg (show ¬ act.toInt = 2 by omega), if_neg (show ¬ act.toInt = 3 by omega), if_neg (show ¬ act.toInt = 4 by omega), if_neg (show ¬ act.toInt = 5 by omega), if_neg (show ¬ act.toInt = 6 by omega), if_pos (show act.toInt = 7 by unfold gact aok at hg; omega), if_neg (Int64.not_lt.mpr c_410)]; exact ⟨rfl, hE⟩⟩)
                      · refine lv_lload hx hb dM_act_299 (lv_at hl 0 rfl) ?_
                        refine lv_goto (tgt := 305) hx hb dM_act_301 (by decide) ?_
                        refine mp_callv (va_runV (As := [.int (nI xn), .long hd_]) (rest := []) ⟨hx, hb, hml, hown, hts⟩ (kM_set l D k M_393 hE hO xn (by omega) hd_ _) (cwV 2 hts (bw_V bw_456 bw_458 bs_17 bw_2 bw_459) rfl rfl rfl (by decide +kernel) ⟨Nat.le_of_ble_eq_true rfl, Nat.le_of_ble_eq_true rfl⟩) (mp_preV I h0__M_393 rfl _) rfl rfl hl.1 rfl (lv_room (Nat.le_of_ble_eq_true rfl)) dM_act_305 ⟨Nat.le_of_ble_eq_true rfl, Nat.le_of_ble_eq_true rfl⟩) I (fun N1 H locs hp I => ?_)
                        have hE := hp
                        refine lv_lload hx hb dM_act_308 (lv_at hl 0 rfl) ?_
                        exact mp_lret hx hb hr hlocks I (Nat.le_of_ble_eq_true rfl) (Nat.le_of_ble_eq_true rfl) dM_act_310 (Or.inl ⟨hg, by rw [hxi, ← hget]; unfold pm; rw [if_neg (show ¬ act.toInt = 1 by omega), if_neg (show ¬ act.toInt = 2 by omega), if_neg (show ¬ act.toInt = 3 by omega), if_neg (show ¬ act.toInt = 4 by omega), if_neg (show ¬ act.toInt = 5 by omega), if_neg (show ¬ act.toInt = 6 by omega), if_pos (show act.toInt = 7 by unfold gact aok at hg; omega), if_pos (Int64.not_le.mp c_410)]; exact ⟨rfl, hE⟩⟩)
                  · refine lv_aload_n hx hb dM_act_101 rfl (lv_at hl 2 rfl) ?_
                    refine lv_iload hx hb dM_act_102 (lv_at hl 1 rfl) ?_
                    refine lv_lload hx hb dM_act_104 (lv_at hl 6 rfl) ?_
                    refine mp_calli (va_runV (As := [.int (nI (sk xn)), .long w]) (rest := []) ⟨hx, hb, hml, hown, hts⟩ (kM_isValue l D k M hE hO (sk xn) w (by omega) _) (cwV 2 hts (bw_V bw_443 bw_445 bs_15 bw_2 bw_446) rfl rfl rfl (by decide +kernel) ⟨Nat.le_of_ble_eq_true rfl, Nat.le_of_ble_eq_true rfl⟩) (mp_preV I h0 rfl _) rfl rfl hl.1 rfl (lv_room (Nat.le_of_ble_eq_true rfl)) dM_act_106 ⟨Nat.le_of_ble_eq_true rfl, Nat.le_of_ble_eq_true rfl⟩) I (fun r_413 N_414 H locs hp I => ?_)
                    obtain ⟨e_415, hp⟩ := hp
                    rw [e_415] at I
                    rcases hp with ⟨p5, rfl⟩ | ⟨p5, rfl⟩
                    · refine zz_if_eq (tgt := 116) hx hb (nI_toInt (by decide)) dM_act_109 (by decide) (fun c_416 => absurd c_416 (by decide)) (fun _ => ?_)
                      refine lv_iconst (v := nI 1) hx hb dM_act_112 (by decide) ?_
                      refine lv_goto (tgt := 117) hx hb dM_act_113 (by decide) ?_
                      refine lv_istore (lv' := [(7, .int (nI 1)), (8, .int (nI (sk xn))), (0, .ref mo), (1, .int (nI xn)), (2, .int act), (3, .long v), (5, .long w)]) hx hb dM_act_117 hl (by decide) rfl (fun ls hl => ?_)
                      refine lv_aload_n hx hb dM_act_119 rfl (lv_at hl 2 rfl) ?_
                      refine lv_iload hx hb dM_act_120 (lv_at hl 0 rfl) ?_
                      refine zz_if_eq (tgt := 129) hx hb (nI_toInt (by decide)) dM_act_122 (by decide) (fun c_417 => absurd c_417 (by decide)) (fun _ => ?_)
                      refine lv_iconst (v := nI 0) hx hb dM_act_125 (by decide) ?_
                      refine lv_goto (tgt := 130) hx hb dM_act_126 (by decide) ?_
                      refine mp_put (v := .int (nI 0)) (ty := .int) hx hb hts inM tyM okM nmM hown I h0 rfl 17 (by decide) (hts _ bw_348) (fun _ h9 => h9) rfl (by decide +kernel) rfl rfl (Nat.le_of_ble_eq_true rfl) dM_act_130 (fun H locs I => ?_)
                      have I : mp_I D cls5 (tys6 k) s _ s.heap H locs (mp_up M mo (.inr (4, [.ref el, .ref ek, .int (nI ec), .ref bg, .ref sz, .ref kn, .int (nI tc), .ref rw, .int (nI wc), .ref pp, .ref pk, .ref wd, .ref lo, .int (nI sc), .ref kp, .ref ks, .int (nI nc), .int (nI 0)]))) := I
                      have h0_n : mp_up M mo (.inr (4, [.ref el, .ref ek, .int (nI ec), .ref bg, .ref sz, .ref kn, .int (nI tc), .ref rw, .int (nI wc), .ref pp, .ref pk, .ref wd, .ref lo, .int (nI sc), .ref kp, .ref ks, .int (nI nc), .int (nI 0)])) mo = some (.inr (4, [.ref el, .ref ek, .int (nI ec), .ref bg, .ref sz, .ref kn, .int (nI tc), .ref rw, .int (nI wc), .ref pp, .ref pk, .ref wd, .ref lo, .int (nI sc), .ref kp, .ref ks, .int (nI nc), .int (nI 0)])) := mp_up_s _ _ _
                      have hel_n : mp_up M mo (.inr (4, [.ref el, .ref ek, .int (nI ec), .ref bg, .ref sz, .ref kn, .int (nI tc), .ref rw, .int (nI wc), .ref pp, .ref pk, .ref wd, .ref lo, .int (nI sc), .ref kp, .ref ks, .int (nI nc), .int (nI 0)])) el = some (.inl (k 1, 4000, .inr (.inl va))) := (mp_up_n (mp_ne hel h0 (by simp))).trans hel
                      have hek_n : mp_up M mo (.inr (4, [.ref el, .ref ek, .int (nI ec), .ref bg, .ref sz, .ref kn, .int (nI tc), .ref rw, .int (nI wc), .ref pp, .ref pk, .ref wd, .ref lo, .int (nI sc), .ref kp, .ref ks, .int (nI nc), .int (nI 0)])) ek = some (.inl (k 0, 4000, .inl (fun i_ => nI (kd i_)))) := (mp_up_n (mp_ne hek h0 (by simp))).trans hek
                      have hbg_n : mp_up M mo (.inr (4, [.ref el, .ref ek, .int (nI ec), .ref bg, .ref sz, .ref kn, .int (nI tc), .ref rw, .int (nI wc), .ref pp, .ref pk, .ref wd, .ref lo, .int (nI sc), .ref kp, .ref ks, .int (nI nc), .int (nI 0)])) bg = some (.inl (k 0, 300, .inl (fun i_ => nI (tf i_)))) := (mp_up_n (mp_ne hbg h0 (by simp))).trans hbg
                      have hsz_n : mp_up M mo (.inr (4, [.ref el, .ref ek, .int (nI ec), .ref bg, .ref sz, .ref kn, .int (nI tc), .ref rw, .int (nI wc), .ref pp, .ref pk, .ref wd, .ref lo, .int (nI sc), .ref kp, .ref ks, .int (nI nc), .int (nI 0)])) sz = some (.inl (k 0, 300, .inl (fun i_ => nI (tz i_)))) := (mp_up_n (mp_ne hsz h0 (by simp))).trans hsz
                      have hkn_n : mp_up M mo (.inr (4, [.ref el, .ref ek, .int (nI ec), .ref bg, .ref sz, .ref kn, .int (nI tc), .ref rw, .int (nI wc), .ref pp, .ref pk, .ref wd, .ref lo, .int (nI sc), .ref kp, .ref ks, .int (nI nc), .int (nI 0)])) kn = some (.inl (k 0, 300, .inl (fun i_ => nI (tk i_)))) := (mp_up_n (mp_ne hkn h0 (by simp))).trans hkn
                      have hrw_n : mp_up M mo (.inr (4, [.ref el, .ref ek, .int (nI ec), .ref bg, .ref sz, .ref kn, .int (nI tc), .ref rw, .int (nI wc), .ref pp, .ref pk, .ref wd, .ref lo, .int (nI sc), .ref kp, .ref ks, .int (nI nc), .int (nI 0)])) rw = some (.inl (k 0, 12, .inl (fun i_ => nI (wt i_)))) := (mp_up_n (mp_ne hrw h0 (by simp))).trans hrw
                      have hpp_n : mp_up M mo (.inr (4, [.ref el, .ref ek, .int (nI ec), .ref bg, .ref sz, .ref kn, .int (nI tc), .ref rw, .int (nI wc), .ref pp, .ref pk, .ref wd, .ref lo, .int (nI sc), .ref kp, .ref ks, .int (nI nc), .int (nI 0)])) pp = some (.inl (k 0, 100, .inl (fun i_ => nI (sf i_)))) := (mp_up_n (mp_ne hpp h0 (by simp))).trans hpp
                      have hpk_n : mp_up M mo (.inr (4, [.ref el, .ref ek, .int (nI ec), .ref bg, .ref sz, .ref kn, .int (nI tc), .ref rw, .int (nI wc), .ref pp, .ref pk, .ref wd, .ref lo, .int (nI sc), .ref kp, .ref ks, .int (nI nc), .int (nI 0)])) pk = some (.inl (k 0, 100, .inl (fun i_ => nI (sk i_)))) := (mp_up_n (mp_ne hpk h0 (by simp))).trans hpk
                      have hwd_n : mp_up M mo (.inr (4, [.ref el, .ref ek, .int (nI ec), .ref bg, .ref sz, .ref kn, .int (nI tc), .ref rw, .int (nI wc), .ref pp, .ref pk, .ref wd, .ref lo, .int (nI sc), .ref kp, .ref ks, .int (nI nc), .int (nI 0)])) wd = some (.inl (k 0, 100, .inl (fun i_ => nI (sw i_)))) := (mp_up_n (mp_ne hwd h0 (by simp))).trans hwd
                      have hlo_n : mp_up M mo (.inr (4, [.ref el, .ref ek, .int (nI ec), .ref bg, .ref sz, .ref kn, .int (nI tc), .ref rw, .int (nI wc), .ref pp, .ref pk, .ref wd, .ref lo, .int (nI sc), .ref kp, .ref ks, .int (nI nc), .int (nI 0)])) lo = some (.inl (k 5, 100, .inl (fun i_ => nI (ml i_)))) := (mp_up_n (mp_ne hlo h0 (by simp))).trans hlo
                      have hkp_n : mp_up M mo (.inr (4, [.ref el, .ref ek, .int (nI ec), .ref bg, .ref sz, .ref kn, .int (nI tc), .ref rw, .int (nI wc), .ref pp, .ref pk, .ref wd, .ref lo, .int (nI sc), .ref kp, .ref ks, .int (nI nc), .int (nI 0)])) kp = some (.inl (k 1, 80000, .inr (.inl mk))) := (mp_up_n (mp_ne hkp h0 (by simp))).trans hkp
                      have hks_n : mp_up M mo (.inr (4, [.ref el, .ref ek, .int (nI ec), .ref bg, .ref sz, .ref kn, .int (nI tc), .ref rw, .int (nI wc), .ref pp, .ref pk, .ref wd, .ref lo, .int (nI sc), .ref kp, .ref ks, .int (nI nc), .int (nI 0)])) ks = some (.inl (k 0, 20, .inl (fun i_ => nI (nn i_)))) := (mp_up_n (mp_ne hks h0 (by simp))).trans hks
                      generalize eM_419 : mp_up M mo (.inr (4, [.ref el, .ref ek, .int (nI ec), .ref bg, .ref sz, .ref kn, .int (nI tc), .ref rw, .int (nI wc), .ref pp, .ref pk, .ref wd, .ref lo, .int (nI sc), .ref kp, .ref ks, .int (nI nc), .int (nI 0)])) = M_418 at I h0_n hel_n hek_n hbg_n hsz_n hkn_n hrw_n hpp_n hpk_n hwd_n hlo_n hkp_n hks_n
                      have h0__M_418 := h0_n
                      have hel__M_418 := hel_n
                      have hek__M_418 := hek_n
                      have hbg__M_418 := hbg_n
                      have hsz__M_418 := hsz_n
                      have hkn__M_418 := hkn_n
                      have hrw__M_418 := hrw_n
                      have hpp__M_418 := hpp_n
                      have hpk__M_418 := hpk_n
                      have hwd__M_418 := hwd_n
                      have hlo__M_418 := hlo_n
                      have hkp__M_418 := hkp_n
                      have hks__M_418 := hks_n
                      clear h0_n hel_n hek_n hbg_n hsz_n hkn_n hrw_n hpp_n hpk_n hwd_n hlo_n hkp_n hks_n
                      have hE := hE.cnt ec tc wc sc nc 0
                      rw [eM_419] at hE
                      refine lv_iload hx hb dM_act_133 (lv_at hl 0 rfl) ?_
                      refine zz_if_ne (tgt := 140) hx hb (nI_toInt (by decide)) dM_act_135 (by decide) (fun _ => ?_) (fun c_420 => absurd c_420 (by decide))
                      refine lv_aload_n hx hb dM_act_140 rfl (lv_at hl 2 rfl) ?_
                      refine lv_iload_n hx hb dM_act_141 rfl (lv_at hl 3 rfl) ?_
                      have hg : gact tc sc sk (nI xn).toInt act.toInt v w := by unfold gact; rw [hxi]; exact ⟨by omega, by omega, by unfold aok; omega, fun h => by first | exact p4 | (exfalso; omega), fun h => by first | exact p5 | (exfalso; omega)⟩
                      refine mp_calll (va_runV (As := [.int (nI xn)]) (rest := []) ⟨hx, hb, hml, hown, hts⟩ (kM_get l D k M_418 hE hO xn (by omega) _) (cwV 1 hts (bw_V bw_451 bw_453 bs_16 bw_2 bw_454) rfl rfl rfl (by decide +kernel) ⟨Nat.le_of_ble_eq_true rfl, Nat.le_of_ble_eq_true rfl⟩) (mp_preV I h0__M_418 rfl _) rfl rfl hl.1 rfl (lv_room (Nat.le_of_ble_eq_true rfl)) dM_act_142 ⟨Nat.le_of_ble_eq_true rfl, Nat.le_of_ble_eq_true rfl⟩) I (fun hd_ N1 H locs hp I => ?_)
                      obtain ⟨e_421, hp⟩ := hp
                      rw [e_421] at I
                      refine lv_lstore (lv' := [(9, .long hd_), (7, .int (nI 1)), (8, .int (nI (sk xn))), (0, .ref mo), (1, .int (nI xn)), (2, .int act), (3, .long v), (5, .long w)]) hx hb dM_act_145 hl (by decide) rfl (fun ls hl => ?_)
                      refine lv_iload_n hx hb dM_act_147 rfl (lv_at hl 5 rfl) ?_
                      have c_422 : act.toInt = 0 ∨ act.toInt = 1 ∨ act.toInt = 2 ∨ act.toInt = 3 ∨ act.toInt = 4 ∨ act.toInt = 5 ∨ act.toInt = 6 ∨ (act.toInt < 0 ∨ 6 < act.toInt) := by omega
                      rcases c_422 with c_422 | c_422 | c_422 | c_422 | c_422 | c_422 | c_422 | c_422
                      · refine lv_tableIn (off := 44) (tgt := 192) hx hb dM_act_148 (by rw [show act.toInt = act.toInt from rfl]; omega) (by rw [show act.toInt = act.toInt from rfl]; omega) (by rw [show act.toInt = act.toInt from rfl, c_422]; rfl) (by decide) ?_
                        refine lv_lload hx hb dM_act_192 (lv_at hl 0 rfl) ?_
                        exact mp_lret hx hb hr hlocks I (Nat.le_of_ble_eq_true rfl) (Nat.le_of_ble_eq_true rfl) dM_act_194 (Or.inl ⟨hg, by rw [hxi, ← hp]; unfold pm; rw [if_neg (show ¬ act.toInt = 1 by omega), if_neg (show ¬ act.toInt = 2 by omega), if_neg (show ¬ act.toInt = 3 by omega), if_neg (show ¬ act.toInt = 4 by omega), if_neg (show ¬ act.toInt = 5 by omega), if_neg (show ¬ act.toInt = 6 by omega), if_neg (show ¬ act.toInt = 7 by omega)]; exact ⟨rfl, hE⟩⟩)
                      · refine lv_tableIn (off := 47) (tgt := 195) hx hb dM_act_148 (by rw [show act.toInt = act.toInt from rfl]; omega) (by rw [show act.toInt = act.toInt from rfl]; omega) (by rw [show act.toInt = act.toInt from rfl, c_422]; rfl) (by decide) ?_
                        refine lv_aload_n hx hb dM_act_195 rfl (lv_at hl 3 rfl) ?_
                        refine lv_iload_n hx hb dM_act_196 rfl (lv_at hl 4 rfl) ?_
                        refine lv_lload_n hx hb dM_act_197 rfl (lv_at hl 6 rfl) ?_
                        have hget := hp
                        refine mp_callv (va_runV (As := [.int (nI xn), .long v]) (rest := []) ⟨hx, hb, hml, hown, hts⟩ (kM_set l D k M_418 hE hO xn (by omega) v _) (cwV 2 hts (bw_V bw_456 bw_458 bs_17 bw_2 bw_459) rfl rfl rfl (by decide +kernel) ⟨Nat.le_of_ble_eq_true rfl, Nat.le_of_ble_eq_true rfl⟩) (mp_preV I h0__M_418 rfl _) rfl rfl hl.1 rfl (lv_room (Nat.le_of_ble_eq_true rfl)) dM_act_198 ⟨Nat.le_of_ble_eq_true rfl, Nat.le_of_ble_eq_true rfl⟩) I (fun N1 H locs hp I => ?_)
                        have hE := hp
                        refine lv_lconst (v := 0) hx hb dM_act_201 (by decide) ?_
                        exact mp_lret hx hb hr hlocks I (Nat.le_of_ble_eq_true rfl) (Nat.le_of_ble_eq_true rfl) dM_act_202 (Or.inl ⟨hg, by rw [hxi, ← hget]; unfold pm; rw [if_pos (show act.toInt = 1 by omega)]; exact ⟨rfl, hE⟩⟩)
                      · refine lv_tableIn (off := 55) (tgt := 203) hx hb dM_act_148 (by rw [show act.toInt = act.toInt from rfl]; omega) (by rw [show act.toInt = act.toInt from rfl]; omega) (by rw [show act.toInt = act.toInt from rfl, c_422]; rfl) (by decide) ?_
                        refine lv_aload_n hx hb dM_act_203 rfl (lv_at hl 3 rfl) ?_
                        refine lv_iload_n hx hb dM_act_204 rfl (lv_at hl 4 rfl) ?_
                        refine lv_lload_n hx hb dM_act_205 rfl (lv_at hl 6 rfl) ?_
                        have hget := hp
                        refine mp_callv (va_runV (As := [.int (nI xn), .long v]) (rest := []) ⟨hx, hb, hml, hown, hts⟩ (kM_set l D k M_418 hE hO xn (by omega) v _) (cwV 2 hts (bw_V bw_456 bw_458 bs_17 bw_2 bw_459) rfl rfl rfl (by decide +kernel) ⟨Nat.le_of_ble_eq_true rfl, Nat.le_of_ble_eq_true rfl⟩) (mp_preV I h0__M_418 rfl _) rfl rfl hl.1 rfl (lv_room (Nat.le_of_ble_eq_true rfl)) dM_act_206 ⟨Nat.le_of_ble_eq_true rfl, Nat.le_of_ble_eq_true rfl⟩) I (fun N1 H locs hp I => ?_)
                        have hE := hp
                        refine lv_goto (tgt := 308) hx hb dM_act_209 (by decide) ?_
                        refine lv_lload hx hb dM_act_308 (lv_at hl 0 rfl) ?_
                        exact mp_lret hx hb hr hlocks I (Nat.le_of_ble_eq_true rfl) (Nat.le_of_ble_eq_true rfl) dM_act_310 (Or.inl ⟨hg, by rw [hxi, ← hget]; unfold pm; rw [if_neg (show ¬ act.toInt = 1 by omega), if_pos (show act.toInt = 2 by omega)]; exact ⟨rfl, hE⟩⟩)
                      · refine lv_tableIn (off := 64) (tgt := 212) hx hb dM_act_148 (by rw [show act.toInt = act.toInt from rfl]; omega) (by rw [show act.toInt = act.toInt from rfl]; omega) (by rw [show act.toInt = act.toInt from rfl, c_422]; rfl) (by decide) ?_
                        refine lv_lload hx hb dM_act_212 (lv_at hl 0 rfl) ?_
                        refine lv_lload_n hx hb dM_act_214 rfl (lv_at hl 6 rfl) ?_
                        have hget := hp
                        refine W.lcmp hx hb dM_act_215 ?_
                        refine lv_if_ne (tgt := 226) hx hb dM_act_216 (by decide) (fun c_425 => ?_) (fun c_425 => ?_)
                        all_goals rw [lg_cmp_eq] at c_425
                        · refine lv_lload hx hb dM_act_226 (lv_at hl 0 rfl) ?_
                          refine lv_lload_n hx hb dM_act_228 rfl (lv_at hl 6 rfl) ?_
                          refine W.lcmp hx hb dM_act_229 ?_
                          refine lv_if_ne (tgt := 237) hx hb dM_act_230 (by decide) (fun c_426 => ?_) (fun c_426 => ?_)
                          all_goals rw [lg_cmp_eq] at c_426
                          · refine lv_lconst (v := 0) hx hb dM_act_237 (by decide) ?_
                            exact mp_lret hx hb hr hlocks I (Nat.le_of_ble_eq_true rfl) (Nat.le_of_ble_eq_true rfl) dM_act_238 (Or.inl ⟨hg, by rw [hxi, ← hget]; unfold pm; rw [if_neg (show ¬ act.toInt = 1 by omega), if_neg (show ¬ act.toInt = 2 by omega), if_pos (show act.toInt = 3 by omega), if_neg c_425]; exact ⟨rfl, hE⟩⟩)
                          · exact absurd c_426 c_425
                        · refine lv_aload_n hx hb dM_act_219 rfl (lv_at hl 3 rfl) ?_
                          refine lv_iload_n hx hb dM_act_220 rfl (lv_at hl 4 rfl) ?_
                          refine lv_lload hx hb dM_act_221 (lv_at hl 7 rfl) ?_
                          refine mp_callv (va_runV (As := [.int (nI xn), .long w]) (rest := []) ⟨hx, hb, hml, hown, hts⟩ (kM_set l D k M_418 hE hO xn (by omega) w _) (cwV 2 hts (bw_V bw_456 bw_458 bs_17 bw_2 bw_459) rfl rfl rfl (by decide +kernel) ⟨Nat.le_of_ble_eq_true rfl, Nat.le_of_ble_eq_true rfl⟩) (mp_preV I h0__M_418 rfl _) rfl rfl hl.1 rfl (lv_room (Nat.le_of_ble_eq_true rfl)) dM_act_223 ⟨Nat.le_of_ble_eq_true rfl, Nat.le_of_ble_eq_true rfl⟩) I (fun N1 H locs hp I => ?_)
                          have hE := hp
                          refine lv_lload hx hb dM_act_226 (lv_at hl 0 rfl) ?_
                          refine lv_lload_n hx hb dM_act_228 rfl (lv_at hl 6 rfl) ?_
                          refine W.lcmp hx hb dM_act_229 ?_
                          refine lv_if_ne (tgt := 237) hx hb dM_act_230 (by decide) (fun c_428 => ?_) (fun c_428 => ?_)
                          all_goals rw [lg_cmp_eq] at c_428
                          · exact absurd c_425 c_428
                          · refine lv_lconst (v := 1) hx hb dM_act_233 (by decide) ?_
                            refine lv_goto (tgt := 238) hx hb dM_act_234 (by decide) ?_
                            exact mp_lret hx hb hr hlocks I (Nat.le_of_ble_eq_true rfl) (Nat.le_of_ble_eq_true rfl) dM_act_238 (Or.inl ⟨hg, by rw [hxi, ← hget]; unfold pm; rw [if_neg (show ¬ act.toInt = 1 by omega), if_neg (show ¬ act.toInt = 2 by omega), if_pos (show act.toInt = 3 by omega), if_pos c_425]; exact ⟨rfl, hE⟩⟩)
                      · refine lv_tableIn (off := 91) (tgt := 239) hx hb dM_act_148 (by rw [show act.toInt = act.toInt from rfl]; omega) (by rw [show act.toInt = act.toInt from rfl]; omega) (by rw [show act.toInt = act.toInt from rfl, c_422]; rfl) (by decide) ?_
                        refine lv_aload_n hx hb dM_act_239 rfl (lv_at hl 3 rfl) ?_
                        refine lv_iload_n hx hb dM_act_240 rfl (lv_at hl 4 rfl) ?_
                        refine lv_iload hx hb dM_act_241 (lv_at hl 2 rfl) ?_
                        refine lv_lload hx hb dM_act_243 (lv_at hl 0 rfl) ?_
                        refine lv_lload_n hx hb dM_act_245 rfl (lv_at hl 6 rfl) ?_
                        refine lv_ladd hx hb dM_act_246 ?_
                        have hget := hp
                        refine mp_calll (va_runS (As := [.int (nI (sk xn)), .long (hd_ + v)]) (rest := [.int (nI xn), .ref mo]) ⟨hx, hb, hml, hown, hts⟩ (kM_as l D k M_418 (sk xn) (hd_ + v) (by omega) _) (cwS 2 hts (bw_S bw_447 bw_448 bw_2 bw_449) rfl rfl rfl (by decide +kernel) ⟨Nat.le_of_ble_eq_true rfl, Nat.le_of_ble_eq_true rfl⟩) (mp_preS I _) rfl rfl hl.1 rfl (lv_room (Nat.le_of_ble_eq_true rfl)) dM_act_247 ⟨Nat.le_of_ble_eq_true rfl, Nat.le_of_ble_eq_true rfl⟩) I (fun r2 N1 H locs hp I => ?_)
                        obtain ⟨e_429, hp⟩ := hp
                        rw [e_429] at I
                        subst hp
                        refine mp_callv (va_runV (As := [.int (nI xn), .long (lb (sk xn) (hd_ + v))]) (rest := []) ⟨hx, hb, hml, hown, hts⟩ (kM_set l D k M_418 hE hO xn (by omega) (lb (sk xn) (hd_ + v)) _) (cwV 2 hts (bw_V bw_456 bw_458 bs_17 bw_2 bw_459) rfl rfl rfl (by decide +kernel) ⟨Nat.le_of_ble_eq_true rfl, Nat.le_of_ble_eq_true rfl⟩) (mp_preV I h0__M_418 rfl _) rfl rfl hl.1 rfl (lv_room (Nat.le_of_ble_eq_true rfl)) dM_act_250 ⟨Nat.le_of_ble_eq_true rfl, Nat.le_of_ble_eq_true rfl⟩) I (fun N1 H locs hp I => ?_)
                        have hE := hp
                        refine lv_goto (tgt := 308) hx hb dM_act_253 (by decide) ?_
                        refine lv_lload hx hb dM_act_308 (lv_at hl 0 rfl) ?_
                        exact mp_lret hx hb hr hlocks I (Nat.le_of_ble_eq_true rfl) (Nat.le_of_ble_eq_true rfl) dM_act_310 (Or.inl ⟨hg, by rw [hxi, ← hget]; unfold pm; rw [if_neg (show ¬ act.toInt = 1 by omega), if_neg (show ¬ act.toInt = 2 by omega), if_neg (show ¬ act.toInt = 3 by omega), if_pos (show act.toInt = 4 by omega)]; exact ⟨rfl, hE⟩⟩)
                      · refine lv_tableIn (off := 108) (tgt := 256) hx hb dM_act_148 (by rw [show act.toInt = act.toInt from rfl]; omega) (by rw [show act.toInt = act.toInt from rfl]; omega) (by rw [show act.toInt = act.toInt from rfl, c_422]; rfl) (by decide) ?_
                        refine lv_aload_n hx hb dM_act_256 rfl (lv_at hl 3 rfl) ?_
                        refine lv_iload_n hx hb dM_act_257 rfl (lv_at hl 4 rfl) ?_
                        refine lv_iload hx hb dM_act_258 (lv_at hl 2 rfl) ?_
                        refine lv_lload hx hb dM_act_260 (lv_at hl 0 rfl) ?_
                        refine lv_lload_n hx hb dM_act_262 rfl (lv_at hl 6 rfl) ?_
                        refine lv_land hx hb dM_act_263 ?_
                        have hget := hp
                        refine mp_calll (va_runS (As := [.int (nI (sk xn)), .long (hd_ &&& v)]) (rest := [.int (nI xn), .ref mo]) ⟨hx, hb, hml, hown, hts⟩ (kM_as l D k M_418 (sk xn) (hd_ &&& v) (by omega) _) (cwS 2 hts (bw_S bw_447 bw_448 bw_2 bw_449) rfl rfl rfl (by decide +kernel) ⟨Nat.le_of_ble_eq_true rfl, Nat.le_of_ble_eq_true rfl⟩) (mp_preS I _) rfl rfl hl.1 rfl (lv_room (Nat.le_of_ble_eq_true rfl)) dM_act_264 ⟨Nat.le_of_ble_eq_true rfl, Nat.le_of_ble_eq_true rfl⟩) I (fun r2 N1 H locs hp I => ?_)
                        obtain ⟨e_431, hp⟩ := hp
                        rw [e_431] at I
                        subst hp
                        refine mp_callv (va_runV (As := [.int (nI xn), .long (lb (sk xn) (hd_ &&& v))]) (rest := []) ⟨hx, hb, hml, hown, hts⟩ (kM_set l D k M_418 hE hO xn (by omega) (lb (sk xn) (hd_ &&& v)) _) (cwV 2 hts (bw_V bw_456 bw_458 bs_17 bw_2 bw_459) rfl rfl rfl (by decide +kernel) ⟨Nat.le_of_ble_eq_true rfl, Nat.le_of_ble_eq_true rfl⟩) (mp_preV I h0__M_418 rfl _) rfl rfl hl.1 rfl (lv_room (Nat.le_of_ble_eq_true rfl)) dM_act_267 ⟨Nat.le_of_ble_eq_true rfl, Nat.le_of_ble_eq_true rfl⟩) I (fun N1 H locs hp I => ?_)
                        have hE := hp
                        refine lv_goto (tgt := 308) hx hb dM_act_270 (by decide) ?_
                        refine lv_lload hx hb dM_act_308 (lv_at hl 0 rfl) ?_
                        exact mp_lret hx hb hr hlocks I (Nat.le_of_ble_eq_true rfl) (Nat.le_of_ble_eq_true rfl) dM_act_310 (Or.inl ⟨hg, by rw [hxi, ← hget]; unfold pm; rw [if_neg (show ¬ act.toInt = 1 by omega), if_neg (show ¬ act.toInt = 2 by omega), if_neg (show ¬ act.toInt = 3 by omega), if_neg (show ¬ act.toInt = 4 by omega), if_pos (show act.toInt = 5 by omega)]; exact ⟨rfl, hE⟩⟩)
                      · refine lv_tableIn (off := 125) (tgt := 273) hx hb dM_act_148 (by rw [show act.toInt = act.toInt from rfl]; omega) (by rw [show act.toInt = act.toInt from rfl]; omega) (by rw [show act.toInt = act.toInt from rfl, c_422]; rfl) (by decide) ?_
                        refine lv_aload_n hx hb dM_act_273 rfl (lv_at hl 3 rfl) ?_
                        refine lv_iload_n hx hb dM_act_274 rfl (lv_at hl 4 rfl) ?_
                        refine lv_iload hx hb dM_act_275 (lv_at hl 2 rfl) ?_
                        refine lv_lload hx hb dM_act_277 (lv_at hl 0 rfl) ?_
                        refine lv_lload_n hx hb dM_act_279 rfl (lv_at hl 6 rfl) ?_
                        refine lv_lor hx hb dM_act_280 ?_
                        have hget := hp
                        refine mp_calll (va_runS (As := [.int (nI (sk xn)), .long (hd_ ||| v)]) (rest := [.int (nI xn), .ref mo]) ⟨hx, hb, hml, hown, hts⟩ (kM_as l D k M_418 (sk xn) (hd_ ||| v) (by omega) _) (cwS 2 hts (bw_S bw_447 bw_448 bw_2 bw_449) rfl rfl rfl (by decide +kernel) ⟨Nat.le_of_ble_eq_true rfl, Nat.le_of_ble_eq_true rfl⟩) (mp_preS I _) rfl rfl hl.1 rfl (lv_room (Nat.le_of_ble_eq_true rfl)) dM_act_281 ⟨Nat.le_of_ble_eq_true rfl, Nat.le_of_ble_eq_true rfl⟩) I (fun r2 N1 H locs hp I => ?_)
                        obtain ⟨e_433, hp⟩ := hp
                        rw [e_433] at I
                        subst hp
                        refine mp_callv (va_runV (As := [.int (nI xn), .long (lb (sk xn) (hd_ ||| v))]) (rest := []) ⟨hx, hb, hml, hown, hts⟩ (kM_set l D k M_418 hE hO xn (by omega) (lb (sk xn) (hd_ ||| v)) _) (cwV 2 hts (bw_V bw_456 bw_458 bs_17 bw_2 bw_459) rfl rfl rfl (by decide +kernel) ⟨Nat.le_of_ble_eq_true rfl, Nat.le_of_ble_eq_true rfl⟩) (mp_preV I h0__M_418 rfl _) rfl rfl hl.1 rfl (lv_room (Nat.le_of_ble_eq_true rfl)) dM_act_284 ⟨Nat.le_of_ble_eq_true rfl, Nat.le_of_ble_eq_true rfl⟩) I (fun N1 H locs hp I => ?_)
                        have hE := hp
                        refine lv_goto (tgt := 308) hx hb dM_act_287 (by decide) ?_
                        refine lv_lload hx hb dM_act_308 (lv_at hl 0 rfl) ?_
                        exact mp_lret hx hb hr hlocks I (Nat.le_of_ble_eq_true rfl) (Nat.le_of_ble_eq_true rfl) dM_act_310 (Or.inl ⟨hg, by rw [hxi, ← hget]; unfold pm; rw [if_neg (show ¬ act.toInt = 1 by omega), if_neg (show ¬ act.toInt = 2 by omega), if_neg (show ¬ act.toInt = 3 by omega), if_neg (show ¬ act.toInt = 4 by omega), if_neg (show ¬ act.toInt = 5 by omega), if_pos (show act.toInt = 6 by omega)]; exact ⟨rfl, hE⟩⟩)
                      · refine lv_tableOut (tgt := 290) hx hb dM_act_148 (by rw [show act.toInt = act.toInt from rfl]; exact c_422) (by decide) ?_
                        refine lv_aload_n hx hb dM_act_290 rfl (lv_at hl 3 rfl) ?_
                        refine lv_iload_n hx hb dM_act_291 rfl (lv_at hl 4 rfl) ?_
                        refine lv_lload hx hb dM_act_292 (lv_at hl 0 rfl) ?_
                        refine lv_lload_n hx hb dM_act_294 rfl (lv_at hl 6 rfl) ?_
                        have hget := hp
                        refine W.lcmp hx hb dM_act_295 ?_
                        refine lv_if_le (tgt := 304) hx hb dM_act_296 (by decide) (fun c_435 => ?_) (fun c_435 => ?_)
                        all_goals rw [lg_cmp_le] at c_435
                        · refine lv_lload_n hx hb dM_act_304 rfl (lv_at hl 6 rfl) ?_
                          refine mp_callv (va_runV (As := [.int (nI xn), .long v]) (rest := []) ⟨hx, hb, hml, hown, hts⟩ (kM_set l D k M_418 hE hO xn (by omega) v _) (cwV 2 hts (bw_V bw_456 bw_458 bs_17 bw_2 bw_459) rfl rfl rfl (by decide +kernel) ⟨Nat.le_of_ble_eq_true rfl, Nat.le_of_ble_eq_true rfl⟩) (mp_preV I h0__M_418 rfl _) rfl rfl hl.1 rfl (lv_room (Nat.le_of_ble_eq_true rfl)) dM_act_305 ⟨Nat.le_of_ble_eq_true rfl, Nat.le_of_ble_eq_true rfl⟩) I (fun N1 H locs hp I => ?_)
                          have hE := hp
                          refine lv_lload hx hb dM_act_308 (lv_at hl 0 rfl) ?_
                          exact mp_lret hx hb hr hlocks I (Nat.le_of_ble_eq_true rfl) (Nat.le_of_ble_eq_true rfl) dM_act_310 (Or.inl ⟨hg, by rw [hxi, ← hget]; unfold pm; rw [if_neg (show ¬ act.toInt = 1 by omega), if_neg (show ¬ act.toInt = 2 by omega), if_neg (show ¬ act.toInt = 3 by omega), if_neg (show ¬ act.toInt = 4 by omega), if_neg (show ¬ act.toInt = 5 by omega), if_neg (show ¬ act.toInt = 6 by omega), if_pos (show act.toInt = 7 by unfold gact aok at hg; omega), if_neg (Int64.not_lt.mpr c_435)]; exact ⟨rfl, hE⟩⟩)
                        · refine lv_lload hx hb dM_act_299 (lv_at hl 0 rfl) ?_
                          refine lv_goto (tgt := 305) hx hb dM_act_301 (by decide) ?_
                          refine mp_callv (va_runV (As := [.int (nI xn), .long hd_]) (rest := []) ⟨hx, hb, hml, hown, hts⟩ (kM_set l D k M_418 hE hO xn (by omega) hd_ _) (cwV 2 hts (bw_V bw_456 bw_458 bs_17 bw_2 bw_459) rfl rfl rfl (by decide +kernel) ⟨Nat.le_of_ble_eq_true rfl, Nat.le_of_ble_eq_true rfl⟩) (mp_preV I h0__M_418 rfl _) rfl rfl hl.1 rfl (lv_room (Nat.le_of_ble_eq_true rfl)) dM_act_305 ⟨Nat.le_of_ble_eq_true rfl, Nat.le_of_ble_eq_true rfl⟩) I (fun N1 H locs hp I => ?_)
                          have hE := hp
                          refine lv_lload hx hb dM_act_308 (lv_at hl 0 rfl) ?_
                          exact mp_lret hx hb hr hlocks I (Nat.le_of_ble_eq_true rfl) (Nat.le_of_ble_eq_true rfl) dM_act_310 (Or.inl ⟨hg, by rw [hxi, ← hget]; unfold pm; rw [if_neg (show ¬ act.toInt = 1 by omega), if_neg (show ¬ act.toInt = 2 by omega), if_neg (show ¬ act.toInt = 3 by omega), if_neg (show ¬ act.toInt = 4 by omega), if_neg (show ¬ act.toInt = 5 by omega), if_neg (show ¬ act.toInt = 6 by omega), if_pos (show act.toInt = 7 by unfold gact aok at hg; omega), if_pos (Int64.not_le.mp c_435)]; exact ⟨rfl, hE⟩⟩)
                    · refine zz_if_eq (tgt := 116) hx hb (nI_toInt (by decide)) dM_act_109 (by decide) (fun _ => ?_) (fun c_438 => absurd c_438 (by decide))
                      refine lv_iconst (v := nI 0) hx hb dM_act_116 (by decide) ?_
                      refine lv_istore (lv' := [(7, .int (nI 0)), (8, .int (nI (sk xn))), (0, .ref mo), (1, .int (nI xn)), (2, .int act), (3, .long v), (5, .long w)]) hx hb dM_act_117 hl (by decide) rfl (fun ls hl => ?_)
                      refine lv_aload_n hx hb dM_act_119 rfl (lv_at hl 2 rfl) ?_
                      refine lv_iload hx hb dM_act_120 (lv_at hl 0 rfl) ?_
                      refine zz_if_eq (tgt := 129) hx hb (nI_toInt (by decide)) dM_act_122 (by decide) (fun _ => ?_) (fun c_439 => absurd c_439 (by decide))
                      refine lv_iconst (v := nI 1) hx hb dM_act_129 (by decide) ?_
                      refine mp_put (v := .int (nI 1)) (ty := .int) hx hb hts inM tyM okM nmM hown I h0 rfl 17 (by decide) (hts _ bw_348) (fun _ h9 => h9) rfl (by decide +kernel) rfl rfl (Nat.le_of_ble_eq_true rfl) dM_act_130 (fun H locs I => ?_)
                      have I : mp_I D cls5 (tys6 k) s _ s.heap H locs (mp_up M mo (.inr (4, [.ref el, .ref ek, .int (nI ec), .ref bg, .ref sz, .ref kn, .int (nI tc), .ref rw, .int (nI wc), .ref pp, .ref pk, .ref wd, .ref lo, .int (nI sc), .ref kp, .ref ks, .int (nI nc), .int (nI 1)]))) := I
                      have h0_n : mp_up M mo (.inr (4, [.ref el, .ref ek, .int (nI ec), .ref bg, .ref sz, .ref kn, .int (nI tc), .ref rw, .int (nI wc), .ref pp, .ref pk, .ref wd, .ref lo, .int (nI sc), .ref kp, .ref ks, .int (nI nc), .int (nI 1)])) mo = some (.inr (4, [.ref el, .ref ek, .int (nI ec), .ref bg, .ref sz, .ref kn, .int (nI tc), .ref rw, .int (nI wc), .ref pp, .ref pk, .ref wd, .ref lo, .int (nI sc), .ref kp, .ref ks, .int (nI nc), .int (nI 1)])) := mp_up_s _ _ _
                      have hel_n : mp_up M mo (.inr (4, [.ref el, .ref ek, .int (nI ec), .ref bg, .ref sz, .ref kn, .int (nI tc), .ref rw, .int (nI wc), .ref pp, .ref pk, .ref wd, .ref lo, .int (nI sc), .ref kp, .ref ks, .int (nI nc), .int (nI 1)])) el = some (.inl (k 1, 4000, .inr (.inl va))) := (mp_up_n (mp_ne hel h0 (by simp))).trans hel
                      have hek_n : mp_up M mo (.inr (4, [.ref el, .ref ek, .int (nI ec), .ref bg, .ref sz, .ref kn, .int (nI tc), .ref rw, .int (nI wc), .ref pp, .ref pk, .ref wd, .ref lo, .int (nI sc), .ref kp, .ref ks, .int (nI nc), .int (nI 1)])) ek = some (.inl (k 0, 4000, .inl (fun i_ => nI (kd i_)))) := (mp_up_n (mp_ne hek h0 (by simp))).trans hek
                      have hbg_n : mp_up M mo (.inr (4, [.ref el, .ref ek, .int (nI ec), .ref bg, .ref sz, .ref kn, .int (nI tc), .ref rw, .int (nI wc), .ref pp, .ref pk, .ref wd, .ref lo, .int (nI sc), .ref kp, .ref ks, .int (nI nc), .int (nI 1)])) bg = some (.inl (k 0, 300, .inl (fun i_ => nI (tf i_)))) := (mp_up_n (mp_ne hbg h0 (by simp))).trans hbg
                      have hsz_n : mp_up M mo (.inr (4, [.ref el, .ref ek, .int (nI ec), .ref bg, .ref sz, .ref kn, .int (nI tc), .ref rw, .int (nI wc), .ref pp, .ref pk, .ref wd, .ref lo, .int (nI sc), .ref kp, .ref ks, .int (nI nc), .int (nI 1)])) sz = some (.inl (k 0, 300, .inl (fun i_ => nI (tz i_)))) := (mp_up_n (mp_ne hsz h0 (by simp))).trans hsz
                      have hkn_n : mp_up M mo (.inr (4, [.ref el, .ref ek, .int (nI ec), .ref bg, .ref sz, .ref kn, .int (nI tc), .ref rw, .int (nI wc), .ref pp, .ref pk, .ref wd, .ref lo, .int (nI sc), .ref kp, .ref ks, .int (nI nc), .int (nI 1)])) kn = some (.inl (k 0, 300, .inl (fun i_ => nI (tk i_)))) := (mp_up_n (mp_ne hkn h0 (by simp))).trans hkn
                      have hrw_n : mp_up M mo (.inr (4, [.ref el, .ref ek, .int (nI ec), .ref bg, .ref sz, .ref kn, .int (nI tc), .ref rw, .int (nI wc), .ref pp, .ref pk, .ref wd, .ref lo, .int (nI sc), .ref kp, .ref ks, .int (nI nc), .int (nI 1)])) rw = some (.inl (k 0, 12, .inl (fun i_ => nI (wt i_)))) := (mp_up_n (mp_ne hrw h0 (by simp))).trans hrw
                      have hpp_n : mp_up M mo (.inr (4, [.ref el, .ref ek, .int (nI ec), .ref bg, .ref sz, .ref kn, .int (nI tc), .ref rw, .int (nI wc), .ref pp, .ref pk, .ref wd, .ref lo, .int (nI sc), .ref kp, .ref ks, .int (nI nc), .int (nI 1)])) pp = some (.inl (k 0, 100, .inl (fun i_ => nI (sf i_)))) := (mp_up_n (mp_ne hpp h0 (by simp))).trans hpp
                      have hpk_n : mp_up M mo (.inr (4, [.ref el, .ref ek, .int (nI ec), .ref bg, .ref sz, .ref kn, .int (nI tc), .ref rw, .int (nI wc), .ref pp, .ref pk, .ref wd, .ref lo, .int (nI sc), .ref kp, .ref ks, .int (nI nc), .int (nI 1)])) pk = some (.inl (k 0, 100, .inl (fun i_ => nI (sk i_)))) := (mp_up_n (mp_ne hpk h0 (by simp))).trans hpk
                      have hwd_n : mp_up M mo (.inr (4, [.ref el, .ref ek, .int (nI ec), .ref bg, .ref sz, .ref kn, .int (nI tc), .ref rw, .int (nI wc), .ref pp, .ref pk, .ref wd, .ref lo, .int (nI sc), .ref kp, .ref ks, .int (nI nc), .int (nI 1)])) wd = some (.inl (k 0, 100, .inl (fun i_ => nI (sw i_)))) := (mp_up_n (mp_ne hwd h0 (by simp))).trans hwd
                      have hlo_n : mp_up M mo (.inr (4, [.ref el, .ref ek, .int (nI ec), .ref bg, .ref sz, .ref kn, .int (nI tc), .ref rw, .int (nI wc), .ref pp, .ref pk, .ref wd, .ref lo, .int (nI sc), .ref kp, .ref ks, .int (nI nc), .int (nI 1)])) lo = some (.inl (k 5, 100, .inl (fun i_ => nI (ml i_)))) := (mp_up_n (mp_ne hlo h0 (by simp))).trans hlo
                      have hkp_n : mp_up M mo (.inr (4, [.ref el, .ref ek, .int (nI ec), .ref bg, .ref sz, .ref kn, .int (nI tc), .ref rw, .int (nI wc), .ref pp, .ref pk, .ref wd, .ref lo, .int (nI sc), .ref kp, .ref ks, .int (nI nc), .int (nI 1)])) kp = some (.inl (k 1, 80000, .inr (.inl mk))) := (mp_up_n (mp_ne hkp h0 (by simp))).trans hkp
                      have hks_n : mp_up M mo (.inr (4, [.ref el, .ref ek, .int (nI ec), .ref bg, .ref sz, .ref kn, .int (nI tc), .ref rw, .int (nI wc), .ref pp, .ref pk, .ref wd, .ref lo, .int (nI sc), .ref kp, .ref ks, .int (nI nc), .int (nI 1)])) ks = some (.inl (k 0, 20, .inl (fun i_ => nI (nn i_)))) := (mp_up_n (mp_ne hks h0 (by simp))).trans hks
                      generalize eM_441 : mp_up M mo (.inr (4, [.ref el, .ref ek, .int (nI ec), .ref bg, .ref sz, .ref kn, .int (nI tc), .ref rw, .int (nI wc), .ref pp, .ref pk, .ref wd, .ref lo, .int (nI sc), .ref kp, .ref ks, .int (nI nc), .int (nI 1)])) = M_440 at I h0_n hel_n hek_n hbg_n hsz_n hkn_n hrw_n hpp_n hpk_n hwd_n hlo_n hkp_n hks_n
                      have h0__M_440 := h0_n
                      have hel__M_440 := hel_n
                      have hek__M_440 := hek_n
                      have hbg__M_440 := hbg_n
                      have hsz__M_440 := hsz_n
                      have hkn__M_440 := hkn_n
                      have hrw__M_440 := hrw_n
                      have hpp__M_440 := hpp_n
                      have hpk__M_440 := hpk_n
                      have hwd__M_440 := hwd_n
                      have hlo__M_440 := hlo_n
                      have hkp__M_440 := hkp_n
                      have hks__M_440 := hks_n
                      clear h0_n hel_n hek_n hbg_n hsz_n hkn_n hrw_n hpp_n hpk_n hwd_n hlo_n hkp_n hks_n
                      have hE := hE.cnt ec tc wc sc nc 1
                      rw [eM_441] at hE
                      refine lv_iload hx hb dM_act_133 (lv_at hl 0 rfl) ?_
                      refine zz_if_ne (tgt := 140) hx hb (nI_toInt (by decide)) dM_act_135 (by decide) (fun c_442 => absurd c_442 (by decide)) (fun _ => ?_)
                      refine lv_lconst (v := 0) hx hb dM_act_138 (by decide) ?_
                      exact mp_lret hx hb hr hlocks I (Nat.le_of_ble_eq_true rfl) (Nat.le_of_ble_eq_true rfl) dM_act_139 (Or.inr ⟨by intro hg; obtain ⟨g1, g2, g3, g4, g5⟩ := hg; rw [hxi] at g3 g4 g5; unfold aok at g3; first | omega | exact p4 (g4 (by omega)) | exact p5 (g5 (by omega)), rfl, hE⟩)
                · refine lv_aload_n hx hb dM_act_86 rfl (lv_at hl 2 rfl) ?_
                  refine lv_iload hx hb dM_act_87 (lv_at hl 1 rfl) ?_
                  refine lv_lload_n hx hb dM_act_89 rfl (lv_at hl 5 rfl) ?_
                  refine mp_calli (va_runV (As := [.int (nI (sk xn)), .long v]) (rest := []) ⟨hx, hb, hml, hown, hts⟩ (kM_isValue l D k M hE hO (sk xn) v (by omega) _) (cwV 2 hts (bw_V bw_443 bw_445 bs_15 bw_2 bw_446) rfl rfl rfl (by decide +kernel) ⟨Nat.le_of_ble_eq_true rfl, Nat.le_of_ble_eq_true rfl⟩) (mp_preV I h0 rfl _) rfl rfl hl.1 rfl (lv_room (Nat.le_of_ble_eq_true rfl)) dM_act_90 ⟨Nat.le_of_ble_eq_true rfl, Nat.le_of_ble_eq_true rfl⟩) I (fun r_443 N_444 H locs hp I => ?_)
                  obtain ⟨e_445, hp⟩ := hp
                  rw [e_445] at I
                  rcases hp with ⟨p4, rfl⟩ | ⟨p4, rfl⟩
                  · refine zz_if_eq (tgt := 116) hx hb (nI_toInt (by decide)) dM_act_93 (by decide) (fun c_446 => absurd c_446 (by decide)) (fun _ => ?_)
                    refine lv_iload_n hx hb dM_act_96 rfl (lv_at hl 4 rfl) ?_
                    refine lv_iconst (v := nI 3) hx hb dM_act_97 (by decide) ?_
                    refine zz_icmp_ne (tgt := 112) hx hb rfl (nI_toInt (by decide)) dM_act_98 (by decide) (fun c_447 => ?_) (fun c_447 => ?_)
                    · refine lv_iconst (v := nI 1) hx hb dM_act_112 (by decide) ?_
                      refine lv_goto (tgt := 117) hx hb dM_act_113 (by decide) ?_
                      refine lv_istore (lv' := [(7, .int (nI 1)), (8, .int (nI (sk xn))), (0, .ref mo), (1, .int (nI xn)), (2, .int act), (3, .long v), (5, .long w)]) hx hb dM_act_117 hl (by decide) rfl (fun ls hl => ?_)
                      refine lv_aload_n hx hb dM_act_119 rfl (lv_at hl 2 rfl) ?_
                      refine lv_iload hx hb dM_act_120 (lv_at hl 0 rfl) ?_
                      refine zz_if_eq (tgt := 129) hx hb (nI_toInt (by decide)) dM_act_122 (by decide) (fun c_448 => absurd c_448 (by decide)) (fun _ => ?_)
                      refine lv_iconst (v := nI 0) hx hb dM_act_125 (by decide) ?_
                      refine lv_goto (tgt := 130) hx hb dM_act_126 (by decide) ?_
                      refine mp_put (v := .int (nI 0)) (ty := .int) hx hb hts inM tyM okM nmM hown I h0 rfl 17 (by decide) (hts _ bw_348) (fun _ h9 => h9) rfl (by decide +kernel) rfl rfl (Nat.le_of_ble_eq_true rfl) dM_act_130 (fun H locs I => ?_)
                      have I : mp_I D cls5 (tys6 k) s _ s.heap H locs (mp_up M mo (.inr (4, [.ref el, .ref ek, .int (nI ec), .ref bg, .ref sz, .ref kn, .int (nI tc), .ref rw, .int (nI wc), .ref pp, .ref pk, .ref wd, .ref lo, .int (nI sc), .ref kp, .ref ks, .int (nI nc), .int (nI 0)]))) := I
                      have h0_n : mp_up M mo (.inr (4, [.ref el, .ref ek, .int (nI ec), .ref bg, .ref sz, .ref kn, .int (nI tc), .ref rw, .int (nI wc), .ref pp, .ref pk, .ref wd, .ref lo, .int (nI sc), .ref kp, .ref ks, .int (nI nc), .int (nI 0)])) mo = some (.inr (4, [.ref el, .ref ek, .int (nI ec), .ref bg, .ref sz, .ref kn, .int (nI tc), .ref rw, .int (nI wc), .ref pp, .ref pk, .ref wd, .ref lo, .int (nI sc), .ref kp, .ref ks, .int (nI nc), .int (nI 0)])) := mp_up_s _ _ _
                      have hel_n : mp_up M mo (.inr (4, [.ref el, .ref ek, .int (nI ec), .ref bg, .ref sz, .ref kn, .int (nI tc), .ref rw, .int (nI wc), .ref pp, .ref pk, .ref wd, .ref lo, .int (nI sc), .ref kp, .ref ks, .int (nI nc), .int (nI 0)])) el = some (.inl (k 1, 4000, .inr (.inl va))) := (mp_up_n (mp_ne hel h0 (by simp))).trans hel
                      have hek_n : mp_up M mo (.inr (4, [.ref el, .ref ek, .int (nI ec), .ref bg, .ref sz, .ref kn, .int (nI tc), .ref rw, .int (nI wc), .ref pp, .ref pk, .ref wd, .ref lo, .int (nI sc), .ref kp, .ref ks, .int (nI nc), .int (nI 0)])) ek = some (.inl (k 0, 4000, .inl (fun i_ => nI (kd i_)))) := (mp_up_n (mp_ne hek h0 (by simp))).trans hek
                      have hbg_n : mp_up M mo (.inr (4, [.ref el, .ref ek, .int (nI ec), .ref bg, .ref sz, .ref kn, .int (nI tc), .ref rw, .int (nI wc), .ref pp, .ref pk, .ref wd, .ref lo, .int (nI sc), .ref kp, .ref ks, .int (nI nc), .int (nI 0)])) bg = some (.inl (k 0, 300, .inl (fun i_ => nI (tf i_)))) := (mp_up_n (mp_ne hbg h0 (by simp))).trans hbg
                      have hsz_n : mp_up M mo (.inr (4, [.ref el, .ref ek, .int (nI ec), .ref bg, .ref sz, .ref kn, .int (nI tc), .ref rw, .int (nI wc), .ref pp, .ref pk, .ref wd, .ref lo, .int (nI sc), .ref kp, .ref ks, .int (nI nc), .int (nI 0)])) sz = some (.inl (k 0, 300, .inl (fun i_ => nI (tz i_)))) := (mp_up_n (mp_ne hsz h0 (by simp))).trans hsz
                      have hkn_n : mp_up M mo (.inr (4, [.ref el, .ref ek, .int (nI ec), .ref bg, .ref sz, .ref kn, .int (nI tc), .ref rw, .int (nI wc), .ref pp, .ref pk, .ref wd, .ref lo, .int (nI sc), .ref kp, .ref ks, .int (nI nc), .int (nI 0)])) kn = some (.inl (k 0, 300, .inl (fun i_ => nI (tk i_)))) := (mp_up_n (mp_ne hkn h0 (by simp))).trans hkn
                      have hrw_n : mp_up M mo (.inr (4, [.ref el, .ref ek, .int (nI ec), .ref bg, .ref sz, .ref kn, .int (nI tc), .ref rw, .int (nI wc), .ref pp, .ref pk, .ref wd, .ref lo, .int (nI sc), .ref kp, .ref ks, .int (nI nc), .int (nI 0)])) rw = some (.inl (k 0, 12, .inl (fun i_ => nI (wt i_)))) := (mp_up_n (mp_ne hrw h0 (by simp))).trans hrw
                      have hpp_n : mp_up M mo (.inr (4, [.ref el, .ref ek, .int (nI ec), .ref bg, .ref sz, .ref kn, .int (nI tc), .ref rw, .int (nI wc), .ref pp, .ref pk, .ref wd, .ref lo, .int (nI sc), .ref kp, .ref ks, .int (nI nc), .int (nI 0)])) pp = some (.inl (k 0, 100, .inl (fun i_ => nI (sf i_)))) := (mp_up_n (mp_ne hpp h0 (by simp))).trans hpp
                      have hpk_n : mp_up M mo (.inr (4, [.ref el, .ref ek, .int (nI ec), .ref bg, .ref sz, .ref kn, .int (nI tc), .ref rw, .int (nI wc), .ref pp, .ref pk, .ref wd, .ref lo, .int (nI sc), .ref kp, .ref ks, .int (nI nc), .int (nI 0)])) pk = some (.inl (k 0, 100, .inl (fun i_ => nI (sk i_)))) := (mp_up_n (mp_ne hpk h0 (by simp))).trans hpk
                      have hwd_n : mp_up M mo (.inr (4, [.ref el, .ref ek, .int (nI ec), .ref bg, .ref sz, .ref kn, .int (nI tc), .ref rw, .int (nI wc), .ref pp, .ref pk, .ref wd, .ref lo, .int (nI sc), .ref kp, .ref ks, .int (nI nc), .int (nI 0)])) wd = some (.inl (k 0, 100, .inl (fun i_ => nI (sw i_)))) := (mp_up_n (mp_ne hwd h0 (by simp))).trans hwd
                      have hlo_n : mp_up M mo (.inr (4, [.ref el, .ref ek, .int (nI ec), .ref bg, .ref sz, .ref kn, .int (nI tc), .ref rw, .int (nI wc), .ref pp, .ref pk, .ref wd, .ref lo, .int (nI sc), .ref kp, .ref ks, .int (nI nc), .int (nI 0)])) lo = some (.inl (k 5, 100, .inl (fun i_ => nI (ml i_)))) := (mp_up_n (mp_ne hlo h0 (by simp))).trans hlo
                      have hkp_n : mp_up M mo (.inr (4, [.ref el, .ref ek, .int (nI ec), .ref bg, .ref sz, .ref kn, .int (nI tc), .ref rw, .int (nI wc), .ref pp, .ref pk, .ref wd, .ref lo, .int (nI sc), .ref kp, .ref ks, .int (nI nc), .int (nI 0)])) kp = some (.inl (k 1, 80000, .inr (.inl mk))) := (mp_up_n (mp_ne hkp h0 (by simp))).trans hkp
                      have hks_n : mp_up M mo (.inr (4, [.ref el, .ref ek, .int (nI ec), .ref bg, .ref sz, .ref kn, .int (nI tc), .ref rw, .int (nI wc), .ref pp, .ref pk, .ref wd, .ref lo, .int (nI sc), .ref kp, .ref ks, .int (nI nc), .int (nI 0)])) ks = some (.inl (k 0, 20, .inl (fun i_ => nI (nn i_)))) := (mp_up_n (mp_ne hks h0 (by simp))).trans hks
                      generalize eM_450 : mp_up M mo (.inr (4, [.ref el, .ref ek, .int (nI ec), .ref bg, .ref sz, .ref kn, .int (nI tc), .ref rw, .int (nI wc), .ref pp, .ref pk, .ref wd, .ref lo, .int (nI sc), .ref kp, .ref ks, .int (nI nc), .int (nI 0)])) = M_449 at I h0_n hel_n hek_n hbg_n hsz_n hkn_n hrw_n hpp_n hpk_n hwd_n hlo_n hkp_n hks_n
                      have h0__M_449 := h0_n
                      have hel__M_449 := hel_n
                      have hek__M_449 := hek_n
                      have hbg__M_449 := hbg_n
                      have hsz__M_449 := hsz_n
                      have hkn__M_449 := hkn_n
                      have hrw__M_449 := hrw_n
                      have hpp__M_449 := hpp_n
                      have hpk__M_449 := hpk_n
                      have hwd__M_449 := hwd_n
                      have hlo__M_449 := hlo_n
                      have hkp__M_449 := hkp_n
                      have hks__M_449 := hks_n
                      clear h0_n hel_n hek_n hbg_n hsz_n hkn_n hrw_n hpp_n hpk_n hwd_n hlo_n hkp_n hks_n
                      have hE := hE.cnt ec tc wc sc nc 0
                      rw [eM_450] at hE
                      refine lv_iload hx hb dM_act_133 (lv_at hl 0 rfl) ?_
                      refine zz_if_ne (tgt := 140) hx hb (nI_toInt (by decide)) dM_act_135 (by decide) (fun _ => ?_) (fun c_451 => absurd c_451 (by decide))
                      refine lv_aload_n hx hb dM_act_140 rfl (lv_at hl 2 rfl) ?_
                      refine lv_iload_n hx hb dM_act_141 rfl (lv_at hl 3 rfl) ?_
                      have hg : gact tc sc sk (nI xn).toInt act.toInt v w := by unfold gact; rw [hxi]; exact ⟨by omega, by omega, by unfold aok; omega, fun h => by first | exact p4 | (exfalso; omega), fun h => by first | exact p5 | (exfalso; omega)⟩
                      refine mp_calll (va_runV (As := [.int (nI xn)]) (rest := []) ⟨hx, hb, hml, hown, hts⟩ (kM_get l D k M_449 hE hO xn (by omega) _) (cwV 1 hts (bw_V bw_451 bw_453 bs_16 bw_2 bw_454) rfl rfl rfl (by decide +kernel) ⟨Nat.le_of_ble_eq_true rfl, Nat.le_of_ble_eq_true rfl⟩) (mp_preV I h0__M_449 rfl _) rfl rfl hl.1 rfl (lv_room (Nat.le_of_ble_eq_true rfl)) dM_act_142 ⟨Nat.le_of_ble_eq_true rfl, Nat.le_of_ble_eq_true rfl⟩) I (fun hd_ N1 H locs hp I => ?_)
                      obtain ⟨e_452, hp⟩ := hp
                      rw [e_452] at I
                      refine lv_lstore (lv' := [(9, .long hd_), (7, .int (nI 1)), (8, .int (nI (sk xn))), (0, .ref mo), (1, .int (nI xn)), (2, .int act), (3, .long v), (5, .long w)]) hx hb dM_act_145 hl (by decide) rfl (fun ls hl => ?_)
                      refine lv_iload_n hx hb dM_act_147 rfl (lv_at hl 5 rfl) ?_
                      have c_453 : act.toInt = 0 ∨ act.toInt = 1 ∨ act.toInt = 2 ∨ act.toInt = 3 ∨ act.toInt = 4 ∨ act.toInt = 5 ∨ act.toInt = 6 ∨ (act.toInt < 0 ∨ 6 < act.toInt) := by omega
                      rcases c_453 with c_453 | c_453 | c_453 | c_453 | c_453 | c_453 | c_453 | c_453
                      · refine lv_tableIn (off := 44) (tgt := 192) hx hb dM_act_148 (by rw [show act.toInt = act.toInt from rfl]; omega) (by rw [show act.toInt = act.toInt from rfl]; omega) (by rw [show act.toInt = act.toInt from rfl, c_453]; rfl) (by decide) ?_
                        refine lv_lload hx hb dM_act_192 (lv_at hl 0 rfl) ?_
                        exact mp_lret hx hb hr hlocks I (Nat.le_of_ble_eq_true rfl) (Nat.le_of_ble_eq_true rfl) dM_act_194 (Or.inl ⟨hg, by rw [hxi, ← hp]; unfold pm; rw [if_neg (show ¬ act.toInt = 1 by omega), if_neg (show ¬ act.toInt = 2 by omega), if_neg (show ¬ act.toInt = 3 by omega), if_neg (show ¬ act.toInt = 4 by omega), if_neg (show ¬ act.toInt = 5 by omega), if_neg (show ¬ act.toInt = 6 by omega), if_neg (show ¬ act.toInt = 7 by omega)]; exact ⟨rfl, hE⟩⟩)
                      · refine lv_tableIn (off := 47) (tgt := 195) hx hb dM_act_148 (by rw [show act.toInt = act.toInt from rfl]; omega) (by rw [show act.toInt = act.toInt from rfl]; omega) (by rw [show act.toInt = act.toInt from rfl, c_453]; rfl) (by decide) ?_
                        refine lv_aload_n hx hb dM_act_195 rfl (lv_at hl 3 rfl) ?_
                        refine lv_iload_n hx hb dM_act_196 rfl (lv_at hl 4 rfl) ?_
                        refine lv_lload_n hx hb dM_act_197 rfl (lv_at hl 6 rfl) ?_
                        have hget := hp
                        refine mp_callv (va_runV (As := [.int (nI xn), .long v]) (rest := []) ⟨hx, hb, hml, hown, hts⟩ (kM_set l D k M_449 hE hO xn (by omega) v _) (cwV 2 hts (bw_V bw_456 bw_458 bs_17 bw_2 bw_459) rfl rfl rfl (by decide +kernel) ⟨Nat.le_of_ble_eq_true rfl, Nat.le_of_ble_eq_true rfl⟩) (mp_preV I h0__M_449 rfl _) rfl rfl hl.1 rfl (lv_room (Nat.le_of_ble_eq_true rfl)) dM_act_198 ⟨Nat.le_of_ble_eq_true rfl, Nat.le_of_ble_eq_true rfl⟩) I (fun N1 H locs hp I => ?_)
                        have hE := hp
                        refine lv_lconst (v := 0) hx hb dM_act_201 (by decide) ?_
                        exact mp_lret hx hb hr hlocks I (Nat.le_of_ble_eq_true rfl) (Nat.le_of_ble_eq_true rfl) dM_act_202 (Or.inl ⟨hg, by rw [hxi, ← hget]; unfold pm; rw [if_pos (show act.toInt = 1 by omega)]; exact ⟨rfl, hE⟩⟩)
                      · refine lv_tableIn (off := 55) (tgt := 203) hx hb dM_act_148 (by rw [show act.toInt = act.toInt from rfl]; omega) (by rw [show act.toInt = act.toInt from rfl]; omega) (by rw [show act.toInt = act.toInt from rfl, c_453]; rfl) (by decide) ?_
                        refine lv_aload_n hx hb dM_act_203 rfl (lv_at hl 3 rfl) ?_
                        refine lv_iload_n hx hb dM_act_204 rfl (lv_at hl 4 rfl) ?_
                        refine lv_lload_n hx hb dM_act_205 rfl (lv_at hl 6 rfl) ?_
                        have hget := hp
                        refine mp_callv (va_runV (As := [.int (nI xn), .long v]) (rest := []) ⟨hx, hb, hml, hown, hts⟩ (kM_set l D k M_449 hE hO xn (by omega) v _) (cwV 2 hts (bw_V bw_456 bw_458 bs_17 bw_2 bw_459) rfl rfl rfl (by decide +kernel) ⟨Nat.le_of_ble_eq_true rfl, Nat.le_of_ble_eq_true rfl⟩) (mp_preV I h0__M_449 rfl _) rfl rfl hl.1 rfl (lv_room (Nat.le_of_ble_eq_true rfl)) dM_act_206 ⟨Nat.le_of_ble_eq_true rfl, Nat.le_of_ble_eq_true rfl⟩) I (fun N1 H locs hp I => ?_)
                        have hE := hp
                        refine lv_goto (tgt := 308) hx hb dM_act_209 (by decide) ?_
                        refine lv_lload hx hb dM_act_308 (lv_at hl 0 rfl) ?_
                        exact mp_lret hx hb hr hlocks I (Nat.le_of_ble_eq_true rfl) (Nat.le_of_ble_eq_true rfl) dM_act_310 (Or.inl ⟨hg, by rw [hxi, ← hget]; unfold pm; rw [if_neg (show ¬ act.toInt = 1 by omega), if_pos (show act.toInt = 2 by omega)]; exact ⟨rfl, hE⟩⟩)
                      · refine lv_tableIn (off := 64) (tgt := 212) hx hb dM_act_148 (by rw [show act.toInt = act.toInt from rfl]; omega) (by rw [show act.toInt = act.toInt from rfl]; omega) (by rw [show act.toInt = act.toInt from rfl, c_453]; rfl) (by decide) ?_
                        refine lv_lload hx hb dM_act_212 (lv_at hl 0 rfl) ?_
                        refine lv_lload_n hx hb dM_act_214 rfl (lv_at hl 6 rfl) ?_
                        have hget := hp
                        refine W.lcmp hx hb dM_act_215 ?_
                        refine lv_if_ne (tgt := 226) hx hb dM_act_216 (by decide) (fun c_456 => ?_) (fun c_456 => ?_)
                        all_goals rw [lg_cmp_eq] at c_456
                        · refine lv_lload hx hb dM_act_226 (lv_at hl 0 rfl) ?_
                          refine lv_lload_n hx hb dM_act_228 rfl (lv_at hl 6 rfl) ?_
                          refine W.lcmp hx hb dM_act_229 ?_
                          refine lv_if_ne (tgt := 237) hx hb dM_act_230 (by decide) (fun c_457 => ?_) (fun c_457 => ?_)
                          all_goals rw [lg_cmp_eq] at c_457
                          · refine lv_lconst (v := 0) hx hb dM_act_237 (by decide) ?_
                            exact mp_lret hx hb hr hlocks I (Nat.le_of_ble_eq_true rfl) (Nat.le_of_ble_eq_true rfl) dM_act_238 (Or.inl ⟨hg, by rw [hxi, ← hget]; unfold pm; rw [if_neg (show ¬ act.toInt = 1 by omega), if_neg (show ¬ act.toInt = 2 by omega), if_pos (show act.toInt = 3 by omega), if_neg c_456]; exact ⟨rfl, hE⟩⟩)
                          · exact absurd c_457 c_456
                        · refine lv_aload_n hx hb dM_act_219 rfl (lv_at hl 3 rfl) ?_
                          refine lv_iload_n hx hb dM_act_220 rfl (lv_at hl 4 rfl) ?_
                          refine lv_lload hx hb dM_act_221 (lv_at hl 7 rfl) ?_
                          refine mp_callv (va_runV (As := [.int (nI xn), .long w]) (rest := []) ⟨hx, hb, hml, hown, hts⟩ (kM_set l D k M_449 hE hO xn (by omega) w _) (cwV 2 hts (bw_V bw_456 bw_458 bs_17 bw_2 bw_459) rfl rfl rfl (by decide +kernel) ⟨Nat.le_of_ble_eq_true rfl, Nat.le_of_ble_eq_true rfl⟩) (mp_preV I h0__M_449 rfl _) rfl rfl hl.1 rfl (lv_room (Nat.le_of_ble_eq_true rfl)) dM_act_223 ⟨Nat.le_of_ble_eq_true rfl, Nat.le_of_ble_eq_true rfl⟩) I (fun N1 H locs hp I => ?_)
                          have hE := hp
                          refine lv_lload hx hb dM_act_226 (lv_at hl 0 rfl) ?_
                          refine lv_lload_n hx hb dM_act_228 rfl (lv_at hl 6 rfl) ?_
                          refine W.lcmp hx hb dM_act_229 ?_
                          refine lv_if_ne (tgt := 237) hx hb dM_act_230 (by decide) (fun c_459 => ?_) (fun c_459 => ?_)
                          all_goals rw [lg_cmp_eq] at c_459
                          · exact absurd c_456 c_459
                          · refine lv_lconst (v := 1) hx hb dM_act_233 (by decide) ?_
                            refine lv_goto (tgt := 238) hx hb dM_act_234 (by decide) ?_
                            exact mp_lret hx hb hr hlocks I (Nat.le_of_ble_eq_true rfl) (Nat.le_of_ble_eq_true rfl) dM_act_238 (Or.inl ⟨hg, by rw [hxi, ← hget]; unfold pm; rw [if_neg (show ¬ act.toInt = 1 by omega), if_neg (show ¬ act.toInt = 2 by omega), if_pos (show act.toInt = 3 by omega), if_pos c_456]; exact ⟨rfl, hE⟩⟩)
                      · refine lv_tableIn (off := 91) (tgt := 239) hx hb dM_act_148 (by rw [show act.toInt = act.toInt from rfl]; omega) (by rw [show act.toInt = act.toInt from rfl]; omega) (by rw [show act.toInt = act.toInt from rfl, c_453]; rfl) (by decide) ?_
                        refine lv_aload_n hx hb dM_act_239 rfl (lv_at hl 3 rfl) ?_
                        refine lv_iload_n hx hb dM_act_240 rfl (lv_at hl 4 rfl) ?_
                        refine lv_iload hx hb dM_act_241 (lv_at hl 2 rfl) ?_
                        refine lv_lload hx hb dM_act_243 (lv_at hl 0 rfl) ?_
                        refine lv_lload_n hx hb dM_act_245 rfl (lv_at hl 6 rfl) ?_
                        refine lv_ladd hx hb dM_act_246 ?_
                        have hget := hp
                        refine mp_calll (va_runS (As := [.int (nI (sk xn)), .long (hd_ + v)]) (rest := [.int (nI xn), .ref mo]) ⟨hx, hb, hml, hown, hts⟩ (kM_as l D k M_449 (sk xn) (hd_ + v) (by omega) _) (cwS 2 hts (bw_S bw_447 bw_448 bw_2 bw_449) rfl rfl rfl (by decide +kernel) ⟨Nat.le_of_ble_eq_true rfl, Nat.le_of_ble_eq_true rfl⟩) (mp_preS I _) rfl rfl hl.1 rfl (lv_room (Nat.le_of_ble_eq_true rfl)) dM_act_247 ⟨Nat.le_of_ble_eq_true rfl, Nat.le_of_ble_eq_true rfl⟩) I (fun r2 N1 H locs hp I => ?_)
                        obtain ⟨e_460, hp⟩ := hp
                        rw [e_460] at I
                        subst hp
                        refine mp_callv (va_runV (As := [.int (nI xn), .long (lb (sk xn) (hd_ + v))]) (rest := []) ⟨hx, hb, hml, hown, hts⟩ (kM_set l D k M_449 hE hO xn (by omega) (lb (sk xn) (hd_ + v)) _) (cwV 2 hts (bw_V bw_456 bw_458 bs_17 bw_2 bw_459) rfl rfl rfl (by decide +kernel) ⟨Nat.le_of_ble_eq_true rfl, Nat.le_of_ble_eq_true rfl⟩) (mp_preV I h0__M_449 rfl _) rfl rfl hl.1 rfl (lv_room (Nat.le_of_ble_eq_true rfl)) dM_act_250 ⟨Nat.le_of_ble_eq_true rfl, Nat.le_of_ble_eq_true rfl⟩) I (fun N1 H locs hp I => ?_)
                        have hE := hp
                        refine lv_goto (tgt := 308) hx hb dM_act_253 (by decide) ?_
                        refine lv_lload hx hb dM_act_308 (lv_at hl 0 rfl) ?_
                        exact mp_lret hx hb hr hlocks I (Nat.le_of_ble_eq_true rfl) (Nat.le_of_ble_eq_true rfl) dM_act_310 (Or.inl ⟨hg, by rw [hxi, ← hget]; unfold pm; rw [if_neg (show ¬ act.toInt = 1 by omega), if_neg (show ¬ act.toInt = 2 by omega), if_neg (show ¬ act.toInt = 3 by omega), if_pos (show act.toInt = 4 by omega)]; exact ⟨rfl, hE⟩⟩)
                      · refine lv_tableIn (off := 108) (tgt := 256) hx hb dM_act_148 (by rw [show act.toInt = act.toInt from rfl]; omega) (by rw [show act.toInt = act.toInt from rfl]; omega) (by rw [show act.toInt = act.toInt from rfl, c_453]; rfl) (by decide) ?_
                        refine lv_aload_n hx hb dM_act_256 rfl (lv_at hl 3 rfl) ?_
                        refine lv_iload_n hx hb dM_act_257 rfl (lv_at hl 4 rfl) ?_
                        refine lv_iload hx hb dM_act_258 (lv_at hl 2 rfl) ?_
                        refine lv_lload hx hb dM_act_260 (lv_at hl 0 rfl) ?_
                        refine lv_lload_n hx hb dM_act_262 rfl (lv_at hl 6 rfl) ?_
                        refine lv_land hx hb dM_act_263 ?_
                        have hget := hp
                        refine mp_calll (va_runS (As := [.int (nI (sk xn)), .long (hd_ &&& v)]) (rest := [.int (nI xn), .ref mo]) ⟨hx, hb, hml, hown, hts⟩ (kM_as l D k M_449 (sk xn) (hd_ &&& v) (by omega) _) (cwS 2 hts (bw_S bw_447 bw_448 bw_2 bw_449) rfl rfl rfl (by decide +kernel) ⟨Nat.le_of_ble_eq_true rfl, Nat.le_of_ble_eq_true rfl⟩) (mp_preS I _) rfl rfl hl.1 rfl (lv_room (Nat.le_of_ble_eq_true rfl)) dM_act_264 ⟨Nat.le_of_ble_eq_true rfl, Nat.le_of_ble_eq_true rfl⟩) I (fun r2 N1 H locs hp I => ?_)
                        obtain ⟨e_462, hp⟩ := hp
                        rw [e_462] at I
                        subst hp
                        refine mp_callv (va_runV (As := [.int (nI xn), .long (lb (sk xn) (hd_ &&& v))]) (rest := []) ⟨hx, hb, hml, hown, hts⟩ (kM_set l D k M_449 hE hO xn (by omega) (lb (sk xn) (hd_ &&& v)) _) (cwV 2 hts (bw_V bw_456 bw_458 bs_17 bw_2 bw_459) rfl rfl rfl (by decide +kernel) ⟨Nat.le_of_ble_eq_true rfl, Nat.le_of_ble_eq_true rfl⟩) (mp_preV I h0__M_449 rfl _) rfl rfl hl.1 rfl (lv_room (Nat.le_of_ble_eq_true rfl)) dM_act_267 ⟨Nat.le_of_ble_eq_true rfl, Nat.le_of_ble_eq_true rfl⟩) I (fun N1 H locs hp I => ?_)
                        have hE := hp
                        refine lv_goto (tgt := 308) hx hb dM_act_270 (by decide) ?_
                        refine lv_lload hx hb dM_act_308 (lv_at hl 0 rfl) ?_
                        exact mp_lret hx hb hr hlocks I (Nat.le_of_ble_eq_true rfl) (Nat.le_of_ble_eq_true rfl) dM_act_310 (Or.inl ⟨hg, by rw [hxi, ← hget]; unfold pm; rw [if_neg (show ¬ act.toInt = 1 by omega), if_neg (show ¬ act.toInt = 2 by omega), if_neg (show ¬ act.toInt = 3 by omega), if_neg (show ¬ act.toInt = 4 by omega), if_pos (show act.toInt = 5 by omega)]; exact ⟨rfl, hE⟩⟩)
                      · refine lv_tableIn (off := 125) (tgt := 273) hx hb dM_act_148 (by rw [show act.toInt = act.toInt from rfl]; omega) (by rw [show act.toInt = act.toInt from rfl]; omega) (by rw [show act.toInt = act.toInt from rfl, c_453]; rfl) (by decide) ?_
                        refine lv_aload_n hx hb dM_act_273 rfl (lv_at hl 3 rfl) ?_
                        refine lv_iload_n hx hb dM_act_274 rfl (lv_at hl 4 rfl) ?_
                        refine lv_iload hx hb dM_act_275 (lv_at hl 2 rfl) ?_
                        refine lv_lload hx hb dM_act_277 (lv_at hl 0 rfl) ?_
                        refine lv_lload_n hx hb dM_act_279 rfl (lv_at hl 6 rfl) ?_
                        refine lv_lor hx hb dM_act_280 ?_
                        have hget := hp
                        refine mp_calll (va_runS (As := [.int (nI (sk xn)), .long (hd_ ||| v)]) (rest := [.int (nI xn), .ref mo]) ⟨hx, hb, hml, hown, hts⟩ (kM_as l D k M_449 (sk xn) (hd_ ||| v) (by omega) _) (cwS 2 hts (bw_S bw_447 bw_448 bw_2 bw_449) rfl rfl rfl (by decide +kernel) ⟨Nat.le_of_ble_eq_true rfl, Nat.le_of_ble_eq_true rfl⟩) (mp_preS I _) rfl rfl hl.1 rfl (lv_room (Nat.le_of_ble_eq_true rfl)) dM_act_281 ⟨Nat.le_of_ble_eq_true rfl, Nat.le_of_ble_eq_true rfl⟩) I (fun r2 N1 H locs hp I => ?_)
                        obtain ⟨e_464, hp⟩ := hp
                        rw [e_464] at I
                        subst hp
                        refine mp_callv (va_runV (As := [.int (nI xn), .long (lb (sk xn) (hd_ ||| v))]) (rest := []) ⟨hx, hb, hml, hown, hts⟩ (kM_set l D k M_449 hE hO xn (by omega) (lb (sk xn) (hd_ ||| v)) _) (cwV 2 hts (bw_V bw_456 bw_458 bs_17 bw_2 bw_459) rfl rfl rfl (by decide +kernel) ⟨Nat.le_of_ble_eq_true rfl, Nat.le_of_ble_eq_true rfl⟩) (mp_preV I h0__M_449 rfl _) rfl rfl hl.1 rfl (lv_room (Nat.le_of_ble_eq_true rfl)) dM_act_284 ⟨Nat.le_of_ble_eq_true rfl, Nat.le_of_ble_eq_true rfl⟩) I (fun N1 H locs hp I => ?_)
                        have hE := hp
                        refine lv_goto (tgt := 308) hx hb dM_act_287 (by decide) ?_
                        refine lv_lload hx hb dM_act_308 (lv_at hl 0 rfl) ?_
                        exact mp_lret hx hb hr hlocks I (Nat.le_of_ble_eq_true rfl) (Nat.le_of_ble_eq_true rfl) dM_act_310 (Or.inl ⟨hg, by rw [hxi, ← hget]; unfold pm; rw [if_neg (show ¬ act.toInt = 1 by omega), if_neg (show ¬ act.toInt = 2 by omega), if_neg (show ¬ act.toInt = 3 by omega), if_neg (show ¬ act.toInt = 4 by omega), if_neg (show ¬ act.toInt = 5 by omega), if_pos (show act.toInt = 6 by omega)]; exact ⟨rfl, hE⟩⟩)
                      · refine lv_tableOut (tgt := 290) hx hb dM_act_148 (by rw [show act.toInt = act.toInt from rfl]; exact c_453) (by decide) ?_
                        refine lv_aload_n hx hb dM_act_290 rfl (lv_at hl 3 rfl) ?_
                        refine lv_iload_n hx hb dM_act_291 rfl (lv_at hl 4 rfl) ?_
                        refine lv_lload hx hb dM_act_292 (lv_at hl 0 rfl) ?_
                        refine lv_lload_n hx hb dM_act_294 rfl (lv_at hl 6 rfl) ?_
                        have hget := hp
                        refine W.lcmp hx hb dM_act_295 ?_
                        refine lv_if_le (tgt := 304) hx hb dM_act_296 (by decide) (fun c_466 => ?_) (fun c_466 => ?_)
                        all_goals rw [lg_cmp_le] at c_466
                        · refine lv_lload_n hx hb dM_act_304 rfl (lv_at hl 6 rfl) ?_
                          refine mp_callv (va_runV (As := [.int (nI xn), .long v]) (rest := []) ⟨hx, hb, hml, hown, hts⟩ (kM_set l D k M_449 hE hO xn (by omega) v _) (cwV 2 hts (bw_V bw_456 bw_458 bs_17 bw_2 bw_459) rfl rfl rfl (by decide +kernel) ⟨Nat.le_of_ble_eq_true rfl, Nat.le_of_ble_eq_true rfl⟩) (mp_preV I h0__M_449 rfl _) rfl rfl hl.1 rfl (lv_room (Nat.le_of_ble_eq_true rfl)) dM_act_305 ⟨Nat.le_of_ble_eq_true rfl, Nat.le_of_ble_eq_true rfl⟩) I (fun N1 H locs hp I => ?_)
                          have hE := hp
                          refine lv_lload hx hb dM_act_308 (lv_at hl 0 rfl) ?_
                          exact mp_lret hx hb hr hlocks I (Nat.le_of_ble_eq_true rfl) (Nat.le_of_ble_eq_true rfl) dM_act_310 (Or.inl ⟨hg, by rw [hxi, ← hget]; unfold pm; rw [if_neg (show ¬ act.toInt = 1 by omega), if_neg (show ¬ act.toInt = 2 by omega), if_neg (show ¬ act.toInt = 3 by omega), if_neg (show ¬ act.toInt = 4 by omega), if_neg (show ¬ act.toInt = 5 by omega), if_neg (show ¬ act.toInt = 6 by omega), if_pos (show act.toInt = 7 by unfold gact aok at hg; omega), if_neg (Int64.not_lt.mpr c_466)]; exact ⟨rfl, hE⟩⟩)
                        · refine lv_lload hx hb dM_act_299 (lv_at hl 0 rfl) ?_
                          refine lv_goto (tgt := 305) hx hb dM_act_301 (by decide) ?_
                          refine mp_callv (va_runV (As := [.int (nI xn), .long hd_]) (rest := []) ⟨hx, hb, hml, hown, hts⟩ (kM_set l D k M_449 hE hO xn (by omega) hd_ _) (cwV 2 hts (bw_V bw_456 bw_458 bs_17 bw_2 bw_459) rfl rfl rfl (by decide +kernel) ⟨Nat.le_of_ble_eq_true rfl, Nat.le_of_ble_eq_true rfl⟩) (mp_preV I h0__M_449 rfl _) rfl rfl hl.1 rfl (lv_room (Nat.le_of_ble_eq_true rfl)) dM_act_305 ⟨Nat.le_of_ble_eq_true rfl, Nat.le_of_ble_eq_true rfl⟩) I (fun N1 H locs hp I => ?_)
                          have hE := hp
                          refine lv_lload hx hb dM_act_308 (lv_at hl 0 rfl) ?_
                          exact mp_lret hx hb hr hlocks I (Nat.le_of_ble_eq_true rfl) (Nat.le_of_ble_eq_true rfl) dM_act_310 (Or.inl ⟨hg, by rw [hxi, ← hget]; unfold pm; rw [if_neg (show ¬ act.toInt = 1 by omega), if_neg (show ¬ act.toInt = 2 by omega), if_neg (show ¬ act.toInt = 3 by omega), if_neg (show ¬ act.toInt = 4 by omega), if_neg (show ¬ act.toInt = 5 by omega), if_neg (show ¬ act.toInt = 6 by omega), if_pos (show act.toInt = 7 by unfold gact aok at hg; omega), if_pos (Int64.not_le.mp c_466)]; exact ⟨rfl, hE⟩⟩)
                    · refine lv_aload_n hx hb dM_act_101 rfl (lv_at hl 2 rfl) ?_
                      refine lv_iload hx hb dM_act_102 (lv_at hl 1 rfl) ?_
                      refine lv_lload hx hb dM_act_104 (lv_at hl 6 rfl) ?_
                      refine mp_calli (va_runV (As := [.int (nI (sk xn)), .long w]) (rest := []) ⟨hx, hb, hml, hown, hts⟩ (kM_isValue l D k M hE hO (sk xn) w (by omega) _) (cwV 2 hts (bw_V bw_443 bw_445 bs_15 bw_2 bw_446) rfl rfl rfl (by decide +kernel) ⟨Nat.le_of_ble_eq_true rfl, Nat.le_of_ble_eq_true rfl⟩) (mp_preV I h0 rfl _) rfl rfl hl.1 rfl (lv_room (Nat.le_of_ble_eq_true rfl)) dM_act_106 ⟨Nat.le_of_ble_eq_true rfl, Nat.le_of_ble_eq_true rfl⟩) I (fun r_469 N_470 H locs hp I => ?_)
                      obtain ⟨e_471, hp⟩ := hp
                      rw [e_471] at I
                      rcases hp with ⟨p5, rfl⟩ | ⟨p5, rfl⟩
                      · refine zz_if_eq (tgt := 116) hx hb (nI_toInt (by decide)) dM_act_109 (by decide) (fun c_472 => absurd c_472 (by decide)) (fun _ => ?_)
                        refine lv_iconst (v := nI 1) hx hb dM_act_112 (by decide) ?_
                        refine lv_goto (tgt := 117) hx hb dM_act_113 (by decide) ?_
                        refine lv_istore (lv' := [(7, .int (nI 1)), (8, .int (nI (sk xn))), (0, .ref mo), (1, .int (nI xn)), (2, .int act), (3, .long v), (5, .long w)]) hx hb dM_act_117 hl (by decide) rfl (fun ls hl => ?_)
                        refine lv_aload_n hx hb dM_act_119 rfl (lv_at hl 2 rfl) ?_
                        refine lv_iload hx hb dM_act_120 (lv_at hl 0 rfl) ?_
                        refine zz_if_eq (tgt := 129) hx hb (nI_toInt (by decide)) dM_act_122 (by decide) (fun c_473 => absurd c_473 (by decide)) (fun _ => ?_)
                        refine lv_iconst (v := nI 0) hx hb dM_act_125 (by decide) ?_
                        refine lv_goto (tgt := 130) hx hb dM_act_126 (by decide) ?_
                        refine mp_put (v := .int (nI 0)) (ty := .int) hx hb hts inM tyM okM nmM hown I h0 rfl 17 (by decide) (hts _ bw_348) (fun _ h9 => h9) rfl (by decide +kernel) rfl rfl (Nat.le_of_ble_eq_true rfl) dM_act_130 (fun H locs I => ?_)
                        have I : mp_I D cls5 (tys6 k) s _ s.heap H locs (mp_up M mo (.inr (4, [.ref el, .ref ek, .int (nI ec), .ref bg, .ref sz, .ref kn, .int (nI tc), .ref rw, .int (nI wc), .ref pp, .ref pk, .ref wd, .ref lo, .int (nI sc), .ref kp, .ref ks, .int (nI nc), .int (nI 0)]))) := I
                        have h0_n : mp_up M mo (.inr (4, [.ref el, .ref ek, .int (nI ec), .ref bg, .ref sz, .ref kn, .int (nI tc), .ref rw, .int (nI wc), .ref pp, .ref pk, .ref wd, .ref lo, .int (nI sc), .ref kp, .ref ks, .int (nI nc), .int (nI 0)])) mo = some (.inr (4, [.ref el, .ref ek, .int (nI ec), .ref bg, .ref sz, .ref kn, .int (nI tc), .ref rw, .int (nI wc), .ref pp, .ref pk, .ref wd, .ref lo, .int (nI sc), .ref kp, .ref ks, .int (nI nc), .int (nI 0)])) := mp_up_s _ _ _
                        have hel_n : mp_up M mo (.inr (4, [.ref el, .ref ek, .int (nI ec), .ref bg, .ref sz, .ref kn, .int (nI tc), .ref rw, .int (nI wc), .ref pp, .ref pk, .ref wd, .ref lo, .int (nI sc), .ref kp, .ref ks, .int (nI nc), .int (nI 0)])) el = some (.inl (k 1, 4000, .inr (.inl va))) := (mp_up_n (mp_ne hel h0 (by simp))).trans hel
                        have hek_n : mp_up M mo (.inr (4, [.ref el, .ref ek, .int (nI ec), .ref bg, .ref sz, .ref kn, .int (nI tc), .ref rw, .int (nI wc), .ref pp, .ref pk, .ref wd, .ref lo, .int (nI sc), .ref kp, .ref ks, .int (nI nc), .int (nI 0)])) ek = some (.inl (k 0, 4000, .inl (fun i_ => nI (kd i_)))) := (mp_up_n (mp_ne hek h0 (by simp))).trans hek
                        have hbg_n : mp_up M mo (.inr (4, [.ref el, .ref ek, .int (nI ec), .ref bg, .ref sz, .ref kn, .int (nI tc), .ref rw, .int (nI wc), .ref pp, .ref pk, .ref wd, .ref lo, .int (nI sc), .ref kp, .ref ks, .int (nI nc), .int (nI 0)])) bg = some (.inl (k 0, 300, .inl (fun i_ => nI (tf i_)))) := (mp_up_n (mp_ne hbg h0 (by simp))).trans hbg
                        have hsz_n : mp_up M mo (.inr (4, [.ref el, .ref ek, .int (nI ec), .ref bg, .ref sz, .ref kn, .int (nI tc), .ref rw, .int (nI wc), .ref pp, .ref pk, .ref wd, .ref lo, .int (nI sc), .ref kp, .ref ks, .int (nI nc), .int (nI 0)])) sz = some (.inl (k 0, 300, .inl (fun i_ => nI (tz i_)))) := (mp_up_n (mp_ne hsz h0 (by simp))).trans hsz
                        have hkn_n : mp_up M mo (.inr (4, [.ref el, .ref ek, .int (nI ec), .ref bg, .ref sz, .ref kn, .int (nI tc), .ref rw, .int (nI wc), .ref pp, .ref pk, .ref wd, .ref lo, .int (nI sc), .ref kp, .ref ks, .int (nI nc), .int (nI 0)])) kn = some (.inl (k 0, 300, .inl (fun i_ => nI (tk i_)))) := (mp_up_n (mp_ne hkn h0 (by simp))).trans hkn
                        have hrw_n : mp_up M mo (.inr (4, [.ref el, .ref ek, .int (nI ec), .ref bg, .ref sz, .ref kn, .int (nI tc), .ref rw, .int (nI wc), .ref pp, .ref pk, .ref wd, .ref lo, .int (nI sc), .ref kp, .ref ks, .int (nI nc), .int (nI 0)])) rw = some (.inl (k 0, 12, .inl (fun i_ => nI (wt i_)))) := (mp_up_n (mp_ne hrw h0 (by simp))).trans hrw
                        have hpp_n : mp_up M mo (.inr (4, [.ref el, .ref ek, .int (nI ec), .ref bg, .ref sz, .ref kn, .int (nI tc), .ref rw, .int (nI wc), .ref pp, .ref pk, .ref wd, .ref lo, .int (nI sc), .ref kp, .ref ks, .int (nI nc), .int (nI 0)])) pp = some (.inl (k 0, 100, .inl (fun i_ => nI (sf i_)))) := (mp_up_n (mp_ne hpp h0 (by simp))).trans hpp
                        have hpk_n : mp_up M mo (.inr (4, [.ref el, .ref ek, .int (nI ec), .ref bg, .ref sz, .ref kn, .int (nI tc), .ref rw, .int (nI wc), .ref pp, .ref pk, .ref wd, .ref lo, .int (nI sc), .ref kp, .ref ks, .int (nI nc), .int (nI 0)])) pk = some (.inl (k 0, 100, .inl (fun i_ => nI (sk i_)))) := (mp_up_n (mp_ne hpk h0 (by simp))).trans hpk
                        have hwd_n : mp_up M mo (.inr (4, [.ref el, .ref ek, .int (nI ec), .ref bg, .ref sz, .ref kn, .int (nI tc), .ref rw, .int (nI wc), .ref pp, .ref pk, .ref wd, .ref lo, .int (nI sc), .ref kp, .ref ks, .int (nI nc), .int (nI 0)])) wd = some (.inl (k 0, 100, .inl (fun i_ => nI (sw i_)))) := (mp_up_n (mp_ne hwd h0 (by simp))).trans hwd
                        have hlo_n : mp_up M mo (.inr (4, [.ref el, .ref ek, .int (nI ec), .ref bg, .ref sz, .ref kn, .int (nI tc), .ref rw, .int (nI wc), .ref pp, .ref pk, .ref wd, .ref lo, .int (nI sc), .ref kp, .ref ks, .int (nI nc), .int (nI 0)])) lo = some (.inl (k 5, 100, .inl (fun i_ => nI (ml i_)))) := (mp_up_n (mp_ne hlo h0 (by simp))).trans hlo
                        have hkp_n : mp_up M mo (.inr (4, [.ref el, .ref ek, .int (nI ec), .ref bg, .ref sz, .ref kn, .int (nI tc), .ref rw, .int (nI wc), .ref pp, .ref pk, .ref wd, .ref lo, .int (nI sc), .ref kp, .ref ks, .int (nI nc), .int (nI 0)])) kp = some (.inl (k 1, 80000, .inr (.inl mk))) := (mp_up_n (mp_ne hkp h0 (by simp))).trans hkp
                        have hks_n : mp_up M mo (.inr (4, [.ref el, .ref ek, .int (nI ec), .ref bg, .ref sz, .ref kn, .int (nI tc), .ref rw, .int (nI wc), .ref pp, .ref pk, .ref wd, .ref lo, .int (nI sc), .ref kp, .ref ks, .int (nI nc), .int (nI 0)])) ks = some (.inl (k 0, 20, .inl (fun i_ => nI (nn i_)))) := (mp_up_n (mp_ne hks h0 (by simp))).trans hks
                        generalize eM_475 : mp_up M mo (.inr (4, [.ref el, .ref ek, .int (nI ec), .ref bg, .ref sz, .ref kn, .int (nI tc), .ref rw, .int (nI wc), .ref pp, .ref pk, .ref wd, .ref lo, .int (nI sc), .ref kp, .ref ks, .int (nI nc), .int (nI 0)])) = M_474 at I h0_n hel_n hek_n hbg_n hsz_n hkn_n hrw_n hpp_n hpk_n hwd_n hlo_n hkp_n hks_n
                        have h0__M_474 := h0_n
                        have hel__M_474 := hel_n
                        have hek__M_474 := hek_n
                        have hbg__M_474 := hbg_n
                        have hsz__M_474 := hsz_n
                        have hkn__M_474 := hkn_n
                        have hrw__M_474 := hrw_n
                        have hpp__M_474 := hpp_n
                        have hpk__M_474 := hpk_n
                        have hwd__M_474 := hwd_n
                        have hlo__M_474 := hlo_n
                        have hkp__M_474 := hkp_n
                        have hks__M_474 := hks_n
                        clear h0_n hel_n hek_n hbg_n hsz_n hkn_n hrw_n hpp_n hpk_n hwd_n hlo_n hkp_n hks_n
                        have hE := hE.cnt ec tc wc sc nc 0
                        rw [eM_475] at hE
                        refine lv_iload hx hb dM_act_133 (lv_at hl 0 rfl) ?_
                        refine zz_if_ne (tgt := 140) hx hb (nI_toInt (by decide)) dM_act_135 (by decide) (fun _ => ?_) (fun c_476 => absurd c_476 (by decide))
                        refine lv_aload_n hx hb dM_act_140 rfl (lv_at hl 2 rfl) ?_
                        refine lv_iload_n hx hb dM_act_141 rfl (lv_at hl 3 rfl) ?_
                        have hg : gact tc sc sk (nI xn).toInt act.toInt v w := by unfold gact; rw [hxi]; exact ⟨by omega, by omega, by unfold aok; omega, fun h => by first | exact p4 | (exfalso; omega), fun h => by first | exact p5 | (exfalso; omega)⟩
                        refine mp_calll (va_runV (As := [.int (nI xn)]) (rest := []) ⟨hx, hb, hml, hown, hts⟩ (kM_get l D k M_474 hE hO xn (by omega) _) (cwV 1 hts (bw_V bw_451 bw_453 bs_16 bw_2 bw_454) rfl rfl rfl (by decide +kernel) ⟨Nat.le_of_ble_eq_true rfl, Nat.le_of_ble_eq_true rfl⟩) (mp_preV I h0__M_474 rfl _) rfl rfl hl.1 rfl (lv_room (Nat.le_of_ble_eq_true rfl)) dM_act_142 ⟨Nat.le_of_ble_eq_true rfl, Nat.le_of_ble_eq_true rfl⟩) I (fun hd_ N1 H locs hp I => ?_)
                        obtain ⟨e_477, hp⟩ := hp
                        rw [e_477] at I
                        refine lv_lstore (lv' := [(9, .long hd_), (7, .int (nI 1)), (8, .int (nI (sk xn))), (0, .ref mo), (1, .int (nI xn)), (2, .int act), (3, .long v), (5, .long w)]) hx hb dM_act_145 hl (by decide) rfl (fun ls hl => ?_)
                        refine lv_iload_n hx hb dM_act_147 rfl (lv_at hl 5 rfl) ?_
                        have c_478 : act.toInt = 0 ∨ act.toInt = 1 ∨ act.toInt = 2 ∨ act.toInt = 3 ∨ act.toInt = 4 ∨ act.toInt = 5 ∨ act.toInt = 6 ∨ (act.toInt < 0 ∨ 6 < act.toInt) := by omega
                        rcases c_478 with c_478 | c_478 | c_478 | c_478 | c_478 | c_478 | c_478 | c_478
                        · refine lv_tableIn (off := 44) (tgt := 192) hx hb dM_act_148 (by rw [show act.toInt = act.toInt from rfl]; omega) (by rw [show act.toInt = act.toInt from rfl]; omega) (by rw [show act.toInt = act.toInt from rfl, c_478]; rfl) (by decide) ?_
                          refine lv_lload hx hb dM_act_192 (lv_at hl 0 rfl) ?_
                          exact mp_lret hx hb hr hlocks I (Nat.le_of_ble_eq_true rfl) (Nat.le_of_ble_eq_true rfl) dM_act_194 (Or.inl ⟨hg, by rw [hxi, ← hp]; unfold pm; rw [if_neg (show ¬ act.toInt = 1 by omega), if_neg (show ¬ act.toInt = 2 by omega), if_neg (show ¬ act.toInt = 3 by omega), if_neg (show ¬ act.toInt = 4 by omega), if_neg (show ¬ act.toInt = 5 by omega), if_neg (show ¬ act.toInt = 6 by omega), if_neg (show ¬ act.toInt = 7 by omega)]; exact ⟨rfl, hE⟩⟩)
                        · refine lv_tableIn (off := 47) (tgt := 195) hx hb dM_act_148 (by rw [show act.toInt = act.toInt from rfl]; omega) (by rw [show act.toInt = act.toInt from rfl]; omega) (by rw [show act.toInt = act.toInt from rfl, c_478]; rfl) (by decide) ?_
                          refine lv_aload_n hx hb dM_act_195 rfl (lv_at hl 3 rfl) ?_
                          refine lv_iload_n hx hb dM_act_196 rfl (lv_at hl 4 rfl) ?_
                          refine lv_lload_n hx hb dM_act_197 rfl (lv_at hl 6 rfl) ?_
                          have hget := hp
                          refine mp_callv (va_runV (As := [.int (nI xn), .long v]) (rest := []) ⟨hx, hb, hml, hown, hts⟩ (kM_set l D k M_474 hE hO xn (by omega) v _) (cwV 2 hts (bw_V bw_456 bw_458 bs_17 bw_2 bw_459) rfl rfl rfl (by decide +kernel) ⟨Nat.le_of_ble_eq_true rfl, Nat.le_of_ble_eq_true rfl⟩) (mp_preV I h0__M_474 rfl _) rfl rfl hl.1 rfl (lv_room (Nat.le_of_ble_eq_true rfl)) dM_act_198 ⟨Nat.le_of_ble_eq_true rfl, Nat.le_of_ble_eq_true rfl⟩) I (fun N1 H locs hp I => ?_)
                          have hE := hp
                          refine lv_lconst (v := 0) hx hb dM_act_201 (by decide) ?_
                          exact mp_lret hx hb hr hlocks I (Nat.le_of_ble_eq_true rfl) (Nat.le_of_ble_eq_true rfl) dM_act_202 (Or.inl ⟨hg, by rw [hxi, ← hget]; unfold pm; rw [if_pos (show act.toInt = 1 by omega)]; exact ⟨rfl, hE⟩⟩)
                        · refine lv_tableIn (off := 55) (tgt := 203) hx hb dM_act_148 (by rw [show act.toInt = act.toInt from rfl]; omega) (by rw [show act.toInt = act.toInt from rfl]; omega) (by rw [show act.toInt = act.toInt from rfl, c_478]; rfl) (by decide) ?_
                          refine lv_aload_n hx hb dM_act_203 rfl (lv_at hl 3 rfl) ?_
                          refine lv_iload_n hx hb dM_act_204 rfl (lv_at hl 4 rfl) ?_
                          refine lv_lload_n hx hb dM_act_205 rfl (lv_at hl 6 rfl) ?_
                          have hget := hp
                          refine mp_callv (va_runV (As := [.int (nI xn), .long v]) (rest := []) ⟨hx, hb, hml, hown, hts⟩ (kM_set l D k M_474 hE hO xn (by omega) v _) (cwV 2 hts (bw_V bw_456 bw_458 bs_17 bw_2 bw_459) rfl rfl rfl (by decide +kernel) ⟨Nat.le_of_ble_eq_true rfl, Nat.le_of_ble_eq_true rfl⟩) (mp_preV I h0__M_474 rfl _) rfl rfl hl.1 rfl (lv_room (Nat.le_of_ble_eq_true rfl)) dM_act_206 ⟨Nat.le_of_ble_eq_true rfl, Nat.le_of_ble_eq_true rfl⟩) I (fun N1 H locs hp I => ?_)
                          have hE := hp
                          refine lv_goto (tgt := 308) hx hb dM_act_209 (by decide) ?_
                          refine lv_lload hx hb dM_act_308 (lv_at hl 0 rfl) ?_
                          exact mp_lret hx hb hr hlocks I (Nat.le_of_ble_eq_true rfl) (Nat.le_of_ble_eq_true rfl) dM_act_310 (Or.inl ⟨hg, by rw [hxi, ← hget]; unfold pm; rw [if_neg (show ¬ act.toInt = 1 by omega), if_pos (show act.toInt = 2 by omega)]; exact ⟨rfl, hE⟩⟩)
                        · refine lv_tableIn (off := 64) (tgt := 212) hx hb dM_act_148 (by rw [show act.toInt = act.toInt from rfl]; omega) (by rw [show act.toInt = act.toInt from rfl]; omega) (by rw [show act.toInt = act.toInt from rfl, c_478]; rfl) (by decide) ?_
                          refine lv_lload hx hb dM_act_212 (lv_at hl 0 rfl) ?_
                          refine lv_lload_n hx hb dM_act_214 rfl (lv_at hl 6 rfl) ?_
                          have hget := hp
                          refine W.lcmp hx hb dM_act_215 ?_
                          refine lv_if_ne (tgt := 226) hx hb dM_act_216 (by decide) (fun c_481 => ?_) (fun c_481 => ?_)
                          all_goals rw [lg_cmp_eq] at c_481
                          · refine lv_lload hx hb dM_act_226 (lv_at hl 0 rfl) ?_
                            refine lv_lload_n hx hb dM_act_228 rfl (lv_at hl 6 rfl) ?_
                            refine W.lcmp hx hb dM_act_229 ?_
                            refine lv_if_ne (tgt := 237) hx hb dM_act_230 (by decide) (fun c_482 => ?_) (fun c_482 => ?_)
                            all_goals rw [lg_cmp_eq] at c_482
                            · refine lv_lconst (v := 0) hx hb dM_act_237 (by decide) ?_
                              exact mp_lret hx hb hr hlocks I (Nat.le_of_ble_eq_true rfl) (Nat.le_of_ble_eq_true rfl) dM_act_238 (Or.inl ⟨hg, by rw [hxi, ← hget]; unfold pm; rw [if_neg (show ¬ act.toInt = 1 by omega), if_neg (show ¬ act.toInt = 2 by omega), if_pos (show act.toInt = 3 by omega), if_neg c_481]; exact ⟨rfl, hE⟩⟩)
                            · exact absurd c_482 c_481
                          · refine lv_aload_n hx hb dM_act_219 rfl (lv_at hl 3 rfl) ?_
                            refine lv_iload_n hx hb dM_act_220 rfl (lv_at hl 4 rfl) ?_
                            refine lv_lload hx hb dM_act_221 (lv_at hl 7 rfl) ?_
                            refine mp_callv (va_runV (As := [.int (nI xn), .long w]) (rest := []) ⟨hx, hb, hml, hown, hts⟩ (kM_set l D k M_474 hE hO xn (by omega) w _) (cwV 2 hts (bw_V bw_456 bw_458 bs_17 bw_2 bw_459) rfl rfl rfl (by decide +kernel) ⟨Nat.le_of_ble_eq_true rfl, Nat.le_of_ble_eq_true rfl⟩) (mp_preV I h0__M_474 rfl _) rfl rfl hl.1 rfl (lv_room (Nat.le_of_ble_eq_true rfl)) dM_act_223 ⟨Nat.le_of_ble_eq_true rfl, Nat.le_of_ble_eq_true rfl⟩) I (fun N1 H locs hp I => ?_)
                            have hE := hp
                            refine lv_lload hx hb dM_act_226 (lv_at hl 0 rfl) ?_
                            refine lv_lload_n hx hb dM_act_228 rfl (lv_at hl 6 rfl) ?_
                            refine W.lcmp hx hb dM_act_229 ?_
                            refine lv_if_ne (tgt := 237) hx hb dM_act_230 (by decide) (fun c_484 => ?_) (fun c_484 => ?_)
                            all_goals rw [lg_cmp_eq] at c_484
                            · exact absurd c_481 c_484
                            · refine lv_lconst (v := 1) hx hb dM_act_233 (by decide) ?_
                              refine lv_goto (tgt := 238) hx hb dM_act_234 (by decide) ?_
                              exact mp_lret hx hb hr hlocks I (Nat.le_of_ble_eq_true rfl) (Nat.le_of_ble_eq_true rfl) dM_act_238 (Or.inl ⟨hg, by rw [hxi, ← hget]; unfold pm; rw [if_neg (show ¬ act.toInt = 1 by omega), if_neg (show ¬ act.toInt = 2 by omega), if_pos (show act.toInt = 3 by omega), if_pos c_481]; exact ⟨rfl, hE⟩⟩)
                        · refine lv_tableIn (off := 91) (tgt := 239) hx hb dM_act_148 (by rw [show act.toInt = act.toInt from rfl]; omega) (by rw [show act.toInt = act.toInt from rfl]; omega) (by rw [show act.toInt = act.toInt from rfl, c_478]; rfl) (by decide) ?_
                          refine lv_aload_n hx hb dM_act_239 rfl (lv_at hl 3 rfl) ?_
                          refine lv_iload_n hx hb dM_act_240 rfl (lv_at hl 4 rfl) ?_
                          refine lv_iload hx hb dM_act_241 (lv_at hl 2 rfl) ?_
                          refine lv_lload hx hb dM_act_243 (lv_at hl 0 rfl) ?_
                          refine lv_lload_n hx hb dM_act_245 rfl (lv_at hl 6 rfl) ?_
                          refine lv_ladd hx hb dM_act_246 ?_
                          have hget := hp
                          refine mp_calll (va_runS (As := [.int (nI (sk xn)), .long (hd_ + v)]) (rest := [.int (nI xn), .ref mo]) ⟨hx, hb, hml, hown, hts⟩ (kM_as l D k M_474 (sk xn) (hd_ + v) (by omega) _) (cwS 2 hts (bw_S bw_447 bw_448 bw_2 bw_449) rfl rfl rfl (by decide +kernel) ⟨Nat.le_of_ble_eq_true rfl, Nat.le_of_ble_eq_true rfl⟩) (mp_preS I _) rfl rfl hl.1 rfl (lv_room (Nat.le_of_ble_eq_true rfl)) dM_act_247 ⟨Nat.le_of_ble_eq_true rfl, Nat.le_of_ble_eq_true rfl⟩) I (fun r2 N1 H locs hp I => ?_)
                          obtain ⟨e_485, hp⟩ := hp
                          rw [e_485] at I
                          subst hp
                          refine mp_callv (va_runV (As := [.int (nI xn), .long (lb (sk xn) (hd_ + v))]) (rest := []) ⟨hx, hb, hml, hown, hts⟩ (kM_set l D k M_474 hE hO xn (by omega) (lb (sk xn) (hd_ + v)) _) (cwV 2 hts (bw_V bw_456 bw_458 bs_17 bw_2 bw_459) rfl rfl rfl (by decide +kernel) ⟨Nat.le_of_ble_eq_true rfl, Nat.le_of_ble_eq_true rfl⟩) (mp_preV I h0__M_474 rfl _) rfl rfl hl.1 rfl (lv_room (Nat.le_of_ble_eq_true rfl)) dM_act_250 ⟨Nat.le_of_ble_eq_true rfl, Nat.le_of_ble_eq_true rfl⟩) I (fun N1 H locs hp I => ?_)
                          have hE := hp
                          refine lv_goto (tgt := 308) hx hb dM_act_253 (by decide) ?_
                          refine lv_lload hx hb dM_act_308 (lv_at hl 0 rfl) ?_
                          exact mp_lret hx hb hr hlocks I (Nat.le_of_ble_eq_true rfl) (Nat.le_of_ble_eq_true rfl) dM_act_310 (Or.inl ⟨hg, by rw [hxi, ← hget]; unfold pm; rw [if_neg (show ¬ act.toInt = 1 by omega), if_neg (show ¬ act.toInt = 2 by omega), if_neg (show ¬ act.toInt = 3 by omega), if_pos (show act.toInt = 4 by omega)]; exact ⟨rfl, hE⟩⟩)
                        · refine lv_tableIn (off := 108) (tgt := 256) hx hb dM_act_148 (by rw [show act.toInt = act.toInt from rfl]; omega) (by rw [show act.toInt = act.toInt from rfl]; omega) (by rw [show act.toInt = act.toInt from rfl, c_478]; rfl) (by decide) ?_
                          refine lv_aload_n hx hb dM_act_256 rfl (lv_at hl 3 rfl) ?_
                          refine lv_iload_n hx hb dM_act_257 rfl (lv_at hl 4 rfl) ?_
                          refine lv_iload hx hb dM_act_258 (lv_at hl 2 rfl) ?_
                          refine lv_lload hx hb dM_act_260 (lv_at hl 0 rfl) ?_
                          refine lv_lload_n hx hb dM_act_262 rfl (lv_at hl 6 rfl) ?_
                          refine lv_land hx hb dM_act_263 ?_
                          have hget := hp
                          refine mp_calll (va_runS (As := [.int (nI (sk xn)), .long (hd_ &&& v)]) (rest := [.int (nI xn), .ref mo]) ⟨hx, hb, hml, hown, hts⟩ (kM_as l D k M_474 (sk xn) (hd_ &&& v) (by omega) _) (cwS 2 hts (bw_S bw_447 bw_448 bw_2 bw_449) rfl rfl rfl (by decide +kernel) ⟨Nat.le_of_ble_eq_true rfl, Nat.le_of_ble_eq_true rfl⟩) (mp_preS I _) rfl rfl hl.1 rfl (lv_room (Nat.le_of_ble_eq_true rfl)) dM_act_264 ⟨Nat.le_of_ble_eq_true rfl, Nat.le_of_ble_eq_true rfl⟩) I (fun r2 N1 H locs hp I => ?_)
                          obtain ⟨e_487, hp⟩ := hp
                          rw [e_487] at I
                          subst hp
                          refine mp_callv (va_runV (As := [.int (nI xn), .long (lb (sk xn) (hd_ &&& v))]) (rest := []) ⟨hx, hb, hml, hown, hts⟩ (kM_set l D k M_474 hE hO xn (by omega) (lb (sk xn) (hd_ &&& v)) _) (cwV 2 hts (bw_V bw_456 bw_458 bs_17 bw_2 bw_459) rfl rfl rfl (by decide +kernel) ⟨Nat.le_of_ble_eq_true rfl, Nat.le_of_ble_eq_true rfl⟩) (mp_preV I h0__M_474 rfl _) rfl rfl hl.1 rfl (lv_room (Nat.le_of_ble_eq_true rfl)) dM_act_267 ⟨Nat.le_of_ble_eq_true rfl, Nat.le_of_ble_eq_true rfl⟩) I (fun N1 H locs hp I => ?_)
                          have hE := hp
                          refine lv_goto (tgt := 308) hx hb dM_act_270 (by decide) ?_
                          refine lv_lload hx hb dM_act_308 (lv_at hl 0 rfl) ?_
                          exact mp_lret hx hb hr hlocks I (Nat.le_of_ble_eq_true rfl) (Nat.le_of_ble_eq_true rfl) dM_act_310 (Or.inl ⟨hg, by rw [hxi, ← hget]; unfold pm; rw [if_neg (show ¬ act.toInt = 1 by omega), if_neg (show ¬ act.toInt = 2 by omega), if_neg (show ¬ act.toInt = 3 by omega), if_neg (show ¬ act.toInt = 4 by omega), if_pos (show act.toInt = 5 by omega)]; exact ⟨rfl, hE⟩⟩)
                        · refine lv_tableIn (off := 125) (tgt := 273) hx hb dM_act_148 (by rw [show act.toInt = act.toInt from rfl]; omega) (by rw [show act.toInt = act.toInt from rfl]; omega) (by rw [show act.toInt = act.toInt from rfl, c_478]; rfl) (by decide) ?_
                          refine lv_aload_n hx hb dM_act_273 rfl (lv_at hl 3 rfl) ?_
                          refine lv_iload_n hx hb dM_act_274 rfl (lv_at hl 4 rfl) ?_
                          refine lv_iload hx hb dM_act_275 (lv_at hl 2 rfl) ?_
                          refine lv_lload hx hb dM_act_277 (lv_at hl 0 rfl) ?_
                          refine lv_lload_n hx hb dM_act_279 rfl (lv_at hl 6 rfl) ?_
                          refine lv_lor hx hb dM_act_280 ?_
                          have hget := hp
                          refine mp_calll (va_runS (As := [.int (nI (sk xn)), .long (hd_ ||| v)]) (rest := [.int (nI xn), .ref mo]) ⟨hx, hb, hml, hown, hts⟩ (kM_as l D k M_474 (sk xn) (hd_ ||| v) (by omega) _) (cwS 2 hts (bw_S bw_447 bw_448 bw_2 bw_449) rfl rfl rfl (by decide +kernel) ⟨Nat.le_of_ble_eq_true rfl, Nat.le_of_ble_eq_true rfl⟩) (mp_preS I _) rfl rfl hl.1 rfl (lv_room (Nat.le_of_ble_eq_true rfl)) dM_act_281 ⟨Nat.le_of_ble_eq_true rfl, Nat.le_of_ble_eq_true rfl⟩) I (fun r2 N1 H locs hp I => ?_)
                          obtain ⟨e_489, hp⟩ := hp
                          rw [e_489] at I
                          subst hp
                          refine mp_callv (va_runV (As := [.int (nI xn), .long (lb (sk xn) (hd_ ||| v))]) (rest := []) ⟨hx, hb, hml, hown, hts⟩ (kM_set l D k M_474 hE hO xn (by omega) (lb (sk xn) (hd_ ||| v)) _) (cwV 2 hts (bw_V bw_456 bw_458 bs_17 bw_2 bw_459) rfl rfl rfl (by decide +kernel) ⟨Nat.le_of_ble_eq_true rfl, Nat.le_of_ble_eq_true rfl⟩) (mp_preV I h0__M_474 rfl _) rfl rfl hl.1 rfl (lv_room (Nat.le_of_ble_eq_true rfl)) dM_act_284 ⟨Nat.le_of_ble_eq_true rfl, Nat.le_of_ble_eq_true rfl⟩) I (fun N1 H locs hp I => ?_)
                          have hE := hp
                          refine lv_goto (tgt := 308) hx hb dM_act_287 (by decide) ?_
                          refine lv_lload hx hb dM_act_308 (lv_at hl 0 rfl) ?_
                          exact mp_lret hx hb hr hlocks I (Nat.le_of_ble_eq_true rfl) (Nat.le_of_ble_eq_true rfl) dM_act_310 (Or.inl ⟨hg, by rw [hxi, ← hget]; unfold pm; rw [if_neg (show ¬ act.toInt = 1 by omega), if_neg (show ¬ act.toInt = 2 by omega), if_neg (show ¬ act.toInt = 3 by omega), if_neg (show ¬ act.toInt = 4 by omega), if_neg (show ¬ act.toInt = 5 by omega), if_pos (show act.toInt = 6 by omega)]; exact ⟨rfl, hE⟩⟩)
                        · refine lv_tableOut (tgt := 290) hx hb dM_act_148 (by rw [show act.toInt = act.toInt from rfl]; exact c_478) (by decide) ?_
                          refine lv_aload_n hx hb dM_act_290 rfl (lv_at hl 3 rfl) ?_
                          refine lv_iload_n hx hb dM_act_291 rfl (lv_at hl 4 rfl) ?_
                          refine lv_lload hx hb dM_act_292 (lv_at hl 0 rfl) ?_
                          refine lv_lload_n hx hb dM_act_294 rfl (lv_at hl 6 rfl) ?_
                          have hget := hp
                          refine W.lcmp hx hb dM_act_295 ?_
                          refine lv_if_le (tgt := 304) hx hb dM_act_296 (by decide) (fun c_491 => ?_) (fun c_491 => ?_)
                          all_goals rw [lg_cmp_le] at c_491
                          · refine lv_lload_n hx hb dM_act_304 rfl (lv_at hl 6 rfl) ?_
                            refine mp_callv (va_runV (As := [.int (nI xn), .long v]) (rest := []) ⟨hx, hb, hml, hown, hts⟩ (kM_set l D k M_474 hE hO xn (by omega) v _) (cwV 2 hts (bw_V bw_456 bw_458 bs_17 bw_2 bw_459) rfl rfl rfl (by decide +kernel) ⟨Nat.le_of_ble_eq_true rfl, Nat.le_of_ble_eq_true rfl⟩) (mp_preV I h0__M_474 rfl _) rfl rfl hl.1 rfl (lv_room (Nat.le_of_ble_eq_true rfl)) dM_act_305 ⟨Nat.le_of_ble_eq_true rfl, Nat.le_of_ble_eq_true rfl⟩) I (fun N1 H locs hp I => ?_)
                            have hE := hp
                            refine lv_lload hx hb dM_act_308 (lv_at hl 0 rfl) ?_
                            exact mp_lret hx hb hr hlocks I (Nat.le_of_ble_eq_true rfl) (Nat.le_of_ble_eq_true rfl) dM_act_310 (Or.inl ⟨hg, by rw [hxi, ← hget]; unfold pm; rw [if_neg (show ¬ act.toInt = 1 by omega), if_neg (show ¬ act.toInt = 2 by omega), if_neg (show ¬ act.toInt = 3 by omega), if_neg (show ¬ act.toInt = 4 by omega), if_neg (show ¬ act.toInt = 5 by omega), if_neg (show ¬ act.toInt = 6 by omega), if_pos (show act.toInt = 7 by unfold gact aok at hg; omega), if_neg (Int64.not_lt.mpr c_491)]; exact ⟨rfl, hE⟩⟩)
                          · refine lv_lload hx hb dM_act_299 (lv_at hl 0 rfl) ?_
                            refine lv_goto (tgt := 305) hx hb dM_act_301 (by decide) ?_
                            refine mp_callv (va_runV (As := [.int (nI xn), .long hd_]) (rest := []) ⟨hx, hb, hml, hown, hts⟩ (kM_set l D k M_474 hE hO xn (by omega) hd_ _) (cwV 2 hts (bw_V bw_456 bw_458 bs_17 bw_2 bw_459) rfl rfl rfl (by decide +kernel) ⟨Nat.le_of_ble_eq_true rfl, Nat.le_of_ble_eq_true rfl⟩) (mp_preV I h0__M_474 rfl _) rfl rfl hl.1 rfl (lv_room (Nat.le_of_ble_eq_true rfl)) dM_act_305 ⟨Nat.le_of_ble_eq_true rfl, Nat.le_of_ble_eq_true rfl⟩) I (fun N1 H locs hp I => ?_)
                            have hE := hp
                            refine lv_lload hx hb dM_act_308 (lv_at hl 0 rfl) ?_
                            exact mp_lret hx hb hr hlocks I (Nat.le_of_ble_eq_true rfl) (Nat.le_of_ble_eq_true rfl) dM_act_310 (Or.inl ⟨hg, by rw [hxi, ← hget]; unfold pm; rw [if_neg (show ¬ act.toInt = 1 by omega), if_neg (show ¬ act.toInt = 2 by omega), if_neg (show ¬ act.toInt = 3 by omega), if_neg (show ¬ act.toInt = 4 by omega), if_neg (show ¬ act.toInt = 5 by omega), if_neg (show ¬ act.toInt = 6 by omega), if_pos (show act.toInt = 7 by unfold gact aok at hg; omega), if_pos (Int64.not_le.mp c_491)]; exact ⟨rfl, hE⟩⟩)
                      · refine zz_if_eq (tgt := 116) hx hb (nI_toInt (by decide)) dM_act_109 (by decide) (fun _ => ?_) (fun c_494 => absurd c_494 (by decide))
                        refine lv_iconst (v := nI 0) hx hb dM_act_116 (by decide) ?_
                        refine lv_istore (lv' := [(7, .int (nI 0)), (8, .int (nI (sk xn))), (0, .ref mo), (1, .int (nI xn)), (2, .int act), (3, .long v), (5, .long w)]) hx hb dM_act_117 hl (by decide) rfl (fun ls hl => ?_)
                        refine lv_aload_n hx hb dM_act_119 rfl (lv_at hl 2 rfl) ?_
                        refine lv_iload hx hb dM_act_120 (lv_at hl 0 rfl) ?_
                        refine zz_if_eq (tgt := 129) hx hb (nI_toInt (by decide)) dM_act_122 (by decide) (fun _ => ?_) (fun c_495 => absurd c_495 (by decide))
                        refine lv_iconst (v := nI 1) hx hb dM_act_129 (by decide) ?_
                        refine mp_put (v := .int (nI 1)) (ty := .int) hx hb hts inM tyM okM nmM hown I h0 rfl 17 (by decide) (hts _ bw_348) (fun _ h9 => h9) rfl (by decide +kernel) rfl rfl (Nat.le_of_ble_eq_true rfl) dM_act_130 (fun H locs I => ?_)
                        have I : mp_I D cls5 (tys6 k) s _ s.heap H locs (mp_up M mo (.inr (4, [.ref el, .ref ek, .int (nI ec), .ref bg, .ref sz, .ref kn, .int (nI tc), .ref rw, .int (nI wc), .ref pp, .ref pk, .ref wd, .ref lo, .int (nI sc), .ref kp, .ref ks, .int (nI nc), .int (nI 1)]))) := I
                        have h0_n : mp_up M mo (.inr (4, [.ref el, .ref ek, .int (nI ec), .ref bg, .ref sz, .ref kn, .int (nI tc), .ref rw, .int (nI wc), .ref pp, .ref pk, .ref wd, .ref lo, .int (nI sc), .ref kp, .ref ks, .int (nI nc), .int (nI 1)])) mo = some (.inr (4, [.ref el, .ref ek, .int (nI ec), .ref bg, .ref sz, .ref kn, .int (nI tc), .ref rw, .int (nI wc), .ref pp, .ref pk, .ref wd, .ref lo, .int (nI sc), .ref kp, .ref ks, .int (nI nc), .int (nI 1)])) := mp_up_s _ _ _
                        have hel_n : mp_up M mo (.inr (4, [.ref el, .ref ek, .int (nI ec), .ref bg, .ref sz, .ref kn, .int (nI tc), .ref rw, .int (nI wc), .ref pp, .ref pk, .ref wd, .ref lo, .int (nI sc), .ref kp, .ref ks, .int (nI nc), .int (nI 1)])) el = some (.inl (k 1, 4000, .inr (.inl va))) := (mp_up_n (mp_ne hel h0 (by simp))).trans hel
                        have hek_n : mp_up M mo (.inr (4, [.ref el, .ref ek, .int (nI ec), .ref bg, .ref sz, .ref kn, .int (nI tc), .ref rw, .int (nI wc), .ref pp, .ref pk, .ref wd, .ref lo, .int (nI sc), .ref kp, .ref ks, .int (nI nc), .int (nI 1)])) ek = some (.inl (k 0, 4000, .inl (fun i_ => nI (kd i_)))) := (mp_up_n (mp_ne hek h0 (by simp))).trans hek
                        have hbg_n : mp_up M mo (.inr (4, [.ref el, .ref ek, .int (nI ec), .ref bg, .ref sz, .ref kn, .int (nI tc), .ref rw, .int (nI wc), .ref pp, .ref pk, .ref wd, .ref lo, .int (nI sc), .ref kp, .ref ks, .int (nI nc), .int (nI 1)])) bg = some (.inl (k 0, 300, .inl (fun i_ => nI (tf i_)))) := (mp_up_n (mp_ne hbg h0 (by simp))).trans hbg
                        have hsz_n : mp_up M mo (.inr (4, [.ref el, .ref ek, .int (nI ec), .ref bg, .ref sz, .ref kn, .int (nI tc), .ref rw, .int (nI wc), .ref pp, .ref pk, .ref wd, .ref lo, .int (nI sc), .ref kp, .ref ks, .int (nI nc), .int (nI 1)])) sz = some (.inl (k 0, 300, .inl (fun i_ => nI (tz i_)))) := (mp_up_n (mp_ne hsz h0 (by simp))).trans hsz
                        have hkn_n : mp_up M mo (.inr (4, [.ref el, .ref ek, .int (nI ec), .ref bg, .ref sz, .ref kn, .int (nI tc), .ref rw, .int (nI wc), .ref pp, .ref pk, .ref wd, .ref lo, .int (nI sc), .ref kp, .ref ks, .int (nI nc), .int (nI 1)])) kn = some (.inl (k 0, 300, .inl (fun i_ => nI (tk i_)))) := (mp_up_n (mp_ne hkn h0 (by simp))).trans hkn
                        have hrw_n : mp_up M mo (.inr (4, [.ref el, .ref ek, .int (nI ec), .ref bg, .ref sz, .ref kn, .int (nI tc), .ref rw, .int (nI wc), .ref pp, .ref pk, .ref wd, .ref lo, .int (nI sc), .ref kp, .ref ks, .int (nI nc), .int (nI 1)])) rw = some (.inl (k 0, 12, .inl (fun i_ => nI (wt i_)))) := (mp_up_n (mp_ne hrw h0 (by simp))).trans hrw
                        have hpp_n : mp_up M mo (.inr (4, [.ref el, .ref ek, .int (nI ec), .ref bg, .ref sz, .ref kn, .int (nI tc), .ref rw, .int (nI wc), .ref pp, .ref pk, .ref wd, .ref lo, .int (nI sc), .ref kp, .ref ks, .int (nI nc), .int (nI 1)])) pp = some (.inl (k 0, 100, .inl (fun i_ => nI (sf i_)))) := (mp_up_n (mp_ne hpp h0 (by simp))).trans hpp
                        have hpk_n : mp_up M mo (.inr (4, [.ref el, .ref ek, .int (nI ec), .ref bg, .ref sz, .ref kn, .int (nI tc), .ref rw, .int (nI wc), .ref pp, .ref pk, .ref wd, .ref lo, .int (nI sc), .ref kp, .ref ks, .int (nI nc), .int (nI 1)])) pk = some (.inl (k 0, 100, .inl (fun i_ => nI (sk i_)))) := (mp_up_n (mp_ne hpk h0 (by simp))).trans hpk
                        have hwd_n : mp_up M mo (.inr (4, [.ref el, .ref ek, .int (nI ec), .ref bg, .ref sz, .ref kn, .int (nI tc), .ref rw, .int (nI wc), .ref pp, .ref pk, .ref wd, .ref lo, .int (nI sc), .ref kp, .ref ks, .int (nI nc), .int (nI 1)])) wd = some (.inl (k 0, 100, .inl (fun i_ => nI (sw i_)))) := (mp_up_n (mp_ne hwd h0 (by simp))).trans hwd
                        have hlo_n : mp_up M mo (.inr (4, [.ref el, .ref ek, .int (nI ec), .ref bg, .ref sz, .ref kn, .int (nI tc), .ref rw, .int (nI wc), .ref pp, .ref pk, .ref wd, .ref lo, .int (nI sc), .ref kp, .ref ks, .int (nI nc), .int (nI 1)])) lo = some (.inl (k 5, 100, .inl (fun i_ => nI (ml i_)))) := (mp_up_n (mp_ne hlo h0 (by simp))).trans hlo
                        have hkp_n : mp_up M mo (.inr (4, [.ref el, .ref ek, .int (nI ec), .ref bg, .ref sz, .ref kn, .int (nI tc), .ref rw, .int (nI wc), .ref pp, .ref pk, .ref wd, .ref lo, .int (nI sc), .ref kp, .ref ks, .int (nI nc), .int (nI 1)])) kp = some (.inl (k 1, 80000, .inr (.inl mk))) := (mp_up_n (mp_ne hkp h0 (by simp))).trans hkp
                        have hks_n : mp_up M mo (.inr (4, [.ref el, .ref ek, .int (nI ec), .ref bg, .ref sz, .ref kn, .int (nI tc), .ref rw, .int (nI wc), .ref pp, .ref pk, .ref wd, .ref lo, .int (nI sc), .ref kp, .ref ks, .int (nI nc), .int (nI 1)])) ks = some (.inl (k 0, 20, .inl (fun i_ => nI (nn i_)))) := (mp_up_n (mp_ne hks h0 (by simp))).trans hks
                        generalize eM_497 : mp_up M mo (.inr (4, [.ref el, .ref ek, .int (nI ec), .ref bg, .ref sz, .ref kn, .int (nI tc), .ref rw, .int (nI wc), .ref pp, .ref pk, .ref wd, .ref lo, .int (nI sc), .ref kp, .ref ks, .int (nI nc), .int (nI 1)])) = M_496 at I h0_n hel_n hek_n hbg_n hsz_n hkn_n hrw_n hpp_n hpk_n hwd_n hlo_n hkp_n hks_n
                        have h0__M_496 := h0_n
                        have hel__M_496 := hel_n
                        have hek__M_496 := hek_n
                        have hbg__M_496 := hbg_n
                        have hsz__M_496 := hsz_n
                        have hkn__M_496 := hkn_n
                        have hrw__M_496 := hrw_n
                        have hpp__M_496 := hpp_n
                        have hpk__M_496 := hpk_n
                        have hwd__M_496 := hwd_n
                        have hlo__M_496 := hlo_n
                        have hkp__M_496 := hkp_n
                        have hks__M_496 := hks_n
                        clear h0_n hel_n hek_n hbg_n hsz_n hkn_n hrw_n hpp_n hpk_n hwd_n hlo_n hkp_n hks_n
                        have hE := hE.cnt ec tc wc sc nc 1
                        rw [eM_497] at hE
                        refine lv_iload hx hb dM_act_133 (lv_at hl 0 rfl) ?_
                        refine zz_if_ne (tgt := 140) hx hb (nI_toInt (by decide)) dM_act_135 (by decide) (fun c_498 => absurd c_498 (by decide)) (fun _ => ?_)
                        refine lv_lconst (v := 0) hx hb dM_act_138 (by decide) ?_
                        exact mp_lret hx hb hr hlocks I (Nat.le_of_ble_eq_true rfl) (Nat.le_of_ble_eq_true rfl) dM_act_139 (Or.inr ⟨by intro hg; obtain ⟨g1, g2, g3, g4, g5⟩ := hg; rw [hxi] at g3 g4 g5; unfold aok at g3; first | omega | exact p4 (g4 (by omega)) | exact p5 (g5 (by omega)), rfl, hE⟩)
                  · refine zz_if_eq (tgt := 116) hx hb (nI_toInt (by decide)) dM_act_93 (by decide) (fun _ => ?_) (fun c_499 => absurd c_499 (by decide))
                    refine lv_iconst (v := nI 0) hx hb dM_act_116 (by decide) ?_
                    refine lv_istore (lv' := [(7, .int (nI 0)), (8, .int (nI (sk xn))), (0, .ref mo), (1, .int (nI xn)), (2, .int act), (3, .long v), (5, .long w)]) hx hb dM_act_117 hl (by decide) rfl (fun ls hl => ?_)
                    refine lv_aload_n hx hb dM_act_119 rfl (lv_at hl 2 rfl) ?_
                    refine lv_iload hx hb dM_act_120 (lv_at hl 0 rfl) ?_
                    refine zz_if_eq (tgt := 129) hx hb (nI_toInt (by decide)) dM_act_122 (by decide) (fun _ => ?_) (fun c_500 => absurd c_500 (by decide))
                    refine lv_iconst (v := nI 1) hx hb dM_act_129 (by decide) ?_
                    refine mp_put (v := .int (nI 1)) (ty := .int) hx hb hts inM tyM okM nmM hown I h0 rfl 17 (by decide) (hts _ bw_348) (fun _ h9 => h9) rfl (by decide +kernel) rfl rfl (Nat.le_of_ble_eq_true rfl) dM_act_130 (fun H locs I => ?_)
                    have I : mp_I D cls5 (tys6 k) s _ s.heap H locs (mp_up M mo (.inr (4, [.ref el, .ref ek, .int (nI ec), .ref bg, .ref sz, .ref kn, .int (nI tc), .ref rw, .int (nI wc), .ref pp, .ref pk, .ref wd, .ref lo, .int (nI sc), .ref kp, .ref ks, .int (nI nc), .int (nI 1)]))) := I
                    have h0_n : mp_up M mo (.inr (4, [.ref el, .ref ek, .int (nI ec), .ref bg, .ref sz, .ref kn, .int (nI tc), .ref rw, .int (nI wc), .ref pp, .ref pk, .ref wd, .ref lo, .int (nI sc), .ref kp, .ref ks, .int (nI nc), .int (nI 1)])) mo = some (.inr (4, [.ref el, .ref ek, .int (nI ec), .ref bg, .ref sz, .ref kn, .int (nI tc), .ref rw, .int (nI wc), .ref pp, .ref pk, .ref wd, .ref lo, .int (nI sc), .ref kp, .ref ks, .int (nI nc), .int (nI 1)])) := mp_up_s _ _ _
                    have hel_n : mp_up M mo (.inr (4, [.ref el, .ref ek, .int (nI ec), .ref bg, .ref sz, .ref kn, .int (nI tc), .ref rw, .int (nI wc), .ref pp, .ref pk, .ref wd, .ref lo, .int (nI sc), .ref kp, .ref ks, .int (nI nc), .int (nI 1)])) el = some (.inl (k 1, 4000, .inr (.inl va))) := (mp_up_n (mp_ne hel h0 (by simp))).trans hel
                    have hek_n : mp_up M mo (.inr (4, [.ref el, .ref ek, .int (nI ec), .ref bg, .ref sz, .ref kn, .int (nI tc), .ref rw, .int (nI wc), .ref pp, .ref pk, .ref wd, .ref lo, .int (nI sc), .ref kp, .ref ks, .int (nI nc), .int (nI 1)])) ek = some (.inl (k 0, 4000, .inl (fun i_ => nI (kd i_)))) := (mp_up_n (mp_ne hek h0 (by simp))).trans hek
                    have hbg_n : mp_up M mo (.inr (4, [.ref el, .ref ek, .int (nI ec), .ref bg, .ref sz, .ref kn, .int (nI tc), .ref rw, .int (nI wc), .ref pp, .ref pk, .ref wd, .ref lo, .int (nI sc), .ref kp, .ref ks, .int (nI nc), .int (nI 1)])) bg = some (.inl (k 0, 300, .inl (fun i_ => nI (tf i_)))) := (mp_up_n (mp_ne hbg h0 (by simp))).trans hbg
                    have hsz_n : mp_up M mo (.inr (4, [.ref el, .ref ek, .int (nI ec), .ref bg, .ref sz, .ref kn, .int (nI tc), .ref rw, .int (nI wc), .ref pp, .ref pk, .ref wd, .ref lo, .int (nI sc), .ref kp, .ref ks, .int (nI nc), .int (nI 1)])) sz = some (.inl (k 0, 300, .inl (fun i_ => nI (tz i_)))) := (mp_up_n (mp_ne hsz h0 (by simp))).trans hsz
                    have hkn_n : mp_up M mo (.inr (4, [.ref el, .ref ek, .int (nI ec), .ref bg, .ref sz, .ref kn, .int (nI tc), .ref rw, .int (nI wc), .ref pp, .ref pk, .ref wd, .ref lo, .int (nI sc), .ref kp, .ref ks, .int (nI nc), .int (nI 1)])) kn = some (.inl (k 0, 300, .inl (fun i_ => nI (tk i_)))) := (mp_up_n (mp_ne hkn h0 (by simp))).trans hkn
                    have hrw_n : mp_up M mo (.inr (4, [.ref el, .ref ek, .int (nI ec), .ref bg, .ref sz, .ref kn, .int (nI tc), .ref rw, .int (nI wc), .ref pp, .ref pk, .ref wd, .ref lo, .int (nI sc), .ref kp, .ref ks, .int (nI nc), .int (nI 1)])) rw = some (.inl (k 0, 12, .inl (fun i_ => nI (wt i_)))) := (mp_up_n (mp_ne hrw h0 (by simp))).trans hrw
                    have hpp_n : mp_up M mo (.inr (4, [.ref el, .ref ek, .int (nI ec), .ref bg, .ref sz, .ref kn, .int (nI tc), .ref rw, .int (nI wc), .ref pp, .ref pk, .ref wd, .ref lo, .int (nI sc), .ref kp, .ref ks, .int (nI nc), .int (nI 1)])) pp = some (.inl (k 0, 100, .inl (fun i_ => nI (sf i_)))) := (mp_up_n (mp_ne hpp h0 (by simp))).trans hpp
                    have hpk_n : mp_up M mo (.inr (4, [.ref el, .ref ek, .int (nI ec), .ref bg, .ref sz, .ref kn, .int (nI tc), .ref rw, .int (nI wc), .ref pp, .ref pk, .ref wd, .ref lo, .int (nI sc), .ref kp, .ref ks, .int (nI nc), .int (nI 1)])) pk = some (.inl (k 0, 100, .inl (fun i_ => nI (sk i_)))) := (mp_up_n (mp_ne hpk h0 (by simp))).trans hpk
                    have hwd_n : mp_up M mo (.inr (4, [.ref el, .ref ek, .int (nI ec), .ref bg, .ref sz, .ref kn, .int (nI tc), .ref rw, .int (nI wc), .ref pp, .ref pk, .ref wd, .ref lo, .int (nI sc), .ref kp, .ref ks, .int (nI nc), .int (nI 1)])) wd = some (.inl (k 0, 100, .inl (fun i_ => nI (sw i_)))) := (mp_up_n (mp_ne hwd h0 (by simp))).trans hwd
                    have hlo_n : mp_up M mo (.inr (4, [.ref el, .ref ek, .int (nI ec), .ref bg, .ref sz, .ref kn, .int (nI tc), .ref rw, .int (nI wc), .ref pp, .ref pk, .ref wd, .ref lo, .int (nI sc), .ref kp, .ref ks, .int (nI nc), .int (nI 1)])) lo = some (.inl (k 5, 100, .inl (fun i_ => nI (ml i_)))) := (mp_up_n (mp_ne hlo h0 (by simp))).trans hlo
                    have hkp_n : mp_up M mo (.inr (4, [.ref el, .ref ek, .int (nI ec), .ref bg, .ref sz, .ref kn, .int (nI tc), .ref rw, .int (nI wc), .ref pp, .ref pk, .ref wd, .ref lo, .int (nI sc), .ref kp, .ref ks, .int (nI nc), .int (nI 1)])) kp = some (.inl (k 1, 80000, .inr (.inl mk))) := (mp_up_n (mp_ne hkp h0 (by simp))).trans hkp
                    have hks_n : mp_up M mo (.inr (4, [.ref el, .ref ek, .int (nI ec), .ref bg, .ref sz, .ref kn, .int (nI tc), .ref rw, .int (nI wc), .ref pp, .ref pk, .ref wd, .ref lo, .int (nI sc), .ref kp, .ref ks, .int (nI nc), .int (nI 1)])) ks = some (.inl (k 0, 20, .inl (fun i_ => nI (nn i_)))) := (mp_up_n (mp_ne hks h0 (by simp))).trans hks
                    generalize eM_502 : mp_up M mo (.inr (4, [.ref el, .ref ek, .int (nI ec), .ref bg, .ref sz, .ref kn, .int (nI tc), .ref rw, .int (nI wc), .ref pp, .ref pk, .ref wd, .ref lo, .int (nI sc), .ref kp, .ref ks, .int (nI nc), .int (nI 1)])) = M_501 at I h0_n hel_n hek_n hbg_n hsz_n hkn_n hrw_n hpp_n hpk_n hwd_n hlo_n hkp_n hks_n
                    have h0__M_501 := h0_n
                    have hel__M_501 := hel_n
                    have hek__M_501 := hek_n
                    have hbg__M_501 := hbg_n
                    have hsz__M_501 := hsz_n
                    have hkn__M_501 := hkn_n
                    have hrw__M_501 := hrw_n
                    have hpp__M_501 := hpp_n
                    have hpk__M_501 := hpk_n
                    have hwd__M_501 := hwd_n
                    have hlo__M_501 := hlo_n
                    have hkp__M_501 := hkp_n
                    have hks__M_501 := hks_n
                    clear h0_n hel_n hek_n hbg_n hsz_n hkn_n hrw_n hpp_n hpk_n hwd_n hlo_n hkp_n hks_n
                    have hE := hE.cnt ec tc wc sc nc 1
                    rw [eM_502] at hE
                    refine lv_iload hx hb dM_act_133 (lv_at hl 0 rfl) ?_
                    refine zz_if_ne (tgt := 140) hx hb (nI_toInt (by decide)) dM_act_135 (by decide) (fun c_503 => absurd c_503 (by decide)) (fun _ => ?_)
                    refine lv_lconst (v := 0) hx hb dM_act_138 (by decide) ?_
                    exact mp_lret hx hb hr hlocks I (Nat.le_of_ble_eq_true rfl) (Nat.le_of_ble_eq_true rfl) dM_act_139 (Or.inr ⟨by intro hg; obtain ⟨g1, g2, g3, g4, g5⟩ := hg; rw [hxi] at g3 g4 g5; unfold aok at g3; first | omega | exact p4 (g4 (by omega)) | exact p5 (g5 (by omega)), rfl, hE⟩)
  · refine zz_if_eq (tgt := 22) hx hb (nI_toInt (by decide)) dM_act_5 (by decide) (fun _ => ?_) (fun c_504 => absurd c_504 (by decide))
    refine lv_iconst (v := nI 0) hx hb dM_act_22 (by decide) ?_
    refine lv_istore (lv' := [(7, .int (nI 0)), (0, .ref mo), (1, .int x), (2, .int act), (3, .long v), (5, .long w)]) hx hb dM_act_23 hl (by decide) rfl (fun ls hl => ?_)
    refine lv_iload hx hb dM_act_25 (lv_at hl 0 rfl) ?_
    refine zz_if_eq (tgt := 39) hx hb (nI_toInt (by decide)) dM_act_27 (by decide) (fun _ => ?_) (fun c_505 => absurd c_505 (by decide))
    refine lv_iconst (v := nI 0) hx hb dM_act_39 (by decide) ?_
    refine lv_istore (lv' := [(8, .int (nI 0)), (7, .int (nI 0)), (0, .ref mo), (1, .int x), (2, .int act), (3, .long v), (5, .long w)]) hx hb dM_act_40 hl (by decide) rfl (fun ls hl => ?_)
    refine lv_iload hx hb dM_act_42 (lv_at hl 1 rfl) ?_
    refine zz_if_eq (tgt := 74) hx hb (nI_toInt (by decide)) dM_act_44 (by decide) (fun _ => ?_) (fun c_506 => absurd c_506 (by decide))
    refine lv_iconst (v := nI 0) hx hb dM_act_74 (by decide) ?_
    refine lv_istore (lv' := [(7, .int (nI 0)), (8, .int (nI 0)), (0, .ref mo), (1, .int x), (2, .int act), (3, .long v), (5, .long w)]) hx hb dM_act_75 hl (by decide) rfl (fun ls hl => ?_)
    refine lv_iload hx hb dM_act_77 (lv_at hl 0 rfl) ?_
    refine zz_if_eq (tgt := 116) hx hb (nI_toInt (by decide)) dM_act_79 (by decide) (fun _ => ?_) (fun c_507 => absurd c_507 (by decide))
    refine lv_iconst (v := nI 0) hx hb dM_act_116 (by decide) ?_
    refine lv_istore (lv' := [(7, .int (nI 0)), (8, .int (nI 0)), (0, .ref mo), (1, .int x), (2, .int act), (3, .long v), (5, .long w)]) hx hb dM_act_117 hl (by decide) rfl (fun ls hl => ?_)
    refine lv_aload_n hx hb dM_act_119 rfl (lv_at hl 2 rfl) ?_
    refine lv_iload hx hb dM_act_120 (lv_at hl 0 rfl) ?_
    refine zz_if_eq (tgt := 129) hx hb (nI_toInt (by decide)) dM_act_122 (by decide) (fun _ => ?_) (fun c_508 => absurd c_508 (by decide))
    refine lv_iconst (v := nI 1) hx hb dM_act_129 (by decide) ?_
    refine mp_put (v := .int (nI 1)) (ty := .int) hx hb hts inM tyM okM nmM hown I h0 rfl 17 (by decide) (hts _ bw_348) (fun _ h9 => h9) rfl (by decide +kernel) rfl rfl (Nat.le_of_ble_eq_true rfl) dM_act_130 (fun H locs I => ?_)
    have I : mp_I D cls5 (tys6 k) s _ s.heap H locs (mp_up M mo (.inr (4, [.ref el, .ref ek, .int (nI ec), .ref bg, .ref sz, .ref kn, .int (nI tc), .ref rw, .int (nI wc), .ref pp, .ref pk, .ref wd, .ref lo, .int (nI sc), .ref kp, .ref ks, .int (nI nc), .int (nI 1)]))) := I
    have h0_n : mp_up M mo (.inr (4, [.ref el, .ref ek, .int (nI ec), .ref bg, .ref sz, .ref kn, .int (nI tc), .ref rw, .int (nI wc), .ref pp, .ref pk, .ref wd, .ref lo, .int (nI sc), .ref kp, .ref ks, .int (nI nc), .int (nI 1)])) mo = some (.inr (4, [.ref el, .ref ek, .int (nI ec), .ref bg, .ref sz, .ref kn, .int (nI tc), .ref rw, .int (nI wc), .ref pp, .ref pk, .ref wd, .ref lo, .int (nI sc), .ref kp, .ref ks, .int (nI nc), .int (nI 1)])) := mp_up_s _ _ _
    have hel_n : mp_up M mo (.inr (4, [.ref el, .ref ek, .int (nI ec), .ref bg, .ref sz, .ref kn, .int (nI tc), .ref rw, .int (nI wc), .ref pp, .ref pk, .ref wd, .ref lo, .int (nI sc), .ref kp, .ref ks, .int (nI nc), .int (nI 1)])) el = some (.inl (k 1, 4000, .inr (.inl va))) := (mp_up_n (mp_ne hel h0 (by simp))).trans hel
    have hek_n : mp_up M mo (.inr (4, [.ref el, .ref ek, .int (nI ec), .ref bg, .ref sz, .ref kn, .int (nI tc), .ref rw, .int (nI wc), .ref pp, .ref pk, .ref wd, .ref lo, .int (nI sc), .ref kp, .ref ks, .int (nI nc), .int (nI 1)])) ek = some (.inl (k 0, 4000, .inl (fun i_ => nI (kd i_)))) := (mp_up_n (mp_ne hek h0 (by simp))).trans hek
    have hbg_n : mp_up M mo (.inr (4, [.ref el, .ref ek, .int (nI ec), .ref bg, .ref sz, .ref kn, .int (nI tc), .ref rw, .int (nI wc), .ref pp, .ref pk, .ref wd, .ref lo, .int (nI sc), .ref kp, .ref ks, .int (nI nc), .int (nI 1)])) bg = some (.inl (k 0, 300, .inl (fun i_ => nI (tf i_)))) := (mp_up_n (mp_ne hbg h0 (by simp))).trans hbg
    have hsz_n : mp_up M mo (.inr (4, [.ref el, .ref ek, .int (nI ec), .ref bg, .ref sz, .ref kn, .int (nI tc), .ref rw, .int (nI wc), .ref pp, .ref pk, .ref wd, .ref lo, .int (nI sc), .ref kp, .ref ks, .int (nI nc), .int (nI 1)])) sz = some (.inl (k 0, 300, .inl (fun i_ => nI (tz i_)))) := (mp_up_n (mp_ne hsz h0 (by simp))).trans hsz
    have hkn_n : mp_up M mo (.inr (4, [.ref el, .ref ek, .int (nI ec), .ref bg, .ref sz, .ref kn, .int (nI tc), .ref rw, .int (nI wc), .ref pp, .ref pk, .ref wd, .ref lo, .int (nI sc), .ref kp, .ref ks, .int (nI nc), .int (nI 1)])) kn = some (.inl (k 0, 300, .inl (fun i_ => nI (tk i_)))) := (mp_up_n (mp_ne hkn h0 (by simp))).trans hkn
    have hrw_n : mp_up M mo (.inr (4, [.ref el, .ref ek, .int (nI ec), .ref bg, .ref sz, .ref kn, .int (nI tc), .ref rw, .int (nI wc), .ref pp, .ref pk, .ref wd, .ref lo, .int (nI sc), .ref kp, .ref ks, .int (nI nc), .int (nI 1)])) rw = some (.inl (k 0, 12, .inl (fun i_ => nI (wt i_)))) := (mp_up_n (mp_ne hrw h0 (by simp))).trans hrw
    have hpp_n : mp_up M mo (.inr (4, [.ref el, .ref ek, .int (nI ec), .ref bg, .ref sz, .ref kn, .int (nI tc), .ref rw, .int (nI wc), .ref pp, .ref pk, .ref wd, .ref lo, .int (nI sc), .ref kp, .ref ks, .int (nI nc), .int (nI 1)])) pp = some (.inl (k 0, 100, .inl (fun i_ => nI (sf i_)))) := (mp_up_n (mp_ne hpp h0 (by simp))).trans hpp
    have hpk_n : mp_up M mo (.inr (4, [.ref el, .ref ek, .int (nI ec), .ref bg, .ref sz, .ref kn, .int (nI tc), .ref rw, .int (nI wc), .ref pp, .ref pk, .ref wd, .ref lo, .int (nI sc), .ref kp, .ref ks, .int (nI nc), .int (nI 1)])) pk = some (.inl (k 0, 100, .inl (fun i_ => nI (sk i_)))) := (mp_up_n (mp_ne hpk h0 (by simp))).trans hpk
    have hwd_n : mp_up M mo (.inr (4, [.ref el, .ref ek, .int (nI ec), .ref bg, .ref sz, .ref kn, .int (nI tc), .ref rw, .int (nI wc), .ref pp, .ref pk, .ref wd, .ref lo, .int (nI sc), .ref kp, .ref ks, .int (nI nc), .int (nI 1)])) wd = some (.inl (k 0, 100, .inl (fun i_ => nI (sw i_)))) := (mp_up_n (mp_ne hwd h0 (by simp))).trans hwd
    have hlo_n : mp_up M mo (.inr (4, [.ref el, .ref ek, .int (nI ec), .ref bg, .ref sz, .ref kn, .int (nI tc), .ref rw, .int (nI wc), .ref pp, .ref pk, .ref wd, .ref lo, .int (nI sc), .ref kp, .ref ks, .int (nI nc), .int (nI 1)])) lo = some (.inl (k 5, 100, .inl (fun i_ => nI (ml i_)))) := (mp_up_n (mp_ne hlo h0 (by simp))).trans hlo
    have hkp_n : mp_up M mo (.inr (4, [.ref el, .ref ek, .int (nI ec), .ref bg, .ref sz, .ref kn, .int (nI tc), .ref rw, .int (nI wc), .ref pp, .ref pk, .ref wd, .ref lo, .int (nI sc), .ref kp, .ref ks, .int (nI nc), .int (nI 1)])) kp = some (.inl (k 1, 80000, .inr (.inl mk))) := (mp_up_n (mp_ne hkp h0 (by simp))).trans hkp
    have hks_n : mp_up M mo (.inr (4, [.ref el, .ref ek, .int (nI ec), .ref bg, .ref sz, .ref kn, .int (nI tc), .ref rw, .int (nI wc), .ref pp, .ref pk, .ref wd, .ref lo, .int (nI sc), .ref kp, .ref ks, .int (nI nc), .int (nI 1)])) ks = some (.inl (k 0, 20, .inl (fun i_ => nI (nn i_)))) := (mp_up_n (mp_ne hks h0 (by simp))).trans hks
    generalize eM_510 : mp_up M mo (.inr (4, [.ref el, .ref ek, .int (nI ec), .ref bg, .ref sz, .ref kn, .int (nI tc), .ref rw, .int (nI wc), .ref pp, .ref pk, .ref wd, .ref lo, .int (nI sc), .ref kp, .ref ks, .int (nI nc), .int (nI 1)])) = M_509 at I h0_n hel_n hek_n hbg_n hsz_n hkn_n hrw_n hpp_n hpk_n hwd_n hlo_n hkp_n hks_n
    have h0__M_509 := h0_n
    have hel__M_509 := hel_n
    have hek__M_509 := hek_n
    have hbg__M_509 := hbg_n
    have hsz__M_509 := hsz_n
    have hkn__M_509 := hkn_n
    have hrw__M_509 := hrw_n
    have hpp__M_509 := hpp_n
    have hpk__M_509 := hpk_n
    have hwd__M_509 := hwd_n
    have hlo__M_509 := hlo_n
    have hkp__M_509 := hkp_n
    have hks__M_509 := hks_n
    clear h0_n hel_n hek_n hbg_n hsz_n hkn_n hrw_n hpp_n hpk_n hwd_n hlo_n hkp_n hks_n
    have hE := hE.cnt ec tc wc sc nc 1
    rw [eM_510] at hE
    refine lv_iload hx hb dM_act_133 (lv_at hl 0 rfl) ?_
    refine zz_if_ne (tgt := 140) hx hb (nI_toInt (by decide)) dM_act_135 (by decide) (fun c_511 => absurd c_511 (by decide)) (fun _ => ?_)
    refine lv_lconst (v := 0) hx hb dM_act_138 (by decide) ?_
    exact mp_lret hx hb hr hlocks I (Nat.le_of_ble_eq_true rfl) (Nat.le_of_ble_eq_true rfl) dM_act_139 (Or.inr ⟨by intro hg; obtain ⟨g1, g2, g3, g4, g5⟩ := hg; unfold aok at g3; first | omega | exact p4 (g4 (by omega)) | exact p5 (g5 (by omega)), rfl, hE⟩)
abbrev rm_M_init : Room := { frames := 1, cells := 12, slots := 89332, locals := 20 }
set_option maxHeartbeats 4000000 in
set_option maxRecDepth 100000 in
theorem kM_init (l : Launch) (D : va_G) (k : Nat → ClassId) (M : mp_M) (mo : Nat) (h0 : M mo = some (.inr (4, [.null, .null, .int 0, .null, .null, .null, .int 0, .null, .int 0, .null, .null, .null, .null, .int 0, .null, .null, .int 0, .int 0]))) : mp_Met l yM_init (Cond.code yM_init cM_init 1 none :: bw) rm_M_init D cls5 (tys6 k) [.ref mo] M (va_Qv (fun M1 => ∃ el ek bg sz kn rw pp pk wd lo kp ks : Nat, MdX k M1 mo el ek bg sz kn rw pp pk wd lo kp ks 0 0 0 0 0 0 (fun _ => 0) (fun _ => 0) (fun _ => 0) (fun _ => 0) (fun _ => 0) (fun _ => 0) (fun _ => 0) (fun _ => 0) (fun _ => 0) (fun _ => 0) (fun _ => 0) (fun _ => 0))) 12 89332 := by
  refine mp_Met.of (by decide) (Nat.le_of_ble_eq_true rfl) ?_
  intro p e s m below meth c hx hb hr hml hown hts hlocks hin ls hl I
  have hl : lv_has ls 1 [(0, .ref mo)] := hl
  refine lv_aload_n hx hb dM_init_0 rfl (lv_at hl 0 rfl) ?_
  refine W.objInit hx hb hown (hts _ bw_329) (hts _ bw_18) (hts _ bw_19) rfl (by rw [hml]; exact hl.1) rfl dM_init_1 (Nat.le_of_ble_eq_true rfl) (Nat.le_of_ble_eq_true rfl) ?_
  refine W.eq (g2 := F0 m 4 ls []) rfl ?_
  refine lv_aload_n hx hb dM_init_4 rfl (lv_at hl 0 rfl) ?_
  refine lv_sipush (v := nI 4000) hx hb dM_init_5 (by decide) ?_
  refine mp_newa (atype := .long) (ty := .long) (a0 := (4000, .inr (.inl (fun _ => 0)))) hx hb (hts _ bw_60) rfl I 1 rfl (fun _ h => h) (fun _ => rfl) (by decide) (nI_clamp (by decide)) (by decide) (Nat.le_of_ble_eq_true rfl) (Nat.le_of_ble_eq_true rfl) dM_init_8 (fun q1 H hq_1 I => ?_)
  have n_mo_q1 : mo ≠ q1 := mp_none_ne h0 hq_1
  have hqq1_n : mp_up M q1 (.inl (k 1, 4000, .inr (.inl (fun _ => 0)))) q1 = some (.inl (k 1, 4000, .inr (.inl (fun _ => 0)))) := mp_up_s _ _ _
  have h0_n : mp_up M q1 (.inl (k 1, 4000, .inr (.inl (fun _ => 0)))) mo = some (.inr (4, [.null, .null, .int 0, .null, .null, .null, .int 0, .null, .int 0, .null, .null, .null, .null, .int 0, .null, .null, .int 0, .int 0])) := (mp_up_n (fun z => by rw [z, hq_1] at h0; cases h0)).trans h0
  generalize eM_3 : mp_up M q1 (.inl (k 1, 4000, .inr (.inl (fun _ => 0)))) = M_2 at I hqq1_n h0_n
  have h0__M_2 := h0_n
  have hqq1__M_2 := hqq1_n
  clear hqq1_n h0_n
  refine mp_putF (v := .ref q1) (ty := .array .long) hx hb hts inM tyM okM nmM hown I h0__M_2 rfl 0 (by decide) (hts _ bw_331) (fun _ h9 => h9) rfl hin rfl (by decide +kernel) rfl rfl (Nat.le_of_ble_eq_true rfl) dM_init_10 (fun H locs I => ?_)
  have I : mp_I D cls5 (tys6 k) s _ s.heap H locs (mp_up M_2 mo (.inr (4, [.ref q1, .null, .int 0, .null, .null, .null, .int 0, .null, .int 0, .null, .null, .null, .null, .int 0, .null, .null, .int 0, .int 0]))) := I
  have h0__M_2_n : mp_up M_2 mo (.inr (4, [.ref q1, .null, .int 0, .null, .null, .null, .int 0, .null, .int 0, .null, .null, .null, .null, .int 0, .null, .null, .int 0, .int 0])) mo = some (.inr (4, [.ref q1, .null, .int 0, .null, .null, .null, .int 0, .null, .int 0, .null, .null, .null, .null, .int 0, .null, .null, .int 0, .int 0])) := mp_up_s _ _ _
  have hqq1__M_2_n : mp_up M_2 mo (.inr (4, [.ref q1, .null, .int 0, .null, .null, .null, .int 0, .null, .int 0, .null, .null, .null, .null, .int 0, .null, .null, .int 0, .int 0])) q1 = some (.inl (k 1, 4000, .inr (.inl (fun _ => 0)))) := (mp_up_n (mp_ne hqq1__M_2 h0__M_2 (by simp))).trans hqq1__M_2
  generalize eM_5 : mp_up M_2 mo (.inr (4, [.ref q1, .null, .int 0, .null, .null, .null, .int 0, .null, .int 0, .null, .null, .null, .null, .int 0, .null, .null, .int 0, .int 0])) = M_4 at I h0__M_2_n hqq1__M_2_n
  have h0__M_4 := h0__M_2_n
  have hqq1__M_4 := hqq1__M_2_n
  clear h0__M_2_n hqq1__M_2_n
  refine lv_aload_n hx hb dM_init_13 rfl (lv_at hl 0 rfl) ?_
  refine lv_sipush (v := nI 4000) hx hb dM_init_14 (by decide) ?_
  refine mp_newa (atype := .int) (ty := .int) (a0 := (4000, .inl (fun i_ => nI ((fun _ => 0) i_)))) hx hb (hts _ bw_61) rfl I 0 rfl (fun _ h => h) (fun _ => rfl) (by decide) (nI_clamp (by decide)) (by decide) (Nat.le_of_ble_eq_true rfl) (Nat.le_of_ble_eq_true rfl) dM_init_17 (fun q2 H hq_6 I => ?_)
  have n_mo_q2 : mo ≠ q2 := mp_none_ne h0__M_4 hq_6
  have n_q1_q2 : q1 ≠ q2 := mp_none_ne hqq1__M_4 hq_6
  have hqq2_n : mp_up M_4 q2 (.inl (k 0, 4000, .inl (fun i_ => nI ((fun _ => 0) i_)))) q2 = some (.inl (k 0, 4000, .inl (fun i_ => nI ((fun _ => 0) i_)))) := mp_up_s _ _ _
  have h0__M_4_n : mp_up M_4 q2 (.inl (k 0, 4000, .inl (fun i_ => nI ((fun _ => 0) i_)))) mo = some (.inr (4, [.ref q1, .null, .int 0, .null, .null, .null, .int 0, .null, .int 0, .null, .null, .null, .null, .int 0, .null, .null, .int 0, .int 0])) := (mp_up_n (fun z => by rw [z, hq_6] at h0__M_4; cases h0__M_4)).trans h0__M_4
  have hqq1__M_4_n : mp_up M_4 q2 (.inl (k 0, 4000, .inl (fun i_ => nI ((fun _ => 0) i_)))) q1 = some (.inl (k 1, 4000, .inr (.inl (fun _ => 0)))) := (mp_up_n (fun z => by rw [z, hq_6] at hqq1__M_4; cases hqq1__M_4)).trans hqq1__M_4
  generalize eM_8 : mp_up M_4 q2 (.inl (k 0, 4000, .inl (fun i_ => nI ((fun _ => 0) i_)))) = M_7 at I hqq2_n h0__M_4_n hqq1__M_4_n
  have h0__M_7 := h0__M_4_n
  have hqq1__M_7 := hqq1__M_4_n
  have hqq2__M_7 := hqq2_n
  clear hqq2_n h0__M_4_n hqq1__M_4_n
  refine mp_putF (v := .ref q2) (ty := .array .int) hx hb hts inM tyM okM nmM hown I h0__M_7 rfl 1 (by decide) (hts _ bw_332) (fun _ h9 => h9) rfl hin rfl (by decide +kernel) rfl rfl (Nat.le_of_ble_eq_true rfl) dM_init_19 (fun H locs I => ?_)
  have I : mp_I D cls5 (tys6 k) s _ s.heap H locs (mp_up M_7 mo (.inr (4, [.ref q1, .ref q2, .int 0, .null, .null, .null, .int 0, .null, .int 0, .null, .null, .null, .null, .int 0, .null, .null, .int 0, .int 0]))) := I
  have h0__M_7_n : mp_up M_7 mo (.inr (4, [.ref q1, .ref q2, .int 0, .null, .null, .null, .int 0, .null, .int 0, .null, .null, .null, .null, .int 0, .null, .null, .int 0, .int 0])) mo = some (.inr (4, [.ref q1, .ref q2, .int 0, .null, .null, .null, .int 0, .null, .int 0, .null, .null, .null, .null, .int 0, .null, .null, .int 0, .int 0])) := mp_up_s _ _ _
  have hqq1__M_7_n : mp_up M_7 mo (.inr (4, [.ref q1, .ref q2, .int 0, .null, .null, .null, .int 0, .null, .int 0, .null, .null, .null, .null, .int 0, .null, .null, .int 0, .int 0])) q1 = some (.inl (k 1, 4000, .inr (.inl (fun _ => 0)))) := (mp_up_n (mp_ne hqq1__M_7 h0__M_7 (by simp))).trans hqq1__M_7
  have hqq2__M_7_n : mp_up M_7 mo (.inr (4, [.ref q1, .ref q2, .int 0, .null, .null, .null, .int 0, .null, .int 0, .null, .null, .null, .null, .int 0, .null, .null, .int 0, .int 0])) q2 = some (.inl (k 0, 4000, .inl (fun i_ => nI ((fun _ => 0) i_)))) := (mp_up_n (mp_ne hqq2__M_7 h0__M_7 (by simp))).trans hqq2__M_7
  generalize eM_10 : mp_up M_7 mo (.inr (4, [.ref q1, .ref q2, .int 0, .null, .null, .null, .int 0, .null, .int 0, .null, .null, .null, .null, .int 0, .null, .null, .int 0, .int 0])) = M_9 at I h0__M_7_n hqq1__M_7_n hqq2__M_7_n
  have h0__M_9 := h0__M_7_n
  have hqq1__M_9 := hqq1__M_7_n
  have hqq2__M_9 := hqq2__M_7_n
  clear h0__M_7_n hqq1__M_7_n hqq2__M_7_n
  refine lv_aload_n hx hb dM_init_22 rfl (lv_at hl 0 rfl) ?_
  refine lv_sipush (v := nI 300) hx hb dM_init_23 (by decide) ?_
  refine mp_newa (atype := .int) (ty := .int) (a0 := (300, .inl (fun i_ => nI ((fun _ => 0) i_)))) hx hb (hts _ bw_61) rfl I 0 rfl (fun _ h => h) (fun _ => rfl) (by decide) (nI_clamp (by decide)) (by decide) (Nat.le_of_ble_eq_true rfl) (Nat.le_of_ble_eq_true rfl) dM_init_26 (fun q3 H hq_11 I => ?_)
  have n_mo_q3 : mo ≠ q3 := mp_none_ne h0__M_9 hq_11
  have n_q1_q3 : q1 ≠ q3 := mp_none_ne hqq1__M_9 hq_11
  have n_q2_q3 : q2 ≠ q3 := mp_none_ne hqq2__M_9 hq_11
  have hqq3_n : mp_up M_9 q3 (.inl (k 0, 300, .inl (fun i_ => nI ((fun _ => 0) i_)))) q3 = some (.inl (k 0, 300, .inl (fun i_ => nI ((fun _ => 0) i_)))) := mp_up_s _ _ _
  have h0__M_9_n : mp_up M_9 q3 (.inl (k 0, 300, .inl (fun i_ => nI ((fun _ => 0) i_)))) mo = some (.inr (4, [.ref q1, .ref q2, .int 0, .null, .null, .null, .int 0, .null, .int 0, .null, .null, .null, .null, .int 0, .null, .null, .int 0, .int 0])) := (mp_up_n (fun z => by rw [z, hq_11] at h0__M_9; cases h0__M_9)).trans h0__M_9
  have hqq1__M_9_n : mp_up M_9 q3 (.inl (k 0, 300, .inl (fun i_ => nI ((fun _ => 0) i_)))) q1 = some (.inl (k 1, 4000, .inr (.inl (fun _ => 0)))) := (mp_up_n (fun z => by rw [z, hq_11] at hqq1__M_9; cases hqq1__M_9)).trans hqq1__M_9
  have hqq2__M_9_n : mp_up M_9 q3 (.inl (k 0, 300, .inl (fun i_ => nI ((fun _ => 0) i_)))) q2 = some (.inl (k 0, 4000, .inl (fun i_ => nI ((fun _ => 0) i_)))) := (mp_up_n (fun z => by rw [z, hq_11] at hqq2__M_9; cases hqq2__M_9)).trans hqq2__M_9
  generalize eM_13 : mp_up M_9 q3 (.inl (k 0, 300, .inl (fun i_ => nI ((fun _ => 0) i_)))) = M_12 at I hqq3_n h0__M_9_n hqq1__M_9_n hqq2__M_9_n
  have h0__M_12 := h0__M_9_n
  have hqq1__M_12 := hqq1__M_9_n
  have hqq2__M_12 := hqq2__M_9_n
  have hqq3__M_12 := hqq3_n
  clear hqq3_n h0__M_9_n hqq1__M_9_n hqq2__M_9_n
  refine mp_putF (v := .ref q3) (ty := .array .int) hx hb hts inM tyM okM nmM hown I h0__M_12 rfl 3 (by decide) (hts _ bw_334) (fun _ h9 => h9) rfl hin rfl (by decide +kernel) rfl rfl (Nat.le_of_ble_eq_true rfl) dM_init_28 (fun H locs I => ?_)
  have I : mp_I D cls5 (tys6 k) s _ s.heap H locs (mp_up M_12 mo (.inr (4, [.ref q1, .ref q2, .int 0, .ref q3, .null, .null, .int 0, .null, .int 0, .null, .null, .null, .null, .int 0, .null, .null, .int 0, .int 0]))) := I
  have h0__M_12_n : mp_up M_12 mo (.inr (4, [.ref q1, .ref q2, .int 0, .ref q3, .null, .null, .int 0, .null, .int 0, .null, .null, .null, .null, .int 0, .null, .null, .int 0, .int 0])) mo = some (.inr (4, [.ref q1, .ref q2, .int 0, .ref q3, .null, .null, .int 0, .null, .int 0, .null, .null, .null, .null, .int 0, .null, .null, .int 0, .int 0])) := mp_up_s _ _ _
  have hqq1__M_12_n : mp_up M_12 mo (.inr (4, [.ref q1, .ref q2, .int 0, .ref q3, .null, .null, .int 0, .null, .int 0, .null, .null, .null, .null, .int 0, .null, .null, .int 0, .int 0])) q1 = some (.inl (k 1, 4000, .inr (.inl (fun _ => 0)))) := (mp_up_n (mp_ne hqq1__M_12 h0__M_12 (by simp))).trans hqq1__M_12
  have hqq2__M_12_n : mp_up M_12 mo (.inr (4, [.ref q1, .ref q2, .int 0, .ref q3, .null, .null, .int 0, .null, .int 0, .null, .null, .null, .null, .int 0, .null, .null, .int 0, .int 0])) q2 = some (.inl (k 0, 4000, .inl (fun i_ => nI ((fun _ => 0) i_)))) := (mp_up_n (mp_ne hqq2__M_12 h0__M_12 (by simp))).trans hqq2__M_12
  have hqq3__M_12_n : mp_up M_12 mo (.inr (4, [.ref q1, .ref q2, .int 0, .ref q3, .null, .null, .int 0, .null, .int 0, .null, .null, .null, .null, .int 0, .null, .null, .int 0, .int 0])) q3 = some (.inl (k 0, 300, .inl (fun i_ => nI ((fun _ => 0) i_)))) := (mp_up_n (mp_ne hqq3__M_12 h0__M_12 (by simp))).trans hqq3__M_12
  generalize eM_15 : mp_up M_12 mo (.inr (4, [.ref q1, .ref q2, .int 0, .ref q3, .null, .null, .int 0, .null, .int 0, .null, .null, .null, .null, .int 0, .null, .null, .int 0, .int 0])) = M_14 at I h0__M_12_n hqq1__M_12_n hqq2__M_12_n hqq3__M_12_n
  have h0__M_14 := h0__M_12_n
  have hqq1__M_14 := hqq1__M_12_n
  have hqq2__M_14 := hqq2__M_12_n
  have hqq3__M_14 := hqq3__M_12_n
  clear h0__M_12_n hqq1__M_12_n hqq2__M_12_n hqq3__M_12_n
  refine lv_aload_n hx hb dM_init_31 rfl (lv_at hl 0 rfl) ?_
  refine lv_sipush (v := nI 300) hx hb dM_init_32 (by decide) ?_
  refine mp_newa (atype := .int) (ty := .int) (a0 := (300, .inl (fun i_ => nI ((fun _ => 0) i_)))) hx hb (hts _ bw_61) rfl I 0 rfl (fun _ h => h) (fun _ => rfl) (by decide) (nI_clamp (by decide)) (by decide) (Nat.le_of_ble_eq_true rfl) (Nat.le_of_ble_eq_true rfl) dM_init_35 (fun q4 H hq_16 I => ?_)
  have n_mo_q4 : mo ≠ q4 := mp_none_ne h0__M_14 hq_16
  have n_q1_q4 : q1 ≠ q4 := mp_none_ne hqq1__M_14 hq_16
  have n_q2_q4 : q2 ≠ q4 := mp_none_ne hqq2__M_14 hq_16
  have n_q3_q4 : q3 ≠ q4 := mp_none_ne hqq3__M_14 hq_16
  have hqq4_n : mp_up M_14 q4 (.inl (k 0, 300, .inl (fun i_ => nI ((fun _ => 0) i_)))) q4 = some (.inl (k 0, 300, .inl (fun i_ => nI ((fun _ => 0) i_)))) := mp_up_s _ _ _
  have h0__M_14_n : mp_up M_14 q4 (.inl (k 0, 300, .inl (fun i_ => nI ((fun _ => 0) i_)))) mo = some (.inr (4, [.ref q1, .ref q2, .int 0, .ref q3, .null, .null, .int 0, .null, .int 0, .null, .null, .null, .null, .int 0, .null, .null, .int 0, .int 0])) := (mp_up_n (fun z => by rw [z, hq_16] at h0__M_14; cases h0__M_14)).trans h0__M_14
  have hqq1__M_14_n : mp_up M_14 q4 (.inl (k 0, 300, .inl (fun i_ => nI ((fun _ => 0) i_)))) q1 = some (.inl (k 1, 4000, .inr (.inl (fun _ => 0)))) := (mp_up_n (fun z => by rw [z, hq_16] at hqq1__M_14; cases hqq1__M_14)).trans hqq1__M_14
  have hqq2__M_14_n : mp_up M_14 q4 (.inl (k 0, 300, .inl (fun i_ => nI ((fun _ => 0) i_)))) q2 = some (.inl (k 0, 4000, .inl (fun i_ => nI ((fun _ => 0) i_)))) := (mp_up_n (fun z => by rw [z, hq_16] at hqq2__M_14; cases hqq2__M_14)).trans hqq2__M_14
  have hqq3__M_14_n : mp_up M_14 q4 (.inl (k 0, 300, .inl (fun i_ => nI ((fun _ => 0) i_)))) q3 = some (.inl (k 0, 300, .inl (fun i_ => nI ((fun _ => 0) i_)))) := (mp_up_n (fun z => by rw [z, hq_16] at hqq3__M_14; cases hqq3__M_14)).trans hqq3__M_14
  generalize eM_18 : mp_up M_14 q4 (.inl (k 0, 300, .inl (fun i_ => nI ((fun _ => 0) i_)))) = M_17 at I hqq4_n h0__M_14_n hqq1__M_14_n hqq2__M_14_n hqq3__M_14_n
  have h0__M_17 := h0__M_14_n
  have hqq1__M_17 := hqq1__M_14_n
  have hqq2__M_17 := hqq2__M_14_n
  have hqq3__M_17 := hqq3__M_14_n
  have hqq4__M_17 := hqq4_n
  clear hqq4_n h0__M_14_n hqq1__M_14_n hqq2__M_14_n hqq3__M_14_n
  refine mp_putF (v := .ref q4) (ty := .array .int) hx hb hts inM tyM okM nmM hown I h0__M_17 rfl 4 (by decide) (hts _ bw_335) (fun _ h9 => h9) rfl hin rfl (by decide +kernel) rfl rfl (Nat.le_of_ble_eq_true rfl) dM_init_37 (fun H locs I => ?_)
  have I : mp_I D cls5 (tys6 k) s _ s.heap H locs (mp_up M_17 mo (.inr (4, [.ref q1, .ref q2, .int 0, .ref q3, .ref q4, .null, .int 0, .null, .int 0, .null, .null, .null, .null, .int 0, .null, .null, .int 0, .int 0]))) := I
  have h0__M_17_n : mp_up M_17 mo (.inr (4, [.ref q1, .ref q2, .int 0, .ref q3, .ref q4, .null, .int 0, .null, .int 0, .null, .null, .null, .null, .int 0, .null, .null, .int 0, .int 0])) mo = some (.inr (4, [.ref q1, .ref q2, .int 0, .ref q3, .ref q4, .null, .int 0, .null, .int 0, .null, .null, .null, .null, .int 0, .null, .null, .int 0, .int 0])) := mp_up_s _ _ _
  have hqq1__M_17_n : mp_up M_17 mo (.inr (4, [.ref q1, .ref q2, .int 0, .ref q3, .ref q4, .null, .int 0, .null, .int 0, .null, .null, .null, .null, .int 0, .null, .null, .int 0, .int 0])) q1 = some (.inl (k 1, 4000, .inr (.inl (fun _ => 0)))) := (mp_up_n (mp_ne hqq1__M_17 h0__M_17 (by simp))).trans hqq1__M_17
  have hqq2__M_17_n : mp_up M_17 mo (.inr (4, [.ref q1, .ref q2, .int 0, .ref q3, .ref q4, .null, .int 0, .null, .int 0, .null, .null, .null, .null, .int 0, .null, .null, .int 0, .int 0])) q2 = some (.inl (k 0, 4000, .inl (fun i_ => nI ((fun _ => 0) i_)))) := (mp_up_n (mp_ne hqq2__M_17 h0__M_17 (by simp))).trans hqq2__M_17
  have hqq3__M_17_n : mp_up M_17 mo (.inr (4, [.ref q1, .ref q2, .int 0, .ref q3, .ref q4, .null, .int 0, .null, .int 0, .null, .null, .null, .null, .int 0, .null, .null, .int 0, .int 0])) q3 = some (.inl (k 0, 300, .inl (fun i_ => nI ((fun _ => 0) i_)))) := (mp_up_n (mp_ne hqq3__M_17 h0__M_17 (by simp))).trans hqq3__M_17
  have hqq4__M_17_n : mp_up M_17 mo (.inr (4, [.ref q1, .ref q2, .int 0, .ref q3, .ref q4, .null, .int 0, .null, .int 0, .null, .null, .null, .null, .int 0, .null, .null, .int 0, .int 0])) q4 = some (.inl (k 0, 300, .inl (fun i_ => nI ((fun _ => 0) i_)))) := (mp_up_n (mp_ne hqq4__M_17 h0__M_17 (by simp))).trans hqq4__M_17
  generalize eM_20 : mp_up M_17 mo (.inr (4, [.ref q1, .ref q2, .int 0, .ref q3, .ref q4, .null, .int 0, .null, .int 0, .null, .null, .null, .null, .int 0, .null, .null, .int 0, .int 0])) = M_19 at I h0__M_17_n hqq1__M_17_n hqq2__M_17_n hqq3__M_17_n hqq4__M_17_n
  have h0__M_19 := h0__M_17_n
  have hqq1__M_19 := hqq1__M_17_n
  have hqq2__M_19 := hqq2__M_17_n
  have hqq3__M_19 := hqq3__M_17_n
  have hqq4__M_19 := hqq4__M_17_n
  clear h0__M_17_n hqq1__M_17_n hqq2__M_17_n hqq3__M_17_n hqq4__M_17_n
  refine lv_aload_n hx hb dM_init_40 rfl (lv_at hl 0 rfl) ?_
  refine lv_sipush (v := nI 300) hx hb dM_init_41 (by decide) ?_
  refine mp_newa (atype := .int) (ty := .int) (a0 := (300, .inl (fun i_ => nI ((fun _ => 0) i_)))) hx hb (hts _ bw_61) rfl I 0 rfl (fun _ h => h) (fun _ => rfl) (by decide) (nI_clamp (by decide)) (by decide) (Nat.le_of_ble_eq_true rfl) (Nat.le_of_ble_eq_true rfl) dM_init_44 (fun q5 H hq_21 I => ?_)
  have n_mo_q5 : mo ≠ q5 := mp_none_ne h0__M_19 hq_21
  have n_q1_q5 : q1 ≠ q5 := mp_none_ne hqq1__M_19 hq_21
  have n_q2_q5 : q2 ≠ q5 := mp_none_ne hqq2__M_19 hq_21
  have n_q3_q5 : q3 ≠ q5 := mp_none_ne hqq3__M_19 hq_21
  have n_q4_q5 : q4 ≠ q5 := mp_none_ne hqq4__M_19 hq_21
  have hqq5_n : mp_up M_19 q5 (.inl (k 0, 300, .inl (fun i_ => nI ((fun _ => 0) i_)))) q5 = some (.inl (k 0, 300, .inl (fun i_ => nI ((fun _ => 0) i_)))) := mp_up_s _ _ _
  have h0__M_19_n : mp_up M_19 q5 (.inl (k 0, 300, .inl (fun i_ => nI ((fun _ => 0) i_)))) mo = some (.inr (4, [.ref q1, .ref q2, .int 0, .ref q3, .ref q4, .null, .int 0, .null, .int 0, .null, .null, .null, .null, .int 0, .null, .null, .int 0, .int 0])) := (mp_up_n (fun z => by rw [z, hq_21] at h0__M_19; cases h0__M_19)).trans h0__M_19
  have hqq1__M_19_n : mp_up M_19 q5 (.inl (k 0, 300, .inl (fun i_ => nI ((fun _ => 0) i_)))) q1 = some (.inl (k 1, 4000, .inr (.inl (fun _ => 0)))) := (mp_up_n (fun z => by rw [z, hq_21] at hqq1__M_19; cases hqq1__M_19)).trans hqq1__M_19
  have hqq2__M_19_n : mp_up M_19 q5 (.inl (k 0, 300, .inl (fun i_ => nI ((fun _ => 0) i_)))) q2 = some (.inl (k 0, 4000, .inl (fun i_ => nI ((fun _ => 0) i_)))) := (mp_up_n (fun z => by rw [z, hq_21] at hqq2__M_19; cases hqq2__M_19)).trans hqq2__M_19
  have hqq3__M_19_n : mp_up M_19 q5 (.inl (k 0, 300, .inl (fun i_ => nI ((fun _ => 0) i_)))) q3 = some (.inl (k 0, 300, .inl (fun i_ => nI ((fun _ => 0) i_)))) := (mp_up_n (fun z => by rw [z, hq_21] at hqq3__M_19; cases hqq3__M_19)).trans hqq3__M_19
  have hqq4__M_19_n : mp_up M_19 q5 (.inl (k 0, 300, .inl (fun i_ => nI ((fun _ => 0) i_)))) q4 = some (.inl (k 0, 300, .inl (fun i_ => nI ((fun _ => 0) i_)))) := (mp_up_n (fun z => by rw [z, hq_21] at hqq4__M_19; cases hqq4__M_19)).trans hqq4__M_19
  generalize eM_23 : mp_up M_19 q5 (.inl (k 0, 300, .inl (fun i_ => nI ((fun _ => 0) i_)))) = M_22 at I hqq5_n h0__M_19_n hqq1__M_19_n hqq2__M_19_n hqq3__M_19_n hqq4__M_19_n
  have h0__M_22 := h0__M_19_n
  have hqq1__M_22 := hqq1__M_19_n
  have hqq2__M_22 := hqq2__M_19_n
  have hqq3__M_22 := hqq3__M_19_n
  have hqq4__M_22 := hqq4__M_19_n
  have hqq5__M_22 := hqq5_n
  clear hqq5_n h0__M_19_n hqq1__M_19_n hqq2__M_19_n hqq3__M_19_n hqq4__M_19_n
  refine mp_putF (v := .ref q5) (ty := .array .int) hx hb hts inM tyM okM nmM hown I h0__M_22 rfl 5 (by decide) (hts _ bw_336) (fun _ h9 => h9) rfl hin rfl (by decide +kernel) rfl rfl (Nat.le_of_ble_eq_true rfl) dM_init_46 (fun H locs I => ?_)
  have I : mp_I D cls5 (tys6 k) s _ s.heap H locs (mp_up M_22 mo (.inr (4, [.ref q1, .ref q2, .int 0, .ref q3, .ref q4, .ref q5, .int 0, .null, .int 0, .null, .null, .null, .null, .int 0, .null, .null, .int 0, .int 0]))) := I
  have h0__M_22_n : mp_up M_22 mo (.inr (4, [.ref q1, .ref q2, .int 0, .ref q3, .ref q4, .ref q5, .int 0, .null, .int 0, .null, .null, .null, .null, .int 0, .null, .null, .int 0, .int 0])) mo = some (.inr (4, [.ref q1, .ref q2, .int 0, .ref q3, .ref q4, .ref q5, .int 0, .null, .int 0, .null, .null, .null, .null, .int 0, .null, .null, .int 0, .int 0])) := mp_up_s _ _ _
  have hqq1__M_22_n : mp_up M_22 mo (.inr (4, [.ref q1, .ref q2, .int 0, .ref q3, .ref q4, .ref q5, .int 0, .null, .int 0, .null, .null, .null, .null, .int 0, .null, .null, .int 0, .int 0])) q1 = some (.inl (k 1, 4000, .inr (.inl (fun _ => 0)))) := (mp_up_n (mp_ne hqq1__M_22 h0__M_22 (by simp))).trans hqq1__M_22
  have hqq2__M_22_n : mp_up M_22 mo (.inr (4, [.ref q1, .ref q2, .int 0, .ref q3, .ref q4, .ref q5, .int 0, .null, .int 0, .null, .null, .null, .null, .int 0, .null, .null, .int 0, .int 0])) q2 = some (.inl (k 0, 4000, .inl (fun i_ => nI ((fun _ => 0) i_)))) := (mp_up_n (mp_ne hqq2__M_22 h0__M_22 (by simp))).trans hqq2__M_22
  have hqq3__M_22_n : mp_up M_22 mo (.inr (4, [.ref q1, .ref q2, .int 0, .ref q3, .ref q4, .ref q5, .int 0, .null, .int 0, .null, .null, .null, .null, .int 0, .null, .null, .int 0, .int 0])) q3 = some (.inl (k 0, 300, .inl (fun i_ => nI ((fun _ => 0) i_)))) := (mp_up_n (mp_ne hqq3__M_22 h0__M_22 (by simp))).trans hqq3__M_22
  have hqq4__M_22_n : mp_up M_22 mo (.inr (4, [.ref q1, .ref q2, .int 0, .ref q3, .ref q4, .ref q5, .int 0, .null, .int 0, .null, .null, .null, .null, .int 0, .null, .null, .int 0, .int 0])) q4 = some (.inl (k 0, 300, .inl (fun i_ => nI ((fun _ => 0) i_)))) := (mp_up_n (mp_ne hqq4__M_22 h0__M_22 (by simp))).trans hqq4__M_22
  have hqq5__M_22_n : mp_up M_22 mo (.inr (4, [.ref q1, .ref q2, .int 0, .ref q3, .ref q4, .ref q5, .int 0, .null, .int 0, .null, .null, .null, .null, .int 0, .null, .null, .int 0, .int 0])) q5 = some (.inl (k 0, 300, .inl (fun i_ => nI ((fun _ => 0) i_)))) := (mp_up_n (mp_ne hqq5__M_22 h0__M_22 (by simp))).trans hqq5__M_22
  generalize eM_25 : mp_up M_22 mo (.inr (4, [.ref q1, .ref q2, .int 0, .ref q3, .ref q4, .ref q5, .int 0, .null, .int 0, .null, .null, .null, .null, .int 0, .null, .null, .int 0, .int 0])) = M_24 at I h0__M_22_n hqq1__M_22_n hqq2__M_22_n hqq3__M_22_n hqq4__M_22_n hqq5__M_22_n
  have h0__M_24 := h0__M_22_n
  have hqq1__M_24 := hqq1__M_22_n
  have hqq2__M_24 := hqq2__M_22_n
  have hqq3__M_24 := hqq3__M_22_n
  have hqq4__M_24 := hqq4__M_22_n
  have hqq5__M_24 := hqq5__M_22_n
  clear h0__M_22_n hqq1__M_22_n hqq2__M_22_n hqq3__M_22_n hqq4__M_22_n hqq5__M_22_n
  refine lv_aload_n hx hb dM_init_49 rfl (lv_at hl 0 rfl) ?_
  refine lv_bipush (v := nI 12) hx hb dM_init_50 (by decide) ?_
  refine mp_newa (atype := .int) (ty := .int) (a0 := (12, .inl (fun i_ => nI ((fun _ => 0) i_)))) hx hb (hts _ bw_61) rfl I 0 rfl (fun _ h => h) (fun _ => rfl) (by decide) (nI_clamp (by decide)) (by decide) (Nat.le_of_ble_eq_true rfl) (Nat.le_of_ble_eq_true rfl) dM_init_52 (fun q6 H hq_26 I => ?_)
  have n_mo_q6 : mo ≠ q6 := mp_none_ne h0__M_24 hq_26
  have n_q1_q6 : q1 ≠ q6 := mp_none_ne hqq1__M_24 hq_26
  have n_q2_q6 : q2 ≠ q6 := mp_none_ne hqq2__M_24 hq_26
  have n_q3_q6 : q3 ≠ q6 := mp_none_ne hqq3__M_24 hq_26
  have n_q4_q6 : q4 ≠ q6 := mp_none_ne hqq4__M_24 hq_26
  have n_q5_q6 : q5 ≠ q6 := mp_none_ne hqq5__M_24 hq_26
  have hqq6_n : mp_up M_24 q6 (.inl (k 0, 12, .inl (fun i_ => nI ((fun _ => 0) i_)))) q6 = some (.inl (k 0, 12, .inl (fun i_ => nI ((fun _ => 0) i_)))) := mp_up_s _ _ _
  have h0__M_24_n : mp_up M_24 q6 (.inl (k 0, 12, .inl (fun i_ => nI ((fun _ => 0) i_)))) mo = some (.inr (4, [.ref q1, .ref q2, .int 0, .ref q3, .ref q4, .ref q5, .int 0, .null, .int 0, .null, .null, .null, .null, .int 0, .null, .null, .int 0, .int 0])) := (mp_up_n (fun z => by rw [z, hq_26] at h0__M_24; cases h0__M_24)).trans h0__M_24
  have hqq1__M_24_n : mp_up M_24 q6 (.inl (k 0, 12, .inl (fun i_ => nI ((fun _ => 0) i_)))) q1 = some (.inl (k 1, 4000, .inr (.inl (fun _ => 0)))) := (mp_up_n (fun z => by rw [z, hq_26] at hqq1__M_24; cases hqq1__M_24)).trans hqq1__M_24
  have hqq2__M_24_n : mp_up M_24 q6 (.inl (k 0, 12, .inl (fun i_ => nI ((fun _ => 0) i_)))) q2 = some (.inl (k 0, 4000, .inl (fun i_ => nI ((fun _ => 0) i_)))) := (mp_up_n (fun z => by rw [z, hq_26] at hqq2__M_24; cases hqq2__M_24)).trans hqq2__M_24
  have hqq3__M_24_n : mp_up M_24 q6 (.inl (k 0, 12, .inl (fun i_ => nI ((fun _ => 0) i_)))) q3 = some (.inl (k 0, 300, .inl (fun i_ => nI ((fun _ => 0) i_)))) := (mp_up_n (fun z => by rw [z, hq_26] at hqq3__M_24; cases hqq3__M_24)).trans hqq3__M_24
  have hqq4__M_24_n : mp_up M_24 q6 (.inl (k 0, 12, .inl (fun i_ => nI ((fun _ => 0) i_)))) q4 = some (.inl (k 0, 300, .inl (fun i_ => nI ((fun _ => 0) i_)))) := (mp_up_n (fun z => by rw [z, hq_26] at hqq4__M_24; cases hqq4__M_24)).trans hqq4__M_24
  have hqq5__M_24_n : mp_up M_24 q6 (.inl (k 0, 12, .inl (fun i_ => nI ((fun _ => 0) i_)))) q5 = some (.inl (k 0, 300, .inl (fun i_ => nI ((fun _ => 0) i_)))) := (mp_up_n (fun z => by rw [z, hq_26] at hqq5__M_24; cases hqq5__M_24)).trans hqq5__M_24
  generalize eM_28 : mp_up M_24 q6 (.inl (k 0, 12, .inl (fun i_ => nI ((fun _ => 0) i_)))) = M_27 at I hqq6_n h0__M_24_n hqq1__M_24_n hqq2__M_24_n hqq3__M_24_n hqq4__M_24_n hqq5__M_24_n
  have h0__M_27 := h0__M_24_n
  have hqq1__M_27 := hqq1__M_24_n
  have hqq2__M_27 := hqq2__M_24_n
  have hqq3__M_27 := hqq3__M_24_n
  have hqq4__M_27 := hqq4__M_24_n
  have hqq5__M_27 := hqq5__M_24_n
  have hqq6__M_27 := hqq6_n
  clear hqq6_n h0__M_24_n hqq1__M_24_n hqq2__M_24_n hqq3__M_24_n hqq4__M_24_n hqq5__M_24_n
  refine mp_putF (v := .ref q6) (ty := .array .int) hx hb hts inM tyM okM nmM hown I h0__M_27 rfl 7 (by decide) (hts _ bw_338) (fun _ h9 => h9) rfl hin rfl (by decide +kernel) rfl rfl (Nat.le_of_ble_eq_true rfl) dM_init_54 (fun H locs I => ?_)
  have I : mp_I D cls5 (tys6 k) s _ s.heap H locs (mp_up M_27 mo (.inr (4, [.ref q1, .ref q2, .int 0, .ref q3, .ref q4, .ref q5, .int 0, .ref q6, .int 0, .null, .null, .null, .null, .int 0, .null, .null, .int 0, .int 0]))) := I
  have h0__M_27_n : mp_up M_27 mo (.inr (4, [.ref q1, .ref q2, .int 0, .ref q3, .ref q4, .ref q5, .int 0, .ref q6, .int 0, .null, .null, .null, .null, .int 0, .null, .null, .int 0, .int 0])) mo = some (.inr (4, [.ref q1, .ref q2, .int 0, .ref q3, .ref q4, .ref q5, .int 0, .ref q6, .int 0, .null, .null, .null, .null, .int 0, .null, .null, .int 0, .int 0])) := mp_up_s _ _ _
  have hqq1__M_27_n : mp_up M_27 mo (.inr (4, [.ref q1, .ref q2, .int 0, .ref q3, .ref q4, .ref q5, .int 0, .ref q6, .int 0, .null, .null, .null, .null, .int 0, .null, .null, .int 0, .int 0])) q1 = some (.inl (k 1, 4000, .inr (.inl (fun _ => 0)))) := (mp_up_n (mp_ne hqq1__M_27 h0__M_27 (by simp))).trans hqq1__M_27
  have hqq2__M_27_n : mp_up M_27 mo (.inr (4, [.ref q1, .ref q2, .int 0, .ref q3, .ref q4, .ref q5, .int 0, .ref q6, .int 0, .null, .null, .null, .null, .int 0, .null, .null, .int 0, .int 0])) q2 = some (.inl (k 0, 4000, .inl (fun i_ => nI ((fun _ => 0) i_)))) := (mp_up_n (mp_ne hqq2__M_27 h0__M_27 (by simp))).trans hqq2__M_27
  have hqq3__M_27_n : mp_up M_27 mo (.inr (4, [.ref q1, .ref q2, .int 0, .ref q3, .ref q4, .ref q5, .int 0, .ref q6, .int 0, .null, .null, .null, .null, .int 0, .null, .null, .int 0, .int 0])) q3 = some (.inl (k 0, 300, .inl (fun i_ => nI ((fun _ => 0) i_)))) := (mp_up_n (mp_ne hqq3__M_27 h0__M_27 (by simp))).trans hqq3__M_27
  have hqq4__M_27_n : mp_up M_27 mo (.inr (4, [.ref q1, .ref q2, .int 0, .ref q3, .ref q4, .ref q5, .int 0, .ref q6, .int 0, .null, .null, .null, .null, .int 0, .null, .null, .int 0, .int 0])) q4 = some (.inl (k 0, 300, .inl (fun i_ => nI ((fun _ => 0) i_)))) := (mp_up_n (mp_ne hqq4__M_27 h0__M_27 (by simp))).trans hqq4__M_27
  have hqq5__M_27_n : mp_up M_27 mo (.inr (4, [.ref q1, .ref q2, .int 0, .ref q3, .ref q4, .ref q5, .int 0, .ref q6, .int 0, .null, .null, .null, .null, .int 0, .null, .null, .int 0, .int 0])) q5 = some (.inl (k 0, 300, .inl (fun i_ => nI ((fun _ => 0) i_)))) := (mp_up_n (mp_ne hqq5__M_27 h0__M_27 (by simp))).trans hqq5__M_27
  have hqq6__M_27_n : mp_up M_27 mo (.inr (4, [.ref q1, .ref q2, .int 0, .ref q3, .ref q4, .ref q5, .int 0, .ref q6, .int 0, .null, .null, .null, .null, .int 0, .null, .null, .int 0, .int 0])) q6 = some (.inl (k 0, 12, .inl (fun i_ => nI ((fun _ => 0) i_)))) := (mp_up_n (mp_ne hqq6__M_27 h0__M_27 (by simp))).trans hqq6__M_27
  generalize eM_30 : mp_up M_27 mo (.inr (4, [.ref q1, .ref q2, .int 0, .ref q3, .ref q4, .ref q5, .int 0, .ref q6, .int 0, .null, .null, .null, .null, .int 0, .null, .null, .int 0, .int 0])) = M_29 at I h0__M_27_n hqq1__M_27_n hqq2__M_27_n hqq3__M_27_n hqq4__M_27_n hqq5__M_27_n hqq6__M_27_n
  have h0__M_29 := h0__M_27_n
  have hqq1__M_29 := hqq1__M_27_n
  have hqq2__M_29 := hqq2__M_27_n
  have hqq3__M_29 := hqq3__M_27_n
  have hqq4__M_29 := hqq4__M_27_n
  have hqq5__M_29 := hqq5__M_27_n
  have hqq6__M_29 := hqq6__M_27_n
  clear h0__M_27_n hqq1__M_27_n hqq2__M_27_n hqq3__M_27_n hqq4__M_27_n hqq5__M_27_n hqq6__M_27_n
  refine lv_aload_n hx hb dM_init_57 rfl (lv_at hl 0 rfl) ?_
  refine lv_bipush (v := nI 100) hx hb dM_init_58 (by decide) ?_
  refine mp_newa (atype := .int) (ty := .int) (a0 := (100, .inl (fun i_ => nI ((fun _ => 0) i_)))) hx hb (hts _ bw_61) rfl I 0 rfl (fun _ h => h) (fun _ => rfl) (by decide) (nI_clamp (by decide)) (by decide) (Nat.le_of_ble_eq_true rfl) (Nat.le_of_ble_eq_true rfl) dM_init_60 (fun q7 H hq_31 I => ?_)
  have n_mo_q7 : mo ≠ q7 := mp_none_ne h0__M_29 hq_31
  have n_q1_q7 : q1 ≠ q7 := mp_none_ne hqq1__M_29 hq_31
  have n_q2_q7 : q2 ≠ q7 := mp_none_ne hqq2__M_29 hq_31
  have n_q3_q7 : q3 ≠ q7 := mp_none_ne hqq3__M_29 hq_31
  have n_q4_q7 : q4 ≠ q7 := mp_none_ne hqq4__M_29 hq_31
  have n_q5_q7 : q5 ≠ q7 := mp_none_ne hqq5__M_29 hq_31
  have n_q6_q7 : q6 ≠ q7 := mp_none_ne hqq6__M_29 hq_31
  have hqq7_n : mp_up M_29 q7 (.inl (k 0, 100, .inl (fun i_ => nI ((fun _ => 0) i_)))) q7 = some (.inl (k 0, 100, .inl (fun i_ => nI ((fun _ => 0) i_)))) := mp_up_s _ _ _
  have h0__M_29_n : mp_up M_29 q7 (.inl (k 0, 100, .inl (fun i_ => nI ((fun _ => 0) i_)))) mo = some (.inr (4, [.ref q1, .ref q2, .int 0, .ref q3, .ref q4, .ref q5, .int 0, .ref q6, .int 0, .null, .null, .null, .null, .int 0, .null, .null, .int 0, .int 0])) := (mp_up_n (fun z => by rw [z, hq_31] at h0__M_29; cases h0__M_29)).trans h0__M_29
  have hqq1__M_29_n : mp_up M_29 q7 (.inl (k 0, 100, .inl (fun i_ => nI ((fun _ => 0) i_)))) q1 = some (.inl (k 1, 4000, .inr (.inl (fun _ => 0)))) := (mp_up_n (fun z => by rw [z, hq_31] at hqq1__M_29; cases hqq1__M_29)).trans hqq1__M_29
  have hqq2__M_29_n : mp_up M_29 q7 (.inl (k 0, 100, .inl (fun i_ => nI ((fun _ => 0) i_)))) q2 = some (.inl (k 0, 4000, .inl (fun i_ => nI ((fun _ => 0) i_)))) := (mp_up_n (fun z => by rw [z, hq_31] at hqq2__M_29; cases hqq2__M_29)).trans hqq2__M_29
  have hqq3__M_29_n : mp_up M_29 q7 (.inl (k 0, 100, .inl (fun i_ => nI ((fun _ => 0) i_)))) q3 = some (.inl (k 0, 300, .inl (fun i_ => nI ((fun _ => 0) i_)))) := (mp_up_n (fun z => by rw [z, hq_31] at hqq3__M_29; cases hqq3__M_29)).trans hqq3__M_29
  have hqq4__M_29_n : mp_up M_29 q7 (.inl (k 0, 100, .inl (fun i_ => nI ((fun _ => 0) i_)))) q4 = some (.inl (k 0, 300, .inl (fun i_ => nI ((fun _ => 0) i_)))) := (mp_up_n (fun z => by rw [z, hq_31] at hqq4__M_29; cases hqq4__M_29)).trans hqq4__M_29
  have hqq5__M_29_n : mp_up M_29 q7 (.inl (k 0, 100, .inl (fun i_ => nI ((fun _ => 0) i_)))) q5 = some (.inl (k 0, 300, .inl (fun i_ => nI ((fun _ => 0) i_)))) := (mp_up_n (fun z => by rw [z, hq_31] at hqq5__M_29; cases hqq5__M_29)).trans hqq5__M_29
  have hqq6__M_29_n : mp_up M_29 q7 (.inl (k 0, 100, .inl (fun i_ => nI ((fun _ => 0) i_)))) q6 = some (.inl (k 0, 12, .inl (fun i_ => nI ((fun _ => 0) i_)))) := (mp_up_n (fun z => by rw [z, hq_31] at hqq6__M_29; cases hqq6__M_29)).trans hqq6__M_29
  generalize eM_33 : mp_up M_29 q7 (.inl (k 0, 100, .inl (fun i_ => nI ((fun _ => 0) i_)))) = M_32 at I hqq7_n h0__M_29_n hqq1__M_29_n hqq2__M_29_n hqq3__M_29_n hqq4__M_29_n hqq5__M_29_n hqq6__M_29_n
  have h0__M_32 := h0__M_29_n
  have hqq1__M_32 := hqq1__M_29_n
  have hqq2__M_32 := hqq2__M_29_n
  have hqq3__M_32 := hqq3__M_29_n
  have hqq4__M_32 := hqq4__M_29_n
  have hqq5__M_32 := hqq5__M_29_n
  have hqq6__M_32 := hqq6__M_29_n
  have hqq7__M_32 := hqq7_n
  clear hqq7_n h0__M_29_n hqq1__M_29_n hqq2__M_29_n hqq3__M_29_n hqq4__M_29_n hqq5__M_29_n hqq6__M_29_n
  refine mp_putF (v := .ref q7) (ty := .array .int) hx hb hts inM tyM okM nmM hown I h0__M_32 rfl 9 (by decide) (hts _ bw_340) (fun _ h9 => h9) rfl hin rfl (by decide +kernel) rfl rfl (Nat.le_of_ble_eq_true rfl) dM_init_62 (fun H locs I => ?_)
  have I : mp_I D cls5 (tys6 k) s _ s.heap H locs (mp_up M_32 mo (.inr (4, [.ref q1, .ref q2, .int 0, .ref q3, .ref q4, .ref q5, .int 0, .ref q6, .int 0, .ref q7, .null, .null, .null, .int 0, .null, .null, .int 0, .int 0]))) := I
  have h0__M_32_n : mp_up M_32 mo (.inr (4, [.ref q1, .ref q2, .int 0, .ref q3, .ref q4, .ref q5, .int 0, .ref q6, .int 0, .ref q7, .null, .null, .null, .int 0, .null, .null, .int 0, .int 0])) mo = some (.inr (4, [.ref q1, .ref q2, .int 0, .ref q3, .ref q4, .ref q5, .int 0, .ref q6, .int 0, .ref q7, .null, .null, .null, .int 0, .null, .null, .int 0, .int 0])) := mp_up_s _ _ _
  have hqq1__M_32_n : mp_up M_32 mo (.inr (4, [.ref q1, .ref q2, .int 0, .ref q3, .ref q4, .ref q5, .int 0, .ref q6, .int 0, .ref q7, .null, .null, .null, .int 0, .null, .null, .int 0, .int 0])) q1 = some (.inl (k 1, 4000, .inr (.inl (fun _ => 0)))) := (mp_up_n (mp_ne hqq1__M_32 h0__M_32 (by simp))).trans hqq1__M_32
  have hqq2__M_32_n : mp_up M_32 mo (.inr (4, [.ref q1, .ref q2, .int 0, .ref q3, .ref q4, .ref q5, .int 0, .ref q6, .int 0, .ref q7, .null, .null, .null, .int 0, .null, .null, .int 0, .int 0])) q2 = some (.inl (k 0, 4000, .inl (fun i_ => nI ((fun _ => 0) i_)))) := (mp_up_n (mp_ne hqq2__M_32 h0__M_32 (by simp))).trans hqq2__M_32
  have hqq3__M_32_n : mp_up M_32 mo (.inr (4, [.ref q1, .ref q2, .int 0, .ref q3, .ref q4, .ref q5, .int 0, .ref q6, .int 0, .ref q7, .null, .null, .null, .int 0, .null, .null, .int 0, .int 0])) q3 = some (.inl (k 0, 300, .inl (fun i_ => nI ((fun _ => 0) i_)))) := (mp_up_n (mp_ne hqq3__M_32 h0__M_32 (by simp))).trans hqq3__M_32
  have hqq4__M_32_n : mp_up M_32 mo (.inr (4, [.ref q1, .ref q2, .int 0, .ref q3, .ref q4, .ref q5, .int 0, .ref q6, .int 0, .ref q7, .null, .null, .null, .int 0, .null, .null, .int 0, .int 0])) q4 = some (.inl (k 0, 300, .inl (fun i_ => nI ((fun _ => 0) i_)))) := (mp_up_n (mp_ne hqq4__M_32 h0__M_32 (by simp))).trans hqq4__M_32
  have hqq5__M_32_n : mp_up M_32 mo (.inr (4, [.ref q1, .ref q2, .int 0, .ref q3, .ref q4, .ref q5, .int 0, .ref q6, .int 0, .ref q7, .null, .null, .null, .int 0, .null, .null, .int 0, .int 0])) q5 = some (.inl (k 0, 300, .inl (fun i_ => nI ((fun _ => 0) i_)))) := (mp_up_n (mp_ne hqq5__M_32 h0__M_32 (by simp))).trans hqq5__M_32
  have hqq6__M_32_n : mp_up M_32 mo (.inr (4, [.ref q1, .ref q2, .int 0, .ref q3, .ref q4, .ref q5, .int 0, .ref q6, .int 0, .ref q7, .null, .null, .null, .int 0, .null, .null, .int 0, .int 0])) q6 = some (.inl (k 0, 12, .inl (fun i_ => nI ((fun _ => 0) i_)))) := (mp_up_n (mp_ne hqq6__M_32 h0__M_32 (by simp))).trans hqq6__M_32
  have hqq7__M_32_n : mp_up M_32 mo (.inr (4, [.ref q1, .ref q2, .int 0, .ref q3, .ref q4, .ref q5, .int 0, .ref q6, .int 0, .ref q7, .null, .null, .null, .int 0, .null, .null, .int 0, .int 0])) q7 = some (.inl (k 0, 100, .inl (fun i_ => nI ((fun _ => 0) i_)))) := (mp_up_n (mp_ne hqq7__M_32 h0__M_32 (by simp))).trans hqq7__M_32
  generalize eM_35 : mp_up M_32 mo (.inr (4, [.ref q1, .ref q2, .int 0, .ref q3, .ref q4, .ref q5, .int 0, .ref q6, .int 0, .ref q7, .null, .null, .null, .int 0, .null, .null, .int 0, .int 0])) = M_34 at I h0__M_32_n hqq1__M_32_n hqq2__M_32_n hqq3__M_32_n hqq4__M_32_n hqq5__M_32_n hqq6__M_32_n hqq7__M_32_n
  have h0__M_34 := h0__M_32_n
  have hqq1__M_34 := hqq1__M_32_n
  have hqq2__M_34 := hqq2__M_32_n
  have hqq3__M_34 := hqq3__M_32_n
  have hqq4__M_34 := hqq4__M_32_n
  have hqq5__M_34 := hqq5__M_32_n
  have hqq6__M_34 := hqq6__M_32_n
  have hqq7__M_34 := hqq7__M_32_n
  clear h0__M_32_n hqq1__M_32_n hqq2__M_32_n hqq3__M_32_n hqq4__M_32_n hqq5__M_32_n hqq6__M_32_n hqq7__M_32_n
  refine lv_aload_n hx hb dM_init_65 rfl (lv_at hl 0 rfl) ?_
  refine lv_bipush (v := nI 100) hx hb dM_init_66 (by decide) ?_
  refine mp_newa (atype := .int) (ty := .int) (a0 := (100, .inl (fun i_ => nI ((fun _ => 0) i_)))) hx hb (hts _ bw_61) rfl I 0 rfl (fun _ h => h) (fun _ => rfl) (by decide) (nI_clamp (by decide)) (by decide) (Nat.le_of_ble_eq_true rfl) (Nat.le_of_ble_eq_true rfl) dM_init_68 (fun q8 H hq_36 I => ?_)
  have n_mo_q8 : mo ≠ q8 := mp_none_ne h0__M_34 hq_36
  have n_q1_q8 : q1 ≠ q8 := mp_none_ne hqq1__M_34 hq_36
  have n_q2_q8 : q2 ≠ q8 := mp_none_ne hqq2__M_34 hq_36
  have n_q3_q8 : q3 ≠ q8 := mp_none_ne hqq3__M_34 hq_36
  have n_q4_q8 : q4 ≠ q8 := mp_none_ne hqq4__M_34 hq_36
  have n_q5_q8 : q5 ≠ q8 := mp_none_ne hqq5__M_34 hq_36
  have n_q6_q8 : q6 ≠ q8 := mp_none_ne hqq6__M_34 hq_36
  have n_q7_q8 : q7 ≠ q8 := mp_none_ne hqq7__M_34 hq_36
  have hqq8_n : mp_up M_34 q8 (.inl (k 0, 100, .inl (fun i_ => nI ((fun _ => 0) i_)))) q8 = some (.inl (k 0, 100, .inl (fun i_ => nI ((fun _ => 0) i_)))) := mp_up_s _ _ _
  have h0__M_34_n : mp_up M_34 q8 (.inl (k 0, 100, .inl (fun i_ => nI ((fun _ => 0) i_)))) mo = some (.inr (4, [.ref q1, .ref q2, .int 0, .ref q3, .ref q4, .ref q5, .int 0, .ref q6, .int 0, .ref q7, .null, .null, .null, .int 0, .null, .null, .int 0, .int 0])) := (mp_up_n (fun z => by rw [z, hq_36] at h0__M_34; cases h0__M_34)).trans h0__M_34
  have hqq1__M_34_n : mp_up M_34 q8 (.inl (k 0, 100, .inl (fun i_ => nI ((fun _ => 0) i_)))) q1 = some (.inl (k 1, 4000, .inr (.inl (fun _ => 0)))) := (mp_up_n (fun z => by rw [z, hq_36] at hqq1__M_34; cases hqq1__M_34)).trans hqq1__M_34
  have hqq2__M_34_n : mp_up M_34 q8 (.inl (k 0, 100, .inl (fun i_ => nI ((fun _ => 0) i_)))) q2 = some (.inl (k 0, 4000, .inl (fun i_ => nI ((fun _ => 0) i_)))) := (mp_up_n (fun z => by rw [z, hq_36] at hqq2__M_34; cases hqq2__M_34)).trans hqq2__M_34
  have hqq3__M_34_n : mp_up M_34 q8 (.inl (k 0, 100, .inl (fun i_ => nI ((fun _ => 0) i_)))) q3 = some (.inl (k 0, 300, .inl (fun i_ => nI ((fun _ => 0) i_)))) := (mp_up_n (fun z => by rw [z, hq_36] at hqq3__M_34; cases hqq3__M_34)).trans hqq3__M_34
  have hqq4__M_34_n : mp_up M_34 q8 (.inl (k 0, 100, .inl (fun i_ => nI ((fun _ => 0) i_)))) q4 = some (.inl (k 0, 300, .inl (fun i_ => nI ((fun _ => 0) i_)))) := (mp_up_n (fun z => by rw [z, hq_36] at hqq4__M_34; cases hqq4__M_34)).trans hqq4__M_34
  have hqq5__M_34_n : mp_up M_34 q8 (.inl (k 0, 100, .inl (fun i_ => nI ((fun _ => 0) i_)))) q5 = some (.inl (k 0, 300, .inl (fun i_ => nI ((fun _ => 0) i_)))) := (mp_up_n (fun z => by rw [z, hq_36] at hqq5__M_34; cases hqq5__M_34)).trans hqq5__M_34
  have hqq6__M_34_n : mp_up M_34 q8 (.inl (k 0, 100, .inl (fun i_ => nI ((fun _ => 0) i_)))) q6 = some (.inl (k 0, 12, .inl (fun i_ => nI ((fun _ => 0) i_)))) := (mp_up_n (fun z => by rw [z, hq_36] at hqq6__M_34; cases hqq6__M_34)).trans hqq6__M_34
  have hqq7__M_34_n : mp_up M_34 q8 (.inl (k 0, 100, .inl (fun i_ => nI ((fun _ => 0) i_)))) q7 = some (.inl (k 0, 100, .inl (fun i_ => nI ((fun _ => 0) i_)))) := (mp_up_n (fun z => by rw [z, hq_36] at hqq7__M_34; cases hqq7__M_34)).trans hqq7__M_34
  generalize eM_38 : mp_up M_34 q8 (.inl (k 0, 100, .inl (fun i_ => nI ((fun _ => 0) i_)))) = M_37 at I hqq8_n h0__M_34_n hqq1__M_34_n hqq2__M_34_n hqq3__M_34_n hqq4__M_34_n hqq5__M_34_n hqq6__M_34_n hqq7__M_34_n
  have h0__M_37 := h0__M_34_n
  have hqq1__M_37 := hqq1__M_34_n
  have hqq2__M_37 := hqq2__M_34_n
  have hqq3__M_37 := hqq3__M_34_n
  have hqq4__M_37 := hqq4__M_34_n
  have hqq5__M_37 := hqq5__M_34_n
  have hqq6__M_37 := hqq6__M_34_n
  have hqq7__M_37 := hqq7__M_34_n
  have hqq8__M_37 := hqq8_n
  clear hqq8_n h0__M_34_n hqq1__M_34_n hqq2__M_34_n hqq3__M_34_n hqq4__M_34_n hqq5__M_34_n hqq6__M_34_n hqq7__M_34_n
  refine mp_putF (v := .ref q8) (ty := .array .int) hx hb hts inM tyM okM nmM hown I h0__M_37 rfl 10 (by decide) (hts _ bw_341) (fun _ h9 => h9) rfl hin rfl (by decide +kernel) rfl rfl (Nat.le_of_ble_eq_true rfl) dM_init_70 (fun H locs I => ?_)
  have I : mp_I D cls5 (tys6 k) s _ s.heap H locs (mp_up M_37 mo (.inr (4, [.ref q1, .ref q2, .int 0, .ref q3, .ref q4, .ref q5, .int 0, .ref q6, .int 0, .ref q7, .ref q8, .null, .null, .int 0, .null, .null, .int 0, .int 0]))) := I
  have h0__M_37_n : mp_up M_37 mo (.inr (4, [.ref q1, .ref q2, .int 0, .ref q3, .ref q4, .ref q5, .int 0, .ref q6, .int 0, .ref q7, .ref q8, .null, .null, .int 0, .null, .null, .int 0, .int 0])) mo = some (.inr (4, [.ref q1, .ref q2, .int 0, .ref q3, .ref q4, .ref q5, .int 0, .ref q6, .int 0, .ref q7, .ref q8, .null, .null, .int 0, .null, .null, .int 0, .int 0])) := mp_up_s _ _ _
  have hqq1__M_37_n : mp_up M_37 mo (.inr (4, [.ref q1, .ref q2, .int 0, .ref q3, .ref q4, .ref q5, .int 0, .ref q6, .int 0, .ref q7, .ref q8, .null, .null, .int 0, .null, .null, .int 0, .int 0])) q1 = some (.inl (k 1, 4000, .inr (.inl (fun _ => 0)))) := (mp_up_n (mp_ne hqq1__M_37 h0__M_37 (by simp))).trans hqq1__M_37
  have hqq2__M_37_n : mp_up M_37 mo (.inr (4, [.ref q1, .ref q2, .int 0, .ref q3, .ref q4, .ref q5, .int 0, .ref q6, .int 0, .ref q7, .ref q8, .null, .null, .int 0, .null, .null, .int 0, .int 0])) q2 = some (.inl (k 0, 4000, .inl (fun i_ => nI ((fun _ => 0) i_)))) := (mp_up_n (mp_ne hqq2__M_37 h0__M_37 (by simp))).trans hqq2__M_37
  have hqq3__M_37_n : mp_up M_37 mo (.inr (4, [.ref q1, .ref q2, .int 0, .ref q3, .ref q4, .ref q5, .int 0, .ref q6, .int 0, .ref q7, .ref q8, .null, .null, .int 0, .null, .null, .int 0, .int 0])) q3 = some (.inl (k 0, 300, .inl (fun i_ => nI ((fun _ => 0) i_)))) := (mp_up_n (mp_ne hqq3__M_37 h0__M_37 (by simp))).trans hqq3__M_37
  have hqq4__M_37_n : mp_up M_37 mo (.inr (4, [.ref q1, .ref q2, .int 0, .ref q3, .ref q4, .ref q5, .int 0, .ref q6, .int 0, .ref q7, .ref q8, .null, .null, .int 0, .null, .null, .int 0, .int 0])) q4 = some (.inl (k 0, 300, .inl (fun i_ => nI ((fun _ => 0) i_)))) := (mp_up_n (mp_ne hqq4__M_37 h0__M_37 (by simp))).trans hqq4__M_37
  have hqq5__M_37_n : mp_up M_37 mo (.inr (4, [.ref q1, .ref q2, .int 0, .ref q3, .ref q4, .ref q5, .int 0, .ref q6, .int 0, .ref q7, .ref q8, .null, .null, .int 0, .null, .null, .int 0, .int 0])) q5 = some (.inl (k 0, 300, .inl (fun i_ => nI ((fun _ => 0) i_)))) := (mp_up_n (mp_ne hqq5__M_37 h0__M_37 (by simp))).trans hqq5__M_37
  have hqq6__M_37_n : mp_up M_37 mo (.inr (4, [.ref q1, .ref q2, .int 0, .ref q3, .ref q4, .ref q5, .int 0, .ref q6, .int 0, .ref q7, .ref q8, .null, .null, .int 0, .null, .null, .int 0, .int 0])) q6 = some (.inl (k 0, 12, .inl (fun i_ => nI ((fun _ => 0) i_)))) := (mp_up_n (mp_ne hqq6__M_37 h0__M_37 (by simp))).trans hqq6__M_37
  have hqq7__M_37_n : mp_up M_37 mo (.inr (4, [.ref q1, .ref q2, .int 0, .ref q3, .ref q4, .ref q5, .int 0, .ref q6, .int 0, .ref q7, .ref q8, .null, .null, .int 0, .null, .null, .int 0, .int 0])) q7 = some (.inl (k 0, 100, .inl (fun i_ => nI ((fun _ => 0) i_)))) := (mp_up_n (mp_ne hqq7__M_37 h0__M_37 (by simp))).trans hqq7__M_37
  have hqq8__M_37_n : mp_up M_37 mo (.inr (4, [.ref q1, .ref q2, .int 0, .ref q3, .ref q4, .ref q5, .int 0, .ref q6, .int 0, .ref q7, .ref q8, .null, .null, .int 0, .null, .null, .int 0, .int 0])) q8 = some (.inl (k 0, 100, .inl (fun i_ => nI ((fun _ => 0) i_)))) := (mp_up_n (mp_ne hqq8__M_37 h0__M_37 (by simp))).trans hqq8__M_37
  generalize eM_40 : mp_up M_37 mo (.inr (4, [.ref q1, .ref q2, .int 0, .ref q3, .ref q4, .ref q5, .int 0, .ref q6, .int 0, .ref q7, .ref q8, .null, .null, .int 0, .null, .null, .int 0, .int 0])) = M_39 at I h0__M_37_n hqq1__M_37_n hqq2__M_37_n hqq3__M_37_n hqq4__M_37_n hqq5__M_37_n hqq6__M_37_n hqq7__M_37_n hqq8__M_37_n
  have h0__M_39 := h0__M_37_n
  have hqq1__M_39 := hqq1__M_37_n
  have hqq2__M_39 := hqq2__M_37_n
  have hqq3__M_39 := hqq3__M_37_n
  have hqq4__M_39 := hqq4__M_37_n
  have hqq5__M_39 := hqq5__M_37_n
  have hqq6__M_39 := hqq6__M_37_n
  have hqq7__M_39 := hqq7__M_37_n
  have hqq8__M_39 := hqq8__M_37_n
  clear h0__M_37_n hqq1__M_37_n hqq2__M_37_n hqq3__M_37_n hqq4__M_37_n hqq5__M_37_n hqq6__M_37_n hqq7__M_37_n hqq8__M_37_n
  refine lv_aload_n hx hb dM_init_73 rfl (lv_at hl 0 rfl) ?_
  refine lv_bipush (v := nI 100) hx hb dM_init_74 (by decide) ?_
  refine mp_newa (atype := .int) (ty := .int) (a0 := (100, .inl (fun i_ => nI ((fun _ => 0) i_)))) hx hb (hts _ bw_61) rfl I 0 rfl (fun _ h => h) (fun _ => rfl) (by decide) (nI_clamp (by decide)) (by decide) (Nat.le_of_ble_eq_true rfl) (Nat.le_of_ble_eq_true rfl) dM_init_76 (fun q9 H hq_41 I => ?_)
  have n_mo_q9 : mo ≠ q9 := mp_none_ne h0__M_39 hq_41
  have n_q1_q9 : q1 ≠ q9 := mp_none_ne hqq1__M_39 hq_41
  have n_q2_q9 : q2 ≠ q9 := mp_none_ne hqq2__M_39 hq_41
  have n_q3_q9 : q3 ≠ q9 := mp_none_ne hqq3__M_39 hq_41
  have n_q4_q9 : q4 ≠ q9 := mp_none_ne hqq4__M_39 hq_41
  have n_q5_q9 : q5 ≠ q9 := mp_none_ne hqq5__M_39 hq_41
  have n_q6_q9 : q6 ≠ q9 := mp_none_ne hqq6__M_39 hq_41
  have n_q7_q9 : q7 ≠ q9 := mp_none_ne hqq7__M_39 hq_41
  have n_q8_q9 : q8 ≠ q9 := mp_none_ne hqq8__M_39 hq_41
  have hqq9_n : mp_up M_39 q9 (.inl (k 0, 100, .inl (fun i_ => nI ((fun _ => 0) i_)))) q9 = some (.inl (k 0, 100, .inl (fun i_ => nI ((fun _ => 0) i_)))) := mp_up_s _ _ _
  have h0__M_39_n : mp_up M_39 q9 (.inl (k 0, 100, .inl (fun i_ => nI ((fun _ => 0) i_)))) mo = some (.inr (4, [.ref q1, .ref q2, .int 0, .ref q3, .ref q4, .ref q5, .int 0, .ref q6, .int 0, .ref q7, .ref q8, .null, .null, .int 0, .null, .null, .int 0, .int 0])) := (mp_up_n (fun z => by rw [z, hq_41] at h0__M_39; cases h0__M_39)).trans h0__M_39
  have hqq1__M_39_n : mp_up M_39 q9 (.inl (k 0, 100, .inl (fun i_ => nI ((fun _ => 0) i_)))) q1 = some (.inl (k 1, 4000, .inr (.inl (fun _ => 0)))) := (mp_up_n (fun z => by rw [z, hq_41] at hqq1__M_39; cases hqq1__M_39)).trans hqq1__M_39
  have hqq2__M_39_n : mp_up M_39 q9 (.inl (k 0, 100, .inl (fun i_ => nI ((fun _ => 0) i_)))) q2 = some (.inl (k 0, 4000, .inl (fun i_ => nI ((fun _ => 0) i_)))) := (mp_up_n (fun z => by rw [z, hq_41] at hqq2__M_39; cases hqq2__M_39)).trans hqq2__M_39
  have hqq3__M_39_n : mp_up M_39 q9 (.inl (k 0, 100, .inl (fun i_ => nI ((fun _ => 0) i_)))) q3 = some (.inl (k 0, 300, .inl (fun i_ => nI ((fun _ => 0) i_)))) := (mp_up_n (fun z => by rw [z, hq_41] at hqq3__M_39; cases hqq3__M_39)).trans hqq3__M_39
  have hqq4__M_39_n : mp_up M_39 q9 (.inl (k 0, 100, .inl (fun i_ => nI ((fun _ => 0) i_)))) q4 = some (.inl (k 0, 300, .inl (fun i_ => nI ((fun _ => 0) i_)))) := (mp_up_n (fun z => by rw [z, hq_41] at hqq4__M_39; cases hqq4__M_39)).trans hqq4__M_39
  have hqq5__M_39_n : mp_up M_39 q9 (.inl (k 0, 100, .inl (fun i_ => nI ((fun _ => 0) i_)))) q5 = some (.inl (k 0, 300, .inl (fun i_ => nI ((fun _ => 0) i_)))) := (mp_up_n (fun z => by rw [z, hq_41] at hqq5__M_39; cases hqq5__M_39)).trans hqq5__M_39
  have hqq6__M_39_n : mp_up M_39 q9 (.inl (k 0, 100, .inl (fun i_ => nI ((fun _ => 0) i_)))) q6 = some (.inl (k 0, 12, .inl (fun i_ => nI ((fun _ => 0) i_)))) := (mp_up_n (fun z => by rw [z, hq_41] at hqq6__M_39; cases hqq6__M_39)).trans hqq6__M_39
  have hqq7__M_39_n : mp_up M_39 q9 (.inl (k 0, 100, .inl (fun i_ => nI ((fun _ => 0) i_)))) q7 = some (.inl (k 0, 100, .inl (fun i_ => nI ((fun _ => 0) i_)))) := (mp_up_n (fun z => by rw [z, hq_41] at hqq7__M_39; cases hqq7__M_39)).trans hqq7__M_39
  have hqq8__M_39_n : mp_up M_39 q9 (.inl (k 0, 100, .inl (fun i_ => nI ((fun _ => 0) i_)))) q8 = some (.inl (k 0, 100, .inl (fun i_ => nI ((fun _ => 0) i_)))) := (mp_up_n (fun z => by rw [z, hq_41] at hqq8__M_39; cases hqq8__M_39)).trans hqq8__M_39
  generalize eM_43 : mp_up M_39 q9 (.inl (k 0, 100, .inl (fun i_ => nI ((fun _ => 0) i_)))) = M_42 at I hqq9_n h0__M_39_n hqq1__M_39_n hqq2__M_39_n hqq3__M_39_n hqq4__M_39_n hqq5__M_39_n hqq6__M_39_n hqq7__M_39_n hqq8__M_39_n
  have h0__M_42 := h0__M_39_n
  have hqq1__M_42 := hqq1__M_39_n
  have hqq2__M_42 := hqq2__M_39_n
  have hqq3__M_42 := hqq3__M_39_n
  have hqq4__M_42 := hqq4__M_39_n
  have hqq5__M_42 := hqq5__M_39_n
  have hqq6__M_42 := hqq6__M_39_n
  have hqq7__M_42 := hqq7__M_39_n
  have hqq8__M_42 := hqq8__M_39_n
  have hqq9__M_42 := hqq9_n
  clear hqq9_n h0__M_39_n hqq1__M_39_n hqq2__M_39_n hqq3__M_39_n hqq4__M_39_n hqq5__M_39_n hqq6__M_39_n hqq7__M_39_n hqq8__M_39_n
  refine mp_putF (v := .ref q9) (ty := .array .int) hx hb hts inM tyM okM nmM hown I h0__M_42 rfl 11 (by decide) (hts _ bw_342) (fun _ h9 => h9) rfl hin rfl (by decide +kernel) rfl rfl (Nat.le_of_ble_eq_true rfl) dM_init_78 (fun H locs I => ?_)
  have I : mp_I D cls5 (tys6 k) s _ s.heap H locs (mp_up M_42 mo (.inr (4, [.ref q1, .ref q2, .int 0, .ref q3, .ref q4, .ref q5, .int 0, .ref q6, .int 0, .ref q7, .ref q8, .ref q9, .null, .int 0, .null, .null, .int 0, .int 0]))) := I
  have h0__M_42_n : mp_up M_42 mo (.inr (4, [.ref q1, .ref q2, .int 0, .ref q3, .ref q4, .ref q5, .int 0, .ref q6, .int 0, .ref q7, .ref q8, .ref q9, .null, .int 0, .null, .null, .int 0, .int 0])) mo = some (.inr (4, [.ref q1, .ref q2, .int 0, .ref q3, .ref q4, .ref q5, .int 0, .ref q6, .int 0, .ref q7, .ref q8, .ref q9, .null, .int 0, .null, .null, .int 0, .int 0])) := mp_up_s _ _ _
  have hqq1__M_42_n : mp_up M_42 mo (.inr (4, [.ref q1, .ref q2, .int 0, .ref q3, .ref q4, .ref q5, .int 0, .ref q6, .int 0, .ref q7, .ref q8, .ref q9, .null, .int 0, .null, .null, .int 0, .int 0])) q1 = some (.inl (k 1, 4000, .inr (.inl (fun _ => 0)))) := (mp_up_n (mp_ne hqq1__M_42 h0__M_42 (by simp))).trans hqq1__M_42
  have hqq2__M_42_n : mp_up M_42 mo (.inr (4, [.ref q1, .ref q2, .int 0, .ref q3, .ref q4, .ref q5, .int 0, .ref q6, .int 0, .ref q7, .ref q8, .ref q9, .null, .int 0, .null, .null, .int 0, .int 0])) q2 = some (.inl (k 0, 4000, .inl (fun i_ => nI ((fun _ => 0) i_)))) := (mp_up_n (mp_ne hqq2__M_42 h0__M_42 (by simp))).trans hqq2__M_42
  have hqq3__M_42_n : mp_up M_42 mo (.inr (4, [.ref q1, .ref q2, .int 0, .ref q3, .ref q4, .ref q5, .int 0, .ref q6, .int 0, .ref q7, .ref q8, .ref q9, .null, .int 0, .null, .null, .int 0, .int 0])) q3 = some (.inl (k 0, 300, .inl (fun i_ => nI ((fun _ => 0) i_)))) := (mp_up_n (mp_ne hqq3__M_42 h0__M_42 (by simp))).trans hqq3__M_42
  have hqq4__M_42_n : mp_up M_42 mo (.inr (4, [.ref q1, .ref q2, .int 0, .ref q3, .ref q4, .ref q5, .int 0, .ref q6, .int 0, .ref q7, .ref q8, .ref q9, .null, .int 0, .null, .null, .int 0, .int 0])) q4 = some (.inl (k 0, 300, .inl (fun i_ => nI ((fun _ => 0) i_)))) := (mp_up_n (mp_ne hqq4__M_42 h0__M_42 (by simp))).trans hqq4__M_42
  have hqq5__M_42_n : mp_up M_42 mo (.inr (4, [.ref q1, .ref q2, .int 0, .ref q3, .ref q4, .ref q5, .int 0, .ref q6, .int 0, .ref q7, .ref q8, .ref q9, .null, .int 0, .null, .null, .int 0, .int 0])) q5 = some (.inl (k 0, 300, .inl (fun i_ => nI ((fun _ => 0) i_)))) := (mp_up_n (mp_ne hqq5__M_42 h0__M_42 (by simp))).trans hqq5__M_42
  have hqq6__M_42_n : mp_up M_42 mo (.inr (4, [.ref q1, .ref q2, .int 0, .ref q3, .ref q4, .ref q5, .int 0, .ref q6, .int 0, .ref q7, .ref q8, .ref q9, .null, .int 0, .null, .null, .int 0, .int 0])) q6 = some (.inl (k 0, 12, .inl (fun i_ => nI ((fun _ => 0) i_)))) := (mp_up_n (mp_ne hqq6__M_42 h0__M_42 (by simp))).trans hqq6__M_42
  have hqq7__M_42_n : mp_up M_42 mo (.inr (4, [.ref q1, .ref q2, .int 0, .ref q3, .ref q4, .ref q5, .int 0, .ref q6, .int 0, .ref q7, .ref q8, .ref q9, .null, .int 0, .null, .null, .int 0, .int 0])) q7 = some (.inl (k 0, 100, .inl (fun i_ => nI ((fun _ => 0) i_)))) := (mp_up_n (mp_ne hqq7__M_42 h0__M_42 (by simp))).trans hqq7__M_42
  have hqq8__M_42_n : mp_up M_42 mo (.inr (4, [.ref q1, .ref q2, .int 0, .ref q3, .ref q4, .ref q5, .int 0, .ref q6, .int 0, .ref q7, .ref q8, .ref q9, .null, .int 0, .null, .null, .int 0, .int 0])) q8 = some (.inl (k 0, 100, .inl (fun i_ => nI ((fun _ => 0) i_)))) := (mp_up_n (mp_ne hqq8__M_42 h0__M_42 (by simp))).trans hqq8__M_42
  have hqq9__M_42_n : mp_up M_42 mo (.inr (4, [.ref q1, .ref q2, .int 0, .ref q3, .ref q4, .ref q5, .int 0, .ref q6, .int 0, .ref q7, .ref q8, .ref q9, .null, .int 0, .null, .null, .int 0, .int 0])) q9 = some (.inl (k 0, 100, .inl (fun i_ => nI ((fun _ => 0) i_)))) := (mp_up_n (mp_ne hqq9__M_42 h0__M_42 (by simp))).trans hqq9__M_42
  generalize eM_45 : mp_up M_42 mo (.inr (4, [.ref q1, .ref q2, .int 0, .ref q3, .ref q4, .ref q5, .int 0, .ref q6, .int 0, .ref q7, .ref q8, .ref q9, .null, .int 0, .null, .null, .int 0, .int 0])) = M_44 at I h0__M_42_n hqq1__M_42_n hqq2__M_42_n hqq3__M_42_n hqq4__M_42_n hqq5__M_42_n hqq6__M_42_n hqq7__M_42_n hqq8__M_42_n hqq9__M_42_n
  have h0__M_44 := h0__M_42_n
  have hqq1__M_44 := hqq1__M_42_n
  have hqq2__M_44 := hqq2__M_42_n
  have hqq3__M_44 := hqq3__M_42_n
  have hqq4__M_44 := hqq4__M_42_n
  have hqq5__M_44 := hqq5__M_42_n
  have hqq6__M_44 := hqq6__M_42_n
  have hqq7__M_44 := hqq7__M_42_n
  have hqq8__M_44 := hqq8__M_42_n
  have hqq9__M_44 := hqq9__M_42_n
  clear h0__M_42_n hqq1__M_42_n hqq2__M_42_n hqq3__M_42_n hqq4__M_42_n hqq5__M_42_n hqq6__M_42_n hqq7__M_42_n hqq8__M_42_n hqq9__M_42_n
  refine lv_aload_n hx hb dM_init_81 rfl (lv_at hl 0 rfl) ?_
  refine lv_bipush (v := nI 100) hx hb dM_init_82 (by decide) ?_
  refine mp_newa (atype := .boolean) (ty := .boolean) (a0 := (100, .inl (fun i_ => nI ((fun _ => 0) i_)))) hx hb (hts _ bw_386) rfl I 5 rfl (fun _ h => h) (fun _ => rfl) (by decide) (nI_clamp (by decide)) (by decide) (Nat.le_of_ble_eq_true rfl) (Nat.le_of_ble_eq_true rfl) dM_init_84 (fun q10 H hq_46 I => ?_)
  have n_mo_q10 : mo ≠ q10 := mp_none_ne h0__M_44 hq_46
  have n_q1_q10 : q1 ≠ q10 := mp_none_ne hqq1__M_44 hq_46
  have n_q2_q10 : q2 ≠ q10 := mp_none_ne hqq2__M_44 hq_46
  have n_q3_q10 : q3 ≠ q10 := mp_none_ne hqq3__M_44 hq_46
  have n_q4_q10 : q4 ≠ q10 := mp_none_ne hqq4__M_44 hq_46
  have n_q5_q10 : q5 ≠ q10 := mp_none_ne hqq5__M_44 hq_46
  have n_q6_q10 : q6 ≠ q10 := mp_none_ne hqq6__M_44 hq_46
  have n_q7_q10 : q7 ≠ q10 := mp_none_ne hqq7__M_44 hq_46
  have n_q8_q10 : q8 ≠ q10 := mp_none_ne hqq8__M_44 hq_46
  have n_q9_q10 : q9 ≠ q10 := mp_none_ne hqq9__M_44 hq_46
  have hqq10_n : mp_up M_44 q10 (.inl (k 5, 100, .inl (fun i_ => nI ((fun _ => 0) i_)))) q10 = some (.inl (k 5, 100, .inl (fun i_ => nI ((fun _ => 0) i_)))) := mp_up_s _ _ _
  have h0__M_44_n : mp_up M_44 q10 (.inl (k 5, 100, .inl (fun i_ => nI ((fun _ => 0) i_)))) mo = some (.inr (4, [.ref q1, .ref q2, .int 0, .ref q3, .ref q4, .ref q5, .int 0, .ref q6, .int 0, .ref q7, .ref q8, .ref q9, .null, .int 0, .null, .null, .int 0, .int 0])) := (mp_up_n (fun z => by rw [z, hq_46] at h0__M_44; cases h0__M_44)).trans h0__M_44
  have hqq1__M_44_n : mp_up M_44 q10 (.inl (k 5, 100, .inl (fun i_ => nI ((fun _ => 0) i_)))) q1 = some (.inl (k 1, 4000, .inr (.inl (fun _ => 0)))) := (mp_up_n (fun z => by rw [z, hq_46] at hqq1__M_44; cases hqq1__M_44)).trans hqq1__M_44
  have hqq2__M_44_n : mp_up M_44 q10 (.inl (k 5, 100, .inl (fun i_ => nI ((fun _ => 0) i_)))) q2 = some (.inl (k 0, 4000, .inl (fun i_ => nI ((fun _ => 0) i_)))) := (mp_up_n (fun z => by rw [z, hq_46] at hqq2__M_44; cases hqq2__M_44)).trans hqq2__M_44
  have hqq3__M_44_n : mp_up M_44 q10 (.inl (k 5, 100, .inl (fun i_ => nI ((fun _ => 0) i_)))) q3 = some (.inl (k 0, 300, .inl (fun i_ => nI ((fun _ => 0) i_)))) := (mp_up_n (fun z => by rw [z, hq_46] at hqq3__M_44; cases hqq3__M_44)).trans hqq3__M_44
  have hqq4__M_44_n : mp_up M_44 q10 (.inl (k 5, 100, .inl (fun i_ => nI ((fun _ => 0) i_)))) q4 = some (.inl (k 0, 300, .inl (fun i_ => nI ((fun _ => 0) i_)))) := (mp_up_n (fun z => by rw [z, hq_46] at hqq4__M_44; cases hqq4__M_44)).trans hqq4__M_44
  have hqq5__M_44_n : mp_up M_44 q10 (.inl (k 5, 100, .inl (fun i_ => nI ((fun _ => 0) i_)))) q5 = some (.inl (k 0, 300, .inl (fun i_ => nI ((fun _ => 0) i_)))) := (mp_up_n (fun z => by rw [z, hq_46] at hqq5__M_44; cases hqq5__M_44)).trans hqq5__M_44
  have hqq6__M_44_n : mp_up M_44 q10 (.inl (k 5, 100, .inl (fun i_ => nI ((fun _ => 0) i_)))) q6 = some (.inl (k 0, 12, .inl (fun i_ => nI ((fun _ => 0) i_)))) := (mp_up_n (fun z => by rw [z, hq_46] at hqq6__M_44; cases hqq6__M_44)).trans hqq6__M_44
  have hqq7__M_44_n : mp_up M_44 q10 (.inl (k 5, 100, .inl (fun i_ => nI ((fun _ => 0) i_)))) q7 = some (.inl (k 0, 100, .inl (fun i_ => nI ((fun _ => 0) i_)))) := (mp_up_n (fun z => by rw [z, hq_46] at hqq7__M_44; cases hqq7__M_44)).trans hqq7__M_44
  have hqq8__M_44_n : mp_up M_44 q10 (.inl (k 5, 100, .inl (fun i_ => nI ((fun _ => 0) i_)))) q8 = some (.inl (k 0, 100, .inl (fun i_ => nI ((fun _ => 0) i_)))) := (mp_up_n (fun z => by rw [z, hq_46] at hqq8__M_44; cases hqq8__M_44)).trans hqq8__M_44
  have hqq9__M_44_n : mp_up M_44 q10 (.inl (k 5, 100, .inl (fun i_ => nI ((fun _ => 0) i_)))) q9 = some (.inl (k 0, 100, .inl (fun i_ => nI ((fun _ => 0) i_)))) := (mp_up_n (fun z => by rw [z, hq_46] at hqq9__M_44; cases hqq9__M_44)).trans hqq9__M_44
  generalize eM_48 : mp_up M_44 q10 (.inl (k 5, 100, .inl (fun i_ => nI ((fun _ => 0) i_)))) = M_47 at I hqq10_n h0__M_44_n hqq1__M_44_n hqq2__M_44_n hqq3__M_44_n hqq4__M_44_n hqq5__M_44_n hqq6__M_44_n hqq7__M_44_n hqq8__M_44_n hqq9__M_44_n
  have h0__M_47 := h0__M_44_n
  have hqq1__M_47 := hqq1__M_44_n
  have hqq2__M_47 := hqq2__M_44_n
  have hqq3__M_47 := hqq3__M_44_n
  have hqq4__M_47 := hqq4__M_44_n
  have hqq5__M_47 := hqq5__M_44_n
  have hqq6__M_47 := hqq6__M_44_n
  have hqq7__M_47 := hqq7__M_44_n
  have hqq8__M_47 := hqq8__M_44_n
  have hqq9__M_47 := hqq9__M_44_n
  have hqq10__M_47 := hqq10_n
  clear hqq10_n h0__M_44_n hqq1__M_44_n hqq2__M_44_n hqq3__M_44_n hqq4__M_44_n hqq5__M_44_n hqq6__M_44_n hqq7__M_44_n hqq8__M_44_n hqq9__M_44_n
  refine mp_putF (v := .ref q10) (ty := .array .boolean) hx hb hts inM tyM okM nmM hown I h0__M_47 rfl 12 (by decide) (hts _ bw_343) (fun _ h9 => h9) rfl hin rfl (by decide +kernel) rfl rfl (Nat.le_of_ble_eq_true rfl) dM_init_86 (fun H locs I => ?_)
  have I : mp_I D cls5 (tys6 k) s _ s.heap H locs (mp_up M_47 mo (.inr (4, [.ref q1, .ref q2, .int 0, .ref q3, .ref q4, .ref q5, .int 0, .ref q6, .int 0, .ref q7, .ref q8, .ref q9, .ref q10, .int 0, .null, .null, .int 0, .int 0]))) := I
  have h0__M_47_n : mp_up M_47 mo (.inr (4, [.ref q1, .ref q2, .int 0, .ref q3, .ref q4, .ref q5, .int 0, .ref q6, .int 0, .ref q7, .ref q8, .ref q9, .ref q10, .int 0, .null, .null, .int 0, .int 0])) mo = some (.inr (4, [.ref q1, .ref q2, .int 0, .ref q3, .ref q4, .ref q5, .int 0, .ref q6, .int 0, .ref q7, .ref q8, .ref q9, .ref q10, .int 0, .null, .null, .int 0, .int 0])) := mp_up_s _ _ _
  have hqq1__M_47_n : mp_up M_47 mo (.inr (4, [.ref q1, .ref q2, .int 0, .ref q3, .ref q4, .ref q5, .int 0, .ref q6, .int 0, .ref q7, .ref q8, .ref q9, .ref q10, .int 0, .null, .null, .int 0, .int 0])) q1 = some (.inl (k 1, 4000, .inr (.inl (fun _ => 0)))) := (mp_up_n (mp_ne hqq1__M_47 h0__M_47 (by simp))).trans hqq1__M_47
  have hqq2__M_47_n : mp_up M_47 mo (.inr (4, [.ref q1, .ref q2, .int 0, .ref q3, .ref q4, .ref q5, .int 0, .ref q6, .int 0, .ref q7, .ref q8, .ref q9, .ref q10, .int 0, .null, .null, .int 0, .int 0])) q2 = some (.inl (k 0, 4000, .inl (fun i_ => nI ((fun _ => 0) i_)))) := (mp_up_n (mp_ne hqq2__M_47 h0__M_47 (by simp))).trans hqq2__M_47
  have hqq3__M_47_n : mp_up M_47 mo (.inr (4, [.ref q1, .ref q2, .int 0, .ref q3, .ref q4, .ref q5, .int 0, .ref q6, .int 0, .ref q7, .ref q8, .ref q9, .ref q10, .int 0, .null, .null, .int 0, .int 0])) q3 = some (.inl (k 0, 300, .inl (fun i_ => nI ((fun _ => 0) i_)))) := (mp_up_n (mp_ne hqq3__M_47 h0__M_47 (by simp))).trans hqq3__M_47
  have hqq4__M_47_n : mp_up M_47 mo (.inr (4, [.ref q1, .ref q2, .int 0, .ref q3, .ref q4, .ref q5, .int 0, .ref q6, .int 0, .ref q7, .ref q8, .ref q9, .ref q10, .int 0, .null, .null, .int 0, .int 0])) q4 = some (.inl (k 0, 300, .inl (fun i_ => nI ((fun _ => 0) i_)))) := (mp_up_n (mp_ne hqq4__M_47 h0__M_47 (by simp))).trans hqq4__M_47
  have hqq5__M_47_n : mp_up M_47 mo (.inr (4, [.ref q1, .ref q2, .int 0, .ref q3, .ref q4, .ref q5, .int 0, .ref q6, .int 0, .ref q7, .ref q8, .ref q9, .ref q10, .int 0, .null, .null, .int 0, .int 0])) q5 = some (.inl (k 0, 300, .inl (fun i_ => nI ((fun _ => 0) i_)))) := (mp_up_n (mp_ne hqq5__M_47 h0__M_47 (by simp))).trans hqq5__M_47
  have hqq6__M_47_n : mp_up M_47 mo (.inr (4, [.ref q1, .ref q2, .int 0, .ref q3, .ref q4, .ref q5, .int 0, .ref q6, .int 0, .ref q7, .ref q8, .ref q9, .ref q10, .int 0, .null, .null, .int 0, .int 0])) q6 = some (.inl (k 0, 12, .inl (fun i_ => nI ((fun _ => 0) i_)))) := (mp_up_n (mp_ne hqq6__M_47 h0__M_47 (by simp))).trans hqq6__M_47
  have hqq7__M_47_n : mp_up M_47 mo (.inr (4, [.ref q1, .ref q2, .int 0, .ref q3, .ref q4, .ref q5, .int 0, .ref q6, .int 0, .ref q7, .ref q8, .ref q9, .ref q10, .int 0, .null, .null, .int 0, .int 0])) q7 = some (.inl (k 0, 100, .inl (fun i_ => nI ((fun _ => 0) i_)))) := (mp_up_n (mp_ne hqq7__M_47 h0__M_47 (by simp))).trans hqq7__M_47
  have hqq8__M_47_n : mp_up M_47 mo (.inr (4, [.ref q1, .ref q2, .int 0, .ref q3, .ref q4, .ref q5, .int 0, .ref q6, .int 0, .ref q7, .ref q8, .ref q9, .ref q10, .int 0, .null, .null, .int 0, .int 0])) q8 = some (.inl (k 0, 100, .inl (fun i_ => nI ((fun _ => 0) i_)))) := (mp_up_n (mp_ne hqq8__M_47 h0__M_47 (by simp))).trans hqq8__M_47
  have hqq9__M_47_n : mp_up M_47 mo (.inr (4, [.ref q1, .ref q2, .int 0, .ref q3, .ref q4, .ref q5, .int 0, .ref q6, .int 0, .ref q7, .ref q8, .ref q9, .ref q10, .int 0, .null, .null, .int 0, .int 0])) q9 = some (.inl (k 0, 100, .inl (fun i_ => nI ((fun _ => 0) i_)))) := (mp_up_n (mp_ne hqq9__M_47 h0__M_47 (by simp))).trans hqq9__M_47
  have hqq10__M_47_n : mp_up M_47 mo (.inr (4, [.ref q1, .ref q2, .int 0, .ref q3, .ref q4, .ref q5, .int 0, .ref q6, .int 0, .ref q7, .ref q8, .ref q9, .ref q10, .int 0, .null, .null, .int 0, .int 0])) q10 = some (.inl (k 5, 100, .inl (fun i_ => nI ((fun _ => 0) i_)))) := (mp_up_n (mp_ne hqq10__M_47 h0__M_47 (by simp))).trans hqq10__M_47
  generalize eM_50 : mp_up M_47 mo (.inr (4, [.ref q1, .ref q2, .int 0, .ref q3, .ref q4, .ref q5, .int 0, .ref q6, .int 0, .ref q7, .ref q8, .ref q9, .ref q10, .int 0, .null, .null, .int 0, .int 0])) = M_49 at I h0__M_47_n hqq1__M_47_n hqq2__M_47_n hqq3__M_47_n hqq4__M_47_n hqq5__M_47_n hqq6__M_47_n hqq7__M_47_n hqq8__M_47_n hqq9__M_47_n hqq10__M_47_n
  have h0__M_49 := h0__M_47_n
  have hqq1__M_49 := hqq1__M_47_n
  have hqq2__M_49 := hqq2__M_47_n
  have hqq3__M_49 := hqq3__M_47_n
  have hqq4__M_49 := hqq4__M_47_n
  have hqq5__M_49 := hqq5__M_47_n
  have hqq6__M_49 := hqq6__M_47_n
  have hqq7__M_49 := hqq7__M_47_n
  have hqq8__M_49 := hqq8__M_47_n
  have hqq9__M_49 := hqq9__M_47_n
  have hqq10__M_49 := hqq10__M_47_n
  clear h0__M_47_n hqq1__M_47_n hqq2__M_47_n hqq3__M_47_n hqq4__M_47_n hqq5__M_47_n hqq6__M_47_n hqq7__M_47_n hqq8__M_47_n hqq9__M_47_n hqq10__M_47_n
  refine lv_aload_n hx hb dM_init_89 rfl (lv_at hl 0 rfl) ?_
  refine lv_ldc (v := nI 80000) hx hb hown (hts _ bw_330) dM_init_90 ?_
  refine mp_newa (atype := .long) (ty := .long) (a0 := (80000, .inr (.inl (fun _ => 0)))) hx hb (hts _ bw_60) rfl I 1 rfl (fun _ h => h) (fun _ => rfl) (by decide) (nI_clamp (by decide)) (by decide) (Nat.le_of_ble_eq_true rfl) (Nat.le_of_ble_eq_true rfl) dM_init_92 (fun q11 H hq_51 I => ?_)
  have n_mo_q11 : mo ≠ q11 := mp_none_ne h0__M_49 hq_51
  have n_q1_q11 : q1 ≠ q11 := mp_none_ne hqq1__M_49 hq_51
  have n_q2_q11 : q2 ≠ q11 := mp_none_ne hqq2__M_49 hq_51
  have n_q3_q11 : q3 ≠ q11 := mp_none_ne hqq3__M_49 hq_51
  have n_q4_q11 : q4 ≠ q11 := mp_none_ne hqq4__M_49 hq_51
  have n_q5_q11 : q5 ≠ q11 := mp_none_ne hqq5__M_49 hq_51
  have n_q6_q11 : q6 ≠ q11 := mp_none_ne hqq6__M_49 hq_51
  have n_q7_q11 : q7 ≠ q11 := mp_none_ne hqq7__M_49 hq_51
  have n_q8_q11 : q8 ≠ q11 := mp_none_ne hqq8__M_49 hq_51
  have n_q9_q11 : q9 ≠ q11 := mp_none_ne hqq9__M_49 hq_51
  have n_q10_q11 : q10 ≠ q11 := mp_none_ne hqq10__M_49 hq_51
  have hqq11_n : mp_up M_49 q11 (.inl (k 1, 80000, .inr (.inl (fun _ => 0)))) q11 = some (.inl (k 1, 80000, .inr (.inl (fun _ => 0)))) := mp_up_s _ _ _
  have h0__M_49_n : mp_up M_49 q11 (.inl (k 1, 80000, .inr (.inl (fun _ => 0)))) mo = some (.inr (4, [.ref q1, .ref q2, .int 0, .ref q3, .ref q4, .ref q5, .int 0, .ref q6, .int 0, .ref q7, .ref q8, .ref q9, .ref q10, .int 0, .null, .null, .int 0, .int 0])) := (mp_up_n (fun z => by rw [z, hq_51] at h0__M_49; cases h0__M_49)).trans h0__M_49
  have hqq1__M_49_n : mp_up M_49 q11 (.inl (k 1, 80000, .inr (.inl (fun _ => 0)))) q1 = some (.inl (k 1, 4000, .inr (.inl (fun _ => 0)))) := (mp_up_n (fun z => by rw [z, hq_51] at hqq1__M_49; cases hqq1__M_49)).trans hqq1__M_49
  have hqq2__M_49_n : mp_up M_49 q11 (.inl (k 1, 80000, .inr (.inl (fun _ => 0)))) q2 = some (.inl (k 0, 4000, .inl (fun i_ => nI ((fun _ => 0) i_)))) := (mp_up_n (fun z => by rw [z, hq_51] at hqq2__M_49; cases hqq2__M_49)).trans hqq2__M_49
  have hqq3__M_49_n : mp_up M_49 q11 (.inl (k 1, 80000, .inr (.inl (fun _ => 0)))) q3 = some (.inl (k 0, 300, .inl (fun i_ => nI ((fun _ => 0) i_)))) := (mp_up_n (fun z => by rw [z, hq_51] at hqq3__M_49; cases hqq3__M_49)).trans hqq3__M_49
  have hqq4__M_49_n : mp_up M_49 q11 (.inl (k 1, 80000, .inr (.inl (fun _ => 0)))) q4 = some (.inl (k 0, 300, .inl (fun i_ => nI ((fun _ => 0) i_)))) := (mp_up_n (fun z => by rw [z, hq_51] at hqq4__M_49; cases hqq4__M_49)).trans hqq4__M_49
  have hqq5__M_49_n : mp_up M_49 q11 (.inl (k 1, 80000, .inr (.inl (fun _ => 0)))) q5 = some (.inl (k 0, 300, .inl (fun i_ => nI ((fun _ => 0) i_)))) := (mp_up_n (fun z => by rw [z, hq_51] at hqq5__M_49; cases hqq5__M_49)).trans hqq5__M_49
  have hqq6__M_49_n : mp_up M_49 q11 (.inl (k 1, 80000, .inr (.inl (fun _ => 0)))) q6 = some (.inl (k 0, 12, .inl (fun i_ => nI ((fun _ => 0) i_)))) := (mp_up_n (fun z => by rw [z, hq_51] at hqq6__M_49; cases hqq6__M_49)).trans hqq6__M_49
  have hqq7__M_49_n : mp_up M_49 q11 (.inl (k 1, 80000, .inr (.inl (fun _ => 0)))) q7 = some (.inl (k 0, 100, .inl (fun i_ => nI ((fun _ => 0) i_)))) := (mp_up_n (fun z => by rw [z, hq_51] at hqq7__M_49; cases hqq7__M_49)).trans hqq7__M_49
  have hqq8__M_49_n : mp_up M_49 q11 (.inl (k 1, 80000, .inr (.inl (fun _ => 0)))) q8 = some (.inl (k 0, 100, .inl (fun i_ => nI ((fun _ => 0) i_)))) := (mp_up_n (fun z => by rw [z, hq_51] at hqq8__M_49; cases hqq8__M_49)).trans hqq8__M_49
  have hqq9__M_49_n : mp_up M_49 q11 (.inl (k 1, 80000, .inr (.inl (fun _ => 0)))) q9 = some (.inl (k 0, 100, .inl (fun i_ => nI ((fun _ => 0) i_)))) := (mp_up_n (fun z => by rw [z, hq_51] at hqq9__M_49; cases hqq9__M_49)).trans hqq9__M_49
  have hqq10__M_49_n : mp_up M_49 q11 (.inl (k 1, 80000, .inr (.inl (fun _ => 0)))) q10 = some (.inl (k 5, 100, .inl (fun i_ => nI ((fun _ => 0) i_)))) := (mp_up_n (fun z => by rw [z, hq_51] at hqq10__M_49; cases hqq10__M_49)).trans hqq10__M_49
  generalize eM_53 : mp_up M_49 q11 (.inl (k 1, 80000, .inr (.inl (fun _ => 0)))) = M_52 at I hqq11_n h0__M_49_n hqq1__M_49_n hqq2__M_49_n hqq3__M_49_n hqq4__M_49_n hqq5__M_49_n hqq6__M_49_n hqq7__M_49_n hqq8__M_49_n hqq9__M_49_n hqq10__M_49_n
  have h0__M_52 := h0__M_49_n
  have hqq1__M_52 := hqq1__M_49_n
  have hqq2__M_52 := hqq2__M_49_n
  have hqq3__M_52 := hqq3__M_49_n
  have hqq4__M_52 := hqq4__M_49_n
  have hqq5__M_52 := hqq5__M_49_n
  have hqq6__M_52 := hqq6__M_49_n
  have hqq7__M_52 := hqq7__M_49_n
  have hqq8__M_52 := hqq8__M_49_n
  have hqq9__M_52 := hqq9__M_49_n
  have hqq10__M_52 := hqq10__M_49_n
  have hqq11__M_52 := hqq11_n
  clear hqq11_n h0__M_49_n hqq1__M_49_n hqq2__M_49_n hqq3__M_49_n hqq4__M_49_n hqq5__M_49_n hqq6__M_49_n hqq7__M_49_n hqq8__M_49_n hqq9__M_49_n hqq10__M_49_n
  refine mp_putF (v := .ref q11) (ty := .array .long) hx hb hts inM tyM okM nmM hown I h0__M_52 rfl 14 (by decide) (hts _ bw_345) (fun _ h9 => h9) rfl hin rfl (by decide +kernel) rfl rfl (Nat.le_of_ble_eq_true rfl) dM_init_94 (fun H locs I => ?_)
  have I : mp_I D cls5 (tys6 k) s _ s.heap H locs (mp_up M_52 mo (.inr (4, [.ref q1, .ref q2, .int 0, .ref q3, .ref q4, .ref q5, .int 0, .ref q6, .int 0, .ref q7, .ref q8, .ref q9, .ref q10, .int 0, .ref q11, .null, .int 0, .int 0]))) := I
  have h0__M_52_n : mp_up M_52 mo (.inr (4, [.ref q1, .ref q2, .int 0, .ref q3, .ref q4, .ref q5, .int 0, .ref q6, .int 0, .ref q7, .ref q8, .ref q9, .ref q10, .int 0, .ref q11, .null, .int 0, .int 0])) mo = some (.inr (4, [.ref q1, .ref q2, .int 0, .ref q3, .ref q4, .ref q5, .int 0, .ref q6, .int 0, .ref q7, .ref q8, .ref q9, .ref q10, .int 0, .ref q11, .null, .int 0, .int 0])) := mp_up_s _ _ _
  have hqq1__M_52_n : mp_up M_52 mo (.inr (4, [.ref q1, .ref q2, .int 0, .ref q3, .ref q4, .ref q5, .int 0, .ref q6, .int 0, .ref q7, .ref q8, .ref q9, .ref q10, .int 0, .ref q11, .null, .int 0, .int 0])) q1 = some (.inl (k 1, 4000, .inr (.inl (fun _ => 0)))) := (mp_up_n (mp_ne hqq1__M_52 h0__M_52 (by simp))).trans hqq1__M_52
  have hqq2__M_52_n : mp_up M_52 mo (.inr (4, [.ref q1, .ref q2, .int 0, .ref q3, .ref q4, .ref q5, .int 0, .ref q6, .int 0, .ref q7, .ref q8, .ref q9, .ref q10, .int 0, .ref q11, .null, .int 0, .int 0])) q2 = some (.inl (k 0, 4000, .inl (fun i_ => nI ((fun _ => 0) i_)))) := (mp_up_n (mp_ne hqq2__M_52 h0__M_52 (by simp))).trans hqq2__M_52
  have hqq3__M_52_n : mp_up M_52 mo (.inr (4, [.ref q1, .ref q2, .int 0, .ref q3, .ref q4, .ref q5, .int 0, .ref q6, .int 0, .ref q7, .ref q8, .ref q9, .ref q10, .int 0, .ref q11, .null, .int 0, .int 0])) q3 = some (.inl (k 0, 300, .inl (fun i_ => nI ((fun _ => 0) i_)))) := (mp_up_n (mp_ne hqq3__M_52 h0__M_52 (by simp))).trans hqq3__M_52
  have hqq4__M_52_n : mp_up M_52 mo (.inr (4, [.ref q1, .ref q2, .int 0, .ref q3, .ref q4, .ref q5, .int 0, .ref q6, .int 0, .ref q7, .ref q8, .ref q9, .ref q10, .int 0, .ref q11, .null, .int 0, .int 0])) q4 = some (.inl (k 0, 300, .inl (fun i_ => nI ((fun _ => 0) i_)))) := (mp_up_n (mp_ne hqq4__M_52 h0__M_52 (by simp))).trans hqq4__M_52
  have hqq5__M_52_n : mp_up M_52 mo (.inr (4, [.ref q1, .ref q2, .int 0, .ref q3, .ref q4, .ref q5, .int 0, .ref q6, .int 0, .ref q7, .ref q8, .ref q9, .ref q10, .int 0, .ref q11, .null, .int 0, .int 0])) q5 = some (.inl (k 0, 300, .inl (fun i_ => nI ((fun _ => 0) i_)))) := (mp_up_n (mp_ne hqq5__M_52 h0__M_52 (by simp))).trans hqq5__M_52
  have hqq6__M_52_n : mp_up M_52 mo (.inr (4, [.ref q1, .ref q2, .int 0, .ref q3, .ref q4, .ref q5, .int 0, .ref q6, .int 0, .ref q7, .ref q8, .ref q9, .ref q10, .int 0, .ref q11, .null, .int 0, .int 0])) q6 = some (.inl (k 0, 12, .inl (fun i_ => nI ((fun _ => 0) i_)))) := (mp_up_n (mp_ne hqq6__M_52 h0__M_52 (by simp))).trans hqq6__M_52
  have hqq7__M_52_n : mp_up M_52 mo (.inr (4, [.ref q1, .ref q2, .int 0, .ref q3, .ref q4, .ref q5, .int 0, .ref q6, .int 0, .ref q7, .ref q8, .ref q9, .ref q10, .int 0, .ref q11, .null, .int 0, .int 0])) q7 = some (.inl (k 0, 100, .inl (fun i_ => nI ((fun _ => 0) i_)))) := (mp_up_n (mp_ne hqq7__M_52 h0__M_52 (by simp))).trans hqq7__M_52
  have hqq8__M_52_n : mp_up M_52 mo (.inr (4, [.ref q1, .ref q2, .int 0, .ref q3, .ref q4, .ref q5, .int 0, .ref q6, .int 0, .ref q7, .ref q8, .ref q9, .ref q10, .int 0, .ref q11, .null, .int 0, .int 0])) q8 = some (.inl (k 0, 100, .inl (fun i_ => nI ((fun _ => 0) i_)))) := (mp_up_n (mp_ne hqq8__M_52 h0__M_52 (by simp))).trans hqq8__M_52
  have hqq9__M_52_n : mp_up M_52 mo (.inr (4, [.ref q1, .ref q2, .int 0, .ref q3, .ref q4, .ref q5, .int 0, .ref q6, .int 0, .ref q7, .ref q8, .ref q9, .ref q10, .int 0, .ref q11, .null, .int 0, .int 0])) q9 = some (.inl (k 0, 100, .inl (fun i_ => nI ((fun _ => 0) i_)))) := (mp_up_n (mp_ne hqq9__M_52 h0__M_52 (by simp))).trans hqq9__M_52
  have hqq10__M_52_n : mp_up M_52 mo (.inr (4, [.ref q1, .ref q2, .int 0, .ref q3, .ref q4, .ref q5, .int 0, .ref q6, .int 0, .ref q7, .ref q8, .ref q9, .ref q10, .int 0, .ref q11, .null, .int 0, .int 0])) q10 = some (.inl (k 5, 100, .inl (fun i_ => nI ((fun _ => 0) i_)))) := (mp_up_n (mp_ne hqq10__M_52 h0__M_52 (by simp))).trans hqq10__M_52
  have hqq11__M_52_n : mp_up M_52 mo (.inr (4, [.ref q1, .ref q2, .int 0, .ref q3, .ref q4, .ref q5, .int 0, .ref q6, .int 0, .ref q7, .ref q8, .ref q9, .ref q10, .int 0, .ref q11, .null, .int 0, .int 0])) q11 = some (.inl (k 1, 80000, .inr (.inl (fun _ => 0)))) := (mp_up_n (mp_ne hqq11__M_52 h0__M_52 (by simp))).trans hqq11__M_52
  generalize eM_55 : mp_up M_52 mo (.inr (4, [.ref q1, .ref q2, .int 0, .ref q3, .ref q4, .ref q5, .int 0, .ref q6, .int 0, .ref q7, .ref q8, .ref q9, .ref q10, .int 0, .ref q11, .null, .int 0, .int 0])) = M_54 at I h0__M_52_n hqq1__M_52_n hqq2__M_52_n hqq3__M_52_n hqq4__M_52_n hqq5__M_52_n hqq6__M_52_n hqq7__M_52_n hqq8__M_52_n hqq9__M_52_n hqq10__M_52_n hqq11__M_52_n
  have h0__M_54 := h0__M_52_n
  have hqq1__M_54 := hqq1__M_52_n
  have hqq2__M_54 := hqq2__M_52_n
  have hqq3__M_54 := hqq3__M_52_n
  have hqq4__M_54 := hqq4__M_52_n
  have hqq5__M_54 := hqq5__M_52_n
  have hqq6__M_54 := hqq6__M_52_n
  have hqq7__M_54 := hqq7__M_52_n
  have hqq8__M_54 := hqq8__M_52_n
  have hqq9__M_54 := hqq9__M_52_n
  have hqq10__M_54 := hqq10__M_52_n
  have hqq11__M_54 := hqq11__M_52_n
  clear h0__M_52_n hqq1__M_52_n hqq2__M_52_n hqq3__M_52_n hqq4__M_52_n hqq5__M_52_n hqq6__M_52_n hqq7__M_52_n hqq8__M_52_n hqq9__M_52_n hqq10__M_52_n hqq11__M_52_n
  refine lv_aload_n hx hb dM_init_97 rfl (lv_at hl 0 rfl) ?_
  refine lv_bipush (v := nI 20) hx hb dM_init_98 (by decide) ?_
  refine mp_newa (atype := .int) (ty := .int) (a0 := (20, .inl (fun i_ => nI ((fun _ => 0) i_)))) hx hb (hts _ bw_61) rfl I 0 rfl (fun _ h => h) (fun _ => rfl) (by decide) (nI_clamp (by decide)) (by decide) (Nat.le_of_ble_eq_true rfl) (Nat.le_of_ble_eq_true rfl) dM_init_100 (fun q12 H hq_56 I => ?_)
  have n_mo_q12 : mo ≠ q12 := mp_none_ne h0__M_54 hq_56
  have n_q1_q12 : q1 ≠ q12 := mp_none_ne hqq1__M_54 hq_56
  have n_q2_q12 : q2 ≠ q12 := mp_none_ne hqq2__M_54 hq_56
  have n_q3_q12 : q3 ≠ q12 := mp_none_ne hqq3__M_54 hq_56
  have n_q4_q12 : q4 ≠ q12 := mp_none_ne hqq4__M_54 hq_56
  have n_q5_q12 : q5 ≠ q12 := mp_none_ne hqq5__M_54 hq_56
  have n_q6_q12 : q6 ≠ q12 := mp_none_ne hqq6__M_54 hq_56
  have n_q7_q12 : q7 ≠ q12 := mp_none_ne hqq7__M_54 hq_56
  have n_q8_q12 : q8 ≠ q12 := mp_none_ne hqq8__M_54 hq_56
  have n_q9_q12 : q9 ≠ q12 := mp_none_ne hqq9__M_54 hq_56
  have n_q10_q12 : q10 ≠ q12 := mp_none_ne hqq10__M_54 hq_56
  have n_q11_q12 : q11 ≠ q12 := mp_none_ne hqq11__M_54 hq_56
  have hqq12_n : mp_up M_54 q12 (.inl (k 0, 20, .inl (fun i_ => nI ((fun _ => 0) i_)))) q12 = some (.inl (k 0, 20, .inl (fun i_ => nI ((fun _ => 0) i_)))) := mp_up_s _ _ _
  have h0__M_54_n : mp_up M_54 q12 (.inl (k 0, 20, .inl (fun i_ => nI ((fun _ => 0) i_)))) mo = some (.inr (4, [.ref q1, .ref q2, .int 0, .ref q3, .ref q4, .ref q5, .int 0, .ref q6, .int 0, .ref q7, .ref q8, .ref q9, .ref q10, .int 0, .ref q11, .null, .int 0, .int 0])) := (mp_up_n (fun z => by rw [z, hq_56] at h0__M_54; cases h0__M_54)).trans h0__M_54
  have hqq1__M_54_n : mp_up M_54 q12 (.inl (k 0, 20, .inl (fun i_ => nI ((fun _ => 0) i_)))) q1 = some (.inl (k 1, 4000, .inr (.inl (fun _ => 0)))) := (mp_up_n (fun z => by rw [z, hq_56] at hqq1__M_54; cases hqq1__M_54)).trans hqq1__M_54
  have hqq2__M_54_n : mp_up M_54 q12 (.inl (k 0, 20, .inl (fun i_ => nI ((fun _ => 0) i_)))) q2 = some (.inl (k 0, 4000, .inl (fun i_ => nI ((fun _ => 0) i_)))) := (mp_up_n (fun z => by rw [z, hq_56] at hqq2__M_54; cases hqq2__M_54)).trans hqq2__M_54
  have hqq3__M_54_n : mp_up M_54 q12 (.inl (k 0, 20, .inl (fun i_ => nI ((fun _ => 0) i_)))) q3 = some (.inl (k 0, 300, .inl (fun i_ => nI ((fun _ => 0) i_)))) := (mp_up_n (fun z => by rw [z, hq_56] at hqq3__M_54; cases hqq3__M_54)).trans hqq3__M_54
  have hqq4__M_54_n : mp_up M_54 q12 (.inl (k 0, 20, .inl (fun i_ => nI ((fun _ => 0) i_)))) q4 = some (.inl (k 0, 300, .inl (fun i_ => nI ((fun _ => 0) i_)))) := (mp_up_n (fun z => by rw [z, hq_56] at hqq4__M_54; cases hqq4__M_54)).trans hqq4__M_54
  have hqq5__M_54_n : mp_up M_54 q12 (.inl (k 0, 20, .inl (fun i_ => nI ((fun _ => 0) i_)))) q5 = some (.inl (k 0, 300, .inl (fun i_ => nI ((fun _ => 0) i_)))) := (mp_up_n (fun z => by rw [z, hq_56] at hqq5__M_54; cases hqq5__M_54)).trans hqq5__M_54
  have hqq6__M_54_n : mp_up M_54 q12 (.inl (k 0, 20, .inl (fun i_ => nI ((fun _ => 0) i_)))) q6 = some (.inl (k 0, 12, .inl (fun i_ => nI ((fun _ => 0) i_)))) := (mp_up_n (fun z => by rw [z, hq_56] at hqq6__M_54; cases hqq6__M_54)).trans hqq6__M_54
  have hqq7__M_54_n : mp_up M_54 q12 (.inl (k 0, 20, .inl (fun i_ => nI ((fun _ => 0) i_)))) q7 = some (.inl (k 0, 100, .inl (fun i_ => nI ((fun _ => 0) i_)))) := (mp_up_n (fun z => by rw [z, hq_56] at hqq7__M_54; cases hqq7__M_54)).trans hqq7__M_54
  have hqq8__M_54_n : mp_up M_54 q12 (.inl (k 0, 20, .inl (fun i_ => nI ((fun _ => 0) i_)))) q8 = some (.inl (k 0, 100, .inl (fun i_ => nI ((fun _ => 0) i_)))) := (mp_up_n (fun z => by rw [z, hq_56] at hqq8__M_54; cases hqq8__M_54)).trans hqq8__M_54
  have hqq9__M_54_n : mp_up M_54 q12 (.inl (k 0, 20, .inl (fun i_ => nI ((fun _ => 0) i_)))) q9 = some (.inl (k 0, 100, .inl (fun i_ => nI ((fun _ => 0) i_)))) := (mp_up_n (fun z => by rw [z, hq_56] at hqq9__M_54; cases hqq9__M_54)).trans hqq9__M_54
  have hqq10__M_54_n : mp_up M_54 q12 (.inl (k 0, 20, .inl (fun i_ => nI ((fun _ => 0) i_)))) q10 = some (.inl (k 5, 100, .inl (fun i_ => nI ((fun _ => 0) i_)))) := (mp_up_n (fun z => by rw [z, hq_56] at hqq10__M_54; cases hqq10__M_54)).trans hqq10__M_54
  have hqq11__M_54_n : mp_up M_54 q12 (.inl (k 0, 20, .inl (fun i_ => nI ((fun _ => 0) i_)))) q11 = some (.inl (k 1, 80000, .inr (.inl (fun _ => 0)))) := (mp_up_n (fun z => by rw [z, hq_56] at hqq11__M_54; cases hqq11__M_54)).trans hqq11__M_54
  generalize eM_58 : mp_up M_54 q12 (.inl (k 0, 20, .inl (fun i_ => nI ((fun _ => 0) i_)))) = M_57 at I hqq12_n h0__M_54_n hqq1__M_54_n hqq2__M_54_n hqq3__M_54_n hqq4__M_54_n hqq5__M_54_n hqq6__M_54_n hqq7__M_54_n hqq8__M_54_n hqq9__M_54_n hqq10__M_54_n hqq11__M_54_n
  have h0__M_57 := h0__M_54_n
  have hqq1__M_57 := hqq1__M_54_n
  have hqq2__M_57 := hqq2__M_54_n
  have hqq3__M_57 := hqq3__M_54_n
  have hqq4__M_57 := hqq4__M_54_n
  have hqq5__M_57 := hqq5__M_54_n
  have hqq6__M_57 := hqq6__M_54_n
  have hqq7__M_57 := hqq7__M_54_n
  have hqq8__M_57 := hqq8__M_54_n
  have hqq9__M_57 := hqq9__M_54_n
  have hqq10__M_57 := hqq10__M_54_n
  have hqq11__M_57 := hqq11__M_54_n
  have hqq12__M_57 := hqq12_n
  clear hqq12_n h0__M_54_n hqq1__M_54_n hqq2__M_54_n hqq3__M_54_n hqq4__M_54_n hqq5__M_54_n hqq6__M_54_n hqq7__M_54_n hqq8__M_54_n hqq9__M_54_n hqq10__M_54_n hqq11__M_54_n
  refine mp_putF (v := .ref q12) (ty := .array .int) hx hb hts inM tyM okM nmM hown I h0__M_57 rfl 15 (by decide) (hts _ bw_346) (fun _ h9 => h9) rfl hin rfl (by decide +kernel) rfl rfl (Nat.le_of_ble_eq_true rfl) dM_init_102 (fun H locs I => ?_)
  have I : mp_I D cls5 (tys6 k) s _ s.heap H locs (mp_up M_57 mo (.inr (4, [.ref q1, .ref q2, .int 0, .ref q3, .ref q4, .ref q5, .int 0, .ref q6, .int 0, .ref q7, .ref q8, .ref q9, .ref q10, .int 0, .ref q11, .ref q12, .int 0, .int 0]))) := I
  have h0__M_57_n : mp_up M_57 mo (.inr (4, [.ref q1, .ref q2, .int 0, .ref q3, .ref q4, .ref q5, .int 0, .ref q6, .int 0, .ref q7, .ref q8, .ref q9, .ref q10, .int 0, .ref q11, .ref q12, .int 0, .int 0])) mo = some (.inr (4, [.ref q1, .ref q2, .int 0, .ref q3, .ref q4, .ref q5, .int 0, .ref q6, .int 0, .ref q7, .ref q8, .ref q9, .ref q10, .int 0, .ref q11, .ref q12, .int 0, .int 0])) := mp_up_s _ _ _
  have hqq1__M_57_n : mp_up M_57 mo (.inr (4, [.ref q1, .ref q2, .int 0, .ref q3, .ref q4, .ref q5, .int 0, .ref q6, .int 0, .ref q7, .ref q8, .ref q9, .ref q10, .int 0, .ref q11, .ref q12, .int 0, .int 0])) q1 = some (.inl (k 1, 4000, .inr (.inl (fun _ => 0)))) := (mp_up_n (mp_ne hqq1__M_57 h0__M_57 (by simp))).trans hqq1__M_57
  have hqq2__M_57_n : mp_up M_57 mo (.inr (4, [.ref q1, .ref q2, .int 0, .ref q3, .ref q4, .ref q5, .int 0, .ref q6, .int 0, .ref q7, .ref q8, .ref q9, .ref q10, .int 0, .ref q11, .ref q12, .int 0, .int 0])) q2 = some (.inl (k 0, 4000, .inl (fun i_ => nI ((fun _ => 0) i_)))) := (mp_up_n (mp_ne hqq2__M_57 h0__M_57 (by simp))).trans hqq2__M_57
  have hqq3__M_57_n : mp_up M_57 mo (.inr (4, [.ref q1, .ref q2, .int 0, .ref q3, .ref q4, .ref q5, .int 0, .ref q6, .int 0, .ref q7, .ref q8, .ref q9, .ref q10, .int 0, .ref q11, .ref q12, .int 0, .int 0])) q3 = some (.inl (k 0, 300, .inl (fun i_ => nI ((fun _ => 0) i_)))) := (mp_up_n (mp_ne hqq3__M_57 h0__M_57 (by simp))).trans hqq3__M_57
  have hqq4__M_57_n : mp_up M_57 mo (.inr (4, [.ref q1, .ref q2, .int 0, .ref q3, .ref q4, .ref q5, .int 0, .ref q6, .int 0, .ref q7, .ref q8, .ref q9, .ref q10, .int 0, .ref q11, .ref q12, .int 0, .int 0])) q4 = some (.inl (k 0, 300, .inl (fun i_ => nI ((fun _ => 0) i_)))) := (mp_up_n (mp_ne hqq4__M_57 h0__M_57 (by simp))).trans hqq4__M_57
  have hqq5__M_57_n : mp_up M_57 mo (.inr (4, [.ref q1, .ref q2, .int 0, .ref q3, .ref q4, .ref q5, .int 0, .ref q6, .int 0, .ref q7, .ref q8, .ref q9, .ref q10, .int 0, .ref q11, .ref q12, .int 0, .int 0])) q5 = some (.inl (k 0, 300, .inl (fun i_ => nI ((fun _ => 0) i_)))) := (mp_up_n (mp_ne hqq5__M_57 h0__M_57 (by simp))).trans hqq5__M_57
  have hqq6__M_57_n : mp_up M_57 mo (.inr (4, [.ref q1, .ref q2, .int 0, .ref q3, .ref q4, .ref q5, .int 0, .ref q6, .int 0, .ref q7, .ref q8, .ref q9, .ref q10, .int 0, .ref q11, .ref q12, .int 0, .int 0])) q6 = some (.inl (k 0, 12, .inl (fun i_ => nI ((fun _ => 0) i_)))) := (mp_up_n (mp_ne hqq6__M_57 h0__M_57 (by simp))).trans hqq6__M_57
  have hqq7__M_57_n : mp_up M_57 mo (.inr (4, [.ref q1, .ref q2, .int 0, .ref q3, .ref q4, .ref q5, .int 0, .ref q6, .int 0, .ref q7, .ref q8, .ref q9, .ref q10, .int 0, .ref q11, .ref q12, .int 0, .int 0])) q7 = some (.inl (k 0, 100, .inl (fun i_ => nI ((fun _ => 0) i_)))) := (mp_up_n (mp_ne hqq7__M_57 h0__M_57 (by simp))).trans hqq7__M_57
  have hqq8__M_57_n : mp_up M_57 mo (.inr (4, [.ref q1, .ref q2, .int 0, .ref q3, .ref q4, .ref q5, .int 0, .ref q6, .int 0, .ref q7, .ref q8, .ref q9, .ref q10, .int 0, .ref q11, .ref q12, .int 0, .int 0])) q8 = some (.inl (k 0, 100, .inl (fun i_ => nI ((fun _ => 0) i_)))) := (mp_up_n (mp_ne hqq8__M_57 h0__M_57 (by simp))).trans hqq8__M_57
  have hqq9__M_57_n : mp_up M_57 mo (.inr (4, [.ref q1, .ref q2, .int 0, .ref q3, .ref q4, .ref q5, .int 0, .ref q6, .int 0, .ref q7, .ref q8, .ref q9, .ref q10, .int 0, .ref q11, .ref q12, .int 0, .int 0])) q9 = some (.inl (k 0, 100, .inl (fun i_ => nI ((fun _ => 0) i_)))) := (mp_up_n (mp_ne hqq9__M_57 h0__M_57 (by simp))).trans hqq9__M_57
  have hqq10__M_57_n : mp_up M_57 mo (.inr (4, [.ref q1, .ref q2, .int 0, .ref q3, .ref q4, .ref q5, .int 0, .ref q6, .int 0, .ref q7, .ref q8, .ref q9, .ref q10, .int 0, .ref q11, .ref q12, .int 0, .int 0])) q10 = some (.inl (k 5, 100, .inl (fun i_ => nI ((fun _ => 0) i_)))) := (mp_up_n (mp_ne hqq10__M_57 h0__M_57 (by simp))).trans hqq10__M_57
  have hqq11__M_57_n : mp_up M_57 mo (.inr (4, [.ref q1, .ref q2, .int 0, .ref q3, .ref q4, .ref q5, .int 0, .ref q6, .int 0, .ref q7, .ref q8, .ref q9, .ref q10, .int 0, .ref q11, .ref q12, .int 0, .int 0])) q11 = some (.inl (k 1, 80000, .inr (.inl (fun _ => 0)))) := (mp_up_n (mp_ne hqq11__M_57 h0__M_57 (by simp))).trans hqq11__M_57
  have hqq12__M_57_n : mp_up M_57 mo (.inr (4, [.ref q1, .ref q2, .int 0, .ref q3, .ref q4, .ref q5, .int 0, .ref q6, .int 0, .ref q7, .ref q8, .ref q9, .ref q10, .int 0, .ref q11, .ref q12, .int 0, .int 0])) q12 = some (.inl (k 0, 20, .inl (fun i_ => nI ((fun _ => 0) i_)))) := (mp_up_n (mp_ne hqq12__M_57 h0__M_57 (by simp))).trans hqq12__M_57
  generalize eM_60 : mp_up M_57 mo (.inr (4, [.ref q1, .ref q2, .int 0, .ref q3, .ref q4, .ref q5, .int 0, .ref q6, .int 0, .ref q7, .ref q8, .ref q9, .ref q10, .int 0, .ref q11, .ref q12, .int 0, .int 0])) = M_59 at I h0__M_57_n hqq1__M_57_n hqq2__M_57_n hqq3__M_57_n hqq4__M_57_n hqq5__M_57_n hqq6__M_57_n hqq7__M_57_n hqq8__M_57_n hqq9__M_57_n hqq10__M_57_n hqq11__M_57_n hqq12__M_57_n
  have h0__M_59 := h0__M_57_n
  have hqq1__M_59 := hqq1__M_57_n
  have hqq2__M_59 := hqq2__M_57_n
  have hqq3__M_59 := hqq3__M_57_n
  have hqq4__M_59 := hqq4__M_57_n
  have hqq5__M_59 := hqq5__M_57_n
  have hqq6__M_59 := hqq6__M_57_n
  have hqq7__M_59 := hqq7__M_57_n
  have hqq8__M_59 := hqq8__M_57_n
  have hqq9__M_59 := hqq9__M_57_n
  have hqq10__M_59 := hqq10__M_57_n
  have hqq11__M_59 := hqq11__M_57_n
  have hqq12__M_59 := hqq12__M_57_n
  clear h0__M_57_n hqq1__M_57_n hqq2__M_57_n hqq3__M_57_n hqq4__M_57_n hqq5__M_57_n hqq6__M_57_n hqq7__M_57_n hqq8__M_57_n hqq9__M_57_n hqq10__M_57_n hqq11__M_57_n hqq12__M_57_n
  exact mp_vret hx hb hr hlocks I (Nat.le_of_ble_eq_true rfl) (Nat.le_of_ble_eq_true rfl) dM_init_105 ⟨q1, q2, q3, q4, q5, q6, q7, q8, q9, q10, q11, q12, h0__M_59, hqq1__M_59, hqq2__M_59, hqq3__M_59, hqq4__M_59, hqq5__M_59, hqq6__M_59, hqq7__M_59, hqq8__M_59, hqq9__M_59, hqq10__M_59, hqq11__M_59, hqq12__M_59, n_q3_q4, n_q3_q5, n_q4_q5, n_q7_q8, n_q7_q9, n_q8_q9, n_q7_q10, n_q8_q10, n_q9_q10⟩
