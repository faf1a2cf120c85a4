abbrev rm_M_thrown : Room := { frames := 0, cells := 0, slots := 0, locals := 0 }
set_option maxHeartbeats 4000000 in
set_option maxRecDepth 100000 in
theorem kM_thrown (l : Launch) (D : va_G) (k : Nat → ClassId) (M : mp_M) {mo el ek bg sz kn rw pp pk wd lo kp ks : Nat} {ec tc wc sc nc th : Nat} {va mk : Nat → Int64} {kd wt tk tf tz sk sf sw ml nn : Nat → Nat} (hE : MdX k M mo el ek bg sz kn rw pp pk wd lo kp ks ec tc wc sc nc th va mk kd wt tk tf tz sk sf sw ml nn) (hO : OkB ec tc wc sc nc tk tf tz sk sf sw ml nn) : mp_Met l yM_thrown (Cond.code yM_thrown cM_thrown 1 (some .int) :: bw) rm_M_thrown D cls5 (tys6 k) [.ref mo] M (va_Qi (fun r M1 => M1 = M ∧ r = nI th)) 0 0 := by
  refine mp_Met.of (by decide) (Nat.le_of_ble_eq_true rfl) ?_
  intro p e s m below meth c hx hb hr hml hown hts hlocks hin ls hl I
  have hl : lv_has ls 1 [(0, .ref mo)] := hl
  obtain ⟨h0, hel, hek, hbg, hsz, hkn, hrw, hpp, hpk, hwd, hlo, hkp, hks, n_bg_sz, n_bg_kn, n_sz_kn, n_pp_pk, n_pp_wd, n_pk_wd, n_pp_lo, n_pk_lo, n_wd_lo⟩ := id hE
  obtain ⟨b1, b2, b3, b4, b5, bT, bS, bN⟩ := id hO
  refine lv_aload_n hx hb dM_thrown_0 rfl (lv_at hl 0 rfl) ?_
  refine mp_get (v := .int (nI th)) hx hb hts inM hown I h0 rfl 17 (by decide) (hts _ bw_348) (fun _ h9 => h9) rfl dM_thrown_1 ?_
  exact mp_iret hx hb hr hlocks I (Nat.le_of_ble_eq_true rfl) (Nat.le_of_ble_eq_true rfl) dM_thrown_4 ⟨rfl, rfl⟩
abbrev rm_M_isObject : Room := { frames := 0, cells := 0, slots := 0, locals := 0 }
set_option maxHeartbeats 4000000 in
set_option maxRecDepth 100000 in
theorem kM_isObject (l : Launch) (D : va_G) (k : Nat → ClassId) (M : mp_M) {mo el ek bg sz kn rw pp pk wd lo kp ks : Nat} {ec tc wc sc nc th : Nat} {va mk : Nat → Int64} {kd wt tk tf tz sk sf sw ml nn : Nat → Nat} (hE : MdX k M mo el ek bg sz kn rw pp pk wd lo kp ks ec tc wc sc nc th va mk kd wt tk tf tz sk sf sw ml nn) (hO : OkB ec tc wc sc nc tk tf tz sk sf sw ml nn) (x : Int32) : mp_Met l yM_isObject (Cond.code yM_isObject cM_isObject 2 (some .boolean) :: bw) rm_M_isObject D cls5 (tys6 k) [.ref mo, .int x] M (va_Qi (fun r M1 => M1 = M ∧ (((0 ≤ x.toInt ∧ x.toInt < (tc : Int)) ∧ r = nI 1) ∨ (¬ (0 ≤ x.toInt ∧ x.toInt < (tc : Int)) ∧ r = nI 0)))) 0 0 := by
  refine mp_Met.of (by decide) (Nat.le_of_ble_eq_true rfl) ?_
  intro p e s m below meth c hx hb hr hml hown hts hlocks hin ls hl I
  have hl : lv_has ls 2 [(0, .ref mo), (1, .int x)] := hl
  obtain ⟨h0, hel, hek, hbg, hsz, hkn, hrw, hpp, hpk, hwd, hlo, hkp, hks, n_bg_sz, n_bg_kn, n_sz_kn, n_pp_pk, n_pp_wd, n_pk_wd, n_pp_lo, n_pk_lo, n_wd_lo⟩ := id hE
  obtain ⟨b1, b2, b3, b4, b5, bT, bS, bN⟩ := id hO
  refine lv_iload_n hx hb dM_isObject_0 rfl (lv_at hl 1 rfl) ?_
  refine zz_if_lt (tgt := 16) hx hb rfl dM_isObject_1 (by decide) (fun c_1 => ?_) (fun c_1 => ?_)
  · refine lv_iconst (v := nI 0) hx hb dM_isObject_16 (by decide) ?_
    exact mp_zret hx hb hr hlocks I rfl (Nat.le_of_ble_eq_true rfl) (Nat.le_of_ble_eq_true rfl) dM_isObject_17 ⟨rfl, Or.inr ⟨by omega, rfl⟩⟩
  · refine lv_iload_n hx hb dM_isObject_4 rfl (lv_at hl 1 rfl) ?_
    refine lv_aload_n hx hb dM_isObject_5 rfl (lv_at hl 0 rfl) ?_
    refine mp_get (v := .int (nI tc)) hx hb hts inM hown I h0 rfl 6 (by decide) (hts _ bw_337) (fun _ h9 => h9) rfl dM_isObject_6 ?_
    refine zz_icmp_ge (tgt := 16) hx hb rfl (nI_toInt (by first | assumption | omega)) dM_isObject_9 (by decide) (fun c_2 => ?_) (fun c_2 => ?_)
    · refine lv_iconst (v := nI 0) hx hb dM_isObject_16 (by decide) ?_
      exact mp_zret hx hb hr hlocks I rfl (Nat.le_of_ble_eq_true rfl) (Nat.le_of_ble_eq_true rfl) dM_isObject_17 ⟨rfl, Or.inr ⟨by omega, rfl⟩⟩
    · refine lv_iconst (v := nI 1) hx hb dM_isObject_12 (by decide) ?_
      refine lv_goto (tgt := 17) hx hb dM_isObject_13 (by decide) ?_
      exact mp_zret hx hb hr hlocks I rfl (Nat.le_of_ble_eq_true rfl) (Nat.le_of_ble_eq_true rfl) dM_isObject_17 ⟨rfl, Or.inl ⟨by omega, rfl⟩⟩
abbrev rm_M_isPlace : Room := { frames := 0, cells := 0, slots := 0, locals := 0 }
set_option maxHeartbeats 4000000 in
set_option maxRecDepth 100000 in
theorem kM_isPlace (l : Launch) (D : va_G) (k : Nat → ClassId) (M : mp_M) {mo el ek bg sz kn rw pp pk wd lo kp ks : Nat} {ec tc wc sc nc th : Nat} {va mk : Nat → Int64} {kd wt tk tf tz sk sf sw ml nn : Nat → Nat} (hE : MdX k M mo el ek bg sz kn rw pp pk wd lo kp ks ec tc wc sc nc th va mk kd wt tk tf tz sk sf sw ml nn) (hO : OkB ec tc wc sc nc tk tf tz sk sf sw ml nn) (x : Int32) : mp_Met l yM_isPlace (Cond.code yM_isPlace cM_isPlace 2 (some .boolean) :: bw) rm_M_isPlace D cls5 (tys6 k) [.ref mo, .int x] M (va_Qi (fun r M1 => M1 = M ∧ (((0 ≤ x.toInt ∧ x.toInt < (sc : Int)) ∧ r = nI 1) ∨ (¬ (0 ≤ x.toInt ∧ x.toInt < (sc : Int)) ∧ r = nI 0)))) 0 0 := by
  refine mp_Met.of (by decide) (Nat.le_of_ble_eq_true rfl) ?_
  intro p e s m below meth c hx hb hr hml hown hts hlocks hin ls hl I
  have hl : lv_has ls 2 [(0, .ref mo), (1, .int x)] := hl
  obtain ⟨h0, hel, hek, hbg, hsz, hkn, hrw, hpp, hpk, hwd, hlo, hkp, hks, n_bg_sz, n_bg_kn, n_sz_kn, n_pp_pk, n_pp_wd, n_pk_wd, n_pp_lo, n_pk_lo, n_wd_lo⟩ := id hE
  obtain ⟨b1, b2, b3, b4, b5, bT, bS, bN⟩ := id hO
  refine lv_iload_n hx hb dM_isPlace_0 rfl (lv_at hl 1 rfl) ?_
  refine zz_if_lt (tgt := 16) hx hb rfl dM_isPlace_1 (by decide) (fun c_1 => ?_) (fun c_1 => ?_)
  · refine lv_iconst (v := nI 0) hx hb dM_isPlace_16 (by decide) ?_
    exact mp_zret hx hb hr hlocks I rfl (Nat.le_of_ble_eq_true rfl) (Nat.le_of_ble_eq_true rfl) dM_isPlace_17 ⟨rfl, Or.inr ⟨by omega, rfl⟩⟩
  · refine lv_iload_n hx hb dM_isPlace_4 rfl (lv_at hl 1 rfl) ?_
    refine lv_aload_n hx hb dM_isPlace_5 rfl (lv_at hl 0 rfl) ?_
    refine mp_get (v := .int (nI sc)) hx hb hts inM hown I h0 rfl 13 (by decide) (hts _ bw_344) (fun _ h9 => h9) rfl dM_isPlace_6 ?_
    refine zz_icmp_ge (tgt := 16) hx hb rfl (nI_toInt (by first | assumption | omega)) dM_isPlace_9 (by decide) (fun c_2 => ?_) (fun c_2 => ?_)
    · refine lv_iconst (v := nI 0) hx hb dM_isPlace_16 (by decide) ?_
      exact mp_zret hx hb hr hlocks I rfl (Nat.le_of_ble_eq_true rfl) (Nat.le_of_ble_eq_true rfl) dM_isPlace_17 ⟨rfl, Or.inr ⟨by omega, rfl⟩⟩
    · refine lv_iconst (v := nI 1) hx hb dM_isPlace_12 (by decide) ?_
      refine lv_goto (tgt := 17) hx hb dM_isPlace_13 (by decide) ?_
      exact mp_zret hx hb hr hlocks I rfl (Nat.le_of_ble_eq_true rfl) (Nat.le_of_ble_eq_true rfl) dM_isPlace_17 ⟨rfl, Or.inl ⟨by omega, rfl⟩⟩
abbrev rm_M_put : Room := { frames := 1, cells := 0, slots := 0, locals := 22 }
set_option maxHeartbeats 4000000 in
set_option maxRecDepth 100000 in
theorem kM_put (l : Launch) (D : va_G) (k : Nat → ClassId) (M : mp_M) {mo el ek bg sz kn rw pp pk wd lo kp ks : Nat} {ec tc wc sc nc th : Nat} {va mk : Nat → Int64} {kd wt tk tf tz sk sf sw ml nn : Nat → Nat} (hE : MdX k M mo el ek bg sz kn rw pp pk wd lo kp ks ec tc wc sc nc th va mk kd wt tk tf tz sk sf sw ml nn) (hO : OkB ec tc wc sc nc tk tf tz sk sf sw ml nn) (x : Int32) : mp_Met l yM_put (Cond.code yM_put cM_put 2 (some .boolean) :: bw) rm_M_put D cls5 (tys6 k) [.ref mo, .int x] M (va_Qi (fun r M1 => (wc < 12 ∧ (1 ≤ x.toInt ∧ x.toInt ≤ 7) ∧ r = nI 1 ∧ ∃ xn : Nat, x.toInt = xn ∧ MdX k M1 mo el ek bg sz kn rw pp pk wd lo kp ks ec tc (wc + 1) sc nc (0) va mk kd (nu wt wc xn) tk tf tz sk sf sw ml nn) ∨ (¬ (wc < 12 ∧ (1 ≤ x.toInt ∧ x.toInt ≤ 7)) ∧ r = nI 0 ∧ MdX k M1 mo el ek bg sz kn rw pp pk wd lo kp ks ec tc wc sc nc (0) va mk kd wt tk tf tz sk sf sw ml nn))) 0 0 := by
  refine mp_Met.of (by decide) (Nat.le_of_ble_eq_true rfl) ?_
  intro p e s m below meth c hx hb hr hml hown hts hlocks hin ls hl I
  have hl : lv_has ls 2 [(0, .ref mo), (1, .int x)] := hl
  obtain ⟨h0, hel, hek, hbg, hsz, hkn, hrw, hpp, hpk, hwd, hlo, hkp, hks, n_bg_sz, n_bg_kn, n_sz_kn, n_pp_pk, n_pp_wd, n_pk_wd, n_pp_lo, n_pk_lo, n_wd_lo⟩ := id hE
  obtain ⟨b1, b2, b3, b4, b5, bT, bS, bN⟩ := id hO
  refine lv_aload_n hx hb dM_put_0 rfl (lv_at hl 0 rfl) ?_
  refine lv_iconst (v := nI 0) hx hb dM_put_1 (by decide) ?_
  refine mp_put (v := .int (nI 0)) (ty := .int) hx hb hts inM tyM okM nmM hown I h0 rfl 17 (by decide) (hts _ bw_348) (fun _ h9 => h9) rfl (by decide +kernel) rfl rfl (Nat.le_of_ble_eq_true rfl) dM_put_2 (fun H locs I => ?_)
  have I : mp_I D cls5 (tys6 k) s _ s.heap H locs (mp_up M mo (.inr (4, [.ref el, .ref ek, .int (nI ec), .ref bg, .ref sz, .ref kn, .int (nI tc), .ref rw, .int (nI wc), .ref pp, .ref pk, .ref wd, .ref lo, .int (nI sc), .ref kp, .ref ks, .int (nI nc), .int (nI 0)]))) := I
  have h0_n : mp_up M mo (.inr (4, [.ref el, .ref ek, .int (nI ec), .ref bg, .ref sz, .ref kn, .int (nI tc), .ref rw, .int (nI wc), .ref pp, .ref pk, .ref wd, .ref lo, .int (nI sc), .ref kp, .ref ks, .int (nI nc), .int (nI 0)])) mo = some (.inr (4, [.ref el, .ref ek, .int (nI ec), .ref bg, .ref sz, .ref kn, .int (nI tc), .ref rw, .int (nI wc), .ref pp, .ref pk, .ref wd, .ref lo, .int (nI sc), .ref kp, .ref ks, .int (nI nc), .int (nI 0)])) := mp_up_s _ _ _
  have hel_n : mp_up M mo (.inr (4, [.ref el, .ref ek, .int (nI ec), .ref bg, .ref sz, .ref kn, .int (nI tc), .ref rw, .int (nI wc), .ref pp, .ref pk, .ref wd, .ref lo, .int (nI sc), .ref kp, .ref ks, .int (nI nc), .int (nI 0)])) el = some (.inl (k 1, 4000, .inr (.inl va))) := (mp_up_n (mp_ne hel h0 (by simp))).trans hel
  have hek_n : mp_up M mo (.inr (4, [.ref el, .ref ek, .int (nI ec), .ref bg, .ref sz, .ref kn, .int (nI tc), .ref rw, .int (nI wc), .ref pp, .ref pk, .ref wd, .ref lo, .int (nI sc), .ref kp, .ref ks, .int (nI nc), .int (nI 0)])) ek = some (.inl (k 0, 4000, .inl (fun i_ => nI (kd i_)))) := (mp_up_n (mp_ne hek h0 (by simp))).trans hek
  have hbg_n : mp_up M mo (.inr (4, [.ref el, .ref ek, .int (nI ec), .ref bg, .ref sz, .ref kn, .int (nI tc), .ref rw, .int (nI wc), .ref pp, .ref pk, .ref wd, .ref lo, .int (nI sc), .ref kp, .ref ks, .int (nI nc), .int (nI 0)])) bg = some (.inl (k 0, 300, .inl (fun i_ => nI (tf i_)))) := (mp_up_n (mp_ne hbg h0 (by simp))).trans hbg
  have hsz_n : mp_up M mo (.inr (4, [.ref el, .ref ek, .int (nI ec), .ref bg, .ref sz, .ref kn, .int (nI tc), .ref rw, .int (nI wc), .ref pp, .ref pk, .ref wd, .ref lo, .int (nI sc), .ref kp, .ref ks, .int (nI nc), .int (nI 0)])) sz = some (.inl (k 0, 300, .inl (fun i_ => nI (tz i_)))) := (mp_up_n (mp_ne hsz h0 (by simp))).trans hsz
  have hkn_n : mp_up M mo (.inr (4, [.ref el, .ref ek, .int (nI ec), .ref bg, .ref sz, .ref kn, .int (nI tc), .ref rw, .int (nI wc), .ref pp, .ref pk, .ref wd, .ref lo, .int (nI sc), .ref kp, .ref ks, .int (nI nc), .int (nI 0)])) kn = some (.inl (k 0, 300, .inl (fun i_ => nI (tk i_)))) := (mp_up_n (mp_ne hkn h0 (by simp))).trans hkn
  have hrw_n : mp_up M mo (.inr (4, [.ref el, .ref ek, .int (nI ec), .ref bg, .ref sz, .ref kn, .int (nI tc), .ref rw, .int (nI wc), .ref pp, .ref pk, .ref wd, .ref lo, .int (nI sc), .ref kp, .ref ks, .int (nI nc), .int (nI 0)])) rw = some (.inl (k 0, 12, .inl (fun i_ => nI (wt i_)))) := (mp_up_n (mp_ne hrw h0 (by simp))).trans hrw
  have hpp_n : mp_up M mo (.inr (4, [.ref el, .ref ek, .int (nI ec), .ref bg, .ref sz, .ref kn, .int (nI tc), .ref rw, .int (nI wc), .ref pp, .ref pk, .ref wd, .ref lo, .int (nI sc), .ref kp, .ref ks, .int (nI nc), .int (nI 0)])) pp = some (.inl (k 0, 100, .inl (fun i_ => nI (sf i_)))) := (mp_up_n (mp_ne hpp h0 (by simp))).trans hpp
  have hpk_n : mp_up M mo (.inr (4, [.ref el, .ref ek, .int (nI ec), .ref bg, .ref sz, .ref kn, .int (nI tc), .ref rw, .int (nI wc), .ref pp, .ref pk, .ref wd, .ref lo, .int (nI sc), .ref kp, .ref ks, .int (nI nc), .int (nI 0)])) pk = some (.inl (k 0, 100, .inl (fun i_ => nI (sk i_)))) := (mp_up_n (mp_ne hpk h0 (by simp))).trans hpk
  have hwd_n : mp_up M mo (.inr (4, [.ref el, .ref ek, .int (nI ec), .ref bg, .ref sz, .ref kn, .int (nI tc), .ref rw, .int (nI wc), .ref pp, .ref pk, .ref wd, .ref lo, .int (nI sc), .ref kp, .ref ks, .int (nI nc), .int (nI 0)])) wd = some (.inl (k 0, 100, .inl (fun i_ => nI (sw i_)))) := (mp_up_n (mp_ne hwd h0 (by simp))).trans hwd
  have hlo_n : mp_up M mo (.inr (4, [.ref el, .ref ek, .int (nI ec), .ref bg, .ref sz, .ref kn, .int (nI tc), .ref rw, .int (nI wc), .ref pp, .ref pk, .ref wd, .ref lo, .int (nI sc), .ref kp, .ref ks, .int (nI nc), .int (nI 0)])) lo = some (.inl (k 5, 100, .inl (fun i_ => nI (ml i_)))) := (mp_up_n (mp_ne hlo h0 (by simp))).trans hlo
  have hkp_n : mp_up M mo (.inr (4, [.ref el, .ref ek, .int (nI ec), .ref bg, .ref sz, .ref kn, .int (nI tc), .ref rw, .int (nI wc), .ref pp, .ref pk, .ref wd, .ref lo, .int (nI sc), .ref kp, .ref ks, .int (nI nc), .int (nI 0)])) kp = some (.inl (k 1, 80000, .inr (.inl mk))) := (mp_up_n (mp_ne hkp h0 (by simp))).trans hkp
  have hks_n : mp_up M mo (.inr (4, [.ref el, .ref ek, .int (nI ec), .ref bg, .ref sz, .ref kn, .int (nI tc), .ref rw, .int (nI wc), .ref pp, .ref pk, .ref wd, .ref lo, .int (nI sc), .ref kp, .ref ks, .int (nI nc), .int (nI 0)])) ks = some (.inl (k 0, 20, .inl (fun i_ => nI (nn i_)))) := (mp_up_n (mp_ne hks h0 (by simp))).trans hks
  generalize eM_2 : mp_up M mo (.inr (4, [.ref el, .ref ek, .int (nI ec), .ref bg, .ref sz, .ref kn, .int (nI tc), .ref rw, .int (nI wc), .ref pp, .ref pk, .ref wd, .ref lo, .int (nI sc), .ref kp, .ref ks, .int (nI nc), .int (nI 0)])) = M_1 at I h0_n hel_n hek_n hbg_n hsz_n hkn_n hrw_n hpp_n hpk_n hwd_n hlo_n hkp_n hks_n
  have h0__M_1 := h0_n
  have hel__M_1 := hel_n
  have hek__M_1 := hek_n
  have hbg__M_1 := hbg_n
  have hsz__M_1 := hsz_n
  have hkn__M_1 := hkn_n
  have hrw__M_1 := hrw_n
  have hpp__M_1 := hpp_n
  have hpk__M_1 := hpk_n
  have hwd__M_1 := hwd_n
  have hlo__M_1 := hlo_n
  have hkp__M_1 := hkp_n
  have hks__M_1 := hks_n
  clear h0_n hel_n hek_n hbg_n hsz_n hkn_n hrw_n hpp_n hpk_n hwd_n hlo_n hkp_n hks_n
  have hE := hE.cnt ec tc wc sc nc 0
  rw [eM_2] at hE
  refine lv_aload_n hx hb dM_put_5 rfl (lv_at hl 0 rfl) ?_
  refine mp_get (v := .int (nI wc)) hx hb hts inM hown I h0__M_1 rfl 8 (by decide) (hts _ bw_339) (fun _ h9 => h9) rfl dM_put_6 ?_
  refine lv_bipush (v := nI 12) hx hb dM_put_9 (by decide) ?_
  refine zz_icmp_eq (tgt := 21) hx hb (nI_toInt (by first | assumption | omega)) (nI_toInt (by decide)) dM_put_11 (by decide) (fun c_3 => ?_) (fun c_3 => ?_)
  · refine lv_iconst (v := nI 0) hx hb dM_put_21 (by decide) ?_
    exact mp_zret hx hb hr hlocks I rfl (Nat.le_of_ble_eq_true rfl) (Nat.le_of_ble_eq_true rfl) dM_put_22 (Or.inr ⟨by omega, rfl, hE⟩)
  · refine lv_iload_n hx hb dM_put_14 rfl (lv_at hl 1 rfl) ?_
    refine mp_calli (va_runS (As := [.int x]) (rest := []) ⟨hx, hb, hml, hown, hts⟩ (kM_isKind l D k M_1 x _) (cwS 1 hts (bw_S bw_395 bw_396 bw_2 bw_397) rfl rfl rfl (by decide +kernel) ⟨Nat.le_of_ble_eq_true rfl, Nat.le_of_ble_eq_true rfl⟩) (mp_preS I _) rfl rfl hl.1 rfl (lv_room (Nat.le_of_ble_eq_true rfl)) dM_put_15 ⟨Nat.le_of_ble_eq_true rfl, Nat.le_of_ble_eq_true rfl⟩) I (fun r_4 N_5 H locs hp I => ?_)
    obtain ⟨e_6, hp⟩ := hp
    rw [e_6] at I
    rcases hp with ⟨p1, p2, rfl⟩ | ⟨p1, rfl⟩
    · refine zz_if_ne (tgt := 23) hx hb (nI_toInt (by decide)) dM_put_18 (by decide) (fun _ => ?_) (fun c_7 => absurd c_7 (by decide))
      obtain ⟨xn, hn_xn, rfl, hz_xn⟩ := i32_nat (x := x) (by omega)
      refine lv_aload_n hx hb dM_put_23 rfl (lv_at hl 0 rfl) ?_
      refine mp_get (v := .ref rw) hx hb hts inM hown I h0__M_1 rfl 7 (by decide) (hts _ bw_338) (fun _ h9 => h9) rfl dM_put_24 ?_
      refine lv_aload_n hx hb dM_put_27 rfl (lv_at hl 0 rfl) ?_
      refine mp_get (v := .int (nI wc)) hx hb hts inM hown I h0__M_1 rfl 8 (by decide) (hts _ bw_339) (fun _ h9 => h9) rfl dM_put_28 ?_
      refine lv_iload_n hx hb dM_put_31 rfl (lv_at hl 1 rfl) ?_
      refine mp_iast hx hb I 0 hrw__M_1 rfl (x := nI xn) wc rfl (by omega) (by decide) dM_put_32 (fun H locs I => ?_)
      rw [upd_nI] at I
      have I : mp_I D cls5 (tys6 k) s _ s.heap H locs (mp_up M_1 rw (.inl (k 0, 12, .inl (fun i_ => nI ((nu wt wc xn) i_))))) := I
      have hrw__M_1_n : mp_up M_1 rw (.inl (k 0, 12, .inl (fun i_ => nI ((nu wt wc xn) i_)))) rw = some (.inl (k 0, 12, .inl (fun i_ => nI ((nu wt wc xn) i_)))) := mp_up_s _ _ _
      have h0__M_1_n : mp_up M_1 rw (.inl (k 0, 12, .inl (fun i_ => nI ((nu wt wc xn) i_)))) mo = some (.inr (4, [.ref el, .ref ek, .int (nI ec), .ref bg, .ref sz, .ref kn, .int (nI tc), .ref rw, .int (nI wc), .ref pp, .ref pk, .ref wd, .ref lo, .int (nI sc), .ref kp, .ref ks, .int (nI nc), .int (nI 0)])) := (mp_up_n (mp_ne h0__M_1 hrw__M_1 (by simp))).trans h0__M_1
      have hel__M_1_n : mp_up M_1 rw (.inl (k 0, 12, .inl (fun i_ => nI ((nu wt wc xn) i_)))) el = some (.inl (k 1, 4000, .inr (.inl va))) := (mp_up_n (mp_ne hel__M_1 hrw__M_1 (by simp))).trans hel__M_1
      have hek__M_1_n : mp_up M_1 rw (.inl (k 0, 12, .inl (fun i_ => nI ((nu wt wc xn) i_)))) ek = some (.inl (k 0, 4000, .inl (fun i_ => nI (kd i_)))) := (mp_up_n (mp_ne hek__M_1 hrw__M_1 (by simp))).trans hek__M_1
      have hbg__M_1_n : mp_up M_1 rw (.inl (k 0, 12, .inl (fun i_ => nI ((nu wt wc xn) i_)))) bg = some (.inl (k 0, 300, .inl (fun i_ => nI (tf i_)))) := (mp_up_n (mp_ne hbg__M_1 hrw__M_1 (by simp))).trans hbg__M_1
      have hsz__M_1_n : mp_up M_1 rw (.inl (k 0, 12, .inl (fun i_ => nI ((nu wt wc xn) i_)))) sz = some (.inl (k 0, 300, .inl (fun i_ => nI (tz i_)))) := (mp_up_n (mp_ne hsz__M_1 hrw__M_1 (by simp))).trans hsz__M_1
      have hkn__M_1_n : mp_up M_1 rw (.inl (k 0, 12, .inl (fun i_ => nI ((nu wt wc xn) i_)))) kn = some (.inl (k 0, 300, .inl (fun i_ => nI (tk i_)))) := (mp_up_n (mp_ne hkn__M_1 hrw__M_1 (by simp))).trans hkn__M_1
      have hpp__M_1_n : mp_up M_1 rw (.inl (k 0, 12, .inl (fun i_ => nI ((nu wt wc xn) i_)))) pp = some (.inl (k 0, 100, .inl (fun i_ => nI (sf i_)))) := (mp_up_n (mp_ne hpp__M_1 hrw__M_1 (by simp))).trans hpp__M_1
      have hpk__M_1_n : mp_up M_1 rw (.inl (k 0, 12, .inl (fun i_ => nI ((nu wt wc xn) i_)))) pk = some (.inl (k 0, 100, .inl (fun i_ => nI (sk i_)))) := (mp_up_n (mp_ne hpk__M_1 hrw__M_1 (by simp))).trans hpk__M_1
      have hwd__M_1_n : mp_up M_1 rw (.inl (k 0, 12, .inl (fun i_ => nI ((nu wt wc xn) i_)))) wd = some (.inl (k 0, 100, .inl (fun i_ => nI (sw i_)))) := (mp_up_n (mp_ne hwd__M_1 hrw__M_1 (by simp))).trans hwd__M_1
      have hlo__M_1_n : mp_up M_1 rw (.inl (k 0, 12, .inl (fun i_ => nI ((nu wt wc xn) i_)))) lo = some (.inl (k 5, 100, .inl (fun i_ => nI (ml i_)))) := (mp_up_n (mp_ne hlo__M_1 hrw__M_1 (by simp))).trans hlo__M_1
      have hkp__M_1_n : mp_up M_1 rw (.inl (k 0, 12, .inl (fun i_ => nI ((nu wt wc xn) i_)))) kp = some (.inl (k 1, 80000, .inr (.inl mk))) := (mp_up_n (mp_ne hkp__M_1 hrw__M_1 (by simp))).trans hkp__M_1
      have hks__M_1_n : mp_up M_1 rw (.inl (k 0, 12, .inl (fun i_ => nI ((nu wt wc xn) i_)))) ks = some (.inl (k 0, 20, .inl (fun i_ => nI (nn i_)))) := (mp_up_n (mp_ne hks__M_1 hrw__M_1 (by simp))).trans hks__M_1
      generalize eM_9 : mp_up M_1 rw (.inl (k 0, 12, .inl (fun i_ => nI ((nu wt wc xn) i_)))) = M_8 at I h0__M_1_n hel__M_1_n hek__M_1_n hbg__M_1_n hsz__M_1_n hkn__M_1_n hrw__M_1_n hpp__M_1_n hpk__M_1_n hwd__M_1_n hlo__M_1_n hkp__M_1_n hks__M_1_n
      have h0__M_8 := h0__M_1_n
      have hel__M_8 := hel__M_1_n
      have hek__M_8 := hek__M_1_n
      have hbg__M_8 := hbg__M_1_n
      have hsz__M_8 := hsz__M_1_n
      have hkn__M_8 := hkn__M_1_n
      have hrw__M_8 := hrw__M_1_n
      have hpp__M_8 := hpp__M_1_n
      have hpk__M_8 := hpk__M_1_n
      have hwd__M_8 := hwd__M_1_n
      have hlo__M_8 := hlo__M_1_n
      have hkp__M_8 := hkp__M_1_n
      have hks__M_8 := hks__M_1_n
      clear h0__M_1_n hel__M_1_n hek__M_1_n hbg__M_1_n hsz__M_1_n hkn__M_1_n hrw__M_1_n hpp__M_1_n hpk__M_1_n hwd__M_1_n hlo__M_1_n hkp__M_1_n hks__M_1_n
      have hE := hE.set_rw (nu wt wc xn)
      rw [eM_9] at hE
      refine lv_aload_n hx hb dM_put_33 rfl (lv_at hl 0 rfl) ?_
      refine lv_dup hx hb dM_put_34 rfl ?_
      refine mp_get (v := .int (nI wc)) hx hb hts inM hown I h0__M_8 rfl 8 (by decide) (hts _ bw_339) (fun _ h9 => h9) rfl dM_put_35 ?_
      refine lv_iconst (v := nI 1) hx hb dM_put_38 (by decide) ?_
      refine zz_iadd hx hb dM_put_39 ?_
      refine mp_put (v := .int (nI (wc + 1))) (ty := .int) hx hb hts inM tyM okM nmM hown I h0__M_8 rfl 8 (by decide) (hts _ bw_339) (fun _ h9 => h9) rfl (by decide +kernel) rfl rfl (Nat.le_of_ble_eq_true rfl) dM_put_40 (fun H locs I => ?_)
      have I : mp_I D cls5 (tys6 k) s _ s.heap H locs (mp_up M_8 mo (.inr (4, [.ref el, .ref ek, .int (nI ec), .ref bg, .ref sz, .ref kn, .int (nI tc), .ref rw, .int (nI (wc + 1)), .ref pp, .ref pk, .ref wd, .ref lo, .int (nI sc), .ref kp, .ref ks, .int (nI nc), .int (nI 0)]))) := I
      have h0__M_8_n : mp_up M_8 mo (.inr (4, [.ref el, .ref ek, .int (nI ec), .ref bg, .ref sz, .ref kn, .int (nI tc), .ref rw, .int (nI (wc + 1)), .ref pp, .ref pk, .ref wd, .ref lo, .int (nI sc), .ref kp, .ref ks, .int (nI nc), .int (nI 0)])) mo = some (.inr (4, [.ref el, .ref ek, .int (nI ec), .ref bg, .ref sz, .ref kn, .int (nI tc), .ref rw, .int (nI (wc + 1)), .ref pp, .ref pk, .ref wd, .ref lo, .int (nI sc), .ref kp, .ref ks, .int (nI nc), .int (nI 0)])) := mp_up_s _ _ _
      have hel__M_8_n : mp_up M_8 mo (.inr (4, [.ref el, .ref ek, .int (nI ec), .ref bg, .ref sz, .ref kn, .int (nI tc), .ref rw, .int (nI (wc + 1)), .ref pp, .ref pk, .ref wd, .ref lo, .int (nI sc), .ref kp, .ref ks, .int (nI nc), .int (nI 0)])) el = some (.inl (k 1, 4000, .inr (.inl va))) := (mp_up_n (mp_ne hel__M_8 h0__M_8 (by simp))).trans hel__M_8
      have hek__M_8_n : mp_up M_8 mo (.inr (4, [.ref el, .ref ek, .int (nI ec), .ref bg, .ref sz, .ref kn, .int (nI tc), .ref rw, .int (nI (wc + 1)), .ref pp, .ref pk, .ref wd, .ref lo, .int (nI sc), .ref kp, .ref ks, .int (nI nc), .int (nI 0)])) ek = some (.inl (k 0, 4000, .inl (fun i_ => nI (kd i_)))) := (mp_up_n (mp_ne hek__M_8 h0__M_8 (by simp))).trans hek__M_8
      have hbg__M_8_n : mp_up M_8 mo (.inr (4, [.ref el, .ref ek, .int (nI ec), .ref bg, .ref sz, .ref kn, .int (nI tc), .ref rw, .int (nI (wc + 1)), .ref pp, .ref pk, .ref wd, .ref lo, .int (nI sc), .ref kp, .ref ks, .int (nI nc), .int (nI 0)])) bg = some (.inl (k 0, 300, .inl (fun i_ => nI (tf i_)))) := (mp_up_n (mp_ne hbg__M_8 h0__M_8 (by simp))).trans hbg__M_8
      have hsz__M_8_n : mp_up M_8 mo (.inr (4, [.ref el, .ref ek, .int (nI ec), .ref bg, .ref sz, .ref kn, .int (nI tc), .ref rw, .int (nI (wc + 1)), .ref pp, .ref pk, .ref wd, .ref lo, .int (nI sc), .ref kp, .ref ks, .int (nI nc), .int (nI 0)])) sz = some (.inl (k 0, 300, .inl (fun i_ => nI (tz i_)))) := (mp_up_n (mp_ne hsz__M_8 h0__M_8 (by simp))).trans hsz__M_8
      have hkn__M_8_n : mp_up M_8 mo (.inr (4, [.ref el, .ref ek, .int (nI ec), .ref bg, .ref sz, .ref kn, .int (nI tc), .ref rw, .int (nI (wc + 1)), .ref pp, .ref pk, .ref wd, .ref lo, .int (nI sc), .ref kp, .ref ks, .int (nI nc), .int (nI 0)])) kn = some (.inl (k 0, 300, .inl (fun i_ => nI (tk i_)))) := (mp_up_n (mp_ne hkn__M_8 h0__M_8 (by simp))).trans hkn__M_8
      have hrw__M_8_n : mp_up M_8 mo (.inr (4, [.ref el, .ref ek, .int (nI ec), .ref bg, .ref sz, .ref kn, .int (nI tc), .ref rw, .int (nI (wc + 1)), .ref pp, .ref pk, .ref wd, .ref lo, .int (nI sc), .ref kp, .ref ks, .int (nI nc), .int (nI 0)])) rw = some (.inl (k 0, 12, .inl (fun i_ => nI ((nu wt wc xn) i_)))) := (mp_up_n (mp_ne hrw__M_8 h0__M_8 (by simp))).trans hrw__M_8
      have hpp__M_8_n : mp_up M_8 mo (.inr (4, [.ref el, .ref ek, .int (nI ec), .ref bg, .ref sz, .ref kn, .int (nI tc), .ref rw, .int (nI (wc + 1)), .ref pp, .ref pk, .ref wd, .ref lo, .int (nI sc), .ref kp, .ref ks, .int (nI nc), .int (nI 0)])) pp = some (.inl (k 0, 100, .inl (fun i_ => nI (sf i_)))) := (mp_up_n (mp_ne hpp__M_8 h0__M_8 (by simp))).trans hpp__M_8
      have hpk__M_8_n : mp_up M_8 mo (.inr (4, [.ref el, .ref ek, .int (nI ec), .ref bg, .ref sz, .ref kn, .int (nI tc), .ref rw, .int (nI (wc + 1)), .ref pp, .ref pk, .ref wd, .ref lo, .int (nI sc), .ref kp, .ref ks, .int (nI nc), .int (nI 0)])) pk = some (.inl (k 0, 100, .inl (fun i_ => nI (sk i_)))) := (mp_up_n (mp_ne hpk__M_8 h0__M_8 (by simp))).trans hpk__M_8
      have hwd__M_8_n : mp_up M_8 mo (.inr (4, [.ref el, .ref ek, .int (nI ec), .ref bg, .ref sz, .ref kn, .int (nI tc), .ref rw, .int (nI (wc + 1)), .ref pp, .ref pk, .ref wd, .ref lo, .int (nI sc), .ref kp, .ref ks, .int (nI nc), .int (nI 0)])) wd = some (.inl (k 0, 100, .inl (fun i_ => nI (sw i_)))) := (mp_up_n (mp_ne hwd__M_8 h0__M_8 (by simp))).trans hwd__M_8
      have hlo__M_8_n : mp_up M_8 mo (.inr (4, [.ref el, .ref ek, .int (nI ec), .ref bg, .ref sz, .ref kn, .int (nI tc), .ref rw, .int (nI (wc + 1)), .ref pp, .ref pk, .ref wd, .ref lo, .int (nI sc), .ref kp, .ref ks, .int (nI nc), .int (nI 0)])) lo = some (.inl (k 5, 100, .inl (fun i_ => nI (ml i_)))) := (mp_up_n (mp_ne hlo__M_8 h0__M_8 (by simp))).trans hlo__M_8
      have hkp__M_8_n : mp_up M_8 mo (.inr (4, [.ref el, .ref ek, .int (nI ec), .ref bg, .ref sz, .ref kn, .int (nI tc), .ref rw, .int (nI (wc + 1)), .ref pp, .ref pk, .ref wd, .ref lo, .int (nI sc), .ref kp, .ref ks, .int (nI nc), .int (nI 0)])) kp = some (.inl (k 1, 80000, .inr (.inl mk))) := (mp_up_n (mp_ne hkp__M_8 h0__M_8 (by simp))).trans hkp__M_8
      have hks__M_8_n : mp_up M_8 mo (.inr (4, [.ref el, .ref ek, .int (nI ec), .ref bg, .ref sz, .ref kn, .int (nI tc), .ref rw, .int (nI (wc + 1)), .ref pp, .ref pk, .ref wd, .ref lo, .int (nI sc), .ref kp, .ref ks, .int (nI nc), .int (nI 0)])) ks = some (.inl (k 0, 20, .inl (fun i_ => nI (nn i_)))) := (mp_up_n (mp_ne hks__M_8 h0__M_8 (by simp))).trans hks__M_8
      generalize eM_11 : mp_up M_8 mo (.inr (4, [.ref el, .ref ek, .int (nI ec), .ref bg, .ref sz, .ref kn, .int (nI tc), .ref rw, .int (nI (wc + 1)), .ref pp, .ref pk, .ref wd, .ref lo, .int (nI sc), .ref kp, .ref ks, .int (nI nc), .int (nI 0)])) = M_10 at I h0__M_8_n hel__M_8_n hek__M_8_n hbg__M_8_n hsz__M_8_n hkn__M_8_n hrw__M_8_n hpp__M_8_n hpk__M_8_n hwd__M_8_n hlo__M_8_n hkp__M_8_n hks__M_8_n
      have h0__M_10 := h0__M_8_n
      have hel__M_10 := hel__M_8_n
      have hek__M_10 := hek__M_8_n
      have hbg__M_10 := hbg__M_8_n
      have hsz__M_10 := hsz__M_8_n
      have hkn__M_10 := hkn__M_8_n
      have hrw__M_10 := hrw__M_8_n
      have hpp__M_10 := hpp__M_8_n
      have hpk__M_10 := hpk__M_8_n
      have hwd__M_10 := hwd__M_8_n
      have hlo__M_10 := hlo__M_8_n
      have hkp__M_10 := hkp__M_8_n
      have hks__M_10 := hks__M_8_n
      clear h0__M_8_n hel__M_8_n hek__M_8_n hbg__M_8_n hsz__M_8_n hkn__M_8_n hrw__M_8_n hpp__M_8_n hpk__M_8_n hwd__M_8_n hlo__M_8_n hkp__M_8_n hks__M_8_n
      have hE := hE.cnt ec tc (wc + 1) sc nc 0
      rw [eM_11] at hE
      refine lv_iconst (v := nI 1) hx hb dM_put_43 (by decide) ?_
      exact mp_zret hx hb hr hlocks I rfl (Nat.le_of_ble_eq_true rfl) (Nat.le_of_ble_eq_true rfl) dM_put_44 (Or.inl ⟨by omega, by omega, rfl, xn, by omega, hE⟩)
    · refine zz_if_ne (tgt := 23) hx hb (nI_toInt (by decide)) dM_put_18 (by decide) (fun c_12 => absurd c_12 (by decide)) (fun _ => ?_)
      refine lv_iconst (v := nI 0) hx hb dM_put_21 (by decide) ?_
      exact mp_zret hx hb hr hlocks I rfl (Nat.le_of_ble_eq_true rfl) (Nat.le_of_ble_eq_true rfl) dM_put_22 (Or.inr ⟨by omega, rfl, hE⟩)
abbrev rm_M_object : Room := { frames := 1, cells := 0, slots := 0, locals := 30 }
set_option maxHeartbeats 4000000 in
set_option maxRecDepth 100000 in
theorem kM_object (l : Launch) (D : va_G) (k : Nat → ClassId) (M : mp_M) {mo el ek bg sz kn rw pp pk wd lo kp ks : Nat} {ec tc wc sc nc th : Nat} {va mk : Nat → Int64} {kd wt tk tf tz sk sf sw ml nn : Nat → Nat} (hE : MdX k M mo el ek bg sz kn rw pp pk wd lo kp ks ec tc wc sc nc th va mk kd wt tk tf tz sk sf sw ml nn) (hO : OkB ec tc wc sc nc tk tf tz sk sf sw ml nn) (x y : Int32) : mp_Met l yM_object (Cond.code yM_object cM_object 3 (some .int) :: bw) rm_M_object D cls5 (tys6 k) [.ref mo, .int x, .int y] M (va_Qi (fun r M1 => r = obr tc kd tk tf tz x.toInt y.toInt ∧ MdX k M1 mo el ek bg sz kn rw pp pk wd lo kp ks ec tc wc sc nc (0) va mk kd wt tk tf tz sk sf sw ml nn)) 0 0 := by
  refine mp_Met.of (by decide) (Nat.le_of_ble_eq_true rfl) ?_
  intro p e s m below meth c hx hb hr hml hown hts hlocks hin ls hl I
  have hl : lv_has ls 3 [(0, .ref mo), (1, .int x), (2, .int y)] := hl
  obtain ⟨h0, hel, hek, hbg, hsz, hkn, hrw, hpp, hpk, hwd, hlo, hkp, hks, n_bg_sz, n_bg_kn, n_sz_kn, n_pp_pk, n_pp_wd, n_pk_wd, n_pp_lo, n_pk_lo, n_wd_lo⟩ := id hE
  obtain ⟨b1, b2, b3, b4, b5, bT, bS, bN⟩ := id hO
  refine lv_aload_n hx hb dM_object_0 rfl (lv_at hl 0 rfl) ?_
  refine lv_iconst (v := nI 0) hx hb dM_object_1 (by decide) ?_
  refine mp_put (v := .int (nI 0)) (ty := .int) hx hb hts inM tyM okM nmM hown I h0 rfl 17 (by decide) (hts _ bw_348) (fun _ h9 => h9) rfl (by decide +kernel) rfl rfl (Nat.le_of_ble_eq_true rfl) dM_object_2 (fun H locs I => ?_)
  have I : mp_I D cls5 (tys6 k) s _ s.heap H locs (mp_up M mo (.inr (4, [.ref el, .ref ek, .int (nI ec), .ref bg, .ref sz, .ref kn, .int (nI tc), .ref rw, .int (nI wc), .ref pp, .ref pk, .ref wd, .ref lo, .int (nI sc), .ref kp, .ref ks, .int (nI nc), .int (nI 0)]))) := I
  have h0_n : mp_up M mo (.inr (4, [.ref el, .ref ek, .int (nI ec), .ref bg, .ref sz, .ref kn, .int (nI tc), .ref rw, .int (nI wc), .ref pp, .ref pk, .ref wd, .ref lo, .int (nI sc), .ref kp, .ref ks, .int (nI nc), .int (nI 0)])) mo = some (.inr (4, [.ref el, .ref ek, .int (nI ec), .ref bg, .ref sz, .ref kn, .int (nI tc), .ref rw, .int (nI wc), .ref pp, .ref pk, .ref wd, .ref lo, .int (nI sc), .ref kp, .ref ks, .int (nI nc), .int (nI 0)])) := mp_up_s _ _ _
  have hel_n : mp_up M mo (.inr (4, [.ref el, .ref ek, .int (nI ec), .ref bg, .ref sz, .ref kn, .int (nI tc), .ref rw, .int (nI wc), .ref pp, .ref pk, .ref wd, .ref lo, .int (nI sc), .ref kp, .ref ks, .int (nI nc), .int (nI 0)])) el = some (.inl (k 1, 4000, .inr (.inl va))) := (mp_up_n (mp_ne hel h0 (by simp))).trans hel
  have hek_n : mp_up M mo (.inr (4, [.ref el, .ref ek, .int (nI ec), .ref bg, .ref sz, .ref kn, .int (nI tc), .ref rw, .int (nI wc), .ref pp, .ref pk, .ref wd, .ref lo, .int (nI sc), .ref kp, .ref ks, .int (nI nc), .int (nI 0)])) ek = some (.inl (k 0, 4000, .inl (fun i_ => nI (kd i_)))) := (mp_up_n (mp_ne hek h0 (by simp))).trans hek
  have hbg_n : mp_up M mo (.inr (4, [.ref el, .ref ek, .int (nI ec), .ref bg, .ref sz, .ref kn, .int (nI tc), .ref rw, .int (nI wc), .ref pp, .ref pk, .ref wd, .ref lo, .int (nI sc), .ref kp, .ref ks, .int (nI nc), .int (nI 0)])) bg = some (.inl (k 0, 300, .inl (fun i_ => nI (tf i_)))) := (mp_up_n (mp_ne hbg h0 (by simp))).trans hbg
  have hsz_n : mp_up M mo (.inr (4, [.ref el, .ref ek, .int (nI ec), .ref bg, .ref sz, .ref kn, .int (nI tc), .ref rw, .int (nI wc), .ref pp, .ref pk, .ref wd, .ref lo, .int (nI sc), .ref kp, .ref ks, .int (nI nc), .int (nI 0)])) sz = some (.inl (k 0, 300, .inl (fun i_ => nI (tz i_)))) := (mp_up_n (mp_ne hsz h0 (by simp))).trans hsz
  have hkn_n : mp_up M mo (.inr (4, [.ref el, .ref ek, .int (nI ec), .ref bg, .ref sz, .ref kn, .int (nI tc), .ref rw, .int (nI wc), .ref pp, .ref pk, .ref wd, .ref lo, .int (nI sc), .ref kp, .ref ks, .int (nI nc), .int (nI 0)])) kn = some (.inl (k 0, 300, .inl (fun i_ => nI (tk i_)))) := (mp_up_n (mp_ne hkn h0 (by simp))).trans hkn
  have hrw_n : mp_up M mo (.inr (4, [.ref el, .ref ek, .int (nI ec), .ref bg, .ref sz, .ref kn, .int (nI tc), .ref rw, .int (nI wc), .ref pp, .ref pk, .ref wd, .ref lo, .int (nI sc), .ref kp, .ref ks, .int (nI nc), .int (nI 0)])) rw = some (.inl (k 0, 12, .inl (fun i_ => nI (wt i_)))) := (mp_up_n (mp_ne hrw h0 (by simp))).trans hrw
  have hpp_n : mp_up M mo (.inr (4, [.ref el, .ref ek, .int (nI ec), .ref bg, .ref sz, .ref kn, .int (nI tc), .ref rw, .int (nI wc), .ref pp, .ref pk, .ref wd, .ref lo, .int (nI sc), .ref kp, .ref ks, .int (nI nc), .int (nI 0)])) pp = some (.inl (k 0, 100, .inl (fun i_ => nI (sf i_)))) := (mp_up_n (mp_ne hpp h0 (by simp))).trans hpp
  have hpk_n : mp_up M mo (.inr (4, [.ref el, .ref ek, .int (nI ec), .ref bg, .ref sz, .ref kn, .int (nI tc), .ref rw, .int (nI wc), .ref pp, .ref pk, .ref wd, .ref lo, .int (nI sc), .ref kp, .ref ks, .int (nI nc), .int (nI 0)])) pk = some (.inl (k 0, 100, .inl (fun i_ => nI (sk i_)))) := (mp_up_n (mp_ne hpk h0 (by simp))).trans hpk
  have hwd_n : mp_up M mo (.inr (4, [.ref el, .ref ek, .int (nI ec), .ref bg, .ref sz, .ref kn, .int (nI tc), .ref rw, .int (nI wc), .ref pp, .ref pk, .ref wd, .ref lo, .int (nI sc), .ref kp, .ref ks, .int (nI nc), .int (nI 0)])) wd = some (.inl (k 0, 100, .inl (fun i_ => nI (sw i_)))) := (mp_up_n (mp_ne hwd h0 (by simp))).trans hwd
  have hlo_n : mp_up M mo (.inr (4, [.ref el, .ref ek, .int (nI ec), .ref bg, .ref sz, .ref kn, .int (nI tc), .ref rw, .int (nI wc), .ref pp, .ref pk, .ref wd, .ref lo, .int (nI sc), .ref kp, .ref ks, .int (nI nc), .int (nI 0)])) lo = some (.inl (k 5, 100, .inl (fun i_ => nI (ml i_)))) := (mp_up_n (mp_ne hlo h0 (by simp))).trans hlo
  have hkp_n : mp_up M mo (.inr (4, [.ref el, .ref ek, .int (nI ec), .ref bg, .ref sz, .ref kn, .int (nI tc), .ref rw, .int (nI wc), .ref pp, .ref pk, .ref wd, .ref lo, .int (nI sc), .ref kp, .ref ks, .int (nI nc), .int (nI 0)])) kp = some (.inl (k 1, 80000, .inr (.inl mk))) := (mp_up_n (mp_ne hkp h0 (by simp))).trans hkp
  have hks_n : mp_up M mo (.inr (4, [.ref el, .ref ek, .int (nI ec), .ref bg, .ref sz, .ref kn, .int (nI tc), .ref rw, .int (nI wc), .ref pp, .ref pk, .ref wd, .ref lo, .int (nI sc), .ref kp, .ref ks, .int (nI nc), .int (nI 0)])) ks = some (.inl (k 0, 20, .inl (fun i_ => nI (nn i_)))) := (mp_up_n (mp_ne hks h0 (by simp))).trans hks
  generalize eM_2 : mp_up M mo (.inr (4, [.ref el, .ref ek, .int (nI ec), .ref bg, .ref sz, .ref kn, .int (nI tc), .ref rw, .int (nI wc), .ref pp, .ref pk, .ref wd, .ref lo, .int (nI sc), .ref kp, .ref ks, .int (nI nc), .int (nI 0)])) = M_1 at I h0_n hel_n hek_n hbg_n hsz_n hkn_n hrw_n hpp_n hpk_n hwd_n hlo_n hkp_n hks_n
  have h0__M_1 := h0_n
  have hel__M_1 := hel_n
  have hek__M_1 := hek_n
  have hbg__M_1 := hbg_n
  have hsz__M_1 := hsz_n
  have hkn__M_1 := hkn_n
  have hrw__M_1 := hrw_n
  have hpp__M_1 := hpp_n
  have hpk__M_1 := hpk_n
  have hwd__M_1 := hwd_n
  have hlo__M_1 := hlo_n
  have hkp__M_1 := hkp_n
  have hks__M_1 := hks_n
  clear h0_n hel_n hek_n hbg_n hsz_n hkn_n hrw_n hpp_n hpk_n hwd_n hlo_n hkp_n hks_n
  have hE := hE.cnt ec tc wc sc nc 0
  rw [eM_2] at hE
  refine lv_aload_n hx hb dM_object_5 rfl (lv_at hl 0 rfl) ?_
  refine lv_iload_n hx hb dM_object_6 rfl (lv_at hl 1 rfl) ?_
  refine mp_calli (va_runV (As := [.int x]) (rest := []) ⟨hx, hb, hml, hown, hts⟩ (kM_isObject l D k M_1 hE hO x _) (cwV 1 hts (bw_V bw_415 bw_417 bs_12 bw_2 bw_418) rfl rfl rfl (by decide +kernel) ⟨Nat.le_of_ble_eq_true rfl, Nat.le_of_ble_eq_true rfl⟩) (mp_preV I h0__M_1 rfl _) rfl rfl hl.1 rfl (lv_room (Nat.le_of_ble_eq_true rfl)) dM_object_7 ⟨Nat.le_of_ble_eq_true rfl, Nat.le_of_ble_eq_true rfl⟩) I (fun r_3 N_4 H locs hp I => ?_)
  obtain ⟨e_5, hp⟩ := hp
  rw [e_5] at I
  rcases hp with ⟨p1, rfl⟩ | ⟨p1, rfl⟩
  · refine zz_if_ne (tgt := 15) hx hb (nI_toInt (by decide)) dM_object_10 (by decide) (fun _ => ?_) (fun c_6 => absurd c_6 (by decide))
    obtain ⟨xn, hn_xn, rfl, hz_xn⟩ := i32_nat (x := x) (by omega)
    have hTx := bT xn (by omega)
    have hxi : (nI xn).toInt.toNat = xn := by omega
    refine lv_iload_n hx hb dM_object_15 rfl (lv_at hl 2 rfl) ?_
    refine lv_iconst (v := (-1)) hx hb dM_object_16 (by decide) ?_
    refine zz_icmp_ne (tgt := 27) hx hb rfl (show (-1 : Int32).toInt = -1 from rfl) dM_object_17 (by decide) (fun c_7 => ?_) (fun c_7 => ?_)
    · refine lv_iload_n hx hb dM_object_27 rfl (lv_at hl 2 rfl) ?_
      refine lv_bipush (v := (-2)) hx hb dM_object_28 (by decide) ?_
      refine zz_icmp_ne (tgt := 40) hx hb rfl (show (-2 : Int32).toInt = -2 from rfl) dM_object_30 (by decide) (fun c_8 => ?_) (fun c_8 => ?_)
      · refine lv_iload_n hx hb dM_object_40 rfl (lv_at hl 2 rfl) ?_
        refine zz_if_lt (tgt := 70) hx hb rfl dM_object_41 (by decide) (fun c_9 => ?_) (fun c_9 => ?_)
        · refine lv_iconst (v := (-1)) hx hb dM_object_70 (by decide) ?_
          exact mp_iret hx hb hr hlocks I (Nat.le_of_ble_eq_true rfl) (Nat.le_of_ble_eq_true rfl) dM_object_71 ⟨by unfold obr; rw [if_pos (show 0 ≤ (nI xn).toInt ∧ (nI xn).toInt < (tc : Int) by omega), hxi, if_neg (by omega), if_neg (by omega), if_neg (by omega)], hE⟩
        · refine lv_iload_n hx hb dM_object_44 rfl (lv_at hl 2 rfl) ?_
          refine lv_aload_n hx hb dM_object_45 rfl (lv_at hl 0 rfl) ?_
          refine mp_get (v := .ref sz) hx hb hts inM hown I h0__M_1 rfl 4 (by decide) (hts _ bw_335) (fun _ h9 => h9) rfl dM_object_46 ?_
          refine lv_iload_n hx hb dM_object_49 rfl (lv_at hl 1 rfl) ?_
          refine mp_iald hx hb I 0 hsz__M_1 rfl xn rfl (by omega) (by decide) (v := nI (tz xn)) rfl dM_object_50 ?_
          refine zz_icmp_ge (tgt := 70) hx hb rfl (nI_toInt (by first | assumption | omega)) dM_object_51 (by decide) (fun c_10 => ?_) (fun c_10 => ?_)
          · refine lv_iconst (v := (-1)) hx hb dM_object_70 (by decide) ?_
            exact mp_iret hx hb hr hlocks I (Nat.le_of_ble_eq_true rfl) (Nat.le_of_ble_eq_true rfl) dM_object_71 ⟨by unfold obr; rw [if_pos (show 0 ≤ (nI xn).toInt ∧ (nI xn).toInt < (tc : Int) by omega), hxi, if_neg (by omega), if_neg (by omega), if_neg (by omega)], hE⟩
          · obtain ⟨yn, hn_yn, rfl, hz_yn⟩ := i32_nat (x := y) (by omega)
            refine lv_aload_n hx hb dM_object_54 rfl (lv_at hl 0 rfl) ?_
            refine mp_get (v := .ref ek) hx hb hts inM hown I h0__M_1 rfl 1 (by decide) (hts _ bw_332) (fun _ h9 => h9) rfl dM_object_55 ?_
            refine lv_aload_n hx hb dM_object_58 rfl (lv_at hl 0 rfl) ?_
            refine mp_get (v := .ref bg) hx hb hts inM hown I h0__M_1 rfl 3 (by decide) (hts _ bw_334) (fun _ h9 => h9) rfl dM_object_59 ?_
            refine lv_iload_n hx hb dM_object_62 rfl (lv_at hl 1 rfl) ?_
            refine mp_iald hx hb I 0 hbg__M_1 rfl xn rfl (by omega) (by decide) (v := nI (tf xn)) rfl dM_object_63 ?_
            refine lv_iload_n hx hb dM_object_64 rfl (lv_at hl 2 rfl) ?_
            refine zz_iadd hx hb dM_object_65 ?_
            refine mp_iald hx hb I 0 hek__M_1 rfl (tf xn + yn) rfl (by omega) (by decide) (v := nI (kd (tf xn + yn))) rfl dM_object_66 ?_
            refine lv_goto (tgt := 71) hx hb dM_object_67 (by decide) ?_
            exact mp_iret hx hb hr hlocks I (Nat.le_of_ble_eq_true rfl) (Nat.le_of_ble_eq_true rfl) dM_object_71 ⟨by unfold obr; rw [if_pos (show 0 ≤ (nI xn).toInt ∧ (nI xn).toInt < (tc : Int) by omega), hxi, if_neg (by omega), if_neg (by omega), if_pos (by omega), show (nI yn).toInt.toNat = yn by omega], hE⟩
      · refine lv_aload_n hx hb dM_object_33 rfl (lv_at hl 0 rfl) ?_
        refine mp_get (v := .ref sz) hx hb hts inM hown I h0__M_1 rfl 4 (by decide) (hts _ bw_335) (fun _ h9 => h9) rfl dM_object_34 ?_
        refine lv_iload_n hx hb dM_object_37 rfl (lv_at hl 1 rfl) ?_
        refine mp_iald hx hb I 0 hsz__M_1 rfl xn rfl (by omega) (by decide) (v := nI (tz xn)) rfl dM_object_38 ?_
        exact mp_iret hx hb hr hlocks I (Nat.le_of_ble_eq_true rfl) (Nat.le_of_ble_eq_true rfl) dM_object_39 ⟨by unfold obr; rw [if_pos (show 0 ≤ (nI xn).toInt ∧ (nI xn).toInt < (tc : Int) by omega), hxi, if_neg (by omega), if_pos (by omega)], hE⟩
    · refine lv_aload_n hx hb dM_object_20 rfl (lv_at hl 0 rfl) ?_
      refine mp_get (v := .ref kn) hx hb hts inM hown I h0__M_1 rfl 5 (by decide) (hts _ bw_336) (fun _ h9 => h9) rfl dM_object_21 ?_
      refine lv_iload_n hx hb dM_object_24 rfl (lv_at hl 1 rfl) ?_
      refine mp_iald hx hb I 0 hkn__M_1 rfl xn rfl (by omega) (by decide) (v := nI (tk xn)) rfl dM_object_25 ?_
      exact mp_iret hx hb hr hlocks I (Nat.le_of_ble_eq_true rfl) (Nat.le_of_ble_eq_true rfl) dM_object_26 ⟨by unfold obr; rw [if_pos (show 0 ≤ (nI xn).toInt ∧ (nI xn).toInt < (tc : Int) by omega), hxi, if_pos (by omega)], hE⟩
  · refine zz_if_ne (tgt := 15) hx hb (nI_toInt (by decide)) dM_object_10 (by decide) (fun c_11 => absurd c_11 (by decide)) (fun _ => ?_)
    refine lv_iconst (v := (-1)) hx hb dM_object_13 (by decide) ?_
    exact mp_iret hx hb hr hlocks I (Nat.le_of_ble_eq_true rfl) (Nat.le_of_ble_eq_true rfl) dM_object_14 ⟨by unfold obr; rw [if_neg (by omega)], hE⟩
abbrev rm_M_kindOf : Room := { frames := 1, cells := 0, slots := 0, locals := 30 }
set_option maxHeartbeats 4000000 in
set_option maxRecDepth 100000 in
theorem kM_kindOf (l : Launch) (D : va_G) (k : Nat → ClassId) (M : mp_M) {mo el ek bg sz kn rw pp pk wd lo kp ks : Nat} {ec tc wc sc nc th : Nat} {va mk : Nat → Int64} {kd wt tk tf tz sk sf sw ml nn : Nat → Nat} (hE : MdX k M mo el ek bg sz kn rw pp pk wd lo kp ks ec tc wc sc nc th va mk kd wt tk tf tz sk sf sw ml nn) (hO : OkB ec tc wc sc nc tk tf tz sk sf sw ml nn) (x : Int32) : mp_Met l yM_kindOf (Cond.code yM_kindOf cM_kindOf 2 (some .int) :: bw) rm_M_kindOf D cls5 (tys6 k) [.ref mo, .int x] M (va_Qi (fun r M1 => (r = if 0 ≤ x.toInt ∧ x.toInt < (sc : Int) then nI (sk x.toInt.toNat) else -1) ∧ MdX k M1 mo el ek bg sz kn rw pp pk wd lo kp ks ec tc wc sc nc (0) va mk kd wt tk tf tz sk sf sw ml nn)) 0 0 := by
  refine mp_Met.of (by decide) (Nat.le_of_ble_eq_true rfl) ?_
  intro p e s m below meth c hx hb hr hml hown hts hlocks hin ls hl I
  have hl : lv_has ls 2 [(0, .ref mo), (1, .int x)] := hl
  obtain ⟨h0, hel, hek, hbg, hsz, hkn, hrw, hpp, hpk, hwd, hlo, hkp, hks, n_bg_sz, n_bg_kn, n_sz_kn, n_pp_pk, n_pp_wd, n_pk_wd, n_pp_lo, n_pk_lo, n_wd_lo⟩ := id hE
  obtain ⟨b1, b2, b3, b4, b5, bT, bS, bN⟩ := id hO
  refine lv_aload_n hx hb dM_kindOf_0 rfl (lv_at hl 0 rfl) ?_
  refine lv_iconst (v := nI 0) hx hb dM_kindOf_1 (by decide) ?_
  refine mp_put (v := .int (nI 0)) (ty := .int) hx hb hts inM tyM okM nmM hown I h0 rfl 17 (by decide) (hts _ bw_348) (fun _ h9 => h9) rfl (by decide +kernel) rfl rfl (Nat.le_of_ble_eq_true rfl) dM_kindOf_2 (fun H locs I => ?_)
  have I : mp_I D cls5 (tys6 k) s _ s.heap H locs (mp_up M mo (.inr (4, [.ref el, .ref ek, .int (nI ec), .ref bg, .ref sz, .ref kn, .int (nI tc), .ref rw, .int (nI wc), .ref pp, .ref pk, .ref wd, .ref lo, .int (nI sc), .ref kp, .ref ks, .int (nI nc), .int (nI 0)]))) := I
  have h0_n : mp_up M mo (.inr (4, [.ref el, .ref ek, .int (nI ec), .ref bg, .ref sz, .ref kn, .int (nI tc), .ref rw, .int (nI wc), .ref pp, .ref pk, .ref wd, .ref lo, .int (nI sc), .ref kp, .ref ks, .int (nI nc), .int (nI 0)])) mo = some (.inr (4, [.ref el, .ref ek, .int (nI ec), .ref bg, .ref sz, .ref kn, .int (nI tc), .ref rw, .int (nI wc), .ref pp, .ref pk, .ref wd, .ref lo, .int (nI sc), .ref kp, .ref ks, .int (nI nc), .int (nI 0)])) := mp_up_s _ _ _
  have hel_n : mp_up M mo (.inr (4, [.ref el, .ref ek, .int (nI ec), .ref bg, .ref sz, .ref kn, .int (nI tc), .ref rw, .int (nI wc), .ref pp, .ref pk, .ref wd, .ref lo, .int (nI sc), .ref kp, .ref ks, .int (nI nc), .int (nI 0)])) el = some (.inl (k 1, 4000, .inr (.inl va))) := (mp_up_n (mp_ne hel h0 (by simp))).trans hel
  have hek_n : mp_up M mo (.inr (4, [.ref el, .ref ek, .int (nI ec), .ref bg, .ref sz, .ref kn, .int (nI tc), .ref rw, .int (nI wc), .ref pp, .ref pk, .ref wd, .ref lo, .int (nI sc), .ref kp, .ref ks, .int (nI nc), .int (nI 0)])) ek = some (.inl (k 0, 4000, .inl (fun i_ => nI (kd i_)))) := (mp_up_n (mp_ne hek h0 (by simp))).trans hek
  have hbg_n : mp_up M mo (.inr (4, [.ref el, .ref ek, .int (nI ec), .ref bg, .ref sz, .ref kn, .int (nI tc), .ref rw, .int (nI wc), .ref pp, .ref pk, .ref wd, .ref lo, .int (nI sc), .ref kp, .ref ks, .int (nI nc), .int (nI 0)])) bg = some (.inl (k 0, 300, .inl (fun i_ => nI (tf i_)))) := (mp_up_n (mp_ne hbg h0 (by simp))).trans hbg
  have hsz_n : mp_up M mo (.inr (4, [.ref el, .ref ek, .int (nI ec), .ref bg, .ref sz, .ref kn, .int (nI tc), .ref rw, .int (nI wc), .ref pp, .ref pk, .ref wd, .ref lo, .int (nI sc), .ref kp, .ref ks, .int (nI nc), .int (nI 0)])) sz = some (.inl (k 0, 300, .inl (fun i_ => nI (tz i_)))) := (mp_up_n (mp_ne hsz h0 (by simp))).trans hsz
  have hkn_n : mp_up M mo (.inr (4, [.ref el, .ref ek, .int (nI ec), .ref bg, .ref sz, .ref kn, .int (nI tc), .ref rw, .int (nI wc), .ref pp, .ref pk, .ref wd, .ref lo, .int (nI sc), .ref kp, .ref ks, .int (nI nc), .int (nI 0)])) kn = some (.inl (k 0, 300, .inl (fun i_ => nI (tk i_)))) := (mp_up_n (mp_ne hkn h0 (by simp))).trans hkn
  have hrw_n : mp_up M mo (.inr (4, [.ref el, .ref ek, .int (nI ec), .ref bg, .ref sz, .ref kn, .int (nI tc), .ref rw, .int (nI wc), .ref pp, .ref pk, .ref wd, .ref lo, .int (nI sc), .ref kp, .ref ks, .int (nI nc), .int (nI 0)])) rw = some (.inl (k 0, 12, .inl (fun i_ => nI (wt i_)))) := (mp_up_n (mp_ne hrw h0 (by simp))).trans hrw
  have hpp_n : mp_up M mo (.inr (4, [.ref el, .ref ek, .int (nI ec), .ref bg, .ref sz, .ref kn, .int (nI tc), .ref rw, .int (nI wc), .ref pp, .ref pk, .ref wd, .ref lo, .int (nI sc), .ref kp, .ref ks, .int (nI nc), .int (nI 0)])) pp = some (.inl (k 0, 100, .inl (fun i_ => nI (sf i_)))) := (mp_up_n (mp_ne hpp h0 (by simp))).trans hpp
  have hpk_n : mp_up M mo (.inr (4, [.ref el, .ref ek, .int (nI ec), .ref bg, .ref sz, .ref kn, .int (nI tc), .ref rw, .int (nI wc), .ref pp, .ref pk, .ref wd, .ref lo, .int (nI sc), .ref kp, .ref ks, .int (nI nc), .int (nI 0)])) pk = some (.inl (k 0, 100, .inl (fun i_ => nI (sk i_)))) := (mp_up_n (mp_ne hpk h0 (by simp))).trans hpk
  have hwd_n : mp_up M mo (.inr (4, [.ref el, .ref ek, .int (nI ec), .ref bg, .ref sz, .ref kn, .int (nI tc), .ref rw, .int (nI wc), .ref pp, .ref pk, .ref wd, .ref lo, .int (nI sc), .ref kp, .ref ks, .int (nI nc), .int (nI 0)])) wd = some (.inl (k 0, 100, .inl (fun i_ => nI (sw i_)))) := (mp_up_n (mp_ne hwd h0 (by simp))).trans hwd
  have hlo_n : mp_up M mo (.inr (4, [.ref el, .ref ek, .int (nI ec), .ref bg, .ref sz, .ref kn, .int (nI tc), .ref rw, .int (nI wc), .ref pp, .ref pk, .ref wd, .ref lo, .int (nI sc), .ref kp, .ref ks, .int (nI nc), .int (nI 0)])) lo = some (.inl (k 5, 100, .inl (fun i_ => nI (ml i_)))) := (mp_up_n (mp_ne hlo h0 (by simp))).trans hlo
  have hkp_n : mp_up M mo (.inr (4, [.ref el, .ref ek, .int (nI ec), .ref bg, .ref sz, .ref kn, .int (nI tc), .ref rw, .int (nI wc), .ref pp, .ref pk, .ref wd, .ref lo, .int (nI sc), .ref kp, .ref ks, .int (nI nc), .int (nI 0)])) kp = some (.inl (k 1, 80000, .inr (.inl mk))) := (mp_up_n (mp_ne hkp h0 (by simp))).trans hkp
  have hks_n : mp_up M mo (.inr (4, [.ref el, .ref ek, .int (nI ec), .ref bg, .ref sz, .ref kn, .int (nI tc), .ref rw, .int (nI wc), .ref pp, .ref pk, .ref wd, .ref lo, .int (nI sc), .ref kp, .ref ks, .int (nI nc), .int (nI 0)])) ks = some (.inl (k 0, 20, .inl (fun i_ => nI (nn i_)))) := (mp_up_n (mp_ne hks h0 (by simp))).trans hks
  generalize eM_2 : mp_up M mo (.inr (4, [.ref el, .ref ek, .int (nI ec), .ref bg, .ref sz, .ref kn, .int (nI tc), .ref rw, .int (nI wc), .ref pp, .ref pk, .ref wd, .ref lo, .int (nI sc), .ref kp, .ref ks, .int (nI nc), .int (nI 0)])) = M_1 at I h0_n hel_n hek_n hbg_n hsz_n hkn_n hrw_n hpp_n hpk_n hwd_n hlo_n hkp_n hks_n
  have h0__M_1 := h0_n
  have hel__M_1 := hel_n
  have hek__M_1 := hek_n
  have hbg__M_1 := hbg_n
  have hsz__M_1 := hsz_n
  have hkn__M_1 := hkn_n
  have hrw__M_1 := hrw_n
  have hpp__M_1 := hpp_n
  have hpk__M_1 := hpk_n
  have hwd__M_1 := hwd_n
  have hlo__M_1 := hlo_n
  have hkp__M_1 := hkp_n
  have hks__M_1 := hks_n
  clear h0_n hel_n hek_n hbg_n hsz_n hkn_n hrw_n hpp_n hpk_n hwd_n hlo_n hkp_n hks_n
  have hE := hE.cnt ec tc wc sc nc 0
  rw [eM_2] at hE
  refine lv_aload_n hx hb dM_kindOf_5 rfl (lv_at hl 0 rfl) ?_
  refine lv_iload_n hx hb dM_kindOf_6 rfl (lv_at hl 1 rfl) ?_
  refine mp_calli (va_runV (As := [.int x]) (rest := []) ⟨hx, hb, hml, hown, hts⟩ (kM_isPlace l D k M_1 hE hO x _) (cwV 1 hts (bw_V bw_435 bw_437 bs_14 bw_2 bw_438) rfl rfl rfl (by decide +kernel) ⟨Nat.le_of_ble_eq_true rfl, Nat.le_of_ble_eq_true rfl⟩) (mp_preV I h0__M_1 rfl _) rfl rfl hl.1 rfl (lv_room (Nat.le_of_ble_eq_true rfl)) dM_kindOf_7 ⟨Nat.le_of_ble_eq_true rfl, Nat.le_of_ble_eq_true rfl⟩) I (fun r_3 N_4 H locs hp I => ?_)
  obtain ⟨e_5, hp⟩ := hp
  rw [e_5] at I
  rcases hp with ⟨p1, rfl⟩ | ⟨p1, rfl⟩
  · refine zz_if_eq (tgt := 22) hx hb (nI_toInt (by decide)) dM_kindOf_10 (by decide) (fun c_6 => absurd c_6 (by decide)) (fun _ => ?_)
    obtain ⟨xn, hn_xn, rfl, hz_xn⟩ := i32_nat (x := x) (by omega)
    have hxi : (nI xn).toInt.toNat = xn := by omega
    refine lv_aload_n hx hb dM_kindOf_13 rfl (lv_at hl 0 rfl) ?_
    refine mp_get (v := .ref pk) hx hb hts inM hown I h0__M_1 rfl 10 (by decide) (hts _ bw_341) (fun _ h9 => h9) rfl dM_kindOf_14 ?_
    refine lv_iload_n hx hb dM_kindOf_17 rfl (lv_at hl 1 rfl) ?_
    refine mp_iald hx hb I 0 hpk__M_1 rfl xn rfl (by omega) (by decide) (v := nI (sk xn)) rfl dM_kindOf_18 ?_
    refine lv_goto (tgt := 23) hx hb dM_kindOf_19 (by decide) ?_
    exact mp_iret hx hb hr hlocks I (Nat.le_of_ble_eq_true rfl) (Nat.le_of_ble_eq_true rfl) dM_kindOf_23 ⟨by rw [if_pos (show 0 ≤ (nI xn).toInt ∧ (nI xn).toInt < (sc : Int) by omega), hxi], hE⟩
  · refine zz_if_eq (tgt := 22) hx hb (nI_toInt (by decide)) dM_kindOf_10 (by decide) (fun _ => ?_) (fun c_7 => absurd c_7 (by decide))
    refine lv_iconst (v := (-1)) hx hb dM_kindOf_22 (by decide) ?_
    exact mp_iret hx hb hr hlocks I (Nat.le_of_ble_eq_true rfl) (Nat.le_of_ble_eq_true rfl) dM_kindOf_23 ⟨by rw [if_neg (by omega)], hE⟩
abbrev rm_M_meet : Room := { frames := 1, cells := 0, slots := 0, locals := 30 }
set_option maxHeartbeats 4000000 in
set_option maxRecDepth 100000 in
theorem kM_meet (l : Launch) (D : va_G) (k : Nat → ClassId) (M : mp_M) {mo el ek bg sz kn rw pp pk wd lo kp ks : Nat} {ec tc wc sc nc th : Nat} {va mk : Nat → Int64} {kd wt tk tf tz sk sf sw ml nn : Nat → Nat} (hE : MdX k M mo el ek bg sz kn rw pp pk wd lo kp ks ec tc wc sc nc th va mk kd wt tk tf tz sk sf sw ml nn) (hO : OkB ec tc wc sc nc tk tf tz sk sf sw ml nn) (x y : Int32) : mp_Met l yM_meet (Cond.code yM_meet cM_meet 3 (some .boolean) :: bw) rm_M_meet D cls5 (tys6 k) [.ref mo, .int x, .int y] M (va_Qi (fun r M1 => (((0 ≤ x.toInt ∧ x.toInt < sc ∧ 0 ≤ y.toInt ∧ y.toInt < sc ∧ sf x.toInt.toNat < sf y.toInt.toNat + sw y.toInt.toNat ∧ sf y.toInt.toNat < sf x.toInt.toNat + sw x.toInt.toNat) ∧ r = nI 1) ∨ (¬ (0 ≤ x.toInt ∧ x.toInt < sc ∧ 0 ≤ y.toInt ∧ y.toInt < sc ∧ sf x.toInt.toNat < sf y.toInt.toNat + sw y.toInt.toNat ∧ sf y.toInt.toNat < sf x.toInt.toNat + sw x.toInt.toNat) ∧ r = nI 0)) ∧ MdX k M1 mo el ek bg sz kn rw pp pk wd lo kp ks ec tc wc sc nc (0) va mk kd wt tk tf tz sk sf sw ml nn)) 0 0 := by
  refine mp_Met.of (by decide) (Nat.le_of_ble_eq_true rfl) ?_
  intro p e s m below meth c hx hb hr hml hown hts hlocks hin ls hl I
  have hl : lv_has ls 3 [(0, .ref mo), (1, .int x), (2, .int y)] := hl
  obtain ⟨h0, hel, hek, hbg, hsz, hkn, hrw, hpp, hpk, hwd, hlo, hkp, hks, n_bg_sz, n_bg_kn, n_sz_kn, n_pp_pk, n_pp_wd, n_pk_wd, n_pp_lo, n_pk_lo, n_wd_lo⟩ := id hE
  obtain ⟨b1, b2, b3, b4, b5, bT, bS, bN⟩ := id hO
  refine lv_aload_n hx hb dM_meet_0 rfl (lv_at hl 0 rfl) ?_
  refine lv_iconst (v := nI 0) hx hb dM_meet_1 (by decide) ?_
  refine mp_put (v := .int (nI 0)) (ty := .int) hx hb hts inM tyM okM nmM hown I h0 rfl 17 (by decide) (hts _ bw_348) (fun _ h9 => h9) rfl (by decide +kernel) rfl rfl (Nat.le_of_ble_eq_true rfl) dM_meet_2 (fun H locs I => ?_)
  have I : mp_I D cls5 (tys6 k) s _ s.heap H locs (mp_up M mo (.inr (4, [.ref el, .ref ek, .int (nI ec), .ref bg, .ref sz, .ref kn, .int (nI tc), .ref rw, .int (nI wc), .ref pp, .ref pk, .ref wd, .ref lo, .int (nI sc), .ref kp, .ref ks, .int (nI nc), .int (nI 0)]))) := I
  have h0_n : mp_up M mo (.inr (4, [.ref el, .ref ek, .int (nI ec), .ref bg, .ref sz, .ref kn, .int (nI tc), .ref rw, .int (nI wc), .ref pp, .ref pk, .ref wd, .ref lo, .int (nI sc), .ref kp, .ref ks, .int (nI nc), .int (nI 0)])) mo = some (.inr (4, [.ref el, .ref ek, .int (nI ec), .ref bg, .ref sz, .ref kn, .int (nI tc), .ref rw, .int (nI wc), .ref pp, .ref pk, .ref wd, .ref lo, .int (nI sc), .ref kp, .ref ks, .int (nI nc), .int (nI 0)])) := mp_up_s _ _ _
  have hel_n : mp_up M mo (.inr (4, [.ref el, .ref ek, .int (nI ec), .ref bg, .ref sz, .ref kn, .int (nI tc), .ref rw, .int (nI wc), .ref pp, .ref pk, .ref wd, .ref lo, .int (nI sc), .ref kp, .ref ks, .int (nI nc), .int (nI 0)])) el = some (.inl (k 1, 4000, .inr (.inl va))) := (mp_up_n (mp_ne hel h0 (by simp))).trans hel
  have hek_n : mp_up M mo (.inr (4, [.ref el, .ref ek, .int (nI ec), .ref bg, .ref sz, .ref kn, .int (nI tc), .ref rw, .int (nI wc), .ref pp, .ref pk, .ref wd, .ref lo, .int (nI sc), .ref kp, .ref ks, .int (nI nc), .int (nI 0)])) ek = some (.inl (k 0, 4000, .inl (fun i_ => nI (kd i_)))) := (mp_up_n (mp_ne hek h0 (by simp))).trans hek
  have hbg_n : mp_up M mo (.inr (4, [.ref el, .ref ek, .int (nI ec), .ref bg, .ref sz, .ref kn, .int (nI tc), .ref rw, .int (nI wc), .ref pp, .ref pk, .ref wd, .ref lo, .int (nI sc), .ref kp, .ref ks, .int (nI nc), .int (nI 0)])) bg = some (.inl (k 0, 300, .inl (fun i_ => nI (tf i_)))) := (mp_up_n (mp_ne hbg h0 (by simp))).trans hbg
  have hsz_n : mp_up M mo (.inr (4, [.ref el, .ref ek, .int (nI ec), .ref bg, .ref sz, .ref kn, .int (nI tc), .ref rw, .int (nI wc), .ref pp, .ref pk, .ref wd, .ref lo, .int (nI sc), .ref kp, .ref ks, .int (nI nc), .int (nI 0)])) sz = some (.inl (k 0, 300, .inl (fun i_ => nI (tz i_)))) := (mp_up_n (mp_ne hsz h0 (by simp))).trans hsz
  have hkn_n : mp_up M mo (.inr (4, [.ref el, .ref ek, .int (nI ec), .ref bg, .ref sz, .ref kn, .int (nI tc), .ref rw, .int (nI wc), .ref pp, .ref pk, .ref wd, .ref lo, .int (nI sc), .ref kp, .ref ks, .int (nI nc), .int (nI 0)])) kn = some (.inl (k 0, 300, .inl (fun i_ => nI (tk i_)))) := (mp_up_n (mp_ne hkn h0 (by simp))).trans hkn
  have hrw_n : mp_up M mo (.inr (4, [.ref el, .ref ek, .int (nI ec), .ref bg, .ref sz, .ref kn, .int (nI tc), .ref rw, .int (nI wc), .ref pp, .ref pk, .ref wd, .ref lo, .int (nI sc), .ref kp, .ref ks, .int (nI nc), .int (nI 0)])) rw = some (.inl (k 0, 12, .inl (fun i_ => nI (wt i_)))) := (mp_up_n (mp_ne hrw h0 (by simp))).trans hrw
  have hpp_n : mp_up M mo (.inr (4, [.ref el, .ref ek, .int (nI ec), .ref bg, .ref sz, .ref kn, .int (nI tc), .ref rw, .int (nI wc), .ref pp, .ref pk, .ref wd, .ref lo, .int (nI sc), .ref kp, .ref ks, .int (nI nc), .int (nI 0)])) pp = some (.inl (k 0, 100, .inl (fun i_ => nI (sf i_)))) := (mp_up_n (mp_ne hpp h0 (by simp))).trans hpp
  have hpk_n : mp_up M mo (.inr (4, [.ref el, .ref ek, .int (nI ec), .ref bg, .ref sz, .ref kn, .int (nI tc), .ref rw, .int (nI wc), .ref pp, .ref pk, .ref wd, .ref lo, .int (nI sc), .ref kp, .ref ks, .int (nI nc), .int (nI 0)])) pk = some (.inl (k 0, 100, .inl (fun i_ => nI (sk i_)))) := (mp_up_n (mp_ne hpk h0 (by simp))).trans hpk
  have hwd_n : mp_up M mo (.inr (4, [.ref el, .ref ek, .int (nI ec), .ref bg, .ref sz, .ref kn, .int (nI tc), .ref rw, .int (nI wc), .ref pp, .ref pk, .ref wd, .ref lo, .int (nI sc), .ref kp, .ref ks, .int (nI nc), .int (nI 0)])) wd = some (.inl (k 0, 100, .inl (fun i_ => nI (sw i_)))) := (mp_up_n (mp_ne hwd h0 (by simp))).trans hwd
  have hlo_n : mp_up M mo (.inr (4, [.ref el, .ref ek, .int (nI ec), .ref bg, .ref sz, .ref kn, .int (nI tc), .ref rw, .int (nI wc), .ref pp, .ref pk, .ref wd, .ref lo, .int (nI sc), .ref kp, .ref ks, .int (nI nc), .int (nI 0)])) lo = some (.inl (k 5, 100, .inl (fun i_ => nI (ml i_)))) := (mp_up_n (mp_ne hlo h0 (by simp))).trans hlo
  have hkp_n : mp_up M mo (.inr (4, [.ref el, .ref ek, .int (nI ec), .ref bg, .ref sz, .ref kn, .int (nI tc), .ref rw, .int (nI wc), .ref pp, .ref pk, .ref wd, .ref lo, .int (nI sc), .ref kp, .ref ks, .int (nI nc), .int (nI 0)])) kp = some (.inl (k 1, 80000, .inr (.inl mk))) := (mp_up_n (mp_ne hkp h0 (by simp))).trans hkp
  have hks_n : mp_up M mo (.inr (4, [.ref el, .ref ek, .int (nI ec), .ref bg, .ref sz, .ref kn, .int (nI tc), .ref rw, .int (nI wc), .ref pp, .ref pk, .ref wd, .ref lo, .int (nI sc), .ref kp, .ref ks, .int (nI nc), .int (nI 0)])) ks = some (.inl (k 0, 20, .inl (fun i_ => nI (nn i_)))) := (mp_up_n (mp_ne hks h0 (by simp))).trans hks
  generalize eM_2 : mp_up M mo (.inr (4, [.ref el, .ref ek, .int (nI ec), .ref bg, .ref sz, .ref kn, .int (nI tc), .ref rw, .int (nI wc), .ref pp, .ref pk, .ref wd, .ref lo, .int (nI sc), .ref kp, .ref ks, .int (nI nc), .int (nI 0)])) = M_1 at I h0_n hel_n hek_n hbg_n hsz_n hkn_n hrw_n hpp_n hpk_n hwd_n hlo_n hkp_n hks_n
  have h0__M_1 := h0_n
  have hel__M_1 := hel_n
  have hek__M_1 := hek_n
  have hbg__M_1 := hbg_n
  have hsz__M_1 := hsz_n
  have hkn__M_1 := hkn_n
  have hrw__M_1 := hrw_n
  have hpp__M_1 := hpp_n
  have hpk__M_1 := hpk_n
  have hwd__M_1 := hwd_n
  have hlo__M_1 := hlo_n
  have hkp__M_1 := hkp_n
  have hks__M_1 := hks_n
  clear h0_n hel_n hek_n hbg_n hsz_n hkn_n hrw_n hpp_n hpk_n hwd_n hlo_n hkp_n hks_n
  have hE := hE.cnt ec tc wc sc nc 0
  rw [eM_2] at hE
  refine lv_aload_n hx hb dM_meet_5 rfl (lv_at hl 0 rfl) ?_
  refine lv_iload_n hx hb dM_meet_6 rfl (lv_at hl 1 rfl) ?_
  refine mp_calli (va_runV (As := [.int x]) (rest := []) ⟨hx, hb, hml, hown, hts⟩ (kM_isPlace l D k M_1 hE hO x _) (cwV 1 hts (bw_V bw_435 bw_437 bs_14 bw_2 bw_438) rfl rfl rfl (by decide +kernel) ⟨Nat.le_of_ble_eq_true rfl, Nat.le_of_ble_eq_true rfl⟩) (mp_preV I h0__M_1 rfl _) rfl rfl hl.1 rfl (lv_room (Nat.le_of_ble_eq_true rfl)) dM_meet_7 ⟨Nat.le_of_ble_eq_true rfl, Nat.le_of_ble_eq_true rfl⟩) I (fun r_3 N_4 H locs hp I => ?_)
  obtain ⟨e_5, hp⟩ := hp
  rw [e_5] at I
  rcases hp with ⟨p1, rfl⟩ | ⟨p1, rfl⟩
  · refine zz_if_eq (tgt := 69) hx hb (nI_toInt (by decide)) dM_meet_10 (by decide) (fun c_6 => absurd c_6 (by decide)) (fun _ => ?_)
    refine lv_aload_n hx hb dM_meet_13 rfl (lv_at hl 0 rfl) ?_
    refine lv_iload_n hx hb dM_meet_14 rfl (lv_at hl 2 rfl) ?_
    refine mp_calli (va_runV (As := [.int y]) (rest := []) ⟨hx, hb, hml, hown, hts⟩ (kM_isPlace l D k M_1 hE hO y _) (cwV 1 hts (bw_V bw_435 bw_437 bs_14 bw_2 bw_438) rfl rfl rfl (by decide +kernel) ⟨Nat.le_of_ble_eq_true rfl, Nat.le_of_ble_eq_true rfl⟩) (mp_preV I h0__M_1 rfl _) rfl rfl hl.1 rfl (lv_room (Nat.le_of_ble_eq_true rfl)) dM_meet_15 ⟨Nat.le_of_ble_eq_true rfl, Nat.le_of_ble_eq_true rfl⟩) I (fun r_7 N_8 H locs hp I => ?_)
    obtain ⟨e_9, hp⟩ := hp
    rw [e_9] at I
    rcases hp with ⟨p2, rfl⟩ | ⟨p2, rfl⟩
    · refine zz_if_eq (tgt := 69) hx hb (nI_toInt (by decide)) dM_meet_18 (by decide) (fun c_10 => absurd c_10 (by decide)) (fun _ => ?_)
      obtain ⟨xn, hn_xn, rfl, hz_xn⟩ := i32_nat (x := x) (by omega)
      obtain ⟨yn, hn_yn, rfl, hz_yn⟩ := i32_nat (x := y) (by omega)
      have hSx := bS xn (by omega)
      have hSy := bS yn (by omega)
      have hxi : (nI xn).toInt.toNat = xn := by omega
      have hyi : (nI yn).toInt.toNat = yn := by omega
      refine lv_aload_n hx hb dM_meet_21 rfl (lv_at hl 0 rfl) ?_
      refine mp_get (v := .ref pp) hx hb hts inM hown I h0__M_1 rfl 9 (by decide) (hts _ bw_340) (fun _ h9 => h9) rfl dM_meet_22 ?_
      refine lv_iload_n hx hb dM_meet_25 rfl (lv_at hl 1 rfl) ?_
      refine mp_iald hx hb I 0 hpp__M_1 rfl xn rfl (by omega) (by decide) (v := nI (sf xn)) rfl dM_meet_26 ?_
      refine lv_aload_n hx hb dM_meet_27 rfl (lv_at hl 0 rfl) ?_
      refine mp_get (v := .ref pp) hx hb hts inM hown I h0__M_1 rfl 9 (by decide) (hts _ bw_340) (fun _ h9 => h9) rfl dM_meet_28 ?_
      refine lv_iload_n hx hb dM_meet_31 rfl (lv_at hl 2 rfl) ?_
      refine mp_iald hx hb I 0 hpp__M_1 rfl yn rfl (by omega) (by decide) (v := nI (sf yn)) rfl dM_meet_32 ?_
      refine lv_aload_n hx hb dM_meet_33 rfl (lv_at hl 0 rfl) ?_
      refine mp_get (v := .ref wd) hx hb hts inM hown I h0__M_1 rfl 11 (by decide) (hts _ bw_342) (fun _ h9 => h9) rfl dM_meet_34 ?_
      refine lv_iload_n hx hb dM_meet_37 rfl (lv_at hl 2 rfl) ?_
      refine mp_iald hx hb I 0 hwd__M_1 rfl yn rfl (by omega) (by decide) (v := nI (sw yn)) rfl dM_meet_38 ?_
      refine zz_iadd hx hb dM_meet_39 ?_
      refine zz_icmp_ge (tgt := 69) hx hb (nI_toInt (by first | assumption | omega)) (nI_toInt (by first | assumption | omega)) dM_meet_40 (by decide) (fun c_11 => ?_) (fun c_11 => ?_)
      · refine lv_iconst (v := nI 0) hx hb dM_meet_69 (by decide) ?_
        exact mp_zret hx hb hr hlocks I rfl (Nat.le_of_ble_eq_true rfl) (Nat.le_of_ble_eq_true rfl) dM_meet_70 ⟨Or.inr ⟨by rw [hxi, hyi]; omega, rfl⟩, hE⟩
      · refine lv_aload_n hx hb dM_meet_43 rfl (lv_at hl 0 rfl) ?_
        refine mp_get (v := .ref pp) hx hb hts inM hown I h0__M_1 rfl 9 (by decide) (hts _ bw_340) (fun _ h9 => h9) rfl dM_meet_44 ?_
        refine lv_iload_n hx hb dM_meet_47 rfl (lv_at hl 2 rfl) ?_
        refine mp_iald hx hb I 0 hpp__M_1 rfl yn rfl (by omega) (by decide) (v := nI (sf yn)) rfl dM_meet_48 ?_
        refine lv_aload_n hx hb dM_meet_49 rfl (lv_at hl 0 rfl) ?_
        refine mp_get (v := .ref pp) hx hb hts inM hown I h0__M_1 rfl 9 (by decide) (hts _ bw_340) (fun _ h9 => h9) rfl dM_meet_50 ?_
        refine lv_iload_n hx hb dM_meet_53 rfl (lv_at hl 1 rfl) ?_
        refine mp_iald hx hb I 0 hpp__M_1 rfl xn rfl (by omega) (by decide) (v := nI (sf xn)) rfl dM_meet_54 ?_
        refine lv_aload_n hx hb dM_meet_55 rfl (lv_at hl 0 rfl) ?_
        refine mp_get (v := .ref wd) hx hb hts inM hown I h0__M_1 rfl 11 (by decide) (hts _ bw_342) (fun _ h9 => h9) rfl dM_meet_56 ?_
        refine lv_iload_n hx hb dM_meet_59 rfl (lv_at hl 1 rfl) ?_
        refine mp_iald hx hb I 0 hwd__M_1 rfl xn rfl (by omega) (by decide) (v := nI (sw xn)) rfl dM_meet_60 ?_
        refine zz_iadd hx hb dM_meet_61 ?_
        refine zz_icmp_ge (tgt := 69) hx hb (nI_toInt (by first | assumption | omega)) (nI_toInt (by first | assumption | omega)) dM_meet_62 (by decide) (fun c_12 => ?_) (fun c_12 => ?_)
        · refine lv_iconst (v := nI 0) hx hb dM_meet_69 (by decide) ?_
          exact mp_zret hx hb hr hlocks I rfl (Nat.le_of_ble_eq_true rfl) (Nat.le_of_ble_eq_true rfl) dM_meet_70 ⟨Or.inr ⟨by rw [hxi, hyi]; omega, rfl⟩, hE⟩
        · refine lv_iconst (v := nI 1) hx hb dM_meet_65 (by decide) ?_
          refine lv_goto (tgt := 70) hx hb dM_meet_66 (by decide) ?_
          exact mp_zret hx hb hr hlocks I rfl (Nat.le_of_ble_eq_true rfl) (Nat.le_of_ble_eq_true rfl) dM_meet_70 ⟨Or.inl ⟨by rw [hxi, hyi]; omega, rfl⟩, hE⟩
    · refine zz_if_eq (tgt := 69) hx hb (nI_toInt (by decide)) dM_meet_18 (by decide) (fun _ => ?_) (fun c_13 => absurd c_13 (by decide))
      refine lv_iconst (v := nI 0) hx hb dM_meet_69 (by decide) ?_
      exact mp_zret hx hb hr hlocks I rfl (Nat.le_of_ble_eq_true rfl) (Nat.le_of_ble_eq_true rfl) dM_meet_70 ⟨Or.inr ⟨by omega, rfl⟩, hE⟩
  · refine zz_if_eq (tgt := 69) hx hb (nI_toInt (by decide)) dM_meet_10 (by decide) (fun _ => ?_) (fun c_14 => absurd c_14 (by decide))
    refine lv_iconst (v := nI 0) hx hb dM_meet_69 (by decide) ?_
    exact mp_zret hx hb hr hlocks I rfl (Nat.le_of_ble_eq_true rfl) (Nat.le_of_ble_eq_true rfl) dM_meet_70 ⟨Or.inr ⟨by omega, rfl⟩, hE⟩
