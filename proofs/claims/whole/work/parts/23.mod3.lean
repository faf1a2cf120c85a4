theorem cpy_0 {α : Type} (f g : Nat → α) (a b : Nat) : va_cpy f g a b 0 = g := by
  funext j
  unfold va_cpy
  rw [if_neg (by omega)]
theorem cpy_s {f g : Nat → Int64} {a b i : Nat} {v : Int64} (hv : v = f (a + i)) : vp_updL (va_cpy f g a b i) (b + i) v = va_cpy f g a b (i + 1) := by
  funext j
  unfold vp_updL va_cpy
  by_cases hj : j = b + i
  · rw [if_pos hj, if_pos (show b ≤ j ∧ j < b + (i + 1) by omega), hv, show j - b = i by omega]
  · rw [if_neg hj]
    by_cases h2 : b ≤ j ∧ j < b + i
    · rw [if_pos h2, if_pos (show b ≤ j ∧ j < b + (i + 1) by omega)]
    · rw [if_neg h2, if_neg (show ¬ (b ≤ j ∧ j < b + (i + 1)) by omega)]
theorem vbk_0 (va f : Nat → Int64) : vbk va f 0 = va := by
  funext j
  unfold vbk
  rw [if_neg (by omega)]
theorem vbk_s {va f : Nat → Int64} {i : Nat} : vp_updL (vbk va f i) i (f i) = vbk va f (i + 1) := by
  funext j
  unfold vp_updL vbk
  by_cases hj : j = i
  · rw [if_pos hj, if_pos (show j < i + 1 by omega), hj]
  · rw [if_neg hj]
    by_cases h2 : j < i
    · rw [if_pos h2, if_pos (show j < i + 1 by omega)]
    · rw [if_neg h2, if_neg (show ¬ j < i + 1 by omega)]
/-- a copy from its end on -/
def cpB (va : Nat → Int64) (x y n i : Nat) : Nat → Int64 := fun q => if y + (n - i) ≤ q ∧ q < y + n then va (x + (q - y)) else va q
theorem cpB_0 (va : Nat → Int64) (x y n : Nat) : cpB va x y n 0 = va := by
  funext q
  unfold cpB
  rw [if_neg (by omega)]
theorem cpB_s {va : Nat → Int64} {x y n i : Nat} (hi : i < n) {v : Int64} (hv : v = va (x + (n - 1 - i))) : vp_updL (cpB va x y n i) (y + (n - 1 - i)) v = cpB va x y n (i + 1) := by
  funext q
  unfold vp_updL cpB
  by_cases hj : q = y + (n - 1 - i)
  · rw [if_pos hj, if_pos (show y + (n - (i + 1)) ≤ q ∧ q < y + n by omega), hv, show q - y = n - 1 - i by omega]
  · rw [if_neg hj]
    by_cases h2 : y + (n - i) ≤ q ∧ q < y + n
    · rw [if_pos h2, if_pos (show y + (n - (i + 1)) ≤ q ∧ q < y + n by omega)]
    · rw [if_neg h2, if_neg (show ¬ (y + (n - (i + 1)) ≤ q ∧ q < y + n) by omega)]
theorem cpB_n (va : Nat → Int64) (x y n : Nat) : cpB va x y n n = va_cpy va va x y n := by
  funext q
  unfold cpB va_cpy
  rw [Nat.sub_self, Nat.add_zero]
theorem cpB_r {va : Nat → Int64} {x y n i : Nat} (hi : i < n) (hxy : x < y) : cpB va x y n i (x + (n - 1 - i)) = va (x + (n - 1 - i)) := by
  unfold cpB
  rw [if_neg (by omega)]
def pm (act : Int) (x : Nat) (had v w : Int64) : Int64 × Option Int64 := if act = 1 then (0, some v) else if act = 2 then (had, some v) else if act = 3 then (if had = v then (1, some w) else (0, none)) else if act = 4 then (had, some (lb x (had + v))) else if act = 5 then (had, some (lb x (had &&& v))) else if act = 6 then (had, some (lb x (had ||| v))) else if act = 7 then (had, some (if v < had then had else v)) else (had, none)
abbrev rm_M_isValue : Room := { frames := 1, cells := 0, slots := 0, locals := 22 }
set_option maxHeartbeats 4000000 in
set_option maxRecDepth 100000 in
theorem kM_isValue (l : Launch) (D : va_G) (k : Nat → ClassId) (M : mp_M) {mo el ek bg sz kn rw pp pk wd lo kp ks : Nat} {ec tc wc sc nc th : Nat} {va mk : Nat → Int64} {kd wt tk tf tz sk sf sw ml nn : Nat → Nat} (hE : MdX k M mo el ek bg sz kn rw pp pk wd lo kp ks ec tc wc sc nc th va mk kd wt tk tf tz sk sf sw ml nn) (hO : OkB ec tc wc sc nc tk tf tz sk sf sw ml nn) (x : Nat) (v : Int64) (hkx : x ≤ 7) : mp_Met l yM_isValue (Cond.code yM_isValue cM_isValue 4 (some .boolean) :: bw) rm_M_isValue D cls5 (tys6 k) [.ref mo, .int (nI x), .long v] M (va_Qi (fun r M1 => M1 = M ∧ ((isv tc x v ∧ r = nI 1) ∨ (¬ isv tc x v ∧ r = nI 0)))) 0 0 := by
  refine mp_Met.of (by decide) (Nat.le_of_ble_eq_true rfl) ?_
  intro p e s m below meth c hx hb hr hml hown hts hlocks hin ls hl I
  have hl : lv_has ls 4 [(0, .ref mo), (1, .int (nI x)), (2, .long v)] := hl
  obtain ⟨h0, hel, hek, hbg, hsz, hkn, hrw, hpp, hpk, hwd, hlo, hkp, hks, n_bg_sz, n_bg_kn, n_sz_kn, n_pp_pk, n_pp_wd, n_pk_wd, n_pp_lo, n_pk_lo, n_wd_lo⟩ := id hE
  obtain ⟨b1, b2, b3, b4, b5, bT, bS, bN⟩ := id hO
  refine lv_iload_n hx hb dM_isValue_0 rfl (lv_at hl 1 rfl) ?_
  refine lv_bipush (v := nI 7) hx hb dM_isValue_1 (by decide) ?_
  refine zz_icmp_ne (tgt := 30) hx hb (nI_toInt (by first | assumption | omega)) (nI_toInt (by decide)) dM_isValue_3 (by decide) (fun c_1 => ?_) (fun c_1 => ?_)
  · refine lv_iload_n hx hb dM_isValue_30 rfl (lv_at hl 1 rfl) ?_
    refine lv_iconst (v := nI 1) hx hb dM_isValue_31 (by decide) ?_
    refine zz_icmp_ne (tgt := 55) hx hb (nI_toInt (by first | assumption | omega)) (nI_toInt (by decide)) dM_isValue_32 (by decide) (fun c_2 => ?_) (fun c_2 => ?_)
    · refine lv_iload_n hx hb dM_isValue_55 rfl (lv_at hl 1 rfl) ?_
      refine lv_lload_n hx hb dM_isValue_56 rfl (lv_at hl 2 rfl) ?_
      refine mp_calll (va_runS (As := [.int (nI x), .long v]) (rest := []) ⟨hx, hb, hml, hown, hts⟩ (kM_as l D k M x v hkx _) (cwS 2 hts (bw_S bw_447 bw_448 bw_2 bw_449) rfl rfl rfl (by decide +kernel) ⟨Nat.le_of_ble_eq_true rfl, Nat.le_of_ble_eq_true rfl⟩) (mp_preS I _) rfl rfl hl.1 rfl (lv_room (Nat.le_of_ble_eq_true rfl)) dM_isValue_57 ⟨Nat.le_of_ble_eq_true rfl, Nat.le_of_ble_eq_true rfl⟩) I (fun r1 N1 H locs hp I => ?_)
      obtain ⟨e_3, hp⟩ := hp
      rw [e_3] at I
      rw [hp]
      refine lv_lload_n hx hb dM_isValue_60 rfl (lv_at hl 2 rfl) ?_
      refine W.lcmp hx hb dM_isValue_61 ?_
      refine lv_if_ne (tgt := 69) hx hb dM_isValue_62 (by decide) (fun c_4 => ?_) (fun c_4 => ?_)
      all_goals rw [lg_cmp_eq] at c_4
      · refine lv_iconst (v := nI 0) hx hb dM_isValue_69 (by decide) ?_
        exact mp_zret hx hb hr hlocks I rfl (Nat.le_of_ble_eq_true rfl) (Nat.le_of_ble_eq_true rfl) dM_isValue_70 ⟨rfl, Or.inr ⟨by unfold isv; rw [if_neg (by omega)]; exact c_4, rfl⟩⟩
      · refine lv_iconst (v := nI 1) hx hb dM_isValue_65 (by decide) ?_
        refine lv_goto (tgt := 70) hx hb dM_isValue_66 (by decide) ?_
        exact mp_zret hx hb hr hlocks I rfl (Nat.le_of_ble_eq_true rfl) (Nat.le_of_ble_eq_true rfl) dM_isValue_70 ⟨rfl, Or.inl ⟨by unfold isv; rw [if_neg (by omega)]; exact c_4, rfl⟩⟩
    · refine lv_lload_n hx hb dM_isValue_35 rfl (lv_at hl 2 rfl) ?_
      refine lv_lconst (v := 0) hx hb dM_isValue_36 (by decide) ?_
      refine W.lcmp hx hb dM_isValue_37 ?_
      refine lv_if_eq (tgt := 47) hx hb dM_isValue_38 (by decide) (fun c_5 => ?_) (fun c_5 => ?_)
      all_goals rw [lg_cmp_eq] at c_5
      · refine lv_iconst (v := nI 1) hx hb dM_isValue_47 (by decide) ?_
        refine lv_goto (tgt := 70) hx hb dM_isValue_48 (by decide) ?_
        exact mp_zret hx hb hr hlocks I rfl (Nat.le_of_ble_eq_true rfl) (Nat.le_of_ble_eq_true rfl) dM_isValue_70 ⟨rfl, Or.inl ⟨by unfold isv; rw [if_neg (by omega)]; exact (by rw [show x = 1 by omega]; exact (lb1_iff v).mpr (Or.inl c_5)), rfl⟩⟩
      · refine lv_lload_n hx hb dM_isValue_41 rfl (lv_at hl 2 rfl) ?_
        refine lv_lconst (v := 1) hx hb dM_isValue_42 (by decide) ?_
        refine W.lcmp hx hb dM_isValue_43 ?_
        refine lv_if_ne (tgt := 51) hx hb dM_isValue_44 (by decide) (fun c_6 => ?_) (fun c_6 => ?_)
        all_goals rw [lg_cmp_eq] at c_6
        · refine lv_iconst (v := nI 0) hx hb dM_isValue_51 (by decide) ?_
          refine lv_goto (tgt := 70) hx hb dM_isValue_52 (by decide) ?_
          exact mp_zret hx hb hr hlocks I rfl (Nat.le_of_ble_eq_true rfl) (Nat.le_of_ble_eq_true rfl) dM_isValue_70 ⟨rfl, Or.inr ⟨by unfold isv; rw [if_neg (by omega)]; exact (by rw [show x = 1 by omega]; exact fun h => ((lb1_iff v).mp h).elim c_5 c_6), rfl⟩⟩
        · refine lv_iconst (v := nI 1) hx hb dM_isValue_47 (by decide) ?_
          refine lv_goto (tgt := 70) hx hb dM_isValue_48 (by decide) ?_
          exact mp_zret hx hb hr hlocks I rfl (Nat.le_of_ble_eq_true rfl) (Nat.le_of_ble_eq_true rfl) dM_isValue_70 ⟨rfl, Or.inl ⟨by unfold isv; rw [if_neg (by omega)]; exact (by rw [show x = 1 by omega]; exact (lb1_iff v).mpr (Or.inr c_6)), rfl⟩⟩
  · refine lv_lload_n hx hb dM_isValue_6 rfl (lv_at hl 2 rfl) ?_
    refine lv_ldc2 (v := (-1)) hx hb hown (hts _ bw_402) dM_isValue_7 ?_
    refine W.lcmp hx hb dM_isValue_10 ?_
    refine lv_if_lt (tgt := 28) hx hb dM_isValue_11 (by decide) (fun c_7 => ?_) (fun c_7 => ?_)
    all_goals rw [lg_cmp_lt] at c_7
    all_goals rw [Int64.lt_iff_toInt_lt, show (-1 : Int64).toInt = -1 from rfl] at c_7
    · refine lv_iconst (v := nI 0) hx hb dM_isValue_28 (by decide) ?_
      exact mp_zret hx hb hr hlocks I rfl (Nat.le_of_ble_eq_true rfl) (Nat.le_of_ble_eq_true rfl) dM_isValue_29 ⟨rfl, Or.inr ⟨by unfold isv; rw [if_pos (by omega)]; omega, rfl⟩⟩
    · refine lv_lload_n hx hb dM_isValue_14 rfl (lv_at hl 2 rfl) ?_
      refine lv_aload_n hx hb dM_isValue_15 rfl (lv_at hl 0 rfl) ?_
      refine mp_get (v := .int (nI tc)) hx hb hts inM hown I h0 rfl 6 (by decide) (hts _ bw_337) (fun _ h9 => h9) rfl dM_isValue_16 ?_
      refine lv_i2l (v := (nI tc).toInt64) hx hb dM_isValue_19 rfl ?_
      refine W.lcmp hx hb dM_isValue_20 ?_
      refine lv_if_ge (tgt := 28) hx hb dM_isValue_21 (by decide) (fun c_8 => ?_) (fun c_8 => ?_)
      all_goals rw [lg_cmp_ge] at c_8
      all_goals rw [Int64.le_iff_toInt_le, Int32.toInt_toInt64, nI_toInt (show tc < 2 ^ 31 by omega)] at c_8
      · refine lv_iconst (v := nI 0) hx hb dM_isValue_28 (by decide) ?_
        exact mp_zret hx hb hr hlocks I rfl (Nat.le_of_ble_eq_true rfl) (Nat.le_of_ble_eq_true rfl) dM_isValue_29 ⟨rfl, Or.inr ⟨by unfold isv; rw [if_pos (by omega)]; omega, rfl⟩⟩
      · refine lv_iconst (v := nI 1) hx hb dM_isValue_24 (by decide) ?_
        refine lv_goto (tgt := 29) hx hb dM_isValue_25 (by decide) ?_
        exact mp_zret hx hb hr hlocks I rfl (Nat.le_of_ble_eq_true rfl) (Nat.le_of_ble_eq_true rfl) dM_isValue_29 ⟨rfl, Or.inl ⟨by unfold isv; rw [if_pos (by omega)]; omega, rfl⟩⟩
abbrev rm_M_get : Room := { frames := 1, cells := 0, slots := 0, locals := 30 }
set_option maxHeartbeats 4000000 in
set_option maxRecDepth 100000 in
theorem kM_get (l : Launch) (D : va_G) (k : Nat → ClassId) (M : mp_M) {mo el ek bg sz kn rw pp pk wd lo kp ks : Nat} {ec tc wc sc nc th : Nat} {va mk : Nat → Int64} {kd wt tk tf tz sk sf sw ml nn : Nat → Nat} (hE : MdX k M mo el ek bg sz kn rw pp pk wd lo kp ks ec tc wc sc nc th va mk kd wt tk tf tz sk sf sw ml nn) (hO : OkB ec tc wc sc nc tk tf tz sk sf sw ml nn) (j : Nat) (hj : j < sc) : mp_Met l yM_get (Cond.code yM_get cM_get 6 (some .long) :: bw) rm_M_get D cls5 (tys6 k) [.ref mo, .int (nI j)] M (va_Ql (fun r M1 => M1 = M ∧ r = rdv va (sk j) (sf j) (sw j) (ml j))) 0 0 := by
  refine mp_Met.of (by decide) (Nat.le_of_ble_eq_true rfl) ?_
  intro p e s m below meth c hx hb hr hml hown hts hlocks hin ls hl I
  have hl : lv_has ls 6 [(0, .ref mo), (1, .int (nI j))] := hl
  obtain ⟨h0, hel, hek, hbg, hsz, hkn, hrw, hpp, hpk, hwd, hlo, hkp, hks, n_bg_sz, n_bg_kn, n_sz_kn, n_pp_pk, n_pp_wd, n_pk_wd, n_pp_lo, n_pk_lo, n_wd_lo⟩ := id hE
  obtain ⟨b1, b2, b3, b4, b5, bT, bS, bN⟩ := id hO
  have hSj := bS j hj
  refine lv_aload_n hx hb dM_get_0 rfl (lv_at hl 0 rfl) ?_
  refine mp_get (v := .ref wd) hx hb hts inM hown I h0 rfl 11 (by decide) (hts _ bw_342) (fun _ h9 => h9) rfl dM_get_1 ?_
  refine lv_iload_n hx hb dM_get_4 rfl (lv_at hl 1 rfl) ?_
  refine mp_iald hx hb I 0 hwd rfl j rfl (by omega) (by decide) (v := nI (sw j)) rfl dM_get_5 ?_
  refine lv_istore_n (lv' := [(2, .int (nI (sw j))), (0, .ref mo), (1, .int (nI j))]) hx hb dM_get_6 rfl hl (by decide) rfl (fun ls hl => ?_)
  refine lv_iload_n hx hb dM_get_7 rfl (lv_at hl 0 rfl) ?_
  refine lv_iconst (v := nI 1) hx hb dM_get_8 (by decide) ?_
  refine zz_icmp_ne (tgt := 24) hx hb (nI_toInt (by first | assumption | omega)) (nI_toInt (by decide)) dM_get_9 (by decide) (fun c_1 => ?_) (fun c_1 => ?_)
  · refine lv_lconst (v := 0) hx hb dM_get_24 (by decide) ?_
    refine lv_lstore_n (lv' := [(3, .long 0), (2, .int (nI (sw j))), (0, .ref mo), (1, .int (nI j))]) hx hb dM_get_25 rfl hl (by decide) rfl (fun ls hl => ?_)
    refine lv_iconst (v := nI 0) hx hb dM_get_26 (by decide) ?_
    refine lv_istore (lv' := [(5, .int (nI 0)), (3, .long 0), (2, .int (nI (sw j))), (0, .ref mo), (1, .int (nI j))]) hx hb dM_get_27 hl (by decide) rfl (fun ls hl => ?_)
    refine mp_loop (sw j) 6 (fun i => [(5, .int (nI i)), (3, .long (rdb va (sf j) (sw j) (ml j) i)), (2, .int (nI (sw j))), (0, .ref mo), (1, .int (nI j))]) (fun i => M) 0 (by omega) (lv_sub hl [0, 1, 2, 3, 4] rfl) I ?_
    intro i H locs ls hi0_i hi_i hl I ih_i
    have hl : lv_has ls 6 [(5, .int (nI i)), (3, .long (rdb va (sf j) (sw j) (ml j) i)), (2, .int (nI (sw j))), (0, .ref mo), (1, .int (nI j))] := hl
    have I : mp_I D cls5 (tys6 k) s _ s.heap H locs (M) := I
    refine lv_iload hx hb dM_get_29 (lv_at hl 0 rfl) ?_
    refine lv_iload_n hx hb dM_get_31 rfl (lv_at hl 2 rfl) ?_
    refine zz_icmp_ge (tgt := 83) hx hb (nI_toInt (by first | assumption | omega)) (nI_toInt (by first | assumption | omega)) dM_get_32 (by decide) (fun c_2 => ?_) (fun c_2 => ?_)
    · refine lv_aload_n hx hb dM_get_83 rfl (lv_at hl 3 rfl) ?_
      refine mp_get (v := .ref pk) hx hb hts inM hown I h0 rfl 10 (by decide) (hts _ bw_341) (fun _ h9 => h9) rfl dM_get_84 ?_
      refine lv_iload_n hx hb dM_get_87 rfl (lv_at hl 4 rfl) ?_
      refine mp_iald hx hb I 0 hpk rfl j rfl (by omega) (by decide) (v := nI (sk j)) rfl dM_get_88 ?_
      refine lv_lload_n hx hb dM_get_89 rfl (lv_at hl 1 rfl) ?_
      refine mp_calll (va_runS (As := [.int (nI (sk j)), .long (rdb va (sf j) (sw j) (ml j) i)]) (rest := []) ⟨hx, hb, hml, hown, hts⟩ (kM_as l D k M (sk j) (rdb va (sf j) (sw j) (ml j) i) (by omega) _) (cwS 2 hts (bw_S bw_447 bw_448 bw_2 bw_449) rfl rfl rfl (by decide +kernel) ⟨Nat.le_of_ble_eq_true rfl, Nat.le_of_ble_eq_true rfl⟩) (mp_preS I _) rfl rfl hl.1 rfl (lv_room (Nat.le_of_ble_eq_true rfl)) dM_get_90 ⟨Nat.le_of_ble_eq_true rfl, Nat.le_of_ble_eq_true rfl⟩) I (fun r1 N1 H locs hp I => ?_)
      obtain ⟨e_3, hp⟩ := hp
      rw [e_3] at I
      subst hp
      exact mp_lret hx hb hr hlocks I (Nat.le_of_ble_eq_true rfl) (Nat.le_of_ble_eq_true rfl) dM_get_93 ⟨rfl, by unfold rdv; rw [if_neg (by omega), show i = sw j by omega]⟩
    · refine lv_lload_n hx hb dM_get_35 rfl (lv_at hl 1 rfl) ?_
      refine lv_bipush (v := nI 8) hx hb dM_get_36 (by decide) ?_
      refine lv_lshl (v := (rdb va (sf j) (sw j) (ml j) i) <<< ((nI 8).toInt64 &&& 63)) hx hb dM_get_38 rfl ?_
      refine lv_aload_n hx hb dM_get_39 rfl (lv_at hl 3 rfl) ?_
      refine mp_get (v := .ref el) hx hb hts inM hown I h0 rfl 0 (by decide) (hts _ bw_331) (fun _ h9 => h9) rfl dM_get_40 ?_
      refine lv_aload_n hx hb dM_get_43 rfl (lv_at hl 3 rfl) ?_
      refine mp_get (v := .ref pp) hx hb hts inM hown I h0 rfl 9 (by decide) (hts _ bw_340) (fun _ h9 => h9) rfl dM_get_44 ?_
      refine lv_iload_n hx hb dM_get_47 rfl (lv_at hl 4 rfl) ?_
      refine mp_iald hx hb I 0 hpp rfl j rfl (by omega) (by decide) (v := nI (sf j)) rfl dM_get_48 ?_
      refine lv_aload_n hx hb dM_get_49 rfl (lv_at hl 3 rfl) ?_
      refine mp_get (v := .ref lo) hx hb hts inM hown I h0 rfl 12 (by decide) (hts _ bw_343) (fun _ h9 => h9) rfl dM_get_50 ?_
      refine lv_iload_n hx hb dM_get_53 rfl (lv_at hl 4 rfl) ?_
      refine mp_zald hx hb I 5 hlo rfl j rfl (by omega) (by decide) (v := nI (ml j)) rfl dM_get_54 ?_
      refine zz_if_eq (tgt := 67) hx hb (nI_toInt (by first | assumption | omega)) dM_get_55 (by decide) (fun c_4 => ?_) (fun c_4 => ?_)
      · refine lv_iload hx hb dM_get_67 (lv_at hl 0 rfl) ?_
        refine zz_iadd hx hb dM_get_69 ?_
        refine mp_lald hx hb I 1 hel rfl (sf j + i) rfl (by omega) (by decide) (v := va (ixb (sf j) (sw j) (ml j) i)) (by unfold ixb; rw [if_pos (by omega)]) dM_get_70 ?_
        refine lv_ldc2 (v := 255) hx hb hown (hts _ bw_455) dM_get_71 ?_
        refine lv_land hx hb dM_get_74 ?_
        refine lv_lor hx hb dM_get_75 ?_
        refine lv_lstore_n (lv' := [(3, .long (((rdb va (sf j) (sw j) (ml j) i) <<< ((nI 8).toInt64 &&& 63)) ||| ((va (ixb (sf j) (sw j) (ml j) i)) &&& 255))), (5, .int (nI i)), (2, .int (nI (sw j))), (0, .ref mo), (1, .int (nI j))]) hx hb dM_get_76 rfl hl (by decide) rfl (fun ls hl => ?_)
        refine lv_iinc (v := nI (i + 1)) (lv' := [(5, .int (nI (i + 1))), (3, .long (((rdb va (sf j) (sw j) (ml j) i) <<< ((nI 8).toInt64 &&& 63)) ||| ((va (ixb (sf j) (sw j) (ml j) i)) &&& 255))), (2, .int (nI (sw j))), (0, .ref mo), (1, .int (nI j))]) hx hb dM_get_77 hl (k := 1) rfl (nI_add i 1) (by decide) rfl (fun ls hl => ?_)
        refine lv_goto (tgt := 29) hx hb dM_get_80 (by decide) ?_
        exact ih_i _ _ _ (by omega) (lv_sub hl [0, 1, 2, 3, 4] rfl) I
      · refine lv_iload_n hx hb dM_get_58 rfl (lv_at hl 2 rfl) ?_
        refine lv_iconst (v := nI 1) hx hb dM_get_59 (by decide) ?_
        refine zz_isub hx hb (by omega) dM_get_60 ?_
        refine lv_iload hx hb dM_get_61 (lv_at hl 0 rfl) ?_
        refine zz_isub hx hb (by omega) dM_get_63 ?_
        refine lv_goto (tgt := 69) hx hb dM_get_64 (by decide) ?_
        refine zz_iadd hx hb dM_get_69 ?_
        refine mp_lald hx hb I 1 hel rfl (sf j + (sw j - 1 - i)) rfl (by omega) (by decide) (v := va (ixb (sf j) (sw j) (ml j) i)) (by unfold ixb; rw [if_neg (by omega)]; congr 1; omega) dM_get_70 ?_
        refine lv_ldc2 (v := 255) hx hb hown (hts _ bw_455) dM_get_71 ?_
        refine lv_land hx hb dM_get_74 ?_
        refine lv_lor hx hb dM_get_75 ?_
        refine lv_lstore_n (lv' := [(3, .long (((rdb va (sf j) (sw j) (ml j) i) <<< ((nI 8).toInt64 &&& 63)) ||| ((va (ixb (sf j) (sw j) (ml j) i)) &&& 255))), (5, .int (nI i)), (2, .int (nI (sw j))), (0, .ref mo), (1, .int (nI j))]) hx hb dM_get_76 rfl hl (by decide) rfl (fun ls hl => ?_)
        refine lv_iinc (v := nI (i + 1)) (lv' := [(5, .int (nI (i + 1))), (3, .long (((rdb va (sf j) (sw j) (ml j) i) <<< ((nI 8).toInt64 &&& 63)) ||| ((va (ixb (sf j) (sw j) (ml j) i)) &&& 255))), (2, .int (nI (sw j))), (0, .ref mo), (1, .int (nI j))]) hx hb dM_get_77 hl (k := 1) rfl (nI_add i 1) (by decide) rfl (fun ls hl => ?_)
        refine lv_goto (tgt := 29) hx hb dM_get_80 (by decide) ?_
        exact ih_i _ _ _ (by omega) (lv_sub hl [0, 1, 2, 3, 4] rfl) I
  · refine lv_aload_n hx hb dM_get_12 rfl (lv_at hl 1 rfl) ?_
    refine mp_get (v := .ref el) hx hb hts inM hown I h0 rfl 0 (by decide) (hts _ bw_331) (fun _ h9 => h9) rfl dM_get_13 ?_
    refine lv_aload_n hx hb dM_get_16 rfl (lv_at hl 1 rfl) ?_
    refine mp_get (v := .ref pp) hx hb hts inM hown I h0 rfl 9 (by decide) (hts _ bw_340) (fun _ h9 => h9) rfl dM_get_17 ?_
    refine lv_iload_n hx hb dM_get_20 rfl (lv_at hl 2 rfl) ?_
    refine mp_iald hx hb I 0 hpp rfl j rfl (by omega) (by decide) (v := nI (sf j)) rfl dM_get_21 ?_
    refine mp_lald hx hb I 1 hel rfl (sf j) rfl (by omega) (by decide) (v := va (sf j)) rfl dM_get_22 ?_
    exact mp_lret hx hb hr hlocks I (Nat.le_of_ble_eq_true rfl) (Nat.le_of_ble_eq_true rfl) dM_get_23 ⟨rfl, by unfold rdv; rw [if_pos (by omega)]⟩
abbrev rm_M_set : Room := { frames := 0, cells := 0, slots := 0, locals := 0 }
set_option maxHeartbeats 4000000 in
set_option maxRecDepth 100000 in
theorem kM_set (l : Launch) (D : va_G) (k : Nat → ClassId) (M : mp_M) {mo el ek bg sz kn rw pp pk wd lo kp ks : Nat} {ec tc wc sc nc th : Nat} {va mk : Nat → Int64} {kd wt tk tf tz sk sf sw ml nn : Nat → Nat} (hE : MdX k M mo el ek bg sz kn rw pp pk wd lo kp ks ec tc wc sc nc th va mk kd wt tk tf tz sk sf sw ml nn) (hO : OkB ec tc wc sc nc tk tf tz sk sf sw ml nn) (j : Nat) (hj : j < sc) (v : Int64) : mp_Met l yM_set (Cond.code yM_set cM_set 6 none :: bw) rm_M_set D cls5 (tys6 k) [.ref mo, .int (nI j), .long v] M (va_Qv (fun M1 => MdX k M1 mo el ek bg sz kn rw pp pk wd lo kp ks ec tc wc sc nc th (wrv va (sf j) (sw j) (ml j) v) mk kd wt tk tf tz sk sf sw ml nn)) 0 0 := by
  refine mp_Met.of (by decide) (Nat.le_of_ble_eq_true rfl) ?_
  intro p e s m below meth c hx hb hr hml hown hts hlocks hin ls hl I
  have hl : lv_has ls 6 [(0, .ref mo), (1, .int (nI j)), (2, .long v)] := hl
  obtain ⟨h0, hel, hek, hbg, hsz, hkn, hrw, hpp, hpk, hwd, hlo, hkp, hks, n_bg_sz, n_bg_kn, n_sz_kn, n_pp_pk, n_pp_wd, n_pk_wd, n_pp_lo, n_pk_lo, n_wd_lo⟩ := id hE
  obtain ⟨b1, b2, b3, b4, b5, bT, bS, bN⟩ := id hO
  have hSj := bS j hj
  refine lv_aload_n hx hb dM_set_0 rfl (lv_at hl 0 rfl) ?_
  refine mp_get (v := .ref wd) hx hb hts inM hown I h0 rfl 11 (by decide) (hts _ bw_342) (fun _ h9 => h9) rfl dM_set_1 ?_
  refine lv_iload_n hx hb dM_set_4 rfl (lv_at hl 1 rfl) ?_
  refine mp_iald hx hb I 0 hwd rfl j rfl (by omega) (by decide) (v := nI (sw j)) rfl dM_set_5 ?_
  refine lv_istore (lv' := [(4, .int (nI (sw j))), (0, .ref mo), (1, .int (nI j)), (2, .long v)]) hx hb dM_set_6 hl (by decide) rfl (fun ls hl => ?_)
  refine lv_iload hx hb dM_set_8 (lv_at hl 0 rfl) ?_
  refine lv_iconst (v := nI 1) hx hb dM_set_10 (by decide) ?_
  refine zz_icmp_ne (tgt := 26) hx hb (nI_toInt (by first | assumption | omega)) (nI_toInt (by decide)) dM_set_11 (by decide) (fun c_1 => ?_) (fun c_1 => ?_)
  · refine lv_iconst (v := nI 0) hx hb dM_set_26 (by decide) ?_
    refine lv_istore (lv' := [(5, .int (nI 0)), (4, .int (nI (sw j))), (0, .ref mo), (1, .int (nI j)), (2, .long v)]) hx hb dM_set_27 hl (by decide) rfl (fun ls hl => ?_)
    have I := I.to (show M = mp_up M el (.inl (k 1, 4000, .inr (.inl (wrF va (sf j) (sw j) (ml j) v 0)))) from (mp_upself hel).symm)
    refine mp_loop (sw j) 6 (fun i => [(5, .int (nI i)), (4, .int (nI (sw j))), (0, .ref mo), (1, .int (nI j)), (2, .long v)]) (fun i => mp_up M el (.inl (k 1, 4000, .inr (.inl (wrF va (sf j) (sw j) (ml j) v i))))) 0 (by omega) (lv_sub hl [0, 1, 2, 3, 4] rfl) I ?_
    intro i H locs ls hi0_i hi_i hl I ih_i
    have hl : lv_has ls 6 [(5, .int (nI i)), (4, .int (nI (sw j))), (0, .ref mo), (1, .int (nI j)), (2, .long v)] := hl
    have I : mp_I D cls5 (tys6 k) s _ s.heap H locs (mp_up M el (.inl (k 1, 4000, .inr (.inl (wrF va (sf j) (sw j) (ml j) v i))))) := I
    have h0__L : mp_up M el (.inl (k 1, 4000, .inr (.inl (wrF va (sf j) (sw j) (ml j) v i)))) mo = some (.inr (4, [.ref el, .ref ek, .int (nI ec), .ref bg, .ref sz, .ref kn, .int (nI tc), .ref rw, .int (nI wc), .ref pp, .ref pk, .ref wd, .ref lo, .int (nI sc), .ref kp, .ref ks, .int (nI nc), .int (nI th)])) := (mp_up_n (mp_ne h0 hel (by simp))).trans h0
    have hel__L : mp_up M el (.inl (k 1, 4000, .inr (.inl (wrF va (sf j) (sw j) (ml j) v i)))) el = some (.inl (k 1, 4000, .inr (.inl (wrF va (sf j) (sw j) (ml j) v i)))) := mp_up_s _ _ _
    have hek__L : mp_up M el (.inl (k 1, 4000, .inr (.inl (wrF va (sf j) (sw j) (ml j) v i)))) ek = some (.inl (k 0, 4000, .inl (fun i_ => nI (kd i_)))) := (mp_up_n (mp_ne hek hel (by simp))).trans hek
    have hbg__L : mp_up M el (.inl (k 1, 4000, .inr (.inl (wrF va (sf j) (sw j) (ml j) v i)))) bg = some (.inl (k 0, 300, .inl (fun i_ => nI (tf i_)))) := (mp_up_n (mp_ne hbg hel (by simp))).trans hbg
    have hsz__L : mp_up M el (.inl (k 1, 4000, .inr (.inl (wrF va (sf j) (sw j) (ml j) v i)))) sz = some (.inl (k 0, 300, .inl (fun i_ => nI (tz i_)))) := (mp_up_n (mp_ne hsz hel (by simp))).trans hsz
    have hkn__L : mp_up M el (.inl (k 1, 4000, .inr (.inl (wrF va (sf j) (sw j) (ml j) v i)))) kn = some (.inl (k 0, 300, .inl (fun i_ => nI (tk i_)))) := (mp_up_n (mp_ne hkn hel (by simp))).trans hkn
    have hrw__L : mp_up M el (.inl (k 1, 4000, .inr (.inl (wrF va (sf j) (sw j) (ml j) v i)))) rw = some (.inl (k 0, 12, .inl (fun i_ => nI (wt i_)))) := (mp_up_n (mp_ne hrw hel (by simp))).trans hrw
    have hpp__L : mp_up M el (.inl (k 1, 4000, .inr (.inl (wrF va (sf j) (sw j) (ml j) v i)))) pp = some (.inl (k 0, 100, .inl (fun i_ => nI (sf i_)))) := (mp_up_n (mp_ne hpp hel (by simp))).trans hpp
    have hpk__L : mp_up M el (.inl (k 1, 4000, .inr (.inl (wrF va (sf j) (sw j) (ml j) v i)))) pk = some (.inl (k 0, 100, .inl (fun i_ => nI (sk i_)))) := (mp_up_n (mp_ne hpk hel (by simp))).trans hpk
    have hwd__L : mp_up M el (.inl (k 1, 4000, .inr (.inl (wrF va (sf j) (sw j) (ml j) v i)))) wd = some (.inl (k 0, 100, .inl (fun i_ => nI (sw i_)))) := (mp_up_n (mp_ne hwd hel (by simp))).trans hwd
    have hlo__L : mp_up M el (.inl (k 1, 4000, .inr (.inl (wrF va (sf j) (sw j) (ml j) v i)))) lo = some (.inl (k 5, 100, .inl (fun i_ => nI (ml i_)))) := (mp_up_n (mp_ne hlo hel (by simp))).trans hlo
    have hkp__L : mp_up M el (.inl (k 1, 4000, .inr (.inl (wrF va (sf j) (sw j) (ml j) v i)))) kp = some (.inl (k 1, 80000, .inr (.inl mk))) := (mp_up_n (mp_ne hkp hel (by simp))).trans hkp
    have hks__L : mp_up M el (.inl (k 1, 4000, .inr (.inl (wrF va (sf j) (sw j) (ml j) v i)))) ks = some (.inl (k 0, 20, .inl (fun i_ => nI (nn i_)))) := (mp_up_n (mp_ne hks hel (by simp))).trans hks
    refine lv_iload hx hb dM_set_29 (lv_at hl 1 rfl) ?_
    refine lv_iconst (v := nI 1) hx hb dM_set_31 (by decide) ?_
    refine zz_icmp_le (tgt := 91) hx hb (nI_toInt (by first | assumption | omega)) (nI_toInt (by decide)) dM_set_32 (by decide) (fun c_2 => ?_) (fun c_2 => ?_)
    · have hiw : i = sw j := by omega
      exact mp_vret hx hb hr hlocks I (Nat.le_of_ble_eq_true rfl) (Nat.le_of_ble_eq_true rfl) dM_set_91 (by unfold wrv; rw [if_neg (by omega), ← hiw]; have h9 := hE.set_el (wrF va (sf j) (sw j) (ml j) v i); rw [hiw] at h9 ⊢; exact h9)
    · refine lv_iload hx hb dM_set_35 (lv_at hl 0 rfl) ?_
      refine lv_iload hx hb dM_set_37 (lv_at hl 1 rfl) ?_
      refine zz_icmp_ge (tgt := 91) hx hb (nI_toInt (by first | assumption | omega)) (nI_toInt (by first | assumption | omega)) dM_set_39 (by decide) (fun c_3 => ?_) (fun c_3 => ?_)
      · have hiw : i = sw j := by omega
        exact mp_vret hx hb hr hlocks I (Nat.le_of_ble_eq_true rfl) (Nat.le_of_ble_eq_true rfl) dM_set_91 (by unfold wrv; rw [if_neg (by omega), ← hiw]; have h9 := hE.set_el (wrF va (sf j) (sw j) (ml j) v i); rw [hiw] at h9 ⊢; exact h9)
      · refine lv_aload_n hx hb dM_set_42 rfl (lv_at hl 2 rfl) ?_
        refine mp_get (v := .ref el) hx hb hts inM hown I h0__L rfl 0 (by decide) (hts _ bw_331) (fun _ h9 => h9) rfl dM_set_43 ?_
        refine lv_aload_n hx hb dM_set_46 rfl (lv_at hl 2 rfl) ?_
        refine mp_get (v := .ref pp) hx hb hts inM hown I h0__L rfl 9 (by decide) (hts _ bw_340) (fun _ h9 => h9) rfl dM_set_47 ?_
        refine lv_iload_n hx hb dM_set_50 rfl (lv_at hl 3 rfl) ?_
        refine mp_iald hx hb I 0 hpp__L rfl j rfl (by omega) (by decide) (v := nI (sf j)) rfl dM_set_51 ?_
        refine lv_aload_n hx hb dM_set_52 rfl (lv_at hl 2 rfl) ?_
        refine mp_get (v := .ref lo) hx hb hts inM hown I h0__L rfl 12 (by decide) (hts _ bw_343) (fun _ h9 => h9) rfl dM_set_53 ?_
        refine lv_iload_n hx hb dM_set_56 rfl (lv_at hl 3 rfl) ?_
        refine mp_zald hx hb I 5 hlo__L rfl j rfl (by omega) (by decide) (v := nI (ml j)) rfl dM_set_57 ?_
        refine zz_if_eq (tgt := 66) hx hb (nI_toInt (by first | assumption | omega)) dM_set_58 (by decide) (fun c_4 => ?_) (fun c_4 => ?_)
        · refine lv_iload hx hb dM_set_66 (lv_at hl 1 rfl) ?_
          refine lv_iconst (v := nI 1) hx hb dM_set_68 (by decide) ?_
          refine zz_isub hx hb (by omega) dM_set_69 ?_
          refine lv_iload hx hb dM_set_70 (lv_at hl 0 rfl) ?_
          refine zz_isub hx hb (by omega) dM_set_72 ?_
          refine zz_iadd hx hb dM_set_73 ?_
          refine lv_lload_n hx hb dM_set_74 rfl (lv_at hl 4 rfl) ?_
          refine lv_bipush (v := nI 8) hx hb dM_set_75 (by decide) ?_
          refine lv_iload hx hb dM_set_77 (lv_at hl 0 rfl) ?_
          refine zz_imul hx hb dM_set_79 ?_
          refine lv_lshr (v := v >>> ((nI (8 * i)).toInt64 &&& 63)) hx hb dM_set_80 rfl ?_
          refine lv_l2i (v := (v >>> ((nI (8 * i)).toInt64 &&& 63)).toInt32) hx hb dM_set_81 rfl ?_
          refine lv_i2b (v := ((v >>> ((nI (8 * i)).toInt64 &&& 63)).toInt32).toInt8.toInt32) hx hb dM_set_82 rfl ?_
          refine lv_i2l (v := (((v >>> ((nI (8 * i)).toInt64 &&& 63)).toInt32).toInt8.toInt32).toInt64) hx hb dM_set_83 rfl ?_
          refine mp_last hx hb I 1 hel__L rfl (x := (((v >>> ((nI (8 * i)).toInt64 &&& 63)).toInt32).toInt8.toInt32).toInt64) (sf j + (sw j - 1 - i)) rfl (by omega) (by decide) dM_set_84 (fun H locs I => ?_)
          rw [mp_upup, show sf j + (sw j - 1 - i) = ixb (sf j) (sw j) (ml j) (sw j - 1 - i) by unfold ixb; rw [if_pos (by omega)], shv_eq v (by omega)] at I
          have I : mp_I D cls5 (tys6 k) s _ s.heap H locs (mp_up M el (.inl (k 1, 4000, .inr (.inl (wrF va (sf j) (sw j) (ml j) v (i + 1)))))) := I
          refine lv_iinc (v := nI (i + 1)) (lv' := [(5, .int (nI (i + 1))), (4, .int (nI (sw j))), (0, .ref mo), (1, .int (nI j)), (2, .long v)]) hx hb dM_set_85 hl (k := 0) rfl (nI_add i 1) (by decide) rfl (fun ls hl => ?_)
          refine lv_goto (tgt := 29) hx hb dM_set_88 (by decide) ?_
          exact ih_i _ _ _ (by omega) (lv_sub hl [0, 1, 2, 3, 4] rfl) I
        · refine lv_iload hx hb dM_set_61 (lv_at hl 0 rfl) ?_
          refine lv_goto (tgt := 73) hx hb dM_set_63 (by decide) ?_
          refine zz_iadd hx hb dM_set_73 ?_
          refine lv_lload_n hx hb dM_set_74 rfl (lv_at hl 4 rfl) ?_
          refine lv_bipush (v := nI 8) hx hb dM_set_75 (by decide) ?_
          refine lv_iload hx hb dM_set_77 (lv_at hl 0 rfl) ?_
          refine zz_imul hx hb dM_set_79 ?_
          refine lv_lshr (v := v >>> ((nI (8 * i)).toInt64 &&& 63)) hx hb dM_set_80 rfl ?_
          refine lv_l2i (v := (v >>> ((nI (8 * i)).toInt64 &&& 63)).toInt32) hx hb dM_set_81 rfl ?_
          refine lv_i2b (v := ((v >>> ((nI (8 * i)).toInt64 &&& 63)).toInt32).toInt8.toInt32) hx hb dM_set_82 rfl ?_
          refine lv_i2l (v := (((v >>> ((nI (8 * i)).toInt64 &&& 63)).toInt32).toInt8.toInt32).toInt64) hx hb dM_set_83 rfl ?_
          refine mp_last hx hb I 1 hel__L rfl (x := (((v >>> ((nI (8 * i)).toInt64 &&& 63)).toInt32).toInt8.toInt32).toInt64) (sf j + i) rfl (by omega) (by decide) dM_set_84 (fun H locs I => ?_)
          rw [mp_upup, show sf j + i = ixb (sf j) (sw j) (ml j) (sw j - 1 - i) by unfold ixb; rw [if_neg (by omega)]; omega, shv_eq v (by omega)] at I
          have I : mp_I D cls5 (tys6 k) s _ s.heap H locs (mp_up M el (.inl (k 1, 4000, .inr (.inl (wrF va (sf j) (sw j) (ml j) v (i + 1)))))) := I
          refine lv_iinc (v := nI (i + 1)) (lv' := [(5, .int (nI (i + 1))), (4, .int (nI (sw j))), (0, .ref mo), (1, .int (nI j)), (2, .long v)]) hx hb dM_set_85 hl (k := 0) rfl (nI_add i 1) (by decide) rfl (fun ls hl => ?_)
          refine lv_goto (tgt := 29) hx hb dM_set_88 (by decide) ?_
          exact ih_i _ _ _ (by omega) (lv_sub hl [0, 1, 2, 3, 4] rfl) I
  · refine lv_aload_n hx hb dM_set_14 rfl (lv_at hl 1 rfl) ?_
    refine mp_get (v := .ref el) hx hb hts inM hown I h0 rfl 0 (by decide) (hts _ bw_331) (fun _ h9 => h9) rfl dM_set_15 ?_
    refine lv_aload_n hx hb dM_set_18 rfl (lv_at hl 1 rfl) ?_
    refine mp_get (v := .ref pp) hx hb hts inM hown I h0 rfl 9 (by decide) (hts _ bw_340) (fun _ h9 => h9) rfl dM_set_19 ?_
    refine lv_iload_n hx hb dM_set_22 rfl (lv_at hl 2 rfl) ?_
    refine mp_iald hx hb I 0 hpp rfl j rfl (by omega) (by decide) (v := nI (sf j)) rfl dM_set_23 ?_
    refine lv_lload_n hx hb dM_set_24 rfl (lv_at hl 3 rfl) ?_
    refine mp_last hx hb I 1 hel rfl (x := v) (sf j) rfl (by omega) (by decide) dM_set_25 (fun H locs I => ?_)
    have I : mp_I D cls5 (tys6 k) s _ s.heap H locs (mp_up M el (.inl (k 1, 4000, .inr (.inl (vp_updL va (sf j) v))))) := I
    have hel_n : mp_up M el (.inl (k 1, 4000, .inr (.inl (vp_updL va (sf j) v)))) el = some (.inl (k 1, 4000, .inr (.inl (vp_updL va (sf j) v)))) := mp_up_s _ _ _
    have h0_n : mp_up M el (.inl (k 1, 4000, .inr (.inl (vp_updL va (sf j) v)))) mo = some (.inr (4, [.ref el, .ref ek, .int (nI ec), .ref bg, .ref sz, .ref kn, .int (nI tc), .ref rw, .int (nI wc), .ref pp, .ref pk, .ref wd, .ref lo, .int (nI sc), .ref kp, .ref ks, .int (nI nc), .int (nI th)])) := (mp_up_n (mp_ne h0 hel (by simp))).trans h0
    have hek_n : mp_up M el (.inl (k 1, 4000, .inr (.inl (vp_updL va (sf j) v)))) ek = some (.inl (k 0, 4000, .inl (fun i_ => nI (kd i_)))) := (mp_up_n (mp_ne hek hel (by simp))).trans hek
    have hbg_n : mp_up M el (.inl (k 1, 4000, .inr (.inl (vp_updL va (sf j) v)))) bg = some (.inl (k 0, 300, .inl (fun i_ => nI (tf i_)))) := (mp_up_n (mp_ne hbg hel (by simp))).trans hbg
    have hsz_n : mp_up M el (.inl (k 1, 4000, .inr (.inl (vp_updL va (sf j) v)))) sz = some (.inl (k 0, 300, .inl (fun i_ => nI (tz i_)))) := (mp_up_n (mp_ne hsz hel (by simp))).trans hsz
    have hkn_n : mp_up M el (.inl (k 1, 4000, .inr (.inl (vp_updL va (sf j) v)))) kn = some (.inl (k 0, 300, .inl (fun i_ => nI (tk i_)))) := (mp_up_n (mp_ne hkn hel (by simp))).trans hkn
    have hrw_n : mp_up M el (.inl (k 1, 4000, .inr (.inl (vp_updL va (sf j) v)))) rw = some (.inl (k 0, 12, .inl (fun i_ => nI (wt i_)))) := (mp_up_n (mp_ne hrw hel (by simp))).trans hrw
    have hpp_n : mp_up M el (.inl (k 1, 4000, .inr (.inl (vp_updL va (sf j) v)))) pp = some (.inl (k 0, 100, .inl (fun i_ => nI (sf i_)))) := (mp_up_n (mp_ne hpp hel (by simp))).trans hpp
    have hpk_n : mp_up M el (.inl (k 1, 4000, .inr (.inl (vp_updL va (sf j) v)))) pk = some (.inl (k 0, 100, .inl (fun i_ => nI (sk i_)))) := (mp_up_n (mp_ne hpk hel (by simp))).trans hpk
    have hwd_n : mp_up M el (.inl (k 1, 4000, .inr (.inl (vp_updL va (sf j) v)))) wd = some (.inl (k 0, 100, .inl (fun i_ => nI (sw i_)))) := (mp_up_n (mp_ne hwd hel (by simp))).trans hwd
    have hlo_n : mp_up M el (.inl (k 1, 4000, .inr (.inl (vp_updL va (sf j) v)))) lo = some (.inl (k 5, 100, .inl (fun i_ => nI (ml i_)))) := (mp_up_n (mp_ne hlo hel (by simp))).trans hlo
    have hkp_n : mp_up M el (.inl (k 1, 4000, .inr (.inl (vp_updL va (sf j) v)))) kp = some (.inl (k 1, 80000, .inr (.inl mk))) := (mp_up_n (mp_ne hkp hel (by simp))).trans hkp
    have hks_n : mp_up M el (.inl (k 1, 4000, .inr (.inl (vp_updL va (sf j) v)))) ks = some (.inl (k 0, 20, .inl (fun i_ => nI (nn i_)))) := (mp_up_n (mp_ne hks hel (by simp))).trans hks
    generalize eM_6 : mp_up M el (.inl (k 1, 4000, .inr (.inl (vp_updL va (sf j) v)))) = M_5 at I h0_n hel_n hek_n hbg_n hsz_n hkn_n hrw_n hpp_n hpk_n hwd_n hlo_n hkp_n hks_n
    have h0__M_5 := h0_n
    have hel__M_5 := hel_n
    have hek__M_5 := hek_n
    have hbg__M_5 := hbg_n
    have hsz__M_5 := hsz_n
    have hkn__M_5 := hkn_n
    have hrw__M_5 := hrw_n
    have hpp__M_5 := hpp_n
    have hpk__M_5 := hpk_n
    have hwd__M_5 := hwd_n
    have hlo__M_5 := hlo_n
    have hkp__M_5 := hkp_n
    have hks__M_5 := hks_n
    clear h0_n hel_n hek_n hbg_n hsz_n hkn_n hrw_n hpp_n hpk_n hwd_n hlo_n hkp_n hks_n
    have hE := hE.set_el (vp_updL va (sf j) v)
    rw [eM_6] at hE
    refine lv_iconst (v := nI 0) hx hb dM_set_26 (by decide) ?_
    refine lv_istore (lv' := [(5, .int (nI 0)), (4, .int (nI (sw j))), (0, .ref mo), (1, .int (nI j)), (2, .long v)]) hx hb dM_set_27 hl (by decide) rfl (fun ls hl => ?_)
    refine lv_iload hx hb dM_set_29 (lv_at hl 1 rfl) ?_
    refine lv_iconst (v := nI 1) hx hb dM_set_31 (by decide) ?_
    refine zz_icmp_le (tgt := 91) hx hb (nI_toInt (by first | assumption | omega)) (nI_toInt (by decide)) dM_set_32 (by decide) (fun c_7 => ?_) (fun c_7 => ?_)
    · exact mp_vret hx hb hr hlocks I (Nat.le_of_ble_eq_true rfl) (Nat.le_of_ble_eq_true rfl) dM_set_91 (by unfold wrv; rw [if_pos (by omega)]; exact hE)
    · exfalso
      omega
abbrev rm_M_differ : Room := { frames := 0, cells := 0, slots := 0, locals := 0 }
set_option maxHeartbeats 4000000 in
set_option maxRecDepth 100000 in
theorem kM_differ (l : Launch) (D : va_G) (k : Nat → ClassId) (M : mp_M) {mo el ek bg sz kn rw pp pk wd lo kp ks : Nat} {ec tc wc sc nc th : Nat} {va mk : Nat → Int64} {kd wt tk tf tz sk sf sw ml nn : Nat → Nat} (hE : MdX k M mo el ek bg sz kn rw pp pk wd lo kp ks ec tc wc sc nc th va mk kd wt tk tf tz sk sf sw ml nn) (hO : OkB ec tc wc sc nc tk tf tz sk sf sw ml nn) (j : Nat) (hj : j < nc) : mp_Met l yM_differ (Cond.code yM_differ cM_differ 4 (some .int) :: bw) rm_M_differ D cls5 (tys6 k) [.ref mo, .int (nI j)] M (va_Qi (fun r M1 => M1 = M ∧ r = nI (dif va (fun t => mk (4000 * j + t)) (nn j)))) 0 0 := by
  refine mp_Met.of (by decide) (Nat.le_of_ble_eq_true rfl) ?_
  intro p e s m below meth c hx hb hr hml hown hts hlocks hin ls hl I
  have hl : lv_has ls 4 [(0, .ref mo), (1, .int (nI j))] := hl
  obtain ⟨h0, hel, hek, hbg, hsz, hkn, hrw, hpp, hpk, hwd, hlo, hkp, hks, n_bg_sz, n_bg_kn, n_sz_kn, n_pp_pk, n_pp_wd, n_pk_wd, n_pp_lo, n_pk_lo, n_wd_lo⟩ := id hE
  obtain ⟨b1, b2, b3, b4, b5, bT, bS, bN⟩ := id hO
  have hNj := bN j hj
  refine lv_iconst (v := nI 0) hx hb dM_differ_0 (by decide) ?_
  refine lv_istore_n (lv' := [(2, .int (nI 0)), (0, .ref mo), (1, .int (nI j))]) hx hb dM_differ_1 rfl hl (by decide) rfl (fun ls hl => ?_)
  refine lv_iconst (v := nI 0) hx hb dM_differ_2 (by decide) ?_
  refine lv_istore_n (lv' := [(3, .int (nI 0)), (2, .int (nI 0)), (0, .ref mo), (1, .int (nI j))]) hx hb dM_differ_3 rfl hl (by decide) rfl (fun ls hl => ?_)
  refine mp_loop (nn j) 4 (fun i => [(3, .int (nI i)), (2, .int (nI (dif va (fun t => mk (4000 * j + t)) i))), (0, .ref mo), (1, .int (nI j))]) (fun i => M) 0 (by omega) (lv_sub hl [0, 1, 2, 3] rfl) I ?_
  intro i H locs ls hi0_i hi_i hl I ih_i
  have hl : lv_has ls 4 [(3, .int (nI i)), (2, .int (nI (dif va (fun t => mk (4000 * j + t)) i))), (0, .ref mo), (1, .int (nI j))] := hl
  have I : mp_I D cls5 (tys6 k) s _ s.heap H locs (M) := I
  refine lv_iload_n hx hb dM_differ_4 rfl (lv_at hl 0 rfl) ?_
  refine lv_aload_n hx hb dM_differ_5 rfl (lv_at hl 2 rfl) ?_
  refine mp_get (v := .ref ks) hx hb hts inM hown I h0 rfl 15 (by decide) (hts _ bw_346) (fun _ h9 => h9) rfl dM_differ_6 ?_
  refine lv_iload_n hx hb dM_differ_9 rfl (lv_at hl 3 rfl) ?_
  refine mp_iald hx hb I 0 hks rfl j rfl (by omega) (by decide) (v := nI (nn j)) rfl dM_differ_10 ?_
  refine zz_icmp_ge (tgt := 50) hx hb (nI_toInt (by first | assumption | omega)) (nI_toInt (by first | assumption | omega)) dM_differ_11 (by decide) (fun c_1 => ?_) (fun c_1 => ?_)
  · refine lv_iload_n hx hb dM_differ_50 rfl (lv_at hl 1 rfl) ?_
    exact mp_iret hx hb hr hlocks I (Nat.le_of_ble_eq_true rfl) (Nat.le_of_ble_eq_true rfl) dM_differ_51 ⟨rfl, by rw [show i = nn j by omega]⟩
  · refine lv_iload_n hx hb dM_differ_14 rfl (lv_at hl 1 rfl) ?_
    refine lv_aload_n hx hb dM_differ_15 rfl (lv_at hl 2 rfl) ?_
    refine mp_get (v := .ref el) hx hb hts inM hown I h0 rfl 0 (by decide) (hts _ bw_331) (fun _ h9 => h9) rfl dM_differ_16 ?_
    refine lv_iload_n hx hb dM_differ_19 rfl (lv_at hl 0 rfl) ?_
    refine mp_lald hx hb I 1 hel rfl i rfl (by omega) (by decide) (v := va i) rfl dM_differ_20 ?_
    refine lv_aload_n hx hb dM_differ_21 rfl (lv_at hl 2 rfl) ?_
    refine mp_get (v := .ref kp) hx hb hts inM hown I h0 rfl 14 (by decide) (hts _ bw_345) (fun _ h9 => h9) rfl dM_differ_22 ?_
    refine lv_sipush (v := nI 4000) hx hb dM_differ_25 (by decide) ?_
    refine lv_iload_n hx hb dM_differ_28 rfl (lv_at hl 3 rfl) ?_
    refine zz_imul hx hb dM_differ_29 ?_
    refine lv_iload_n hx hb dM_differ_30 rfl (lv_at hl 0 rfl) ?_
    refine zz_iadd hx hb dM_differ_31 ?_
    refine mp_lald hx hb I 1 hkp rfl (4000 * j + i) rfl (by omega) (by decide) (v := mk (4000 * j + i)) rfl dM_differ_32 ?_
    refine W.lcmp hx hb dM_differ_33 ?_
    refine lv_if_eq (tgt := 41) hx hb dM_differ_34 (by decide) (fun c_2 => ?_) (fun c_2 => ?_)
    all_goals rw [lg_cmp_eq] at c_2
    · have hd : dif va (fun t => mk (4000 * j + t)) (i + 1) = dif va (fun t => mk (4000 * j + t)) i + 0 := by show dif va (fun t => mk (4000 * j + t)) i + _ = _; rw [if_pos c_2]
      refine lv_iconst (v := nI 0) hx hb dM_differ_41 (by decide) ?_
      refine zz_iadd hx hb dM_differ_42 ?_
      refine lv_istore_n (lv' := [(2, .int (nI (dif va (fun t => mk (4000 * j + t)) i + 0))), (3, .int (nI i)), (0, .ref mo), (1, .int (nI j))]) hx hb dM_differ_43 rfl hl (by decide) rfl (fun ls hl => ?_)
      refine lv_iinc (v := nI (i + 1)) (lv' := [(3, .int (nI (i + 1))), (2, .int (nI (dif va (fun t => mk (4000 * j + t)) i + 0))), (0, .ref mo), (1, .int (nI j))]) hx hb dM_differ_44 hl (k := 1) rfl (nI_add i 1) (by decide) rfl (fun ls hl => ?_)
      refine lv_goto (tgt := 4) hx hb dM_differ_47 (by decide) ?_
      rw [← hd] at hl
      exact ih_i _ _ _ (by omega) (lv_sub hl [0, 1, 2, 3] rfl) I
    · have hd : dif va (fun t => mk (4000 * j + t)) (i + 1) = dif va (fun t => mk (4000 * j + t)) i + 1 := by show dif va (fun t => mk (4000 * j + t)) i + _ = _; rw [if_neg c_2]
      refine lv_iconst (v := nI 1) hx hb dM_differ_37 (by decide) ?_
      refine lv_goto (tgt := 42) hx hb dM_differ_38 (by decide) ?_
      refine zz_iadd hx hb dM_differ_42 ?_
      refine lv_istore_n (lv' := [(2, .int (nI (dif va (fun t => mk (4000 * j + t)) i + 1))), (3, .int (nI i)), (0, .ref mo), (1, .int (nI j))]) hx hb dM_differ_43 rfl hl (by decide) rfl (fun ls hl => ?_)
      refine lv_iinc (v := nI (i + 1)) (lv' := [(3, .int (nI (i + 1))), (2, .int (nI (dif va (fun t => mk (4000 * j + t)) i + 1))), (0, .ref mo), (1, .int (nI j))]) hx hb dM_differ_44 hl (k := 1) rfl (nI_add i 1) (by decide) rfl (fun ls hl => ?_)
      refine lv_goto (tgt := 4) hx hb dM_differ_47 (by decide) ?_
      rw [← hd] at hl
      exact ih_i _ _ _ (by omega) (lv_sub hl [0, 1, 2, 3] rfl) I
abbrev rm_M_changed : Room := { frames := 1, cells := 0, slots := 0, locals := 30 }
set_option maxHeartbeats 4000000 in
set_option maxRecDepth 100000 in
theorem kM_changed (l : Launch) (D : va_G) (k : Nat → ClassId) (M : mp_M) {mo el ek bg sz kn rw pp pk wd lo kp ks : Nat} {ec tc wc sc nc th : Nat} {va mk : Nat → Int64} {kd wt tk tf tz sk sf sw ml nn : Nat → Nat} (hE : MdX k M mo el ek bg sz kn rw pp pk wd lo kp ks ec tc wc sc nc th va mk kd wt tk tf tz sk sf sw ml nn) (hO : OkB ec tc wc sc nc tk tf tz sk sf sw ml nn) (x : Int32) : mp_Met l yM_changed (Cond.code yM_changed cM_changed 2 (some .int) :: bw) rm_M_changed D cls5 (tys6 k) [.ref mo, .int x] M (va_Qi (fun r M1 => (r = if 0 ≤ x.toInt ∧ x.toInt < (nc : Int) then nI (dif va (fun t => mk (4000 * x.toInt.toNat + t)) (nn x.toInt.toNat)) else -1) ∧ MdX k M1 mo el ek bg sz kn rw pp pk wd lo kp ks ec tc wc sc nc (0) va mk kd wt tk tf tz sk sf sw ml nn)) 0 0 := by
  refine mp_Met.of (by decide) (Nat.le_of_ble_eq_true rfl) ?_
  intro p e s m below meth c hx hb hr hml hown hts hlocks hin ls hl I
  have hl : lv_has ls 2 [(0, .ref mo), (1, .int x)] := hl
  obtain ⟨h0, hel, hek, hbg, hsz, hkn, hrw, hpp, hpk, hwd, hlo, hkp, hks, n_bg_sz, n_bg_kn, n_sz_kn, n_pp_pk, n_pp_wd, n_pk_wd, n_pp_lo, n_pk_lo, n_wd_lo⟩ := id hE
  obtain ⟨b1, b2, b3, b4, b5, bT, bS, bN⟩ := id hO
  refine lv_aload_n hx hb dM_changed_0 rfl (lv_at hl 0 rfl) ?_
  refine lv_iconst (v := nI 0) hx hb dM_changed_1 (by decide) ?_
  refine mp_put (v := .int (nI 0)) (ty := .int) hx hb hts inM tyM okM nmM hown I h0 rfl 17 (by decide) (hts _ bw_348) (fun _ h9 => h9) rfl (by decide +kernel) rfl rfl (Nat.le_of_ble_eq_true rfl) dM_changed_2 (fun H locs I => ?_)
  have I : mp_I D cls5 (tys6 k) s _ s.heap H locs (mp_up M mo (.inr (4, [.ref el, .ref ek, .int (nI ec), .ref bg, .ref sz, .ref kn, .int (nI tc), .ref rw, .int (nI wc), .ref pp, .ref pk, .ref wd, .ref lo, .int (nI sc), .ref kp, .ref ks, .int (nI nc), .int (nI 0)]))) := I
  have h0_n : mp_up M mo (.inr (4, [.ref el, .ref ek, .int (nI ec), .ref bg, .ref sz, .ref kn, .int (nI tc), .ref rw, .int (nI wc), .ref pp, .ref pk, .ref wd, .ref lo, .int (nI sc), .ref kp, .ref ks, .int (nI nc), .int (nI 0)])) mo = some (.inr (4, [.ref el, .ref ek, .int (nI ec), .ref bg, .ref sz, .ref kn, .int (nI tc), .ref rw, .int (nI wc), .ref pp, .ref pk, .ref wd, .ref lo, .int (nI sc), .ref kp, .ref ks, .int (nI nc), .int (nI 0)])) := mp_up_s _ _ _
  have hel_n : mp_up M mo (.inr (4, [.ref el, .ref ek, .int (nI ec), .ref bg, .ref sz, .ref kn, .int (nI tc), .ref rw, .int (nI wc), .ref pp, .ref pk, .ref wd, .ref lo, .int (nI sc), .ref kp, .ref ks, .int (nI nc), .int (nI 0)])) el = some (.inl (k 1, 4000, .inr (.inl va))) := (mp_up_n (mp_ne hel h0 (by simp))).trans hel
  have hek_n : mp_up M mo (.inr (4, [.ref el, .ref ek, .int (nI ec), .ref bg, .ref sz, .ref kn, .int (nI tc), .ref rw, .int (nI wc), .ref pp, .ref pk, .ref wd, .ref lo, .int (nI sc), .ref kp, .ref ks, .int (nI nc), .int (nI 0)])) ek = some (.inl (k 0, 4000, .inl (fun i_ => nI (kd i_)))) := (mp_up_n (mp_ne hek h0 (by simp))).trans hek
  have hbg_n : mp_up M mo (.inr (4, [.ref el, .ref ek, .int (nI ec), .ref bg, .ref sz, .ref kn, .int (nI tc), .ref rw, .int (nI wc), .ref pp, .ref pk, .ref wd, .ref lo, .int (nI sc), .ref kp, .ref ks, .int (nI nc), .int (nI 0)])) bg = some (.inl (k 0, 300, .inl (fun i_ => nI (tf i_)))) := (mp_up_n (mp_ne hbg h0 (by simp))).trans hbg
  have hsz_n : mp_up M mo (.inr (4, [.ref el, .ref ek, .int (nI ec), .ref bg, .ref sz, .ref kn, .int (nI tc), .ref rw, .int (nI wc), .ref pp, .ref pk, .ref wd, .ref lo, .int (nI sc), .ref kp, .ref ks, .int (nI nc), .int (nI 0)])) sz = some (.inl (k 0, 300, .inl (fun i_ => nI (tz i_)))) := (mp_up_n (mp_ne hsz h0 (by simp))).trans hsz
  have hkn_n : mp_up M mo (.inr (4, [.ref el, .ref ek, .int (nI ec), .ref bg, .ref sz, .ref kn, .int (nI tc), .ref rw, .int (nI wc), .ref pp, .ref pk, .ref wd, .ref lo, .int (nI sc), .ref kp, .ref ks, .int (nI nc), .int (nI 0)])) kn = some (.inl (k 0, 300, .inl (fun i_ => nI (tk i_)))) := (mp_up_n (mp_ne hkn h0 (by simp))).trans hkn
  have hrw_n : mp_up M mo (.inr (4, [.ref el, .ref ek, .int (nI ec), .ref bg, .ref sz, .ref kn, .int (nI tc), .ref rw, .int (nI wc), .ref pp, .ref pk, .ref wd, .ref lo, .int (nI sc), .ref kp, .ref ks, .int (nI nc), .int (nI 0)])) rw = some (.inl (k 0, 12, .inl (fun i_ => nI (wt i_)))) := (mp_up_n (mp_ne hrw h0 (by simp))).trans hrw
  have hpp_n : mp_up M mo (.inr (4, [.ref el, .ref ek, .int (nI ec), .ref bg, .ref sz, .ref kn, .int (nI tc), .ref rw, .int (nI wc), .ref pp, .ref pk, .ref wd, .ref lo, .int (nI sc), .ref kp, .ref ks, .int (nI nc), .int (nI 0)])) pp = some (.inl (k 0, 100, .inl (fun i_ => nI (sf i_)))) := (mp_up_n (mp_ne hpp h0 (by simp))).trans hpp
  have hpk_n : mp_up M mo (.inr (4, [.ref el, .ref ek, .int (nI ec), .ref bg, .ref sz, .ref kn, .int (nI tc), .ref rw, .int (nI wc), .ref pp, .ref pk, .ref wd, .ref lo, .int (nI sc), .ref kp, .ref ks, .int (nI nc), .int (nI 0)])) pk = some (.inl (k 0, 100, .inl (fun i_ => nI (sk i_)))) := (mp_up_n (mp_ne hpk h0 (by simp))).trans hpk
  have hwd_n : mp_up M mo (.inr (4, [.ref el, .ref ek, .int (nI ec), .ref bg, .ref sz, .ref kn, .int (nI tc), .ref rw, .int (nI wc), .ref pp, .ref pk, .ref wd, .ref lo, .int (nI sc), .ref kp, .ref ks, .int (nI nc), .int (nI 0)])) wd = some (.inl (k 0, 100, .inl (fun i_ => nI (sw i_)))) := (mp_up_n (mp_ne hwd h0 (by simp))).trans hwd
  have hlo_n : mp_up M mo (.inr (4, [.ref el, .ref ek, .int (nI ec), .ref bg, .ref sz, .ref kn, .int (nI tc), .ref rw, .int (nI wc), .ref pp, .ref pk, .ref wd, .ref lo, .int (nI sc), .ref kp, .ref ks, .int (nI nc), .int (nI 0)])) lo = some (.inl (k 5, 100, .inl (fun i_ => nI (ml i_)))) := (mp_up_n (mp_ne hlo h0 (by simp))).trans hlo
  have hkp_n : mp_up M mo (.inr (4, [.ref el, .ref ek, .int (nI ec), .ref bg, .ref sz, .ref kn, .int (nI tc), .ref rw, .int (nI wc), .ref pp, .ref pk, .ref wd, .ref lo, .int (nI sc), .ref kp, .ref ks, .int (nI nc), .int (nI 0)])) kp = some (.inl (k 1, 80000, .inr (.inl mk))) := (mp_up_n (mp_ne hkp h0 (by simp))).trans hkp
  have hks_n : mp_up M mo (.inr (4, [.ref el, .ref ek, .int (nI ec), .ref bg, .ref sz, .ref kn, .int (nI tc), .ref rw, .int (nI wc), .ref pp, .ref pk, .ref wd, .ref lo, .int (nI sc), .ref kp, .ref ks, .int (nI nc), .int (nI 0)])) ks = some (.inl (k 0, 20, .inl (fun i_ => nI (nn i_)))) := (mp_up_n (mp_ne hks h0 (by simp))).trans hks
  generalize eM_2 : mp_up M mo (.inr (4, [.ref el, .ref ek, .int (nI ec), .ref bg, .ref sz, .ref kn, .int (nI tc), .ref rw, .int (nI wc), .ref pp, .ref pk, .ref wd, .ref lo, .int (nI sc), .ref kp, .ref ks, .int (nI nc), .int (nI 0)])) = M_1 at I h0_n hel_n hek_n hbg_n hsz_n hkn_n hrw_n hpp_n hpk_n hwd_n hlo_n hkp_n hks_n
  have h0__M_1 := h0_n
  have hel__M_1 := hel_n
  have hek__M_1 := hek_n
  have hbg__M_1 := hbg_n
  have hsz__M_1 := hsz_n
  have hkn__M_1 := hkn_n
  have hrw__M_1 := hrw_n
  have hpp__M_1 := hpp_n
  have hpk__M_1 := hpk_n
  have hwd__M_1 := hwd_n
  have hlo__M_1 := hlo_n
  have hkp__M_1 := hkp_n
  have hks__M_1 := hks_n
  clear h0_n hel_n hek_n hbg_n hsz_n hkn_n hrw_n hpp_n hpk_n hwd_n hlo_n hkp_n hks_n
  have hE := hE.cnt ec tc wc sc nc 0
  rw [eM_2] at hE
  refine lv_iload_n hx hb dM_changed_5 rfl (lv_at hl 1 rfl) ?_
  refine zz_if_lt (tgt := 17) hx hb rfl dM_changed_6 (by decide) (fun c_3 => ?_) (fun c_3 => ?_)
  · refine lv_iconst (v := (-1)) hx hb dM_changed_17 (by decide) ?_
    refine lv_goto (tgt := 26) hx hb dM_changed_18 (by decide) ?_
    exact mp_iret hx hb hr hlocks I (Nat.le_of_ble_eq_true rfl) (Nat.le_of_ble_eq_true rfl) dM_changed_26 ⟨by rw [if_neg (by omega)], hE⟩
  · refine lv_iload_n hx hb dM_changed_9 rfl (lv_at hl 1 rfl) ?_
    refine lv_aload_n hx hb dM_changed_10 rfl (lv_at hl 0 rfl) ?_
    refine mp_get (v := .int (nI nc)) hx hb hts inM hown I h0__M_1 rfl 16 (by decide) (hts _ bw_347) (fun _ h9 => h9) rfl dM_changed_11 ?_
    refine zz_icmp_lt (tgt := 21) hx hb rfl (nI_toInt (by first | assumption | omega)) dM_changed_14 (by decide) (fun c_4 => ?_) (fun c_4 => ?_)
    · obtain ⟨xn, hn_xn, rfl, hz_xn⟩ := i32_nat (x := x) (by omega)
      have hxi : (nI xn).toInt.toNat = xn := by omega
      refine lv_aload_n hx hb dM_changed_21 rfl (lv_at hl 0 rfl) ?_
      refine lv_iload_n hx hb dM_changed_22 rfl (lv_at hl 1 rfl) ?_
      refine mp_calli (va_runV (As := [.int (nI xn)]) (rest := []) ⟨hx, hb, hml, hown, hts⟩ (kM_differ l D k M_1 hE hO xn (by omega) _) (cwV 1 hts (bw_V bw_476 bw_478 bs_18 bw_2 bw_479) rfl rfl rfl (by decide +kernel) ⟨Nat.le_of_ble_eq_true rfl, Nat.le_of_ble_eq_true rfl⟩) (mp_preV I h0__M_1 rfl _) rfl rfl hl.1 rfl (lv_room (Nat.le_of_ble_eq_true rfl)) dM_changed_23 ⟨Nat.le_of_ble_eq_true rfl, Nat.le_of_ble_eq_true rfl⟩) I (fun r1 N1 H locs hp I => ?_)
      obtain ⟨e_5, hp⟩ := hp
      rw [e_5] at I
      subst hp
      exact mp_iret hx hb hr hlocks I (Nat.le_of_ble_eq_true rfl) (Nat.le_of_ble_eq_true rfl) dM_changed_26 ⟨by rw [if_pos (show 0 ≤ (nI xn).toInt ∧ (nI xn).toInt < (nc : Int) by omega), hxi], hE⟩
    · refine lv_iconst (v := (-1)) hx hb dM_changed_17 (by decide) ?_
      refine lv_goto (tgt := 26) hx hb dM_changed_18 (by decide) ?_
      exact mp_iret hx hb hr hlocks I (Nat.le_of_ble_eq_true rfl) (Nat.le_of_ble_eq_true rfl) dM_changed_26 ⟨by rw [if_neg (by omega)], hE⟩
abbrev rm_M_mark : Room := { frames := 0, cells := 0, slots := 0, locals := 0 }
set_option maxHeartbeats 4000000 in
set_option maxRecDepth 100000 in
theorem kM_mark (l : Launch) (D : va_G) (k : Nat → ClassId) (M : mp_M) {mo el ek bg sz kn rw pp pk wd lo kp ks : Nat} {ec tc wc sc nc th : Nat} {va mk : Nat → Int64} {kd wt tk tf tz sk sf sw ml nn : Nat → Nat} (hE : MdX k M mo el ek bg sz kn rw pp pk wd lo kp ks ec tc wc sc nc th va mk kd wt tk tf tz sk sf sw ml nn) (hO : OkB ec tc wc sc nc tk tf tz sk sf sw ml nn) : mp_Met l yM_mark (Cond.code yM_mark cM_mark 2 (some .int) :: bw) rm_M_mark D cls5 (tys6 k) [.ref mo] M (va_Qi (fun r M1 => (nc < 20 ∧ r = nI nc ∧ MdX k M1 mo el ek bg sz kn rw pp pk wd lo kp ks ec tc wc sc (nc + 1) (0) va (va_cpy va mk 0 (4000 * nc) ec) kd wt tk tf tz sk sf sw ml (nu nn nc ec)) ∨ (¬ nc < 20 ∧ r = -1 ∧ MdX k M1 mo el ek bg sz kn rw pp pk wd lo kp ks ec tc wc sc nc (0) va mk kd wt tk tf tz sk sf sw ml nn))) 0 0 := by
  refine mp_Met.of (by decide) (Nat.le_of_ble_eq_true rfl) ?_
  intro p e s m below meth c hx hb hr hml hown hts hlocks hin ls hl I
  have hl : lv_has ls 2 [(0, .ref mo)] := hl
  obtain ⟨h0, hel, hek, hbg, hsz, hkn, hrw, hpp, hpk, hwd, hlo, hkp, hks, n_bg_sz, n_bg_kn, n_sz_kn, n_pp_pk, n_pp_wd, n_pk_wd, n_pp_lo, n_pk_lo, n_wd_lo⟩ := id hE
  obtain ⟨b1, b2, b3, b4, b5, bT, bS, bN⟩ := id hO
  refine lv_aload_n hx hb dM_mark_0 rfl (lv_at hl 0 rfl) ?_
  refine lv_iconst (v := nI 0) hx hb dM_mark_1 (by decide) ?_
  refine mp_put (v := .int (nI 0)) (ty := .int) hx hb hts inM tyM okM nmM hown I h0 rfl 17 (by decide) (hts _ bw_348) (fun _ h9 => h9) rfl (by decide +kernel) rfl rfl (Nat.le_of_ble_eq_true rfl) dM_mark_2 (fun H locs I => ?_)
  have I : mp_I D cls5 (tys6 k) s _ s.heap H locs (mp_up M mo (.inr (4, [.ref el, .ref ek, .int (nI ec), .ref bg, .ref sz, .ref kn, .int (nI tc), .ref rw, .int (nI wc), .ref pp, .ref pk, .ref wd, .ref lo, .int (nI sc), .ref kp, .ref ks, .int (nI nc), .int (nI 0)]))) := I
  have h0_n : mp_up M mo (.inr (4, [.ref el, .ref ek, .int (nI ec), .ref bg, .ref sz, .ref kn, .int (nI tc), .ref rw, .int (nI wc), .ref pp, .ref pk, .ref wd, .ref lo, .int (nI sc), .ref kp, .ref ks, .int (nI nc), .int (nI 0)])) mo = some (.inr (4, [.ref el, .ref ek, .int (nI ec), .ref bg, .ref sz, .ref kn, .int (nI tc), .ref rw, .int (nI wc), .ref pp, .ref pk, .ref wd, .ref lo, .int (nI sc), .ref kp, .ref ks, .int (nI nc), .int (nI 0)])) := mp_up_s _ _ _
  have hel_n : mp_up M mo (.inr (4, [.ref el, .ref ek, .int (nI ec), .ref bg, .ref sz, .ref kn, .int (nI tc), .ref rw, .int (nI wc), .ref pp, .ref pk, .ref wd, .ref lo, .int (nI sc), .ref kp, .ref ks, .int (nI nc), .int (nI 0)])) el = some (.inl (k 1, 4000, .inr (.inl va))) := (mp_up_n (mp_ne hel h0 (by simp))).trans hel
  have hek_n : mp_up M mo (.inr (4, [.ref el, .ref ek, .int (nI ec), .ref bg, .ref sz, .ref kn, .int (nI tc), .ref rw, .int (nI wc), .ref pp, .ref pk, .ref wd, .ref lo, .int (nI sc), .ref kp, .ref ks, .int (nI nc), .int (nI 0)])) ek = some (.inl (k 0, 4000, .inl (fun i_ => nI (kd i_)))) := (mp_up_n (mp_ne hek h0 (by simp))).trans hek
  have hbg_n : mp_up M mo (.inr (4, [.ref el, .ref ek, .int (nI ec), .ref bg, .ref sz, .ref kn, .int (nI tc), .ref rw, .int (nI wc), .ref pp, .ref pk, .ref wd, .ref lo, .int (nI sc), .ref kp, .ref ks, .int (nI nc), .int (nI 0)])) bg = some (.inl (k 0, 300, .inl (fun i_ => nI (tf i_)))) := (mp_up_n (mp_ne hbg h0 (by simp))).trans hbg
  have hsz_n : mp_up M mo (.inr (4, [.ref el, .ref ek, .int (nI ec), .ref bg, .ref sz, .ref kn, .int (nI tc), .ref rw, .int (nI wc), .ref pp, .ref pk, .ref wd, .ref lo, .int (nI sc), .ref kp, .ref ks, .int (nI nc), .int (nI 0)])) sz = some (.inl (k 0, 300, .inl (fun i_ => nI (tz i_)))) := (mp_up_n (mp_ne hsz h0 (by simp))).trans hsz
  have hkn_n : mp_up M mo (.inr (4, [.ref el, .ref ek, .int (nI ec), .ref bg, .ref sz, .ref kn, .int (nI tc), .ref rw, .int (nI wc), .ref pp, .ref pk, .ref wd, .ref lo, .int (nI sc), .ref kp, .ref ks, .int (nI nc), .int (nI 0)])) kn = some (.inl (k 0, 300, .inl (fun i_ => nI (tk i_)))) := (mp_up_n (mp_ne hkn h0 (by simp))).trans hkn
  have hrw_n : mp_up M mo (.inr (4, [.ref el, .ref ek, .int (nI ec), .ref bg, .ref sz, .ref kn, .int (nI tc), .ref rw, .int (nI wc), .ref pp, .ref pk, .ref wd, .ref lo, .int (nI sc), .ref kp, .ref ks, .int (nI nc), .int (nI 0)])) rw = some (.inl (k 0, 12, .inl (fun i_ => nI (wt i_)))) := (mp_up_n (mp_ne hrw h0 (by simp))).trans hrw
  have hpp_n : mp_up M mo (.inr (4, [.ref el, .ref ek, .int (nI ec), .ref bg, .ref sz, .ref kn, .int (nI tc), .ref rw, .int (nI wc), .ref pp, .ref pk, .ref wd, .ref lo, .int (nI sc), .ref kp, .ref ks, .int (nI nc), .int (nI 0)])) pp = some (.inl (k 0, 100, .inl (fun i_ => nI (sf i_)))) := (mp_up_n (mp_ne hpp h0 (by simp))).trans hpp
  have hpk_n : mp_up M mo (.inr (4, [.ref el, .ref ek, .int (nI ec), .ref bg, .ref sz, .ref kn, .int (nI tc), .ref rw, .int (nI wc), .ref pp, .ref pk, .ref wd, .ref lo, .int (nI sc), .ref kp, .ref ks, .int (nI nc), .int (nI 0)])) pk = some (.inl (k 0, 100, .inl (fun i_ => nI (sk i_)))) := (mp_up_n (mp_ne hpk h0 (by simp))).trans hpk
  have hwd_n : mp_up M mo (.inr (4, [.ref el, .ref ek, .int (nI ec), .ref bg, .ref sz, .ref kn, .int (nI tc), .ref rw, .int (nI wc), .ref pp, .ref pk, .ref wd, .ref lo, .int (nI sc), .ref kp, .ref ks, .int (nI nc), .int (nI 0)])) wd = some (.inl (k 0, 100, .inl (fun i_ => nI (sw i_)))) := (mp_up_n (mp_ne hwd h0 (by simp))).trans hwd
  have hlo_n : mp_up M mo (.inr (4, [.ref el, .ref ek, .int (nI ec), .ref bg, .ref sz, .ref kn, .int (nI tc), .ref rw, .int (nI wc), .ref pp, .ref pk, .ref wd, .ref lo, .int (nI sc), .ref kp, .ref ks, .int (nI nc), .int (nI 0)])) lo = some (.inl (k 5, 100, .inl (fun i_ => nI (ml i_)))) := (mp_up_n (mp_ne hlo h0 (by simp))).trans hlo
  have hkp_n : mp_up M mo (.inr (4, [.ref el, .ref ek, .int (nI ec), .ref bg, .ref sz, .ref kn, .int (nI tc), .ref rw, .int (nI wc), .ref pp, .ref pk, .ref wd, .ref lo, .int (nI sc), .ref kp, .ref ks, .int (nI nc), .int (nI 0)])) kp = some (.inl (k 1, 80000, .inr (.inl mk))) := (mp_up_n (mp_ne hkp h0 (by simp))).trans hkp
  have hks_n : mp_up M mo (.inr (4, [.ref el, .ref ek, .int (nI ec), .ref bg, .ref sz, .ref kn, .int (nI tc), .ref rw, .int (nI wc), .ref pp, .ref pk, .ref wd, .ref lo, .int (nI sc), .ref kp, .ref ks, .int (nI nc), .int (nI 0)])) ks = some (.inl (k 0, 20, .inl (fun i_ => nI (nn i_)))) := (mp_up_n (mp_ne hks h0 (by simp))).trans hks
  generalize eM_2 : mp_up M mo (.inr (4, [.ref el, .ref ek, .int (nI ec), .ref bg, .ref sz, .ref kn, .int (nI tc), .ref rw, .int (nI wc), .ref pp, .ref pk, .ref wd, .ref lo, .int (nI sc), .ref kp, .ref ks, .int (nI nc), .int (nI 0)])) = M_1 at I h0_n hel_n hek_n hbg_n hsz_n hkn_n hrw_n hpp_n hpk_n hwd_n hlo_n hkp_n hks_n
  have h0__M_1 := h0_n
  have hel__M_1 := hel_n
  have hek__M_1 := hek_n
  have hbg__M_1 := hbg_n
  have hsz__M_1 := hsz_n
  have hkn__M_1 := hkn_n
  have hrw__M_1 := hrw_n
  have hpp__M_1 := hpp_n
  have hpk__M_1 := hpk_n
  have hwd__M_1 := hwd_n
  have hlo__M_1 := hlo_n
  have hkp__M_1 := hkp_n
  have hks__M_1 := hks_n
  clear h0_n hel_n hek_n hbg_n hsz_n hkn_n hrw_n hpp_n hpk_n hwd_n hlo_n hkp_n hks_n
  have hE := hE.cnt ec tc wc sc nc 0
  rw [eM_2] at hE
  refine lv_aload_n hx hb dM_mark_5 rfl (lv_at hl 0 rfl) ?_
  refine mp_get (v := .int (nI nc)) hx hb hts inM hown I h0__M_1 rfl 16 (by decide) (hts _ bw_347) (fun _ h9 => h9) rfl dM_mark_6 ?_
  refine lv_bipush (v := nI 20) hx hb dM_mark_9 (by decide) ?_
  refine zz_icmp_ne (tgt := 16) hx hb (nI_toInt (by first | assumption | omega)) (nI_toInt (by decide)) dM_mark_11 (by decide) (fun c_3 => ?_) (fun c_3 => ?_)
  · refine lv_iconst (v := nI 0) hx hb dM_mark_16 (by decide) ?_
    refine lv_istore_n (lv' := [(1, .int (nI 0)), (0, .ref mo)]) hx hb dM_mark_17 rfl hl (by decide) rfl (fun ls hl => ?_)
    have I := I.to (show M_1 = mp_up M_1 kp (.inl (k 1, 80000, .inr (.inl (va_cpy va mk 0 (4000 * nc) 0)))) by rw [cpy_0, mp_upself hkp__M_1])
    refine mp_loop ec 2 (fun i => [(1, .int (nI i)), (0, .ref mo)]) (fun i => mp_up M_1 kp (.inl (k 1, 80000, .inr (.inl (va_cpy va mk 0 (4000 * nc) i))))) 0 (by omega) (lv_sub hl [0, 1] rfl) I ?_
    intro i H locs ls hi0_i hi_i hl I ih_i
    have hl : lv_has ls 2 [(1, .int (nI i)), (0, .ref mo)] := hl
    have I : mp_I D cls5 (tys6 k) s _ s.heap H locs (mp_up M_1 kp (.inl (k 1, 80000, .inr (.inl (va_cpy va mk 0 (4000 * nc) i))))) := I
    have h0__L : mp_up M_1 kp (.inl (k 1, 80000, .inr (.inl (va_cpy va mk 0 (4000 * nc) i)))) mo = some (.inr (4, [.ref el, .ref ek, .int (nI ec), .ref bg, .ref sz, .ref kn, .int (nI tc), .ref rw, .int (nI wc), .ref pp, .ref pk, .ref wd, .ref lo, .int (nI sc), .ref kp, .ref ks, .int (nI nc), .int (nI 0)])) := (mp_up_n (mp_ne h0__M_1 hkp__M_1 (by simp))).trans h0__M_1
    have hel__L : mp_up M_1 kp (.inl (k 1, 80000, .inr (.inl (va_cpy va mk 0 (4000 * nc) i)))) el = some (.inl (k 1, 4000, .inr (.inl va))) := (mp_up_n (mp_ne hel__M_1 hkp__M_1 (by simp))).trans hel__M_1
    have hek__L : mp_up M_1 kp (.inl (k 1, 80000, .inr (.inl (va_cpy va mk 0 (4000 * nc) i)))) ek = some (.inl (k 0, 4000, .inl (fun i_ => nI (kd i_)))) := (mp_up_n (mp_ne hek__M_1 hkp__M_1 (by simp))).trans hek__M_1
    have hbg__L : mp_up M_1 kp (.inl (k 1, 80000, .inr (.inl (va_cpy va mk 0 (4000 * nc) i)))) bg = some (.inl (k 0, 300, .inl (fun i_ => nI (tf i_)))) := (mp_up_n (mp_ne hbg__M_1 hkp__M_1 (by simp))).trans hbg__M_1
    have hsz__L : mp_up M_1 kp (.inl (k 1, 80000, .inr (.inl (va_cpy va mk 0 (4000 * nc) i)))) sz = some (.inl (k 0, 300, .inl (fun i_ => nI (tz i_)))) := (mp_up_n (mp_ne hsz__M_1 hkp__M_1 (by simp))).trans hsz__M_1
    have hkn__L : mp_up M_1 kp (.inl (k 1, 80000, .inr (.inl (va_cpy va mk 0 (4000 * nc) i)))) kn = some (.inl (k 0, 300, .inl (fun i_ => nI (tk i_)))) := (mp_up_n (mp_ne hkn__M_1 hkp__M_1 (by simp))).trans hkn__M_1
    have hrw__L : mp_up M_1 kp (.inl (k 1, 80000, .inr (.inl (va_cpy va mk 0 (4000 * nc) i)))) rw = some (.inl (k 0, 12, .inl (fun i_ => nI (wt i_)))) := (mp_up_n (mp_ne hrw__M_1 hkp__M_1 (by simp))).trans hrw__M_1
    have hpp__L : mp_up M_1 kp (.inl (k 1, 80000, .inr (.inl (va_cpy va mk 0 (4000 * nc) i)))) pp = some (.inl (k 0, 100, .inl (fun i_ => nI (sf i_)))) := (mp_up_n (mp_ne hpp__M_1 hkp__M_1 (by simp))).trans hpp__M_1
    have hpk__L : mp_up M_1 kp (.inl (k 1, 80000, .inr (.inl (va_cpy va mk 0 (4000 * nc) i)))) pk = some (.inl (k 0, 100, .inl (fun i_ => nI (sk i_)))) := (mp_up_n (mp_ne hpk__M_1 hkp__M_1 (by simp))).trans hpk__M_1
    have hwd__L : mp_up M_1 kp (.inl (k 1, 80000, .inr (.inl (va_cpy va mk 0 (4000 * nc) i)))) wd = some (.inl (k 0, 100, .inl (fun i_ => nI (sw i_)))) := (mp_up_n (mp_ne hwd__M_1 hkp__M_1 (by simp))).trans hwd__M_1
    have hlo__L : mp_up M_1 kp (.inl (k 1, 80000, .inr (.inl (va_cpy va mk 0 (4000 * nc) i)))) lo = some (.inl (k 5, 100, .inl (fun i_ => nI (ml i_)))) := (mp_up_n (mp_ne hlo__M_1 hkp__M_1 (by simp))).trans hlo__M_1
    have hkp__L : mp_up M_1 kp (.inl (k 1, 80000, .inr (.inl (va_cpy va mk 0 (4000 * nc) i)))) kp = some (.inl (k 1, 80000, .inr (.inl (va_cpy va mk 0 (4000 * nc) i)))) := mp_up_s _ _ _
    have hks__L : mp_up M_1 kp (.inl (k 1, 80000, .inr (.inl (va_cpy va mk 0 (4000 * nc) i)))) ks = some (.inl (k 0, 20, .inl (fun i_ => nI (nn i_)))) := (mp_up_n (mp_ne hks__M_1 hkp__M_1 (by simp))).trans hks__M_1
    refine lv_iload_n hx hb dM_mark_18 rfl (lv_at hl 0 rfl) ?_
    refine lv_aload_n hx hb dM_mark_19 rfl (lv_at hl 1 rfl) ?_
    refine mp_get (v := .int (nI ec)) hx hb hts inM hown I h0__L rfl 2 (by decide) (hts _ bw_333) (fun _ h9 => h9) rfl dM_mark_20 ?_
    refine zz_icmp_ge (tgt := 53) hx hb (nI_toInt (by first | assumption | omega)) (nI_toInt (by first | assumption | omega)) dM_mark_23 (by decide) (fun c_4 => ?_) (fun c_4 => ?_)
    · obtain rfl : ec = i := by omega
      have hE := hE.set_kp (va_cpy va mk 0 (4000 * nc) ec)
      generalize eMv : mp_up M_1 kp (.inl (k 1, 80000, .inr (.inl (va_cpy va mk 0 (4000 * nc) ec)))) = Mv at I hE
      clear h0__L hel__L hek__L hbg__L hsz__L hkn__L hrw__L hpp__L hpk__L hwd__L hlo__L hkp__L hks__L
      obtain ⟨h0, hel, hek, hbg, hsz, hkn, hrw, hpp, hpk, hwd, hlo, hkp, hks, n_bg_sz, n_bg_kn, n_sz_kn, n_pp_pk, n_pp_wd, n_pk_wd, n_pp_lo, n_pk_lo, n_wd_lo⟩ := id hE
      refine lv_aload_n hx hb dM_mark_53 rfl (lv_at hl 1 rfl) ?_
      refine mp_get (v := .ref ks) hx hb hts inM hown I h0 rfl 15 (by decide) (hts _ bw_346) (fun _ h9 => h9) rfl dM_mark_54 ?_
      refine lv_aload_n hx hb dM_mark_57 rfl (lv_at hl 1 rfl) ?_
      refine mp_get (v := .int (nI nc)) hx hb hts inM hown I h0 rfl 16 (by decide) (hts _ bw_347) (fun _ h9 => h9) rfl dM_mark_58 ?_
      refine lv_aload_n hx hb dM_mark_61 rfl (lv_at hl 1 rfl) ?_
      refine mp_get (v := .int (nI ec)) hx hb hts inM hown I h0 rfl 2 (by decide) (hts _ bw_333) (fun _ h9 => h9) rfl dM_mark_62 ?_
      refine mp_iast hx hb I 0 hks rfl (x := nI ec) nc rfl (by omega) (by decide) dM_mark_65 (fun H locs I => ?_)
      rw [upd_nI] at I
      have I : mp_I D cls5 (tys6 k) s _ s.heap H locs (mp_up Mv ks (.inl (k 0, 20, .inl (fun i_ => nI ((nu nn nc ec) i_))))) := I
      have hks_n : mp_up Mv ks (.inl (k 0, 20, .inl (fun i_ => nI ((nu nn nc ec) i_)))) ks = some (.inl (k 0, 20, .inl (fun i_ => nI ((nu nn nc ec) i_)))) := mp_up_s _ _ _
      have h0_n : mp_up Mv ks (.inl (k 0, 20, .inl (fun i_ => nI ((nu nn nc ec) i_)))) mo = some (.inr (4, [.ref el, .ref ek, .int (nI ec), .ref bg, .ref sz, .ref kn, .int (nI tc), .ref rw, .int (nI wc), .ref pp, .ref pk, .ref wd, .ref lo, .int (nI sc), .ref kp, .ref ks, .int (nI nc), .int (nI 0)])) := (mp_up_n (mp_ne h0 hks (by simp))).trans h0
      have hel_n : mp_up Mv ks (.inl (k 0, 20, .inl (fun i_ => nI ((nu nn nc ec) i_)))) el = some (.inl (k 1, 4000, .inr (.inl va))) := (mp_up_n (mp_ne hel hks (by simp))).trans hel
      have hek_n : mp_up Mv ks (.inl (k 0, 20, .inl (fun i_ => nI ((nu nn nc ec) i_)))) ek = some (.inl (k 0, 4000, .inl (fun i_ => nI (kd i_)))) := (mp_up_n (mp_ne hek hks (by simp))).trans hek
      have hbg_n : mp_up Mv ks (.inl (k 0, 20, .inl (fun i_ => nI ((nu nn nc ec) i_)))) bg = some (.inl (k 0, 300, .inl (fun i_ => nI (tf i_)))) := (mp_up_n (mp_ne hbg hks (by simp))).trans hbg
      have hsz_n : mp_up Mv ks (.inl (k 0, 20, .inl (fun i_ => nI ((nu nn nc ec) i_)))) sz = some (.inl (k 0, 300, .inl (fun i_ => nI (tz i_)))) := (mp_up_n (mp_ne hsz hks (by simp))).trans hsz
      have hkn_n : mp_up Mv ks (.inl (k 0, 20, .inl (fun i_ => nI ((nu nn nc ec) i_)))) kn = some (.inl (k 0, 300, .inl (fun i_ => nI (tk i_)))) := (mp_up_n (mp_ne hkn hks (by simp))).trans hkn
      have hrw_n : mp_up Mv ks (.inl (k 0, 20, .inl (fun i_ => nI ((nu nn nc ec) i_)))) rw = some (.inl (k 0, 12, .inl (fun i_ => nI (wt i_)))) := (mp_up_n (mp_ne hrw hks (by simp))).trans hrw
      have hpp_n : mp_up Mv ks (.inl (k 0, 20, .inl (fun i_ => nI ((nu nn nc ec) i_)))) pp = some (.inl (k 0, 100, .inl (fun i_ => nI (sf i_)))) := (mp_up_n (mp_ne hpp hks (by simp))).trans hpp
      have hpk_n : mp_up Mv ks (.inl (k 0, 20, .inl (fun i_ => nI ((nu nn nc ec) i_)))) pk = some (.inl (k 0, 100, .inl (fun i_ => nI (sk i_)))) := (mp_up_n (mp_ne hpk hks (by simp))).trans hpk
      have hwd_n : mp_up Mv ks (.inl (k 0, 20, .inl (fun i_ => nI ((nu nn nc ec) i_)))) wd = some (.inl (k 0, 100, .inl (fun i_ => nI (sw i_)))) := (mp_up_n (mp_ne hwd hks (by simp))).trans hwd
      have hlo_n : mp_up Mv ks (.inl (k 0, 20, .inl (fun i_ => nI ((nu nn nc ec) i_)))) lo = some (.inl (k 5, 100, .inl (fun i_ => nI (ml i_)))) := (mp_up_n (mp_ne hlo hks (by simp))).trans hlo
      have hkp_n : mp_up Mv ks (.inl (k 0, 20, .inl (fun i_ => nI ((nu nn nc ec) i_)))) kp = some (.inl (k 1, 80000, .inr (.inl (va_cpy va mk 0 (4000 * nc) ec)))) := (mp_up_n (mp_ne hkp hks (by simp))).trans hkp
      generalize eM_6 : mp_up Mv ks (.inl (k 0, 20, .inl (fun i_ => nI ((nu nn nc ec) i_)))) = M_5 at I h0_n hel_n hek_n hbg_n hsz_n hkn_n hrw_n hpp_n hpk_n hwd_n hlo_n hkp_n hks_n
      have h0__M_5 := h0_n
      have hel__M_5 := hel_n
      have hek__M_5 := hek_n
      have hbg__M_5 := hbg_n
      have hsz__M_5 := hsz_n
      have hkn__M_5 := hkn_n
      have hrw__M_5 := hrw_n
      have hpp__M_5 := hpp_n
      have hpk__M_5 := hpk_n
      have hwd__M_5 := hwd_n
      have hlo__M_5 := hlo_n
      have hkp__M_5 := hkp_n
      have hks__M_5 := hks_n
      clear h0_n hel_n hek_n hbg_n hsz_n hkn_n hrw_n hpp_n hpk_n hwd_n hlo_n hkp_n hks_n
      have hE := hE.set_ks (nu nn nc ec)
      rw [eM_6] at hE
      refine lv_aload_n hx hb dM_mark_66 rfl (lv_at hl 1 rfl) ?_
      refine lv_dup hx hb dM_mark_67 rfl ?_
      refine mp_get (v := .int (nI nc)) hx hb hts inM hown I h0__M_5 rfl 16 (by decide) (hts _ bw_347) (fun _ h9 => h9) rfl dM_mark_68 ?_
      refine lv_iconst (v := nI 1) hx hb dM_mark_71 (by decide) ?_
      refine zz_iadd hx hb dM_mark_72 ?_
      refine mp_put (v := .int (nI (nc + 1))) (ty := .int) hx hb hts inM tyM okM nmM hown I h0__M_5 rfl 16 (by decide) (hts _ bw_347) (fun _ h9 => h9) rfl (by decide +kernel) rfl rfl (Nat.le_of_ble_eq_true rfl) dM_mark_73 (fun H locs I => ?_)
      have I : mp_I D cls5 (tys6 k) s _ s.heap H locs (mp_up M_5 mo (.inr (4, [.ref el, .ref ek, .int (nI ec), .ref bg, .ref sz, .ref kn, .int (nI tc), .ref rw, .int (nI wc), .ref pp, .ref pk, .ref wd, .ref lo, .int (nI sc), .ref kp, .ref ks, .int (nI (nc + 1)), .int (nI 0)]))) := I
      have h0__M_5_n : mp_up M_5 mo (.inr (4, [.ref el, .ref ek, .int (nI ec), .ref bg, .ref sz, .ref kn, .int (nI tc), .ref rw, .int (nI wc), .ref pp, .ref pk, .ref wd, .ref lo, .int (nI sc), .ref kp, .ref ks, .int (nI (nc + 1)), .int (nI 0)])) mo = some (.inr (4, [.ref el, .ref ek, .int (nI ec), .ref bg, .ref sz, .ref kn, .int (nI tc), .ref rw, .int (nI wc), .ref pp, .ref pk, .ref wd, .ref lo, .int (nI sc), .ref kp, .ref ks, .int (nI (nc + 1)), .int (nI 0)])) := mp_up_s _ _ _
      have hel__M_5_n : mp_up M_5 mo (.inr (4, [.ref el, .ref ek, .int (nI ec), .ref bg, .ref sz, .ref kn, .int (nI tc), .ref rw, .int (nI wc), .ref pp, .ref pk, .ref wd, .ref lo, .int (nI sc), .ref kp, .ref ks, .int (nI (nc + 1)), .int (nI 0)])) el = some (.inl (k 1, 4000, .inr (.inl va))) := (mp_up_n (mp_ne hel__M_5 h0__M_5 (by simp))).trans hel__M_5
      have hek__M_5_n : mp_up M_5 mo (.inr (4, [.ref el, .ref ek, .int (nI ec), .ref bg, .ref sz, .ref kn, .int (nI tc), .ref rw, .int (nI wc), .ref pp, .ref pk, .ref wd, .ref lo, .int (nI sc), .ref kp, .ref ks, .int (nI (nc + 1)), .int (nI 0)])) ek = some (.inl (k 0, 4000, .inl (fun i_ => nI (kd i_)))) := (mp_up_n (mp_ne hek__M_5 h0__M_5 (by simp))).trans hek__M_5
      have hbg__M_5_n : mp_up M_5 mo (.inr (4, [.ref el, .ref ek, .int (nI ec), .ref bg, .ref sz, .ref kn, .int (nI tc), .ref rw, .int (nI wc), .ref pp, .ref pk, .ref wd, .ref lo, .int (nI sc), .ref kp, .ref ks, .int (nI (nc + 1)), .int (nI 0)])) bg = some (.inl (k 0, 300, .inl (fun i_ => nI (tf i_)))) := (mp_up_n (mp_ne hbg__M_5 h0__M_5 (by simp))).trans hbg__M_5
      have hsz__M_5_n : mp_up M_5 mo (.inr (4, [.ref el, .ref ek, .int (nI ec), .ref bg, .ref sz, .ref kn, .int (nI tc), .ref rw, .int (nI wc), .ref pp, .ref pk, .ref wd, .ref lo, .int (nI sc), .ref kp, .ref ks, .int (nI (nc + 1)), .int (nI 0)])) sz = some (.inl (k 0, 300, .inl (fun i_ => nI (tz i_)))) := (mp_up_n (mp_ne hsz__M_5 h0__M_5 (by simp))).trans hsz__M_5
      have hkn__M_5_n : mp_up M_5 mo (.inr (4, [.ref el, .ref ek, .int (nI ec), .ref bg, .ref sz, .ref kn, .int (nI tc), .ref rw, .int (nI wc), .ref pp, .ref pk, .ref wd, .ref lo, .int (nI sc), .ref kp, .ref ks, .int (nI (nc + 1)), .int (nI 0)])) kn = some (.inl (k 0, 300, .inl (fun i_ => nI (tk i_)))) := (mp_up_n (mp_ne hkn__M_5 h0__M_5 (by simp))).trans hkn__M_5
      have hrw__M_5_n : mp_up M_5 mo (.inr (4, [.ref el, .ref ek, .int (nI ec), .ref bg, .ref sz, .ref kn, .int (nI tc), .ref rw, .int (nI wc), .ref pp, .ref pk, .ref wd, .ref lo, .int (nI sc), .ref kp, .ref ks, .int (nI (nc + 1)), .int (nI 0)])) rw = some (.inl (k 0, 12, .inl (fun i_ => nI (wt i_)))) := (mp_up_n (mp_ne hrw__M_5 h0__M_5 (by simp))).trans hrw__M_5
      have hpp__M_5_n : mp_up M_5 mo (.inr (4, [.ref el, .ref ek, .int (nI ec), .ref bg, .ref sz, .ref kn, .int (nI tc), .ref rw, .int (nI wc), .ref pp, .ref pk, .ref wd, .ref lo, .int (nI sc), .ref kp, .ref ks, .int (nI (nc + 1)), .int (nI 0)])) pp = some (.inl (k 0, 100, .inl (fun i_ => nI (sf i_)))) := (mp_up_n (mp_ne hpp__M_5 h0__M_5 (by simp))).trans hpp__M_5
      have hpk__M_5_n : mp_up M_5 mo (.inr (4, [.ref el, .ref ek, .int (nI ec), .ref bg, .ref sz, .ref kn, .int (nI tc), .ref rw, .int (nI wc), .ref pp, .ref pk, .ref wd, .ref lo, .int (nI sc), .ref kp, .ref ks, .int (nI (nc + 1)), .int (nI 0)])) pk = some (.inl (k 0, 100, .inl (fun i_ => nI (sk i_)))) := (mp_up_n (mp_ne hpk__M_5 h0__M_5 (by simp))).trans hpk__M_5
      have hwd__M_5_n : mp_up M_5 mo (.inr (4, [.ref el, .ref ek, .int (nI ec), .ref bg, .ref sz, .ref kn, .int (nI tc), .ref rw, .int (nI wc), .ref pp, .ref pk, .ref wd, .ref lo, .int (nI sc), .ref kp, .ref ks, .int (nI (nc + 1)), .int (nI 0)])) wd = some (.inl (k 0, 100, .inl (fun i_ => nI (sw i_)))) := (mp_up_n (mp_ne hwd__M_5 h0__M_5 (by simp))).trans hwd__M_5
      have hlo__M_5_n : mp_up M_5 mo (.inr (4, [.ref el, .ref ek, .int (nI ec), .ref bg, .ref sz, .ref kn, .int (nI tc), .ref rw, .int (nI wc), .ref pp, .ref pk, .ref wd, .ref lo, .int (nI sc), .ref kp, .ref ks, .int (nI (nc + 1)), .int (nI 0)])) lo = some (.inl (k 5, 100, .inl (fun i_ => nI (ml i_)))) := (mp_up_n (mp_ne hlo__M_5 h0__M_5 (by simp))).trans hlo__M_5
      have hkp__M_5_n : mp_up M_5 mo (.inr (4, [.ref el, .ref ek, .int (nI ec), .ref bg, .ref sz, .ref kn, .int (nI tc), .ref rw, .int (nI wc), .ref pp, .ref pk, .ref wd, .ref lo, .int (nI sc), .ref kp, .ref ks, .int (nI (nc + 1)), .int (nI 0)])) kp = some (.inl (k 1, 80000, .inr (.inl (va_cpy va mk 0 (4000 * nc) ec)))) := (mp_up_n (mp_ne hkp__M_5 h0__M_5 (by simp))).trans hkp__M_5
      have hks__M_5_n : mp_up M_5 mo (.inr (4, [.ref el, .ref ek, .int (nI ec), .ref bg, .ref sz, .ref kn, .int (nI tc), .ref rw, .int (nI wc), .ref pp, .ref pk, .ref wd, .ref lo, .int (nI sc), .ref kp, .ref ks, .int (nI (nc + 1)), .int (nI 0)])) ks = some (.inl (k 0, 20, .inl (fun i_ => nI ((nu nn nc ec) i_)))) := (mp_up_n (mp_ne hks__M_5 h0__M_5 (by simp))).trans hks__M_5
      generalize eM_8 : mp_up M_5 mo (.inr (4, [.ref el, .ref ek, .int (nI ec), .ref bg, .ref sz, .ref kn, .int (nI tc), .ref rw, .int (nI wc), .ref pp, .ref pk, .ref wd, .ref lo, .int (nI sc), .ref kp, .ref ks, .int (nI (nc + 1)), .int (nI 0)])) = M_7 at I h0__M_5_n hel__M_5_n hek__M_5_n hbg__M_5_n hsz__M_5_n hkn__M_5_n hrw__M_5_n hpp__M_5_n hpk__M_5_n hwd__M_5_n hlo__M_5_n hkp__M_5_n hks__M_5_n
      have h0__M_7 := h0__M_5_n
      have hel__M_7 := hel__M_5_n
      have hek__M_7 := hek__M_5_n
      have hbg__M_7 := hbg__M_5_n
      have hsz__M_7 := hsz__M_5_n
      have hkn__M_7 := hkn__M_5_n
      have hrw__M_7 := hrw__M_5_n
      have hpp__M_7 := hpp__M_5_n
      have hpk__M_7 := hpk__M_5_n
      have hwd__M_7 := hwd__M_5_n
      have hlo__M_7 := hlo__M_5_n
      have hkp__M_7 := hkp__M_5_n
      have hks__M_7 := hks__M_5_n
      clear h0__M_5_n hel__M_5_n hek__M_5_n hbg__M_5_n hsz__M_5_n hkn__M_5_n hrw__M_5_n hpp__M_5_n hpk__M_5_n hwd__M_5_n hlo__M_5_n hkp__M_5_n hks__M_5_n
      have hE := hE.cnt ec tc wc sc (nc + 1) 0
      rw [eM_8] at hE
      refine lv_aload_n hx hb dM_mark_76 rfl (lv_at hl 1 rfl) ?_
      refine mp_get (v := .int (nI (nc + 1))) hx hb hts inM hown I h0__M_7 rfl 16 (by decide) (hts _ bw_347) (fun _ h9 => h9) rfl dM_mark_77 ?_
      refine lv_iconst (v := nI 1) hx hb dM_mark_80 (by decide) ?_
      refine zz_isub hx hb (by omega) dM_mark_81 ?_
      exact mp_iret hx hb hr hlocks I (Nat.le_of_ble_eq_true rfl) (Nat.le_of_ble_eq_true rfl) dM_mark_82 (Or.inl ⟨by omega, rfl, hE⟩)
    · refine lv_aload_n hx hb dM_mark_26 rfl (lv_at hl 1 rfl) ?_
      refine mp_get (v := .ref kp) hx hb hts inM hown I h0__L rfl 14 (by decide) (hts _ bw_345) (fun _ h9 => h9) rfl dM_mark_27 ?_
      refine lv_sipush (v := nI 4000) hx hb dM_mark_30 (by decide) ?_
      refine lv_aload_n hx hb dM_mark_33 rfl (lv_at hl 1 rfl) ?_
      refine mp_get (v := .int (nI nc)) hx hb hts inM hown I h0__L rfl 16 (by decide) (hts _ bw_347) (fun _ h9 => h9) rfl dM_mark_34 ?_
      refine zz_imul hx hb dM_mark_37 ?_
      refine lv_iload_n hx hb dM_mark_38 rfl (lv_at hl 0 rfl) ?_
      refine zz_iadd hx hb dM_mark_39 ?_
      refine lv_aload_n hx hb dM_mark_40 rfl (lv_at hl 1 rfl) ?_
      refine mp_get (v := .ref el) hx hb hts inM hown I h0__L rfl 0 (by decide) (hts _ bw_331) (fun _ h9 => h9) rfl dM_mark_41 ?_
      refine lv_iload_n hx hb dM_mark_44 rfl (lv_at hl 0 rfl) ?_
      refine mp_lald hx hb I 1 hel__L rfl i rfl (by omega) (by decide) (v := va i) rfl dM_mark_45 ?_
      refine mp_last hx hb I 1 hkp__L rfl (x := va i) (4000 * nc + i) rfl (by omega) (by decide) dM_mark_46 (fun H locs I => ?_)
      rw [mp_upup, cpy_s (by rw [Nat.zero_add])] at I
      refine lv_iinc (v := nI (i + 1)) (lv' := [(1, .int (nI (i + 1))), (0, .ref mo)]) hx hb dM_mark_47 hl (k := 0) rfl (nI_add i 1) (by decide) rfl (fun ls hl => ?_)
      refine lv_goto (tgt := 18) hx hb dM_mark_50 (by decide) ?_
      exact ih_i _ _ _ (by omega) (lv_sub hl [0, 1] rfl) I
  · refine lv_iconst (v := (-1)) hx hb dM_mark_14 (by decide) ?_
    exact mp_iret hx hb hr hlocks I (Nat.le_of_ble_eq_true rfl) (Nat.le_of_ble_eq_true rfl) dM_mark_15 (Or.inr ⟨by omega, rfl, hE⟩)
abbrev rm_M_back : Room := { frames := 1, cells := 0, slots := 0, locals := 30 }
set_option maxHeartbeats 4000000 in
set_option maxRecDepth 100000 in
theorem kM_back (l : Launch) (D : va_G) (k : Nat → ClassId) (M : mp_M) {mo el ek bg sz kn rw pp pk wd lo kp ks : Nat} {ec tc wc sc nc th : Nat} {va mk : Nat → Int64} {kd wt tk tf tz sk sf sw ml nn : Nat → Nat} (hE : MdX k M mo el ek bg sz kn rw pp pk wd lo kp ks ec tc wc sc nc th va mk kd wt tk tf tz sk sf sw ml nn) (hO : OkB ec tc wc sc nc tk tf tz sk sf sw ml nn) (x : Int32) : mp_Met l yM_back (Cond.code yM_back cM_back 4 (some .int) :: bw) rm_M_back D cls5 (tys6 k) [.ref mo, .int x] M (va_Qi (fun r M1 => ((0 ≤ x.toInt ∧ x.toInt < nc) ∧ ∃ xn : Nat, x.toInt = xn ∧ r = nI (dif va (fun t => mk (4000 * xn + t)) (nn xn)) ∧ MdX k M1 mo el ek bg sz kn rw pp pk wd lo kp ks ec tc wc sc (xn + 1) (0) (vbk va (fun t => mk (4000 * xn + t)) (nn xn)) mk kd wt tk tf tz sk sf sw ml nn) ∨ (¬ (0 ≤ x.toInt ∧ x.toInt < nc) ∧ r = -1 ∧ MdX k M1 mo el ek bg sz kn rw pp pk wd lo kp ks ec tc wc sc nc (0) va mk kd wt tk tf tz sk sf sw ml nn))) 0 0 := by
  refine mp_Met.of (by decide) (Nat.le_of_ble_eq_true rfl) ?_
  intro p e s m below meth c hx hb hr hml hown hts hlocks hin ls hl I
  have hl : lv_has ls 4 [(0, .ref mo), (1, .int x)] := hl
  obtain ⟨h0, hel, hek, hbg, hsz, hkn, hrw, hpp, hpk, hwd, hlo, hkp, hks, n_bg_sz, n_bg_kn, n_sz_kn, n_pp_pk, n_pp_wd, n_pk_wd, n_pp_lo, n_pk_lo, n_wd_lo⟩ := id hE
  obtain ⟨b1, b2, b3, b4, b5, bT, bS, bN⟩ := id hO
  refine lv_aload_n hx hb dM_back_0 rfl (lv_at hl 0 rfl) ?_
  refine lv_iconst (v := nI 0) hx hb dM_back_1 (by decide) ?_
  refine mp_put (v := .int (nI 0)) (ty := .int) hx hb hts inM tyM okM nmM hown I h0 rfl 17 (by decide) (hts _ bw_348) (fun _ h9 => h9) rfl (by decide +kernel) rfl rfl (Nat.le_of_ble_eq_true rfl) dM_back_2 (fun H locs I => ?_)
  have I : mp_I D cls5 (tys6 k) s _ s.heap H locs (mp_up M mo (.inr (4, [.ref el, .ref ek, .int (nI ec), .ref bg, .ref sz, .ref kn, .int (nI tc), .ref rw, .int (nI wc), .ref pp, .ref pk, .ref wd, .ref lo, .int (nI sc), .ref kp, .ref ks, .int (nI nc), .int (nI 0)]))) := I
  have h0_n : mp_up M mo (.inr (4, [.ref el, .ref ek, .int (nI ec), .ref bg, .ref sz, .ref kn, .int (nI tc), .ref rw, .int (nI wc), .ref pp, .ref pk, .ref wd, .ref lo, .int (nI sc), .ref kp, .ref ks, .int (nI nc), .int (nI 0)])) mo = some (.inr (4, [.ref el, .ref ek, .int (nI ec), .ref bg, .ref sz, .ref kn, .int (nI tc), .ref rw, .int (nI wc), .ref pp, .ref pk, .ref wd, .ref lo, .int (nI sc), .ref kp, .ref ks, .int (nI nc), .int (nI 0)])) := mp_up_s _ _ _
  have hel_n : mp_up M mo (.inr (4, [.ref el, .ref ek, .int (nI ec), .ref bg, .ref sz, .ref kn, .int (nI tc), .ref rw, .int (nI wc), .ref pp, .ref pk, .ref wd, .ref lo, .int (nI sc), .ref kp, .ref ks, .int (nI nc), .int (nI 0)])) el = some (.inl (k 1, 4000, .inr (.inl va))) := (mp_up_n (mp_ne hel h0 (by simp))).trans hel
  have hek_n : mp_up M mo (.inr (4, [.ref el, .ref ek, .int (nI ec), .ref bg, .ref sz, .ref kn, .int (nI tc), .ref rw, .int (nI wc), .ref pp, .ref pk, .ref wd, .ref lo, .int (nI sc), .ref kp, .ref ks, .int (nI nc), .int (nI 0)])) ek = some (.inl (k 0, 4000, .inl (fun i_ => nI (kd i_)))) := (mp_up_n (mp_ne hek h0 (by simp))).trans hek
  have hbg_n : mp_up M mo (.inr (4, [.ref el, .ref ek, .int (nI ec), .ref bg, .ref sz, .ref kn, .int (nI tc), .ref rw, .int (nI wc), .ref pp, .ref pk, .ref wd, .ref lo, .int (nI sc), .ref kp, .ref ks, .int (nI nc), .int (nI 0)])) bg = some (.inl (k 0, 300, .inl (fun i_ => nI (tf i_)))) := (mp_up_n (mp_ne hbg h0 (by simp))).trans hbg
  have hsz_n : mp_up M mo (.inr (4, [.ref el, .ref ek, .int (nI ec), .ref bg, .ref sz, .ref kn, .int (nI tc), .ref rw, .int (nI wc), .ref pp, .ref pk, .ref wd, .ref lo, .int (nI sc), .ref kp, .ref ks, .int (nI nc), .int (nI 0)])) sz = some (.inl (k 0, 300, .inl (fun i_ => nI (tz i_)))) := (mp_up_n (mp_ne hsz h0 (by simp))).trans hsz
  have hkn_n : mp_up M mo (.inr (4, [.ref el, .ref ek, .int (nI ec), .ref bg, .ref sz, .ref kn, .int (nI tc), .ref rw, .int (nI wc), .ref pp, .ref pk, .ref wd, .ref lo, .int (nI sc), .ref kp, .ref ks, .int (nI nc), .int (nI 0)])) kn = some (.inl (k 0, 300, .inl (fun i_ => nI (tk i_)))) := (mp_up_n (mp_ne hkn h0 (by simp))).trans hkn
  have hrw_n : mp_up M mo (.inr (4, [.ref el, .ref ek, .int (nI ec), .ref bg, .ref sz, .ref kn, .int (nI tc), .ref rw, .int (nI wc), .ref pp, .ref pk, .ref wd, .ref lo, .int (nI sc), .ref kp, .ref ks, .int (nI nc), .int (nI 0)])) rw = some (.inl (k 0, 12, .inl (fun i_ => nI (wt i_)))) := (mp_up_n (mp_ne hrw h0 (by simp))).trans hrw
  have hpp_n : mp_up M mo (.inr (4, [.ref el, .ref ek, .int (nI ec), .ref bg, .ref sz, .ref kn, .int (nI tc), .ref rw, .int (nI wc), .ref pp, .ref pk, .ref wd, .ref lo, .int (nI sc), .ref kp, .ref ks, .int (nI nc), .int (nI 0)])) pp = some (.inl (k 0, 100, .inl (fun i_ => nI (sf i_)))) := (mp_up_n (mp_ne hpp h0 (by simp))).trans hpp
  have hpk_n : mp_up M mo (.inr (4, [.ref el, .ref ek, .int (nI ec), .ref bg, .ref sz, .ref kn, .int (nI tc), .ref rw, .int (nI wc), .ref pp, .ref pk, .ref wd, .ref lo, .int (nI sc), .ref kp, .ref ks, .int (nI nc), .int (nI 0)])) pk = some (.inl (k 0, 100, .inl (fun i_ => nI (sk i_)))) := (mp_up_n (mp_ne hpk h0 (by simp))).trans hpk
  have hwd_n : mp_up M mo (.inr (4, [.ref el, .ref ek, .int (nI ec), .ref bg, .ref sz, .ref kn, .int (nI tc), .ref rw, .int (nI wc), .ref pp, .ref pk, .ref wd, .ref lo, .int (nI sc), .ref kp, .ref ks, .int (nI nc), .int (nI 0)])) wd = some (.inl (k 0, 100, .inl (fun i_ => nI (sw i_)))) := (mp_up_n (mp_ne hwd h0 (by simp))).trans hwd
  have hlo_n : mp_up M mo (.inr (4, [.ref el, .ref ek, .int (nI ec), .ref bg, .ref sz, .ref kn, .int (nI tc), .ref rw, .int (nI wc), .ref pp, .ref pk, .ref wd, .ref lo, .int (nI sc), .ref kp, .ref ks, .int (nI nc), .int (nI 0)])) lo = some (.inl (k 5, 100, .inl (fun i_ => nI (ml i_)))) := (mp_up_n (mp_ne hlo h0 (by simp))).trans hlo
  have hkp_n : mp_up M mo (.inr (4, [.ref el, .ref ek, .int (nI ec), .ref bg, .ref sz, .ref kn, .int (nI tc), .ref rw, .int (nI wc), .ref pp, .ref pk, .ref wd, .ref lo, .int (nI sc), .ref kp, .ref ks, .int (nI nc), .int (nI 0)])) kp = some (.inl (k 1, 80000, .inr (.inl mk))) := (mp_up_n (mp_ne hkp h0 (by simp))).trans hkp
  have hks_n : mp_up M mo (.inr (4, [.ref el, .ref ek, .int (nI ec), .ref bg, .ref sz, .ref kn, .int (nI tc), .ref rw, .int (nI wc), .ref pp, .ref pk, .ref wd, .ref lo, .int (nI sc), .ref kp, .ref ks, .int (nI nc), .int (nI 0)])) ks = some (.inl (k 0, 20, .inl (fun i_ => nI (nn i_)))) := (mp_up_n (mp_ne hks h0 (by simp))).trans hks
  generalize eM_2 : mp_up M mo (.inr (4, [.ref el, .ref ek, .int (nI ec), .ref bg, .ref sz, .ref kn, .int (nI tc), .ref rw, .int (nI wc), .ref pp, .ref pk, .ref wd, .ref lo, .int (nI sc), .ref kp, .ref ks, .int (nI nc), .int (nI 0)])) = M_1 at I h0_n hel_n hek_n hbg_n hsz_n hkn_n hrw_n hpp_n hpk_n hwd_n hlo_n hkp_n hks_n
  have h0__M_1 := h0_n
  have hel__M_1 := hel_n
  have hek__M_1 := hek_n
  have hbg__M_1 := hbg_n
  have hsz__M_1 := hsz_n
  have hkn__M_1 := hkn_n
  have hrw__M_1 := hrw_n
  have hpp__M_1 := hpp_n
  have hpk__M_1 := hpk_n
  have hwd__M_1 := hwd_n
  have hlo__M_1 := hlo_n
  have hkp__M_1 := hkp_n
  have hks__M_1 := hks_n
  clear h0_n hel_n hek_n hbg_n hsz_n hkn_n hrw_n hpp_n hpk_n hwd_n hlo_n hkp_n hks_n
  have hE := hE.cnt ec tc wc sc nc 0
  rw [eM_2] at hE
  refine lv_iload_n hx hb dM_back_5 rfl (lv_at hl 1 rfl) ?_
  refine zz_if_lt (tgt := 17) hx hb rfl dM_back_6 (by decide) (fun c_3 => ?_) (fun c_3 => ?_)
  · refine lv_iconst (v := (-1)) hx hb dM_back_17 (by decide) ?_
    exact mp_iret hx hb hr hlocks I (Nat.le_of_ble_eq_true rfl) (Nat.le_of_ble_eq_true rfl) dM_back_18 (Or.inr ⟨by omega, rfl, hE⟩)
  · refine lv_iload_n hx hb dM_back_9 rfl (lv_at hl 1 rfl) ?_
    refine lv_aload_n hx hb dM_back_10 rfl (lv_at hl 0 rfl) ?_
    refine mp_get (v := .int (nI nc)) hx hb hts inM hown I h0__M_1 rfl 16 (by decide) (hts _ bw_347) (fun _ h9 => h9) rfl dM_back_11 ?_
    refine zz_icmp_lt (tgt := 19) hx hb rfl (nI_toInt (by first | assumption | omega)) dM_back_14 (by decide) (fun c_4 => ?_) (fun c_4 => ?_)
    · obtain ⟨xn, hn_xn, rfl, hz_xn⟩ := i32_nat (x := x) (by omega)
      have hNj := bN xn (by omega)
      refine lv_aload_n hx hb dM_back_19 rfl (lv_at hl 0 rfl) ?_
      refine lv_iload_n hx hb dM_back_20 rfl (lv_at hl 1 rfl) ?_
      refine mp_calli (va_runV (As := [.int (nI xn)]) (rest := []) ⟨hx, hb, hml, hown, hts⟩ (kM_differ l D k M_1 hE hO xn (by omega) _) (cwV 1 hts (bw_V bw_476 bw_478 bs_18 bw_2 bw_479) rfl rfl rfl (by decide +kernel) ⟨Nat.le_of_ble_eq_true rfl, Nat.le_of_ble_eq_true rfl⟩) (mp_preV I h0__M_1 rfl _) rfl rfl hl.1 rfl (lv_room (Nat.le_of_ble_eq_true rfl)) dM_back_21 ⟨Nat.le_of_ble_eq_true rfl, Nat.le_of_ble_eq_true rfl⟩) I (fun r1 N1 H locs hp I => ?_)
      obtain ⟨e_5, hp⟩ := hp
      rw [e_5] at I
      subst hp
      refine lv_istore_n (lv' := [(2, .int (nI (dif va (fun t => mk (4000 * xn + t)) (nn xn)))), (0, .ref mo), (1, .int (nI xn))]) hx hb dM_back_24 rfl hl (by decide) rfl (fun ls hl => ?_)
      refine lv_iconst (v := nI 0) hx hb dM_back_25 (by decide) ?_
      refine lv_istore_n (lv' := [(3, .int (nI 0)), (2, .int (nI (dif va (fun t => mk (4000 * xn + t)) (nn xn)))), (0, .ref mo), (1, .int (nI xn))]) hx hb dM_back_26 rfl hl (by decide) rfl (fun ls hl => ?_)
      have I := I.to (show M_1 = mp_up M_1 el (.inl (k 1, 4000, .inr (.inl (vbk va (fun t => mk (4000 * xn + t)) 0)))) by rw [vbk_0, mp_upself hel__M_1])
      refine mp_loop (nn xn) 4 (fun i => [(3, .int (nI i)), (2, .int (nI (dif va (fun t => mk (4000 * xn + t)) (nn xn)))), (0, .ref mo), (1, .int (nI xn))]) (fun i => mp_up M_1 el (.inl (k 1, 4000, .inr (.inl (vbk va (fun t => mk (4000 * xn + t)) i))))) 0 (by omega) (lv_sub hl [0, 1, 2, 3] rfl) I ?_
      intro i H locs ls hi0_i hi_i hl I ih_i
      have hl : lv_has ls 4 [(3, .int (nI i)), (2, .int (nI (dif va (fun t => mk (4000 * xn + t)) (nn xn)))), (0, .ref mo), (1, .int (nI xn))] := hl
      have I : mp_I D cls5 (tys6 k) s _ s.heap H locs (mp_up M_1 el (.inl (k 1, 4000, .inr (.inl (vbk va (fun t => mk (4000 * xn + t)) i))))) := I
      have h0__L : mp_up M_1 el (.inl (k 1, 4000, .inr (.inl (vbk va (fun t => mk (4000 * xn + t)) i)))) mo = some (.inr (4, [.ref el, .ref ek, .int (nI ec), .ref bg, .ref sz, .ref kn, .int (nI tc), .ref rw, .int (nI wc), .ref pp, .ref pk, .ref wd, .ref lo, .int (nI sc), .ref kp, .ref ks, .int (nI nc), .int (nI 0)])) := (mp_up_n (mp_ne h0__M_1 hel__M_1 (by simp))).trans h0__M_1
      have hel__L : mp_up M_1 el (.inl (k 1, 4000, .inr (.inl (vbk va (fun t => mk (4000 * xn + t)) i)))) el = some (.inl (k 1, 4000, .inr (.inl (vbk va (fun t => mk (4000 * xn + t)) i)))) := mp_up_s _ _ _
      have hek__L : mp_up M_1 el (.inl (k 1, 4000, .inr (.inl (vbk va (fun t => mk (4000 * xn + t)) i)))) ek = some (.inl (k 0, 4000, .inl (fun i_ => nI (kd i_)))) := (mp_up_n (mp_ne hek__M_1 hel__M_1 (by simp))).trans hek__M_1
      have hbg__L : mp_up M_1 el (.inl (k 1, 4000, .inr (.inl (vbk va (fun t => mk (4000 * xn + t)) i)))) bg = some (.inl (k 0, 300, .inl (fun i_ => nI (tf i_)))) := (mp_up_n (mp_ne hbg__M_1 hel__M_1 (by simp))).trans hbg__M_1
      have hsz__L : mp_up M_1 el (.inl (k 1, 4000, .inr (.inl (vbk va (fun t => mk (4000 * xn + t)) i)))) sz = some (.inl (k 0, 300, .inl (fun i_ => nI (tz i_)))) := (mp_up_n (mp_ne hsz__M_1 hel__M_1 (by simp))).trans hsz__M_1
      have hkn__L : mp_up M_1 el (.inl (k 1, 4000, .inr (.inl (vbk va (fun t => mk (4000 * xn + t)) i)))) kn = some (.inl (k 0, 300, .inl (fun i_ => nI (tk i_)))) := (mp_up_n (mp_ne hkn__M_1 hel__M_1 (by simp))).trans hkn__M_1
      have hrw__L : mp_up M_1 el (.inl (k 1, 4000, .inr (.inl (vbk va (fun t => mk (4000 * xn + t)) i)))) rw = some (.inl (k 0, 12, .inl (fun i_ => nI (wt i_)))) := (mp_up_n (mp_ne hrw__M_1 hel__M_1 (by simp))).trans hrw__M_1
      have hpp__L : mp_up M_1 el (.inl (k 1, 4000, .inr (.inl (vbk va (fun t => mk (4000 * xn + t)) i)))) pp = some (.inl (k 0, 100, .inl (fun i_ => nI (sf i_)))) := (mp_up_n (mp_ne hpp__M_1 hel__M_1 (by simp))).trans hpp__M_1
      have hpk__L : mp_up M_1 el (.inl (k 1, 4000, .inr (.inl (vbk va (fun t => mk (4000 * xn + t)) i)))) pk = some (.inl (k 0, 100, .inl (fun i_ => nI (sk i_)))) := (mp_up_n (mp_ne hpk__M_1 hel__M_1 (by simp))).trans hpk__M_1
      have hwd__L : mp_up M_1 el (.inl (k 1, 4000, .inr (.inl (vbk va (fun t => mk (4000 * xn + t)) i)))) wd = some (.inl (k 0, 100, .inl (fun i_ => nI (sw i_)))) := (mp_up_n (mp_ne hwd__M_1 hel__M_1 (by simp))).trans hwd__M_1
      have hlo__L : mp_up M_1 el (.inl (k 1, 4000, .inr (.inl (vbk va (fun t => mk (4000 * xn + t)) i)))) lo = some (.inl (k 5, 100, .inl (fun i_ => nI (ml i_)))) := (mp_up_n (mp_ne hlo__M_1 hel__M_1 (by simp))).trans hlo__M_1
      have hkp__L : mp_up M_1 el (.inl (k 1, 4000, .inr (.inl (vbk va (fun t => mk (4000 * xn + t)) i)))) kp = some (.inl (k 1, 80000, .inr (.inl mk))) := (mp_up_n (mp_ne hkp__M_1 hel__M_1 (by simp))).trans hkp__M_1
      have hks__L : mp_up M_1 el (.inl (k 1, 4000, .inr (.inl (vbk va (fun t => mk (4000 * xn + t)) i)))) ks = some (.inl (k 0, 20, .inl (fun i_ => nI (nn i_)))) := (mp_up_n (mp_ne hks__M_1 hel__M_1 (by simp))).trans hks__M_1
      refine lv_iload_n hx hb dM_back_27 rfl (lv_at hl 0 rfl) ?_
      refine lv_aload_n hx hb dM_back_28 rfl (lv_at hl 2 rfl) ?_
      refine mp_get (v := .ref ks) hx hb hts inM hown I h0__L rfl 15 (by decide) (hts _ bw_346) (fun _ h9 => h9) rfl dM_back_29 ?_
      refine lv_iload_n hx hb dM_back_32 rfl (lv_at hl 3 rfl) ?_
      refine mp_iald hx hb I 0 hks__L rfl xn rfl (by omega) (by decide) (v := nI (nn xn)) rfl dM_back_33 ?_
      refine zz_icmp_ge (tgt := 61) hx hb (nI_toInt (by first | assumption | omega)) (nI_toInt (by first | assumption | omega)) dM_back_34 (by decide) (fun c_6 => ?_) (fun c_6 => ?_)
      · have hiw : i = nn xn := by omega
        rw [hiw] at I
        have hE := hE.set_el (vbk va (fun t => mk (4000 * xn + t)) (nn xn))
        generalize eMv : mp_up M_1 el (.inl (k 1, 4000, .inr (.inl (vbk va (fun t => mk (4000 * xn + t)) (nn xn))))) = Mv at I hE
        clear h0__L hel__L hek__L hbg__L hsz__L hkn__L hrw__L hpp__L hpk__L hwd__L hlo__L hkp__L hks__L
        obtain ⟨h0, hel, hek, hbg, hsz, hkn, hrw, hpp, hpk, hwd, hlo, hkp, hks, n_bg_sz, n_bg_kn, n_sz_kn, n_pp_pk, n_pp_wd, n_pk_wd, n_pp_lo, n_pk_lo, n_wd_lo⟩ := id hE
        refine lv_aload_n hx hb dM_back_61 rfl (lv_at hl 2 rfl) ?_
        refine lv_iload_n hx hb dM_back_62 rfl (lv_at hl 3 rfl) ?_
        refine lv_iconst (v := nI 1) hx hb dM_back_63 (by decide) ?_
        refine zz_iadd hx hb dM_back_64 ?_
        refine mp_put (v := .int (nI (xn + 1))) (ty := .int) hx hb hts inM tyM okM nmM hown I h0 rfl 16 (by decide) (hts _ bw_347) (fun _ h9 => h9) rfl (by decide +kernel) rfl rfl (Nat.le_of_ble_eq_true rfl) dM_back_65 (fun H locs I => ?_)
        have I : mp_I D cls5 (tys6 k) s _ s.heap H locs (mp_up Mv mo (.inr (4, [.ref el, .ref ek, .int (nI ec), .ref bg, .ref sz, .ref kn, .int (nI tc), .ref rw, .int (nI wc), .ref pp, .ref pk, .ref wd, .ref lo, .int (nI sc), .ref kp, .ref ks, .int (nI (xn + 1)), .int (nI 0)]))) := I
        have h0_n : mp_up Mv mo (.inr (4, [.ref el, .ref ek, .int (nI ec), .ref bg, .ref sz, .ref kn, .int (nI tc), .ref rw, .int (nI wc), .ref pp, .ref pk, .ref wd, .ref lo, .int (nI sc), .ref kp, .ref ks, .int (nI (xn + 1)), .int (nI 0)])) mo = some (.inr (4, [.ref el, .ref ek, .int (nI ec), .ref bg, .ref sz, .ref kn, .int (nI tc), .ref rw, .int (nI wc), .ref pp, .ref pk, .ref wd, .ref lo, .int (nI sc), .ref kp, .ref ks, .int (nI (xn + 1)), .int (nI 0)])) := mp_up_s _ _ _
        have hel_n : mp_up Mv mo (.inr (4, [.ref el, .ref ek, .int (nI ec), .ref bg, .ref sz, .ref kn, .int (nI tc), .ref rw, .int (nI wc), .ref pp, .ref pk, .ref wd, .ref lo, .int (nI sc), .ref kp, .ref ks, .int (nI (xn + 1)), .int (nI 0)])) el = some (.inl (k 1, 4000, .inr (.inl (vbk va (fun t => mk (4000 * xn + t)) (nn xn))))) := (mp_up_n (mp_ne hel h0 (by simp))).trans hel
        have hek_n : mp_up Mv mo (.inr (4, [.ref el, .ref ek, .int (nI ec), .ref bg, .ref sz, .ref kn, .int (nI tc), .ref rw, .int (nI wc), .ref pp, .ref pk, .ref wd, .ref lo, .int (nI sc), .ref kp, .ref ks, .int (nI (xn + 1)), .int (nI 0)])) ek = some (.inl (k 0, 4000, .inl (fun i_ => nI (kd i_)))) := (mp_up_n (mp_ne hek h0 (by simp))).trans hek
        have hbg_n : mp_up Mv mo (.inr (4, [.ref el, .ref ek, .int (nI ec), .ref bg, .ref sz, .ref kn, .int (nI tc), .ref rw, .int (nI wc), .ref pp, .ref pk, .ref wd, .ref lo, .int (nI sc), .ref kp, .ref ks, .int (nI (xn + 1)), .int (nI 0)])) bg = some (.inl (k 0, 300, .inl (fun i_ => nI (tf i_)))) := (mp_up_n (mp_ne hbg h0 (by simp))).trans hbg
        have hsz_n : mp_up Mv mo (.inr (4, [.ref el, .ref ek, .int (nI ec), .ref bg, .ref sz, .ref kn, .int (nI tc), .ref rw, .int (nI wc), .ref pp, .ref pk, .ref wd, .ref lo, .int (nI sc), .ref kp, .ref ks, .int (nI (xn + 1)), .int (nI 0)])) sz = some (.inl (k 0, 300, .inl (fun i_ => nI (tz i_)))) := (mp_up_n (mp_ne hsz h0 (by simp))).trans hsz
        have hkn_n : mp_up Mv mo (.inr (4, [.ref el, .ref ek, .int (nI ec), .ref bg, .ref sz, .ref kn, .int (nI tc), .ref rw, .int (nI wc), .ref pp, .ref pk, .ref wd, .ref lo, .int (nI sc), .ref kp, .ref ks, .int (nI (xn + 1)), .int (nI 0)])) kn = some (.inl (k 0, 300, .inl (fun i_ => nI (tk i_)))) := (mp_up_n (mp_ne hkn h0 (by simp))).trans hkn
        have hrw_n : mp_up Mv mo (.inr (4, [.ref el, .ref ek, .int (nI ec), .ref bg, .ref sz, .ref kn, .int (nI tc), .ref rw, .int (nI wc), .ref pp, .ref pk, .ref wd, .ref lo, .int (nI sc), .ref kp, .ref ks, .int (nI (xn + 1)), .int (nI 0)])) rw = some (.inl (k 0, 12, .inl (fun i_ => nI (wt i_)))) := (mp_up_n (mp_ne hrw h0 (by simp))).trans hrw
        have hpp_n : mp_up Mv mo (.inr (4, [.ref el, .ref ek, .int (nI ec), .ref bg, .ref sz, .ref kn, .int (nI tc), .ref rw, .int (nI wc), .ref pp, .ref pk, .ref wd, .ref lo, .int (nI sc), .ref kp, .ref ks, .int (nI (xn + 1)), .int (nI 0)])) pp = some (.inl (k 0, 100, .inl (fun i_ => nI (sf i_)))) := (mp_up_n (mp_ne hpp h0 (by simp))).trans hpp
        have hpk_n : mp_up Mv mo (.inr (4, [.ref el, .ref ek, .int (nI ec), .ref bg, .ref sz, .ref kn, .int (nI tc), .ref rw, .int (nI wc), .ref pp, .ref pk, .ref wd, .ref lo, .int (nI sc), .ref kp, .ref ks, .int (nI (xn + 1)), .int (nI 0)])) pk = some (.inl (k 0, 100, .inl (fun i_ => nI (sk i_)))) := (mp_up_n (mp_ne hpk h0 (by simp))).trans hpk
        have hwd_n : mp_up Mv mo (.inr (4, [.ref el, .ref ek, .int (nI ec), .ref bg, .ref sz, .ref kn, .int (nI tc), .ref rw, .int (nI wc), .ref pp, .ref pk, .ref wd, .ref lo, .int (nI sc), .ref kp, .ref ks, .int (nI (xn + 1)), .int (nI 0)])) wd = some (.inl (k 0, 100, .inl (fun i_ => nI (sw i_)))) := (mp_up_n (mp_ne hwd h0 (by simp))).trans hwd
        have hlo_n : mp_up Mv mo (.inr (4, [.ref el, .ref ek, .int (nI ec), .ref bg, .ref sz, .ref kn, .int (nI tc), .ref rw, .int (nI wc), .ref pp, .ref pk, .ref wd, .ref lo, .int (nI sc), .ref kp, .ref ks, .int (nI (xn + 1)), .int (nI 0)])) lo = some (.inl (k 5, 100, .inl (fun i_ => nI (ml i_)))) := (mp_up_n (mp_ne hlo h0 (by simp))).trans hlo
        have hkp_n : mp_up Mv mo (.inr (4, [.ref el, .ref ek, .int (nI ec), .ref bg, .ref sz, .ref kn, .int (nI tc), .ref rw, .int (nI wc), .ref pp, .ref pk, .ref wd, .ref lo, .int (nI sc), .ref kp, .ref ks, .int (nI (xn + 1)), .int (nI 0)])) kp = some (.inl (k 1, 80000, .inr (.inl mk))) := (mp_up_n (mp_ne hkp h0 (by simp))).trans hkp
        have hks_n : mp_up Mv mo (.inr (4, [.ref el, .ref ek, .int (nI ec), .ref bg, .ref sz, .ref kn, .int (nI tc), .ref rw, .int (nI wc), .ref pp, .ref pk, .ref wd, .ref lo, .int (nI sc), .ref kp, .ref ks, .int (nI (xn + 1)), .int (nI 0)])) ks = some (.inl (k 0, 20, .inl (fun i_ => nI (nn i_)))) := (mp_up_n (mp_ne hks h0 (by simp))).trans hks
        generalize eM_8 : mp_up Mv mo (.inr (4, [.ref el, .ref ek, .int (nI ec), .ref bg, .ref sz, .ref kn, .int (nI tc), .ref rw, .int (nI wc), .ref pp, .ref pk, .ref wd, .ref lo, .int (nI sc), .ref kp, .ref ks, .int (nI (xn + 1)), .int (nI 0)])) = M_7 at I h0_n hel_n hek_n hbg_n hsz_n hkn_n hrw_n hpp_n hpk_n hwd_n hlo_n hkp_n hks_n
        have h0__M_7 := h0_n
        have hel__M_7 := hel_n
        have hek__M_7 := hek_n
        have hbg__M_7 := hbg_n
        have hsz__M_7 := hsz_n
        have hkn__M_7 := hkn_n
        have hrw__M_7 := hrw_n
        have hpp__M_7 := hpp_n
        have hpk__M_7 := hpk_n
        have hwd__M_7 := hwd_n
        have hlo__M_7 := hlo_n
        have hkp__M_7 := hkp_n
        have hks__M_7 := hks_n
        clear h0_n hel_n hek_n hbg_n hsz_n hkn_n hrw_n hpp_n hpk_n hwd_n hlo_n hkp_n hks_n
        have hE := hE.cnt ec tc wc sc (xn + 1) 0
        rw [eM_8] at hE
        refine lv_iload_n hx hb dM_back_68 rfl (lv_at hl 1 rfl) ?_
        exact mp_iret hx hb hr hlocks I (Nat.le_of_ble_eq_true rfl) (Nat.le_of_ble_eq_true rfl) dM_back_69 (Or.inl ⟨by omega, xn, hz_xn, rfl, hE⟩)
      · refine lv_aload_n hx hb dM_back_37 rfl (lv_at hl 2 rfl) ?_
        refine mp_get (v := .ref el) hx hb hts inM hown I h0__L rfl 0 (by decide) (hts _ bw_331) (fun _ h9 => h9) rfl dM_back_38 ?_
        refine lv_iload_n hx hb dM_back_41 rfl (lv_at hl 0 rfl) ?_
        refine lv_aload_n hx hb dM_back_42 rfl (lv_at hl 2 rfl) ?_
        refine mp_get (v := .ref kp) hx hb hts inM hown I h0__L rfl 14 (by decide) (hts _ bw_345) (fun _ h9 => h9) rfl dM_back_43 ?_
        refine lv_sipush (v := nI 4000) hx hb dM_back_46 (by decide) ?_
        refine lv_iload_n hx hb dM_back_49 rfl (lv_at hl 3 rfl) ?_
        refine zz_imul hx hb dM_back_50 ?_
        refine lv_iload_n hx hb dM_back_51 rfl (lv_at hl 0 rfl) ?_
        refine zz_iadd hx hb dM_back_52 ?_
        refine mp_lald hx hb I 1 hkp__L rfl (4000 * xn + i) rfl (by omega) (by decide) (v := mk (4000 * xn + i)) rfl dM_back_53 ?_
        refine mp_last hx hb I 1 hel__L rfl (x := mk (4000 * xn + i)) i rfl (by omega) (by decide) dM_back_54 (fun H locs I => ?_)
        rw [mp_upup, show vp_updL (vbk va (fun t => mk (4000 * xn + t)) i) i (mk (4000 * xn + i)) = vbk va (fun t => mk (4000 * xn + t)) (i + 1) from vbk_s] at I
        refine lv_iinc (v := nI (i + 1)) (lv' := [(3, .int (nI (i + 1))), (2, .int (nI (dif va (fun t => mk (4000 * xn + t)) (nn xn)))), (0, .ref mo), (1, .int (nI xn))]) hx hb dM_back_55 hl (k := 0) rfl (nI_add i 1) (by decide) rfl (fun ls hl => ?_)
        refine lv_goto (tgt := 27) hx hb dM_back_58 (by decide) ?_
        exact ih_i _ _ _ (by omega) (lv_sub hl [0, 1, 2, 3] rfl) I
    · refine lv_iconst (v := (-1)) hx hb dM_back_17 (by decide) ?_
      exact mp_iret hx hb hr hlocks I (Nat.le_of_ble_eq_true rfl) (Nat.le_of_ble_eq_true rfl) dM_back_18 (Or.inr ⟨by omega, rfl, hE⟩)
