theorem sh_r (x D : Int64) (d : Nat) (hD : (D.toBitVec.smod 64).toNat = d) : (x >>> D).toInt = x.toInt >>> d := by
  rw [← hD]
  exact BitVec.toInt_sshiftRight ..
theorem shv_int (v : Int64) : ∀ i : Nat, (shv v i).toInt = v.toInt >>> (8 * i)
  | 0 => (Int.shiftRight_zero _).symm
  | i + 1 => by
    show (shv v i >>> ((nI 8).toInt64 &&& 63)).toInt = _
    rw [sh_r _ _ 8 (by decide +kernel), shv_int v i, ← Int.shiftRight_add]
    rfl
theorem sh_am : ∀ i, i < 8 → (((nI (8 * i)).toInt64 &&& 63).toBitVec.smod 64).toNat = 8 * i := by decide +kernel
theorem shv_eq (v : Int64) {i : Nat} (h : i < 8) : v >>> ((nI (8 * i)).toInt64 &&& 63) = shv v i :=
  Int64.toInt_inj.mp (by rw [shv_int, sh_r _ _ _ (sh_am i h)])
theorem lb1_iff (v : Int64) : lb 1 v = v ↔ v = 0 ∨ v = 1 := by
  constructor
  · intro h
    have h2 : (v &&& 1).toBitVec.toNat = v.toBitVec.toNat := by rw [show v &&& 1 = v from h]
    rw [Int64.toBitVec_and, BitVec.toNat_and, show (1 : Int64).toBitVec.toNat = 1 from rfl, Nat.and_one_is_mod] at h2
    have h3 : v.toBitVec.toNat = 0 ∨ v.toBitVec.toNat = 1 := by omega
    rcases h3 with h3 | h3
    · exact Or.inl (Int64.toBitVec_inj.mp (BitVec.eq_of_toNat_eq h3))
    · exact Or.inr (Int64.toBitVec_inj.mp (BitVec.eq_of_toNat_eq h3))
  · intro h
    rcases h with h | h <;> rw [h] <;> rfl
/-- kinds that a new object brings -/
def kno (x : Nat) (wt kd : Nat → Nat) (e i : Nat) : Nat → Nat := fun j => if e ≤ j ∧ j < e + i then (if x = 0 then wt (j - e) else x) else kd j
theorem kno_0 (x : Nat) (wt kd : Nat → Nat) (e : Nat) : kno x wt kd e 0 = kd := by
  funext j
  unfold kno
  rw [if_neg (by omega)]
theorem kno_s {x : Nat} {wt kd : Nat → Nat} {e i v : Nat} (hv : v = if x = 0 then wt i else x) : nu (kno x wt kd e i) (e + i) v = kno x wt kd e (i + 1) := by
  funext j
  unfold nu kno
  by_cases hj : j = e + i
  · rw [if_pos hj, if_pos (show e ≤ j ∧ j < e + (i + 1) by omega), hv, show j - e = i by omega]
  · rw [if_neg hj]
    by_cases h2 : e ≤ j ∧ j < e + i
    · rw [if_pos h2, if_pos (show e ≤ j ∧ j < e + (i + 1) by omega)]
    · rw [if_neg h2, if_neg (show ¬ (e ≤ j ∧ j < e + (i + 1)) by omega)]
theorem kno_k {x : Nat} (hx : x ≠ 0) (wt kd : Nat → Nat) (e n : Nat) : kno x wt kd e n = kfl kd e n x := by
  funext j
  unfold kno kfl
  rw [if_neg hx]
theorem kno_c (wt kd : Nat → Nat) (e n : Nat) : kno 0 wt kd e n = va_cpy wt kd 0 e n := by
  funext j
  unfold kno va_cpy
  rw [if_pos rfl, Nat.zero_add]
theorem kno_le {x : Nat} {wt kd : Nat → Nat} {e i j : Nat} (hx : x ≤ 7) (hw : x = 0 → ∀ q, q < i → wt q ≤ 7) (hk : ∀ q, q < e → kd q ≤ 7) (hj : j < e + i) : kno x wt kd e i j ≤ 7 := by
  unfold kno
  split
  · split
    · exact hw (by assumption) _ (by omega)
    · exact hx
  · exact hk j (by omega)
theorem vin_k {va : Nat → Int64} {x : Nat} {wt kd : Nat → Nat} {e i : Nat} {v : Int64} (hv : v = if kno x wt kd e (i + 1) (e + i) = 7 then -1 else 0) : vp_updL (vin va (kno x wt kd e i) e (e + i)) (e + i) v = vin va (kno x wt kd e (i + 1)) e (e + (i + 1)) := by
  have h1 : vin va (kno x wt kd e i) e (e + i) = vin va (kno x wt kd e (i + 1)) e (e + i) := by
    funext j
    unfold vin
    by_cases h2 : e ≤ j ∧ j < e + i
    · rw [if_pos h2, if_pos h2]
      have h3 : kno x wt kd e i j = kno x wt kd e (i + 1) j := by
        unfold kno
        rw [if_pos h2, if_pos (show e ≤ j ∧ j < e + (i + 1) by omega)]
      rw [h3]
    · rw [if_neg h2, if_neg h2]
  rw [h1, vin_s (by omega) hv]
  rfl
abbrev rm_M_newObject : Room := { frames := 0, cells := 0, slots := 0, locals := 0 }
set_option maxHeartbeats 4000000 in
set_option maxRecDepth 100000 in
theorem kM_newObject (l : Launch) (D : va_G) (k : Nat → ClassId) (M : mp_M) {mo el ek bg sz kn rw pp pk wd lo kp ks : Nat} {ec tc wc sc nc th : Nat} {va mk : Nat → Int64} {kd wt tk tf tz sk sf sw ml nn : Nat → Nat} (hE : MdX k M mo el ek bg sz kn rw pp pk wd lo kp ks ec tc wc sc nc th va mk kd wt tk tf tz sk sf sw ml nn) (hO : OkB ec tc wc sc nc tk tf tz sk sf sw ml nn) (x n : Nat) (hx7 : x ≤ 7) (ht : tc < 300) (hn : ec + n ≤ 4000) (hkd : ∀ i, i < ec → kd i ≤ 7) (hwt : x = 0 → n ≤ 12 ∧ ∀ i, i < n → wt i ≤ 7) : mp_Met l yM_newObject (Cond.code yM_newObject cM_newObject 4 (some .int) :: bw) rm_M_newObject D cls5 (tys6 k) [.ref mo, .int (nI x), .int (nI n)] M (va_Qi (fun r M1 => r = nI tc ∧ MdX k M1 mo el ek bg sz kn rw pp pk wd lo kp ks (ec + n) (tc + 1) wc sc nc th (vin va (kno x wt kd ec n) ec (ec + n)) mk (kno x wt kd ec n) wt (nu tk tc x) (nu tf tc ec) (nu tz tc n) sk sf sw ml nn)) 0 0 := by
  refine mp_Met.of (by decide) (Nat.le_of_ble_eq_true rfl) ?_
  intro p e s m below meth c hx hb hr hml hown hts hlocks hin ls hl I
  have hl : lv_has ls 4 [(0, .ref mo), (1, .int (nI x)), (2, .int (nI n))] := hl
  obtain ⟨h0, hel, hek, hbg, hsz, hkn, hrw, hpp, hpk, hwd, hlo, hkp, hks, n_bg_sz, n_bg_kn, n_sz_kn, n_pp_pk, n_pp_wd, n_pk_wd, n_pp_lo, n_pk_lo, n_wd_lo⟩ := id hE
  obtain ⟨b1, b2, b3, b4, b5, bT, bS, bN⟩ := id hO
  refine lv_aload_n hx hb dM_newObject_0 rfl (lv_at hl 0 rfl) ?_
  refine mp_get (v := .ref bg) hx hb hts inM hown I h0 rfl 3 (by decide) (hts _ bw_334) (fun _ h9 => h9) rfl dM_newObject_1 ?_
  refine lv_aload_n hx hb dM_newObject_4 rfl (lv_at hl 0 rfl) ?_
  refine mp_get (v := .int (nI tc)) hx hb hts inM hown I h0 rfl 6 (by decide) (hts _ bw_337) (fun _ h9 => h9) rfl dM_newObject_5 ?_
  refine lv_aload_n hx hb dM_newObject_8 rfl (lv_at hl 0 rfl) ?_
  refine mp_get (v := .int (nI ec)) hx hb hts inM hown I h0 rfl 2 (by decide) (hts _ bw_333) (fun _ h9 => h9) rfl dM_newObject_9 ?_
  refine mp_iast hx hb I 0 hbg rfl (x := nI ec) tc rfl (by omega) (by decide) dM_newObject_12 (fun H locs I => ?_)
  rw [upd_nI] at I
  have I : mp_I D cls5 (tys6 k) s _ s.heap H locs (mp_up M bg (.inl (k 0, 300, .inl (fun i_ => nI ((nu tf tc ec) i_))))) := I
  have hbg_n : mp_up M bg (.inl (k 0, 300, .inl (fun i_ => nI ((nu tf tc ec) i_)))) bg = some (.inl (k 0, 300, .inl (fun i_ => nI ((nu tf tc ec) i_)))) := mp_up_s _ _ _
  have h0_n : mp_up M bg (.inl (k 0, 300, .inl (fun i_ => nI ((nu tf tc ec) i_)))) mo = some (.inr (4, [.ref el, .ref ek, .int (nI ec), .ref bg, .ref sz, .ref kn, .int (nI tc), .ref rw, .int (nI wc), .ref pp, .ref pk, .ref wd, .ref lo, .int (nI sc), .ref kp, .ref ks, .int (nI nc), .int (nI th)])) := (mp_up_n (mp_ne h0 hbg (by simp))).trans h0
  have hel_n : mp_up M bg (.inl (k 0, 300, .inl (fun i_ => nI ((nu tf tc ec) i_)))) el = some (.inl (k 1, 4000, .inr (.inl va))) := (mp_up_n (mp_ne hel hbg (by simp))).trans hel
  have hek_n : mp_up M bg (.inl (k 0, 300, .inl (fun i_ => nI ((nu tf tc ec) i_)))) ek = some (.inl (k 0, 4000, .inl (fun i_ => nI (kd i_)))) := (mp_up_n (mp_ne hek hbg (by simp))).trans hek
  have hsz_n : mp_up M bg (.inl (k 0, 300, .inl (fun i_ => nI ((nu tf tc ec) i_)))) sz = some (.inl (k 0, 300, .inl (fun i_ => nI (tz i_)))) := (mp_up_n (Ne.symm n_bg_sz)).trans hsz
  have hkn_n : mp_up M bg (.inl (k 0, 300, .inl (fun i_ => nI ((nu tf tc ec) i_)))) kn = some (.inl (k 0, 300, .inl (fun i_ => nI (tk i_)))) := (mp_up_n (Ne.symm n_bg_kn)).trans hkn
  have hrw_n : mp_up M bg (.inl (k 0, 300, .inl (fun i_ => nI ((nu tf tc ec) i_)))) rw = some (.inl (k 0, 12, .inl (fun i_ => nI (wt i_)))) := (mp_up_n (mp_ne hrw hbg (by simp))).trans hrw
  have hpp_n : mp_up M bg (.inl (k 0, 300, .inl (fun i_ => nI ((nu tf tc ec) i_)))) pp = some (.inl (k 0, 100, .inl (fun i_ => nI (sf i_)))) := (mp_up_n (mp_ne hpp hbg (by simp))).trans hpp
  have hpk_n : mp_up M bg (.inl (k 0, 300, .inl (fun i_ => nI ((nu tf tc ec) i_)))) pk = some (.inl (k 0, 100, .inl (fun i_ => nI (sk i_)))) := (mp_up_n (mp_ne hpk hbg (by simp))).trans hpk
  have hwd_n : mp_up M bg (.inl (k 0, 300, .inl (fun i_ => nI ((nu tf tc ec) i_)))) wd = some (.inl (k 0, 100, .inl (fun i_ => nI (sw i_)))) := (mp_up_n (mp_ne hwd hbg (by simp))).trans hwd
  have hlo_n : mp_up M bg (.inl (k 0, 300, .inl (fun i_ => nI ((nu tf tc ec) i_)))) lo = some (.inl (k 5, 100, .inl (fun i_ => nI (ml i_)))) := (mp_up_n (mp_ne hlo hbg (by simp))).trans hlo
  have hkp_n : mp_up M bg (.inl (k 0, 300, .inl (fun i_ => nI ((nu tf tc ec) i_)))) kp = some (.inl (k 1, 80000, .inr (.inl mk))) := (mp_up_n (mp_ne hkp hbg (by simp))).trans hkp
  have hks_n : mp_up M bg (.inl (k 0, 300, .inl (fun i_ => nI ((nu tf tc ec) i_)))) ks = some (.inl (k 0, 20, .inl (fun i_ => nI (nn i_)))) := (mp_up_n (mp_ne hks hbg (by simp))).trans hks
  generalize eM_2 : mp_up M bg (.inl (k 0, 300, .inl (fun i_ => nI ((nu tf tc ec) i_)))) = M_1 at I h0_n hel_n hek_n hbg_n hsz_n hkn_n hrw_n hpp_n hpk_n hwd_n hlo_n hkp_n hks_n
  have h0__M_1 := h0_n
  have hel__M_1 := hel_n
  have hek__M_1 := hek_n
  have hbg__M_1 := hbg_n
  have hsz__M_1 := hsz_n
  have hkn__M_1 := hkn_n
  have hrw__M_1 := hrw_n
  have hpp__M_1 := hpp_n
  have hpk__M_1 := hpk_n
  have hwd__M_1 := hwd_n
  have hlo__M_1 := hlo_n
  have hkp__M_1 := hkp_n
  have hks__M_1 := hks_n
  clear h0_n hel_n hek_n hbg_n hsz_n hkn_n hrw_n hpp_n hpk_n hwd_n hlo_n hkp_n hks_n
  have hE := hE.set_bg (nu tf tc ec)
  rw [eM_2] at hE
  refine lv_aload_n hx hb dM_newObject_13 rfl (lv_at hl 0 rfl) ?_
  refine mp_get (v := .ref sz) hx hb hts inM hown I h0__M_1 rfl 4 (by decide) (hts _ bw_335) (fun _ h9 => h9) rfl dM_newObject_14 ?_
  refine lv_aload_n hx hb dM_newObject_17 rfl (lv_at hl 0 rfl) ?_
  refine mp_get (v := .int (nI tc)) hx hb hts inM hown I h0__M_1 rfl 6 (by decide) (hts _ bw_337) (fun _ h9 => h9) rfl dM_newObject_18 ?_
  refine lv_iload_n hx hb dM_newObject_21 rfl (lv_at hl 2 rfl) ?_
  refine mp_iast hx hb I 0 hsz__M_1 rfl (x := nI n) tc rfl (by omega) (by decide) dM_newObject_22 (fun H locs I => ?_)
  rw [upd_nI] at I
  have I : mp_I D cls5 (tys6 k) s _ s.heap H locs (mp_up M_1 sz (.inl (k 0, 300, .inl (fun i_ => nI ((nu tz tc n) i_))))) := I
  have hsz__M_1_n : mp_up M_1 sz (.inl (k 0, 300, .inl (fun i_ => nI ((nu tz tc n) i_)))) sz = some (.inl (k 0, 300, .inl (fun i_ => nI ((nu tz tc n) i_)))) := mp_up_s _ _ _
  have h0__M_1_n : mp_up M_1 sz (.inl (k 0, 300, .inl (fun i_ => nI ((nu tz tc n) i_)))) mo = some (.inr (4, [.ref el, .ref ek, .int (nI ec), .ref bg, .ref sz, .ref kn, .int (nI tc), .ref rw, .int (nI wc), .ref pp, .ref pk, .ref wd, .ref lo, .int (nI sc), .ref kp, .ref ks, .int (nI nc), .int (nI th)])) := (mp_up_n (mp_ne h0__M_1 hsz__M_1 (by simp))).trans h0__M_1
  have hel__M_1_n : mp_up M_1 sz (.inl (k 0, 300, .inl (fun i_ => nI ((nu tz tc n) i_)))) el = some (.inl (k 1, 4000, .inr (.inl va))) := (mp_up_n (mp_ne hel__M_1 hsz__M_1 (by simp))).trans hel__M_1
  have hek__M_1_n : mp_up M_1 sz (.inl (k 0, 300, .inl (fun i_ => nI ((nu tz tc n) i_)))) ek = some (.inl (k 0, 4000, .inl (fun i_ => nI (kd i_)))) := (mp_up_n (mp_ne hek__M_1 hsz__M_1 (by simp))).trans hek__M_1
  have hbg__M_1_n : mp_up M_1 sz (.inl (k 0, 300, .inl (fun i_ => nI ((nu tz tc n) i_)))) bg = some (.inl (k 0, 300, .inl (fun i_ => nI ((nu tf tc ec) i_)))) := (mp_up_n n_bg_sz).trans hbg__M_1
  have hkn__M_1_n : mp_up M_1 sz (.inl (k 0, 300, .inl (fun i_ => nI ((nu tz tc n) i_)))) kn = some (.inl (k 0, 300, .inl (fun i_ => nI (tk i_)))) := (mp_up_n (Ne.symm n_sz_kn)).trans hkn__M_1
  have hrw__M_1_n : mp_up M_1 sz (.inl (k 0, 300, .inl (fun i_ => nI ((nu tz tc n) i_)))) rw = some (.inl (k 0, 12, .inl (fun i_ => nI (wt i_)))) := (mp_up_n (mp_ne hrw__M_1 hsz__M_1 (by simp))).trans hrw__M_1
  have hpp__M_1_n : mp_up M_1 sz (.inl (k 0, 300, .inl (fun i_ => nI ((nu tz tc n) i_)))) pp = some (.inl (k 0, 100, .inl (fun i_ => nI (sf i_)))) := (mp_up_n (mp_ne hpp__M_1 hsz__M_1 (by simp))).trans hpp__M_1
  have hpk__M_1_n : mp_up M_1 sz (.inl (k 0, 300, .inl (fun i_ => nI ((nu tz tc n) i_)))) pk = some (.inl (k 0, 100, .inl (fun i_ => nI (sk i_)))) := (mp_up_n (mp_ne hpk__M_1 hsz__M_1 (by simp))).trans hpk__M_1
  have hwd__M_1_n : mp_up M_1 sz (.inl (k 0, 300, .inl (fun i_ => nI ((nu tz tc n) i_)))) wd = some (.inl (k 0, 100, .inl (fun i_ => nI (sw i_)))) := (mp_up_n (mp_ne hwd__M_1 hsz__M_1 (by simp))).trans hwd__M_1
  have hlo__M_1_n : mp_up M_1 sz (.inl (k 0, 300, .inl (fun i_ => nI ((nu tz tc n) i_)))) lo = some (.inl (k 5, 100, .inl (fun i_ => nI (ml i_)))) := (mp_up_n (mp_ne hlo__M_1 hsz__M_1 (by simp))).trans hlo__M_1
  have hkp__M_1_n : mp_up M_1 sz (.inl (k 0, 300, .inl (fun i_ => nI ((nu tz tc n) i_)))) kp = some (.inl (k 1, 80000, .inr (.inl mk))) := (mp_up_n (mp_ne hkp__M_1 hsz__M_1 (by simp))).trans hkp__M_1
  have hks__M_1_n : mp_up M_1 sz (.inl (k 0, 300, .inl (fun i_ => nI ((nu tz tc n) i_)))) ks = some (.inl (k 0, 20, .inl (fun i_ => nI (nn i_)))) := (mp_up_n (mp_ne hks__M_1 hsz__M_1 (by simp))).trans hks__M_1
  generalize eM_4 : mp_up M_1 sz (.inl (k 0, 300, .inl (fun i_ => nI ((nu tz tc n) i_)))) = M_3 at I h0__M_1_n hel__M_1_n hek__M_1_n hbg__M_1_n hsz__M_1_n hkn__M_1_n hrw__M_1_n hpp__M_1_n hpk__M_1_n hwd__M_1_n hlo__M_1_n hkp__M_1_n hks__M_1_n
  have h0__M_3 := h0__M_1_n
  have hel__M_3 := hel__M_1_n
  have hek__M_3 := hek__M_1_n
  have hbg__M_3 := hbg__M_1_n
  have hsz__M_3 := hsz__M_1_n
  have hkn__M_3 := hkn__M_1_n
  have hrw__M_3 := hrw__M_1_n
  have hpp__M_3 := hpp__M_1_n
  have hpk__M_3 := hpk__M_1_n
  have hwd__M_3 := hwd__M_1_n
  have hlo__M_3 := hlo__M_1_n
  have hkp__M_3 := hkp__M_1_n
  have hks__M_3 := hks__M_1_n
  clear h0__M_1_n hel__M_1_n hek__M_1_n hbg__M_1_n hsz__M_1_n hkn__M_1_n hrw__M_1_n hpp__M_1_n hpk__M_1_n hwd__M_1_n hlo__M_1_n hkp__M_1_n hks__M_1_n
  have hE := hE.set_sz (nu tz tc n)
  rw [eM_4] at hE
  refine lv_aload_n hx hb dM_newObject_23 rfl (lv_at hl 0 rfl) ?_
  refine mp_get (v := .ref kn) hx hb hts inM hown I h0__M_3 rfl 5 (by decide) (hts _ bw_336) (fun _ h9 => h9) rfl dM_newObject_24 ?_
  refine lv_aload_n hx hb dM_newObject_27 rfl (lv_at hl 0 rfl) ?_
  refine mp_get (v := .int (nI tc)) hx hb hts inM hown I h0__M_3 rfl 6 (by decide) (hts _ bw_337) (fun _ h9 => h9) rfl dM_newObject_28 ?_
  refine lv_iload_n hx hb dM_newObject_31 rfl (lv_at hl 1 rfl) ?_
  refine mp_iast hx hb I 0 hkn__M_3 rfl (x := nI x) tc rfl (by omega) (by decide) dM_newObject_32 (fun H locs I => ?_)
  rw [upd_nI] at I
  have I : mp_I D cls5 (tys6 k) s _ s.heap H locs (mp_up M_3 kn (.inl (k 0, 300, .inl (fun i_ => nI ((nu tk tc x) i_))))) := I
  have hkn__M_3_n : mp_up M_3 kn (.inl (k 0, 300, .inl (fun i_ => nI ((nu tk tc x) i_)))) kn = some (.inl (k 0, 300, .inl (fun i_ => nI ((nu tk tc x) i_)))) := mp_up_s _ _ _
  have h0__M_3_n : mp_up M_3 kn (.inl (k 0, 300, .inl (fun i_ => nI ((nu tk tc x) i_)))) mo = some (.inr (4, [.ref el, .ref ek, .int (nI ec), .ref bg, .ref sz, .ref kn, .int (nI tc), .ref rw, .int (nI wc), .ref pp, .ref pk, .ref wd, .ref lo, .int (nI sc), .ref kp, .ref ks, .int (nI nc), .int (nI th)])) := (mp_up_n (mp_ne h0__M_3 hkn__M_3 (by simp))).trans h0__M_3
  have hel__M_3_n : mp_up M_3 kn (.inl (k 0, 300, .inl (fun i_ => nI ((nu tk tc x) i_)))) el = some (.inl (k 1, 4000, .inr (.inl va))) := (mp_up_n (mp_ne hel__M_3 hkn__M_3 (by simp))).trans hel__M_3
  have hek__M_3_n : mp_up M_3 kn (.inl (k 0, 300, .inl (fun i_ => nI ((nu tk tc x) i_)))) ek = some (.inl (k 0, 4000, .inl (fun i_ => nI (kd i_)))) := (mp_up_n (mp_ne hek__M_3 hkn__M_3 (by simp))).trans hek__M_3
  have hbg__M_3_n : mp_up M_3 kn (.inl (k 0, 300, .inl (fun i_ => nI ((nu tk tc x) i_)))) bg = some (.inl (k 0, 300, .inl (fun i_ => nI ((nu tf tc ec) i_)))) := (mp_up_n n_bg_kn).trans hbg__M_3
  have hsz__M_3_n : mp_up M_3 kn (.inl (k 0, 300, .inl (fun i_ => nI ((nu tk tc x) i_)))) sz = some (.inl (k 0, 300, .inl (fun i_ => nI ((nu tz tc n) i_)))) := (mp_up_n n_sz_kn).trans hsz__M_3
  have hrw__M_3_n : mp_up M_3 kn (.inl (k 0, 300, .inl (fun i_ => nI ((nu tk tc x) i_)))) rw = some (.inl (k 0, 12, .inl (fun i_ => nI (wt i_)))) := (mp_up_n (mp_ne hrw__M_3 hkn__M_3 (by simp))).trans hrw__M_3
  have hpp__M_3_n : mp_up M_3 kn (.inl (k 0, 300, .inl (fun i_ => nI ((nu tk tc x) i_)))) pp = some (.inl (k 0, 100, .inl (fun i_ => nI (sf i_)))) := (mp_up_n (mp_ne hpp__M_3 hkn__M_3 (by simp))).trans hpp__M_3
  have hpk__M_3_n : mp_up M_3 kn (.inl (k 0, 300, .inl (fun i_ => nI ((nu tk tc x) i_)))) pk = some (.inl (k 0, 100, .inl (fun i_ => nI (sk i_)))) := (mp_up_n (mp_ne hpk__M_3 hkn__M_3 (by simp))).trans hpk__M_3
  have hwd__M_3_n : mp_up M_3 kn (.inl (k 0, 300, .inl (fun i_ => nI ((nu tk tc x) i_)))) wd = some (.inl (k 0, 100, .inl (fun i_ => nI (sw i_)))) := (mp_up_n (mp_ne hwd__M_3 hkn__M_3 (by simp))).trans hwd__M_3
  have hlo__M_3_n : mp_up M_3 kn (.inl (k 0, 300, .inl (fun i_ => nI ((nu tk tc x) i_)))) lo = some (.inl (k 5, 100, .inl (fun i_ => nI (ml i_)))) := (mp_up_n (mp_ne hlo__M_3 hkn__M_3 (by simp))).trans hlo__M_3
  have hkp__M_3_n : mp_up M_3 kn (.inl (k 0, 300, .inl (fun i_ => nI ((nu tk tc x) i_)))) kp = some (.inl (k 1, 80000, .inr (.inl mk))) := (mp_up_n (mp_ne hkp__M_3 hkn__M_3 (by simp))).trans hkp__M_3
  have hks__M_3_n : mp_up M_3 kn (.inl (k 0, 300, .inl (fun i_ => nI ((nu tk tc x) i_)))) ks = some (.inl (k 0, 20, .inl (fun i_ => nI (nn i_)))) := (mp_up_n (mp_ne hks__M_3 hkn__M_3 (by simp))).trans hks__M_3
  generalize eM_6 : mp_up M_3 kn (.inl (k 0, 300, .inl (fun i_ => nI ((nu tk tc x) i_)))) = M_5 at I h0__M_3_n hel__M_3_n hek__M_3_n hbg__M_3_n hsz__M_3_n hkn__M_3_n hrw__M_3_n hpp__M_3_n hpk__M_3_n hwd__M_3_n hlo__M_3_n hkp__M_3_n hks__M_3_n
  have h0__M_5 := h0__M_3_n
  have hel__M_5 := hel__M_3_n
  have hek__M_5 := hek__M_3_n
  have hbg__M_5 := hbg__M_3_n
  have hsz__M_5 := hsz__M_3_n
  have hkn__M_5 := hkn__M_3_n
  have hrw__M_5 := hrw__M_3_n
  have hpp__M_5 := hpp__M_3_n
  have hpk__M_5 := hpk__M_3_n
  have hwd__M_5 := hwd__M_3_n
  have hlo__M_5 := hlo__M_3_n
  have hkp__M_5 := hkp__M_3_n
  have hks__M_5 := hks__M_3_n
  clear h0__M_3_n hel__M_3_n hek__M_3_n hbg__M_3_n hsz__M_3_n hkn__M_3_n hrw__M_3_n hpp__M_3_n hpk__M_3_n hwd__M_3_n hlo__M_3_n hkp__M_3_n hks__M_3_n
  have hE := hE.set_kn (nu tk tc x)
  rw [eM_6] at hE
  refine lv_iconst (v := nI 0) hx hb dM_newObject_33 (by decide) ?_
  refine lv_istore_n (lv' := [(3, .int (nI 0)), (0, .ref mo), (1, .int (nI x)), (2, .int (nI n))]) hx hb dM_newObject_34 rfl hl (by decide) rfl (fun ls hl => ?_)
  have I := I.to (show M_5 = mp_up (mp_up M_5 ek (.inl (k 0, 4000, .inl (fun i_ => nI ((kno x wt kd ec 0) i_))))) el (.inl (k 1, 4000, .inr (.inl (vin va (kno x wt kd ec 0) ec (ec + 0))))) by rw [kno_0, Nat.add_zero, vin_0, mp_upself hek__M_5, mp_upself hel__M_5])
  refine mp_loop n 4 (fun i => [(3, .int (nI i)), (0, .ref mo), (1, .int (nI x)), (2, .int (nI n))]) (fun i => mp_up (mp_up M_5 ek (.inl (k 0, 4000, .inl (fun i_ => nI ((kno x wt kd ec i) i_))))) el (.inl (k 1, 4000, .inr (.inl (vin va (kno x wt kd ec i) ec (ec + i)))))) 0 (by omega) (lv_sub hl [0, 1, 2, 3] rfl) I ?_
  intro i H locs ls hi0_i hi_i hl I ih_i
  have hl : lv_has ls 4 [(3, .int (nI i)), (0, .ref mo), (1, .int (nI x)), (2, .int (nI n))] := hl
  have I : mp_I D cls5 (tys6 k) s _ s.heap H locs (mp_up (mp_up M_5 ek (.inl (k 0, 4000, .inl (fun i_ => nI ((kno x wt kd ec i) i_))))) el (.inl (k 1, 4000, .inr (.inl (vin va (kno x wt kd ec i) ec (ec + i)))))) := I
  have h0__L : mp_up (mp_up M_5 ek (.inl (k 0, 4000, .inl (fun i_ => nI ((kno x wt kd ec i) i_))))) el (.inl (k 1, 4000, .inr (.inl (vin va (kno x wt kd ec i) ec (ec + i))))) mo = some (.inr (4, [.ref el, .ref ek, .int (nI ec), .ref bg, .ref sz, .ref kn, .int (nI tc), .ref rw, .int (nI wc), .ref pp, .ref pk, .ref wd, .ref lo, .int (nI sc), .ref kp, .ref ks, .int (nI nc), .int (nI th)])) := (mp_up_n (mp_ne h0__M_5 hel__M_5 (by simp))).trans ((mp_up_n (mp_ne h0__M_5 hek__M_5 (by simp))).trans h0__M_5)
  have hel__L : mp_up (mp_up M_5 ek (.inl (k 0, 4000, .inl (fun i_ => nI ((kno x wt kd ec i) i_))))) el (.inl (k 1, 4000, .inr (.inl (vin va (kno x wt kd ec i) ec (ec + i))))) el = some (.inl (k 1, 4000, .inr (.inl (vin va (kno x wt kd ec i) ec (ec + i))))) := mp_up_s _ _ _
  have hek__L : mp_up (mp_up M_5 ek (.inl (k 0, 4000, .inl (fun i_ => nI ((kno x wt kd ec i) i_))))) el (.inl (k 1, 4000, .inr (.inl (vin va (kno x wt kd ec i) ec (ec + i))))) ek = some (.inl (k 0, 4000, .inl (fun i_ => nI ((kno x wt kd ec i) i_)))) := (mp_up_n (mp_ne hek__M_5 hel__M_5 (by simp))).trans (mp_up_s _ _ _)
  have hbg__L : mp_up (mp_up M_5 ek (.inl (k 0, 4000, .inl (fun i_ => nI ((kno x wt kd ec i) i_))))) el (.inl (k 1, 4000, .inr (.inl (vin va (kno x wt kd ec i) ec (ec + i))))) bg = some (.inl (k 0, 300, .inl (fun i_ => nI ((nu tf tc ec) i_)))) := (mp_up_n (mp_ne hbg__M_5 hel__M_5 (by simp))).trans ((mp_up_n (mp_ne hbg__M_5 hek__M_5 (by simp))).trans hbg__M_5)
  have hsz__L : mp_up (mp_up M_5 ek (.inl (k 0, 4000, .inl (fun i_ => nI ((kno x wt kd ec i) i_))))) el (.inl (k 1, 4000, .inr (.inl (vin va (kno x wt kd ec i) ec (ec + i))))) sz = some (.inl (k 0, 300, .inl (fun i_ => nI ((nu tz tc n) i_)))) := (mp_up_n (mp_ne hsz__M_5 hel__M_5 (by simp))).trans ((mp_up_n (mp_ne hsz__M_5 hek__M_5 (by simp))).trans hsz__M_5)
  have hkn__L : mp_up (mp_up M_5 ek (.inl (k 0, 4000, .inl (fun i_ => nI ((kno x wt kd ec i) i_))))) el (.inl (k 1, 4000, .inr (.inl (vin va (kno x wt kd ec i) ec (ec + i))))) kn = some (.inl (k 0, 300, .inl (fun i_ => nI ((nu tk tc x) i_)))) := (mp_up_n (mp_ne hkn__M_5 hel__M_5 (by simp))).trans ((mp_up_n (mp_ne hkn__M_5 hek__M_5 (by simp))).trans hkn__M_5)
  have hrw__L : mp_up (mp_up M_5 ek (.inl (k 0, 4000, .inl (fun i_ => nI ((kno x wt kd ec i) i_))))) el (.inl (k 1, 4000, .inr (.inl (vin va (kno x wt kd ec i) ec (ec + i))))) rw = some (.inl (k 0, 12, .inl (fun i_ => nI (wt i_)))) := (mp_up_n (mp_ne hrw__M_5 hel__M_5 (by simp))).trans ((mp_up_n (mp_ne hrw__M_5 hek__M_5 (by simp))).trans hrw__M_5)
  have hpp__L : mp_up (mp_up M_5 ek (.inl (k 0, 4000, .inl (fun i_ => nI ((kno x wt kd ec i) i_))))) el (.inl (k 1, 4000, .inr (.inl (vin va (kno x wt kd ec i) ec (ec + i))))) pp = some (.inl (k 0, 100, .inl (fun i_ => nI (sf i_)))) := (mp_up_n (mp_ne hpp__M_5 hel__M_5 (by simp))).trans ((mp_up_n (mp_ne hpp__M_5 hek__M_5 (by simp))).trans hpp__M_5)
  have hpk__L : mp_up (mp_up M_5 ek (.inl (k 0, 4000, .inl (fun i_ => nI ((kno x wt kd ec i) i_))))) el (.inl (k 1, 4000, .inr (.inl (vin va (kno x wt kd ec i) ec (ec + i))))) pk = some (.inl (k 0, 100, .inl (fun i_ => nI (sk i_)))) := (mp_up_n (mp_ne hpk__M_5 hel__M_5 (by simp))).trans ((mp_up_n (mp_ne hpk__M_5 hek__M_5 (by simp))).trans hpk__M_5)
  have hwd__L : mp_up (mp_up M_5 ek (.inl (k 0, 4000, .inl (fun i_ => nI ((kno x wt kd ec i) i_))))) el (.inl (k 1, 4000, .inr (.inl (vin va (kno x wt kd ec i) ec (ec + i))))) wd = some (.inl (k 0, 100, .inl (fun i_ => nI (sw i_)))) := (mp_up_n (mp_ne hwd__M_5 hel__M_5 (by simp))).trans ((mp_up_n (mp_ne hwd__M_5 hek__M_5 (by simp))).trans hwd__M_5)
  have hlo__L : mp_up (mp_up M_5 ek (.inl (k 0, 4000, .inl (fun i_ => nI ((kno x wt kd ec i) i_))))) el (.inl (k 1, 4000, .inr (.inl (vin va (kno x wt kd ec i) ec (ec + i))))) lo = some (.inl (k 5, 100, .inl (fun i_ => nI (ml i_)))) := (mp_up_n (mp_ne hlo__M_5 hel__M_5 (by simp))).trans ((mp_up_n (mp_ne hlo__M_5 hek__M_5 (by simp))).trans hlo__M_5)
  have hkp__L : mp_up (mp_up M_5 ek (.inl (k 0, 4000, .inl (fun i_ => nI ((kno x wt kd ec i) i_))))) el (.inl (k 1, 4000, .inr (.inl (vin va (kno x wt kd ec i) ec (ec + i))))) kp = some (.inl (k 1, 80000, .inr (.inl mk))) := (mp_up_n (mp_ne hkp__M_5 hel__M_5 (by simp))).trans ((mp_up_n (mp_ne hkp__M_5 hek__M_5 (by simp))).trans hkp__M_5)
  have hks__L : mp_up (mp_up M_5 ek (.inl (k 0, 4000, .inl (fun i_ => nI ((kno x wt kd ec i) i_))))) el (.inl (k 1, 4000, .inr (.inl (vin va (kno x wt kd ec i) ec (ec + i))))) ks = some (.inl (k 0, 20, .inl (fun i_ => nI (nn i_)))) := (mp_up_n (mp_ne hks__M_5 hel__M_5 (by simp))).trans ((mp_up_n (mp_ne hks__M_5 hek__M_5 (by simp))).trans hks__M_5)
  refine lv_iload_n hx hb dM_newObject_35 rfl (lv_at hl 0 rfl) ?_
  refine lv_iload_n hx hb dM_newObject_36 rfl (lv_at hl 3 rfl) ?_
  refine zz_icmp_ge (tgt := 105) hx hb (nI_toInt (by first | assumption | omega)) (nI_toInt (by first | assumption | omega)) dM_newObject_37 (by decide) (fun c_7 => ?_) (fun c_7 => ?_)
  · obtain rfl : n = i := by omega
    have hE := (hE.set_ek (kno x wt kd ec n)).set_el (vin va (kno x wt kd ec n) ec (ec + n))
    generalize eMv : mp_up (mp_up M_5 ek (.inl (k 0, 4000, .inl (fun i_ => nI ((kno x wt kd ec n) i_))))) el (.inl (k 1, 4000, .inr (.inl (vin va (kno x wt kd ec n) ec (ec + n))))) = Mv at I hE
    clear h0__L hel__L hek__L hbg__L hsz__L hkn__L hrw__L hpp__L hpk__L hwd__L hlo__L hkp__L hks__L
    obtain ⟨h0, hel, hek, hbg, hsz, hkn, hrw, hpp, hpk, hwd, hlo, hkp, hks, n_bg_sz, n_bg_kn, n_sz_kn, n_pp_pk, n_pp_wd, n_pk_wd, n_pp_lo, n_pk_lo, n_wd_lo⟩ := id hE
    refine lv_aload_n hx hb dM_newObject_105 rfl (lv_at hl 1 rfl) ?_
    refine lv_dup hx hb dM_newObject_106 rfl ?_
    refine mp_get (v := .int (nI ec)) hx hb hts inM hown I h0 rfl 2 (by decide) (hts _ bw_333) (fun _ h9 => h9) rfl dM_newObject_107 ?_
    refine lv_iload_n hx hb dM_newObject_110 rfl (lv_at hl 3 rfl) ?_
    refine zz_iadd hx hb dM_newObject_111 ?_
    refine mp_put (v := .int (nI (ec + n))) (ty := .int) hx hb hts inM tyM okM nmM hown I h0 rfl 2 (by decide) (hts _ bw_333) (fun _ h9 => h9) rfl (by decide +kernel) rfl rfl (Nat.le_of_ble_eq_true rfl) dM_newObject_112 (fun H locs I => ?_)
    have I : mp_I D cls5 (tys6 k) s _ s.heap H locs (mp_up Mv mo (.inr (4, [.ref el, .ref ek, .int (nI (ec + n)), .ref bg, .ref sz, .ref kn, .int (nI tc), .ref rw, .int (nI wc), .ref pp, .ref pk, .ref wd, .ref lo, .int (nI sc), .ref kp, .ref ks, .int (nI nc), .int (nI th)]))) := I
    have h0_n : mp_up Mv mo (.inr (4, [.ref el, .ref ek, .int (nI (ec + n)), .ref bg, .ref sz, .ref kn, .int (nI tc), .ref rw, .int (nI wc), .ref pp, .ref pk, .ref wd, .ref lo, .int (nI sc), .ref kp, .ref ks, .int (nI nc), .int (nI th)])) mo = some (.inr (4, [.ref el, .ref ek, .int (nI (ec + n)), .ref bg, .ref sz, .ref kn, .int (nI tc), .ref rw, .int (nI wc), .ref pp, .ref pk, .ref wd, .ref lo, .int (nI sc), .ref kp, .ref ks, .int (nI nc), .int (nI th)])) := mp_up_s _ _ _
    have hel_n : mp_up Mv mo (.inr (4, [.ref el, .ref ek, .int (nI (ec + n)), .ref bg, .ref sz, .ref kn, .int (nI tc), .ref rw, .int (nI wc), .ref pp, .ref pk, .ref wd, .ref lo, .int (nI sc), .ref kp, .ref ks, .int (nI nc), .int (nI th)])) el = some (.inl (k 1, 4000, .inr (.inl (vin va (kno x wt kd ec n) ec (ec + n))))) := (mp_up_n (mp_ne hel h0 (by simp))).trans hel
    have hek_n : mp_up Mv mo (.inr (4, [.ref el, .ref ek, .int (nI (ec + n)), .ref bg, .ref sz, .ref kn, .int (nI tc), .ref rw, .int (nI wc), .ref pp, .ref pk, .ref wd, .ref lo, .int (nI sc), .ref kp, .ref ks, .int (nI nc), .int (nI th)])) ek = some (.inl (k 0, 4000, .inl (fun i_ => nI ((kno x wt kd ec n) i_)))) := (mp_up_n (mp_ne hek h0 (by simp))).trans hek
    have hbg_n : mp_up Mv mo (.inr (4, [.ref el, .ref ek, .int (nI (ec + n)), .ref bg, .ref sz, .ref kn, .int (nI tc), .ref rw, .int (nI wc), .ref pp, .ref pk, .ref wd, .ref lo, .int (nI sc), .ref kp, .ref ks, .int (nI nc), .int (nI th)])) bg = some (.inl (k 0, 300, .inl (fun i_ => nI ((nu tf tc ec) i_)))) := (mp_up_n (mp_ne hbg h0 (by simp))).trans hbg
    have hsz_n : mp_up Mv mo (.inr (4, [.ref el, .ref ek, .int (nI (ec + n)), .ref bg, .ref sz, .ref kn, .int (nI tc), .ref rw, .int (nI wc), .ref pp, .ref pk, .ref wd, .ref lo, .int (nI sc), .ref kp, .ref ks, .int (nI nc), .int (nI th)])) sz = some (.inl (k 0, 300, .inl (fun i_ => nI ((nu tz tc n) i_)))) := (mp_up_n (mp_ne hsz h0 (by simp))).trans hsz
    have hkn_n : mp_up Mv mo (.inr (4, [.ref el, .ref ek, .int (nI (ec + n)), .ref bg, .ref sz, .ref kn, .int (nI tc), .ref rw, .int (nI wc), .ref pp, .ref pk, .ref wd, .ref lo, .int (nI sc), .ref kp, .ref ks, .int (nI nc), .int (nI th)])) kn = some (.inl (k 0, 300, .inl (fun i_ => nI ((nu tk tc x) i_)))) := (mp_up_n (mp_ne hkn h0 (by simp))).trans hkn
    have hrw_n : mp_up Mv mo (.inr (4, [.ref el, .ref ek, .int (nI (ec + n)), .ref bg, .ref sz, .ref kn, .int (nI tc), .ref rw, .int (nI wc), .ref pp, .ref pk, .ref wd, .ref lo, .int (nI sc), .ref kp, .ref ks, .int (nI nc), .int (nI th)])) rw = some (.inl (k 0, 12, .inl (fun i_ => nI (wt i_)))) := (mp_up_n (mp_ne hrw h0 (by simp))).trans hrw
    have hpp_n : mp_up Mv mo (.inr (4, [.ref el, .ref ek, .int (nI (ec + n)), .ref bg, .ref sz, .ref kn, .int (nI tc), .ref rw, .int (nI wc), .ref pp, .ref pk, .ref wd, .ref lo, .int (nI sc), .ref kp, .ref ks, .int (nI nc), .int (nI th)])) pp = some (.inl (k 0, 100, .inl (fun i_ => nI (sf i_)))) := (mp_up_n (mp_ne hpp h0 (by simp))).trans hpp
    have hpk_n : mp_up Mv mo (.inr (4, [.ref el, .ref ek, .int (nI (ec + n)), .ref bg, .ref sz, .ref kn, .int (nI tc), .ref rw, .int (nI wc), .ref pp, .ref pk, .ref wd, .ref lo, .int (nI sc), .ref kp, .ref ks, .int (nI nc), .int (nI th)])) pk = some (.inl (k 0, 100, .inl (fun i_ => nI (sk i_)))) := (mp_up_n (mp_ne hpk h0 (by simp))).trans hpk
    have hwd_n : mp_up Mv mo (.inr (4, [.ref el, .ref ek, .int (nI (ec + n)), .ref bg, .ref sz, .ref kn, .int (nI tc), .ref rw, .int (nI wc), .ref pp, .ref pk, .ref wd, .ref lo, .int (nI sc), .ref kp, .ref ks, .int (nI nc), .int (nI th)])) wd = some (.inl (k 0, 100, .inl (fun i_ => nI (sw i_)))) := (mp_up_n (mp_ne hwd h0 (by simp))).trans hwd
    have hlo_n : mp_up Mv mo (.inr (4, [.ref el, .ref ek, .int (nI (ec + n)), .ref bg, .ref sz, .ref kn, .int (nI tc), .ref rw, .int (nI wc), .ref pp, .ref pk, .ref wd, .ref lo, .int (nI sc), .ref kp, .ref ks, .int (nI nc), .int (nI th)])) lo = some (.inl (k 5, 100, .inl (fun i_ => nI (ml i_)))) := (mp_up_n (mp_ne hlo h0 (by simp))).trans hlo
    have hkp_n : mp_up Mv mo (.inr (4, [.ref el, .ref ek, .int (nI (ec + n)), .ref bg, .ref sz, .ref kn, .int (nI tc), .ref rw, .int (nI wc), .ref pp, .ref pk, .ref wd, .ref lo, .int (nI sc), .ref kp, .ref ks, .int (nI nc), .int (nI th)])) kp = some (.inl (k 1, 80000, .inr (.inl mk))) := (mp_up_n (mp_ne hkp h0 (by simp))).trans hkp
    have hks_n : mp_up Mv mo (.inr (4, [.ref el, .ref ek, .int (nI (ec + n)), .ref bg, .ref sz, .ref kn, .int (nI tc), .ref rw, .int (nI wc), .ref pp, .ref pk, .ref wd, .ref lo, .int (nI sc), .ref kp, .ref ks, .int (nI nc), .int (nI th)])) ks = some (.inl (k 0, 20, .inl (fun i_ => nI (nn i_)))) := (mp_up_n (mp_ne hks h0 (by simp))).trans hks
    generalize eM_9 : mp_up Mv mo (.inr (4, [.ref el, .ref ek, .int (nI (ec + n)), .ref bg, .ref sz, .ref kn, .int (nI tc), .ref rw, .int (nI wc), .ref pp, .ref pk, .ref wd, .ref lo, .int (nI sc), .ref kp, .ref ks, .int (nI nc), .int (nI th)])) = M_8 at I h0_n hel_n hek_n hbg_n hsz_n hkn_n hrw_n hpp_n hpk_n hwd_n hlo_n hkp_n hks_n
    have h0__M_8 := h0_n
    have hel__M_8 := hel_n
    have hek__M_8 := hek_n
    have hbg__M_8 := hbg_n
    have hsz__M_8 := hsz_n
    have hkn__M_8 := hkn_n
    have hrw__M_8 := hrw_n
    have hpp__M_8 := hpp_n
    have hpk__M_8 := hpk_n
    have hwd__M_8 := hwd_n
    have hlo__M_8 := hlo_n
    have hkp__M_8 := hkp_n
    have hks__M_8 := hks_n
    clear h0_n hel_n hek_n hbg_n hsz_n hkn_n hrw_n hpp_n hpk_n hwd_n hlo_n hkp_n hks_n
    have hE := hE.cnt (ec + n) tc wc sc nc th
    rw [eM_9] at hE
    refine lv_aload_n hx hb dM_newObject_115 rfl (lv_at hl 1 rfl) ?_
    refine lv_dup hx hb dM_newObject_116 rfl ?_
    refine mp_get (v := .int (nI tc)) hx hb hts inM hown I h0__M_8 rfl 6 (by decide) (hts _ bw_337) (fun _ h9 => h9) rfl dM_newObject_117 ?_
    refine lv_iconst (v := nI 1) hx hb dM_newObject_120 (by decide) ?_
    refine zz_iadd hx hb dM_newObject_121 ?_
    refine mp_put (v := .int (nI (tc + 1))) (ty := .int) hx hb hts inM tyM okM nmM hown I h0__M_8 rfl 6 (by decide) (hts _ bw_337) (fun _ h9 => h9) rfl (by decide +kernel) rfl rfl (Nat.le_of_ble_eq_true rfl) dM_newObject_122 (fun H locs I => ?_)
    have I : mp_I D cls5 (tys6 k) s _ s.heap H locs (mp_up M_8 mo (.inr (4, [.ref el, .ref ek, .int (nI (ec + n)), .ref bg, .ref sz, .ref kn, .int (nI (tc + 1)), .ref rw, .int (nI wc), .ref pp, .ref pk, .ref wd, .ref lo, .int (nI sc), .ref kp, .ref ks, .int (nI nc), .int (nI th)]))) := I
    have h0__M_8_n : mp_up M_8 mo (.inr (4, [.ref el, .ref ek, .int (nI (ec + n)), .ref bg, .ref sz, .ref kn, .int (nI (tc + 1)), .ref rw, .int (nI wc), .ref pp, .ref pk, .ref wd, .ref lo, .int (nI sc), .ref kp, .ref ks, .int (nI nc), .int (nI th)])) mo = some (.inr (4, [.ref el, .ref ek, .int (nI (ec + n)), .ref bg, .ref sz, .ref kn, .int (nI (tc + 1)), .ref rw, .int (nI wc), .ref pp, .ref pk, .ref wd, .ref lo, .int (nI sc), .ref kp, .ref ks, .int (nI nc), .int (nI th)])) := mp_up_s _ _ _
    have hel__M_8_n : mp_up M_8 mo (.inr (4, [.ref el, .ref ek, .int (nI (ec + n)), .ref bg, .ref sz, .ref kn, .int (nI (tc + 1)), .ref rw, .int (nI wc), .ref pp, .ref pk, .ref wd, .ref lo, .int (nI sc), .ref kp, .ref ks, .int (nI nc), .int (nI th)])) el = some (.inl (k 1, 4000, .inr (.inl (vin va (kno x wt kd ec n) ec (ec + n))))) := (mp_up_n (mp_ne hel__M_8 h0__M_8 (by simp))).trans hel__M_8
    have hek__M_8_n : mp_up M_8 mo (.inr (4, [.ref el, .ref ek, .int (nI (ec + n)), .ref bg, .ref sz, .ref kn, .int (nI (tc + 1)), .ref rw, .int (nI wc), .ref pp, .ref pk, .ref wd, .ref lo, .int (nI sc), .ref kp, .ref ks, .int (nI nc), .int (nI th)])) ek = some (.inl (k 0, 4000, .inl (fun i_ => nI ((kno x wt kd ec n) i_)))) := (mp_up_n (mp_ne hek__M_8 h0__M_8 (by simp))).trans hek__M_8
    have hbg__M_8_n : mp_up M_8 mo (.inr (4, [.ref el, .ref ek, .int (nI (ec + n)), .ref bg, .ref sz, .ref kn, .int (nI (tc + 1)), .ref rw, .int (nI wc), .ref pp, .ref pk, .ref wd, .ref lo, .int (nI sc), .ref kp, .ref ks, .int (nI nc), .int (nI th)])) bg = some (.inl (k 0, 300, .inl (fun i_ => nI ((nu tf tc ec) i_)))) := (mp_up_n (mp_ne hbg__M_8 h0__M_8 (by simp))).trans hbg__M_8
    have hsz__M_8_n : mp_up M_8 mo (.inr (4, [.ref el, .ref ek, .int (nI (ec + n)), .ref bg, .ref sz, .ref kn, .int (nI (tc + 1)), .ref rw, .int (nI wc), .ref pp, .ref pk, .ref wd, .ref lo, .int (nI sc), .ref kp, .ref ks, .int (nI nc), .int (nI th)])) sz = some (.inl (k 0, 300, .inl (fun i_ => nI ((nu tz tc n) i_)))) := (mp_up_n (mp_ne hsz__M_8 h0__M_8 (by simp))).trans hsz__M_8
    have hkn__M_8_n : mp_up M_8 mo (.inr (4, [.ref el, .ref ek, .int (nI (ec + n)), .ref bg, .ref sz, .ref kn, .int (nI (tc + 1)), .ref rw, .int (nI wc), .ref pp, .ref pk, .ref wd, .ref lo, .int (nI sc), .ref kp, .ref ks, .int (nI nc), .int (nI th)])) kn = some (.inl (k 0, 300, .inl (fun i_ => nI ((nu tk tc x) i_)))) := (mp_up_n (mp_ne hkn__M_8 h0__M_8 (by simp))).trans hkn__M_8
    have hrw__M_8_n : mp_up M_8 mo (.inr (4, [.ref el, .ref ek, .int (nI (ec + n)), .ref bg, .ref sz, .ref kn, .int (nI (tc + 1)), .ref rw, .int (nI wc), .ref pp, .ref pk, .ref wd, .ref lo, .int (nI sc), .ref kp, .ref ks, .int (nI nc), .int (nI th)])) rw = some (.inl (k 0, 12, .inl (fun i_ => nI (wt i_)))) := (mp_up_n (mp_ne hrw__M_8 h0__M_8 (by simp))).trans hrw__M_8
    have hpp__M_8_n : mp_up M_8 mo (.inr (4, [.ref el, .ref ek, .int (nI (ec + n)), .ref bg, .ref sz, .ref kn, .int (nI (tc + 1)), .ref rw, .int (nI wc), .ref pp, .ref pk, .ref wd, .ref lo, .int (nI sc), .ref kp, .ref ks, .int (nI nc), .int (nI th)])) pp = some (.inl (k 0, 100, .inl (fun i_ => nI (sf i_)))) := (mp_up_n (mp_ne hpp__M_8 h0__M_8 (by simp))).trans hpp__M_8
    have hpk__M_8_n : mp_up M_8 mo (.inr (4, [.ref el, .ref ek, .int (nI (ec + n)), .ref bg, .ref sz, .ref kn, .int (nI (tc + 1)), .ref rw, .int (nI wc), .ref pp, .ref pk, .ref wd, .ref lo, .int (nI sc), .ref kp, .ref ks, .int (nI nc), .int (nI th)])) pk = some (.inl (k 0, 100, .inl (fun i_ => nI (sk i_)))) := (mp_up_n (mp_ne hpk__M_8 h0__M_8 (by simp))).trans hpk__M_8
    have hwd__M_8_n : mp_up M_8 mo (.inr (4, [.ref el, .ref ek, .int (nI (ec + n)), .ref bg, .ref sz, .ref kn, .int (nI (tc + 1)), .ref rw, .int (nI wc), .ref pp, .ref pk, .ref wd, .ref lo, .int (nI sc), .ref kp, .ref ks, .int (nI nc), .int (nI th)])) wd = some (.inl (k 0, 100, .inl (fun i_ => nI (sw i_)))) := (mp_up_n (mp_ne hwd__M_8 h0__M_8 (by simp))).trans hwd__M_8
    have hlo__M_8_n : mp_up M_8 mo (.inr (4, [.ref el, .ref ek, .int (nI (ec + n)), .ref bg, .ref sz, .ref kn, .int (nI (tc + 1)), .ref rw, .int (nI wc), .ref pp, .ref pk, .ref wd, .ref lo, .int (nI sc), .ref kp, .ref ks, .int (nI nc), .int (nI th)])) lo = some (.inl (k 5, 100, .inl (fun i_ => nI (ml i_)))) := (mp_up_n (mp_ne hlo__M_8 h0__M_8 (by simp))).trans hlo__M_8
    have hkp__M_8_n : mp_up M_8 mo (.inr (4, [.ref el, .ref ek, .int (nI (ec + n)), .ref bg, .ref sz, .ref kn, .int (nI (tc + 1)), .ref rw, .int (nI wc), .ref pp, .ref pk, .ref wd, .ref lo, .int (nI sc), .ref kp, .ref ks, .int (nI nc), .int (nI th)])) kp = some (.inl (k 1, 80000, .inr (.inl mk))) := (mp_up_n (mp_ne hkp__M_8 h0__M_8 (by simp))).trans hkp__M_8
    have hks__M_8_n : mp_up M_8 mo (.inr (4, [.ref el, .ref ek, .int (nI (ec + n)), .ref bg, .ref sz, .ref kn, .int (nI (tc + 1)), .ref rw, .int (nI wc), .ref pp, .ref pk, .ref wd, .ref lo, .int (nI sc), .ref kp, .ref ks, .int (nI nc), .int (nI th)])) ks = some (.inl (k 0, 20, .inl (fun i_ => nI (nn i_)))) := (mp_up_n (mp_ne hks__M_8 h0__M_8 (by simp))).trans hks__M_8
    generalize eM_11 : mp_up M_8 mo (.inr (4, [.ref el, .ref ek, .int (nI (ec + n)), .ref bg, .ref sz, .ref kn, .int (nI (tc + 1)), .ref rw, .int (nI wc), .ref pp, .ref pk, .ref wd, .ref lo, .int (nI sc), .ref kp, .ref ks, .int (nI nc), .int (nI th)])) = M_10 at I h0__M_8_n hel__M_8_n hek__M_8_n hbg__M_8_n hsz__M_8_n hkn__M_8_n hrw__M_8_n hpp__M_8_n hpk__M_8_n hwd__M_8_n hlo__M_8_n hkp__M_8_n hks__M_8_n
    have h0__M_10 := h0__M_8_n
    have hel__M_10 := hel__M_8_n
    have hek__M_10 := hek__M_8_n
    have hbg__M_10 := hbg__M_8_n
    have hsz__M_10 := hsz__M_8_n
    have hkn__M_10 := hkn__M_8_n
    have hrw__M_10 := hrw__M_8_n
    have hpp__M_10 := hpp__M_8_n
    have hpk__M_10 := hpk__M_8_n
    have hwd__M_10 := hwd__M_8_n
    have hlo__M_10 := hlo__M_8_n
    have hkp__M_10 := hkp__M_8_n
    have hks__M_10 := hks__M_8_n
    clear h0__M_8_n hel__M_8_n hek__M_8_n hbg__M_8_n hsz__M_8_n hkn__M_8_n hrw__M_8_n hpp__M_8_n hpk__M_8_n hwd__M_8_n hlo__M_8_n hkp__M_8_n hks__M_8_n
    have hE := hE.cnt (ec + n) (tc + 1) wc sc nc th
    rw [eM_11] at hE
    refine lv_aload_n hx hb dM_newObject_125 rfl (lv_at hl 1 rfl) ?_
    refine mp_get (v := .int (nI (tc + 1))) hx hb hts inM hown I h0__M_10 rfl 6 (by decide) (hts _ bw_337) (fun _ h9 => h9) rfl dM_newObject_126 ?_
    refine lv_iconst (v := nI 1) hx hb dM_newObject_129 (by decide) ?_
    refine zz_isub hx hb (by omega) dM_newObject_130 ?_
    exact mp_iret hx hb hr hlocks I (Nat.le_of_ble_eq_true rfl) (Nat.le_of_ble_eq_true rfl) dM_newObject_131 ⟨rfl, hE⟩
  · refine lv_aload_n hx hb dM_newObject_40 rfl (lv_at hl 1 rfl) ?_
    refine mp_get (v := .ref ek) hx hb hts inM hown I h0__L rfl 1 (by decide) (hts _ bw_332) (fun _ h9 => h9) rfl dM_newObject_41 ?_
    refine lv_aload_n hx hb dM_newObject_44 rfl (lv_at hl 1 rfl) ?_
    refine mp_get (v := .int (nI ec)) hx hb hts inM hown I h0__L rfl 2 (by decide) (hts _ bw_333) (fun _ h9 => h9) rfl dM_newObject_45 ?_
    refine lv_iload_n hx hb dM_newObject_48 rfl (lv_at hl 0 rfl) ?_
    refine zz_iadd hx hb dM_newObject_49 ?_
    refine lv_iload_n hx hb dM_newObject_50 rfl (lv_at hl 2 rfl) ?_
    refine zz_if_ne (tgt := 63) hx hb (nI_toInt (by first | assumption | omega)) dM_newObject_51 (by decide) (fun c_12 => ?_) (fun c_12 => ?_)
    · refine lv_iload_n hx hb dM_newObject_63 rfl (lv_at hl 2 rfl) ?_
      refine mp_iast hx hb I 0 hek__L rfl (x := nI x) (ec + i) rfl (by omega) (by decide) dM_newObject_64 (fun H locs I => ?_)
      rw [upd_nI, kno_s (by rw [if_neg (by omega)])] at I
      have I : mp_I D cls5 (tys6 k) s _ s.heap H locs (mp_up (mp_up (mp_up M_5 ek (.inl (k 0, 4000, .inl (fun i_ => nI ((kno x wt kd ec i) i_))))) el (.inl (k 1, 4000, .inr (.inl (vin va (kno x wt kd ec i) ec (ec + i)))))) ek (.inl (k 0, 4000, .inl (fun i_ => nI ((kno x wt kd ec (i + 1)) i_))))) := I
      have hek__L_n : mp_up (mp_up (mp_up M_5 ek (.inl (k 0, 4000, .inl (fun i_ => nI ((kno x wt kd ec i) i_))))) el (.inl (k 1, 4000, .inr (.inl (vin va (kno x wt kd ec i) ec (ec + i)))))) ek (.inl (k 0, 4000, .inl (fun i_ => nI ((kno x wt kd ec (i + 1)) i_)))) ek = some (.inl (k 0, 4000, .inl (fun i_ => nI ((kno x wt kd ec (i + 1)) i_)))) := mp_up_s _ _ _
      have h0__L_n : mp_up (mp_up (mp_up M_5 ek (.inl (k 0, 4000, .inl (fun i_ => nI ((kno x wt kd ec i) i_))))) el (.inl (k 1, 4000, .inr (.inl (vin va (kno x wt kd ec i) ec (ec + i)))))) ek (.inl (k 0, 4000, .inl (fun i_ => nI ((kno x wt kd ec (i + 1)) i_)))) mo = some (.inr (4, [.ref el, .ref ek, .int (nI ec), .ref bg, .ref sz, .ref kn, .int (nI tc), .ref rw, .int (nI wc), .ref pp, .ref pk, .ref wd, .ref lo, .int (nI sc), .ref kp, .ref ks, .int (nI nc), .int (nI th)])) := (mp_up_n (mp_ne h0__L hek__L (by simp))).trans h0__L
      have hel__L_n : mp_up (mp_up (mp_up M_5 ek (.inl (k 0, 4000, .inl (fun i_ => nI ((kno x wt kd ec i) i_))))) el (.inl (k 1, 4000, .inr (.inl (vin va (kno x wt kd ec i) ec (ec + i)))))) ek (.inl (k 0, 4000, .inl (fun i_ => nI ((kno x wt kd ec (i + 1)) i_)))) el = some (.inl (k 1, 4000, .inr (.inl (vin va (kno x wt kd ec i) ec (ec + i))))) := (mp_up_n (mp_ne hel__L hek__L (by simp))).trans hel__L
      have hbg__L_n : mp_up (mp_up (mp_up M_5 ek (.inl (k 0, 4000, .inl (fun i_ => nI ((kno x wt kd ec i) i_))))) el (.inl (k 1, 4000, .inr (.inl (vin va (kno x wt kd ec i) ec (ec + i)))))) ek (.inl (k 0, 4000, .inl (fun i_ => nI ((kno x wt kd ec (i + 1)) i_)))) bg = some (.inl (k 0, 300, .inl (fun i_ => nI ((nu tf tc ec) i_)))) := (mp_up_n (mp_ne hbg__L hek__L (by simp))).trans hbg__L
      have hsz__L_n : mp_up (mp_up (mp_up M_5 ek (.inl (k 0, 4000, .inl (fun i_ => nI ((kno x wt kd ec i) i_))))) el (.inl (k 1, 4000, .inr (.inl (vin va (kno x wt kd ec i) ec (ec + i)))))) ek (.inl (k 0, 4000, .inl (fun i_ => nI ((kno x wt kd ec (i + 1)) i_)))) sz = some (.inl (k 0, 300, .inl (fun i_ => nI ((nu tz tc n) i_)))) := (mp_up_n (mp_ne hsz__L hek__L (by simp))).trans hsz__L
      have hkn__L_n : mp_up (mp_up (mp_up M_5 ek (.inl (k 0, 4000, .inl (fun i_ => nI ((kno x wt kd ec i) i_))))) el (.inl (k 1, 4000, .inr (.inl (vin va (kno x wt kd ec i) ec (ec + i)))))) ek (.inl (k 0, 4000, .inl (fun i_ => nI ((kno x wt kd ec (i + 1)) i_)))) kn = some (.inl (k 0, 300, .inl (fun i_ => nI ((nu tk tc x) i_)))) := (mp_up_n (mp_ne hkn__L hek__L (by simp))).trans hkn__L
      have hrw__L_n : mp_up (mp_up (mp_up M_5 ek (.inl (k 0, 4000, .inl (fun i_ => nI ((kno x wt kd ec i) i_))))) el (.inl (k 1, 4000, .inr (.inl (vin va (kno x wt kd ec i) ec (ec + i)))))) ek (.inl (k 0, 4000, .inl (fun i_ => nI ((kno x wt kd ec (i + 1)) i_)))) rw = some (.inl (k 0, 12, .inl (fun i_ => nI (wt i_)))) := (mp_up_n (mp_ne hrw__L hek__L (by simp))).trans hrw__L
      have hpp__L_n : mp_up (mp_up (mp_up M_5 ek (.inl (k 0, 4000, .inl (fun i_ => nI ((kno x wt kd ec i) i_))))) el (.inl (k 1, 4000, .inr (.inl (vin va (kno x wt kd ec i) ec (ec + i)))))) ek (.inl (k 0, 4000, .inl (fun i_ => nI ((kno x wt kd ec (i + 1)) i_)))) pp = some (.inl (k 0, 100, .inl (fun i_ => nI (sf i_)))) := (mp_up_n (mp_ne hpp__L hek__L (by simp))).trans hpp__L
      have hpk__L_n : mp_up (mp_up (mp_up M_5 ek (.inl (k 0, 4000, .inl (fun i_ => nI ((kno x wt kd ec i) i_))))) el (.inl (k 1, 4000, .inr (.inl (vin va (kno x wt kd ec i) ec (ec + i)))))) ek (.inl (k 0, 4000, .inl (fun i_ => nI ((kno x wt kd ec (i + 1)) i_)))) pk = some (.inl (k 0, 100, .inl (fun i_ => nI (sk i_)))) := (mp_up_n (mp_ne hpk__L hek__L (by simp))).trans hpk__L
      have hwd__L_n : mp_up (mp_up (mp_up M_5 ek (.inl (k 0, 4000, .inl (fun i_ => nI ((kno x wt kd ec i) i_))))) el (.inl (k 1, 4000, .inr (.inl (vin va (kno x wt kd ec i) ec (ec + i)))))) ek (.inl (k 0, 4000, .inl (fun i_ => nI ((kno x wt kd ec (i + 1)) i_)))) wd = some (.inl (k 0, 100, .inl (fun i_ => nI (sw i_)))) := (mp_up_n (mp_ne hwd__L hek__L (by simp))).trans hwd__L
      have hlo__L_n : mp_up (mp_up (mp_up M_5 ek (.inl (k 0, 4000, .inl (fun i_ => nI ((kno x wt kd ec i) i_))))) el (.inl (k 1, 4000, .inr (.inl (vin va (kno x wt kd ec i) ec (ec + i)))))) ek (.inl (k 0, 4000, .inl (fun i_ => nI ((kno x wt kd ec (i + 1)) i_)))) lo = some (.inl (k 5, 100, .inl (fun i_ => nI (ml i_)))) := (mp_up_n (mp_ne hlo__L hek__L (by simp))).trans hlo__L
      have hkp__L_n : mp_up (mp_up (mp_up M_5 ek (.inl (k 0, 4000, .inl (fun i_ => nI ((kno x wt kd ec i) i_))))) el (.inl (k 1, 4000, .inr (.inl (vin va (kno x wt kd ec i) ec (ec + i)))))) ek (.inl (k 0, 4000, .inl (fun i_ => nI ((kno x wt kd ec (i + 1)) i_)))) kp = some (.inl (k 1, 80000, .inr (.inl mk))) := (mp_up_n (mp_ne hkp__L hek__L (by simp))).trans hkp__L
      have hks__L_n : mp_up (mp_up (mp_up M_5 ek (.inl (k 0, 4000, .inl (fun i_ => nI ((kno x wt kd ec i) i_))))) el (.inl (k 1, 4000, .inr (.inl (vin va (kno x wt kd ec i) ec (ec + i)))))) ek (.inl (k 0, 4000, .inl (fun i_ => nI ((kno x wt kd ec (i + 1)) i_)))) ks = some (.inl (k 0, 20, .inl (fun i_ => nI (nn i_)))) := (mp_up_n (mp_ne hks__L hek__L (by simp))).trans hks__L
      generalize eM_14 : mp_up (mp_up (mp_up M_5 ek (.inl (k 0, 4000, .inl (fun i_ => nI ((kno x wt kd ec i) i_))))) el (.inl (k 1, 4000, .inr (.inl (vin va (kno x wt kd ec i) ec (ec + i)))))) ek (.inl (k 0, 4000, .inl (fun i_ => nI ((kno x wt kd ec (i + 1)) i_)))) = M_13 at I h0__L_n hel__L_n hek__L_n hbg__L_n hsz__L_n hkn__L_n hrw__L_n hpp__L_n hpk__L_n hwd__L_n hlo__L_n hkp__L_n hks__L_n
      have h0__M_13 := h0__L_n
      have hel__M_13 := hel__L_n
      have hek__M_13 := hek__L_n
      have hbg__M_13 := hbg__L_n
      have hsz__M_13 := hsz__L_n
      have hkn__M_13 := hkn__L_n
      have hrw__M_13 := hrw__L_n
      have hpp__M_13 := hpp__L_n
      have hpk__M_13 := hpk__L_n
      have hwd__M_13 := hwd__L_n
      have hlo__M_13 := hlo__L_n
      have hkp__M_13 := hkp__L_n
      have hks__M_13 := hks__L_n
      clear h0__L_n hel__L_n hek__L_n hbg__L_n hsz__L_n hkn__L_n hrw__L_n hpp__L_n hpk__L_n hwd__L_n hlo__L_n hkp__L_n hks__L_n
      refine lv_aload_n hx hb dM_newObject_65 rfl (lv_at hl 1 rfl) ?_
      refine mp_get (v := .ref el) hx hb hts inM hown I h0__M_13 rfl 0 (by decide) (hts _ bw_331) (fun _ h9 => h9) rfl dM_newObject_66 ?_
      refine lv_aload_n hx hb dM_newObject_69 rfl (lv_at hl 1 rfl) ?_
      refine mp_get (v := .int (nI ec)) hx hb hts inM hown I h0__M_13 rfl 2 (by decide) (hts _ bw_333) (fun _ h9 => h9) rfl dM_newObject_70 ?_
      refine lv_iload_n hx hb dM_newObject_73 rfl (lv_at hl 0 rfl) ?_
      refine zz_iadd hx hb dM_newObject_74 ?_
      refine lv_aload_n hx hb dM_newObject_75 rfl (lv_at hl 1 rfl) ?_
      refine mp_get (v := .ref ek) hx hb hts inM hown I h0__M_13 rfl 1 (by decide) (hts _ bw_332) (fun _ h9 => h9) rfl dM_newObject_76 ?_
      refine lv_aload_n hx hb dM_newObject_79 rfl (lv_at hl 1 rfl) ?_
      refine mp_get (v := .int (nI ec)) hx hb hts inM hown I h0__M_13 rfl 2 (by decide) (hts _ bw_333) (fun _ h9 => h9) rfl dM_newObject_80 ?_
      refine lv_iload_n hx hb dM_newObject_83 rfl (lv_at hl 0 rfl) ?_
      refine zz_iadd hx hb dM_newObject_84 ?_
      refine mp_iald hx hb I 0 hek__M_13 rfl (ec + i) rfl (by omega) (by decide) (v := nI ((kno x wt kd ec (i + 1)) (ec + i))) rfl dM_newObject_85 ?_
      have hk7 : kno x wt kd ec (i + 1) (ec + i) ≤ 7 := kno_le hx7 (fun h q hq => (hwt h).2 q (by omega)) hkd (by omega)
      refine lv_bipush (v := nI 7) hx hb dM_newObject_86 (by decide) ?_
      refine zz_icmp_ne (tgt := 97) hx hb (nI_toInt (by first | assumption | omega)) (nI_toInt (by decide)) dM_newObject_88 (by decide) (fun c_15 => ?_) (fun c_15 => ?_)
      · refine lv_lconst (v := 0) hx hb dM_newObject_97 (by decide) ?_
        refine mp_last hx hb I 1 hel__M_13 rfl (x := 0) (ec + i) rfl (by omega) (by decide) dM_newObject_98 (fun H locs I => ?_)
        rw [vin_k (by rw [if_neg (by omega)])] at I
        refine lv_iinc (v := nI (i + 1)) (lv' := [(3, .int (nI (i + 1))), (0, .ref mo), (1, .int (nI x)), (2, .int (nI n))]) hx hb dM_newObject_99 hl (k := 0) rfl (nI_add i 1) (by decide) rfl (fun ls hl => ?_)
        refine lv_goto (tgt := 35) hx hb dM_newObject_102 (by decide) ?_
        have I := I.to (show mp_up M_13 el (.inl (k 1, 4000, .inr (.inl (vin va (kno x wt kd ec (i + 1)) ec (ec + (i + 1)))))) = mp_up (mp_up M_5 ek (.inl (k 0, 4000, .inl (fun i_ => nI ((kno x wt kd ec (i + 1)) i_))))) el (.inl (k 1, 4000, .inr (.inl (vin va (kno x wt kd ec (i + 1)) ec (ec + (i + 1)))))) by rw [← eM_14, mp_up4 (mp_ne hek__M_5 hel__M_5 (by simp))])
        exact ih_i _ _ _ (by omega) (lv_sub hl [0, 1, 2, 3] rfl) I
      · refine lv_ldc2 (v := (-1)) hx hb hown (hts _ bw_402) dM_newObject_91 ?_
        refine lv_goto (tgt := 98) hx hb dM_newObject_94 (by decide) ?_
        refine mp_last hx hb I 1 hel__M_13 rfl (x := (-1)) (ec + i) rfl (by omega) (by decide) dM_newObject_98 (fun H locs I => ?_)
        rw [vin_k (by rw [if_pos (by omega)])] at I
        refine lv_iinc (v := nI (i + 1)) (lv' := [(3, .int (nI (i + 1))), (0, .ref mo), (1, .int (nI x)), (2, .int (nI n))]) hx hb dM_newObject_99 hl (k := 0) rfl (nI_add i 1) (by decide) rfl (fun ls hl => ?_)
        refine lv_goto (tgt := 35) hx hb dM_newObject_102 (by decide) ?_
        have I := I.to (show mp_up M_13 el (.inl (k 1, 4000, .inr (.inl (vin va (kno x wt kd ec (i + 1)) ec (ec + (i + 1)))))) = mp_up (mp_up M_5 ek (.inl (k 0, 4000, .inl (fun i_ => nI ((kno x wt kd ec (i + 1)) i_))))) el (.inl (k 1, 4000, .inr (.inl (vin va (kno x wt kd ec (i + 1)) ec (ec + (i + 1)))))) by rw [← eM_14, mp_up4 (mp_ne hek__M_5 hel__M_5 (by simp))])
        exact ih_i _ _ _ (by omega) (lv_sub hl [0, 1, 2, 3] rfl) I
    · have hwi := hwt (by omega)
      refine lv_aload_n hx hb dM_newObject_54 rfl (lv_at hl 1 rfl) ?_
      refine mp_get (v := .ref rw) hx hb hts inM hown I h0__L rfl 7 (by decide) (hts _ bw_338) (fun _ h9 => h9) rfl dM_newObject_55 ?_
      refine lv_iload_n hx hb dM_newObject_58 rfl (lv_at hl 0 rfl) ?_
      refine mp_iald hx hb I 0 hrw__L rfl i rfl (by omega) (by decide) (v := nI (wt i)) rfl dM_newObject_59 ?_
      refine lv_goto (tgt := 64) hx hb dM_newObject_60 (by decide) ?_
      refine mp_iast hx hb I 0 hek__L rfl (x := nI (wt i)) (ec + i) rfl (by omega) (by decide) dM_newObject_64 (fun H locs I => ?_)
      rw [upd_nI, kno_s (by rw [if_pos (by omega)])] at I
      have I : mp_I D cls5 (tys6 k) s _ s.heap H locs (mp_up (mp_up (mp_up M_5 ek (.inl (k 0, 4000, .inl (fun i_ => nI ((kno x wt kd ec i) i_))))) el (.inl (k 1, 4000, .inr (.inl (vin va (kno x wt kd ec i) ec (ec + i)))))) ek (.inl (k 0, 4000, .inl (fun i_ => nI ((kno x wt kd ec (i + 1)) i_))))) := I
      have hek__L_n : mp_up (mp_up (mp_up M_5 ek (.inl (k 0, 4000, .inl (fun i_ => nI ((kno x wt kd ec i) i_))))) el (.inl (k 1, 4000, .inr (.inl (vin va (kno x wt kd ec i) ec (ec + i)))))) ek (.inl (k 0, 4000, .inl (fun i_ => nI ((kno x wt kd ec (i + 1)) i_)))) ek = some (.inl (k 0, 4000, .inl (fun i_ => nI ((kno x wt kd ec (i + 1)) i_)))) := mp_up_s _ _ _
      have h0__L_n : mp_up (mp_up (mp_up M_5 ek (.inl (k 0, 4000, .inl (fun i_ => nI ((kno x wt kd ec i) i_))))) el (.inl (k 1, 4000, .inr (.inl (vin va (kno x wt kd ec i) ec (ec + i)))))) ek (.inl (k 0, 4000, .inl (fun i_ => nI ((kno x wt kd ec (i + 1)) i_)))) mo = some (.inr (4, [.ref el, .ref ek, .int (nI ec), .ref bg, .ref sz, .ref kn, .int (nI tc), .ref rw, .int (nI wc), .ref pp, .ref pk, .ref wd, .ref lo, .int (nI sc), .ref kp, .ref ks, .int (nI nc), .int (nI th)])) := (mp_up_n (mp_ne h0__L hek__L (by simp))).trans h0__L
      have hel__L_n : mp_up (mp_up (mp_up M_5 ek (.inl (k 0, 4000, .inl (fun i_ => nI ((kno x wt kd ec i) i_))))) el (.inl (k 1, 4000, .inr (.inl (vin va (kno x wt kd ec i) ec (ec + i)))))) ek (.inl (k 0, 4000, .inl (fun i_ => nI ((kno x wt kd ec (i + 1)) i_)))) el = some (.inl (k 1, 4000, .inr (.inl (vin va (kno x wt kd ec i) ec (ec + i))))) := (mp_up_n (mp_ne hel__L hek__L (by simp))).trans hel__L
      have hbg__L_n : mp_up (mp_up (mp_up M_5 ek (.inl (k 0, 4000, .inl (fun i_ => nI ((kno x wt kd ec i) i_))))) el (.inl (k 1, 4000, .inr (.inl (vin va (kno x wt kd ec i) ec (ec + i)))))) ek (.inl (k 0, 4000, .inl (fun i_ => nI ((kno x wt kd ec (i + 1)) i_)))) bg = some (.inl (k 0, 300, .inl (fun i_ => nI ((nu tf tc ec) i_)))) := (mp_up_n (mp_ne hbg__L hek__L (by simp))).trans hbg__L
      have hsz__L_n : mp_up (mp_up (mp_up M_5 ek (.inl (k 0, 4000, .inl (fun i_ => nI ((kno x wt kd ec i) i_))))) el (.inl (k 1, 4000, .inr (.inl (vin va (kno x wt kd ec i) ec (ec + i)))))) ek (.inl (k 0, 4000, .inl (fun i_ => nI ((kno x wt kd ec (i + 1)) i_)))) sz = some (.inl (k 0, 300, .inl (fun i_ => nI ((nu tz tc n) i_)))) := (mp_up_n (mp_ne hsz__L hek__L (by simp))).trans hsz__L
      have hkn__L_n : mp_up (mp_up (mp_up M_5 ek (.inl (k 0, 4000, .inl (fun i_ => nI ((kno x wt kd ec i) i_))))) el (.inl (k 1, 4000, .inr (.inl (vin va (kno x wt kd ec i) ec (ec + i)))))) ek (.inl (k 0, 4000, .inl (fun i_ => nI ((kno x wt kd ec (i + 1)) i_)))) kn = some (.inl (k 0, 300, .inl (fun i_ => nI ((nu tk tc x) i_)))) := (mp_up_n (mp_ne hkn__L hek__L (by simp))).trans hkn__L
      have hrw__L_n : mp_up (mp_up (mp_up M_5 ek (.inl (k 0, 4000, .inl (fun i_ => nI ((kno x wt kd ec i) i_))))) el (.inl (k 1, 4000, .inr (.inl (vin va (kno x wt kd ec i) ec (ec + i)))))) ek (.inl (k 0, 4000, .inl (fun i_ => nI ((kno x wt kd ec (i + 1)) i_)))) rw = some (.inl (k 0, 12, .inl (fun i_ => nI (wt i_)))) := (mp_up_n (mp_ne hrw__L hek__L (by simp))).trans hrw__L
      have hpp__L_n : mp_up (mp_up (mp_up M_5 ek (.inl (k 0, 4000, .inl (fun i_ => nI ((kno x wt kd ec i) i_))))) el (.inl (k 1, 4000, .inr (.inl (vin va (kno x wt kd ec i) ec (ec + i)))))) ek (.inl (k 0, 4000, .inl (fun i_ => nI ((kno x wt kd ec (i + 1)) i_)))) pp = some (.inl (k 0, 100, .inl (fun i_ => nI (sf i_)))) := (mp_up_n (mp_ne hpp__L hek__L (by simp))).trans hpp__L
      have hpk__L_n : mp_up (mp_up (mp_up M_5 ek (.inl (k 0, 4000, .inl (fun i_ => nI ((kno x wt kd ec i) i_))))) el (.inl (k 1, 4000, .inr (.inl (vin va (kno x wt kd ec i) ec (ec + i)))))) ek (.inl (k 0, 4000, .inl (fun i_ => nI ((kno x wt kd ec (i + 1)) i_)))) pk = some (.inl (k 0, 100, .inl (fun i_ => nI (sk i_)))) := (mp_up_n (mp_ne hpk__L hek__L (by simp))).trans hpk__L
      have hwd__L_n : mp_up (mp_up (mp_up M_5 ek (.inl (k 0, 4000, .inl (fun i_ => nI ((kno x wt kd ec i) i_))))) el (.inl (k 1, 4000, .inr (.inl (vin va (kno x wt kd ec i) ec (ec + i)))))) ek (.inl (k 0, 4000, .inl (fun i_ => nI ((kno x wt kd ec (i + 1)) i_)))) wd = some (.inl (k 0, 100, .inl (fun i_ => nI (sw i_)))) := (mp_up_n (mp_ne hwd__L hek__L (by simp))).trans hwd__L
      have hlo__L_n : mp_up (mp_up (mp_up M_5 ek (.inl (k 0, 4000, .inl (fun i_ => nI ((kno x wt kd ec i) i_))))) el (.inl (k 1, 4000, .inr (.inl (vin va (kno x wt kd ec i) ec (ec + i)))))) ek (.inl (k 0, 4000, .inl (fun i_ => nI ((kno x wt kd ec (i + 1)) i_)))) lo = some (.inl (k 5, 100, .inl (fun i_ => nI (ml i_)))) := (mp_up_n (mp_ne hlo__L hek__L (by simp))).trans hlo__L
      have hkp__L_n : mp_up (mp_up (mp_up M_5 ek (.inl (k 0, 4000, .inl (fun i_ => nI ((kno x wt kd ec i) i_))))) el (.inl (k 1, 4000, .inr (.inl (vin va (kno x wt kd ec i) ec (ec + i)))))) ek (.inl (k 0, 4000, .inl (fun i_ => nI ((kno x wt kd ec (i + 1)) i_)))) kp = some (.inl (k 1, 80000, .inr (.inl mk))) := (mp_up_n (mp_ne hkp__L hek__L (by simp))).trans hkp__L
      have hks__L_n : mp_up (mp_up (mp_up M_5 ek (.inl (k 0, 4000, .inl (fun i_ => nI ((kno x wt kd ec i) i_))))) el (.inl (k 1, 4000, .inr (.inl (vin va (kno x wt kd ec i) ec (ec + i)))))) ek (.inl (k 0, 4000, .inl (fun i_ => nI ((kno x wt kd ec (i + 1)) i_)))) ks = some (.inl (k 0, 20, .inl (fun i_ => nI (nn i_)))) := (mp_up_n (mp_ne hks__L hek__L (by simp))).trans hks__L
      generalize eM_17 : mp_up (mp_up (mp_up M_5 ek (.inl (k 0, 4000, .inl (fun i_ => nI ((kno x wt kd ec i) i_))))) el (.inl (k 1, 4000, .inr (.inl (vin va (kno x wt kd ec i) ec (ec + i)))))) ek (.inl (k 0, 4000, .inl (fun i_ => nI ((kno x wt kd ec (i + 1)) i_)))) = M_16 at I h0__L_n hel__L_n hek__L_n hbg__L_n hsz__L_n hkn__L_n hrw__L_n hpp__L_n hpk__L_n hwd__L_n hlo__L_n hkp__L_n hks__L_n
      have h0__M_16 := h0__L_n
      have hel__M_16 := hel__L_n
      have hek__M_16 := hek__L_n
      have hbg__M_16 := hbg__L_n
      have hsz__M_16 := hsz__L_n
      have hkn__M_16 := hkn__L_n
      have hrw__M_16 := hrw__L_n
      have hpp__M_16 := hpp__L_n
      have hpk__M_16 := hpk__L_n
      have hwd__M_16 := hwd__L_n
      have hlo__M_16 := hlo__L_n
      have hkp__M_16 := hkp__L_n
      have hks__M_16 := hks__L_n
      clear h0__L_n hel__L_n hek__L_n hbg__L_n hsz__L_n hkn__L_n hrw__L_n hpp__L_n hpk__L_n hwd__L_n hlo__L_n hkp__L_n hks__L_n
      refine lv_aload_n hx hb dM_newObject_65 rfl (lv_at hl 1 rfl) ?_
      refine mp_get (v := .ref el) hx hb hts inM hown I h0__M_16 rfl 0 (by decide) (hts _ bw_331) (fun _ h9 => h9) rfl dM_newObject_66 ?_
      refine lv_aload_n hx hb dM_newObject_69 rfl (lv_at hl 1 rfl) ?_
      refine mp_get (v := .int (nI ec)) hx hb hts inM hown I h0__M_16 rfl 2 (by decide) (hts _ bw_333) (fun _ h9 => h9) rfl dM_newObject_70 ?_
      refine lv_iload_n hx hb dM_newObject_73 rfl (lv_at hl 0 rfl) ?_
      refine zz_iadd hx hb dM_newObject_74 ?_
      refine lv_aload_n hx hb dM_newObject_75 rfl (lv_at hl 1 rfl) ?_
      refine mp_get (v := .ref ek) hx hb hts inM hown I h0__M_16 rfl 1 (by decide) (hts _ bw_332) (fun _ h9 => h9) rfl dM_newObject_76 ?_
      refine lv_aload_n hx hb dM_newObject_79 rfl (lv_at hl 1 rfl) ?_
      refine mp_get (v := .int (nI ec)) hx hb hts inM hown I h0__M_16 rfl 2 (by decide) (hts _ bw_333) (fun _ h9 => h9) rfl dM_newObject_80 ?_
      refine lv_iload_n hx hb dM_newObject_83 rfl (lv_at hl 0 rfl) ?_
      refine zz_iadd hx hb dM_newObject_84 ?_
      refine mp_iald hx hb I 0 hek__M_16 rfl (ec + i) rfl (by omega) (by decide) (v := nI ((kno x wt kd ec (i + 1)) (ec + i))) rfl dM_newObject_85 ?_
      have hk7 : kno x wt kd ec (i + 1) (ec + i) ≤ 7 := kno_le hx7 (fun h q hq => (hwt h).2 q (by omega)) hkd (by omega)
      refine lv_bipush (v := nI 7) hx hb dM_newObject_86 (by decide) ?_
      refine zz_icmp_ne (tgt := 97) hx hb (nI_toInt (by first | assumption | omega)) (nI_toInt (by decide)) dM_newObject_88 (by decide) (fun c_18 => ?_) (fun c_18 => ?_)
      · refine lv_lconst (v := 0) hx hb dM_newObject_97 (by decide) ?_
        refine mp_last hx hb I 1 hel__M_16 rfl (x := 0) (ec + i) rfl (by omega) (by decide) dM_newObject_98 (fun H locs I => ?_)
        rw [vin_k (by rw [if_neg (by omega)])] at I
        refine lv_iinc (v := nI (i + 1)) (lv' := [(3, .int (nI (i + 1))), (0, .ref mo), (1, .int (nI x)), (2, .int (nI n))]) hx hb dM_newObject_99 hl (k := 0) rfl (nI_add i 1) (by decide) rfl (fun ls hl => ?_)
        refine lv_goto (tgt := 35) hx hb dM_newObject_102 (by decide) ?_
        have I := I.to (show mp_up M_16 el (.inl (k 1, 4000, .inr (.inl (vin va (kno x wt kd ec (i + 1)) ec (ec + (i + 1)))))) = mp_up (mp_up M_5 ek (.inl (k 0, 4000, .inl (fun i_ => nI ((kno x wt kd ec (i + 1)) i_))))) el (.inl (k 1, 4000, .inr (.inl (vin va (kno x wt kd ec (i + 1)) ec (ec + (i + 1)))))) by rw [← eM_17, mp_up4 (mp_ne hek__M_5 hel__M_5 (by simp))])
        exact ih_i _ _ _ (by omega) (lv_sub hl [0, 1, 2, 3] rfl) I
      · refine lv_ldc2 (v := (-1)) hx hb hown (hts _ bw_402) dM_newObject_91 ?_
        refine lv_goto (tgt := 98) hx hb dM_newObject_94 (by decide) ?_
        refine mp_last hx hb I 1 hel__M_16 rfl (x := (-1)) (ec + i) rfl (by omega) (by decide) dM_newObject_98 (fun H locs I => ?_)
        rw [vin_k (by rw [if_pos (by omega)])] at I
        refine lv_iinc (v := nI (i + 1)) (lv' := [(3, .int (nI (i + 1))), (0, .ref mo), (1, .int (nI x)), (2, .int (nI n))]) hx hb dM_newObject_99 hl (k := 0) rfl (nI_add i 1) (by decide) rfl (fun ls hl => ?_)
        refine lv_goto (tgt := 35) hx hb dM_newObject_102 (by decide) ?_
        have I := I.to (show mp_up M_16 el (.inl (k 1, 4000, .inr (.inl (vin va (kno x wt kd ec (i + 1)) ec (ec + (i + 1)))))) = mp_up (mp_up M_5 ek (.inl (k 0, 4000, .inl (fun i_ => nI ((kno x wt kd ec (i + 1)) i_))))) el (.inl (k 1, 4000, .inr (.inl (vin va (kno x wt kd ec (i + 1)) ec (ec + (i + 1)))))) by rw [← eM_17, mp_up4 (mp_ne hek__M_5 hel__M_5 (by simp))])
        exact ih_i _ _ _ (by omega) (lv_sub hl [0, 1, 2, 3] rfl) I
abbrev rm_M_row : Room := { frames := 1, cells := 0, slots := 0, locals := 30 }
set_option maxHeartbeats 4000000 in
set_option maxRecDepth 100000 in
theorem kM_row (l : Launch) (D : va_G) (k : Nat → ClassId) (M : mp_M) {mo el ek bg sz kn rw pp pk wd lo kp ks : Nat} {ec tc wc sc nc th : Nat} {va mk : Nat → Int64} {kd wt tk tf tz sk sf sw ml nn : Nat → Nat} (hE : MdX k M mo el ek bg sz kn rw pp pk wd lo kp ks ec tc wc sc nc th va mk kd wt tk tf tz sk sf sw ml nn) (hO : OkB ec tc wc sc nc tk tf tz sk sf sw ml nn) (hkd : ∀ i, i < ec → kd i ≤ 7) (x y : Int32) : mp_Met l yM_row (Cond.code yM_row cM_row 3 (some .int) :: bw) rm_M_row D cls5 (tys6 k) [.ref mo, .int x, .int y] M (va_Qi (fun r M1 => ((tc < 300 ∧ (1 ≤ x.toInt ∧ x.toInt ≤ 7) ∧ 0 ≤ y.toInt ∧ y.toInt ≤ 200 ∧ y.toInt + ec ≤ 4000) ∧ r = nI tc ∧ ∃ xn yn : Nat, x.toInt = xn ∧ y.toInt = yn ∧ MdX k M1 mo el ek bg sz kn rw pp pk wd lo kp ks (ec + yn) (tc + 1) wc sc nc (0) (vin va (kfl kd ec yn xn) ec (ec + yn)) mk (kfl kd ec yn xn) wt (nu tk tc xn) (nu tf tc ec) (nu tz tc yn) sk sf sw ml nn) ∨ (¬ (tc < 300 ∧ (1 ≤ x.toInt ∧ x.toInt ≤ 7) ∧ 0 ≤ y.toInt ∧ y.toInt ≤ 200 ∧ y.toInt + ec ≤ 4000) ∧ r = -1 ∧ MdX k M1 mo el ek bg sz kn rw pp pk wd lo kp ks ec tc wc sc nc (0) va mk kd wt tk tf tz sk sf sw ml nn))) 0 0 := by
  refine mp_Met.of (by decide) (Nat.le_of_ble_eq_true rfl) ?_
  intro p e s m below meth c hx hb hr hml hown hts hlocks hin ls hl I
  have hl : lv_has ls 3 [(0, .ref mo), (1, .int x), (2, .int y)] := hl
  obtain ⟨h0, hel, hek, hbg, hsz, hkn, hrw, hpp, hpk, hwd, hlo, hkp, hks, n_bg_sz, n_bg_kn, n_sz_kn, n_pp_pk, n_pp_wd, n_pk_wd, n_pp_lo, n_pk_lo, n_wd_lo⟩ := id hE
  obtain ⟨b1, b2, b3, b4, b5, bT, bS, bN⟩ := id hO
  refine lv_aload_n hx hb dM_row_0 rfl (lv_at hl 0 rfl) ?_
  refine lv_iconst (v := nI 0) hx hb dM_row_1 (by decide) ?_
  refine mp_put (v := .int (nI 0)) (ty := .int) hx hb hts inM tyM okM nmM hown I h0 rfl 17 (by decide) (hts _ bw_348) (fun _ h9 => h9) rfl (by decide +kernel) rfl rfl (Nat.le_of_ble_eq_true rfl) dM_row_2 (fun H locs I => ?_)
  have I : mp_I D cls5 (tys6 k) s _ s.heap H locs (mp_up M mo (.inr (4, [.ref el, .ref ek, .int (nI ec), .ref bg, .ref sz, .ref kn, .int (nI tc), .ref rw, .int (nI wc), .ref pp, .ref pk, .ref wd, .ref lo, .int (nI sc), .ref kp, .ref ks, .int (nI nc), .int (nI 0)]))) := I
  have h0_n : mp_up M mo (.inr (4, [.ref el, .ref ek, .int (nI ec), .ref bg, .ref sz, .ref kn, .int (nI tc), .ref rw, .int (nI wc), .ref pp, .ref pk, .ref wd, .ref lo, .int (nI sc), .ref kp, .ref ks, .int (nI nc), .int (nI 0)])) mo = some (.inr (4, [.ref el, .ref ek, .int (nI ec), .ref bg, .ref sz, .ref kn, .int (nI tc), .ref rw, .int (nI wc), .ref pp, .ref pk, .ref wd, .ref lo, .int (nI sc), .ref kp, .ref ks, .int (nI nc), .int (nI 0)])) := mp_up_s _ _ _
  have hel_n : mp_up M mo (.inr (4, [.ref el, .ref ek, .int (nI ec), .ref bg, .ref sz, .ref kn, .int (nI tc), .ref rw, .int (nI wc), .ref pp, .ref pk, .ref wd, .ref lo, .int (nI sc), .ref kp, .ref ks, .int (nI nc), .int (nI 0)])) el = some (.inl (k 1, 4000, .inr (.inl va))) := (mp_up_n (mp_ne hel h0 (by simp))).trans hel
  have hek_n : mp_up M mo (.inr (4, [.ref el, .ref ek, .int (nI ec), .ref bg, .ref sz, .ref kn, .int (nI tc), .ref rw, .int (nI wc), .ref pp, .ref pk, .ref wd, .ref lo, .int (nI sc), .ref kp, .ref ks, .int (nI nc), .int (nI 0)])) ek = some (.inl (k 0, 4000, .inl (fun i_ => nI (kd i_)))) := (mp_up_n (mp_ne hek h0 (by simp))).trans hek
  have hbg_n : mp_up M mo (.inr (4, [.ref el, .ref ek, .int (nI ec), .ref bg, .ref sz, .ref kn, .int (nI tc), .ref rw, .int (nI wc), .ref pp, .ref pk, .ref wd, .ref lo, .int (nI sc), .ref kp, .ref ks, .int (nI nc), .int (nI 0)])) bg = some (.inl (k 0, 300, .inl (fun i_ => nI (tf i_)))) := (mp_up_n (mp_ne hbg h0 (by simp))).trans hbg
  have hsz_n : mp_up M mo (.inr (4, [.ref el, .ref ek, .int (nI ec), .ref bg, .ref sz, .ref kn, .int (nI tc), .ref rw, .int (nI wc), .ref pp, .ref pk, .ref wd, .ref lo, .int (nI sc), .ref kp, .ref ks, .int (nI nc), .int (nI 0)])) sz = some (.inl (k 0, 300, .inl (fun i_ => nI (tz i_)))) := (mp_up_n (mp_ne hsz h0 (by simp))).trans hsz
  have hkn_n : mp_up M mo (.inr (4, [.ref el, .ref ek, .int (nI ec), .ref bg, .ref sz, .ref kn, .int (nI tc), .ref rw, .int (nI wc), .ref pp, .ref pk, .ref wd, .ref lo, .int (nI sc), .ref kp, .ref ks, .int (nI nc), .int (nI 0)])) kn = some (.inl (k 0, 300, .inl (fun i_ => nI (tk i_)))) := (mp_up_n (mp_ne hkn h0 (by simp))).trans hkn
  have hrw_n : mp_up M mo (.inr (4, [.ref el, .ref ek, .int (nI ec), .ref bg, .ref sz, .ref kn, .int (nI tc), .ref rw, .int (nI wc), .ref pp, .ref pk, .ref wd, .ref lo, .int (nI sc), .ref kp, .ref ks, .int (nI nc), .int (nI 0)])) rw = some (.inl (k 0, 12, .inl (fun i_ => nI (wt i_)))) := (mp_up_n (mp_ne hrw h0 (by simp))).trans hrw
  have hpp_n : mp_up M mo (.inr (4, [.ref el, .ref ek, .int (nI ec), .ref bg, .ref sz, .ref kn, .int (nI tc), .ref rw, .int (nI wc), .ref pp, .ref pk, .ref wd, .ref lo, .int (nI sc), .ref kp, .ref ks, .int (nI nc), .int (nI 0)])) pp = some (.inl (k 0, 100, .inl (fun i_ => nI (sf i_)))) := (mp_up_n (mp_ne hpp h0 (by simp))).trans hpp
  have hpk_n : mp_up M mo (.inr (4, [.ref el, .ref ek, .int (nI ec), .ref bg, .ref sz, .ref kn, .int (nI tc), .ref rw, .int (nI wc), .ref pp, .ref pk, .ref wd, .ref lo, .int (nI sc), .ref kp, .ref ks, .int (nI nc), .int (nI 0)])) pk = some (.inl (k 0, 100, .inl (fun i_ => nI (sk i_)))) := (mp_up_n (mp_ne hpk h0 (by simp))).trans hpk
  have hwd_n : mp_up M mo (.inr (4, [.ref el, .ref ek, .int (nI ec), .ref bg, .ref sz, .ref kn, .int (nI tc), .ref rw, .int (nI wc), .ref pp, .ref pk, .ref wd, .ref lo, .int (nI sc), .ref kp, .ref ks, .int (nI nc), .int (nI 0)])) wd = some (.inl (k 0, 100, .inl (fun i_ => nI (sw i_)))) := (mp_up_n (mp_ne hwd h0 (by simp))).trans hwd
  have hlo_n : mp_up M mo (.inr (4, [.ref el, .ref ek, .int (nI ec), .ref bg, .ref sz, .ref kn, .int (nI tc), .ref rw, .int (nI wc), .ref pp, .ref pk, .ref wd, .ref lo, .int (nI sc), .ref kp, .ref ks, .int (nI nc), .int (nI 0)])) lo = some (.inl (k 5, 100, .inl (fun i_ => nI (ml i_)))) := (mp_up_n (mp_ne hlo h0 (by simp))).trans hlo
  have hkp_n : mp_up M mo (.inr (4, [.ref el, .ref ek, .int (nI ec), .ref bg, .ref sz, .ref kn, .int (nI tc), .ref rw, .int (nI wc), .ref pp, .ref pk, .ref wd, .ref lo, .int (nI sc), .ref kp, .ref ks, .int (nI nc), .int (nI 0)])) kp = some (.inl (k 1, 80000, .inr (.inl mk))) := (mp_up_n (mp_ne hkp h0 (by simp))).trans hkp
  have hks_n : mp_up M mo (.inr (4, [.ref el, .ref ek, .int (nI ec), .ref bg, .ref sz, .ref kn, .int (nI tc), .ref rw, .int (nI wc), .ref pp, .ref pk, .ref wd, .ref lo, .int (nI sc), .ref kp, .ref ks, .int (nI nc), .int (nI 0)])) ks = some (.inl (k 0, 20, .inl (fun i_ => nI (nn i_)))) := (mp_up_n (mp_ne hks h0 (by simp))).trans hks
  generalize eM_2 : mp_up M mo (.inr (4, [.ref el, .ref ek, .int (nI ec), .ref bg, .ref sz, .ref kn, .int (nI tc), .ref rw, .int (nI wc), .ref pp, .ref pk, .ref wd, .ref lo, .int (nI sc), .ref kp, .ref ks, .int (nI nc), .int (nI 0)])) = M_1 at I h0_n hel_n hek_n hbg_n hsz_n hkn_n hrw_n hpp_n hpk_n hwd_n hlo_n hkp_n hks_n
  have h0__M_1 := h0_n
  have hel__M_1 := hel_n
  have hek__M_1 := hek_n
  have hbg__M_1 := hbg_n
  have hsz__M_1 := hsz_n
  have hkn__M_1 := hkn_n
  have hrw__M_1 := hrw_n
  have hpp__M_1 := hpp_n
  have hpk__M_1 := hpk_n
  have hwd__M_1 := hwd_n
  have hlo__M_1 := hlo_n
  have hkp__M_1 := hkp_n
  have hks__M_1 := hks_n
  clear h0_n hel_n hek_n hbg_n hsz_n hkn_n hrw_n hpp_n hpk_n hwd_n hlo_n hkp_n hks_n
  have hE := hE.cnt ec tc wc sc nc 0
  rw [eM_2] at hE
  refine lv_aload_n hx hb dM_row_5 rfl (lv_at hl 0 rfl) ?_
  refine mp_get (v := .int (nI tc)) hx hb hts inM hown I h0__M_1 rfl 6 (by decide) (hts _ bw_337) (fun _ h9 => h9) rfl dM_row_6 ?_
  refine lv_sipush (v := nI 300) hx hb dM_row_9 (by decide) ?_
  refine zz_icmp_eq (tgt := 45) hx hb (nI_toInt (by first | assumption | omega)) (nI_toInt (by decide)) dM_row_12 (by decide) (fun c_3 => ?_) (fun c_3 => ?_)
  · refine lv_iconst (v := (-1)) hx hb dM_row_45 (by decide) ?_
    exact mp_iret hx hb hr hlocks I (Nat.le_of_ble_eq_true rfl) (Nat.le_of_ble_eq_true rfl) dM_row_46 (Or.inr ⟨by omega, rfl, hE⟩)
  · refine lv_iload_n hx hb dM_row_15 rfl (lv_at hl 1 rfl) ?_
    refine mp_calli (va_runS (As := [.int x]) (rest := []) ⟨hx, hb, hml, hown, hts⟩ (kM_isKind l D k M_1 x _) (cwS 1 hts (bw_S bw_395 bw_396 bw_2 bw_397) rfl rfl rfl (by decide +kernel) ⟨Nat.le_of_ble_eq_true rfl, Nat.le_of_ble_eq_true rfl⟩) (mp_preS I _) rfl rfl hl.1 rfl (lv_room (Nat.le_of_ble_eq_true rfl)) dM_row_16 ⟨Nat.le_of_ble_eq_true rfl, Nat.le_of_ble_eq_true rfl⟩) I (fun r_4 N_5 H locs hp I => ?_)
    obtain ⟨e_6, hp⟩ := hp
    rw [e_6] at I
    rcases hp with ⟨p1, p2, rfl⟩ | ⟨p1, rfl⟩
    · refine zz_if_eq (tgt := 45) hx hb (nI_toInt (by decide)) dM_row_19 (by decide) (fun c_7 => absurd c_7 (by decide)) (fun _ => ?_)
      refine lv_iload_n hx hb dM_row_22 rfl (lv_at hl 2 rfl) ?_
      refine zz_if_lt (tgt := 45) hx hb rfl dM_row_23 (by decide) (fun c_8 => ?_) (fun c_8 => ?_)
      · refine lv_iconst (v := (-1)) hx hb dM_row_45 (by decide) ?_
        exact mp_iret hx hb hr hlocks I (Nat.le_of_ble_eq_true rfl) (Nat.le_of_ble_eq_true rfl) dM_row_46 (Or.inr ⟨by omega, rfl, hE⟩)
      · refine lv_iload_n hx hb dM_row_26 rfl (lv_at hl 2 rfl) ?_
        refine lv_sipush (v := nI 200) hx hb dM_row_27 (by decide) ?_
        refine zz_icmp_gt (tgt := 45) hx hb rfl (nI_toInt (by decide)) dM_row_30 (by decide) (fun c_9 => ?_) (fun c_9 => ?_)
        · refine lv_iconst (v := (-1)) hx hb dM_row_45 (by decide) ?_
          exact mp_iret hx hb hr hlocks I (Nat.le_of_ble_eq_true rfl) (Nat.le_of_ble_eq_true rfl) dM_row_46 (Or.inr ⟨by omega, rfl, hE⟩)
        · obtain ⟨yn, hn_yn, rfl, hz_yn⟩ := i32_nat (x := y) (by omega)
          refine lv_aload_n hx hb dM_row_33 rfl (lv_at hl 0 rfl) ?_
          refine mp_get (v := .int (nI ec)) hx hb hts inM hown I h0__M_1 rfl 2 (by decide) (hts _ bw_333) (fun _ h9 => h9) rfl dM_row_34 ?_
          refine lv_iload_n hx hb dM_row_37 rfl (lv_at hl 2 rfl) ?_
          refine zz_iadd hx hb dM_row_38 ?_
          refine lv_sipush (v := nI 4000) hx hb dM_row_39 (by decide) ?_
          refine zz_icmp_le (tgt := 47) hx hb (nI_toInt (by first | assumption | omega)) (nI_toInt (by decide)) dM_row_42 (by decide) (fun c_10 => ?_) (fun c_10 => ?_)
          · obtain ⟨xn, hn_xn, rfl, hz_xn⟩ := i32_nat (x := x) (by omega)
            refine lv_aload_n hx hb dM_row_47 rfl (lv_at hl 0 rfl) ?_
            refine lv_iload_n hx hb dM_row_48 rfl (lv_at hl 1 rfl) ?_
            refine lv_iload_n hx hb dM_row_49 rfl (lv_at hl 2 rfl) ?_
            refine mp_calli (va_runV (As := [.int (nI xn), .int (nI yn)]) (rest := []) ⟨hx, hb, hml, hown, hts⟩ (kM_newObject l D k M_1 hE hO xn yn (by omega) (by omega) (by omega) hkd (fun h => absurd h (by omega)) _) (cwV 2 hts (bw_V bw_398 bw_400 bs_11 bw_2 bw_401) rfl rfl rfl (by decide +kernel) ⟨Nat.le_of_ble_eq_true rfl, Nat.le_of_ble_eq_true rfl⟩) (mp_preV I h0__M_1 rfl _) rfl rfl hl.1 rfl (lv_room (Nat.le_of_ble_eq_true rfl)) dM_row_50 ⟨Nat.le_of_ble_eq_true rfl, Nat.le_of_ble_eq_true rfl⟩) I (fun r1 N1 H locs hp I => ?_)
            obtain ⟨rfl, hE⟩ := hp
            rw [kno_k (by omega)] at hE
            exact mp_iret hx hb hr hlocks I (Nat.le_of_ble_eq_true rfl) (Nat.le_of_ble_eq_true rfl) dM_row_53 (Or.inl ⟨by omega, rfl, xn, yn, hz_xn, hz_yn, hE⟩)
          · refine lv_iconst (v := (-1)) hx hb dM_row_45 (by decide) ?_
            exact mp_iret hx hb hr hlocks I (Nat.le_of_ble_eq_true rfl) (Nat.le_of_ble_eq_true rfl) dM_row_46 (Or.inr ⟨by omega, rfl, hE⟩)
    · refine zz_if_eq (tgt := 45) hx hb (nI_toInt (by decide)) dM_row_19 (by decide) (fun _ => ?_) (fun c_11 => absurd c_11 (by decide))
      refine lv_iconst (v := (-1)) hx hb dM_row_45 (by decide) ?_
      exact mp_iret hx hb hr hlocks I (Nat.le_of_ble_eq_true rfl) (Nat.le_of_ble_eq_true rfl) dM_row_46 (Or.inr ⟨by omega, rfl, hE⟩)
abbrev rm_M_instance : Room := { frames := 1, cells := 0, slots := 0, locals := 30 }
set_option maxHeartbeats 4000000 in
set_option maxRecDepth 100000 in
theorem kM_instance (l : Launch) (D : va_G) (k : Nat → ClassId) (M : mp_M) {mo el ek bg sz kn rw pp pk wd lo kp ks : Nat} {ec tc wc sc nc th : Nat} {va mk : Nat → Int64} {kd wt tk tf tz sk sf sw ml nn : Nat → Nat} (hE : MdX k M mo el ek bg sz kn rw pp pk wd lo kp ks ec tc wc sc nc th va mk kd wt tk tf tz sk sf sw ml nn) (hO : OkB ec tc wc sc nc tk tf tz sk sf sw ml nn) (hkd : ∀ i, i < ec → kd i ≤ 7) (hwt : ∀ i, i < wc → wt i ≤ 7) : mp_Met l yM_instance (Cond.code yM_instance cM_instance 2 (some .int) :: bw) rm_M_instance D cls5 (tys6 k) [.ref mo] M (va_Qi (fun r M1 => ((tc < 300 ∧ wc ≠ 0 ∧ wc + ec ≤ 4000) ∧ r = nI tc ∧ MdX k M1 mo el ek bg sz kn rw pp pk wd lo kp ks (ec + wc) (tc + 1) (0) sc nc (0) (vin va (va_cpy wt kd 0 ec wc) ec (ec + wc)) mk (va_cpy wt kd 0 ec wc) wt (nu tk tc 0) (nu tf tc ec) (nu tz tc wc) sk sf sw ml nn) ∨ (¬ (tc < 300 ∧ wc ≠ 0 ∧ wc + ec ≤ 4000) ∧ r = -1 ∧ MdX k M1 mo el ek bg sz kn rw pp pk wd lo kp ks ec tc (0) sc nc (0) va mk kd wt tk tf tz sk sf sw ml nn))) 0 0 := by
  refine mp_Met.of (by decide) (Nat.le_of_ble_eq_true rfl) ?_
  intro p e s m below meth c hx hb hr hml hown hts hlocks hin ls hl I
  have hl : lv_has ls 2 [(0, .ref mo)] := hl
  obtain ⟨h0, hel, hek, hbg, hsz, hkn, hrw, hpp, hpk, hwd, hlo, hkp, hks, n_bg_sz, n_bg_kn, n_sz_kn, n_pp_pk, n_pp_wd, n_pk_wd, n_pp_lo, n_pk_lo, n_wd_lo⟩ := id hE
  obtain ⟨b1, b2, b3, b4, b5, bT, bS, bN⟩ := id hO
  refine lv_aload_n hx hb dM_instance_0 rfl (lv_at hl 0 rfl) ?_
  refine lv_iconst (v := nI 0) hx hb dM_instance_1 (by decide) ?_
  refine mp_put (v := .int (nI 0)) (ty := .int) hx hb hts inM tyM okM nmM hown I h0 rfl 17 (by decide) (hts _ bw_348) (fun _ h9 => h9) rfl (by decide +kernel) rfl rfl (Nat.le_of_ble_eq_true rfl) dM_instance_2 (fun H locs I => ?_)
  have I : mp_I D cls5 (tys6 k) s _ s.heap H locs (mp_up M mo (.inr (4, [.ref el, .ref ek, .int (nI ec), .ref bg, .ref sz, .ref kn, .int (nI tc), .ref rw, .int (nI wc), .ref pp, .ref pk, .ref wd, .ref lo, .int (nI sc), .ref kp, .ref ks, .int (nI nc), .int (nI 0)]))) := I
  have h0_n : mp_up M mo (.inr (4, [.ref el, .ref ek, .int (nI ec), .ref bg, .ref sz, .ref kn, .int (nI tc), .ref rw, .int (nI wc), .ref pp, .ref pk, .ref wd, .ref lo, .int (nI sc), .ref kp, .ref ks, .int (nI nc), .int (nI 0)])) mo = some (.inr (4, [.ref el, .ref ek, .int (nI ec), .ref bg, .ref sz, .ref kn, .int (nI tc), .ref rw, .int (nI wc), .ref pp, .ref pk, .ref wd, .ref lo, .int (nI sc), .ref kp, .ref ks, .int (nI nc), .int (nI 0)])) := mp_up_s _ _ _
  have hel_n : mp_up M mo (.inr (4, [.ref el, .ref ek, .int (nI ec), .ref bg, .ref sz, .ref kn, .int (nI tc), .ref rw, .int (nI wc), .ref pp, .ref pk, .ref wd, .ref lo, .int (nI sc), .ref kp, .ref ks, .int (nI nc), .int (nI 0)])) el = some (.inl (k 1, 4000, .inr (.inl va))) := (mp_up_n (mp_ne hel h0 (by simp))).trans hel
  have hek_n : mp_up M mo (.inr (4, [.ref el, .ref ek, .int (nI ec), .ref bg, .ref sz, .ref kn, .int (nI tc), .ref rw, .int (nI wc), .ref pp, .ref pk, .ref wd, .ref lo, .int (nI sc), .ref kp, .ref ks, .int (nI nc), .int (nI 0)])) ek = some (.inl (k 0, 4000, .inl (fun i_ => nI (kd i_)))) := (mp_up_n (mp_ne hek h0 (by simp))).trans hek
  have hbg_n : mp_up M mo (.inr (4, [.ref el, .ref ek, .int (nI ec), .ref bg, .ref sz, .ref kn, .int (nI tc), .ref rw, .int (nI wc), .ref pp, .ref pk, .ref wd, .ref lo, .int (nI sc), .ref kp, .ref ks, .int (nI nc), .int (nI 0)])) bg = some (.inl (k 0, 300, .inl (fun i_ => nI (tf i_)))) := (mp_up_n (mp_ne hbg h0 (by simp))).trans hbg
  have hsz_n : mp_up M mo (.inr (4, [.ref el, .ref ek, .int (nI ec), .ref bg, .ref sz, .ref kn, .int (nI tc), .ref rw, .int (nI wc), .ref pp, .ref pk, .ref wd, .ref lo, .int (nI sc), .ref kp, .ref ks, .int (nI nc), .int (nI 0)])) sz = some (.inl (k 0, 300, .inl (fun i_ => nI (tz i_)))) := (mp_up_n (mp_ne hsz h0 (by simp))).trans hsz
  have hkn_n : mp_up M mo (.inr (4, [.ref el, .ref ek, .int (nI ec), .ref bg, .ref sz, .ref kn, .int (nI tc), .ref rw, .int (nI wc), .ref pp, .ref pk, .ref wd, .ref lo, .int (nI sc), .ref kp, .ref ks, .int (nI nc), .int (nI 0)])) kn = some (.inl (k 0, 300, .inl (fun i_ => nI (tk i_)))) := (mp_up_n (mp_ne hkn h0 (by simp))).trans hkn
  have hrw_n : mp_up M mo (.inr (4, [.ref el, .ref ek, .int (nI ec), .ref bg, .ref sz, .ref kn, .int (nI tc), .ref rw, .int (nI wc), .ref pp, .ref pk, .ref wd, .ref lo, .int (nI sc), .ref kp, .ref ks, .int (nI nc), .int (nI 0)])) rw = some (.inl (k 0, 12, .inl (fun i_ => nI (wt i_)))) := (mp_up_n (mp_ne hrw h0 (by simp))).trans hrw
  have hpp_n : mp_up M mo (.inr (4, [.ref el, .ref ek, .int (nI ec), .ref bg, .ref sz, .ref kn, .int (nI tc), .ref rw, .int (nI wc), .ref pp, .ref pk, .ref wd, .ref lo, .int (nI sc), .ref kp, .ref ks, .int (nI nc), .int (nI 0)])) pp = some (.inl (k 0, 100, .inl (fun i_ => nI (sf i_)))) := (mp_up_n (mp_ne hpp h0 (by simp))).trans hpp
  have hpk_n : mp_up M mo (.inr (4, [.ref el, .ref ek, .int (nI ec), .ref bg, .ref sz, .ref kn, .int (nI tc), .ref rw, .int (nI wc), .ref pp, .ref pk, .ref wd, .ref lo, .int (nI sc), .ref kp, .ref ks, .int (nI nc), .int (nI 0)])) pk = some (.inl (k 0, 100, .inl (fun i_ => nI (sk i_)))) := (mp_up_n (mp_ne hpk h0 (by simp))).trans hpk
  have hwd_n : mp_up M mo (.inr (4, [.ref el, .ref ek, .int (nI ec), .ref bg, .ref sz, .ref kn, .int (nI tc), .ref rw, .int (nI wc), .ref pp, .ref pk, .ref wd, .ref lo, .int (nI sc), .ref kp, .ref ks, .int (nI nc), .int (nI 0)])) wd = some (.inl (k 0, 100, .inl (fun i_ => nI (sw i_)))) := (mp_up_n (mp_ne hwd h0 (by simp))).trans hwd
  have hlo_n : mp_up M mo (.inr (4, [.ref el, .ref ek, .int (nI ec), .ref bg, .ref sz, .ref kn, .int (nI tc), .ref rw, .int (nI wc), .ref pp, .ref pk, .ref wd, .ref lo, .int (nI sc), .ref kp, .ref ks, .int (nI nc), .int (nI 0)])) lo = some (.inl (k 5, 100, .inl (fun i_ => nI (ml i_)))) := (mp_up_n (mp_ne hlo h0 (by simp))).trans hlo
  have hkp_n : mp_up M mo (.inr (4, [.ref el, .ref ek, .int (nI ec), .ref bg, .ref sz, .ref kn, .int (nI tc), .ref rw, .int (nI wc), .ref pp, .ref pk, .ref wd, .ref lo, .int (nI sc), .ref kp, .ref ks, .int (nI nc), .int (nI 0)])) kp = some (.inl (k 1, 80000, .inr (.inl mk))) := (mp_up_n (mp_ne hkp h0 (by simp))).trans hkp
  have hks_n : mp_up M mo (.inr (4, [.ref el, .ref ek, .int (nI ec), .ref bg, .ref sz, .ref kn, .int (nI tc), .ref rw, .int (nI wc), .ref pp, .ref pk, .ref wd, .ref lo, .int (nI sc), .ref kp, .ref ks, .int (nI nc), .int (nI 0)])) ks = some (.inl (k 0, 20, .inl (fun i_ => nI (nn i_)))) := (mp_up_n (mp_ne hks h0 (by simp))).trans hks
  generalize eM_2 : mp_up M mo (.inr (4, [.ref el, .ref ek, .int (nI ec), .ref bg, .ref sz, .ref kn, .int (nI tc), .ref rw, .int (nI wc), .ref pp, .ref pk, .ref wd, .ref lo, .int (nI sc), .ref kp, .ref ks, .int (nI nc), .int (nI 0)])) = M_1 at I h0_n hel_n hek_n hbg_n hsz_n hkn_n hrw_n hpp_n hpk_n hwd_n hlo_n hkp_n hks_n
  have h0__M_1 := h0_n
  have hel__M_1 := hel_n
  have hek__M_1 := hek_n
  have hbg__M_1 := hbg_n
  have hsz__M_1 := hsz_n
  have hkn__M_1 := hkn_n
  have hrw__M_1 := hrw_n
  have hpp__M_1 := hpp_n
  have hpk__M_1 := hpk_n
  have hwd__M_1 := hwd_n
  have hlo__M_1 := hlo_n
  have hkp__M_1 := hkp_n
  have hks__M_1 := hks_n
  clear h0_n hel_n hek_n hbg_n hsz_n hkn_n hrw_n hpp_n hpk_n hwd_n hlo_n hkp_n hks_n
  have hE := hE.cnt ec tc wc sc nc 0
  rw [eM_2] at hE
  refine lv_aload_n hx hb dM_instance_5 rfl (lv_at hl 0 rfl) ?_
  refine mp_get (v := .int (nI wc)) hx hb hts inM hown I h0__M_1 rfl 8 (by decide) (hts _ bw_339) (fun _ h9 => h9) rfl dM_instance_6 ?_
  refine lv_istore_n (lv' := [(1, .int (nI wc)), (0, .ref mo)]) hx hb dM_instance_9 rfl hl (by decide) rfl (fun ls hl => ?_)
  refine lv_aload_n hx hb dM_instance_10 rfl (lv_at hl 1 rfl) ?_
  refine lv_iconst (v := nI 0) hx hb dM_instance_11 (by decide) ?_
  refine mp_put (v := .int (nI 0)) (ty := .int) hx hb hts inM tyM okM nmM hown I h0__M_1 rfl 8 (by decide) (hts _ bw_339) (fun _ h9 => h9) rfl (by decide +kernel) rfl rfl (Nat.le_of_ble_eq_true rfl) dM_instance_12 (fun H locs I => ?_)
  have I : mp_I D cls5 (tys6 k) s _ s.heap H locs (mp_up M_1 mo (.inr (4, [.ref el, .ref ek, .int (nI ec), .ref bg, .ref sz, .ref kn, .int (nI tc), .ref rw, .int (nI 0), .ref pp, .ref pk, .ref wd, .ref lo, .int (nI sc), .ref kp, .ref ks, .int (nI nc), .int (nI 0)]))) := I
  have h0__M_1_n : mp_up M_1 mo (.inr (4, [.ref el, .ref ek, .int (nI ec), .ref bg, .ref sz, .ref kn, .int (nI tc), .ref rw, .int (nI 0), .ref pp, .ref pk, .ref wd, .ref lo, .int (nI sc), .ref kp, .ref ks, .int (nI nc), .int (nI 0)])) mo = some (.inr (4, [.ref el, .ref ek, .int (nI ec), .ref bg, .ref sz, .ref kn, .int (nI tc), .ref rw, .int (nI 0), .ref pp, .ref pk, .ref wd, .ref lo, .int (nI sc), .ref kp, .ref ks, .int (nI nc), .int (nI 0)])) := mp_up_s _ _ _
  have hel__M_1_n : mp_up M_1 mo (.inr (4, [.ref el, .ref ek, .int (nI ec), .ref bg, .ref sz, .ref kn, .int (nI tc), .ref rw, .int (nI 0), .ref pp, .ref pk, .ref wd, .ref lo, .int (nI sc), .ref kp, .ref ks, .int (nI nc), .int (nI 0)])) el = some (.inl (k 1, 4000, .inr (.inl va))) := (mp_up_n (mp_ne hel__M_1 h0__M_1 (by simp))).trans hel__M_1
  have hek__M_1_n : mp_up M_1 mo (.inr (4, [.ref el, .ref ek, .int (nI ec), .ref bg, .ref sz, .ref kn, .int (nI tc), .ref rw, .int (nI 0), .ref pp, .ref pk, .ref wd, .ref lo, .int (nI sc), .ref kp, .ref ks, .int (nI nc), .int (nI 0)])) ek = some (.inl (k 0, 4000, .inl (fun i_ => nI (kd i_)))) := (mp_up_n (mp_ne hek__M_1 h0__M_1 (by simp))).trans hek__M_1
  have hbg__M_1_n : mp_up M_1 mo (.inr (4, [.ref el, .ref ek, .int (nI ec), .ref bg, .ref sz, .ref kn, .int (nI tc), .ref rw, .int (nI 0), .ref pp, .ref pk, .ref wd, .ref lo, .int (nI sc), .ref kp, .ref ks, .int (nI nc), .int (nI 0)])) bg = some (.inl (k 0, 300, .inl (fun i_ => nI (tf i_)))) := (mp_up_n (mp_ne hbg__M_1 h0__M_1 (by simp))).trans hbg__M_1
  have hsz__M_1_n : mp_up M_1 mo (.inr (4, [.ref el, .ref ek, .int (nI ec), .ref bg, .ref sz, .ref kn, .int (nI tc), .ref rw, .int (nI 0), .ref pp, .ref pk, .ref wd, .ref lo, .int (nI sc), .ref kp, .ref ks, .int (nI nc), .int (nI 0)])) sz = some (.inl (k 0, 300, .inl (fun i_ => nI (tz i_)))) := (mp_up_n (mp_ne hsz__M_1 h0__M_1 (by simp))).trans hsz__M_1
  have hkn__M_1_n : mp_up M_1 mo (.inr (4, [.ref el, .ref ek, .int (nI ec), .ref bg, .ref sz, .ref kn, .int (nI tc), .ref rw, .int (nI 0), .ref pp, .ref pk, .ref wd, .ref lo, .int (nI sc), .ref kp, .ref ks, .int (nI nc), .int (nI 0)])) kn = some (.inl (k 0, 300, .inl (fun i_ => nI (tk i_)))) := (mp_up_n (mp_ne hkn__M_1 h0__M_1 (by simp))).trans hkn__M_1
  have hrw__M_1_n : mp_up M_1 mo (.inr (4, [.ref el, .ref ek, .int (nI ec), .ref bg, .ref sz, .ref kn, .int (nI tc), .ref rw, .int (nI 0), .ref pp, .ref pk, .ref wd, .ref lo, .int (nI sc), .ref kp, .ref ks, .int (nI nc), .int (nI 0)])) rw = some (.inl (k 0, 12, .inl (fun i_ => nI (wt i_)))) := (mp_up_n (mp_ne hrw__M_1 h0__M_1 (by simp))).trans hrw__M_1
  have hpp__M_1_n : mp_up M_1 mo (.inr (4, [.ref el, .ref ek, .int (nI ec), .ref bg, .ref sz, .ref kn, .int (nI tc), .ref rw, .int (nI 0), .ref pp, .ref pk, .ref wd, .ref lo, .int (nI sc), .ref kp, .ref ks, .int (nI nc), .int (nI 0)])) pp = some (.inl (k 0, 100, .inl (fun i_ => nI (sf i_)))) := (mp_up_n (mp_ne hpp__M_1 h0__M_1 (by simp))).trans hpp__M_1
  have hpk__M_1_n : mp_up M_1 mo (.inr (4, [.ref el, .ref ek, .int (nI ec), .ref bg, .ref sz, .ref kn, .int (nI tc), .ref rw, .int (nI 0), .ref pp, .ref pk, .ref wd, .ref lo, .int (nI sc), .ref kp, .ref ks, .int (nI nc), .int (nI 0)])) pk = some (.inl (k 0, 100, .inl (fun i_ => nI (sk i_)))) := (mp_up_n (mp_ne hpk__M_1 h0__M_1 (by simp))).trans hpk__M_1
  have hwd__M_1_n : mp_up M_1 mo (.inr (4, [.ref el, .ref ek, .int (nI ec), .ref bg, .ref sz, .ref kn, .int (nI tc), .ref rw, .int (nI 0), .ref pp, .ref pk, .ref wd, .ref lo, .int (nI sc), .ref kp, .ref ks, .int (nI nc), .int (nI 0)])) wd = some (.inl (k 0, 100, .inl (fun i_ => nI (sw i_)))) := (mp_up_n (mp_ne hwd__M_1 h0__M_1 (by simp))).trans hwd__M_1
  have hlo__M_1_n : mp_up M_1 mo (.inr (4, [.ref el, .ref ek, .int (nI ec), .ref bg, .ref sz, .ref kn, .int (nI tc), .ref rw, .int (nI 0), .ref pp, .ref pk, .ref wd, .ref lo, .int (nI sc), .ref kp, .ref ks, .int (nI nc), .int (nI 0)])) lo = some (.inl (k 5, 100, .inl (fun i_ => nI (ml i_)))) := (mp_up_n (mp_ne hlo__M_1 h0__M_1 (by simp))).trans hlo__M_1
  have hkp__M_1_n : mp_up M_1 mo (.inr (4, [.ref el, .ref ek, .int (nI ec), .ref bg, .ref sz, .ref kn, .int (nI tc), .ref rw, .int (nI 0), .ref pp, .ref pk, .ref wd, .ref lo, .int (nI sc), .ref kp, .ref ks, .int (nI nc), .int (nI 0)])) kp = some (.inl (k 1, 80000, .inr (.inl mk))) := (mp_up_n (mp_ne hkp__M_1 h0__M_1 (by simp))).trans hkp__M_1
  have hks__M_1_n : mp_up M_1 mo (.inr (4, [.ref el, .ref ek, .int (nI ec), .ref bg, .ref sz, .ref kn, .int (nI tc), .ref rw, .int (nI 0), .ref pp, .ref pk, .ref wd, .ref lo, .int (nI sc), .ref kp, .ref ks, .int (nI nc), .int (nI 0)])) ks = some (.inl (k 0, 20, .inl (fun i_ => nI (nn i_)))) := (mp_up_n (mp_ne hks__M_1 h0__M_1 (by simp))).trans hks__M_1
  generalize eM_4 : mp_up M_1 mo (.inr (4, [.ref el, .ref ek, .int (nI ec), .ref bg, .ref sz, .ref kn, .int (nI tc), .ref rw, .int (nI 0), .ref pp, .ref pk, .ref wd, .ref lo, .int (nI sc), .ref kp, .ref ks, .int (nI nc), .int (nI 0)])) = M_3 at I h0__M_1_n hel__M_1_n hek__M_1_n hbg__M_1_n hsz__M_1_n hkn__M_1_n hrw__M_1_n hpp__M_1_n hpk__M_1_n hwd__M_1_n hlo__M_1_n hkp__M_1_n hks__M_1_n
  have h0__M_3 := h0__M_1_n
  have hel__M_3 := hel__M_1_n
  have hek__M_3 := hek__M_1_n
  have hbg__M_3 := hbg__M_1_n
  have hsz__M_3 := hsz__M_1_n
  have hkn__M_3 := hkn__M_1_n
  have hrw__M_3 := hrw__M_1_n
  have hpp__M_3 := hpp__M_1_n
  have hpk__M_3 := hpk__M_1_n
  have hwd__M_3 := hwd__M_1_n
  have hlo__M_3 := hlo__M_1_n
  have hkp__M_3 := hkp__M_1_n
  have hks__M_3 := hks__M_1_n
  clear h0__M_1_n hel__M_1_n hek__M_1_n hbg__M_1_n hsz__M_1_n hkn__M_1_n hrw__M_1_n hpp__M_1_n hpk__M_1_n hwd__M_1_n hlo__M_1_n hkp__M_1_n hks__M_1_n
  have hE := hE.cnt ec tc 0 sc nc 0
  rw [eM_4] at hE
  have hO2 : OkB ec tc 0 sc nc tk tf tz sk sf sw ml nn := ⟨b1, b2, by omega, b4, b5, bT, bS, bN⟩
  refine lv_aload_n hx hb dM_instance_15 rfl (lv_at hl 1 rfl) ?_
  refine mp_get (v := .int (nI tc)) hx hb hts inM hown I h0__M_3 rfl 6 (by decide) (hts _ bw_337) (fun _ h9 => h9) rfl dM_instance_16 ?_
  refine lv_sipush (v := nI 300) hx hb dM_instance_19 (by decide) ?_
  refine zz_icmp_eq (tgt := 41) hx hb (nI_toInt (by first | assumption | omega)) (nI_toInt (by decide)) dM_instance_22 (by decide) (fun c_5 => ?_) (fun c_5 => ?_)
  · refine lv_iconst (v := (-1)) hx hb dM_instance_41 (by decide) ?_
    exact mp_iret hx hb hr hlocks I (Nat.le_of_ble_eq_true rfl) (Nat.le_of_ble_eq_true rfl) dM_instance_42 (Or.inr ⟨by omega, rfl, hE⟩)
  · refine lv_iload_n hx hb dM_instance_25 rfl (lv_at hl 0 rfl) ?_
    refine zz_if_eq (tgt := 41) hx hb (nI_toInt (by first | assumption | omega)) dM_instance_26 (by decide) (fun c_6 => ?_) (fun c_6 => ?_)
    · refine lv_iconst (v := (-1)) hx hb dM_instance_41 (by decide) ?_
      exact mp_iret hx hb hr hlocks I (Nat.le_of_ble_eq_true rfl) (Nat.le_of_ble_eq_true rfl) dM_instance_42 (Or.inr ⟨by omega, rfl, hE⟩)
    · refine lv_aload_n hx hb dM_instance_29 rfl (lv_at hl 1 rfl) ?_
      refine mp_get (v := .int (nI ec)) hx hb hts inM hown I h0__M_3 rfl 2 (by decide) (hts _ bw_333) (fun _ h9 => h9) rfl dM_instance_30 ?_
      refine lv_iload_n hx hb dM_instance_33 rfl (lv_at hl 0 rfl) ?_
      refine zz_iadd hx hb dM_instance_34 ?_
      refine lv_sipush (v := nI 4000) hx hb dM_instance_35 (by decide) ?_
      refine zz_icmp_le (tgt := 43) hx hb (nI_toInt (by first | assumption | omega)) (nI_toInt (by decide)) dM_instance_38 (by decide) (fun c_7 => ?_) (fun c_7 => ?_)
      · refine lv_aload_n hx hb dM_instance_43 rfl (lv_at hl 1 rfl) ?_
        refine lv_iconst (v := nI 0) hx hb dM_instance_44 (by decide) ?_
        refine lv_iload_n hx hb dM_instance_45 rfl (lv_at hl 0 rfl) ?_
        refine mp_calli (va_runV (As := [.int (nI 0), .int (nI wc)]) (rest := []) ⟨hx, hb, hml, hown, hts⟩ (kM_newObject l D k M_3 hE hO2 0 wc (by omega) (by omega) (by omega) hkd (fun _ => ⟨by omega, hwt⟩) _) (cwV 2 hts (bw_V bw_398 bw_400 bs_11 bw_2 bw_401) rfl rfl rfl (by decide +kernel) ⟨Nat.le_of_ble_eq_true rfl, Nat.le_of_ble_eq_true rfl⟩) (mp_preV I h0__M_3 rfl _) rfl rfl hl.1 rfl (lv_room (Nat.le_of_ble_eq_true rfl)) dM_instance_46 ⟨Nat.le_of_ble_eq_true rfl, Nat.le_of_ble_eq_true rfl⟩) I (fun r1 N1 H locs hp I => ?_)
        obtain ⟨rfl, hE⟩ := hp
        rw [kno_c] at hE
        exact mp_iret hx hb hr hlocks I (Nat.le_of_ble_eq_true rfl) (Nat.le_of_ble_eq_true rfl) dM_instance_49 (Or.inl ⟨by omega, rfl, hE⟩)
      · refine lv_iconst (v := (-1)) hx hb dM_instance_41 (by decide) ?_
        exact mp_iret hx hb hr hlocks I (Nat.le_of_ble_eq_true rfl) (Nat.le_of_ble_eq_true rfl) dM_instance_42 (Or.inr ⟨by omega, rfl, hE⟩)
abbrev rm_M_newPlace : Room := { frames := 0, cells := 0, slots := 0, locals := 0 }
set_option maxHeartbeats 4000000 in
set_option maxRecDepth 100000 in
theorem kM_newPlace (l : Launch) (D : va_G) (k : Nat → ClassId) (M : mp_M) {mo el ek bg sz kn rw pp pk wd lo kp ks : Nat} {ec tc wc sc nc th : Nat} {va mk : Nat → Int64} {kd wt tk tf tz sk sf sw ml nn : Nat → Nat} (hE : MdX k M mo el ek bg sz kn rw pp pk wd lo kp ks ec tc wc sc nc th va mk kd wt tk tf tz sk sf sw ml nn) (hO : OkB ec tc wc sc nc tk tf tz sk sf sw ml nn) (pf px pw pb : Nat) (hpb : pb ≤ 1) (hs : sc < 100) : mp_Met l yM_newPlace (Cond.code yM_newPlace cM_newPlace 5 (some .int) :: bw) rm_M_newPlace D cls5 (tys6 k) [.ref mo, .int (nI pf), .int (nI px), .int (nI pw), .int (nI pb)] M (va_Qi (fun r M1 => r = nI sc ∧ MdX k M1 mo el ek bg sz kn rw pp pk wd lo kp ks ec tc wc (sc + 1) nc th va mk kd wt tk tf tz (nu sk sc px) (nu sf sc pf) (nu sw sc pw) (nu ml sc pb) nn)) 0 0 := by
  refine mp_Met.of (by decide) (Nat.le_of_ble_eq_true rfl) ?_
  intro p e s m below meth c hx hb hr hml hown hts hlocks hin ls hl I
  have hl : lv_has ls 5 [(0, .ref mo), (1, .int (nI pf)), (2, .int (nI px)), (3, .int (nI pw)), (4, .int (nI pb))] := hl
  obtain ⟨h0, hel, hek, hbg, hsz, hkn, hrw, hpp, hpk, hwd, hlo, hkp, hks, n_bg_sz, n_bg_kn, n_sz_kn, n_pp_pk, n_pp_wd, n_pk_wd, n_pp_lo, n_pk_lo, n_wd_lo⟩ := id hE
  obtain ⟨b1, b2, b3, b4, b5, bT, bS, bN⟩ := id hO
  refine lv_aload_n hx hb dM_newPlace_0 rfl (lv_at hl 0 rfl) ?_
  refine mp_get (v := .ref pp) hx hb hts inM hown I h0 rfl 9 (by decide) (hts _ bw_340) (fun _ h9 => h9) rfl dM_newPlace_1 ?_
  refine lv_aload_n hx hb dM_newPlace_4 rfl (lv_at hl 0 rfl) ?_
  refine mp_get (v := .int (nI sc)) hx hb hts inM hown I h0 rfl 13 (by decide) (hts _ bw_344) (fun _ h9 => h9) rfl dM_newPlace_5 ?_
  refine lv_iload_n hx hb dM_newPlace_8 rfl (lv_at hl 1 rfl) ?_
  refine mp_iast hx hb I 0 hpp rfl (x := nI pf) sc rfl (by omega) (by decide) dM_newPlace_9 (fun H locs I => ?_)
  rw [upd_nI] at I
  have I : mp_I D cls5 (tys6 k) s _ s.heap H locs (mp_up M pp (.inl (k 0, 100, .inl (fun i_ => nI ((nu sf sc pf) i_))))) := I
  have hpp_n : mp_up M pp (.inl (k 0, 100, .inl (fun i_ => nI ((nu sf sc pf) i_)))) pp = some (.inl (k 0, 100, .inl (fun i_ => nI ((nu sf sc pf) i_)))) := mp_up_s _ _ _
  have h0_n : mp_up M pp (.inl (k 0, 100, .inl (fun i_ => nI ((nu sf sc pf) i_)))) mo = some (.inr (4, [.ref el, .ref ek, .int (nI ec), .ref bg, .ref sz, .ref kn, .int (nI tc), .ref rw, .int (nI wc), .ref pp, .ref pk, .ref wd, .ref lo, .int (nI sc), .ref kp, .ref ks, .int (nI nc), .int (nI th)])) := (mp_up_n (mp_ne h0 hpp (by simp))).trans h0
  have hel_n : mp_up M pp (.inl (k 0, 100, .inl (fun i_ => nI ((nu sf sc pf) i_)))) el = some (.inl (k 1, 4000, .inr (.inl va))) := (mp_up_n (mp_ne hel hpp (by simp))).trans hel
  have hek_n : mp_up M pp (.inl (k 0, 100, .inl (fun i_ => nI ((nu sf sc pf) i_)))) ek = some (.inl (k 0, 4000, .inl (fun i_ => nI (kd i_)))) := (mp_up_n (mp_ne hek hpp (by simp))).trans hek
  have hbg_n : mp_up M pp (.inl (k 0, 100, .inl (fun i_ => nI ((nu sf sc pf) i_)))) bg = some (.inl (k 0, 300, .inl (fun i_ => nI (tf i_)))) := (mp_up_n (mp_ne hbg hpp (by simp))).trans hbg
  have hsz_n : mp_up M pp (.inl (k 0, 100, .inl (fun i_ => nI ((nu sf sc pf) i_)))) sz = some (.inl (k 0, 300, .inl (fun i_ => nI (tz i_)))) := (mp_up_n (mp_ne hsz hpp (by simp))).trans hsz
  have hkn_n : mp_up M pp (.inl (k 0, 100, .inl (fun i_ => nI ((nu sf sc pf) i_)))) kn = some (.inl (k 0, 300, .inl (fun i_ => nI (tk i_)))) := (mp_up_n (mp_ne hkn hpp (by simp))).trans hkn
  have hrw_n : mp_up M pp (.inl (k 0, 100, .inl (fun i_ => nI ((nu sf sc pf) i_)))) rw = some (.inl (k 0, 12, .inl (fun i_ => nI (wt i_)))) := (mp_up_n (mp_ne hrw hpp (by simp))).trans hrw
  have hpk_n : mp_up M pp (.inl (k 0, 100, .inl (fun i_ => nI ((nu sf sc pf) i_)))) pk = some (.inl (k 0, 100, .inl (fun i_ => nI (sk i_)))) := (mp_up_n (Ne.symm n_pp_pk)).trans hpk
  have hwd_n : mp_up M pp (.inl (k 0, 100, .inl (fun i_ => nI ((nu sf sc pf) i_)))) wd = some (.inl (k 0, 100, .inl (fun i_ => nI (sw i_)))) := (mp_up_n (Ne.symm n_pp_wd)).trans hwd
  have hlo_n : mp_up M pp (.inl (k 0, 100, .inl (fun i_ => nI ((nu sf sc pf) i_)))) lo = some (.inl (k 5, 100, .inl (fun i_ => nI (ml i_)))) := (mp_up_n (Ne.symm n_pp_lo)).trans hlo
  have hkp_n : mp_up M pp (.inl (k 0, 100, .inl (fun i_ => nI ((nu sf sc pf) i_)))) kp = some (.inl (k 1, 80000, .inr (.inl mk))) := (mp_up_n (mp_ne hkp hpp (by simp))).trans hkp
  have hks_n : mp_up M pp (.inl (k 0, 100, .inl (fun i_ => nI ((nu sf sc pf) i_)))) ks = some (.inl (k 0, 20, .inl (fun i_ => nI (nn i_)))) := (mp_up_n (mp_ne hks hpp (by simp))).trans hks
  generalize eM_2 : mp_up M pp (.inl (k 0, 100, .inl (fun i_ => nI ((nu sf sc pf) i_)))) = M_1 at I h0_n hel_n hek_n hbg_n hsz_n hkn_n hrw_n hpp_n hpk_n hwd_n hlo_n hkp_n hks_n
  have h0__M_1 := h0_n
  have hel__M_1 := hel_n
  have hek__M_1 := hek_n
  have hbg__M_1 := hbg_n
  have hsz__M_1 := hsz_n
  have hkn__M_1 := hkn_n
  have hrw__M_1 := hrw_n
  have hpp__M_1 := hpp_n
  have hpk__M_1 := hpk_n
  have hwd__M_1 := hwd_n
  have hlo__M_1 := hlo_n
  have hkp__M_1 := hkp_n
  have hks__M_1 := hks_n
  clear h0_n hel_n hek_n hbg_n hsz_n hkn_n hrw_n hpp_n hpk_n hwd_n hlo_n hkp_n hks_n
  have hE := hE.set_pp (nu sf sc pf)
  rw [eM_2] at hE
  refine lv_aload_n hx hb dM_newPlace_10 rfl (lv_at hl 0 rfl) ?_
  refine mp_get (v := .ref pk) hx hb hts inM hown I h0__M_1 rfl 10 (by decide) (hts _ bw_341) (fun _ h9 => h9) rfl dM_newPlace_11 ?_
  refine lv_aload_n hx hb dM_newPlace_14 rfl (lv_at hl 0 rfl) ?_
  refine mp_get (v := .int (nI sc)) hx hb hts inM hown I h0__M_1 rfl 13 (by decide) (hts _ bw_344) (fun _ h9 => h9) rfl dM_newPlace_15 ?_
  refine lv_iload_n hx hb dM_newPlace_18 rfl (lv_at hl 2 rfl) ?_
  refine mp_iast hx hb I 0 hpk__M_1 rfl (x := nI px) sc rfl (by omega) (by decide) dM_newPlace_19 (fun H locs I => ?_)
  rw [upd_nI] at I
  have I : mp_I D cls5 (tys6 k) s _ s.heap H locs (mp_up M_1 pk (.inl (k 0, 100, .inl (fun i_ => nI ((nu sk sc px) i_))))) := I
  have hpk__M_1_n : mp_up M_1 pk (.inl (k 0, 100, .inl (fun i_ => nI ((nu sk sc px) i_)))) pk = some (.inl (k 0, 100, .inl (fun i_ => nI ((nu sk sc px) i_)))) := mp_up_s _ _ _
  have h0__M_1_n : mp_up M_1 pk (.inl (k 0, 100, .inl (fun i_ => nI ((nu sk sc px) i_)))) mo = some (.inr (4, [.ref el, .ref ek, .int (nI ec), .ref bg, .ref sz, .ref kn, .int (nI tc), .ref rw, .int (nI wc), .ref pp, .ref pk, .ref wd, .ref lo, .int (nI sc), .ref kp, .ref ks, .int (nI nc), .int (nI th)])) := (mp_up_n (mp_ne h0__M_1 hpk__M_1 (by simp))).trans h0__M_1
  have hel__M_1_n : mp_up M_1 pk (.inl (k 0, 100, .inl (fun i_ => nI ((nu sk sc px) i_)))) el = some (.inl (k 1, 4000, .inr (.inl va))) := (mp_up_n (mp_ne hel__M_1 hpk__M_1 (by simp))).trans hel__M_1
  have hek__M_1_n : mp_up M_1 pk (.inl (k 0, 100, .inl (fun i_ => nI ((nu sk sc px) i_)))) ek = some (.inl (k 0, 4000, .inl (fun i_ => nI (kd i_)))) := (mp_up_n (mp_ne hek__M_1 hpk__M_1 (by simp))).trans hek__M_1
  have hbg__M_1_n : mp_up M_1 pk (.inl (k 0, 100, .inl (fun i_ => nI ((nu sk sc px) i_)))) bg = some (.inl (k 0, 300, .inl (fun i_ => nI (tf i_)))) := (mp_up_n (mp_ne hbg__M_1 hpk__M_1 (by simp))).trans hbg__M_1
  have hsz__M_1_n : mp_up M_1 pk (.inl (k 0, 100, .inl (fun i_ => nI ((nu sk sc px) i_)))) sz = some (.inl (k 0, 300, .inl (fun i_ => nI (tz i_)))) := (mp_up_n (mp_ne hsz__M_1 hpk__M_1 (by simp))).trans hsz__M_1
  have hkn__M_1_n : mp_up M_1 pk (.inl (k 0, 100, .inl (fun i_ => nI ((nu sk sc px) i_)))) kn = some (.inl (k 0, 300, .inl (fun i_ => nI (tk i_)))) := (mp_up_n (mp_ne hkn__M_1 hpk__M_1 (by simp))).trans hkn__M_1
  have hrw__M_1_n : mp_up M_1 pk (.inl (k 0, 100, .inl (fun i_ => nI ((nu sk sc px) i_)))) rw = some (.inl (k 0, 12, .inl (fun i_ => nI (wt i_)))) := (mp_up_n (mp_ne hrw__M_1 hpk__M_1 (by simp))).trans hrw__M_1
  have hpp__M_1_n : mp_up M_1 pk (.inl (k 0, 100, .inl (fun i_ => nI ((nu sk sc px) i_)))) pp = some (.inl (k 0, 100, .inl (fun i_ => nI ((nu sf sc pf) i_)))) := (mp_up_n n_pp_pk).trans hpp__M_1
  have hwd__M_1_n : mp_up M_1 pk (.inl (k 0, 100, .inl (fun i_ => nI ((nu sk sc px) i_)))) wd = some (.inl (k 0, 100, .inl (fun i_ => nI (sw i_)))) := (mp_up_n (Ne.symm n_pk_wd)).trans hwd__M_1
  have hlo__M_1_n : mp_up M_1 pk (.inl (k 0, 100, .inl (fun i_ => nI ((nu sk sc px) i_)))) lo = some (.inl (k 5, 100, .inl (fun i_ => nI (ml i_)))) := (mp_up_n (Ne.symm n_pk_lo)).trans hlo__M_1
  have hkp__M_1_n : mp_up M_1 pk (.inl (k 0, 100, .inl (fun i_ => nI ((nu sk sc px) i_)))) kp = some (.inl (k 1, 80000, .inr (.inl mk))) := (mp_up_n (mp_ne hkp__M_1 hpk__M_1 (by simp))).trans hkp__M_1
  have hks__M_1_n : mp_up M_1 pk (.inl (k 0, 100, .inl (fun i_ => nI ((nu sk sc px) i_)))) ks = some (.inl (k 0, 20, .inl (fun i_ => nI (nn i_)))) := (mp_up_n (mp_ne hks__M_1 hpk__M_1 (by simp))).trans hks__M_1
  generalize eM_4 : mp_up M_1 pk (.inl (k 0, 100, .inl (fun i_ => nI ((nu sk sc px) i_)))) = M_3 at I h0__M_1_n hel__M_1_n hek__M_1_n hbg__M_1_n hsz__M_1_n hkn__M_1_n hrw__M_1_n hpp__M_1_n hpk__M_1_n hwd__M_1_n hlo__M_1_n hkp__M_1_n hks__M_1_n
  have h0__M_3 := h0__M_1_n
  have hel__M_3 := hel__M_1_n
  have hek__M_3 := hek__M_1_n
  have hbg__M_3 := hbg__M_1_n
  have hsz__M_3 := hsz__M_1_n
  have hkn__M_3 := hkn__M_1_n
  have hrw__M_3 := hrw__M_1_n
  have hpp__M_3 := hpp__M_1_n
  have hpk__M_3 := hpk__M_1_n
  have hwd__M_3 := hwd__M_1_n
  have hlo__M_3 := hlo__M_1_n
  have hkp__M_3 := hkp__M_1_n
  have hks__M_3 := hks__M_1_n
  clear h0__M_1_n hel__M_1_n hek__M_1_n hbg__M_1_n hsz__M_1_n hkn__M_1_n hrw__M_1_n hpp__M_1_n hpk__M_1_n hwd__M_1_n hlo__M_1_n hkp__M_1_n hks__M_1_n
  have hE := hE.set_pk (nu sk sc px)
  rw [eM_4] at hE
  refine lv_aload_n hx hb dM_newPlace_20 rfl (lv_at hl 0 rfl) ?_
  refine mp_get (v := .ref wd) hx hb hts inM hown I h0__M_3 rfl 11 (by decide) (hts _ bw_342) (fun _ h9 => h9) rfl dM_newPlace_21 ?_
  refine lv_aload_n hx hb dM_newPlace_24 rfl (lv_at hl 0 rfl) ?_
  refine mp_get (v := .int (nI sc)) hx hb hts inM hown I h0__M_3 rfl 13 (by decide) (hts _ bw_344) (fun _ h9 => h9) rfl dM_newPlace_25 ?_
  refine lv_iload_n hx hb dM_newPlace_28 rfl (lv_at hl 3 rfl) ?_
  refine mp_iast hx hb I 0 hwd__M_3 rfl (x := nI pw) sc rfl (by omega) (by decide) dM_newPlace_29 (fun H locs I => ?_)
  rw [upd_nI] at I
  have I : mp_I D cls5 (tys6 k) s _ s.heap H locs (mp_up M_3 wd (.inl (k 0, 100, .inl (fun i_ => nI ((nu sw sc pw) i_))))) := I
  have hwd__M_3_n : mp_up M_3 wd (.inl (k 0, 100, .inl (fun i_ => nI ((nu sw sc pw) i_)))) wd = some (.inl (k 0, 100, .inl (fun i_ => nI ((nu sw sc pw) i_)))) := mp_up_s _ _ _
  have h0__M_3_n : mp_up M_3 wd (.inl (k 0, 100, .inl (fun i_ => nI ((nu sw sc pw) i_)))) mo = some (.inr (4, [.ref el, .ref ek, .int (nI ec), .ref bg, .ref sz, .ref kn, .int (nI tc), .ref rw, .int (nI wc), .ref pp, .ref pk, .ref wd, .ref lo, .int (nI sc), .ref kp, .ref ks, .int (nI nc), .int (nI th)])) := (mp_up_n (mp_ne h0__M_3 hwd__M_3 (by simp))).trans h0__M_3
  have hel__M_3_n : mp_up M_3 wd (.inl (k 0, 100, .inl (fun i_ => nI ((nu sw sc pw) i_)))) el = some (.inl (k 1, 4000, .inr (.inl va))) := (mp_up_n (mp_ne hel__M_3 hwd__M_3 (by simp))).trans hel__M_3
  have hek__M_3_n : mp_up M_3 wd (.inl (k 0, 100, .inl (fun i_ => nI ((nu sw sc pw) i_)))) ek = some (.inl (k 0, 4000, .inl (fun i_ => nI (kd i_)))) := (mp_up_n (mp_ne hek__M_3 hwd__M_3 (by simp))).trans hek__M_3
  have hbg__M_3_n : mp_up M_3 wd (.inl (k 0, 100, .inl (fun i_ => nI ((nu sw sc pw) i_)))) bg = some (.inl (k 0, 300, .inl (fun i_ => nI (tf i_)))) := (mp_up_n (mp_ne hbg__M_3 hwd__M_3 (by simp))).trans hbg__M_3
  have hsz__M_3_n : mp_up M_3 wd (.inl (k 0, 100, .inl (fun i_ => nI ((nu sw sc pw) i_)))) sz = some (.inl (k 0, 300, .inl (fun i_ => nI (tz i_)))) := (mp_up_n (mp_ne hsz__M_3 hwd__M_3 (by simp))).trans hsz__M_3
  have hkn__M_3_n : mp_up M_3 wd (.inl (k 0, 100, .inl (fun i_ => nI ((nu sw sc pw) i_)))) kn = some (.inl (k 0, 300, .inl (fun i_ => nI (tk i_)))) := (mp_up_n (mp_ne hkn__M_3 hwd__M_3 (by simp))).trans hkn__M_3
  have hrw__M_3_n : mp_up M_3 wd (.inl (k 0, 100, .inl (fun i_ => nI ((nu sw sc pw) i_)))) rw = some (.inl (k 0, 12, .inl (fun i_ => nI (wt i_)))) := (mp_up_n (mp_ne hrw__M_3 hwd__M_3 (by simp))).trans hrw__M_3
  have hpp__M_3_n : mp_up M_3 wd (.inl (k 0, 100, .inl (fun i_ => nI ((nu sw sc pw) i_)))) pp = some (.inl (k 0, 100, .inl (fun i_ => nI ((nu sf sc pf) i_)))) := (mp_up_n n_pp_wd).trans hpp__M_3
  have hpk__M_3_n : mp_up M_3 wd (.inl (k 0, 100, .inl (fun i_ => nI ((nu sw sc pw) i_)))) pk = some (.inl (k 0, 100, .inl (fun i_ => nI ((nu sk sc px) i_)))) := (mp_up_n n_pk_wd).trans hpk__M_3
  have hlo__M_3_n : mp_up M_3 wd (.inl (k 0, 100, .inl (fun i_ => nI ((nu sw sc pw) i_)))) lo = some (.inl (k 5, 100, .inl (fun i_ => nI (ml i_)))) := (mp_up_n (Ne.symm n_wd_lo)).trans hlo__M_3
  have hkp__M_3_n : mp_up M_3 wd (.inl (k 0, 100, .inl (fun i_ => nI ((nu sw sc pw) i_)))) kp = some (.inl (k 1, 80000, .inr (.inl mk))) := (mp_up_n (mp_ne hkp__M_3 hwd__M_3 (by simp))).trans hkp__M_3
  have hks__M_3_n : mp_up M_3 wd (.inl (k 0, 100, .inl (fun i_ => nI ((nu sw sc pw) i_)))) ks = some (.inl (k 0, 20, .inl (fun i_ => nI (nn i_)))) := (mp_up_n (mp_ne hks__M_3 hwd__M_3 (by simp))).trans hks__M_3
  generalize eM_6 : mp_up M_3 wd (.inl (k 0, 100, .inl (fun i_ => nI ((nu sw sc pw) i_)))) = M_5 at I h0__M_3_n hel__M_3_n hek__M_3_n hbg__M_3_n hsz__M_3_n hkn__M_3_n hrw__M_3_n hpp__M_3_n hpk__M_3_n hwd__M_3_n hlo__M_3_n hkp__M_3_n hks__M_3_n
  have h0__M_5 := h0__M_3_n
  have hel__M_5 := hel__M_3_n
  have hek__M_5 := hek__M_3_n
  have hbg__M_5 := hbg__M_3_n
  have hsz__M_5 := hsz__M_3_n
  have hkn__M_5 := hkn__M_3_n
  have hrw__M_5 := hrw__M_3_n
  have hpp__M_5 := hpp__M_3_n
  have hpk__M_5 := hpk__M_3_n
  have hwd__M_5 := hwd__M_3_n
  have hlo__M_5 := hlo__M_3_n
  have hkp__M_5 := hkp__M_3_n
  have hks__M_5 := hks__M_3_n
  clear h0__M_3_n hel__M_3_n hek__M_3_n hbg__M_3_n hsz__M_3_n hkn__M_3_n hrw__M_3_n hpp__M_3_n hpk__M_3_n hwd__M_3_n hlo__M_3_n hkp__M_3_n hks__M_3_n
  have hE := hE.set_wd (nu sw sc pw)
  rw [eM_6] at hE
  refine lv_aload_n hx hb dM_newPlace_30 rfl (lv_at hl 0 rfl) ?_
  refine mp_get (v := .ref lo) hx hb hts inM hown I h0__M_5 rfl 12 (by decide) (hts _ bw_343) (fun _ h9 => h9) rfl dM_newPlace_31 ?_
  refine lv_aload_n hx hb dM_newPlace_34 rfl (lv_at hl 0 rfl) ?_
  refine mp_get (v := .int (nI sc)) hx hb hts inM hown I h0__M_5 rfl 13 (by decide) (hts _ bw_344) (fun _ h9 => h9) rfl dM_newPlace_35 ?_
  refine lv_iload hx hb dM_newPlace_38 (lv_at hl 4 rfl) ?_
  refine mp_zast hx hb I 5 hlo__M_5 rfl (x := nI pb) sc rfl (by omega) (by decide) (nz_vp hpb) dM_newPlace_40 (fun H locs I => ?_)
  rw [upd_nI] at I
  have I : mp_I D cls5 (tys6 k) s _ s.heap H locs (mp_up M_5 lo (.inl (k 5, 100, .inl (fun i_ => nI ((nu ml sc pb) i_))))) := I
  have hlo__M_5_n : mp_up M_5 lo (.inl (k 5, 100, .inl (fun i_ => nI ((nu ml sc pb) i_)))) lo = some (.inl (k 5, 100, .inl (fun i_ => nI ((nu ml sc pb) i_)))) := mp_up_s _ _ _
  have h0__M_5_n : mp_up M_5 lo (.inl (k 5, 100, .inl (fun i_ => nI ((nu ml sc pb) i_)))) mo = some (.inr (4, [.ref el, .ref ek, .int (nI ec), .ref bg, .ref sz, .ref kn, .int (nI tc), .ref rw, .int (nI wc), .ref pp, .ref pk, .ref wd, .ref lo, .int (nI sc), .ref kp, .ref ks, .int (nI nc), .int (nI th)])) := (mp_up_n (mp_ne h0__M_5 hlo__M_5 (by simp))).trans h0__M_5
  have hel__M_5_n : mp_up M_5 lo (.inl (k 5, 100, .inl (fun i_ => nI ((nu ml sc pb) i_)))) el = some (.inl (k 1, 4000, .inr (.inl va))) := (mp_up_n (mp_ne hel__M_5 hlo__M_5 (by simp))).trans hel__M_5
  have hek__M_5_n : mp_up M_5 lo (.inl (k 5, 100, .inl (fun i_ => nI ((nu ml sc pb) i_)))) ek = some (.inl (k 0, 4000, .inl (fun i_ => nI (kd i_)))) := (mp_up_n (mp_ne hek__M_5 hlo__M_5 (by simp))).trans hek__M_5
  have hbg__M_5_n : mp_up M_5 lo (.inl (k 5, 100, .inl (fun i_ => nI ((nu ml sc pb) i_)))) bg = some (.inl (k 0, 300, .inl (fun i_ => nI (tf i_)))) := (mp_up_n (mp_ne hbg__M_5 hlo__M_5 (by simp))).trans hbg__M_5
  have hsz__M_5_n : mp_up M_5 lo (.inl (k 5, 100, .inl (fun i_ => nI ((nu ml sc pb) i_)))) sz = some (.inl (k 0, 300, .inl (fun i_ => nI (tz i_)))) := (mp_up_n (mp_ne hsz__M_5 hlo__M_5 (by simp))).trans hsz__M_5
  have hkn__M_5_n : mp_up M_5 lo (.inl (k 5, 100, .inl (fun i_ => nI ((nu ml sc pb) i_)))) kn = some (.inl (k 0, 300, .inl (fun i_ => nI (tk i_)))) := (mp_up_n (mp_ne hkn__M_5 hlo__M_5 (by simp))).trans hkn__M_5
  have hrw__M_5_n : mp_up M_5 lo (.inl (k 5, 100, .inl (fun i_ => nI ((nu ml sc pb) i_)))) rw = some (.inl (k 0, 12, .inl (fun i_ => nI (wt i_)))) := (mp_up_n (mp_ne hrw__M_5 hlo__M_5 (by simp))).trans hrw__M_5
  have hpp__M_5_n : mp_up M_5 lo (.inl (k 5, 100, .inl (fun i_ => nI ((nu ml sc pb) i_)))) pp = some (.inl (k 0, 100, .inl (fun i_ => nI ((nu sf sc pf) i_)))) := (mp_up_n n_pp_lo).trans hpp__M_5
  have hpk__M_5_n : mp_up M_5 lo (.inl (k 5, 100, .inl (fun i_ => nI ((nu ml sc pb) i_)))) pk = some (.inl (k 0, 100, .inl (fun i_ => nI ((nu sk sc px) i_)))) := (mp_up_n n_pk_lo).trans hpk__M_5
  have hwd__M_5_n : mp_up M_5 lo (.inl (k 5, 100, .inl (fun i_ => nI ((nu ml sc pb) i_)))) wd = some (.inl (k 0, 100, .inl (fun i_ => nI ((nu sw sc pw) i_)))) := (mp_up_n n_wd_lo).trans hwd__M_5
  have hkp__M_5_n : mp_up M_5 lo (.inl (k 5, 100, .inl (fun i_ => nI ((nu ml sc pb) i_)))) kp = some (.inl (k 1, 80000, .inr (.inl mk))) := (mp_up_n (mp_ne hkp__M_5 hlo__M_5 (by simp))).trans hkp__M_5
  have hks__M_5_n : mp_up M_5 lo (.inl (k 5, 100, .inl (fun i_ => nI ((nu ml sc pb) i_)))) ks = some (.inl (k 0, 20, .inl (fun i_ => nI (nn i_)))) := (mp_up_n (mp_ne hks__M_5 hlo__M_5 (by simp))).trans hks__M_5
  generalize eM_8 : mp_up M_5 lo (.inl (k 5, 100, .inl (fun i_ => nI ((nu ml sc pb) i_)))) = M_7 at I h0__M_5_n hel__M_5_n hek__M_5_n hbg__M_5_n hsz__M_5_n hkn__M_5_n hrw__M_5_n hpp__M_5_n hpk__M_5_n hwd__M_5_n hlo__M_5_n hkp__M_5_n hks__M_5_n
  have h0__M_7 := h0__M_5_n
  have hel__M_7 := hel__M_5_n
  have hek__M_7 := hek__M_5_n
  have hbg__M_7 := hbg__M_5_n
  have hsz__M_7 := hsz__M_5_n
  have hkn__M_7 := hkn__M_5_n
  have hrw__M_7 := hrw__M_5_n
  have hpp__M_7 := hpp__M_5_n
  have hpk__M_7 := hpk__M_5_n
  have hwd__M_7 := hwd__M_5_n
  have hlo__M_7 := hlo__M_5_n
  have hkp__M_7 := hkp__M_5_n
  have hks__M_7 := hks__M_5_n
  clear h0__M_5_n hel__M_5_n hek__M_5_n hbg__M_5_n hsz__M_5_n hkn__M_5_n hrw__M_5_n hpp__M_5_n hpk__M_5_n hwd__M_5_n hlo__M_5_n hkp__M_5_n hks__M_5_n
  have hE := hE.set_lo (nu ml sc pb)
  rw [eM_8] at hE
  refine lv_aload_n hx hb dM_newPlace_41 rfl (lv_at hl 0 rfl) ?_
  refine lv_dup hx hb dM_newPlace_42 rfl ?_
  refine mp_get (v := .int (nI sc)) hx hb hts inM hown I h0__M_7 rfl 13 (by decide) (hts _ bw_344) (fun _ h9 => h9) rfl dM_newPlace_43 ?_
  refine lv_iconst (v := nI 1) hx hb dM_newPlace_46 (by decide) ?_
  refine zz_iadd hx hb dM_newPlace_47 ?_
  refine mp_put (v := .int (nI (sc + 1))) (ty := .int) hx hb hts inM tyM okM nmM hown I h0__M_7 rfl 13 (by decide) (hts _ bw_344) (fun _ h9 => h9) rfl (by decide +kernel) rfl rfl (Nat.le_of_ble_eq_true rfl) dM_newPlace_48 (fun H locs I => ?_)
  have I : mp_I D cls5 (tys6 k) s _ s.heap H locs (mp_up M_7 mo (.inr (4, [.ref el, .ref ek, .int (nI ec), .ref bg, .ref sz, .ref kn, .int (nI tc), .ref rw, .int (nI wc), .ref pp, .ref pk, .ref wd, .ref lo, .int (nI (sc + 1)), .ref kp, .ref ks, .int (nI nc), .int (nI th)]))) := I
  have h0__M_7_n : mp_up M_7 mo (.inr (4, [.ref el, .ref ek, .int (nI ec), .ref bg, .ref sz, .ref kn, .int (nI tc), .ref rw, .int (nI wc), .ref pp, .ref pk, .ref wd, .ref lo, .int (nI (sc + 1)), .ref kp, .ref ks, .int (nI nc), .int (nI th)])) mo = some (.inr (4, [.ref el, .ref ek, .int (nI ec), .ref bg, .ref sz, .ref kn, .int (nI tc), .ref rw, .int (nI wc), .ref pp, .ref pk, .ref wd, .ref lo, .int (nI (sc + 1)), .ref kp, .ref ks, .int (nI nc), .int (nI th)])) := mp_up_s _ _ _
  have hel__M_7_n : mp_up M_7 mo (.inr (4, [.ref el, .ref ek, .int (nI ec), .ref bg, .ref sz, .ref kn, .int (nI tc), .ref rw, .int (nI wc), .ref pp, .ref pk, .ref wd, .ref lo, .int (nI (sc + 1)), .ref kp, .ref ks, .int (nI nc), .int (nI th)])) el = some (.inl (k 1, 4000, .inr (.inl va))) := (mp_up_n (mp_ne hel__M_7 h0__M_7 (by simp))).trans hel__M_7
  have hek__M_7_n : mp_up M_7 mo (.inr (4, [.ref el, .ref ek, .int (nI ec), .ref bg, .ref sz, .ref kn, .int (nI tc), .ref rw, .int (nI wc), .ref pp, .ref pk, .ref wd, .ref lo, .int (nI (sc + 1)), .ref kp, .ref ks, .int (nI nc), .int (nI th)])) ek = some (.inl (k 0, 4000, .inl (fun i_ => nI (kd i_)))) := (mp_up_n (mp_ne hek__M_7 h0__M_7 (by simp))).trans hek__M_7
  have hbg__M_7_n : mp_up M_7 mo (.inr (4, [.ref el, .ref ek, .int (nI ec), .ref bg, .ref sz, .ref kn, .int (nI tc), .ref rw, .int (nI wc), .ref pp, .ref pk, .ref wd, .ref lo, .int (nI (sc + 1)), .ref kp, .ref ks, .int (nI nc), .int (nI th)])) bg = some (.inl (k 0, 300, .inl (fun i_ => nI (tf i_)))) := (mp_up_n (mp_ne hbg__M_7 h0__M_7 (by simp))).trans hbg__M_7
  have hsz__M_7_n : mp_up M_7 mo (.inr (4, [.ref el, .ref ek, .int (nI ec), .ref bg, .ref sz, .ref kn, .int (nI tc), .ref rw, .int (nI wc), .ref pp, .ref pk, .ref wd, .ref lo, .int (nI (sc + 1)), .ref kp, .ref ks, .int (nI nc), .int (nI th)])) sz = some (.inl (k 0, 300, .inl (fun i_ => nI (tz i_)))) := (mp_up_n (mp_ne hsz__M_7 h0__M_7 (by simp))).trans hsz__M_7
  have hkn__M_7_n : mp_up M_7 mo (.inr (4, [.ref el, .ref ek, .int (nI ec), .ref bg, .ref sz, .ref kn, .int (nI tc), .ref rw, .int (nI wc), .ref pp, .ref pk, .ref wd, .ref lo, .int (nI (sc + 1)), .ref kp, .ref ks, .int (nI nc), .int (nI th)])) kn = some (.inl (k 0, 300, .inl (fun i_ => nI (tk i_)))) := (mp_up_n (mp_ne hkn__M_7 h0__M_7 (by simp))).trans hkn__M_7
  have hrw__M_7_n : mp_up M_7 mo (.inr (4, [.ref el, .ref ek, .int (nI ec), .ref bg, .ref sz, .ref kn, .int (nI tc), .ref rw, .int (nI wc), .ref pp, .ref pk, .ref wd, .ref lo, .int (nI (sc + 1)), .ref kp, .ref ks, .int (nI nc), .int (nI th)])) rw = some (.inl (k 0, 12, .inl (fun i_ => nI (wt i_)))) := (mp_up_n (mp_ne hrw__M_7 h0__M_7 (by simp))).trans hrw__M_7
  have hpp__M_7_n : mp_up M_7 mo (.inr (4, [.ref el, .ref ek, .int (nI ec), .ref bg, .ref sz, .ref kn, .int (nI tc), .ref rw, .int (nI wc), .ref pp, .ref pk, .ref wd, .ref lo, .int (nI (sc + 1)), .ref kp, .ref ks, .int (nI nc), .int (nI th)])) pp = some (.inl (k 0, 100, .inl (fun i_ => nI ((nu sf sc pf) i_)))) := (mp_up_n (mp_ne hpp__M_7 h0__M_7 (by simp))).trans hpp__M_7
  have hpk__M_7_n : mp_up M_7 mo (.inr (4, [.ref el, .ref ek, .int (nI ec), .ref bg, .ref sz, .ref kn, .int (nI tc), .ref rw, .int (nI wc), .ref pp, .ref pk, .ref wd, .ref lo, .int (nI (sc + 1)), .ref kp, .ref ks, .int (nI nc), .int (nI th)])) pk = some (.inl (k 0, 100, .inl (fun i_ => nI ((nu sk sc px) i_)))) := (mp_up_n (mp_ne hpk__M_7 h0__M_7 (by simp))).trans hpk__M_7
  have hwd__M_7_n : mp_up M_7 mo (.inr (4, [.ref el, .ref ek, .int (nI ec), .ref bg, .ref sz, .ref kn, .int (nI tc), .ref rw, .int (nI wc), .ref pp, .ref pk, .ref wd, .ref lo, .int (nI (sc + 1)), .ref kp, .ref ks, .int (nI nc), .int (nI th)])) wd = some (.inl (k 0, 100, .inl (fun i_ => nI ((nu sw sc pw) i_)))) := (mp_up_n (mp_ne hwd__M_7 h0__M_7 (by simp))).trans hwd__M_7
  have hlo__M_7_n : mp_up M_7 mo (.inr (4, [.ref el, .ref ek, .int (nI ec), .ref bg, .ref sz, .ref kn, .int (nI tc), .ref rw, .int (nI wc), .ref pp, .ref pk, .ref wd, .ref lo, .int (nI (sc + 1)), .ref kp, .ref ks, .int (nI nc), .int (nI th)])) lo = some (.inl (k 5, 100, .inl (fun i_ => nI ((nu ml sc pb) i_)))) := (mp_up_n (mp_ne hlo__M_7 h0__M_7 (by simp))).trans hlo__M_7
  have hkp__M_7_n : mp_up M_7 mo (.inr (4, [.ref el, .ref ek, .int (nI ec), .ref bg, .ref sz, .ref kn, .int (nI tc), .ref rw, .int (nI wc), .ref pp, .ref pk, .ref wd, .ref lo, .int (nI (sc + 1)), .ref kp, .ref ks, .int (nI nc), .int (nI th)])) kp = some (.inl (k 1, 80000, .inr (.inl mk))) := (mp_up_n (mp_ne hkp__M_7 h0__M_7 (by simp))).trans hkp__M_7
  have hks__M_7_n : mp_up M_7 mo (.inr (4, [.ref el, .ref ek, .int (nI ec), .ref bg, .ref sz, .ref kn, .int (nI tc), .ref rw, .int (nI wc), .ref pp, .ref pk, .ref wd, .ref lo, .int (nI (sc + 1)), .ref kp, .ref ks, .int (nI nc), .int (nI th)])) ks = some (.inl (k 0, 20, .inl (fun i_ => nI (nn i_)))) := (mp_up_n (mp_ne hks__M_7 h0__M_7 (by simp))).trans hks__M_7
  generalize eM_10 : mp_up M_7 mo (.inr (4, [.ref el, .ref ek, .int (nI ec), .ref bg, .ref sz, .ref kn, .int (nI tc), .ref rw, .int (nI wc), .ref pp, .ref pk, .ref wd, .ref lo, .int (nI (sc + 1)), .ref kp, .ref ks, .int (nI nc), .int (nI th)])) = M_9 at I h0__M_7_n hel__M_7_n hek__M_7_n hbg__M_7_n hsz__M_7_n hkn__M_7_n hrw__M_7_n hpp__M_7_n hpk__M_7_n hwd__M_7_n hlo__M_7_n hkp__M_7_n hks__M_7_n
  have h0__M_9 := h0__M_7_n
  have hel__M_9 := hel__M_7_n
  have hek__M_9 := hek__M_7_n
  have hbg__M_9 := hbg__M_7_n
  have hsz__M_9 := hsz__M_7_n
  have hkn__M_9 := hkn__M_7_n
  have hrw__M_9 := hrw__M_7_n
  have hpp__M_9 := hpp__M_7_n
  have hpk__M_9 := hpk__M_7_n
  have hwd__M_9 := hwd__M_7_n
  have hlo__M_9 := hlo__M_7_n
  have hkp__M_9 := hkp__M_7_n
  have hks__M_9 := hks__M_7_n
  clear h0__M_7_n hel__M_7_n hek__M_7_n hbg__M_7_n hsz__M_7_n hkn__M_7_n hrw__M_7_n hpp__M_7_n hpk__M_7_n hwd__M_7_n hlo__M_7_n hkp__M_7_n hks__M_7_n
  have hE := hE.cnt ec tc wc (sc + 1) nc th
  rw [eM_10] at hE
  refine lv_aload_n hx hb dM_newPlace_51 rfl (lv_at hl 0 rfl) ?_
  refine mp_get (v := .int (nI (sc + 1))) hx hb hts inM hown I h0__M_9 rfl 13 (by decide) (hts _ bw_344) (fun _ h9 => h9) rfl dM_newPlace_52 ?_
  refine lv_iconst (v := nI 1) hx hb dM_newPlace_55 (by decide) ?_
  refine zz_isub hx hb (by omega) dM_newPlace_56 ?_
  exact mp_iret hx hb hr hlocks I (Nat.le_of_ble_eq_true rfl) (Nat.le_of_ble_eq_true rfl) dM_newPlace_57 ⟨rfl, hE⟩
abbrev rm_M_place : Room := { frames := 1, cells := 0, slots := 0, locals := 30 }
set_option maxHeartbeats 4000000 in
set_option maxRecDepth 100000 in
theorem kM_place (l : Launch) (D : va_G) (k : Nat → ClassId) (M : mp_M) {mo el ek bg sz kn rw pp pk wd lo kp ks : Nat} {ec tc wc sc nc th : Nat} {va mk : Nat → Int64} {kd wt tk tf tz sk sf sw ml nn : Nat → Nat} (hE : MdX k M mo el ek bg sz kn rw pp pk wd lo kp ks ec tc wc sc nc th va mk kd wt tk tf tz sk sf sw ml nn) (hO : OkB ec tc wc sc nc tk tf tz sk sf sw ml nn) (x y : Int32) : mp_Met l yM_place (Cond.code yM_place cM_place 3 (some .int) :: bw) rm_M_place D cls5 (tys6 k) [.ref mo, .int x, .int y] M (va_Qi (fun r M1 => ((0 ≤ x.toInt ∧ x.toInt < tc ∧ 0 ≤ y.toInt ∧ y.toInt < tz x.toInt.toNat ∧ sc < 100) ∧ r = nI sc ∧ ∃ i yn : Nat, x.toInt = i ∧ y.toInt = yn ∧ MdX k M1 mo el ek bg sz kn rw pp pk wd lo kp ks ec tc wc (sc + 1) nc (0) va mk kd wt tk tf tz (nu sk sc (kd (tf i + yn))) (nu sf sc (tf i + yn)) (nu sw sc 1) (nu ml sc 1) nn) ∨ (¬ (0 ≤ x.toInt ∧ x.toInt < tc ∧ 0 ≤ y.toInt ∧ y.toInt < tz x.toInt.toNat ∧ sc < 100) ∧ r = -1 ∧ MdX k M1 mo el ek bg sz kn rw pp pk wd lo kp ks ec tc wc sc nc (0) va mk kd wt tk tf tz sk sf sw ml nn))) 0 0 := by
  refine mp_Met.of (by decide) (Nat.le_of_ble_eq_true rfl) ?_
  intro p e s m below meth c hx hb hr hml hown hts hlocks hin ls hl I
  have hl : lv_has ls 3 [(0, .ref mo), (1, .int x), (2, .int y)] := hl
  obtain ⟨h0, hel, hek, hbg, hsz, hkn, hrw, hpp, hpk, hwd, hlo, hkp, hks, n_bg_sz, n_bg_kn, n_sz_kn, n_pp_pk, n_pp_wd, n_pk_wd, n_pp_lo, n_pk_lo, n_wd_lo⟩ := id hE
  obtain ⟨b1, b2, b3, b4, b5, bT, bS, bN⟩ := id hO
  refine lv_aload_n hx hb dM_place_0 rfl (lv_at hl 0 rfl) ?_
  refine lv_iconst (v := nI 0) hx hb dM_place_1 (by decide) ?_
  refine mp_put (v := .int (nI 0)) (ty := .int) hx hb hts inM tyM okM nmM hown I h0 rfl 17 (by decide) (hts _ bw_348) (fun _ h9 => h9) rfl (by decide +kernel) rfl rfl (Nat.le_of_ble_eq_true rfl) dM_place_2 (fun H locs I => ?_)
  have I : mp_I D cls5 (tys6 k) s _ s.heap H locs (mp_up M mo (.inr (4, [.ref el, .ref ek, .int (nI ec), .ref bg, .ref sz, .ref kn, .int (nI tc), .ref rw, .int (nI wc), .ref pp, .ref pk, .ref wd, .ref lo, .int (nI sc), .ref kp, .ref ks, .int (nI nc), .int (nI 0)]))) := I
  have h0_n : mp_up M mo (.inr (4, [.ref el, .ref ek, .int (nI ec), .ref bg, .ref sz, .ref kn, .int (nI tc), .ref rw, .int (nI wc), .ref pp, .ref pk, .ref wd, .ref lo, .int (nI sc), .ref kp, .ref ks, .int (nI nc), .int (nI 0)])) mo = some (.inr (4, [.ref el, .ref ek, .int (nI ec), .ref bg, .ref sz, .ref kn, .int (nI tc), .ref rw, .int (nI wc), .ref pp, .ref pk, .ref wd, .ref lo, .int (nI sc), .ref kp, .ref ks, .int (nI nc), .int (nI 0)])) := mp_up_s _ _ _
  have hel_n : mp_up M mo (.inr (4, [.ref el, .ref ek, .int (nI ec), .ref bg, .ref sz, .ref kn, .int (nI tc), .ref rw, .int (nI wc), .ref pp, .ref pk, .ref wd, .ref lo, .int (nI sc), .ref kp, .ref ks, .int (nI nc), .int (nI 0)])) el = some (.inl (k 1, 4000, .inr (.inl va))) := (mp_up_n (mp_ne hel h0 (by simp))).trans hel
  have hek_n : mp_up M mo (.inr (4, [.ref el, .ref ek, .int (nI ec), .ref bg, .ref sz, .ref kn, .int (nI tc), .ref rw, .int (nI wc), .ref pp, .ref pk, .ref wd, .ref lo, .int (nI sc), .ref kp, .ref ks, .int (nI nc), .int (nI 0)])) ek = some (.inl (k 0, 4000, .inl (fun i_ => nI (kd i_)))) := (mp_up_n (mp_ne hek h0 (by simp))).trans hek
  have hbg_n : mp_up M mo (.inr (4, [.ref el, .ref ek, .int (nI ec), .ref bg, .ref sz, .ref kn, .int (nI tc), .ref rw, .int (nI wc), .ref pp, .ref pk, .ref wd, .ref lo, .int (nI sc), .ref kp, .ref ks, .int (nI nc), .int (nI 0)])) bg = some (.inl (k 0, 300, .inl (fun i_ => nI (tf i_)))) := (mp_up_n (mp_ne hbg h0 (by simp))).trans hbg
  have hsz_n : mp_up M mo (.inr (4, [.ref el, .ref ek, .int (nI ec), .ref bg, .ref sz, .ref kn, .int (nI tc), .ref rw, .int (nI wc), .ref pp, .ref pk, .ref wd, .ref lo, .int (nI sc), .ref kp, .ref ks, .int (nI nc), .int (nI 0)])) sz = some (.inl (k 0, 300, .inl (fun i_ => nI (tz i_)))) := (mp_up_n (mp_ne hsz h0 (by simp))).trans hsz
  have hkn_n : mp_up M mo (.inr (4, [.ref el, .ref ek, .int (nI ec), .ref bg, .ref sz, .ref kn, .int (nI tc), .ref rw, .int (nI wc), .ref pp, .ref pk, .ref wd, .ref lo, .int (nI sc), .ref kp, .ref ks, .int (nI nc), .int (nI 0)])) kn = some (.inl (k 0, 300, .inl (fun i_ => nI (tk i_)))) := (mp_up_n (mp_ne hkn h0 (by simp))).trans hkn
  have hrw_n : mp_up M mo (.inr (4, [.ref el, .ref ek, .int (nI ec), .ref bg, .ref sz, .ref kn, .int (nI tc), .ref rw, .int (nI wc), .ref pp, .ref pk, .ref wd, .ref lo, .int (nI sc), .ref kp, .ref ks, .int (nI nc), .int (nI 0)])) rw = some (.inl (k 0, 12, .inl (fun i_ => nI (wt i_)))) := (mp_up_n (mp_ne hrw h0 (by simp))).trans hrw
  have hpp_n : mp_up M mo (.inr (4, [.ref el, .ref ek, .int (nI ec), .ref bg, .ref sz, .ref kn, .int (nI tc), .ref rw, .int (nI wc), .ref pp, .ref pk, .ref wd, .ref lo, .int (nI sc), .ref kp, .ref ks, .int (nI nc), .int (nI 0)])) pp = some (.inl (k 0, 100, .inl (fun i_ => nI (sf i_)))) := (mp_up_n (mp_ne hpp h0 (by simp))).trans hpp
  have hpk_n : mp_up M mo (.inr (4, [.ref el, .ref ek, .int (nI ec), .ref bg, .ref sz, .ref kn, .int (nI tc), .ref rw, .int (nI wc), .ref pp, .ref pk, .ref wd, .ref lo, .int (nI sc), .ref kp, .ref ks, .int (nI nc), .int (nI 0)])) pk = some (.inl (k 0, 100, .inl (fun i_ => nI (sk i_)))) := (mp_up_n (mp_ne hpk h0 (by simp))).trans hpk
  have hwd_n : mp_up M mo (.inr (4, [.ref el, .ref ek, .int (nI ec), .ref bg, .ref sz, .ref kn, .int (nI tc), .ref rw, .int (nI wc), .ref pp, .ref pk, .ref wd, .ref lo, .int (nI sc), .ref kp, .ref ks, .int (nI nc), .int (nI 0)])) wd = some (.inl (k 0, 100, .inl (fun i_ => nI (sw i_)))) := (mp_up_n (mp_ne hwd h0 (by simp))).trans hwd
  have hlo_n : mp_up M mo (.inr (4, [.ref el, .ref ek, .int (nI ec), .ref bg, .ref sz, .ref kn, .int (nI tc), .ref rw, .int (nI wc), .ref pp, .ref pk, .ref wd, .ref lo, .int (nI sc), .ref kp, .ref ks, .int (nI nc), .int (nI 0)])) lo = some (.inl (k 5, 100, .inl (fun i_ => nI (ml i_)))) := (mp_up_n (mp_ne hlo h0 (by simp))).trans hlo
  have hkp_n : mp_up M mo (.inr (4, [.ref el, .ref ek, .int (nI ec), .ref bg, .ref sz, .ref kn, .int (nI tc), .ref rw, .int (nI wc), .ref pp, .ref pk, .ref wd, .ref lo, .int (nI sc), .ref kp, .ref ks, .int (nI nc), .int (nI 0)])) kp = some (.inl (k 1, 80000, .inr (.inl mk))) := (mp_up_n (mp_ne hkp h0 (by simp))).trans hkp
  have hks_n : mp_up M mo (.inr (4, [.ref el, .ref ek, .int (nI ec), .ref bg, .ref sz, .ref kn, .int (nI tc), .ref rw, .int (nI wc), .ref pp, .ref pk, .ref wd, .ref lo, .int (nI sc), .ref kp, .ref ks, .int (nI nc), .int (nI 0)])) ks = some (.inl (k 0, 20, .inl (fun i_ => nI (nn i_)))) := (mp_up_n (mp_ne hks h0 (by simp))).trans hks
  generalize eM_2 : mp_up M mo (.inr (4, [.ref el, .ref ek, .int (nI ec), .ref bg, .ref sz, .ref kn, .int (nI tc), .ref rw, .int (nI wc), .ref pp, .ref pk, .ref wd, .ref lo, .int (nI sc), .ref kp, .ref ks, .int (nI nc), .int (nI 0)])) = M_1 at I h0_n hel_n hek_n hbg_n hsz_n hkn_n hrw_n hpp_n hpk_n hwd_n hlo_n hkp_n hks_n
  have h0__M_1 := h0_n
  have hel__M_1 := hel_n
  have hek__M_1 := hek_n
  have hbg__M_1 := hbg_n
  have hsz__M_1 := hsz_n
  have hkn__M_1 := hkn_n
  have hrw__M_1 := hrw_n
  have hpp__M_1 := hpp_n
  have hpk__M_1 := hpk_n
  have hwd__M_1 := hwd_n
  have hlo__M_1 := hlo_n
  have hkp__M_1 := hkp_n
  have hks__M_1 := hks_n
  clear h0_n hel_n hek_n hbg_n hsz_n hkn_n hrw_n hpp_n hpk_n hwd_n hlo_n hkp_n hks_n
  have hE := hE.cnt ec tc wc sc nc 0
  rw [eM_2] at hE
  refine lv_aload_n hx hb dM_place_5 rfl (lv_at hl 0 rfl) ?_
  refine mp_get (v := .int (nI sc)) hx hb hts inM hown I h0__M_1 rfl 13 (by decide) (hts _ bw_344) (fun _ h9 => h9) rfl dM_place_6 ?_
  refine lv_bipush (v := nI 100) hx hb dM_place_9 (by decide) ?_
  refine zz_icmp_eq (tgt := 36) hx hb (nI_toInt (by first | assumption | omega)) (nI_toInt (by decide)) dM_place_11 (by decide) (fun c_3 => ?_) (fun c_3 => ?_)
  · refine lv_iconst (v := (-1)) hx hb dM_place_36 (by decide) ?_
    exact mp_iret hx hb hr hlocks I (Nat.le_of_ble_eq_true rfl) (Nat.le_of_ble_eq_true rfl) dM_place_37 (Or.inr ⟨by omega, rfl, hE⟩)
  · refine lv_aload_n hx hb dM_place_14 rfl (lv_at hl 0 rfl) ?_
    refine lv_iload_n hx hb dM_place_15 rfl (lv_at hl 1 rfl) ?_
    refine mp_calli (va_runV (As := [.int x]) (rest := []) ⟨hx, hb, hml, hown, hts⟩ (kM_isObject l D k M_1 hE hO x _) (cwV 1 hts (bw_V bw_415 bw_417 bs_12 bw_2 bw_418) rfl rfl rfl (by decide +kernel) ⟨Nat.le_of_ble_eq_true rfl, Nat.le_of_ble_eq_true rfl⟩) (mp_preV I h0__M_1 rfl _) rfl rfl hl.1 rfl (lv_room (Nat.le_of_ble_eq_true rfl)) dM_place_16 ⟨Nat.le_of_ble_eq_true rfl, Nat.le_of_ble_eq_true rfl⟩) I (fun r_4 N_5 H locs hp I => ?_)
    obtain ⟨e_6, hp⟩ := hp
    rw [e_6] at I
    rcases hp with ⟨p1, rfl⟩ | ⟨p1, rfl⟩
    · refine zz_if_eq (tgt := 36) hx hb (nI_toInt (by decide)) dM_place_19 (by decide) (fun c_7 => absurd c_7 (by decide)) (fun _ => ?_)
      obtain ⟨xn, hn_xn, rfl, hz_xn⟩ := i32_nat (x := x) (by omega)
      have hTx := bT xn (by omega)
      have hxi : (nI xn).toInt.toNat = xn := by omega
      refine lv_iload_n hx hb dM_place_22 rfl (lv_at hl 2 rfl) ?_
      refine zz_if_lt (tgt := 36) hx hb rfl dM_place_23 (by decide) (fun c_8 => ?_) (fun c_8 => ?_)
      · refine lv_iconst (v := (-1)) hx hb dM_place_36 (by decide) ?_
        exact mp_iret hx hb hr hlocks I (Nat.le_of_ble_eq_true rfl) (Nat.le_of_ble_eq_true rfl) dM_place_37 (Or.inr ⟨by rw [hxi]; omega, rfl, hE⟩)
      · refine lv_iload_n hx hb dM_place_26 rfl (lv_at hl 2 rfl) ?_
        refine lv_aload_n hx hb dM_place_27 rfl (lv_at hl 0 rfl) ?_
        refine mp_get (v := .ref sz) hx hb hts inM hown I h0__M_1 rfl 4 (by decide) (hts _ bw_335) (fun _ h9 => h9) rfl dM_place_28 ?_
        refine lv_iload_n hx hb dM_place_31 rfl (lv_at hl 1 rfl) ?_
        refine mp_iald hx hb I 0 hsz__M_1 rfl xn rfl (by omega) (by decide) (v := nI (tz xn)) rfl dM_place_32 ?_
        refine zz_icmp_lt (tgt := 38) hx hb rfl (nI_toInt (by first | assumption | omega)) dM_place_33 (by decide) (fun c_9 => ?_) (fun c_9 => ?_)
        · obtain ⟨yn, hn_yn, rfl, hz_yn⟩ := i32_nat (x := y) (by omega)
          refine lv_aload_n hx hb dM_place_38 rfl (lv_at hl 0 rfl) ?_
          refine lv_aload_n hx hb dM_place_39 rfl (lv_at hl 0 rfl) ?_
          refine mp_get (v := .ref bg) hx hb hts inM hown I h0__M_1 rfl 3 (by decide) (hts _ bw_334) (fun _ h9 => h9) rfl dM_place_40 ?_
          refine lv_iload_n hx hb dM_place_43 rfl (lv_at hl 1 rfl) ?_
          refine mp_iald hx hb I 0 hbg__M_1 rfl xn rfl (by omega) (by decide) (v := nI (tf xn)) rfl dM_place_44 ?_
          refine lv_iload_n hx hb dM_place_45 rfl (lv_at hl 2 rfl) ?_
          refine zz_iadd hx hb dM_place_46 ?_
          refine lv_aload_n hx hb dM_place_47 rfl (lv_at hl 0 rfl) ?_
          refine mp_get (v := .ref ek) hx hb hts inM hown I h0__M_1 rfl 1 (by decide) (hts _ bw_332) (fun _ h9 => h9) rfl dM_place_48 ?_
          refine lv_aload_n hx hb dM_place_51 rfl (lv_at hl 0 rfl) ?_
          refine mp_get (v := .ref bg) hx hb hts inM hown I h0__M_1 rfl 3 (by decide) (hts _ bw_334) (fun _ h9 => h9) rfl dM_place_52 ?_
          refine lv_iload_n hx hb dM_place_55 rfl (lv_at hl 1 rfl) ?_
          refine mp_iald hx hb I 0 hbg__M_1 rfl xn rfl (by omega) (by decide) (v := nI (tf xn)) rfl dM_place_56 ?_
          refine lv_iload_n hx hb dM_place_57 rfl (lv_at hl 2 rfl) ?_
          refine zz_iadd hx hb dM_place_58 ?_
          refine mp_iald hx hb I 0 hek__M_1 rfl (tf xn + yn) rfl (by omega) (by decide) (v := nI (kd (tf xn + yn))) rfl dM_place_59 ?_
          refine lv_iconst (v := nI 1) hx hb dM_place_60 (by decide) ?_
          refine lv_iconst (v := nI 1) hx hb dM_place_61 (by decide) ?_
          refine mp_calli (va_runV (As := [.int (nI (tf xn + yn)), .int (nI (kd (tf xn + yn))), .int (nI 1), .int (nI 1)]) (rest := []) ⟨hx, hb, hml, hown, hts⟩ (kM_newPlace l D k M_1 hE hO (tf xn + yn) (kd (tf xn + yn)) 1 1 (by omega) (by omega) _) (cwV 4 hts (bw_V bw_423 bw_425 bs_13 bw_2 bw_426) rfl rfl rfl (by decide +kernel) ⟨Nat.le_of_ble_eq_true rfl, Nat.le_of_ble_eq_true rfl⟩) (mp_preV I h0__M_1 rfl _) rfl rfl hl.1 rfl (lv_room (Nat.le_of_ble_eq_true rfl)) dM_place_62 ⟨Nat.le_of_ble_eq_true rfl, Nat.le_of_ble_eq_true rfl⟩) I (fun r1 N1 H locs hp I => ?_)
          obtain ⟨rfl, hE⟩ := hp
          exact mp_iret hx hb hr hlocks I (Nat.le_of_ble_eq_true rfl) (Nat.le_of_ble_eq_true rfl) dM_place_65 (Or.inl ⟨by rw [hxi]; omega, rfl, xn, yn, hz_xn, hz_yn, hE⟩)
        · refine lv_iconst (v := (-1)) hx hb dM_place_36 (by decide) ?_
          exact mp_iret hx hb hr hlocks I (Nat.le_of_ble_eq_true rfl) (Nat.le_of_ble_eq_true rfl) dM_place_37 (Or.inr ⟨by rw [hxi]; omega, rfl, hE⟩)
    · refine zz_if_eq (tgt := 36) hx hb (nI_toInt (by decide)) dM_place_19 (by decide) (fun _ => ?_) (fun c_10 => absurd c_10 (by decide))
      refine lv_iconst (v := (-1)) hx hb dM_place_36 (by decide) ?_
      exact mp_iret hx hb hr hlocks I (Nat.le_of_ble_eq_true rfl) (Nat.le_of_ble_eq_true rfl) dM_place_37 (Or.inr ⟨by omega, rfl, hE⟩)
abbrev rm_M_view : Room := { frames := 1, cells := 0, slots := 0, locals := 40 }
set_option maxHeartbeats 4000000 in
set_option maxRecDepth 100000 in
theorem kM_view (l : Launch) (D : va_G) (k : Nat → ClassId) (M : mp_M) {mo el ek bg sz kn rw pp pk wd lo kp ks : Nat} {ec tc wc sc nc th : Nat} {va mk : Nat → Int64} {kd wt tk tf tz sk sf sw ml nn : Nat → Nat} (hE : MdX k M mo el ek bg sz kn rw pp pk wd lo kp ks ec tc wc sc nc th va mk kd wt tk tf tz sk sf sw ml nn) (hO : OkB ec tc wc sc nc tk tf tz sk sf sw ml nn) (x y z : Int32) (b : Nat) (hbb : b ≤ 1) : mp_Met l yM_view (Cond.code yM_view cM_view 6 (some .int) :: bw) rm_M_view D cls5 (tys6 k) [.ref mo, .int x, .int y, .int z, .int (nI b)] M (va_Qi (fun r M1 => ((0 ≤ x.toInt ∧ x.toInt < tc ∧ tk x.toInt.toNat = 2 ∧ wv z.toInt ≠ 0 ∧ 0 ≤ y.toInt ∧ y.toInt + wv z.toInt ≤ tz x.toInt.toNat ∧ sc < 100) ∧ r = nI sc ∧ ∃ i yn zn : Nat, x.toInt = i ∧ y.toInt = yn ∧ z.toInt = zn ∧ MdX k M1 mo el ek bg sz kn rw pp pk wd lo kp ks ec tc wc (sc + 1) nc (0) va mk kd wt tk tf tz (nu sk sc zn) (nu sf sc (tf i + yn)) (nu sw sc (wv z.toInt)) (nu ml sc b) nn) ∨ (¬ (0 ≤ x.toInt ∧ x.toInt < tc ∧ tk x.toInt.toNat = 2 ∧ wv z.toInt ≠ 0 ∧ 0 ≤ y.toInt ∧ y.toInt + wv z.toInt ≤ tz x.toInt.toNat ∧ sc < 100) ∧ r = -1 ∧ MdX k M1 mo el ek bg sz kn rw pp pk wd lo kp ks ec tc wc sc nc (0) va mk kd wt tk tf tz sk sf sw ml nn))) 0 0 := by
  refine mp_Met.of (by decide) (Nat.le_of_ble_eq_true rfl) ?_
  intro p e s m below meth c hx hb hr hml hown hts hlocks hin ls hl I
  have hl : lv_has ls 6 [(0, .ref mo), (1, .int x), (2, .int y), (3, .int z), (4, .int (nI b))] := hl
  obtain ⟨h0, hel, hek, hbg, hsz, hkn, hrw, hpp, hpk, hwd, hlo, hkp, hks, n_bg_sz, n_bg_kn, n_sz_kn, n_pp_pk, n_pp_wd, n_pk_wd, n_pp_lo, n_pk_lo, n_wd_lo⟩ := id hE
  obtain ⟨b1, b2, b3, b4, b5, bT, bS, bN⟩ := id hO
  refine lv_aload_n hx hb dM_view_0 rfl (lv_at hl 0 rfl) ?_
  refine lv_iconst (v := nI 0) hx hb dM_view_1 (by decide) ?_
  refine mp_put (v := .int (nI 0)) (ty := .int) hx hb hts inM tyM okM nmM hown I h0 rfl 17 (by decide) (hts _ bw_348) (fun _ h9 => h9) rfl (by decide +kernel) rfl rfl (Nat.le_of_ble_eq_true rfl) dM_view_2 (fun H locs I => ?_)
  have I : mp_I D cls5 (tys6 k) s _ s.heap H locs (mp_up M mo (.inr (4, [.ref el, .ref ek, .int (nI ec), .ref bg, .ref sz, .ref kn, .int (nI tc), .ref rw, .int (nI wc), .ref pp, .ref pk, .ref wd, .ref lo, .int (nI sc), .ref kp, .ref ks, .int (nI nc), .int (nI 0)]))) := I
  have h0_n : mp_up M mo (.inr (4, [.ref el, .ref ek, .int (nI ec), .ref bg, .ref sz, .ref kn, .int (nI tc), .ref rw, .int (nI wc), .ref pp, .ref pk, .ref wd, .ref lo, .int (nI sc), .ref kp, .ref ks, .int (nI nc), .int (nI 0)])) mo = some (.inr (4, [.ref el, .ref ek, .int (nI ec), .ref bg, .ref sz, .ref kn, .int (nI tc), .ref rw, .int (nI wc), .ref pp, .ref pk, .ref wd, .ref lo, .int (nI sc), .ref kp, .ref ks, .int (nI nc), .int (nI 0)])) := mp_up_s _ _ _
  have hel_n : mp_up M mo (.inr (4, [.ref el, .ref ek, .int (nI ec), .ref bg, .ref sz, .ref kn, .int (nI tc), .ref rw, .int (nI wc), .ref pp, .ref pk, .ref wd, .ref lo, .int (nI sc), .ref kp, .ref ks, .int (nI nc), .int (nI 0)])) el = some (.inl (k 1, 4000, .inr (.inl va))) := (mp_up_n (mp_ne hel h0 (by simp))).trans hel
  have hek_n : mp_up M mo (.inr (4, [.ref el, .ref ek, .int (nI ec), .ref bg, .ref sz, .ref kn, .int (nI tc), .ref rw, .int (nI wc), .ref pp, .ref pk, .ref wd, .ref lo, .int (nI sc), .ref kp, .ref ks, .int (nI nc), .int (nI 0)])) ek = some (.inl (k 0, 4000, .inl (fun i_ => nI (kd i_)))) := (mp_up_n (mp_ne hek h0 (by simp))).trans hek
  have hbg_n : mp_up M mo (.inr (4, [.ref el, .ref ek, .int (nI ec), .ref bg, .ref sz, .ref kn, .int (nI tc), .ref rw, .int (nI wc), .ref pp, .ref pk, .ref wd, .ref lo, .int (nI sc), .ref kp, .ref ks, .int (nI nc), .int (nI 0)])) bg = some (.inl (k 0, 300, .inl (fun i_ => nI (tf i_)))) := (mp_up_n (mp_ne hbg h0 (by simp))).trans hbg
  have hsz_n : mp_up M mo (.inr (4, [.ref el, .ref ek, .int (nI ec), .ref bg, .ref sz, .ref kn, .int (nI tc), .ref rw, .int (nI wc), .ref pp, .ref pk, .ref wd, .ref lo, .int (nI sc), .ref kp, .ref ks, .int (nI nc), .int (nI 0)])) sz = some (.inl (k 0, 300, .inl (fun i_ => nI (tz i_)))) := (mp_up_n (mp_ne hsz h0 (by simp))).trans hsz
  have hkn_n : mp_up M mo (.inr (4, [.ref el, .ref ek, .int (nI ec), .ref bg, .ref sz, .ref kn, .int (nI tc), .ref rw, .int (nI wc), .ref pp, .ref pk, .ref wd, .ref lo, .int (nI sc), .ref kp, .ref ks, .int (nI nc), .int (nI 0)])) kn = some (.inl (k 0, 300, .inl (fun i_ => nI (tk i_)))) := (mp_up_n (mp_ne hkn h0 (by simp))).trans hkn
  have hrw_n : mp_up M mo (.inr (4, [.ref el, .ref ek, .int (nI ec), .ref bg, .ref sz, .ref kn, .int (nI tc), .ref rw, .int (nI wc), .ref pp, .ref pk, .ref wd, .ref lo, .int (nI sc), .ref kp, .ref ks, .int (nI nc), .int (nI 0)])) rw = some (.inl (k 0, 12, .inl (fun i_ => nI (wt i_)))) := (mp_up_n (mp_ne hrw h0 (by simp))).trans hrw
  have hpp_n : mp_up M mo (.inr (4, [.ref el, .ref ek, .int (nI ec), .ref bg, .ref sz, .ref kn, .int (nI tc), .ref rw, .int (nI wc), .ref pp, .ref pk, .ref wd, .ref lo, .int (nI sc), .ref kp, .ref ks, .int (nI nc), .int (nI 0)])) pp = some (.inl (k 0, 100, .inl (fun i_ => nI (sf i_)))) := (mp_up_n (mp_ne hpp h0 (by simp))).trans hpp
  have hpk_n : mp_up M mo (.inr (4, [.ref el, .ref ek, .int (nI ec), .ref bg, .ref sz, .ref kn, .int (nI tc), .ref rw, .int (nI wc), .ref pp, .ref pk, .ref wd, .ref lo, .int (nI sc), .ref kp, .ref ks, .int (nI nc), .int (nI 0)])) pk = some (.inl (k 0, 100, .inl (fun i_ => nI (sk i_)))) := (mp_up_n (mp_ne hpk h0 (by simp))).trans hpk
  have hwd_n : mp_up M mo (.inr (4, [.ref el, .ref ek, .int (nI ec), .ref bg, .ref sz, .ref kn, .int (nI tc), .ref rw, .int (nI wc), .ref pp, .ref pk, .ref wd, .ref lo, .int (nI sc), .ref kp, .ref ks, .int (nI nc), .int (nI 0)])) wd = some (.inl (k 0, 100, .inl (fun i_ => nI (sw i_)))) := (mp_up_n (mp_ne hwd h0 (by simp))).trans hwd
  have hlo_n : mp_up M mo (.inr (4, [.ref el, .ref ek, .int (nI ec), .ref bg, .ref sz, .ref kn, .int (nI tc), .ref rw, .int (nI wc), .ref pp, .ref pk, .ref wd, .ref lo, .int (nI sc), .ref kp, .ref ks, .int (nI nc), .int (nI 0)])) lo = some (.inl (k 5, 100, .inl (fun i_ => nI (ml i_)))) := (mp_up_n (mp_ne hlo h0 (by simp))).trans hlo
  have hkp_n : mp_up M mo (.inr (4, [.ref el, .ref ek, .int (nI ec), .ref bg, .ref sz, .ref kn, .int (nI tc), .ref rw, .int (nI wc), .ref pp, .ref pk, .ref wd, .ref lo, .int (nI sc), .ref kp, .ref ks, .int (nI nc), .int (nI 0)])) kp = some (.inl (k 1, 80000, .inr (.inl mk))) := (mp_up_n (mp_ne hkp h0 (by simp))).trans hkp
  have hks_n : mp_up M mo (.inr (4, [.ref el, .ref ek, .int (nI ec), .ref bg, .ref sz, .ref kn, .int (nI tc), .ref rw, .int (nI wc), .ref pp, .ref pk, .ref wd, .ref lo, .int (nI sc), .ref kp, .ref ks, .int (nI nc), .int (nI 0)])) ks = some (.inl (k 0, 20, .inl (fun i_ => nI (nn i_)))) := (mp_up_n (mp_ne hks h0 (by simp))).trans hks
  generalize eM_2 : mp_up M mo (.inr (4, [.ref el, .ref ek, .int (nI ec), .ref bg, .ref sz, .ref kn, .int (nI tc), .ref rw, .int (nI wc), .ref pp, .ref pk, .ref wd, .ref lo, .int (nI sc), .ref kp, .ref ks, .int (nI nc), .int (nI 0)])) = M_1 at I h0_n hel_n hek_n hbg_n hsz_n hkn_n hrw_n hpp_n hpk_n hwd_n hlo_n hkp_n hks_n
  have h0__M_1 := h0_n
  have hel__M_1 := hel_n
  have hek__M_1 := hek_n
  have hbg__M_1 := hbg_n
  have hsz__M_1 := hsz_n
  have hkn__M_1 := hkn_n
  have hrw__M_1 := hrw_n
  have hpp__M_1 := hpp_n
  have hpk__M_1 := hpk_n
  have hwd__M_1 := hwd_n
  have hlo__M_1 := hlo_n
  have hkp__M_1 := hkp_n
  have hks__M_1 := hks_n
  clear h0_n hel_n hek_n hbg_n hsz_n hkn_n hrw_n hpp_n hpk_n hwd_n hlo_n hkp_n hks_n
  have hE := hE.cnt ec tc wc sc nc 0
  rw [eM_2] at hE
  refine lv_iload_n hx hb dM_view_5 rfl (lv_at hl 3 rfl) ?_
  refine lv_iconst (v := nI 3) hx hb dM_view_6 (by decide) ?_
  refine zz_icmp_eq (tgt := 15) hx hb rfl (nI_toInt (by decide)) dM_view_7 (by decide) (fun c_3 => ?_) (fun c_3 => ?_)
  · refine lv_iconst (v := nI 2) hx hb dM_view_15 (by decide) ?_
    refine lv_goto (tgt := 40) hx hb dM_view_16 (by decide) ?_
    refine lv_istore (lv' := [(5, .int (nI 2)), (0, .ref mo), (1, .int x), (2, .int y), (3, .int z), (4, .int (nI b))]) hx hb dM_view_40 hl (by decide) rfl (fun ls hl => ?_)
    have hwv : wv z.toInt = 2 := by unfold wv; (repeat' split) <;> omega
    refine lv_aload_n hx hb dM_view_42 rfl (lv_at hl 1 rfl) ?_
    refine mp_get (v := .int (nI sc)) hx hb hts inM hown I h0__M_1 rfl 13 (by decide) (hts _ bw_344) (fun _ h9 => h9) rfl dM_view_43 ?_
    refine lv_bipush (v := nI 100) hx hb dM_view_46 (by decide) ?_
    refine zz_icmp_eq (tgt := 91) hx hb (nI_toInt (by first | assumption | omega)) (nI_toInt (by decide)) dM_view_48 (by decide) (fun c_4 => ?_) (fun c_4 => ?_)
    · refine lv_iconst (v := (-1)) hx hb dM_view_91 (by decide) ?_
      exact mp_iret hx hb hr hlocks I (Nat.le_of_ble_eq_true rfl) (Nat.le_of_ble_eq_true rfl) dM_view_92 (Or.inr ⟨by rw [hwv]; omega, rfl, hE⟩)
    · refine lv_aload_n hx hb dM_view_51 rfl (lv_at hl 1 rfl) ?_
      refine lv_iload_n hx hb dM_view_52 rfl (lv_at hl 2 rfl) ?_
      refine mp_calli (va_runV (As := [.int x]) (rest := []) ⟨hx, hb, hml, hown, hts⟩ (kM_isObject l D k M_1 hE hO x _) (cwV 1 hts (bw_V bw_415 bw_417 bs_12 bw_2 bw_418) rfl rfl rfl (by decide +kernel) ⟨Nat.le_of_ble_eq_true rfl, Nat.le_of_ble_eq_true rfl⟩) (mp_preV I h0__M_1 rfl _) rfl rfl hl.1 rfl (lv_room (Nat.le_of_ble_eq_true rfl)) dM_view_53 ⟨Nat.le_of_ble_eq_true rfl, Nat.le_of_ble_eq_true rfl⟩) I (fun r_5 N_6 H locs hp I => ?_)
      obtain ⟨e_7, hp⟩ := hp
      rw [e_7] at I
      rcases hp with ⟨p1, rfl⟩ | ⟨p1, rfl⟩
      · refine zz_if_eq (tgt := 91) hx hb (nI_toInt (by decide)) dM_view_56 (by decide) (fun c_8 => absurd c_8 (by decide)) (fun _ => ?_)
        obtain ⟨xn, hn_xn, rfl, hz_xn⟩ := i32_nat (x := x) (by omega)
        have hTx := bT xn (by omega)
        have hxi : (nI xn).toInt.toNat = xn := by omega
        refine lv_aload_n hx hb dM_view_59 rfl (lv_at hl 1 rfl) ?_
        refine mp_get (v := .ref kn) hx hb hts inM hown I h0__M_1 rfl 5 (by decide) (hts _ bw_336) (fun _ h9 => h9) rfl dM_view_60 ?_
        refine lv_iload_n hx hb dM_view_63 rfl (lv_at hl 2 rfl) ?_
        refine mp_iald hx hb I 0 hkn__M_1 rfl xn rfl (by omega) (by decide) (v := nI (tk xn)) rfl dM_view_64 ?_
        refine lv_iconst (v := nI 2) hx hb dM_view_65 (by decide) ?_
        refine zz_icmp_ne (tgt := 91) hx hb (nI_toInt (by first | assumption | omega)) (nI_toInt (by decide)) dM_view_66 (by decide) (fun c_9 => ?_) (fun c_9 => ?_)
        · refine lv_iconst (v := (-1)) hx hb dM_view_91 (by decide) ?_
          exact mp_iret hx hb hr hlocks I (Nat.le_of_ble_eq_true rfl) (Nat.le_of_ble_eq_true rfl) dM_view_92 (Or.inr ⟨by rw [hxi, hwv]; omega, rfl, hE⟩)
        · refine lv_iload hx hb dM_view_69 (lv_at hl 0 rfl) ?_
          refine zz_if_eq (tgt := 91) hx hb (nI_toInt (by decide)) dM_view_71 (by decide) (fun c_10 => absurd c_10 (by decide)) (fun _ => ?_)
          refine lv_iload_n hx hb dM_view_74 rfl (lv_at hl 3 rfl) ?_
          refine zz_if_lt (tgt := 91) hx hb rfl dM_view_75 (by decide) (fun c_11 => ?_) (fun c_11 => ?_)
          · refine lv_iconst (v := (-1)) hx hb dM_view_91 (by decide) ?_
            exact mp_iret hx hb hr hlocks I (Nat.le_of_ble_eq_true rfl) (Nat.le_of_ble_eq_true rfl) dM_view_92 (Or.inr ⟨by rw [hxi, hwv]; omega, rfl, hE⟩)
          · refine lv_iload_n hx hb dM_view_78 rfl (lv_at hl 3 rfl) ?_
            refine lv_aload_n hx hb dM_view_79 rfl (lv_at hl 1 rfl) ?_
            refine mp_get (v := .ref sz) hx hb hts inM hown I h0__M_1 rfl 4 (by decide) (hts _ bw_335) (fun _ h9 => h9) rfl dM_view_80 ?_
            refine lv_iload_n hx hb dM_view_83 rfl (lv_at hl 2 rfl) ?_
            refine mp_iald hx hb I 0 hsz__M_1 rfl xn rfl (by omega) (by decide) (v := nI (tz xn)) rfl dM_view_84 ?_
            refine lv_iload hx hb dM_view_85 (lv_at hl 0 rfl) ?_
            refine lv_isub hx hb dM_view_87 ?_
            refine zz_icmp_le (tgt := 93) hx hb rfl (pk_sub_toInt (by omega) (by omega)) dM_view_88 (by decide) (fun c_12 => ?_) (fun c_12 => ?_)
            · obtain ⟨yn, hn_yn, rfl, hz_yn⟩ := i32_nat (x := y) (by omega)
              obtain ⟨zn, hn_zn, rfl, hz_zn⟩ := i32_nat (x := z) (by omega)
              refine lv_aload_n hx hb dM_view_93 rfl (lv_at hl 1 rfl) ?_
              refine lv_aload_n hx hb dM_view_94 rfl (lv_at hl 1 rfl) ?_
              refine mp_get (v := .ref bg) hx hb hts inM hown I h0__M_1 rfl 3 (by decide) (hts _ bw_334) (fun _ h9 => h9) rfl dM_view_95 ?_
              refine lv_iload_n hx hb dM_view_98 rfl (lv_at hl 2 rfl) ?_
              refine mp_iald hx hb I 0 hbg__M_1 rfl xn rfl (by omega) (by decide) (v := nI (tf xn)) rfl dM_view_99 ?_
              refine lv_iload_n hx hb dM_view_100 rfl (lv_at hl 3 rfl) ?_
              refine zz_iadd hx hb dM_view_101 ?_
              refine lv_iload_n hx hb dM_view_102 rfl (lv_at hl 4 rfl) ?_
              refine lv_iload hx hb dM_view_103 (lv_at hl 0 rfl) ?_
              refine lv_iload hx hb dM_view_105 (lv_at hl 5 rfl) ?_
              refine mp_calli (va_runV (As := [.int (nI (tf xn + yn)), .int (nI zn), .int (nI 2), .int (nI b)]) (rest := []) ⟨hx, hb, hml, hown, hts⟩ (kM_newPlace l D k M_1 hE hO (tf xn + yn) zn 2 b hbb (by omega) _) (cwV 4 hts (bw_V bw_423 bw_425 bs_13 bw_2 bw_426) rfl rfl rfl (by decide +kernel) ⟨Nat.le_of_ble_eq_true rfl, Nat.le_of_ble_eq_true rfl⟩) (mp_preV I h0__M_1 rfl _) rfl rfl hl.1 rfl (lv_room (Nat.le_of_ble_eq_true rfl)) dM_view_107 ⟨Nat.le_of_ble_eq_true rfl, Nat.le_of_ble_eq_true rfl⟩) I (fun r1 N1 H locs hp I => ?_)
              obtain ⟨rfl, hE⟩ := hp
              exact mp_iret hx hb hr hlocks I (Nat.le_of_ble_eq_true rfl) (Nat.le_of_ble_eq_true rfl) dM_view_110 (Or.inl ⟨by rw [hxi, hwv]; omega, rfl, xn, yn, zn, hz_xn, hz_yn, hz_zn, by rw [hwv]; exact hE⟩)
            · refine lv_iconst (v := (-1)) hx hb dM_view_91 (by decide) ?_
              exact mp_iret hx hb hr hlocks I (Nat.le_of_ble_eq_true rfl) (Nat.le_of_ble_eq_true rfl) dM_view_92 (Or.inr ⟨by rw [hxi, hwv]; omega, rfl, hE⟩)
      · refine zz_if_eq (tgt := 91) hx hb (nI_toInt (by decide)) dM_view_56 (by decide) (fun _ => ?_) (fun c_13 => absurd c_13 (by decide))
        refine lv_iconst (v := (-1)) hx hb dM_view_91 (by decide) ?_
        exact mp_iret hx hb hr hlocks I (Nat.le_of_ble_eq_true rfl) (Nat.le_of_ble_eq_true rfl) dM_view_92 (Or.inr ⟨by rw [hwv]; omega, rfl, hE⟩)
  · refine lv_iload_n hx hb dM_view_10 rfl (lv_at hl 3 rfl) ?_
    refine lv_iconst (v := nI 4) hx hb dM_view_11 (by decide) ?_
    refine zz_icmp_ne (tgt := 19) hx hb rfl (nI_toInt (by decide)) dM_view_12 (by decide) (fun c_14 => ?_) (fun c_14 => ?_)
    · refine lv_iload_n hx hb dM_view_19 rfl (lv_at hl 3 rfl) ?_
      refine lv_iconst (v := nI 5) hx hb dM_view_20 (by decide) ?_
      refine zz_icmp_ne (tgt := 28) hx hb rfl (nI_toInt (by decide)) dM_view_21 (by decide) (fun c_15 => ?_) (fun c_15 => ?_)
      · refine lv_iload_n hx hb dM_view_28 rfl (lv_at hl 3 rfl) ?_
        refine lv_bipush (v := nI 6) hx hb dM_view_29 (by decide) ?_
        refine zz_icmp_ne (tgt := 39) hx hb rfl (nI_toInt (by decide)) dM_view_31 (by decide) (fun c_16 => ?_) (fun c_16 => ?_)
        · refine lv_iconst (v := nI 0) hx hb dM_view_39 (by decide) ?_
          refine lv_istore (lv' := [(5, .int (nI 0)), (0, .ref mo), (1, .int x), (2, .int y), (3, .int z), (4, .int (nI b))]) hx hb dM_view_40 hl (by decide) rfl (fun ls hl => ?_)
          have hwv : wv z.toInt = 0 := by unfold wv; (repeat' split) <;> omega
          refine lv_aload_n hx hb dM_view_42 rfl (lv_at hl 1 rfl) ?_
          refine mp_get (v := .int (nI sc)) hx hb hts inM hown I h0__M_1 rfl 13 (by decide) (hts _ bw_344) (fun _ h9 => h9) rfl dM_view_43 ?_
          refine lv_bipush (v := nI 100) hx hb dM_view_46 (by decide) ?_
          refine zz_icmp_eq (tgt := 91) hx hb (nI_toInt (by first | assumption | omega)) (nI_toInt (by decide)) dM_view_48 (by decide) (fun c_17 => ?_) (fun c_17 => ?_)
          · refine lv_iconst (v := (-1)) hx hb dM_view_91 (by decide) ?_
            exact mp_iret hx hb hr hlocks I (Nat.le_of_ble_eq_true rfl) (Nat.le_of_ble_eq_true rfl) dM_view_92 (Or.inr ⟨by rw [hwv]; omega, rfl, hE⟩)
          · refine lv_aload_n hx hb dM_view_51 rfl (lv_at hl 1 rfl) ?_
            refine lv_iload_n hx hb dM_view_52 rfl (lv_at hl 2 rfl) ?_
            refine mp_calli (va_runV (As := [.int x]) (rest := []) ⟨hx, hb, hml, hown, hts⟩ (kM_isObject l D k M_1 hE hO x _) (cwV 1 hts (bw_V bw_415 bw_417 bs_12 bw_2 bw_418) rfl rfl rfl (by decide +kernel) ⟨Nat.le_of_ble_eq_true rfl, Nat.le_of_ble_eq_true rfl⟩) (mp_preV I h0__M_1 rfl _) rfl rfl hl.1 rfl (lv_room (Nat.le_of_ble_eq_true rfl)) dM_view_53 ⟨Nat.le_of_ble_eq_true rfl, Nat.le_of_ble_eq_true rfl⟩) I (fun r_18 N_19 H locs hp I => ?_)
            obtain ⟨e_20, hp⟩ := hp
            rw [e_20] at I
            rcases hp with ⟨p1, rfl⟩ | ⟨p1, rfl⟩
            · refine zz_if_eq (tgt := 91) hx hb (nI_toInt (by decide)) dM_view_56 (by decide) (fun c_21 => absurd c_21 (by decide)) (fun _ => ?_)
              obtain ⟨xn, hn_xn, rfl, hz_xn⟩ := i32_nat (x := x) (by omega)
              have hTx := bT xn (by omega)
              have hxi : (nI xn).toInt.toNat = xn := by omega
              refine lv_aload_n hx hb dM_view_59 rfl (lv_at hl 1 rfl) ?_
              refine mp_get (v := .ref kn) hx hb hts inM hown I h0__M_1 rfl 5 (by decide) (hts _ bw_336) (fun _ h9 => h9) rfl dM_view_60 ?_
              refine lv_iload_n hx hb dM_view_63 rfl (lv_at hl 2 rfl) ?_
              refine mp_iald hx hb I 0 hkn__M_1 rfl xn rfl (by omega) (by decide) (v := nI (tk xn)) rfl dM_view_64 ?_
              refine lv_iconst (v := nI 2) hx hb dM_view_65 (by decide) ?_
              refine zz_icmp_ne (tgt := 91) hx hb (nI_toInt (by first | assumption | omega)) (nI_toInt (by decide)) dM_view_66 (by decide) (fun c_22 => ?_) (fun c_22 => ?_)
              · refine lv_iconst (v := (-1)) hx hb dM_view_91 (by decide) ?_
                exact mp_iret hx hb hr hlocks I (Nat.le_of_ble_eq_true rfl) (Nat.le_of_ble_eq_true rfl) dM_view_92 (Or.inr ⟨by rw [hxi, hwv]; omega, rfl, hE⟩)
              · refine lv_iload hx hb dM_view_69 (lv_at hl 0 rfl) ?_
                refine zz_if_eq (tgt := 91) hx hb (nI_toInt (by decide)) dM_view_71 (by decide) (fun _ => ?_) (fun c_23 => absurd c_23 (by decide))
                refine lv_iconst (v := (-1)) hx hb dM_view_91 (by decide) ?_
                exact mp_iret hx hb hr hlocks I (Nat.le_of_ble_eq_true rfl) (Nat.le_of_ble_eq_true rfl) dM_view_92 (Or.inr ⟨by rw [hxi, hwv]; omega, rfl, hE⟩)
            · refine zz_if_eq (tgt := 91) hx hb (nI_toInt (by decide)) dM_view_56 (by decide) (fun _ => ?_) (fun c_24 => absurd c_24 (by decide))
              refine lv_iconst (v := (-1)) hx hb dM_view_91 (by decide) ?_
              exact mp_iret hx hb hr hlocks I (Nat.le_of_ble_eq_true rfl) (Nat.le_of_ble_eq_true rfl) dM_view_92 (Or.inr ⟨by rw [hwv]; omega, rfl, hE⟩)
        · refine lv_bipush (v := nI 8) hx hb dM_view_34 (by decide) ?_
          refine lv_goto (tgt := 40) hx hb dM_view_36 (by decide) ?_
          refine lv_istore (lv' := [(5, .int (nI 8)), (0, .ref mo), (1, .int x), (2, .int y), (3, .int z), (4, .int (nI b))]) hx hb dM_view_40 hl (by decide) rfl (fun ls hl => ?_)
          have hwv : wv z.toInt = 8 := by unfold wv; (repeat' split) <;> omega
          refine lv_aload_n hx hb dM_view_42 rfl (lv_at hl 1 rfl) ?_
          refine mp_get (v := .int (nI sc)) hx hb hts inM hown I h0__M_1 rfl 13 (by decide) (hts _ bw_344) (fun _ h9 => h9) rfl dM_view_43 ?_
          refine lv_bipush (v := nI 100) hx hb dM_view_46 (by decide) ?_
          refine zz_icmp_eq (tgt := 91) hx hb (nI_toInt (by first | assumption | omega)) (nI_toInt (by decide)) dM_view_48 (by decide) (fun c_25 => ?_) (fun c_25 => ?_)
          · refine lv_iconst (v := (-1)) hx hb dM_view_91 (by decide) ?_
            exact mp_iret hx hb hr hlocks I (Nat.le_of_ble_eq_true rfl) (Nat.le_of_ble_eq_true rfl) dM_view_92 (Or.inr ⟨by rw [hwv]; omega, rfl, hE⟩)
          · refine lv_aload_n hx hb dM_view_51 rfl (lv_at hl 1 rfl) ?_
            refine lv_iload_n hx hb dM_view_52 rfl (lv_at hl 2 rfl) ?_
            refine mp_calli (va_runV (As := [.int x]) (rest := []) ⟨hx, hb, hml, hown, hts⟩ (kM_isObject l D k M_1 hE hO x _) (cwV 1 hts (bw_V bw_415 bw_417 bs_12 bw_2 bw_418) rfl rfl rfl (by decide +kernel) ⟨Nat.le_of_ble_eq_true rfl, Nat.le_of_ble_eq_true rfl⟩) (mp_preV I h0__M_1 rfl _) rfl rfl hl.1 rfl (lv_room (Nat.le_of_ble_eq_true rfl)) dM_view_53 ⟨Nat.le_of_ble_eq_true rfl, Nat.le_of_ble_eq_true rfl⟩) I (fun r_26 N_27 H locs hp I => ?_)
            obtain ⟨e_28, hp⟩ := hp
            rw [e_28] at I
            rcases hp with ⟨p1, rfl⟩ | ⟨p1, rfl⟩
            · refine zz_if_eq (tgt := 91) hx hb (nI_toInt (by decide)) dM_view_56 (by decide) (fun c_29 => absurd c_29 (by decide)) (fun _ => ?_)
              obtain ⟨xn, hn_xn, rfl, hz_xn⟩ := i32_nat (x := x) (by omega)
              have hTx := bT xn (by omega)
              have hxi : (nI xn).toInt.toNat = xn := by omega
              refine lv_aload_n hx hb dM_view_59 rfl (lv_at hl 1 rfl) ?_
              refine mp_get (v := .ref kn) hx hb hts inM hown I h0__M_1 rfl 5 (by decide) (hts _ bw_336) (fun _ h9 => h9) rfl dM_view_60 ?_
              refine lv_iload_n hx hb dM_view_63 rfl (lv_at hl 2 rfl) ?_
              refine mp_iald hx hb I 0 hkn__M_1 rfl xn rfl (by omega) (by decide) (v := nI (tk xn)) rfl dM_view_64 ?_
              refine lv_iconst (v := nI 2) hx hb dM_view_65 (by decide) ?_
              refine zz_icmp_ne (tgt := 91) hx hb (nI_toInt (by first | assumption | omega)) (nI_toInt (by decide)) dM_view_66 (by decide) (fun c_30 => ?_) (fun c_30 => ?_)
              · refine lv_iconst (v := (-1)) hx hb dM_view_91 (by decide) ?_
                exact mp_iret hx hb hr hlocks I (Nat.le_of_ble_eq_true rfl) (Nat.le_of_ble_eq_true rfl) dM_view_92 (Or.inr ⟨by rw [hxi, hwv]; omega, rfl, hE⟩)
              · refine lv_iload hx hb dM_view_69 (lv_at hl 0 rfl) ?_
                refine zz_if_eq (tgt := 91) hx hb (nI_toInt (by decide)) dM_view_71 (by decide) (fun c_31 => absurd c_31 (by decide)) (fun _ => ?_)
                refine lv_iload_n hx hb dM_view_74 rfl (lv_at hl 3 rfl) ?_
                refine zz_if_lt (tgt := 91) hx hb rfl dM_view_75 (by decide) (fun c_32 => ?_) (fun c_32 => ?_)
                · refine lv_iconst (v := (-1)) hx hb dM_view_91 (by decide) ?_
                  exact mp_iret hx hb hr hlocks I (Nat.le_of_ble_eq_true rfl) (Nat.le_of_ble_eq_true rfl) dM_view_92 (Or.inr ⟨by rw [hxi, hwv]; omega, rfl, hE⟩)
                · refine lv_iload_n hx hb dM_view_78 rfl (lv_at hl 3 rfl) ?_
                  refine lv_aload_n hx hb dM_view_79 rfl (lv_at hl 1 rfl) ?_
                  refine mp_get (v := .ref sz) hx hb hts inM hown I h0__M_1 rfl 4 (by decide) (hts _ bw_335) (fun _ h9 => h9) rfl dM_view_80 ?_
                  refine lv_iload_n hx hb dM_view_83 rfl (lv_at hl 2 rfl) ?_
                  refine mp_iald hx hb I 0 hsz__M_1 rfl xn rfl (by omega) (by decide) (v := nI (tz xn)) rfl dM_view_84 ?_
                  refine lv_iload hx hb dM_view_85 (lv_at hl 0 rfl) ?_
                  refine lv_isub hx hb dM_view_87 ?_
                  refine zz_icmp_le (tgt := 93) hx hb rfl (pk_sub_toInt (by omega) (by omega)) dM_view_88 (by decide) (fun c_33 => ?_) (fun c_33 => ?_)
                  · obtain ⟨yn, hn_yn, rfl, hz_yn⟩ := i32_nat (x := y) (by omega)
                    obtain ⟨zn, hn_zn, rfl, hz_zn⟩ := i32_nat (x := z) (by omega)
                    refine lv_aload_n hx hb dM_view_93 rfl (lv_at hl 1 rfl) ?_
                    refine lv_aload_n hx hb dM_view_94 rfl (lv_at hl 1 rfl) ?_
                    refine mp_get (v := .ref bg) hx hb hts inM hown I h0__M_1 rfl 3 (by decide) (hts _ bw_334) (fun _ h9 => h9) rfl dM_view_95 ?_
                    refine lv_iload_n hx hb dM_view_98 rfl (lv_at hl 2 rfl) ?_
                    refine mp_iald hx hb I 0 hbg__M_1 rfl xn rfl (by omega) (by decide) (v := nI (tf xn)) rfl dM_view_99 ?_
                    refine lv_iload_n hx hb dM_view_100 rfl (lv_at hl 3 rfl) ?_
                    refine zz_iadd hx hb dM_view_101 ?_
                    refine lv_iload_n hx hb dM_view_102 rfl (lv_at hl 4 rfl) ?_
                    refine lv_iload hx hb dM_view_103 (lv_at hl 0 rfl) ?_
                    refine lv_iload hx hb dM_view_105 (lv_at hl 5 rfl) ?_
                    refine mp_calli (va_runV (As := [.int (nI (tf xn + yn)), .int (nI zn), .int (nI 8), .int (nI b)]) (rest := []) ⟨hx, hb, hml, hown, hts⟩ (kM_newPlace l D k M_1 hE hO (tf xn + yn) zn 8 b hbb (by omega) _) (cwV 4 hts (bw_V bw_423 bw_425 bs_13 bw_2 bw_426) rfl rfl rfl (by decide +kernel) ⟨Nat.le_of_ble_eq_true rfl, Nat.le_of_ble_eq_true rfl⟩) (mp_preV I h0__M_1 rfl _) rfl rfl hl.1 rfl (lv_room (Nat.le_of_ble_eq_true rfl)) dM_view_107 ⟨Nat.le_of_ble_eq_true rfl, Nat.le_of_ble_eq_true rfl⟩) I (fun r1 N1 H locs hp I => ?_)
                    obtain ⟨rfl, hE⟩ := hp
                    exact mp_iret hx hb hr hlocks I (Nat.le_of_ble_eq_true rfl) (Nat.le_of_ble_eq_true rfl) dM_view_110 (Or.inl ⟨by rw [hxi, hwv]; omega, rfl, xn, yn, zn, hz_xn, hz_yn, hz_zn, by rw [hwv]; exact hE⟩)
                  · refine lv_iconst (v := (-1)) hx hb dM_view_91 (by decide) ?_
                    exact mp_iret hx hb hr hlocks I (Nat.le_of_ble_eq_true rfl) (Nat.le_of_ble_eq_true rfl) dM_view_92 (Or.inr ⟨by rw [hxi, hwv]; omega, rfl, hE⟩)
            · refine zz_if_eq (tgt := 91) hx hb (nI_toInt (by decide)) dM_view_56 (by decide) (fun _ => ?_) (fun c_34 => absurd c_34 (by decide))
              refine lv_iconst (v := (-1)) hx hb dM_view_91 (by decide) ?_
              exact mp_iret hx hb hr hlocks I (Nat.le_of_ble_eq_true rfl) (Nat.le_of_ble_eq_true rfl) dM_view_92 (Or.inr ⟨by rw [hwv]; omega, rfl, hE⟩)
      · refine lv_iconst (v := nI 4) hx hb dM_view_24 (by decide) ?_
        refine lv_goto (tgt := 40) hx hb dM_view_25 (by decide) ?_
        refine lv_istore (lv' := [(5, .int (nI 4)), (0, .ref mo), (1, .int x), (2, .int y), (3, .int z), (4, .int (nI b))]) hx hb dM_view_40 hl (by decide) rfl (fun ls hl => ?_)
        have hwv : wv z.toInt = 4 := by unfold wv; (repeat' split) <;> omega
        refine lv_aload_n hx hb dM_view_42 rfl (lv_at hl 1 rfl) ?_
        refine mp_get (v := .int (nI sc)) hx hb hts inM hown I h0__M_1 rfl 13 (by decide) (hts _ bw_344) (fun _ h9 => h9) rfl dM_view_43 ?_
        refine lv_bipush (v := nI 100) hx hb dM_view_46 (by decide) ?_
        refine zz_icmp_eq (tgt := 91) hx hb (nI_toInt (by first | assumption | omega)) (nI_toInt (by decide)) dM_view_48 (by decide) (fun c_35 => ?_) (fun c_35 => ?_)
        · refine lv_iconst (v := (-1)) hx hb dM_view_91 (by decide) ?_
          exact mp_iret hx hb hr hlocks I (Nat.le_of_ble_eq_true rfl) (Nat.le_of_ble_eq_true rfl) dM_view_92 (Or.inr ⟨by rw [hwv]; omega, rfl, hE⟩)
        · refine lv_aload_n hx hb dM_view_51 rfl (lv_at hl 1 rfl) ?_
          refine lv_iload_n hx hb dM_view_52 rfl (lv_at hl 2 rfl) ?_
          refine mp_calli (va_runV (As := [.int x]) (rest := []) ⟨hx, hb, hml, hown, hts⟩ (kM_isObject l D k M_1 hE hO x _) (cwV 1 hts (bw_V bw_415 bw_417 bs_12 bw_2 bw_418) rfl rfl rfl (by decide +kernel) ⟨Nat.le_of_ble_eq_true rfl, Nat.le_of_ble_eq_true rfl⟩) (mp_preV I h0__M_1 rfl _) rfl rfl hl.1 rfl (lv_room (Nat.le_of_ble_eq_true rfl)) dM_view_53 ⟨Nat.le_of_ble_eq_true rfl, Nat.le_of_ble_eq_true rfl⟩) I (fun r_36 N_37 H locs hp I => ?_)
          obtain ⟨e_38, hp⟩ := hp
          rw [e_38] at I
          rcases hp with ⟨p1, rfl⟩ | ⟨p1, rfl⟩
          · refine zz_if_eq (tgt := 91) hx hb (nI_toInt (by decide)) dM_view_56 (by decide) (fun c_39 => absurd c_39 (by decide)) (fun _ => ?_)
            obtain ⟨xn, hn_xn, rfl, hz_xn⟩ := i32_nat (x := x) (by omega)
            have hTx := bT xn (by omega)
            have hxi : (nI xn).toInt.toNat = xn := by omega
            refine lv_aload_n hx hb dM_view_59 rfl (lv_at hl 1 rfl) ?_
            refine mp_get (v := .ref kn) hx hb hts inM hown I h0__M_1 rfl 5 (by decide) (hts _ bw_336) (fun _ h9 => h9) rfl dM_view_60 ?_
            refine lv_iload_n hx hb dM_view_63 rfl (lv_at hl 2 rfl) ?_
            refine mp_iald hx hb I 0 hkn__M_1 rfl xn rfl (by omega) (by decide) (v := nI (tk xn)) rfl dM_view_64 ?_
            refine lv_iconst (v := nI 2) hx hb dM_view_65 (by decide) ?_
            refine zz_icmp_ne (tgt := 91) hx hb (nI_toInt (by first | assumption | omega)) (nI_toInt (by decide)) dM_view_66 (by decide) (fun c_40 => ?_) (fun c_40 => ?_)
            · refine lv_iconst (v := (-1)) hx hb dM_view_91 (by decide) ?_
              exact mp_iret hx hb hr hlocks I (Nat.le_of_ble_eq_true rfl) (Nat.le_of_ble_eq_true rfl) dM_view_92 (Or.inr ⟨by rw [hxi, hwv]; omega, rfl, hE⟩)
            · refine lv_iload hx hb dM_view_69 (lv_at hl 0 rfl) ?_
              refine zz_if_eq (tgt := 91) hx hb (nI_toInt (by decide)) dM_view_71 (by decide) (fun c_41 => absurd c_41 (by decide)) (fun _ => ?_)
              refine lv_iload_n hx hb dM_view_74 rfl (lv_at hl 3 rfl) ?_
              refine zz_if_lt (tgt := 91) hx hb rfl dM_view_75 (by decide) (fun c_42 => ?_) (fun c_42 => ?_)
              · refine lv_iconst (v := (-1)) hx hb dM_view_91 (by decide) ?_
                exact mp_iret hx hb hr hlocks I (Nat.le_of_ble_eq_true rfl) (Nat.le_of_ble_eq_true rfl) dM_view_92 (Or.inr ⟨by rw [hxi, hwv]; omega, rfl, hE⟩)
              · refine lv_iload_n hx hb dM_view_78 rfl (lv_at hl 3 rfl) ?_
                refine lv_aload_n hx hb dM_view_79 rfl (lv_at hl 1 rfl) ?_
                refine mp_get (v := .ref sz) hx hb hts inM hown I h0__M_1 rfl 4 (by decide) (hts _ bw_335) (fun _ h9 => h9) rfl dM_view_80 ?_
                refine lv_iload_n hx hb dM_view_83 rfl (lv_at hl 2 rfl) ?_
                refine mp_iald hx hb I 0 hsz__M_1 rfl xn rfl (by omega) (by decide) (v := nI (tz xn)) rfl dM_view_84 ?_
                refine lv_iload hx hb dM_view_85 (lv_at hl 0 rfl) ?_
                refine lv_isub hx hb dM_view_87 ?_
                refine zz_icmp_le (tgt := 93) hx hb rfl (pk_sub_toInt (by omega) (by omega)) dM_view_88 (by decide) (fun c_43 => ?_) (fun c_43 => ?_)
                · obtain ⟨yn, hn_yn, rfl, hz_yn⟩ := i32_nat (x := y) (by omega)
                  obtain ⟨zn, hn_zn, rfl, hz_zn⟩ := i32_nat (x := z) (by omega)
                  refine lv_aload_n hx hb dM_view_93 rfl (lv_at hl 1 rfl) ?_
                  refine lv_aload_n hx hb dM_view_94 rfl (lv_at hl 1 rfl) ?_
                  refine mp_get (v := .ref bg) hx hb hts inM hown I h0__M_1 rfl 3 (by decide) (hts _ bw_334) (fun _ h9 => h9) rfl dM_view_95 ?_
                  refine lv_iload_n hx hb dM_view_98 rfl (lv_at hl 2 rfl) ?_
                  refine mp_iald hx hb I 0 hbg__M_1 rfl xn rfl (by omega) (by decide) (v := nI (tf xn)) rfl dM_view_99 ?_
                  refine lv_iload_n hx hb dM_view_100 rfl (lv_at hl 3 rfl) ?_
                  refine zz_iadd hx hb dM_view_101 ?_
                  refine lv_iload_n hx hb dM_view_102 rfl (lv_at hl 4 rfl) ?_
                  refine lv_iload hx hb dM_view_103 (lv_at hl 0 rfl) ?_
                  refine lv_iload hx hb dM_view_105 (lv_at hl 5 rfl) ?_
                  refine mp_calli (va_runV (As := [.int (nI (tf xn + yn)), .int (nI zn), .int (nI 4), .int (nI b)]) (rest := []) ⟨hx, hb, hml, hown, hts⟩ (kM_newPlace l D k M_1 hE hO (tf xn + yn) zn 4 b hbb (by omega) _) (cwV 4 hts (bw_V bw_423 bw_425 bs_13 bw_2 bw_426) rfl rfl rfl (by decide +kernel) ⟨Nat.le_of_ble_eq_true rfl, Nat.le_of_ble_eq_true rfl⟩) (mp_preV I h0__M_1 rfl _) rfl rfl hl.1 rfl (lv_room (Nat.le_of_ble_eq_true rfl)) dM_view_107 ⟨Nat.le_of_ble_eq_true rfl, Nat.le_of_ble_eq_true rfl⟩) I (fun r1 N1 H locs hp I => ?_)
                  obtain ⟨rfl, hE⟩ := hp
                  exact mp_iret hx hb hr hlocks I (Nat.le_of_ble_eq_true rfl) (Nat.le_of_ble_eq_true rfl) dM_view_110 (Or.inl ⟨by rw [hxi, hwv]; omega, rfl, xn, yn, zn, hz_xn, hz_yn, hz_zn, by rw [hwv]; exact hE⟩)
                · refine lv_iconst (v := (-1)) hx hb dM_view_91 (by decide) ?_
                  exact mp_iret hx hb hr hlocks I (Nat.le_of_ble_eq_true rfl) (Nat.le_of_ble_eq_true rfl) dM_view_92 (Or.inr ⟨by rw [hxi, hwv]; omega, rfl, hE⟩)
          · refine zz_if_eq (tgt := 91) hx hb (nI_toInt (by decide)) dM_view_56 (by decide) (fun _ => ?_) (fun c_44 => absurd c_44 (by decide))
            refine lv_iconst (v := (-1)) hx hb dM_view_91 (by decide) ?_
            exact mp_iret hx hb hr hlocks I (Nat.le_of_ble_eq_true rfl) (Nat.le_of_ble_eq_true rfl) dM_view_92 (Or.inr ⟨by rw [hwv]; omega, rfl, hE⟩)
    · refine lv_iconst (v := nI 2) hx hb dM_view_15 (by decide) ?_
      refine lv_goto (tgt := 40) hx hb dM_view_16 (by decide) ?_
      refine lv_istore (lv' := [(5, .int (nI 2)), (0, .ref mo), (1, .int x), (2, .int y), (3, .int z), (4, .int (nI b))]) hx hb dM_view_40 hl (by decide) rfl (fun ls hl => ?_)
      have hwv : wv z.toInt = 2 := by unfold wv; (repeat' split) <;> omega
      refine lv_aload_n hx hb dM_view_42 rfl (lv_at hl 1 rfl) ?_
      refine mp_get (v := .int (nI sc)) hx hb hts inM hown I h0__M_1 rfl 13 (by decide) (hts _ bw_344) (fun _ h9 => h9) rfl dM_view_43 ?_
      refine lv_bipush (v := nI 100) hx hb dM_view_46 (by decide) ?_
      refine zz_icmp_eq (tgt := 91) hx hb (nI_toInt (by first | assumption | omega)) (nI_toInt (by decide)) dM_view_48 (by decide) (fun c_45 => ?_) (fun c_45 => ?_)
      · refine lv_iconst (v := (-1)) hx hb dM_view_91 (by decide) ?_
        exact mp_iret hx hb hr hlocks I (Nat.le_of_ble_eq_true rfl) (Nat.le_of_ble_eq_true rfl) dM_view_92 (Or.inr ⟨by rw [hwv]; omega, rfl, hE⟩)
      · refine lv_aload_n hx hb dM_view_51 rfl (lv_at hl 1 rfl) ?_
        refine lv_iload_n hx hb dM_view_52 rfl (lv_at hl 2 rfl) ?_
        refine mp_calli (va_runV (As := [.int x]) (rest := []) ⟨hx, hb, hml, hown, hts⟩ (kM_isObject l D k M_1 hE hO x _) (cwV 1 hts (bw_V bw_415 bw_417 bs_12 bw_2 bw_418) rfl rfl rfl (by decide +kernel) ⟨Nat.le_of_ble_eq_true rfl, Nat.le_of_ble_eq_true rfl⟩) (mp_preV I h0__M_1 rfl _) rfl rfl hl.1 rfl (lv_room (Nat.le_of_ble_eq_true rfl)) dM_view_53 ⟨Nat.le_of_ble_eq_true rfl, Nat.le_of_ble_eq_true rfl⟩) I (fun r_46 N_47 H locs hp I => ?_)
        obtain ⟨e_48, hp⟩ := hp
        rw [e_48] at I
        rcases hp with ⟨p1, rfl⟩ | ⟨p1, rfl⟩
        · refine zz_if_eq (tgt := 91) hx hb (nI_toInt (by decide)) dM_view_56 (by decide) (fun c_49 => absurd c_49 (by decide)) (fun _ => ?_)
          obtain ⟨xn, hn_xn, rfl, hz_xn⟩ := i32_nat (x := x) (by omega)
          have hTx := bT xn (by omega)
          have hxi : (nI xn).toInt.toNat = xn := by omega
          refine lv_aload_n hx hb dM_view_59 rfl (lv_at hl 1 rfl) ?_
          refine mp_get (v := .ref kn) hx hb hts inM hown I h0__M_1 rfl 5 (by decide) (hts _ bw_336) (fun _ h9 => h9) rfl dM_view_60 ?_
          refine lv_iload_n hx hb dM_view_63 rfl (lv_at hl 2 rfl) ?_
          refine mp_iald hx hb I 0 hkn__M_1 rfl xn rfl (by omega) (by decide) (v := nI (tk xn)) rfl dM_view_64 ?_
          refine lv_iconst (v := nI 2) hx hb dM_view_65 (by decide) ?_
          refine zz_icmp_ne (tgt := 91) hx hb (nI_toInt (by first | assumption | omega)) (nI_toInt (by decide)) dM_view_66 (by decide) (fun c_50 => ?_) (fun c_50 => ?_)
          · refine lv_iconst (v := (-1)) hx hb dM_view_91 (by decide) ?_
            exact mp_iret hx hb hr hlocks I (Nat.le_of_ble_eq_true rfl) (Nat.le_of_ble_eq_true rfl) dM_view_92 (Or.inr ⟨by rw [hxi, hwv]; omega, rfl, hE⟩)
          · refine lv_iload hx hb dM_view_69 (lv_at hl 0 rfl) ?_
            refine zz_if_eq (tgt := 91) hx hb (nI_toInt (by decide)) dM_view_71 (by decide) (fun c_51 => absurd c_51 (by decide)) (fun _ => ?_)
            refine lv_iload_n hx hb dM_view_74 rfl (lv_at hl 3 rfl) ?_
            refine zz_if_lt (tgt := 91) hx hb rfl dM_view_75 (by decide) (fun c_52 => ?_) (fun c_52 => ?_)
            · refine lv_iconst (v := (-1)) hx hb dM_view_91 (by decide) ?_
              exact mp_iret hx hb hr hlocks I (Nat.le_of_ble_eq_true rfl) (Nat.le_of_ble_eq_true rfl) dM_view_92 (Or.inr ⟨by rw [hxi, hwv]; omega, rfl, hE⟩)
            · refine lv_iload_n hx hb dM_view_78 rfl (lv_at hl 3 rfl) ?_
              refine lv_aload_n hx hb dM_view_79 rfl (lv_at hl 1 rfl) ?_
              refine mp_get (v := .ref sz) hx hb hts inM hown I h0__M_1 rfl 4 (by decide) (hts _ bw_335) (fun _ h9 => h9) rfl dM_view_80 ?_
              refine lv_iload_n hx hb dM_view_83 rfl (lv_at hl 2 rfl) ?_
              refine mp_iald hx hb I 0 hsz__M_1 rfl xn rfl (by omega) (by decide) (v := nI (tz xn)) rfl dM_view_84 ?_
              refine lv_iload hx hb dM_view_85 (lv_at hl 0 rfl) ?_
              refine lv_isub hx hb dM_view_87 ?_
              refine zz_icmp_le (tgt := 93) hx hb rfl (pk_sub_toInt (by omega) (by omega)) dM_view_88 (by decide) (fun c_53 => ?_) (fun c_53 => ?_)
              · obtain ⟨yn, hn_yn, rfl, hz_yn⟩ := i32_nat (x := y) (by omega)
                obtain ⟨zn, hn_zn, rfl, hz_zn⟩ := i32_nat (x := z) (by omega)
                refine lv_aload_n hx hb dM_view_93 rfl (lv_at hl 1 rfl) ?_
                refine lv_aload_n hx hb dM_view_94 rfl (lv_at hl 1 rfl) ?_
                refine mp_get (v := .ref bg) hx hb hts inM hown I h0__M_1 rfl 3 (by decide) (hts _ bw_334) (fun _ h9 => h9) rfl dM_view_95 ?_
                refine lv_iload_n hx hb dM_view_98 rfl (lv_at hl 2 rfl) ?_
                refine mp_iald hx hb I 0 hbg__M_1 rfl xn rfl (by omega) (by decide) (v := nI (tf xn)) rfl dM_view_99 ?_
                refine lv_iload_n hx hb dM_view_100 rfl (lv_at hl 3 rfl) ?_
                refine zz_iadd hx hb dM_view_101 ?_
                refine lv_iload_n hx hb dM_view_102 rfl (lv_at hl 4 rfl) ?_
                refine lv_iload hx hb dM_view_103 (lv_at hl 0 rfl) ?_
                refine lv_iload hx hb dM_view_105 (lv_at hl 5 rfl) ?_
                refine mp_calli (va_runV (As := [.int (nI (tf xn + yn)), .int (nI zn), .int (nI 2), .int (nI b)]) (rest := []) ⟨hx, hb, hml, hown, hts⟩ (kM_newPlace l D k M_1 hE hO (tf xn + yn) zn 2 b hbb (by omega) _) (cwV 4 hts (bw_V bw_423 bw_425 bs_13 bw_2 bw_426) rfl rfl rfl (by decide +kernel) ⟨Nat.le_of_ble_eq_true rfl, Nat.le_of_ble_eq_true rfl⟩) (mp_preV I h0__M_1 rfl _) rfl rfl hl.1 rfl (lv_room (Nat.le_of_ble_eq_true rfl)) dM_view_107 ⟨Nat.le_of_ble_eq_true rfl, Nat.le_of_ble_eq_true rfl⟩) I (fun r1 N1 H locs hp I => ?_)
                obtain ⟨rfl, hE⟩ := hp
                exact mp_iret hx hb hr hlocks I (Nat.le_of_ble_eq_true rfl) (Nat.le_of_ble_eq_true rfl) dM_view_110 (Or.inl ⟨by rw [hxi, hwv]; omega, rfl, xn, yn, zn, hz_xn, hz_yn, hz_zn, by rw [hwv]; exact hE⟩)
              · refine lv_iconst (v := (-1)) hx hb dM_view_91 (by decide) ?_
                exact mp_iret hx hb hr hlocks I (Nat.le_of_ble_eq_true rfl) (Nat.le_of_ble_eq_true rfl) dM_view_92 (Or.inr ⟨by rw [hxi, hwv]; omega, rfl, hE⟩)
        · refine zz_if_eq (tgt := 91) hx hb (nI_toInt (by decide)) dM_view_56 (by decide) (fun _ => ?_) (fun c_54 => absurd c_54 (by decide))
          refine lv_iconst (v := (-1)) hx hb dM_view_91 (by decide) ?_
          exact mp_iret hx hb hr hlocks I (Nat.le_of_ble_eq_true rfl) (Nat.le_of_ble_eq_true rfl) dM_view_92 (Or.inr ⟨by rw [hwv]; omega, rfl, hE⟩)
