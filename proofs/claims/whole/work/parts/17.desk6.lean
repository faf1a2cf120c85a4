/-- the bits of a view, rank by rank -/
def rdb (va : Nat → Int64) (f wd b : Nat) : Nat → Int64
  | 0 => 0
  | i + 1 => (rdb va f wd b i <<< ((nI 8).toInt64 &&& 63)) ||| (va (ixb f wd b i) &&& 255)
def rdv (va : Nat → Int64) (x f wd b : Nat) : Int64 := if wd = 1 then va f else lb x (rdb va f wd b wd)
def shv (v : Int64) : Nat → Int64
  | 0 => v
  | i + 1 => shv v i >>> ((nI 8).toInt64 &&& 63)
def wrF (va : Nat → Int64) (f wd b : Nat) (v : Int64) : Nat → Nat → Int64
  | 0 => va
  | i + 1 => vp_updL (wrF va f wd b v i) (ixb f wd b (wd - 1 - i)) (lb 2 (shv v i))
def wrv (va : Nat → Int64) (f wd b : Nat) (v : Int64) : Nat → Int64 := if wd = 1 then vp_updL va f v else wrF va f wd b v wd
theorem ixb_lt {f wd b i n : Nat} (h : i < wd) (hn : f + wd ≤ n) : ixb f wd b i < n := by
  unfold ixb
  split <;> omega
def rkI (wd i : Nat) : Int32 := if i < wd then nI (wd - 1 - i) else -1
theorem rk_n {wd i : Nat} (h : i < wd) : rkI wd i = nI (wd - 1 - i) := if_pos h
theorem rk_0 {wd : Nat} (h : 1 ≤ wd) : nI (wd - 1) = rkI wd 0 := by rw [rk_n (by omega)]; rfl
theorem rk_z {wd i : Nat} (h : i ≤ wd) (h8 : wd ≤ 8) : (rkI wd i).toInt = (wd : Int) - 1 - (i : Int) := by
  unfold rkI
  split
  · rw [nI_toInt (by omega)]
    omega
  · show (-1 : Int) = _
    omega
theorem rk_s {wd i : Nat} (h : i < wd) : nI (wd - 1 - i) + Int32.ofInt (-1) = rkI wd (i + 1) := by
  unfold rkI
  split
  · rw [show wd - 1 - i = (wd - 1 - (i + 1)) + 1 by omega]
    exact pk_m1 _
  · rw [show wd - 1 - i = 0 by omega]
    rfl
abbrev rm_D_read : Room := { frames := 1, cells := 0, slots := 0, locals := 30 }
set_option maxHeartbeats 4000000 in
set_option maxRecDepth 100000 in
theorem kD_read (l : Launch) (D : va_G) (k : Nat → ClassId) (M : mp_M) {d av ak at_ aw as_ an : Nat} {qt qs qn : Nat → Option Nat} {sa ra : Nat → Nat} {ec tc wc sc nc : Nat} {va : Nat → Int64} {kd wt tk tf tz sk sf sw sl nn : Nat → Nat} {nv : Nat → Nat → Int64} (hD : DkX k M d av ak at_ aw as_ an qt qs qn sa ra ec tc wc sc nc va kd wt tk tf tz sk sf sw sl nn nv) (hO : OkB ec tc wc sc nc tk tf tz sk sf sw sl nn) (h1 x f wd b : Nat) (hSp : M h1 = some (.inr (2, [.int (nI x), .int (nI f), .int (nI wd), .int (nI b)]))) (hx7 : x ≤ 7) (hw1 : 1 ≤ wd) (hw8 : wd ≤ 8) (hfw : f + wd ≤ 4000) (hb1 : b ≤ 1) : mp_Met l yD_read (Cond.code yD_read cD_read 5 (some .long) :: bw) rm_D_read D cls5 (tys6 k) [.ref d, .ref h1] M (va_Ql (fun r M1 => M1 = M ∧ r = rdv va x f wd b)) 0 0 := by
  refine mp_Met.of (by decide) (Nat.le_of_ble_eq_true rfl) ?_
  intro p e s m below meth c hx hb hr hml hown hts hlocks hin ls hl I
  have hl : lv_has ls 5 [(0, .ref d), (1, .ref h1)] := hl
  obtain ⟨h0, hav, hak, hat, haw, has, han, hth, hsp, hsn, hij⟩ := id hD
  obtain ⟨b1, b2, b3, b4, b5, bT, bS, bN⟩ := id hO
  refine lv_aload_n hx hb dD_read_0 rfl (lv_at hl 1 rfl) ?_
  refine mp_get (v := .int (nI wd)) hx hb hts inS hown I hSp rfl 2 (by decide) (hts _ bw_137) (fun _ h9 => h9) rfl dD_read_1 ?_
  refine lv_iconst (v := nI 1) hx hb dD_read_4 (by decide) ?_
  refine zz_icmp_ne (tgt := 18) hx hb (nI_toInt (by first | assumption | omega)) (nI_toInt (by decide)) dD_read_5 (by decide) (fun c_1 => ?_) (fun c_1 => ?_)
  · refine lv_lconst (v := 0) hx hb dD_read_18 (by decide) ?_
    refine lv_lstore_n (lv' := [(2, .long 0), (0, .ref d), (1, .ref h1)]) hx hb dD_read_19 rfl hl (by decide) rfl (fun ls hl => ?_)
    refine lv_iconst (v := nI 0) hx hb dD_read_20 (by decide) ?_
    refine lv_istore (lv' := [(4, .int (nI 0)), (2, .long 0), (0, .ref d), (1, .ref h1)]) hx hb dD_read_21 hl (by decide) rfl (fun ls hl => ?_)
    refine mp_loop wd 5 (fun i => [(4, .int (nI i)), (2, .long (rdb va f wd b i)), (0, .ref d), (1, .ref h1)]) (fun i => M) 0 (by omega) (lv_sub hl [0, 1, 2, 3] rfl) I ?_
    intro i H locs ls hi0_i hi_i hl I ih_i
    have hl : lv_has ls 5 [(4, .int (nI i)), (2, .long (rdb va f wd b i)), (0, .ref d), (1, .ref h1)] := hl
    have I : mp_I D cls5 (tys6 k) s _ s.heap H locs (M) := I
    refine lv_iload hx hb dD_read_23 (lv_at hl 0 rfl) ?_
    refine lv_aload_n hx hb dD_read_25 rfl (lv_at hl 3 rfl) ?_
    refine mp_get (v := .int (nI wd)) hx hb hts inS hown I hSp rfl 2 (by decide) (hts _ bw_137) (fun _ h9 => h9) rfl dD_read_26 ?_
    refine zz_icmp_ge (tgt := 59) hx hb (nI_toInt (by first | assumption | omega)) (nI_toInt (by first | assumption | omega)) dD_read_29 (by decide) (fun c_2 => ?_) (fun c_2 => ?_)
    · refine lv_aload_n hx hb dD_read_59 rfl (lv_at hl 3 rfl) ?_
      refine mp_get (v := .int (nI x)) hx hb hts inS hown I hSp rfl 0 (by decide) (hts _ bw_133) (fun _ h9 => h9) rfl dD_read_60 ?_
      refine lv_lload_n hx hb dD_read_63 rfl (lv_at hl 1 rfl) ?_
      refine mp_calll (va_runS (As := [.int (nI x), .long (rdb va f wd b i)]) (rest := []) ⟨hx, hb, hml, hown, hts⟩ (kD_lowestBits l D k M x (rdb va f wd b i) hx7 _) (cwS 2 hts (bw_S bw_298 bw_299 bw_1 bw_300) rfl rfl rfl (by decide +kernel) ⟨Nat.le_of_ble_eq_true rfl, Nat.le_of_ble_eq_true rfl⟩) (mp_preS I _) rfl rfl hl.1 rfl (lv_room (Nat.le_of_ble_eq_true rfl)) dD_read_64 ⟨Nat.le_of_ble_eq_true rfl, Nat.le_of_ble_eq_true rfl⟩) I (fun r1 N1 H locs hp I => ?_)
      obtain ⟨e_3, hp⟩ := hp
      rw [e_3] at I
      subst hp
      exact mp_lret hx hb hr hlocks I (Nat.le_of_ble_eq_true rfl) (Nat.le_of_ble_eq_true rfl) dD_read_67 ⟨rfl, by unfold rdv; rw [if_neg (by omega), show i = wd by omega]⟩
    · refine lv_lload_n hx hb dD_read_32 rfl (lv_at hl 1 rfl) ?_
      refine lv_bipush (v := nI 8) hx hb dD_read_33 (by decide) ?_
      refine lv_lshl (v := (rdb va f wd b i) <<< ((nI 8).toInt64 &&& 63)) hx hb dD_read_35 rfl ?_
      refine lv_aload_n hx hb dD_read_36 rfl (lv_at hl 2 rfl) ?_
      refine mp_get (v := .ref av) hx hb hts inD hown I h0 rfl 0 (by decide) (hts _ bw_26) (fun _ h9 => h9) rfl dD_read_37 ?_
      refine lv_aload_n hx hb dD_read_40 rfl (lv_at hl 3 rfl) ?_
      refine lv_iload hx hb dD_read_41 (lv_at hl 0 rfl) ?_
      refine mp_calli (va_runV (As := [.int (nI i)]) (rest := [.ref av, .long ((rdb va f wd b i) <<< ((nI 8).toInt64 &&& 63))]) ⟨hx, hb, hml, hown, hts⟩ (kS_indexOfByte l D k M h1 x f wd b i hSp hb1 (by omega) (by omega) _) (cwV 1 hts (bw_V bw_312 bw_313 bw_314 bw_5 bw_315) rfl rfl rfl (by decide +kernel) ⟨Nat.le_of_ble_eq_true rfl, Nat.le_of_ble_eq_true rfl⟩) (mp_preV I hSp rfl _) rfl rfl hl.1 rfl (lv_room (Nat.le_of_ble_eq_true rfl)) dD_read_43 ⟨Nat.le_of_ble_eq_true rfl, Nat.le_of_ble_eq_true rfl⟩) I (fun r1 N1 H locs hp I => ?_)
      obtain ⟨e_4, hp⟩ := hp
      rw [e_4] at I
      subst hp
      have hix : ixb f wd b i < 4000 := ixb_lt (by omega) hfw
      refine mp_lald hx hb I 1 hav rfl (ixb f wd b i) rfl (by omega) (by decide) (v := va (ixb f wd b i)) rfl dD_read_46 ?_
      refine lv_ldc2 (v := 255) hx hb hown (hts _ bw_316) dD_read_47 ?_
      refine lv_land hx hb dD_read_50 ?_
      refine lv_lor hx hb dD_read_51 ?_
      refine lv_lstore_n (lv' := [(2, .long (((rdb va f wd b i) <<< ((nI 8).toInt64 &&& 63)) ||| ((va (ixb f wd b i)) &&& 255))), (4, .int (nI i)), (0, .ref d), (1, .ref h1)]) hx hb dD_read_52 rfl hl (by decide) rfl (fun ls hl => ?_)
      refine lv_iinc (v := nI (i + 1)) (lv' := [(4, .int (nI (i + 1))), (2, .long (((rdb va f wd b i) <<< ((nI 8).toInt64 &&& 63)) ||| ((va (ixb f wd b i)) &&& 255))), (0, .ref d), (1, .ref h1)]) hx hb dD_read_53 hl (k := 1) rfl (nI_add i 1) (by decide) rfl (fun ls hl => ?_)
      refine lv_goto (tgt := 23) hx hb dD_read_56 (by decide) ?_
      exact ih_i _ _ _ (by omega) (lv_sub hl [0, 1, 2, 3] rfl) I
  · refine lv_aload_n hx hb dD_read_8 rfl (lv_at hl 0 rfl) ?_
    refine mp_get (v := .ref av) hx hb hts inD hown I h0 rfl 0 (by decide) (hts _ bw_26) (fun _ h9 => h9) rfl dD_read_9 ?_
    refine lv_aload_n hx hb dD_read_12 rfl (lv_at hl 1 rfl) ?_
    refine mp_get (v := .int (nI f)) hx hb hts inS hown I hSp rfl 1 (by decide) (hts _ bw_135) (fun _ h9 => h9) rfl dD_read_13 ?_
    refine mp_lald hx hb I 1 hav rfl f rfl (by omega) (by decide) (v := va f) rfl dD_read_16 ?_
    exact mp_lret hx hb hr hlocks I (Nat.le_of_ble_eq_true rfl) (Nat.le_of_ble_eq_true rfl) dD_read_17 ⟨rfl, by unfold rdv; rw [if_pos (by omega)]⟩
abbrev rm_D_write : Room := { frames := 1, cells := 0, slots := 0, locals := 30 }
set_option maxHeartbeats 4000000 in
set_option maxRecDepth 100000 in
theorem kD_write (l : Launch) (D : va_G) (k : Nat → ClassId) (M : mp_M) {d av ak at_ aw as_ an : Nat} {qt qs qn : Nat → Option Nat} {sa ra : Nat → Nat} {ec tc wc sc nc : Nat} {va : Nat → Int64} {kd wt tk tf tz sk sf sw sl nn : Nat → Nat} {nv : Nat → Nat → Int64} (hD : DkX k M d av ak at_ aw as_ an qt qs qn sa ra ec tc wc sc nc va kd wt tk tf tz sk sf sw sl nn nv) (hO : OkB ec tc wc sc nc tk tf tz sk sf sw sl nn) (h1 x f wd b : Nat) (hSp : M h1 = some (.inr (2, [.int (nI x), .int (nI f), .int (nI wd), .int (nI b)]))) (hx7 : x ≤ 7) (hw1 : 1 ≤ wd) (hw8 : wd ≤ 8) (hfw : f + wd ≤ 4000) (hb1 : b ≤ 1) (v : Int64) : mp_Met l yD_write (Cond.code yD_write cD_write 7 none :: bw) rm_D_write D cls5 (tys6 k) [.ref d, .ref h1, .long v] M (va_Qv (fun M1 => M1 = mp_up M av (.inl (k 1, 4000, .inr (.inl (wrv va f wd b v)))))) 0 0 := by
  refine mp_Met.of (by decide) (Nat.le_of_ble_eq_true rfl) ?_
  intro p e s m below meth c hx hb hr hml hown hts hlocks hin ls hl I
  have hl : lv_has ls 7 [(0, .ref d), (1, .ref h1), (2, .long v)] := hl
  obtain ⟨h0, hav, hak, hat, haw, has, han, hth, hsp, hsn, hij⟩ := id hD
  obtain ⟨b1, b2, b3, b4, b5, bT, bS, bN⟩ := id hO
  refine lv_aload_n hx hb dD_write_0 rfl (lv_at hl 1 rfl) ?_
  refine mp_get (v := .int (nI wd)) hx hb hts inS hown I hSp rfl 2 (by decide) (hts _ bw_137) (fun _ h9 => h9) rfl dD_write_1 ?_
  refine lv_iconst (v := nI 1) hx hb dD_write_4 (by decide) ?_
  refine zz_icmp_ne (tgt := 19) hx hb (nI_toInt (by first | assumption | omega)) (nI_toInt (by decide)) dD_write_5 (by decide) (fun c_1 => ?_) (fun c_1 => ?_)
  · refine lv_lload_n hx hb dD_write_19 rfl (lv_at hl 2 rfl) ?_
    refine lv_lstore (lv' := [(4, .long v), (0, .ref d), (1, .ref h1), (2, .long v)]) hx hb dD_write_20 hl (by decide) rfl (fun ls hl => ?_)
    refine lv_aload_n hx hb dD_write_22 rfl (lv_at hl 2 rfl) ?_
    refine mp_get (v := .int (nI wd)) hx hb hts inS hown I hSp rfl 2 (by decide) (hts _ bw_137) (fun _ h9 => h9) rfl dD_write_23 ?_
    refine lv_iconst (v := nI 1) hx hb dD_write_26 (by decide) ?_
    refine zz_isub hx hb (by omega) dD_write_27 ?_
    refine lv_istore (lv' := [(6, .int (nI (wd - 1))), (4, .long v), (0, .ref d), (1, .ref h1), (2, .long v)]) hx hb dD_write_28 hl (by decide) rfl (fun ls hl => ?_)
    rw [rk_0 (by omega)] at hl
    have I := I.to (show M = mp_up M av (.inl (k 1, 4000, .inr (.inl (wrF va f wd b v 0)))) from (mp_upself hav).symm)
    refine mp_loop wd 7 (fun i => [(6, .int (rkI wd i)), (4, .long (shv v i)), (0, .ref d), (1, .ref h1), (2, .long v)]) (fun i => mp_up M av (.inl (k 1, 4000, .inr (.inl (wrF va f wd b v i))))) 0 (by omega) (lv_sub hl [0, 1, 2, 3, 4] rfl) I ?_
    intro i H locs ls hi0_i hi_i hl I ih_i
    have hl : lv_has ls 7 [(6, .int (rkI wd i)), (4, .long (shv v i)), (0, .ref d), (1, .ref h1), (2, .long v)] := hl
    have I : mp_I D cls5 (tys6 k) s _ s.heap H locs (mp_up M av (.inl (k 1, 4000, .inr (.inl (wrF va f wd b v i))))) := I
    have h0__L : mp_up M av (.inl (k 1, 4000, .inr (.inl (wrF va f wd b v i)))) d = some (.inr (0, [.ref av, .ref ak, .int (nI ec), .ref at_, .int (nI tc), .ref aw, .int (nI wc), .ref as_, .int (nI sc), .ref an, .int (nI nc)])) := (mp_up_n (mp_ne h0 hav (by simp))).trans h0
    have hav__L : mp_up M av (.inl (k 1, 4000, .inr (.inl (wrF va f wd b v i)))) av = some (.inl (k 1, 4000, .inr (.inl (wrF va f wd b v i)))) := mp_up_s _ _ _
    have hak__L : mp_up M av (.inl (k 1, 4000, .inr (.inl (wrF va f wd b v i)))) ak = some (.inl (k 0, 4000, .inl (fun i_ => nI (kd i_)))) := (mp_up_n (mp_ne hak hav (by simp))).trans hak
    have hat__L : mp_up M av (.inl (k 1, 4000, .inr (.inl (wrF va f wd b v i)))) at_ = some (.inl (k 2, 300, .inr (.inr (.inr (.inr qt))))) := (mp_up_n (mp_ne hat hav (by simp))).trans hat
    have haw__L : mp_up M av (.inl (k 1, 4000, .inr (.inl (wrF va f wd b v i)))) aw = some (.inl (k 0, 12, .inl (fun i_ => nI (wt i_)))) := (mp_up_n (mp_ne haw hav (by simp))).trans haw
    have has__L : mp_up M av (.inl (k 1, 4000, .inr (.inl (wrF va f wd b v i)))) as_ = some (.inl (k 3, 100, .inr (.inr (.inr (.inr qs))))) := (mp_up_n (mp_ne has hav (by simp))).trans has
    have han__L : mp_up M av (.inl (k 1, 4000, .inr (.inl (wrF va f wd b v i)))) an = some (.inl (k 4, 20, .inr (.inr (.inr (.inr qn))))) := (mp_up_n (mp_ne han hav (by simp))).trans han
    have hSp__L : mp_up M av (.inl (k 1, 4000, .inr (.inl (wrF va f wd b v i)))) h1 = some (.inr (2, [.int (nI x), .int (nI f), .int (nI wd), .int (nI b)])) := (mp_up_n (mp_ne hSp hav (by simp))).trans hSp
    refine lv_iload hx hb dD_write_30 (lv_at hl 0 rfl) ?_
    refine zz_if_lt (tgt := 65) hx hb (rk_z (by omega) hw8) dD_write_32 (by decide) (fun c_2 => ?_) (fun c_2 => ?_)
    · obtain rfl : i = wd := by omega
      exact mp_vret hx hb hr hlocks I (Nat.le_of_ble_eq_true rfl) (Nat.le_of_ble_eq_true rfl) dD_write_65 (by unfold wrv; rw [if_neg (by omega)])
    · rw [rk_n (by omega)] at hl
      refine lv_aload_n hx hb dD_write_35 rfl (lv_at hl 2 rfl) ?_
      refine mp_get (v := .ref av) hx hb hts inD hown I h0__L rfl 0 (by decide) (hts _ bw_26) (fun _ h9 => h9) rfl dD_write_36 ?_
      refine lv_aload_n hx hb dD_write_39 rfl (lv_at hl 3 rfl) ?_
      refine lv_iload hx hb dD_write_40 (lv_at hl 0 rfl) ?_
      refine mp_calli (va_runV (As := [.int (nI (wd - 1 - i))]) (rest := [.ref av]) ⟨hx, hb, hml, hown, hts⟩ (kS_indexOfByte l D k (mp_up M av (.inl (k 1, 4000, .inr (.inl (wrF va f wd b v i))))) h1 x f wd b (wd - 1 - i) hSp__L hb1 (by omega) (by omega) _) (cwV 1 hts (bw_V bw_312 bw_313 bw_314 bw_5 bw_315) rfl rfl rfl (by decide +kernel) ⟨Nat.le_of_ble_eq_true rfl, Nat.le_of_ble_eq_true rfl⟩) (mp_preV I hSp__L rfl _) rfl rfl hl.1 rfl (lv_room (Nat.le_of_ble_eq_true rfl)) dD_write_42 ⟨Nat.le_of_ble_eq_true rfl, Nat.le_of_ble_eq_true rfl⟩) I (fun r1 N1 H locs hp I => ?_)
      obtain ⟨e_3, hp⟩ := hp
      rw [e_3] at I
      subst hp
      have hix : ixb f wd b (wd - 1 - i) < 4000 := ixb_lt (by omega) hfw
      refine lv_iconst (v := nI 2) hx hb dD_write_45 (by decide) ?_
      refine lv_lload hx hb dD_write_46 (lv_at hl 1 rfl) ?_
      refine mp_calll (va_runS (As := [.int (nI 2), .long (shv v i)]) (rest := [.int (nI (ixb f wd b (wd - 1 - i))), .ref av]) ⟨hx, hb, hml, hown, hts⟩ (kD_lowestBits l D k (mp_up M av (.inl (k 1, 4000, .inr (.inl (wrF va f wd b v i))))) 2 (shv v i) (by omega) _) (cwS 2 hts (bw_S bw_298 bw_299 bw_1 bw_300) rfl rfl rfl (by decide +kernel) ⟨Nat.le_of_ble_eq_true rfl, Nat.le_of_ble_eq_true rfl⟩) (mp_preS I _) rfl rfl hl.1 rfl (lv_room (Nat.le_of_ble_eq_true rfl)) dD_write_48 ⟨Nat.le_of_ble_eq_true rfl, Nat.le_of_ble_eq_true rfl⟩) I (fun r1 N1 H locs hp I => ?_)
      obtain ⟨e_4, hp⟩ := hp
      rw [e_4] at I
      subst hp
      refine mp_last hx hb I 1 hav__L rfl (x := lb 2 (shv v i)) (ixb f wd b (wd - 1 - i)) rfl (by omega) (by decide) dD_write_51 (fun H locs I => ?_)
      rw [mp_upup] at I
      have I : mp_I D cls5 (tys6 k) s _ s.heap H locs (mp_up M av (.inl (k 1, 4000, .inr (.inl (wrF va f wd b v (i + 1)))))) := I
      refine lv_lload hx hb dD_write_52 (lv_at hl 1 rfl) ?_
      refine lv_bipush (v := nI 8) hx hb dD_write_54 (by decide) ?_
      refine lv_lshr (v := (shv v i) >>> ((nI 8).toInt64 &&& 63)) hx hb dD_write_56 rfl ?_
      refine lv_lstore (lv' := [(4, .long ((shv v i) >>> ((nI 8).toInt64 &&& 63))), (6, .int (nI (wd - 1 - i))), (0, .ref d), (1, .ref h1), (2, .long v)]) hx hb dD_write_57 hl (by decide) rfl (fun ls hl => ?_)
      refine lv_iinc (v := rkI wd (i + 1)) (lv' := [(6, .int (rkI wd (i + 1))), (4, .long ((shv v i) >>> ((nI 8).toInt64 &&& 63))), (0, .ref d), (1, .ref h1), (2, .long v)]) hx hb dD_write_59 hl (k := 1) rfl (rk_s (by omega)) (by decide) rfl (fun ls hl => ?_)
      refine lv_goto (tgt := 30) hx hb dD_write_62 (by decide) ?_
      exact ih_i _ _ _ (by omega) (lv_sub hl [0, 1, 2, 3, 4] rfl) I
  · refine lv_aload_n hx hb dD_write_8 rfl (lv_at hl 0 rfl) ?_
    refine mp_get (v := .ref av) hx hb hts inD hown I h0 rfl 0 (by decide) (hts _ bw_26) (fun _ h9 => h9) rfl dD_write_9 ?_
    refine lv_aload_n hx hb dD_write_12 rfl (lv_at hl 1 rfl) ?_
    refine mp_get (v := .int (nI f)) hx hb hts inS hown I hSp rfl 1 (by decide) (hts _ bw_135) (fun _ h9 => h9) rfl dD_write_13 ?_
    refine lv_lload_n hx hb dD_write_16 rfl (lv_at hl 2 rfl) ?_
    refine mp_last hx hb I 1 hav rfl (x := v) f rfl (by omega) (by decide) dD_write_17 (fun H locs I => ?_)
    have I : mp_I D cls5 (tys6 k) s _ s.heap H locs (mp_up M av (.inl (k 1, 4000, .inr (.inl (vp_updL va f v))))) := I
    have hav_n : mp_up M av (.inl (k 1, 4000, .inr (.inl (vp_updL va f v)))) av = some (.inl (k 1, 4000, .inr (.inl (vp_updL va f v)))) := mp_up_s _ _ _
    have h0_n : mp_up M av (.inl (k 1, 4000, .inr (.inl (vp_updL va f v)))) d = some (.inr (0, [.ref av, .ref ak, .int (nI ec), .ref at_, .int (nI tc), .ref aw, .int (nI wc), .ref as_, .int (nI sc), .ref an, .int (nI nc)])) := (mp_up_n (mp_ne h0 hav (by simp))).trans h0
    have hak_n : mp_up M av (.inl (k 1, 4000, .inr (.inl (vp_updL va f v)))) ak = some (.inl (k 0, 4000, .inl (fun i_ => nI (kd i_)))) := (mp_up_n (mp_ne hak hav (by simp))).trans hak
    have hat_n : mp_up M av (.inl (k 1, 4000, .inr (.inl (vp_updL va f v)))) at_ = some (.inl (k 2, 300, .inr (.inr (.inr (.inr qt))))) := (mp_up_n (mp_ne hat hav (by simp))).trans hat
    have haw_n : mp_up M av (.inl (k 1, 4000, .inr (.inl (vp_updL va f v)))) aw = some (.inl (k 0, 12, .inl (fun i_ => nI (wt i_)))) := (mp_up_n (mp_ne haw hav (by simp))).trans haw
    have has_n : mp_up M av (.inl (k 1, 4000, .inr (.inl (vp_updL va f v)))) as_ = some (.inl (k 3, 100, .inr (.inr (.inr (.inr qs))))) := (mp_up_n (mp_ne has hav (by simp))).trans has
    have han_n : mp_up M av (.inl (k 1, 4000, .inr (.inl (vp_updL va f v)))) an = some (.inl (k 4, 20, .inr (.inr (.inr (.inr qn))))) := (mp_up_n (mp_ne han hav (by simp))).trans han
    have hSp_n : mp_up M av (.inl (k 1, 4000, .inr (.inl (vp_updL va f v)))) h1 = some (.inr (2, [.int (nI x), .int (nI f), .int (nI wd), .int (nI b)])) := (mp_up_n (mp_ne hSp hav (by simp))).trans hSp
    generalize eM_6 : mp_up M av (.inl (k 1, 4000, .inr (.inl (vp_updL va f v)))) = M_5 at I h0_n hav_n hak_n hat_n haw_n has_n han_n hSp_n
    have h0__M_5 := h0_n
    have hav__M_5 := hav_n
    have hak__M_5 := hak_n
    have hat__M_5 := hat_n
    have haw__M_5 := haw_n
    have has__M_5 := has_n
    have han__M_5 := han_n
    have hSp__M_5 := hSp_n
    clear h0_n hav_n hak_n hat_n haw_n has_n han_n hSp_n
    exact mp_vret hx hb hr hlocks I (Nat.le_of_ble_eq_true rfl) (Nat.le_of_ble_eq_true rfl) dD_write_18 (by first | (unfold wrv; rw [if_pos (by omega)]; exact eM_6.symm) | (rw [← eM_6]; unfold wrv; rw [if_pos (by omega)]))
/-- what an act answers, and what the place has then -/
def pa (act : Int) (x : Nat) (had v w : Int64) : Int64 × Option Int64 := if act = 1 then (0, some v) else if act = 2 then (had, some v) else if act = 3 then (if had = v then (1, some w) else (0, none)) else if act = 4 then (had, some (lb x (had + v))) else if act = 5 then (had, some (had &&& v)) else if act = 6 then (had, some (had ||| v)) else if act = 7 then (had, some (if v < had then had else v)) else (had, none)
def wro (va : Nat → Int64) (f wd b : Nat) : Option Int64 → Nat → Int64
  | none => va
  | some v => wrv va f wd b v
abbrev rm_D_perform : Room := { frames := 2, cells := 0, slots := 0, locals := 60 }
set_option maxHeartbeats 4000000 in
set_option maxRecDepth 100000 in
theorem kD_perform (l : Launch) (D : va_G) (k : Nat → ClassId) (M : mp_M) {d av ak at_ aw as_ an : Nat} {qt qs qn : Nat → Option Nat} {sa ra : Nat → Nat} {ec tc wc sc nc : Nat} {va : Nat → Int64} {kd wt tk tf tz sk sf sw sl nn : Nat → Nat} {nv : Nat → Nat → Int64} (hD : DkX k M d av ak at_ aw as_ an qt qs qn sa ra ec tc wc sc nc va kd wt tk tf tz sk sf sw sl nn nv) (hO : OkB ec tc wc sc nc tk tf tz sk sf sw sl nn) (h1 x f wd b : Nat) (hSp : M h1 = some (.inr (2, [.int (nI x), .int (nI f), .int (nI wd), .int (nI b)]))) (hx7 : x ≤ 7) (hw1 : 1 ≤ wd) (hw8 : wd ≤ 8) (hfw : f + wd ≤ 4000) (hb1 : b ≤ 1) (act : Int32) (v w : Int64) : mp_Met l yD_perform (Cond.code yD_perform cD_perform 9 (some .long) :: bw) rm_D_perform D cls5 (tys6 k) [.ref d, .ref h1, .int act, .long v, .long w] M (va_Ql (fun r M1 => r = (pa act.toInt x (rdv va x f wd b) v w).1 ∧ M1 = mp_up M av (.inl (k 1, 4000, .inr (.inl (wro va f wd b (pa act.toInt x (rdv va x f wd b) v w).2)))))) 0 0 := by
  refine mp_Met.of (by decide) (Nat.le_of_ble_eq_true rfl) ?_
  intro p e s m below meth c hx hb hr hml hown hts hlocks hin ls hl I
  have hl : lv_has ls 9 [(0, .ref d), (1, .ref h1), (2, .int act), (3, .long v), (5, .long w)] := hl
  obtain ⟨h0, hav, hak, hat, haw, has, han, hth, hsp, hsn, hij⟩ := id hD
  obtain ⟨b1, b2, b3, b4, b5, bT, bS, bN⟩ := id hO
  refine lv_aload_n hx hb dD_perform_0 rfl (lv_at hl 0 rfl) ?_
  refine lv_aload_n hx hb dD_perform_1 rfl (lv_at hl 1 rfl) ?_
  refine mp_calll (va_runV (As := [.ref h1]) (rest := []) ⟨hx, hb, hml, hown, hts⟩ (kD_read l D k M hD hO h1 x f wd b hSp hx7 hw1 hw8 hfw hb1 _) (cwV 1 hts (bw_V bw_308 bw_310 bs_9 bw_1 bw_311) rfl rfl rfl (by decide +kernel) ⟨Nat.le_of_ble_eq_true rfl, Nat.le_of_ble_eq_true rfl⟩) (mp_preV I h0 rfl _) rfl rfl hl.1 rfl (lv_room (Nat.le_of_ble_eq_true rfl)) dD_perform_2 ⟨Nat.le_of_ble_eq_true rfl, Nat.le_of_ble_eq_true rfl⟩) I (fun hd_ N1 H locs hp I => ?_)
  obtain ⟨e_1, hp⟩ := hp
  rw [e_1] at I
  generalize rdv va x f wd b = had at hp ⊢
  subst hp
  refine lv_lstore (lv' := [(7, .long hd_), (0, .ref d), (1, .ref h1), (2, .int act), (3, .long v), (5, .long w)]) hx hb dD_perform_5 hl (by decide) rfl (fun ls hl => ?_)
  refine lv_iload_n hx hb dD_perform_7 rfl (lv_at hl 3 rfl) ?_
  have c_2 : act.toInt = 1 ∨ act.toInt = 2 ∨ act.toInt = 3 ∨ act.toInt = 4 ∨ act.toInt = 5 ∨ act.toInt = 6 ∨ act.toInt = 7 ∨ (act.toInt < 1 ∨ 7 < act.toInt) := by omega
  rcases c_2 with c_2 | c_2 | c_2 | c_2 | c_2 | c_2 | c_2 | c_2
  · refine lv_tableIn (off := 44) (tgt := 52) hx hb dD_perform_8 (by rw [show act.toInt = act.toInt from rfl]; omega) (by rw [show act.toInt = act.toInt from rfl]; omega) (by rw [show act.toInt = act.toInt from rfl, c_2]; rfl) (by decide) ?_
    refine lv_aload_n hx hb dD_perform_52 rfl (lv_at hl 1 rfl) ?_
    refine lv_aload_n hx hb dD_perform_53 rfl (lv_at hl 2 rfl) ?_
    refine lv_lload_n hx hb dD_perform_54 rfl (lv_at hl 4 rfl) ?_
    refine mp_callv (va_runV (As := [.ref h1, .long v]) (rest := []) ⟨hx, hb, hml, hown, hts⟩ (kD_write l D k M hD hO h1 x f wd b hSp hx7 hw1 hw8 hfw hb1 v _) (cwV 2 hts (bw_V bw_317 bw_319 bs_10 bw_1 bw_320) rfl rfl rfl (by decide +kernel) ⟨Nat.le_of_ble_eq_true rfl, Nat.le_of_ble_eq_true rfl⟩) (mp_preV I h0 rfl _) rfl rfl hl.1 rfl (lv_room (Nat.le_of_ble_eq_true rfl)) dD_perform_55 ⟨Nat.le_of_ble_eq_true rfl, Nat.le_of_ble_eq_true rfl⟩) I (fun N1 H locs hp I => ?_)
    refine lv_lconst (v := 0) hx hb dD_perform_58 (by decide) ?_
    exact mp_lret hx hb hr hlocks I (Nat.le_of_ble_eq_true rfl) (Nat.le_of_ble_eq_true rfl) dD_perform_59 (by unfold pa; rw [if_pos (show act.toInt = 1 by omega)]; exact ⟨rfl, hp⟩)
  · refine lv_tableIn (off := 52) (tgt := 60) hx hb dD_perform_8 (by rw [show act.toInt = act.toInt from rfl]; omega) (by rw [show act.toInt = act.toInt from rfl]; omega) (by rw [show act.toInt = act.toInt from rfl, c_2]; rfl) (by decide) ?_
    refine lv_aload_n hx hb dD_perform_60 rfl (lv_at hl 1 rfl) ?_
    refine lv_aload_n hx hb dD_perform_61 rfl (lv_at hl 2 rfl) ?_
    refine lv_lload_n hx hb dD_perform_62 rfl (lv_at hl 4 rfl) ?_
    refine mp_callv (va_runV (As := [.ref h1, .long v]) (rest := []) ⟨hx, hb, hml, hown, hts⟩ (kD_write l D k M hD hO h1 x f wd b hSp hx7 hw1 hw8 hfw hb1 v _) (cwV 2 hts (bw_V bw_317 bw_319 bs_10 bw_1 bw_320) rfl rfl rfl (by decide +kernel) ⟨Nat.le_of_ble_eq_true rfl, Nat.le_of_ble_eq_true rfl⟩) (mp_preV I h0 rfl _) rfl rfl hl.1 rfl (lv_room (Nat.le_of_ble_eq_true rfl)) dD_perform_63 ⟨Nat.le_of_ble_eq_true rfl, Nat.le_of_ble_eq_true rfl⟩) I (fun N1 H locs hp I => ?_)
    refine lv_lload hx hb dD_perform_66 (lv_at hl 0 rfl) ?_
    exact mp_lret hx hb hr hlocks I (Nat.le_of_ble_eq_true rfl) (Nat.le_of_ble_eq_true rfl) dD_perform_68 (by unfold pa; rw [if_neg (show ¬ act.toInt = 1 by omega), if_pos (show act.toInt = 2 by omega)]; exact ⟨rfl, hp⟩)
  · refine lv_tableIn (off := 61) (tgt := 69) hx hb dD_perform_8 (by rw [show act.toInt = act.toInt from rfl]; omega) (by rw [show act.toInt = act.toInt from rfl]; omega) (by rw [show act.toInt = act.toInt from rfl, c_2]; rfl) (by decide) ?_
    refine lv_lload hx hb dD_perform_69 (lv_at hl 0 rfl) ?_
    refine lv_lload_n hx hb dD_perform_71 rfl (lv_at hl 4 rfl) ?_
    refine W.lcmp hx hb dD_perform_72 ?_
    refine lv_if_eq (tgt := 78) hx hb dD_perform_73 (by decide) (fun c_3 => ?_) (fun c_3 => ?_)
    all_goals rw [lg_cmp_eq] at c_3
    · refine lv_aload_n hx hb dD_perform_78 rfl (lv_at hl 1 rfl) ?_
      refine lv_aload_n hx hb dD_perform_79 rfl (lv_at hl 2 rfl) ?_
      refine lv_lload hx hb dD_perform_80 (lv_at hl 5 rfl) ?_
      refine mp_callv (va_runV (As := [.ref h1, .long w]) (rest := []) ⟨hx, hb, hml, hown, hts⟩ (kD_write l D k M hD hO h1 x f wd b hSp hx7 hw1 hw8 hfw hb1 w _) (cwV 2 hts (bw_V bw_317 bw_319 bs_10 bw_1 bw_320) rfl rfl rfl (by decide +kernel) ⟨Nat.le_of_ble_eq_true rfl, Nat.le_of_ble_eq_true rfl⟩) (mp_preV I h0 rfl _) rfl rfl hl.1 rfl (lv_room (Nat.le_of_ble_eq_true rfl)) dD_perform_82 ⟨Nat.le_of_ble_eq_true rfl, Nat.le_of_ble_eq_true rfl⟩) I (fun N1 H locs hp I => ?_)
      refine lv_lconst (v := 1) hx hb dD_perform_85 (by decide) ?_
      exact mp_lret hx hb hr hlocks I (Nat.le_of_ble_eq_true rfl) (Nat.le_of_ble_eq_true rfl) dD_perform_86 (by unfold pa; rw [if_neg (show ¬ act.toInt = 1 by omega), if_neg (show ¬ act.toInt = 2 by omega), if_pos (show act.toInt = 3 by omega), if_pos c_3]; exact ⟨rfl, hp⟩)
    · refine lv_lconst (v := 0) hx hb dD_perform_76 (by decide) ?_
      exact mp_lret hx hb hr hlocks I (Nat.le_of_ble_eq_true rfl) (Nat.le_of_ble_eq_true rfl) dD_perform_77 (by unfold pa; rw [if_neg (show ¬ act.toInt = 1 by omega), if_neg (show ¬ act.toInt = 2 by omega), if_pos (show act.toInt = 3 by omega), if_neg c_3]; exact ⟨rfl, (mp_upself hav).symm⟩)
  · refine lv_tableIn (off := 79) (tgt := 87) hx hb dD_perform_8 (by rw [show act.toInt = act.toInt from rfl]; omega) (by rw [show act.toInt = act.toInt from rfl]; omega) (by rw [show act.toInt = act.toInt from rfl, c_2]; rfl) (by decide) ?_
    refine lv_aload_n hx hb dD_perform_87 rfl (lv_at hl 1 rfl) ?_
    refine lv_aload_n hx hb dD_perform_88 rfl (lv_at hl 2 rfl) ?_
    refine lv_aload_n hx hb dD_perform_89 rfl (lv_at hl 2 rfl) ?_
    refine mp_get (v := .int (nI x)) hx hb hts inS hown I hSp rfl 0 (by decide) (hts _ bw_133) (fun _ h9 => h9) rfl dD_perform_90 ?_
    refine lv_lload hx hb dD_perform_93 (lv_at hl 0 rfl) ?_
    refine lv_lload_n hx hb dD_perform_95 rfl (lv_at hl 4 rfl) ?_
    refine lv_ladd hx hb dD_perform_96 ?_
    refine mp_calll (va_runS (As := [.int (nI x), .long (hd_ + v)]) (rest := [.ref h1, .ref d]) ⟨hx, hb, hml, hown, hts⟩ (kD_lowestBits l D k M x (hd_ + v) hx7 _) (cwS 2 hts (bw_S bw_298 bw_299 bw_1 bw_300) rfl rfl rfl (by decide +kernel) ⟨Nat.le_of_ble_eq_true rfl, Nat.le_of_ble_eq_true rfl⟩) (mp_preS I _) rfl rfl hl.1 rfl (lv_room (Nat.le_of_ble_eq_true rfl)) dD_perform_97 ⟨Nat.le_of_ble_eq_true rfl, Nat.le_of_ble_eq_true rfl⟩) I (fun r1 N1 H locs hp I => ?_)
    obtain ⟨e_4, hp⟩ := hp
    rw [e_4] at I
    subst hp
    refine mp_callv (va_runV (As := [.ref h1, .long (lb x (hd_ + v))]) (rest := []) ⟨hx, hb, hml, hown, hts⟩ (kD_write l D k M hD hO h1 x f wd b hSp hx7 hw1 hw8 hfw hb1 (lb x (hd_ + v)) _) (cwV 2 hts (bw_V bw_317 bw_319 bs_10 bw_1 bw_320) rfl rfl rfl (by decide +kernel) ⟨Nat.le_of_ble_eq_true rfl, Nat.le_of_ble_eq_true rfl⟩) (mp_preV I h0 rfl _) rfl rfl hl.1 rfl (lv_room (Nat.le_of_ble_eq_true rfl)) dD_perform_100 ⟨Nat.le_of_ble_eq_true rfl, Nat.le_of_ble_eq_true rfl⟩) I (fun N1 H locs hp I => ?_)
    refine lv_lload hx hb dD_perform_103 (lv_at hl 0 rfl) ?_
    exact mp_lret hx hb hr hlocks I (Nat.le_of_ble_eq_true rfl) (Nat.le_of_ble_eq_true rfl) dD_perform_105 (by unfold pa; rw [if_neg (show ¬ act.toInt = 1 by omega), if_neg (show ¬ act.toInt = 2 by omega), if_neg (show ¬ act.toInt = 3 by omega), if_pos (show act.toInt = 4 by omega)]; exact ⟨rfl, hp⟩)
  · refine lv_tableIn (off := 98) (tgt := 106) hx hb dD_perform_8 (by rw [show act.toInt = act.toInt from rfl]; omega) (by rw [show act.toInt = act.toInt from rfl]; omega) (by rw [show act.toInt = act.toInt from rfl, c_2]; rfl) (by decide) ?_
    refine lv_aload_n hx hb dD_perform_106 rfl (lv_at hl 1 rfl) ?_
    refine lv_aload_n hx hb dD_perform_107 rfl (lv_at hl 2 rfl) ?_
    refine lv_lload hx hb dD_perform_108 (lv_at hl 0 rfl) ?_
    refine lv_lload_n hx hb dD_perform_110 rfl (lv_at hl 4 rfl) ?_
    refine lv_land hx hb dD_perform_111 ?_
    refine mp_callv (va_runV (As := [.ref h1, .long (hd_ &&& v)]) (rest := []) ⟨hx, hb, hml, hown, hts⟩ (kD_write l D k M hD hO h1 x f wd b hSp hx7 hw1 hw8 hfw hb1 (hd_ &&& v) _) (cwV 2 hts (bw_V bw_317 bw_319 bs_10 bw_1 bw_320) rfl rfl rfl (by decide +kernel) ⟨Nat.le_of_ble_eq_true rfl, Nat.le_of_ble_eq_true rfl⟩) (mp_preV I h0 rfl _) rfl rfl hl.1 rfl (lv_room (Nat.le_of_ble_eq_true rfl)) dD_perform_112 ⟨Nat.le_of_ble_eq_true rfl, Nat.le_of_ble_eq_true rfl⟩) I (fun N1 H locs hp I => ?_)
    refine lv_lload hx hb dD_perform_115 (lv_at hl 0 rfl) ?_
    exact mp_lret hx hb hr hlocks I (Nat.le_of_ble_eq_true rfl) (Nat.le_of_ble_eq_true rfl) dD_perform_117 (by unfold pa; rw [if_neg (show ¬ act.toInt = 1 by omega), if_neg (show ¬ act.toInt = 2 by omega), if_neg (show ¬ act.toInt = 3 by omega), if_neg (show ¬ act.toInt = 4 by omega), if_pos (show act.toInt = 5 by omega)]; exact ⟨rfl, hp⟩)
  · refine lv_tableIn (off := 110) (tgt := 118) hx hb dD_perform_8 (by rw [show act.toInt = act.toInt from rfl]; omega) (by rw [show act.toInt = act.toInt from rfl]; omega) (by rw [show act.toInt = act.toInt from rfl, c_2]; rfl) (by decide) ?_
    refine lv_aload_n hx hb dD_perform_118 rfl (lv_at hl 1 rfl) ?_
    refine lv_aload_n hx hb dD_perform_119 rfl (lv_at hl 2 rfl) ?_
    refine lv_lload hx hb dD_perform_120 (lv_at hl 0 rfl) ?_
    refine lv_lload_n hx hb dD_perform_122 rfl (lv_at hl 4 rfl) ?_
    refine lv_lor hx hb dD_perform_123 ?_
    refine mp_callv (va_runV (As := [.ref h1, .long (hd_ ||| v)]) (rest := []) ⟨hx, hb, hml, hown, hts⟩ (kD_write l D k M hD hO h1 x f wd b hSp hx7 hw1 hw8 hfw hb1 (hd_ ||| v) _) (cwV 2 hts (bw_V bw_317 bw_319 bs_10 bw_1 bw_320) rfl rfl rfl (by decide +kernel) ⟨Nat.le_of_ble_eq_true rfl, Nat.le_of_ble_eq_true rfl⟩) (mp_preV I h0 rfl _) rfl rfl hl.1 rfl (lv_room (Nat.le_of_ble_eq_true rfl)) dD_perform_124 ⟨Nat.le_of_ble_eq_true rfl, Nat.le_of_ble_eq_true rfl⟩) I (fun N1 H locs hp I => ?_)
    refine lv_lload hx hb dD_perform_127 (lv_at hl 0 rfl) ?_
    exact mp_lret hx hb hr hlocks I (Nat.le_of_ble_eq_true rfl) (Nat.le_of_ble_eq_true rfl) dD_perform_129 (by unfold pa; rw [if_neg (show ¬ act.toInt = 1 by omega), if_neg (show ¬ act.toInt = 2 by omega), if_neg (show ¬ act.toInt = 3 by omega), if_neg (show ¬ act.toInt = 4 by omega), if_neg (show ¬ act.toInt = 5 by omega), if_pos (show act.toInt = 6 by omega)]; exact ⟨rfl, hp⟩)
  · refine lv_tableIn (off := 122) (tgt := 130) hx hb dD_perform_8 (by rw [show act.toInt = act.toInt from rfl]; omega) (by rw [show act.toInt = act.toInt from rfl]; omega) (by rw [show act.toInt = act.toInt from rfl, c_2]; rfl) (by decide) ?_
    refine lv_aload_n hx hb dD_perform_130 rfl (lv_at hl 1 rfl) ?_
    refine lv_aload_n hx hb dD_perform_131 rfl (lv_at hl 2 rfl) ?_
    refine lv_lload hx hb dD_perform_132 (lv_at hl 0 rfl) ?_
    refine lv_lload_n hx hb dD_perform_134 rfl (lv_at hl 4 rfl) ?_
    refine va_mmax_long hx hb (by rw [hml]; exact hl.1.symm) hown (hts _ bw_321) (hts _ bw_322) (hts _ bw_10) (hts _ bw_323) (Nat.le_of_ble_eq_true rfl) (Nat.le_of_ble_eq_true rfl) (Nat.le_of_ble_eq_true rfl) (Nat.le_of_ble_eq_true rfl) dD_perform_135 ?_
    refine mp_callv (va_runV (As := [.ref h1, .long (if v < hd_ then hd_ else v)]) (rest := []) ⟨hx, hb, hml, hown, hts⟩ (kD_write l D k M hD hO h1 x f wd b hSp hx7 hw1 hw8 hfw hb1 (if v < hd_ then hd_ else v) _) (cwV 2 hts (bw_V bw_317 bw_319 bs_10 bw_1 bw_320) rfl rfl rfl (by decide +kernel) ⟨Nat.le_of_ble_eq_true rfl, Nat.le_of_ble_eq_true rfl⟩) (mp_preV I h0 rfl _) rfl rfl hl.1 rfl (lv_room (Nat.le_of_ble_eq_true rfl)) dD_perform_138 ⟨Nat.le_of_ble_eq_true rfl, Nat.le_of_ble_eq_true rfl⟩) I (fun N1 H locs hp I => ?_)
    refine lv_lload hx hb dD_perform_141 (lv_at hl 0 rfl) ?_
    exact mp_lret hx hb hr hlocks I (Nat.le_of_ble_eq_true rfl) (Nat.le_of_ble_eq_true rfl) dD_perform_143 (by unfold pa; rw [if_neg (show ¬ act.toInt = 1 by omega), if_neg (show ¬ act.toInt = 2 by omega), if_neg (show ¬ act.toInt = 3 by omega), if_neg (show ¬ act.toInt = 4 by omega), if_neg (show ¬ act.toInt = 5 by omega), if_neg (show ¬ act.toInt = 6 by omega), if_pos (show act.toInt = 7 by omega)]; exact ⟨rfl, hp⟩)
  · refine lv_tableOut (tgt := 144) hx hb dD_perform_8 (by rw [show act.toInt = act.toInt from rfl]; exact c_2) (by decide) ?_
    refine lv_lload hx hb dD_perform_144 (lv_at hl 0 rfl) ?_
    exact mp_lret hx hb hr hlocks I (Nat.le_of_ble_eq_true rfl) (Nat.le_of_ble_eq_true rfl) dD_perform_146 (by unfold pa; rw [if_neg (show ¬ act.toInt = 1 by omega), if_neg (show ¬ act.toInt = 2 by omega), if_neg (show ¬ act.toInt = 3 by omega), if_neg (show ¬ act.toInt = 4 by omega), if_neg (show ¬ act.toInt = 5 by omega), if_neg (show ¬ act.toInt = 6 by omega), if_neg (show ¬ act.toInt = 7 by omega)]; exact ⟨rfl, (mp_upself hav).symm⟩)
