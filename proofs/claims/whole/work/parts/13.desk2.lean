theorem mp_I.to {D : va_G} {cl : List vw_C} {tys : List (ClassId × FieldType)} {s : State} {A : Nat → Prop} {H0 H : Heap} {locs : List Loc} {M M1 : mp_M} (I : mp_I D cl tys s A H0 H locs M) (h : M = M1) : mp_I D cl tys s A H0 H locs M1 := h ▸ I
/-- the new object's values -/
def vin (va : Nat → Int64) (kd : Nat → Nat) (e i : Nat) : Nat → Int64 := fun j => if e ≤ j ∧ j < i then (if kd j = 7 then -1 else 0) else va j
theorem vin_0 (va : Nat → Int64) (kd : Nat → Nat) (e : Nat) : vin va kd e e = va := by
  funext j
  unfold vin
  rw [if_neg (by omega)]
theorem vin_s {va : Nat → Int64} {kd : Nat → Nat} {e i : Nat} {v : Int64} (h : e ≤ i) (hv : v = if kd i = 7 then -1 else 0) : vp_updL (vin va kd e i) i v = vin va kd e (i + 1) := by
  funext j
  unfold vp_updL vin
  by_cases hj : j = i
  · rw [if_pos hj, if_pos (show e ≤ j ∧ j < i + 1 by omega), hv, hj]
  · rw [if_neg hj]
    by_cases h2 : e ≤ j ∧ j < i
    · rw [if_pos h2, if_pos (show e ≤ j ∧ j < i + 1 by omega)]
    · rw [if_neg h2, if_neg (show ¬ (e ≤ j ∧ j < i + 1) by omega)]
/-- kinds of a row -/
def kfl (kd : Nat → Nat) (e i x : Nat) : Nat → Nat := fun j => if e ≤ j ∧ j < e + i then x else kd j
theorem kfl_0 (kd : Nat → Nat) (e x : Nat) : kfl kd e 0 x = kd := by
  funext j
  unfold kfl
  rw [if_neg (by omega)]
theorem kfl_s (kd : Nat → Nat) (e i x : Nat) : nu (kfl kd e i x) (e + i) x = kfl kd e (i + 1) x := by
  funext j
  unfold nu kfl
  by_cases hj : j = e + i
  · rw [if_pos hj, if_pos (show e ≤ j ∧ j < e + (i + 1) by omega)]
  · rw [if_neg hj]
    by_cases h2 : e ≤ j ∧ j < e + i
    · rw [if_pos h2, if_pos (show e ≤ j ∧ j < e + (i + 1) by omega)]
    · rw [if_neg h2, if_neg (show ¬ (e ≤ j ∧ j < e + (i + 1)) by omega)]
abbrev rm_D_addThing : Room := { frames := 2, cells := 1, slots := 3, locals := 60 }
set_option maxHeartbeats 4000000 in
set_option maxRecDepth 100000 in
theorem kD_addThing (l : Launch) (D : va_G) (k : Nat → ClassId) (M : mp_M) {d av ak at_ aw as_ an : Nat} {qt qs qn : Nat → Option Nat} {sa ra : Nat → Nat} {ec tc wc sc nc : Nat} {va : Nat → Int64} {kd wt tk tf tz sk sf sw sl nn : Nat → Nat} {nv : Nat → Nat → Int64} (hD : DkX k M d av ak at_ aw as_ an qt qs qn sa ra ec tc wc sc nc va kd wt tk tf tz sk sf sw sl nn nv) (hO : OkB ec tc wc sc nc tk tf tz sk sf sw sl nn) (x n : Nat) (hx7 : x ≤ 7) (ht : tc < 300) (hn : ec + n ≤ 4000) (hkd : ∀ i, i < ec + n → kd i ≤ 7) : mp_Met l yD_addThing (Cond.code yD_addThing cD_addThing 4 (some .int) :: bw) rm_D_addThing D cls5 (tys6 k) [.ref d, .int (nI x), .int (nI n)] M (va_Qi (fun r M1 => r = nI tc ∧ ∃ q : Nat, DkX k M1 d av ak at_ aw as_ an (va_up qt tc (some q)) qs qn sa ra (ec + n) (tc + 1) wc sc nc (vin va kd ec (ec + n)) kd wt (nu tk tc x) (nu tf tc ec) (nu tz tc n) sk sf sw sl nn nv)) 1 3 := by
  refine mp_Met.of (by decide) (Nat.le_of_ble_eq_true rfl) ?_
  intro p e s m below meth c hx hb hr hml hown hts hlocks hin ls hl I
  have hl : lv_has ls 4 [(0, .ref d), (1, .int (nI x)), (2, .int (nI n))] := hl
  obtain ⟨h0, hav, hak, hat, haw, has, han, hth, hsp, hsn, hij⟩ := id hD
  obtain ⟨b1, b2, b3, b4, b5, bT, bS, bN⟩ := id hO
  refine lv_aload_n hx hb dD_addThing_0 rfl (lv_at hl 0 rfl) ?_
  refine mp_get (v := .int (nI ec)) hx hb hts inD hown I h0 rfl 2 (by decide) (hts _ bw_28) (fun _ h9 => h9) rfl dD_addThing_1 ?_
  refine lv_istore_n (lv' := [(3, .int (nI ec)), (0, .ref d), (1, .int (nI x)), (2, .int (nI n))]) hx hb dD_addThing_4 rfl hl (by decide) rfl (fun ls hl => ?_)
  have I := I.to (show M = mp_up M av (.inl (k 1, 4000, .inr (.inl (vin va kd ec ec)))) by rw [vin_0, mp_upself hav])
  refine mp_loop (ec + n) 4 (fun i => [(3, .int (nI i)), (0, .ref d), (1, .int (nI x)), (2, .int (nI n))]) (fun i => mp_up M av (.inl (k 1, 4000, .inr (.inl (vin va kd ec i))))) ec (by omega) (lv_sub hl [0, 1, 2, 3] rfl) I ?_
  intro i H locs ls hi0_i hi_i hl I ih_i
  have hl : lv_has ls 4 [(3, .int (nI i)), (0, .ref d), (1, .int (nI x)), (2, .int (nI n))] := hl
  have I : mp_I D cls5 (tys6 k) s _ s.heap H locs (mp_up M av (.inl (k 1, 4000, .inr (.inl (vin va kd ec i))))) := I
  have h0__L : mp_up M av (.inl (k 1, 4000, .inr (.inl (vin va kd ec i)))) d = some (.inr (0, [.ref av, .ref ak, .int (nI ec), .ref at_, .int (nI tc), .ref aw, .int (nI wc), .ref as_, .int (nI sc), .ref an, .int (nI nc)])) := (mp_up_n (mp_ne h0 hav (by simp))).trans h0
  have hav__L : mp_up M av (.inl (k 1, 4000, .inr (.inl (vin va kd ec i)))) av = some (.inl (k 1, 4000, .inr (.inl (vin va kd ec i)))) := mp_up_s _ _ _
  have hak__L : mp_up M av (.inl (k 1, 4000, .inr (.inl (vin va kd ec i)))) ak = some (.inl (k 0, 4000, .inl (fun i_ => nI (kd i_)))) := (mp_up_n (mp_ne hak hav (by simp))).trans hak
  have hat__L : mp_up M av (.inl (k 1, 4000, .inr (.inl (vin va kd ec i)))) at_ = some (.inl (k 2, 300, .inr (.inr (.inr (.inr qt))))) := (mp_up_n (mp_ne hat hav (by simp))).trans hat
  have haw__L : mp_up M av (.inl (k 1, 4000, .inr (.inl (vin va kd ec i)))) aw = some (.inl (k 0, 12, .inl (fun i_ => nI (wt i_)))) := (mp_up_n (mp_ne haw hav (by simp))).trans haw
  have has__L : mp_up M av (.inl (k 1, 4000, .inr (.inl (vin va kd ec i)))) as_ = some (.inl (k 3, 100, .inr (.inr (.inr (.inr qs))))) := (mp_up_n (mp_ne has hav (by simp))).trans has
  have han__L : mp_up M av (.inl (k 1, 4000, .inr (.inl (vin va kd ec i)))) an = some (.inl (k 4, 20, .inr (.inr (.inr (.inr qn))))) := (mp_up_n (mp_ne han hav (by simp))).trans han
  refine lv_iload_n hx hb dD_addThing_5 rfl (lv_at hl 0 rfl) ?_
  refine lv_aload_n hx hb dD_addThing_6 rfl (lv_at hl 1 rfl) ?_
  refine mp_get (v := .int (nI ec)) hx hb hts inD hown I h0__L rfl 2 (by decide) (hts _ bw_28) (fun _ h9 => h9) rfl dD_addThing_7 ?_
  refine lv_iload_n hx hb dD_addThing_10 rfl (lv_at hl 3 rfl) ?_
  refine zz_iadd hx hb dD_addThing_11 ?_
  refine zz_icmp_ge (tgt := 45) hx hb (nI_toInt (by first | assumption | omega)) (nI_toInt (by first | assumption | omega)) dD_addThing_12 (by decide) (fun c_1 => ?_) (fun c_1 => ?_)
  · obtain rfl : i = ec + n := by omega
    have hD := hD.setV (vin va kd ec (ec + n))
    generalize eMv : mp_up M av (.inl (k 1, 4000, .inr (.inl (vin va kd ec (ec + n))))) = Mv at I hD
    clear h0__L hav__L hak__L hat__L haw__L has__L han__L
    obtain ⟨h0, hav, hak, hat, haw, has, han, hth, hsp, hsn, hij⟩ := id hD
    refine lv_aload_n hx hb dD_addThing_45 rfl (lv_at hl 1 rfl) ?_
    refine mp_get (v := .ref at_) hx hb hts inD hown I h0 rfl 3 (by decide) (hts _ bw_29) (fun _ h9 => h9) rfl dD_addThing_46 ?_
    refine lv_aload_n hx hb dD_addThing_49 rfl (lv_at hl 1 rfl) ?_
    refine mp_get (v := .int (nI tc)) hx hb hts inD hown I h0 rfl 4 (by decide) (hts _ bw_30) (fun _ h9 => h9) rfl dD_addThing_50 ?_
    refine mp_new (fs := [.int 0, .int 0, .int 0]) hx hb hts inT tyT okT hown (hts _ bw_20) (hts _ bw_78) (hts _ bw_3) I (ci := 1) rfl (fun j hj => by rcases (show j = 0 ∨ j = 1 ∨ j = 2 by omega) with rfl | rfl | rfl <;> rfl) (Nat.le_of_ble_eq_true rfl) (Nat.le_of_ble_eq_true rfl) dD_addThing_53 (fun q H hq_2 I => ?_)
    have hqq_n : mp_up Mv q (.inr (1, [.int 0, .int 0, .int 0])) q = some (.inr (1, [.int 0, .int 0, .int 0])) := mp_up_s _ _ _
    have h0_n : mp_up Mv q (.inr (1, [.int 0, .int 0, .int 0])) d = some (.inr (0, [.ref av, .ref ak, .int (nI ec), .ref at_, .int (nI tc), .ref aw, .int (nI wc), .ref as_, .int (nI sc), .ref an, .int (nI nc)])) := (mp_up_n (fun z => by rw [z, hq_2] at h0; cases h0)).trans h0
    have hav_n : mp_up Mv q (.inr (1, [.int 0, .int 0, .int 0])) av = some (.inl (k 1, 4000, .inr (.inl (vin va kd ec (ec + n))))) := (mp_up_n (fun z => by rw [z, hq_2] at hav; cases hav)).trans hav
    have hak_n : mp_up Mv q (.inr (1, [.int 0, .int 0, .int 0])) ak = some (.inl (k 0, 4000, .inl (fun i_ => nI (kd i_)))) := (mp_up_n (fun z => by rw [z, hq_2] at hak; cases hak)).trans hak
    have hat_n : mp_up Mv q (.inr (1, [.int 0, .int 0, .int 0])) at_ = some (.inl (k 2, 300, .inr (.inr (.inr (.inr qt))))) := (mp_up_n (fun z => by rw [z, hq_2] at hat; cases hat)).trans hat
    have haw_n : mp_up Mv q (.inr (1, [.int 0, .int 0, .int 0])) aw = some (.inl (k 0, 12, .inl (fun i_ => nI (wt i_)))) := (mp_up_n (fun z => by rw [z, hq_2] at haw; cases haw)).trans haw
    have has_n : mp_up Mv q (.inr (1, [.int 0, .int 0, .int 0])) as_ = some (.inl (k 3, 100, .inr (.inr (.inr (.inr qs))))) := (mp_up_n (fun z => by rw [z, hq_2] at has; cases has)).trans has
    have han_n : mp_up Mv q (.inr (1, [.int 0, .int 0, .int 0])) an = some (.inl (k 4, 20, .inr (.inr (.inr (.inr qn))))) := (mp_up_n (fun z => by rw [z, hq_2] at han; cases han)).trans han
    generalize eM_4 : mp_up Mv q (.inr (1, [.int 0, .int 0, .int 0])) = M_3 at I hqq_n h0_n hav_n hak_n hat_n haw_n has_n han_n
    have h0__M_3 := h0_n
    have hav__M_3 := hav_n
    have hak__M_3 := hak_n
    have hat__M_3 := hat_n
    have haw__M_3 := haw_n
    have has__M_3 := has_n
    have han__M_3 := han_n
    have hqq__M_3 := hqq_n
    clear hqq_n h0_n hav_n hak_n hat_n haw_n has_n han_n
    refine lv_dup hx hb dD_addThing_56 rfl ?_
    refine lv_iload_n hx hb dD_addThing_57 rfl (lv_at hl 2 rfl) ?_
    refine lv_aload_n hx hb dD_addThing_58 rfl (lv_at hl 1 rfl) ?_
    refine mp_get (v := .int (nI ec)) hx hb hts inD hown I h0__M_3 rfl 2 (by decide) (hts _ bw_28) (fun _ h9 => h9) rfl dD_addThing_59 ?_
    refine lv_iload_n hx hb dD_addThing_62 rfl (lv_at hl 3 rfl) ?_
    refine mp_callv (va_runI (As := [.int (nI x), .int (nI ec), .int (nI n)]) (rest := [.ref q, .int (nI tc), .ref at_]) ⟨hx, hb, hml, hown, hts⟩ (kT_init l D k M_3 q (nI x) (nI ec) (nI n) hqq__M_3 _) (cwI 3 hts (bw_I bw_81) rfl rfl rfl (hts _ bw_3) (hts _ bw_79) (hts _ bw_80) rfl (by decide +kernel) ⟨Nat.le_of_ble_eq_true rfl, Nat.le_of_ble_eq_true rfl⟩) (mp_preS I _) rfl rfl hl.1 rfl (lv_room (Nat.le_of_ble_eq_true rfl)) dD_addThing_63 ⟨Nat.le_of_ble_eq_true rfl, Nat.le_of_ble_eq_true rfl⟩) I (fun N1 H locs hp I => ?_)
    rw [hp] at I
    have I : mp_I D cls5 (tys6 k) s _ s.heap H locs (mp_up M_3 q (.inr (1, [.int (nI x), .int (nI ec), .int (nI n)]))) := I
    have hqq__M_3_n : mp_up M_3 q (.inr (1, [.int (nI x), .int (nI ec), .int (nI n)])) q = some (.inr (1, [.int (nI x), .int (nI ec), .int (nI n)])) := mp_up_s _ _ _
    have h0__M_3_n : mp_up M_3 q (.inr (1, [.int (nI x), .int (nI ec), .int (nI n)])) d = some (.inr (0, [.ref av, .ref ak, .int (nI ec), .ref at_, .int (nI tc), .ref aw, .int (nI wc), .ref as_, .int (nI sc), .ref an, .int (nI nc)])) := (mp_up_n (mp_ne h0__M_3 hqq__M_3 (by simp))).trans h0__M_3
    have hav__M_3_n : mp_up M_3 q (.inr (1, [.int (nI x), .int (nI ec), .int (nI n)])) av = some (.inl (k 1, 4000, .inr (.inl (vin va kd ec (ec + n))))) := (mp_up_n (mp_ne hav__M_3 hqq__M_3 (by simp))).trans hav__M_3
    have hak__M_3_n : mp_up M_3 q (.inr (1, [.int (nI x), .int (nI ec), .int (nI n)])) ak = some (.inl (k 0, 4000, .inl (fun i_ => nI (kd i_)))) := (mp_up_n (mp_ne hak__M_3 hqq__M_3 (by simp))).trans hak__M_3
    have hat__M_3_n : mp_up M_3 q (.inr (1, [.int (nI x), .int (nI ec), .int (nI n)])) at_ = some (.inl (k 2, 300, .inr (.inr (.inr (.inr qt))))) := (mp_up_n (mp_ne hat__M_3 hqq__M_3 (by simp))).trans hat__M_3
    have haw__M_3_n : mp_up M_3 q (.inr (1, [.int (nI x), .int (nI ec), .int (nI n)])) aw = some (.inl (k 0, 12, .inl (fun i_ => nI (wt i_)))) := (mp_up_n (mp_ne haw__M_3 hqq__M_3 (by simp))).trans haw__M_3
    have has__M_3_n : mp_up M_3 q (.inr (1, [.int (nI x), .int (nI ec), .int (nI n)])) as_ = some (.inl (k 3, 100, .inr (.inr (.inr (.inr qs))))) := (mp_up_n (mp_ne has__M_3 hqq__M_3 (by simp))).trans has__M_3
    have han__M_3_n : mp_up M_3 q (.inr (1, [.int (nI x), .int (nI ec), .int (nI n)])) an = some (.inl (k 4, 20, .inr (.inr (.inr (.inr qn))))) := (mp_up_n (mp_ne han__M_3 hqq__M_3 (by simp))).trans han__M_3
    generalize eM_6 : mp_up M_3 q (.inr (1, [.int (nI x), .int (nI ec), .int (nI n)])) = M_5 at I h0__M_3_n hav__M_3_n hak__M_3_n hat__M_3_n haw__M_3_n has__M_3_n han__M_3_n hqq__M_3_n
    have h0__M_5 := h0__M_3_n
    have hav__M_5 := hav__M_3_n
    have hak__M_5 := hak__M_3_n
    have hat__M_5 := hat__M_3_n
    have haw__M_5 := haw__M_3_n
    have has__M_5 := has__M_3_n
    have han__M_5 := han__M_3_n
    have hqq__M_5 := hqq__M_3_n
    clear h0__M_3_n hav__M_3_n hak__M_3_n hat__M_3_n haw__M_3_n has__M_3_n han__M_3_n hqq__M_3_n
    have hD := hD.fresh q (.inr (1, [.int (nI x), .int (nI ec), .int (nI n)])) hq_2
    rw [← mp_upup Mv q (.inr (1, [.int 0, .int 0, .int 0])) (.inr (1, [.int (nI x), .int (nI ec), .int (nI n)])), eM_4, eM_6] at hD
    refine mp_aast (r := (RT, FT, 3)) hx hb I 2 1 hat__M_5 rfl hqq__M_5 rfl tc rfl (by omega) (by decide) dD_addThing_66 (fun H locs I => ?_)
    have I : mp_I D cls5 (tys6 k) s _ s.heap H locs (mp_up M_5 at_ (.inl (k 2, 300, .inr (.inr (.inr (.inr (va_up qt tc (some q)))))))) := I
    have hat__M_5_n : mp_up M_5 at_ (.inl (k 2, 300, .inr (.inr (.inr (.inr (va_up qt tc (some q))))))) at_ = some (.inl (k 2, 300, .inr (.inr (.inr (.inr (va_up qt tc (some q))))))) := mp_up_s _ _ _
    have h0__M_5_n : mp_up M_5 at_ (.inl (k 2, 300, .inr (.inr (.inr (.inr (va_up qt tc (some q))))))) d = some (.inr (0, [.ref av, .ref ak, .int (nI ec), .ref at_, .int (nI tc), .ref aw, .int (nI wc), .ref as_, .int (nI sc), .ref an, .int (nI nc)])) := (mp_up_n (mp_ne h0__M_5 hat__M_5 (by simp))).trans h0__M_5
    have hav__M_5_n : mp_up M_5 at_ (.inl (k 2, 300, .inr (.inr (.inr (.inr (va_up qt tc (some q))))))) av = some (.inl (k 1, 4000, .inr (.inl (vin va kd ec (ec + n))))) := (mp_up_n (mp_ne hav__M_5 hat__M_5 (by simp))).trans hav__M_5
    have hak__M_5_n : mp_up M_5 at_ (.inl (k 2, 300, .inr (.inr (.inr (.inr (va_up qt tc (some q))))))) ak = some (.inl (k 0, 4000, .inl (fun i_ => nI (kd i_)))) := (mp_up_n (mp_ne hak__M_5 hat__M_5 (by simp))).trans hak__M_5
    have haw__M_5_n : mp_up M_5 at_ (.inl (k 2, 300, .inr (.inr (.inr (.inr (va_up qt tc (some q))))))) aw = some (.inl (k 0, 12, .inl (fun i_ => nI (wt i_)))) := (mp_up_n (mp_ne haw__M_5 hat__M_5 (by simp))).trans haw__M_5
    have has__M_5_n : mp_up M_5 at_ (.inl (k 2, 300, .inr (.inr (.inr (.inr (va_up qt tc (some q))))))) as_ = some (.inl (k 3, 100, .inr (.inr (.inr (.inr qs))))) := (mp_up_n (mp_ne has__M_5 hat__M_5 (by simp))).trans has__M_5
    have han__M_5_n : mp_up M_5 at_ (.inl (k 2, 300, .inr (.inr (.inr (.inr (va_up qt tc (some q))))))) an = some (.inl (k 4, 20, .inr (.inr (.inr (.inr qn))))) := (mp_up_n (mp_ne han__M_5 hat__M_5 (by simp))).trans han__M_5
    have hqq__M_5_n : mp_up M_5 at_ (.inl (k 2, 300, .inr (.inr (.inr (.inr (va_up qt tc (some q))))))) q = some (.inr (1, [.int (nI x), .int (nI ec), .int (nI n)])) := (mp_up_n (mp_ne hqq__M_5 hat__M_5 (by simp))).trans hqq__M_5
    generalize eM_8 : mp_up M_5 at_ (.inl (k 2, 300, .inr (.inr (.inr (.inr (va_up qt tc (some q))))))) = M_7 at I h0__M_5_n hav__M_5_n hak__M_5_n hat__M_5_n haw__M_5_n has__M_5_n han__M_5_n hqq__M_5_n
    have h0__M_7 := h0__M_5_n
    have hav__M_7 := hav__M_5_n
    have hak__M_7 := hak__M_5_n
    have hat__M_7 := hat__M_5_n
    have haw__M_7 := haw__M_5_n
    have has__M_7 := has__M_5_n
    have han__M_7 := han__M_5_n
    have hqq__M_7 := hqq__M_5_n
    clear h0__M_5_n hav__M_5_n hak__M_5_n hat__M_5_n haw__M_5_n has__M_5_n han__M_5_n hqq__M_5_n
    have hD := hD.setT (some q)
    rw [eM_8] at hD
    refine lv_aload_n hx hb dD_addThing_67 rfl (lv_at hl 1 rfl) ?_
    refine lv_dup hx hb dD_addThing_68 rfl ?_
    refine mp_get (v := .int (nI ec)) hx hb hts inD hown I h0__M_7 rfl 2 (by decide) (hts _ bw_28) (fun _ h9 => h9) rfl dD_addThing_69 ?_
    refine lv_iload_n hx hb dD_addThing_72 rfl (lv_at hl 3 rfl) ?_
    refine zz_iadd hx hb dD_addThing_73 ?_
    refine mp_put (v := .int (nI (ec + n))) (ty := .int) hx hb hts inD tyD okD nmD hown I h0__M_7 rfl 2 (by decide) (hts _ bw_28) (fun _ h9 => h9) rfl (by decide +kernel) rfl rfl (Nat.le_of_ble_eq_true rfl) dD_addThing_74 (fun H locs I => ?_)
    have I : mp_I D cls5 (tys6 k) s _ s.heap H locs (mp_up M_7 d (.inr (0, [.ref av, .ref ak, .int (nI (ec + n)), .ref at_, .int (nI tc), .ref aw, .int (nI wc), .ref as_, .int (nI sc), .ref an, .int (nI nc)]))) := I
    have h0__M_7_n : mp_up M_7 d (.inr (0, [.ref av, .ref ak, .int (nI (ec + n)), .ref at_, .int (nI tc), .ref aw, .int (nI wc), .ref as_, .int (nI sc), .ref an, .int (nI nc)])) d = some (.inr (0, [.ref av, .ref ak, .int (nI (ec + n)), .ref at_, .int (nI tc), .ref aw, .int (nI wc), .ref as_, .int (nI sc), .ref an, .int (nI nc)])) := mp_up_s _ _ _
    have hav__M_7_n : mp_up M_7 d (.inr (0, [.ref av, .ref ak, .int (nI (ec + n)), .ref at_, .int (nI tc), .ref aw, .int (nI wc), .ref as_, .int (nI sc), .ref an, .int (nI nc)])) av = some (.inl (k 1, 4000, .inr (.inl (vin va kd ec (ec + n))))) := (mp_up_n (mp_ne hav__M_7 h0__M_7 (by simp))).trans hav__M_7
    have hak__M_7_n : mp_up M_7 d (.inr (0, [.ref av, .ref ak, .int (nI (ec + n)), .ref at_, .int (nI tc), .ref aw, .int (nI wc), .ref as_, .int (nI sc), .ref an, .int (nI nc)])) ak = some (.inl (k 0, 4000, .inl (fun i_ => nI (kd i_)))) := (mp_up_n (mp_ne hak__M_7 h0__M_7 (by simp))).trans hak__M_7
    have hat__M_7_n : mp_up M_7 d (.inr (0, [.ref av, .ref ak, .int (nI (ec + n)), .ref at_, .int (nI tc), .ref aw, .int (nI wc), .ref as_, .int (nI sc), .ref an, .int (nI nc)])) at_ = some (.inl (k 2, 300, .inr (.inr (.inr (.inr (va_up qt tc (some q))))))) := (mp_up_n (mp_ne hat__M_7 h0__M_7 (by simp))).trans hat__M_7
    have haw__M_7_n : mp_up M_7 d (.inr (0, [.ref av, .ref ak, .int (nI (ec + n)), .ref at_, .int (nI tc), .ref aw, .int (nI wc), .ref as_, .int (nI sc), .ref an, .int (nI nc)])) aw = some (.inl (k 0, 12, .inl (fun i_ => nI (wt i_)))) := (mp_up_n (mp_ne haw__M_7 h0__M_7 (by simp))).trans haw__M_7
    have has__M_7_n : mp_up M_7 d (.inr (0, [.ref av, .ref ak, .int (nI (ec + n)), .ref at_, .int (nI tc), .ref aw, .int (nI wc), .ref as_, .int (nI sc), .ref an, .int (nI nc)])) as_ = some (.inl (k 3, 100, .inr (.inr (.inr (.inr qs))))) := (mp_up_n (mp_ne has__M_7 h0__M_7 (by simp))).trans has__M_7
    have han__M_7_n : mp_up M_7 d (.inr (0, [.ref av, .ref ak, .int (nI (ec + n)), .ref at_, .int (nI tc), .ref aw, .int (nI wc), .ref as_, .int (nI sc), .ref an, .int (nI nc)])) an = some (.inl (k 4, 20, .inr (.inr (.inr (.inr qn))))) := (mp_up_n (mp_ne han__M_7 h0__M_7 (by simp))).trans han__M_7
    have hqq__M_7_n : mp_up M_7 d (.inr (0, [.ref av, .ref ak, .int (nI (ec + n)), .ref at_, .int (nI tc), .ref aw, .int (nI wc), .ref as_, .int (nI sc), .ref an, .int (nI nc)])) q = some (.inr (1, [.int (nI x), .int (nI ec), .int (nI n)])) := (mp_up_n (mp_ne hqq__M_7 h0__M_7 (by simp))).trans hqq__M_7
    generalize eM_10 : mp_up M_7 d (.inr (0, [.ref av, .ref ak, .int (nI (ec + n)), .ref at_, .int (nI tc), .ref aw, .int (nI wc), .ref as_, .int (nI sc), .ref an, .int (nI nc)])) = M_9 at I h0__M_7_n hav__M_7_n hak__M_7_n hat__M_7_n haw__M_7_n has__M_7_n han__M_7_n hqq__M_7_n
    have h0__M_9 := h0__M_7_n
    have hav__M_9 := hav__M_7_n
    have hak__M_9 := hak__M_7_n
    have hat__M_9 := hat__M_7_n
    have haw__M_9 := haw__M_7_n
    have has__M_9 := has__M_7_n
    have han__M_9 := han__M_7_n
    have hqq__M_9 := hqq__M_7_n
    clear h0__M_7_n hav__M_7_n hak__M_7_n hat__M_7_n haw__M_7_n has__M_7_n han__M_7_n hqq__M_7_n
    have hD := hD.cntE (ec + n)
    rw [eM_10] at hD
    refine lv_aload_n hx hb dD_addThing_77 rfl (lv_at hl 1 rfl) ?_
    refine lv_dup hx hb dD_addThing_78 rfl ?_
    refine mp_get (v := .int (nI tc)) hx hb hts inD hown I h0__M_9 rfl 4 (by decide) (hts _ bw_30) (fun _ h9 => h9) rfl dD_addThing_79 ?_
    refine lv_iconst (v := nI 1) hx hb dD_addThing_82 (by decide) ?_
    refine zz_iadd hx hb dD_addThing_83 ?_
    refine mp_put (v := .int (nI (tc + 1))) (ty := .int) hx hb hts inD tyD okD nmD hown I h0__M_9 rfl 4 (by decide) (hts _ bw_30) (fun _ h9 => h9) rfl (by decide +kernel) rfl rfl (Nat.le_of_ble_eq_true rfl) dD_addThing_84 (fun H locs I => ?_)
    have I : mp_I D cls5 (tys6 k) s _ s.heap H locs (mp_up M_9 d (.inr (0, [.ref av, .ref ak, .int (nI (ec + n)), .ref at_, .int (nI (tc + 1)), .ref aw, .int (nI wc), .ref as_, .int (nI sc), .ref an, .int (nI nc)]))) := I
    have h0__M_9_n : mp_up M_9 d (.inr (0, [.ref av, .ref ak, .int (nI (ec + n)), .ref at_, .int (nI (tc + 1)), .ref aw, .int (nI wc), .ref as_, .int (nI sc), .ref an, .int (nI nc)])) d = some (.inr (0, [.ref av, .ref ak, .int (nI (ec + n)), .ref at_, .int (nI (tc + 1)), .ref aw, .int (nI wc), .ref as_, .int (nI sc), .ref an, .int (nI nc)])) := mp_up_s _ _ _
    have hav__M_9_n : mp_up M_9 d (.inr (0, [.ref av, .ref ak, .int (nI (ec + n)), .ref at_, .int (nI (tc + 1)), .ref aw, .int (nI wc), .ref as_, .int (nI sc), .ref an, .int (nI nc)])) av = some (.inl (k 1, 4000, .inr (.inl (vin va kd ec (ec + n))))) := (mp_up_n (mp_ne hav__M_9 h0__M_9 (by simp))).trans hav__M_9
    have hak__M_9_n : mp_up M_9 d (.inr (0, [.ref av, .ref ak, .int (nI (ec + n)), .ref at_, .int (nI (tc + 1)), .ref aw, .int (nI wc), .ref as_, .int (nI sc), .ref an, .int (nI nc)])) ak = some (.inl (k 0, 4000, .inl (fun i_ => nI (kd i_)))) := (mp_up_n (mp_ne hak__M_9 h0__M_9 (by simp))).trans hak__M_9
    have hat__M_9_n : mp_up M_9 d (.inr (0, [.ref av, .ref ak, .int (nI (ec + n)), .ref at_, .int (nI (tc + 1)), .ref aw, .int (nI wc), .ref as_, .int (nI sc), .ref an, .int (nI nc)])) at_ = some (.inl (k 2, 300, .inr (.inr (.inr (.inr (va_up qt tc (some q))))))) := (mp_up_n (mp_ne hat__M_9 h0__M_9 (by simp))).trans hat__M_9
    have haw__M_9_n : mp_up M_9 d (.inr (0, [.ref av, .ref ak, .int (nI (ec + n)), .ref at_, .int (nI (tc + 1)), .ref aw, .int (nI wc), .ref as_, .int (nI sc), .ref an, .int (nI nc)])) aw = some (.inl (k 0, 12, .inl (fun i_ => nI (wt i_)))) := (mp_up_n (mp_ne haw__M_9 h0__M_9 (by simp))).trans haw__M_9
    have has__M_9_n : mp_up M_9 d (.inr (0, [.ref av, .ref ak, .int (nI (ec + n)), .ref at_, .int (nI (tc + 1)), .ref aw, .int (nI wc), .ref as_, .int (nI sc), .ref an, .int (nI nc)])) as_ = some (.inl (k 3, 100, .inr (.inr (.inr (.inr qs))))) := (mp_up_n (mp_ne has__M_9 h0__M_9 (by simp))).trans has__M_9
    have han__M_9_n : mp_up M_9 d (.inr (0, [.ref av, .ref ak, .int (nI (ec + n)), .ref at_, .int (nI (tc + 1)), .ref aw, .int (nI wc), .ref as_, .int (nI sc), .ref an, .int (nI nc)])) an = some (.inl (k 4, 20, .inr (.inr (.inr (.inr qn))))) := (mp_up_n (mp_ne han__M_9 h0__M_9 (by simp))).trans han__M_9
    have hqq__M_9_n : mp_up M_9 d (.inr (0, [.ref av, .ref ak, .int (nI (ec + n)), .ref at_, .int (nI (tc + 1)), .ref aw, .int (nI wc), .ref as_, .int (nI sc), .ref an, .int (nI nc)])) q = some (.inr (1, [.int (nI x), .int (nI ec), .int (nI n)])) := (mp_up_n (mp_ne hqq__M_9 h0__M_9 (by simp))).trans hqq__M_9
    generalize eM_12 : mp_up M_9 d (.inr (0, [.ref av, .ref ak, .int (nI (ec + n)), .ref at_, .int (nI (tc + 1)), .ref aw, .int (nI wc), .ref as_, .int (nI sc), .ref an, .int (nI nc)])) = M_11 at I h0__M_9_n hav__M_9_n hak__M_9_n hat__M_9_n haw__M_9_n has__M_9_n han__M_9_n hqq__M_9_n
    have h0__M_11 := h0__M_9_n
    have hav__M_11 := hav__M_9_n
    have hak__M_11 := hak__M_9_n
    have hat__M_11 := hat__M_9_n
    have haw__M_11 := haw__M_9_n
    have has__M_11 := has__M_9_n
    have han__M_11 := han__M_9_n
    have hqq__M_11 := hqq__M_9_n
    clear h0__M_9_n hav__M_9_n hak__M_9_n hat__M_9_n haw__M_9_n has__M_9_n han__M_9_n hqq__M_9_n
    have hD := hD.cntT q x ec n (va_up_self _ _ _) hqq__M_9
    rw [eM_12] at hD
    refine lv_aload_n hx hb dD_addThing_87 rfl (lv_at hl 1 rfl) ?_
    refine mp_get (v := .int (nI (tc + 1))) hx hb hts inD hown I h0__M_11 rfl 4 (by decide) (hts _ bw_30) (fun _ h9 => h9) rfl dD_addThing_88 ?_
    refine lv_iconst (v := nI 1) hx hb dD_addThing_91 (by decide) ?_
    refine zz_isub hx hb (by omega) dD_addThing_92 ?_
    exact mp_iret hx hb hr hlocks I (Nat.le_of_ble_eq_true rfl) (Nat.le_of_ble_eq_true rfl) dD_addThing_93 ⟨rfl, q, hD⟩
  · refine lv_aload_n hx hb dD_addThing_15 rfl (lv_at hl 1 rfl) ?_
    refine mp_get (v := .ref av) hx hb hts inD hown I h0__L rfl 0 (by decide) (hts _ bw_26) (fun _ h9 => h9) rfl dD_addThing_16 ?_
    refine lv_iload_n hx hb dD_addThing_19 rfl (lv_at hl 0 rfl) ?_
    refine lv_aload_n hx hb dD_addThing_20 rfl (lv_at hl 1 rfl) ?_
    refine mp_get (v := .ref ak) hx hb hts inD hown I h0__L rfl 1 (by decide) (hts _ bw_27) (fun _ h9 => h9) rfl dD_addThing_21 ?_
    refine lv_iload_n hx hb dD_addThing_24 rfl (lv_at hl 0 rfl) ?_
    refine mp_iald hx hb I 0 hak__L rfl i rfl (by omega) (by decide) (v := nI (kd i)) rfl dD_addThing_25 ?_
    have hki := hkd i (by omega)
    refine lv_bipush (v := nI 7) hx hb dD_addThing_26 (by decide) ?_
    refine zz_icmp_ne (tgt := 37) hx hb (nI_toInt (by first | assumption | omega)) (nI_toInt (by decide)) dD_addThing_28 (by decide) (fun c_13 => ?_) (fun c_13 => ?_)
    · refine lv_lconst (v := 0) hx hb dD_addThing_37 (by decide) ?_
      refine mp_last hx hb I 1 hav__L rfl (x := 0) i rfl (by omega) (by decide) dD_addThing_38 (fun H locs I => ?_)
      rw [mp_upup, vin_s (by omega) (by rw [if_neg (by omega)])] at I
      refine lv_iinc (v := nI (i + 1)) (lv' := [(3, .int (nI (i + 1))), (0, .ref d), (1, .int (nI x)), (2, .int (nI n))]) hx hb dD_addThing_39 hl (k := 0) rfl (nI_add i 1) (by decide) rfl (fun ls hl => ?_)
      refine lv_goto (tgt := 5) hx hb dD_addThing_42 (by decide) ?_
      exact ih_i _ _ _ (by omega) (lv_sub hl [0, 1, 2, 3] rfl) I
    · refine lv_ldc2 (v := (-1)) hx hb hown (hts _ bw_77) dD_addThing_31 ?_
      refine lv_goto (tgt := 38) hx hb dD_addThing_34 (by decide) ?_
      refine mp_last hx hb I 1 hav__L rfl (x := (-1)) i rfl (by omega) (by decide) dD_addThing_38 (fun H locs I => ?_)
      rw [mp_upup, vin_s (by omega) (by rw [if_pos (by omega)])] at I
      refine lv_iinc (v := nI (i + 1)) (lv' := [(3, .int (nI (i + 1))), (0, .ref d), (1, .int (nI x)), (2, .int (nI n))]) hx hb dD_addThing_39 hl (k := 0) rfl (nI_add i 1) (by decide) rfl (fun ls hl => ?_)
      refine lv_goto (tgt := 5) hx hb dD_addThing_42 (by decide) ?_
      exact ih_i _ _ _ (by omega) (lv_sub hl [0, 1, 2, 3] rfl) I
abbrev rm_D_row : Room := { frames := 3, cells := 1, slots := 3, locals := 90 }
set_option maxHeartbeats 4000000 in
set_option maxRecDepth 100000 in
theorem kD_row (l : Launch) (D : va_G) (k : Nat → ClassId) (M : mp_M) {d av ak at_ aw as_ an : Nat} {qt qs qn : Nat → Option Nat} {sa ra : Nat → Nat} {ec tc wc sc nc : Nat} {va : Nat → Int64} {kd wt tk tf tz sk sf sw sl nn : Nat → Nat} {nv : Nat → Nat → Int64} (hD : DkX k M d av ak at_ aw as_ an qt qs qn sa ra ec tc wc sc nc va kd wt tk tf tz sk sf sw sl nn nv) (hO : OkB ec tc wc sc nc tk tf tz sk sf sw sl nn) (hkd : ∀ i, i < ec → kd i ≤ 7) (x y : Int32) : mp_Met l yD_row (Cond.code yD_row cD_row 4 (some .int) :: bw) rm_D_row D cls5 (tys6 k) [.ref d, .int x, .int y] M (va_Qi (fun r M1 => ((tc < 300 ∧ (1 ≤ x.toInt ∧ x.toInt ≤ 7) ∧ 0 ≤ y.toInt ∧ y.toInt ≤ 200 ∧ y.toInt + ec ≤ 4000) ∧ r = nI tc ∧ ∃ xn yn q : Nat, x.toInt = xn ∧ y.toInt = yn ∧ DkX k M1 d av ak at_ aw as_ an (va_up qt tc (some q)) qs qn sa ra (ec + yn) (tc + 1) wc sc nc (vin va (kfl kd ec yn xn) ec (ec + yn)) (kfl kd ec yn xn) wt (nu tk tc xn) (nu tf tc ec) (nu tz tc yn) sk sf sw sl nn nv) ∨ (¬ (tc < 300 ∧ (1 ≤ x.toInt ∧ x.toInt ≤ 7) ∧ 0 ≤ y.toInt ∧ y.toInt ≤ 200 ∧ y.toInt + ec ≤ 4000) ∧ r = -1 ∧ M1 = M))) 1 3 := by
  refine mp_Met.of (by decide) (Nat.le_of_ble_eq_true rfl) ?_
  intro p e s m below meth c hx hb hr hml hown hts hlocks hin ls hl I
  have hl : lv_has ls 4 [(0, .ref d), (1, .int x), (2, .int y)] := hl
  obtain ⟨h0, hav, hak, hat, haw, has, han, hth, hsp, hsn, hij⟩ := id hD
  obtain ⟨b1, b2, b3, b4, b5, bT, bS, bN⟩ := id hO
  refine lv_iload_n hx hb dD_row_0 rfl (lv_at hl 1 rfl) ?_
  refine mp_calli (va_runS (As := [.int x]) (rest := []) ⟨hx, hb, hml, hown, hts⟩ (kD_isKind l D k M x _) (cwS 1 hts (bw_S bw_66 bw_67 bw_1 bw_68) rfl rfl rfl (by decide +kernel) ⟨Nat.le_of_ble_eq_true rfl, Nat.le_of_ble_eq_true rfl⟩) (mp_preS I _) rfl rfl hl.1 rfl (lv_room (Nat.le_of_ble_eq_true rfl)) dD_row_1 ⟨Nat.le_of_ble_eq_true rfl, Nat.le_of_ble_eq_true rfl⟩) I (fun r_1 N_2 H locs hp I => ?_)
  obtain ⟨e_3, hp⟩ := hp
  rw [e_3] at I
  rcases hp with ⟨p1, p2, rfl⟩ | ⟨p1, rfl⟩
  · refine zz_if_eq (tgt := 26) hx hb (nI_toInt (by decide)) dD_row_4 (by decide) (fun c_4 => absurd c_4 (by decide)) (fun _ => ?_)
    refine lv_iload_n hx hb dD_row_7 rfl (lv_at hl 2 rfl) ?_
    refine zz_if_lt (tgt := 26) hx hb rfl dD_row_8 (by decide) (fun c_5 => ?_) (fun c_5 => ?_)
    · refine lv_iconst (v := (-1)) hx hb dD_row_26 (by decide) ?_
      exact mp_iret hx hb hr hlocks I (Nat.le_of_ble_eq_true rfl) (Nat.le_of_ble_eq_true rfl) dD_row_27 (Or.inr ⟨by omega, rfl, rfl⟩)
    · refine lv_iload_n hx hb dD_row_11 rfl (lv_at hl 2 rfl) ?_
      refine lv_sipush (v := nI 200) hx hb dD_row_12 (by decide) ?_
      refine zz_icmp_gt (tgt := 26) hx hb rfl (nI_toInt (by decide)) dD_row_15 (by decide) (fun c_6 => ?_) (fun c_6 => ?_)
      · refine lv_iconst (v := (-1)) hx hb dD_row_26 (by decide) ?_
        exact mp_iret hx hb hr hlocks I (Nat.le_of_ble_eq_true rfl) (Nat.le_of_ble_eq_true rfl) dD_row_27 (Or.inr ⟨by omega, rfl, rfl⟩)
      · refine lv_aload_n hx hb dD_row_18 rfl (lv_at hl 0 rfl) ?_
        refine lv_iload_n hx hb dD_row_19 rfl (lv_at hl 2 rfl) ?_
        refine mp_calli (va_runV (As := [.int y]) (rest := []) ⟨hx, hb, hml, hown, hts⟩ (kD_hasRoomFor l D k M hD hO y _) (cwV 1 hts (bw_V bw_69 bw_71 bs_0 bw_1 bw_72) rfl rfl rfl (by decide +kernel) ⟨Nat.le_of_ble_eq_true rfl, Nat.le_of_ble_eq_true rfl⟩) (mp_preV I h0 rfl _) rfl rfl hl.1 rfl (lv_room (Nat.le_of_ble_eq_true rfl)) dD_row_20 ⟨Nat.le_of_ble_eq_true rfl, Nat.le_of_ble_eq_true rfl⟩) I (fun r_7 N_8 H locs hp I => ?_)
        obtain ⟨e_9, hp⟩ := hp
        rw [e_9] at I
        rcases hp with ⟨p3, rfl⟩ | ⟨p3, rfl⟩
        · refine zz_if_ne (tgt := 28) hx hb (nI_toInt (by decide)) dD_row_23 (by decide) (fun _ => ?_) (fun c_10 => absurd c_10 (by decide))
          obtain ⟨xn, hn_xn, rfl, hz_xn⟩ := i32_nat (x := x) (by omega)
          obtain ⟨yn, hn_yn, rfl, hz_yn⟩ := i32_nat (x := y) (by omega)
          refine lv_iconst (v := nI 0) hx hb dD_row_28 (by decide) ?_
          refine lv_istore_n (lv' := [(3, .int (nI 0)), (0, .ref d), (1, .int (nI xn)), (2, .int (nI yn))]) hx hb dD_row_29 rfl hl (by decide) rfl (fun ls hl => ?_)
          have I := I.to (show M = mp_up M ak (.inl (k 0, 4000, .inl (fun i_ => nI (kfl kd ec 0 xn i_)))) by rw [kfl_0, mp_upself hak])
          refine mp_loop yn 4 (fun i => [(3, .int (nI i)), (0, .ref d), (1, .int (nI xn)), (2, .int (nI yn))]) (fun i => mp_up M ak (.inl (k 0, 4000, .inl (fun i_ => nI (kfl kd ec i xn i_))))) 0 (by omega) (lv_sub hl [0, 1, 2, 3] rfl) I ?_
          intro i H locs ls hi0_i hi_i hl I ih_i
          have hl : lv_has ls 4 [(3, .int (nI i)), (0, .ref d), (1, .int (nI xn)), (2, .int (nI yn))] := hl
          have I : mp_I D cls5 (tys6 k) s _ s.heap H locs (mp_up M ak (.inl (k 0, 4000, .inl (fun i_ => nI (kfl kd ec i xn i_))))) := I
          have h0__L : mp_up M ak (.inl (k 0, 4000, .inl (fun i_ => nI (kfl kd ec i xn i_)))) d = some (.inr (0, [.ref av, .ref ak, .int (nI ec), .ref at_, .int (nI tc), .ref aw, .int (nI wc), .ref as_, .int (nI sc), .ref an, .int (nI nc)])) := (mp_up_n (mp_ne h0 hak (by simp))).trans h0
          have hav__L : mp_up M ak (.inl (k 0, 4000, .inl (fun i_ => nI (kfl kd ec i xn i_)))) av = some (.inl (k 1, 4000, .inr (.inl va))) := (mp_up_n (mp_ne hav hak (by simp))).trans hav
          have hak__L : mp_up M ak (.inl (k 0, 4000, .inl (fun i_ => nI (kfl kd ec i xn i_)))) ak = some (.inl (k 0, 4000, .inl (fun i_ => nI (kfl kd ec i xn i_)))) := mp_up_s _ _ _
          have hat__L : mp_up M ak (.inl (k 0, 4000, .inl (fun i_ => nI (kfl kd ec i xn i_)))) at_ = some (.inl (k 2, 300, .inr (.inr (.inr (.inr qt))))) := (mp_up_n (mp_ne hat hak (by simp))).trans hat
          have haw__L : mp_up M ak (.inl (k 0, 4000, .inl (fun i_ => nI (kfl kd ec i xn i_)))) aw = some (.inl (k 0, 12, .inl (fun i_ => nI (wt i_)))) := (mp_up_n (mp_ne haw hak (by simp))).trans haw
          have has__L : mp_up M ak (.inl (k 0, 4000, .inl (fun i_ => nI (kfl kd ec i xn i_)))) as_ = some (.inl (k 3, 100, .inr (.inr (.inr (.inr qs))))) := (mp_up_n (mp_ne has hak (by simp))).trans has
          have han__L : mp_up M ak (.inl (k 0, 4000, .inl (fun i_ => nI (kfl kd ec i xn i_)))) an = some (.inl (k 4, 20, .inr (.inr (.inr (.inr qn))))) := (mp_up_n (mp_ne han hak (by simp))).trans han
          refine lv_iload_n hx hb dD_row_30 rfl (lv_at hl 0 rfl) ?_
          refine lv_iload_n hx hb dD_row_31 rfl (lv_at hl 3 rfl) ?_
          refine zz_icmp_ge (tgt := 53) hx hb (nI_toInt (by first | assumption | omega)) hz_yn dD_row_32 (by decide) (fun c_11 => ?_) (fun c_11 => ?_)
          · obtain rfl : i = yn := by omega
            have hD := hD.setK (kfl kd ec i xn)
            generalize eMv : mp_up M ak (.inl (k 0, 4000, .inl (fun i_ => nI (kfl kd ec i xn i_)))) = Mv at I hD
            clear h0__L hav__L hak__L hat__L haw__L has__L han__L
            obtain ⟨h0, hav, hak, hat, haw, has, han, hth, hsp, hsn, hij⟩ := id hD
            refine lv_aload_n hx hb dD_row_53 rfl (lv_at hl 1 rfl) ?_
            refine lv_iload_n hx hb dD_row_54 rfl (lv_at hl 2 rfl) ?_
            refine lv_iload_n hx hb dD_row_55 rfl (lv_at hl 3 rfl) ?_
            refine mp_calli (va_runV (As := [.int (nI xn), .int (nI i)]) (rest := []) ⟨hx, hb, hml, hown, hts⟩ (kD_addThing l D k Mv hD hO xn i (by omega) (by omega) (by omega) (fun j hj => by unfold kfl; split; omega; exact hkd j (by omega)) _) (cwV 2 hts (bw_V bw_73 bw_75 bs_1 bw_1 bw_76) rfl rfl rfl (by decide +kernel) ⟨Nat.le_of_ble_eq_true rfl, Nat.le_of_ble_eq_true rfl⟩) (mp_preV I h0 rfl _) rfl rfl hl.1 rfl (lv_room (Nat.le_of_ble_eq_true rfl)) dD_row_56 ⟨Nat.le_of_ble_eq_true rfl, Nat.le_of_ble_eq_true rfl⟩) I (fun r1 N1 H locs hp I => ?_)
            obtain ⟨rfl, q, hD⟩ := hp
            exact mp_iret hx hb hr hlocks I (Nat.le_of_ble_eq_true rfl) (Nat.le_of_ble_eq_true rfl) dD_row_59 (Or.inl ⟨by omega, rfl, xn, i, q, hz_xn, hz_yn, hD⟩)
          · refine lv_aload_n hx hb dD_row_35 rfl (lv_at hl 1 rfl) ?_
            refine mp_get (v := .ref ak) hx hb hts inD hown I h0__L rfl 1 (by decide) (hts _ bw_27) (fun _ h9 => h9) rfl dD_row_36 ?_
            refine lv_aload_n hx hb dD_row_39 rfl (lv_at hl 1 rfl) ?_
            refine mp_get (v := .int (nI ec)) hx hb hts inD hown I h0__L rfl 2 (by decide) (hts _ bw_28) (fun _ h9 => h9) rfl dD_row_40 ?_
            refine lv_iload_n hx hb dD_row_43 rfl (lv_at hl 0 rfl) ?_
            refine zz_iadd hx hb dD_row_44 ?_
            refine lv_iload_n hx hb dD_row_45 rfl (lv_at hl 2 rfl) ?_
            refine mp_iast hx hb I 0 hak__L rfl (x := nI xn) (ec + i) rfl (by omega) (by decide) dD_row_46 (fun H locs I => ?_)
            rw [mp_upup, upd_nI, kfl_s] at I
            refine lv_iinc (v := nI (i + 1)) (lv' := [(3, .int (nI (i + 1))), (0, .ref d), (1, .int (nI xn)), (2, .int (nI yn))]) hx hb dD_row_47 hl (k := 0) rfl (nI_add i 1) (by decide) rfl (fun ls hl => ?_)
            refine lv_goto (tgt := 30) hx hb dD_row_50 (by decide) ?_
            exact ih_i _ _ _ (by omega) (lv_sub hl [0, 1, 2, 3] rfl) I
        · refine zz_if_ne (tgt := 28) hx hb (nI_toInt (by decide)) dD_row_23 (by decide) (fun c_12 => absurd c_12 (by decide)) (fun _ => ?_)
          refine lv_iconst (v := (-1)) hx hb dD_row_26 (by decide) ?_
          exact mp_iret hx hb hr hlocks I (Nat.le_of_ble_eq_true rfl) (Nat.le_of_ble_eq_true rfl) dD_row_27 (Or.inr ⟨by omega, rfl, rfl⟩)
  · refine zz_if_eq (tgt := 26) hx hb (nI_toInt (by decide)) dD_row_4 (by decide) (fun _ => ?_) (fun c_13 => absurd c_13 (by decide))
    refine lv_iconst (v := (-1)) hx hb dD_row_26 (by decide) ?_
    exact mp_iret hx hb hr hlocks I (Nat.le_of_ble_eq_true rfl) (Nat.le_of_ble_eq_true rfl) dD_row_27 (Or.inr ⟨by omega, rfl, rfl⟩)
