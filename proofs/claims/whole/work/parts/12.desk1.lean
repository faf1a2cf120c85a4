theorem cpy_nI (f g : Nat → Nat) (a b n : Nat) : va_cpy (fun i => nI (f i)) (fun i => nI (g i)) a b n = fun i => nI (va_cpy f g a b n i) := by
  funext i
  unfold va_cpy
  split <;> rfl
abbrev rm_D_hasRoomFor : Room := { frames := 0, cells := 0, slots := 0, locals := 0 }
set_option maxHeartbeats 4000000 in
set_option maxRecDepth 100000 in
theorem kD_hasRoomFor (l : Launch) (D : va_G) (k : Nat → ClassId) (M : mp_M) {d av ak at_ aw as_ an : Nat} {qt qs qn : Nat → Option Nat} {sa ra : Nat → Nat} {ec tc wc sc nc : Nat} {va : Nat → Int64} {kd wt tk tf tz sk sf sw sl nn : Nat → Nat} {nv : Nat → Nat → Int64} (hD : DkX k M d av ak at_ aw as_ an qt qs qn sa ra ec tc wc sc nc va kd wt tk tf tz sk sf sw sl nn nv) (hO : OkB ec tc wc sc nc tk tf tz sk sf sw sl nn) (x : Int32) : mp_Met l yD_hasRoomFor (Cond.code yD_hasRoomFor cD_hasRoomFor 2 (some .boolean) :: bw) rm_D_hasRoomFor D cls5 (tys6 k) [.ref d, .int x] M (va_Qi (fun r M1 => M1 = M ∧ (((tc < 300 ∧ x.toInt + ec ≤ 4000) ∧ r = nI 1) ∨ (¬ (tc < 300 ∧ x.toInt + ec ≤ 4000) ∧ r = nI 0)))) 0 0 := by
  refine mp_Met.of (by decide) (Nat.le_of_ble_eq_true rfl) ?_
  intro p e s m below meth c hx hb hr hml hown hts hlocks hin ls hl I
  have hl : lv_has ls 2 [(0, .ref d), (1, .int x)] := hl
  obtain ⟨h0, hav, hak, hat, haw, has, han, hth, hsp, hsn, hij⟩ := id hD
  obtain ⟨b1, b2, b3, b4, b5, bT, bS, bN⟩ := id hO
  refine lv_aload_n hx hb dD_hasRoomFor_0 rfl (lv_at hl 0 rfl) ?_
  refine mp_get (v := .int (nI tc)) hx hb hts inD hown I h0 rfl 4 (by decide) (hts _ bw_30) (fun _ h9 => h9) rfl dD_hasRoomFor_1 ?_
  refine lv_sipush (v := nI 300) hx hb dD_hasRoomFor_4 (by decide) ?_
  refine zz_icmp_ge (tgt := 26) hx hb (nI_toInt (by first | assumption | omega)) (nI_toInt (by decide)) dD_hasRoomFor_7 (by decide) (fun c_1 => ?_) (fun c_1 => ?_)
  · refine lv_iconst (v := nI 0) hx hb dD_hasRoomFor_26 (by decide) ?_
    exact mp_zret hx hb hr hlocks I rfl (Nat.le_of_ble_eq_true rfl) (Nat.le_of_ble_eq_true rfl) dD_hasRoomFor_27 ⟨rfl, Or.inr ⟨by omega, rfl⟩⟩
  · refine lv_iload_n hx hb dD_hasRoomFor_10 rfl (lv_at hl 1 rfl) ?_
    refine lv_sipush (v := nI 4000) hx hb dD_hasRoomFor_11 (by decide) ?_
    refine lv_aload_n hx hb dD_hasRoomFor_14 rfl (lv_at hl 0 rfl) ?_
    refine mp_get (v := .int (nI ec)) hx hb hts inD hown I h0 rfl 2 (by decide) (hts _ bw_28) (fun _ h9 => h9) rfl dD_hasRoomFor_15 ?_
    refine zz_isub hx hb (by omega) dD_hasRoomFor_18 ?_
    refine zz_icmp_gt (tgt := 26) hx hb rfl (nI_toInt (by first | assumption | omega)) dD_hasRoomFor_19 (by decide) (fun c_2 => ?_) (fun c_2 => ?_)
    · refine lv_iconst (v := nI 0) hx hb dD_hasRoomFor_26 (by decide) ?_
      exact mp_zret hx hb hr hlocks I rfl (Nat.le_of_ble_eq_true rfl) (Nat.le_of_ble_eq_true rfl) dD_hasRoomFor_27 ⟨rfl, Or.inr ⟨by omega, rfl⟩⟩
    · refine lv_iconst (v := nI 1) hx hb dD_hasRoomFor_22 (by decide) ?_
      refine lv_goto (tgt := 27) hx hb dD_hasRoomFor_23 (by decide) ?_
      exact mp_zret hx hb hr hlocks I rfl (Nat.le_of_ble_eq_true rfl) (Nat.le_of_ble_eq_true rfl) dD_hasRoomFor_27 ⟨rfl, Or.inl ⟨by omega, rfl⟩⟩
abbrev rm_D_findThing : Room := { frames := 0, cells := 0, slots := 0, locals := 0 }
set_option maxHeartbeats 4000000 in
set_option maxRecDepth 100000 in
theorem kD_findThing (l : Launch) (D : va_G) (k : Nat → ClassId) (M : mp_M) {d av ak at_ aw as_ an : Nat} {qt qs qn : Nat → Option Nat} {sa ra : Nat → Nat} {ec tc wc sc nc : Nat} {va : Nat → Int64} {kd wt tk tf tz sk sf sw sl nn : Nat → Nat} {nv : Nat → Nat → Int64} (hD : DkX k M d av ak at_ aw as_ an qt qs qn sa ra ec tc wc sc nc va kd wt tk tf tz sk sf sw sl nn nv) (hO : OkB ec tc wc sc nc tk tf tz sk sf sw sl nn) (x : Int32) : mp_Met l yD_findThing (Cond.code yD_findThing cD_findThing 2 (some (.object "PlaceDesk$Thing")) :: bw) rm_D_findThing D cls5 (tys6 k) [.ref d, .int x] M (va_Qq (fun r M1 => M1 = M ∧ ((∃ (i a : Nat), i < tc ∧ x.toInt = i ∧ r = some a ∧ M a = some (.inr (1, [.int (nI (tk i)), .int (nI (tf i)), .int (nI (tz i))]))) ∨ (¬ (0 ≤ x.toInt ∧ x.toInt < tc) ∧ r = none)))) 0 0 := by
  refine mp_Met.of (by decide) (Nat.le_of_ble_eq_true rfl) ?_
  intro p e s m below meth c hx hb hr hml hown hts hlocks hin ls hl I
  have hl : lv_has ls 2 [(0, .ref d), (1, .int x)] := hl
  obtain ⟨h0, hav, hak, hat, haw, has, han, hth, hsp, hsn, hij⟩ := id hD
  obtain ⟨b1, b2, b3, b4, b5, bT, bS, bN⟩ := id hO
  refine lv_iload_n hx hb dD_findThing_0 rfl (lv_at hl 1 rfl) ?_
  refine zz_if_lt (tgt := 21) hx hb rfl dD_findThing_1 (by decide) (fun c_1 => ?_) (fun c_1 => ?_)
  · refine lv_null hx hb dD_findThing_21 ?_
    exact mp_qret (r := none) hx hb hr hlocks I rfl (Nat.le_of_ble_eq_true rfl) (Nat.le_of_ble_eq_true rfl) dD_findThing_22 ⟨rfl, Or.inr ⟨by omega, rfl⟩⟩
  · refine lv_iload_n hx hb dD_findThing_4 rfl (lv_at hl 1 rfl) ?_
    refine lv_aload_n hx hb dD_findThing_5 rfl (lv_at hl 0 rfl) ?_
    refine mp_get (v := .int (nI tc)) hx hb hts inD hown I h0 rfl 4 (by decide) (hts _ bw_30) (fun _ h9 => h9) rfl dD_findThing_6 ?_
    refine zz_icmp_ge (tgt := 21) hx hb rfl (nI_toInt (by first | assumption | omega)) dD_findThing_9 (by decide) (fun c_2 => ?_) (fun c_2 => ?_)
    · refine lv_null hx hb dD_findThing_21 ?_
      exact mp_qret (r := none) hx hb hr hlocks I rfl (Nat.le_of_ble_eq_true rfl) (Nat.le_of_ble_eq_true rfl) dD_findThing_22 ⟨rfl, Or.inr ⟨by omega, rfl⟩⟩
    · obtain ⟨xn, hn_xn, rfl, hz_xn⟩ := i32_nat (x := x) (by omega)
      obtain ⟨a, hqa, hMa⟩ := hth xn (by omega)
      refine lv_aload_n hx hb dD_findThing_12 rfl (lv_at hl 0 rfl) ?_
      refine mp_get (v := .ref at_) hx hb hts inD hown I h0 rfl 3 (by decide) (hts _ bw_29) (fun _ h9 => h9) rfl dD_findThing_13 ?_
      refine lv_iload_n hx hb dD_findThing_16 rfl (lv_at hl 1 rfl) ?_
      refine mp_aald hx hb I 2 hat rfl xn rfl (by omega) (by decide) (v := .ref a) (by rw [hqa]; rfl) dD_findThing_17 ?_
      refine lv_goto (tgt := 22) hx hb dD_findThing_18 (by decide) ?_
      exact mp_qret (r := (some a)) hx hb hr hlocks I rfl (Nat.le_of_ble_eq_true rfl) (Nat.le_of_ble_eq_true rfl) dD_findThing_22 ⟨rfl, Or.inl ⟨xn, a, by omega, hz_xn, rfl, hMa⟩⟩
abbrev rm_D_findSpot : Room := { frames := 0, cells := 0, slots := 0, locals := 0 }
set_option maxHeartbeats 4000000 in
set_option maxRecDepth 100000 in
theorem kD_findSpot (l : Launch) (D : va_G) (k : Nat → ClassId) (M : mp_M) {d av ak at_ aw as_ an : Nat} {qt qs qn : Nat → Option Nat} {sa ra : Nat → Nat} {ec tc wc sc nc : Nat} {va : Nat → Int64} {kd wt tk tf tz sk sf sw sl nn : Nat → Nat} {nv : Nat → Nat → Int64} (hD : DkX k M d av ak at_ aw as_ an qt qs qn sa ra ec tc wc sc nc va kd wt tk tf tz sk sf sw sl nn nv) (hO : OkB ec tc wc sc nc tk tf tz sk sf sw sl nn) (x : Int32) : mp_Met l yD_findSpot (Cond.code yD_findSpot cD_findSpot 2 (some (.object "PlaceDesk$Spot")) :: bw) rm_D_findSpot D cls5 (tys6 k) [.ref d, .int x] M (va_Qq (fun r M1 => M1 = M ∧ ((∃ (i a : Nat), i < sc ∧ x.toInt = i ∧ r = some a ∧ M a = some (.inr (2, [.int (nI (sk i)), .int (nI (sf i)), .int (nI (sw i)), .int (nI (sl i))]))) ∨ (¬ (0 ≤ x.toInt ∧ x.toInt < sc) ∧ r = none)))) 0 0 := by
  refine mp_Met.of (by decide) (Nat.le_of_ble_eq_true rfl) ?_
  intro p e s m below meth c hx hb hr hml hown hts hlocks hin ls hl I
  have hl : lv_has ls 2 [(0, .ref d), (1, .int x)] := hl
  obtain ⟨h0, hav, hak, hat, haw, has, han, hth, hsp, hsn, hij⟩ := id hD
  obtain ⟨b1, b2, b3, b4, b5, bT, bS, bN⟩ := id hO
  refine lv_iload_n hx hb dD_findSpot_0 rfl (lv_at hl 1 rfl) ?_
  refine zz_if_lt (tgt := 21) hx hb rfl dD_findSpot_1 (by decide) (fun c_1 => ?_) (fun c_1 => ?_)
  · refine lv_null hx hb dD_findSpot_21 ?_
    exact mp_qret (r := none) hx hb hr hlocks I rfl (Nat.le_of_ble_eq_true rfl) (Nat.le_of_ble_eq_true rfl) dD_findSpot_22 ⟨rfl, Or.inr ⟨by omega, rfl⟩⟩
  · refine lv_iload_n hx hb dD_findSpot_4 rfl (lv_at hl 1 rfl) ?_
    refine lv_aload_n hx hb dD_findSpot_5 rfl (lv_at hl 0 rfl) ?_
    refine mp_get (v := .int (nI sc)) hx hb hts inD hown I h0 rfl 8 (by decide) (hts _ bw_34) (fun _ h9 => h9) rfl dD_findSpot_6 ?_
    refine zz_icmp_ge (tgt := 21) hx hb rfl (nI_toInt (by first | assumption | omega)) dD_findSpot_9 (by decide) (fun c_2 => ?_) (fun c_2 => ?_)
    · refine lv_null hx hb dD_findSpot_21 ?_
      exact mp_qret (r := none) hx hb hr hlocks I rfl (Nat.le_of_ble_eq_true rfl) (Nat.le_of_ble_eq_true rfl) dD_findSpot_22 ⟨rfl, Or.inr ⟨by omega, rfl⟩⟩
    · obtain ⟨xn, hn_xn, rfl, hz_xn⟩ := i32_nat (x := x) (by omega)
      obtain ⟨a, hqa, hMa⟩ := hsp xn (by omega)
      refine lv_aload_n hx hb dD_findSpot_12 rfl (lv_at hl 0 rfl) ?_
      refine mp_get (v := .ref as_) hx hb hts inD hown I h0 rfl 7 (by decide) (hts _ bw_33) (fun _ h9 => h9) rfl dD_findSpot_13 ?_
      refine lv_iload_n hx hb dD_findSpot_16 rfl (lv_at hl 1 rfl) ?_
      refine mp_aald hx hb I 3 has rfl xn rfl (by omega) (by decide) (v := .ref a) (by rw [hqa]; rfl) dD_findSpot_17 ?_
      refine lv_goto (tgt := 22) hx hb dD_findSpot_18 (by decide) ?_
      exact mp_qret (r := (some a)) hx hb hr hlocks I rfl (Nat.le_of_ble_eq_true rfl) (Nat.le_of_ble_eq_true rfl) dD_findSpot_22 ⟨rfl, Or.inl ⟨xn, a, by omega, hz_xn, rfl, hMa⟩⟩
abbrev rm_D_findSnapshot : Room := { frames := 0, cells := 0, slots := 0, locals := 0 }
set_option maxHeartbeats 4000000 in
set_option maxRecDepth 100000 in
theorem kD_findSnapshot (l : Launch) (D : va_G) (k : Nat → ClassId) (M : mp_M) {d av ak at_ aw as_ an : Nat} {qt qs qn : Nat → Option Nat} {sa ra : Nat → Nat} {ec tc wc sc nc : Nat} {va : Nat → Int64} {kd wt tk tf tz sk sf sw sl nn : Nat → Nat} {nv : Nat → Nat → Int64} (hD : DkX k M d av ak at_ aw as_ an qt qs qn sa ra ec tc wc sc nc va kd wt tk tf tz sk sf sw sl nn nv) (hO : OkB ec tc wc sc nc tk tf tz sk sf sw sl nn) (x : Int32) : mp_Met l yD_findSnapshot (Cond.code yD_findSnapshot cD_findSnapshot 2 (some (.object "PlaceDesk$Snapshot")) :: bw) rm_D_findSnapshot D cls5 (tys6 k) [.ref d, .int x] M (va_Qq (fun r M1 => M1 = M ∧ ((∃ (i a : Nat), i < nc ∧ x.toInt = i ∧ r = some a ∧ a = sa i ∧ ra i ≠ av ∧ ∃ (g : Nat → Int64), M (sa i) = some (.inr (3, [.ref (ra i), .int (nI (nn i))])) ∧ M (ra i) = some (.inl (k 1, 4000, .inr (.inl g))) ∧ nn i ≤ 4000 ∧ ∀ j, j < nn i → g j = nv i j) ∨ (¬ (0 ≤ x.toInt ∧ x.toInt < nc) ∧ r = none)))) 0 0 := by
  refine mp_Met.of (by decide) (Nat.le_of_ble_eq_true rfl) ?_
  intro p e s m below meth c hx hb hr hml hown hts hlocks hin ls hl I
  have hl : lv_has ls 2 [(0, .ref d), (1, .int x)] := hl
  obtain ⟨h0, hav, hak, hat, haw, has, han, hth, hsp, hsn, hij⟩ := id hD
  obtain ⟨b1, b2, b3, b4, b5, bT, bS, bN⟩ := id hO
  refine lv_iload_n hx hb dD_findSnapshot_0 rfl (lv_at hl 1 rfl) ?_
  refine zz_if_lt (tgt := 21) hx hb rfl dD_findSnapshot_1 (by decide) (fun c_1 => ?_) (fun c_1 => ?_)
  · refine lv_null hx hb dD_findSnapshot_21 ?_
    exact mp_qret (r := none) hx hb hr hlocks I rfl (Nat.le_of_ble_eq_true rfl) (Nat.le_of_ble_eq_true rfl) dD_findSnapshot_22 ⟨rfl, Or.inr ⟨by omega, rfl⟩⟩
  · refine lv_iload_n hx hb dD_findSnapshot_4 rfl (lv_at hl 1 rfl) ?_
    refine lv_aload_n hx hb dD_findSnapshot_5 rfl (lv_at hl 0 rfl) ?_
    refine mp_get (v := .int (nI nc)) hx hb hts inD hown I h0 rfl 10 (by decide) (hts _ bw_36) (fun _ h9 => h9) rfl dD_findSnapshot_6 ?_
    refine zz_icmp_ge (tgt := 21) hx hb rfl (nI_toInt (by first | assumption | omega)) dD_findSnapshot_9 (by decide) (fun c_2 => ?_) (fun c_2 => ?_)
    · refine lv_null hx hb dD_findSnapshot_21 ?_
      exact mp_qret (r := none) hx hb hr hlocks I rfl (Nat.le_of_ble_eq_true rfl) (Nat.le_of_ble_eq_true rfl) dD_findSnapshot_22 ⟨rfl, Or.inr ⟨by omega, rfl⟩⟩
    · obtain ⟨xn, hn_xn, rfl, hz_xn⟩ := i32_nat (x := x) (by omega)
      have hsx := hsn xn (by omega)
      obtain ⟨hqa, hMa⟩ : ∃ (hqa : qn xn = some (sa xn)), ra xn ≠ av ∧ ∃ (g : Nat → Int64), M (sa xn) = some (.inr (3, [.ref (ra xn), .int (nI (nn xn))])) ∧ M (ra xn) = some (.inl (k 1, 4000, .inr (.inl g))) ∧ nn xn ≤ 4000 ∧ ∀ j, j < nn xn → g j = nv xn j := by
        rcases hsx with ⟨_, h9⟩ | ⟨h1, h2, cn, g, h3, h4, h5, h6⟩
        · exact absurd h9 (by omega)
        · obtain ⟨rfl, h7⟩ := h6 (by omega)
          exact ⟨h1, h2, g, h3, h4, h5, h7⟩
      refine lv_aload_n hx hb dD_findSnapshot_12 rfl (lv_at hl 0 rfl) ?_
      refine mp_get (v := .ref an) hx hb hts inD hown I h0 rfl 9 (by decide) (hts _ bw_35) (fun _ h9 => h9) rfl dD_findSnapshot_13 ?_
      refine lv_iload_n hx hb dD_findSnapshot_16 rfl (lv_at hl 1 rfl) ?_
      refine mp_aald hx hb I 4 han rfl xn rfl (by omega) (by decide) (v := .ref (sa xn)) (by rw [hqa]; rfl) dD_findSnapshot_17 ?_
      refine lv_goto (tgt := 22) hx hb dD_findSnapshot_18 (by decide) ?_
      exact mp_qret (r := (some (sa xn))) hx hb hr hlocks I rfl (Nat.le_of_ble_eq_true rfl) (Nat.le_of_ble_eq_true rfl) dD_findSnapshot_22 ⟨rfl, Or.inl ⟨xn, sa xn, by omega, hz_xn, rfl, rfl, hMa⟩⟩
/-- a value of a kind -/
def isv (tc x : Nat) (v : Int64) : Prop := if x = 7 then -1 ≤ v.toInt ∧ v.toInt < tc else lb x v = v
abbrev rm_D_isValue : Room := { frames := 1, cells := 0, slots := 0, locals := 22 }
set_option maxHeartbeats 4000000 in
set_option maxRecDepth 100000 in
theorem kD_isValue (l : Launch) (D : va_G) (k : Nat → ClassId) (M : mp_M) {d av ak at_ aw as_ an : Nat} {qt qs qn : Nat → Option Nat} {sa ra : Nat → Nat} {ec tc wc sc nc : Nat} {va : Nat → Int64} {kd wt tk tf tz sk sf sw sl nn : Nat → Nat} {nv : Nat → Nat → Int64} (hD : DkX k M d av ak at_ aw as_ an qt qs qn sa ra ec tc wc sc nc va kd wt tk tf tz sk sf sw sl nn nv) (hO : OkB ec tc wc sc nc tk tf tz sk sf sw sl nn) (x : Nat) (v : Int64) (hkx : x ≤ 7) : mp_Met l yD_isValue (Cond.code yD_isValue cD_isValue 4 (some .boolean) :: bw) rm_D_isValue D cls5 (tys6 k) [.ref d, .int (nI x), .long v] M (va_Qi (fun r M1 => M1 = M ∧ ((isv tc x v ∧ r = nI 1) ∨ (¬ isv tc x v ∧ r = nI 0)))) 0 0 := by
  refine mp_Met.of (by decide) (Nat.le_of_ble_eq_true rfl) ?_
  intro p e s m below meth c hx hb hr hml hown hts hlocks hin ls hl I
  have hl : lv_has ls 4 [(0, .ref d), (1, .int (nI x)), (2, .long v)] := hl
  obtain ⟨h0, hav, hak, hat, haw, has, han, hth, hsp, hsn, hij⟩ := id hD
  obtain ⟨b1, b2, b3, b4, b5, bT, bS, bN⟩ := id hO
  refine lv_iload_n hx hb dD_isValue_0 rfl (lv_at hl 1 rfl) ?_
  refine lv_bipush (v := nI 7) hx hb dD_isValue_1 (by decide) ?_
  refine zz_icmp_ne (tgt := 30) hx hb (nI_toInt (by first | assumption | omega)) (nI_toInt (by decide)) dD_isValue_3 (by decide) (fun c_1 => ?_) (fun c_1 => ?_)
  · refine lv_iload_n hx hb dD_isValue_30 rfl (lv_at hl 1 rfl) ?_
    refine lv_lload_n hx hb dD_isValue_31 rfl (lv_at hl 2 rfl) ?_
    refine mp_calll (va_runS (As := [.int (nI x), .long v]) (rest := []) ⟨hx, hb, hml, hown, hts⟩ (kD_lowestBits l D k M x v hkx _) (cwS 2 hts (bw_S bw_298 bw_299 bw_1 bw_300) rfl rfl rfl (by decide +kernel) ⟨Nat.le_of_ble_eq_true rfl, Nat.le_of_ble_eq_true rfl⟩) (mp_preS I _) rfl rfl hl.1 rfl (lv_room (Nat.le_of_ble_eq_true rfl)) dD_isValue_32 ⟨Nat.le_of_ble_eq_true rfl, Nat.le_of_ble_eq_true rfl⟩) I (fun r_2 N1 H locs hp I => ?_)
    obtain ⟨e_3, hp⟩ := hp
    rw [e_3] at I
    rw [hp]
    refine lv_lload_n hx hb dD_isValue_35 rfl (lv_at hl 2 rfl) ?_
    refine W.lcmp hx hb dD_isValue_36 ?_
    refine lv_if_ne (tgt := 44) hx hb dD_isValue_37 (by decide) (fun c_4 => ?_) (fun c_4 => ?_)
    all_goals rw [lg_cmp_eq] at c_4
    · refine lv_iconst (v := nI 0) hx hb dD_isValue_44 (by decide) ?_
      exact mp_zret hx hb hr hlocks I rfl (Nat.le_of_ble_eq_true rfl) (Nat.le_of_ble_eq_true rfl) dD_isValue_45 ⟨rfl, Or.inr ⟨by unfold isv; rw [if_neg (by omega)]; exact c_4, rfl⟩⟩
    · refine lv_iconst (v := nI 1) hx hb dD_isValue_40 (by decide) ?_
      refine lv_goto (tgt := 45) hx hb dD_isValue_41 (by decide) ?_
      exact mp_zret hx hb hr hlocks I rfl (Nat.le_of_ble_eq_true rfl) (Nat.le_of_ble_eq_true rfl) dD_isValue_45 ⟨rfl, Or.inl ⟨by unfold isv; rw [if_neg (by omega)]; exact c_4, rfl⟩⟩
  · refine lv_lload_n hx hb dD_isValue_6 rfl (lv_at hl 2 rfl) ?_
    refine lv_ldc2 (v := (-1)) hx hb hown (hts _ bw_77) dD_isValue_7 ?_
    refine W.lcmp hx hb dD_isValue_10 ?_
    refine lv_if_lt (tgt := 28) hx hb dD_isValue_11 (by decide) (fun c_5 => ?_) (fun c_5 => ?_)
    all_goals rw [lg_cmp_lt] at c_5
    all_goals rw [Int64.lt_iff_toInt_lt, show (-1 : Int64).toInt = -1 from rfl] at c_5
    · refine lv_iconst (v := nI 0) hx hb dD_isValue_28 (by decide) ?_
      exact mp_zret hx hb hr hlocks I rfl (Nat.le_of_ble_eq_true rfl) (Nat.le_of_ble_eq_true rfl) dD_isValue_29 ⟨rfl, Or.inr ⟨by unfold isv; rw [if_pos (by omega)]; omega, rfl⟩⟩
    · refine lv_lload_n hx hb dD_isValue_14 rfl (lv_at hl 2 rfl) ?_
      refine lv_aload_n hx hb dD_isValue_15 rfl (lv_at hl 0 rfl) ?_
      refine mp_get (v := .int (nI tc)) hx hb hts inD hown I h0 rfl 4 (by decide) (hts _ bw_30) (fun _ h9 => h9) rfl dD_isValue_16 ?_
      refine lv_i2l (v := (nI tc).toInt64) hx hb dD_isValue_19 rfl ?_
      refine W.lcmp hx hb dD_isValue_20 ?_
      refine lv_if_ge (tgt := 28) hx hb dD_isValue_21 (by decide) (fun c_6 => ?_) (fun c_6 => ?_)
      all_goals rw [lg_cmp_ge] at c_6
      all_goals rw [Int64.le_iff_toInt_le, Int32.toInt_toInt64, nI_toInt (show tc < 2 ^ 31 by omega)] at c_6
      · refine lv_iconst (v := nI 0) hx hb dD_isValue_28 (by decide) ?_
        exact mp_zret hx hb hr hlocks I rfl (Nat.le_of_ble_eq_true rfl) (Nat.le_of_ble_eq_true rfl) dD_isValue_29 ⟨rfl, Or.inr ⟨by unfold isv; rw [if_pos (by omega)]; omega, rfl⟩⟩
      · refine lv_iconst (v := nI 1) hx hb dD_isValue_24 (by decide) ?_
        refine lv_goto (tgt := 29) hx hb dD_isValue_25 (by decide) ?_
        exact mp_zret hx hb hr hlocks I rfl (Nat.le_of_ble_eq_true rfl) (Nat.le_of_ble_eq_true rfl) dD_isValue_29 ⟨rfl, Or.inl ⟨by unfold isv; rw [if_pos (by omega)]; omega, rfl⟩⟩
abbrev rm_D_put : Room := { frames := 1, cells := 0, slots := 0, locals := 22 }
set_option maxHeartbeats 4000000 in
set_option maxRecDepth 100000 in
theorem kD_put (l : Launch) (D : va_G) (k : Nat → ClassId) (M : mp_M) {d av ak at_ aw as_ an : Nat} {qt qs qn : Nat → Option Nat} {sa ra : Nat → Nat} {ec tc wc sc nc : Nat} {va : Nat → Int64} {kd wt tk tf tz sk sf sw sl nn : Nat → Nat} {nv : Nat → Nat → Int64} (hD : DkX k M d av ak at_ aw as_ an qt qs qn sa ra ec tc wc sc nc va kd wt tk tf tz sk sf sw sl nn nv) (hO : OkB ec tc wc sc nc tk tf tz sk sf sw sl nn) (x : Int32) : mp_Met l yD_put (Cond.code yD_put cD_put 2 (some .boolean) :: bw) rm_D_put D cls5 (tys6 k) [.ref d, .int x] M (va_Qi (fun r M1 => (wc < 12 ∧ (1 ≤ x.toInt ∧ x.toInt ≤ 7) ∧ r = nI 1 ∧ ∃ xn : Nat, x.toInt = xn ∧ DkX k M1 d av ak at_ aw as_ an qt qs qn sa ra ec tc (wc + 1) sc nc va kd (nu wt wc xn) tk tf tz sk sf sw sl nn nv) ∨ (¬ (wc < 12 ∧ (1 ≤ x.toInt ∧ x.toInt ≤ 7)) ∧ r = nI 0 ∧ M1 = M))) 0 0 := by
  refine mp_Met.of (by decide) (Nat.le_of_ble_eq_true rfl) ?_
  intro p e s m below meth c hx hb hr hml hown hts hlocks hin ls hl I
  have hl : lv_has ls 2 [(0, .ref d), (1, .int x)] := hl
  obtain ⟨h0, hav, hak, hat, haw, has, han, hth, hsp, hsn, hij⟩ := id hD
  obtain ⟨b1, b2, b3, b4, b5, bT, bS, bN⟩ := id hO
  refine lv_aload_n hx hb dD_put_0 rfl (lv_at hl 0 rfl) ?_
  refine mp_get (v := .int (nI wc)) hx hb hts inD hown I h0 rfl 6 (by decide) (hts _ bw_32) (fun _ h9 => h9) rfl dD_put_1 ?_
  refine lv_bipush (v := nI 12) hx hb dD_put_4 (by decide) ?_
  refine zz_icmp_ge (tgt := 16) hx hb (nI_toInt (by first | assumption | omega)) (nI_toInt (by decide)) dD_put_6 (by decide) (fun c_1 => ?_) (fun c_1 => ?_)
  · refine lv_iconst (v := nI 0) hx hb dD_put_16 (by decide) ?_
    exact mp_zret hx hb hr hlocks I rfl (Nat.le_of_ble_eq_true rfl) (Nat.le_of_ble_eq_true rfl) dD_put_17 (Or.inr ⟨by omega, rfl, rfl⟩)
  · refine lv_iload_n hx hb dD_put_9 rfl (lv_at hl 1 rfl) ?_
    refine mp_calli (va_runS (As := [.int x]) (rest := []) ⟨hx, hb, hml, hown, hts⟩ (kD_isKind l D k M x _) (cwS 1 hts (bw_S bw_66 bw_67 bw_1 bw_68) rfl rfl rfl (by decide +kernel) ⟨Nat.le_of_ble_eq_true rfl, Nat.le_of_ble_eq_true rfl⟩) (mp_preS I _) rfl rfl hl.1 rfl (lv_room (Nat.le_of_ble_eq_true rfl)) dD_put_10 ⟨Nat.le_of_ble_eq_true rfl, Nat.le_of_ble_eq_true rfl⟩) I (fun r_2 N_3 H locs hp I => ?_)
    obtain ⟨e_4, hp⟩ := hp
    rw [e_4] at I
    rcases hp with ⟨p1, p2, rfl⟩ | ⟨p1, rfl⟩
    · refine zz_if_ne (tgt := 18) hx hb (nI_toInt (by decide)) dD_put_13 (by decide) (fun _ => ?_) (fun c_5 => absurd c_5 (by decide))
      obtain ⟨xn, hn_xn, rfl, hz_xn⟩ := i32_nat (x := x) (by omega)
      refine lv_aload_n hx hb dD_put_18 rfl (lv_at hl 0 rfl) ?_
      refine mp_get (v := .ref aw) hx hb hts inD hown I h0 rfl 5 (by decide) (hts _ bw_31) (fun _ h9 => h9) rfl dD_put_19 ?_
      refine lv_aload_n hx hb dD_put_22 rfl (lv_at hl 0 rfl) ?_
      refine mp_get (v := .int (nI wc)) hx hb hts inD hown I h0 rfl 6 (by decide) (hts _ bw_32) (fun _ h9 => h9) rfl dD_put_23 ?_
      refine lv_iload_n hx hb dD_put_26 rfl (lv_at hl 1 rfl) ?_
      refine mp_iast hx hb I 0 haw rfl (x := nI xn) wc rfl (by omega) (by decide) dD_put_27 (fun H locs I => ?_)
      rw [upd_nI] at I
      have I : mp_I D cls5 (tys6 k) s _ s.heap H locs (mp_up M aw (.inl (k 0, 12, .inl (fun i_ => nI ((nu wt wc xn) i_))))) := I
      have haw_n : mp_up M aw (.inl (k 0, 12, .inl (fun i_ => nI ((nu wt wc xn) i_)))) aw = some (.inl (k 0, 12, .inl (fun i_ => nI ((nu wt wc xn) i_)))) := mp_up_s _ _ _
      have h0_n : mp_up M aw (.inl (k 0, 12, .inl (fun i_ => nI ((nu wt wc xn) i_)))) d = some (.inr (0, [.ref av, .ref ak, .int (nI ec), .ref at_, .int (nI tc), .ref aw, .int (nI wc), .ref as_, .int (nI sc), .ref an, .int (nI nc)])) := (mp_up_n (mp_ne h0 haw (by simp))).trans h0
      have hav_n : mp_up M aw (.inl (k 0, 12, .inl (fun i_ => nI ((nu wt wc xn) i_)))) av = some (.inl (k 1, 4000, .inr (.inl va))) := (mp_up_n (mp_ne hav haw (by simp))).trans hav
      have hak_n : mp_up M aw (.inl (k 0, 12, .inl (fun i_ => nI ((nu wt wc xn) i_)))) ak = some (.inl (k 0, 4000, .inl (fun i_ => nI (kd i_)))) := (mp_up_n (mp_ne hak haw (by simp))).trans hak
      have hat_n : mp_up M aw (.inl (k 0, 12, .inl (fun i_ => nI ((nu wt wc xn) i_)))) at_ = some (.inl (k 2, 300, .inr (.inr (.inr (.inr qt))))) := (mp_up_n (mp_ne hat haw (by simp))).trans hat
      have has_n : mp_up M aw (.inl (k 0, 12, .inl (fun i_ => nI ((nu wt wc xn) i_)))) as_ = some (.inl (k 3, 100, .inr (.inr (.inr (.inr qs))))) := (mp_up_n (mp_ne has haw (by simp))).trans has
      have han_n : mp_up M aw (.inl (k 0, 12, .inl (fun i_ => nI ((nu wt wc xn) i_)))) an = some (.inl (k 4, 20, .inr (.inr (.inr (.inr qn))))) := (mp_up_n (mp_ne han haw (by simp))).trans han
      generalize eM_7 : mp_up M aw (.inl (k 0, 12, .inl (fun i_ => nI ((nu wt wc xn) i_)))) = M_6 at I h0_n hav_n hak_n hat_n haw_n has_n han_n
      have h0__M_6 := h0_n
      have hav__M_6 := hav_n
      have hak__M_6 := hak_n
      have hat__M_6 := hat_n
      have haw__M_6 := haw_n
      have has__M_6 := has_n
      have han__M_6 := han_n
      clear h0_n hav_n hak_n hat_n haw_n has_n han_n
      refine lv_aload_n hx hb dD_put_28 rfl (lv_at hl 0 rfl) ?_
      refine lv_dup hx hb dD_put_29 rfl ?_
      refine mp_get (v := .int (nI wc)) hx hb hts inD hown I h0__M_6 rfl 6 (by decide) (hts _ bw_32) (fun _ h9 => h9) rfl dD_put_30 ?_
      refine lv_iconst (v := nI 1) hx hb dD_put_33 (by decide) ?_
      refine zz_iadd hx hb dD_put_34 ?_
      refine mp_put (v := .int (nI (wc + 1))) (ty := .int) hx hb hts inD tyD okD nmD hown I h0__M_6 rfl 6 (by decide) (hts _ bw_32) (fun _ h9 => h9) rfl (by decide +kernel) rfl rfl (Nat.le_of_ble_eq_true rfl) dD_put_35 (fun H locs I => ?_)
      have I : mp_I D cls5 (tys6 k) s _ s.heap H locs (mp_up M_6 d (.inr (0, [.ref av, .ref ak, .int (nI ec), .ref at_, .int (nI tc), .ref aw, .int (nI (wc + 1)), .ref as_, .int (nI sc), .ref an, .int (nI nc)]))) := I
      have h0__M_6_n : mp_up M_6 d (.inr (0, [.ref av, .ref ak, .int (nI ec), .ref at_, .int (nI tc), .ref aw, .int (nI (wc + 1)), .ref as_, .int (nI sc), .ref an, .int (nI nc)])) d = some (.inr (0, [.ref av, .ref ak, .int (nI ec), .ref at_, .int (nI tc), .ref aw, .int (nI (wc + 1)), .ref as_, .int (nI sc), .ref an, .int (nI nc)])) := mp_up_s _ _ _
      have hav__M_6_n : mp_up M_6 d (.inr (0, [.ref av, .ref ak, .int (nI ec), .ref at_, .int (nI tc), .ref aw, .int (nI (wc + 1)), .ref as_, .int (nI sc), .ref an, .int (nI nc)])) av = some (.inl (k 1, 4000, .inr (.inl va))) := (mp_up_n (mp_ne hav__M_6 h0__M_6 (by simp))).trans hav__M_6
      have hak__M_6_n : mp_up M_6 d (.inr (0, [.ref av, .ref ak, .int (nI ec), .ref at_, .int (nI tc), .ref aw, .int (nI (wc + 1)), .ref as_, .int (nI sc), .ref an, .int (nI nc)])) ak = some (.inl (k 0, 4000, .inl (fun i_ => nI (kd i_)))) := (mp_up_n (mp_ne hak__M_6 h0__M_6 (by simp))).trans hak__M_6
      have hat__M_6_n : mp_up M_6 d (.inr (0, [.ref av, .ref ak, .int (nI ec), .ref at_, .int (nI tc), .ref aw, .int (nI (wc + 1)), .ref as_, .int (nI sc), .ref an, .int (nI nc)])) at_ = some (.inl (k 2, 300, .inr (.inr (.inr (.inr qt))))) := (mp_up_n (mp_ne hat__M_6 h0__M_6 (by simp))).trans hat__M_6
      have haw__M_6_n : mp_up M_6 d (.inr (0, [.ref av, .ref ak, .int (nI ec), .ref at_, .int (nI tc), .ref aw, .int (nI (wc + 1)), .ref as_, .int (nI sc), .ref an, .int (nI nc)])) aw = some (.inl (k 0, 12, .inl (fun i_ => nI ((nu wt wc xn) i_)))) := (mp_up_n (mp_ne haw__M_6 h0__M_6 (by simp))).trans haw__M_6
      have has__M_6_n : mp_up M_6 d (.inr (0, [.ref av, .ref ak, .int (nI ec), .ref at_, .int (nI tc), .ref aw, .int (nI (wc + 1)), .ref as_, .int (nI sc), .ref an, .int (nI nc)])) as_ = some (.inl (k 3, 100, .inr (.inr (.inr (.inr qs))))) := (mp_up_n (mp_ne has__M_6 h0__M_6 (by simp))).trans has__M_6
      have han__M_6_n : mp_up M_6 d (.inr (0, [.ref av, .ref ak, .int (nI ec), .ref at_, .int (nI tc), .ref aw, .int (nI (wc + 1)), .ref as_, .int (nI sc), .ref an, .int (nI nc)])) an = some (.inl (k 4, 20, .inr (.inr (.inr (.inr qn))))) := (mp_up_n (mp_ne han__M_6 h0__M_6 (by simp))).trans han__M_6
      generalize eM_9 : mp_up M_6 d (.inr (0, [.ref av, .ref ak, .int (nI ec), .ref at_, .int (nI tc), .ref aw, .int (nI (wc + 1)), .ref as_, .int (nI sc), .ref an, .int (nI nc)])) = M_8 at I h0__M_6_n hav__M_6_n hak__M_6_n hat__M_6_n haw__M_6_n has__M_6_n han__M_6_n
      have h0__M_8 := h0__M_6_n
      have hav__M_8 := hav__M_6_n
      have hak__M_8 := hak__M_6_n
      have hat__M_8 := hat__M_6_n
      have haw__M_8 := haw__M_6_n
      have has__M_8 := has__M_6_n
      have han__M_8 := han__M_6_n
      clear h0__M_6_n hav__M_6_n hak__M_6_n hat__M_6_n haw__M_6_n has__M_6_n han__M_6_n
      refine lv_iconst (v := nI 1) hx hb dD_put_38 (by decide) ?_
      exact mp_zret hx hb hr hlocks I rfl (Nat.le_of_ble_eq_true rfl) (Nat.le_of_ble_eq_true rfl) dD_put_39 (Or.inl ⟨by omega, by omega, rfl, xn, by omega, by rw [← eM_9, ← eM_7]; exact (hD.setW _).cntW _⟩)
    · refine zz_if_ne (tgt := 18) hx hb (nI_toInt (by decide)) dD_put_13 (by decide) (fun c_10 => absurd c_10 (by decide)) (fun _ => ?_)
      refine lv_iconst (v := nI 0) hx hb dD_put_16 (by decide) ?_
      exact mp_zret hx hb hr hlocks I rfl (Nat.le_of_ble_eq_true rfl) (Nat.le_of_ble_eq_true rfl) dD_put_17 (Or.inr ⟨by omega, rfl, rfl⟩)
