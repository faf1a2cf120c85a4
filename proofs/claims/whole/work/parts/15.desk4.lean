theorem wv_le (x : Int) : wv x ≤ 8 := by
  unfold wv
  split
  · omega
  · split
    · omega
    · split <;> omega
theorem wv_pos {x : Int} (h : wv x ≠ 0) : 3 ≤ x ∧ x ≤ 6 := by
  unfold wv at h
  split at h
  · omega
  · split at h
    · omega
    · split at h <;> omega
abbrev rm_D_view : Room := { frames := 3, cells := 1, slots := 4, locals := 90 }
set_option maxHeartbeats 4000000 in
set_option maxRecDepth 100000 in
theorem kD_view (l : Launch) (D : va_G) (k : Nat → ClassId) (M : mp_M) {d av ak at_ aw as_ an : Nat} {qt qs qn : Nat → Option Nat} {sa ra : Nat → Nat} {ec tc wc sc nc : Nat} {va : Nat → Int64} {kd wt tk tf tz sk sf sw sl nn : Nat → Nat} {nv : Nat → Nat → Int64} (hD : DkX k M d av ak at_ aw as_ an qt qs qn sa ra ec tc wc sc nc va kd wt tk tf tz sk sf sw sl nn nv) (hO : OkB ec tc wc sc nc tk tf tz sk sf sw sl nn) (x y z : Int32) (b : Nat) (hbb : b ≤ 1) : mp_Met l yD_view (Cond.code yD_view cD_view 7 (some .int) :: bw) rm_D_view D cls5 (tys6 k) [.ref d, .int x, .int y, .int z, .int (nI b)] M (va_Qi (fun r M1 => ((0 ≤ x.toInt ∧ x.toInt < tc ∧ tk x.toInt.toNat = 2 ∧ wv z.toInt ≠ 0 ∧ 0 ≤ y.toInt ∧ y.toInt + wv z.toInt ≤ tz x.toInt.toNat ∧ sc < 100) ∧ r = nI sc ∧ ∃ i yn zn q : Nat, x.toInt = i ∧ y.toInt = yn ∧ z.toInt = zn ∧ DkX k M1 d av ak at_ aw as_ an qt (va_up qs sc (some q)) qn sa ra ec tc wc (sc + 1) nc va kd wt tk tf tz (nu sk sc zn) (nu sf sc (tf i + yn)) (nu sw sc (wv z.toInt)) (nu sl sc b) nn nv) ∨ (¬ (0 ≤ x.toInt ∧ x.toInt < tc ∧ tk x.toInt.toNat = 2 ∧ wv z.toInt ≠ 0 ∧ 0 ≤ y.toInt ∧ y.toInt + wv z.toInt ≤ tz x.toInt.toNat ∧ sc < 100) ∧ r = -1 ∧ M1 = M))) 1 4 := by
  refine mp_Met.of (by decide) (Nat.le_of_ble_eq_true rfl) ?_
  intro p e s m below meth c hx hb hr hml hown hts hlocks hin ls hl I
  have hl : lv_has ls 7 [(0, .ref d), (1, .int x), (2, .int y), (3, .int z), (4, .int (nI b))] := hl
  obtain ⟨h0, hav, hak, hat, haw, has, han, hth, hsp, hsn, hij⟩ := id hD
  obtain ⟨b1, b2, b3, b4, b5, bT, bS, bN⟩ := id hO
  refine lv_aload_n hx hb dD_view_0 rfl (lv_at hl 0 rfl) ?_
  refine lv_iload_n hx hb dD_view_1 rfl (lv_at hl 1 rfl) ?_
  refine mp_callq (va_runV (As := [.int x]) (rest := []) ⟨hx, hb, hml, hown, hts⟩ (kD_findThing l D k M hD hO x _) (cwV 1 hts (bw_V bw_111 bw_113 bs_2 bw_1 bw_114) rfl rfl rfl (by decide +kernel) ⟨Nat.le_of_ble_eq_true rfl, Nat.le_of_ble_eq_true rfl⟩) (mp_preV I h0 rfl _) rfl rfl hl.1 rfl (lv_room (Nat.le_of_ble_eq_true rfl)) dD_view_2 ⟨Nat.le_of_ble_eq_true rfl, Nat.le_of_ble_eq_true rfl⟩) I (fun r_1 N1 H locs hp I => ?_)
  obtain ⟨e_2, hp⟩ := hp
  rw [e_2] at I
  rcases hp with ⟨i, a, hii, hzi, rfl, hMa⟩ | ⟨pni, rfl⟩
  · dsimp only [va_rf]
    have hTi := bT i hii
    have hxi : x.toInt.toNat = i := by omega
    refine lv_astore (lv' := [(5, .ref a), (0, .ref d), (1, .int x), (2, .int y), (3, .int z), (4, .int (nI b))]) hx hb dD_view_5 hl (by decide) rfl (fun ls hl => ?_)
    refine lv_iload_n hx hb dD_view_7 rfl (lv_at hl 4 rfl) ?_
    refine mp_calli (va_runS (As := [.int z]) (rest := []) ⟨hx, hb, hml, hown, hts⟩ (kD_widthOfView l D k M z _) (cwS 1 hts (bw_S bw_152 bw_153 bw_1 bw_154) rfl rfl rfl (by decide +kernel) ⟨Nat.le_of_ble_eq_true rfl, Nat.le_of_ble_eq_true rfl⟩) (mp_preS I _) rfl rfl hl.1 rfl (lv_room (Nat.le_of_ble_eq_true rfl)) dD_view_8 ⟨Nat.le_of_ble_eq_true rfl, Nat.le_of_ble_eq_true rfl⟩) I (fun r8 N1 H locs hp I => ?_)
    obtain ⟨e_3, hp⟩ := hp
    rw [e_3] at I
    obtain ⟨wd, hwd⟩ : ∃ wd, wd = wv z.toInt := ⟨_, rfl⟩
    rw [← hwd] at hp
    subst hp
    have hwd8 : wd ≤ 8 := by rw [hwd]; exact wv_le _
    refine lv_istore (lv' := [(6, .int (nI wd)), (5, .ref a), (0, .ref d), (1, .int x), (2, .int y), (3, .int z), (4, .int (nI b))]) hx hb dD_view_11 hl (by decide) rfl (fun ls hl => ?_)
    refine lv_aload hx hb dD_view_13 (lv_at hl 1 rfl) ?_
    refine lv_ifnull hx hb dD_view_15 ?_
    refine lv_aload hx hb dD_view_18 (lv_at hl 1 rfl) ?_
    refine mp_get (v := .int (nI (tk i))) hx hb hts inT hown I hMa rfl 0 (by decide) (hts _ bw_84) (fun _ h9 => h9) rfl dD_view_20 ?_
    refine lv_iconst (v := nI 2) hx hb dD_view_23 (by decide) ?_
    refine zz_icmp_ne (tgt := 43) hx hb (nI_toInt (by first | assumption | omega)) (nI_toInt (by decide)) dD_view_24 (by decide) (fun c_4 => ?_) (fun c_4 => ?_)
    · refine lv_iconst (v := (-1)) hx hb dD_view_43 (by decide) ?_
      exact mp_iret hx hb hr hlocks I (Nat.le_of_ble_eq_true rfl) (Nat.le_of_ble_eq_true rfl) dD_view_44 (Or.inr ⟨by rw [hxi, ← hwd]; omega, rfl, rfl⟩)
    · refine lv_iload hx hb dD_view_27 (lv_at hl 0 rfl) ?_
      refine zz_if_eq (tgt := 43) hx hb (nI_toInt (by first | assumption | omega)) dD_view_29 (by decide) (fun c_5 => ?_) (fun c_5 => ?_)
      · refine lv_iconst (v := (-1)) hx hb dD_view_43 (by decide) ?_
        exact mp_iret hx hb hr hlocks I (Nat.le_of_ble_eq_true rfl) (Nat.le_of_ble_eq_true rfl) dD_view_44 (Or.inr ⟨by rw [hxi, ← hwd]; omega, rfl, rfl⟩)
      · refine lv_aload hx hb dD_view_32 (lv_at hl 1 rfl) ?_
        refine lv_iload_n hx hb dD_view_34 rfl (lv_at hl 4 rfl) ?_
        refine lv_iload hx hb dD_view_35 (lv_at hl 0 rfl) ?_
        have hwz : (nI wd).toInt = wd := nI_toInt (by omega)
        refine mp_calli (va_runV (As := [.int y, .int (nI wd)]) (rest := []) ⟨hx, hb, hml, hown, hts⟩ (kT_holds l D k M a (tk i) (tf i) (tz i) y (nI wd) hMa (by omega) _) (cwV 2 hts (bw_V bw_115 bw_116 bw_117 bw_3 bw_118) rfl rfl rfl (by decide +kernel) ⟨Nat.le_of_ble_eq_true rfl, Nat.le_of_ble_eq_true rfl⟩) (mp_preV I hMa rfl _) rfl rfl hl.1 rfl (lv_room (Nat.le_of_ble_eq_true rfl)) dD_view_37 ⟨Nat.le_of_ble_eq_true rfl, Nat.le_of_ble_eq_true rfl⟩) I (fun r_6 N_7 H locs hp I => ?_)
        obtain ⟨e_8, hp⟩ := hp
        rw [e_8] at I
        rcases hp with ⟨p3, rfl⟩ | ⟨p3, rfl⟩
        · refine zz_if_ne (tgt := 45) hx hb (nI_toInt (by decide)) dD_view_40 (by decide) (fun _ => ?_) (fun c_9 => absurd c_9 (by decide))
          have hzz := wv_pos (show wv z.toInt ≠ 0 by rw [← hwd]; omega)
          obtain ⟨yn, hn_yn, rfl, hz_yn⟩ := i32_nat (x := y) (by omega)
          obtain ⟨zn, hn_zn, rfl, hz_zn⟩ := i32_nat (x := z) (by omega)
          refine lv_aload_n hx hb dD_view_45 rfl (lv_at hl 2 rfl) ?_
          refine lv_iload_n hx hb dD_view_46 rfl (lv_at hl 5 rfl) ?_
          refine lv_aload hx hb dD_view_47 (lv_at hl 1 rfl) ?_
          refine mp_get (v := .int (nI (tf i))) hx hb hts inT hown I hMa rfl 1 (by decide) (hts _ bw_86) (fun _ h9 => h9) rfl dD_view_49 ?_
          refine lv_iload_n hx hb dD_view_52 rfl (lv_at hl 4 rfl) ?_
          refine zz_iadd hx hb dD_view_53 ?_
          refine lv_iload hx hb dD_view_54 (lv_at hl 0 rfl) ?_
          refine lv_iload hx hb dD_view_56 (lv_at hl 6 rfl) ?_
          refine mp_calli (va_runV (As := [.int (nI zn), .int (nI (tf i + yn)), .int (nI wd), .int (nI b)]) (rest := []) ⟨hx, hb, hml, hown, hts⟩ (kD_addSpot l D k M hD hO zn (tf i + yn) wd b hbb _) (cwV 4 hts (bw_V bw_123 bw_125 bs_3 bw_1 bw_126) rfl rfl rfl (by decide +kernel) ⟨Nat.le_of_ble_eq_true rfl, Nat.le_of_ble_eq_true rfl⟩) (mp_preV I h0 rfl _) rfl rfl hl.1 rfl (lv_room (Nat.le_of_ble_eq_true rfl)) dD_view_58 ⟨Nat.le_of_ble_eq_true rfl, Nat.le_of_ble_eq_true rfl⟩) I (fun r1 N1 H locs hp I => ?_)
          rcases hp with ⟨p4, rfl, q, hD⟩ | ⟨p4, rfl, eN⟩
          · exact mp_iret hx hb hr hlocks I (Nat.le_of_ble_eq_true rfl) (Nat.le_of_ble_eq_true rfl) dD_view_61 (Or.inl ⟨by rw [hxi, ← hwd]; omega, rfl, i, yn, zn, q, hzi, hz_yn, hz_zn, by rw [← hwd]; exact hD⟩)
          · exact mp_iret hx hb hr hlocks I (Nat.le_of_ble_eq_true rfl) (Nat.le_of_ble_eq_true rfl) dD_view_61 (Or.inr ⟨by rw [hxi, ← hwd]; omega, rfl, eN⟩)
        · refine zz_if_ne (tgt := 45) hx hb (nI_toInt (by decide)) dD_view_40 (by decide) (fun c_10 => absurd c_10 (by decide)) (fun _ => ?_)
          refine lv_iconst (v := (-1)) hx hb dD_view_43 (by decide) ?_
          exact mp_iret hx hb hr hlocks I (Nat.le_of_ble_eq_true rfl) (Nat.le_of_ble_eq_true rfl) dD_view_44 (Or.inr ⟨by rw [hxi, ← hwd]; omega, rfl, rfl⟩)
  · dsimp only [va_rf]
    refine lv_astoreN (lv' := [(5, .null), (0, .ref d), (1, .int x), (2, .int y), (3, .int z), (4, .int (nI b))]) hx hb dD_view_5 hl (by decide) rfl (fun ls hl => ?_)
    refine lv_iload_n hx hb dD_view_7 rfl (lv_at hl 4 rfl) ?_
    refine mp_calli (va_runS (As := [.int z]) (rest := []) ⟨hx, hb, hml, hown, hts⟩ (kD_widthOfView l D k M z _) (cwS 1 hts (bw_S bw_152 bw_153 bw_1 bw_154) rfl rfl rfl (by decide +kernel) ⟨Nat.le_of_ble_eq_true rfl, Nat.le_of_ble_eq_true rfl⟩) (mp_preS I _) rfl rfl hl.1 rfl (lv_room (Nat.le_of_ble_eq_true rfl)) dD_view_8 ⟨Nat.le_of_ble_eq_true rfl, Nat.le_of_ble_eq_true rfl⟩) I (fun r8 N1 H locs hp I => ?_)
    obtain ⟨e_11, hp⟩ := hp
    rw [e_11] at I
    obtain ⟨wd, hwd⟩ : ∃ wd, wd = wv z.toInt := ⟨_, rfl⟩
    rw [← hwd] at hp
    subst hp
    have hwd8 : wd ≤ 8 := by rw [hwd]; exact wv_le _
    refine lv_istore (lv' := [(6, .int (nI wd)), (5, .null), (0, .ref d), (1, .int x), (2, .int y), (3, .int z), (4, .int (nI b))]) hx hb dD_view_11 hl (by decide) rfl (fun ls hl => ?_)
    refine lv_aloadN hx hb dD_view_13 (lv_at hl 1 rfl) ?_
    refine lv_ifnullN (tgt := 43) hx hb dD_view_15 (by decide) ?_
    refine lv_iconst (v := (-1)) hx hb dD_view_43 (by decide) ?_
    exact mp_iret hx hb hr hlocks I (Nat.le_of_ble_eq_true rfl) (Nat.le_of_ble_eq_true rfl) dD_view_44 (Or.inr ⟨by omega, rfl, rfl⟩)
abbrev rm_D_copy : Room := { frames := 1, cells := 0, slots := 0, locals := 60 }
set_option maxHeartbeats 4000000 in
set_option maxRecDepth 100000 in
theorem kD_copy (l : Launch) (D : va_G) (k : Nat → ClassId) (M : mp_M) {d av ak at_ aw as_ an : Nat} {qt qs qn : Nat → Option Nat} {sa ra : Nat → Nat} {ec tc wc sc nc : Nat} {va : Nat → Int64} {kd wt tk tf tz sk sf sw sl nn : Nat → Nat} {nv : Nat → Nat → Int64} (hD : DkX k M d av ak at_ aw as_ an qt qs qn sa ra ec tc wc sc nc va kd wt tk tf tz sk sf sw sl nn nv) (hO : OkB ec tc wc sc nc tk tf tz sk sf sw sl nn) (x a y b n : Int32) : mp_Met l yD_copy (Cond.code yD_copy cD_copy 8 (some .boolean) :: bw) rm_D_copy D cls5 (tys6 k) [.ref d, .int x, .int a, .int y, .int b, .int n] M (va_Qi (fun r M1 => ((0 ≤ x.toInt ∧ x.toInt < tc ∧ 0 ≤ y.toInt ∧ y.toInt < tc ∧ tk x.toInt.toNat ≠ 0 ∧ tk x.toInt.toNat = tk y.toInt.toNat ∧ 0 ≤ n.toInt ∧ 0 ≤ a.toInt ∧ 0 ≤ b.toInt ∧ a.toInt + n.toInt ≤ tz x.toInt.toNat ∧ b.toInt + n.toInt ≤ tz y.toInt.toNat) ∧ r = nI 1 ∧ ∃ i j a_ b_ n_ : Nat, x.toInt = i ∧ y.toInt = j ∧ a.toInt = a_ ∧ b.toInt = b_ ∧ n.toInt = n_ ∧ DkX k M1 d av ak at_ aw as_ an qt qs qn sa ra ec tc wc sc nc (va_cpy va va (tf i + a_) (tf j + b_) n_) kd wt tk tf tz sk sf sw sl nn nv) ∨ (¬ (0 ≤ x.toInt ∧ x.toInt < tc ∧ 0 ≤ y.toInt ∧ y.toInt < tc ∧ tk x.toInt.toNat ≠ 0 ∧ tk x.toInt.toNat = tk y.toInt.toNat ∧ 0 ≤ n.toInt ∧ 0 ≤ a.toInt ∧ 0 ≤ b.toInt ∧ a.toInt + n.toInt ≤ tz x.toInt.toNat ∧ b.toInt + n.toInt ≤ tz y.toInt.toNat) ∧ r = nI 0 ∧ M1 = M))) 0 0 := by
  refine mp_Met.of (by decide) (Nat.le_of_ble_eq_true rfl) ?_
  intro p e s m below meth c hx hb hr hml hown hts hlocks hin ls hl I
  have hl : lv_has ls 8 [(0, .ref d), (1, .int x), (2, .int a), (3, .int y), (4, .int b), (5, .int n)] := hl
  obtain ⟨h0, hav, hak, hat, haw, has, han, hth, hsp, hsn, hij⟩ := id hD
  obtain ⟨b1, b2, b3, b4, b5, bT, bS, bN⟩ := id hO
  refine lv_aload_n hx hb dD_copy_0 rfl (lv_at hl 0 rfl) ?_
  refine lv_iload_n hx hb dD_copy_1 rfl (lv_at hl 1 rfl) ?_
  refine mp_callq (va_runV (As := [.int x]) (rest := []) ⟨hx, hb, hml, hown, hts⟩ (kD_findThing l D k M hD hO x _) (cwV 1 hts (bw_V bw_111 bw_113 bs_2 bw_1 bw_114) rfl rfl rfl (by decide +kernel) ⟨Nat.le_of_ble_eq_true rfl, Nat.le_of_ble_eq_true rfl⟩) (mp_preV I h0 rfl _) rfl rfl hl.1 rfl (lv_room (Nat.le_of_ble_eq_true rfl)) dD_copy_2 ⟨Nat.le_of_ble_eq_true rfl, Nat.le_of_ble_eq_true rfl⟩) I (fun r_1 N1 H locs hp I => ?_)
  obtain ⟨e_2, hp⟩ := hp
  rw [e_2] at I
  rcases hp with ⟨i, a1, hii, hzi, rfl, hMa1⟩ | ⟨pni, rfl⟩
  · dsimp only [va_rf]
    have hTi := bT i hii
    have hxi : x.toInt.toNat = i := by omega
    refine lv_astore (lv' := [(6, .ref a1), (0, .ref d), (1, .int x), (2, .int a), (3, .int y), (4, .int b), (5, .int n)]) hx hb dD_copy_5 hl (by decide) rfl (fun ls hl => ?_)
    refine lv_aload_n hx hb dD_copy_7 rfl (lv_at hl 1 rfl) ?_
    refine lv_iload_n hx hb dD_copy_8 rfl (lv_at hl 4 rfl) ?_
    refine mp_callq (va_runV (As := [.int y]) (rest := []) ⟨hx, hb, hml, hown, hts⟩ (kD_findThing l D k M hD hO y _) (cwV 1 hts (bw_V bw_111 bw_113 bs_2 bw_1 bw_114) rfl rfl rfl (by decide +kernel) ⟨Nat.le_of_ble_eq_true rfl, Nat.le_of_ble_eq_true rfl⟩) (mp_preV I h0 rfl _) rfl rfl hl.1 rfl (lv_room (Nat.le_of_ble_eq_true rfl)) dD_copy_9 ⟨Nat.le_of_ble_eq_true rfl, Nat.le_of_ble_eq_true rfl⟩) I (fun r_3 N1 H locs hp I => ?_)
    obtain ⟨e_4, hp⟩ := hp
    rw [e_4] at I
    rcases hp with ⟨j, a2, hij, hzj, rfl, hMa2⟩ | ⟨pnj, rfl⟩
    · dsimp only [va_rf]
      have hTj := bT j hij
      have hxj : y.toInt.toNat = j := by omega
      refine lv_astore (lv' := [(7, .ref a2), (6, .ref a1), (0, .ref d), (1, .int x), (2, .int a), (3, .int y), (4, .int b), (5, .int n)]) hx hb dD_copy_12 hl (by decide) rfl (fun ls hl => ?_)
      refine lv_aload hx hb dD_copy_14 (lv_at hl 1 rfl) ?_
      refine lv_ifnull hx hb dD_copy_16 ?_
      refine lv_aload hx hb dD_copy_19 (lv_at hl 0 rfl) ?_
      refine lv_ifnonnull (tgt := 26) hx hb dD_copy_21 (by decide) ?_
      refine lv_aload hx hb dD_copy_26 (lv_at hl 1 rfl) ?_
      refine mp_get (v := .int (nI (tk i))) hx hb hts inT hown I hMa1 rfl 0 (by decide) (hts _ bw_84) (fun _ h9 => h9) rfl dD_copy_28 ?_
      refine zz_if_eq (tgt := 47) hx hb (nI_toInt (by first | assumption | omega)) dD_copy_31 (by decide) (fun c_5 => ?_) (fun c_5 => ?_)
      · refine lv_iconst (v := nI 0) hx hb dD_copy_47 (by decide) ?_
        exact mp_zret hx hb hr hlocks I rfl (Nat.le_of_ble_eq_true rfl) (Nat.le_of_ble_eq_true rfl) dD_copy_48 (Or.inr ⟨by rw [hxi, hxj]; omega, rfl, rfl⟩)
      · refine lv_aload hx hb dD_copy_34 (lv_at hl 1 rfl) ?_
        refine mp_get (v := .int (nI (tk i))) hx hb hts inT hown I hMa1 rfl 0 (by decide) (hts _ bw_84) (fun _ h9 => h9) rfl dD_copy_36 ?_
        refine lv_aload hx hb dD_copy_39 (lv_at hl 0 rfl) ?_
        refine mp_get (v := .int (nI (tk j))) hx hb hts inT hown I hMa2 rfl 0 (by decide) (hts _ bw_84) (fun _ h9 => h9) rfl dD_copy_41 ?_
        refine zz_icmp_eq (tgt := 49) hx hb (nI_toInt (by first | assumption | omega)) (nI_toInt (by first | assumption | omega)) dD_copy_44 (by decide) (fun c_6 => ?_) (fun c_6 => ?_)
        · refine lv_aload hx hb dD_copy_49 (lv_at hl 1 rfl) ?_
          refine lv_iload_n hx hb dD_copy_51 rfl (lv_at hl 4 rfl) ?_
          refine lv_iload hx hb dD_copy_52 (lv_at hl 7 rfl) ?_
          refine mp_calli (va_runV (As := [.int a, .int n]) (rest := []) ⟨hx, hb, hml, hown, hts⟩ (kT_holds l D k M a1 (tk i) (tf i) (tz i) a n hMa1 (by omega) _) (cwV 2 hts (bw_V bw_115 bw_116 bw_117 bw_3 bw_118) rfl rfl rfl (by decide +kernel) ⟨Nat.le_of_ble_eq_true rfl, Nat.le_of_ble_eq_true rfl⟩) (mp_preV I hMa1 rfl _) rfl rfl hl.1 rfl (lv_room (Nat.le_of_ble_eq_true rfl)) dD_copy_54 ⟨Nat.le_of_ble_eq_true rfl, Nat.le_of_ble_eq_true rfl⟩) I (fun r_7 N_8 H locs hp I => ?_)
          obtain ⟨e_9, hp⟩ := hp
          rw [e_9] at I
          rcases hp with ⟨p3, rfl⟩ | ⟨p3, rfl⟩
          · refine zz_if_eq (tgt := 72) hx hb (nI_toInt (by decide)) dD_copy_57 (by decide) (fun c_10 => absurd c_10 (by decide)) (fun _ => ?_)
            refine lv_aload hx hb dD_copy_60 (lv_at hl 0 rfl) ?_
            refine lv_iload hx hb dD_copy_62 (lv_at hl 6 rfl) ?_
            refine lv_iload hx hb dD_copy_64 (lv_at hl 7 rfl) ?_
            refine mp_calli (va_runV (As := [.int b, .int n]) (rest := []) ⟨hx, hb, hml, hown, hts⟩ (kT_holds l D k M a2 (tk j) (tf j) (tz j) b n hMa2 (by omega) _) (cwV 2 hts (bw_V bw_115 bw_116 bw_117 bw_3 bw_118) rfl rfl rfl (by decide +kernel) ⟨Nat.le_of_ble_eq_true rfl, Nat.le_of_ble_eq_true rfl⟩) (mp_preV I hMa2 rfl _) rfl rfl hl.1 rfl (lv_room (Nat.le_of_ble_eq_true rfl)) dD_copy_66 ⟨Nat.le_of_ble_eq_true rfl, Nat.le_of_ble_eq_true rfl⟩) I (fun r_11 N_12 H locs hp I => ?_)
            obtain ⟨e_13, hp⟩ := hp
            rw [e_13] at I
            rcases hp with ⟨p4, rfl⟩ | ⟨p4, rfl⟩
            · refine zz_if_ne (tgt := 74) hx hb (nI_toInt (by decide)) dD_copy_69 (by decide) (fun _ => ?_) (fun c_14 => absurd c_14 (by decide))
              obtain ⟨an_, hn_an_, rfl, hz_an_⟩ := i32_nat (x := a) (by omega)
              obtain ⟨bn_, hn_bn_, rfl, hz_bn_⟩ := i32_nat (x := b) (by omega)
              obtain ⟨n_, hn_n_, rfl, hz_n_⟩ := i32_nat (x := n) (by omega)
              refine lv_aload_n hx hb dD_copy_74 rfl (lv_at hl 2 rfl) ?_
              refine mp_get (v := .ref av) hx hb hts inD hown I h0 rfl 0 (by decide) (hts _ bw_26) (fun _ h9 => h9) rfl dD_copy_75 ?_
              refine lv_aload hx hb dD_copy_78 (lv_at hl 1 rfl) ?_
              refine mp_get (v := .int (nI (tf i))) hx hb hts inT hown I hMa1 rfl 1 (by decide) (hts _ bw_86) (fun _ h9 => h9) rfl dD_copy_80 ?_
              refine lv_iload_n hx hb dD_copy_83 rfl (lv_at hl 4 rfl) ?_
              refine zz_iadd hx hb dD_copy_84 ?_
              refine lv_aload_n hx hb dD_copy_85 rfl (lv_at hl 2 rfl) ?_
              refine mp_get (v := .ref av) hx hb hts inD hown I h0 rfl 0 (by decide) (hts _ bw_26) (fun _ h9 => h9) rfl dD_copy_86 ?_
              refine lv_aload hx hb dD_copy_89 (lv_at hl 0 rfl) ?_
              refine mp_get (v := .int (nI (tf j))) hx hb hts inT hown I hMa2 rfl 1 (by decide) (hts _ bw_86) (fun _ h9 => h9) rfl dD_copy_91 ?_
              refine lv_iload hx hb dD_copy_94 (lv_at hl 6 rfl) ?_
              refine zz_iadd hx hb dD_copy_96 ?_
              refine lv_iload hx hb dD_copy_97 (lv_at hl 7 rfl) ?_
              refine mp_copyl hx hb (by rw [hml]; exact hl.1.symm) hown (hts _ bw_104) (hts _ bw_106) (hts _ bw_105) (hts _ bw_4) I 1 hav hav rfl (tf i + an_) (tf j + bn_) n_ rfl rfl rfl (by omega) (by omega) (by decide) (by decide) (Nat.le_of_ble_eq_true rfl) (Nat.le_of_ble_eq_true rfl) dD_copy_99 (fun H locs I => ?_)
              have I : mp_I D cls5 (tys6 k) s _ s.heap H locs (mp_up M av (.inl (k 1, 4000, .inr (.inl (va_cpy va va (tf i + an_) (tf j + bn_) n_))))) := I
              have hav_n : mp_up M av (.inl (k 1, 4000, .inr (.inl (va_cpy va va (tf i + an_) (tf j + bn_) n_)))) av = some (.inl (k 1, 4000, .inr (.inl (va_cpy va va (tf i + an_) (tf j + bn_) n_)))) := mp_up_s _ _ _
              have h0_n : mp_up M av (.inl (k 1, 4000, .inr (.inl (va_cpy va va (tf i + an_) (tf j + bn_) n_)))) d = some (.inr (0, [.ref av, .ref ak, .int (nI ec), .ref at_, .int (nI tc), .ref aw, .int (nI wc), .ref as_, .int (nI sc), .ref an, .int (nI nc)])) := (mp_up_n (mp_ne h0 hav (by simp))).trans h0
              have hak_n : mp_up M av (.inl (k 1, 4000, .inr (.inl (va_cpy va va (tf i + an_) (tf j + bn_) n_)))) ak = some (.inl (k 0, 4000, .inl (fun i_ => nI (kd i_)))) := (mp_up_n (mp_ne hak hav (by simp))).trans hak
              have hat_n : mp_up M av (.inl (k 1, 4000, .inr (.inl (va_cpy va va (tf i + an_) (tf j + bn_) n_)))) at_ = some (.inl (k 2, 300, .inr (.inr (.inr (.inr qt))))) := (mp_up_n (mp_ne hat hav (by simp))).trans hat
              have haw_n : mp_up M av (.inl (k 1, 4000, .inr (.inl (va_cpy va va (tf i + an_) (tf j + bn_) n_)))) aw = some (.inl (k 0, 12, .inl (fun i_ => nI (wt i_)))) := (mp_up_n (mp_ne haw hav (by simp))).trans haw
              have has_n : mp_up M av (.inl (k 1, 4000, .inr (.inl (va_cpy va va (tf i + an_) (tf j + bn_) n_)))) as_ = some (.inl (k 3, 100, .inr (.inr (.inr (.inr qs))))) := (mp_up_n (mp_ne has hav (by simp))).trans has
              have han_n : mp_up M av (.inl (k 1, 4000, .inr (.inl (va_cpy va va (tf i + an_) (tf j + bn_) n_)))) an = some (.inl (k 4, 20, .inr (.inr (.inr (.inr qn))))) := (mp_up_n (mp_ne han hav (by simp))).trans han
              have hMa1_n : mp_up M av (.inl (k 1, 4000, .inr (.inl (va_cpy va va (tf i + an_) (tf j + bn_) n_)))) a1 = some (.inr (1, [.int (nI (tk i)), .int (nI (tf i)), .int (nI (tz i))])) := (mp_up_n (mp_ne hMa1 hav (by simp))).trans hMa1
              have hMa2_n : mp_up M av (.inl (k 1, 4000, .inr (.inl (va_cpy va va (tf i + an_) (tf j + bn_) n_)))) a2 = some (.inr (1, [.int (nI (tk j)), .int (nI (tf j)), .int (nI (tz j))])) := (mp_up_n (mp_ne hMa2 hav (by simp))).trans hMa2
              generalize eM_16 : mp_up M av (.inl (k 1, 4000, .inr (.inl (va_cpy va va (tf i + an_) (tf j + bn_) n_)))) = M_15 at I h0_n hav_n hak_n hat_n haw_n has_n han_n hMa1_n hMa2_n
              have h0__M_15 := h0_n
              have hav__M_15 := hav_n
              have hak__M_15 := hak_n
              have hat__M_15 := hat_n
              have haw__M_15 := haw_n
              have has__M_15 := has_n
              have han__M_15 := han_n
              have hMa1__M_15 := hMa1_n
              have hMa2__M_15 := hMa2_n
              clear h0_n hav_n hak_n hat_n haw_n has_n han_n hMa1_n hMa2_n
              have hD := hD.setV (va_cpy va va (tf i + an_) (tf j + bn_) n_)
              rw [eM_16] at hD
              refine lv_iconst (v := nI 1) hx hb dD_copy_102 (by decide) ?_
              exact mp_zret hx hb hr hlocks I rfl (Nat.le_of_ble_eq_true rfl) (Nat.le_of_ble_eq_true rfl) dD_copy_103 (Or.inl ⟨by rw [hxi, hxj]; omega, rfl, i, j, an_, bn_, n_, hzi, hzj, hz_an_, hz_bn_, hz_n_, hD⟩)
            · refine zz_if_ne (tgt := 74) hx hb (nI_toInt (by decide)) dD_copy_69 (by decide) (fun c_17 => absurd c_17 (by decide)) (fun _ => ?_)
              refine lv_iconst (v := nI 0) hx hb dD_copy_72 (by decide) ?_
              exact mp_zret hx hb hr hlocks I rfl (Nat.le_of_ble_eq_true rfl) (Nat.le_of_ble_eq_true rfl) dD_copy_73 (Or.inr ⟨by rw [hxi, hxj]; omega, rfl, rfl⟩)
          · refine zz_if_eq (tgt := 72) hx hb (nI_toInt (by decide)) dD_copy_57 (by decide) (fun _ => ?_) (fun c_18 => absurd c_18 (by decide))
            refine lv_iconst (v := nI 0) hx hb dD_copy_72 (by decide) ?_
            exact mp_zret hx hb hr hlocks I rfl (Nat.le_of_ble_eq_true rfl) (Nat.le_of_ble_eq_true rfl) dD_copy_73 (Or.inr ⟨by rw [hxi, hxj]; omega, rfl, rfl⟩)
        · refine lv_iconst (v := nI 0) hx hb dD_copy_47 (by decide) ?_
          exact mp_zret hx hb hr hlocks I rfl (Nat.le_of_ble_eq_true rfl) (Nat.le_of_ble_eq_true rfl) dD_copy_48 (Or.inr ⟨by rw [hxi, hxj]; omega, rfl, rfl⟩)
    · dsimp only [va_rf]
      refine lv_astoreN (lv' := [(7, .null), (6, .ref a1), (0, .ref d), (1, .int x), (2, .int a), (3, .int y), (4, .int b), (5, .int n)]) hx hb dD_copy_12 hl (by decide) rfl (fun ls hl => ?_)
      refine lv_aload hx hb dD_copy_14 (lv_at hl 1 rfl) ?_
      refine lv_ifnull hx hb dD_copy_16 ?_
      refine lv_aloadN hx hb dD_copy_19 (lv_at hl 0 rfl) ?_
      refine lv_ifnonnullN hx hb dD_copy_21 ?_
      refine lv_iconst (v := nI 0) hx hb dD_copy_24 (by decide) ?_
      exact mp_zret hx hb hr hlocks I rfl (Nat.le_of_ble_eq_true rfl) (Nat.le_of_ble_eq_true rfl) dD_copy_25 (Or.inr ⟨by rw [hxi]; omega, rfl, rfl⟩)
  · dsimp only [va_rf]
    refine lv_astoreN (lv' := [(6, .null), (0, .ref d), (1, .int x), (2, .int a), (3, .int y), (4, .int b), (5, .int n)]) hx hb dD_copy_5 hl (by decide) rfl (fun ls hl => ?_)
    refine lv_aload_n hx hb dD_copy_7 rfl (lv_at hl 1 rfl) ?_
    refine lv_iload_n hx hb dD_copy_8 rfl (lv_at hl 4 rfl) ?_
    refine mp_callq (va_runV (As := [.int y]) (rest := []) ⟨hx, hb, hml, hown, hts⟩ (kD_findThing l D k M hD hO y _) (cwV 1 hts (bw_V bw_111 bw_113 bs_2 bw_1 bw_114) rfl rfl rfl (by decide +kernel) ⟨Nat.le_of_ble_eq_true rfl, Nat.le_of_ble_eq_true rfl⟩) (mp_preV I h0 rfl _) rfl rfl hl.1 rfl (lv_room (Nat.le_of_ble_eq_true rfl)) dD_copy_9 ⟨Nat.le_of_ble_eq_true rfl, Nat.le_of_ble_eq_true rfl⟩) I (fun r_19 N1 H locs hp I => ?_)
    obtain ⟨e_20, hp⟩ := hp
    rw [e_20] at I
    rcases hp with ⟨j, a2, hij, hzj, rfl, hMa2⟩ | ⟨pnj, rfl⟩
    · dsimp only [va_rf]
      have hTj := bT j hij
      have hxj : y.toInt.toNat = j := by omega
      refine lv_astore (lv' := [(7, .ref a2), (6, .null), (0, .ref d), (1, .int x), (2, .int a), (3, .int y), (4, .int b), (5, .int n)]) hx hb dD_copy_12 hl (by decide) rfl (fun ls hl => ?_)
      refine lv_aloadN hx hb dD_copy_14 (lv_at hl 1 rfl) ?_
      refine lv_ifnullN (tgt := 24) hx hb dD_copy_16 (by decide) ?_
      refine lv_iconst (v := nI 0) hx hb dD_copy_24 (by decide) ?_
      exact mp_zret hx hb hr hlocks I rfl (Nat.le_of_ble_eq_true rfl) (Nat.le_of_ble_eq_true rfl) dD_copy_25 (Or.inr ⟨by rw [hxj]; omega, rfl, rfl⟩)
    · dsimp only [va_rf]
      refine lv_astoreN (lv' := [(7, .null), (6, .null), (0, .ref d), (1, .int x), (2, .int a), (3, .int y), (4, .int b), (5, .int n)]) hx hb dD_copy_12 hl (by decide) rfl (fun ls hl => ?_)
      refine lv_aloadN hx hb dD_copy_14 (lv_at hl 1 rfl) ?_
      refine lv_ifnullN (tgt := 24) hx hb dD_copy_16 (by decide) ?_
      refine lv_iconst (v := nI 0) hx hb dD_copy_24 (by decide) ?_
      exact mp_zret hx hb hr hlocks I rfl (Nat.le_of_ble_eq_true rfl) (Nat.le_of_ble_eq_true rfl) dD_copy_25 (Or.inr ⟨by omega, rfl, rfl⟩)
abbrev rm_N_init : Room := { frames := 1, cells := 1, slots := 4000, locals := 20 }
set_option maxHeartbeats 4000000 in
set_option maxRecDepth 100000 in
theorem kN_init (l : Launch) (D : va_G) (k : Nat → ClassId) (M : mp_M) (h0 : Nat) (hN : M h0 = some (.inr (3, [.null, .int 0]))) : mp_Met l yN_init (Cond.code yN_init cN_init 1 none :: bw) rm_N_init D cls5 (tys6 k) [.ref h0] M (va_Qv (fun M1 => ∃ q : Nat, M q = none ∧ M1 = mp_up (mp_up M q (.inl (k 1, 4000, .inr (.inl (fun _ => 0))))) h0 (.inr (3, [.ref q, .int (nI 0)])))) 1 4000 := by
  refine mp_Met.of (by decide) (Nat.le_of_ble_eq_true rfl) ?_
  intro p e s m below meth c hx hb hr hml hown hts hlocks hin ls hl I
  have hl : lv_has ls 1 [(0, .ref h0)] := hl
  refine lv_aload_n hx hb dN_init_0 rfl (lv_at hl 0 rfl) ?_
  refine W.objInit hx hb hown (hts _ bw_183) (hts _ bw_18) (hts _ bw_19) rfl (by rw [hml]; exact hl.1) rfl dN_init_1 (Nat.le_of_ble_eq_true rfl) (Nat.le_of_ble_eq_true rfl) ?_
  refine W.eq (g2 := F0 m 4 ls []) rfl ?_
  refine lv_aload_n hx hb dN_init_4 rfl (lv_at hl 0 rfl) ?_
  refine lv_sipush (v := nI 4000) hx hb dN_init_5 (by decide) ?_
  refine mp_newa (atype := .long) (ty := .long) (a0 := (4000, .inr (.inl (fun _ => 0)))) hx hb (hts _ bw_60) rfl I 1 rfl (fun _ h => h) (fun _ => rfl) (by decide) (nI_clamp (by decide)) (by decide) (Nat.le_of_ble_eq_true rfl) (Nat.le_of_ble_eq_true rfl) dN_init_8 (fun q H hq_1 I => ?_)
  have hqq_n : mp_up M q (.inl (k 1, 4000, .inr (.inl (fun _ => 0)))) q = some (.inl (k 1, 4000, .inr (.inl (fun _ => 0)))) := mp_up_s _ _ _
  have hN_n : mp_up M q (.inl (k 1, 4000, .inr (.inl (fun _ => 0)))) h0 = some (.inr (3, [.null, .int 0])) := (mp_up_n (fun z => by rw [z, hq_1] at hN; cases hN)).trans hN
  generalize eM_3 : mp_up M q (.inl (k 1, 4000, .inr (.inl (fun _ => 0)))) = M_2 at I hqq_n hN_n
  have hN__M_2 := hN_n
  have hqq__M_2 := hqq_n
  clear hqq_n hN_n
  refine mp_putF (v := .ref q) (ty := .array .long) hx hb hts inN tyN okN nmN hown I hN__M_2 rfl 0 (by decide) (hts _ bw_184) (fun _ h9 => h9) rfl hin rfl (by decide +kernel) rfl rfl (Nat.le_of_ble_eq_true rfl) dN_init_10 (fun H locs I => ?_)
  have I : mp_I D cls5 (tys6 k) s _ s.heap H locs (mp_up M_2 h0 (.inr (3, [.ref q, .int 0]))) := I
  have hN__M_2_n : mp_up M_2 h0 (.inr (3, [.ref q, .int 0])) h0 = some (.inr (3, [.ref q, .int 0])) := mp_up_s _ _ _
  have hqq__M_2_n : mp_up M_2 h0 (.inr (3, [.ref q, .int 0])) q = some (.inl (k 1, 4000, .inr (.inl (fun _ => 0)))) := (mp_up_n (mp_ne hqq__M_2 hN__M_2 (by simp))).trans hqq__M_2
  generalize eM_5 : mp_up M_2 h0 (.inr (3, [.ref q, .int 0])) = M_4 at I hN__M_2_n hqq__M_2_n
  have hN__M_4 := hN__M_2_n
  have hqq__M_4 := hqq__M_2_n
  clear hN__M_2_n hqq__M_2_n
  refine lv_aload_n hx hb dN_init_13 rfl (lv_at hl 0 rfl) ?_
  refine lv_iconst (v := nI 0) hx hb dN_init_14 (by decide) ?_
  refine mp_put (v := .int (nI 0)) (ty := .int) hx hb hts inN tyN okN nmN hown I hN__M_4 rfl 1 (by decide) (hts _ bw_185) (fun _ h9 => h9) rfl (by decide +kernel) rfl rfl (Nat.le_of_ble_eq_true rfl) dN_init_15 (fun H locs I => ?_)
  have I : mp_I D cls5 (tys6 k) s _ s.heap H locs (mp_up M_4 h0 (.inr (3, [.ref q, .int (nI 0)]))) := I
  have hN__M_4_n : mp_up M_4 h0 (.inr (3, [.ref q, .int (nI 0)])) h0 = some (.inr (3, [.ref q, .int (nI 0)])) := mp_up_s _ _ _
  have hqq__M_4_n : mp_up M_4 h0 (.inr (3, [.ref q, .int (nI 0)])) q = some (.inl (k 1, 4000, .inr (.inl (fun _ => 0)))) := (mp_up_n (mp_ne hqq__M_4 hN__M_4 (by simp))).trans hqq__M_4
  generalize eM_7 : mp_up M_4 h0 (.inr (3, [.ref q, .int (nI 0)])) = M_6 at I hN__M_4_n hqq__M_4_n
  have hN__M_6 := hN__M_4_n
  have hqq__M_6 := hqq__M_4_n
  clear hN__M_4_n hqq__M_4_n
  exact mp_vret hx hb hr hlocks I (Nat.le_of_ble_eq_true rfl) (Nat.le_of_ble_eq_true rfl) dN_init_18 ⟨q, hq_1, by rw [← eM_7, ← eM_5, ← eM_3, mp_upup]⟩
abbrev rm_N_remember : Room := { frames := 1, cells := 0, slots := 0, locals := 60 }
set_option maxHeartbeats 4000000 in
set_option maxRecDepth 100000 in
theorem kN_remember (l : Launch) (D : va_G) (k : Nat → ClassId) (M : mp_M) (h0 av r n : Nat) (c0 : Int32) (va g : Nat → Int64) (hN : M h0 = some (.inr (3, [.ref r, .int c0]))) (hav : M av = some (.inl (k 1, 4000, .inr (.inl va)))) (hrM : M r = some (.inl (k 1, 4000, .inr (.inl g)))) (hne : av ≠ r) (hn : n ≤ 4000) : mp_Met l yN_remember (Cond.code yN_remember cN_remember 3 none :: bw) rm_N_remember D cls5 (tys6 k) [.ref h0, .ref av, .int (nI n)] M (va_Qv (fun M1 => M1 = mp_up (mp_up M h0 (.inr (3, [.ref r, .int (nI n)]))) r (.inl (k 1, 4000, .inr (.inl (va_cpy va g 0 0 n)))))) 0 0 := by
  refine mp_Met.of (by decide) (Nat.le_of_ble_eq_true rfl) ?_
  intro p e s m below meth c hx hb hr hml hown hts hlocks hin ls hl I
  have hl : lv_has ls 3 [(0, .ref h0), (1, .ref av), (2, .int (nI n))] := hl
  refine lv_aload_n hx hb dN_remember_0 rfl (lv_at hl 0 rfl) ?_
  refine lv_iload_n hx hb dN_remember_1 rfl (lv_at hl 2 rfl) ?_
  refine mp_put (v := .int (nI n)) (ty := .int) hx hb hts inN tyN okN nmN hown I hN rfl 1 (by decide) (hts _ bw_185) (fun _ h9 => h9) rfl (by decide +kernel) rfl rfl (Nat.le_of_ble_eq_true rfl) dN_remember_2 (fun H locs I => ?_)
  have I : mp_I D cls5 (tys6 k) s _ s.heap H locs (mp_up M h0 (.inr (3, [.ref r, .int (nI n)]))) := I
  have hN_n : mp_up M h0 (.inr (3, [.ref r, .int (nI n)])) h0 = some (.inr (3, [.ref r, .int (nI n)])) := mp_up_s _ _ _
  have hav_n : mp_up M h0 (.inr (3, [.ref r, .int (nI n)])) av = some (.inl (k 1, 4000, .inr (.inl va))) := (mp_up_n (mp_ne hav hN (by simp))).trans hav
  have hrM_n : mp_up M h0 (.inr (3, [.ref r, .int (nI n)])) r = some (.inl (k 1, 4000, .inr (.inl g))) := (mp_up_n (mp_ne hrM hN (by simp))).trans hrM
  generalize eM_2 : mp_up M h0 (.inr (3, [.ref r, .int (nI n)])) = M_1 at I hN_n hav_n hrM_n
  have hN__M_1 := hN_n
  have hav__M_1 := hav_n
  have hrM__M_1 := hrM_n
  clear hN_n hav_n hrM_n
  refine lv_aload_n hx hb dN_remember_5 rfl (lv_at hl 1 rfl) ?_
  refine lv_iconst (v := nI 0) hx hb dN_remember_6 (by decide) ?_
  refine lv_aload_n hx hb dN_remember_7 rfl (lv_at hl 0 rfl) ?_
  refine mp_get (v := .ref r) hx hb hts inN hown I hN__M_1 rfl 0 (by decide) (hts _ bw_184) (fun _ h9 => h9) rfl dN_remember_8 ?_
  refine lv_iconst (v := nI 0) hx hb dN_remember_11 (by decide) ?_
  refine lv_aload_n hx hb dN_remember_12 rfl (lv_at hl 0 rfl) ?_
  refine mp_get (v := .int (nI n)) hx hb hts inN hown I hN__M_1 rfl 1 (by decide) (hts _ bw_185) (fun _ h9 => h9) rfl dN_remember_13 ?_
  refine mp_copyl hx hb (by rw [hml]; exact hl.1.symm) hown (hts _ bw_195) (hts _ bw_106) (hts _ bw_105) (hts _ bw_4) I 1 hav__M_1 hrM__M_1 rfl 0 0 n rfl rfl rfl (by omega) (by omega) (by decide) (by decide) (Nat.le_of_ble_eq_true rfl) (Nat.le_of_ble_eq_true rfl) dN_remember_16 (fun H locs I => ?_)
  have I : mp_I D cls5 (tys6 k) s _ s.heap H locs (mp_up M_1 r (.inl (k 1, 4000, .inr (.inl (va_cpy va g 0 0 n))))) := I
  have hrM__M_1_n : mp_up M_1 r (.inl (k 1, 4000, .inr (.inl (va_cpy va g 0 0 n)))) r = some (.inl (k 1, 4000, .inr (.inl (va_cpy va g 0 0 n)))) := mp_up_s _ _ _
  have hN__M_1_n : mp_up M_1 r (.inl (k 1, 4000, .inr (.inl (va_cpy va g 0 0 n)))) h0 = some (.inr (3, [.ref r, .int (nI n)])) := (mp_up_n (mp_ne hN__M_1 hrM__M_1 (by simp))).trans hN__M_1
  have hav__M_1_n : mp_up M_1 r (.inl (k 1, 4000, .inr (.inl (va_cpy va g 0 0 n)))) av = some (.inl (k 1, 4000, .inr (.inl va))) := (mp_up_n hne).trans hav__M_1
  generalize eM_4 : mp_up M_1 r (.inl (k 1, 4000, .inr (.inl (va_cpy va g 0 0 n)))) = M_3 at I hN__M_1_n hav__M_1_n hrM__M_1_n
  have hN__M_3 := hN__M_1_n
  have hav__M_3 := hav__M_1_n
  have hrM__M_3 := hrM__M_1_n
  clear hN__M_1_n hav__M_1_n hrM__M_1_n
  exact mp_vret hx hb hr hlocks I (Nat.le_of_ble_eq_true rfl) (Nat.le_of_ble_eq_true rfl) dN_remember_19 (by rw [← eM_4, ← eM_2])
abbrev rm_N_restore : Room := { frames := 1, cells := 0, slots := 0, locals := 60 }
set_option maxHeartbeats 4000000 in
set_option maxRecDepth 100000 in
theorem kN_restore (l : Launch) (D : va_G) (k : Nat → ClassId) (M : mp_M) (h0 av r cn : Nat) (va g : Nat → Int64) (hN : M h0 = some (.inr (3, [.ref r, .int (nI cn)]))) (hav : M av = some (.inl (k 1, 4000, .inr (.inl va)))) (hrM : M r = some (.inl (k 1, 4000, .inr (.inl g)))) (hne : av ≠ r) (hn : cn ≤ 4000) : mp_Met l yN_restore (Cond.code yN_restore cN_restore 2 none :: bw) rm_N_restore D cls5 (tys6 k) [.ref h0, .ref av] M (va_Qv (fun M1 => M1 = mp_up M av (.inl (k 1, 4000, .inr (.inl (va_cpy g va 0 0 cn)))))) 0 0 := by
  refine mp_Met.of (by decide) (Nat.le_of_ble_eq_true rfl) ?_
  intro p e s m below meth c hx hb hr hml hown hts hlocks hin ls hl I
  have hl : lv_has ls 2 [(0, .ref h0), (1, .ref av)] := hl
  refine lv_aload_n hx hb dN_restore_0 rfl (lv_at hl 0 rfl) ?_
  refine mp_get (v := .ref r) hx hb hts inN hown I hN rfl 0 (by decide) (hts _ bw_184) (fun _ h9 => h9) rfl dN_restore_1 ?_
  refine lv_iconst (v := nI 0) hx hb dN_restore_4 (by decide) ?_
  refine lv_aload_n hx hb dN_restore_5 rfl (lv_at hl 1 rfl) ?_
  refine lv_iconst (v := nI 0) hx hb dN_restore_6 (by decide) ?_
  refine lv_aload_n hx hb dN_restore_7 rfl (lv_at hl 0 rfl) ?_
  refine mp_get (v := .int (nI cn)) hx hb hts inN hown I hN rfl 1 (by decide) (hts _ bw_185) (fun _ h9 => h9) rfl dN_restore_8 ?_
  refine mp_copyl hx hb (by rw [hml]; exact hl.1.symm) hown (hts _ bw_195) (hts _ bw_106) (hts _ bw_105) (hts _ bw_4) I 1 hrM hav rfl 0 0 cn rfl rfl rfl (by omega) (by omega) (by decide) (by decide) (Nat.le_of_ble_eq_true rfl) (Nat.le_of_ble_eq_true rfl) dN_restore_11 (fun H locs I => ?_)
  have I : mp_I D cls5 (tys6 k) s _ s.heap H locs (mp_up M av (.inl (k 1, 4000, .inr (.inl (va_cpy g va 0 0 cn))))) := I
  have hav_n : mp_up M av (.inl (k 1, 4000, .inr (.inl (va_cpy g va 0 0 cn)))) av = some (.inl (k 1, 4000, .inr (.inl (va_cpy g va 0 0 cn)))) := mp_up_s _ _ _
  have hN_n : mp_up M av (.inl (k 1, 4000, .inr (.inl (va_cpy g va 0 0 cn)))) h0 = some (.inr (3, [.ref r, .int (nI cn)])) := (mp_up_n (mp_ne hN hav (by simp))).trans hN
  have hrM_n : mp_up M av (.inl (k 1, 4000, .inr (.inl (va_cpy g va 0 0 cn)))) r = some (.inl (k 1, 4000, .inr (.inl g))) := (mp_up_n (Ne.symm hne)).trans hrM
  generalize eM_2 : mp_up M av (.inl (k 1, 4000, .inr (.inl (va_cpy g va 0 0 cn)))) = M_1 at I hN_n hav_n hrM_n
  have hN__M_1 := hN_n
  have hav__M_1 := hav_n
  have hrM__M_1 := hrM_n
  clear hN_n hav_n hrM_n
  exact mp_vret hx hb hr hlocks I (Nat.le_of_ble_eq_true rfl) (Nat.le_of_ble_eq_true rfl) dN_restore_14 (by first | rfl | exact eM_2.symm)
