/-- the lowest bits as of a kind -/
def lb (kd : Nat) (b : Int64) : Int64 := if kd = 1 then b &&& 1 else if kd = 2 then b.toInt32.toInt8.toInt32.toInt64 else if kd = 3 then b.toInt32.toInt16.toInt32.toInt64 else if kd = 4 then b &&& 65535 else if kd = 5 then b.toInt32.toInt64 else b
abbrev rm_D_lowestBits : Room := { frames := 0, cells := 0, slots := 0, locals := 0 }
set_option maxHeartbeats 4000000 in
set_option maxRecDepth 100000 in
theorem kD_lowestBits (l : Launch) (D : va_G) (k : Nat → ClassId) (M : mp_M) (kd : Nat) (b : Int64) (hkd : kd ≤ 7) : mp_Met l yD_lowestBits (Cond.code yD_lowestBits cD_lowestBits 3 (some .long) :: bw) rm_D_lowestBits D cls5 (tys6 k) [.int (nI kd), .long b] M (va_Ql (fun r M1 => M1 = M ∧ r = lb kd b)) 0 0 := by
  refine mp_Met.of (by decide) (Nat.le_of_ble_eq_true rfl) ?_
  intro p e s m below meth c hx hb hr hml hown hts hlocks hin ls hl I
  have hl : lv_has ls 3 [(0, .int (nI kd)), (1, .long b)] := hl
  refine lv_iload_n hx hb dD_lowestBits_0 rfl (lv_at hl 0 rfl) ?_
  have c_1 : (kd : Int) = 1 ∨ (kd : Int) = 2 ∨ (kd : Int) = 3 ∨ (kd : Int) = 4 ∨ (kd : Int) = 5 ∨ ((kd : Int) < 1 ∨ 5 < (kd : Int)) := by omega
  rcases c_1 with c_1 | c_1 | c_1 | c_1 | c_1 | c_1
  · refine lv_tableIn (off := 35) (tgt := 36) hx hb dD_lowestBits_1 (by rw [show (nI kd).toInt = (kd : Int) from (nI_toInt (by first | assumption | omega))]; omega) (by rw [show (nI kd).toInt = (kd : Int) from (nI_toInt (by first | assumption | omega))]; omega) (by rw [show (nI kd).toInt = (kd : Int) from (nI_toInt (by first | assumption | omega)), c_1]; rfl) (by decide) ?_
    refine lv_lload_n hx hb dD_lowestBits_36 rfl (lv_at hl 1 rfl) ?_
    refine lv_lconst (v := 1) hx hb dD_lowestBits_37 (by decide) ?_
    refine lv_land hx hb dD_lowestBits_38 ?_
    exact mp_lret hx hb hr hlocks I (Nat.le_of_ble_eq_true rfl) (Nat.le_of_ble_eq_true rfl) dD_lowestBits_39 ⟨rfl, by have h9 : kd = 1 := (by omega); subst h9; rfl⟩
  · refine lv_tableIn (off := 39) (tgt := 40) hx hb dD_lowestBits_1 (by rw [show (nI kd).toInt = (kd : Int) from (nI_toInt (by first | assumption | omega))]; omega) (by rw [show (nI kd).toInt = (kd : Int) from (nI_toInt (by first | assumption | omega))]; omega) (by rw [show (nI kd).toInt = (kd : Int) from (nI_toInt (by first | assumption | omega)), c_1]; rfl) (by decide) ?_
    refine lv_lload_n hx hb dD_lowestBits_40 rfl (lv_at hl 1 rfl) ?_
    refine lv_l2i (v := b.toInt32) hx hb dD_lowestBits_41 rfl ?_
    refine lv_i2b (v := b.toInt32.toInt8.toInt32) hx hb dD_lowestBits_42 rfl ?_
    refine lv_i2l (v := b.toInt32.toInt8.toInt32.toInt64) hx hb dD_lowestBits_43 rfl ?_
    exact mp_lret hx hb hr hlocks I (Nat.le_of_ble_eq_true rfl) (Nat.le_of_ble_eq_true rfl) dD_lowestBits_44 ⟨rfl, by have h9 : kd = 2 := (by omega); subst h9; rfl⟩
  · refine lv_tableIn (off := 44) (tgt := 45) hx hb dD_lowestBits_1 (by rw [show (nI kd).toInt = (kd : Int) from (nI_toInt (by first | assumption | omega))]; omega) (by rw [show (nI kd).toInt = (kd : Int) from (nI_toInt (by first | assumption | omega))]; omega) (by rw [show (nI kd).toInt = (kd : Int) from (nI_toInt (by first | assumption | omega)), c_1]; rfl) (by decide) ?_
    refine lv_lload_n hx hb dD_lowestBits_45 rfl (lv_at hl 1 rfl) ?_
    refine lv_l2i (v := b.toInt32) hx hb dD_lowestBits_46 rfl ?_
    refine lv_i2s (v := b.toInt32.toInt16.toInt32) hx hb dD_lowestBits_47 rfl ?_
    refine lv_i2l (v := b.toInt32.toInt16.toInt32.toInt64) hx hb dD_lowestBits_48 rfl ?_
    exact mp_lret hx hb hr hlocks I (Nat.le_of_ble_eq_true rfl) (Nat.le_of_ble_eq_true rfl) dD_lowestBits_49 ⟨rfl, by have h9 : kd = 3 := (by omega); subst h9; rfl⟩
  · refine lv_tableIn (off := 49) (tgt := 50) hx hb dD_lowestBits_1 (by rw [show (nI kd).toInt = (kd : Int) from (nI_toInt (by first | assumption | omega))]; omega) (by rw [show (nI kd).toInt = (kd : Int) from (nI_toInt (by first | assumption | omega))]; omega) (by rw [show (nI kd).toInt = (kd : Int) from (nI_toInt (by first | assumption | omega)), c_1]; rfl) (by decide) ?_
    refine lv_lload_n hx hb dD_lowestBits_50 rfl (lv_at hl 1 rfl) ?_
    refine lv_ldc2 (v := 65535) hx hb hown (hts _ bw_301) dD_lowestBits_51 ?_
    refine lv_land hx hb dD_lowestBits_54 ?_
    exact mp_lret hx hb hr hlocks I (Nat.le_of_ble_eq_true rfl) (Nat.le_of_ble_eq_true rfl) dD_lowestBits_55 ⟨rfl, by have h9 : kd = 4 := (by omega); subst h9; rfl⟩
  · refine lv_tableIn (off := 55) (tgt := 56) hx hb dD_lowestBits_1 (by rw [show (nI kd).toInt = (kd : Int) from (nI_toInt (by first | assumption | omega))]; omega) (by rw [show (nI kd).toInt = (kd : Int) from (nI_toInt (by first | assumption | omega))]; omega) (by rw [show (nI kd).toInt = (kd : Int) from (nI_toInt (by first | assumption | omega)), c_1]; rfl) (by decide) ?_
    refine lv_lload_n hx hb dD_lowestBits_56 rfl (lv_at hl 1 rfl) ?_
    refine lv_l2i (v := b.toInt32) hx hb dD_lowestBits_57 rfl ?_
    refine lv_i2l (v := b.toInt32.toInt64) hx hb dD_lowestBits_58 rfl ?_
    exact mp_lret hx hb hr hlocks I (Nat.le_of_ble_eq_true rfl) (Nat.le_of_ble_eq_true rfl) dD_lowestBits_59 ⟨rfl, by have h9 : kd = 5 := (by omega); subst h9; rfl⟩
  · refine lv_tableOut (tgt := 60) hx hb dD_lowestBits_1 (by rw [show (nI kd).toInt = (kd : Int) from (nI_toInt (by first | assumption | omega))]; exact c_1) (by decide) ?_
    refine lv_lload_n hx hb dD_lowestBits_60 rfl (lv_at hl 1 rfl) ?_
    exact mp_lret hx hb hr hlocks I (Nat.le_of_ble_eq_true rfl) (Nat.le_of_ble_eq_true rfl) dD_lowestBits_61 ⟨rfl, by unfold lb; rw [if_neg (by omega), if_neg (by omega), if_neg (by omega), if_neg (by omega), if_neg (by omega)]⟩
abbrev rm_M_as : Room := { frames := 0, cells := 0, slots := 0, locals := 0 }
set_option maxHeartbeats 4000000 in
set_option maxRecDepth 100000 in
theorem kM_as (l : Launch) (D : va_G) (k : Nat → ClassId) (M : mp_M) (kd : Nat) (b : Int64) (hkd : kd ≤ 7) : mp_Met l yM_as (Cond.code yM_as cM_as 3 (some .long) :: bw) rm_M_as D cls5 (tys6 k) [.int (nI kd), .long b] M (va_Ql (fun r M1 => M1 = M ∧ r = lb kd b)) 0 0 := by
  refine mp_Met.of (by decide) (Nat.le_of_ble_eq_true rfl) ?_
  intro p e s m below meth c hx hb hr hml hown hts hlocks hin ls hl I
  have hl : lv_has ls 3 [(0, .int (nI kd)), (1, .long b)] := hl
  refine lv_iload_n hx hb dM_as_0 rfl (lv_at hl 0 rfl) ?_
  have c_1 : (kd : Int) = 1 ∨ (kd : Int) = 2 ∨ (kd : Int) = 3 ∨ (kd : Int) = 4 ∨ (kd : Int) = 5 ∨ ((kd : Int) < 1 ∨ 5 < (kd : Int)) := by omega
  rcases c_1 with c_1 | c_1 | c_1 | c_1 | c_1 | c_1
  · refine lv_tableIn (off := 35) (tgt := 36) hx hb dM_as_1 (by rw [show (nI kd).toInt = (kd : Int) from (nI_toInt (by first | assumption | omega))]; omega) (by rw [show (nI kd).toInt = (kd : Int) from (nI_toInt (by first | assumption | omega))]; omega) (by rw [show (nI kd).toInt = (kd : Int) from (nI_toInt (by first | assumption | omega)), c_1]; rfl) (by decide) ?_
    refine lv_lload_n hx hb dM_as_36 rfl (lv_at hl 1 rfl) ?_
    refine lv_lconst (v := 1) hx hb dM_as_37 (by decide) ?_
    refine lv_land hx hb dM_as_38 ?_
    exact mp_lret hx hb hr hlocks I (Nat.le_of_ble_eq_true rfl) (Nat.le_of_ble_eq_true rfl) dM_as_39 ⟨rfl, by have h9 : kd = 1 := (by omega); subst h9; rfl⟩
  · refine lv_tableIn (off := 39) (tgt := 40) hx hb dM_as_1 (by rw [show (nI kd).toInt = (kd : Int) from (nI_toInt (by first | assumption | omega))]; omega) (by rw [show (nI kd).toInt = (kd : Int) from (nI_toInt (by first | assumption | omega))]; omega) (by rw [show (nI kd).toInt = (kd : Int) from (nI_toInt (by first | assumption | omega)), c_1]; rfl) (by decide) ?_
    refine lv_lload_n hx hb dM_as_40 rfl (lv_at hl 1 rfl) ?_
    refine lv_l2i (v := b.toInt32) hx hb dM_as_41 rfl ?_
    refine lv_i2b (v := b.toInt32.toInt8.toInt32) hx hb dM_as_42 rfl ?_
    refine lv_i2l (v := b.toInt32.toInt8.toInt32.toInt64) hx hb dM_as_43 rfl ?_
    exact mp_lret hx hb hr hlocks I (Nat.le_of_ble_eq_true rfl) (Nat.le_of_ble_eq_true rfl) dM_as_44 ⟨rfl, by have h9 : kd = 2 := (by omega); subst h9; rfl⟩
  · refine lv_tableIn (off := 44) (tgt := 45) hx hb dM_as_1 (by rw [show (nI kd).toInt = (kd : Int) from (nI_toInt (by first | assumption | omega))]; omega) (by rw [show (nI kd).toInt = (kd : Int) from (nI_toInt (by first | assumption | omega))]; omega) (by rw [show (nI kd).toInt = (kd : Int) from (nI_toInt (by first | assumption | omega)), c_1]; rfl) (by decide) ?_
    refine lv_lload_n hx hb dM_as_45 rfl (lv_at hl 1 rfl) ?_
    refine lv_l2i (v := b.toInt32) hx hb dM_as_46 rfl ?_
    refine lv_i2s (v := b.toInt32.toInt16.toInt32) hx hb dM_as_47 rfl ?_
    refine lv_i2l (v := b.toInt32.toInt16.toInt32.toInt64) hx hb dM_as_48 rfl ?_
    exact mp_lret hx hb hr hlocks I (Nat.le_of_ble_eq_true rfl) (Nat.le_of_ble_eq_true rfl) dM_as_49 ⟨rfl, by have h9 : kd = 3 := (by omega); subst h9; rfl⟩
  · refine lv_tableIn (off := 49) (tgt := 50) hx hb dM_as_1 (by rw [show (nI kd).toInt = (kd : Int) from (nI_toInt (by first | assumption | omega))]; omega) (by rw [show (nI kd).toInt = (kd : Int) from (nI_toInt (by first | assumption | omega))]; omega) (by rw [show (nI kd).toInt = (kd : Int) from (nI_toInt (by first | assumption | omega)), c_1]; rfl) (by decide) ?_
    refine lv_lload_n hx hb dM_as_50 rfl (lv_at hl 1 rfl) ?_
    refine lv_ldc2 (v := 65535) hx hb hown (hts _ bw_450) dM_as_51 ?_
    refine lv_land hx hb dM_as_54 ?_
    exact mp_lret hx hb hr hlocks I (Nat.le_of_ble_eq_true rfl) (Nat.le_of_ble_eq_true rfl) dM_as_55 ⟨rfl, by have h9 : kd = 4 := (by omega); subst h9; rfl⟩
  · refine lv_tableIn (off := 55) (tgt := 56) hx hb dM_as_1 (by rw [show (nI kd).toInt = (kd : Int) from (nI_toInt (by first | assumption | omega))]; omega) (by rw [show (nI kd).toInt = (kd : Int) from (nI_toInt (by first | assumption | omega))]; omega) (by rw [show (nI kd).toInt = (kd : Int) from (nI_toInt (by first | assumption | omega)), c_1]; rfl) (by decide) ?_
    refine lv_lload_n hx hb dM_as_56 rfl (lv_at hl 1 rfl) ?_
    refine lv_l2i (v := b.toInt32) hx hb dM_as_57 rfl ?_
    refine lv_i2l (v := b.toInt32.toInt64) hx hb dM_as_58 rfl ?_
    exact mp_lret hx hb hr hlocks I (Nat.le_of_ble_eq_true rfl) (Nat.le_of_ble_eq_true rfl) dM_as_59 ⟨rfl, by have h9 : kd = 5 := (by omega); subst h9; rfl⟩
  · refine lv_tableOut (tgt := 60) hx hb dM_as_1 (by rw [show (nI kd).toInt = (kd : Int) from (nI_toInt (by first | assumption | omega))]; exact c_1) (by decide) ?_
    refine lv_lload_n hx hb dM_as_60 rfl (lv_at hl 1 rfl) ?_
    exact mp_lret hx hb hr hlocks I (Nat.le_of_ble_eq_true rfl) (Nat.le_of_ble_eq_true rfl) dM_as_61 ⟨rfl, by unfold lb; rw [if_neg (by omega), if_neg (by omega), if_neg (by omega), if_neg (by omega), if_neg (by omega)]⟩
def wv (x : Int) : Nat := if x = 3 ∨ x = 4 then 2 else if x = 5 then 4 else if x = 6 then 8 else 0
abbrev rm_D_widthOfView : Room := { frames := 0, cells := 0, slots := 0, locals := 0 }
set_option maxHeartbeats 4000000 in
set_option maxRecDepth 100000 in
theorem kD_widthOfView (l : Launch) (D : va_G) (k : Nat → ClassId) (M : mp_M) (x : Int32) : mp_Met l yD_widthOfView (Cond.code yD_widthOfView cD_widthOfView 1 (some .int) :: bw) rm_D_widthOfView D cls5 (tys6 k) [.int x] M (va_Qi (fun r M1 => M1 = M ∧ r = nI (wv x.toInt))) 0 0 := by
  refine mp_Met.of (by decide) (Nat.le_of_ble_eq_true rfl) ?_
  intro p e s m below meth c hx hb hr hml hown hts hlocks hin ls hl I
  have hl : lv_has ls 1 [(0, .int x)] := hl
  refine lv_iload_n hx hb dD_widthOfView_0 rfl (lv_at hl 0 rfl) ?_
  have c_1 : x.toInt = 3 ∨ x.toInt = 4 ∨ x.toInt = 5 ∨ x.toInt = 6 ∨ (x.toInt < 3 ∨ 6 < x.toInt) := by omega
  rcases c_1 with c_1 | c_1 | c_1 | c_1 | c_1
  · refine lv_tableIn (off := 31) (tgt := 32) hx hb dD_widthOfView_1 (by rw [show x.toInt = x.toInt from rfl]; omega) (by rw [show x.toInt = x.toInt from rfl]; omega) (by rw [show x.toInt = x.toInt from rfl, c_1]; rfl) (by decide) ?_
    refine lv_iconst (v := nI 2) hx hb dD_widthOfView_32 (by decide) ?_
    exact mp_iret hx hb hr hlocks I (Nat.le_of_ble_eq_true rfl) (Nat.le_of_ble_eq_true rfl) dD_widthOfView_33 ⟨rfl, by unfold wv; rw [if_pos (by omega)]⟩
  · refine lv_tableIn (off := 31) (tgt := 32) hx hb dD_widthOfView_1 (by rw [show x.toInt = x.toInt from rfl]; omega) (by rw [show x.toInt = x.toInt from rfl]; omega) (by rw [show x.toInt = x.toInt from rfl, c_1]; rfl) (by decide) ?_
    refine lv_iconst (v := nI 2) hx hb dD_widthOfView_32 (by decide) ?_
    exact mp_iret hx hb hr hlocks I (Nat.le_of_ble_eq_true rfl) (Nat.le_of_ble_eq_true rfl) dD_widthOfView_33 ⟨rfl, by unfold wv; rw [if_pos (by omega)]⟩
  · refine lv_tableIn (off := 33) (tgt := 34) hx hb dD_widthOfView_1 (by rw [show x.toInt = x.toInt from rfl]; omega) (by rw [show x.toInt = x.toInt from rfl]; omega) (by rw [show x.toInt = x.toInt from rfl, c_1]; rfl) (by decide) ?_
    refine lv_iconst (v := nI 4) hx hb dD_widthOfView_34 (by decide) ?_
    exact mp_iret hx hb hr hlocks I (Nat.le_of_ble_eq_true rfl) (Nat.le_of_ble_eq_true rfl) dD_widthOfView_35 ⟨rfl, by unfold wv; rw [if_neg (by omega), if_pos (by omega)]⟩
  · refine lv_tableIn (off := 35) (tgt := 36) hx hb dD_widthOfView_1 (by rw [show x.toInt = x.toInt from rfl]; omega) (by rw [show x.toInt = x.toInt from rfl]; omega) (by rw [show x.toInt = x.toInt from rfl, c_1]; rfl) (by decide) ?_
    refine lv_bipush (v := nI 8) hx hb dD_widthOfView_36 (by decide) ?_
    exact mp_iret hx hb hr hlocks I (Nat.le_of_ble_eq_true rfl) (Nat.le_of_ble_eq_true rfl) dD_widthOfView_38 ⟨rfl, by unfold wv; rw [if_neg (by omega), if_neg (by omega), if_pos (by omega)]⟩
  · refine lv_tableOut (tgt := 39) hx hb dD_widthOfView_1 (by rw [show x.toInt = x.toInt from rfl]; exact c_1) (by decide) ?_
    refine lv_iconst (v := nI 0) hx hb dD_widthOfView_39 (by decide) ?_
    exact mp_iret hx hb hr hlocks I (Nat.le_of_ble_eq_true rfl) (Nat.le_of_ble_eq_true rfl) dD_widthOfView_40 ⟨rfl, by unfold wv; rw [if_neg (by omega), if_neg (by omega), if_neg (by omega)]⟩
/-- an act of a kind -/
def aok (a : Int) (kd : Nat) : Prop := (0 ≤ a ∧ a ≤ 3) ∨ (a = 4 ∧ kd ≠ 1 ∧ kd ≠ 7) ∨ (5 ≤ a ∧ a ≤ 7 ∧ kd ≠ 7)
abbrev rm_D_isActOf : Room := { frames := 0, cells := 0, slots := 0, locals := 0 }
set_option maxHeartbeats 4000000 in
set_option maxRecDepth 100000 in
theorem kD_isActOf (l : Launch) (D : va_G) (k : Nat → ClassId) (M : mp_M) (x : Int32) (kd : Nat) (hkd : kd ≤ 7) : mp_Met l yD_isActOf (Cond.code yD_isActOf cD_isActOf 2 (some .boolean) :: bw) rm_D_isActOf D cls5 (tys6 k) [.int x, .int (nI kd)] M (va_Qi (fun r M1 => M1 = M ∧ ((aok x.toInt kd ∧ r = nI 1) ∨ (¬ aok x.toInt kd ∧ r = nI 0)))) 0 0 := by
  refine mp_Met.of (by decide) (Nat.le_of_ble_eq_true rfl) ?_
  intro p e s m below meth c hx hb hr hml hown hts hlocks hin ls hl I
  have hl : lv_has ls 2 [(0, .int x), (1, .int (nI kd))] := hl
  refine lv_iload_n hx hb dD_isActOf_0 rfl (lv_at hl 0 rfl) ?_
  have c_1 : x.toInt = 0 ∨ x.toInt = 1 ∨ x.toInt = 2 ∨ x.toInt = 3 ∨ x.toInt = 4 ∨ x.toInt = 5 ∨ x.toInt = 6 ∨ x.toInt = 7 ∨ (x.toInt < 0 ∨ 7 < x.toInt) := by omega
  rcases c_1 with c_1 | c_1 | c_1 | c_1 | c_1 | c_1 | c_1 | c_1 | c_1
  · refine lv_tableIn (off := 47) (tgt := 48) hx hb dD_isActOf_1 (by rw [show x.toInt = x.toInt from rfl]; omega) (by rw [show x.toInt = x.toInt from rfl]; omega) (by rw [show x.toInt = x.toInt from rfl, c_1]; rfl) (by decide) ?_
    refine lv_iconst (v := nI 1) hx hb dD_isActOf_48 (by decide) ?_
    exact mp_zret hx hb hr hlocks I rfl (Nat.le_of_ble_eq_true rfl) (Nat.le_of_ble_eq_true rfl) dD_isActOf_49 ⟨rfl, Or.inl ⟨by unfold aok; omega, rfl⟩⟩
  · refine lv_tableIn (off := 47) (tgt := 48) hx hb dD_isActOf_1 (by rw [show x.toInt = x.toInt from rfl]; omega) (by rw [show x.toInt = x.toInt from rfl]; omega) (by rw [show x.toInt = x.toInt from rfl, c_1]; rfl) (by decide) ?_
    refine lv_iconst (v := nI 1) hx hb dD_isActOf_48 (by decide) ?_
    exact mp_zret hx hb hr hlocks I rfl (Nat.le_of_ble_eq_true rfl) (Nat.le_of_ble_eq_true rfl) dD_isActOf_49 ⟨rfl, Or.inl ⟨by unfold aok; omega, rfl⟩⟩
  · refine lv_tableIn (off := 47) (tgt := 48) hx hb dD_isActOf_1 (by rw [show x.toInt = x.toInt from rfl]; omega) (by rw [show x.toInt = x.toInt from rfl]; omega) (by rw [show x.toInt = x.toInt from rfl, c_1]; rfl) (by decide) ?_
    refine lv_iconst (v := nI 1) hx hb dD_isActOf_48 (by decide) ?_
    exact mp_zret hx hb hr hlocks I rfl (Nat.le_of_ble_eq_true rfl) (Nat.le_of_ble_eq_true rfl) dD_isActOf_49 ⟨rfl, Or.inl ⟨by unfold aok; omega, rfl⟩⟩
  · refine lv_tableIn (off := 47) (tgt := 48) hx hb dD_isActOf_1 (by rw [show x.toInt = x.toInt from rfl]; omega) (by rw [show x.toInt = x.toInt from rfl]; omega) (by rw [show x.toInt = x.toInt from rfl, c_1]; rfl) (by decide) ?_
    refine lv_iconst (v := nI 1) hx hb dD_isActOf_48 (by decide) ?_
    exact mp_zret hx hb hr hlocks I rfl (Nat.le_of_ble_eq_true rfl) (Nat.le_of_ble_eq_true rfl) dD_isActOf_49 ⟨rfl, Or.inl ⟨by unfold aok; omega, rfl⟩⟩
  · refine lv_tableIn (off := 49) (tgt := 50) hx hb dD_isActOf_1 (by rw [show x.toInt = x.toInt from rfl]; omega) (by rw [show x.toInt = x.toInt from rfl]; omega) (by rw [show x.toInt = x.toInt from rfl, c_1]; rfl) (by decide) ?_
    refine lv_iload_n hx hb dD_isActOf_50 rfl (lv_at hl 1 rfl) ?_
    refine lv_iconst (v := nI 1) hx hb dD_isActOf_51 (by decide) ?_
    refine zz_icmp_eq (tgt := 65) hx hb (nI_toInt (by first | assumption | omega)) (nI_toInt (by decide)) dD_isActOf_52 (by decide) (fun c_2 => ?_) (fun c_2 => ?_)
    · refine lv_iconst (v := nI 0) hx hb dD_isActOf_65 (by decide) ?_
      exact mp_zret hx hb hr hlocks I rfl (Nat.le_of_ble_eq_true rfl) (Nat.le_of_ble_eq_true rfl) dD_isActOf_66 ⟨rfl, Or.inr ⟨by unfold aok; omega, rfl⟩⟩
    · refine lv_iload_n hx hb dD_isActOf_55 rfl (lv_at hl 1 rfl) ?_
      refine lv_bipush (v := nI 7) hx hb dD_isActOf_56 (by decide) ?_
      refine zz_icmp_eq (tgt := 65) hx hb (nI_toInt (by first | assumption | omega)) (nI_toInt (by decide)) dD_isActOf_58 (by decide) (fun c_3 => ?_) (fun c_3 => ?_)
      · refine lv_iconst (v := nI 0) hx hb dD_isActOf_65 (by decide) ?_
        exact mp_zret hx hb hr hlocks I rfl (Nat.le_of_ble_eq_true rfl) (Nat.le_of_ble_eq_true rfl) dD_isActOf_66 ⟨rfl, Or.inr ⟨by unfold aok; omega, rfl⟩⟩
      · refine lv_iconst (v := nI 1) hx hb dD_isActOf_61 (by decide) ?_
        refine lv_goto (tgt := 66) hx hb dD_isActOf_62 (by decide) ?_
        exact mp_zret hx hb hr hlocks I rfl (Nat.le_of_ble_eq_true rfl) (Nat.le_of_ble_eq_true rfl) dD_isActOf_66 ⟨rfl, Or.inl ⟨by unfold aok; omega, rfl⟩⟩
  · refine lv_tableIn (off := 66) (tgt := 67) hx hb dD_isActOf_1 (by rw [show x.toInt = x.toInt from rfl]; omega) (by rw [show x.toInt = x.toInt from rfl]; omega) (by rw [show x.toInt = x.toInt from rfl, c_1]; rfl) (by decide) ?_
    refine lv_iload_n hx hb dD_isActOf_67 rfl (lv_at hl 1 rfl) ?_
    refine lv_bipush (v := nI 7) hx hb dD_isActOf_68 (by decide) ?_
    refine zz_icmp_eq (tgt := 77) hx hb (nI_toInt (by first | assumption | omega)) (nI_toInt (by decide)) dD_isActOf_70 (by decide) (fun c_4 => ?_) (fun c_4 => ?_)
    · refine lv_iconst (v := nI 0) hx hb dD_isActOf_77 (by decide) ?_
      exact mp_zret hx hb hr hlocks I rfl (Nat.le_of_ble_eq_true rfl) (Nat.le_of_ble_eq_true rfl) dD_isActOf_78 ⟨rfl, Or.inr ⟨by unfold aok; omega, rfl⟩⟩
    · refine lv_iconst (v := nI 1) hx hb dD_isActOf_73 (by decide) ?_
      refine lv_goto (tgt := 78) hx hb dD_isActOf_74 (by decide) ?_
      exact mp_zret hx hb hr hlocks I rfl (Nat.le_of_ble_eq_true rfl) (Nat.le_of_ble_eq_true rfl) dD_isActOf_78 ⟨rfl, Or.inl ⟨by unfold aok; omega, rfl⟩⟩
  · refine lv_tableIn (off := 66) (tgt := 67) hx hb dD_isActOf_1 (by rw [show x.toInt = x.toInt from rfl]; omega) (by rw [show x.toInt = x.toInt from rfl]; omega) (by rw [show x.toInt = x.toInt from rfl, c_1]; rfl) (by decide) ?_
    refine lv_iload_n hx hb dD_isActOf_67 rfl (lv_at hl 1 rfl) ?_
    refine lv_bipush (v := nI 7) hx hb dD_isActOf_68 (by decide) ?_
    refine zz_icmp_eq (tgt := 77) hx hb (nI_toInt (by first | assumption | omega)) (nI_toInt (by decide)) dD_isActOf_70 (by decide) (fun c_5 => ?_) (fun c_5 => ?_)
    · refine lv_iconst (v := nI 0) hx hb dD_isActOf_77 (by decide) ?_
      exact mp_zret hx hb hr hlocks I rfl (Nat.le_of_ble_eq_true rfl) (Nat.le_of_ble_eq_true rfl) dD_isActOf_78 ⟨rfl, Or.inr ⟨by unfold aok; omega, rfl⟩⟩
    · refine lv_iconst (v := nI 1) hx hb dD_isActOf_73 (by decide) ?_
      refine lv_goto (tgt := 78) hx hb dD_isActOf_74 (by decide) ?_
      exact mp_zret hx hb hr hlocks I rfl (Nat.le_of_ble_eq_true rfl) (Nat.le_of_ble_eq_true rfl) dD_isActOf_78 ⟨rfl, Or.inl ⟨by unfold aok; omega, rfl⟩⟩
  · refine lv_tableIn (off := 66) (tgt := 67) hx hb dD_isActOf_1 (by rw [show x.toInt = x.toInt from rfl]; omega) (by rw [show x.toInt = x.toInt from rfl]; omega) (by rw [show x.toInt = x.toInt from rfl, c_1]; rfl) (by decide) ?_
    refine lv_iload_n hx hb dD_isActOf_67 rfl (lv_at hl 1 rfl) ?_
    refine lv_bipush (v := nI 7) hx hb dD_isActOf_68 (by decide) ?_
    refine zz_icmp_eq (tgt := 77) hx hb (nI_toInt (by first | assumption | omega)) (nI_toInt (by decide)) dD_isActOf_70 (by decide) (fun c_6 => ?_) (fun c_6 => ?_)
    · refine lv_iconst (v := nI 0) hx hb dD_isActOf_77 (by decide) ?_
      exact mp_zret hx hb hr hlocks I rfl (Nat.le_of_ble_eq_true rfl) (Nat.le_of_ble_eq_true rfl) dD_isActOf_78 ⟨rfl, Or.inr ⟨by unfold aok; omega, rfl⟩⟩
    · refine lv_iconst (v := nI 1) hx hb dD_isActOf_73 (by decide) ?_
      refine lv_goto (tgt := 78) hx hb dD_isActOf_74 (by decide) ?_
      exact mp_zret hx hb hr hlocks I rfl (Nat.le_of_ble_eq_true rfl) (Nat.le_of_ble_eq_true rfl) dD_isActOf_78 ⟨rfl, Or.inl ⟨by unfold aok; omega, rfl⟩⟩
  · refine lv_tableOut (tgt := 79) hx hb dD_isActOf_1 (by rw [show x.toInt = x.toInt from rfl]; exact c_1) (by decide) ?_
    refine lv_iconst (v := nI 0) hx hb dD_isActOf_79 (by decide) ?_
    exact mp_zret hx hb hr hlocks I rfl (Nat.le_of_ble_eq_true rfl) (Nat.le_of_ble_eq_true rfl) dD_isActOf_80 ⟨rfl, Or.inr ⟨by unfold aok; omega, rfl⟩⟩
abbrev rm_N_differences : Room := { frames := 0, cells := 0, slots := 0, locals := 0 }
set_option maxHeartbeats 4000000 in
set_option maxRecDepth 100000 in
theorem kN_differences (l : Launch) (D : va_G) (k : Nat → ClassId) (M : mp_M) (h0 av r cn : Nat) (va g : Nat → Int64) (h0M : M h0 = some (.inr (3, [.ref r, .int (nI cn)]))) (hav : M av = some (.inl (k 1, 4000, .inr (.inl va)))) (hrM : M r = some (.inl (k 1, 4000, .inr (.inl g)))) (hcn : cn ≤ 4000) : mp_Met l yN_differences (Cond.code yN_differences cN_differences 4 (some .int) :: bw) rm_N_differences D cls5 (tys6 k) [.ref h0, .ref av] M (va_Qi (fun q M1 => M1 = M ∧ q = nI (dif va g cn))) 0 0 := by
  refine mp_Met.of (by decide) (Nat.le_of_ble_eq_true rfl) ?_
  intro p e s m below meth c hx hb hr hml hown hts hlocks hin ls hl I
  have hl : lv_has ls 4 [(0, .ref h0), (1, .ref av)] := hl
  refine lv_iconst (v := nI 0) hx hb dN_differences_0 (by decide) ?_
  refine lv_istore_n (lv' := [(2, .int (nI 0)), (0, .ref h0), (1, .ref av)]) hx hb dN_differences_1 rfl hl (by decide) rfl (fun ls hl => ?_)
  refine lv_iconst (v := nI 0) hx hb dN_differences_2 (by decide) ?_
  refine lv_istore_n (lv' := [(3, .int (nI 0)), (2, .int (nI 0)), (0, .ref h0), (1, .ref av)]) hx hb dN_differences_3 rfl hl (by decide) rfl (fun ls hl => ?_)
  refine mp_loop cn 4 (fun i => [(3, .int (nI i)), (2, .int (nI (dif va g i))), (0, .ref h0), (1, .ref av)]) (fun i => M) 0 (by omega) (lv_sub hl [0, 1, 2, 3] rfl) I ?_
  intro i H locs ls hi0_i hi_i hl I ih_i
  have hl : lv_has ls 4 [(3, .int (nI i)), (2, .int (nI (dif va g i))), (0, .ref h0), (1, .ref av)] := hl
  have I : mp_I D cls5 (tys6 k) s _ s.heap H locs (M) := I
  refine lv_iload_n hx hb dN_differences_4 rfl (lv_at hl 0 rfl) ?_
  refine lv_aload_n hx hb dN_differences_5 rfl (lv_at hl 2 rfl) ?_
  refine mp_get (v := .int (nI cn)) hx hb hts inN hown I h0M rfl 1 (by decide) (hts _ bw_185) (fun _ h9 => h9) rfl dN_differences_6 ?_
  refine zz_icmp_ge (tgt := 34) hx hb (nI_toInt (by first | assumption | omega)) (nI_toInt (by first | assumption | omega)) dN_differences_9 (by decide) (fun c_1 => ?_) (fun c_1 => ?_)
  · refine lv_iload_n hx hb dN_differences_34 rfl (lv_at hl 1 rfl) ?_
    exact mp_iret hx hb hr hlocks I (Nat.le_of_ble_eq_true rfl) (Nat.le_of_ble_eq_true rfl) dN_differences_35 ⟨rfl, by rw [show cn = i by omega]⟩
  · refine lv_aload_n hx hb dN_differences_12 rfl (lv_at hl 3 rfl) ?_
    refine lv_iload_n hx hb dN_differences_13 rfl (lv_at hl 0 rfl) ?_
    refine mp_lald hx hb I 1 hav rfl i rfl (by omega) (by decide) (v := va i) rfl dN_differences_14 ?_
    refine lv_aload_n hx hb dN_differences_15 rfl (lv_at hl 2 rfl) ?_
    refine mp_get (v := .ref r) hx hb hts inN hown I h0M rfl 0 (by decide) (hts _ bw_184) (fun _ h9 => h9) rfl dN_differences_16 ?_
    refine lv_iload_n hx hb dN_differences_19 rfl (lv_at hl 0 rfl) ?_
    refine mp_lald hx hb I 1 hrM rfl i rfl (by omega) (by decide) (v := g i) rfl dN_differences_20 ?_
    refine W.lcmp hx hb dN_differences_21 ?_
    refine lv_if_eq (tgt := 28) hx hb dN_differences_22 (by decide) (fun c_2 => ?_) (fun c_2 => ?_)
    all_goals rw [lg_cmp_eq] at c_2
    · have hd : dif va g (i + 1) = dif va g i + 0 := by show dif va g i + _ = _; rw [if_pos c_2]
      refine lv_iinc (v := nI (i + 1)) (lv' := [(3, .int (nI (i + 1))), (2, .int (nI (dif va g i))), (0, .ref h0), (1, .ref av)]) hx hb dN_differences_28 hl (k := 0) rfl (nI_add i 1) (by decide) rfl (fun ls hl => ?_)
      refine lv_goto (tgt := 4) hx hb dN_differences_31 (by decide) ?_
      rw [show dif va g i = dif va g (i + 1) from hd.symm] at hl
      exact ih_i _ _ _ (by omega) (lv_sub hl [0, 1, 2, 3] rfl) I
    · have hd : dif va g (i + 1) = dif va g i + 1 := by show dif va g i + _ = _; rw [if_neg c_2]
      refine lv_iinc (v := nI (dif va g i + 1)) (lv' := [(2, .int (nI (dif va g i + 1))), (3, .int (nI i)), (0, .ref h0), (1, .ref av)]) hx hb dN_differences_25 hl (k := 1) rfl (nI_add (dif va g i) 1) (by decide) rfl (fun ls hl => ?_)
      refine lv_iinc (v := nI (i + 1)) (lv' := [(3, .int (nI (i + 1))), (2, .int (nI (dif va g i + 1))), (0, .ref h0), (1, .ref av)]) hx hb dN_differences_28 hl (k := 1) rfl (nI_add i 1) (by decide) rfl (fun ls hl => ?_)
      refine lv_goto (tgt := 4) hx hb dN_differences_31 (by decide) ?_
      rw [← hd] at hl
      exact ih_i _ _ _ (by omega) (lv_sub hl [0, 1, 2, 3] rfl) I
