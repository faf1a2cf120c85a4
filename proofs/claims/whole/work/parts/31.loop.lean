theorem sub7 {L : Nat} (hL : L ≤ 3584) : (nI L - nI 7).toInt = (L : Int) - 7 := by
  rw [Int32.toInt_sub, nI_toInt (by omega), nI_toInt (by omega)]
  exact Int.bmod_eq_of_le (by omega) (by omega)
theorem and15 (x : Int32) : ∃ t : Nat, t < 16 ∧ x &&& nI 15 = nI t := by
  have e : x = nI x.toBitVec.toNat := by
    apply Int32.toBitVec_inj.1
    show x.toBitVec = BitVec.ofNat 32 x.toBitVec.toNat
    simp
  refine ⟨x.toBitVec.toNat % 16, Nat.mod_lt _ (by omega), ?_⟩
  have e2 : ∀ a b : Nat, nI a &&& nI b = nI (a &&& b) := by
    intro a b
    apply Int32.toBitVec_inj.1
    show BitVec.ofNat 32 a &&& BitVec.ofNat 32 b = BitVec.ofNat 32 (a &&& b)
    apply BitVec.eq_of_getLsbD_eq
    intro i hi
    simp [hi]
  calc x &&& nI 15 = nI x.toBitVec.toNat &&& nI 15 := by rw [← e]
    _ = nI (x.toBitVec.toNat &&& 15) := e2 _ _
    _ = nI (x.toBitVec.toNat % 16) := by rw [show (15 : Nat) = 2 ^ 4 - 1 from rfl, Nat.and_two_pow_sub_one_eq_mod]
set_option maxHeartbeats 4000000 in
set_option maxRecDepth 100000 in
/-- THE LAW'S LOOP: at its head, with j rows read, both hold the same -/
theorem law_loop {p : Program} {l : Launch} {e : Env} {s : State} {m : MethodId} {below : List Frame} {meth : Method} {c : Code} {b L : Nat} {xs : Nat → Int32} (hL : L ≤ 3584) (C0 : lw_At p s m meth c b L xs) {D : va_G} {k : Nat → ClassId} {d mo o : Nat} (hst : l.stackTraces = false) {s1 s2 s3 s4 : Nat} (hXk : xK s1 s2 s3 s4 s) (hU : vx_Zq Bundle.tN "UNASSIGNED_STACK" Bundle.steD (fun q : Nat => s.heap.size ≤ q) s s.heap) (hN : vx_Zq Bundle.tN "SUPPRESSED_SENTINEL" Bundle.listD (fun q : Nat => s.heap.size ≤ q) s s.heap) :
    ∀ (n j : Nat) (H : Heap) (locs : List Loc) (ls : Array Slot), 512 < j + n → 7 * j ≤ L → LWd D k s b d mo o (7 * j) H locs ls → W p l e room_1 s m #[Value.ref b] below meth c H locs (21 + 2 * j) (97794 + 4002 * j) (lw_Z below #[Value.ref b] s) (F0 m 23 ls []) := by
  obtain ⟨hx, hb, hr, hml, hown, hts, hX, hbl, hlocks, hgv⟩ := id C0
  have hbA : ¬ (fun q : Nat => s.heap.size ≤ q) b := Nat.not_le.mpr hbl
  intro n
  induction n with
  | zero => exact fun j H locs ls h1 h2 => absurd h1 (by omega)
  | succ n ih =>
    intro j H locs ls h1 h2 Z
    obtain ⟨Md, Mm, ov, J, hZ, hl⟩ := id Z
    have hS := J.1.2.2.1
    refine lv_iload hx hb dL_law_23 (lv_at hl 4 rfl) ?_
    refine lv_aload_n hx hb dL_law_25 rfl (lv_at hl 0 rfl) ?_
    refine va_slen hx hb hX hbl hbA hS dL_law_26 ?_
    refine lv_bipush (v := nI 7) hx hb dL_law_27 (by decide) ?_
    refine lv_isub hx hb dL_law_29 ?_
    refine zz_icmp_gt (tgt := 695) hx hb (nI_toInt (n := 7 * j) (by omega)) (sub7 hL) dL_law_30 (by decide) (fun c_1 => ?_) (fun c_1 => ?_)
    · refine lv_iconst (v := 1) hx hb dL_law_695 (by decide) ?_
      refine va_forget (fun q hq => hS.2.2 q hq) ?_
      refine W.widen (k := 434553) (n := 7792446) (by omega) (by omega) ?_
      exact lw_ret hx hb hr hlocks dL_law_696
    · have hi : 7 * j + 7 ≤ L := by omega
      have kk : ∀ (H : Heap) (locs : List Loc) (ls : Array Slot), LWd D k s b d mo o (7 * j) H locs ls → W p l e room_1 s m #[Value.ref b] below meth c H locs (21 + 2 * j + 2) (97794 + 4002 * j + 4002) (lw_Z below #[Value.ref b] s) (F0 m 689 ls []) := by
        intro H locs ls Z
        obtain ⟨Md, Mm, ov, J, hZ, hl⟩ := Z
        refine lv_iinc (v := nI (7 * j + 7)) (lv' := [(4, .int (nI (7 * j + 7))), (0, .ref b), (1, .ref d), (2, .ref mo), (3, .ref o)]) hx hb dL_law_689 hl (k := 4) rfl (nI_add (7 * j) 7) (by decide) rfl (fun ls hl => ?_)
        refine lv_goto (tgt := 23) hx hb dL_law_692 (by decide) ?_
        exact ih (j + 1) H locs ls (by omega) (by omega) ⟨Md, Mm, ov, J, hZ, lv_sub hl [1, 2, 3, 4, 0] rfl⟩
      refine lv_aload_n hx hb dL_law_33 rfl (lv_at hl 0 rfl) ?_
      refine lv_iload hx hb dL_law_34 (lv_at hl 4 rfl) ?_
      refine lj_sld hx hb hX hbl hbA hS (n := 7 * j) (by omega) hL dL_law_36 ?_
      refine lv_bipush (v := nI 15) hx hb dL_law_37 (by decide) ?_
      refine lv_iand hx hb dL_law_39 ?_
      obtain ⟨t, ht, et⟩ := and15 (xs (7 * j))
      rw [et]
      have hzt : (nI t).toInt = (t : Int) := nI_toInt (by omega)
      have c_2 : (t : Int) = 0 ∨ (t : Int) = 1 ∨ (t : Int) = 2 ∨ (t : Int) = 3 ∨ (t : Int) = 4 ∨ (t : Int) = 5 ∨ (t : Int) = 6 ∨ (t : Int) = 7 ∨ (t : Int) = 8 ∨ (t : Int) = 9 ∨ (t : Int) = 10 ∨ (t : Int) = 11 ∨ (t : Int) = 12 ∨ ((t : Int) < 0 ∨ 12 < (t : Int)) := by omega
      rcases c_2 with c_2 | c_2 | c_2 | c_2 | c_2 | c_2 | c_2 | c_2 | c_2 | c_2 | c_2 | c_2 | c_2 | c_2
      · refine lv_tableIn (off := 68) (tgt := 108) hx hb dL_law_40 (by rw [hzt]; omega) (by rw [hzt]; omega) (by rw [hzt, c_2]; rfl) (by decide) ?_
        exact lc_row C0 hL hi (by omega) (by omega) Z kk
      · refine lv_tableIn (off := 105) (tgt := 145) hx hb dL_law_40 (by rw [hzt]; omega) (by rw [hzt]; omega) (by rw [hzt, c_2]; rfl) (by decide) ?_
        exact lc_put C0 hL hi (by omega) (by omega) Z kk
      · refine lv_tableIn (off := 130) (tgt := 170) hx hb dL_law_40 (by rw [hzt]; omega) (by rw [hzt]; omega) (by rw [hzt, c_2]; rfl) (by decide) ?_
        exact lc_instance C0 hL hi (by omega) (by omega) Z kk
      · refine lv_tableIn (off := 143) (tgt := 183) hx hb dL_law_40 (by rw [hzt]; omega) (by rw [hzt]; omega) (by rw [hzt, c_2]; rfl) (by decide) ?_
        exact lc_object C0 hL hi (by omega) (by omega) Z kk
      · refine lv_tableIn (off := 180) (tgt := 220) hx hb dL_law_40 (by rw [hzt]; omega) (by rw [hzt]; omega) (by rw [hzt, c_2]; rfl) (by decide) ?_
        exact lc_place C0 hL hi (by omega) (by omega) Z kk
      · refine lv_tableIn (off := 217) (tgt := 257) hx hb dL_law_40 (by rw [hzt]; omega) (by rw [hzt]; omega) (by rw [hzt, c_2]; rfl) (by decide) ?_
        exact lc_view C0 hL hi (by omega) (by omega) Z kk
      · refine lv_tableIn (off := 294) (tgt := 334) hx hb dL_law_40 (by rw [hzt]; omega) (by rw [hzt]; omega) (by rw [hzt, c_2]; rfl) (by decide) ?_
        exact lc_kindOf C0 hL hi (by omega) (by omega) Z kk
      · refine lv_tableIn (off := 319) (tgt := 359) hx hb dL_law_40 (by rw [hzt]; omega) (by rw [hzt]; omega) (by rw [hzt, c_2]; rfl) (by decide) ?_
        exact lc_act C0 hL hi (by omega) (by omega) hst hXk hU hN Z kk
      · refine lv_tableIn (off := 476) (tgt := 516) hx hb dL_law_40 (by rw [hzt]; omega) (by rw [hzt]; omega) (by rw [hzt, c_2]; rfl) (by decide) ?_
        exact lc_copy C0 hL hi (by omega) (by omega) Z kk
      · refine lv_tableIn (off := 549) (tgt := 589) hx hb dL_law_40 (by rw [hzt]; omega) (by rw [hzt]; omega) (by rw [hzt, c_2]; rfl) (by decide) ?_
        exact lc_meet C0 hL hi (by omega) (by omega) Z kk
      · refine lv_tableIn (off := 586) (tgt := 626) hx hb dL_law_40 (by rw [hzt]; omega) (by rw [hzt]; omega) (by rw [hzt, c_2]; rfl) (by decide) ?_
        exact lc_mark C0 hL hi (by omega) (by omega) Z kk
      · refine lv_tableIn (off := 599) (tgt := 639) hx hb dL_law_40 (by rw [hzt]; omega) (by rw [hzt]; omega) (by rw [hzt, c_2]; rfl) (by decide) ?_
        exact lc_back C0 hL hi (by omega) (by omega) Z kk
      · refine lv_tableIn (off := 624) (tgt := 664) hx hb dL_law_40 (by rw [hzt]; omega) (by rw [hzt]; omega) (by rw [hzt, c_2]; rfl) (by decide) ?_
        exact lc_changed C0 hL hi (by omega) (by omega) Z kk
      · refine lv_tableOut (tgt := 689) hx hb dL_law_40 (by rw [hzt]; exact c_2) (by decide) ?_
        refine W.widen (k := 21 + 2 * j + 2) (n := 97794 + 4002 * j + 4002) (by omega) (by omega) ?_
        exact kk _ _ _ Z
