set_option maxHeartbeats 4000000 in
set_option maxRecDepth 100000 in
theorem lc_act {p : Program} {l : Launch} {e : Env} {s : State} {m : MethodId} {below : List Frame} {meth : Method} {c : Code} {Q : State → Prop} {b L : Nat} {xs : Nat → Int32} (C0 : lw_At p s m meth c b L xs) {D : va_G} {k : Nat → ClassId} {d mo o i cells slots : Nat} {H : Heap} {locs : List Loc} {ls : Array Slot} (hL : L ≤ 3584) (hi : i + 7 ≤ L) (hc : cells + 2 ≤ 434553) (hs : slots + 4002 ≤ 7792446) (hst : l.stackTraces = false) {s1 s2 s3 s4 : Nat} (hXk : xK s1 s2 s3 s4 s) (hU : vx_Zq Bundle.tN "UNASSIGNED_STACK" Bundle.steD (fun q : Nat => s.heap.size ≤ q) s s.heap) (hN : vx_Zq Bundle.tN "SUPPRESSED_SENTINEL" Bundle.listD (fun q : Nat => s.heap.size ≤ q) s s.heap) (Z : LWd D k s b d mo o i H locs ls)
    (kk : ∀ (H : Heap) (locs : List Loc) (ls : Array Slot), LWd D k s b d mo o i H locs ls → W p l e room_1 s m #[Value.ref b] below meth c H locs (cells + 2) (slots + 4002) Q (F0 m 689 ls [])) :
    W p l e room_1 s m #[Value.ref b] below meth c H locs cells slots Q (F0 m 359 ls []) := by
  obtain ⟨hx, hb, hr, hml, hown, hts0, hX, hbl, hlocks, hgv⟩ := C0
  have hts : ∀ w ∈ bw, w.before #[Value.ref b] s = true := fun w h => hts0 w (bw_in h)
  have hown : s.vm.findClass "PlaceDeskLaw" = some m.cls := hown
  have hbA : ¬ (fun q : Nat => s.heap.size ≤ q) b := Nat.not_le.mpr hbl
  obtain ⟨Md, Mm, ov, J, hZ, hl⟩ := Z
  obtain ⟨av, ak, at_, aw, as_, an, qt, qs, qn, sa, ra, ec, tc, wc, sc, nc, va, kd, wt, tk, tf, tz, sk, sf, sw, sl, nn, nv, el, ek, bg, sz, kn, rw, pp, pk, wd, lo, kp, ks, th, mk, ml, hD, hE, hI⟩ := hZ
  refine lv_aload_n hx hb dL_law_359 rfl (lv_at hl 1 rfl) ?_
  refine lv_aload_n hx hb dL_law_360 rfl (lv_at hl 0 rfl) ?_
  refine lv_iload hx hb dL_law_361 (lv_at hl 4 rfl) ?_
  refine lv_iconst (v := nI 1) hx hb dL_law_363 (by decide) ?_
  refine zz_iadd hx hb dL_law_364 ?_
  refine lj_sld hx hb hX hbl hbA J.1.2.2.1 (n := i + 1) (by omega) hL dL_law_365 ?_
  refine lv_aload_n hx hb dL_law_366 rfl (lv_at hl 0 rfl) ?_
  refine lv_iload hx hb dL_law_367 (lv_at hl 4 rfl) ?_
  refine lv_iconst (v := nI 2) hx hb dL_law_369 (by decide) ?_
  refine zz_iadd hx hb dL_law_370 ?_
  refine lj_sld hx hb hX hbl hbA J.1.2.2.1 (n := i + 2) (by omega) hL dL_law_371 ?_
  refine lv_aload_n hx hb dL_law_372 rfl (lv_at hl 0 rfl) ?_
  refine lv_iload hx hb dL_law_373 (lv_at hl 4 rfl) ?_
  refine lv_iconst (v := nI 3) hx hb dL_law_375 (by decide) ?_
  refine zz_iadd hx hb dL_law_376 ?_
  refine lj_sld hx hb hX hbl hbA J.1.2.2.1 (n := i + 3) (by omega) hL dL_law_377 ?_
  refine lv_i2l (v := (xs (i + 3)).toInt64) hx hb dL_law_378 rfl ?_
  refine lv_bipush (v := nI 32) hx hb dL_law_379 (by decide) ?_
  refine lv_lshl (v := ((xs (i + 3)).toInt64) <<< ((nI 32).toInt64 &&& 63)) hx hb dL_law_381 rfl ?_
  refine lv_aload_n hx hb dL_law_382 rfl (lv_at hl 0 rfl) ?_
  refine lv_iload hx hb dL_law_383 (lv_at hl 4 rfl) ?_
  refine lv_iconst (v := nI 4) hx hb dL_law_385 (by decide) ?_
  refine zz_iadd hx hb dL_law_386 ?_
  refine lj_sld hx hb hX hbl hbA J.1.2.2.1 (n := i + 4) (by omega) hL dL_law_387 ?_
  refine lv_i2l (v := (xs (i + 4)).toInt64) hx hb dL_law_388 rfl ?_
  refine lv_ldc2 (v := 4294967295) hx hb hown (hts _ bw_484) dL_law_389 ?_
  refine lv_land hx hb dL_law_392 ?_
  refine lv_lor hx hb dL_law_393 ?_
  refine lv_aload_n hx hb dL_law_394 rfl (lv_at hl 0 rfl) ?_
  refine lv_iload hx hb dL_law_395 (lv_at hl 4 rfl) ?_
  refine lv_iconst (v := nI 5) hx hb dL_law_397 (by decide) ?_
  refine zz_iadd hx hb dL_law_398 ?_
  refine lj_sld hx hb hX hbl hbA J.1.2.2.1 (n := i + 5) (by omega) hL dL_law_399 ?_
  refine lv_i2l (v := (xs (i + 5)).toInt64) hx hb dL_law_400 rfl ?_
  refine lv_bipush (v := nI 32) hx hb dL_law_401 (by decide) ?_
  refine lv_lshl (v := ((xs (i + 5)).toInt64) <<< ((nI 32).toInt64 &&& 63)) hx hb dL_law_403 rfl ?_
  refine lv_aload_n hx hb dL_law_404 rfl (lv_at hl 0 rfl) ?_
  refine lv_iload hx hb dL_law_405 (lv_at hl 4 rfl) ?_
  refine lv_bipush (v := nI 6) hx hb dL_law_407 (by decide) ?_
  refine zz_iadd hx hb dL_law_409 ?_
  refine lj_sld hx hb hX hbl hbA J.1.2.2.1 (n := i + 6) (by omega) hL dL_law_410 ?_
  refine lv_i2l (v := (xs (i + 6)).toInt64) hx hb dL_law_411 rfl ?_
  refine lv_ldc2 (v := 4294967295) hx hb hown (hts _ bw_484) dL_law_412 ?_
  refine lv_land hx hb dL_law_415 ?_
  refine lv_lor hx hb dL_law_416 ?_
  refine lv_aload_n hx hb dL_law_417 rfl (lv_at hl 3 rfl) ?_
  have hoN := J.out
  have J := J.join
  have hGI : GoodIn bw (va_wsS "PlaceDeskLaw" 54 yL_act (Cond.codeWith yL_act cL_act 9 (some .int) [(0, 13, 16, 13)] :: bw)) := bw_call (ws := [.methodLink "PlaceDeskLaw" 54 yL_act, .static yL_act, .initialized "PlaceDeskLaw"]) (List.forall_mem_cons.mpr ⟨bw_216, List.forall_mem_cons.mpr ⟨bw_217, List.forall_mem_cons.mpr ⟨bw_0, fun _ h => absurd h List.not_mem_nil⟩⟩⟩) bw_218
  refine lj_i (vx_runSW (As := [.ref d, .int (xs (i + 1)), .int (xs (i + 2)), .long ((((xs (i + 3)).toInt64) <<< ((nI 32).toInt64 &&& 63)) ||| (((xs (i + 4)).toInt64) &&& 4294967295)), .long ((((xs (i + 5)).toInt64) <<< ((nI 32).toInt64 &&& 63)) ||| (((xs (i + 6)).toInt64) &&& 4294967295)), .ref o]) (rest := []) ⟨hx, hb, hml, hown, hts⟩ (kL_act l hst D k (mp_up Md o (.inl (k 1, 1, .inr (.inl ov)))) s1 s2 s3 s4 (DkX.fresh o _ hoN hD) hI.1 o ov (mp_up_s _ _ _) (xs (i + 1)) (xs (i + 2)) (((xs (i + 3)).toInt64 <<< ((nI 32).toInt64 &&& 63)) ||| ((xs (i + 4)).toInt64 &&& 4294967295)) (((xs (i + 5)).toInt64 <<< ((nI 32).toInt64 &&& 63)) ||| ((xs (i + 6)).toInt64 &&& 4294967295)) _) (vx_cwSW 6 hts hGI rfl rfl rfl (by decide +kernel) ⟨Nat.le_of_ble_eq_true rfl, Nat.le_of_ble_eq_true rfl⟩) ⟨ac_blind, fun U hU9 hW => ⟨rfl, by rw [hU9], by rw [hU9]; exact J.1.2.1.weaken (fun _ _ _ _ => trivial), mp_K.warm hW J.1.1, xK.warm hW hXk, by rw [hU9]; exact vx_Zq.moved hW.alike ((hU.kept J.1.2.2.1.2.1).narrow (mp_sub J.1)), by rw [hU9]; exact vx_Zq.moved hW.alike ((hN.kept J.1.2.2.1.2.1).narrow (mp_sub J.1))⟩⟩ rfl rfl hl.1 rfl (lv_room (Nat.le_of_ble_eq_true rfl)) dL_law_418 ⟨show _ + 1 ≤ 434553 by omega, show _ + 6 ≤ 7792446 by omega⟩) J (fun r1 M1 H locs hp1 J => ?_)
  rcases hp1 with ⟨hg, rfl, e1⟩ | ⟨hg, rfl, e1⟩
  · have hne : o ≠ av := fun z => by rw [z, hD.2.1] at hoN; cases hoN
    have J := (J.split (N := mp_up Md av (.inl (k 1, 4000, .inr (.inl (acv va sk sf sw sl (xs (i + 1)).toInt (xs (i + 2)).toInt (((xs (i + 3)).toInt64 <<< ((nI 32).toInt64 &&& 63)) ||| ((xs (i + 4)).toInt64 &&& 4294967295)) (((xs (i + 5)).toInt64 <<< ((nI 32).toInt64 &&& 63)) ||| ((xs (i + 6)).toInt64 &&& 4294967295))))))) (o := o) (e1 := .inl (k 1, 1, .inr (.inl (vp_updL ov 0 (acr va sk sf sw sl (xs (i + 1)).toInt (xs (i + 2)).toInt (((xs (i + 3)).toInt64 <<< ((nI 32).toInt64 &&& 63)) ||| ((xs (i + 4)).toInt64 &&& 4294967295)) (((xs (i + 5)).toInt64 <<< ((nI 32).toInt64 &&& 63)) ||| ((xs (i + 6)).toInt64 &&& 4294967295))).1)))) (by rw [e1]; exact up_part hoN hne) (by rw [e1]; exact mp_up_s _ _ _) ((mp_up_n hne).trans hoN)).rot
    refine lv_istore (lv' := [(5, .int (nI 0)), (0, .ref b), (1, .ref d), (2, .ref mo), (3, .ref o), (4, .int (nI i))]) hx hb dL_law_421 hl (by decide) rfl (fun ls hl => ?_)
    refine lv_aload_n hx hb dL_law_423 rfl (lv_at hl 3 rfl) ?_
    refine lv_aload_n hx hb dL_law_424 rfl (lv_at hl 1 rfl) ?_
    refine lv_iload hx hb dL_law_425 (lv_at hl 5 rfl) ?_
    refine lv_iconst (v := nI 1) hx hb dL_law_427 (by decide) ?_
    refine zz_iadd hx hb dL_law_428 ?_
    refine lj_sld hx hb hX hbl hbA J.1.2.2.1 (n := i + 1) (by omega) hL dL_law_429 ?_
    refine lv_aload_n hx hb dL_law_430 rfl (lv_at hl 1 rfl) ?_
    refine lv_iload hx hb dL_law_431 (lv_at hl 5 rfl) ?_
    refine lv_iconst (v := nI 2) hx hb dL_law_433 (by decide) ?_
    refine zz_iadd hx hb dL_law_434 ?_
    refine lj_sld hx hb hX hbl hbA J.1.2.2.1 (n := i + 2) (by omega) hL dL_law_435 ?_
    refine lv_aload_n hx hb dL_law_436 rfl (lv_at hl 1 rfl) ?_
    refine lv_iload hx hb dL_law_437 (lv_at hl 5 rfl) ?_
    refine lv_iconst (v := nI 3) hx hb dL_law_439 (by decide) ?_
    refine zz_iadd hx hb dL_law_440 ?_
    refine lj_sld hx hb hX hbl hbA J.1.2.2.1 (n := i + 3) (by omega) hL dL_law_441 ?_
    refine lv_i2l (v := (xs (i + 3)).toInt64) hx hb dL_law_442 rfl ?_
    refine lv_bipush (v := nI 32) hx hb dL_law_443 (by decide) ?_
    refine lv_lshl (v := ((xs (i + 3)).toInt64) <<< ((nI 32).toInt64 &&& 63)) hx hb dL_law_445 rfl ?_
    refine lv_aload_n hx hb dL_law_446 rfl (lv_at hl 1 rfl) ?_
    refine lv_iload hx hb dL_law_447 (lv_at hl 5 rfl) ?_
    refine lv_iconst (v := nI 4) hx hb dL_law_449 (by decide) ?_
    refine zz_iadd hx hb dL_law_450 ?_
    refine lj_sld hx hb hX hbl hbA J.1.2.2.1 (n := i + 4) (by omega) hL dL_law_451 ?_
    refine lv_i2l (v := (xs (i + 4)).toInt64) hx hb dL_law_452 rfl ?_
    refine lv_ldc2 (v := 4294967295) hx hb hown (hts _ bw_484) dL_law_453 ?_
    refine lv_land hx hb dL_law_456 ?_
    refine lv_lor hx hb dL_law_457 ?_
    refine lv_aload_n hx hb dL_law_458 rfl (lv_at hl 1 rfl) ?_
    refine lv_iload hx hb dL_law_459 (lv_at hl 5 rfl) ?_
    refine lv_iconst (v := nI 5) hx hb dL_law_461 (by decide) ?_
    refine zz_iadd hx hb dL_law_462 ?_
    refine lj_sld hx hb hX hbl hbA J.1.2.2.1 (n := i + 5) (by omega) hL dL_law_463 ?_
    refine lv_i2l (v := (xs (i + 5)).toInt64) hx hb dL_law_464 rfl ?_
    refine lv_bipush (v := nI 32) hx hb dL_law_465 (by decide) ?_
    refine lv_lshl (v := ((xs (i + 5)).toInt64) <<< ((nI 32).toInt64 &&& 63)) hx hb dL_law_467 rfl ?_
    refine lv_aload_n hx hb dL_law_468 rfl (lv_at hl 1 rfl) ?_
    refine lv_iload hx hb dL_law_469 (lv_at hl 5 rfl) ?_
    refine lv_bipush (v := nI 6) hx hb dL_law_471 (by decide) ?_
    refine zz_iadd hx hb dL_law_473 ?_
    refine lj_sld hx hb hX hbl hbA J.1.2.2.1 (n := i + 6) (by omega) hL dL_law_474 ?_
    refine lv_i2l (v := (xs (i + 6)).toInt64) hx hb dL_law_475 rfl ?_
    refine lv_ldc2 (v := 4294967295) hx hb hown (hts _ bw_484) dL_law_476 ?_
    refine lv_land hx hb dL_law_479 ?_
    refine lv_lor hx hb dL_law_480 ?_
    refine lj_l (va_runV (As := [.int (xs (i + 1)), .int (xs (i + 2)), .long ((((xs (i + 3)).toInt64) <<< ((nI 32).toInt64 &&& 63)) ||| (((xs (i + 4)).toInt64) &&& 4294967295)), .long ((((xs (i + 5)).toInt64) <<< ((nI 32).toInt64 &&& 63)) ||| (((xs (i + 6)).toInt64) &&& 4294967295))]) (rest := []) ⟨hx, hb, hml, hown, hts⟩ (kM_act l D k Mm hE hI.2.1 (xs (i + 1)) (xs (i + 2)) (((xs (i + 3)).toInt64 <<< ((nI 32).toInt64 &&& 63)) ||| ((xs (i + 4)).toInt64 &&& 4294967295)) (((xs (i + 5)).toInt64 <<< ((nI 32).toInt64 &&& 63)) ||| ((xs (i + 6)).toInt64 &&& 4294967295)) _) (cwV 4 hts (bw_V bw_439 bw_440 bw_441 bw_2 bw_442) rfl rfl rfl (by decide +kernel) ⟨Nat.le_of_ble_eq_true rfl, Nat.le_of_ble_eq_true rfl⟩) (mp_preV J.1 hE.1 rfl _) rfl rfl hl.1 rfl (lv_room (Nat.le_of_ble_eq_true rfl)) dL_law_481 ⟨show _ + 0 ≤ 434553 by omega, show _ + 0 ≤ 7792446 by omega⟩) J (fun r2 M2 H locs hp2 J => ?_)
    rcases hp2 with ⟨-, e2, hE1⟩ | ⟨hg2, -⟩
    rotate_left
    · exact absurd hg hg2
    refine lv_lstore (lv' := [(6, .long r2), (5, .int (nI 0)), (0, .ref b), (1, .ref d), (2, .ref mo), (3, .ref o), (4, .int (nI i))]) hx hb dL_law_484 hl (by decide) rfl (fun ls hl => ?_)
    refine lv_aload_n hx hb dL_law_486 rfl (lv_at hl 4 rfl) ?_
    refine lj_i (va_runV (As := []) (rest := []) ⟨hx, hb, hml, hown, hts⟩ (kM_thrown l D k M2 hE1 hI.2.1 _) (cwV 0 hts (bw_V bw_387 bw_388 bw_389 bw_2 bw_390) rfl rfl rfl (by decide +kernel) ⟨Nat.le_of_ble_eq_true rfl, Nat.le_of_ble_eq_true rfl⟩) (mp_preV J.1 hE1.1 rfl _) rfl rfl hl.1 rfl (lv_room (Nat.le_of_ble_eq_true rfl)) dL_law_487 ⟨show _ + 0 ≤ 434553 by omega, show _ + 0 ≤ 7792446 by omega⟩) J (fun r3 M3 H locs hp3 J => ?_)
    obtain ⟨e3, rfl⟩ := hp3
    rw [e3] at J
    have J := J.rot
    refine lv_iload hx hb dL_law_490 (lv_at hl 1 rfl) ?_
    refine zz_icmp_eq (tgt := 497) hx hb (nI_toInt (by decide)) (nI_toInt (by decide)) dL_law_492 (by decide) (fun _ => ?_) (fun c_1 => absurd c_1 (by decide))
    refine lv_iload hx hb dL_law_497 (lv_at hl 1 rfl) ?_
    refine zz_if_ne (tgt := 513) hx hb (nI_toInt (by decide)) dL_law_499 (by decide) (fun c_2 => absurd c_2 (by decide)) (fun _ => ?_)
    refine lv_aload_n hx hb dL_law_502 rfl (lv_at hl 5 rfl) ?_
    refine lv_iconst (v := nI 0) hx hb dL_law_503 (by decide) ?_
    refine mp_lald hx hb J.2.2.1 1 (mp_1s _ _) rfl 0 rfl (by decide) (by decide) (v := (acr va sk sf sw sl (xs (i + 1)).toInt (xs (i + 2)).toInt (((xs (i + 3)).toInt64 <<< ((nI 32).toInt64 &&& 63)) ||| ((xs (i + 4)).toInt64 &&& 4294967295)) (((xs (i + 5)).toInt64 <<< ((nI 32).toInt64 &&& 63)) ||| ((xs (i + 6)).toInt64 &&& 4294967295))).1) (if_pos rfl) dL_law_504 ?_
    refine lv_lload hx hb dL_law_505 (lv_at hl 0 rfl) ?_
    obtain ⟨hI2, ea, ew⟩ := hI.act hg
    rw [ea] at e2
    rw [ew] at hE1
    refine W.lcmp hx hb dL_law_507 ?_
    refine lv_if_eq (tgt := 513) hx hb dL_law_508 (by decide) (fun c => ?_) (fun c => absurd (by rw [lg_cmp_eq, e2]) c)
    refine lv_goto (tgt := 689) hx hb dL_law_513 (by decide) ?_
    have hZ : LSt k d mo _ _ := LSt.mk (hD.setV (acv va sk sf sw sl (xs (i + 1)).toInt (xs (i + 2)).toInt (((xs (i + 3)).toInt64 <<< ((nI 32).toInt64 &&& 63)) ||| ((xs (i + 4)).toInt64 &&& 4294967295)) (((xs (i + 5)).toInt64 <<< ((nI 32).toInt64 &&& 63)) ||| ((xs (i + 6)).toInt64 &&& 4294967295)))) hE1 hI2
    have hl : lv_has ls 8 [(0, .ref b), (1, .ref d), (2, .ref mo), (3, .ref o), (4, .int (nI i))] := lv_sub hl [2, 3, 4, 5, 6] rfl
    refine W.widen (k := cells + 2) (n := slots + 4002) (by omega) (by omega) ?_
    exact kk _ _ _ ⟨_, _, _, J, hZ, hl⟩
  · have J := (J.split (N := Md) (o := o) (e1 := .inl (k 1, 1, .inr (.inl ov))) (by rw [e1]; exact up_part0 hoN) (by rw [e1]; exact mp_up_s _ _ _) hoN).rot
    refine lv_istore (lv' := [(5, .int (nI 1)), (0, .ref b), (1, .ref d), (2, .ref mo), (3, .ref o), (4, .int (nI i))]) hx hb dL_law_421 hl (by decide) rfl (fun ls hl => ?_)
    refine lv_aload_n hx hb dL_law_423 rfl (lv_at hl 3 rfl) ?_
    refine lv_aload_n hx hb dL_law_424 rfl (lv_at hl 1 rfl) ?_
    refine lv_iload hx hb dL_law_425 (lv_at hl 5 rfl) ?_
    refine lv_iconst (v := nI 1) hx hb dL_law_427 (by decide) ?_
    refine zz_iadd hx hb dL_law_428 ?_
    refine lj_sld hx hb hX hbl hbA J.1.2.2.1 (n := i + 1) (by omega) hL dL_law_429 ?_
    refine lv_aload_n hx hb dL_law_430 rfl (lv_at hl 1 rfl) ?_
    refine lv_iload hx hb dL_law_431 (lv_at hl 5 rfl) ?_
    refine lv_iconst (v := nI 2) hx hb dL_law_433 (by decide) ?_
    refine zz_iadd hx hb dL_law_434 ?_
    refine lj_sld hx hb hX hbl hbA J.1.2.2.1 (n := i + 2) (by omega) hL dL_law_435 ?_
    refine lv_aload_n hx hb dL_law_436 rfl (lv_at hl 1 rfl) ?_
    refine lv_iload hx hb dL_law_437 (lv_at hl 5 rfl) ?_
    refine lv_iconst (v := nI 3) hx hb dL_law_439 (by decide) ?_
    refine zz_iadd hx hb dL_law_440 ?_
    refine lj_sld hx hb hX hbl hbA J.1.2.2.1 (n := i + 3) (by omega) hL dL_law_441 ?_
    refine lv_i2l (v := (xs (i + 3)).toInt64) hx hb dL_law_442 rfl ?_
    refine lv_bipush (v := nI 32) hx hb dL_law_443 (by decide) ?_
    refine lv_lshl (v := ((xs (i + 3)).toInt64) <<< ((nI 32).toInt64 &&& 63)) hx hb dL_law_445 rfl ?_
    refine lv_aload_n hx hb dL_law_446 rfl (lv_at hl 1 rfl) ?_
    refine lv_iload hx hb dL_law_447 (lv_at hl 5 rfl) ?_
    refine lv_iconst (v := nI 4) hx hb dL_law_449 (by decide) ?_
    refine zz_iadd hx hb dL_law_450 ?_
    refine lj_sld hx hb hX hbl hbA J.1.2.2.1 (n := i + 4) (by omega) hL dL_law_451 ?_
    refine lv_i2l (v := (xs (i + 4)).toInt64) hx hb dL_law_452 rfl ?_
    refine lv_ldc2 (v := 4294967295) hx hb hown (hts _ bw_484) dL_law_453 ?_
    refine lv_land hx hb dL_law_456 ?_
    refine lv_lor hx hb dL_law_457 ?_
    refine lv_aload_n hx hb dL_law_458 rfl (lv_at hl 1 rfl) ?_
    refine lv_iload hx hb dL_law_459 (lv_at hl 5 rfl) ?_
    refine lv_iconst (v := nI 5) hx hb dL_law_461 (by decide) ?_
    refine zz_iadd hx hb dL_law_462 ?_
    refine lj_sld hx hb hX hbl hbA J.1.2.2.1 (n := i + 5) (by omega) hL dL_law_463 ?_
    refine lv_i2l (v := (xs (i + 5)).toInt64) hx hb dL_law_464 rfl ?_
    refine lv_bipush (v := nI 32) hx hb dL_law_465 (by decide) ?_
    refine lv_lshl (v := ((xs (i + 5)).toInt64) <<< ((nI 32).toInt64 &&& 63)) hx hb dL_law_467 rfl ?_
    refine lv_aload_n hx hb dL_law_468 rfl (lv_at hl 1 rfl) ?_
    refine lv_iload hx hb dL_law_469 (lv_at hl 5 rfl) ?_
    refine lv_bipush (v := nI 6) hx hb dL_law_471 (by decide) ?_
    refine zz_iadd hx hb dL_law_473 ?_
    refine lj_sld hx hb hX hbl hbA J.1.2.2.1 (n := i + 6) (by omega) hL dL_law_474 ?_
    refine lv_i2l (v := (xs (i + 6)).toInt64) hx hb dL_law_475 rfl ?_
    refine lv_ldc2 (v := 4294967295) hx hb hown (hts _ bw_484) dL_law_476 ?_
    refine lv_land hx hb dL_law_479 ?_
    refine lv_lor hx hb dL_law_480 ?_
    refine lj_l (va_runV (As := [.int (xs (i + 1)), .int (xs (i + 2)), .long ((((xs (i + 3)).toInt64) <<< ((nI 32).toInt64 &&& 63)) ||| (((xs (i + 4)).toInt64) &&& 4294967295)), .long ((((xs (i + 5)).toInt64) <<< ((nI 32).toInt64 &&& 63)) ||| (((xs (i + 6)).toInt64) &&& 4294967295))]) (rest := []) ⟨hx, hb, hml, hown, hts⟩ (kM_act l D k Mm hE hI.2.1 (xs (i + 1)) (xs (i + 2)) (((xs (i + 3)).toInt64 <<< ((nI 32).toInt64 &&& 63)) ||| ((xs (i + 4)).toInt64 &&& 4294967295)) (((xs (i + 5)).toInt64 <<< ((nI 32).toInt64 &&& 63)) ||| ((xs (i + 6)).toInt64 &&& 4294967295)) _) (cwV 4 hts (bw_V bw_439 bw_440 bw_441 bw_2 bw_442) rfl rfl rfl (by decide +kernel) ⟨Nat.le_of_ble_eq_true rfl, Nat.le_of_ble_eq_true rfl⟩) (mp_preV J.1 hE.1 rfl _) rfl rfl hl.1 rfl (lv_room (Nat.le_of_ble_eq_true rfl)) dL_law_481 ⟨show _ + 0 ≤ 434553 by omega, show _ + 0 ≤ 7792446 by omega⟩) J (fun r2 M2 H locs hp2 J => ?_)
    rcases hp2 with ⟨hg2, -⟩ | ⟨-, e2, hE1⟩
    · exact absurd hg2 hg
    refine lv_lstore (lv' := [(6, .long r2), (5, .int (nI 1)), (0, .ref b), (1, .ref d), (2, .ref mo), (3, .ref o), (4, .int (nI i))]) hx hb dL_law_484 hl (by decide) rfl (fun ls hl => ?_)
    refine lv_aload_n hx hb dL_law_486 rfl (lv_at hl 4 rfl) ?_
    refine lj_i (va_runV (As := []) (rest := []) ⟨hx, hb, hml, hown, hts⟩ (kM_thrown l D k M2 hE1 hI.2.1 _) (cwV 0 hts (bw_V bw_387 bw_388 bw_389 bw_2 bw_390) rfl rfl rfl (by decide +kernel) ⟨Nat.le_of_ble_eq_true rfl, Nat.le_of_ble_eq_true rfl⟩) (mp_preV J.1 hE1.1 rfl _) rfl rfl hl.1 rfl (lv_room (Nat.le_of_ble_eq_true rfl)) dL_law_487 ⟨show _ + 0 ≤ 434553 by omega, show _ + 0 ≤ 7792446 by omega⟩) J (fun r3 M3 H locs hp3 J => ?_)
    obtain ⟨e3, rfl⟩ := hp3
    rw [e3] at J
    have J := J.rot
    refine lv_iload hx hb dL_law_490 (lv_at hl 1 rfl) ?_
    refine zz_icmp_eq (tgt := 497) hx hb (nI_toInt (by decide)) (nI_toInt (by decide)) dL_law_492 (by decide) (fun _ => ?_) (fun c_3 => absurd c_3 (by decide))
    refine lv_iload hx hb dL_law_497 (lv_at hl 1 rfl) ?_
    refine zz_if_ne (tgt := 513) hx hb (nI_toInt (by decide)) dL_law_499 (by decide) (fun _ => ?_) (fun c_4 => absurd c_4 (by decide))
    refine lv_goto (tgt := 689) hx hb dL_law_513 (by decide) ?_
    have hZ : LSt k d mo _ _ := LSt.mk hD hE1 hI
    have hl : lv_has ls 8 [(0, .ref b), (1, .ref d), (2, .ref mo), (3, .ref o), (4, .int (nI i))] := lv_sub hl [2, 3, 4, 5, 6] rfl
    refine W.widen (k := cells + 2) (n := slots + 4002) (by omega) (by omega) ?_
    exact kk _ _ _ ⟨_, _, _, J, hZ, hl⟩
