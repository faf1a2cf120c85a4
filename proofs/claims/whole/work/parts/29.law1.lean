set_option maxHeartbeats 4000000 in
set_option maxRecDepth 100000 in
theorem lc_row {p : Program} {l : Launch} {e : Env} {s : State} {m : MethodId} {below : List Frame} {meth : Method} {c : Code} {Q : State → Prop} {b L : Nat} {xs : Nat → Int32} (C0 : lw_At p s m meth c b L xs) {D : va_G} {k : Nat → ClassId} {d mo o i cells slots : Nat} {H : Heap} {locs : List Loc} {ls : Array Slot} (hL : L ≤ 3584) (hi : i + 7 ≤ L) (hc : cells + 2 ≤ 434553) (hs : slots + 4002 ≤ 7792446) (Z : LWd D k s b d mo o i H locs ls)
    (kk : ∀ (H : Heap) (locs : List Loc) (ls : Array Slot), LWd D k s b d mo o i H locs ls → W p l e room_1 s m #[Value.ref b] below meth c H locs (cells + 2) (slots + 4002) Q (F0 m 689 ls [])) :
    W p l e room_1 s m #[Value.ref b] below meth c H locs cells slots Q (F0 m 108 ls []) := by
  obtain ⟨hx, hb, hr, hml, hown, hts0, hX, hbl, hlocks, hgv⟩ := C0
  have hts : ∀ w ∈ bw, w.before #[Value.ref b] s = true := fun w h => hts0 w (bw_in h)
  have hown : s.vm.findClass "PlaceDeskLaw" = some m.cls := hown
  have hbA : ¬ (fun q : Nat => s.heap.size ≤ q) b := Nat.not_le.mpr hbl
  obtain ⟨Md, Mm, ov, J, hZ, hl⟩ := Z
  obtain ⟨av, ak, at_, aw, as_, an, qt, qs, qn, sa, ra, ec, tc, wc, sc, nc, va, kd, wt, tk, tf, tz, sk, sf, sw, sl, nn, nv, el, ek, bg, sz, kn, rw, pp, pk, wd, lo, kp, ks, th, mk, ml, hD, hE, hI⟩ := hZ
  refine lv_aload_n hx hb dL_law_108 rfl (lv_at hl 1 rfl) ?_
  refine lv_aload_n hx hb dL_law_109 rfl (lv_at hl 0 rfl) ?_
  refine lv_iload hx hb dL_law_110 (lv_at hl 4 rfl) ?_
  refine lv_iconst (v := nI 1) hx hb dL_law_112 (by decide) ?_
  refine zz_iadd hx hb dL_law_113 ?_
  refine lj_sld hx hb hX hbl hbA J.1.2.2.1 (n := i + 1) (by omega) hL dL_law_114 ?_
  refine lv_aload_n hx hb dL_law_115 rfl (lv_at hl 0 rfl) ?_
  refine lv_iload hx hb dL_law_116 (lv_at hl 4 rfl) ?_
  refine lv_iconst (v := nI 2) hx hb dL_law_118 (by decide) ?_
  refine zz_iadd hx hb dL_law_119 ?_
  refine lj_sld hx hb hX hbl hbA J.1.2.2.1 (n := i + 2) (by omega) hL dL_law_120 ?_
  refine lj_i (va_runV (As := [.int (xs (i + 1)), .int (xs (i + 2))]) (rest := []) ⟨hx, hb, hml, hown, hts⟩ (kD_row l D k Md hD hI.1 (fun i h => (hI.2.2.1 i h).2) (xs (i + 1)) (xs (i + 2)) _) (cwV 2 hts (bw_V bw_62 bw_63 bw_64 bw_1 bw_65) rfl rfl rfl (by decide +kernel) ⟨Nat.le_of_ble_eq_true rfl, Nat.le_of_ble_eq_true rfl⟩) (mp_preV J.1 hD.1 rfl _) rfl rfl hl.1 rfl (lv_room (Nat.le_of_ble_eq_true rfl)) dL_law_121 ⟨show _ + 1 ≤ 434553 by omega, show _ + 3 ≤ 7792446 by omega⟩) J (fun r1 M1 H locs hp1 J => ?_)
  have J := J.rot
  refine lv_aload_n hx hb dL_law_124 rfl (lv_at hl 2 rfl) ?_
  refine lv_aload_n hx hb dL_law_125 rfl (lv_at hl 0 rfl) ?_
  refine lv_iload hx hb dL_law_126 (lv_at hl 4 rfl) ?_
  refine lv_iconst (v := nI 1) hx hb dL_law_128 (by decide) ?_
  refine zz_iadd hx hb dL_law_129 ?_
  refine lj_sld hx hb hX hbl hbA J.1.2.2.1 (n := i + 1) (by omega) hL dL_law_130 ?_
  refine lv_aload_n hx hb dL_law_131 rfl (lv_at hl 0 rfl) ?_
  refine lv_iload hx hb dL_law_132 (lv_at hl 4 rfl) ?_
  refine lv_iconst (v := nI 2) hx hb dL_law_134 (by decide) ?_
  refine zz_iadd hx hb dL_law_135 ?_
  refine lj_sld hx hb hX hbl hbA J.1.2.2.1 (n := i + 2) (by omega) hL dL_law_136 ?_
  refine lj_i (va_runV (As := [.int (xs (i + 1)), .int (xs (i + 2))]) (rest := [.int r1]) ⟨hx, hb, hml, hown, hts⟩ (kM_row l D k Mm hE hI.2.1 (fun i h => (hI.2.2.1 i h).2) (xs (i + 1)) (xs (i + 2)) _) (cwV 2 hts (bw_V bw_391 bw_392 bw_393 bw_2 bw_394) rfl rfl rfl (by decide +kernel) ⟨Nat.le_of_ble_eq_true rfl, Nat.le_of_ble_eq_true rfl⟩) (mp_preV J.1 hE.1 rfl _) rfl rfl hl.1 rfl (lv_room (Nat.le_of_ble_eq_true rfl)) dL_law_137 ⟨show _ + 0 ≤ 434553 by omega, show _ + 0 ≤ 7792446 by omega⟩) J (fun r2 M2 H locs hp2 J => ?_)
  have J := J.rot
  have hq : r1 = r2 ∧ LSt k d mo M1 M2 := by
    rcases hp1 with ⟨g1, rfl, x1, y1, q, hx1, hy1, hD1⟩ | ⟨g1, rfl, rfl⟩
    · rcases hp2 with ⟨g2, rfl, x2, y2, hx2, hy2, hE1⟩ | ⟨g2, rfl, hE1⟩
      · obtain rfl : x1 = x2 := by omega
        obtain rfl : y1 = y2 := by omega
        exact ⟨rfl, LSt.mk hD1 hE1 (hI.row g1.1 (by omega) (by omega) (by omega) (by omega))⟩
      · exact absurd g1 g2
    · rcases hp2 with ⟨g2, rfl, x2, y2, hx2, hy2, hE1⟩ | ⟨g2, rfl, hE1⟩
      · exact absurd g2 g1
      · exact ⟨rfl, LSt.mk hD hE1 hI⟩
  obtain ⟨hqr, hZ⟩ := hq
  refine lv_icmp_eq (tgt := 689) hx hb dL_law_140 (by decide) (fun _ => ?_) (fun c => absurd hqr c)
  refine W.widen (k := cells + 2) (n := slots + 4002) (by omega) (by omega) ?_
  exact kk _ _ _ ⟨_, _, _, J, hZ, hl⟩
set_option maxHeartbeats 4000000 in
set_option maxRecDepth 100000 in
theorem lc_put {p : Program} {l : Launch} {e : Env} {s : State} {m : MethodId} {below : List Frame} {meth : Method} {c : Code} {Q : State → Prop} {b L : Nat} {xs : Nat → Int32} (C0 : lw_At p s m meth c b L xs) {D : va_G} {k : Nat → ClassId} {d mo o i cells slots : Nat} {H : Heap} {locs : List Loc} {ls : Array Slot} (hL : L ≤ 3584) (hi : i + 7 ≤ L) (hc : cells + 2 ≤ 434553) (hs : slots + 4002 ≤ 7792446) (Z : LWd D k s b d mo o i H locs ls)
    (kk : ∀ (H : Heap) (locs : List Loc) (ls : Array Slot), LWd D k s b d mo o i H locs ls → W p l e room_1 s m #[Value.ref b] below meth c H locs (cells + 2) (slots + 4002) Q (F0 m 689 ls [])) :
    W p l e room_1 s m #[Value.ref b] below meth c H locs cells slots Q (F0 m 145 ls []) := by
  obtain ⟨hx, hb, hr, hml, hown, hts0, hX, hbl, hlocks, hgv⟩ := C0
  have hts : ∀ w ∈ bw, w.before #[Value.ref b] s = true := fun w h => hts0 w (bw_in h)
  have hown : s.vm.findClass "PlaceDeskLaw" = some m.cls := hown
  have hbA : ¬ (fun q : Nat => s.heap.size ≤ q) b := Nat.not_le.mpr hbl
  obtain ⟨Md, Mm, ov, J, hZ, hl⟩ := Z
  obtain ⟨av, ak, at_, aw, as_, an, qt, qs, qn, sa, ra, ec, tc, wc, sc, nc, va, kd, wt, tk, tf, tz, sk, sf, sw, sl, nn, nv, el, ek, bg, sz, kn, rw, pp, pk, wd, lo, kp, ks, th, mk, ml, hD, hE, hI⟩ := hZ
  refine lv_aload_n hx hb dL_law_145 rfl (lv_at hl 1 rfl) ?_
  refine lv_aload_n hx hb dL_law_146 rfl (lv_at hl 0 rfl) ?_
  refine lv_iload hx hb dL_law_147 (lv_at hl 4 rfl) ?_
  refine lv_iconst (v := nI 1) hx hb dL_law_149 (by decide) ?_
  refine zz_iadd hx hb dL_law_150 ?_
  refine lj_sld hx hb hX hbl hbA J.1.2.2.1 (n := i + 1) (by omega) hL dL_law_151 ?_
  refine lj_i (va_runV (As := [.int (xs (i + 1))]) (rest := []) ⟨hx, hb, hml, hown, hts⟩ (kD_put l D k Md hD hI.1 (xs (i + 1)) _) (cwV 1 hts (bw_V bw_96 bw_97 bw_98 bw_1 bw_99) rfl rfl rfl (by decide +kernel) ⟨Nat.le_of_ble_eq_true rfl, Nat.le_of_ble_eq_true rfl⟩) (mp_preV J.1 hD.1 rfl _) rfl rfl hl.1 rfl (lv_room (Nat.le_of_ble_eq_true rfl)) dL_law_152 ⟨show _ + 0 ≤ 434553 by omega, show _ + 0 ≤ 7792446 by omega⟩) J (fun r1 M1 H locs hp1 J => ?_)
  have J := J.rot
  refine lv_aload_n hx hb dL_law_155 rfl (lv_at hl 2 rfl) ?_
  refine lv_aload_n hx hb dL_law_156 rfl (lv_at hl 0 rfl) ?_
  refine lv_iload hx hb dL_law_157 (lv_at hl 4 rfl) ?_
  refine lv_iconst (v := nI 1) hx hb dL_law_159 (by decide) ?_
  refine zz_iadd hx hb dL_law_160 ?_
  refine lj_sld hx hb hX hbl hbA J.1.2.2.1 (n := i + 1) (by omega) hL dL_law_161 ?_
  refine lj_i (va_runV (As := [.int (xs (i + 1))]) (rest := [.int r1]) ⟨hx, hb, hml, hown, hts⟩ (kM_put l D k Mm hE hI.2.1 (xs (i + 1)) _) (cwV 1 hts (bw_V bw_403 bw_404 bw_405 bw_2 bw_406) rfl rfl rfl (by decide +kernel) ⟨Nat.le_of_ble_eq_true rfl, Nat.le_of_ble_eq_true rfl⟩) (mp_preV J.1 hE.1 rfl _) rfl rfl hl.1 rfl (lv_room (Nat.le_of_ble_eq_true rfl)) dL_law_162 ⟨show _ + 0 ≤ 434553 by omega, show _ + 0 ≤ 7792446 by omega⟩) J (fun r2 M2 H locs hp2 J => ?_)
  have J := J.rot
  have hq : r1 = r2 ∧ LSt k d mo M1 M2 := by
    rcases hp1 with ⟨g1, g1b, rfl, x1, hx1, hD1⟩ | ⟨g1, rfl, rfl⟩
    · rcases hp2 with ⟨g2, g2b, rfl, x2, hx2, hE1⟩ | ⟨g2, rfl, hE1⟩
      · obtain rfl : x1 = x2 := by omega
        exact ⟨rfl, LSt.mk hD1 hE1 (hI.put g1 (by omega) (by omega))⟩
      · exact absurd ⟨g1, g1b⟩ g2
    · rcases hp2 with ⟨g2, g2b, rfl, x2, hx2, hE1⟩ | ⟨g2, rfl, hE1⟩
      · exact absurd ⟨g2, g2b⟩ g1
      · exact ⟨rfl, LSt.mk hD hE1 hI⟩
  obtain ⟨hqr, hZ⟩ := hq
  refine lv_icmp_eq (tgt := 689) hx hb dL_law_165 (by decide) (fun _ => ?_) (fun c => absurd hqr c)
  refine W.widen (k := cells + 2) (n := slots + 4002) (by omega) (by omega) ?_
  exact kk _ _ _ ⟨_, _, _, J, hZ, hl⟩
set_option maxHeartbeats 4000000 in
set_option maxRecDepth 100000 in
theorem lc_instance {p : Program} {l : Launch} {e : Env} {s : State} {m : MethodId} {below : List Frame} {meth : Method} {c : Code} {Q : State → Prop} {b L : Nat} {xs : Nat → Int32} (C0 : lw_At p s m meth c b L xs) {D : va_G} {k : Nat → ClassId} {d mo o i cells slots : Nat} {H : Heap} {locs : List Loc} {ls : Array Slot} (hL : L ≤ 3584) (hi : i + 7 ≤ L) (hc : cells + 2 ≤ 434553) (hs : slots + 4002 ≤ 7792446) (Z : LWd D k s b d mo o i H locs ls)
    (kk : ∀ (H : Heap) (locs : List Loc) (ls : Array Slot), LWd D k s b d mo o i H locs ls → W p l e room_1 s m #[Value.ref b] below meth c H locs (cells + 2) (slots + 4002) Q (F0 m 689 ls [])) :
    W p l e room_1 s m #[Value.ref b] below meth c H locs cells slots Q (F0 m 170 ls []) := by
  obtain ⟨hx, hb, hr, hml, hown, hts0, hX, hbl, hlocks, hgv⟩ := C0
  have hts : ∀ w ∈ bw, w.before #[Value.ref b] s = true := fun w h => hts0 w (bw_in h)
  have hown : s.vm.findClass "PlaceDeskLaw" = some m.cls := hown
  have hbA : ¬ (fun q : Nat => s.heap.size ≤ q) b := Nat.not_le.mpr hbl
  obtain ⟨Md, Mm, ov, J, hZ, hl⟩ := Z
  obtain ⟨av, ak, at_, aw, as_, an, qt, qs, qn, sa, ra, ec, tc, wc, sc, nc, va, kd, wt, tk, tf, tz, sk, sf, sw, sl, nn, nv, el, ek, bg, sz, kn, rw, pp, pk, wd, lo, kp, ks, th, mk, ml, hD, hE, hI⟩ := hZ
  refine lv_aload_n hx hb dL_law_170 rfl (lv_at hl 1 rfl) ?_
  refine lj_i (va_runV (As := []) (rest := []) ⟨hx, hb, hml, hown, hts⟩ (kD_instance l D k Md hD hI.1 (fun i h => (hI.2.2.1 i h).2) (fun i h => (hI.2.2.2.1 i h).2) _) (cwV 0 hts (bw_V bw_100 bw_101 bw_102 bw_1 bw_103) rfl rfl rfl (by decide +kernel) ⟨Nat.le_of_ble_eq_true rfl, Nat.le_of_ble_eq_true rfl⟩) (mp_preV J.1 hD.1 rfl _) rfl rfl hl.1 rfl (lv_room (Nat.le_of_ble_eq_true rfl)) dL_law_171 ⟨show _ + 1 ≤ 434553 by omega, show _ + 3 ≤ 7792446 by omega⟩) J (fun r1 M1 H locs hp1 J => ?_)
  have J := J.rot
  refine lv_aload_n hx hb dL_law_174 rfl (lv_at hl 2 rfl) ?_
  refine lj_i (va_runV (As := []) (rest := [.int r1]) ⟨hx, hb, hml, hown, hts⟩ (kM_instance l D k Mm hE hI.2.1 (fun i h => (hI.2.2.1 i h).2) (fun i h => (hI.2.2.2.1 i h).2) _) (cwV 0 hts (bw_V bw_407 bw_408 bw_409 bw_2 bw_410) rfl rfl rfl (by decide +kernel) ⟨Nat.le_of_ble_eq_true rfl, Nat.le_of_ble_eq_true rfl⟩) (mp_preV J.1 hE.1 rfl _) rfl rfl hl.1 rfl (lv_room (Nat.le_of_ble_eq_true rfl)) dL_law_175 ⟨show _ + 0 ≤ 434553 by omega, show _ + 0 ≤ 7792446 by omega⟩) J (fun r2 M2 H locs hp2 J => ?_)
  have J := J.rot
  have hq : r1 = r2 ∧ LSt k d mo M1 M2 := by
    rcases hp1 with ⟨g1, rfl, q, hD1⟩ | ⟨g1, rfl, hD1⟩
    · rcases hp2 with ⟨g2, rfl, hE1⟩ | ⟨g2, rfl, hE1⟩
      · exact ⟨rfl, LSt.mk hD1 hE1 (hI.inst g1.1 g1.2.2)⟩
      · exact absurd g1 g2
    · rcases hp2 with ⟨g2, rfl, hE1⟩ | ⟨g2, rfl, hE1⟩
      · exact absurd g2 g1
      · exact ⟨rfl, LSt.mk hD1 hE1 hI.w0⟩
  obtain ⟨hqr, hZ⟩ := hq
  refine lv_icmp_eq (tgt := 689) hx hb dL_law_178 (by decide) (fun _ => ?_) (fun c => absurd hqr c)
  refine W.widen (k := cells + 2) (n := slots + 4002) (by omega) (by omega) ?_
  exact kk _ _ _ ⟨_, _, _, J, hZ, hl⟩
set_option maxHeartbeats 4000000 in
set_option maxRecDepth 100000 in
theorem lc_object {p : Program} {l : Launch} {e : Env} {s : State} {m : MethodId} {below : List Frame} {meth : Method} {c : Code} {Q : State → Prop} {b L : Nat} {xs : Nat → Int32} (C0 : lw_At p s m meth c b L xs) {D : va_G} {k : Nat → ClassId} {d mo o i cells slots : Nat} {H : Heap} {locs : List Loc} {ls : Array Slot} (hL : L ≤ 3584) (hi : i + 7 ≤ L) (hc : cells + 2 ≤ 434553) (hs : slots + 4002 ≤ 7792446) (Z : LWd D k s b d mo o i H locs ls)
    (kk : ∀ (H : Heap) (locs : List Loc) (ls : Array Slot), LWd D k s b d mo o i H locs ls → W p l e room_1 s m #[Value.ref b] below meth c H locs (cells + 2) (slots + 4002) Q (F0 m 689 ls [])) :
    W p l e room_1 s m #[Value.ref b] below meth c H locs cells slots Q (F0 m 183 ls []) := by
  obtain ⟨hx, hb, hr, hml, hown, hts0, hX, hbl, hlocks, hgv⟩ := C0
  have hts : ∀ w ∈ bw, w.before #[Value.ref b] s = true := fun w h => hts0 w (bw_in h)
  have hown : s.vm.findClass "PlaceDeskLaw" = some m.cls := hown
  have hbA : ¬ (fun q : Nat => s.heap.size ≤ q) b := Nat.not_le.mpr hbl
  obtain ⟨Md, Mm, ov, J, hZ, hl⟩ := Z
  obtain ⟨av, ak, at_, aw, as_, an, qt, qs, qn, sa, ra, ec, tc, wc, sc, nc, va, kd, wt, tk, tf, tz, sk, sf, sw, sl, nn, nv, el, ek, bg, sz, kn, rw, pp, pk, wd, lo, kp, ks, th, mk, ml, hD, hE, hI⟩ := hZ
  refine lv_aload_n hx hb dL_law_183 rfl (lv_at hl 1 rfl) ?_
  refine lv_aload_n hx hb dL_law_184 rfl (lv_at hl 0 rfl) ?_
  refine lv_iload hx hb dL_law_185 (lv_at hl 4 rfl) ?_
  refine lv_iconst (v := nI 1) hx hb dL_law_187 (by decide) ?_
  refine zz_iadd hx hb dL_law_188 ?_
  refine lj_sld hx hb hX hbl hbA J.1.2.2.1 (n := i + 1) (by omega) hL dL_law_189 ?_
  refine lv_aload_n hx hb dL_law_190 rfl (lv_at hl 0 rfl) ?_
  refine lv_iload hx hb dL_law_191 (lv_at hl 4 rfl) ?_
  refine lv_iconst (v := nI 2) hx hb dL_law_193 (by decide) ?_
  refine zz_iadd hx hb dL_law_194 ?_
  refine lj_sld hx hb hX hbl hbA J.1.2.2.1 (n := i + 2) (by omega) hL dL_law_195 ?_
  refine lj_i (va_runV (As := [.int (xs (i + 1)), .int (xs (i + 2))]) (rest := []) ⟨hx, hb, hml, hown, hts⟩ (kD_object l D k Md hD hI.1 (xs (i + 1)) (xs (i + 2)) _) (cwV 2 hts (bw_V bw_107 bw_108 bw_109 bw_1 bw_110) rfl rfl rfl (by decide +kernel) ⟨Nat.le_of_ble_eq_true rfl, Nat.le_of_ble_eq_true rfl⟩) (mp_preV J.1 hD.1 rfl _) rfl rfl hl.1 rfl (lv_room (Nat.le_of_ble_eq_true rfl)) dL_law_196 ⟨show _ + 0 ≤ 434553 by omega, show _ + 0 ≤ 7792446 by omega⟩) J (fun r1 M1 H locs hp1 J => ?_)
  have J := J.rot
  refine lv_aload_n hx hb dL_law_199 rfl (lv_at hl 2 rfl) ?_
  refine lv_aload_n hx hb dL_law_200 rfl (lv_at hl 0 rfl) ?_
  refine lv_iload hx hb dL_law_201 (lv_at hl 4 rfl) ?_
  refine lv_iconst (v := nI 1) hx hb dL_law_203 (by decide) ?_
  refine zz_iadd hx hb dL_law_204 ?_
  refine lj_sld hx hb hX hbl hbA J.1.2.2.1 (n := i + 1) (by omega) hL dL_law_205 ?_
  refine lv_aload_n hx hb dL_law_206 rfl (lv_at hl 0 rfl) ?_
  refine lv_iload hx hb dL_law_207 (lv_at hl 4 rfl) ?_
  refine lv_iconst (v := nI 2) hx hb dL_law_209 (by decide) ?_
  refine zz_iadd hx hb dL_law_210 ?_
  refine lj_sld hx hb hX hbl hbA J.1.2.2.1 (n := i + 2) (by omega) hL dL_law_211 ?_
  refine lj_i (va_runV (As := [.int (xs (i + 1)), .int (xs (i + 2))]) (rest := [.int r1]) ⟨hx, hb, hml, hown, hts⟩ (kM_object l D k Mm hE hI.2.1 (xs (i + 1)) (xs (i + 2)) _) (cwV 2 hts (bw_V bw_411 bw_412 bw_413 bw_2 bw_414) rfl rfl rfl (by decide +kernel) ⟨Nat.le_of_ble_eq_true rfl, Nat.le_of_ble_eq_true rfl⟩) (mp_preV J.1 hE.1 rfl _) rfl rfl hl.1 rfl (lv_room (Nat.le_of_ble_eq_true rfl)) dL_law_212 ⟨show _ + 0 ≤ 434553 by omega, show _ + 0 ≤ 7792446 by omega⟩) J (fun r2 M2 H locs hp2 J => ?_)
  have J := J.rot
  have hq : r1 = r2 ∧ LSt k d mo M1 M2 := by
    obtain ⟨rfl, e1⟩ := hp1
    obtain ⟨e2, hE1⟩ := hp2
    exact ⟨by rw [e1, e2], LSt.mk hD hE1 hI⟩
  obtain ⟨hqr, hZ⟩ := hq
  refine lv_icmp_eq (tgt := 689) hx hb dL_law_215 (by decide) (fun _ => ?_) (fun c => absurd hqr c)
  refine W.widen (k := cells + 2) (n := slots + 4002) (by omega) (by omega) ?_
  exact kk _ _ _ ⟨_, _, _, J, hZ, hl⟩
set_option maxHeartbeats 4000000 in
set_option maxRecDepth 100000 in
theorem lc_place {p : Program} {l : Launch} {e : Env} {s : State} {m : MethodId} {below : List Frame} {meth : Method} {c : Code} {Q : State → Prop} {b L : Nat} {xs : Nat → Int32} (C0 : lw_At p s m meth c b L xs) {D : va_G} {k : Nat → ClassId} {d mo o i cells slots : Nat} {H : Heap} {locs : List Loc} {ls : Array Slot} (hL : L ≤ 3584) (hi : i + 7 ≤ L) (hc : cells + 2 ≤ 434553) (hs : slots + 4002 ≤ 7792446) (Z : LWd D k s b d mo o i H locs ls)
    (kk : ∀ (H : Heap) (locs : List Loc) (ls : Array Slot), LWd D k s b d mo o i H locs ls → W p l e room_1 s m #[Value.ref b] below meth c H locs (cells + 2) (slots + 4002) Q (F0 m 689 ls [])) :
    W p l e room_1 s m #[Value.ref b] below meth c H locs cells slots Q (F0 m 220 ls []) := by
  obtain ⟨hx, hb, hr, hml, hown, hts0, hX, hbl, hlocks, hgv⟩ := C0
  have hts : ∀ w ∈ bw, w.before #[Value.ref b] s = true := fun w h => hts0 w (bw_in h)
  have hown : s.vm.findClass "PlaceDeskLaw" = some m.cls := hown
  have hbA : ¬ (fun q : Nat => s.heap.size ≤ q) b := Nat.not_le.mpr hbl
  obtain ⟨Md, Mm, ov, J, hZ, hl⟩ := Z
  obtain ⟨av, ak, at_, aw, as_, an, qt, qs, qn, sa, ra, ec, tc, wc, sc, nc, va, kd, wt, tk, tf, tz, sk, sf, sw, sl, nn, nv, el, ek, bg, sz, kn, rw, pp, pk, wd, lo, kp, ks, th, mk, ml, hD, hE, hI⟩ := hZ
  refine lv_aload_n hx hb dL_law_220 rfl (lv_at hl 1 rfl) ?_
  refine lv_aload_n hx hb dL_law_221 rfl (lv_at hl 0 rfl) ?_
  refine lv_iload hx hb dL_law_222 (lv_at hl 4 rfl) ?_
  refine lv_iconst (v := nI 1) hx hb dL_law_224 (by decide) ?_
  refine zz_iadd hx hb dL_law_225 ?_
  refine lj_sld hx hb hX hbl hbA J.1.2.2.1 (n := i + 1) (by omega) hL dL_law_226 ?_
  refine lv_aload_n hx hb dL_law_227 rfl (lv_at hl 0 rfl) ?_
  refine lv_iload hx hb dL_law_228 (lv_at hl 4 rfl) ?_
  refine lv_iconst (v := nI 2) hx hb dL_law_230 (by decide) ?_
  refine zz_iadd hx hb dL_law_231 ?_
  refine lj_sld hx hb hX hbl hbA J.1.2.2.1 (n := i + 2) (by omega) hL dL_law_232 ?_
  refine lj_i (va_runV (As := [.int (xs (i + 1)), .int (xs (i + 2))]) (rest := []) ⟨hx, hb, hml, hown, hts⟩ (kD_place l D k Md hD hI.1 (xs (i + 1)) (xs (i + 2)) _) (cwV 2 hts (bw_V bw_119 bw_120 bw_121 bw_1 bw_122) rfl rfl rfl (by decide +kernel) ⟨Nat.le_of_ble_eq_true rfl, Nat.le_of_ble_eq_true rfl⟩) (mp_preV J.1 hD.1 rfl _) rfl rfl hl.1 rfl (lv_room (Nat.le_of_ble_eq_true rfl)) dL_law_233 ⟨show _ + 1 ≤ 434553 by omega, show _ + 4 ≤ 7792446 by omega⟩) J (fun r1 M1 H locs hp1 J => ?_)
  have J := J.rot
  refine lv_aload_n hx hb dL_law_236 rfl (lv_at hl 2 rfl) ?_
  refine lv_aload_n hx hb dL_law_237 rfl (lv_at hl 0 rfl) ?_
  refine lv_iload hx hb dL_law_238 (lv_at hl 4 rfl) ?_
  refine lv_iconst (v := nI 1) hx hb dL_law_240 (by decide) ?_
  refine zz_iadd hx hb dL_law_241 ?_
  refine lj_sld hx hb hX hbl hbA J.1.2.2.1 (n := i + 1) (by omega) hL dL_law_242 ?_
  refine lv_aload_n hx hb dL_law_243 rfl (lv_at hl 0 rfl) ?_
  refine lv_iload hx hb dL_law_244 (lv_at hl 4 rfl) ?_
  refine lv_iconst (v := nI 2) hx hb dL_law_246 (by decide) ?_
  refine zz_iadd hx hb dL_law_247 ?_
  refine lj_sld hx hb hX hbl hbA J.1.2.2.1 (n := i + 2) (by omega) hL dL_law_248 ?_
  refine lj_i (va_runV (As := [.int (xs (i + 1)), .int (xs (i + 2))]) (rest := [.int r1]) ⟨hx, hb, hml, hown, hts⟩ (kM_place l D k Mm hE hI.2.1 (xs (i + 1)) (xs (i + 2)) _) (cwV 2 hts (bw_V bw_419 bw_420 bw_421 bw_2 bw_422) rfl rfl rfl (by decide +kernel) ⟨Nat.le_of_ble_eq_true rfl, Nat.le_of_ble_eq_true rfl⟩) (mp_preV J.1 hE.1 rfl _) rfl rfl hl.1 rfl (lv_room (Nat.le_of_ble_eq_true rfl)) dL_law_249 ⟨show _ + 0 ≤ 434553 by omega, show _ + 0 ≤ 7792446 by omega⟩) J (fun r2 M2 H locs hp2 J => ?_)
  have J := J.rot
  have hq : r1 = r2 ∧ LSt k d mo M1 M2 := by
    rcases hp1 with ⟨g1, rfl, x1, y1, q, hx1, hy1, hD1⟩ | ⟨g1, rfl, rfl⟩
    · rcases hp2 with ⟨g2, rfl, x2, y2, hx2, hy2, hE1⟩ | ⟨g2, rfl, hE1⟩
      · obtain rfl : x1 = x2 := by omega
        obtain rfl : y1 = y2 := by omega
        rw [hx1, hy1, Int.toNat_natCast] at g1
        exact ⟨rfl, LSt.mk hD1 hE1 (hI.place g1.2.2.2.2 (by omega) (by omega))⟩
      · exact absurd g1 g2
    · rcases hp2 with ⟨g2, rfl, x2, y2, hx2, hy2, hE1⟩ | ⟨g2, rfl, hE1⟩
      · exact absurd g2 g1
      · exact ⟨rfl, LSt.mk hD hE1 hI⟩
  obtain ⟨hqr, hZ⟩ := hq
  refine lv_icmp_eq (tgt := 689) hx hb dL_law_252 (by decide) (fun _ => ?_) (fun c => absurd hqr c)
  refine W.widen (k := cells + 2) (n := slots + 4002) (by omega) (by omega) ?_
  exact kk _ _ _ ⟨_, _, _, J, hZ, hl⟩
set_option maxHeartbeats 4000000 in
set_option maxRecDepth 100000 in
theorem lc_kindOf {p : Program} {l : Launch} {e : Env} {s : State} {m : MethodId} {below : List Frame} {meth : Method} {c : Code} {Q : State → Prop} {b L : Nat} {xs : Nat → Int32} (C0 : lw_At p s m meth c b L xs) {D : va_G} {k : Nat → ClassId} {d mo o i cells slots : Nat} {H : Heap} {locs : List Loc} {ls : Array Slot} (hL : L ≤ 3584) (hi : i + 7 ≤ L) (hc : cells + 2 ≤ 434553) (hs : slots + 4002 ≤ 7792446) (Z : LWd D k s b d mo o i H locs ls)
    (kk : ∀ (H : Heap) (locs : List Loc) (ls : Array Slot), LWd D k s b d mo o i H locs ls → W p l e room_1 s m #[Value.ref b] below meth c H locs (cells + 2) (slots + 4002) Q (F0 m 689 ls [])) :
    W p l e room_1 s m #[Value.ref b] below meth c H locs cells slots Q (F0 m 334 ls []) := by
  obtain ⟨hx, hb, hr, hml, hown, hts0, hX, hbl, hlocks, hgv⟩ := C0
  have hts : ∀ w ∈ bw, w.before #[Value.ref b] s = true := fun w h => hts0 w (bw_in h)
  have hown : s.vm.findClass "PlaceDeskLaw" = some m.cls := hown
  have hbA : ¬ (fun q : Nat => s.heap.size ≤ q) b := Nat.not_le.mpr hbl
  obtain ⟨Md, Mm, ov, J, hZ, hl⟩ := Z
  obtain ⟨av, ak, at_, aw, as_, an, qt, qs, qn, sa, ra, ec, tc, wc, sc, nc, va, kd, wt, tk, tf, tz, sk, sf, sw, sl, nn, nv, el, ek, bg, sz, kn, rw, pp, pk, wd, lo, kp, ks, th, mk, ml, hD, hE, hI⟩ := hZ
  refine lv_aload_n hx hb dL_law_334 rfl (lv_at hl 1 rfl) ?_
  refine lv_aload_n hx hb dL_law_335 rfl (lv_at hl 0 rfl) ?_
  refine lv_iload hx hb dL_law_336 (lv_at hl 4 rfl) ?_
  refine lv_iconst (v := nI 1) hx hb dL_law_338 (by decide) ?_
  refine zz_iadd hx hb dL_law_339 ?_
  refine lj_sld hx hb hX hbl hbA J.1.2.2.1 (n := i + 1) (by omega) hL dL_law_340 ?_
  refine lj_i (va_runV (As := [.int (xs (i + 1))]) (rest := []) ⟨hx, hb, hml, hown, hts⟩ (kD_kindOf l D k Md hD hI.1 (xs (i + 1)) _) (cwV 1 hts (bw_V bw_155 bw_156 bw_157 bw_1 bw_158) rfl rfl rfl (by decide +kernel) ⟨Nat.le_of_ble_eq_true rfl, Nat.le_of_ble_eq_true rfl⟩) (mp_preV J.1 hD.1 rfl _) rfl rfl hl.1 rfl (lv_room (Nat.le_of_ble_eq_true rfl)) dL_law_341 ⟨show _ + 0 ≤ 434553 by omega, show _ + 0 ≤ 7792446 by omega⟩) J (fun r1 M1 H locs hp1 J => ?_)
  have J := J.rot
  refine lv_aload_n hx hb dL_law_344 rfl (lv_at hl 2 rfl) ?_
  refine lv_aload_n hx hb dL_law_345 rfl (lv_at hl 0 rfl) ?_
  refine lv_iload hx hb dL_law_346 (lv_at hl 4 rfl) ?_
  refine lv_iconst (v := nI 1) hx hb dL_law_348 (by decide) ?_
  refine zz_iadd hx hb dL_law_349 ?_
  refine lj_sld hx hb hX hbl hbA J.1.2.2.1 (n := i + 1) (by omega) hL dL_law_350 ?_
  refine lj_i (va_runV (As := [.int (xs (i + 1))]) (rest := [.int r1]) ⟨hx, hb, hml, hown, hts⟩ (kM_kindOf l D k Mm hE hI.2.1 (xs (i + 1)) _) (cwV 1 hts (bw_V bw_431 bw_432 bw_433 bw_2 bw_434) rfl rfl rfl (by decide +kernel) ⟨Nat.le_of_ble_eq_true rfl, Nat.le_of_ble_eq_true rfl⟩) (mp_preV J.1 hE.1 rfl _) rfl rfl hl.1 rfl (lv_room (Nat.le_of_ble_eq_true rfl)) dL_law_351 ⟨show _ + 0 ≤ 434553 by omega, show _ + 0 ≤ 7792446 by omega⟩) J (fun r2 M2 H locs hp2 J => ?_)
  have J := J.rot
  have hq : r1 = r2 ∧ LSt k d mo M1 M2 := by
    obtain ⟨rfl, e1⟩ := hp1
    obtain ⟨e2, hE1⟩ := hp2
    exact ⟨by rw [e1, e2], LSt.mk hD hE1 hI⟩
  obtain ⟨hqr, hZ⟩ := hq
  refine lv_icmp_eq (tgt := 689) hx hb dL_law_354 (by decide) (fun _ => ?_) (fun c => absurd hqr c)
  refine W.widen (k := cells + 2) (n := slots + 4002) (by omega) (by omega) ?_
  exact kk _ _ _ ⟨_, _, _, J, hZ, hl⟩
set_option maxHeartbeats 4000000 in
set_option maxRecDepth 100000 in
theorem lc_copy {p : Program} {l : Launch} {e : Env} {s : State} {m : MethodId} {below : List Frame} {meth : Method} {c : Code} {Q : State → Prop} {b L : Nat} {xs : Nat → Int32} (C0 : lw_At p s m meth c b L xs) {D : va_G} {k : Nat → ClassId} {d mo o i cells slots : Nat} {H : Heap} {locs : List Loc} {ls : Array Slot} (hL : L ≤ 3584) (hi : i + 7 ≤ L) (hc : cells + 2 ≤ 434553) (hs : slots + 4002 ≤ 7792446) (Z : LWd D k s b d mo o i H locs ls)
    (kk : ∀ (H : Heap) (locs : List Loc) (ls : Array Slot), LWd D k s b d mo o i H locs ls → W p l e room_1 s m #[Value.ref b] below meth c H locs (cells + 2) (slots + 4002) Q (F0 m 689 ls [])) :
    W p l e room_1 s m #[Value.ref b] below meth c H locs cells slots Q (F0 m 516 ls []) := by
  obtain ⟨hx, hb, hr, hml, hown, hts0, hX, hbl, hlocks, hgv⟩ := C0
  have hts : ∀ w ∈ bw, w.before #[Value.ref b] s = true := fun w h => hts0 w (bw_in h)
  have hown : s.vm.findClass "PlaceDeskLaw" = some m.cls := hown
  have hbA : ¬ (fun q : Nat => s.heap.size ≤ q) b := Nat.not_le.mpr hbl
  obtain ⟨Md, Mm, ov, J, hZ, hl⟩ := Z
  obtain ⟨av, ak, at_, aw, as_, an, qt, qs, qn, sa, ra, ec, tc, wc, sc, nc, va, kd, wt, tk, tf, tz, sk, sf, sw, sl, nn, nv, el, ek, bg, sz, kn, rw, pp, pk, wd, lo, kp, ks, th, mk, ml, hD, hE, hI⟩ := hZ
  refine lv_aload_n hx hb dL_law_516 rfl (lv_at hl 1 rfl) ?_
  refine lv_aload_n hx hb dL_law_517 rfl (lv_at hl 0 rfl) ?_
  refine lv_iload hx hb dL_law_518 (lv_at hl 4 rfl) ?_
  refine lv_iconst (v := nI 1) hx hb dL_law_520 (by decide) ?_
  refine zz_iadd hx hb dL_law_521 ?_
  refine lj_sld hx hb hX hbl hbA J.1.2.2.1 (n := i + 1) (by omega) hL dL_law_522 ?_
  refine lv_aload_n hx hb dL_law_523 rfl (lv_at hl 0 rfl) ?_
  refine lv_iload hx hb dL_law_524 (lv_at hl 4 rfl) ?_
  refine lv_iconst (v := nI 2) hx hb dL_law_526 (by decide) ?_
  refine zz_iadd hx hb dL_law_527 ?_
  refine lj_sld hx hb hX hbl hbA J.1.2.2.1 (n := i + 2) (by omega) hL dL_law_528 ?_
  refine lv_aload_n hx hb dL_law_529 rfl (lv_at hl 0 rfl) ?_
  refine lv_iload hx hb dL_law_530 (lv_at hl 4 rfl) ?_
  refine lv_iconst (v := nI 3) hx hb dL_law_532 (by decide) ?_
  refine zz_iadd hx hb dL_law_533 ?_
  refine lj_sld hx hb hX hbl hbA J.1.2.2.1 (n := i + 3) (by omega) hL dL_law_534 ?_
  refine lv_aload_n hx hb dL_law_535 rfl (lv_at hl 0 rfl) ?_
  refine lv_iload hx hb dL_law_536 (lv_at hl 4 rfl) ?_
  refine lv_iconst (v := nI 4) hx hb dL_law_538 (by decide) ?_
  refine zz_iadd hx hb dL_law_539 ?_
  refine lj_sld hx hb hX hbl hbA J.1.2.2.1 (n := i + 4) (by omega) hL dL_law_540 ?_
  refine lv_aload_n hx hb dL_law_541 rfl (lv_at hl 0 rfl) ?_
  refine lv_iload hx hb dL_law_542 (lv_at hl 4 rfl) ?_
  refine lv_iconst (v := nI 5) hx hb dL_law_544 (by decide) ?_
  refine zz_iadd hx hb dL_law_545 ?_
  refine lj_sld hx hb hX hbl hbA J.1.2.2.1 (n := i + 5) (by omega) hL dL_law_546 ?_
  refine lj_i (va_runV (As := [.int (xs (i + 1)), .int (xs (i + 2)), .int (xs (i + 3)), .int (xs (i + 4)), .int (xs (i + 5))]) (rest := []) ⟨hx, hb, hml, hown, hts⟩ (kD_copy l D k Md hD hI.1 (xs (i + 1)) (xs (i + 2)) (xs (i + 3)) (xs (i + 4)) (xs (i + 5)) _) (cwV 5 hts (bw_V bw_163 bw_164 bw_165 bw_1 bw_166) rfl rfl rfl (by decide +kernel) ⟨Nat.le_of_ble_eq_true rfl, Nat.le_of_ble_eq_true rfl⟩) (mp_preV J.1 hD.1 rfl _) rfl rfl hl.1 rfl (lv_room (Nat.le_of_ble_eq_true rfl)) dL_law_547 ⟨show _ + 0 ≤ 434553 by omega, show _ + 0 ≤ 7792446 by omega⟩) J (fun r1 M1 H locs hp1 J => ?_)
  have J := J.rot
  refine lv_aload_n hx hb dL_law_550 rfl (lv_at hl 2 rfl) ?_
  refine lv_aload_n hx hb dL_law_551 rfl (lv_at hl 0 rfl) ?_
  refine lv_iload hx hb dL_law_552 (lv_at hl 4 rfl) ?_
  refine lv_iconst (v := nI 1) hx hb dL_law_554 (by decide) ?_
  refine zz_iadd hx hb dL_law_555 ?_
  refine lj_sld hx hb hX hbl hbA J.1.2.2.1 (n := i + 1) (by omega) hL dL_law_556 ?_
  refine lv_aload_n hx hb dL_law_557 rfl (lv_at hl 0 rfl) ?_
  refine lv_iload hx hb dL_law_558 (lv_at hl 4 rfl) ?_
  refine lv_iconst (v := nI 2) hx hb dL_law_560 (by decide) ?_
  refine zz_iadd hx hb dL_law_561 ?_
  refine lj_sld hx hb hX hbl hbA J.1.2.2.1 (n := i + 2) (by omega) hL dL_law_562 ?_
  refine lv_aload_n hx hb dL_law_563 rfl (lv_at hl 0 rfl) ?_
  refine lv_iload hx hb dL_law_564 (lv_at hl 4 rfl) ?_
  refine lv_iconst (v := nI 3) hx hb dL_law_566 (by decide) ?_
  refine zz_iadd hx hb dL_law_567 ?_
  refine lj_sld hx hb hX hbl hbA J.1.2.2.1 (n := i + 3) (by omega) hL dL_law_568 ?_
  refine lv_aload_n hx hb dL_law_569 rfl (lv_at hl 0 rfl) ?_
  refine lv_iload hx hb dL_law_570 (lv_at hl 4 rfl) ?_
  refine lv_iconst (v := nI 4) hx hb dL_law_572 (by decide) ?_
  refine zz_iadd hx hb dL_law_573 ?_
  refine lj_sld hx hb hX hbl hbA J.1.2.2.1 (n := i + 4) (by omega) hL dL_law_574 ?_
  refine lv_aload_n hx hb dL_law_575 rfl (lv_at hl 0 rfl) ?_
  refine lv_iload hx hb dL_law_576 (lv_at hl 4 rfl) ?_
  refine lv_iconst (v := nI 5) hx hb dL_law_578 (by decide) ?_
  refine zz_iadd hx hb dL_law_579 ?_
  refine lj_sld hx hb hX hbl hbA J.1.2.2.1 (n := i + 5) (by omega) hL dL_law_580 ?_
  refine lj_i (va_runV (As := [.int (xs (i + 1)), .int (xs (i + 2)), .int (xs (i + 3)), .int (xs (i + 4)), .int (xs (i + 5))]) (rest := [.int r1]) ⟨hx, hb, hml, hown, hts⟩ (kM_copy l D k Mm hE hI.2.1 (xs (i + 1)) (xs (i + 2)) (xs (i + 3)) (xs (i + 4)) (xs (i + 5)) _) (cwV 5 hts (bw_V bw_460 bw_461 bw_462 bw_2 bw_463) rfl rfl rfl (by decide +kernel) ⟨Nat.le_of_ble_eq_true rfl, Nat.le_of_ble_eq_true rfl⟩) (mp_preV J.1 hE.1 rfl _) rfl rfl hl.1 rfl (lv_room (Nat.le_of_ble_eq_true rfl)) dL_law_581 ⟨show _ + 0 ≤ 434553 by omega, show _ + 0 ≤ 7792446 by omega⟩) J (fun r2 M2 H locs hp2 J => ?_)
  have J := J.rot
  have hq : r1 = r2 ∧ LSt k d mo M1 M2 := by
    rcases hp1 with ⟨g1, rfl, x1, y1, a1, b1, n1, hx1, hy1, ha1, hb1, hn1, hD1⟩ | ⟨g1, rfl, rfl⟩
    · rcases hp2 with ⟨g2, rfl, x2, y2, a2, b2, n2, hx2, hy2, ha2, hb2, hn2, hE1⟩ | ⟨g2, rfl, hE1⟩
      · obtain rfl : x1 = x2 := by omega
        obtain rfl : y1 = y2 := by omega
        obtain rfl : a1 = a2 := by omega
        obtain rfl : b1 = b2 := by omega
        obtain rfl : n1 = n2 := by omega
        rw [hx1, hy1, ha1, hb1, hn1, Int.toNat_natCast, Int.toNat_natCast] at g1
        exact ⟨rfl, LSt.mk hD1 hE1 (hI.copy (by omega) (by omega) g1.2.2.2.2.1 g1.2.2.2.2.2.1 (by omega) (by omega))⟩
      · exact absurd g1 g2
    · rcases hp2 with ⟨g2, rfl, x2, y2, a2, b2, n2, hx2, hy2, ha2, hb2, hn2, hE1⟩ | ⟨g2, rfl, hE1⟩
      · exact absurd g2 g1
      · exact ⟨rfl, LSt.mk hD hE1 hI⟩
  obtain ⟨hqr, hZ⟩ := hq
  refine lv_icmp_eq (tgt := 689) hx hb dL_law_584 (by decide) (fun _ => ?_) (fun c => absurd hqr c)
  refine W.widen (k := cells + 2) (n := slots + 4002) (by omega) (by omega) ?_
  exact kk _ _ _ ⟨_, _, _, J, hZ, hl⟩
set_option maxHeartbeats 4000000 in
set_option maxRecDepth 100000 in
theorem lc_meet {p : Program} {l : Launch} {e : Env} {s : State} {m : MethodId} {below : List Frame} {meth : Method} {c : Code} {Q : State → Prop} {b L : Nat} {xs : Nat → Int32} (C0 : lw_At p s m meth c b L xs) {D : va_G} {k : Nat → ClassId} {d mo o i cells slots : Nat} {H : Heap} {locs : List Loc} {ls : Array Slot} (hL : L ≤ 3584) (hi : i + 7 ≤ L) (hc : cells + 2 ≤ 434553) (hs : slots + 4002 ≤ 7792446) (Z : LWd D k s b d mo o i H locs ls)
    (kk : ∀ (H : Heap) (locs : List Loc) (ls : Array Slot), LWd D k s b d mo o i H locs ls → W p l e room_1 s m #[Value.ref b] below meth c H locs (cells + 2) (slots + 4002) Q (F0 m 689 ls [])) :
    W p l e room_1 s m #[Value.ref b] below meth c H locs cells slots Q (F0 m 589 ls []) := by
  obtain ⟨hx, hb, hr, hml, hown, hts0, hX, hbl, hlocks, hgv⟩ := C0
  have hts : ∀ w ∈ bw, w.before #[Value.ref b] s = true := fun w h => hts0 w (bw_in h)
  have hown : s.vm.findClass "PlaceDeskLaw" = some m.cls := hown
  have hbA : ¬ (fun q : Nat => s.heap.size ≤ q) b := Nat.not_le.mpr hbl
  obtain ⟨Md, Mm, ov, J, hZ, hl⟩ := Z
  obtain ⟨av, ak, at_, aw, as_, an, qt, qs, qn, sa, ra, ec, tc, wc, sc, nc, va, kd, wt, tk, tf, tz, sk, sf, sw, sl, nn, nv, el, ek, bg, sz, kn, rw, pp, pk, wd, lo, kp, ks, th, mk, ml, hD, hE, hI⟩ := hZ
  refine lv_aload_n hx hb dL_law_589 rfl (lv_at hl 1 rfl) ?_
  refine lv_aload_n hx hb dL_law_590 rfl (lv_at hl 0 rfl) ?_
  refine lv_iload hx hb dL_law_591 (lv_at hl 4 rfl) ?_
  refine lv_iconst (v := nI 1) hx hb dL_law_593 (by decide) ?_
  refine zz_iadd hx hb dL_law_594 ?_
  refine lj_sld hx hb hX hbl hbA J.1.2.2.1 (n := i + 1) (by omega) hL dL_law_595 ?_
  refine lv_aload_n hx hb dL_law_596 rfl (lv_at hl 0 rfl) ?_
  refine lv_iload hx hb dL_law_597 (lv_at hl 4 rfl) ?_
  refine lv_iconst (v := nI 2) hx hb dL_law_599 (by decide) ?_
  refine zz_iadd hx hb dL_law_600 ?_
  refine lj_sld hx hb hX hbl hbA J.1.2.2.1 (n := i + 2) (by omega) hL dL_law_601 ?_
  refine lj_i (va_runV (As := [.int (xs (i + 1)), .int (xs (i + 2))]) (rest := []) ⟨hx, hb, hml, hown, hts⟩ (kD_meet l D k Md hD hI.1 (xs (i + 1)) (xs (i + 2)) _) (cwV 2 hts (bw_V bw_167 bw_168 bw_169 bw_1 bw_170) rfl rfl rfl (by decide +kernel) ⟨Nat.le_of_ble_eq_true rfl, Nat.le_of_ble_eq_true rfl⟩) (mp_preV J.1 hD.1 rfl _) rfl rfl hl.1 rfl (lv_room (Nat.le_of_ble_eq_true rfl)) dL_law_602 ⟨show _ + 0 ≤ 434553 by omega, show _ + 0 ≤ 7792446 by omega⟩) J (fun r1 M1 H locs hp1 J => ?_)
  have J := J.rot
  refine lv_aload_n hx hb dL_law_605 rfl (lv_at hl 2 rfl) ?_
  refine lv_aload_n hx hb dL_law_606 rfl (lv_at hl 0 rfl) ?_
  refine lv_iload hx hb dL_law_607 (lv_at hl 4 rfl) ?_
  refine lv_iconst (v := nI 1) hx hb dL_law_609 (by decide) ?_
  refine zz_iadd hx hb dL_law_610 ?_
  refine lj_sld hx hb hX hbl hbA J.1.2.2.1 (n := i + 1) (by omega) hL dL_law_611 ?_
  refine lv_aload_n hx hb dL_law_612 rfl (lv_at hl 0 rfl) ?_
  refine lv_iload hx hb dL_law_613 (lv_at hl 4 rfl) ?_
  refine lv_iconst (v := nI 2) hx hb dL_law_615 (by decide) ?_
  refine zz_iadd hx hb dL_law_616 ?_
  refine lj_sld hx hb hX hbl hbA J.1.2.2.1 (n := i + 2) (by omega) hL dL_law_617 ?_
  refine lj_i (va_runV (As := [.int (xs (i + 1)), .int (xs (i + 2))]) (rest := [.int r1]) ⟨hx, hb, hml, hown, hts⟩ (kM_meet l D k Mm hE hI.2.1 (xs (i + 1)) (xs (i + 2)) _) (cwV 2 hts (bw_V bw_464 bw_465 bw_466 bw_2 bw_467) rfl rfl rfl (by decide +kernel) ⟨Nat.le_of_ble_eq_true rfl, Nat.le_of_ble_eq_true rfl⟩) (mp_preV J.1 hE.1 rfl _) rfl rfl hl.1 rfl (lv_room (Nat.le_of_ble_eq_true rfl)) dL_law_618 ⟨show _ + 0 ≤ 434553 by omega, show _ + 0 ≤ 7792446 by omega⟩) J (fun r2 M2 H locs hp2 J => ?_)
  have J := J.rot
  have hq : r1 = r2 ∧ LSt k d mo M1 M2 := by
    obtain ⟨rfl, hp1⟩ := hp1
    obtain ⟨hp2, hE1⟩ := hp2
    refine ⟨?_, LSt.mk hD hE1 hI⟩
    rcases hp1 with ⟨g1, rfl⟩ | ⟨g1, rfl⟩ <;> rcases hp2 with ⟨g2, rfl⟩ | ⟨g2, rfl⟩
    · rfl
    · exact absurd g1 g2
    · exact absurd g2 g1
    · rfl
  obtain ⟨hqr, hZ⟩ := hq
  refine lv_icmp_eq (tgt := 689) hx hb dL_law_621 (by decide) (fun _ => ?_) (fun c => absurd hqr c)
  refine W.widen (k := cells + 2) (n := slots + 4002) (by omega) (by omega) ?_
  exact kk _ _ _ ⟨_, _, _, J, hZ, hl⟩
set_option maxHeartbeats 4000000 in
set_option maxRecDepth 100000 in
theorem lc_mark {p : Program} {l : Launch} {e : Env} {s : State} {m : MethodId} {below : List Frame} {meth : Method} {c : Code} {Q : State → Prop} {b L : Nat} {xs : Nat → Int32} (C0 : lw_At p s m meth c b L xs) {D : va_G} {k : Nat → ClassId} {d mo o i cells slots : Nat} {H : Heap} {locs : List Loc} {ls : Array Slot} (hL : L ≤ 3584) (hi : i + 7 ≤ L) (hc : cells + 2 ≤ 434553) (hs : slots + 4002 ≤ 7792446) (Z : LWd D k s b d mo o i H locs ls)
    (kk : ∀ (H : Heap) (locs : List Loc) (ls : Array Slot), LWd D k s b d mo o i H locs ls → W p l e room_1 s m #[Value.ref b] below meth c H locs (cells + 2) (slots + 4002) Q (F0 m 689 ls [])) :
    W p l e room_1 s m #[Value.ref b] below meth c H locs cells slots Q (F0 m 626 ls []) := by
  obtain ⟨hx, hb, hr, hml, hown, hts0, hX, hbl, hlocks, hgv⟩ := C0
  have hts : ∀ w ∈ bw, w.before #[Value.ref b] s = true := fun w h => hts0 w (bw_in h)
  have hown : s.vm.findClass "PlaceDeskLaw" = some m.cls := hown
  have hbA : ¬ (fun q : Nat => s.heap.size ≤ q) b := Nat.not_le.mpr hbl
  obtain ⟨Md, Mm, ov, J, hZ, hl⟩ := Z
  obtain ⟨av, ak, at_, aw, as_, an, qt, qs, qn, sa, ra, ec, tc, wc, sc, nc, va, kd, wt, tk, tf, tz, sk, sf, sw, sl, nn, nv, el, ek, bg, sz, kn, rw, pp, pk, wd, lo, kp, ks, th, mk, ml, hD, hE, hI⟩ := hZ
  refine lv_aload_n hx hb dL_law_626 rfl (lv_at hl 1 rfl) ?_
  refine lj_i (va_runV (As := []) (rest := []) ⟨hx, hb, hml, hown, hts⟩ (kD_mark l D k Md hD hI.1 _) (cwV 0 hts (bw_V bw_175 bw_176 bw_177 bw_1 bw_178) rfl rfl rfl (by decide +kernel) ⟨Nat.le_of_ble_eq_true rfl, Nat.le_of_ble_eq_true rfl⟩) (mp_preV J.1 hD.1 rfl _) rfl rfl hl.1 rfl (lv_room (Nat.le_of_ble_eq_true rfl)) dL_law_627 ⟨show _ + 2 ≤ 434553 by omega, show _ + 4002 ≤ 7792446 by omega⟩) J (fun r1 M1 H locs hp1 J => ?_)
  have J := J.rot
  refine lv_aload_n hx hb dL_law_630 rfl (lv_at hl 2 rfl) ?_
  refine lj_i (va_runV (As := []) (rest := [.int r1]) ⟨hx, hb, hml, hown, hts⟩ (kM_mark l D k Mm hE hI.2.1 _) (cwV 0 hts (bw_V bw_468 bw_469 bw_470 bw_2 bw_471) rfl rfl rfl (by decide +kernel) ⟨Nat.le_of_ble_eq_true rfl, Nat.le_of_ble_eq_true rfl⟩) (mp_preV J.1 hE.1 rfl _) rfl rfl hl.1 rfl (lv_room (Nat.le_of_ble_eq_true rfl)) dL_law_631 ⟨show _ + 0 ≤ 434553 by omega, show _ + 0 ≤ 7792446 by omega⟩) J (fun r2 M2 H locs hp2 J => ?_)
  have J := J.rot
  have hq : r1 = r2 ∧ LSt k d mo M1 M2 := by
    rcases hp1 with ⟨g1, rfl, qn2, sa2, ra2, hD1⟩ | ⟨g1, rfl, rfl⟩
    · rcases hp2 with ⟨g2, rfl, hE1⟩ | ⟨g2, rfl, hE1⟩
      · exact ⟨rfl, LSt.mk hD1 hE1 (hI.mark g1)⟩
      · exact absurd g1 g2
    · rcases hp2 with ⟨g2, rfl, hE1⟩ | ⟨g2, rfl, hE1⟩
      · exact absurd g2 g1
      · exact ⟨rfl, LSt.mk hD hE1 hI⟩
  obtain ⟨hqr, hZ⟩ := hq
  refine lv_icmp_eq (tgt := 689) hx hb dL_law_634 (by decide) (fun _ => ?_) (fun c => absurd hqr c)
  refine W.widen (k := cells + 2) (n := slots + 4002) (by omega) (by omega) ?_
  exact kk _ _ _ ⟨_, _, _, J, hZ, hl⟩
set_option maxHeartbeats 4000000 in
set_option maxRecDepth 100000 in
theorem lc_back {p : Program} {l : Launch} {e : Env} {s : State} {m : MethodId} {below : List Frame} {meth : Method} {c : Code} {Q : State → Prop} {b L : Nat} {xs : Nat → Int32} (C0 : lw_At p s m meth c b L xs) {D : va_G} {k : Nat → ClassId} {d mo o i cells slots : Nat} {H : Heap} {locs : List Loc} {ls : Array Slot} (hL : L ≤ 3584) (hi : i + 7 ≤ L) (hc : cells + 2 ≤ 434553) (hs : slots + 4002 ≤ 7792446) (Z : LWd D k s b d mo o i H locs ls)
    (kk : ∀ (H : Heap) (locs : List Loc) (ls : Array Slot), LWd D k s b d mo o i H locs ls → W p l e room_1 s m #[Value.ref b] below meth c H locs (cells + 2) (slots + 4002) Q (F0 m 689 ls [])) :
    W p l e room_1 s m #[Value.ref b] below meth c H locs cells slots Q (F0 m 639 ls []) := by
  obtain ⟨hx, hb, hr, hml, hown, hts0, hX, hbl, hlocks, hgv⟩ := C0
  have hts : ∀ w ∈ bw, w.before #[Value.ref b] s = true := fun w h => hts0 w (bw_in h)
  have hown : s.vm.findClass "PlaceDeskLaw" = some m.cls := hown
  have hbA : ¬ (fun q : Nat => s.heap.size ≤ q) b := Nat.not_le.mpr hbl
  obtain ⟨Md, Mm, ov, J, hZ, hl⟩ := Z
  obtain ⟨av, ak, at_, aw, as_, an, qt, qs, qn, sa, ra, ec, tc, wc, sc, nc, va, kd, wt, tk, tf, tz, sk, sf, sw, sl, nn, nv, el, ek, bg, sz, kn, rw, pp, pk, wd, lo, kp, ks, th, mk, ml, hD, hE, hI⟩ := hZ
  refine lv_aload_n hx hb dL_law_639 rfl (lv_at hl 1 rfl) ?_
  refine lv_aload_n hx hb dL_law_640 rfl (lv_at hl 0 rfl) ?_
  refine lv_iload hx hb dL_law_641 (lv_at hl 4 rfl) ?_
  refine lv_iconst (v := nI 1) hx hb dL_law_643 (by decide) ?_
  refine zz_iadd hx hb dL_law_644 ?_
  refine lj_sld hx hb hX hbl hbA J.1.2.2.1 (n := i + 1) (by omega) hL dL_law_645 ?_
  refine lj_i (va_runV (As := [.int (xs (i + 1))]) (rest := []) ⟨hx, hb, hml, hown, hts⟩ (kD_back l D k Md hD hI.1 (xs (i + 1)) _) (cwV 1 hts (bw_V bw_196 bw_197 bw_198 bw_1 bw_199) rfl rfl rfl (by decide +kernel) ⟨Nat.le_of_ble_eq_true rfl, Nat.le_of_ble_eq_true rfl⟩) (mp_preV J.1 hD.1 rfl _) rfl rfl hl.1 rfl (lv_room (Nat.le_of_ble_eq_true rfl)) dL_law_646 ⟨show _ + 0 ≤ 434553 by omega, show _ + 0 ≤ 7792446 by omega⟩) J (fun r1 M1 H locs hp1 J => ?_)
  have J := J.rot
  refine lv_aload_n hx hb dL_law_649 rfl (lv_at hl 2 rfl) ?_
  refine lv_aload_n hx hb dL_law_650 rfl (lv_at hl 0 rfl) ?_
  refine lv_iload hx hb dL_law_651 (lv_at hl 4 rfl) ?_
  refine lv_iconst (v := nI 1) hx hb dL_law_653 (by decide) ?_
  refine zz_iadd hx hb dL_law_654 ?_
  refine lj_sld hx hb hX hbl hbA J.1.2.2.1 (n := i + 1) (by omega) hL dL_law_655 ?_
  refine lj_i (va_runV (As := [.int (xs (i + 1))]) (rest := [.int r1]) ⟨hx, hb, hml, hown, hts⟩ (kM_back l D k Mm hE hI.2.1 (xs (i + 1)) _) (cwV 1 hts (bw_V bw_472 bw_473 bw_474 bw_2 bw_475) rfl rfl rfl (by decide +kernel) ⟨Nat.le_of_ble_eq_true rfl, Nat.le_of_ble_eq_true rfl⟩) (mp_preV J.1 hE.1 rfl _) rfl rfl hl.1 rfl (lv_room (Nat.le_of_ble_eq_true rfl)) dL_law_656 ⟨show _ + 0 ≤ 434553 by omega, show _ + 0 ≤ 7792446 by omega⟩) J (fun r2 M2 H locs hp2 J => ?_)
  have J := J.rot
  have hq : r1 = r2 ∧ LSt k d mo M1 M2 := by
    rcases hp1 with ⟨g1, x1, hx1, rfl, hD1⟩ | ⟨g1, rfl, rfl⟩
    · rcases hp2 with ⟨g2, x2, hx2, rfl, hE1⟩ | ⟨g2, rfl, hE1⟩
      · obtain rfl : x1 = x2 := by omega
        have hlt : x1 < nc := by omega
        rw [hI.bk_eq hlt] at hE1
        exact ⟨by rw [hI.df_eq hlt], LSt.mk hD1 hE1 (hI.back hlt)⟩
      · exact absurd g1 g2
    · rcases hp2 with ⟨g2, x2, hx2, rfl, hE1⟩ | ⟨g2, rfl, hE1⟩
      · exact absurd g2 g1
      · exact ⟨rfl, LSt.mk hD hE1 hI⟩
  obtain ⟨hqr, hZ⟩ := hq
  refine lv_icmp_eq (tgt := 689) hx hb dL_law_659 (by decide) (fun _ => ?_) (fun c => absurd hqr c)
  refine W.widen (k := cells + 2) (n := slots + 4002) (by omega) (by omega) ?_
  exact kk _ _ _ ⟨_, _, _, J, hZ, hl⟩
set_option maxHeartbeats 4000000 in
set_option maxRecDepth 100000 in
theorem lc_changed {p : Program} {l : Launch} {e : Env} {s : State} {m : MethodId} {below : List Frame} {meth : Method} {c : Code} {Q : State → Prop} {b L : Nat} {xs : Nat → Int32} (C0 : lw_At p s m meth c b L xs) {D : va_G} {k : Nat → ClassId} {d mo o i cells slots : Nat} {H : Heap} {locs : List Loc} {ls : Array Slot} (hL : L ≤ 3584) (hi : i + 7 ≤ L) (hc : cells + 2 ≤ 434553) (hs : slots + 4002 ≤ 7792446) (Z : LWd D k s b d mo o i H locs ls)
    (kk : ∀ (H : Heap) (locs : List Loc) (ls : Array Slot), LWd D k s b d mo o i H locs ls → W p l e room_1 s m #[Value.ref b] below meth c H locs (cells + 2) (slots + 4002) Q (F0 m 689 ls [])) :
    W p l e room_1 s m #[Value.ref b] below meth c H locs cells slots Q (F0 m 664 ls []) := by
  obtain ⟨hx, hb, hr, hml, hown, hts0, hX, hbl, hlocks, hgv⟩ := C0
  have hts : ∀ w ∈ bw, w.before #[Value.ref b] s = true := fun w h => hts0 w (bw_in h)
  have hown : s.vm.findClass "PlaceDeskLaw" = some m.cls := hown
  have hbA : ¬ (fun q : Nat => s.heap.size ≤ q) b := Nat.not_le.mpr hbl
  obtain ⟨Md, Mm, ov, J, hZ, hl⟩ := Z
  obtain ⟨av, ak, at_, aw, as_, an, qt, qs, qn, sa, ra, ec, tc, wc, sc, nc, va, kd, wt, tk, tf, tz, sk, sf, sw, sl, nn, nv, el, ek, bg, sz, kn, rw, pp, pk, wd, lo, kp, ks, th, mk, ml, hD, hE, hI⟩ := hZ
  refine lv_aload_n hx hb dL_law_664 rfl (lv_at hl 1 rfl) ?_
  refine lv_aload_n hx hb dL_law_665 rfl (lv_at hl 0 rfl) ?_
  refine lv_iload hx hb dL_law_666 (lv_at hl 4 rfl) ?_
  refine lv_iconst (v := nI 1) hx hb dL_law_668 (by decide) ?_
  refine zz_iadd hx hb dL_law_669 ?_
  refine lj_sld hx hb hX hbl hbA J.1.2.2.1 (n := i + 1) (by omega) hL dL_law_670 ?_
  refine lj_i (va_runV (As := [.int (xs (i + 1))]) (rest := []) ⟨hx, hb, hml, hown, hts⟩ (kD_changed l D k Md hD hI.1 (xs (i + 1)) _) (cwV 1 hts (bw_V bw_212 bw_213 bw_214 bw_1 bw_215) rfl rfl rfl (by decide +kernel) ⟨Nat.le_of_ble_eq_true rfl, Nat.le_of_ble_eq_true rfl⟩) (mp_preV J.1 hD.1 rfl _) rfl rfl hl.1 rfl (lv_room (Nat.le_of_ble_eq_true rfl)) dL_law_671 ⟨show _ + 0 ≤ 434553 by omega, show _ + 0 ≤ 7792446 by omega⟩) J (fun r1 M1 H locs hp1 J => ?_)
  have J := J.rot
  refine lv_aload_n hx hb dL_law_674 rfl (lv_at hl 2 rfl) ?_
  refine lv_aload_n hx hb dL_law_675 rfl (lv_at hl 0 rfl) ?_
  refine lv_iload hx hb dL_law_676 (lv_at hl 4 rfl) ?_
  refine lv_iconst (v := nI 1) hx hb dL_law_678 (by decide) ?_
  refine zz_iadd hx hb dL_law_679 ?_
  refine lj_sld hx hb hX hbl hbA J.1.2.2.1 (n := i + 1) (by omega) hL dL_law_680 ?_
  refine lj_i (va_runV (As := [.int (xs (i + 1))]) (rest := [.int r1]) ⟨hx, hb, hml, hown, hts⟩ (kM_changed l D k Mm hE hI.2.1 (xs (i + 1)) _) (cwV 1 hts (bw_V bw_480 bw_481 bw_482 bw_2 bw_483) rfl rfl rfl (by decide +kernel) ⟨Nat.le_of_ble_eq_true rfl, Nat.le_of_ble_eq_true rfl⟩) (mp_preV J.1 hE.1 rfl _) rfl rfl hl.1 rfl (lv_room (Nat.le_of_ble_eq_true rfl)) dL_law_681 ⟨show _ + 0 ≤ 434553 by omega, show _ + 0 ≤ 7792446 by omega⟩) J (fun r2 M2 H locs hp2 J => ?_)
  have J := J.rot
  have hq : r1 = r2 ∧ LSt k d mo M1 M2 := by
    obtain ⟨rfl, e1⟩ := hp1
    obtain ⟨e2, hE1⟩ := hp2
    refine ⟨?_, LSt.mk hD hE1 hI⟩
    rw [e1, e2]
    by_cases h : 0 ≤ (xs (i + 1)).toInt ∧ (xs (i + 1)).toInt < (nc : Int)
    · rw [if_pos h, if_pos h, hI.df_eq (by omega)]
    · rw [if_neg h, if_neg h]
  obtain ⟨hqr, hZ⟩ := hq
  refine lv_icmp_eq (tgt := 689) hx hb dL_law_684 (by decide) (fun _ => ?_) (fun c => absurd hqr c)
  refine W.widen (k := cells + 2) (n := slots + 4002) (by omega) (by omega) ?_
  exact kk _ _ _ ⟨_, _, _, J, hZ, hl⟩
set_option maxHeartbeats 4000000 in
set_option maxRecDepth 100000 in
theorem lc_view {p : Program} {l : Launch} {e : Env} {s : State} {m : MethodId} {below : List Frame} {meth : Method} {c : Code} {Q : State → Prop} {b L : Nat} {xs : Nat → Int32} (C0 : lw_At p s m meth c b L xs) {D : va_G} {k : Nat → ClassId} {d mo o i cells slots : Nat} {H : Heap} {locs : List Loc} {ls : Array Slot} (hL : L ≤ 3584) (hi : i + 7 ≤ L) (hc : cells + 2 ≤ 434553) (hs : slots + 4002 ≤ 7792446) (Z : LWd D k s b d mo o i H locs ls)
    (kk : ∀ (H : Heap) (locs : List Loc) (ls : Array Slot), LWd D k s b d mo o i H locs ls → W p l e room_1 s m #[Value.ref b] below meth c H locs (cells + 2) (slots + 4002) Q (F0 m 689 ls [])) :
    W p l e room_1 s m #[Value.ref b] below meth c H locs cells slots Q (F0 m 257 ls []) := by
  obtain ⟨hx, hb, hr, hml, hown, hts0, hX, hbl, hlocks, hgv⟩ := C0
  have hts : ∀ w ∈ bw, w.before #[Value.ref b] s = true := fun w h => hts0 w (bw_in h)
  have hown : s.vm.findClass "PlaceDeskLaw" = some m.cls := hown
  have hbA : ¬ (fun q : Nat => s.heap.size ≤ q) b := Nat.not_le.mpr hbl
  obtain ⟨Md, Mm, ov, J, hZ, hl⟩ := Z
  obtain ⟨av, ak, at_, aw, as_, an, qt, qs, qn, sa, ra, ec, tc, wc, sc, nc, va, kd, wt, tk, tf, tz, sk, sf, sw, sl, nn, nv, el, ek, bg, sz, kn, rw, pp, pk, wd, lo, kp, ks, th, mk, ml, hD, hE, hI⟩ := hZ
  refine lv_aload_n hx hb dL_law_257 rfl (lv_at hl 1 rfl) ?_
  refine lv_aload_n hx hb dL_law_258 rfl (lv_at hl 0 rfl) ?_
  refine lv_iload hx hb dL_law_259 (lv_at hl 4 rfl) ?_
  refine lv_iconst (v := nI 1) hx hb dL_law_261 (by decide) ?_
  refine zz_iadd hx hb dL_law_262 ?_
  refine lj_sld hx hb hX hbl hbA J.1.2.2.1 (n := i + 1) (by omega) hL dL_law_263 ?_
  refine lv_aload_n hx hb dL_law_264 rfl (lv_at hl 0 rfl) ?_
  refine lv_iload hx hb dL_law_265 (lv_at hl 4 rfl) ?_
  refine lv_iconst (v := nI 2) hx hb dL_law_267 (by decide) ?_
  refine zz_iadd hx hb dL_law_268 ?_
  refine lj_sld hx hb hX hbl hbA J.1.2.2.1 (n := i + 2) (by omega) hL dL_law_269 ?_
  refine lv_aload_n hx hb dL_law_270 rfl (lv_at hl 0 rfl) ?_
  refine lv_iload hx hb dL_law_271 (lv_at hl 4 rfl) ?_
  refine lv_iconst (v := nI 3) hx hb dL_law_273 (by decide) ?_
  refine zz_iadd hx hb dL_law_274 ?_
  refine lj_sld hx hb hX hbl hbA J.1.2.2.1 (n := i + 3) (by omega) hL dL_law_275 ?_
  refine lv_aload_n hx hb dL_law_276 rfl (lv_at hl 0 rfl) ?_
  refine lv_iload hx hb dL_law_277 (lv_at hl 4 rfl) ?_
  refine lv_iconst (v := nI 4) hx hb dL_law_279 (by decide) ?_
  refine zz_iadd hx hb dL_law_280 ?_
  refine lj_sld hx hb hX hbl hbA J.1.2.2.1 (n := i + 4) (by omega) hL dL_law_281 ?_
  refine zz_if_eq (tgt := 289) hx hb rfl dL_law_282 (by decide) (fun hz => ?_) (fun hz => ?_)
  · refine lv_iconst (v := nI 0) hx hb dL_law_289 (by decide) ?_
    refine lj_i (va_runV (As := [.int (xs (i + 1)), .int (xs (i + 2)), .int (xs (i + 3)), .int (nI 0)]) (rest := []) ⟨hx, hb, hml, hown, hts⟩ (kD_view l D k Md hD hI.1 (xs (i + 1)) (xs (i + 2)) (xs (i + 3)) 0 (by omega) _) (cwV 4 hts (bw_V bw_148 bw_149 bw_150 bw_1 bw_151) rfl rfl rfl (by decide +kernel) ⟨Nat.le_of_ble_eq_true rfl, Nat.le_of_ble_eq_true rfl⟩) (mp_preV J.1 hD.1 rfl _) rfl rfl hl.1 rfl (lv_room (Nat.le_of_ble_eq_true rfl)) dL_law_290 ⟨show _ + 1 ≤ 434553 by omega, show _ + 4 ≤ 7792446 by omega⟩) J (fun r1 M1 H locs hp1 J => ?_)
    have J := J.rot
    refine lv_aload_n hx hb dL_law_293 rfl (lv_at hl 2 rfl) ?_
    refine lv_aload_n hx hb dL_law_294 rfl (lv_at hl 0 rfl) ?_
    refine lv_iload hx hb dL_law_295 (lv_at hl 4 rfl) ?_
    refine lv_iconst (v := nI 1) hx hb dL_law_297 (by decide) ?_
    refine zz_iadd hx hb dL_law_298 ?_
    refine lj_sld hx hb hX hbl hbA J.1.2.2.1 (n := i + 1) (by omega) hL dL_law_299 ?_
    refine lv_aload_n hx hb dL_law_300 rfl (lv_at hl 0 rfl) ?_
    refine lv_iload hx hb dL_law_301 (lv_at hl 4 rfl) ?_
    refine lv_iconst (v := nI 2) hx hb dL_law_303 (by decide) ?_
    refine zz_iadd hx hb dL_law_304 ?_
    refine lj_sld hx hb hX hbl hbA J.1.2.2.1 (n := i + 2) (by omega) hL dL_law_305 ?_
    refine lv_aload_n hx hb dL_law_306 rfl (lv_at hl 0 rfl) ?_
    refine lv_iload hx hb dL_law_307 (lv_at hl 4 rfl) ?_
    refine lv_iconst (v := nI 3) hx hb dL_law_309 (by decide) ?_
    refine zz_iadd hx hb dL_law_310 ?_
    refine lj_sld hx hb hX hbl hbA J.1.2.2.1 (n := i + 3) (by omega) hL dL_law_311 ?_
    refine lv_aload_n hx hb dL_law_312 rfl (lv_at hl 0 rfl) ?_
    refine lv_iload hx hb dL_law_313 (lv_at hl 4 rfl) ?_
    refine lv_iconst (v := nI 4) hx hb dL_law_315 (by decide) ?_
    refine zz_iadd hx hb dL_law_316 ?_
    refine lj_sld hx hb hX hbl hbA J.1.2.2.1 (n := i + 4) (by omega) hL dL_law_317 ?_
    refine zz_if_eq (tgt := 325) hx hb rfl dL_law_318 (by decide) (fun c => ?_) (fun c => absurd hz c)
    refine lv_iconst (v := nI 0) hx hb dL_law_325 (by decide) ?_
    refine lj_i (va_runV (As := [.int (xs (i + 1)), .int (xs (i + 2)), .int (xs (i + 3)), .int (nI 0)]) (rest := [.int r1]) ⟨hx, hb, hml, hown, hts⟩ (kM_view l D k Mm hE hI.2.1 (xs (i + 1)) (xs (i + 2)) (xs (i + 3)) 0 (by omega) _) (cwV 4 hts (bw_V bw_427 bw_428 bw_429 bw_2 bw_430) rfl rfl rfl (by decide +kernel) ⟨Nat.le_of_ble_eq_true rfl, Nat.le_of_ble_eq_true rfl⟩) (mp_preV J.1 hE.1 rfl _) rfl rfl hl.1 rfl (lv_room (Nat.le_of_ble_eq_true rfl)) dL_law_326 ⟨show _ + 0 ≤ 434553 by omega, show _ + 0 ≤ 7792446 by omega⟩) J (fun r2 M2 H locs hp2 J => ?_)
    have J := J.rot
    have hq : r1 = r2 ∧ LSt k d mo M1 M2 := by
      rcases hp1 with ⟨g1, rfl, x1, y1, z1, q, hx1, hy1, hz1, hD1⟩ | ⟨g1, rfl, rfl⟩
      · rcases hp2 with ⟨g2, rfl, x2, y2, z2, hx2, hy2, hz2, hE1⟩ | ⟨g2, rfl, hE1⟩
        · obtain rfl : x1 = x2 := by omega
          obtain rfl : y1 = y2 := by omega
          obtain rfl : z1 = z2 := by omega
          rw [hx1, hy1, hz1, Int.toNat_natCast] at g1
          rw [hz1] at hD1 hE1
          exact ⟨rfl, LSt.mk hD1 hE1 (hI.view g1.2.2.2.2.2.2 (by omega) g1.2.2.1 g1.2.2.2.1 (by omega) (by omega))⟩
        · exact absurd g1 g2
      · rcases hp2 with ⟨g2, rfl, x2, y2, z2, hx2, hy2, hz2, hE1⟩ | ⟨g2, rfl, hE1⟩
        · exact absurd g2 g1
        · exact ⟨rfl, LSt.mk hD hE1 hI⟩
    obtain ⟨hqr, hZ⟩ := hq
    refine lv_icmp_eq (tgt := 689) hx hb dL_law_329 (by decide) (fun _ => ?_) (fun c => absurd hqr c)
    refine W.widen (k := cells + 2) (n := slots + 4002) (by omega) (by omega) ?_
    exact kk _ _ _ ⟨_, _, _, J, hZ, hl⟩
  · refine lv_iconst (v := nI 1) hx hb dL_law_285 (by decide) ?_
    refine lv_goto (tgt := 290) hx hb dL_law_286 (by decide) ?_
    refine lj_i (va_runV (As := [.int (xs (i + 1)), .int (xs (i + 2)), .int (xs (i + 3)), .int (nI 1)]) (rest := []) ⟨hx, hb, hml, hown, hts⟩ (kD_view l D k Md hD hI.1 (xs (i + 1)) (xs (i + 2)) (xs (i + 3)) 1 (by omega) _) (cwV 4 hts (bw_V bw_148 bw_149 bw_150 bw_1 bw_151) rfl rfl rfl (by decide +kernel) ⟨Nat.le_of_ble_eq_true rfl, Nat.le_of_ble_eq_true rfl⟩) (mp_preV J.1 hD.1 rfl _) rfl rfl hl.1 rfl (lv_room (Nat.le_of_ble_eq_true rfl)) dL_law_290 ⟨show _ + 1 ≤ 434553 by omega, show _ + 4 ≤ 7792446 by omega⟩) J (fun r1 M1 H locs hp1 J => ?_)
    have J := J.rot
    refine lv_aload_n hx hb dL_law_293 rfl (lv_at hl 2 rfl) ?_
    refine lv_aload_n hx hb dL_law_294 rfl (lv_at hl 0 rfl) ?_
    refine lv_iload hx hb dL_law_295 (lv_at hl 4 rfl) ?_
    refine lv_iconst (v := nI 1) hx hb dL_law_297 (by decide) ?_
    refine zz_iadd hx hb dL_law_298 ?_
    refine lj_sld hx hb hX hbl hbA J.1.2.2.1 (n := i + 1) (by omega) hL dL_law_299 ?_
    refine lv_aload_n hx hb dL_law_300 rfl (lv_at hl 0 rfl) ?_
    refine lv_iload hx hb dL_law_301 (lv_at hl 4 rfl) ?_
    refine lv_iconst (v := nI 2) hx hb dL_law_303 (by decide) ?_
    refine zz_iadd hx hb dL_law_304 ?_
    refine lj_sld hx hb hX hbl hbA J.1.2.2.1 (n := i + 2) (by omega) hL dL_law_305 ?_
    refine lv_aload_n hx hb dL_law_306 rfl (lv_at hl 0 rfl) ?_
    refine lv_iload hx hb dL_law_307 (lv_at hl 4 rfl) ?_
    refine lv_iconst (v := nI 3) hx hb dL_law_309 (by decide) ?_
    refine zz_iadd hx hb dL_law_310 ?_
    refine lj_sld hx hb hX hbl hbA J.1.2.2.1 (n := i + 3) (by omega) hL dL_law_311 ?_
    refine lv_aload_n hx hb dL_law_312 rfl (lv_at hl 0 rfl) ?_
    refine lv_iload hx hb dL_law_313 (lv_at hl 4 rfl) ?_
    refine lv_iconst (v := nI 4) hx hb dL_law_315 (by decide) ?_
    refine zz_iadd hx hb dL_law_316 ?_
    refine lj_sld hx hb hX hbl hbA J.1.2.2.1 (n := i + 4) (by omega) hL dL_law_317 ?_
    refine zz_if_eq (tgt := 325) hx hb rfl dL_law_318 (by decide) (fun c => absurd c hz) (fun c => ?_)
    refine lv_iconst (v := nI 1) hx hb dL_law_321 (by decide) ?_
    refine lv_goto (tgt := 326) hx hb dL_law_322 (by decide) ?_
    refine lj_i (va_runV (As := [.int (xs (i + 1)), .int (xs (i + 2)), .int (xs (i + 3)), .int (nI 1)]) (rest := [.int r1]) ⟨hx, hb, hml, hown, hts⟩ (kM_view l D k Mm hE hI.2.1 (xs (i + 1)) (xs (i + 2)) (xs (i + 3)) 1 (by omega) _) (cwV 4 hts (bw_V bw_427 bw_428 bw_429 bw_2 bw_430) rfl rfl rfl (by decide +kernel) ⟨Nat.le_of_ble_eq_true rfl, Nat.le_of_ble_eq_true rfl⟩) (mp_preV J.1 hE.1 rfl _) rfl rfl hl.1 rfl (lv_room (Nat.le_of_ble_eq_true rfl)) dL_law_326 ⟨show _ + 0 ≤ 434553 by omega, show _ + 0 ≤ 7792446 by omega⟩) J (fun r2 M2 H locs hp2 J => ?_)
    have J := J.rot
    have hq : r1 = r2 ∧ LSt k d mo M1 M2 := by
      rcases hp1 with ⟨g1, rfl, x1, y1, z1, q, hx1, hy1, hz1, hD1⟩ | ⟨g1, rfl, rfl⟩
      · rcases hp2 with ⟨g2, rfl, x2, y2, z2, hx2, hy2, hz2, hE1⟩ | ⟨g2, rfl, hE1⟩
        · obtain rfl : x1 = x2 := by omega
          obtain rfl : y1 = y2 := by omega
          obtain rfl : z1 = z2 := by omega
          rw [hx1, hy1, hz1, Int.toNat_natCast] at g1
          rw [hz1] at hD1 hE1
          exact ⟨rfl, LSt.mk hD1 hE1 (hI.view g1.2.2.2.2.2.2 (by omega) g1.2.2.1 g1.2.2.2.1 (by omega) (by omega))⟩
        · exact absurd g1 g2
      · rcases hp2 with ⟨g2, rfl, x2, y2, z2, hx2, hy2, hz2, hE1⟩ | ⟨g2, rfl, hE1⟩
        · exact absurd g2 g1
        · exact ⟨rfl, LSt.mk hD hE1 hI⟩
    obtain ⟨hqr, hZ⟩ := hq
    refine lv_icmp_eq (tgt := 689) hx hb dL_law_329 (by decide) (fun _ => ?_) (fun c => absurd hqr c)
    refine W.widen (k := cells + 2) (n := slots + 4002) (by omega) (by omega) ?_
    exact kk _ _ _ ⟨_, _, _, J, hZ, hl⟩
